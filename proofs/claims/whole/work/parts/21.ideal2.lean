theorem mul99 {x y : Int} (h1 : 0 ≤ x) (h2 : x ≤ 9) (h3 : 0 ≤ y) (h4 : y ≤ 9) : 0 ≤ x * y ∧ x * y ≤ 81 := by
  have a1 := Int.mul_nonneg h1 h3
  have a2 := Int.mul_le_mul h2 h4 h3 (by omega : (0 : Int) ≤ 9)
  omega
def lowO (x y : Int) : Int := if x = -5 then y else if y = -5 then x else min x y
theorem sp_X9_lowerOf {G : tk_G} {M : tk_M} {x y : Int} : Spi G FX9_lowerOf [xI x, xI y] SF M (fun v M' => v = lowO x y ∧ M' = M) := by
  refine Spi.of _ mtX9_lowerOf nlX9_lowerOf (Nat.le_of_ble_eq_true rfl) ?_
  show Ok G FX9_lowerOf 0 [xI x, xI y] [] SF M 0 0 _
  refine tr_iload_n (pc := 0) dX9_lowerOf_0 rfl ?_
  refine tr_bipush (pc := 1) dX9_lowerOf_1 ⟨by decide, ⟨by decide, by decide⟩⟩ ?_
  refine tr_icmpne (pc := 3) (tgt := 8) dX9_lowerOf_3 (by decide) (fun c3 => ?_) (fun c3 => ?_)
  · skip
    refine tr_iload_n (pc := 8) dX9_lowerOf_8 rfl ?_
    refine tr_bipush (pc := 9) dX9_lowerOf_9 ⟨by decide, ⟨by decide, by decide⟩⟩ ?_
    refine tr_icmpne (pc := 11) (tgt := 18) dX9_lowerOf_11 (by decide) (fun c11 => ?_) (fun c11 => ?_)
    · skip
      refine tr_iload_n (pc := 18) dX9_lowerOf_18 rfl ?_
      refine tr_iload_n (pc := 19) dX9_lowerOf_19 rfl ?_
      refine tr_min (pc := 20) dX9_lowerOf_20 mm9_370 rfl (Nat.le_of_ble_eq_true rfl) (Nat.le_of_ble_eq_true rfl) ⟨(Nat.le_of_ble_eq_true rfl), (Nat.le_of_ble_eq_true rfl)⟩ ?_
      refine tr_ireti (pc := 23) dX9_lowerOf_23 rfl ?_
      refine ⟨?_, rfl⟩
      unfold lowO
      repeat' split
      all_goals omega
    · skip
      refine tr_iload_n (pc := 14) dX9_lowerOf_14 rfl ?_
      refine tr_goto (pc := 15) (tgt := 23) dX9_lowerOf_15 (by decide) ?_
      refine tr_ireti (pc := 23) dX9_lowerOf_23 rfl ?_
      refine ⟨?_, rfl⟩
      unfold lowO
      repeat' split
      all_goals omega
  · skip
    refine tr_iload_n (pc := 6) dX9_lowerOf_6 rfl ?_
    refine tr_ireti (pc := 7) dX9_lowerOf_7 rfl ?_
    refine ⟨?_, rfl⟩
    unfold lowO
    repeat' split
    all_goals omega
def ig_unk (h : List (Int × Int)) : Int → List (Int × Int) → Int
  | acc, [] => acc
  | acc, (p, q) :: t => ig_unk h (if ig_find p q 0 h < 0 then acc + 1 else acc) t
theorem sp_X3_countUnknownTo {G : tk_G} {M : tk_M} {r z : Int} {g h : List (Int × Int)} (hr : ig_s r) (hz : ig_s z) (hg : ig_at M r g) (hh : ig_at M z h) : Spi G FX3_countUnknownTo [xR r, xR z] SF M (fun v M' => v = ig_unk h 0 g ∧ M' = M) := by
  obtain ⟨r0, s0, s1, s2⟩ := hr
  have hz' := hz
  obtain ⟨z0, z1, z2, z3⟩ := hz
  refine Spi.of _ mtX3_countUnknownTo nlX3_countUnknownTo (Nat.le_of_ble_eq_true rfl) ?_
  show Ok G FX3_countUnknownTo 0 [xR r, xR z, xU, xU] [] SF M 0 0 _
  obtain ⟨hg, h6⟩ := hg
  have loop : ∀ (g : List (Int × Int)) (k acc : Int), 0 ≤ k → 0 ≤ acc → acc ≤ k → ig_seg (M (r + 1)) (M (r + 2)) (M r 2) k g → Ok G FX3_countUnknownTo 4 [xR r, xR z, xI acc, xI k] [] SF M 0 0 (tk_qi SF (fun v M' => v = ig_unk h acc g ∧ M' = M)) := by
    intro g
    induction g with
    | nil =>
      intro k acc hk ha hak hs
      have hs : k = M r 2 := hs
      refine tr_iload_n (pc := 4) dX3_countUnknownTo_4 rfl ?_
      refine tr_aload_n (pc := 5) dX3_countUnknownTo_5 rfl (by omega) ?_
      refine tr_geti (pc := 6) (ji := 2) dX3_countUnknownTo_6 fi3_18 rfl (by assumption) rfl ?_
      refine tr_icmpge (pc := 9) (tgt := 40) dX3_countUnknownTo_9 (by decide) (fun c9 => ?_) (fun c9 => absurd c9 (by omega))
      refine tr_iload_n (pc := 40) dX3_countUnknownTo_40 rfl ?_
      refine tr_ireti (pc := 41) dX3_countUnknownTo_41 rfl ?_
      exact ⟨rfl, rfl⟩
    | cons q t ih =>
      intro k acc hk ha hak hs
      obtain ⟨p, q⟩ := q
      obtain ⟨e1, e2, b1, b2, b3, b4, hlt, hs⟩ := hs
      refine tr_iload_n (pc := 4) dX3_countUnknownTo_4 rfl ?_
      refine tr_aload_n (pc := 5) dX3_countUnknownTo_5 rfl (by omega) ?_
      refine tr_geti (pc := 6) (ji := 2) dX3_countUnknownTo_6 fi3_18 rfl (by assumption) rfl ?_
      refine tr_icmpge (pc := 9) (tgt := 40) dX3_countUnknownTo_9 (by decide) (fun c9 => absurd c9 (by omega)) (fun c9 => ?_)
      refine tr_aload_n (pc := 12) dX3_countUnknownTo_12 rfl (by omega) ?_
      refine tr_aload_n (pc := 13) dX3_countUnknownTo_13 rfl (by omega) ?_
      refine tr_getr (pc := 14) (x := r + 1) dX3_countUnknownTo_14 fi3_9 rfl (by assumption) rfl ?_
      refine tr_iload_n (pc := 17) dX3_countUnknownTo_17 rfl ?_
      refine tr_ialdv (pc := 18) (x := p) dX3_countUnknownTo_18 (by assumption) (by omega) (by omega) (e1) ?_
      refine tr_aload_n (pc := 19) dX3_countUnknownTo_19 rfl (by omega) ?_
      refine tr_getr (pc := 20) (x := r + 2) dX3_countUnknownTo_20 fi3_15 rfl (by assumption) rfl ?_
      refine tr_iload_n (pc := 23) dX3_countUnknownTo_23 rfl ?_
      refine tr_ialdv (pc := 24) (x := q) dX3_countUnknownTo_24 (by assumption) (by omega) (by omega) (e2) ?_
      refine tr_cVi2 (pc := 25) dX3_countUnknownTo_25 mtX3_find lv3_22 rfl (by assumption) kc3 ⟨(Nat.le_of_ble_eq_true rfl), (Nat.le_of_ble_eq_true rfl)⟩ nlX3_find (Nat.le_of_ble_eq_true rfl) ⟨(Nat.le_of_ble_eq_true rfl), (Nat.le_of_ble_eq_true rfl)⟩ (sp_X3_find hz' hh) (fun r25 M25 h25 => ?_)
      obtain ⟨hr25, hM25⟩ := h25
      obtain rfl := hr25.symm
      obtain rfl := hM25.symm
      refine tr_ifge (pc := 28) (tgt := 34) dX3_countUnknownTo_28 (by decide) (fun c28 => ?_) (fun c28 => ?_)
      · skip
        refine tr_iinc (pc := 34) dX3_countUnknownTo_34 rfl rfl ⟨by omega, by omega⟩ ?_
        dsimp only [List.set]
        refine tr_goto (pc := 37) (tgt := 4) dX3_countUnknownTo_37 (by decide) ?_
        have h9 := ih (k + 1) (if ig_find p q 0 h < 0 then acc + 1 else acc) (by omega) (by split <;> omega) (by split <;> omega) hs
        first | rw [if_pos (by omega)] at h9 | rw [if_neg (by omega)] at h9
        unfold ig_unk
        first | rw [if_pos (by omega)] | rw [if_neg (by omega)]
        exact h9
      · skip
        refine tr_iinc (pc := 31) dX3_countUnknownTo_31 rfl rfl ⟨by omega, by omega⟩ ?_
        dsimp only [List.set]
        refine tr_iinc (pc := 34) dX3_countUnknownTo_34 rfl rfl ⟨by omega, by omega⟩ ?_
        dsimp only [List.set]
        refine tr_goto (pc := 37) (tgt := 4) dX3_countUnknownTo_37 (by decide) ?_
        have h9 := ih (k + 1) (if ig_find p q 0 h < 0 then acc + 1 else acc) (by omega) (by split <;> omega) (by split <;> omega) hs
        first | rw [if_pos (by omega)] at h9 | rw [if_neg (by omega)] at h9
        unfold ig_unk
        first | rw [if_pos (by omega)] | rw [if_neg (by omega)]
        exact h9
  refine tr_iconst (pc := 0) dX3_countUnknownTo_0 ⟨by decide, by decide⟩ ?_
  refine tr_istore_n (pc := 1) dX3_countUnknownTo_1 rfl (Nat.le_of_ble_eq_true rfl) ?_
  dsimp only [List.set]
  refine tr_iconst (pc := 2) dX3_countUnknownTo_2 ⟨by decide, by decide⟩ ?_
  refine tr_istore_n (pc := 3) dX3_countUnknownTo_3 rfl (Nat.le_of_ble_eq_true rfl) ?_
  dsimp only [List.set]
  exact loop g 0 0 (by omega) (by omega) (by omega) hg
def ig_in (a b : Int) : List (Int × Int) → Int
  | [] => 0
  | (p, q) :: t => if p ≤ a ∧ q ≤ b then 1 else ig_in a b t
theorem ig_in01 (a b : Int) (g : List (Int × Int)) : ig_in a b g = 0 ∨ ig_in a b g = 1 := by
  induction g with
  | nil => exact Or.inl rfl
  | cons q t ih => obtain ⟨p, q⟩ := q; unfold ig_in; split; exact Or.inr rfl; exact ih
theorem sp_X3_contains {G : tk_G} {M : tk_M} {r a b : Int} {g : List (Int × Int)} (hr : ig_s r) (hg : ig_at M r g) : Spi G FX3_contains [xR r, xI a, xI b] SF M (fun v M' => v = ig_in a b g ∧ M' = M) := by
  obtain ⟨r0, s0, s1, s2⟩ := hr
  refine Spi.of _ mtX3_contains nlX3_contains (Nat.le_of_ble_eq_true rfl) ?_
  show Ok G FX3_contains 0 [xR r, xI a, xI b, xU] [] SF M 0 0 _
  obtain ⟨hg, h6⟩ := hg
  have loop : ∀ (g : List (Int × Int)) (k : Int), 0 ≤ k → ig_seg (M (r + 1)) (M (r + 2)) (M r 2) k g → Ok G FX3_contains 2 [xR r, xI a, xI b, xI k] [] SF M 0 0 (tk_qi SF (fun v M' => v = ig_in a b g ∧ M' = M)) := by
    intro g
    induction g with
    | nil =>
      intro k hk hs
      have hs : k = M r 2 := hs
      refine tr_iload_n (pc := 2) dX3_contains_2 rfl ?_
      refine tr_aload_n (pc := 3) dX3_contains_3 rfl (by omega) ?_
      refine tr_geti (pc := 4) (ji := 2) dX3_contains_4 fi3_18 rfl (by assumption) rfl ?_
      refine tr_icmpge (pc := 7) (tgt := 38) dX3_contains_7 (by decide) (fun c7 => ?_) (fun c7 => absurd c7 (by omega))
      refine tr_iconst (pc := 38) dX3_contains_38 ⟨by decide, by decide⟩ ?_
      refine tr_iretz (pc := 39) dX3_contains_39 rfl (by omega) ?_
      exact ⟨rfl, rfl⟩
    | cons q t ih =>
      intro k hk hs
      obtain ⟨p, q⟩ := q
      obtain ⟨e1, e2, b1, b2, b3, b4, hlt, hs⟩ := hs
      refine tr_iload_n (pc := 2) dX3_contains_2 rfl ?_
      refine tr_aload_n (pc := 3) dX3_contains_3 rfl (by omega) ?_
      refine tr_geti (pc := 4) (ji := 2) dX3_contains_4 fi3_18 rfl (by assumption) rfl ?_
      refine tr_icmpge (pc := 7) (tgt := 38) dX3_contains_7 (by decide) (fun c7 => absurd c7 (by omega)) (fun c7 => ?_)
      refine tr_aload_n (pc := 10) dX3_contains_10 rfl (by omega) ?_
      refine tr_getr (pc := 11) (x := r + 1) dX3_contains_11 fi3_9 rfl (by assumption) rfl ?_
      refine tr_iload_n (pc := 14) dX3_contains_14 rfl ?_
      refine tr_ialdv (pc := 15) (x := p) dX3_contains_15 (by assumption) (by omega) (by omega) (e1) ?_
      refine tr_iload_n (pc := 16) dX3_contains_16 rfl ?_
      refine tr_icmpgt (pc := 17) (tgt := 32) dX3_contains_17 (by decide) (fun c17 => ?_) (fun c17 => ?_)
      · skip
        refine tr_iinc (pc := 32) dX3_contains_32 rfl rfl ⟨by omega, by omega⟩ ?_
        dsimp only [List.set]
        refine tr_goto (pc := 35) (tgt := 2) dX3_contains_35 (by decide) ?_
        have h9 := ih (k + 1) (by omega) hs
        unfold ig_in
        rw [if_neg (by omega)]
        exact h9
      · skip
        refine tr_aload_n (pc := 20) dX3_contains_20 rfl (by omega) ?_
        refine tr_getr (pc := 21) (x := r + 2) dX3_contains_21 fi3_15 rfl (by assumption) rfl ?_
        refine tr_iload_n (pc := 24) dX3_contains_24 rfl ?_
        refine tr_ialdv (pc := 25) (x := q) dX3_contains_25 (by assumption) (by omega) (by omega) (e2) ?_
        refine tr_iload_n (pc := 26) dX3_contains_26 rfl ?_
        refine tr_icmpgt (pc := 27) (tgt := 32) dX3_contains_27 (by decide) (fun c27 => ?_) (fun c27 => ?_)
        · skip
          refine tr_iinc (pc := 32) dX3_contains_32 rfl rfl ⟨by omega, by omega⟩ ?_
          dsimp only [List.set]
          refine tr_goto (pc := 35) (tgt := 2) dX3_contains_35 (by decide) ?_
          have h9 := ih (k + 1) (by omega) hs
          unfold ig_in
          rw [if_neg (by omega)]
          exact h9
        · skip
          refine tr_iconst (pc := 30) dX3_contains_30 ⟨by decide, by decide⟩ ?_
          refine tr_iretz (pc := 31) dX3_contains_31 rfl (by omega) ?_
          exact ⟨(if_pos (by omega)).symm, rfl⟩
  refine tr_iconst (pc := 0) dX3_contains_0 ⟨by decide, by decide⟩ ?_
  refine tr_istore_n (pc := 1) dX3_contains_1 rfl (Nat.le_of_ble_eq_true rfl) ?_
  dsimp only [List.set]
  exact loop g 0 (by omega) hg
def ig_lst (k a b : Int) : Int → List (Int × Int) → Int
  | _, [] => 1
  | i, (p, q) :: t => if i ≠ k ∧ p ≤ a ∧ q ≤ b then 0 else ig_lst k a b (i + 1) t
theorem sp_X3_isLeast {G : tk_G} {M : tk_M} {r k a b : Int} {g : List (Int × Int)} (hr : ig_s r) (hg : ig_at M r g) (hk0 : 0 ≤ k) (hk1 : k < M r 2) (ha : M (r + 1) k = a) (hb : M (r + 2) k = b) : Spi G FX3_isLeast [xR r, xI k] SF M (fun v M' => v = ig_lst k a b 0 g ∧ M' = M) := by
  have hr' := hr
  obtain ⟨r0, s0, s1, s2⟩ := hr
  refine Spi.of _ mtX3_isLeast nlX3_isLeast (Nat.le_of_ble_eq_true rfl) ?_
  show Ok G FX3_isLeast 0 [xR r, xI k, xU, xU, xU] [] SF M 0 0 _
  obtain ⟨hg, h6⟩ := hg
  have loop : ∀ (g : List (Int × Int)) (i : Int), 0 ≤ i → ig_seg (M (r + 1)) (M (r + 2)) (M r 2) i g → Ok G FX3_isLeast 15 [xR r, xI k, xI a, xI b, xI i] [] SF M 0 0 (tk_qi SF (fun v M' => v = ig_lst k a b i g ∧ M' = M)) := by
    intro g
    induction g with
    | nil =>
      intro i hi hs
      have hs : i = M r 2 := hs
      refine tr_iload (pc := 15) dX3_isLeast_15 rfl ?_
      refine tr_aload_n (pc := 17) dX3_isLeast_17 rfl (by omega) ?_
      refine tr_geti (pc := 18) (ji := 2) dX3_isLeast_18 fi3_18 rfl (by assumption) rfl ?_
      refine tr_icmpge (pc := 21) (tgt := 60) dX3_isLeast_21 (by decide) (fun c21 => ?_) (fun c21 => absurd c21 (by omega))
      refine tr_iconst (pc := 60) dX3_isLeast_60 ⟨by decide, by decide⟩ ?_
      refine tr_iretz (pc := 61) dX3_isLeast_61 rfl (by omega) ?_
      exact ⟨rfl, rfl⟩
    | cons q t ih =>
      intro i hi hs
      obtain ⟨p, q⟩ := q
      obtain ⟨e1, e2, b1, b2, b3, b4, hlt, hs⟩ := hs
      refine tr_iload (pc := 15) dX3_isLeast_15 rfl ?_
      refine tr_aload_n (pc := 17) dX3_isLeast_17 rfl (by omega) ?_
      refine tr_geti (pc := 18) (ji := 2) dX3_isLeast_18 fi3_18 rfl (by assumption) rfl ?_
      refine tr_icmpge (pc := 21) (tgt := 60) dX3_isLeast_21 (by decide) (fun c21 => absurd c21 (by omega)) (fun c21 => ?_)
      refine tr_iload (pc := 24) dX3_isLeast_24 rfl ?_
      refine tr_iload_n (pc := 26) dX3_isLeast_26 rfl ?_
      refine tr_icmpeq (pc := 27) (tgt := 54) dX3_isLeast_27 (by decide) (fun c27 => ?_) (fun c27 => ?_)
      · skip
        refine tr_iinc (pc := 54) dX3_isLeast_54 rfl rfl ⟨by omega, by omega⟩ ?_
        dsimp only [List.set]
        refine tr_goto (pc := 57) (tgt := 15) dX3_isLeast_57 (by decide) ?_
        have h9 := ih (i + 1) (by omega) hs
        unfold ig_lst
        rw [if_neg (by omega)]
        exact h9
      · skip
        refine tr_aload_n (pc := 30) dX3_isLeast_30 rfl (by omega) ?_
        refine tr_getr (pc := 31) (x := r + 1) dX3_isLeast_31 fi3_9 rfl (by assumption) rfl ?_
        refine tr_iload (pc := 34) dX3_isLeast_34 rfl ?_
        refine tr_ialdv (pc := 36) (x := p) dX3_isLeast_36 (by assumption) (by omega) (by omega) (e1) ?_
        refine tr_iload_n (pc := 37) dX3_isLeast_37 rfl ?_
        refine tr_icmpgt (pc := 38) (tgt := 54) dX3_isLeast_38 (by decide) (fun c38 => ?_) (fun c38 => ?_)
        · skip
          refine tr_iinc (pc := 54) dX3_isLeast_54 rfl rfl ⟨by omega, by omega⟩ ?_
          dsimp only [List.set]
          refine tr_goto (pc := 57) (tgt := 15) dX3_isLeast_57 (by decide) ?_
          have h9 := ih (i + 1) (by omega) hs
          unfold ig_lst
          rw [if_neg (by omega)]
          exact h9
        · skip
          refine tr_aload_n (pc := 41) dX3_isLeast_41 rfl (by omega) ?_
          refine tr_getr (pc := 42) (x := r + 2) dX3_isLeast_42 fi3_15 rfl (by assumption) rfl ?_
          refine tr_iload (pc := 45) dX3_isLeast_45 rfl ?_
          refine tr_ialdv (pc := 47) (x := q) dX3_isLeast_47 (by assumption) (by omega) (by omega) (e2) ?_
          refine tr_iload_n (pc := 48) dX3_isLeast_48 rfl ?_
          refine tr_icmpgt (pc := 49) (tgt := 54) dX3_isLeast_49 (by decide) (fun c49 => ?_) (fun c49 => ?_)
          · skip
            refine tr_iinc (pc := 54) dX3_isLeast_54 rfl rfl ⟨by omega, by omega⟩ ?_
            dsimp only [List.set]
            refine tr_goto (pc := 57) (tgt := 15) dX3_isLeast_57 (by decide) ?_
            have h9 := ih (i + 1) (by omega) hs
            unfold ig_lst
            rw [if_neg (by omega)]
            exact h9
          · skip
            refine tr_iconst (pc := 52) dX3_isLeast_52 ⟨by decide, by decide⟩ ?_
            refine tr_iretz (pc := 53) dX3_isLeast_53 rfl (by omega) ?_
            exact ⟨(if_pos (by omega)).symm, rfl⟩
  refine tr_aload_n (pc := 0) dX3_isLeast_0 rfl (by omega) ?_
  refine tr_iload_n (pc := 1) dX3_isLeast_1 rfl ?_
  refine tr_cVi1 (pc := 2) dX3_isLeast_2 mtX3_powerA lv3_38 rfl (by assumption) kc3 ⟨(Nat.le_of_ble_eq_true rfl), (Nat.le_of_ble_eq_true rfl)⟩ nlX3_powerA (Nat.le_of_ble_eq_true rfl) ⟨(Nat.le_of_ble_eq_true rfl), (Nat.le_of_ble_eq_true rfl)⟩ (sp_X3_powerA hr' h6) (fun r2 M2 h2 => ?_)
  rw [if_pos ⟨hk0, hk1⟩, ha] at h2
  obtain ⟨hr2, hM2⟩ := h2
  obtain rfl := hr2.symm
  obtain rfl := hM2.symm
  refine tr_istore_n (pc := 5) dX3_isLeast_5 rfl (Nat.le_of_ble_eq_true rfl) ?_
  dsimp only [List.set]
  refine tr_aload_n (pc := 6) dX3_isLeast_6 rfl (by omega) ?_
  refine tr_iload_n (pc := 7) dX3_isLeast_7 rfl ?_
  refine tr_cVi1 (pc := 8) dX3_isLeast_8 mtX3_powerB lv3_42 rfl (by assumption) kc3 ⟨(Nat.le_of_ble_eq_true rfl), (Nat.le_of_ble_eq_true rfl)⟩ nlX3_powerB (Nat.le_of_ble_eq_true rfl) ⟨(Nat.le_of_ble_eq_true rfl), (Nat.le_of_ble_eq_true rfl)⟩ (sp_X3_powerB hr' h6) (fun r8 M8 h8 => ?_)
  rw [if_pos ⟨hk0, hk1⟩, hb] at h8
  obtain ⟨hr8, hM8⟩ := h8
  obtain rfl := hr8.symm
  obtain rfl := hM8.symm
  refine tr_istore_n (pc := 11) dX3_isLeast_11 rfl (Nat.le_of_ble_eq_true rfl) ?_
  dsimp only [List.set]
  refine tr_iconst (pc := 12) dX3_isLeast_12 ⟨by decide, by decide⟩ ?_
  refine tr_istore (pc := 13) dX3_isLeast_13 rfl (Nat.le_of_ble_eq_true rfl) ?_
  dsimp only [List.set]
  exact loop g 0 (by omega) hg
def ig_cl (g : List (Int × Int)) : Int → Int → List (Int × Int) → Int
  | _, acc, [] => acc
  | k, acc, (p, q) :: t => ig_cl g (k + 1) (if ig_lst k p q 0 g = 0 then acc else acc + 1) t
theorem sp_X3_countLeast {G : tk_G} {M : tk_M} {r : Int} {g : List (Int × Int)} (hr : ig_s r) (hg : ig_at M r g) : Spi G FX3_countLeast [xR r] SF M (fun v M' => v = ig_cl g 0 0 g ∧ M' = M) := by
  have hr' := hr
  have hg' := hg
  obtain ⟨r0, s0, s1, s2⟩ := hr
  refine Spi.of _ mtX3_countLeast nlX3_countLeast (Nat.le_of_ble_eq_true rfl) ?_
  show Ok G FX3_countLeast 0 [xR r, xU, xU] [] SF M 0 0 _
  obtain ⟨hg, h6⟩ := hg
  have loop : ∀ (g' : List (Int × Int)) (k acc : Int), 0 ≤ k → 0 ≤ acc → acc ≤ k → ig_seg (M (r + 1)) (M (r + 2)) (M r 2) k g' → Ok G FX3_countLeast 4 [xR r, xI acc, xI k] [] SF M 0 0 (tk_qi SF (fun v M' => v = ig_cl g k acc g' ∧ M' = M)) := by
    intro g'
    induction g' with
    | nil =>
      intro k acc hk ha hak hs
      have hs : k = M r 2 := hs
      refine tr_iload_n (pc := 4) dX3_countLeast_4 rfl ?_
      refine tr_aload_n (pc := 5) dX3_countLeast_5 rfl (by omega) ?_
      refine tr_geti (pc := 6) (ji := 2) dX3_countLeast_6 fi3_18 rfl (by assumption) rfl ?_
      refine tr_icmpge (pc := 9) (tgt := 29) dX3_countLeast_9 (by decide) (fun c9 => ?_) (fun c9 => absurd c9 (by omega))
      refine tr_iload_n (pc := 29) dX3_countLeast_29 rfl ?_
      refine tr_ireti (pc := 30) dX3_countLeast_30 rfl ?_
      exact ⟨rfl, rfl⟩
    | cons q t ih =>
      intro k acc hk ha hak hs
      obtain ⟨p, q⟩ := q
      obtain ⟨e1, e2, b1, b2, b3, b4, hlt, hs⟩ := hs
      refine tr_iload_n (pc := 4) dX3_countLeast_4 rfl ?_
      refine tr_aload_n (pc := 5) dX3_countLeast_5 rfl (by omega) ?_
      refine tr_geti (pc := 6) (ji := 2) dX3_countLeast_6 fi3_18 rfl (by assumption) rfl ?_
      refine tr_icmpge (pc := 9) (tgt := 29) dX3_countLeast_9 (by decide) (fun c9 => absurd c9 (by omega)) (fun c9 => ?_)
      refine tr_aload_n (pc := 12) dX3_countLeast_12 rfl (by omega) ?_
      refine tr_iload_n (pc := 13) dX3_countLeast_13 rfl ?_
      refine tr_cVi1 (pc := 14) dX3_countLeast_14 mtX3_isLeast lv3_45 rfl (by assumption) kc3 ⟨(Nat.le_of_ble_eq_true rfl), (Nat.le_of_ble_eq_true rfl)⟩ nlX3_isLeast (Nat.le_of_ble_eq_true rfl) ⟨(Nat.le_of_ble_eq_true rfl), (Nat.le_of_ble_eq_true rfl)⟩ (sp_X3_isLeast hr' hg' hk hlt e1 e2) (fun r14 M14 h14 => ?_)
      obtain ⟨hr14, hM14⟩ := h14
      obtain rfl := hr14.symm
      obtain rfl := hM14.symm
      refine tr_ifeq (pc := 17) (tgt := 23) dX3_countLeast_17 (by decide) (fun c17 => ?_) (fun c17 => ?_)
      · skip
        refine tr_iinc (pc := 23) dX3_countLeast_23 rfl rfl ⟨by omega, by omega⟩ ?_
        dsimp only [List.set]
        refine tr_goto (pc := 26) (tgt := 4) dX3_countLeast_26 (by decide) ?_
        have h9 := ih (k + 1) (if ig_lst k p q 0 g = 0 then acc else acc + 1) (by omega) (by split <;> omega) (by split <;> omega) hs
        first | rw [if_pos (by omega)] at h9 | rw [if_neg (by omega)] at h9
        unfold ig_cl
        first | rw [if_pos (by omega)] | rw [if_neg (by omega)]
        exact h9
      · skip
        refine tr_iinc (pc := 20) dX3_countLeast_20 rfl rfl ⟨by omega, by omega⟩ ?_
        dsimp only [List.set]
        refine tr_iinc (pc := 23) dX3_countLeast_23 rfl rfl ⟨by omega, by omega⟩ ?_
        dsimp only [List.set]
        refine tr_goto (pc := 26) (tgt := 4) dX3_countLeast_26 (by decide) ?_
        have h9 := ih (k + 1) (if ig_lst k p q 0 g = 0 then acc else acc + 1) (by omega) (by split <;> omega) (by split <;> omega) hs
        first | rw [if_pos (by omega)] at h9 | rw [if_neg (by omega)] at h9
        unfold ig_cl
        first | rw [if_pos (by omega)] | rw [if_neg (by omega)]
        exact h9
  refine tr_iconst (pc := 0) dX3_countLeast_0 ⟨by decide, by decide⟩ ?_
  refine tr_istore_n (pc := 1) dX3_countLeast_1 rfl (Nat.le_of_ble_eq_true rfl) ?_
  dsimp only [List.set]
  refine tr_iconst (pc := 2) dX3_countLeast_2 ⟨by decide, by decide⟩ ?_
  refine tr_istore_n (pc := 3) dX3_countLeast_3 rfl (Nat.le_of_ble_eq_true rfl) ?_
  dsimp only [List.set]
  exact loop g 0 0 (by omega) (by omega) (by omega) hg
def ig_low (a : Int) : Int → List (Int × Int) → Int
  | acc, [] => acc
  | acc, (p, q) :: t => ig_low a (if p ≤ a then lowO acc q else acc) t
theorem sp_X3_lowestB {G : tk_G} {M : tk_M} {r a : Int} {g : List (Int × Int)} (hr : ig_s r) (hg : ig_at M r g) : Spi G FX3_lowestB [xR r, xI a] SF M (fun v M' => v = ig_low a (-5) g ∧ M' = M) := by
  obtain ⟨r0, s0, s1, s2⟩ := hr
  refine Spi.of _ mtX3_lowestB nlX3_lowestB (Nat.le_of_ble_eq_true rfl) ?_
  show Ok G FX3_lowestB 0 [xR r, xI a, xU, xU] [] SF M 0 0 _
  obtain ⟨hg, h6⟩ := hg
  have loop : ∀ (g : List (Int × Int)) (k acc : Int), 0 ≤ k → ig_seg (M (r + 1)) (M (r + 2)) (M r 2) k g → Ok G FX3_lowestB 5 [xR r, xI a, xI acc, xI k] [] SF M 0 0 (tk_qi SF (fun v M' => v = ig_low a acc g ∧ M' = M)) := by
    intro g
    induction g with
    | nil =>
      intro k acc hk hs
      have hs : k = M r 2 := hs
      refine tr_iload_n (pc := 5) dX3_lowestB_5 rfl ?_
      refine tr_aload_n (pc := 6) dX3_lowestB_6 rfl (by omega) ?_
      refine tr_geti (pc := 7) (ji := 2) dX3_lowestB_7 fi3_18 rfl (by assumption) rfl ?_
      refine tr_icmpge (pc := 10) (tgt := 40) dX3_lowestB_10 (by decide) (fun c10 => ?_) (fun c10 => absurd c10 (by omega))
      refine tr_iload_n (pc := 40) dX3_lowestB_40 rfl ?_
      refine tr_ireti (pc := 41) dX3_lowestB_41 rfl ?_
      exact ⟨rfl, rfl⟩
    | cons q t ih =>
      intro k acc hk hs
      obtain ⟨p, q⟩ := q
      obtain ⟨e1, e2, b1, b2, b3, b4, hlt, hs⟩ := hs
      refine tr_iload_n (pc := 5) dX3_lowestB_5 rfl ?_
      refine tr_aload_n (pc := 6) dX3_lowestB_6 rfl (by omega) ?_
      refine tr_geti (pc := 7) (ji := 2) dX3_lowestB_7 fi3_18 rfl (by assumption) rfl ?_
      refine tr_icmpge (pc := 10) (tgt := 40) dX3_lowestB_10 (by decide) (fun c10 => absurd c10 (by omega)) (fun c10 => ?_)
      refine tr_aload_n (pc := 13) dX3_lowestB_13 rfl (by omega) ?_
      refine tr_getr (pc := 14) (x := r + 1) dX3_lowestB_14 fi3_9 rfl (by assumption) rfl ?_
      refine tr_iload_n (pc := 17) dX3_lowestB_17 rfl ?_
      refine tr_ialdv (pc := 18) (x := p) dX3_lowestB_18 (by assumption) (by omega) (by omega) (e1) ?_
      refine tr_iload_n (pc := 19) dX3_lowestB_19 rfl ?_
      refine tr_icmpgt (pc := 20) (tgt := 34) dX3_lowestB_20 (by decide) (fun c20 => ?_) (fun c20 => ?_)
      · skip
        refine tr_iinc (pc := 34) dX3_lowestB_34 rfl rfl ⟨by omega, by omega⟩ ?_
        dsimp only [List.set]
        refine tr_goto (pc := 37) (tgt := 5) dX3_lowestB_37 (by decide) ?_
        unfold ig_low
        first | rw [if_pos (by omega)] | rw [if_neg (by omega)]
        exact ih (k + 1) _ (by omega) hs
      · skip
        refine tr_iload_n (pc := 23) dX3_lowestB_23 rfl ?_
        refine tr_aload_n (pc := 24) dX3_lowestB_24 rfl (by omega) ?_
        refine tr_getr (pc := 25) (x := r + 2) dX3_lowestB_25 fi3_15 rfl (by assumption) rfl ?_
        refine tr_iload_n (pc := 28) dX3_lowestB_28 rfl ?_
        refine tr_ialdv (pc := 29) (x := q) dX3_lowestB_29 (by assumption) (by omega) (by omega) (e2) ?_
        refine tr_lower (pc := 30) rfl dX3_lowestB_30 mtX9_lowerOf st_lower rfl ⟨(Nat.le_of_ble_eq_true rfl), (Nat.le_of_ble_eq_true rfl)⟩ nlX9_lowerOf (Nat.le_of_ble_eq_true rfl) ⟨(Nat.le_of_ble_eq_true rfl), (Nat.le_of_ble_eq_true rfl)⟩ (sp_X9_lowerOf) (fun r30 M30 h30 => ?_)
        obtain ⟨hr30, hM30⟩ := h30
        obtain rfl := hr30.symm
        obtain rfl := hM30.symm
        refine tr_istore_n (pc := 33) dX3_lowestB_33 rfl (Nat.le_of_ble_eq_true rfl) ?_
        dsimp only [List.set]
        refine tr_iinc (pc := 34) dX3_lowestB_34 rfl rfl ⟨by omega, by omega⟩ ?_
        dsimp only [List.set]
        refine tr_goto (pc := 37) (tgt := 5) dX3_lowestB_37 (by decide) ?_
        unfold ig_low
        first | rw [if_pos (by omega)] | rw [if_neg (by omega)]
        exact ih (k + 1) _ (by omega) hs
  refine tr_bipush (pc := 0) dX3_lowestB_0 ⟨by decide, ⟨by decide, by decide⟩⟩ ?_
  refine tr_istore_n (pc := 2) dX3_lowestB_2 rfl (Nat.le_of_ble_eq_true rfl) ?_
  dsimp only [List.set]
  refine tr_iconst (pc := 3) dX3_lowestB_3 ⟨by decide, by decide⟩ ?_
  refine tr_istore_n (pc := 4) dX3_lowestB_4 rfl (Nat.le_of_ble_eq_true rfl) ?_
  dsimp only [List.set]
  exact loop g 0 (-5) (by omega) hg
def ig_sum : Int → List (Int × Int) → Int
  | acc, [] => acc
  | acc, (p, q) :: t => ig_sum (acc + (p + q)) t
theorem sp_X3_sumOfPowers {G : tk_G} {M : tk_M} {r : Int} {g : List (Int × Int)} (hr : ig_s r) (hg : ig_at M r g) : Spi G FX3_sumOfPowers [xR r] SF M (fun v M' => v = ig_sum 0 g ∧ M' = M) := by
  obtain ⟨r0, s0, s1, s2⟩ := hr
  refine Spi.of _ mtX3_sumOfPowers nlX3_sumOfPowers (Nat.le_of_ble_eq_true rfl) ?_
  show Ok G FX3_sumOfPowers 0 [xR r, xU, xU] [] SF M 0 0 _
  obtain ⟨hg, h6⟩ := hg
  have loop : ∀ (g : List (Int × Int)) (k acc : Int), 0 ≤ k → 0 ≤ acc → acc ≤ 18 * k → ig_seg (M (r + 1)) (M (r + 2)) (M r 2) k g → Ok G FX3_sumOfPowers 4 [xR r, xI acc, xI k] [] SF M 0 0 (tk_qi SF (fun v M' => v = ig_sum acc g ∧ M' = M)) := by
    intro g
    induction g with
    | nil =>
      intro k acc hk ha hak hs
      have hs : k = M r 2 := hs
      refine tr_iload_n (pc := 4) dX3_sumOfPowers_4 rfl ?_
      refine tr_aload_n (pc := 5) dX3_sumOfPowers_5 rfl (by omega) ?_
      refine tr_geti (pc := 6) (ji := 2) dX3_sumOfPowers_6 fi3_18 rfl (by assumption) rfl ?_
      refine tr_icmpge (pc := 9) (tgt := 34) dX3_sumOfPowers_9 (by decide) (fun c9 => ?_) (fun c9 => absurd c9 (by omega))
      refine tr_iload_n (pc := 34) dX3_sumOfPowers_34 rfl ?_
      refine tr_ireti (pc := 35) dX3_sumOfPowers_35 rfl ?_
      exact ⟨rfl, rfl⟩
    | cons q t ih =>
      intro k acc hk ha hak hs
      obtain ⟨p, q⟩ := q
      obtain ⟨e1, e2, b1, b2, b3, b4, hlt, hs⟩ := hs
      refine tr_iload_n (pc := 4) dX3_sumOfPowers_4 rfl ?_
      refine tr_aload_n (pc := 5) dX3_sumOfPowers_5 rfl (by omega) ?_
      refine tr_geti (pc := 6) (ji := 2) dX3_sumOfPowers_6 fi3_18 rfl (by assumption) rfl ?_
      refine tr_icmpge (pc := 9) (tgt := 34) dX3_sumOfPowers_9 (by decide) (fun c9 => absurd c9 (by omega)) (fun c9 => ?_)
      refine tr_iload_n (pc := 12) dX3_sumOfPowers_12 rfl ?_
      refine tr_aload_n (pc := 13) dX3_sumOfPowers_13 rfl (by omega) ?_
      refine tr_getr (pc := 14) (x := r + 1) dX3_sumOfPowers_14 fi3_9 rfl (by assumption) rfl ?_
      refine tr_iload_n (pc := 17) dX3_sumOfPowers_17 rfl ?_
      refine tr_ialdv (pc := 18) (x := p) dX3_sumOfPowers_18 (by assumption) (by omega) (by omega) (e1) ?_
      refine tr_aload_n (pc := 19) dX3_sumOfPowers_19 rfl (by omega) ?_
      refine tr_getr (pc := 20) (x := r + 2) dX3_sumOfPowers_20 fi3_15 rfl (by assumption) rfl ?_
      refine tr_iload_n (pc := 23) dX3_sumOfPowers_23 rfl ?_
      refine tr_ialdv (pc := 24) (x := q) dX3_sumOfPowers_24 (by assumption) (by omega) (by omega) (e2) ?_
      refine tr_iadd (pc := 25) dX3_sumOfPowers_25 ⟨by omega, by omega⟩ ?_
      refine tr_iadd (pc := 26) dX3_sumOfPowers_26 ⟨by omega, by omega⟩ ?_
      refine tr_istore_n (pc := 27) dX3_sumOfPowers_27 rfl (Nat.le_of_ble_eq_true rfl) ?_
      dsimp only [List.set]
      refine tr_iinc (pc := 28) dX3_sumOfPowers_28 rfl rfl ⟨by omega, by omega⟩ ?_
      dsimp only [List.set]
      refine tr_goto (pc := 31) (tgt := 4) dX3_sumOfPowers_31 (by decide) ?_
      unfold ig_sum
      exact ih (k + 1) _ (by omega) (by omega) (by omega) hs
  refine tr_iconst (pc := 0) dX3_sumOfPowers_0 ⟨by decide, by decide⟩ ?_
  refine tr_istore_n (pc := 1) dX3_sumOfPowers_1 rfl (Nat.le_of_ble_eq_true rfl) ?_
  dsimp only [List.set]
  refine tr_iconst (pc := 2) dX3_sumOfPowers_2 ⟨by decide, by decide⟩ ?_
  refine tr_istore_n (pc := 3) dX3_sumOfPowers_3 rfl (Nat.le_of_ble_eq_true rfl) ?_
  dsimp only [List.set]
  exact loop g 0 0 (by omega) (by omega) (by omega) hg
def ig_lw (s t : Int) : Int → List (Int × Int) → Int
  | acc, [] => acc
  | acc, (p, q) :: u => ig_lw s t (min acc (s * p + t * q)) u
theorem sp_X3_leastWeight {G : tk_G} {M : tk_M} {r s t : Int} {g : List (Int × Int)} (hr : ig_s r) (hg : ig_at M r g) (hne : g ≠ []) (hs0 : 0 ≤ s) (hs9 : s ≤ 9) (ht0 : 0 ≤ t) (ht9 : t ≤ 9) : Spi G FX3_leastWeight [xR r, xI s, xI t] SF M (fun v M' => v = ig_lw s t 2147483647 g ∧ M' = M) := by
  have hr' := hr
  obtain ⟨r0, s0, s1, s2⟩ := hr
  refine Spi.of _ mtX3_leastWeight nlX3_leastWeight (Nat.le_of_ble_eq_true rfl) ?_
  show Ok G FX3_leastWeight 0 [xR r, xI s, xI t, xU, xU] [] SF M 0 0 _
  obtain ⟨hg, h6⟩ := hg
  have loop : ∀ (g : List (Int × Int)) (k acc : Int), 0 ≤ k → ig_seg (M (r + 1)) (M (r + 2)) (M r 2) k g → Ok G FX3_leastWeight 19 [xR r, xI s, xI t, xI acc, xI k] [] SF M 0 0 (tk_qi SF (fun v M' => v = ig_lw s t acc g ∧ M' = M)) := by
    intro g
    induction g with
    | nil =>
      intro k acc hk hs
      have hs : k = M r 2 := hs
      refine tr_iload (pc := 19) dX3_leastWeight_19 rfl ?_
      refine tr_aload_n (pc := 21) dX3_leastWeight_21 rfl (by omega) ?_
      refine tr_geti (pc := 22) (ji := 2) dX3_leastWeight_22 fi3_18 rfl (by assumption) rfl ?_
      refine tr_icmpge (pc := 25) (tgt := 58) dX3_leastWeight_25 (by decide) (fun c25 => ?_) (fun c25 => absurd c25 (by omega))
      refine tr_iload_n (pc := 58) dX3_leastWeight_58 rfl ?_
      refine tr_ireti (pc := 59) dX3_leastWeight_59 rfl ?_
      exact ⟨rfl, rfl⟩
    | cons q u ih =>
      intro k acc hk hs
      obtain ⟨p, q⟩ := q
      obtain ⟨e1, e2, b1, b2, b3, b4, hlt, hs⟩ := hs
      have m1 := mul99 hs0 hs9 b1 b2
      have m2 := mul99 ht0 ht9 b3 b4
      refine tr_iload (pc := 19) dX3_leastWeight_19 rfl ?_
      refine tr_aload_n (pc := 21) dX3_leastWeight_21 rfl (by omega) ?_
      refine tr_geti (pc := 22) (ji := 2) dX3_leastWeight_22 fi3_18 rfl (by assumption) rfl ?_
      refine tr_icmpge (pc := 25) (tgt := 58) dX3_leastWeight_25 (by decide) (fun c25 => absurd c25 (by omega)) (fun c25 => ?_)
      refine tr_iload_n (pc := 28) dX3_leastWeight_28 rfl ?_
      refine tr_iload_n (pc := 29) dX3_leastWeight_29 rfl ?_
      refine tr_aload_n (pc := 30) dX3_leastWeight_30 rfl (by omega) ?_
      refine tr_getr (pc := 31) (x := r + 1) dX3_leastWeight_31 fi3_9 rfl (by assumption) rfl ?_
      refine tr_iload (pc := 34) dX3_leastWeight_34 rfl ?_
      refine tr_ialdv (pc := 36) (x := p) dX3_leastWeight_36 (by assumption) (by omega) (by omega) (e1) ?_
      refine tr_imul (pc := 37) dX3_leastWeight_37 ⟨by omega, by omega⟩ ?_
      refine tr_iload_n (pc := 38) dX3_leastWeight_38 rfl ?_
      refine tr_aload_n (pc := 39) dX3_leastWeight_39 rfl (by omega) ?_
      refine tr_getr (pc := 40) (x := r + 2) dX3_leastWeight_40 fi3_15 rfl (by assumption) rfl ?_
      refine tr_iload (pc := 43) dX3_leastWeight_43 rfl ?_
      refine tr_ialdv (pc := 45) (x := q) dX3_leastWeight_45 (by assumption) (by omega) (by omega) (e2) ?_
      refine tr_imul (pc := 46) dX3_leastWeight_46 ⟨by omega, by omega⟩ ?_
      refine tr_iadd (pc := 47) dX3_leastWeight_47 ⟨by omega, by omega⟩ ?_
      refine tr_min (pc := 48) dX3_leastWeight_48 mm3_52 rfl (Nat.le_of_ble_eq_true rfl) (Nat.le_of_ble_eq_true rfl) ⟨(Nat.le_of_ble_eq_true rfl), (Nat.le_of_ble_eq_true rfl)⟩ ?_
      refine tr_istore_n (pc := 51) dX3_leastWeight_51 rfl (Nat.le_of_ble_eq_true rfl) ?_
      dsimp only [List.set]
      refine tr_iinc (pc := 52) dX3_leastWeight_52 rfl rfl ⟨by omega, by omega⟩ ?_
      dsimp only [List.set]
      refine tr_goto (pc := 55) (tgt := 19) dX3_leastWeight_55 (by decide) ?_
      unfold ig_lw
      exact ih (k + 1) _ (by omega) hs
  cases g with
  | nil => exact absurd rfl hne
  | cons q u =>
    obtain ⟨p, q⟩ := q
    obtain ⟨e1, e2, b1, b2, b3, b4, hlt, hs⟩ := hg
    have m1 := mul99 hs0 hs9 b1 b2
    have m2 := mul99 ht0 ht9 b3 b4
    refine tr_iload_n (pc := 0) dX3_leastWeight_0 rfl ?_
    refine tr_aload_n (pc := 1) dX3_leastWeight_1 rfl (by omega) ?_
    refine tr_iconst (pc := 2) dX3_leastWeight_2 ⟨by decide, by decide⟩ ?_
    refine tr_cVi1 (pc := 3) dX3_leastWeight_3 mtX3_powerA lv3_38 rfl (by assumption) kc3 ⟨(Nat.le_of_ble_eq_true rfl), (Nat.le_of_ble_eq_true rfl)⟩ nlX3_powerA (Nat.le_of_ble_eq_true rfl) ⟨(Nat.le_of_ble_eq_true rfl), (Nat.le_of_ble_eq_true rfl)⟩ (sp_X3_powerA hr' h6) (fun r3 M3 h3 => ?_)
    rw [if_pos ⟨by omega, hlt⟩, e1] at h3
    obtain ⟨hr3, hM3⟩ := h3
    obtain rfl := hr3.symm
    obtain rfl := hM3.symm
    refine tr_imul (pc := 6) dX3_leastWeight_6 ⟨by omega, by omega⟩ ?_
    refine tr_iload_n (pc := 7) dX3_leastWeight_7 rfl ?_
    refine tr_aload_n (pc := 8) dX3_leastWeight_8 rfl (by omega) ?_
    refine tr_iconst (pc := 9) dX3_leastWeight_9 ⟨by decide, by decide⟩ ?_
    refine tr_cVi1 (pc := 10) dX3_leastWeight_10 mtX3_powerB lv3_42 rfl (by assumption) kc3 ⟨(Nat.le_of_ble_eq_true rfl), (Nat.le_of_ble_eq_true rfl)⟩ nlX3_powerB (Nat.le_of_ble_eq_true rfl) ⟨(Nat.le_of_ble_eq_true rfl), (Nat.le_of_ble_eq_true rfl)⟩ (sp_X3_powerB hr' h6) (fun r10 M10 h10 => ?_)
    rw [if_pos ⟨by omega, hlt⟩, e2] at h10
    obtain ⟨hr10, hM10⟩ := h10
    obtain rfl := hr10.symm
    obtain rfl := hM10.symm
    refine tr_imul (pc := 13) dX3_leastWeight_13 ⟨by omega, by omega⟩ ?_
    refine tr_iadd (pc := 14) dX3_leastWeight_14 ⟨by omega, by omega⟩ ?_
    refine tr_istore_n (pc := 15) dX3_leastWeight_15 rfl (Nat.le_of_ble_eq_true rfl) ?_
    dsimp only [List.set]
    refine tr_iconst (pc := 16) dX3_leastWeight_16 ⟨by decide, by decide⟩ ?_
    refine tr_istore (pc := 17) dX3_leastWeight_17 rfl (Nat.le_of_ble_eq_true rfl) ?_
    dsimp only [List.set]
    have hm : min 2147483647 (s * p + t * q) = s * p + t * q := by omega
    unfold ig_lw
    rw [hm]
    exact loop u 1 _ (by omega) hs
def ig_cw (s t w : Int) : Int → List (Int × Int) → Int
  | acc, [] => acc
  | acc, (p, q) :: u => ig_cw s t w (if s * p + t * q = w then acc + 1 else acc) u
theorem sp_X3_countOfWeight {G : tk_G} {M : tk_M} {r s t w : Int} {g : List (Int × Int)} (hr : ig_s r) (hg : ig_at M r g) (hs0 : 0 ≤ s) (hs9 : s ≤ 9) (ht0 : 0 ≤ t) (ht9 : t ≤ 9) : Spi G FX3_countOfWeight [xR r, xI s, xI t, xI w] SF M (fun v M' => v = ig_cw s t w 0 g ∧ M' = M) := by
  obtain ⟨r0, s0, s1, s2⟩ := hr
  refine Spi.of _ mtX3_countOfWeight nlX3_countOfWeight (Nat.le_of_ble_eq_true rfl) ?_
  show Ok G FX3_countOfWeight 0 [xR r, xI s, xI t, xI w, xU, xU] [] SF M 0 0 _
  obtain ⟨hg, h6⟩ := hg
  have loop : ∀ (g : List (Int × Int)) (k acc : Int), 0 ≤ k → 0 ≤ acc → acc ≤ k → ig_seg (M (r + 1)) (M (r + 2)) (M r 2) k g → Ok G FX3_countOfWeight 6 [xR r, xI s, xI t, xI w, xI acc, xI k] [] SF M 0 0 (tk_qi SF (fun v M' => v = ig_cw s t w acc g ∧ M' = M)) := by
    intro g
    induction g with
    | nil =>
      intro k acc hk ha hak hs
      have hs : k = M r 2 := hs
      refine tr_iload (pc := 6) dX3_countOfWeight_6 rfl ?_
      refine tr_aload_n (pc := 8) dX3_countOfWeight_8 rfl (by omega) ?_
      refine tr_geti (pc := 9) (ji := 2) dX3_countOfWeight_9 fi3_18 rfl (by assumption) rfl ?_
      refine tr_icmpge (pc := 12) (tgt := 47) dX3_countOfWeight_12 (by decide) (fun c12 => ?_) (fun c12 => absurd c12 (by omega))
      refine tr_iload (pc := 47) dX3_countOfWeight_47 rfl ?_
      refine tr_ireti (pc := 49) dX3_countOfWeight_49 rfl ?_
      exact ⟨rfl, rfl⟩
    | cons q u ih =>
      intro k acc hk ha hak hs
      obtain ⟨p, q⟩ := q
      obtain ⟨e1, e2, b1, b2, b3, b4, hlt, hs⟩ := hs
      have m1 := mul99 hs0 hs9 b1 b2
      have m2 := mul99 ht0 ht9 b3 b4
      refine tr_iload (pc := 6) dX3_countOfWeight_6 rfl ?_
      refine tr_aload_n (pc := 8) dX3_countOfWeight_8 rfl (by omega) ?_
      refine tr_geti (pc := 9) (ji := 2) dX3_countOfWeight_9 fi3_18 rfl (by assumption) rfl ?_
      refine tr_icmpge (pc := 12) (tgt := 47) dX3_countOfWeight_12 (by decide) (fun c12 => absurd c12 (by omega)) (fun c12 => ?_)
      refine tr_iload_n (pc := 15) dX3_countOfWeight_15 rfl ?_
      refine tr_aload_n (pc := 16) dX3_countOfWeight_16 rfl (by omega) ?_
      refine tr_getr (pc := 17) (x := r + 1) dX3_countOfWeight_17 fi3_9 rfl (by assumption) rfl ?_
      refine tr_iload (pc := 20) dX3_countOfWeight_20 rfl ?_
      refine tr_ialdv (pc := 22) (x := p) dX3_countOfWeight_22 (by assumption) (by omega) (by omega) (e1) ?_
      refine tr_imul (pc := 23) dX3_countOfWeight_23 ⟨by omega, by omega⟩ ?_
      refine tr_iload_n (pc := 24) dX3_countOfWeight_24 rfl ?_
      refine tr_aload_n (pc := 25) dX3_countOfWeight_25 rfl (by omega) ?_
      refine tr_getr (pc := 26) (x := r + 2) dX3_countOfWeight_26 fi3_15 rfl (by assumption) rfl ?_
      refine tr_iload (pc := 29) dX3_countOfWeight_29 rfl ?_
      refine tr_ialdv (pc := 31) (x := q) dX3_countOfWeight_31 (by assumption) (by omega) (by omega) (e2) ?_
      refine tr_imul (pc := 32) dX3_countOfWeight_32 ⟨by omega, by omega⟩ ?_
      refine tr_iadd (pc := 33) dX3_countOfWeight_33 ⟨by omega, by omega⟩ ?_
      refine tr_iload_n (pc := 34) dX3_countOfWeight_34 rfl ?_
      refine tr_icmpne (pc := 35) (tgt := 41) dX3_countOfWeight_35 (by decide) (fun c35 => ?_) (fun c35 => ?_)
      · skip
        refine tr_iinc (pc := 41) dX3_countOfWeight_41 rfl rfl ⟨by omega, by omega⟩ ?_
        dsimp only [List.set]
        refine tr_goto (pc := 44) (tgt := 6) dX3_countOfWeight_44 (by decide) ?_
        unfold ig_cw
        first | rw [if_pos (by omega)] | rw [if_neg (by omega)]
        exact ih (k + 1) _ (by omega) (by omega) (by omega) hs
      · skip
        refine tr_iinc (pc := 38) dX3_countOfWeight_38 rfl rfl ⟨by omega, by omega⟩ ?_
        dsimp only [List.set]
        refine tr_iinc (pc := 41) dX3_countOfWeight_41 rfl rfl ⟨by omega, by omega⟩ ?_
        dsimp only [List.set]
        refine tr_goto (pc := 44) (tgt := 6) dX3_countOfWeight_44 (by decide) ?_
        unfold ig_cw
        first | rw [if_pos (by omega)] | rw [if_neg (by omega)]
        exact ih (k + 1) _ (by omega) (by omega) (by omega) hs
  refine tr_iconst (pc := 0) dX3_countOfWeight_0 ⟨by decide, by decide⟩ ?_
  refine tr_istore (pc := 1) dX3_countOfWeight_1 rfl (Nat.le_of_ble_eq_true rfl) ?_
  dsimp only [List.set]
  refine tr_iconst (pc := 3) dX3_countOfWeight_3 ⟨by decide, by decide⟩ ?_
  refine tr_istore (pc := 4) dX3_countOfWeight_4 rfl (Nat.le_of_ble_eq_true rfl) ?_
  dsimp only [List.set]
  exact loop g 0 0 (by omega) (by omega) (by omega) hg
