/-- GENERATORS as they lie in two rows from k on, up to n -/
def ig_seg (A B : Int → Int) (n : Int) : Int → List (Int × Int) → Prop
  | k, [] => k = n
  | k, (p, q) :: t => A k = p ∧ B k = q ∧ 0 ≤ p ∧ p ≤ 9 ∧ 0 ≤ q ∧ q ≤ 9 ∧ k < n ∧ ig_seg A B n (k + 1) t
def ig_s (r : Int) : Prop := 0 ≤ r ∧ tk_sg SF r = some (3, 3, [r + 1, r + 2, -1]) ∧ tk_sg SF (r + 1) = some (20, 6, []) ∧ tk_sg SF (r + 2) = some (20, 6, [])
def ig_at (M : tk_M) (r : Int) (g : List (Int × Int)) : Prop := ig_seg (M (r + 1)) (M (r + 2)) (M r 2) 0 g ∧ M r 2 ≤ 6
def ig_find (a b : Int) : Int → List (Int × Int) → Int
  | _, [] => -1
  | k, (p, q) :: t => if p = a ∧ q = b then k else ig_find a b (k + 1) t
theorem sp_X3_size {G : tk_G} {M : tk_M} {r : Int} (hr : ig_s r) : Spi G FX3_size [xR r] SF M (fun v M' => v = M r 2 ∧ M' = M) := by
  obtain ⟨r0, s0, s1, s2⟩ := hr
  refine Spi.of _ mtX3_size nlX3_size (Nat.le_of_ble_eq_true rfl) ?_
  show Ok G FX3_size 0 [xR r] [] SF M 0 0 _
  refine tr_aload_n (pc := 0) dX3_size_0 rfl (by omega) ?_
  refine tr_geti (pc := 1) (ji := 2) dX3_size_1 fi3_18 rfl (by assumption) rfl ?_
  refine tr_ireti (pc := 4) dX3_size_4 rfl ?_
  exact ⟨rfl, rfl⟩
theorem sp_X3_powerA {G : tk_G} {M : tk_M} {r k : Int} (hr : ig_s r) (h6 : M r 2 ≤ 6) : Spi G FX3_powerA [xR r, xI k] SF M (fun v M' => v = (if 0 ≤ k ∧ k < M r 2 then M (r + 1) k else 0) ∧ M' = M) := by
  obtain ⟨r0, s0, s1, s2⟩ := hr
  refine Spi.of _ mtX3_powerA nlX3_powerA (Nat.le_of_ble_eq_true rfl) ?_
  show Ok G FX3_powerA 0 [xR r, xI k] [] SF M 0 0 _
  refine tr_iload_n (pc := 0) dX3_powerA_0 rfl ?_
  refine tr_iflt (pc := 1) (tgt := 21) dX3_powerA_1 (by decide) (fun c1 => ?_) (fun c1 => ?_)
  · skip
    refine tr_iconst (pc := 21) dX3_powerA_21 ⟨by decide, by decide⟩ ?_
    refine tr_ireti (pc := 22) dX3_powerA_22 rfl ?_
    exact ⟨by split <;> omega, rfl⟩
  · skip
    refine tr_iload_n (pc := 4) dX3_powerA_4 rfl ?_
    refine tr_aload_n (pc := 5) dX3_powerA_5 rfl (by omega) ?_
    refine tr_geti (pc := 6) (ji := 2) dX3_powerA_6 fi3_18 rfl (by assumption) rfl ?_
    refine tr_icmpge (pc := 9) (tgt := 21) dX3_powerA_9 (by decide) (fun c9 => ?_) (fun c9 => ?_)
    · skip
      refine tr_iconst (pc := 21) dX3_powerA_21 ⟨by decide, by decide⟩ ?_
      refine tr_ireti (pc := 22) dX3_powerA_22 rfl ?_
      exact ⟨by split <;> omega, rfl⟩
    · skip
      refine tr_aload_n (pc := 12) dX3_powerA_12 rfl (by omega) ?_
      refine tr_getr (pc := 13) (x := r + 1) dX3_powerA_13 fi3_9 rfl (by assumption) rfl ?_
      refine tr_iload_n (pc := 16) dX3_powerA_16 rfl ?_
      refine tr_iald (pc := 17) dX3_powerA_17 (by assumption) (by omega) (by omega) ?_
      refine tr_goto (pc := 18) (tgt := 22) dX3_powerA_18 (by decide) ?_
      refine tr_ireti (pc := 22) dX3_powerA_22 rfl ?_
      exact ⟨by split <;> omega, rfl⟩
theorem sp_X3_find {G : tk_G} {M : tk_M} {r a b : Int} {g : List (Int × Int)} (hr : ig_s r) (hg : ig_at M r g) : Spi G FX3_find [xR r, xI a, xI b] SF M (fun v M' => v = ig_find a b 0 g ∧ M' = M) := by
  obtain ⟨r0, s0, s1, s2⟩ := hr
  refine Spi.of _ mtX3_find nlX3_find (Nat.le_of_ble_eq_true rfl) ?_
  show Ok G FX3_find 0 [xR r, xI a, xI b, xU] [] SF M 0 0 _
  obtain ⟨hg, h6⟩ := hg
  have loop : ∀ (g : List (Int × Int)) (k : Int), 0 ≤ k → ig_seg (M (r + 1)) (M (r + 2)) (M r 2) k g → Ok G FX3_find 2 [xR r, xI a, xI b, xI k] [] SF M 0 0 (tk_qi SF (fun v M' => v = ig_find a b k g ∧ M' = M)) := by
    intro g
    induction g with
    | nil =>
      intro k hk hs
      have hs : k = M r 2 := hs
      refine tr_iload_n (pc := 2) dX3_find_2 rfl ?_
      refine tr_aload_n (pc := 3) dX3_find_3 rfl (by omega) ?_
      refine tr_geti (pc := 4) (ji := 2) dX3_find_4 fi3_18 rfl (by assumption) rfl ?_
      refine tr_icmpge (pc := 7) (tgt := 38) dX3_find_7 (by decide) (fun c7 => ?_) (fun c7 => absurd c7 (by omega))
      refine tr_iconst (pc := 38) dX3_find_38 ⟨by decide, by decide⟩ ?_
      refine tr_ireti (pc := 39) dX3_find_39 rfl ?_
      exact ⟨rfl, rfl⟩
    | cons q t ih =>
      intro k hk hs
      obtain ⟨p, q⟩ := q
      obtain ⟨e1, e2, b1, b2, b3, b4, hlt, hs⟩ := hs
      refine tr_iload_n (pc := 2) dX3_find_2 rfl ?_
      refine tr_aload_n (pc := 3) dX3_find_3 rfl (by omega) ?_
      refine tr_geti (pc := 4) (ji := 2) dX3_find_4 fi3_18 rfl (by assumption) rfl ?_
      refine tr_icmpge (pc := 7) (tgt := 38) dX3_find_7 (by decide) (fun c7 => absurd c7 (by omega)) (fun c7 => ?_)
      refine tr_aload_n (pc := 10) dX3_find_10 rfl (by omega) ?_
      refine tr_getr (pc := 11) (x := r + 1) dX3_find_11 fi3_9 rfl (by assumption) rfl ?_
      refine tr_iload_n (pc := 14) dX3_find_14 rfl ?_
      refine tr_iald (pc := 15) dX3_find_15 (by assumption) (by omega) (by omega) ?_
      refine tr_iload_n (pc := 16) dX3_find_16 rfl ?_
      refine tr_icmpne (pc := 17) (tgt := 32) dX3_find_17 (by decide) (fun c17 => ?_) (fun c17 => ?_)
      · skip
        refine tr_iinc (pc := 32) dX3_find_32 rfl rfl ⟨by omega, by omega⟩ ?_
        dsimp only [List.set]
        refine tr_goto (pc := 35) (tgt := 2) dX3_find_35 (by decide) ?_
        have := ih (k + 1) (by omega) hs
        rw [show ig_find a b k ((p, q) :: t) = ig_find a b (k + 1) t from if_neg (by omega)]
        exact this
      · skip
        refine tr_aload_n (pc := 20) dX3_find_20 rfl (by omega) ?_
        refine tr_getr (pc := 21) (x := r + 2) dX3_find_21 fi3_15 rfl (by assumption) rfl ?_
        refine tr_iload_n (pc := 24) dX3_find_24 rfl ?_
        refine tr_iald (pc := 25) dX3_find_25 (by assumption) (by omega) (by omega) ?_
        refine tr_iload_n (pc := 26) dX3_find_26 rfl ?_
        refine tr_icmpne (pc := 27) (tgt := 32) dX3_find_27 (by decide) (fun c27 => ?_) (fun c27 => ?_)
        · skip
          refine tr_iinc (pc := 32) dX3_find_32 rfl rfl ⟨by omega, by omega⟩ ?_
          dsimp only [List.set]
          refine tr_goto (pc := 35) (tgt := 2) dX3_find_35 (by decide) ?_
          have := ih (k + 1) (by omega) hs
          rw [show ig_find a b k ((p, q) :: t) = ig_find a b (k + 1) t from if_neg (by omega)]
          exact this
        · skip
          refine tr_iload_n (pc := 30) dX3_find_30 rfl ?_
          refine tr_ireti (pc := 31) dX3_find_31 rfl ?_
          exact ⟨(if_pos (by omega)).symm, rfl⟩
  refine tr_iconst (pc := 0) dX3_find_0 ⟨by decide, by decide⟩ ?_
  refine tr_istore_n (pc := 1) dX3_find_1 rfl (Nat.le_of_ble_eq_true rfl) ?_
  dsimp only [List.set]
  exact loop g 0 (by omega) hg
