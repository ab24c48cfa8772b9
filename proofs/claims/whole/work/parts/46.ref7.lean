/-- what is asked of the reference leaves all but its own scratch alone -/
def fQ (M M' : tk_M) : Prop := (∀ c : Int, (c < 101 ∨ (105 ≤ c ∧ c ≤ 109) ∨ 119 ≤ c) → M' c = M c) ∧ (∀ j : Int, j ≠ 10 → j ≠ 12 → j ≠ 16 → M' 101 j = M 101 j) ∧ (∀ j : Int, j ≠ 2 → M' 102 j = M 102 j) ∧ (∀ p : Int, p < 12 → M' 103 p = M 103 p ∧ M' 104 p = M 104 p)
theorem fQ.rf {M : tk_M} : fQ M M := ⟨fun _ _ => rfl, fun _ _ _ _ => rfl, fun _ _ => rfl, fun _ _ => ⟨rfl, rfl⟩⟩
theorem fQ.trans {M M1 M2 : tk_M} (h1 : fQ M M1) (h2 : fQ M1 M2) : fQ M M2 := ⟨fun c a => (h2.1 c a).trans (h1.1 c a), fun j a b d => (h2.2.1 j a b d).trans (h1.2.1 j a b d), fun j a => (h2.2.2.1 j a).trans (h1.2.2.1 j a), fun p a => ⟨(h2.2.2.2 p a).1.trans (h1.2.2.2 p a).1, (h2.2.2.2 p a).2.trans (h1.2.2.2 p a).2⟩⟩
theorem fQ.hf {M M1 : tk_M} (h : rhf M M1) : fQ M M1 := ⟨fun c a => h.1 c (by omega) (by omega), fun j _ a _ => h.2 j a, fun j _ => by rw [h.1 102 (by omega) (by omega)], fun p _ => by rw [h.1 103 (by omega) (by omega), h.1 104 (by omega) (by omega)]; exact ⟨rfl, rfl⟩⟩
theorem fQ.jf {M M1 : tk_M} (h : rjf M M1) : fQ M M1 := ⟨fun c a => h.1 c (by omega) (by omega) (by omega), fun j _ _ a => h.2 j a, fun j _ => by rw [h.1 102 (by omega) (by omega) (by omega)], fun p _ => by rw [h.1 103 (by omega) (by omega) (by omega), h.1 104 (by omega) (by omega) (by omega)]; exact ⟨rfl, rfl⟩⟩
theorem fQ.id {M M1 : tk_M} (h : rfr M M1 2) : fQ M M1 := ⟨fun c a => h.1 c (by omega) (by omega) (by omega), fun j _ _ _ => by rw [h.1 101 (by omega) (by omega) (by omega)], fun j a => h.2.1 j a, fun p a => h.2.2 p (by omega)⟩
theorem Rg.fQ {M M1 : tk_M} {C : cC} (h : Rg M C) (hf : fQ M M1) : Rg M1 C := ⟨h.1.congr (hf.2.2.1 0 (by omega)) (fun k _ _ => hf.2.2.2 _ (by omega)), h.2.1.congr (hf.2.2.1 1 (by omega)) (fun k _ _ => hf.2.2.2 _ (by omega)), h.2.2.frame (hf.2.1 3 (by omega) (by omega) (by omega)) (fun c _ _ => hf.1 c (by omega))⟩
def cnd (C : cC) : Prop := C.1.Nodup ∧ C.2.1.Nodup ∧ ∀ q ∈ C.2.2, q.2.Nodup
theorem cnd.sel {C : cC} (h : cnd C) (i : Int) : (csel i C).Nodup := by
  unfold csel
  split
  · exact h.1
  · exact h.2.1
theorem sp_X10_isLeast {G : tk_G} {M : tk_M} {r k a b : Int} {g : List (Int × Int)} (hr : 0 ≤ r ∧ r ≤ 2) (hg : rg_at M r g) (hk0 : 0 ≤ k) (hk1 : k < M 102 r) (ha : M 103 (6 * r + k) = a) (hb : M 104 (6 * r + k) = b) : Spi G FX10_isLeast [xR 101, xI r, xI k] SF M (fun v M' => v = ig_lst k a b 0 g ∧ M' = M) := by
  refine Spi.of _ mtX10_isLeast nlX10_isLeast (Nat.le_of_ble_eq_true rfl) ?_
  show Ok G FX10_isLeast 0 [xR 101, xI r, xI k, xU, xU] [] SF M 0 0 _
  obtain ⟨hg, h6⟩ := hg
  have loop : ∀ (g : List (Int × Int)) (i is : Int), 0 ≤ i → (is = 0 ∨ is = 1) → ig_seg (fun k => M 103 (6 * r + k)) (fun k => M 104 (6 * r + k)) (M 102 r) i g → Ok G FX10_isLeast 5 [xR 101, xI r, xI k, xI is, xI i] [] SF M 0 0 (tk_qi SF (fun v M' => v = (if is = 0 then 0 else ig_lst k a b i g) ∧ M' = M)) := by
    intro g
    induction g with
    | nil =>
      intro i is hi his hs
      have hs : i = M 102 r := hs
      refine tr_iload (pc := 5) dX10_isLeast_5 rfl ?_
      refine tr_aload_n (pc := 7) dX10_isLeast_7 rfl (by decide) ?_
      refine tr_getr (pc := 8) (x := 102) dX10_isLeast_8 fi10_11 rfl sg101 rfl ?_
      refine tr_iload_n (pc := 11) dX10_isLeast_11 rfl ?_
      refine tr_iald (pc := 12) dX10_isLeast_12 sg102 (by omega) (by omega) ?_
      refine tr_icmpge (pc := 13) (tgt := 70) dX10_isLeast_13 (by decide) (fun c13 => ?_) (fun c13 => absurd c13 (by omega))
      refine tr_iload_n (pc := 70) dX10_isLeast_70 rfl ?_
      refine tr_iretz (pc := 71) dX10_isLeast_71 rfl (by omega) ?_
      refine ⟨?_, rfl⟩
      unfold ig_lst
      omega
    | cons q t ih =>
      intro i is hi his hs
      obtain ⟨p, q⟩ := q
      obtain ⟨e1, e2, b1, b2, b3, b4, hlt, hs⟩ := hs
      unfold ig_lst
      refine tr_iload (pc := 5) dX10_isLeast_5 rfl ?_
      refine tr_aload_n (pc := 7) dX10_isLeast_7 rfl (by decide) ?_
      refine tr_getr (pc := 8) (x := 102) dX10_isLeast_8 fi10_11 rfl sg101 rfl ?_
      refine tr_iload_n (pc := 11) dX10_isLeast_11 rfl ?_
      refine tr_iald (pc := 12) dX10_isLeast_12 sg102 (by omega) (by omega) ?_
      refine tr_icmpge (pc := 13) (tgt := 70) dX10_isLeast_13 (by decide) (fun c13 => absurd c13 (by omega)) (fun c13 => ?_)
      refine tr_iload_n (pc := 16) dX10_isLeast_16 rfl ?_
      refine tr_ifeq (pc := 17) (tgt := 62) dX10_isLeast_17 (by decide) (fun c17 => ?_) (fun c17 => ?_)
      · skip
        refine tr_iconst (pc := 62) dX10_isLeast_62 ⟨by decide, by decide⟩ ?_
        refine tr_istore_n (pc := 63) dX10_isLeast_63 rfl (Nat.le_of_ble_eq_true rfl) ?_
        dsimp only [List.set]
        refine tr_iinc (pc := 64) dX10_isLeast_64 rfl rfl ⟨by omega, by omega⟩ ?_
        dsimp only [List.set]
        refine tr_goto (pc := 67) (tgt := 5) dX10_isLeast_67 (by decide) ?_
        first
        | rw [if_pos (show is = 0 by omega)]
          exact tk_mono (ih (i + 1) 0 (by omega) (Or.inl rfl) hs) (fun v M1 h => ⟨by rw [h.1, if_pos rfl], h.2⟩)
        | rw [if_neg (show ¬ is = 0 by omega), if_pos (show i ≠ k ∧ p ≤ a ∧ q ≤ b by omega)]
          exact tk_mono (ih (i + 1) 0 (by omega) (Or.inl rfl) hs) (fun v M1 h => ⟨by rw [h.1, if_pos rfl], h.2⟩)
        | rw [if_neg (show ¬ is = 0 by omega), if_neg (show ¬ (i ≠ k ∧ p ≤ a ∧ q ≤ b) by omega)]
          exact tk_mono (ih (i + 1) 1 (by omega) (Or.inr rfl) hs) (fun v M1 h => ⟨by rw [h.1, if_neg (by decide)], h.2⟩)
      · skip
        refine tr_iload (pc := 20) dX10_isLeast_20 rfl ?_
        refine tr_iload_n (pc := 22) dX10_isLeast_22 rfl ?_
        refine tr_icmpeq (pc := 23) (tgt := 58) dX10_isLeast_23 (by decide) (fun c23 => ?_) (fun c23 => ?_)
        · skip
          refine tr_iconst (pc := 58) dX10_isLeast_58 ⟨by decide, by decide⟩ ?_
          refine tr_goto (pc := 59) (tgt := 63) dX10_isLeast_59 (by decide) ?_
          refine tr_istore_n (pc := 63) dX10_isLeast_63 rfl (Nat.le_of_ble_eq_true rfl) ?_
          dsimp only [List.set]
          refine tr_iinc (pc := 64) dX10_isLeast_64 rfl rfl ⟨by omega, by omega⟩ ?_
          dsimp only [List.set]
          refine tr_goto (pc := 67) (tgt := 5) dX10_isLeast_67 (by decide) ?_
          first
          | rw [if_pos (show is = 0 by omega)]
            exact tk_mono (ih (i + 1) 0 (by omega) (Or.inl rfl) hs) (fun v M1 h => ⟨by rw [h.1, if_pos rfl], h.2⟩)
          | rw [if_neg (show ¬ is = 0 by omega), if_pos (show i ≠ k ∧ p ≤ a ∧ q ≤ b by omega)]
            exact tk_mono (ih (i + 1) 0 (by omega) (Or.inl rfl) hs) (fun v M1 h => ⟨by rw [h.1, if_pos rfl], h.2⟩)
          | rw [if_neg (show ¬ is = 0 by omega), if_neg (show ¬ (i ≠ k ∧ p ≤ a ∧ q ≤ b) by omega)]
            exact tk_mono (ih (i + 1) 1 (by omega) (Or.inr rfl) hs) (fun v M1 h => ⟨by rw [h.1, if_neg (by decide)], h.2⟩)
        · skip
          refine tr_aload_n (pc := 26) dX10_isLeast_26 rfl (by decide) ?_
          refine tr_iload_n (pc := 27) dX10_isLeast_27 rfl ?_
          refine tr_iload (pc := 28) dX10_isLeast_28 rfl ?_
          refine tr_cVi2 (pc := 30) dX10_isLeast_30 mtX10_a lv10_125 rfl sg101 kc10 ⟨(Nat.le_of_ble_eq_true rfl), (Nat.le_of_ble_eq_true rfl)⟩ nlX10_a (Nat.le_of_ble_eq_true rfl) ⟨(Nat.le_of_ble_eq_true rfl), (Nat.le_of_ble_eq_true rfl)⟩ (sp_ra hr hi (by omega) e1) (fun r30 M30 h30 => ?_)
          obtain ⟨hr30, hM30⟩ := h30
          obtain rfl := hr30.symm
          obtain rfl := hM30.symm
          refine tr_aload_n (pc := 33) dX10_isLeast_33 rfl (by decide) ?_
          refine tr_iload_n (pc := 34) dX10_isLeast_34 rfl ?_
          refine tr_iload_n (pc := 35) dX10_isLeast_35 rfl ?_
          refine tr_cVi2 (pc := 36) dX10_isLeast_36 mtX10_a lv10_125 rfl sg101 kc10 ⟨(Nat.le_of_ble_eq_true rfl), (Nat.le_of_ble_eq_true rfl)⟩ nlX10_a (Nat.le_of_ble_eq_true rfl) ⟨(Nat.le_of_ble_eq_true rfl), (Nat.le_of_ble_eq_true rfl)⟩ (sp_ra hr hk0 (by omega) ha) (fun r36 M36 h36 => ?_)
          obtain ⟨hr36, hM36⟩ := h36
          obtain rfl := hr36.symm
          obtain rfl := hM36.symm
          refine tr_icmpgt (pc := 39) (tgt := 58) dX10_isLeast_39 (by decide) (fun c39 => ?_) (fun c39 => ?_)
          · skip
            refine tr_iconst (pc := 58) dX10_isLeast_58 ⟨by decide, by decide⟩ ?_
            refine tr_goto (pc := 59) (tgt := 63) dX10_isLeast_59 (by decide) ?_
            refine tr_istore_n (pc := 63) dX10_isLeast_63 rfl (Nat.le_of_ble_eq_true rfl) ?_
            dsimp only [List.set]
            refine tr_iinc (pc := 64) dX10_isLeast_64 rfl rfl ⟨by omega, by omega⟩ ?_
            dsimp only [List.set]
            refine tr_goto (pc := 67) (tgt := 5) dX10_isLeast_67 (by decide) ?_
            first
            | rw [if_pos (show is = 0 by omega)]
              exact tk_mono (ih (i + 1) 0 (by omega) (Or.inl rfl) hs) (fun v M1 h => ⟨by rw [h.1, if_pos rfl], h.2⟩)
            | rw [if_neg (show ¬ is = 0 by omega), if_pos (show i ≠ k ∧ p ≤ a ∧ q ≤ b by omega)]
              exact tk_mono (ih (i + 1) 0 (by omega) (Or.inl rfl) hs) (fun v M1 h => ⟨by rw [h.1, if_pos rfl], h.2⟩)
            | rw [if_neg (show ¬ is = 0 by omega), if_neg (show ¬ (i ≠ k ∧ p ≤ a ∧ q ≤ b) by omega)]
              exact tk_mono (ih (i + 1) 1 (by omega) (Or.inr rfl) hs) (fun v M1 h => ⟨by rw [h.1, if_neg (by decide)], h.2⟩)
          · skip
            refine tr_aload_n (pc := 42) dX10_isLeast_42 rfl (by decide) ?_
            refine tr_iload_n (pc := 43) dX10_isLeast_43 rfl ?_
            refine tr_iload (pc := 44) dX10_isLeast_44 rfl ?_
            refine tr_cVi2 (pc := 46) dX10_isLeast_46 mtX10_b lv10_129 rfl sg101 kc10 ⟨(Nat.le_of_ble_eq_true rfl), (Nat.le_of_ble_eq_true rfl)⟩ nlX10_b (Nat.le_of_ble_eq_true rfl) ⟨(Nat.le_of_ble_eq_true rfl), (Nat.le_of_ble_eq_true rfl)⟩ (sp_rb hr hi (by omega) e2) (fun r46 M46 h46 => ?_)
            obtain ⟨hr46, hM46⟩ := h46
            obtain rfl := hr46.symm
            obtain rfl := hM46.symm
            refine tr_aload_n (pc := 49) dX10_isLeast_49 rfl (by decide) ?_
            refine tr_iload_n (pc := 50) dX10_isLeast_50 rfl ?_
            refine tr_iload_n (pc := 51) dX10_isLeast_51 rfl ?_
            refine tr_cVi2 (pc := 52) dX10_isLeast_52 mtX10_b lv10_129 rfl sg101 kc10 ⟨(Nat.le_of_ble_eq_true rfl), (Nat.le_of_ble_eq_true rfl)⟩ nlX10_b (Nat.le_of_ble_eq_true rfl) ⟨(Nat.le_of_ble_eq_true rfl), (Nat.le_of_ble_eq_true rfl)⟩ (sp_rb hr hk0 (by omega) hb) (fun r52 M52 h52 => ?_)
            obtain ⟨hr52, hM52⟩ := h52
            obtain rfl := hr52.symm
            obtain rfl := hM52.symm
            refine tr_icmple (pc := 55) (tgt := 62) dX10_isLeast_55 (by decide) (fun c55 => ?_) (fun c55 => ?_)
            · skip
              refine tr_iconst (pc := 62) dX10_isLeast_62 ⟨by decide, by decide⟩ ?_
              refine tr_istore_n (pc := 63) dX10_isLeast_63 rfl (Nat.le_of_ble_eq_true rfl) ?_
              dsimp only [List.set]
              refine tr_iinc (pc := 64) dX10_isLeast_64 rfl rfl ⟨by omega, by omega⟩ ?_
              dsimp only [List.set]
              refine tr_goto (pc := 67) (tgt := 5) dX10_isLeast_67 (by decide) ?_
              first
              | rw [if_pos (show is = 0 by omega)]
                exact tk_mono (ih (i + 1) 0 (by omega) (Or.inl rfl) hs) (fun v M1 h => ⟨by rw [h.1, if_pos rfl], h.2⟩)
              | rw [if_neg (show ¬ is = 0 by omega), if_pos (show i ≠ k ∧ p ≤ a ∧ q ≤ b by omega)]
                exact tk_mono (ih (i + 1) 0 (by omega) (Or.inl rfl) hs) (fun v M1 h => ⟨by rw [h.1, if_pos rfl], h.2⟩)
              | rw [if_neg (show ¬ is = 0 by omega), if_neg (show ¬ (i ≠ k ∧ p ≤ a ∧ q ≤ b) by omega)]
                exact tk_mono (ih (i + 1) 1 (by omega) (Or.inr rfl) hs) (fun v M1 h => ⟨by rw [h.1, if_neg (by decide)], h.2⟩)
            · skip
              refine tr_iconst (pc := 58) dX10_isLeast_58 ⟨by decide, by decide⟩ ?_
              refine tr_goto (pc := 59) (tgt := 63) dX10_isLeast_59 (by decide) ?_
              refine tr_istore_n (pc := 63) dX10_isLeast_63 rfl (Nat.le_of_ble_eq_true rfl) ?_
              dsimp only [List.set]
              refine tr_iinc (pc := 64) dX10_isLeast_64 rfl rfl ⟨by omega, by omega⟩ ?_
              dsimp only [List.set]
              refine tr_goto (pc := 67) (tgt := 5) dX10_isLeast_67 (by decide) ?_
              first
              | rw [if_pos (show is = 0 by omega)]
                exact tk_mono (ih (i + 1) 0 (by omega) (Or.inl rfl) hs) (fun v M1 h => ⟨by rw [h.1, if_pos rfl], h.2⟩)
              | rw [if_neg (show ¬ is = 0 by omega), if_pos (show i ≠ k ∧ p ≤ a ∧ q ≤ b by omega)]
                exact tk_mono (ih (i + 1) 0 (by omega) (Or.inl rfl) hs) (fun v M1 h => ⟨by rw [h.1, if_pos rfl], h.2⟩)
              | rw [if_neg (show ¬ is = 0 by omega), if_neg (show ¬ (i ≠ k ∧ p ≤ a ∧ q ≤ b) by omega)]
                exact tk_mono (ih (i + 1) 1 (by omega) (Or.inr rfl) hs) (fun v M1 h => ⟨by rw [h.1, if_neg (by decide)], h.2⟩)
  refine tr_iconst (pc := 0) dX10_isLeast_0 ⟨by decide, by decide⟩ ?_
  refine tr_istore_n (pc := 1) dX10_isLeast_1 rfl (Nat.le_of_ble_eq_true rfl) ?_
  dsimp only [List.set]
  refine tr_iconst (pc := 2) dX10_isLeast_2 ⟨by decide, by decide⟩ ?_
  refine tr_istore (pc := 3) dX10_isLeast_3 rfl (Nat.le_of_ble_eq_true rfl) ?_
  dsimp only [List.set]
  exact tk_mono (loop g 0 1 (by omega) (Or.inr rfl) hg) (fun v M1 h => ⟨by rw [h.1, if_neg (by decide)], h.2⟩)
theorem sp_X10_leastMany {G : tk_G} {M : tk_M} {r : Int} {g : List (Int × Int)} (hr : 0 ≤ r ∧ r ≤ 2) (hg : rg_at M r g) : Spi G FX10_leastMany [xR 101, xI r] SF M (fun v M' => v = ig_cl g 0 0 g ∧ M' = M) := by
  refine Spi.of _ mtX10_leastMany nlX10_leastMany (Nat.le_of_ble_eq_true rfl) ?_
  show Ok G FX10_leastMany 0 [xR 101, xI r, xU, xU] [] SF M 0 0 _
  have hg' := hg
  obtain ⟨hg, h6⟩ := hg
  have loop : ∀ (h : List (Int × Int)) (k acc : Int), 0 ≤ k → 0 ≤ acc → acc ≤ k → ig_seg (fun k => M 103 (6 * r + k)) (fun k => M 104 (6 * r + k)) (M 102 r) k h → Ok G FX10_leastMany 4 [xR 101, xI r, xI acc, xI k] [] SF M 0 0 (tk_qi SF (fun v M' => v = ig_cl g k acc h ∧ M' = M)) := by
    intro h
    induction h with
    | nil =>
      intro k acc hk _ _ hs
      have hs : k = M 102 r := hs
      refine tr_iload_n (pc := 4) dX10_leastMany_4 rfl ?_
      refine tr_aload_n (pc := 5) dX10_leastMany_5 rfl (by decide) ?_
      refine tr_getr (pc := 6) (x := 102) dX10_leastMany_6 fi10_11 rfl sg101 rfl ?_
      refine tr_iload_n (pc := 9) dX10_leastMany_9 rfl ?_
      refine tr_iald (pc := 10) dX10_leastMany_10 sg102 (by omega) (by omega) ?_
      refine tr_icmpge (pc := 11) (tgt := 37) dX10_leastMany_11 (by decide) (fun c11 => ?_) (fun c11 => absurd c11 (by omega))
      refine tr_iload_n (pc := 37) dX10_leastMany_37 rfl ?_
      refine tr_ireti (pc := 38) dX10_leastMany_38 rfl ?_
      exact ⟨rfl, rfl⟩
    | cons q t ih =>
      intro k acc hk h0 h1 hs
      obtain ⟨p, q⟩ := q
      obtain ⟨e1, e2, b1, b2, b3, b4, hlt, hs⟩ := hs
      unfold ig_cl
      refine tr_iload_n (pc := 4) dX10_leastMany_4 rfl ?_
      refine tr_aload_n (pc := 5) dX10_leastMany_5 rfl (by decide) ?_
      refine tr_getr (pc := 6) (x := 102) dX10_leastMany_6 fi10_11 rfl sg101 rfl ?_
      refine tr_iload_n (pc := 9) dX10_leastMany_9 rfl ?_
      refine tr_iald (pc := 10) dX10_leastMany_10 sg102 (by omega) (by omega) ?_
      refine tr_icmpge (pc := 11) (tgt := 37) dX10_leastMany_11 (by decide) (fun c11 => absurd c11 (by omega)) (fun c11 => ?_)
      refine tr_iload_n (pc := 14) dX10_leastMany_14 rfl ?_
      refine tr_aload_n (pc := 15) dX10_leastMany_15 rfl (by decide) ?_
      refine tr_iload_n (pc := 16) dX10_leastMany_16 rfl ?_
      refine tr_iload_n (pc := 17) dX10_leastMany_17 rfl ?_
      refine tr_cVi2 (pc := 18) dX10_leastMany_18 mtX10_isLeast lv10_238 rfl sg101 kc10 ⟨(Nat.le_of_ble_eq_true rfl), (Nat.le_of_ble_eq_true rfl)⟩ nlX10_isLeast (Nat.le_of_ble_eq_true rfl) ⟨(Nat.le_of_ble_eq_true rfl), (Nat.le_of_ble_eq_true rfl)⟩ (sp_X10_isLeast hr hg' hk hlt e1 e2) (fun r18 M18 h18 => ?_)
      obtain ⟨hr18, hM18⟩ := h18
      obtain rfl := hr18.symm
      obtain rfl := hM18.symm
      refine tr_ifeq (pc := 21) (tgt := 28) dX10_leastMany_21 (by decide) (fun c21 => ?_) (fun c21 => ?_)
      · skip
        refine tr_iconst (pc := 28) dX10_leastMany_28 ⟨by decide, by decide⟩ ?_
        refine tr_iadd (pc := 29) dX10_leastMany_29 ⟨by omega, by omega⟩ ?_
        refine tr_istore_n (pc := 30) dX10_leastMany_30 rfl (Nat.le_of_ble_eq_true rfl) ?_
        dsimp only [List.set]
        refine tr_iinc (pc := 31) dX10_leastMany_31 rfl rfl ⟨by omega, by omega⟩ ?_
        dsimp only [List.set]
        refine tr_goto (pc := 34) (tgt := 4) dX10_leastMany_34 (by decide) ?_
        first
        | rw [if_pos (show ig_lst k p q 0 g = 0 by omega)]
          have e : acc + 0 = acc := by omega
          rw [e]
          exact ih (k + 1) _ (by omega) (by omega) (by omega) hs
        | rw [if_neg (show ¬ ig_lst k p q 0 g = 0 by omega)]
          exact ih (k + 1) _ (by omega) (by omega) (by omega) hs
      · skip
        refine tr_iconst (pc := 24) dX10_leastMany_24 ⟨by decide, by decide⟩ ?_
        refine tr_goto (pc := 25) (tgt := 29) dX10_leastMany_25 (by decide) ?_
        refine tr_iadd (pc := 29) dX10_leastMany_29 ⟨by omega, by omega⟩ ?_
        refine tr_istore_n (pc := 30) dX10_leastMany_30 rfl (Nat.le_of_ble_eq_true rfl) ?_
        dsimp only [List.set]
        refine tr_iinc (pc := 31) dX10_leastMany_31 rfl rfl ⟨by omega, by omega⟩ ?_
        dsimp only [List.set]
        refine tr_goto (pc := 34) (tgt := 4) dX10_leastMany_34 (by decide) ?_
        first
        | rw [if_pos (show ig_lst k p q 0 g = 0 by omega)]
          have e : acc + 0 = acc := by omega
          rw [e]
          exact ih (k + 1) _ (by omega) (by omega) (by omega) hs
        | rw [if_neg (show ¬ ig_lst k p q 0 g = 0 by omega)]
          exact ih (k + 1) _ (by omega) (by omega) (by omega) hs
  refine tr_iconst (pc := 0) dX10_leastMany_0 ⟨by decide, by decide⟩ ?_
  refine tr_istore_n (pc := 1) dX10_leastMany_1 rfl (Nat.le_of_ble_eq_true rfl) ?_
  dsimp only [List.set]
  refine tr_iconst (pc := 2) dX10_leastMany_2 ⟨by decide, by decide⟩ ?_
  refine tr_istore_n (pc := 3) dX10_leastMany_3 rfl (Nat.le_of_ble_eq_true rfl) ?_
  dsimp only [List.set]
  exact loop g 0 0 (by omega) (by omega) (by omega) hg
theorem sp_X10_isClosed {G : tk_G} {M : tk_M} {r : Int} {g : List (Int × Int)} (hr : 0 ≤ r ∧ r ≤ 2) (hg : rg_at M r g) (hne : g ≠ []) (hnd : g.Nodup) : Spi G FX10_isClosed [xR 101, xI r] SF M (fun v M' => v = cls1 (hl_fc g) g 100 0 ∧ rhf M M') := by
  refine Spi.of _ mtX10_isClosed nlX10_isClosed (Nat.le_of_ble_eq_true rfl) ?_
  show Ok G FX10_isClosed 0 [xR 101, xI r, xU, xU] [] SF M 0 0 _
  have loop : ∀ (F : List (Int × Int × Int)) (M1 : tk_M), rh_at M1 F → rg_at M1 r g → ∀ (d : Nat) (t is : Int), t + d = 100 → 0 ≤ t → (is = 0 ∨ is = 1) → Ok G FX10_isClosed 9 [xR 101, xI r, xI is, xI t] [] SF M1 0 0 (tk_qi SF (fun v M' => v = (if is = 0 then 0 else cls1 F g d t) ∧ M' = M1)) := by
    intro F M1 hF hg1 d
    induction d with
    | zero =>
      intro t is hd ht his
      refine tr_iload_n (pc := 9) dX10_isClosed_9 rfl ?_
      refine tr_bipush (pc := 10) dX10_isClosed_10 ⟨by decide, ⟨by decide, by decide⟩⟩ ?_
      refine tr_icmpge (pc := 12) (tgt := 62) dX10_isClosed_12 (by decide) (fun c12 => ?_) (fun c12 => absurd c12 (by omega))
      refine tr_iload_n (pc := 62) dX10_isClosed_62 rfl ?_
      refine tr_iretz (pc := 63) dX10_isClosed_63 rfl (by omega) ?_
      refine ⟨?_, rfl⟩
      unfold cls1
      omega
    | succ d ih =>
      intro t is hd ht his
      have hcv := hl_cov01 (t / 10) (t % 10) F
      have hin := ig_in01 (t / 10) (t % 10) g
      unfold cls1
      refine tr_iload_n (pc := 9) dX10_isClosed_9 rfl ?_
      refine tr_bipush (pc := 10) dX10_isClosed_10 ⟨by decide, ⟨by decide, by decide⟩⟩ ?_
      refine tr_icmpge (pc := 12) (tgt := 62) dX10_isClosed_12 (by decide) (fun c12 => absurd c12 (by omega)) (fun c12 => ?_)
      refine tr_iload_n (pc := 15) dX10_isClosed_15 rfl ?_
      refine tr_ifeq (pc := 16) (tgt := 54) dX10_isClosed_16 (by decide) (fun c16 => ?_) (fun c16 => ?_)
      · skip
        refine tr_iconst (pc := 54) dX10_isClosed_54 ⟨by decide, by decide⟩ ?_
        refine tr_istore_n (pc := 55) dX10_isClosed_55 rfl (Nat.le_of_ble_eq_true rfl) ?_
        dsimp only [List.set]
        refine tr_iinc (pc := 56) dX10_isClosed_56 rfl rfl ⟨by omega, by omega⟩ ?_
        dsimp only [List.set]
        refine tr_goto (pc := 59) (tgt := 9) dX10_isClosed_59 (by decide) ?_
        first
        | rw [if_pos (show is = 0 by omega)]
          exact tk_mono (ih (t + 1) 0 (by omega) (by omega) (Or.inl rfl)) (fun v M1 h => ⟨by rw [h.1, if_pos rfl], h.2⟩)
        | rw [if_neg (show ¬ is = 0 by omega), if_pos (show hl_cov (t / 10) (t % 10) F ≠ 0 ∧ ig_in (t / 10) (t % 10) g = 0 by omega)]
          exact tk_mono (ih (t + 1) 0 (by omega) (by omega) (Or.inl rfl)) (fun v M1 h => ⟨by rw [h.1, if_pos rfl], h.2⟩)
        | rw [if_neg (show ¬ is = 0 by omega), if_neg (show ¬ (hl_cov (t / 10) (t % 10) F ≠ 0 ∧ ig_in (t / 10) (t % 10) g = 0) by omega)]
          exact tk_mono (ih (t + 1) 1 (by omega) (by omega) (Or.inr rfl)) (fun v M1 h => ⟨by rw [h.1, if_neg (by decide)], h.2⟩)
      · skip
        refine tr_aload_n (pc := 19) dX10_isClosed_19 rfl (by decide) ?_
        refine tr_iload_n (pc := 20) dX10_isClosed_20 rfl ?_
        refine tr_bipush (pc := 21) dX10_isClosed_21 ⟨by decide, ⟨by decide, by decide⟩⟩ ?_
        refine tr_idiv (pc := 23) dX10_isClosed_23 (by omega) (by omega) ?_
        refine tr_iload_n (pc := 24) dX10_isClosed_24 rfl ?_
        refine tr_bipush (pc := 25) dX10_isClosed_25 ⟨by decide, ⟨by decide, by decide⟩⟩ ?_
        refine tr_irem (pc := 27) dX10_isClosed_27 (by omega) (by omega) ?_
        refine tr_cVi2 (pc := 28) dX10_isClosed_28 mtX10_isInHull lv10_163 rfl sg101 kc10 ⟨(Nat.le_of_ble_eq_true rfl), (Nat.le_of_ble_eq_true rfl)⟩ nlX10_isInHull (Nat.le_of_ble_eq_true rfl) ⟨(Nat.le_of_ble_eq_true rfl), (Nat.le_of_ble_eq_true rfl)⟩ (sp_X10_isInHull hF (by omega) (by omega)) (fun r28 M28 h28 => ?_)
        obtain ⟨hr28, hM28⟩ := h28
        obtain rfl := hr28.symm
        obtain rfl := hM28.symm
        refine tr_ifeq (pc := 31) (tgt := 50) dX10_isClosed_31 (by decide) (fun c31 => ?_) (fun c31 => ?_)
        · skip
          refine tr_iconst (pc := 50) dX10_isClosed_50 ⟨by decide, by decide⟩ ?_
          refine tr_goto (pc := 51) (tgt := 55) dX10_isClosed_51 (by decide) ?_
          refine tr_istore_n (pc := 55) dX10_isClosed_55 rfl (Nat.le_of_ble_eq_true rfl) ?_
          dsimp only [List.set]
          refine tr_iinc (pc := 56) dX10_isClosed_56 rfl rfl ⟨by omega, by omega⟩ ?_
          dsimp only [List.set]
          refine tr_goto (pc := 59) (tgt := 9) dX10_isClosed_59 (by decide) ?_
          first
          | rw [if_pos (show is = 0 by omega)]
            exact tk_mono (ih (t + 1) 0 (by omega) (by omega) (Or.inl rfl)) (fun v M1 h => ⟨by rw [h.1, if_pos rfl], h.2⟩)
          | rw [if_neg (show ¬ is = 0 by omega), if_pos (show hl_cov (t / 10) (t % 10) F ≠ 0 ∧ ig_in (t / 10) (t % 10) g = 0 by omega)]
            exact tk_mono (ih (t + 1) 0 (by omega) (by omega) (Or.inl rfl)) (fun v M1 h => ⟨by rw [h.1, if_pos rfl], h.2⟩)
          | rw [if_neg (show ¬ is = 0 by omega), if_neg (show ¬ (hl_cov (t / 10) (t % 10) F ≠ 0 ∧ ig_in (t / 10) (t % 10) g = 0) by omega)]
            exact tk_mono (ih (t + 1) 1 (by omega) (by omega) (Or.inr rfl)) (fun v M1 h => ⟨by rw [h.1, if_neg (by decide)], h.2⟩)
        · skip
          refine tr_aload_n (pc := 34) dX10_isClosed_34 rfl (by decide) ?_
          refine tr_iload_n (pc := 35) dX10_isClosed_35 rfl ?_
          refine tr_iload_n (pc := 36) dX10_isClosed_36 rfl ?_
          refine tr_bipush (pc := 37) dX10_isClosed_37 ⟨by decide, ⟨by decide, by decide⟩⟩ ?_
          refine tr_idiv (pc := 39) dX10_isClosed_39 (by omega) (by omega) ?_
          refine tr_iload_n (pc := 40) dX10_isClosed_40 rfl ?_
          refine tr_bipush (pc := 41) dX10_isClosed_41 ⟨by decide, ⟨by decide, by decide⟩⟩ ?_
          refine tr_irem (pc := 43) dX10_isClosed_43 (by omega) (by omega) ?_
          refine tr_cVi3 (pc := 44) dX10_isClosed_44 mtX10_isWithin lv10_234 rfl sg101 kc10 ⟨(Nat.le_of_ble_eq_true rfl), (Nat.le_of_ble_eq_true rfl)⟩ nlX10_isWithin (Nat.le_of_ble_eq_true rfl) ⟨(Nat.le_of_ble_eq_true rfl), (Nat.le_of_ble_eq_true rfl)⟩ (sp_X10_isWithin hr hg1) (fun r44 M44 h44 => ?_)
          obtain ⟨hr44, hM44⟩ := h44
          obtain rfl := hr44.symm
          obtain rfl := hM44.symm
          refine tr_ifeq (pc := 47) (tgt := 54) dX10_isClosed_47 (by decide) (fun c47 => ?_) (fun c47 => ?_)
          · skip
            refine tr_iconst (pc := 54) dX10_isClosed_54 ⟨by decide, by decide⟩ ?_
            refine tr_istore_n (pc := 55) dX10_isClosed_55 rfl (Nat.le_of_ble_eq_true rfl) ?_
            dsimp only [List.set]
            refine tr_iinc (pc := 56) dX10_isClosed_56 rfl rfl ⟨by omega, by omega⟩ ?_
            dsimp only [List.set]
            refine tr_goto (pc := 59) (tgt := 9) dX10_isClosed_59 (by decide) ?_
            first
            | rw [if_pos (show is = 0 by omega)]
              exact tk_mono (ih (t + 1) 0 (by omega) (by omega) (Or.inl rfl)) (fun v M1 h => ⟨by rw [h.1, if_pos rfl], h.2⟩)
            | rw [if_neg (show ¬ is = 0 by omega), if_pos (show hl_cov (t / 10) (t % 10) F ≠ 0 ∧ ig_in (t / 10) (t % 10) g = 0 by omega)]
              exact tk_mono (ih (t + 1) 0 (by omega) (by omega) (Or.inl rfl)) (fun v M1 h => ⟨by rw [h.1, if_pos rfl], h.2⟩)
            | rw [if_neg (show ¬ is = 0 by omega), if_neg (show ¬ (hl_cov (t / 10) (t % 10) F ≠ 0 ∧ ig_in (t / 10) (t % 10) g = 0) by omega)]
              exact tk_mono (ih (t + 1) 1 (by omega) (by omega) (Or.inr rfl)) (fun v M1 h => ⟨by rw [h.1, if_neg (by decide)], h.2⟩)
          · skip
            refine tr_iconst (pc := 50) dX10_isClosed_50 ⟨by decide, by decide⟩ ?_
            refine tr_goto (pc := 51) (tgt := 55) dX10_isClosed_51 (by decide) ?_
            refine tr_istore_n (pc := 55) dX10_isClosed_55 rfl (Nat.le_of_ble_eq_true rfl) ?_
            dsimp only [List.set]
            refine tr_iinc (pc := 56) dX10_isClosed_56 rfl rfl ⟨by omega, by omega⟩ ?_
            dsimp only [List.set]
            refine tr_goto (pc := 59) (tgt := 9) dX10_isClosed_59 (by decide) ?_
            first
            | rw [if_pos (show is = 0 by omega)]
              exact tk_mono (ih (t + 1) 0 (by omega) (by omega) (Or.inl rfl)) (fun v M1 h => ⟨by rw [h.1, if_pos rfl], h.2⟩)
            | rw [if_neg (show ¬ is = 0 by omega), if_pos (show hl_cov (t / 10) (t % 10) F ≠ 0 ∧ ig_in (t / 10) (t % 10) g = 0 by omega)]
              exact tk_mono (ih (t + 1) 0 (by omega) (by omega) (Or.inl rfl)) (fun v M1 h => ⟨by rw [h.1, if_pos rfl], h.2⟩)
            | rw [if_neg (show ¬ is = 0 by omega), if_neg (show ¬ (hl_cov (t / 10) (t % 10) F ≠ 0 ∧ ig_in (t / 10) (t % 10) g = 0) by omega)]
              exact tk_mono (ih (t + 1) 1 (by omega) (by omega) (Or.inr rfl)) (fun v M1 h => ⟨by rw [h.1, if_neg (by decide)], h.2⟩)
  refine tr_aload_n (pc := 0) dX10_isClosed_0 rfl (by decide) ?_
  refine tr_iload_n (pc := 1) dX10_isClosed_1 rfl ?_
  refine tr_cVv1 (pc := 2) dX10_isClosed_2 mtX10_tellsFaces lv10_166 rfl sg101 kc10 ⟨(Nat.le_of_ble_eq_true rfl), (Nat.le_of_ble_eq_true rfl)⟩ nlX10_tellsFaces (Nat.le_of_ble_eq_true rfl) ⟨(Nat.le_of_ble_eq_true rfl), (Nat.le_of_ble_eq_true rfl)⟩ (sp_X10_tellsFaces hr hg hne hnd) (fun M2 h2 => ?_)
  obtain ⟨hF, f1⟩ := h2
  refine tr_iconst (pc := 5) dX10_isClosed_5 ⟨by decide, by decide⟩ ?_
  refine tr_istore_n (pc := 6) dX10_isClosed_6 rfl (Nat.le_of_ble_eq_true rfl) ?_
  dsimp only [List.set]
  refine tr_iconst (pc := 7) dX10_isClosed_7 ⟨by decide, by decide⟩ ?_
  refine tr_istore_n (pc := 8) dX10_isClosed_8 rfl (Nat.le_of_ble_eq_true rfl) ?_
  dsimp only [List.set]
  exact tk_mono (loop _ M2 hF (hg.hf f1) 100 0 1 (by omega) (by omega) (Or.inr rfl)) (fun v M1 h => ⟨by rw [h.1, if_neg (by decide)], by rw [h.2]; exact f1⟩)
theorem sp_X10_isCorner {G : tk_G} {M : tk_M} {a b : Int} {F : List (Int × Int × Int)} (hF : rh_at M F) (ha : 0 ≤ a ∧ a ≤ 9) (hb : 0 ≤ b ∧ b ≤ 9) : Spi G FX10_isCorner [xR 101, xI a, xI b] SF M (fun v M' => ((v = 1 ∧ isc F a b) ∨ (v = 0 ∧ ¬ isc F a b)) ∧ M' = M) := by
  refine Spi.of _ mtX10_isCorner nlX10_isCorner (Nat.le_of_ble_eq_true rfl) ?_
  show Ok G FX10_isCorner 0 [xR 101, xI a, xI b] [] SF M 0 0 _
  unfold isc
  have c1 := hl_cov01 a b F
  have c2 := hl_cov01 (a - 1) b F
  have c3 := hl_cov01 a (b - 1) F
  refine tr_aload_n (pc := 0) dX10_isCorner_0 rfl (by decide) ?_
  refine tr_iload_n (pc := 1) dX10_isCorner_1 rfl ?_
  refine tr_iload_n (pc := 2) dX10_isCorner_2 rfl ?_
  refine tr_cVi2 (pc := 3) dX10_isCorner_3 mtX10_isInHull lv10_163 rfl sg101 kc10 ⟨(Nat.le_of_ble_eq_true rfl), (Nat.le_of_ble_eq_true rfl)⟩ nlX10_isInHull (Nat.le_of_ble_eq_true rfl) ⟨(Nat.le_of_ble_eq_true rfl), (Nat.le_of_ble_eq_true rfl)⟩ (sp_X10_isInHull hF (by omega) (by omega)) (fun r3 M3 h3 => ?_)
  obtain ⟨hr3, hM3⟩ := h3
  obtain rfl := hr3.symm
  obtain rfl := hM3.symm
  refine tr_ifeq (pc := 6) (tgt := 43) dX10_isCorner_6 (by decide) (fun c6 => ?_) (fun c6 => ?_)
  · skip
    refine tr_iconst (pc := 43) dX10_isCorner_43 ⟨by decide, by decide⟩ ?_
    refine tr_iretz (pc := 44) dX10_isCorner_44 rfl (by omega) ?_
    exact ⟨by omega, rfl⟩
  · skip
    refine tr_iload_n (pc := 9) dX10_isCorner_9 rfl ?_
    refine tr_ifeq (pc := 10) (tgt := 24) dX10_isCorner_10 (by decide) (fun c10 => ?_) (fun c10 => ?_)
    · skip
      refine tr_iload_n (pc := 24) dX10_isCorner_24 rfl ?_
      refine tr_ifeq (pc := 25) (tgt := 39) dX10_isCorner_25 (by decide) (fun c25 => ?_) (fun c25 => ?_)
      · skip
        refine tr_iconst (pc := 39) dX10_isCorner_39 ⟨by decide, by decide⟩ ?_
        refine tr_goto (pc := 40) (tgt := 44) dX10_isCorner_40 (by decide) ?_
        refine tr_iretz (pc := 44) dX10_isCorner_44 rfl (by omega) ?_
        exact ⟨by omega, rfl⟩
      · skip
        refine tr_aload_n (pc := 28) dX10_isCorner_28 rfl (by decide) ?_
        refine tr_iload_n (pc := 29) dX10_isCorner_29 rfl ?_
        refine tr_iload_n (pc := 30) dX10_isCorner_30 rfl ?_
        refine tr_iconst (pc := 31) dX10_isCorner_31 ⟨by decide, by decide⟩ ?_
        refine tr_isub (pc := 32) dX10_isCorner_32 ⟨by omega, by omega⟩ ?_
        refine tr_cVi2 (pc := 33) dX10_isCorner_33 mtX10_isInHull lv10_163 rfl sg101 kc10 ⟨(Nat.le_of_ble_eq_true rfl), (Nat.le_of_ble_eq_true rfl)⟩ nlX10_isInHull (Nat.le_of_ble_eq_true rfl) ⟨(Nat.le_of_ble_eq_true rfl), (Nat.le_of_ble_eq_true rfl)⟩ (sp_X10_isInHull hF (by omega) (by omega)) (fun r33 M33 h33 => ?_)
        obtain ⟨hr33, hM33⟩ := h33
        obtain rfl := hr33.symm
        obtain rfl := hM33.symm
        refine tr_ifne (pc := 36) (tgt := 43) dX10_isCorner_36 (by decide) (fun c36 => ?_) (fun c36 => ?_)
        · skip
          refine tr_iconst (pc := 43) dX10_isCorner_43 ⟨by decide, by decide⟩ ?_
          refine tr_iretz (pc := 44) dX10_isCorner_44 rfl (by omega) ?_
          exact ⟨by omega, rfl⟩
        · skip
          refine tr_iconst (pc := 39) dX10_isCorner_39 ⟨by decide, by decide⟩ ?_
          refine tr_goto (pc := 40) (tgt := 44) dX10_isCorner_40 (by decide) ?_
          refine tr_iretz (pc := 44) dX10_isCorner_44 rfl (by omega) ?_
          exact ⟨by omega, rfl⟩
    · skip
      refine tr_aload_n (pc := 13) dX10_isCorner_13 rfl (by decide) ?_
      refine tr_iload_n (pc := 14) dX10_isCorner_14 rfl ?_
      refine tr_iconst (pc := 15) dX10_isCorner_15 ⟨by decide, by decide⟩ ?_
      refine tr_isub (pc := 16) dX10_isCorner_16 ⟨by omega, by omega⟩ ?_
      refine tr_iload_n (pc := 17) dX10_isCorner_17 rfl ?_
      refine tr_cVi2 (pc := 18) dX10_isCorner_18 mtX10_isInHull lv10_163 rfl sg101 kc10 ⟨(Nat.le_of_ble_eq_true rfl), (Nat.le_of_ble_eq_true rfl)⟩ nlX10_isInHull (Nat.le_of_ble_eq_true rfl) ⟨(Nat.le_of_ble_eq_true rfl), (Nat.le_of_ble_eq_true rfl)⟩ (sp_X10_isInHull hF (by omega) (by omega)) (fun r18 M18 h18 => ?_)
      obtain ⟨hr18, hM18⟩ := h18
      obtain rfl := hr18.symm
      obtain rfl := hM18.symm
      refine tr_ifne (pc := 21) (tgt := 43) dX10_isCorner_21 (by decide) (fun c21 => ?_) (fun c21 => ?_)
      · skip
        refine tr_iconst (pc := 43) dX10_isCorner_43 ⟨by decide, by decide⟩ ?_
        refine tr_iretz (pc := 44) dX10_isCorner_44 rfl (by omega) ?_
        exact ⟨by omega, rfl⟩
      · skip
        refine tr_iload_n (pc := 24) dX10_isCorner_24 rfl ?_
        refine tr_ifeq (pc := 25) (tgt := 39) dX10_isCorner_25 (by decide) (fun c25 => ?_) (fun c25 => ?_)
        · skip
          refine tr_iconst (pc := 39) dX10_isCorner_39 ⟨by decide, by decide⟩ ?_
          refine tr_goto (pc := 40) (tgt := 44) dX10_isCorner_40 (by decide) ?_
          refine tr_iretz (pc := 44) dX10_isCorner_44 rfl (by omega) ?_
          exact ⟨by omega, rfl⟩
        · skip
          refine tr_aload_n (pc := 28) dX10_isCorner_28 rfl (by decide) ?_
          refine tr_iload_n (pc := 29) dX10_isCorner_29 rfl ?_
          refine tr_iload_n (pc := 30) dX10_isCorner_30 rfl ?_
          refine tr_iconst (pc := 31) dX10_isCorner_31 ⟨by decide, by decide⟩ ?_
          refine tr_isub (pc := 32) dX10_isCorner_32 ⟨by omega, by omega⟩ ?_
          refine tr_cVi2 (pc := 33) dX10_isCorner_33 mtX10_isInHull lv10_163 rfl sg101 kc10 ⟨(Nat.le_of_ble_eq_true rfl), (Nat.le_of_ble_eq_true rfl)⟩ nlX10_isInHull (Nat.le_of_ble_eq_true rfl) ⟨(Nat.le_of_ble_eq_true rfl), (Nat.le_of_ble_eq_true rfl)⟩ (sp_X10_isInHull hF (by omega) (by omega)) (fun r33 M33 h33 => ?_)
          obtain ⟨hr33, hM33⟩ := h33
          obtain rfl := hr33.symm
          obtain rfl := hM33.symm
          refine tr_ifne (pc := 36) (tgt := 43) dX10_isCorner_36 (by decide) (fun c36 => ?_) (fun c36 => ?_)
          · skip
            refine tr_iconst (pc := 43) dX10_isCorner_43 ⟨by decide, by decide⟩ ?_
            refine tr_iretz (pc := 44) dX10_isCorner_44 rfl (by omega) ?_
            exact ⟨by omega, rfl⟩
          · skip
            refine tr_iconst (pc := 39) dX10_isCorner_39 ⟨by decide, by decide⟩ ?_
            refine tr_goto (pc := 40) (tgt := 44) dX10_isCorner_40 (by decide) ?_
            refine tr_iretz (pc := 44) dX10_isCorner_44 rfl (by omega) ?_
            exact ⟨by omega, rfl⟩
theorem sp_X10_close {G : tk_G} {M : tk_M} {C : cC} {i : Int} (hC : Rg M C) (hnd : cnd C) : Spi G FX10_close [xR 101, xI i] SF M (fun v M' => v = (c_close C i).1 ∧ Rg M' (c_close C i).2 ∧ fR M M') := by
  refine Spi.of _ mtX10_close nlX10_close (Nat.le_of_ble_eq_true rfl) ?_
  show Ok G FX10_close 0 [xR 101, xI i, xU, xU] [] SF M 0 0 _
  unfold c_close
  by_cases hi : 0 ≤ i ∧ i ≤ 1
  · rw [if_neg (fun h => h hi)]
    have hsel := hC.sel hi
    have hln := hsel.len
    have hnd1 := hnd.sel i
    have hpc := pc_eq (hl_fc_end hnd1 hsel.bd (by omega))
    have loop2 : ∀ (F : List (Int × Int × Int)) (MK : tk_M), rh_at MK F → ∀ (d : Nat) (v2 t : Int) (acc : List (Int × Int)) (M1 : tk_M), t + d = 100 → 0 ≤ t → acc.length + (cnr F d t).length ≤ 6 → rg_at M1 i acc → rfr MK M1 i → Ok G FX10_close 88 [xR 101, xI i, xI v2, xI t] [] SF M1 0 0 (tk_qi SF (fun v M' => v = (acc ++ cnr F d t).length ∧ rg_at M' i (acc ++ cnr F d t) ∧ rfr MK M' i)) := by
      intro F MK hF d
      induction d with
      | zero =>
        intro v2 t acc M1 hd ht h6 ha hf
        have hal := ha.len
        have e : cnr F 0 t = [] := rfl
        rw [e, List.append_nil]
        refine tr_iload_n (pc := 88) dX10_close_88 rfl ?_
        refine tr_bipush (pc := 89) dX10_close_89 ⟨by decide, ⟨by decide, by decide⟩⟩ ?_
        refine tr_icmpge (pc := 91) (tgt := 128) dX10_close_91 (by decide) (fun c91 => ?_) (fun c91 => absurd c91 (by omega))
        refine tr_aload_n (pc := 128) dX10_close_128 rfl (by decide) ?_
        refine tr_getr (pc := 129) (x := 102) dX10_close_129 fi10_11 rfl sg101 rfl ?_
        refine tr_iload_n (pc := 132) dX10_close_132 rfl ?_
        refine tr_iald (pc := 133) dX10_close_133 sg102 (by omega) (by omega) ?_
        refine tr_ireti (pc := 134) dX10_close_134 rfl ?_
        exact ⟨hal.1, ha, hf⟩
      | succ d ih =>
        intro v2 t acc M1 hd ht h6 ha hf
        have hF1 : rh_at M1 F := hF.same (by rw [hf.1 101 (by omega) (by omega) (by omega)]) (hf.1 _ (by omega) (by omega) (by omega)) (hf.1 _ (by omega) (by omega) (by omega)) (hf.1 _ (by omega) (by omega) (by omega))
        rw [cnr_s] at h6 ⊢
        by_cases hc : isc F (t / 10) (t % 10)
        · have hc' := hc
          unfold isc at hc'
          rw [if_pos hc'] at h6 ⊢
          rw [List.length_cons] at h6
          refine tr_iload_n (pc := 88) dX10_close_88 rfl ?_
          refine tr_bipush (pc := 89) dX10_close_89 ⟨by decide, ⟨by decide, by decide⟩⟩ ?_
          refine tr_icmpge (pc := 91) (tgt := 128) dX10_close_91 (by decide) (fun c91 => absurd c91 (by omega)) (fun c91 => ?_)
          refine tr_aload_n (pc := 94) dX10_close_94 rfl (by decide) ?_
          refine tr_iload_n (pc := 95) dX10_close_95 rfl ?_
          refine tr_bipush (pc := 96) dX10_close_96 ⟨by decide, ⟨by decide, by decide⟩⟩ ?_
          refine tr_idiv (pc := 98) dX10_close_98 (by omega) (by omega) ?_
          refine tr_iload_n (pc := 99) dX10_close_99 rfl ?_
          refine tr_bipush (pc := 100) dX10_close_100 ⟨by decide, ⟨by decide, by decide⟩⟩ ?_
          refine tr_irem (pc := 102) dX10_close_102 (by omega) (by omega) ?_
          refine tr_cVi2 (pc := 103) dX10_close_103 mtX10_isCorner lv10_169 rfl sg101 kc10 ⟨(Nat.le_of_ble_eq_true rfl), (Nat.le_of_ble_eq_true rfl)⟩ nlX10_isCorner (Nat.le_of_ble_eq_true rfl) ⟨(Nat.le_of_ble_eq_true rfl), (Nat.le_of_ble_eq_true rfl)⟩ (sp_X10_isCorner hF1 (by omega) (by omega)) (fun r103 M103 h103 => ?_)
          obtain ⟨hr103, hM103⟩ := h103
          obtain rfl := hM103.symm
          have hr103 := (hr103.resolve_right (fun h => h.2 hc)).1
          refine tr_ifeq (pc := 106) (tgt := 122) dX10_close_106 (by decide) (fun c106 => absurd c106 (by omega)) (fun c106 => ?_)
          refine tr_aload_n (pc := 109) dX10_close_109 rfl (by decide) ?_
          refine tr_iload_n (pc := 110) dX10_close_110 rfl ?_
          refine tr_iload_n (pc := 111) dX10_close_111 rfl ?_
          refine tr_bipush (pc := 112) dX10_close_112 ⟨by decide, ⟨by decide, by decide⟩⟩ ?_
          refine tr_idiv (pc := 114) dX10_close_114 (by omega) (by omega) ?_
          refine tr_iload_n (pc := 115) dX10_close_115 rfl ?_
          refine tr_bipush (pc := 116) dX10_close_116 ⟨by decide, ⟨by decide, by decide⟩⟩ ?_
          refine tr_irem (pc := 118) dX10_close_118 (by omega) (by omega) ?_
          refine tr_cVv3 (pc := 119) dX10_close_119 mtX10_comes lv10_151 rfl sg101 kc10 ⟨(Nat.le_of_ble_eq_true rfl), (Nat.le_of_ble_eq_true rfl)⟩ nlX10_comes (Nat.le_of_ble_eq_true rfl) ⟨(Nat.le_of_ble_eq_true rfl), (Nat.le_of_ble_eq_true rfl)⟩ (sp_X10_comes (by omega) ha (by omega) (by omega) (by omega) (by omega) (by omega)) (fun M119 h119 => ?_)
          obtain ⟨h9, f9⟩ := h119
          refine tr_iinc (pc := 122) dX10_close_122 rfl rfl ⟨by omega, by omega⟩ ?_
          dsimp only [List.set]
          refine tr_goto (pc := 125) (tgt := 88) dX10_close_125 (by decide) ?_
          have h8 := ih v2 (t + 1) _ _ (by omega) (by omega) (by rw [List.length_append]; simp only [List.length_cons, List.length_nil]; omega) h9 (hf.trans f9)
          rw [List.append_assoc] at h8
          exact h8
        · have hc' := hc
          unfold isc at hc'
          rw [if_neg hc'] at h6 ⊢
          refine tr_iload_n (pc := 88) dX10_close_88 rfl ?_
          refine tr_bipush (pc := 89) dX10_close_89 ⟨by decide, ⟨by decide, by decide⟩⟩ ?_
          refine tr_icmpge (pc := 91) (tgt := 128) dX10_close_91 (by decide) (fun c91 => absurd c91 (by omega)) (fun c91 => ?_)
          refine tr_aload_n (pc := 94) dX10_close_94 rfl (by decide) ?_
          refine tr_iload_n (pc := 95) dX10_close_95 rfl ?_
          refine tr_bipush (pc := 96) dX10_close_96 ⟨by decide, ⟨by decide, by decide⟩⟩ ?_
          refine tr_idiv (pc := 98) dX10_close_98 (by omega) (by omega) ?_
          refine tr_iload_n (pc := 99) dX10_close_99 rfl ?_
          refine tr_bipush (pc := 100) dX10_close_100 ⟨by decide, ⟨by decide, by decide⟩⟩ ?_
          refine tr_irem (pc := 102) dX10_close_102 (by omega) (by omega) ?_
          refine tr_cVi2 (pc := 103) dX10_close_103 mtX10_isCorner lv10_169 rfl sg101 kc10 ⟨(Nat.le_of_ble_eq_true rfl), (Nat.le_of_ble_eq_true rfl)⟩ nlX10_isCorner (Nat.le_of_ble_eq_true rfl) ⟨(Nat.le_of_ble_eq_true rfl), (Nat.le_of_ble_eq_true rfl)⟩ (sp_X10_isCorner hF1 (by omega) (by omega)) (fun r103 M103 h103 => ?_)
          obtain ⟨hr103, hM103⟩ := h103
          obtain rfl := hM103.symm
          have hr103 := (hr103.resolve_left (fun h => hc h.2)).1
          refine tr_ifeq (pc := 106) (tgt := 122) dX10_close_106 (by decide) (fun c106 => ?_) (fun c106 => absurd c106 (by omega))
          refine tr_iinc (pc := 122) dX10_close_122 rfl rfl ⟨by omega, by omega⟩ ?_
          dsimp only [List.set]
          refine tr_goto (pc := 125) (tgt := 88) dX10_close_125 (by decide) ?_
          exact ih v2 (t + 1) _ _ (by omega) (by omega) h6 ha hf
    by_cases hz : (csel i C).length = 0
    · rw [if_pos hz]
      refine tr_iload_n (pc := 0) dX10_close_0 rfl ?_
      refine tr_cSi1 (pc := 1) dX10_close_1 mtX10_isIdeal ls10_136 rfl ⟨(Nat.le_of_ble_eq_true rfl), (Nat.le_of_ble_eq_true rfl)⟩ nlX10_isIdeal (Nat.le_of_ble_eq_true rfl) ⟨(Nat.le_of_ble_eq_true rfl), (Nat.le_of_ble_eq_true rfl)⟩ (sp_X10_isIdeal) (fun r1 M1 h1 => ?_)
      obtain ⟨hr1, hM1⟩ := h1
      obtain rfl := hr1.symm
      obtain rfl := hM1.symm
      refine tr_ifne (pc := 4) (tgt := 9) dX10_close_4 (by decide) (fun c4 => ?_) (fun c4 => absurd c4 (by omega))
      refine tr_aload_n (pc := 9) dX10_close_9 rfl (by decide) ?_
      refine tr_getr (pc := 10) (x := 102) dX10_close_10 fi10_11 rfl sg101 rfl ?_
      refine tr_iload_n (pc := 13) dX10_close_13 rfl ?_
      refine tr_iald (pc := 14) dX10_close_14 sg102 (by omega) (by omega) ?_
      refine tr_ifne (pc := 15) (tgt := 21) dX10_close_15 (by decide) (fun c15 => absurd c15 (by omega)) (fun c15 => ?_)
      refine tr_bipush (pc := 18) dX10_close_18 ⟨by decide, ⟨by decide, by decide⟩⟩ ?_
      refine tr_ireti (pc := 20) dX10_close_20 rfl ?_
      exact ⟨rfl, hC, fR.rf⟩
    · rw [if_neg hz]
      have hne : csel i C ≠ [] := fun h => hz (by rw [h]; rfl)
      rw [hpc.1]
      have loop1 : ∀ (F : List (Int × Int × Int)) (M1 : tk_M), rh_at M1 F → Rg M1 C → fR M M1 → ∀ (d : Nat) (t mn : Int), t + d = 100 → 0 ≤ t → 0 ≤ mn → mn ≤ t → mn + (cnr F d t).length = (cnr F 100 0).length → Ok G FX10_close 30 [xR 101, xI i, xI mn, xI t] [] SF M1 0 0 (tk_qi SF (fun v M' => v = (if 6 < ((cnr F 100 0).length : Int) then (-4, C) else (((cnr F 100 0).length : Int), cset i (cnr F 100 0) (cdeed i C))).1 ∧ Rg M' (if 6 < ((cnr F 100 0).length : Int) then (-4, C) else (((cnr F 100 0).length : Int), cset i (cnr F 100 0) (cdeed i C))).2 ∧ fR M M')) := by
        intro F M1 hF hC1 hf1 d
        induction d with
        | zero =>
          intro t mn hd ht h0 h1 hmn
          have e : mn = (cnr F 100 0).length := by
            have e0 : (cnr F 0 t).length = 0 := rfl
            omega
          have hs1 := hC1.sel hi
          refine tr_iload_n (pc := 30) dX10_close_30 rfl ?_
          refine tr_bipush (pc := 31) dX10_close_31 ⟨by decide, ⟨by decide, by decide⟩⟩ ?_
          refine tr_icmpge (pc := 33) (tgt := 65) dX10_close_33 (by decide) (fun c33 => ?_) (fun c33 => absurd c33 (by omega))
          refine tr_iload_n (pc := 65) dX10_close_65 rfl ?_
          refine tr_bipush (pc := 66) dX10_close_66 ⟨by decide, ⟨by decide, by decide⟩⟩ ?_
          refine tr_icmple (pc := 68) (tgt := 74) dX10_close_68 (by decide) (fun c68 => ?_) (fun c68 => ?_)
          · skip
            refine tr_aload_n (pc := 74) dX10_close_74 rfl (by decide) ?_
            refine tr_iload_n (pc := 75) dX10_close_75 rfl ?_
            refine tr_cVv1 (pc := 76) dX10_close_76 mtX10_deed lv10_147 rfl sg101 kc10 ⟨(Nat.le_of_ble_eq_true rfl), (Nat.le_of_ble_eq_true rfl)⟩ nlX10_deed (Nat.le_of_ble_eq_true rfl) ⟨(Nat.le_of_ble_eq_true rfl), (Nat.le_of_ble_eq_true rfl)⟩ (sp_X10_deed (by omega) hs1 hC1.2.2) (fun M76 h76 => ?_)
            obtain ⟨hD, f1⟩ := h76
            have hC2 := hC1.keep hD f1
            have hF2 : rh_at M76 F := hF.same (f1.2 12 (by omega)) (f1.1 _ (by omega) (by omega)) (f1.1 _ (by omega) (by omega)) (f1.1 _ (by omega) (by omega))
            refine tr_aload_n (pc := 79) dX10_close_79 rfl (by decide) ?_
            refine tr_getr (pc := 80) (x := 102) dX10_close_80 fi10_11 rfl sg101 rfl ?_
            refine tr_iload_n (pc := 83) dX10_close_83 rfl ?_
            refine tr_iconst (pc := 84) dX10_close_84 ⟨by decide, by decide⟩ ?_
            refine tr_iast (pc := 85) dX10_close_85 sg102 (by omega) (by omega) ?_
            refine tr_iconst (pc := 86) dX10_close_86 ⟨by decide, by decide⟩ ?_
            refine tr_istore_n (pc := 87) dX10_close_87 rfl (Nat.le_of_ble_eq_true rfl) ?_
            dsimp only [List.set]
            rw [if_neg (by omega)]
            obtain ⟨r1, r2⟩ := rg_empty (M := M76) (i := i)
            refine tk_mono (loop2 F M76 hF2 100 mn 0 [] _ (by omega) (by omega) (by show 0 + (cnr F 100 0).length ≤ 6; omega) r1 r2) (fun v M2 h => ?_)
            rw [List.nil_append] at h
            exact ⟨h.1, hC2.set hi h.2.1 h.2.2, (hf1.trans (fR.dd f1)).trans (fR.id h.2.2)⟩
          · skip
            refine tr_bipush (pc := 71) dX10_close_71 ⟨by decide, ⟨by decide, by decide⟩⟩ ?_
            refine tr_ireti (pc := 73) dX10_close_73 rfl ?_
            rw [if_pos (by omega)]
            exact ⟨rfl, hC1, hf1⟩
        | succ d ih =>
          intro t mn hd ht h0 h1 hmn
          rw [cnr_s] at hmn
          by_cases hc : isc F (t / 10) (t % 10)
          · have hc' := hc
            unfold isc at hc'
            rw [if_pos hc', List.length_cons] at hmn
            refine tr_iload_n (pc := 30) dX10_close_30 rfl ?_
            refine tr_bipush (pc := 31) dX10_close_31 ⟨by decide, ⟨by decide, by decide⟩⟩ ?_
            refine tr_icmpge (pc := 33) (tgt := 65) dX10_close_33 (by decide) (fun c33 => absurd c33 (by omega)) (fun c33 => ?_)
            refine tr_iload_n (pc := 36) dX10_close_36 rfl ?_
            refine tr_aload_n (pc := 37) dX10_close_37 rfl (by decide) ?_
            refine tr_iload_n (pc := 38) dX10_close_38 rfl ?_
            refine tr_bipush (pc := 39) dX10_close_39 ⟨by decide, ⟨by decide, by decide⟩⟩ ?_
            refine tr_idiv (pc := 41) dX10_close_41 (by omega) (by omega) ?_
            refine tr_iload_n (pc := 42) dX10_close_42 rfl ?_
            refine tr_bipush (pc := 43) dX10_close_43 ⟨by decide, ⟨by decide, by decide⟩⟩ ?_
            refine tr_irem (pc := 45) dX10_close_45 (by omega) (by omega) ?_
            refine tr_cVi2 (pc := 46) dX10_close_46 mtX10_isCorner lv10_169 rfl sg101 kc10 ⟨(Nat.le_of_ble_eq_true rfl), (Nat.le_of_ble_eq_true rfl)⟩ nlX10_isCorner (Nat.le_of_ble_eq_true rfl) ⟨(Nat.le_of_ble_eq_true rfl), (Nat.le_of_ble_eq_true rfl)⟩ (sp_X10_isCorner hF (by omega) (by omega)) (fun r46 M46 h46 => ?_)
            obtain ⟨hr46, hM46⟩ := h46
            obtain rfl := hM46.symm
            have hr46 := (hr46.resolve_right (fun h => h.2 hc)).1
            refine tr_ifeq (pc := 49) (tgt := 56) dX10_close_49 (by decide) (fun c49 => absurd c49 (by omega)) (fun c49 => ?_)
            refine tr_iconst (pc := 52) dX10_close_52 ⟨by decide, by decide⟩ ?_
            refine tr_goto (pc := 53) (tgt := 57) dX10_close_53 (by decide) ?_
            refine tr_iadd (pc := 57) dX10_close_57 ⟨by omega, by omega⟩ ?_
            refine tr_istore_n (pc := 58) dX10_close_58 rfl (Nat.le_of_ble_eq_true rfl) ?_
            dsimp only [List.set]
            refine tr_iinc (pc := 59) dX10_close_59 rfl rfl ⟨by omega, by omega⟩ ?_
            dsimp only [List.set]
            refine tr_goto (pc := 62) (tgt := 30) dX10_close_62 (by decide) ?_
            exact ih (t + 1) _ (by omega) (by omega) (by omega) (by omega) (by omega)
          · have hc' := hc
            unfold isc at hc'
            rw [if_neg hc'] at hmn
            refine tr_iload_n (pc := 30) dX10_close_30 rfl ?_
            refine tr_bipush (pc := 31) dX10_close_31 ⟨by decide, ⟨by decide, by decide⟩⟩ ?_
            refine tr_icmpge (pc := 33) (tgt := 65) dX10_close_33 (by decide) (fun c33 => absurd c33 (by omega)) (fun c33 => ?_)
            refine tr_iload_n (pc := 36) dX10_close_36 rfl ?_
            refine tr_aload_n (pc := 37) dX10_close_37 rfl (by decide) ?_
            refine tr_iload_n (pc := 38) dX10_close_38 rfl ?_
            refine tr_bipush (pc := 39) dX10_close_39 ⟨by decide, ⟨by decide, by decide⟩⟩ ?_
            refine tr_idiv (pc := 41) dX10_close_41 (by omega) (by omega) ?_
            refine tr_iload_n (pc := 42) dX10_close_42 rfl ?_
            refine tr_bipush (pc := 43) dX10_close_43 ⟨by decide, ⟨by decide, by decide⟩⟩ ?_
            refine tr_irem (pc := 45) dX10_close_45 (by omega) (by omega) ?_
            refine tr_cVi2 (pc := 46) dX10_close_46 mtX10_isCorner lv10_169 rfl sg101 kc10 ⟨(Nat.le_of_ble_eq_true rfl), (Nat.le_of_ble_eq_true rfl)⟩ nlX10_isCorner (Nat.le_of_ble_eq_true rfl) ⟨(Nat.le_of_ble_eq_true rfl), (Nat.le_of_ble_eq_true rfl)⟩ (sp_X10_isCorner hF (by omega) (by omega)) (fun r46 M46 h46 => ?_)
            obtain ⟨hr46, hM46⟩ := h46
            obtain rfl := hM46.symm
            have hr46 := (hr46.resolve_left (fun h => hc h.2)).1
            refine tr_ifeq (pc := 49) (tgt := 56) dX10_close_49 (by decide) (fun c49 => ?_) (fun c49 => absurd c49 (by omega))
            refine tr_iconst (pc := 56) dX10_close_56 ⟨by decide, by decide⟩ ?_
            refine tr_iadd (pc := 57) dX10_close_57 ⟨by omega, by omega⟩ ?_
            refine tr_istore_n (pc := 58) dX10_close_58 rfl (Nat.le_of_ble_eq_true rfl) ?_
            dsimp only [List.set]
            refine tr_iinc (pc := 59) dX10_close_59 rfl rfl ⟨by omega, by omega⟩ ?_
            dsimp only [List.set]
            refine tr_goto (pc := 62) (tgt := 30) dX10_close_62 (by decide) ?_
            exact ih (t + 1) _ (by omega) (by omega) (by omega) (by omega) (by omega)
      have hgoal : ∀ (v : Int) (M' : tk_M), (v = (if 6 < ((cnr (hl_fc (csel i C)) 100 0).length : Int) then (-4, C) else (((cnr (hl_fc (csel i C)) 100 0).length : Int), cset i (cnr (hl_fc (csel i C)) 100 0) (cdeed i C))).1 ∧ Rg M' (if 6 < ((cnr (hl_fc (csel i C)) 100 0).length : Int) then (-4, C) else (((cnr (hl_fc (csel i C)) 100 0).length : Int), cset i (cnr (hl_fc (csel i C)) 100 0) (cdeed i C))).2 ∧ fR M M') → v = (if 6 < ((cnr (hl_fc (csel i C)) 100 0).length : Int) then (-4, C) else (((hl_pc (hl_fc (csel i C)) 10 0 0 10 []).2.length : Int), cset i (hl_pc (hl_fc (csel i C)) 10 0 0 10 []).2 (cdeed i C))).1 ∧ Rg M' (if 6 < ((cnr (hl_fc (csel i C)) 100 0).length : Int) then (-4, C) else (((hl_pc (hl_fc (csel i C)) 10 0 0 10 []).2.length : Int), cset i (hl_pc (hl_fc (csel i C)) 10 0 0 10 []).2 (cdeed i C))).2 ∧ fR M M' := by
        intro v M' h
        by_cases h6 : 6 < ((cnr (hl_fc (csel i C)) 100 0).length : Int)
        · rw [if_pos h6] at h ⊢; exact h
        · rw [if_neg h6] at h ⊢
          rw [hpc.2 (by omega)]; exact h
      refine tk_mono ?_ hgoal
      refine tr_iload_n (pc := 0) dX10_close_0 rfl ?_
      refine tr_cSi1 (pc := 1) dX10_close_1 mtX10_isIdeal ls10_136 rfl ⟨(Nat.le_of_ble_eq_true rfl), (Nat.le_of_ble_eq_true rfl)⟩ nlX10_isIdeal (Nat.le_of_ble_eq_true rfl) ⟨(Nat.le_of_ble_eq_true rfl), (Nat.le_of_ble_eq_true rfl)⟩ (sp_X10_isIdeal) (fun r1 M1 h1 => ?_)
      obtain ⟨hr1, hM1⟩ := h1
      obtain rfl := hr1.symm
      obtain rfl := hM1.symm
      refine tr_ifne (pc := 4) (tgt := 9) dX10_close_4 (by decide) (fun c4 => ?_) (fun c4 => absurd c4 (by omega))
      refine tr_aload_n (pc := 9) dX10_close_9 rfl (by decide) ?_
      refine tr_getr (pc := 10) (x := 102) dX10_close_10 fi10_11 rfl sg101 rfl ?_
      refine tr_iload_n (pc := 13) dX10_close_13 rfl ?_
      refine tr_iald (pc := 14) dX10_close_14 sg102 (by omega) (by omega) ?_
      refine tr_ifne (pc := 15) (tgt := 21) dX10_close_15 (by decide) (fun c15 => ?_) (fun c15 => absurd c15 (by omega))
      refine tr_aload_n (pc := 21) dX10_close_21 rfl (by decide) ?_
      refine tr_iload_n (pc := 22) dX10_close_22 rfl ?_
      refine tr_cVv1 (pc := 23) dX10_close_23 mtX10_tellsFaces lv10_166 rfl sg101 kc10 ⟨(Nat.le_of_ble_eq_true rfl), (Nat.le_of_ble_eq_true rfl)⟩ nlX10_tellsFaces (Nat.le_of_ble_eq_true rfl) ⟨(Nat.le_of_ble_eq_true rfl), (Nat.le_of_ble_eq_true rfl)⟩ (sp_X10_tellsFaces (by omega) hsel hne hnd1) (fun M23 h23 => ?_)
      obtain ⟨hF, f1⟩ := h23
      refine tr_iconst (pc := 26) dX10_close_26 ⟨by decide, by decide⟩ ?_
      refine tr_istore_n (pc := 27) dX10_close_27 rfl (Nat.le_of_ble_eq_true rfl) ?_
      dsimp only [List.set]
      refine tr_iconst (pc := 28) dX10_close_28 ⟨by decide, by decide⟩ ?_
      refine tr_istore_n (pc := 29) dX10_close_29 rfl (Nat.le_of_ble_eq_true rfl) ?_
      dsimp only [List.set]
      exact loop1 _ M23 hF (hC.hf f1) (fR.hf f1) 100 0 0 (by omega) (by omega) (by omega) (by omega) (by omega)
  · rw [if_pos hi]
    refine tr_iload_n (pc := 0) dX10_close_0 rfl ?_
    refine tr_cSi1 (pc := 1) dX10_close_1 mtX10_isIdeal ls10_136 rfl ⟨(Nat.le_of_ble_eq_true rfl), (Nat.le_of_ble_eq_true rfl)⟩ nlX10_isIdeal (Nat.le_of_ble_eq_true rfl) ⟨(Nat.le_of_ble_eq_true rfl), (Nat.le_of_ble_eq_true rfl)⟩ (sp_X10_isIdeal) (fun r1 M1 h1 => ?_)
    obtain ⟨hr1, hM1⟩ := h1
    obtain rfl := hr1.symm
    obtain rfl := hM1.symm
    refine tr_ifne (pc := 4) (tgt := 9) dX10_close_4 (by decide) (fun c4 => absurd c4 (by omega)) (fun c4 => ?_)
    refine tr_iconst (pc := 7) dX10_close_7 ⟨by decide, by decide⟩ ?_
    refine tr_ireti (pc := 8) dX10_close_8 rfl ?_
    exact ⟨rfl, hC, fR.rf⟩
