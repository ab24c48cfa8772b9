/-- TAPES of the reference are well -/
def tq_ok (M : tk_M) : Prop := ∀ i : Int, 0 ≤ i → i < 6 → (-1 ≤ M 126 i ∧ M 126 i ≤ 4) ∧ (0 ≤ M 127 i ∧ M 127 i ≤ 60) ∧ (M 126 i = -1 → M 127 i = 0)
theorem sp_X10_asSort {G : tk_G} {M : tk_M} {s x : Int} : Spl G FX10_asSort [xI s, xL x] SF M (fun v M' => v = tp_nar s x ∧ M' = M) := by
  refine Spl.of _ mtX10_asSort nlX10_asSort (Nat.le_of_ble_eq_true rfl) ?_
  show Ok G FX10_asSort 0 [xI s, xL x, xU] [] SF M 0 0 _
  refine tr_iload_n (pc := 0) dX10_asSort_0 rfl ?_
  rcases (by omega : s = 0 ∨ s = 1 ∨ s = 2 ∨ s = 3 ∨ (s < 0 ∨ 3 < s)) with c1 | c1 | c1 | c1 | c1
  · skip
    refine tr_table_in (pc := 1) (x := s) (off := 31) (tgt := 32) dX10_asSort_1 (by omega) (by omega) (by rw [c1]; rfl) (by decide) ?_
    refine tr_lload_n (pc := 32) dX10_asSort_32 rfl ?_
    refine tr_l2i (pc := 33) dX10_asSort_33 ?_
    refine tr_i2b (pc := 34) dX10_asSort_34 ?_
    refine tr_i2l (pc := 35) dX10_asSort_35 ?_
    refine tr_lret (pc := 36) dX10_asSort_36 rfl ?_
    refine ⟨?_, rfl⟩
    unfold tp_nar
    repeat' split
    all_goals first | rfl | omega
  · skip
    refine tr_table_in (pc := 1) (x := s) (off := 36) (tgt := 37) dX10_asSort_1 (by omega) (by omega) (by rw [c1]; rfl) (by decide) ?_
    refine tr_lload_n (pc := 37) dX10_asSort_37 rfl ?_
    refine tr_l2i (pc := 38) dX10_asSort_38 ?_
    refine tr_i2s (pc := 39) dX10_asSort_39 ?_
    refine tr_i2l (pc := 40) dX10_asSort_40 ?_
    refine tr_lret (pc := 41) dX10_asSort_41 rfl ?_
    refine ⟨?_, rfl⟩
    unfold tp_nar
    repeat' split
    all_goals first | rfl | omega
  · skip
    refine tr_table_in (pc := 1) (x := s) (off := 41) (tgt := 42) dX10_asSort_1 (by omega) (by omega) (by rw [c1]; rfl) (by decide) ?_
    refine tr_lload_n (pc := 42) dX10_asSort_42 rfl ?_
    refine tr_l2i (pc := 43) dX10_asSort_43 ?_
    refine tr_i2l (pc := 44) dX10_asSort_44 ?_
    refine tr_lret (pc := 45) dX10_asSort_45 rfl ?_
    refine ⟨?_, rfl⟩
    unfold tp_nar
    repeat' split
    all_goals first | rfl | omega
  · skip
    refine tr_table_in (pc := 1) (x := s) (off := 45) (tgt := 46) dX10_asSort_1 (by omega) (by omega) (by rw [c1]; rfl) (by decide) ?_
    refine tr_lload_n (pc := 46) dX10_asSort_46 rfl ?_
    refine tr_lret (pc := 47) dX10_asSort_47 rfl ?_
    refine ⟨?_, rfl⟩
    unfold tp_nar
    repeat' split
    all_goals first | rfl | omega
  · skip
    refine tr_table_out (pc := 1) (x := s) (tgt := 48) dX10_asSort_1 (by omega) (by decide) ?_
    refine tr_lload_n (pc := 48) dX10_asSort_48 rfl ?_
    refine tr_lconst (pc := 49) (x := 0) dX10_asSort_49 (by decide) ⟨by decide, by decide⟩ ?_
    refine tr_lceq (pc := 50) (tgt := 58) dX10_asSort_50 dX10_asSort_51 (by decide) (fun c50 => ?_) (fun c50 => ?_)
    · skip
      refine tr_lconst (pc := 58) (x := 0) dX10_asSort_58 (by decide) ⟨by decide, by decide⟩ ?_
      refine tr_lret (pc := 59) dX10_asSort_59 rfl ?_
      refine ⟨?_, rfl⟩
      unfold tp_nar
      repeat' split
      all_goals first | rfl | omega
    · skip
      refine tr_lconst (pc := 54) (x := 1) dX10_asSort_54 (by decide) ⟨by decide, by decide⟩ ?_
      refine tr_goto (pc := 55) (tgt := 59) dX10_asSort_55 (by decide) ?_
      refine tr_lret (pc := 59) dX10_asSort_59 rfl ?_
      refine ⟨?_, rfl⟩
      unfold tp_nar
      repeat' split
      all_goals first | rfl | omega
theorem sp_X10_tape {G : tk_G} {M : tk_M} {t s n : Int} : Spi G FX10_tape [xR 101, xI t, xI s, xI n] SF M (fun v M' => (¬ (0 ≤ t ∧ t ≤ 5) ∧ v = -1 ∧ M' = M) ∨ ((0 ≤ t ∧ t ≤ 5) ∧ s ≠ -1 ∧ (¬ (0 ≤ s ∧ s ≤ 4) ∨ 60 < n) ∧ v = -2 ∧ M' = M) ∨ ((0 ≤ t ∧ t ≤ 5) ∧ (0 ≤ s ∧ s ≤ 4) ∧ n < 0 ∧ v = -14 ∧ M' = M) ∨ ((0 ≤ t ∧ t ≤ 5) ∧ v = 1 ∧ (s = -1 ∨ (0 ≤ s ∧ s ≤ 4) ∧ 0 ≤ n ∧ n ≤ 60) ∧ M' 126 t = s ∧ M' 127 t = (if s = -1 then 0 else n) ∧ (∀ i, 0 ≤ i → i < 60 → M' 128 (60 * t + i) = 0) ∧ (∀ c, c ≠ 126 → c ≠ 127 → c ≠ 128 → M' c = M c) ∧ (∀ j, j ≠ t → M' 126 j = M 126 j ∧ M' 127 j = M 127 j) ∧ (∀ p, (p < 60 * t ∨ 60 * t + 60 ≤ p) → M' 128 p = M 128 p))) := by
  refine Spi.of _ mtX10_tape nlX10_tape (Nat.le_of_ble_eq_true rfl) ?_
  show Ok G FX10_tape 0 [xR 101, xI t, xI s, xI n, xU] [] SF M 0 0 _
  have loop : (0 ≤ t ∧ t ≤ 5) → (s = -1 ∨ (0 ≤ s ∧ s ≤ 4) ∧ 0 ≤ n ∧ n ≤ 60) → ∀ (d : Nat) (k : Int) (M1 : tk_M), k + d = 60 → 0 ≤ k → M1 126 t = s → M1 127 t = (if s = -1 then 0 else n) → (∀ i, 0 ≤ i → i < k → M1 128 (60 * t + i) = 0) → (∀ c, c ≠ 126 → c ≠ 127 → c ≠ 128 → M1 c = M c) → (∀ j, j ≠ t → M1 126 j = M 126 j ∧ M1 127 j = M 127 j) → (∀ p, (p < 60 * t ∨ 60 * t + 60 ≤ p) → M1 128 p = M 128 p) → Ok G FX10_tape 75 [xR 101, xI t, xI s, xI n, xI k] [] SF M1 0 0 (tk_qi SF (fun v M' => (¬ (0 ≤ t ∧ t ≤ 5) ∧ v = -1 ∧ M' = M) ∨ ((0 ≤ t ∧ t ≤ 5) ∧ s ≠ -1 ∧ (¬ (0 ≤ s ∧ s ≤ 4) ∨ 60 < n) ∧ v = -2 ∧ M' = M) ∨ ((0 ≤ t ∧ t ≤ 5) ∧ (0 ≤ s ∧ s ≤ 4) ∧ n < 0 ∧ v = -14 ∧ M' = M) ∨ ((0 ≤ t ∧ t ≤ 5) ∧ v = 1 ∧ (s = -1 ∨ (0 ≤ s ∧ s ≤ 4) ∧ 0 ≤ n ∧ n ≤ 60) ∧ M' 126 t = s ∧ M' 127 t = (if s = -1 then 0 else n) ∧ (∀ i, 0 ≤ i → i < 60 → M' 128 (60 * t + i) = 0) ∧ (∀ c, c ≠ 126 → c ≠ 127 → c ≠ 128 → M' c = M c) ∧ (∀ j, j ≠ t → M' 126 j = M 126 j ∧ M' 127 j = M 127 j) ∧ (∀ p, (p < 60 * t ∨ 60 * t + 60 ≤ p) → M' 128 p = M 128 p)))) := by
    intro ht hs d
    induction d with
    | zero =>
      intro k M1 hd hk a1 a2 a3 a4 a5 a6
      refine tr_iload (pc := 75) dX10_tape_75 rfl ?_
      refine tr_bipush (pc := 77) dX10_tape_77 ⟨by decide, ⟨by decide, by decide⟩⟩ ?_
      refine tr_icmpge (pc := 79) (tgt := 101) dX10_tape_79 (by decide) (fun c79 => ?_) (fun c79 => absurd c79 (by omega))
      refine tr_iconst (pc := 101) dX10_tape_101 ⟨by decide, by decide⟩ ?_
      refine tr_ireti (pc := 102) dX10_tape_102 rfl ?_
      exact Or.inr (Or.inr (Or.inr ⟨ht, rfl, hs, a1, a2, fun i i0 i1 => a3 i i0 (by omega), a4, a5, a6⟩))
    | succ d ih =>
      intro k M1 hd hk a1 a2 a3 a4 a5 a6
      refine tr_iload (pc := 75) dX10_tape_75 rfl ?_
      refine tr_bipush (pc := 77) dX10_tape_77 ⟨by decide, ⟨by decide, by decide⟩⟩ ?_
      refine tr_icmpge (pc := 79) (tgt := 101) dX10_tape_79 (by decide) (fun c79 => absurd c79 (by omega)) (fun c79 => ?_)
      refine tr_aload_n (pc := 82) dX10_tape_82 rfl (by decide) ?_
      refine tr_getr (pc := 83) (x := 128) dX10_tape_83 fi10_90 rfl sg101 rfl ?_
      refine tr_bipush (pc := 86) dX10_tape_86 ⟨by decide, ⟨by decide, by decide⟩⟩ ?_
      refine tr_iload_n (pc := 88) dX10_tape_88 rfl ?_
      refine tr_imul (pc := 89) dX10_tape_89 ⟨by omega, by omega⟩ ?_
      refine tr_iload (pc := 90) dX10_tape_90 rfl ?_
      refine tr_iadd (pc := 92) dX10_tape_92 ⟨by omega, by omega⟩ ?_
      refine tr_lconst (pc := 93) (x := 0) dX10_tape_93 (by decide) ⟨by decide, by decide⟩ ?_
      refine tr_last (pc := 94) dX10_tape_94 sg128 (by omega) (by omega) ?_
      refine tr_iinc (pc := 95) dX10_tape_95 rfl rfl ⟨by omega, by omega⟩ ?_
      dsimp only [List.set]
      refine tr_goto (pc := 98) (tgt := 75) dX10_tape_98 (by decide) ?_
      refine ih (k + 1) _ (by omega) (by omega) (by rw [tk_mu_c (by omega)]; exact a1) (by rw [tk_mu_c (by omega)]; exact a2) (fun i i0 i1 => ?_) (fun c c1 c2 c3 => (tk_mu_c c3).trans (a4 c c1 c2 c3)) (fun j hj => ?_) (fun p hp => ?_)
      · by_cases hik : i = k
        · subst hik; rw [tk_mu_at]
        · rw [tk_mu_i (by omega)]; exact a3 i i0 (by omega)
      · rw [tk_mu_c (by omega), tk_mu_c (by omega)]; exact a5 j hj
      · rw [tk_mu_i (by omega)]; exact a6 p hp
  refine tr_iload_n (pc := 0) dX10_tape_0 rfl ?_
  refine tr_cSi1 (pc := 1) dX10_tape_1 mtX10_isTape ls10_348 rfl ⟨(Nat.le_of_ble_eq_true rfl), (Nat.le_of_ble_eq_true rfl)⟩ nlX10_isTape (Nat.le_of_ble_eq_true rfl) ⟨(Nat.le_of_ble_eq_true rfl), (Nat.le_of_ble_eq_true rfl)⟩ (sp_X10_isTape) (fun r1 M1 h1 => ?_)
  obtain ⟨hr1, hM1⟩ := h1
  obtain rfl := hr1.symm
  obtain rfl := hM1.symm
  refine tr_ifne (pc := 4) (tgt := 9) dX10_tape_4 (by decide) (fun c4 => ?_) (fun c4 => ?_)
  · skip
    refine tr_iload_n (pc := 9) dX10_tape_9 rfl ?_
    refine tr_i2l (pc := 10) dX10_tape_10 ?_
    refine tr_ldc2 (pc := 11) dX10_tape_11 kn10_351 ⟨by decide, by decide⟩ ?_
    refine tr_ldc2 (pc := 14) dX10_tape_14 kn10_243 ⟨by decide, by decide⟩ ?_
    refine tr_cSi3 (pc := 17) dX10_tape_17 mtX10_isFrom ls10_115 rfl ⟨(Nat.le_of_ble_eq_true rfl), (Nat.le_of_ble_eq_true rfl)⟩ nlX10_isFrom (Nat.le_of_ble_eq_true rfl) ⟨(Nat.le_of_ble_eq_true rfl), (Nat.le_of_ble_eq_true rfl)⟩ (sp_X10_isFrom) (fun r17 M17 h17 => ?_)
    obtain ⟨hr17, hM17⟩ := h17
    obtain rfl := hr17.symm
    obtain rfl := hM17.symm
    refine tr_ifeq (pc := 20) (tgt := 34) dX10_tape_20 (by decide) (fun c20 => ?_) (fun c20 => ?_)
    · skip
      refine tr_bipush (pc := 34) dX10_tape_34 ⟨by decide, ⟨by decide, by decide⟩⟩ ?_
      refine tr_ireti (pc := 36) dX10_tape_36 rfl ?_
      exact Or.inr (Or.inl ⟨by omega, by omega, by omega, rfl, rfl⟩)
    · skip
      refine tr_iload_n (pc := 23) dX10_tape_23 rfl ?_
      refine tr_iconst (pc := 24) dX10_tape_24 ⟨by decide, by decide⟩ ?_
      refine tr_icmpeq (pc := 25) (tgt := 37) dX10_tape_25 (by decide) (fun c25 => ?_) (fun c25 => ?_)
      · skip
        refine tr_iload_n (pc := 37) dX10_tape_37 rfl ?_
        refine tr_iconst (pc := 38) dX10_tape_38 ⟨by decide, by decide⟩ ?_
        refine tr_icmpeq (pc := 39) (tgt := 49) dX10_tape_39 (by decide) (fun c39 => ?_) (fun c39 => ?_)
        · skip
          refine tr_aload_n (pc := 49) dX10_tape_49 rfl (by decide) ?_
          refine tr_getr (pc := 50) (x := 126) dX10_tape_50 fi10_84 rfl sg101 rfl ?_
          refine tr_iload_n (pc := 53) dX10_tape_53 rfl ?_
          refine tr_iload_n (pc := 54) dX10_tape_54 rfl ?_
          refine tr_iast (pc := 55) dX10_tape_55 sg126 (by omega) (by omega) ?_
          refine tr_aload_n (pc := 56) dX10_tape_56 rfl (by decide) ?_
          refine tr_getr (pc := 57) (x := 127) dX10_tape_57 fi10_87 rfl sg101 rfl ?_
          refine tr_iload_n (pc := 60) dX10_tape_60 rfl ?_
          refine tr_iload_n (pc := 61) dX10_tape_61 rfl ?_
          refine tr_iconst (pc := 62) dX10_tape_62 ⟨by decide, by decide⟩ ?_
          refine tr_icmpne (pc := 63) (tgt := 70) dX10_tape_63 (by decide) (fun c63 => ?_) (fun c63 => ?_)
          · skip
            refine tr_iload_n (pc := 70) dX10_tape_70 rfl ?_
            refine tr_iast (pc := 71) dX10_tape_71 sg127 (by omega) (by omega) ?_
            by_cases hcon : s = -1 ∨ (0 ≤ s ∧ s ≤ 4) ∧ 0 ≤ n ∧ n ≤ 60
            rotate_left
            · exfalso; omega
            refine tr_iconst (pc := 72) dX10_tape_72 ⟨by decide, by decide⟩ ?_
            refine tr_istore (pc := 73) dX10_tape_73 rfl (Nat.le_of_ble_eq_true rfl) ?_
            dsimp only [List.set]
            refine loop (by omega) hcon 60 0 _ (by omega) (by omega) (by rw [tk_mu_c (by omega), tk_mu_at]) ?_ (fun i i0 i1 => by omega) (fun c c1 c2 c3 => by rw [tk_mu_c c2, tk_mu_c c1]) (fun j hj => ?_) (fun p hp => by rw [tk_mu_c (by omega), tk_mu_c (by omega)])
            · rw [tk_mu_at]
              first
              | (exfalso; omega)
              | rw [if_pos (show s = -1 by omega)]
              | rw [if_neg (show ¬ s = -1 by omega)]
            · exact ⟨by rw [tk_mu_i hj, tk_mu_i hj], by rw [tk_mu_i hj, tk_mu_i hj]⟩
          · skip
            refine tr_iconst (pc := 66) dX10_tape_66 ⟨by decide, by decide⟩ ?_
            refine tr_goto (pc := 67) (tgt := 71) dX10_tape_67 (by decide) ?_
            refine tr_iast (pc := 71) dX10_tape_71 sg127 (by omega) (by omega) ?_
            by_cases hcon : s = -1 ∨ (0 ≤ s ∧ s ≤ 4) ∧ 0 ≤ n ∧ n ≤ 60
            rotate_left
            · exfalso; omega
            refine tr_iconst (pc := 72) dX10_tape_72 ⟨by decide, by decide⟩ ?_
            refine tr_istore (pc := 73) dX10_tape_73 rfl (Nat.le_of_ble_eq_true rfl) ?_
            dsimp only [List.set]
            refine loop (by omega) hcon 60 0 _ (by omega) (by omega) (by rw [tk_mu_c (by omega), tk_mu_at]) ?_ (fun i i0 i1 => by omega) (fun c c1 c2 c3 => by rw [tk_mu_c c2, tk_mu_c c1]) (fun j hj => ?_) (fun p hp => by rw [tk_mu_c (by omega), tk_mu_c (by omega)])
            · rw [tk_mu_at]
              first
              | (exfalso; omega)
              | rw [if_pos (show s = -1 by omega)]
              | rw [if_neg (show ¬ s = -1 by omega)]
            · exact ⟨by rw [tk_mu_i hj, tk_mu_i hj], by rw [tk_mu_i hj, tk_mu_i hj]⟩
        · skip
          refine tr_iload_n (pc := 42) dX10_tape_42 rfl ?_
          refine tr_ifge (pc := 43) (tgt := 49) dX10_tape_43 (by decide) (fun c43 => ?_) (fun c43 => ?_)
          · skip
            refine tr_aload_n (pc := 49) dX10_tape_49 rfl (by decide) ?_
            refine tr_getr (pc := 50) (x := 126) dX10_tape_50 fi10_84 rfl sg101 rfl ?_
            refine tr_iload_n (pc := 53) dX10_tape_53 rfl ?_
            refine tr_iload_n (pc := 54) dX10_tape_54 rfl ?_
            refine tr_iast (pc := 55) dX10_tape_55 sg126 (by omega) (by omega) ?_
            refine tr_aload_n (pc := 56) dX10_tape_56 rfl (by decide) ?_
            refine tr_getr (pc := 57) (x := 127) dX10_tape_57 fi10_87 rfl sg101 rfl ?_
            refine tr_iload_n (pc := 60) dX10_tape_60 rfl ?_
            refine tr_iload_n (pc := 61) dX10_tape_61 rfl ?_
            refine tr_iconst (pc := 62) dX10_tape_62 ⟨by decide, by decide⟩ ?_
            refine tr_icmpne (pc := 63) (tgt := 70) dX10_tape_63 (by decide) (fun c63 => ?_) (fun c63 => ?_)
            · skip
              refine tr_iload_n (pc := 70) dX10_tape_70 rfl ?_
              refine tr_iast (pc := 71) dX10_tape_71 sg127 (by omega) (by omega) ?_
              by_cases hcon : s = -1 ∨ (0 ≤ s ∧ s ≤ 4) ∧ 0 ≤ n ∧ n ≤ 60
              rotate_left
              · exfalso; omega
              refine tr_iconst (pc := 72) dX10_tape_72 ⟨by decide, by decide⟩ ?_
              refine tr_istore (pc := 73) dX10_tape_73 rfl (Nat.le_of_ble_eq_true rfl) ?_
              dsimp only [List.set]
              refine loop (by omega) hcon 60 0 _ (by omega) (by omega) (by rw [tk_mu_c (by omega), tk_mu_at]) ?_ (fun i i0 i1 => by omega) (fun c c1 c2 c3 => by rw [tk_mu_c c2, tk_mu_c c1]) (fun j hj => ?_) (fun p hp => by rw [tk_mu_c (by omega), tk_mu_c (by omega)])
              · rw [tk_mu_at]
                first
                | (exfalso; omega)
                | rw [if_pos (show s = -1 by omega)]
                | rw [if_neg (show ¬ s = -1 by omega)]
              · exact ⟨by rw [tk_mu_i hj, tk_mu_i hj], by rw [tk_mu_i hj, tk_mu_i hj]⟩
            · skip
              refine tr_iconst (pc := 66) dX10_tape_66 ⟨by decide, by decide⟩ ?_
              refine tr_goto (pc := 67) (tgt := 71) dX10_tape_67 (by decide) ?_
              refine tr_iast (pc := 71) dX10_tape_71 sg127 (by omega) (by omega) ?_
              by_cases hcon : s = -1 ∨ (0 ≤ s ∧ s ≤ 4) ∧ 0 ≤ n ∧ n ≤ 60
              rotate_left
              · exfalso; omega
              refine tr_iconst (pc := 72) dX10_tape_72 ⟨by decide, by decide⟩ ?_
              refine tr_istore (pc := 73) dX10_tape_73 rfl (Nat.le_of_ble_eq_true rfl) ?_
              dsimp only [List.set]
              refine loop (by omega) hcon 60 0 _ (by omega) (by omega) (by rw [tk_mu_c (by omega), tk_mu_at]) ?_ (fun i i0 i1 => by omega) (fun c c1 c2 c3 => by rw [tk_mu_c c2, tk_mu_c c1]) (fun j hj => ?_) (fun p hp => by rw [tk_mu_c (by omega), tk_mu_c (by omega)])
              · rw [tk_mu_at]
                first
                | (exfalso; omega)
                | rw [if_pos (show s = -1 by omega)]
                | rw [if_neg (show ¬ s = -1 by omega)]
              · exact ⟨by rw [tk_mu_i hj, tk_mu_i hj], by rw [tk_mu_i hj, tk_mu_i hj]⟩
          · skip
            refine tr_bipush (pc := 46) dX10_tape_46 ⟨by decide, ⟨by decide, by decide⟩⟩ ?_
            refine tr_ireti (pc := 48) dX10_tape_48 rfl ?_
            exact Or.inr (Or.inr (Or.inl ⟨by omega, by omega, by omega, rfl, rfl⟩))
      · skip
        refine tr_iload_n (pc := 28) dX10_tape_28 rfl ?_
        refine tr_bipush (pc := 29) dX10_tape_29 ⟨by decide, ⟨by decide, by decide⟩⟩ ?_
        refine tr_icmple (pc := 31) (tgt := 37) dX10_tape_31 (by decide) (fun c31 => ?_) (fun c31 => ?_)
        · skip
          refine tr_iload_n (pc := 37) dX10_tape_37 rfl ?_
          refine tr_iconst (pc := 38) dX10_tape_38 ⟨by decide, by decide⟩ ?_
          refine tr_icmpeq (pc := 39) (tgt := 49) dX10_tape_39 (by decide) (fun c39 => ?_) (fun c39 => ?_)
          · skip
            refine tr_aload_n (pc := 49) dX10_tape_49 rfl (by decide) ?_
            refine tr_getr (pc := 50) (x := 126) dX10_tape_50 fi10_84 rfl sg101 rfl ?_
            refine tr_iload_n (pc := 53) dX10_tape_53 rfl ?_
            refine tr_iload_n (pc := 54) dX10_tape_54 rfl ?_
            refine tr_iast (pc := 55) dX10_tape_55 sg126 (by omega) (by omega) ?_
            refine tr_aload_n (pc := 56) dX10_tape_56 rfl (by decide) ?_
            refine tr_getr (pc := 57) (x := 127) dX10_tape_57 fi10_87 rfl sg101 rfl ?_
            refine tr_iload_n (pc := 60) dX10_tape_60 rfl ?_
            refine tr_iload_n (pc := 61) dX10_tape_61 rfl ?_
            refine tr_iconst (pc := 62) dX10_tape_62 ⟨by decide, by decide⟩ ?_
            refine tr_icmpne (pc := 63) (tgt := 70) dX10_tape_63 (by decide) (fun c63 => ?_) (fun c63 => ?_)
            · skip
              refine tr_iload_n (pc := 70) dX10_tape_70 rfl ?_
              refine tr_iast (pc := 71) dX10_tape_71 sg127 (by omega) (by omega) ?_
              by_cases hcon : s = -1 ∨ (0 ≤ s ∧ s ≤ 4) ∧ 0 ≤ n ∧ n ≤ 60
              rotate_left
              · exfalso; omega
              refine tr_iconst (pc := 72) dX10_tape_72 ⟨by decide, by decide⟩ ?_
              refine tr_istore (pc := 73) dX10_tape_73 rfl (Nat.le_of_ble_eq_true rfl) ?_
              dsimp only [List.set]
              refine loop (by omega) hcon 60 0 _ (by omega) (by omega) (by rw [tk_mu_c (by omega), tk_mu_at]) ?_ (fun i i0 i1 => by omega) (fun c c1 c2 c3 => by rw [tk_mu_c c2, tk_mu_c c1]) (fun j hj => ?_) (fun p hp => by rw [tk_mu_c (by omega), tk_mu_c (by omega)])
              · rw [tk_mu_at]
                first
                | (exfalso; omega)
                | rw [if_pos (show s = -1 by omega)]
                | rw [if_neg (show ¬ s = -1 by omega)]
              · exact ⟨by rw [tk_mu_i hj, tk_mu_i hj], by rw [tk_mu_i hj, tk_mu_i hj]⟩
            · skip
              refine tr_iconst (pc := 66) dX10_tape_66 ⟨by decide, by decide⟩ ?_
              refine tr_goto (pc := 67) (tgt := 71) dX10_tape_67 (by decide) ?_
              refine tr_iast (pc := 71) dX10_tape_71 sg127 (by omega) (by omega) ?_
              by_cases hcon : s = -1 ∨ (0 ≤ s ∧ s ≤ 4) ∧ 0 ≤ n ∧ n ≤ 60
              rotate_left
              · exfalso; omega
              refine tr_iconst (pc := 72) dX10_tape_72 ⟨by decide, by decide⟩ ?_
              refine tr_istore (pc := 73) dX10_tape_73 rfl (Nat.le_of_ble_eq_true rfl) ?_
              dsimp only [List.set]
              refine loop (by omega) hcon 60 0 _ (by omega) (by omega) (by rw [tk_mu_c (by omega), tk_mu_at]) ?_ (fun i i0 i1 => by omega) (fun c c1 c2 c3 => by rw [tk_mu_c c2, tk_mu_c c1]) (fun j hj => ?_) (fun p hp => by rw [tk_mu_c (by omega), tk_mu_c (by omega)])
              · rw [tk_mu_at]
                first
                | (exfalso; omega)
                | rw [if_pos (show s = -1 by omega)]
                | rw [if_neg (show ¬ s = -1 by omega)]
              · exact ⟨by rw [tk_mu_i hj, tk_mu_i hj], by rw [tk_mu_i hj, tk_mu_i hj]⟩
          · skip
            refine tr_iload_n (pc := 42) dX10_tape_42 rfl ?_
            refine tr_ifge (pc := 43) (tgt := 49) dX10_tape_43 (by decide) (fun c43 => ?_) (fun c43 => ?_)
            · skip
              refine tr_aload_n (pc := 49) dX10_tape_49 rfl (by decide) ?_
              refine tr_getr (pc := 50) (x := 126) dX10_tape_50 fi10_84 rfl sg101 rfl ?_
              refine tr_iload_n (pc := 53) dX10_tape_53 rfl ?_
              refine tr_iload_n (pc := 54) dX10_tape_54 rfl ?_
              refine tr_iast (pc := 55) dX10_tape_55 sg126 (by omega) (by omega) ?_
              refine tr_aload_n (pc := 56) dX10_tape_56 rfl (by decide) ?_
              refine tr_getr (pc := 57) (x := 127) dX10_tape_57 fi10_87 rfl sg101 rfl ?_
              refine tr_iload_n (pc := 60) dX10_tape_60 rfl ?_
              refine tr_iload_n (pc := 61) dX10_tape_61 rfl ?_
              refine tr_iconst (pc := 62) dX10_tape_62 ⟨by decide, by decide⟩ ?_
              refine tr_icmpne (pc := 63) (tgt := 70) dX10_tape_63 (by decide) (fun c63 => ?_) (fun c63 => ?_)
              · skip
                refine tr_iload_n (pc := 70) dX10_tape_70 rfl ?_
                refine tr_iast (pc := 71) dX10_tape_71 sg127 (by omega) (by omega) ?_
                by_cases hcon : s = -1 ∨ (0 ≤ s ∧ s ≤ 4) ∧ 0 ≤ n ∧ n ≤ 60
                rotate_left
                · exfalso; omega
                refine tr_iconst (pc := 72) dX10_tape_72 ⟨by decide, by decide⟩ ?_
                refine tr_istore (pc := 73) dX10_tape_73 rfl (Nat.le_of_ble_eq_true rfl) ?_
                dsimp only [List.set]
                refine loop (by omega) hcon 60 0 _ (by omega) (by omega) (by rw [tk_mu_c (by omega), tk_mu_at]) ?_ (fun i i0 i1 => by omega) (fun c c1 c2 c3 => by rw [tk_mu_c c2, tk_mu_c c1]) (fun j hj => ?_) (fun p hp => by rw [tk_mu_c (by omega), tk_mu_c (by omega)])
                · rw [tk_mu_at]
                  first
                  | (exfalso; omega)
                  | rw [if_pos (show s = -1 by omega)]
                  | rw [if_neg (show ¬ s = -1 by omega)]
                · exact ⟨by rw [tk_mu_i hj, tk_mu_i hj], by rw [tk_mu_i hj, tk_mu_i hj]⟩
              · skip
                refine tr_iconst (pc := 66) dX10_tape_66 ⟨by decide, by decide⟩ ?_
                refine tr_goto (pc := 67) (tgt := 71) dX10_tape_67 (by decide) ?_
                refine tr_iast (pc := 71) dX10_tape_71 sg127 (by omega) (by omega) ?_
                by_cases hcon : s = -1 ∨ (0 ≤ s ∧ s ≤ 4) ∧ 0 ≤ n ∧ n ≤ 60
                rotate_left
                · exfalso; omega
                refine tr_iconst (pc := 72) dX10_tape_72 ⟨by decide, by decide⟩ ?_
                refine tr_istore (pc := 73) dX10_tape_73 rfl (Nat.le_of_ble_eq_true rfl) ?_
                dsimp only [List.set]
                refine loop (by omega) hcon 60 0 _ (by omega) (by omega) (by rw [tk_mu_c (by omega), tk_mu_at]) ?_ (fun i i0 i1 => by omega) (fun c c1 c2 c3 => by rw [tk_mu_c c2, tk_mu_c c1]) (fun j hj => ?_) (fun p hp => by rw [tk_mu_c (by omega), tk_mu_c (by omega)])
                · rw [tk_mu_at]
                  first
                  | (exfalso; omega)
                  | rw [if_pos (show s = -1 by omega)]
                  | rw [if_neg (show ¬ s = -1 by omega)]
                · exact ⟨by rw [tk_mu_i hj, tk_mu_i hj], by rw [tk_mu_i hj, tk_mu_i hj]⟩
            · skip
              refine tr_bipush (pc := 46) dX10_tape_46 ⟨by decide, ⟨by decide, by decide⟩⟩ ?_
              refine tr_ireti (pc := 48) dX10_tape_48 rfl ?_
              exact Or.inr (Or.inr (Or.inl ⟨by omega, by omega, by omega, rfl, rfl⟩))
        · skip
          refine tr_bipush (pc := 34) dX10_tape_34 ⟨by decide, ⟨by decide, by decide⟩⟩ ?_
          refine tr_ireti (pc := 36) dX10_tape_36 rfl ?_
          exact Or.inr (Or.inl ⟨by omega, by omega, by omega, rfl, rfl⟩)
  · skip
    refine tr_iconst (pc := 7) dX10_tape_7 ⟨by decide, by decide⟩ ?_
    refine tr_ireti (pc := 8) dX10_tape_8 rfl ?_
    exact Or.inl ⟨by omega, rfl, rfl⟩
theorem sp_X10_item {G : tk_G} {M : tk_M} {t i x : Int} (hT : tq_ok M) : Spi G FX10_item [xR 101, xI t, xI i, xL x] SF M (fun v M' => (¬ (0 ≤ t ∧ t ≤ 5) ∧ v = -1 ∧ M' = M) ∨ ((0 ≤ t ∧ t ≤ 5) ∧ M 126 t = -1 ∧ v = -11 ∧ M' = M) ∨ ((0 ≤ t ∧ t ≤ 5) ∧ M 126 t ≠ -1 ∧ ¬ (0 ≤ i ∧ i < M 127 t) ∧ v = -13 ∧ M' = M) ∨ ((0 ≤ t ∧ t ≤ 5) ∧ M 126 t ≠ -1 ∧ (0 ≤ i ∧ i < M 127 t) ∧ v = 1 ∧ M' = tk_mu M 128 (60 * t + i) (tp_nar (M 126 t) x))) := by
  refine Spi.of _ mtX10_item nlX10_item (Nat.le_of_ble_eq_true rfl) ?_
  show Ok G FX10_item 0 [xR 101, xI t, xI i, xL x, xU] [] SF M 0 0 _
  by_cases ht : 0 ≤ t ∧ t ≤ 5
  · skip
    have hTt := hT t ht.1 (by omega)
    refine tr_iload_n (pc := 0) dX10_item_0 rfl ?_
    refine tr_cSi1 (pc := 1) dX10_item_1 mtX10_isTape ls10_348 rfl ⟨(Nat.le_of_ble_eq_true rfl), (Nat.le_of_ble_eq_true rfl)⟩ nlX10_isTape (Nat.le_of_ble_eq_true rfl) ⟨(Nat.le_of_ble_eq_true rfl), (Nat.le_of_ble_eq_true rfl)⟩ (sp_X10_isTape) (fun r1 M1 h1 => ?_)
    obtain ⟨hr1, hM1⟩ := h1
    obtain rfl := hr1.symm
    obtain rfl := hM1.symm
    refine tr_ifne (pc := 4) (tgt := 9) dX10_item_4 (by decide) (fun c4 => ?_) (fun c4 => ?_)
    · skip
      refine tr_aload_n (pc := 9) dX10_item_9 rfl (by decide) ?_
      refine tr_getr (pc := 10) (x := 126) dX10_item_10 fi10_84 rfl sg101 rfl ?_
      refine tr_iload_n (pc := 13) dX10_item_13 rfl ?_
      refine tr_iald (pc := 14) dX10_item_14 sg126 (by omega) (by omega) ?_
      refine tr_iconst (pc := 15) dX10_item_15 ⟨by decide, by decide⟩ ?_
      refine tr_icmpne (pc := 16) (tgt := 22) dX10_item_16 (by decide) (fun c16 => ?_) (fun c16 => ?_)
      · skip
        refine tr_iload_n (pc := 22) dX10_item_22 rfl ?_
        refine tr_i2l (pc := 23) dX10_item_23 ?_
        refine tr_lconst (pc := 24) (x := 0) dX10_item_24 (by decide) ⟨by decide, by decide⟩ ?_
        refine tr_aload_n (pc := 25) dX10_item_25 rfl (by decide) ?_
        refine tr_getr (pc := 26) (x := 127) dX10_item_26 fi10_87 rfl sg101 rfl ?_
        refine tr_iload_n (pc := 29) dX10_item_29 rfl ?_
        refine tr_iald (pc := 30) dX10_item_30 sg127 (by omega) (by omega) ?_
        refine tr_iconst (pc := 31) dX10_item_31 ⟨by decide, by decide⟩ ?_
        refine tr_isub (pc := 32) dX10_item_32 ⟨by omega, by omega⟩ ?_
        refine tr_i2l (pc := 33) dX10_item_33 ?_
        refine tr_cSi3 (pc := 34) dX10_item_34 mtX10_isFrom ls10_115 rfl ⟨(Nat.le_of_ble_eq_true rfl), (Nat.le_of_ble_eq_true rfl)⟩ nlX10_isFrom (Nat.le_of_ble_eq_true rfl) ⟨(Nat.le_of_ble_eq_true rfl), (Nat.le_of_ble_eq_true rfl)⟩ (sp_X10_isFrom) (fun r34 M34 h34 => ?_)
        obtain ⟨hr34, hM34⟩ := h34
        obtain rfl := hr34.symm
        obtain rfl := hM34.symm
        refine tr_ifne (pc := 37) (tgt := 43) dX10_item_37 (by decide) (fun c37 => ?_) (fun c37 => ?_)
        · skip
          refine tr_aload_n (pc := 43) dX10_item_43 rfl (by decide) ?_
          refine tr_getr (pc := 44) (x := 128) dX10_item_44 fi10_90 rfl sg101 rfl ?_
          refine tr_bipush (pc := 47) dX10_item_47 ⟨by decide, ⟨by decide, by decide⟩⟩ ?_
          refine tr_iload_n (pc := 49) dX10_item_49 rfl ?_
          refine tr_imul (pc := 50) dX10_item_50 ⟨by omega, by omega⟩ ?_
          refine tr_iload_n (pc := 51) dX10_item_51 rfl ?_
          refine tr_iadd (pc := 52) dX10_item_52 ⟨by omega, by omega⟩ ?_
          refine tr_aload_n (pc := 53) dX10_item_53 rfl (by decide) ?_
          refine tr_getr (pc := 54) (x := 126) dX10_item_54 fi10_84 rfl sg101 rfl ?_
          refine tr_iload_n (pc := 57) dX10_item_57 rfl ?_
          refine tr_iald (pc := 58) dX10_item_58 sg126 (by omega) (by omega) ?_
          refine tr_lload_n (pc := 59) dX10_item_59 rfl ?_
          refine tr_cSl2 (pc := 60) dX10_item_60 mtX10_asSort ls10_353 rfl ⟨(Nat.le_of_ble_eq_true rfl), (Nat.le_of_ble_eq_true rfl)⟩ nlX10_asSort (Nat.le_of_ble_eq_true rfl) ⟨(Nat.le_of_ble_eq_true rfl), (Nat.le_of_ble_eq_true rfl)⟩ (sp_X10_asSort) (fun r60 M60 h60 => ?_)
          obtain ⟨hr60, hM60⟩ := h60
          obtain rfl := hr60.symm
          obtain rfl := hM60.symm
          refine tr_last (pc := 63) dX10_item_63 sg128 (by omega) (by omega) ?_
          refine tr_iconst (pc := 64) dX10_item_64 ⟨by decide, by decide⟩ ?_
          refine tr_ireti (pc := 65) dX10_item_65 rfl ?_
          exact Or.inr (Or.inr (Or.inr ⟨ht, by omega, by omega, rfl, rfl⟩))
        · skip
          refine tr_bipush (pc := 40) dX10_item_40 ⟨by decide, ⟨by decide, by decide⟩⟩ ?_
          refine tr_ireti (pc := 42) dX10_item_42 rfl ?_
          exact Or.inr (Or.inr (Or.inl ⟨ht, by omega, by omega, rfl, rfl⟩))
      · skip
        refine tr_bipush (pc := 19) dX10_item_19 ⟨by decide, ⟨by decide, by decide⟩⟩ ?_
        refine tr_ireti (pc := 21) dX10_item_21 rfl ?_
        exact Or.inr (Or.inl ⟨ht, by omega, rfl, rfl⟩)
    · skip
      refine tr_iconst (pc := 7) dX10_item_7 ⟨by decide, by decide⟩ ?_
      refine tr_ireti (pc := 8) dX10_item_8 rfl ?_
      exact Or.inl ⟨by omega, rfl, rfl⟩
  · skip
    refine tr_iload_n (pc := 0) dX10_item_0 rfl ?_
    refine tr_cSi1 (pc := 1) dX10_item_1 mtX10_isTape ls10_348 rfl ⟨(Nat.le_of_ble_eq_true rfl), (Nat.le_of_ble_eq_true rfl)⟩ nlX10_isTape (Nat.le_of_ble_eq_true rfl) ⟨(Nat.le_of_ble_eq_true rfl), (Nat.le_of_ble_eq_true rfl)⟩ (sp_X10_isTape) (fun r1 M1 h1 => ?_)
    obtain ⟨hr1, hM1⟩ := h1
    obtain rfl := hr1.symm
    obtain rfl := hM1.symm
    refine tr_ifne (pc := 4) (tgt := 9) dX10_item_4 (by decide) (fun c4 => absurd c4 (by omega)) (fun c4 => ?_)
    refine tr_iconst (pc := 7) dX10_item_7 ⟨by decide, by decide⟩ ?_
    refine tr_ireti (pc := 8) dX10_item_8 rfl ?_
    exact Or.inl ⟨ht, rfl, rfl⟩
theorem sp_X10_peek {G : tk_G} {M : tk_M} {t i : Int} (hT : tq_ok M) : Spl G FX10_peek [xR 101, xI t, xI i] SF M (fun v M' => v = (if (0 ≤ t ∧ t ≤ 5) ∧ (0 ≤ i ∧ i < M 127 t) then M 128 (60 * t + i) else NOl) ∧ M' = M) := by
  refine Spl.of _ mtX10_peek nlX10_peek (Nat.le_of_ble_eq_true rfl) ?_
  show Ok G FX10_peek 0 [xR 101, xI t, xI i] [] SF M 0 0 _
  by_cases ht : 0 ≤ t ∧ t ≤ 5
  · skip
    have hTt := hT t ht.1 (by omega)
    refine tr_iload_n (pc := 0) dX10_peek_0 rfl ?_
    refine tr_cSi1 (pc := 1) dX10_peek_1 mtX10_isTape ls10_348 rfl ⟨(Nat.le_of_ble_eq_true rfl), (Nat.le_of_ble_eq_true rfl)⟩ nlX10_isTape (Nat.le_of_ble_eq_true rfl) ⟨(Nat.le_of_ble_eq_true rfl), (Nat.le_of_ble_eq_true rfl)⟩ (sp_X10_isTape) (fun r1 M1 h1 => ?_)
    obtain ⟨hr1, hM1⟩ := h1
    obtain rfl := hr1.symm
    obtain rfl := hM1.symm
    refine tr_ifeq (pc := 4) (tgt := 39) dX10_peek_4 (by decide) (fun c4 => absurd c4 (by omega)) (fun c4 => ?_)
    refine tr_iload_n (pc := 7) dX10_peek_7 rfl ?_
    refine tr_i2l (pc := 8) dX10_peek_8 ?_
    refine tr_lconst (pc := 9) (x := 0) dX10_peek_9 (by decide) ⟨by decide, by decide⟩ ?_
    refine tr_aload_n (pc := 10) dX10_peek_10 rfl (by decide) ?_
    refine tr_getr (pc := 11) (x := 127) dX10_peek_11 fi10_87 rfl sg101 rfl ?_
    refine tr_iload_n (pc := 14) dX10_peek_14 rfl ?_
    refine tr_iald (pc := 15) dX10_peek_15 sg127 (by omega) (by omega) ?_
    refine tr_iconst (pc := 16) dX10_peek_16 ⟨by decide, by decide⟩ ?_
    refine tr_isub (pc := 17) dX10_peek_17 ⟨by omega, by omega⟩ ?_
    refine tr_i2l (pc := 18) dX10_peek_18 ?_
    refine tr_cSi3 (pc := 19) dX10_peek_19 mtX10_isFrom ls10_115 rfl ⟨(Nat.le_of_ble_eq_true rfl), (Nat.le_of_ble_eq_true rfl)⟩ nlX10_isFrom (Nat.le_of_ble_eq_true rfl) ⟨(Nat.le_of_ble_eq_true rfl), (Nat.le_of_ble_eq_true rfl)⟩ (sp_X10_isFrom) (fun r19 M19 h19 => ?_)
    obtain ⟨hr19, hM19⟩ := h19
    obtain rfl := hr19.symm
    obtain rfl := hM19.symm
    refine tr_ifeq (pc := 22) (tgt := 39) dX10_peek_22 (by decide) (fun c22 => ?_) (fun c22 => ?_)
    · skip
      refine tr_ldc2 (pc := 39) dX10_peek_39 kn10_271 ⟨by decide, by decide⟩ ?_
      refine tr_lret (pc := 42) dX10_peek_42 rfl ?_
      refine ⟨?_, rfl⟩
      first | rw [if_pos (by omega)] | (rw [if_neg (by omega)]; rfl)
    · skip
      refine tr_aload_n (pc := 25) dX10_peek_25 rfl (by decide) ?_
      refine tr_getr (pc := 26) (x := 128) dX10_peek_26 fi10_90 rfl sg101 rfl ?_
      refine tr_bipush (pc := 29) dX10_peek_29 ⟨by decide, ⟨by decide, by decide⟩⟩ ?_
      refine tr_iload_n (pc := 31) dX10_peek_31 rfl ?_
      refine tr_imul (pc := 32) dX10_peek_32 ⟨by omega, by omega⟩ ?_
      refine tr_iload_n (pc := 33) dX10_peek_33 rfl ?_
      refine tr_iadd (pc := 34) dX10_peek_34 ⟨by omega, by omega⟩ ?_
      refine tr_lald (pc := 35) dX10_peek_35 sg128 (by omega) (by omega) ?_
      refine tr_goto (pc := 36) (tgt := 42) dX10_peek_36 (by decide) ?_
      refine tr_lret (pc := 42) dX10_peek_42 rfl ?_
      refine ⟨?_, rfl⟩
      first | rw [if_pos (by omega)] | (rw [if_neg (by omega)]; rfl)
  · skip
    refine tr_iload_n (pc := 0) dX10_peek_0 rfl ?_
    refine tr_cSi1 (pc := 1) dX10_peek_1 mtX10_isTape ls10_348 rfl ⟨(Nat.le_of_ble_eq_true rfl), (Nat.le_of_ble_eq_true rfl)⟩ nlX10_isTape (Nat.le_of_ble_eq_true rfl) ⟨(Nat.le_of_ble_eq_true rfl), (Nat.le_of_ble_eq_true rfl)⟩ (sp_X10_isTape) (fun r1 M1 h1 => ?_)
    obtain ⟨hr1, hM1⟩ := h1
    obtain rfl := hr1.symm
    obtain rfl := hM1.symm
    refine tr_ifeq (pc := 4) (tgt := 39) dX10_peek_4 (by decide) (fun c4 => ?_) (fun c4 => absurd c4 (by omega))
    refine tr_ldc2 (pc := 39) dX10_peek_39 kn10_271 ⟨by decide, by decide⟩ ?_
    refine tr_lret (pc := 42) dX10_peek_42 rfl ?_
    refine ⟨?_, rfl⟩
    rw [if_neg (by omega)]; rfl
theorem sp_X10_shift {G : tk_G} {M : tk_M} {t i u j n : Int} (hT : tq_ok M) : Spi G FX10_shift [xR 101, xI t, xI i, xI u, xI j, xI n] SF M (fun v M' => (¬ ((0 ≤ t ∧ t ≤ 5) ∧ (0 ≤ u ∧ u ≤ 5)) ∧ v = -1 ∧ M' = M) ∨ (((0 ≤ t ∧ t ≤ 5) ∧ (0 ≤ u ∧ u ≤ 5)) ∧ (M 126 t = -1 ∨ M 126 u = -1) ∧ v = -11 ∧ M' = M) ∨ (((0 ≤ t ∧ t ≤ 5) ∧ (0 ≤ u ∧ u ≤ 5)) ∧ (M 126 t ≠ -1 ∧ M 126 u ≠ -1) ∧ M 126 t ≠ M 126 u ∧ v = -12 ∧ M' = M) ∨ (((0 ≤ t ∧ t ≤ 5) ∧ (0 ≤ u ∧ u ≤ 5)) ∧ (M 126 t ≠ -1 ∧ M 126 u = M 126 t) ∧ ¬ (0 ≤ n ∧ (0 ≤ i ∧ i + n ≤ M 127 t) ∧ (0 ≤ j ∧ j + n ≤ M 127 u)) ∧ v = -13 ∧ M' = M) ∨ (((0 ≤ t ∧ t ≤ 5) ∧ (0 ≤ u ∧ u ≤ 5)) ∧ (M 126 t ≠ -1 ∧ M 126 u = M 126 t) ∧ (0 ≤ n ∧ (0 ≤ i ∧ i + n ≤ M 127 t) ∧ (0 ≤ j ∧ j + n ≤ M 127 u)) ∧ v = n ∧ (∀ c, c ≠ 128 → c ≠ 129 → M' c = M c) ∧ ∀ p, M' 128 p = (if 60 * u + j ≤ p ∧ p < 60 * u + j + n then M 128 (60 * t + i + (p - (60 * u + j))) else M 128 p))) := by
  refine Spi.of _ mtX10_shift nlX10_shift (Nat.le_of_ble_eq_true rfl) ?_
  show Ok G FX10_shift 0 [xR 101, xI t, xI i, xI u, xI j, xI n, xU] [] SF M 0 0 _
  by_cases htu : (0 ≤ t ∧ t ≤ 5) ∧ (0 ≤ u ∧ u ≤ 5)
  · skip
    have hTt := hT t htu.1.1 (by omega)
    have hTu := hT u htu.2.1 (by omega)
    refine tr_rng (j := 2) rfl (fun hi => ?_)
    refine tr_rng (j := 4) rfl (fun hj => ?_)
    refine tr_rng (j := 5) rfl (fun hn => ?_)
    unfold tk_r32 at hi hj hn
    have loop2 : (0 ≤ n ∧ (0 ≤ i ∧ i + n ≤ M 127 t) ∧ (0 ≤ j ∧ j + n ≤ M 127 u)) → ∀ (M0 : tk_M), (∀ x, 0 ≤ x → x < n → M0 129 x = M 128 (60 * t + i + x)) → M0 128 = M 128 → (∀ c, c ≠ 128 → c ≠ 129 → M0 c = M c) → ∀ (d : Nat) (k : Int) (M1 : tk_M), k + d = n → 0 ≤ k → (∀ c, c ≠ 128 → M1 c = M0 c) → (∀ p, M1 128 p = (if 60 * u + j ≤ p ∧ p < 60 * u + j + k then M 128 (60 * t + i + (p - (60 * u + j))) else M 128 p)) → Ok G FX10_shift 141 [xR 101, xI t, xI i, xI u, xI j, xI n, xI k] [] SF M1 0 0 (tk_qi SF (fun v M' => v = n ∧ (∀ c, c ≠ 128 → c ≠ 129 → M' c = M c) ∧ ∀ p, M' 128 p = (if 60 * u + j ≤ p ∧ p < 60 * u + j + n then M 128 (60 * t + i + (p - (60 * u + j))) else M 128 p))) := by
      intro hb M0 b1 b2 b3 d
      induction d with
      | zero =>
        intro k M1 hd hk a1 a2
        have hkn : k = n := by omega
        subst hkn
        refine tr_iload (pc := 141) dX10_shift_141 rfl ?_
        refine tr_iload (pc := 143) dX10_shift_143 rfl ?_
        refine tr_icmpge (pc := 145) (tgt := 176) dX10_shift_145 (by decide) (fun c145 => ?_) (fun c145 => absurd c145 (by omega))
        refine tr_iload (pc := 176) dX10_shift_176 rfl ?_
        refine tr_ireti (pc := 178) dX10_shift_178 rfl ?_
        exact ⟨rfl, fun c c1 c2 => (a1 c c1).trans (b3 c c1 c2), a2⟩
      | succ d ih =>
        intro k M1 hd hk a1 a2
        refine tr_iload (pc := 141) dX10_shift_141 rfl ?_
        refine tr_iload (pc := 143) dX10_shift_143 rfl ?_
        refine tr_icmpge (pc := 145) (tgt := 176) dX10_shift_145 (by decide) (fun c145 => absurd c145 (by omega)) (fun c145 => ?_)
        refine tr_aload_n (pc := 148) dX10_shift_148 rfl (by decide) ?_
        refine tr_getr (pc := 149) (x := 128) dX10_shift_149 fi10_90 rfl sg101 rfl ?_
        refine tr_bipush (pc := 152) dX10_shift_152 ⟨by decide, ⟨by decide, by decide⟩⟩ ?_
        refine tr_iload_n (pc := 154) dX10_shift_154 rfl ?_
        refine tr_imul (pc := 155) dX10_shift_155 ⟨by omega, by omega⟩ ?_
        refine tr_iload (pc := 156) dX10_shift_156 rfl ?_
        refine tr_iadd (pc := 158) dX10_shift_158 ⟨by omega, by omega⟩ ?_
        refine tr_iload (pc := 159) dX10_shift_159 rfl ?_
        refine tr_iadd (pc := 161) dX10_shift_161 ⟨by omega, by omega⟩ ?_
        refine tr_aload_n (pc := 162) dX10_shift_162 rfl (by decide) ?_
        refine tr_getr (pc := 163) (x := 129) dX10_shift_163 fi10_94 rfl sg101 rfl ?_
        refine tr_iload (pc := 166) dX10_shift_166 rfl ?_
        refine tr_laldv (pc := 168) (x := M 128 (60 * t + i + k)) dX10_shift_168 sg129 (by omega) (by omega) (by rw [a1 129 (by omega)]; exact b1 k hk (by omega)) ?_
        refine tr_last (pc := 169) dX10_shift_169 sg128 (by omega) (by omega) ?_
        refine tr_iinc (pc := 170) dX10_shift_170 rfl rfl ⟨by omega, by omega⟩ ?_
        dsimp only [List.set]
        refine tr_goto (pc := 173) (tgt := 141) dX10_shift_173 (by decide) ?_
        refine ih (k + 1) _ (by omega) (by omega) (fun c c1 => (tk_mu_c c1).trans (a1 c c1)) (fun p => ?_)
        by_cases hp : p = 60 * u + j + k
        · subst hp
          rw [tk_mu_at, if_pos (by omega), show 60 * u + j + k - (60 * u + j) = k by omega]
        · rw [tk_mu_i hp, a2 p]
          by_cases h1 : 60 * u + j ≤ p ∧ p < 60 * u + j + k
          · rw [if_pos h1, if_pos (by omega)]
          · rw [if_neg h1, if_neg (by omega)]
    have loop1 : (0 ≤ n ∧ (0 ≤ i ∧ i + n ≤ M 127 t) ∧ (0 ≤ j ∧ j + n ≤ M 127 u)) → ∀ (d : Nat) (k : Int) (M1 : tk_M), k + d = n → 0 ≤ k → (∀ x, 0 ≤ x → x < k → M1 129 x = M 128 (60 * t + i + x)) → (∀ c, c ≠ 129 → M1 c = M c) → Ok G FX10_shift 104 [xR 101, xI t, xI i, xI u, xI j, xI n, xI k] [] SF M1 0 0 (tk_qi SF (fun v M' => v = n ∧ (∀ c, c ≠ 128 → c ≠ 129 → M' c = M c) ∧ ∀ p, M' 128 p = (if 60 * u + j ≤ p ∧ p < 60 * u + j + n then M 128 (60 * t + i + (p - (60 * u + j))) else M 128 p))) := by
      intro hb d
      induction d with
      | zero =>
        intro k M1 hd hk a1 a2
        refine tr_iload (pc := 104) dX10_shift_104 rfl ?_
        refine tr_iload (pc := 106) dX10_shift_106 rfl ?_
        refine tr_icmpge (pc := 108) (tgt := 138) dX10_shift_108 (by decide) (fun c108 => ?_) (fun c108 => absurd c108 (by omega))
        refine tr_iconst (pc := 138) dX10_shift_138 ⟨by decide, by decide⟩ ?_
        refine tr_istore (pc := 139) dX10_shift_139 rfl (Nat.le_of_ble_eq_true rfl) ?_
        dsimp only [List.set]
        exact loop2 hb M1 (fun x x0 x1 => a1 x x0 (by omega)) (a2 128 (by omega)) (fun c _ c2 => a2 c c2) n.toNat 0 M1 (by omega) (by omega) (fun _ _ => rfl) (fun p => by rw [if_neg (by omega), a2 128 (by omega)])
      | succ d ih =>
        intro k M1 hd hk a1 a2
        refine tr_iload (pc := 104) dX10_shift_104 rfl ?_
        refine tr_iload (pc := 106) dX10_shift_106 rfl ?_
        refine tr_icmpge (pc := 108) (tgt := 138) dX10_shift_108 (by decide) (fun c108 => absurd c108 (by omega)) (fun c108 => ?_)
        refine tr_aload_n (pc := 111) dX10_shift_111 rfl (by decide) ?_
        refine tr_getr (pc := 112) (x := 129) dX10_shift_112 fi10_94 rfl sg101 rfl ?_
        refine tr_iload (pc := 115) dX10_shift_115 rfl ?_
        refine tr_aload_n (pc := 117) dX10_shift_117 rfl (by decide) ?_
        refine tr_getr (pc := 118) (x := 128) dX10_shift_118 fi10_90 rfl sg101 rfl ?_
        refine tr_bipush (pc := 121) dX10_shift_121 ⟨by decide, ⟨by decide, by decide⟩⟩ ?_
        refine tr_iload_n (pc := 123) dX10_shift_123 rfl ?_
        refine tr_imul (pc := 124) dX10_shift_124 ⟨by omega, by omega⟩ ?_
        refine tr_iload_n (pc := 125) dX10_shift_125 rfl ?_
        refine tr_iadd (pc := 126) dX10_shift_126 ⟨by omega, by omega⟩ ?_
        refine tr_iload (pc := 127) dX10_shift_127 rfl ?_
        refine tr_iadd (pc := 129) dX10_shift_129 ⟨by omega, by omega⟩ ?_
        refine tr_laldv (pc := 130) (x := M 128 (60 * t + i + k)) dX10_shift_130 sg128 (by omega) (by omega) (by rw [a2 128 (by omega)]) ?_
        refine tr_last (pc := 131) dX10_shift_131 sg129 (by omega) (by omega) ?_
        refine tr_iinc (pc := 132) dX10_shift_132 rfl rfl ⟨by omega, by omega⟩ ?_
        dsimp only [List.set]
        refine tr_goto (pc := 135) (tgt := 104) dX10_shift_135 (by decide) ?_
        refine ih (k + 1) _ (by omega) (by omega) (fun x x0 x1 => ?_) (fun c c1 => (tk_mu_c c1).trans (a2 c c1))
        by_cases hx : x = k
        · subst hx; rw [tk_mu_at]
        · rw [tk_mu_i hx]; exact a1 x x0 (by omega)
    refine tr_iload_n (pc := 0) dX10_shift_0 rfl ?_
    refine tr_cSi1 (pc := 1) dX10_shift_1 mtX10_isTape ls10_348 rfl ⟨(Nat.le_of_ble_eq_true rfl), (Nat.le_of_ble_eq_true rfl)⟩ nlX10_isTape (Nat.le_of_ble_eq_true rfl) ⟨(Nat.le_of_ble_eq_true rfl), (Nat.le_of_ble_eq_true rfl)⟩ (sp_X10_isTape) (fun r1 M1 h1 => ?_)
    obtain ⟨hr1, hM1⟩ := h1
    obtain rfl := hr1.symm
    obtain rfl := hM1.symm
    refine tr_ifeq (pc := 4) (tgt := 14) dX10_shift_4 (by decide) (fun c4 => absurd c4 (by omega)) (fun c4 => ?_)
    refine tr_iload_n (pc := 7) dX10_shift_7 rfl ?_
    refine tr_cSi1 (pc := 8) dX10_shift_8 mtX10_isTape ls10_348 rfl ⟨(Nat.le_of_ble_eq_true rfl), (Nat.le_of_ble_eq_true rfl)⟩ nlX10_isTape (Nat.le_of_ble_eq_true rfl) ⟨(Nat.le_of_ble_eq_true rfl), (Nat.le_of_ble_eq_true rfl)⟩ (sp_X10_isTape) (fun r8 M8 h8 => ?_)
    obtain ⟨hr8, hM8⟩ := h8
    obtain rfl := hr8.symm
    obtain rfl := hM8.symm
    refine tr_ifne (pc := 11) (tgt := 16) dX10_shift_11 (by decide) (fun c11 => ?_) (fun c11 => absurd c11 (by omega))
    refine tr_aload_n (pc := 16) dX10_shift_16 rfl (by decide) ?_
    refine tr_getr (pc := 17) (x := 126) dX10_shift_17 fi10_84 rfl sg101 rfl ?_
    refine tr_iload_n (pc := 20) dX10_shift_20 rfl ?_
    refine tr_iald (pc := 21) dX10_shift_21 sg126 (by omega) (by omega) ?_
    refine tr_iconst (pc := 22) dX10_shift_22 ⟨by decide, by decide⟩ ?_
    refine tr_icmpeq (pc := 23) (tgt := 36) dX10_shift_23 (by decide) (fun c23 => ?_) (fun c23 => ?_)
    · skip
      refine tr_bipush (pc := 36) dX10_shift_36 ⟨by decide, ⟨by decide, by decide⟩⟩ ?_
      refine tr_ireti (pc := 38) dX10_shift_38 rfl ?_
      exact Or.inr (Or.inl ⟨htu, by omega, rfl, rfl⟩)
    · skip
      refine tr_aload_n (pc := 26) dX10_shift_26 rfl (by decide) ?_
      refine tr_getr (pc := 27) (x := 126) dX10_shift_27 fi10_84 rfl sg101 rfl ?_
      refine tr_iload_n (pc := 30) dX10_shift_30 rfl ?_
      refine tr_iald (pc := 31) dX10_shift_31 sg126 (by omega) (by omega) ?_
      refine tr_iconst (pc := 32) dX10_shift_32 ⟨by decide, by decide⟩ ?_
      refine tr_icmpne (pc := 33) (tgt := 39) dX10_shift_33 (by decide) (fun c33 => ?_) (fun c33 => ?_)
      · skip
        refine tr_aload_n (pc := 39) dX10_shift_39 rfl (by decide) ?_
        refine tr_getr (pc := 40) (x := 126) dX10_shift_40 fi10_84 rfl sg101 rfl ?_
        refine tr_iload_n (pc := 43) dX10_shift_43 rfl ?_
        refine tr_iald (pc := 44) dX10_shift_44 sg126 (by omega) (by omega) ?_
        refine tr_aload_n (pc := 45) dX10_shift_45 rfl (by decide) ?_
        refine tr_getr (pc := 46) (x := 126) dX10_shift_46 fi10_84 rfl sg101 rfl ?_
        refine tr_iload_n (pc := 49) dX10_shift_49 rfl ?_
        refine tr_iald (pc := 50) dX10_shift_50 sg126 (by omega) (by omega) ?_
        refine tr_icmpeq (pc := 51) (tgt := 57) dX10_shift_51 (by decide) (fun c51 => ?_) (fun c51 => ?_)
        · skip
          refine tr_iload (pc := 57) dX10_shift_57 rfl ?_
          refine tr_iflt (pc := 59) (tgt := 98) dX10_shift_59 (by decide) (fun c59 => ?_) (fun c59 => ?_)
          · skip
            refine tr_bipush (pc := 98) dX10_shift_98 ⟨by decide, ⟨by decide, by decide⟩⟩ ?_
            refine tr_ireti (pc := 100) dX10_shift_100 rfl ?_
            exact Or.inr (Or.inr (Or.inr (Or.inl ⟨htu, by omega, by omega, rfl, rfl⟩)))
          · skip
            refine tr_iload_n (pc := 62) dX10_shift_62 rfl ?_
            refine tr_iflt (pc := 63) (tgt := 98) dX10_shift_63 (by decide) (fun c63 => ?_) (fun c63 => ?_)
            · skip
              refine tr_bipush (pc := 98) dX10_shift_98 ⟨by decide, ⟨by decide, by decide⟩⟩ ?_
              refine tr_ireti (pc := 100) dX10_shift_100 rfl ?_
              exact Or.inr (Or.inr (Or.inr (Or.inl ⟨htu, by omega, by omega, rfl, rfl⟩)))
            · skip
              refine tr_iload (pc := 66) dX10_shift_66 rfl ?_
              refine tr_iflt (pc := 68) (tgt := 98) dX10_shift_68 (by decide) (fun c68 => ?_) (fun c68 => ?_)
              · skip
                refine tr_bipush (pc := 98) dX10_shift_98 ⟨by decide, ⟨by decide, by decide⟩⟩ ?_
                refine tr_ireti (pc := 100) dX10_shift_100 rfl ?_
                exact Or.inr (Or.inr (Or.inr (Or.inl ⟨htu, by omega, by omega, rfl, rfl⟩)))
              · skip
                refine tr_iload (pc := 71) dX10_shift_71 rfl ?_
                refine tr_aload_n (pc := 73) dX10_shift_73 rfl (by decide) ?_
                refine tr_getr (pc := 74) (x := 127) dX10_shift_74 fi10_87 rfl sg101 rfl ?_
                refine tr_iload_n (pc := 77) dX10_shift_77 rfl ?_
                refine tr_iald (pc := 78) dX10_shift_78 sg127 (by omega) (by omega) ?_
                refine tr_iload_n (pc := 79) dX10_shift_79 rfl ?_
                refine tr_isub (pc := 80) dX10_shift_80 ⟨by omega, by omega⟩ ?_
                refine tr_icmpgt (pc := 81) (tgt := 98) dX10_shift_81 (by decide) (fun c81 => ?_) (fun c81 => ?_)
                · skip
                  refine tr_bipush (pc := 98) dX10_shift_98 ⟨by decide, ⟨by decide, by decide⟩⟩ ?_
                  refine tr_ireti (pc := 100) dX10_shift_100 rfl ?_
                  exact Or.inr (Or.inr (Or.inr (Or.inl ⟨htu, by omega, by omega, rfl, rfl⟩)))
                · skip
                  refine tr_iload (pc := 84) dX10_shift_84 rfl ?_
                  refine tr_aload_n (pc := 86) dX10_shift_86 rfl (by decide) ?_
                  refine tr_getr (pc := 87) (x := 127) dX10_shift_87 fi10_87 rfl sg101 rfl ?_
                  refine tr_iload_n (pc := 90) dX10_shift_90 rfl ?_
                  refine tr_iald (pc := 91) dX10_shift_91 sg127 (by omega) (by omega) ?_
                  refine tr_iload (pc := 92) dX10_shift_92 rfl ?_
                  refine tr_isub (pc := 94) dX10_shift_94 ⟨by omega, by omega⟩ ?_
                  refine tr_icmple (pc := 95) (tgt := 101) dX10_shift_95 (by decide) (fun c95 => ?_) (fun c95 => ?_)
                  · skip
                    refine tr_iconst (pc := 101) dX10_shift_101 ⟨by decide, by decide⟩ ?_
                    refine tr_istore (pc := 102) dX10_shift_102 rfl (Nat.le_of_ble_eq_true rfl) ?_
                    dsimp only [List.set]
                    have hb : 0 ≤ n ∧ (0 ≤ i ∧ i + n ≤ M 127 t) ∧ (0 ≤ j ∧ j + n ≤ M 127 u) := by omega
                    exact tk_mono (loop1 hb n.toNat 0 M (by omega) (by omega) (fun x x0 x1 => by omega) (fun _ _ => rfl)) (fun v M1 h => Or.inr (Or.inr (Or.inr (Or.inr ⟨htu, by omega, hb, h⟩))))
                  · skip
                    refine tr_bipush (pc := 98) dX10_shift_98 ⟨by decide, ⟨by decide, by decide⟩⟩ ?_
                    refine tr_ireti (pc := 100) dX10_shift_100 rfl ?_
                    exact Or.inr (Or.inr (Or.inr (Or.inl ⟨htu, by omega, by omega, rfl, rfl⟩)))
        · skip
          refine tr_bipush (pc := 54) dX10_shift_54 ⟨by decide, ⟨by decide, by decide⟩⟩ ?_
          refine tr_ireti (pc := 56) dX10_shift_56 rfl ?_
          exact Or.inr (Or.inr (Or.inl ⟨htu, by omega, by omega, rfl, rfl⟩))
      · skip
        refine tr_bipush (pc := 36) dX10_shift_36 ⟨by decide, ⟨by decide, by decide⟩⟩ ?_
        refine tr_ireti (pc := 38) dX10_shift_38 rfl ?_
        exact Or.inr (Or.inl ⟨htu, by omega, rfl, rfl⟩)
  · skip
    refine tr_iload_n (pc := 0) dX10_shift_0 rfl ?_
    refine tr_cSi1 (pc := 1) dX10_shift_1 mtX10_isTape ls10_348 rfl ⟨(Nat.le_of_ble_eq_true rfl), (Nat.le_of_ble_eq_true rfl)⟩ nlX10_isTape (Nat.le_of_ble_eq_true rfl) ⟨(Nat.le_of_ble_eq_true rfl), (Nat.le_of_ble_eq_true rfl)⟩ (sp_X10_isTape) (fun r1 M1 h1 => ?_)
    obtain ⟨hr1, hM1⟩ := h1
    obtain rfl := hr1.symm
    obtain rfl := hM1.symm
    refine tr_ifeq (pc := 4) (tgt := 14) dX10_shift_4 (by decide) (fun c4 => ?_) (fun c4 => ?_)
    · skip
      refine tr_iconst (pc := 14) dX10_shift_14 ⟨by decide, by decide⟩ ?_
      refine tr_ireti (pc := 15) dX10_shift_15 rfl ?_
      exact Or.inl ⟨htu, rfl, rfl⟩
    · skip
      refine tr_iload_n (pc := 7) dX10_shift_7 rfl ?_
      refine tr_cSi1 (pc := 8) dX10_shift_8 mtX10_isTape ls10_348 rfl ⟨(Nat.le_of_ble_eq_true rfl), (Nat.le_of_ble_eq_true rfl)⟩ nlX10_isTape (Nat.le_of_ble_eq_true rfl) ⟨(Nat.le_of_ble_eq_true rfl), (Nat.le_of_ble_eq_true rfl)⟩ (sp_X10_isTape) (fun r8 M8 h8 => ?_)
      obtain ⟨hr8, hM8⟩ := h8
      obtain rfl := hr8.symm
      obtain rfl := hM8.symm
      refine tr_ifne (pc := 11) (tgt := 16) dX10_shift_11 (by decide) (fun c11 => absurd c11 (by omega)) (fun c11 => ?_)
      refine tr_iconst (pc := 14) dX10_shift_14 ⟨by decide, by decide⟩ ?_
      refine tr_ireti (pc := 15) dX10_shift_15 rfl ?_
      exact Or.inl ⟨htu, rfl, rfl⟩
theorem sp_X10_judge {G : tk_G} {M : tk_M} {C : cC} {i t p : Int} (hC : Rg M C) (hT : tq_ok M) : Spi G FX10_judge [xR 101, xI i, xI t, xI p] SF M (fun v M' => v = (if ¬ ((0 ≤ i ∧ i ≤ 1) ∧ (0 ≤ t ∧ t ≤ 5)) then -1 else if 0 < M 126 t then -12 else x_jd (fun q => M 128 (60 * t + q)) (fun a => ig_low a (-5) (csel i C)) (M 127 t) p 10 0) ∧ fQ M M') := by
  refine Spi.of _ mtX10_judge nlX10_judge (Nat.le_of_ble_eq_true rfl) ?_
  show Ok G FX10_judge 0 [xR 101, xI i, xI t, xI p, xU, xU, xU] [] SF M 0 0 _
  by_cases hit : (0 ≤ i ∧ i ≤ 1) ∧ (0 ≤ t ∧ t ≤ 5)
  · rw [if_neg (fun h => h hit)]
    have hTt := hT t hit.2.1 (by omega)
    have hsel := hC.sel hit.1
    refine tr_rng (j := 3) rfl (fun hp => ?_)
    unfold tk_r32 at hp
    have loop : M 126 t ≤ 0 → ∀ (d : Nat) (a : Int) (v5 v6 : tk_V) (M1 : tk_M), a + d = 10 → 0 ≤ a → (a = 0 ∨ 0 ≤ p) → rtf M M1 → Ok G FX10_judge 31 [xR 101, xI i, xI t, xI p, xI a, v5, v6] [] SF M1 0 0 (tk_qi SF (fun v M' => v = x_jd (fun q => M 128 (60 * t + q)) (fun a => ig_low a (-5) (csel i C)) (M 127 t) p d a ∧ fQ M M')) := by
      intro hs0 d
      induction d with
      | zero =>
        intro a v5 v6 M1 hd ha hap hf
        refine tr_iload (pc := 31) dX10_judge_31 rfl ?_
        refine tr_bipush (pc := 33) dX10_judge_33 ⟨by decide, ⟨by decide, by decide⟩⟩ ?_
        refine tr_icmpge (pc := 35) (tgt := 113) dX10_judge_35 (by decide) (fun c35 => ?_) (fun c35 => absurd c35 (by omega))
        refine tr_bipush (pc := 113) dX10_judge_113 ⟨by decide, ⟨by decide, by decide⟩⟩ ?_
        refine tr_ireti (pc := 115) dX10_judge_115 rfl ?_
        exact ⟨rfl, fQ.tf hf⟩
      | succ d ih =>
        intro a v5 v6 M1 hd ha hap hf
        have e126 : M1 126 t = M 126 t := by rw [hf 126 (by omega)]
        have e127 : M1 127 t = M 127 t := by rw [hf 127 (by omega)]
        have e128 : M1 128 = M 128 := hf 128 (by omega)
        have hb : 0 ≤ p + a → p + a < M 127 t → (p + a).bmod (2 ^ 32) = p + a := fun h1 h2 => Int.bmod_eq_of_le (by omega) (by omega)
        unfold x_jd
        refine tr_iload (pc := 31) dX10_judge_31 rfl ?_
        refine tr_bipush (pc := 33) dX10_judge_33 ⟨by decide, ⟨by decide, by decide⟩⟩ ?_
        refine tr_icmpge (pc := 35) (tgt := 113) dX10_judge_35 (by decide) (fun c35 => absurd c35 (by omega)) (fun c35 => ?_)
        refine tr_iload_n (pc := 38) dX10_judge_38 rfl ?_
        refine tr_i2l (pc := 39) dX10_judge_39 ?_
        refine tr_iload (pc := 40) dX10_judge_40 rfl ?_
        refine tr_i2l (pc := 42) dX10_judge_42 ?_
        refine tr_ladd (pc := 43) dX10_judge_43 ⟨by omega, by omega⟩ ?_
        refine tr_lstore (pc := 44) dX10_judge_44 rfl (Nat.le_of_ble_eq_true rfl) ?_
        dsimp only [List.set]
        refine tr_iload_n (pc := 46) dX10_judge_46 rfl ?_
        refine tr_iflt (pc := 47) (tgt := 73) dX10_judge_47 (by decide) (fun c47 => ?_) (fun c47 => ?_)
        · skip
          refine tr_bipush (pc := 73) dX10_judge_73 ⟨by decide, ⟨by decide, by decide⟩⟩ ?_
          refine tr_iload (pc := 75) dX10_judge_75 rfl ?_
          refine tr_iadd (pc := 77) dX10_judge_77 ⟨by omega, by omega⟩ ?_
          refine tr_ireti (pc := 78) dX10_judge_78 rfl ?_
          rw [if_pos (show ¬ (0 ≤ p + a ∧ p + a < M 127 t) by omega)]
          exact ⟨rfl, fQ.tf hf⟩
        · skip
          refine tr_aload_n (pc := 50) dX10_judge_50 rfl (by decide) ?_
          refine tr_getr (pc := 51) (x := 126) dX10_judge_51 fi10_84 rfl sg101 rfl ?_
          refine tr_iload_n (pc := 54) dX10_judge_54 rfl ?_
          refine tr_ialdv (pc := 55) (x := M 126 t) dX10_judge_55 sg126 (by omega) (by omega) (e126) ?_
          refine tr_iconst (pc := 56) dX10_judge_56 ⟨by decide, by decide⟩ ?_
          refine tr_icmpeq (pc := 57) (tgt := 73) dX10_judge_57 (by decide) (fun c57 => ?_) (fun c57 => ?_)
          · skip
            refine tr_bipush (pc := 73) dX10_judge_73 ⟨by decide, ⟨by decide, by decide⟩⟩ ?_
            refine tr_iload (pc := 75) dX10_judge_75 rfl ?_
            refine tr_iadd (pc := 77) dX10_judge_77 ⟨by omega, by omega⟩ ?_
            refine tr_ireti (pc := 78) dX10_judge_78 rfl ?_
            rw [if_pos (show ¬ (0 ≤ p + a ∧ p + a < M 127 t) by omega)]
            exact ⟨rfl, fQ.tf hf⟩
          · skip
            refine tr_lload (pc := 60) dX10_judge_60 rfl ?_
            refine tr_aload_n (pc := 62) dX10_judge_62 rfl (by decide) ?_
            refine tr_getr (pc := 63) (x := 127) dX10_judge_63 fi10_87 rfl sg101 rfl ?_
            refine tr_iload_n (pc := 66) dX10_judge_66 rfl ?_
            refine tr_ialdv (pc := 67) (x := M 127 t) dX10_judge_67 sg127 (by omega) (by omega) (e127) ?_
            refine tr_i2l (pc := 68) dX10_judge_68 ?_
            refine tr_lclt (pc := 69) (tgt := 79) dX10_judge_69 dX10_judge_70 (by decide) (fun c69 => ?_) (fun c69 => ?_)
            · skip
              refine tr_aload_n (pc := 79) dX10_judge_79 rfl (by decide) ?_
              refine tr_getr (pc := 80) (x := 128) dX10_judge_80 fi10_90 rfl sg101 rfl ?_
              refine tr_bipush (pc := 83) dX10_judge_83 ⟨by decide, ⟨by decide, by decide⟩⟩ ?_
              refine tr_iload_n (pc := 85) dX10_judge_85 rfl ?_
              refine tr_imul (pc := 86) dX10_judge_86 ⟨by omega, by omega⟩ ?_
              refine tr_lload (pc := 87) dX10_judge_87 rfl ?_
              refine tr_l2i (pc := 89) dX10_judge_89 ?_
              refine tr_topv (hb (by omega) (by omega)) ?_
              refine tr_iadd (pc := 90) dX10_judge_90 ⟨by omega, by omega⟩ ?_
              refine tr_laldv (pc := 91) (x := M 128 (60 * t + (p + a))) dX10_judge_91 sg128 (by omega) (by omega) (by rw [e128]) ?_
              refine tr_aload_n (pc := 92) dX10_judge_92 rfl (by decide) ?_
              refine tr_iload_n (pc := 93) dX10_judge_93 rfl ?_
              refine tr_iload (pc := 94) dX10_judge_94 rfl ?_
              refine tr_cVi2 (pc := 96) dX10_judge_96 mtX10_heightOf lv10_301 rfl sg101 kc10 ⟨(Nat.le_of_ble_eq_true rfl), (Nat.le_of_ble_eq_true rfl)⟩ nlX10_heightOf (Nat.le_of_ble_eq_true rfl) ⟨(Nat.le_of_ble_eq_true rfl), (Nat.le_of_ble_eq_true rfl)⟩ (sp_X10_heightOf (by omega) (hsel.tf hf) (by omega)) (fun r96 M96 h96 => ?_)
              obtain ⟨hr96, f9⟩ := h96
              obtain rfl := hr96.symm
              refine tr_i2l (pc := 99) dX10_judge_99 ?_
              refine tr_lceq (pc := 100) (tgt := 107) dX10_judge_100 dX10_judge_101 (by decide) (fun c100 => ?_) (fun c100 => ?_)
              · skip
                refine tr_iinc (pc := 107) dX10_judge_107 rfl rfl ⟨by omega, by omega⟩ ?_
                dsimp only [List.set]
                refine tr_goto (pc := 110) (tgt := 31) dX10_judge_110 (by decide) ?_
                rw [if_neg (show ¬ ¬ (0 ≤ p + a ∧ p + a < M 127 t) by omega), if_pos (show M 128 (60 * t + (p + a)) = ig_low a (-5) (csel i C) by omega)]
                exact ih (a + 1) _ _ _ (by omega) (by omega) (by omega) (hf.trans f9)
              · skip
                refine tr_iload (pc := 104) dX10_judge_104 rfl ?_
                refine tr_ireti (pc := 106) dX10_judge_106 rfl ?_
                rw [if_neg (show ¬ ¬ (0 ≤ p + a ∧ p + a < M 127 t) by omega), if_neg (show ¬ M 128 (60 * t + (p + a)) = ig_low a (-5) (csel i C) by omega)]
                exact ⟨rfl, fQ.tf (hf.trans f9)⟩
            · skip
              refine tr_bipush (pc := 73) dX10_judge_73 ⟨by decide, ⟨by decide, by decide⟩⟩ ?_
              refine tr_iload (pc := 75) dX10_judge_75 rfl ?_
              refine tr_iadd (pc := 77) dX10_judge_77 ⟨by omega, by omega⟩ ?_
              refine tr_ireti (pc := 78) dX10_judge_78 rfl ?_
              rw [if_pos (show ¬ (0 ≤ p + a ∧ p + a < M 127 t) by omega)]
              exact ⟨rfl, fQ.tf hf⟩
    refine tr_iload_n (pc := 0) dX10_judge_0 rfl ?_
    refine tr_cSi1 (pc := 1) dX10_judge_1 mtX10_isIdeal ls10_136 rfl ⟨(Nat.le_of_ble_eq_true rfl), (Nat.le_of_ble_eq_true rfl)⟩ nlX10_isIdeal (Nat.le_of_ble_eq_true rfl) ⟨(Nat.le_of_ble_eq_true rfl), (Nat.le_of_ble_eq_true rfl)⟩ (sp_X10_isIdeal) (fun r1 M1 h1 => ?_)
    obtain ⟨hr1, hM1⟩ := h1
    obtain rfl := hr1.symm
    obtain rfl := hM1.symm
    refine tr_ifeq (pc := 4) (tgt := 14) dX10_judge_4 (by decide) (fun c4 => absurd c4 (by omega)) (fun c4 => ?_)
    refine tr_iload_n (pc := 7) dX10_judge_7 rfl ?_
    refine tr_cSi1 (pc := 8) dX10_judge_8 mtX10_isTape ls10_348 rfl ⟨(Nat.le_of_ble_eq_true rfl), (Nat.le_of_ble_eq_true rfl)⟩ nlX10_isTape (Nat.le_of_ble_eq_true rfl) ⟨(Nat.le_of_ble_eq_true rfl), (Nat.le_of_ble_eq_true rfl)⟩ (sp_X10_isTape) (fun r8 M8 h8 => ?_)
    obtain ⟨hr8, hM8⟩ := h8
    obtain rfl := hr8.symm
    obtain rfl := hM8.symm
    refine tr_ifne (pc := 11) (tgt := 16) dX10_judge_11 (by decide) (fun c11 => ?_) (fun c11 => absurd c11 (by omega))
    refine tr_aload_n (pc := 16) dX10_judge_16 rfl (by decide) ?_
    refine tr_getr (pc := 17) (x := 126) dX10_judge_17 fi10_84 rfl sg101 rfl ?_
    refine tr_iload_n (pc := 20) dX10_judge_20 rfl ?_
    refine tr_iald (pc := 21) dX10_judge_21 sg126 (by omega) (by omega) ?_
    refine tr_ifle (pc := 22) (tgt := 28) dX10_judge_22 (by decide) (fun c22 => ?_) (fun c22 => ?_)
    · skip
      refine tr_iconst (pc := 28) dX10_judge_28 ⟨by decide, by decide⟩ ?_
      refine tr_istore (pc := 29) dX10_judge_29 rfl (Nat.le_of_ble_eq_true rfl) ?_
      dsimp only [List.set]
      rw [if_neg (by omega)]
      exact loop (by omega) 10 0 _ _ M (by omega) (by omega) (Or.inl rfl) rtf.rf
    · skip
      refine tr_bipush (pc := 25) dX10_judge_25 ⟨by decide, ⟨by decide, by decide⟩⟩ ?_
      refine tr_ireti (pc := 27) dX10_judge_27 rfl ?_
      rw [if_pos (by omega)]
      exact ⟨rfl, fQ.rf⟩
  · rw [if_pos hit]
    refine tr_iload_n (pc := 0) dX10_judge_0 rfl ?_
    refine tr_cSi1 (pc := 1) dX10_judge_1 mtX10_isIdeal ls10_136 rfl ⟨(Nat.le_of_ble_eq_true rfl), (Nat.le_of_ble_eq_true rfl)⟩ nlX10_isIdeal (Nat.le_of_ble_eq_true rfl) ⟨(Nat.le_of_ble_eq_true rfl), (Nat.le_of_ble_eq_true rfl)⟩ (sp_X10_isIdeal) (fun r1 M1 h1 => ?_)
    obtain ⟨hr1, hM1⟩ := h1
    obtain rfl := hr1.symm
    obtain rfl := hM1.symm
    refine tr_ifeq (pc := 4) (tgt := 14) dX10_judge_4 (by decide) (fun c4 => ?_) (fun c4 => ?_)
    · skip
      refine tr_iconst (pc := 14) dX10_judge_14 ⟨by decide, by decide⟩ ?_
      refine tr_ireti (pc := 15) dX10_judge_15 rfl ?_
      exact ⟨rfl, fQ.rf⟩
    · skip
      refine tr_iload_n (pc := 7) dX10_judge_7 rfl ?_
      refine tr_cSi1 (pc := 8) dX10_judge_8 mtX10_isTape ls10_348 rfl ⟨(Nat.le_of_ble_eq_true rfl), (Nat.le_of_ble_eq_true rfl)⟩ nlX10_isTape (Nat.le_of_ble_eq_true rfl) ⟨(Nat.le_of_ble_eq_true rfl), (Nat.le_of_ble_eq_true rfl)⟩ (sp_X10_isTape) (fun r8 M8 h8 => ?_)
      obtain ⟨hr8, hM8⟩ := h8
      obtain rfl := hr8.symm
      obtain rfl := hM8.symm
      refine tr_ifne (pc := 11) (tgt := 16) dX10_judge_11 (by decide) (fun c11 => absurd c11 (by omega)) (fun c11 => ?_)
      refine tr_iconst (pc := 14) dX10_judge_14 ⟨by decide, by decide⟩ ?_
      refine tr_ireti (pc := 15) dX10_judge_15 rfl ?_
      exact ⟨rfl, fQ.rf⟩
theorem sp_X10_count {G : tk_G} {M : tk_M} {w : Int} : Spi G FX10_count [xR 101, xI w] SF M (fun v M' => v = x_count (M 101 22) (M 101 26) (M 101 29) (M 101 9) (M 101 3) w ∧ M' = M) := by
  refine Spi.of _ mtX10_count nlX10_count (Nat.le_of_ble_eq_true rfl) ?_
  show Ok G FX10_count 0 [xR 101, xI w] [] SF M 0 0 _
  refine tr_iload_n (pc := 0) dX10_count_0 rfl ?_
  rcases (by omega : w = 0 ∨ w = 1 ∨ w = 2 ∨ w = 3 ∨ w = 4 ∨ (w < 0 ∨ 4 < w)) with c1 | c1 | c1 | c1 | c1 | c1
  · skip
    refine tr_table_in (pc := 1) (x := w) (off := 35) (tgt := 36) dX10_count_1 (by omega) (by omega) (by rw [c1]; rfl) (by decide) ?_
    refine tr_aload_n (pc := 36) dX10_count_36 rfl (by decide) ?_
    refine tr_geti (pc := 37) (ji := 22) dX10_count_37 fi10_320 rfl sg101 rfl ?_
    refine tr_ireti (pc := 40) dX10_count_40 rfl ?_
    refine ⟨?_, rfl⟩
    unfold x_count
    repeat' split
    all_goals first | rfl | omega
  · skip
    refine tr_table_in (pc := 1) (x := w) (off := 40) (tgt := 41) dX10_count_1 (by omega) (by omega) (by rw [c1]; rfl) (by decide) ?_
    refine tr_aload_n (pc := 41) dX10_count_41 rfl (by decide) ?_
    refine tr_geti (pc := 42) (ji := 26) dX10_count_42 fi10_328 rfl sg101 rfl ?_
    refine tr_ireti (pc := 45) dX10_count_45 rfl ?_
    refine ⟨?_, rfl⟩
    unfold x_count
    repeat' split
    all_goals first | rfl | omega
  · skip
    refine tr_table_in (pc := 1) (x := w) (off := 45) (tgt := 46) dX10_count_1 (by omega) (by omega) (by rw [c1]; rfl) (by decide) ?_
    refine tr_aload_n (pc := 46) dX10_count_46 rfl (by decide) ?_
    refine tr_geti (pc := 47) (ji := 29) dX10_count_47 fi10_345 rfl sg101 rfl ?_
    refine tr_ireti (pc := 50) dX10_count_50 rfl ?_
    refine ⟨?_, rfl⟩
    unfold x_count
    repeat' split
    all_goals first | rfl | omega
  · skip
    refine tr_table_in (pc := 1) (x := w) (off := 50) (tgt := 51) dX10_count_1 (by omega) (by omega) (by rw [c1]; rfl) (by decide) ?_
    refine tr_aload_n (pc := 51) dX10_count_51 rfl (by decide) ?_
    refine tr_geti (pc := 52) (ji := 9) dX10_count_52 fi10_174 rfl sg101 rfl ?_
    refine tr_ireti (pc := 55) dX10_count_55 rfl ?_
    refine ⟨?_, rfl⟩
    unfold x_count
    repeat' split
    all_goals first | rfl | omega
  · skip
    refine tr_table_in (pc := 1) (x := w) (off := 55) (tgt := 56) dX10_count_1 (by omega) (by omega) (by rw [c1]; rfl) (by decide) ?_
    refine tr_aload_n (pc := 56) dX10_count_56 rfl (by decide) ?_
    refine tr_geti (pc := 57) (ji := 3) dX10_count_57 fi10_132 rfl sg101 rfl ?_
    refine tr_ireti (pc := 60) dX10_count_60 rfl ?_
    refine ⟨?_, rfl⟩
    unfold x_count
    repeat' split
    all_goals first | rfl | omega
  · skip
    refine tr_table_out (pc := 1) (x := w) (tgt := 61) dX10_count_1 (by omega) (by decide) ?_
    refine tr_bipush (pc := 61) dX10_count_61 ⟨by decide, ⟨by decide, by decide⟩⟩ ?_
    refine tr_ireti (pc := 63) dX10_count_63 rfl ?_
    refine ⟨?_, rfl⟩
    unfold x_count
    repeat' split
    all_goals first | rfl | omega
