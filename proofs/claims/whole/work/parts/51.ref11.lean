/-- SEEN, EVENTS, the BOOK of the reference -/
def rs_at (M : tk_M) (l : L3) : Prop := rw_seg (M 119) (M 120) (M 121) (M 101 22) 0 l ∧ M 101 22 ≤ 4
def re_at (M : tk_M) (l : L3) : Prop := rw_seg (M 122) (M 123) (fun _ => 0) (M 101 26) 0 l ∧ M 101 26 ≤ 8
def rb_at (M : tk_M) (l : L3) : Prop := rw_seg (M 124) (M 125) (fun _ => 0) (M 101 29) 0 l ∧ M 101 29 ≤ 8
/-- only the rows lo .. hi and one field of the reference are otherwise -/
def of1 (M M' : tk_M) (lo hi j0 : Int) : Prop := (∀ c : Int, c ≠ 101 → (c < lo ∨ hi < c) → M' c = M c) ∧ ∀ j : Int, j ≠ j0 → M' 101 j = M 101 j
theorem of1.rf {M : tk_M} {lo hi j : Int} : of1 M M lo hi j := ⟨fun _ _ _ => rfl, fun _ _ => rfl⟩
theorem rs_at.len {M : tk_M} {g : L3} (h : rs_at M g) : M 101 22 = g.length ∧ (g.length : Int) ≤ 4 := by
  have h1 := rw_seg_len g 0 h.1
  have h2 := h.2
  omega
theorem re_at.len {M : tk_M} {g : L3} (h : re_at M g) : M 101 26 = g.length ∧ (g.length : Int) ≤ 8 := by
  have h1 := rw_seg_len g 0 h.1
  have h2 := h.2
  omega
theorem rb_at.len {M : tk_M} {g : L3} (h : rb_at M g) : M 101 29 = g.length ∧ (g.length : Int) ≤ 8 := by
  have h1 := rw_seg_len g 0 h.1
  have h2 := h.2
  omega
theorem rs_at.same {M M1 : tk_M} {g : L3} (h : rs_at M g) (h0 : M1 101 22 = M 101 22) (h1 : M1 119 = M 119) (h2 : M1 120 = M 120) (h3 : M1 121 = M 121) : rs_at M1 g := by unfold rs_at; rw [h0, h1, h2, h3]; exact h
theorem re_at.same {M M1 : tk_M} {g : L3} (h : re_at M g) (h0 : M1 101 26 = M 101 26) (h1 : M1 122 = M 122) (h2 : M1 123 = M 123) : re_at M1 g := by unfold re_at; rw [h0, h1, h2]; exact h
theorem rb_at.same {M M1 : tk_M} {g : L3} (h : rb_at M g) (h0 : M1 101 29 = M 101 29) (h1 : M1 124 = M 124) (h2 : M1 125 = M 125) : rb_at M1 g := by unfold rb_at; rw [h0, h1, h2]; exact h
theorem rs_at.fQ {M M1 : tk_M} {g : L3} (h : rs_at M g) (hf : fQ M M1) : rs_at M1 g := h.same (hf.2.1 _ (by omega) (by omega) (by omega)) (hf.1 _ (by omega)) (hf.1 _ (by omega)) (hf.1 _ (by omega))
theorem re_at.fQ {M M1 : tk_M} {g : L3} (h : re_at M g) (hf : fQ M M1) : re_at M1 g := h.same (hf.2.1 _ (by omega) (by omega) (by omega)) (hf.1 _ (by omega)) (hf.1 _ (by omega))
theorem rb_at.fQ {M M1 : tk_M} {g : L3} (h : rb_at M g) (hf : fQ M M1) : rb_at M1 g := h.same (hf.2.1 _ (by omega) (by omega) (by omega)) (hf.1 _ (by omega)) (hf.1 _ (by omega))
theorem sp_X10_see {G : tk_G} {M : tk_M} {l : L3} {i n d : Int} (hl : rs_at M l) : Spi G FX10_see [xR 101, xI i, xI n, xI d] SF M (fun v M' => v = (x_see l i n d).1 ∧ rs_at M' (x_see l i n d).2 ∧ of1 M M' 119 121 22) := by
  have hln := hl.len
  refine Spi.of _ mtX10_see nlX10_see (Nat.le_of_ble_eq_true rfl) ?_
  show Ok G FX10_see 0 [xR 101, xI i, xI n, xI d] [] SF M 0 0 _
  unfold x_see
  refine tr_iload_n (pc := 0) dX10_see_0 rfl ?_
  refine tr_iconst (pc := 1) dX10_see_1 ⟨by decide, by decide⟩ ?_
  refine tr_icmpne (pc := 2) (tgt := 12) dX10_see_2 (by decide) (fun c2 => ?_) (fun c2 => ?_)
  · skip
    refine tr_iload_n (pc := 12) dX10_see_12 rfl ?_
    refine tr_i2l (pc := 13) dX10_see_13 ?_
    refine tr_lconst (pc := 14) (x := 0) dX10_see_14 (by decide) ⟨by decide, by decide⟩ ?_
    refine tr_ldc2 (pc := 15) dX10_see_15 kn10_263 ⟨by decide, by decide⟩ ?_
    refine tr_cSi3 (pc := 18) dX10_see_18 mtX10_isFrom ls10_115 rfl ⟨(Nat.le_of_ble_eq_true rfl), (Nat.le_of_ble_eq_true rfl)⟩ nlX10_isFrom (Nat.le_of_ble_eq_true rfl) ⟨(Nat.le_of_ble_eq_true rfl), (Nat.le_of_ble_eq_true rfl)⟩ (sp_X10_isFrom) (fun r18 M18 h18 => ?_)
    obtain ⟨hr18, hM18⟩ := h18
    obtain rfl := hr18.symm
    obtain rfl := hM18.symm
    refine tr_ifne (pc := 21) (tgt := 26) dX10_see_21 (by decide) (fun c21 => ?_) (fun c21 => ?_)
    · skip
      refine tr_iload_n (pc := 26) dX10_see_26 rfl ?_
      refine tr_iload_n (pc := 27) dX10_see_27 rfl ?_
      refine tr_cSi2 (pc := 28) dX10_see_28 mtX10_isFraction ls10_265 rfl ⟨(Nat.le_of_ble_eq_true rfl), (Nat.le_of_ble_eq_true rfl)⟩ nlX10_isFraction (Nat.le_of_ble_eq_true rfl) ⟨(Nat.le_of_ble_eq_true rfl), (Nat.le_of_ble_eq_true rfl)⟩ (sp_X10_isFraction) (fun r28 M28 h28 => ?_)
      obtain ⟨hr28, hM28⟩ := h28
      obtain rfl := hr28.symm
      obtain rfl := hM28.symm
      refine tr_ifne (pc := 31) (tgt := 37) dX10_see_31 (by decide) (fun c31 => ?_) (fun c31 => ?_)
      · skip
        refine tr_aload_n (pc := 37) dX10_see_37 rfl (by decide) ?_
        refine tr_geti (pc := 38) (ji := 22) dX10_see_38 fi10_320 rfl sg101 rfl ?_
        refine tr_iconst (pc := 41) dX10_see_41 ⟨by decide, by decide⟩ ?_
        refine tr_icmpne (pc := 42) (tgt := 48) dX10_see_42 (by decide) (fun c42 => ?_) (fun c42 => ?_)
        · skip
          refine tr_aload_n (pc := 48) dX10_see_48 rfl (by decide) ?_
          refine tr_getr (pc := 49) (x := 119) dX10_see_49 fi10_63 rfl sg101 rfl ?_
          refine tr_aload_n (pc := 52) dX10_see_52 rfl (by decide) ?_
          refine tr_geti (pc := 53) (ji := 22) dX10_see_53 fi10_320 rfl sg101 rfl ?_
          refine tr_iload_n (pc := 56) dX10_see_56 rfl ?_
          refine tr_iast (pc := 57) dX10_see_57 sg119 (by omega) (by omega) ?_
          refine tr_aload_n (pc := 58) dX10_see_58 rfl (by decide) ?_
          refine tr_getr (pc := 59) (x := 120) dX10_see_59 fi10_66 rfl sg101 rfl ?_
          refine tr_aload_n (pc := 62) dX10_see_62 rfl (by decide) ?_
          refine tr_getv (pc := 63) (ji := 22) (x := M 101 22) dX10_see_63 fi10_320 rfl sg101 rfl (by rw [tk_mu_c (by omega)]) ?_
          refine tr_iload_n (pc := 66) dX10_see_66 rfl ?_
          refine tr_iast (pc := 67) dX10_see_67 sg120 (by omega) (by omega) ?_
          refine tr_aload_n (pc := 68) dX10_see_68 rfl (by decide) ?_
          refine tr_getr (pc := 69) (x := 121) dX10_see_69 fi10_69 rfl sg101 rfl ?_
          refine tr_aload_n (pc := 72) dX10_see_72 rfl (by decide) ?_
          refine tr_getv (pc := 73) (ji := 22) (x := M 101 22) dX10_see_73 fi10_320 rfl sg101 rfl (by rw [tk_mu_c (by omega), tk_mu_c (by omega)]) ?_
          refine tr_iload_n (pc := 76) dX10_see_76 rfl ?_
          refine tr_iast (pc := 77) dX10_see_77 sg121 (by omega) (by omega) ?_
          refine tr_aload_n (pc := 78) dX10_see_78 rfl (by decide) ?_
          refine tr_dup (pc := 79) dX10_see_79 (fun h => by cases h) ?_
          refine tr_getv (pc := 80) (ji := 22) (x := M 101 22) dX10_see_80 fi10_320 rfl sg101 rfl (by rw [tk_mu_c (by omega), tk_mu_c (by omega), tk_mu_c (by omega)]) ?_
          refine tr_iconst (pc := 83) dX10_see_83 ⟨by decide, by decide⟩ ?_
          refine tr_iadd (pc := 84) dX10_see_84 ⟨by omega, by omega⟩ ?_
          refine tr_puti (pc := 85) (ji := 22) dX10_see_85 fi10_320 rfl (Or.inl rfl) (Or.inl rfl) sg101 rfl ?_
          refine tr_aload_n (pc := 88) dX10_see_88 rfl (by decide) ?_
          refine tr_getv (pc := 89) (ji := 22) (x := M 101 22 + 1) dX10_see_89 fi10_320 rfl sg101 rfl (tk_mu_at _ _ _ _) ?_
          refine tr_ireti (pc := 92) dX10_see_92 rfl ?_
          rw [if_neg (by omega), if_neg (by omega), if_neg (by omega), if_neg (by omega)]
          refine ⟨by omega, ⟨?_, by rw [tk_mu_at]; omega⟩, fun c c1 c2 => ?_, fun j hj => ?_⟩
          · rw [tk_mu_at]
            exact rw_seg_snoc (by (first | (simp only [tk_mu_eq, and_self, and_true, true_and, false_and, and_false, if_true, if_false, ↓reduceIte, reduceCtorEq]; done) | (simp only [tk_mu_eq, and_self, and_true, true_and, false_and, and_false, if_true, if_false, ↓reduceIte, reduceCtorEq]; omega))) (by (first | (simp only [tk_mu_eq, and_self, and_true, true_and, false_and, and_false, if_true, if_false, ↓reduceIte, reduceCtorEq]; done) | (simp only [tk_mu_eq, and_self, and_true, true_and, false_and, and_false, if_true, if_false, ↓reduceIte, reduceCtorEq]; omega))) (by (first | (simp only [tk_mu_eq, and_self, and_true, true_and, false_and, and_false, if_true, if_false, ↓reduceIte, reduceCtorEq]; done) | (simp only [tk_mu_eq, and_self, and_true, true_and, false_and, and_false, if_true, if_false, ↓reduceIte, reduceCtorEq]; omega))) l 0 (rw_seg_congr l 0 (fun k k0 k1 => by (first | (simp only [tk_mu_eq, and_self, and_true, true_and, false_and, and_false, if_true, if_false, ↓reduceIte, reduceCtorEq]; done) | (simp only [tk_mu_eq, and_self, and_true, true_and, false_and, and_false, if_true, if_false, ↓reduceIte, reduceCtorEq]; omega))) hl.1)
          · rw [tk_mu_c c1, tk_mu_c (by omega), tk_mu_c (by omega), tk_mu_c (by omega)]
          · rw [tk_mu_i hj, tk_mu_c (by omega), tk_mu_c (by omega), tk_mu_c (by omega)]
        · skip
          refine tr_bipush (pc := 45) dX10_see_45 ⟨by decide, ⟨by decide, by decide⟩⟩ ?_
          refine tr_ireti (pc := 47) dX10_see_47 rfl ?_
          rw [if_neg (by omega), if_neg (by omega), if_neg (by omega), if_pos (by omega)]
          exact ⟨rfl, hl, of1.rf⟩
      · skip
        refine tr_bipush (pc := 34) dX10_see_34 ⟨by decide, ⟨by decide, by decide⟩⟩ ?_
        refine tr_ireti (pc := 36) dX10_see_36 rfl ?_
        rw [if_neg (by omega), if_neg (by omega), if_pos (by omega)]
        exact ⟨rfl, hl, of1.rf⟩
    · skip
      refine tr_iconst (pc := 24) dX10_see_24 ⟨by decide, by decide⟩ ?_
      refine tr_ireti (pc := 25) dX10_see_25 rfl ?_
      rw [if_neg (by omega), if_pos (by omega)]
      exact ⟨rfl, hl, of1.rf⟩
  · skip
    refine tr_aload_n (pc := 5) dX10_see_5 rfl (by decide) ?_
    refine tr_iconst (pc := 6) dX10_see_6 ⟨by decide, by decide⟩ ?_
    refine tr_puti (pc := 7) (ji := 22) dX10_see_7 fi10_320 rfl (Or.inl rfl) (Or.inl rfl) sg101 rfl ?_
    refine tr_iconst (pc := 10) dX10_see_10 ⟨by decide, by decide⟩ ?_
    refine tr_ireti (pc := 11) dX10_see_11 rfl ?_
    rw [if_pos (by omega)]
    exact ⟨rfl, ⟨by rw [tk_mu_at]; rfl, by rw [tk_mu_at]; omega⟩, fun c c1 _ => tk_mu_c c1, fun j hj => tk_mu_i hj⟩
theorem sp_X10_event {G : tk_G} {M : tk_M} {l : L3} {w n : Int} (hl : re_at M l) : Spi G FX10_event [xR 101, xI w, xI n] SF M (fun v M' => v = (x_event l w n).1 ∧ re_at M' (x_event l w n).2 ∧ of1 M M' 122 123 26) := by
  have hln := hl.len
  refine Spi.of _ mtX10_event nlX10_event (Nat.le_of_ble_eq_true rfl) ?_
  show Ok G FX10_event 0 [xR 101, xI w, xI n, xU] [] SF M 0 0 _
  unfold x_event
  have mid : w ≠ -1 → (0 ≤ w ∧ w ≤ 2) → ∀ (is : Int), ((is = 1 ∧ ev_ok w n) ∨ (is = 0 ∧ ¬ ev_ok w n)) → Ok G FX10_event 69 [xR 101, xI w, xI n, xI is] [] SF M 0 0 (tk_qi SF (fun v M' => v = (@ite (Int × L3) (¬ ev_ok w n) (Classical.propDecidable _) (-2, l) (if 8 ≤ l.length then (-4, l) else ((l.length : Int) + 1, l ++ [(w, n, 0)]))).1 ∧ re_at M' (@ite (Int × L3) (¬ ev_ok w n) (Classical.propDecidable _) (-2, l) (if 8 ≤ l.length then (-4, l) else ((l.length : Int) + 1, l ++ [(w, n, 0)]))).2 ∧ of1 M M' 122 123 26)) := by
    intro hw1 hw is his
    refine tr_iload_n (pc := 69) dX10_event_69 rfl ?_
    refine tr_ifne (pc := 70) (tgt := 76) dX10_event_70 (by decide) (fun c70 => ?_) (fun c70 => ?_)
    · skip
      refine tr_aload_n (pc := 76) dX10_event_76 rfl (by decide) ?_
      refine tr_geti (pc := 77) (ji := 26) dX10_event_77 fi10_328 rfl sg101 rfl ?_
      refine tr_bipush (pc := 80) dX10_event_80 ⟨by decide, ⟨by decide, by decide⟩⟩ ?_
      refine tr_icmpne (pc := 82) (tgt := 88) dX10_event_82 (by decide) (fun c82 => ?_) (fun c82 => ?_)
      · skip
        refine tr_aload_n (pc := 88) dX10_event_88 rfl (by decide) ?_
        refine tr_getr (pc := 89) (x := 122) dX10_event_89 fi10_72 rfl sg101 rfl ?_
        refine tr_aload_n (pc := 92) dX10_event_92 rfl (by decide) ?_
        refine tr_geti (pc := 93) (ji := 26) dX10_event_93 fi10_328 rfl sg101 rfl ?_
        refine tr_iload_n (pc := 96) dX10_event_96 rfl ?_
        refine tr_iast (pc := 97) dX10_event_97 sg122 (by omega) (by omega) ?_
        refine tr_aload_n (pc := 98) dX10_event_98 rfl (by decide) ?_
        refine tr_getr (pc := 99) (x := 123) dX10_event_99 fi10_75 rfl sg101 rfl ?_
        refine tr_aload_n (pc := 102) dX10_event_102 rfl (by decide) ?_
        refine tr_getv (pc := 103) (ji := 26) (x := M 101 26) dX10_event_103 fi10_328 rfl sg101 rfl (by rw [tk_mu_c (by omega)]) ?_
        refine tr_iload_n (pc := 106) dX10_event_106 rfl ?_
        refine tr_iast (pc := 107) dX10_event_107 sg123 (by omega) (by omega) ?_
        refine tr_aload_n (pc := 108) dX10_event_108 rfl (by decide) ?_
        refine tr_dup (pc := 109) dX10_event_109 (fun h => by cases h) ?_
        refine tr_getv (pc := 110) (ji := 26) (x := M 101 26) dX10_event_110 fi10_328 rfl sg101 rfl (by rw [tk_mu_c (by omega), tk_mu_c (by omega)]) ?_
        refine tr_iconst (pc := 113) dX10_event_113 ⟨by decide, by decide⟩ ?_
        refine tr_iadd (pc := 114) dX10_event_114 ⟨by omega, by omega⟩ ?_
        refine tr_puti (pc := 115) (ji := 26) dX10_event_115 fi10_328 rfl (Or.inl rfl) (Or.inl rfl) sg101 rfl ?_
        refine tr_aload_n (pc := 118) dX10_event_118 rfl (by decide) ?_
        refine tr_getv (pc := 119) (ji := 26) (x := M 101 26 + 1) dX10_event_119 fi10_328 rfl sg101 rfl (tk_mu_at _ _ _ _) ?_
        refine tr_ireti (pc := 122) dX10_event_122 rfl ?_
        rw [if_neg (fun h => h (his.resolve_right (by omega)).2), if_neg (by omega)]
        refine ⟨by show M 101 26 + 1 = (l.length : Int) + 1; omega, ⟨?_, by rw [tk_mu_at]; omega⟩, fun c c1 c2 => ?_, fun j hj => ?_⟩
        · rw [tk_mu_at]
          exact rw_seg_snoc (by (first | (simp only [tk_mu_eq, and_self, and_true, true_and, false_and, and_false, if_true, if_false, ↓reduceIte, reduceCtorEq]; done) | (simp only [tk_mu_eq, and_self, and_true, true_and, false_and, and_false, if_true, if_false, ↓reduceIte, reduceCtorEq]; omega))) (by (first | (simp only [tk_mu_eq, and_self, and_true, true_and, false_and, and_false, if_true, if_false, ↓reduceIte, reduceCtorEq]; done) | (simp only [tk_mu_eq, and_self, and_true, true_and, false_and, and_false, if_true, if_false, ↓reduceIte, reduceCtorEq]; omega))) rfl l 0 (rw_seg_congr l 0 (fun k k0 k1 => ⟨by (first | (simp only [tk_mu_eq, and_self, and_true, true_and, false_and, and_false, if_true, if_false, ↓reduceIte, reduceCtorEq]; done) | (simp only [tk_mu_eq, and_self, and_true, true_and, false_and, and_false, if_true, if_false, ↓reduceIte, reduceCtorEq]; omega)), by (first | (simp only [tk_mu_eq, and_self, and_true, true_and, false_and, and_false, if_true, if_false, ↓reduceIte, reduceCtorEq]; done) | (simp only [tk_mu_eq, and_self, and_true, true_and, false_and, and_false, if_true, if_false, ↓reduceIte, reduceCtorEq]; omega)), rfl⟩) hl.1)
        · rw [tk_mu_c c1, tk_mu_c (by omega), tk_mu_c (by omega)]
        · rw [tk_mu_i hj, tk_mu_c (by omega), tk_mu_c (by omega)]
      · skip
        refine tr_bipush (pc := 85) dX10_event_85 ⟨by decide, ⟨by decide, by decide⟩⟩ ?_
        refine tr_ireti (pc := 87) dX10_event_87 rfl ?_
        rw [if_neg (fun h => h (his.resolve_right (by omega)).2), if_pos (by omega)]
        exact ⟨rfl, hl, of1.rf⟩
    · skip
      refine tr_bipush (pc := 73) dX10_event_73 ⟨by decide, ⟨by decide, by decide⟩⟩ ?_
      refine tr_ireti (pc := 75) dX10_event_75 rfl ?_
      rw [if_pos (his.resolve_left (by omega)).2]
      exact ⟨rfl, hl, of1.rf⟩
  refine tr_iload_n (pc := 0) dX10_event_0 rfl ?_
  refine tr_iconst (pc := 1) dX10_event_1 ⟨by decide, by decide⟩ ?_
  refine tr_icmpne (pc := 2) (tgt := 12) dX10_event_2 (by decide) (fun c2 => ?_) (fun c2 => ?_)
  · skip
    refine tr_iload_n (pc := 12) dX10_event_12 rfl ?_
    refine tr_i2l (pc := 13) dX10_event_13 ?_
    refine tr_lconst (pc := 14) (x := 0) dX10_event_14 (by decide) ⟨by decide, by decide⟩ ?_
    refine tr_ldc2 (pc := 15) dX10_event_15 kn10_241 ⟨by decide, by decide⟩ ?_
    refine tr_cSi3 (pc := 18) dX10_event_18 mtX10_isFrom ls10_115 rfl ⟨(Nat.le_of_ble_eq_true rfl), (Nat.le_of_ble_eq_true rfl)⟩ nlX10_isFrom (Nat.le_of_ble_eq_true rfl) ⟨(Nat.le_of_ble_eq_true rfl), (Nat.le_of_ble_eq_true rfl)⟩ (sp_X10_isFrom) (fun r18 M18 h18 => ?_)
    obtain ⟨hr18, hM18⟩ := h18
    obtain rfl := hr18.symm
    obtain rfl := hM18.symm
    refine tr_ifne (pc := 21) (tgt := 26) dX10_event_21 (by decide) (fun c21 => ?_) (fun c21 => ?_)
    · skip
      refine tr_iload_n (pc := 26) dX10_event_26 rfl ?_
      refine tr_ifne (pc := 27) (tgt := 42) dX10_event_27 (by decide) (fun c27 => ?_) (fun c27 => ?_)
      · skip
        refine tr_iload_n (pc := 42) dX10_event_42 rfl ?_
        refine tr_iconst (pc := 43) dX10_event_43 ⟨by decide, by decide⟩ ?_
        refine tr_icmpne (pc := 44) (tgt := 59) dX10_event_44 (by decide) (fun c44 => ?_) (fun c44 => ?_)
        · skip
          refine tr_iload_n (pc := 59) dX10_event_59 rfl ?_
          refine tr_i2l (pc := 60) dX10_event_60 ?_
          refine tr_lconst (pc := 61) (x := 1) dX10_event_61 (by decide) ⟨by decide, by decide⟩ ?_
          refine tr_ldc2 (pc := 62) dX10_event_62 kn10_119 ⟨by decide, by decide⟩ ?_
          refine tr_cSi3 (pc := 65) dX10_event_65 mtX10_isFrom ls10_115 rfl ⟨(Nat.le_of_ble_eq_true rfl), (Nat.le_of_ble_eq_true rfl)⟩ nlX10_isFrom (Nat.le_of_ble_eq_true rfl) ⟨(Nat.le_of_ble_eq_true rfl), (Nat.le_of_ble_eq_true rfl)⟩ (sp_X10_isFrom) (fun r65 M65 h65 => ?_)
          obtain ⟨hr65, hM65⟩ := h65
          obtain rfl := hr65.symm
          obtain rfl := hM65.symm
          refine tr_istore_n (pc := 68) dX10_event_68 rfl (Nat.le_of_ble_eq_true rfl) ?_
          dsimp only [List.set]
          rw [if_neg (show ¬ w = -1 by omega), if_neg (show ¬ ¬ (0 ≤ w ∧ w ≤ 2) by omega)]
          exact mid (by omega) (by omega) _ (by unfold ev_ok; omega)
        · skip
          refine tr_iload_n (pc := 47) dX10_event_47 rfl ?_
          refine tr_i2l (pc := 48) dX10_event_48 ?_
          refine tr_lconst (pc := 49) (x := 0) dX10_event_49 (by decide) ⟨by decide, by decide⟩ ?_
          refine tr_ldc2 (pc := 50) dX10_event_50 kn10_331 ⟨by decide, by decide⟩ ?_
          refine tr_cSi3 (pc := 53) dX10_event_53 mtX10_isFrom ls10_115 rfl ⟨(Nat.le_of_ble_eq_true rfl), (Nat.le_of_ble_eq_true rfl)⟩ nlX10_isFrom (Nat.le_of_ble_eq_true rfl) ⟨(Nat.le_of_ble_eq_true rfl), (Nat.le_of_ble_eq_true rfl)⟩ (sp_X10_isFrom) (fun r53 M53 h53 => ?_)
          obtain ⟨hr53, hM53⟩ := h53
          obtain rfl := hr53.symm
          obtain rfl := hM53.symm
          refine tr_goto (pc := 56) (tgt := 68) dX10_event_56 (by decide) ?_
          refine tr_istore_n (pc := 68) dX10_event_68 rfl (Nat.le_of_ble_eq_true rfl) ?_
          dsimp only [List.set]
          rw [if_neg (show ¬ w = -1 by omega), if_neg (show ¬ ¬ (0 ≤ w ∧ w ≤ 2) by omega)]
          exact mid (by omega) (by omega) _ (by unfold ev_ok; omega)
      · skip
        refine tr_iload_n (pc := 30) dX10_event_30 rfl ?_
        refine tr_i2l (pc := 31) dX10_event_31 ?_
        refine tr_lconst (pc := 32) (x := 0) dX10_event_32 (by decide) ⟨by decide, by decide⟩ ?_
        refine tr_ldc2 (pc := 33) dX10_event_33 kn10_263 ⟨by decide, by decide⟩ ?_
        refine tr_cSi3 (pc := 36) dX10_event_36 mtX10_isFrom ls10_115 rfl ⟨(Nat.le_of_ble_eq_true rfl), (Nat.le_of_ble_eq_true rfl)⟩ nlX10_isFrom (Nat.le_of_ble_eq_true rfl) ⟨(Nat.le_of_ble_eq_true rfl), (Nat.le_of_ble_eq_true rfl)⟩ (sp_X10_isFrom) (fun r36 M36 h36 => ?_)
        obtain ⟨hr36, hM36⟩ := h36
        obtain rfl := hr36.symm
        obtain rfl := hM36.symm
        refine tr_goto (pc := 39) (tgt := 68) dX10_event_39 (by decide) ?_
        refine tr_istore_n (pc := 68) dX10_event_68 rfl (Nat.le_of_ble_eq_true rfl) ?_
        dsimp only [List.set]
        rw [if_neg (show ¬ w = -1 by omega), if_neg (show ¬ ¬ (0 ≤ w ∧ w ≤ 2) by omega)]
        exact mid (by omega) (by omega) _ (by unfold ev_ok; omega)
    · skip
      refine tr_iconst (pc := 24) dX10_event_24 ⟨by decide, by decide⟩ ?_
      refine tr_ireti (pc := 25) dX10_event_25 rfl ?_
      rw [if_neg (by omega), if_pos (by omega)]
      exact ⟨rfl, hl, of1.rf⟩
  · skip
    refine tr_aload_n (pc := 5) dX10_event_5 rfl (by decide) ?_
    refine tr_iconst (pc := 6) dX10_event_6 ⟨by decide, by decide⟩ ?_
    refine tr_puti (pc := 7) (ji := 26) dX10_event_7 fi10_328 rfl (Or.inl rfl) (Or.inl rfl) sg101 rfl ?_
    refine tr_iconst (pc := 10) dX10_event_10 ⟨by decide, by decide⟩ ?_
    refine tr_ireti (pc := 11) dX10_event_11 rfl ?_
    rw [if_pos (by omega)]
    exact ⟨rfl, ⟨by rw [tk_mu_at]; rfl, by rw [tk_mu_at]; omega⟩, fun c c1 _ => tk_mu_c c1, fun j hj => tk_mu_i hj⟩
theorem sp_X10_book {G : tk_G} {M : tk_M} {l : L3} {t v : Int} (hl : rb_at M l) : Spi G FX10_book [xR 101, xI t, xI v] SF M (fun r M' => r = (x_book l t v).1 ∧ rb_at M' (x_book l t v).2 ∧ of1 M M' 124 125 29) := by
  have hln := hl.len
  refine Spi.of _ mtX10_book nlX10_book (Nat.le_of_ble_eq_true rfl) ?_
  show Ok G FX10_book 0 [xR 101, xI t, xI v] [] SF M 0 0 _
  unfold x_book
  refine tr_iload_n (pc := 0) dX10_book_0 rfl ?_
  refine tr_iconst (pc := 1) dX10_book_1 ⟨by decide, by decide⟩ ?_
  refine tr_icmpne (pc := 2) (tgt := 12) dX10_book_2 (by decide) (fun c2 => ?_) (fun c2 => ?_)
  · skip
    refine tr_iload_n (pc := 12) dX10_book_12 rfl ?_
    refine tr_i2l (pc := 13) dX10_book_13 ?_
    refine tr_lconst (pc := 14) (x := 0) dX10_book_14 (by decide) ⟨by decide, by decide⟩ ?_
    refine tr_ldc2 (pc := 15) dX10_book_15 kn10_263 ⟨by decide, by decide⟩ ?_
    refine tr_cSi3 (pc := 18) dX10_book_18 mtX10_isFrom ls10_115 rfl ⟨(Nat.le_of_ble_eq_true rfl), (Nat.le_of_ble_eq_true rfl)⟩ nlX10_isFrom (Nat.le_of_ble_eq_true rfl) ⟨(Nat.le_of_ble_eq_true rfl), (Nat.le_of_ble_eq_true rfl)⟩ (sp_X10_isFrom) (fun r18 M18 h18 => ?_)
    obtain ⟨hr18, hM18⟩ := h18
    obtain rfl := hr18.symm
    obtain rfl := hM18.symm
    refine tr_ifne (pc := 21) (tgt := 26) dX10_book_21 (by decide) (fun c21 => ?_) (fun c21 => ?_)
    · skip
      refine tr_iload_n (pc := 26) dX10_book_26 rfl ?_
      refine tr_i2l (pc := 27) dX10_book_27 ?_
      refine tr_lconst (pc := 28) (x := 0) dX10_book_28 (by decide) ⟨by decide, by decide⟩ ?_
      refine tr_lconst (pc := 29) (x := 1) dX10_book_29 (by decide) ⟨by decide, by decide⟩ ?_
      refine tr_cSi3 (pc := 30) dX10_book_30 mtX10_isFrom ls10_115 rfl ⟨(Nat.le_of_ble_eq_true rfl), (Nat.le_of_ble_eq_true rfl)⟩ nlX10_isFrom (Nat.le_of_ble_eq_true rfl) ⟨(Nat.le_of_ble_eq_true rfl), (Nat.le_of_ble_eq_true rfl)⟩ (sp_X10_isFrom) (fun r30 M30 h30 => ?_)
      obtain ⟨hr30, hM30⟩ := h30
      obtain rfl := hr30.symm
      obtain rfl := hM30.symm
      refine tr_ifne (pc := 33) (tgt := 39) dX10_book_33 (by decide) (fun c33 => ?_) (fun c33 => ?_)
      · skip
        refine tr_aload_n (pc := 39) dX10_book_39 rfl (by decide) ?_
        refine tr_geti (pc := 40) (ji := 29) dX10_book_40 fi10_345 rfl sg101 rfl ?_
        refine tr_bipush (pc := 43) dX10_book_43 ⟨by decide, ⟨by decide, by decide⟩⟩ ?_
        refine tr_icmpne (pc := 45) (tgt := 51) dX10_book_45 (by decide) (fun c45 => ?_) (fun c45 => ?_)
        · skip
          refine tr_aload_n (pc := 51) dX10_book_51 rfl (by decide) ?_
          refine tr_getr (pc := 52) (x := 124) dX10_book_52 fi10_78 rfl sg101 rfl ?_
          refine tr_aload_n (pc := 55) dX10_book_55 rfl (by decide) ?_
          refine tr_geti (pc := 56) (ji := 29) dX10_book_56 fi10_345 rfl sg101 rfl ?_
          refine tr_iload_n (pc := 59) dX10_book_59 rfl ?_
          refine tr_iast (pc := 60) dX10_book_60 sg124 (by omega) (by omega) ?_
          refine tr_aload_n (pc := 61) dX10_book_61 rfl (by decide) ?_
          refine tr_getr (pc := 62) (x := 125) dX10_book_62 fi10_81 rfl sg101 rfl ?_
          refine tr_aload_n (pc := 65) dX10_book_65 rfl (by decide) ?_
          refine tr_getv (pc := 66) (ji := 29) (x := M 101 29) dX10_book_66 fi10_345 rfl sg101 rfl (by rw [tk_mu_c (by omega)]) ?_
          refine tr_iload_n (pc := 69) dX10_book_69 rfl ?_
          refine tr_iast (pc := 70) dX10_book_70 sg125 (by omega) (by omega) ?_
          refine tr_aload_n (pc := 71) dX10_book_71 rfl (by decide) ?_
          refine tr_dup (pc := 72) dX10_book_72 (fun h => by cases h) ?_
          refine tr_getv (pc := 73) (ji := 29) (x := M 101 29) dX10_book_73 fi10_345 rfl sg101 rfl (by rw [tk_mu_c (by omega), tk_mu_c (by omega)]) ?_
          refine tr_iconst (pc := 76) dX10_book_76 ⟨by decide, by decide⟩ ?_
          refine tr_iadd (pc := 77) dX10_book_77 ⟨by omega, by omega⟩ ?_
          refine tr_puti (pc := 78) (ji := 29) dX10_book_78 fi10_345 rfl (Or.inl rfl) (Or.inl rfl) sg101 rfl ?_
          refine tr_aload_n (pc := 81) dX10_book_81 rfl (by decide) ?_
          refine tr_getv (pc := 82) (ji := 29) (x := M 101 29 + 1) dX10_book_82 fi10_345 rfl sg101 rfl (tk_mu_at _ _ _ _) ?_
          refine tr_ireti (pc := 85) dX10_book_85 rfl ?_
          rw [if_neg (by omega), if_neg (by omega), if_neg (by omega), if_neg (by omega)]
          refine ⟨by omega, ⟨?_, by rw [tk_mu_at]; omega⟩, fun c c1 c2 => ?_, fun j hj => ?_⟩
          · rw [tk_mu_at]
            exact rw_seg_snoc (by (first | (simp only [tk_mu_eq, and_self, and_true, true_and, false_and, and_false, if_true, if_false, ↓reduceIte, reduceCtorEq]; done) | (simp only [tk_mu_eq, and_self, and_true, true_and, false_and, and_false, if_true, if_false, ↓reduceIte, reduceCtorEq]; omega))) (by (first | (simp only [tk_mu_eq, and_self, and_true, true_and, false_and, and_false, if_true, if_false, ↓reduceIte, reduceCtorEq]; done) | (simp only [tk_mu_eq, and_self, and_true, true_and, false_and, and_false, if_true, if_false, ↓reduceIte, reduceCtorEq]; omega))) rfl l 0 (rw_seg_congr l 0 (fun k k0 k1 => ⟨by (first | (simp only [tk_mu_eq, and_self, and_true, true_and, false_and, and_false, if_true, if_false, ↓reduceIte, reduceCtorEq]; done) | (simp only [tk_mu_eq, and_self, and_true, true_and, false_and, and_false, if_true, if_false, ↓reduceIte, reduceCtorEq]; omega)), by (first | (simp only [tk_mu_eq, and_self, and_true, true_and, false_and, and_false, if_true, if_false, ↓reduceIte, reduceCtorEq]; done) | (simp only [tk_mu_eq, and_self, and_true, true_and, false_and, and_false, if_true, if_false, ↓reduceIte, reduceCtorEq]; omega)), rfl⟩) hl.1)
          · rw [tk_mu_c c1, tk_mu_c (by omega), tk_mu_c (by omega)]
          · rw [tk_mu_i hj, tk_mu_c (by omega), tk_mu_c (by omega)]
        · skip
          refine tr_bipush (pc := 48) dX10_book_48 ⟨by decide, ⟨by decide, by decide⟩⟩ ?_
          refine tr_ireti (pc := 50) dX10_book_50 rfl ?_
          rw [if_neg (by omega), if_neg (by omega), if_neg (by omega), if_pos (by omega)]
          exact ⟨rfl, hl, of1.rf⟩
      · skip
        refine tr_bipush (pc := 36) dX10_book_36 ⟨by decide, ⟨by decide, by decide⟩⟩ ?_
        refine tr_ireti (pc := 38) dX10_book_38 rfl ?_
        rw [if_neg (by omega), if_neg (by omega), if_pos (by omega)]
        exact ⟨rfl, hl, of1.rf⟩
    · skip
      refine tr_iconst (pc := 24) dX10_book_24 ⟨by decide, by decide⟩ ?_
      refine tr_ireti (pc := 25) dX10_book_25 rfl ?_
      rw [if_neg (by omega), if_pos (by omega)]
      exact ⟨rfl, hl, of1.rf⟩
  · skip
    refine tr_aload_n (pc := 5) dX10_book_5 rfl (by decide) ?_
    refine tr_iconst (pc := 6) dX10_book_6 ⟨by decide, by decide⟩ ?_
    refine tr_puti (pc := 7) (ji := 29) dX10_book_7 fi10_345 rfl (Or.inl rfl) (Or.inl rfl) sg101 rfl ?_
    refine tr_iconst (pc := 10) dX10_book_10 ⟨by decide, by decide⟩ ?_
    refine tr_ireti (pc := 11) dX10_book_11 rfl ?_
    rw [if_pos (by omega)]
    exact ⟨rfl, ⟨by rw [tk_mu_at]; rfl, by rw [tk_mu_at]; omega⟩, fun c c1 _ => tk_mu_c c1, fun j hj => tk_mu_i hj⟩
theorem sp_X10_looked {G : tk_G} {M : tk_M} {C : cC} {bk : L3} (hC : Rg M C) (hl : rb_at M bk) (hok : bk_ok bk) : Spi G FX10_looked [xR 101] SF M (fun v M' => v = x_lk C.1 0 bk ∧ M' = M) := by
  obtain ⟨c1, -, -⟩ := hC
  have h8 := hl.2
  refine Spi.of _ mtX10_looked nlX10_looked (Nat.le_of_ble_eq_true rfl) ?_
  show Ok G FX10_looked 0 [xR 101, xU] [] SF M 0 0 _
  have loop : ∀ (u : L3) (k : Int), 0 ≤ k → bk_ok u → rw_seg (M 124) (M 125) (fun _ => 0) (M 101 29) k u → Ok G FX10_looked 2 [xR 101, xI k] [] SF M 0 0 (tk_qi SF (fun v M' => v = x_lk C.1 k u ∧ M' = M)) := by
    intro u
    induction u with
    | nil =>
      intro k hk ho hs
      have hs : k = M 101 29 := hs
      refine tr_iload_n (pc := 2) dX10_looked_2 rfl ?_
      refine tr_aload_n (pc := 3) dX10_looked_3 rfl (by decide) ?_
      refine tr_geti (pc := 4) (ji := 29) dX10_looked_4 fi10_345 rfl sg101 rfl ?_
      refine tr_icmpge (pc := 7) (tgt := 58) dX10_looked_7 (by decide) (fun c7 => ?_) (fun c7 => absurd c7 (by omega))
      refine tr_bipush (pc := 58) dX10_looked_58 ⟨by decide, ⟨by decide, by decide⟩⟩ ?_
      refine tr_ireti (pc := 60) dX10_looked_60 rfl ?_
      exact ⟨rfl, rfl⟩
    | cons q u ih =>
      intro k hk ho hs
      obtain ⟨t, v, z⟩ := q
      obtain ⟨e1, e2, e3, hlt, hs⟩ := hs
      have hq : (0 ≤ t ∧ t ≤ 99) ∧ (0 ≤ v ∧ v ≤ 1) := ho (t, v, z) List.mem_cons_self
      have h01 := ig_in01 (t / 10) (t % 10) C.1
      unfold x_lk
      refine tr_iload_n (pc := 2) dX10_looked_2 rfl ?_
      refine tr_aload_n (pc := 3) dX10_looked_3 rfl (by decide) ?_
      refine tr_geti (pc := 4) (ji := 29) dX10_looked_4 fi10_345 rfl sg101 rfl ?_
      refine tr_icmpge (pc := 7) (tgt := 58) dX10_looked_7 (by decide) (fun c7 => absurd c7 (by omega)) (fun c7 => ?_)
      refine tr_aload_n (pc := 10) dX10_looked_10 rfl (by decide) ?_
      refine tr_iconst (pc := 11) dX10_looked_11 ⟨by decide, by decide⟩ ?_
      refine tr_aload_n (pc := 12) dX10_looked_12 rfl (by decide) ?_
      refine tr_getr (pc := 13) (x := 124) dX10_looked_13 fi10_78 rfl sg101 rfl ?_
      refine tr_iload_n (pc := 16) dX10_looked_16 rfl ?_
      refine tr_ialdv (pc := 17) (x := t) dX10_looked_17 sg124 (by omega) (by omega) (e1) ?_
      refine tr_bipush (pc := 18) dX10_looked_18 ⟨by decide, ⟨by decide, by decide⟩⟩ ?_
      refine tr_idiv (pc := 20) dX10_looked_20 (by omega) (by omega) ?_
      refine tr_aload_n (pc := 21) dX10_looked_21 rfl (by decide) ?_
      refine tr_getr (pc := 22) (x := 124) dX10_looked_22 fi10_78 rfl sg101 rfl ?_
      refine tr_iload_n (pc := 25) dX10_looked_25 rfl ?_
      refine tr_ialdv (pc := 26) (x := t) dX10_looked_26 sg124 (by omega) (by omega) (e1) ?_
      refine tr_bipush (pc := 27) dX10_looked_27 ⟨by decide, ⟨by decide, by decide⟩⟩ ?_
      refine tr_irem (pc := 29) dX10_looked_29 (by omega) (by omega) ?_
      refine tr_cVi3 (pc := 30) dX10_looked_30 mtX10_isWithin lv10_234 rfl sg101 kc10 ⟨(Nat.le_of_ble_eq_true rfl), (Nat.le_of_ble_eq_true rfl)⟩ nlX10_isWithin (Nat.le_of_ble_eq_true rfl) ⟨(Nat.le_of_ble_eq_true rfl), (Nat.le_of_ble_eq_true rfl)⟩ (sp_X10_isWithin (by omega) c1) (fun r30 M30 h30 => ?_)
      obtain ⟨hr30, hM30⟩ := h30
      obtain rfl := hr30.symm
      obtain rfl := hM30.symm
      refine tr_ifeq (pc := 33) (tgt := 40) dX10_looked_33 (by decide) (fun c33 => ?_) (fun c33 => ?_)
      · skip
        refine tr_iconst (pc := 40) dX10_looked_40 ⟨by decide, by decide⟩ ?_
        refine tr_aload_n (pc := 41) dX10_looked_41 rfl (by decide) ?_
        refine tr_getr (pc := 42) (x := 125) dX10_looked_42 fi10_81 rfl sg101 rfl ?_
        refine tr_iload_n (pc := 45) dX10_looked_45 rfl ?_
        refine tr_ialdv (pc := 46) (x := v) dX10_looked_46 sg125 (by omega) (by omega) (e2) ?_
        refine tr_icmpeq (pc := 47) (tgt := 52) dX10_looked_47 (by decide) (fun c47 => ?_) (fun c47 => ?_)
        · skip
          refine tr_iinc (pc := 52) dX10_looked_52 rfl rfl ⟨by omega, by omega⟩ ?_
          dsimp only [List.set]
          refine tr_goto (pc := 55) (tgt := 2) dX10_looked_55 (by decide) ?_
          rw [if_pos (by omega)]
          exact ih (k + 1) (by omega) (fun z hz => ho z (List.mem_cons_of_mem _ hz)) hs
        · skip
          refine tr_iload_n (pc := 50) dX10_looked_50 rfl ?_
          refine tr_ireti (pc := 51) dX10_looked_51 rfl ?_
          rw [if_neg (by omega)]
          exact ⟨rfl, rfl⟩
      · skip
        refine tr_iconst (pc := 36) dX10_looked_36 ⟨by decide, by decide⟩ ?_
        refine tr_goto (pc := 37) (tgt := 41) dX10_looked_37 (by decide) ?_
        refine tr_aload_n (pc := 41) dX10_looked_41 rfl (by decide) ?_
        refine tr_getr (pc := 42) (x := 125) dX10_looked_42 fi10_81 rfl sg101 rfl ?_
        refine tr_iload_n (pc := 45) dX10_looked_45 rfl ?_
        refine tr_ialdv (pc := 46) (x := v) dX10_looked_46 sg125 (by omega) (by omega) (e2) ?_
        refine tr_icmpeq (pc := 47) (tgt := 52) dX10_looked_47 (by decide) (fun c47 => ?_) (fun c47 => ?_)
        · skip
          refine tr_iinc (pc := 52) dX10_looked_52 rfl rfl ⟨by omega, by omega⟩ ?_
          dsimp only [List.set]
          refine tr_goto (pc := 55) (tgt := 2) dX10_looked_55 (by decide) ?_
          rw [if_pos (by omega)]
          exact ih (k + 1) (by omega) (fun z hz => ho z (List.mem_cons_of_mem _ hz)) hs
        · skip
          refine tr_iload_n (pc := 50) dX10_looked_50 rfl ?_
          refine tr_ireti (pc := 51) dX10_looked_51 rfl ?_
          rw [if_neg (by omega)]
          exact ⟨rfl, rfl⟩
  refine tr_iconst (pc := 0) dX10_looked_0 ⟨by decide, by decide⟩ ?_
  refine tr_istore_n (pc := 1) dX10_looked_1 rfl (Nat.le_of_ble_eq_true rfl) ?_
  dsimp only [List.set]
  exact loop bk 0 (by omega) hok hl.1
theorem jr_ga_rp {A B Cc : Int → Int} {n : Int} {F : L3} (hF : hl_seg A B Cc n 0 F) : ∀ (d : Nat) (t : Int) (J : List (Int × Int)), t + d = 100 → 0 ≤ t → (∀ y ∈ J, rpos y) → ∀ y ∈ jr_ga F d t J, rpos y := by
  intro d
  induction d with
  | zero => intro t J _ _ h; exact h
  | succ d ih =>
    intro t J hd ht h
    unfold jr_ga
    have hta := hl_tgt_at (a := t / 10) (b := t % 10) F 0 (-1, 0, 0) (by omega) (Or.inl rfl) hF
    generalize hl_tgt (t / 10) (t % 10) 0 (-1, 0, 0) F = z at hta ⊢
    refine ih (t + 1) _ (by omega) (by omega) ?_
    by_cases hz : z.1 < 0
    · rw [if_pos hz]; exact h
    · rw [if_neg hz]
      obtain ⟨g0, g1, g2, g3, g4⟩ := hta.resolve_left (by omega)
      obtain ⟨f1, f2, f3, f4⟩ := hl_seg_get F 0 z.1 hF g0 g1
      have m1 := mulb f2.1 f2.2 (show 0 ≤ t / 10 + 1 by omega) (show t / 10 + 1 ≤ 10 by omega)
      have m2 := mulb f3.1 f3.2 (show 0 ≤ t % 10 + 1 by omega) (show t % 10 + 1 ≤ 10 by omega)
      exact jins_rp ⟨⟨by show 0 ≤ z.2.1; omega, by show z.2.1 ≤ 1000; omega⟩, ⟨by show 1 ≤ z.2.2; omega, by show z.2.2 ≤ 1000; omega⟩⟩ h
theorem sp_X10_isSeen {G : tk_G} {M : tk_M} {g : List (Int × Int)} {l : L3} (hg : rg_at M 0 g) (hnd : g.Nodup) (hl : rs_at M l) (hok : sn_ok l) : Spi G FX10_isSeen [xR 101] SF M (fun v M' => v = x_seen l g ∧ fQ M M') := by
  have hln := hl.len
  have hgl := hg.len
  refine Spi.of _ mtX10_isSeen nlX10_isSeen (Nat.le_of_ble_eq_true rfl) ?_
  show Ok G FX10_isSeen 0 [xR 101, xU, xU] [] SF M 0 0 _
  unfold x_seen
  have loop : ∀ (J : List (Int × Int)) (M1 : tk_M), (∀ y ∈ J, rpos y) → rj_at M1 (J.map red) → rs_at M1 l → ∀ (t : L3) (k is : Int), 0 ≤ k → (is = 0 ∨ is = 1) → sn_ok t → rw_seg (M1 119) (M1 120) (M1 121) (M1 101 22) k t → Ok G FX10_isSeen 33 [xR 101, xI is, xI k] [] SF M1 0 0 (tk_qi SF (fun v M' => v = (if is = 0 then 0 else sA J t) ∧ M' = M1)) := by
    intro J M1 hrp hJ hl1 t
    have hjl := hJ.len
    rw [List.length_map] at hjl
    have hl4 := hl1.2
    induction t with
    | nil =>
      intro k is hk his hsn hs
      have hs : k = M1 101 22 := hs
      refine tr_iload_n (pc := 33) dX10_isSeen_33 rfl ?_
      refine tr_aload_n (pc := 34) dX10_isSeen_34 rfl (by decide) ?_
      refine tr_geti (pc := 35) (ji := 22) dX10_isSeen_35 fi10_320 rfl sg101 rfl ?_
      refine tr_icmpge (pc := 38) (tgt := 109) dX10_isSeen_38 (by decide) (fun c38 => ?_) (fun c38 => absurd c38 (by omega))
      refine tr_iload_n (pc := 109) dX10_isSeen_109 rfl ?_
      refine tr_iretz (pc := 110) dX10_isSeen_110 rfl (by omega) ?_
      refine ⟨?_, rfl⟩
      unfold sA
      omega
    | cons q t ih =>
      intro k is hk his hsn hs
      obtain ⟨i, n, d⟩ := q
      obtain ⟨e1, e2, e3, hlt, hs⟩ := hs
      have hq : (0 ≤ i ∧ i ≤ 99) ∧ (1 ≤ n ∧ n ≤ 99) ∧ (1 ≤ d ∧ d ≤ 99) := hsn (i, n, d) List.mem_cons_self
      unfold sA
      by_cases hij : i < J.length
      · skip
        have hgj := rj_gp (j := i) hJ (by omega) (by omega)
        rw [gp_map (by omega) hij] at hgj
        obtain ⟨-, q2, q3⟩ := jr_seg_get _ 0 i hJ.1 (by omega) (by omega)
        rw [hgj.1] at q2
        rw [hgj.2] at q3
        have hrpi : rpos (gp J i) := by
          refine hrp _ ?_
          unfold gp
          rw [List.getD_eq_getElem?_getD, List.getElem?_eq_getElem (show i.toNat < J.length by omega)]
          exact List.getElem_mem _
        have hrc := red_cross (n := n) (d := d) hrpi
        have m1 := mulb q2.1 q2.2 (show 0 ≤ d by omega) (show d ≤ 99 by omega)
        have m2 := mulb (show 0 ≤ n by omega) (show n ≤ 99 by omega) (show 0 ≤ (red (gp J i)).2 by omega) q3.2
        refine tr_iload_n (pc := 33) dX10_isSeen_33 rfl ?_
        refine tr_aload_n (pc := 34) dX10_isSeen_34 rfl (by decide) ?_
        refine tr_geti (pc := 35) (ji := 22) dX10_isSeen_35 fi10_320 rfl sg101 rfl ?_
        refine tr_icmpge (pc := 38) (tgt := 109) dX10_isSeen_38 (by decide) (fun c38 => absurd c38 (by omega)) (fun c38 => ?_)
        refine tr_iload_n (pc := 41) dX10_isSeen_41 rfl ?_
        refine tr_ifeq (pc := 42) (tgt := 101) dX10_isSeen_42 (by decide) (fun c42 => ?_) (fun c42 => ?_)
        · skip
          refine tr_iconst (pc := 101) dX10_isSeen_101 ⟨by decide, by decide⟩ ?_
          refine tr_istore_n (pc := 102) dX10_isSeen_102 rfl (Nat.le_of_ble_eq_true rfl) ?_
          dsimp only [List.set]
          refine tr_iinc (pc := 103) dX10_isSeen_103 rfl rfl ⟨by omega, by omega⟩ ?_
          dsimp only [List.set]
          refine tr_goto (pc := 106) (tgt := 33) dX10_isSeen_106 (by decide) ?_
          first
          | rw [if_pos (show is = 0 by omega)]
            exact tk_mono (ih (k + 1) 0 (by omega) (Or.inl rfl) (fun z hz => hsn z (List.mem_cons_of_mem _ hz)) hs) (fun v M1 h => ⟨by rw [h.1, if_pos rfl], h.2⟩)
          | rw [if_neg (show ¬ is = 0 by omega), if_pos (show (J.length : Int) ≤ i ∨ (gp J i).1 * d ≠ n * (gp J i).2 from Or.inr (fun h => absurd (hrc.mpr h) (by omega)))]
            exact tk_mono (ih (k + 1) 0 (by omega) (Or.inl rfl) (fun z hz => hsn z (List.mem_cons_of_mem _ hz)) hs) (fun v M1 h => ⟨by rw [h.1, if_pos rfl], h.2⟩)
          | rw [if_neg (show ¬ is = 0 by omega), if_neg (show ¬ ((J.length : Int) ≤ i ∨ (gp J i).1 * d ≠ n * (gp J i).2) from fun h => (h.resolve_left (by omega)) (hrc.mp (by omega)))]
            exact tk_mono (ih (k + 1) 1 (by omega) (Or.inr rfl) (fun z hz => hsn z (List.mem_cons_of_mem _ hz)) hs) (fun v M1 h => ⟨by rw [h.1, if_neg (by decide)], h.2⟩)
        · skip
          refine tr_aload_n (pc := 45) dX10_isSeen_45 rfl (by decide) ?_
          refine tr_getr (pc := 46) (x := 119) dX10_isSeen_46 fi10_63 rfl sg101 rfl ?_
          refine tr_iload_n (pc := 49) dX10_isSeen_49 rfl ?_
          refine tr_ialdv (pc := 50) (x := i) dX10_isSeen_50 sg119 (by omega) (by omega) (e1) ?_
          refine tr_aload_n (pc := 51) dX10_isSeen_51 rfl (by decide) ?_
          refine tr_geti (pc := 52) (ji := 16) dX10_isSeen_52 fi10_257 rfl sg101 rfl ?_
          refine tr_icmpge (pc := 55) (tgt := 101) dX10_isSeen_55 (by decide) (fun c55 => absurd c55 (by omega)) (fun c55 => ?_)
          refine tr_aload_n (pc := 58) dX10_isSeen_58 rfl (by decide) ?_
          refine tr_getr (pc := 59) (x := 114) dX10_isSeen_59 fi10_48 rfl sg101 rfl ?_
          refine tr_aload_n (pc := 62) dX10_isSeen_62 rfl (by decide) ?_
          refine tr_getr (pc := 63) (x := 119) dX10_isSeen_63 fi10_63 rfl sg101 rfl ?_
          refine tr_iload_n (pc := 66) dX10_isSeen_66 rfl ?_
          refine tr_ialdv (pc := 67) (x := i) dX10_isSeen_67 sg119 (by omega) (by omega) (e1) ?_
          refine tr_ialdv (pc := 68) (x := (red (gp J i)).1) dX10_isSeen_68 sg114 (by omega) (by omega) (hgj.1) ?_
          refine tr_aload_n (pc := 69) dX10_isSeen_69 rfl (by decide) ?_
          refine tr_getr (pc := 70) (x := 121) dX10_isSeen_70 fi10_69 rfl sg101 rfl ?_
          refine tr_iload_n (pc := 73) dX10_isSeen_73 rfl ?_
          refine tr_ialdv (pc := 74) (x := d) dX10_isSeen_74 sg121 (by omega) (by omega) (e3) ?_
          refine tr_imul (pc := 75) dX10_isSeen_75 ⟨by omega, by omega⟩ ?_
          refine tr_aload_n (pc := 76) dX10_isSeen_76 rfl (by decide) ?_
          refine tr_getr (pc := 77) (x := 120) dX10_isSeen_77 fi10_66 rfl sg101 rfl ?_
          refine tr_iload_n (pc := 80) dX10_isSeen_80 rfl ?_
          refine tr_ialdv (pc := 81) (x := n) dX10_isSeen_81 sg120 (by omega) (by omega) (e2) ?_
          refine tr_aload_n (pc := 82) dX10_isSeen_82 rfl (by decide) ?_
          refine tr_getr (pc := 83) (x := 115) dX10_isSeen_83 fi10_51 rfl sg101 rfl ?_
          refine tr_aload_n (pc := 86) dX10_isSeen_86 rfl (by decide) ?_
          refine tr_getr (pc := 87) (x := 119) dX10_isSeen_87 fi10_63 rfl sg101 rfl ?_
          refine tr_iload_n (pc := 90) dX10_isSeen_90 rfl ?_
          refine tr_ialdv (pc := 91) (x := i) dX10_isSeen_91 sg119 (by omega) (by omega) (e1) ?_
          refine tr_ialdv (pc := 92) (x := (red (gp J i)).2) dX10_isSeen_92 sg115 (by omega) (by omega) (hgj.2) ?_
          refine tr_imul (pc := 93) dX10_isSeen_93 ⟨by omega, by omega⟩ ?_
          refine tr_icmpne (pc := 94) (tgt := 101) dX10_isSeen_94 (by decide) (fun c94 => ?_) (fun c94 => ?_)
          · skip
            refine tr_iconst (pc := 101) dX10_isSeen_101 ⟨by decide, by decide⟩ ?_
            refine tr_istore_n (pc := 102) dX10_isSeen_102 rfl (Nat.le_of_ble_eq_true rfl) ?_
            dsimp only [List.set]
            refine tr_iinc (pc := 103) dX10_isSeen_103 rfl rfl ⟨by omega, by omega⟩ ?_
            dsimp only [List.set]
            refine tr_goto (pc := 106) (tgt := 33) dX10_isSeen_106 (by decide) ?_
            first
            | rw [if_pos (show is = 0 by omega)]
              exact tk_mono (ih (k + 1) 0 (by omega) (Or.inl rfl) (fun z hz => hsn z (List.mem_cons_of_mem _ hz)) hs) (fun v M1 h => ⟨by rw [h.1, if_pos rfl], h.2⟩)
            | rw [if_neg (show ¬ is = 0 by omega), if_pos (show (J.length : Int) ≤ i ∨ (gp J i).1 * d ≠ n * (gp J i).2 from Or.inr (fun h => absurd (hrc.mpr h) (by omega)))]
              exact tk_mono (ih (k + 1) 0 (by omega) (Or.inl rfl) (fun z hz => hsn z (List.mem_cons_of_mem _ hz)) hs) (fun v M1 h => ⟨by rw [h.1, if_pos rfl], h.2⟩)
            | rw [if_neg (show ¬ is = 0 by omega), if_neg (show ¬ ((J.length : Int) ≤ i ∨ (gp J i).1 * d ≠ n * (gp J i).2) from fun h => (h.resolve_left (by omega)) (hrc.mp (by omega)))]
              exact tk_mono (ih (k + 1) 1 (by omega) (Or.inr rfl) (fun z hz => hsn z (List.mem_cons_of_mem _ hz)) hs) (fun v M1 h => ⟨by rw [h.1, if_neg (by decide)], h.2⟩)
          · skip
            refine tr_iconst (pc := 97) dX10_isSeen_97 ⟨by decide, by decide⟩ ?_
            refine tr_goto (pc := 98) (tgt := 102) dX10_isSeen_98 (by decide) ?_
            refine tr_istore_n (pc := 102) dX10_isSeen_102 rfl (Nat.le_of_ble_eq_true rfl) ?_
            dsimp only [List.set]
            refine tr_iinc (pc := 103) dX10_isSeen_103 rfl rfl ⟨by omega, by omega⟩ ?_
            dsimp only [List.set]
            refine tr_goto (pc := 106) (tgt := 33) dX10_isSeen_106 (by decide) ?_
            first
            | rw [if_pos (show is = 0 by omega)]
              exact tk_mono (ih (k + 1) 0 (by omega) (Or.inl rfl) (fun z hz => hsn z (List.mem_cons_of_mem _ hz)) hs) (fun v M1 h => ⟨by rw [h.1, if_pos rfl], h.2⟩)
            | rw [if_neg (show ¬ is = 0 by omega), if_pos (show (J.length : Int) ≤ i ∨ (gp J i).1 * d ≠ n * (gp J i).2 from Or.inr (fun h => absurd (hrc.mpr h) (by omega)))]
              exact tk_mono (ih (k + 1) 0 (by omega) (Or.inl rfl) (fun z hz => hsn z (List.mem_cons_of_mem _ hz)) hs) (fun v M1 h => ⟨by rw [h.1, if_pos rfl], h.2⟩)
            | rw [if_neg (show ¬ is = 0 by omega), if_neg (show ¬ ((J.length : Int) ≤ i ∨ (gp J i).1 * d ≠ n * (gp J i).2) from fun h => (h.resolve_left (by omega)) (hrc.mp (by omega)))]
              exact tk_mono (ih (k + 1) 1 (by omega) (Or.inr rfl) (fun z hz => hsn z (List.mem_cons_of_mem _ hz)) hs) (fun v M1 h => ⟨by rw [h.1, if_neg (by decide)], h.2⟩)
      · rw [if_pos (Or.inl (by omega))]
        refine tr_iload_n (pc := 33) dX10_isSeen_33 rfl ?_
        refine tr_aload_n (pc := 34) dX10_isSeen_34 rfl (by decide) ?_
        refine tr_geti (pc := 35) (ji := 22) dX10_isSeen_35 fi10_320 rfl sg101 rfl ?_
        refine tr_icmpge (pc := 38) (tgt := 109) dX10_isSeen_38 (by decide) (fun c38 => absurd c38 (by omega)) (fun c38 => ?_)
        refine tr_iload_n (pc := 41) dX10_isSeen_41 rfl ?_
        refine tr_ifeq (pc := 42) (tgt := 101) dX10_isSeen_42 (by decide) (fun c42 => ?_) (fun c42 => ?_)
        · skip
          refine tr_iconst (pc := 101) dX10_isSeen_101 ⟨by decide, by decide⟩ ?_
          refine tr_istore_n (pc := 102) dX10_isSeen_102 rfl (Nat.le_of_ble_eq_true rfl) ?_
          dsimp only [List.set]
          refine tr_iinc (pc := 103) dX10_isSeen_103 rfl rfl ⟨by omega, by omega⟩ ?_
          dsimp only [List.set]
          refine tr_goto (pc := 106) (tgt := 33) dX10_isSeen_106 (by decide) ?_
          exact tk_mono (ih (k + 1) 0 (by omega) (Or.inl rfl) (fun z hz => hsn z (List.mem_cons_of_mem _ hz)) hs) (fun v M1 h => ⟨by rw [h.1, if_pos rfl]; split <;> rfl, h.2⟩)
        · skip
          refine tr_aload_n (pc := 45) dX10_isSeen_45 rfl (by decide) ?_
          refine tr_getr (pc := 46) (x := 119) dX10_isSeen_46 fi10_63 rfl sg101 rfl ?_
          refine tr_iload_n (pc := 49) dX10_isSeen_49 rfl ?_
          refine tr_ialdv (pc := 50) (x := i) dX10_isSeen_50 sg119 (by omega) (by omega) (e1) ?_
          refine tr_aload_n (pc := 51) dX10_isSeen_51 rfl (by decide) ?_
          refine tr_geti (pc := 52) (ji := 16) dX10_isSeen_52 fi10_257 rfl sg101 rfl ?_
          refine tr_icmpge (pc := 55) (tgt := 101) dX10_isSeen_55 (by decide) (fun c55 => ?_) (fun c55 => absurd c55 (by omega))
          refine tr_iconst (pc := 101) dX10_isSeen_101 ⟨by decide, by decide⟩ ?_
          refine tr_istore_n (pc := 102) dX10_isSeen_102 rfl (Nat.le_of_ble_eq_true rfl) ?_
          dsimp only [List.set]
          refine tr_iinc (pc := 103) dX10_isSeen_103 rfl rfl ⟨by omega, by omega⟩ ?_
          dsimp only [List.set]
          refine tr_goto (pc := 106) (tgt := 33) dX10_isSeen_106 (by decide) ?_
          exact tk_mono (ih (k + 1) 0 (by omega) (Or.inl rfl) (fun z hz => hsn z (List.mem_cons_of_mem _ hz)) hs) (fun v M1 h => ⟨by rw [h.1, if_pos rfl]; split <;> rfl, h.2⟩)
  refine tr_aload_n (pc := 0) dX10_isSeen_0 rfl (by decide) ?_
  refine tr_geti (pc := 1) (ji := 22) dX10_isSeen_1 fi10_320 rfl sg101 rfl ?_
  refine tr_ifne (pc := 4) (tgt := 9) dX10_isSeen_4 (by decide) (fun c4 => ?_) (fun c4 => ?_)
  · skip
    refine tr_aload_n (pc := 9) dX10_isSeen_9 rfl (by decide) ?_
    refine tr_getr (pc := 10) (x := 102) dX10_isSeen_10 fi10_11 rfl sg101 rfl ?_
    refine tr_iconst (pc := 13) dX10_isSeen_13 ⟨by decide, by decide⟩ ?_
    refine tr_iald (pc := 14) dX10_isSeen_14 sg102 (by omega) (by omega) ?_
    refine tr_ifne (pc := 15) (tgt := 20) dX10_isSeen_15 (by decide) (fun c15 => ?_) (fun c15 => ?_)
    · skip
      refine tr_aload_n (pc := 20) dX10_isSeen_20 rfl (by decide) ?_
      refine tr_iconst (pc := 21) dX10_isSeen_21 ⟨by decide, by decide⟩ ?_
      refine tr_cVv1 (pc := 22) dX10_isSeen_22 mtX10_tellsFaces lv10_166 rfl sg101 kc10 ⟨(Nat.le_of_ble_eq_true rfl), (Nat.le_of_ble_eq_true rfl)⟩ nlX10_tellsFaces (Nat.le_of_ble_eq_true rfl) ⟨(Nat.le_of_ble_eq_true rfl), (Nat.le_of_ble_eq_true rfl)⟩ (sp_X10_tellsFaces (by omega) hg (rg_ne hg (by omega)) hnd) (fun M22 h22 => ?_)
      obtain ⟨hF, f1⟩ := h22
      refine tr_aload_n (pc := 25) dX10_isSeen_25 rfl (by decide) ?_
      refine tr_cVv0 (pc := 26) dX10_isSeen_26 mtX10_tellsJumps lv10_254 rfl sg101 kc10 ⟨(Nat.le_of_ble_eq_true rfl), (Nat.le_of_ble_eq_true rfl)⟩ nlX10_tellsJumps (Nat.le_of_ble_eq_true rfl) ⟨(Nat.le_of_ble_eq_true rfl), (Nat.le_of_ble_eq_true rfl)⟩ (sp_X10_tellsJumps hF) (fun M26 h26 => ?_)
      obtain ⟨hJ, f2⟩ := h26
      have q1 := (fQ.hf f1).trans (fQ.jf f2)
      have hl1 := hl.fQ q1
      refine tr_iconst (pc := 29) dX10_isSeen_29 ⟨by decide, by decide⟩ ?_
      refine tr_istore_n (pc := 30) dX10_isSeen_30 rfl (Nat.le_of_ble_eq_true rfl) ?_
      dsimp only [List.set]
      refine tr_iconst (pc := 31) dX10_isSeen_31 ⟨by decide, by decide⟩ ?_
      refine tr_istore_n (pc := 32) dX10_isSeen_32 rfl (Nat.le_of_ble_eq_true rfl) ?_
      dsimp only [List.set]
      rw [if_neg (by omega), if_neg (by omega)]
      exact tk_mono (loop _ M26 (jr_ga_rp hF.1 100 0 [] (by omega) (by omega) (fun y hy => by cases hy)) hJ hl1 l 0 1 (by omega) (Or.inr rfl) hok hl1.1) (fun v M1 h => ⟨by rw [h.1, if_neg (by decide)], by rw [h.2]; exact q1⟩)
    · skip
      refine tr_iconst (pc := 18) dX10_isSeen_18 ⟨by decide, by decide⟩ ?_
      refine tr_iretz (pc := 19) dX10_isSeen_19 rfl (by omega) ?_
      rw [if_neg (by omega), if_pos (by omega)]
      exact ⟨rfl, fQ.rf⟩
  · skip
    refine tr_iconst (pc := 7) dX10_isSeen_7 ⟨by decide, by decide⟩ ?_
    refine tr_iretz (pc := 8) dX10_isSeen_8 rfl (by omega) ?_
    rw [if_pos (by omega)]
    exact ⟨rfl, fQ.rf⟩
