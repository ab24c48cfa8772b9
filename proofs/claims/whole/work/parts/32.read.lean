/-- THE TEXT is well -/
def tx_ok (M : tk_M) : Prop := 0 ≤ M 72 1 ∧ M 72 1 ≤ 100 ∧ ∀ i, 0 ≤ i → i < M 72 1 → 0 ≤ M 73 i ∧ M 73 i ≤ 127
theorem tx_ok.g {M : tk_M} (h : tx_ok M) (p : Int) : -1 ≤ tx_g M p ∧ tx_g M p ≤ 127 := by
  unfold tx_g
  split
  · have := h.2.2 p (by omega) (by omega); omega
  · omega
theorem tx_g_fr {M M' : tk_M} (h1 : M' 72 = M 72) (h2 : M' 73 = M 73) : tx_g M' = tx_g M := by funext p; unfold tx_g; rw [h1, h2]
theorem tx_ok.fr {M M' : tk_M} (h : tx_ok M) (h1 : M' 72 = M 72) (h2 : M' 73 = M 73) : tx_ok M' := by unfold tx_ok; rw [h1, h2]; exact h
def c_do (C : cC) (x a b c : Int) : Int × cC := if x = 43 then c_gen C a b c else if x = 45 then c_drop C a b else if x = 99 then c_close C a else if x = 109 then c_merge C a else if x = 122 then c_clear C a else c_back C
theorem sp_X9_doClause {G : tk_G} {M : tk_M} {C : cC} {p : Int} (hG : gs_ok G) (hC : Cg M C) (ht : tx_ok M) (hp : 0 ≤ p ∧ p ≤ 1000) : Spi G FX9_doClause [xR 0, xI p] SF M (fun v M' => v = (c_do C (tx_g M p) (tx_g M (p + 1) - 48) (tx_g M (p + 2) - 48) (tx_g M (p + 3) - 48)).1 ∧ Cg M' (c_do C (tx_g M p) (tx_g M (p + 1) - 48) (tx_g M (p + 2) - 48) (tx_g M (p + 3) - 48)).2 ∧ fC M M') := by
  have h100 := ht.2.1
  have g1 := ht.g (p + 1)
  have g2 := ht.g (p + 2)
  have g3 := ht.g (p + 3)
  refine Spi.of _ mtX9_doClause nlX9_doClause (Nat.le_of_ble_eq_true rfl) ?_
  show Ok G FX9_doClause 0 [xR 0, xI p, xU] [] SF M 0 0 _
  refine tr_aload_n (pc := 0) dX9_doClause_0 rfl (by decide) ?_
  refine tr_getr (pc := 1) (x := 72) dX9_doClause_1 fi9_35 rfl sg0 rfl ?_
  refine tr_iload_n (pc := 4) dX9_doClause_4 rfl ?_
  refine tr_iconst (pc := 5) dX9_doClause_5 ⟨by decide, by decide⟩ ?_
  refine tr_iadd (pc := 6) dX9_doClause_6 ⟨by omega, by omega⟩ ?_
  refine tr_cVi1 (pc := 7) dX9_doClause_7 mtX7_digitAt lv9_167 rfl sg72 kc7 ⟨(Nat.le_of_ble_eq_true rfl), (Nat.le_of_ble_eq_true rfl)⟩ nlX7_digitAt (Nat.le_of_ble_eq_true rfl) ⟨(Nat.le_of_ble_eq_true rfl), (Nat.le_of_ble_eq_true rfl)⟩ (sp_X7_digitAt h100 (by omega)) (fun r7 M7 h7 => ?_)
  obtain ⟨hr7, hM7⟩ := h7
  obtain rfl := hr7.symm
  obtain rfl := hM7.symm
  refine tr_istore_n (pc := 10) dX9_doClause_10 rfl (Nat.le_of_ble_eq_true rfl) ?_
  dsimp only [List.set]
  refine tr_aload_n (pc := 11) dX9_doClause_11 rfl (by decide) ?_
  refine tr_getr (pc := 12) (x := 72) dX9_doClause_12 fi9_35 rfl sg0 rfl ?_
  refine tr_iload_n (pc := 15) dX9_doClause_15 rfl ?_
  refine tr_cVi1 (pc := 16) dX9_doClause_16 mtX7_signAt lv9_161 rfl sg72 kc7 ⟨(Nat.le_of_ble_eq_true rfl), (Nat.le_of_ble_eq_true rfl)⟩ nlX7_signAt (Nat.le_of_ble_eq_true rfl) ⟨(Nat.le_of_ble_eq_true rfl), (Nat.le_of_ble_eq_true rfl)⟩ (sp_X7_signAt h100) (fun r16 M16 h16 => ?_)
  obtain ⟨hr16, hM16⟩ := h16
  obtain rfl := hr16.symm
  obtain rfl := hM16.symm
  rcases (by omega : tx_g M p = 43 ∨ tx_g M p = 45 ∨ tx_g M p = 99 ∨ tx_g M p = 109 ∨ tx_g M p = 122 ∨ (tx_g M p ≠ 43 ∧ tx_g M p ≠ 45 ∧ tx_g M p ≠ 99 ∧ tx_g M p ≠ 109 ∧ tx_g M p ≠ 122)) with c19 | c19 | c19 | c19 | c19 | c19
  · skip
    refine tr_lookup (pc := 19) (x := tx_g M p) (off := 49) (tgt := 68) dX9_doClause_19 (by decide) (show Op.lookupswitch.offset [(43, 49), (45, 75), (99, 97), (109, 103), (122, 91)] 109 (tx_g M p) = 49 by rw [Op.lookupswitch.offset_cons, if_pos (by omega)]) (by decide) ?_
    refine tr_aload_n (pc := 68) dX9_doClause_68 rfl (by decide) ?_
    refine tr_iload_n (pc := 69) dX9_doClause_69 rfl ?_
    refine tr_aload_n (pc := 70) dX9_doClause_70 rfl (by decide) ?_
    refine tr_getr (pc := 71) (x := 72) dX9_doClause_71 fi9_35 rfl sg0 rfl ?_
    refine tr_iload_n (pc := 74) dX9_doClause_74 rfl ?_
    refine tr_iconst (pc := 75) dX9_doClause_75 ⟨by decide, by decide⟩ ?_
    refine tr_iadd (pc := 76) dX9_doClause_76 ⟨by omega, by omega⟩ ?_
    refine tr_cVi1 (pc := 77) dX9_doClause_77 mtX7_digitAt lv9_167 rfl sg72 kc7 ⟨(Nat.le_of_ble_eq_true rfl), (Nat.le_of_ble_eq_true rfl)⟩ nlX7_digitAt (Nat.le_of_ble_eq_true rfl) ⟨(Nat.le_of_ble_eq_true rfl), (Nat.le_of_ble_eq_true rfl)⟩ (sp_X7_digitAt h100 (by omega)) (fun r77 M77 h77 => ?_)
    obtain ⟨hr77, hM77⟩ := h77
    obtain rfl := hr77.symm
    obtain rfl := hM77.symm
    refine tr_aload_n (pc := 80) dX9_doClause_80 rfl (by decide) ?_
    refine tr_getr (pc := 81) (x := 72) dX9_doClause_81 fi9_35 rfl sg0 rfl ?_
    refine tr_iload_n (pc := 84) dX9_doClause_84 rfl ?_
    refine tr_iconst (pc := 85) dX9_doClause_85 ⟨by decide, by decide⟩ ?_
    refine tr_iadd (pc := 86) dX9_doClause_86 ⟨by omega, by omega⟩ ?_
    refine tr_cVi1 (pc := 87) dX9_doClause_87 mtX7_digitAt lv9_167 rfl sg72 kc7 ⟨(Nat.le_of_ble_eq_true rfl), (Nat.le_of_ble_eq_true rfl)⟩ nlX7_digitAt (Nat.le_of_ble_eq_true rfl) ⟨(Nat.le_of_ble_eq_true rfl), (Nat.le_of_ble_eq_true rfl)⟩ (sp_X7_digitAt h100 (by omega)) (fun r87 M87 h87 => ?_)
    obtain ⟨hr87, hM87⟩ := h87
    obtain rfl := hr87.symm
    obtain rfl := hM87.symm
    refine tr_cVi3 (pc := 90) dX9_doClause_90 mtX9_generate lv9_170 rfl sg0 kc9 ⟨(Nat.le_of_ble_eq_true rfl), (Nat.le_of_ble_eq_true rfl)⟩ nlX9_generate (Nat.le_of_ble_eq_true rfl) ⟨(Nat.le_of_ble_eq_true rfl), (Nat.le_of_ble_eq_true rfl)⟩ (sp_X9_generate hC) (fun r90 M90 h90 => ?_)
    obtain ⟨hv, hC2, f2⟩ := h90
    refine tr_ireti (pc := 93) dX9_doClause_93 rfl ?_
    unfold c_do
    rw [if_pos c19]
    exact ⟨hv, hC2, f2⟩
  · skip
    refine tr_lookup (pc := 19) (x := tx_g M p) (off := 75) (tgt := 94) dX9_doClause_19 (by decide) (show Op.lookupswitch.offset [(43, 49), (45, 75), (99, 97), (109, 103), (122, 91)] 109 (tx_g M p) = 75 by rw [Op.lookupswitch.offset_cons, if_neg (by omega), Op.lookupswitch.offset_cons, if_pos (by omega)]) (by decide) ?_
    refine tr_aload_n (pc := 94) dX9_doClause_94 rfl (by decide) ?_
    refine tr_iload_n (pc := 95) dX9_doClause_95 rfl ?_
    refine tr_aload_n (pc := 96) dX9_doClause_96 rfl (by decide) ?_
    refine tr_getr (pc := 97) (x := 72) dX9_doClause_97 fi9_35 rfl sg0 rfl ?_
    refine tr_iload_n (pc := 100) dX9_doClause_100 rfl ?_
    refine tr_iconst (pc := 101) dX9_doClause_101 ⟨by decide, by decide⟩ ?_
    refine tr_iadd (pc := 102) dX9_doClause_102 ⟨by omega, by omega⟩ ?_
    refine tr_cVi1 (pc := 103) dX9_doClause_103 mtX7_digitAt lv9_167 rfl sg72 kc7 ⟨(Nat.le_of_ble_eq_true rfl), (Nat.le_of_ble_eq_true rfl)⟩ nlX7_digitAt (Nat.le_of_ble_eq_true rfl) ⟨(Nat.le_of_ble_eq_true rfl), (Nat.le_of_ble_eq_true rfl)⟩ (sp_X7_digitAt h100 (by omega)) (fun r103 M103 h103 => ?_)
    obtain ⟨hr103, hM103⟩ := h103
    obtain rfl := hr103.symm
    obtain rfl := hM103.symm
    refine tr_cVi2 (pc := 106) dX9_doClause_106 mtX9_drop lv9_174 rfl sg0 kc9 ⟨(Nat.le_of_ble_eq_true rfl), (Nat.le_of_ble_eq_true rfl)⟩ nlX9_drop (Nat.le_of_ble_eq_true rfl) ⟨(Nat.le_of_ble_eq_true rfl), (Nat.le_of_ble_eq_true rfl)⟩ (sp_X9_drop hC) (fun r106 M106 h106 => ?_)
    obtain ⟨hv, hC2, f2⟩ := h106
    refine tr_ireti (pc := 109) dX9_doClause_109 rfl ?_
    unfold c_do
    rw [if_neg (by omega), if_pos c19]
    exact ⟨hv, hC2, f2⟩
  · skip
    refine tr_lookup (pc := 19) (x := tx_g M p) (off := 97) (tgt := 116) dX9_doClause_19 (by decide) (show Op.lookupswitch.offset [(43, 49), (45, 75), (99, 97), (109, 103), (122, 91)] 109 (tx_g M p) = 97 by rw [Op.lookupswitch.offset_cons, if_neg (by omega), Op.lookupswitch.offset_cons, if_neg (by omega), Op.lookupswitch.offset_cons, if_pos (by omega)]) (by decide) ?_
    refine tr_aload_n (pc := 116) dX9_doClause_116 rfl (by decide) ?_
    refine tr_iload_n (pc := 117) dX9_doClause_117 rfl ?_
    refine tr_cVi1 (pc := 118) dX9_doClause_118 mtX9_close lv9_180 rfl sg0 kc9 ⟨(Nat.le_of_ble_eq_true rfl), (Nat.le_of_ble_eq_true rfl)⟩ nlX9_close (Nat.le_of_ble_eq_true rfl) ⟨(Nat.le_of_ble_eq_true rfl), (Nat.le_of_ble_eq_true rfl)⟩ (sp_X9_close hG hC) (fun r118 M118 h118 => ?_)
    obtain ⟨hv, hC2, f2⟩ := h118
    refine tr_ireti (pc := 121) dX9_doClause_121 rfl ?_
    unfold c_do
    rw [if_neg (by omega), if_neg (by omega), if_pos c19]
    exact ⟨hv, hC2, f2⟩
  · skip
    refine tr_lookup (pc := 19) (x := tx_g M p) (off := 103) (tgt := 122) dX9_doClause_19 (by decide) (show Op.lookupswitch.offset [(43, 49), (45, 75), (99, 97), (109, 103), (122, 91)] 109 (tx_g M p) = 103 by rw [Op.lookupswitch.offset_cons, if_neg (by omega), Op.lookupswitch.offset_cons, if_neg (by omega), Op.lookupswitch.offset_cons, if_neg (by omega), Op.lookupswitch.offset_cons, if_pos (by omega)]) (by decide) ?_
    refine tr_aload_n (pc := 122) dX9_doClause_122 rfl (by decide) ?_
    refine tr_iload_n (pc := 123) dX9_doClause_123 rfl ?_
    refine tr_cVi1 (pc := 124) dX9_doClause_124 mtX9_merge lv9_183 rfl sg0 kc9 ⟨(Nat.le_of_ble_eq_true rfl), (Nat.le_of_ble_eq_true rfl)⟩ nlX9_merge (Nat.le_of_ble_eq_true rfl) ⟨(Nat.le_of_ble_eq_true rfl), (Nat.le_of_ble_eq_true rfl)⟩ (sp_X9_merge hC) (fun r124 M124 h124 => ?_)
    obtain ⟨hv, hC2, f2⟩ := h124
    refine tr_ireti (pc := 127) dX9_doClause_127 rfl ?_
    unfold c_do
    rw [if_neg (by omega), if_neg (by omega), if_neg (by omega), if_pos c19]
    exact ⟨hv, hC2, f2⟩
  · skip
    refine tr_lookup (pc := 19) (x := tx_g M p) (off := 91) (tgt := 110) dX9_doClause_19 (by decide) (show Op.lookupswitch.offset [(43, 49), (45, 75), (99, 97), (109, 103), (122, 91)] 109 (tx_g M p) = 91 by rw [Op.lookupswitch.offset_cons, if_neg (by omega), Op.lookupswitch.offset_cons, if_neg (by omega), Op.lookupswitch.offset_cons, if_neg (by omega), Op.lookupswitch.offset_cons, if_neg (by omega), Op.lookupswitch.offset_cons, if_pos (by omega)]) (by decide) ?_
    refine tr_aload_n (pc := 110) dX9_doClause_110 rfl (by decide) ?_
    refine tr_iload_n (pc := 111) dX9_doClause_111 rfl ?_
    refine tr_cVi1 (pc := 112) dX9_doClause_112 mtX9_clear lv9_177 rfl sg0 kc9 ⟨(Nat.le_of_ble_eq_true rfl), (Nat.le_of_ble_eq_true rfl)⟩ nlX9_clear (Nat.le_of_ble_eq_true rfl) ⟨(Nat.le_of_ble_eq_true rfl), (Nat.le_of_ble_eq_true rfl)⟩ (sp_X9_clear hC) (fun r112 M112 h112 => ?_)
    obtain ⟨hv, hC2, f2⟩ := h112
    refine tr_ireti (pc := 115) dX9_doClause_115 rfl ?_
    unfold c_do
    rw [if_neg (by omega), if_neg (by omega), if_neg (by omega), if_neg (by omega), if_pos c19]
    exact ⟨hv, hC2, f2⟩
  · skip
    refine tr_lookup (pc := 19) (x := tx_g M p) (off := 109) (tgt := 128) dX9_doClause_19 (by decide) (show Op.lookupswitch.offset [(43, 49), (45, 75), (99, 97), (109, 103), (122, 91)] 109 (tx_g M p) = 109 by rw [Op.lookupswitch.offset_cons, if_neg (by omega), Op.lookupswitch.offset_cons, if_neg (by omega), Op.lookupswitch.offset_cons, if_neg (by omega), Op.lookupswitch.offset_cons, if_neg (by omega), Op.lookupswitch.offset_cons, if_neg (by omega)]; rfl) (by decide) ?_
    refine tr_aload_n (pc := 128) dX9_doClause_128 rfl (by decide) ?_
    refine tr_cVi0 (pc := 129) dX9_doClause_129 mtX9_back lv9_186 rfl sg0 kc9 ⟨(Nat.le_of_ble_eq_true rfl), (Nat.le_of_ble_eq_true rfl)⟩ nlX9_back (Nat.le_of_ble_eq_true rfl) ⟨(Nat.le_of_ble_eq_true rfl), (Nat.le_of_ble_eq_true rfl)⟩ (sp_X9_back hC) (fun r129 M129 h129 => ?_)
    obtain ⟨hv, hC2, f2⟩ := h129
    refine tr_ireti (pc := 132) dX9_doClause_132 rfl ?_
    unfold c_do
    rw [if_neg (by omega), if_neg (by omega), if_neg (by omega), if_neg (by omega), if_neg (by omega)]
    exact ⟨hv, hC2, f2⟩
def c_dos (g : Int → Int) (n : Int) : Nat → Int → Int → cC → Int × cC
  | 0, _, dn, C => (dn, C)
  | d + 1, p, dn, C => if p < n then c_dos g n d (p + (tx_len (g p) + 1)) (if (c_do C (g p) (g (p + 1) - 48) (g (p + 2) - 48) (g (p + 3) - 48)).1 < 0 then dn else dn + 1) (c_do C (g p) (g (p + 1) - 48) (g (p + 2) - 48) (g (p + 3) - 48)).2 else (dn, C)
theorem sp_X9_doClauses {G : tk_G} {M : tk_M} {C : cC} (hG : gs_ok G) (hC : Cg M C) (ht : tx_ok M) : Spi G FX9_doClauses [xR 0] SF M (fun v M' => v = (c_dos (tx_g M) (M 72 1) 12 0 0 C).1 ∧ Cg M' (c_dos (tx_g M) (M 72 1) 12 0 0 C).2 ∧ fC M M') := by
  have h0 := ht.1
  have h100 := ht.2.1
  refine Spi.of _ mtX9_doClauses nlX9_doClauses (Nat.le_of_ble_eq_true rfl) ?_
  show Ok G FX9_doClauses 0 [xR 0, xU, xU, xU] [] SF M 0 0 _
  have loop : ∀ (d : Nat) (k p dn : Int) (C : cC) (M1 : tk_M), k + d = 12 → 0 ≤ k → 0 ≤ p → p ≤ 5 * k → 0 ≤ dn → dn ≤ k → Cg M1 C → fC M M1 → Ok G FX9_doClauses 6 [xR 0, xI dn, xI p, xI k] [] SF M1 0 0 (tk_qi SF (fun v M' => v = (c_dos (tx_g M) (M 72 1) d p dn C).1 ∧ Cg M' (c_dos (tx_g M) (M 72 1) d p dn C).2 ∧ fC M M')) := by
    intro d
    induction d with
    | zero =>
      intro k p dn C M1 hd hk0 hp0 hp1 hn0 hn1 hC1 f1
      refine tr_iload_n (pc := 6) dX9_doClauses_6 rfl ?_
      refine tr_bipush (pc := 7) dX9_doClauses_7 ⟨by decide, ⟨by decide, by decide⟩⟩ ?_
      refine tr_icmpge (pc := 9) (tgt := 56) dX9_doClauses_9 (by decide) (fun c9 => ?_) (fun c9 => absurd c9 (by omega))
      refine tr_iload_n (pc := 56) dX9_doClauses_56 rfl ?_
      refine tr_ireti (pc := 57) dX9_doClauses_57 rfl ?_
      exact ⟨rfl, hC1, f1⟩
    | succ d ih =>
      intro k p dn C M1 hd hk0 hp0 hp1 hn0 hn1 hC1 f1
      have e : M1 72 = M 72 := f1 72 (by omega) (by omega) (by omega)
      have e3 : M1 73 = M 73 := f1 73 (by omega) (by omega) (by omega)
      have ht1 := ht.fr e e3
      have eg := tx_g_fr e e3
      have hl := tx_len_r (tx_g M p)
      unfold c_dos
      refine tr_iload_n (pc := 6) dX9_doClauses_6 rfl ?_
      refine tr_bipush (pc := 7) dX9_doClauses_7 ⟨by decide, ⟨by decide, by decide⟩⟩ ?_
      refine tr_icmpge (pc := 9) (tgt := 56) dX9_doClauses_9 (by decide) (fun c9 => absurd c9 (by omega)) (fun c9 => ?_)
      refine tr_iload_n (pc := 12) dX9_doClauses_12 rfl ?_
      refine tr_aload_n (pc := 13) dX9_doClauses_13 rfl (by decide) ?_
      refine tr_getr (pc := 14) (x := 72) dX9_doClauses_14 fi9_35 rfl sg0 rfl ?_
      refine tr_cVi0 (pc := 17) dX9_doClauses_17 mtX7_size lv9_150 rfl sg72 kc7 ⟨(Nat.le_of_ble_eq_true rfl), (Nat.le_of_ble_eq_true rfl)⟩ nlX7_size (Nat.le_of_ble_eq_true rfl) ⟨(Nat.le_of_ble_eq_true rfl), (Nat.le_of_ble_eq_true rfl)⟩ (sp_X7_size) (fun r17 M17 h17 => ?_)
      rw [e] at h17
      obtain ⟨hr17, hM17⟩ := h17
      obtain rfl := hr17.symm
      obtain rfl := hM17.symm
      refine tr_icmpge (pc := 20) (tgt := 56) dX9_doClauses_20 (by decide) (fun c20 => ?_) (fun c20 => ?_)
      · skip
        refine tr_iload_n (pc := 56) dX9_doClauses_56 rfl ?_
        refine tr_ireti (pc := 57) dX9_doClauses_57 rfl ?_
        rw [if_neg (by omega)]
        exact ⟨rfl, hC1, f1⟩
      · skip
        refine tr_aload_n (pc := 23) dX9_doClauses_23 rfl (by decide) ?_
        refine tr_iload_n (pc := 24) dX9_doClauses_24 rfl ?_
        refine tr_cVi1 (pc := 25) dX9_doClauses_25 mtX9_doClause lv9_158 rfl sg0 kc9 ⟨(Nat.le_of_ble_eq_true rfl), (Nat.le_of_ble_eq_true rfl)⟩ nlX9_doClause (Nat.le_of_ble_eq_true rfl) ⟨(Nat.le_of_ble_eq_true rfl), (Nat.le_of_ble_eq_true rfl)⟩ (sp_X9_doClause hG hC1 ht1 (by omega)) (fun r25 M25 h25 => ?_)
        rw [eg] at h25
        obtain ⟨hv, hC2, f2⟩ := h25
        have f3 := f1.trans f2
        have e2 : M25 72 = M 72 := f3 72 (by omega) (by omega) (by omega)
        have e4 : M25 73 = M 73 := f3 73 (by omega) (by omega) (by omega)
        have eg2 := tx_g_fr e2 e4
        refine tr_iflt (pc := 28) (tgt := 34) dX9_doClauses_28 (by decide) (fun c28 => ?_) (fun c28 => ?_)
        · skip
          refine tr_iload_n (pc := 34) dX9_doClauses_34 rfl ?_
          refine tr_aload_n (pc := 35) dX9_doClauses_35 rfl (by decide) ?_
          refine tr_getr (pc := 36) (x := 72) dX9_doClauses_36 fi9_35 rfl sg0 rfl ?_
          refine tr_iload_n (pc := 39) dX9_doClauses_39 rfl ?_
          refine tr_cVi1 (pc := 40) dX9_doClauses_40 mtX7_signAt lv9_161 rfl sg72 kc7 ⟨(Nat.le_of_ble_eq_true rfl), (Nat.le_of_ble_eq_true rfl)⟩ nlX7_signAt (Nat.le_of_ble_eq_true rfl) ⟨(Nat.le_of_ble_eq_true rfl), (Nat.le_of_ble_eq_true rfl)⟩ (sp_X7_signAt (by rw [e2]; exact h100)) (fun r40 M40 h40 => ?_)
          rw [eg2] at h40
          obtain ⟨hr40, hM40⟩ := h40
          obtain rfl := hr40.symm
          obtain rfl := hM40.symm
          refine tr_cSi1 (pc := 43) dX9_doClauses_43 mtX7_clauseLength ls9_164 rfl ⟨(Nat.le_of_ble_eq_true rfl), (Nat.le_of_ble_eq_true rfl)⟩ nlX7_clauseLength (Nat.le_of_ble_eq_true rfl) ⟨(Nat.le_of_ble_eq_true rfl), (Nat.le_of_ble_eq_true rfl)⟩ (sp_X7_clauseLength) (fun r43 M43 h43 => ?_)
          obtain ⟨hr43, hM43⟩ := h43
          obtain rfl := hr43.symm
          obtain rfl := hM43.symm
          refine tr_iconst (pc := 46) dX9_doClauses_46 ⟨by decide, by decide⟩ ?_
          refine tr_iadd (pc := 47) dX9_doClauses_47 ⟨by omega, by omega⟩ ?_
          refine tr_iadd (pc := 48) dX9_doClauses_48 ⟨by omega, by omega⟩ ?_
          refine tr_istore_n (pc := 49) dX9_doClauses_49 rfl (Nat.le_of_ble_eq_true rfl) ?_
          dsimp only [List.set]
          refine tr_iinc (pc := 50) dX9_doClauses_50 rfl rfl ⟨by omega, by omega⟩ ?_
          dsimp only [List.set]
          refine tr_goto (pc := 53) (tgt := 6) dX9_doClauses_53 (by decide) ?_
          rw [if_pos (by omega)]
          first
          | rw [if_pos (by omega)]
            exact ih (k + 1) _ dn _ _ (by omega) (by omega) (by omega) (by omega) (by omega) (by omega) hC2 f3
          | rw [if_neg (by omega)]
            exact ih (k + 1) _ (dn + 1) _ _ (by omega) (by omega) (by omega) (by omega) (by omega) (by omega) hC2 f3
        · skip
          refine tr_iinc (pc := 31) dX9_doClauses_31 rfl rfl ⟨by omega, by omega⟩ ?_
          dsimp only [List.set]
          refine tr_iload_n (pc := 34) dX9_doClauses_34 rfl ?_
          refine tr_aload_n (pc := 35) dX9_doClauses_35 rfl (by decide) ?_
          refine tr_getr (pc := 36) (x := 72) dX9_doClauses_36 fi9_35 rfl sg0 rfl ?_
          refine tr_iload_n (pc := 39) dX9_doClauses_39 rfl ?_
          refine tr_cVi1 (pc := 40) dX9_doClauses_40 mtX7_signAt lv9_161 rfl sg72 kc7 ⟨(Nat.le_of_ble_eq_true rfl), (Nat.le_of_ble_eq_true rfl)⟩ nlX7_signAt (Nat.le_of_ble_eq_true rfl) ⟨(Nat.le_of_ble_eq_true rfl), (Nat.le_of_ble_eq_true rfl)⟩ (sp_X7_signAt (by rw [e2]; exact h100)) (fun r40 M40 h40 => ?_)
          rw [eg2] at h40
          obtain ⟨hr40, hM40⟩ := h40
          obtain rfl := hr40.symm
          obtain rfl := hM40.symm
          refine tr_cSi1 (pc := 43) dX9_doClauses_43 mtX7_clauseLength ls9_164 rfl ⟨(Nat.le_of_ble_eq_true rfl), (Nat.le_of_ble_eq_true rfl)⟩ nlX7_clauseLength (Nat.le_of_ble_eq_true rfl) ⟨(Nat.le_of_ble_eq_true rfl), (Nat.le_of_ble_eq_true rfl)⟩ (sp_X7_clauseLength) (fun r43 M43 h43 => ?_)
          obtain ⟨hr43, hM43⟩ := h43
          obtain rfl := hr43.symm
          obtain rfl := hM43.symm
          refine tr_iconst (pc := 46) dX9_doClauses_46 ⟨by decide, by decide⟩ ?_
          refine tr_iadd (pc := 47) dX9_doClauses_47 ⟨by omega, by omega⟩ ?_
          refine tr_iadd (pc := 48) dX9_doClauses_48 ⟨by omega, by omega⟩ ?_
          refine tr_istore_n (pc := 49) dX9_doClauses_49 rfl (Nat.le_of_ble_eq_true rfl) ?_
          dsimp only [List.set]
          refine tr_iinc (pc := 50) dX9_doClauses_50 rfl rfl ⟨by omega, by omega⟩ ?_
          dsimp only [List.set]
          refine tr_goto (pc := 53) (tgt := 6) dX9_doClauses_53 (by decide) ?_
          rw [if_pos (by omega)]
          first
          | rw [if_pos (by omega)]
            exact ih (k + 1) _ dn _ _ (by omega) (by omega) (by omega) (by omega) (by omega) (by omega) hC2 f3
          | rw [if_neg (by omega)]
            exact ih (k + 1) _ (dn + 1) _ _ (by omega) (by omega) (by omega) (by omega) (by omega) (by omega) hC2 f3
  refine tr_iconst (pc := 0) dX9_doClauses_0 ⟨by decide, by decide⟩ ?_
  refine tr_istore_n (pc := 1) dX9_doClauses_1 rfl (Nat.le_of_ble_eq_true rfl) ?_
  dsimp only [List.set]
  refine tr_iconst (pc := 2) dX9_doClauses_2 ⟨by decide, by decide⟩ ?_
  refine tr_istore_n (pc := 3) dX9_doClauses_3 rfl (Nat.le_of_ble_eq_true rfl) ?_
  dsimp only [List.set]
  refine tr_iconst (pc := 4) dX9_doClauses_4 ⟨by decide, by decide⟩ ?_
  refine tr_istore_n (pc := 5) dX9_doClauses_5 rfl (Nat.le_of_ble_eq_true rfl) ?_
  dsimp only [List.set]
  exact loop 12 0 0 0 C M (by omega) (by omega) (by omega) (by omega) (by omega) (by omega) hC fC.rf
theorem tx_flt_r {g : Int → Int} {n : Int} : ∀ (d : Nat) (st : Int), 0 ≤ st → -1 ≤ tx_flt g n d st ∧ tx_flt g n d st ≤ st + 6 * d := by
  intro d
  induction d with
  | zero => intro st h; unfold tx_flt; omega
  | succ d ih =>
    intro st h
    have h1 := tx_len_r (g st)
    have h2 := tx_dig_ge g st (tx_len (g st) - 1).toNat 1
    unfold tx_flt
    split
    · omega
    · split
      · omega
      · split
        · omega
        · split
          · omega
          · have := ih (st + tx_len (g st) + 1) (by omega); omega
def c_read (g : Int → Int) (n : Int) (C : cC) : Int × cC := if 0 ≤ tx_flt g n 12 0 then (-10 - tx_flt g n 12 0, C) else c_dos g n 12 0 0 C
theorem sp_X9_read {G : tk_G} {M : tk_M} {C : cC} (hG : gs_ok G) (hC : Cg M C) (ht : tx_ok M) : Spi G FX9_read [xR 0] SF M (fun v M' => v = (c_read (tx_g M) (M 72 1) C).1 ∧ Cg M' (c_read (tx_g M) (M 72 1) C).2 ∧ M' 72 1 = 0 ∧ ∀ c : Int, c ≠ 72 → ¬ (2 ≤ c ∧ c ≤ 7) → ¬ (39 ≤ c ∧ c ≤ 71) → ¬ (87 ≤ c ∧ c ≤ 100) → M' c = M c) := by
  have hfr := tx_flt_r (g := tx_g M) (n := M 72 1) 12 0 (by omega)
  refine Spi.of _ mtX9_read nlX9_read (Nat.le_of_ble_eq_true rfl) ?_
  show Ok G FX9_read 0 [xR 0, xU, xU] [] SF M 0 0 _
  have cgm : ∀ {M1 : tk_M} {C : cC}, Cg M1 C → Cg (tk_mu M1 72 1 0) C := fun h => ⟨h.1.fr (tk_mu_c (by omega)) (tk_mu_c (by omega)) (tk_mu_c (by omega)), h.2.1.fr (tk_mu_c (by omega)) (tk_mu_c (by omega)) (tk_mu_c (by omega)), h.2.2.frame (fun c h1 h2 => tk_mu_c (by omega))⟩
  refine tr_aload_n (pc := 0) dX9_read_0 rfl (by decide) ?_
  refine tr_getr (pc := 1) (x := 72) dX9_read_1 fi9_35 rfl sg0 rfl ?_
  refine tr_cVi0 (pc := 4) dX9_read_4 mtX7_faultPlace lv9_151 rfl sg72 kc7 ⟨(Nat.le_of_ble_eq_true rfl), (Nat.le_of_ble_eq_true rfl)⟩ nlX7_faultPlace (Nat.le_of_ble_eq_true rfl) ⟨(Nat.le_of_ble_eq_true rfl), (Nat.le_of_ble_eq_true rfl)⟩ (sp_X7_faultPlace ht.1 ht.2.1) (fun r4 M4 h4 => ?_)
  obtain ⟨hr4, hM4⟩ := h4
  obtain rfl := hr4.symm
  obtain rfl := hM4.symm
  refine tr_istore_n (pc := 7) dX9_read_7 rfl (Nat.le_of_ble_eq_true rfl) ?_
  dsimp only [List.set]
  refine tr_iload_n (pc := 8) dX9_read_8 rfl ?_
  refine tr_iflt (pc := 9) (tgt := 19) dX9_read_9 (by decide) (fun c9 => ?_) (fun c9 => ?_)
  · skip
    refine tr_aload_n (pc := 19) dX9_read_19 rfl (by decide) ?_
    refine tr_cVi0 (pc := 20) dX9_read_20 mtX9_doClauses lv9_154 rfl sg0 kc9 ⟨(Nat.le_of_ble_eq_true rfl), (Nat.le_of_ble_eq_true rfl)⟩ nlX9_doClauses (Nat.le_of_ble_eq_true rfl) ⟨(Nat.le_of_ble_eq_true rfl), (Nat.le_of_ble_eq_true rfl)⟩ (sp_X9_doClauses hG hC ht) (fun r20 M20 h20 => ?_)
    obtain ⟨hv, hC2, f2⟩ := h20
    refine tr_istore_n (pc := 23) dX9_read_23 rfl (Nat.le_of_ble_eq_true rfl) ?_
    dsimp only [List.set]
    refine tr_aload_n (pc := 24) dX9_read_24 rfl (by decide) ?_
    refine tr_getr (pc := 25) (x := 72) dX9_read_25 fi9_35 rfl sg0 rfl ?_
    refine tr_cVv0 (pc := 28) dX9_read_28 mtX7_empty lv9_157 rfl sg72 kc7 ⟨(Nat.le_of_ble_eq_true rfl), (Nat.le_of_ble_eq_true rfl)⟩ nlX7_empty (Nat.le_of_ble_eq_true rfl) ⟨(Nat.le_of_ble_eq_true rfl), (Nat.le_of_ble_eq_true rfl)⟩ (sp_X7_empty) (fun M28 h28 => ?_)
    obtain rfl := h28.symm
    refine tr_iload_n (pc := 31) dX9_read_31 rfl ?_
    refine tr_ireti (pc := 32) dX9_read_32 rfl ?_
    unfold c_read
    first
    | rw [if_pos (by omega)]
      exact ⟨rfl, cgm hC, tk_mu_at _ _ _ _, fun c h1 _ _ _ => tk_mu_c h1⟩
    | rw [if_neg (by omega)]
      exact ⟨hv, cgm hC2, tk_mu_at _ _ _ _, fun c h1 h2 h3 h4 => (tk_mu_c h1).trans (f2 c h2 h3 h4)⟩
  · skip
    refine tr_bipush (pc := 12) dX9_read_12 ⟨by decide, ⟨by decide, by decide⟩⟩ ?_
    refine tr_iload_n (pc := 14) dX9_read_14 rfl ?_
    refine tr_isub (pc := 15) dX9_read_15 ⟨by omega, by omega⟩ ?_
    refine tr_goto (pc := 16) (tgt := 23) dX9_read_16 (by decide) ?_
    refine tr_istore_n (pc := 23) dX9_read_23 rfl (Nat.le_of_ble_eq_true rfl) ?_
    dsimp only [List.set]
    refine tr_aload_n (pc := 24) dX9_read_24 rfl (by decide) ?_
    refine tr_getr (pc := 25) (x := 72) dX9_read_25 fi9_35 rfl sg0 rfl ?_
    refine tr_cVv0 (pc := 28) dX9_read_28 mtX7_empty lv9_157 rfl sg72 kc7 ⟨(Nat.le_of_ble_eq_true rfl), (Nat.le_of_ble_eq_true rfl)⟩ nlX7_empty (Nat.le_of_ble_eq_true rfl) ⟨(Nat.le_of_ble_eq_true rfl), (Nat.le_of_ble_eq_true rfl)⟩ (sp_X7_empty) (fun M28 h28 => ?_)
    obtain rfl := h28.symm
    refine tr_iload_n (pc := 31) dX9_read_31 rfl ?_
    refine tr_ireti (pc := 32) dX9_read_32 rfl ?_
    unfold c_read
    first
    | rw [if_pos (by omega)]
      exact ⟨rfl, cgm hC, tk_mu_at _ _ _ _, fun c h1 _ _ _ => tk_mu_c h1⟩
    | rw [if_neg (by omega)]
      exact ⟨hv, cgm hC2, tk_mu_at _ _ _ _, fun c h1 h2 h3 h4 => (tk_mu_c h1).trans (f2 c h2 h3 h4)⟩
theorem sp_X9_feed {G : tk_G} {M : tk_M} {x : Int} (ht : tx_ok M) : Spi G FX9_feed [xR 0, xI x] SF M (fun v M' => (¬ (0 ≤ x ∧ x ≤ 127) ∧ v = -2 ∧ M' = M) ∨ ((0 ≤ x ∧ x ≤ 127) ∧ M 72 1 = 100 ∧ v = -4 ∧ M' = M) ∨ ((0 ≤ x ∧ x ≤ 127) ∧ M 72 1 < 100 ∧ v = M 72 1 + 1 ∧ M' = tk_mu (tk_mu M 73 (M 72 1) x) 72 1 (M 72 1 + 1))) := by
  obtain ⟨t0, t1, -⟩ := ht
  refine Spi.of _ mtX9_feed nlX9_feed (Nat.le_of_ble_eq_true rfl) ?_
  show Ok G FX9_feed 0 [xR 0, xI x] [] SF M 0 0 _
  by_cases hf : 100 ≤ M 72 1
  · skip
    refine tr_iload_n (pc := 0) dX9_feed_0 rfl ?_
    refine tr_iflt (pc := 1) (tgt := 10) dX9_feed_1 (by decide) (fun c1 => ?_) (fun c1 => ?_)
    · skip
      refine tr_bipush (pc := 10) dX9_feed_10 ⟨by decide, ⟨by decide, by decide⟩⟩ ?_
      refine tr_ireti (pc := 12) dX9_feed_12 rfl ?_
      exact Or.inl ⟨by omega, rfl, rfl⟩
    · skip
      refine tr_iload_n (pc := 4) dX9_feed_4 rfl ?_
      refine tr_bipush (pc := 5) dX9_feed_5 ⟨by decide, ⟨by decide, by decide⟩⟩ ?_
      refine tr_icmple (pc := 7) (tgt := 13) dX9_feed_7 (by decide) (fun c7 => ?_) (fun c7 => ?_)
      · skip
        refine tr_aload_n (pc := 13) dX9_feed_13 rfl (by decide) ?_
        refine tr_getr (pc := 14) (x := 72) dX9_feed_14 fi9_35 rfl sg0 rfl ?_
        refine tr_cVi0 (pc := 17) dX9_feed_17 mtX7_isFull lv9_144 rfl sg72 kc7 ⟨(Nat.le_of_ble_eq_true rfl), (Nat.le_of_ble_eq_true rfl)⟩ nlX7_isFull (Nat.le_of_ble_eq_true rfl) ⟨(Nat.le_of_ble_eq_true rfl), (Nat.le_of_ble_eq_true rfl)⟩ (sp_X7_isFull) (fun r17 M17 h17 => ?_)
        rw [if_pos hf] at h17
        obtain ⟨hr17, hM17⟩ := h17
        obtain rfl := hr17.symm
        obtain rfl := hM17.symm
        refine tr_ifeq (pc := 20) (tgt := 26) dX9_feed_20 (by decide) (fun c20 => absurd c20 (by omega)) (fun c20 => ?_)
        refine tr_bipush (pc := 23) dX9_feed_23 ⟨by decide, ⟨by decide, by decide⟩⟩ ?_
        refine tr_ireti (pc := 25) dX9_feed_25 rfl ?_
        exact Or.inr (Or.inl ⟨by omega, by omega, rfl, rfl⟩)
      · skip
        refine tr_bipush (pc := 10) dX9_feed_10 ⟨by decide, ⟨by decide, by decide⟩⟩ ?_
        refine tr_ireti (pc := 12) dX9_feed_12 rfl ?_
        exact Or.inl ⟨by omega, rfl, rfl⟩
  · skip
    refine tr_iload_n (pc := 0) dX9_feed_0 rfl ?_
    refine tr_iflt (pc := 1) (tgt := 10) dX9_feed_1 (by decide) (fun c1 => ?_) (fun c1 => ?_)
    · skip
      refine tr_bipush (pc := 10) dX9_feed_10 ⟨by decide, ⟨by decide, by decide⟩⟩ ?_
      refine tr_ireti (pc := 12) dX9_feed_12 rfl ?_
      exact Or.inl ⟨by omega, rfl, rfl⟩
    · skip
      refine tr_iload_n (pc := 4) dX9_feed_4 rfl ?_
      refine tr_bipush (pc := 5) dX9_feed_5 ⟨by decide, ⟨by decide, by decide⟩⟩ ?_
      refine tr_icmple (pc := 7) (tgt := 13) dX9_feed_7 (by decide) (fun c7 => ?_) (fun c7 => ?_)
      · skip
        refine tr_aload_n (pc := 13) dX9_feed_13 rfl (by decide) ?_
        refine tr_getr (pc := 14) (x := 72) dX9_feed_14 fi9_35 rfl sg0 rfl ?_
        refine tr_cVi0 (pc := 17) dX9_feed_17 mtX7_isFull lv9_144 rfl sg72 kc7 ⟨(Nat.le_of_ble_eq_true rfl), (Nat.le_of_ble_eq_true rfl)⟩ nlX7_isFull (Nat.le_of_ble_eq_true rfl) ⟨(Nat.le_of_ble_eq_true rfl), (Nat.le_of_ble_eq_true rfl)⟩ (sp_X7_isFull) (fun r17 M17 h17 => ?_)
        rw [if_neg hf] at h17
        obtain ⟨hr17, hM17⟩ := h17
        obtain rfl := hr17.symm
        obtain rfl := hM17.symm
        refine tr_ifeq (pc := 20) (tgt := 26) dX9_feed_20 (by decide) (fun c20 => ?_) (fun c20 => absurd c20 (by omega))
        refine tr_aload_n (pc := 26) dX9_feed_26 rfl (by decide) ?_
        refine tr_getr (pc := 27) (x := 72) dX9_feed_27 fi9_35 rfl sg0 rfl ?_
        refine tr_iload_n (pc := 30) dX9_feed_30 rfl ?_
        refine tr_cVv1 (pc := 31) dX9_feed_31 mtX7_add lv9_148 rfl sg72 kc7 ⟨(Nat.le_of_ble_eq_true rfl), (Nat.le_of_ble_eq_true rfl)⟩ nlX7_add (Nat.le_of_ble_eq_true rfl) ⟨(Nat.le_of_ble_eq_true rfl), (Nat.le_of_ble_eq_true rfl)⟩ (sp_X7_add t0 (by omega) (by omega) (by omega)) (fun M31 h31 => ?_)
        obtain rfl := h31.symm
        refine tr_aload_n (pc := 34) dX9_feed_34 rfl (by decide) ?_
        refine tr_getr (pc := 35) (x := 72) dX9_feed_35 fi9_35 rfl sg0 rfl ?_
        refine tr_cVi0 (pc := 38) dX9_feed_38 mtX7_size lv9_150 rfl sg72 kc7 ⟨(Nat.le_of_ble_eq_true rfl), (Nat.le_of_ble_eq_true rfl)⟩ nlX7_size (Nat.le_of_ble_eq_true rfl) ⟨(Nat.le_of_ble_eq_true rfl), (Nat.le_of_ble_eq_true rfl)⟩ (sp_X7_size) (fun r38 M38 h38 => ?_)
        obtain ⟨hr38, hM38⟩ := h38
        obtain rfl := hr38.symm
        obtain rfl := hM38.symm
        refine tr_ireti (pc := 41) dX9_feed_41 rfl ?_
        exact Or.inr (Or.inr ⟨by omega, by omega, tk_mu_at _ _ _ _, rfl⟩)
      · skip
        refine tr_bipush (pc := 10) dX9_feed_10 ⟨by decide, ⟨by decide, by decide⟩⟩ ?_
        refine tr_ireti (pc := 12) dX9_feed_12 rfl ?_
        exact Or.inl ⟨by omega, rfl, rfl⟩
