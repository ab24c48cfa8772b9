/-- what the reference's calls that change GENERATORS leave alone -/
def fR (M M' : tk_M) : Prop := (∀ c : Int, (c < 101 ∨ c = 109 ∨ c = 110 ∨ 114 ≤ c) → M' c = M c) ∧ ∀ j : Int, j ≠ 3 → j ≠ 12 → M' 101 j = M 101 j
theorem fR.rf {M : tk_M} : fR M M := ⟨fun _ _ => rfl, fun _ _ _ => rfl⟩
theorem fR.trans {M M1 M2 : tk_M} (h1 : fR M M1) (h2 : fR M1 M2) : fR M M2 := ⟨fun c a => (h2.1 c a).trans (h1.1 c a), fun j a b => (h2.2 j a b).trans (h1.2 j a b)⟩
theorem fR.dd {M M1 : tk_M} (h : rdf M M1) : fR M M1 := ⟨fun c a => h.1 c (by omega) (by omega), fun j a _ => h.2 j a⟩
theorem fR.id {M M1 : tk_M} {i : Int} (h : rfr M M1 i) : fR M M1 := ⟨fun c a => h.1 c (by omega) (by omega) (by omega), fun j _ _ => by rw [h.1 101 (by omega) (by omega) (by omega)]⟩
def Rg (M : tk_M) (C : cC) : Prop := rg_at M 0 C.1 ∧ rg_at M 1 C.2.1 ∧ rd_at M C.2.2
theorem Rg.sel {M : tk_M} {C : cC} {i : Int} (h : Rg M C) (hi : 0 ≤ i ∧ i ≤ 1) : rg_at M i (csel i C) := by
  unfold csel
  by_cases h0 : i = 0
  · rw [if_pos h0, h0]; exact h.1
  · rw [if_neg h0, show i = 1 by omega]; exact h.2.1
theorem rg_at.same {M M1 : tk_M} {i : Int} {g : List (Int × Int)} (h : rg_at M i g) (h2 : M1 102 = M 102) (h3 : M1 103 = M 103) (h4 : M1 104 = M 104) : rg_at M1 i g := h.congr (by rw [h2]) (fun k _ _ => by rw [h3, h4]; exact ⟨rfl, rfl⟩)
theorem rg_at.dd {M M1 : tk_M} {i : Int} {g : List (Int × Int)} (h : rg_at M i g) (hf : rdf M M1) : rg_at M1 i g := h.same (hf.1 _ (by omega) (by omega)) (hf.1 _ (by omega) (by omega)) (hf.1 _ (by omega) (by omega))
theorem Rg.keep {M M1 : tk_M} {C : cC} {i : Int} (h : Rg M C) (hd : rd_at M1 (((i, csel i C) :: C.2.2).take 10)) (hf : rdf M M1) : Rg M1 (cdeed i C) := ⟨h.1.dd hf, h.2.1.dd hf, hd⟩
theorem Rg.set {M M1 : tk_M} {C : cC} {i : Int} {g : List (Int × Int)} (h : Rg M C) (hr : 0 ≤ i ∧ i ≤ 1) (hi : rg_at M1 i g) (hf : rfr M M1 i) : Rg M1 (cset i g C) := by
  have h9 : rd_at M1 C.2.2 := h.2.2.frame (by rw [hf.1 101 (by omega) (by omega) (by omega)]) (fun c _ _ => hf.1 c (by omega) (by omega) (by omega))
  unfold cset
  by_cases h0 : i = 0
  · rw [if_pos h0]; subst h0
    exact ⟨hi, h.2.1.frame hf (by omega), h9⟩
  · rw [if_neg h0]; have h0 : i = 1 := by omega
    subst h0
    exact ⟨h.1.frame hf (by omega), hi, h9⟩
theorem sp_X10_generate {G : tk_G} {M : tk_M} {C : cC} {i a b : Int} (hC : Rg M C) : Spi G FX10_generate [xR 101, xI i, xI a, xI b] SF M (fun v M' => v = (c_gen C i a b).1 ∧ Rg M' (c_gen C i a b).2 ∧ fR M M') := by
  refine Spi.of _ mtX10_generate nlX10_generate (Nat.le_of_ble_eq_true rfl) ?_
  show Ok G FX10_generate 0 [xR 101, xI i, xI a, xI b] [] SF M 0 0 _
  unfold c_gen
  by_cases hi : 0 ≤ i ∧ i ≤ 1
  · rw [if_neg (fun h => h hi)]
    have hsel := hC.sel hi
    have hln := hsel.len
    have hge := ig_find_ge (a := a) (b := b) (csel i C) 0
    refine tr_iload_n (pc := 0) dX10_generate_0 rfl ?_
    refine tr_cSi1 (pc := 1) dX10_generate_1 mtX10_isIdeal ls10_136 rfl ⟨(Nat.le_of_ble_eq_true rfl), (Nat.le_of_ble_eq_true rfl)⟩ nlX10_isIdeal (Nat.le_of_ble_eq_true rfl) ⟨(Nat.le_of_ble_eq_true rfl), (Nat.le_of_ble_eq_true rfl)⟩ (sp_X10_isIdeal) (fun r1 M1 h1 => ?_)
    obtain ⟨hr1, hM1⟩ := h1
    obtain rfl := hr1.symm
    obtain rfl := hM1.symm
    refine tr_ifne (pc := 4) (tgt := 9) dX10_generate_4 (by decide) (fun c4 => ?_) (fun c4 => absurd c4 (by omega))
    refine tr_iload_n (pc := 9) dX10_generate_9 rfl ?_
    refine tr_cSi1 (pc := 10) dX10_generate_10 mtX10_isPower ls10_140 rfl ⟨(Nat.le_of_ble_eq_true rfl), (Nat.le_of_ble_eq_true rfl)⟩ nlX10_isPower (Nat.le_of_ble_eq_true rfl) ⟨(Nat.le_of_ble_eq_true rfl), (Nat.le_of_ble_eq_true rfl)⟩ (sp_X10_isPower) (fun r10 M10 h10 => ?_)
    obtain ⟨hr10, hM10⟩ := h10
    obtain rfl := hr10.symm
    obtain rfl := hM10.symm
    refine tr_ifeq (pc := 13) (tgt := 23) dX10_generate_13 (by decide) (fun c13 => ?_) (fun c13 => ?_)
    · skip
      refine tr_bipush (pc := 23) dX10_generate_23 ⟨by decide, ⟨by decide, by decide⟩⟩ ?_
      refine tr_ireti (pc := 25) dX10_generate_25 rfl ?_
      rw [if_pos (by omega)]
      exact ⟨rfl, hC, fR.rf⟩
    · skip
      refine tr_iload_n (pc := 16) dX10_generate_16 rfl ?_
      refine tr_cSi1 (pc := 17) dX10_generate_17 mtX10_isPower ls10_140 rfl ⟨(Nat.le_of_ble_eq_true rfl), (Nat.le_of_ble_eq_true rfl)⟩ nlX10_isPower (Nat.le_of_ble_eq_true rfl) ⟨(Nat.le_of_ble_eq_true rfl), (Nat.le_of_ble_eq_true rfl)⟩ (sp_X10_isPower) (fun r17 M17 h17 => ?_)
      obtain ⟨hr17, hM17⟩ := h17
      obtain rfl := hr17.symm
      obtain rfl := hM17.symm
      refine tr_ifne (pc := 20) (tgt := 26) dX10_generate_20 (by decide) (fun c20 => ?_) (fun c20 => ?_)
      · skip
        refine tr_aload_n (pc := 26) dX10_generate_26 rfl (by decide) ?_
        refine tr_iload_n (pc := 27) dX10_generate_27 rfl ?_
        refine tr_iload_n (pc := 28) dX10_generate_28 rfl ?_
        refine tr_iload_n (pc := 29) dX10_generate_29 rfl ?_
        refine tr_cVi3 (pc := 30) dX10_generate_30 mtX10_which lv10_143 rfl sg101 kc10 ⟨(Nat.le_of_ble_eq_true rfl), (Nat.le_of_ble_eq_true rfl)⟩ nlX10_which (Nat.le_of_ble_eq_true rfl) ⟨(Nat.le_of_ble_eq_true rfl), (Nat.le_of_ble_eq_true rfl)⟩ (sp_X10_which (by omega) hsel) (fun r30 M30 h30 => ?_)
        obtain ⟨hr30, hM30⟩ := h30
        obtain rfl := hr30.symm
        obtain rfl := hM30.symm
        refine tr_iconst (pc := 33) dX10_generate_33 ⟨by decide, by decide⟩ ?_
        refine tr_icmpeq (pc := 34) (tgt := 40) dX10_generate_34 (by decide) (fun c34 => ?_) (fun c34 => ?_)
        · skip
          refine tr_aload_n (pc := 40) dX10_generate_40 rfl (by decide) ?_
          refine tr_getr (pc := 41) (x := 102) dX10_generate_41 fi10_11 rfl sg101 rfl ?_
          refine tr_iload_n (pc := 44) dX10_generate_44 rfl ?_
          refine tr_iald (pc := 45) dX10_generate_45 sg102 (by omega) (by omega) ?_
          refine tr_bipush (pc := 46) dX10_generate_46 ⟨by decide, ⟨by decide, by decide⟩⟩ ?_
          refine tr_icmpne (pc := 48) (tgt := 54) dX10_generate_48 (by decide) (fun c48 => ?_) (fun c48 => ?_)
          · skip
            refine tr_aload_n (pc := 54) dX10_generate_54 rfl (by decide) ?_
            refine tr_iload_n (pc := 55) dX10_generate_55 rfl ?_
            refine tr_cVv1 (pc := 56) dX10_generate_56 mtX10_deed lv10_147 rfl sg101 kc10 ⟨(Nat.le_of_ble_eq_true rfl), (Nat.le_of_ble_eq_true rfl)⟩ nlX10_deed (Nat.le_of_ble_eq_true rfl) ⟨(Nat.le_of_ble_eq_true rfl), (Nat.le_of_ble_eq_true rfl)⟩ (sp_X10_deed (by omega) hsel hC.2.2) (fun M56 h56 => ?_)
            obtain ⟨hD, f1⟩ := h56
            have hC1 := hC.keep hD f1
            have hsel1 := hsel.dd f1
            refine tr_aload_n (pc := 59) dX10_generate_59 rfl (by decide) ?_
            refine tr_iload_n (pc := 60) dX10_generate_60 rfl ?_
            refine tr_iload_n (pc := 61) dX10_generate_61 rfl ?_
            refine tr_iload_n (pc := 62) dX10_generate_62 rfl ?_
            refine tr_cVv3 (pc := 63) dX10_generate_63 mtX10_comes lv10_151 rfl sg101 kc10 ⟨(Nat.le_of_ble_eq_true rfl), (Nat.le_of_ble_eq_true rfl)⟩ nlX10_comes (Nat.le_of_ble_eq_true rfl) ⟨(Nat.le_of_ble_eq_true rfl), (Nat.le_of_ble_eq_true rfl)⟩ (sp_X10_comes (by omega) hsel1 (by omega) (by omega) (by omega) (by omega) (by omega)) (fun M63 h63 => ?_)
            obtain ⟨h9, f9⟩ := h63
            have hl9 := h9.len
            rw [List.length_append] at hl9
            simp only [List.length_cons, List.length_nil] at hl9
            refine tr_aload_n (pc := 66) dX10_generate_66 rfl (by decide) ?_
            refine tr_getr (pc := 67) (x := 102) dX10_generate_67 fi10_11 rfl sg101 rfl ?_
            refine tr_iload_n (pc := 70) dX10_generate_70 rfl ?_
            refine tr_iald (pc := 71) dX10_generate_71 sg102 (by omega) (by omega) ?_
            refine tr_ireti (pc := 72) dX10_generate_72 rfl ?_
            rw [if_neg (by omega), if_neg (by omega), if_neg (by omega)]
            exact ⟨by omega, hC1.set hi h9 f9, (fR.dd f1).trans (fR.id f9)⟩
          · skip
            refine tr_bipush (pc := 51) dX10_generate_51 ⟨by decide, ⟨by decide, by decide⟩⟩ ?_
            refine tr_ireti (pc := 53) dX10_generate_53 rfl ?_
            rw [if_neg (by omega), if_neg (by omega), if_pos (by omega)]
            exact ⟨rfl, hC, fR.rf⟩
        · skip
          refine tr_bipush (pc := 37) dX10_generate_37 ⟨by decide, ⟨by decide, by decide⟩⟩ ?_
          refine tr_ireti (pc := 39) dX10_generate_39 rfl ?_
          rw [if_neg (by omega), if_pos (by omega)]
          exact ⟨rfl, hC, fR.rf⟩
      · skip
        refine tr_bipush (pc := 23) dX10_generate_23 ⟨by decide, ⟨by decide, by decide⟩⟩ ?_
        refine tr_ireti (pc := 25) dX10_generate_25 rfl ?_
        rw [if_pos (by omega)]
        exact ⟨rfl, hC, fR.rf⟩
  · rw [if_pos hi]
    refine tr_iload_n (pc := 0) dX10_generate_0 rfl ?_
    refine tr_cSi1 (pc := 1) dX10_generate_1 mtX10_isIdeal ls10_136 rfl ⟨(Nat.le_of_ble_eq_true rfl), (Nat.le_of_ble_eq_true rfl)⟩ nlX10_isIdeal (Nat.le_of_ble_eq_true rfl) ⟨(Nat.le_of_ble_eq_true rfl), (Nat.le_of_ble_eq_true rfl)⟩ (sp_X10_isIdeal) (fun r1 M1 h1 => ?_)
    obtain ⟨hr1, hM1⟩ := h1
    obtain rfl := hr1.symm
    obtain rfl := hM1.symm
    refine tr_ifne (pc := 4) (tgt := 9) dX10_generate_4 (by decide) (fun c4 => absurd c4 (by omega)) (fun c4 => ?_)
    refine tr_iconst (pc := 7) dX10_generate_7 ⟨by decide, by decide⟩ ?_
    refine tr_ireti (pc := 8) dX10_generate_8 rfl ?_
    exact ⟨rfl, hC, fR.rf⟩
theorem sp_X10_isGenerator {G : tk_G} {M : tk_M} {C : cC} {i k : Int} (hC : Rg M C) : Spi G FX10_isGenerator [xR 101, xI i, xI k] SF M (fun v M' => v = (if (0 ≤ i ∧ i ≤ 1) ∧ (0 ≤ k ∧ k < (csel i C).length) then 1 else 0) ∧ M' = M) := by
  refine Spi.of _ mtX10_isGenerator nlX10_isGenerator (Nat.le_of_ble_eq_true rfl) ?_
  show Ok G FX10_isGenerator 0 [xR 101, xI i, xI k] [] SF M 0 0 _
  by_cases hi : 0 ≤ i ∧ i ≤ 1
  · skip
    have hsel := hC.sel hi
    have hln := hsel.len
    refine tr_iload_n (pc := 0) dX10_isGenerator_0 rfl ?_
    refine tr_cSi1 (pc := 1) dX10_isGenerator_1 mtX10_isIdeal ls10_136 rfl ⟨(Nat.le_of_ble_eq_true rfl), (Nat.le_of_ble_eq_true rfl)⟩ nlX10_isIdeal (Nat.le_of_ble_eq_true rfl) ⟨(Nat.le_of_ble_eq_true rfl), (Nat.le_of_ble_eq_true rfl)⟩ (sp_X10_isIdeal) (fun r1 M1 h1 => ?_)
    obtain ⟨hr1, hM1⟩ := h1
    obtain rfl := hr1.symm
    obtain rfl := hM1.symm
    refine tr_ifeq (pc := 4) (tgt := 29) dX10_isGenerator_4 (by decide) (fun c4 => absurd c4 (by omega)) (fun c4 => ?_)
    refine tr_iload_n (pc := 7) dX10_isGenerator_7 rfl ?_
    refine tr_i2l (pc := 8) dX10_isGenerator_8 ?_
    refine tr_lconst (pc := 9) (x := 0) dX10_isGenerator_9 (by decide) ⟨by decide, by decide⟩ ?_
    refine tr_aload_n (pc := 10) dX10_isGenerator_10 rfl (by decide) ?_
    refine tr_getr (pc := 11) (x := 102) dX10_isGenerator_11 fi10_11 rfl sg101 rfl ?_
    refine tr_iload_n (pc := 14) dX10_isGenerator_14 rfl ?_
    refine tr_iald (pc := 15) dX10_isGenerator_15 sg102 (by omega) (by omega) ?_
    refine tr_iconst (pc := 16) dX10_isGenerator_16 ⟨by decide, by decide⟩ ?_
    refine tr_isub (pc := 17) dX10_isGenerator_17 ⟨by omega, by omega⟩ ?_
    refine tr_i2l (pc := 18) dX10_isGenerator_18 ?_
    refine tr_cSi3 (pc := 19) dX10_isGenerator_19 mtX10_isFrom ls10_115 rfl ⟨(Nat.le_of_ble_eq_true rfl), (Nat.le_of_ble_eq_true rfl)⟩ nlX10_isFrom (Nat.le_of_ble_eq_true rfl) ⟨(Nat.le_of_ble_eq_true rfl), (Nat.le_of_ble_eq_true rfl)⟩ (sp_X10_isFrom) (fun r19 M19 h19 => ?_)
    obtain ⟨hr19, hM19⟩ := h19
    obtain rfl := hr19.symm
    obtain rfl := hM19.symm
    refine tr_ifeq (pc := 22) (tgt := 29) dX10_isGenerator_22 (by decide) (fun c22 => ?_) (fun c22 => ?_)
    · skip
      refine tr_iconst (pc := 29) dX10_isGenerator_29 ⟨by decide, by decide⟩ ?_
      refine tr_iretz (pc := 30) dX10_isGenerator_30 rfl (by omega) ?_
      exact ⟨by omega, rfl⟩
    · skip
      refine tr_iconst (pc := 25) dX10_isGenerator_25 ⟨by decide, by decide⟩ ?_
      refine tr_goto (pc := 26) (tgt := 30) dX10_isGenerator_26 (by decide) ?_
      refine tr_iretz (pc := 30) dX10_isGenerator_30 rfl (by omega) ?_
      exact ⟨by omega, rfl⟩
  · skip
    refine tr_iload_n (pc := 0) dX10_isGenerator_0 rfl ?_
    refine tr_cSi1 (pc := 1) dX10_isGenerator_1 mtX10_isIdeal ls10_136 rfl ⟨(Nat.le_of_ble_eq_true rfl), (Nat.le_of_ble_eq_true rfl)⟩ nlX10_isIdeal (Nat.le_of_ble_eq_true rfl) ⟨(Nat.le_of_ble_eq_true rfl), (Nat.le_of_ble_eq_true rfl)⟩ (sp_X10_isIdeal) (fun r1 M1 h1 => ?_)
    obtain ⟨hr1, hM1⟩ := h1
    obtain rfl := hr1.symm
    obtain rfl := hM1.symm
    refine tr_ifeq (pc := 4) (tgt := 29) dX10_isGenerator_4 (by decide) (fun c4 => ?_) (fun c4 => absurd c4 (by omega))
    refine tr_iconst (pc := 29) dX10_isGenerator_29 ⟨by decide, by decide⟩ ?_
    refine tr_iretz (pc := 30) dX10_isGenerator_30 rfl (by omega) ?_
    exact ⟨by omega, rfl⟩
theorem sp_X10_drop {G : tk_G} {M : tk_M} {C : cC} {i k : Int} (hC : Rg M C) : Spi G FX10_drop [xR 101, xI i, xI k] SF M (fun v M' => v = (c_drop C i k).1 ∧ Rg M' (c_drop C i k).2 ∧ fR M M') := by
  refine Spi.of _ mtX10_drop nlX10_drop (Nat.le_of_ble_eq_true rfl) ?_
  show Ok G FX10_drop 0 [xR 101, xI i, xI k] [] SF M 0 0 _
  unfold c_drop
  by_cases hi : (0 ≤ i ∧ i ≤ 1) ∧ (0 ≤ k ∧ k < (csel i C).length)
  · rw [if_pos hi]
    have hsel := hC.sel hi.1
    have hln := hsel.len
    refine tr_aload_n (pc := 0) dX10_drop_0 rfl (by decide) ?_
    refine tr_iload_n (pc := 1) dX10_drop_1 rfl ?_
    refine tr_iload_n (pc := 2) dX10_drop_2 rfl ?_
    refine tr_cVi2 (pc := 3) dX10_drop_3 mtX10_isGenerator lv10_155 rfl sg101 kc10 ⟨(Nat.le_of_ble_eq_true rfl), (Nat.le_of_ble_eq_true rfl)⟩ nlX10_isGenerator (Nat.le_of_ble_eq_true rfl) ⟨(Nat.le_of_ble_eq_true rfl), (Nat.le_of_ble_eq_true rfl)⟩ (sp_X10_isGenerator hC) (fun r3 M3 h3 => ?_)
    obtain ⟨hr3, hM3⟩ := h3
    obtain rfl := hr3.symm
    obtain rfl := hM3.symm
    refine tr_ifne (pc := 6) (tgt := 11) dX10_drop_6 (by decide) (fun c6 => ?_) (fun c6 => absurd c6 (by omega))
    refine tr_aload_n (pc := 11) dX10_drop_11 rfl (by decide) ?_
    refine tr_iload_n (pc := 12) dX10_drop_12 rfl ?_
    refine tr_cVv1 (pc := 13) dX10_drop_13 mtX10_deed lv10_147 rfl sg101 kc10 ⟨(Nat.le_of_ble_eq_true rfl), (Nat.le_of_ble_eq_true rfl)⟩ nlX10_deed (Nat.le_of_ble_eq_true rfl) ⟨(Nat.le_of_ble_eq_true rfl), (Nat.le_of_ble_eq_true rfl)⟩ (sp_X10_deed (by omega) hsel hC.2.2) (fun M13 h13 => ?_)
    obtain ⟨hD, f1⟩ := h13
    have hC1 := hC.keep hD f1
    have hsel1 := hsel.dd f1
    refine tr_aload_n (pc := 16) dX10_drop_16 rfl (by decide) ?_
    refine tr_iload_n (pc := 17) dX10_drop_17 rfl ?_
    refine tr_iload_n (pc := 18) dX10_drop_18 rfl ?_
    refine tr_cVv2 (pc := 19) dX10_drop_19 mtX10_goes lv10_159 rfl sg101 kc10 ⟨(Nat.le_of_ble_eq_true rfl), (Nat.le_of_ble_eq_true rfl)⟩ nlX10_goes (Nat.le_of_ble_eq_true rfl) ⟨(Nat.le_of_ble_eq_true rfl), (Nat.le_of_ble_eq_true rfl)⟩ (sp_X10_goes (by omega) hsel1 hi.2) (fun M19 h19 => ?_)
    obtain ⟨h9, f9⟩ := h19
    have hl9 := h9.len
    rw [List.length_eraseIdx, if_pos (by omega)] at hl9
    refine tr_aload_n (pc := 22) dX10_drop_22 rfl (by decide) ?_
    refine tr_getr (pc := 23) (x := 102) dX10_drop_23 fi10_11 rfl sg101 rfl ?_
    refine tr_iload_n (pc := 26) dX10_drop_26 rfl ?_
    refine tr_iald (pc := 27) dX10_drop_27 sg102 (by omega) (by omega) ?_
    refine tr_ireti (pc := 28) dX10_drop_28 rfl ?_
    exact ⟨by omega, hC1.set hi.1 h9 f9, (fR.dd f1).trans (fR.id f9)⟩
  · rw [if_neg hi]
    refine tr_aload_n (pc := 0) dX10_drop_0 rfl (by decide) ?_
    refine tr_iload_n (pc := 1) dX10_drop_1 rfl ?_
    refine tr_iload_n (pc := 2) dX10_drop_2 rfl ?_
    refine tr_cVi2 (pc := 3) dX10_drop_3 mtX10_isGenerator lv10_155 rfl sg101 kc10 ⟨(Nat.le_of_ble_eq_true rfl), (Nat.le_of_ble_eq_true rfl)⟩ nlX10_isGenerator (Nat.le_of_ble_eq_true rfl) ⟨(Nat.le_of_ble_eq_true rfl), (Nat.le_of_ble_eq_true rfl)⟩ (sp_X10_isGenerator hC) (fun r3 M3 h3 => ?_)
    obtain ⟨hr3, hM3⟩ := h3
    obtain rfl := hr3.symm
    obtain rfl := hM3.symm
    refine tr_ifne (pc := 6) (tgt := 11) dX10_drop_6 (by decide) (fun c6 => absurd c6 (by omega)) (fun c6 => ?_)
    refine tr_iconst (pc := 9) dX10_drop_9 ⟨by decide, by decide⟩ ?_
    refine tr_ireti (pc := 10) dX10_drop_10 rfl ?_
    exact ⟨rfl, hC, fR.rf⟩
theorem rg_empty {M : tk_M} {i : Int} : rg_at (tk_mu M 102 i 0) i [] ∧ rfr M (tk_mu M 102 i 0) i := by
  refine ⟨⟨?_, ?_⟩, fun c b1 b2 b3 => tk_mu_c b1, fun j hj => tk_mu_i hj, fun p hp => ?_⟩
  · rw [tk_mu_at]; rfl
  · rw [tk_mu_at]; omega
  · rw [tk_mu_c (by omega), tk_mu_c (by omega)]; exact ⟨rfl, rfl⟩
theorem sp_X10_clear {G : tk_G} {M : tk_M} {C : cC} {i : Int} (hC : Rg M C) : Spi G FX10_clear [xR 101, xI i] SF M (fun v M' => v = (c_clear C i).1 ∧ Rg M' (c_clear C i).2 ∧ fR M M') := by
  refine Spi.of _ mtX10_clear nlX10_clear (Nat.le_of_ble_eq_true rfl) ?_
  show Ok G FX10_clear 0 [xR 101, xI i, xU] [] SF M 0 0 _
  unfold c_clear
  by_cases hi : 0 ≤ i ∧ i ≤ 1
  · rw [if_neg (fun h => h hi)]
    have hsel := hC.sel hi
    have hln := hsel.len
    refine tr_iload_n (pc := 0) dX10_clear_0 rfl ?_
    refine tr_cSi1 (pc := 1) dX10_clear_1 mtX10_isIdeal ls10_136 rfl ⟨(Nat.le_of_ble_eq_true rfl), (Nat.le_of_ble_eq_true rfl)⟩ nlX10_isIdeal (Nat.le_of_ble_eq_true rfl) ⟨(Nat.le_of_ble_eq_true rfl), (Nat.le_of_ble_eq_true rfl)⟩ (sp_X10_isIdeal) (fun r1 M1 h1 => ?_)
    obtain ⟨hr1, hM1⟩ := h1
    obtain rfl := hr1.symm
    obtain rfl := hM1.symm
    refine tr_ifne (pc := 4) (tgt := 9) dX10_clear_4 (by decide) (fun c4 => ?_) (fun c4 => absurd c4 (by omega))
    refine tr_aload_n (pc := 9) dX10_clear_9 rfl (by decide) ?_
    refine tr_getr (pc := 10) (x := 102) dX10_clear_10 fi10_11 rfl sg101 rfl ?_
    refine tr_iload_n (pc := 13) dX10_clear_13 rfl ?_
    refine tr_iald (pc := 14) dX10_clear_14 sg102 (by omega) (by omega) ?_
    refine tr_ifne (pc := 15) (tgt := 21) dX10_clear_15 (by decide) (fun c15 => ?_) (fun c15 => ?_)
    · skip
      refine tr_aload_n (pc := 21) dX10_clear_21 rfl (by decide) ?_
      refine tr_iload_n (pc := 22) dX10_clear_22 rfl ?_
      refine tr_cVv1 (pc := 23) dX10_clear_23 mtX10_deed lv10_147 rfl sg101 kc10 ⟨(Nat.le_of_ble_eq_true rfl), (Nat.le_of_ble_eq_true rfl)⟩ nlX10_deed (Nat.le_of_ble_eq_true rfl) ⟨(Nat.le_of_ble_eq_true rfl), (Nat.le_of_ble_eq_true rfl)⟩ (sp_X10_deed (by omega) hsel hC.2.2) (fun M23 h23 => ?_)
      obtain ⟨hD, f1⟩ := h23
      have hC1 := hC.keep hD f1
      have hsel1 := hsel.dd f1
      have hl1 := hsel1.len
      refine tr_aload_n (pc := 26) dX10_clear_26 rfl (by decide) ?_
      refine tr_getr (pc := 27) (x := 102) dX10_clear_27 fi10_11 rfl sg101 rfl ?_
      refine tr_iload_n (pc := 30) dX10_clear_30 rfl ?_
      refine tr_iald (pc := 31) dX10_clear_31 sg102 (by omega) (by omega) ?_
      refine tr_istore_n (pc := 32) dX10_clear_32 rfl (Nat.le_of_ble_eq_true rfl) ?_
      dsimp only [List.set]
      refine tr_aload_n (pc := 33) dX10_clear_33 rfl (by decide) ?_
      refine tr_getr (pc := 34) (x := 102) dX10_clear_34 fi10_11 rfl sg101 rfl ?_
      refine tr_iload_n (pc := 37) dX10_clear_37 rfl ?_
      refine tr_iconst (pc := 38) dX10_clear_38 ⟨by decide, by decide⟩ ?_
      refine tr_iast (pc := 39) dX10_clear_39 sg102 (by omega) (by omega) ?_
      refine tr_iload_n (pc := 40) dX10_clear_40 rfl ?_
      refine tr_ireti (pc := 41) dX10_clear_41 rfl ?_
      rw [if_neg (by omega)]
      obtain ⟨h9, f9⟩ := rg_empty (M := M23) (i := i)
      exact ⟨by omega, hC1.set hi h9 f9, (fR.dd f1).trans (fR.id f9)⟩
    · skip
      refine tr_bipush (pc := 18) dX10_clear_18 ⟨by decide, ⟨by decide, by decide⟩⟩ ?_
      refine tr_ireti (pc := 20) dX10_clear_20 rfl ?_
      rw [if_pos (by omega)]
      exact ⟨rfl, hC, fR.rf⟩
  · rw [if_pos hi]
    refine tr_iload_n (pc := 0) dX10_clear_0 rfl ?_
    refine tr_cSi1 (pc := 1) dX10_clear_1 mtX10_isIdeal ls10_136 rfl ⟨(Nat.le_of_ble_eq_true rfl), (Nat.le_of_ble_eq_true rfl)⟩ nlX10_isIdeal (Nat.le_of_ble_eq_true rfl) ⟨(Nat.le_of_ble_eq_true rfl), (Nat.le_of_ble_eq_true rfl)⟩ (sp_X10_isIdeal) (fun r1 M1 h1 => ?_)
    obtain ⟨hr1, hM1⟩ := h1
    obtain rfl := hr1.symm
    obtain rfl := hM1.symm
    refine tr_ifne (pc := 4) (tgt := 9) dX10_clear_4 (by decide) (fun c4 => absurd c4 (by omega)) (fun c4 => ?_)
    refine tr_iconst (pc := 7) dX10_clear_7 ⟨by decide, by decide⟩ ?_
    refine tr_ireti (pc := 8) dX10_clear_8 rfl ?_
    exact ⟨rfl, hC, fR.rf⟩
theorem ig_unk_mono (k : List (Int × Int)) : ∀ (g : List (Int × Int)) (acc : Int), acc ≤ ig_unk k acc g := fun g acc => (ig_unk_bd k g acc).1
/-- how far merge goes: what is unknown to h is unknown to less -/
theorem ig_unk_cons {h : List (Int × Int)} {z : Int × Int} : ∀ (g : List (Int × Int)) (acc acc' : Int), acc' ≤ acc → ig_unk (h ++ [z]) acc' g ≤ ig_unk h acc g := by
  intro g
  induction g with
  | nil => intro acc acc' h1; exact h1
  | cons q t ih =>
    intro acc acc' h1
    obtain ⟨p, q⟩ := q
    unfold ig_unk
    refine ih _ _ ?_
    by_cases hz : ig_find p q 0 (h ++ [z]) < 0
    · rw [if_pos hz, if_pos]
      · omega
      · rw [ig_find_one] at hz ⊢
        exact fun h2 => hz (List.mem_append_left _ h2)
    · rw [if_neg hz]; split <;> omega
theorem ig_unk_sh (h : List (Int × Int)) : ∀ (g : List (Int × Int)) (acc : Int), ig_unk h acc g = ig_unk h 0 g + acc := by
  intro g
  induction g with
  | nil => intro acc; unfold ig_unk; omega
  | cons q t ih =>
    intro acc
    obtain ⟨p, q⟩ := q
    unfold ig_unk
    rw [ih, ih (if ig_find p q 0 h < 0 then 0 + 1 else 0)]
    split <;> omega
theorem sp_X10_merge {G : tk_G} {M : tk_M} {C : cC} {i : Int} (hC : Rg M C) : Spi G FX10_merge [xR 101, xI i] SF M (fun v M' => v = (c_merge C i).1 ∧ Rg M' (c_merge C i).2 ∧ fR M M') := by
  refine Spi.of _ mtX10_merge nlX10_merge (Nat.le_of_ble_eq_true rfl) ?_
  show Ok G FX10_merge 0 [xR 101, xI i, xU, xU, xU] [] SF M 0 0 _
  unfold c_merge
  by_cases hi : 0 ≤ i ∧ i ≤ 1
  · rw [if_neg (fun h => h hi)]
    have hsel := hC.sel hi
    have hln := hsel.len
    have hsel2 := hC.sel (i := 1 - i) (by omega)
    have hln2 := hsel2.len
    have hub := ig_unk_bd (csel i C) (csel (1 - i) C) 0
    have loop2 : ∀ (MK : tk_M), rg_at MK (1 - i) (csel (1 - i) C) → ∀ (h' : List (Int × Int)) (k : Int) (acc : List (Int × Int)) (M1 : tk_M), 0 ≤ k → (acc.length : Int) + ig_unk acc 0 h' ≤ 6 → rg_at M1 i acc → rfr MK M1 i → ig_seg (fun k => MK 103 (6 * (1 - i) + k)) (fun k => MK 104 (6 * (1 - i) + k)) (MK 102 (1 - i)) k h' → Ok G FX10_merge 90 [xR 101, xI i, xI (1 - i), xI (ig_unk (csel i C) 0 (csel (1 - i) C)), xI k] [] SF M1 0 0 (tk_qi SF (fun v M' => v = (ig_mrg acc h').length ∧ rg_at M' i (ig_mrg acc h') ∧ rfr MK M' i)) := by
      intro MK hK h'
      have hK6 := hK.2
      induction h' with
      | nil =>
        intro k acc M1 hk hc ha hf hs
        have hs : k = MK 102 (1 - i) := hs
        have e : M1 102 (1 - i) = MK 102 (1 - i) := hf.2.1 _ (by omega)
        have hal := ha.len
        refine tr_iload (pc := 90) dX10_merge_90 rfl ?_
        refine tr_aload_n (pc := 92) dX10_merge_92 rfl (by decide) ?_
        refine tr_getr (pc := 93) (x := 102) dX10_merge_93 fi10_11 rfl sg101 rfl ?_
        refine tr_iload_n (pc := 96) dX10_merge_96 rfl ?_
        refine tr_iald (pc := 97) dX10_merge_97 sg102 (by omega) (by omega) ?_
        refine tr_icmpge (pc := 98) (tgt := 149) dX10_merge_98 (by decide) (fun c98 => ?_) (fun c98 => absurd c98 (by omega))
        refine tr_aload_n (pc := 149) dX10_merge_149 rfl (by decide) ?_
        refine tr_getr (pc := 150) (x := 102) dX10_merge_150 fi10_11 rfl sg101 rfl ?_
        refine tr_iload_n (pc := 153) dX10_merge_153 rfl ?_
        refine tr_iald (pc := 154) dX10_merge_154 sg102 (by omega) (by omega) ?_
        refine tr_ireti (pc := 155) dX10_merge_155 rfl ?_
        exact ⟨hal.1, ha, hf⟩
      | cons q t ih =>
        intro k acc M1 hk hc ha hf hs
        obtain ⟨p, q⟩ := q
        obtain ⟨e1, e2, b1, b2, b3, b4, hlt, hs⟩ := hs
        have e : M1 102 (1 - i) = MK 102 (1 - i) := hf.2.1 _ (by omega)
        have e1' : M1 103 (6 * (1 - i) + k) = p := ((hf.2.2 _ (by omega)).1).trans e1
        have e2' : M1 104 (6 * (1 - i) + k) = q := ((hf.2.2 _ (by omega)).2).trans e2
        have hge := ig_find_ge (a := p) (b := q) acc 0
        have hal := ha.len
        unfold ig_unk at hc
        have hm := ig_unk_mono acc t (if ig_find p q 0 acc < 0 then 0 + 1 else 0)
        unfold ig_mrg ig_addN ig_add
        refine tr_iload (pc := 90) dX10_merge_90 rfl ?_
        refine tr_aload_n (pc := 92) dX10_merge_92 rfl (by decide) ?_
        refine tr_getr (pc := 93) (x := 102) dX10_merge_93 fi10_11 rfl sg101 rfl ?_
        refine tr_iload_n (pc := 96) dX10_merge_96 rfl ?_
        refine tr_iald (pc := 97) dX10_merge_97 sg102 (by omega) (by omega) ?_
        refine tr_icmpge (pc := 98) (tgt := 149) dX10_merge_98 (by decide) (fun c98 => absurd c98 (by omega)) (fun c98 => ?_)
        refine tr_aload_n (pc := 101) dX10_merge_101 rfl (by decide) ?_
        refine tr_iload_n (pc := 102) dX10_merge_102 rfl ?_
        refine tr_aload_n (pc := 103) dX10_merge_103 rfl (by decide) ?_
        refine tr_iload_n (pc := 104) dX10_merge_104 rfl ?_
        refine tr_iload (pc := 105) dX10_merge_105 rfl ?_
        refine tr_cVi2 (pc := 107) dX10_merge_107 mtX10_a lv10_125 rfl sg101 kc10 ⟨(Nat.le_of_ble_eq_true rfl), (Nat.le_of_ble_eq_true rfl)⟩ nlX10_a (Nat.le_of_ble_eq_true rfl) ⟨(Nat.le_of_ble_eq_true rfl), (Nat.le_of_ble_eq_true rfl)⟩ (sp_ra (by omega) hk (by omega) e1') (fun r107 M107 h107 => ?_)
        obtain ⟨hr107, hM107⟩ := h107
        obtain rfl := hr107.symm
        obtain rfl := hM107.symm
        refine tr_aload_n (pc := 110) dX10_merge_110 rfl (by decide) ?_
        refine tr_iload_n (pc := 111) dX10_merge_111 rfl ?_
        refine tr_iload (pc := 112) dX10_merge_112 rfl ?_
        refine tr_cVi2 (pc := 114) dX10_merge_114 mtX10_b lv10_129 rfl sg101 kc10 ⟨(Nat.le_of_ble_eq_true rfl), (Nat.le_of_ble_eq_true rfl)⟩ nlX10_b (Nat.le_of_ble_eq_true rfl) ⟨(Nat.le_of_ble_eq_true rfl), (Nat.le_of_ble_eq_true rfl)⟩ (sp_rb (by omega) hk (by omega) e2') (fun r114 M114 h114 => ?_)
        obtain ⟨hr114, hM114⟩ := h114
        obtain rfl := hr114.symm
        obtain rfl := hM114.symm
        refine tr_cVi3 (pc := 117) dX10_merge_117 mtX10_which lv10_143 rfl sg101 kc10 ⟨(Nat.le_of_ble_eq_true rfl), (Nat.le_of_ble_eq_true rfl)⟩ nlX10_which (Nat.le_of_ble_eq_true rfl) ⟨(Nat.le_of_ble_eq_true rfl), (Nat.le_of_ble_eq_true rfl)⟩ (sp_X10_which (by omega) ha) (fun r117 M117 h117 => ?_)
        obtain ⟨hr117, hM117⟩ := h117
        obtain rfl := hr117.symm
        obtain rfl := hM117.symm
        refine tr_iconst (pc := 120) dX10_merge_120 ⟨by decide, by decide⟩ ?_
        refine tr_icmpne (pc := 121) (tgt := 143) dX10_merge_121 (by decide) (fun c121 => ?_) (fun c121 => ?_)
        · skip
          refine tr_iinc (pc := 143) dX10_merge_143 rfl rfl ⟨by omega, by omega⟩ ?_
          dsimp only [List.set]
          refine tr_goto (pc := 146) (tgt := 90) dX10_merge_146 (by decide) ?_
          first
          | rw [if_neg (show ¬ ig_find p q 0 acc < 0 by omega)] at *
            exact ih (k + 1) _ _ (by omega) hc ha hf hs
          | rw [if_pos (show ig_find p q 0 acc < 0 by omega)] at *
            rw [if_pos (show acc.length < 6 by omega)]
            refine ih (k + 1) _ _ (by omega) ?_ h9 (hf.trans f9) hs
            have h7 := ig_unk_cons (h := acc) (z := (p, q)) t (0 + 1) 1 (by omega)
            have h8 := ig_unk_sh (acc ++ [(p, q)]) t 1
            rw [List.length_append]
            simp only [List.length_cons, List.length_nil]
            omega
        · skip
          refine tr_aload_n (pc := 124) dX10_merge_124 rfl (by decide) ?_
          refine tr_iload_n (pc := 125) dX10_merge_125 rfl ?_
          refine tr_aload_n (pc := 126) dX10_merge_126 rfl (by decide) ?_
          refine tr_iload_n (pc := 127) dX10_merge_127 rfl ?_
          refine tr_iload (pc := 128) dX10_merge_128 rfl ?_
          refine tr_cVi2 (pc := 130) dX10_merge_130 mtX10_a lv10_125 rfl sg101 kc10 ⟨(Nat.le_of_ble_eq_true rfl), (Nat.le_of_ble_eq_true rfl)⟩ nlX10_a (Nat.le_of_ble_eq_true rfl) ⟨(Nat.le_of_ble_eq_true rfl), (Nat.le_of_ble_eq_true rfl)⟩ (sp_ra (by omega) hk (by omega) e1') (fun r130 M130 h130 => ?_)
          obtain ⟨hr130, hM130⟩ := h130
          obtain rfl := hr130.symm
          obtain rfl := hM130.symm
          refine tr_aload_n (pc := 133) dX10_merge_133 rfl (by decide) ?_
          refine tr_iload_n (pc := 134) dX10_merge_134 rfl ?_
          refine tr_iload (pc := 135) dX10_merge_135 rfl ?_
          refine tr_cVi2 (pc := 137) dX10_merge_137 mtX10_b lv10_129 rfl sg101 kc10 ⟨(Nat.le_of_ble_eq_true rfl), (Nat.le_of_ble_eq_true rfl)⟩ nlX10_b (Nat.le_of_ble_eq_true rfl) ⟨(Nat.le_of_ble_eq_true rfl), (Nat.le_of_ble_eq_true rfl)⟩ (sp_rb (by omega) hk (by omega) e2') (fun r137 M137 h137 => ?_)
          obtain ⟨hr137, hM137⟩ := h137
          obtain rfl := hr137.symm
          obtain rfl := hM137.symm
          refine tr_cVv3 (pc := 140) dX10_merge_140 mtX10_comes lv10_151 rfl sg101 kc10 ⟨(Nat.le_of_ble_eq_true rfl), (Nat.le_of_ble_eq_true rfl)⟩ nlX10_comes (Nat.le_of_ble_eq_true rfl) ⟨(Nat.le_of_ble_eq_true rfl), (Nat.le_of_ble_eq_true rfl)⟩ (sp_X10_comes (by omega) ha (by omega) b1 b2 b3 b4) (fun M140 h140 => ?_)
          obtain ⟨h9, f9⟩ := h140
          refine tr_iinc (pc := 143) dX10_merge_143 rfl rfl ⟨by omega, by omega⟩ ?_
          dsimp only [List.set]
          refine tr_goto (pc := 146) (tgt := 90) dX10_merge_146 (by decide) ?_
          first
          | rw [if_neg (show ¬ ig_find p q 0 acc < 0 by omega)] at *
            exact ih (k + 1) _ _ (by omega) hc ha hf hs
          | rw [if_pos (show ig_find p q 0 acc < 0 by omega)] at *
            rw [if_pos (show acc.length < 6 by omega)]
            refine ih (k + 1) _ _ (by omega) ?_ h9 (hf.trans f9) hs
            have h7 := ig_unk_cons (h := acc) (z := (p, q)) t (0 + 1) 1 (by omega)
            have h8 := ig_unk_sh (acc ++ [(p, q)]) t 1
            rw [List.length_append]
            simp only [List.length_cons, List.length_nil]
            omega
    have loop1 : ∀ (h' : List (Int × Int)) (k fr : Int), 0 ≤ k → 0 ≤ fr → fr ≤ k → k ≤ 6 → ig_seg (fun k => M 103 (6 * (1 - i) + k)) (fun k => M 104 (6 * (1 - i) + k)) (M 102 (1 - i)) k h' → ig_unk (csel i C) fr h' = ig_unk (csel i C) 0 (csel (1 - i) C) → Ok G FX10_merge 18 [xR 101, xI i, xI (1 - i), xI fr, xI k] [] SF M 0 0 (tk_qi SF (fun v M' => v = (if 6 < ((csel i C).length : Int) + ig_unk (csel i C) 0 (csel (1 - i) C) then (-4, C) else (((ig_mrg (csel i C) (csel (1 - i) C)).length : Int), cset i (ig_mrg (csel i C) (csel (1 - i) C)) (cdeed i C))).1 ∧ Rg M' (if 6 < ((csel i C).length : Int) + ig_unk (csel i C) 0 (csel (1 - i) C) then (-4, C) else (((ig_mrg (csel i C) (csel (1 - i) C)).length : Int), cset i (ig_mrg (csel i C) (csel (1 - i) C)) (cdeed i C))).2 ∧ fR M M')) := by
      intro h'
      induction h' with
      | nil =>
        intro k fr hk f0 f1 k6 hs hu
        have hs : k = M 102 (1 - i) := hs
        have hu : fr = ig_unk (csel i C) 0 (csel (1 - i) C) := hu
        refine tr_iload (pc := 18) dX10_merge_18 rfl ?_
        refine tr_aload_n (pc := 20) dX10_merge_20 rfl (by decide) ?_
        refine tr_getr (pc := 21) (x := 102) dX10_merge_21 fi10_11 rfl sg101 rfl ?_
        refine tr_iload_n (pc := 24) dX10_merge_24 rfl ?_
        refine tr_iald (pc := 25) dX10_merge_25 sg102 (by omega) (by omega) ?_
        refine tr_icmpge (pc := 26) (tgt := 66) dX10_merge_26 (by decide) (fun c26 => ?_) (fun c26 => absurd c26 (by omega))
        refine tr_aload_n (pc := 66) dX10_merge_66 rfl (by decide) ?_
        refine tr_getr (pc := 67) (x := 102) dX10_merge_67 fi10_11 rfl sg101 rfl ?_
        refine tr_iload_n (pc := 70) dX10_merge_70 rfl ?_
        refine tr_iald (pc := 71) dX10_merge_71 sg102 (by omega) (by omega) ?_
        refine tr_iload_n (pc := 72) dX10_merge_72 rfl ?_
        refine tr_iadd (pc := 73) dX10_merge_73 ⟨by omega, by omega⟩ ?_
        refine tr_bipush (pc := 74) dX10_merge_74 ⟨by decide, ⟨by decide, by decide⟩⟩ ?_
        refine tr_icmple (pc := 76) (tgt := 82) dX10_merge_76 (by decide) (fun c76 => ?_) (fun c76 => ?_)
        · skip
          refine tr_aload_n (pc := 82) dX10_merge_82 rfl (by decide) ?_
          refine tr_iload_n (pc := 83) dX10_merge_83 rfl ?_
          refine tr_cVv1 (pc := 84) dX10_merge_84 mtX10_deed lv10_147 rfl sg101 kc10 ⟨(Nat.le_of_ble_eq_true rfl), (Nat.le_of_ble_eq_true rfl)⟩ nlX10_deed (Nat.le_of_ble_eq_true rfl) ⟨(Nat.le_of_ble_eq_true rfl), (Nat.le_of_ble_eq_true rfl)⟩ (sp_X10_deed (by omega) hsel hC.2.2) (fun M84 h84 => ?_)
          obtain ⟨hD, f1⟩ := h84
          have hC1 := hC.keep hD f1
          have hk1 := hsel.dd f1
          have hk2 := hsel2.dd f1
          refine tr_iconst (pc := 87) dX10_merge_87 ⟨by decide, by decide⟩ ?_
          refine tr_istore (pc := 88) dX10_merge_88 rfl (Nat.le_of_ble_eq_true rfl) ?_
          dsimp only [List.set]
          rw [if_neg (by omega), hu]
          exact tk_mono (loop2 M84 hk2 _ 0 _ M84 (by omega) (by omega) hk1 rfr.rf hk2.1) (fun v M1 h => ⟨h.1, hC1.set hi h.2.1 h.2.2, (fR.dd f1).trans (fR.id h.2.2)⟩)
        · skip
          refine tr_bipush (pc := 79) dX10_merge_79 ⟨by decide, ⟨by decide, by decide⟩⟩ ?_
          refine tr_ireti (pc := 81) dX10_merge_81 rfl ?_
          rw [if_pos (by omega)]
          exact ⟨rfl, hC, fR.rf⟩
      | cons q t ih =>
        intro k fr hk f0 f1 k6 hs hu
        obtain ⟨p, q⟩ := q
        obtain ⟨e1, e2, b1, b2, b3, b4, hlt, hs⟩ := hs
        have hge := ig_find_ge (a := p) (b := q) (csel i C) 0
        have hu : ig_unk (csel i C) (if ig_find p q 0 (csel i C) < 0 then fr + 1 else fr) t = ig_unk (csel i C) 0 (csel (1 - i) C) := hu
        refine tr_iload (pc := 18) dX10_merge_18 rfl ?_
        refine tr_aload_n (pc := 20) dX10_merge_20 rfl (by decide) ?_
        refine tr_getr (pc := 21) (x := 102) dX10_merge_21 fi10_11 rfl sg101 rfl ?_
        refine tr_iload_n (pc := 24) dX10_merge_24 rfl ?_
        refine tr_iald (pc := 25) dX10_merge_25 sg102 (by omega) (by omega) ?_
        refine tr_icmpge (pc := 26) (tgt := 66) dX10_merge_26 (by decide) (fun c26 => absurd c26 (by omega)) (fun c26 => ?_)
        refine tr_iload_n (pc := 29) dX10_merge_29 rfl ?_
        refine tr_aload_n (pc := 30) dX10_merge_30 rfl (by decide) ?_
        refine tr_iload_n (pc := 31) dX10_merge_31 rfl ?_
        refine tr_aload_n (pc := 32) dX10_merge_32 rfl (by decide) ?_
        refine tr_iload_n (pc := 33) dX10_merge_33 rfl ?_
        refine tr_iload (pc := 34) dX10_merge_34 rfl ?_
        refine tr_cVi2 (pc := 36) dX10_merge_36 mtX10_a lv10_125 rfl sg101 kc10 ⟨(Nat.le_of_ble_eq_true rfl), (Nat.le_of_ble_eq_true rfl)⟩ nlX10_a (Nat.le_of_ble_eq_true rfl) ⟨(Nat.le_of_ble_eq_true rfl), (Nat.le_of_ble_eq_true rfl)⟩ (sp_ra (by omega) hk (by omega) e1) (fun r36 M36 h36 => ?_)
        obtain ⟨hr36, hM36⟩ := h36
        obtain rfl := hr36.symm
        obtain rfl := hM36.symm
        refine tr_aload_n (pc := 39) dX10_merge_39 rfl (by decide) ?_
        refine tr_iload_n (pc := 40) dX10_merge_40 rfl ?_
        refine tr_iload (pc := 41) dX10_merge_41 rfl ?_
        refine tr_cVi2 (pc := 43) dX10_merge_43 mtX10_b lv10_129 rfl sg101 kc10 ⟨(Nat.le_of_ble_eq_true rfl), (Nat.le_of_ble_eq_true rfl)⟩ nlX10_b (Nat.le_of_ble_eq_true rfl) ⟨(Nat.le_of_ble_eq_true rfl), (Nat.le_of_ble_eq_true rfl)⟩ (sp_rb (by omega) hk (by omega) e2) (fun r43 M43 h43 => ?_)
        obtain ⟨hr43, hM43⟩ := h43
        obtain rfl := hr43.symm
        obtain rfl := hM43.symm
        refine tr_cVi3 (pc := 46) dX10_merge_46 mtX10_which lv10_143 rfl sg101 kc10 ⟨(Nat.le_of_ble_eq_true rfl), (Nat.le_of_ble_eq_true rfl)⟩ nlX10_which (Nat.le_of_ble_eq_true rfl) ⟨(Nat.le_of_ble_eq_true rfl), (Nat.le_of_ble_eq_true rfl)⟩ (sp_X10_which (by omega) hsel) (fun r46 M46 h46 => ?_)
        obtain ⟨hr46, hM46⟩ := h46
        obtain rfl := hr46.symm
        obtain rfl := hM46.symm
        refine tr_iconst (pc := 49) dX10_merge_49 ⟨by decide, by decide⟩ ?_
        refine tr_icmpne (pc := 50) (tgt := 57) dX10_merge_50 (by decide) (fun c50 => ?_) (fun c50 => ?_)
        · skip
          refine tr_iconst (pc := 57) dX10_merge_57 ⟨by decide, by decide⟩ ?_
          refine tr_iadd (pc := 58) dX10_merge_58 ⟨by omega, by omega⟩ ?_
          refine tr_istore_n (pc := 59) dX10_merge_59 rfl (Nat.le_of_ble_eq_true rfl) ?_
          dsimp only [List.set]
          refine tr_iinc (pc := 60) dX10_merge_60 rfl rfl ⟨by omega, by omega⟩ ?_
          dsimp only [List.set]
          refine tr_goto (pc := 63) (tgt := 18) dX10_merge_63 (by decide) ?_
          first
          | rw [if_neg (show ¬ ig_find p q 0 (csel i C) < 0 by omega)] at hu
            exact ih (k + 1) _ (by omega) (by omega) (by omega) (by omega) hs (by rw [← hu]; congr 1; omega)
          | rw [if_pos (show ig_find p q 0 (csel i C) < 0 by omega)] at hu
            exact ih (k + 1) _ (by omega) (by omega) (by omega) (by omega) hs hu
        · skip
          refine tr_iconst (pc := 53) dX10_merge_53 ⟨by decide, by decide⟩ ?_
          refine tr_goto (pc := 54) (tgt := 58) dX10_merge_54 (by decide) ?_
          refine tr_iadd (pc := 58) dX10_merge_58 ⟨by omega, by omega⟩ ?_
          refine tr_istore_n (pc := 59) dX10_merge_59 rfl (Nat.le_of_ble_eq_true rfl) ?_
          dsimp only [List.set]
          refine tr_iinc (pc := 60) dX10_merge_60 rfl rfl ⟨by omega, by omega⟩ ?_
          dsimp only [List.set]
          refine tr_goto (pc := 63) (tgt := 18) dX10_merge_63 (by decide) ?_
          first
          | rw [if_neg (show ¬ ig_find p q 0 (csel i C) < 0 by omega)] at hu
            exact ih (k + 1) _ (by omega) (by omega) (by omega) (by omega) hs (by rw [← hu]; congr 1; omega)
          | rw [if_pos (show ig_find p q 0 (csel i C) < 0 by omega)] at hu
            exact ih (k + 1) _ (by omega) (by omega) (by omega) (by omega) hs hu
    refine tr_iload_n (pc := 0) dX10_merge_0 rfl ?_
    refine tr_cSi1 (pc := 1) dX10_merge_1 mtX10_isIdeal ls10_136 rfl ⟨(Nat.le_of_ble_eq_true rfl), (Nat.le_of_ble_eq_true rfl)⟩ nlX10_isIdeal (Nat.le_of_ble_eq_true rfl) ⟨(Nat.le_of_ble_eq_true rfl), (Nat.le_of_ble_eq_true rfl)⟩ (sp_X10_isIdeal) (fun r1 M1 h1 => ?_)
    obtain ⟨hr1, hM1⟩ := h1
    obtain rfl := hr1.symm
    obtain rfl := hM1.symm
    refine tr_ifne (pc := 4) (tgt := 9) dX10_merge_4 (by decide) (fun c4 => ?_) (fun c4 => absurd c4 (by omega))
    refine tr_iconst (pc := 9) dX10_merge_9 ⟨by decide, by decide⟩ ?_
    refine tr_iload_n (pc := 10) dX10_merge_10 rfl ?_
    refine tr_isub (pc := 11) dX10_merge_11 ⟨by omega, by omega⟩ ?_
    refine tr_istore_n (pc := 12) dX10_merge_12 rfl (Nat.le_of_ble_eq_true rfl) ?_
    dsimp only [List.set]
    refine tr_iconst (pc := 13) dX10_merge_13 ⟨by decide, by decide⟩ ?_
    refine tr_istore_n (pc := 14) dX10_merge_14 rfl (Nat.le_of_ble_eq_true rfl) ?_
    dsimp only [List.set]
    refine tr_iconst (pc := 15) dX10_merge_15 ⟨by decide, by decide⟩ ?_
    refine tr_istore (pc := 16) dX10_merge_16 rfl (Nat.le_of_ble_eq_true rfl) ?_
    dsimp only [List.set]
    exact loop1 _ 0 0 (by omega) (by omega) (by omega) (by omega) hsel2.1 rfl
  · rw [if_pos hi]
    refine tr_iload_n (pc := 0) dX10_merge_0 rfl ?_
    refine tr_cSi1 (pc := 1) dX10_merge_1 mtX10_isIdeal ls10_136 rfl ⟨(Nat.le_of_ble_eq_true rfl), (Nat.le_of_ble_eq_true rfl)⟩ nlX10_isIdeal (Nat.le_of_ble_eq_true rfl) ⟨(Nat.le_of_ble_eq_true rfl), (Nat.le_of_ble_eq_true rfl)⟩ (sp_X10_isIdeal) (fun r1 M1 h1 => ?_)
    obtain ⟨hr1, hM1⟩ := h1
    obtain rfl := hr1.symm
    obtain rfl := hM1.symm
    refine tr_ifne (pc := 4) (tgt := 9) dX10_merge_4 (by decide) (fun c4 => absurd c4 (by omega)) (fun c4 => ?_)
    refine tr_iconst (pc := 7) dX10_merge_7 ⟨by decide, by decide⟩ ?_
    refine tr_ireti (pc := 8) dX10_merge_8 rfl ?_
    exact ⟨rfl, hC, fR.rf⟩
theorem sp_X10_back {G : tk_G} {M : tk_M} {C : cC} (hC : Rg M C) : Spi G FX10_back [xR 101] SF M (fun v M' => v = (c_back C).1 ∧ Rg M' (c_back C).2 ∧ fR M M') := by
  have hC' := hC
  obtain ⟨g0, g1, D⟩ := C
  obtain ⟨c1, c2, c3⟩ := hC
  refine Spi.of _ mtX10_back nlX10_back (Nat.le_of_ble_eq_true rfl) ?_
  show Ok G FX10_back 0 [xR 101, xU, xU] [] SF M 0 0 _
  cases D with
  | nil =>
    have e : M 101 3 = 0 := c3.1
    refine tr_aload_n (pc := 0) dX10_back_0 rfl (by decide) ?_
    refine tr_geti (pc := 1) (ji := 3) dX10_back_1 fi10_132 rfl sg101 rfl ?_
    refine tr_ifne (pc := 4) (tgt := 10) dX10_back_4 (by decide) (fun c4 => absurd c4 (by omega)) (fun c4 => ?_)
    refine tr_bipush (pc := 7) dX10_back_7 ⟨by decide, ⟨by decide, by decide⟩⟩ ?_
    refine tr_ireti (pc := 9) dX10_back_9 rfl ?_
    exact ⟨rfl, hC', fR.rf⟩
  | cons q D =>
    obtain ⟨w, g⟩ := q
    obtain ⟨d1, d2, d3⟩ := c3
    have e : M 101 3 = (D.length : Int) + 1 := by rw [d1]; simp
    obtain ⟨n, hn⟩ : ∃ n : Int, n = D.length := ⟨_, rfl⟩
    have hn9 : 0 ≤ n ∧ n ≤ 9 := by
      have : (D.length + 1 : Nat) ≤ 10 := d2
      omega
    obtain ⟨⟨a1, a2⟩, a3⟩ := d3 0 (w, g) rfl
    rw [show M 101 3 - 1 - ((0 : Nat) : Int) = n by omega] at a1 a3
    simp only at a1 a2 a3
    have h6 := a3.2
    have loop : ∀ (d : Nat) (x : Int) (M1 : tk_M), x + d = 6 → 0 ≤ x → M1 101 3 = n → (∀ j, j ≠ 3 → M1 101 j = M 101 j) → (∀ c, c ≠ 101 → c ≠ 102 → c ≠ 103 → c ≠ 104 → M1 c = M c) → M1 102 w = M 106 n → (∀ j, j ≠ w → M1 102 j = M 102 j) → (∀ p, (p < 6 * w ∨ 6 * w + 6 ≤ p) → M1 103 p = M 103 p ∧ M1 104 p = M 104 p) → (∀ k, 0 ≤ k → k < x → M1 103 (6 * w + k) = M 107 (6 * n + k) ∧ M1 104 (6 * w + k) = M 108 (6 * n + k)) → Ok G FX10_back 47 [xR 101, xI w, xI x] [] SF M1 0 0 (tk_qi SF (fun v M' => v = n ∧ Rg M' (cset w g (g0, g1, D)) ∧ fR M M')) := by
      intro d
      induction d with
      | zero =>
        intro x M1 hd hx b0 b1 b2 b3 b4 b5 b6
        refine tr_iload_n (pc := 47) dX10_back_47 rfl ?_
        refine tr_bipush (pc := 48) dX10_back_48 ⟨by decide, ⟨by decide, by decide⟩⟩ ?_
        refine tr_icmpge (pc := 50) (tgt := 109) dX10_back_50 (by decide) (fun c50 => ?_) (fun c50 => absurd c50 (by omega))
        refine tr_aload_n (pc := 109) dX10_back_109 rfl (by decide) ?_
        refine tr_geti (pc := 110) (ji := 3) dX10_back_110 fi10_132 rfl sg101 rfl ?_
        refine tr_ireti (pc := 113) dX10_back_113 rfl ?_
        have hg : rg_at M1 w g := ⟨by rw [b3]; exact ig_seg_congr g 0 (fun k k0 k1 => b6 k k0 (by omega)) a3.1, by rw [b3]; exact h6⟩
        have hd : rd_at M1 D := by
          refine ⟨by omega, by omega, fun j q hq => ?_⟩
          obtain ⟨r1, r2⟩ := d3 (j + 1) q hq
          rw [show M 101 3 - 1 - ((j + 1 : Nat) : Int) = M1 101 3 - 1 - (j : Int) by omega] at r1 r2
          rw [b2 105 (by omega) (by omega) (by omega) (by omega)]
          refine ⟨r1, r2.congr ?_ (fun k _ _ => ?_)⟩
          · rw [b2 106 (by omega) (by omega) (by omega) (by omega)]
          · rw [b2 107 (by omega) (by omega) (by omega) (by omega), b2 108 (by omega) (by omega) (by omega) (by omega)]; exact ⟨rfl, rfl⟩
        refine ⟨b0, ?_, fun c hc => b2 c (by omega) (by omega) (by omega) (by omega), fun j h3 _ => b1 j h3⟩
        unfold cset
        rcases a2 with a2 | a2
        · subst a2
          rw [if_pos rfl]
          exact ⟨hg, c2.congr (b4 1 (by omega)) (fun k k0 k1 => b5 _ (by omega)), hd⟩
        · subst a2
          rw [if_neg (by decide)]
          exact ⟨c1.congr (b4 0 (by omega)) (fun k k0 k1 => b5 _ (by omega)), hg, hd⟩
      | succ d ih =>
        intro x M1 hd hx b0 b1 b2 b3 b4 b5 b6
        refine tr_iload_n (pc := 47) dX10_back_47 rfl ?_
        refine tr_bipush (pc := 48) dX10_back_48 ⟨by decide, ⟨by decide, by decide⟩⟩ ?_
        refine tr_icmpge (pc := 50) (tgt := 109) dX10_back_50 (by decide) (fun c50 => absurd c50 (by omega)) (fun c50 => ?_)
        refine tr_aload_n (pc := 53) dX10_back_53 rfl (by decide) ?_
        refine tr_getr (pc := 54) (x := 103) dX10_back_54 fi10_15 rfl sg101 rfl ?_
        refine tr_bipush (pc := 57) dX10_back_57 ⟨by decide, ⟨by decide, by decide⟩⟩ ?_
        refine tr_iload_n (pc := 59) dX10_back_59 rfl ?_
        refine tr_imul (pc := 60) dX10_back_60 ⟨by omega, by omega⟩ ?_
        refine tr_iload_n (pc := 61) dX10_back_61 rfl ?_
        refine tr_iadd (pc := 62) dX10_back_62 ⟨by omega, by omega⟩ ?_
        refine tr_aload_n (pc := 63) dX10_back_63 rfl (by decide) ?_
        refine tr_getr (pc := 64) (x := 107) dX10_back_64 fi10_27 rfl sg101 rfl ?_
        refine tr_bipush (pc := 67) dX10_back_67 ⟨by decide, ⟨by decide, by decide⟩⟩ ?_
        refine tr_aload_n (pc := 69) dX10_back_69 rfl (by decide) ?_
        refine tr_getv (pc := 70) (ji := 3) (x := n) dX10_back_70 fi10_132 rfl sg101 rfl (b0) ?_
        refine tr_imul (pc := 73) dX10_back_73 ⟨by omega, by omega⟩ ?_
        refine tr_iload_n (pc := 74) dX10_back_74 rfl ?_
        refine tr_iadd (pc := 75) dX10_back_75 ⟨by omega, by omega⟩ ?_
        refine tr_ialdv (pc := 76) (x := M 107 (6 * n + x)) dX10_back_76 sg107 (by omega) (by omega) (by rw [b2 107 (by omega) (by omega) (by omega) (by omega)]) ?_
        refine tr_iast (pc := 77) dX10_back_77 sg103 (by omega) (by omega) ?_
        refine tr_aload_n (pc := 78) dX10_back_78 rfl (by decide) ?_
        refine tr_getr (pc := 79) (x := 104) dX10_back_79 fi10_18 rfl sg101 rfl ?_
        refine tr_bipush (pc := 82) dX10_back_82 ⟨by decide, ⟨by decide, by decide⟩⟩ ?_
        refine tr_iload_n (pc := 84) dX10_back_84 rfl ?_
        refine tr_imul (pc := 85) dX10_back_85 ⟨by omega, by omega⟩ ?_
        refine tr_iload_n (pc := 86) dX10_back_86 rfl ?_
        refine tr_iadd (pc := 87) dX10_back_87 ⟨by omega, by omega⟩ ?_
        refine tr_aload_n (pc := 88) dX10_back_88 rfl (by decide) ?_
        refine tr_getr (pc := 89) (x := 108) dX10_back_89 fi10_30 rfl sg101 rfl ?_
        refine tr_bipush (pc := 92) dX10_back_92 ⟨by decide, ⟨by decide, by decide⟩⟩ ?_
        refine tr_aload_n (pc := 94) dX10_back_94 rfl (by decide) ?_
        refine tr_getv (pc := 95) (ji := 3) (x := n) dX10_back_95 fi10_132 rfl sg101 rfl (by rw [tk_mu_c (by omega)]; exact b0) ?_
        refine tr_imul (pc := 98) dX10_back_98 ⟨by omega, by omega⟩ ?_
        refine tr_iload_n (pc := 99) dX10_back_99 rfl ?_
        refine tr_iadd (pc := 100) dX10_back_100 ⟨by omega, by omega⟩ ?_
        refine tr_ialdv (pc := 101) (x := M 108 (6 * n + x)) dX10_back_101 sg108 (by omega) (by omega) (by rw [tk_mu_c (by omega), b2 108 (by omega) (by omega) (by omega) (by omega)]) ?_
        refine tr_iast (pc := 102) dX10_back_102 sg104 (by omega) (by omega) ?_
        refine tr_iinc (pc := 103) dX10_back_103 rfl rfl ⟨by omega, by omega⟩ ?_
        dsimp only [List.set]
        refine tr_goto (pc := 106) (tgt := 47) dX10_back_106 (by decide) ?_
        refine ih (x + 1) _ (by omega) (by omega) ?_ ?_ ?_ ?_ ?_ ?_ ?_
        · rw [tk_mu_c (by omega), tk_mu_c (by omega)]; exact b0
        · intro j hj
          rw [tk_mu_c (by omega), tk_mu_c (by omega)]; exact b1 j hj
        · intro c h1 h2 h3 h4
          rw [tk_mu_c h4, tk_mu_c h3]; exact b2 c h1 h2 h3 h4
        · rw [tk_mu_c (by omega), tk_mu_c (by omega)]; exact b3
        · intro j hj
          rw [tk_mu_c (by omega), tk_mu_c (by omega)]; exact b4 j hj
        · intro p hp
          have := b5 p hp
          (first | (simp only [tk_mu_eq, and_self, and_true, true_and, false_and, and_false, if_true, if_false, ↓reduceIte, reduceCtorEq]; done) | (simp only [tk_mu_eq, and_self, and_true, true_and, false_and, and_false, if_true, if_false, ↓reduceIte, reduceCtorEq]; omega))
        · intro k k0 k1
          by_cases hk : k = x
          · subst hk
            (first | (simp only [tk_mu_eq, and_self, and_true, true_and, false_and, and_false, if_true, if_false, ↓reduceIte, reduceCtorEq]; done) | (simp only [tk_mu_eq, and_self, and_true, true_and, false_and, and_false, if_true, if_false, ↓reduceIte, reduceCtorEq]; omega))
          · have := b6 k k0 (by omega)
            (first | (simp only [tk_mu_eq, and_self, and_true, true_and, false_and, and_false, if_true, if_false, ↓reduceIte, reduceCtorEq]; done) | (simp only [tk_mu_eq, and_self, and_true, true_and, false_and, and_false, if_true, if_false, ↓reduceIte, reduceCtorEq]; omega))
    refine tr_aload_n (pc := 0) dX10_back_0 rfl (by decide) ?_
    refine tr_geti (pc := 1) (ji := 3) dX10_back_1 fi10_132 rfl sg101 rfl ?_
    refine tr_ifne (pc := 4) (tgt := 10) dX10_back_4 (by decide) (fun c4 => ?_) (fun c4 => absurd c4 (by omega))
    refine tr_aload_n (pc := 10) dX10_back_10 rfl (by decide) ?_
    refine tr_dup (pc := 11) dX10_back_11 (fun h => by cases h) ?_
    refine tr_getv (pc := 12) (ji := 3) (x := n + 1) dX10_back_12 fi10_132 rfl sg101 rfl (by omega) ?_
    refine tr_iconst (pc := 15) dX10_back_15 ⟨by decide, by decide⟩ ?_
    refine tr_isub (pc := 16) dX10_back_16 ⟨by omega, by omega⟩ ?_
    refine tr_puti (pc := 17) (ji := 3) dX10_back_17 fi10_132 rfl (Or.inl rfl) (Or.inl rfl) sg101 rfl ?_
    refine tr_aload_n (pc := 20) dX10_back_20 rfl (by decide) ?_
    refine tr_getr (pc := 21) (x := 105) dX10_back_21 fi10_21 rfl sg101 rfl ?_
    refine tr_aload_n (pc := 24) dX10_back_24 rfl (by decide) ?_
    refine tr_getv (pc := 25) (ji := 3) (x := n) dX10_back_25 fi10_132 rfl sg101 rfl (by rw [tk_mu_at]; omega) ?_
    refine tr_ialdv (pc := 28) (x := w) dX10_back_28 sg105 (by omega) (by omega) (by rw [tk_mu_c (by omega)]; exact a1) ?_
    refine tr_istore_n (pc := 29) dX10_back_29 rfl (Nat.le_of_ble_eq_true rfl) ?_
    dsimp only [List.set]
    refine tr_aload_n (pc := 30) dX10_back_30 rfl (by decide) ?_
    refine tr_getr (pc := 31) (x := 102) dX10_back_31 fi10_11 rfl sg101 rfl ?_
    refine tr_iload_n (pc := 34) dX10_back_34 rfl ?_
    refine tr_aload_n (pc := 35) dX10_back_35 rfl (by decide) ?_
    refine tr_getr (pc := 36) (x := 106) dX10_back_36 fi10_24 rfl sg101 rfl ?_
    refine tr_aload_n (pc := 39) dX10_back_39 rfl (by decide) ?_
    refine tr_getv (pc := 40) (ji := 3) (x := n) dX10_back_40 fi10_132 rfl sg101 rfl (by rw [tk_mu_at]; omega) ?_
    refine tr_ialdv (pc := 43) (x := M 106 n) dX10_back_43 sg106 (by omega) (by omega) (by rw [tk_mu_c (by omega)]) ?_
    refine tr_iast (pc := 44) dX10_back_44 sg102 (by omega) (by omega) ?_
    refine tr_iconst (pc := 45) dX10_back_45 ⟨by decide, by decide⟩ ?_
    refine tr_istore_n (pc := 46) dX10_back_46 rfl (Nat.le_of_ble_eq_true rfl) ?_
    dsimp only [List.set]
    refine tk_mono (loop 6 0 _ (by omega) (by omega) ?_ ?_ ?_ ?_ ?_ ?_ ?_) (fun v M1 h => ⟨h.1.trans hn, h.2⟩)
    · rw [tk_mu_c (by omega), tk_mu_at]; omega
    · intro j hj
      rw [tk_mu_c (by omega), tk_mu_i hj]
    · intro c h1 h2 h3 h4
      rw [tk_mu_c h2, tk_mu_c h1]
    · rw [tk_mu_at]
    · intro j hj
      rw [tk_mu_i hj, tk_mu_c (by omega)]
    · intro p hp
      rw [tk_mu_c (by omega), tk_mu_c (by omega), tk_mu_c (by omega), tk_mu_c (by omega)]
      exact ⟨rfl, rfl⟩
    · intro k k0 k1; omega
