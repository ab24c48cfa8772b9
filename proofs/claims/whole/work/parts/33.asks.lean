def gp (g : List (Int × Int)) (k : Int) : Int × Int := g.getD k.toNat (0, 0)
theorem ig_gp {M : tk_M} {r k : Int} {g : List (Int × Int)} (h : ig_at M r g) (h0 : 0 ≤ k) (h1 : k < M r 2) : M (r + 1) k = (gp g k).1 ∧ M (r + 2) k = (gp g k).2 := by
  have := (ig_seg_get g 0 k h.1 h0 h1).1
  rw [Int.sub_zero] at this
  unfold gp
  rw [List.getD_eq_getElem?_getD, this]
  exact ⟨rfl, rfl⟩
theorem ig_ne {M : tk_M} {r : Int} {g : List (Int × Int)} (h : ig_at M r g) (h0 : M r 2 ≠ 0) : g ≠ [] := fun e => by have := h.len; rw [e] at this; simp at this; omega
/-- what is asked leaves all but its own scratch alone -/
def fS (M M' : tk_M) : Prop := tk_fr M M' 87 101
def NOl : Int := -9223372036854775808
def x_of (C : cC) (i k w : Int) : Int := if ¬ ((0 ≤ i ∧ i ≤ 1) ∧ (0 ≤ k ∧ k < (csel i C).length)) ∨ ¬ (0 ≤ w ∧ w ≤ 2) then -1 else if w = 0 then (gp (csel i C) k).1 else if w = 1 then (gp (csel i C) k).2 else ig_lst k (gp (csel i C) k).1 (gp (csel i C) k).2 0 (csel i C)
theorem ig_lst01 (k a b : Int) : ∀ (g : List (Int × Int)) (i : Int), ig_lst k a b i g = 0 ∨ ig_lst k a b i g = 1 := by
  intro g
  induction g with
  | nil => intro i; exact Or.inr rfl
  | cons q t ih => intro i; obtain ⟨p, q⟩ := q; unfold ig_lst; split; exact Or.inl rfl; exact ih (i + 1)
theorem sp_X9_of {G : tk_G} {M : tk_M} {C : cC} {i k w : Int} (hG : gs_ok G) (hC : Cg M C) : Spi G FX9_of [xR 0, xI i, xI k, xI w] SF M (fun v M' => v = x_of C i k w ∧ fS M M') := by
  have hrs := rid_s i
  have hrr := rid_r i
  have hrq := hrs.2.1
  have hsel := hC.sel i
  have hln := hsel.len
  have hbd := hsel.bd
  refine Spi.of _ mtX9_of nlX9_of (Nat.le_of_ble_eq_true rfl) ?_
  show Ok G FX9_of 0 [xR 0, xI i, xI k, xI w, xU] [] SF M 0 0 _
  
  refine tr_aload_n (pc := 0) dX9_of_0 rfl (by decide) ?_
  refine tr_iload_n (pc := 1) dX9_of_1 rfl ?_
  refine tr_iload_n (pc := 2) dX9_of_2 rfl ?_
  refine tr_cVi2 (pc := 3) dX9_of_3 mtX9_noGenerator lv9_105 rfl sg0 kc9 ⟨(Nat.le_of_ble_eq_true rfl), (Nat.le_of_ble_eq_true rfl)⟩ nlX9_noGenerator (Nat.le_of_ble_eq_true rfl) ⟨(Nat.le_of_ble_eq_true rfl), (Nat.le_of_ble_eq_true rfl)⟩ (sp_X9_noGenerator) (fun r3 M3 h3 => ?_)
  obtain ⟨hr3, hM3⟩ := h3
  obtain rfl := hr3.symm
  obtain rfl := hM3.symm
  refine tr_ifne (pc := 6) (tgt := 18) dX9_of_6 (by decide) (fun c6 => ?_) (fun c6 => ?_)
  · skip
    refine tr_iconst (pc := 18) dX9_of_18 ⟨by decide, by decide⟩ ?_
    refine tr_ireti (pc := 19) dX9_of_19 rfl ?_
    refine ⟨?_, tk_fr.rf⟩
    unfold x_of
    repeat' split
    all_goals first | rfl | omega
  · skip
    refine tr_iload_n (pc := 9) dX9_of_9 rfl ?_
    refine tr_iflt (pc := 10) (tgt := 18) dX9_of_10 (by decide) (fun c10 => ?_) (fun c10 => ?_)
    · skip
      refine tr_iconst (pc := 18) dX9_of_18 ⟨by decide, by decide⟩ ?_
      refine tr_ireti (pc := 19) dX9_of_19 rfl ?_
      refine ⟨?_, tk_fr.rf⟩
      unfold x_of
      repeat' split
      all_goals first | rfl | omega
    · skip
      refine tr_iload_n (pc := 13) dX9_of_13 rfl ?_
      refine tr_iconst (pc := 14) dX9_of_14 ⟨by decide, by decide⟩ ?_
      refine tr_icmple (pc := 15) (tgt := 20) dX9_of_15 (by decide) (fun c15 => ?_) (fun c15 => ?_)
      · skip
        have hk0 : 0 ≤ k := by omega
        have hk1 : k < M (rid i) 2 := by omega
        have hgp := ig_gp hsel hk0 hk1
        have h01 := ig_lst01 k (gp (csel i C) k).1 (gp (csel i C) k).2 (csel i C) 0
        refine tr_aload_n (pc := 20) dX9_of_20 rfl (by decide) ?_
        refine tr_getr (pc := 21) (x := 1) dX9_of_21 fi9_12 rfl sg0 rfl ?_
        refine tr_iload_n (pc := 24) dX9_of_24 rfl ?_
        refine tr_cVr1 (pc := 25) dX9_of_25 mtX8_ideal lv9_85 rfl sg1 kc8 ⟨(Nat.le_of_ble_eq_true rfl), (Nat.le_of_ble_eq_true rfl)⟩ nlX8_ideal (Nat.le_of_ble_eq_true rfl) ⟨(Nat.le_of_ble_eq_true rfl), (Nat.le_of_ble_eq_true rfl)⟩ (sp_now) (fun r25 M25 h25 => ?_)
        obtain ⟨hr25, hM25⟩ := h25
        obtain rfl := hr25.symm
        obtain rfl := hM25.symm
        refine tr_astore (pc := 28) dX9_of_28 rfl (Nat.le_of_ble_eq_true rfl) (by omega) ?_
        dsimp only [List.set]
        refine tr_iload_n (pc := 30) dX9_of_30 rfl ?_
        rcases (by omega : w = 0 ∨ w = 1 ∨ (w ≠ 0 ∧ w ≠ 1)) with c31 | c31 | c31
        · skip
          refine tr_lookup (pc := 31) (x := w) (off := 25) (tgt := 56) dX9_of_31 (by decide) (show Op.lookupswitch.offset [(0, 25), (1, 32)] 39 (w) = 25 by rw [Op.lookupswitch.offset_cons, if_pos (by omega)]) (by decide) ?_
          refine tr_aload (pc := 56) dX9_of_56 rfl (by omega) ?_
          refine tr_iload_n (pc := 58) dX9_of_58 rfl ?_
          refine tr_cVi1 (pc := 59) dX9_of_59 mtX3_powerA lv9_119 rfl hrq kc3 ⟨(Nat.le_of_ble_eq_true rfl), (Nat.le_of_ble_eq_true rfl)⟩ nlX3_powerA (Nat.le_of_ble_eq_true rfl) ⟨(Nat.le_of_ble_eq_true rfl), (Nat.le_of_ble_eq_true rfl)⟩ (sp_X3_powerA hrs hsel.2) (fun r59 M59 h59 => ?_)
          rw [if_pos ⟨hk0, hk1⟩, hgp.1] at h59
          obtain ⟨hr59, hM59⟩ := h59
          obtain rfl := hr59.symm
          obtain rfl := hM59.symm
          refine tr_ireti (pc := 62) dX9_of_62 rfl ?_
          refine ⟨?_, tk_fr.rf⟩
          unfold x_of
          repeat' split
          all_goals first | rfl | omega
        · skip
          refine tr_lookup (pc := 31) (x := w) (off := 32) (tgt := 63) dX9_of_31 (by decide) (show Op.lookupswitch.offset [(0, 25), (1, 32)] 39 (w) = 32 by rw [Op.lookupswitch.offset_cons, if_neg (by omega), Op.lookupswitch.offset_cons, if_pos (by omega)]) (by decide) ?_
          refine tr_aload (pc := 63) dX9_of_63 rfl (by omega) ?_
          refine tr_iload_n (pc := 65) dX9_of_65 rfl ?_
          refine tr_cVi1 (pc := 66) dX9_of_66 mtX3_powerB lv9_123 rfl hrq kc3 ⟨(Nat.le_of_ble_eq_true rfl), (Nat.le_of_ble_eq_true rfl)⟩ nlX3_powerB (Nat.le_of_ble_eq_true rfl) ⟨(Nat.le_of_ble_eq_true rfl), (Nat.le_of_ble_eq_true rfl)⟩ (sp_X3_powerB hrs hsel.2) (fun r66 M66 h66 => ?_)
          rw [if_pos ⟨hk0, hk1⟩, hgp.2] at h66
          obtain ⟨hr66, hM66⟩ := h66
          obtain rfl := hr66.symm
          obtain rfl := hM66.symm
          refine tr_ireti (pc := 69) dX9_of_69 rfl ?_
          refine ⟨?_, tk_fr.rf⟩
          unfold x_of
          repeat' split
          all_goals first | rfl | omega
        · skip
          refine tr_lookup (pc := 31) (x := w) (off := 39) (tgt := 70) dX9_of_31 (by decide) (show Op.lookupswitch.offset [(0, 25), (1, 32)] 39 (w) = 39 by rw [Op.lookupswitch.offset_cons, if_neg (by omega), Op.lookupswitch.offset_cons, if_neg (by omega)]; rfl) (by decide) ?_
          refine tr_aload (pc := 70) dX9_of_70 rfl (by omega) ?_
          refine tr_iload_n (pc := 72) dX9_of_72 rfl ?_
          refine tr_cVi1 (pc := 73) dX9_of_73 mtX3_isLeast lv9_189 rfl hrq kc3 ⟨(Nat.le_of_ble_eq_true rfl), (Nat.le_of_ble_eq_true rfl)⟩ nlX3_isLeast (Nat.le_of_ble_eq_true rfl) ⟨(Nat.le_of_ble_eq_true rfl), (Nat.le_of_ble_eq_true rfl)⟩ (sp_X3_isLeast hrs hsel hk0 hk1 hgp.1 hgp.2) (fun r73 M73 h73 => ?_)
          obtain ⟨hr73, hM73⟩ := h73
          obtain rfl := hr73.symm
          obtain rfl := hM73.symm
          refine tr_ifeq (pc := 76) (tgt := 83) dX9_of_76 (by decide) (fun c76 => ?_) (fun c76 => ?_)
          · skip
            refine tr_iconst (pc := 83) dX9_of_83 ⟨by decide, by decide⟩ ?_
            refine tr_ireti (pc := 84) dX9_of_84 rfl ?_
            refine ⟨?_, tk_fr.rf⟩
            unfold x_of
            repeat' split
            all_goals first | rfl | omega
          · skip
            refine tr_iconst (pc := 79) dX9_of_79 ⟨by decide, by decide⟩ ?_
            refine tr_goto (pc := 80) (tgt := 84) dX9_of_80 (by decide) ?_
            refine tr_ireti (pc := 84) dX9_of_84 rfl ?_
            refine ⟨?_, tk_fr.rf⟩
            unfold x_of
            repeat' split
            all_goals first | rfl | omega
      · skip
        refine tr_iconst (pc := 18) dX9_of_18 ⟨by decide, by decide⟩ ?_
        refine tr_ireti (pc := 19) dX9_of_19 rfl ?_
        refine ⟨?_, tk_fr.rf⟩
        unfold x_of
        repeat' split
        all_goals first | rfl | omega
def x_told (C : cC) (i w : Int) : Int := if ¬ (0 ≤ i ∧ i ≤ 1) ∨ ¬ (0 ≤ w ∧ w ≤ 4) then -1 else if w = 0 then (csel i C).length else if w = 1 then ig_cl (csel i C) 0 0 (csel i C) else if (csel i C).length = 0 then -3 else if w = 2 then (hl_fc (csel i C)).length else if w = 3 then cls1 (hl_fc (csel i C)) (csel i C) 100 0 else (jr_ga (hl_fc (csel i C)) 100 0 []).length
theorem sp_X9_told {G : tk_G} {M : tk_M} {C : cC} {i w : Int} (hG : gs_ok G) (hC : Cg M C) : Spi G FX9_told [xR 0, xI i, xI w] SF M (fun v M' => v = x_told C i w ∧ fS M M') := by
  have hrs := rid_s i
  have hrr := rid_r i
  have hrq := hrs.2.1
  have hsel := hC.sel i
  have hln := hsel.len
  have hbd := hsel.bd
  refine Spi.of _ mtX9_told nlX9_told (Nat.le_of_ble_eq_true rfl) ?_
  show Ok G FX9_told 0 [xR 0, xI i, xI w, xU] [] SF M 0 0 _
  
  refine tr_iload_n (pc := 0) dX9_told_0 rfl ?_
  refine tr_cSi1 (pc := 1) dX9_told_1 mtX9_noIdeal ls9_77 rfl ⟨(Nat.le_of_ble_eq_true rfl), (Nat.le_of_ble_eq_true rfl)⟩ nlX9_noIdeal (Nat.le_of_ble_eq_true rfl) ⟨(Nat.le_of_ble_eq_true rfl), (Nat.le_of_ble_eq_true rfl)⟩ (sp_X9_noIdeal) (fun r1 M1 h1 => ?_)
  obtain ⟨hr1, hM1⟩ := h1
  obtain rfl := hr1.symm
  obtain rfl := hM1.symm
  refine tr_ifne (pc := 4) (tgt := 16) dX9_told_4 (by decide) (fun c4 => ?_) (fun c4 => ?_)
  · skip
    refine tr_iconst (pc := 16) dX9_told_16 ⟨by decide, by decide⟩ ?_
    refine tr_ireti (pc := 17) dX9_told_17 rfl ?_
    refine ⟨?_, by first | exact tk_fr.rf | exact f1⟩
    unfold x_told
    repeat' split
    all_goals first | rfl | omega
  · skip
    refine tr_iload_n (pc := 7) dX9_told_7 rfl ?_
    refine tr_iflt (pc := 8) (tgt := 16) dX9_told_8 (by decide) (fun c8 => ?_) (fun c8 => ?_)
    · skip
      refine tr_iconst (pc := 16) dX9_told_16 ⟨by decide, by decide⟩ ?_
      refine tr_ireti (pc := 17) dX9_told_17 rfl ?_
      refine ⟨?_, by first | exact tk_fr.rf | exact f1⟩
      unfold x_told
      repeat' split
      all_goals first | rfl | omega
    · skip
      refine tr_iload_n (pc := 11) dX9_told_11 rfl ?_
      refine tr_iconst (pc := 12) dX9_told_12 ⟨by decide, by decide⟩ ?_
      refine tr_icmple (pc := 13) (tgt := 18) dX9_told_13 (by decide) (fun c13 => ?_) (fun c13 => ?_)
      · skip
        refine tr_aload_n (pc := 18) dX9_told_18 rfl (by decide) ?_
        refine tr_getr (pc := 19) (x := 1) dX9_told_19 fi9_12 rfl sg0 rfl ?_
        refine tr_iload_n (pc := 22) dX9_told_22 rfl ?_
        refine tr_cVr1 (pc := 23) dX9_told_23 mtX8_ideal lv9_85 rfl sg1 kc8 ⟨(Nat.le_of_ble_eq_true rfl), (Nat.le_of_ble_eq_true rfl)⟩ nlX8_ideal (Nat.le_of_ble_eq_true rfl) ⟨(Nat.le_of_ble_eq_true rfl), (Nat.le_of_ble_eq_true rfl)⟩ (sp_now) (fun r23 M23 h23 => ?_)
        obtain ⟨hr23, hM23⟩ := h23
        obtain rfl := hr23.symm
        obtain rfl := hM23.symm
        refine tr_astore_n (pc := 26) dX9_told_26 rfl (Nat.le_of_ble_eq_true rfl) (by omega) ?_
        dsimp only [List.set]
        refine tr_iload_n (pc := 27) dX9_told_27 rfl ?_
        refine tr_ifne (pc := 28) (tgt := 36) dX9_told_28 (by decide) (fun c28 => ?_) (fun c28 => ?_)
        · skip
          refine tr_iload_n (pc := 36) dX9_told_36 rfl ?_
          refine tr_iconst (pc := 37) dX9_told_37 ⟨by decide, by decide⟩ ?_
          refine tr_icmpne (pc := 38) (tgt := 46) dX9_told_38 (by decide) (fun c38 => ?_) (fun c38 => ?_)
          · skip
            refine tr_aload_n (pc := 46) dX9_told_46 rfl (by omega) ?_
            refine tr_cVi0 (pc := 47) dX9_told_47 mtX3_size lv9_93 rfl hrq kc3 ⟨(Nat.le_of_ble_eq_true rfl), (Nat.le_of_ble_eq_true rfl)⟩ nlX3_size (Nat.le_of_ble_eq_true rfl) ⟨(Nat.le_of_ble_eq_true rfl), (Nat.le_of_ble_eq_true rfl)⟩ (sp_X3_size hrs) (fun r47 M47 h47 => ?_)
            obtain ⟨hr47, hM47⟩ := h47
            obtain rfl := hr47.symm
            obtain rfl := hM47.symm
            refine tr_ifne (pc := 50) (tgt := 56) dX9_told_50 (by decide) (fun c50 => ?_) (fun c50 => ?_)
            · skip
              refine tr_iload_n (pc := 56) dX9_told_56 rfl ?_
              refine tr_iconst (pc := 57) dX9_told_57 ⟨by decide, by decide⟩ ?_
              refine tr_icmpne (pc := 58) (tgt := 77) dX9_told_58 (by decide) (fun c58 => ?_) (fun c58 => ?_)
              · skip
                refine tr_iload_n (pc := 77) dX9_told_77 rfl ?_
                refine tr_iconst (pc := 78) dX9_told_78 ⟨by decide, by decide⟩ ?_
                refine tr_icmpne (pc := 79) (tgt := 90) dX9_told_79 (by decide) (fun c79 => ?_) (fun c79 => ?_)
                · skip
                  refine tr_aload_n (pc := 90) dX9_told_90 rfl (by decide) ?_
                  refine tr_aload_n (pc := 91) dX9_told_91 rfl (by omega) ?_
                  refine tr_cVi1 (pc := 92) dX9_told_92 mtX9_countJumps lv9_199 rfl sg0 kc9 ⟨(Nat.le_of_ble_eq_true rfl), (Nat.le_of_ble_eq_true rfl)⟩ nlX9_countJumps (Nat.le_of_ble_eq_true rfl) ⟨(Nat.le_of_ble_eq_true rfl), (Nat.le_of_ble_eq_true rfl)⟩ (sp_X9_countJumps hG hrs (by omega) hsel (ig_ne hsel (by omega))) (fun r92 M92 h92 => ?_)
                  obtain ⟨hr92, -, f1⟩ := h92
                  obtain rfl := hr92.symm
                  replace f1 : fS M M92 := f1.mono (by omega) (by omega)
                  refine tr_ireti (pc := 95) dX9_told_95 rfl ?_
                  refine ⟨?_, by first | exact tk_fr.rf | exact f1⟩
                  unfold x_told
                  repeat' split
                  all_goals first | rfl | omega
                · skip
                  refine tr_aload_n (pc := 82) dX9_told_82 rfl (by decide) ?_
                  refine tr_aload_n (pc := 83) dX9_told_83 rfl (by omega) ?_
                  refine tr_cVi1 (pc := 84) dX9_told_84 mtX9_closedness lv9_196 rfl sg0 kc9 ⟨(Nat.le_of_ble_eq_true rfl), (Nat.le_of_ble_eq_true rfl)⟩ nlX9_closedness (Nat.le_of_ble_eq_true rfl) ⟨(Nat.le_of_ble_eq_true rfl), (Nat.le_of_ble_eq_true rfl)⟩ (sp_X9_closedness hG hrs (by omega) hsel (ig_ne hsel (by omega))) (fun r84 M84 h84 => ?_)
                  obtain ⟨hr84, f1⟩ := h84
                  obtain rfl := hr84.symm
                  replace f1 : fS M M84 := f1.mono (by omega) (by omega)
                  refine tr_goto (pc := 87) (tgt := 95) dX9_told_87 (by decide) ?_
                  refine tr_ireti (pc := 95) dX9_told_95 rfl ?_
                  refine ⟨?_, by first | exact tk_fr.rf | exact f1⟩
                  unfold x_told
                  repeat' split
                  all_goals first | rfl | omega
              · skip
                refine tr_aload_n (pc := 61) dX9_told_61 rfl (by decide) ?_
                refine tr_getr (pc := 62) (x := 90) dX9_told_62 fi9_56 rfl sg0 rfl ?_
                refine tr_aload_n (pc := 65) dX9_told_65 rfl (by omega) ?_
                refine tr_cVv1 (pc := 66) dX9_told_66 mtX2_wrap lv9_129 rfl sg90 kc2 ⟨(Nat.le_of_ble_eq_true rfl), (Nat.le_of_ble_eq_true rfl)⟩ nlX2_wrap (Nat.le_of_ble_eq_true rfl) ⟨(Nat.le_of_ble_eq_true rfl), (Nat.le_of_ble_eq_true rfl)⟩ (sp_X2_wrap hG hrs (by omega) hsel (ig_ne hsel (by omega))) (fun M66 h66 => ?_)
                obtain ⟨hF, f1⟩ := h66
                replace f1 : fS M M66 := f1.mono (by omega) (by omega)
                have hFl := hF.len
                refine tr_aload_n (pc := 69) dX9_told_69 rfl (by decide) ?_
                refine tr_getr (pc := 70) (x := 90) dX9_told_70 fi9_56 rfl sg0 rfl ?_
                refine tr_cVi0 (pc := 73) dX9_told_73 mtX2_size lv9_195 rfl sg90 kc2 ⟨(Nat.le_of_ble_eq_true rfl), (Nat.le_of_ble_eq_true rfl)⟩ nlX2_size (Nat.le_of_ble_eq_true rfl) ⟨(Nat.le_of_ble_eq_true rfl), (Nat.le_of_ble_eq_true rfl)⟩ (sp_X2_size) (fun r73 M73 h73 => ?_)
                obtain ⟨hr73, hM73⟩ := h73
                obtain rfl := hr73.symm
                obtain rfl := hM73.symm
                refine tr_ireti (pc := 76) dX9_told_76 rfl ?_
                refine ⟨?_, by first | exact tk_fr.rf | exact f1⟩
                unfold x_told
                repeat' split
                all_goals first | rfl | omega
            · skip
              refine tr_bipush (pc := 53) dX9_told_53 ⟨by decide, ⟨by decide, by decide⟩⟩ ?_
              refine tr_ireti (pc := 55) dX9_told_55 rfl ?_
              refine ⟨?_, by first | exact tk_fr.rf | exact f1⟩
              unfold x_told
              repeat' split
              all_goals first | rfl | omega
          · skip
            refine tr_aload_n (pc := 41) dX9_told_41 rfl (by omega) ?_
            refine tr_cVi0 (pc := 42) dX9_told_42 mtX3_countLeast lv9_192 rfl hrq kc3 ⟨(Nat.le_of_ble_eq_true rfl), (Nat.le_of_ble_eq_true rfl)⟩ nlX3_countLeast (Nat.le_of_ble_eq_true rfl) ⟨(Nat.le_of_ble_eq_true rfl), (Nat.le_of_ble_eq_true rfl)⟩ (sp_X3_countLeast hrs hsel) (fun r42 M42 h42 => ?_)
            obtain ⟨hr42, hM42⟩ := h42
            obtain rfl := hr42.symm
            obtain rfl := hM42.symm
            refine tr_ireti (pc := 45) dX9_told_45 rfl ?_
            refine ⟨?_, by first | exact tk_fr.rf | exact f1⟩
            unfold x_told
            repeat' split
            all_goals first | rfl | omega
        · skip
          refine tr_aload_n (pc := 31) dX9_told_31 rfl (by omega) ?_
          refine tr_cVi0 (pc := 32) dX9_told_32 mtX3_size lv9_93 rfl hrq kc3 ⟨(Nat.le_of_ble_eq_true rfl), (Nat.le_of_ble_eq_true rfl)⟩ nlX3_size (Nat.le_of_ble_eq_true rfl) ⟨(Nat.le_of_ble_eq_true rfl), (Nat.le_of_ble_eq_true rfl)⟩ (sp_X3_size hrs) (fun r32 M32 h32 => ?_)
          obtain ⟨hr32, hM32⟩ := h32
          obtain rfl := hr32.symm
          obtain rfl := hM32.symm
          refine tr_ireti (pc := 35) dX9_told_35 rfl ?_
          refine ⟨?_, by first | exact tk_fr.rf | exact f1⟩
          unfold x_told
          repeat' split
          all_goals first | rfl | omega
      · skip
        refine tr_iconst (pc := 16) dX9_told_16 ⟨by decide, by decide⟩ ?_
        refine tr_ireti (pc := 17) dX9_told_17 rfl ?_
        refine ⟨?_, by first | exact tk_fr.rf | exact f1⟩
        unfold x_told
        repeat' split
        all_goals first | rfl | omega
def x_in (C : cC) (i a b w : Int) : Int := if ¬ (0 ≤ i ∧ i ≤ 1) ∨ ¬ (0 ≤ w ∧ w ≤ 1) then -1 else if ¬ ((0 ≤ a ∧ a ≤ 9) ∧ (0 ≤ b ∧ b ≤ 9)) then -2 else if w = 0 then ig_in a b (csel i C) else if (csel i C).length = 0 then -3 else hl_cov a b (hl_fc (csel i C))
theorem sp_X9_in {G : tk_G} {M : tk_M} {C : cC} {i a b w : Int} (hG : gs_ok G) (hC : Cg M C) : Spi G FX9_in [xR 0, xI i, xI a, xI b, xI w] SF M (fun v M' => v = x_in C i a b w ∧ fS M M') := by
  have hrs := rid_s i
  have hrr := rid_r i
  have hrq := hrs.2.1
  have hsel := hC.sel i
  have hln := hsel.len
  have hbd := hsel.bd
  refine Spi.of _ mtX9_in nlX9_in (Nat.le_of_ble_eq_true rfl) ?_
  show Ok G FX9_in 0 [xR 0, xI i, xI a, xI b, xI w, xU] [] SF M 0 0 _
  
  refine tr_iload_n (pc := 0) dX9_in_0 rfl ?_
  refine tr_cSi1 (pc := 1) dX9_in_1 mtX9_noIdeal ls9_77 rfl ⟨(Nat.le_of_ble_eq_true rfl), (Nat.le_of_ble_eq_true rfl)⟩ nlX9_noIdeal (Nat.le_of_ble_eq_true rfl) ⟨(Nat.le_of_ble_eq_true rfl), (Nat.le_of_ble_eq_true rfl)⟩ (sp_X9_noIdeal) (fun r1 M1 h1 => ?_)
  obtain ⟨hr1, hM1⟩ := h1
  obtain rfl := hr1.symm
  obtain rfl := hM1.symm
  refine tr_ifne (pc := 4) (tgt := 18) dX9_in_4 (by decide) (fun c4 => ?_) (fun c4 => ?_)
  · skip
    refine tr_iconst (pc := 18) dX9_in_18 ⟨by decide, by decide⟩ ?_
    refine tr_ireti (pc := 19) dX9_in_19 rfl ?_
    have h01 := ig_in01 a b (csel i C)
    have h02 := hl_cov01 a b (hl_fc (csel i C))
    refine ⟨?_, by first | exact tk_fr.rf | exact f1⟩
    unfold x_in
    repeat' split
    all_goals first | rfl | omega
  · skip
    refine tr_iload (pc := 7) dX9_in_7 rfl ?_
    refine tr_iflt (pc := 9) (tgt := 18) dX9_in_9 (by decide) (fun c9 => ?_) (fun c9 => ?_)
    · skip
      refine tr_iconst (pc := 18) dX9_in_18 ⟨by decide, by decide⟩ ?_
      refine tr_ireti (pc := 19) dX9_in_19 rfl ?_
      have h01 := ig_in01 a b (csel i C)
      have h02 := hl_cov01 a b (hl_fc (csel i C))
      refine ⟨?_, by first | exact tk_fr.rf | exact f1⟩
      unfold x_in
      repeat' split
      all_goals first | rfl | omega
    · skip
      refine tr_iload (pc := 12) dX9_in_12 rfl ?_
      refine tr_iconst (pc := 14) dX9_in_14 ⟨by decide, by decide⟩ ?_
      refine tr_icmple (pc := 15) (tgt := 20) dX9_in_15 (by decide) (fun c15 => ?_) (fun c15 => ?_)
      · skip
        refine tr_iload_n (pc := 20) dX9_in_20 rfl ?_
        refine tr_iload_n (pc := 21) dX9_in_21 rfl ?_
        refine tr_cSi2 (pc := 22) dX9_in_22 mtX9_badTerm ls9_81 rfl ⟨(Nat.le_of_ble_eq_true rfl), (Nat.le_of_ble_eq_true rfl)⟩ nlX9_badTerm (Nat.le_of_ble_eq_true rfl) ⟨(Nat.le_of_ble_eq_true rfl), (Nat.le_of_ble_eq_true rfl)⟩ (sp_X9_badTerm) (fun r22 M22 h22 => ?_)
        obtain ⟨hr22, hM22⟩ := h22
        obtain rfl := hr22.symm
        obtain rfl := hM22.symm
        refine tr_ifeq (pc := 25) (tgt := 31) dX9_in_25 (by decide) (fun c25 => ?_) (fun c25 => ?_)
        · skip
          refine tr_aload_n (pc := 31) dX9_in_31 rfl (by decide) ?_
          refine tr_getr (pc := 32) (x := 1) dX9_in_32 fi9_12 rfl sg0 rfl ?_
          refine tr_iload_n (pc := 35) dX9_in_35 rfl ?_
          refine tr_cVr1 (pc := 36) dX9_in_36 mtX8_ideal lv9_85 rfl sg1 kc8 ⟨(Nat.le_of_ble_eq_true rfl), (Nat.le_of_ble_eq_true rfl)⟩ nlX8_ideal (Nat.le_of_ble_eq_true rfl) ⟨(Nat.le_of_ble_eq_true rfl), (Nat.le_of_ble_eq_true rfl)⟩ (sp_now) (fun r36 M36 h36 => ?_)
          obtain ⟨hr36, hM36⟩ := h36
          obtain rfl := hr36.symm
          obtain rfl := hM36.symm
          refine tr_astore (pc := 39) dX9_in_39 rfl (Nat.le_of_ble_eq_true rfl) (by omega) ?_
          dsimp only [List.set]
          refine tr_iload (pc := 41) dX9_in_41 rfl ?_
          refine tr_ifne (pc := 43) (tgt := 62) dX9_in_43 (by decide) (fun c43 => ?_) (fun c43 => ?_)
          · skip
            refine tr_aload (pc := 62) dX9_in_62 rfl (by omega) ?_
            refine tr_cVi0 (pc := 64) dX9_in_64 mtX3_size lv9_93 rfl hrq kc3 ⟨(Nat.le_of_ble_eq_true rfl), (Nat.le_of_ble_eq_true rfl)⟩ nlX3_size (Nat.le_of_ble_eq_true rfl) ⟨(Nat.le_of_ble_eq_true rfl), (Nat.le_of_ble_eq_true rfl)⟩ (sp_X3_size hrs) (fun r64 M64 h64 => ?_)
            obtain ⟨hr64, hM64⟩ := h64
            obtain rfl := hr64.symm
            obtain rfl := hM64.symm
            refine tr_ifne (pc := 67) (tgt := 73) dX9_in_67 (by decide) (fun c67 => ?_) (fun c67 => ?_)
            · skip
              refine tr_aload_n (pc := 73) dX9_in_73 rfl (by decide) ?_
              refine tr_getr (pc := 74) (x := 90) dX9_in_74 fi9_56 rfl sg0 rfl ?_
              refine tr_aload (pc := 77) dX9_in_77 rfl (by omega) ?_
              refine tr_cVv1 (pc := 79) dX9_in_79 mtX2_wrap lv9_129 rfl sg90 kc2 ⟨(Nat.le_of_ble_eq_true rfl), (Nat.le_of_ble_eq_true rfl)⟩ nlX2_wrap (Nat.le_of_ble_eq_true rfl) ⟨(Nat.le_of_ble_eq_true rfl), (Nat.le_of_ble_eq_true rfl)⟩ (sp_X2_wrap hG hrs (by omega) hsel (ig_ne hsel (by omega))) (fun M79 h79 => ?_)
              obtain ⟨hF, f1⟩ := h79
              replace f1 : fS M M79 := f1.mono (by omega) (by omega)
              have hFl := hF.len
              refine tr_aload_n (pc := 82) dX9_in_82 rfl (by decide) ?_
              refine tr_getr (pc := 83) (x := 90) dX9_in_83 fi9_56 rfl sg0 rfl ?_
              refine tr_iload_n (pc := 86) dX9_in_86 rfl ?_
              refine tr_iload_n (pc := 87) dX9_in_87 rfl ?_
              refine tr_cVi2 (pc := 88) dX9_in_88 mtX2_covers lv9_205 rfl sg90 kc2 ⟨(Nat.le_of_ble_eq_true rfl), (Nat.le_of_ble_eq_true rfl)⟩ nlX2_covers (Nat.le_of_ble_eq_true rfl) ⟨(Nat.le_of_ble_eq_true rfl), (Nat.le_of_ble_eq_true rfl)⟩ (sp_X2_covers hF (by omega) (by omega)) (fun r88 M88 h88 => ?_)
              obtain ⟨hr88, hM88⟩ := h88
              obtain rfl := hr88.symm
              obtain rfl := hM88.symm
              refine tr_ifeq (pc := 91) (tgt := 98) dX9_in_91 (by decide) (fun c91 => ?_) (fun c91 => ?_)
              · skip
                refine tr_iconst (pc := 98) dX9_in_98 ⟨by decide, by decide⟩ ?_
                refine tr_ireti (pc := 99) dX9_in_99 rfl ?_
                have h01 := ig_in01 a b (csel i C)
                have h02 := hl_cov01 a b (hl_fc (csel i C))
                refine ⟨?_, by first | exact tk_fr.rf | exact f1⟩
                unfold x_in
                repeat' split
                all_goals first | rfl | omega
              · skip
                refine tr_iconst (pc := 94) dX9_in_94 ⟨by decide, by decide⟩ ?_
                refine tr_goto (pc := 95) (tgt := 99) dX9_in_95 (by decide) ?_
                refine tr_ireti (pc := 99) dX9_in_99 rfl ?_
                have h01 := ig_in01 a b (csel i C)
                have h02 := hl_cov01 a b (hl_fc (csel i C))
                refine ⟨?_, by first | exact tk_fr.rf | exact f1⟩
                unfold x_in
                repeat' split
                all_goals first | rfl | omega
            · skip
              refine tr_bipush (pc := 70) dX9_in_70 ⟨by decide, ⟨by decide, by decide⟩⟩ ?_
              refine tr_ireti (pc := 72) dX9_in_72 rfl ?_
              have h01 := ig_in01 a b (csel i C)
              have h02 := hl_cov01 a b (hl_fc (csel i C))
              refine ⟨?_, by first | exact tk_fr.rf | exact f1⟩
              unfold x_in
              repeat' split
              all_goals first | rfl | omega
          · skip
            refine tr_aload (pc := 46) dX9_in_46 rfl (by omega) ?_
            refine tr_iload_n (pc := 48) dX9_in_48 rfl ?_
            refine tr_iload_n (pc := 49) dX9_in_49 rfl ?_
            refine tr_cVi2 (pc := 50) dX9_in_50 mtX3_contains lv9_202 rfl hrq kc3 ⟨(Nat.le_of_ble_eq_true rfl), (Nat.le_of_ble_eq_true rfl)⟩ nlX3_contains (Nat.le_of_ble_eq_true rfl) ⟨(Nat.le_of_ble_eq_true rfl), (Nat.le_of_ble_eq_true rfl)⟩ (sp_X3_contains hrs hsel) (fun r50 M50 h50 => ?_)
            obtain ⟨hr50, hM50⟩ := h50
            obtain rfl := hr50.symm
            obtain rfl := hM50.symm
            refine tr_ifeq (pc := 53) (tgt := 60) dX9_in_53 (by decide) (fun c53 => ?_) (fun c53 => ?_)
            · skip
              refine tr_iconst (pc := 60) dX9_in_60 ⟨by decide, by decide⟩ ?_
              refine tr_ireti (pc := 61) dX9_in_61 rfl ?_
              have h01 := ig_in01 a b (csel i C)
              have h02 := hl_cov01 a b (hl_fc (csel i C))
              refine ⟨?_, by first | exact tk_fr.rf | exact f1⟩
              unfold x_in
              repeat' split
              all_goals first | rfl | omega
            · skip
              refine tr_iconst (pc := 56) dX9_in_56 ⟨by decide, by decide⟩ ?_
              refine tr_goto (pc := 57) (tgt := 61) dX9_in_57 (by decide) ?_
              refine tr_ireti (pc := 61) dX9_in_61 rfl ?_
              have h01 := ig_in01 a b (csel i C)
              have h02 := hl_cov01 a b (hl_fc (csel i C))
              refine ⟨?_, by first | exact tk_fr.rf | exact f1⟩
              unfold x_in
              repeat' split
              all_goals first | rfl | omega
        · skip
          refine tr_bipush (pc := 28) dX9_in_28 ⟨by decide, ⟨by decide, by decide⟩⟩ ?_
          refine tr_ireti (pc := 30) dX9_in_30 rfl ?_
          have h01 := ig_in01 a b (csel i C)
          have h02 := hl_cov01 a b (hl_fc (csel i C))
          refine ⟨?_, by first | exact tk_fr.rf | exact f1⟩
          unfold x_in
          repeat' split
          all_goals first | rfl | omega
      · skip
        refine tr_iconst (pc := 18) dX9_in_18 ⟨by decide, by decide⟩ ?_
        refine tr_ireti (pc := 19) dX9_in_19 rfl ?_
        have h01 := ig_in01 a b (csel i C)
        have h02 := hl_cov01 a b (hl_fc (csel i C))
        refine ⟨?_, by first | exact tk_fr.rf | exact f1⟩
        unfold x_in
        repeat' split
        all_goals first | rfl | omega
def fp (F : List (Int × Int × Int)) (j : Int) : Int × Int × Int := F.getD j.toNat (0, 0, 0)
theorem hl_fp {M : tk_M} {j : Int} {F : List (Int × Int × Int)} (h : hl_at M F) (h0 : 0 ≤ j) (h1 : j < M 90 3) : M 91 j = (fp F j).1 ∧ M 92 j = (fp F j).2.1 ∧ M 93 j = (fp F j).2.2 := by
  have := (hl_seg_get F 0 j h.1 h0 h1).1
  rw [Int.sub_zero] at this
  unfold fp
  rw [List.getD_eq_getElem?_getD, this]
  exact ⟨rfl, rfl, rfl⟩
def x_face (C : cC) (i j w : Int) : Int := if ¬ (0 ≤ i ∧ i ≤ 1) then -1 else if (csel i C).length = 0 then -3 else if ¬ (0 ≤ j ∧ j < (hl_fc (csel i C)).length) ∨ ¬ (0 ≤ w ∧ w ≤ 2) then -1 else if w = 0 then (fp (hl_fc (csel i C)) j).1 else if w = 1 then (fp (hl_fc (csel i C)) j).2.1 else (fp (hl_fc (csel i C)) j).2.2
theorem sp_X9_face {G : tk_G} {M : tk_M} {C : cC} {i j w : Int} (hG : gs_ok G) (hC : Cg M C) : Spi G FX9_face [xR 0, xI i, xI j, xI w] SF M (fun v M' => v = x_face C i j w ∧ fS M M') := by
  have hrs := rid_s i
  have hrr := rid_r i
  have hrq := hrs.2.1
  have hsel := hC.sel i
  have hln := hsel.len
  have hbd := hsel.bd
  refine Spi.of _ mtX9_face nlX9_face (Nat.le_of_ble_eq_true rfl) ?_
  show Ok G FX9_face 0 [xR 0, xI i, xI j, xI w, xU] [] SF M 0 0 _
  
  refine tr_iload_n (pc := 0) dX9_face_0 rfl ?_
  refine tr_cSi1 (pc := 1) dX9_face_1 mtX9_noIdeal ls9_77 rfl ⟨(Nat.le_of_ble_eq_true rfl), (Nat.le_of_ble_eq_true rfl)⟩ nlX9_noIdeal (Nat.le_of_ble_eq_true rfl) ⟨(Nat.le_of_ble_eq_true rfl), (Nat.le_of_ble_eq_true rfl)⟩ (sp_X9_noIdeal) (fun r1 M1 h1 => ?_)
  obtain ⟨hr1, hM1⟩ := h1
  obtain rfl := hr1.symm
  obtain rfl := hM1.symm
  refine tr_ifeq (pc := 4) (tgt := 9) dX9_face_4 (by decide) (fun c4 => ?_) (fun c4 => ?_)
  · skip
    refine tr_aload_n (pc := 9) dX9_face_9 rfl (by decide) ?_
    refine tr_getr (pc := 10) (x := 1) dX9_face_10 fi9_12 rfl sg0 rfl ?_
    refine tr_iload_n (pc := 13) dX9_face_13 rfl ?_
    refine tr_cVr1 (pc := 14) dX9_face_14 mtX8_ideal lv9_85 rfl sg1 kc8 ⟨(Nat.le_of_ble_eq_true rfl), (Nat.le_of_ble_eq_true rfl)⟩ nlX8_ideal (Nat.le_of_ble_eq_true rfl) ⟨(Nat.le_of_ble_eq_true rfl), (Nat.le_of_ble_eq_true rfl)⟩ (sp_now) (fun r14 M14 h14 => ?_)
    obtain ⟨hr14, hM14⟩ := h14
    obtain rfl := hr14.symm
    obtain rfl := hM14.symm
    refine tr_astore (pc := 17) dX9_face_17 rfl (Nat.le_of_ble_eq_true rfl) (by omega) ?_
    dsimp only [List.set]
    refine tr_aload (pc := 19) dX9_face_19 rfl (by omega) ?_
    refine tr_cVi0 (pc := 21) dX9_face_21 mtX3_size lv9_93 rfl hrq kc3 ⟨(Nat.le_of_ble_eq_true rfl), (Nat.le_of_ble_eq_true rfl)⟩ nlX3_size (Nat.le_of_ble_eq_true rfl) ⟨(Nat.le_of_ble_eq_true rfl), (Nat.le_of_ble_eq_true rfl)⟩ (sp_X3_size hrs) (fun r21 M21 h21 => ?_)
    obtain ⟨hr21, hM21⟩ := h21
    obtain rfl := hr21.symm
    obtain rfl := hM21.symm
    refine tr_ifne (pc := 24) (tgt := 30) dX9_face_24 (by decide) (fun c24 => ?_) (fun c24 => ?_)
    · skip
      refine tr_aload_n (pc := 30) dX9_face_30 rfl (by decide) ?_
      refine tr_getr (pc := 31) (x := 90) dX9_face_31 fi9_56 rfl sg0 rfl ?_
      refine tr_aload (pc := 34) dX9_face_34 rfl (by omega) ?_
      refine tr_cVv1 (pc := 36) dX9_face_36 mtX2_wrap lv9_129 rfl sg90 kc2 ⟨(Nat.le_of_ble_eq_true rfl), (Nat.le_of_ble_eq_true rfl)⟩ nlX2_wrap (Nat.le_of_ble_eq_true rfl) ⟨(Nat.le_of_ble_eq_true rfl), (Nat.le_of_ble_eq_true rfl)⟩ (sp_X2_wrap hG hrs (by omega) hsel (ig_ne hsel (by omega))) (fun M36 h36 => ?_)
      obtain ⟨hF, f1⟩ := h36
      replace f1 : fS M M36 := f1.mono (by omega) (by omega)
      have hFl := hF.len
      refine tr_iload_n (pc := 39) dX9_face_39 rfl ?_
      refine tr_iflt (pc := 40) (tgt := 63) dX9_face_40 (by decide) (fun c40 => ?_) (fun c40 => ?_)
      · skip
        refine tr_iconst (pc := 63) dX9_face_63 ⟨by decide, by decide⟩ ?_
        refine tr_ireti (pc := 64) dX9_face_64 rfl ?_
        refine ⟨?_, by first | exact tk_fr.rf | exact f1⟩
        unfold x_face
        repeat' split
        all_goals first | rfl | omega
      · skip
        refine tr_iload_n (pc := 43) dX9_face_43 rfl ?_
        refine tr_aload_n (pc := 44) dX9_face_44 rfl (by decide) ?_
        refine tr_getr (pc := 45) (x := 90) dX9_face_45 fi9_56 rfl sg0 rfl ?_
        refine tr_cVi0 (pc := 48) dX9_face_48 mtX2_size lv9_195 rfl sg90 kc2 ⟨(Nat.le_of_ble_eq_true rfl), (Nat.le_of_ble_eq_true rfl)⟩ nlX2_size (Nat.le_of_ble_eq_true rfl) ⟨(Nat.le_of_ble_eq_true rfl), (Nat.le_of_ble_eq_true rfl)⟩ (sp_X2_size) (fun r48 M48 h48 => ?_)
        obtain ⟨hr48, hM48⟩ := h48
        obtain rfl := hr48.symm
        obtain rfl := hM48.symm
        refine tr_icmpge (pc := 51) (tgt := 63) dX9_face_51 (by decide) (fun c51 => ?_) (fun c51 => ?_)
        · skip
          refine tr_iconst (pc := 63) dX9_face_63 ⟨by decide, by decide⟩ ?_
          refine tr_ireti (pc := 64) dX9_face_64 rfl ?_
          refine ⟨?_, by first | exact tk_fr.rf | exact f1⟩
          unfold x_face
          repeat' split
          all_goals first | rfl | omega
        · skip
          refine tr_iload_n (pc := 54) dX9_face_54 rfl ?_
          refine tr_iflt (pc := 55) (tgt := 63) dX9_face_55 (by decide) (fun c55 => ?_) (fun c55 => ?_)
          · skip
            refine tr_iconst (pc := 63) dX9_face_63 ⟨by decide, by decide⟩ ?_
            refine tr_ireti (pc := 64) dX9_face_64 rfl ?_
            refine ⟨?_, by first | exact tk_fr.rf | exact f1⟩
            unfold x_face
            repeat' split
            all_goals first | rfl | omega
          · skip
            refine tr_iload_n (pc := 58) dX9_face_58 rfl ?_
            refine tr_iconst (pc := 59) dX9_face_59 ⟨by decide, by decide⟩ ?_
            refine tr_icmple (pc := 60) (tgt := 65) dX9_face_60 (by decide) (fun c60 => ?_) (fun c60 => ?_)
            · skip
              have hj0 : 0 ≤ j := by omega
              have hj1 : j < M36 90 3 := by omega
              have hfp := hl_fp hF hj0 hj1
              refine tr_iload_n (pc := 65) dX9_face_65 rfl ?_
              rcases (by omega : w = 0 ∨ w = 1 ∨ (w ≠ 0 ∧ w ≠ 1)) with c66 | c66 | c66
              · skip
                refine tr_lookup (pc := 66) (x := w) (off := 26) (tgt := 92) dX9_face_66 (by decide) (show Op.lookupswitch.offset [(0, 26), (1, 35)] 44 (w) = 26 by rw [Op.lookupswitch.offset_cons, if_pos (by omega)]) (by decide) ?_
                refine tr_aload_n (pc := 92) dX9_face_92 rfl (by decide) ?_
                refine tr_getr (pc := 93) (x := 90) dX9_face_93 fi9_56 rfl sg0 rfl ?_
                refine tr_iload_n (pc := 96) dX9_face_96 rfl ?_
                refine tr_cVi1 (pc := 97) dX9_face_97 mtX2_weightA lv9_208 rfl sg90 kc2 ⟨(Nat.le_of_ble_eq_true rfl), (Nat.le_of_ble_eq_true rfl)⟩ nlX2_weightA (Nat.le_of_ble_eq_true rfl) ⟨(Nat.le_of_ble_eq_true rfl), (Nat.le_of_ble_eq_true rfl)⟩ (sp_X2_weightA hF.2 hj0 hj1) (fun r97 M97 h97 => ?_)
                rw [hfp.1] at h97
                obtain ⟨hr97, hM97⟩ := h97
                obtain rfl := hr97.symm
                obtain rfl := hM97.symm
                refine tr_ireti (pc := 100) dX9_face_100 rfl ?_
                refine ⟨?_, by first | exact tk_fr.rf | exact f1⟩
                unfold x_face
                repeat' split
                all_goals first | rfl | omega
              · skip
                refine tr_lookup (pc := 66) (x := w) (off := 35) (tgt := 101) dX9_face_66 (by decide) (show Op.lookupswitch.offset [(0, 26), (1, 35)] 44 (w) = 35 by rw [Op.lookupswitch.offset_cons, if_neg (by omega), Op.lookupswitch.offset_cons, if_pos (by omega)]) (by decide) ?_
                refine tr_aload_n (pc := 101) dX9_face_101 rfl (by decide) ?_
                refine tr_getr (pc := 102) (x := 90) dX9_face_102 fi9_56 rfl sg0 rfl ?_
                refine tr_iload_n (pc := 105) dX9_face_105 rfl ?_
                refine tr_cVi1 (pc := 106) dX9_face_106 mtX2_weightB lv9_211 rfl sg90 kc2 ⟨(Nat.le_of_ble_eq_true rfl), (Nat.le_of_ble_eq_true rfl)⟩ nlX2_weightB (Nat.le_of_ble_eq_true rfl) ⟨(Nat.le_of_ble_eq_true rfl), (Nat.le_of_ble_eq_true rfl)⟩ (sp_X2_weightB hF.2 hj0 hj1) (fun r106 M106 h106 => ?_)
                rw [hfp.2.1] at h106
                obtain ⟨hr106, hM106⟩ := h106
                obtain rfl := hr106.symm
                obtain rfl := hM106.symm
                refine tr_ireti (pc := 109) dX9_face_109 rfl ?_
                refine ⟨?_, by first | exact tk_fr.rf | exact f1⟩
                unfold x_face
                repeat' split
                all_goals first | rfl | omega
              · skip
                refine tr_lookup (pc := 66) (x := w) (off := 44) (tgt := 110) dX9_face_66 (by decide) (show Op.lookupswitch.offset [(0, 26), (1, 35)] 44 (w) = 44 by rw [Op.lookupswitch.offset_cons, if_neg (by omega), Op.lookupswitch.offset_cons, if_neg (by omega)]; rfl) (by decide) ?_
                refine tr_aload_n (pc := 110) dX9_face_110 rfl (by decide) ?_
                refine tr_getr (pc := 111) (x := 90) dX9_face_111 fi9_56 rfl sg0 rfl ?_
                refine tr_iload_n (pc := 114) dX9_face_114 rfl ?_
                refine tr_cVi1 (pc := 115) dX9_face_115 mtX2_level lv9_214 rfl sg90 kc2 ⟨(Nat.le_of_ble_eq_true rfl), (Nat.le_of_ble_eq_true rfl)⟩ nlX2_level (Nat.le_of_ble_eq_true rfl) ⟨(Nat.le_of_ble_eq_true rfl), (Nat.le_of_ble_eq_true rfl)⟩ (sp_X2_level hF.2 hj0 hj1) (fun r115 M115 h115 => ?_)
                rw [hfp.2.2] at h115
                obtain ⟨hr115, hM115⟩ := h115
                obtain rfl := hr115.symm
                obtain rfl := hM115.symm
                refine tr_ireti (pc := 118) dX9_face_118 rfl ?_
                refine ⟨?_, by first | exact tk_fr.rf | exact f1⟩
                unfold x_face
                repeat' split
                all_goals first | rfl | omega
            · skip
              refine tr_iconst (pc := 63) dX9_face_63 ⟨by decide, by decide⟩ ?_
              refine tr_ireti (pc := 64) dX9_face_64 rfl ?_
              refine ⟨?_, by first | exact tk_fr.rf | exact f1⟩
              unfold x_face
              repeat' split
              all_goals first | rfl | omega
    · skip
      refine tr_bipush (pc := 27) dX9_face_27 ⟨by decide, ⟨by decide, by decide⟩⟩ ?_
      refine tr_ireti (pc := 29) dX9_face_29 rfl ?_
      refine ⟨?_, by first | exact tk_fr.rf | exact f1⟩
      unfold x_face
      repeat' split
      all_goals first | rfl | omega
  · skip
    refine tr_iconst (pc := 7) dX9_face_7 ⟨by decide, by decide⟩ ?_
    refine tr_ireti (pc := 8) dX9_face_8 rfl ?_
    refine ⟨?_, by first | exact tk_fr.rf | exact f1⟩
    unfold x_face
    repeat' split
    all_goals first | rfl | omega
def x_held (C : cC) (i a b num den : Int) : Int := if ¬ (0 ≤ i ∧ i ≤ 1) then -1 else if ¬ ((0 ≤ a ∧ a ≤ 9) ∧ (0 ≤ b ∧ b ≤ 9)) ∨ ¬ ((1 ≤ num ∧ num ≤ 99) ∧ (1 ≤ den ∧ den ≤ 99)) then -2 else if (csel i C).length = 0 then -3 else if hl_bar a b num den 0 (hl_fc (csel i C)) < 0 then 1 else 0
theorem sp_X9_held {G : tk_G} {M : tk_M} {C : cC} {i a b num den : Int} (hG : gs_ok G) (hC : Cg M C) : Spi G FX9_held [xR 0, xI i, xI a, xI b, xI num, xI den] SF M (fun v M' => v = x_held C i a b num den ∧ fS M M') := by
  have hrs := rid_s i
  have hrr := rid_r i
  have hrq := hrs.2.1
  have hsel := hC.sel i
  have hln := hsel.len
  have hbd := hsel.bd
  refine Spi.of _ mtX9_held nlX9_held (Nat.le_of_ble_eq_true rfl) ?_
  show Ok G FX9_held 0 [xR 0, xI i, xI a, xI b, xI num, xI den, xU] [] SF M 0 0 _
  
  refine tr_iload_n (pc := 0) dX9_held_0 rfl ?_
  refine tr_cSi1 (pc := 1) dX9_held_1 mtX9_noIdeal ls9_77 rfl ⟨(Nat.le_of_ble_eq_true rfl), (Nat.le_of_ble_eq_true rfl)⟩ nlX9_noIdeal (Nat.le_of_ble_eq_true rfl) ⟨(Nat.le_of_ble_eq_true rfl), (Nat.le_of_ble_eq_true rfl)⟩ (sp_X9_noIdeal) (fun r1 M1 h1 => ?_)
  obtain ⟨hr1, hM1⟩ := h1
  obtain rfl := hr1.symm
  obtain rfl := hM1.symm
  refine tr_ifeq (pc := 4) (tgt := 9) dX9_held_4 (by decide) (fun c4 => ?_) (fun c4 => ?_)
  · skip
    refine tr_iload_n (pc := 9) dX9_held_9 rfl ?_
    refine tr_iload_n (pc := 10) dX9_held_10 rfl ?_
    refine tr_cSi2 (pc := 11) dX9_held_11 mtX9_badTerm ls9_81 rfl ⟨(Nat.le_of_ble_eq_true rfl), (Nat.le_of_ble_eq_true rfl)⟩ nlX9_badTerm (Nat.le_of_ble_eq_true rfl) ⟨(Nat.le_of_ble_eq_true rfl), (Nat.le_of_ble_eq_true rfl)⟩ (sp_X9_badTerm) (fun r11 M11 h11 => ?_)
    obtain ⟨hr11, hM11⟩ := h11
    obtain rfl := hr11.symm
    obtain rfl := hM11.symm
    refine tr_ifne (pc := 14) (tgt := 27) dX9_held_14 (by decide) (fun c14 => ?_) (fun c14 => ?_)
    · skip
      refine tr_bipush (pc := 27) dX9_held_27 ⟨by decide, ⟨by decide, by decide⟩⟩ ?_
      refine tr_ireti (pc := 29) dX9_held_29 rfl ?_
      refine ⟨?_, by first | exact tk_fr.rf | exact f1⟩
      unfold x_held
      repeat' split
      all_goals first | rfl | omega
    · skip
      refine tr_iload (pc := 17) dX9_held_17 rfl ?_
      refine tr_iload (pc := 19) dX9_held_19 rfl ?_
      refine tr_cSi2 (pc := 21) dX9_held_21 mtX9_badFraction ls9_217 rfl ⟨(Nat.le_of_ble_eq_true rfl), (Nat.le_of_ble_eq_true rfl)⟩ nlX9_badFraction (Nat.le_of_ble_eq_true rfl) ⟨(Nat.le_of_ble_eq_true rfl), (Nat.le_of_ble_eq_true rfl)⟩ (sp_X9_badFraction) (fun r21 M21 h21 => ?_)
      obtain ⟨hr21, hM21⟩ := h21
      obtain rfl := hr21.symm
      obtain rfl := hM21.symm
      refine tr_ifeq (pc := 24) (tgt := 30) dX9_held_24 (by decide) (fun c24 => ?_) (fun c24 => ?_)
      · skip
        refine tr_aload_n (pc := 30) dX9_held_30 rfl (by decide) ?_
        refine tr_getr (pc := 31) (x := 1) dX9_held_31 fi9_12 rfl sg0 rfl ?_
        refine tr_iload_n (pc := 34) dX9_held_34 rfl ?_
        refine tr_cVr1 (pc := 35) dX9_held_35 mtX8_ideal lv9_85 rfl sg1 kc8 ⟨(Nat.le_of_ble_eq_true rfl), (Nat.le_of_ble_eq_true rfl)⟩ nlX8_ideal (Nat.le_of_ble_eq_true rfl) ⟨(Nat.le_of_ble_eq_true rfl), (Nat.le_of_ble_eq_true rfl)⟩ (sp_now) (fun r35 M35 h35 => ?_)
        obtain ⟨hr35, hM35⟩ := h35
        obtain rfl := hr35.symm
        obtain rfl := hM35.symm
        refine tr_astore (pc := 38) dX9_held_38 rfl (Nat.le_of_ble_eq_true rfl) (by omega) ?_
        dsimp only [List.set]
        refine tr_aload (pc := 40) dX9_held_40 rfl (by omega) ?_
        refine tr_cVi0 (pc := 42) dX9_held_42 mtX3_size lv9_93 rfl hrq kc3 ⟨(Nat.le_of_ble_eq_true rfl), (Nat.le_of_ble_eq_true rfl)⟩ nlX3_size (Nat.le_of_ble_eq_true rfl) ⟨(Nat.le_of_ble_eq_true rfl), (Nat.le_of_ble_eq_true rfl)⟩ (sp_X3_size hrs) (fun r42 M42 h42 => ?_)
        obtain ⟨hr42, hM42⟩ := h42
        obtain rfl := hr42.symm
        obtain rfl := hM42.symm
        refine tr_ifne (pc := 45) (tgt := 51) dX9_held_45 (by decide) (fun c45 => ?_) (fun c45 => ?_)
        · skip
          refine tr_aload_n (pc := 51) dX9_held_51 rfl (by decide) ?_
          refine tr_getr (pc := 52) (x := 90) dX9_held_52 fi9_56 rfl sg0 rfl ?_
          refine tr_aload (pc := 55) dX9_held_55 rfl (by omega) ?_
          refine tr_cVv1 (pc := 57) dX9_held_57 mtX2_wrap lv9_129 rfl sg90 kc2 ⟨(Nat.le_of_ble_eq_true rfl), (Nat.le_of_ble_eq_true rfl)⟩ nlX2_wrap (Nat.le_of_ble_eq_true rfl) ⟨(Nat.le_of_ble_eq_true rfl), (Nat.le_of_ble_eq_true rfl)⟩ (sp_X2_wrap hG hrs (by omega) hsel (ig_ne hsel (by omega))) (fun M57 h57 => ?_)
          obtain ⟨hF, f1⟩ := h57
          replace f1 : fS M M57 := f1.mono (by omega) (by omega)
          have hFl := hF.len
          refine tr_aload_n (pc := 60) dX9_held_60 rfl (by decide) ?_
          refine tr_getr (pc := 61) (x := 90) dX9_held_61 fi9_56 rfl sg0 rfl ?_
          refine tr_iload_n (pc := 64) dX9_held_64 rfl ?_
          refine tr_iload_n (pc := 65) dX9_held_65 rfl ?_
          refine tr_iload (pc := 66) dX9_held_66 rfl ?_
          refine tr_iload (pc := 68) dX9_held_68 rfl ?_
          refine tr_cVi4 (pc := 70) dX9_held_70 mtX2_barring lv9_220 rfl sg90 kc2 ⟨(Nat.le_of_ble_eq_true rfl), (Nat.le_of_ble_eq_true rfl)⟩ nlX2_barring (Nat.le_of_ble_eq_true rfl) ⟨(Nat.le_of_ble_eq_true rfl), (Nat.le_of_ble_eq_true rfl)⟩ (sp_X2_barring hF (by omega) (by omega) (by omega) (by omega)) (fun r70 M70 h70 => ?_)
          obtain ⟨hr70, hM70⟩ := h70
          obtain rfl := hr70.symm
          obtain rfl := hM70.symm
          refine tr_ifge (pc := 73) (tgt := 80) dX9_held_73 (by decide) (fun c73 => ?_) (fun c73 => ?_)
          · skip
            refine tr_iconst (pc := 80) dX9_held_80 ⟨by decide, by decide⟩ ?_
            refine tr_ireti (pc := 81) dX9_held_81 rfl ?_
            refine ⟨?_, by first | exact tk_fr.rf | exact f1⟩
            unfold x_held
            repeat' split
            all_goals first | rfl | omega
          · skip
            refine tr_iconst (pc := 76) dX9_held_76 ⟨by decide, by decide⟩ ?_
            refine tr_goto (pc := 77) (tgt := 81) dX9_held_77 (by decide) ?_
            refine tr_ireti (pc := 81) dX9_held_81 rfl ?_
            refine ⟨?_, by first | exact tk_fr.rf | exact f1⟩
            unfold x_held
            repeat' split
            all_goals first | rfl | omega
        · skip
          refine tr_bipush (pc := 48) dX9_held_48 ⟨by decide, ⟨by decide, by decide⟩⟩ ?_
          refine tr_ireti (pc := 50) dX9_held_50 rfl ?_
          refine ⟨?_, by first | exact tk_fr.rf | exact f1⟩
          unfold x_held
          repeat' split
          all_goals first | rfl | omega
      · skip
        refine tr_bipush (pc := 27) dX9_held_27 ⟨by decide, ⟨by decide, by decide⟩⟩ ?_
        refine tr_ireti (pc := 29) dX9_held_29 rfl ?_
        refine ⟨?_, by first | exact tk_fr.rf | exact f1⟩
        unfold x_held
        repeat' split
        all_goals first | rfl | omega
  · skip
    refine tr_iconst (pc := 7) dX9_held_7 ⟨by decide, by decide⟩ ?_
    refine tr_ireti (pc := 8) dX9_held_8 rfl ?_
    refine ⟨?_, by first | exact tk_fr.rf | exact f1⟩
    unfold x_held
    repeat' split
    all_goals first | rfl | omega
def fw (q : Int × Int × Int) (a b : Int) : Int := q.1 * (a + 1) + q.2.1 * (b + 1)
def x_reason (C : cC) (i a b num den j : Int) : Int := if ¬ (0 ≤ i ∧ i ≤ 1) ∨ ¬ (0 ≤ j ∧ j ≤ 4) then -1 else if ¬ ((0 ≤ a ∧ a ≤ 9) ∧ (0 ≤ b ∧ b ≤ 9)) ∨ ¬ ((1 ≤ num ∧ num ≤ 99) ∧ (1 ≤ den ∧ den ≤ 99)) then -2 else if (csel i C).length = 0 then -3 else if hl_bar a b num den 0 (hl_fc (csel i C)) < 0 then -5 else if j = 0 then hl_bar a b num den 0 (hl_fc (csel i C)) else if j = 1 then fw (fp (hl_fc (csel i C)) (hl_bar a b num den 0 (hl_fc (csel i C)))) a b else if j = 2 then (fp (hl_fc (csel i C)) (hl_bar a b num den 0 (hl_fc (csel i C)))).2.2 else if j = 3 then num else den
theorem sp_X9_reason {G : tk_G} {M : tk_M} {C : cC} {i a b num den j : Int} (hG : gs_ok G) (hC : Cg M C) : Spi G FX9_reason [xR 0, xI i, xI a, xI b, xI num, xI den, xI j] SF M (fun v M' => v = x_reason C i a b num den j ∧ fS M M') := by
  have hrs := rid_s i
  have hrr := rid_r i
  have hrq := hrs.2.1
  have hsel := hC.sel i
  have hln := hsel.len
  have hbd := hsel.bd
  refine Spi.of _ mtX9_reason nlX9_reason (Nat.le_of_ble_eq_true rfl) ?_
  show Ok G FX9_reason 0 [xR 0, xI i, xI a, xI b, xI num, xI den, xI j, xU, xU] [] SF M 0 0 _
  
  refine tr_iload_n (pc := 0) dX9_reason_0 rfl ?_
  refine tr_cSi1 (pc := 1) dX9_reason_1 mtX9_noIdeal ls9_77 rfl ⟨(Nat.le_of_ble_eq_true rfl), (Nat.le_of_ble_eq_true rfl)⟩ nlX9_noIdeal (Nat.le_of_ble_eq_true rfl) ⟨(Nat.le_of_ble_eq_true rfl), (Nat.le_of_ble_eq_true rfl)⟩ (sp_X9_noIdeal) (fun r1 M1 h1 => ?_)
  obtain ⟨hr1, hM1⟩ := h1
  obtain rfl := hr1.symm
  obtain rfl := hM1.symm
  refine tr_ifne (pc := 4) (tgt := 18) dX9_reason_4 (by decide) (fun c4 => ?_) (fun c4 => ?_)
  · skip
    refine tr_iconst (pc := 18) dX9_reason_18 ⟨by decide, by decide⟩ ?_
    refine tr_ireti (pc := 19) dX9_reason_19 rfl ?_
    refine ⟨?_, by first | exact tk_fr.rf | exact f1⟩
    unfold x_reason
    try rw [hz]
    repeat' split
    all_goals first | rfl | omega
  · skip
    refine tr_iload (pc := 7) dX9_reason_7 rfl ?_
    refine tr_iflt (pc := 9) (tgt := 18) dX9_reason_9 (by decide) (fun c9 => ?_) (fun c9 => ?_)
    · skip
      refine tr_iconst (pc := 18) dX9_reason_18 ⟨by decide, by decide⟩ ?_
      refine tr_ireti (pc := 19) dX9_reason_19 rfl ?_
      refine ⟨?_, by first | exact tk_fr.rf | exact f1⟩
      unfold x_reason
      try rw [hz]
      repeat' split
      all_goals first | rfl | omega
    · skip
      refine tr_iload (pc := 12) dX9_reason_12 rfl ?_
      refine tr_iconst (pc := 14) dX9_reason_14 ⟨by decide, by decide⟩ ?_
      refine tr_icmple (pc := 15) (tgt := 20) dX9_reason_15 (by decide) (fun c15 => ?_) (fun c15 => ?_)
      · skip
        refine tr_iload_n (pc := 20) dX9_reason_20 rfl ?_
        refine tr_iload_n (pc := 21) dX9_reason_21 rfl ?_
        refine tr_cSi2 (pc := 22) dX9_reason_22 mtX9_badTerm ls9_81 rfl ⟨(Nat.le_of_ble_eq_true rfl), (Nat.le_of_ble_eq_true rfl)⟩ nlX9_badTerm (Nat.le_of_ble_eq_true rfl) ⟨(Nat.le_of_ble_eq_true rfl), (Nat.le_of_ble_eq_true rfl)⟩ (sp_X9_badTerm) (fun r22 M22 h22 => ?_)
        obtain ⟨hr22, hM22⟩ := h22
        obtain rfl := hr22.symm
        obtain rfl := hM22.symm
        refine tr_ifne (pc := 25) (tgt := 38) dX9_reason_25 (by decide) (fun c25 => ?_) (fun c25 => ?_)
        · skip
          refine tr_bipush (pc := 38) dX9_reason_38 ⟨by decide, ⟨by decide, by decide⟩⟩ ?_
          refine tr_ireti (pc := 40) dX9_reason_40 rfl ?_
          refine ⟨?_, by first | exact tk_fr.rf | exact f1⟩
          unfold x_reason
          try rw [hz]
          repeat' split
          all_goals first | rfl | omega
        · skip
          refine tr_iload (pc := 28) dX9_reason_28 rfl ?_
          refine tr_iload (pc := 30) dX9_reason_30 rfl ?_
          refine tr_cSi2 (pc := 32) dX9_reason_32 mtX9_badFraction ls9_217 rfl ⟨(Nat.le_of_ble_eq_true rfl), (Nat.le_of_ble_eq_true rfl)⟩ nlX9_badFraction (Nat.le_of_ble_eq_true rfl) ⟨(Nat.le_of_ble_eq_true rfl), (Nat.le_of_ble_eq_true rfl)⟩ (sp_X9_badFraction) (fun r32 M32 h32 => ?_)
          obtain ⟨hr32, hM32⟩ := h32
          obtain rfl := hr32.symm
          obtain rfl := hM32.symm
          refine tr_ifeq (pc := 35) (tgt := 41) dX9_reason_35 (by decide) (fun c35 => ?_) (fun c35 => ?_)
          · skip
            refine tr_aload_n (pc := 41) dX9_reason_41 rfl (by decide) ?_
            refine tr_getr (pc := 42) (x := 1) dX9_reason_42 fi9_12 rfl sg0 rfl ?_
            refine tr_iload_n (pc := 45) dX9_reason_45 rfl ?_
            refine tr_cVr1 (pc := 46) dX9_reason_46 mtX8_ideal lv9_85 rfl sg1 kc8 ⟨(Nat.le_of_ble_eq_true rfl), (Nat.le_of_ble_eq_true rfl)⟩ nlX8_ideal (Nat.le_of_ble_eq_true rfl) ⟨(Nat.le_of_ble_eq_true rfl), (Nat.le_of_ble_eq_true rfl)⟩ (sp_now) (fun r46 M46 h46 => ?_)
            obtain ⟨hr46, hM46⟩ := h46
            obtain rfl := hr46.symm
            obtain rfl := hM46.symm
            refine tr_astore (pc := 49) dX9_reason_49 rfl (Nat.le_of_ble_eq_true rfl) (by omega) ?_
            dsimp only [List.set]
            refine tr_aload (pc := 51) dX9_reason_51 rfl (by omega) ?_
            refine tr_cVi0 (pc := 53) dX9_reason_53 mtX3_size lv9_93 rfl hrq kc3 ⟨(Nat.le_of_ble_eq_true rfl), (Nat.le_of_ble_eq_true rfl)⟩ nlX3_size (Nat.le_of_ble_eq_true rfl) ⟨(Nat.le_of_ble_eq_true rfl), (Nat.le_of_ble_eq_true rfl)⟩ (sp_X3_size hrs) (fun r53 M53 h53 => ?_)
            obtain ⟨hr53, hM53⟩ := h53
            obtain rfl := hr53.symm
            obtain rfl := hM53.symm
            refine tr_ifne (pc := 56) (tgt := 62) dX9_reason_56 (by decide) (fun c56 => ?_) (fun c56 => ?_)
            · skip
              refine tr_aload_n (pc := 62) dX9_reason_62 rfl (by decide) ?_
              refine tr_getr (pc := 63) (x := 90) dX9_reason_63 fi9_56 rfl sg0 rfl ?_
              refine tr_aload (pc := 66) dX9_reason_66 rfl (by omega) ?_
              refine tr_cVv1 (pc := 68) dX9_reason_68 mtX2_wrap lv9_129 rfl sg90 kc2 ⟨(Nat.le_of_ble_eq_true rfl), (Nat.le_of_ble_eq_true rfl)⟩ nlX2_wrap (Nat.le_of_ble_eq_true rfl) ⟨(Nat.le_of_ble_eq_true rfl), (Nat.le_of_ble_eq_true rfl)⟩ (sp_X2_wrap hG hrs (by omega) hsel (ig_ne hsel (by omega))) (fun M68 h68 => ?_)
              obtain ⟨hF, f1⟩ := h68
              replace f1 : fS M M68 := f1.mono (by omega) (by omega)
              have hFl := hF.len
              refine tr_aload_n (pc := 71) dX9_reason_71 rfl (by decide) ?_
              refine tr_getr (pc := 72) (x := 90) dX9_reason_72 fi9_56 rfl sg0 rfl ?_
              refine tr_iload_n (pc := 75) dX9_reason_75 rfl ?_
              refine tr_iload_n (pc := 76) dX9_reason_76 rfl ?_
              refine tr_iload (pc := 77) dX9_reason_77 rfl ?_
              refine tr_iload (pc := 79) dX9_reason_79 rfl ?_
              refine tr_cVi4 (pc := 81) dX9_reason_81 mtX2_barring lv9_220 rfl sg90 kc2 ⟨(Nat.le_of_ble_eq_true rfl), (Nat.le_of_ble_eq_true rfl)⟩ nlX2_barring (Nat.le_of_ble_eq_true rfl) ⟨(Nat.le_of_ble_eq_true rfl), (Nat.le_of_ble_eq_true rfl)⟩ (sp_X2_barring hF (by omega) (by omega) (by omega) (by omega)) (fun r81 M81 h81 => ?_)
              obtain ⟨hr81, hM81⟩ := h81
              obtain rfl := hr81.symm
              obtain rfl := hM81.symm
              refine tr_istore (pc := 84) dX9_reason_84 rfl (Nat.le_of_ble_eq_true rfl) ?_
              dsimp only [List.set]
              refine tr_iload (pc := 86) dX9_reason_86 rfl ?_
              refine tr_ifge (pc := 88) (tgt := 94) dX9_reason_88 (by decide) (fun c88 => ?_) (fun c88 => ?_)
              · skip
                have hbr := hl_bar_ge a b num den (hl_fc (csel i C)) 0 (by omega)
                generalize hz : hl_bar a b num den 0 (hl_fc (csel i C)) = z at *
                have hj0 : 0 ≤ z := by omega
                have hj1 : z < M68 90 3 := by omega
                have hfp := hl_fp hF hj0 hj1
                refine tr_iload (pc := 94) dX9_reason_94 rfl ?_
                rcases (by omega : j = 0 ∨ j = 1 ∨ j = 2 ∨ j = 3 ∨ (j < 0 ∨ 3 < j)) with c96 | c96 | c96 | c96 | c96
                · skip
                  refine tr_table_in (pc := 96) (x := j) (off := 32) (tgt := 128) dX9_reason_96 (by omega) (by omega) (by rw [c96]; rfl) (by decide) ?_
                  refine tr_iload (pc := 128) dX9_reason_128 rfl ?_
                  refine tr_ireti (pc := 130) dX9_reason_130 rfl ?_
                  refine ⟨?_, by first | exact tk_fr.rf | exact f1⟩
                  unfold x_reason
                  try rw [hz]
                  repeat' split
                  all_goals first | rfl | omega
                · skip
                  refine tr_table_in (pc := 96) (x := j) (off := 35) (tgt := 131) dX9_reason_96 (by omega) (by omega) (by rw [c96]; rfl) (by decide) ?_
                  refine tr_aload_n (pc := 131) dX9_reason_131 rfl (by decide) ?_
                  refine tr_getr (pc := 132) (x := 90) dX9_reason_132 fi9_56 rfl sg0 rfl ?_
                  refine tr_iload (pc := 135) dX9_reason_135 rfl ?_
                  refine tr_iload_n (pc := 137) dX9_reason_137 rfl ?_
                  refine tr_iconst (pc := 138) dX9_reason_138 ⟨by decide, by decide⟩ ?_
                  refine tr_iadd (pc := 139) dX9_reason_139 ⟨by omega, by omega⟩ ?_
                  refine tr_iload_n (pc := 140) dX9_reason_140 rfl ?_
                  refine tr_iconst (pc := 141) dX9_reason_141 ⟨by decide, by decide⟩ ?_
                  refine tr_iadd (pc := 142) dX9_reason_142 ⟨by omega, by omega⟩ ?_
                  refine tr_cVi3 (pc := 143) dX9_reason_143 mtX2_weigh lv9_224 rfl sg90 kc2 ⟨(Nat.le_of_ble_eq_true rfl), (Nat.le_of_ble_eq_true rfl)⟩ nlX2_weigh (Nat.le_of_ble_eq_true rfl) ⟨(Nat.le_of_ble_eq_true rfl), (Nat.le_of_ble_eq_true rfl)⟩ (sp_X2_weigh hF hj0 hj1 (by omega) (by omega)) (fun r143 M143 h143 => ?_)
                  rw [hfp.1, hfp.2.1] at h143
                  obtain ⟨hr143, hM143⟩ := h143
                  obtain rfl := hr143.symm
                  obtain rfl := hM143.symm
                  refine tr_ireti (pc := 146) dX9_reason_146 rfl ?_
                  refine ⟨?_, by first | exact tk_fr.rf | exact f1⟩
                  unfold x_reason
                  try rw [hz]
                  repeat' split
                  all_goals first | rfl | omega
                · skip
                  refine tr_table_in (pc := 96) (x := j) (off := 51) (tgt := 147) dX9_reason_96 (by omega) (by omega) (by rw [c96]; rfl) (by decide) ?_
                  refine tr_aload_n (pc := 147) dX9_reason_147 rfl (by decide) ?_
                  refine tr_getr (pc := 148) (x := 90) dX9_reason_148 fi9_56 rfl sg0 rfl ?_
                  refine tr_iload (pc := 151) dX9_reason_151 rfl ?_
                  refine tr_cVi1 (pc := 153) dX9_reason_153 mtX2_level lv9_214 rfl sg90 kc2 ⟨(Nat.le_of_ble_eq_true rfl), (Nat.le_of_ble_eq_true rfl)⟩ nlX2_level (Nat.le_of_ble_eq_true rfl) ⟨(Nat.le_of_ble_eq_true rfl), (Nat.le_of_ble_eq_true rfl)⟩ (sp_X2_level hF.2 hj0 hj1) (fun r153 M153 h153 => ?_)
                  rw [hfp.2.2] at h153
                  obtain ⟨hr153, hM153⟩ := h153
                  obtain rfl := hr153.symm
                  obtain rfl := hM153.symm
                  refine tr_ireti (pc := 156) dX9_reason_156 rfl ?_
                  refine ⟨?_, by first | exact tk_fr.rf | exact f1⟩
                  unfold x_reason
                  try rw [hz]
                  repeat' split
                  all_goals first | rfl | omega
                · skip
                  refine tr_table_in (pc := 96) (x := j) (off := 61) (tgt := 157) dX9_reason_96 (by omega) (by omega) (by rw [c96]; rfl) (by decide) ?_
                  refine tr_iload (pc := 157) dX9_reason_157 rfl ?_
                  refine tr_ireti (pc := 159) dX9_reason_159 rfl ?_
                  refine ⟨?_, by first | exact tk_fr.rf | exact f1⟩
                  unfold x_reason
                  try rw [hz]
                  repeat' split
                  all_goals first | rfl | omega
                · skip
                  refine tr_table_out (pc := 96) (x := j) (tgt := 160) dX9_reason_96 (by omega) (by decide) ?_
                  refine tr_iload (pc := 160) dX9_reason_160 rfl ?_
                  refine tr_ireti (pc := 162) dX9_reason_162 rfl ?_
                  refine ⟨?_, by first | exact tk_fr.rf | exact f1⟩
                  unfold x_reason
                  try rw [hz]
                  repeat' split
                  all_goals first | rfl | omega
              · skip
                refine tr_bipush (pc := 91) dX9_reason_91 ⟨by decide, ⟨by decide, by decide⟩⟩ ?_
                refine tr_ireti (pc := 93) dX9_reason_93 rfl ?_
                refine ⟨?_, by first | exact tk_fr.rf | exact f1⟩
                unfold x_reason
                try rw [hz]
                repeat' split
                all_goals first | rfl | omega
            · skip
              refine tr_bipush (pc := 59) dX9_reason_59 ⟨by decide, ⟨by decide, by decide⟩⟩ ?_
              refine tr_ireti (pc := 61) dX9_reason_61 rfl ?_
              refine ⟨?_, by first | exact tk_fr.rf | exact f1⟩
              unfold x_reason
              try rw [hz]
              repeat' split
              all_goals first | rfl | omega
          · skip
            refine tr_bipush (pc := 38) dX9_reason_38 ⟨by decide, ⟨by decide, by decide⟩⟩ ?_
            refine tr_ireti (pc := 40) dX9_reason_40 rfl ?_
            refine ⟨?_, by first | exact tk_fr.rf | exact f1⟩
            unfold x_reason
            try rw [hz]
            repeat' split
            all_goals first | rfl | omega
      · skip
        refine tr_iconst (pc := 18) dX9_reason_18 ⟨by decide, by decide⟩ ?_
        refine tr_ireti (pc := 19) dX9_reason_19 rfl ?_
        refine ⟨?_, by first | exact tk_fr.rf | exact f1⟩
        unfold x_reason
        try rw [hz]
        repeat' split
        all_goals first | rfl | omega
def x_jump (C : cC) (i a b p : Int) : Int := if ¬ (0 ≤ i ∧ i ≤ 1) ∨ ¬ ((0 ≤ a ∧ a ≤ 9) ∧ (0 ≤ b ∧ b ≤ 9)) ∨ ¬ (0 ≤ p ∧ p ≤ 1) then NOl else if (csel i C).length = 0 then NOl else if (hl_tgt a b 0 (-1, 0, 0) (hl_fc (csel i C))).1 < 0 then NOl else lows (hl_tgt a b 0 (-1, 0, 0) (hl_fc (csel i C))).2.1 (hl_tgt a b 0 (-1, 0, 0) (hl_fc (csel i C))).2.2 p
theorem sp_X9_jump {G : tk_G} {M : tk_M} {C : cC} {i a b p : Int} (hG : gs_ok G) (hC : Cg M C) : Spl G FX9_jump [xR 0, xI i, xI a, xI b, xI p] SF M (fun v M' => v = x_jump C i a b p ∧ fS M M') := by
  have hrs := rid_s i
  have hrr := rid_r i
  have hrq := hrs.2.1
  have hsel := hC.sel i
  have hln := hsel.len
  have hbd := hsel.bd
  refine Spl.of _ mtX9_jump nlX9_jump (Nat.le_of_ble_eq_true rfl) ?_
  show Ok G FX9_jump 0 [xR 0, xI i, xI a, xI b, xI p, xU, xU] [] SF M 0 0 _
  
  refine tr_iload_n (pc := 0) dX9_jump_0 rfl ?_
  refine tr_cSi1 (pc := 1) dX9_jump_1 mtX9_noIdeal ls9_77 rfl ⟨(Nat.le_of_ble_eq_true rfl), (Nat.le_of_ble_eq_true rfl)⟩ nlX9_noIdeal (Nat.le_of_ble_eq_true rfl) ⟨(Nat.le_of_ble_eq_true rfl), (Nat.le_of_ble_eq_true rfl)⟩ (sp_X9_noIdeal) (fun r1 M1 h1 => ?_)
  obtain ⟨hr1, hM1⟩ := h1
  obtain rfl := hr1.symm
  obtain rfl := hM1.symm
  refine tr_ifne (pc := 4) (tgt := 23) dX9_jump_4 (by decide) (fun c4 => ?_) (fun c4 => ?_)
  · skip
    refine tr_ldc2 (pc := 23) dX9_jump_23 kn9_230 ⟨by decide, by decide⟩ ?_
    refine tr_lret (pc := 26) dX9_jump_26 rfl ?_
    refine ⟨?_, by first | exact tk_fr.rf | exact f1⟩
    unfold x_jump
    try rw [hzz]
    repeat' split
    all_goals first | rfl | omega
  · skip
    refine tr_iload_n (pc := 7) dX9_jump_7 rfl ?_
    refine tr_iload_n (pc := 8) dX9_jump_8 rfl ?_
    refine tr_cSi2 (pc := 9) dX9_jump_9 mtX9_badTerm ls9_81 rfl ⟨(Nat.le_of_ble_eq_true rfl), (Nat.le_of_ble_eq_true rfl)⟩ nlX9_badTerm (Nat.le_of_ble_eq_true rfl) ⟨(Nat.le_of_ble_eq_true rfl), (Nat.le_of_ble_eq_true rfl)⟩ (sp_X9_badTerm) (fun r9 M9 h9 => ?_)
    obtain ⟨hr9, hM9⟩ := h9
    obtain rfl := hr9.symm
    obtain rfl := hM9.symm
    refine tr_ifne (pc := 12) (tgt := 23) dX9_jump_12 (by decide) (fun c12 => ?_) (fun c12 => ?_)
    · skip
      refine tr_ldc2 (pc := 23) dX9_jump_23 kn9_230 ⟨by decide, by decide⟩ ?_
      refine tr_lret (pc := 26) dX9_jump_26 rfl ?_
      refine ⟨?_, by first | exact tk_fr.rf | exact f1⟩
      unfold x_jump
      try rw [hzz]
      repeat' split
      all_goals first | rfl | omega
    · skip
      refine tr_iload (pc := 15) dX9_jump_15 rfl ?_
      refine tr_cSi1 (pc := 17) dX9_jump_17 mtX9_badPart ls9_227 rfl ⟨(Nat.le_of_ble_eq_true rfl), (Nat.le_of_ble_eq_true rfl)⟩ nlX9_badPart (Nat.le_of_ble_eq_true rfl) ⟨(Nat.le_of_ble_eq_true rfl), (Nat.le_of_ble_eq_true rfl)⟩ (sp_X9_badPart) (fun r17 M17 h17 => ?_)
      obtain ⟨hr17, hM17⟩ := h17
      obtain rfl := hr17.symm
      obtain rfl := hM17.symm
      refine tr_ifeq (pc := 20) (tgt := 27) dX9_jump_20 (by decide) (fun c20 => ?_) (fun c20 => ?_)
      · skip
        refine tr_aload_n (pc := 27) dX9_jump_27 rfl (by decide) ?_
        refine tr_getr (pc := 28) (x := 1) dX9_jump_28 fi9_12 rfl sg0 rfl ?_
        refine tr_iload_n (pc := 31) dX9_jump_31 rfl ?_
        refine tr_cVr1 (pc := 32) dX9_jump_32 mtX8_ideal lv9_85 rfl sg1 kc8 ⟨(Nat.le_of_ble_eq_true rfl), (Nat.le_of_ble_eq_true rfl)⟩ nlX8_ideal (Nat.le_of_ble_eq_true rfl) ⟨(Nat.le_of_ble_eq_true rfl), (Nat.le_of_ble_eq_true rfl)⟩ (sp_now) (fun r32 M32 h32 => ?_)
        obtain ⟨hr32, hM32⟩ := h32
        obtain rfl := hr32.symm
        obtain rfl := hM32.symm
        refine tr_astore (pc := 35) dX9_jump_35 rfl (Nat.le_of_ble_eq_true rfl) (by omega) ?_
        dsimp only [List.set]
        refine tr_aload (pc := 37) dX9_jump_37 rfl (by omega) ?_
        refine tr_cVi0 (pc := 39) dX9_jump_39 mtX3_size lv9_93 rfl hrq kc3 ⟨(Nat.le_of_ble_eq_true rfl), (Nat.le_of_ble_eq_true rfl)⟩ nlX3_size (Nat.le_of_ble_eq_true rfl) ⟨(Nat.le_of_ble_eq_true rfl), (Nat.le_of_ble_eq_true rfl)⟩ (sp_X3_size hrs) (fun r39 M39 h39 => ?_)
        obtain ⟨hr39, hM39⟩ := h39
        obtain rfl := hr39.symm
        obtain rfl := hM39.symm
        refine tr_ifne (pc := 42) (tgt := 49) dX9_jump_42 (by decide) (fun c42 => ?_) (fun c42 => ?_)
        · skip
          refine tr_aload_n (pc := 49) dX9_jump_49 rfl (by decide) ?_
          refine tr_getr (pc := 50) (x := 90) dX9_jump_50 fi9_56 rfl sg0 rfl ?_
          refine tr_aload (pc := 53) dX9_jump_53 rfl (by omega) ?_
          refine tr_cVv1 (pc := 55) dX9_jump_55 mtX2_wrap lv9_129 rfl sg90 kc2 ⟨(Nat.le_of_ble_eq_true rfl), (Nat.le_of_ble_eq_true rfl)⟩ nlX2_wrap (Nat.le_of_ble_eq_true rfl) ⟨(Nat.le_of_ble_eq_true rfl), (Nat.le_of_ble_eq_true rfl)⟩ (sp_X2_wrap hG hrs (by omega) hsel (ig_ne hsel (by omega))) (fun M55 h55 => ?_)
          obtain ⟨hF, f1⟩ := h55
          replace f1 : fS M M55 := f1.mono (by omega) (by omega)
          have hFl := hF.len
          have hz := hl_tgt_at (a := a) (b := b) (hl_fc (csel i C)) 0 (-1, 0, 0) (by omega) (Or.inl rfl) hF.1
          generalize hzz : hl_tgt a b 0 (-1, 0, 0) (hl_fc (csel i C)) = z at hz
          refine tr_aload_n (pc := 58) dX9_jump_58 rfl (by decide) ?_
          refine tr_getr (pc := 59) (x := 90) dX9_jump_59 fi9_56 rfl sg0 rfl ?_
          refine tr_iload_n (pc := 62) dX9_jump_62 rfl ?_
          refine tr_iload_n (pc := 63) dX9_jump_63 rfl ?_
          refine tr_cVi2 (pc := 64) dX9_jump_64 mtX2_tightest lv9_232 rfl sg90 kc2 ⟨(Nat.le_of_ble_eq_true rfl), (Nat.le_of_ble_eq_true rfl)⟩ nlX2_tightest (Nat.le_of_ble_eq_true rfl) ⟨(Nat.le_of_ble_eq_true rfl), (Nat.le_of_ble_eq_true rfl)⟩ (sp_X2_tightest hF (by omega) (by omega)) (fun r64 M64 h64 => ?_)
          rw [hzz] at h64
          obtain ⟨hr64, hM64⟩ := h64
          obtain rfl := hr64.symm
          obtain rfl := hM64.symm
          refine tr_istore (pc := 67) dX9_jump_67 rfl (Nat.le_of_ble_eq_true rfl) ?_
          dsimp only [List.set]
          refine tr_iload (pc := 69) dX9_jump_69 rfl ?_
          refine tr_ifge (pc := 71) (tgt := 78) dX9_jump_71 (by decide) (fun c71 => ?_) (fun c71 => ?_)
          · skip
            obtain ⟨z0, z1, zw, zl, zp⟩ := hz.resolve_left (by omega)
            obtain ⟨-, u1, u2, u3⟩ := hl_seg_get _ 0 z.1 hF.1 z0 z1
            have m1 := mulb (y := a + 1) (Y := 10) u1.1 u1.2 (by omega) (by omega)
            have m2 := mulb (y := b + 1) (Y := 10) u2.1 u2.2 (by omega) (by omega)
            refine tr_aload_n (pc := 78) dX9_jump_78 rfl (by decide) ?_
            refine tr_getr (pc := 79) (x := 90) dX9_jump_79 fi9_56 rfl sg0 rfl ?_
            refine tr_iload (pc := 82) dX9_jump_82 rfl ?_
            refine tr_iload_n (pc := 84) dX9_jump_84 rfl ?_
            refine tr_iconst (pc := 85) dX9_jump_85 ⟨by decide, by decide⟩ ?_
            refine tr_iadd (pc := 86) dX9_jump_86 ⟨by omega, by omega⟩ ?_
            refine tr_iload_n (pc := 87) dX9_jump_87 rfl ?_
            refine tr_iconst (pc := 88) dX9_jump_88 ⟨by decide, by decide⟩ ?_
            refine tr_iadd (pc := 89) dX9_jump_89 ⟨by omega, by omega⟩ ?_
            refine tr_cVi3 (pc := 90) dX9_jump_90 mtX2_weigh lv9_224 rfl sg90 kc2 ⟨(Nat.le_of_ble_eq_true rfl), (Nat.le_of_ble_eq_true rfl)⟩ nlX2_weigh (Nat.le_of_ble_eq_true rfl) ⟨(Nat.le_of_ble_eq_true rfl), (Nat.le_of_ble_eq_true rfl)⟩ (sp_X2_weigh hF z0 z1 (by omega) (by omega)) (fun r90 M90 h90 => ?_)
            rw [zw] at h90
            obtain ⟨hr90, hM90⟩ := h90
            obtain rfl := hr90.symm
            obtain rfl := hM90.symm
            refine tr_aload_n (pc := 93) dX9_jump_93 rfl (by decide) ?_
            refine tr_getr (pc := 94) (x := 90) dX9_jump_94 fi9_56 rfl sg0 rfl ?_
            refine tr_iload (pc := 97) dX9_jump_97 rfl ?_
            refine tr_cVi1 (pc := 99) dX9_jump_99 mtX2_level lv9_214 rfl sg90 kc2 ⟨(Nat.le_of_ble_eq_true rfl), (Nat.le_of_ble_eq_true rfl)⟩ nlX2_level (Nat.le_of_ble_eq_true rfl) ⟨(Nat.le_of_ble_eq_true rfl), (Nat.le_of_ble_eq_true rfl)⟩ (sp_X2_level hF.2 z0 z1) (fun r99 M99 h99 => ?_)
            rw [zl] at h99
            obtain ⟨hr99, hM99⟩ := h99
            obtain rfl := hr99.symm
            obtain rfl := hM99.symm
            refine tr_iload (pc := 102) dX9_jump_102 rfl ?_
            refine tr_cSl3 (pc := 104) dX9_jump_104 mtX9_lowest ls9_235 rfl ⟨(Nat.le_of_ble_eq_true rfl), (Nat.le_of_ble_eq_true rfl)⟩ nlX9_lowest (Nat.le_of_ble_eq_true rfl) ⟨(Nat.le_of_ble_eq_true rfl), (Nat.le_of_ble_eq_true rfl)⟩ (sp_X9_lowest (by omega) (by omega) (by omega) (by omega)) (fun r104 M104 h104 => ?_)
            obtain ⟨hr104, hM104⟩ := h104
            obtain rfl := hr104.symm
            obtain rfl := hM104.symm
            refine tr_lret (pc := 107) dX9_jump_107 rfl ?_
            refine ⟨?_, by first | exact tk_fr.rf | exact f1⟩
            unfold x_jump
            try rw [hzz]
            repeat' split
            all_goals first | rfl | omega
          · skip
            refine tr_ldc2 (pc := 74) dX9_jump_74 kn9_230 ⟨by decide, by decide⟩ ?_
            refine tr_lret (pc := 77) dX9_jump_77 rfl ?_
            refine ⟨?_, by first | exact tk_fr.rf | exact f1⟩
            unfold x_jump
            try rw [hzz]
            repeat' split
            all_goals first | rfl | omega
        · skip
          refine tr_ldc2 (pc := 45) dX9_jump_45 kn9_230 ⟨by decide, by decide⟩ ?_
          refine tr_lret (pc := 48) dX9_jump_48 rfl ?_
          refine ⟨?_, by first | exact tk_fr.rf | exact f1⟩
          unfold x_jump
          try rw [hzz]
          repeat' split
          all_goals first | rfl | omega
      · skip
        refine tr_ldc2 (pc := 23) dX9_jump_23 kn9_230 ⟨by decide, by decide⟩ ?_
        refine tr_lret (pc := 26) dX9_jump_26 rfl ?_
        refine ⟨?_, by first | exact tk_fr.rf | exact f1⟩
        unfold x_jump
        try rw [hzz]
        repeat' split
        all_goals first | rfl | omega
def x_jumps (C : cC) (i j p : Int) : Int := if ¬ (0 ≤ i ∧ i ≤ 1) ∨ ¬ (0 ≤ p ∧ p ≤ 1) then NOl else if (csel i C).length = 0 ∨ ¬ (0 ≤ j ∧ j < (jr_ga (hl_fc (csel i C)) 100 0 []).length) then NOl else lows (gp (jr_ga (hl_fc (csel i C)) 100 0 []) j).1 (gp (jr_ga (hl_fc (csel i C)) 100 0 []) j).2 p
theorem sp_X9_jumps {G : tk_G} {M : tk_M} {C : cC} {i j p : Int} (hG : gs_ok G) (hC : Cg M C) : Spl G FX9_jumps [xR 0, xI i, xI j, xI p] SF M (fun v M' => v = x_jumps C i j p ∧ fS M M') := by
  have hrs := rid_s i
  have hrr := rid_r i
  have hrq := hrs.2.1
  have hsel := hC.sel i
  have hln := hsel.len
  have hbd := hsel.bd
  refine Spl.of _ mtX9_jumps nlX9_jumps (Nat.le_of_ble_eq_true rfl) ?_
  show Ok G FX9_jumps 0 [xR 0, xI i, xI j, xI p, xU] [] SF M 0 0 _
  
  refine tr_iload_n (pc := 0) dX9_jumps_0 rfl ?_
  refine tr_cSi1 (pc := 1) dX9_jumps_1 mtX9_noIdeal ls9_77 rfl ⟨(Nat.le_of_ble_eq_true rfl), (Nat.le_of_ble_eq_true rfl)⟩ nlX9_noIdeal (Nat.le_of_ble_eq_true rfl) ⟨(Nat.le_of_ble_eq_true rfl), (Nat.le_of_ble_eq_true rfl)⟩ (sp_X9_noIdeal) (fun r1 M1 h1 => ?_)
  obtain ⟨hr1, hM1⟩ := h1
  obtain rfl := hr1.symm
  obtain rfl := hM1.symm
  refine tr_ifne (pc := 4) (tgt := 14) dX9_jumps_4 (by decide) (fun c4 => ?_) (fun c4 => ?_)
  · skip
    refine tr_ldc2 (pc := 14) dX9_jumps_14 kn9_230 ⟨by decide, by decide⟩ ?_
    refine tr_lret (pc := 17) dX9_jumps_17 rfl ?_
    refine ⟨?_, by first | exact f1 | exact tk_fr.rf⟩
    unfold x_jumps
    try rw [hgp]
    repeat' split
    all_goals first | rfl | omega
  · skip
    refine tr_iload_n (pc := 7) dX9_jumps_7 rfl ?_
    refine tr_cSi1 (pc := 8) dX9_jumps_8 mtX9_badPart ls9_227 rfl ⟨(Nat.le_of_ble_eq_true rfl), (Nat.le_of_ble_eq_true rfl)⟩ nlX9_badPart (Nat.le_of_ble_eq_true rfl) ⟨(Nat.le_of_ble_eq_true rfl), (Nat.le_of_ble_eq_true rfl)⟩ (sp_X9_badPart) (fun r8 M8 h8 => ?_)
    obtain ⟨hr8, hM8⟩ := h8
    obtain rfl := hr8.symm
    obtain rfl := hM8.symm
    refine tr_ifeq (pc := 11) (tgt := 18) dX9_jumps_11 (by decide) (fun c11 => ?_) (fun c11 => ?_)
    · skip
      refine tr_aload_n (pc := 18) dX9_jumps_18 rfl (by decide) ?_
      refine tr_getr (pc := 19) (x := 1) dX9_jumps_19 fi9_12 rfl sg0 rfl ?_
      refine tr_iload_n (pc := 22) dX9_jumps_22 rfl ?_
      refine tr_cVr1 (pc := 23) dX9_jumps_23 mtX8_ideal lv9_85 rfl sg1 kc8 ⟨(Nat.le_of_ble_eq_true rfl), (Nat.le_of_ble_eq_true rfl)⟩ nlX8_ideal (Nat.le_of_ble_eq_true rfl) ⟨(Nat.le_of_ble_eq_true rfl), (Nat.le_of_ble_eq_true rfl)⟩ (sp_now) (fun r23 M23 h23 => ?_)
      obtain ⟨hr23, hM23⟩ := h23
      obtain rfl := hr23.symm
      obtain rfl := hM23.symm
      refine tr_astore (pc := 26) dX9_jumps_26 rfl (Nat.le_of_ble_eq_true rfl) (by omega) ?_
      dsimp only [List.set]
      refine tr_aload (pc := 28) dX9_jumps_28 rfl (by omega) ?_
      refine tr_cVi0 (pc := 30) dX9_jumps_30 mtX3_size lv9_93 rfl hrq kc3 ⟨(Nat.le_of_ble_eq_true rfl), (Nat.le_of_ble_eq_true rfl)⟩ nlX3_size (Nat.le_of_ble_eq_true rfl) ⟨(Nat.le_of_ble_eq_true rfl), (Nat.le_of_ble_eq_true rfl)⟩ (sp_X3_size hrs) (fun r30 M30 h30 => ?_)
      obtain ⟨hr30, hM30⟩ := h30
      obtain rfl := hr30.symm
      obtain rfl := hM30.symm
      refine tr_ifeq (pc := 33) (tgt := 50) dX9_jumps_33 (by decide) (fun c33 => ?_) (fun c33 => ?_)
      · skip
        refine tr_ldc2 (pc := 50) dX9_jumps_50 kn9_230 ⟨by decide, by decide⟩ ?_
        refine tr_lret (pc := 53) dX9_jumps_53 rfl ?_
        refine ⟨?_, by first | exact f1 | exact tk_fr.rf⟩
        unfold x_jumps
        try rw [hgp]
        repeat' split
        all_goals first | rfl | omega
      · skip
        refine tr_iload_n (pc := 36) dX9_jumps_36 rfl ?_
        refine tr_iflt (pc := 37) (tgt := 50) dX9_jumps_37 (by decide) (fun c37 => ?_) (fun c37 => ?_)
        · skip
          refine tr_ldc2 (pc := 50) dX9_jumps_50 kn9_230 ⟨by decide, by decide⟩ ?_
          refine tr_lret (pc := 53) dX9_jumps_53 rfl ?_
          refine ⟨?_, by first | exact f1 | exact tk_fr.rf⟩
          unfold x_jumps
          try rw [hgp]
          repeat' split
          all_goals first | rfl | omega
        · skip
          refine tr_iload_n (pc := 40) dX9_jumps_40 rfl ?_
          refine tr_aload_n (pc := 41) dX9_jumps_41 rfl (by decide) ?_
          refine tr_aload (pc := 42) dX9_jumps_42 rfl (by omega) ?_
          refine tr_cVi1 (pc := 44) dX9_jumps_44 mtX9_countJumps lv9_199 rfl sg0 kc9 ⟨(Nat.le_of_ble_eq_true rfl), (Nat.le_of_ble_eq_true rfl)⟩ nlX9_countJumps (Nat.le_of_ble_eq_true rfl) ⟨(Nat.le_of_ble_eq_true rfl), (Nat.le_of_ble_eq_true rfl)⟩ (sp_X9_countJumps hG hrs (by omega) hsel (ig_ne hsel (by omega))) (fun r44 M44 h44 => ?_)
          obtain ⟨hr44, hJ, f1⟩ := h44
          obtain rfl := hr44.symm
          replace f1 : fS M M44 := f1.mono (by omega) (by omega)
          refine tr_icmplt (pc := 47) (tgt := 54) dX9_jumps_47 (by decide) (fun c47 => ?_) (fun c47 => ?_)
          · skip
            have hjl := hJ.len
            have hj0 : 0 ≤ j := by omega
            have hj1 : j < M44 94 2 := by omega
            obtain ⟨gj, g1, g2⟩ := jr_seg_get _ 0 j hJ.1 hj0 hj1
            rw [Int.sub_zero] at gj
            have hgp : gp (jr_ga (hl_fc (csel i C)) 100 0 []) j = (M44 95 j, M44 96 j) := by unfold gp; rw [List.getD_eq_getElem?_getD, gj]; rfl
            refine tr_aload_n (pc := 54) dX9_jumps_54 rfl (by decide) ?_
            refine tr_getr (pc := 55) (x := 94) dX9_jumps_55 fi9_63 rfl sg0 rfl ?_
            refine tr_iload_n (pc := 58) dX9_jumps_58 rfl ?_
            refine tr_cVi1 (pc := 59) dX9_jumps_59 mtX4_above lv9_239 rfl sg94 kc4 ⟨(Nat.le_of_ble_eq_true rfl), (Nat.le_of_ble_eq_true rfl)⟩ nlX4_above (Nat.le_of_ble_eq_true rfl) ⟨(Nat.le_of_ble_eq_true rfl), (Nat.le_of_ble_eq_true rfl)⟩ (sp_X4_above hJ.2 hj0 hj1) (fun r59 M59 h59 => ?_)
            obtain ⟨hr59, hM59⟩ := h59
            obtain rfl := hr59.symm
            obtain rfl := hM59.symm
            refine tr_aload_n (pc := 62) dX9_jumps_62 rfl (by decide) ?_
            refine tr_getr (pc := 63) (x := 94) dX9_jumps_63 fi9_63 rfl sg0 rfl ?_
            refine tr_iload_n (pc := 66) dX9_jumps_66 rfl ?_
            refine tr_cVi1 (pc := 67) dX9_jumps_67 mtX4_below lv9_242 rfl sg94 kc4 ⟨(Nat.le_of_ble_eq_true rfl), (Nat.le_of_ble_eq_true rfl)⟩ nlX4_below (Nat.le_of_ble_eq_true rfl) ⟨(Nat.le_of_ble_eq_true rfl), (Nat.le_of_ble_eq_true rfl)⟩ (sp_X4_below hJ.2 hj0 hj1) (fun r67 M67 h67 => ?_)
            obtain ⟨hr67, hM67⟩ := h67
            obtain rfl := hr67.symm
            obtain rfl := hM67.symm
            refine tr_iload_n (pc := 70) dX9_jumps_70 rfl ?_
            refine tr_cSl3 (pc := 71) dX9_jumps_71 mtX9_lowest ls9_235 rfl ⟨(Nat.le_of_ble_eq_true rfl), (Nat.le_of_ble_eq_true rfl)⟩ nlX9_lowest (Nat.le_of_ble_eq_true rfl) ⟨(Nat.le_of_ble_eq_true rfl), (Nat.le_of_ble_eq_true rfl)⟩ (sp_X9_lowest (by omega) (by omega) (by omega) (by omega)) (fun r71 M71 h71 => ?_)
            obtain ⟨hr71, hM71⟩ := h71
            obtain rfl := hr71.symm
            obtain rfl := hM71.symm
            refine tr_lret (pc := 74) dX9_jumps_74 rfl ?_
            refine ⟨?_, by first | exact f1 | exact tk_fr.rf⟩
            unfold x_jumps
            try rw [hgp]
            repeat' split
            all_goals first | rfl | omega
          · skip
            refine tr_ldc2 (pc := 50) dX9_jumps_50 kn9_230 ⟨by decide, by decide⟩ ?_
            refine tr_lret (pc := 53) dX9_jumps_53 rfl ?_
            refine ⟨?_, by first | exact f1 | exact tk_fr.rf⟩
            unfold x_jumps
            try rw [hgp]
            repeat' split
            all_goals first | rfl | omega
    · skip
      refine tr_ldc2 (pc := 14) dX9_jumps_14 kn9_230 ⟨by decide, by decide⟩ ?_
      refine tr_lret (pc := 17) dX9_jumps_17 rfl ?_
      refine ⟨?_, by first | exact f1 | exact tk_fr.rf⟩
      unfold x_jumps
      try rw [hgp]
      repeat' split
      all_goals first | rfl | omega
def x_lacks (C : cC) (i num den : Int) : Int := if ¬ (0 ≤ i ∧ i ≤ 1) then -1 else if ¬ ((1 ≤ num ∧ num ≤ 99) ∧ (1 ≤ den ∧ den ≤ 99)) then -2 else if (csel i C).length = 0 then -3 else cbr (hl_fc (csel i C)) num den 100 0 0
theorem sp_X9_lacks {G : tk_G} {M : tk_M} {C : cC} {i num den : Int} (hG : gs_ok G) (hC : Cg M C) : Spi G FX9_lacks [xR 0, xI i, xI num, xI den] SF M (fun v M' => v = x_lacks C i num den ∧ fS M M') := by
  have hrs := rid_s i
  have hrr := rid_r i
  have hrq := hrs.2.1
  have hsel := hC.sel i
  have hln := hsel.len
  have hbd := hsel.bd
  refine Spi.of _ mtX9_lacks nlX9_lacks (Nat.le_of_ble_eq_true rfl) ?_
  show Ok G FX9_lacks 0 [xR 0, xI i, xI num, xI den, xU] [] SF M 0 0 _
  
  refine tr_iload_n (pc := 0) dX9_lacks_0 rfl ?_
  refine tr_cSi1 (pc := 1) dX9_lacks_1 mtX9_noIdeal ls9_77 rfl ⟨(Nat.le_of_ble_eq_true rfl), (Nat.le_of_ble_eq_true rfl)⟩ nlX9_noIdeal (Nat.le_of_ble_eq_true rfl) ⟨(Nat.le_of_ble_eq_true rfl), (Nat.le_of_ble_eq_true rfl)⟩ (sp_X9_noIdeal) (fun r1 M1 h1 => ?_)
  obtain ⟨hr1, hM1⟩ := h1
  obtain rfl := hr1.symm
  obtain rfl := hM1.symm
  refine tr_ifeq (pc := 4) (tgt := 9) dX9_lacks_4 (by decide) (fun c4 => ?_) (fun c4 => ?_)
  · skip
    refine tr_iload_n (pc := 9) dX9_lacks_9 rfl ?_
    refine tr_iload_n (pc := 10) dX9_lacks_10 rfl ?_
    refine tr_cSi2 (pc := 11) dX9_lacks_11 mtX9_badFraction ls9_217 rfl ⟨(Nat.le_of_ble_eq_true rfl), (Nat.le_of_ble_eq_true rfl)⟩ nlX9_badFraction (Nat.le_of_ble_eq_true rfl) ⟨(Nat.le_of_ble_eq_true rfl), (Nat.le_of_ble_eq_true rfl)⟩ (sp_X9_badFraction) (fun r11 M11 h11 => ?_)
    obtain ⟨hr11, hM11⟩ := h11
    obtain rfl := hr11.symm
    obtain rfl := hM11.symm
    refine tr_ifeq (pc := 14) (tgt := 20) dX9_lacks_14 (by decide) (fun c14 => ?_) (fun c14 => ?_)
    · skip
      refine tr_aload_n (pc := 20) dX9_lacks_20 rfl (by decide) ?_
      refine tr_getr (pc := 21) (x := 1) dX9_lacks_21 fi9_12 rfl sg0 rfl ?_
      refine tr_iload_n (pc := 24) dX9_lacks_24 rfl ?_
      refine tr_cVr1 (pc := 25) dX9_lacks_25 mtX8_ideal lv9_85 rfl sg1 kc8 ⟨(Nat.le_of_ble_eq_true rfl), (Nat.le_of_ble_eq_true rfl)⟩ nlX8_ideal (Nat.le_of_ble_eq_true rfl) ⟨(Nat.le_of_ble_eq_true rfl), (Nat.le_of_ble_eq_true rfl)⟩ (sp_now) (fun r25 M25 h25 => ?_)
      obtain ⟨hr25, hM25⟩ := h25
      obtain rfl := hr25.symm
      obtain rfl := hM25.symm
      refine tr_astore (pc := 28) dX9_lacks_28 rfl (Nat.le_of_ble_eq_true rfl) (by omega) ?_
      dsimp only [List.set]
      refine tr_aload (pc := 30) dX9_lacks_30 rfl (by omega) ?_
      refine tr_cVi0 (pc := 32) dX9_lacks_32 mtX3_size lv9_93 rfl hrq kc3 ⟨(Nat.le_of_ble_eq_true rfl), (Nat.le_of_ble_eq_true rfl)⟩ nlX3_size (Nat.le_of_ble_eq_true rfl) ⟨(Nat.le_of_ble_eq_true rfl), (Nat.le_of_ble_eq_true rfl)⟩ (sp_X3_size hrs) (fun r32 M32 h32 => ?_)
      obtain ⟨hr32, hM32⟩ := h32
      obtain rfl := hr32.symm
      obtain rfl := hM32.symm
      refine tr_ifne (pc := 35) (tgt := 41) dX9_lacks_35 (by decide) (fun c35 => ?_) (fun c35 => ?_)
      · skip
        refine tr_aload_n (pc := 41) dX9_lacks_41 rfl (by decide) ?_
        refine tr_aload (pc := 42) dX9_lacks_42 rfl (by omega) ?_
        refine tr_iload_n (pc := 44) dX9_lacks_44 rfl ?_
        refine tr_iload_n (pc := 45) dX9_lacks_45 rfl ?_
        refine tr_cVi3 (pc := 46) dX9_lacks_46 mtX9_countBarred lv9_245 rfl sg0 kc9 ⟨(Nat.le_of_ble_eq_true rfl), (Nat.le_of_ble_eq_true rfl)⟩ nlX9_countBarred (Nat.le_of_ble_eq_true rfl) ⟨(Nat.le_of_ble_eq_true rfl), (Nat.le_of_ble_eq_true rfl)⟩ (sp_X9_countBarred hG hrs (by omega) hsel (ig_ne hsel (by omega)) (by omega) (by omega)) (fun r46 M46 h46 => ?_)
        obtain ⟨hr46, f1⟩ := h46
        obtain rfl := hr46.symm
        replace f1 : fS M M46 := f1.mono (by omega) (by omega)
        refine tr_ireti (pc := 49) dX9_lacks_49 rfl ?_
        refine ⟨?_, by first | exact tk_fr.rf | exact f1⟩
        unfold x_lacks
        repeat' split
        all_goals first | rfl | omega
      · skip
        refine tr_bipush (pc := 38) dX9_lacks_38 ⟨by decide, ⟨by decide, by decide⟩⟩ ?_
        refine tr_ireti (pc := 40) dX9_lacks_40 rfl ?_
        refine ⟨?_, by first | exact tk_fr.rf | exact f1⟩
        unfold x_lacks
        repeat' split
        all_goals first | rfl | omega
    · skip
      refine tr_bipush (pc := 17) dX9_lacks_17 ⟨by decide, ⟨by decide, by decide⟩⟩ ?_
      refine tr_ireti (pc := 19) dX9_lacks_19 rfl ?_
      refine ⟨?_, by first | exact tk_fr.rf | exact f1⟩
      unfold x_lacks
      repeat' split
      all_goals first | rfl | omega
  · skip
    refine tr_iconst (pc := 7) dX9_lacks_7 ⟨by decide, by decide⟩ ?_
    refine tr_ireti (pc := 8) dX9_lacks_8 rfl ?_
    refine ⟨?_, by first | exact tk_fr.rf | exact f1⟩
    unfold x_lacks
    repeat' split
    all_goals first | rfl | omega
def x_odds (C : cC) (i num den p : Int) : Int := if ¬ (0 ≤ i ∧ i ≤ 1) ∨ ¬ ((1 ≤ num ∧ num ≤ 99) ∧ (1 ≤ den ∧ den ≤ 99)) ∨ ¬ (0 ≤ p ∧ p ≤ 1) then NOl else if (csel i C).length = 0 then NOl else lows (100 - cbr (hl_fc (csel i C)) num den 100 0 0) 100 p
theorem sp_X9_odds {G : tk_G} {M : tk_M} {C : cC} {i num den p : Int} (hG : gs_ok G) (hC : Cg M C) : Spl G FX9_odds [xR 0, xI i, xI num, xI den, xI p] SF M (fun v M' => v = x_odds C i num den p ∧ fS M M') := by
  have hrs := rid_s i
  have hrr := rid_r i
  have hrq := hrs.2.1
  have hsel := hC.sel i
  have hln := hsel.len
  have hbd := hsel.bd
  refine Spl.of _ mtX9_odds nlX9_odds (Nat.le_of_ble_eq_true rfl) ?_
  show Ok G FX9_odds 0 [xR 0, xI i, xI num, xI den, xI p, xU] [] SF M 0 0 _
  
  refine tr_iload_n (pc := 0) dX9_odds_0 rfl ?_
  refine tr_cSi1 (pc := 1) dX9_odds_1 mtX9_noIdeal ls9_77 rfl ⟨(Nat.le_of_ble_eq_true rfl), (Nat.le_of_ble_eq_true rfl)⟩ nlX9_noIdeal (Nat.le_of_ble_eq_true rfl) ⟨(Nat.le_of_ble_eq_true rfl), (Nat.le_of_ble_eq_true rfl)⟩ (sp_X9_noIdeal) (fun r1 M1 h1 => ?_)
  obtain ⟨hr1, hM1⟩ := h1
  obtain rfl := hr1.symm
  obtain rfl := hM1.symm
  refine tr_ifne (pc := 4) (tgt := 23) dX9_odds_4 (by decide) (fun c4 => ?_) (fun c4 => ?_)
  · skip
    refine tr_ldc2 (pc := 23) dX9_odds_23 kn9_230 ⟨by decide, by decide⟩ ?_
    refine tr_lret (pc := 26) dX9_odds_26 rfl ?_
    refine ⟨?_, by first | exact tk_fr.rf | exact f1⟩
    unfold x_odds
    repeat' split
    all_goals first | rfl | omega
  · skip
    refine tr_iload_n (pc := 7) dX9_odds_7 rfl ?_
    refine tr_iload_n (pc := 8) dX9_odds_8 rfl ?_
    refine tr_cSi2 (pc := 9) dX9_odds_9 mtX9_badFraction ls9_217 rfl ⟨(Nat.le_of_ble_eq_true rfl), (Nat.le_of_ble_eq_true rfl)⟩ nlX9_badFraction (Nat.le_of_ble_eq_true rfl) ⟨(Nat.le_of_ble_eq_true rfl), (Nat.le_of_ble_eq_true rfl)⟩ (sp_X9_badFraction) (fun r9 M9 h9 => ?_)
    obtain ⟨hr9, hM9⟩ := h9
    obtain rfl := hr9.symm
    obtain rfl := hM9.symm
    refine tr_ifne (pc := 12) (tgt := 23) dX9_odds_12 (by decide) (fun c12 => ?_) (fun c12 => ?_)
    · skip
      refine tr_ldc2 (pc := 23) dX9_odds_23 kn9_230 ⟨by decide, by decide⟩ ?_
      refine tr_lret (pc := 26) dX9_odds_26 rfl ?_
      refine ⟨?_, by first | exact tk_fr.rf | exact f1⟩
      unfold x_odds
      repeat' split
      all_goals first | rfl | omega
    · skip
      refine tr_iload (pc := 15) dX9_odds_15 rfl ?_
      refine tr_cSi1 (pc := 17) dX9_odds_17 mtX9_badPart ls9_227 rfl ⟨(Nat.le_of_ble_eq_true rfl), (Nat.le_of_ble_eq_true rfl)⟩ nlX9_badPart (Nat.le_of_ble_eq_true rfl) ⟨(Nat.le_of_ble_eq_true rfl), (Nat.le_of_ble_eq_true rfl)⟩ (sp_X9_badPart) (fun r17 M17 h17 => ?_)
      obtain ⟨hr17, hM17⟩ := h17
      obtain rfl := hr17.symm
      obtain rfl := hM17.symm
      refine tr_ifeq (pc := 20) (tgt := 27) dX9_odds_20 (by decide) (fun c20 => ?_) (fun c20 => ?_)
      · skip
        refine tr_aload_n (pc := 27) dX9_odds_27 rfl (by decide) ?_
        refine tr_getr (pc := 28) (x := 1) dX9_odds_28 fi9_12 rfl sg0 rfl ?_
        refine tr_iload_n (pc := 31) dX9_odds_31 rfl ?_
        refine tr_cVr1 (pc := 32) dX9_odds_32 mtX8_ideal lv9_85 rfl sg1 kc8 ⟨(Nat.le_of_ble_eq_true rfl), (Nat.le_of_ble_eq_true rfl)⟩ nlX8_ideal (Nat.le_of_ble_eq_true rfl) ⟨(Nat.le_of_ble_eq_true rfl), (Nat.le_of_ble_eq_true rfl)⟩ (sp_now) (fun r32 M32 h32 => ?_)
        obtain ⟨hr32, hM32⟩ := h32
        obtain rfl := hr32.symm
        obtain rfl := hM32.symm
        refine tr_astore (pc := 35) dX9_odds_35 rfl (Nat.le_of_ble_eq_true rfl) (by omega) ?_
        dsimp only [List.set]
        refine tr_aload (pc := 37) dX9_odds_37 rfl (by omega) ?_
        refine tr_cVi0 (pc := 39) dX9_odds_39 mtX3_size lv9_93 rfl hrq kc3 ⟨(Nat.le_of_ble_eq_true rfl), (Nat.le_of_ble_eq_true rfl)⟩ nlX3_size (Nat.le_of_ble_eq_true rfl) ⟨(Nat.le_of_ble_eq_true rfl), (Nat.le_of_ble_eq_true rfl)⟩ (sp_X3_size hrs) (fun r39 M39 h39 => ?_)
        obtain ⟨hr39, hM39⟩ := h39
        obtain rfl := hr39.symm
        obtain rfl := hM39.symm
        refine tr_ifne (pc := 42) (tgt := 49) dX9_odds_42 (by decide) (fun c42 => ?_) (fun c42 => ?_)
        · skip
          refine tr_bipush (pc := 49) dX9_odds_49 ⟨by decide, ⟨by decide, by decide⟩⟩ ?_
          refine tr_aload_n (pc := 51) dX9_odds_51 rfl (by decide) ?_
          refine tr_aload (pc := 52) dX9_odds_52 rfl (by omega) ?_
          refine tr_iload_n (pc := 54) dX9_odds_54 rfl ?_
          refine tr_iload_n (pc := 55) dX9_odds_55 rfl ?_
          refine tr_cVi3 (pc := 56) dX9_odds_56 mtX9_countBarred lv9_245 rfl sg0 kc9 ⟨(Nat.le_of_ble_eq_true rfl), (Nat.le_of_ble_eq_true rfl)⟩ nlX9_countBarred (Nat.le_of_ble_eq_true rfl) ⟨(Nat.le_of_ble_eq_true rfl), (Nat.le_of_ble_eq_true rfl)⟩ (sp_X9_countBarred hG hrs (by omega) hsel (ig_ne hsel (by omega)) (by omega) (by omega)) (fun r56 M56 h56 => ?_)
          obtain ⟨hr56, f1⟩ := h56
          obtain rfl := hr56.symm
          replace f1 : fS M M56 := f1.mono (by omega) (by omega)
          have hcb := cbr_bd (hl_fc (csel i C)) num den 100 0 0
          refine tr_isub (pc := 59) dX9_odds_59 ⟨by omega, by omega⟩ ?_
          refine tr_bipush (pc := 60) dX9_odds_60 ⟨by decide, ⟨by decide, by decide⟩⟩ ?_
          refine tr_iload (pc := 62) dX9_odds_62 rfl ?_
          refine tr_cSl3 (pc := 64) dX9_odds_64 mtX9_lowest ls9_235 rfl ⟨(Nat.le_of_ble_eq_true rfl), (Nat.le_of_ble_eq_true rfl)⟩ nlX9_lowest (Nat.le_of_ble_eq_true rfl) ⟨(Nat.le_of_ble_eq_true rfl), (Nat.le_of_ble_eq_true rfl)⟩ (sp_X9_lowest (by omega) (by omega) (by omega) (by omega)) (fun r64 M64 h64 => ?_)
          obtain ⟨hr64, hM64⟩ := h64
          obtain rfl := hr64.symm
          obtain rfl := hM64.symm
          refine tr_lret (pc := 67) dX9_odds_67 rfl ?_
          refine ⟨?_, by first | exact tk_fr.rf | exact f1⟩
          unfold x_odds
          repeat' split
          all_goals first | rfl | omega
        · skip
          refine tr_ldc2 (pc := 45) dX9_odds_45 kn9_230 ⟨by decide, by decide⟩ ?_
          refine tr_lret (pc := 48) dX9_odds_48 rfl ?_
          refine ⟨?_, by first | exact tk_fr.rf | exact f1⟩
          unfold x_odds
          repeat' split
          all_goals first | rfl | omega
      · skip
        refine tr_ldc2 (pc := 23) dX9_odds_23 kn9_230 ⟨by decide, by decide⟩ ?_
        refine tr_lret (pc := 26) dX9_odds_26 rfl ?_
        refine ⟨?_, by first | exact tk_fr.rf | exact f1⟩
        unfold x_odds
        repeat' split
        all_goals first | rfl | omega
theorem ig_sum_bd : ∀ (g : List (Int × Int)) (acc : Int), (∀ q ∈ g, 0 ≤ q.1 ∧ q.1 ≤ 9 ∧ 0 ≤ q.2 ∧ q.2 ≤ 9) → acc ≤ ig_sum acc g ∧ ig_sum acc g ≤ acc + 18 * g.length := by
  intro g
  induction g with
  | nil => intro acc _; unfold ig_sum; simp
  | cons q t ih =>
    intro acc hb
    obtain ⟨p, q⟩ := q
    have hq : 0 ≤ p ∧ p ≤ 9 ∧ 0 ≤ q ∧ q ≤ 9 := hb (p, q) List.mem_cons_self
    have := ih (acc + (p + q)) (fun z hz => hb z (List.mem_cons_of_mem _ hz))
    unfold ig_sum
    simp only [List.length_cons]; omega
def x_mean (C : cC) (i p : Int) : Int := if ¬ (0 ≤ i ∧ i ≤ 1) ∨ ¬ (0 ≤ p ∧ p ≤ 1) then NOl else if (csel i C).length = 0 then NOl else lows (ig_sum 0 (csel i C)) (csel i C).length p
theorem sp_X9_mean {G : tk_G} {M : tk_M} {C : cC} {i p : Int} (hG : gs_ok G) (hC : Cg M C) : Spl G FX9_mean [xR 0, xI i, xI p] SF M (fun v M' => v = x_mean C i p ∧ fS M M') := by
  have hrs := rid_s i
  have hrr := rid_r i
  have hrq := hrs.2.1
  have hsel := hC.sel i
  have hln := hsel.len
  have hbd := hsel.bd
  refine Spl.of _ mtX9_mean nlX9_mean (Nat.le_of_ble_eq_true rfl) ?_
  show Ok G FX9_mean 0 [xR 0, xI i, xI p, xU] [] SF M 0 0 _
  
  refine tr_iload_n (pc := 0) dX9_mean_0 rfl ?_
  refine tr_cSi1 (pc := 1) dX9_mean_1 mtX9_noIdeal ls9_77 rfl ⟨(Nat.le_of_ble_eq_true rfl), (Nat.le_of_ble_eq_true rfl)⟩ nlX9_noIdeal (Nat.le_of_ble_eq_true rfl) ⟨(Nat.le_of_ble_eq_true rfl), (Nat.le_of_ble_eq_true rfl)⟩ (sp_X9_noIdeal) (fun r1 M1 h1 => ?_)
  obtain ⟨hr1, hM1⟩ := h1
  obtain rfl := hr1.symm
  obtain rfl := hM1.symm
  refine tr_ifne (pc := 4) (tgt := 14) dX9_mean_4 (by decide) (fun c4 => ?_) (fun c4 => ?_)
  · skip
    refine tr_ldc2 (pc := 14) dX9_mean_14 kn9_230 ⟨by decide, by decide⟩ ?_
    refine tr_lret (pc := 17) dX9_mean_17 rfl ?_
    refine ⟨?_, tk_fr.rf⟩
    unfold x_mean
    repeat' split
    all_goals first | rfl | omega
  · skip
    refine tr_iload_n (pc := 7) dX9_mean_7 rfl ?_
    refine tr_cSi1 (pc := 8) dX9_mean_8 mtX9_badPart ls9_227 rfl ⟨(Nat.le_of_ble_eq_true rfl), (Nat.le_of_ble_eq_true rfl)⟩ nlX9_badPart (Nat.le_of_ble_eq_true rfl) ⟨(Nat.le_of_ble_eq_true rfl), (Nat.le_of_ble_eq_true rfl)⟩ (sp_X9_badPart) (fun r8 M8 h8 => ?_)
    obtain ⟨hr8, hM8⟩ := h8
    obtain rfl := hr8.symm
    obtain rfl := hM8.symm
    refine tr_ifeq (pc := 11) (tgt := 18) dX9_mean_11 (by decide) (fun c11 => ?_) (fun c11 => ?_)
    · skip
      refine tr_aload_n (pc := 18) dX9_mean_18 rfl (by decide) ?_
      refine tr_getr (pc := 19) (x := 1) dX9_mean_19 fi9_12 rfl sg0 rfl ?_
      refine tr_iload_n (pc := 22) dX9_mean_22 rfl ?_
      refine tr_cVr1 (pc := 23) dX9_mean_23 mtX8_ideal lv9_85 rfl sg1 kc8 ⟨(Nat.le_of_ble_eq_true rfl), (Nat.le_of_ble_eq_true rfl)⟩ nlX8_ideal (Nat.le_of_ble_eq_true rfl) ⟨(Nat.le_of_ble_eq_true rfl), (Nat.le_of_ble_eq_true rfl)⟩ (sp_now) (fun r23 M23 h23 => ?_)
      obtain ⟨hr23, hM23⟩ := h23
      obtain rfl := hr23.symm
      obtain rfl := hM23.symm
      refine tr_astore_n (pc := 26) dX9_mean_26 rfl (Nat.le_of_ble_eq_true rfl) (by omega) ?_
      dsimp only [List.set]
      refine tr_aload_n (pc := 27) dX9_mean_27 rfl (by omega) ?_
      refine tr_cVi0 (pc := 28) dX9_mean_28 mtX3_size lv9_93 rfl hrq kc3 ⟨(Nat.le_of_ble_eq_true rfl), (Nat.le_of_ble_eq_true rfl)⟩ nlX3_size (Nat.le_of_ble_eq_true rfl) ⟨(Nat.le_of_ble_eq_true rfl), (Nat.le_of_ble_eq_true rfl)⟩ (sp_X3_size hrs) (fun r28 M28 h28 => ?_)
      obtain ⟨hr28, hM28⟩ := h28
      obtain rfl := hr28.symm
      obtain rfl := hM28.symm
      refine tr_ifne (pc := 31) (tgt := 38) dX9_mean_31 (by decide) (fun c31 => ?_) (fun c31 => ?_)
      · skip
        refine tr_aload_n (pc := 38) dX9_mean_38 rfl (by omega) ?_
        refine tr_cVi0 (pc := 39) dX9_mean_39 mtX3_sumOfPowers lv9_286 rfl hrq kc3 ⟨(Nat.le_of_ble_eq_true rfl), (Nat.le_of_ble_eq_true rfl)⟩ nlX3_sumOfPowers (Nat.le_of_ble_eq_true rfl) ⟨(Nat.le_of_ble_eq_true rfl), (Nat.le_of_ble_eq_true rfl)⟩ (sp_X3_sumOfPowers hrs hsel) (fun r39 M39 h39 => ?_)
        obtain ⟨hr39, hM39⟩ := h39
        obtain rfl := hr39.symm
        obtain rfl := hM39.symm
        refine tr_aload_n (pc := 42) dX9_mean_42 rfl (by omega) ?_
        refine tr_cVi0 (pc := 43) dX9_mean_43 mtX3_size lv9_93 rfl hrq kc3 ⟨(Nat.le_of_ble_eq_true rfl), (Nat.le_of_ble_eq_true rfl)⟩ nlX3_size (Nat.le_of_ble_eq_true rfl) ⟨(Nat.le_of_ble_eq_true rfl), (Nat.le_of_ble_eq_true rfl)⟩ (sp_X3_size hrs) (fun r43 M43 h43 => ?_)
        rw [hln.1] at h43
        obtain ⟨hr43, hM43⟩ := h43
        obtain rfl := hr43.symm
        obtain rfl := hM43.symm
        have hsb := ig_sum_bd (csel i C) 0 hbd
        refine tr_iload_n (pc := 46) dX9_mean_46 rfl ?_
        refine tr_cSl3 (pc := 47) dX9_mean_47 mtX9_lowest ls9_235 rfl ⟨(Nat.le_of_ble_eq_true rfl), (Nat.le_of_ble_eq_true rfl)⟩ nlX9_lowest (Nat.le_of_ble_eq_true rfl) ⟨(Nat.le_of_ble_eq_true rfl), (Nat.le_of_ble_eq_true rfl)⟩ (sp_X9_lowest (by omega) (by omega) (by omega) (by omega)) (fun r47 M47 h47 => ?_)
        obtain ⟨hr47, hM47⟩ := h47
        obtain rfl := hr47.symm
        obtain rfl := hM47.symm
        refine tr_lret (pc := 50) dX9_mean_50 rfl ?_
        refine ⟨?_, tk_fr.rf⟩
        unfold x_mean
        repeat' split
        all_goals first | rfl | omega
      · skip
        refine tr_ldc2 (pc := 34) dX9_mean_34 kn9_230 ⟨by decide, by decide⟩ ?_
        refine tr_lret (pc := 37) dX9_mean_37 rfl ?_
        refine ⟨?_, tk_fr.rf⟩
        unfold x_mean
        repeat' split
        all_goals first | rfl | omega
    · skip
      refine tr_ldc2 (pc := 14) dX9_mean_14 kn9_230 ⟨by decide, by decide⟩ ?_
      refine tr_lret (pc := 17) dX9_mean_17 rfl ?_
      refine ⟨?_, tk_fr.rf⟩
      unfold x_mean
      repeat' split
      all_goals first | rfl | omega
