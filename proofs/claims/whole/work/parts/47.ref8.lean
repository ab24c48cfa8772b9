theorem NOl_r : tk_r64 NOl := ⟨by decide, by decide⟩
theorem cls1_01 (F : List (Int × Int × Int)) (g : List (Int × Int)) : ∀ (d : Nat) (t : Int), cls1 F g d t = 0 ∨ cls1 F g d t = 1 := by
  intro d
  induction d with
  | zero => intro t; exact Or.inr rfl
  | succ d ih => intro t; unfold cls1; split; exact Or.inl rfl; exact ih _
theorem sp_X10_asked {G : tk_G} {M : tk_M} {r w : Int} {g : List (Int × Int)} (hr : 0 ≤ r ∧ r ≤ 2) (hg : rg_at M r g) (hne : g ≠ []) (hnd : g.Nodup) : Spi G FX10_asked [xR 101, xI r, xI w] SF M (fun v M' => v = (if w = 3 then cls1 (hl_fc g) g 100 0 else if w = 2 then (hl_fc g).length else (jr_ga (hl_fc g) 100 0 []).length) ∧ fQ M M') := by
  refine Spi.of _ mtX10_asked nlX10_asked (Nat.le_of_ble_eq_true rfl) ?_
  show Ok G FX10_asked 0 [xR 101, xI r, xI w] [] SF M 0 0 _
  have h01 := cls1_01 (hl_fc g) g 100 0
  refine tr_iload_n (pc := 0) dX10_asked_0 rfl ?_
  refine tr_iconst (pc := 1) dX10_asked_1 ⟨by decide, by decide⟩ ?_
  refine tr_icmpne (pc := 2) (tgt := 19) dX10_asked_2 (by decide) (fun c2 => ?_) (fun c2 => ?_)
  · skip
    refine tr_aload_n (pc := 19) dX10_asked_19 rfl (by decide) ?_
    refine tr_iload_n (pc := 20) dX10_asked_20 rfl ?_
    refine tr_cVv1 (pc := 21) dX10_asked_21 mtX10_tellsFaces lv10_166 rfl sg101 kc10 ⟨(Nat.le_of_ble_eq_true rfl), (Nat.le_of_ble_eq_true rfl)⟩ nlX10_tellsFaces (Nat.le_of_ble_eq_true rfl) ⟨(Nat.le_of_ble_eq_true rfl), (Nat.le_of_ble_eq_true rfl)⟩ (sp_X10_tellsFaces hr hg hne hnd) (fun M21 h21 => ?_)
    obtain ⟨hF, f1⟩ := h21
    have hFl := hF.len
    have q1 := fQ.hf f1
    refine tr_iload_n (pc := 24) dX10_asked_24 rfl ?_
    refine tr_iconst (pc := 25) dX10_asked_25 ⟨by decide, by decide⟩ ?_
    refine tr_icmpne (pc := 26) (tgt := 34) dX10_asked_26 (by decide) (fun c26 => ?_) (fun c26 => ?_)
    · skip
      refine tr_aload_n (pc := 34) dX10_asked_34 rfl (by decide) ?_
      refine tr_cVv0 (pc := 35) dX10_asked_35 mtX10_tellsJumps lv10_254 rfl sg101 kc10 ⟨(Nat.le_of_ble_eq_true rfl), (Nat.le_of_ble_eq_true rfl)⟩ nlX10_tellsJumps (Nat.le_of_ble_eq_true rfl) ⟨(Nat.le_of_ble_eq_true rfl), (Nat.le_of_ble_eq_true rfl)⟩ (sp_X10_tellsJumps hF) (fun M35 h35 => ?_)
      obtain ⟨hJ, f2⟩ := h35
      have hJl := hJ.len
      rw [List.length_map] at hJl
      replace q1 := q1.trans (fQ.jf f2)
      refine tr_aload_n (pc := 38) dX10_asked_38 rfl (by decide) ?_
      refine tr_geti (pc := 39) (ji := 16) dX10_asked_39 fi10_257 rfl sg101 rfl ?_
      refine tr_ireti (pc := 42) dX10_asked_42 rfl ?_
      refine ⟨?_, q1⟩
      repeat' split
      all_goals omega
    · skip
      refine tr_aload_n (pc := 29) dX10_asked_29 rfl (by decide) ?_
      refine tr_geti (pc := 30) (ji := 12) dX10_asked_30 fi10_221 rfl sg101 rfl ?_
      refine tr_ireti (pc := 33) dX10_asked_33 rfl ?_
      refine ⟨?_, q1⟩
      repeat' split
      all_goals omega
  · skip
    refine tr_aload_n (pc := 5) dX10_asked_5 rfl (by decide) ?_
    refine tr_iload_n (pc := 6) dX10_asked_6 rfl ?_
    refine tr_cVi1 (pc := 7) dX10_asked_7 mtX10_isClosed lv10_251 rfl sg101 kc10 ⟨(Nat.le_of_ble_eq_true rfl), (Nat.le_of_ble_eq_true rfl)⟩ nlX10_isClosed (Nat.le_of_ble_eq_true rfl) ⟨(Nat.le_of_ble_eq_true rfl), (Nat.le_of_ble_eq_true rfl)⟩ (sp_X10_isClosed hr hg hne hnd) (fun r7 M7 h7 => ?_)
    obtain ⟨hr7, f1⟩ := h7
    obtain rfl := hr7.symm
    have q1 := fQ.hf f1
    refine tr_ifeq (pc := 10) (tgt := 17) dX10_asked_10 (by decide) (fun c10 => ?_) (fun c10 => ?_)
    · skip
      refine tr_iconst (pc := 17) dX10_asked_17 ⟨by decide, by decide⟩ ?_
      refine tr_ireti (pc := 18) dX10_asked_18 rfl ?_
      refine ⟨?_, q1⟩
      repeat' split
      all_goals omega
    · skip
      refine tr_iconst (pc := 13) dX10_asked_13 ⟨by decide, by decide⟩ ?_
      refine tr_goto (pc := 14) (tgt := 18) dX10_asked_14 (by decide) ?_
      refine tr_ireti (pc := 18) dX10_asked_18 rfl ?_
      refine ⟨?_, q1⟩
      repeat' split
      all_goals omega
theorem sp_X10_of {G : tk_G} {M : tk_M} {C : cC} {i k w : Int} (hC : Rg M C) : Spi G FX10_of [xR 101, xI i, xI k, xI w] SF M (fun v M' => v = x_of C i k w ∧ fQ M M') := by
  refine Spi.of _ mtX10_of nlX10_of (Nat.le_of_ble_eq_true rfl) ?_
  show Ok G FX10_of 0 [xR 101, xI i, xI k, xI w] [] SF M 0 0 _
  by_cases hi : (0 ≤ i ∧ i ≤ 1) ∧ (0 ≤ k ∧ k < (csel i C).length)
  · skip
    have hsel := hC.sel hi.1
    have hln := hsel.len
    have hgp := rg_gp hsel hi.2.1 (by omega)
    have h01 := ig_lst01 k (gp (csel i C) k).1 (gp (csel i C) k).2 (csel i C) 0
    refine tr_aload_n (pc := 0) dX10_of_0 rfl (by decide) ?_
    refine tr_iload_n (pc := 1) dX10_of_1 rfl ?_
    refine tr_iload_n (pc := 2) dX10_of_2 rfl ?_
    refine tr_cVi2 (pc := 3) dX10_of_3 mtX10_isGenerator lv10_155 rfl sg101 kc10 ⟨(Nat.le_of_ble_eq_true rfl), (Nat.le_of_ble_eq_true rfl)⟩ nlX10_isGenerator (Nat.le_of_ble_eq_true rfl) ⟨(Nat.le_of_ble_eq_true rfl), (Nat.le_of_ble_eq_true rfl)⟩ (sp_X10_isGenerator hC) (fun r3 M3 h3 => ?_)
    obtain ⟨hr3, hM3⟩ := h3
    obtain rfl := hr3.symm
    obtain rfl := hM3.symm
    refine tr_ifeq (pc := 6) (tgt := 21) dX10_of_6 (by decide) (fun c6 => absurd c6 (by omega)) (fun c6 => ?_)
    refine tr_iload_n (pc := 9) dX10_of_9 rfl ?_
    refine tr_i2l (pc := 10) dX10_of_10 ?_
    refine tr_lconst (pc := 11) (x := 0) dX10_of_11 (by decide) ⟨by decide, by decide⟩ ?_
    refine tr_ldc2 (pc := 12) dX10_of_12 kn10_241 ⟨by decide, by decide⟩ ?_
    refine tr_cSi3 (pc := 15) dX10_of_15 mtX10_isFrom ls10_115 rfl ⟨(Nat.le_of_ble_eq_true rfl), (Nat.le_of_ble_eq_true rfl)⟩ nlX10_isFrom (Nat.le_of_ble_eq_true rfl) ⟨(Nat.le_of_ble_eq_true rfl), (Nat.le_of_ble_eq_true rfl)⟩ (sp_X10_isFrom) (fun r15 M15 h15 => ?_)
    obtain ⟨hr15, hM15⟩ := h15
    obtain rfl := hr15.symm
    obtain rfl := hM15.symm
    refine tr_ifne (pc := 18) (tgt := 23) dX10_of_18 (by decide) (fun c18 => ?_) (fun c18 => ?_)
    · skip
      refine tr_iload_n (pc := 23) dX10_of_23 rfl ?_
      refine tr_ifne (pc := 24) (tgt := 36) dX10_of_24 (by decide) (fun c24 => ?_) (fun c24 => ?_)
      · skip
        refine tr_iload_n (pc := 36) dX10_of_36 rfl ?_
        refine tr_iconst (pc := 37) dX10_of_37 ⟨by decide, by decide⟩ ?_
        refine tr_icmpne (pc := 38) (tgt := 50) dX10_of_38 (by decide) (fun c38 => ?_) (fun c38 => ?_)
        · skip
          refine tr_aload_n (pc := 50) dX10_of_50 rfl (by decide) ?_
          refine tr_iload_n (pc := 51) dX10_of_51 rfl ?_
          refine tr_iload_n (pc := 52) dX10_of_52 rfl ?_
          refine tr_cVi2 (pc := 53) dX10_of_53 mtX10_isLeast lv10_238 rfl sg101 kc10 ⟨(Nat.le_of_ble_eq_true rfl), (Nat.le_of_ble_eq_true rfl)⟩ nlX10_isLeast (Nat.le_of_ble_eq_true rfl) ⟨(Nat.le_of_ble_eq_true rfl), (Nat.le_of_ble_eq_true rfl)⟩ (sp_X10_isLeast (by omega) hsel hi.2.1 (by omega) hgp.1 hgp.2) (fun r53 M53 h53 => ?_)
          obtain ⟨hr53, hM53⟩ := h53
          obtain rfl := hr53.symm
          obtain rfl := hM53.symm
          refine tr_ifeq (pc := 56) (tgt := 63) dX10_of_56 (by decide) (fun c56 => ?_) (fun c56 => ?_)
          · skip
            refine tr_iconst (pc := 63) dX10_of_63 ⟨by decide, by decide⟩ ?_
            refine tr_ireti (pc := 64) dX10_of_64 rfl ?_
            refine ⟨?_, fQ.rf⟩
            unfold x_of
            repeat' split
            all_goals first | rfl | omega
          · skip
            refine tr_iconst (pc := 59) dX10_of_59 ⟨by decide, by decide⟩ ?_
            refine tr_goto (pc := 60) (tgt := 64) dX10_of_60 (by decide) ?_
            refine tr_ireti (pc := 64) dX10_of_64 rfl ?_
            refine ⟨?_, fQ.rf⟩
            unfold x_of
            repeat' split
            all_goals first | rfl | omega
        · skip
          refine tr_aload_n (pc := 41) dX10_of_41 rfl (by decide) ?_
          refine tr_iload_n (pc := 42) dX10_of_42 rfl ?_
          refine tr_iload_n (pc := 43) dX10_of_43 rfl ?_
          refine tr_cVi2 (pc := 44) dX10_of_44 mtX10_b lv10_129 rfl sg101 kc10 ⟨(Nat.le_of_ble_eq_true rfl), (Nat.le_of_ble_eq_true rfl)⟩ nlX10_b (Nat.le_of_ble_eq_true rfl) ⟨(Nat.le_of_ble_eq_true rfl), (Nat.le_of_ble_eq_true rfl)⟩ (sp_rb (by omega) hi.2.1 (by omega) hgp.2) (fun r44 M44 h44 => ?_)
          obtain ⟨hr44, hM44⟩ := h44
          obtain rfl := hr44.symm
          obtain rfl := hM44.symm
          refine tr_goto (pc := 47) (tgt := 64) dX10_of_47 (by decide) ?_
          refine tr_ireti (pc := 64) dX10_of_64 rfl ?_
          refine ⟨?_, fQ.rf⟩
          unfold x_of
          repeat' split
          all_goals first | rfl | omega
      · skip
        refine tr_aload_n (pc := 27) dX10_of_27 rfl (by decide) ?_
        refine tr_iload_n (pc := 28) dX10_of_28 rfl ?_
        refine tr_iload_n (pc := 29) dX10_of_29 rfl ?_
        refine tr_cVi2 (pc := 30) dX10_of_30 mtX10_a lv10_125 rfl sg101 kc10 ⟨(Nat.le_of_ble_eq_true rfl), (Nat.le_of_ble_eq_true rfl)⟩ nlX10_a (Nat.le_of_ble_eq_true rfl) ⟨(Nat.le_of_ble_eq_true rfl), (Nat.le_of_ble_eq_true rfl)⟩ (sp_ra (by omega) hi.2.1 (by omega) hgp.1) (fun r30 M30 h30 => ?_)
        obtain ⟨hr30, hM30⟩ := h30
        obtain rfl := hr30.symm
        obtain rfl := hM30.symm
        refine tr_goto (pc := 33) (tgt := 64) dX10_of_33 (by decide) ?_
        refine tr_ireti (pc := 64) dX10_of_64 rfl ?_
        refine ⟨?_, fQ.rf⟩
        unfold x_of
        repeat' split
        all_goals first | rfl | omega
    · skip
      refine tr_iconst (pc := 21) dX10_of_21 ⟨by decide, by decide⟩ ?_
      refine tr_ireti (pc := 22) dX10_of_22 rfl ?_
      refine ⟨?_, fQ.rf⟩
      unfold x_of
      repeat' split
      all_goals first | rfl | omega
  · skip
    refine tr_aload_n (pc := 0) dX10_of_0 rfl (by decide) ?_
    refine tr_iload_n (pc := 1) dX10_of_1 rfl ?_
    refine tr_iload_n (pc := 2) dX10_of_2 rfl ?_
    refine tr_cVi2 (pc := 3) dX10_of_3 mtX10_isGenerator lv10_155 rfl sg101 kc10 ⟨(Nat.le_of_ble_eq_true rfl), (Nat.le_of_ble_eq_true rfl)⟩ nlX10_isGenerator (Nat.le_of_ble_eq_true rfl) ⟨(Nat.le_of_ble_eq_true rfl), (Nat.le_of_ble_eq_true rfl)⟩ (sp_X10_isGenerator hC) (fun r3 M3 h3 => ?_)
    obtain ⟨hr3, hM3⟩ := h3
    obtain rfl := hr3.symm
    obtain rfl := hM3.symm
    refine tr_ifeq (pc := 6) (tgt := 21) dX10_of_6 (by decide) (fun c6 => ?_) (fun c6 => absurd c6 (by omega))
    refine tr_iconst (pc := 21) dX10_of_21 ⟨by decide, by decide⟩ ?_
    refine tr_ireti (pc := 22) dX10_of_22 rfl ?_
    refine ⟨?_, fQ.rf⟩
    unfold x_of
    rw [if_pos (Or.inl hi)]
theorem sp_X10_told {G : tk_G} {M : tk_M} {C : cC} {i w : Int} (hC : Rg M C) (hnd : cnd C) : Spi G FX10_told [xR 101, xI i, xI w] SF M (fun v M' => v = x_told C i w ∧ fQ M M') := by
  refine Spi.of _ mtX10_told nlX10_told (Nat.le_of_ble_eq_true rfl) ?_
  show Ok G FX10_told 0 [xR 101, xI i, xI w] [] SF M 0 0 _
  by_cases hi : 0 ≤ i ∧ i ≤ 1
  · skip
    have hsel := hC.sel hi
    have hln := hsel.len
    refine tr_iload_n (pc := 0) dX10_told_0 rfl ?_
    refine tr_cSi1 (pc := 1) dX10_told_1 mtX10_isIdeal ls10_136 rfl ⟨(Nat.le_of_ble_eq_true rfl), (Nat.le_of_ble_eq_true rfl)⟩ nlX10_isIdeal (Nat.le_of_ble_eq_true rfl) ⟨(Nat.le_of_ble_eq_true rfl), (Nat.le_of_ble_eq_true rfl)⟩ (sp_X10_isIdeal) (fun r1 M1 h1 => ?_)
    obtain ⟨hr1, hM1⟩ := h1
    obtain rfl := hr1.symm
    obtain rfl := hM1.symm
    refine tr_ifeq (pc := 4) (tgt := 19) dX10_told_4 (by decide) (fun c4 => absurd c4 (by omega)) (fun c4 => ?_)
    refine tr_iload_n (pc := 7) dX10_told_7 rfl ?_
    refine tr_i2l (pc := 8) dX10_told_8 ?_
    refine tr_lconst (pc := 9) (x := 0) dX10_told_9 (by decide) ⟨by decide, by decide⟩ ?_
    refine tr_ldc2 (pc := 10) dX10_told_10 kn10_243 ⟨by decide, by decide⟩ ?_
    refine tr_cSi3 (pc := 13) dX10_told_13 mtX10_isFrom ls10_115 rfl ⟨(Nat.le_of_ble_eq_true rfl), (Nat.le_of_ble_eq_true rfl)⟩ nlX10_isFrom (Nat.le_of_ble_eq_true rfl) ⟨(Nat.le_of_ble_eq_true rfl), (Nat.le_of_ble_eq_true rfl)⟩ (sp_X10_isFrom) (fun r13 M13 h13 => ?_)
    obtain ⟨hr13, hM13⟩ := h13
    obtain rfl := hr13.symm
    obtain rfl := hM13.symm
    refine tr_ifne (pc := 16) (tgt := 21) dX10_told_16 (by decide) (fun c16 => ?_) (fun c16 => ?_)
    · skip
      refine tr_iload_n (pc := 21) dX10_told_21 rfl ?_
      refine tr_iconst (pc := 22) dX10_told_22 ⟨by decide, by decide⟩ ?_
      refine tr_icmpge (pc := 23) (tgt := 45) dX10_told_23 (by decide) (fun c23 => ?_) (fun c23 => ?_)
      · skip
        refine tr_aload_n (pc := 45) dX10_told_45 rfl (by decide) ?_
        refine tr_getr (pc := 46) (x := 102) dX10_told_46 fi10_11 rfl sg101 rfl ?_
        refine tr_iload_n (pc := 49) dX10_told_49 rfl ?_
        refine tr_iald (pc := 50) dX10_told_50 sg102 (by omega) (by omega) ?_
        refine tr_ifne (pc := 51) (tgt := 57) dX10_told_51 (by decide) (fun c51 => ?_) (fun c51 => ?_)
        · skip
          refine tr_aload_n (pc := 57) dX10_told_57 rfl (by decide) ?_
          refine tr_iload_n (pc := 58) dX10_told_58 rfl ?_
          refine tr_iload_n (pc := 59) dX10_told_59 rfl ?_
          refine tr_cVi2 (pc := 60) dX10_told_60 mtX10_asked lv10_248 rfl sg101 kc10 ⟨(Nat.le_of_ble_eq_true rfl), (Nat.le_of_ble_eq_true rfl)⟩ nlX10_asked (Nat.le_of_ble_eq_true rfl) ⟨(Nat.le_of_ble_eq_true rfl), (Nat.le_of_ble_eq_true rfl)⟩ (sp_X10_asked (by omega) hsel (rg_ne hsel (by omega)) (hnd.sel i)) (fun r60 M60 h60 => ?_)
          obtain ⟨hr60, q1⟩ := h60
          obtain rfl := hr60.symm
          refine tr_ireti (pc := 63) dX10_told_63 rfl ?_
          refine ⟨?_, by first | exact fQ.rf | exact q1⟩
          unfold x_told
          repeat' split
          all_goals first | rfl | omega
        · skip
          refine tr_bipush (pc := 54) dX10_told_54 ⟨by decide, ⟨by decide, by decide⟩⟩ ?_
          refine tr_ireti (pc := 56) dX10_told_56 rfl ?_
          refine ⟨?_, by first | exact fQ.rf | exact q1⟩
          unfold x_told
          repeat' split
          all_goals first | rfl | omega
      · skip
        refine tr_iload_n (pc := 26) dX10_told_26 rfl ?_
        refine tr_ifne (pc := 27) (tgt := 39) dX10_told_27 (by decide) (fun c27 => ?_) (fun c27 => ?_)
        · skip
          refine tr_aload_n (pc := 39) dX10_told_39 rfl (by decide) ?_
          refine tr_iload_n (pc := 40) dX10_told_40 rfl ?_
          refine tr_cVi1 (pc := 41) dX10_told_41 mtX10_leastMany lv10_245 rfl sg101 kc10 ⟨(Nat.le_of_ble_eq_true rfl), (Nat.le_of_ble_eq_true rfl)⟩ nlX10_leastMany (Nat.le_of_ble_eq_true rfl) ⟨(Nat.le_of_ble_eq_true rfl), (Nat.le_of_ble_eq_true rfl)⟩ (sp_X10_leastMany (by omega) hsel) (fun r41 M41 h41 => ?_)
          obtain ⟨hr41, hM41⟩ := h41
          obtain rfl := hr41.symm
          obtain rfl := hM41.symm
          refine tr_ireti (pc := 44) dX10_told_44 rfl ?_
          refine ⟨?_, by first | exact fQ.rf | exact q1⟩
          unfold x_told
          repeat' split
          all_goals first | rfl | omega
        · skip
          refine tr_aload_n (pc := 30) dX10_told_30 rfl (by decide) ?_
          refine tr_getr (pc := 31) (x := 102) dX10_told_31 fi10_11 rfl sg101 rfl ?_
          refine tr_iload_n (pc := 34) dX10_told_34 rfl ?_
          refine tr_iald (pc := 35) dX10_told_35 sg102 (by omega) (by omega) ?_
          refine tr_goto (pc := 36) (tgt := 44) dX10_told_36 (by decide) ?_
          refine tr_ireti (pc := 44) dX10_told_44 rfl ?_
          refine ⟨?_, by first | exact fQ.rf | exact q1⟩
          unfold x_told
          repeat' split
          all_goals first | rfl | omega
    · skip
      refine tr_iconst (pc := 19) dX10_told_19 ⟨by decide, by decide⟩ ?_
      refine tr_ireti (pc := 20) dX10_told_20 rfl ?_
      refine ⟨?_, by first | exact fQ.rf | exact q1⟩
      unfold x_told
      repeat' split
      all_goals first | rfl | omega
  · skip
    refine tr_iload_n (pc := 0) dX10_told_0 rfl ?_
    refine tr_cSi1 (pc := 1) dX10_told_1 mtX10_isIdeal ls10_136 rfl ⟨(Nat.le_of_ble_eq_true rfl), (Nat.le_of_ble_eq_true rfl)⟩ nlX10_isIdeal (Nat.le_of_ble_eq_true rfl) ⟨(Nat.le_of_ble_eq_true rfl), (Nat.le_of_ble_eq_true rfl)⟩ (sp_X10_isIdeal) (fun r1 M1 h1 => ?_)
    obtain ⟨hr1, hM1⟩ := h1
    obtain rfl := hr1.symm
    obtain rfl := hM1.symm
    refine tr_ifeq (pc := 4) (tgt := 19) dX10_told_4 (by decide) (fun c4 => ?_) (fun c4 => absurd c4 (by omega))
    refine tr_iconst (pc := 19) dX10_told_19 ⟨by decide, by decide⟩ ?_
    refine tr_ireti (pc := 20) dX10_told_20 rfl ?_
    refine ⟨?_, fQ.rf⟩
    unfold x_told
    rw [if_pos (Or.inl hi)]
theorem sp_X10_in {G : tk_G} {M : tk_M} {C : cC} {i a b w : Int} (hC : Rg M C) (hnd : cnd C) : Spi G FX10_in [xR 101, xI i, xI a, xI b, xI w] SF M (fun v M' => v = x_in C i a b w ∧ fQ M M') := by
  refine Spi.of _ mtX10_in nlX10_in (Nat.le_of_ble_eq_true rfl) ?_
  show Ok G FX10_in 0 [xR 101, xI i, xI a, xI b, xI w] [] SF M 0 0 _
  by_cases hi : 0 ≤ i ∧ i ≤ 1
  · skip
    have hsel := hC.sel hi
    have hln := hsel.len
    have h01 := ig_in01 a b (csel i C)
    have h02 := hl_cov01 a b (hl_fc (csel i C))
    refine tr_iload_n (pc := 0) dX10_in_0 rfl ?_
    refine tr_cSi1 (pc := 1) dX10_in_1 mtX10_isIdeal ls10_136 rfl ⟨(Nat.le_of_ble_eq_true rfl), (Nat.le_of_ble_eq_true rfl)⟩ nlX10_isIdeal (Nat.le_of_ble_eq_true rfl) ⟨(Nat.le_of_ble_eq_true rfl), (Nat.le_of_ble_eq_true rfl)⟩ (sp_X10_isIdeal) (fun r1 M1 h1 => ?_)
    obtain ⟨hr1, hM1⟩ := h1
    obtain rfl := hr1.symm
    obtain rfl := hM1.symm
    refine tr_ifeq (pc := 4) (tgt := 18) dX10_in_4 (by decide) (fun c4 => absurd c4 (by omega)) (fun c4 => ?_)
    refine tr_iload (pc := 7) dX10_in_7 rfl ?_
    refine tr_i2l (pc := 9) dX10_in_9 ?_
    refine tr_lconst (pc := 10) (x := 0) dX10_in_10 (by decide) ⟨by decide, by decide⟩ ?_
    refine tr_lconst (pc := 11) (x := 1) dX10_in_11 (by decide) ⟨by decide, by decide⟩ ?_
    refine tr_cSi3 (pc := 12) dX10_in_12 mtX10_isFrom ls10_115 rfl ⟨(Nat.le_of_ble_eq_true rfl), (Nat.le_of_ble_eq_true rfl)⟩ nlX10_isFrom (Nat.le_of_ble_eq_true rfl) ⟨(Nat.le_of_ble_eq_true rfl), (Nat.le_of_ble_eq_true rfl)⟩ (sp_X10_isFrom) (fun r12 M12 h12 => ?_)
    obtain ⟨hr12, hM12⟩ := h12
    obtain rfl := hr12.symm
    obtain rfl := hM12.symm
    refine tr_ifne (pc := 15) (tgt := 20) dX10_in_15 (by decide) (fun c15 => ?_) (fun c15 => ?_)
    · skip
      refine tr_iload_n (pc := 20) dX10_in_20 rfl ?_
      refine tr_cSi1 (pc := 21) dX10_in_21 mtX10_isPower ls10_140 rfl ⟨(Nat.le_of_ble_eq_true rfl), (Nat.le_of_ble_eq_true rfl)⟩ nlX10_isPower (Nat.le_of_ble_eq_true rfl) ⟨(Nat.le_of_ble_eq_true rfl), (Nat.le_of_ble_eq_true rfl)⟩ (sp_X10_isPower) (fun r21 M21 h21 => ?_)
      obtain ⟨hr21, hM21⟩ := h21
      obtain rfl := hr21.symm
      obtain rfl := hM21.symm
      refine tr_ifeq (pc := 24) (tgt := 34) dX10_in_24 (by decide) (fun c24 => ?_) (fun c24 => ?_)
      · skip
        refine tr_bipush (pc := 34) dX10_in_34 ⟨by decide, ⟨by decide, by decide⟩⟩ ?_
        refine tr_ireti (pc := 36) dX10_in_36 rfl ?_
        refine ⟨?_, by first | exact fQ.rf | exact q1⟩
        unfold x_in
        repeat' split
        all_goals first | rfl | omega
      · skip
        refine tr_iload_n (pc := 27) dX10_in_27 rfl ?_
        refine tr_cSi1 (pc := 28) dX10_in_28 mtX10_isPower ls10_140 rfl ⟨(Nat.le_of_ble_eq_true rfl), (Nat.le_of_ble_eq_true rfl)⟩ nlX10_isPower (Nat.le_of_ble_eq_true rfl) ⟨(Nat.le_of_ble_eq_true rfl), (Nat.le_of_ble_eq_true rfl)⟩ (sp_X10_isPower) (fun r28 M28 h28 => ?_)
        obtain ⟨hr28, hM28⟩ := h28
        obtain rfl := hr28.symm
        obtain rfl := hM28.symm
        refine tr_ifne (pc := 31) (tgt := 37) dX10_in_31 (by decide) (fun c31 => ?_) (fun c31 => ?_)
        · skip
          refine tr_iload (pc := 37) dX10_in_37 rfl ?_
          refine tr_ifne (pc := 39) (tgt := 58) dX10_in_39 (by decide) (fun c39 => ?_) (fun c39 => ?_)
          · skip
            refine tr_aload_n (pc := 58) dX10_in_58 rfl (by decide) ?_
            refine tr_getr (pc := 59) (x := 102) dX10_in_59 fi10_11 rfl sg101 rfl ?_
            refine tr_iload_n (pc := 62) dX10_in_62 rfl ?_
            refine tr_iald (pc := 63) dX10_in_63 sg102 (by omega) (by omega) ?_
            refine tr_ifne (pc := 64) (tgt := 70) dX10_in_64 (by decide) (fun c64 => ?_) (fun c64 => ?_)
            · skip
              refine tr_aload_n (pc := 70) dX10_in_70 rfl (by decide) ?_
              refine tr_iload_n (pc := 71) dX10_in_71 rfl ?_
              refine tr_cVv1 (pc := 72) dX10_in_72 mtX10_tellsFaces lv10_166 rfl sg101 kc10 ⟨(Nat.le_of_ble_eq_true rfl), (Nat.le_of_ble_eq_true rfl)⟩ nlX10_tellsFaces (Nat.le_of_ble_eq_true rfl) ⟨(Nat.le_of_ble_eq_true rfl), (Nat.le_of_ble_eq_true rfl)⟩ (sp_X10_tellsFaces (by omega) hsel (rg_ne hsel (by omega)) (hnd.sel i)) (fun M72 h72 => ?_)
              obtain ⟨hF, f1⟩ := h72
              have q1 := fQ.hf f1
              refine tr_aload_n (pc := 75) dX10_in_75 rfl (by decide) ?_
              refine tr_iload_n (pc := 76) dX10_in_76 rfl ?_
              refine tr_iload_n (pc := 77) dX10_in_77 rfl ?_
              refine tr_cVi2 (pc := 78) dX10_in_78 mtX10_isInHull lv10_163 rfl sg101 kc10 ⟨(Nat.le_of_ble_eq_true rfl), (Nat.le_of_ble_eq_true rfl)⟩ nlX10_isInHull (Nat.le_of_ble_eq_true rfl) ⟨(Nat.le_of_ble_eq_true rfl), (Nat.le_of_ble_eq_true rfl)⟩ (sp_X10_isInHull hF (by omega) (by omega)) (fun r78 M78 h78 => ?_)
              obtain ⟨hr78, hM78⟩ := h78
              obtain rfl := hr78.symm
              obtain rfl := hM78.symm
              refine tr_ifeq (pc := 81) (tgt := 88) dX10_in_81 (by decide) (fun c81 => ?_) (fun c81 => ?_)
              · skip
                refine tr_iconst (pc := 88) dX10_in_88 ⟨by decide, by decide⟩ ?_
                refine tr_ireti (pc := 89) dX10_in_89 rfl ?_
                refine ⟨?_, by first | exact fQ.rf | exact q1⟩
                unfold x_in
                repeat' split
                all_goals first | rfl | omega
              · skip
                refine tr_iconst (pc := 84) dX10_in_84 ⟨by decide, by decide⟩ ?_
                refine tr_goto (pc := 85) (tgt := 89) dX10_in_85 (by decide) ?_
                refine tr_ireti (pc := 89) dX10_in_89 rfl ?_
                refine ⟨?_, by first | exact fQ.rf | exact q1⟩
                unfold x_in
                repeat' split
                all_goals first | rfl | omega
            · skip
              refine tr_bipush (pc := 67) dX10_in_67 ⟨by decide, ⟨by decide, by decide⟩⟩ ?_
              refine tr_ireti (pc := 69) dX10_in_69 rfl ?_
              refine ⟨?_, by first | exact fQ.rf | exact q1⟩
              unfold x_in
              repeat' split
              all_goals first | rfl | omega
          · skip
            refine tr_aload_n (pc := 42) dX10_in_42 rfl (by decide) ?_
            refine tr_iload_n (pc := 43) dX10_in_43 rfl ?_
            refine tr_iload_n (pc := 44) dX10_in_44 rfl ?_
            refine tr_iload_n (pc := 45) dX10_in_45 rfl ?_
            refine tr_cVi3 (pc := 46) dX10_in_46 mtX10_isWithin lv10_234 rfl sg101 kc10 ⟨(Nat.le_of_ble_eq_true rfl), (Nat.le_of_ble_eq_true rfl)⟩ nlX10_isWithin (Nat.le_of_ble_eq_true rfl) ⟨(Nat.le_of_ble_eq_true rfl), (Nat.le_of_ble_eq_true rfl)⟩ (sp_X10_isWithin (by omega) hsel) (fun r46 M46 h46 => ?_)
            obtain ⟨hr46, hM46⟩ := h46
            obtain rfl := hr46.symm
            obtain rfl := hM46.symm
            refine tr_ifeq (pc := 49) (tgt := 56) dX10_in_49 (by decide) (fun c49 => ?_) (fun c49 => ?_)
            · skip
              refine tr_iconst (pc := 56) dX10_in_56 ⟨by decide, by decide⟩ ?_
              refine tr_ireti (pc := 57) dX10_in_57 rfl ?_
              refine ⟨?_, by first | exact fQ.rf | exact q1⟩
              unfold x_in
              repeat' split
              all_goals first | rfl | omega
            · skip
              refine tr_iconst (pc := 52) dX10_in_52 ⟨by decide, by decide⟩ ?_
              refine tr_goto (pc := 53) (tgt := 57) dX10_in_53 (by decide) ?_
              refine tr_ireti (pc := 57) dX10_in_57 rfl ?_
              refine ⟨?_, by first | exact fQ.rf | exact q1⟩
              unfold x_in
              repeat' split
              all_goals first | rfl | omega
        · skip
          refine tr_bipush (pc := 34) dX10_in_34 ⟨by decide, ⟨by decide, by decide⟩⟩ ?_
          refine tr_ireti (pc := 36) dX10_in_36 rfl ?_
          refine ⟨?_, by first | exact fQ.rf | exact q1⟩
          unfold x_in
          repeat' split
          all_goals first | rfl | omega
    · skip
      refine tr_iconst (pc := 18) dX10_in_18 ⟨by decide, by decide⟩ ?_
      refine tr_ireti (pc := 19) dX10_in_19 rfl ?_
      refine ⟨?_, by first | exact fQ.rf | exact q1⟩
      unfold x_in
      repeat' split
      all_goals first | rfl | omega
  · skip
    refine tr_iload_n (pc := 0) dX10_in_0 rfl ?_
    refine tr_cSi1 (pc := 1) dX10_in_1 mtX10_isIdeal ls10_136 rfl ⟨(Nat.le_of_ble_eq_true rfl), (Nat.le_of_ble_eq_true rfl)⟩ nlX10_isIdeal (Nat.le_of_ble_eq_true rfl) ⟨(Nat.le_of_ble_eq_true rfl), (Nat.le_of_ble_eq_true rfl)⟩ (sp_X10_isIdeal) (fun r1 M1 h1 => ?_)
    obtain ⟨hr1, hM1⟩ := h1
    obtain rfl := hr1.symm
    obtain rfl := hM1.symm
    refine tr_ifeq (pc := 4) (tgt := 18) dX10_in_4 (by decide) (fun c4 => ?_) (fun c4 => absurd c4 (by omega))
    refine tr_iconst (pc := 18) dX10_in_18 ⟨by decide, by decide⟩ ?_
    refine tr_ireti (pc := 19) dX10_in_19 rfl ?_
    refine ⟨?_, fQ.rf⟩
    unfold x_in
    rw [if_pos (Or.inl hi)]
theorem sp_X10_face {G : tk_G} {M : tk_M} {C : cC} {i j w : Int} (hC : Rg M C) (hnd : cnd C) : Spi G FX10_face [xR 101, xI i, xI j, xI w] SF M (fun v M' => v = x_face C i j w ∧ fQ M M') := by
  refine Spi.of _ mtX10_face nlX10_face (Nat.le_of_ble_eq_true rfl) ?_
  show Ok G FX10_face 0 [xR 101, xI i, xI j, xI w] [] SF M 0 0 _
  by_cases hi : 0 ≤ i ∧ i ≤ 1
  · skip
    have hsel := hC.sel hi
    have hln := hsel.len
    refine tr_iload_n (pc := 0) dX10_face_0 rfl ?_
    refine tr_cSi1 (pc := 1) dX10_face_1 mtX10_isIdeal ls10_136 rfl ⟨(Nat.le_of_ble_eq_true rfl), (Nat.le_of_ble_eq_true rfl)⟩ nlX10_isIdeal (Nat.le_of_ble_eq_true rfl) ⟨(Nat.le_of_ble_eq_true rfl), (Nat.le_of_ble_eq_true rfl)⟩ (sp_X10_isIdeal) (fun r1 M1 h1 => ?_)
    obtain ⟨hr1, hM1⟩ := h1
    obtain rfl := hr1.symm
    obtain rfl := hM1.symm
    refine tr_ifne (pc := 4) (tgt := 9) dX10_face_4 (by decide) (fun c4 => ?_) (fun c4 => absurd c4 (by omega))
    refine tr_aload_n (pc := 9) dX10_face_9 rfl (by decide) ?_
    refine tr_getr (pc := 10) (x := 102) dX10_face_10 fi10_11 rfl sg101 rfl ?_
    refine tr_iload_n (pc := 13) dX10_face_13 rfl ?_
    refine tr_iald (pc := 14) dX10_face_14 sg102 (by omega) (by omega) ?_
    refine tr_ifne (pc := 15) (tgt := 21) dX10_face_15 (by decide) (fun c15 => ?_) (fun c15 => ?_)
    · skip
      refine tr_aload_n (pc := 21) dX10_face_21 rfl (by decide) ?_
      refine tr_iload_n (pc := 22) dX10_face_22 rfl ?_
      refine tr_cVv1 (pc := 23) dX10_face_23 mtX10_tellsFaces lv10_166 rfl sg101 kc10 ⟨(Nat.le_of_ble_eq_true rfl), (Nat.le_of_ble_eq_true rfl)⟩ nlX10_tellsFaces (Nat.le_of_ble_eq_true rfl) ⟨(Nat.le_of_ble_eq_true rfl), (Nat.le_of_ble_eq_true rfl)⟩ (sp_X10_tellsFaces (by omega) hsel (rg_ne hsel (by omega)) (hnd.sel i)) (fun M23 h23 => ?_)
      obtain ⟨hF, f1⟩ := h23
      have q1 := fQ.hf f1
      have hFl := hF.len
      refine tr_iload_n (pc := 26) dX10_face_26 rfl ?_
      refine tr_i2l (pc := 27) dX10_face_27 ?_
      refine tr_lconst (pc := 28) (x := 0) dX10_face_28 (by decide) ⟨by decide, by decide⟩ ?_
      refine tr_aload_n (pc := 29) dX10_face_29 rfl (by decide) ?_
      refine tr_geti (pc := 30) (ji := 12) dX10_face_30 fi10_221 rfl sg101 rfl ?_
      refine tr_iconst (pc := 33) dX10_face_33 ⟨by decide, by decide⟩ ?_
      refine tr_isub (pc := 34) dX10_face_34 ⟨by omega, by omega⟩ ?_
      refine tr_i2l (pc := 35) dX10_face_35 ?_
      refine tr_cSi3 (pc := 36) dX10_face_36 mtX10_isFrom ls10_115 rfl ⟨(Nat.le_of_ble_eq_true rfl), (Nat.le_of_ble_eq_true rfl)⟩ nlX10_isFrom (Nat.le_of_ble_eq_true rfl) ⟨(Nat.le_of_ble_eq_true rfl), (Nat.le_of_ble_eq_true rfl)⟩ (sp_X10_isFrom) (fun r36 M36 h36 => ?_)
      obtain ⟨hr36, hM36⟩ := h36
      obtain rfl := hr36.symm
      obtain rfl := hM36.symm
      refine tr_ifeq (pc := 39) (tgt := 54) dX10_face_39 (by decide) (fun c39 => ?_) (fun c39 => ?_)
      · skip
        refine tr_iconst (pc := 54) dX10_face_54 ⟨by decide, by decide⟩ ?_
        refine tr_ireti (pc := 55) dX10_face_55 rfl ?_
        refine ⟨?_, by first | exact fQ.rf | exact q1⟩
        unfold x_face
        repeat' split
        all_goals first | rfl | omega
      · skip
        refine tr_iload_n (pc := 42) dX10_face_42 rfl ?_
        refine tr_i2l (pc := 43) dX10_face_43 ?_
        refine tr_lconst (pc := 44) (x := 0) dX10_face_44 (by decide) ⟨by decide, by decide⟩ ?_
        refine tr_ldc2 (pc := 45) dX10_face_45 kn10_241 ⟨by decide, by decide⟩ ?_
        refine tr_cSi3 (pc := 48) dX10_face_48 mtX10_isFrom ls10_115 rfl ⟨(Nat.le_of_ble_eq_true rfl), (Nat.le_of_ble_eq_true rfl)⟩ nlX10_isFrom (Nat.le_of_ble_eq_true rfl) ⟨(Nat.le_of_ble_eq_true rfl), (Nat.le_of_ble_eq_true rfl)⟩ (sp_X10_isFrom) (fun r48 M48 h48 => ?_)
        obtain ⟨hr48, hM48⟩ := h48
        obtain rfl := hr48.symm
        obtain rfl := hM48.symm
        refine tr_ifne (pc := 51) (tgt := 56) dX10_face_51 (by decide) (fun c51 => ?_) (fun c51 => ?_)
        · skip
          have hfp := rh_fp (j := j) hF (by omega) (by omega)
          refine tr_iload_n (pc := 56) dX10_face_56 rfl ?_
          refine tr_ifne (pc := 57) (tgt := 69) dX10_face_57 (by decide) (fun c57 => ?_) (fun c57 => ?_)
          · skip
            refine tr_iload_n (pc := 69) dX10_face_69 rfl ?_
            refine tr_iconst (pc := 70) dX10_face_70 ⟨by decide, by decide⟩ ?_
            refine tr_icmpne (pc := 71) (tgt := 83) dX10_face_71 (by decide) (fun c71 => ?_) (fun c71 => ?_)
            · skip
              refine tr_aload_n (pc := 83) dX10_face_83 rfl (by decide) ?_
              refine tr_getr (pc := 84) (x := 113) dX10_face_84 fi10_45 rfl sg101 rfl ?_
              refine tr_iload_n (pc := 87) dX10_face_87 rfl ?_
              refine tr_ialdv (pc := 88) (x := (fp (hl_fc (csel i C)) j).2.2) dX10_face_88 sg113 (by omega) (by omega) (hfp.2.2) ?_
              refine tr_ireti (pc := 89) dX10_face_89 rfl ?_
              refine ⟨?_, by first | exact fQ.rf | exact q1⟩
              unfold x_face
              repeat' split
              all_goals first | rfl | omega
            · skip
              refine tr_aload_n (pc := 74) dX10_face_74 rfl (by decide) ?_
              refine tr_getr (pc := 75) (x := 112) dX10_face_75 fi10_42 rfl sg101 rfl ?_
              refine tr_iload_n (pc := 78) dX10_face_78 rfl ?_
              refine tr_ialdv (pc := 79) (x := (fp (hl_fc (csel i C)) j).2.1) dX10_face_79 sg112 (by omega) (by omega) (hfp.2.1) ?_
              refine tr_goto (pc := 80) (tgt := 89) dX10_face_80 (by decide) ?_
              refine tr_ireti (pc := 89) dX10_face_89 rfl ?_
              refine ⟨?_, by first | exact fQ.rf | exact q1⟩
              unfold x_face
              repeat' split
              all_goals first | rfl | omega
          · skip
            refine tr_aload_n (pc := 60) dX10_face_60 rfl (by decide) ?_
            refine tr_getr (pc := 61) (x := 111) dX10_face_61 fi10_39 rfl sg101 rfl ?_
            refine tr_iload_n (pc := 64) dX10_face_64 rfl ?_
            refine tr_ialdv (pc := 65) (x := (fp (hl_fc (csel i C)) j).1) dX10_face_65 sg111 (by omega) (by omega) (hfp.1) ?_
            refine tr_goto (pc := 66) (tgt := 89) dX10_face_66 (by decide) ?_
            refine tr_ireti (pc := 89) dX10_face_89 rfl ?_
            refine ⟨?_, by first | exact fQ.rf | exact q1⟩
            unfold x_face
            repeat' split
            all_goals first | rfl | omega
        · skip
          refine tr_iconst (pc := 54) dX10_face_54 ⟨by decide, by decide⟩ ?_
          refine tr_ireti (pc := 55) dX10_face_55 rfl ?_
          refine ⟨?_, by first | exact fQ.rf | exact q1⟩
          unfold x_face
          repeat' split
          all_goals first | rfl | omega
    · skip
      refine tr_bipush (pc := 18) dX10_face_18 ⟨by decide, ⟨by decide, by decide⟩⟩ ?_
      refine tr_ireti (pc := 20) dX10_face_20 rfl ?_
      refine ⟨?_, by first | exact fQ.rf | exact q1⟩
      unfold x_face
      repeat' split
      all_goals first | rfl | omega
  · skip
    refine tr_iload_n (pc := 0) dX10_face_0 rfl ?_
    refine tr_cSi1 (pc := 1) dX10_face_1 mtX10_isIdeal ls10_136 rfl ⟨(Nat.le_of_ble_eq_true rfl), (Nat.le_of_ble_eq_true rfl)⟩ nlX10_isIdeal (Nat.le_of_ble_eq_true rfl) ⟨(Nat.le_of_ble_eq_true rfl), (Nat.le_of_ble_eq_true rfl)⟩ (sp_X10_isIdeal) (fun r1 M1 h1 => ?_)
    obtain ⟨hr1, hM1⟩ := h1
    obtain rfl := hr1.symm
    obtain rfl := hM1.symm
    refine tr_ifne (pc := 4) (tgt := 9) dX10_face_4 (by decide) (fun c4 => absurd c4 (by omega)) (fun c4 => ?_)
    refine tr_iconst (pc := 7) dX10_face_7 ⟨by decide, by decide⟩ ?_
    refine tr_ireti (pc := 8) dX10_face_8 rfl ?_
    refine ⟨?_, fQ.rf⟩
    unfold x_face
    rw [if_pos hi]
theorem sp_X10_held {G : tk_G} {M : tk_M} {C : cC} {i a b num den : Int} (hC : Rg M C) (hnd : cnd C) : Spi G FX10_held [xR 101, xI i, xI a, xI b, xI num, xI den] SF M (fun v M' => v = x_held C i a b num den ∧ fQ M M') := by
  refine Spi.of _ mtX10_held nlX10_held (Nat.le_of_ble_eq_true rfl) ?_
  show Ok G FX10_held 0 [xR 101, xI i, xI a, xI b, xI num, xI den] [] SF M 0 0 _
  by_cases hi : 0 ≤ i ∧ i ≤ 1
  · skip
    have hsel := hC.sel hi
    have hln := hsel.len
    have hbr := hl_bar_ge a b num den (hl_fc (csel i C)) 0 (by omega)
    refine tr_iload_n (pc := 0) dX10_held_0 rfl ?_
    refine tr_cSi1 (pc := 1) dX10_held_1 mtX10_isIdeal ls10_136 rfl ⟨(Nat.le_of_ble_eq_true rfl), (Nat.le_of_ble_eq_true rfl)⟩ nlX10_isIdeal (Nat.le_of_ble_eq_true rfl) ⟨(Nat.le_of_ble_eq_true rfl), (Nat.le_of_ble_eq_true rfl)⟩ (sp_X10_isIdeal) (fun r1 M1 h1 => ?_)
    obtain ⟨hr1, hM1⟩ := h1
    obtain rfl := hr1.symm
    obtain rfl := hM1.symm
    refine tr_ifne (pc := 4) (tgt := 9) dX10_held_4 (by decide) (fun c4 => ?_) (fun c4 => absurd c4 (by omega))
    refine tr_iload_n (pc := 9) dX10_held_9 rfl ?_
    refine tr_cSi1 (pc := 10) dX10_held_10 mtX10_isPower ls10_140 rfl ⟨(Nat.le_of_ble_eq_true rfl), (Nat.le_of_ble_eq_true rfl)⟩ nlX10_isPower (Nat.le_of_ble_eq_true rfl) ⟨(Nat.le_of_ble_eq_true rfl), (Nat.le_of_ble_eq_true rfl)⟩ (sp_X10_isPower) (fun r10 M10 h10 => ?_)
    obtain ⟨hr10, hM10⟩ := h10
    obtain rfl := hr10.symm
    obtain rfl := hM10.symm
    refine tr_ifeq (pc := 13) (tgt := 33) dX10_held_13 (by decide) (fun c13 => ?_) (fun c13 => ?_)
    · skip
      refine tr_bipush (pc := 33) dX10_held_33 ⟨by decide, ⟨by decide, by decide⟩⟩ ?_
      refine tr_ireti (pc := 35) dX10_held_35 rfl ?_
      refine ⟨?_, by first | exact fQ.rf | exact q1⟩
      unfold x_held
      repeat' split
      all_goals first | rfl | omega
    · skip
      refine tr_iload_n (pc := 16) dX10_held_16 rfl ?_
      refine tr_cSi1 (pc := 17) dX10_held_17 mtX10_isPower ls10_140 rfl ⟨(Nat.le_of_ble_eq_true rfl), (Nat.le_of_ble_eq_true rfl)⟩ nlX10_isPower (Nat.le_of_ble_eq_true rfl) ⟨(Nat.le_of_ble_eq_true rfl), (Nat.le_of_ble_eq_true rfl)⟩ (sp_X10_isPower) (fun r17 M17 h17 => ?_)
      obtain ⟨hr17, hM17⟩ := h17
      obtain rfl := hr17.symm
      obtain rfl := hM17.symm
      refine tr_ifeq (pc := 20) (tgt := 33) dX10_held_20 (by decide) (fun c20 => ?_) (fun c20 => ?_)
      · skip
        refine tr_bipush (pc := 33) dX10_held_33 ⟨by decide, ⟨by decide, by decide⟩⟩ ?_
        refine tr_ireti (pc := 35) dX10_held_35 rfl ?_
        refine ⟨?_, by first | exact fQ.rf | exact q1⟩
        unfold x_held
        repeat' split
        all_goals first | rfl | omega
      · skip
        refine tr_iload (pc := 23) dX10_held_23 rfl ?_
        refine tr_iload (pc := 25) dX10_held_25 rfl ?_
        refine tr_cSi2 (pc := 27) dX10_held_27 mtX10_isFraction ls10_265 rfl ⟨(Nat.le_of_ble_eq_true rfl), (Nat.le_of_ble_eq_true rfl)⟩ nlX10_isFraction (Nat.le_of_ble_eq_true rfl) ⟨(Nat.le_of_ble_eq_true rfl), (Nat.le_of_ble_eq_true rfl)⟩ (sp_X10_isFraction) (fun r27 M27 h27 => ?_)
        obtain ⟨hr27, hM27⟩ := h27
        obtain rfl := hr27.symm
        obtain rfl := hM27.symm
        refine tr_ifne (pc := 30) (tgt := 36) dX10_held_30 (by decide) (fun c30 => ?_) (fun c30 => ?_)
        · skip
          refine tr_aload_n (pc := 36) dX10_held_36 rfl (by decide) ?_
          refine tr_getr (pc := 37) (x := 102) dX10_held_37 fi10_11 rfl sg101 rfl ?_
          refine tr_iload_n (pc := 40) dX10_held_40 rfl ?_
          refine tr_iald (pc := 41) dX10_held_41 sg102 (by omega) (by omega) ?_
          refine tr_ifne (pc := 42) (tgt := 48) dX10_held_42 (by decide) (fun c42 => ?_) (fun c42 => ?_)
          · skip
            refine tr_aload_n (pc := 48) dX10_held_48 rfl (by decide) ?_
            refine tr_iload_n (pc := 49) dX10_held_49 rfl ?_
            refine tr_cVv1 (pc := 50) dX10_held_50 mtX10_tellsFaces lv10_166 rfl sg101 kc10 ⟨(Nat.le_of_ble_eq_true rfl), (Nat.le_of_ble_eq_true rfl)⟩ nlX10_tellsFaces (Nat.le_of_ble_eq_true rfl) ⟨(Nat.le_of_ble_eq_true rfl), (Nat.le_of_ble_eq_true rfl)⟩ (sp_X10_tellsFaces (by omega) hsel (rg_ne hsel (by omega)) (hnd.sel i)) (fun M50 h50 => ?_)
            obtain ⟨hF, f1⟩ := h50
            have q1 := fQ.hf f1
            have hFl := hF.len
            refine tr_aload_n (pc := 53) dX10_held_53 rfl (by decide) ?_
            refine tr_iload_n (pc := 54) dX10_held_54 rfl ?_
            refine tr_iload_n (pc := 55) dX10_held_55 rfl ?_
            refine tr_iload (pc := 56) dX10_held_56 rfl ?_
            refine tr_iload (pc := 58) dX10_held_58 rfl ?_
            refine tr_cVi4 (pc := 60) dX10_held_60 mtX10_barring lv10_268 rfl sg101 kc10 ⟨(Nat.le_of_ble_eq_true rfl), (Nat.le_of_ble_eq_true rfl)⟩ nlX10_barring (Nat.le_of_ble_eq_true rfl) ⟨(Nat.le_of_ble_eq_true rfl), (Nat.le_of_ble_eq_true rfl)⟩ (sp_X10_barring hF (by omega) (by omega) (by omega) (by omega)) (fun r60 M60 h60 => ?_)
            obtain ⟨hr60, hM60⟩ := h60
            obtain rfl := hr60.symm
            obtain rfl := hM60.symm
            refine tr_iconst (pc := 63) dX10_held_63 ⟨by decide, by decide⟩ ?_
            refine tr_icmpne (pc := 64) (tgt := 71) dX10_held_64 (by decide) (fun c64 => ?_) (fun c64 => ?_)
            · skip
              refine tr_iconst (pc := 71) dX10_held_71 ⟨by decide, by decide⟩ ?_
              refine tr_ireti (pc := 72) dX10_held_72 rfl ?_
              refine ⟨?_, by first | exact fQ.rf | exact q1⟩
              unfold x_held
              repeat' split
              all_goals first | rfl | omega
            · skip
              refine tr_iconst (pc := 67) dX10_held_67 ⟨by decide, by decide⟩ ?_
              refine tr_goto (pc := 68) (tgt := 72) dX10_held_68 (by decide) ?_
              refine tr_ireti (pc := 72) dX10_held_72 rfl ?_
              refine ⟨?_, by first | exact fQ.rf | exact q1⟩
              unfold x_held
              repeat' split
              all_goals first | rfl | omega
          · skip
            refine tr_bipush (pc := 45) dX10_held_45 ⟨by decide, ⟨by decide, by decide⟩⟩ ?_
            refine tr_ireti (pc := 47) dX10_held_47 rfl ?_
            refine ⟨?_, by first | exact fQ.rf | exact q1⟩
            unfold x_held
            repeat' split
            all_goals first | rfl | omega
        · skip
          refine tr_bipush (pc := 33) dX10_held_33 ⟨by decide, ⟨by decide, by decide⟩⟩ ?_
          refine tr_ireti (pc := 35) dX10_held_35 rfl ?_
          refine ⟨?_, by first | exact fQ.rf | exact q1⟩
          unfold x_held
          repeat' split
          all_goals first | rfl | omega
  · skip
    refine tr_iload_n (pc := 0) dX10_held_0 rfl ?_
    refine tr_cSi1 (pc := 1) dX10_held_1 mtX10_isIdeal ls10_136 rfl ⟨(Nat.le_of_ble_eq_true rfl), (Nat.le_of_ble_eq_true rfl)⟩ nlX10_isIdeal (Nat.le_of_ble_eq_true rfl) ⟨(Nat.le_of_ble_eq_true rfl), (Nat.le_of_ble_eq_true rfl)⟩ (sp_X10_isIdeal) (fun r1 M1 h1 => ?_)
    obtain ⟨hr1, hM1⟩ := h1
    obtain rfl := hr1.symm
    obtain rfl := hM1.symm
    refine tr_ifne (pc := 4) (tgt := 9) dX10_held_4 (by decide) (fun c4 => absurd c4 (by omega)) (fun c4 => ?_)
    refine tr_iconst (pc := 7) dX10_held_7 ⟨by decide, by decide⟩ ?_
    refine tr_ireti (pc := 8) dX10_held_8 rfl ?_
    refine ⟨?_, fQ.rf⟩
    unfold x_held
    rw [if_pos hi]
theorem sp_X10_reason {G : tk_G} {M : tk_M} {C : cC} {i a b num den j : Int} (hC : Rg M C) (hnd : cnd C) : Spi G FX10_reason [xR 101, xI i, xI a, xI b, xI num, xI den, xI j] SF M (fun v M' => v = x_reason C i a b num den j ∧ fQ M M') := by
  refine Spi.of _ mtX10_reason nlX10_reason (Nat.le_of_ble_eq_true rfl) ?_
  show Ok G FX10_reason 0 [xR 101, xI i, xI a, xI b, xI num, xI den, xI j, xU] [] SF M 0 0 _
  by_cases hi : 0 ≤ i ∧ i ≤ 1
  · skip
    have hsel := hC.sel hi
    have hln := hsel.len
    have hbr := hl_bar_ge a b num den (hl_fc (csel i C)) 0 (by omega)
    refine tr_iload_n (pc := 0) dX10_reason_0 rfl ?_
    refine tr_cSi1 (pc := 1) dX10_reason_1 mtX10_isIdeal ls10_136 rfl ⟨(Nat.le_of_ble_eq_true rfl), (Nat.le_of_ble_eq_true rfl)⟩ nlX10_isIdeal (Nat.le_of_ble_eq_true rfl) ⟨(Nat.le_of_ble_eq_true rfl), (Nat.le_of_ble_eq_true rfl)⟩ (sp_X10_isIdeal) (fun r1 M1 h1 => ?_)
    obtain ⟨hr1, hM1⟩ := h1
    obtain rfl := hr1.symm
    obtain rfl := hM1.symm
    refine tr_ifeq (pc := 4) (tgt := 20) dX10_reason_4 (by decide) (fun c4 => absurd c4 (by omega)) (fun c4 => ?_)
    refine tr_iload (pc := 7) dX10_reason_7 rfl ?_
    refine tr_i2l (pc := 9) dX10_reason_9 ?_
    refine tr_lconst (pc := 10) (x := 0) dX10_reason_10 (by decide) ⟨by decide, by decide⟩ ?_
    refine tr_ldc2 (pc := 11) dX10_reason_11 kn10_243 ⟨by decide, by decide⟩ ?_
    refine tr_cSi3 (pc := 14) dX10_reason_14 mtX10_isFrom ls10_115 rfl ⟨(Nat.le_of_ble_eq_true rfl), (Nat.le_of_ble_eq_true rfl)⟩ nlX10_isFrom (Nat.le_of_ble_eq_true rfl) ⟨(Nat.le_of_ble_eq_true rfl), (Nat.le_of_ble_eq_true rfl)⟩ (sp_X10_isFrom) (fun r14 M14 h14 => ?_)
    obtain ⟨hr14, hM14⟩ := h14
    obtain rfl := hr14.symm
    obtain rfl := hM14.symm
    refine tr_ifne (pc := 17) (tgt := 22) dX10_reason_17 (by decide) (fun c17 => ?_) (fun c17 => ?_)
    · skip
      refine tr_iload_n (pc := 22) dX10_reason_22 rfl ?_
      refine tr_cSi1 (pc := 23) dX10_reason_23 mtX10_isPower ls10_140 rfl ⟨(Nat.le_of_ble_eq_true rfl), (Nat.le_of_ble_eq_true rfl)⟩ nlX10_isPower (Nat.le_of_ble_eq_true rfl) ⟨(Nat.le_of_ble_eq_true rfl), (Nat.le_of_ble_eq_true rfl)⟩ (sp_X10_isPower) (fun r23 M23 h23 => ?_)
      obtain ⟨hr23, hM23⟩ := h23
      obtain rfl := hr23.symm
      obtain rfl := hM23.symm
      refine tr_ifeq (pc := 26) (tgt := 46) dX10_reason_26 (by decide) (fun c26 => ?_) (fun c26 => ?_)
      · skip
        refine tr_bipush (pc := 46) dX10_reason_46 ⟨by decide, ⟨by decide, by decide⟩⟩ ?_
        refine tr_ireti (pc := 48) dX10_reason_48 rfl ?_
        refine ⟨?_, by first | exact fQ.rf | exact q1⟩
        unfold x_reason
        try rw [hz]
        repeat' split
        all_goals first | rfl | omega
      · skip
        refine tr_iload_n (pc := 29) dX10_reason_29 rfl ?_
        refine tr_cSi1 (pc := 30) dX10_reason_30 mtX10_isPower ls10_140 rfl ⟨(Nat.le_of_ble_eq_true rfl), (Nat.le_of_ble_eq_true rfl)⟩ nlX10_isPower (Nat.le_of_ble_eq_true rfl) ⟨(Nat.le_of_ble_eq_true rfl), (Nat.le_of_ble_eq_true rfl)⟩ (sp_X10_isPower) (fun r30 M30 h30 => ?_)
        obtain ⟨hr30, hM30⟩ := h30
        obtain rfl := hr30.symm
        obtain rfl := hM30.symm
        refine tr_ifeq (pc := 33) (tgt := 46) dX10_reason_33 (by decide) (fun c33 => ?_) (fun c33 => ?_)
        · skip
          refine tr_bipush (pc := 46) dX10_reason_46 ⟨by decide, ⟨by decide, by decide⟩⟩ ?_
          refine tr_ireti (pc := 48) dX10_reason_48 rfl ?_
          refine ⟨?_, by first | exact fQ.rf | exact q1⟩
          unfold x_reason
          try rw [hz]
          repeat' split
          all_goals first | rfl | omega
        · skip
          refine tr_iload (pc := 36) dX10_reason_36 rfl ?_
          refine tr_iload (pc := 38) dX10_reason_38 rfl ?_
          refine tr_cSi2 (pc := 40) dX10_reason_40 mtX10_isFraction ls10_265 rfl ⟨(Nat.le_of_ble_eq_true rfl), (Nat.le_of_ble_eq_true rfl)⟩ nlX10_isFraction (Nat.le_of_ble_eq_true rfl) ⟨(Nat.le_of_ble_eq_true rfl), (Nat.le_of_ble_eq_true rfl)⟩ (sp_X10_isFraction) (fun r40 M40 h40 => ?_)
          obtain ⟨hr40, hM40⟩ := h40
          obtain rfl := hr40.symm
          obtain rfl := hM40.symm
          refine tr_ifne (pc := 43) (tgt := 49) dX10_reason_43 (by decide) (fun c43 => ?_) (fun c43 => ?_)
          · skip
            refine tr_aload_n (pc := 49) dX10_reason_49 rfl (by decide) ?_
            refine tr_getr (pc := 50) (x := 102) dX10_reason_50 fi10_11 rfl sg101 rfl ?_
            refine tr_iload_n (pc := 53) dX10_reason_53 rfl ?_
            refine tr_iald (pc := 54) dX10_reason_54 sg102 (by omega) (by omega) ?_
            refine tr_ifne (pc := 55) (tgt := 61) dX10_reason_55 (by decide) (fun c55 => ?_) (fun c55 => ?_)
            · skip
              refine tr_aload_n (pc := 61) dX10_reason_61 rfl (by decide) ?_
              refine tr_iload_n (pc := 62) dX10_reason_62 rfl ?_
              refine tr_cVv1 (pc := 63) dX10_reason_63 mtX10_tellsFaces lv10_166 rfl sg101 kc10 ⟨(Nat.le_of_ble_eq_true rfl), (Nat.le_of_ble_eq_true rfl)⟩ nlX10_tellsFaces (Nat.le_of_ble_eq_true rfl) ⟨(Nat.le_of_ble_eq_true rfl), (Nat.le_of_ble_eq_true rfl)⟩ (sp_X10_tellsFaces (by omega) hsel (rg_ne hsel (by omega)) (hnd.sel i)) (fun M63 h63 => ?_)
              obtain ⟨hF, f1⟩ := h63
              have q1 := fQ.hf f1
              have hFl := hF.len
              refine tr_aload_n (pc := 66) dX10_reason_66 rfl (by decide) ?_
              refine tr_iload_n (pc := 67) dX10_reason_67 rfl ?_
              refine tr_iload_n (pc := 68) dX10_reason_68 rfl ?_
              refine tr_iload (pc := 69) dX10_reason_69 rfl ?_
              refine tr_iload (pc := 71) dX10_reason_71 rfl ?_
              refine tr_cVi4 (pc := 73) dX10_reason_73 mtX10_barring lv10_268 rfl sg101 kc10 ⟨(Nat.le_of_ble_eq_true rfl), (Nat.le_of_ble_eq_true rfl)⟩ nlX10_barring (Nat.le_of_ble_eq_true rfl) ⟨(Nat.le_of_ble_eq_true rfl), (Nat.le_of_ble_eq_true rfl)⟩ (sp_X10_barring hF (by omega) (by omega) (by omega) (by omega)) (fun r73 M73 h73 => ?_)
              obtain ⟨hr73, hM73⟩ := h73
              obtain rfl := hr73.symm
              obtain rfl := hM73.symm
              refine tr_istore (pc := 76) dX10_reason_76 rfl (Nat.le_of_ble_eq_true rfl) ?_
              dsimp only [List.set]
              refine tr_iload (pc := 78) dX10_reason_78 rfl ?_
              refine tr_iconst (pc := 80) dX10_reason_80 ⟨by decide, by decide⟩ ?_
              refine tr_icmpne (pc := 81) (tgt := 87) dX10_reason_81 (by decide) (fun c81 => ?_) (fun c81 => ?_)
              · skip
                generalize hz : hl_bar a b num den 0 (hl_fc (csel i C)) = z at *
                have hj0 : 0 ≤ z := by omega
                have hj1 : z < M63 101 12 := by omega
                have hfp := rh_fp hF hj0 hj1
                obtain ⟨-, bA, bB, bC⟩ := hl_seg_get _ 0 z hF.1 hj0 hj1
                rw [hfp.1] at bA
                rw [hfp.2.1] at bB
                refine tr_iload (pc := 87) dX10_reason_87 rfl ?_
                refine tr_ifne (pc := 89) (tgt := 97) dX10_reason_89 (by decide) (fun c89 => ?_) (fun c89 => ?_)
                · skip
                  refine tr_iload (pc := 97) dX10_reason_97 rfl ?_
                  refine tr_iconst (pc := 99) dX10_reason_99 ⟨by decide, by decide⟩ ?_
                  refine tr_icmpne (pc := 100) (tgt := 114) dX10_reason_100 (by decide) (fun c100 => ?_) (fun c100 => ?_)
                  · skip
                    refine tr_iload (pc := 114) dX10_reason_114 rfl ?_
                    refine tr_iconst (pc := 116) dX10_reason_116 ⟨by decide, by decide⟩ ?_
                    refine tr_icmpne (pc := 117) (tgt := 130) dX10_reason_117 (by decide) (fun c117 => ?_) (fun c117 => ?_)
                    · skip
                      refine tr_iload (pc := 130) dX10_reason_130 rfl ?_
                      refine tr_iconst (pc := 132) dX10_reason_132 ⟨by decide, by decide⟩ ?_
                      refine tr_icmpne (pc := 133) (tgt := 141) dX10_reason_133 (by decide) (fun c133 => ?_) (fun c133 => ?_)
                      · skip
                        refine tr_iload (pc := 141) dX10_reason_141 rfl ?_
                        refine tr_ireti (pc := 143) dX10_reason_143 rfl ?_
                        refine ⟨?_, by first | exact fQ.rf | exact q1⟩
                        unfold x_reason
                        try rw [hz]
                        repeat' split
                        all_goals first | rfl | omega
                      · skip
                        refine tr_iload (pc := 136) dX10_reason_136 rfl ?_
                        refine tr_goto (pc := 138) (tgt := 143) dX10_reason_138 (by decide) ?_
                        refine tr_ireti (pc := 143) dX10_reason_143 rfl ?_
                        refine ⟨?_, by first | exact fQ.rf | exact q1⟩
                        unfold x_reason
                        try rw [hz]
                        repeat' split
                        all_goals first | rfl | omega
                    · skip
                      refine tr_aload_n (pc := 120) dX10_reason_120 rfl (by decide) ?_
                      refine tr_getr (pc := 121) (x := 113) dX10_reason_121 fi10_45 rfl sg101 rfl ?_
                      refine tr_iload (pc := 124) dX10_reason_124 rfl ?_
                      refine tr_ialdv (pc := 126) (x := (fp (hl_fc (csel i C)) z).2.2) dX10_reason_126 sg113 (by omega) (by omega) (hfp.2.2) ?_
                      refine tr_goto (pc := 127) (tgt := 143) dX10_reason_127 (by decide) ?_
                      refine tr_ireti (pc := 143) dX10_reason_143 rfl ?_
                      refine ⟨?_, by first | exact fQ.rf | exact q1⟩
                      unfold x_reason
                      try rw [hz]
                      repeat' split
                      all_goals first | rfl | omega
                  · skip
                    refine tr_aload_n (pc := 103) dX10_reason_103 rfl (by decide) ?_
                    refine tr_iload (pc := 104) dX10_reason_104 rfl ?_
                    refine tr_iload_n (pc := 106) dX10_reason_106 rfl ?_
                    refine tr_iload_n (pc := 107) dX10_reason_107 rfl ?_
                    refine tr_cVi3 (pc := 108) dX10_reason_108 mtX10_heavy lv10_260 rfl sg101 kc10 ⟨(Nat.le_of_ble_eq_true rfl), (Nat.le_of_ble_eq_true rfl)⟩ nlX10_heavy (Nat.le_of_ble_eq_true rfl) ⟨(Nat.le_of_ble_eq_true rfl), (Nat.le_of_ble_eq_true rfl)⟩ (sp_X10_heavy (by omega) hfp.1 hfp.2.1 bA bB (by omega) (by omega)) (fun r108 M108 h108 => ?_)
                    obtain ⟨hr108, hM108⟩ := h108
                    obtain rfl := hr108.symm
                    obtain rfl := hM108.symm
                    refine tr_goto (pc := 111) (tgt := 143) dX10_reason_111 (by decide) ?_
                    refine tr_ireti (pc := 143) dX10_reason_143 rfl ?_
                    refine ⟨?_, by first | exact fQ.rf | exact q1⟩
                    unfold x_reason
                    try rw [hz]
                    repeat' split
                    all_goals first | rfl | omega
                · skip
                  refine tr_iload (pc := 92) dX10_reason_92 rfl ?_
                  refine tr_goto (pc := 94) (tgt := 143) dX10_reason_94 (by decide) ?_
                  refine tr_ireti (pc := 143) dX10_reason_143 rfl ?_
                  refine ⟨?_, by first | exact fQ.rf | exact q1⟩
                  unfold x_reason
                  try rw [hz]
                  repeat' split
                  all_goals first | rfl | omega
              · skip
                refine tr_bipush (pc := 84) dX10_reason_84 ⟨by decide, ⟨by decide, by decide⟩⟩ ?_
                refine tr_ireti (pc := 86) dX10_reason_86 rfl ?_
                refine ⟨?_, by first | exact fQ.rf | exact q1⟩
                unfold x_reason
                try rw [hz]
                repeat' split
                all_goals first | rfl | omega
            · skip
              refine tr_bipush (pc := 58) dX10_reason_58 ⟨by decide, ⟨by decide, by decide⟩⟩ ?_
              refine tr_ireti (pc := 60) dX10_reason_60 rfl ?_
              refine ⟨?_, by first | exact fQ.rf | exact q1⟩
              unfold x_reason
              try rw [hz]
              repeat' split
              all_goals first | rfl | omega
          · skip
            refine tr_bipush (pc := 46) dX10_reason_46 ⟨by decide, ⟨by decide, by decide⟩⟩ ?_
            refine tr_ireti (pc := 48) dX10_reason_48 rfl ?_
            refine ⟨?_, by first | exact fQ.rf | exact q1⟩
            unfold x_reason
            try rw [hz]
            repeat' split
            all_goals first | rfl | omega
    · skip
      refine tr_iconst (pc := 20) dX10_reason_20 ⟨by decide, by decide⟩ ?_
      refine tr_ireti (pc := 21) dX10_reason_21 rfl ?_
      refine ⟨?_, by first | exact fQ.rf | exact q1⟩
      unfold x_reason
      try rw [hz]
      repeat' split
      all_goals first | rfl | omega
  · skip
    refine tr_iload_n (pc := 0) dX10_reason_0 rfl ?_
    refine tr_cSi1 (pc := 1) dX10_reason_1 mtX10_isIdeal ls10_136 rfl ⟨(Nat.le_of_ble_eq_true rfl), (Nat.le_of_ble_eq_true rfl)⟩ nlX10_isIdeal (Nat.le_of_ble_eq_true rfl) ⟨(Nat.le_of_ble_eq_true rfl), (Nat.le_of_ble_eq_true rfl)⟩ (sp_X10_isIdeal) (fun r1 M1 h1 => ?_)
    obtain ⟨hr1, hM1⟩ := h1
    obtain rfl := hr1.symm
    obtain rfl := hM1.symm
    refine tr_ifeq (pc := 4) (tgt := 20) dX10_reason_4 (by decide) (fun c4 => ?_) (fun c4 => absurd c4 (by omega))
    refine tr_iconst (pc := 20) dX10_reason_20 ⟨by decide, by decide⟩ ?_
    refine tr_ireti (pc := 21) dX10_reason_21 rfl ?_
    refine ⟨?_, fQ.rf⟩
    unfold x_reason
    rw [if_pos (Or.inl hi)]
theorem sp_X10_jump {G : tk_G} {M : tk_M} {C : cC} {i a b p : Int} (hC : Rg M C) (hnd : cnd C) : Spl G FX10_jump [xR 101, xI i, xI a, xI b, xI p] SF M (fun v M' => v = x_jump C i a b p ∧ fQ M M') := by
  refine Spl.of _ mtX10_jump nlX10_jump (Nat.le_of_ble_eq_true rfl) ?_
  show Ok G FX10_jump 0 [xR 101, xI i, xI a, xI b, xI p, xU] [] SF M 0 0 _
  by_cases hi : 0 ≤ i ∧ i ≤ 1
  · skip
    have hsel := hC.sel hi
    have hln := hsel.len
    generalize hz : hl_tgt a b 0 (-1, 0, 0) (hl_fc (csel i C)) = z
    refine tr_iload_n (pc := 0) dX10_jump_0 rfl ?_
    refine tr_cSi1 (pc := 1) dX10_jump_1 mtX10_isIdeal ls10_136 rfl ⟨(Nat.le_of_ble_eq_true rfl), (Nat.le_of_ble_eq_true rfl)⟩ nlX10_isIdeal (Nat.le_of_ble_eq_true rfl) ⟨(Nat.le_of_ble_eq_true rfl), (Nat.le_of_ble_eq_true rfl)⟩ (sp_X10_isIdeal) (fun r1 M1 h1 => ?_)
    obtain ⟨hr1, hM1⟩ := h1
    obtain rfl := hr1.symm
    obtain rfl := hM1.symm
    refine tr_ifeq (pc := 4) (tgt := 41) dX10_jump_4 (by decide) (fun c4 => absurd c4 (by omega)) (fun c4 => ?_)
    refine tr_iload_n (pc := 7) dX10_jump_7 rfl ?_
    refine tr_cSi1 (pc := 8) dX10_jump_8 mtX10_isPower ls10_140 rfl ⟨(Nat.le_of_ble_eq_true rfl), (Nat.le_of_ble_eq_true rfl)⟩ nlX10_isPower (Nat.le_of_ble_eq_true rfl) ⟨(Nat.le_of_ble_eq_true rfl), (Nat.le_of_ble_eq_true rfl)⟩ (sp_X10_isPower) (fun r8 M8 h8 => ?_)
    obtain ⟨hr8, hM8⟩ := h8
    obtain rfl := hr8.symm
    obtain rfl := hM8.symm
    refine tr_ifeq (pc := 11) (tgt := 41) dX10_jump_11 (by decide) (fun c11 => ?_) (fun c11 => ?_)
    · skip
      refine tr_ldc2 (pc := 41) dX10_jump_41 kn10_271 ⟨by decide, by decide⟩ ?_
      refine tr_lret (pc := 44) dX10_jump_44 rfl ?_
      refine ⟨?_, by first | exact fQ.rf | exact q1⟩
      unfold x_jump
      try rw [hz]
      repeat' split
      all_goals first | rfl | omega
    · skip
      refine tr_iload_n (pc := 14) dX10_jump_14 rfl ?_
      refine tr_cSi1 (pc := 15) dX10_jump_15 mtX10_isPower ls10_140 rfl ⟨(Nat.le_of_ble_eq_true rfl), (Nat.le_of_ble_eq_true rfl)⟩ nlX10_isPower (Nat.le_of_ble_eq_true rfl) ⟨(Nat.le_of_ble_eq_true rfl), (Nat.le_of_ble_eq_true rfl)⟩ (sp_X10_isPower) (fun r15 M15 h15 => ?_)
      obtain ⟨hr15, hM15⟩ := h15
      obtain rfl := hr15.symm
      obtain rfl := hM15.symm
      refine tr_ifeq (pc := 18) (tgt := 41) dX10_jump_18 (by decide) (fun c18 => ?_) (fun c18 => ?_)
      · skip
        refine tr_ldc2 (pc := 41) dX10_jump_41 kn10_271 ⟨by decide, by decide⟩ ?_
        refine tr_lret (pc := 44) dX10_jump_44 rfl ?_
        refine ⟨?_, by first | exact fQ.rf | exact q1⟩
        unfold x_jump
        try rw [hz]
        repeat' split
        all_goals first | rfl | omega
      · skip
        refine tr_iload (pc := 21) dX10_jump_21 rfl ?_
        refine tr_i2l (pc := 23) dX10_jump_23 ?_
        refine tr_lconst (pc := 24) (x := 0) dX10_jump_24 (by decide) ⟨by decide, by decide⟩ ?_
        refine tr_lconst (pc := 25) (x := 1) dX10_jump_25 (by decide) ⟨by decide, by decide⟩ ?_
        refine tr_cSi3 (pc := 26) dX10_jump_26 mtX10_isFrom ls10_115 rfl ⟨(Nat.le_of_ble_eq_true rfl), (Nat.le_of_ble_eq_true rfl)⟩ nlX10_isFrom (Nat.le_of_ble_eq_true rfl) ⟨(Nat.le_of_ble_eq_true rfl), (Nat.le_of_ble_eq_true rfl)⟩ (sp_X10_isFrom) (fun r26 M26 h26 => ?_)
        obtain ⟨hr26, hM26⟩ := h26
        obtain rfl := hr26.symm
        obtain rfl := hM26.symm
        refine tr_ifeq (pc := 29) (tgt := 41) dX10_jump_29 (by decide) (fun c29 => ?_) (fun c29 => ?_)
        · skip
          refine tr_ldc2 (pc := 41) dX10_jump_41 kn10_271 ⟨by decide, by decide⟩ ?_
          refine tr_lret (pc := 44) dX10_jump_44 rfl ?_
          refine ⟨?_, by first | exact fQ.rf | exact q1⟩
          unfold x_jump
          try rw [hz]
          repeat' split
          all_goals first | rfl | omega
        · skip
          refine tr_aload_n (pc := 32) dX10_jump_32 rfl (by decide) ?_
          refine tr_getr (pc := 33) (x := 102) dX10_jump_33 fi10_11 rfl sg101 rfl ?_
          refine tr_iload_n (pc := 36) dX10_jump_36 rfl ?_
          refine tr_iald (pc := 37) dX10_jump_37 sg102 (by omega) (by omega) ?_
          refine tr_ifne (pc := 38) (tgt := 45) dX10_jump_38 (by decide) (fun c38 => ?_) (fun c38 => ?_)
          · skip
            refine tr_aload_n (pc := 45) dX10_jump_45 rfl (by decide) ?_
            refine tr_iload_n (pc := 46) dX10_jump_46 rfl ?_
            refine tr_cVv1 (pc := 47) dX10_jump_47 mtX10_tellsFaces lv10_166 rfl sg101 kc10 ⟨(Nat.le_of_ble_eq_true rfl), (Nat.le_of_ble_eq_true rfl)⟩ nlX10_tellsFaces (Nat.le_of_ble_eq_true rfl) ⟨(Nat.le_of_ble_eq_true rfl), (Nat.le_of_ble_eq_true rfl)⟩ (sp_X10_tellsFaces (by omega) hsel (rg_ne hsel (by omega)) (hnd.sel i)) (fun M47 h47 => ?_)
            obtain ⟨hF, f1⟩ := h47
            have q1 := fQ.hf f1
            have hFl := hF.len
            refine tr_aload_n (pc := 50) dX10_jump_50 rfl (by decide) ?_
            refine tr_iload_n (pc := 51) dX10_jump_51 rfl ?_
            refine tr_iload_n (pc := 52) dX10_jump_52 rfl ?_
            refine tr_cVi2 (pc := 53) dX10_jump_53 mtX10_jumpFace lv10_273 rfl sg101 kc10 ⟨(Nat.le_of_ble_eq_true rfl), (Nat.le_of_ble_eq_true rfl)⟩ nlX10_jumpFace (Nat.le_of_ble_eq_true rfl) ⟨(Nat.le_of_ble_eq_true rfl), (Nat.le_of_ble_eq_true rfl)⟩ (sp_X10_jumpFace hF (by omega) (by omega)) (fun r53 M53 h53 => ?_)
            rw [hz] at h53
            obtain ⟨hr53, hM53⟩ := h53
            obtain rfl := hr53.symm
            obtain rfl := hM53.symm
            have hta := hl_tgt_at (a := a) (b := b) (hl_fc (csel i C)) 0 (-1, 0, 0) (by omega) (Or.inl rfl) hF.1
            rw [hz] at hta
            refine tr_istore (pc := 56) dX10_jump_56 rfl (Nat.le_of_ble_eq_true rfl) ?_
            dsimp only [List.set]
            refine tr_iload (pc := 58) dX10_jump_58 rfl ?_
            refine tr_iconst (pc := 60) dX10_jump_60 ⟨by decide, by decide⟩ ?_
            refine tr_icmpne (pc := 61) (tgt := 70) dX10_jump_61 (by decide) (fun c61 => ?_) (fun c61 => ?_)
            · skip
              obtain ⟨g0, g1, g2, g3, g4⟩ := hta.resolve_left (by omega)
              obtain ⟨-, f2, f3, f4⟩ := hl_seg_get _ 0 z.1 hF.1 g0 g1
              have m1 := mulb f2.1 f2.2 (show 0 ≤ a + 1 by omega) (show a + 1 ≤ 10 by omega)
              have m2 := mulb f3.1 f3.2 (show 0 ≤ b + 1 by omega) (show b + 1 ≤ 10 by omega)
              refine tr_aload_n (pc := 70) dX10_jump_70 rfl (by decide) ?_
              refine tr_iload (pc := 71) dX10_jump_71 rfl ?_
              refine tr_iload_n (pc := 73) dX10_jump_73 rfl ?_
              refine tr_iload_n (pc := 74) dX10_jump_74 rfl ?_
              refine tr_cVi3 (pc := 75) dX10_jump_75 mtX10_heavy lv10_260 rfl sg101 kc10 ⟨(Nat.le_of_ble_eq_true rfl), (Nat.le_of_ble_eq_true rfl)⟩ nlX10_heavy (Nat.le_of_ble_eq_true rfl) ⟨(Nat.le_of_ble_eq_true rfl), (Nat.le_of_ble_eq_true rfl)⟩ (sp_X10_heavy (by omega) rfl rfl f2 f3 (by omega) (by omega)) (fun r75 M75 h75 => ?_)
              rw [g2] at h75
              obtain ⟨hr75, hM75⟩ := h75
              obtain rfl := hr75.symm
              obtain rfl := hM75.symm
              refine tr_i2l (pc := 78) dX10_jump_78 ?_
              refine tr_aload_n (pc := 79) dX10_jump_79 rfl (by decide) ?_
              refine tr_getr (pc := 80) (x := 113) dX10_jump_80 fi10_45 rfl sg101 rfl ?_
              refine tr_iload (pc := 83) dX10_jump_83 rfl ?_
              refine tr_ialdv (pc := 85) (x := z.2.2) dX10_jump_85 sg113 (by omega) (by omega) (g3) ?_
              refine tr_i2l (pc := 86) dX10_jump_86 ?_
              refine tr_iload (pc := 87) dX10_jump_87 rfl ?_
              refine tr_cSl3 (pc := 89) dX10_jump_89 mtX10_part ls10_276 rfl ⟨(Nat.le_of_ble_eq_true rfl), (Nat.le_of_ble_eq_true rfl)⟩ nlX10_part (Nat.le_of_ble_eq_true rfl) ⟨(Nat.le_of_ble_eq_true rfl), (Nat.le_of_ble_eq_true rfl)⟩ (sp_X10_part (by omega) (by omega) (by omega) (by omega)) (fun r89 M89 h89 => ?_)
              obtain ⟨hr89, hM89⟩ := h89
              obtain rfl := hr89.symm
              obtain rfl := hM89.symm
              refine tr_lret (pc := 92) dX10_jump_92 rfl ?_
              refine ⟨?_, by first | exact fQ.rf | exact q1⟩
              unfold x_jump
              try rw [hz]
              repeat' split
              all_goals first | rfl | omega
            · skip
              refine tr_ldc2 (pc := 64) dX10_jump_64 kn10_271 ⟨by decide, by decide⟩ ?_
              refine tr_goto (pc := 67) (tgt := 92) dX10_jump_67 (by decide) ?_
              refine tr_lret (pc := 92) dX10_jump_92 rfl ?_
              refine ⟨?_, by first | exact fQ.rf | exact q1⟩
              unfold x_jump
              try rw [hz]
              repeat' split
              all_goals first | rfl | omega
          · skip
            refine tr_ldc2 (pc := 41) dX10_jump_41 kn10_271 ⟨by decide, by decide⟩ ?_
            refine tr_lret (pc := 44) dX10_jump_44 rfl ?_
            refine ⟨?_, by first | exact fQ.rf | exact q1⟩
            unfold x_jump
            try rw [hz]
            repeat' split
            all_goals first | rfl | omega
  · skip
    refine tr_iload_n (pc := 0) dX10_jump_0 rfl ?_
    refine tr_cSi1 (pc := 1) dX10_jump_1 mtX10_isIdeal ls10_136 rfl ⟨(Nat.le_of_ble_eq_true rfl), (Nat.le_of_ble_eq_true rfl)⟩ nlX10_isIdeal (Nat.le_of_ble_eq_true rfl) ⟨(Nat.le_of_ble_eq_true rfl), (Nat.le_of_ble_eq_true rfl)⟩ (sp_X10_isIdeal) (fun r1 M1 h1 => ?_)
    obtain ⟨hr1, hM1⟩ := h1
    obtain rfl := hr1.symm
    obtain rfl := hM1.symm
    refine tr_ifeq (pc := 4) (tgt := 41) dX10_jump_4 (by decide) (fun c4 => ?_) (fun c4 => absurd c4 (by omega))
    refine tr_ldc2 (pc := 41) dX10_jump_41 kn10_271 ⟨by decide, by decide⟩ ?_
    refine tr_lret (pc := 44) dX10_jump_44 rfl ?_
    refine ⟨?_, fQ.rf⟩
    unfold x_jump
    rw [if_pos (Or.inl hi)]
    rfl
theorem gp_map {J : List (Int × Int)} {j : Int} (h0 : 0 ≤ j) (h1 : j < J.length) : gp (J.map red) j = red (gp J j) := by
  unfold gp
  rw [List.getD_eq_getElem?_getD, List.getD_eq_getElem?_getD, List.getElem?_map, List.getElem?_eq_getElem (show j.toNat < J.length by omega)]
  rfl
theorem rj_gp {M : tk_M} {J : List (Int × Int)} {j : Int} (hJ : rj_at M J) (h0 : 0 ≤ j) (h1 : j < M 101 16) : M 114 j = (gp J j).1 ∧ M 115 j = (gp J j).2 := by
  obtain ⟨gj, -⟩ := jr_seg_get J 0 j hJ.1 h0 h1
  rw [Int.sub_zero] at gj
  unfold gp; rw [List.getD_eq_getElem?_getD, gj]; exact ⟨rfl, rfl⟩
theorem sp_X10_jumps {G : tk_G} {M : tk_M} {C : cC} {i j p : Int} (hC : Rg M C) (hnd : cnd C) : Spl G FX10_jumps [xR 101, xI i, xI j, xI p] SF M (fun v M' => v = x_jumps C i j p ∧ fQ M M') := by
  refine Spl.of _ mtX10_jumps nlX10_jumps (Nat.le_of_ble_eq_true rfl) ?_
  show Ok G FX10_jumps 0 [xR 101, xI i, xI j, xI p] [] SF M 0 0 _
  by_cases hi : 0 ≤ i ∧ i ≤ 1
  · skip
    have hsel := hC.sel hi
    have hln := hsel.len
    refine tr_iload_n (pc := 0) dX10_jumps_0 rfl ?_
    refine tr_cSi1 (pc := 1) dX10_jumps_1 mtX10_isIdeal ls10_136 rfl ⟨(Nat.le_of_ble_eq_true rfl), (Nat.le_of_ble_eq_true rfl)⟩ nlX10_isIdeal (Nat.le_of_ble_eq_true rfl) ⟨(Nat.le_of_ble_eq_true rfl), (Nat.le_of_ble_eq_true rfl)⟩ (sp_X10_isIdeal) (fun r1 M1 h1 => ?_)
    obtain ⟨hr1, hM1⟩ := h1
    obtain rfl := hr1.symm
    obtain rfl := hM1.symm
    refine tr_ifeq (pc := 4) (tgt := 26) dX10_jumps_4 (by decide) (fun c4 => absurd c4 (by omega)) (fun c4 => ?_)
    refine tr_iload_n (pc := 7) dX10_jumps_7 rfl ?_
    refine tr_i2l (pc := 8) dX10_jumps_8 ?_
    refine tr_lconst (pc := 9) (x := 0) dX10_jumps_9 (by decide) ⟨by decide, by decide⟩ ?_
    refine tr_lconst (pc := 10) (x := 1) dX10_jumps_10 (by decide) ⟨by decide, by decide⟩ ?_
    refine tr_cSi3 (pc := 11) dX10_jumps_11 mtX10_isFrom ls10_115 rfl ⟨(Nat.le_of_ble_eq_true rfl), (Nat.le_of_ble_eq_true rfl)⟩ nlX10_isFrom (Nat.le_of_ble_eq_true rfl) ⟨(Nat.le_of_ble_eq_true rfl), (Nat.le_of_ble_eq_true rfl)⟩ (sp_X10_isFrom) (fun r11 M11 h11 => ?_)
    obtain ⟨hr11, hM11⟩ := h11
    obtain rfl := hr11.symm
    obtain rfl := hM11.symm
    refine tr_ifeq (pc := 14) (tgt := 26) dX10_jumps_14 (by decide) (fun c14 => ?_) (fun c14 => ?_)
    · skip
      refine tr_ldc2 (pc := 26) dX10_jumps_26 kn10_271 ⟨by decide, by decide⟩ ?_
      refine tr_lret (pc := 29) dX10_jumps_29 rfl ?_
      refine ⟨?_, by first | exact fQ.rf | exact q1⟩
      unfold x_jumps
      first
      | rw [if_neg (by omega), if_neg (by omega), show p = 0 by omega]
      | rw [if_neg (by omega), if_neg (by omega), show p = 1 by omega]
      | rw [if_pos (by omega)]; rfl
      | rw [if_neg (by omega), if_pos (by omega)]; rfl
    · skip
      refine tr_aload_n (pc := 17) dX10_jumps_17 rfl (by decide) ?_
      refine tr_getr (pc := 18) (x := 102) dX10_jumps_18 fi10_11 rfl sg101 rfl ?_
      refine tr_iload_n (pc := 21) dX10_jumps_21 rfl ?_
      refine tr_iald (pc := 22) dX10_jumps_22 sg102 (by omega) (by omega) ?_
      refine tr_ifne (pc := 23) (tgt := 30) dX10_jumps_23 (by decide) (fun c23 => ?_) (fun c23 => ?_)
      · skip
        refine tr_aload_n (pc := 30) dX10_jumps_30 rfl (by decide) ?_
        refine tr_iload_n (pc := 31) dX10_jumps_31 rfl ?_
        refine tr_cVv1 (pc := 32) dX10_jumps_32 mtX10_tellsFaces lv10_166 rfl sg101 kc10 ⟨(Nat.le_of_ble_eq_true rfl), (Nat.le_of_ble_eq_true rfl)⟩ nlX10_tellsFaces (Nat.le_of_ble_eq_true rfl) ⟨(Nat.le_of_ble_eq_true rfl), (Nat.le_of_ble_eq_true rfl)⟩ (sp_X10_tellsFaces (by omega) hsel (rg_ne hsel (by omega)) (hnd.sel i)) (fun M32 h32 => ?_)
        obtain ⟨hF, f1⟩ := h32
        have q1 := fQ.hf f1
        have hFl := hF.len
        refine tr_aload_n (pc := 35) dX10_jumps_35 rfl (by decide) ?_
        refine tr_cVv0 (pc := 36) dX10_jumps_36 mtX10_tellsJumps lv10_254 rfl sg101 kc10 ⟨(Nat.le_of_ble_eq_true rfl), (Nat.le_of_ble_eq_true rfl)⟩ nlX10_tellsJumps (Nat.le_of_ble_eq_true rfl) ⟨(Nat.le_of_ble_eq_true rfl), (Nat.le_of_ble_eq_true rfl)⟩ (sp_X10_tellsJumps hF) (fun M36 h36 => ?_)
        obtain ⟨hJ, f2⟩ := h36
        have hJl := hJ.len
        rw [List.length_map] at hJl
        replace q1 := q1.trans (fQ.jf f2)
        refine tr_iload_n (pc := 39) dX10_jumps_39 rfl ?_
        refine tr_i2l (pc := 40) dX10_jumps_40 ?_
        refine tr_lconst (pc := 41) (x := 0) dX10_jumps_41 (by decide) ⟨by decide, by decide⟩ ?_
        refine tr_aload_n (pc := 42) dX10_jumps_42 rfl (by decide) ?_
        refine tr_geti (pc := 43) (ji := 16) dX10_jumps_43 fi10_257 rfl sg101 rfl ?_
        refine tr_iconst (pc := 46) dX10_jumps_46 ⟨by decide, by decide⟩ ?_
        refine tr_isub (pc := 47) dX10_jumps_47 ⟨by omega, by omega⟩ ?_
        refine tr_i2l (pc := 48) dX10_jumps_48 ?_
        refine tr_cSi3 (pc := 49) dX10_jumps_49 mtX10_isFrom ls10_115 rfl ⟨(Nat.le_of_ble_eq_true rfl), (Nat.le_of_ble_eq_true rfl)⟩ nlX10_isFrom (Nat.le_of_ble_eq_true rfl) ⟨(Nat.le_of_ble_eq_true rfl), (Nat.le_of_ble_eq_true rfl)⟩ (sp_X10_isFrom) (fun r49 M49 h49 => ?_)
        obtain ⟨hr49, hM49⟩ := h49
        obtain rfl := hr49.symm
        obtain rfl := hM49.symm
        refine tr_ifne (pc := 52) (tgt := 61) dX10_jumps_52 (by decide) (fun c52 => ?_) (fun c52 => ?_)
        · skip
          have hgp := rj_gp (j := j) hJ (by omega) (by omega)
          rw [gp_map (by omega) (by omega)] at hgp
          refine tr_iload_n (pc := 61) dX10_jumps_61 rfl ?_
          refine tr_ifne (pc := 62) (tgt := 75) dX10_jumps_62 (by decide) (fun c62 => ?_) (fun c62 => ?_)
          · skip
            refine tr_aload_n (pc := 75) dX10_jumps_75 rfl (by decide) ?_
            refine tr_getr (pc := 76) (x := 115) dX10_jumps_76 fi10_51 rfl sg101 rfl ?_
            refine tr_iload_n (pc := 79) dX10_jumps_79 rfl ?_
            refine tr_ialdv (pc := 80) (x := lows (gp (jr_ga (hl_fc (csel i C)) 100 0 []) j).1 (gp (jr_ga (hl_fc (csel i C)) 100 0 []) j).2 1) dX10_jumps_80 sg115 (by omega) (by omega) (hgp.2) ?_
            refine tr_i2l (pc := 81) dX10_jumps_81 ?_
            refine tr_lret (pc := 82) dX10_jumps_82 rfl ?_
            refine ⟨?_, by first | exact fQ.rf | exact q1⟩
            unfold x_jumps
            first
            | rw [if_neg (by omega), if_neg (by omega), show p = 0 by omega]
            | rw [if_neg (by omega), if_neg (by omega), show p = 1 by omega]
            | rw [if_pos (by omega)]; rfl
            | rw [if_neg (by omega), if_pos (by omega)]; rfl
          · skip
            refine tr_aload_n (pc := 65) dX10_jumps_65 rfl (by decide) ?_
            refine tr_getr (pc := 66) (x := 114) dX10_jumps_66 fi10_48 rfl sg101 rfl ?_
            refine tr_iload_n (pc := 69) dX10_jumps_69 rfl ?_
            refine tr_ialdv (pc := 70) (x := lows (gp (jr_ga (hl_fc (csel i C)) 100 0 []) j).1 (gp (jr_ga (hl_fc (csel i C)) 100 0 []) j).2 0) dX10_jumps_70 sg114 (by omega) (by omega) (hgp.1) ?_
            refine tr_i2l (pc := 71) dX10_jumps_71 ?_
            refine tr_goto (pc := 72) (tgt := 82) dX10_jumps_72 (by decide) ?_
            refine tr_lret (pc := 82) dX10_jumps_82 rfl ?_
            refine ⟨?_, by first | exact fQ.rf | exact q1⟩
            unfold x_jumps
            first
            | rw [if_neg (by omega), if_neg (by omega), show p = 0 by omega]
            | rw [if_neg (by omega), if_neg (by omega), show p = 1 by omega]
            | rw [if_pos (by omega)]; rfl
            | rw [if_neg (by omega), if_pos (by omega)]; rfl
        · skip
          refine tr_ldc2 (pc := 55) dX10_jumps_55 kn10_271 ⟨by decide, by decide⟩ ?_
          refine tr_goto (pc := 58) (tgt := 82) dX10_jumps_58 (by decide) ?_
          refine tr_lret (pc := 82) dX10_jumps_82 rfl ?_
          refine ⟨?_, by first | exact fQ.rf | exact q1⟩
          unfold x_jumps
          first
          | rw [if_neg (by omega), if_neg (by omega), show p = 0 by omega]
          | rw [if_neg (by omega), if_neg (by omega), show p = 1 by omega]
          | rw [if_pos (by omega)]; rfl
          | rw [if_neg (by omega), if_pos (by omega)]; rfl
      · skip
        refine tr_ldc2 (pc := 26) dX10_jumps_26 kn10_271 ⟨by decide, by decide⟩ ?_
        refine tr_lret (pc := 29) dX10_jumps_29 rfl ?_
        refine ⟨?_, by first | exact fQ.rf | exact q1⟩
        unfold x_jumps
        first
        | rw [if_neg (by omega), if_neg (by omega), show p = 0 by omega]
        | rw [if_neg (by omega), if_neg (by omega), show p = 1 by omega]
        | rw [if_pos (by omega)]; rfl
        | rw [if_neg (by omega), if_pos (by omega)]; rfl
  · skip
    refine tr_iload_n (pc := 0) dX10_jumps_0 rfl ?_
    refine tr_cSi1 (pc := 1) dX10_jumps_1 mtX10_isIdeal ls10_136 rfl ⟨(Nat.le_of_ble_eq_true rfl), (Nat.le_of_ble_eq_true rfl)⟩ nlX10_isIdeal (Nat.le_of_ble_eq_true rfl) ⟨(Nat.le_of_ble_eq_true rfl), (Nat.le_of_ble_eq_true rfl)⟩ (sp_X10_isIdeal) (fun r1 M1 h1 => ?_)
    obtain ⟨hr1, hM1⟩ := h1
    obtain rfl := hr1.symm
    obtain rfl := hM1.symm
    refine tr_ifeq (pc := 4) (tgt := 26) dX10_jumps_4 (by decide) (fun c4 => ?_) (fun c4 => absurd c4 (by omega))
    refine tr_ldc2 (pc := 26) dX10_jumps_26 kn10_271 ⟨by decide, by decide⟩ ?_
    refine tr_lret (pc := 29) dX10_jumps_29 rfl ?_
    refine ⟨?_, fQ.rf⟩
    unfold x_jumps
    rw [if_pos (Or.inl hi)]
    rfl
theorem sp_X10_lacking {G : tk_G} {M : tk_M} {r num den : Int} {g : List (Int × Int)} (hr : 0 ≤ r ∧ r ≤ 2) (hg : rg_at M r g) (hne : g ≠ []) (hnd : g.Nodup) (hn : 1 ≤ num ∧ num ≤ 99) (hd : 1 ≤ den ∧ den ≤ 99) : Spi G FX10_lacking [xR 101, xI r, xI num, xI den] SF M (fun v M' => v = cbr (hl_fc g) num den 100 0 0 ∧ rhf M M') := by
  refine Spi.of _ mtX10_lacking nlX10_lacking (Nat.le_of_ble_eq_true rfl) ?_
  show Ok G FX10_lacking 0 [xR 101, xI r, xI num, xI den, xU, xU] [] SF M 0 0 _
  have loop : ∀ (F : List (Int × Int × Int)) (M1 : tk_M), rh_at M1 F → ∀ (d : Nat) (t acc : Int), t + d = 100 → 0 ≤ t → 0 ≤ acc → acc ≤ t → Ok G FX10_lacking 11 [xR 101, xI r, xI num, xI den, xI acc, xI t] [] SF M1 0 0 (tk_qi SF (fun v M' => v = cbr F num den d t acc ∧ M' = M1)) := by
    intro F M1 hF d
    induction d with
    | zero =>
      intro t acc hd ht h0 h1
      refine tr_iload (pc := 11) dX10_lacking_11 rfl ?_
      refine tr_bipush (pc := 13) dX10_lacking_13 ⟨by decide, ⟨by decide, by decide⟩⟩ ?_
      refine tr_icmpge (pc := 15) (tgt := 54) dX10_lacking_15 (by decide) (fun c15 => ?_) (fun c15 => absurd c15 (by omega))
      refine tr_iload (pc := 54) dX10_lacking_54 rfl ?_
      refine tr_ireti (pc := 56) dX10_lacking_56 rfl ?_
      exact ⟨rfl, rfl⟩
    | succ d ih =>
      intro t acc hd ht h0 h1
      have hbr := hl_bar_ge (t / 10) (t % 10) num den F 0 (by omega)
      unfold cbr
      refine tr_iload (pc := 11) dX10_lacking_11 rfl ?_
      refine tr_bipush (pc := 13) dX10_lacking_13 ⟨by decide, ⟨by decide, by decide⟩⟩ ?_
      refine tr_icmpge (pc := 15) (tgt := 54) dX10_lacking_15 (by decide) (fun c15 => absurd c15 (by omega)) (fun c15 => ?_)
      refine tr_iload (pc := 18) dX10_lacking_18 rfl ?_
      refine tr_aload_n (pc := 20) dX10_lacking_20 rfl (by decide) ?_
      refine tr_iload (pc := 21) dX10_lacking_21 rfl ?_
      refine tr_bipush (pc := 23) dX10_lacking_23 ⟨by decide, ⟨by decide, by decide⟩⟩ ?_
      refine tr_idiv (pc := 25) dX10_lacking_25 (by omega) (by omega) ?_
      refine tr_iload (pc := 26) dX10_lacking_26 rfl ?_
      refine tr_bipush (pc := 28) dX10_lacking_28 ⟨by decide, ⟨by decide, by decide⟩⟩ ?_
      refine tr_irem (pc := 30) dX10_lacking_30 (by omega) (by omega) ?_
      refine tr_iload_n (pc := 31) dX10_lacking_31 rfl ?_
      refine tr_iload_n (pc := 32) dX10_lacking_32 rfl ?_
      refine tr_cVi4 (pc := 33) dX10_lacking_33 mtX10_barring lv10_268 rfl sg101 kc10 ⟨(Nat.le_of_ble_eq_true rfl), (Nat.le_of_ble_eq_true rfl)⟩ nlX10_barring (Nat.le_of_ble_eq_true rfl) ⟨(Nat.le_of_ble_eq_true rfl), (Nat.le_of_ble_eq_true rfl)⟩ (sp_X10_barring hF (by omega) (by omega) hn (by omega)) (fun r33 M33 h33 => ?_)
      obtain ⟨hr33, hM33⟩ := h33
      obtain rfl := hr33.symm
      obtain rfl := hM33.symm
      refine tr_iconst (pc := 36) dX10_lacking_36 ⟨by decide, by decide⟩ ?_
      refine tr_icmpne (pc := 37) (tgt := 44) dX10_lacking_37 (by decide) (fun c37 => ?_) (fun c37 => ?_)
      · skip
        refine tr_iconst (pc := 44) dX10_lacking_44 ⟨by decide, by decide⟩ ?_
        refine tr_iadd (pc := 45) dX10_lacking_45 ⟨by omega, by omega⟩ ?_
        refine tr_istore (pc := 46) dX10_lacking_46 rfl (Nat.le_of_ble_eq_true rfl) ?_
        dsimp only [List.set]
        refine tr_iinc (pc := 48) dX10_lacking_48 rfl rfl ⟨by omega, by omega⟩ ?_
        dsimp only [List.set]
        refine tr_goto (pc := 51) (tgt := 11) dX10_lacking_51 (by decide) ?_
        first
        | rw [if_pos (show hl_bar (t / 10) (t % 10) num den 0 F < 0 by omega)]
          have e : acc + 0 = acc := by omega
          rw [e]
          exact ih (t + 1) _ (by omega) (by omega) (by omega) (by omega)
        | rw [if_neg (show ¬ hl_bar (t / 10) (t % 10) num den 0 F < 0 by omega)]
          exact ih (t + 1) _ (by omega) (by omega) (by omega) (by omega)
      · skip
        refine tr_iconst (pc := 40) dX10_lacking_40 ⟨by decide, by decide⟩ ?_
        refine tr_goto (pc := 41) (tgt := 45) dX10_lacking_41 (by decide) ?_
        refine tr_iadd (pc := 45) dX10_lacking_45 ⟨by omega, by omega⟩ ?_
        refine tr_istore (pc := 46) dX10_lacking_46 rfl (Nat.le_of_ble_eq_true rfl) ?_
        dsimp only [List.set]
        refine tr_iinc (pc := 48) dX10_lacking_48 rfl rfl ⟨by omega, by omega⟩ ?_
        dsimp only [List.set]
        refine tr_goto (pc := 51) (tgt := 11) dX10_lacking_51 (by decide) ?_
        first
        | rw [if_pos (show hl_bar (t / 10) (t % 10) num den 0 F < 0 by omega)]
          have e : acc + 0 = acc := by omega
          rw [e]
          exact ih (t + 1) _ (by omega) (by omega) (by omega) (by omega)
        | rw [if_neg (show ¬ hl_bar (t / 10) (t % 10) num den 0 F < 0 by omega)]
          exact ih (t + 1) _ (by omega) (by omega) (by omega) (by omega)
  refine tr_aload_n (pc := 0) dX10_lacking_0 rfl (by decide) ?_
  refine tr_iload_n (pc := 1) dX10_lacking_1 rfl ?_
  refine tr_cVv1 (pc := 2) dX10_lacking_2 mtX10_tellsFaces lv10_166 rfl sg101 kc10 ⟨(Nat.le_of_ble_eq_true rfl), (Nat.le_of_ble_eq_true rfl)⟩ nlX10_tellsFaces (Nat.le_of_ble_eq_true rfl) ⟨(Nat.le_of_ble_eq_true rfl), (Nat.le_of_ble_eq_true rfl)⟩ (sp_X10_tellsFaces hr hg hne hnd) (fun M2 h2 => ?_)
  obtain ⟨hF, f1⟩ := h2
  refine tr_iconst (pc := 5) dX10_lacking_5 ⟨by decide, by decide⟩ ?_
  refine tr_istore (pc := 6) dX10_lacking_6 rfl (Nat.le_of_ble_eq_true rfl) ?_
  dsimp only [List.set]
  refine tr_iconst (pc := 8) dX10_lacking_8 ⟨by decide, by decide⟩ ?_
  refine tr_istore (pc := 9) dX10_lacking_9 rfl (Nat.le_of_ble_eq_true rfl) ?_
  dsimp only [List.set]
  exact tk_mono (loop _ M2 hF 100 0 0 (by omega) (by omega) (by omega) (by omega)) (fun v M1 h => ⟨h.1, by rw [h.2]; exact f1⟩)
theorem sp_X10_lacks {G : tk_G} {M : tk_M} {C : cC} {i num den : Int} (hC : Rg M C) (hnd : cnd C) : Spi G FX10_lacks [xR 101, xI i, xI num, xI den] SF M (fun v M' => v = x_lacks C i num den ∧ fQ M M') := by
  refine Spi.of _ mtX10_lacks nlX10_lacks (Nat.le_of_ble_eq_true rfl) ?_
  show Ok G FX10_lacks 0 [xR 101, xI i, xI num, xI den] [] SF M 0 0 _
  by_cases hi : 0 ≤ i ∧ i ≤ 1
  · skip
    have hsel := hC.sel hi
    have hln := hsel.len
    refine tr_iload_n (pc := 0) dX10_lacks_0 rfl ?_
    refine tr_cSi1 (pc := 1) dX10_lacks_1 mtX10_isIdeal ls10_136 rfl ⟨(Nat.le_of_ble_eq_true rfl), (Nat.le_of_ble_eq_true rfl)⟩ nlX10_isIdeal (Nat.le_of_ble_eq_true rfl) ⟨(Nat.le_of_ble_eq_true rfl), (Nat.le_of_ble_eq_true rfl)⟩ (sp_X10_isIdeal) (fun r1 M1 h1 => ?_)
    obtain ⟨hr1, hM1⟩ := h1
    obtain rfl := hr1.symm
    obtain rfl := hM1.symm
    refine tr_ifne (pc := 4) (tgt := 9) dX10_lacks_4 (by decide) (fun c4 => ?_) (fun c4 => absurd c4 (by omega))
    refine tr_iload_n (pc := 9) dX10_lacks_9 rfl ?_
    refine tr_iload_n (pc := 10) dX10_lacks_10 rfl ?_
    refine tr_cSi2 (pc := 11) dX10_lacks_11 mtX10_isFraction ls10_265 rfl ⟨(Nat.le_of_ble_eq_true rfl), (Nat.le_of_ble_eq_true rfl)⟩ nlX10_isFraction (Nat.le_of_ble_eq_true rfl) ⟨(Nat.le_of_ble_eq_true rfl), (Nat.le_of_ble_eq_true rfl)⟩ (sp_X10_isFraction) (fun r11 M11 h11 => ?_)
    obtain ⟨hr11, hM11⟩ := h11
    obtain rfl := hr11.symm
    obtain rfl := hM11.symm
    refine tr_ifne (pc := 14) (tgt := 20) dX10_lacks_14 (by decide) (fun c14 => ?_) (fun c14 => ?_)
    · skip
      refine tr_aload_n (pc := 20) dX10_lacks_20 rfl (by decide) ?_
      refine tr_getr (pc := 21) (x := 102) dX10_lacks_21 fi10_11 rfl sg101 rfl ?_
      refine tr_iload_n (pc := 24) dX10_lacks_24 rfl ?_
      refine tr_iald (pc := 25) dX10_lacks_25 sg102 (by omega) (by omega) ?_
      refine tr_ifne (pc := 26) (tgt := 34) dX10_lacks_26 (by decide) (fun c26 => ?_) (fun c26 => ?_)
      · skip
        refine tr_aload_n (pc := 34) dX10_lacks_34 rfl (by decide) ?_
        refine tr_iload_n (pc := 35) dX10_lacks_35 rfl ?_
        refine tr_iload_n (pc := 36) dX10_lacks_36 rfl ?_
        refine tr_iload_n (pc := 37) dX10_lacks_37 rfl ?_
        refine tr_cVi3 (pc := 38) dX10_lacks_38 mtX10_lacking lv10_283 rfl sg101 kc10 ⟨(Nat.le_of_ble_eq_true rfl), (Nat.le_of_ble_eq_true rfl)⟩ nlX10_lacking (Nat.le_of_ble_eq_true rfl) ⟨(Nat.le_of_ble_eq_true rfl), (Nat.le_of_ble_eq_true rfl)⟩ (sp_X10_lacking (by omega) hsel (rg_ne hsel (by omega)) (hnd.sel i) (by omega) (by omega)) (fun r38 M38 h38 => ?_)
        obtain ⟨hr38, f1⟩ := h38
        obtain rfl := hr38.symm
        have q1 := fQ.hf f1
        refine tr_ireti (pc := 41) dX10_lacks_41 rfl ?_
        refine ⟨?_, by first | exact fQ.rf | exact q1⟩
        unfold x_lacks
        repeat' split
        all_goals first | rfl | omega
      · skip
        refine tr_bipush (pc := 29) dX10_lacks_29 ⟨by decide, ⟨by decide, by decide⟩⟩ ?_
        refine tr_goto (pc := 31) (tgt := 41) dX10_lacks_31 (by decide) ?_
        refine tr_ireti (pc := 41) dX10_lacks_41 rfl ?_
        refine ⟨?_, by first | exact fQ.rf | exact q1⟩
        unfold x_lacks
        repeat' split
        all_goals first | rfl | omega
    · skip
      refine tr_bipush (pc := 17) dX10_lacks_17 ⟨by decide, ⟨by decide, by decide⟩⟩ ?_
      refine tr_ireti (pc := 19) dX10_lacks_19 rfl ?_
      refine ⟨?_, by first | exact fQ.rf | exact q1⟩
      unfold x_lacks
      repeat' split
      all_goals first | rfl | omega
  · skip
    refine tr_iload_n (pc := 0) dX10_lacks_0 rfl ?_
    refine tr_cSi1 (pc := 1) dX10_lacks_1 mtX10_isIdeal ls10_136 rfl ⟨(Nat.le_of_ble_eq_true rfl), (Nat.le_of_ble_eq_true rfl)⟩ nlX10_isIdeal (Nat.le_of_ble_eq_true rfl) ⟨(Nat.le_of_ble_eq_true rfl), (Nat.le_of_ble_eq_true rfl)⟩ (sp_X10_isIdeal) (fun r1 M1 h1 => ?_)
    obtain ⟨hr1, hM1⟩ := h1
    obtain rfl := hr1.symm
    obtain rfl := hM1.symm
    refine tr_ifne (pc := 4) (tgt := 9) dX10_lacks_4 (by decide) (fun c4 => absurd c4 (by omega)) (fun c4 => ?_)
    refine tr_iconst (pc := 7) dX10_lacks_7 ⟨by decide, by decide⟩ ?_
    refine tr_ireti (pc := 8) dX10_lacks_8 rfl ?_
    refine ⟨?_, fQ.rf⟩
    unfold x_lacks
    rw [if_pos hi]
theorem sp_X10_odds {G : tk_G} {M : tk_M} {C : cC} {i num den p : Int} (hC : Rg M C) (hnd : cnd C) : Spl G FX10_odds [xR 101, xI i, xI num, xI den, xI p] SF M (fun v M' => v = x_odds C i num den p ∧ fQ M M') := by
  refine Spl.of _ mtX10_odds nlX10_odds (Nat.le_of_ble_eq_true rfl) ?_
  show Ok G FX10_odds 0 [xR 101, xI i, xI num, xI den, xI p] [] SF M 0 0 _
  by_cases hi : 0 ≤ i ∧ i ≤ 1
  · skip
    have hsel := hC.sel hi
    have hln := hsel.len
    have hcb := cbr_bd (hl_fc (csel i C)) num den 100 0 0
    refine tr_iload_n (pc := 0) dX10_odds_0 rfl ?_
    refine tr_cSi1 (pc := 1) dX10_odds_1 mtX10_isIdeal ls10_136 rfl ⟨(Nat.le_of_ble_eq_true rfl), (Nat.le_of_ble_eq_true rfl)⟩ nlX10_isIdeal (Nat.le_of_ble_eq_true rfl) ⟨(Nat.le_of_ble_eq_true rfl), (Nat.le_of_ble_eq_true rfl)⟩ (sp_X10_isIdeal) (fun r1 M1 h1 => ?_)
    obtain ⟨hr1, hM1⟩ := h1
    obtain rfl := hr1.symm
    obtain rfl := hM1.symm
    refine tr_ifeq (pc := 4) (tgt := 35) dX10_odds_4 (by decide) (fun c4 => absurd c4 (by omega)) (fun c4 => ?_)
    refine tr_iload_n (pc := 7) dX10_odds_7 rfl ?_
    refine tr_iload_n (pc := 8) dX10_odds_8 rfl ?_
    refine tr_cSi2 (pc := 9) dX10_odds_9 mtX10_isFraction ls10_265 rfl ⟨(Nat.le_of_ble_eq_true rfl), (Nat.le_of_ble_eq_true rfl)⟩ nlX10_isFraction (Nat.le_of_ble_eq_true rfl) ⟨(Nat.le_of_ble_eq_true rfl), (Nat.le_of_ble_eq_true rfl)⟩ (sp_X10_isFraction) (fun r9 M9 h9 => ?_)
    obtain ⟨hr9, hM9⟩ := h9
    obtain rfl := hr9.symm
    obtain rfl := hM9.symm
    refine tr_ifeq (pc := 12) (tgt := 35) dX10_odds_12 (by decide) (fun c12 => ?_) (fun c12 => ?_)
    · skip
      refine tr_ldc2 (pc := 35) dX10_odds_35 kn10_271 ⟨by decide, by decide⟩ ?_
      refine tr_lret (pc := 38) dX10_odds_38 rfl ?_
      refine ⟨?_, by first | exact fQ.rf | exact q1⟩
      unfold x_odds
      repeat' split
      all_goals first | rfl | omega
    · skip
      refine tr_iload (pc := 15) dX10_odds_15 rfl ?_
      refine tr_i2l (pc := 17) dX10_odds_17 ?_
      refine tr_lconst (pc := 18) (x := 0) dX10_odds_18 (by decide) ⟨by decide, by decide⟩ ?_
      refine tr_lconst (pc := 19) (x := 1) dX10_odds_19 (by decide) ⟨by decide, by decide⟩ ?_
      refine tr_cSi3 (pc := 20) dX10_odds_20 mtX10_isFrom ls10_115 rfl ⟨(Nat.le_of_ble_eq_true rfl), (Nat.le_of_ble_eq_true rfl)⟩ nlX10_isFrom (Nat.le_of_ble_eq_true rfl) ⟨(Nat.le_of_ble_eq_true rfl), (Nat.le_of_ble_eq_true rfl)⟩ (sp_X10_isFrom) (fun r20 M20 h20 => ?_)
      obtain ⟨hr20, hM20⟩ := h20
      obtain rfl := hr20.symm
      obtain rfl := hM20.symm
      refine tr_ifeq (pc := 23) (tgt := 35) dX10_odds_23 (by decide) (fun c23 => ?_) (fun c23 => ?_)
      · skip
        refine tr_ldc2 (pc := 35) dX10_odds_35 kn10_271 ⟨by decide, by decide⟩ ?_
        refine tr_lret (pc := 38) dX10_odds_38 rfl ?_
        refine ⟨?_, by first | exact fQ.rf | exact q1⟩
        unfold x_odds
        repeat' split
        all_goals first | rfl | omega
      · skip
        refine tr_aload_n (pc := 26) dX10_odds_26 rfl (by decide) ?_
        refine tr_getr (pc := 27) (x := 102) dX10_odds_27 fi10_11 rfl sg101 rfl ?_
        refine tr_iload_n (pc := 30) dX10_odds_30 rfl ?_
        refine tr_iald (pc := 31) dX10_odds_31 sg102 (by omega) (by omega) ?_
        refine tr_ifne (pc := 32) (tgt := 39) dX10_odds_32 (by decide) (fun c32 => ?_) (fun c32 => ?_)
        · skip
          refine tr_bipush (pc := 39) dX10_odds_39 ⟨by decide, ⟨by decide, by decide⟩⟩ ?_
          refine tr_aload_n (pc := 41) dX10_odds_41 rfl (by decide) ?_
          refine tr_iload_n (pc := 42) dX10_odds_42 rfl ?_
          refine tr_iload_n (pc := 43) dX10_odds_43 rfl ?_
          refine tr_iload_n (pc := 44) dX10_odds_44 rfl ?_
          refine tr_cVi3 (pc := 45) dX10_odds_45 mtX10_lacking lv10_283 rfl sg101 kc10 ⟨(Nat.le_of_ble_eq_true rfl), (Nat.le_of_ble_eq_true rfl)⟩ nlX10_lacking (Nat.le_of_ble_eq_true rfl) ⟨(Nat.le_of_ble_eq_true rfl), (Nat.le_of_ble_eq_true rfl)⟩ (sp_X10_lacking (by omega) hsel (rg_ne hsel (by omega)) (hnd.sel i) (by omega) (by omega)) (fun r45 M45 h45 => ?_)
          obtain ⟨hr45, f1⟩ := h45
          obtain rfl := hr45.symm
          have q1 := fQ.hf f1
          refine tr_isub (pc := 48) dX10_odds_48 ⟨by omega, by omega⟩ ?_
          refine tr_i2l (pc := 49) dX10_odds_49 ?_
          refine tr_ldc2 (pc := 50) dX10_odds_50 kn10_326 ⟨by decide, by decide⟩ ?_
          refine tr_iload (pc := 53) dX10_odds_53 rfl ?_
          refine tr_cSl3 (pc := 55) dX10_odds_55 mtX10_part ls10_276 rfl ⟨(Nat.le_of_ble_eq_true rfl), (Nat.le_of_ble_eq_true rfl)⟩ nlX10_part (Nat.le_of_ble_eq_true rfl) ⟨(Nat.le_of_ble_eq_true rfl), (Nat.le_of_ble_eq_true rfl)⟩ (sp_X10_part (by omega) (by omega) (by omega) (by omega)) (fun r55 M55 h55 => ?_)
          obtain ⟨hr55, hM55⟩ := h55
          obtain rfl := hr55.symm
          obtain rfl := hM55.symm
          refine tr_lret (pc := 58) dX10_odds_58 rfl ?_
          refine ⟨?_, by first | exact fQ.rf | exact q1⟩
          unfold x_odds
          repeat' split
          all_goals first | rfl | omega
        · skip
          refine tr_ldc2 (pc := 35) dX10_odds_35 kn10_271 ⟨by decide, by decide⟩ ?_
          refine tr_lret (pc := 38) dX10_odds_38 rfl ?_
          refine ⟨?_, by first | exact fQ.rf | exact q1⟩
          unfold x_odds
          repeat' split
          all_goals first | rfl | omega
  · skip
    refine tr_iload_n (pc := 0) dX10_odds_0 rfl ?_
    refine tr_cSi1 (pc := 1) dX10_odds_1 mtX10_isIdeal ls10_136 rfl ⟨(Nat.le_of_ble_eq_true rfl), (Nat.le_of_ble_eq_true rfl)⟩ nlX10_isIdeal (Nat.le_of_ble_eq_true rfl) ⟨(Nat.le_of_ble_eq_true rfl), (Nat.le_of_ble_eq_true rfl)⟩ (sp_X10_isIdeal) (fun r1 M1 h1 => ?_)
    obtain ⟨hr1, hM1⟩ := h1
    obtain rfl := hr1.symm
    obtain rfl := hM1.symm
    refine tr_ifeq (pc := 4) (tgt := 35) dX10_odds_4 (by decide) (fun c4 => ?_) (fun c4 => absurd c4 (by omega))
    refine tr_ldc2 (pc := 35) dX10_odds_35 kn10_271 ⟨by decide, by decide⟩ ?_
    refine tr_lret (pc := 38) dX10_odds_38 rfl ?_
    refine ⟨?_, fQ.rf⟩
    unfold x_odds
    rw [if_pos (Or.inl hi)]
    rfl
theorem sp_X10_mean {G : tk_G} {M : tk_M} {C : cC} {i p : Int} (hC : Rg M C) : Spl G FX10_mean [xR 101, xI i, xI p] SF M (fun v M' => v = x_mean C i p ∧ fQ M M') := by
  refine Spl.of _ mtX10_mean nlX10_mean (Nat.le_of_ble_eq_true rfl) ?_
  show Ok G FX10_mean 0 [xR 101, xI i, xI p, xU, xU] [] SF M 0 0 _
  by_cases hi : 0 ≤ i ∧ i ≤ 1
  · skip
    have hsel := hC.sel hi
    have hln := hsel.len
    have hsb := ig_sum_bd (csel i C) 0 hsel.bd
    have loop : (csel i C).length ≠ 0 → (0 ≤ p ∧ p ≤ 1) → ∀ (h : List (Int × Int)) (k acc : Int), 0 ≤ k → 0 ≤ acc → acc ≤ 18 * k → ig_seg (fun k => M 103 (6 * i + k)) (fun k => M 104 (6 * i + k)) (M 102 i) k h → ig_sum acc h = ig_sum 0 (csel i C) → Ok G FX10_mean 35 [xR 101, xI i, xI p, xI acc, xI k] [] SF M 0 0 (tk_ql SF (fun v M' => v = x_mean C i p ∧ fQ M M')) := by
      intro hne hp h
      induction h with
      | nil =>
        intro k acc hk h0 h1 hs hsum
        have hs : k = M 102 i := hs
        have hsum : acc = ig_sum 0 (csel i C) := hsum
        refine tr_iload (pc := 35) dX10_mean_35 rfl ?_
        refine tr_aload_n (pc := 37) dX10_mean_37 rfl (by decide) ?_
        refine tr_getr (pc := 38) (x := 102) dX10_mean_38 fi10_11 rfl sg101 rfl ?_
        refine tr_iload_n (pc := 41) dX10_mean_41 rfl ?_
        refine tr_iald (pc := 42) dX10_mean_42 sg102 (by omega) (by omega) ?_
        refine tr_icmpge (pc := 43) (tgt := 70) dX10_mean_43 (by decide) (fun c43 => ?_) (fun c43 => absurd c43 (by omega))
        refine tr_iload_n (pc := 70) dX10_mean_70 rfl ?_
        refine tr_i2l (pc := 71) dX10_mean_71 ?_
        refine tr_aload_n (pc := 72) dX10_mean_72 rfl (by decide) ?_
        refine tr_getr (pc := 73) (x := 102) dX10_mean_73 fi10_11 rfl sg101 rfl ?_
        refine tr_iload_n (pc := 76) dX10_mean_76 rfl ?_
        refine tr_iald (pc := 77) dX10_mean_77 sg102 (by omega) (by omega) ?_
        refine tr_i2l (pc := 78) dX10_mean_78 ?_
        refine tr_iload_n (pc := 79) dX10_mean_79 rfl ?_
        refine tr_cSl3 (pc := 80) dX10_mean_80 mtX10_part ls10_276 rfl ⟨(Nat.le_of_ble_eq_true rfl), (Nat.le_of_ble_eq_true rfl)⟩ nlX10_part (Nat.le_of_ble_eq_true rfl) ⟨(Nat.le_of_ble_eq_true rfl), (Nat.le_of_ble_eq_true rfl)⟩ (sp_X10_part (by omega) (by omega) (by omega) (by omega)) (fun r80 M80 h80 => ?_)
        obtain ⟨hr80, hM80⟩ := h80
        obtain rfl := hr80.symm
        obtain rfl := hM80.symm
        refine tr_lret (pc := 83) dX10_mean_83 rfl ?_
        refine ⟨?_, fQ.rf⟩
        unfold x_mean
        rw [if_neg (by omega), if_neg (by omega), hsum, hln.1]
      | cons q t ih =>
        intro k acc hk h0 h1 hs hsum
        obtain ⟨p', q⟩ := q
        obtain ⟨e1, e2, b1, b2, b3, b4, hlt, hs⟩ := hs
        have hsum : ig_sum (acc + (p' + q)) t = ig_sum 0 (csel i C) := hsum
        refine tr_iload (pc := 35) dX10_mean_35 rfl ?_
        refine tr_aload_n (pc := 37) dX10_mean_37 rfl (by decide) ?_
        refine tr_getr (pc := 38) (x := 102) dX10_mean_38 fi10_11 rfl sg101 rfl ?_
        refine tr_iload_n (pc := 41) dX10_mean_41 rfl ?_
        refine tr_iald (pc := 42) dX10_mean_42 sg102 (by omega) (by omega) ?_
        refine tr_icmpge (pc := 43) (tgt := 70) dX10_mean_43 (by decide) (fun c43 => absurd c43 (by omega)) (fun c43 => ?_)
        refine tr_iload_n (pc := 46) dX10_mean_46 rfl ?_
        refine tr_aload_n (pc := 47) dX10_mean_47 rfl (by decide) ?_
        refine tr_iload_n (pc := 48) dX10_mean_48 rfl ?_
        refine tr_iload (pc := 49) dX10_mean_49 rfl ?_
        refine tr_cVi2 (pc := 51) dX10_mean_51 mtX10_a lv10_125 rfl sg101 kc10 ⟨(Nat.le_of_ble_eq_true rfl), (Nat.le_of_ble_eq_true rfl)⟩ nlX10_a (Nat.le_of_ble_eq_true rfl) ⟨(Nat.le_of_ble_eq_true rfl), (Nat.le_of_ble_eq_true rfl)⟩ (sp_ra (by omega) hk (by omega) e1) (fun r51 M51 h51 => ?_)
        obtain ⟨hr51, hM51⟩ := h51
        obtain rfl := hr51.symm
        obtain rfl := hM51.symm
        refine tr_aload_n (pc := 54) dX10_mean_54 rfl (by decide) ?_
        refine tr_iload_n (pc := 55) dX10_mean_55 rfl ?_
        refine tr_iload (pc := 56) dX10_mean_56 rfl ?_
        refine tr_cVi2 (pc := 58) dX10_mean_58 mtX10_b lv10_129 rfl sg101 kc10 ⟨(Nat.le_of_ble_eq_true rfl), (Nat.le_of_ble_eq_true rfl)⟩ nlX10_b (Nat.le_of_ble_eq_true rfl) ⟨(Nat.le_of_ble_eq_true rfl), (Nat.le_of_ble_eq_true rfl)⟩ (sp_rb (by omega) hk (by omega) e2) (fun r58 M58 h58 => ?_)
        obtain ⟨hr58, hM58⟩ := h58
        obtain rfl := hr58.symm
        obtain rfl := hM58.symm
        refine tr_iadd (pc := 61) dX10_mean_61 ⟨by omega, by omega⟩ ?_
        refine tr_iadd (pc := 62) dX10_mean_62 ⟨by omega, by omega⟩ ?_
        refine tr_istore_n (pc := 63) dX10_mean_63 rfl (Nat.le_of_ble_eq_true rfl) ?_
        dsimp only [List.set]
        refine tr_iinc (pc := 64) dX10_mean_64 rfl rfl ⟨by omega, by omega⟩ ?_
        dsimp only [List.set]
        refine tr_goto (pc := 67) (tgt := 35) dX10_mean_67 (by decide) ?_
        exact ih (k + 1) _ (by omega) (by omega) (by omega) hs hsum
    refine tr_iload_n (pc := 0) dX10_mean_0 rfl ?_
    refine tr_cSi1 (pc := 1) dX10_mean_1 mtX10_isIdeal ls10_136 rfl ⟨(Nat.le_of_ble_eq_true rfl), (Nat.le_of_ble_eq_true rfl)⟩ nlX10_isIdeal (Nat.le_of_ble_eq_true rfl) ⟨(Nat.le_of_ble_eq_true rfl), (Nat.le_of_ble_eq_true rfl)⟩ (sp_X10_isIdeal) (fun r1 M1 h1 => ?_)
    obtain ⟨hr1, hM1⟩ := h1
    obtain rfl := hr1.symm
    obtain rfl := hM1.symm
    refine tr_ifeq (pc := 4) (tgt := 26) dX10_mean_4 (by decide) (fun c4 => absurd c4 (by omega)) (fun c4 => ?_)
    refine tr_iload_n (pc := 7) dX10_mean_7 rfl ?_
    refine tr_i2l (pc := 8) dX10_mean_8 ?_
    refine tr_lconst (pc := 9) (x := 0) dX10_mean_9 (by decide) ⟨by decide, by decide⟩ ?_
    refine tr_lconst (pc := 10) (x := 1) dX10_mean_10 (by decide) ⟨by decide, by decide⟩ ?_
    refine tr_cSi3 (pc := 11) dX10_mean_11 mtX10_isFrom ls10_115 rfl ⟨(Nat.le_of_ble_eq_true rfl), (Nat.le_of_ble_eq_true rfl)⟩ nlX10_isFrom (Nat.le_of_ble_eq_true rfl) ⟨(Nat.le_of_ble_eq_true rfl), (Nat.le_of_ble_eq_true rfl)⟩ (sp_X10_isFrom) (fun r11 M11 h11 => ?_)
    obtain ⟨hr11, hM11⟩ := h11
    obtain rfl := hr11.symm
    obtain rfl := hM11.symm
    refine tr_ifeq (pc := 14) (tgt := 26) dX10_mean_14 (by decide) (fun c14 => ?_) (fun c14 => ?_)
    · skip
      refine tr_ldc2 (pc := 26) dX10_mean_26 kn10_271 ⟨by decide, by decide⟩ ?_
      refine tr_lret (pc := 29) dX10_mean_29 rfl ?_
      refine ⟨?_, fQ.rf⟩
      unfold x_mean
      repeat' split
      all_goals first | rfl | omega
    · skip
      refine tr_aload_n (pc := 17) dX10_mean_17 rfl (by decide) ?_
      refine tr_getr (pc := 18) (x := 102) dX10_mean_18 fi10_11 rfl sg101 rfl ?_
      refine tr_iload_n (pc := 21) dX10_mean_21 rfl ?_
      refine tr_iald (pc := 22) dX10_mean_22 sg102 (by omega) (by omega) ?_
      refine tr_ifne (pc := 23) (tgt := 30) dX10_mean_23 (by decide) (fun c23 => ?_) (fun c23 => ?_)
      · skip
        refine tr_iconst (pc := 30) dX10_mean_30 ⟨by decide, by decide⟩ ?_
        refine tr_istore_n (pc := 31) dX10_mean_31 rfl (Nat.le_of_ble_eq_true rfl) ?_
        dsimp only [List.set]
        refine tr_iconst (pc := 32) dX10_mean_32 ⟨by decide, by decide⟩ ?_
        refine tr_istore (pc := 33) dX10_mean_33 rfl (Nat.le_of_ble_eq_true rfl) ?_
        dsimp only [List.set]
        exact loop (by omega) (by omega) _ 0 0 (by omega) (by omega) (by omega) hsel.1 rfl
      · skip
        refine tr_ldc2 (pc := 26) dX10_mean_26 kn10_271 ⟨by decide, by decide⟩ ?_
        refine tr_lret (pc := 29) dX10_mean_29 rfl ?_
        refine ⟨?_, fQ.rf⟩
        unfold x_mean
        repeat' split
        all_goals first | rfl | omega
  · skip
    refine tr_iload_n (pc := 0) dX10_mean_0 rfl ?_
    refine tr_cSi1 (pc := 1) dX10_mean_1 mtX10_isIdeal ls10_136 rfl ⟨(Nat.le_of_ble_eq_true rfl), (Nat.le_of_ble_eq_true rfl)⟩ nlX10_isIdeal (Nat.le_of_ble_eq_true rfl) ⟨(Nat.le_of_ble_eq_true rfl), (Nat.le_of_ble_eq_true rfl)⟩ (sp_X10_isIdeal) (fun r1 M1 h1 => ?_)
    obtain ⟨hr1, hM1⟩ := h1
    obtain rfl := hr1.symm
    obtain rfl := hM1.symm
    refine tr_ifeq (pc := 4) (tgt := 26) dX10_mean_4 (by decide) (fun c4 => ?_) (fun c4 => absurd c4 (by omega))
    refine tr_ldc2 (pc := 26) dX10_mean_26 kn10_271 ⟨by decide, by decide⟩ ?_
    refine tr_lret (pc := 29) dX10_mean_29 rfl ?_
    refine ⟨?_, fQ.rf⟩
    unfold x_mean
    rw [if_pos (Or.inl hi)]
    rfl
