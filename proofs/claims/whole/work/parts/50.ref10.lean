theorem rdA01 (h : List (Int × Int)) : ∀ g, rdA h g = 0 ∨ rdA h g = 1 := by
  intro g
  induction g with
  | nil => exact Or.inr rfl
  | cons q t ih => obtain ⟨p, q⟩ := q; unfold rdA; split; exact Or.inl rfl; exact ih
theorem rdB01 (F : List (Int × Int × Int)) : ∀ g, rdB F g = 0 ∨ rdB F g = 1 := by
  intro g
  induction g with
  | nil => exact Or.inr rfl
  | cons q t ih => obtain ⟨p, q⟩ := q; unfold rdB; split; exact Or.inl rfl; exact ih
theorem sp_X10_isReduction {G : tk_G} {M : tk_M} {C : cC} (hC : Rg M C) (hnd : cnd C) : Spi G FX10_isReduction [xR 101] SF M (fun v M' => v = x_red C ∧ fQ M M') := by
  obtain ⟨c1, c2, -⟩ := hC
  have l1 := c1.len
  have l2 := c2.len
  have h16 := c1.2
  have h26 := c2.2
  refine Spi.of _ mtX10_isReduction nlX10_isReduction (Nat.le_of_ble_eq_true rfl) ?_
  show Ok G FX10_isReduction 0 [xR 101, xU, xU] [] SF M 0 0 _
  have loopB : ∀ (F : List (Int × Int × Int)) (M1 : tk_M), rh_at M1 F → rg_at M1 1 C.2.1 → ∀ (h : List (Int × Int)) (k is : Int), 0 ≤ k → (is = 0 ∨ is = 1) → ig_seg (fun k => M1 103 (6 * 1 + k)) (fun k => M1 104 (6 * 1 + k)) (M1 102 1) k h → Ok G FX10_isReduction 77 [xR 101, xI is, xI k] [] SF M1 0 0 (tk_qi SF (fun v M' => v = (if is = 0 then 0 else rdB F h) ∧ M' = M1)) := by
    intro F M1 hF h5 h
    have h56 := h5.2
    induction h with
    | nil =>
      intro k is hk his hs
      have hs : k = M1 102 1 := hs
      refine tr_iload_n (pc := 77) dX10_isReduction_77 rfl ?_
      refine tr_aload_n (pc := 78) dX10_isReduction_78 rfl (by decide) ?_
      refine tr_getr (pc := 79) (x := 102) dX10_isReduction_79 fi10_11 rfl sg101 rfl ?_
      refine tr_iconst (pc := 82) dX10_isReduction_82 ⟨by decide, by decide⟩ ?_
      refine tr_iald (pc := 83) dX10_isReduction_83 sg102 (by omega) (by omega) ?_
      refine tr_icmpge (pc := 84) (tgt := 122) dX10_isReduction_84 (by decide) (fun c84 => ?_) (fun c84 => absurd c84 (by omega))
      refine tr_iload_n (pc := 122) dX10_isReduction_122 rfl ?_
      refine tr_iretz (pc := 123) dX10_isReduction_123 rfl (by omega) ?_
      refine ⟨?_, rfl⟩
      unfold rdB
      omega
    | cons q t ih =>
      intro k is hk his hs
      obtain ⟨p, q⟩ := q
      obtain ⟨e1, e2, b1, b2, b3, b4, hlt, hs⟩ := hs
      have hcv := hl_cov01 p q F
      unfold rdB
      refine tr_iload_n (pc := 77) dX10_isReduction_77 rfl ?_
      refine tr_aload_n (pc := 78) dX10_isReduction_78 rfl (by decide) ?_
      refine tr_getr (pc := 79) (x := 102) dX10_isReduction_79 fi10_11 rfl sg101 rfl ?_
      refine tr_iconst (pc := 82) dX10_isReduction_82 ⟨by decide, by decide⟩ ?_
      refine tr_iald (pc := 83) dX10_isReduction_83 sg102 (by omega) (by omega) ?_
      refine tr_icmpge (pc := 84) (tgt := 122) dX10_isReduction_84 (by decide) (fun c84 => absurd c84 (by omega)) (fun c84 => ?_)
      refine tr_iload_n (pc := 87) dX10_isReduction_87 rfl ?_
      refine tr_ifeq (pc := 88) (tgt := 114) dX10_isReduction_88 (by decide) (fun c88 => ?_) (fun c88 => ?_)
      · skip
        refine tr_iconst (pc := 114) dX10_isReduction_114 ⟨by decide, by decide⟩ ?_
        refine tr_istore_n (pc := 115) dX10_isReduction_115 rfl (Nat.le_of_ble_eq_true rfl) ?_
        dsimp only [List.set]
        refine tr_iinc (pc := 116) dX10_isReduction_116 rfl rfl ⟨by omega, by omega⟩ ?_
        dsimp only [List.set]
        refine tr_goto (pc := 119) (tgt := 77) dX10_isReduction_119 (by decide) ?_
        first
        | rw [if_pos (show is = 0 by omega)]
          exact tk_mono (ih (k + 1) 0 (by omega) (Or.inl rfl) hs) (fun v M1 h => ⟨by rw [h.1, if_pos rfl], h.2⟩)
        | rw [if_neg (show ¬ is = 0 by omega), if_pos (show hl_cov p q F = 0 by omega)]
          exact tk_mono (ih (k + 1) 0 (by omega) (Or.inl rfl) hs) (fun v M1 h => ⟨by rw [h.1, if_pos rfl], h.2⟩)
        | rw [if_neg (show ¬ is = 0 by omega), if_neg (show ¬ hl_cov p q F = 0 by omega)]
          exact tk_mono (ih (k + 1) 1 (by omega) (Or.inr rfl) hs) (fun v M1 h => ⟨by rw [h.1, if_neg (by decide)], h.2⟩)
      · skip
        refine tr_aload_n (pc := 91) dX10_isReduction_91 rfl (by decide) ?_
        refine tr_aload_n (pc := 92) dX10_isReduction_92 rfl (by decide) ?_
        refine tr_iconst (pc := 93) dX10_isReduction_93 ⟨by decide, by decide⟩ ?_
        refine tr_iload_n (pc := 94) dX10_isReduction_94 rfl ?_
        refine tr_cVi2 (pc := 95) dX10_isReduction_95 mtX10_a lv10_125 rfl sg101 kc10 ⟨(Nat.le_of_ble_eq_true rfl), (Nat.le_of_ble_eq_true rfl)⟩ nlX10_a (Nat.le_of_ble_eq_true rfl) ⟨(Nat.le_of_ble_eq_true rfl), (Nat.le_of_ble_eq_true rfl)⟩ (sp_ra (by omega) hk (by omega) e1) (fun r95 M95 h95 => ?_)
        obtain ⟨hr95, hM95⟩ := h95
        obtain rfl := hr95.symm
        obtain rfl := hM95.symm
        refine tr_aload_n (pc := 98) dX10_isReduction_98 rfl (by decide) ?_
        refine tr_iconst (pc := 99) dX10_isReduction_99 ⟨by decide, by decide⟩ ?_
        refine tr_iload_n (pc := 100) dX10_isReduction_100 rfl ?_
        refine tr_cVi2 (pc := 101) dX10_isReduction_101 mtX10_b lv10_129 rfl sg101 kc10 ⟨(Nat.le_of_ble_eq_true rfl), (Nat.le_of_ble_eq_true rfl)⟩ nlX10_b (Nat.le_of_ble_eq_true rfl) ⟨(Nat.le_of_ble_eq_true rfl), (Nat.le_of_ble_eq_true rfl)⟩ (sp_rb (by omega) hk (by omega) e2) (fun r101 M101 h101 => ?_)
        obtain ⟨hr101, hM101⟩ := h101
        obtain rfl := hr101.symm
        obtain rfl := hM101.symm
        refine tr_cVi2 (pc := 104) dX10_isReduction_104 mtX10_isInHull lv10_163 rfl sg101 kc10 ⟨(Nat.le_of_ble_eq_true rfl), (Nat.le_of_ble_eq_true rfl)⟩ nlX10_isInHull (Nat.le_of_ble_eq_true rfl) ⟨(Nat.le_of_ble_eq_true rfl), (Nat.le_of_ble_eq_true rfl)⟩ (sp_X10_isInHull hF (by omega) (by omega)) (fun r104 M104 h104 => ?_)
        obtain ⟨hr104, hM104⟩ := h104
        obtain rfl := hr104.symm
        obtain rfl := hM104.symm
        refine tr_ifeq (pc := 107) (tgt := 114) dX10_isReduction_107 (by decide) (fun c107 => ?_) (fun c107 => ?_)
        · skip
          refine tr_iconst (pc := 114) dX10_isReduction_114 ⟨by decide, by decide⟩ ?_
          refine tr_istore_n (pc := 115) dX10_isReduction_115 rfl (Nat.le_of_ble_eq_true rfl) ?_
          dsimp only [List.set]
          refine tr_iinc (pc := 116) dX10_isReduction_116 rfl rfl ⟨by omega, by omega⟩ ?_
          dsimp only [List.set]
          refine tr_goto (pc := 119) (tgt := 77) dX10_isReduction_119 (by decide) ?_
          first
          | rw [if_pos (show is = 0 by omega)]
            exact tk_mono (ih (k + 1) 0 (by omega) (Or.inl rfl) hs) (fun v M1 h => ⟨by rw [h.1, if_pos rfl], h.2⟩)
          | rw [if_neg (show ¬ is = 0 by omega), if_pos (show hl_cov p q F = 0 by omega)]
            exact tk_mono (ih (k + 1) 0 (by omega) (Or.inl rfl) hs) (fun v M1 h => ⟨by rw [h.1, if_pos rfl], h.2⟩)
          | rw [if_neg (show ¬ is = 0 by omega), if_neg (show ¬ hl_cov p q F = 0 by omega)]
            exact tk_mono (ih (k + 1) 1 (by omega) (Or.inr rfl) hs) (fun v M1 h => ⟨by rw [h.1, if_neg (by decide)], h.2⟩)
        · skip
          refine tr_iconst (pc := 110) dX10_isReduction_110 ⟨by decide, by decide⟩ ?_
          refine tr_goto (pc := 111) (tgt := 115) dX10_isReduction_111 (by decide) ?_
          refine tr_istore_n (pc := 115) dX10_isReduction_115 rfl (Nat.le_of_ble_eq_true rfl) ?_
          dsimp only [List.set]
          refine tr_iinc (pc := 116) dX10_isReduction_116 rfl rfl ⟨by omega, by omega⟩ ?_
          dsimp only [List.set]
          refine tr_goto (pc := 119) (tgt := 77) dX10_isReduction_119 (by decide) ?_
          first
          | rw [if_pos (show is = 0 by omega)]
            exact tk_mono (ih (k + 1) 0 (by omega) (Or.inl rfl) hs) (fun v M1 h => ⟨by rw [h.1, if_pos rfl], h.2⟩)
          | rw [if_neg (show ¬ is = 0 by omega), if_pos (show hl_cov p q F = 0 by omega)]
            exact tk_mono (ih (k + 1) 0 (by omega) (Or.inl rfl) hs) (fun v M1 h => ⟨by rw [h.1, if_pos rfl], h.2⟩)
          | rw [if_neg (show ¬ is = 0 by omega), if_neg (show ¬ hl_cov p q F = 0 by omega)]
            exact tk_mono (ih (k + 1) 1 (by omega) (Or.inr rfl) hs) (fun v M1 h => ⟨by rw [h.1, if_neg (by decide)], h.2⟩)
  have loopA : ¬ (C.1.length = 0 ∨ C.2.1.length = 0) → ∀ (h : List (Int × Int)) (k is : Int), 0 ≤ k → (is = 0 ∨ is = 1) → ig_seg (fun k => M 103 (6 * 0 + k)) (fun k => M 104 (6 * 0 + k)) (M 102 0) k h → Ok G FX10_isReduction 24 [xR 101, xI is, xI k] [] SF M 0 0 (tk_qi SF (fun v M' => v = (if is = 0 then 0 else if rdA C.2.1 h = 0 then 0 else rdB (hl_fc C.1) C.2.1) ∧ fQ M M')) := by
    intro hne h
    induction h with
    | nil =>
      intro k is hk his hs
      have hs : k = M 102 0 := hs
      refine tr_iload_n (pc := 24) dX10_isReduction_24 rfl ?_
      refine tr_aload_n (pc := 25) dX10_isReduction_25 rfl (by decide) ?_
      refine tr_getr (pc := 26) (x := 102) dX10_isReduction_26 fi10_11 rfl sg101 rfl ?_
      refine tr_iconst (pc := 29) dX10_isReduction_29 ⟨by decide, by decide⟩ ?_
      refine tr_iald (pc := 30) dX10_isReduction_30 sg102 (by omega) (by omega) ?_
      refine tr_icmpge (pc := 31) (tgt := 70) dX10_isReduction_31 (by decide) (fun c31 => ?_) (fun c31 => absurd c31 (by omega))
      refine tr_aload_n (pc := 70) dX10_isReduction_70 rfl (by decide) ?_
      refine tr_iconst (pc := 71) dX10_isReduction_71 ⟨by decide, by decide⟩ ?_
      refine tr_cVv1 (pc := 72) dX10_isReduction_72 mtX10_tellsFaces lv10_166 rfl sg101 kc10 ⟨(Nat.le_of_ble_eq_true rfl), (Nat.le_of_ble_eq_true rfl)⟩ nlX10_tellsFaces (Nat.le_of_ble_eq_true rfl) ⟨(Nat.le_of_ble_eq_true rfl), (Nat.le_of_ble_eq_true rfl)⟩ (sp_X10_tellsFaces (by omega) c1 (fun h => hne (Or.inl (by rw [h]; rfl))) hnd.1) (fun M72 h72 => ?_)
      obtain ⟨hF, f1⟩ := h72
      have c21 := c2.hf f1
      refine tr_iconst (pc := 75) dX10_isReduction_75 ⟨by decide, by decide⟩ ?_
      refine tr_istore_n (pc := 76) dX10_isReduction_76 rfl (Nat.le_of_ble_eq_true rfl) ?_
      dsimp only [List.set]
      refine tk_mono (loopB _ M72 hF c21 _ 0 is (by omega) his c21.1) (fun v M1 h => ⟨?_, by rw [h.2]; exact fQ.hf f1⟩)
      rw [h.1, if_neg (show ¬ rdA C.2.1 [] = 0 by show ¬ (1 : Int) = 0; decide)]
    | cons q t ih =>
      intro k is hk his hs
      obtain ⟨p, q⟩ := q
      obtain ⟨e1, e2, b1, b2, b3, b4, hlt, hs⟩ := hs
      have hin := ig_in01 p q C.2.1
      unfold rdA
      refine tr_iload_n (pc := 24) dX10_isReduction_24 rfl ?_
      refine tr_aload_n (pc := 25) dX10_isReduction_25 rfl (by decide) ?_
      refine tr_getr (pc := 26) (x := 102) dX10_isReduction_26 fi10_11 rfl sg101 rfl ?_
      refine tr_iconst (pc := 29) dX10_isReduction_29 ⟨by decide, by decide⟩ ?_
      refine tr_iald (pc := 30) dX10_isReduction_30 sg102 (by omega) (by omega) ?_
      refine tr_icmpge (pc := 31) (tgt := 70) dX10_isReduction_31 (by decide) (fun c31 => absurd c31 (by omega)) (fun c31 => ?_)
      refine tr_iload_n (pc := 34) dX10_isReduction_34 rfl ?_
      refine tr_ifeq (pc := 35) (tgt := 62) dX10_isReduction_35 (by decide) (fun c35 => ?_) (fun c35 => ?_)
      · skip
        refine tr_iconst (pc := 62) dX10_isReduction_62 ⟨by decide, by decide⟩ ?_
        refine tr_istore_n (pc := 63) dX10_isReduction_63 rfl (Nat.le_of_ble_eq_true rfl) ?_
        dsimp only [List.set]
        refine tr_iinc (pc := 64) dX10_isReduction_64 rfl rfl ⟨by omega, by omega⟩ ?_
        dsimp only [List.set]
        refine tr_goto (pc := 67) (tgt := 24) dX10_isReduction_67 (by decide) ?_
        first
        | rw [if_pos (show is = 0 by omega)]
          exact tk_mono (ih (k + 1) 0 (by omega) (Or.inl rfl) hs) (fun v M1 h => ⟨by rw [h.1, if_pos rfl], h.2⟩)
        | rw [if_neg (show ¬ is = 0 by omega), if_pos (show ig_in p q C.2.1 = 0 by omega), if_pos rfl]
          exact tk_mono (ih (k + 1) 0 (by omega) (Or.inl rfl) hs) (fun v M1 h => ⟨by rw [h.1, if_pos rfl], h.2⟩)
        | rw [if_neg (show ¬ is = 0 by omega), if_neg (show ¬ ig_in p q C.2.1 = 0 by omega)]
          exact tk_mono (ih (k + 1) 1 (by omega) (Or.inr rfl) hs) (fun v M1 h => ⟨by rw [h.1, if_neg (by decide)], h.2⟩)
      · skip
        refine tr_aload_n (pc := 38) dX10_isReduction_38 rfl (by decide) ?_
        refine tr_iconst (pc := 39) dX10_isReduction_39 ⟨by decide, by decide⟩ ?_
        refine tr_aload_n (pc := 40) dX10_isReduction_40 rfl (by decide) ?_
        refine tr_iconst (pc := 41) dX10_isReduction_41 ⟨by decide, by decide⟩ ?_
        refine tr_iload_n (pc := 42) dX10_isReduction_42 rfl ?_
        refine tr_cVi2 (pc := 43) dX10_isReduction_43 mtX10_a lv10_125 rfl sg101 kc10 ⟨(Nat.le_of_ble_eq_true rfl), (Nat.le_of_ble_eq_true rfl)⟩ nlX10_a (Nat.le_of_ble_eq_true rfl) ⟨(Nat.le_of_ble_eq_true rfl), (Nat.le_of_ble_eq_true rfl)⟩ (sp_ra (by omega) hk (by omega) e1) (fun r43 M43 h43 => ?_)
        obtain ⟨hr43, hM43⟩ := h43
        obtain rfl := hr43.symm
        obtain rfl := hM43.symm
        refine tr_aload_n (pc := 46) dX10_isReduction_46 rfl (by decide) ?_
        refine tr_iconst (pc := 47) dX10_isReduction_47 ⟨by decide, by decide⟩ ?_
        refine tr_iload_n (pc := 48) dX10_isReduction_48 rfl ?_
        refine tr_cVi2 (pc := 49) dX10_isReduction_49 mtX10_b lv10_129 rfl sg101 kc10 ⟨(Nat.le_of_ble_eq_true rfl), (Nat.le_of_ble_eq_true rfl)⟩ nlX10_b (Nat.le_of_ble_eq_true rfl) ⟨(Nat.le_of_ble_eq_true rfl), (Nat.le_of_ble_eq_true rfl)⟩ (sp_rb (by omega) hk (by omega) e2) (fun r49 M49 h49 => ?_)
        obtain ⟨hr49, hM49⟩ := h49
        obtain rfl := hr49.symm
        obtain rfl := hM49.symm
        refine tr_cVi3 (pc := 52) dX10_isReduction_52 mtX10_isWithin lv10_234 rfl sg101 kc10 ⟨(Nat.le_of_ble_eq_true rfl), (Nat.le_of_ble_eq_true rfl)⟩ nlX10_isWithin (Nat.le_of_ble_eq_true rfl) ⟨(Nat.le_of_ble_eq_true rfl), (Nat.le_of_ble_eq_true rfl)⟩ (sp_X10_isWithin (by omega) c2) (fun r52 M52 h52 => ?_)
        obtain ⟨hr52, hM52⟩ := h52
        obtain rfl := hr52.symm
        obtain rfl := hM52.symm
        refine tr_ifeq (pc := 55) (tgt := 62) dX10_isReduction_55 (by decide) (fun c55 => ?_) (fun c55 => ?_)
        · skip
          refine tr_iconst (pc := 62) dX10_isReduction_62 ⟨by decide, by decide⟩ ?_
          refine tr_istore_n (pc := 63) dX10_isReduction_63 rfl (Nat.le_of_ble_eq_true rfl) ?_
          dsimp only [List.set]
          refine tr_iinc (pc := 64) dX10_isReduction_64 rfl rfl ⟨by omega, by omega⟩ ?_
          dsimp only [List.set]
          refine tr_goto (pc := 67) (tgt := 24) dX10_isReduction_67 (by decide) ?_
          first
          | rw [if_pos (show is = 0 by omega)]
            exact tk_mono (ih (k + 1) 0 (by omega) (Or.inl rfl) hs) (fun v M1 h => ⟨by rw [h.1, if_pos rfl], h.2⟩)
          | rw [if_neg (show ¬ is = 0 by omega), if_pos (show ig_in p q C.2.1 = 0 by omega), if_pos rfl]
            exact tk_mono (ih (k + 1) 0 (by omega) (Or.inl rfl) hs) (fun v M1 h => ⟨by rw [h.1, if_pos rfl], h.2⟩)
          | rw [if_neg (show ¬ is = 0 by omega), if_neg (show ¬ ig_in p q C.2.1 = 0 by omega)]
            exact tk_mono (ih (k + 1) 1 (by omega) (Or.inr rfl) hs) (fun v M1 h => ⟨by rw [h.1, if_neg (by decide)], h.2⟩)
        · skip
          refine tr_iconst (pc := 58) dX10_isReduction_58 ⟨by decide, by decide⟩ ?_
          refine tr_goto (pc := 59) (tgt := 63) dX10_isReduction_59 (by decide) ?_
          refine tr_istore_n (pc := 63) dX10_isReduction_63 rfl (Nat.le_of_ble_eq_true rfl) ?_
          dsimp only [List.set]
          refine tr_iinc (pc := 64) dX10_isReduction_64 rfl rfl ⟨by omega, by omega⟩ ?_
          dsimp only [List.set]
          refine tr_goto (pc := 67) (tgt := 24) dX10_isReduction_67 (by decide) ?_
          first
          | rw [if_pos (show is = 0 by omega)]
            exact tk_mono (ih (k + 1) 0 (by omega) (Or.inl rfl) hs) (fun v M1 h => ⟨by rw [h.1, if_pos rfl], h.2⟩)
          | rw [if_neg (show ¬ is = 0 by omega), if_pos (show ig_in p q C.2.1 = 0 by omega), if_pos rfl]
            exact tk_mono (ih (k + 1) 0 (by omega) (Or.inl rfl) hs) (fun v M1 h => ⟨by rw [h.1, if_pos rfl], h.2⟩)
          | rw [if_neg (show ¬ is = 0 by omega), if_neg (show ¬ ig_in p q C.2.1 = 0 by omega)]
            exact tk_mono (ih (k + 1) 1 (by omega) (Or.inr rfl) hs) (fun v M1 h => ⟨by rw [h.1, if_neg (by decide)], h.2⟩)
  unfold x_red
  refine tr_aload_n (pc := 0) dX10_isReduction_0 rfl (by decide) ?_
  refine tr_getr (pc := 1) (x := 102) dX10_isReduction_1 fi10_11 rfl sg101 rfl ?_
  refine tr_iconst (pc := 4) dX10_isReduction_4 ⟨by decide, by decide⟩ ?_
  refine tr_iald (pc := 5) dX10_isReduction_5 sg102 (by omega) (by omega) ?_
  refine tr_ifeq (pc := 6) (tgt := 18) dX10_isReduction_6 (by decide) (fun c6 => ?_) (fun c6 => ?_)
  · skip
    refine tr_iconst (pc := 18) dX10_isReduction_18 ⟨by decide, by decide⟩ ?_
    refine tr_iretz (pc := 19) dX10_isReduction_19 rfl (by omega) ?_
    rw [if_pos (by omega)]
    exact ⟨rfl, fQ.rf⟩
  · skip
    refine tr_aload_n (pc := 9) dX10_isReduction_9 rfl (by decide) ?_
    refine tr_getr (pc := 10) (x := 102) dX10_isReduction_10 fi10_11 rfl sg101 rfl ?_
    refine tr_iconst (pc := 13) dX10_isReduction_13 ⟨by decide, by decide⟩ ?_
    refine tr_iald (pc := 14) dX10_isReduction_14 sg102 (by omega) (by omega) ?_
    refine tr_ifne (pc := 15) (tgt := 20) dX10_isReduction_15 (by decide) (fun c15 => ?_) (fun c15 => ?_)
    · skip
      refine tr_iconst (pc := 20) dX10_isReduction_20 ⟨by decide, by decide⟩ ?_
      refine tr_istore_n (pc := 21) dX10_isReduction_21 rfl (Nat.le_of_ble_eq_true rfl) ?_
      dsimp only [List.set]
      refine tr_iconst (pc := 22) dX10_isReduction_22 ⟨by decide, by decide⟩ ?_
      refine tr_istore_n (pc := 23) dX10_isReduction_23 rfl (Nat.le_of_ble_eq_true rfl) ?_
      dsimp only [List.set]
      rw [if_neg (by omega)]
      exact tk_mono (loopA (by omega) _ 0 1 (by omega) (Or.inr rfl) c1.1) (fun v M1 h => ⟨by rw [h.1, if_neg (by decide)], h.2⟩)
    · skip
      refine tr_iconst (pc := 18) dX10_isReduction_18 ⟨by decide, by decide⟩ ?_
      refine tr_iretz (pc := 19) dX10_isReduction_19 rfl (by omega) ?_
      rw [if_pos (by omega)]
      exact ⟨rfl, fQ.rf⟩
theorem fQ.kf {M M1 : tk_M} (h : ∀ c : Int, c ≠ 118 → M1 c = M c) : fQ M M1 := ⟨fun c a => h c (by omega), fun j _ _ _ => by rw [h 101 (by omega)], fun j _ => by rw [h 102 (by omega)], fun p _ => by rw [h 103 (by omega), h 104 (by omega)]; exact ⟨rfl, rfl⟩⟩
theorem rg_at.kf {M M1 : tk_M} {i : Int} {g : List (Int × Int)} (h : rg_at M i g) (hf : ∀ c : Int, c ≠ 118 → M1 c = M c) : rg_at M1 i g := h.same (hf _ (by omega)) (hf _ (by omega)) (hf _ (by omega))
/-- the rows that isMetBy holds against each other -/
def yA (g0 g1 : List (Int × Int)) (r : Nat) : Int → Int := pm (hmc 1000 g0 (hmq g1 r h00))
def yB (g1 : List (Int × Int)) (r : Nat) : Int → Int := pm (hmq g1 r h00)
theorem sp_X10_isMetBy {G : tk_G} {M : tk_M} {C : cC} {r : Int} (hC : Rg M C) (hr : 0 ≤ r ∧ r ≤ 5) : Spi G FX10_isMetBy [xR 101, xI r] SF M (fun v M' => ((v = 1 ∧ ∀ x, 0 ≤ x → x ≤ 71 → yA C.1 C.2.1 r.toNat x = yB C.2.1 (r.toNat + 1) x) ∨ (v = 0 ∧ ¬ ∀ x, 0 ≤ x → x ≤ 71 → yA C.1 C.2.1 r.toNat x = yB C.2.1 (r.toNat + 1) x)) ∧ fQ M M') := by
  obtain ⟨c1, c2, -⟩ := hC
  have b1 := c1.bd
  have b2 := c2.bd
  refine Spi.of _ mtX10_isMetBy nlX10_isMetBy (Nat.le_of_ble_eq_true rfl) ?_
  show Ok G FX10_isMetBy 0 [xR 101, xI r, xU, xU] [] SF M 0 0 _
  have loop2 : ∀ (A B : Int → Int) (M1 : tk_M), (∀ x, 0 ≤ x → x ≤ 71 → M1 118 x = A x) → rt_at M1 B → ∀ (d : Nat) (x is : Int), x + d = 72 → 0 ≤ x → ((is = 1 ∧ ∀ y, 0 ≤ y → y < x → A y = B y) ∨ (is = 0 ∧ ¬ ∀ y, 0 ≤ y → y ≤ 71 → A y = B y)) → Ok G FX10_isMetBy 57 [xR 101, xI r, xI is, xI x] [] SF M1 0 0 (tk_qi SF (fun v M' => ((v = 1 ∧ ∀ y, 0 ≤ y → y ≤ 71 → A y = B y) ∨ (v = 0 ∧ ¬ ∀ y, 0 ≤ y → y ≤ 71 → A y = B y)) ∧ M' = M1)) := by
    intro A B M1 hA hB d
    induction d with
    | zero =>
      intro x is hd hx his
      have h01 : is = 0 ∨ is = 1 := his.elim (fun h => Or.inr h.1) (fun h => Or.inl h.1)
      refine tr_iload_n (pc := 57) dX10_isMetBy_57 rfl ?_
      refine tr_bipush (pc := 58) dX10_isMetBy_58 ⟨by decide, ⟨by decide, by decide⟩⟩ ?_
      refine tr_icmpge (pc := 60) (tgt := 94) dX10_isMetBy_60 (by decide) (fun c60 => ?_) (fun c60 => absurd c60 (by omega))
      refine tr_iload_n (pc := 94) dX10_isMetBy_94 rfl ?_
      refine tr_iretz (pc := 95) dX10_isMetBy_95 rfl (by omega) ?_
      refine ⟨?_, rfl⟩
      rcases his with h | h
      · exact Or.inl ⟨h.1, fun y y0 y1 => h.2 y y0 (by omega)⟩
      · exact Or.inr h
    | succ d ih =>
      intro x is hd hx his
      refine tr_iload_n (pc := 57) dX10_isMetBy_57 rfl ?_
      refine tr_bipush (pc := 58) dX10_isMetBy_58 ⟨by decide, ⟨by decide, by decide⟩⟩ ?_
      refine tr_icmpge (pc := 60) (tgt := 94) dX10_isMetBy_60 (by decide) (fun c60 => absurd c60 (by omega)) (fun c60 => ?_)
      refine tr_iload_n (pc := 63) dX10_isMetBy_63 rfl ?_
      refine tr_ifeq (pc := 64) (tgt := 86) dX10_isMetBy_64 (by decide) (fun c64 => ?_) (fun c64 => ?_)
      · skip
        refine tr_iconst (pc := 86) dX10_isMetBy_86 ⟨by decide, by decide⟩ ?_
        refine tr_istore_n (pc := 87) dX10_isMetBy_87 rfl (Nat.le_of_ble_eq_true rfl) ?_
        dsimp only [List.set]
        refine tr_iinc (pc := 88) dX10_isMetBy_88 rfl rfl ⟨by omega, by omega⟩ ?_
        dsimp only [List.set]
        refine tr_goto (pc := 91) (tgt := 57) dX10_isMetBy_91 (by decide) ?_
        refine ih (x + 1) _ (by omega) (by omega) ?_
        rcases his with ⟨h1, h2⟩ | ⟨h1, h2⟩
        · by_cases hx9 : A x = B x
          · first
            | exact Or.inl ⟨rfl, fun y y0 y1 => by
                by_cases hy : y = x
                · rw [hy]; exact hx9
                · exact h2 y y0 (by omega)⟩
            | omega
          · first
            | exact Or.inr ⟨rfl, fun h => hx9 (h x (by omega) (by omega))⟩
            | omega
        · first
          | exact Or.inr ⟨rfl, h2⟩
          | omega
      · skip
        refine tr_aload_n (pc := 67) dX10_isMetBy_67 rfl (by decide) ?_
        refine tr_getr (pc := 68) (x := 118) dX10_isMetBy_68 fi10_60 rfl sg101 rfl ?_
        refine tr_iload_n (pc := 71) dX10_isMetBy_71 rfl ?_
        refine tr_ialdv (pc := 72) (x := A x) dX10_isMetBy_72 sg118 (by omega) (by omega) (hA x (by omega) (by omega)) ?_
        refine tr_aload_n (pc := 73) dX10_isMetBy_73 rfl (by decide) ?_
        refine tr_getr (pc := 74) (x := 116) dX10_isMetBy_74 fi10_54 rfl sg101 rfl ?_
        refine tr_iload_n (pc := 77) dX10_isMetBy_77 rfl ?_
        refine tr_ialdv (pc := 78) (x := B x) dX10_isMetBy_78 sg116 (by omega) (by omega) (hB x (by omega) (by omega)) ?_
        refine tr_icmpne (pc := 79) (tgt := 86) dX10_isMetBy_79 (by decide) (fun c79 => ?_) (fun c79 => ?_)
        · skip
          refine tr_iconst (pc := 86) dX10_isMetBy_86 ⟨by decide, by decide⟩ ?_
          refine tr_istore_n (pc := 87) dX10_isMetBy_87 rfl (Nat.le_of_ble_eq_true rfl) ?_
          dsimp only [List.set]
          refine tr_iinc (pc := 88) dX10_isMetBy_88 rfl rfl ⟨by omega, by omega⟩ ?_
          dsimp only [List.set]
          refine tr_goto (pc := 91) (tgt := 57) dX10_isMetBy_91 (by decide) ?_
          refine ih (x + 1) _ (by omega) (by omega) ?_
          rcases his with ⟨h1, h2⟩ | ⟨h1, h2⟩
          · by_cases hx9 : A x = B x
            · first
              | exact Or.inl ⟨rfl, fun y y0 y1 => by
                  by_cases hy : y = x
                  · rw [hy]; exact hx9
                  · exact h2 y y0 (by omega)⟩
              | omega
            · first
              | exact Or.inr ⟨rfl, fun h => hx9 (h x (by omega) (by omega))⟩
              | omega
          · first
            | exact Or.inr ⟨rfl, h2⟩
            | omega
        · skip
          refine tr_iconst (pc := 82) dX10_isMetBy_82 ⟨by decide, by decide⟩ ?_
          refine tr_goto (pc := 83) (tgt := 87) dX10_isMetBy_83 (by decide) ?_
          refine tr_istore_n (pc := 87) dX10_isMetBy_87 rfl (Nat.le_of_ble_eq_true rfl) ?_
          dsimp only [List.set]
          refine tr_iinc (pc := 88) dX10_isMetBy_88 rfl rfl ⟨by omega, by omega⟩ ?_
          dsimp only [List.set]
          refine tr_goto (pc := 91) (tgt := 57) dX10_isMetBy_91 (by decide) ?_
          refine ih (x + 1) _ (by omega) (by omega) ?_
          rcases his with ⟨h1, h2⟩ | ⟨h1, h2⟩
          · by_cases hx9 : A x = B x
            · first
              | exact Or.inl ⟨rfl, fun y y0 y1 => by
                  by_cases hy : y = x
                  · rw [hy]; exact hx9
                  · exact h2 y y0 (by omega)⟩
              | omega
            · first
              | exact Or.inr ⟨rfl, fun h => hx9 (h x (by omega) (by omega))⟩
              | omega
          · first
            | exact Or.inr ⟨rfl, h2⟩
            | omega
  have loop1 : ∀ (A : Int → Int) (M0 : tk_M), rt_at M0 A → ∀ (d : Nat) (x : Int) (v3 : tk_V) (M1 : tk_M), x + d = 72 → 0 ≤ x → (∀ y, 0 ≤ y → y < x → M1 118 y = A y) → (∀ c, c ≠ 118 → M1 c = M0 c) → rtf M M0 → Ok G FX10_isMetBy 17 [xR 101, xI r, xI x, v3] [] SF M1 0 0 (tk_qi SF (fun v M' => ((v = 1 ∧ ∀ y, 0 ≤ y → y ≤ 71 → A y = yB C.2.1 (r.toNat + 1) y) ∨ (v = 0 ∧ ¬ ∀ y, 0 ≤ y → y ≤ 71 → A y = yB C.2.1 (r.toNat + 1) y)) ∧ fQ M M')) := by
    intro A M0 hA d
    induction d with
    | zero =>
      intro x v3 M1 hd hx a1 f1 f0
      have c21 : rg_at M1 1 C.2.1 := (c2.tf f0).kf f1
      refine tr_iload_n (pc := 17) dX10_isMetBy_17 rfl ?_
      refine tr_bipush (pc := 18) dX10_isMetBy_18 ⟨by decide, ⟨by decide, by decide⟩⟩ ?_
      refine tr_icmpge (pc := 20) (tgt := 41) dX10_isMetBy_20 (by decide) (fun c20 => ?_) (fun c20 => absurd c20 (by omega))
      refine tr_aload_n (pc := 41) dX10_isMetBy_41 rfl (by decide) ?_
      refine tr_iconst (pc := 42) dX10_isMetBy_42 ⟨by decide, by decide⟩ ?_
      refine tr_iload_n (pc := 43) dX10_isMetBy_43 rfl ?_
      refine tr_iconst (pc := 44) dX10_isMetBy_44 ⟨by decide, by decide⟩ ?_
      refine tr_iadd (pc := 45) dX10_isMetBy_45 ⟨by omega, by omega⟩ ?_
      refine tr_cVv2 (pc := 46) dX10_isMetBy_46 mtX10_powers lv10_295 rfl sg101 kc10 ⟨(Nat.le_of_ble_eq_true rfl), (Nat.le_of_ble_eq_true rfl)⟩ nlX10_powers (Nat.le_of_ble_eq_true rfl) ⟨(Nat.le_of_ble_eq_true rfl), (Nat.le_of_ble_eq_true rfl)⟩ (sp_X10_powers (by omega) c21 (by omega)) (fun M46 h46 => ?_)
      obtain ⟨h9, bb9, f9⟩ := h46
      refine tr_aload_n (pc := 49) dX10_isMetBy_49 rfl (by decide) ?_
      refine tr_cVv0 (pc := 50) dX10_isMetBy_50 mtX10_settles lv10_292 rfl sg101 kc10 ⟨(Nat.le_of_ble_eq_true rfl), (Nat.le_of_ble_eq_true rfl)⟩ nlX10_settles (Nat.le_of_ble_eq_true rfl) ⟨(Nat.le_of_ble_eq_true rfl), (Nat.le_of_ble_eq_true rfl)⟩ (sp_X10_settles h9) (fun M50 h50 => ?_)
      obtain ⟨h8, f8⟩ := h50
      rw [show (r + 1).toNat = r.toNat + 1 by omega] at h8
      refine tr_iconst (pc := 53) dX10_isMetBy_53 ⟨by decide, by decide⟩ ?_
      refine tr_istore_n (pc := 54) dX10_isMetBy_54 rfl (Nat.le_of_ble_eq_true rfl) ?_
      dsimp only [List.set]
      refine tr_iconst (pc := 55) dX10_isMetBy_55 ⟨by decide, by decide⟩ ?_
      refine tr_istore_n (pc := 56) dX10_isMetBy_56 rfl (Nat.le_of_ble_eq_true rfl) ?_
      dsimp only [List.set]
      exact tk_mono (loop2 A (yB C.2.1 (r.toNat + 1)) M50 (fun y y0 y1 => by rw [f8 118 (by omega), f9 118 (by omega)]; exact a1 y y0 (by omega)) h8 72 0 1 (by omega) (by omega) (Or.inl ⟨rfl, fun y y0 y1 => by omega⟩)) (fun v M2 h => ⟨h.1, by rw [h.2]; exact ((fQ.tf f0).trans (fQ.kf f1)).trans ((fQ.tf f9).trans (fQ.tf f8))⟩)
    | succ d ih =>
      intro x v3 M1 hd hx a1 f1 f0
      refine tr_iload_n (pc := 17) dX10_isMetBy_17 rfl ?_
      refine tr_bipush (pc := 18) dX10_isMetBy_18 ⟨by decide, ⟨by decide, by decide⟩⟩ ?_
      refine tr_icmpge (pc := 20) (tgt := 41) dX10_isMetBy_20 (by decide) (fun c20 => absurd c20 (by omega)) (fun c20 => ?_)
      refine tr_aload_n (pc := 23) dX10_isMetBy_23 rfl (by decide) ?_
      refine tr_getr (pc := 24) (x := 118) dX10_isMetBy_24 fi10_60 rfl sg101 rfl ?_
      refine tr_iload_n (pc := 27) dX10_isMetBy_27 rfl ?_
      refine tr_aload_n (pc := 28) dX10_isMetBy_28 rfl (by decide) ?_
      refine tr_getr (pc := 29) (x := 116) dX10_isMetBy_29 fi10_54 rfl sg101 rfl ?_
      refine tr_iload_n (pc := 32) dX10_isMetBy_32 rfl ?_
      refine tr_ialdv (pc := 33) (x := A x) dX10_isMetBy_33 sg116 (by omega) (by omega) (by rw [f1 116 (by omega)]; exact hA x (by omega) (by omega)) ?_
      refine tr_iast (pc := 34) dX10_isMetBy_34 sg118 (by omega) (by omega) ?_
      refine tr_iinc (pc := 35) dX10_isMetBy_35 rfl rfl ⟨by omega, by omega⟩ ?_
      dsimp only [List.set]
      refine tr_goto (pc := 38) (tgt := 17) dX10_isMetBy_38 (by decide) ?_
      refine ih (x + 1) _ _ (by omega) (by omega) (fun y y0 y1 => ?_) (fun c hc => (tk_mu_c hc).trans (f1 c hc)) f0
      by_cases hy : y = x
      · subst hy; rw [tk_mu_at]
      · rw [tk_mu_i hy]; exact a1 y y0 (by omega)
  refine tr_aload_n (pc := 0) dX10_isMetBy_0 rfl (by decide) ?_
  refine tr_iconst (pc := 1) dX10_isMetBy_1 ⟨by decide, by decide⟩ ?_
  refine tr_iload_n (pc := 2) dX10_isMetBy_2 rfl ?_
  refine tr_cVv2 (pc := 3) dX10_isMetBy_3 mtX10_powers lv10_295 rfl sg101 kc10 ⟨(Nat.le_of_ble_eq_true rfl), (Nat.le_of_ble_eq_true rfl)⟩ nlX10_powers (Nat.le_of_ble_eq_true rfl) ⟨(Nat.le_of_ble_eq_true rfl), (Nat.le_of_ble_eq_true rfl)⟩ (sp_X10_powers (by omega) c2 (by omega)) (fun M3 h3 => ?_)
  obtain ⟨h9, bb9, f9⟩ := h3
  refine tr_aload_n (pc := 6) dX10_isMetBy_6 rfl (by decide) ?_
  refine tr_iconst (pc := 7) dX10_isMetBy_7 ⟨by decide, by decide⟩ ?_
  refine tr_cVv1 (pc := 8) dX10_isMetBy_8 mtX10_times lv10_289 rfl sg101 kc10 ⟨(Nat.le_of_ble_eq_true rfl), (Nat.le_of_ble_eq_true rfl)⟩ nlX10_times (Nat.le_of_ble_eq_true rfl) ⟨(Nat.le_of_ble_eq_true rfl), (Nat.le_of_ble_eq_true rfl)⟩ (sp_X10_times (by omega) (c1.tf f9) h9 bb9) (fun M8 h8 => ?_)
  obtain ⟨h8, f8⟩ := h8
  refine tr_aload_n (pc := 11) dX10_isMetBy_11 rfl (by decide) ?_
  refine tr_cVv0 (pc := 12) dX10_isMetBy_12 mtX10_settles lv10_292 rfl sg101 kc10 ⟨(Nat.le_of_ble_eq_true rfl), (Nat.le_of_ble_eq_true rfl)⟩ nlX10_settles (Nat.le_of_ble_eq_true rfl) ⟨(Nat.le_of_ble_eq_true rfl), (Nat.le_of_ble_eq_true rfl)⟩ (sp_X10_settles h8) (fun M12 h12 => ?_)
  obtain ⟨h7, f7⟩ := h12
  refine tr_iconst (pc := 15) dX10_isMetBy_15 ⟨by decide, by decide⟩ ?_
  refine tr_istore_n (pc := 16) dX10_isMetBy_16 rfl (Nat.le_of_ble_eq_true rfl) ?_
  dsimp only [List.set]
  exact loop1 _ M12 h7 72 0 _ M12 (by omega) (by omega) (fun y y0 y1 => by omega) (fun _ _ => rfl) ((f9.trans f8).trans f7)
theorem met_step {g0 g1 : List (Int × Int)} (b0 : gbd g0) (b1 : gbd g1) (r : Nat) {a : Int} (ha : 0 ≤ a) : yA g0 g1 (r + 1) a = hmc 1000 g1 (yA g0 g1 r) a := by
  unfold yA
  rw [pm_hmc b0 ha]
  have e1 : ∀ a, 0 ≤ a → pm (hmq g1 (r + 1) h00) a = hmc 1000 g1 (pm (hmq g1 r h00)) a := fun a ha => by rw [hmq_s, pm_hmc b1 ha]
  rw [hmc_congr b0 e1 a ha, hmc_comm b0 b1]
  exact (hmc_congr b1 (fun a ha => pm_hmc b0 ha) a ha).symm
theorem yB_step {g1 : List (Int × Int)} (b1 : gbd g1) (r : Nat) {a : Int} (ha : 0 ≤ a) : yB g1 (r + 1) a = hmc 1000 g1 (yB g1 r) a := by
  unfold yB
  rw [hmq_s, pm_hmc b1 ha]
theorem sp_X10_reduces {G : tk_G} {M : tk_M} {C : cC} {w : Int} (hC : Rg M C) (hnd : cnd C) : Spi G FX10_reduces [xR 101, xI w] SF M (fun v M' => v = x_reduces C w ∧ fQ M M') := by
  have b1 := hC.1.bd
  have b2 := hC.2.1.bd
  have h01 : x_red C = 0 ∨ x_red C = 1 := by
    unfold x_red
    split
    · exact Or.inl rfl
    · split
      · exact Or.inl rfl
      · exact rdB01 _ _
  refine Spi.of _ mtX10_reduces nlX10_reduces (Nat.le_of_ble_eq_true rfl) ?_
  show Ok G FX10_reduces 0 [xR 101, xI w, xU] [] SF M 0 0 _
  unfold x_reduces
  have loop : ∀ (d : Nat) (r : Int) (L R : Int → Int) (M1 : tk_M), r + d = 6 → 0 ≤ r → hrel (9 * (r + 1)) (yA C.1 C.2.1 r.toNat) L → hrel (9 * (r + 1)) (yB C.2.1 (r.toNat + 1)) R → hstab (9 * (r + 1)) (yA C.1 C.2.1 r.toNat) → hstab (9 * (r + 1)) (yB C.2.1 (r.toNat + 1)) → fQ M M1 → Ok G FX10_reduces 31 [xR 101, xI w, xI r] [] SF M1 0 0 (tk_qi SF (fun v M' => v = x_met C.2.1 d r L R ∧ fQ M M')) := by
    intro d
    induction d with
    | zero =>
      intro r L R M1 hd hr hL hR sL sR hf
      refine tr_iload_n (pc := 31) dX10_reduces_31 rfl ?_
      refine tr_bipush (pc := 32) dX10_reduces_32 ⟨by decide, ⟨by decide, by decide⟩⟩ ?_
      refine tr_icmpge (pc := 34) (tgt := 53) dX10_reduces_34 (by decide) (fun c34 => ?_) (fun c34 => absurd c34 (by omega))
      refine tr_bipush (pc := 53) dX10_reduces_53 ⟨by decide, ⟨by decide, by decide⟩⟩ ?_
      refine tr_ireti (pc := 55) dX10_reduces_55 rfl ?_
      exact ⟨rfl, hf⟩
    | succ d ih =>
      intro r L R M1 hd hr hL hR sL sR hf
      have hmi := met_iff (by omega) (by omega) hL hR sL sR
      unfold x_met
      refine tr_iload_n (pc := 31) dX10_reduces_31 rfl ?_
      refine tr_bipush (pc := 32) dX10_reduces_32 ⟨by decide, ⟨by decide, by decide⟩⟩ ?_
      refine tr_icmpge (pc := 34) (tgt := 53) dX10_reduces_34 (by decide) (fun c34 => absurd c34 (by omega)) (fun c34 => ?_)
      refine tr_aload_n (pc := 37) dX10_reduces_37 rfl (by decide) ?_
      refine tr_iload_n (pc := 38) dX10_reduces_38 rfl ?_
      refine tr_cVi1 (pc := 39) dX10_reduces_39 mtX10_isMetBy lv10_317 rfl sg101 kc10 ⟨(Nat.le_of_ble_eq_true rfl), (Nat.le_of_ble_eq_true rfl)⟩ nlX10_isMetBy (Nat.le_of_ble_eq_true rfl) ⟨(Nat.le_of_ble_eq_true rfl), (Nat.le_of_ble_eq_true rfl)⟩ (sp_X10_isMetBy (hC.fQ hf) (by omega)) (fun r39 M39 h39 => ?_)
      obtain ⟨hv, f9⟩ := h39
      refine tr_ifeq (pc := 42) (tgt := 47) dX10_reduces_42 (by decide) (fun c42 => ?_) (fun c42 => ?_)
      · skip
        refine tr_iinc (pc := 47) dX10_reduces_47 rfl rfl ⟨by omega, by omega⟩ ?_
        dsimp only [List.set]
        refine tr_goto (pc := 50) (tgt := 31) dX10_reduces_50 (by decide) ?_
        rw [if_neg (show ¬ hk L R from fun h => (hv.resolve_left (by omega)).2 (hmi.mp h))]
        have e : (r + 1).toNat = r.toNat + 1 := by omega
        refine ih (r + 1) _ _ _ (by omega) (by omega) ?_ ?_ ?_ ?_ (hf.trans f9)
        · rw [e, show 9 * (r + 1 + 1) = 9 * (r + 1) + 9 by omega]
          exact (hrel_step (by omega) (by omega) b2 hL).congr (fun a ha => met_step b1 b2 _ ha)
        · rw [e, show 9 * (r + 1 + 1) = 9 * (r + 1) + 9 by omega]
          exact (hrel_step (by omega) (by omega) b2 hR).congr (fun a ha => yB_step b2 _ ha)
        · rw [e, show 9 * (r + 1 + 1) = 9 * (r + 1) + 9 by omega]
          exact (hstab_step (by omega) b2 sL).congr (by omega) (fun a ha => met_step b1 b2 _ ha)
        · rw [e, show 9 * (r + 1 + 1) = 9 * (r + 1) + 9 by omega]
          exact (hstab_step (by omega) b2 sR).congr (by omega) (fun a ha => yB_step b2 _ ha)
      · skip
        refine tr_iload_n (pc := 45) dX10_reduces_45 rfl ?_
        refine tr_ireti (pc := 46) dX10_reduces_46 rfl ?_
        rw [if_pos (show hk L R from hmi.mpr (hv.resolve_right (by omega)).2)]
        exact ⟨rfl, hf.trans f9⟩
  have rA : hrel (9 * (0 + 1)) (yA C.1 C.2.1 (0 : Int).toNat) (hm C.1 hm0) := (hrel_step (by omega) (by omega) b1 hrel0).congr (fun a ha => pm_hmc b1 ha)
  have rB : hrel (9 * (0 + 1)) (yB C.2.1 ((0 : Int).toNat + 1)) (hm C.2.1 hm0) := (hrel_step (by omega) (by omega) b2 hrel0).congr (fun a ha => pm_hmc b2 ha)
  have sA' : hstab (9 * (0 + 1)) (yA C.1 C.2.1 (0 : Int).toNat) := (hstab_step (by omega) b1 hstab0).congr (by omega) (fun a ha => pm_hmc b1 ha)
  have sB : hstab (9 * (0 + 1)) (yB C.2.1 ((0 : Int).toNat + 1)) := (hstab_step (by omega) b2 hstab0).congr (by omega) (fun a ha => pm_hmc b2 ha)
  refine tr_iload_n (pc := 0) dX10_reduces_0 rfl ?_
  refine tr_i2l (pc := 1) dX10_reduces_1 ?_
  refine tr_lconst (pc := 2) (x := 0) dX10_reduces_2 (by decide) ⟨by decide, by decide⟩ ?_
  refine tr_lconst (pc := 3) (x := 1) dX10_reduces_3 (by decide) ⟨by decide, by decide⟩ ?_
  refine tr_cSi3 (pc := 4) dX10_reduces_4 mtX10_isFrom ls10_115 rfl ⟨(Nat.le_of_ble_eq_true rfl), (Nat.le_of_ble_eq_true rfl)⟩ nlX10_isFrom (Nat.le_of_ble_eq_true rfl) ⟨(Nat.le_of_ble_eq_true rfl), (Nat.le_of_ble_eq_true rfl)⟩ (sp_X10_isFrom) (fun r4 M4 h4 => ?_)
  obtain ⟨hr4, hM4⟩ := h4
  obtain rfl := hr4.symm
  obtain rfl := hM4.symm
  refine tr_ifne (pc := 7) (tgt := 12) dX10_reduces_7 (by decide) (fun c7 => ?_) (fun c7 => ?_)
  · skip
    refine tr_iload_n (pc := 12) dX10_reduces_12 rfl ?_
    refine tr_ifne (pc := 13) (tgt := 29) dX10_reduces_13 (by decide) (fun c13 => ?_) (fun c13 => ?_)
    · skip
      refine tr_iconst (pc := 29) dX10_reduces_29 ⟨by decide, by decide⟩ ?_
      refine tr_istore_n (pc := 30) dX10_reduces_30 rfl (Nat.le_of_ble_eq_true rfl) ?_
      dsimp only [List.set]
      rw [if_neg (by omega), if_neg (by omega)]
      exact loop 6 0 _ _ M (by omega) (by omega) rA rB sA' sB fQ.rf
    · skip
      refine tr_aload_n (pc := 16) dX10_reduces_16 rfl (by decide) ?_
      refine tr_cVi0 (pc := 17) dX10_reduces_17 mtX10_isReduction lv10_313 rfl sg101 kc10 ⟨(Nat.le_of_ble_eq_true rfl), (Nat.le_of_ble_eq_true rfl)⟩ nlX10_isReduction (Nat.le_of_ble_eq_true rfl) ⟨(Nat.le_of_ble_eq_true rfl), (Nat.le_of_ble_eq_true rfl)⟩ (sp_X10_isReduction hC hnd) (fun r17 M17 h17 => ?_)
      obtain ⟨hr17, q1⟩ := h17
      obtain rfl := hr17.symm
      refine tr_ifeq (pc := 20) (tgt := 27) dX10_reduces_20 (by decide) (fun c20 => ?_) (fun c20 => ?_)
      · skip
        refine tr_iconst (pc := 27) dX10_reduces_27 ⟨by decide, by decide⟩ ?_
        refine tr_ireti (pc := 28) dX10_reduces_28 rfl ?_
        refine ⟨?_, by first | exact fQ.rf | exact q1⟩
        repeat' split
        all_goals first | rfl | omega
      · skip
        refine tr_iconst (pc := 23) dX10_reduces_23 ⟨by decide, by decide⟩ ?_
        refine tr_goto (pc := 24) (tgt := 28) dX10_reduces_24 (by decide) ?_
        refine tr_ireti (pc := 28) dX10_reduces_28 rfl ?_
        refine ⟨?_, by first | exact fQ.rf | exact q1⟩
        repeat' split
        all_goals first | rfl | omega
  · skip
    refine tr_iconst (pc := 10) dX10_reduces_10 ⟨by decide, by decide⟩ ?_
    refine tr_ireti (pc := 11) dX10_reduces_11 rfl ?_
    refine ⟨?_, by first | exact fQ.rf | exact q1⟩
    repeat' split
    all_goals first | rfl | omega
