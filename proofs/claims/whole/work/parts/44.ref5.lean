theorem dirs_mem {s t : Int} (hs : 1 ≤ s ∧ s ≤ 9) (ht : 1 ≤ t ∧ t ≤ 9) : eg 24 s t = 1 ↔ (s, t) ∈ dirs := by
  have h := dirs_eg ((s - 1) * 9 + (t - 1)).toNat (List.mem_range.mpr (by omega))
  have e0 : ((((s - 1) * 9 + (t - 1)).toNat : Nat) : Int) = (s - 1) * 9 + (t - 1) := by omega
  rw [e0, show ((s - 1) * 9 + (t - 1)) / 9 + 1 = s by omega, show ((s - 1) * 9 + (t - 1)) % 9 + 1 = t by omega] at h
  exact h
theorem yfs_mono {g : List (Int × Int)} {s t n : Int} (hs : 1 ≤ s) (ht : 1 ≤ t) : (yfs g n).Pairwise (fun y z => ylt (s, t, 0) y → ylt (s, t, 0) z) := by
  unfold yfs
  refine List.pairwise_cons.mpr ⟨fun z _ h => ?_, ?_⟩
  · unfold ylt at h
    simp only at h
    omega
  · rw [List.pairwise_map]
    have h0 : (dirs.filter (fun d => decide (ydx d < n) && isf g d)).Pairwise dlt := dirs_srt.sublist List.filter_sublist
    refine List.Pairwise.imp_of_mem (fun {y z} hy hz hyz h => ?_) h0
    have b1 := dirs_bd y (List.mem_filter.mp hy).1
    have b2 := dirs_bd z (List.mem_filter.mp hz).1
    exact fq_tr (a := z.1) (b := z.2) (c := y.1) (d := y.2) (e := s) (f := t) (by omega) (by omega) (by omega) hyz h
theorem yfs_last (g : List (Int × Int)) (n : Int) : (yfs g n).Pairwise (fun y z => ylt (0, 1, 0) y → ylt (0, 1, 0) z) := by
  refine List.Pairwise.imp_of_mem (R := fun _ _ => True) (fun {y z} hy _ _ h => ?_) (List.pairwise_of_forall (fun _ _ => trivial))
  exfalso
  unfold ylt at h
  unfold yfs at hy
  rcases List.mem_cons.mp hy with h1 | h1
  · subst h1; simp only at h; omega
  · obtain ⟨d, hd, rfl⟩ := List.mem_map.mp h1
    have := dirs_bd d (List.mem_filter.mp hd).1
    unfold fc at h
    simp only at h
    omega
theorem sp_X10_tellsFaces {G : tk_G} {M : tk_M} {r : Int} {g : List (Int × Int)} (hr : 0 ≤ r ∧ r ≤ 2) (hg : rg_at M r g) (hne : g ≠ []) (hnd : g.Nodup) : Spv G FX10_tellsFaces [xR 101, xI r] SF M (fun M' => rh_at M' (hl_fc g) ∧ rhf M M') := by
  have hbd := hg.bd
  have hln := hg.len
  refine Spv.of _ mtX10_tellsFaces nlX10_tellsFaces (Nat.le_of_ble_eq_true rfl) ?_
  show Ok G FX10_tellsFaces 0 [xR 101, xI r, xU, xU] [] SF M 0 0 _
  rw [hl_fc_eq hnd hbd (by omega)]
  have loop : ∀ (d : Nat) (n s t : Int) (M1 : tk_M), n + d = 81 → n = 9 * (s - 1) + (t - 1) → 1 ≤ s → s ≤ 9 → 1 ≤ t → t ≤ 10 → rh_at M1 (yfs g n) → rhf M M1 → Ok G FX10_tellsFaces 22 [xR 101, xI r, xI s, xI t] [] SF M1 0 0 (tk_qv SF (fun M' => rh_at M' (yins (0, 1, lvl 0 1 g) (yfs g 81)) ∧ rhf M M')) := by
    intro d
    induction d with
    | zero =>
      intro n s t M1 hd hn hs0 hs1 ht0 ht1 hF hf
      have hn81 : n = 81 := by omega
      rw [hn81] at hF
      have hg1 := hg.hf hf
      have hyl := yfs_len g 81
      refine tr_iload_n (pc := 22) dX10_tellsFaces_22 rfl ?_
      refine tr_bipush (pc := 23) dX10_tellsFaces_23 ⟨by decide, ⟨by decide, by decide⟩⟩ ?_
      refine tr_icmpge (pc := 25) (tgt := 71) dX10_tellsFaces_25 (by decide) (fun c25 => ?_) (fun c25 => absurd c25 (by omega))
      refine tr_iinc (pc := 71) dX10_tellsFaces_71 rfl rfl ⟨by omega, by omega⟩ ?_
      dsimp only [List.set]
      refine tr_goto (pc := 74) (tgt := 14) dX10_tellsFaces_74 (by decide) ?_
      refine tr_iload_n (pc := 14) dX10_tellsFaces_14 rfl ?_
      refine tr_bipush (pc := 15) dX10_tellsFaces_15 ⟨by decide, ⟨by decide, by decide⟩⟩ ?_
      refine tr_icmpge (pc := 17) (tgt := 77) dX10_tellsFaces_17 (by decide) (fun c17 => ?_) (fun c17 => absurd c17 (by omega))
      refine tr_aload_n (pc := 77) dX10_tellsFaces_77 rfl (by decide) ?_
      refine tr_iload_n (pc := 78) dX10_tellsFaces_78 rfl ?_
      refine tr_iconst (pc := 79) dX10_tellsFaces_79 ⟨by decide, by decide⟩ ?_
      refine tr_iconst (pc := 80) dX10_tellsFaces_80 ⟨by decide, by decide⟩ ?_
      refine tr_cVv3 (pc := 81) dX10_tellsFaces_81 mtX10_comesFace lv10_227 rfl sg101 kc10 ⟨(Nat.le_of_ble_eq_true rfl), (Nat.le_of_ble_eq_true rfl)⟩ nlX10_comesFace (Nat.le_of_ble_eq_true rfl) ⟨(Nat.le_of_ble_eq_true rfl), (Nat.le_of_ble_eq_true rfl)⟩ (sp_X10_comesFace hr hg1 hne (by omega) (by omega) hF (by omega) (yfs_last g 81)) (fun M81 h81 => ?_)
      obtain ⟨h9, f9⟩ := h81
      refine tr_vret (pc := 84) dX10_tellsFaces_84 rfl ?_
      exact ⟨h9, hf.trans f9⟩
    | succ d ih =>
      have step : ∀ (n s t : Int) (M1 : tk_M), n + (d + 1 : Nat) = 81 → n = 9 * (s - 1) + (t - 1) → 1 ≤ s → s ≤ 9 → 1 ≤ t → t ≤ 9 → rh_at M1 (yfs g n) → rhf M M1 → Ok G FX10_tellsFaces 22 [xR 101, xI r, xI s, xI t] [] SF M1 0 0 (tk_qv SF (fun M' => rh_at M' (yins (0, 1, lvl 0 1 g) (yfs g 81)) ∧ rhf M M')) := by
        intro n s t M1 hd hn hs0 hs1 ht0 ht1 hF hf
        have hg1 := hg.hf hf
        have hyl := yfs_len g n
        have hdm := dirs_mem ⟨hs0, hs1⟩ ⟨ht0, ht1⟩
        have hyn : ydx (s, t) = n := by unfold ydx; simp only; omega
        have hno : isf g (s, t) = false ∨ (s, t) ∉ dirs → yfs g (n + 1) = yfs g n := fun h => yfs_no (fun e he1 he2 => by
          have e1 : e = (n / 9 + 1, n % 9 + 1) := ydx_eq he1 he2
          have e2 : (s, t) = (n / 9 + 1, n % 9 + 1) := by rw [show n / 9 + 1 = s by omega, show n % 9 + 1 = t by omega]
          rw [← e2] at e1
          rw [e1] at he1
          rw [e1]
          exact h.resolve_right (fun h2 => h2 he1))
        refine tr_iload_n (pc := 22) dX10_tellsFaces_22 rfl ?_
        refine tr_bipush (pc := 23) dX10_tellsFaces_23 ⟨by decide, ⟨by decide, by decide⟩⟩ ?_
        refine tr_icmpge (pc := 25) (tgt := 71) dX10_tellsFaces_25 (by decide) (fun c25 => absurd c25 (by omega)) (fun c25 => ?_)
        refine tr_iload_n (pc := 28) dX10_tellsFaces_28 rfl ?_
        refine tr_i2l (pc := 29) dX10_tellsFaces_29 ?_
        refine tr_iload_n (pc := 30) dX10_tellsFaces_30 rfl ?_
        refine tr_i2l (pc := 31) dX10_tellsFaces_31 ?_
        refine tr_cSl2 (pc := 32) dX10_tellsFaces_32 mtX10_divisor ls10_121 rfl ⟨(Nat.le_of_ble_eq_true rfl), (Nat.le_of_ble_eq_true rfl)⟩ nlX10_divisor (Nat.le_of_ble_eq_true rfl) ⟨(Nat.le_of_ble_eq_true rfl), (Nat.le_of_ble_eq_true rfl)⟩ (sp_X10_divisor (by omega) (by omega) (by omega) (by omega)) (fun r32 M32 h32 => ?_)
        obtain ⟨hr32, hM32⟩ := h32
        obtain rfl := hr32.symm
        obtain rfl := hM32.symm
        refine tr_lconst (pc := 35) (x := 1) dX10_tellsFaces_35 (by decide) ⟨by decide, by decide⟩ ?_
        refine tr_lcne (pc := 36) (tgt := 65) dX10_tellsFaces_36 dX10_tellsFaces_37 (by decide) (fun c36 => ?_) (fun c36 => ?_)
        · skip
          refine tr_iinc (pc := 65) dX10_tellsFaces_65 rfl rfl ⟨by omega, by omega⟩ ?_
          dsimp only [List.set]
          refine tr_goto (pc := 68) (tgt := 22) dX10_tellsFaces_68 (by decide) ?_
          first
          | exact ih (n + 1) s (t + 1) _ (by omega) (by omega) hs0 hs1 (by omega) (by omega) h9 (hf.trans f9)
          | exact ih (n + 1) s (t + 1) _ (by omega) (by omega) hs0 hs1 (by omega) (by omega) (by rw [hno (Or.inr (fun h => by have := hdm.mpr h; omega))]; exact hF) hf
          | exact ih (n + 1) s (t + 1) _ (by omega) (by omega) hs0 hs1 (by omega) (by omega) (by rw [hno (Or.inl (decide_eq_false (by simp only; omega)))]; exact hF) hf
        · skip
          refine tr_aload_n (pc := 40) dX10_tellsFaces_40 rfl (by decide) ?_
          refine tr_iload_n (pc := 41) dX10_tellsFaces_41 rfl ?_
          refine tr_iload_n (pc := 42) dX10_tellsFaces_42 rfl ?_
          refine tr_iload_n (pc := 43) dX10_tellsFaces_43 rfl ?_
          refine tr_aload_n (pc := 44) dX10_tellsFaces_44 rfl (by decide) ?_
          refine tr_iload_n (pc := 45) dX10_tellsFaces_45 rfl ?_
          refine tr_iload_n (pc := 46) dX10_tellsFaces_46 rfl ?_
          refine tr_iload_n (pc := 47) dX10_tellsFaces_47 rfl ?_
          refine tr_cVi3 (pc := 48) dX10_tellsFaces_48 mtX10_levelOf lv10_224 rfl sg101 kc10 ⟨(Nat.le_of_ble_eq_true rfl), (Nat.le_of_ble_eq_true rfl)⟩ nlX10_levelOf (Nat.le_of_ble_eq_true rfl) ⟨(Nat.le_of_ble_eq_true rfl), (Nat.le_of_ble_eq_true rfl)⟩ (sp_rlv hr hg1 hne (by omega) (by omega) (by omega) (by omega)) (fun r48 M48 h48 => ?_)
          obtain ⟨hr48, hM48⟩ := h48
          obtain rfl := hr48.symm
          obtain rfl := hM48.symm
          refine tr_cVi4 (pc := 51) dX10_tellsFaces_51 mtX10_metBy lv10_230 rfl sg101 kc10 ⟨(Nat.le_of_ble_eq_true rfl), (Nat.le_of_ble_eq_true rfl)⟩ nlX10_metBy (Nat.le_of_ble_eq_true rfl) ⟨(Nat.le_of_ble_eq_true rfl), (Nat.le_of_ble_eq_true rfl)⟩ (sp_X10_metBy hr hg1 (by omega) (by omega) (by omega) (by omega)) (fun r51 M51 h51 => ?_)
          obtain ⟨hr51, hM51⟩ := h51
          obtain rfl := hr51.symm
          obtain rfl := hM51.symm
          refine tr_iconst (pc := 54) dX10_tellsFaces_54 ⟨by decide, by decide⟩ ?_
          refine tr_icmple (pc := 55) (tgt := 65) dX10_tellsFaces_55 (by decide) (fun c55 => ?_) (fun c55 => ?_)
          · skip
            refine tr_iinc (pc := 65) dX10_tellsFaces_65 rfl rfl ⟨by omega, by omega⟩ ?_
            dsimp only [List.set]
            refine tr_goto (pc := 68) (tgt := 22) dX10_tellsFaces_68 (by decide) ?_
            first
            | exact ih (n + 1) s (t + 1) _ (by omega) (by omega) hs0 hs1 (by omega) (by omega) h9 (hf.trans f9)
            | exact ih (n + 1) s (t + 1) _ (by omega) (by omega) hs0 hs1 (by omega) (by omega) (by rw [hno (Or.inr (fun h => by have := hdm.mpr h; omega))]; exact hF) hf
            | exact ih (n + 1) s (t + 1) _ (by omega) (by omega) hs0 hs1 (by omega) (by omega) (by rw [hno (Or.inl (decide_eq_false (by simp only; omega)))]; exact hF) hf
          · skip
            refine tr_aload_n (pc := 58) dX10_tellsFaces_58 rfl (by decide) ?_
            refine tr_iload_n (pc := 59) dX10_tellsFaces_59 rfl ?_
            refine tr_iload_n (pc := 60) dX10_tellsFaces_60 rfl ?_
            refine tr_iload_n (pc := 61) dX10_tellsFaces_61 rfl ?_
            refine tr_cVv3 (pc := 62) dX10_tellsFaces_62 mtX10_comesFace lv10_227 rfl sg101 kc10 ⟨(Nat.le_of_ble_eq_true rfl), (Nat.le_of_ble_eq_true rfl)⟩ nlX10_comesFace (Nat.le_of_ble_eq_true rfl) ⟨(Nat.le_of_ble_eq_true rfl), (Nat.le_of_ble_eq_true rfl)⟩ (sp_X10_comesFace hr hg1 hne (by omega) (by omega) hF (by omega) (yfs_mono hs0 ht0)) (fun M62 h62 => ?_)
            obtain ⟨h9, f9⟩ := h62
            rw [← yfs_yes (hdm.mp (by omega)) hyn (decide_eq_true (by simp only; omega))] at h9
            refine tr_iinc (pc := 65) dX10_tellsFaces_65 rfl rfl ⟨by omega, by omega⟩ ?_
            dsimp only [List.set]
            refine tr_goto (pc := 68) (tgt := 22) dX10_tellsFaces_68 (by decide) ?_
            first
            | exact ih (n + 1) s (t + 1) _ (by omega) (by omega) hs0 hs1 (by omega) (by omega) h9 (hf.trans f9)
            | exact ih (n + 1) s (t + 1) _ (by omega) (by omega) hs0 hs1 (by omega) (by omega) (by rw [hno (Or.inr (fun h => by have := hdm.mpr h; omega))]; exact hF) hf
            | exact ih (n + 1) s (t + 1) _ (by omega) (by omega) hs0 hs1 (by omega) (by omega) (by rw [hno (Or.inl (decide_eq_false (by simp only; omega)))]; exact hF) hf
      intro n s t M1 hd hn hs0 hs1 ht0 ht1 hF hf
      by_cases hb : t ≤ 9
      · exact step n s t M1 hd hn hs0 hs1 ht0 hb hF hf
      · skip
        refine tr_iload_n (pc := 22) dX10_tellsFaces_22 rfl ?_
        refine tr_bipush (pc := 23) dX10_tellsFaces_23 ⟨by decide, ⟨by decide, by decide⟩⟩ ?_
        refine tr_icmpge (pc := 25) (tgt := 71) dX10_tellsFaces_25 (by decide) (fun c25 => ?_) (fun c25 => absurd c25 (by omega))
        refine tr_iinc (pc := 71) dX10_tellsFaces_71 rfl rfl ⟨by omega, by omega⟩ ?_
        dsimp only [List.set]
        refine tr_goto (pc := 74) (tgt := 14) dX10_tellsFaces_74 (by decide) ?_
        refine tr_iload_n (pc := 14) dX10_tellsFaces_14 rfl ?_
        refine tr_bipush (pc := 15) dX10_tellsFaces_15 ⟨by decide, ⟨by decide, by decide⟩⟩ ?_
        refine tr_icmpge (pc := 17) (tgt := 77) dX10_tellsFaces_17 (by decide) (fun c17 => absurd c17 (by omega)) (fun c17 => ?_)
        refine tr_iconst (pc := 20) dX10_tellsFaces_20 ⟨by decide, by decide⟩ ?_
        refine tr_istore_n (pc := 21) dX10_tellsFaces_21 rfl (Nat.le_of_ble_eq_true rfl) ?_
        dsimp only [List.set]
        exact step n (s + 1) 1 M1 hd (by omega) (by omega) (by omega) (by omega) (by omega) hF hf
  have h0 : rh_at (tk_mu M 101 12 0) [] := ⟨by rw [tk_mu_at]; rfl, by rw [tk_mu_at]; omega⟩
  have f0 : rhf M (tk_mu M 101 12 0) := ⟨fun c c1 _ => tk_mu_c c1, fun j hj => tk_mu_i hj⟩
  refine tr_aload_n (pc := 0) dX10_tellsFaces_0 rfl (by decide) ?_
  refine tr_iconst (pc := 1) dX10_tellsFaces_1 ⟨by decide, by decide⟩ ?_
  refine tr_puti (pc := 2) (ji := 12) dX10_tellsFaces_2 fi10_221 rfl (Or.inl rfl) (Or.inl rfl) sg101 rfl ?_
  refine tr_aload_n (pc := 5) dX10_tellsFaces_5 rfl (by decide) ?_
  refine tr_iload_n (pc := 6) dX10_tellsFaces_6 rfl ?_
  refine tr_iconst (pc := 7) dX10_tellsFaces_7 ⟨by decide, by decide⟩ ?_
  refine tr_iconst (pc := 8) dX10_tellsFaces_8 ⟨by decide, by decide⟩ ?_
  refine tr_cVv3 (pc := 9) dX10_tellsFaces_9 mtX10_comesFace lv10_227 rfl sg101 kc10 ⟨(Nat.le_of_ble_eq_true rfl), (Nat.le_of_ble_eq_true rfl)⟩ nlX10_comesFace (Nat.le_of_ble_eq_true rfl) ⟨(Nat.le_of_ble_eq_true rfl), (Nat.le_of_ble_eq_true rfl)⟩ (sp_X10_comesFace hr (hg.hf f0) hne (by omega) (by omega) h0 (by simp) List.Pairwise.nil) (fun M9 h9 => ?_)
  obtain ⟨h9, f9⟩ := h9
  refine tr_iconst (pc := 12) dX10_tellsFaces_12 ⟨by decide, by decide⟩ ?_
  refine tr_istore_n (pc := 13) dX10_tellsFaces_13 rfl (Nat.le_of_ble_eq_true rfl) ?_
  dsimp only [List.set]
  refine tr_iload_n (pc := 14) dX10_tellsFaces_14 rfl ?_
  refine tr_bipush (pc := 15) dX10_tellsFaces_15 ⟨by decide, ⟨by decide, by decide⟩⟩ ?_
  refine tr_icmpge (pc := 17) (tgt := 77) dX10_tellsFaces_17 (by decide) (fun c17 => absurd c17 (by omega)) (fun c17 => ?_)
  refine tr_iconst (pc := 20) dX10_tellsFaces_20 ⟨by decide, by decide⟩ ?_
  refine tr_istore_n (pc := 21) dX10_tellsFaces_21 rfl (Nat.le_of_ble_eq_true rfl) ?_
  dsimp only [List.set]
  exact loop 81 0 1 1 _ (by omega) (by omega) (by omega) (by omega) (by omega) (by omega) (by rw [yfs_zero]; exact h9) (f0.trans f9)
theorem sp_X10_isInHull {G : tk_G} {M : tk_M} {a b : Int} {F : List (Int × Int × Int)} (hF : rh_at M F) (ha : 0 ≤ a ∧ a ≤ 9) (hb : 0 ≤ b ∧ b ≤ 9) : Spi G FX10_isInHull [xR 101, xI a, xI b] SF M (fun v M' => v = hl_cov a b F ∧ M' = M) := by
  refine Spi.of _ mtX10_isInHull nlX10_isInHull (Nat.le_of_ble_eq_true rfl) ?_
  show Ok G FX10_isInHull 0 [xR 101, xI a, xI b, xU, xU] [] SF M 0 0 _
  obtain ⟨hF, h64⟩ := hF
  have loop : ∀ (F : List (Int × Int × Int)) (k is : Int), 0 ≤ k → (is = 0 ∨ is = 1) → hl_seg (M 111) (M 112) (M 113) (M 101 12) k F → Ok G FX10_isInHull 5 [xR 101, xI a, xI b, xI is, xI k] [] SF M 0 0 (tk_qi SF (fun v M' => v = (if is = 0 then 0 else hl_cov a b F) ∧ M' = M)) := by
    intro F
    induction F with
    | nil =>
      intro k is hk hi hs
      have hs : k = M 101 12 := hs
      refine tr_iload (pc := 5) dX10_isInHull_5 rfl ?_
      refine tr_aload_n (pc := 7) dX10_isInHull_7 rfl (by decide) ?_
      refine tr_geti (pc := 8) (ji := 12) dX10_isInHull_8 fi10_221 rfl sg101 rfl ?_
      refine tr_icmpge (pc := 11) (tgt := 59) dX10_isInHull_11 (by decide) (fun c11 => ?_) (fun c11 => absurd c11 (by omega))
      refine tr_iload_n (pc := 59) dX10_isInHull_59 rfl ?_
      refine tr_iretz (pc := 60) dX10_isInHull_60 rfl (by omega) ?_
      refine ⟨?_, rfl⟩
      unfold hl_cov
      omega
    | cons q F ih =>
      intro k is hk hi hs
      obtain ⟨s, t, l⟩ := q
      obtain ⟨e1, e2, e3, b1, b2, b3, hlt, hs⟩ := hs
      have m1 := mul99 b1.1 b1.2 ha.1 ha.2
      have m2 := mul99 b2.1 b2.2 hb.1 hb.2
      unfold hl_cov
      refine tr_iload (pc := 5) dX10_isInHull_5 rfl ?_
      refine tr_aload_n (pc := 7) dX10_isInHull_7 rfl (by decide) ?_
      refine tr_geti (pc := 8) (ji := 12) dX10_isInHull_8 fi10_221 rfl sg101 rfl ?_
      refine tr_icmpge (pc := 11) (tgt := 59) dX10_isInHull_11 (by decide) (fun c11 => absurd c11 (by omega)) (fun c11 => ?_)
      refine tr_iload_n (pc := 14) dX10_isInHull_14 rfl ?_
      refine tr_ifeq (pc := 15) (tgt := 51) dX10_isInHull_15 (by decide) (fun c15 => ?_) (fun c15 => ?_)
      · skip
        refine tr_iconst (pc := 51) dX10_isInHull_51 ⟨by decide, by decide⟩ ?_
        refine tr_istore_n (pc := 52) dX10_isInHull_52 rfl (Nat.le_of_ble_eq_true rfl) ?_
        dsimp only [List.set]
        refine tr_iinc (pc := 53) dX10_isInHull_53 rfl rfl ⟨by omega, by omega⟩ ?_
        dsimp only [List.set]
        refine tr_goto (pc := 56) (tgt := 5) dX10_isInHull_56 (by decide) ?_
        first
        | rw [if_pos (show is = 0 by omega)]
          exact tk_mono (ih (k + 1) 0 (by omega) (Or.inl rfl) hs) (fun v M1 h => ⟨by rw [h.1, if_pos rfl], h.2⟩)
        | rw [if_neg (show ¬ is = 0 by omega), if_pos (show s * a + t * b < l by omega)]
          exact tk_mono (ih (k + 1) 0 (by omega) (Or.inl rfl) hs) (fun v M1 h => ⟨by rw [h.1, if_pos rfl], h.2⟩)
        | rw [if_neg (show ¬ is = 0 by omega), if_neg (show ¬ s * a + t * b < l by omega)]
          exact tk_mono (ih (k + 1) 1 (by omega) (Or.inr rfl) hs) (fun v M1 h => ⟨by rw [h.1, if_neg (by decide)], h.2⟩)
      · skip
        refine tr_aload_n (pc := 18) dX10_isInHull_18 rfl (by decide) ?_
        refine tr_getr (pc := 19) (x := 111) dX10_isInHull_19 fi10_39 rfl sg101 rfl ?_
        refine tr_iload (pc := 22) dX10_isInHull_22 rfl ?_
        refine tr_ialdv (pc := 24) (x := s) dX10_isInHull_24 sg111 (by omega) (by omega) (e1) ?_
        refine tr_iload_n (pc := 25) dX10_isInHull_25 rfl ?_
        refine tr_imul (pc := 26) dX10_isInHull_26 ⟨by omega, by omega⟩ ?_
        refine tr_aload_n (pc := 27) dX10_isInHull_27 rfl (by decide) ?_
        refine tr_getr (pc := 28) (x := 112) dX10_isInHull_28 fi10_42 rfl sg101 rfl ?_
        refine tr_iload (pc := 31) dX10_isInHull_31 rfl ?_
        refine tr_ialdv (pc := 33) (x := t) dX10_isInHull_33 sg112 (by omega) (by omega) (e2) ?_
        refine tr_iload_n (pc := 34) dX10_isInHull_34 rfl ?_
        refine tr_imul (pc := 35) dX10_isInHull_35 ⟨by omega, by omega⟩ ?_
        refine tr_iadd (pc := 36) dX10_isInHull_36 ⟨by omega, by omega⟩ ?_
        refine tr_aload_n (pc := 37) dX10_isInHull_37 rfl (by decide) ?_
        refine tr_getr (pc := 38) (x := 113) dX10_isInHull_38 fi10_45 rfl sg101 rfl ?_
        refine tr_iload (pc := 41) dX10_isInHull_41 rfl ?_
        refine tr_ialdv (pc := 43) (x := l) dX10_isInHull_43 sg113 (by omega) (by omega) (e3) ?_
        refine tr_icmplt (pc := 44) (tgt := 51) dX10_isInHull_44 (by decide) (fun c44 => ?_) (fun c44 => ?_)
        · skip
          refine tr_iconst (pc := 51) dX10_isInHull_51 ⟨by decide, by decide⟩ ?_
          refine tr_istore_n (pc := 52) dX10_isInHull_52 rfl (Nat.le_of_ble_eq_true rfl) ?_
          dsimp only [List.set]
          refine tr_iinc (pc := 53) dX10_isInHull_53 rfl rfl ⟨by omega, by omega⟩ ?_
          dsimp only [List.set]
          refine tr_goto (pc := 56) (tgt := 5) dX10_isInHull_56 (by decide) ?_
          first
          | rw [if_pos (show is = 0 by omega)]
            exact tk_mono (ih (k + 1) 0 (by omega) (Or.inl rfl) hs) (fun v M1 h => ⟨by rw [h.1, if_pos rfl], h.2⟩)
          | rw [if_neg (show ¬ is = 0 by omega), if_pos (show s * a + t * b < l by omega)]
            exact tk_mono (ih (k + 1) 0 (by omega) (Or.inl rfl) hs) (fun v M1 h => ⟨by rw [h.1, if_pos rfl], h.2⟩)
          | rw [if_neg (show ¬ is = 0 by omega), if_neg (show ¬ s * a + t * b < l by omega)]
            exact tk_mono (ih (k + 1) 1 (by omega) (Or.inr rfl) hs) (fun v M1 h => ⟨by rw [h.1, if_neg (by decide)], h.2⟩)
        · skip
          refine tr_iconst (pc := 47) dX10_isInHull_47 ⟨by decide, by decide⟩ ?_
          refine tr_goto (pc := 48) (tgt := 52) dX10_isInHull_48 (by decide) ?_
          refine tr_istore_n (pc := 52) dX10_isInHull_52 rfl (Nat.le_of_ble_eq_true rfl) ?_
          dsimp only [List.set]
          refine tr_iinc (pc := 53) dX10_isInHull_53 rfl rfl ⟨by omega, by omega⟩ ?_
          dsimp only [List.set]
          refine tr_goto (pc := 56) (tgt := 5) dX10_isInHull_56 (by decide) ?_
          first
          | rw [if_pos (show is = 0 by omega)]
            exact tk_mono (ih (k + 1) 0 (by omega) (Or.inl rfl) hs) (fun v M1 h => ⟨by rw [h.1, if_pos rfl], h.2⟩)
          | rw [if_neg (show ¬ is = 0 by omega), if_pos (show s * a + t * b < l by omega)]
            exact tk_mono (ih (k + 1) 0 (by omega) (Or.inl rfl) hs) (fun v M1 h => ⟨by rw [h.1, if_pos rfl], h.2⟩)
          | rw [if_neg (show ¬ is = 0 by omega), if_neg (show ¬ s * a + t * b < l by omega)]
            exact tk_mono (ih (k + 1) 1 (by omega) (Or.inr rfl) hs) (fun v M1 h => ⟨by rw [h.1, if_neg (by decide)], h.2⟩)
  refine tr_iconst (pc := 0) dX10_isInHull_0 ⟨by decide, by decide⟩ ?_
  refine tr_istore_n (pc := 1) dX10_isInHull_1 rfl (Nat.le_of_ble_eq_true rfl) ?_
  dsimp only [List.set]
  refine tr_iconst (pc := 2) dX10_isInHull_2 ⟨by decide, by decide⟩ ?_
  refine tr_istore (pc := 3) dX10_isInHull_3 rfl (Nat.le_of_ble_eq_true rfl) ?_
  dsimp only [List.set]
  exact tk_mono (loop F 0 1 (by omega) (Or.inr rfl) hF) (fun v M1 h => ⟨by rw [h.1, if_neg (by decide)], h.2⟩)
theorem sp_X10_isWithin {G : tk_G} {M : tk_M} {i a b : Int} {g : List (Int × Int)} (hi : 0 ≤ i ∧ i ≤ 2) (hg : rg_at M i g) : Spi G FX10_isWithin [xR 101, xI i, xI a, xI b] SF M (fun v M' => v = ig_in a b g ∧ M' = M) := by
  refine Spi.of _ mtX10_isWithin nlX10_isWithin (Nat.le_of_ble_eq_true rfl) ?_
  show Ok G FX10_isWithin 0 [xR 101, xI i, xI a, xI b, xU, xU] [] SF M 0 0 _
  obtain ⟨hg, h6⟩ := hg
  have loop : ∀ (g : List (Int × Int)) (k is : Int), 0 ≤ k → (is = 0 ∨ is = 1) → ig_seg (fun k => M 103 (6 * i + k)) (fun k => M 104 (6 * i + k)) (M 102 i) k g → Ok G FX10_isWithin 6 [xR 101, xI i, xI a, xI b, xI is, xI k] [] SF M 0 0 (tk_qi SF (fun v M' => v = (if is = 0 then ig_in a b g else 1) ∧ M' = M)) := by
    intro g
    induction g with
    | nil =>
      intro k is hk his hs
      have hs : k = M 102 i := hs
      refine tr_iload (pc := 6) dX10_isWithin_6 rfl ?_
      refine tr_aload_n (pc := 8) dX10_isWithin_8 rfl (by decide) ?_
      refine tr_getr (pc := 9) (x := 102) dX10_isWithin_9 fi10_11 rfl sg101 rfl ?_
      refine tr_iload_n (pc := 12) dX10_isWithin_12 rfl ?_
      refine tr_iald (pc := 13) dX10_isWithin_13 sg102 (by omega) (by omega) ?_
      refine tr_icmpge (pc := 14) (tgt := 57) dX10_isWithin_14 (by decide) (fun c14 => ?_) (fun c14 => absurd c14 (by omega))
      refine tr_iload (pc := 57) dX10_isWithin_57 rfl ?_
      refine tr_iretz (pc := 59) dX10_isWithin_59 rfl (by omega) ?_
      refine ⟨?_, rfl⟩
      unfold ig_in
      omega
    | cons q t ih =>
      intro k is hk his hs
      obtain ⟨p, q⟩ := q
      obtain ⟨e1, e2, b1, b2, b3, b4, hlt, hs⟩ := hs
      unfold ig_in
      refine tr_iload (pc := 6) dX10_isWithin_6 rfl ?_
      refine tr_aload_n (pc := 8) dX10_isWithin_8 rfl (by decide) ?_
      refine tr_getr (pc := 9) (x := 102) dX10_isWithin_9 fi10_11 rfl sg101 rfl ?_
      refine tr_iload_n (pc := 12) dX10_isWithin_12 rfl ?_
      refine tr_iald (pc := 13) dX10_isWithin_13 sg102 (by omega) (by omega) ?_
      refine tr_icmpge (pc := 14) (tgt := 57) dX10_isWithin_14 (by decide) (fun c14 => absurd c14 (by omega)) (fun c14 => ?_)
      refine tr_iload (pc := 17) dX10_isWithin_17 rfl ?_
      refine tr_ifne (pc := 19) (tgt := 44) dX10_isWithin_19 (by decide) (fun c19 => ?_) (fun c19 => ?_)
      · skip
        refine tr_iconst (pc := 44) dX10_isWithin_44 ⟨by decide, by decide⟩ ?_
        refine tr_goto (pc := 45) (tgt := 49) dX10_isWithin_45 (by decide) ?_
        refine tr_istore (pc := 49) dX10_isWithin_49 rfl (Nat.le_of_ble_eq_true rfl) ?_
        dsimp only [List.set]
        refine tr_iinc (pc := 51) dX10_isWithin_51 rfl rfl ⟨by omega, by omega⟩ ?_
        dsimp only [List.set]
        refine tr_goto (pc := 54) (tgt := 6) dX10_isWithin_54 (by decide) ?_
        first
        | rw [if_neg (show ¬ is = 0 by omega)]
          exact tk_mono (ih (k + 1) 1 (by omega) (Or.inr rfl) hs) (fun v M1 h => ⟨by rw [h.1, if_neg (by decide)], h.2⟩)
        | rw [if_pos (show is = 0 by omega), if_pos (show p ≤ a ∧ q ≤ b by omega)]
          exact tk_mono (ih (k + 1) 1 (by omega) (Or.inr rfl) hs) (fun v M1 h => ⟨by rw [h.1, if_neg (by decide)], h.2⟩)
        | rw [if_pos (show is = 0 by omega), if_neg (show ¬ (p ≤ a ∧ q ≤ b) by omega)]
          exact tk_mono (ih (k + 1) 0 (by omega) (Or.inl rfl) hs) (fun v M1 h => ⟨by rw [h.1, if_pos rfl], h.2⟩)
      · skip
        refine tr_aload_n (pc := 22) dX10_isWithin_22 rfl (by decide) ?_
        refine tr_iload_n (pc := 23) dX10_isWithin_23 rfl ?_
        refine tr_iload (pc := 24) dX10_isWithin_24 rfl ?_
        refine tr_cVi2 (pc := 26) dX10_isWithin_26 mtX10_a lv10_125 rfl sg101 kc10 ⟨(Nat.le_of_ble_eq_true rfl), (Nat.le_of_ble_eq_true rfl)⟩ nlX10_a (Nat.le_of_ble_eq_true rfl) ⟨(Nat.le_of_ble_eq_true rfl), (Nat.le_of_ble_eq_true rfl)⟩ (sp_ra hi hk (by omega) e1) (fun r26 M26 h26 => ?_)
        obtain ⟨hr26, hM26⟩ := h26
        obtain rfl := hr26.symm
        obtain rfl := hM26.symm
        refine tr_iload_n (pc := 29) dX10_isWithin_29 rfl ?_
        refine tr_icmpgt (pc := 30) (tgt := 48) dX10_isWithin_30 (by decide) (fun c30 => ?_) (fun c30 => ?_)
        · skip
          refine tr_iconst (pc := 48) dX10_isWithin_48 ⟨by decide, by decide⟩ ?_
          refine tr_istore (pc := 49) dX10_isWithin_49 rfl (Nat.le_of_ble_eq_true rfl) ?_
          dsimp only [List.set]
          refine tr_iinc (pc := 51) dX10_isWithin_51 rfl rfl ⟨by omega, by omega⟩ ?_
          dsimp only [List.set]
          refine tr_goto (pc := 54) (tgt := 6) dX10_isWithin_54 (by decide) ?_
          first
          | rw [if_neg (show ¬ is = 0 by omega)]
            exact tk_mono (ih (k + 1) 1 (by omega) (Or.inr rfl) hs) (fun v M1 h => ⟨by rw [h.1, if_neg (by decide)], h.2⟩)
          | rw [if_pos (show is = 0 by omega), if_pos (show p ≤ a ∧ q ≤ b by omega)]
            exact tk_mono (ih (k + 1) 1 (by omega) (Or.inr rfl) hs) (fun v M1 h => ⟨by rw [h.1, if_neg (by decide)], h.2⟩)
          | rw [if_pos (show is = 0 by omega), if_neg (show ¬ (p ≤ a ∧ q ≤ b) by omega)]
            exact tk_mono (ih (k + 1) 0 (by omega) (Or.inl rfl) hs) (fun v M1 h => ⟨by rw [h.1, if_pos rfl], h.2⟩)
        · skip
          refine tr_aload_n (pc := 33) dX10_isWithin_33 rfl (by decide) ?_
          refine tr_iload_n (pc := 34) dX10_isWithin_34 rfl ?_
          refine tr_iload (pc := 35) dX10_isWithin_35 rfl ?_
          refine tr_cVi2 (pc := 37) dX10_isWithin_37 mtX10_b lv10_129 rfl sg101 kc10 ⟨(Nat.le_of_ble_eq_true rfl), (Nat.le_of_ble_eq_true rfl)⟩ nlX10_b (Nat.le_of_ble_eq_true rfl) ⟨(Nat.le_of_ble_eq_true rfl), (Nat.le_of_ble_eq_true rfl)⟩ (sp_rb hi hk (by omega) e2) (fun r37 M37 h37 => ?_)
          obtain ⟨hr37, hM37⟩ := h37
          obtain rfl := hr37.symm
          obtain rfl := hM37.symm
          refine tr_iload_n (pc := 40) dX10_isWithin_40 rfl ?_
          refine tr_icmpgt (pc := 41) (tgt := 48) dX10_isWithin_41 (by decide) (fun c41 => ?_) (fun c41 => ?_)
          · skip
            refine tr_iconst (pc := 48) dX10_isWithin_48 ⟨by decide, by decide⟩ ?_
            refine tr_istore (pc := 49) dX10_isWithin_49 rfl (Nat.le_of_ble_eq_true rfl) ?_
            dsimp only [List.set]
            refine tr_iinc (pc := 51) dX10_isWithin_51 rfl rfl ⟨by omega, by omega⟩ ?_
            dsimp only [List.set]
            refine tr_goto (pc := 54) (tgt := 6) dX10_isWithin_54 (by decide) ?_
            first
            | rw [if_neg (show ¬ is = 0 by omega)]
              exact tk_mono (ih (k + 1) 1 (by omega) (Or.inr rfl) hs) (fun v M1 h => ⟨by rw [h.1, if_neg (by decide)], h.2⟩)
            | rw [if_pos (show is = 0 by omega), if_pos (show p ≤ a ∧ q ≤ b by omega)]
              exact tk_mono (ih (k + 1) 1 (by omega) (Or.inr rfl) hs) (fun v M1 h => ⟨by rw [h.1, if_neg (by decide)], h.2⟩)
            | rw [if_pos (show is = 0 by omega), if_neg (show ¬ (p ≤ a ∧ q ≤ b) by omega)]
              exact tk_mono (ih (k + 1) 0 (by omega) (Or.inl rfl) hs) (fun v M1 h => ⟨by rw [h.1, if_pos rfl], h.2⟩)
          · skip
            refine tr_iconst (pc := 44) dX10_isWithin_44 ⟨by decide, by decide⟩ ?_
            refine tr_goto (pc := 45) (tgt := 49) dX10_isWithin_45 (by decide) ?_
            refine tr_istore (pc := 49) dX10_isWithin_49 rfl (Nat.le_of_ble_eq_true rfl) ?_
            dsimp only [List.set]
            refine tr_iinc (pc := 51) dX10_isWithin_51 rfl rfl ⟨by omega, by omega⟩ ?_
            dsimp only [List.set]
            refine tr_goto (pc := 54) (tgt := 6) dX10_isWithin_54 (by decide) ?_
            first
            | rw [if_neg (show ¬ is = 0 by omega)]
              exact tk_mono (ih (k + 1) 1 (by omega) (Or.inr rfl) hs) (fun v M1 h => ⟨by rw [h.1, if_neg (by decide)], h.2⟩)
            | rw [if_pos (show is = 0 by omega), if_pos (show p ≤ a ∧ q ≤ b by omega)]
              exact tk_mono (ih (k + 1) 1 (by omega) (Or.inr rfl) hs) (fun v M1 h => ⟨by rw [h.1, if_neg (by decide)], h.2⟩)
            | rw [if_pos (show is = 0 by omega), if_neg (show ¬ (p ≤ a ∧ q ≤ b) by omega)]
              exact tk_mono (ih (k + 1) 0 (by omega) (Or.inl rfl) hs) (fun v M1 h => ⟨by rw [h.1, if_pos rfl], h.2⟩)
  refine tr_iconst (pc := 0) dX10_isWithin_0 ⟨by decide, by decide⟩ ?_
  refine tr_istore (pc := 1) dX10_isWithin_1 rfl (Nat.le_of_ble_eq_true rfl) ?_
  dsimp only [List.set]
  refine tr_iconst (pc := 3) dX10_isWithin_3 ⟨by decide, by decide⟩ ?_
  refine tr_istore (pc := 4) dX10_isWithin_4 rfl (Nat.le_of_ble_eq_true rfl) ?_
  dsimp only [List.set]
  exact tk_mono (loop g 0 0 (by omega) (Or.inl rfl) hg) (fun v M1 h => ⟨by rw [h.1, if_pos rfl], h.2⟩)
