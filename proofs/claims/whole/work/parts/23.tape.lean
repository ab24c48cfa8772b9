/-- TAPES: kind 6 at t, sixty longs behind it -/
def tp_s (t : Int) : Prop := 0 ≤ t ∧ tk_sg SF t = some (6, 3, [t + 1, -1, -1]) ∧ tk_sg SF (t + 1) = some (21, 60, [])
def tp_nar (s v : Int) : Int := if s = 0 then (v.bmod (2 ^ 32)).bmod (2 ^ 8) else if s = 1 then (v.bmod (2 ^ 32)).bmod (2 ^ 16) else if s = 2 then v.bmod (2 ^ 32) else if s = 3 then v else if v ≠ 0 then 1 else 0
theorem sp_X6_isNothing {G : tk_G} {M : tk_M} {t : Int} (ht : tp_s t) : Spi G FX6_isNothing [xR t] SF M (fun v M' => v = (if M t 1 = -1 then 1 else 0) ∧ M' = M) := by
  obtain ⟨t0, s0, s1⟩ := ht
  refine Spi.of _ mtX6_isNothing nlX6_isNothing (Nat.le_of_ble_eq_true rfl) ?_
  show Ok G FX6_isNothing 0 [xR t] [] SF M 0 0 _
  refine tr_aload_n (pc := 0) dX6_isNothing_0 rfl (by omega) ?_
  refine tr_geti (pc := 1) (ji := 1) dX6_isNothing_1 fi6_15 rfl (by assumption) rfl ?_
  refine tr_iconst (pc := 4) dX6_isNothing_4 ⟨by decide, by decide⟩ ?_
  refine tr_icmpne (pc := 5) (tgt := 12) dX6_isNothing_5 (by decide) (fun c5 => ?_) (fun c5 => ?_)
  · skip
    refine tr_iconst (pc := 12) dX6_isNothing_12 ⟨by decide, by decide⟩ ?_
    refine tr_iretz (pc := 13) dX6_isNothing_13 rfl (by omega) ?_
    exact ⟨by split <;> omega, rfl⟩
  · skip
    refine tr_iconst (pc := 8) dX6_isNothing_8 ⟨by decide, by decide⟩ ?_
    refine tr_goto (pc := 9) (tgt := 13) dX6_isNothing_9 (by decide) ?_
    refine tr_iretz (pc := 13) dX6_isNothing_13 rfl (by omega) ?_
    exact ⟨by split <;> omega, rfl⟩
theorem sp_X6_sort {G : tk_G} {M : tk_M} {t : Int} (ht : tp_s t) : Spi G FX6_sort [xR t] SF M (fun v M' => v = M t 1 ∧ M' = M) := by
  obtain ⟨t0, s0, s1⟩ := ht
  refine Spi.of _ mtX6_sort nlX6_sort (Nat.le_of_ble_eq_true rfl) ?_
  show Ok G FX6_sort 0 [xR t] [] SF M 0 0 _
  refine tr_aload_n (pc := 0) dX6_sort_0 rfl (by omega) ?_
  refine tr_geti (pc := 1) (ji := 1) dX6_sort_1 fi6_15 rfl (by assumption) rfl ?_
  refine tr_ireti (pc := 4) dX6_sort_4 rfl ?_
  exact ⟨rfl, rfl⟩
theorem sp_X6_hasRange {G : tk_G} {M : tk_M} {t a b : Int} (ht : tp_s t) (ha : a ≤ 4294967296) (hb : b ≤ 4294967296) : Spi G FX6_hasRange [xR t, xL a, xL b] SF M (fun v M' => v = (if 0 ≤ a ∧ 0 ≤ b ∧ a + b ≤ M t 2 then 1 else 0) ∧ M' = M) := by
  obtain ⟨t0, s0, s1⟩ := ht
  refine Spi.of _ mtX6_hasRange nlX6_hasRange (Nat.le_of_ble_eq_true rfl) ?_
  show Ok G FX6_hasRange 0 [xR t, xL a, xU, xL b, xU] [] SF M 0 0 _
  refine tr_lload_n (pc := 0) dX6_hasRange_0 rfl ?_
  refine tr_lconst (pc := 1) (x := 0) dX6_hasRange_1 (by decide) ⟨by decide, by decide⟩ ?_
  refine tr_lclt (pc := 2) (tgt := 28) dX6_hasRange_2 dX6_hasRange_3 (by decide) (fun c2 => ?_) (fun c2 => ?_)
  · skip
    refine tr_iconst (pc := 28) dX6_hasRange_28 ⟨by decide, by decide⟩ ?_
    refine tr_iretz (pc := 29) dX6_hasRange_29 rfl (by omega) ?_
    exact ⟨by split <;> omega, rfl⟩
  · skip
    refine tr_lload_n (pc := 6) dX6_hasRange_6 rfl ?_
    refine tr_lconst (pc := 7) (x := 0) dX6_hasRange_7 (by decide) ⟨by decide, by decide⟩ ?_
    refine tr_lclt (pc := 8) (tgt := 28) dX6_hasRange_8 dX6_hasRange_9 (by decide) (fun c8 => ?_) (fun c8 => ?_)
    · skip
      refine tr_iconst (pc := 28) dX6_hasRange_28 ⟨by decide, by decide⟩ ?_
      refine tr_iretz (pc := 29) dX6_hasRange_29 rfl (by omega) ?_
      exact ⟨by split <;> omega, rfl⟩
    · skip
      refine tr_lload_n (pc := 12) dX6_hasRange_12 rfl ?_
      refine tr_lload_n (pc := 13) dX6_hasRange_13 rfl ?_
      refine tr_ladd (pc := 14) dX6_hasRange_14 ⟨by omega, by omega⟩ ?_
      refine tr_aload_n (pc := 15) dX6_hasRange_15 rfl (by omega) ?_
      refine tr_geti (pc := 16) (ji := 2) dX6_hasRange_16 fi6_19 rfl (by assumption) rfl ?_
      refine tr_i2l (pc := 19) dX6_hasRange_19 ?_
      refine tr_lcgt (pc := 20) (tgt := 28) dX6_hasRange_20 dX6_hasRange_21 (by decide) (fun c20 => ?_) (fun c20 => ?_)
      · skip
        refine tr_iconst (pc := 28) dX6_hasRange_28 ⟨by decide, by decide⟩ ?_
        refine tr_iretz (pc := 29) dX6_hasRange_29 rfl (by omega) ?_
        exact ⟨by split <;> omega, rfl⟩
      · skip
        refine tr_iconst (pc := 24) dX6_hasRange_24 ⟨by decide, by decide⟩ ?_
        refine tr_goto (pc := 25) (tgt := 29) dX6_hasRange_25 (by decide) ?_
        refine tr_iretz (pc := 29) dX6_hasRange_29 rfl (by omega) ?_
        exact ⟨by split <;> omega, rfl⟩
theorem sp_X6_get {G : tk_G} {M : tk_M} {t i : Int} (ht : tp_s t) (h6 : M t 2 ≤ 60) (h0 : 0 ≤ i) (h1 : i < M t 2) : Spl G FX6_get [xR t, xI i] SF M (fun v M' => v = M (t + 1) i ∧ M' = M) := by
  obtain ⟨t0, s0, s1⟩ := ht
  refine Spl.of _ mtX6_get nlX6_get (Nat.le_of_ble_eq_true rfl) ?_
  show Ok G FX6_get 0 [xR t, xI i] [] SF M 0 0 _
  refine tr_iload_n (pc := 0) dX6_get_0 rfl ?_
  refine tr_iflt (pc := 1) (tgt := 21) dX6_get_1 (by decide) (fun c1 => absurd c1 (by omega)) (fun c1 => ?_)
  refine tr_iload_n (pc := 4) dX6_get_4 rfl ?_
  refine tr_aload_n (pc := 5) dX6_get_5 rfl (by omega) ?_
  refine tr_geti (pc := 6) (ji := 2) dX6_get_6 fi6_19 rfl (by assumption) rfl ?_
  refine tr_icmpge (pc := 9) (tgt := 21) dX6_get_9 (by decide) (fun c9 => absurd c9 (by omega)) (fun c9 => ?_)
  refine tr_aload_n (pc := 12) dX6_get_12 rfl (by omega) ?_
  refine tr_getr (pc := 13) (x := t + 1) dX6_get_13 fi6_9 rfl (by assumption) rfl ?_
  refine tr_iload_n (pc := 16) dX6_get_16 rfl ?_
  refine tr_lald (pc := 17) dX6_get_17 (by assumption) (by omega) (by omega) ?_
  refine tr_goto (pc := 18) (tgt := 22) dX6_get_18 (by decide) ?_
  refine tr_lret (pc := 22) dX6_get_22 rfl ?_
  exact ⟨rfl, rfl⟩
theorem sp_X6_narrow {G : tk_G} {M : tk_M} {t x : Int} (ht : tp_s t) : Spl G FX6_narrow [xR t, xL x] SF M (fun v M' => v = tp_nar (M t 1) x ∧ M' = M) := by
  obtain ⟨t0, s0, s1⟩ := ht
  refine Spl.of _ mtX6_narrow nlX6_narrow (Nat.le_of_ble_eq_true rfl) ?_
  show Ok G FX6_narrow 0 [xR t, xL x, xU] [] SF M 0 0 _
  refine tr_aload_n (pc := 0) dX6_narrow_0 rfl (by omega) ?_
  refine tr_geti (pc := 1) (ji := 1) dX6_narrow_1 fi6_15 rfl (by assumption) rfl ?_
  rcases (by omega : M t 1 = 0 ∨ M t 1 = 1 ∨ M t 1 = 2 ∨ M t 1 = 3 ∨ (M t 1 < 0 ∨ 3 < M t 1)) with c4 | c4 | c4 | c4 | c4
  · skip
    refine tr_table_in (pc := 4) (x := M t 1) (off := 32) (tgt := 36) dX6_narrow_4 (by omega) (by omega) (by rw [c4]; rfl) (by decide) ?_
    refine tr_lload_n (pc := 36) dX6_narrow_36 rfl ?_
    refine tr_l2i (pc := 37) dX6_narrow_37 ?_
    refine tr_i2b (pc := 38) dX6_narrow_38 ?_
    refine tr_i2l (pc := 39) dX6_narrow_39 ?_
    refine tr_lret (pc := 40) dX6_narrow_40 rfl ?_
    refine ⟨?_, rfl⟩
    unfold tp_nar
    repeat' split
    all_goals first | rfl | omega
  · skip
    refine tr_table_in (pc := 4) (x := M t 1) (off := 37) (tgt := 41) dX6_narrow_4 (by omega) (by omega) (by rw [c4]; rfl) (by decide) ?_
    refine tr_lload_n (pc := 41) dX6_narrow_41 rfl ?_
    refine tr_l2i (pc := 42) dX6_narrow_42 ?_
    refine tr_i2s (pc := 43) dX6_narrow_43 ?_
    refine tr_i2l (pc := 44) dX6_narrow_44 ?_
    refine tr_lret (pc := 45) dX6_narrow_45 rfl ?_
    refine ⟨?_, rfl⟩
    unfold tp_nar
    repeat' split
    all_goals first | rfl | omega
  · skip
    refine tr_table_in (pc := 4) (x := M t 1) (off := 42) (tgt := 46) dX6_narrow_4 (by omega) (by omega) (by rw [c4]; rfl) (by decide) ?_
    refine tr_lload_n (pc := 46) dX6_narrow_46 rfl ?_
    refine tr_l2i (pc := 47) dX6_narrow_47 ?_
    refine tr_i2l (pc := 48) dX6_narrow_48 ?_
    refine tr_lret (pc := 49) dX6_narrow_49 rfl ?_
    refine ⟨?_, rfl⟩
    unfold tp_nar
    repeat' split
    all_goals first | rfl | omega
  · skip
    refine tr_table_in (pc := 4) (x := M t 1) (off := 46) (tgt := 50) dX6_narrow_4 (by omega) (by omega) (by rw [c4]; rfl) (by decide) ?_
    refine tr_lload_n (pc := 50) dX6_narrow_50 rfl ?_
    refine tr_lret (pc := 51) dX6_narrow_51 rfl ?_
    refine ⟨?_, rfl⟩
    unfold tp_nar
    repeat' split
    all_goals first | rfl | omega
  · skip
    refine tr_table_out (pc := 4) (x := M t 1) (tgt := 52) dX6_narrow_4 (by omega) (by decide) ?_
    refine tr_lload_n (pc := 52) dX6_narrow_52 rfl ?_
    refine tr_lconst (pc := 53) (x := 0) dX6_narrow_53 (by decide) ⟨by decide, by decide⟩ ?_
    refine tr_lceq (pc := 54) (tgt := 62) dX6_narrow_54 dX6_narrow_55 (by decide) (fun c54 => ?_) (fun c54 => ?_)
    · skip
      refine tr_lconst (pc := 62) (x := 0) dX6_narrow_62 (by decide) ⟨by decide, by decide⟩ ?_
      refine tr_lret (pc := 63) dX6_narrow_63 rfl ?_
      refine ⟨?_, rfl⟩
      unfold tp_nar
      repeat' split
      all_goals first | rfl | omega
    · skip
      refine tr_lconst (pc := 58) (x := 1) dX6_narrow_58 (by decide) ⟨by decide, by decide⟩ ?_
      refine tr_goto (pc := 59) (tgt := 63) dX6_narrow_59 (by decide) ?_
      refine tr_lret (pc := 63) dX6_narrow_63 rfl ?_
      refine ⟨?_, rfl⟩
      unfold tp_nar
      repeat' split
      all_goals first | rfl | omega
theorem sp_X6_set {G : tk_G} {M : tk_M} {t i x : Int} (ht : tp_s t) (h6 : M t 2 ≤ 60) (h0 : 0 ≤ i) (h1 : i < M t 2) : Spv G FX6_set [xR t, xI i, xL x] SF M (fun M' => M' = tk_mu M (t + 1) i (tp_nar (M t 1) x)) := by
  have ht' := ht
  obtain ⟨t0, s0, s1⟩ := ht
  refine Spv.of _ mtX6_set nlX6_set (Nat.le_of_ble_eq_true rfl) ?_
  show Ok G FX6_set 0 [xR t, xI i, xL x, xU] [] SF M 0 0 _
  refine tr_iload_n (pc := 0) dX6_set_0 rfl ?_
  refine tr_iflt (pc := 1) (tgt := 23) dX6_set_1 (by decide) (fun c1 => absurd c1 (by omega)) (fun c1 => ?_)
  refine tr_iload_n (pc := 4) dX6_set_4 rfl ?_
  refine tr_aload_n (pc := 5) dX6_set_5 rfl (by omega) ?_
  refine tr_geti (pc := 6) (ji := 2) dX6_set_6 fi6_19 rfl (by assumption) rfl ?_
  refine tr_icmpge (pc := 9) (tgt := 23) dX6_set_9 (by decide) (fun c9 => absurd c9 (by omega)) (fun c9 => ?_)
  refine tr_aload_n (pc := 12) dX6_set_12 rfl (by omega) ?_
  refine tr_getr (pc := 13) (x := t + 1) dX6_set_13 fi6_9 rfl (by assumption) rfl ?_
  refine tr_iload_n (pc := 16) dX6_set_16 rfl ?_
  refine tr_aload_n (pc := 17) dX6_set_17 rfl (by omega) ?_
  refine tr_lload_n (pc := 18) dX6_set_18 rfl ?_
  refine tr_cVl1 (pc := 19) dX6_set_19 mtX6_narrow lv6_31 rfl (by assumption) kc6 ⟨(Nat.le_of_ble_eq_true rfl), (Nat.le_of_ble_eq_true rfl)⟩ nlX6_narrow (Nat.le_of_ble_eq_true rfl) ⟨(Nat.le_of_ble_eq_true rfl), (Nat.le_of_ble_eq_true rfl)⟩ (sp_X6_narrow ht') (fun r19 M19 h19 => ?_)
  obtain ⟨hr19, hM19⟩ := h19
  obtain rfl := hr19.symm
  obtain rfl := hM19.symm
  refine tr_last (pc := 22) dX6_set_22 (by assumption) (by omega) (by omega) ?_
  refine tr_vret (pc := 23) dX6_set_23 rfl ?_
  rfl
theorem sp_X6_take {G : tk_G} {M : tk_M} {t z at' i n : Int} (ht : tp_s t) (hz : tp_s z) (hq6 : M t 2 ≤ 60) (hq7 : M z 2 ≤ 60) (a0 : 0 ≤ at') (i0 : 0 ≤ i) (n0 : 0 ≤ n) (a1 : at' + n ≤ M t 2) (i1 : i + n ≤ M z 2) : Spv G FX6_take [xR t, xI at', xR z, xI i, xI n] SF M (fun M' => M' = tk_cp M (z + 1) i (t + 1) at' n) := by
  have ht' := ht
  have hz' := hz
  obtain ⟨t0, s0, s1⟩ := ht
  obtain ⟨z0, z1, z2⟩ := hz
  refine Spv.of _ mtX6_take nlX6_take (Nat.le_of_ble_eq_true rfl) ?_
  show Ok G FX6_take 0 [xR t, xI at', xR z, xI i, xI n] [] SF M 0 0 _
  refine tr_aload_n (pc := 0) dX6_take_0 rfl (by omega) ?_
  refine tr_iload_n (pc := 1) dX6_take_1 rfl ?_
  refine tr_i2l (pc := 2) dX6_take_2 ?_
  refine tr_iload (pc := 3) dX6_take_3 rfl ?_
  refine tr_i2l (pc := 5) dX6_take_5 ?_
  refine tr_cVi2 (pc := 6) dX6_take_6 mtX6_hasRange lv6_35 rfl (by assumption) kc6 ⟨(Nat.le_of_ble_eq_true rfl), (Nat.le_of_ble_eq_true rfl)⟩ nlX6_hasRange (Nat.le_of_ble_eq_true rfl) ⟨(Nat.le_of_ble_eq_true rfl), (Nat.le_of_ble_eq_true rfl)⟩ (sp_X6_hasRange ht' (by omega) (by omega)) (fun r6 M6 h6 => ?_)
  rw [if_pos (by omega)] at h6
  obtain ⟨hr6, hM6⟩ := h6
  obtain rfl := hr6.symm
  obtain rfl := hM6.symm
  refine tr_ifeq (pc := 9) (tgt := 39) dX6_take_9 (by decide) (fun c9 => absurd c9 (by omega)) (fun c9 => ?_)
  refine tr_aload_n (pc := 12) dX6_take_12 rfl (by omega) ?_
  refine tr_iload_n (pc := 13) dX6_take_13 rfl ?_
  refine tr_i2l (pc := 14) dX6_take_14 ?_
  refine tr_iload (pc := 15) dX6_take_15 rfl ?_
  refine tr_i2l (pc := 17) dX6_take_17 ?_
  refine tr_cVi2 (pc := 18) dX6_take_18 mtX6_hasRange lv6_35 rfl (by assumption) kc6 ⟨(Nat.le_of_ble_eq_true rfl), (Nat.le_of_ble_eq_true rfl)⟩ nlX6_hasRange (Nat.le_of_ble_eq_true rfl) ⟨(Nat.le_of_ble_eq_true rfl), (Nat.le_of_ble_eq_true rfl)⟩ (sp_X6_hasRange hz' (by omega) (by omega)) (fun r18 M18 h18 => ?_)
  rw [if_pos (by omega)] at h18
  obtain ⟨hr18, hM18⟩ := h18
  obtain rfl := hr18.symm
  obtain rfl := hM18.symm
  refine tr_ifeq (pc := 21) (tgt := 39) dX6_take_21 (by decide) (fun c21 => absurd c21 (by omega)) (fun c21 => ?_)
  refine tr_aload_n (pc := 24) dX6_take_24 rfl (by omega) ?_
  refine tr_getr (pc := 25) (x := z + 1) dX6_take_25 fi6_9 rfl (by assumption) rfl ?_
  refine tr_iload_n (pc := 28) dX6_take_28 rfl ?_
  refine tr_aload_n (pc := 29) dX6_take_29 rfl (by omega) ?_
  refine tr_getr (pc := 30) (x := t + 1) dX6_take_30 fi6_9 rfl (by assumption) rfl ?_
  refine tr_iload_n (pc := 33) dX6_take_33 rfl ?_
  refine tr_iload (pc := 34) dX6_take_34 rfl ?_
  refine tr_copyl (pc := 36) dX6_take_36 ac6_39 rfl (Nat.le_of_ble_eq_true rfl) (Nat.le_of_ble_eq_true rfl) (by assumption) (by assumption) (by omega) (by omega) (by omega) (by omega) (by omega) ?_
  refine tr_vret (pc := 39) dX6_take_39 rfl ?_
  rfl
theorem sp_X6_become {G : tk_G} {M : tk_M} {t s n : Int} (ht : tp_s t) : Spv G FX6_become [xR t, xI s, xI n] SF M (fun M' => M' t 1 = s ∧ M' t 2 = max 0 (min n 60) ∧ (∀ i, 0 ≤ i → i < max 0 (min n 60) → M' (t + 1) i = 0) ∧ tk_fr M M' t (t + 2)) := by
  obtain ⟨t0, s0, s1⟩ := ht
  refine Spv.of _ mtX6_become nlX6_become (Nat.le_of_ble_eq_true rfl) ?_
  show Ok G FX6_become 0 [xR t, xI s, xI n, xU] [] SF M 0 0 _
  have loop : ∀ (d : Nat) (k : Int) (M1 : tk_M), max 0 (min n 60) - k = d → 0 ≤ k → M1 t 1 = s → M1 t 2 = max 0 (min n 60) → (∀ i, 0 ≤ i → i < k → M1 (t + 1) i = 0) → tk_fr M M1 t (t + 2) → Ok G FX6_become 21 [xR t, xI s, xI n, xI k] [] SF M1 0 0 (tk_qv SF (fun M' => M' t 1 = s ∧ M' t 2 = max 0 (min n 60) ∧ (∀ i, 0 ≤ i → i < max 0 (min n 60) → M' (t + 1) i = 0) ∧ tk_fr M M' t (t + 2))) := by
    intro d
    induction d with
    | zero =>
      intro k M1 hd hk h1 h2 ha hf
      refine tr_iload_n (pc := 21) dX6_become_21 rfl ?_
      refine tr_aload_n (pc := 22) dX6_become_22 rfl (by omega) ?_
      refine tr_geti (pc := 23) (ji := 2) dX6_become_23 fi6_19 rfl (by assumption) rfl ?_
      refine tr_icmpge (pc := 26) (tgt := 42) dX6_become_26 (by decide) (fun c26 => ?_) (fun c26 => absurd c26 (by omega))
      refine tr_vret (pc := 42) dX6_become_42 rfl ?_
      exact ⟨h1, h2, fun i i0 i1 => ha i i0 (by omega), hf⟩
    | succ d ih =>
      intro k M1 hd hk h1 h2 ha hf
      refine tr_iload_n (pc := 21) dX6_become_21 rfl ?_
      refine tr_aload_n (pc := 22) dX6_become_22 rfl (by omega) ?_
      refine tr_geti (pc := 23) (ji := 2) dX6_become_23 fi6_19 rfl (by assumption) rfl ?_
      refine tr_icmpge (pc := 26) (tgt := 42) dX6_become_26 (by decide) (fun c26 => absurd c26 (by omega)) (fun c26 => ?_)
      refine tr_aload_n (pc := 29) dX6_become_29 rfl (by omega) ?_
      refine tr_getr (pc := 30) (x := t + 1) dX6_become_30 fi6_9 rfl (by assumption) rfl ?_
      refine tr_iload_n (pc := 33) dX6_become_33 rfl ?_
      refine tr_lconst (pc := 34) (x := 0) dX6_become_34 (by decide) ⟨by decide, by decide⟩ ?_
      refine tr_last (pc := 35) dX6_become_35 (by assumption) (by omega) (by omega) ?_
      refine tr_iinc (pc := 36) dX6_become_36 rfl rfl ⟨by omega, by omega⟩ ?_
      dsimp only [List.set]
      refine tr_goto (pc := 39) (tgt := 21) dX6_become_39 (by decide) ?_
      refine ih (k + 1) _ (by omega) (by omega) ?_ ?_ ?_ (hf.mu (by omega) (by omega))
      · rw [tk_mu_c (by omega)]; exact h1
      · rw [tk_mu_c (by omega)]; exact h2
      · intro i i0 i1
        by_cases hi : i = k
        · subst hi; exact tk_mu_at _ _ _ _
        · rw [tk_mu_i hi]; exact ha i i0 (by omega)
  refine tr_aload_n (pc := 0) dX6_become_0 rfl (by omega) ?_
  refine tr_iload_n (pc := 1) dX6_become_1 rfl ?_
  refine tr_puti (pc := 2) (ji := 1) dX6_become_2 fi6_15 rfl (Or.inl rfl) (Or.inl rfl) (by assumption) rfl ?_
  refine tr_aload_n (pc := 5) dX6_become_5 rfl (by omega) ?_
  refine tr_iconst (pc := 6) dX6_become_6 ⟨by decide, by decide⟩ ?_
  refine tr_iload_n (pc := 7) dX6_become_7 rfl ?_
  refine tr_bipush (pc := 8) dX6_become_8 ⟨by decide, ⟨by decide, by decide⟩⟩ ?_
  refine tr_min (pc := 10) dX6_become_10 mm6_22 rfl (Nat.le_of_ble_eq_true rfl) (Nat.le_of_ble_eq_true rfl) ⟨(Nat.le_of_ble_eq_true rfl), (Nat.le_of_ble_eq_true rfl)⟩ ?_
  refine tr_max (pc := 13) dX6_become_13 mm6_28 rfl (Nat.le_of_ble_eq_true rfl) (Nat.le_of_ble_eq_true rfl) ⟨(Nat.le_of_ble_eq_true rfl), (Nat.le_of_ble_eq_true rfl)⟩ ?_
  refine tr_puti (pc := 16) (ji := 2) dX6_become_16 fi6_19 rfl (Or.inl rfl) (Or.inl rfl) (by assumption) rfl ?_
  refine tr_iconst (pc := 19) dX6_become_19 ⟨by decide, by decide⟩ ?_
  refine tr_istore_n (pc := 20) dX6_become_20 rfl (Nat.le_of_ble_eq_true rfl) ?_
  dsimp only [List.set]
  refine loop (max 0 (min n 60)).toNat 0 _ (by omega) (by omega) ?_ ?_ (fun i h1 h2 => by omega) ((tk_fr.rf.mu (by omega) (by omega)).mu (by omega) (by omega))
  · rw [tk_mu_i (by omega), tk_mu_at]
  · rw [tk_mu_at]
