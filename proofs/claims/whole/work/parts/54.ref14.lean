/-- THE TEXT of the reference -/
def ty_g (M : tk_M) (p : Int) : Int := if 0 ≤ p ∧ p < M 101 9 then M 109 p else -1
def ty_ok (M : tk_M) : Prop := 0 ≤ M 101 9 ∧ M 101 9 ≤ 100 ∧ ∀ i, 0 ≤ i → i < M 101 9 → 0 ≤ M 109 i ∧ M 109 i ≤ 127
theorem sp_X10_feed {G : tk_G} {M : tk_M} {x : Int} (ht : ty_ok M) : Spi G FX10_feed [xR 101, xI x] SF M (fun v M' => (¬ (0 ≤ x ∧ x ≤ 127) ∧ v = -2 ∧ M' = M) ∨ ((0 ≤ x ∧ x ≤ 127) ∧ M 101 9 = 100 ∧ v = -4 ∧ M' = M) ∨ ((0 ≤ x ∧ x ≤ 127) ∧ M 101 9 < 100 ∧ v = M 101 9 + 1 ∧ M' = tk_mu (tk_mu M 109 (M 101 9) x) 101 9 (M 101 9 + 1))) := by
  obtain ⟨t0, t1, -⟩ := ht
  refine Spi.of _ mtX10_feed nlX10_feed (Nat.le_of_ble_eq_true rfl) ?_
  show Ok G FX10_feed 0 [xR 101, xI x] [] SF M 0 0 _
  refine tr_iload_n (pc := 0) dX10_feed_0 rfl ?_
  refine tr_i2l (pc := 1) dX10_feed_1 ?_
  refine tr_lconst (pc := 2) (x := 0) dX10_feed_2 (by decide) ⟨by decide, by decide⟩ ?_
  refine tr_ldc2 (pc := 3) dX10_feed_3 kn10_172 ⟨by decide, by decide⟩ ?_
  refine tr_cSi3 (pc := 6) dX10_feed_6 mtX10_isFrom ls10_115 rfl ⟨(Nat.le_of_ble_eq_true rfl), (Nat.le_of_ble_eq_true rfl)⟩ nlX10_isFrom (Nat.le_of_ble_eq_true rfl) ⟨(Nat.le_of_ble_eq_true rfl), (Nat.le_of_ble_eq_true rfl)⟩ (sp_X10_isFrom) (fun r6 M6 h6 => ?_)
  obtain ⟨hr6, hM6⟩ := h6
  obtain rfl := hr6.symm
  obtain rfl := hM6.symm
  refine tr_ifne (pc := 9) (tgt := 15) dX10_feed_9 (by decide) (fun c9 => ?_) (fun c9 => ?_)
  · skip
    refine tr_aload_n (pc := 15) dX10_feed_15 rfl (by decide) ?_
    refine tr_geti (pc := 16) (ji := 9) dX10_feed_16 fi10_174 rfl sg101 rfl ?_
    refine tr_bipush (pc := 19) dX10_feed_19 ⟨by decide, ⟨by decide, by decide⟩⟩ ?_
    refine tr_icmpne (pc := 21) (tgt := 27) dX10_feed_21 (by decide) (fun c21 => ?_) (fun c21 => ?_)
    · skip
      refine tr_aload_n (pc := 27) dX10_feed_27 rfl (by decide) ?_
      refine tr_getr (pc := 28) (x := 109) dX10_feed_28 fi10_33 rfl sg101 rfl ?_
      refine tr_aload_n (pc := 31) dX10_feed_31 rfl (by decide) ?_
      refine tr_geti (pc := 32) (ji := 9) dX10_feed_32 fi10_174 rfl sg101 rfl ?_
      refine tr_iload_n (pc := 35) dX10_feed_35 rfl ?_
      refine tr_iast (pc := 36) dX10_feed_36 sg109 (by omega) (by omega) ?_
      refine tr_aload_n (pc := 37) dX10_feed_37 rfl (by decide) ?_
      refine tr_dup (pc := 38) dX10_feed_38 (fun h => by cases h) ?_
      refine tr_getv (pc := 39) (ji := 9) (x := M 101 9) dX10_feed_39 fi10_174 rfl sg101 rfl (by rw [tk_mu_c (by omega)]) ?_
      refine tr_iconst (pc := 42) dX10_feed_42 ⟨by decide, by decide⟩ ?_
      refine tr_iadd (pc := 43) dX10_feed_43 ⟨by omega, by omega⟩ ?_
      refine tr_puti (pc := 44) (ji := 9) dX10_feed_44 fi10_174 rfl (Or.inl rfl) (Or.inl rfl) sg101 rfl ?_
      refine tr_aload_n (pc := 47) dX10_feed_47 rfl (by decide) ?_
      refine tr_getv (pc := 48) (ji := 9) (x := M 101 9 + 1) dX10_feed_48 fi10_174 rfl sg101 rfl (tk_mu_at _ _ _ _) ?_
      refine tr_ireti (pc := 51) dX10_feed_51 rfl ?_
      exact Or.inr (Or.inr ⟨by omega, by omega, rfl, rfl⟩)
    · skip
      refine tr_bipush (pc := 24) dX10_feed_24 ⟨by decide, ⟨by decide, by decide⟩⟩ ?_
      refine tr_ireti (pc := 26) dX10_feed_26 rfl ?_
      exact Or.inr (Or.inl ⟨by omega, by omega, rfl, rfl⟩)
  · skip
    refine tr_bipush (pc := 12) dX10_feed_12 ⟨by decide, ⟨by decide, by decide⟩⟩ ?_
    refine tr_ireti (pc := 14) dX10_feed_14 rfl ?_
    exact Or.inl ⟨by omega, rfl, rfl⟩
theorem sp_X10_digitsOf {G : tk_G} {M : tk_M} {x : Int} : Spi G FX10_digitsOf [xI x] SF M (fun v M' => v = tx_len x - 1 ∧ M' = M) := by
  refine Spi.of _ mtX10_digitsOf nlX10_digitsOf (Nat.le_of_ble_eq_true rfl) ?_
  show Ok G FX10_digitsOf 0 [xI x] [] SF M 0 0 _
  unfold tx_len
  refine tr_iload_n (pc := 0) dX10_digitsOf_0 rfl ?_
  rcases (by omega : x = 43 ∨ x = 45 ∨ x = 99 ∨ x = 109 ∨ x = 117 ∨ x = 122 ∨ (x ≠ 43 ∧ x ≠ 45 ∧ x ≠ 99 ∧ x ≠ 109 ∧ x ≠ 117 ∧ x ≠ 122)) with c1 | c1 | c1 | c1 | c1 | c1 | c1
  · skip
    refine tr_lookup (pc := 1) (x := x) (off := 59) (tgt := 60) dX10_digitsOf_1 (by decide) (show Op.lookupswitch.offset [(43, 59), (45, 61), (99, 63), (109, 63), (117, 65), (122, 63)] 67 (x) = 59 by rw [Op.lookupswitch.offset_cons, if_pos (by omega)]) (by decide) ?_
    refine tr_iconst (pc := 60) dX10_digitsOf_60 ⟨by decide, by decide⟩ ?_
    refine tr_ireti (pc := 61) dX10_digitsOf_61 rfl ?_
    refine ⟨?_, rfl⟩
    repeat' split
    all_goals omega
  · skip
    refine tr_lookup (pc := 1) (x := x) (off := 61) (tgt := 62) dX10_digitsOf_1 (by decide) (show Op.lookupswitch.offset [(43, 59), (45, 61), (99, 63), (109, 63), (117, 65), (122, 63)] 67 (x) = 61 by rw [Op.lookupswitch.offset_cons, if_neg (by omega), Op.lookupswitch.offset_cons, if_pos (by omega)]) (by decide) ?_
    refine tr_iconst (pc := 62) dX10_digitsOf_62 ⟨by decide, by decide⟩ ?_
    refine tr_ireti (pc := 63) dX10_digitsOf_63 rfl ?_
    refine ⟨?_, rfl⟩
    repeat' split
    all_goals omega
  · skip
    refine tr_lookup (pc := 1) (x := x) (off := 63) (tgt := 64) dX10_digitsOf_1 (by decide) (show Op.lookupswitch.offset [(43, 59), (45, 61), (99, 63), (109, 63), (117, 65), (122, 63)] 67 (x) = 63 by rw [Op.lookupswitch.offset_cons, if_neg (by omega), Op.lookupswitch.offset_cons, if_neg (by omega), Op.lookupswitch.offset_cons, if_pos (by omega)]) (by decide) ?_
    refine tr_iconst (pc := 64) dX10_digitsOf_64 ⟨by decide, by decide⟩ ?_
    refine tr_ireti (pc := 65) dX10_digitsOf_65 rfl ?_
    refine ⟨?_, rfl⟩
    repeat' split
    all_goals omega
  · skip
    refine tr_lookup (pc := 1) (x := x) (off := 63) (tgt := 64) dX10_digitsOf_1 (by decide) (show Op.lookupswitch.offset [(43, 59), (45, 61), (99, 63), (109, 63), (117, 65), (122, 63)] 67 (x) = 63 by rw [Op.lookupswitch.offset_cons, if_neg (by omega), Op.lookupswitch.offset_cons, if_neg (by omega), Op.lookupswitch.offset_cons, if_neg (by omega), Op.lookupswitch.offset_cons, if_pos (by omega)]) (by decide) ?_
    refine tr_iconst (pc := 64) dX10_digitsOf_64 ⟨by decide, by decide⟩ ?_
    refine tr_ireti (pc := 65) dX10_digitsOf_65 rfl ?_
    refine ⟨?_, rfl⟩
    repeat' split
    all_goals omega
  · skip
    refine tr_lookup (pc := 1) (x := x) (off := 65) (tgt := 66) dX10_digitsOf_1 (by decide) (show Op.lookupswitch.offset [(43, 59), (45, 61), (99, 63), (109, 63), (117, 65), (122, 63)] 67 (x) = 65 by rw [Op.lookupswitch.offset_cons, if_neg (by omega), Op.lookupswitch.offset_cons, if_neg (by omega), Op.lookupswitch.offset_cons, if_neg (by omega), Op.lookupswitch.offset_cons, if_neg (by omega), Op.lookupswitch.offset_cons, if_pos (by omega)]) (by decide) ?_
    refine tr_iconst (pc := 66) dX10_digitsOf_66 ⟨by decide, by decide⟩ ?_
    refine tr_ireti (pc := 67) dX10_digitsOf_67 rfl ?_
    refine ⟨?_, rfl⟩
    repeat' split
    all_goals omega
  · skip
    refine tr_lookup (pc := 1) (x := x) (off := 63) (tgt := 64) dX10_digitsOf_1 (by decide) (show Op.lookupswitch.offset [(43, 59), (45, 61), (99, 63), (109, 63), (117, 65), (122, 63)] 67 (x) = 63 by rw [Op.lookupswitch.offset_cons, if_neg (by omega), Op.lookupswitch.offset_cons, if_neg (by omega), Op.lookupswitch.offset_cons, if_neg (by omega), Op.lookupswitch.offset_cons, if_neg (by omega), Op.lookupswitch.offset_cons, if_neg (by omega), Op.lookupswitch.offset_cons, if_pos (by omega)]) (by decide) ?_
    refine tr_iconst (pc := 64) dX10_digitsOf_64 ⟨by decide, by decide⟩ ?_
    refine tr_ireti (pc := 65) dX10_digitsOf_65 rfl ?_
    refine ⟨?_, rfl⟩
    repeat' split
    all_goals omega
  · skip
    refine tr_lookup (pc := 1) (x := x) (off := 67) (tgt := 68) dX10_digitsOf_1 (by decide) (show Op.lookupswitch.offset [(43, 59), (45, 61), (99, 63), (109, 63), (117, 65), (122, 63)] 67 (x) = 67 by rw [Op.lookupswitch.offset_cons, if_neg (by omega), Op.lookupswitch.offset_cons, if_neg (by omega), Op.lookupswitch.offset_cons, if_neg (by omega), Op.lookupswitch.offset_cons, if_neg (by omega), Op.lookupswitch.offset_cons, if_neg (by omega), Op.lookupswitch.offset_cons, if_neg (by omega)]; rfl) (by decide) ?_
    refine tr_iconst (pc := 68) dX10_digitsOf_68 ⟨by decide, by decide⟩ ?_
    refine tr_ireti (pc := 69) dX10_digitsOf_69 rfl ?_
    refine ⟨?_, rfl⟩
    repeat' split
    all_goals omega
/-- a CLAUSE is read -/
def cl_post (M M' : tk_M) (v : Int) : Prop :=
  ((tx_len (ty_g M (M 101 10)) = 0 ∧ v = -1 ∧ M' 101 10 = M 101 10) ∨
   (tx_len (ty_g M (M 101 10)) ≠ 0 ∧ tx_dig (ty_g M) (M 101 10) (tx_len (ty_g M (M 101 10)) - 1).toNat 1 < tx_len (ty_g M (M 101 10)) ∧ v = -1 ∧ M' 101 10 = M 101 10 + tx_dig (ty_g M) (M 101 10) (tx_len (ty_g M (M 101 10)) - 1).toNat 1) ∨
   (tx_len (ty_g M (M 101 10)) ≠ 0 ∧ ¬ tx_dig (ty_g M) (M 101 10) (tx_len (ty_g M (M 101 10)) - 1).toNat 1 < tx_len (ty_g M (M 101 10)) ∧ v = ty_g M (M 101 10) ∧ M' 101 10 = M 101 10 + tx_len (ty_g M (M 101 10)) ∧ M 101 10 + tx_len (ty_g M (M 101 10)) ≤ M 101 9 ∧ ∀ k, 0 ≤ k → k < tx_len (ty_g M (M 101 10)) - 1 → M' 110 k = ty_g M (M 101 10 + 1 + k) - 48)) ∧
  (∀ c, c ≠ 101 → c ≠ 110 → M' c = M c) ∧ ∀ j, j ≠ 10 → M' 101 j = M 101 j
theorem sp_X10_clause {G : tk_G} {M : tk_M} (ht : ty_ok M) (h0 : 0 ≤ M 101 10) : Spi G FX10_clause [xR 101] SF M (fun v M' => cl_post M M' v) := by
  obtain ⟨t0, t1, t2⟩ := ht
  refine Spi.of _ mtX10_clause nlX10_clause (Nat.le_of_ble_eq_true rfl) ?_
  show Ok G FX10_clause 0 [xR 101, xU, xU, xU] [] SF M 0 0 _
  obtain ⟨st, hst⟩ : ∃ st, M 101 10 = st := ⟨_, rfl⟩
  have mid : ∀ (x : Int), x = ty_g M st → Ok G FX10_clause 24 [xR 101, xU, xU, xU] [xI x] SF M 0 0 (tk_qi SF (fun v M' => cl_post M M' v)) := by
    intro x hx
    unfold cl_post
    rw [hst, ← hx]
    have hl := tx_len_r x
    have hdg := tx_dig_ge (ty_g M) st (tx_len x - 1).toNat 1
    generalize hL : tx_len x = L at hl hdg ⊢
    have loop : L ≠ 0 → st < M 101 9 → ∀ (e : Nat) (k : Int) (M1 : tk_M), k + e = L - 1 → 0 ≤ k → tx_dig (ty_g M) st (L - 1).toNat 1 = tx_dig (ty_g M) st e (k + 1) → M1 101 10 = st + 1 + k → st + 1 + k ≤ M 101 9 → (∀ c, c ≠ 101 → c ≠ 110 → M1 c = M c) → (∀ j, j ≠ 10 → M1 101 j = M 101 j) → (∀ i, 0 ≤ i → i < k → M1 110 i = ty_g M (st + 1 + i) - 48) → Ok G FX10_clause 49 [xR 101, xI x, xI (L - 1), xI k] [] SF M1 0 0 (tk_qi SF (fun v M' => ((L = 0 ∧ v = -1 ∧ M' 101 10 = st) ∨ (L ≠ 0 ∧ tx_dig (ty_g M) st (L - 1).toNat 1 < L ∧ v = -1 ∧ M' 101 10 = st + tx_dig (ty_g M) st (L - 1).toNat 1) ∨ (L ≠ 0 ∧ ¬ tx_dig (ty_g M) st (L - 1).toNat 1 < L ∧ v = x ∧ M' 101 10 = st + L ∧ st + L ≤ M 101 9 ∧ ∀ k, 0 ≤ k → k < L - 1 → M' 110 k = ty_g M (st + 1 + k) - 48)) ∧ (∀ c, c ≠ 101 → c ≠ 110 → M' c = M c) ∧ ∀ j, j ≠ 10 → M' 101 j = M 101 j)) := by
      intro hL0 hsn e
      induction e with
      | zero =>
        intro k M1 hk k0 hE a1 a2 a3 a4 a5
        have hE2 : tx_dig (ty_g M) st (L - 1).toNat 1 = k + 1 := hE
        refine tr_iload_n (pc := 49) dX10_clause_49 rfl ?_
        refine tr_iload_n (pc := 50) dX10_clause_50 rfl ?_
        refine tr_icmpge (pc := 51) (tgt := 123) dX10_clause_51 (by decide) (fun c51 => ?_) (fun c51 => absurd c51 (by omega))
        refine tr_iload_n (pc := 123) dX10_clause_123 rfl ?_
        refine tr_ireti (pc := 124) dX10_clause_124 rfl ?_
        exact ⟨Or.inr (Or.inr ⟨hL0, by omega, rfl, by omega, by omega, fun i i0 i1 => a5 i i0 (by omega)⟩), a3, a4⟩
      | succ e ih =>
        intro k M1 hk k0 hE a1 a2 a3 a4 a5
        replace hE : tx_dig (ty_g M) st (L - 1).toNat 1 = (if 48 ≤ ty_g M (st + (k + 1)) ∧ ty_g M (st + (k + 1)) ≤ 57 then tx_dig (ty_g M) st e (k + 1 + 1) else k + 1) := hE
        have e9 : M1 101 9 = M 101 9 := a4 9 (by omega)
        have e109 : M1 109 = M 109 := a3 109 (by omega) (by omega)
        by_cases hend : st + 1 + k = M 101 9
        · have hg : ty_g M (st + (k + 1)) = -1 := if_neg (by omega)
          rw [hg, if_neg (by omega)] at hE
          refine tr_iload_n (pc := 49) dX10_clause_49 rfl ?_
          refine tr_iload_n (pc := 50) dX10_clause_50 rfl ?_
          refine tr_icmpge (pc := 51) (tgt := 123) dX10_clause_51 (by decide) (fun c51 => absurd c51 (by omega)) (fun c51 => ?_)
          refine tr_aload_n (pc := 54) dX10_clause_54 rfl (by decide) ?_
          refine tr_getv (pc := 55) (ji := 10) (x := st + 1 + k) dX10_clause_55 fi10_177 rfl sg101 rfl (a1) ?_
          refine tr_aload_n (pc := 58) dX10_clause_58 rfl (by decide) ?_
          refine tr_getv (pc := 59) (ji := 9) (x := M 101 9) dX10_clause_59 fi10_174 rfl sg101 rfl (e9) ?_
          refine tr_icmpeq (pc := 62) (tgt := 87) dX10_clause_62 (by decide) (fun c62 => ?_) (fun c62 => absurd c62 (by omega))
          refine tr_iconst (pc := 87) dX10_clause_87 ⟨by decide, by decide⟩ ?_
          refine tr_ireti (pc := 88) dX10_clause_88 rfl ?_
          exact ⟨Or.inr (Or.inl ⟨hL0, by omega, rfl, by omega⟩), a3, a4⟩
        · have hg : ty_g M (st + (k + 1)) = M 109 (st + 1 + k) := by
            unfold ty_g
            rw [if_pos (by omega), show st + (k + 1) = st + 1 + k by omega]
          have hb := t2 (st + 1 + k) (by omega) (by omega)
          rw [hg] at hE
          refine tr_iload_n (pc := 49) dX10_clause_49 rfl ?_
          refine tr_iload_n (pc := 50) dX10_clause_50 rfl ?_
          refine tr_icmpge (pc := 51) (tgt := 123) dX10_clause_51 (by decide) (fun c51 => absurd c51 (by omega)) (fun c51 => ?_)
          refine tr_aload_n (pc := 54) dX10_clause_54 rfl (by decide) ?_
          refine tr_getv (pc := 55) (ji := 10) (x := st + 1 + k) dX10_clause_55 fi10_177 rfl sg101 rfl (a1) ?_
          refine tr_aload_n (pc := 58) dX10_clause_58 rfl (by decide) ?_
          refine tr_getv (pc := 59) (ji := 9) (x := M 101 9) dX10_clause_59 fi10_174 rfl sg101 rfl (e9) ?_
          refine tr_icmpeq (pc := 62) (tgt := 87) dX10_clause_62 (by decide) (fun c62 => absurd c62 (by omega)) (fun c62 => ?_)
          refine tr_aload_n (pc := 65) dX10_clause_65 rfl (by decide) ?_
          refine tr_getr (pc := 66) (x := 109) dX10_clause_66 fi10_33 rfl sg101 rfl ?_
          refine tr_aload_n (pc := 69) dX10_clause_69 rfl (by decide) ?_
          refine tr_getv (pc := 70) (ji := 10) (x := st + 1 + k) dX10_clause_70 fi10_177 rfl sg101 rfl (a1) ?_
          refine tr_ialdv (pc := 73) (x := M 109 (st + 1 + k)) dX10_clause_73 sg109 (by omega) (by omega) (by rw [e109]) ?_
          refine tr_i2l (pc := 74) dX10_clause_74 ?_
          refine tr_ldc2 (pc := 75) dX10_clause_75 kn10_184 ⟨by decide, by decide⟩ ?_
          refine tr_ldc2 (pc := 78) dX10_clause_78 kn10_186 ⟨by decide, by decide⟩ ?_
          refine tr_cSi3 (pc := 81) dX10_clause_81 mtX10_isFrom ls10_115 rfl ⟨(Nat.le_of_ble_eq_true rfl), (Nat.le_of_ble_eq_true rfl)⟩ nlX10_isFrom (Nat.le_of_ble_eq_true rfl) ⟨(Nat.le_of_ble_eq_true rfl), (Nat.le_of_ble_eq_true rfl)⟩ (sp_X10_isFrom) (fun r81 M81 h81 => ?_)
          obtain ⟨hr81, hM81⟩ := h81
          obtain rfl := hr81.symm
          obtain rfl := hM81.symm
          refine tr_ifne (pc := 84) (tgt := 89) dX10_clause_84 (by decide) (fun c84 => ?_) (fun c84 => ?_)
          · skip
            refine tr_aload_n (pc := 89) dX10_clause_89 rfl (by decide) ?_
            refine tr_getr (pc := 90) (x := 110) dX10_clause_90 fi10_36 rfl sg101 rfl ?_
            refine tr_iload_n (pc := 93) dX10_clause_93 rfl ?_
            refine tr_aload_n (pc := 94) dX10_clause_94 rfl (by decide) ?_
            refine tr_getr (pc := 95) (x := 109) dX10_clause_95 fi10_33 rfl sg101 rfl ?_
            refine tr_aload_n (pc := 98) dX10_clause_98 rfl (by decide) ?_
            refine tr_getv (pc := 99) (ji := 10) (x := st + 1 + k) dX10_clause_99 fi10_177 rfl sg101 rfl (a1) ?_
            refine tr_ialdv (pc := 102) (x := M 109 (st + 1 + k)) dX10_clause_102 sg109 (by omega) (by omega) (by rw [e109]) ?_
            refine tr_bipush (pc := 103) dX10_clause_103 ⟨by decide, ⟨by decide, by decide⟩⟩ ?_
            refine tr_isub (pc := 105) dX10_clause_105 ⟨by omega, by omega⟩ ?_
            refine tr_iast (pc := 106) dX10_clause_106 sg110 (by omega) (by omega) ?_
            refine tr_aload_n (pc := 107) dX10_clause_107 rfl (by decide) ?_
            refine tr_dup (pc := 108) dX10_clause_108 (fun h => by cases h) ?_
            refine tr_getv (pc := 109) (ji := 10) (x := st + 1 + k) dX10_clause_109 fi10_177 rfl sg101 rfl (by rw [tk_mu_c (by omega)]; exact a1) ?_
            refine tr_iconst (pc := 112) dX10_clause_112 ⟨by decide, by decide⟩ ?_
            refine tr_iadd (pc := 113) dX10_clause_113 ⟨by omega, by omega⟩ ?_
            refine tr_puti (pc := 114) (ji := 10) dX10_clause_114 fi10_177 rfl (Or.inl rfl) (Or.inl rfl) sg101 rfl ?_
            refine tr_iinc (pc := 117) dX10_clause_117 rfl rfl ⟨by omega, by omega⟩ ?_
            dsimp only [List.set]
            refine tr_goto (pc := 120) (tgt := 49) dX10_clause_120 (by decide) ?_
            rw [if_pos (by omega)] at hE
            refine ih (k + 1) _ (by omega) (by omega) hE (by rw [tk_mu_at]; omega) (by omega) (fun c c1 c2 => by rw [tk_mu_c c1, tk_mu_c c2]; exact a3 c c1 c2) (fun j hj => by rw [tk_mu_i hj, tk_mu_c (by omega)]; exact a4 j hj) (fun i i0 i1 => ?_)
            rw [tk_mu_c (by omega)]
            by_cases hik : i = k
            · subst hik
              rw [tk_mu_at, show st + 1 + i = st + (i + 1) by omega, hg, show st + (i + 1) = st + 1 + i by omega]
            · rw [tk_mu_i hik]; exact a5 i i0 (by omega)
          · skip
            refine tr_iconst (pc := 87) dX10_clause_87 ⟨by decide, by decide⟩ ?_
            refine tr_ireti (pc := 88) dX10_clause_88 rfl ?_
            rw [if_neg (by omega)] at hE
            exact ⟨Or.inr (Or.inl ⟨hL0, by omega, rfl, by omega⟩), a3, a4⟩
    have hxn : x ≠ -1 → st < M 101 9 := fun h => by
      apply Classical.byContradiction
      intro h2
      exact h (hx.trans (if_neg (by omega)))
    have hxL : L ≠ 0 → x ≠ -1 := fun h h2 => by subst h2; exact h hL.symm
    refine tr_istore_n (pc := 24) dX10_clause_24 rfl (Nat.le_of_ble_eq_true rfl) ?_
    dsimp only [List.set]
    refine tr_iload_n (pc := 25) dX10_clause_25 rfl ?_
    refine tr_cSi1 (pc := 26) dX10_clause_26 mtX10_digitsOf ls10_180 rfl ⟨(Nat.le_of_ble_eq_true rfl), (Nat.le_of_ble_eq_true rfl)⟩ nlX10_digitsOf (Nat.le_of_ble_eq_true rfl) ⟨(Nat.le_of_ble_eq_true rfl), (Nat.le_of_ble_eq_true rfl)⟩ (sp_X10_digitsOf) (fun r26 M26 h26 => ?_)
    rw [hL] at h26
    obtain ⟨hr26, hM26⟩ := h26
    obtain rfl := hr26.symm
    obtain rfl := hM26.symm
    refine tr_istore_n (pc := 29) dX10_clause_29 rfl (Nat.le_of_ble_eq_true rfl) ?_
    dsimp only [List.set]
    refine tr_iload_n (pc := 30) dX10_clause_30 rfl ?_
    refine tr_iconst (pc := 31) dX10_clause_31 ⟨by decide, by decide⟩ ?_
    refine tr_icmpne (pc := 32) (tgt := 37) dX10_clause_32 (by decide) (fun c32 => ?_) (fun c32 => ?_)
    · skip
      refine tr_aload_n (pc := 37) dX10_clause_37 rfl (by decide) ?_
      refine tr_dup (pc := 38) dX10_clause_38 (fun h => by cases h) ?_
      refine tr_getv (pc := 39) (ji := 10) (x := st) dX10_clause_39 fi10_177 rfl sg101 rfl (hst) ?_
      refine tr_iconst (pc := 42) dX10_clause_42 ⟨by decide, by decide⟩ ?_
      refine tr_iadd (pc := 43) dX10_clause_43 ⟨by omega, by omega⟩ ?_
      refine tr_puti (pc := 44) (ji := 10) dX10_clause_44 fi10_177 rfl (Or.inl rfl) (Or.inl rfl) sg101 rfl ?_
      refine tr_iconst (pc := 47) dX10_clause_47 ⟨by decide, by decide⟩ ?_
      refine tr_istore_n (pc := 48) dX10_clause_48 rfl (Nat.le_of_ble_eq_true rfl) ?_
      dsimp only [List.set]
      refine loop (by omega) (hxn (hxL (by omega))) (L - 1).toNat 0 _ (by omega) (by omega) (by rfl) (by rw [tk_mu_at]; omega) (by have := hxn (hxL (by omega)); omega) (fun c c1 _ => tk_mu_c c1) (fun j hj => tk_mu_i hj) (fun i i0 i1 => by omega)
    · skip
      refine tr_iconst (pc := 35) dX10_clause_35 ⟨by decide, by decide⟩ ?_
      refine tr_ireti (pc := 36) dX10_clause_36 rfl ?_
      exact ⟨Or.inl ⟨by omega, rfl, hst⟩, fun _ _ _ => rfl, fun _ _ => rfl⟩
  by_cases hin : st < M 101 9
  · skip
    refine tr_aload_n (pc := 0) dX10_clause_0 rfl (by decide) ?_
    refine tr_getv (pc := 1) (ji := 10) (x := st) dX10_clause_1 fi10_177 rfl sg101 rfl (hst) ?_
    refine tr_aload_n (pc := 4) dX10_clause_4 rfl (by decide) ?_
    refine tr_geti (pc := 5) (ji := 9) dX10_clause_5 fi10_174 rfl sg101 rfl ?_
    refine tr_icmpge (pc := 8) (tgt := 23) dX10_clause_8 (by decide) (fun c8 => absurd c8 (by omega)) (fun c8 => ?_)
    refine tr_aload_n (pc := 11) dX10_clause_11 rfl (by decide) ?_
    refine tr_getr (pc := 12) (x := 109) dX10_clause_12 fi10_33 rfl sg101 rfl ?_
    refine tr_aload_n (pc := 15) dX10_clause_15 rfl (by decide) ?_
    refine tr_getv (pc := 16) (ji := 10) (x := st) dX10_clause_16 fi10_177 rfl sg101 rfl (hst) ?_
    refine tr_iald (pc := 19) dX10_clause_19 sg109 (by omega) (by omega) ?_
    refine tr_goto (pc := 20) (tgt := 24) dX10_clause_20 (by decide) ?_
    exact mid _ (by unfold ty_g; rw [if_pos (by omega)])
  · skip
    refine tr_aload_n (pc := 0) dX10_clause_0 rfl (by decide) ?_
    refine tr_getv (pc := 1) (ji := 10) (x := st) dX10_clause_1 fi10_177 rfl sg101 rfl (hst) ?_
    refine tr_aload_n (pc := 4) dX10_clause_4 rfl (by decide) ?_
    refine tr_geti (pc := 5) (ji := 9) dX10_clause_5 fi10_174 rfl sg101 rfl ?_
    refine tr_icmpge (pc := 8) (tgt := 23) dX10_clause_8 (by decide) (fun c8 => ?_) (fun c8 => absurd c8 (by omega))
    refine tr_iconst (pc := 23) dX10_clause_23 ⟨by decide, by decide⟩ ?_
    exact mid _ (by unfold ty_g; rw [if_neg (by omega)])
/-- so many CLAUSES from a place to the end -/
def wfc (g : Int → Int) (n : Int) : Nat → Int → Prop
  | 0, p => p = n + 1
  | m + 1, p => tx_len (g p) ≠ 0 ∧ ¬ tx_dig g p (tx_len (g p) - 1).toNat 1 < tx_len (g p) ∧ wfc g n m (p + tx_len (g p) + 1)
theorem ty_g_fr {M M' : tk_M} (h1 : M' 101 9 = M 101 9) (h2 : M' 109 = M 109) : ty_g M' = ty_g M := by funext p; unfold ty_g; rw [h1, h2]
theorem ty_ok.fr {M M' : tk_M} (h : ty_ok M) (h1 : M' 101 9 = M 101 9) (h2 : M' 109 = M 109) : ty_ok M' := by unfold ty_ok; rw [h1, h2]; exact h
/-- what reading leaves alone -/
def tyf (M M' : tk_M) : Prop := (∀ c, c ≠ 101 → c ≠ 110 → M' c = M c) ∧ ∀ j, j ≠ 10 → M' 101 j = M 101 j
theorem tyf.trans {M M1 M2 : tk_M} (h1 : tyf M M1) (h2 : tyf M1 M2) : tyf M M2 := ⟨fun c a b => (h2.1 c a b).trans (h1.1 c a b), fun j a => (h2.2 j a).trans (h1.2 j a)⟩
theorem sp_X10_clauses {G : tk_G} {M : tk_M} (ht : ty_ok M) : Spi G FX10_clauses [xR 101] SF M (fun v M' => ((v = -1 ∧ 0 ≤ tx_flt (ty_g M) (M 101 9) 12 0 ∧ M' 101 10 = tx_flt (ty_g M) (M 101 9) 12 0) ∨ (1 ≤ v ∧ v ≤ 12 ∧ tx_flt (ty_g M) (M 101 9) 12 0 = -1 ∧ wfc (ty_g M) (M 101 9) v.toNat 0)) ∧ tyf M M') := by
  refine Spi.of _ mtX10_clauses nlX10_clauses (Nat.le_of_ble_eq_true rfl) ?_
  show Ok G FX10_clauses 0 [xR 101, xU, xU] [] SF M 0 0 _
  have t0 := ht.1
  have t1 := ht.2.1
  have fin0 : ∀ (mn at' : Int) (M1 : tk_M) (Q : Int → tk_M → Prop), M1 101 10 = at' → M1 101 9 = M 101 9 → Q (if at' = M 101 9 then mn else -1) M1 → Ok G FX10_clauses 9 [xR 101, xI mn, xI 0] [] SF M1 0 0 (tk_qi SF Q) := by
    intro mn at' M1 Q hat e9 hQ
    refine tr_iload_n (pc := 9) dX10_clauses_9 rfl ?_
    refine tr_ifeq (pc := 10) (tgt := 84) dX10_clauses_10 (by decide) (fun c10 => ?_) (fun c10 => absurd c10 (by omega))
    refine tr_aload_n (pc := 84) dX10_clauses_84 rfl (by decide) ?_
    refine tr_getv (pc := 85) (ji := 10) (x := at') dX10_clauses_85 fi10_177 rfl sg101 rfl (hat) ?_
    refine tr_aload_n (pc := 88) dX10_clauses_88 rfl (by decide) ?_
    refine tr_getv (pc := 89) (ji := 9) (x := M 101 9) dX10_clauses_89 fi10_174 rfl sg101 rfl (e9) ?_
    refine tr_icmpne (pc := 92) (tgt := 99) dX10_clauses_92 (by decide) (fun c92 => ?_) (fun c92 => ?_)
    · skip
      refine tr_iconst (pc := 99) dX10_clauses_99 ⟨by decide, by decide⟩ ?_
      refine tr_ireti (pc := 100) dX10_clauses_100 rfl ?_
      first | (rw [if_pos (by omega)] at hQ; exact hQ) | (rw [if_neg (by omega)] at hQ; exact hQ)
    · skip
      refine tr_iload_n (pc := 95) dX10_clauses_95 rfl ?_
      refine tr_goto (pc := 96) (tgt := 100) dX10_clauses_96 (by decide) ?_
      refine tr_ireti (pc := 100) dX10_clauses_100 rfl ?_
      first | (rw [if_pos (by omega)] at hQ; exact hQ) | (rw [if_neg (by omega)] at hQ; exact hQ)
  have step : ∀ (d : Nat) (mn st : Int) (M1 : tk_M), mn + (d + 1 : Nat) = 12 → 0 ≤ mn → 0 ≤ st → st ≤ M 101 9 → M1 101 10 = st → tyf M M1 → (∀ (M2 : tk_M), 0 < d → tx_len (ty_g M st) ≠ 0 → ¬ tx_dig (ty_g M) st (tx_len (ty_g M st) - 1).toNat 1 < tx_len (ty_g M st) → st + tx_len (ty_g M st) < M 101 9 → ty_g M (st + tx_len (ty_g M st)) = 59 → M2 101 10 = st + tx_len (ty_g M st) + 1 → tyf M M2 → Ok G FX10_clauses 9 [xR 101, xI (mn + 1), xI 1] [] SF M2 0 0 (tk_qi SF (fun v M' => ((v = -1 ∧ 0 ≤ tx_flt (ty_g M) (M 101 9) (d + 1) st ∧ M' 101 10 = tx_flt (ty_g M) (M 101 9) (d + 1) st) ∨ (mn + 1 ≤ v ∧ v ≤ 12 ∧ tx_flt (ty_g M) (M 101 9) (d + 1) st = -1 ∧ wfc (ty_g M) (M 101 9) (v - mn).toNat st)) ∧ tyf M M'))) → Ok G FX10_clauses 9 [xR 101, xI mn, xI 1] [] SF M1 0 0 (tk_qi SF (fun v M' => ((v = -1 ∧ 0 ≤ tx_flt (ty_g M) (M 101 9) (d + 1) st ∧ M' 101 10 = tx_flt (ty_g M) (M 101 9) (d + 1) st) ∨ (mn + 1 ≤ v ∧ v ≤ 12 ∧ tx_flt (ty_g M) (M 101 9) (d + 1) st = -1 ∧ wfc (ty_g M) (M 101 9) (v - mn).toNat st)) ∧ tyf M M')) := by
    intro d mn st M1 hd hm hs0 hs1 hat hf K
    have e9 : M1 101 9 = M 101 9 := hf.2 9 (by omega)
    have e109 : M1 109 = M 109 := hf.1 109 (by omega) (by omega)
    have eg' := ty_g_fr e9 e109
    have ht1 := ht.fr e9 e109
    have hl := tx_len_r (ty_g M st)
    have hdg := tx_dig_ge (ty_g M) st (tx_len (ty_g M st) - 1).toNat 1
    have hF : tx_flt (ty_g M) (M 101 9) (d + 1) st = (if tx_len (ty_g M st) = 0 then st else if tx_dig (ty_g M) st (tx_len (ty_g M st) - 1).toNat 1 < tx_len (ty_g M st) then st + tx_dig (ty_g M) st (tx_len (ty_g M st) - 1).toNat 1 else if st + tx_len (ty_g M st) = M 101 9 then -1 else if ty_g M (st + tx_len (ty_g M st)) ≠ 59 ∨ d = 0 then st + tx_len (ty_g M st) else tx_flt (ty_g M) (M 101 9) d (st + tx_len (ty_g M st) + 1)) := rfl
    have hwf : ∀ (v : Int), v = mn + 1 → wfc (ty_g M) (M 101 9) (v - mn).toNat st = (tx_len (ty_g M st) ≠ 0 ∧ ¬ tx_dig (ty_g M) st (tx_len (ty_g M st) - 1).toNat 1 < tx_len (ty_g M st) ∧ st + tx_len (ty_g M st) + 1 = M 101 9 + 1) := fun v hv => by
      rw [show (v - mn).toNat = 1 by omega]; rfl
    have hneg : tx_len (-1) = 0 := by decide
    generalize hL : tx_len (ty_g M st) = L at *
    generalize hD : tx_dig (ty_g M) st (L - 1).toNat 1 = D at *
    generalize tx_flt (ty_g M) (M 101 9) (d + 1) st = FF at *
    have hgl : 0 ≤ st + L → st + L < M 101 9 → ty_g M (st + L) = M 109 (st + L) := fun h1 h2 => if_pos ⟨h1, h2⟩
    refine tr_iload_n (pc := 9) dX10_clauses_9 rfl ?_
    refine tr_ifeq (pc := 10) (tgt := 84) dX10_clauses_10 (by decide) (fun c10 => absurd c10 (by omega)) (fun c10 => ?_)
    refine tr_aload_n (pc := 13) dX10_clauses_13 rfl (by decide) ?_
    refine tr_cVi0 (pc := 14) dX10_clauses_14 mtX10_clause lv10_207 rfl sg101 kc10 ⟨(Nat.le_of_ble_eq_true rfl), (Nat.le_of_ble_eq_true rfl)⟩ nlX10_clause (Nat.le_of_ble_eq_true rfl) ⟨(Nat.le_of_ble_eq_true rfl), (Nat.le_of_ble_eq_true rfl)⟩ (sp_X10_clause ht1 (by omega)) (fun r14 M14 h14 => ?_)
    unfold cl_post at h14
    rw [hat, eg', e9, hL, hD] at h14
    obtain ⟨hv, f1'⟩ := h14
    have f1 : tyf M M14 := hf.trans f1'
    have n9 : M14 101 9 = M 101 9 := f1.2 9 (by omega)
    have n109 : M14 109 = M 109 := f1.1 109 (by omega) (by omega)
    refine tr_iconst (pc := 17) dX10_clauses_17 ⟨by decide, by decide⟩ ?_
    refine tr_icmpne (pc := 18) (tgt := 23) dX10_clauses_18 (by decide) (fun c18 => ?_) (fun c18 => ?_)
    · skip
      obtain ⟨u1, u2, u3, u4, u5, -⟩ := (hv.resolve_left (by omega)).resolve_left (by omega)
      refine tr_iinc (pc := 23) dX10_clauses_23 rfl rfl ⟨by omega, by omega⟩ ?_
      dsimp only [List.set]
      refine tr_aload_n (pc := 26) dX10_clauses_26 rfl (by decide) ?_
      refine tr_getv (pc := 27) (ji := 10) (x := st + L) dX10_clauses_27 fi10_177 rfl sg101 rfl (u4) ?_
      refine tr_aload_n (pc := 30) dX10_clauses_30 rfl (by decide) ?_
      refine tr_getv (pc := 31) (ji := 9) (x := M 101 9) dX10_clauses_31 fi10_174 rfl sg101 rfl (n9) ?_
      refine tr_icmpge (pc := 34) (tgt := 61) dX10_clauses_34 (by decide) (fun c34 => ?_) (fun c34 => ?_)
      · skip
        refine tr_iconst (pc := 61) dX10_clauses_61 ⟨by decide, by decide⟩ ?_
        refine tr_istore_n (pc := 62) dX10_clauses_62 rfl (Nat.le_of_ble_eq_true rfl) ?_
        dsimp only [List.set]
        refine tr_aload_n (pc := 63) dX10_clauses_63 rfl (by decide) ?_
        refine tr_dup (pc := 64) dX10_clauses_64 (fun h => by cases h) ?_
        refine tr_getv (pc := 65) (ji := 10) (x := st + L) dX10_clauses_65 fi10_177 rfl sg101 rfl (u4) ?_
        refine tr_iload_n (pc := 68) dX10_clauses_68 rfl ?_
        refine tr_ifeq (pc := 69) (tgt := 76) dX10_clauses_69 (by decide) (fun c69 => ?_) (fun c69 => ?_)
        · skip
          refine tr_iconst (pc := 76) dX10_clauses_76 ⟨by decide, by decide⟩ ?_
          refine tr_iadd (pc := 77) dX10_clauses_77 ⟨by omega, by omega⟩ ?_
          refine tr_puti (pc := 78) (ji := 10) dX10_clauses_78 fi10_177 rfl (Or.inl rfl) (Or.inl rfl) sg101 rfl ?_
          refine tr_goto (pc := 81) (tgt := 9) dX10_clauses_81 (by decide) ?_
          first
          | (exfalso; omega)
          | refine K _ (by omega) u1 (by omega) (by omega) ((hgl (by omega) (by omega)).trans (by omega)) (by rw [tk_mu_at]) ⟨fun c c1 c2 => by rw [tk_mu_c c1]; exact f1.1 c c1 c2, fun j hj => by rw [tk_mu_i hj]; exact f1.2 j hj⟩
          | refine fin0 (mn + 1) (st + L) _ _ (by rw [tk_mu_at]; omega) (by rw [tk_mu_i (by omega)]; exact n9) ?_
            refine ⟨?_, fun c c1 c2 => by rw [tk_mu_c c1]; exact f1.1 c c1 c2, fun j hj => by rw [tk_mu_i hj]; exact f1.2 j hj⟩
            rw [if_neg u1, if_neg u2] at hF
            by_cases hn : st + L = M 101 9
            · rw [if_pos hn] at hF ⊢
              exact Or.inr ⟨by omega, by omega, hF, by rw [hwf (mn + 1) rfl]; exact ⟨u1, u2, by omega⟩⟩
            · rw [if_neg hn] at hF ⊢
              have hgl' := hgl (by omega) (by omega)
              rw [if_pos (by omega)] at hF
              exact Or.inl ⟨rfl, by omega, by rw [tk_mu_at]; omega⟩
        · skip
          refine tr_iconst (pc := 72) dX10_clauses_72 ⟨by decide, by decide⟩ ?_
          refine tr_goto (pc := 73) (tgt := 77) dX10_clauses_73 (by decide) ?_
          refine tr_iadd (pc := 77) dX10_clauses_77 ⟨by omega, by omega⟩ ?_
          refine tr_puti (pc := 78) (ji := 10) dX10_clauses_78 fi10_177 rfl (Or.inl rfl) (Or.inl rfl) sg101 rfl ?_
          refine tr_goto (pc := 81) (tgt := 9) dX10_clauses_81 (by decide) ?_
          first
          | (exfalso; omega)
          | refine K _ (by omega) u1 (by omega) (by omega) ((hgl (by omega) (by omega)).trans (by omega)) (by rw [tk_mu_at]) ⟨fun c c1 c2 => by rw [tk_mu_c c1]; exact f1.1 c c1 c2, fun j hj => by rw [tk_mu_i hj]; exact f1.2 j hj⟩
          | refine fin0 (mn + 1) (st + L) _ _ (by rw [tk_mu_at]; omega) (by rw [tk_mu_i (by omega)]; exact n9) ?_
            refine ⟨?_, fun c c1 c2 => by rw [tk_mu_c c1]; exact f1.1 c c1 c2, fun j hj => by rw [tk_mu_i hj]; exact f1.2 j hj⟩
            rw [if_neg u1, if_neg u2] at hF
            by_cases hn : st + L = M 101 9
            · rw [if_pos hn] at hF ⊢
              exact Or.inr ⟨by omega, by omega, hF, by rw [hwf (mn + 1) rfl]; exact ⟨u1, u2, by omega⟩⟩
            · rw [if_neg hn] at hF ⊢
              have hgl' := hgl (by omega) (by omega)
              rw [if_pos (by omega)] at hF
              exact Or.inl ⟨rfl, by omega, by rw [tk_mu_at]; omega⟩
      · skip
        refine tr_aload_n (pc := 37) dX10_clauses_37 rfl (by decide) ?_
        refine tr_getr (pc := 38) (x := 109) dX10_clauses_38 fi10_33 rfl sg101 rfl ?_
        refine tr_aload_n (pc := 41) dX10_clauses_41 rfl (by decide) ?_
        refine tr_getv (pc := 42) (ji := 10) (x := st + L) dX10_clauses_42 fi10_177 rfl sg101 rfl (u4) ?_
        refine tr_ialdv (pc := 45) (x := M 109 (st + L)) dX10_clauses_45 sg109 (by omega) (by omega) (by rw [n109]) ?_
        refine tr_bipush (pc := 46) dX10_clauses_46 ⟨by decide, ⟨by decide, by decide⟩⟩ ?_
        refine tr_icmpne (pc := 48) (tgt := 61) dX10_clauses_48 (by decide) (fun c48 => ?_) (fun c48 => ?_)
        · skip
          refine tr_iconst (pc := 61) dX10_clauses_61 ⟨by decide, by decide⟩ ?_
          refine tr_istore_n (pc := 62) dX10_clauses_62 rfl (Nat.le_of_ble_eq_true rfl) ?_
          dsimp only [List.set]
          refine tr_aload_n (pc := 63) dX10_clauses_63 rfl (by decide) ?_
          refine tr_dup (pc := 64) dX10_clauses_64 (fun h => by cases h) ?_
          refine tr_getv (pc := 65) (ji := 10) (x := st + L) dX10_clauses_65 fi10_177 rfl sg101 rfl (u4) ?_
          refine tr_iload_n (pc := 68) dX10_clauses_68 rfl ?_
          refine tr_ifeq (pc := 69) (tgt := 76) dX10_clauses_69 (by decide) (fun c69 => ?_) (fun c69 => ?_)
          · skip
            refine tr_iconst (pc := 76) dX10_clauses_76 ⟨by decide, by decide⟩ ?_
            refine tr_iadd (pc := 77) dX10_clauses_77 ⟨by omega, by omega⟩ ?_
            refine tr_puti (pc := 78) (ji := 10) dX10_clauses_78 fi10_177 rfl (Or.inl rfl) (Or.inl rfl) sg101 rfl ?_
            refine tr_goto (pc := 81) (tgt := 9) dX10_clauses_81 (by decide) ?_
            first
            | (exfalso; omega)
            | refine K _ (by omega) u1 (by omega) (by omega) ((hgl (by omega) (by omega)).trans (by omega)) (by rw [tk_mu_at]) ⟨fun c c1 c2 => by rw [tk_mu_c c1]; exact f1.1 c c1 c2, fun j hj => by rw [tk_mu_i hj]; exact f1.2 j hj⟩
            | refine fin0 (mn + 1) (st + L) _ _ (by rw [tk_mu_at]; omega) (by rw [tk_mu_i (by omega)]; exact n9) ?_
              refine ⟨?_, fun c c1 c2 => by rw [tk_mu_c c1]; exact f1.1 c c1 c2, fun j hj => by rw [tk_mu_i hj]; exact f1.2 j hj⟩
              rw [if_neg u1, if_neg u2] at hF
              by_cases hn : st + L = M 101 9
              · rw [if_pos hn] at hF ⊢
                exact Or.inr ⟨by omega, by omega, hF, by rw [hwf (mn + 1) rfl]; exact ⟨u1, u2, by omega⟩⟩
              · rw [if_neg hn] at hF ⊢
                have hgl' := hgl (by omega) (by omega)
                rw [if_pos (by omega)] at hF
                exact Or.inl ⟨rfl, by omega, by rw [tk_mu_at]; omega⟩
          · skip
            refine tr_iconst (pc := 72) dX10_clauses_72 ⟨by decide, by decide⟩ ?_
            refine tr_goto (pc := 73) (tgt := 77) dX10_clauses_73 (by decide) ?_
            refine tr_iadd (pc := 77) dX10_clauses_77 ⟨by omega, by omega⟩ ?_
            refine tr_puti (pc := 78) (ji := 10) dX10_clauses_78 fi10_177 rfl (Or.inl rfl) (Or.inl rfl) sg101 rfl ?_
            refine tr_goto (pc := 81) (tgt := 9) dX10_clauses_81 (by decide) ?_
            first
            | (exfalso; omega)
            | refine K _ (by omega) u1 (by omega) (by omega) ((hgl (by omega) (by omega)).trans (by omega)) (by rw [tk_mu_at]) ⟨fun c c1 c2 => by rw [tk_mu_c c1]; exact f1.1 c c1 c2, fun j hj => by rw [tk_mu_i hj]; exact f1.2 j hj⟩
            | refine fin0 (mn + 1) (st + L) _ _ (by rw [tk_mu_at]; omega) (by rw [tk_mu_i (by omega)]; exact n9) ?_
              refine ⟨?_, fun c c1 c2 => by rw [tk_mu_c c1]; exact f1.1 c c1 c2, fun j hj => by rw [tk_mu_i hj]; exact f1.2 j hj⟩
              rw [if_neg u1, if_neg u2] at hF
              by_cases hn : st + L = M 101 9
              · rw [if_pos hn] at hF ⊢
                exact Or.inr ⟨by omega, by omega, hF, by rw [hwf (mn + 1) rfl]; exact ⟨u1, u2, by omega⟩⟩
              · rw [if_neg hn] at hF ⊢
                have hgl' := hgl (by omega) (by omega)
                rw [if_pos (by omega)] at hF
                exact Or.inl ⟨rfl, by omega, by rw [tk_mu_at]; omega⟩
        · skip
          refine tr_iload_n (pc := 51) dX10_clauses_51 rfl ?_
          refine tr_bipush (pc := 52) dX10_clauses_52 ⟨by decide, ⟨by decide, by decide⟩⟩ ?_
          refine tr_icmpge (pc := 54) (tgt := 61) dX10_clauses_54 (by decide) (fun c54 => ?_) (fun c54 => ?_)
          · skip
            refine tr_iconst (pc := 61) dX10_clauses_61 ⟨by decide, by decide⟩ ?_
            refine tr_istore_n (pc := 62) dX10_clauses_62 rfl (Nat.le_of_ble_eq_true rfl) ?_
            dsimp only [List.set]
            refine tr_aload_n (pc := 63) dX10_clauses_63 rfl (by decide) ?_
            refine tr_dup (pc := 64) dX10_clauses_64 (fun h => by cases h) ?_
            refine tr_getv (pc := 65) (ji := 10) (x := st + L) dX10_clauses_65 fi10_177 rfl sg101 rfl (u4) ?_
            refine tr_iload_n (pc := 68) dX10_clauses_68 rfl ?_
            refine tr_ifeq (pc := 69) (tgt := 76) dX10_clauses_69 (by decide) (fun c69 => ?_) (fun c69 => ?_)
            · skip
              refine tr_iconst (pc := 76) dX10_clauses_76 ⟨by decide, by decide⟩ ?_
              refine tr_iadd (pc := 77) dX10_clauses_77 ⟨by omega, by omega⟩ ?_
              refine tr_puti (pc := 78) (ji := 10) dX10_clauses_78 fi10_177 rfl (Or.inl rfl) (Or.inl rfl) sg101 rfl ?_
              refine tr_goto (pc := 81) (tgt := 9) dX10_clauses_81 (by decide) ?_
              first
              | (exfalso; omega)
              | refine K _ (by omega) u1 (by omega) (by omega) ((hgl (by omega) (by omega)).trans (by omega)) (by rw [tk_mu_at]) ⟨fun c c1 c2 => by rw [tk_mu_c c1]; exact f1.1 c c1 c2, fun j hj => by rw [tk_mu_i hj]; exact f1.2 j hj⟩
              | refine fin0 (mn + 1) (st + L) _ _ (by rw [tk_mu_at]; omega) (by rw [tk_mu_i (by omega)]; exact n9) ?_
                refine ⟨?_, fun c c1 c2 => by rw [tk_mu_c c1]; exact f1.1 c c1 c2, fun j hj => by rw [tk_mu_i hj]; exact f1.2 j hj⟩
                rw [if_neg u1, if_neg u2] at hF
                by_cases hn : st + L = M 101 9
                · rw [if_pos hn] at hF ⊢
                  exact Or.inr ⟨by omega, by omega, hF, by rw [hwf (mn + 1) rfl]; exact ⟨u1, u2, by omega⟩⟩
                · rw [if_neg hn] at hF ⊢
                  have hgl' := hgl (by omega) (by omega)
                  rw [if_pos (by omega)] at hF
                  exact Or.inl ⟨rfl, by omega, by rw [tk_mu_at]; omega⟩
            · skip
              refine tr_iconst (pc := 72) dX10_clauses_72 ⟨by decide, by decide⟩ ?_
              refine tr_goto (pc := 73) (tgt := 77) dX10_clauses_73 (by decide) ?_
              refine tr_iadd (pc := 77) dX10_clauses_77 ⟨by omega, by omega⟩ ?_
              refine tr_puti (pc := 78) (ji := 10) dX10_clauses_78 fi10_177 rfl (Or.inl rfl) (Or.inl rfl) sg101 rfl ?_
              refine tr_goto (pc := 81) (tgt := 9) dX10_clauses_81 (by decide) ?_
              first
              | (exfalso; omega)
              | refine K _ (by omega) u1 (by omega) (by omega) ((hgl (by omega) (by omega)).trans (by omega)) (by rw [tk_mu_at]) ⟨fun c c1 c2 => by rw [tk_mu_c c1]; exact f1.1 c c1 c2, fun j hj => by rw [tk_mu_i hj]; exact f1.2 j hj⟩
              | refine fin0 (mn + 1) (st + L) _ _ (by rw [tk_mu_at]; omega) (by rw [tk_mu_i (by omega)]; exact n9) ?_
                refine ⟨?_, fun c c1 c2 => by rw [tk_mu_c c1]; exact f1.1 c c1 c2, fun j hj => by rw [tk_mu_i hj]; exact f1.2 j hj⟩
                rw [if_neg u1, if_neg u2] at hF
                by_cases hn : st + L = M 101 9
                · rw [if_pos hn] at hF ⊢
                  exact Or.inr ⟨by omega, by omega, hF, by rw [hwf (mn + 1) rfl]; exact ⟨u1, u2, by omega⟩⟩
                · rw [if_neg hn] at hF ⊢
                  have hgl' := hgl (by omega) (by omega)
                  rw [if_pos (by omega)] at hF
                  exact Or.inl ⟨rfl, by omega, by rw [tk_mu_at]; omega⟩
          · skip
            refine tr_iconst (pc := 57) dX10_clauses_57 ⟨by decide, by decide⟩ ?_
            refine tr_goto (pc := 58) (tgt := 62) dX10_clauses_58 (by decide) ?_
            refine tr_istore_n (pc := 62) dX10_clauses_62 rfl (Nat.le_of_ble_eq_true rfl) ?_
            dsimp only [List.set]
            refine tr_aload_n (pc := 63) dX10_clauses_63 rfl (by decide) ?_
            refine tr_dup (pc := 64) dX10_clauses_64 (fun h => by cases h) ?_
            refine tr_getv (pc := 65) (ji := 10) (x := st + L) dX10_clauses_65 fi10_177 rfl sg101 rfl (u4) ?_
            refine tr_iload_n (pc := 68) dX10_clauses_68 rfl ?_
            refine tr_ifeq (pc := 69) (tgt := 76) dX10_clauses_69 (by decide) (fun c69 => ?_) (fun c69 => ?_)
            · skip
              refine tr_iconst (pc := 76) dX10_clauses_76 ⟨by decide, by decide⟩ ?_
              refine tr_iadd (pc := 77) dX10_clauses_77 ⟨by omega, by omega⟩ ?_
              refine tr_puti (pc := 78) (ji := 10) dX10_clauses_78 fi10_177 rfl (Or.inl rfl) (Or.inl rfl) sg101 rfl ?_
              refine tr_goto (pc := 81) (tgt := 9) dX10_clauses_81 (by decide) ?_
              first
              | (exfalso; omega)
              | refine K _ (by omega) u1 (by omega) (by omega) ((hgl (by omega) (by omega)).trans (by omega)) (by rw [tk_mu_at]) ⟨fun c c1 c2 => by rw [tk_mu_c c1]; exact f1.1 c c1 c2, fun j hj => by rw [tk_mu_i hj]; exact f1.2 j hj⟩
              | refine fin0 (mn + 1) (st + L) _ _ (by rw [tk_mu_at]; omega) (by rw [tk_mu_i (by omega)]; exact n9) ?_
                refine ⟨?_, fun c c1 c2 => by rw [tk_mu_c c1]; exact f1.1 c c1 c2, fun j hj => by rw [tk_mu_i hj]; exact f1.2 j hj⟩
                rw [if_neg u1, if_neg u2] at hF
                by_cases hn : st + L = M 101 9
                · rw [if_pos hn] at hF ⊢
                  exact Or.inr ⟨by omega, by omega, hF, by rw [hwf (mn + 1) rfl]; exact ⟨u1, u2, by omega⟩⟩
                · rw [if_neg hn] at hF ⊢
                  have hgl' := hgl (by omega) (by omega)
                  rw [if_pos (by omega)] at hF
                  exact Or.inl ⟨rfl, by omega, by rw [tk_mu_at]; omega⟩
            · skip
              refine tr_iconst (pc := 72) dX10_clauses_72 ⟨by decide, by decide⟩ ?_
              refine tr_goto (pc := 73) (tgt := 77) dX10_clauses_73 (by decide) ?_
              refine tr_iadd (pc := 77) dX10_clauses_77 ⟨by omega, by omega⟩ ?_
              refine tr_puti (pc := 78) (ji := 10) dX10_clauses_78 fi10_177 rfl (Or.inl rfl) (Or.inl rfl) sg101 rfl ?_
              refine tr_goto (pc := 81) (tgt := 9) dX10_clauses_81 (by decide) ?_
              first
              | (exfalso; omega)
              | refine K _ (by omega) u1 (by omega) (by omega) ((hgl (by omega) (by omega)).trans (by omega)) (by rw [tk_mu_at]) ⟨fun c c1 c2 => by rw [tk_mu_c c1]; exact f1.1 c c1 c2, fun j hj => by rw [tk_mu_i hj]; exact f1.2 j hj⟩
              | refine fin0 (mn + 1) (st + L) _ _ (by rw [tk_mu_at]; omega) (by rw [tk_mu_i (by omega)]; exact n9) ?_
                refine ⟨?_, fun c c1 c2 => by rw [tk_mu_c c1]; exact f1.1 c c1 c2, fun j hj => by rw [tk_mu_i hj]; exact f1.2 j hj⟩
                rw [if_neg u1, if_neg u2] at hF
                by_cases hn : st + L = M 101 9
                · rw [if_pos hn] at hF ⊢
                  exact Or.inr ⟨by omega, by omega, hF, by rw [hwf (mn + 1) rfl]; exact ⟨u1, u2, by omega⟩⟩
                · rw [if_neg hn] at hF ⊢
                  have hgl' := hgl (by omega) (by omega)
                  rw [if_pos (by omega)] at hF
                  exact Or.inl ⟨rfl, by omega, by rw [tk_mu_at]; omega⟩
    · skip
      refine tr_iconst (pc := 21) dX10_clauses_21 ⟨by decide, by decide⟩ ?_
      refine tr_ireti (pc := 22) dX10_clauses_22 rfl ?_
      rcases hv with ⟨v1, v2, v3⟩ | ⟨v1, v2, v3, v4⟩ | ⟨v1, v2, v3, -⟩
      · rw [if_pos v1] at hF
        exact ⟨Or.inl ⟨rfl, by omega, by omega⟩, f1⟩
      · rw [if_neg v1, if_pos v2] at hF
        exact ⟨Or.inl ⟨rfl, by omega, by omega⟩, f1⟩
      · exfalso
        have h9 : ty_g M st = -1 := by omega
        rw [h9, hneg] at hL
        omega
  have loop : ∀ (d : Nat) (mn st : Int) (M1 : tk_M), mn + (d + 1 : Nat) = 12 → 0 ≤ mn → 0 ≤ st → st ≤ M 101 9 → M1 101 10 = st → tyf M M1 → Ok G FX10_clauses 9 [xR 101, xI mn, xI 1] [] SF M1 0 0 (tk_qi SF (fun v M' => ((v = -1 ∧ 0 ≤ tx_flt (ty_g M) (M 101 9) (d + 1) st ∧ M' 101 10 = tx_flt (ty_g M) (M 101 9) (d + 1) st) ∨ (mn + 1 ≤ v ∧ v ≤ 12 ∧ tx_flt (ty_g M) (M 101 9) (d + 1) st = -1 ∧ wfc (ty_g M) (M 101 9) (v - mn).toNat st)) ∧ tyf M M')) := by
    intro d
    induction d with
    | zero =>
      intro mn st M1 hd hm hs0 hs1 hat hf
      exact step 0 mn st M1 hd hm hs0 hs1 hat hf (fun M2 h => absurd h (by omega))
    | succ d ih =>
      intro mn st M1 hd hm hs0 hs1 hat hf
      refine step (d + 1) mn st M1 hd hm hs0 hs1 hat hf (fun M2 _ h1 h2 h3 h4 h5 h6 => ?_)
      have hl := tx_len_r (ty_g M st)
      refine tk_mono (ih (mn + 1) (st + tx_len (ty_g M st) + 1) M2 (by omega) (by omega) (by omega) (by omega) h5 h6) (fun v M' h => ⟨?_, h.2⟩)
      have e : tx_flt (ty_g M) (M 101 9) (d + 1 + 1) st = tx_flt (ty_g M) (M 101 9) (d + 1) (st + tx_len (ty_g M st) + 1) := by
        show (if tx_len (ty_g M st) = 0 then st else if tx_dig (ty_g M) st (tx_len (ty_g M st) - 1).toNat 1 < tx_len (ty_g M st) then st + tx_dig (ty_g M) st (tx_len (ty_g M st) - 1).toNat 1 else if st + tx_len (ty_g M st) = M 101 9 then -1 else if ty_g M (st + tx_len (ty_g M st)) ≠ 59 ∨ d + 1 = 0 then st + tx_len (ty_g M st) else tx_flt (ty_g M) (M 101 9) (d + 1) (st + tx_len (ty_g M st) + 1)) = _
        rw [if_neg h1, if_neg h2, if_neg (by omega), if_neg (by omega)]
      rw [e]
      rcases h.1 with h7 | ⟨h7, h8, h9, h10⟩
      · exact Or.inl h7
      · refine Or.inr ⟨by omega, h8, h9, ?_⟩
        rw [show (v - mn).toNat = (v - (mn + 1)).toNat + 1 by omega]
        exact ⟨h1, h2, h10⟩
  refine tr_aload_n (pc := 0) dX10_clauses_0 rfl (by decide) ?_
  refine tr_iconst (pc := 1) dX10_clauses_1 ⟨by decide, by decide⟩ ?_
  refine tr_puti (pc := 2) (ji := 10) dX10_clauses_2 fi10_177 rfl (Or.inl rfl) (Or.inl rfl) sg101 rfl ?_
  refine tr_iconst (pc := 5) dX10_clauses_5 ⟨by decide, by decide⟩ ?_
  refine tr_istore_n (pc := 6) dX10_clauses_6 rfl (Nat.le_of_ble_eq_true rfl) ?_
  dsimp only [List.set]
  refine tr_iconst (pc := 7) dX10_clauses_7 ⟨by decide, by decide⟩ ?_
  refine tr_istore_n (pc := 8) dX10_clauses_8 rfl (Nat.le_of_ble_eq_true rfl) ?_
  dsimp only [List.set]
  refine tk_mono (loop 11 0 0 _ (by omega) (by omega) (by omega) t0 (tk_mu_at _ _ _ _) ⟨fun c c1 _ => tk_mu_c c1, fun j hj => tk_mu_i hj⟩) (fun v M' h => ⟨?_, h.2⟩)
  rcases h.1 with h7 | ⟨h7, h8, h9, h10⟩
  · exact Or.inl h7
  · rw [Int.sub_zero] at h10
    exact Or.inr ⟨by omega, h8, h9, h10⟩
