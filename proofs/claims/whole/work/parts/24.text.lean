/-- THE TEXT: cell 72, its signs cell 73 -/
def tx_g (M : tk_M) (p : Int) : Int := if 0 ≤ p ∧ p < M 72 1 then M 73 p else -1
theorem sp_X7_size {G : tk_G} {M : tk_M} : Spi G FX7_size [xR 72] SF M (fun v M' => v = M 72 1 ∧ M' = M) := by
  refine Spi.of _ mtX7_size nlX7_size (Nat.le_of_ble_eq_true rfl) ?_
  show Ok G FX7_size 0 [xR 72] [] SF M 0 0 _
  refine tr_aload_n (pc := 0) dX7_size_0 rfl (by decide) ?_
  refine tr_geti (pc := 1) (ji := 1) dX7_size_1 fi7_13 rfl sg72 rfl ?_
  refine tr_ireti (pc := 4) dX7_size_4 rfl ?_
  exact ⟨rfl, rfl⟩
theorem sp_X7_isFull {G : tk_G} {M : tk_M} : Spi G FX7_isFull [xR 72] SF M (fun v M' => v = (if 100 ≤ M 72 1 then 1 else 0) ∧ M' = M) := by
  refine Spi.of _ mtX7_isFull nlX7_isFull (Nat.le_of_ble_eq_true rfl) ?_
  show Ok G FX7_isFull 0 [xR 72] [] SF M 0 0 _
  refine tr_aload_n (pc := 0) dX7_isFull_0 rfl (by decide) ?_
  refine tr_geti (pc := 1) (ji := 1) dX7_isFull_1 fi7_13 rfl sg72 rfl ?_
  refine tr_bipush (pc := 4) dX7_isFull_4 ⟨by decide, ⟨by decide, by decide⟩⟩ ?_
  refine tr_icmplt (pc := 6) (tgt := 13) dX7_isFull_6 (by decide) (fun c6 => ?_) (fun c6 => ?_)
  · skip
    refine tr_iconst (pc := 13) dX7_isFull_13 ⟨by decide, by decide⟩ ?_
    refine tr_iretz (pc := 14) dX7_isFull_14 rfl (by omega) ?_
    exact ⟨by split <;> omega, rfl⟩
  · skip
    refine tr_iconst (pc := 9) dX7_isFull_9 ⟨by decide, by decide⟩ ?_
    refine tr_goto (pc := 10) (tgt := 14) dX7_isFull_10 (by decide) ?_
    refine tr_iretz (pc := 14) dX7_isFull_14 rfl (by omega) ?_
    exact ⟨by split <;> omega, rfl⟩
theorem sp_X7_add {G : tk_G} {M : tk_M} {x : Int} (h0 : 0 ≤ M 72 1) (h1 : M 72 1 < 100) (x0 : 0 ≤ x) (x1 : x ≤ 127) : Spv G FX7_add [xR 72, xI x] SF M (fun M' => M' = tk_mu (tk_mu M 73 (M 72 1) x) 72 1 (M 72 1 + 1)) := by
  refine Spv.of _ mtX7_add nlX7_add (Nat.le_of_ble_eq_true rfl) ?_
  show Ok G FX7_add 0 [xR 72, xI x] [] SF M 0 0 _
  have hb : x.bmod (2 ^ 8) = x := Int.bmod_eq_of_le (by omega) (by omega)
  refine tr_aload_n (pc := 0) dX7_add_0 rfl (by decide) ?_
  refine tr_geti (pc := 1) (ji := 1) dX7_add_1 fi7_13 rfl sg72 rfl ?_
  refine tr_bipush (pc := 4) dX7_add_4 ⟨by decide, ⟨by decide, by decide⟩⟩ ?_
  refine tr_icmpge (pc := 6) (tgt := 30) dX7_add_6 (by decide) (fun c6 => absurd c6 (by omega)) (fun c6 => ?_)
  refine tr_aload_n (pc := 9) dX7_add_9 rfl (by decide) ?_
  refine tr_getr (pc := 10) (x := 73) dX7_add_10 fi7_9 rfl sg72 rfl ?_
  refine tr_aload_n (pc := 13) dX7_add_13 rfl (by decide) ?_
  refine tr_geti (pc := 14) (ji := 1) dX7_add_14 fi7_13 rfl sg72 rfl ?_
  refine tr_iload_n (pc := 17) dX7_add_17 rfl ?_
  refine tr_i2b (pc := 18) dX7_add_18 ?_
  rw [hb]
  refine tr_bast (pc := 19) dX7_add_19 sg73 (by omega) (by omega) (by omega) (by omega) ?_
  refine tr_aload_n (pc := 20) dX7_add_20 rfl (by decide) ?_
  refine tr_dup (pc := 21) dX7_add_21 (fun h => by cases h) ?_
  refine tr_getv (pc := 22) (ji := 1) (x := M 72 1) dX7_add_22 fi7_13 rfl sg72 rfl (by rw [tk_mu_c (by omega)]) ?_
  refine tr_iconst (pc := 25) dX7_add_25 ⟨by decide, by decide⟩ ?_
  refine tr_iadd (pc := 26) dX7_add_26 ⟨by omega, by omega⟩ ?_
  refine tr_puti (pc := 27) (ji := 1) dX7_add_27 fi7_13 rfl (Or.inl rfl) (Or.inl rfl) sg72 rfl ?_
  refine tr_vret (pc := 30) dX7_add_30 rfl ?_
  rfl
theorem sp_X7_empty {G : tk_G} {M : tk_M} : Spv G FX7_empty [xR 72] SF M (fun M' => M' = tk_mu M 72 1 0) := by
  refine Spv.of _ mtX7_empty nlX7_empty (Nat.le_of_ble_eq_true rfl) ?_
  show Ok G FX7_empty 0 [xR 72] [] SF M 0 0 _
  refine tr_aload_n (pc := 0) dX7_empty_0 rfl (by decide) ?_
  refine tr_iconst (pc := 1) dX7_empty_1 ⟨by decide, by decide⟩ ?_
  refine tr_puti (pc := 2) (ji := 1) dX7_empty_2 fi7_13 rfl (Or.inl rfl) (Or.inl rfl) sg72 rfl ?_
  refine tr_vret (pc := 5) dX7_empty_5 rfl ?_
  rfl
theorem sp_X7_signAt {G : tk_G} {M : tk_M} {p : Int} (h1 : M 72 1 ≤ 100) : Spi G FX7_signAt [xR 72, xI p] SF M (fun v M' => v = tx_g M p ∧ M' = M) := by
  refine Spi.of _ mtX7_signAt nlX7_signAt (Nat.le_of_ble_eq_true rfl) ?_
  show Ok G FX7_signAt 0 [xR 72, xI p] [] SF M 0 0 _
  refine tr_iload_n (pc := 0) dX7_signAt_0 rfl ?_
  refine tr_iflt (pc := 1) (tgt := 21) dX7_signAt_1 (by decide) (fun c1 => ?_) (fun c1 => ?_)
  · skip
    refine tr_iconst (pc := 21) dX7_signAt_21 ⟨by decide, by decide⟩ ?_
    refine tr_ireti (pc := 22) dX7_signAt_22 rfl ?_
    exact ⟨by unfold tx_g; split <;> omega, rfl⟩
  · skip
    refine tr_iload_n (pc := 4) dX7_signAt_4 rfl ?_
    refine tr_aload_n (pc := 5) dX7_signAt_5 rfl (by decide) ?_
    refine tr_geti (pc := 6) (ji := 1) dX7_signAt_6 fi7_13 rfl sg72 rfl ?_
    refine tr_icmpge (pc := 9) (tgt := 21) dX7_signAt_9 (by decide) (fun c9 => ?_) (fun c9 => ?_)
    · skip
      refine tr_iconst (pc := 21) dX7_signAt_21 ⟨by decide, by decide⟩ ?_
      refine tr_ireti (pc := 22) dX7_signAt_22 rfl ?_
      exact ⟨by unfold tx_g; split <;> omega, rfl⟩
    · skip
      refine tr_aload_n (pc := 12) dX7_signAt_12 rfl (by decide) ?_
      refine tr_getr (pc := 13) (x := 73) dX7_signAt_13 fi7_9 rfl sg72 rfl ?_
      refine tr_iload_n (pc := 16) dX7_signAt_16 rfl ?_
      refine tr_bald (pc := 17) dX7_signAt_17 sg73 (by omega) (by omega) ?_
      refine tr_goto (pc := 18) (tgt := 22) dX7_signAt_18 (by decide) ?_
      refine tr_ireti (pc := 22) dX7_signAt_22 rfl ?_
      exact ⟨by unfold tx_g; split <;> omega, rfl⟩
theorem sp_X7_digitAt {G : tk_G} {M : tk_M} {p : Int} (h1 : M 72 1 ≤ 100) (hg0 : -1 ≤ tx_g M p) : Spi G FX7_digitAt [xR 72, xI p] SF M (fun v M' => v = tx_g M p - 48 ∧ M' = M) := by
  refine Spi.of _ mtX7_digitAt nlX7_digitAt (Nat.le_of_ble_eq_true rfl) ?_
  show Ok G FX7_digitAt 0 [xR 72, xI p] [] SF M 0 0 _
  refine tr_aload_n (pc := 0) dX7_digitAt_0 rfl (by decide) ?_
  refine tr_iload_n (pc := 1) dX7_digitAt_1 rfl ?_
  refine tr_cVi1 (pc := 2) dX7_digitAt_2 mtX7_signAt lv7_17 rfl sg72 kc7 ⟨(Nat.le_of_ble_eq_true rfl), (Nat.le_of_ble_eq_true rfl)⟩ nlX7_signAt (Nat.le_of_ble_eq_true rfl) ⟨(Nat.le_of_ble_eq_true rfl), (Nat.le_of_ble_eq_true rfl)⟩ (sp_X7_signAt h1) (fun r2 M2 h2 => ?_)
  obtain ⟨hr2, hM2⟩ := h2
  obtain rfl := hr2.symm
  obtain rfl := hM2.symm
  refine tk_okst (fun hok => ?_)
  have hok := tk_ok_I.mp hok
  unfold tk_r32 at hok
  refine tr_bipush (pc := 5) dX7_digitAt_5 ⟨by decide, ⟨by decide, by decide⟩⟩ ?_
  refine tr_isub (pc := 7) dX7_digitAt_7 ⟨by omega, by omega⟩ ?_
  refine tr_ireti (pc := 8) dX7_digitAt_8 rfl ?_
  exact ⟨rfl, rfl⟩
theorem sp_X7_isDigit {G : tk_G} {M : tk_M} {p : Int} (h1 : M 72 1 ≤ 100) : Spi G FX7_isDigit [xR 72, xI p] SF M (fun v M' => v = (if 48 ≤ tx_g M p ∧ tx_g M p ≤ 57 then 1 else 0) ∧ M' = M) := by
  refine Spi.of _ mtX7_isDigit nlX7_isDigit (Nat.le_of_ble_eq_true rfl) ?_
  show Ok G FX7_isDigit 0 [xR 72, xI p] [] SF M 0 0 _
  refine tr_aload_n (pc := 0) dX7_isDigit_0 rfl (by decide) ?_
  refine tr_iload_n (pc := 1) dX7_isDigit_1 rfl ?_
  refine tr_cVi1 (pc := 2) dX7_isDigit_2 mtX7_signAt lv7_17 rfl sg72 kc7 ⟨(Nat.le_of_ble_eq_true rfl), (Nat.le_of_ble_eq_true rfl)⟩ nlX7_signAt (Nat.le_of_ble_eq_true rfl) ⟨(Nat.le_of_ble_eq_true rfl), (Nat.le_of_ble_eq_true rfl)⟩ (sp_X7_signAt h1) (fun r2 M2 h2 => ?_)
  obtain ⟨hr2, hM2⟩ := h2
  obtain rfl := hr2.symm
  obtain rfl := hM2.symm
  refine tr_bipush (pc := 5) dX7_isDigit_5 ⟨by decide, ⟨by decide, by decide⟩⟩ ?_
  refine tr_icmplt (pc := 7) (tgt := 24) dX7_isDigit_7 (by decide) (fun c7 => ?_) (fun c7 => ?_)
  · skip
    refine tr_iconst (pc := 24) dX7_isDigit_24 ⟨by decide, by decide⟩ ?_
    refine tr_iretz (pc := 25) dX7_isDigit_25 rfl (by omega) ?_
    exact ⟨by split <;> omega, rfl⟩
  · skip
    refine tr_aload_n (pc := 10) dX7_isDigit_10 rfl (by decide) ?_
    refine tr_iload_n (pc := 11) dX7_isDigit_11 rfl ?_
    refine tr_cVi1 (pc := 12) dX7_isDigit_12 mtX7_signAt lv7_17 rfl sg72 kc7 ⟨(Nat.le_of_ble_eq_true rfl), (Nat.le_of_ble_eq_true rfl)⟩ nlX7_signAt (Nat.le_of_ble_eq_true rfl) ⟨(Nat.le_of_ble_eq_true rfl), (Nat.le_of_ble_eq_true rfl)⟩ (sp_X7_signAt h1) (fun r12 M12 h12 => ?_)
    obtain ⟨hr12, hM12⟩ := h12
    obtain rfl := hr12.symm
    obtain rfl := hM12.symm
    refine tr_bipush (pc := 15) dX7_isDigit_15 ⟨by decide, ⟨by decide, by decide⟩⟩ ?_
    refine tr_icmpgt (pc := 17) (tgt := 24) dX7_isDigit_17 (by decide) (fun c17 => ?_) (fun c17 => ?_)
    · skip
      refine tr_iconst (pc := 24) dX7_isDigit_24 ⟨by decide, by decide⟩ ?_
      refine tr_iretz (pc := 25) dX7_isDigit_25 rfl (by omega) ?_
      exact ⟨by split <;> omega, rfl⟩
    · skip
      refine tr_iconst (pc := 20) dX7_isDigit_20 ⟨by decide, by decide⟩ ?_
      refine tr_goto (pc := 21) (tgt := 25) dX7_isDigit_21 (by decide) ?_
      refine tr_iretz (pc := 25) dX7_isDigit_25 rfl (by omega) ?_
      exact ⟨by split <;> omega, rfl⟩
def tx_len (x : Int) : Int := if x = 43 then 4 else if x = 45 then 3 else if x = 99 ∨ x = 109 ∨ x = 122 then 2 else if x = 117 then 1 else 0
theorem sp_X7_clauseLength {G : tk_G} {M : tk_M} {x : Int} : Spi G FX7_clauseLength [xI x] SF M (fun v M' => v = tx_len x ∧ M' = M) := by
  refine Spi.of _ mtX7_clauseLength nlX7_clauseLength (Nat.le_of_ble_eq_true rfl) ?_
  show Ok G FX7_clauseLength 0 [xI x] [] SF M 0 0 _
  refine tr_iload_n (pc := 0) dX7_clauseLength_0 rfl ?_
  rcases (by omega : x = 43 ∨ x = 45 ∨ x = 99 ∨ x = 109 ∨ x = 117 ∨ x = 122 ∨ (x ≠ 43 ∧ x ≠ 45 ∧ x ≠ 99 ∧ x ≠ 109 ∧ x ≠ 117 ∧ x ≠ 122)) with c1 | c1 | c1 | c1 | c1 | c1 | c1
  · skip
    refine tr_lookup (pc := 1) (x := x) (off := 59) (tgt := 60) dX7_clauseLength_1 (by decide) (show Op.lookupswitch.offset [(43, 59), (45, 61), (99, 63), (109, 63), (117, 65), (122, 63)] 67 (x) = 59 by rw [Op.lookupswitch.offset_cons, if_pos (by omega)]) (by decide) ?_
    refine tr_iconst (pc := 60) dX7_clauseLength_60 ⟨by decide, by decide⟩ ?_
    refine tr_ireti (pc := 61) dX7_clauseLength_61 rfl ?_
    refine ⟨?_, rfl⟩
    unfold tx_len
    repeat' split
    all_goals omega
  · skip
    refine tr_lookup (pc := 1) (x := x) (off := 61) (tgt := 62) dX7_clauseLength_1 (by decide) (show Op.lookupswitch.offset [(43, 59), (45, 61), (99, 63), (109, 63), (117, 65), (122, 63)] 67 (x) = 61 by rw [Op.lookupswitch.offset_cons, if_neg (by omega), Op.lookupswitch.offset_cons, if_pos (by omega)]) (by decide) ?_
    refine tr_iconst (pc := 62) dX7_clauseLength_62 ⟨by decide, by decide⟩ ?_
    refine tr_ireti (pc := 63) dX7_clauseLength_63 rfl ?_
    refine ⟨?_, rfl⟩
    unfold tx_len
    repeat' split
    all_goals omega
  · skip
    refine tr_lookup (pc := 1) (x := x) (off := 63) (tgt := 64) dX7_clauseLength_1 (by decide) (show Op.lookupswitch.offset [(43, 59), (45, 61), (99, 63), (109, 63), (117, 65), (122, 63)] 67 (x) = 63 by rw [Op.lookupswitch.offset_cons, if_neg (by omega), Op.lookupswitch.offset_cons, if_neg (by omega), Op.lookupswitch.offset_cons, if_pos (by omega)]) (by decide) ?_
    refine tr_iconst (pc := 64) dX7_clauseLength_64 ⟨by decide, by decide⟩ ?_
    refine tr_ireti (pc := 65) dX7_clauseLength_65 rfl ?_
    refine ⟨?_, rfl⟩
    unfold tx_len
    repeat' split
    all_goals omega
  · skip
    refine tr_lookup (pc := 1) (x := x) (off := 63) (tgt := 64) dX7_clauseLength_1 (by decide) (show Op.lookupswitch.offset [(43, 59), (45, 61), (99, 63), (109, 63), (117, 65), (122, 63)] 67 (x) = 63 by rw [Op.lookupswitch.offset_cons, if_neg (by omega), Op.lookupswitch.offset_cons, if_neg (by omega), Op.lookupswitch.offset_cons, if_neg (by omega), Op.lookupswitch.offset_cons, if_pos (by omega)]) (by decide) ?_
    refine tr_iconst (pc := 64) dX7_clauseLength_64 ⟨by decide, by decide⟩ ?_
    refine tr_ireti (pc := 65) dX7_clauseLength_65 rfl ?_
    refine ⟨?_, rfl⟩
    unfold tx_len
    repeat' split
    all_goals omega
  · skip
    refine tr_lookup (pc := 1) (x := x) (off := 65) (tgt := 66) dX7_clauseLength_1 (by decide) (show Op.lookupswitch.offset [(43, 59), (45, 61), (99, 63), (109, 63), (117, 65), (122, 63)] 67 (x) = 65 by rw [Op.lookupswitch.offset_cons, if_neg (by omega), Op.lookupswitch.offset_cons, if_neg (by omega), Op.lookupswitch.offset_cons, if_neg (by omega), Op.lookupswitch.offset_cons, if_neg (by omega), Op.lookupswitch.offset_cons, if_pos (by omega)]) (by decide) ?_
    refine tr_iconst (pc := 66) dX7_clauseLength_66 ⟨by decide, by decide⟩ ?_
    refine tr_ireti (pc := 67) dX7_clauseLength_67 rfl ?_
    refine ⟨?_, rfl⟩
    unfold tx_len
    repeat' split
    all_goals omega
  · skip
    refine tr_lookup (pc := 1) (x := x) (off := 63) (tgt := 64) dX7_clauseLength_1 (by decide) (show Op.lookupswitch.offset [(43, 59), (45, 61), (99, 63), (109, 63), (117, 65), (122, 63)] 67 (x) = 63 by rw [Op.lookupswitch.offset_cons, if_neg (by omega), Op.lookupswitch.offset_cons, if_neg (by omega), Op.lookupswitch.offset_cons, if_neg (by omega), Op.lookupswitch.offset_cons, if_neg (by omega), Op.lookupswitch.offset_cons, if_neg (by omega), Op.lookupswitch.offset_cons, if_pos (by omega)]) (by decide) ?_
    refine tr_iconst (pc := 64) dX7_clauseLength_64 ⟨by decide, by decide⟩ ?_
    refine tr_ireti (pc := 65) dX7_clauseLength_65 rfl ?_
    refine ⟨?_, rfl⟩
    unfold tx_len
    repeat' split
    all_goals omega
  · skip
    refine tr_lookup (pc := 1) (x := x) (off := 67) (tgt := 68) dX7_clauseLength_1 (by decide) (show Op.lookupswitch.offset [(43, 59), (45, 61), (99, 63), (109, 63), (117, 65), (122, 63)] 67 (x) = 67 by rw [Op.lookupswitch.offset_cons, if_neg (by omega), Op.lookupswitch.offset_cons, if_neg (by omega), Op.lookupswitch.offset_cons, if_neg (by omega), Op.lookupswitch.offset_cons, if_neg (by omega), Op.lookupswitch.offset_cons, if_neg (by omega), Op.lookupswitch.offset_cons, if_neg (by omega)]; rfl) (by decide) ?_
    refine tr_iconst (pc := 68) dX7_clauseLength_68 ⟨by decide, by decide⟩ ?_
    refine tr_ireti (pc := 69) dX7_clauseLength_69 rfl ?_
    refine ⟨?_, rfl⟩
    unfold tx_len
    repeat' split
    all_goals omega
/-- the first of the places i .. n - 1 behind a start where no digit is; n: none -/
def tx_dig (g : Int → Int) (st : Int) : Nat → Int → Int
  | 0, i => i
  | d + 1, i => if 48 ≤ g (st + i) ∧ g (st + i) ≤ 57 then tx_dig g st d (i + 1) else i
/-- the FAULT from clause c (d more may come) at a start; -1: none -/
def tx_flt (g : Int → Int) (n : Int) : Nat → Int → Int
  | 0, st => st
  | d + 1, st =>
    if tx_len (g st) = 0 then st
    else if tx_dig g st (tx_len (g st) - 1).toNat 1 < tx_len (g st) then st + tx_dig g st (tx_len (g st) - 1).toNat 1
    else if st + tx_len (g st) = n then -1
    else if g (st + tx_len (g st)) ≠ 59 ∨ d = 0 then st + tx_len (g st)
    else tx_flt g n d (st + tx_len (g st) + 1)
theorem tx_len_r (x : Int) : 0 ≤ tx_len x ∧ tx_len x ≤ 4 := by
  unfold tx_len
  repeat' split
  all_goals omega
theorem tx_dig_ge (g : Int → Int) (st : Int) : ∀ (d : Nat) (i : Int), i ≤ tx_dig g st d i ∧ tx_dig g st d i ≤ i + d := by
  intro d
  induction d with
  | zero => intro i; unfold tx_dig; omega
  | succ d ih =>
    intro i
    unfold tx_dig
    split
    · have := ih (i + 1); omega
    · omega
theorem sp_X7_faultPlace {G : tk_G} {M : tk_M} (h0 : 0 ≤ M 72 1) (h1 : M 72 1 ≤ 100) : Spi G FX7_faultPlace [xR 72] SF M (fun v M' => v = tx_flt (tx_g M) (M 72 1) 12 0 ∧ M' = M) := by
  refine Spi.of _ mtX7_faultPlace nlX7_faultPlace (Nat.le_of_ble_eq_true rfl) ?_
  show Ok G FX7_faultPlace 0 [xR 72, xU, xU, xU, xU] [] SF M 0 0 _
  have loop : ∀ (d : Nat) (c st : Int) (v3 v4 : tk_V), c + d = 13 → 1 ≤ c → 0 ≤ st → st ≤ 5 * c → Ok G FX7_faultPlace 4 [xR 72, xI st, xI c, v3, v4] [] SF M 0 0 (tk_qi SF (fun v M' => v = tx_flt (tx_g M) (M 72 1) d st ∧ M' = M)) := by
    intro d
    induction d with
    | zero =>
      intro c st v3 v4 hd hc hs0 hs1
      refine tr_iload_n (pc := 4) dX7_faultPlace_4 rfl ?_
      refine tr_bipush (pc := 5) dX7_faultPlace_5 ⟨by decide, ⟨by decide, by decide⟩⟩ ?_
      refine tr_icmpgt (pc := 7) (tgt := 103) dX7_faultPlace_7 (by decide) (fun c7 => ?_) (fun c7 => absurd c7 (by omega))
      refine tr_iload_n (pc := 103) dX7_faultPlace_103 rfl ?_
      refine tr_ireti (pc := 104) dX7_faultPlace_104 rfl ?_
      exact ⟨rfl, rfl⟩
    | succ d ih =>
      intro c st v3 v4 hd hc hs0 hs1
      have hl := tx_len_r (tx_g M st)
      generalize hL : tx_len (tx_g M st) = L at hl
      have hdg := tx_dig_ge (tx_g M) st (L - 1).toNat 1
      have inner : L ≠ 0 → ∀ (e : Nat) (i : Int), i + e = L → 1 ≤ i → tx_dig (tx_g M) st (L - 1).toNat 1 = tx_dig (tx_g M) st e i → Ok G FX7_faultPlace 28 [xR 72, xI st, xI c, xI L, xI i] [] SF M 0 0 (tk_qi SF (fun v M' => v = tx_flt (tx_g M) (M 72 1) (d + 1) st ∧ M' = M)) := by
        intro hL0 e
        induction e with
        | zero =>
          intro i hi i1 hE
          have hE2 : tx_dig (tx_g M) st (L - 1).toNat 1 = i := hE
          refine tr_iload (pc := 28) dX7_faultPlace_28 rfl ?_
          refine tr_iload_n (pc := 30) dX7_faultPlace_30 rfl ?_
          refine tr_icmpge (pc := 31) (tgt := 56) dX7_faultPlace_31 (by decide) (fun c31 => ?_) (fun c31 => absurd c31 (by omega))
          refine tr_iload_n (pc := 56) dX7_faultPlace_56 rfl ?_
          refine tr_iload_n (pc := 57) dX7_faultPlace_57 rfl ?_
          refine tr_iadd (pc := 58) dX7_faultPlace_58 ⟨by omega, by omega⟩ ?_
          refine tr_istore (pc := 59) dX7_faultPlace_59 rfl (Nat.le_of_ble_eq_true rfl) ?_
          dsimp only [List.set]
          refine tr_iload (pc := 61) dX7_faultPlace_61 rfl ?_
          refine tr_aload_n (pc := 63) dX7_faultPlace_63 rfl (by decide) ?_
          refine tr_geti (pc := 64) (ji := 1) dX7_faultPlace_64 fi7_13 rfl sg72 rfl ?_
          refine tr_icmpne (pc := 67) (tgt := 72) dX7_faultPlace_67 (by decide) (fun c67 => ?_) (fun c67 => ?_)
          · skip
            refine tr_aload_n (pc := 72) dX7_faultPlace_72 rfl (by decide) ?_
            refine tr_iload (pc := 73) dX7_faultPlace_73 rfl ?_
            refine tr_cVi1 (pc := 75) dX7_faultPlace_75 mtX7_signAt lv7_17 rfl sg72 kc7 ⟨(Nat.le_of_ble_eq_true rfl), (Nat.le_of_ble_eq_true rfl)⟩ nlX7_signAt (Nat.le_of_ble_eq_true rfl) ⟨(Nat.le_of_ble_eq_true rfl), (Nat.le_of_ble_eq_true rfl)⟩ (sp_X7_signAt h1) (fun r75 M75 h75 => ?_)
            obtain ⟨hr75, hM75⟩ := h75
            obtain rfl := hr75.symm
            obtain rfl := hM75.symm
            refine tr_bipush (pc := 78) dX7_faultPlace_78 ⟨by decide, ⟨by decide, by decide⟩⟩ ?_
            refine tr_icmpne (pc := 80) (tgt := 89) dX7_faultPlace_80 (by decide) (fun c80 => ?_) (fun c80 => ?_)
            · skip
              refine tr_iload (pc := 89) dX7_faultPlace_89 rfl ?_
              refine tr_ireti (pc := 91) dX7_faultPlace_91 rfl ?_
              refine ⟨?_, rfl⟩
              unfold tx_flt
              rw [hL, if_neg hL0, if_neg (by omega), if_neg (by omega), if_pos (by omega)]
            · skip
              refine tr_iload_n (pc := 83) dX7_faultPlace_83 rfl ?_
              refine tr_bipush (pc := 84) dX7_faultPlace_84 ⟨by decide, ⟨by decide, by decide⟩⟩ ?_
              refine tr_icmpne (pc := 86) (tgt := 92) dX7_faultPlace_86 (by decide) (fun c86 => ?_) (fun c86 => ?_)
              · skip
                refine tr_iload (pc := 92) dX7_faultPlace_92 rfl ?_
                refine tr_iconst (pc := 94) dX7_faultPlace_94 ⟨by decide, by decide⟩ ?_
                refine tr_iadd (pc := 95) dX7_faultPlace_95 ⟨by omega, by omega⟩ ?_
                refine tr_istore_n (pc := 96) dX7_faultPlace_96 rfl (Nat.le_of_ble_eq_true rfl) ?_
                dsimp only [List.set]
                refine tr_iinc (pc := 97) dX7_faultPlace_97 rfl rfl ⟨by omega, by omega⟩ ?_
                dsimp only [List.set]
                refine tr_goto (pc := 100) (tgt := 4) dX7_faultPlace_100 (by decide) ?_
                have h9 := ih (c + 1) (st + L + 1) (xI L) (xI (st + L)) (by omega) (by omega) (by omega) (by omega)
                unfold tx_flt
                rw [hL, if_neg hL0, if_neg (by omega), if_neg (by omega), if_neg (by omega)]
                exact h9
              · skip
                refine tr_iload (pc := 89) dX7_faultPlace_89 rfl ?_
                refine tr_ireti (pc := 91) dX7_faultPlace_91 rfl ?_
                refine ⟨?_, rfl⟩
                unfold tx_flt
                rw [hL, if_neg hL0, if_neg (by omega), if_neg (by omega), if_pos (by omega)]
          · skip
            refine tr_iconst (pc := 70) dX7_faultPlace_70 ⟨by decide, by decide⟩ ?_
            refine tr_ireti (pc := 71) dX7_faultPlace_71 rfl ?_
            refine ⟨?_, rfl⟩
            unfold tx_flt
            rw [hL, if_neg hL0, if_neg (by omega), if_pos (by omega)]
        | succ e ih2 =>
          intro i hi i1 hE
          replace hE : tx_dig (tx_g M) st (L - 1).toNat 1 = (if 48 ≤ tx_g M (st + i) ∧ tx_g M (st + i) ≤ 57 then tx_dig (tx_g M) st e (i + 1) else i) := hE
          refine tr_iload (pc := 28) dX7_faultPlace_28 rfl ?_
          refine tr_iload_n (pc := 30) dX7_faultPlace_30 rfl ?_
          refine tr_icmpge (pc := 31) (tgt := 56) dX7_faultPlace_31 (by decide) (fun c31 => absurd c31 (by omega)) (fun c31 => ?_)
          refine tr_aload_n (pc := 34) dX7_faultPlace_34 rfl (by decide) ?_
          refine tr_iload_n (pc := 35) dX7_faultPlace_35 rfl ?_
          refine tr_iload (pc := 36) dX7_faultPlace_36 rfl ?_
          refine tr_iadd (pc := 38) dX7_faultPlace_38 ⟨by omega, by omega⟩ ?_
          refine tr_cVi1 (pc := 39) dX7_faultPlace_39 mtX7_isDigit lv7_24 rfl sg72 kc7 ⟨(Nat.le_of_ble_eq_true rfl), (Nat.le_of_ble_eq_true rfl)⟩ nlX7_isDigit (Nat.le_of_ble_eq_true rfl) ⟨(Nat.le_of_ble_eq_true rfl), (Nat.le_of_ble_eq_true rfl)⟩ (sp_X7_isDigit h1) (fun r39 M39 h39 => ?_)
          obtain ⟨hr39, hM39⟩ := h39
          obtain rfl := hr39.symm
          obtain rfl := hM39.symm
          by_cases hdg2 : 48 ≤ tx_g M (st + i) ∧ tx_g M (st + i) ≤ 57
          · rw [if_pos hdg2]
            rw [if_pos hdg2] at hE
            refine tr_ifne (pc := 42) (tgt := 50) dX7_faultPlace_42 (by decide) (fun c42 => ?_) (fun c42 => absurd c42 (by omega))
            refine tr_iinc (pc := 50) dX7_faultPlace_50 rfl rfl ⟨by omega, by omega⟩ ?_
            dsimp only [List.set]
            refine tr_goto (pc := 53) (tgt := 28) dX7_faultPlace_53 (by decide) ?_
            exact ih2 (i + 1) (by omega) (by omega) hE
          rw [if_neg hdg2]
          rw [if_neg hdg2] at hE
          refine tr_ifne (pc := 42) (tgt := 50) dX7_faultPlace_42 (by decide) (fun c42 => absurd c42 (by omega)) (fun c42 => ?_)
          refine tr_iload_n (pc := 45) dX7_faultPlace_45 rfl ?_
          refine tr_iload (pc := 46) dX7_faultPlace_46 rfl ?_
          refine tr_iadd (pc := 48) dX7_faultPlace_48 ⟨by omega, by omega⟩ ?_
          refine tr_ireti (pc := 49) dX7_faultPlace_49 rfl ?_
          refine ⟨?_, rfl⟩
          rw [show tx_flt (tx_g M) (M 72 1) (d + 1) st = st + tx_dig (tx_g M) st (L - 1).toNat 1 by unfold tx_flt; rw [hL, if_neg hL0, if_pos (by omega)]]
          omega
      refine tr_iload_n (pc := 4) dX7_faultPlace_4 rfl ?_
      refine tr_bipush (pc := 5) dX7_faultPlace_5 ⟨by decide, ⟨by decide, by decide⟩⟩ ?_
      refine tr_icmpgt (pc := 7) (tgt := 103) dX7_faultPlace_7 (by decide) (fun c7 => absurd c7 (by omega)) (fun c7 => ?_)
      refine tr_aload_n (pc := 10) dX7_faultPlace_10 rfl (by decide) ?_
      refine tr_iload_n (pc := 11) dX7_faultPlace_11 rfl ?_
      refine tr_cVi1 (pc := 12) dX7_faultPlace_12 mtX7_signAt lv7_17 rfl sg72 kc7 ⟨(Nat.le_of_ble_eq_true rfl), (Nat.le_of_ble_eq_true rfl)⟩ nlX7_signAt (Nat.le_of_ble_eq_true rfl) ⟨(Nat.le_of_ble_eq_true rfl), (Nat.le_of_ble_eq_true rfl)⟩ (sp_X7_signAt h1) (fun r12 M12 h12 => ?_)
      obtain ⟨hr12, hM12⟩ := h12
      obtain rfl := hr12.symm
      obtain rfl := hM12.symm
      refine tr_cSi1 (pc := 15) dX7_faultPlace_15 mtX7_clauseLength ls7_21 rfl ⟨(Nat.le_of_ble_eq_true rfl), (Nat.le_of_ble_eq_true rfl)⟩ nlX7_clauseLength (Nat.le_of_ble_eq_true rfl) ⟨(Nat.le_of_ble_eq_true rfl), (Nat.le_of_ble_eq_true rfl)⟩ (sp_X7_clauseLength) (fun r15 M15 h15 => ?_)
      rw [hL] at h15
      obtain ⟨hr15, hM15⟩ := h15
      obtain rfl := hr15.symm
      obtain rfl := hM15.symm
      refine tr_istore_n (pc := 18) dX7_faultPlace_18 rfl (Nat.le_of_ble_eq_true rfl) ?_
      dsimp only [List.set]
      refine tr_iload_n (pc := 19) dX7_faultPlace_19 rfl ?_
      refine tr_ifne (pc := 20) (tgt := 25) dX7_faultPlace_20 (by decide) (fun c20 => ?_) (fun c20 => ?_)
      · skip
        refine tr_iconst (pc := 25) dX7_faultPlace_25 ⟨by decide, by decide⟩ ?_
        refine tr_istore (pc := 26) dX7_faultPlace_26 rfl (Nat.le_of_ble_eq_true rfl) ?_
        dsimp only [List.set]
        exact inner (by omega) (L - 1).toNat 1 (by omega) (by omega) rfl
      · skip
        refine tr_iload_n (pc := 23) dX7_faultPlace_23 rfl ?_
        refine tr_ireti (pc := 24) dX7_faultPlace_24 rfl ?_
        refine ⟨?_, rfl⟩
        unfold tx_flt
        rw [hL, if_pos (by omega)]
  refine tr_iconst (pc := 0) dX7_faultPlace_0 ⟨by decide, by decide⟩ ?_
  refine tr_istore_n (pc := 1) dX7_faultPlace_1 rfl (Nat.le_of_ble_eq_true rfl) ?_
  dsimp only [List.set]
  refine tr_iconst (pc := 2) dX7_faultPlace_2 ⟨by decide, by decide⟩ ?_
  refine tr_istore_n (pc := 3) dX7_faultPlace_3 rfl (Nat.le_of_ble_eq_true rfl) ?_
  dsimp only [List.set]
  exact loop 12 1 0 xU xU (by omega) (by omega) (by omega) (by omega)
