theorem sp_X9_noIdeal {G : tk_G} {M : tk_M} {i : Int} : Spi G FX9_noIdeal [xI i] SF M (fun v M' => v = (if 0 ≤ i ∧ i ≤ 1 then 0 else 1) ∧ M' = M) := by
  refine Spi.of _ mtX9_noIdeal nlX9_noIdeal (Nat.le_of_ble_eq_true rfl) ?_
  show Ok G FX9_noIdeal 0 [xI i] [] SF M 0 0 _
  refine tr_iload_n (pc := 0) dX9_noIdeal_0 rfl ?_
  refine tr_iflt (pc := 1) (tgt := 9) dX9_noIdeal_1 (by decide) (fun c1 => ?_) (fun c1 => ?_)
  · skip
    refine tr_iconst (pc := 9) dX9_noIdeal_9 ⟨by decide, by decide⟩ ?_
    refine tr_goto (pc := 10) (tgt := 14) dX9_noIdeal_10 (by decide) ?_
    refine tr_iretz (pc := 14) dX9_noIdeal_14 rfl (by omega) ?_
    exact ⟨by split <;> omega, rfl⟩
  · skip
    refine tr_iload_n (pc := 4) dX9_noIdeal_4 rfl ?_
    refine tr_iconst (pc := 5) dX9_noIdeal_5 ⟨by decide, by decide⟩ ?_
    refine tr_icmple (pc := 6) (tgt := 13) dX9_noIdeal_6 (by decide) (fun c6 => ?_) (fun c6 => ?_)
    · skip
      refine tr_iconst (pc := 13) dX9_noIdeal_13 ⟨by decide, by decide⟩ ?_
      refine tr_iretz (pc := 14) dX9_noIdeal_14 rfl (by omega) ?_
      exact ⟨by split <;> omega, rfl⟩
    · skip
      refine tr_iconst (pc := 9) dX9_noIdeal_9 ⟨by decide, by decide⟩ ?_
      refine tr_goto (pc := 10) (tgt := 14) dX9_noIdeal_10 (by decide) ?_
      refine tr_iretz (pc := 14) dX9_noIdeal_14 rfl (by omega) ?_
      exact ⟨by split <;> omega, rfl⟩
theorem sp_X9_badTerm {G : tk_G} {M : tk_M} {a b : Int} : Spi G FX9_badTerm [xI a, xI b] SF M (fun v M' => v = (if (0 ≤ a ∧ a ≤ 9) ∧ (0 ≤ b ∧ b ≤ 9) then 0 else 1) ∧ M' = M) := by
  refine Spi.of _ mtX9_badTerm nlX9_badTerm (Nat.le_of_ble_eq_true rfl) ?_
  show Ok G FX9_badTerm 0 [xI a, xI b] [] SF M 0 0 _
  refine tr_iload_n (pc := 0) dX9_badTerm_0 rfl ?_
  refine tr_iflt (pc := 1) (tgt := 20) dX9_badTerm_1 (by decide) (fun c1 => ?_) (fun c1 => ?_)
  · skip
    refine tr_iconst (pc := 20) dX9_badTerm_20 ⟨by decide, by decide⟩ ?_
    refine tr_goto (pc := 21) (tgt := 25) dX9_badTerm_21 (by decide) ?_
    refine tr_iretz (pc := 25) dX9_badTerm_25 rfl (by omega) ?_
    exact ⟨by split <;> omega, rfl⟩
  · skip
    refine tr_iload_n (pc := 4) dX9_badTerm_4 rfl ?_
    refine tr_bipush (pc := 5) dX9_badTerm_5 ⟨by decide, ⟨by decide, by decide⟩⟩ ?_
    refine tr_icmpgt (pc := 7) (tgt := 20) dX9_badTerm_7 (by decide) (fun c7 => ?_) (fun c7 => ?_)
    · skip
      refine tr_iconst (pc := 20) dX9_badTerm_20 ⟨by decide, by decide⟩ ?_
      refine tr_goto (pc := 21) (tgt := 25) dX9_badTerm_21 (by decide) ?_
      refine tr_iretz (pc := 25) dX9_badTerm_25 rfl (by omega) ?_
      exact ⟨by split <;> omega, rfl⟩
    · skip
      refine tr_iload_n (pc := 10) dX9_badTerm_10 rfl ?_
      refine tr_iflt (pc := 11) (tgt := 20) dX9_badTerm_11 (by decide) (fun c11 => ?_) (fun c11 => ?_)
      · skip
        refine tr_iconst (pc := 20) dX9_badTerm_20 ⟨by decide, by decide⟩ ?_
        refine tr_goto (pc := 21) (tgt := 25) dX9_badTerm_21 (by decide) ?_
        refine tr_iretz (pc := 25) dX9_badTerm_25 rfl (by omega) ?_
        exact ⟨by split <;> omega, rfl⟩
      · skip
        refine tr_iload_n (pc := 14) dX9_badTerm_14 rfl ?_
        refine tr_bipush (pc := 15) dX9_badTerm_15 ⟨by decide, ⟨by decide, by decide⟩⟩ ?_
        refine tr_icmple (pc := 17) (tgt := 24) dX9_badTerm_17 (by decide) (fun c17 => ?_) (fun c17 => ?_)
        · skip
          refine tr_iconst (pc := 24) dX9_badTerm_24 ⟨by decide, by decide⟩ ?_
          refine tr_iretz (pc := 25) dX9_badTerm_25 rfl (by omega) ?_
          exact ⟨by split <;> omega, rfl⟩
        · skip
          refine tr_iconst (pc := 20) dX9_badTerm_20 ⟨by decide, by decide⟩ ?_
          refine tr_goto (pc := 21) (tgt := 25) dX9_badTerm_21 (by decide) ?_
          refine tr_iretz (pc := 25) dX9_badTerm_25 rfl (by omega) ?_
          exact ⟨by split <;> omega, rfl⟩
theorem sp_X9_badFraction {G : tk_G} {M : tk_M} {a b : Int} : Spi G FX9_badFraction [xI a, xI b] SF M (fun v M' => v = (if (1 ≤ a ∧ a ≤ 99) ∧ (1 ≤ b ∧ b ≤ 99) then 0 else 1) ∧ M' = M) := by
  refine Spi.of _ mtX9_badFraction nlX9_badFraction (Nat.le_of_ble_eq_true rfl) ?_
  show Ok G FX9_badFraction 0 [xI a, xI b] [] SF M 0 0 _
  refine tr_iload_n (pc := 0) dX9_badFraction_0 rfl ?_
  refine tr_iconst (pc := 1) dX9_badFraction_1 ⟨by decide, by decide⟩ ?_
  refine tr_icmplt (pc := 2) (tgt := 22) dX9_badFraction_2 (by decide) (fun c2 => ?_) (fun c2 => ?_)
  · skip
    refine tr_iconst (pc := 22) dX9_badFraction_22 ⟨by decide, by decide⟩ ?_
    refine tr_goto (pc := 23) (tgt := 27) dX9_badFraction_23 (by decide) ?_
    refine tr_iretz (pc := 27) dX9_badFraction_27 rfl (by omega) ?_
    exact ⟨by split <;> omega, rfl⟩
  · skip
    refine tr_iload_n (pc := 5) dX9_badFraction_5 rfl ?_
    refine tr_bipush (pc := 6) dX9_badFraction_6 ⟨by decide, ⟨by decide, by decide⟩⟩ ?_
    refine tr_icmpgt (pc := 8) (tgt := 22) dX9_badFraction_8 (by decide) (fun c8 => ?_) (fun c8 => ?_)
    · skip
      refine tr_iconst (pc := 22) dX9_badFraction_22 ⟨by decide, by decide⟩ ?_
      refine tr_goto (pc := 23) (tgt := 27) dX9_badFraction_23 (by decide) ?_
      refine tr_iretz (pc := 27) dX9_badFraction_27 rfl (by omega) ?_
      exact ⟨by split <;> omega, rfl⟩
    · skip
      refine tr_iload_n (pc := 11) dX9_badFraction_11 rfl ?_
      refine tr_iconst (pc := 12) dX9_badFraction_12 ⟨by decide, by decide⟩ ?_
      refine tr_icmplt (pc := 13) (tgt := 22) dX9_badFraction_13 (by decide) (fun c13 => ?_) (fun c13 => ?_)
      · skip
        refine tr_iconst (pc := 22) dX9_badFraction_22 ⟨by decide, by decide⟩ ?_
        refine tr_goto (pc := 23) (tgt := 27) dX9_badFraction_23 (by decide) ?_
        refine tr_iretz (pc := 27) dX9_badFraction_27 rfl (by omega) ?_
        exact ⟨by split <;> omega, rfl⟩
      · skip
        refine tr_iload_n (pc := 16) dX9_badFraction_16 rfl ?_
        refine tr_bipush (pc := 17) dX9_badFraction_17 ⟨by decide, ⟨by decide, by decide⟩⟩ ?_
        refine tr_icmple (pc := 19) (tgt := 26) dX9_badFraction_19 (by decide) (fun c19 => ?_) (fun c19 => ?_)
        · skip
          refine tr_iconst (pc := 26) dX9_badFraction_26 ⟨by decide, by decide⟩ ?_
          refine tr_iretz (pc := 27) dX9_badFraction_27 rfl (by omega) ?_
          exact ⟨by split <;> omega, rfl⟩
        · skip
          refine tr_iconst (pc := 22) dX9_badFraction_22 ⟨by decide, by decide⟩ ?_
          refine tr_goto (pc := 23) (tgt := 27) dX9_badFraction_23 (by decide) ?_
          refine tr_iretz (pc := 27) dX9_badFraction_27 rfl (by omega) ?_
          exact ⟨by split <;> omega, rfl⟩
theorem sp_X9_badPart {G : tk_G} {M : tk_M} {i : Int} : Spi G FX9_badPart [xI i] SF M (fun v M' => v = (if 0 ≤ i ∧ i ≤ 1 then 0 else 1) ∧ M' = M) := by
  refine Spi.of _ mtX9_badPart nlX9_badPart (Nat.le_of_ble_eq_true rfl) ?_
  show Ok G FX9_badPart 0 [xI i] [] SF M 0 0 _
  refine tr_iload_n (pc := 0) dX9_badPart_0 rfl ?_
  refine tr_iflt (pc := 1) (tgt := 9) dX9_badPart_1 (by decide) (fun c1 => ?_) (fun c1 => ?_)
  · skip
    refine tr_iconst (pc := 9) dX9_badPart_9 ⟨by decide, by decide⟩ ?_
    refine tr_goto (pc := 10) (tgt := 14) dX9_badPart_10 (by decide) ?_
    refine tr_iretz (pc := 14) dX9_badPart_14 rfl (by omega) ?_
    exact ⟨by split <;> omega, rfl⟩
  · skip
    refine tr_iload_n (pc := 4) dX9_badPart_4 rfl ?_
    refine tr_iconst (pc := 5) dX9_badPart_5 ⟨by decide, by decide⟩ ?_
    refine tr_icmple (pc := 6) (tgt := 13) dX9_badPart_6 (by decide) (fun c6 => ?_) (fun c6 => ?_)
    · skip
      refine tr_iconst (pc := 13) dX9_badPart_13 ⟨by decide, by decide⟩ ?_
      refine tr_iretz (pc := 14) dX9_badPart_14 rfl (by omega) ?_
      exact ⟨by split <;> omega, rfl⟩
    · skip
      refine tr_iconst (pc := 9) dX9_badPart_9 ⟨by decide, by decide⟩ ?_
      refine tr_goto (pc := 10) (tgt := 14) dX9_badPart_10 (by decide) ?_
      refine tr_iretz (pc := 14) dX9_badPart_14 rfl (by omega) ?_
      exact ⟨by split <;> omega, rfl⟩
theorem sp_X9_noTape {G : tk_G} {M : tk_M} {i : Int} : Spi G FX9_noTape [xI i] SF M (fun v M' => v = (if 0 ≤ i ∧ i ≤ 5 then 0 else 1) ∧ M' = M) := by
  refine Spi.of _ mtX9_noTape nlX9_noTape (Nat.le_of_ble_eq_true rfl) ?_
  show Ok G FX9_noTape 0 [xI i] [] SF M 0 0 _
  refine tr_iload_n (pc := 0) dX9_noTape_0 rfl ?_
  refine tr_iflt (pc := 1) (tgt := 10) dX9_noTape_1 (by decide) (fun c1 => ?_) (fun c1 => ?_)
  · skip
    refine tr_iconst (pc := 10) dX9_noTape_10 ⟨by decide, by decide⟩ ?_
    refine tr_goto (pc := 11) (tgt := 15) dX9_noTape_11 (by decide) ?_
    refine tr_iretz (pc := 15) dX9_noTape_15 rfl (by omega) ?_
    exact ⟨by split <;> omega, rfl⟩
  · skip
    refine tr_iload_n (pc := 4) dX9_noTape_4 rfl ?_
    refine tr_bipush (pc := 5) dX9_noTape_5 ⟨by decide, ⟨by decide, by decide⟩⟩ ?_
    refine tr_icmplt (pc := 7) (tgt := 14) dX9_noTape_7 (by decide) (fun c7 => ?_) (fun c7 => ?_)
    · skip
      refine tr_iconst (pc := 14) dX9_noTape_14 ⟨by decide, by decide⟩ ?_
      refine tr_iretz (pc := 15) dX9_noTape_15 rfl (by omega) ?_
      exact ⟨by split <;> omega, rfl⟩
    · skip
      refine tr_iconst (pc := 10) dX9_noTape_10 ⟨by decide, by decide⟩ ?_
      refine tr_goto (pc := 11) (tgt := 15) dX9_noTape_11 (by decide) ?_
      refine tr_iretz (pc := 15) dX9_noTape_15 rfl (by omega) ?_
      exact ⟨by split <;> omega, rfl⟩
theorem sp_X9_noHeightCode {G : tk_G} {M : tk_M} {i : Int} : Spi G FX9_noHeightCode [xI i] SF M (fun v M' => v = (if (0 ≤ i ∧ i ≤ 2) ∨ (10 ≤ i ∧ i ≤ 16) then 0 else 1) ∧ M' = M) := by
  refine Spi.of _ mtX9_noHeightCode nlX9_noHeightCode (Nat.le_of_ble_eq_true rfl) ?_
  show Ok G FX9_noHeightCode 0 [xI i, xU] [] SF M 0 0 _
  refine tr_iload_n (pc := 0) dX9_noHeightCode_0 rfl ?_
  refine tr_iflt (pc := 1) (tgt := 13) dX9_noHeightCode_1 (by decide) (fun c1 => ?_) (fun c1 => ?_)
  · skip
    refine tr_iconst (pc := 13) dX9_noHeightCode_13 ⟨by decide, by decide⟩ ?_
    refine tr_istore_n (pc := 14) dX9_noHeightCode_14 rfl (Nat.le_of_ble_eq_true rfl) ?_
    dsimp only [List.set]
    refine tr_iload_n (pc := 15) dX9_noHeightCode_15 rfl ?_
    refine tr_ifne (pc := 16) (tgt := 35) dX9_noHeightCode_16 (by decide) (fun c16 => ?_) (fun c16 => ?_)
    · skip
      refine tr_iconst (pc := 35) dX9_noHeightCode_35 ⟨by decide, by decide⟩ ?_
      refine tr_iretz (pc := 36) dX9_noHeightCode_36 rfl (by omega) ?_
      exact ⟨by split <;> omega, rfl⟩
    · skip
      refine tr_iload_n (pc := 19) dX9_noHeightCode_19 rfl ?_
      refine tr_bipush (pc := 20) dX9_noHeightCode_20 ⟨by decide, ⟨by decide, by decide⟩⟩ ?_
      refine tr_icmplt (pc := 22) (tgt := 31) dX9_noHeightCode_22 (by decide) (fun c22 => ?_) (fun c22 => ?_)
      · skip
        refine tr_iconst (pc := 31) dX9_noHeightCode_31 ⟨by decide, by decide⟩ ?_
        refine tr_goto (pc := 32) (tgt := 36) dX9_noHeightCode_32 (by decide) ?_
        refine tr_iretz (pc := 36) dX9_noHeightCode_36 rfl (by omega) ?_
        exact ⟨by split <;> omega, rfl⟩
      · skip
        refine tr_iload_n (pc := 25) dX9_noHeightCode_25 rfl ?_
        refine tr_bipush (pc := 26) dX9_noHeightCode_26 ⟨by decide, ⟨by decide, by decide⟩⟩ ?_
        refine tr_icmple (pc := 28) (tgt := 35) dX9_noHeightCode_28 (by decide) (fun c28 => ?_) (fun c28 => ?_)
        · skip
          refine tr_iconst (pc := 35) dX9_noHeightCode_35 ⟨by decide, by decide⟩ ?_
          refine tr_iretz (pc := 36) dX9_noHeightCode_36 rfl (by omega) ?_
          exact ⟨by split <;> omega, rfl⟩
        · skip
          refine tr_iconst (pc := 31) dX9_noHeightCode_31 ⟨by decide, by decide⟩ ?_
          refine tr_goto (pc := 32) (tgt := 36) dX9_noHeightCode_32 (by decide) ?_
          refine tr_iretz (pc := 36) dX9_noHeightCode_36 rfl (by omega) ?_
          exact ⟨by split <;> omega, rfl⟩
  · skip
    refine tr_iload_n (pc := 4) dX9_noHeightCode_4 rfl ?_
    refine tr_iconst (pc := 5) dX9_noHeightCode_5 ⟨by decide, by decide⟩ ?_
    refine tr_icmpgt (pc := 6) (tgt := 13) dX9_noHeightCode_6 (by decide) (fun c6 => ?_) (fun c6 => ?_)
    · skip
      refine tr_iconst (pc := 13) dX9_noHeightCode_13 ⟨by decide, by decide⟩ ?_
      refine tr_istore_n (pc := 14) dX9_noHeightCode_14 rfl (Nat.le_of_ble_eq_true rfl) ?_
      dsimp only [List.set]
      refine tr_iload_n (pc := 15) dX9_noHeightCode_15 rfl ?_
      refine tr_ifne (pc := 16) (tgt := 35) dX9_noHeightCode_16 (by decide) (fun c16 => ?_) (fun c16 => ?_)
      · skip
        refine tr_iconst (pc := 35) dX9_noHeightCode_35 ⟨by decide, by decide⟩ ?_
        refine tr_iretz (pc := 36) dX9_noHeightCode_36 rfl (by omega) ?_
        exact ⟨by split <;> omega, rfl⟩
      · skip
        refine tr_iload_n (pc := 19) dX9_noHeightCode_19 rfl ?_
        refine tr_bipush (pc := 20) dX9_noHeightCode_20 ⟨by decide, ⟨by decide, by decide⟩⟩ ?_
        refine tr_icmplt (pc := 22) (tgt := 31) dX9_noHeightCode_22 (by decide) (fun c22 => ?_) (fun c22 => ?_)
        · skip
          refine tr_iconst (pc := 31) dX9_noHeightCode_31 ⟨by decide, by decide⟩ ?_
          refine tr_goto (pc := 32) (tgt := 36) dX9_noHeightCode_32 (by decide) ?_
          refine tr_iretz (pc := 36) dX9_noHeightCode_36 rfl (by omega) ?_
          exact ⟨by split <;> omega, rfl⟩
        · skip
          refine tr_iload_n (pc := 25) dX9_noHeightCode_25 rfl ?_
          refine tr_bipush (pc := 26) dX9_noHeightCode_26 ⟨by decide, ⟨by decide, by decide⟩⟩ ?_
          refine tr_icmple (pc := 28) (tgt := 35) dX9_noHeightCode_28 (by decide) (fun c28 => ?_) (fun c28 => ?_)
          · skip
            refine tr_iconst (pc := 35) dX9_noHeightCode_35 ⟨by decide, by decide⟩ ?_
            refine tr_iretz (pc := 36) dX9_noHeightCode_36 rfl (by omega) ?_
            exact ⟨by split <;> omega, rfl⟩
          · skip
            refine tr_iconst (pc := 31) dX9_noHeightCode_31 ⟨by decide, by decide⟩ ?_
            refine tr_goto (pc := 32) (tgt := 36) dX9_noHeightCode_32 (by decide) ?_
            refine tr_iretz (pc := 36) dX9_noHeightCode_36 rfl (by omega) ?_
            exact ⟨by split <;> omega, rfl⟩
    · skip
      refine tr_iconst (pc := 9) dX9_noHeightCode_9 ⟨by decide, by decide⟩ ?_
      refine tr_goto (pc := 10) (tgt := 14) dX9_noHeightCode_10 (by decide) ?_
      refine tr_istore_n (pc := 14) dX9_noHeightCode_14 rfl (Nat.le_of_ble_eq_true rfl) ?_
      dsimp only [List.set]
      refine tr_iload_n (pc := 15) dX9_noHeightCode_15 rfl ?_
      refine tr_ifne (pc := 16) (tgt := 35) dX9_noHeightCode_16 (by decide) (fun c16 => ?_) (fun c16 => ?_)
      · skip
        refine tr_iconst (pc := 35) dX9_noHeightCode_35 ⟨by decide, by decide⟩ ?_
        refine tr_iretz (pc := 36) dX9_noHeightCode_36 rfl (by omega) ?_
        exact ⟨by split <;> omega, rfl⟩
      · skip
        refine tr_iload_n (pc := 19) dX9_noHeightCode_19 rfl ?_
        refine tr_bipush (pc := 20) dX9_noHeightCode_20 ⟨by decide, ⟨by decide, by decide⟩⟩ ?_
        refine tr_icmplt (pc := 22) (tgt := 31) dX9_noHeightCode_22 (by decide) (fun c22 => ?_) (fun c22 => ?_)
        · skip
          refine tr_iconst (pc := 31) dX9_noHeightCode_31 ⟨by decide, by decide⟩ ?_
          refine tr_goto (pc := 32) (tgt := 36) dX9_noHeightCode_32 (by decide) ?_
          refine tr_iretz (pc := 36) dX9_noHeightCode_36 rfl (by omega) ?_
          exact ⟨by split <;> omega, rfl⟩
        · skip
          refine tr_iload_n (pc := 25) dX9_noHeightCode_25 rfl ?_
          refine tr_bipush (pc := 26) dX9_noHeightCode_26 ⟨by decide, ⟨by decide, by decide⟩⟩ ?_
          refine tr_icmple (pc := 28) (tgt := 35) dX9_noHeightCode_28 (by decide) (fun c28 => ?_) (fun c28 => ?_)
          · skip
            refine tr_iconst (pc := 35) dX9_noHeightCode_35 ⟨by decide, by decide⟩ ?_
            refine tr_iretz (pc := 36) dX9_noHeightCode_36 rfl (by omega) ?_
            exact ⟨by split <;> omega, rfl⟩
          · skip
            refine tr_iconst (pc := 31) dX9_noHeightCode_31 ⟨by decide, by decide⟩ ?_
            refine tr_goto (pc := 32) (tgt := 36) dX9_noHeightCode_32 (by decide) ?_
            refine tr_iretz (pc := 36) dX9_noHeightCode_36 rfl (by omega) ?_
            exact ⟨by split <;> omega, rfl⟩
def ev_ok (w n : Int) : Prop := (w = 0 ∧ 0 ≤ n ∧ n ≤ 99) ∨ (w = 1 ∧ 0 ≤ n ∧ n ≤ 5) ∨ (w = 2 ∧ 1 ≤ n ∧ n ≤ 9)
theorem sp_X9_badEventNumber {G : tk_G} {M : tk_M} {w n : Int} (h0 : 0 ≤ w) (h2 : w ≤ 2) : Spi G FX9_badEventNumber [xI w, xI n] SF M (fun v M' => ((v = 0 ∧ ev_ok w n) ∨ (v = 1 ∧ ¬ ev_ok w n)) ∧ M' = M) := by
  refine Spi.of _ mtX9_badEventNumber nlX9_badEventNumber (Nat.le_of_ble_eq_true rfl) ?_
  show Ok G FX9_badEventNumber 0 [xI w, xI n] [] SF M 0 0 _
  refine tr_iload_n (pc := 0) dX9_badEventNumber_0 rfl ?_
  rcases (by omega : w = 0 ∨ w = 1 ∨ (w ≠ 0 ∧ w ≠ 1)) with c1 | c1 | c1
  · skip
    refine tr_lookup (pc := 1) (x := w) (off := 27) (tgt := 28) dX9_badEventNumber_1 (by decide) (show Op.lookupswitch.offset [(0, 27), (1, 43)] 59 (w) = 27 by rw [Op.lookupswitch.offset_cons, if_pos (by omega)]) (by decide) ?_
    refine tr_iload_n (pc := 28) dX9_badEventNumber_28 rfl ?_
    refine tr_iflt (pc := 29) (tgt := 38) dX9_badEventNumber_29 (by decide) (fun c29 => ?_) (fun c29 => ?_)
    · skip
      refine tr_iconst (pc := 38) dX9_badEventNumber_38 ⟨by decide, by decide⟩ ?_
      refine tr_goto (pc := 39) (tgt := 43) dX9_badEventNumber_39 (by decide) ?_
      refine tr_iretz (pc := 43) dX9_badEventNumber_43 rfl (by omega) ?_
      exact ⟨by unfold ev_ok; omega, rfl⟩
    · skip
      refine tr_iload_n (pc := 32) dX9_badEventNumber_32 rfl ?_
      refine tr_bipush (pc := 33) dX9_badEventNumber_33 ⟨by decide, ⟨by decide, by decide⟩⟩ ?_
      refine tr_icmple (pc := 35) (tgt := 42) dX9_badEventNumber_35 (by decide) (fun c35 => ?_) (fun c35 => ?_)
      · skip
        refine tr_iconst (pc := 42) dX9_badEventNumber_42 ⟨by decide, by decide⟩ ?_
        refine tr_iretz (pc := 43) dX9_badEventNumber_43 rfl (by omega) ?_
        exact ⟨by unfold ev_ok; omega, rfl⟩
      · skip
        refine tr_iconst (pc := 38) dX9_badEventNumber_38 ⟨by decide, by decide⟩ ?_
        refine tr_goto (pc := 39) (tgt := 43) dX9_badEventNumber_39 (by decide) ?_
        refine tr_iretz (pc := 43) dX9_badEventNumber_43 rfl (by omega) ?_
        exact ⟨by unfold ev_ok; omega, rfl⟩
  · skip
    refine tr_lookup (pc := 1) (x := w) (off := 43) (tgt := 44) dX9_badEventNumber_1 (by decide) (show Op.lookupswitch.offset [(0, 27), (1, 43)] 59 (w) = 43 by rw [Op.lookupswitch.offset_cons, if_neg (by omega), Op.lookupswitch.offset_cons, if_pos (by omega)]) (by decide) ?_
    refine tr_iload_n (pc := 44) dX9_badEventNumber_44 rfl ?_
    refine tr_iflt (pc := 45) (tgt := 54) dX9_badEventNumber_45 (by decide) (fun c45 => ?_) (fun c45 => ?_)
    · skip
      refine tr_iconst (pc := 54) dX9_badEventNumber_54 ⟨by decide, by decide⟩ ?_
      refine tr_goto (pc := 55) (tgt := 59) dX9_badEventNumber_55 (by decide) ?_
      refine tr_iretz (pc := 59) dX9_badEventNumber_59 rfl (by omega) ?_
      exact ⟨by unfold ev_ok; omega, rfl⟩
    · skip
      refine tr_iload_n (pc := 48) dX9_badEventNumber_48 rfl ?_
      refine tr_bipush (pc := 49) dX9_badEventNumber_49 ⟨by decide, ⟨by decide, by decide⟩⟩ ?_
      refine tr_icmplt (pc := 51) (tgt := 58) dX9_badEventNumber_51 (by decide) (fun c51 => ?_) (fun c51 => ?_)
      · skip
        refine tr_iconst (pc := 58) dX9_badEventNumber_58 ⟨by decide, by decide⟩ ?_
        refine tr_iretz (pc := 59) dX9_badEventNumber_59 rfl (by omega) ?_
        exact ⟨by unfold ev_ok; omega, rfl⟩
      · skip
        refine tr_iconst (pc := 54) dX9_badEventNumber_54 ⟨by decide, by decide⟩ ?_
        refine tr_goto (pc := 55) (tgt := 59) dX9_badEventNumber_55 (by decide) ?_
        refine tr_iretz (pc := 59) dX9_badEventNumber_59 rfl (by omega) ?_
        exact ⟨by unfold ev_ok; omega, rfl⟩
  · skip
    refine tr_lookup (pc := 1) (x := w) (off := 59) (tgt := 60) dX9_badEventNumber_1 (by decide) (show Op.lookupswitch.offset [(0, 27), (1, 43)] 59 (w) = 59 by rw [Op.lookupswitch.offset_cons, if_neg (by omega), Op.lookupswitch.offset_cons, if_neg (by omega)]; rfl) (by decide) ?_
    refine tr_iload_n (pc := 60) dX9_badEventNumber_60 rfl ?_
    refine tr_iconst (pc := 61) dX9_badEventNumber_61 ⟨by decide, by decide⟩ ?_
    refine tr_icmplt (pc := 62) (tgt := 71) dX9_badEventNumber_62 (by decide) (fun c62 => ?_) (fun c62 => ?_)
    · skip
      refine tr_iconst (pc := 71) dX9_badEventNumber_71 ⟨by decide, by decide⟩ ?_
      refine tr_goto (pc := 72) (tgt := 76) dX9_badEventNumber_72 (by decide) ?_
      refine tr_iretz (pc := 76) dX9_badEventNumber_76 rfl (by omega) ?_
      exact ⟨by unfold ev_ok; omega, rfl⟩
    · skip
      refine tr_iload_n (pc := 65) dX9_badEventNumber_65 rfl ?_
      refine tr_bipush (pc := 66) dX9_badEventNumber_66 ⟨by decide, ⟨by decide, by decide⟩⟩ ?_
      refine tr_icmple (pc := 68) (tgt := 75) dX9_badEventNumber_68 (by decide) (fun c68 => ?_) (fun c68 => ?_)
      · skip
        refine tr_iconst (pc := 75) dX9_badEventNumber_75 ⟨by decide, by decide⟩ ?_
        refine tr_iretz (pc := 76) dX9_badEventNumber_76 rfl (by omega) ?_
        exact ⟨by unfold ev_ok; omega, rfl⟩
      · skip
        refine tr_iconst (pc := 71) dX9_badEventNumber_71 ⟨by decide, by decide⟩ ?_
        refine tr_goto (pc := 72) (tgt := 76) dX9_badEventNumber_72 (by decide) ?_
        refine tr_iretz (pc := 76) dX9_badEventNumber_76 rfl (by omega) ?_
        exact ⟨by unfold ev_ok; omega, rfl⟩
/-- the IDEAL of a number, as a cell -/
def rid (i : Int) : Int := if i = 0 then 2 else 5
theorem rid_s (i : Int) : ig_s (rid i) := by unfold rid; split; exact ig_s2; exact ig_s5
theorem rid_r (i : Int) : rid i = 2 ∨ rid i = 5 := by unfold rid; split <;> omega
theorem sp_now {G : tk_G} {M : tk_M} {i : Int} : Spr G FX8_ideal [xR 1, xI i] SF M (fun v M' => v = rid i ∧ M' = M) := sp_X8_ideal (t := 1) td_s1
theorem sp_X9_noGenerator {G : tk_G} {M : tk_M} {i k : Int} : Spi G FX9_noGenerator [xR 0, xI i, xI k] SF M (fun v M' => v = (if (0 ≤ i ∧ i ≤ 1) ∧ (0 ≤ k ∧ k < M (rid i) 2) then 0 else 1) ∧ M' = M) := by
  refine Spi.of _ mtX9_noGenerator nlX9_noGenerator (Nat.le_of_ble_eq_true rfl) ?_
  show Ok G FX9_noGenerator 0 [xR 0, xI i, xI k] [] SF M 0 0 _
  have hq := (rid_s i).2.1
  have hc : (if 0 ≤ i ∧ i ≤ 1 then (0 : Int) else 1) = 0 ∨ (if 0 ≤ i ∧ i ≤ 1 then (0 : Int) else 1) = 1 := by split <;> omega
  refine tr_iload_n (pc := 0) dX9_noGenerator_0 rfl ?_
  refine tr_cSi1 (pc := 1) dX9_noGenerator_1 mtX9_noIdeal ls9_77 rfl ⟨(Nat.le_of_ble_eq_true rfl), (Nat.le_of_ble_eq_true rfl)⟩ nlX9_noIdeal (Nat.le_of_ble_eq_true rfl) ⟨(Nat.le_of_ble_eq_true rfl), (Nat.le_of_ble_eq_true rfl)⟩ (sp_X9_noIdeal) (fun r1 M1 h1 => ?_)
  obtain ⟨hr1, hM1⟩ := h1
  obtain rfl := hr1.symm
  obtain rfl := hM1.symm
  refine tr_ifne (pc := 4) (tgt := 26) dX9_noGenerator_4 (by decide) (fun c4 => ?_) (fun c4 => ?_)
  · skip
    refine tr_iconst (pc := 26) dX9_noGenerator_26 ⟨by decide, by decide⟩ ?_
    refine tr_goto (pc := 27) (tgt := 31) dX9_noGenerator_27 (by decide) ?_
    refine tr_iretz (pc := 31) dX9_noGenerator_31 rfl (by omega) ?_
    exact ⟨by split at c4 <;> split <;> omega, rfl⟩
  · skip
    refine tr_iload_n (pc := 7) dX9_noGenerator_7 rfl ?_
    refine tr_iflt (pc := 8) (tgt := 26) dX9_noGenerator_8 (by decide) (fun c8 => ?_) (fun c8 => ?_)
    · skip
      refine tr_iconst (pc := 26) dX9_noGenerator_26 ⟨by decide, by decide⟩ ?_
      refine tr_goto (pc := 27) (tgt := 31) dX9_noGenerator_27 (by decide) ?_
      refine tr_iretz (pc := 31) dX9_noGenerator_31 rfl (by omega) ?_
      exact ⟨by split at c4 <;> split <;> omega, rfl⟩
    · skip
      refine tr_iload_n (pc := 11) dX9_noGenerator_11 rfl ?_
      refine tr_aload_n (pc := 12) dX9_noGenerator_12 rfl (by decide) ?_
      refine tr_getr (pc := 13) (x := 1) dX9_noGenerator_13 fi9_12 rfl sg0 rfl ?_
      refine tr_iload_n (pc := 16) dX9_noGenerator_16 rfl ?_
      refine tr_cVr1 (pc := 17) dX9_noGenerator_17 mtX8_ideal lv9_85 rfl sg1 kc8 ⟨(Nat.le_of_ble_eq_true rfl), (Nat.le_of_ble_eq_true rfl)⟩ nlX8_ideal (Nat.le_of_ble_eq_true rfl) ⟨(Nat.le_of_ble_eq_true rfl), (Nat.le_of_ble_eq_true rfl)⟩ (sp_now) (fun r17 M17 h17 => ?_)
      obtain ⟨hr17, hM17⟩ := h17
      obtain rfl := hr17.symm
      obtain rfl := hM17.symm
      refine tr_cVi0 (pc := 20) dX9_noGenerator_20 mtX3_size lv9_93 rfl hq kc3 ⟨(Nat.le_of_ble_eq_true rfl), (Nat.le_of_ble_eq_true rfl)⟩ nlX3_size (Nat.le_of_ble_eq_true rfl) ⟨(Nat.le_of_ble_eq_true rfl), (Nat.le_of_ble_eq_true rfl)⟩ (sp_X3_size (rid_s i)) (fun r20 M20 h20 => ?_)
      obtain ⟨hr20, hM20⟩ := h20
      obtain rfl := hr20.symm
      obtain rfl := hM20.symm
      refine tr_icmplt (pc := 23) (tgt := 30) dX9_noGenerator_23 (by decide) (fun c23 => ?_) (fun c23 => ?_)
      · skip
        refine tr_iconst (pc := 30) dX9_noGenerator_30 ⟨by decide, by decide⟩ ?_
        refine tr_iretz (pc := 31) dX9_noGenerator_31 rfl (by omega) ?_
        exact ⟨by split at c4 <;> split <;> omega, rfl⟩
      · skip
        refine tr_iconst (pc := 26) dX9_noGenerator_26 ⟨by decide, by decide⟩ ?_
        refine tr_goto (pc := 27) (tgt := 31) dX9_noGenerator_27 (by decide) ?_
        refine tr_iretz (pc := 31) dX9_noGenerator_31 rfl (by omega) ?_
        exact ⟨by split at c4 <;> split <;> omega, rfl⟩
/-- Euclid -/
def ec : Nat → Int → Int → Prop
  | 0, _, r => r = 0
  | d + 1, g, r => r = 0 ∨ ec d r (g % r)
def eg : Nat → Int → Int → Int
  | 0, g, _ => g
  | d + 1, g, r => if r = 0 then g else eg d r (g % r)
theorem ec_half : ∀ (k : Nat) (g r : Int), 0 ≤ r → r < g → g < 2 ^ k → ec (2 * k) g r := by
  intro k
  induction k with
  | zero => intro g r h1 h2 h3; have : g < 1 := h3; show r = 0; omega
  | succ k ih =>
    intro g r h1 h2 h3
    have h4 : g < 2 * 2 ^ k := by rw [Int.pow_succ] at h3; omega
    show r = 0 ∨ (g % r = 0 ∨ ec (2 * k) (g % r) (r % (g % r)))
    by_cases hr : r = 0
    · exact Or.inl hr
    · right
      by_cases hq : g % r = 0
      · exact Or.inl hq
      · right
        have e1 := Int.emod_nonneg g hr
        have e2 := Int.emod_lt_of_pos g (show 0 < r by omega)
        have e3 := Int.emod_nonneg r hq
        have e4 := Int.emod_lt_of_pos r (show 0 < g % r by omega)
        have e5 := Int.emod_add_mul_ediv g r
        have e6 : 1 ≤ g / r := by
          exact (Int.le_ediv_iff_mul_le (by omega)).mpr (by omega)
        have e7 : r * 1 ≤ r * (g / r) := Int.mul_le_mul_of_nonneg_left e6 h1
        exact ih _ _ e3 e4 (by omega)
theorem ec_24 {x y : Int} (hx : 0 ≤ x) (hx1 : x ≤ 1000) (hy : 0 ≤ y) (hy1 : y ≤ 1000) : ec 24 x y := by
  show y = 0 ∨ ec 23 y (x % y)
  by_cases h : y = 0
  · exact Or.inl h
  · right
    show x % y = 0 ∨ ec 22 (x % y) (y % (x % y))
    by_cases hq : x % y = 0
    · exact Or.inl hq
    · right
      have e1 := Int.emod_nonneg x h
      have e2 := Int.emod_lt_of_pos x (show 0 < y by omega)
      have e3 := Int.emod_nonneg y hq
      have e4 := Int.emod_lt_of_pos y (show 0 < x % y by omega)
      exact ec_half 11 _ _ e3 e4 (by have : (2 : Int) ^ 11 = 2048 := by decide
                                     omega)
theorem eg_pos : ∀ (d : Nat) (g r : Int), 0 ≤ r → 0 ≤ g → (0 < g ∨ 0 < r) → ec d g r → 0 < eg d g r := by
  intro d
  induction d with
  | zero => intro g r h1 h2 h3 h4; have h4 : r = 0 := h4; show 0 < g; omega
  | succ d ih =>
    intro g r h1 h2 h3 h4
    unfold eg
    by_cases hr : r = 0
    · rw [if_pos hr]; omega
    · rw [if_neg hr]
      have h5 : ec d r (g % r) := h4.resolve_left hr
      exact ih _ _ (Int.emod_nonneg g hr) h1 (Or.inl (by omega)) h5
theorem sp_X9_commonDivisor {G : tk_G} {M : tk_M} {x y : Int} (hx : 0 ≤ x) (hx1 : x ≤ 1000) (hy : 0 ≤ y) (hy1 : y ≤ 1000) : Spi G FX9_commonDivisor [xI x, xI y] SF M (fun v M' => v = eg 24 x y ∧ M' = M) := by
  refine Spi.of _ mtX9_commonDivisor nlX9_commonDivisor (Nat.le_of_ble_eq_true rfl) ?_
  show Ok G FX9_commonDivisor 0 [xI x, xI y, xU, xU, xU, xU] [] SF M 0 0 _
  have loop : ∀ (d : Nat) (st g r : Int) (v5 : tk_V), st + d ≤ 60 → 0 ≤ st → 0 ≤ g → 0 ≤ r → ec d g r → Ok G FX9_commonDivisor 7 [xI x, xI y, xI g, xI r, xI st, v5] [] SF M 0 0 (tk_qi SF (fun v M' => v = eg d g r ∧ M' = M)) := by
    intro d
    induction d with
    | zero =>
      intro st g r v5 hd hst hg hr he
      have he : r = 0 := he
      refine tr_iload (pc := 7) dX9_commonDivisor_7 rfl ?_
      refine tr_bipush (pc := 9) dX9_commonDivisor_9 ⟨by decide, ⟨by decide, by decide⟩⟩ ?_
      refine tr_icmpge (pc := 11) (tgt := 34) dX9_commonDivisor_11 (by decide) (fun c11 => absurd c11 (by omega)) (fun c11 => ?_)
      refine tr_iload_n (pc := 14) dX9_commonDivisor_14 rfl ?_
      refine tr_ifeq (pc := 15) (tgt := 34) dX9_commonDivisor_15 (by decide) (fun c15 => ?_) (fun c15 => absurd c15 (by omega))
      refine tr_iload_n (pc := 34) dX9_commonDivisor_34 rfl ?_
      refine tr_ireti (pc := 35) dX9_commonDivisor_35 rfl ?_
      exact ⟨rfl, rfl⟩
    | succ d ih =>
      intro st g r v5 hd hst hg hr he
      refine tr_iload (pc := 7) dX9_commonDivisor_7 rfl ?_
      refine tr_bipush (pc := 9) dX9_commonDivisor_9 ⟨by decide, ⟨by decide, by decide⟩⟩ ?_
      refine tr_icmpge (pc := 11) (tgt := 34) dX9_commonDivisor_11 (by decide) (fun c11 => absurd c11 (by omega)) (fun c11 => ?_)
      refine tr_iload_n (pc := 14) dX9_commonDivisor_14 rfl ?_
      refine tr_ifeq (pc := 15) (tgt := 34) dX9_commonDivisor_15 (by decide) (fun c15 => ?_) (fun c15 => ?_)
      · skip
        refine tr_iload_n (pc := 34) dX9_commonDivisor_34 rfl ?_
        refine tr_ireti (pc := 35) dX9_commonDivisor_35 rfl ?_
        exact ⟨(if_pos (by assumption)).symm, rfl⟩
      · skip
        refine tr_iload_n (pc := 18) dX9_commonDivisor_18 rfl ?_
        refine tr_iload_n (pc := 19) dX9_commonDivisor_19 rfl ?_
        refine tr_irem (pc := 20) dX9_commonDivisor_20 (by omega) (by omega) ?_
        refine tr_istore (pc := 21) dX9_commonDivisor_21 rfl (Nat.le_of_ble_eq_true rfl) ?_
        dsimp only [List.set]
        refine tr_iload_n (pc := 23) dX9_commonDivisor_23 rfl ?_
        refine tr_istore_n (pc := 24) dX9_commonDivisor_24 rfl (Nat.le_of_ble_eq_true rfl) ?_
        dsimp only [List.set]
        refine tr_iload (pc := 25) dX9_commonDivisor_25 rfl ?_
        refine tr_istore_n (pc := 27) dX9_commonDivisor_27 rfl (Nat.le_of_ble_eq_true rfl) ?_
        dsimp only [List.set]
        refine tr_iinc (pc := 28) dX9_commonDivisor_28 rfl rfl ⟨by omega, by omega⟩ ?_
        dsimp only [List.set]
        refine tr_goto (pc := 31) (tgt := 7) dX9_commonDivisor_31 (by decide) ?_
        have h9 := ih (st + 1) r (g % r) (xI (g % r)) (by omega) (by omega) hr (Int.emod_nonneg g (by assumption)) (he.resolve_left (by assumption))
        unfold eg
        rw [if_neg (by assumption)]
        exact h9
  refine tr_iload_n (pc := 0) dX9_commonDivisor_0 rfl ?_
  refine tr_istore_n (pc := 1) dX9_commonDivisor_1 rfl (Nat.le_of_ble_eq_true rfl) ?_
  dsimp only [List.set]
  refine tr_iload_n (pc := 2) dX9_commonDivisor_2 rfl ?_
  refine tr_istore_n (pc := 3) dX9_commonDivisor_3 rfl (Nat.le_of_ble_eq_true rfl) ?_
  dsimp only [List.set]
  refine tr_iconst (pc := 4) dX9_commonDivisor_4 ⟨by decide, by decide⟩ ?_
  refine tr_istore (pc := 5) dX9_commonDivisor_5 rfl (Nat.le_of_ble_eq_true rfl) ?_
  dsimp only [List.set]
  exact loop 24 0 x y xU (by omega) (by omega) hx hy (ec_24 hx hx1 hy hy1)
def lows (x y p : Int) : Int := if p = 0 then x / eg 24 x y else y / eg 24 x y
theorem sp_X9_lowest {G : tk_G} {M : tk_M} {x y p : Int} (hx : 0 ≤ x) (hx1 : x ≤ 1000) (hy : 1 ≤ y) (hy1 : y ≤ 1000) : Spl G FX9_lowest [xI x, xI y, xI p] SF M (fun v M' => v = lows x y p ∧ M' = M) := by
  refine Spl.of _ mtX9_lowest nlX9_lowest (Nat.le_of_ble_eq_true rfl) ?_
  show Ok G FX9_lowest 0 [xI x, xI y, xI p, xU] [] SF M 0 0 _
  have hp := eg_pos 24 x y (by omega) hx (Or.inr (by omega)) (ec_24 hx hx1 (by omega) hy1)
  refine tr_iload_n (pc := 0) dX9_lowest_0 rfl ?_
  refine tr_iload_n (pc := 1) dX9_lowest_1 rfl ?_
  refine tr_cSi2 (pc := 2) dX9_lowest_2 mtX9_commonDivisor ls9_375 rfl ⟨(Nat.le_of_ble_eq_true rfl), (Nat.le_of_ble_eq_true rfl)⟩ nlX9_commonDivisor (Nat.le_of_ble_eq_true rfl) ⟨(Nat.le_of_ble_eq_true rfl), (Nat.le_of_ble_eq_true rfl)⟩ (sp_X9_commonDivisor hx hx1 (by omega) hy1) (fun r2 M2 h2 => ?_)
  obtain ⟨hr2, hM2⟩ := h2
  obtain rfl := hr2.symm
  obtain rfl := hM2.symm
  refine tr_istore_n (pc := 5) dX9_lowest_5 rfl (Nat.le_of_ble_eq_true rfl) ?_
  dsimp only [List.set]
  refine tr_iload_n (pc := 6) dX9_lowest_6 rfl ?_
  refine tr_ifne (pc := 7) (tgt := 14) dX9_lowest_7 (by decide) (fun c7 => ?_) (fun c7 => absurd c7 (by omega))
  refine tr_iload_n (pc := 14) dX9_lowest_14 rfl ?_
  refine tr_ifne (pc := 15) (tgt := 25) dX9_lowest_15 (by decide) (fun c15 => ?_) (fun c15 => ?_)
  · skip
    refine tr_iload_n (pc := 25) dX9_lowest_25 rfl ?_
    refine tr_iload_n (pc := 26) dX9_lowest_26 rfl ?_
    refine tr_idiv (pc := 27) dX9_lowest_27 (by omega) (by omega) ?_
    refine tr_i2l (pc := 28) dX9_lowest_28 ?_
    refine tr_lret (pc := 29) dX9_lowest_29 rfl ?_
    exact ⟨by unfold lows; split <;> first | rfl | omega, rfl⟩
  · skip
    refine tr_iload_n (pc := 18) dX9_lowest_18 rfl ?_
    refine tr_iload_n (pc := 19) dX9_lowest_19 rfl ?_
    refine tr_idiv (pc := 20) dX9_lowest_20 (by omega) (by omega) ?_
    refine tr_i2l (pc := 21) dX9_lowest_21 ?_
    refine tr_goto (pc := 22) (tgt := 29) dX9_lowest_22 (by decide) ?_
    refine tr_lret (pc := 29) dX9_lowest_29 rfl ?_
    exact ⟨by unfold lows; split <;> first | rfl | omega, rfl⟩
theorem sp_X9_countJumps {G : tk_G} {M : tk_M} {r : Int} {g : List (Int × Int)} (hG : gs_ok G) (hr : ig_s r) (hap : r + 3 ≤ 90) (hg : ig_at M r g) (hne : g ≠ []) : Spi G FX9_countJumps [xR 0, xR r] SF M (fun v M' => v = (jr_ga (hl_fc g) 100 0 []).length ∧ jr_at M' (jr_ga (hl_fc g) 100 0 []) ∧ tk_fr M M' 90 97) := by
  have r0 := hr.1
  refine Spi.of _ mtX9_countJumps nlX9_countJumps (Nat.le_of_ble_eq_true rfl) ?_
  show Ok G FX9_countJumps 0 [xR 0, xR r] [] SF M 0 0 _
  refine tr_aload_n (pc := 0) dX9_countJumps_0 rfl (by decide) ?_
  refine tr_getr (pc := 1) (x := 90) dX9_countJumps_1 fi9_56 rfl sg0 rfl ?_
  refine tr_aload_n (pc := 4) dX9_countJumps_4 rfl (by omega) ?_
  refine tr_cVv1 (pc := 5) dX9_countJumps_5 mtX2_wrap lv9_129 rfl sg90 kc2 ⟨(Nat.le_of_ble_eq_true rfl), (Nat.le_of_ble_eq_true rfl)⟩ nlX2_wrap (Nat.le_of_ble_eq_true rfl) ⟨(Nat.le_of_ble_eq_true rfl), (Nat.le_of_ble_eq_true rfl)⟩ (sp_X2_wrap hG hr (by omega) hg hne) (fun M5 h5 => ?_)
  obtain ⟨hF, f1⟩ := h5
  refine tr_aload_n (pc := 8) dX9_countJumps_8 rfl (by decide) ?_
  refine tr_getr (pc := 9) (x := 94) dX9_countJumps_9 fi9_63 rfl sg0 rfl ?_
  refine tr_aload_n (pc := 12) dX9_countJumps_12 rfl (by decide) ?_
  refine tr_getr (pc := 13) (x := 90) dX9_countJumps_13 fi9_56 rfl sg0 rfl ?_
  refine tr_cVv1 (pc := 16) dX9_countJumps_16 mtX4_gather lv9_344 rfl sg94 kc4 ⟨(Nat.le_of_ble_eq_true rfl), (Nat.le_of_ble_eq_true rfl)⟩ nlX4_gather (Nat.le_of_ble_eq_true rfl) ⟨(Nat.le_of_ble_eq_true rfl), (Nat.le_of_ble_eq_true rfl)⟩ (sp_X4_gather hF) (fun M16 h16 => ?_)
  obtain ⟨hJ, hs, f2⟩ := h16
  refine tr_aload_n (pc := 19) dX9_countJumps_19 rfl (by decide) ?_
  refine tr_getr (pc := 20) (x := 94) dX9_countJumps_20 fi9_63 rfl sg0 rfl ?_
  refine tr_cVi0 (pc := 23) dX9_countJumps_23 mtX4_size lv9_348 rfl sg94 kc4 ⟨(Nat.le_of_ble_eq_true rfl), (Nat.le_of_ble_eq_true rfl)⟩ nlX4_size (Nat.le_of_ble_eq_true rfl) ⟨(Nat.le_of_ble_eq_true rfl), (Nat.le_of_ble_eq_true rfl)⟩ (sp_X4_size) (fun r23 M23 h23 => ?_)
  obtain ⟨hr23, hM23⟩ := h23
  obtain rfl := hr23.symm
  obtain rfl := hM23.symm
  refine tr_ireti (pc := 26) dX9_countJumps_26 rfl ?_
  exact ⟨hJ.len.1, hJ, (f1.mono (by omega) (by omega)).trans (f2.mono (by omega) (by omega))⟩
def cbr (F : List (Int × Int × Int)) (num den : Int) : Nat → Int → Int → Int
  | 0, _, acc => acc
  | d + 1, t, acc => cbr F num den d (t + 1) (if hl_bar (t / 10) (t % 10) num den 0 F < 0 then acc else acc + 1)
theorem cbr_bd (F : List (Int × Int × Int)) (num den : Int) : ∀ (d : Nat) (t acc : Int), acc ≤ cbr F num den d t acc ∧ cbr F num den d t acc ≤ acc + d := by
  intro d
  induction d with
  | zero => intro t acc; unfold cbr; omega
  | succ d ih => intro t acc; unfold cbr; have := ih (t + 1) (if hl_bar (t / 10) (t % 10) num den 0 F < 0 then acc else acc + 1); split at this <;> split <;> omega
theorem sp_X9_countBarred {G : tk_G} {M : tk_M} {r num den : Int} {g : List (Int × Int)} (hG : gs_ok G) (hr : ig_s r) (hap : r + 3 ≤ 90) (hg : ig_at M r g) (hne : g ≠ []) (hn : 1 ≤ num ∧ num ≤ 99) (hd : 1 ≤ den ∧ den ≤ 99) : Spi G FX9_countBarred [xR 0, xR r, xI num, xI den] SF M (fun v M' => v = cbr (hl_fc g) num den 100 0 0 ∧ tk_fr M M' 90 94) := by
  have r0 := hr.1
  refine Spi.of _ mtX9_countBarred nlX9_countBarred (Nat.le_of_ble_eq_true rfl) ?_
  show Ok G FX9_countBarred 0 [xR 0, xR r, xI num, xI den, xU, xU, xU] [] SF M 0 0 _
  have loop : ∀ (F : List (Int × Int × Int)) (M1 : tk_M), hl_at M1 F → ∀ (d : Nat) (t a b acc : Int), t + d = 100 → t = 10 * a + b → 0 ≤ a → a ≤ 9 → 0 ≤ b → b ≤ 10 → 0 ≤ acc → acc ≤ t → Ok G FX9_countBarred 24 [xR 0, xR r, xI num, xI den, xI acc, xI a, xI b] [] SF M1 0 0 (tk_qi SF (fun v M' => v = cbr F num den d t acc ∧ M' = M1)) := by
    intro F M1 hF d
    induction d with
    | zero =>
      intro t a b acc hd ht ha0 ha1 hb0 hb1 hc0 hc1
      refine tr_iload (pc := 24) dX9_countBarred_24 rfl ?_
      refine tr_bipush (pc := 26) dX9_countBarred_26 ⟨by decide, ⟨by decide, by decide⟩⟩ ?_
      refine tr_icmpgt (pc := 28) (tgt := 56) dX9_countBarred_28 (by decide) (fun c28 => ?_) (fun c28 => absurd c28 (by omega))
      refine tr_iinc (pc := 56) dX9_countBarred_56 rfl rfl ⟨by omega, by omega⟩ ?_
      dsimp only [List.set]
      refine tr_goto (pc := 59) (tgt := 14) dX9_countBarred_59 (by decide) ?_
      refine tr_iload (pc := 14) dX9_countBarred_14 rfl ?_
      refine tr_bipush (pc := 16) dX9_countBarred_16 ⟨by decide, ⟨by decide, by decide⟩⟩ ?_
      refine tr_icmpgt (pc := 18) (tgt := 62) dX9_countBarred_18 (by decide) (fun c18 => ?_) (fun c18 => absurd c18 (by omega))
      refine tr_iload (pc := 62) dX9_countBarred_62 rfl ?_
      refine tr_ireti (pc := 64) dX9_countBarred_64 rfl ?_
      exact ⟨rfl, rfl⟩
    | succ d ih =>
      have step : ∀ (t a b acc : Int), t + (d + 1 : Nat) = 100 → t = 10 * a + b → 0 ≤ a → a ≤ 9 → 0 ≤ b → b ≤ 9 → 0 ≤ acc → acc ≤ t → Ok G FX9_countBarred 24 [xR 0, xR r, xI num, xI den, xI acc, xI a, xI b] [] SF M1 0 0 (tk_qi SF (fun v M' => v = cbr F num den (d + 1) t acc ∧ M' = M1)) := by
        intro t a b acc hd ht ha0 ha1 hb0 hb1 hc0 hc1
        have ea : t / 10 = a := by omega
        have eb : t % 10 = b := by omega
        unfold cbr
        rw [ea, eb]
        refine tr_iload (pc := 24) dX9_countBarred_24 rfl ?_
        refine tr_bipush (pc := 26) dX9_countBarred_26 ⟨by decide, ⟨by decide, by decide⟩⟩ ?_
        refine tr_icmpgt (pc := 28) (tgt := 56) dX9_countBarred_28 (by decide) (fun c28 => absurd c28 (by omega)) (fun c28 => ?_)
        refine tr_aload_n (pc := 31) dX9_countBarred_31 rfl (by decide) ?_
        refine tr_getr (pc := 32) (x := 90) dX9_countBarred_32 fi9_56 rfl sg0 rfl ?_
        refine tr_iload (pc := 35) dX9_countBarred_35 rfl ?_
        refine tr_iload (pc := 37) dX9_countBarred_37 rfl ?_
        refine tr_iload_n (pc := 39) dX9_countBarred_39 rfl ?_
        refine tr_iload_n (pc := 40) dX9_countBarred_40 rfl ?_
        refine tr_cVi4 (pc := 41) dX9_countBarred_41 mtX2_barring lv9_220 rfl sg90 kc2 ⟨(Nat.le_of_ble_eq_true rfl), (Nat.le_of_ble_eq_true rfl)⟩ nlX2_barring (Nat.le_of_ble_eq_true rfl) ⟨(Nat.le_of_ble_eq_true rfl), (Nat.le_of_ble_eq_true rfl)⟩ (sp_X2_barring hF (by omega) (by omega) hn (by omega)) (fun r41 M41 h41 => ?_)
        obtain ⟨hr41, hM41⟩ := h41
        obtain rfl := hr41.symm
        obtain rfl := hM41.symm
        refine tr_iflt (pc := 44) (tgt := 50) dX9_countBarred_44 (by decide) (fun c44 => ?_) (fun c44 => ?_)
        · skip
          refine tr_iinc (pc := 50) dX9_countBarred_50 rfl rfl ⟨by omega, by omega⟩ ?_
          dsimp only [List.set]
          refine tr_goto (pc := 53) (tgt := 24) dX9_countBarred_53 (by decide) ?_
          first | rw [if_pos (by omega)] | rw [if_neg (by omega)]
          exact ih (t + 1) a (b + 1) _ (by omega) (by omega) (by omega) (by omega) (by omega) (by omega) (by omega) (by omega)
        · skip
          refine tr_iinc (pc := 47) dX9_countBarred_47 rfl rfl ⟨by omega, by omega⟩ ?_
          dsimp only [List.set]
          refine tr_iinc (pc := 50) dX9_countBarred_50 rfl rfl ⟨by omega, by omega⟩ ?_
          dsimp only [List.set]
          refine tr_goto (pc := 53) (tgt := 24) dX9_countBarred_53 (by decide) ?_
          first | rw [if_pos (by omega)] | rw [if_neg (by omega)]
          exact ih (t + 1) a (b + 1) _ (by omega) (by omega) (by omega) (by omega) (by omega) (by omega) (by omega) (by omega)
      intro t a b acc hd ht ha0 ha1 hb0 hb1 hc0 hc1
      by_cases hb : b ≤ 9
      · exact step t a b acc hd ht ha0 ha1 hb0 hb hc0 hc1
      · skip
        refine tr_iload (pc := 24) dX9_countBarred_24 rfl ?_
        refine tr_bipush (pc := 26) dX9_countBarred_26 ⟨by decide, ⟨by decide, by decide⟩⟩ ?_
        refine tr_icmpgt (pc := 28) (tgt := 56) dX9_countBarred_28 (by decide) (fun c28 => ?_) (fun c28 => absurd c28 (by omega))
        refine tr_iinc (pc := 56) dX9_countBarred_56 rfl rfl ⟨by omega, by omega⟩ ?_
        dsimp only [List.set]
        refine tr_goto (pc := 59) (tgt := 14) dX9_countBarred_59 (by decide) ?_
        refine tr_iload (pc := 14) dX9_countBarred_14 rfl ?_
        refine tr_bipush (pc := 16) dX9_countBarred_16 ⟨by decide, ⟨by decide, by decide⟩⟩ ?_
        refine tr_icmpgt (pc := 18) (tgt := 62) dX9_countBarred_18 (by decide) (fun c18 => absurd c18 (by omega)) (fun c18 => ?_)
        refine tr_iconst (pc := 21) dX9_countBarred_21 ⟨by decide, by decide⟩ ?_
        refine tr_istore (pc := 22) dX9_countBarred_22 rfl (Nat.le_of_ble_eq_true rfl) ?_
        dsimp only [List.set]
        exact step t (a + 1) 0 acc hd (by omega) (by omega) (by omega) (by omega) (by omega) hc0 hc1
  refine tr_aload_n (pc := 0) dX9_countBarred_0 rfl (by decide) ?_
  refine tr_getr (pc := 1) (x := 90) dX9_countBarred_1 fi9_56 rfl sg0 rfl ?_
  refine tr_aload_n (pc := 4) dX9_countBarred_4 rfl (by omega) ?_
  refine tr_cVv1 (pc := 5) dX9_countBarred_5 mtX2_wrap lv9_129 rfl sg90 kc2 ⟨(Nat.le_of_ble_eq_true rfl), (Nat.le_of_ble_eq_true rfl)⟩ nlX2_wrap (Nat.le_of_ble_eq_true rfl) ⟨(Nat.le_of_ble_eq_true rfl), (Nat.le_of_ble_eq_true rfl)⟩ (sp_X2_wrap hG hr (by omega) hg hne) (fun M5 h5 => ?_)
  obtain ⟨hF, f1⟩ := h5
  refine tr_iconst (pc := 8) dX9_countBarred_8 ⟨by decide, by decide⟩ ?_
  refine tr_istore (pc := 9) dX9_countBarred_9 rfl (Nat.le_of_ble_eq_true rfl) ?_
  dsimp only [List.set]
  refine tr_iconst (pc := 11) dX9_countBarred_11 ⟨by decide, by decide⟩ ?_
  refine tr_istore (pc := 12) dX9_countBarred_12 rfl (Nat.le_of_ble_eq_true rfl) ?_
  dsimp only [List.set]
  refine tr_iload (pc := 14) dX9_countBarred_14 rfl ?_
  refine tr_bipush (pc := 16) dX9_countBarred_16 ⟨by decide, ⟨by decide, by decide⟩⟩ ?_
  refine tr_icmpgt (pc := 18) (tgt := 62) dX9_countBarred_18 (by decide) (fun c18 => absurd c18 (by omega)) (fun c18 => ?_)
  refine tr_iconst (pc := 21) dX9_countBarred_21 ⟨by decide, by decide⟩ ?_
  refine tr_istore (pc := 22) dX9_countBarred_22 rfl (Nat.le_of_ble_eq_true rfl) ?_
  dsimp only [List.set]
  exact tk_mono (loop _ M5 hF 100 0 0 0 0 (by omega) (by omega) (by omega) (by omega) (by omega) (by omega) (by omega) (by omega)) (fun v M1 h => ⟨h.1, by rw [h.2]; exact f1⟩)
def cls1 (F : List (Int × Int × Int)) (g : List (Int × Int)) : Nat → Int → Int
  | 0, _ => 1
  | d + 1, t => if hl_cov (t / 10) (t % 10) F ≠ 0 ∧ ig_in (t / 10) (t % 10) g = 0 then 0 else cls1 F g d (t + 1)
theorem sp_X9_closedness {G : tk_G} {M : tk_M} {r : Int} {g : List (Int × Int)} (hG : gs_ok G) (hr : ig_s r) (hap : r + 3 ≤ 90) (hg : ig_at M r g) (hne : g ≠ []) : Spi G FX9_closedness [xR 0, xR r] SF M (fun v M' => v = cls1 (hl_fc g) g 100 0 ∧ tk_fr M M' 90 94) := by
  have r0 := hr.1
  have hrq := hr.2.1
  refine Spi.of _ mtX9_closedness nlX9_closedness (Nat.le_of_ble_eq_true rfl) ?_
  show Ok G FX9_closedness 0 [xR 0, xR r, xU, xU] [] SF M 0 0 _
  have loop : ∀ (F : List (Int × Int × Int)) (M1 : tk_M), hl_at M1 F → ig_at M1 r g → ∀ (d : Nat) (t a b : Int), t + d = 100 → t = 10 * a + b → 0 ≤ a → a ≤ 9 → 0 ≤ b → b ≤ 10 → Ok G FX9_closedness 18 [xR 0, xR r, xI a, xI b] [] SF M1 0 0 (tk_qi SF (fun v M' => v = cls1 F g d t ∧ M' = M1)) := by
    intro F M1 hF hg1 d
    induction d with
    | zero =>
      intro t a b hd ht ha0 ha1 hb0 hb1
      refine tr_iload_n (pc := 18) dX9_closedness_18 rfl ?_
      refine tr_bipush (pc := 19) dX9_closedness_19 ⟨by decide, ⟨by decide, by decide⟩⟩ ?_
      refine tr_icmpgt (pc := 21) (tgt := 53) dX9_closedness_21 (by decide) (fun c21 => ?_) (fun c21 => absurd c21 (by omega))
      refine tr_iinc (pc := 53) dX9_closedness_53 rfl rfl ⟨by omega, by omega⟩ ?_
      dsimp only [List.set]
      refine tr_goto (pc := 56) (tgt := 10) dX9_closedness_56 (by decide) ?_
      refine tr_iload_n (pc := 10) dX9_closedness_10 rfl ?_
      refine tr_bipush (pc := 11) dX9_closedness_11 ⟨by decide, ⟨by decide, by decide⟩⟩ ?_
      refine tr_icmpgt (pc := 13) (tgt := 59) dX9_closedness_13 (by decide) (fun c13 => ?_) (fun c13 => absurd c13 (by omega))
      refine tr_iconst (pc := 59) dX9_closedness_59 ⟨by decide, by decide⟩ ?_
      refine tr_ireti (pc := 60) dX9_closedness_60 rfl ?_
      exact ⟨rfl, rfl⟩
    | succ d ih =>
      have step : ∀ (t a b : Int), t + (d + 1 : Nat) = 100 → t = 10 * a + b → 0 ≤ a → a ≤ 9 → 0 ≤ b → b ≤ 9 → Ok G FX9_closedness 18 [xR 0, xR r, xI a, xI b] [] SF M1 0 0 (tk_qi SF (fun v M' => v = cls1 F g (d + 1) t ∧ M' = M1)) := by
        intro t a b hd ht ha0 ha1 hb0 hb1
        have ea : t / 10 = a := by omega
        have eb : t % 10 = b := by omega
        unfold cls1
        rw [ea, eb]
        refine tr_iload_n (pc := 18) dX9_closedness_18 rfl ?_
        refine tr_bipush (pc := 19) dX9_closedness_19 ⟨by decide, ⟨by decide, by decide⟩⟩ ?_
        refine tr_icmpgt (pc := 21) (tgt := 53) dX9_closedness_21 (by decide) (fun c21 => absurd c21 (by omega)) (fun c21 => ?_)
        refine tr_aload_n (pc := 24) dX9_closedness_24 rfl (by decide) ?_
        refine tr_getr (pc := 25) (x := 90) dX9_closedness_25 fi9_56 rfl sg0 rfl ?_
        refine tr_iload_n (pc := 28) dX9_closedness_28 rfl ?_
        refine tr_iload_n (pc := 29) dX9_closedness_29 rfl ?_
        refine tr_cVi2 (pc := 30) dX9_closedness_30 mtX2_covers lv9_205 rfl sg90 kc2 ⟨(Nat.le_of_ble_eq_true rfl), (Nat.le_of_ble_eq_true rfl)⟩ nlX2_covers (Nat.le_of_ble_eq_true rfl) ⟨(Nat.le_of_ble_eq_true rfl), (Nat.le_of_ble_eq_true rfl)⟩ (sp_X2_covers hF (by omega) (by omega)) (fun r30 M30 h30 => ?_)
        obtain ⟨hr30, hM30⟩ := h30
        obtain rfl := hr30.symm
        obtain rfl := hM30.symm
        refine tr_ifeq (pc := 33) (tgt := 47) dX9_closedness_33 (by decide) (fun c33 => ?_) (fun c33 => ?_)
        · skip
          refine tr_iinc (pc := 47) dX9_closedness_47 rfl rfl ⟨by omega, by omega⟩ ?_
          dsimp only [List.set]
          refine tr_goto (pc := 50) (tgt := 18) dX9_closedness_50 (by decide) ?_
          rw [if_neg (by omega)]
          exact ih (t + 1) a (b + 1) (by omega) (by omega) (by omega) (by omega) (by omega) (by omega)
        · skip
          refine tr_aload_n (pc := 36) dX9_closedness_36 rfl (by omega) ?_
          refine tr_iload_n (pc := 37) dX9_closedness_37 rfl ?_
          refine tr_iload_n (pc := 38) dX9_closedness_38 rfl ?_
          refine tr_cVi2 (pc := 39) dX9_closedness_39 mtX3_contains lv9_202 rfl (by assumption) kc3 ⟨(Nat.le_of_ble_eq_true rfl), (Nat.le_of_ble_eq_true rfl)⟩ nlX3_contains (Nat.le_of_ble_eq_true rfl) ⟨(Nat.le_of_ble_eq_true rfl), (Nat.le_of_ble_eq_true rfl)⟩ (sp_X3_contains hr hg1) (fun r39 M39 h39 => ?_)
          obtain ⟨hr39, hM39⟩ := h39
          obtain rfl := hr39.symm
          obtain rfl := hM39.symm
          refine tr_ifne (pc := 42) (tgt := 47) dX9_closedness_42 (by decide) (fun c42 => ?_) (fun c42 => ?_)
          · skip
            refine tr_iinc (pc := 47) dX9_closedness_47 rfl rfl ⟨by omega, by omega⟩ ?_
            dsimp only [List.set]
            refine tr_goto (pc := 50) (tgt := 18) dX9_closedness_50 (by decide) ?_
            rw [if_neg (by omega)]
            exact ih (t + 1) a (b + 1) (by omega) (by omega) (by omega) (by omega) (by omega) (by omega)
          · skip
            refine tr_iconst (pc := 45) dX9_closedness_45 ⟨by decide, by decide⟩ ?_
            refine tr_ireti (pc := 46) dX9_closedness_46 rfl ?_
            exact ⟨(if_pos (by omega)).symm, rfl⟩
      intro t a b hd ht ha0 ha1 hb0 hb1
      by_cases hb : b ≤ 9
      · exact step t a b hd ht ha0 ha1 hb0 hb
      · skip
        refine tr_iload_n (pc := 18) dX9_closedness_18 rfl ?_
        refine tr_bipush (pc := 19) dX9_closedness_19 ⟨by decide, ⟨by decide, by decide⟩⟩ ?_
        refine tr_icmpgt (pc := 21) (tgt := 53) dX9_closedness_21 (by decide) (fun c21 => ?_) (fun c21 => absurd c21 (by omega))
        refine tr_iinc (pc := 53) dX9_closedness_53 rfl rfl ⟨by omega, by omega⟩ ?_
        dsimp only [List.set]
        refine tr_goto (pc := 56) (tgt := 10) dX9_closedness_56 (by decide) ?_
        refine tr_iload_n (pc := 10) dX9_closedness_10 rfl ?_
        refine tr_bipush (pc := 11) dX9_closedness_11 ⟨by decide, ⟨by decide, by decide⟩⟩ ?_
        refine tr_icmpgt (pc := 13) (tgt := 59) dX9_closedness_13 (by decide) (fun c13 => absurd c13 (by omega)) (fun c13 => ?_)
        refine tr_iconst (pc := 16) dX9_closedness_16 ⟨by decide, by decide⟩ ?_
        refine tr_istore_n (pc := 17) dX9_closedness_17 rfl (Nat.le_of_ble_eq_true rfl) ?_
        dsimp only [List.set]
        exact step t (a + 1) 0 hd (by omega) (by omega) (by omega) (by omega) (by omega)
  refine tr_aload_n (pc := 0) dX9_closedness_0 rfl (by decide) ?_
  refine tr_getr (pc := 1) (x := 90) dX9_closedness_1 fi9_56 rfl sg0 rfl ?_
  refine tr_aload_n (pc := 4) dX9_closedness_4 rfl (by omega) ?_
  refine tr_cVv1 (pc := 5) dX9_closedness_5 mtX2_wrap lv9_129 rfl sg90 kc2 ⟨(Nat.le_of_ble_eq_true rfl), (Nat.le_of_ble_eq_true rfl)⟩ nlX2_wrap (Nat.le_of_ble_eq_true rfl) ⟨(Nat.le_of_ble_eq_true rfl), (Nat.le_of_ble_eq_true rfl)⟩ (sp_X2_wrap hG hr (by omega) hg hne) (fun M5 h5 => ?_)
  obtain ⟨hF, f1⟩ := h5
  refine tr_iconst (pc := 8) dX9_closedness_8 ⟨by decide, by decide⟩ ?_
  refine tr_istore_n (pc := 9) dX9_closedness_9 rfl (Nat.le_of_ble_eq_true rfl) ?_
  dsimp only [List.set]
  refine tr_iload_n (pc := 10) dX9_closedness_10 rfl ?_
  refine tr_bipush (pc := 11) dX9_closedness_11 ⟨by decide, ⟨by decide, by decide⟩⟩ ?_
  refine tr_icmpgt (pc := 13) (tgt := 59) dX9_closedness_13 (by decide) (fun c13 => absurd c13 (by omega)) (fun c13 => ?_)
  refine tr_iconst (pc := 16) dX9_closedness_16 ⟨by decide, by decide⟩ ?_
  refine tr_istore_n (pc := 17) dX9_closedness_17 rfl (Nat.le_of_ble_eq_true rfl) ?_
  dsimp only [List.set]
  exact tk_mono (loop _ M5 hF (hg.frame f1 (by omega)) 100 0 0 0 (by omega) (by omega) (by omega) (by omega) (by omega) (by omega)) (fun v M1 h => ⟨h.1, by rw [h.2]; exact f1⟩)
