abbrev L3 : Type := List (Int × Int × Int)
def x_see (l : L3) (i n d : Int) : Int × L3 := if i = -1 then (0, []) else if ¬ (0 ≤ i ∧ i ≤ 99) then (-1, l) else if ¬ ((1 ≤ n ∧ n ≤ 99) ∧ (1 ≤ d ∧ d ≤ 99)) then (-2, l) else if 4 ≤ l.length then (-4, l) else (l.length + 1, l ++ [(i, n, d)])
theorem sp_X9_see {G : tk_G} {M : tk_M} {l : L3} {i n d : Int} (hl : rw_at M 8 4 l) : Spi G FX9_see [xR 0, xI i, xI n, xI d] SF M (fun v M' => v = (x_see l i n d).1 ∧ rw_at M' 8 4 (x_see l i n d).2 ∧ tk_fr M M' 8 12) := by
  have hln := hl.len
  unfold x_see
  refine Spi.of _ mtX9_see nlX9_see (Nat.le_of_ble_eq_true rfl) ?_
  show Ok G FX9_see 0 [xR 0, xI i, xI n, xI d] [] SF M 0 0 _
  refine tr_iload_n (pc := 0) dX9_see_0 rfl ?_
  refine tr_iconst (pc := 1) dX9_see_1 ⟨by decide, by decide⟩ ?_
  refine tr_icmpne (pc := 2) (tgt := 17) dX9_see_2 (by decide) (fun c2 => ?_) (fun c2 => ?_)
  · skip
    refine tr_iload_n (pc := 17) dX9_see_17 rfl ?_
    refine tr_iflt (pc := 18) (tgt := 27) dX9_see_18 (by decide) (fun c18 => ?_) (fun c18 => ?_)
    · skip
      refine tr_iconst (pc := 27) dX9_see_27 ⟨by decide, by decide⟩ ?_
      refine tr_ireti (pc := 28) dX9_see_28 rfl ?_
      rw [if_neg (by omega), if_pos (by omega)]
      exact ⟨rfl, hl, tk_fr.rf⟩
    · skip
      refine tr_iload_n (pc := 21) dX9_see_21 rfl ?_
      refine tr_bipush (pc := 22) dX9_see_22 ⟨by decide, ⟨by decide, by decide⟩⟩ ?_
      refine tr_icmple (pc := 24) (tgt := 29) dX9_see_24 (by decide) (fun c24 => ?_) (fun c24 => ?_)
      · skip
        refine tr_iload_n (pc := 29) dX9_see_29 rfl ?_
        refine tr_iload_n (pc := 30) dX9_see_30 rfl ?_
        refine tr_cSi2 (pc := 31) dX9_see_31 mtX9_badFraction ls9_217 rfl ⟨(Nat.le_of_ble_eq_true rfl), (Nat.le_of_ble_eq_true rfl)⟩ nlX9_badFraction (Nat.le_of_ble_eq_true rfl) ⟨(Nat.le_of_ble_eq_true rfl), (Nat.le_of_ble_eq_true rfl)⟩ (sp_X9_badFraction) (fun r31 M31 h31 => ?_)
        obtain ⟨hr31, hM31⟩ := h31
        obtain rfl := hr31.symm
        obtain rfl := hM31.symm
        refine tr_ifeq (pc := 34) (tgt := 40) dX9_see_34 (by decide) (fun c34 => ?_) (fun c34 => ?_)
        · skip
          refine tr_aload_n (pc := 40) dX9_see_40 rfl (by decide) ?_
          refine tr_getr (pc := 41) (x := 1) dX9_see_41 fi9_12 rfl sg0 rfl ?_
          refine tr_getr (pc := 44) (x := 8) dX9_see_44 fi9_273 rfl sg1 rfl ?_
          refine tr_iload_n (pc := 47) dX9_see_47 rfl ?_
          refine tr_iload_n (pc := 48) dX9_see_48 rfl ?_
          refine tr_iload_n (pc := 49) dX9_see_49 rfl ?_
          refine tr_cVi3 (pc := 50) dX9_see_50 mtX5_add lv9_280 rfl sg8 kc5 ⟨(Nat.le_of_ble_eq_true rfl), (Nat.le_of_ble_eq_true rfl)⟩ nlX5_add (Nat.le_of_ble_eq_true rfl) ⟨(Nat.le_of_ble_eq_true rfl), (Nat.le_of_ble_eq_true rfl)⟩ (sp_X5_add rw_s8 (by omega) hl.2.1 hl.2.2) (fun r50 M50 h50 => ?_)
          skip
          refine tr_ireti (pc := 53) dX9_see_53 rfl ?_
          rw [if_neg (by omega), if_neg (by omega), if_neg (by omega)]
          rcases h50 with ⟨q1, q2, q3⟩ | ⟨q1, q2, q3⟩
          · rw [if_neg (by omega), q3, q2, hln.1]
            exact ⟨rfl, rw_addM_at hl q1, rw_addM_fr M 8 i n d⟩
          · rw [if_pos (by omega), q3, q2]
            exact ⟨rfl, hl, tk_fr.rf⟩
        · skip
          refine tr_bipush (pc := 37) dX9_see_37 ⟨by decide, ⟨by decide, by decide⟩⟩ ?_
          refine tr_ireti (pc := 39) dX9_see_39 rfl ?_
          rw [if_neg (by omega), if_neg (by omega), if_pos (by omega)]
          exact ⟨rfl, hl, tk_fr.rf⟩
      · skip
        refine tr_iconst (pc := 27) dX9_see_27 ⟨by decide, by decide⟩ ?_
        refine tr_ireti (pc := 28) dX9_see_28 rfl ?_
        rw [if_neg (by omega), if_pos (by omega)]
        exact ⟨rfl, hl, tk_fr.rf⟩
  · skip
    refine tr_aload_n (pc := 5) dX9_see_5 rfl (by decide) ?_
    refine tr_getr (pc := 6) (x := 1) dX9_see_6 fi9_12 rfl sg0 rfl ?_
    refine tr_getr (pc := 9) (x := 8) dX9_see_9 fi9_273 rfl sg1 rfl ?_
    refine tr_cVv0 (pc := 12) dX9_see_12 mtX5_empty lv9_277 rfl sg8 kc5 ⟨(Nat.le_of_ble_eq_true rfl), (Nat.le_of_ble_eq_true rfl)⟩ nlX5_empty (Nat.le_of_ble_eq_true rfl) ⟨(Nat.le_of_ble_eq_true rfl), (Nat.le_of_ble_eq_true rfl)⟩ (sp_X5_empty rw_s8) (fun M12 h12 => ?_)
    obtain rfl := h12.symm
    refine tr_iconst (pc := 15) dX9_see_15 ⟨by decide, by decide⟩ ?_
    refine tr_ireti (pc := 16) dX9_see_16 rfl ?_
    rw [if_pos (by omega)]
    exact ⟨rfl, rw_empty_at hl, tk_fr.rf.mu (by omega) (by omega)⟩
noncomputable def x_event (l : L3) (w n : Int) : Int × L3 := if w = -1 then (0, []) else if ¬ (0 ≤ w ∧ w ≤ 2) then (-1, l) else @ite (Int × L3) (¬ ev_ok w n) (Classical.propDecidable _) (-2, l) (if 8 ≤ l.length then (-4, l) else (l.length + 1, l ++ [(w, n, 0)]))
theorem sp_X9_event {G : tk_G} {M : tk_M} {l : L3} {w n : Int} (hl : rw_at M 12 8 l) : Spi G FX9_event [xR 0, xI w, xI n] SF M (fun v M' => v = (x_event l w n).1 ∧ rw_at M' 12 8 (x_event l w n).2 ∧ tk_fr M M' 12 16) := by
  have hln := hl.len
  unfold x_event
  refine Spi.of _ mtX9_event nlX9_event (Nat.le_of_ble_eq_true rfl) ?_
  show Ok G FX9_event 0 [xR 0, xI w, xI n] [] SF M 0 0 _
  refine tr_iload_n (pc := 0) dX9_event_0 rfl ?_
  refine tr_iconst (pc := 1) dX9_event_1 ⟨by decide, by decide⟩ ?_
  refine tr_icmpne (pc := 2) (tgt := 17) dX9_event_2 (by decide) (fun c2 => ?_) (fun c2 => ?_)
  · skip
    refine tr_iload_n (pc := 17) dX9_event_17 rfl ?_
    refine tr_iflt (pc := 18) (tgt := 26) dX9_event_18 (by decide) (fun c18 => ?_) (fun c18 => ?_)
    · skip
      refine tr_iconst (pc := 26) dX9_event_26 ⟨by decide, by decide⟩ ?_
      refine tr_ireti (pc := 27) dX9_event_27 rfl ?_
      rw [if_neg (by omega), if_pos (by omega)]
      exact ⟨rfl, hl, tk_fr.rf⟩
    · skip
      refine tr_iload_n (pc := 21) dX9_event_21 rfl ?_
      refine tr_iconst (pc := 22) dX9_event_22 ⟨by decide, by decide⟩ ?_
      refine tr_icmple (pc := 23) (tgt := 28) dX9_event_23 (by decide) (fun c23 => ?_) (fun c23 => ?_)
      · skip
        refine tr_iload_n (pc := 28) dX9_event_28 rfl ?_
        refine tr_iload_n (pc := 29) dX9_event_29 rfl ?_
        refine tr_cSi2 (pc := 30) dX9_event_30 mtX9_badEventNumber ls9_292 rfl ⟨(Nat.le_of_ble_eq_true rfl), (Nat.le_of_ble_eq_true rfl)⟩ nlX9_badEventNumber (Nat.le_of_ble_eq_true rfl) ⟨(Nat.le_of_ble_eq_true rfl), (Nat.le_of_ble_eq_true rfl)⟩ (sp_X9_badEventNumber (by omega) (by omega)) (fun r30 M30 h30 => ?_)
        obtain ⟨hv, hM30⟩ := h30
        obtain rfl := hM30.symm
        refine tr_ifeq (pc := 33) (tgt := 39) dX9_event_33 (by decide) (fun c33 => ?_) (fun c33 => ?_)
        · skip
          refine tr_aload_n (pc := 39) dX9_event_39 rfl (by decide) ?_
          refine tr_getr (pc := 40) (x := 1) dX9_event_40 fi9_12 rfl sg0 rfl ?_
          refine tr_getr (pc := 43) (x := 12) dX9_event_43 fi9_289 rfl sg1 rfl ?_
          refine tr_iload_n (pc := 46) dX9_event_46 rfl ?_
          refine tr_iload_n (pc := 47) dX9_event_47 rfl ?_
          refine tr_iconst (pc := 48) dX9_event_48 ⟨by decide, by decide⟩ ?_
          refine tr_cVi3 (pc := 49) dX9_event_49 mtX5_add lv9_280 rfl sg12 kc5 ⟨(Nat.le_of_ble_eq_true rfl), (Nat.le_of_ble_eq_true rfl)⟩ nlX5_add (Nat.le_of_ble_eq_true rfl) ⟨(Nat.le_of_ble_eq_true rfl), (Nat.le_of_ble_eq_true rfl)⟩ (sp_X5_add rw_s12 (by omega) hl.2.1 hl.2.2) (fun r49 M49 h49 => ?_)
          skip
          refine tr_ireti (pc := 52) dX9_event_52 rfl ?_
          rw [if_neg (by omega), if_neg (by omega), if_neg (fun h => h (hv.resolve_right (by omega)).2)]
          rcases h49 with ⟨q1, q2, q3⟩ | ⟨q1, q2, q3⟩
          · rw [if_neg (by omega), q3, q2, hln.1]
            exact ⟨rfl, rw_addM_at hl q1, rw_addM_fr M 12 w n 0⟩
          · rw [if_pos (by omega), q3, q2]
            exact ⟨rfl, hl, tk_fr.rf⟩
        · skip
          refine tr_bipush (pc := 36) dX9_event_36 ⟨by decide, ⟨by decide, by decide⟩⟩ ?_
          refine tr_ireti (pc := 38) dX9_event_38 rfl ?_
          rw [if_neg (by omega), if_neg (by omega), if_pos (hv.resolve_left (by omega)).2]
          exact ⟨rfl, hl, tk_fr.rf⟩
      · skip
        refine tr_iconst (pc := 26) dX9_event_26 ⟨by decide, by decide⟩ ?_
        refine tr_ireti (pc := 27) dX9_event_27 rfl ?_
        rw [if_neg (by omega), if_pos (by omega)]
        exact ⟨rfl, hl, tk_fr.rf⟩
  · skip
    refine tr_aload_n (pc := 5) dX9_event_5 rfl (by decide) ?_
    refine tr_getr (pc := 6) (x := 1) dX9_event_6 fi9_12 rfl sg0 rfl ?_
    refine tr_getr (pc := 9) (x := 12) dX9_event_9 fi9_289 rfl sg1 rfl ?_
    refine tr_cVv0 (pc := 12) dX9_event_12 mtX5_empty lv9_277 rfl sg12 kc5 ⟨(Nat.le_of_ble_eq_true rfl), (Nat.le_of_ble_eq_true rfl)⟩ nlX5_empty (Nat.le_of_ble_eq_true rfl) ⟨(Nat.le_of_ble_eq_true rfl), (Nat.le_of_ble_eq_true rfl)⟩ (sp_X5_empty rw_s12) (fun M12 h12 => ?_)
    obtain rfl := h12.symm
    refine tr_iconst (pc := 15) dX9_event_15 ⟨by decide, by decide⟩ ?_
    refine tr_ireti (pc := 16) dX9_event_16 rfl ?_
    rw [if_pos (by omega)]
    exact ⟨rfl, rw_empty_at hl, tk_fr.rf.mu (by omega) (by omega)⟩
def x_book (l : L3) (t v : Int) : Int × L3 := if t = -1 then (0, []) else if ¬ (0 ≤ t ∧ t ≤ 99) then (-1, l) else if ¬ (0 ≤ v ∧ v ≤ 1) then (-2, l) else if 8 ≤ l.length then (-4, l) else (l.length + 1, l ++ [(t, v, 0)])
theorem sp_X9_book {G : tk_G} {M : tk_M} {l : L3} {t v : Int} (hl : rw_at M 16 8 l) : Spi G FX9_book [xR 0, xI t, xI v] SF M (fun r M' => r = (x_book l t v).1 ∧ rw_at M' 16 8 (x_book l t v).2 ∧ tk_fr M M' 16 20) := by
  have hln := hl.len
  unfold x_book
  refine Spi.of _ mtX9_book nlX9_book (Nat.le_of_ble_eq_true rfl) ?_
  show Ok G FX9_book 0 [xR 0, xI t, xI v] [] SF M 0 0 _
  refine tr_iload_n (pc := 0) dX9_book_0 rfl ?_
  refine tr_iconst (pc := 1) dX9_book_1 ⟨by decide, by decide⟩ ?_
  refine tr_icmpne (pc := 2) (tgt := 17) dX9_book_2 (by decide) (fun c2 => ?_) (fun c2 => ?_)
  · skip
    refine tr_iload_n (pc := 17) dX9_book_17 rfl ?_
    refine tr_iflt (pc := 18) (tgt := 27) dX9_book_18 (by decide) (fun c18 => ?_) (fun c18 => ?_)
    · skip
      refine tr_iconst (pc := 27) dX9_book_27 ⟨by decide, by decide⟩ ?_
      refine tr_ireti (pc := 28) dX9_book_28 rfl ?_
      rw [if_neg (by omega), if_pos (by omega)]
      exact ⟨rfl, hl, tk_fr.rf⟩
    · skip
      refine tr_iload_n (pc := 21) dX9_book_21 rfl ?_
      refine tr_bipush (pc := 22) dX9_book_22 ⟨by decide, ⟨by decide, by decide⟩⟩ ?_
      refine tr_icmple (pc := 24) (tgt := 29) dX9_book_24 (by decide) (fun c24 => ?_) (fun c24 => ?_)
      · skip
        refine tr_iload_n (pc := 29) dX9_book_29 rfl ?_
        refine tr_iflt (pc := 30) (tgt := 38) dX9_book_30 (by decide) (fun c30 => ?_) (fun c30 => ?_)
        · skip
          refine tr_bipush (pc := 38) dX9_book_38 ⟨by decide, ⟨by decide, by decide⟩⟩ ?_
          refine tr_ireti (pc := 40) dX9_book_40 rfl ?_
          rw [if_neg (by omega), if_neg (by omega), if_pos (by omega)]
          exact ⟨rfl, hl, tk_fr.rf⟩
        · skip
          refine tr_iload_n (pc := 33) dX9_book_33 rfl ?_
          refine tr_iconst (pc := 34) dX9_book_34 ⟨by decide, by decide⟩ ?_
          refine tr_icmple (pc := 35) (tgt := 41) dX9_book_35 (by decide) (fun c35 => ?_) (fun c35 => ?_)
          · skip
            refine tr_aload_n (pc := 41) dX9_book_41 rfl (by decide) ?_
            refine tr_getr (pc := 42) (x := 1) dX9_book_42 fi9_12 rfl sg0 rfl ?_
            refine tr_getr (pc := 45) (x := 16) dX9_book_45 fi9_305 rfl sg1 rfl ?_
            refine tr_iload_n (pc := 48) dX9_book_48 rfl ?_
            refine tr_iload_n (pc := 49) dX9_book_49 rfl ?_
            refine tr_iconst (pc := 50) dX9_book_50 ⟨by decide, by decide⟩ ?_
            refine tr_cVi3 (pc := 51) dX9_book_51 mtX5_add lv9_280 rfl sg16 kc5 ⟨(Nat.le_of_ble_eq_true rfl), (Nat.le_of_ble_eq_true rfl)⟩ nlX5_add (Nat.le_of_ble_eq_true rfl) ⟨(Nat.le_of_ble_eq_true rfl), (Nat.le_of_ble_eq_true rfl)⟩ (sp_X5_add rw_s16 (by omega) hl.2.1 hl.2.2) (fun r51 M51 h51 => ?_)
            skip
            refine tr_ireti (pc := 54) dX9_book_54 rfl ?_
            rw [if_neg (by omega), if_neg (by omega), if_neg (by omega)]
            rcases h51 with ⟨q1, q2, q3⟩ | ⟨q1, q2, q3⟩
            · rw [if_neg (by omega), q3, q2, hln.1]
              exact ⟨rfl, rw_addM_at hl q1, rw_addM_fr M 16 t v 0⟩
            · rw [if_pos (by omega), q3, q2]
              exact ⟨rfl, hl, tk_fr.rf⟩
          · skip
            refine tr_bipush (pc := 38) dX9_book_38 ⟨by decide, ⟨by decide, by decide⟩⟩ ?_
            refine tr_ireti (pc := 40) dX9_book_40 rfl ?_
            rw [if_neg (by omega), if_neg (by omega), if_pos (by omega)]
            exact ⟨rfl, hl, tk_fr.rf⟩
      · skip
        refine tr_iconst (pc := 27) dX9_book_27 ⟨by decide, by decide⟩ ?_
        refine tr_ireti (pc := 28) dX9_book_28 rfl ?_
        rw [if_neg (by omega), if_pos (by omega)]
        exact ⟨rfl, hl, tk_fr.rf⟩
  · skip
    refine tr_aload_n (pc := 5) dX9_book_5 rfl (by decide) ?_
    refine tr_getr (pc := 6) (x := 1) dX9_book_6 fi9_12 rfl sg0 rfl ?_
    refine tr_getr (pc := 9) (x := 16) dX9_book_9 fi9_305 rfl sg1 rfl ?_
    refine tr_cVv0 (pc := 12) dX9_book_12 mtX5_empty lv9_277 rfl sg16 kc5 ⟨(Nat.le_of_ble_eq_true rfl), (Nat.le_of_ble_eq_true rfl)⟩ nlX5_empty (Nat.le_of_ble_eq_true rfl) ⟨(Nat.le_of_ble_eq_true rfl), (Nat.le_of_ble_eq_true rfl)⟩ (sp_X5_empty rw_s16) (fun M12 h12 => ?_)
    obtain rfl := h12.symm
    refine tr_iconst (pc := 15) dX9_book_15 ⟨by decide, by decide⟩ ?_
    refine tr_ireti (pc := 16) dX9_book_16 rfl ?_
    rw [if_pos (by omega)]
    exact ⟨rfl, rw_empty_at hl, tk_fr.rf.mu (by omega) (by omega)⟩
theorem sp_X9_image {G : tk_G} {M : tk_M} {T T0 : td_T} (h1 : td_at M 1 T) (h2 : td_at M 20 T0) : Spi G FX9_image [xR 0] SF M (fun v M' => v = (T.1.length : Int) + T.2.1.length ∧ td_at M' 20 T ∧ M' 0 2 = 1 ∧ ∀ c : Int, c ≠ 0 → (c < 21 ∨ 39 ≤ c) → M' c = M c) := by
  have l1 : M 2 2 = (T.1.length : Int) ∧ (T.1.length : Int) ≤ 6 := h1.1.len
  have l2 : M 5 2 = (T.2.1.length : Int) ∧ (T.2.1.length : Int) ≤ 6 := h1.2.1.len
  refine Spi.of _ mtX9_image nlX9_image (Nat.le_of_ble_eq_true rfl) ?_
  show Ok G FX9_image 0 [xR 0] [] SF M 0 0 _
  refine tr_aload_n (pc := 0) dX9_image_0 rfl (by decide) ?_
  refine tr_getr (pc := 1) (x := 20) dX9_image_1 fi9_18 rfl sg0 rfl ?_
  refine tr_aload_n (pc := 4) dX9_image_4 rfl (by decide) ?_
  refine tr_getr (pc := 5) (x := 1) dX9_image_5 fi9_12 rfl sg0 rfl ?_
  refine tr_cVv1 (pc := 8) dX9_image_8 mtX8_copy lv9_325 rfl sg20 kc8 ⟨(Nat.le_of_ble_eq_true rfl), (Nat.le_of_ble_eq_true rfl)⟩ nlX8_copy (Nat.le_of_ble_eq_true rfl) ⟨(Nat.le_of_ble_eq_true rfl), (Nat.le_of_ble_eq_true rfl)⟩ (sp_X8_copy td_s20 td_s1 (by omega) h1 h2) (fun M8 h8 => ?_)
  obtain ⟨a1, f1⟩ := h8
  have e2 : M8 2 = M 2 := f1 2 (by omega)
  have e5 : M8 5 = M 5 := f1 5 (by omega)
  have k2 : tk_mu M8 0 2 1 2 = M 2 := by rw [tk_mu_c (by omega)]; exact e2
  have k5 : tk_mu M8 0 2 1 5 = M 5 := by rw [tk_mu_c (by omega)]; exact e5
  refine tr_aload_n (pc := 11) dX9_image_11 rfl (by decide) ?_
  refine tr_iconst (pc := 12) dX9_image_12 ⟨by decide, by decide⟩ ?_
  refine tr_puti (pc := 13) (ji := 2) dX9_image_13 fi9_21 rfl (Or.inl rfl) (Or.inr ⟨rfl, by omega⟩) sg0 rfl ?_
  refine tr_aload_n (pc := 16) dX9_image_16 rfl (by decide) ?_
  refine tr_getr (pc := 17) (x := 1) dX9_image_17 fi9_12 rfl sg0 rfl ?_
  refine tr_cVi0 (pc := 20) dX9_image_20 mtX8_countGenerators lv9_327 rfl sg1 kc8 ⟨(Nat.le_of_ble_eq_true rfl), (Nat.le_of_ble_eq_true rfl)⟩ nlX8_countGenerators (Nat.le_of_ble_eq_true rfl) ⟨(Nat.le_of_ble_eq_true rfl), (Nat.le_of_ble_eq_true rfl)⟩ (sp_X8_countGenerators (t := 1) td_s1 (by show 0 ≤ tk_mu M8 0 2 1 2 2; rw [k2]; omega) (by show tk_mu M8 0 2 1 2 2 ≤ 6; rw [k2]; omega) (by show 0 ≤ tk_mu M8 0 2 1 5 2; rw [k5]; omega) (by show tk_mu M8 0 2 1 5 2 ≤ 6; rw [k5]; omega)) (fun r20 M20 h20 => ?_)
  obtain ⟨hr20, hM20⟩ := h20
  obtain rfl := hr20.symm
  obtain rfl := hM20.symm
  refine tr_ireti (pc := 23) dX9_image_23 rfl ?_
  refine ⟨?_, a1.frame (lo := 0) (hi := 1) (tk_fr.rf.mu (by omega) (by omega)) (by omega), tk_mu_at _ _ _ _, fun c h3 h4 => (tk_mu_c h3).trans (f1 c (by omega))⟩
  show tk_mu M8 0 2 1 2 2 + tk_mu M8 0 2 1 5 2 = _
  rw [k2, k5]; omega
theorem sp_X9_undo {G : tk_G} {M : tk_M} {T T0 : td_T} {D : List (Int × List (Int × Int))} (h1 : td_at M 1 T0) (h2 : td_at M 20 T) (hD : dd_at M D) (ht : M 0 2 = 0 ∨ M 0 2 = 1) : Spi G FX9_undo [xR 0] SF M (fun v M' => (M 0 2 = 0 ∧ v = -3 ∧ M' = M) ∨ (M 0 2 = 1 ∧ v = (T.1.length : Int) + T.2.1.length ∧ td_at M' 1 T ∧ dd_at M' [] ∧ ∀ c : Int, (c < 2 ∨ 20 ≤ c) → c ≠ 39 → M' c = M c)) := by
  refine Spi.of _ mtX9_undo nlX9_undo (Nat.le_of_ble_eq_true rfl) ?_
  show Ok G FX9_undo 0 [xR 0] [] SF M 0 0 _
  refine tr_aload_n (pc := 0) dX9_undo_0 rfl (by decide) ?_
  refine tr_geti (pc := 1) (ji := 2) dX9_undo_1 fi9_21 rfl sg0 rfl ?_
  refine tr_ifne (pc := 4) (tgt := 10) dX9_undo_4 (by decide) (fun c4 => ?_) (fun c4 => ?_)
  · skip
    refine tr_aload_n (pc := 10) dX9_undo_10 rfl (by decide) ?_
    refine tr_getr (pc := 11) (x := 1) dX9_undo_11 fi9_12 rfl sg0 rfl ?_
    refine tr_aload_n (pc := 14) dX9_undo_14 rfl (by decide) ?_
    refine tr_getr (pc := 15) (x := 20) dX9_undo_15 fi9_18 rfl sg0 rfl ?_
    refine tr_cVv1 (pc := 18) dX9_undo_18 mtX8_copy lv9_325 rfl sg1 kc8 ⟨(Nat.le_of_ble_eq_true rfl), (Nat.le_of_ble_eq_true rfl)⟩ nlX8_copy (Nat.le_of_ble_eq_true rfl) ⟨(Nat.le_of_ble_eq_true rfl), (Nat.le_of_ble_eq_true rfl)⟩ (sp_X8_copy td_s1 td_s20 (by omega) h2 h1) (fun M18 h18 => ?_)
    obtain ⟨a1, f1⟩ := h18
    have l1 := a1.1.len
    have l2 := a1.2.1.len
    have hD1 : dd_at M18 D := hD.frame (fun c h3 h4 => f1 c (by omega))
    refine tr_aload_n (pc := 21) dX9_undo_21 rfl (by decide) ?_
    refine tr_getr (pc := 22) (x := 39) dX9_undo_22 fi9_28 rfl sg0 rfl ?_
    refine tr_cVv0 (pc := 25) dX9_undo_25 mtX0_forget lv9_330 rfl sg39 kc0 ⟨(Nat.le_of_ble_eq_true rfl), (Nat.le_of_ble_eq_true rfl)⟩ nlX0_forget (Nat.le_of_ble_eq_true rfl) ⟨(Nat.le_of_ble_eq_true rfl), (Nat.le_of_ble_eq_true rfl)⟩ (sp_X0_forget) (fun M25 h25 => ?_)
    obtain rfl := h25.symm
    have a2 := a1.frame (lo := 39) (hi := 40) (tk_fr.rf.mu (c := 39) (i := 3) (v := 0) (by omega) (by omega)) (by omega)
    have l3 := a2.1.len
    have l4 := a2.2.1.len
    refine tr_aload_n (pc := 28) dX9_undo_28 rfl (by decide) ?_
    refine tr_getr (pc := 29) (x := 1) dX9_undo_29 fi9_12 rfl sg0 rfl ?_
    refine tr_cVi0 (pc := 32) dX9_undo_32 mtX8_countGenerators lv9_327 rfl sg1 kc8 ⟨(Nat.le_of_ble_eq_true rfl), (Nat.le_of_ble_eq_true rfl)⟩ nlX8_countGenerators (Nat.le_of_ble_eq_true rfl) ⟨(Nat.le_of_ble_eq_true rfl), (Nat.le_of_ble_eq_true rfl)⟩ (sp_X8_countGenerators (t := 1) td_s1 (by omega) (by omega) (by omega) (by omega)) (fun r32 M32 h32 => ?_)
    obtain ⟨hr32, hM32⟩ := h32
    obtain rfl := hr32.symm
    obtain rfl := hM32.symm
    refine tr_ireti (pc := 35) dX9_undo_35 rfl ?_
    exact Or.inr ⟨by omega, by omega, a2, dd_forget hD1, fun c h3 h4 => (tk_mu_c h4).trans (f1 c (by omega))⟩
  · skip
    refine tr_bipush (pc := 7) dX9_undo_7 ⟨by decide, ⟨by decide, by decide⟩⟩ ?_
    refine tr_ireti (pc := 9) dX9_undo_9 rfl ?_
    exact Or.inl ⟨by omega, rfl, rfl⟩
def x_count (a b c d e w : Int) : Int := if w = 0 then a else if w = 1 then b else if w = 2 then c else if w = 3 then d else if w = 4 then e else -2
theorem sp_X9_count {G : tk_G} {M : tk_M} {w : Int} : Spi G FX9_count [xR 0, xI w] SF M (fun v M' => v = x_count (M 8 4) (M 12 4) (M 16 4) (M 72 1) (M 39 3) w ∧ M' = M) := by
  refine Spi.of _ mtX9_count nlX9_count (Nat.le_of_ble_eq_true rfl) ?_
  show Ok G FX9_count 0 [xR 0, xI w] [] SF M 0 0 _
  refine tr_iload_n (pc := 0) dX9_count_0 rfl ?_
  rcases (by omega : w = 0 ∨ w = 1 ∨ w = 2 ∨ w = 3 ∨ w = 4 ∨ (w < 0 ∨ 4 < w)) with c1 | c1 | c1 | c1 | c1 | c1
  · skip
    refine tr_table_in (pc := 1) (x := w) (off := 35) (tgt := 36) dX9_count_1 (by omega) (by omega) (by rw [c1]; rfl) (by decide) ?_
    refine tr_aload_n (pc := 36) dX9_count_36 rfl (by decide) ?_
    refine tr_getr (pc := 37) (x := 1) dX9_count_37 fi9_12 rfl sg0 rfl ?_
    refine tr_getr (pc := 40) (x := 8) dX9_count_40 fi9_273 rfl sg1 rfl ?_
    refine tr_cVi0 (pc := 43) dX9_count_43 mtX5_size lv9_295 rfl sg8 kc5 ⟨(Nat.le_of_ble_eq_true rfl), (Nat.le_of_ble_eq_true rfl)⟩ nlX5_size (Nat.le_of_ble_eq_true rfl) ⟨(Nat.le_of_ble_eq_true rfl), (Nat.le_of_ble_eq_true rfl)⟩ (sp_X5_size rw_s8) (fun r43 M43 h43 => ?_)
    obtain ⟨hr43, hM43⟩ := h43
    obtain rfl := hr43.symm
    obtain rfl := hM43.symm
    refine tr_ireti (pc := 46) dX9_count_46 rfl ?_
    refine ⟨?_, rfl⟩
    unfold x_count
    repeat' split
    all_goals first | rfl | omega
  · skip
    refine tr_table_in (pc := 1) (x := w) (off := 46) (tgt := 47) dX9_count_1 (by omega) (by omega) (by rw [c1]; rfl) (by decide) ?_
    refine tr_aload_n (pc := 47) dX9_count_47 rfl (by decide) ?_
    refine tr_getr (pc := 48) (x := 1) dX9_count_48 fi9_12 rfl sg0 rfl ?_
    refine tr_getr (pc := 51) (x := 12) dX9_count_51 fi9_289 rfl sg1 rfl ?_
    refine tr_cVi0 (pc := 54) dX9_count_54 mtX5_size lv9_295 rfl sg12 kc5 ⟨(Nat.le_of_ble_eq_true rfl), (Nat.le_of_ble_eq_true rfl)⟩ nlX5_size (Nat.le_of_ble_eq_true rfl) ⟨(Nat.le_of_ble_eq_true rfl), (Nat.le_of_ble_eq_true rfl)⟩ (sp_X5_size rw_s12) (fun r54 M54 h54 => ?_)
    obtain ⟨hr54, hM54⟩ := h54
    obtain rfl := hr54.symm
    obtain rfl := hM54.symm
    refine tr_ireti (pc := 57) dX9_count_57 rfl ?_
    refine ⟨?_, rfl⟩
    unfold x_count
    repeat' split
    all_goals first | rfl | omega
  · skip
    refine tr_table_in (pc := 1) (x := w) (off := 57) (tgt := 58) dX9_count_1 (by omega) (by omega) (by rw [c1]; rfl) (by decide) ?_
    refine tr_aload_n (pc := 58) dX9_count_58 rfl (by decide) ?_
    refine tr_getr (pc := 59) (x := 1) dX9_count_59 fi9_12 rfl sg0 rfl ?_
    refine tr_getr (pc := 62) (x := 16) dX9_count_62 fi9_305 rfl sg1 rfl ?_
    refine tr_cVi0 (pc := 65) dX9_count_65 mtX5_size lv9_295 rfl sg16 kc5 ⟨(Nat.le_of_ble_eq_true rfl), (Nat.le_of_ble_eq_true rfl)⟩ nlX5_size (Nat.le_of_ble_eq_true rfl) ⟨(Nat.le_of_ble_eq_true rfl), (Nat.le_of_ble_eq_true rfl)⟩ (sp_X5_size rw_s16) (fun r65 M65 h65 => ?_)
    obtain ⟨hr65, hM65⟩ := h65
    obtain rfl := hr65.symm
    obtain rfl := hM65.symm
    refine tr_ireti (pc := 68) dX9_count_68 rfl ?_
    refine ⟨?_, rfl⟩
    unfold x_count
    repeat' split
    all_goals first | rfl | omega
  · skip
    refine tr_table_in (pc := 1) (x := w) (off := 68) (tgt := 69) dX9_count_1 (by omega) (by omega) (by rw [c1]; rfl) (by decide) ?_
    refine tr_aload_n (pc := 69) dX9_count_69 rfl (by decide) ?_
    refine tr_getr (pc := 70) (x := 72) dX9_count_70 fi9_35 rfl sg0 rfl ?_
    refine tr_cVi0 (pc := 73) dX9_count_73 mtX7_size lv9_150 rfl sg72 kc7 ⟨(Nat.le_of_ble_eq_true rfl), (Nat.le_of_ble_eq_true rfl)⟩ nlX7_size (Nat.le_of_ble_eq_true rfl) ⟨(Nat.le_of_ble_eq_true rfl), (Nat.le_of_ble_eq_true rfl)⟩ (sp_X7_size) (fun r73 M73 h73 => ?_)
    obtain ⟨hr73, hM73⟩ := h73
    obtain rfl := hr73.symm
    obtain rfl := hM73.symm
    refine tr_ireti (pc := 76) dX9_count_76 rfl ?_
    refine ⟨?_, rfl⟩
    unfold x_count
    repeat' split
    all_goals first | rfl | omega
  · skip
    refine tr_table_in (pc := 1) (x := w) (off := 76) (tgt := 77) dX9_count_1 (by omega) (by omega) (by rw [c1]; rfl) (by decide) ?_
    refine tr_aload_n (pc := 77) dX9_count_77 rfl (by decide) ?_
    refine tr_getr (pc := 78) (x := 39) dX9_count_78 fi9_28 rfl sg0 rfl ?_
    refine tr_cVi0 (pc := 81) dX9_count_81 mtX0_size lv9_139 rfl sg39 kc0 ⟨(Nat.le_of_ble_eq_true rfl), (Nat.le_of_ble_eq_true rfl)⟩ nlX0_size (Nat.le_of_ble_eq_true rfl) ⟨(Nat.le_of_ble_eq_true rfl), (Nat.le_of_ble_eq_true rfl)⟩ (sp_X0_size) (fun r81 M81 h81 => ?_)
    obtain ⟨hr81, hM81⟩ := h81
    obtain rfl := hr81.symm
    obtain rfl := hM81.symm
    refine tr_ireti (pc := 84) dX9_count_84 rfl ?_
    refine ⟨?_, rfl⟩
    unfold x_count
    repeat' split
    all_goals first | rfl | omega
  · skip
    refine tr_table_out (pc := 1) (x := w) (tgt := 85) dX9_count_1 (by omega) (by decide) ?_
    refine tr_bipush (pc := 85) dX9_count_85 ⟨by decide, ⟨by decide, by decide⟩⟩ ?_
    refine tr_ireti (pc := 87) dX9_count_87 rfl ?_
    refine ⟨?_, rfl⟩
    unfold x_count
    repeat' split
    all_goals first | rfl | omega
/-- TAPES are well -/
def tp_ok (M : tk_M) : Prop := ∀ i : Int, 0 ≤ i → i < 6 → (-1 ≤ M (75 + 2 * i) 1 ∧ M (75 + 2 * i) 1 ≤ 4) ∧ (0 ≤ M (75 + 2 * i) 2 ∧ M (75 + 2 * i) 2 ≤ 60) ∧ (M (75 + 2 * i) 1 = -1 → M (75 + 2 * i) 2 = 0)
theorem sp_X9_tape {G : tk_G} {M : tk_M} {t s n : Int} : Spi G FX9_tape [xR 0, xI t, xI s, xI n] SF M (fun v M' => (¬ (0 ≤ t ∧ t ≤ 5) ∧ v = -1 ∧ M' = M) ∨ ((0 ≤ t ∧ t ≤ 5) ∧ s ≠ -1 ∧ (¬ (0 ≤ s ∧ s ≤ 4) ∨ 60 < n) ∧ v = -2 ∧ M' = M) ∨ ((0 ≤ t ∧ t ≤ 5) ∧ (0 ≤ s ∧ s ≤ 4) ∧ n < 0 ∧ v = -14 ∧ M' = M) ∨ ((0 ≤ t ∧ t ≤ 5) ∧ v = 1 ∧ (s = -1 ∨ (0 ≤ s ∧ s ≤ 4) ∧ 0 ≤ n ∧ n ≤ 60) ∧ M' (75 + 2 * t) 1 = s ∧ M' (75 + 2 * t) 2 = (if s = -1 then 0 else n) ∧ (∀ i, 0 ≤ i → i < (if s = -1 then 0 else n) → M' (76 + 2 * t) i = 0) ∧ tk_fr M M' (75 + 2 * t) (77 + 2 * t))) := by
  refine Spi.of _ mtX9_tape nlX9_tape (Nat.le_of_ble_eq_true rfl) ?_
  show Ok G FX9_tape 0 [xR 0, xI t, xI s, xI n] [] SF M 0 0 _
  refine tr_iload_n (pc := 0) dX9_tape_0 rfl ?_
  refine tr_cSi1 (pc := 1) dX9_tape_1 mtX9_noTape ls9_308 rfl ⟨(Nat.le_of_ble_eq_true rfl), (Nat.le_of_ble_eq_true rfl)⟩ nlX9_noTape (Nat.le_of_ble_eq_true rfl) ⟨(Nat.le_of_ble_eq_true rfl), (Nat.le_of_ble_eq_true rfl)⟩ (sp_X9_noTape) (fun r1 M1 h1 => ?_)
  obtain ⟨hr1, hM1⟩ := h1
  obtain rfl := hr1.symm
  obtain rfl := hM1.symm
  refine tr_ifeq (pc := 4) (tgt := 9) dX9_tape_4 (by decide) (fun c4 => ?_) (fun c4 => ?_)
  · skip
    refine tr_iload_n (pc := 9) dX9_tape_9 rfl ?_
    refine tr_iconst (pc := 10) dX9_tape_10 ⟨by decide, by decide⟩ ?_
    refine tr_icmpne (pc := 11) (tgt := 27) dX9_tape_11 (by decide) (fun c11 => ?_) (fun c11 => ?_)
    · skip
      refine tr_iload_n (pc := 27) dX9_tape_27 rfl ?_
      refine tr_iflt (pc := 28) (tgt := 42) dX9_tape_28 (by decide) (fun c28 => ?_) (fun c28 => ?_)
      · skip
        refine tr_bipush (pc := 42) dX9_tape_42 ⟨by decide, ⟨by decide, by decide⟩⟩ ?_
        refine tr_ireti (pc := 44) dX9_tape_44 rfl ?_
        exact Or.inr (Or.inl ⟨by omega, by omega, by omega, rfl, rfl⟩)
      · skip
        refine tr_iload_n (pc := 31) dX9_tape_31 rfl ?_
        refine tr_iconst (pc := 32) dX9_tape_32 ⟨by decide, by decide⟩ ?_
        refine tr_icmpgt (pc := 33) (tgt := 42) dX9_tape_33 (by decide) (fun c33 => ?_) (fun c33 => ?_)
        · skip
          refine tr_bipush (pc := 42) dX9_tape_42 ⟨by decide, ⟨by decide, by decide⟩⟩ ?_
          refine tr_ireti (pc := 44) dX9_tape_44 rfl ?_
          exact Or.inr (Or.inl ⟨by omega, by omega, by omega, rfl, rfl⟩)
        · skip
          refine tr_iload_n (pc := 36) dX9_tape_36 rfl ?_
          refine tr_bipush (pc := 37) dX9_tape_37 ⟨by decide, ⟨by decide, by decide⟩⟩ ?_
          refine tr_icmple (pc := 39) (tgt := 45) dX9_tape_39 (by decide) (fun c39 => ?_) (fun c39 => ?_)
          · skip
            refine tr_iload_n (pc := 45) dX9_tape_45 rfl ?_
            refine tr_ifge (pc := 46) (tgt := 52) dX9_tape_46 (by decide) (fun c46 => ?_) (fun c46 => ?_)
            · skip
              refine tr_aload_n (pc := 52) dX9_tape_52 rfl (by decide) ?_
              refine tr_getr (pc := 53) (x := 74) dX9_tape_53 fi9_41 rfl sg0 rfl ?_
              refine tr_iload_n (pc := 56) dX9_tape_56 rfl ?_
              refine tr_aald (pc := 57) (x := 75 + 2 * t) dX9_tape_57 sg74 (by decide) (by omega) (by omega) (tp_get (by omega) (by omega)) ?_
              refine tr_iload_n (pc := 58) dX9_tape_58 rfl ?_
              refine tr_iload_n (pc := 59) dX9_tape_59 rfl ?_
              refine tr_cVv2 (pc := 60) dX9_tape_60 mtX6_become lv9_333 rfl (tp_s_t (i := t) (by omega) (by omega)).2.1 kc6 ⟨(Nat.le_of_ble_eq_true rfl), (Nat.le_of_ble_eq_true rfl)⟩ nlX6_become (Nat.le_of_ble_eq_true rfl) ⟨(Nat.le_of_ble_eq_true rfl), (Nat.le_of_ble_eq_true rfl)⟩ (sp_X6_become (tp_s_t (by omega) (by omega))) (fun M60 h60 => ?_)
              obtain ⟨q1, q2, q3, q4⟩ := h60
              refine tr_iconst (pc := 63) dX9_tape_63 ⟨by decide, by decide⟩ ?_
              refine tr_ireti (pc := 64) dX9_tape_64 rfl ?_
              refine Or.inr (Or.inr (Or.inr ⟨by omega, rfl, Or.inr (by omega), q1, ?_, ?_, q4.mono (by omega) (by omega)⟩))
              · rw [if_neg (by omega)]; omega
              · intro i i0 i1
                rw [if_neg (by omega)] at i1
                rw [show 76 + 2 * t = 75 + 2 * t + 1 by omega]; exact q3 i i0 (by omega)
            · skip
              refine tr_bipush (pc := 49) dX9_tape_49 ⟨by decide, ⟨by decide, by decide⟩⟩ ?_
              refine tr_ireti (pc := 51) dX9_tape_51 rfl ?_
              exact Or.inr (Or.inr (Or.inl ⟨by omega, by omega, by omega, rfl, rfl⟩))
          · skip
            refine tr_bipush (pc := 42) dX9_tape_42 ⟨by decide, ⟨by decide, by decide⟩⟩ ?_
            refine tr_ireti (pc := 44) dX9_tape_44 rfl ?_
            exact Or.inr (Or.inl ⟨by omega, by omega, by omega, rfl, rfl⟩)
    · skip
      refine tr_aload_n (pc := 14) dX9_tape_14 rfl (by decide) ?_
      refine tr_getr (pc := 15) (x := 74) dX9_tape_15 fi9_41 rfl sg0 rfl ?_
      refine tr_iload_n (pc := 18) dX9_tape_18 rfl ?_
      refine tr_aald (pc := 19) (x := 75 + 2 * t) dX9_tape_19 sg74 (by decide) (by omega) (by omega) (tp_get (by omega) (by omega)) ?_
      refine tr_iconst (pc := 20) dX9_tape_20 ⟨by decide, by decide⟩ ?_
      refine tr_iconst (pc := 21) dX9_tape_21 ⟨by decide, by decide⟩ ?_
      refine tr_cVv2 (pc := 22) dX9_tape_22 mtX6_become lv9_333 rfl (tp_s_t (i := t) (by omega) (by omega)).2.1 kc6 ⟨(Nat.le_of_ble_eq_true rfl), (Nat.le_of_ble_eq_true rfl)⟩ nlX6_become (Nat.le_of_ble_eq_true rfl) ⟨(Nat.le_of_ble_eq_true rfl), (Nat.le_of_ble_eq_true rfl)⟩ (sp_X6_become (tp_s_t (by omega) (by omega))) (fun M22 h22 => ?_)
      obtain ⟨q1, q2, q3, q4⟩ := h22
      refine tr_iconst (pc := 25) dX9_tape_25 ⟨by decide, by decide⟩ ?_
      refine tr_ireti (pc := 26) dX9_tape_26 rfl ?_
      refine Or.inr (Or.inr (Or.inr ⟨by omega, rfl, Or.inl (by omega), by omega, ?_, ?_, q4.mono (by omega) (by omega)⟩))
      · rw [if_pos (by omega)]; omega
      · intro i i0 i1
        rw [if_pos (by omega)] at i1; omega
  · skip
    refine tr_iconst (pc := 7) dX9_tape_7 ⟨by decide, by decide⟩ ?_
    refine tr_ireti (pc := 8) dX9_tape_8 rfl ?_
    exact Or.inl ⟨by omega, rfl, rfl⟩
theorem sp_X9_item {G : tk_G} {M : tk_M} {t i x : Int} (hT : tp_ok M) : Spi G FX9_item [xR 0, xI t, xI i, xL x] SF M (fun v M' => (¬ (0 ≤ t ∧ t ≤ 5) ∧ v = -1 ∧ M' = M) ∨ ((0 ≤ t ∧ t ≤ 5) ∧ M (75 + 2 * t) 1 = -1 ∧ v = -11 ∧ M' = M) ∨ ((0 ≤ t ∧ t ≤ 5) ∧ M (75 + 2 * t) 1 ≠ -1 ∧ ¬ (0 ≤ i ∧ i < M (75 + 2 * t) 2) ∧ v = -13 ∧ M' = M) ∨ ((0 ≤ t ∧ t ≤ 5) ∧ M (75 + 2 * t) 1 ≠ -1 ∧ (0 ≤ i ∧ i < M (75 + 2 * t) 2) ∧ v = 1 ∧ M' = tk_mu M (76 + 2 * t) i (tp_nar (M (75 + 2 * t) 1) x))) := by
  refine Spi.of _ mtX9_item nlX9_item (Nat.le_of_ble_eq_true rfl) ?_
  show Ok G FX9_item 0 [xR 0, xI t, xI i, xL x, xU, xU] [] SF M 0 0 _
  refine tr_rng (j := 2) rfl (fun hi => ?_)
  unfold tk_r32 at hi
  refine tr_iload_n (pc := 0) dX9_item_0 rfl ?_
  refine tr_cSi1 (pc := 1) dX9_item_1 mtX9_noTape ls9_308 rfl ⟨(Nat.le_of_ble_eq_true rfl), (Nat.le_of_ble_eq_true rfl)⟩ nlX9_noTape (Nat.le_of_ble_eq_true rfl) ⟨(Nat.le_of_ble_eq_true rfl), (Nat.le_of_ble_eq_true rfl)⟩ (sp_X9_noTape) (fun r1 M1 h1 => ?_)
  obtain ⟨hr1, hM1⟩ := h1
  obtain rfl := hr1.symm
  obtain rfl := hM1.symm
  refine tr_ifeq (pc := 4) (tgt := 9) dX9_item_4 (by decide) (fun c4 => ?_) (fun c4 => ?_)
  · skip
    have hTt := hT t (by omega) (by omega)
    refine tr_aload_n (pc := 9) dX9_item_9 rfl (by decide) ?_
    refine tr_getr (pc := 10) (x := 74) dX9_item_10 fi9_41 rfl sg0 rfl ?_
    refine tr_iload_n (pc := 13) dX9_item_13 rfl ?_
    refine tr_aald (pc := 14) (x := 75 + 2 * t) dX9_item_14 sg74 (by decide) (by omega) (by omega) (tp_get (by omega) (by omega)) ?_
    refine tr_astore (pc := 15) dX9_item_15 rfl (Nat.le_of_ble_eq_true rfl) (by omega) ?_
    dsimp only [List.set]
    refine tr_aload (pc := 17) dX9_item_17 rfl (by omega) ?_
    refine tr_cVi0 (pc := 19) dX9_item_19 mtX6_isNothing lv9_311 rfl (tp_s_t (i := t) (by omega) (by omega)).2.1 kc6 ⟨(Nat.le_of_ble_eq_true rfl), (Nat.le_of_ble_eq_true rfl)⟩ nlX6_isNothing (Nat.le_of_ble_eq_true rfl) ⟨(Nat.le_of_ble_eq_true rfl), (Nat.le_of_ble_eq_true rfl)⟩ (sp_X6_isNothing (tp_s_t (by omega) (by omega))) (fun r19 M19 h19 => ?_)
    obtain ⟨hr19, hM19⟩ := h19
    obtain rfl := hr19.symm
    obtain rfl := hM19.symm
    refine tr_ifeq (pc := 22) (tgt := 28) dX9_item_22 (by decide) (fun c22 => ?_) (fun c22 => ?_)
    · skip
      refine tr_aload (pc := 28) dX9_item_28 rfl (by omega) ?_
      refine tr_iload_n (pc := 30) dX9_item_30 rfl ?_
      refine tr_i2l (pc := 31) dX9_item_31 ?_
      refine tr_lconst (pc := 32) (x := 1) dX9_item_32 (by decide) ⟨by decide, by decide⟩ ?_
      refine tr_cVi2 (pc := 33) dX9_item_33 mtX6_hasRange lv9_317 rfl (tp_s_t (i := t) (by omega) (by omega)).2.1 kc6 ⟨(Nat.le_of_ble_eq_true rfl), (Nat.le_of_ble_eq_true rfl)⟩ nlX6_hasRange (Nat.le_of_ble_eq_true rfl) ⟨(Nat.le_of_ble_eq_true rfl), (Nat.le_of_ble_eq_true rfl)⟩ (sp_X6_hasRange (tp_s_t (by omega) (by omega)) (by omega) (by omega)) (fun r33 M33 h33 => ?_)
      obtain ⟨hr33, hM33⟩ := h33
      obtain rfl := hr33.symm
      obtain rfl := hM33.symm
      refine tr_ifne (pc := 36) (tgt := 42) dX9_item_36 (by decide) (fun c36 => ?_) (fun c36 => ?_)
      · skip
        refine tr_aload (pc := 42) dX9_item_42 rfl (by omega) ?_
        refine tr_iload_n (pc := 44) dX9_item_44 rfl ?_
        refine tr_lload_n (pc := 45) dX9_item_45 rfl ?_
        refine tr_cVv2 (pc := 46) dX9_item_46 mtX6_set lv9_336 rfl (tp_s_t (i := t) (by omega) (by omega)).2.1 kc6 ⟨(Nat.le_of_ble_eq_true rfl), (Nat.le_of_ble_eq_true rfl)⟩ nlX6_set (Nat.le_of_ble_eq_true rfl) ⟨(Nat.le_of_ble_eq_true rfl), (Nat.le_of_ble_eq_true rfl)⟩ (sp_X6_set (tp_s_t (by omega) (by omega)) (by omega) (by omega) (by omega)) (fun M46 h46 => ?_)
        obtain rfl := h46.symm
        refine tr_iconst (pc := 49) dX9_item_49 ⟨by decide, by decide⟩ ?_
        refine tr_ireti (pc := 50) dX9_item_50 rfl ?_
        refine Or.inr (Or.inr (Or.inr ⟨by omega, by omega, by omega, rfl, ?_⟩))
        rw [show 76 + 2 * t = 75 + 2 * t + 1 by omega]
      · skip
        refine tr_bipush (pc := 39) dX9_item_39 ⟨by decide, ⟨by decide, by decide⟩⟩ ?_
        refine tr_ireti (pc := 41) dX9_item_41 rfl ?_
        exact Or.inr (Or.inr (Or.inl ⟨by omega, by omega, by omega, rfl, rfl⟩))
    · skip
      refine tr_bipush (pc := 25) dX9_item_25 ⟨by decide, ⟨by decide, by decide⟩⟩ ?_
      refine tr_ireti (pc := 27) dX9_item_27 rfl ?_
      exact Or.inr (Or.inl ⟨by omega, by omega, rfl, rfl⟩)
  · skip
    refine tr_iconst (pc := 7) dX9_item_7 ⟨by decide, by decide⟩ ?_
    refine tr_ireti (pc := 8) dX9_item_8 rfl ?_
    exact Or.inl ⟨by omega, rfl, rfl⟩
theorem sp_X9_peek {G : tk_G} {M : tk_M} {t i : Int} (hT : tp_ok M) : Spl G FX9_peek [xR 0, xI t, xI i] SF M (fun v M' => v = (if (0 ≤ t ∧ t ≤ 5) ∧ (0 ≤ i ∧ i < M (75 + 2 * t) 2) then M (76 + 2 * t) i else NOl) ∧ M' = M) := by
  refine Spl.of _ mtX9_peek nlX9_peek (Nat.le_of_ble_eq_true rfl) ?_
  show Ok G FX9_peek 0 [xR 0, xI t, xI i] [] SF M 0 0 _
  refine tr_rng (j := 2) rfl (fun hi => ?_)
  unfold tk_r32 at hi
  refine tr_iload_n (pc := 0) dX9_peek_0 rfl ?_
  refine tr_cSi1 (pc := 1) dX9_peek_1 mtX9_noTape ls9_308 rfl ⟨(Nat.le_of_ble_eq_true rfl), (Nat.le_of_ble_eq_true rfl)⟩ nlX9_noTape (Nat.le_of_ble_eq_true rfl) ⟨(Nat.le_of_ble_eq_true rfl), (Nat.le_of_ble_eq_true rfl)⟩ (sp_X9_noTape) (fun r1 M1 h1 => ?_)
  obtain ⟨hr1, hM1⟩ := h1
  obtain rfl := hr1.symm
  obtain rfl := hM1.symm
  refine tr_ifne (pc := 4) (tgt := 22) dX9_peek_4 (by decide) (fun c4 => ?_) (fun c4 => ?_)
  · skip
    refine tr_ldc2 (pc := 22) dX9_peek_22 kn9_230 ⟨by decide, by decide⟩ ?_
    refine tr_lret (pc := 25) dX9_peek_25 rfl ?_
    first
    | rw [if_neg (by omega)]
      exact ⟨rfl, rfl⟩
    | rw [if_pos (by omega), show 76 + 2 * t = 75 + 2 * t + 1 by omega]
      exact ⟨rfl, rfl⟩
  · skip
    have hTt := hT t (by omega) (by omega)
    refine tr_aload_n (pc := 7) dX9_peek_7 rfl (by decide) ?_
    refine tr_getr (pc := 8) (x := 74) dX9_peek_8 fi9_41 rfl sg0 rfl ?_
    refine tr_iload_n (pc := 11) dX9_peek_11 rfl ?_
    refine tr_aald (pc := 12) (x := 75 + 2 * t) dX9_peek_12 sg74 (by decide) (by omega) (by omega) (tp_get (by omega) (by omega)) ?_
    refine tr_iload_n (pc := 13) dX9_peek_13 rfl ?_
    refine tr_i2l (pc := 14) dX9_peek_14 ?_
    refine tr_lconst (pc := 15) (x := 1) dX9_peek_15 (by decide) ⟨by decide, by decide⟩ ?_
    refine tr_cVi2 (pc := 16) dX9_peek_16 mtX6_hasRange lv9_317 rfl (tp_s_t (i := t) (by omega) (by omega)).2.1 kc6 ⟨(Nat.le_of_ble_eq_true rfl), (Nat.le_of_ble_eq_true rfl)⟩ nlX6_hasRange (Nat.le_of_ble_eq_true rfl) ⟨(Nat.le_of_ble_eq_true rfl), (Nat.le_of_ble_eq_true rfl)⟩ (sp_X6_hasRange (tp_s_t (by omega) (by omega)) (by omega) (by omega)) (fun r16 M16 h16 => ?_)
    obtain ⟨hr16, hM16⟩ := h16
    obtain rfl := hr16.symm
    obtain rfl := hM16.symm
    refine tr_ifne (pc := 19) (tgt := 26) dX9_peek_19 (by decide) (fun c19 => ?_) (fun c19 => ?_)
    · skip
      refine tr_aload_n (pc := 26) dX9_peek_26 rfl (by decide) ?_
      refine tr_getr (pc := 27) (x := 74) dX9_peek_27 fi9_41 rfl sg0 rfl ?_
      refine tr_iload_n (pc := 30) dX9_peek_30 rfl ?_
      refine tr_aald (pc := 31) (x := 75 + 2 * t) dX9_peek_31 sg74 (by decide) (by omega) (by omega) (tp_get (by omega) (by omega)) ?_
      refine tr_iload_n (pc := 32) dX9_peek_32 rfl ?_
      refine tr_cVl1 (pc := 33) dX9_peek_33 mtX6_get lv9_321 rfl (tp_s_t (i := t) (by omega) (by omega)).2.1 kc6 ⟨(Nat.le_of_ble_eq_true rfl), (Nat.le_of_ble_eq_true rfl)⟩ nlX6_get (Nat.le_of_ble_eq_true rfl) ⟨(Nat.le_of_ble_eq_true rfl), (Nat.le_of_ble_eq_true rfl)⟩ (sp_X6_get (tp_s_t (by omega) (by omega)) (by omega) (by omega) (by omega)) (fun r33 M33 h33 => ?_)
      obtain ⟨hr33, hM33⟩ := h33
      obtain rfl := hr33.symm
      obtain rfl := hM33.symm
      refine tr_lret (pc := 36) dX9_peek_36 rfl ?_
      first
      | rw [if_neg (by omega)]
        exact ⟨rfl, rfl⟩
      | rw [if_pos (by omega), show 76 + 2 * t = 75 + 2 * t + 1 by omega]
        exact ⟨rfl, rfl⟩
    · skip
      refine tr_ldc2 (pc := 22) dX9_peek_22 kn9_230 ⟨by decide, by decide⟩ ?_
      refine tr_lret (pc := 25) dX9_peek_25 rfl ?_
      first
      | rw [if_neg (by omega)]
        exact ⟨rfl, rfl⟩
      | rw [if_pos (by omega), show 76 + 2 * t = 75 + 2 * t + 1 by omega]
        exact ⟨rfl, rfl⟩
theorem sp_X9_shift {G : tk_G} {M : tk_M} {t i u j n : Int} (hT : tp_ok M) : Spi G FX9_shift [xR 0, xI t, xI i, xI u, xI j, xI n] SF M (fun v M' => (¬ ((0 ≤ t ∧ t ≤ 5) ∧ (0 ≤ u ∧ u ≤ 5)) ∧ v = -1 ∧ M' = M) ∨ (((0 ≤ t ∧ t ≤ 5) ∧ (0 ≤ u ∧ u ≤ 5)) ∧ (M (75 + 2 * t) 1 = -1 ∨ M (75 + 2 * u) 1 = -1) ∧ v = -11 ∧ M' = M) ∨ (((0 ≤ t ∧ t ≤ 5) ∧ (0 ≤ u ∧ u ≤ 5)) ∧ (M (75 + 2 * t) 1 ≠ -1 ∧ M (75 + 2 * u) 1 ≠ -1) ∧ M (75 + 2 * t) 1 ≠ M (75 + 2 * u) 1 ∧ v = -12 ∧ M' = M) ∨ (((0 ≤ t ∧ t ≤ 5) ∧ (0 ≤ u ∧ u ≤ 5)) ∧ (M (75 + 2 * t) 1 ≠ -1 ∧ M (75 + 2 * u) 1 = M (75 + 2 * t) 1) ∧ ¬ (0 ≤ n ∧ (0 ≤ i ∧ i + n ≤ M (75 + 2 * t) 2) ∧ (0 ≤ j ∧ j + n ≤ M (75 + 2 * u) 2)) ∧ v = -13 ∧ M' = M) ∨ (((0 ≤ t ∧ t ≤ 5) ∧ (0 ≤ u ∧ u ≤ 5)) ∧ (M (75 + 2 * t) 1 ≠ -1 ∧ M (75 + 2 * u) 1 = M (75 + 2 * t) 1) ∧ (0 ≤ n ∧ (0 ≤ i ∧ i + n ≤ M (75 + 2 * t) 2) ∧ (0 ≤ j ∧ j + n ≤ M (75 + 2 * u) 2)) ∧ v = n ∧ M' = tk_cp M (76 + 2 * t) i (76 + 2 * u) j n)) := by
  refine Spi.of _ mtX9_shift nlX9_shift (Nat.le_of_ble_eq_true rfl) ?_
  show Ok G FX9_shift 0 [xR 0, xI t, xI i, xI u, xI j, xI n, xU, xU] [] SF M 0 0 _
  refine tr_rng (j := 2) rfl (fun hi => ?_)
  refine tr_rng (j := 4) rfl (fun hj => ?_)
  refine tr_rng (j := 5) rfl (fun hn => ?_)
  unfold tk_r32 at hi hj hn
  refine tr_iload_n (pc := 0) dX9_shift_0 rfl ?_
  refine tr_cSi1 (pc := 1) dX9_shift_1 mtX9_noTape ls9_308 rfl ⟨(Nat.le_of_ble_eq_true rfl), (Nat.le_of_ble_eq_true rfl)⟩ nlX9_noTape (Nat.le_of_ble_eq_true rfl) ⟨(Nat.le_of_ble_eq_true rfl), (Nat.le_of_ble_eq_true rfl)⟩ (sp_X9_noTape) (fun r1 M1 h1 => ?_)
  obtain ⟨hr1, hM1⟩ := h1
  obtain rfl := hr1.symm
  obtain rfl := hM1.symm
  refine tr_ifne (pc := 4) (tgt := 14) dX9_shift_4 (by decide) (fun c4 => ?_) (fun c4 => ?_)
  · skip
    refine tr_iconst (pc := 14) dX9_shift_14 ⟨by decide, by decide⟩ ?_
    refine tr_ireti (pc := 15) dX9_shift_15 rfl ?_
    exact Or.inl ⟨by omega, rfl, rfl⟩
  · skip
    refine tr_iload_n (pc := 7) dX9_shift_7 rfl ?_
    refine tr_cSi1 (pc := 8) dX9_shift_8 mtX9_noTape ls9_308 rfl ⟨(Nat.le_of_ble_eq_true rfl), (Nat.le_of_ble_eq_true rfl)⟩ nlX9_noTape (Nat.le_of_ble_eq_true rfl) ⟨(Nat.le_of_ble_eq_true rfl), (Nat.le_of_ble_eq_true rfl)⟩ (sp_X9_noTape) (fun r8 M8 h8 => ?_)
    obtain ⟨hr8, hM8⟩ := h8
    obtain rfl := hr8.symm
    obtain rfl := hM8.symm
    refine tr_ifeq (pc := 11) (tgt := 16) dX9_shift_11 (by decide) (fun c11 => ?_) (fun c11 => ?_)
    · skip
      have hTt := hT t (by omega) (by omega)
      have hTu := hT u (by omega) (by omega)
      have st := tp_s_t (i := t) (by omega) (by omega)
      have su := tp_s_t (i := u) (by omega) (by omega)
      refine tr_aload_n (pc := 16) dX9_shift_16 rfl (by decide) ?_
      refine tr_getr (pc := 17) (x := 74) dX9_shift_17 fi9_41 rfl sg0 rfl ?_
      refine tr_iload_n (pc := 20) dX9_shift_20 rfl ?_
      refine tr_aald (pc := 21) (x := 75 + 2 * t) dX9_shift_21 sg74 (by decide) (by omega) (by omega) (tp_get (by omega) (by omega)) ?_
      refine tr_astore (pc := 22) dX9_shift_22 rfl (Nat.le_of_ble_eq_true rfl) (by omega) ?_
      dsimp only [List.set]
      refine tr_aload_n (pc := 24) dX9_shift_24 rfl (by decide) ?_
      refine tr_getr (pc := 25) (x := 74) dX9_shift_25 fi9_41 rfl sg0 rfl ?_
      refine tr_iload_n (pc := 28) dX9_shift_28 rfl ?_
      refine tr_aald (pc := 29) (x := 75 + 2 * u) dX9_shift_29 sg74 (by decide) (by omega) (by omega) (tp_get (by omega) (by omega)) ?_
      refine tr_astore (pc := 30) dX9_shift_30 rfl (Nat.le_of_ble_eq_true rfl) (by omega) ?_
      dsimp only [List.set]
      refine tr_aload (pc := 32) dX9_shift_32 rfl (by omega) ?_
      refine tr_cVi0 (pc := 34) dX9_shift_34 mtX6_isNothing lv9_311 rfl (tp_s_t (i := t) (by omega) (by omega)).2.1 kc6 ⟨(Nat.le_of_ble_eq_true rfl), (Nat.le_of_ble_eq_true rfl)⟩ nlX6_isNothing (Nat.le_of_ble_eq_true rfl) ⟨(Nat.le_of_ble_eq_true rfl), (Nat.le_of_ble_eq_true rfl)⟩ (sp_X6_isNothing st) (fun r34 M34 h34 => ?_)
      obtain ⟨hr34, hM34⟩ := h34
      obtain rfl := hr34.symm
      obtain rfl := hM34.symm
      refine tr_ifne (pc := 37) (tgt := 48) dX9_shift_37 (by decide) (fun c37 => ?_) (fun c37 => ?_)
      · skip
        refine tr_bipush (pc := 48) dX9_shift_48 ⟨by decide, ⟨by decide, by decide⟩⟩ ?_
        refine tr_ireti (pc := 50) dX9_shift_50 rfl ?_
        exact Or.inr (Or.inl ⟨by omega, by omega, rfl, rfl⟩)
      · skip
        refine tr_aload (pc := 40) dX9_shift_40 rfl (by omega) ?_
        refine tr_cVi0 (pc := 42) dX9_shift_42 mtX6_isNothing lv9_311 rfl (tp_s_t (i := u) (by omega) (by omega)).2.1 kc6 ⟨(Nat.le_of_ble_eq_true rfl), (Nat.le_of_ble_eq_true rfl)⟩ nlX6_isNothing (Nat.le_of_ble_eq_true rfl) ⟨(Nat.le_of_ble_eq_true rfl), (Nat.le_of_ble_eq_true rfl)⟩ (sp_X6_isNothing su) (fun r42 M42 h42 => ?_)
        obtain ⟨hr42, hM42⟩ := h42
        obtain rfl := hr42.symm
        obtain rfl := hM42.symm
        refine tr_ifeq (pc := 45) (tgt := 51) dX9_shift_45 (by decide) (fun c45 => ?_) (fun c45 => ?_)
        · skip
          refine tr_aload (pc := 51) dX9_shift_51 rfl (by omega) ?_
          refine tr_cVi0 (pc := 53) dX9_shift_53 mtX6_sort lv9_314 rfl (tp_s_t (i := t) (by omega) (by omega)).2.1 kc6 ⟨(Nat.le_of_ble_eq_true rfl), (Nat.le_of_ble_eq_true rfl)⟩ nlX6_sort (Nat.le_of_ble_eq_true rfl) ⟨(Nat.le_of_ble_eq_true rfl), (Nat.le_of_ble_eq_true rfl)⟩ (sp_X6_sort st) (fun r53 M53 h53 => ?_)
          obtain ⟨hr53, hM53⟩ := h53
          obtain rfl := hr53.symm
          obtain rfl := hM53.symm
          refine tr_aload (pc := 56) dX9_shift_56 rfl (by omega) ?_
          refine tr_cVi0 (pc := 58) dX9_shift_58 mtX6_sort lv9_314 rfl (tp_s_t (i := u) (by omega) (by omega)).2.1 kc6 ⟨(Nat.le_of_ble_eq_true rfl), (Nat.le_of_ble_eq_true rfl)⟩ nlX6_sort (Nat.le_of_ble_eq_true rfl) ⟨(Nat.le_of_ble_eq_true rfl), (Nat.le_of_ble_eq_true rfl)⟩ (sp_X6_sort su) (fun r58 M58 h58 => ?_)
          obtain ⟨hr58, hM58⟩ := h58
          obtain rfl := hr58.symm
          obtain rfl := hM58.symm
          refine tr_icmpeq (pc := 61) (tgt := 67) dX9_shift_61 (by decide) (fun c61 => ?_) (fun c61 => ?_)
          · skip
            refine tr_aload (pc := 67) dX9_shift_67 rfl (by omega) ?_
            refine tr_iload_n (pc := 69) dX9_shift_69 rfl ?_
            refine tr_i2l (pc := 70) dX9_shift_70 ?_
            refine tr_iload (pc := 71) dX9_shift_71 rfl ?_
            refine tr_i2l (pc := 73) dX9_shift_73 ?_
            refine tr_cVi2 (pc := 74) dX9_shift_74 mtX6_hasRange lv9_317 rfl (tp_s_t (i := t) (by omega) (by omega)).2.1 kc6 ⟨(Nat.le_of_ble_eq_true rfl), (Nat.le_of_ble_eq_true rfl)⟩ nlX6_hasRange (Nat.le_of_ble_eq_true rfl) ⟨(Nat.le_of_ble_eq_true rfl), (Nat.le_of_ble_eq_true rfl)⟩ (sp_X6_hasRange st (by omega) (by omega)) (fun r74 M74 h74 => ?_)
            obtain ⟨hr74, hM74⟩ := h74
            obtain rfl := hr74.symm
            obtain rfl := hM74.symm
            refine tr_ifeq (pc := 77) (tgt := 94) dX9_shift_77 (by decide) (fun c77 => ?_) (fun c77 => ?_)
            · skip
              refine tr_bipush (pc := 94) dX9_shift_94 ⟨by decide, ⟨by decide, by decide⟩⟩ ?_
              refine tr_ireti (pc := 96) dX9_shift_96 rfl ?_
              exact Or.inr (Or.inr (Or.inr (Or.inl ⟨by omega, by omega, by omega, rfl, rfl⟩)))
            · skip
              refine tr_aload (pc := 80) dX9_shift_80 rfl (by omega) ?_
              refine tr_iload (pc := 82) dX9_shift_82 rfl ?_
              refine tr_i2l (pc := 84) dX9_shift_84 ?_
              refine tr_iload (pc := 85) dX9_shift_85 rfl ?_
              refine tr_i2l (pc := 87) dX9_shift_87 ?_
              refine tr_cVi2 (pc := 88) dX9_shift_88 mtX6_hasRange lv9_317 rfl (tp_s_t (i := u) (by omega) (by omega)).2.1 kc6 ⟨(Nat.le_of_ble_eq_true rfl), (Nat.le_of_ble_eq_true rfl)⟩ nlX6_hasRange (Nat.le_of_ble_eq_true rfl) ⟨(Nat.le_of_ble_eq_true rfl), (Nat.le_of_ble_eq_true rfl)⟩ (sp_X6_hasRange su (by omega) (by omega)) (fun r88 M88 h88 => ?_)
              obtain ⟨hr88, hM88⟩ := h88
              obtain rfl := hr88.symm
              obtain rfl := hM88.symm
              refine tr_ifne (pc := 91) (tgt := 97) dX9_shift_91 (by decide) (fun c91 => ?_) (fun c91 => ?_)
              · skip
                refine tr_aload (pc := 97) dX9_shift_97 rfl (by omega) ?_
                refine tr_iload (pc := 99) dX9_shift_99 rfl ?_
                refine tr_aload (pc := 101) dX9_shift_101 rfl (by omega) ?_
                refine tr_iload_n (pc := 103) dX9_shift_103 rfl ?_
                refine tr_iload (pc := 104) dX9_shift_104 rfl ?_
                refine tr_cVv4 (pc := 106) dX9_shift_106 mtX6_take lv9_340 rfl (tp_s_t (i := u) (by omega) (by omega)).2.1 kc6 ⟨(Nat.le_of_ble_eq_true rfl), (Nat.le_of_ble_eq_true rfl)⟩ nlX6_take (Nat.le_of_ble_eq_true rfl) ⟨(Nat.le_of_ble_eq_true rfl), (Nat.le_of_ble_eq_true rfl)⟩ (sp_X6_take su st (by omega) (by omega) (by omega) (by omega) (by omega) (by omega) (by omega)) (fun M106 h106 => ?_)
                obtain rfl := h106.symm
                refine tr_iload (pc := 109) dX9_shift_109 rfl ?_
                refine tr_ireti (pc := 111) dX9_shift_111 rfl ?_
                refine Or.inr (Or.inr (Or.inr (Or.inr ⟨by omega, by omega, by omega, rfl, ?_⟩)))
                rw [show 76 + 2 * t = 75 + 2 * t + 1 by omega, show 76 + 2 * u = 75 + 2 * u + 1 by omega]
              · skip
                refine tr_bipush (pc := 94) dX9_shift_94 ⟨by decide, ⟨by decide, by decide⟩⟩ ?_
                refine tr_ireti (pc := 96) dX9_shift_96 rfl ?_
                exact Or.inr (Or.inr (Or.inr (Or.inl ⟨by omega, by omega, by omega, rfl, rfl⟩)))
          · skip
            refine tr_bipush (pc := 64) dX9_shift_64 ⟨by decide, ⟨by decide, by decide⟩⟩ ?_
            refine tr_ireti (pc := 66) dX9_shift_66 rfl ?_
            exact Or.inr (Or.inr (Or.inl ⟨by omega, by omega, by omega, rfl, rfl⟩))
        · skip
          refine tr_bipush (pc := 48) dX9_shift_48 ⟨by decide, ⟨by decide, by decide⟩⟩ ?_
          refine tr_ireti (pc := 50) dX9_shift_50 rfl ?_
          exact Or.inr (Or.inl ⟨by omega, by omega, rfl, rfl⟩)
    · skip
      refine tr_iconst (pc := 14) dX9_shift_14 ⟨by decide, by decide⟩ ?_
      refine tr_ireti (pc := 15) dX9_shift_15 rfl ?_
      exact Or.inl ⟨by omega, rfl, rfl⟩
/-- HEIGHTS told by a row, judged -/
def x_jd (f : Int → Int) (h : Int → Int) (n p : Int) : Nat → Int → Int
  | 0, _ => -5
  | d + 1, a => if ¬ (0 ≤ p + a ∧ p + a < n) then 100 + a else if f (p + a) = h a then x_jd f h n p d (a + 1) else a
theorem sp_X9_judge {G : tk_G} {M : tk_M} {C : cC} {i t p : Int} (hC : Cg M C) (hT : tp_ok M) : Spi G FX9_judge [xR 0, xI i, xI t, xI p] SF M (fun v M' => v = (if ¬ ((0 ≤ i ∧ i ≤ 1) ∧ (0 ≤ t ∧ t ≤ 5)) then -1 else if 0 < M (75 + 2 * t) 1 then -12 else x_jd (M (76 + 2 * t)) (fun a => ig_low a (-5) (csel i C)) (M (75 + 2 * t) 2) p 10 0) ∧ M' = M) := by
  have hsel := hC.sel i
  have hrs := rid_s i
  have hrr := rid_r i
  have hrq := hrs.2.1
  refine Spi.of _ mtX9_judge nlX9_judge (Nat.le_of_ble_eq_true rfl) ?_
  show Ok G FX9_judge 0 [xR 0, xI i, xI t, xI p, xU, xU, xU, xU] [] SF M 0 0 _
  refine tr_rng (j := 3) rfl (fun hp => ?_)
  unfold tk_r32 at hp
  have loop : (0 ≤ t ∧ t ≤ 5) → ∀ (d : Nat) (a : Int) (v6 v7 : tk_V), tk_sto [xR 0, xI i, xI t, xI p, xR (75 + 2 * t), xI a, v6, v7] 6 = true → a + d = 10 → 0 ≤ a → Ok G FX9_judge 46 [xR 0, xI i, xI t, xI p, xR (75 + 2 * t), xI a, v6, v7] [] SF M 0 0 (tk_qi SF (fun v M' => v = x_jd (M (76 + 2 * t)) (fun a => ig_low a (-5) (csel i C)) (M (75 + 2 * t) 2) p d a ∧ M' = M)) := by
    intro ht d
    have hTt := hT t (by omega) (by omega)
    have st := tp_s_t (i := t) (by omega) (by omega)
    have st1 := st.2.1
    induction d with
    | zero =>
      intro a v6 v7 hsto hd ha
      refine tr_iload (pc := 46) dX9_judge_46 rfl ?_
      refine tr_bipush (pc := 48) dX9_judge_48 ⟨by decide, ⟨by decide, by decide⟩⟩ ?_
      refine tr_icmpgt (pc := 50) (tgt := 113) dX9_judge_50 (by decide) (fun c50 => ?_) (fun c50 => absurd c50 (by omega))
      refine tr_bipush (pc := 113) dX9_judge_113 ⟨by decide, ⟨by decide, by decide⟩⟩ ?_
      refine tr_ireti (pc := 115) dX9_judge_115 rfl ?_
      exact ⟨rfl, rfl⟩
    | succ d ih =>
      intro a v6 v7 hsto hd ha
      have hb : 0 ≤ p + a → p + a < M (75 + 2 * t) 2 → (p + a).bmod (2 ^ 32) = p + a := fun h1 h2 => Int.bmod_eq_of_le (by omega) (by omega)
      refine tr_iload (pc := 46) dX9_judge_46 rfl ?_
      refine tr_bipush (pc := 48) dX9_judge_48 ⟨by decide, ⟨by decide, by decide⟩⟩ ?_
      refine tr_icmpgt (pc := 50) (tgt := 113) dX9_judge_50 (by decide) (fun c50 => absurd c50 (by omega)) (fun c50 => ?_)
      refine tr_iload_n (pc := 53) dX9_judge_53 rfl ?_
      refine tr_i2l (pc := 54) dX9_judge_54 ?_
      refine tr_iload (pc := 55) dX9_judge_55 rfl ?_
      refine tr_i2l (pc := 57) dX9_judge_57 ?_
      refine tr_ladd (pc := 58) dX9_judge_58 ⟨by omega, by omega⟩ ?_
      refine tr_lstore (pc := 59) dX9_judge_59 rfl (Nat.le_of_ble_eq_true rfl) ?_
      dsimp only [List.set]
      refine tr_aload (pc := 61) dX9_judge_61 rfl (by omega) ?_
      refine tr_lload (pc := 63) dX9_judge_63 rfl ?_
      refine tr_lconst (pc := 65) (x := 1) dX9_judge_65 (by decide) ⟨by decide, by decide⟩ ?_
      refine tr_cVi2 (pc := 66) dX9_judge_66 mtX6_hasRange lv9_317 rfl st1 kc6 ⟨(Nat.le_of_ble_eq_true rfl), (Nat.le_of_ble_eq_true rfl)⟩ nlX6_hasRange (Nat.le_of_ble_eq_true rfl) ⟨(Nat.le_of_ble_eq_true rfl), (Nat.le_of_ble_eq_true rfl)⟩ (sp_X6_hasRange st (by omega) (by omega)) (fun r66 M66 h66 => ?_)
      obtain ⟨hr66, hM66⟩ := h66
      obtain rfl := hr66.symm
      obtain rfl := hM66.symm
      refine tr_ifne (pc := 69) (tgt := 78) dX9_judge_69 (by decide) (fun c69 => ?_) (fun c69 => ?_)
      · skip
        refine tr_aload (pc := 78) dX9_judge_78 rfl (by omega) ?_
        refine tr_lload (pc := 80) dX9_judge_80 rfl ?_
        refine tr_l2i (pc := 82) dX9_judge_82 ?_
        rw [hb (by omega) (by omega)]
        refine tr_cVl1 (pc := 83) dX9_judge_83 mtX6_get lv9_321 rfl st1 kc6 ⟨(Nat.le_of_ble_eq_true rfl), (Nat.le_of_ble_eq_true rfl)⟩ nlX6_get (Nat.le_of_ble_eq_true rfl) ⟨(Nat.le_of_ble_eq_true rfl), (Nat.le_of_ble_eq_true rfl)⟩ (sp_X6_get st (by omega) (by omega) (by omega)) (fun r83 M83 h83 => ?_)
        obtain ⟨hr83, hM83⟩ := h83
        obtain rfl := hr83.symm
        obtain rfl := hM83.symm
        refine tr_aload_n (pc := 86) dX9_judge_86 rfl (by decide) ?_
        refine tr_getr (pc := 87) (x := 1) dX9_judge_87 fi9_12 rfl sg0 rfl ?_
        refine tr_iload_n (pc := 90) dX9_judge_90 rfl ?_
        refine tr_cVr1 (pc := 91) dX9_judge_91 mtX8_ideal lv9_85 rfl sg1 kc8 ⟨(Nat.le_of_ble_eq_true rfl), (Nat.le_of_ble_eq_true rfl)⟩ nlX8_ideal (Nat.le_of_ble_eq_true rfl) ⟨(Nat.le_of_ble_eq_true rfl), (Nat.le_of_ble_eq_true rfl)⟩ (sp_now) (fun r91 M91 h91 => ?_)
        obtain ⟨hr91, hM91⟩ := h91
        obtain rfl := hr91.symm
        obtain rfl := hM91.symm
        refine tr_iload (pc := 94) dX9_judge_94 rfl ?_
        refine tr_cVi1 (pc := 96) dX9_judge_96 mtX3_lowestB lv9_252 rfl hrq kc3 ⟨(Nat.le_of_ble_eq_true rfl), (Nat.le_of_ble_eq_true rfl)⟩ nlX3_lowestB (Nat.le_of_ble_eq_true rfl) ⟨(Nat.le_of_ble_eq_true rfl), (Nat.le_of_ble_eq_true rfl)⟩ (sp_X3_lowestB hrs hsel) (fun r96 M96 h96 => ?_)
        obtain ⟨hr96, hM96⟩ := h96
        obtain rfl := hr96.symm
        obtain rfl := hM96.symm
        refine tr_i2l (pc := 99) dX9_judge_99 ?_
        refine tr_lceq (pc := 100) (tgt := 107) dX9_judge_100 dX9_judge_101 (by decide) (fun c100 => ?_) (fun c100 => ?_)
        · skip
          refine tr_iinc (pc := 107) dX9_judge_107 rfl rfl ⟨by omega, by omega⟩ ?_
          dsimp only [List.set]
          refine tr_goto (pc := 110) (tgt := 46) dX9_judge_110 (by decide) ?_
          unfold x_jd
          rw [if_neg (by omega), if_pos (by rw [show 76 + 2 * t = 75 + 2 * t + 1 by omega]; assumption)]
          exact ih (a + 1) _ _ rfl (by omega) (by omega)
        · skip
          refine tr_iload (pc := 104) dX9_judge_104 rfl ?_
          refine tr_ireti (pc := 106) dX9_judge_106 rfl ?_
          refine ⟨?_, rfl⟩
          unfold x_jd
          rw [if_neg (by omega), if_neg (by rw [show 76 + 2 * t = 75 + 2 * t + 1 by omega]; assumption)]
      · skip
        refine tr_bipush (pc := 72) dX9_judge_72 ⟨by decide, ⟨by decide, by decide⟩⟩ ?_
        refine tr_iload (pc := 74) dX9_judge_74 rfl ?_
        refine tr_iadd (pc := 76) dX9_judge_76 ⟨by omega, by omega⟩ ?_
        refine tr_ireti (pc := 77) dX9_judge_77 rfl ?_
        refine ⟨?_, rfl⟩
        unfold x_jd
        rw [if_pos (by omega)]
  refine tr_iload_n (pc := 0) dX9_judge_0 rfl ?_
  refine tr_cSi1 (pc := 1) dX9_judge_1 mtX9_noIdeal ls9_77 rfl ⟨(Nat.le_of_ble_eq_true rfl), (Nat.le_of_ble_eq_true rfl)⟩ nlX9_noIdeal (Nat.le_of_ble_eq_true rfl) ⟨(Nat.le_of_ble_eq_true rfl), (Nat.le_of_ble_eq_true rfl)⟩ (sp_X9_noIdeal) (fun r1 M1 h1 => ?_)
  obtain ⟨hr1, hM1⟩ := h1
  obtain rfl := hr1.symm
  obtain rfl := hM1.symm
  refine tr_ifne (pc := 4) (tgt := 14) dX9_judge_4 (by decide) (fun c4 => ?_) (fun c4 => ?_)
  · skip
    refine tr_iconst (pc := 14) dX9_judge_14 ⟨by decide, by decide⟩ ?_
    refine tr_ireti (pc := 15) dX9_judge_15 rfl ?_
    rw [if_pos (by omega)]
    exact ⟨rfl, rfl⟩
  · skip
    refine tr_iload_n (pc := 7) dX9_judge_7 rfl ?_
    refine tr_cSi1 (pc := 8) dX9_judge_8 mtX9_noTape ls9_308 rfl ⟨(Nat.le_of_ble_eq_true rfl), (Nat.le_of_ble_eq_true rfl)⟩ nlX9_noTape (Nat.le_of_ble_eq_true rfl) ⟨(Nat.le_of_ble_eq_true rfl), (Nat.le_of_ble_eq_true rfl)⟩ (sp_X9_noTape) (fun r8 M8 h8 => ?_)
    obtain ⟨hr8, hM8⟩ := h8
    obtain rfl := hr8.symm
    obtain rfl := hM8.symm
    refine tr_ifeq (pc := 11) (tgt := 16) dX9_judge_11 (by decide) (fun c11 => ?_) (fun c11 => ?_)
    · skip
      have hTt := hT t (by omega) (by omega)
      refine tr_aload_n (pc := 16) dX9_judge_16 rfl (by decide) ?_
      refine tr_getr (pc := 17) (x := 74) dX9_judge_17 fi9_41 rfl sg0 rfl ?_
      refine tr_iload_n (pc := 20) dX9_judge_20 rfl ?_
      refine tr_aald (pc := 21) (x := 75 + 2 * t) dX9_judge_21 sg74 (by decide) (by omega) (by omega) (tp_get (by omega) (by omega)) ?_
      refine tr_astore (pc := 22) dX9_judge_22 rfl (Nat.le_of_ble_eq_true rfl) (by omega) ?_
      dsimp only [List.set]
      refine tr_aload (pc := 24) dX9_judge_24 rfl (by omega) ?_
      refine tr_cVi0 (pc := 26) dX9_judge_26 mtX6_isNothing lv9_311 rfl (tp_s_t (i := t) (by omega) (by omega)).2.1 kc6 ⟨(Nat.le_of_ble_eq_true rfl), (Nat.le_of_ble_eq_true rfl)⟩ nlX6_isNothing (Nat.le_of_ble_eq_true rfl) ⟨(Nat.le_of_ble_eq_true rfl), (Nat.le_of_ble_eq_true rfl)⟩ (sp_X6_isNothing (tp_s_t (by omega) (by omega))) (fun r26 M26 h26 => ?_)
      obtain ⟨hr26, hM26⟩ := h26
      obtain rfl := hr26.symm
      obtain rfl := hM26.symm
      refine tr_ifne (pc := 29) (tgt := 43) dX9_judge_29 (by decide) (fun c29 => ?_) (fun c29 => ?_)
      · skip
        refine tr_iconst (pc := 43) dX9_judge_43 ⟨by decide, by decide⟩ ?_
        refine tr_istore (pc := 44) dX9_judge_44 rfl (Nat.le_of_ble_eq_true rfl) ?_
        dsimp only [List.set]
        rw [if_neg (by omega), if_neg (by omega)]
        exact loop (by omega) 10 0 _ _ rfl (by omega) (by omega)
      · skip
        refine tr_aload (pc := 32) dX9_judge_32 rfl (by omega) ?_
        refine tr_cVi0 (pc := 34) dX9_judge_34 mtX6_sort lv9_314 rfl (tp_s_t (i := t) (by omega) (by omega)).2.1 kc6 ⟨(Nat.le_of_ble_eq_true rfl), (Nat.le_of_ble_eq_true rfl)⟩ nlX6_sort (Nat.le_of_ble_eq_true rfl) ⟨(Nat.le_of_ble_eq_true rfl), (Nat.le_of_ble_eq_true rfl)⟩ (sp_X6_sort (tp_s_t (by omega) (by omega))) (fun r34 M34 h34 => ?_)
        obtain ⟨hr34, hM34⟩ := h34
        obtain rfl := hr34.symm
        obtain rfl := hM34.symm
        refine tr_ifeq (pc := 37) (tgt := 43) dX9_judge_37 (by decide) (fun c37 => ?_) (fun c37 => ?_)
        · skip
          refine tr_iconst (pc := 43) dX9_judge_43 ⟨by decide, by decide⟩ ?_
          refine tr_istore (pc := 44) dX9_judge_44 rfl (Nat.le_of_ble_eq_true rfl) ?_
          dsimp only [List.set]
          rw [if_neg (by omega), if_neg (by omega)]
          exact loop (by omega) 10 0 _ _ rfl (by omega) (by omega)
        · skip
          refine tr_bipush (pc := 40) dX9_judge_40 ⟨by decide, ⟨by decide, by decide⟩⟩ ?_
          refine tr_ireti (pc := 42) dX9_judge_42 rfl ?_
          rw [if_neg (by omega), if_pos (by omega)]
          exact ⟨rfl, rfl⟩
    · skip
      refine tr_iconst (pc := 14) dX9_judge_14 ⟨by decide, by decide⟩ ?_
      refine tr_ireti (pc := 15) dX9_judge_15 rfl ?_
      rw [if_pos (by omega)]
      exact ⟨rfl, rfl⟩
