theorem sp_X10_heavy {G : tk_G} {M : tk_M} {f a b s t : Int} (h0 : 0 ≤ f ∧ f < 64) (hs : M 111 f = s) (ht : M 112 f = t) (bs : 0 ≤ s ∧ s ≤ 9) (bt : 0 ≤ t ∧ t ≤ 9) (ha : 0 ≤ a ∧ a ≤ 9) (hb : 0 ≤ b ∧ b ≤ 9) : Spi G FX10_heavy [xR 101, xI f, xI a, xI b] SF M (fun v M' => v = s * (a + 1) + t * (b + 1) ∧ M' = M) := by
  refine Spi.of _ mtX10_heavy nlX10_heavy (Nat.le_of_ble_eq_true rfl) ?_
  show Ok G FX10_heavy 0 [xR 101, xI f, xI a, xI b] [] SF M 0 0 _
  have m1 := mulb bs.1 bs.2 (show 0 ≤ a + 1 by omega) (show a + 1 ≤ 10 by omega)
  have m2 := mulb bt.1 bt.2 (show 0 ≤ b + 1 by omega) (show b + 1 ≤ 10 by omega)
  refine tr_aload_n (pc := 0) dX10_heavy_0 rfl (by decide) ?_
  refine tr_getr (pc := 1) (x := 111) dX10_heavy_1 fi10_39 rfl sg101 rfl ?_
  refine tr_iload_n (pc := 4) dX10_heavy_4 rfl ?_
  refine tr_ialdv (pc := 5) (x := s) dX10_heavy_5 sg111 (by omega) (by omega) (hs) ?_
  refine tr_iload_n (pc := 6) dX10_heavy_6 rfl ?_
  refine tr_iconst (pc := 7) dX10_heavy_7 ⟨by decide, by decide⟩ ?_
  refine tr_iadd (pc := 8) dX10_heavy_8 ⟨by omega, by omega⟩ ?_
  refine tr_imul (pc := 9) dX10_heavy_9 ⟨by omega, by omega⟩ ?_
  refine tr_aload_n (pc := 10) dX10_heavy_10 rfl (by decide) ?_
  refine tr_getr (pc := 11) (x := 112) dX10_heavy_11 fi10_42 rfl sg101 rfl ?_
  refine tr_iload_n (pc := 14) dX10_heavy_14 rfl ?_
  refine tr_ialdv (pc := 15) (x := t) dX10_heavy_15 sg112 (by omega) (by omega) (ht) ?_
  refine tr_iload_n (pc := 16) dX10_heavy_16 rfl ?_
  refine tr_iconst (pc := 17) dX10_heavy_17 ⟨by decide, by decide⟩ ?_
  refine tr_iadd (pc := 18) dX10_heavy_18 ⟨by omega, by omega⟩ ?_
  refine tr_imul (pc := 19) dX10_heavy_19 ⟨by omega, by omega⟩ ?_
  refine tr_iadd (pc := 20) dX10_heavy_20 ⟨by omega, by omega⟩ ?_
  refine tr_ireti (pc := 21) dX10_heavy_21 rfl ?_
  exact ⟨rfl, rfl⟩
theorem sp_X10_barring {G : tk_G} {M : tk_M} {a b num den : Int} {F : List (Int × Int × Int)} (hF : rh_at M F) (ha : 0 ≤ a ∧ a ≤ 9) (hb : 0 ≤ b ∧ b ≤ 9) (hn : 1 ≤ num ∧ num ≤ 99) (hd : 1 ≤ den ∧ den ≤ 99) : Spi G FX10_barring [xR 101, xI a, xI b, xI num, xI den] SF M (fun v M' => v = hl_bar a b num den 0 F ∧ M' = M) := by
  refine Spi.of _ mtX10_barring nlX10_barring (Nat.le_of_ble_eq_true rfl) ?_
  show Ok G FX10_barring 0 [xR 101, xI a, xI b, xI num, xI den, xU] [] SF M 0 0 _
  obtain ⟨hF, h64⟩ := hF
  have loop : ∀ (F : List (Int × Int × Int)) (k : Int), 0 ≤ k → hl_seg (M 111) (M 112) (M 113) (M 101 12) k F → Ok G FX10_barring 3 [xR 101, xI a, xI b, xI num, xI den, xI k] [] SF M 0 0 (tk_qi SF (fun v M' => v = hl_bar a b num den k F ∧ M' = M)) := by
    intro F
    induction F with
    | nil =>
      intro k hk hs
      have hs : k = M 101 12 := hs
      refine tr_iload (pc := 3) dX10_barring_3 rfl ?_
      refine tr_aload_n (pc := 5) dX10_barring_5 rfl (by decide) ?_
      refine tr_geti (pc := 6) (ji := 12) dX10_barring_6 fi10_221 rfl sg101 rfl ?_
      refine tr_icmpge (pc := 9) (tgt := 54) dX10_barring_9 (by decide) (fun c9 => ?_) (fun c9 => absurd c9 (by omega))
      refine tr_iconst (pc := 54) dX10_barring_54 ⟨by decide, by decide⟩ ?_
      refine tr_ireti (pc := 55) dX10_barring_55 rfl ?_
      exact ⟨rfl, rfl⟩
    | cons q F ih =>
      intro k hk hs
      obtain ⟨s, t, l⟩ := q
      obtain ⟨e1, e2, e3, b1, b2, b3, hlt, hs⟩ := hs
      have m1 := mulb b1.1 b1.2 (show 0 ≤ a + 1 by omega) (show a + 1 ≤ 10 by omega)
      have m2 := mulb b2.1 b2.2 (show 0 ≤ b + 1 by omega) (show b + 1 ≤ 10 by omega)
      have m3 := mulb (x := s * (a + 1) + t * (b + 1)) (X := 180) (y := den) (Y := 99) (by omega) (by omega) (by omega) hd.2
      have m4 := mulb (x := num) (X := 99) (y := l) (Y := 162) (by omega) hn.2 b3.1 b3.2
      unfold hl_bar
      refine tr_iload (pc := 3) dX10_barring_3 rfl ?_
      refine tr_aload_n (pc := 5) dX10_barring_5 rfl (by decide) ?_
      refine tr_geti (pc := 6) (ji := 12) dX10_barring_6 fi10_221 rfl sg101 rfl ?_
      refine tr_icmpge (pc := 9) (tgt := 54) dX10_barring_9 (by decide) (fun c9 => absurd c9 (by omega)) (fun c9 => ?_)
      refine tr_aload_n (pc := 12) dX10_barring_12 rfl (by decide) ?_
      refine tr_getr (pc := 13) (x := 113) dX10_barring_13 fi10_45 rfl sg101 rfl ?_
      refine tr_iload (pc := 16) dX10_barring_16 rfl ?_
      refine tr_ialdv (pc := 18) (x := l) dX10_barring_18 sg113 (by omega) (by omega) (e3) ?_
      refine tr_ifle (pc := 19) (tgt := 48) dX10_barring_19 (by decide) (fun c19 => ?_) (fun c19 => ?_)
      · skip
        refine tr_iinc (pc := 48) dX10_barring_48 rfl rfl ⟨by omega, by omega⟩ ?_
        dsimp only [List.set]
        refine tr_goto (pc := 51) (tgt := 3) dX10_barring_51 (by decide) ?_
        rw [if_neg (show ¬ (0 < l ∧ (s * (a + 1) + t * (b + 1)) * den ≤ num * l) by omega)]
        exact ih (k + 1) (by omega) hs
      · skip
        refine tr_aload_n (pc := 22) dX10_barring_22 rfl (by decide) ?_
        refine tr_iload (pc := 23) dX10_barring_23 rfl ?_
        refine tr_iload_n (pc := 25) dX10_barring_25 rfl ?_
        refine tr_iload_n (pc := 26) dX10_barring_26 rfl ?_
        refine tr_cVi3 (pc := 27) dX10_barring_27 mtX10_heavy lv10_260 rfl sg101 kc10 ⟨(Nat.le_of_ble_eq_true rfl), (Nat.le_of_ble_eq_true rfl)⟩ nlX10_heavy (Nat.le_of_ble_eq_true rfl) ⟨(Nat.le_of_ble_eq_true rfl), (Nat.le_of_ble_eq_true rfl)⟩ (sp_X10_heavy (by omega) e1 e2 b1 b2 ha hb) (fun r27 M27 h27 => ?_)
        obtain ⟨hr27, hM27⟩ := h27
        obtain rfl := hr27.symm
        obtain rfl := hM27.symm
        refine tr_iload (pc := 30) dX10_barring_30 rfl ?_
        refine tr_imul (pc := 32) dX10_barring_32 ⟨by omega, by omega⟩ ?_
        refine tr_iload_n (pc := 33) dX10_barring_33 rfl ?_
        refine tr_aload_n (pc := 34) dX10_barring_34 rfl (by decide) ?_
        refine tr_getr (pc := 35) (x := 113) dX10_barring_35 fi10_45 rfl sg101 rfl ?_
        refine tr_iload (pc := 38) dX10_barring_38 rfl ?_
        refine tr_ialdv (pc := 40) (x := l) dX10_barring_40 sg113 (by omega) (by omega) (e3) ?_
        refine tr_imul (pc := 41) dX10_barring_41 ⟨by omega, by omega⟩ ?_
        refine tr_icmpgt (pc := 42) (tgt := 48) dX10_barring_42 (by decide) (fun c42 => ?_) (fun c42 => ?_)
        · skip
          refine tr_iinc (pc := 48) dX10_barring_48 rfl rfl ⟨by omega, by omega⟩ ?_
          dsimp only [List.set]
          refine tr_goto (pc := 51) (tgt := 3) dX10_barring_51 (by decide) ?_
          rw [if_neg (show ¬ (0 < l ∧ (s * (a + 1) + t * (b + 1)) * den ≤ num * l) by omega)]
          exact ih (k + 1) (by omega) hs
        · skip
          refine tr_iload (pc := 45) dX10_barring_45 rfl ?_
          refine tr_ireti (pc := 47) dX10_barring_47 rfl ?_
          exact ⟨(if_pos (by omega)).symm, rfl⟩
  refine tr_iconst (pc := 0) dX10_barring_0 ⟨by decide, by decide⟩ ?_
  refine tr_istore (pc := 1) dX10_barring_1 rfl (Nat.le_of_ble_eq_true rfl) ?_
  dsimp only [List.set]
  exact loop F 0 (by omega) hF
theorem sp_X10_jumpFace {G : tk_G} {M : tk_M} {a b : Int} {F : List (Int × Int × Int)} (hF : rh_at M F) (ha : 0 ≤ a ∧ a ≤ 9) (hb : 0 ≤ b ∧ b ≤ 9) : Spi G FX10_jumpFace [xR 101, xI a, xI b] SF M (fun v M' => v = (hl_tgt a b 0 (-1, 0, 0) F).1 ∧ M' = M) := by
  refine Spi.of _ mtX10_jumpFace nlX10_jumpFace (Nat.le_of_ble_eq_true rfl) ?_
  show Ok G FX10_jumpFace 0 [xR 101, xI a, xI b, xU, xU] [] SF M 0 0 _
  obtain ⟨hF, h64⟩ := hF
  have loop : ∀ (F : List (Int × Int × Int)) (k be w lv : Int), 0 ≤ k → (be = -1 ∨ ((0 ≤ be ∧ be < k) ∧ (∃ s t, M 111 be = s ∧ M 112 be = t ∧ (0 ≤ s ∧ s ≤ 9) ∧ (0 ≤ t ∧ t ≤ 9) ∧ s * (a + 1) + t * (b + 1) = w) ∧ M 113 be = lv ∧ (0 < lv ∧ lv ≤ 162))) → hl_seg (M 111) (M 112) (M 113) (M 101 12) k F → Ok G FX10_jumpFace 5 [xR 101, xI a, xI b, xI be, xI k] [] SF M 0 0 (tk_qi SF (fun v M' => v = (hl_tgt a b k (be, w, lv) F).1 ∧ M' = M)) := by
    intro F
    induction F with
    | nil =>
      intro k be w lv hk hbe hs
      have hs : k = M 101 12 := hs
      refine tr_iload (pc := 5) dX10_jumpFace_5 rfl ?_
      refine tr_aload_n (pc := 7) dX10_jumpFace_7 rfl (by decide) ?_
      refine tr_geti (pc := 8) (ji := 12) dX10_jumpFace_8 fi10_221 rfl sg101 rfl ?_
      refine tr_icmpge (pc := 11) (tgt := 71) dX10_jumpFace_11 (by decide) (fun c11 => ?_) (fun c11 => absurd c11 (by omega))
      refine tr_iload_n (pc := 71) dX10_jumpFace_71 rfl ?_
      refine tr_ireti (pc := 72) dX10_jumpFace_72 rfl ?_
      exact ⟨rfl, rfl⟩
    | cons q F ih =>
      intro k be w lv hk hbe hs
      obtain ⟨s, t, l⟩ := q
      obtain ⟨e1, e2, e3, b1, b2, b3, hlt, hs⟩ := hs
      have m1 := mulb b1.1 b1.2 (show 0 ≤ a + 1 by omega) (show a + 1 ≤ 10 by omega)
      have m2 := mulb b2.1 b2.2 (show 0 ≤ b + 1 by omega) (show b + 1 ≤ 10 by omega)
      unfold hl_tgt
      rcases hbe with hbe | ⟨hb1, ⟨s0, t0, u1, u2, u3, u4, u5⟩, u6, u7⟩
      · subst hbe
        refine tr_iload (pc := 5) dX10_jumpFace_5 rfl ?_
        refine tr_aload_n (pc := 7) dX10_jumpFace_7 rfl (by decide) ?_
        refine tr_geti (pc := 8) (ji := 12) dX10_jumpFace_8 fi10_221 rfl sg101 rfl ?_
        refine tr_icmpge (pc := 11) (tgt := 71) dX10_jumpFace_11 (by decide) (fun c11 => absurd c11 (by omega)) (fun c11 => ?_)
        refine tr_aload_n (pc := 14) dX10_jumpFace_14 rfl (by decide) ?_
        refine tr_getr (pc := 15) (x := 113) dX10_jumpFace_15 fi10_45 rfl sg101 rfl ?_
        refine tr_iload (pc := 18) dX10_jumpFace_18 rfl ?_
        refine tr_ialdv (pc := 20) (x := l) dX10_jumpFace_20 sg113 (by omega) (by omega) (e3) ?_
        refine tr_ifle (pc := 21) (tgt := 65) dX10_jumpFace_21 (by decide) (fun c21 => ?_) (fun c21 => ?_)
        · skip
          refine tr_iinc (pc := 65) dX10_jumpFace_65 rfl rfl ⟨by omega, by omega⟩ ?_
          dsimp only [List.set]
          refine tr_goto (pc := 68) (tgt := 5) dX10_jumpFace_68 (by decide) ?_
          first
          | rw [if_neg (show ¬ (0 < l ∧ ((-1 : Int) < 0 ∨ (s * (a + 1) + t * (b + 1)) * lv < w * l)) by omega)]
            exact ih (k + 1) (-1) w lv (by omega) (Or.inl rfl) hs
          | rw [if_pos (show 0 < l ∧ ((-1 : Int) < 0 ∨ (s * (a + 1) + t * (b + 1)) * lv < w * l) from ⟨by omega, Or.inl (by decide)⟩)]
            exact ih (k + 1) k _ l (by omega) (Or.inr ⟨by omega, ⟨s, t, e1, e2, b1, b2, rfl⟩, e3, by omega⟩) hs
        · skip
          refine tr_iload_n (pc := 24) dX10_jumpFace_24 rfl ?_
          refine tr_iconst (pc := 25) dX10_jumpFace_25 ⟨by decide, by decide⟩ ?_
          refine tr_icmpeq (pc := 26) (tgt := 62) dX10_jumpFace_26 (by decide) (fun c26 => ?_) (fun c26 => absurd c26 (by omega))
          refine tr_iload (pc := 62) dX10_jumpFace_62 rfl ?_
          refine tr_istore_n (pc := 64) dX10_jumpFace_64 rfl (Nat.le_of_ble_eq_true rfl) ?_
          dsimp only [List.set]
          refine tr_iinc (pc := 65) dX10_jumpFace_65 rfl rfl ⟨by omega, by omega⟩ ?_
          dsimp only [List.set]
          refine tr_goto (pc := 68) (tgt := 5) dX10_jumpFace_68 (by decide) ?_
          first
          | rw [if_neg (show ¬ (0 < l ∧ ((-1 : Int) < 0 ∨ (s * (a + 1) + t * (b + 1)) * lv < w * l)) by omega)]
            exact ih (k + 1) (-1) w lv (by omega) (Or.inl rfl) hs
          | rw [if_pos (show 0 < l ∧ ((-1 : Int) < 0 ∨ (s * (a + 1) + t * (b + 1)) * lv < w * l) from ⟨by omega, Or.inl (by decide)⟩)]
            exact ih (k + 1) k _ l (by omega) (Or.inr ⟨by omega, ⟨s, t, e1, e2, b1, b2, rfl⟩, e3, by omega⟩) hs
      · skip
        have m3 := mulb u3.1 u3.2 (show 0 ≤ a + 1 by omega) (show a + 1 ≤ 10 by omega)
        have m4 := mulb u4.1 u4.2 (show 0 ≤ b + 1 by omega) (show b + 1 ≤ 10 by omega)
        have m5 := mulb (x := s * (a + 1) + t * (b + 1)) (X := 180) (y := lv) (Y := 162) (by omega) (by omega) (by omega) u7.2
        have m6 := mulb (x := w) (X := 180) (y := l) (Y := 162) (by omega) (by omega) b3.1 b3.2
        rw [← u5] at m6
        refine tr_iload (pc := 5) dX10_jumpFace_5 rfl ?_
        refine tr_aload_n (pc := 7) dX10_jumpFace_7 rfl (by decide) ?_
        refine tr_geti (pc := 8) (ji := 12) dX10_jumpFace_8 fi10_221 rfl sg101 rfl ?_
        refine tr_icmpge (pc := 11) (tgt := 71) dX10_jumpFace_11 (by decide) (fun c11 => absurd c11 (by omega)) (fun c11 => ?_)
        refine tr_aload_n (pc := 14) dX10_jumpFace_14 rfl (by decide) ?_
        refine tr_getr (pc := 15) (x := 113) dX10_jumpFace_15 fi10_45 rfl sg101 rfl ?_
        refine tr_iload (pc := 18) dX10_jumpFace_18 rfl ?_
        refine tr_ialdv (pc := 20) (x := l) dX10_jumpFace_20 sg113 (by omega) (by omega) (e3) ?_
        refine tr_ifle (pc := 21) (tgt := 65) dX10_jumpFace_21 (by decide) (fun c21 => ?_) (fun c21 => ?_)
        · skip
          refine tr_iinc (pc := 65) dX10_jumpFace_65 rfl rfl ⟨by omega, by omega⟩ ?_
          dsimp only [List.set]
          refine tr_goto (pc := 68) (tgt := 5) dX10_jumpFace_68 (by decide) ?_
          subst u5
          first
          | rw [if_neg (show ¬ (0 < l ∧ (be < 0 ∨ (s * (a + 1) + t * (b + 1)) * lv < (s0 * (a + 1) + t0 * (b + 1)) * l)) by omega)]
            exact ih (k + 1) be _ lv (by omega) (Or.inr ⟨by omega, ⟨s0, t0, u1, u2, u3, u4, rfl⟩, u6, u7⟩) hs
          | rw [if_pos (show 0 < l ∧ (be < 0 ∨ (s * (a + 1) + t * (b + 1)) * lv < (s0 * (a + 1) + t0 * (b + 1)) * l) by omega)]
            exact ih (k + 1) k _ l (by omega) (Or.inr ⟨by omega, ⟨s, t, e1, e2, b1, b2, rfl⟩, e3, by omega⟩) hs
        · skip
          refine tr_iload_n (pc := 24) dX10_jumpFace_24 rfl ?_
          refine tr_iconst (pc := 25) dX10_jumpFace_25 ⟨by decide, by decide⟩ ?_
          refine tr_icmpeq (pc := 26) (tgt := 62) dX10_jumpFace_26 (by decide) (fun c26 => absurd c26 (by omega)) (fun c26 => ?_)
          refine tr_aload_n (pc := 29) dX10_jumpFace_29 rfl (by decide) ?_
          refine tr_iload (pc := 30) dX10_jumpFace_30 rfl ?_
          refine tr_iload_n (pc := 32) dX10_jumpFace_32 rfl ?_
          refine tr_iload_n (pc := 33) dX10_jumpFace_33 rfl ?_
          refine tr_cVi3 (pc := 34) dX10_jumpFace_34 mtX10_heavy lv10_260 rfl sg101 kc10 ⟨(Nat.le_of_ble_eq_true rfl), (Nat.le_of_ble_eq_true rfl)⟩ nlX10_heavy (Nat.le_of_ble_eq_true rfl) ⟨(Nat.le_of_ble_eq_true rfl), (Nat.le_of_ble_eq_true rfl)⟩ (sp_X10_heavy (by omega) e1 e2 b1 b2 ha hb) (fun r34 M34 h34 => ?_)
          obtain ⟨hr34, hM34⟩ := h34
          obtain rfl := hr34.symm
          obtain rfl := hM34.symm
          refine tr_aload_n (pc := 37) dX10_jumpFace_37 rfl (by decide) ?_
          refine tr_getr (pc := 38) (x := 113) dX10_jumpFace_38 fi10_45 rfl sg101 rfl ?_
          refine tr_iload_n (pc := 41) dX10_jumpFace_41 rfl ?_
          refine tr_ialdv (pc := 42) (x := lv) dX10_jumpFace_42 sg113 (by omega) (by omega) (u6) ?_
          refine tr_imul (pc := 43) dX10_jumpFace_43 ⟨by omega, by omega⟩ ?_
          refine tr_aload_n (pc := 44) dX10_jumpFace_44 rfl (by decide) ?_
          refine tr_iload_n (pc := 45) dX10_jumpFace_45 rfl ?_
          refine tr_iload_n (pc := 46) dX10_jumpFace_46 rfl ?_
          refine tr_iload_n (pc := 47) dX10_jumpFace_47 rfl ?_
          refine tr_cVi3 (pc := 48) dX10_jumpFace_48 mtX10_heavy lv10_260 rfl sg101 kc10 ⟨(Nat.le_of_ble_eq_true rfl), (Nat.le_of_ble_eq_true rfl)⟩ nlX10_heavy (Nat.le_of_ble_eq_true rfl) ⟨(Nat.le_of_ble_eq_true rfl), (Nat.le_of_ble_eq_true rfl)⟩ (sp_X10_heavy (by omega) u1 u2 u3 u4 ha hb) (fun r48 M48 h48 => ?_)
          obtain ⟨hr48, hM48⟩ := h48
          obtain rfl := hr48.symm
          obtain rfl := hM48.symm
          refine tr_aload_n (pc := 51) dX10_jumpFace_51 rfl (by decide) ?_
          refine tr_getr (pc := 52) (x := 113) dX10_jumpFace_52 fi10_45 rfl sg101 rfl ?_
          refine tr_iload (pc := 55) dX10_jumpFace_55 rfl ?_
          refine tr_ialdv (pc := 57) (x := l) dX10_jumpFace_57 sg113 (by omega) (by omega) (e3) ?_
          refine tr_imul (pc := 58) dX10_jumpFace_58 ⟨by omega, by omega⟩ ?_
          refine tr_icmpge (pc := 59) (tgt := 65) dX10_jumpFace_59 (by decide) (fun c59 => ?_) (fun c59 => ?_)
          · skip
            refine tr_iinc (pc := 65) dX10_jumpFace_65 rfl rfl ⟨by omega, by omega⟩ ?_
            dsimp only [List.set]
            refine tr_goto (pc := 68) (tgt := 5) dX10_jumpFace_68 (by decide) ?_
            subst u5
            first
            | rw [if_neg (show ¬ (0 < l ∧ (be < 0 ∨ (s * (a + 1) + t * (b + 1)) * lv < (s0 * (a + 1) + t0 * (b + 1)) * l)) by omega)]
              exact ih (k + 1) be _ lv (by omega) (Or.inr ⟨by omega, ⟨s0, t0, u1, u2, u3, u4, rfl⟩, u6, u7⟩) hs
            | rw [if_pos (show 0 < l ∧ (be < 0 ∨ (s * (a + 1) + t * (b + 1)) * lv < (s0 * (a + 1) + t0 * (b + 1)) * l) by omega)]
              exact ih (k + 1) k _ l (by omega) (Or.inr ⟨by omega, ⟨s, t, e1, e2, b1, b2, rfl⟩, e3, by omega⟩) hs
          · skip
            refine tr_iload (pc := 62) dX10_jumpFace_62 rfl ?_
            refine tr_istore_n (pc := 64) dX10_jumpFace_64 rfl (Nat.le_of_ble_eq_true rfl) ?_
            dsimp only [List.set]
            refine tr_iinc (pc := 65) dX10_jumpFace_65 rfl rfl ⟨by omega, by omega⟩ ?_
            dsimp only [List.set]
            refine tr_goto (pc := 68) (tgt := 5) dX10_jumpFace_68 (by decide) ?_
            subst u5
            first
            | rw [if_neg (show ¬ (0 < l ∧ (be < 0 ∨ (s * (a + 1) + t * (b + 1)) * lv < (s0 * (a + 1) + t0 * (b + 1)) * l)) by omega)]
              exact ih (k + 1) be _ lv (by omega) (Or.inr ⟨by omega, ⟨s0, t0, u1, u2, u3, u4, rfl⟩, u6, u7⟩) hs
            | rw [if_pos (show 0 < l ∧ (be < 0 ∨ (s * (a + 1) + t * (b + 1)) * lv < (s0 * (a + 1) + t0 * (b + 1)) * l) by omega)]
              exact ih (k + 1) k _ l (by omega) (Or.inr ⟨by omega, ⟨s, t, e1, e2, b1, b2, rfl⟩, e3, by omega⟩) hs
  refine tr_iconst (pc := 0) dX10_jumpFace_0 ⟨by decide, by decide⟩ ?_
  refine tr_istore_n (pc := 1) dX10_jumpFace_1 rfl (Nat.le_of_ble_eq_true rfl) ?_
  dsimp only [List.set]
  refine tr_iconst (pc := 2) dX10_jumpFace_2 ⟨by decide, by decide⟩ ?_
  refine tr_istore (pc := 3) dX10_jumpFace_3 rfl (Nat.le_of_ble_eq_true rfl) ?_
  dsimp only [List.set]
  exact loop F 0 (-1) 0 0 (by omega) (Or.inl rfl) hF
/-- JUMPS of the reference -/
def rj_at (M : tk_M) (J : List (Int × Int)) : Prop := jr_seg (M 114) (M 115) (M 101 16) 0 J ∧ M 101 16 ≤ 100
def rjf (M M' : tk_M) : Prop := (∀ c : Int, c ≠ 101 → c ≠ 114 → c ≠ 115 → M' c = M c) ∧ ∀ j : Int, j ≠ 16 → M' 101 j = M 101 j
theorem rjf.rf {M : tk_M} : rjf M M := ⟨fun _ _ _ _ => rfl, fun _ _ => rfl⟩
theorem rjf.trans {M M1 M2 : tk_M} (h1 : rjf M M1) (h2 : rjf M1 M2) : rjf M M2 := ⟨fun c a b d => (h2.1 c a b d).trans (h1.1 c a b d), fun j hj => (h2.2 j hj).trans (h1.2 j hj)⟩
theorem rj_at.len {M : tk_M} {J : List (Int × Int)} (h : rj_at M J) : M 101 16 = J.length ∧ (J.length : Int) ≤ 100 := by
  have h1 := jr_seg_len J 0 h.1
  have h2 := h.2
  omega
theorem sp_X10_comesJump {G : tk_G} {M : tk_M} {x y : Int} {J : List (Int × Int)} (hJ : rj_at M J) (h9 : J.length ≤ 99) (hx : 0 ≤ x ∧ x ≤ 180) (hy : 1 ≤ y ∧ y ≤ 162) : Spv G FX10_comesJump [xR 101, xI x, xI y] SF M (fun M' => rj_at M' (zins (x, y) J) ∧ rjf M M') := by
  have hln := hJ.len
  refine Spv.of _ mtX10_comesJump nlX10_comesJump (Nat.le_of_ble_eq_true rfl) ?_
  show Ok G FX10_comesJump 0 [xR 101, xI x, xI y, xU, xU] [] SF M 0 0 _
  have loopB : ∀ (p : Int), 0 ≤ p → p ≤ M 101 16 → (∀ (j : Nat) (q : Int × Int), j < p.toNat → J[j]? = some q → jr_lt q (x, y)) → (∀ q, J[p.toNat]? = some q → ¬ jr_lt q (x, y) ∧ q ≠ (x, y)) → ∀ (d : Nat) (e : Int) (M1 : tk_M), e - p = d → e ≤ M 101 16 → (∀ c, c ≠ 114 → c ≠ 115 → M1 c = M c) → (∀ j, j < e → M1 114 j = M 114 j ∧ M1 115 j = M 115 j) → (∀ j, e ≤ j → j < M 101 16 → M1 114 (j + 1) = M 114 j ∧ M1 115 (j + 1) = M 115 j) → Ok G FX10_comesJump 70 [xR 101, xI x, xI y, xI p, xI e] [] SF M1 0 0 (tk_qv SF (fun M' => rj_at M' (zins (x, y) J) ∧ rjf M M')) := by
    intro p hp0 hp1 z1 z2 d
    induction d with
    | zero =>
      intro e M1 hd he a1 a2 a3
      have he2 : e = p := by omega
      subst he2
      have n1 : M1 101 16 = M 101 16 := by rw [a1 101 (by omega) (by omega)]
      refine tr_iload (pc := 70) dX10_comesJump_70 rfl ?_
      refine tr_iload_n (pc := 72) dX10_comesJump_72 rfl ?_
      refine tr_icmple (pc := 73) (tgt := 114) dX10_comesJump_73 (by decide) (fun c73 => ?_) (fun c73 => absurd c73 (by omega))
      refine tr_aload_n (pc := 114) dX10_comesJump_114 rfl (by decide) ?_
      refine tr_getr (pc := 115) (x := 114) dX10_comesJump_115 fi10_48 rfl sg101 rfl ?_
      refine tr_iload_n (pc := 118) dX10_comesJump_118 rfl ?_
      refine tr_iload_n (pc := 119) dX10_comesJump_119 rfl ?_
      refine tr_iast (pc := 120) dX10_comesJump_120 sg114 (by omega) (by omega) ?_
      refine tr_aload_n (pc := 121) dX10_comesJump_121 rfl (by decide) ?_
      refine tr_getr (pc := 122) (x := 115) dX10_comesJump_122 fi10_51 rfl sg101 rfl ?_
      refine tr_iload_n (pc := 125) dX10_comesJump_125 rfl ?_
      refine tr_iload_n (pc := 126) dX10_comesJump_126 rfl ?_
      refine tr_iast (pc := 127) dX10_comesJump_127 sg115 (by omega) (by omega) ?_
      refine tr_aload_n (pc := 128) dX10_comesJump_128 rfl (by decide) ?_
      refine tr_dup (pc := 129) dX10_comesJump_129 (fun h => by cases h) ?_
      refine tr_getv (pc := 130) (ji := 16) (x := M 101 16) dX10_comesJump_130 fi10_257 rfl sg101 rfl (by rw [tk_mu_c (by omega), tk_mu_c (by omega)]; exact n1) ?_
      refine tr_iconst (pc := 133) dX10_comesJump_133 ⟨by decide, by decide⟩ ?_
      refine tr_iadd (pc := 134) dX10_comesJump_134 ⟨by omega, by omega⟩ ?_
      refine tr_puti (pc := 135) (ji := 16) dX10_comesJump_135 fi10_257 rfl (Or.inl rfl) (Or.inl rfl) sg101 rfl ?_
      refine tr_vret (pc := 138) dX10_comesJump_138 rfl ?_
      refine ⟨⟨?_, ?_⟩, fun c c1 c2 c3 => ?_, fun j hj => ?_⟩
      · rw [tk_mu_at, zins_ia J e.toNat (by omega) z1 z2, show e.toNat = (e - 0).toNat by omega]
        refine jr_seg_ins (A := M 114) (B := M 115) ?_ ?_ hx hy J 0 hJ.1 hp0 he (fun j j0 j1 => ?_) (fun j j0 j1 => ?_)
        · (first | (simp only [tk_mu_eq, and_self, and_true, true_and, false_and, and_false, if_true, if_false, ↓reduceIte, reduceCtorEq]; done) | (simp only [tk_mu_eq, and_self, and_true, true_and, false_and, and_false, if_true, if_false, ↓reduceIte, reduceCtorEq]; omega))
        · (first | (simp only [tk_mu_eq, and_self, and_true, true_and, false_and, and_false, if_true, if_false, ↓reduceIte, reduceCtorEq]; done) | (simp only [tk_mu_eq, and_self, and_true, true_and, false_and, and_false, if_true, if_false, ↓reduceIte, reduceCtorEq]; omega))
        · have := a2 j j1
          (first | (simp only [tk_mu_eq, and_self, and_true, true_and, false_and, and_false, if_true, if_false, ↓reduceIte, reduceCtorEq]; done) | (simp only [tk_mu_eq, and_self, and_true, true_and, false_and, and_false, if_true, if_false, ↓reduceIte, reduceCtorEq]; omega))
        · have := a3 j j0 j1
          (first | (simp only [tk_mu_eq, and_self, and_true, true_and, false_and, and_false, if_true, if_false, ↓reduceIte, reduceCtorEq]; done) | (simp only [tk_mu_eq, and_self, and_true, true_and, false_and, and_false, if_true, if_false, ↓reduceIte, reduceCtorEq]; omega))
      · rw [tk_mu_at]; omega
      · rw [tk_mu_c c1, tk_mu_c c3, tk_mu_c c2]; exact a1 c c2 c3
      · rw [tk_mu_i hj, tk_mu_c (by omega), tk_mu_c (by omega), a1 101 (by omega) (by omega)]
    | succ d ih =>
      intro e M1 hd he a1 a2 a3
      refine tr_iload (pc := 70) dX10_comesJump_70 rfl ?_
      refine tr_iload_n (pc := 72) dX10_comesJump_72 rfl ?_
      refine tr_icmple (pc := 73) (tgt := 114) dX10_comesJump_73 (by decide) (fun c73 => absurd c73 (by omega)) (fun c73 => ?_)
      refine tr_aload_n (pc := 76) dX10_comesJump_76 rfl (by decide) ?_
      refine tr_getr (pc := 77) (x := 114) dX10_comesJump_77 fi10_48 rfl sg101 rfl ?_
      refine tr_iload (pc := 80) dX10_comesJump_80 rfl ?_
      refine tr_aload_n (pc := 82) dX10_comesJump_82 rfl (by decide) ?_
      refine tr_getr (pc := 83) (x := 114) dX10_comesJump_83 fi10_48 rfl sg101 rfl ?_
      refine tr_iload (pc := 86) dX10_comesJump_86 rfl ?_
      refine tr_iconst (pc := 88) dX10_comesJump_88 ⟨by decide, by decide⟩ ?_
      refine tr_isub (pc := 89) dX10_comesJump_89 ⟨by omega, by omega⟩ ?_
      refine tr_ialdv (pc := 90) (x := M 114 (e - 1)) dX10_comesJump_90 sg114 (by omega) (by omega) ((a2 _ (by omega)).1) ?_
      refine tr_iast (pc := 91) dX10_comesJump_91 sg114 (by omega) (by omega) ?_
      refine tr_aload_n (pc := 92) dX10_comesJump_92 rfl (by decide) ?_
      refine tr_getr (pc := 93) (x := 115) dX10_comesJump_93 fi10_51 rfl sg101 rfl ?_
      refine tr_iload (pc := 96) dX10_comesJump_96 rfl ?_
      refine tr_aload_n (pc := 98) dX10_comesJump_98 rfl (by decide) ?_
      refine tr_getr (pc := 99) (x := 115) dX10_comesJump_99 fi10_51 rfl sg101 rfl ?_
      refine tr_iload (pc := 102) dX10_comesJump_102 rfl ?_
      refine tr_iconst (pc := 104) dX10_comesJump_104 ⟨by decide, by decide⟩ ?_
      refine tr_isub (pc := 105) dX10_comesJump_105 ⟨by omega, by omega⟩ ?_
      refine tr_ialdv (pc := 106) (x := M 115 (e - 1)) dX10_comesJump_106 sg115 (by omega) (by omega) (by rw [tk_mu_c (by omega)]; exact (a2 _ (by omega)).2) ?_
      refine tr_iast (pc := 107) dX10_comesJump_107 sg115 (by omega) (by omega) ?_
      refine tr_iinc (pc := 108) dX10_comesJump_108 rfl rfl ⟨by omega, by omega⟩ ?_
      dsimp only [List.set]
      refine tr_goto (pc := 111) (tgt := 70) dX10_comesJump_111 (by decide) ?_
      rw [show e + -1 = e - 1 by omega]
      refine ih (e - 1) _ (by omega) (by omega) ?_ ?_ ?_
      · intro c c1 c2
        rw [tk_mu_c c2, tk_mu_c c1]; exact a1 c c1 c2
      · intro j hj
        have := a2 j (by omega)
        (first | (simp only [tk_mu_eq, and_self, and_true, true_and, false_and, and_false, if_true, if_false, ↓reduceIte, reduceCtorEq]; done) | (simp only [tk_mu_eq, and_self, and_true, true_and, false_and, and_false, if_true, if_false, ↓reduceIte, reduceCtorEq]; omega))
      · intro j hj1 hj2
        by_cases hje : j = e - 1
        · subst hje
          rw [show e - 1 + 1 = e by omega]
          (first | (simp only [tk_mu_eq, and_self, and_true, true_and, false_and, and_false, if_true, if_false, ↓reduceIte, reduceCtorEq]; done) | (simp only [tk_mu_eq, and_self, and_true, true_and, false_and, and_false, if_true, if_false, ↓reduceIte, reduceCtorEq]; omega))
        · have := a3 j (by omega) hj2
          (first | (simp only [tk_mu_eq, and_self, and_true, true_and, false_and, and_false, if_true, if_false, ↓reduceIte, reduceCtorEq]; done) | (simp only [tk_mu_eq, and_self, and_true, true_and, false_and, and_false, if_true, if_false, ↓reduceIte, reduceCtorEq]; omega))
  have loopA : ∀ (d : Nat) (p : Int), M 101 16 - p = d → 0 ≤ p → (∀ (j : Nat) (q : Int × Int), j < p.toNat → J[j]? = some q → jr_lt q (x, y)) → Ok G FX10_comesJump 2 [xR 101, xI x, xI y, xI p, xU] [] SF M 0 0 (tk_qv SF (fun M' => rj_at M' (zins (x, y) J) ∧ rjf M M')) := by
    intro d
    induction d with
    | zero =>
      intro p hd hp z1
      refine tr_iload_n (pc := 2) dX10_comesJump_2 rfl ?_
      refine tr_aload_n (pc := 3) dX10_comesJump_3 rfl (by decide) ?_
      refine tr_geti (pc := 4) (ji := 16) dX10_comesJump_4 fi10_257 rfl sg101 rfl ?_
      refine tr_icmpge (pc := 7) (tgt := 35) dX10_comesJump_7 (by decide) (fun c7 => ?_) (fun c7 => absurd c7 (by omega))
      refine tr_iload_n (pc := 35) dX10_comesJump_35 rfl ?_
      refine tr_aload_n (pc := 36) dX10_comesJump_36 rfl (by decide) ?_
      refine tr_geti (pc := 37) (ji := 16) dX10_comesJump_37 fi10_257 rfl sg101 rfl ?_
      refine tr_icmpge (pc := 40) (tgt := 64) dX10_comesJump_40 (by decide) (fun c40 => ?_) (fun c40 => absurd c40 (by omega))
      refine tr_aload_n (pc := 64) dX10_comesJump_64 rfl (by decide) ?_
      refine tr_geti (pc := 65) (ji := 16) dX10_comesJump_65 fi10_257 rfl sg101 rfl ?_
      refine tr_istore (pc := 68) dX10_comesJump_68 rfl (Nat.le_of_ble_eq_true rfl) ?_
      dsimp only [List.set]
      exact loopB p hp (by omega) z1 (fun q hq => by have := (List.getElem?_eq_some_iff.mp hq).1; omega) (M 101 16 - p).toNat (M 101 16) M (by omega) (by omega) (fun _ _ _ => rfl) (fun _ _ => ⟨rfl, rfl⟩) (fun j h1 h2 => by omega)
    | succ d ih =>
      intro p hd hp z1
      obtain ⟨q1, q2, q3⟩ := jr_seg_get J 0 p hJ.1 hp (by omega)
      rw [Int.sub_zero] at q1
      have m1 := mulb q2.1 q2.2 (show 0 ≤ y by omega) hy.2
      have m2 := mulb hx.1 hx.2 (show 0 ≤ M 115 p by omega) q3.2
      refine tr_iload_n (pc := 2) dX10_comesJump_2 rfl ?_
      refine tr_aload_n (pc := 3) dX10_comesJump_3 rfl (by decide) ?_
      refine tr_geti (pc := 4) (ji := 16) dX10_comesJump_4 fi10_257 rfl sg101 rfl ?_
      refine tr_icmpge (pc := 7) (tgt := 35) dX10_comesJump_7 (by decide) (fun c7 => absurd c7 (by omega)) (fun c7 => ?_)
      refine tr_aload_n (pc := 10) dX10_comesJump_10 rfl (by decide) ?_
      refine tr_getr (pc := 11) (x := 114) dX10_comesJump_11 fi10_48 rfl sg101 rfl ?_
      refine tr_iload_n (pc := 14) dX10_comesJump_14 rfl ?_
      refine tr_iald (pc := 15) dX10_comesJump_15 sg114 (by omega) (by omega) ?_
      refine tr_iload_n (pc := 16) dX10_comesJump_16 rfl ?_
      refine tr_imul (pc := 17) dX10_comesJump_17 ⟨by omega, by omega⟩ ?_
      refine tr_iload_n (pc := 18) dX10_comesJump_18 rfl ?_
      refine tr_aload_n (pc := 19) dX10_comesJump_19 rfl (by decide) ?_
      refine tr_getr (pc := 20) (x := 115) dX10_comesJump_20 fi10_51 rfl sg101 rfl ?_
      refine tr_iload_n (pc := 23) dX10_comesJump_23 rfl ?_
      refine tr_iald (pc := 24) dX10_comesJump_24 sg115 (by omega) (by omega) ?_
      refine tr_imul (pc := 25) dX10_comesJump_25 ⟨by omega, by omega⟩ ?_
      refine tr_icmpge (pc := 26) (tgt := 35) dX10_comesJump_26 (by decide) (fun c26 => ?_) (fun c26 => ?_)
      · skip
        refine tr_iload_n (pc := 35) dX10_comesJump_35 rfl ?_
        refine tr_aload_n (pc := 36) dX10_comesJump_36 rfl (by decide) ?_
        refine tr_geti (pc := 37) (ji := 16) dX10_comesJump_37 fi10_257 rfl sg101 rfl ?_
        refine tr_icmpge (pc := 40) (tgt := 64) dX10_comesJump_40 (by decide) (fun c40 => absurd c40 (by omega)) (fun c40 => ?_)
        refine tr_aload_n (pc := 43) dX10_comesJump_43 rfl (by decide) ?_
        refine tr_getr (pc := 44) (x := 114) dX10_comesJump_44 fi10_48 rfl sg101 rfl ?_
        refine tr_iload_n (pc := 47) dX10_comesJump_47 rfl ?_
        refine tr_iald (pc := 48) dX10_comesJump_48 sg114 (by omega) (by omega) ?_
        refine tr_iload_n (pc := 49) dX10_comesJump_49 rfl ?_
        refine tr_icmpne (pc := 50) (tgt := 64) dX10_comesJump_50 (by decide) (fun c50 => ?_) (fun c50 => ?_)
        · skip
          refine tr_aload_n (pc := 64) dX10_comesJump_64 rfl (by decide) ?_
          refine tr_geti (pc := 65) (ji := 16) dX10_comesJump_65 fi10_257 rfl sg101 rfl ?_
          refine tr_istore (pc := 68) dX10_comesJump_68 rfl (Nat.le_of_ble_eq_true rfl) ?_
          dsimp only [List.set]
          refine loopB p hp (by omega) z1 (fun q hq => ?_) (M 101 16 - p).toNat (M 101 16) M (by omega) (by omega) (fun _ _ _ => rfl) (fun _ _ => ⟨rfl, rfl⟩) (fun j h1 h2 => by omega)
          rw [q1] at hq
          cases hq
          refine ⟨?_, fun h => ?_⟩
          · show ¬ M 114 p * y < x * M 115 p
            omega
          · have h1 := congrArg Prod.fst h
            have h2 := congrArg Prod.snd h
            simp only at h1 h2
            omega
        · skip
          refine tr_aload_n (pc := 53) dX10_comesJump_53 rfl (by decide) ?_
          refine tr_getr (pc := 54) (x := 115) dX10_comesJump_54 fi10_51 rfl sg101 rfl ?_
          refine tr_iload_n (pc := 57) dX10_comesJump_57 rfl ?_
          refine tr_iald (pc := 58) dX10_comesJump_58 sg115 (by omega) (by omega) ?_
          refine tr_iload_n (pc := 59) dX10_comesJump_59 rfl ?_
          refine tr_icmpne (pc := 60) (tgt := 64) dX10_comesJump_60 (by decide) (fun c60 => ?_) (fun c60 => ?_)
          · skip
            refine tr_aload_n (pc := 64) dX10_comesJump_64 rfl (by decide) ?_
            refine tr_geti (pc := 65) (ji := 16) dX10_comesJump_65 fi10_257 rfl sg101 rfl ?_
            refine tr_istore (pc := 68) dX10_comesJump_68 rfl (Nat.le_of_ble_eq_true rfl) ?_
            dsimp only [List.set]
            refine loopB p hp (by omega) z1 (fun q hq => ?_) (M 101 16 - p).toNat (M 101 16) M (by omega) (by omega) (fun _ _ _ => rfl) (fun _ _ => ⟨rfl, rfl⟩) (fun j h1 h2 => by omega)
            rw [q1] at hq
            cases hq
            refine ⟨?_, fun h => ?_⟩
            · show ¬ M 114 p * y < x * M 115 p
              omega
            · have h1 := congrArg Prod.fst h
              have h2 := congrArg Prod.snd h
              simp only at h1 h2
              omega
          · skip
            refine tr_vret (pc := 63) dX10_comesJump_63 rfl ?_
            have e : (M 114 p, M 115 p) = (x, y) := Prod.ext (by show M 114 p = x; omega) (by show M 115 p = y; omega)
            rw [e] at q1
            rw [zins_eq J p.toNat q1 z1]
            exact ⟨hJ, rjf.rf⟩
      · skip
        refine tr_iinc (pc := 29) dX10_comesJump_29 rfl rfl ⟨by omega, by omega⟩ ?_
        dsimp only [List.set]
        refine tr_goto (pc := 32) (tgt := 2) dX10_comesJump_32 (by decide) ?_
        refine ih (p + 1) (by omega) (by omega) (fun j q hj hq => ?_)
        by_cases hjp : (j : Int) = p
        · have e : p.toNat = j := by omega
          rw [e, hq] at q1
          cases q1
          show M 114 p * y < x * M 115 p
          omega
        · exact z1 j q (by omega) hq
  refine tr_iconst (pc := 0) dX10_comesJump_0 ⟨by decide, by decide⟩ ?_
  refine tr_istore_n (pc := 1) dX10_comesJump_1 rfl (Nat.le_of_ble_eq_true rfl) ?_
  dsimp only [List.set]
  exact loopA (M 101 16).toNat 0 (by omega) (by omega) (fun j q hj => absurd hj (by omega))
theorem rh_at.jf {M M1 : tk_M} {F : List (Int × Int × Int)} (h : rh_at M F) (hf : rjf M M1) : rh_at M1 F := h.same (hf.2 12 (by omega)) (hf.1 _ (by omega) (by omega) (by omega)) (hf.1 _ (by omega) (by omega) (by omega)) (hf.1 _ (by omega) (by omega) (by omega))
theorem jins_rp {x : Int × Int} {J : List (Int × Int)} (hx : rpos x) (h : ∀ y ∈ J, rpos y) : ∀ y ∈ jins x J, rpos y := fun y hy => by
  rcases jins_mem J hy with h1 | h1
  · rw [h1]; exact hx
  · exact h y h1
theorem sp_X10_tellsJumps {G : tk_G} {M : tk_M} {F : List (Int × Int × Int)} (hF : rh_at M F) : Spv G FX10_tellsJumps [xR 101] SF M (fun M' => rj_at M' ((jr_ga F 100 0 []).map red) ∧ rjf M M') := by
  refine Spv.of _ mtX10_tellsJumps nlX10_tellsJumps (Nat.le_of_ble_eq_true rfl) ?_
  show Ok G FX10_tellsJumps 0 [xR 101, xU, xU, xU] [] SF M 0 0 _
  have h64 := hF.2
  have loop : ∀ (d : Nat) (t : Int) (v2 v3 : tk_V) (J : List (Int × Int)) (M1 : tk_M), t + d = 100 → 0 ≤ t → (J.length : Int) ≤ t → (∀ y ∈ J, rpos y) → rj_at M1 (J.map red) → rjf M M1 → v2.1 ≠ 1 → Ok G FX10_tellsJumps 7 [xR 101, xI t, v2, v3] [] SF M1 0 0 (tk_qv SF (fun M' => rj_at M' ((jr_ga F d t J).map red) ∧ rjf M M')) := by
    intro d
    induction d with
    | zero =>
      intro t v2 v3 J M1 hd ht hl hp hJ hf _
      refine tr_iload_n (pc := 7) dX10_tellsJumps_7 rfl ?_
      refine tr_bipush (pc := 8) dX10_tellsJumps_8 ⟨by decide, ⟨by decide, by decide⟩⟩ ?_
      refine tr_icmpge (pc := 10) (tgt := 83) dX10_tellsJumps_10 (by decide) (fun c10 => ?_) (fun c10 => absurd c10 (by omega))
      refine tr_vret (pc := 83) dX10_tellsJumps_83 rfl ?_
      exact ⟨hJ, hf⟩
    | succ d ih =>
      intro t v2 v3 J M1 hd ht hl hp hJ hf _
      have hF1 := hF.jf hf
      have e12 : M1 101 12 = M 101 12 := hf.2 12 (by omega)
      unfold jr_ga
      have hta := hl_tgt_at (a := t / 10) (b := t % 10) F 0 (-1, 0, 0) (by omega) (Or.inl rfl) hF1.1
      generalize hzz : hl_tgt (t / 10) (t % 10) 0 (-1, 0, 0) F = z at hta ⊢
      by_cases hz : z.1 = -1
      · rw [if_pos (show z.1 < 0 by omega)]
        refine tr_iload_n (pc := 7) dX10_tellsJumps_7 rfl ?_
        refine tr_bipush (pc := 8) dX10_tellsJumps_8 ⟨by decide, ⟨by decide, by decide⟩⟩ ?_
        refine tr_icmpge (pc := 10) (tgt := 83) dX10_tellsJumps_10 (by decide) (fun c10 => absurd c10 (by omega)) (fun c10 => ?_)
        refine tr_aload_n (pc := 13) dX10_tellsJumps_13 rfl (by decide) ?_
        refine tr_iload_n (pc := 14) dX10_tellsJumps_14 rfl ?_
        refine tr_bipush (pc := 15) dX10_tellsJumps_15 ⟨by decide, ⟨by decide, by decide⟩⟩ ?_
        refine tr_idiv (pc := 17) dX10_tellsJumps_17 (by omega) (by omega) ?_
        refine tr_iload_n (pc := 18) dX10_tellsJumps_18 rfl ?_
        refine tr_bipush (pc := 19) dX10_tellsJumps_19 ⟨by decide, ⟨by decide, by decide⟩⟩ ?_
        refine tr_irem (pc := 21) dX10_tellsJumps_21 (by omega) (by omega) ?_
        refine tr_cVi2 (pc := 22) dX10_tellsJumps_22 mtX10_jumpFace lv10_273 rfl sg101 kc10 ⟨(Nat.le_of_ble_eq_true rfl), (Nat.le_of_ble_eq_true rfl)⟩ nlX10_jumpFace (Nat.le_of_ble_eq_true rfl) ⟨(Nat.le_of_ble_eq_true rfl), (Nat.le_of_ble_eq_true rfl)⟩ (sp_X10_jumpFace hF1 (by omega) (by omega)) (fun r22 M22 h22 => ?_)
        rw [hzz] at h22
        obtain ⟨hr22, hM22⟩ := h22
        obtain rfl := hr22.symm
        obtain rfl := hM22.symm
        refine tr_istore_n (pc := 25) dX10_tellsJumps_25 rfl (Nat.le_of_ble_eq_true rfl) ?_
        dsimp only [List.set]
        refine tr_iload_n (pc := 26) dX10_tellsJumps_26 rfl ?_
        refine tr_iconst (pc := 27) dX10_tellsJumps_27 ⟨by decide, by decide⟩ ?_
        refine tr_icmpeq (pc := 28) (tgt := 77) dX10_tellsJumps_28 (by decide) (fun c28 => ?_) (fun c28 => absurd c28 (by omega))
        refine tr_iinc (pc := 77) dX10_tellsJumps_77 rfl rfl ⟨by omega, by omega⟩ ?_
        dsimp only [List.set]
        refine tr_goto (pc := 80) (tgt := 7) dX10_tellsJumps_80 (by decide) ?_
        exact ih (t + 1) _ _ J M1 (by omega) (by omega) (by omega) hp hJ hf (fun h => by cases h)
      · obtain ⟨g0, g1, g2, g3, g4⟩ := hta.resolve_left hz
        obtain ⟨f1, f2, f3, f4⟩ := hl_seg_get F 0 z.1 hF1.1 g0 g1
        have m1 := mulb f2.1 f2.2 (show 0 ≤ t / 10 + 1 by omega) (show t / 10 + 1 ≤ 10 by omega)
        have m2 := mulb f3.1 f3.2 (show 0 ≤ t % 10 + 1 by omega) (show t % 10 + 1 ≤ 10 by omega)
        have hw : 0 ≤ z.2.1 ∧ z.2.1 ≤ 180 := by omega
        have hlv : 1 ≤ z.2.2 ∧ z.2.2 ≤ 162 := by omega
        have hrb := red_bd (x := (z.2.1, z.2.2)) hw hlv
        have hrp : rpos (z.2.1, z.2.2) := ⟨⟨hw.1, by show z.2.1 ≤ 1000; omega⟩, ⟨hlv.1, by show z.2.2 ≤ 1000; omega⟩⟩
        have hlen := jins_len (z.2.1, z.2.2) J
        have b0 : (lows z.2.1 z.2.2 0).bmod (2 ^ 32) = (red (z.2.1, z.2.2)).1 := Int.bmod_eq_of_le (by show -2147483648 ≤ (red (z.2.1, z.2.2)).1; omega) (by show (red (z.2.1, z.2.2)).1 < 2147483648; omega)
        have b1 : (lows z.2.1 z.2.2 1).bmod (2 ^ 32) = (red (z.2.1, z.2.2)).2 := Int.bmod_eq_of_le (by show -2147483648 ≤ (red (z.2.1, z.2.2)).2; omega) (by show (red (z.2.1, z.2.2)).2 < 2147483648; omega)
        rw [if_neg (show ¬ z.1 < 0 by omega)]
        refine tr_iload_n (pc := 7) dX10_tellsJumps_7 rfl ?_
        refine tr_bipush (pc := 8) dX10_tellsJumps_8 ⟨by decide, ⟨by decide, by decide⟩⟩ ?_
        refine tr_icmpge (pc := 10) (tgt := 83) dX10_tellsJumps_10 (by decide) (fun c10 => absurd c10 (by omega)) (fun c10 => ?_)
        refine tr_aload_n (pc := 13) dX10_tellsJumps_13 rfl (by decide) ?_
        refine tr_iload_n (pc := 14) dX10_tellsJumps_14 rfl ?_
        refine tr_bipush (pc := 15) dX10_tellsJumps_15 ⟨by decide, ⟨by decide, by decide⟩⟩ ?_
        refine tr_idiv (pc := 17) dX10_tellsJumps_17 (by omega) (by omega) ?_
        refine tr_iload_n (pc := 18) dX10_tellsJumps_18 rfl ?_
        refine tr_bipush (pc := 19) dX10_tellsJumps_19 ⟨by decide, ⟨by decide, by decide⟩⟩ ?_
        refine tr_irem (pc := 21) dX10_tellsJumps_21 (by omega) (by omega) ?_
        refine tr_cVi2 (pc := 22) dX10_tellsJumps_22 mtX10_jumpFace lv10_273 rfl sg101 kc10 ⟨(Nat.le_of_ble_eq_true rfl), (Nat.le_of_ble_eq_true rfl)⟩ nlX10_jumpFace (Nat.le_of_ble_eq_true rfl) ⟨(Nat.le_of_ble_eq_true rfl), (Nat.le_of_ble_eq_true rfl)⟩ (sp_X10_jumpFace hF1 (by omega) (by omega)) (fun r22 M22 h22 => ?_)
        rw [hzz] at h22
        obtain ⟨hr22, hM22⟩ := h22
        obtain rfl := hr22.symm
        obtain rfl := hM22.symm
        refine tr_istore_n (pc := 25) dX10_tellsJumps_25 rfl (Nat.le_of_ble_eq_true rfl) ?_
        dsimp only [List.set]
        refine tr_iload_n (pc := 26) dX10_tellsJumps_26 rfl ?_
        refine tr_iconst (pc := 27) dX10_tellsJumps_27 ⟨by decide, by decide⟩ ?_
        refine tr_icmpeq (pc := 28) (tgt := 77) dX10_tellsJumps_28 (by decide) (fun c28 => absurd c28 (by omega)) (fun c28 => ?_)
        refine tr_aload_n (pc := 31) dX10_tellsJumps_31 rfl (by decide) ?_
        refine tr_iload_n (pc := 32) dX10_tellsJumps_32 rfl ?_
        refine tr_iload_n (pc := 33) dX10_tellsJumps_33 rfl ?_
        refine tr_bipush (pc := 34) dX10_tellsJumps_34 ⟨by decide, ⟨by decide, by decide⟩⟩ ?_
        refine tr_idiv (pc := 36) dX10_tellsJumps_36 (by omega) (by omega) ?_
        refine tr_iload_n (pc := 37) dX10_tellsJumps_37 rfl ?_
        refine tr_bipush (pc := 38) dX10_tellsJumps_38 ⟨by decide, ⟨by decide, by decide⟩⟩ ?_
        refine tr_irem (pc := 40) dX10_tellsJumps_40 (by omega) (by omega) ?_
        refine tr_cVi3 (pc := 41) dX10_tellsJumps_41 mtX10_heavy lv10_260 rfl sg101 kc10 ⟨(Nat.le_of_ble_eq_true rfl), (Nat.le_of_ble_eq_true rfl)⟩ nlX10_heavy (Nat.le_of_ble_eq_true rfl) ⟨(Nat.le_of_ble_eq_true rfl), (Nat.le_of_ble_eq_true rfl)⟩ (sp_X10_heavy (by omega) rfl rfl f2 f3 (by omega) (by omega)) (fun r41 M41 h41 => ?_)
        rw [g2] at h41
        obtain ⟨hr41, hM41⟩ := h41
        obtain rfl := hr41.symm
        obtain rfl := hM41.symm
        refine tr_istore_n (pc := 44) dX10_tellsJumps_44 rfl (Nat.le_of_ble_eq_true rfl) ?_
        dsimp only [List.set]
        refine tr_aload_n (pc := 45) dX10_tellsJumps_45 rfl (by decide) ?_
        refine tr_iload_n (pc := 46) dX10_tellsJumps_46 rfl ?_
        refine tr_i2l (pc := 47) dX10_tellsJumps_47 ?_
        refine tr_aload_n (pc := 48) dX10_tellsJumps_48 rfl (by decide) ?_
        refine tr_getr (pc := 49) (x := 113) dX10_tellsJumps_49 fi10_45 rfl sg101 rfl ?_
        refine tr_iload_n (pc := 52) dX10_tellsJumps_52 rfl ?_
        refine tr_ialdv (pc := 53) (x := z.2.2) dX10_tellsJumps_53 sg113 (by omega) (by omega) (g3) ?_
        refine tr_i2l (pc := 54) dX10_tellsJumps_54 ?_
        refine tr_iconst (pc := 55) dX10_tellsJumps_55 ⟨by decide, by decide⟩ ?_
        refine tr_cSl3 (pc := 56) dX10_tellsJumps_56 mtX10_part ls10_276 rfl ⟨(Nat.le_of_ble_eq_true rfl), (Nat.le_of_ble_eq_true rfl)⟩ nlX10_part (Nat.le_of_ble_eq_true rfl) ⟨(Nat.le_of_ble_eq_true rfl), (Nat.le_of_ble_eq_true rfl)⟩ (sp_X10_part (by omega) (by omega) (by omega) (by omega)) (fun r56 M56 h56 => ?_)
        obtain ⟨hr56, hM56⟩ := h56
        obtain rfl := hr56.symm
        obtain rfl := hM56.symm
        refine tr_l2i (pc := 59) dX10_tellsJumps_59 ?_
        refine tr_topv b0 ?_
        refine tr_iload_n (pc := 60) dX10_tellsJumps_60 rfl ?_
        refine tr_i2l (pc := 61) dX10_tellsJumps_61 ?_
        refine tr_aload_n (pc := 62) dX10_tellsJumps_62 rfl (by decide) ?_
        refine tr_getr (pc := 63) (x := 113) dX10_tellsJumps_63 fi10_45 rfl sg101 rfl ?_
        refine tr_iload_n (pc := 66) dX10_tellsJumps_66 rfl ?_
        refine tr_ialdv (pc := 67) (x := z.2.2) dX10_tellsJumps_67 sg113 (by omega) (by omega) (g3) ?_
        refine tr_i2l (pc := 68) dX10_tellsJumps_68 ?_
        refine tr_iconst (pc := 69) dX10_tellsJumps_69 ⟨by decide, by decide⟩ ?_
        refine tr_cSl3 (pc := 70) dX10_tellsJumps_70 mtX10_part ls10_276 rfl ⟨(Nat.le_of_ble_eq_true rfl), (Nat.le_of_ble_eq_true rfl)⟩ nlX10_part (Nat.le_of_ble_eq_true rfl) ⟨(Nat.le_of_ble_eq_true rfl), (Nat.le_of_ble_eq_true rfl)⟩ (sp_X10_part (by omega) (by omega) (by omega) (by omega)) (fun r70 M70 h70 => ?_)
        obtain ⟨hr70, hM70⟩ := h70
        obtain rfl := hr70.symm
        obtain rfl := hM70.symm
        refine tr_l2i (pc := 73) dX10_tellsJumps_73 ?_
        refine tr_topv b1 ?_
        refine tr_cVv2 (pc := 74) dX10_tellsJumps_74 mtX10_comesJump lv10_280 rfl sg101 kc10 ⟨(Nat.le_of_ble_eq_true rfl), (Nat.le_of_ble_eq_true rfl)⟩ nlX10_comesJump (Nat.le_of_ble_eq_true rfl) ⟨(Nat.le_of_ble_eq_true rfl), (Nat.le_of_ble_eq_true rfl)⟩ (sp_X10_comesJump hJ (by rw [List.length_map]; omega) hrb.1 hrb.2) (fun M74 h74 => ?_)
        obtain ⟨h9, f9⟩ := h74
        rw [zins_red hrp J hp] at h9
        refine tr_iinc (pc := 77) dX10_tellsJumps_77 rfl rfl ⟨by omega, by omega⟩ ?_
        dsimp only [List.set]
        refine tr_goto (pc := 80) (tgt := 7) dX10_tellsJumps_80 (by decide) ?_
        exact ih (t + 1) _ _ _ _ (by omega) (by omega) (by omega) (jins_rp hrp hp) h9 (hf.trans f9) (fun h => by cases h)
  refine tr_aload_n (pc := 0) dX10_tellsJumps_0 rfl (by decide) ?_
  refine tr_iconst (pc := 1) dX10_tellsJumps_1 ⟨by decide, by decide⟩ ?_
  refine tr_puti (pc := 2) (ji := 16) dX10_tellsJumps_2 fi10_257 rfl (Or.inl rfl) (Or.inl rfl) sg101 rfl ?_
  refine tr_iconst (pc := 5) dX10_tellsJumps_5 ⟨by decide, by decide⟩ ?_
  refine tr_istore_n (pc := 6) dX10_tellsJumps_6 rfl (Nat.le_of_ble_eq_true rfl) ?_
  dsimp only [List.set]
  refine loop 100 0 _ _ [] _ (by omega) (by omega) (by simp) (fun y hy => by cases hy) ⟨?_, ?_⟩ ⟨fun c c1 _ _ => tk_mu_c c1, fun j hj => tk_mu_i hj⟩ (fun h => by cases h)
  · rw [tk_mu_at]; rfl
  · rw [tk_mu_at]; omega
