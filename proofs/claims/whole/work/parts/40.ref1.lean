/-- the reference: an IDEAL of it as it lies in its rows -/
def rg_at (M : tk_M) (i : Int) (g : List (Int × Int)) : Prop := ig_seg (fun k => M 103 (6 * i + k)) (fun k => M 104 (6 * i + k)) (M 102 i) 0 g ∧ M 102 i ≤ 6
def rfr (M M' : tk_M) (i : Int) : Prop := (∀ c : Int, c ≠ 102 → c ≠ 103 → c ≠ 104 → M' c = M c) ∧ (∀ j : Int, j ≠ i → M' 102 j = M 102 j) ∧ (∀ p : Int, (p < 6 * i ∨ 6 * i + 6 ≤ p) → M' 103 p = M 103 p ∧ M' 104 p = M 104 p)
theorem rfr.rf {M : tk_M} {i : Int} : rfr M M i := ⟨fun _ _ _ _ => rfl, fun _ _ => rfl, fun _ _ => ⟨rfl, rfl⟩⟩
theorem rfr.trans {M M1 M2 : tk_M} {i : Int} (h1 : rfr M M1 i) (h2 : rfr M1 M2 i) : rfr M M2 i := ⟨fun c a b d => (h2.1 c a b d).trans (h1.1 c a b d), fun j hj => (h2.2.1 j hj).trans (h1.2.1 j hj), fun p hp => ⟨(h2.2.2 p hp).1.trans (h1.2.2 p hp).1, (h2.2.2 p hp).2.trans (h1.2.2 p hp).2⟩⟩
theorem rg_at.len {M : tk_M} {r : Int} {g : List (Int × Int)} (h : rg_at M r g) : M 102 r = g.length ∧ (g.length : Int) ≤ 6 := by
  have h1 := ig_seg_len g 0 h.1
  have h2 := h.2
  omega
theorem rg_at.bd {M : tk_M} {r : Int} {g : List (Int × Int)} (h : rg_at M r g) : ∀ q ∈ g, 0 ≤ q.1 ∧ q.1 ≤ 9 ∧ 0 ≤ q.2 ∧ q.2 ≤ 9 := ig_seg_bd g 0 h.1
theorem rg_at.congr {M M' : tk_M} {i : Int} {g : List (Int × Int)} (h : rg_at M i g) (h0 : M' 102 i = M 102 i) (h1 : ∀ k, 0 ≤ k → k < 6 → M' 103 (6 * i + k) = M 103 (6 * i + k) ∧ M' 104 (6 * i + k) = M 104 (6 * i + k)) : rg_at M' i g := by
  have h6 := h.2
  unfold rg_at
  rw [h0]
  exact ⟨ig_seg_congr g 0 (fun k k0 k1 => h1 k k0 (by omega)) h.1, h6⟩
theorem rg_at.frame {M M' : tk_M} {i j : Int} {g : List (Int × Int)} (h : rg_at M j g) (hf : rfr M M' i) (hd : j ≠ i) : rg_at M' j g := h.congr (hf.2.1 j hd) (fun k k0 k1 => hf.2.2 _ (by omega))
theorem rg_ne {M : tk_M} {r : Int} {g : List (Int × Int)} (h : rg_at M r g) (h0 : M 102 r ≠ 0) : g ≠ [] := fun e => by have := h.len; rw [e] at this; simp at this; omega
theorem rg_gp {M : tk_M} {r k : Int} {g : List (Int × Int)} (h : rg_at M r g) (h0 : 0 ≤ k) (h1 : k < M 102 r) : M 103 (6 * r + k) = (gp g k).1 ∧ M 104 (6 * r + k) = (gp g k).2 := by
  have := (ig_seg_get g 0 k h.1 h0 h1).1
  rw [Int.sub_zero] at this
  unfold gp
  rw [List.getD_eq_getElem?_getD, this]
  exact ⟨rfl, rfl⟩
theorem sp_X10_isFrom {G : tk_G} {M : tk_M} {x lo hi : Int} : Spi G FX10_isFrom [xL x, xL lo, xL hi] SF M (fun v M' => v = (if lo ≤ x ∧ x ≤ hi then 1 else 0) ∧ M' = M) := by
  refine Spi.of _ mtX10_isFrom nlX10_isFrom (Nat.le_of_ble_eq_true rfl) ?_
  show Ok G FX10_isFrom 0 [xL x, xU, xL lo, xU, xL hi, xU] [] SF M 0 0 _
  refine tr_lload_n (pc := 0) dX10_isFrom_0 rfl ?_
  refine tr_lload_n (pc := 1) dX10_isFrom_1 rfl ?_
  refine tr_lclt (pc := 2) (tgt := 17) dX10_isFrom_2 dX10_isFrom_3 (by decide) (fun c2 => ?_) (fun c2 => ?_)
  · skip
    refine tr_iconst (pc := 17) dX10_isFrom_17 ⟨by decide, by decide⟩ ?_
    refine tr_iretz (pc := 18) dX10_isFrom_18 rfl (by omega) ?_
    first
    | rw [if_pos (by omega)]; exact ⟨rfl, rfl⟩
    | rw [if_neg (by omega)]; exact ⟨rfl, rfl⟩
  · skip
    refine tr_lload_n (pc := 6) dX10_isFrom_6 rfl ?_
    refine tr_lload (pc := 7) dX10_isFrom_7 rfl ?_
    refine tr_lcgt (pc := 9) (tgt := 17) dX10_isFrom_9 dX10_isFrom_10 (by decide) (fun c9 => ?_) (fun c9 => ?_)
    · skip
      refine tr_iconst (pc := 17) dX10_isFrom_17 ⟨by decide, by decide⟩ ?_
      refine tr_iretz (pc := 18) dX10_isFrom_18 rfl (by omega) ?_
      first
      | rw [if_pos (by omega)]; exact ⟨rfl, rfl⟩
      | rw [if_neg (by omega)]; exact ⟨rfl, rfl⟩
    · skip
      refine tr_iconst (pc := 13) dX10_isFrom_13 ⟨by decide, by decide⟩ ?_
      refine tr_goto (pc := 14) (tgt := 18) dX10_isFrom_14 (by decide) ?_
      refine tr_iretz (pc := 18) dX10_isFrom_18 rfl (by omega) ?_
      first
      | rw [if_pos (by omega)]; exact ⟨rfl, rfl⟩
      | rw [if_neg (by omega)]; exact ⟨rfl, rfl⟩
theorem sp_X10_isIdeal {G : tk_G} {M : tk_M} {i : Int} : Spi G FX10_isIdeal [xI i] SF M (fun v M' => v = (if 0 ≤ i ∧ i ≤ 1 then 1 else 0) ∧ M' = M) := by
  refine Spi.of _ mtX10_isIdeal nlX10_isIdeal (Nat.le_of_ble_eq_true rfl) ?_
  show Ok G FX10_isIdeal 0 [xI i] [] SF M 0 0 _
  refine tr_iload_n (pc := 0) dX10_isIdeal_0 rfl ?_
  refine tr_i2l (pc := 1) dX10_isIdeal_1 ?_
  refine tr_lconst (pc := 2) (x := 0) dX10_isIdeal_2 (by decide) ⟨by decide, by decide⟩ ?_
  refine tr_lconst (pc := 3) (x := 1) dX10_isIdeal_3 (by decide) ⟨by decide, by decide⟩ ?_
  refine tr_cSi3 (pc := 4) dX10_isIdeal_4 mtX10_isFrom ls10_115 rfl ⟨(Nat.le_of_ble_eq_true rfl), (Nat.le_of_ble_eq_true rfl)⟩ nlX10_isFrom (Nat.le_of_ble_eq_true rfl) ⟨(Nat.le_of_ble_eq_true rfl), (Nat.le_of_ble_eq_true rfl)⟩ (sp_X10_isFrom) (fun r4 M4 h4 => ?_)
  obtain ⟨hr4, hM4⟩ := h4
  obtain rfl := hr4.symm
  obtain rfl := hM4.symm
  refine tr_iretz (pc := 7) dX10_isIdeal_7 rfl (by omega) ?_
  exact ⟨rfl, rfl⟩
theorem sp_X10_isPower {G : tk_G} {M : tk_M} {i : Int} : Spi G FX10_isPower [xI i] SF M (fun v M' => v = (if 0 ≤ i ∧ i ≤ 9 then 1 else 0) ∧ M' = M) := by
  refine Spi.of _ mtX10_isPower nlX10_isPower (Nat.le_of_ble_eq_true rfl) ?_
  show Ok G FX10_isPower 0 [xI i] [] SF M 0 0 _
  refine tr_iload_n (pc := 0) dX10_isPower_0 rfl ?_
  refine tr_i2l (pc := 1) dX10_isPower_1 ?_
  refine tr_lconst (pc := 2) (x := 0) dX10_isPower_2 (by decide) ⟨by decide, by decide⟩ ?_
  refine tr_ldc2 (pc := 3) dX10_isPower_3 kn10_119 ⟨by decide, by decide⟩ ?_
  refine tr_cSi3 (pc := 6) dX10_isPower_6 mtX10_isFrom ls10_115 rfl ⟨(Nat.le_of_ble_eq_true rfl), (Nat.le_of_ble_eq_true rfl)⟩ nlX10_isFrom (Nat.le_of_ble_eq_true rfl) ⟨(Nat.le_of_ble_eq_true rfl), (Nat.le_of_ble_eq_true rfl)⟩ (sp_X10_isFrom) (fun r6 M6 h6 => ?_)
  obtain ⟨hr6, hM6⟩ := h6
  obtain rfl := hr6.symm
  obtain rfl := hM6.symm
  refine tr_iretz (pc := 9) dX10_isPower_9 rfl (by omega) ?_
  exact ⟨rfl, rfl⟩
theorem sp_X10_isTape {G : tk_G} {M : tk_M} {i : Int} : Spi G FX10_isTape [xI i] SF M (fun v M' => v = (if 0 ≤ i ∧ i ≤ 5 then 1 else 0) ∧ M' = M) := by
  refine Spi.of _ mtX10_isTape nlX10_isTape (Nat.le_of_ble_eq_true rfl) ?_
  show Ok G FX10_isTape 0 [xI i] [] SF M 0 0 _
  refine tr_iload_n (pc := 0) dX10_isTape_0 rfl ?_
  refine tr_i2l (pc := 1) dX10_isTape_1 ?_
  refine tr_lconst (pc := 2) (x := 0) dX10_isTape_2 (by decide) ⟨by decide, by decide⟩ ?_
  refine tr_ldc2 (pc := 3) dX10_isTape_3 kn10_331 ⟨by decide, by decide⟩ ?_
  refine tr_cSi3 (pc := 6) dX10_isTape_6 mtX10_isFrom ls10_115 rfl ⟨(Nat.le_of_ble_eq_true rfl), (Nat.le_of_ble_eq_true rfl)⟩ nlX10_isFrom (Nat.le_of_ble_eq_true rfl) ⟨(Nat.le_of_ble_eq_true rfl), (Nat.le_of_ble_eq_true rfl)⟩ (sp_X10_isFrom) (fun r6 M6 h6 => ?_)
  obtain ⟨hr6, hM6⟩ := h6
  obtain rfl := hr6.symm
  obtain rfl := hM6.symm
  refine tr_iretz (pc := 9) dX10_isTape_9 rfl (by omega) ?_
  exact ⟨rfl, rfl⟩
theorem sp_X10_isFraction {G : tk_G} {M : tk_M} {a b : Int} : Spi G FX10_isFraction [xI a, xI b] SF M (fun v M' => v = (if (1 ≤ a ∧ a ≤ 99) ∧ (1 ≤ b ∧ b ≤ 99) then 1 else 0) ∧ M' = M) := by
  refine Spi.of _ mtX10_isFraction nlX10_isFraction (Nat.le_of_ble_eq_true rfl) ?_
  show Ok G FX10_isFraction 0 [xI a, xI b] [] SF M 0 0 _
  refine tr_iload_n (pc := 0) dX10_isFraction_0 rfl ?_
  refine tr_i2l (pc := 1) dX10_isFraction_1 ?_
  refine tr_lconst (pc := 2) (x := 1) dX10_isFraction_2 (by decide) ⟨by decide, by decide⟩ ?_
  refine tr_ldc2 (pc := 3) dX10_isFraction_3 kn10_263 ⟨by decide, by decide⟩ ?_
  refine tr_cSi3 (pc := 6) dX10_isFraction_6 mtX10_isFrom ls10_115 rfl ⟨(Nat.le_of_ble_eq_true rfl), (Nat.le_of_ble_eq_true rfl)⟩ nlX10_isFrom (Nat.le_of_ble_eq_true rfl) ⟨(Nat.le_of_ble_eq_true rfl), (Nat.le_of_ble_eq_true rfl)⟩ (sp_X10_isFrom) (fun r6 M6 h6 => ?_)
  obtain ⟨hr6, hM6⟩ := h6
  obtain rfl := hr6.symm
  obtain rfl := hM6.symm
  refine tr_ifeq (pc := 9) (tgt := 28) dX10_isFraction_9 (by decide) (fun c9 => ?_) (fun c9 => ?_)
  · skip
    refine tr_iconst (pc := 28) dX10_isFraction_28 ⟨by decide, by decide⟩ ?_
    refine tr_iretz (pc := 29) dX10_isFraction_29 rfl (by omega) ?_
    exact ⟨by omega, rfl⟩
  · skip
    refine tr_iload_n (pc := 12) dX10_isFraction_12 rfl ?_
    refine tr_i2l (pc := 13) dX10_isFraction_13 ?_
    refine tr_lconst (pc := 14) (x := 1) dX10_isFraction_14 (by decide) ⟨by decide, by decide⟩ ?_
    refine tr_ldc2 (pc := 15) dX10_isFraction_15 kn10_263 ⟨by decide, by decide⟩ ?_
    refine tr_cSi3 (pc := 18) dX10_isFraction_18 mtX10_isFrom ls10_115 rfl ⟨(Nat.le_of_ble_eq_true rfl), (Nat.le_of_ble_eq_true rfl)⟩ nlX10_isFrom (Nat.le_of_ble_eq_true rfl) ⟨(Nat.le_of_ble_eq_true rfl), (Nat.le_of_ble_eq_true rfl)⟩ (sp_X10_isFrom) (fun r18 M18 h18 => ?_)
    obtain ⟨hr18, hM18⟩ := h18
    obtain rfl := hr18.symm
    obtain rfl := hM18.symm
    refine tr_ifeq (pc := 21) (tgt := 28) dX10_isFraction_21 (by decide) (fun c21 => ?_) (fun c21 => ?_)
    · skip
      refine tr_iconst (pc := 28) dX10_isFraction_28 ⟨by decide, by decide⟩ ?_
      refine tr_iretz (pc := 29) dX10_isFraction_29 rfl (by omega) ?_
      exact ⟨by omega, rfl⟩
    · skip
      refine tr_iconst (pc := 24) dX10_isFraction_24 ⟨by decide, by decide⟩ ?_
      refine tr_goto (pc := 25) (tgt := 29) dX10_isFraction_25 (by decide) ?_
      refine tr_iretz (pc := 29) dX10_isFraction_29 rfl (by omega) ?_
      exact ⟨by omega, rfl⟩
theorem sp_X10_divisor {G : tk_G} {M : tk_M} {x y : Int} (hx : 0 ≤ x) (hx1 : x ≤ 1000) (hy : 0 ≤ y) (hy1 : y ≤ 1000) : Spl G FX10_divisor [xL x, xL y] SF M (fun v M' => v = eg 24 x y ∧ M' = M) := by
  refine Spl.of _ mtX10_divisor nlX10_divisor (Nat.le_of_ble_eq_true rfl) ?_
  show Ok G FX10_divisor 0 [xL x, xU, xL y, xU, xU, xU, xU, xU, xU, xU] [] SF M 0 0 _
  have loop : ∀ (d : Nat) (g r : Int) (v8 v9 : tk_V), 0 ≤ g → 0 ≤ r → ec d g r → Ok G FX10_divisor 6 [xL x, xU, xL y, xU, xL g, xU, xL r, xU, v8, v9] [] SF M 0 0 (tk_ql SF (fun v M' => v = eg d g r ∧ M' = M)) := by
    intro d
    induction d with
    | zero =>
      intro g r v8 v9 hg hr he
      have he : r = 0 := he
      refine tr_lload (pc := 6) dX10_divisor_6 rfl ?_
      refine tr_lconst (pc := 8) (x := 0) dX10_divisor_8 (by decide) ⟨by decide, by decide⟩ ?_
      refine tr_lceq (pc := 9) (tgt := 31) dX10_divisor_9 dX10_divisor_10 (by decide) (fun c9 => ?_) (fun c9 => absurd c9 (by omega))
      refine tr_lload (pc := 31) dX10_divisor_31 rfl ?_
      refine tr_lret (pc := 33) dX10_divisor_33 rfl ?_
      exact ⟨rfl, rfl⟩
    | succ d ih =>
      intro g r v8 v9 hg hr he
      unfold ec at he
      unfold eg
      refine tr_lload (pc := 6) dX10_divisor_6 rfl ?_
      refine tr_lconst (pc := 8) (x := 0) dX10_divisor_8 (by decide) ⟨by decide, by decide⟩ ?_
      refine tr_lceq (pc := 9) (tgt := 31) dX10_divisor_9 dX10_divisor_10 (by decide) (fun c9 => ?_) (fun c9 => ?_)
      · skip
        refine tr_lload (pc := 31) dX10_divisor_31 rfl ?_
        refine tr_lret (pc := 33) dX10_divisor_33 rfl ?_
        rw [if_pos (by omega)]
        exact ⟨rfl, rfl⟩
      · skip
        refine tr_lload (pc := 13) dX10_divisor_13 rfl ?_
        refine tr_lload (pc := 15) dX10_divisor_15 rfl ?_
        refine tr_lrem (pc := 17) dX10_divisor_17 hg (by omega) ?_
        refine tr_lstore (pc := 18) dX10_divisor_18 rfl (Nat.le_of_ble_eq_true rfl) ?_
        dsimp only [List.set]
        refine tr_lload (pc := 20) dX10_divisor_20 rfl ?_
        refine tr_lstore (pc := 22) dX10_divisor_22 rfl (Nat.le_of_ble_eq_true rfl) ?_
        dsimp only [List.set]
        refine tr_lload (pc := 24) dX10_divisor_24 rfl ?_
        refine tr_lstore (pc := 26) dX10_divisor_26 rfl (Nat.le_of_ble_eq_true rfl) ?_
        dsimp only [List.set]
        refine tr_goto (pc := 28) (tgt := 6) dX10_divisor_28 (by decide) ?_
        rw [if_neg (by omega)]
        exact ih r (g % r) _ _ (by omega) (Int.emod_nonneg g (by omega)) (he.resolve_left (by omega))
  refine tr_lload_n (pc := 0) dX10_divisor_0 rfl ?_
  refine tr_lstore (pc := 1) dX10_divisor_1 rfl (Nat.le_of_ble_eq_true rfl) ?_
  dsimp only [List.set]
  refine tr_lload_n (pc := 3) dX10_divisor_3 rfl ?_
  refine tr_lstore (pc := 4) dX10_divisor_4 rfl (Nat.le_of_ble_eq_true rfl) ?_
  dsimp only [List.set]
  exact loop 24 x y _ _ hx hy (ec_24 hx hx1 hy hy1)
theorem sp_X10_part {G : tk_G} {M : tk_M} {x y p : Int} (hx : 0 ≤ x) (hx1 : x ≤ 1000) (hy : 1 ≤ y) (hy1 : y ≤ 1000) : Spl G FX10_part [xL x, xL y, xI p] SF M (fun v M' => v = lows x y p ∧ M' = M) := by
  refine Spl.of _ mtX10_part nlX10_part (Nat.le_of_ble_eq_true rfl) ?_
  show Ok G FX10_part 0 [xL x, xU, xL y, xU, xI p, xU, xU] [] SF M 0 0 _
  have hp := eg_pos 24 x y (by omega) hx (Or.inr (by omega)) (ec_24 hx hx1 (by omega) hy1)
  refine tr_lload_n (pc := 0) dX10_part_0 rfl ?_
  refine tr_lload_n (pc := 1) dX10_part_1 rfl ?_
  refine tr_cSl2 (pc := 2) dX10_part_2 mtX10_divisor ls10_121 rfl ⟨(Nat.le_of_ble_eq_true rfl), (Nat.le_of_ble_eq_true rfl)⟩ nlX10_divisor (Nat.le_of_ble_eq_true rfl) ⟨(Nat.le_of_ble_eq_true rfl), (Nat.le_of_ble_eq_true rfl)⟩ (sp_X10_divisor hx hx1 (by omega) hy1) (fun r2 M2 h2 => ?_)
  obtain ⟨hr2, hM2⟩ := h2
  obtain rfl := hr2.symm
  obtain rfl := hM2.symm
  refine tr_lstore (pc := 5) dX10_part_5 rfl (Nat.le_of_ble_eq_true rfl) ?_
  dsimp only [List.set]
  refine tr_iload (pc := 7) dX10_part_7 rfl ?_
  refine tr_ifne (pc := 9) (tgt := 19) dX10_part_9 (by decide) (fun c9 => ?_) (fun c9 => ?_)
  · skip
    refine tr_lload_n (pc := 19) dX10_part_19 rfl ?_
    refine tr_lload (pc := 20) dX10_part_20 rfl ?_
    refine tr_ldiv (pc := 22) dX10_part_22 (by omega) (by omega) ?_
    refine tr_lret (pc := 23) dX10_part_23 rfl ?_
    exact ⟨by unfold lows; split <;> first | rfl | omega, rfl⟩
  · skip
    refine tr_lload_n (pc := 12) dX10_part_12 rfl ?_
    refine tr_lload (pc := 13) dX10_part_13 rfl ?_
    refine tr_ldiv (pc := 15) dX10_part_15 (by omega) (by omega) ?_
    refine tr_goto (pc := 16) (tgt := 23) dX10_part_16 (by decide) ?_
    refine tr_lret (pc := 23) dX10_part_23 rfl ?_
    exact ⟨by unfold lows; split <;> first | rfl | omega, rfl⟩
theorem sp_X10_a {G : tk_G} {M : tk_M} {i k : Int} (hi : 0 ≤ i ∧ i ≤ 2) (h0 : 0 ≤ k) (h1 : k < 6) : Spi G FX10_a [xR 101, xI i, xI k] SF M (fun v M' => v = M 103 (6 * i + k) ∧ M' = M) := by
  refine Spi.of _ mtX10_a nlX10_a (Nat.le_of_ble_eq_true rfl) ?_
  show Ok G FX10_a 0 [xR 101, xI i, xI k] [] SF M 0 0 _
  refine tr_aload_n (pc := 0) dX10_a_0 rfl (by decide) ?_
  refine tr_getr (pc := 1) (x := 103) dX10_a_1 fi10_15 rfl sg101 rfl ?_
  refine tr_bipush (pc := 4) dX10_a_4 ⟨by decide, ⟨by decide, by decide⟩⟩ ?_
  refine tr_iload_n (pc := 6) dX10_a_6 rfl ?_
  refine tr_imul (pc := 7) dX10_a_7 ⟨by omega, by omega⟩ ?_
  refine tr_iload_n (pc := 8) dX10_a_8 rfl ?_
  refine tr_iadd (pc := 9) dX10_a_9 ⟨by omega, by omega⟩ ?_
  refine tr_iald (pc := 10) dX10_a_10 sg103 (by omega) (by omega) ?_
  refine tr_ireti (pc := 11) dX10_a_11 rfl ?_
  exact ⟨rfl, rfl⟩
theorem sp_X10_b {G : tk_G} {M : tk_M} {i k : Int} (hi : 0 ≤ i ∧ i ≤ 2) (h0 : 0 ≤ k) (h1 : k < 6) : Spi G FX10_b [xR 101, xI i, xI k] SF M (fun v M' => v = M 104 (6 * i + k) ∧ M' = M) := by
  refine Spi.of _ mtX10_b nlX10_b (Nat.le_of_ble_eq_true rfl) ?_
  show Ok G FX10_b 0 [xR 101, xI i, xI k] [] SF M 0 0 _
  refine tr_aload_n (pc := 0) dX10_b_0 rfl (by decide) ?_
  refine tr_getr (pc := 1) (x := 104) dX10_b_1 fi10_18 rfl sg101 rfl ?_
  refine tr_bipush (pc := 4) dX10_b_4 ⟨by decide, ⟨by decide, by decide⟩⟩ ?_
  refine tr_iload_n (pc := 6) dX10_b_6 rfl ?_
  refine tr_imul (pc := 7) dX10_b_7 ⟨by omega, by omega⟩ ?_
  refine tr_iload_n (pc := 8) dX10_b_8 rfl ?_
  refine tr_iadd (pc := 9) dX10_b_9 ⟨by omega, by omega⟩ ?_
  refine tr_iald (pc := 10) dX10_b_10 sg104 (by omega) (by omega) ?_
  refine tr_ireti (pc := 11) dX10_b_11 rfl ?_
  exact ⟨rfl, rfl⟩
theorem sp_ra {G : tk_G} {M : tk_M} {i k p : Int} (hi : 0 ≤ i ∧ i ≤ 2) (h0 : 0 ≤ k) (h1 : k < 6) (hp : M 103 (6 * i + k) = p) : Spi G FX10_a [xR 101, xI i, xI k] SF M (fun v M' => v = p ∧ M' = M) := by
  subst hp; exact sp_X10_a hi h0 h1
theorem sp_rb {G : tk_G} {M : tk_M} {i k p : Int} (hi : 0 ≤ i ∧ i ≤ 2) (h0 : 0 ≤ k) (h1 : k < 6) (hp : M 104 (6 * i + k) = p) : Spi G FX10_b [xR 101, xI i, xI k] SF M (fun v M' => v = p ∧ M' = M) := by
  subst hp; exact sp_X10_b hi h0 h1
theorem sp_X10_which {G : tk_G} {M : tk_M} {i a b : Int} {g : List (Int × Int)} (hi : 0 ≤ i ∧ i ≤ 2) (hg : rg_at M i g) : Spi G FX10_which [xR 101, xI i, xI a, xI b] SF M (fun v M' => v = ig_find a b 0 g ∧ M' = M) := by
  refine Spi.of _ mtX10_which nlX10_which (Nat.le_of_ble_eq_true rfl) ?_
  show Ok G FX10_which 0 [xR 101, xI i, xI a, xI b, xU] [] SF M 0 0 _
  obtain ⟨hg, h6⟩ := hg
  have loop : ∀ (g : List (Int × Int)) (k : Int), 0 ≤ k → ig_seg (fun k => M 103 (6 * i + k)) (fun k => M 104 (6 * i + k)) (M 102 i) k g → Ok G FX10_which 3 [xR 101, xI i, xI a, xI b, xI k] [] SF M 0 0 (tk_qi SF (fun v M' => v = ig_find a b k g ∧ M' = M)) := by
    intro g
    induction g with
    | nil =>
      intro k hk hs
      have hs : k = M 102 i := hs
      refine tr_iload (pc := 3) dX10_which_3 rfl ?_
      refine tr_aload_n (pc := 5) dX10_which_5 rfl (by decide) ?_
      refine tr_getr (pc := 6) (x := 102) dX10_which_6 fi10_11 rfl sg101 rfl ?_
      refine tr_iload_n (pc := 9) dX10_which_9 rfl ?_
      refine tr_iald (pc := 10) dX10_which_10 sg102 (by omega) (by omega) ?_
      refine tr_icmpge (pc := 11) (tgt := 45) dX10_which_11 (by decide) (fun c11 => ?_) (fun c11 => absurd c11 (by omega))
      refine tr_iconst (pc := 45) dX10_which_45 ⟨by decide, by decide⟩ ?_
      refine tr_ireti (pc := 46) dX10_which_46 rfl ?_
      exact ⟨rfl, rfl⟩
    | cons q t ih =>
      intro k hk hs
      obtain ⟨p, q⟩ := q
      obtain ⟨e1, e2, b1, b2, b3, b4, hlt, hs⟩ := hs
      refine tr_iload (pc := 3) dX10_which_3 rfl ?_
      refine tr_aload_n (pc := 5) dX10_which_5 rfl (by decide) ?_
      refine tr_getr (pc := 6) (x := 102) dX10_which_6 fi10_11 rfl sg101 rfl ?_
      refine tr_iload_n (pc := 9) dX10_which_9 rfl ?_
      refine tr_iald (pc := 10) dX10_which_10 sg102 (by omega) (by omega) ?_
      refine tr_icmpge (pc := 11) (tgt := 45) dX10_which_11 (by decide) (fun c11 => absurd c11 (by omega)) (fun c11 => ?_)
      refine tr_aload_n (pc := 14) dX10_which_14 rfl (by decide) ?_
      refine tr_iload_n (pc := 15) dX10_which_15 rfl ?_
      refine tr_iload (pc := 16) dX10_which_16 rfl ?_
      refine tr_cVi2 (pc := 18) dX10_which_18 mtX10_a lv10_125 rfl sg101 kc10 ⟨(Nat.le_of_ble_eq_true rfl), (Nat.le_of_ble_eq_true rfl)⟩ nlX10_a (Nat.le_of_ble_eq_true rfl) ⟨(Nat.le_of_ble_eq_true rfl), (Nat.le_of_ble_eq_true rfl)⟩ (sp_ra hi hk (by omega) e1) (fun r18 M18 h18 => ?_)
      obtain ⟨hr18, hM18⟩ := h18
      obtain rfl := hr18.symm
      obtain rfl := hM18.symm
      refine tr_iload_n (pc := 21) dX10_which_21 rfl ?_
      refine tr_icmpne (pc := 22) (tgt := 39) dX10_which_22 (by decide) (fun c22 => ?_) (fun c22 => ?_)
      · skip
        refine tr_iinc (pc := 39) dX10_which_39 rfl rfl ⟨by omega, by omega⟩ ?_
        dsimp only [List.set]
        refine tr_goto (pc := 42) (tgt := 3) dX10_which_42 (by decide) ?_
        have := ih (k + 1) (by omega) hs
        rw [show ig_find a b k ((p, q) :: t) = ig_find a b (k + 1) t from if_neg (by omega)]
        exact this
      · skip
        refine tr_aload_n (pc := 25) dX10_which_25 rfl (by decide) ?_
        refine tr_iload_n (pc := 26) dX10_which_26 rfl ?_
        refine tr_iload (pc := 27) dX10_which_27 rfl ?_
        refine tr_cVi2 (pc := 29) dX10_which_29 mtX10_b lv10_129 rfl sg101 kc10 ⟨(Nat.le_of_ble_eq_true rfl), (Nat.le_of_ble_eq_true rfl)⟩ nlX10_b (Nat.le_of_ble_eq_true rfl) ⟨(Nat.le_of_ble_eq_true rfl), (Nat.le_of_ble_eq_true rfl)⟩ (sp_rb hi hk (by omega) e2) (fun r29 M29 h29 => ?_)
        obtain ⟨hr29, hM29⟩ := h29
        obtain rfl := hr29.symm
        obtain rfl := hM29.symm
        refine tr_iload_n (pc := 32) dX10_which_32 rfl ?_
        refine tr_icmpne (pc := 33) (tgt := 39) dX10_which_33 (by decide) (fun c33 => ?_) (fun c33 => ?_)
        · skip
          refine tr_iinc (pc := 39) dX10_which_39 rfl rfl ⟨by omega, by omega⟩ ?_
          dsimp only [List.set]
          refine tr_goto (pc := 42) (tgt := 3) dX10_which_42 (by decide) ?_
          have := ih (k + 1) (by omega) hs
          rw [show ig_find a b k ((p, q) :: t) = ig_find a b (k + 1) t from if_neg (by omega)]
          exact this
        · skip
          refine tr_iload (pc := 36) dX10_which_36 rfl ?_
          refine tr_ireti (pc := 38) dX10_which_38 rfl ?_
          exact ⟨(if_pos (by omega)).symm, rfl⟩
  refine tr_iconst (pc := 0) dX10_which_0 ⟨by decide, by decide⟩ ?_
  refine tr_istore (pc := 1) dX10_which_1 rfl (Nat.le_of_ble_eq_true rfl) ?_
  dsimp only [List.set]
  exact loop g 0 (by omega) hg
theorem sp_X10_comes {G : tk_G} {M : tk_M} {i a b : Int} {g : List (Int × Int)} (hi : 0 ≤ i ∧ i ≤ 2) (hg : rg_at M i g) (hl : g.length < 6) (h1 : 0 ≤ a) (h2 : a ≤ 9) (h3 : 0 ≤ b) (h4 : b ≤ 9) : Spv G FX10_comes [xR 101, xI i, xI a, xI b] SF M (fun M' => rg_at M' i (g ++ [(a, b)]) ∧ rfr M M' i) := by
  have hln := hg.len
  refine Spv.of _ mtX10_comes nlX10_comes (Nat.le_of_ble_eq_true rfl) ?_
  show Ok G FX10_comes 0 [xR 101, xI i, xI a, xI b] [] SF M 0 0 _
  refine tr_aload_n (pc := 0) dX10_comes_0 rfl (by decide) ?_
  refine tr_getr (pc := 1) (x := 103) dX10_comes_1 fi10_15 rfl sg101 rfl ?_
  refine tr_bipush (pc := 4) dX10_comes_4 ⟨by decide, ⟨by decide, by decide⟩⟩ ?_
  refine tr_iload_n (pc := 6) dX10_comes_6 rfl ?_
  refine tr_imul (pc := 7) dX10_comes_7 ⟨by omega, by omega⟩ ?_
  refine tr_aload_n (pc := 8) dX10_comes_8 rfl (by decide) ?_
  refine tr_getr (pc := 9) (x := 102) dX10_comes_9 fi10_11 rfl sg101 rfl ?_
  refine tr_iload_n (pc := 12) dX10_comes_12 rfl ?_
  refine tr_iald (pc := 13) dX10_comes_13 sg102 (by omega) (by omega) ?_
  refine tr_iadd (pc := 14) dX10_comes_14 ⟨by omega, by omega⟩ ?_
  refine tr_iload_n (pc := 15) dX10_comes_15 rfl ?_
  refine tr_iast (pc := 16) dX10_comes_16 sg103 (by omega) (by omega) ?_
  refine tr_aload_n (pc := 17) dX10_comes_17 rfl (by decide) ?_
  refine tr_getr (pc := 18) (x := 104) dX10_comes_18 fi10_18 rfl sg101 rfl ?_
  refine tr_bipush (pc := 21) dX10_comes_21 ⟨by decide, ⟨by decide, by decide⟩⟩ ?_
  refine tr_iload_n (pc := 23) dX10_comes_23 rfl ?_
  refine tr_imul (pc := 24) dX10_comes_24 ⟨by omega, by omega⟩ ?_
  refine tr_aload_n (pc := 25) dX10_comes_25 rfl (by decide) ?_
  refine tr_getr (pc := 26) (x := 102) dX10_comes_26 fi10_11 rfl sg101 rfl ?_
  refine tr_iload_n (pc := 29) dX10_comes_29 rfl ?_
  refine tr_ialdv (pc := 30) (x := M 102 i) dX10_comes_30 sg102 (by omega) (by omega) (by rw [tk_mu_c (by omega)]) ?_
  refine tr_iadd (pc := 31) dX10_comes_31 ⟨by omega, by omega⟩ ?_
  refine tr_iload_n (pc := 32) dX10_comes_32 rfl ?_
  refine tr_iast (pc := 33) dX10_comes_33 sg104 (by omega) (by omega) ?_
  refine tr_aload_n (pc := 34) dX10_comes_34 rfl (by decide) ?_
  refine tr_getr (pc := 35) (x := 102) dX10_comes_35 fi10_11 rfl sg101 rfl ?_
  refine tr_iload_n (pc := 38) dX10_comes_38 rfl ?_
  refine tr_dup2 (pc := 39) dX10_comes_39 (fun h => by cases h) (fun h => by cases h) ?_
  refine tr_ialdv (pc := 40) (x := M 102 i) dX10_comes_40 sg102 (by omega) (by omega) (by rw [tk_mu_c (by omega), tk_mu_c (by omega)]) ?_
  refine tr_iconst (pc := 41) dX10_comes_41 ⟨by decide, by decide⟩ ?_
  refine tr_iadd (pc := 42) dX10_comes_42 ⟨by omega, by omega⟩ ?_
  refine tr_iast (pc := 43) dX10_comes_43 sg102 (by omega) (by omega) ?_
  refine tr_vret (pc := 44) dX10_comes_44 rfl ?_
  refine ⟨⟨?_, ?_⟩, fun c a1 a2 a3 => ?_, fun j hj => ?_, fun p hp => ?_⟩
  · rw [tk_mu_at]
    exact ig_seg_snoc (by (first | (simp only [tk_mu_eq, and_self, and_true, true_and, false_and, and_false, if_true, if_false, ↓reduceIte, reduceCtorEq]; done) | (simp only [tk_mu_eq, and_self, and_true, true_and, false_and, and_false, if_true, if_false, ↓reduceIte, reduceCtorEq]; omega))) (by (first | (simp only [tk_mu_eq, and_self, and_true, true_and, false_and, and_false, if_true, if_false, ↓reduceIte, reduceCtorEq]; done) | (simp only [tk_mu_eq, and_self, and_true, true_and, false_and, and_false, if_true, if_false, ↓reduceIte, reduceCtorEq]; omega))) h1 h2 h3 h4 g 0 (ig_seg_congr g 0 (fun k k0 k1 => by (first | (simp only [tk_mu_eq, and_self, and_true, true_and, false_and, and_false, if_true, if_false, ↓reduceIte, reduceCtorEq]; done) | (simp only [tk_mu_eq, and_self, and_true, true_and, false_and, and_false, if_true, if_false, ↓reduceIte, reduceCtorEq]; omega))) hg.1)
  · rw [tk_mu_at]; omega
  · rw [tk_mu_c a1, tk_mu_c a3, tk_mu_c a2]
  · (first | (simp only [tk_mu_eq, and_self, and_true, true_and, false_and, and_false, if_true, if_false, ↓reduceIte, reduceCtorEq]; done) | (simp only [tk_mu_eq, and_self, and_true, true_and, false_and, and_false, if_true, if_false, ↓reduceIte, reduceCtorEq]; omega))
  · (first | (simp only [tk_mu_eq, and_self, and_true, true_and, false_and, and_false, if_true, if_false, ↓reduceIte, reduceCtorEq]; done) | (simp only [tk_mu_eq, and_self, and_true, true_and, false_and, and_false, if_true, if_false, ↓reduceIte, reduceCtorEq]; omega))
theorem sp_X10_goes {G : tk_G} {M : tk_M} {i j : Int} {g : List (Int × Int)} (hi : 0 ≤ i ∧ i ≤ 2) (hg : rg_at M i g) (hj : 0 ≤ j ∧ j < g.length) : Spv G FX10_goes [xR 101, xI i, xI j] SF M (fun M' => rg_at M' i (g.eraseIdx j.toNat) ∧ rfr M M' i) := by
  have hln := hg.len
  obtain ⟨hg, h6⟩ := hg
  refine Spv.of _ mtX10_goes nlX10_goes (Nat.le_of_ble_eq_true rfl) ?_
  show Ok G FX10_goes 0 [xR 101, xI i, xI j, xU] [] SF M 0 0 _
  have loop : ∀ (d : Nat) (x : Int) (M1 : tk_M), M 102 i - 1 - x = d → j ≤ x → (∀ c, c < 6 * i + j ∨ 6 * i + x ≤ c → M1 103 c = M 103 c ∧ M1 104 c = M 104 c) → (∀ c, 6 * i + j ≤ c → c < 6 * i + x → M1 103 c = M 103 (c + 1) ∧ M1 104 c = M 104 (c + 1)) → (∀ c, c ≠ 103 → c ≠ 104 → M1 c = M c) →
      Ok G FX10_goes 7 [xR 101, xI i, xI j, xI (6 * i + x)] [] SF M1 0 0 (tk_qv SF (fun M' => rg_at M' i (g.eraseIdx j.toNat) ∧ rfr M M' i)) := by
    intro d
    induction d with
    | zero =>
      intro x M1 hd hx a1 a2 a3
      have hz2 : M1 102 i = M 102 i := by rw [a3 102 (by omega) (by omega)]
      refine tr_iload_n (pc := 7) dX10_goes_7 rfl ?_
      refine tr_bipush (pc := 8) dX10_goes_8 ⟨by decide, ⟨by decide, by decide⟩⟩ ?_
      refine tr_iload_n (pc := 10) dX10_goes_10 rfl ?_
      refine tr_imul (pc := 11) dX10_goes_11 ⟨by omega, by omega⟩ ?_
      refine tr_aload_n (pc := 12) dX10_goes_12 rfl (by decide) ?_
      refine tr_getr (pc := 13) (x := 102) dX10_goes_13 fi10_11 rfl sg101 rfl ?_
      refine tr_iload_n (pc := 16) dX10_goes_16 rfl ?_
      refine tr_ialdv (pc := 17) (x := M 102 i) dX10_goes_17 sg102 (by omega) (by omega) (hz2) ?_
      refine tr_iadd (pc := 18) dX10_goes_18 ⟨by omega, by omega⟩ ?_
      refine tr_iconst (pc := 19) dX10_goes_19 ⟨by decide, by decide⟩ ?_
      refine tr_isub (pc := 20) dX10_goes_20 ⟨by omega, by omega⟩ ?_
      refine tr_icmpge (pc := 21) (tgt := 58) dX10_goes_21 (by decide) (fun c21 => ?_) (fun c21 => absurd c21 (by omega))
      refine tr_aload_n (pc := 58) dX10_goes_58 rfl (by decide) ?_
      refine tr_getr (pc := 59) (x := 102) dX10_goes_59 fi10_11 rfl sg101 rfl ?_
      refine tr_iload_n (pc := 62) dX10_goes_62 rfl ?_
      refine tr_dup2 (pc := 63) dX10_goes_63 (fun h => by cases h) (fun h => by cases h) ?_
      refine tr_ialdv (pc := 64) (x := M 102 i) dX10_goes_64 sg102 (by omega) (by omega) (hz2) ?_
      refine tr_iconst (pc := 65) dX10_goes_65 ⟨by decide, by decide⟩ ?_
      refine tr_isub (pc := 66) dX10_goes_66 ⟨by omega, by omega⟩ ?_
      refine tr_iast (pc := 67) dX10_goes_67 sg102 (by omega) (by omega) ?_
      refine tr_vret (pc := 68) dX10_goes_68 rfl ?_
      refine ⟨⟨?_, ?_⟩, fun c b1 b2 b3 => ?_, fun j hj => ?_, fun p hp => ?_⟩
      · rw [tk_mu_at]
        have h9 := ig_seg_erase (A' := fun k => M1 103 (6 * i + k)) (B' := fun k => M1 104 (6 * i + k)) g 0 hg hj.1 (by omega) (fun c _ hc => a1 _ (by omega)) (fun c hc1 hc2 => by
          have := a2 (6 * i + c) (by omega) (by omega)
          rw [show 6 * i + c + 1 = 6 * i + (c + 1) by omega] at this
          exact this)
        rw [Int.sub_zero] at h9
        refine ig_seg_congr _ 0 (fun k k0 k1 => ?_) h9
        rw [tk_mu_c (by omega), tk_mu_c (by omega)]
        exact ⟨rfl, rfl⟩
      · rw [tk_mu_at]; omega
      · rw [tk_mu_c b1]; exact a3 c b2 b3
      · rw [tk_mu_i hj, a3 102 (by omega) (by omega)]
      · rw [tk_mu_c (by omega), tk_mu_c (by omega)]
        exact a1 p (by omega)
    | succ d ih =>
      intro x M1 hd hx a1 a2 a3
      have hz2 : M1 102 i = M 102 i := by rw [a3 102 (by omega) (by omega)]
      refine tr_iload_n (pc := 7) dX10_goes_7 rfl ?_
      refine tr_bipush (pc := 8) dX10_goes_8 ⟨by decide, ⟨by decide, by decide⟩⟩ ?_
      refine tr_iload_n (pc := 10) dX10_goes_10 rfl ?_
      refine tr_imul (pc := 11) dX10_goes_11 ⟨by omega, by omega⟩ ?_
      refine tr_aload_n (pc := 12) dX10_goes_12 rfl (by decide) ?_
      refine tr_getr (pc := 13) (x := 102) dX10_goes_13 fi10_11 rfl sg101 rfl ?_
      refine tr_iload_n (pc := 16) dX10_goes_16 rfl ?_
      refine tr_ialdv (pc := 17) (x := M 102 i) dX10_goes_17 sg102 (by omega) (by omega) (hz2) ?_
      refine tr_iadd (pc := 18) dX10_goes_18 ⟨by omega, by omega⟩ ?_
      refine tr_iconst (pc := 19) dX10_goes_19 ⟨by decide, by decide⟩ ?_
      refine tr_isub (pc := 20) dX10_goes_20 ⟨by omega, by omega⟩ ?_
      refine tr_icmpge (pc := 21) (tgt := 58) dX10_goes_21 (by decide) (fun c21 => absurd c21 (by omega)) (fun c21 => ?_)
      refine tr_aload_n (pc := 24) dX10_goes_24 rfl (by decide) ?_
      refine tr_getr (pc := 25) (x := 103) dX10_goes_25 fi10_15 rfl sg101 rfl ?_
      refine tr_iload_n (pc := 28) dX10_goes_28 rfl ?_
      refine tr_aload_n (pc := 29) dX10_goes_29 rfl (by decide) ?_
      refine tr_getr (pc := 30) (x := 103) dX10_goes_30 fi10_15 rfl sg101 rfl ?_
      refine tr_iload_n (pc := 33) dX10_goes_33 rfl ?_
      refine tr_iconst (pc := 34) dX10_goes_34 ⟨by decide, by decide⟩ ?_
      refine tr_iadd (pc := 35) dX10_goes_35 ⟨by omega, by omega⟩ ?_
      refine tr_ialdv (pc := 36) (x := M 103 (6 * i + x + 1)) dX10_goes_36 sg103 (by omega) (by omega) ((a1 _ (by omega)).1) ?_
      refine tr_iast (pc := 37) dX10_goes_37 sg103 (by omega) (by omega) ?_
      refine tr_aload_n (pc := 38) dX10_goes_38 rfl (by decide) ?_
      refine tr_getr (pc := 39) (x := 104) dX10_goes_39 fi10_18 rfl sg101 rfl ?_
      refine tr_iload_n (pc := 42) dX10_goes_42 rfl ?_
      refine tr_aload_n (pc := 43) dX10_goes_43 rfl (by decide) ?_
      refine tr_getr (pc := 44) (x := 104) dX10_goes_44 fi10_18 rfl sg101 rfl ?_
      refine tr_iload_n (pc := 47) dX10_goes_47 rfl ?_
      refine tr_iconst (pc := 48) dX10_goes_48 ⟨by decide, by decide⟩ ?_
      refine tr_iadd (pc := 49) dX10_goes_49 ⟨by omega, by omega⟩ ?_
      refine tr_ialdv (pc := 50) (x := M 104 (6 * i + x + 1)) dX10_goes_50 sg104 (by omega) (by omega) (by rw [tk_mu_c (by omega)]; exact (a1 _ (by omega)).2) ?_
      refine tr_iast (pc := 51) dX10_goes_51 sg104 (by omega) (by omega) ?_
      refine tr_iinc (pc := 52) dX10_goes_52 rfl rfl ⟨by omega, by omega⟩ ?_
      dsimp only [List.set]
      refine tr_goto (pc := 55) (tgt := 7) dX10_goes_55 (by decide) ?_
      rw [show 6 * i + x + 1 = 6 * i + (x + 1) by omega]
      refine ih (x + 1) _ (by omega) (by omega) ?_ ?_ ?_
      · intro c hc
        rw [tk_mu_c (show (103 : Int) ≠ 104 by omega), tk_mu_i (by omega), tk_mu_i (by omega), tk_mu_c (show (104 : Int) ≠ 103 by omega)]
        exact a1 c (by omega)
      · intro c hc1 hc2
        by_cases hci : c = 6 * i + x
        · subst hci
          rw [tk_mu_c (show (103 : Int) ≠ 104 by omega), tk_mu_at, tk_mu_at, show 6 * i + x + 1 = 6 * i + (x + 1) by omega]
          exact ⟨rfl, rfl⟩
        · rw [tk_mu_c (show (103 : Int) ≠ 104 by omega), tk_mu_i hci, tk_mu_i hci, tk_mu_c (show (104 : Int) ≠ 103 by omega)]
          exact a2 c hc1 (by omega)
      · intro c b1 b2
        rw [tk_mu_c b2, tk_mu_c b1]; exact a3 c b1 b2
  refine tr_bipush (pc := 0) dX10_goes_0 ⟨by decide, ⟨by decide, by decide⟩⟩ ?_
  refine tr_iload_n (pc := 2) dX10_goes_2 rfl ?_
  refine tr_imul (pc := 3) dX10_goes_3 ⟨by omega, by omega⟩ ?_
  refine tr_iload_n (pc := 4) dX10_goes_4 rfl ?_
  refine tr_iadd (pc := 5) dX10_goes_5 ⟨by omega, by omega⟩ ?_
  refine tr_istore_n (pc := 6) dX10_goes_6 rfl (Nat.le_of_ble_eq_true rfl) ?_
  dsimp only [List.set]
  exact loop (M 102 i - 1 - j).toNat j M (by omega) (by omega) (fun _ _ => ⟨rfl, rfl⟩) (fun c h1 h2 => by omega) (fun _ _ _ => rfl)
theorem sp_X10_likens {G : tk_G} {M : tk_M} {i z : Int} {g : List (Int × Int)} (hi : 0 ≤ i ∧ i ≤ 2) (hz : 0 ≤ z ∧ z ≤ 2) (hiz : i ≠ z) (hg : rg_at M i g) : Spv G FX10_likens [xR 101, xI i, xI z] SF M (fun M' => rg_at M' z g ∧ rfr M M' z) := by
  refine Spv.of _ mtX10_likens nlX10_likens (Nat.le_of_ble_eq_true rfl) ?_
  show Ok G FX10_likens 0 [xR 101, xI i, xI z, xU] [] SF M 0 0 _
  have h6 := hg.2
  have loop : ∀ (d : Nat) (x : Int) (M1 : tk_M), x + d = 6 → 0 ≤ x → M1 102 z = M 102 i → (∀ c, 0 ≤ c → c < x → M1 103 (6 * z + c) = M 103 (6 * i + c) ∧ M1 104 (6 * z + c) = M 104 (6 * i + c)) → rfr M M1 z →
      Ok G FX10_likens 14 [xR 101, xI i, xI z, xI x] [] SF M1 0 0 (tk_qv SF (fun M' => rg_at M' z g ∧ rfr M M' z)) := by
    intro d
    induction d with
    | zero =>
      intro x M1 hd hx a0 a1 hf
      refine tr_iload_n (pc := 14) dX10_likens_14 rfl ?_
      refine tr_bipush (pc := 15) dX10_likens_15 ⟨by decide, ⟨by decide, by decide⟩⟩ ?_
      refine tr_icmpge (pc := 17) (tgt := 60) dX10_likens_17 (by decide) (fun c17 => ?_) (fun c17 => absurd c17 (by omega))
      refine tr_vret (pc := 60) dX10_likens_60 rfl ?_
      refine ⟨⟨?_, by omega⟩, hf⟩
      rw [a0]
      exact ig_seg_congr g 0 (fun k k0 k1 => a1 k k0 (by omega)) hg.1
    | succ d ih =>
      intro x M1 hd hx a0 a1 hf
      refine tr_iload_n (pc := 14) dX10_likens_14 rfl ?_
      refine tr_bipush (pc := 15) dX10_likens_15 ⟨by decide, ⟨by decide, by decide⟩⟩ ?_
      refine tr_icmpge (pc := 17) (tgt := 60) dX10_likens_17 (by decide) (fun c17 => absurd c17 (by omega)) (fun c17 => ?_)
      refine tr_aload_n (pc := 20) dX10_likens_20 rfl (by decide) ?_
      refine tr_getr (pc := 21) (x := 103) dX10_likens_21 fi10_15 rfl sg101 rfl ?_
      refine tr_bipush (pc := 24) dX10_likens_24 ⟨by decide, ⟨by decide, by decide⟩⟩ ?_
      refine tr_iload_n (pc := 26) dX10_likens_26 rfl ?_
      refine tr_imul (pc := 27) dX10_likens_27 ⟨by omega, by omega⟩ ?_
      refine tr_iload_n (pc := 28) dX10_likens_28 rfl ?_
      refine tr_iadd (pc := 29) dX10_likens_29 ⟨by omega, by omega⟩ ?_
      refine tr_aload_n (pc := 30) dX10_likens_30 rfl (by decide) ?_
      refine tr_iload_n (pc := 31) dX10_likens_31 rfl ?_
      refine tr_iload_n (pc := 32) dX10_likens_32 rfl ?_
      refine tr_cVi2 (pc := 33) dX10_likens_33 mtX10_a lv10_125 rfl sg101 kc10 ⟨(Nat.le_of_ble_eq_true rfl), (Nat.le_of_ble_eq_true rfl)⟩ nlX10_a (Nat.le_of_ble_eq_true rfl) ⟨(Nat.le_of_ble_eq_true rfl), (Nat.le_of_ble_eq_true rfl)⟩ (sp_ra hi hx (by omega) (hf.2.2 _ (by omega)).1) (fun r33 M33 h33 => ?_)
      obtain ⟨hr33, hM33⟩ := h33
      obtain rfl := hr33.symm
      obtain rfl := hM33.symm
      refine tr_iast (pc := 36) dX10_likens_36 sg103 (by omega) (by omega) ?_
      refine tr_aload_n (pc := 37) dX10_likens_37 rfl (by decide) ?_
      refine tr_getr (pc := 38) (x := 104) dX10_likens_38 fi10_18 rfl sg101 rfl ?_
      refine tr_bipush (pc := 41) dX10_likens_41 ⟨by decide, ⟨by decide, by decide⟩⟩ ?_
      refine tr_iload_n (pc := 43) dX10_likens_43 rfl ?_
      refine tr_imul (pc := 44) dX10_likens_44 ⟨by omega, by omega⟩ ?_
      refine tr_iload_n (pc := 45) dX10_likens_45 rfl ?_
      refine tr_iadd (pc := 46) dX10_likens_46 ⟨by omega, by omega⟩ ?_
      refine tr_aload_n (pc := 47) dX10_likens_47 rfl (by decide) ?_
      refine tr_iload_n (pc := 48) dX10_likens_48 rfl ?_
      refine tr_iload_n (pc := 49) dX10_likens_49 rfl ?_
      refine tr_cVi2 (pc := 50) dX10_likens_50 mtX10_b lv10_129 rfl sg101 kc10 ⟨(Nat.le_of_ble_eq_true rfl), (Nat.le_of_ble_eq_true rfl)⟩ nlX10_b (Nat.le_of_ble_eq_true rfl) ⟨(Nat.le_of_ble_eq_true rfl), (Nat.le_of_ble_eq_true rfl)⟩ (sp_rb hi hx (by omega) ((congrFun (tk_mu_c (by omega)) _).trans (hf.2.2 _ (by omega)).2)) (fun r50 M50 h50 => ?_)
      obtain ⟨hr50, hM50⟩ := h50
      obtain rfl := hr50.symm
      obtain rfl := hM50.symm
      refine tr_iast (pc := 53) dX10_likens_53 sg104 (by omega) (by omega) ?_
      refine tr_iinc (pc := 54) dX10_likens_54 rfl rfl ⟨by omega, by omega⟩ ?_
      dsimp only [List.set]
      refine tr_goto (pc := 57) (tgt := 14) dX10_likens_57 (by decide) ?_
      refine ih (x + 1) _ (by omega) (by omega) ?_ ?_ ?_
      · rw [tk_mu_c (by omega), tk_mu_c (by omega)]; exact a0
      · intro c h1 h2
        have := a1 c h1
        by_cases hc : c = x
        · subst hc
          (first | (simp only [tk_mu_eq, and_self, and_true, true_and, false_and, and_false, if_true, if_false, ↓reduceIte, reduceCtorEq]; done) | (simp only [tk_mu_eq, and_self, and_true, true_and, false_and, and_false, if_true, if_false, ↓reduceIte, reduceCtorEq]; omega))
        · have := this (by omega)
          (first | (simp only [tk_mu_eq, and_self, and_true, true_and, false_and, and_false, if_true, if_false, ↓reduceIte, reduceCtorEq]; done) | (simp only [tk_mu_eq, and_self, and_true, true_and, false_and, and_false, if_true, if_false, ↓reduceIte, reduceCtorEq]; omega))
      · refine hf.trans ⟨fun c b1 b2 b3 => ?_, fun j hj => ?_, fun p hp => ?_⟩
        · rw [tk_mu_c b3, tk_mu_c b2]
        · rw [tk_mu_c (by omega), tk_mu_c (by omega)]
        · (first | (simp only [tk_mu_eq, and_self, and_true, true_and, false_and, and_false, if_true, if_false, ↓reduceIte, reduceCtorEq]; done) | (simp only [tk_mu_eq, and_self, and_true, true_and, false_and, and_false, if_true, if_false, ↓reduceIte, reduceCtorEq]; omega))
  refine tr_aload_n (pc := 0) dX10_likens_0 rfl (by decide) ?_
  refine tr_getr (pc := 1) (x := 102) dX10_likens_1 fi10_11 rfl sg101 rfl ?_
  refine tr_iload_n (pc := 4) dX10_likens_4 rfl ?_
  refine tr_aload_n (pc := 5) dX10_likens_5 rfl (by decide) ?_
  refine tr_getr (pc := 6) (x := 102) dX10_likens_6 fi10_11 rfl sg101 rfl ?_
  refine tr_iload_n (pc := 9) dX10_likens_9 rfl ?_
  refine tr_iald (pc := 10) dX10_likens_10 sg102 (by omega) (by omega) ?_
  refine tr_iast (pc := 11) dX10_likens_11 sg102 (by omega) (by omega) ?_
  refine tr_iconst (pc := 12) dX10_likens_12 ⟨by decide, by decide⟩ ?_
  refine tr_istore_n (pc := 13) dX10_likens_13 rfl (Nat.le_of_ble_eq_true rfl) ?_
  dsimp only [List.set]
  refine loop 6 0 _ (by omega) (by omega) (tk_mu_at _ _ _ _) (fun c h1 h2 => by omega) ⟨fun c b1 b2 b3 => tk_mu_c b1, fun j hj => tk_mu_i hj, fun p hp => ?_⟩
  rw [tk_mu_c (by omega), tk_mu_c (by omega)]
  exact ⟨rfl, rfl⟩
