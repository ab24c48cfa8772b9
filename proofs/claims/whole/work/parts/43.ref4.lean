/-- FACES of the reference -/
def rh_at (M : tk_M) (F : List (Int × Int × Int)) : Prop := hl_seg (M 111) (M 112) (M 113) (M 101 12) 0 F ∧ M 101 12 ≤ 64
def rhf (M M' : tk_M) : Prop := (∀ c : Int, c ≠ 101 → (c < 111 ∨ 113 < c) → M' c = M c) ∧ ∀ j : Int, j ≠ 12 → M' 101 j = M 101 j
theorem rhf.rf {M : tk_M} : rhf M M := ⟨fun _ _ _ => rfl, fun _ _ => rfl⟩
theorem rhf.trans {M M1 M2 : tk_M} (h1 : rhf M M1) (h2 : rhf M1 M2) : rhf M M2 := ⟨fun c a b => (h2.1 c a b).trans (h1.1 c a b), fun j hj => (h2.2 j hj).trans (h1.2 j hj)⟩
theorem fR.hf {M M1 : tk_M} (h : rhf M M1) : fR M M1 := ⟨fun c a => h.1 c (by omega) (by omega), fun j _ a => h.2 j a⟩
theorem rg_at.hf {M M1 : tk_M} {i : Int} {g : List (Int × Int)} (h : rg_at M i g) (hf : rhf M M1) : rg_at M1 i g := h.same (hf.1 _ (by omega) (by omega)) (hf.1 _ (by omega) (by omega)) (hf.1 _ (by omega) (by omega))
theorem Rg.hf {M M1 : tk_M} {C : cC} (h : Rg M C) (hf : rhf M M1) : Rg M1 C := ⟨h.1.hf hf, h.2.1.hf hf, h.2.2.frame (hf.2 3 (by omega)) (fun c _ _ => hf.1 c (by omega) (by omega))⟩
theorem rh_at.len {M : tk_M} {F : List (Int × Int × Int)} (h : rh_at M F) : M 101 12 = F.length ∧ (F.length : Int) ≤ 64 := by
  have h1 := hl_seg_len F 0 h.1
  have h2 := h.2
  omega
theorem rh_at.same {M M1 : tk_M} {F : List (Int × Int × Int)} (h : rh_at M F) (h0 : M1 101 12 = M 101 12) (h1 : M1 111 = M 111) (h2 : M1 112 = M 112) (h3 : M1 113 = M 113) : rh_at M1 F := by
  unfold rh_at; rw [h0, h1, h2, h3]; exact h
theorem rh_fp {M : tk_M} {j : Int} {F : List (Int × Int × Int)} (h : rh_at M F) (h0 : 0 ≤ j) (h1 : j < M 101 12) : M 111 j = (fp F j).1 ∧ M 112 j = (fp F j).2.1 ∧ M 113 j = (fp F j).2.2 := by
  have := (hl_seg_get F 0 j h.1 h0 h1).1
  rw [Int.sub_zero] at this
  unfold fp
  rw [List.getD_eq_getElem?_getD, this]
  exact ⟨rfl, rfl, rfl⟩
theorem sp_X10_levelOf {G : tk_G} {M : tk_M} {r s t : Int} {g : List (Int × Int)} (hr : 0 ≤ r ∧ r ≤ 2) (hg : rg_at M r g) (hs0 : 0 ≤ s) (hs9 : s ≤ 9) (ht0 : 0 ≤ t) (ht9 : t ≤ 9) : Spi G FX10_levelOf [xR 101, xI r, xI s, xI t] SF M (fun v M' => v = ig_lw s t 1000 g ∧ M' = M) := by
  refine Spi.of _ mtX10_levelOf nlX10_levelOf (Nat.le_of_ble_eq_true rfl) ?_
  show Ok G FX10_levelOf 0 [xR 101, xI r, xI s, xI t, xU, xU] [] SF M 0 0 _
  obtain ⟨hg, h6⟩ := hg
  have loop : ∀ (g : List (Int × Int)) (k acc : Int), 0 ≤ k → ig_seg (fun k => M 103 (6 * r + k)) (fun k => M 104 (6 * r + k)) (M 102 r) k g → Ok G FX10_levelOf 8 [xR 101, xI r, xI s, xI t, xI acc, xI k] [] SF M 0 0 (tk_qi SF (fun v M' => v = ig_lw s t acc g ∧ M' = M)) := by
    intro g
    induction g with
    | nil =>
      intro k acc hk hs
      have hs : k = M 102 r := hs
      refine tr_iload (pc := 8) dX10_levelOf_8 rfl ?_
      refine tr_aload_n (pc := 10) dX10_levelOf_10 rfl (by decide) ?_
      refine tr_getr (pc := 11) (x := 102) dX10_levelOf_11 fi10_11 rfl sg101 rfl ?_
      refine tr_iload_n (pc := 14) dX10_levelOf_14 rfl ?_
      refine tr_iald (pc := 15) dX10_levelOf_15 sg102 (by omega) (by omega) ?_
      refine tr_icmpge (pc := 16) (tgt := 51) dX10_levelOf_16 (by decide) (fun c16 => ?_) (fun c16 => absurd c16 (by omega))
      refine tr_iload (pc := 51) dX10_levelOf_51 rfl ?_
      refine tr_ireti (pc := 53) dX10_levelOf_53 rfl ?_
      exact ⟨rfl, rfl⟩
    | cons q u ih =>
      intro k acc hk hs
      obtain ⟨p, q⟩ := q
      obtain ⟨e1, e2, b1, b2, b3, b4, hlt, hs⟩ := hs
      have m1 := mul99 hs0 hs9 b1 b2
      have m2 := mul99 ht0 ht9 b3 b4
      refine tr_iload (pc := 8) dX10_levelOf_8 rfl ?_
      refine tr_aload_n (pc := 10) dX10_levelOf_10 rfl (by decide) ?_
      refine tr_getr (pc := 11) (x := 102) dX10_levelOf_11 fi10_11 rfl sg101 rfl ?_
      refine tr_iload_n (pc := 14) dX10_levelOf_14 rfl ?_
      refine tr_iald (pc := 15) dX10_levelOf_15 sg102 (by omega) (by omega) ?_
      refine tr_icmpge (pc := 16) (tgt := 51) dX10_levelOf_16 (by decide) (fun c16 => absurd c16 (by omega)) (fun c16 => ?_)
      refine tr_iload (pc := 19) dX10_levelOf_19 rfl ?_
      refine tr_iload_n (pc := 21) dX10_levelOf_21 rfl ?_
      refine tr_aload_n (pc := 22) dX10_levelOf_22 rfl (by decide) ?_
      refine tr_iload_n (pc := 23) dX10_levelOf_23 rfl ?_
      refine tr_iload (pc := 24) dX10_levelOf_24 rfl ?_
      refine tr_cVi2 (pc := 26) dX10_levelOf_26 mtX10_a lv10_125 rfl sg101 kc10 ⟨(Nat.le_of_ble_eq_true rfl), (Nat.le_of_ble_eq_true rfl)⟩ nlX10_a (Nat.le_of_ble_eq_true rfl) ⟨(Nat.le_of_ble_eq_true rfl), (Nat.le_of_ble_eq_true rfl)⟩ (sp_ra hr hk (by omega) e1) (fun r26 M26 h26 => ?_)
      obtain ⟨hr26, hM26⟩ := h26
      obtain rfl := hr26.symm
      obtain rfl := hM26.symm
      refine tr_imul (pc := 29) dX10_levelOf_29 ⟨by omega, by omega⟩ ?_
      refine tr_iload_n (pc := 30) dX10_levelOf_30 rfl ?_
      refine tr_aload_n (pc := 31) dX10_levelOf_31 rfl (by decide) ?_
      refine tr_iload_n (pc := 32) dX10_levelOf_32 rfl ?_
      refine tr_iload (pc := 33) dX10_levelOf_33 rfl ?_
      refine tr_cVi2 (pc := 35) dX10_levelOf_35 mtX10_b lv10_129 rfl sg101 kc10 ⟨(Nat.le_of_ble_eq_true rfl), (Nat.le_of_ble_eq_true rfl)⟩ nlX10_b (Nat.le_of_ble_eq_true rfl) ⟨(Nat.le_of_ble_eq_true rfl), (Nat.le_of_ble_eq_true rfl)⟩ (sp_rb hr hk (by omega) e2) (fun r35 M35 h35 => ?_)
      obtain ⟨hr35, hM35⟩ := h35
      obtain rfl := hr35.symm
      obtain rfl := hM35.symm
      refine tr_imul (pc := 38) dX10_levelOf_38 ⟨by omega, by omega⟩ ?_
      refine tr_iadd (pc := 39) dX10_levelOf_39 ⟨by omega, by omega⟩ ?_
      refine tr_min (pc := 40) dX10_levelOf_40 mm10_216 rfl (Nat.le_of_ble_eq_true rfl) (Nat.le_of_ble_eq_true rfl) ⟨(Nat.le_of_ble_eq_true rfl), (Nat.le_of_ble_eq_true rfl)⟩ ?_
      refine tr_istore (pc := 43) dX10_levelOf_43 rfl (Nat.le_of_ble_eq_true rfl) ?_
      dsimp only [List.set]
      refine tr_iinc (pc := 45) dX10_levelOf_45 rfl rfl ⟨by omega, by omega⟩ ?_
      dsimp only [List.set]
      refine tr_goto (pc := 48) (tgt := 8) dX10_levelOf_48 (by decide) ?_
      unfold ig_lw
      exact ih (k + 1) _ (by omega) hs
  refine tr_sipush (pc := 0) dX10_levelOf_0 ⟨by decide, ⟨by decide, by decide⟩⟩ ?_
  refine tr_istore (pc := 3) dX10_levelOf_3 rfl (Nat.le_of_ble_eq_true rfl) ?_
  dsimp only [List.set]
  refine tr_iconst (pc := 5) dX10_levelOf_5 ⟨by decide, by decide⟩ ?_
  refine tr_istore (pc := 6) dX10_levelOf_6 rfl (Nat.le_of_ble_eq_true rfl) ?_
  dsimp only [List.set]
  exact loop g 0 1000 (by omega) hg
theorem sp_rlv {G : tk_G} {M : tk_M} {r s t : Int} {g : List (Int × Int)} (hr : 0 ≤ r ∧ r ≤ 2) (hg : rg_at M r g) (hne : g ≠ []) (hs0 : 0 ≤ s) (hs9 : s ≤ 9) (ht0 : 0 ≤ t) (ht9 : t ≤ 9) : Spi G FX10_levelOf [xR 101, xI r, xI s, xI t] SF M (fun v M' => v = lvl s t g ∧ M' = M) := by
  rw [← ig_lw_far ⟨hs0, hs9⟩ ⟨ht0, ht9⟩ hg.bd hne]
  exact sp_X10_levelOf hr hg hs0 hs9 ht0 ht9
theorem sp_X10_metBy {G : tk_G} {M : tk_M} {r s t w : Int} {g : List (Int × Int)} (hr : 0 ≤ r ∧ r ≤ 2) (hg : rg_at M r g) (hs0 : 0 ≤ s) (hs9 : s ≤ 9) (ht0 : 0 ≤ t) (ht9 : t ≤ 9) : Spi G FX10_metBy [xR 101, xI r, xI s, xI t, xI w] SF M (fun v M' => v = ig_cw s t w 0 g ∧ M' = M) := by
  refine Spi.of _ mtX10_metBy nlX10_metBy (Nat.le_of_ble_eq_true rfl) ?_
  show Ok G FX10_metBy 0 [xR 101, xI r, xI s, xI t, xI w, xU, xU] [] SF M 0 0 _
  obtain ⟨hg, h6⟩ := hg
  have loop : ∀ (g : List (Int × Int)) (k acc : Int), 0 ≤ k → 0 ≤ acc → acc ≤ k → ig_seg (fun k => M 103 (6 * r + k)) (fun k => M 104 (6 * r + k)) (M 102 r) k g → Ok G FX10_metBy 6 [xR 101, xI r, xI s, xI t, xI w, xI acc, xI k] [] SF M 0 0 (tk_qi SF (fun v M' => v = ig_cw s t w acc g ∧ M' = M)) := by
    intro g
    induction g with
    | nil =>
      intro k acc hk _ _ hs
      have hs : k = M 102 r := hs
      refine tr_iload (pc := 6) dX10_metBy_6 rfl ?_
      refine tr_aload_n (pc := 8) dX10_metBy_8 rfl (by decide) ?_
      refine tr_getr (pc := 9) (x := 102) dX10_metBy_9 fi10_11 rfl sg101 rfl ?_
      refine tr_iload_n (pc := 12) dX10_metBy_12 rfl ?_
      refine tr_iald (pc := 13) dX10_metBy_13 sg102 (by omega) (by omega) ?_
      refine tr_icmpge (pc := 14) (tgt := 57) dX10_metBy_14 (by decide) (fun c14 => ?_) (fun c14 => absurd c14 (by omega))
      refine tr_iload (pc := 57) dX10_metBy_57 rfl ?_
      refine tr_ireti (pc := 59) dX10_metBy_59 rfl ?_
      exact ⟨rfl, rfl⟩
    | cons q u ih =>
      intro k acc hk h0 h1 hs
      obtain ⟨p, q⟩ := q
      obtain ⟨e1, e2, b1, b2, b3, b4, hlt, hs⟩ := hs
      have m1 := mul99 hs0 hs9 b1 b2
      have m2 := mul99 ht0 ht9 b3 b4
      refine tr_iload (pc := 6) dX10_metBy_6 rfl ?_
      refine tr_aload_n (pc := 8) dX10_metBy_8 rfl (by decide) ?_
      refine tr_getr (pc := 9) (x := 102) dX10_metBy_9 fi10_11 rfl sg101 rfl ?_
      refine tr_iload_n (pc := 12) dX10_metBy_12 rfl ?_
      refine tr_iald (pc := 13) dX10_metBy_13 sg102 (by omega) (by omega) ?_
      refine tr_icmpge (pc := 14) (tgt := 57) dX10_metBy_14 (by decide) (fun c14 => absurd c14 (by omega)) (fun c14 => ?_)
      refine tr_iload (pc := 17) dX10_metBy_17 rfl ?_
      refine tr_iload_n (pc := 19) dX10_metBy_19 rfl ?_
      refine tr_aload_n (pc := 20) dX10_metBy_20 rfl (by decide) ?_
      refine tr_iload_n (pc := 21) dX10_metBy_21 rfl ?_
      refine tr_iload (pc := 22) dX10_metBy_22 rfl ?_
      refine tr_cVi2 (pc := 24) dX10_metBy_24 mtX10_a lv10_125 rfl sg101 kc10 ⟨(Nat.le_of_ble_eq_true rfl), (Nat.le_of_ble_eq_true rfl)⟩ nlX10_a (Nat.le_of_ble_eq_true rfl) ⟨(Nat.le_of_ble_eq_true rfl), (Nat.le_of_ble_eq_true rfl)⟩ (sp_ra hr hk (by omega) e1) (fun r24 M24 h24 => ?_)
      obtain ⟨hr24, hM24⟩ := h24
      obtain rfl := hr24.symm
      obtain rfl := hM24.symm
      refine tr_imul (pc := 27) dX10_metBy_27 ⟨by omega, by omega⟩ ?_
      refine tr_iload_n (pc := 28) dX10_metBy_28 rfl ?_
      refine tr_aload_n (pc := 29) dX10_metBy_29 rfl (by decide) ?_
      refine tr_iload_n (pc := 30) dX10_metBy_30 rfl ?_
      refine tr_iload (pc := 31) dX10_metBy_31 rfl ?_
      refine tr_cVi2 (pc := 33) dX10_metBy_33 mtX10_b lv10_129 rfl sg101 kc10 ⟨(Nat.le_of_ble_eq_true rfl), (Nat.le_of_ble_eq_true rfl)⟩ nlX10_b (Nat.le_of_ble_eq_true rfl) ⟨(Nat.le_of_ble_eq_true rfl), (Nat.le_of_ble_eq_true rfl)⟩ (sp_rb hr hk (by omega) e2) (fun r33 M33 h33 => ?_)
      obtain ⟨hr33, hM33⟩ := h33
      obtain rfl := hr33.symm
      obtain rfl := hM33.symm
      refine tr_imul (pc := 36) dX10_metBy_36 ⟨by omega, by omega⟩ ?_
      refine tr_iadd (pc := 37) dX10_metBy_37 ⟨by omega, by omega⟩ ?_
      refine tr_iload (pc := 38) dX10_metBy_38 rfl ?_
      refine tr_icmpne (pc := 40) (tgt := 47) dX10_metBy_40 (by decide) (fun c40 => ?_) (fun c40 => ?_)
      · skip
        refine tr_iconst (pc := 47) dX10_metBy_47 ⟨by decide, by decide⟩ ?_
        refine tr_iadd (pc := 48) dX10_metBy_48 ⟨by omega, by omega⟩ ?_
        refine tr_istore (pc := 49) dX10_metBy_49 rfl (Nat.le_of_ble_eq_true rfl) ?_
        dsimp only [List.set]
        refine tr_iinc (pc := 51) dX10_metBy_51 rfl rfl ⟨by omega, by omega⟩ ?_
        dsimp only [List.set]
        refine tr_goto (pc := 54) (tgt := 6) dX10_metBy_54 (by decide) ?_
        unfold ig_cw
        first
        | rw [if_pos (show s * p + t * q = w by omega)]
          exact ih (k + 1) _ (by omega) (by omega) (by omega) hs
        | rw [if_neg (show ¬ s * p + t * q = w by omega)]
          have e : acc + 0 = acc := by omega
          rw [e]
          exact ih (k + 1) _ (by omega) (by omega) (by omega) hs
      · skip
        refine tr_iconst (pc := 43) dX10_metBy_43 ⟨by decide, by decide⟩ ?_
        refine tr_goto (pc := 44) (tgt := 48) dX10_metBy_44 (by decide) ?_
        refine tr_iadd (pc := 48) dX10_metBy_48 ⟨by omega, by omega⟩ ?_
        refine tr_istore (pc := 49) dX10_metBy_49 rfl (Nat.le_of_ble_eq_true rfl) ?_
        dsimp only [List.set]
        refine tr_iinc (pc := 51) dX10_metBy_51 rfl rfl ⟨by omega, by omega⟩ ?_
        dsimp only [List.set]
        refine tr_goto (pc := 54) (tgt := 6) dX10_metBy_54 (by decide) ?_
        unfold ig_cw
        first
        | rw [if_pos (show s * p + t * q = w by omega)]
          exact ih (k + 1) _ (by omega) (by omega) (by omega) hs
        | rw [if_neg (show ¬ s * p + t * q = w by omega)]
          have e : acc + 0 = acc := by omega
          rw [e]
          exact ih (k + 1) _ (by omega) (by omega) (by omega) hs
  refine tr_iconst (pc := 0) dX10_metBy_0 ⟨by decide, by decide⟩ ?_
  refine tr_istore (pc := 1) dX10_metBy_1 rfl (Nat.le_of_ble_eq_true rfl) ?_
  dsimp only [List.set]
  refine tr_iconst (pc := 3) dX10_metBy_3 ⟨by decide, by decide⟩ ?_
  refine tr_istore (pc := 4) dX10_metBy_4 rfl (Nat.le_of_ble_eq_true rfl) ?_
  dsimp only [List.set]
  exact loop g 0 0 (by omega) (by omega) (by omega) hg
def ylt (x y : Int × Int × Int) : Prop := y.1 * x.2.1 < x.1 * y.2.1
def hl_ia (x : Int × Int × Int) : Nat → List (Int × Int × Int) → List (Int × Int × Int)
  | 0, J => x :: J
  | _ + 1, [] => [x]
  | i + 1, y :: t => y :: hl_ia x i t
theorem hl_seg_shift {A B C A' B' C' : Int → Int} {n : Int} : ∀ (g : List (Int × Int × Int)) (k : Int), hl_seg A B C n k g → (∀ i, k ≤ i → i < n → A' (i + 1) = A i ∧ B' (i + 1) = B i ∧ C' (i + 1) = C i) → hl_seg A' B' C' (n + 1) (k + 1) g := by
  intro g
  induction g with
  | nil => intro k h hc; have h : k = n := h; show k + 1 = n + 1; omega
  | cons q t ih =>
    intro k h hc
    obtain ⟨p, q, r⟩ := q
    obtain ⟨e1, e2, e3, b1, b2, b3, hlt, hs⟩ := h
    have h1 := hc k (by omega) hlt
    exact ⟨h1.1.trans e1, h1.2.1.trans e2, h1.2.2.trans e3, b1, b2, b3, by omega, ih (k + 1) hs (fun i hi hn => hc i (by omega) hn)⟩
theorem hl_seg_ins {A B C A' B' C' : Int → Int} {n i a b c : Int} (ha : A' i = a) (hb : B' i = b) (hc : C' i = c) (h1 : 0 ≤ a ∧ a ≤ 9) (h2 : 0 ≤ b ∧ b ≤ 9) (h3 : 0 ≤ c ∧ c ≤ 162) : ∀ (g : List (Int × Int × Int)) (k : Int), hl_seg A B C n k g → k ≤ i → i ≤ n → (∀ j, k ≤ j → j < i → A' j = A j ∧ B' j = B j ∧ C' j = C j) → (∀ j, i ≤ j → j < n → A' (j + 1) = A j ∧ B' (j + 1) = B j ∧ C' (j + 1) = C j) → hl_seg A' B' C' (n + 1) k (hl_ia (a, b, c) (i - k).toNat g) := by
  intro g
  induction g with
  | nil =>
    intro k h hk hi c1 c2
    have h : k = n := h
    have e : i = k := by omega
    subst e
    rw [Int.sub_self]
    exact ⟨ha, hb, hc, h1, h2, h3, by omega, by show i + 1 = n + 1; omega⟩
  | cons q t ih =>
    intro k h hk hi c1 c2
    obtain ⟨p, q, r⟩ := q
    by_cases e : i = k
    · subst e
      rw [Int.sub_self]
      exact ⟨ha, hb, hc, h1, h2, h3, by omega, hl_seg_shift _ i h c2⟩
    · obtain ⟨e1, e2, e3, b1, b2, b3, hlt, hs⟩ := h
      have h4 := c1 k (by omega) (by omega)
      rw [show (i - k).toNat = (i - (k + 1)).toNat + 1 by omega]
      exact ⟨h4.1.trans e1, h4.2.1.trans e2, h4.2.2.trans e3, b1, b2, b3, by omega, ih (k + 1) hs (by omega) hi (fun j hj1 hj2 => c1 j (by omega) hj2) c2⟩
theorem yins_ia {x : Int × Int × Int} : ∀ (J : List (Int × Int × Int)) (i : Nat), i ≤ J.length → (∀ (j : Nat) (q : Int × Int × Int), j < i → J[j]? = some q → ¬ ylt x q) → (∀ q, J[i]? = some q → ylt x q) → yins x J = hl_ia x i J := by
  intro J
  induction J with
  | nil => intro i hi h1 h2; have : i = 0 := by simpa using hi
           subst this; rfl
  | cons y t ih =>
    intro i hi h1 h2
    match i with
    | 0 =>
      have h3 : y.1 * x.2.1 < x.1 * y.2.1 := h2 y rfl
      exact if_pos h3
    | i + 1 =>
      have h3 : ¬ y.1 * x.2.1 < x.1 * y.2.1 := h1 0 y (by omega) rfl
      show (if y.1 * x.2.1 < x.1 * y.2.1 then _ else _) = _
      rw [if_neg h3, ih i (by simpa using hi) (fun j q hj hq => h1 (j + 1) q (by omega) hq) (fun q hq => h2 q hq)]; rfl
theorem sp_X10_comesFace {G : tk_G} {M : tk_M} {r s t : Int} {g : List (Int × Int)} {F : List (Int × Int × Int)} (hr : 0 ≤ r ∧ r ≤ 2) (hg : rg_at M r g) (hne : g ≠ []) (hs9 : 0 ≤ s ∧ s ≤ 9) (ht9 : 0 ≤ t ∧ t ≤ 9) (hF : rh_at M F) (h60 : F.length ≤ 60) (hm : F.Pairwise (fun y z => ylt (s, t, 0) y → ylt (s, t, 0) z)) : Spv G FX10_comesFace [xR 101, xI r, xI s, xI t] SF M (fun M' => rh_at M' (yins (s, t, lvl s t g) F) ∧ rhf M M') := by
  have hln := hF.len
  have hbd := hg.bd
  have hlv := lvl_bd hs9 ht9 hbd hne
  refine Spv.of _ mtX10_comesFace nlX10_comesFace (Nat.le_of_ble_eq_true rfl) ?_
  show Ok G FX10_comesFace 0 [xR 101, xI r, xI s, xI t, xU] [] SF M 0 0 _
  have loop : ∀ (d : Nat) (p : Int) (M1 : tk_M), p = d → p ≤ M 101 12 → (∀ c, c ≠ 111 → c ≠ 112 → c ≠ 113 → M1 c = M c) → (∀ j, j < p → M1 111 j = M 111 j ∧ M1 112 j = M 112 j ∧ M1 113 j = M 113 j) → (∀ j, p ≤ j → j < M 101 12 → M1 111 (j + 1) = M 111 j ∧ M1 112 (j + 1) = M 112 j ∧ M1 113 (j + 1) = M 113 j) → (∀ (j : Nat) (q : Int × Int × Int), p ≤ j → F[j]? = some q → ylt (s, t, 0) q) → Ok G FX10_comesFace 6 [xR 101, xI r, xI s, xI t, xI p] [] SF M1 0 0 (tk_qv SF (fun M' => rh_at M' (yins (s, t, lvl s t g) F) ∧ rhf M M')) := by
    intro d
    have fin : ∀ (p : Int) (M1 : tk_M), 0 ≤ p → p ≤ M 101 12 → (∀ c, c ≠ 111 → c ≠ 112 → c ≠ 113 → M1 c = M c) → (∀ j, j < p → M1 111 j = M 111 j ∧ M1 112 j = M 112 j ∧ M1 113 j = M 113 j) → (∀ j, p ≤ j → j < M 101 12 → M1 111 (j + 1) = M 111 j ∧ M1 112 (j + 1) = M 112 j ∧ M1 113 (j + 1) = M 113 j) → (∀ (j : Nat) (q : Int × Int × Int), p ≤ j → F[j]? = some q → ylt (s, t, 0) q) → (∀ (j : Nat) (q : Int × Int × Int), j < p → F[j]? = some q → ¬ ylt (s, t, 0) q) → rh_at (tk_mu (tk_mu (tk_mu (tk_mu M1 111 p s) 112 p t) 113 p (lvl s t g)) 101 12 (M 101 12 + 1)) (yins (s, t, lvl s t g) F) ∧ rhf M (tk_mu (tk_mu (tk_mu (tk_mu M1 111 p s) 112 p t) 113 p (lvl s t g)) 101 12 (M 101 12 + 1)) := by
      intro p M1 hp0 hp1 a1 a2 a3 a4 a5
      have e1 : yins (s, t, lvl s t g) F = hl_ia (s, t, lvl s t g) (p - 0).toNat F := yins_ia F _ (by omega) (fun j q hj hq => a5 j q (by omega) hq) (fun q hq => a4 _ q (by omega) hq)
      refine ⟨⟨?_, ?_⟩, fun c c1 c2 => ?_, fun j hj => ?_⟩
      · rw [tk_mu_at, e1]
        refine hl_seg_ins (A := M 111) (B := M 112) (C := M 113) ?_ ?_ ?_ hs9 ht9 hlv F 0 hF.1 hp0 hp1 (fun j j0 j1 => ?_) (fun j j0 j1 => ?_)
        · (first | (simp only [tk_mu_eq, and_self, and_true, true_and, false_and, and_false, if_true, if_false, ↓reduceIte, reduceCtorEq]; done) | (simp only [tk_mu_eq, and_self, and_true, true_and, false_and, and_false, if_true, if_false, ↓reduceIte, reduceCtorEq]; omega))
        · (first | (simp only [tk_mu_eq, and_self, and_true, true_and, false_and, and_false, if_true, if_false, ↓reduceIte, reduceCtorEq]; done) | (simp only [tk_mu_eq, and_self, and_true, true_and, false_and, and_false, if_true, if_false, ↓reduceIte, reduceCtorEq]; omega))
        · (first | (simp only [tk_mu_eq, and_self, and_true, true_and, false_and, and_false, if_true, if_false, ↓reduceIte, reduceCtorEq]; done) | (simp only [tk_mu_eq, and_self, and_true, true_and, false_and, and_false, if_true, if_false, ↓reduceIte, reduceCtorEq]; omega))
        · have := a2 j j1
          (first | (simp only [tk_mu_eq, and_self, and_true, true_and, false_and, and_false, if_true, if_false, ↓reduceIte, reduceCtorEq]; done) | (simp only [tk_mu_eq, and_self, and_true, true_and, false_and, and_false, if_true, if_false, ↓reduceIte, reduceCtorEq]; omega))
        · have := a3 j j0 j1
          (first | (simp only [tk_mu_eq, and_self, and_true, true_and, false_and, and_false, if_true, if_false, ↓reduceIte, reduceCtorEq]; done) | (simp only [tk_mu_eq, and_self, and_true, true_and, false_and, and_false, if_true, if_false, ↓reduceIte, reduceCtorEq]; omega))
      · rw [tk_mu_at]; omega
      · rw [tk_mu_c c1, tk_mu_c (by omega), tk_mu_c (by omega), tk_mu_c (by omega)]
        exact a1 c (by omega) (by omega) (by omega)
      · rw [tk_mu_i hj, tk_mu_c (by omega), tk_mu_c (by omega), tk_mu_c (by omega), a1 101 (by omega) (by omega) (by omega)]
    induction d with
    | zero =>
      intro p M1 hp hp1 a1 a2 a3 a4
      have hp0 : p = 0 := hp
      have n1 : M1 101 12 = M 101 12 := by rw [a1 101 (by omega) (by omega) (by omega)]
      have g1 : rg_at M1 r g := hg.same (a1 _ (by omega) (by omega) (by omega)) (a1 _ (by omega) (by omega) (by omega)) (a1 _ (by omega) (by omega) (by omega))
      have g2 : rg_at (tk_mu (tk_mu M1 111 p s) 112 p t) r g := g1.same (by rw [tk_mu_c (by omega), tk_mu_c (by omega)]) (by rw [tk_mu_c (by omega), tk_mu_c (by omega)]) (by rw [tk_mu_c (by omega), tk_mu_c (by omega)])
      refine tr_iload (pc := 6) dX10_comesFace_6 rfl ?_
      refine tr_ifle (pc := 8) (tgt := 90) dX10_comesFace_8 (by decide) (fun c8 => ?_) (fun c8 => absurd c8 (by omega))
      refine tr_aload_n (pc := 90) dX10_comesFace_90 rfl (by decide) ?_
      refine tr_getr (pc := 91) (x := 111) dX10_comesFace_91 fi10_39 rfl sg101 rfl ?_
      refine tr_iload (pc := 94) dX10_comesFace_94 rfl ?_
      refine tr_iload_n (pc := 96) dX10_comesFace_96 rfl ?_
      refine tr_iast (pc := 97) dX10_comesFace_97 sg111 (by omega) (by omega) ?_
      refine tr_aload_n (pc := 98) dX10_comesFace_98 rfl (by decide) ?_
      refine tr_getr (pc := 99) (x := 112) dX10_comesFace_99 fi10_42 rfl sg101 rfl ?_
      refine tr_iload (pc := 102) dX10_comesFace_102 rfl ?_
      refine tr_iload_n (pc := 104) dX10_comesFace_104 rfl ?_
      refine tr_iast (pc := 105) dX10_comesFace_105 sg112 (by omega) (by omega) ?_
      refine tr_aload_n (pc := 106) dX10_comesFace_106 rfl (by decide) ?_
      refine tr_getr (pc := 107) (x := 113) dX10_comesFace_107 fi10_45 rfl sg101 rfl ?_
      refine tr_iload (pc := 110) dX10_comesFace_110 rfl ?_
      refine tr_aload_n (pc := 112) dX10_comesFace_112 rfl (by decide) ?_
      refine tr_iload_n (pc := 113) dX10_comesFace_113 rfl ?_
      refine tr_iload_n (pc := 114) dX10_comesFace_114 rfl ?_
      refine tr_iload_n (pc := 115) dX10_comesFace_115 rfl ?_
      refine tr_cVi3 (pc := 116) dX10_comesFace_116 mtX10_levelOf lv10_224 rfl sg101 kc10 ⟨(Nat.le_of_ble_eq_true rfl), (Nat.le_of_ble_eq_true rfl)⟩ nlX10_levelOf (Nat.le_of_ble_eq_true rfl) ⟨(Nat.le_of_ble_eq_true rfl), (Nat.le_of_ble_eq_true rfl)⟩ (sp_rlv hr g2 hne hs9.1 hs9.2 ht9.1 ht9.2) (fun r116 M116 h116 => ?_)
      obtain ⟨hr116, hM116⟩ := h116
      obtain rfl := hr116.symm
      obtain rfl := hM116.symm
      refine tr_iast (pc := 119) dX10_comesFace_119 sg113 (by omega) (by omega) ?_
      refine tr_aload_n (pc := 120) dX10_comesFace_120 rfl (by decide) ?_
      refine tr_dup (pc := 121) dX10_comesFace_121 (fun h => by cases h) ?_
      refine tr_getv (pc := 122) (ji := 12) (x := M 101 12) dX10_comesFace_122 fi10_221 rfl sg101 rfl (by rw [tk_mu_c (by omega), tk_mu_c (by omega), tk_mu_c (by omega)]; exact n1) ?_
      refine tr_iconst (pc := 125) dX10_comesFace_125 ⟨by decide, by decide⟩ ?_
      refine tr_iadd (pc := 126) dX10_comesFace_126 ⟨by omega, by omega⟩ ?_
      refine tr_puti (pc := 127) (ji := 12) dX10_comesFace_127 fi10_221 rfl (Or.inl rfl) (Or.inl rfl) sg101 rfl ?_
      refine tr_vret (pc := 130) dX10_comesFace_130 rfl ?_
      exact fin p M1 (by omega) hp1 a1 a2 a3 a4 (fun j q hj _ => by omega)
    | succ d ih =>
      intro p M1 hp hp1 a1 a2 a3 a4
      have n1 : M1 101 12 = M 101 12 := by rw [a1 101 (by omega) (by omega) (by omega)]
      have g1 : rg_at M1 r g := hg.same (a1 _ (by omega) (by omega) (by omega)) (a1 _ (by omega) (by omega) (by omega)) (a1 _ (by omega) (by omega) (by omega))
      have g2 : rg_at (tk_mu (tk_mu M1 111 p s) 112 p t) r g := g1.same (by rw [tk_mu_c (by omega), tk_mu_c (by omega)]) (by rw [tk_mu_c (by omega), tk_mu_c (by omega)]) (by rw [tk_mu_c (by omega), tk_mu_c (by omega)])
      obtain ⟨q1, q2, q3, q4⟩ := hl_seg_get F 0 (p - 1) hF.1 (by omega) (by omega)
      rw [Int.sub_zero] at q1
      have w := a2 (p - 1) (by omega)
      have m1 := mul99 hs9.1 hs9.2 q3.1 q3.2
      have m2 := mul99 q2.1 q2.2 ht9.1 ht9.2
      refine tr_iload (pc := 6) dX10_comesFace_6 rfl ?_
      refine tr_ifle (pc := 8) (tgt := 90) dX10_comesFace_8 (by decide) (fun c8 => absurd c8 (by omega)) (fun c8 => ?_)
      refine tr_iload_n (pc := 11) dX10_comesFace_11 rfl ?_
      refine tr_aload_n (pc := 12) dX10_comesFace_12 rfl (by decide) ?_
      refine tr_getr (pc := 13) (x := 112) dX10_comesFace_13 fi10_42 rfl sg101 rfl ?_
      refine tr_iload (pc := 16) dX10_comesFace_16 rfl ?_
      refine tr_iconst (pc := 18) dX10_comesFace_18 ⟨by decide, by decide⟩ ?_
      refine tr_isub (pc := 19) dX10_comesFace_19 ⟨by omega, by omega⟩ ?_
      refine tr_ialdv (pc := 20) (x := M 112 (p - 1)) dX10_comesFace_20 sg112 (by omega) (by omega) (w.2.1) ?_
      refine tr_imul (pc := 21) dX10_comesFace_21 ⟨by omega, by omega⟩ ?_
      refine tr_aload_n (pc := 22) dX10_comesFace_22 rfl (by decide) ?_
      refine tr_getr (pc := 23) (x := 111) dX10_comesFace_23 fi10_39 rfl sg101 rfl ?_
      refine tr_iload (pc := 26) dX10_comesFace_26 rfl ?_
      refine tr_iconst (pc := 28) dX10_comesFace_28 ⟨by decide, by decide⟩ ?_
      refine tr_isub (pc := 29) dX10_comesFace_29 ⟨by omega, by omega⟩ ?_
      refine tr_ialdv (pc := 30) (x := M 111 (p - 1)) dX10_comesFace_30 sg111 (by omega) (by omega) (w.1) ?_
      refine tr_iload_n (pc := 31) dX10_comesFace_31 rfl ?_
      refine tr_imul (pc := 32) dX10_comesFace_32 ⟨by omega, by omega⟩ ?_
      refine tr_icmple (pc := 33) (tgt := 90) dX10_comesFace_33 (by decide) (fun c33 => ?_) (fun c33 => ?_)
      · skip
        refine tr_aload_n (pc := 90) dX10_comesFace_90 rfl (by decide) ?_
        refine tr_getr (pc := 91) (x := 111) dX10_comesFace_91 fi10_39 rfl sg101 rfl ?_
        refine tr_iload (pc := 94) dX10_comesFace_94 rfl ?_
        refine tr_iload_n (pc := 96) dX10_comesFace_96 rfl ?_
        refine tr_iast (pc := 97) dX10_comesFace_97 sg111 (by omega) (by omega) ?_
        refine tr_aload_n (pc := 98) dX10_comesFace_98 rfl (by decide) ?_
        refine tr_getr (pc := 99) (x := 112) dX10_comesFace_99 fi10_42 rfl sg101 rfl ?_
        refine tr_iload (pc := 102) dX10_comesFace_102 rfl ?_
        refine tr_iload_n (pc := 104) dX10_comesFace_104 rfl ?_
        refine tr_iast (pc := 105) dX10_comesFace_105 sg112 (by omega) (by omega) ?_
        refine tr_aload_n (pc := 106) dX10_comesFace_106 rfl (by decide) ?_
        refine tr_getr (pc := 107) (x := 113) dX10_comesFace_107 fi10_45 rfl sg101 rfl ?_
        refine tr_iload (pc := 110) dX10_comesFace_110 rfl ?_
        refine tr_aload_n (pc := 112) dX10_comesFace_112 rfl (by decide) ?_
        refine tr_iload_n (pc := 113) dX10_comesFace_113 rfl ?_
        refine tr_iload_n (pc := 114) dX10_comesFace_114 rfl ?_
        refine tr_iload_n (pc := 115) dX10_comesFace_115 rfl ?_
        refine tr_cVi3 (pc := 116) dX10_comesFace_116 mtX10_levelOf lv10_224 rfl sg101 kc10 ⟨(Nat.le_of_ble_eq_true rfl), (Nat.le_of_ble_eq_true rfl)⟩ nlX10_levelOf (Nat.le_of_ble_eq_true rfl) ⟨(Nat.le_of_ble_eq_true rfl), (Nat.le_of_ble_eq_true rfl)⟩ (sp_rlv hr g2 hne hs9.1 hs9.2 ht9.1 ht9.2) (fun r116 M116 h116 => ?_)
        obtain ⟨hr116, hM116⟩ := h116
        obtain rfl := hr116.symm
        obtain rfl := hM116.symm
        refine tr_iast (pc := 119) dX10_comesFace_119 sg113 (by omega) (by omega) ?_
        refine tr_aload_n (pc := 120) dX10_comesFace_120 rfl (by decide) ?_
        refine tr_dup (pc := 121) dX10_comesFace_121 (fun h => by cases h) ?_
        refine tr_getv (pc := 122) (ji := 12) (x := M 101 12) dX10_comesFace_122 fi10_221 rfl sg101 rfl (by rw [tk_mu_c (by omega), tk_mu_c (by omega), tk_mu_c (by omega)]; exact n1) ?_
        refine tr_iconst (pc := 125) dX10_comesFace_125 ⟨by decide, by decide⟩ ?_
        refine tr_iadd (pc := 126) dX10_comesFace_126 ⟨by omega, by omega⟩ ?_
        refine tr_puti (pc := 127) (ji := 12) dX10_comesFace_127 fi10_221 rfl (Or.inl rfl) (Or.inl rfl) sg101 rfl ?_
        refine tr_vret (pc := 130) dX10_comesFace_130 rfl ?_
        refine fin p M1 (by omega) hp1 a1 a2 a3 a4 (fun j q hj hq => ?_)
        have hny : ¬ ylt (s, t, 0) (M 111 (p - 1), M 112 (p - 1), M 113 (p - 1)) := by show ¬ M 111 (p - 1) * t < s * M 112 (p - 1); omega
        by_cases hjp : (j : Int) = p - 1
        · have e : (p - 1).toNat = j := by omega
          rw [e, hq] at q1
          cases q1
          exact hny
        · intro hc
          obtain ⟨hj1, hj2⟩ := List.getElem?_eq_some_iff.mp hq
          obtain ⟨hk1, hk2⟩ := List.getElem?_eq_some_iff.mp q1
          have h9 := List.pairwise_iff_getElem.mp hm j (p - 1).toNat hj1 hk1 (by omega)
          rw [hj2, hk2] at h9
          exact hny (h9 hc)
      · skip
        refine tr_aload_n (pc := 36) dX10_comesFace_36 rfl (by decide) ?_
        refine tr_getr (pc := 37) (x := 111) dX10_comesFace_37 fi10_39 rfl sg101 rfl ?_
        refine tr_iload (pc := 40) dX10_comesFace_40 rfl ?_
        refine tr_aload_n (pc := 42) dX10_comesFace_42 rfl (by decide) ?_
        refine tr_getr (pc := 43) (x := 111) dX10_comesFace_43 fi10_39 rfl sg101 rfl ?_
        refine tr_iload (pc := 46) dX10_comesFace_46 rfl ?_
        refine tr_iconst (pc := 48) dX10_comesFace_48 ⟨by decide, by decide⟩ ?_
        refine tr_isub (pc := 49) dX10_comesFace_49 ⟨by omega, by omega⟩ ?_
        refine tr_ialdv (pc := 50) (x := M 111 (p - 1)) dX10_comesFace_50 sg111 (by omega) (by omega) (w.1) ?_
        refine tr_iast (pc := 51) dX10_comesFace_51 sg111 (by omega) (by omega) ?_
        refine tr_aload_n (pc := 52) dX10_comesFace_52 rfl (by decide) ?_
        refine tr_getr (pc := 53) (x := 112) dX10_comesFace_53 fi10_42 rfl sg101 rfl ?_
        refine tr_iload (pc := 56) dX10_comesFace_56 rfl ?_
        refine tr_aload_n (pc := 58) dX10_comesFace_58 rfl (by decide) ?_
        refine tr_getr (pc := 59) (x := 112) dX10_comesFace_59 fi10_42 rfl sg101 rfl ?_
        refine tr_iload (pc := 62) dX10_comesFace_62 rfl ?_
        refine tr_iconst (pc := 64) dX10_comesFace_64 ⟨by decide, by decide⟩ ?_
        refine tr_isub (pc := 65) dX10_comesFace_65 ⟨by omega, by omega⟩ ?_
        refine tr_ialdv (pc := 66) (x := M 112 (p - 1)) dX10_comesFace_66 sg112 (by omega) (by omega) (by rw [tk_mu_c (by omega)]; exact w.2.1) ?_
        refine tr_iast (pc := 67) dX10_comesFace_67 sg112 (by omega) (by omega) ?_
        refine tr_aload_n (pc := 68) dX10_comesFace_68 rfl (by decide) ?_
        refine tr_getr (pc := 69) (x := 113) dX10_comesFace_69 fi10_45 rfl sg101 rfl ?_
        refine tr_iload (pc := 72) dX10_comesFace_72 rfl ?_
        refine tr_aload_n (pc := 74) dX10_comesFace_74 rfl (by decide) ?_
        refine tr_getr (pc := 75) (x := 113) dX10_comesFace_75 fi10_45 rfl sg101 rfl ?_
        refine tr_iload (pc := 78) dX10_comesFace_78 rfl ?_
        refine tr_iconst (pc := 80) dX10_comesFace_80 ⟨by decide, by decide⟩ ?_
        refine tr_isub (pc := 81) dX10_comesFace_81 ⟨by omega, by omega⟩ ?_
        refine tr_ialdv (pc := 82) (x := M 113 (p - 1)) dX10_comesFace_82 sg113 (by omega) (by omega) (by rw [tk_mu_c (by omega), tk_mu_c (by omega)]; exact w.2.2) ?_
        refine tr_iast (pc := 83) dX10_comesFace_83 sg113 (by omega) (by omega) ?_
        refine tr_iinc (pc := 84) dX10_comesFace_84 rfl rfl ⟨by omega, by omega⟩ ?_
        dsimp only [List.set]
        refine tr_goto (pc := 87) (tgt := 6) dX10_comesFace_87 (by decide) ?_
        have hy : ylt (s, t, 0) (M 111 (p - 1), M 112 (p - 1), M 113 (p - 1)) := by show M 111 (p - 1) * t < s * M 112 (p - 1); omega
        rw [show p + -1 = p - 1 by omega]
        refine ih (p - 1) _ (by omega) (by omega) ?_ ?_ ?_ ?_
        · intro c b1 b2 b3
          rw [tk_mu_c b3, tk_mu_c b2, tk_mu_c b1]; exact a1 c b1 b2 b3
        · intro j hj
          have := a2 j (by omega)
          (first | (simp only [tk_mu_eq, and_self, and_true, true_and, false_and, and_false, if_true, if_false, ↓reduceIte, reduceCtorEq]; done) | (simp only [tk_mu_eq, and_self, and_true, true_and, false_and, and_false, if_true, if_false, ↓reduceIte, reduceCtorEq]; omega))
        · intro j hj1 hj2
          by_cases hjp : j = p - 1
          · subst hjp
            rw [show p - 1 + 1 = p by omega]
            (first | (simp only [tk_mu_eq, and_self, and_true, true_and, false_and, and_false, if_true, if_false, ↓reduceIte, reduceCtorEq]; done) | (simp only [tk_mu_eq, and_self, and_true, true_and, false_and, and_false, if_true, if_false, ↓reduceIte, reduceCtorEq]; omega))
          · have := a3 j (by omega) hj2
            (first | (simp only [tk_mu_eq, and_self, and_true, true_and, false_and, and_false, if_true, if_false, ↓reduceIte, reduceCtorEq]; done) | (simp only [tk_mu_eq, and_self, and_true, true_and, false_and, and_false, if_true, if_false, ↓reduceIte, reduceCtorEq]; omega))
        · intro j q hj hq
          by_cases hjp : (j : Int) = p - 1
          · have e : (p - 1).toNat = j := by omega
            rw [e, hq] at q1
            cases q1
            exact hy
          · exact a4 j q (by omega) hq
  refine tr_aload_n (pc := 0) dX10_comesFace_0 rfl (by decide) ?_
  refine tr_geti (pc := 1) (ji := 12) dX10_comesFace_1 fi10_221 rfl sg101 rfl ?_
  refine tr_istore (pc := 4) dX10_comesFace_4 rfl (Nat.le_of_ble_eq_true rfl) ?_
  dsimp only [List.set]
  refine loop F.length (M 101 12) M (by omega) (by omega) (fun _ _ _ _ => rfl) (fun _ _ => ⟨rfl, rfl, rfl⟩) (fun j h1 h2 => by omega) (fun j q hj hq => ?_)
  have := (List.getElem?_eq_some_iff.mp hq).1
  omega
