theorem mulb {x y X Y : Int} (h1 : 0 ≤ x) (h2 : x ≤ X) (h3 : 0 ≤ y) (h4 : y ≤ Y) : 0 ≤ x * y ∧ x * y ≤ X * Y := ⟨Int.mul_nonneg h1 h3, Int.mul_le_mul h2 h4 h3 (by omega)⟩
/-- FACES as they lie in three rows from k on, up to n -/
def hl_seg (A B C : Int → Int) (n : Int) : Int → List (Int × Int × Int) → Prop
  | k, [] => k = n
  | k, (p, q, u) :: t => A k = p ∧ B k = q ∧ C k = u ∧ (0 ≤ p ∧ p ≤ 9) ∧ (0 ≤ q ∧ q ≤ 9) ∧ (0 ≤ u ∧ u ≤ 162) ∧ k < n ∧ hl_seg A B C n (k + 1) t
theorem hl_seg_congr {A B C A' B' C' : Int → Int} {n : Int} : ∀ (g : List (Int × Int × Int)) (k : Int), (∀ i, k ≤ i → i < n → A' i = A i ∧ B' i = B i ∧ C' i = C i) → hl_seg A B C n k g → hl_seg A' B' C' n k g := by
  intro g
  induction g with
  | nil => intro k _ h; exact h
  | cons q t ih =>
    intro k hc h
    obtain ⟨p, q, u⟩ := q
    obtain ⟨e1, e2, e3, b1, b2, b3, hlt, hs⟩ := h
    have h1 := hc k (by omega) hlt
    exact ⟨h1.1.trans e1, h1.2.1.trans e2, h1.2.2.trans e3, b1, b2, b3, hlt, ih (k + 1) (fun i hi hn => hc i (by omega) hn) hs⟩
theorem hl_seg_len {A B C : Int → Int} {n : Int} : ∀ (g : List (Int × Int × Int)) (k : Int), hl_seg A B C n k g → n = k + g.length := by
  intro g
  induction g with
  | nil => intro k h; have h : k = n := h; simp [h]
  | cons q t ih =>
    intro k h
    obtain ⟨p, q, u⟩ := q
    obtain ⟨e1, e2, e3, b1, b2, b3, hlt, hs⟩ := h
    have := ih (k + 1) hs
    simp only [List.length_cons]; omega
theorem hl_seg_snoc {A B C : Int → Int} {n a b c : Int} (ha : A n = a) (hb : B n = b) (hc : C n = c) (h1 : 0 ≤ a ∧ a ≤ 9) (h2 : 0 ≤ b ∧ b ≤ 9) (h3 : 0 ≤ c ∧ c ≤ 162) : ∀ (g : List (Int × Int × Int)) (k : Int), hl_seg A B C n k g → hl_seg A B C (n + 1) k (g ++ [(a, b, c)]) := by
  intro g
  induction g with
  | nil => intro k h; have h : k = n := h; subst h; exact ⟨ha, hb, hc, h1, h2, h3, by omega, rfl⟩
  | cons q t ih =>
    intro k h
    obtain ⟨p, q, u⟩ := q
    obtain ⟨e1, e2, e3, b1, b2, b3, hlt, hs⟩ := h
    exact ⟨e1, e2, e3, b1, b2, b3, by omega, ih (k + 1) hs⟩
theorem hl_seg_get {A B C : Int → Int} {n : Int} : ∀ (g : List (Int × Int × Int)) (k j : Int), hl_seg A B C n k g → k ≤ j → j < n → g[(j - k).toNat]? = some (A j, B j, C j) ∧ (0 ≤ A j ∧ A j ≤ 9) ∧ (0 ≤ B j ∧ B j ≤ 9) ∧ (0 ≤ C j ∧ C j ≤ 162) := by
  intro g
  induction g with
  | nil => intro k j h h1 h2; have h : k = n := h; omega
  | cons q t ih =>
    intro k j h h1 h2
    obtain ⟨p, q, u⟩ := q
    obtain ⟨e1, e2, e3, b1, b2, b3, hlt, hs⟩ := h
    by_cases hj : j = k
    · subst hj
      rw [Int.sub_self, e1, e2, e3]
      exact ⟨rfl, b1, b2, b3⟩
    · have := ih (k + 1) j hs (by omega) h2
      rw [show (j - k).toNat = (j - (k + 1)).toNat + 1 by omega, List.getElem?_cons_succ]
      exact this
def hl_at (M : tk_M) (F : List (Int × Int × Int)) : Prop := hl_seg (M 91) (M 92) (M 93) (M 90 3) 0 F ∧ M 90 3 ≤ 7
theorem hl_at.frame {M M' : tk_M} {F : List (Int × Int × Int)} (h : hl_at M F) (hf : ∀ c : Int, 90 ≤ c → c ≤ 93 → M' c = M c) : hl_at M' F := by
  unfold hl_at; rw [hf 90 (by omega) (by omega), hf 91 (by omega) (by omega), hf 92 (by omega) (by omega), hf 93 (by omega) (by omega)]; exact h
theorem hl_at.len {M : tk_M} {F : List (Int × Int × Int)} (h : hl_at M F) : M 90 3 = F.length ∧ (F.length : Int) ≤ 7 := by
  have h1 := hl_seg_len F 0 h.1
  have h2 := h.2
  omega
def hl_addM (M : tk_M) (a b c : Int) : tk_M := if M 90 3 < 7 then tk_mu (tk_mu (tk_mu (tk_mu M 91 (M 90 3) a) 92 (M 90 3) b) 93 (M 90 3) c) 90 3 (M 90 3 + 1) else M
def hl_add (F : List (Int × Int × Int)) (q : Int × Int × Int) : List (Int × Int × Int) := if F.length < 7 then F ++ [q] else F
theorem hl_addM_fr (M : tk_M) (a b c : Int) : tk_fr M (hl_addM M a b c) 90 94 := by
  unfold hl_addM
  split
  · exact (((tk_fr.rf.mu (by omega) (by omega)).mu (by omega) (by omega)).mu (by omega) (by omega)).mu (by omega) (by omega)
  · exact tk_fr.rf
theorem hl_addM_at {M : tk_M} {a b c : Int} {F : List (Int × Int × Int)} (h : hl_at M F) (h1 : 0 ≤ a ∧ a ≤ 9) (h2 : 0 ≤ b ∧ b ≤ 9) (h3 : 0 ≤ c ∧ c ≤ 162) : hl_at (hl_addM M a b c) (hl_add F (a, b, c)) := by
  obtain ⟨l1, l2⟩ := h.len
  unfold hl_addM hl_add
  by_cases h7 : M 90 3 < 7
  · rw [if_pos h7, if_pos (by omega)]
    have e0 : tk_mu (tk_mu (tk_mu (tk_mu M 91 (M 90 3) a) 92 (M 90 3) b) 93 (M 90 3) c) 90 3 (M 90 3 + 1) 90 3 = M 90 3 + 1 := tk_mu_at _ _ _ _
    have e1 : tk_mu (tk_mu (tk_mu (tk_mu M 91 (M 90 3) a) 92 (M 90 3) b) 93 (M 90 3) c) 90 3 (M 90 3 + 1) 91 = tk_mu M 91 (M 90 3) a 91 := by rw [tk_mu_c (by omega), tk_mu_c (by omega), tk_mu_c (by omega)]
    have e2 : tk_mu (tk_mu (tk_mu (tk_mu M 91 (M 90 3) a) 92 (M 90 3) b) 93 (M 90 3) c) 90 3 (M 90 3 + 1) 92 = tk_mu (tk_mu M 91 (M 90 3) a) 92 (M 90 3) b 92 := by rw [tk_mu_c (by omega), tk_mu_c (by omega)]
    have e3 : tk_mu (tk_mu (tk_mu (tk_mu M 91 (M 90 3) a) 92 (M 90 3) b) 93 (M 90 3) c) 90 3 (M 90 3 + 1) 93 = tk_mu (tk_mu (tk_mu M 91 (M 90 3) a) 92 (M 90 3) b) 93 (M 90 3) c 93 := by rw [tk_mu_c (by omega)]
    unfold hl_at
    rw [e0, e1, e2, e3]
    refine ⟨hl_seg_snoc (tk_mu_at _ _ _ _) (tk_mu_at _ _ _ _) (tk_mu_at _ _ _ _) h1 h2 h3 F 0 (hl_seg_congr F 0 (fun i _ hi => ⟨tk_mu_i (by omega), ?_, ?_⟩) h.1), by omega⟩
    · rw [tk_mu_i (by omega), tk_mu_c (by omega)]
    · rw [tk_mu_i (by omega), tk_mu_c (by omega), tk_mu_c (by omega)]
  · rw [if_neg h7, if_neg (by omega)]; exact h
theorem sp_X2_add {G : tk_G} {M : tk_M} {a b c : Int} (h0 : 0 ≤ M 90 3) : Spv G FX2_add [xR 90, xI a, xI b, xI c] SF M (fun M' => M' = hl_addM M a b c) := by
  refine Spv.of _ mtX2_add nlX2_add (Nat.le_of_ble_eq_true rfl) ?_
  show Ok G FX2_add 0 [xR 90, xI a, xI b, xI c] [] SF M 0 0 _
  refine tr_aload_n (pc := 0) dX2_add_0 rfl (by decide) ?_
  refine tr_geti (pc := 1) (ji := 3) dX2_add_1 fi2_21 rfl sg90 rfl ?_
  refine tr_bipush (pc := 4) dX2_add_4 ⟨by decide, ⟨by decide, by decide⟩⟩ ?_
  refine tr_icmpge (pc := 6) (tgt := 49) dX2_add_6 (by decide) (fun c6 => ?_) (fun c6 => ?_)
  · skip
    refine tr_vret (pc := 49) dX2_add_49 rfl ?_
    unfold hl_addM
    first | exact (if_pos (by omega)).symm | exact (if_neg (by omega)).symm
  · skip
    refine tr_aload_n (pc := 9) dX2_add_9 rfl (by decide) ?_
    refine tr_getr (pc := 10) (x := 91) dX2_add_10 fi2_11 rfl sg90 rfl ?_
    refine tr_aload_n (pc := 13) dX2_add_13 rfl (by decide) ?_
    refine tr_geti (pc := 14) (ji := 3) dX2_add_14 fi2_21 rfl sg90 rfl ?_
    refine tr_iload_n (pc := 17) dX2_add_17 rfl ?_
    refine tr_iast (pc := 18) dX2_add_18 sg91 (by omega) (by omega) ?_
    refine tr_aload_n (pc := 19) dX2_add_19 rfl (by decide) ?_
    refine tr_getr (pc := 20) (x := 92) dX2_add_20 fi2_15 rfl sg90 rfl ?_
    refine tr_aload_n (pc := 23) dX2_add_23 rfl (by decide) ?_
    refine tr_getv (pc := 24) (ji := 3) (x := M 90 3) dX2_add_24 fi2_21 rfl sg90 rfl (by rw [tk_mu_c (by omega)]) ?_
    refine tr_iload_n (pc := 27) dX2_add_27 rfl ?_
    refine tr_iast (pc := 28) dX2_add_28 sg92 (by omega) (by omega) ?_
    refine tr_aload_n (pc := 29) dX2_add_29 rfl (by decide) ?_
    refine tr_getr (pc := 30) (x := 93) dX2_add_30 fi2_18 rfl sg90 rfl ?_
    refine tr_aload_n (pc := 33) dX2_add_33 rfl (by decide) ?_
    refine tr_getv (pc := 34) (ji := 3) (x := M 90 3) dX2_add_34 fi2_21 rfl sg90 rfl (by rw [tk_mu_c (by omega), tk_mu_c (by omega)]) ?_
    refine tr_iload_n (pc := 37) dX2_add_37 rfl ?_
    refine tr_iast (pc := 38) dX2_add_38 sg93 (by omega) (by omega) ?_
    refine tr_aload_n (pc := 39) dX2_add_39 rfl (by decide) ?_
    refine tr_dup (pc := 40) dX2_add_40 (fun h => by cases h) ?_
    refine tr_getv (pc := 41) (ji := 3) (x := M 90 3) dX2_add_41 fi2_21 rfl sg90 rfl (by rw [tk_mu_c (by omega), tk_mu_c (by omega), tk_mu_c (by omega)]) ?_
    refine tr_iconst (pc := 44) dX2_add_44 ⟨by decide, by decide⟩ ?_
    refine tr_iadd (pc := 45) dX2_add_45 ⟨by omega, by omega⟩ ?_
    refine tr_puti (pc := 46) (ji := 3) dX2_add_46 fi2_21 rfl (Or.inl rfl) (Or.inl rfl) sg90 rfl ?_
    refine tr_vret (pc := 49) dX2_add_49 rfl ?_
    unfold hl_addM
    first | exact (if_pos (by omega)).symm | exact (if_neg (by omega)).symm
theorem sp_X2_size {G : tk_G} {M : tk_M} : Spi G FX2_size [xR 90] SF M (fun v M' => v = M 90 3 ∧ M' = M) := by
  refine Spi.of _ mtX2_size nlX2_size (Nat.le_of_ble_eq_true rfl) ?_
  show Ok G FX2_size 0 [xR 90] [] SF M 0 0 _
  refine tr_aload_n (pc := 0) dX2_size_0 rfl (by decide) ?_
  refine tr_geti (pc := 1) (ji := 3) dX2_size_1 fi2_21 rfl sg90 rfl ?_
  refine tr_ireti (pc := 4) dX2_size_4 rfl ?_
  exact ⟨rfl, rfl⟩
theorem sp_X2_weightA {G : tk_G} {M : tk_M} {i : Int} (h7 : M 90 3 ≤ 7) (h0 : 0 ≤ i) (h1 : i < M 90 3) : Spi G FX2_weightA [xR 90, xI i] SF M (fun v M' => v = M 91 i ∧ M' = M) := by
  refine Spi.of _ mtX2_weightA nlX2_weightA (Nat.le_of_ble_eq_true rfl) ?_
  show Ok G FX2_weightA 0 [xR 90, xI i] [] SF M 0 0 _
  refine tr_iload_n (pc := 0) dX2_weightA_0 rfl ?_
  refine tr_iflt (pc := 1) (tgt := 21) dX2_weightA_1 (by decide) (fun c1 => absurd c1 (by omega)) (fun c1 => ?_)
  refine tr_iload_n (pc := 4) dX2_weightA_4 rfl ?_
  refine tr_aload_n (pc := 5) dX2_weightA_5 rfl (by decide) ?_
  refine tr_geti (pc := 6) (ji := 3) dX2_weightA_6 fi2_21 rfl sg90 rfl ?_
  refine tr_icmpge (pc := 9) (tgt := 21) dX2_weightA_9 (by decide) (fun c9 => absurd c9 (by omega)) (fun c9 => ?_)
  refine tr_aload_n (pc := 12) dX2_weightA_12 rfl (by decide) ?_
  refine tr_getr (pc := 13) (x := 91) dX2_weightA_13 fi2_11 rfl sg90 rfl ?_
  refine tr_iload_n (pc := 16) dX2_weightA_16 rfl ?_
  refine tr_iald (pc := 17) dX2_weightA_17 sg91 (by omega) (by omega) ?_
  refine tr_goto (pc := 18) (tgt := 22) dX2_weightA_18 (by decide) ?_
  refine tr_ireti (pc := 22) dX2_weightA_22 rfl ?_
  exact ⟨rfl, rfl⟩
theorem sp_X2_weightB {G : tk_G} {M : tk_M} {i : Int} (h7 : M 90 3 ≤ 7) (h0 : 0 ≤ i) (h1 : i < M 90 3) : Spi G FX2_weightB [xR 90, xI i] SF M (fun v M' => v = M 92 i ∧ M' = M) := by
  refine Spi.of _ mtX2_weightB nlX2_weightB (Nat.le_of_ble_eq_true rfl) ?_
  show Ok G FX2_weightB 0 [xR 90, xI i] [] SF M 0 0 _
  refine tr_iload_n (pc := 0) dX2_weightB_0 rfl ?_
  refine tr_iflt (pc := 1) (tgt := 21) dX2_weightB_1 (by decide) (fun c1 => absurd c1 (by omega)) (fun c1 => ?_)
  refine tr_iload_n (pc := 4) dX2_weightB_4 rfl ?_
  refine tr_aload_n (pc := 5) dX2_weightB_5 rfl (by decide) ?_
  refine tr_geti (pc := 6) (ji := 3) dX2_weightB_6 fi2_21 rfl sg90 rfl ?_
  refine tr_icmpge (pc := 9) (tgt := 21) dX2_weightB_9 (by decide) (fun c9 => absurd c9 (by omega)) (fun c9 => ?_)
  refine tr_aload_n (pc := 12) dX2_weightB_12 rfl (by decide) ?_
  refine tr_getr (pc := 13) (x := 92) dX2_weightB_13 fi2_15 rfl sg90 rfl ?_
  refine tr_iload_n (pc := 16) dX2_weightB_16 rfl ?_
  refine tr_iald (pc := 17) dX2_weightB_17 sg92 (by omega) (by omega) ?_
  refine tr_goto (pc := 18) (tgt := 22) dX2_weightB_18 (by decide) ?_
  refine tr_ireti (pc := 22) dX2_weightB_22 rfl ?_
  exact ⟨rfl, rfl⟩
theorem sp_X2_level {G : tk_G} {M : tk_M} {i : Int} (h7 : M 90 3 ≤ 7) (h0 : 0 ≤ i) (h1 : i < M 90 3) : Spi G FX2_level [xR 90, xI i] SF M (fun v M' => v = M 93 i ∧ M' = M) := by
  refine Spi.of _ mtX2_level nlX2_level (Nat.le_of_ble_eq_true rfl) ?_
  show Ok G FX2_level 0 [xR 90, xI i] [] SF M 0 0 _
  refine tr_iload_n (pc := 0) dX2_level_0 rfl ?_
  refine tr_iflt (pc := 1) (tgt := 21) dX2_level_1 (by decide) (fun c1 => absurd c1 (by omega)) (fun c1 => ?_)
  refine tr_iload_n (pc := 4) dX2_level_4 rfl ?_
  refine tr_aload_n (pc := 5) dX2_level_5 rfl (by decide) ?_
  refine tr_geti (pc := 6) (ji := 3) dX2_level_6 fi2_21 rfl sg90 rfl ?_
  refine tr_icmpge (pc := 9) (tgt := 21) dX2_level_9 (by decide) (fun c9 => absurd c9 (by omega)) (fun c9 => ?_)
  refine tr_aload_n (pc := 12) dX2_level_12 rfl (by decide) ?_
  refine tr_getr (pc := 13) (x := 93) dX2_level_13 fi2_18 rfl sg90 rfl ?_
  refine tr_iload_n (pc := 16) dX2_level_16 rfl ?_
  refine tr_iald (pc := 17) dX2_level_17 sg93 (by omega) (by omega) ?_
  refine tr_goto (pc := 18) (tgt := 22) dX2_level_18 (by decide) ?_
  refine tr_ireti (pc := 22) dX2_level_22 rfl ?_
  exact ⟨rfl, rfl⟩
theorem sp_X2_weigh {G : tk_G} {M : tk_M} {i a b : Int} {F : List (Int × Int × Int)} (hF : hl_at M F) (h0 : 0 ≤ i) (h1 : i < M 90 3) (ha : 0 ≤ a ∧ a ≤ 10) (hb : 0 ≤ b ∧ b ≤ 10) : Spi G FX2_weigh [xR 90, xI i, xI a, xI b] SF M (fun v M' => v = M 91 i * a + M 92 i * b ∧ M' = M) := by
  obtain ⟨-, g1, g2, -⟩ := hl_seg_get F 0 i hF.1 h0 h1
  have h7 := hF.2
  have m1 := mulb g1.1 g1.2 ha.1 ha.2
  have m2 := mulb g2.1 g2.2 hb.1 hb.2
  refine Spi.of _ mtX2_weigh nlX2_weigh (Nat.le_of_ble_eq_true rfl) ?_
  show Ok G FX2_weigh 0 [xR 90, xI i, xI a, xI b] [] SF M 0 0 _
  refine tr_aload_n (pc := 0) dX2_weigh_0 rfl (by decide) ?_
  refine tr_iload_n (pc := 1) dX2_weigh_1 rfl ?_
  refine tr_cVi1 (pc := 2) dX2_weigh_2 mtX2_weightA lv2_48 rfl sg90 kc2 ⟨(Nat.le_of_ble_eq_true rfl), (Nat.le_of_ble_eq_true rfl)⟩ nlX2_weightA (Nat.le_of_ble_eq_true rfl) ⟨(Nat.le_of_ble_eq_true rfl), (Nat.le_of_ble_eq_true rfl)⟩ (sp_X2_weightA h7 h0 h1) (fun r2 M2 h2 => ?_)
  obtain ⟨hr2, hM2⟩ := h2
  obtain rfl := hr2.symm
  obtain rfl := hM2.symm
  refine tr_iload_n (pc := 5) dX2_weigh_5 rfl ?_
  refine tr_imul (pc := 6) dX2_weigh_6 ⟨by omega, by omega⟩ ?_
  refine tr_aload_n (pc := 7) dX2_weigh_7 rfl (by decide) ?_
  refine tr_iload_n (pc := 8) dX2_weigh_8 rfl ?_
  refine tr_cVi1 (pc := 9) dX2_weigh_9 mtX2_weightB lv2_52 rfl sg90 kc2 ⟨(Nat.le_of_ble_eq_true rfl), (Nat.le_of_ble_eq_true rfl)⟩ nlX2_weightB (Nat.le_of_ble_eq_true rfl) ⟨(Nat.le_of_ble_eq_true rfl), (Nat.le_of_ble_eq_true rfl)⟩ (sp_X2_weightB h7 h0 h1) (fun r9 M9 h9 => ?_)
  obtain ⟨hr9, hM9⟩ := h9
  obtain rfl := hr9.symm
  obtain rfl := hM9.symm
  refine tr_iload_n (pc := 12) dX2_weigh_12 rfl ?_
  refine tr_imul (pc := 13) dX2_weigh_13 ⟨by omega, by omega⟩ ?_
  refine tr_iadd (pc := 14) dX2_weigh_14 ⟨by omega, by omega⟩ ?_
  refine tr_ireti (pc := 15) dX2_weigh_15 rfl ?_
  exact ⟨rfl, rfl⟩
def hl_cov (a b : Int) : List (Int × Int × Int) → Int
  | [] => 1
  | (s, t, l) :: F => if s * a + t * b < l then 0 else hl_cov a b F
theorem hl_cov01 (a b : Int) (F : List (Int × Int × Int)) : hl_cov a b F = 0 ∨ hl_cov a b F = 1 := by
  induction F with
  | nil => exact Or.inr rfl
  | cons q t ih => obtain ⟨p, q, u⟩ := q; unfold hl_cov; split; exact Or.inl rfl; exact ih
theorem sp_X2_covers {G : tk_G} {M : tk_M} {a b : Int} {F : List (Int × Int × Int)} (hF : hl_at M F) (ha : 0 ≤ a ∧ a ≤ 10) (hb : 0 ≤ b ∧ b ≤ 10) : Spi G FX2_covers [xR 90, xI a, xI b] SF M (fun v M' => v = hl_cov a b F ∧ M' = M) := by
  obtain ⟨hF, h7⟩ := hF
  refine Spi.of _ mtX2_covers nlX2_covers (Nat.le_of_ble_eq_true rfl) ?_
  show Ok G FX2_covers 0 [xR 90, xI a, xI b, xU] [] SF M 0 0 _
  have loop : ∀ (F : List (Int × Int × Int)) (i : Int), 0 ≤ i → hl_seg (M 91) (M 92) (M 93) (M 90 3) i F → Ok G FX2_covers 2 [xR 90, xI a, xI b, xI i] [] SF M 0 0 (tk_qi SF (fun v M' => v = hl_cov a b F ∧ M' = M)) := by
    intro F
    induction F with
    | nil =>
      intro i hi hs
      have hs : i = M 90 3 := hs
      refine tr_iload_n (pc := 2) dX2_covers_2 rfl ?_
      refine tr_aload_n (pc := 3) dX2_covers_3 rfl (by decide) ?_
      refine tr_geti (pc := 4) (ji := 3) dX2_covers_4 fi2_21 rfl sg90 rfl ?_
      refine tr_icmpge (pc := 7) (tgt := 44) dX2_covers_7 (by decide) (fun c7 => ?_) (fun c7 => absurd c7 (by omega))
      refine tr_iconst (pc := 44) dX2_covers_44 ⟨by decide, by decide⟩ ?_
      refine tr_iretz (pc := 45) dX2_covers_45 rfl (by omega) ?_
      exact ⟨rfl, rfl⟩
    | cons q F ih =>
      intro i hi hs
      obtain ⟨s, t, l⟩ := q
      obtain ⟨e1, e2, e3, b1, b2, b3, hlt, hs⟩ := hs
      have m1 := mulb b1.1 b1.2 ha.1 ha.2
      have m2 := mulb b2.1 b2.2 hb.1 hb.2
      refine tr_iload_n (pc := 2) dX2_covers_2 rfl ?_
      refine tr_aload_n (pc := 3) dX2_covers_3 rfl (by decide) ?_
      refine tr_geti (pc := 4) (ji := 3) dX2_covers_4 fi2_21 rfl sg90 rfl ?_
      refine tr_icmpge (pc := 7) (tgt := 44) dX2_covers_7 (by decide) (fun c7 => absurd c7 (by omega)) (fun c7 => ?_)
      refine tr_aload_n (pc := 10) dX2_covers_10 rfl (by decide) ?_
      refine tr_getr (pc := 11) (x := 91) dX2_covers_11 fi2_11 rfl sg90 rfl ?_
      refine tr_iload_n (pc := 14) dX2_covers_14 rfl ?_
      refine tr_ialdv (pc := 15) (x := s) dX2_covers_15 sg91 (by omega) (by omega) (e1) ?_
      refine tr_iload_n (pc := 16) dX2_covers_16 rfl ?_
      refine tr_imul (pc := 17) dX2_covers_17 ⟨by omega, by omega⟩ ?_
      refine tr_aload_n (pc := 18) dX2_covers_18 rfl (by decide) ?_
      refine tr_getr (pc := 19) (x := 92) dX2_covers_19 fi2_15 rfl sg90 rfl ?_
      refine tr_iload_n (pc := 22) dX2_covers_22 rfl ?_
      refine tr_ialdv (pc := 23) (x := t) dX2_covers_23 sg92 (by omega) (by omega) (e2) ?_
      refine tr_iload_n (pc := 24) dX2_covers_24 rfl ?_
      refine tr_imul (pc := 25) dX2_covers_25 ⟨by omega, by omega⟩ ?_
      refine tr_iadd (pc := 26) dX2_covers_26 ⟨by omega, by omega⟩ ?_
      refine tr_aload_n (pc := 27) dX2_covers_27 rfl (by decide) ?_
      refine tr_getr (pc := 28) (x := 93) dX2_covers_28 fi2_18 rfl sg90 rfl ?_
      refine tr_iload_n (pc := 31) dX2_covers_31 rfl ?_
      refine tr_ialdv (pc := 32) (x := l) dX2_covers_32 sg93 (by omega) (by omega) (e3) ?_
      refine tr_icmpge (pc := 33) (tgt := 38) dX2_covers_33 (by decide) (fun c33 => ?_) (fun c33 => ?_)
      · skip
        refine tr_iinc (pc := 38) dX2_covers_38 rfl rfl ⟨by omega, by omega⟩ ?_
        dsimp only [List.set]
        refine tr_goto (pc := 41) (tgt := 2) dX2_covers_41 (by decide) ?_
        unfold hl_cov
        rw [if_neg (by omega)]
        exact ih (i + 1) (by omega) hs
      · skip
        refine tr_iconst (pc := 36) dX2_covers_36 ⟨by decide, by decide⟩ ?_
        refine tr_iretz (pc := 37) dX2_covers_37 rfl (by omega) ?_
        exact ⟨(if_pos (by omega)).symm, rfl⟩
  refine tr_iconst (pc := 0) dX2_covers_0 ⟨by decide, by decide⟩ ?_
  refine tr_istore_n (pc := 1) dX2_covers_1 rfl (Nat.le_of_ble_eq_true rfl) ?_
  dsimp only [List.set]
  exact loop F 0 (by omega) hF
def hl_bar (a b num den : Int) : Int → List (Int × Int × Int) → Int
  | _, [] => -1
  | i, (s, t, l) :: F => if 0 < l ∧ (s * (a + 1) + t * (b + 1)) * den ≤ num * l then i else hl_bar a b num den (i + 1) F
theorem hl_bar_ge (a b num den : Int) : ∀ (F : List (Int × Int × Int)) (i : Int), 0 ≤ i → hl_bar a b num den i F = -1 ∨ (i ≤ hl_bar a b num den i F ∧ hl_bar a b num den i F < i + F.length) := by
  intro F
  induction F with
  | nil => intro i _; exact Or.inl rfl
  | cons q t ih =>
    intro i hi
    obtain ⟨p, q, u⟩ := q
    unfold hl_bar
    split
    · exact Or.inr (by simp only [List.length_cons]; omega)
    · have := ih (i + 1) (by omega)
      simp only [List.length_cons]; omega
theorem sp_X2_barring {G : tk_G} {M : tk_M} {a b num den : Int} {F : List (Int × Int × Int)} (hF : hl_at M F) (ha : 0 ≤ a ∧ a ≤ 9) (hb : 0 ≤ b ∧ b ≤ 9) (hn : 1 ≤ num ∧ num ≤ 99) (hd : 1 ≤ den ∧ den ≤ 99) : Spi G FX2_barring [xR 90, xI a, xI b, xI num, xI den] SF M (fun v M' => v = hl_bar a b num den 0 F ∧ M' = M) := by
  obtain ⟨hF, h7⟩ := hF
  refine Spi.of _ mtX2_barring nlX2_barring (Nat.le_of_ble_eq_true rfl) ?_
  show Ok G FX2_barring 0 [xR 90, xI a, xI b, xI num, xI den, xU, xU] [] SF M 0 0 _
  have loop : ∀ (F : List (Int × Int × Int)) (i : Int) (v6 : tk_V), 0 ≤ i → hl_seg (M 91) (M 92) (M 93) (M 90 3) i F → Ok G FX2_barring 3 [xR 90, xI a, xI b, xI num, xI den, xI i, v6] [] SF M 0 0 (tk_qi SF (fun v M' => v = hl_bar a b num den i F ∧ M' = M)) := by
    intro F
    induction F with
    | nil =>
      intro i v6 hi hs
      have hs : i = M 90 3 := hs
      refine tr_iload (pc := 3) dX2_barring_3 rfl ?_
      refine tr_aload_n (pc := 5) dX2_barring_5 rfl (by decide) ?_
      refine tr_geti (pc := 6) (ji := 3) dX2_barring_6 fi2_21 rfl sg90 rfl ?_
      refine tr_icmpge (pc := 9) (tgt := 73) dX2_barring_9 (by decide) (fun c9 => ?_) (fun c9 => absurd c9 (by omega))
      refine tr_iconst (pc := 73) dX2_barring_73 ⟨by decide, by decide⟩ ?_
      refine tr_ireti (pc := 74) dX2_barring_74 rfl ?_
      exact ⟨rfl, rfl⟩
    | cons q F ih =>
      intro i v6 hi hs
      obtain ⟨s, t, l⟩ := q
      obtain ⟨e1, e2, e3, b1, b2, b3, hlt, hs⟩ := hs
      have m1 := mulb (y := a + 1) (Y := 10) b1.1 b1.2 (by omega) (by omega)
      have m2 := mulb (y := b + 1) (Y := 10) b2.1 b2.2 (by omega) (by omega)
      have m3 := mulb (x := s * (a + 1) + t * (b + 1)) (X := 180) (y := den) (Y := 99) (by omega) (by omega) (by omega) (by omega)
      have m4 := mulb (x := num) (X := 99) (y := l) (Y := 162) (by omega) (by omega) (by omega) (by omega)
      refine tr_iload (pc := 3) dX2_barring_3 rfl ?_
      refine tr_aload_n (pc := 5) dX2_barring_5 rfl (by decide) ?_
      refine tr_geti (pc := 6) (ji := 3) dX2_barring_6 fi2_21 rfl sg90 rfl ?_
      refine tr_icmpge (pc := 9) (tgt := 73) dX2_barring_9 (by decide) (fun c9 => absurd c9 (by omega)) (fun c9 => ?_)
      refine tr_aload_n (pc := 12) dX2_barring_12 rfl (by decide) ?_
      refine tr_getr (pc := 13) (x := 91) dX2_barring_13 fi2_11 rfl sg90 rfl ?_
      refine tr_iload (pc := 16) dX2_barring_16 rfl ?_
      refine tr_ialdv (pc := 18) (x := s) dX2_barring_18 sg91 (by omega) (by omega) (e1) ?_
      refine tr_iload_n (pc := 19) dX2_barring_19 rfl ?_
      refine tr_iconst (pc := 20) dX2_barring_20 ⟨by decide, by decide⟩ ?_
      refine tr_iadd (pc := 21) dX2_barring_21 ⟨by omega, by omega⟩ ?_
      refine tr_imul (pc := 22) dX2_barring_22 ⟨by omega, by omega⟩ ?_
      refine tr_aload_n (pc := 23) dX2_barring_23 rfl (by decide) ?_
      refine tr_getr (pc := 24) (x := 92) dX2_barring_24 fi2_15 rfl sg90 rfl ?_
      refine tr_iload (pc := 27) dX2_barring_27 rfl ?_
      refine tr_ialdv (pc := 29) (x := t) dX2_barring_29 sg92 (by omega) (by omega) (e2) ?_
      refine tr_iload_n (pc := 30) dX2_barring_30 rfl ?_
      refine tr_iconst (pc := 31) dX2_barring_31 ⟨by decide, by decide⟩ ?_
      refine tr_iadd (pc := 32) dX2_barring_32 ⟨by omega, by omega⟩ ?_
      refine tr_imul (pc := 33) dX2_barring_33 ⟨by omega, by omega⟩ ?_
      refine tr_iadd (pc := 34) dX2_barring_34 ⟨by omega, by omega⟩ ?_
      refine tr_istore (pc := 35) dX2_barring_35 rfl (Nat.le_of_ble_eq_true rfl) ?_
      dsimp only [List.set]
      refine tr_aload_n (pc := 37) dX2_barring_37 rfl (by decide) ?_
      refine tr_getr (pc := 38) (x := 93) dX2_barring_38 fi2_18 rfl sg90 rfl ?_
      refine tr_iload (pc := 41) dX2_barring_41 rfl ?_
      refine tr_ialdv (pc := 43) (x := l) dX2_barring_43 sg93 (by omega) (by omega) (e3) ?_
      refine tr_ifle (pc := 44) (tgt := 67) dX2_barring_44 (by decide) (fun c44 => ?_) (fun c44 => ?_)
      · skip
        refine tr_iinc (pc := 67) dX2_barring_67 rfl rfl ⟨by omega, by omega⟩ ?_
        dsimp only [List.set]
        refine tr_goto (pc := 70) (tgt := 3) dX2_barring_70 (by decide) ?_
        unfold hl_bar
        rw [if_neg (by omega)]
        exact ih (i + 1) _ (by omega) hs
      · skip
        refine tr_iload (pc := 47) dX2_barring_47 rfl ?_
        refine tr_iload (pc := 49) dX2_barring_49 rfl ?_
        refine tr_imul (pc := 51) dX2_barring_51 ⟨by omega, by omega⟩ ?_
        refine tr_iload_n (pc := 52) dX2_barring_52 rfl ?_
        refine tr_aload_n (pc := 53) dX2_barring_53 rfl (by decide) ?_
        refine tr_getr (pc := 54) (x := 93) dX2_barring_54 fi2_18 rfl sg90 rfl ?_
        refine tr_iload (pc := 57) dX2_barring_57 rfl ?_
        refine tr_ialdv (pc := 59) (x := l) dX2_barring_59 sg93 (by omega) (by omega) (e3) ?_
        refine tr_imul (pc := 60) dX2_barring_60 ⟨by omega, by omega⟩ ?_
        refine tr_icmpgt (pc := 61) (tgt := 67) dX2_barring_61 (by decide) (fun c61 => ?_) (fun c61 => ?_)
        · skip
          refine tr_iinc (pc := 67) dX2_barring_67 rfl rfl ⟨by omega, by omega⟩ ?_
          dsimp only [List.set]
          refine tr_goto (pc := 70) (tgt := 3) dX2_barring_70 (by decide) ?_
          unfold hl_bar
          rw [if_neg (by omega)]
          exact ih (i + 1) _ (by omega) hs
        · skip
          refine tr_iload (pc := 64) dX2_barring_64 rfl ?_
          refine tr_ireti (pc := 66) dX2_barring_66 rfl ?_
          exact ⟨(if_pos (by omega)).symm, rfl⟩
  refine tr_iconst (pc := 0) dX2_barring_0 ⟨by decide, by decide⟩ ?_
  refine tr_istore (pc := 1) dX2_barring_1 rfl (Nat.le_of_ble_eq_true rfl) ?_
  dsimp only [List.set]
  exact loop F 0 xU (by omega) hF
/-- the FACE that has the JUMP: number, weight, LEVEL -/
def hl_tgt (a b : Int) : Int → Int × Int × Int → List (Int × Int × Int) → Int × Int × Int
  | _, z, [] => z
  | i, z, (s, t, l) :: F => hl_tgt a b (i + 1) (if 0 < l ∧ (z.1 < 0 ∨ (s * (a + 1) + t * (b + 1)) * z.2.2 < z.2.1 * l) then (i, s * (a + 1) + t * (b + 1), l) else z) F
theorem sp_X2_tightest {G : tk_G} {M : tk_M} {a b : Int} {F : List (Int × Int × Int)} (hF : hl_at M F) (ha : 0 ≤ a ∧ a ≤ 9) (hb : 0 ≤ b ∧ b ≤ 9) : Spi G FX2_tightest [xR 90, xI a, xI b] SF M (fun v M' => v = (hl_tgt a b 0 (-1, 0, 0) F).1 ∧ M' = M) := by
  obtain ⟨hF, h7⟩ := hF
  refine Spi.of _ mtX2_tightest nlX2_tightest (Nat.le_of_ble_eq_true rfl) ?_
  show Ok G FX2_tightest 0 [xR 90, xI a, xI b, xU, xU, xU, xU] [] SF M 0 0 _
  have loop : ∀ (F : List (Int × Int × Int)) (i z1 z2 z3 : Int) (v6 : tk_V), 0 ≤ i → -1 ≤ z1 → z1 < i → (0 ≤ z1 → M 93 z1 = z3 ∧ 0 ≤ z3 ∧ z3 ≤ 162) → (0 ≤ z2 ∧ z2 ≤ 180) → hl_seg (M 91) (M 92) (M 93) (M 90 3) i F → Ok G FX2_tightest 8 [xR 90, xI a, xI b, xI z1, xI z2, xI i, v6] [] SF M 0 0 (tk_qi SF (fun v M' => v = (hl_tgt a b i (z1, z2, z3) F).1 ∧ M' = M)) := by
    intro F
    induction F with
    | nil =>
      intro i z1 z2 z3 v6 hi hz0 hz1 hz3 hz2 hs
      have hs : i = M 90 3 := hs
      refine tr_iload (pc := 8) dX2_tightest_8 rfl ?_
      refine tr_aload_n (pc := 10) dX2_tightest_10 rfl (by decide) ?_
      refine tr_geti (pc := 11) (ji := 3) dX2_tightest_11 fi2_21 rfl sg90 rfl ?_
      refine tr_icmpge (pc := 14) (tgt := 91) dX2_tightest_14 (by decide) (fun c14 => ?_) (fun c14 => absurd c14 (by omega))
      refine tr_iload_n (pc := 91) dX2_tightest_91 rfl ?_
      refine tr_ireti (pc := 92) dX2_tightest_92 rfl ?_
      exact ⟨rfl, rfl⟩
    | cons q F ih =>
      intro i z1 z2 z3 v6 hi hz0 hz1 hz3 hz2 hs
      obtain ⟨s, t, l⟩ := q
      obtain ⟨e1, e2, e3, b1, b2, b3, hlt, hs⟩ := hs
      have m1 := mulb (y := a + 1) (Y := 10) b1.1 b1.2 (by omega) (by omega)
      have m2 := mulb (y := b + 1) (Y := 10) b2.1 b2.2 (by omega) (by omega)
      have m4 := mulb (x := z2) (X := 180) (y := l) (Y := 162) (by omega) (by omega) (by omega) (by omega)
      refine tr_iload (pc := 8) dX2_tightest_8 rfl ?_
      refine tr_aload_n (pc := 10) dX2_tightest_10 rfl (by decide) ?_
      refine tr_geti (pc := 11) (ji := 3) dX2_tightest_11 fi2_21 rfl sg90 rfl ?_
      refine tr_icmpge (pc := 14) (tgt := 91) dX2_tightest_14 (by decide) (fun c14 => absurd c14 (by omega)) (fun c14 => ?_)
      refine tr_aload_n (pc := 17) dX2_tightest_17 rfl (by decide) ?_
      refine tr_getr (pc := 18) (x := 91) dX2_tightest_18 fi2_11 rfl sg90 rfl ?_
      refine tr_iload (pc := 21) dX2_tightest_21 rfl ?_
      refine tr_ialdv (pc := 23) (x := s) dX2_tightest_23 sg91 (by omega) (by omega) (e1) ?_
      refine tr_iload_n (pc := 24) dX2_tightest_24 rfl ?_
      refine tr_iconst (pc := 25) dX2_tightest_25 ⟨by decide, by decide⟩ ?_
      refine tr_iadd (pc := 26) dX2_tightest_26 ⟨by omega, by omega⟩ ?_
      refine tr_imul (pc := 27) dX2_tightest_27 ⟨by omega, by omega⟩ ?_
      refine tr_aload_n (pc := 28) dX2_tightest_28 rfl (by decide) ?_
      refine tr_getr (pc := 29) (x := 92) dX2_tightest_29 fi2_15 rfl sg90 rfl ?_
      refine tr_iload (pc := 32) dX2_tightest_32 rfl ?_
      refine tr_ialdv (pc := 34) (x := t) dX2_tightest_34 sg92 (by omega) (by omega) (e2) ?_
      refine tr_iload_n (pc := 35) dX2_tightest_35 rfl ?_
      refine tr_iconst (pc := 36) dX2_tightest_36 ⟨by decide, by decide⟩ ?_
      refine tr_iadd (pc := 37) dX2_tightest_37 ⟨by omega, by omega⟩ ?_
      refine tr_imul (pc := 38) dX2_tightest_38 ⟨by omega, by omega⟩ ?_
      refine tr_iadd (pc := 39) dX2_tightest_39 ⟨by omega, by omega⟩ ?_
      refine tr_istore (pc := 40) dX2_tightest_40 rfl (Nat.le_of_ble_eq_true rfl) ?_
      dsimp only [List.set]
      refine tr_aload_n (pc := 42) dX2_tightest_42 rfl (by decide) ?_
      refine tr_getr (pc := 43) (x := 93) dX2_tightest_43 fi2_18 rfl sg90 rfl ?_
      refine tr_iload (pc := 46) dX2_tightest_46 rfl ?_
      refine tr_ialdv (pc := 48) (x := l) dX2_tightest_48 sg93 (by omega) (by omega) (e3) ?_
      refine tr_ifle (pc := 49) (tgt := 85) dX2_tightest_49 (by decide) (fun c49 => ?_) (fun c49 => ?_)
      · skip
        refine tr_iinc (pc := 85) dX2_tightest_85 rfl rfl ⟨by omega, by omega⟩ ?_
        dsimp only [List.set]
        refine tr_goto (pc := 88) (tgt := 8) dX2_tightest_88 (by decide) ?_
        unfold hl_tgt
        dsimp only
        first
        | rw [if_neg (by omega)]
          exact ih (i + 1) z1 z2 z3 _ (by omega) (by omega) (by omega) hz3 hz2 hs
        | rw [if_pos (by omega)]
          exact ih (i + 1) i (s * (a + 1) + t * (b + 1)) l _ (by omega) (by omega) (by omega) (fun _ => ⟨e3, by omega, by omega⟩) (by omega) hs
      · skip
        refine tr_iload_n (pc := 52) dX2_tightest_52 rfl ?_
        refine tr_iflt (pc := 53) (tgt := 78) dX2_tightest_53 (by decide) (fun c53 => ?_) (fun c53 => ?_)
        · skip
          refine tr_iload (pc := 78) dX2_tightest_78 rfl ?_
          refine tr_istore_n (pc := 80) dX2_tightest_80 rfl (Nat.le_of_ble_eq_true rfl) ?_
          dsimp only [List.set]
          refine tr_iload (pc := 81) dX2_tightest_81 rfl ?_
          refine tr_istore (pc := 83) dX2_tightest_83 rfl (Nat.le_of_ble_eq_true rfl) ?_
          dsimp only [List.set]
          refine tr_iinc (pc := 85) dX2_tightest_85 rfl rfl ⟨by omega, by omega⟩ ?_
          dsimp only [List.set]
          refine tr_goto (pc := 88) (tgt := 8) dX2_tightest_88 (by decide) ?_
          unfold hl_tgt
          dsimp only
          first
          | rw [if_neg (by omega)]
            exact ih (i + 1) z1 z2 z3 _ (by omega) (by omega) (by omega) hz3 hz2 hs
          | rw [if_pos (by omega)]
            exact ih (i + 1) i (s * (a + 1) + t * (b + 1)) l _ (by omega) (by omega) (by omega) (fun _ => ⟨e3, by omega, by omega⟩) (by omega) hs
        · skip
          have hz4 := hz3 (by omega)
          have m3 := mulb (x := s * (a + 1) + t * (b + 1)) (X := 180) (y := z3) (Y := 162) (by omega) (by omega) (by omega) (by omega)
          refine tr_iload (pc := 56) dX2_tightest_56 rfl ?_
          refine tr_aload_n (pc := 58) dX2_tightest_58 rfl (by decide) ?_
          refine tr_getr (pc := 59) (x := 93) dX2_tightest_59 fi2_18 rfl sg90 rfl ?_
          refine tr_iload_n (pc := 62) dX2_tightest_62 rfl ?_
          refine tr_ialdv (pc := 63) (x := z3) dX2_tightest_63 sg93 (by omega) (by omega) ((hz3 (by omega)).1) ?_
          refine tr_imul (pc := 64) dX2_tightest_64 ⟨by omega, by omega⟩ ?_
          refine tr_iload (pc := 65) dX2_tightest_65 rfl ?_
          refine tr_aload_n (pc := 67) dX2_tightest_67 rfl (by decide) ?_
          refine tr_getr (pc := 68) (x := 93) dX2_tightest_68 fi2_18 rfl sg90 rfl ?_
          refine tr_iload (pc := 71) dX2_tightest_71 rfl ?_
          refine tr_ialdv (pc := 73) (x := l) dX2_tightest_73 sg93 (by omega) (by omega) (e3) ?_
          refine tr_imul (pc := 74) dX2_tightest_74 ⟨by omega, by omega⟩ ?_
          refine tr_icmpge (pc := 75) (tgt := 85) dX2_tightest_75 (by decide) (fun c75 => ?_) (fun c75 => ?_)
          · skip
            refine tr_iinc (pc := 85) dX2_tightest_85 rfl rfl ⟨by omega, by omega⟩ ?_
            dsimp only [List.set]
            refine tr_goto (pc := 88) (tgt := 8) dX2_tightest_88 (by decide) ?_
            unfold hl_tgt
            dsimp only
            first
            | rw [if_neg (by omega)]
              exact ih (i + 1) z1 z2 z3 _ (by omega) (by omega) (by omega) hz3 hz2 hs
            | rw [if_pos (by omega)]
              exact ih (i + 1) i (s * (a + 1) + t * (b + 1)) l _ (by omega) (by omega) (by omega) (fun _ => ⟨e3, by omega, by omega⟩) (by omega) hs
          · skip
            refine tr_iload (pc := 78) dX2_tightest_78 rfl ?_
            refine tr_istore_n (pc := 80) dX2_tightest_80 rfl (Nat.le_of_ble_eq_true rfl) ?_
            dsimp only [List.set]
            refine tr_iload (pc := 81) dX2_tightest_81 rfl ?_
            refine tr_istore (pc := 83) dX2_tightest_83 rfl (Nat.le_of_ble_eq_true rfl) ?_
            dsimp only [List.set]
            refine tr_iinc (pc := 85) dX2_tightest_85 rfl rfl ⟨by omega, by omega⟩ ?_
            dsimp only [List.set]
            refine tr_goto (pc := 88) (tgt := 8) dX2_tightest_88 (by decide) ?_
            unfold hl_tgt
            dsimp only
            first
            | rw [if_neg (by omega)]
              exact ih (i + 1) z1 z2 z3 _ (by omega) (by omega) (by omega) hz3 hz2 hs
            | rw [if_pos (by omega)]
              exact ih (i + 1) i (s * (a + 1) + t * (b + 1)) l _ (by omega) (by omega) (by omega) (fun _ => ⟨e3, by omega, by omega⟩) (by omega) hs
  refine tr_iconst (pc := 0) dX2_tightest_0 ⟨by decide, by decide⟩ ?_
  refine tr_istore_n (pc := 1) dX2_tightest_1 rfl (Nat.le_of_ble_eq_true rfl) ?_
  dsimp only [List.set]
  refine tr_iconst (pc := 2) dX2_tightest_2 ⟨by decide, by decide⟩ ?_
  refine tr_istore (pc := 3) dX2_tightest_3 rfl (Nat.le_of_ble_eq_true rfl) ?_
  dsimp only [List.set]
  refine tr_iconst (pc := 5) dX2_tightest_5 ⟨by decide, by decide⟩ ?_
  refine tr_istore (pc := 6) dX2_tightest_6 rfl (Nat.le_of_ble_eq_true rfl) ?_
  dsimp only [List.set]
  exact loop F 0 (-1) 0 0 xU (by omega) (by omega) (by omega) (fun h => by omega) (by omega) hF
theorem hl_tgt_at {A B C : Int → Int} {n a b : Int} : ∀ (F : List (Int × Int × Int)) (i : Int) (z : Int × Int × Int), 0 ≤ i → (z.1 = -1 ∨ (0 ≤ z.1 ∧ z.1 < i ∧ A z.1 * (a + 1) + B z.1 * (b + 1) = z.2.1 ∧ C z.1 = z.2.2 ∧ 0 < z.2.2)) → hl_seg A B C n i F → (hl_tgt a b i z F).1 = -1 ∨ (0 ≤ (hl_tgt a b i z F).1 ∧ (hl_tgt a b i z F).1 < n ∧ A (hl_tgt a b i z F).1 * (a + 1) + B (hl_tgt a b i z F).1 * (b + 1) = (hl_tgt a b i z F).2.1 ∧ C (hl_tgt a b i z F).1 = (hl_tgt a b i z F).2.2 ∧ 0 < (hl_tgt a b i z F).2.2) := by
  intro F
  induction F with
  | nil => intro i z hi hz hs; have hs : i = n := hs; subst hs; exact hz
  | cons q F ih =>
    intro i z hi hz hs
    obtain ⟨s, t, l⟩ := q
    obtain ⟨e1, e2, e3, b1, b2, b3, hlt, hs⟩ := hs
    unfold hl_tgt
    apply ih (i + 1) _ (by omega) _ hs
    split
    · right; exact ⟨hi, by show i < i + 1; omega, by show A i * _ + B i * _ = _; rw [e1, e2], e3, by show 0 < l; omega⟩
    · rcases hz with h | h
      · exact Or.inl h
      · exact Or.inr ⟨h.1, by omega, h.2.2⟩
def hl_flr (a : Int) (F : List (Int × Int × Int)) : Nat → Int → Int
  | 0, _ => 10
  | d + 1, b => if hl_cov a b F = 0 then hl_flr a F d (b + 1) else b
theorem sp_X2_floorAt {G : tk_G} {M : tk_M} {a : Int} {F : List (Int × Int × Int)} (hF : hl_at M F) (ha : 0 ≤ a ∧ a ≤ 9) : Spi G FX2_floorAt [xR 90, xI a] SF M (fun v M' => v = hl_flr a F 10 0 ∧ M' = M) := by
  refine Spi.of _ mtX2_floorAt nlX2_floorAt (Nat.le_of_ble_eq_true rfl) ?_
  show Ok G FX2_floorAt 0 [xR 90, xI a, xU] [] SF M 0 0 _
  have loop : ∀ (d : Nat) (b : Int), b + d = 10 → 0 ≤ b → Ok G FX2_floorAt 2 [xR 90, xI a, xI b] [] SF M 0 0 (tk_qi SF (fun v M' => v = hl_flr a F d b ∧ M' = M)) := by
    intro d
    induction d with
    | zero =>
      intro b hd hb
      refine tr_iload_n (pc := 2) dX2_floorAt_2 rfl ?_
      refine tr_bipush (pc := 3) dX2_floorAt_3 ⟨by decide, ⟨by decide, by decide⟩⟩ ?_
      refine tr_icmpgt (pc := 5) (tgt := 25) dX2_floorAt_5 (by decide) (fun c5 => ?_) (fun c5 => absurd c5 (by omega))
      refine tr_bipush (pc := 25) dX2_floorAt_25 ⟨by decide, ⟨by decide, by decide⟩⟩ ?_
      refine tr_ireti (pc := 27) dX2_floorAt_27 rfl ?_
      exact ⟨rfl, rfl⟩
    | succ d ih =>
      intro b hd hb
      refine tr_iload_n (pc := 2) dX2_floorAt_2 rfl ?_
      refine tr_bipush (pc := 3) dX2_floorAt_3 ⟨by decide, ⟨by decide, by decide⟩⟩ ?_
      refine tr_icmpgt (pc := 5) (tgt := 25) dX2_floorAt_5 (by decide) (fun c5 => absurd c5 (by omega)) (fun c5 => ?_)
      refine tr_aload_n (pc := 8) dX2_floorAt_8 rfl (by decide) ?_
      refine tr_iload_n (pc := 9) dX2_floorAt_9 rfl ?_
      refine tr_iload_n (pc := 10) dX2_floorAt_10 rfl ?_
      refine tr_cVi2 (pc := 11) dX2_floorAt_11 mtX2_covers lv2_55 rfl sg90 kc2 ⟨(Nat.le_of_ble_eq_true rfl), (Nat.le_of_ble_eq_true rfl)⟩ nlX2_covers (Nat.le_of_ble_eq_true rfl) ⟨(Nat.le_of_ble_eq_true rfl), (Nat.le_of_ble_eq_true rfl)⟩ (sp_X2_covers hF (by omega) (by omega)) (fun r11 M11 h11 => ?_)
      obtain ⟨hr11, hM11⟩ := h11
      obtain rfl := hr11.symm
      obtain rfl := hM11.symm
      refine tr_ifeq (pc := 14) (tgt := 19) dX2_floorAt_14 (by decide) (fun c14 => ?_) (fun c14 => ?_)
      · skip
        refine tr_iinc (pc := 19) dX2_floorAt_19 rfl rfl ⟨by omega, by omega⟩ ?_
        dsimp only [List.set]
        refine tr_goto (pc := 22) (tgt := 2) dX2_floorAt_22 (by decide) ?_
        unfold hl_flr
        rw [if_pos (by omega)]
        exact ih (b + 1) (by omega) (by omega)
      · skip
        refine tr_iload_n (pc := 17) dX2_floorAt_17 rfl ?_
        refine tr_ireti (pc := 18) dX2_floorAt_18 rfl ?_
        exact ⟨(if_neg (by omega)).symm, rfl⟩
  refine tr_iconst (pc := 0) dX2_floorAt_0 ⟨by decide, by decide⟩ ?_
  refine tr_istore_n (pc := 1) dX2_floorAt_1 rfl (Nat.le_of_ble_eq_true rfl) ?_
  dsimp only [List.set]
  exact loop 10 0 (by omega) (by omega)
/-- the corners: how many, and the first six of them -/
def hl_pc (F : List (Int × Int × Int)) : Nat → Int → Int → Int → List (Int × Int) → Int × List (Int × Int)
  | 0, _, cn, _, acc => (cn, acc)
  | d + 1, a, cn, low, acc => if hl_flr a F 10 0 < low then hl_pc F d (a + 1) (cn + 1) (hl_flr a F 10 0) (ig_add acc a (hl_flr a F 10 0)) else hl_pc F d (a + 1) cn low acc
theorem hl_flr_r (a : Int) (F : List (Int × Int × Int)) : ∀ (d : Nat) (b : Int), 0 ≤ b → b + d = 10 → 0 ≤ hl_flr a F d b ∧ hl_flr a F d b ≤ 10 := by
  intro d
  induction d with
  | zero => intro b h1 h2; unfold hl_flr; omega
  | succ d ih =>
    intro b h1 h2
    unfold hl_flr
    split
    · exact ih (b + 1) (by omega) (by omega)
    · omega
theorem sp_X2_putCorners {G : tk_G} {M : tk_M} {F : List (Int × Int × Int)} (hF : hl_at M F) : Spi G FX2_putCorners [xR 90, xR 87] SF M (fun v M' => v = (hl_pc F 10 0 0 10 []).1 ∧ ig_at M' 87 (hl_pc F 10 0 0 10 []).2 ∧ tk_fr M M' 87 90) := by
  refine Spi.of _ mtX2_putCorners nlX2_putCorners (Nat.le_of_ble_eq_true rfl) ?_
  show Ok G FX2_putCorners 0 [xR 90, xR 87, xU, xU, xU, xU] [] SF M 0 0 _
  have loop : ∀ (d : Nat) (a cn low : Int) (acc : List (Int × Int)) (M1 : tk_M) (v5 : tk_V), a + d = 10 → 0 ≤ a → 0 ≤ cn → cn ≤ a → low ≤ 10 → ig_at M1 87 acc → tk_fr M M1 87 90 → Ok G FX2_putCorners 12 [xR 90, xR 87, xI cn, xI low, xI a, v5] [] SF M1 0 0 (tk_qi SF (fun v M' => v = (hl_pc F d a cn low acc).1 ∧ ig_at M' 87 (hl_pc F d a cn low acc).2 ∧ tk_fr M M' 87 90)) := by
    intro d
    induction d with
    | zero =>
      intro a cn low acc M1 v5 hd ha hc0 hc1 hl hg hf
      refine tr_iload (pc := 12) dX2_putCorners_12 rfl ?_
      refine tr_bipush (pc := 14) dX2_putCorners_14 ⟨by decide, ⟨by decide, by decide⟩⟩ ?_
      refine tr_icmpgt (pc := 16) (tgt := 53) dX2_putCorners_16 (by decide) (fun c16 => ?_) (fun c16 => absurd c16 (by omega))
      refine tr_iload_n (pc := 53) dX2_putCorners_53 rfl ?_
      refine tr_ireti (pc := 54) dX2_putCorners_54 rfl ?_
      exact ⟨rfl, hg, hf⟩
    | succ d ih =>
      intro a cn low acc M1 v5 hd ha hc0 hc1 hl hg hf
      have hF1 : hl_at M1 F := hF.frame (fun c h1 h2 => hf c (by omega))
      have hfl := hl_flr_r a F 10 0 (by omega) (by omega)
      have hln := hg.len
      refine tr_iload (pc := 12) dX2_putCorners_12 rfl ?_
      refine tr_bipush (pc := 14) dX2_putCorners_14 ⟨by decide, ⟨by decide, by decide⟩⟩ ?_
      refine tr_icmpgt (pc := 16) (tgt := 53) dX2_putCorners_16 (by decide) (fun c16 => absurd c16 (by omega)) (fun c16 => ?_)
      refine tr_aload_n (pc := 19) dX2_putCorners_19 rfl (by decide) ?_
      refine tr_iload (pc := 20) dX2_putCorners_20 rfl ?_
      refine tr_cVi1 (pc := 22) dX2_putCorners_22 mtX2_floorAt lv2_62 rfl sg90 kc2 ⟨(Nat.le_of_ble_eq_true rfl), (Nat.le_of_ble_eq_true rfl)⟩ nlX2_floorAt (Nat.le_of_ble_eq_true rfl) ⟨(Nat.le_of_ble_eq_true rfl), (Nat.le_of_ble_eq_true rfl)⟩ (sp_X2_floorAt hF1 (by omega)) (fun r22 M22 h22 => ?_)
      obtain ⟨hr22, hM22⟩ := h22
      obtain rfl := hr22.symm
      obtain rfl := hM22.symm
      refine tr_istore (pc := 25) dX2_putCorners_25 rfl (Nat.le_of_ble_eq_true rfl) ?_
      dsimp only [List.set]
      refine tr_iload (pc := 27) dX2_putCorners_27 rfl ?_
      refine tr_iload_n (pc := 29) dX2_putCorners_29 rfl ?_
      refine tr_icmpge (pc := 30) (tgt := 47) dX2_putCorners_30 (by decide) (fun c30 => ?_) (fun c30 => ?_)
      · skip
        refine tr_iinc (pc := 47) dX2_putCorners_47 rfl rfl ⟨by omega, by omega⟩ ?_
        dsimp only [List.set]
        refine tr_goto (pc := 50) (tgt := 12) dX2_putCorners_50 (by decide) ?_
        unfold hl_pc
        first
        | rw [if_neg (by omega)]
          exact ih (a + 1) cn low acc M1 _ (by omega) (by omega) (by omega) (by omega) (by omega) hg hf
        | rw [if_pos (by omega)]
          exact ih (a + 1) (cn + 1) _ _ _ _ (by omega) (by omega) (by omega) (by omega) (by omega) (ig_addM_at hg (by omega) (by omega) (by omega) (by omega)) (hf.trans (ig_addM_fr M1 87 a _))
      · skip
        refine tr_aload_n (pc := 33) dX2_putCorners_33 rfl (by decide) ?_
        refine tr_iload (pc := 34) dX2_putCorners_34 rfl ?_
        refine tr_iload (pc := 36) dX2_putCorners_36 rfl ?_
        refine tr_cVv2 (pc := 38) dX2_putCorners_38 mtX3_add lv2_65 rfl sg87 kc3 ⟨(Nat.le_of_ble_eq_true rfl), (Nat.le_of_ble_eq_true rfl)⟩ nlX3_add (Nat.le_of_ble_eq_true rfl) ⟨(Nat.le_of_ble_eq_true rfl), (Nat.le_of_ble_eq_true rfl)⟩ (sp_X3_add ig_s87 (by omega)) (fun M38 h38 => ?_)
        obtain rfl := h38.symm
        refine tr_iinc (pc := 41) dX2_putCorners_41 rfl rfl ⟨by omega, by omega⟩ ?_
        dsimp only [List.set]
        refine tr_iload (pc := 44) dX2_putCorners_44 rfl ?_
        refine tr_istore_n (pc := 46) dX2_putCorners_46 rfl (Nat.le_of_ble_eq_true rfl) ?_
        dsimp only [List.set]
        refine tr_iinc (pc := 47) dX2_putCorners_47 rfl rfl ⟨by omega, by omega⟩ ?_
        dsimp only [List.set]
        refine tr_goto (pc := 50) (tgt := 12) dX2_putCorners_50 (by decide) ?_
        unfold hl_pc
        first
        | rw [if_neg (by omega)]
          exact ih (a + 1) cn low acc M1 _ (by omega) (by omega) (by omega) (by omega) (by omega) hg hf
        | rw [if_pos (by omega)]
          exact ih (a + 1) (cn + 1) _ _ _ _ (by omega) (by omega) (by omega) (by omega) (by omega) (ig_addM_at hg (by omega) (by omega) (by omega) (by omega)) (hf.trans (ig_addM_fr M1 87 a _))
  refine tr_aload_n (pc := 0) dX2_putCorners_0 rfl (by decide) ?_
  refine tr_cVv0 (pc := 1) dX2_putCorners_1 mtX3_empty lv2_59 rfl sg87 kc3 ⟨(Nat.le_of_ble_eq_true rfl), (Nat.le_of_ble_eq_true rfl)⟩ nlX3_empty (Nat.le_of_ble_eq_true rfl) ⟨(Nat.le_of_ble_eq_true rfl), (Nat.le_of_ble_eq_true rfl)⟩ (sp_X3_empty ig_s87) (fun M1 h1 => ?_)
  obtain rfl := h1.symm
  refine tr_iconst (pc := 4) dX2_putCorners_4 ⟨by decide, by decide⟩ ?_
  refine tr_istore_n (pc := 5) dX2_putCorners_5 rfl (Nat.le_of_ble_eq_true rfl) ?_
  dsimp only [List.set]
  refine tr_bipush (pc := 6) dX2_putCorners_6 ⟨by decide, ⟨by decide, by decide⟩⟩ ?_
  refine tr_istore_n (pc := 8) dX2_putCorners_8 rfl (Nat.le_of_ble_eq_true rfl) ?_
  dsimp only [List.set]
  refine tr_iconst (pc := 9) dX2_putCorners_9 ⟨by decide, by decide⟩ ?_
  refine tr_istore (pc := 10) dX2_putCorners_10 rfl (Nat.le_of_ble_eq_true rfl) ?_
  dsimp only [List.set]
  exact loop 10 0 0 10 [] _ xU (by omega) (by omega) (by omega) (by omega) (by omega) (ig_empty_at M 87) (tk_fr.rf.mu (by omega) (by omega))
