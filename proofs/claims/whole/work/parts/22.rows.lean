/-- Rows: kind 5 at r, three rows of N behind it -/
def rw_s (r : Int) (N : Nat) : Prop := 0 ≤ r ∧ N ≤ 8 ∧ tk_sg SF r = some (5, 5, [-1, r + 1, r + 2, r + 3, -1]) ∧ tk_sg SF (r + 1) = some (20, N, []) ∧ tk_sg SF (r + 2) = some (20, N, []) ∧ tk_sg SF (r + 3) = some (20, N, [])
def rw_seg (A B C : Int → Int) (n : Int) : Int → List (Int × Int × Int) → Prop
  | k, [] => k = n
  | k, (p, q, u) :: t => A k = p ∧ B k = q ∧ C k = u ∧ k < n ∧ rw_seg A B C n (k + 1) t
def rw_at (M : tk_M) (r : Int) (N : Nat) (l : List (Int × Int × Int)) : Prop := rw_seg (M (r + 1)) (M (r + 2)) (M (r + 3)) (M r 4) 0 l ∧ M r 4 ≤ N ∧ M r 0 = N
theorem rw_seg_congr {A B C A' B' C' : Int → Int} {n : Int} : ∀ (g : List (Int × Int × Int)) (k : Int), (∀ i, k ≤ i → i < n → A' i = A i ∧ B' i = B i ∧ C' i = C i) → rw_seg A B C n k g → rw_seg A' B' C' n k g := by
  intro g
  induction g with
  | nil => intro k _ h; exact h
  | cons q t ih =>
    intro k hc h
    obtain ⟨p, q, u⟩ := q
    obtain ⟨e1, e2, e3, hlt, hs⟩ := h
    have h1 := hc k (by omega) hlt
    exact ⟨h1.1.trans e1, h1.2.1.trans e2, h1.2.2.trans e3, hlt, ih (k + 1) (fun i hi hn => hc i (by omega) hn) hs⟩
theorem rw_seg_len {A B C : Int → Int} {n : Int} : ∀ (g : List (Int × Int × Int)) (k : Int), rw_seg A B C n k g → n = k + g.length := by
  intro g
  induction g with
  | nil => intro k h; have h : k = n := h; simp [h]
  | cons q t ih =>
    intro k h
    obtain ⟨p, q, u⟩ := q
    obtain ⟨e1, e2, e3, hlt, hs⟩ := h
    have := ih (k + 1) hs
    simp only [List.length_cons]; omega
theorem rw_seg_snoc {A B C : Int → Int} {n a b c : Int} (ha : A n = a) (hb : B n = b) (hc : C n = c) : ∀ (g : List (Int × Int × Int)) (k : Int), rw_seg A B C n k g → rw_seg A B C (n + 1) k (g ++ [(a, b, c)]) := by
  intro g
  induction g with
  | nil => intro k h; have h : k = n := h; subst h; exact ⟨ha, hb, hc, by omega, rfl⟩
  | cons q t ih =>
    intro k h
    obtain ⟨p, q, u⟩ := q
    obtain ⟨e1, e2, e3, hlt, hs⟩ := h
    exact ⟨e1, e2, e3, by omega, ih (k + 1) hs⟩
theorem rw_at.len {M : tk_M} {r : Int} {N : Nat} {g : List (Int × Int × Int)} (h : rw_at M r N g) : M r 4 = g.length ∧ (g.length : Int) ≤ N := by
  have h1 := rw_seg_len g 0 h.1
  have h2 := h.2.1
  omega
theorem rw_at.fr {M M' : tk_M} {r : Int} {N : Nat} {g : List (Int × Int × Int)} (h : rw_at M r N g) (h0 : M' r = M r) (h1 : M' (r + 1) = M (r + 1)) (h2 : M' (r + 2) = M (r + 2)) (h3 : M' (r + 3) = M (r + 3)) : rw_at M' r N g := by
  unfold rw_at; rw [h0, h1, h2, h3]; exact h
theorem sp_X5_size {G : tk_G} {M : tk_M} {r : Int} {N : Nat} (hr : rw_s r N) : Spi G FX5_size [xR r] SF M (fun v M' => v = M r 4 ∧ M' = M) := by
  obtain ⟨r0, rN, s0, s1, s2, s3⟩ := hr
  refine Spi.of _ mtX5_size nlX5_size (Nat.le_of_ble_eq_true rfl) ?_
  show Ok G FX5_size 0 [xR r] [] SF M 0 0 _
  refine tr_aload_n (pc := 0) dX5_size_0 rfl (by omega) ?_
  refine tr_geti (pc := 1) (ji := 4) dX5_size_1 fi5_31 rfl (by assumption) rfl ?_
  refine tr_ireti (pc := 4) dX5_size_4 rfl ?_
  exact ⟨rfl, rfl⟩
theorem sp_X5_first {G : tk_G} {M : tk_M} {r k : Int} {N : Nat} (hr : rw_s r N) (h6 : M r 4 ≤ N) (h1 : 0 ≤ k) (h2 : k < M r 4) : Spi G FX5_first [xR r, xI k] SF M (fun v M' => v = M (r + 1) k ∧ M' = M) := by
  obtain ⟨r0, rN, s0, s1, s2, s3⟩ := hr
  refine Spi.of _ mtX5_first nlX5_first (Nat.le_of_ble_eq_true rfl) ?_
  show Ok G FX5_first 0 [xR r, xI k] [] SF M 0 0 _
  refine tr_iload_n (pc := 0) dX5_first_0 rfl ?_
  refine tr_iflt (pc := 1) (tgt := 21) dX5_first_1 (by decide) (fun c1 => absurd c1 (by omega)) (fun c1 => ?_)
  refine tr_iload_n (pc := 4) dX5_first_4 rfl ?_
  refine tr_aload_n (pc := 5) dX5_first_5 rfl (by omega) ?_
  refine tr_geti (pc := 6) (ji := 4) dX5_first_6 fi5_31 rfl (by assumption) rfl ?_
  refine tr_icmpge (pc := 9) (tgt := 21) dX5_first_9 (by decide) (fun c9 => absurd c9 (by omega)) (fun c9 => ?_)
  refine tr_aload_n (pc := 12) dX5_first_12 rfl (by omega) ?_
  refine tr_getr (pc := 13) (x := r + 1) dX5_first_13 fi5_21 rfl (by assumption) rfl ?_
  refine tr_iload_n (pc := 16) dX5_first_16 rfl ?_
  refine tr_iald (pc := 17) dX5_first_17 (by assumption) (by omega) (by omega) ?_
  refine tr_goto (pc := 18) (tgt := 22) dX5_first_18 (by decide) ?_
  refine tr_ireti (pc := 22) dX5_first_22 rfl ?_
  exact ⟨rfl, rfl⟩
theorem sp_X5_second {G : tk_G} {M : tk_M} {r k : Int} {N : Nat} (hr : rw_s r N) (h6 : M r 4 ≤ N) (h1 : 0 ≤ k) (h2 : k < M r 4) : Spi G FX5_second [xR r, xI k] SF M (fun v M' => v = M (r + 2) k ∧ M' = M) := by
  obtain ⟨r0, rN, s0, s1, s2, s3⟩ := hr
  refine Spi.of _ mtX5_second nlX5_second (Nat.le_of_ble_eq_true rfl) ?_
  show Ok G FX5_second 0 [xR r, xI k] [] SF M 0 0 _
  refine tr_iload_n (pc := 0) dX5_second_0 rfl ?_
  refine tr_iflt (pc := 1) (tgt := 21) dX5_second_1 (by decide) (fun c1 => absurd c1 (by omega)) (fun c1 => ?_)
  refine tr_iload_n (pc := 4) dX5_second_4 rfl ?_
  refine tr_aload_n (pc := 5) dX5_second_5 rfl (by omega) ?_
  refine tr_geti (pc := 6) (ji := 4) dX5_second_6 fi5_31 rfl (by assumption) rfl ?_
  refine tr_icmpge (pc := 9) (tgt := 21) dX5_second_9 (by decide) (fun c9 => absurd c9 (by omega)) (fun c9 => ?_)
  refine tr_aload_n (pc := 12) dX5_second_12 rfl (by omega) ?_
  refine tr_getr (pc := 13) (x := r + 2) dX5_second_13 fi5_25 rfl (by assumption) rfl ?_
  refine tr_iload_n (pc := 16) dX5_second_16 rfl ?_
  refine tr_iald (pc := 17) dX5_second_17 (by assumption) (by omega) (by omega) ?_
  refine tr_goto (pc := 18) (tgt := 22) dX5_second_18 (by decide) ?_
  refine tr_ireti (pc := 22) dX5_second_22 rfl ?_
  exact ⟨rfl, rfl⟩
theorem sp_X5_third {G : tk_G} {M : tk_M} {r k : Int} {N : Nat} (hr : rw_s r N) (h6 : M r 4 ≤ N) (h1 : 0 ≤ k) (h2 : k < M r 4) : Spi G FX5_third [xR r, xI k] SF M (fun v M' => v = M (r + 3) k ∧ M' = M) := by
  obtain ⟨r0, rN, s0, s1, s2, s3⟩ := hr
  refine Spi.of _ mtX5_third nlX5_third (Nat.le_of_ble_eq_true rfl) ?_
  show Ok G FX5_third 0 [xR r, xI k] [] SF M 0 0 _
  refine tr_iload_n (pc := 0) dX5_third_0 rfl ?_
  refine tr_iflt (pc := 1) (tgt := 21) dX5_third_1 (by decide) (fun c1 => absurd c1 (by omega)) (fun c1 => ?_)
  refine tr_iload_n (pc := 4) dX5_third_4 rfl ?_
  refine tr_aload_n (pc := 5) dX5_third_5 rfl (by omega) ?_
  refine tr_geti (pc := 6) (ji := 4) dX5_third_6 fi5_31 rfl (by assumption) rfl ?_
  refine tr_icmpge (pc := 9) (tgt := 21) dX5_third_9 (by decide) (fun c9 => absurd c9 (by omega)) (fun c9 => ?_)
  refine tr_aload_n (pc := 12) dX5_third_12 rfl (by omega) ?_
  refine tr_getr (pc := 13) (x := r + 3) dX5_third_13 fi5_28 rfl (by assumption) rfl ?_
  refine tr_iload_n (pc := 16) dX5_third_16 rfl ?_
  refine tr_iald (pc := 17) dX5_third_17 (by assumption) (by omega) (by omega) ?_
  refine tr_goto (pc := 18) (tgt := 22) dX5_third_18 (by decide) ?_
  refine tr_ireti (pc := 22) dX5_third_22 rfl ?_
  exact ⟨rfl, rfl⟩
def rw_addM (M : tk_M) (r a b c : Int) : tk_M := tk_mu (tk_mu (tk_mu (tk_mu M (r + 1) (M r 4) a) (r + 2) (M r 4) b) (r + 3) (M r 4) c) r 4 (M r 4 + 1)
theorem rw_addM_fr (M : tk_M) (r a b c : Int) : tk_fr M (rw_addM M r a b c) r (r + 4) := (((tk_fr.rf.mu (by omega) (by omega)).mu (by omega) (by omega)).mu (by omega) (by omega)).mu (by omega) (by omega)
theorem rw_addM_at {M : tk_M} {r a b c : Int} {N : Nat} {l : List (Int × Int × Int)} (h : rw_at M r N l) (hlt : M r 4 < N) : rw_at (rw_addM M r a b c) r N (l ++ [(a, b, c)]) := by
  obtain ⟨h1, h2, h3⟩ := h
  have e0 : rw_addM M r a b c r 4 = M r 4 + 1 := tk_mu_at _ _ _ _
  have e00 : rw_addM M r a b c r 0 = N := by unfold rw_addM; rw [tk_mu_i (by omega), tk_mu_c (by omega), tk_mu_c (by omega), tk_mu_c (by omega)]; exact h3
  have e1 : rw_addM M r a b c (r + 1) = tk_mu M (r + 1) (M r 4) a (r + 1) := by unfold rw_addM; rw [tk_mu_c (by omega), tk_mu_c (by omega), tk_mu_c (by omega)]
  have e2 : rw_addM M r a b c (r + 2) = tk_mu (tk_mu M (r + 1) (M r 4) a) (r + 2) (M r 4) b (r + 2) := by unfold rw_addM; rw [tk_mu_c (by omega), tk_mu_c (by omega)]
  have e3 : rw_addM M r a b c (r + 3) = tk_mu (tk_mu (tk_mu M (r + 1) (M r 4) a) (r + 2) (M r 4) b) (r + 3) (M r 4) c (r + 3) := by unfold rw_addM; rw [tk_mu_c (by omega)]
  unfold rw_at
  rw [e0, e1, e2, e3]
  refine ⟨rw_seg_snoc (tk_mu_at _ _ _ _) (tk_mu_at _ _ _ _) (tk_mu_at _ _ _ _) l 0 (rw_seg_congr l 0 (fun i _ hi => ⟨tk_mu_i (by omega), ?_, ?_⟩) h1), by omega, e00⟩
  · rw [tk_mu_i (by omega), tk_mu_c (by omega)]
  · rw [tk_mu_i (by omega), tk_mu_c (by omega), tk_mu_c (by omega)]
theorem sp_X5_add {G : tk_G} {M : tk_M} {r a b c : Int} {N : Nat} (hr : rw_s r N) (h0 : 0 ≤ M r 4) (h6 : M r 4 ≤ N) (hN : M r 0 = N) : Spi G FX5_add [xR r, xI a, xI b, xI c] SF M (fun v M' => (M r 4 < N ∧ v = M r 4 + 1 ∧ M' = rw_addM M r a b c) ∨ (M r 4 = N ∧ v = -4 ∧ M' = M)) := by
  obtain ⟨r0, rN, s0, s1, s2, s3⟩ := hr
  refine Spi.of _ mtX5_add nlX5_add (Nat.le_of_ble_eq_true rfl) ?_
  show Ok G FX5_add 0 [xR r, xI a, xI b, xI c] [] SF M 0 0 _
  refine tr_aload_n (pc := 0) dX5_add_0 rfl (by omega) ?_
  refine tr_geti (pc := 1) (ji := 4) dX5_add_1 fi5_31 rfl (by assumption) rfl ?_
  refine tr_aload_n (pc := 4) dX5_add_4 rfl (by omega) ?_
  refine tr_geti (pc := 5) (ji := 0) dX5_add_5 fi5_15 rfl (by assumption) rfl ?_
  refine tr_icmplt (pc := 8) (tgt := 14) dX5_add_8 (by decide) (fun c8 => ?_) (fun c8 => ?_)
  · skip
    refine tr_aload_n (pc := 14) dX5_add_14 rfl (by omega) ?_
    refine tr_getr (pc := 15) (x := r + 1) dX5_add_15 fi5_21 rfl (by assumption) rfl ?_
    refine tr_aload_n (pc := 18) dX5_add_18 rfl (by omega) ?_
    refine tr_geti (pc := 19) (ji := 4) dX5_add_19 fi5_31 rfl (by assumption) rfl ?_
    refine tr_iload_n (pc := 22) dX5_add_22 rfl ?_
    refine tr_iast (pc := 23) dX5_add_23 (by assumption) (by omega) (by omega) ?_
    refine tr_aload_n (pc := 24) dX5_add_24 rfl (by omega) ?_
    refine tr_getr (pc := 25) (x := r + 2) dX5_add_25 fi5_25 rfl (by assumption) rfl ?_
    refine tr_aload_n (pc := 28) dX5_add_28 rfl (by omega) ?_
    refine tr_getv (pc := 29) (ji := 4) (x := M r 4) dX5_add_29 fi5_31 rfl (by assumption) rfl (by rw [tk_mu_c (by omega)]) ?_
    refine tr_iload_n (pc := 32) dX5_add_32 rfl ?_
    refine tr_iast (pc := 33) dX5_add_33 (by assumption) (by omega) (by omega) ?_
    refine tr_aload_n (pc := 34) dX5_add_34 rfl (by omega) ?_
    refine tr_getr (pc := 35) (x := r + 3) dX5_add_35 fi5_28 rfl (by assumption) rfl ?_
    refine tr_aload_n (pc := 38) dX5_add_38 rfl (by omega) ?_
    refine tr_getv (pc := 39) (ji := 4) (x := M r 4) dX5_add_39 fi5_31 rfl (by assumption) rfl (by rw [tk_mu_c (by omega), tk_mu_c (by omega)]) ?_
    refine tr_iload_n (pc := 42) dX5_add_42 rfl ?_
    refine tr_iast (pc := 43) dX5_add_43 (by assumption) (by omega) (by omega) ?_
    refine tr_aload_n (pc := 44) dX5_add_44 rfl (by omega) ?_
    refine tr_dup (pc := 45) dX5_add_45 (fun h => by cases h) ?_
    refine tr_getv (pc := 46) (ji := 4) (x := M r 4) dX5_add_46 fi5_31 rfl (by assumption) rfl (by rw [tk_mu_c (by omega), tk_mu_c (by omega), tk_mu_c (by omega)]) ?_
    refine tr_iconst (pc := 49) dX5_add_49 ⟨by decide, by decide⟩ ?_
    refine tr_iadd (pc := 50) dX5_add_50 ⟨by omega, by omega⟩ ?_
    refine tr_puti (pc := 51) (ji := 4) dX5_add_51 fi5_31 rfl (Or.inl rfl) (Or.inl rfl) (by assumption) rfl ?_
    refine tr_aload_n (pc := 54) dX5_add_54 rfl (by omega) ?_
    refine tr_getv (pc := 55) (ji := 4) (x := M r 4 + 1) dX5_add_55 fi5_31 rfl (by assumption) rfl (tk_mu_at _ _ _ _) ?_
    refine tr_ireti (pc := 58) dX5_add_58 rfl ?_
    exact Or.inl ⟨by omega, rfl, rfl⟩
  · skip
    refine tr_bipush (pc := 11) dX5_add_11 ⟨by decide, ⟨by decide, by decide⟩⟩ ?_
    refine tr_ireti (pc := 13) dX5_add_13 rfl ?_
    exact Or.inr ⟨by omega, rfl, rfl⟩
theorem sp_X5_empty {G : tk_G} {M : tk_M} {r : Int} {N : Nat} (hr : rw_s r N) : Spv G FX5_empty [xR r] SF M (fun M' => M' = tk_mu M r 4 0) := by
  obtain ⟨r0, rN, s0, s1, s2, s3⟩ := hr
  refine Spv.of _ mtX5_empty nlX5_empty (Nat.le_of_ble_eq_true rfl) ?_
  show Ok G FX5_empty 0 [xR r] [] SF M 0 0 _
  refine tr_aload_n (pc := 0) dX5_empty_0 rfl (by omega) ?_
  refine tr_iconst (pc := 1) dX5_empty_1 ⟨by decide, by decide⟩ ?_
  refine tr_puti (pc := 2) (ji := 4) dX5_empty_2 fi5_31 rfl (Or.inl rfl) (Or.inl rfl) (by assumption) rfl ?_
  refine tr_vret (pc := 5) dX5_empty_5 rfl ?_
  rfl
theorem rw_empty_at {M : tk_M} {r : Int} {N : Nat} {l : List (Int × Int × Int)} (h : rw_at M r N l) : rw_at (tk_mu M r 4 0) r N [] := by
  unfold rw_at
  rw [tk_mu_at, tk_mu_i (by omega)]
  exact ⟨rfl, by omega, h.2.2⟩
theorem sp_X5_copy {G : tk_G} {M : tk_M} {r z : Int} {N : Nat} {l : List (Int × Int × Int)} (hr : rw_s r N) (hz : rw_s z N) (hap : r + 4 ≤ z ∨ z + 4 ≤ r) (hN : M r 0 = N) (hl : rw_at M z N l) : Spv G FX5_copy [xR r, xR z] SF M (fun M' => rw_at M' r N l ∧ tk_fr M M' r (r + 4)) := by
  obtain ⟨r0, rN, s0, s1, s2, s3⟩ := hr
  obtain ⟨z0, zN, t0, t1, t2, t3⟩ := hz
  have hln := hl.len
  obtain ⟨hl1, hl2, hl3⟩ := hl
  refine Spv.of _ mtX5_copy nlX5_copy (Nat.le_of_ble_eq_true rfl) ?_
  show Ok G FX5_copy 0 [xR r, xR z, xU] [] SF M 0 0 _
  have loop : ∀ (d : Nat) (k : Int) (M1 : tk_M), M z 4 - k = d → 0 ≤ k → M1 r 4 = M z 4 → M1 r 0 = N → (∀ i, 0 ≤ i → i < k → M1 (r + 1) i = M (z + 1) i ∧ M1 (r + 2) i = M (z + 2) i ∧ M1 (r + 3) i = M (z + 3) i) → tk_fr M M1 r (r + 4) → Ok G FX5_copy 17 [xR r, xR z, xI k] [] SF M1 0 0 (tk_qv SF (fun M' => rw_at M' r N l ∧ tk_fr M M' r (r + 4))) := by
    intro d
    induction d with
    | zero =>
      intro k M1 hd hk h4 h0 ha hf
      refine tr_iload_n (pc := 17) dX5_copy_17 rfl ?_
      refine tr_aload_n (pc := 18) dX5_copy_18 rfl (by omega) ?_
      refine tr_geti (pc := 19) (ji := 4) dX5_copy_19 fi5_31 rfl (by assumption) rfl ?_
      refine tr_icmpge (pc := 22) (tgt := 67) dX5_copy_22 (by decide) (fun c22 => ?_) (fun c22 => absurd c22 (by omega))
      refine tr_vret (pc := 67) dX5_copy_67 rfl ?_
      refine ⟨⟨?_, by omega, h0⟩, hf⟩
      rw [h4]
      exact rw_seg_congr l 0 (fun i h1 h2 => ha i h1 (by omega)) hl1
    | succ d ih =>
      intro k M1 hd hk h4 h0 ha hf
      have f1 : M1 (z + 1) = M (z + 1) := hf _ (by omega)
      have f2 : M1 (z + 2) = M (z + 2) := hf _ (by omega)
      have f3 : M1 (z + 3) = M (z + 3) := hf _ (by omega)
      refine tr_iload_n (pc := 17) dX5_copy_17 rfl ?_
      refine tr_aload_n (pc := 18) dX5_copy_18 rfl (by omega) ?_
      refine tr_geti (pc := 19) (ji := 4) dX5_copy_19 fi5_31 rfl (by assumption) rfl ?_
      refine tr_icmpge (pc := 22) (tgt := 67) dX5_copy_22 (by decide) (fun c22 => absurd c22 (by omega)) (fun c22 => ?_)
      refine tr_aload_n (pc := 25) dX5_copy_25 rfl (by omega) ?_
      refine tr_getr (pc := 26) (x := r + 1) dX5_copy_26 fi5_21 rfl (by assumption) rfl ?_
      refine tr_iload_n (pc := 29) dX5_copy_29 rfl ?_
      refine tr_aload_n (pc := 30) dX5_copy_30 rfl (by omega) ?_
      refine tr_getr (pc := 31) (x := z + 1) dX5_copy_31 fi5_21 rfl (by assumption) rfl ?_
      refine tr_iload_n (pc := 34) dX5_copy_34 rfl ?_
      refine tr_ialdv (pc := 35) (x := M (z + 1) k) dX5_copy_35 (by assumption) (by omega) (by omega) (by rw [f1]) ?_
      refine tr_iast (pc := 36) dX5_copy_36 (by assumption) (by omega) (by omega) ?_
      refine tr_aload_n (pc := 37) dX5_copy_37 rfl (by omega) ?_
      refine tr_getr (pc := 38) (x := r + 2) dX5_copy_38 fi5_25 rfl (by assumption) rfl ?_
      refine tr_iload_n (pc := 41) dX5_copy_41 rfl ?_
      refine tr_aload_n (pc := 42) dX5_copy_42 rfl (by omega) ?_
      refine tr_getr (pc := 43) (x := z + 2) dX5_copy_43 fi5_25 rfl (by assumption) rfl ?_
      refine tr_iload_n (pc := 46) dX5_copy_46 rfl ?_
      refine tr_ialdv (pc := 47) (x := M (z + 2) k) dX5_copy_47 (by assumption) (by omega) (by omega) (by rw [tk_mu_c (by omega), f2]) ?_
      refine tr_iast (pc := 48) dX5_copy_48 (by assumption) (by omega) (by omega) ?_
      refine tr_aload_n (pc := 49) dX5_copy_49 rfl (by omega) ?_
      refine tr_getr (pc := 50) (x := r + 3) dX5_copy_50 fi5_28 rfl (by assumption) rfl ?_
      refine tr_iload_n (pc := 53) dX5_copy_53 rfl ?_
      refine tr_aload_n (pc := 54) dX5_copy_54 rfl (by omega) ?_
      refine tr_getr (pc := 55) (x := z + 3) dX5_copy_55 fi5_28 rfl (by assumption) rfl ?_
      refine tr_iload_n (pc := 58) dX5_copy_58 rfl ?_
      refine tr_ialdv (pc := 59) (x := M (z + 3) k) dX5_copy_59 (by assumption) (by omega) (by omega) (by rw [tk_mu_c (by omega), tk_mu_c (by omega), f3]) ?_
      refine tr_iast (pc := 60) dX5_copy_60 (by assumption) (by omega) (by omega) ?_
      refine tr_iinc (pc := 61) dX5_copy_61 rfl rfl ⟨by omega, by omega⟩ ?_
      dsimp only [List.set]
      refine tr_goto (pc := 64) (tgt := 17) dX5_copy_64 (by decide) ?_
      refine ih (k + 1) _ (by omega) (by omega) ?_ ?_ ?_ (((hf.mu (by omega) (by omega)).mu (by omega) (by omega)).mu (by omega) (by omega))
      · rw [tk_mu_c (by omega), tk_mu_c (by omega), tk_mu_c (by omega)]; exact h4
      · rw [tk_mu_c (by omega), tk_mu_c (by omega), tk_mu_c (by omega)]; exact h0
      · intro i h1 h2
        rw [tk_mu_c (show r + 1 ≠ r + 3 by omega), tk_mu_c (show r + 1 ≠ r + 2 by omega), tk_mu_c (show r + 2 ≠ r + 3 by omega)]
        by_cases hi : i = k
        · subst hi
          exact ⟨tk_mu_at _ _ _ _, tk_mu_at _ _ _ _, tk_mu_at _ _ _ _⟩
        · simp only [tk_mu_eq, hi, and_false, if_false]
          exact ha i h1 (by omega)
  refine tr_aload_n (pc := 0) dX5_copy_0 rfl (by omega) ?_
  refine tr_aload_n (pc := 1) dX5_copy_1 rfl (by omega) ?_
  refine tr_geti (pc := 2) (ji := 4) dX5_copy_2 fi5_31 rfl (by assumption) rfl ?_
  refine tr_aload_n (pc := 5) dX5_copy_5 rfl (by omega) ?_
  refine tr_geti (pc := 6) (ji := 0) dX5_copy_6 fi5_15 rfl (by assumption) rfl ?_
  refine tr_min (pc := 9) dX5_copy_9 mm5_34 rfl (Nat.le_of_ble_eq_true rfl) (Nat.le_of_ble_eq_true rfl) ⟨(Nat.le_of_ble_eq_true rfl), (Nat.le_of_ble_eq_true rfl)⟩ ?_
  refine tr_puti (pc := 12) (ji := 4) dX5_copy_12 fi5_31 rfl (Or.inl rfl) (Or.inl rfl) (by assumption) rfl ?_
  refine tr_iconst (pc := 15) dX5_copy_15 ⟨by decide, by decide⟩ ?_
  refine tr_istore_n (pc := 16) dX5_copy_16 rfl (Nat.le_of_ble_eq_true rfl) ?_
  dsimp only [List.set]
  refine loop (M z 4).toNat 0 _ (by omega) (by omega) ?_ ?_ (fun i h1 h2 => by omega) (tk_fr.rf.mu (by omega) (by omega))
  · rw [tk_mu_at]; omega
  · rw [tk_mu_i (by omega)]; exact hN
theorem sp_X3_copy {G : tk_G} {M : tk_M} {r z : Int} {l : List (Int × Int)} (hr : ig_s r) (hz : ig_s z) (hap : r + 3 ≤ z ∨ z + 3 ≤ r) (hl : ig_at M z l) : Spv G FX3_copy [xR r, xR z] SF M (fun M' => ig_at M' r l ∧ tk_fr M M' r (r + 3)) := by
  obtain ⟨r0, s0, s1, s2⟩ := hr
  obtain ⟨z0, t0, t1, t2⟩ := hz
  have hln := hl.len
  obtain ⟨hl1, hl2⟩ := hl
  refine Spv.of _ mtX3_copy nlX3_copy (Nat.le_of_ble_eq_true rfl) ?_
  show Ok G FX3_copy 0 [xR r, xR z, xU] [] SF M 0 0 _
  have loop : ∀ (d : Nat) (k : Int) (M1 : tk_M), M z 2 - k = d → 0 ≤ k → M1 r 2 = M z 2 → (∀ i, 0 ≤ i → i < k → M1 (r + 1) i = M (z + 1) i ∧ M1 (r + 2) i = M (z + 2) i) → tk_fr M M1 r (r + 3) → Ok G FX3_copy 10 [xR r, xR z, xI k] [] SF M1 0 0 (tk_qv SF (fun M' => ig_at M' r l ∧ tk_fr M M' r (r + 3))) := by
    intro d
    induction d with
    | zero =>
      intro k M1 hd hk h4 ha hf
      refine tr_iload_n (pc := 10) dX3_copy_10 rfl ?_
      refine tr_aload_n (pc := 11) dX3_copy_11 rfl (by omega) ?_
      refine tr_geti (pc := 12) (ji := 2) dX3_copy_12 fi3_18 rfl (by assumption) rfl ?_
      refine tr_icmpge (pc := 15) (tgt := 48) dX3_copy_15 (by decide) (fun c15 => ?_) (fun c15 => absurd c15 (by omega))
      refine tr_vret (pc := 48) dX3_copy_48 rfl ?_
      refine ⟨⟨?_, by omega⟩, hf⟩
      rw [h4]
      exact ig_seg_congr l 0 (fun i h1 h2 => ha i h1 (by omega)) hl1
    | succ d ih =>
      intro k M1 hd hk h4 ha hf
      have f1 : M1 (z + 1) = M (z + 1) := hf _ (by omega)
      have f2 : M1 (z + 2) = M (z + 2) := hf _ (by omega)
      refine tr_iload_n (pc := 10) dX3_copy_10 rfl ?_
      refine tr_aload_n (pc := 11) dX3_copy_11 rfl (by omega) ?_
      refine tr_geti (pc := 12) (ji := 2) dX3_copy_12 fi3_18 rfl (by assumption) rfl ?_
      refine tr_icmpge (pc := 15) (tgt := 48) dX3_copy_15 (by decide) (fun c15 => absurd c15 (by omega)) (fun c15 => ?_)
      refine tr_aload_n (pc := 18) dX3_copy_18 rfl (by omega) ?_
      refine tr_getr (pc := 19) (x := r + 1) dX3_copy_19 fi3_9 rfl (by assumption) rfl ?_
      refine tr_iload_n (pc := 22) dX3_copy_22 rfl ?_
      refine tr_aload_n (pc := 23) dX3_copy_23 rfl (by omega) ?_
      refine tr_getr (pc := 24) (x := z + 1) dX3_copy_24 fi3_9 rfl (by assumption) rfl ?_
      refine tr_iload_n (pc := 27) dX3_copy_27 rfl ?_
      refine tr_ialdv (pc := 28) (x := M (z + 1) k) dX3_copy_28 (by assumption) (by omega) (by omega) (by rw [f1]) ?_
      refine tr_iast (pc := 29) dX3_copy_29 (by assumption) (by omega) (by omega) ?_
      refine tr_aload_n (pc := 30) dX3_copy_30 rfl (by omega) ?_
      refine tr_getr (pc := 31) (x := r + 2) dX3_copy_31 fi3_15 rfl (by assumption) rfl ?_
      refine tr_iload_n (pc := 34) dX3_copy_34 rfl ?_
      refine tr_aload_n (pc := 35) dX3_copy_35 rfl (by omega) ?_
      refine tr_getr (pc := 36) (x := z + 2) dX3_copy_36 fi3_15 rfl (by assumption) rfl ?_
      refine tr_iload_n (pc := 39) dX3_copy_39 rfl ?_
      refine tr_ialdv (pc := 40) (x := M (z + 2) k) dX3_copy_40 (by assumption) (by omega) (by omega) (by rw [tk_mu_c (by omega), f2]) ?_
      refine tr_iast (pc := 41) dX3_copy_41 (by assumption) (by omega) (by omega) ?_
      refine tr_iinc (pc := 42) dX3_copy_42 rfl rfl ⟨by omega, by omega⟩ ?_
      dsimp only [List.set]
      refine tr_goto (pc := 45) (tgt := 10) dX3_copy_45 (by decide) ?_
      refine ih (k + 1) _ (by omega) (by omega) ?_ ?_ ((hf.mu (by omega) (by omega)).mu (by omega) (by omega))
      · rw [tk_mu_c (by omega), tk_mu_c (by omega)]; exact h4
      · intro i h1 h2
        rw [tk_mu_c (show r + 1 ≠ r + 2 by omega)]
        by_cases hi : i = k
        · subst hi
          exact ⟨tk_mu_at _ _ _ _, tk_mu_at _ _ _ _⟩
        · rw [tk_mu_i hi, tk_mu_i hi, tk_mu_c (show r + 2 ≠ r + 1 by omega)]
          exact ha i h1 (by omega)
  refine tr_aload_n (pc := 0) dX3_copy_0 rfl (by omega) ?_
  refine tr_aload_n (pc := 1) dX3_copy_1 rfl (by omega) ?_
  refine tr_geti (pc := 2) (ji := 2) dX3_copy_2 fi3_18 rfl (by assumption) rfl ?_
  refine tr_puti (pc := 5) (ji := 2) dX3_copy_5 fi3_18 rfl (Or.inl rfl) (Or.inl rfl) (by assumption) rfl ?_
  refine tr_iconst (pc := 8) dX3_copy_8 ⟨by decide, by decide⟩ ?_
  refine tr_istore_n (pc := 9) dX3_copy_9 rfl (Nat.le_of_ble_eq_true rfl) ?_
  dsimp only [List.set]
  refine loop (M z 2).toNat 0 _ (by omega) (by omega) ?_ (fun i h1 h2 => by omega) (tk_fr.rf.mu (by omega) (by omega))
  rw [tk_mu_at]
