/-- GENERATORS as they lie in two rows from k on, up to n -/
def ig_seg (A B : Int → Int) (n : Int) : Int → List (Int × Int) → Prop
  | k, [] => k = n
  | k, (p, q) :: t => A k = p ∧ B k = q ∧ 0 ≤ p ∧ p ≤ 9 ∧ 0 ≤ q ∧ q ≤ 9 ∧ k < n ∧ ig_seg A B n (k + 1) t
def ig_s (r : Int) : Prop := 0 ≤ r ∧ tk_sg SF r = some (3, 3, [r + 1, r + 2, -1]) ∧ tk_sg SF (r + 1) = some (20, 6, []) ∧ tk_sg SF (r + 2) = some (20, 6, [])
def ig_at (M : tk_M) (r : Int) (g : List (Int × Int)) : Prop := ig_seg (M (r + 1)) (M (r + 2)) (M r 2) 0 g ∧ M r 2 ≤ 6
theorem ig_seg_congr {A B A' B' : Int → Int} {n : Int} : ∀ (g : List (Int × Int)) (k : Int), (∀ i, k ≤ i → i < n → A' i = A i ∧ B' i = B i) → ig_seg A B n k g → ig_seg A' B' n k g := by
  intro g
  induction g with
  | nil => intro k _ h; exact h
  | cons q t ih =>
    intro k hc h
    obtain ⟨p, q⟩ := q
    obtain ⟨e1, e2, b1, b2, b3, b4, hlt, hs⟩ := h
    have h1 := hc k (by omega) hlt
    exact ⟨h1.1.trans e1, h1.2.trans e2, b1, b2, b3, b4, hlt, ih (k + 1) (fun i hi hn => hc i (by omega) hn) hs⟩
theorem ig_seg_len {A B : Int → Int} {n : Int} : ∀ (g : List (Int × Int)) (k : Int), ig_seg A B n k g → n = k + g.length := by
  intro g
  induction g with
  | nil => intro k h; have h : k = n := h; simp [h]
  | cons q t ih =>
    intro k h
    obtain ⟨p, q⟩ := q
    obtain ⟨e1, e2, b1, b2, b3, b4, hlt, hs⟩ := h
    have := ih (k + 1) hs
    simp only [List.length_cons]; omega
theorem ig_seg_snoc {A B : Int → Int} {n a b : Int} (ha : A n = a) (hb : B n = b) (h1 : 0 ≤ a) (h2 : a ≤ 9) (h3 : 0 ≤ b) (h4 : b ≤ 9) : ∀ (g : List (Int × Int)) (k : Int), ig_seg A B n k g → ig_seg A B (n + 1) k (g ++ [(a, b)]) := by
  intro g
  induction g with
  | nil => intro k h; have h : k = n := h; subst h; exact ⟨ha, hb, h1, h2, h3, h4, by omega, rfl⟩
  | cons q t ih =>
    intro k h
    obtain ⟨p, q⟩ := q
    obtain ⟨e1, e2, b1, b2, b3, b4, hlt, hs⟩ := h
    exact ⟨e1, e2, b1, b2, b3, b4, by omega, ih (k + 1) hs⟩
theorem ig_seg_get {A B : Int → Int} {n : Int} : ∀ (g : List (Int × Int)) (k j : Int), ig_seg A B n k g → k ≤ j → j < n → g[(j - k).toNat]? = some (A j, B j) ∧ 0 ≤ A j ∧ A j ≤ 9 ∧ 0 ≤ B j ∧ B j ≤ 9 := by
  intro g
  induction g with
  | nil => intro k j h h1 h2; have h : k = n := h; omega
  | cons q t ih =>
    intro k j h h1 h2
    obtain ⟨p, q⟩ := q
    obtain ⟨e1, e2, b1, b2, b3, b4, hlt, hs⟩ := h
    by_cases hj : j = k
    · subst hj
      rw [Int.sub_self, e1, e2]
      exact ⟨rfl, b1, b2, b3, b4⟩
    · have := ih (k + 1) j hs (by omega) h2
      rw [show (j - k).toNat = (j - (k + 1)).toNat + 1 by omega, List.getElem?_cons_succ]
      exact this
theorem ig_seg_bd {A B : Int → Int} {n : Int} : ∀ (g : List (Int × Int)) (k : Int), ig_seg A B n k g → ∀ q ∈ g, 0 ≤ q.1 ∧ q.1 ≤ 9 ∧ 0 ≤ q.2 ∧ q.2 ≤ 9 := by
  intro g
  induction g with
  | nil => intro k h q hq; cases hq
  | cons q t ih =>
    intro k h z hz
    obtain ⟨p, q⟩ := q
    obtain ⟨e1, e2, b1, b2, b3, b4, hlt, hs⟩ := h
    rcases List.mem_cons.mp hz with h | h
    · subst h; exact ⟨b1, b2, b3, b4⟩
    · exact ih (k + 1) hs z h
theorem ig_seg_shift {A B A' B' : Int → Int} {n : Int} : ∀ (g : List (Int × Int)) (k : Int), ig_seg A B n (k + 1) g → (∀ i, k ≤ i → i < n - 1 → A' i = A (i + 1) ∧ B' i = B (i + 1)) → ig_seg A' B' (n - 1) k g := by
  intro g
  induction g with
  | nil => intro k h hc; have h : k + 1 = n := h; show k = n - 1; omega
  | cons q t ih =>
    intro k h hc
    obtain ⟨p, q⟩ := q
    obtain ⟨e1, e2, b1, b2, b3, b4, hlt, hs⟩ := h
    have h1 := hc k (by omega) (by omega)
    exact ⟨h1.1.trans e1, h1.2.trans e2, b1, b2, b3, b4, by omega, ih (k + 1) hs (fun i hi hn => hc i (by omega) hn)⟩
theorem ig_seg_erase {A B A' B' : Int → Int} {n j : Int} : ∀ (g : List (Int × Int)) (k : Int), ig_seg A B n k g → k ≤ j → j < n → (∀ i, k ≤ i → i < j → A' i = A i ∧ B' i = B i) → (∀ i, j ≤ i → i < n - 1 → A' i = A (i + 1) ∧ B' i = B (i + 1)) → ig_seg A' B' (n - 1) k (g.eraseIdx (j - k).toNat) := by
  intro g
  induction g with
  | nil => intro k h h1 h2; have h : k = n := h; omega
  | cons q t ih =>
    intro k h h1 h2 hc1 hc2
    obtain ⟨p, q⟩ := q
    obtain ⟨e1, e2, b1, b2, b3, b4, hlt, hs⟩ := h
    by_cases hj : j = k
    · subst hj
      rw [Int.sub_self]
      exact ig_seg_shift t j hs hc2
    · have h3 := hc1 k (by omega) (by omega)
      rw [show (j - k).toNat = (j - (k + 1)).toNat + 1 by omega, List.eraseIdx_cons_succ]
      exact ⟨h3.1.trans e1, h3.2.trans e2, b1, b2, b3, b4, by omega, ih (k + 1) hs (by omega) h2 (fun i hi hn => hc1 i (by omega) hn) hc2⟩
theorem ig_seg_set {A B A' B' : Int → Int} {n j a b : Int} (ha : A' j = a) (hb : B' j = b) (h1 : 0 ≤ a) (h2 : a ≤ 9) (h3 : 0 ≤ b) (h4 : b ≤ 9) (hc : ∀ i, i ≠ j → A' i = A i ∧ B' i = B i) : ∀ (g : List (Int × Int)) (k : Int), ig_seg A B n k g → k ≤ j → j < n → ig_seg A' B' n k (g.set (j - k).toNat (a, b)) := by
  intro g
  induction g with
  | nil => intro k h h1 h2; have h : k = n := h; omega
  | cons q t ih =>
    intro k h hk hn
    obtain ⟨p, q⟩ := q
    obtain ⟨e1, e2, b1, b2, b3, b4, hlt, hs⟩ := h
    by_cases hj : j = k
    · subst hj
      rw [Int.sub_self]
      exact ⟨ha, hb, h1, h2, h3, h4, hlt, ig_seg_congr t (j + 1) (fun i hi _ => hc i (by omega)) hs⟩
    · rw [show (j - k).toNat = (j - (k + 1)).toNat + 1 by omega, List.set_cons_succ]
      have h3 := hc k (by omega)
      exact ⟨h3.1.trans e1, h3.2.trans e2, b1, b2, b3, b4, hlt, ih (k + 1) hs (by omega) hn⟩
theorem ig_at.fr {M M' : tk_M} {r : Int} {g : List (Int × Int)} (h : ig_at M r g) (h0 : M' r = M r) (h1 : M' (r + 1) = M (r + 1)) (h2 : M' (r + 2) = M (r + 2)) : ig_at M' r g := by
  unfold ig_at; rw [h0, h1, h2]; exact h
theorem ig_at.len {M : tk_M} {r : Int} {g : List (Int × Int)} (h : ig_at M r g) : M r 2 = g.length ∧ (g.length : Int) ≤ 6 := by
  have h1 := ig_seg_len g 0 h.1
  have h2 := h.2
  omega
theorem ig_at.bd {M : tk_M} {r : Int} {g : List (Int × Int)} (h : ig_at M r g) : ∀ q ∈ g, 0 ≤ q.1 ∧ q.1 ≤ 9 ∧ 0 ≤ q.2 ∧ q.2 ≤ 9 := ig_seg_bd g 0 h.1
def ig_find (a b : Int) : Int → List (Int × Int) → Int
  | _, [] => -1
  | k, (p, q) :: t => if p = a ∧ q = b then k else ig_find a b (k + 1) t
theorem ig_find_neg {a b : Int} : ∀ (g : List (Int × Int)) (k : Int), 0 ≤ k → (ig_find a b k g < 0 ↔ (a, b) ∉ g) := by
  intro g
  induction g with
  | nil => intro k hk; simp [ig_find]
  | cons q t ih =>
    intro k hk
    obtain ⟨p, q⟩ := q
    unfold ig_find
    by_cases h : p = a ∧ q = b
    · rw [if_pos h]; obtain ⟨rfl, rfl⟩ := h; simp; omega
    · rw [if_neg h, ih (k + 1) (by omega)]
      simp only [List.mem_cons, Prod.mk.injEq, not_or]
      constructor
      · intro h2; exact ⟨fun h3 => h ⟨h3.1.symm, h3.2.symm⟩, h2⟩
      · intro h2; exact h2.2
theorem ig_find_ge {a b : Int} : ∀ (g : List (Int × Int)) (k : Int), ig_find a b k g = -1 ∨ k ≤ ig_find a b k g := by
  intro g
  induction g with
  | nil => intro k; exact Or.inl rfl
  | cons q t ih =>
    intro k
    obtain ⟨p, q⟩ := q
    unfold ig_find
    by_cases h : p = a ∧ q = b
    · rw [if_pos h]; exact Or.inr (Int.le_refl _)
    · rw [if_neg h]; have := ih (k + 1); omega
theorem sp_X3_size {G : tk_G} {M : tk_M} {r : Int} (hr : ig_s r) : Spi G FX3_size [xR r] SF M (fun v M' => v = M r 2 ∧ M' = M) := by
  obtain ⟨r0, s0, s1, s2⟩ := hr
  refine Spi.of _ mtX3_size nlX3_size (Nat.le_of_ble_eq_true rfl) ?_
  show Ok G FX3_size 0 [xR r] [] SF M 0 0 _
  refine tr_aload_n (pc := 0) dX3_size_0 rfl (by omega) ?_
  refine tr_geti (pc := 1) (ji := 2) dX3_size_1 fi3_18 rfl (by assumption) rfl ?_
  refine tr_ireti (pc := 4) dX3_size_4 rfl ?_
  exact ⟨rfl, rfl⟩
theorem sp_X3_powerA {G : tk_G} {M : tk_M} {r k : Int} (hr : ig_s r) (h6 : M r 2 ≤ 6) : Spi G FX3_powerA [xR r, xI k] SF M (fun v M' => v = (if 0 ≤ k ∧ k < M r 2 then M (r + 1) k else 0) ∧ M' = M) := by
  obtain ⟨r0, s0, s1, s2⟩ := hr
  refine Spi.of _ mtX3_powerA nlX3_powerA (Nat.le_of_ble_eq_true rfl) ?_
  show Ok G FX3_powerA 0 [xR r, xI k] [] SF M 0 0 _
  refine tr_iload_n (pc := 0) dX3_powerA_0 rfl ?_
  refine tr_iflt (pc := 1) (tgt := 21) dX3_powerA_1 (by decide) (fun c1 => ?_) (fun c1 => ?_)
  · skip
    refine tr_iconst (pc := 21) dX3_powerA_21 ⟨by decide, by decide⟩ ?_
    refine tr_ireti (pc := 22) dX3_powerA_22 rfl ?_
    exact ⟨by split <;> omega, rfl⟩
  · skip
    refine tr_iload_n (pc := 4) dX3_powerA_4 rfl ?_
    refine tr_aload_n (pc := 5) dX3_powerA_5 rfl (by omega) ?_
    refine tr_geti (pc := 6) (ji := 2) dX3_powerA_6 fi3_18 rfl (by assumption) rfl ?_
    refine tr_icmpge (pc := 9) (tgt := 21) dX3_powerA_9 (by decide) (fun c9 => ?_) (fun c9 => ?_)
    · skip
      refine tr_iconst (pc := 21) dX3_powerA_21 ⟨by decide, by decide⟩ ?_
      refine tr_ireti (pc := 22) dX3_powerA_22 rfl ?_
      exact ⟨by split <;> omega, rfl⟩
    · skip
      refine tr_aload_n (pc := 12) dX3_powerA_12 rfl (by omega) ?_
      refine tr_getr (pc := 13) (x := r + 1) dX3_powerA_13 fi3_9 rfl (by assumption) rfl ?_
      refine tr_iload_n (pc := 16) dX3_powerA_16 rfl ?_
      refine tr_iald (pc := 17) dX3_powerA_17 (by assumption) (by omega) (by omega) ?_
      refine tr_goto (pc := 18) (tgt := 22) dX3_powerA_18 (by decide) ?_
      refine tr_ireti (pc := 22) dX3_powerA_22 rfl ?_
      exact ⟨by split <;> omega, rfl⟩
theorem sp_X3_powerB {G : tk_G} {M : tk_M} {r k : Int} (hr : ig_s r) (h6 : M r 2 ≤ 6) : Spi G FX3_powerB [xR r, xI k] SF M (fun v M' => v = (if 0 ≤ k ∧ k < M r 2 then M (r + 2) k else 0) ∧ M' = M) := by
  obtain ⟨r0, s0, s1, s2⟩ := hr
  refine Spi.of _ mtX3_powerB nlX3_powerB (Nat.le_of_ble_eq_true rfl) ?_
  show Ok G FX3_powerB 0 [xR r, xI k] [] SF M 0 0 _
  refine tr_iload_n (pc := 0) dX3_powerB_0 rfl ?_
  refine tr_iflt (pc := 1) (tgt := 21) dX3_powerB_1 (by decide) (fun c1 => ?_) (fun c1 => ?_)
  · skip
    refine tr_iconst (pc := 21) dX3_powerB_21 ⟨by decide, by decide⟩ ?_
    refine tr_ireti (pc := 22) dX3_powerB_22 rfl ?_
    exact ⟨by split <;> omega, rfl⟩
  · skip
    refine tr_iload_n (pc := 4) dX3_powerB_4 rfl ?_
    refine tr_aload_n (pc := 5) dX3_powerB_5 rfl (by omega) ?_
    refine tr_geti (pc := 6) (ji := 2) dX3_powerB_6 fi3_18 rfl (by assumption) rfl ?_
    refine tr_icmpge (pc := 9) (tgt := 21) dX3_powerB_9 (by decide) (fun c9 => ?_) (fun c9 => ?_)
    · skip
      refine tr_iconst (pc := 21) dX3_powerB_21 ⟨by decide, by decide⟩ ?_
      refine tr_ireti (pc := 22) dX3_powerB_22 rfl ?_
      exact ⟨by split <;> omega, rfl⟩
    · skip
      refine tr_aload_n (pc := 12) dX3_powerB_12 rfl (by omega) ?_
      refine tr_getr (pc := 13) (x := r + 2) dX3_powerB_13 fi3_15 rfl (by assumption) rfl ?_
      refine tr_iload_n (pc := 16) dX3_powerB_16 rfl ?_
      refine tr_iald (pc := 17) dX3_powerB_17 (by assumption) (by omega) (by omega) ?_
      refine tr_goto (pc := 18) (tgt := 22) dX3_powerB_18 (by decide) ?_
      refine tr_ireti (pc := 22) dX3_powerB_22 rfl ?_
      exact ⟨by split <;> omega, rfl⟩
theorem sp_X3_find {G : tk_G} {M : tk_M} {r a b : Int} {g : List (Int × Int)} (hr : ig_s r) (hg : ig_at M r g) : Spi G FX3_find [xR r, xI a, xI b] SF M (fun v M' => v = ig_find a b 0 g ∧ M' = M) := by
  obtain ⟨r0, s0, s1, s2⟩ := hr
  refine Spi.of _ mtX3_find nlX3_find (Nat.le_of_ble_eq_true rfl) ?_
  show Ok G FX3_find 0 [xR r, xI a, xI b, xU] [] SF M 0 0 _
  obtain ⟨hg, h6⟩ := hg
  have loop : ∀ (g : List (Int × Int)) (k : Int), 0 ≤ k → ig_seg (M (r + 1)) (M (r + 2)) (M r 2) k g → Ok G FX3_find 2 [xR r, xI a, xI b, xI k] [] SF M 0 0 (tk_qi SF (fun v M' => v = ig_find a b k g ∧ M' = M)) := by
    intro g
    induction g with
    | nil =>
      intro k hk hs
      have hs : k = M r 2 := hs
      refine tr_iload_n (pc := 2) dX3_find_2 rfl ?_
      refine tr_aload_n (pc := 3) dX3_find_3 rfl (by omega) ?_
      refine tr_geti (pc := 4) (ji := 2) dX3_find_4 fi3_18 rfl (by assumption) rfl ?_
      refine tr_icmpge (pc := 7) (tgt := 38) dX3_find_7 (by decide) (fun c7 => ?_) (fun c7 => absurd c7 (by omega))
      refine tr_iconst (pc := 38) dX3_find_38 ⟨by decide, by decide⟩ ?_
      refine tr_ireti (pc := 39) dX3_find_39 rfl ?_
      exact ⟨rfl, rfl⟩
    | cons q t ih =>
      intro k hk hs
      obtain ⟨p, q⟩ := q
      obtain ⟨e1, e2, b1, b2, b3, b4, hlt, hs⟩ := hs
      refine tr_iload_n (pc := 2) dX3_find_2 rfl ?_
      refine tr_aload_n (pc := 3) dX3_find_3 rfl (by omega) ?_
      refine tr_geti (pc := 4) (ji := 2) dX3_find_4 fi3_18 rfl (by assumption) rfl ?_
      refine tr_icmpge (pc := 7) (tgt := 38) dX3_find_7 (by decide) (fun c7 => absurd c7 (by omega)) (fun c7 => ?_)
      refine tr_aload_n (pc := 10) dX3_find_10 rfl (by omega) ?_
      refine tr_getr (pc := 11) (x := r + 1) dX3_find_11 fi3_9 rfl (by assumption) rfl ?_
      refine tr_iload_n (pc := 14) dX3_find_14 rfl ?_
      refine tr_iald (pc := 15) dX3_find_15 (by assumption) (by omega) (by omega) ?_
      refine tr_iload_n (pc := 16) dX3_find_16 rfl ?_
      refine tr_icmpne (pc := 17) (tgt := 32) dX3_find_17 (by decide) (fun c17 => ?_) (fun c17 => ?_)
      · skip
        refine tr_iinc (pc := 32) dX3_find_32 rfl rfl ⟨by omega, by omega⟩ ?_
        dsimp only [List.set]
        refine tr_goto (pc := 35) (tgt := 2) dX3_find_35 (by decide) ?_
        have := ih (k + 1) (by omega) hs
        rw [show ig_find a b k ((p, q) :: t) = ig_find a b (k + 1) t from if_neg (by omega)]
        exact this
      · skip
        refine tr_aload_n (pc := 20) dX3_find_20 rfl (by omega) ?_
        refine tr_getr (pc := 21) (x := r + 2) dX3_find_21 fi3_15 rfl (by assumption) rfl ?_
        refine tr_iload_n (pc := 24) dX3_find_24 rfl ?_
        refine tr_iald (pc := 25) dX3_find_25 (by assumption) (by omega) (by omega) ?_
        refine tr_iload_n (pc := 26) dX3_find_26 rfl ?_
        refine tr_icmpne (pc := 27) (tgt := 32) dX3_find_27 (by decide) (fun c27 => ?_) (fun c27 => ?_)
        · skip
          refine tr_iinc (pc := 32) dX3_find_32 rfl rfl ⟨by omega, by omega⟩ ?_
          dsimp only [List.set]
          refine tr_goto (pc := 35) (tgt := 2) dX3_find_35 (by decide) ?_
          have := ih (k + 1) (by omega) hs
          rw [show ig_find a b k ((p, q) :: t) = ig_find a b (k + 1) t from if_neg (by omega)]
          exact this
        · skip
          refine tr_iload_n (pc := 30) dX3_find_30 rfl ?_
          refine tr_ireti (pc := 31) dX3_find_31 rfl ?_
          exact ⟨(if_pos (by omega)).symm, rfl⟩
  refine tr_iconst (pc := 0) dX3_find_0 ⟨by decide, by decide⟩ ?_
  refine tr_istore_n (pc := 1) dX3_find_1 rfl (Nat.le_of_ble_eq_true rfl) ?_
  dsimp only [List.set]
  exact loop g 0 (by omega) hg
/-- add, as the cells have it, and what it is to GENERATORS -/
def ig_addM (M : tk_M) (r a b : Int) : tk_M := if M r 2 < 6 then tk_mu (tk_mu (tk_mu M (r + 1) (M r 2) a) (r + 2) (M r 2) b) r 2 (M r 2 + 1) else M
def ig_add (g : List (Int × Int)) (a b : Int) : List (Int × Int) := if g.length < 6 then g ++ [(a, b)] else g
theorem ig_addM_at {M : tk_M} {r a b : Int} {g : List (Int × Int)} (h : ig_at M r g) (h1 : 0 ≤ a) (h2 : a ≤ 9) (h3 : 0 ≤ b) (h4 : b ≤ 9) : ig_at (ig_addM M r a b) r (ig_add g a b) := by
  obtain ⟨l1, l2⟩ := h.len
  unfold ig_addM ig_add
  by_cases h6 : M r 2 < 6
  · rw [if_pos h6, if_pos (by omega)]
    have e0 : tk_mu (tk_mu (tk_mu M (r + 1) (M r 2) a) (r + 2) (M r 2) b) r 2 (M r 2 + 1) r 2 = M r 2 + 1 := tk_mu_at _ _ _ _
    have e1 : tk_mu (tk_mu (tk_mu M (r + 1) (M r 2) a) (r + 2) (M r 2) b) r 2 (M r 2 + 1) (r + 1) = tk_mu M (r + 1) (M r 2) a (r + 1) := by rw [tk_mu_c (by omega), tk_mu_c (by omega)]
    have e2 : tk_mu (tk_mu (tk_mu M (r + 1) (M r 2) a) (r + 2) (M r 2) b) r 2 (M r 2 + 1) (r + 2) = tk_mu (tk_mu M (r + 1) (M r 2) a) (r + 2) (M r 2) b (r + 2) := by rw [tk_mu_c (by omega)]
    unfold ig_at
    rw [e0, e1, e2]
    refine ⟨ig_seg_snoc (tk_mu_at _ _ _ _) (tk_mu_at _ _ _ _) h1 h2 h3 h4 g 0 (ig_seg_congr g 0 (fun i _ hi => ⟨tk_mu_i (by omega), ?_⟩) h.1), by omega⟩
    rw [tk_mu_i (by omega), tk_mu_c (by omega)]
  · rw [if_neg h6, if_neg (by omega)]; exact h
theorem ig_addM_fr (M : tk_M) (r a b : Int) : tk_fr M (ig_addM M r a b) r (r + 3) := by
  unfold ig_addM
  split
  · exact ((tk_fr.rf.mu (by omega) (by omega)).mu (by omega) (by omega)).mu (by omega) (by omega)
  · exact tk_fr.rf
theorem sp_X3_add {G : tk_G} {M : tk_M} {r a b : Int} (hr : ig_s r) (h0 : 0 ≤ M r 2) : Spv G FX3_add [xR r, xI a, xI b] SF M (fun M' => M' = ig_addM M r a b) := by
  obtain ⟨r0, s0, s1, s2⟩ := hr
  refine Spv.of _ mtX3_add nlX3_add (Nat.le_of_ble_eq_true rfl) ?_
  show Ok G FX3_add 0 [xR r, xI a, xI b] [] SF M 0 0 _
  refine tr_aload_n (pc := 0) dX3_add_0 rfl (by omega) ?_
  refine tr_geti (pc := 1) (ji := 2) dX3_add_1 fi3_18 rfl (by assumption) rfl ?_
  refine tr_bipush (pc := 4) dX3_add_4 ⟨by decide, ⟨by decide, by decide⟩⟩ ?_
  refine tr_icmpge (pc := 6) (tgt := 39) dX3_add_6 (by decide) (fun c6 => ?_) (fun c6 => ?_)
  · skip
    refine tr_vret (pc := 39) dX3_add_39 rfl ?_
    unfold ig_addM
    first | exact (if_pos (by omega)).symm | exact (if_neg (by omega)).symm
  · skip
    refine tr_aload_n (pc := 9) dX3_add_9 rfl (by omega) ?_
    refine tr_getr (pc := 10) (x := r + 1) dX3_add_10 fi3_9 rfl (by assumption) rfl ?_
    refine tr_aload_n (pc := 13) dX3_add_13 rfl (by omega) ?_
    refine tr_geti (pc := 14) (ji := 2) dX3_add_14 fi3_18 rfl (by assumption) rfl ?_
    refine tr_iload_n (pc := 17) dX3_add_17 rfl ?_
    refine tr_iast (pc := 18) dX3_add_18 (by assumption) (by omega) (by omega) ?_
    refine tr_aload_n (pc := 19) dX3_add_19 rfl (by omega) ?_
    refine tr_getr (pc := 20) (x := r + 2) dX3_add_20 fi3_15 rfl (by assumption) rfl ?_
    refine tr_aload_n (pc := 23) dX3_add_23 rfl (by omega) ?_
    refine tr_getv (pc := 24) (ji := 2) (x := M r 2) dX3_add_24 fi3_18 rfl (by assumption) rfl (by rw [tk_mu_c (by omega)]) ?_
    refine tr_iload_n (pc := 27) dX3_add_27 rfl ?_
    refine tr_iast (pc := 28) dX3_add_28 (by assumption) (by omega) (by omega) ?_
    refine tr_aload_n (pc := 29) dX3_add_29 rfl (by omega) ?_
    refine tr_dup (pc := 30) dX3_add_30 (fun h => by cases h) ?_
    refine tr_getv (pc := 31) (ji := 2) (x := M r 2) dX3_add_31 fi3_18 rfl (by assumption) rfl (by rw [tk_mu_c (by omega), tk_mu_c (by omega)]) ?_
    refine tr_iconst (pc := 34) dX3_add_34 ⟨by decide, by decide⟩ ?_
    refine tr_iadd (pc := 35) dX3_add_35 ⟨by omega, by omega⟩ ?_
    refine tr_puti (pc := 36) (ji := 2) dX3_add_36 fi3_18 rfl (Or.inl rfl) (Or.inl rfl) (by assumption) rfl ?_
    refine tr_vret (pc := 39) dX3_add_39 rfl ?_
    unfold ig_addM
    first | exact (if_pos (by omega)).symm | exact (if_neg (by omega)).symm
def ig_addNM (M : tk_M) (r a b : Int) (g : List (Int × Int)) : tk_M := if ig_find a b 0 g < 0 then ig_addM M r a b else M
def ig_addN (g : List (Int × Int)) (a b : Int) : List (Int × Int) := if ig_find a b 0 g < 0 then ig_add g a b else g
theorem ig_addNM_at {M : tk_M} {r a b : Int} {g : List (Int × Int)} (h : ig_at M r g) (h1 : 0 ≤ a) (h2 : a ≤ 9) (h3 : 0 ≤ b) (h4 : b ≤ 9) : ig_at (ig_addNM M r a b g) r (ig_addN g a b) := by
  unfold ig_addNM ig_addN
  split
  · exact ig_addM_at h h1 h2 h3 h4
  · exact h
theorem ig_addNM_fr (M : tk_M) (r a b : Int) (g : List (Int × Int)) : tk_fr M (ig_addNM M r a b g) r (r + 3) := by
  unfold ig_addNM
  split
  · exact ig_addM_fr M r a b
  · exact tk_fr.rf
theorem sp_X3_addIfNew {G : tk_G} {M : tk_M} {r a b : Int} {g : List (Int × Int)} (hr : ig_s r) (hg : ig_at M r g) : Spv G FX3_addIfNew [xR r, xI a, xI b] SF M (fun M' => M' = ig_addNM M r a b g) := by
  have hr' := hr
  obtain ⟨r0, s0, s1, s2⟩ := hr
  have hl := hg.len
  refine Spv.of _ mtX3_addIfNew nlX3_addIfNew (Nat.le_of_ble_eq_true rfl) ?_
  show Ok G FX3_addIfNew 0 [xR r, xI a, xI b] [] SF M 0 0 _
  refine tr_aload_n (pc := 0) dX3_addIfNew_0 rfl (by omega) ?_
  refine tr_iload_n (pc := 1) dX3_addIfNew_1 rfl ?_
  refine tr_iload_n (pc := 2) dX3_addIfNew_2 rfl ?_
  refine tr_cVi2 (pc := 3) dX3_addIfNew_3 mtX3_find lv3_22 rfl (by assumption) kc3 ⟨(Nat.le_of_ble_eq_true rfl), (Nat.le_of_ble_eq_true rfl)⟩ nlX3_find (Nat.le_of_ble_eq_true rfl) ⟨(Nat.le_of_ble_eq_true rfl), (Nat.le_of_ble_eq_true rfl)⟩ (sp_X3_find hr' hg) (fun r3 M3 h3 => ?_)
  obtain ⟨hr3, hM3⟩ := h3
  obtain rfl := hr3.symm
  obtain rfl := hM3.symm
  refine tr_ifge (pc := 6) (tgt := 15) dX3_addIfNew_6 (by decide) (fun c6 => ?_) (fun c6 => ?_)
  · skip
    refine tr_vret (pc := 15) dX3_addIfNew_15 rfl ?_
    unfold ig_addNM
    first | exact (if_pos (by omega)).symm | exact (if_neg (by omega)).symm
  · skip
    refine tr_aload_n (pc := 9) dX3_addIfNew_9 rfl (by omega) ?_
    refine tr_iload_n (pc := 10) dX3_addIfNew_10 rfl ?_
    refine tr_iload_n (pc := 11) dX3_addIfNew_11 rfl ?_
    refine tr_cVv2 (pc := 12) dX3_addIfNew_12 mtX3_add lv3_26 rfl (by assumption) kc3 ⟨(Nat.le_of_ble_eq_true rfl), (Nat.le_of_ble_eq_true rfl)⟩ nlX3_add (Nat.le_of_ble_eq_true rfl) ⟨(Nat.le_of_ble_eq_true rfl), (Nat.le_of_ble_eq_true rfl)⟩ (sp_X3_add hr' (by omega)) (fun M12 h12 => ?_)
    obtain rfl := h12.symm
    refine tr_vret (pc := 15) dX3_addIfNew_15 rfl ?_
    unfold ig_addNM
    first | exact (if_pos (by omega)).symm | exact (if_neg (by omega)).symm
theorem ig_find_one {a b : Int} {g : List (Int × Int)} : ig_find a b 0 g < 0 ↔ (a, b) ∉ g := ig_find_neg g 0 (Int.le_refl 0)
def ig_setM (M : tk_M) (r k a b : Int) : tk_M := if 0 ≤ k ∧ k < M r 2 then tk_mu (tk_mu M (r + 1) k a) (r + 2) k b else M
theorem ig_setM_at {M : tk_M} {r k a b : Int} {g : List (Int × Int)} (h : ig_at M r g) (hk : 0 ≤ k) (hn : k < M r 2) (h1 : 0 ≤ a) (h2 : a ≤ 9) (h3 : 0 ≤ b) (h4 : b ≤ 9) : ig_at (ig_setM M r k a b) r (g.set k.toNat (a, b)) := by
  unfold ig_setM
  rw [if_pos ⟨hk, hn⟩]
  have e0 : tk_mu (tk_mu M (r + 1) k a) (r + 2) k b r = M r := by rw [tk_mu_c (by omega), tk_mu_c (by omega)]
  have e1 : tk_mu (tk_mu M (r + 1) k a) (r + 2) k b (r + 1) = tk_mu M (r + 1) k a (r + 1) := by rw [tk_mu_c (by omega)]
  unfold ig_at
  rw [e0, e1]
  have h5 := ig_seg_set (A := M (r + 1)) (B := M (r + 2)) (A' := tk_mu M (r + 1) k a (r + 1)) (B' := tk_mu (tk_mu M (r + 1) k a) (r + 2) k b (r + 2)) (n := M r 2) (tk_mu_at M (r + 1) k a) (tk_mu_at _ (r + 2) k b) h1 h2 h3 h4 (fun i hi => ⟨tk_mu_i hi, by rw [tk_mu_i hi, tk_mu_c (by omega)]⟩) g 0 h.1 hk hn
  rw [Int.sub_zero] at h5
  exact ⟨h5, h.2⟩
theorem ig_setM_fr (M : tk_M) (r k a b : Int) : tk_fr M (ig_setM M r k a b) r (r + 3) := by
  unfold ig_setM
  split
  · exact (tk_fr.rf.mu (by omega) (by omega)).mu (by omega) (by omega)
  · exact tk_fr.rf
theorem sp_X3_replace {G : tk_G} {M : tk_M} {r k a b : Int} (hr : ig_s r) (h6 : M r 2 ≤ 6) : Spv G FX3_replace [xR r, xI k, xI a, xI b] SF M (fun M' => M' = ig_setM M r k a b) := by
  obtain ⟨r0, s0, s1, s2⟩ := hr
  refine Spv.of _ mtX3_replace nlX3_replace (Nat.le_of_ble_eq_true rfl) ?_
  show Ok G FX3_replace 0 [xR r, xI k, xI a, xI b] [] SF M 0 0 _
  refine tr_iload_n (pc := 0) dX3_replace_0 rfl ?_
  refine tr_iflt (pc := 1) (tgt := 26) dX3_replace_1 (by decide) (fun c1 => ?_) (fun c1 => ?_)
  · skip
    refine tr_vret (pc := 26) dX3_replace_26 rfl ?_
    unfold ig_setM
    first | exact (if_pos (by omega)).symm | exact (if_neg (by omega)).symm
  · skip
    refine tr_iload_n (pc := 4) dX3_replace_4 rfl ?_
    refine tr_aload_n (pc := 5) dX3_replace_5 rfl (by omega) ?_
    refine tr_geti (pc := 6) (ji := 2) dX3_replace_6 fi3_18 rfl (by assumption) rfl ?_
    refine tr_icmpge (pc := 9) (tgt := 26) dX3_replace_9 (by decide) (fun c9 => ?_) (fun c9 => ?_)
    · skip
      refine tr_vret (pc := 26) dX3_replace_26 rfl ?_
      unfold ig_setM
      first | exact (if_pos (by omega)).symm | exact (if_neg (by omega)).symm
    · skip
      refine tr_aload_n (pc := 12) dX3_replace_12 rfl (by omega) ?_
      refine tr_getr (pc := 13) (x := r + 1) dX3_replace_13 fi3_9 rfl (by assumption) rfl ?_
      refine tr_iload_n (pc := 16) dX3_replace_16 rfl ?_
      refine tr_iload_n (pc := 17) dX3_replace_17 rfl ?_
      refine tr_iast (pc := 18) dX3_replace_18 (by assumption) (by omega) (by omega) ?_
      refine tr_aload_n (pc := 19) dX3_replace_19 rfl (by omega) ?_
      refine tr_getr (pc := 20) (x := r + 2) dX3_replace_20 fi3_15 rfl (by assumption) rfl ?_
      refine tr_iload_n (pc := 23) dX3_replace_23 rfl ?_
      refine tr_iload_n (pc := 24) dX3_replace_24 rfl ?_
      refine tr_iast (pc := 25) dX3_replace_25 (by assumption) (by omega) (by omega) ?_
      refine tr_vret (pc := 26) dX3_replace_26 rfl ?_
      unfold ig_setM
      first | exact (if_pos (by omega)).symm | exact (if_neg (by omega)).symm
theorem sp_X3_empty {G : tk_G} {M : tk_M} {r : Int} (hr : ig_s r) : Spv G FX3_empty [xR r] SF M (fun M' => M' = tk_mu M r 2 0) := by
  obtain ⟨r0, s0, s1, s2⟩ := hr
  refine Spv.of _ mtX3_empty nlX3_empty (Nat.le_of_ble_eq_true rfl) ?_
  show Ok G FX3_empty 0 [xR r] [] SF M 0 0 _
  refine tr_aload_n (pc := 0) dX3_empty_0 rfl (by omega) ?_
  refine tr_iconst (pc := 1) dX3_empty_1 ⟨by decide, by decide⟩ ?_
  refine tr_puti (pc := 2) (ji := 2) dX3_empty_2 fi3_18 rfl (Or.inl rfl) (Or.inl rfl) (by assumption) rfl ?_
  refine tr_vret (pc := 5) dX3_empty_5 rfl ?_
  rfl
theorem ig_empty_at (M : tk_M) (r : Int) : ig_at (tk_mu M r 2 0) r [] := by
  unfold ig_at
  rw [tk_mu_at]
  exact ⟨rfl, by omega⟩
/-- remove: those behind come one place ahead -/
theorem sp_X3_remove {G : tk_G} {M : tk_M} {r j : Int} {g : List (Int × Int)} (hr : ig_s r) (hg : ig_at M r g) : Spv G FX3_remove [xR r, xI j] SF M (fun M' => ig_at M' r (if 0 ≤ j then g.eraseIdx j.toNat else g) ∧ tk_fr M M' r (r + 3)) := by
  obtain ⟨r0, s0, s1, s2⟩ := hr
  have hl := hg.len
  have hg' := hg
  obtain ⟨hg, h6⟩ := hg
  refine Spv.of _ mtX3_remove nlX3_remove (Nat.le_of_ble_eq_true rfl) ?_
  show Ok G FX3_remove 0 [xR r, xI j, xU] [] SF M 0 0 _
  have loop : 0 ≤ j → j < M r 2 → ∀ (d : Nat) (i : Int) (M1 : tk_M), M r 2 - 1 - i = d → j ≤ i → M1 r = M r → (∀ c, c < j → M1 (r + 1) c = M (r + 1) c ∧ M1 (r + 2) c = M (r + 2) c) → (∀ c, j ≤ c → c < i → M1 (r + 1) c = M (r + 1) (c + 1) ∧ M1 (r + 2) c = M (r + 2) (c + 1)) → (∀ c, i ≤ c → M1 (r + 1) c = M (r + 1) c ∧ M1 (r + 2) c = M (r + 2) c) → tk_fr M M1 r (r + 3) →
      Ok G FX3_remove 15 [xR r, xI j, xI i] [] SF M1 0 0 (tk_qv SF (fun M' => ig_at M' r (if 0 ≤ j then g.eraseIdx j.toNat else g) ∧ tk_fr M M' r (r + 3))) := by
    intro hj0 hjn d
    induction d with
    | zero =>
      intro i M1 hd hi hz a1 a2 a3 hf
      have hz2 : M1 r 2 = M r 2 := by rw [hz]
      refine tr_iload_n (pc := 15) dX3_remove_15 rfl ?_
      refine tr_iconst (pc := 16) dX3_remove_16 ⟨by decide, by decide⟩ ?_
      refine tr_iadd (pc := 17) dX3_remove_17 ⟨by omega, by omega⟩ ?_
      refine tr_aload_n (pc := 18) dX3_remove_18 rfl (by omega) ?_
      refine tr_getv (pc := 19) (ji := 2) (x := M r 2) dX3_remove_19 fi3_18 rfl (by assumption) rfl (hz2) ?_
      refine tr_icmpge (pc := 22) (tgt := 59) dX3_remove_22 (by decide) (fun c22 => ?_) (fun c22 => absurd c22 (by omega))
      refine tr_aload_n (pc := 59) dX3_remove_59 rfl (by omega) ?_
      refine tr_dup (pc := 60) dX3_remove_60 (fun h => by cases h) ?_
      refine tr_getv (pc := 61) (ji := 2) (x := M r 2) dX3_remove_61 fi3_18 rfl (by assumption) rfl (hz2) ?_
      refine tr_iconst (pc := 64) dX3_remove_64 ⟨by decide, by decide⟩ ?_
      refine tr_isub (pc := 65) dX3_remove_65 ⟨by omega, by omega⟩ ?_
      refine tr_puti (pc := 66) (ji := 2) dX3_remove_66 fi3_18 rfl (Or.inl rfl) (Or.inl rfl) (by assumption) rfl ?_
      refine tr_vret (pc := 69) dX3_remove_69 rfl ?_
      refine ⟨?_, hf.mu (by omega) (by omega)⟩
      rw [if_pos hj0]
      unfold ig_at
      rw [tk_mu_at, tk_mu_c (show r + 1 ≠ r by omega), tk_mu_c (show r + 2 ≠ r by omega)]
      have h9 := ig_seg_erase (A' := M1 (r + 1)) (B' := M1 (r + 2)) g 0 hg hj0 hjn (fun c _ hc => a1 c hc) (fun c hc1 hc2 => a2 c hc1 (by omega))
      rw [Int.sub_zero] at h9
      exact ⟨h9, by omega⟩
    | succ d ih =>
      intro i M1 hd hi hz a1 a2 a3 hf
      have hz2 : M1 r 2 = M r 2 := by rw [hz]
      refine tr_iload_n (pc := 15) dX3_remove_15 rfl ?_
      refine tr_iconst (pc := 16) dX3_remove_16 ⟨by decide, by decide⟩ ?_
      refine tr_iadd (pc := 17) dX3_remove_17 ⟨by omega, by omega⟩ ?_
      refine tr_aload_n (pc := 18) dX3_remove_18 rfl (by omega) ?_
      refine tr_getv (pc := 19) (ji := 2) (x := M r 2) dX3_remove_19 fi3_18 rfl (by assumption) rfl (hz2) ?_
      refine tr_icmpge (pc := 22) (tgt := 59) dX3_remove_22 (by decide) (fun c22 => absurd c22 (by omega)) (fun c22 => ?_)
      refine tr_aload_n (pc := 25) dX3_remove_25 rfl (by omega) ?_
      refine tr_getr (pc := 26) (x := r + 1) dX3_remove_26 fi3_9 rfl (by assumption) rfl ?_
      refine tr_iload_n (pc := 29) dX3_remove_29 rfl ?_
      refine tr_aload_n (pc := 30) dX3_remove_30 rfl (by omega) ?_
      refine tr_getr (pc := 31) (x := r + 1) dX3_remove_31 fi3_9 rfl (by assumption) rfl ?_
      refine tr_iload_n (pc := 34) dX3_remove_34 rfl ?_
      refine tr_iconst (pc := 35) dX3_remove_35 ⟨by decide, by decide⟩ ?_
      refine tr_iadd (pc := 36) dX3_remove_36 ⟨by omega, by omega⟩ ?_
      refine tr_iald (pc := 37) dX3_remove_37 (by assumption) (by omega) (by omega) ?_
      refine tr_iast (pc := 38) dX3_remove_38 (by assumption) (by omega) (by omega) ?_
      refine tr_aload_n (pc := 39) dX3_remove_39 rfl (by omega) ?_
      refine tr_getr (pc := 40) (x := r + 2) dX3_remove_40 fi3_15 rfl (by assumption) rfl ?_
      refine tr_iload_n (pc := 43) dX3_remove_43 rfl ?_
      refine tr_aload_n (pc := 44) dX3_remove_44 rfl (by omega) ?_
      refine tr_getr (pc := 45) (x := r + 2) dX3_remove_45 fi3_15 rfl (by assumption) rfl ?_
      refine tr_iload_n (pc := 48) dX3_remove_48 rfl ?_
      refine tr_iconst (pc := 49) dX3_remove_49 ⟨by decide, by decide⟩ ?_
      refine tr_iadd (pc := 50) dX3_remove_50 ⟨by omega, by omega⟩ ?_
      refine tr_ialdv (pc := 51) (x := M1 (r + 2) (i + 1)) dX3_remove_51 (by assumption) (by omega) (by omega) (by rw [tk_mu_c (by omega)]) ?_
      refine tr_iast (pc := 52) dX3_remove_52 (by assumption) (by omega) (by omega) ?_
      refine tr_iinc (pc := 53) dX3_remove_53 rfl rfl ⟨by omega, by omega⟩ ?_
      dsimp only [List.set]
      refine tr_goto (pc := 56) (tgt := 15) dX3_remove_56 (by decide) ?_
      refine ih (i + 1) _ (by omega) (by omega) ?_ ?_ ?_ ?_ ((hf.mu (by omega) (by omega)).mu (by omega) (by omega))
      · rw [tk_mu_c (by omega), tk_mu_c (by omega)]; exact hz
      · intro c hc
        rw [tk_mu_c (show r + 1 ≠ r + 2 by omega), tk_mu_i (by omega), tk_mu_i (by omega), tk_mu_c (show r + 2 ≠ r + 1 by omega)]
        exact a1 c hc
      · intro c hc1 hc2
        by_cases hci : c = i
        · subst hci
          rw [tk_mu_c (show r + 1 ≠ r + 2 by omega), tk_mu_at, tk_mu_at]
          exact a3 (c + 1) (by omega)
        · rw [tk_mu_c (show r + 1 ≠ r + 2 by omega), tk_mu_i hci, tk_mu_i hci, tk_mu_c (show r + 2 ≠ r + 1 by omega)]
          exact a2 c hc1 (by omega)
      · intro c hc
        rw [tk_mu_c (show r + 1 ≠ r + 2 by omega), tk_mu_i (by omega), tk_mu_i (by omega), tk_mu_c (show r + 2 ≠ r + 1 by omega)]
        exact a3 c (by omega)
  refine tr_iload_n (pc := 0) dX3_remove_0 rfl ?_
  refine tr_iflt (pc := 1) (tgt := 12) dX3_remove_1 (by decide) (fun c1 => ?_) (fun c1 => ?_)
  · skip
    refine tr_vret (pc := 12) dX3_remove_12 rfl ?_
    refine ⟨?_, tk_fr.rf⟩
    split
    · rw [List.eraseIdx_of_length_le (by omega)]; exact hg'
    · exact hg'
  · skip
    refine tr_iload_n (pc := 4) dX3_remove_4 rfl ?_
    refine tr_aload_n (pc := 5) dX3_remove_5 rfl (by omega) ?_
    refine tr_geti (pc := 6) (ji := 2) dX3_remove_6 fi3_18 rfl (by assumption) rfl ?_
    refine tr_icmplt (pc := 9) (tgt := 13) dX3_remove_9 (by decide) (fun c9 => ?_) (fun c9 => ?_)
    · skip
      refine tr_iload_n (pc := 13) dX3_remove_13 rfl ?_
      refine tr_istore_n (pc := 14) dX3_remove_14 rfl (Nat.le_of_ble_eq_true rfl) ?_
      dsimp only [List.set]
      exact loop (by omega) (by omega) (M r 2 - 1 - j).toNat j M (by omega) (by omega) rfl (fun _ _ => ⟨rfl, rfl⟩) (fun c h1 h2 => by omega) (fun _ _ => ⟨rfl, rfl⟩) tk_fr.rf
    · skip
      refine tr_vret (pc := 12) dX3_remove_12 rfl ?_
      refine ⟨?_, tk_fr.rf⟩
      split
      · rw [List.eraseIdx_of_length_le (by omega)]; exact hg'
      · exact hg'
