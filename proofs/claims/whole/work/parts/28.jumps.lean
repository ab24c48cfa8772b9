/-- fractions by their parts -/
theorem fq_tr {a b c d e f : Int} (hb : 0 < b) (hd : 0 < d) (hf : 0 < f) (h1 : a * d < c * b) (h2 : c * f < e * d) : a * f < e * b := by
  have h3 : a * d * f < c * b * f := Int.mul_lt_mul_of_pos_right h1 hf
  have h4 : c * f * b < e * d * b := Int.mul_lt_mul_of_pos_right h2 hb
  have h5 : (a * f) * d < (e * b) * d := by
    calc (a * f) * d = a * d * f := by rw [Int.mul_assoc, Int.mul_comm f d, ← Int.mul_assoc]
      _ < c * b * f := h3
      _ = c * f * b := by rw [Int.mul_assoc, Int.mul_comm b f, ← Int.mul_assoc]
      _ < e * d * b := h4
      _ = (e * b) * d := by rw [Int.mul_assoc, Int.mul_comm d b, ← Int.mul_assoc]
  exact Int.lt_of_mul_lt_mul_right h5 (Int.le_of_lt hd)
theorem fq_tre {a b c d e f : Int} (hb : 0 < b) (hd : 0 < d) (hf : 0 < f) (h1 : a * d < c * b) (h2 : c * f = e * d) : a * f < e * b := by
  have h3 : a * d * f < c * b * f := Int.mul_lt_mul_of_pos_right h1 hf
  have h5 : (a * f) * d < (e * b) * d := by
    calc (a * f) * d = a * d * f := by rw [Int.mul_assoc, Int.mul_comm f d, ← Int.mul_assoc]
      _ < c * b * f := h3
      _ = c * f * b := by rw [Int.mul_assoc, Int.mul_comm b f, ← Int.mul_assoc]
      _ = e * d * b := by rw [h2]
      _ = (e * b) * d := by rw [Int.mul_assoc, Int.mul_comm d b, ← Int.mul_assoc]
  exact Int.lt_of_mul_lt_mul_right h5 (Int.le_of_lt hd)
theorem fq_etr {a b c d e f : Int} (hb : 0 < b) (hd : 0 < d) (hf : 0 < f) (h1 : a * d = c * b) (h2 : c * f < e * d) : a * f < e * b := by
  have h4 : c * f * b < e * d * b := Int.mul_lt_mul_of_pos_right h2 hb
  have h5 : (a * f) * d < (e * b) * d := by
    calc (a * f) * d = a * d * f := by rw [Int.mul_assoc, Int.mul_comm f d, ← Int.mul_assoc]
      _ = c * b * f := by rw [h1]
      _ = c * f * b := by rw [Int.mul_assoc, Int.mul_comm b f, ← Int.mul_assoc]
      _ < e * d * b := h4
      _ = (e * b) * d := by rw [Int.mul_assoc, Int.mul_comm d b, ← Int.mul_assoc]
  exact Int.lt_of_mul_lt_mul_right h5 (Int.le_of_lt hd)
def jr_lt (y x : Int × Int) : Prop := y.1 * x.2 < x.1 * y.2
def jr_pos (J : List (Int × Int)) : Prop := ∀ q ∈ J, 0 ≤ q.1 ∧ q.1 ≤ 180 ∧ 1 ≤ q.2 ∧ q.2 ≤ 162
/-- JUMPS as they lie, from k on, up to n -/
def jr_seg (A B : Int → Int) (n : Int) : Int → List (Int × Int) → Prop
  | k, [] => k = n
  | k, (p, q) :: t => A k = p ∧ B k = q ∧ (0 ≤ p ∧ p ≤ 180) ∧ (1 ≤ q ∧ q ≤ 162) ∧ k < n ∧ jr_seg A B n (k + 1) t
theorem jr_seg_len {A B : Int → Int} {n : Int} : ∀ (g : List (Int × Int)) (k : Int), jr_seg A B n k g → n = k + g.length := by
  intro g
  induction g with
  | nil => intro k h; have h : k = n := h; simp [h]
  | cons q t ih =>
    intro k h
    obtain ⟨p, q⟩ := q
    obtain ⟨e1, e2, b1, b2, hlt, hs⟩ := h
    have := ih (k + 1) hs
    simp only [List.length_cons]; omega
theorem jr_seg_get {A B : Int → Int} {n : Int} : ∀ (g : List (Int × Int)) (k j : Int), jr_seg A B n k g → k ≤ j → j < n → g[(j - k).toNat]? = some (A j, B j) ∧ (0 ≤ A j ∧ A j ≤ 180) ∧ (1 ≤ B j ∧ B j ≤ 162) := by
  intro g
  induction g with
  | nil => intro k j h h1 h2; have h : k = n := h; omega
  | cons q t ih =>
    intro k j h h1 h2
    obtain ⟨p, q⟩ := q
    obtain ⟨e1, e2, b1, b2, hlt, hs⟩ := h
    by_cases hj : j = k
    · subst hj
      rw [Int.sub_self, e1, e2]
      exact ⟨rfl, b1, b2⟩
    · have := ih (k + 1) j hs (by omega) h2
      rw [show (j - k).toNat = (j - (k + 1)).toNat + 1 by omega, List.getElem?_cons_succ]
      exact this
theorem jr_seg_pos {A B : Int → Int} {n : Int} : ∀ (g : List (Int × Int)) (k : Int), jr_seg A B n k g → jr_pos g := by
  intro g
  induction g with
  | nil => intro k h q hq; cases hq
  | cons q t ih =>
    intro k h z hz
    obtain ⟨p, q⟩ := q
    obtain ⟨e1, e2, b1, b2, hlt, hs⟩ := h
    rcases List.mem_cons.mp hz with h | h
    · subst h; exact ⟨b1.1, b1.2, b2.1, b2.2⟩
    · exact ih (k + 1) hs z h
theorem jr_seg_shift {A B A' B' : Int → Int} {n : Int} : ∀ (g : List (Int × Int)) (k : Int), jr_seg A B n k g → (∀ i, k ≤ i → i < n → A' (i + 1) = A i ∧ B' (i + 1) = B i) → jr_seg A' B' (n + 1) (k + 1) g := by
  intro g
  induction g with
  | nil => intro k h hc; have h : k = n := h; show k + 1 = n + 1; omega
  | cons q t ih =>
    intro k h hc
    obtain ⟨p, q⟩ := q
    obtain ⟨e1, e2, b1, b2, hlt, hs⟩ := h
    have h1 := hc k (by omega) hlt
    exact ⟨h1.1.trans e1, h1.2.trans e2, b1, b2, by omega, ih (k + 1) hs (fun i hi hn => hc i (by omega) hn)⟩
def jr_ia (x : Int × Int) : Nat → List (Int × Int) → List (Int × Int)
  | 0, J => x :: J
  | _ + 1, [] => [x]
  | i + 1, y :: t => y :: jr_ia x i t
theorem jr_seg_ins {A B A' B' : Int → Int} {n i a b : Int} (ha : A' i = a) (hb : B' i = b) (h1 : 0 ≤ a ∧ a ≤ 180) (h2 : 1 ≤ b ∧ b ≤ 162) : ∀ (g : List (Int × Int)) (k : Int), jr_seg A B n k g → k ≤ i → i ≤ n → (∀ j, k ≤ j → j < i → A' j = A j ∧ B' j = B j) → (∀ j, i ≤ j → j < n → A' (j + 1) = A j ∧ B' (j + 1) = B j) → jr_seg A' B' (n + 1) k (jr_ia (a, b) (i - k).toNat g) := by
  intro g
  induction g with
  | nil =>
    intro k h hk hi c1 c2
    have h : k = n := h
    have e : i = k := by omega
    subst e
    rw [Int.sub_self]
    exact ⟨ha, hb, h1, h2, by omega, by show i + 1 = n + 1; omega⟩
  | cons q t ih =>
    intro k h hk hi c1 c2
    obtain ⟨p, q⟩ := q
    by_cases e : i = k
    · subst e
      rw [Int.sub_self]
      exact ⟨ha, hb, h1, h2, by omega, jr_seg_shift _ i h c2⟩
    · obtain ⟨e1, e2, b1, b2, hlt, hs⟩ := h
      have h3 := c1 k (by omega) (by omega)
      rw [show (i - k).toNat = (i - (k + 1)).toNat + 1 by omega]
      exact ⟨h3.1.trans e1, h3.2.trans e2, b1, b2, by omega, ih (k + 1) hs (by omega) hi (fun j hj1 hj2 => c1 j (by omega) hj2) c2⟩
def jins (x : Int × Int) : List (Int × Int) → List (Int × Int)
  | [] => [x]
  | y :: t => if y.1 * x.2 < x.1 * y.2 then y :: jins x t else if y.1 * x.2 = x.1 * y.2 then y :: t else x :: y :: t
theorem jins_ia {x : Int × Int} : ∀ (J : List (Int × Int)) (i : Nat), i ≤ J.length → (∀ (j : Nat) (q : Int × Int), j < i → J[j]? = some q → jr_lt q x) → (∀ q, J[i]? = some q → jr_lt x q) → jins x J = jr_ia x i J := by
  intro J
  induction J with
  | nil => intro i hi h1 h2; have : i = 0 := by simpa using hi
           subst this; rfl
  | cons y t ih =>
    intro i hi h1 h2
    match i with
    | 0 =>
      have h3 : x.1 * y.2 < y.1 * x.2 := h2 y rfl
      show (if y.1 * x.2 < x.1 * y.2 then _ else _) = _
      rw [if_neg (by omega), if_neg (by omega)]; rfl
    | i + 1 =>
      have h3 : y.1 * x.2 < x.1 * y.2 := h1 0 y (by omega) rfl
      show (if y.1 * x.2 < x.1 * y.2 then _ else _) = _
      rw [if_pos h3, ih i (by simpa using hi) (fun j q hj hq => h1 (j + 1) q (by omega) hq) (fun q hq => h2 q hq)]; rfl
theorem jins_eq {x : Int × Int} : ∀ (J : List (Int × Int)) (i : Nat) (z : Int × Int), J[i]? = some z → z.1 * x.2 = x.1 * z.2 → (∀ (j : Nat) (q : Int × Int), j < i → J[j]? = some q → jr_lt q x) → jins x J = J := by
  intro J
  induction J with
  | nil => intro i z h; simp at h
  | cons y t ih =>
    intro i z hz he h1
    match i with
    | 0 =>
      cases hz
      show (if y.1 * x.2 < x.1 * y.2 then _ else _) = _
      rw [if_neg (by omega), if_pos he]
    | i + 1 =>
      have h3 : y.1 * x.2 < x.1 * y.2 := h1 0 y (by omega) rfl
      show (if y.1 * x.2 < x.1 * y.2 then _ else _) = _
      rw [if_pos h3, ih i z hz he (fun j q hj hq => h1 (j + 1) q (by omega) hq)]
theorem jins_mem {x z : Int × Int} : ∀ (J : List (Int × Int)), z ∈ jins x J → z = x ∨ z ∈ J := by
  intro J
  induction J with
  | nil => intro h; simp [jins] at h; exact Or.inl h
  | cons y t ih =>
    intro h
    unfold jins at h
    split at h
    · rcases List.mem_cons.mp h with h | h
      · exact Or.inr (by rw [h]; exact List.mem_cons_self)
      · rcases ih h with h | h
        · exact Or.inl h
        · exact Or.inr (List.mem_cons_of_mem _ h)
    · split at h
      · exact Or.inr h
      · rcases List.mem_cons.mp h with h | h
        · exact Or.inl h
        · exact Or.inr h
theorem jins_pos {x : Int × Int} {J : List (Int × Int)} (hx : 0 ≤ x.1 ∧ x.1 ≤ 180 ∧ 1 ≤ x.2 ∧ x.2 ≤ 162) (h : jr_pos J) : jr_pos (jins x J) := fun z hz => by
  rcases jins_mem J hz with h1 | h1
  · rw [h1]; exact hx
  · exact h z h1
theorem jins_srt {x : Int × Int} (hx : 0 < x.2) : ∀ (J : List (Int × Int)), jr_pos J → J.Pairwise jr_lt → (jins x J).Pairwise jr_lt := by
  intro J
  induction J with
  | nil => intro _ _; simp [jins]
  | cons y t ih =>
    intro hp hs
    obtain ⟨s1, s2⟩ := List.pairwise_cons.mp hs
    have hy := hp y List.mem_cons_self
    have hpt : jr_pos t := fun z hz => hp z (List.mem_cons_of_mem _ hz)
    unfold jins
    split
    · rename_i h
      refine List.pairwise_cons.mpr ⟨fun z hz => ?_, ih hpt s2⟩
      rcases jins_mem t hz with h1 | h1
      · rw [h1]; exact h
      · exact s1 z h1
    · split
      · exact hs
      · rename_i h1 h2
        refine List.pairwise_cons.mpr ⟨fun z hz => ?_, hs⟩
        have hxy : x.1 * y.2 < y.1 * x.2 := by omega
        rcases List.mem_cons.mp hz with h3 | h3
        · rw [h3]; exact hxy
        · have hz2 := hpt z h3
          exact fq_tr hx (by omega) (by omega) hxy (s1 z h3)
theorem jins_len (x : Int × Int) (J : List (Int × Int)) : (jins x J).length ≤ J.length + 1 := by
  induction J with
  | nil => simp [jins]
  | cons y t ih => unfold jins; split; (simp only [List.length_cons]; omega); split <;> simp only [List.length_cons] <;> omega
def jr_at (M : tk_M) (J : List (Int × Int)) : Prop := jr_seg (M 95) (M 96) (M 94 2) 0 J ∧ M 94 2 ≤ 100
theorem jr_at.len {M : tk_M} {J : List (Int × Int)} (h : jr_at M J) : M 94 2 = J.length ∧ (J.length : Int) ≤ 100 := by
  have h1 := jr_seg_len J 0 h.1
  have h2 := h.2
  omega
theorem sp_X4_size {G : tk_G} {M : tk_M} : Spi G FX4_size [xR 94] SF M (fun v M' => v = M 94 2 ∧ M' = M) := by
  refine Spi.of _ mtX4_size nlX4_size (Nat.le_of_ble_eq_true rfl) ?_
  show Ok G FX4_size 0 [xR 94] [] SF M 0 0 _
  refine tr_aload_n (pc := 0) dX4_size_0 rfl (by decide) ?_
  refine tr_geti (pc := 1) (ji := 2) dX4_size_1 fi4_18 rfl sg94 rfl ?_
  refine tr_ireti (pc := 4) dX4_size_4 rfl ?_
  exact ⟨rfl, rfl⟩
theorem sp_X4_above {G : tk_G} {M : tk_M} {i : Int} (h7 : M 94 2 ≤ 100) (h0 : 0 ≤ i) (h1 : i < M 94 2) : Spi G FX4_above [xR 94, xI i] SF M (fun v M' => v = M 95 i ∧ M' = M) := by
  refine Spi.of _ mtX4_above nlX4_above (Nat.le_of_ble_eq_true rfl) ?_
  show Ok G FX4_above 0 [xR 94, xI i] [] SF M 0 0 _
  refine tr_iload_n (pc := 0) dX4_above_0 rfl ?_
  refine tr_iflt (pc := 1) (tgt := 21) dX4_above_1 (by decide) (fun c1 => absurd c1 (by omega)) (fun c1 => ?_)
  refine tr_iload_n (pc := 4) dX4_above_4 rfl ?_
  refine tr_aload_n (pc := 5) dX4_above_5 rfl (by decide) ?_
  refine tr_geti (pc := 6) (ji := 2) dX4_above_6 fi4_18 rfl sg94 rfl ?_
  refine tr_icmpge (pc := 9) (tgt := 21) dX4_above_9 (by decide) (fun c9 => absurd c9 (by omega)) (fun c9 => ?_)
  refine tr_aload_n (pc := 12) dX4_above_12 rfl (by decide) ?_
  refine tr_getr (pc := 13) (x := 95) dX4_above_13 fi4_9 rfl sg94 rfl ?_
  refine tr_iload_n (pc := 16) dX4_above_16 rfl ?_
  refine tr_iald (pc := 17) dX4_above_17 sg95 (by omega) (by omega) ?_
  refine tr_goto (pc := 18) (tgt := 22) dX4_above_18 (by decide) ?_
  refine tr_ireti (pc := 22) dX4_above_22 rfl ?_
  exact ⟨rfl, rfl⟩
theorem sp_X4_below {G : tk_G} {M : tk_M} {i : Int} (h7 : M 94 2 ≤ 100) (h0 : 0 ≤ i) (h1 : i < M 94 2) : Spi G FX4_below [xR 94, xI i] SF M (fun v M' => v = M 96 i ∧ M' = M) := by
  refine Spi.of _ mtX4_below nlX4_below (Nat.le_of_ble_eq_true rfl) ?_
  show Ok G FX4_below 0 [xR 94, xI i] [] SF M 0 0 _
  refine tr_iload_n (pc := 0) dX4_below_0 rfl ?_
  refine tr_iflt (pc := 1) (tgt := 21) dX4_below_1 (by decide) (fun c1 => absurd c1 (by omega)) (fun c1 => ?_)
  refine tr_iload_n (pc := 4) dX4_below_4 rfl ?_
  refine tr_aload_n (pc := 5) dX4_below_5 rfl (by decide) ?_
  refine tr_geti (pc := 6) (ji := 2) dX4_below_6 fi4_18 rfl sg94 rfl ?_
  refine tr_icmpge (pc := 9) (tgt := 21) dX4_below_9 (by decide) (fun c9 => absurd c9 (by omega)) (fun c9 => ?_)
  refine tr_aload_n (pc := 12) dX4_below_12 rfl (by decide) ?_
  refine tr_getr (pc := 13) (x := 96) dX4_below_13 fi4_15 rfl sg94 rfl ?_
  refine tr_iload_n (pc := 16) dX4_below_16 rfl ?_
  refine tr_iald (pc := 17) dX4_below_17 sg96 (by omega) (by omega) ?_
  refine tr_goto (pc := 18) (tgt := 22) dX4_below_18 (by decide) ?_
  refine tr_ireti (pc := 22) dX4_below_22 rfl ?_
  exact ⟨rfl, rfl⟩
theorem sp_X4_compare {G : tk_G} {M : tk_M} {i x y : Int} {J : List (Int × Int)} (hJ : jr_at M J) (h0 : 0 ≤ i) (h1 : i < M 94 2) (hx : 0 ≤ x ∧ x ≤ 180) (hy : 0 ≤ y ∧ y ≤ 180) : Spi G FX4_compare [xR 94, xI i, xI x, xI y] SF M (fun v M' => v = M 95 i * y - x * M 96 i ∧ M' = M) := by
  obtain ⟨-, g1, g2⟩ := jr_seg_get J 0 i hJ.1 h0 h1
  have h7 := hJ.2
  have m1 := mulb g1.1 g1.2 hy.1 hy.2
  have m2 := mulb (y := M 96 i) (Y := 162) hx.1 hx.2 (by omega) (by omega)
  refine Spi.of _ mtX4_compare nlX4_compare (Nat.le_of_ble_eq_true rfl) ?_
  show Ok G FX4_compare 0 [xR 94, xI i, xI x, xI y] [] SF M 0 0 _
  refine tr_iload_n (pc := 0) dX4_compare_0 rfl ?_
  refine tr_iflt (pc := 1) (tgt := 12) dX4_compare_1 (by decide) (fun c1 => absurd c1 (by omega)) (fun c1 => ?_)
  refine tr_iload_n (pc := 4) dX4_compare_4 rfl ?_
  refine tr_aload_n (pc := 5) dX4_compare_5 rfl (by decide) ?_
  refine tr_geti (pc := 6) (ji := 2) dX4_compare_6 fi4_18 rfl sg94 rfl ?_
  refine tr_icmplt (pc := 9) (tgt := 14) dX4_compare_9 (by decide) (fun c9 => ?_) (fun c9 => absurd c9 (by omega))
  refine tr_aload_n (pc := 14) dX4_compare_14 rfl (by decide) ?_
  refine tr_getr (pc := 15) (x := 95) dX4_compare_15 fi4_9 rfl sg94 rfl ?_
  refine tr_iload_n (pc := 18) dX4_compare_18 rfl ?_
  refine tr_iald (pc := 19) dX4_compare_19 sg95 (by omega) (by omega) ?_
  refine tr_iload_n (pc := 20) dX4_compare_20 rfl ?_
  refine tr_imul (pc := 21) dX4_compare_21 ⟨by omega, by omega⟩ ?_
  refine tr_iload_n (pc := 22) dX4_compare_22 rfl ?_
  refine tr_aload_n (pc := 23) dX4_compare_23 rfl (by decide) ?_
  refine tr_getr (pc := 24) (x := 96) dX4_compare_24 fi4_15 rfl sg94 rfl ?_
  refine tr_iload_n (pc := 27) dX4_compare_27 rfl ?_
  refine tr_iald (pc := 28) dX4_compare_28 sg96 (by omega) (by omega) ?_
  refine tr_imul (pc := 29) dX4_compare_29 ⟨by omega, by omega⟩ ?_
  refine tr_isub (pc := 30) dX4_compare_30 ⟨by omega, by omega⟩ ?_
  refine tr_ireti (pc := 31) dX4_compare_31 rfl ?_
  exact ⟨rfl, rfl⟩
def jr_iaM (M : tk_M) (i x y : Int) : tk_M := tk_mu (tk_mu (tk_mu (tk_cp (tk_cp M 95 i 95 (i + 1) (M 94 2 - i)) 96 i 96 (i + 1) (M 94 2 - i)) 95 i x) 96 i y) 94 2 (M 94 2 + 1)
theorem sp_X4_insertAt {G : tk_G} {M : tk_M} {i x y : Int} (h0 : 0 ≤ i) (h1 : i ≤ M 94 2) (h9 : M 94 2 < 100) : Spv G FX4_insertAt [xR 94, xI i, xI x, xI y] SF M (fun M' => M' = jr_iaM M i x y) := by
  refine Spv.of _ mtX4_insertAt nlX4_insertAt (Nat.le_of_ble_eq_true rfl) ?_
  show Ok G FX4_insertAt 0 [xR 94, xI i, xI x, xI y] [] SF M 0 0 _
  have e1 : tk_cp M 95 i 95 (i + 1) (M 94 2 - i) 94 = M 94 := by funext j; unfold tk_cp; rw [if_neg (by omega)]
  have e2 : tk_cp (tk_cp M 95 i 95 (i + 1) (M 94 2 - i)) 96 i 96 (i + 1) (M 94 2 - i) 94 = M 94 := by funext j; unfold tk_cp; rw [if_neg (by omega), if_neg (by omega)]
  refine tr_iload_n (pc := 0) dX4_insertAt_0 rfl ?_
  refine tr_iflt (pc := 1) (tgt := 21) dX4_insertAt_1 (by decide) (fun c1 => absurd c1 (by omega)) (fun c1 => ?_)
  refine tr_iload_n (pc := 4) dX4_insertAt_4 rfl ?_
  refine tr_aload_n (pc := 5) dX4_insertAt_5 rfl (by decide) ?_
  refine tr_geti (pc := 6) (ji := 2) dX4_insertAt_6 fi4_18 rfl sg94 rfl ?_
  refine tr_icmpgt (pc := 9) (tgt := 21) dX4_insertAt_9 (by decide) (fun c9 => absurd c9 (by omega)) (fun c9 => ?_)
  refine tr_aload_n (pc := 12) dX4_insertAt_12 rfl (by decide) ?_
  refine tr_geti (pc := 13) (ji := 2) dX4_insertAt_13 fi4_18 rfl sg94 rfl ?_
  refine tr_bipush (pc := 16) dX4_insertAt_16 ⟨by decide, ⟨by decide, by decide⟩⟩ ?_
  refine tr_icmplt (pc := 18) (tgt := 22) dX4_insertAt_18 (by decide) (fun c18 => ?_) (fun c18 => absurd c18 (by omega))
  refine tr_aload_n (pc := 22) dX4_insertAt_22 rfl (by decide) ?_
  refine tr_getr (pc := 23) (x := 95) dX4_insertAt_23 fi4_9 rfl sg94 rfl ?_
  refine tr_iload_n (pc := 26) dX4_insertAt_26 rfl ?_
  refine tr_aload_n (pc := 27) dX4_insertAt_27 rfl (by decide) ?_
  refine tr_getr (pc := 28) (x := 95) dX4_insertAt_28 fi4_9 rfl sg94 rfl ?_
  refine tr_iload_n (pc := 31) dX4_insertAt_31 rfl ?_
  refine tr_iconst (pc := 32) dX4_insertAt_32 ⟨by decide, by decide⟩ ?_
  refine tr_iadd (pc := 33) dX4_insertAt_33 ⟨by omega, by omega⟩ ?_
  refine tr_aload_n (pc := 34) dX4_insertAt_34 rfl (by decide) ?_
  refine tr_geti (pc := 35) (ji := 2) dX4_insertAt_35 fi4_18 rfl sg94 rfl ?_
  refine tr_iload_n (pc := 38) dX4_insertAt_38 rfl ?_
  refine tr_isub (pc := 39) dX4_insertAt_39 ⟨by omega, by omega⟩ ?_
  refine tr_copyi (pc := 40) dX4_insertAt_40 ac4_47 rfl (Nat.le_of_ble_eq_true rfl) (Nat.le_of_ble_eq_true rfl) sg95 sg95 (by omega) (by omega) (by omega) (by omega) (by omega) ?_
  refine tr_aload_n (pc := 43) dX4_insertAt_43 rfl (by decide) ?_
  refine tr_getr (pc := 44) (x := 96) dX4_insertAt_44 fi4_15 rfl sg94 rfl ?_
  refine tr_iload_n (pc := 47) dX4_insertAt_47 rfl ?_
  refine tr_aload_n (pc := 48) dX4_insertAt_48 rfl (by decide) ?_
  refine tr_getr (pc := 49) (x := 96) dX4_insertAt_49 fi4_15 rfl sg94 rfl ?_
  refine tr_iload_n (pc := 52) dX4_insertAt_52 rfl ?_
  refine tr_iconst (pc := 53) dX4_insertAt_53 ⟨by decide, by decide⟩ ?_
  refine tr_iadd (pc := 54) dX4_insertAt_54 ⟨by omega, by omega⟩ ?_
  refine tr_aload_n (pc := 55) dX4_insertAt_55 rfl (by decide) ?_
  refine tr_getv (pc := 56) (ji := 2) (x := M 94 2) dX4_insertAt_56 fi4_18 rfl sg94 rfl (by rw [e1]) ?_
  refine tr_iload_n (pc := 59) dX4_insertAt_59 rfl ?_
  refine tr_isub (pc := 60) dX4_insertAt_60 ⟨by omega, by omega⟩ ?_
  refine tr_copyi (pc := 61) dX4_insertAt_61 ac4_47 rfl (Nat.le_of_ble_eq_true rfl) (Nat.le_of_ble_eq_true rfl) sg96 sg96 (by omega) (by omega) (by omega) (by omega) (by omega) ?_
  refine tr_aload_n (pc := 64) dX4_insertAt_64 rfl (by decide) ?_
  refine tr_getr (pc := 65) (x := 95) dX4_insertAt_65 fi4_9 rfl sg94 rfl ?_
  refine tr_iload_n (pc := 68) dX4_insertAt_68 rfl ?_
  refine tr_iload_n (pc := 69) dX4_insertAt_69 rfl ?_
  refine tr_iast (pc := 70) dX4_insertAt_70 sg95 (by omega) (by omega) ?_
  refine tr_aload_n (pc := 71) dX4_insertAt_71 rfl (by decide) ?_
  refine tr_getr (pc := 72) (x := 96) dX4_insertAt_72 fi4_15 rfl sg94 rfl ?_
  refine tr_iload_n (pc := 75) dX4_insertAt_75 rfl ?_
  refine tr_iload_n (pc := 76) dX4_insertAt_76 rfl ?_
  refine tr_iast (pc := 77) dX4_insertAt_77 sg96 (by omega) (by omega) ?_
  refine tr_aload_n (pc := 78) dX4_insertAt_78 rfl (by decide) ?_
  refine tr_dup (pc := 79) dX4_insertAt_79 (fun h => by cases h) ?_
  refine tr_getv (pc := 80) (ji := 2) (x := M 94 2) dX4_insertAt_80 fi4_18 rfl sg94 rfl (by rw [tk_mu_c (by omega), tk_mu_c (by omega), e2]) ?_
  refine tr_iconst (pc := 83) dX4_insertAt_83 ⟨by decide, by decide⟩ ?_
  refine tr_iadd (pc := 84) dX4_insertAt_84 ⟨by omega, by omega⟩ ?_
  refine tr_puti (pc := 85) (ji := 2) dX4_insertAt_85 fi4_18 rfl (Or.inl rfl) (Or.inl rfl) sg94 rfl ?_
  refine tr_vret (pc := 88) dX4_insertAt_88 rfl ?_
  rfl
theorem jr_iaM_fr (M : tk_M) (i x y : Int) : tk_fr M (jr_iaM M i x y) 94 97 := by
  intro c hc
  unfold jr_iaM
  rw [tk_mu_c (by omega), tk_mu_c (by omega), tk_mu_c (by omega)]
  funext j; unfold tk_cp; rw [if_neg (by omega), if_neg (by omega)]
theorem jr_iaM_at {M : tk_M} {i x y : Int} {J : List (Int × Int)} (hJ : jr_at M J) (h0 : 0 ≤ i) (h1 : i ≤ M 94 2) (h9 : M 94 2 < 100) (hx : 0 ≤ x ∧ x ≤ 180) (hy : 1 ≤ y ∧ y ≤ 162) : jr_at (jr_iaM M i x y) (jr_ia (x, y) i.toNat J) := by
  have e0 : jr_iaM M i x y 94 2 = M 94 2 + 1 := tk_mu_at _ _ _ _
  have ea : ∀ j, jr_iaM M i x y 95 j = if j = i then x else if i + 1 ≤ j ∧ j < M 94 2 + 1 then M 95 (j - 1) else M 95 j := by
    intro j
    unfold jr_iaM
    rw [tk_mu_c (by omega), tk_mu_c (by omega), tk_mu_eq]
    by_cases hj : j = i
    · rw [if_pos ⟨rfl, hj⟩, if_pos hj]
    · rw [if_neg (by omega), if_neg hj]
      unfold tk_cp
      rw [if_neg (by omega)]
      by_cases h5 : i + 1 ≤ j ∧ j < M 94 2 + 1
      · rw [if_pos (by omega), if_pos h5, show i + (j - (i + 1)) = j - 1 by omega]
      · rw [if_neg (by omega), if_neg h5]
  have eb : ∀ j, jr_iaM M i x y 96 j = if j = i then y else if i + 1 ≤ j ∧ j < M 94 2 + 1 then M 96 (j - 1) else M 96 j := by
    intro j
    unfold jr_iaM
    rw [tk_mu_c (by omega), tk_mu_eq]
    by_cases hj : j = i
    · rw [if_pos ⟨rfl, hj⟩, if_pos hj]
    · rw [if_neg (by omega), if_neg hj, tk_mu_c (by omega)]
      unfold tk_cp
      by_cases h5 : i + 1 ≤ j ∧ j < M 94 2 + 1
      · rw [if_pos (by omega), if_neg (by omega), if_pos h5, show i + (j - (i + 1)) = j - 1 by omega]
      · rw [if_neg (by omega), if_neg (by omega), if_neg h5]
  unfold jr_at
  rw [e0]
  have h := jr_seg_ins (A := M 95) (B := M 96) (A' := jr_iaM M i x y 95) (B' := jr_iaM M i x y 96) (n := M 94 2) (i := i) (by rw [ea, if_pos rfl]) (by rw [eb, if_pos rfl]) hx hy J 0 hJ.1 h0 h1 (fun j _ h => ?_) (fun j h5 h6 => ?_)
  · rw [Int.sub_zero] at h
    exact ⟨h, by omega⟩
  · rw [ea, eb, if_neg (by omega), if_neg (by omega), if_neg (by omega), if_neg (by omega)]; exact ⟨rfl, rfl⟩
  · rw [ea, eb, if_neg (by omega), if_pos (by omega), if_neg (by omega), if_pos (by omega), show j + 1 - 1 = j by omega]; exact ⟨rfl, rfl⟩
theorem sp_X4_insert {G : tk_G} {M : tk_M} {x y : Int} {J : List (Int × Int)} (hJ : jr_at M J) (hs : J.Pairwise jr_lt) (h9 : M 94 2 < 100) (hx : 0 ≤ x ∧ x ≤ 180) (hy : 1 ≤ y ∧ y ≤ 162) : Spv G FX4_insert [xR 94, xI x, xI y] SF M (fun M' => jr_at M' (jins (x, y) J) ∧ tk_fr M M' 94 97) := by
  have hln := hJ.len
  have get : ∀ i, 0 ≤ i → i < M 94 2 → J[i.toNat]? = some (M 95 i, M 96 i) ∧ (0 ≤ M 95 i ∧ M 95 i ≤ 180) ∧ (1 ≤ M 96 i ∧ M 96 i ≤ 162) := fun i h0 h1 => by
    have := jr_seg_get J 0 i hJ.1 h0 h1
    rwa [Int.sub_zero] at this
  have srt : ∀ i j, 0 ≤ i → i < j → j < M 94 2 → M 95 i * M 96 j < M 95 j * M 96 i := fun i j h0 h1 h2 => by
    obtain ⟨gi, -⟩ := get i h0 (by omega)
    obtain ⟨gj, -⟩ := get j (by omega) h2
    obtain ⟨li, ei⟩ := List.getElem?_eq_some_iff.mp gi
    obtain ⟨lj, ej⟩ := List.getElem?_eq_some_iff.mp gj
    have := List.pairwise_iff_getElem.mp hs i.toNat j.toNat li lj (by omega)
    rw [ei, ej] at this
    exact this
  refine Spv.of _ mtX4_insert nlX4_insert (Nat.le_of_ble_eq_true rfl) ?_
  show Ok G FX4_insert 0 [xR 94, xI x, xI y, xU, xU, xU, xU, xU] [] SF M 0 0 _
  have loop : ∀ (d : Nat) (step lo hi P : Int) (v6 v7 : tk_V), step + d = 7 → 0 ≤ step → P = 2 ^ d → 0 ≤ lo → lo ≤ hi → hi ≤ M 94 2 → hi - lo < P → (∀ i, 0 ≤ i → i < lo → M 95 i * y < x * M 96 i) → (∀ i, hi ≤ i → i < M 94 2 → x * M 96 i < M 95 i * y) → Ok G FX4_insert 11 [xR 94, xI x, xI y, xI lo, xI hi, xI step, v6, v7] [] SF M 0 0 (tk_qv SF (fun M' => jr_at M' (jins (x, y) J) ∧ tk_fr M M' 94 97)) := by
    intro d
    induction d with
    | zero =>
      intro step lo hi P v6 v7 hd hst hP hl0 hlh hh hlen a1 a2
      have hP : P = 1 := hP
      refine tr_iload (pc := 11) dX4_insert_11 rfl ?_
      refine tr_bipush (pc := 13) dX4_insert_13 ⟨by decide, ⟨by decide, by decide⟩⟩ ?_
      refine tr_icmpge (pc := 15) (tgt := 71) dX4_insert_15 (by decide) (fun c15 => absurd c15 (by omega)) (fun c15 => ?_)
      refine tr_iload_n (pc := 18) dX4_insert_18 rfl ?_
      refine tr_iload (pc := 19) dX4_insert_19 rfl ?_
      refine tr_icmpge (pc := 21) (tgt := 71) dX4_insert_21 (by decide) (fun c21 => ?_) (fun c21 => absurd c21 (by omega))
      refine tr_aload_n (pc := 71) dX4_insert_71 rfl (by decide) ?_
      refine tr_iload_n (pc := 72) dX4_insert_72 rfl ?_
      refine tr_iload_n (pc := 73) dX4_insert_73 rfl ?_
      refine tr_iload_n (pc := 74) dX4_insert_74 rfl ?_
      refine tr_cVv3 (pc := 75) dX4_insert_75 mtX4_insertAt lv4_43 rfl sg94 kc4 ⟨(Nat.le_of_ble_eq_true rfl), (Nat.le_of_ble_eq_true rfl)⟩ nlX4_insertAt (Nat.le_of_ble_eq_true rfl) ⟨(Nat.le_of_ble_eq_true rfl), (Nat.le_of_ble_eq_true rfl)⟩ (sp_X4_insertAt hl0 (by omega) h9) (fun M75 h75 => ?_)
      obtain rfl := h75.symm
      refine tr_vret (pc := 78) dX4_insert_78 rfl ?_
      have e : jins (x, y) J = jr_ia (x, y) lo.toNat J := jins_ia J lo.toNat (by omega) (fun j q hj hq => ?_) (fun q hq => ?_)
      · rw [e]
        exact ⟨jr_iaM_at hJ hl0 (by omega) h9 hx hy, jr_iaM_fr M lo x y⟩
      · obtain ⟨gj, -⟩ := get (j : Int) (by omega) (by omega)
        rw [show ((j : Int)).toNat = j by omega, hq] at gj
        cases gj
        exact a1 j (by omega) (by omega)
      · have hlt : lo.toNat < J.length := (List.getElem?_eq_some_iff.mp hq).1
        obtain ⟨gj, -⟩ := get lo (by omega) (by omega)
        rw [hq] at gj
        cases gj
        exact a2 lo (by omega) (by omega)
    | succ d ih =>
      intro step lo hi P v6 v7 hd hst hP hl0 hlh hh hlen a1 a2
      have hP2 : P = 2 * 2 ^ d := by rw [hP, Int.pow_succ, Int.mul_comm]
      refine tr_iload (pc := 11) dX4_insert_11 rfl ?_
      refine tr_bipush (pc := 13) dX4_insert_13 ⟨by decide, ⟨by decide, by decide⟩⟩ ?_
      refine tr_icmpge (pc := 15) (tgt := 71) dX4_insert_15 (by decide) (fun c15 => absurd c15 (by omega)) (fun c15 => ?_)
      refine tr_iload_n (pc := 18) dX4_insert_18 rfl ?_
      refine tr_iload (pc := 19) dX4_insert_19 rfl ?_
      refine tr_icmpge (pc := 21) (tgt := 71) dX4_insert_21 (by decide) (fun c21 => ?_) (fun c21 => ?_)
      · skip
        refine tr_aload_n (pc := 71) dX4_insert_71 rfl (by decide) ?_
        refine tr_iload_n (pc := 72) dX4_insert_72 rfl ?_
        refine tr_iload_n (pc := 73) dX4_insert_73 rfl ?_
        refine tr_iload_n (pc := 74) dX4_insert_74 rfl ?_
        refine tr_cVv3 (pc := 75) dX4_insert_75 mtX4_insertAt lv4_43 rfl sg94 kc4 ⟨(Nat.le_of_ble_eq_true rfl), (Nat.le_of_ble_eq_true rfl)⟩ nlX4_insertAt (Nat.le_of_ble_eq_true rfl) ⟨(Nat.le_of_ble_eq_true rfl), (Nat.le_of_ble_eq_true rfl)⟩ (sp_X4_insertAt hl0 (by omega) h9) (fun M75 h75 => ?_)
        obtain rfl := h75.symm
        refine tr_vret (pc := 78) dX4_insert_78 rfl ?_
        have e : jins (x, y) J = jr_ia (x, y) lo.toNat J := jins_ia J lo.toNat (by omega) (fun j q hj hq => ?_) (fun q hq => ?_)
        · rw [e]
          exact ⟨jr_iaM_at hJ hl0 (by omega) h9 hx hy, jr_iaM_fr M lo x y⟩
        · obtain ⟨gj, -⟩ := get (j : Int) (by omega) (by omega)
          rw [show ((j : Int)).toNat = j by omega, hq] at gj
          cases gj
          exact a1 j (by omega) (by omega)
        · have hlt : lo.toNat < J.length := (List.getElem?_eq_some_iff.mp hq).1
          obtain ⟨gj, -⟩ := get lo (by omega) (by omega)
          rw [hq] at gj
          cases gj
          exact a2 lo (by omega) (by omega)
      · skip
        generalize hQ : (2 : Int) ^ d = P2 at hP2 ih
        refine tr_iload_n (pc := 24) dX4_insert_24 rfl ?_
        refine tr_iload (pc := 25) dX4_insert_25 rfl ?_
        refine tr_iadd (pc := 27) dX4_insert_27 ⟨by omega, by omega⟩ ?_
        refine tr_iconst (pc := 28) dX4_insert_28 ⟨by decide, by decide⟩ ?_
        refine tr_idiv (pc := 29) dX4_insert_29 (by omega) (by omega) ?_
        refine tr_istore (pc := 30) dX4_insert_30 rfl (Nat.le_of_ble_eq_true rfl) ?_
        dsimp only [List.set]
        generalize hmd : (lo + hi) / 2 = md
        have hmd0 : lo ≤ md ∧ md < hi := by omega
        obtain ⟨gm, gb1, gb2⟩ := get md (by omega) (by omega)
        refine tr_aload_n (pc := 32) dX4_insert_32 rfl (by decide) ?_
        refine tr_iload (pc := 33) dX4_insert_33 rfl ?_
        refine tr_iload_n (pc := 35) dX4_insert_35 rfl ?_
        refine tr_iload_n (pc := 36) dX4_insert_36 rfl ?_
        refine tr_cVi3 (pc := 37) dX4_insert_37 mtX4_compare lv4_40 rfl sg94 kc4 ⟨(Nat.le_of_ble_eq_true rfl), (Nat.le_of_ble_eq_true rfl)⟩ nlX4_compare (Nat.le_of_ble_eq_true rfl) ⟨(Nat.le_of_ble_eq_true rfl), (Nat.le_of_ble_eq_true rfl)⟩ (sp_X4_compare hJ (by omega) (by omega) hx (by omega)) (fun r37 M37 h37 => ?_)
        obtain ⟨hr37, hM37⟩ := h37
        obtain rfl := hr37.symm
        obtain rfl := hM37.symm
        refine tr_istore (pc := 40) dX4_insert_40 rfl (Nat.le_of_ble_eq_true rfl) ?_
        dsimp only [List.set]
        refine tr_iload (pc := 42) dX4_insert_42 rfl ?_
        refine tr_ifne (pc := 44) (tgt := 48) dX4_insert_44 (by decide) (fun c44 => ?_) (fun c44 => ?_)
        · skip
          refine tr_iload (pc := 48) dX4_insert_48 rfl ?_
          refine tr_ifge (pc := 50) (tgt := 61) dX4_insert_50 (by decide) (fun c50 => ?_) (fun c50 => ?_)
          · skip
            refine tr_iload (pc := 61) dX4_insert_61 rfl ?_
            refine tr_istore (pc := 63) dX4_insert_63 rfl (Nat.le_of_ble_eq_true rfl) ?_
            dsimp only [List.set]
            refine tr_iinc (pc := 65) dX4_insert_65 rfl rfl ⟨by omega, by omega⟩ ?_
            dsimp only [List.set]
            refine tr_goto (pc := 68) (tgt := 11) dX4_insert_68 (by decide) ?_
            first
            | refine ih (step + 1) (md + 1) hi P2 _ _ (by omega) (by omega) rfl (by omega) (by omega) (by omega) (by omega) (fun i i0 i1 => ?_) a2
              by_cases hi2 : i = md
              · subst hi2; omega
              · obtain ⟨-, gi1, gi2⟩ := get i i0 (by omega)
                exact fq_tr (by omega) (by omega) (by omega) (srt i md i0 (by omega) (by omega)) (by omega)
            | refine ih (step + 1) lo md P2 _ _ (by omega) (by omega) rfl (by omega) (by omega) (by omega) (by omega) a1 (fun i i0 i1 => ?_)
              by_cases hi2 : i = md
              · subst hi2; omega
              · obtain ⟨-, gi1, gi2⟩ := get i (by omega) (by omega)
                exact fq_tr (by omega) (by omega) (by omega) (show x * M 96 md < M 95 md * y by omega) (srt md i (by omega) (by omega) (by omega))
          · skip
            refine tr_iload (pc := 53) dX4_insert_53 rfl ?_
            refine tr_iconst (pc := 55) dX4_insert_55 ⟨by decide, by decide⟩ ?_
            refine tr_iadd (pc := 56) dX4_insert_56 ⟨by omega, by omega⟩ ?_
            refine tr_istore_n (pc := 57) dX4_insert_57 rfl (Nat.le_of_ble_eq_true rfl) ?_
            dsimp only [List.set]
            refine tr_goto (pc := 58) (tgt := 65) dX4_insert_58 (by decide) ?_
            refine tr_iinc (pc := 65) dX4_insert_65 rfl rfl ⟨by omega, by omega⟩ ?_
            dsimp only [List.set]
            refine tr_goto (pc := 68) (tgt := 11) dX4_insert_68 (by decide) ?_
            first
            | refine ih (step + 1) (md + 1) hi P2 _ _ (by omega) (by omega) rfl (by omega) (by omega) (by omega) (by omega) (fun i i0 i1 => ?_) a2
              by_cases hi2 : i = md
              · subst hi2; omega
              · obtain ⟨-, gi1, gi2⟩ := get i i0 (by omega)
                exact fq_tr (by omega) (by omega) (by omega) (srt i md i0 (by omega) (by omega)) (by omega)
            | refine ih (step + 1) lo md P2 _ _ (by omega) (by omega) rfl (by omega) (by omega) (by omega) (by omega) a1 (fun i i0 i1 => ?_)
              by_cases hi2 : i = md
              · subst hi2; omega
              · obtain ⟨-, gi1, gi2⟩ := get i (by omega) (by omega)
                exact fq_tr (by omega) (by omega) (by omega) (show x * M 96 md < M 95 md * y by omega) (srt md i (by omega) (by omega) (by omega))
        · skip
          refine tr_vret (pc := 47) dX4_insert_47 rfl ?_
          have e : jins (x, y) J = J := jins_eq J md.toNat (M 95 md, M 96 md) gm (by show M 95 md * y = x * M 96 md; omega) (fun j q hj hq => ?_)
          · rw [e]
            exact ⟨hJ, tk_fr.rf⟩
          · obtain ⟨gj, gj1, gj2⟩ := get (j : Int) (by omega) (by omega)
            rw [show ((j : Int)).toNat = j by omega, hq] at gj
            cases gj
            exact fq_tre (by omega) (by omega) (show 0 < y by omega) (srt j md (by omega) (by omega) (by omega)) (show M 95 md * y = x * M 96 md by omega)
  refine tr_iconst (pc := 0) dX4_insert_0 ⟨by decide, by decide⟩ ?_
  refine tr_istore_n (pc := 1) dX4_insert_1 rfl (Nat.le_of_ble_eq_true rfl) ?_
  dsimp only [List.set]
  refine tr_aload_n (pc := 2) dX4_insert_2 rfl (by decide) ?_
  refine tr_geti (pc := 3) (ji := 2) dX4_insert_3 fi4_18 rfl sg94 rfl ?_
  refine tr_istore (pc := 6) dX4_insert_6 rfl (Nat.le_of_ble_eq_true rfl) ?_
  dsimp only [List.set]
  refine tr_iconst (pc := 8) dX4_insert_8 ⟨by decide, by decide⟩ ?_
  refine tr_istore (pc := 9) dX4_insert_9 rfl (Nat.le_of_ble_eq_true rfl) ?_
  dsimp only [List.set]
  exact loop 7 0 0 (M 94 2) 128 xU xU (by omega) (by omega) (by decide) (by omega) (by omega) (by omega) (by omega) (fun i h1 h2 => by omega) (fun i h1 h2 => by omega)
