/-- FACES in their order; at most five of them are slanted -/
def dlt (x y : Int × Int) : Prop := y.1 * x.2 < x.1 * y.2
theorem dirs_srt : dirs.Pairwise dlt := by unfold dlt; decide +kernel
theorem dirs_bd : ∀ d ∈ dirs, (1 ≤ d.1 ∧ d.1 ≤ 9) ∧ (1 ≤ d.2 ∧ d.2 ≤ 9) := by decide +kernel
theorem dirs_eg : ∀ n ∈ List.range 81, (eg 24 ((n : Int) / 9 + 1) ((n : Int) % 9 + 1) = 1 ↔ ((n : Int) / 9 + 1, (n : Int) % 9 + 1) ∈ dirs) := by decide +kernel
theorem dlt_irr (x : Int × Int) : ¬ dlt x x := by unfold dlt; omega
theorem dlt_as {x y : Int × Int} (h : dlt x y) : ¬ dlt y x := by unfold dlt at *; omega
def fc (g : List (Int × Int)) (d : Int × Int) : Int × Int × Int := (d.1, d.2, lvl d.1 d.2 g)
def isf (g : List (Int × Int)) (d : Int × Int) : Bool := decide (2 ≤ ig_cw d.1 d.2 (lvl d.1 d.2 g) 0 g)
def yins (x : Int × Int × Int) : List (Int × Int × Int) → List (Int × Int × Int)
  | [] => [x]
  | y :: F => if y.1 * x.2.1 < x.1 * y.2.1 then x :: y :: F else y :: yins x F
theorem yins_head {x : Int × Int × Int} : ∀ (F : List (Int × Int × Int)), (∀ y ∈ F, y.1 * x.2.1 < x.1 * y.2.1) → yins x F = x :: F := by
  intro F h
  cases F with
  | nil => rfl
  | cons y F => exact if_pos (h y List.mem_cons_self)
theorem yins_last {x : Int × Int × Int} : ∀ (F : List (Int × Int × Int)), (∀ y ∈ F, ¬ y.1 * x.2.1 < x.1 * y.2.1) → yins x F = F ++ [x] := by
  intro F
  induction F with
  | nil => intro _; rfl
  | cons y F ih =>
    intro h
    unfold yins
    rw [if_neg (h y List.mem_cons_self), ih (fun z hz => h z (List.mem_cons_of_mem _ hz))]
    rfl
theorem yins_flt {g : List (Int × Int)} {d : Int × Int} {p : Int × Int → Bool} (hp : p d = false) : ∀ (L : List (Int × Int)), L.Pairwise dlt → d ∈ L → yins (fc g d) ((L.filter p).map (fc g)) = (L.filter (fun y => p y || y == d)).map (fc g) := by
  intro L
  induction L with
  | nil => intro _ h; cases h
  | cons y L ih =>
    intro hs hd
    obtain ⟨h1, h2⟩ := List.pairwise_cons.mp hs
    by_cases hy : y = d
    · subst hy
      have e1 : L.filter (fun z => p z || z == y) = L.filter p := List.filter_congr (fun z hz => by
        have hne : z ≠ y := fun h => dlt_irr y (by have := h1 z hz; rw [h] at this; exact this)
        rw [beq_eq_false_iff_ne.mpr hne, Bool.or_false])
      rw [List.filter_cons, List.filter_cons, hp, e1]
      simp only [beq_self_eq_true, Bool.or_true, if_true]
      rw [if_neg (by decide), List.map_cons]
      refine yins_head _ (fun z hz => ?_)
      obtain ⟨w, hw, rfl⟩ := List.mem_map.mp hz
      exact h1 w (List.mem_filter.mp hw).1
    · have hd2 : d ∈ L := (List.mem_cons.mp hd).resolve_left (fun h => hy h.symm)
      have hne : (y == d) = false := beq_eq_false_iff_ne.mpr hy
      rw [List.filter_cons, List.filter_cons, hne, Bool.or_false]
      cases hpy : p y with
      | false =>
        rw [if_neg (by decide), if_neg (by decide)]
        exact ih h2 hd2
      | true =>
        rw [if_pos rfl, if_pos rfl, List.map_cons, List.map_cons, ← ih h2 hd2]
        exact if_neg (dlt_as (h1 d hd2))
def ydx (d : Int × Int) : Int := (d.1 - 1) * 9 + (d.2 - 1)
/-- the reference's FACES behind n of its pairs -/
def yfs (g : List (Int × Int)) (n : Int) : List (Int × Int × Int) := (1, 0, lvl 1 0 g) :: (dirs.filter (fun d => decide (ydx d < n) && isf g d)).map (fc g)
theorem ydx_eq {d : Int × Int} {n : Int} (hd : d ∈ dirs) (h : ydx d = n) : d = (n / 9 + 1, n % 9 + 1) := by
  have := dirs_bd d hd
  obtain ⟨x, y⟩ := d
  unfold ydx at h
  simp only at h this
  have h1 : n / 9 = x - 1 := by omega
  have h2 : n % 9 = y - 1 := by omega
  rw [h1, h2]
  simp
theorem yfs_no {g : List (Int × Int)} {n : Int} (h : ∀ d ∈ dirs, ydx d = n → isf g d = false) : yfs g (n + 1) = yfs g n := by
  unfold yfs
  congr 2
  refine List.filter_congr (fun d hd => ?_)
  by_cases h1 : ydx d = n
  · rw [h d hd h1, Bool.and_false, Bool.and_false]
  · have : decide (ydx d < n + 1) = decide (ydx d < n) := by
      by_cases h2 : ydx d < n
      · rw [decide_eq_true h2, decide_eq_true (by omega)]
      · rw [decide_eq_false h2, decide_eq_false (by omega)]
    rw [this]
theorem yfs_yes {g : List (Int × Int)} {s t n : Int} (hd : (s, t) ∈ dirs) (hn : ydx (s, t) = n) (hf : isf g (s, t) = true) : yfs g (n + 1) = yins (s, t, lvl s t g) (yfs g n) := by
  have hb := dirs_bd _ hd
  have e1 : yins (s, t, lvl s t g) (yfs g n) = (1, 0, lvl 1 0 g) :: yins (fc g (s, t)) ((dirs.filter (fun d => decide (ydx d < n) && isf g d)).map (fc g)) := by
    unfold yfs
    exact if_neg (by show ¬ 1 * t < s * 0; omega)
  rw [e1, yins_flt (by rw [hn, decide_eq_false (by omega), Bool.false_and]) dirs dirs_srt hd]
  unfold yfs
  congr 2
  refine List.filter_congr (fun d hd2 => ?_)
  by_cases h1 : d = (s, t)
  · subst h1
    rw [hn, hf, decide_eq_true (by omega), beq_self_eq_true, Bool.or_true]; rfl
  · rw [beq_eq_false_iff_ne.mpr h1, Bool.or_false]
    have h3 : ydx d ≠ n := fun h => h1 (by rw [ydx_eq hd2 h, ydx_eq hd hn])
    have : decide (ydx d < n + 1) = decide (ydx d < n) := by
      by_cases h2 : ydx d < n
      · rw [decide_eq_true h2, decide_eq_true (by omega)]
      · rw [decide_eq_false h2, decide_eq_false (by omega)]
    rw [this]
theorem yfs_len (g : List (Int × Int)) (n : Int) : (yfs g n).length ≤ 56 := by
  unfold yfs
  rw [List.length_cons, List.length_map]
  have := List.length_filter_le (fun d => decide (ydx d < n) && isf g d) dirs
  have h2 : dirs.length = 55 := by decide
  omega
theorem yfs_zero (g : List (Int × Int)) : yfs g 0 = [(1, 0, lvl 1 0 g)] := by
  unfold yfs
  rw [List.filter_eq_nil_iff.mpr]
  · rfl
  · intro d hd
    have hb := dirs_bd d hd
    have : ¬ ydx d < 0 := by unfold ydx; omega
    rw [decide_eq_false this]; simp
theorem yfs_all (g : List (Int × Int)) : yfs g 81 = (1, 0, lvl 1 0 g) :: (dirs.filter (isf g)).map (fc g) := by
  unfold yfs
  have e : dirs.filter (fun d => decide (ydx d < 81) && isf g d) = dirs.filter (isf g) := List.filter_congr (fun d hd => by
    have hb := dirs_bd d hd
    rw [decide_eq_true (by unfold ydx; omega), Bool.true_and])
  rw [e]
theorem ig_cw_flt (s t w : Int) : ∀ (g : List (Int × Int)) (acc : Int), ig_cw s t w acc g = acc + (g.filter (fun q => decide (s * q.1 + t * q.2 = w))).length := by
  intro g
  induction g with
  | nil => intro acc; unfold ig_cw; simp
  | cons q u ih =>
    intro acc
    obtain ⟨p, q⟩ := q
    unfold ig_cw
    rw [ih, List.filter_cons]
    by_cases h : s * p + t * q = w
    · rw [if_pos h, if_pos (by simpa using h), List.length_cons]; omega
    · rw [if_neg h, if_neg (by simpa using h)]
/-- two GENERATORS of a FACE, one behind the other -/
theorem isf_two {g : List (Int × Int)} {d : Int × Int} (hn : g.Nodup) (hd : (1 ≤ d.1 ∧ d.1 ≤ 9) ∧ (1 ≤ d.2 ∧ d.2 ≤ 9)) (hf : isf g d = true) : ∃ P ∈ g, ∃ Q ∈ g, P.1 < Q.1 ∧ d.1 * P.1 + d.2 * P.2 = lvl d.1 d.2 g ∧ d.1 * Q.1 + d.2 * Q.2 = lvl d.1 d.2 g := by
  have h1 := of_decide_eq_true hf
  rw [ig_cw_flt] at h1
  have hn2 : (g.filter (fun q => decide (d.1 * q.1 + d.2 * q.2 = lvl d.1 d.2 g))).Nodup := hn.sublist List.filter_sublist
  have hm : ∀ q ∈ g.filter (fun q => decide (d.1 * q.1 + d.2 * q.2 = lvl d.1 d.2 g)), q ∈ g ∧ d.1 * q.1 + d.2 * q.2 = lvl d.1 d.2 g := fun q hq => by
    have := List.mem_filter.mp hq
    exact ⟨this.1, of_decide_eq_true this.2⟩
  generalize g.filter (fun q => decide (d.1 * q.1 + d.2 * q.2 = lvl d.1 d.2 g)) = l at h1 hn2 hm
  match l, h1, hn2, hm with
  | [], h1, _, _ => exact absurd h1 (by decide)
  | [_], h1, _, _ => exact absurd h1 (by simp only [List.length_cons, List.length_nil]; omega)
  | P :: Q :: r, h1, hn2, hm =>
    obtain ⟨m1, m2⟩ := hm P List.mem_cons_self
    obtain ⟨m3, m4⟩ := hm Q (List.mem_cons_of_mem _ List.mem_cons_self)
    have hne : P ≠ Q := fun h => (List.nodup_cons.mp hn2).1 (by rw [h]; exact List.mem_cons_self)
    by_cases h7 : P.1 < Q.1
    · exact ⟨P, m1, Q, m3, h7, m2, m4⟩
    · by_cases h8 : Q.1 < P.1
      · exact ⟨Q, m3, P, m1, h8, m4, m2⟩
      · exfalso
        have h9 : P.1 = Q.1 := by omega
        rw [h9] at m2
        have h10 : d.2 * P.2 = d.2 * Q.2 := by omega
        have h11 : P.2 = Q.2 := Int.eq_of_mul_eq_mul_left (by omega) h10
        exact hne (Prod.ext h9 h11)
theorem cnt_step {x y : Int} (hxy : x < y) : ∀ (g : List (Int × Int)), (∃ Q ∈ g, Q.1 = y) → (g.filter (fun q => decide (y < q.1))).length + 1 ≤ (g.filter (fun q => decide (x < q.1))).length := by
  have mono : ∀ (g : List (Int × Int)), (g.filter (fun q => decide (y < q.1))).length ≤ (g.filter (fun q => decide (x < q.1))).length := by
    intro g
    induction g with
    | nil => exact Nat.le_refl _
    | cons q t ih =>
      rw [List.filter_cons, List.filter_cons]
      by_cases h : y < q.1
      · rw [if_pos (decide_eq_true h), if_pos (decide_eq_true (by omega)), List.length_cons, List.length_cons]; omega
      · rw [if_neg (by simpa using h)]
        split
        · rw [List.length_cons]; omega
        · exact ih
  intro g
  induction g with
  | nil => intro ⟨Q, hQ, _⟩; cases hQ
  | cons q t ih =>
    intro ⟨Q, hQ, hy⟩
    rw [List.filter_cons, List.filter_cons]
    rcases List.mem_cons.mp hQ with h1 | h1
    · subst h1
      rw [if_neg (by simp; omega), if_pos (decide_eq_true (by omega)), List.length_cons]
      have := mono t
      omega
    · have h2 := ih ⟨Q, h1, hy⟩
      by_cases h : y < q.1
      · rw [if_pos (decide_eq_true h), if_pos (decide_eq_true (by omega)), List.length_cons, List.length_cons]; omega
      · rw [if_neg (by simpa using h)]
        split
        · rw [List.length_cons]; omega
        · exact h2
theorem face_mono {s t s' t' u v : Int} (ht : 0 < t) (ht' : 0 < t') (hd : s' * t < s * t') (h1 : 0 ≤ s * u + t * v) (h2 : s' * u + t' * v ≤ 0) : 0 ≤ u := by
  have a1 : 0 ≤ t' * (s * u + t * v) := Int.mul_nonneg (by omega) h1
  have a2 : t * (s' * u + t' * v) ≤ 0 := by
    have := Int.mul_le_mul_of_nonneg_left h2 (show 0 ≤ t by omega)
    rw [Int.mul_zero] at this; exact this
  have a3 : t' * (s * u + t * v) = (s * t') * u + t * t' * v := by
    rw [Int.mul_add, ← Int.mul_assoc, ← Int.mul_assoc, Int.mul_comm t' s, Int.mul_comm t' t]
  have a4 : t * (s' * u + t' * v) = (s' * t) * u + t * t' * v := by
    rw [Int.mul_add, ← Int.mul_assoc, ← Int.mul_assoc, Int.mul_comm t s']
  have a5 : 0 ≤ (s * t' - s' * t) * u := by
    rw [Int.sub_mul]; omega
  apply Classical.byContradiction
  intro h
  have a6 : (s * t' - s' * t) * u < 0 := Int.mul_neg_of_pos_of_neg (by omega) (by omega)
  omega
theorem faces_cnt {g : List (Int × Int)} (hn : g.Nodup) (hb : ∀ q ∈ g, 0 ≤ q.1 ∧ q.1 ≤ 9 ∧ 0 ≤ q.2 ∧ q.2 ≤ 9) : ∀ (L : List (Int × Int)) (x : Int), L.Pairwise dlt → (∀ d ∈ L, (1 ≤ d.1 ∧ d.1 ≤ 9) ∧ (1 ≤ d.2 ∧ d.2 ≤ 9)) → (∀ d ∈ L, isf g d = true) → (∀ d ∈ L, ∀ P ∈ g, d.1 * P.1 + d.2 * P.2 = lvl d.1 d.2 g → x ≤ P.1) → L.length ≤ (g.filter (fun q => decide (x < q.1))).length := by
  intro L
  induction L with
  | nil => intro x _ _ _ _; exact Nat.zero_le _
  | cons d L ih =>
    intro x hs hbd hf hx
    obtain ⟨s1, s2⟩ := List.pairwise_cons.mp hs
    have hd := hbd d List.mem_cons_self
    obtain ⟨P, hP, Q, hQ, hPQ, wP, wQ⟩ := isf_two hn hd (hf d List.mem_cons_self)
    have hxP := hx d List.mem_cons_self P hP wP
    have h1 := ih Q.1 s2 (fun e he => hbd e (List.mem_cons_of_mem _ he)) (fun e he => hf e (List.mem_cons_of_mem _ he)) (fun e he R hR wR => by
      have hde := s1 e he
      have he2 := hbd e (List.mem_cons_of_mem _ he)
      have b1 := (ig_lw_bd (s := d.1) (t := d.2) (by omega) (by omega) g 2147483647 hb (by omega)).2.2 R hR
      have b2 := (ig_lw_bd (s := e.1) (t := e.2) (by omega) (by omega) g 2147483647 hb (by omega)).2.2 Q hQ
      have b1 : lvl d.1 d.2 g ≤ d.1 * R.1 + d.2 * R.2 := b1
      have b2 : lvl e.1 e.2 g ≤ e.1 * Q.1 + e.2 * Q.2 := b2
      unfold dlt at hde
      have h3 := face_mono (s := d.1) (t := d.2) (s' := e.1) (t' := e.2) (u := R.1 - Q.1) (v := R.2 - Q.2) (by omega) (by omega) hde (by rw [Int.mul_sub, Int.mul_sub]; omega) (by rw [Int.mul_sub, Int.mul_sub]; omega)
      omega)
    have h2 := cnt_step (x := x) (y := Q.1) (by omega) g ⟨Q, hQ, rfl⟩
    rw [List.length_cons]
    omega
theorem faces_five {g : List (Int × Int)} (hn : g.Nodup) (hb : ∀ q ∈ g, 0 ≤ q.1 ∧ q.1 ≤ 9 ∧ 0 ≤ q.2 ∧ q.2 ≤ 9) (h6 : g.length ≤ 6) : (dirs.filter (isf g)).length ≤ 5 := by
  have hs : (dirs.filter (isf g)).Pairwise dlt := dirs_srt.sublist List.filter_sublist
  have hbd : ∀ d ∈ dirs.filter (isf g), (1 ≤ d.1 ∧ d.1 ≤ 9) ∧ (1 ≤ d.2 ∧ d.2 ≤ 9) := fun d hd => dirs_bd d (List.mem_filter.mp hd).1
  have hf : ∀ d ∈ dirs.filter (isf g), isf g d = true := fun d hd => (List.mem_filter.mp hd).2
  generalize dirs.filter (isf g) = L at hs hbd hf ⊢
  cases L with
  | nil => simp
  | cons d L =>
    obtain ⟨P, hP, Q, hQ, hPQ, wP, wQ⟩ := isf_two hn (hbd d List.mem_cons_self) (hf d List.mem_cons_self)
    obtain ⟨s1, s2⟩ := List.pairwise_cons.mp hs
    have hd := hbd d List.mem_cons_self
    have h1 := faces_cnt hn hb L Q.1 s2 (fun e he => hbd e (List.mem_cons_of_mem _ he)) (fun e he => hf e (List.mem_cons_of_mem _ he)) (fun e he R hR wR => by
      have hde := s1 e he
      have he2 := hbd e (List.mem_cons_of_mem _ he)
      have b1 := (ig_lw_bd (s := d.1) (t := d.2) (by omega) (by omega) g 2147483647 hb (by omega)).2.2 R hR
      have b2 := (ig_lw_bd (s := e.1) (t := e.2) (by omega) (by omega) g 2147483647 hb (by omega)).2.2 Q hQ
      have b1 : lvl d.1 d.2 g ≤ d.1 * R.1 + d.2 * R.2 := b1
      have b2 : lvl e.1 e.2 g ≤ e.1 * Q.1 + e.2 * Q.2 := b2
      unfold dlt at hde
      have h3 := face_mono (s := d.1) (t := d.2) (s' := e.1) (t' := e.2) (u := R.1 - Q.1) (v := R.2 - Q.2) (by omega) (by omega) hde (by rw [Int.mul_sub, Int.mul_sub]; omega) (by rw [Int.mul_sub, Int.mul_sub]; omega)
      omega)
    have h2 := cnt_step (x := P.1) (y := Q.1) hPQ g ⟨Q, hQ, rfl⟩
    have h3 := cnt_step (x := P.1 - 1) (y := P.1) (by omega) g ⟨P, hP, rfl⟩
    have h4 := List.length_filter_le (fun q : Int × Int => decide (P.1 - 1 < q.1)) g
    rw [List.length_cons]
    omega
theorem hl_fd_eq {g : List (Int × Int)} : ∀ (ds : List (Int × Int)) (F : List (Int × Int × Int)), F.length + (ds.filter (isf g)).length ≤ 7 → hl_fd g ds F = F ++ (ds.filter (isf g)).map (fc g) := by
  intro ds
  induction ds with
  | nil => intro F _; unfold hl_fd; simp
  | cons d ds ih =>
    intro F h
    obtain ⟨s, t⟩ := d
    unfold hl_fd
    rw [List.filter_cons] at h ⊢
    by_cases hf : 2 ≤ ig_cw s t (lvl s t g) 0 g
    · have hb : isf g (s, t) = true := decide_eq_true hf
      rw [if_pos hb] at h
      rw [if_pos hf, if_pos hb]
      rw [List.length_cons] at h
      have e : hl_add F (s, t, lvl s t g) = F ++ [(s, t, lvl s t g)] := if_pos (by omega)
      rw [e, ih _ (by rw [List.length_append]; simp only [List.length_cons, List.length_nil]; omega), List.map_cons, List.append_assoc]
      rfl
    · have hb : isf g (s, t) = false := decide_eq_false hf
      rw [hb, if_neg (by decide)] at h
      rw [if_neg hf, hb, if_neg (by decide)]
      exact ih F h
theorem hl_fc_eq {g : List (Int × Int)} (hn : g.Nodup) (hb : ∀ q ∈ g, 0 ≤ q.1 ∧ q.1 ≤ 9 ∧ 0 ≤ q.2 ∧ q.2 ≤ 9) (h6 : g.length ≤ 6) : hl_fc g = yins (0, 1, lvl 0 1 g) (yfs g 81) := by
  have h5 := faces_five hn hb h6
  rw [yfs_all, yins_last]
  · unfold hl_fc
    have e1 : hl_add [] (1, 0, lvl 1 0 g) = [(1, 0, lvl 1 0 g)] := rfl
    rw [e1, hl_fd_eq _ _ (by simp only [List.length_cons, List.length_nil]; omega)]
    exact if_pos (by rw [List.length_append, List.length_map]; simp only [List.length_cons, List.length_nil]; omega)
  · intro y hy
    rcases List.mem_cons.mp hy with h | h
    · subst h; show ¬ (1 : Int) * 1 < 0 * 0; omega
    · obtain ⟨d, hd, rfl⟩ := List.mem_map.mp h
      have := dirs_bd d (List.mem_filter.mp hd).1
      show ¬ d.1 * 1 < 0 * d.2; omega
theorem ig_lw_far {s t : Int} {g : List (Int × Int)} (hs : 0 ≤ s ∧ s ≤ 9) (ht : 0 ≤ t ∧ t ≤ 9) (hb : ∀ q ∈ g, 0 ≤ q.1 ∧ q.1 ≤ 9 ∧ 0 ≤ q.2 ∧ q.2 ≤ 9) (hne : g ≠ []) : ig_lw s t 1000 g = lvl s t g := by
  cases g with
  | nil => exact absurd rfl hne
  | cons q u =>
    obtain ⟨p, q⟩ := q
    have hq : 0 ≤ p ∧ p ≤ 9 ∧ 0 ≤ q ∧ q ≤ 9 := hb (p, q) List.mem_cons_self
    have m1 := mul99 hs.1 hs.2 hq.1 hq.2.1
    have m2 := mul99 ht.1 ht.2 hq.2.2.1 hq.2.2.2
    unfold lvl ig_lw
    rw [show min 1000 (s * p + t * q) = s * p + t * q by omega, show min 2147483647 (s * p + t * q) = s * p + t * q by omega]
