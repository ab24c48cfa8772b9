/-- corners: term by term, and by floors -/
def isc (F : List (Int × Int × Int)) (a b : Int) : Prop := hl_cov a b F ≠ 0 ∧ (a = 0 ∨ hl_cov (a - 1) b F = 0) ∧ (b = 0 ∨ hl_cov a (b - 1) F = 0)
def cnr (F : List (Int × Int × Int)) : Nat → Int → List (Int × Int)
  | 0, _ => []
  | d + 1, t => if hl_cov (t / 10) (t % 10) F ≠ 0 ∧ (t / 10 = 0 ∨ hl_cov (t / 10 - 1) (t % 10) F = 0) ∧ (t % 10 = 0 ∨ hl_cov (t / 10) (t % 10 - 1) F = 0) then (t / 10, t % 10) :: cnr F d (t + 1) else cnr F d (t + 1)
theorem cnr_s (F : List (Int × Int × Int)) (d : Nat) (t : Int) : cnr F (d + 1) t = if hl_cov (t / 10) (t % 10) F ≠ 0 ∧ (t / 10 = 0 ∨ hl_cov (t / 10 - 1) (t % 10) F = 0) ∧ (t % 10 = 0 ∨ hl_cov (t / 10) (t % 10 - 1) F = 0) then (t / 10, t % 10) :: cnr F d (t + 1) else cnr F d (t + 1) := rfl
def fpos (F : List (Int × Int × Int)) : Prop := ∀ q ∈ F, 0 ≤ q.1 ∧ 0 ≤ q.2.1
theorem cov_up {a b a' b' : Int} (ha : a ≤ a') (hb : b ≤ b') : ∀ (F : List (Int × Int × Int)), fpos F → hl_cov a b F ≠ 0 → hl_cov a' b' F ≠ 0 := by
  intro F
  induction F with
  | nil => intro _ h; exact h
  | cons q F ih =>
    intro hp h
    obtain ⟨s, t, l⟩ := q
    have hq : 0 ≤ s ∧ 0 ≤ t := hp (s, t, l) List.mem_cons_self
    have m1 : s * a ≤ s * a' := Int.mul_le_mul_of_nonneg_left ha hq.1
    have m2 : t * b ≤ t * b' := Int.mul_le_mul_of_nonneg_left hb hq.2
    unfold hl_cov at h ⊢
    by_cases h1 : s * a + t * b < l
    · rw [if_pos h1] at h; exact absurd rfl h
    · rw [if_neg h1] at h
      rw [if_neg (by omega)]
      exact ih (fun z hz => hp z (List.mem_cons_of_mem _ hz)) h
theorem flr_spec {F : List (Int × Int × Int)} (hp : fpos F) (a : Int) : ∀ (d : Nat) (b0 : Int), b0 + d = 10 → (∀ b, b < b0 → hl_cov a b F = 0) → ∀ b, b ≤ 9 → (hl_cov a b F ≠ 0 ↔ hl_flr a F d b0 ≤ b) := by
  intro d
  induction d with
  | zero =>
    intro b0 h0 h1 b hb
    unfold hl_flr
    have := h1 b (by omega)
    omega
  | succ d ih =>
    intro b0 h0 h1 b hb
    unfold hl_flr
    by_cases hc : hl_cov a b0 F = 0
    · rw [if_pos hc]
      refine ih (b0 + 1) (by omega) (fun b hb => ?_) b hb
      by_cases e : b = b0
      · rw [e]; exact hc
      · exact h1 b (by omega)
    · rw [if_neg hc]
      constructor
      · intro h
        apply Classical.byContradiction
        intro h2
        exact h (h1 b (by omega))
      · intro h
        exact cov_up (Int.le_refl a) h F hp hc
def fl (F : List (Int × Int × Int)) (a : Int) : Int := hl_flr a F 10 0
theorem fl_r (F : List (Int × Int × Int)) (a : Int) : 0 ≤ fl F a ∧ fl F a ≤ 10 := hl_flr_r a F 10 0 (by omega) (by omega)
theorem fl_cov {F : List (Int × Int × Int)} (hp : fpos F) {a b : Int} (hneg : ∀ b, b < 0 → hl_cov a b F = 0) (hb : b ≤ 9) : hl_cov a b F ≠ 0 ↔ fl F a ≤ b := flr_spec hp a 10 0 (by omega) hneg b hb
/-- the last FACE is s 0, t 1: below b 0 there is nothing -/
theorem cov_neg {a b : Int} (hb : b < 0) : ∀ (F : List (Int × Int × Int)), (∃ l, 0 ≤ l ∧ (0, 1, l) ∈ F) → hl_cov a b F = 0 := by
  intro F
  induction F with
  | nil => intro ⟨l, _, h⟩; cases h
  | cons q F ih =>
    intro ⟨l, h0, h⟩
    obtain ⟨s, t, l'⟩ := q
    unfold hl_cov
    by_cases h1 : s * a + t * b < l'
    · rw [if_pos h1]
    · rw [if_neg h1]
      rcases List.mem_cons.mp h with h2 | h2
      · have e1 : (0 : Int) = s := congrArg Prod.fst h2
        have e2 : (1 : Int) = t := congrArg (fun q => q.2.1) h2
        have e3 : l = l' := congrArg (fun q => q.2.2) h2
        subst e1 e2 e3
        omega
      · exact ih ⟨l, h0, h2⟩
def fend (F : List (Int × Int × Int)) : Prop := fpos F ∧ ∃ l, 0 ≤ l ∧ (0, 1, l) ∈ F
def lo (F : List (Int × Int × Int)) (a : Int) : Int := if a = 0 then 10 else fl F (a - 1)
theorem fl_mono {F : List (Int × Int × Int)} (h : fend F) {a : Int} : fl F a ≤ lo F a := by
  unfold lo
  have r := fl_r F a
  split
  · omega
  · by_cases h9 : fl F (a - 1) ≤ 9
    · have h1 := (fl_cov h.1 (a := a - 1) (fun b hb => cov_neg hb F h.2) h9).mpr (Int.le_refl _)
      have h2 := cov_up (show a - 1 ≤ a by omega) (Int.le_refl _) F h.1 h1
      exact (fl_cov h.1 (fun b hb => cov_neg hb F h.2) h9).mp h2
    · omega
theorem isc_iff {F : List (Int × Int × Int)} (h : fend F) {a b : Int} (hb0 : 0 ≤ b) (hb : b ≤ 9) : isc F a b ↔ b = fl F a ∧ fl F a < lo F a := by
  have c1 := fl_cov h.1 (a := a) (b := b) (fun b hb => cov_neg hb F h.2) hb
  have c2 := fl_cov h.1 (a := a - 1) (b := b) (fun b hb => cov_neg hb F h.2) hb
  have c3 := fl_cov h.1 (a := a) (b := b - 1) (fun b hb => cov_neg hb F h.2) (by omega)
  have r := fl_r F a
  unfold isc lo
  rw [c1]
  have e2 : hl_cov (a - 1) b F = 0 ↔ b < fl F (a - 1) := by
    constructor
    · intro h; apply Classical.byContradiction; intro h2; exact (c2.mpr (by omega)) h
    · intro h; apply Classical.byContradiction; intro h2; have := c2.mp h2; omega
  have e3 : hl_cov a (b - 1) F = 0 ↔ b - 1 < fl F a := by
    constructor
    · intro h; apply Classical.byContradiction; intro h2; exact (c3.mpr (by omega)) h
    · intro h; apply Classical.byContradiction; intro h2; have := c3.mp h2; omega
  rw [e2, e3]
  by_cases ha : a = 0
  · rw [if_pos ha]
    constructor
    · intro ⟨h1, h2, h3⟩; omega
    · intro ⟨h1, h2⟩; exact ⟨by omega, Or.inl ha, by omega⟩
  · rw [if_neg ha]
    constructor
    · intro ⟨h1, h2, h3⟩
      have := h2.resolve_left ha
      omega
    · intro ⟨h1, h2⟩; exact ⟨by omega, Or.inr (by omega), by omega⟩
theorem cnr_row {F : List (Int × Int × Int)} (h : fend F) (rest : Nat) (a : Int) (ha : 0 ≤ a) : ∀ (e : Nat) (b : Int), b + e = 10 → 0 ≤ b → cnr F (e + rest) (10 * a + b) = (if b ≤ fl F a ∧ fl F a ≤ 9 ∧ fl F a < lo F a then [(a, fl F a)] else []) ++ cnr F rest (10 * a + 10) := by
  intro e
  induction e with
  | zero =>
    intro b hb hb0
    rw [if_neg (by omega), Nat.zero_add, List.nil_append, show 10 * a + b = 10 * a + 10 by omega]
  | succ e ih =>
    intro b hb hb0
    rw [show e + 1 + rest = (e + rest) + 1 by omega, cnr_s]
    rw [show (10 * a + b) / 10 = a by omega, show (10 * a + b) % 10 = b by omega, show 10 * a + b + 1 = 10 * a + (b + 1) by omega, ih (b + 1) (by omega) (by omega)]
    have hi := isc_iff h (a := a) hb0 (show b ≤ 9 by omega)
    unfold isc at hi
    by_cases hc : b = fl F a ∧ fl F a < lo F a
    · rw [if_pos (hi.mpr hc), if_neg (by omega), if_pos (by omega)]
      rw [← hc.1]; rfl
    · rw [if_neg (fun h2 => hc (hi.mp h2))]
      by_cases h3 : b + 1 ≤ fl F a ∧ fl F a ≤ 9 ∧ fl F a < lo F a
      · rw [if_pos h3, if_pos (by omega)]
      · rw [if_neg h3, if_neg (by omega)]
theorem pc_cnr {F : List (Int × Int × Int)} (h : fend F) : ∀ (d : Nat) (a cn : Int) (acc : List (Int × Int)), a + d = 10 → 0 ≤ a → (hl_pc F d a cn (lo F a) acc).1 = cn + (cnr F (10 * d) (10 * a)).length ∧ (acc.length + (cnr F (10 * d) (10 * a)).length ≤ 6 → (hl_pc F d a cn (lo F a) acc).2 = acc ++ cnr F (10 * d) (10 * a)) := by
  intro d
  induction d with
  | zero =>
    intro a cn acc hd ha
    unfold hl_pc
    have e : cnr F (10 * 0) (10 * a) = [] := rfl
    rw [e]
    exact ⟨by simp, fun _ => by simp⟩
  | succ d ih =>
    intro a cn acc hd ha
    have hr := cnr_row h (10 * d) a ha 10 0 (by omega) (by omega)
    rw [Int.add_zero, show 10 + 10 * d = 10 * (d + 1) by omega, show 10 * a + 10 = 10 * (a + 1) by omega] at hr
    have r := fl_r F a
    have hlo : lo F a ≤ 10 := by
      unfold lo
      split
      · omega
      · exact (fl_r F (a - 1)).2
    have hm := fl_mono h (a := a)
    have hl : lo F (a + 1) = fl F a := by unfold lo; rw [if_neg (by omega), show a + 1 - 1 = a by omega]
    rw [hr]
    unfold hl_pc
    have hfl : hl_flr a F 10 0 = fl F a := rfl
    rw [hfl]
    by_cases hc : fl F a < lo F a
    · obtain ⟨i1, i2⟩ := ih (a + 1) (cn + 1) (ig_add acc a (fl F a)) (by omega) (by omega)
      rw [hl] at i1 i2
      rw [if_pos hc, if_pos (by omega), i1]
      refine ⟨by rw [List.length_append]; simp only [List.length_cons, List.length_nil]; omega, fun h6 => ?_⟩
      rw [List.length_append] at h6
      simp only [List.length_cons, List.length_nil] at h6
      have e : ig_add acc a (fl F a) = acc ++ [(a, fl F a)] := if_pos (by omega)
      rw [e] at i2 ⊢
      rw [i2 (by rw [List.length_append]; simp only [List.length_cons, List.length_nil]; omega), List.append_assoc]
    · obtain ⟨i1, i2⟩ := ih (a + 1) cn acc (by omega) (by omega)
      rw [hl] at i1 i2
      have e2 : lo F a = fl F a := by omega
      rw [if_neg hc, if_neg (by omega), List.nil_append, e2]
      exact ⟨i1, i2⟩
theorem pc_eq {F : List (Int × Int × Int)} (h : fend F) : (hl_pc F 10 0 0 10 []).1 = (cnr F 100 0).length ∧ ((cnr F 100 0).length ≤ 6 → (hl_pc F 10 0 0 10 []).2 = cnr F 100 0) := by
  have e : lo F 0 = 10 := if_pos rfl
  have h1 := pc_cnr h 10 0 0 [] (by omega) (by omega)
  rw [e] at h1
  refine ⟨by rw [h1.1]; show 0 + ((cnr F 100 0).length : Int) = _; omega, fun h6 => ?_⟩
  rw [h1.2 (by show 0 + (cnr F 100 0).length ≤ 6; omega)]; rfl
theorem hl_fc_end {g : List (Int × Int)} (hn : g.Nodup) (hb : ∀ q ∈ g, 0 ≤ q.1 ∧ q.1 ≤ 9 ∧ 0 ≤ q.2 ∧ q.2 ≤ 9) (h6 : g.length ≤ 6) : fend (hl_fc g) := by
  rw [hl_fc_eq hn hb h6, yfs_all, yins_last]
  · refine ⟨fun q hq => ?_, lvl 0 1 g, (ig_lw_bd (by omega) (by omega) g _ hb (by omega)).1, List.mem_append_right _ List.mem_cons_self⟩
    rcases List.mem_append.mp hq with h | h
    · rcases List.mem_cons.mp h with h | h
      · subst h; exact ⟨show (0 : Int) ≤ 1 by omega, show (0 : Int) ≤ 0 by omega⟩
      · obtain ⟨d, hd, rfl⟩ := List.mem_map.mp h
        have := dirs_bd d (List.mem_filter.mp hd).1
        exact ⟨by show 0 ≤ d.1; omega, by show 0 ≤ d.2; omega⟩
    · rcases List.mem_cons.mp h with h | h
      · subst h; exact ⟨show (0 : Int) ≤ 0 by omega, show (0 : Int) ≤ 1 by omega⟩
      · cases h
  · intro y hy
    rcases List.mem_cons.mp hy with h | h
    · subst h; show ¬ (1 : Int) * 1 < 0 * 0; omega
    · obtain ⟨d, hd, rfl⟩ := List.mem_map.mp h
      have := dirs_bd d (List.mem_filter.mp hd).1
      show ¬ d.1 * 1 < 0 * d.2; omega
/-- the corners are none twice -/
theorem cnr_ge {F : List (Int × Int × Int)} : ∀ (d : Nat) (t : Int), 0 ≤ t → ∀ q ∈ cnr F d t, t ≤ 10 * q.1 + q.2 ∧ 10 * q.1 + q.2 < t + d ∧ 0 ≤ q.1 ∧ 0 ≤ q.2 ∧ q.2 ≤ 9 := by
  intro d
  induction d with
  | zero => intro t _ q hq; cases hq
  | succ d ih =>
    intro t ht q hq
    rw [cnr_s] at hq
    split at hq
    · rcases List.mem_cons.mp hq with h | h
      · subst h
        simp only
        omega
      · have := ih (t + 1) (by omega) q h; omega
    · have := ih (t + 1) (by omega) q hq; omega
theorem cnr_nd {F : List (Int × Int × Int)} : ∀ (d : Nat) (t : Int), 0 ≤ t → (cnr F d t).Nodup := by
  intro d
  induction d with
  | zero => intro t _; exact List.Pairwise.nil
  | succ d ih =>
    intro t ht
    rw [cnr_s]
    split
    · refine List.nodup_cons.mpr ⟨fun h => ?_, ih (t + 1) (by omega)⟩
      have := cnr_ge d (t + 1) (by omega) _ h
      simp only at this
      omega
    · exact ih (t + 1) (by omega)
