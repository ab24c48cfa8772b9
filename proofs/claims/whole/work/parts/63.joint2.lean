theorem jj_read {M M1 M2 : tk_M} {z : jS} {v1 v2 : Int} (hw : JW z) (h1 : JC M z) (h2 : JR M z) (c1 : v1 = (c_read (tg z.2.2.2.1) z.2.2.2.1.2 z.1).1 ∧ Cg M1 (c_read (tg z.2.2.2.1) z.2.2.2.1.2 z.1).2 ∧ M1 72 1 = 0 ∧ ∀ c : Int, c ≠ 72 → ¬ (2 ≤ c ∧ c ≤ 7) → ¬ (39 ≤ c ∧ c ≤ 71) → ¬ (87 ≤ c ∧ c ≤ 100) → M1 c = M c)
    (c2 : v2 = (c_read (tg z.2.2.2.1) z.2.2.2.1.2 z.1).1 ∧ Rg M2 (c_read (tg z.2.2.2.1) z.2.2.2.1.2 z.1).2 ∧ cnd (c_read (tg z.2.2.2.1) z.2.2.2.1.2 z.1).2 ∧ M2 101 9 = 0 ∧ (∀ c : Int, (c < 101 ∨ c = 109 ∨ 114 ≤ c) → M2 c = M1 c) ∧ ∀ j : Int, j ≠ 3 → j ≠ 9 → j ≠ 10 → j ≠ 12 → M2 101 j = M1 101 j) : v1 = v2 ∧ JJ M2 := by
  obtain ⟨a1, a2, a3, a4⟩ := c1
  obtain ⟨b1, b2, b3, b4, b5, b6⟩ := c2
  have h2' := h2.up (M' := M1) (fun c hc => a4 c (by omega) (by omega) (by omega) (by omega))
  have f1 : ∀ c : Int, c < 101 → c ≠ 72 → ¬ (2 ≤ c ∧ c ≤ 7) → ¬ (39 ≤ c ∧ c ≤ 71) → ¬ (87 ≤ c ∧ c ≤ 100) → M2 c = M c := fun c q0 q1 q2 q3 q4 => (b5 c (by omega)).trans (a4 c q1 q2 q3 q4)
  refine ⟨a1.trans b1.symm, ((c_read (tg z.2.2.2.1) z.2.2.2.1.2 z.1).2, z.2.1, z.2.2.1, (z.2.2.2.1.1, 0), z.2.2.2.2), ⟨b3, hw.2.1, hw.2.2.1, ⟨⟨by show (0 : Int) ≤ 0; omega, by show (0 : Int) ≤ 100; omega⟩, fun i i0 i1 => by have i1 : i < 0 := i1; omega⟩, hw.2.2.2.2⟩, ?_, ?_⟩
  · refine ⟨a2.cg (fun c hc => b5 c (by omega)), ⟨h1.2.1.1.cg (fun c _ _ => f1 c (by omega) (by omega) (by omega) (by omega) (by omega)), h1.2.1.2.1.cg (fun c _ _ => f1 c (by omega) (by omega) (by omega) (by omega) (by omega)), h1.2.1.2.2.cg (fun c _ _ => f1 c (by omega) (by omega) (by omega) (by omega) (by omega))⟩, ⟨h1.2.2.1.1.cg (fun c _ _ => f1 c (by omega) (by omega) (by omega) (by omega) (by omega)), by rw [f1 0 (by omega) (by omega) (by omega) (by omega) (by omega)]; exact h1.2.2.1.2⟩, ⟨?_, fun i i0 i1 => by have i1 : i < 0 := i1; omega⟩, h1.2.2.2.2.cg (fun c _ _ => f1 c (by omega) (by omega) (by omega) (by omega) (by omega))⟩
    rw [b5 72 (by omega)]; exact a3
  · refine ⟨b2, ⟨h2'.2.1.1.same (b6 _ (by omega) (by omega) (by omega) (by omega)) (b5 _ (by omega)) (b5 _ (by omega)) (b5 _ (by omega)), h2'.2.1.2.1.same (b6 _ (by omega) (by omega) (by omega) (by omega)) (b5 _ (by omega)) (b5 _ (by omega)), h2'.2.1.2.2.same (b6 _ (by omega) (by omega) (by omega) (by omega)) (b5 _ (by omega)) (b5 _ (by omega))⟩, ⟨h2'.2.2.1.1.same (b6 _ (by omega) (by omega) (by omega) (by omega)) (b6 _ (by omega) (by omega) (by omega) (by omega)) (b6 _ (by omega) (by omega) (by omega) (by omega)) (fun c _ _ => b5 c (by omega)), by rw [b6 36 (by omega) (by omega) (by omega) (by omega)]; exact h2'.2.2.1.2⟩, ⟨b4, fun i i0 i1 => by have i1 : i < 0 := i1; omega⟩, h2'.2.2.2.2.cg (b5 _ (by omega)) (b5 _ (by omega)) (b5 _ (by omega))⟩
theorem JC.rows {M M1 : tk_M} {z : jS} {r : jR} (h : JC M z) (hr : rw_at M1 8 4 r.1 ∧ rw_at M1 12 8 r.2.1 ∧ rw_at M1 16 8 r.2.2) (hf : tk_fr M M1 8 20) : JC M1 (z.1, r, z.2.2) :=
  ⟨h.1.cg (fun c hc => hf c (by omega)), hr, ⟨h.2.2.1.1.cg (fun c _ _ => hf c (by omega)), by rw [hf 0 (by omega)]; exact h.2.2.1.2⟩, h.2.2.2.1.cg (hf _ (by omega)) (hf _ (by omega)), h.2.2.2.2.cg (fun c _ _ => hf c (by omega))⟩
theorem JR.rows {M M1 : tk_M} {z : jS} {r : jR} (h : JR M z) (hr : rs_at M1 r.1 ∧ re_at M1 r.2.1 ∧ rb_at M1 r.2.2) (hf : ∀ c : Int, c ≠ 101 → (c < 119 ∨ 125 < c) → M1 c = M c) (ho : ∀ j : Int, j ≠ 22 → j ≠ 26 → j ≠ 29 → M1 101 j = M 101 j) : JR M1 (z.1, r, z.2.2) :=
  ⟨⟨h.1.1.same (hf _ (by omega) (by omega)) (hf _ (by omega) (by omega)) (hf _ (by omega) (by omega)), h.1.2.1.same (hf _ (by omega) (by omega)) (hf _ (by omega) (by omega)) (hf _ (by omega) (by omega)), h.1.2.2.frame (ho 3 (by omega) (by omega) (by omega)) (fun c _ _ => hf c (by omega) (by omega))⟩, hr, ⟨h.2.2.1.1.same (ho _ (by omega) (by omega) (by omega)) (ho _ (by omega) (by omega) (by omega)) (ho _ (by omega) (by omega) (by omega)) (fun c _ _ => hf c (by omega) (by omega)), by rw [ho 36 (by omega) (by omega) (by omega)]; exact h.2.2.1.2⟩, h.2.2.2.1.cg (ho _ (by omega) (by omega) (by omega)) (hf _ (by omega) (by omega)), h.2.2.2.2.cg (hf _ (by omega) (by omega)) (hf _ (by omega) (by omega)) (hf _ (by omega) (by omega))⟩
theorem see_ok {l : L3} (h : sn_ok l) (i n d : Int) : sn_ok (x_see l i n d).2 := by
  unfold x_see
  split
  · intro q hq; cases hq
  · split
    · exact h
    · split
      · exact h
      · split
        · exact h
        · intro q hq
          rcases List.mem_append.mp hq with h1 | h1
          · exact h q h1
          · rcases List.mem_cons.mp h1 with h1 | h1
            · subst h1; simp only; omega
            · cases h1
theorem event_ok {l : L3} (h : en_ok l) (w n : Int) : en_ok (x_event l w n).2 := by
  unfold x_event
  split
  · intro q hq; cases hq
  · split
    · exact h
    · by_cases he : ev_ok w n
      · rw [if_neg (fun h => h he)]
        split
        · exact h
        · intro q hq
          rcases List.mem_append.mp hq with h1 | h1
          · exact h q h1
          · rcases List.mem_cons.mp h1 with h1 | h1
            · subst h1; exact he
            · cases h1
      · rw [if_pos he]; exact h
theorem book_ok {l : L3} (h : bk_ok l) (t v : Int) : bk_ok (x_book l t v).2 := by
  unfold x_book
  split
  · intro q hq; cases hq
  · split
    · exact h
    · split
      · exact h
      · split
        · exact h
        · intro q hq
          rcases List.mem_append.mp hq with h1 | h1
          · exact h q h1
          · rcases List.mem_cons.mp h1 with h1 | h1
            · subst h1; simp only; omega
            · cases h1
theorem jj_see {M M1 M2 : tk_M} {z : jS} {l : L3} (hw : JW z) (h1 : JC M z) (h2 : JR M1 z) (hl : sn_ok l) (c1 : rw_at M1 8 4 l) (f1 : tk_fr M M1 8 12) (c2 : rs_at M2 l) (f2 : of1 M1 M2 119 121 22) : JJ M2 :=
  ⟨(z.1, (l, z.2.1.2), z.2.2), ⟨hw.1, ⟨hl, hw.2.1.2⟩, hw.2.2⟩,
   (h1.rows (r := (l, z.2.1.2)) ⟨c1, h1.2.1.2.1.cg (fun c _ _ => f1 c (by omega)), h1.2.1.2.2.cg (fun c _ _ => f1 c (by omega))⟩ (f1.mono (by omega) (by omega))).up (fun c hc => f2.1 c (by omega) (by omega)),
   h2.rows (r := (l, z.2.1.2)) ⟨c2, h2.2.1.2.1.same (f2.2 _ (by omega)) (f2.1 _ (by omega) (by omega)) (f2.1 _ (by omega) (by omega)), h2.2.1.2.2.same (f2.2 _ (by omega)) (f2.1 _ (by omega) (by omega)) (f2.1 _ (by omega) (by omega))⟩ (fun c a b => f2.1 c a (by omega)) (fun j a _ _ => f2.2 j a)⟩
theorem jj_event {M M1 M2 : tk_M} {z : jS} {l : L3} (hw : JW z) (h1 : JC M z) (h2 : JR M1 z) (hl : en_ok l) (c1 : rw_at M1 12 8 l) (f1 : tk_fr M M1 12 16) (c2 : re_at M2 l) (f2 : of1 M1 M2 122 123 26) : JJ M2 :=
  ⟨(z.1, (z.2.1.1, l, z.2.1.2.2), z.2.2), ⟨hw.1, ⟨hw.2.1.1, hl, hw.2.1.2.2⟩, hw.2.2⟩,
   (h1.rows (r := (z.2.1.1, l, z.2.1.2.2)) ⟨h1.2.1.1.cg (fun c _ _ => f1 c (by omega)), c1, h1.2.1.2.2.cg (fun c _ _ => f1 c (by omega))⟩ (f1.mono (by omega) (by omega))).up (fun c hc => f2.1 c (by omega) (by omega)),
   h2.rows (r := (z.2.1.1, l, z.2.1.2.2)) ⟨h2.2.1.1.same (f2.2 _ (by omega)) (f2.1 _ (by omega) (by omega)) (f2.1 _ (by omega) (by omega)) (f2.1 _ (by omega) (by omega)), c2, h2.2.1.2.2.same (f2.2 _ (by omega)) (f2.1 _ (by omega) (by omega)) (f2.1 _ (by omega) (by omega))⟩ (fun c a b => f2.1 c a (by omega)) (fun j _ a _ => f2.2 j a)⟩
theorem jj_book {M M1 M2 : tk_M} {z : jS} {l : L3} (hw : JW z) (h1 : JC M z) (h2 : JR M1 z) (hl : bk_ok l) (c1 : rw_at M1 16 8 l) (f1 : tk_fr M M1 16 20) (c2 : rb_at M2 l) (f2 : of1 M1 M2 124 125 29) : JJ M2 :=
  ⟨(z.1, (z.2.1.1, z.2.1.2.1, l), z.2.2), ⟨hw.1, ⟨hw.2.1.1, hw.2.1.2.1, hl⟩, hw.2.2⟩,
   (h1.rows (r := (z.2.1.1, z.2.1.2.1, l)) ⟨h1.2.1.1.cg (fun c _ _ => f1 c (by omega)), h1.2.1.2.1.cg (fun c _ _ => f1 c (by omega)), c1⟩ (f1.mono (by omega) (by omega))).up (fun c hc => f2.1 c (by omega) (by omega)),
   h2.rows (r := (z.2.1.1, z.2.1.2.1, l)) ⟨h2.2.1.1.same (f2.2 _ (by omega)) (f2.1 _ (by omega) (by omega)) (f2.1 _ (by omega) (by omega)) (f2.1 _ (by omega) (by omega)), h2.2.1.2.1.same (f2.2 _ (by omega)) (f2.1 _ (by omega) (by omega)) (f2.1 _ (by omega) (by omega)), c2⟩ (fun c a b => f2.1 c a (by omega)) (fun j _ _ a => f2.2 j a)⟩
/-- THE IMAGE -/
def jnow (z : jS) : td_T := (z.1.1, z.1.2.1, z.2.1.1, z.2.1.2.1, z.2.1.2.2)
theorem JC.now {M : tk_M} {z : jS} (h : JC M z) : td_at M 1 (jnow z) := ⟨h.1.1, h.1.2.1, h.2.1.1, h.2.1.2.1, h.2.1.2.2⟩
theorem jj_image {M M1 M2 : tk_M} {z : jS} (hw : JW z) (h1 : JC M z) (h2 : JR M1 z) (c1 : td_at M1 20 (jnow z) ∧ M1 0 2 = 1 ∧ ∀ c : Int, c ≠ 0 → (c < 21 ∨ 39 ≤ c) → M1 c = M c) (c2 : ri_at M2 (jnow z) ∧ M2 101 36 = 1 ∧ kpf M1 M2) : JJ M2 := by
  obtain ⟨a1, a2, a3⟩ := c1
  obtain ⟨b1, b2, b3⟩ := c2
  have hC : JC M1 (z.1, z.2.1, (jnow z, 1), z.2.2.2) := ⟨h1.1.cg (fun c hc => a3 c (by omega) (by omega)), ⟨h1.2.1.1.cg (fun c _ _ => a3 c (by omega) (by omega)), h1.2.1.2.1.cg (fun c _ _ => a3 c (by omega) (by omega)), h1.2.1.2.2.cg (fun c _ _ => a3 c (by omega) (by omega))⟩, ⟨a1, a2⟩, h1.2.2.2.1.cg (a3 _ (by omega) (by omega)) (a3 _ (by omega) (by omega)), h1.2.2.2.2.cg (fun c _ _ => a3 c (by omega) (by omega))⟩
  have f : ∀ c : Int, c ≠ 101 → (c < 130 ∨ 135 < c) → M2 c = M1 c := b3.1
  have o : ∀ j : Int, j ≠ 36 → j ≠ 40 → j ≠ 42 → j ≠ 44 → M2 101 j = M1 101 j := b3.2
  exact ⟨(z.1, z.2.1, (jnow z, 1), z.2.2.2), ⟨hw.1, hw.2.1, ⟨⟨hw.1.1, hw.1.2.1, hw.2.1⟩, Or.inr rfl⟩, hw.2.2.2⟩, hC.up (fun c hc => f c (by omega) (by omega)),
    ⟨h2.1.1.same (f _ (by omega) (by omega)) (f _ (by omega) (by omega)) (f _ (by omega) (by omega)), h2.1.2.1.same (f _ (by omega) (by omega)) (f _ (by omega) (by omega)) (f _ (by omega) (by omega)), h2.1.2.2.frame (o 3 (by omega) (by omega) (by omega) (by omega)) (fun c _ _ => f c (by omega) (by omega))⟩,
    ⟨h2.2.1.1.same (o _ (by omega) (by omega) (by omega) (by omega)) (f _ (by omega) (by omega)) (f _ (by omega) (by omega)) (f _ (by omega) (by omega)), h2.2.1.2.1.same (o _ (by omega) (by omega) (by omega) (by omega)) (f _ (by omega) (by omega)) (f _ (by omega) (by omega)), h2.2.1.2.2.same (o _ (by omega) (by omega) (by omega) (by omega)) (f _ (by omega) (by omega)) (f _ (by omega) (by omega))⟩,
    ⟨b1, b2⟩, h2.2.2.2.1.cg (o _ (by omega) (by omega) (by omega) (by omega)) (f _ (by omega) (by omega)), h2.2.2.2.2.cg (f _ (by omega) (by omega)) (f _ (by omega) (by omega)) (f _ (by omega) (by omega))⟩
theorem jj_undo {M M1 M2 : tk_M} {z : jS} {v1 v2 : Int} (hw : JW z) (h1 : JC M z) (h2 : JR M z) (c1 : (M 0 2 = 0 ∧ v1 = -3 ∧ M1 = M) ∨ (M 0 2 = 1 ∧ v1 = (z.2.2.1.1.1.length : Int) + z.2.2.1.1.2.1.length ∧ td_at M1 1 z.2.2.1.1 ∧ dd_at M1 [] ∧ ∀ c : Int, (c < 2 ∨ 20 ≤ c) → c ≠ 39 → M1 c = M c))
    (c2 : (M1 101 36 = 0 ∧ v2 = -3 ∧ M2 = M1) ∨ (M1 101 36 = 1 ∧ v2 = (z.2.2.1.1.1.length : Int) + z.2.2.1.1.2.1.length ∧ (rg_at M2 0 z.2.2.1.1.1 ∧ rg_at M2 1 z.2.2.1.1.2.1 ∧ rs_at M2 z.2.2.1.1.2.2.1 ∧ re_at M2 z.2.2.1.1.2.2.2.1 ∧ rb_at M2 z.2.2.1.1.2.2.2.2) ∧ M2 101 3 = 0 ∧ unf M1 M2)) : v1 = v2 ∧ JJ M2 := by
  have k1 := h1.2.2.1.2
  have k2 := h2.2.2.1.2
  rcases c1 with ⟨a1, a2, rfl⟩ | ⟨a1, a2, a3, a4, a5⟩
  · rcases c2 with ⟨b1, b2, rfl⟩ | ⟨b1, -⟩
    · exact ⟨a2.trans b2.symm, z, hw, h1, h2⟩
    · omega
  · have e36 : M1 101 36 = M 101 36 := by rw [a5 101 (by omega) (by omega)]
    rcases c2 with ⟨b1, -⟩ | ⟨b1, b2, ⟨g0, g1, r0, r1, r2⟩, b4, b5⟩
    · omega
    · have h2' := h2.up (M' := M1) (fun c hc => a5 c (by omega) (by omega))
      have f := b5.1
      have o := b5.2
      have hC : JC M1 ((z.2.2.1.1.1, z.2.2.1.1.2.1, []), z.2.2.1.1.2.2, z.2.2) := ⟨⟨a3.1, a3.2.1, a4⟩, ⟨a3.2.2.1, a3.2.2.2.1, a3.2.2.2.2⟩, ⟨h1.2.2.1.1.cg (fun c _ _ => a5 c (by omega) (by omega)), by rw [a5 0 (by omega) (by omega)]; exact k1⟩, h1.2.2.2.1.cg (a5 _ (by omega) (by omega)) (a5 _ (by omega) (by omega)), h1.2.2.2.2.cg (fun c _ _ => a5 c (by omega) (by omega))⟩
      exact ⟨a2.trans b2.symm, ((z.2.2.1.1.1, z.2.2.1.1.2.1, []), z.2.2.1.1.2.2, z.2.2), ⟨⟨hw.2.2.1.1.1, hw.2.2.1.1.2.1, fun q hq => by cases hq⟩, hw.2.2.1.1.2.2, hw.2.2⟩, hC.up (fun c hc => f c (by omega)),
        ⟨g0, g1, ⟨b4, by show (0 : Nat) ≤ 10; omega, fun j q hq => by simp at hq⟩⟩, ⟨r0, r1, r2⟩, ⟨h2'.2.2.1.1.same (o _ (by omega) (by omega) (by omega) (by omega)) (o _ (by omega) (by omega) (by omega) (by omega)) (o _ (by omega) (by omega) (by omega) (by omega)) (fun c _ _ => f c (by omega)), by rw [o 36 (by omega) (by omega) (by omega) (by omega)]; exact h2'.2.2.1.2⟩, h2'.2.2.2.1.cg (o _ (by omega) (by omega) (by omega) (by omega)) (f _ (by omega)), h2'.2.2.2.2.cg (f _ (by omega)) (f _ (by omega)) (f _ (by omega))⟩
theorem jj_count {M : tk_M} {z : jS} (h1 : JC M z) (h2 : JR M z) (w : Int) : x_count (M 8 4) (M 12 4) (M 16 4) (M 72 1) (M 39 3) w = x_count (M 101 22) (M 101 26) (M 101 29) (M 101 9) (M 101 3) w := by
  rw [h1.2.1.1.len.1, h1.2.1.2.1.len.1, h1.2.1.2.2.len.1, h2.2.1.1.len.1, h2.2.1.2.1.len.1, h2.2.1.2.2.len.1, h1.2.2.2.1.1, h2.2.2.2.1.1, h1.1.2.2.2.2.1, h2.1.2.2.1]
theorem x_jd_congr {f f' h : Int → Int} {n p : Int} (hf : ∀ q, 0 ≤ q → q < n → f q = f' q) : ∀ (d : Nat) (a : Int), x_jd f h n p d a = x_jd f' h n p d a := by
  intro d
  induction d with
  | zero => intro a; rfl
  | succ d ih =>
    intro a
    unfold x_jd
    by_cases hq : 0 ≤ p + a ∧ p + a < n
    · rw [if_neg (show ¬ ¬ (0 ≤ p + a ∧ p + a < n) from fun hh => hh hq), if_neg (show ¬ ¬ (0 ≤ p + a ∧ p + a < n) from fun hh => hh hq), hf _ hq.1 hq.2, ih]
    · rw [if_pos hq, if_pos hq]
