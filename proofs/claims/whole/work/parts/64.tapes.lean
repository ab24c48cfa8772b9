/-! ===== TAPES on both sides ===== -/
theorem JC.tapes {M M1 : tk_M} {z : jS} {p : jT} (h : JC M z) (hp : JCp M1 p) (hf : ∀ c : Int, c < 75 → M1 c = M c) (hg : ∀ c : Int, 86 < c → c < 101 → M1 c = M c) : JC M1 (z.1, z.2.1, z.2.2.1, z.2.2.2.1, p) :=
  ⟨h.1.cg (fun c hc => hf c (by omega)), ⟨h.2.1.1.cg (fun c _ _ => hf c (by omega)), h.2.1.2.1.cg (fun c _ _ => hf c (by omega)), h.2.1.2.2.cg (fun c _ _ => hf c (by omega))⟩, ⟨h.2.2.1.1.cg (fun c _ _ => hf c (by omega)), by rw [hf 0 (by omega)]; exact h.2.2.1.2⟩, h.2.2.2.1.cg (hf _ (by omega)) (hf _ (by omega)), hp⟩
theorem JR.tapes {M M1 : tk_M} {z : jS} {p : jT} (h : JR M z) (hp : JRp M1 p) (hf : ∀ c : Int, c ≠ 126 → c ≠ 127 → c ≠ 128 → c ≠ 129 → M1 c = M c) : JR M1 (z.1, z.2.1, z.2.2.1, z.2.2.2.1, p) :=
  have e := hf 101 (by omega) (by omega) (by omega) (by omega)
  ⟨⟨h.1.1.same (hf _ (by omega) (by omega) (by omega) (by omega)) (hf _ (by omega) (by omega) (by omega) (by omega)) (hf _ (by omega) (by omega) (by omega) (by omega)), h.1.2.1.same (hf _ (by omega) (by omega) (by omega) (by omega)) (hf _ (by omega) (by omega) (by omega) (by omega)) (hf _ (by omega) (by omega) (by omega) (by omega)), h.1.2.2.frame (by rw [e]) (fun c _ _ => hf c (by omega) (by omega) (by omega) (by omega))⟩, ⟨h.2.1.1.same (by rw [e]) (hf _ (by omega) (by omega) (by omega) (by omega)) (hf _ (by omega) (by omega) (by omega) (by omega)) (hf _ (by omega) (by omega) (by omega) (by omega)), h.2.1.2.1.same (by rw [e]) (hf _ (by omega) (by omega) (by omega) (by omega)) (hf _ (by omega) (by omega) (by omega) (by omega)), h.2.1.2.2.same (by rw [e]) (hf _ (by omega) (by omega) (by omega) (by omega)) (hf _ (by omega) (by omega) (by omega) (by omega))⟩, ⟨h.2.2.1.1.same (by rw [e]) (by rw [e]) (by rw [e]) (fun c _ _ => hf c (by omega) (by omega) (by omega) (by omega)), by rw [e]; exact h.2.2.1.2⟩, h.2.2.2.1.cg (by rw [e]) (hf _ (by omega) (by omega) (by omega) (by omega)), hp⟩
theorem jj_same {M M1 M2 : tk_M} {z : jS} {v1 v2 : Int} (hw : JW z) (h1 : JC M z) (h2 : JR M1 z) (e1 : M1 = M) (e2 : M2 = M1) (e : v1 = v2) : v1 = v2 ∧ JJ M2 := ⟨e, z, hw, by rw [e2, e1]; exact h1, by rw [e2]; exact h2⟩
abbrev cTape (M : tk_M) (t s n v : Int) (M' : tk_M) : Prop := (¬ (0 ≤ t ∧ t ≤ 5) ∧ v = -1 ∧ M' = M) ∨ ((0 ≤ t ∧ t ≤ 5) ∧ s ≠ -1 ∧ (¬ (0 ≤ s ∧ s ≤ 4) ∨ 60 < n) ∧ v = -2 ∧ M' = M) ∨ ((0 ≤ t ∧ t ≤ 5) ∧ (0 ≤ s ∧ s ≤ 4) ∧ n < 0 ∧ v = -14 ∧ M' = M) ∨ ((0 ≤ t ∧ t ≤ 5) ∧ v = 1 ∧ (s = -1 ∨ (0 ≤ s ∧ s ≤ 4) ∧ 0 ≤ n ∧ n ≤ 60) ∧ M' (75 + 2 * t) 1 = s ∧ M' (75 + 2 * t) 2 = (if s = -1 then 0 else n) ∧ (∀ i, 0 ≤ i → i < (if s = -1 then 0 else n) → M' (76 + 2 * t) i = 0) ∧ tk_fr M M' (75 + 2 * t) (77 + 2 * t))
abbrev rTape (M : tk_M) (t s n v : Int) (M' : tk_M) : Prop := (¬ (0 ≤ t ∧ t ≤ 5) ∧ v = -1 ∧ M' = M) ∨ ((0 ≤ t ∧ t ≤ 5) ∧ s ≠ -1 ∧ (¬ (0 ≤ s ∧ s ≤ 4) ∨ 60 < n) ∧ v = -2 ∧ M' = M) ∨ ((0 ≤ t ∧ t ≤ 5) ∧ (0 ≤ s ∧ s ≤ 4) ∧ n < 0 ∧ v = -14 ∧ M' = M) ∨ ((0 ≤ t ∧ t ≤ 5) ∧ v = 1 ∧ (s = -1 ∨ (0 ≤ s ∧ s ≤ 4) ∧ 0 ≤ n ∧ n ≤ 60) ∧ M' 126 t = s ∧ M' 127 t = (if s = -1 then 0 else n) ∧ (∀ i, 0 ≤ i → i < 60 → M' 128 (60 * t + i) = 0) ∧ (∀ c, c ≠ 126 → c ≠ 127 → c ≠ 128 → M' c = M c) ∧ (∀ j, j ≠ t → M' 126 j = M 126 j ∧ M' 127 j = M 127 j) ∧ (∀ p, (p < 60 * t ∨ 60 * t + 60 ≤ p) → M' 128 p = M 128 p))
theorem hi_tape {M M1 : tk_M} {t s n v : Int} (c1 : cTape M t s n v M1) : ∀ c : Int, 101 ≤ c → M1 c = M c := by
  intro c hc
  rcases c1 with A | A | A | A
  · rw [A.2.2]
  · rw [A.2.2.2.2]
  · rw [A.2.2.2.2]
  · exact A.2.2.2.2.2.2 c (by omega)
theorem jj_tape {M M1 M2 : tk_M} {z : jS} {t s n v1 v2 : Int} (hw : JW z) (h1 : JC M z) (h2 : JR M1 z) (c1 : cTape M t s n v1 M1) (c2 : rTape M1 t s n v2 M2) : v1 = v2 ∧ JJ M2 := by
  rcases c1 with A | A | A | A
  · rcases c2 with B | B | B | B
    · exact jj_same hw h1 h2 A.2.2 B.2.2 (A.2.1.trans B.2.1.symm)
    · omega
    · omega
    · exact absurd B.1 A.1
  · rcases c2 with B | B | B | B
    · omega
    · exact jj_same hw h1 h2 A.2.2.2.2 B.2.2.2.2 (A.2.2.2.1.trans B.2.2.2.1.symm)
    · omega
    · obtain ⟨-, a1, a2, -⟩ := A
      obtain ⟨-, -, b1, -⟩ := B
      omega
  · rcases c2 with B | B | B | B
    · omega
    · omega
    · exact jj_same hw h1 h2 A.2.2.2.2 B.2.2.2.2 (A.2.2.2.1.trans B.2.2.2.1.symm)
    · obtain ⟨-, a1, a2, -⟩ := A
      obtain ⟨-, -, b1, -⟩ := B
      omega
  · rcases c2 with B | B | B | B
    · exact absurd A.1 B.1
    · obtain ⟨-, a1, a2, -⟩ := B
      obtain ⟨-, -, b1, -⟩ := A
      omega
    · obtain ⟨-, a1, a2, -⟩ := B
      obtain ⟨-, -, b1, -⟩ := A
      omega
    · obtain ⟨ht, a1, a2, a3, a4, a5, a6⟩ := A
      obtain ⟨-, b1, -, b3, b4, b5, b6, b7, b8⟩ := B
      have g1 := h1.2.2.2.2
      have g2 := h2.2.2.2.2
      have gt := hw.2.2.2.2
      have hL : 0 ≤ (if s = -1 then 0 else n) ∧ (if s = -1 then 0 else n) ≤ 60 ∧ (s = -1 → (if s = -1 then 0 else n) = 0) := by
        by_cases hs : s = -1
        · rw [if_pos hs]; omega
        · rw [if_neg hs]; omega
      generalize hLe : (if s = -1 then 0 else n) = L at *
      refine ⟨a1.trans b1.symm, (z.1, z.2.1, z.2.2.1, z.2.2.2.1, (fun j => if j = t then s else z.2.2.2.2.1 j, fun j => if j = t then L else z.2.2.2.2.2.1 j, fun j i => if j = t then 0 else z.2.2.2.2.2.2 j i)), ⟨hw.1, hw.2.1, hw.2.2.1, hw.2.2.2.1, fun j j0 j1 => ?_⟩, ?_, ?_⟩
      · show (-1 ≤ (if j = t then s else z.2.2.2.2.1 j) ∧ (if j = t then s else z.2.2.2.2.1 j) ≤ 4) ∧ (0 ≤ (if j = t then L else z.2.2.2.2.2.1 j) ∧ (if j = t then L else z.2.2.2.2.2.1 j) ≤ 60) ∧ ((if j = t then s else z.2.2.2.2.1 j) = -1 → (if j = t then L else z.2.2.2.2.2.1 j) = 0)
        by_cases hj : j = t
        · rw [if_pos hj, if_pos hj]; omega
        · rw [if_neg hj, if_neg hj]; exact gt j j0 j1
      · refine JC.up (M := M1) (h1.tapes (fun j j0 j1 => ?_) (fun c hc => a6 c (by omega)) (fun c hc _ => a6 c (by omega))) (fun c hc => b6 c (by omega) (by omega) (by omega))
        show (M1 (75 + 2 * j) 1 = (if j = t then s else z.2.2.2.2.1 j) ∧ M1 (75 + 2 * j) 2 = (if j = t then L else z.2.2.2.2.2.1 j)) ∧ ∀ i, 0 ≤ i → i < (if j = t then L else z.2.2.2.2.2.1 j) → M1 (76 + 2 * j) i = (if j = t then 0 else z.2.2.2.2.2.2 j i)
        by_cases hj : j = t
        · rw [if_pos hj, if_pos hj, hj]
          refine ⟨⟨a3, a4⟩, fun i i0 i1 => ?_⟩
          rw [if_pos rfl]; exact a5 i i0 i1
        · rw [if_neg hj, if_neg hj, a6 (75 + 2 * j) (by omega), a6 (76 + 2 * j) (by omega)]
          refine ⟨(g1 j j0 j1).1, fun i i0 i1 => ?_⟩
          rw [if_neg hj]; exact (g1 j j0 j1).2 i i0 i1
      · refine h2.tapes (fun j j0 j1 => ?_) (fun c c1 c2 c3 _ => b6 c c1 c2 c3)
        show (M2 126 j = (if j = t then s else z.2.2.2.2.1 j) ∧ M2 127 j = (if j = t then L else z.2.2.2.2.2.1 j)) ∧ ∀ i, 0 ≤ i → i < (if j = t then L else z.2.2.2.2.2.1 j) → M2 128 (60 * j + i) = (if j = t then 0 else z.2.2.2.2.2.2 j i)
        by_cases hj : j = t
        · rw [if_pos hj, if_pos hj, hj]
          refine ⟨⟨b3, b4⟩, fun i i0 i1 => ?_⟩
          rw [if_pos rfl]; exact b5 i i0 (by omega)
        · rw [if_neg hj, if_neg hj, (b7 j hj).1, (b7 j hj).2]
          refine ⟨(g2 j j0 j1).1, fun i i0 i1 => ?_⟩
          have := (gt j j0 j1).2.1
          rw [if_neg hj, b8 (60 * j + i) (by omega)]; exact (g2 j j0 j1).2 i i0 i1
abbrev cItem (M : tk_M) (t i x v : Int) (M' : tk_M) : Prop := (¬ (0 ≤ t ∧ t ≤ 5) ∧ v = -1 ∧ M' = M) ∨ ((0 ≤ t ∧ t ≤ 5) ∧ M (75 + 2 * t) 1 = -1 ∧ v = -11 ∧ M' = M) ∨ ((0 ≤ t ∧ t ≤ 5) ∧ M (75 + 2 * t) 1 ≠ -1 ∧ ¬ (0 ≤ i ∧ i < M (75 + 2 * t) 2) ∧ v = -13 ∧ M' = M) ∨ ((0 ≤ t ∧ t ≤ 5) ∧ M (75 + 2 * t) 1 ≠ -1 ∧ (0 ≤ i ∧ i < M (75 + 2 * t) 2) ∧ v = 1 ∧ M' = tk_mu M (76 + 2 * t) i (tp_nar (M (75 + 2 * t) 1) x))
abbrev rItem (M : tk_M) (t i x v : Int) (M' : tk_M) : Prop := (¬ (0 ≤ t ∧ t ≤ 5) ∧ v = -1 ∧ M' = M) ∨ ((0 ≤ t ∧ t ≤ 5) ∧ M 126 t = -1 ∧ v = -11 ∧ M' = M) ∨ ((0 ≤ t ∧ t ≤ 5) ∧ M 126 t ≠ -1 ∧ ¬ (0 ≤ i ∧ i < M 127 t) ∧ v = -13 ∧ M' = M) ∨ ((0 ≤ t ∧ t ≤ 5) ∧ M 126 t ≠ -1 ∧ (0 ≤ i ∧ i < M 127 t) ∧ v = 1 ∧ M' = tk_mu M 128 (60 * t + i) (tp_nar (M 126 t) x))
theorem hi_item {M M1 : tk_M} {t i x v : Int} (c1 : cItem M t i x v M1) : ∀ c : Int, 101 ≤ c → M1 c = M c := by
  intro c hc
  rcases c1 with A | A | A | A
  · rw [A.2.2]
  · rw [A.2.2.2]
  · rw [A.2.2.2.2]
  · rw [A.2.2.2.2, tk_mu_c (by omega)]
theorem jj_item {M M1 M2 : tk_M} {z : jS} {t i x v1 v2 : Int} (hw : JW z) (h1 : JC M z) (h2 : JR M1 z) (c1 : cItem M t i x v1 M1) (c2 : rItem M1 t i x v2 M2) : v1 = v2 ∧ JJ M2 := by
  by_cases ht : 0 ≤ t ∧ t ≤ 5
  · have g1 := h1.2.2.2.2
    have g2 := h2.2.2.2.2
    have gt := hw.2.2.2.2
    obtain ⟨⟨q1, q2⟩, q3⟩ := g1 t (by omega) (by omega)
    obtain ⟨⟨w1, w2⟩, w3⟩ := g2 t (by omega) (by omega)
    unfold cItem at c1
    unfold rItem at c2
    rw [q1, q2] at c1
    rw [w1, w2] at c2
    rcases c1 with A | A | A | A
    · exact absurd ht A.1
    · rcases c2 with B | B | B | B
      · exact absurd ht B.1
      · exact jj_same hw h1 h2 A.2.2.2 B.2.2.2 (A.2.2.1.trans B.2.2.1.symm)
      · exact absurd A.2.1 B.2.1
      · exact absurd A.2.1 B.2.1
    · rcases c2 with B | B | B | B
      · exact absurd ht B.1
      · exact absurd B.2.1 A.2.1
      · exact jj_same hw h1 h2 A.2.2.2.2 B.2.2.2.2 (A.2.2.2.1.trans B.2.2.2.1.symm)
      · exact absurd B.2.2.1 A.2.2.1
    · rcases c2 with B | B | B | B
      · exact absurd ht B.1
      · exact absurd B.2.1 A.2.1
      · exact absurd A.2.2.1 B.2.2.1
      · obtain ⟨-, -, a2, a3, a4⟩ := A
        obtain ⟨-, -, -, b3, b4⟩ := B
        refine ⟨a3.trans b3.symm, (z.1, z.2.1, z.2.2.1, z.2.2.2.1, (z.2.2.2.2.1, z.2.2.2.2.2.1, fun j q => if j = t ∧ q = i then tp_nar (z.2.2.2.2.1 t) x else z.2.2.2.2.2.2 j q)), ⟨hw.1, hw.2.1, hw.2.2.1, hw.2.2.2.1, gt⟩, ?_, ?_⟩
        · refine JC.up (M := M1) (h1.tapes (fun j j0 j1 => ?_) (fun c hc => by rw [a4, tk_mu_c (by omega)]) (fun c hc _ => by rw [a4, tk_mu_c (by omega)])) (fun c hc => by rw [b4, tk_mu_c (by omega)])
          show (M1 (75 + 2 * j) 1 = z.2.2.2.2.1 j ∧ M1 (75 + 2 * j) 2 = z.2.2.2.2.2.1 j) ∧ ∀ q, 0 ≤ q → q < z.2.2.2.2.2.1 j → M1 (76 + 2 * j) q = (if j = t ∧ q = i then tp_nar (z.2.2.2.2.1 t) x else z.2.2.2.2.2.2 j q)
          rw [a4, tk_mu_c (by omega)]
          refine ⟨(g1 j j0 j1).1, fun q q0 q1 => ?_⟩
          by_cases hj : j = t ∧ q = i
          · rw [if_pos hj, hj.1, hj.2, tk_mu_at]
          · rw [if_neg hj]
            refine Eq.trans ?_ ((g1 j j0 j1).2 q q0 q1)
            by_cases h3 : j = t
            · rw [h3, tk_mu_i (fun h4 => hj ⟨h3, h4⟩)]
            · rw [tk_mu_c (by omega)]
        · refine h2.tapes (fun j j0 j1 => ?_) (fun c c1 c2 c3 _ => by rw [b4, tk_mu_c c3])
          show (M2 126 j = z.2.2.2.2.1 j ∧ M2 127 j = z.2.2.2.2.2.1 j) ∧ ∀ q, 0 ≤ q → q < z.2.2.2.2.2.1 j → M2 128 (60 * j + q) = (if j = t ∧ q = i then tp_nar (z.2.2.2.2.1 t) x else z.2.2.2.2.2.2 j q)
          rw [b4, tk_mu_c (by omega), tk_mu_c (by omega)]
          refine ⟨(g2 j j0 j1).1, fun q q0 q1 => ?_⟩
          by_cases hj : j = t ∧ q = i
          · rw [if_pos hj, hj.1, hj.2, tk_mu_at]
          · rw [if_neg hj]
            refine Eq.trans ?_ ((g2 j j0 j1).2 q q0 q1)
            have l1 := (gt j j0 j1).2.1
            have l2 := (gt t ht.1 (by omega)).2.1
            have : 60 * j + q ≠ 60 * t + i := fun h4 => hj (by omega)
            rw [tk_mu_i this]
  · rcases c1 with A | A | A | A
    · rcases c2 with B | B | B | B
      · exact jj_same hw h1 h2 A.2.2 B.2.2 (A.2.1.trans B.2.1.symm)
      · exact absurd B.1 ht
      · exact absurd B.1 ht
      · exact absurd B.1 ht
    · exact absurd A.1 ht
    · exact absurd A.1 ht
    · exact absurd A.1 ht
abbrev cShift (M : tk_M) (t i u j n v : Int) (M' : tk_M) : Prop := (¬ ((0 ≤ t ∧ t ≤ 5) ∧ (0 ≤ u ∧ u ≤ 5)) ∧ v = -1 ∧ M' = M) ∨ (((0 ≤ t ∧ t ≤ 5) ∧ (0 ≤ u ∧ u ≤ 5)) ∧ (M (75 + 2 * t) 1 = -1 ∨ M (75 + 2 * u) 1 = -1) ∧ v = -11 ∧ M' = M) ∨ (((0 ≤ t ∧ t ≤ 5) ∧ (0 ≤ u ∧ u ≤ 5)) ∧ (M (75 + 2 * t) 1 ≠ -1 ∧ M (75 + 2 * u) 1 ≠ -1) ∧ M (75 + 2 * t) 1 ≠ M (75 + 2 * u) 1 ∧ v = -12 ∧ M' = M) ∨ (((0 ≤ t ∧ t ≤ 5) ∧ (0 ≤ u ∧ u ≤ 5)) ∧ (M (75 + 2 * t) 1 ≠ -1 ∧ M (75 + 2 * u) 1 = M (75 + 2 * t) 1) ∧ ¬ (0 ≤ n ∧ (0 ≤ i ∧ i + n ≤ M (75 + 2 * t) 2) ∧ (0 ≤ j ∧ j + n ≤ M (75 + 2 * u) 2)) ∧ v = -13 ∧ M' = M) ∨ (((0 ≤ t ∧ t ≤ 5) ∧ (0 ≤ u ∧ u ≤ 5)) ∧ (M (75 + 2 * t) 1 ≠ -1 ∧ M (75 + 2 * u) 1 = M (75 + 2 * t) 1) ∧ (0 ≤ n ∧ (0 ≤ i ∧ i + n ≤ M (75 + 2 * t) 2) ∧ (0 ≤ j ∧ j + n ≤ M (75 + 2 * u) 2)) ∧ v = n ∧ M' = tk_cp M (76 + 2 * t) i (76 + 2 * u) j n)
abbrev rShift (M : tk_M) (t i u j n v : Int) (M' : tk_M) : Prop := (¬ ((0 ≤ t ∧ t ≤ 5) ∧ (0 ≤ u ∧ u ≤ 5)) ∧ v = -1 ∧ M' = M) ∨ (((0 ≤ t ∧ t ≤ 5) ∧ (0 ≤ u ∧ u ≤ 5)) ∧ (M 126 t = -1 ∨ M 126 u = -1) ∧ v = -11 ∧ M' = M) ∨ (((0 ≤ t ∧ t ≤ 5) ∧ (0 ≤ u ∧ u ≤ 5)) ∧ (M 126 t ≠ -1 ∧ M 126 u ≠ -1) ∧ M 126 t ≠ M 126 u ∧ v = -12 ∧ M' = M) ∨ (((0 ≤ t ∧ t ≤ 5) ∧ (0 ≤ u ∧ u ≤ 5)) ∧ (M 126 t ≠ -1 ∧ M 126 u = M 126 t) ∧ ¬ (0 ≤ n ∧ (0 ≤ i ∧ i + n ≤ M 127 t) ∧ (0 ≤ j ∧ j + n ≤ M 127 u)) ∧ v = -13 ∧ M' = M) ∨ (((0 ≤ t ∧ t ≤ 5) ∧ (0 ≤ u ∧ u ≤ 5)) ∧ (M 126 t ≠ -1 ∧ M 126 u = M 126 t) ∧ (0 ≤ n ∧ (0 ≤ i ∧ i + n ≤ M 127 t) ∧ (0 ≤ j ∧ j + n ≤ M 127 u)) ∧ v = n ∧ (∀ c, c ≠ 128 → c ≠ 129 → M' c = M c) ∧ ∀ p, M' 128 p = (if 60 * u + j ≤ p ∧ p < 60 * u + j + n then M 128 (60 * t + i + (p - (60 * u + j))) else M 128 p))
theorem tk_cp_c {M : tk_M} {a sp b dp z c : Int} (h : c ≠ b) : tk_cp M a sp b dp z c = M c := by
  funext i
  unfold tk_cp
  rw [if_neg (fun hh => h hh.1)]
theorem hi_shift {M M1 : tk_M} {t i u j n v : Int} (c1 : cShift M t i u j n v M1) : ∀ c : Int, 101 ≤ c → M1 c = M c := by
  intro c hc
  rcases c1 with A | A | A | A | A
  · rw [A.2.2]
  · rw [A.2.2.2]
  · rw [A.2.2.2.2]
  · rw [A.2.2.2.2]
  · rw [A.2.2.2.2, tk_cp_c (by omega)]
theorem jj_shift {M M1 M2 : tk_M} {z : jS} {t i u j n v1 v2 : Int} (hw : JW z) (h1 : JC M z) (h2 : JR M1 z) (c1 : cShift M t i u j n v1 M1) (c2 : rShift M1 t i u j n v2 M2) : v1 = v2 ∧ JJ M2 := by
  by_cases ht : (0 ≤ t ∧ t ≤ 5) ∧ (0 ≤ u ∧ u ≤ 5)
  · have g1 := h1.2.2.2.2
    have g2 := h2.2.2.2.2
    have gt := hw.2.2.2.2
    obtain ⟨⟨q1, q2⟩, q3⟩ := g1 t (by omega) (by omega)
    obtain ⟨⟨w1, w2⟩, w3⟩ := g2 t (by omega) (by omega)
    obtain ⟨⟨y1, y2⟩, y3⟩ := g1 u (by omega) (by omega)
    obtain ⟨⟨x1, x2⟩, x3⟩ := g2 u (by omega) (by omega)
    have l1 := (gt t ht.1.1 (by omega)).2.1
    have l2 := (gt u ht.2.1 (by omega)).2.1
    unfold cShift at c1
    unfold rShift at c2
    rw [q1, q2, y1, y2] at c1
    rw [w1, w2, x1, x2] at c2
    rcases c1 with A | A | A | A | A
    · exact absurd ht A.1
    · rcases c2 with B | B | B | B | B
      · exact absurd ht B.1
      · exact jj_same hw h1 h2 A.2.2.2 B.2.2.2 (A.2.2.1.trans B.2.2.1.symm)
      · obtain ⟨-, a, -⟩ := A; obtain ⟨-, b, -⟩ := B; omega
      · obtain ⟨-, a, -⟩ := A; obtain ⟨-, b, -⟩ := B; omega
      · obtain ⟨-, a, -⟩ := A; obtain ⟨-, b, -⟩ := B; omega
    · rcases c2 with B | B | B | B | B
      · exact absurd ht B.1
      · obtain ⟨-, a, -⟩ := A; obtain ⟨-, b, -⟩ := B; omega
      · exact jj_same hw h1 h2 A.2.2.2.2 B.2.2.2.2 (A.2.2.2.1.trans B.2.2.2.1.symm)
      · obtain ⟨-, a, a', -⟩ := A; obtain ⟨-, b, -⟩ := B; omega
      · obtain ⟨-, a, a', -⟩ := A; obtain ⟨-, b, -⟩ := B; omega
    · rcases c2 with B | B | B | B | B
      · exact absurd ht B.1
      · obtain ⟨-, a, -⟩ := A; obtain ⟨-, b, -⟩ := B; omega
      · obtain ⟨-, a, -⟩ := A; obtain ⟨-, b, b', -⟩ := B; omega
      · exact jj_same hw h1 h2 A.2.2.2.2 B.2.2.2.2 (A.2.2.2.1.trans B.2.2.2.1.symm)
      · exact absurd B.2.2.1 A.2.2.1
    · rcases c2 with B | B | B | B | B
      · exact absurd ht B.1
      · obtain ⟨-, a, -⟩ := A; obtain ⟨-, b, -⟩ := B; omega
      · obtain ⟨-, a, -⟩ := A; obtain ⟨-, b, b', -⟩ := B; omega
      · exact absurd A.2.2.1 B.2.2.1
      · obtain ⟨-, -, a2, a3, a4⟩ := A
        obtain ⟨-, -, -, b3, b4, b5⟩ := B
        refine ⟨a3.trans b3.symm, (z.1, z.2.1, z.2.2.1, z.2.2.2.1, (z.2.2.2.2.1, z.2.2.2.2.2.1, fun k q => if k = u ∧ (j ≤ q ∧ q < j + n) then z.2.2.2.2.2.2 t (i + (q - j)) else z.2.2.2.2.2.2 k q)), ⟨hw.1, hw.2.1, hw.2.2.1, hw.2.2.2.1, gt⟩, ?_, ?_⟩
        · refine JC.up (M := M1) (h1.tapes (fun k k0 k1 => ?_) (fun c hc => by rw [a4, tk_cp_c (by omega)]) (fun c hc _ => by rw [a4, tk_cp_c (by omega)])) (fun c hc => b4 c (by omega) (by omega))
          show (M1 (75 + 2 * k) 1 = z.2.2.2.2.1 k ∧ M1 (75 + 2 * k) 2 = z.2.2.2.2.2.1 k) ∧ ∀ q, 0 ≤ q → q < z.2.2.2.2.2.1 k → M1 (76 + 2 * k) q = (if k = u ∧ (j ≤ q ∧ q < j + n) then z.2.2.2.2.2.2 t (i + (q - j)) else z.2.2.2.2.2.2 k q)
          rw [a4, tk_cp_c (by omega)]
          refine ⟨(g1 k k0 k1).1, fun q q0 q4 => ?_⟩
          unfold tk_cp
          by_cases hj : k = u ∧ (j ≤ q ∧ q < j + n)
          · rw [if_pos hj, if_pos ⟨by omega, hj.2⟩]; exact q3 _ (by omega) (by omega)
          · rw [if_neg hj, if_neg (fun hh => hj ⟨by omega, hh.2⟩)]; exact (g1 k k0 k1).2 q q0 q4
        · refine h2.tapes (fun k k0 k1 => ?_) (fun c c1 c2 c3 c4 => b4 c c3 c4)
          show (M2 126 k = z.2.2.2.2.1 k ∧ M2 127 k = z.2.2.2.2.2.1 k) ∧ ∀ q, 0 ≤ q → q < z.2.2.2.2.2.1 k → M2 128 (60 * k + q) = (if k = u ∧ (j ≤ q ∧ q < j + n) then z.2.2.2.2.2.2 t (i + (q - j)) else z.2.2.2.2.2.2 k q)
          rw [b4 126 (by omega) (by omega), b4 127 (by omega) (by omega)]
          refine ⟨(g2 k k0 k1).1, fun q q0 q4 => ?_⟩
          rw [b5]
          have l3 := (gt k k0 k1).2.1
          by_cases hj : k = u ∧ (j ≤ q ∧ q < j + n)
          · rw [if_pos hj, if_pos (by omega), show 60 * t + i + (60 * k + q - (60 * u + j)) = 60 * t + (i + (q - j)) by omega]; exact w3 _ (by omega) (by omega)
          · rw [if_neg hj, if_neg (fun hh => hj (by omega))]; exact (g2 k k0 k1).2 q q0 q4
  · rcases c1 with A | A | A | A | A
    · rcases c2 with B | B | B | B | B
      · exact jj_same hw h1 h2 A.2.2 B.2.2 (A.2.1.trans B.2.1.symm)
      · exact absurd B.1 ht
      · exact absurd B.1 ht
      · exact absurd B.1 ht
      · exact absurd B.1 ht
    · exact absurd A.1 ht
    · exact absurd A.1 ht
    · exact absurd A.1 ht
    · exact absurd A.1 ht
theorem jj_peek {M : tk_M} {z : jS} {t i : Int} (h1 : JC M z) (h2 : JR M z) : (if (0 ≤ t ∧ t ≤ 5) ∧ (0 ≤ i ∧ i < M (75 + 2 * t) 2) then M (76 + 2 * t) i else NOl) = (if (0 ≤ t ∧ t ≤ 5) ∧ (0 ≤ i ∧ i < M 127 t) then M 128 (60 * t + i) else NOl) := by
  by_cases ht : 0 ≤ t ∧ t ≤ 5
  · obtain ⟨⟨q1, q2⟩, q3⟩ := h1.2.2.2.2 t (by omega) (by omega)
    obtain ⟨⟨w1, w2⟩, w3⟩ := h2.2.2.2.2 t (by omega) (by omega)
    rw [q2, w2]
    by_cases hi : 0 ≤ i ∧ i < z.2.2.2.2.2.1 t
    · rw [if_pos ⟨ht, hi⟩, if_pos ⟨ht, hi⟩, q3 i hi.1 hi.2, w3 i hi.1 hi.2]
    · rw [if_neg (fun hh => hi hh.2), if_neg (fun hh => hi hh.2)]
  · rw [if_neg (fun hh => ht hh.1), if_neg (fun hh => ht hh.1)]
theorem jj_judge {M : tk_M} {z : jS} {i t p : Int} (h1 : JC M z) (h2 : JR M z) (h : Int → Int) : (if ¬ ((0 ≤ i ∧ i ≤ 1) ∧ (0 ≤ t ∧ t ≤ 5)) then -1 else if 0 < M (75 + 2 * t) 1 then -12 else x_jd (M (76 + 2 * t)) h (M (75 + 2 * t) 2) p 10 0) = (if ¬ ((0 ≤ i ∧ i ≤ 1) ∧ (0 ≤ t ∧ t ≤ 5)) then -1 else if 0 < M 126 t then -12 else x_jd (fun q => M 128 (60 * t + q)) h (M 127 t) p 10 0) := by
  by_cases ht : (0 ≤ i ∧ i ≤ 1) ∧ (0 ≤ t ∧ t ≤ 5)
  · obtain ⟨⟨q1, q2⟩, q3⟩ := h1.2.2.2.2 t (by omega) (by omega)
    obtain ⟨⟨w1, w2⟩, w3⟩ := h2.2.2.2.2 t (by omega) (by omega)
    rw [if_neg (show ¬ ¬ ((0 ≤ i ∧ i ≤ 1) ∧ (0 ≤ t ∧ t ≤ 5)) from fun hh => hh ht), if_neg (show ¬ ¬ ((0 ≤ i ∧ i ≤ 1) ∧ (0 ≤ t ∧ t ≤ 5)) from fun hh => hh ht), q1, q2, w1, w2]
    by_cases h0 : 0 < z.2.2.2.2.1 t
    · rw [if_pos h0, if_pos h0]
    · rw [if_neg h0, if_neg h0]
      exact x_jd_congr (fun q q0 q4 => by rw [q3 q q0 q4]; exact (w3 q q0 q4).symm) 10 0
  · rw [if_pos ht, if_pos ht]
