/-- DEEDS of the reference, the latest first -/
def rq_at (M : tk_M) (n : Int) (g : List (Int × Int)) : Prop := ig_seg (fun k => M 107 (6 * n + k)) (fun k => M 108 (6 * n + k)) (M 106 n) 0 g ∧ M 106 n ≤ 6
def rd_at (M : tk_M) (D : List (Int × List (Int × Int))) : Prop := M 101 3 = D.length ∧ D.length ≤ 10 ∧ ∀ (j : Nat) (q : Int × List (Int × Int)), D[j]? = some q → (M 105 (M 101 3 - 1 - j) = q.1 ∧ (q.1 = 0 ∨ q.1 = 1)) ∧ rq_at M (M 101 3 - 1 - j) q.2
def rdf (M M' : tk_M) : Prop := (∀ c : Int, c ≠ 101 → (c < 105 ∨ 108 < c) → M' c = M c) ∧ ∀ j : Int, j ≠ 3 → M' 101 j = M 101 j
theorem rdf.trans {M M1 M2 : tk_M} (h1 : rdf M M1) (h2 : rdf M1 M2) : rdf M M2 := ⟨fun c a b => (h2.1 c a b).trans (h1.1 c a b), fun j hj => (h2.2 j hj).trans (h1.2 j hj)⟩
theorem rq_at.congr {M M' : tk_M} {n n' : Int} {g : List (Int × Int)} (h : rq_at M n g) (h0 : M' 106 n' = M 106 n) (h1 : ∀ k, 0 ≤ k → k < 6 → M' 107 (6 * n' + k) = M 107 (6 * n + k) ∧ M' 108 (6 * n' + k) = M 108 (6 * n + k)) : rq_at M' n' g := by
  have h6 := h.2
  unfold rq_at
  rw [h0]
  exact ⟨ig_seg_congr g 0 (fun k k0 k1 => h1 k k0 (by omega)) h.1, h6⟩
theorem rd_at.frame {M M' : tk_M} {D : List (Int × List (Int × Int))} (h : rd_at M D) (h0 : M' 101 3 = M 101 3) (hf : ∀ c : Int, 105 ≤ c → c ≤ 108 → M' c = M c) : rd_at M' D := by
  obtain ⟨h1, h2, h3⟩ := h
  unfold rd_at
  rw [h0, hf 105 (by omega) (by omega)]
  refine ⟨h1, h2, fun j q hq => ?_⟩
  obtain ⟨a1, a2⟩ := h3 j q hq
  exact ⟨a1, a2.congr (by rw [hf 106 (by omega) (by omega)]) (fun k _ _ => by rw [hf 107 (by omega) (by omega), hf 108 (by omega) (by omega)]; exact ⟨rfl, rfl⟩)⟩
theorem rd_push {M M' : tk_M} {n i : Int} {g : List (Int × Int)} {D : List (Int × List (Int × Int))} (h : rd_at M D) (hn : M 101 3 = n) (h9 : D.length ≤ 9) (hi : i = 0 ∨ i = 1) (h0 : M' 101 3 = n + 1) (h5 : M' 105 n = i) (hq : rq_at M' n g) (f5 : ∀ c, c ≠ n → M' 105 c = M 105 c ∧ M' 106 c = M 106 c) (f7 : ∀ p, p < 6 * n → M' 107 p = M 107 p ∧ M' 108 p = M 108 p) : rd_at M' ((i, g) :: D) := by
  obtain ⟨d1, d2, d3⟩ := h
  refine ⟨by rw [h0, List.length_cons]; omega, by rw [List.length_cons]; omega, fun j q hjq => ?_⟩
  match j, hjq with
  | 0, hjq =>
    cases hjq
    rw [h0, show n + 1 - 1 - ((0 : Nat) : Int) = n by omega]
    exact ⟨⟨h5, hi⟩, hq⟩
  | j + 1, hjq =>
    have hjq2 : D[j]? = some q := hjq
    have hj : j < D.length := (List.getElem?_eq_some_iff.mp hjq2).1
    obtain ⟨⟨a1, a2⟩, a3⟩ := d3 j q hjq2
    have e : n + 1 - 1 - ((j + 1 : Nat) : Int) = M 101 3 - 1 - (j : Int) := by omega
    rw [h0, e, (f5 _ (by omega)).1]
    exact ⟨⟨a1, a2⟩, a3.congr (f5 _ (by omega)).2 (fun k k0 k1 => f7 _ (by omega))⟩
theorem sp_X10_deed {G : tk_G} {M : tk_M} {i : Int} {g : List (Int × Int)} {D : List (Int × List (Int × Int))} (hi : i = 0 ∨ i = 1) (hg : rg_at M i g) (hD : rd_at M D) : Spv G FX10_deed [xR 101, xI i] SF M (fun M' => rd_at M' (((i, g) :: D).take 10) ∧ rdf M M') := by
  refine Spv.of _ mtX10_deed nlX10_deed (Nat.le_of_ble_eq_true rfl) ?_
  show Ok G FX10_deed 0 [xR 101, xI i, xU] [] SF M 0 0 _
  have partB : ∀ (M1 : tk_M) (D1 : List (Int × List (Int × Int))) (v2 : tk_V), ((i, g) :: D).take 10 = (i, g) :: D1 → D1.length ≤ 9 → rd_at M1 D1 → rdf M M1 → Ok G FX10_deed 106 [xR 101, xI i, v2] [] SF M1 0 0 (tk_qv SF (fun M' => rd_at M' (((i, g) :: D).take 10) ∧ rdf M M')) := by
    intro M1 D1 v2 hcut h9 hD1 hf1
    rw [hcut]
    obtain ⟨n, hn⟩ : ∃ n, M1 101 3 = n := ⟨_, rfl⟩
    have hnr : 0 ≤ n ∧ n ≤ 9 := by have := hD1.1; omega
    have g1 : rg_at M1 i g := hg.congr (by rw [hf1.1 102 (by omega) (by omega)]) (fun k _ _ => by rw [hf1.1 103 (by omega) (by omega), hf1.1 104 (by omega) (by omega)]; exact ⟨rfl, rfl⟩)
    have loop : ∀ (d : Nat) (x : Int) (M2 : tk_M), x + d = 6 → 0 ≤ x → (∀ c, c < 105 ∨ 108 < c → M2 c = M1 c) → M2 105 n = i → M2 106 n = M1 102 i → (∀ c, c ≠ n → M2 105 c = M1 105 c ∧ M2 106 c = M1 106 c) → (∀ p, p < 6 * n → M2 107 p = M1 107 p ∧ M2 108 p = M1 108 p) → (∀ k, 0 ≤ k → k < x → M2 107 (6 * n + k) = M1 103 (6 * i + k) ∧ M2 108 (6 * n + k) = M1 104 (6 * i + k)) → Ok G FX10_deed 133 [xR 101, xI i, xI x] [] SF M2 0 0 (tk_qv SF (fun M' => rd_at M' ((i, g) :: D1) ∧ rdf M M')) := by
      intro d
      induction d with
      | zero =>
        intro x M2 hd hx a1 a2 a3 a4 a5 a6
        have hn2 : M2 101 3 = n := by rw [a1 101 (by omega)]; exact hn
        refine tr_iload_n (pc := 133) dX10_deed_133 rfl ?_
        refine tr_bipush (pc := 134) dX10_deed_134 ⟨by decide, ⟨by decide, by decide⟩⟩ ?_
        refine tr_icmpge (pc := 136) (tgt := 185) dX10_deed_136 (by decide) (fun c136 => ?_) (fun c136 => absurd c136 (by omega))
        refine tr_aload_n (pc := 185) dX10_deed_185 rfl (by decide) ?_
        refine tr_dup (pc := 186) dX10_deed_186 (fun h => by cases h) ?_
        refine tr_getv (pc := 187) (ji := 3) (x := n) dX10_deed_187 fi10_132 rfl sg101 rfl (hn2) ?_
        refine tr_iconst (pc := 190) dX10_deed_190 ⟨by decide, by decide⟩ ?_
        refine tr_iadd (pc := 191) dX10_deed_191 ⟨by omega, by omega⟩ ?_
        refine tr_puti (pc := 192) (ji := 3) dX10_deed_192 fi10_132 rfl (Or.inl rfl) (Or.inl rfl) sg101 rfl ?_
        refine tr_vret (pc := 195) dX10_deed_195 rfl ?_
        refine ⟨rd_push (n := n) hD1 hn h9 hi ?_ ?_ ?_ ?_ ?_, hf1.trans ⟨fun c b1 b2 => ?_, fun j hj => ?_⟩⟩
        · rw [tk_mu_at]
        · rw [tk_mu_c (by omega)]; exact a2
        · refine ⟨?_, ?_⟩
          · rw [tk_mu_c (by omega), tk_mu_c (by omega), tk_mu_c (by omega), a3]
            exact ig_seg_congr g 0 (fun k k0 k1 => a6 k k0 (by have := g1.2; omega)) g1.1
          · rw [tk_mu_c (by omega), a3]; exact g1.2
        · intro c hc
          rw [tk_mu_c (by omega), tk_mu_c (by omega)]; exact a4 c hc
        · intro p hp
          rw [tk_mu_c (by omega), tk_mu_c (by omega)]; exact a5 p hp
        · rw [tk_mu_c b1]; exact a1 c (by omega)
        · rw [tk_mu_i hj, a1 101 (by omega)]
      | succ d ih =>
        intro x M2 hd hx a1 a2 a3 a4 a5 a6
        have hn2 : M2 101 3 = n := by rw [a1 101 (by omega)]; exact hn
        refine tr_iload_n (pc := 133) dX10_deed_133 rfl ?_
        refine tr_bipush (pc := 134) dX10_deed_134 ⟨by decide, ⟨by decide, by decide⟩⟩ ?_
        refine tr_icmpge (pc := 136) (tgt := 185) dX10_deed_136 (by decide) (fun c136 => absurd c136 (by omega)) (fun c136 => ?_)
        refine tr_aload_n (pc := 139) dX10_deed_139 rfl (by decide) ?_
        refine tr_getr (pc := 140) (x := 107) dX10_deed_140 fi10_27 rfl sg101 rfl ?_
        refine tr_bipush (pc := 143) dX10_deed_143 ⟨by decide, ⟨by decide, by decide⟩⟩ ?_
        refine tr_aload_n (pc := 145) dX10_deed_145 rfl (by decide) ?_
        refine tr_getv (pc := 146) (ji := 3) (x := n) dX10_deed_146 fi10_132 rfl sg101 rfl (hn2) ?_
        refine tr_imul (pc := 149) dX10_deed_149 ⟨by omega, by omega⟩ ?_
        refine tr_iload_n (pc := 150) dX10_deed_150 rfl ?_
        refine tr_iadd (pc := 151) dX10_deed_151 ⟨by omega, by omega⟩ ?_
        refine tr_aload_n (pc := 152) dX10_deed_152 rfl (by decide) ?_
        refine tr_iload_n (pc := 153) dX10_deed_153 rfl ?_
        refine tr_iload_n (pc := 154) dX10_deed_154 rfl ?_
        refine tr_cVi2 (pc := 155) dX10_deed_155 mtX10_a lv10_125 rfl sg101 kc10 ⟨(Nat.le_of_ble_eq_true rfl), (Nat.le_of_ble_eq_true rfl)⟩ nlX10_a (Nat.le_of_ble_eq_true rfl) ⟨(Nat.le_of_ble_eq_true rfl), (Nat.le_of_ble_eq_true rfl)⟩ (sp_ra (by omega) hx (by omega) (congrFun (a1 103 (by omega)) _)) (fun r155 M155 h155 => ?_)
        obtain ⟨hr155, hM155⟩ := h155
        obtain rfl := hr155.symm
        obtain rfl := hM155.symm
        refine tr_iast (pc := 158) dX10_deed_158 sg107 (by omega) (by omega) ?_
        refine tr_aload_n (pc := 159) dX10_deed_159 rfl (by decide) ?_
        refine tr_getr (pc := 160) (x := 108) dX10_deed_160 fi10_30 rfl sg101 rfl ?_
        refine tr_bipush (pc := 163) dX10_deed_163 ⟨by decide, ⟨by decide, by decide⟩⟩ ?_
        refine tr_aload_n (pc := 165) dX10_deed_165 rfl (by decide) ?_
        refine tr_getv (pc := 166) (ji := 3) (x := n) dX10_deed_166 fi10_132 rfl sg101 rfl (by rw [tk_mu_c (by omega)]; exact hn2) ?_
        refine tr_imul (pc := 169) dX10_deed_169 ⟨by omega, by omega⟩ ?_
        refine tr_iload_n (pc := 170) dX10_deed_170 rfl ?_
        refine tr_iadd (pc := 171) dX10_deed_171 ⟨by omega, by omega⟩ ?_
        refine tr_aload_n (pc := 172) dX10_deed_172 rfl (by decide) ?_
        refine tr_iload_n (pc := 173) dX10_deed_173 rfl ?_
        refine tr_iload_n (pc := 174) dX10_deed_174 rfl ?_
        refine tr_cVi2 (pc := 175) dX10_deed_175 mtX10_b lv10_129 rfl sg101 kc10 ⟨(Nat.le_of_ble_eq_true rfl), (Nat.le_of_ble_eq_true rfl)⟩ nlX10_b (Nat.le_of_ble_eq_true rfl) ⟨(Nat.le_of_ble_eq_true rfl), (Nat.le_of_ble_eq_true rfl)⟩ (sp_rb (by omega) hx (by omega) ((congrFun (tk_mu_c (by omega)) _).trans (congrFun (a1 104 (by omega)) _))) (fun r175 M175 h175 => ?_)
        obtain ⟨hr175, hM175⟩ := h175
        obtain rfl := hr175.symm
        obtain rfl := hM175.symm
        refine tr_iast (pc := 178) dX10_deed_178 sg108 (by omega) (by omega) ?_
        refine tr_iinc (pc := 179) dX10_deed_179 rfl rfl ⟨by omega, by omega⟩ ?_
        dsimp only [List.set]
        refine tr_goto (pc := 182) (tgt := 133) dX10_deed_182 (by decide) ?_
        refine ih (x + 1) _ (by omega) (by omega) ?_ ?_ ?_ ?_ ?_ ?_
        · intro c hc
          rw [tk_mu_c (by omega), tk_mu_c (by omega)]; exact a1 c hc
        · rw [tk_mu_c (by omega), tk_mu_c (by omega)]; exact a2
        · rw [tk_mu_c (by omega), tk_mu_c (by omega)]; exact a3
        · intro c hc
          have := a4 c hc
          (first | (simp only [tk_mu_eq, and_self, and_true, true_and, false_and, and_false, if_true, if_false, ↓reduceIte, reduceCtorEq]; done) | (simp only [tk_mu_eq, and_self, and_true, true_and, false_and, and_false, if_true, if_false, ↓reduceIte, reduceCtorEq]; omega))
        · intro c hc
          have := a5 c hc
          (first | (simp only [tk_mu_eq, and_self, and_true, true_and, false_and, and_false, if_true, if_false, ↓reduceIte, reduceCtorEq]; done) | (simp only [tk_mu_eq, and_self, and_true, true_and, false_and, and_false, if_true, if_false, ↓reduceIte, reduceCtorEq]; omega))
        · intro k k0 k1
          by_cases hk : k = x
          · subst hk
            (first | (simp only [tk_mu_eq, and_self, and_true, true_and, false_and, and_false, if_true, if_false, ↓reduceIte, reduceCtorEq]; done) | (simp only [tk_mu_eq, and_self, and_true, true_and, false_and, and_false, if_true, if_false, ↓reduceIte, reduceCtorEq]; omega))
          · have := a6 k k0 (by omega)
            (first | (simp only [tk_mu_eq, and_self, and_true, true_and, false_and, and_false, if_true, if_false, ↓reduceIte, reduceCtorEq]; done) | (simp only [tk_mu_eq, and_self, and_true, true_and, false_and, and_false, if_true, if_false, ↓reduceIte, reduceCtorEq]; omega))
    refine tr_aload_n (pc := 106) dX10_deed_106 rfl (by decide) ?_
    refine tr_getr (pc := 107) (x := 105) dX10_deed_107 fi10_21 rfl sg101 rfl ?_
    refine tr_aload_n (pc := 110) dX10_deed_110 rfl (by decide) ?_
    refine tr_getv (pc := 111) (ji := 3) (x := n) dX10_deed_111 fi10_132 rfl sg101 rfl (hn) ?_
    refine tr_iload_n (pc := 114) dX10_deed_114 rfl ?_
    refine tr_iast (pc := 115) dX10_deed_115 sg105 (by omega) (by omega) ?_
    refine tr_aload_n (pc := 116) dX10_deed_116 rfl (by decide) ?_
    refine tr_getr (pc := 117) (x := 106) dX10_deed_117 fi10_24 rfl sg101 rfl ?_
    refine tr_aload_n (pc := 120) dX10_deed_120 rfl (by decide) ?_
    refine tr_getv (pc := 121) (ji := 3) (x := n) dX10_deed_121 fi10_132 rfl sg101 rfl (by rw [tk_mu_c (by omega)]; exact hn) ?_
    refine tr_aload_n (pc := 124) dX10_deed_124 rfl (by decide) ?_
    refine tr_getr (pc := 125) (x := 102) dX10_deed_125 fi10_11 rfl sg101 rfl ?_
    refine tr_iload_n (pc := 128) dX10_deed_128 rfl ?_
    refine tr_ialdv (pc := 129) (x := M1 102 i) dX10_deed_129 sg102 (by omega) (by omega) (by rw [tk_mu_c (by omega)]) ?_
    refine tr_iast (pc := 130) dX10_deed_130 sg106 (by omega) (by omega) ?_
    refine tr_iconst (pc := 131) dX10_deed_131 ⟨by decide, by decide⟩ ?_
    refine tr_istore_n (pc := 132) dX10_deed_132 rfl (Nat.le_of_ble_eq_true rfl) ?_
    dsimp only [List.set]
    refine loop 6 0 _ (by omega) (by omega) ?_ ?_ ?_ ?_ ?_ ?_
    · intro c hc
      rw [tk_mu_c (by omega), tk_mu_c (by omega)]
    · rw [tk_mu_c (by omega), tk_mu_at]
    · rw [tk_mu_at]
    · intro c hc
      (first | (simp only [tk_mu_eq, and_self, and_true, true_and, false_and, and_false, if_true, if_false, ↓reduceIte, reduceCtorEq]; done) | (simp only [tk_mu_eq, and_self, and_true, true_and, false_and, and_false, if_true, if_false, ↓reduceIte, reduceCtorEq]; omega))
    · intro c hc
      (first | (simp only [tk_mu_eq, and_self, and_true, true_and, false_and, and_false, if_true, if_false, ↓reduceIte, reduceCtorEq]; done) | (simp only [tk_mu_eq, and_self, and_true, true_and, false_and, and_false, if_true, if_false, ↓reduceIte, reduceCtorEq]; omega))
    · intro k k0 k1; omega
  obtain ⟨d1, d2, d3⟩ := hD
  by_cases h10 : D.length = 10
  · skip
    have hcut : ((i, g) :: D).take 10 = (i, g) :: D.take 9 := rfl
    have loop2 : ∀ (M0 : tk_M), (∀ c, 0 ≤ c → c < 9 → M0 105 c = M 105 (c + 1) ∧ M0 106 c = M 106 (c + 1)) → (∀ c, c ≠ 105 → c ≠ 106 → M0 c = M c) → ∀ (d : Nat) (x : Int) (M1 : tk_M), x + d = 60 → 6 ≤ x → (∀ p, 0 ≤ p → p < x - 6 → M1 107 p = M 107 (p + 6) ∧ M1 108 p = M 108 (p + 6)) → (∀ p, x - 6 ≤ p → M1 107 p = M 107 p ∧ M1 108 p = M 108 p) → (∀ c, c ≠ 107 → c ≠ 108 → M1 c = M0 c) → Ok G FX10_deed 54 [xR 101, xI i, xI x] [] SF M1 0 0 (tk_qv SF (fun M' => rd_at M' (((i, g) :: D).take 10) ∧ rdf M M')) := by
      intro M0 b1 b2 d
      induction d with
      | zero =>
        intro x M1 hd hx a1 a2 a3
        have e3 : M1 101 = M 101 := (a3 101 (by omega) (by omega)).trans (b2 101 (by omega) (by omega))
        have hn2 : M1 101 3 = 10 := by rw [e3, d1, h10]; rfl
        refine tr_iload_n (pc := 54) dX10_deed_54 rfl ?_
        refine tr_bipush (pc := 55) dX10_deed_55 ⟨by decide, ⟨by decide, by decide⟩⟩ ?_
        refine tr_icmpge (pc := 57) (tgt := 96) dX10_deed_57 (by decide) (fun c57 => ?_) (fun c57 => absurd c57 (by omega))
        refine tr_aload_n (pc := 96) dX10_deed_96 rfl (by decide) ?_
        refine tr_dup (pc := 97) dX10_deed_97 (fun h => by cases h) ?_
        refine tr_getv (pc := 98) (ji := 3) (x := 10) dX10_deed_98 fi10_132 rfl sg101 rfl (hn2) ?_
        refine tr_iconst (pc := 101) dX10_deed_101 ⟨by decide, by decide⟩ ?_
        refine tr_isub (pc := 102) dX10_deed_102 ⟨by omega, by omega⟩ ?_
        refine tr_puti (pc := 103) (ji := 3) dX10_deed_103 fi10_132 rfl (Or.inl rfl) (Or.inl rfl) sg101 rfl ?_
        refine partB _ (D.take 9) _ hcut (by rw [List.length_take]; omega) ⟨?_, by rw [List.length_take]; omega, fun j q hq => ?_⟩ ⟨fun c c1 c2 => ?_, fun j hj => ?_⟩
        · rw [tk_mu_at, List.length_take, h10]; rfl
        · have hj : j < 9 := by
            have := (List.getElem?_eq_some_iff.mp hq).1
            rw [List.length_take] at this; omega
          rw [List.getElem?_take_of_lt hj] at hq
          obtain ⟨⟨c1, c2⟩, c3⟩ := d3 j q hq
          rw [tk_mu_at, tk_mu_c (show (105 : Int) ≠ 101 by omega), a3 105 (by omega) (by omega), (b1 _ (by omega) (by omega)).1, show (10 : Int) - 1 - 1 - j + 1 = M 101 3 - 1 - j by omega]
          refine ⟨⟨c1, c2⟩, c3.congr ?_ (fun k k0 k1 => ?_)⟩
          · rw [tk_mu_c (show (106 : Int) ≠ 101 by omega), a3 106 (by omega) (by omega), (b1 _ (by omega) (by omega)).2, show (10 : Int) - 1 - 1 - j + 1 = M 101 3 - 1 - j by omega]
          · rw [tk_mu_c (show (107 : Int) ≠ 101 by omega), tk_mu_c (show (108 : Int) ≠ 101 by omega)]
            have := a1 (6 * (10 - 1 - 1 - (j : Int)) + k) (by omega) (by omega)
            rw [show 6 * ((10 : Int) - 1 - 1 - j) + k + 6 = 6 * (M 101 3 - 1 - j) + k by omega] at this
            exact this
        · rw [tk_mu_c c1, a3 c (by omega) (by omega), b2 c (by omega) (by omega)]
        · rw [tk_mu_i hj, e3]
      | succ d ih =>
        intro x M1 hd hx a1 a2 a3
        refine tr_iload_n (pc := 54) dX10_deed_54 rfl ?_
        refine tr_bipush (pc := 55) dX10_deed_55 ⟨by decide, ⟨by decide, by decide⟩⟩ ?_
        refine tr_icmpge (pc := 57) (tgt := 96) dX10_deed_57 (by decide) (fun c57 => absurd c57 (by omega)) (fun c57 => ?_)
        refine tr_aload_n (pc := 60) dX10_deed_60 rfl (by decide) ?_
        refine tr_getr (pc := 61) (x := 107) dX10_deed_61 fi10_27 rfl sg101 rfl ?_
        refine tr_iload_n (pc := 64) dX10_deed_64 rfl ?_
        refine tr_bipush (pc := 65) dX10_deed_65 ⟨by decide, ⟨by decide, by decide⟩⟩ ?_
        refine tr_isub (pc := 67) dX10_deed_67 ⟨by omega, by omega⟩ ?_
        refine tr_aload_n (pc := 68) dX10_deed_68 rfl (by decide) ?_
        refine tr_getr (pc := 69) (x := 107) dX10_deed_69 fi10_27 rfl sg101 rfl ?_
        refine tr_iload_n (pc := 72) dX10_deed_72 rfl ?_
        refine tr_ialdv (pc := 73) (x := M 107 x) dX10_deed_73 sg107 (by omega) (by omega) ((a2 x (by omega)).1) ?_
        refine tr_iast (pc := 74) dX10_deed_74 sg107 (by omega) (by omega) ?_
        refine tr_aload_n (pc := 75) dX10_deed_75 rfl (by decide) ?_
        refine tr_getr (pc := 76) (x := 108) dX10_deed_76 fi10_30 rfl sg101 rfl ?_
        refine tr_iload_n (pc := 79) dX10_deed_79 rfl ?_
        refine tr_bipush (pc := 80) dX10_deed_80 ⟨by decide, ⟨by decide, by decide⟩⟩ ?_
        refine tr_isub (pc := 82) dX10_deed_82 ⟨by omega, by omega⟩ ?_
        refine tr_aload_n (pc := 83) dX10_deed_83 rfl (by decide) ?_
        refine tr_getr (pc := 84) (x := 108) dX10_deed_84 fi10_30 rfl sg101 rfl ?_
        refine tr_iload_n (pc := 87) dX10_deed_87 rfl ?_
        refine tr_ialdv (pc := 88) (x := M 108 x) dX10_deed_88 sg108 (by omega) (by omega) (by rw [tk_mu_c (by omega)]; exact (a2 x (by omega)).2) ?_
        refine tr_iast (pc := 89) dX10_deed_89 sg108 (by omega) (by omega) ?_
        refine tr_iinc (pc := 90) dX10_deed_90 rfl rfl ⟨by omega, by omega⟩ ?_
        dsimp only [List.set]
        refine tr_goto (pc := 93) (tgt := 54) dX10_deed_93 (by decide) ?_
        refine ih (x + 1) _ (by omega) (by omega) ?_ ?_ ?_
        · intro p hp0 hp
          by_cases hk : p = x - 6
          · subst hk
            rw [show x - 6 + 6 = x by omega]
            (first | (simp only [tk_mu_eq, and_self, and_true, true_and, false_and, and_false, if_true, if_false, ↓reduceIte, reduceCtorEq]; done) | (simp only [tk_mu_eq, and_self, and_true, true_and, false_and, and_false, if_true, if_false, ↓reduceIte, reduceCtorEq]; omega))
          · have := a1 p hp0 (by omega)
            (first | (simp only [tk_mu_eq, and_self, and_true, true_and, false_and, and_false, if_true, if_false, ↓reduceIte, reduceCtorEq]; done) | (simp only [tk_mu_eq, and_self, and_true, true_and, false_and, and_false, if_true, if_false, ↓reduceIte, reduceCtorEq]; omega))
        · intro p hp
          have := a2 p (by omega)
          (first | (simp only [tk_mu_eq, and_self, and_true, true_and, false_and, and_false, if_true, if_false, ↓reduceIte, reduceCtorEq]; done) | (simp only [tk_mu_eq, and_self, and_true, true_and, false_and, and_false, if_true, if_false, ↓reduceIte, reduceCtorEq]; omega))
        · intro c c1 c2
          rw [tk_mu_c c2, tk_mu_c c1]; exact a3 c c1 c2
    have loop1 : ∀ (d : Nat) (x : Int) (M1 : tk_M), x + d = 10 → 1 ≤ x → (∀ p, 0 ≤ p → p < x - 1 → M1 105 p = M 105 (p + 1) ∧ M1 106 p = M 106 (p + 1)) → (∀ p, x - 1 ≤ p → M1 105 p = M 105 p ∧ M1 106 p = M 106 p) → (∀ c, c ≠ 105 → c ≠ 106 → M1 c = M c) → Ok G FX10_deed 11 [xR 101, xI i, xI x] [] SF M1 0 0 (tk_qv SF (fun M' => rd_at M' (((i, g) :: D).take 10) ∧ rdf M M')) := by
      intro d
      induction d with
      | zero =>
        intro x M1 hd hx a1 a2 a3
        refine tr_iload_n (pc := 11) dX10_deed_11 rfl ?_
        refine tr_bipush (pc := 12) dX10_deed_12 ⟨by decide, ⟨by decide, by decide⟩⟩ ?_
        refine tr_icmpge (pc := 14) (tgt := 51) dX10_deed_14 (by decide) (fun c14 => ?_) (fun c14 => absurd c14 (by omega))
        refine tr_bipush (pc := 51) dX10_deed_51 ⟨by decide, ⟨by decide, by decide⟩⟩ ?_
        refine tr_istore_n (pc := 53) dX10_deed_53 rfl (Nat.le_of_ble_eq_true rfl) ?_
        dsimp only [List.set]
        exact loop2 M1 (fun c hc0 hc => a1 c hc0 (by omega)) a3 54 6 M1 (by omega) (by omega) (fun p hp0 hp => by omega) (fun p _ => by rw [a3 107 (by omega) (by omega), a3 108 (by omega) (by omega)]; exact ⟨rfl, rfl⟩) (fun _ _ _ => rfl)
      | succ d ih =>
        intro x M1 hd hx a1 a2 a3
        refine tr_iload_n (pc := 11) dX10_deed_11 rfl ?_
        refine tr_bipush (pc := 12) dX10_deed_12 ⟨by decide, ⟨by decide, by decide⟩⟩ ?_
        refine tr_icmpge (pc := 14) (tgt := 51) dX10_deed_14 (by decide) (fun c14 => absurd c14 (by omega)) (fun c14 => ?_)
        refine tr_aload_n (pc := 17) dX10_deed_17 rfl (by decide) ?_
        refine tr_getr (pc := 18) (x := 105) dX10_deed_18 fi10_21 rfl sg101 rfl ?_
        refine tr_iload_n (pc := 21) dX10_deed_21 rfl ?_
        refine tr_iconst (pc := 22) dX10_deed_22 ⟨by decide, by decide⟩ ?_
        refine tr_isub (pc := 23) dX10_deed_23 ⟨by omega, by omega⟩ ?_
        refine tr_aload_n (pc := 24) dX10_deed_24 rfl (by decide) ?_
        refine tr_getr (pc := 25) (x := 105) dX10_deed_25 fi10_21 rfl sg101 rfl ?_
        refine tr_iload_n (pc := 28) dX10_deed_28 rfl ?_
        refine tr_ialdv (pc := 29) (x := M 105 x) dX10_deed_29 sg105 (by omega) (by omega) ((a2 x (by omega)).1) ?_
        refine tr_iast (pc := 30) dX10_deed_30 sg105 (by omega) (by omega) ?_
        refine tr_aload_n (pc := 31) dX10_deed_31 rfl (by decide) ?_
        refine tr_getr (pc := 32) (x := 106) dX10_deed_32 fi10_24 rfl sg101 rfl ?_
        refine tr_iload_n (pc := 35) dX10_deed_35 rfl ?_
        refine tr_iconst (pc := 36) dX10_deed_36 ⟨by decide, by decide⟩ ?_
        refine tr_isub (pc := 37) dX10_deed_37 ⟨by omega, by omega⟩ ?_
        refine tr_aload_n (pc := 38) dX10_deed_38 rfl (by decide) ?_
        refine tr_getr (pc := 39) (x := 106) dX10_deed_39 fi10_24 rfl sg101 rfl ?_
        refine tr_iload_n (pc := 42) dX10_deed_42 rfl ?_
        refine tr_ialdv (pc := 43) (x := M 106 x) dX10_deed_43 sg106 (by omega) (by omega) (by rw [tk_mu_c (by omega)]; exact (a2 x (by omega)).2) ?_
        refine tr_iast (pc := 44) dX10_deed_44 sg106 (by omega) (by omega) ?_
        refine tr_iinc (pc := 45) dX10_deed_45 rfl rfl ⟨by omega, by omega⟩ ?_
        dsimp only [List.set]
        refine tr_goto (pc := 48) (tgt := 11) dX10_deed_48 (by decide) ?_
        refine ih (x + 1) _ (by omega) (by omega) ?_ ?_ ?_
        · intro p hp0 hp
          by_cases hk : p = x - 1
          · subst hk
            rw [show x - 1 + 1 = x by omega]
            (first | (simp only [tk_mu_eq, and_self, and_true, true_and, false_and, and_false, if_true, if_false, ↓reduceIte, reduceCtorEq]; done) | (simp only [tk_mu_eq, and_self, and_true, true_and, false_and, and_false, if_true, if_false, ↓reduceIte, reduceCtorEq]; omega))
          · have := a1 p hp0 (by omega)
            (first | (simp only [tk_mu_eq, and_self, and_true, true_and, false_and, and_false, if_true, if_false, ↓reduceIte, reduceCtorEq]; done) | (simp only [tk_mu_eq, and_self, and_true, true_and, false_and, and_false, if_true, if_false, ↓reduceIte, reduceCtorEq]; omega))
        · intro p hp
          have := a2 p (by omega)
          (first | (simp only [tk_mu_eq, and_self, and_true, true_and, false_and, and_false, if_true, if_false, ↓reduceIte, reduceCtorEq]; done) | (simp only [tk_mu_eq, and_self, and_true, true_and, false_and, and_false, if_true, if_false, ↓reduceIte, reduceCtorEq]; omega))
        · intro c c1 c2
          rw [tk_mu_c c2, tk_mu_c c1]; exact a3 c c1 c2
    refine tr_aload_n (pc := 0) dX10_deed_0 rfl (by decide) ?_
    refine tr_geti (pc := 1) (ji := 3) dX10_deed_1 fi10_132 rfl sg101 rfl ?_
    refine tr_bipush (pc := 4) dX10_deed_4 ⟨by decide, ⟨by decide, by decide⟩⟩ ?_
    refine tr_icmpne (pc := 6) (tgt := 106) dX10_deed_6 (by decide) (fun c6 => absurd c6 (by omega)) (fun c6 => ?_)
    refine tr_iconst (pc := 9) dX10_deed_9 ⟨by decide, by decide⟩ ?_
    refine tr_istore_n (pc := 10) dX10_deed_10 rfl (Nat.le_of_ble_eq_true rfl) ?_
    dsimp only [List.set]
    exact loop1 9 1 M (by omega) (by omega) (fun p hp0 hp => by omega) (fun p _ => ⟨rfl, rfl⟩) (fun _ _ _ => rfl)
  · skip
    have hcut : ((i, g) :: D).take 10 = (i, g) :: D := List.take_of_length_le (by rw [List.length_cons]; omega)
    refine tr_aload_n (pc := 0) dX10_deed_0 rfl (by decide) ?_
    refine tr_geti (pc := 1) (ji := 3) dX10_deed_1 fi10_132 rfl sg101 rfl ?_
    refine tr_bipush (pc := 4) dX10_deed_4 ⟨by decide, ⟨by decide, by decide⟩⟩ ?_
    refine tr_icmpne (pc := 6) (tgt := 106) dX10_deed_6 (by decide) (fun c6 => ?_) (fun c6 => absurd c6 (by omega))
    exact partB M D _ hcut (by omega) ⟨d1, d2, d3⟩ ⟨fun _ _ _ => rfl, fun _ _ => rfl⟩
