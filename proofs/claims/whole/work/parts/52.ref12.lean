/-- GENERATORS are none twice -/
theorem nd_addN {g : List (Int × Int)} (h : g.Nodup) (a b : Int) : (ig_addN g a b).Nodup := by
  unfold ig_addN ig_add
  split
  · rename_i hf
    split
    · rw [ig_find_one] at hf
      rw [List.nodup_append]
      exact ⟨h, by simp, fun x hx y hy => by
        rcases List.mem_cons.mp hy with h1 | h1
        · subst h1; intro h2; subst h2; exact hf hx
        · cases h1⟩
    · exact h
  · exact h
theorem nd_les (n : Int) : ∀ (g acc : List (Int × Int)), acc.Nodup → (ig_les n acc g).Nodup := by
  intro g
  induction g with
  | nil => intro acc h; exact h
  | cons q t ih => intro acc h; obtain ⟨p, q⟩ := q; exact ih _ (nd_addN h _ _)
theorem nd_mrg : ∀ (h g : List (Int × Int)), g.Nodup → (ig_mrg g h).Nodup := by
  intro h
  induction h with
  | nil => intro g hg; exact hg
  | cons q t ih => intro g hg; obtain ⟨p, q⟩ := q; exact ih _ (nd_addN hg _ _)
theorem nd_erase {g : List (Int × Int)} (h : g.Nodup) (k : Nat) : (g.eraseIdx k).Nodup := h.sublist (List.eraseIdx_sublist g k)
theorem nd_ev {g : List (Int × Int)} (h : g.Nodup) (q : Int × Int × Int) : (ev_ap g q).Nodup := by
  unfold ev_ap
  split
  · exact nd_addN h _ _
  · split
    · split
      · exact nd_erase h _
      · exact h
    · exact nd_les _ g [] List.nodup_nil
theorem nd_snoc {g : List (Int × Int)} {z : Int × Int} (h : g.Nodup) (hz : z ∉ g) : (g ++ [z]).Nodup := by
  rw [List.nodup_append]
  exact ⟨h, by simp, fun x hx y hy => by
    rcases List.mem_cons.mp hy with h1 | h1
    · subst h1; intro h2; subst h2; exact hz hx
    · cases h1⟩
theorem find_nd {a b : Int} : ∀ (g : List (Int × Int)) (i : Int) (j : Nat), g.Nodup → g[j]? = some (a, b) → ig_find a b i g = i + j := by
  intro g
  induction g with
  | nil => intro i j _ h; simp at h
  | cons q t ih =>
    intro i j hn h
    obtain ⟨p, q⟩ := q
    obtain ⟨h1, h2⟩ := List.nodup_cons.mp hn
    unfold ig_find
    match j, h with
    | 0, h =>
      cases h
      rw [if_pos ⟨rfl, rfl⟩]; simp
    | j + 1, h =>
      have h3 : t[j]? = some (a, b) := h
      have h4 : (a, b) ∈ t := List.mem_of_getElem? h3
      rw [if_neg (fun h5 => h1 (by rw [h5.1, h5.2]; exact h4)), ih (i + 1) j h2 h3]
      omega
theorem find_at {a b : Int} : ∀ (g : List (Int × Int)) (i : Int), ig_find a b i g = -1 ∨ ∃ j : Nat, g[j]? = some (a, b) ∧ ig_find a b i g = i + j := by
  intro g
  induction g with
  | nil => intro i; exact Or.inl rfl
  | cons q t ih =>
    intro i
    obtain ⟨p, q⟩ := q
    unfold ig_find
    by_cases h : p = a ∧ q = b
    · rw [if_pos h]; obtain ⟨rfl, rfl⟩ := h
      exact Or.inr ⟨0, rfl, by simp⟩
    · rw [if_neg h]
      rcases ih (i + 1) with h1 | ⟨j, h1, h2⟩
      · exact Or.inl h1
      · exact Or.inr ⟨j + 1, h1, by rw [h2]; omega⟩
theorem gp_at {g : List (Int × Int)} {k : Int} (h0 : 0 ≤ k) (h1 : k < g.length) : g[k.toNat]? = some (gp g k) := by
  unfold gp
  rw [List.getD_eq_getElem?_getD, List.getElem?_eq_getElem (show k.toNat < g.length by omega)]; rfl
theorem nd_set {z : Int × Int} : ∀ (g : List (Int × Int)) (k : Nat), g.Nodup → (g[k]? = some z ∨ z ∉ g) → (g.set k z).Nodup := by
  intro g
  induction g with
  | nil => intro k h _; exact h
  | cons q t ih =>
    intro k hn h
    obtain ⟨h1, h2⟩ := List.nodup_cons.mp hn
    match k with
    | 0 =>
      show (z :: t).Nodup
      refine List.nodup_cons.mpr ⟨?_, h2⟩
      rcases h with h | h
      · cases h; exact h1
      · exact fun h3 => h (List.mem_cons_of_mem _ h3)
    | k + 1 =>
      show (q :: t.set k z).Nodup
      have h3 : t[k]? = some z ∨ z ∉ t := h.imp (fun h => h) (fun h h4 => h (List.mem_cons_of_mem _ h4))
      refine List.nodup_cons.mpr ⟨fun h4 => ?_, ih k h2 h3⟩
      rcases List.mem_or_eq_of_mem_set h4 with h5 | h5
      · exact h1 h5
      · subst h5
        rcases h with h | h
        · have h6 : t[k]? = some q := h
          exact h1 (List.mem_of_getElem? h6)
        · exact h List.mem_cons_self
theorem sp_X10_comes2 {G : tk_G} {M : tk_M} {i a b : Int} {g : List (Int × Int)} (hi : 0 ≤ i ∧ i ≤ 2) (hg : rg_at M i g) (hl : g.length < 6) (h1 : 0 ≤ a) (h2 : a ≤ 9) (h3 : 0 ≤ b) (h4 : b ≤ 9) : Spv G FX10_comes [xR 101, xI i, xI a, xI b] SF M (fun M' => rg_at M' i (g ++ [(a, b)]) ∧ rfr M M' i ∧ ∀ p, p ≠ 6 * i + M 102 i → M' 103 p = M 103 p ∧ M' 104 p = M 104 p) := by
  have hln := hg.len
  refine Spv.of _ mtX10_comes nlX10_comes (Nat.le_of_ble_eq_true rfl) ?_
  show Ok G FX10_comes 0 [xR 101, xI i, xI a, xI b] [] SF M 0 0 _
  refine tr_aload_n (pc := 0) dX10_comes_0 rfl (by decide) ?_
  refine tr_getr (pc := 1) (x := 103) dX10_comes_1 fi10_15 rfl sg101 rfl ?_
  refine tr_bipush (pc := 4) dX10_comes_4 ⟨by decide, ⟨by decide, by decide⟩⟩ ?_
  refine tr_iload_n (pc := 6) dX10_comes_6 rfl ?_
  refine tr_imul (pc := 7) dX10_comes_7 ⟨by omega, by omega⟩ ?_
  refine tr_aload_n (pc := 8) dX10_comes_8 rfl (by decide) ?_
  refine tr_getr (pc := 9) (x := 102) dX10_comes_9 fi10_11 rfl sg101 rfl ?_
  refine tr_iload_n (pc := 12) dX10_comes_12 rfl ?_
  refine tr_iald (pc := 13) dX10_comes_13 sg102 (by omega) (by omega) ?_
  refine tr_iadd (pc := 14) dX10_comes_14 ⟨by omega, by omega⟩ ?_
  refine tr_iload_n (pc := 15) dX10_comes_15 rfl ?_
  refine tr_iast (pc := 16) dX10_comes_16 sg103 (by omega) (by omega) ?_
  refine tr_aload_n (pc := 17) dX10_comes_17 rfl (by decide) ?_
  refine tr_getr (pc := 18) (x := 104) dX10_comes_18 fi10_18 rfl sg101 rfl ?_
  refine tr_bipush (pc := 21) dX10_comes_21 ⟨by decide, ⟨by decide, by decide⟩⟩ ?_
  refine tr_iload_n (pc := 23) dX10_comes_23 rfl ?_
  refine tr_imul (pc := 24) dX10_comes_24 ⟨by omega, by omega⟩ ?_
  refine tr_aload_n (pc := 25) dX10_comes_25 rfl (by decide) ?_
  refine tr_getr (pc := 26) (x := 102) dX10_comes_26 fi10_11 rfl sg101 rfl ?_
  refine tr_iload_n (pc := 29) dX10_comes_29 rfl ?_
  refine tr_ialdv (pc := 30) (x := M 102 i) dX10_comes_30 sg102 (by omega) (by omega) (by rw [tk_mu_c (by omega)]) ?_
  refine tr_iadd (pc := 31) dX10_comes_31 ⟨by omega, by omega⟩ ?_
  refine tr_iload_n (pc := 32) dX10_comes_32 rfl ?_
  refine tr_iast (pc := 33) dX10_comes_33 sg104 (by omega) (by omega) ?_
  refine tr_aload_n (pc := 34) dX10_comes_34 rfl (by decide) ?_
  refine tr_getr (pc := 35) (x := 102) dX10_comes_35 fi10_11 rfl sg101 rfl ?_
  refine tr_iload_n (pc := 38) dX10_comes_38 rfl ?_
  refine tr_dup2 (pc := 39) dX10_comes_39 (fun h => by cases h) (fun h => by cases h) ?_
  refine tr_ialdv (pc := 40) (x := M 102 i) dX10_comes_40 sg102 (by omega) (by omega) (by rw [tk_mu_c (by omega), tk_mu_c (by omega)]) ?_
  refine tr_iconst (pc := 41) dX10_comes_41 ⟨by decide, by decide⟩ ?_
  refine tr_iadd (pc := 42) dX10_comes_42 ⟨by omega, by omega⟩ ?_
  refine tr_iast (pc := 43) dX10_comes_43 sg102 (by omega) (by omega) ?_
  refine tr_vret (pc := 44) dX10_comes_44 rfl ?_
  refine ⟨⟨?_, ?_⟩, ⟨fun c a1 a2 a3 => ?_, fun j hj => ?_, fun p hp => ?_⟩, fun p hp => ?_⟩
  · rw [tk_mu_at]
    exact ig_seg_snoc (by (first | (simp only [tk_mu_eq, and_self, and_true, true_and, false_and, and_false, if_true, if_false, ↓reduceIte, reduceCtorEq]; done) | (simp only [tk_mu_eq, and_self, and_true, true_and, false_and, and_false, if_true, if_false, ↓reduceIte, reduceCtorEq]; omega))) (by (first | (simp only [tk_mu_eq, and_self, and_true, true_and, false_and, and_false, if_true, if_false, ↓reduceIte, reduceCtorEq]; done) | (simp only [tk_mu_eq, and_self, and_true, true_and, false_and, and_false, if_true, if_false, ↓reduceIte, reduceCtorEq]; omega))) h1 h2 h3 h4 g 0 (ig_seg_congr g 0 (fun k k0 k1 => by (first | (simp only [tk_mu_eq, and_self, and_true, true_and, false_and, and_false, if_true, if_false, ↓reduceIte, reduceCtorEq]; done) | (simp only [tk_mu_eq, and_self, and_true, true_and, false_and, and_false, if_true, if_false, ↓reduceIte, reduceCtorEq]; omega))) hg.1)
  · rw [tk_mu_at]; omega
  · rw [tk_mu_c a1, tk_mu_c a3, tk_mu_c a2]
  · (first | (simp only [tk_mu_eq, and_self, and_true, true_and, false_and, and_false, if_true, if_false, ↓reduceIte, reduceCtorEq]; done) | (simp only [tk_mu_eq, and_self, and_true, true_and, false_and, and_false, if_true, if_false, ↓reduceIte, reduceCtorEq]; omega))
  · (first | (simp only [tk_mu_eq, and_self, and_true, true_and, false_and, and_false, if_true, if_false, ↓reduceIte, reduceCtorEq]; done) | (simp only [tk_mu_eq, and_self, and_true, true_and, false_and, and_false, if_true, if_false, ↓reduceIte, reduceCtorEq]; omega))
  · (first | (simp only [tk_mu_eq, and_self, and_true, true_and, false_and, and_false, if_true, if_false, ↓reduceIte, reduceCtorEq]; done) | (simp only [tk_mu_eq, and_self, and_true, true_and, false_and, and_false, if_true, if_false, ↓reduceIte, reduceCtorEq]; omega))
theorem sp_X10_lessens {G : tk_G} {M : tk_M} {n : Int} {g : List (Int × Int)} (hg : rg_at M 2 g) (hn : 1 ≤ n ∧ n ≤ 9) : Spv G FX10_lessens [xR 101, xI n] SF M (fun M' => rg_at M' 2 (ig_les n [] g) ∧ rfr M M' 2) := by
  have hln := hg.len
  obtain ⟨hg, h6⟩ := hg
  refine Spv.of _ mtX10_lessens nlX10_lessens (Nat.le_of_ble_eq_true rfl) ?_
  show Ok G FX10_lessens 0 [xR 101, xI n, xU, xU, xU, xU] [] SF M 0 0 _
  have loop : ∀ (g' : List (Int × Int)) (k : Int) (acc : List (Int × Int)) (v4 v5 : tk_V) (M1 : tk_M), v4.1 ≠ 1 → 0 ≤ k → (acc.length : Int) ≤ k → rg_at M1 2 acc → (∀ i, 12 + k ≤ i → M1 103 i = M 103 i ∧ M1 104 i = M 104 i) → rfr M M1 2 → ig_seg (fun k => M 103 (6 * 2 + k)) (fun k => M 104 (6 * 2 + k)) (M 102 2) k g' → Ok G FX10_lessens 16 [xR 101, xI n, xI (M 102 2), xI k, v4, v5] [] SF M1 0 0 (tk_qv SF (fun M' => rg_at M' 2 (ig_les n acc g') ∧ rfr M M' 2)) := by
    intro g'
    induction g' with
    | nil =>
      intro k acc v4 v5 M1 hv4 hk hac ha hc hf hs
      have hs : k = M 102 2 := hs
      refine tr_iload_n (pc := 16) dX10_lessens_16 rfl ?_
      refine tr_iload_n (pc := 17) dX10_lessens_17 rfl ?_
      refine tr_icmpge (pc := 18) (tgt := 77) dX10_lessens_18 (by decide) (fun c18 => ?_) (fun c18 => absurd c18 (by omega))
      refine tr_vret (pc := 77) dX10_lessens_77 rfl ?_
      exact ⟨ha, hf⟩
    | cons q t ih =>
      intro k acc v4 v5 M1 hv4 hk hac ha hc hf hs
      obtain ⟨p, q⟩ := q
      obtain ⟨e1, e2, b1, b2, b3, b4, hlt, hs⟩ := hs
      have hck := hc (6 * 2 + k) (by omega)
      have hge := ig_find_ge (a := max 0 (p - n)) (b := max 0 (q - n)) acc 0
      have hal := ha.len
      unfold ig_les ig_addN ig_add
      refine tr_iload_n (pc := 16) dX10_lessens_16 rfl ?_
      refine tr_iload_n (pc := 17) dX10_lessens_17 rfl ?_
      refine tr_icmpge (pc := 18) (tgt := 77) dX10_lessens_18 (by decide) (fun c18 => absurd c18 (by omega)) (fun c18 => ?_)
      refine tr_iconst (pc := 21) dX10_lessens_21 ⟨by decide, by decide⟩ ?_
      refine tr_aload_n (pc := 22) dX10_lessens_22 rfl (by decide) ?_
      refine tr_iconst (pc := 23) dX10_lessens_23 ⟨by decide, by decide⟩ ?_
      refine tr_iload_n (pc := 24) dX10_lessens_24 rfl ?_
      refine tr_cVi2 (pc := 25) dX10_lessens_25 mtX10_a lv10_125 rfl sg101 kc10 ⟨(Nat.le_of_ble_eq_true rfl), (Nat.le_of_ble_eq_true rfl)⟩ nlX10_a (Nat.le_of_ble_eq_true rfl) ⟨(Nat.le_of_ble_eq_true rfl), (Nat.le_of_ble_eq_true rfl)⟩ (sp_ra (by omega) hk (by omega) (hck.1.trans e1)) (fun r25 M25 h25 => ?_)
      obtain ⟨hr25, hM25⟩ := h25
      obtain rfl := hr25.symm
      obtain rfl := hM25.symm
      refine tr_iload_n (pc := 28) dX10_lessens_28 rfl ?_
      refine tr_isub (pc := 29) dX10_lessens_29 ⟨by omega, by omega⟩ ?_
      refine tr_max (pc := 30) dX10_lessens_30 mm10_333 rfl (Nat.le_of_ble_eq_true rfl) (Nat.le_of_ble_eq_true rfl) ⟨(Nat.le_of_ble_eq_true rfl), (Nat.le_of_ble_eq_true rfl)⟩ ?_
      refine tr_istore (pc := 33) dX10_lessens_33 rfl (Nat.le_of_ble_eq_true rfl) ?_
      dsimp only [List.set]
      refine tr_iconst (pc := 35) dX10_lessens_35 ⟨by decide, by decide⟩ ?_
      refine tr_aload_n (pc := 36) dX10_lessens_36 rfl (by decide) ?_
      refine tr_iconst (pc := 37) dX10_lessens_37 ⟨by decide, by decide⟩ ?_
      refine tr_iload_n (pc := 38) dX10_lessens_38 rfl ?_
      refine tr_cVi2 (pc := 39) dX10_lessens_39 mtX10_b lv10_129 rfl sg101 kc10 ⟨(Nat.le_of_ble_eq_true rfl), (Nat.le_of_ble_eq_true rfl)⟩ nlX10_b (Nat.le_of_ble_eq_true rfl) ⟨(Nat.le_of_ble_eq_true rfl), (Nat.le_of_ble_eq_true rfl)⟩ (sp_rb (by omega) hk (by omega) (hck.2.trans e2)) (fun r39 M39 h39 => ?_)
      obtain ⟨hr39, hM39⟩ := h39
      obtain rfl := hr39.symm
      obtain rfl := hM39.symm
      refine tr_iload_n (pc := 42) dX10_lessens_42 rfl ?_
      refine tr_isub (pc := 43) dX10_lessens_43 ⟨by omega, by omega⟩ ?_
      refine tr_max (pc := 44) dX10_lessens_44 mm10_333 rfl (Nat.le_of_ble_eq_true rfl) (Nat.le_of_ble_eq_true rfl) ⟨(Nat.le_of_ble_eq_true rfl), (Nat.le_of_ble_eq_true rfl)⟩ ?_
      refine tr_istore (pc := 47) dX10_lessens_47 rfl (Nat.le_of_ble_eq_true rfl) ?_
      dsimp only [List.set]
      refine tr_aload_n (pc := 49) dX10_lessens_49 rfl (by decide) ?_
      refine tr_iconst (pc := 50) dX10_lessens_50 ⟨by decide, by decide⟩ ?_
      refine tr_iload (pc := 51) dX10_lessens_51 rfl ?_
      refine tr_iload (pc := 53) dX10_lessens_53 rfl ?_
      refine tr_cVi3 (pc := 55) dX10_lessens_55 mtX10_which lv10_143 rfl sg101 kc10 ⟨(Nat.le_of_ble_eq_true rfl), (Nat.le_of_ble_eq_true rfl)⟩ nlX10_which (Nat.le_of_ble_eq_true rfl) ⟨(Nat.le_of_ble_eq_true rfl), (Nat.le_of_ble_eq_true rfl)⟩ (sp_X10_which (by omega) ha) (fun r55 M55 h55 => ?_)
      obtain ⟨hr55, hM55⟩ := h55
      obtain rfl := hr55.symm
      obtain rfl := hM55.symm
      refine tr_iconst (pc := 58) dX10_lessens_58 ⟨by decide, by decide⟩ ?_
      refine tr_icmpne (pc := 59) (tgt := 71) dX10_lessens_59 (by decide) (fun c59 => ?_) (fun c59 => ?_)
      · skip
        refine tr_iinc (pc := 71) dX10_lessens_71 rfl rfl ⟨by omega, by omega⟩ ?_
        dsimp only [List.set]
        refine tr_goto (pc := 74) (tgt := 16) dX10_lessens_74 (by decide) ?_
        first
        | rw [if_neg (show ¬ ig_find (max 0 (p - n)) (max 0 (q - n)) 0 acc < 0 by omega)]
          exact ih (k + 1) _ _ _ _ (fun h => by cases h) (by omega) (by omega) ha (fun i hi => hc i (by omega)) hf hs
        | rw [if_pos (show ig_find (max 0 (p - n)) (max 0 (q - n)) 0 acc < 0 by omega), if_pos (show acc.length < 6 by omega)]
          exact ih (k + 1) _ _ _ _ (fun h => by cases h) (by omega) (by rw [List.length_append]; simp only [List.length_cons, List.length_nil]; omega) h9 (fun i hi => ⟨(hcm i (by omega)).1.trans (hc i (by omega)).1, (hcm i (by omega)).2.trans (hc i (by omega)).2⟩) (hf.trans f9) hs
      · skip
        refine tr_aload_n (pc := 62) dX10_lessens_62 rfl (by decide) ?_
        refine tr_iconst (pc := 63) dX10_lessens_63 ⟨by decide, by decide⟩ ?_
        refine tr_iload (pc := 64) dX10_lessens_64 rfl ?_
        refine tr_iload (pc := 66) dX10_lessens_66 rfl ?_
        refine tr_cVv3 (pc := 68) dX10_lessens_68 mtX10_comes lv10_151 rfl sg101 kc10 ⟨(Nat.le_of_ble_eq_true rfl), (Nat.le_of_ble_eq_true rfl)⟩ nlX10_comes (Nat.le_of_ble_eq_true rfl) ⟨(Nat.le_of_ble_eq_true rfl), (Nat.le_of_ble_eq_true rfl)⟩ (sp_X10_comes2 (by omega) ha (by omega) (by omega) (by omega) (by omega) (by omega)) (fun M68 h68 => ?_)
        obtain ⟨h9, f9, hcm⟩ := h68
        refine tr_iinc (pc := 71) dX10_lessens_71 rfl rfl ⟨by omega, by omega⟩ ?_
        dsimp only [List.set]
        refine tr_goto (pc := 74) (tgt := 16) dX10_lessens_74 (by decide) ?_
        first
        | rw [if_neg (show ¬ ig_find (max 0 (p - n)) (max 0 (q - n)) 0 acc < 0 by omega)]
          exact ih (k + 1) _ _ _ _ (fun h => by cases h) (by omega) (by omega) ha (fun i hi => hc i (by omega)) hf hs
        | rw [if_pos (show ig_find (max 0 (p - n)) (max 0 (q - n)) 0 acc < 0 by omega), if_pos (show acc.length < 6 by omega)]
          exact ih (k + 1) _ _ _ _ (fun h => by cases h) (by omega) (by rw [List.length_append]; simp only [List.length_cons, List.length_nil]; omega) h9 (fun i hi => ⟨(hcm i (by omega)).1.trans (hc i (by omega)).1, (hcm i (by omega)).2.trans (hc i (by omega)).2⟩) (hf.trans f9) hs
  refine tr_aload_n (pc := 0) dX10_lessens_0 rfl (by decide) ?_
  refine tr_getr (pc := 1) (x := 102) dX10_lessens_1 fi10_11 rfl sg101 rfl ?_
  refine tr_iconst (pc := 4) dX10_lessens_4 ⟨by decide, by decide⟩ ?_
  refine tr_iald (pc := 5) dX10_lessens_5 sg102 (by omega) (by omega) ?_
  refine tr_istore_n (pc := 6) dX10_lessens_6 rfl (Nat.le_of_ble_eq_true rfl) ?_
  dsimp only [List.set]
  refine tr_aload_n (pc := 7) dX10_lessens_7 rfl (by decide) ?_
  refine tr_getr (pc := 8) (x := 102) dX10_lessens_8 fi10_11 rfl sg101 rfl ?_
  refine tr_iconst (pc := 11) dX10_lessens_11 ⟨by decide, by decide⟩ ?_
  refine tr_iconst (pc := 12) dX10_lessens_12 ⟨by decide, by decide⟩ ?_
  refine tr_iast (pc := 13) dX10_lessens_13 sg102 (by omega) (by omega) ?_
  refine tr_iconst (pc := 14) dX10_lessens_14 ⟨by decide, by decide⟩ ?_
  refine tr_istore_n (pc := 15) dX10_lessens_15 rfl (Nat.le_of_ble_eq_true rfl) ?_
  dsimp only [List.set]
  obtain ⟨r1, r2⟩ := rg_empty (M := M) (i := 2)
  exact loop g 0 [] _ _ _ (fun h => by cases h) (by omega) (by simp) r1 (fun i hi => by rw [tk_mu_c (by omega), tk_mu_c (by omega)]; exact ⟨rfl, rfl⟩) r2 hg
theorem sp_X10_happens {G : tk_G} {M : tk_M} {g : List (Int × Int)} {w n z : Int} (hg : rg_at M 2 g) (ho : ev_ok w n) : Spv G FX10_happens [xR 101, xI w, xI n] SF M (fun M' => rg_at M' 2 (ev_ap g (w, n, z)) ∧ rfr M M' 2) := by
  have hln := hg.len
  have hge := ig_find_ge (a := n / 10) (b := n % 10) g 0
  unfold ev_ok at ho
  unfold ev_ap
  refine Spv.of _ mtX10_happens nlX10_happens (Nat.le_of_ble_eq_true rfl) ?_
  show Ok G FX10_happens 0 [xR 101, xI w, xI n] [] SF M 0 0 _
  refine tr_iload_n (pc := 0) dX10_happens_0 rfl ?_
  refine tr_iconst (pc := 1) dX10_happens_1 ⟨by decide, by decide⟩ ?_
  refine tr_icmpne (pc := 2) (tgt := 13) dX10_happens_2 (by decide) (fun c2 => ?_) (fun c2 => ?_)
  · skip
    refine tr_iload_n (pc := 13) dX10_happens_13 rfl ?_
    refine tr_iconst (pc := 14) dX10_happens_14 ⟨by decide, by decide⟩ ?_
    refine tr_icmpne (pc := 15) (tgt := 37) dX10_happens_15 (by decide) (fun c15 => ?_) (fun c15 => ?_)
    · skip
      refine tr_aload_n (pc := 37) dX10_happens_37 rfl (by decide) ?_
      refine tr_iconst (pc := 38) dX10_happens_38 ⟨by decide, by decide⟩ ?_
      refine tr_iload_n (pc := 39) dX10_happens_39 rfl ?_
      refine tr_bipush (pc := 40) dX10_happens_40 ⟨by decide, ⟨by decide, by decide⟩⟩ ?_
      refine tr_idiv (pc := 42) dX10_happens_42 (by omega) (by omega) ?_
      refine tr_iload_n (pc := 43) dX10_happens_43 rfl ?_
      refine tr_bipush (pc := 44) dX10_happens_44 ⟨by decide, ⟨by decide, by decide⟩⟩ ?_
      refine tr_irem (pc := 46) dX10_happens_46 (by omega) (by omega) ?_
      refine tr_cVi3 (pc := 47) dX10_happens_47 mtX10_which lv10_143 rfl sg101 kc10 ⟨(Nat.le_of_ble_eq_true rfl), (Nat.le_of_ble_eq_true rfl)⟩ nlX10_which (Nat.le_of_ble_eq_true rfl) ⟨(Nat.le_of_ble_eq_true rfl), (Nat.le_of_ble_eq_true rfl)⟩ (sp_X10_which (by omega) hg) (fun r47 M47 h47 => ?_)
      obtain ⟨hr47, hM47⟩ := h47
      obtain rfl := hr47.symm
      obtain rfl := hM47.symm
      refine tr_iconst (pc := 50) dX10_happens_50 ⟨by decide, by decide⟩ ?_
      refine tr_icmpne (pc := 51) (tgt := 78) dX10_happens_51 (by decide) (fun c51 => ?_) (fun c51 => ?_)
      · skip
        refine tr_vret (pc := 78) dX10_happens_78 rfl ?_
        first
        | rw [if_neg (show ¬ w = 0 by omega), if_neg (show ¬ w = 1 by omega)]
          exact ⟨h9, f9⟩
        | rw [if_neg (show ¬ w = 0 by omega), if_pos (show w = 1 by omega), if_pos (show 0 ≤ n by omega)]
          first
          | exact ⟨h9, f9⟩
          | rw [List.eraseIdx_of_length_le (show g.length ≤ n.toNat by omega)]
            exact ⟨hg, rfr.rf⟩
        | rw [if_pos (show w = 0 by omega)]
          unfold ig_addN ig_add
          simp only
          first
          | rw [if_pos (show ig_find (n / 10) (n % 10) 0 g < 0 by omega), if_pos (show g.length < 6 by omega)]
            exact ⟨h9, f9⟩
          | rw [if_pos (show ig_find (n / 10) (n % 10) 0 g < 0 by omega), if_neg (show ¬ g.length < 6 by omega)]
            exact ⟨hg, rfr.rf⟩
          | rw [if_neg (show ¬ ig_find (n / 10) (n % 10) 0 g < 0 by omega)]
            exact ⟨hg, rfr.rf⟩
      · skip
        refine tr_aload_n (pc := 54) dX10_happens_54 rfl (by decide) ?_
        refine tr_getr (pc := 55) (x := 102) dX10_happens_55 fi10_11 rfl sg101 rfl ?_
        refine tr_iconst (pc := 58) dX10_happens_58 ⟨by decide, by decide⟩ ?_
        refine tr_iald (pc := 59) dX10_happens_59 sg102 (by omega) (by omega) ?_
        refine tr_bipush (pc := 60) dX10_happens_60 ⟨by decide, ⟨by decide, by decide⟩⟩ ?_
        refine tr_icmpge (pc := 62) (tgt := 78) dX10_happens_62 (by decide) (fun c62 => ?_) (fun c62 => ?_)
        · skip
          refine tr_vret (pc := 78) dX10_happens_78 rfl ?_
          first
          | rw [if_neg (show ¬ w = 0 by omega), if_neg (show ¬ w = 1 by omega)]
            exact ⟨h9, f9⟩
          | rw [if_neg (show ¬ w = 0 by omega), if_pos (show w = 1 by omega), if_pos (show 0 ≤ n by omega)]
            first
            | exact ⟨h9, f9⟩
            | rw [List.eraseIdx_of_length_le (show g.length ≤ n.toNat by omega)]
              exact ⟨hg, rfr.rf⟩
          | rw [if_pos (show w = 0 by omega)]
            unfold ig_addN ig_add
            simp only
            first
            | rw [if_pos (show ig_find (n / 10) (n % 10) 0 g < 0 by omega), if_pos (show g.length < 6 by omega)]
              exact ⟨h9, f9⟩
            | rw [if_pos (show ig_find (n / 10) (n % 10) 0 g < 0 by omega), if_neg (show ¬ g.length < 6 by omega)]
              exact ⟨hg, rfr.rf⟩
            | rw [if_neg (show ¬ ig_find (n / 10) (n % 10) 0 g < 0 by omega)]
              exact ⟨hg, rfr.rf⟩
        · skip
          refine tr_aload_n (pc := 65) dX10_happens_65 rfl (by decide) ?_
          refine tr_iconst (pc := 66) dX10_happens_66 ⟨by decide, by decide⟩ ?_
          refine tr_iload_n (pc := 67) dX10_happens_67 rfl ?_
          refine tr_bipush (pc := 68) dX10_happens_68 ⟨by decide, ⟨by decide, by decide⟩⟩ ?_
          refine tr_idiv (pc := 70) dX10_happens_70 (by omega) (by omega) ?_
          refine tr_iload_n (pc := 71) dX10_happens_71 rfl ?_
          refine tr_bipush (pc := 72) dX10_happens_72 ⟨by decide, ⟨by decide, by decide⟩⟩ ?_
          refine tr_irem (pc := 74) dX10_happens_74 (by omega) (by omega) ?_
          refine tr_cVv3 (pc := 75) dX10_happens_75 mtX10_comes lv10_151 rfl sg101 kc10 ⟨(Nat.le_of_ble_eq_true rfl), (Nat.le_of_ble_eq_true rfl)⟩ nlX10_comes (Nat.le_of_ble_eq_true rfl) ⟨(Nat.le_of_ble_eq_true rfl), (Nat.le_of_ble_eq_true rfl)⟩ (sp_X10_comes (by omega) hg (by omega) (by omega) (by omega) (by omega) (by omega)) (fun M75 h75 => ?_)
          obtain ⟨h9, f9⟩ := h75
          refine tr_vret (pc := 78) dX10_happens_78 rfl ?_
          first
          | rw [if_neg (show ¬ w = 0 by omega), if_neg (show ¬ w = 1 by omega)]
            exact ⟨h9, f9⟩
          | rw [if_neg (show ¬ w = 0 by omega), if_pos (show w = 1 by omega), if_pos (show 0 ≤ n by omega)]
            first
            | exact ⟨h9, f9⟩
            | rw [List.eraseIdx_of_length_le (show g.length ≤ n.toNat by omega)]
              exact ⟨hg, rfr.rf⟩
          | rw [if_pos (show w = 0 by omega)]
            unfold ig_addN ig_add
            simp only
            first
            | rw [if_pos (show ig_find (n / 10) (n % 10) 0 g < 0 by omega), if_pos (show g.length < 6 by omega)]
              exact ⟨h9, f9⟩
            | rw [if_pos (show ig_find (n / 10) (n % 10) 0 g < 0 by omega), if_neg (show ¬ g.length < 6 by omega)]
              exact ⟨hg, rfr.rf⟩
            | rw [if_neg (show ¬ ig_find (n / 10) (n % 10) 0 g < 0 by omega)]
              exact ⟨hg, rfr.rf⟩
    · skip
      refine tr_iload_n (pc := 18) dX10_happens_18 rfl ?_
      refine tr_aload_n (pc := 19) dX10_happens_19 rfl (by decide) ?_
      refine tr_getr (pc := 20) (x := 102) dX10_happens_20 fi10_11 rfl sg101 rfl ?_
      refine tr_iconst (pc := 23) dX10_happens_23 ⟨by decide, by decide⟩ ?_
      refine tr_iald (pc := 24) dX10_happens_24 sg102 (by omega) (by omega) ?_
      refine tr_icmpge (pc := 25) (tgt := 78) dX10_happens_25 (by decide) (fun c25 => ?_) (fun c25 => ?_)
      · skip
        refine tr_vret (pc := 78) dX10_happens_78 rfl ?_
        first
        | rw [if_neg (show ¬ w = 0 by omega), if_neg (show ¬ w = 1 by omega)]
          exact ⟨h9, f9⟩
        | rw [if_neg (show ¬ w = 0 by omega), if_pos (show w = 1 by omega), if_pos (show 0 ≤ n by omega)]
          first
          | exact ⟨h9, f9⟩
          | rw [List.eraseIdx_of_length_le (show g.length ≤ n.toNat by omega)]
            exact ⟨hg, rfr.rf⟩
        | rw [if_pos (show w = 0 by omega)]
          unfold ig_addN ig_add
          simp only
          first
          | rw [if_pos (show ig_find (n / 10) (n % 10) 0 g < 0 by omega), if_pos (show g.length < 6 by omega)]
            exact ⟨h9, f9⟩
          | rw [if_pos (show ig_find (n / 10) (n % 10) 0 g < 0 by omega), if_neg (show ¬ g.length < 6 by omega)]
            exact ⟨hg, rfr.rf⟩
          | rw [if_neg (show ¬ ig_find (n / 10) (n % 10) 0 g < 0 by omega)]
            exact ⟨hg, rfr.rf⟩
      · skip
        refine tr_aload_n (pc := 28) dX10_happens_28 rfl (by decide) ?_
        refine tr_iconst (pc := 29) dX10_happens_29 ⟨by decide, by decide⟩ ?_
        refine tr_iload_n (pc := 30) dX10_happens_30 rfl ?_
        refine tr_cVv2 (pc := 31) dX10_happens_31 mtX10_goes lv10_159 rfl sg101 kc10 ⟨(Nat.le_of_ble_eq_true rfl), (Nat.le_of_ble_eq_true rfl)⟩ nlX10_goes (Nat.le_of_ble_eq_true rfl) ⟨(Nat.le_of_ble_eq_true rfl), (Nat.le_of_ble_eq_true rfl)⟩ (sp_X10_goes (by omega) hg (by omega)) (fun M31 h31 => ?_)
        obtain ⟨h9, f9⟩ := h31
        refine tr_goto (pc := 34) (tgt := 78) dX10_happens_34 (by decide) ?_
        refine tr_vret (pc := 78) dX10_happens_78 rfl ?_
        first
        | rw [if_neg (show ¬ w = 0 by omega), if_neg (show ¬ w = 1 by omega)]
          exact ⟨h9, f9⟩
        | rw [if_neg (show ¬ w = 0 by omega), if_pos (show w = 1 by omega), if_pos (show 0 ≤ n by omega)]
          first
          | exact ⟨h9, f9⟩
          | rw [List.eraseIdx_of_length_le (show g.length ≤ n.toNat by omega)]
            exact ⟨hg, rfr.rf⟩
        | rw [if_pos (show w = 0 by omega)]
          unfold ig_addN ig_add
          simp only
          first
          | rw [if_pos (show ig_find (n / 10) (n % 10) 0 g < 0 by omega), if_pos (show g.length < 6 by omega)]
            exact ⟨h9, f9⟩
          | rw [if_pos (show ig_find (n / 10) (n % 10) 0 g < 0 by omega), if_neg (show ¬ g.length < 6 by omega)]
            exact ⟨hg, rfr.rf⟩
          | rw [if_neg (show ¬ ig_find (n / 10) (n % 10) 0 g < 0 by omega)]
            exact ⟨hg, rfr.rf⟩
  · skip
    refine tr_aload_n (pc := 5) dX10_happens_5 rfl (by decide) ?_
    refine tr_iload_n (pc := 6) dX10_happens_6 rfl ?_
    refine tr_cVv1 (pc := 7) dX10_happens_7 mtX10_lessens lv10_336 rfl sg101 kc10 ⟨(Nat.le_of_ble_eq_true rfl), (Nat.le_of_ble_eq_true rfl)⟩ nlX10_lessens (Nat.le_of_ble_eq_true rfl) ⟨(Nat.le_of_ble_eq_true rfl), (Nat.le_of_ble_eq_true rfl)⟩ (sp_X10_lessens hg (by omega)) (fun M7 h7 => ?_)
    obtain ⟨h9, f9⟩ := h7
    refine tr_goto (pc := 10) (tgt := 78) dX10_happens_10 (by decide) ?_
    refine tr_vret (pc := 78) dX10_happens_78 rfl ?_
    first
    | rw [if_neg (show ¬ w = 0 by omega), if_neg (show ¬ w = 1 by omega)]
      exact ⟨h9, f9⟩
    | rw [if_neg (show ¬ w = 0 by omega), if_pos (show w = 1 by omega), if_pos (show 0 ≤ n by omega)]
      first
      | exact ⟨h9, f9⟩
      | rw [List.eraseIdx_of_length_le (show g.length ≤ n.toNat by omega)]
        exact ⟨hg, rfr.rf⟩
    | rw [if_pos (show w = 0 by omega)]
      unfold ig_addN ig_add
      simp only
      first
      | rw [if_pos (show ig_find (n / 10) (n % 10) 0 g < 0 by omega), if_pos (show g.length < 6 by omega)]
        exact ⟨h9, f9⟩
      | rw [if_pos (show ig_find (n / 10) (n % 10) 0 g < 0 by omega), if_neg (show ¬ g.length < 6 by omega)]
        exact ⟨hg, rfr.rf⟩
      | rw [if_neg (show ¬ ig_find (n / 10) (n % 10) 0 g < 0 by omega)]
        exact ⟨hg, rfr.rf⟩
theorem nd_ev_all : ∀ (ev : L3) (g : List (Int × Int)), g.Nodup → (ev_all g ev).Nodup := by
  intro ev
  induction ev with
  | nil => intro g h; exact h
  | cons q t ih => intro g h; exact ih _ (nd_ev h q)
theorem sp_X10_after {G : tk_G} {M : tk_M} {C : cC} {ev : L3} {w : Int} (hC : Rg M C) (hnd : cnd C) (hl : re_at M ev) (hok : en_ok ev) : Spi G FX10_after [xR 101, xI w] SF M (fun v M' => v = x_after C ev w ∧ fQ M M') := by
  refine Spi.of _ mtX10_after nlX10_after (Nat.le_of_ble_eq_true rfl) ?_
  show Ok G FX10_after 0 [xR 101, xI w, xU] [] SF M 0 0 _
  have h8 := hl.2
  have loop : (0 ≤ w ∧ w ≤ 2) → ∀ (t : L3) (k : Int) (g : List (Int × Int)) (M1 : tk_M), 0 ≤ k → en_ok t → g.Nodup → rg_at M1 2 g → rfr M M1 2 → rw_seg (M 122) (M 123) (fun _ => 0) (M 101 26) k t → Ok G FX10_after 22 [xR 101, xI w, xI k] [] SF M1 0 0 (tk_qi SF (fun v M' => v = (if w = 0 then ((ev_all g t).length : Int) else if (ev_all g t).length = 0 then -3 else if w = 1 then (jr_ga (hl_fc (ev_all g t)) 100 0 []).length else cls1 (hl_fc (ev_all g t)) (ev_all g t) 100 0) ∧ fQ M M')) := by
    intro hw t
    induction t with
    | nil =>
      intro k g M1 hk ho hn hg hf hs
      have hs : k = M 101 26 := hs
      have e12 : M1 101 26 = M 101 26 := by rw [hf.1 101 (by omega) (by omega) (by omega)]
      have hgl := hg.len
      have e0 : ev_all g [] = g := rfl
      rw [e0]
      refine tr_iload_n (pc := 22) dX10_after_22 rfl ?_
      refine tr_aload_n (pc := 23) dX10_after_23 rfl (by decide) ?_
      refine tr_geti (pc := 24) (ji := 26) dX10_after_24 fi10_328 rfl sg101 rfl ?_
      refine tr_icmpge (pc := 27) (tgt := 52) dX10_after_27 (by decide) (fun c27 => ?_) (fun c27 => absurd c27 (by omega))
      refine tr_iload_n (pc := 52) dX10_after_52 rfl ?_
      refine tr_ifne (pc := 53) (tgt := 63) dX10_after_53 (by decide) (fun c53 => ?_) (fun c53 => ?_)
      · skip
        refine tr_aload_n (pc := 63) dX10_after_63 rfl (by decide) ?_
        refine tr_getr (pc := 64) (x := 102) dX10_after_64 fi10_11 rfl sg101 rfl ?_
        refine tr_iconst (pc := 67) dX10_after_67 ⟨by decide, by decide⟩ ?_
        refine tr_iald (pc := 68) dX10_after_68 sg102 (by omega) (by omega) ?_
        refine tr_ifne (pc := 69) (tgt := 75) dX10_after_69 (by decide) (fun c69 => ?_) (fun c69 => ?_)
        · skip
          refine tr_aload_n (pc := 75) dX10_after_75 rfl (by decide) ?_
          refine tr_iconst (pc := 76) dX10_after_76 ⟨by decide, by decide⟩ ?_
          refine tr_iload_n (pc := 77) dX10_after_77 rfl ?_
          refine tr_iconst (pc := 78) dX10_after_78 ⟨by decide, by decide⟩ ?_
          refine tr_icmpne (pc := 79) (tgt := 86) dX10_after_79 (by decide) (fun c79 => ?_) (fun c79 => ?_)
          · skip
            refine tr_iconst (pc := 86) dX10_after_86 ⟨by decide, by decide⟩ ?_
            refine tr_cVi2 (pc := 87) dX10_after_87 mtX10_asked lv10_248 rfl sg101 kc10 ⟨(Nat.le_of_ble_eq_true rfl), (Nat.le_of_ble_eq_true rfl)⟩ nlX10_asked (Nat.le_of_ble_eq_true rfl) ⟨(Nat.le_of_ble_eq_true rfl), (Nat.le_of_ble_eq_true rfl)⟩ (sp_X10_asked (by omega) hg (rg_ne hg (by omega)) hn) (fun r87 M87 h87 => ?_)
            obtain ⟨hr87, q1⟩ := h87
            obtain rfl := hr87.symm
            replace q1 := (fQ.id hf).trans q1
            refine tr_ireti (pc := 90) dX10_after_90 rfl ?_
            refine ⟨?_, by first | exact q1 | exact fQ.id hf⟩
            repeat' split
            all_goals first | rfl | omega
          · skip
            refine tr_iconst (pc := 82) dX10_after_82 ⟨by decide, by decide⟩ ?_
            refine tr_goto (pc := 83) (tgt := 87) dX10_after_83 (by decide) ?_
            refine tr_cVi2 (pc := 87) dX10_after_87 mtX10_asked lv10_248 rfl sg101 kc10 ⟨(Nat.le_of_ble_eq_true rfl), (Nat.le_of_ble_eq_true rfl)⟩ nlX10_asked (Nat.le_of_ble_eq_true rfl) ⟨(Nat.le_of_ble_eq_true rfl), (Nat.le_of_ble_eq_true rfl)⟩ (sp_X10_asked (by omega) hg (rg_ne hg (by omega)) hn) (fun r87 M87 h87 => ?_)
            obtain ⟨hr87, q1⟩ := h87
            obtain rfl := hr87.symm
            replace q1 := (fQ.id hf).trans q1
            refine tr_ireti (pc := 90) dX10_after_90 rfl ?_
            refine ⟨?_, by first | exact q1 | exact fQ.id hf⟩
            repeat' split
            all_goals first | rfl | omega
        · skip
          refine tr_bipush (pc := 72) dX10_after_72 ⟨by decide, ⟨by decide, by decide⟩⟩ ?_
          refine tr_ireti (pc := 74) dX10_after_74 rfl ?_
          refine ⟨?_, by first | exact q1 | exact fQ.id hf⟩
          repeat' split
          all_goals first | rfl | omega
      · skip
        refine tr_aload_n (pc := 56) dX10_after_56 rfl (by decide) ?_
        refine tr_getr (pc := 57) (x := 102) dX10_after_57 fi10_11 rfl sg101 rfl ?_
        refine tr_iconst (pc := 60) dX10_after_60 ⟨by decide, by decide⟩ ?_
        refine tr_iald (pc := 61) dX10_after_61 sg102 (by omega) (by omega) ?_
        refine tr_ireti (pc := 62) dX10_after_62 rfl ?_
        refine ⟨?_, by first | exact q1 | exact fQ.id hf⟩
        repeat' split
        all_goals first | rfl | omega
    | cons q t ih =>
      intro k g M1 hk ho hn hg hf hs
      obtain ⟨ew, en, ez⟩ := q
      obtain ⟨e1, e2, e3, hlt, hs⟩ := hs
      have hq : ev_ok ew en := ho (ew, en, ez) List.mem_cons_self
      have e26 : M1 101 26 = M 101 26 := by rw [hf.1 101 (by omega) (by omega) (by omega)]
      have e22 : M1 122 k = ew := by rw [hf.1 122 (by omega) (by omega) (by omega)]; exact e1
      have e23 : M1 123 k = en := by rw [hf.1 123 (by omega) (by omega) (by omega)]; exact e2
      refine tr_iload_n (pc := 22) dX10_after_22 rfl ?_
      refine tr_aload_n (pc := 23) dX10_after_23 rfl (by decide) ?_
      refine tr_geti (pc := 24) (ji := 26) dX10_after_24 fi10_328 rfl sg101 rfl ?_
      refine tr_icmpge (pc := 27) (tgt := 52) dX10_after_27 (by decide) (fun c27 => absurd c27 (by omega)) (fun c27 => ?_)
      refine tr_aload_n (pc := 30) dX10_after_30 rfl (by decide) ?_
      refine tr_aload_n (pc := 31) dX10_after_31 rfl (by decide) ?_
      refine tr_getr (pc := 32) (x := 122) dX10_after_32 fi10_72 rfl sg101 rfl ?_
      refine tr_iload_n (pc := 35) dX10_after_35 rfl ?_
      refine tr_ialdv (pc := 36) (x := ew) dX10_after_36 sg122 (by omega) (by omega) (e22) ?_
      refine tr_aload_n (pc := 37) dX10_after_37 rfl (by decide) ?_
      refine tr_getr (pc := 38) (x := 123) dX10_after_38 fi10_75 rfl sg101 rfl ?_
      refine tr_iload_n (pc := 41) dX10_after_41 rfl ?_
      refine tr_ialdv (pc := 42) (x := en) dX10_after_42 sg123 (by omega) (by omega) (e23) ?_
      refine tr_cVv2 (pc := 43) dX10_after_43 mtX10_happens lv10_342 rfl sg101 kc10 ⟨(Nat.le_of_ble_eq_true rfl), (Nat.le_of_ble_eq_true rfl)⟩ nlX10_happens (Nat.le_of_ble_eq_true rfl) ⟨(Nat.le_of_ble_eq_true rfl), (Nat.le_of_ble_eq_true rfl)⟩ (sp_X10_happens (z := ez) hg hq) (fun M43 h43 => ?_)
      obtain ⟨h9, f9⟩ := h43
      refine tr_iinc (pc := 46) dX10_after_46 rfl rfl ⟨by omega, by omega⟩ ?_
      dsimp only [List.set]
      refine tr_goto (pc := 49) (tgt := 22) dX10_after_49 (by decide) ?_
      exact ih (k + 1) _ _ (by omega) (fun z hz => ho z (List.mem_cons_of_mem _ hz)) (nd_ev hn _) h9 (hf.trans f9) hs
  unfold x_after
  refine tr_iload_n (pc := 0) dX10_after_0 rfl ?_
  refine tr_i2l (pc := 1) dX10_after_1 ?_
  refine tr_lconst (pc := 2) (x := 0) dX10_after_2 (by decide) ⟨by decide, by decide⟩ ?_
  refine tr_ldc2 (pc := 3) dX10_after_3 kn10_241 ⟨by decide, by decide⟩ ?_
  refine tr_cSi3 (pc := 6) dX10_after_6 mtX10_isFrom ls10_115 rfl ⟨(Nat.le_of_ble_eq_true rfl), (Nat.le_of_ble_eq_true rfl)⟩ nlX10_isFrom (Nat.le_of_ble_eq_true rfl) ⟨(Nat.le_of_ble_eq_true rfl), (Nat.le_of_ble_eq_true rfl)⟩ (sp_X10_isFrom) (fun r6 M6 h6 => ?_)
  obtain ⟨hr6, hM6⟩ := h6
  obtain rfl := hr6.symm
  obtain rfl := hM6.symm
  refine tr_ifne (pc := 9) (tgt := 14) dX10_after_9 (by decide) (fun c9 => ?_) (fun c9 => ?_)
  · skip
    refine tr_aload_n (pc := 14) dX10_after_14 rfl (by decide) ?_
    refine tr_iconst (pc := 15) dX10_after_15 ⟨by decide, by decide⟩ ?_
    refine tr_iconst (pc := 16) dX10_after_16 ⟨by decide, by decide⟩ ?_
    refine tr_cVv2 (pc := 17) dX10_after_17 mtX10_likens lv10_339 rfl sg101 kc10 ⟨(Nat.le_of_ble_eq_true rfl), (Nat.le_of_ble_eq_true rfl)⟩ nlX10_likens (Nat.le_of_ble_eq_true rfl) ⟨(Nat.le_of_ble_eq_true rfl), (Nat.le_of_ble_eq_true rfl)⟩ (sp_X10_likens (by omega) (by omega) (by omega) hC.1) (fun M17 h17 => ?_)
    obtain ⟨h9, f9⟩ := h17
    refine tr_iconst (pc := 20) dX10_after_20 ⟨by decide, by decide⟩ ?_
    refine tr_istore_n (pc := 21) dX10_after_21 rfl (Nat.le_of_ble_eq_true rfl) ?_
    dsimp only [List.set]
    rw [if_neg (show ¬ ¬ (0 ≤ w ∧ w ≤ 2) by omega)]
    exact loop (by omega) ev 0 _ _ (by omega) hok hnd.1 h9 f9 hl.1
  · skip
    refine tr_iconst (pc := 12) dX10_after_12 ⟨by decide, by decide⟩ ?_
    refine tr_ireti (pc := 13) dX10_after_13 rfl ?_
    rw [if_pos (by omega)]
    exact ⟨rfl, fQ.rf⟩
theorem sp_X10_fits {G : tk_G} {M : tk_M} {C : cC} {l : L3} {i k lt w : Int} (hC : Rg M C) (hnd : cnd C) (hl : rs_at M l) (hok : sn_ok l) : Spi G FX10_fits [xR 101, xI i, xI k, xI lt, xI w] SF M (fun v M' => v = x_fits C l i k lt w ∧ fQ M M') := by
  refine Spi.of _ mtX10_fits nlX10_fits (Nat.le_of_ble_eq_true rfl) ?_
  show Ok G FX10_fits 0 [xR 101, xI i, xI k, xI lt, xI w, xU, xU, xU, xU, xU, xU, xU, xU] [] SF M 0 0 _
  by_cases hgn : (0 ≤ i ∧ i ≤ 1) ∧ (0 ≤ k ∧ k < (csel i C).length)
  · skip
    have hsel := hC.sel hgn.1
    have hln := hsel.len
    have hnd1 := hnd.sel i
    have hgp := rg_gp hsel hgn.2.1 (by omega)
    have hgk := gp_at hgn.2.1 hgn.2.2
    obtain ⟨-, u1, u2, u3, u4⟩ := ig_seg_get _ 0 k hsel.1 hgn.2.1 (by omega)
    rw [hgp.1] at u1 u2
    rw [hgp.2] at u3 u4
    generalize hwA : (gp (csel i C) k).1 = wA at *
    generalize hwB : (gp (csel i C) k).2 = wB at *
    have hgpe : gp (csel i C) k = (wA, wB) := Prod.ext hwA hwB
    rw [hgpe] at hgk
    have tail : ∀ (a b p mn le is : Int) (M1 : tk_M), 0 ≤ p → p ≤ 9 → 0 ≤ mn → mn ≤ p → (0 ≤ a ∧ a ≤ 9) → (0 ≤ b ∧ b ≤ 9) → ((is = 1 ∧ (ig_find a b 0 (csel i C) = -1 ∨ (a = wA ∧ b = wB))) ∨ (is = 0 ∧ ¬ (ig_find a b 0 (csel i C) = -1 ∨ (a = wA ∧ b = wB)))) → fQ M M1 → ∀ (Q : tk_V → tk_S → tk_M → Prop), (∀ (M2 : tk_M) (v : Int), v = (if 0 ≤ ig_find a b 0 (csel i C) ∧ ig_find a b 0 (csel i C) ≠ k then 0 else if i = 1 then x_seen l C.1 else x_seen l ((csel i C).set k.toNat (a, b))) → fQ M M2 → Ok G FX10_fits 58 [xR 101, xI i, xI k, xI lt, xI w, xI wA, xI wB, xI (if v = 0 then mn else mn + 1), xI (if v = 0 then le else if mn = 0 then p else le), xI (p + 1), xI a, xI b, xI is] [] SF M2 0 0 Q) → Ok G FX10_fits 126 [xR 101, xI i, xI k, xI lt, xI w, xI wA, xI wB, xI mn, xI le, xI p, xI a, xI b, xI is] [] SF M1 0 0 Q := by
      intro a b p mn le is M1 hp0 hp1 hm0 hm1 ha hb his hf Q next
      have hge := ig_find_ge (a := a) (b := b) (csel i C) 0
      have hC1 := hC.fQ hf
      have hs1 := hC1.sel hgn.1
      have e102 : M1 102 i = M 102 i := hf.2.2.1 _ (by omega)
      have eA : M1 103 (6 * i + k) = wA := ((hf.2.2.2 _ (by omega)).1).trans hgp.1
      have eB : M1 104 (6 * i + k) = wB := ((hf.2.2.2 _ (by omega)).2).trans hgp.2
      have res : ∀ (M3 : tk_M), fQ (tk_mu (tk_mu M1 103 (6 * i + k) a) 104 (6 * i + k) b) M3 → fQ M (tk_mu (tk_mu M3 103 (6 * i + k) wA) 104 (6 * i + k) wB) := by
        intro M3 h3
        refine ⟨fun c hc => ?_, fun j j0 j1 j2 => ?_, fun j hj => ?_, fun q hq => ?_⟩
        · rw [tk_mu_c (by omega), tk_mu_c (by omega), h3.1 c hc, tk_mu_c (by omega), tk_mu_c (by omega)]; exact hf.1 c hc
        · rw [tk_mu_c (by omega), tk_mu_c (by omega), h3.2.1 j j0 j1 j2, tk_mu_c (by omega), tk_mu_c (by omega)]; exact hf.2.1 j j0 j1 j2
        · rw [tk_mu_c (by omega), tk_mu_c (by omega), h3.2.2.1 j hj, tk_mu_c (by omega), tk_mu_c (by omega)]; exact hf.2.2.1 j hj
        · have h4 := h3.2.2.2 q hq
          have h5 := hf.2.2.2 q hq
          rw [tk_mu_c (show (103 : Int) ≠ 104 by omega)]
          by_cases hqk : q = 6 * i + k
          · subst hqk
            rw [tk_mu_at, tk_mu_at]
            exact ⟨hgp.1.symm, hgp.2.symm⟩
          · rw [tk_mu_c (show (103 : Int) ≠ 104 by omega), tk_mu_i hqk, tk_mu_i hqk, tk_mu_c (show (104 : Int) ≠ 103 by omega)] at h4
            rw [tk_mu_i hqk, tk_mu_i hqk, tk_mu_c (show (104 : Int) ≠ 103 by omega)]
            exact ⟨h4.1.trans h5.1, h4.2.trans h5.2⟩
      rcases his with ⟨his1, his2⟩ | ⟨his1, his2⟩
      · subst his1
        have hc0 : ¬ (0 ≤ ig_find a b 0 (csel i C) ∧ ig_find a b 0 (csel i C) ≠ k) := by
          rcases his2 with h | ⟨h1, h2⟩
          · omega
          · subst h1 h2
            have := find_nd (csel i C) 0 k.toNat hnd1 hgk
            omega
        obtain ⟨tg, htg⟩ : ∃ tg, tg = if i = 1 then C.1 else (csel i C).set k.toNat (a, b) := ⟨_, rfl⟩
        have htn : tg.Nodup := by
          rw [htg]
          split
          · exact hnd.1
          · refine nd_set _ _ hnd1 ?_
            rcases his2 with h | ⟨h1, h2⟩
            · exact Or.inr (ig_find_one.mp (by omega))
            · subst h1 h2; exact Or.inl hgk
        have hrg : rg_at (tk_mu (tk_mu M1 103 (6 * i + k) a) 104 (6 * i + k) b) 0 tg := by
          rw [htg]
          by_cases hi1 : i = 1
          · rw [if_pos hi1]
            subst hi1
            refine hC1.1.congr (by rw [tk_mu_c (by omega), tk_mu_c (by omega)]) (fun j j0 j1 => ?_)
            rw [tk_mu_c (show (103 : Int) ≠ 104 by omega), tk_mu_i (by omega), tk_mu_i (by omega), tk_mu_c (show (104 : Int) ≠ 103 by omega)]
            exact ⟨rfl, rfl⟩
          · rw [if_neg hi1]
            have hi0 : i = 0 := by omega
            subst hi0
            have h9 := ig_seg_set (A' := fun k' => tk_mu (tk_mu M1 103 (6 * 0 + k) a) 104 (6 * 0 + k) b 103 (6 * 0 + k')) (B' := fun k' => tk_mu (tk_mu M1 103 (6 * 0 + k) a) 104 (6 * 0 + k) b 104 (6 * 0 + k')) (n := M1 102 0) (j := k) (by simp only [tk_mu_c (show (103 : Int) ≠ 104 by omega), tk_mu_at]) (by simp only [tk_mu_at]) ha.1 ha.2 hb.1 hb.2 (fun j hj => by
              rw [tk_mu_c (show (103 : Int) ≠ 104 by omega), tk_mu_i (by omega), tk_mu_i (by omega), tk_mu_c (show (104 : Int) ≠ 103 by omega)]
              exact ⟨rfl, rfl⟩) (csel 0 C) 0 hs1.1 hgn.2.1 (by omega)
            rw [Int.sub_zero] at h9
            refine ⟨?_, ?_⟩
            · rw [tk_mu_c (show (102 : Int) ≠ 104 by omega), tk_mu_c (show (102 : Int) ≠ 103 by omega)]; exact h9
            · rw [tk_mu_c (show (102 : Int) ≠ 104 by omega), tk_mu_c (show (102 : Int) ≠ 103 by omega)]; exact hs1.2
        have hl2 : rs_at (tk_mu (tk_mu M1 103 (6 * i + k) a) 104 (6 * i + k) b) l := (hl.fQ hf).same (by rw [tk_mu_c (by omega), tk_mu_c (by omega)]) (by rw [tk_mu_c (by omega), tk_mu_c (by omega)]) (by rw [tk_mu_c (by omega), tk_mu_c (by omega)]) (by rw [tk_mu_c (by omega), tk_mu_c (by omega)])
        have hval : x_seen l tg = (if 0 ≤ ig_find a b 0 (csel i C) ∧ ig_find a b 0 (csel i C) ≠ k then 0 else if i = 1 then x_seen l C.1 else x_seen l ((csel i C).set k.toNat (a, b))) := by
          rw [if_neg hc0, htg]
          split <;> rfl
        have h01 := x_seen01 l tg
        generalize hv : x_seen l tg = v at hval h01
        refine tr_aload_n (pc := 126) dX10_fits_126 rfl (by decide) ?_
        refine tr_getr (pc := 127) (x := 103) dX10_fits_127 fi10_15 rfl sg101 rfl ?_
        refine tr_bipush (pc := 130) dX10_fits_130 ⟨by decide, ⟨by decide, by decide⟩⟩ ?_
        refine tr_iload_n (pc := 132) dX10_fits_132 rfl ?_
        refine tr_imul (pc := 133) dX10_fits_133 ⟨by omega, by omega⟩ ?_
        refine tr_iload_n (pc := 134) dX10_fits_134 rfl ?_
        refine tr_iadd (pc := 135) dX10_fits_135 ⟨by omega, by omega⟩ ?_
        refine tr_iload (pc := 136) dX10_fits_136 rfl ?_
        refine tr_iast (pc := 138) dX10_fits_138 sg103 (by omega) (by omega) ?_
        refine tr_aload_n (pc := 139) dX10_fits_139 rfl (by decide) ?_
        refine tr_getr (pc := 140) (x := 104) dX10_fits_140 fi10_18 rfl sg101 rfl ?_
        refine tr_bipush (pc := 143) dX10_fits_143 ⟨by decide, ⟨by decide, by decide⟩⟩ ?_
        refine tr_iload_n (pc := 145) dX10_fits_145 rfl ?_
        refine tr_imul (pc := 146) dX10_fits_146 ⟨by omega, by omega⟩ ?_
        refine tr_iload_n (pc := 147) dX10_fits_147 rfl ?_
        refine tr_iadd (pc := 148) dX10_fits_148 ⟨by omega, by omega⟩ ?_
        refine tr_iload (pc := 149) dX10_fits_149 rfl ?_
        refine tr_iast (pc := 151) dX10_fits_151 sg104 (by omega) (by omega) ?_
        refine tr_iload (pc := 152) dX10_fits_152 rfl ?_
        refine tr_ifeq (pc := 154) (tgt := 181) dX10_fits_154 (by decide) (fun c154 => absurd c154 (by omega)) (fun c154 => ?_)
        refine tr_aload_n (pc := 157) dX10_fits_157 rfl (by decide) ?_
        refine tr_cVi0 (pc := 158) dX10_fits_158 mtX10_isSeen lv10_323 rfl sg101 kc10 ⟨(Nat.le_of_ble_eq_true rfl), (Nat.le_of_ble_eq_true rfl)⟩ nlX10_isSeen (Nat.le_of_ble_eq_true rfl) ⟨(Nat.le_of_ble_eq_true rfl), (Nat.le_of_ble_eq_true rfl)⟩ (sp_X10_isSeen hrg htn hl2 hok) (fun r158 M158 h158 => ?_)
        rw [hv] at h158
        obtain ⟨hr158, q1⟩ := h158
        obtain rfl := hr158.symm
        have q2 := res M158 q1
        refine tr_ifeq (pc := 161) (tgt := 181) dX10_fits_161 (by decide) (fun c161 => ?_) (fun c161 => ?_)
        · skip
          refine tr_aload_n (pc := 181) dX10_fits_181 rfl (by decide) ?_
          refine tr_getr (pc := 182) (x := 103) dX10_fits_182 fi10_15 rfl sg101 rfl ?_
          refine tr_bipush (pc := 185) dX10_fits_185 ⟨by decide, ⟨by decide, by decide⟩⟩ ?_
          refine tr_iload_n (pc := 187) dX10_fits_187 rfl ?_
          refine tr_imul (pc := 188) dX10_fits_188 ⟨by omega, by omega⟩ ?_
          refine tr_iload_n (pc := 189) dX10_fits_189 rfl ?_
          refine tr_iadd (pc := 190) dX10_fits_190 ⟨by omega, by omega⟩ ?_
          refine tr_iload (pc := 191) dX10_fits_191 rfl ?_
          refine tr_iast (pc := 193) dX10_fits_193 sg103 (by omega) (by omega) ?_
          refine tr_aload_n (pc := 194) dX10_fits_194 rfl (by decide) ?_
          refine tr_getr (pc := 195) (x := 104) dX10_fits_195 fi10_18 rfl sg101 rfl ?_
          refine tr_bipush (pc := 198) dX10_fits_198 ⟨by decide, ⟨by decide, by decide⟩⟩ ?_
          refine tr_iload_n (pc := 200) dX10_fits_200 rfl ?_
          refine tr_imul (pc := 201) dX10_fits_201 ⟨by omega, by omega⟩ ?_
          refine tr_iload_n (pc := 202) dX10_fits_202 rfl ?_
          refine tr_iadd (pc := 203) dX10_fits_203 ⟨by omega, by omega⟩ ?_
          refine tr_iload (pc := 204) dX10_fits_204 rfl ?_
          refine tr_iast (pc := 206) dX10_fits_206 sg104 (by omega) (by omega) ?_
          refine tr_iinc (pc := 207) dX10_fits_207 rfl rfl ⟨by omega, by omega⟩ ?_
          dsimp only [List.set]
          refine tr_goto (pc := 210) (tgt := 58) dX10_fits_210 (by decide) ?_
          have h9 := next _ v hval q2
          first
          | rw [if_pos (show v = 0 by omega), if_pos (show v = 0 by omega)] at h9
            exact h9
          | rw [if_neg (show ¬ v = 0 by omega), if_neg (show ¬ v = 0 by omega), if_pos (show mn = 0 by omega)] at h9
            exact h9
          | rw [if_neg (show ¬ v = 0 by omega), if_neg (show ¬ v = 0 by omega), if_neg (show ¬ mn = 0 by omega)] at h9
            exact h9
        · skip
          refine tr_iload (pc := 164) dX10_fits_164 rfl ?_
          refine tr_ifne (pc := 166) (tgt := 174) dX10_fits_166 (by decide) (fun c166 => ?_) (fun c166 => ?_)
          · skip
            refine tr_iload (pc := 174) dX10_fits_174 rfl ?_
            refine tr_istore (pc := 176) dX10_fits_176 rfl (Nat.le_of_ble_eq_true rfl) ?_
            dsimp only [List.set]
            refine tr_iinc (pc := 178) dX10_fits_178 rfl rfl ⟨by omega, by omega⟩ ?_
            dsimp only [List.set]
            refine tr_aload_n (pc := 181) dX10_fits_181 rfl (by decide) ?_
            refine tr_getr (pc := 182) (x := 103) dX10_fits_182 fi10_15 rfl sg101 rfl ?_
            refine tr_bipush (pc := 185) dX10_fits_185 ⟨by decide, ⟨by decide, by decide⟩⟩ ?_
            refine tr_iload_n (pc := 187) dX10_fits_187 rfl ?_
            refine tr_imul (pc := 188) dX10_fits_188 ⟨by omega, by omega⟩ ?_
            refine tr_iload_n (pc := 189) dX10_fits_189 rfl ?_
            refine tr_iadd (pc := 190) dX10_fits_190 ⟨by omega, by omega⟩ ?_
            refine tr_iload (pc := 191) dX10_fits_191 rfl ?_
            refine tr_iast (pc := 193) dX10_fits_193 sg103 (by omega) (by omega) ?_
            refine tr_aload_n (pc := 194) dX10_fits_194 rfl (by decide) ?_
            refine tr_getr (pc := 195) (x := 104) dX10_fits_195 fi10_18 rfl sg101 rfl ?_
            refine tr_bipush (pc := 198) dX10_fits_198 ⟨by decide, ⟨by decide, by decide⟩⟩ ?_
            refine tr_iload_n (pc := 200) dX10_fits_200 rfl ?_
            refine tr_imul (pc := 201) dX10_fits_201 ⟨by omega, by omega⟩ ?_
            refine tr_iload_n (pc := 202) dX10_fits_202 rfl ?_
            refine tr_iadd (pc := 203) dX10_fits_203 ⟨by omega, by omega⟩ ?_
            refine tr_iload (pc := 204) dX10_fits_204 rfl ?_
            refine tr_iast (pc := 206) dX10_fits_206 sg104 (by omega) (by omega) ?_
            refine tr_iinc (pc := 207) dX10_fits_207 rfl rfl ⟨by omega, by omega⟩ ?_
            dsimp only [List.set]
            refine tr_goto (pc := 210) (tgt := 58) dX10_fits_210 (by decide) ?_
            have h9 := next _ v hval q2
            first
            | rw [if_pos (show v = 0 by omega), if_pos (show v = 0 by omega)] at h9
              exact h9
            | rw [if_neg (show ¬ v = 0 by omega), if_neg (show ¬ v = 0 by omega), if_pos (show mn = 0 by omega)] at h9
              exact h9
            | rw [if_neg (show ¬ v = 0 by omega), if_neg (show ¬ v = 0 by omega), if_neg (show ¬ mn = 0 by omega)] at h9
              exact h9
          · skip
            refine tr_iload (pc := 169) dX10_fits_169 rfl ?_
            refine tr_goto (pc := 171) (tgt := 176) dX10_fits_171 (by decide) ?_
            refine tr_istore (pc := 176) dX10_fits_176 rfl (Nat.le_of_ble_eq_true rfl) ?_
            dsimp only [List.set]
            refine tr_iinc (pc := 178) dX10_fits_178 rfl rfl ⟨by omega, by omega⟩ ?_
            dsimp only [List.set]
            refine tr_aload_n (pc := 181) dX10_fits_181 rfl (by decide) ?_
            refine tr_getr (pc := 182) (x := 103) dX10_fits_182 fi10_15 rfl sg101 rfl ?_
            refine tr_bipush (pc := 185) dX10_fits_185 ⟨by decide, ⟨by decide, by decide⟩⟩ ?_
            refine tr_iload_n (pc := 187) dX10_fits_187 rfl ?_
            refine tr_imul (pc := 188) dX10_fits_188 ⟨by omega, by omega⟩ ?_
            refine tr_iload_n (pc := 189) dX10_fits_189 rfl ?_
            refine tr_iadd (pc := 190) dX10_fits_190 ⟨by omega, by omega⟩ ?_
            refine tr_iload (pc := 191) dX10_fits_191 rfl ?_
            refine tr_iast (pc := 193) dX10_fits_193 sg103 (by omega) (by omega) ?_
            refine tr_aload_n (pc := 194) dX10_fits_194 rfl (by decide) ?_
            refine tr_getr (pc := 195) (x := 104) dX10_fits_195 fi10_18 rfl sg101 rfl ?_
            refine tr_bipush (pc := 198) dX10_fits_198 ⟨by decide, ⟨by decide, by decide⟩⟩ ?_
            refine tr_iload_n (pc := 200) dX10_fits_200 rfl ?_
            refine tr_imul (pc := 201) dX10_fits_201 ⟨by omega, by omega⟩ ?_
            refine tr_iload_n (pc := 202) dX10_fits_202 rfl ?_
            refine tr_iadd (pc := 203) dX10_fits_203 ⟨by omega, by omega⟩ ?_
            refine tr_iload (pc := 204) dX10_fits_204 rfl ?_
            refine tr_iast (pc := 206) dX10_fits_206 sg104 (by omega) (by omega) ?_
            refine tr_iinc (pc := 207) dX10_fits_207 rfl rfl ⟨by omega, by omega⟩ ?_
            dsimp only [List.set]
            refine tr_goto (pc := 210) (tgt := 58) dX10_fits_210 (by decide) ?_
            have h9 := next _ v hval q2
            first
            | rw [if_pos (show v = 0 by omega), if_pos (show v = 0 by omega)] at h9
              exact h9
            | rw [if_neg (show ¬ v = 0 by omega), if_neg (show ¬ v = 0 by omega), if_pos (show mn = 0 by omega)] at h9
              exact h9
            | rw [if_neg (show ¬ v = 0 by omega), if_neg (show ¬ v = 0 by omega), if_neg (show ¬ mn = 0 by omega)] at h9
              exact h9
      · subst his1
        have hc0 : 0 ≤ ig_find a b 0 (csel i C) ∧ ig_find a b 0 (csel i C) ≠ k := by
          refine ⟨by omega, fun h => his2 (Or.inr ?_)⟩
          rcases find_at (a := a) (b := b) (csel i C) 0 with h1 | ⟨j, h1, h2⟩
          · omega
          · have e : k.toNat = j := by omega
            rw [e, h1] at hgk
            cases hgk
            exact ⟨rfl, rfl⟩
        have q2 := res _ fQ.rf
        refine tr_aload_n (pc := 126) dX10_fits_126 rfl (by decide) ?_
        refine tr_getr (pc := 127) (x := 103) dX10_fits_127 fi10_15 rfl sg101 rfl ?_
        refine tr_bipush (pc := 130) dX10_fits_130 ⟨by decide, ⟨by decide, by decide⟩⟩ ?_
        refine tr_iload_n (pc := 132) dX10_fits_132 rfl ?_
        refine tr_imul (pc := 133) dX10_fits_133 ⟨by omega, by omega⟩ ?_
        refine tr_iload_n (pc := 134) dX10_fits_134 rfl ?_
        refine tr_iadd (pc := 135) dX10_fits_135 ⟨by omega, by omega⟩ ?_
        refine tr_iload (pc := 136) dX10_fits_136 rfl ?_
        refine tr_iast (pc := 138) dX10_fits_138 sg103 (by omega) (by omega) ?_
        refine tr_aload_n (pc := 139) dX10_fits_139 rfl (by decide) ?_
        refine tr_getr (pc := 140) (x := 104) dX10_fits_140 fi10_18 rfl sg101 rfl ?_
        refine tr_bipush (pc := 143) dX10_fits_143 ⟨by decide, ⟨by decide, by decide⟩⟩ ?_
        refine tr_iload_n (pc := 145) dX10_fits_145 rfl ?_
        refine tr_imul (pc := 146) dX10_fits_146 ⟨by omega, by omega⟩ ?_
        refine tr_iload_n (pc := 147) dX10_fits_147 rfl ?_
        refine tr_iadd (pc := 148) dX10_fits_148 ⟨by omega, by omega⟩ ?_
        refine tr_iload (pc := 149) dX10_fits_149 rfl ?_
        refine tr_iast (pc := 151) dX10_fits_151 sg104 (by omega) (by omega) ?_
        refine tr_iload (pc := 152) dX10_fits_152 rfl ?_
        refine tr_ifeq (pc := 154) (tgt := 181) dX10_fits_154 (by decide) (fun c154 => ?_) (fun c154 => absurd c154 (by omega))
        refine tr_aload_n (pc := 181) dX10_fits_181 rfl (by decide) ?_
        refine tr_getr (pc := 182) (x := 103) dX10_fits_182 fi10_15 rfl sg101 rfl ?_
        refine tr_bipush (pc := 185) dX10_fits_185 ⟨by decide, ⟨by decide, by decide⟩⟩ ?_
        refine tr_iload_n (pc := 187) dX10_fits_187 rfl ?_
        refine tr_imul (pc := 188) dX10_fits_188 ⟨by omega, by omega⟩ ?_
        refine tr_iload_n (pc := 189) dX10_fits_189 rfl ?_
        refine tr_iadd (pc := 190) dX10_fits_190 ⟨by omega, by omega⟩ ?_
        refine tr_iload (pc := 191) dX10_fits_191 rfl ?_
        refine tr_iast (pc := 193) dX10_fits_193 sg103 (by omega) (by omega) ?_
        refine tr_aload_n (pc := 194) dX10_fits_194 rfl (by decide) ?_
        refine tr_getr (pc := 195) (x := 104) dX10_fits_195 fi10_18 rfl sg101 rfl ?_
        refine tr_bipush (pc := 198) dX10_fits_198 ⟨by decide, ⟨by decide, by decide⟩⟩ ?_
        refine tr_iload_n (pc := 200) dX10_fits_200 rfl ?_
        refine tr_imul (pc := 201) dX10_fits_201 ⟨by omega, by omega⟩ ?_
        refine tr_iload_n (pc := 202) dX10_fits_202 rfl ?_
        refine tr_iadd (pc := 203) dX10_fits_203 ⟨by omega, by omega⟩ ?_
        refine tr_iload (pc := 204) dX10_fits_204 rfl ?_
        refine tr_iast (pc := 206) dX10_fits_206 sg104 (by omega) (by omega) ?_
        refine tr_iinc (pc := 207) dX10_fits_207 rfl rfl ⟨by omega, by omega⟩ ?_
        dsimp only [List.set]
        refine tr_goto (pc := 210) (tgt := 58) dX10_fits_210 (by decide) ?_
        have h9 := next _ 0 (by rw [if_pos hc0]) q2
        rw [if_pos rfl, if_pos rfl] at h9
        exact h9
    have loop : (0 ≤ lt ∧ lt ≤ 1) → (0 ≤ w ∧ w ≤ 1) → ∀ (d : Nat) (p mn le : Int) (v10 v11 v12 : tk_V) (M1 : tk_M), v10.1 ≠ 1 → v11.1 ≠ 1 → p + d = 10 → 0 ≤ p → 0 ≤ mn → mn ≤ p → ((mn = 0 ∧ le = -5) ∨ (0 < mn ∧ 0 ≤ le ∧ le ≤ 9)) → fQ M M1 → Ok G FX10_fits 58 [xR 101, xI i, xI k, xI lt, xI w, xI wA, xI wB, xI mn, xI le, xI p, v10, v11, v12] [] SF M1 0 0 (tk_qi SF (fun v M' => v = (if w = 0 then (x_fl C l i k lt d p mn le).1 else (x_fl C l i k lt d p mn le).2) ∧ fQ M M')) := by
      intro hlt hw d
      induction d with
      | zero =>
        intro p mn le v10 v11 v12 M1 hv10 hv11 hd hp h0 h1 hml hf
        refine tr_iload (pc := 58) dX10_fits_58 rfl ?_
        refine tr_bipush (pc := 60) dX10_fits_60 ⟨by decide, ⟨by decide, by decide⟩⟩ ?_
        refine tr_icmpge (pc := 62) (tgt := 213) dX10_fits_62 (by decide) (fun c62 => ?_) (fun c62 => absurd c62 (by omega))
        refine tr_iload (pc := 213) dX10_fits_213 rfl ?_
        refine tr_ifne (pc := 215) (tgt := 223) dX10_fits_215 (by decide) (fun c215 => ?_) (fun c215 => ?_)
        · skip
          refine tr_iload (pc := 223) dX10_fits_223 rfl ?_
          refine tr_ireti (pc := 225) dX10_fits_225 rfl ?_
          refine ⟨?_, hf⟩
          split
          all_goals first | rfl | omega
        · skip
          refine tr_iload (pc := 218) dX10_fits_218 rfl ?_
          refine tr_goto (pc := 220) (tgt := 225) dX10_fits_220 (by decide) ?_
          refine tr_ireti (pc := 225) dX10_fits_225 rfl ?_
          refine ⟨?_, hf⟩
          split
          all_goals first | rfl | omega
      | succ d ih =>
        intro p mn le v10 v11 v12 M1 hv10 hv11 hd hp h0 h1 hml hf
        have hC1 := hC.fQ hf
        have hs1 := hC1.sel hgn.1
        unfold x_fl x_fw
        rw [hwA, hwB]
        generalize ha : (if lt = 0 then p else wA) = a
        generalize hb : (if lt = 1 then p else wB) = b
        have ha0 : 0 ≤ a ∧ a ≤ 9 := by rw [← ha]; split <;> omega
        have hb0 : 0 ≤ b ∧ b ≤ 9 := by rw [← hb]; split <;> omega
        have fin : ∀ (is : Int), ((is = 1 ∧ (ig_find a b 0 (csel i C) = -1 ∨ (a = wA ∧ b = wB))) ∨ (is = 0 ∧ ¬ (ig_find a b 0 (csel i C) = -1 ∨ (a = wA ∧ b = wB)))) → Ok G FX10_fits 126 [xR 101, xI i, xI k, xI lt, xI w, xI wA, xI wB, xI mn, xI le, xI p, xI a, xI b, xI is] [] SF M1 0 0 (tk_qi SF (fun v M' => v = (if w = 0 then (if (if 0 ≤ ig_find a b 0 (csel i C) ∧ ig_find a b 0 (csel i C) ≠ k then 0 else if i = 1 then x_seen l C.1 else x_seen l ((csel i C).set k.toNat (a, b))) = 0 then x_fl C l i k lt d (p + 1) mn le else x_fl C l i k lt d (p + 1) (mn + 1) (if le = -5 then p else le)).1 else (if (if 0 ≤ ig_find a b 0 (csel i C) ∧ ig_find a b 0 (csel i C) ≠ k then 0 else if i = 1 then x_seen l C.1 else x_seen l ((csel i C).set k.toNat (a, b))) = 0 then x_fl C l i k lt d (p + 1) mn le else x_fl C l i k lt d (p + 1) (mn + 1) (if le = -5 then p else le)).2) ∧ fQ M M')) := by
          intro is his
          refine tail a b p mn le is M1 hp (by omega) h0 h1 ha0 hb0 his hf _ (fun M2 v hv hq => ?_)
          rw [← hv]
          by_cases hv0 : v = 0
          · rw [if_pos hv0, if_pos hv0, if_pos hv0]
            exact ih (p + 1) mn le _ _ _ M2 (fun h => by cases h) (fun h => by cases h) (by omega) (by omega) h0 (by omega) hml hq
          · rw [if_neg hv0, if_neg hv0, if_neg hv0]
            have e : (if mn = 0 then p else le) = (if le = -5 then p else le) := by
              rcases hml with ⟨q1, q2⟩ | ⟨q1, q2⟩
              · rw [if_pos q1, if_pos q2]
              · rw [if_neg (by omega), if_neg (by omega)]
            rw [e]
            exact ih (p + 1) (mn + 1) _ _ _ _ M2 (fun h => by cases h) (fun h => by cases h) (by omega) (by omega) (by omega) (by omega) (by right; split <;> omega) hq
        clear ih tail
        refine tr_iload (pc := 58) dX10_fits_58 rfl ?_
        refine tr_bipush (pc := 60) dX10_fits_60 ⟨by decide, ⟨by decide, by decide⟩⟩ ?_
        refine tr_icmpge (pc := 62) (tgt := 213) dX10_fits_62 (by decide) (fun c62 => absurd c62 (by omega)) (fun c62 => ?_)
        refine tr_iload_n (pc := 65) dX10_fits_65 rfl ?_
        refine tr_ifne (pc := 66) (tgt := 74) dX10_fits_66 (by decide) (fun c66 => ?_) (fun c66 => ?_)
        · skip
          refine tr_iload (pc := 74) dX10_fits_74 rfl ?_
          refine tr_topv (x' := a) (by rw [← ha]; split <;> omega) ?_
          refine tr_istore (pc := 76) dX10_fits_76 rfl (Nat.le_of_ble_eq_true rfl) ?_
          dsimp only [List.set]
          refine tr_iload_n (pc := 78) dX10_fits_78 rfl ?_
          refine tr_iconst (pc := 79) dX10_fits_79 ⟨by decide, by decide⟩ ?_
          refine tr_icmpne (pc := 80) (tgt := 88) dX10_fits_80 (by decide) (fun c80 => ?_) (fun c80 => ?_)
          · skip
            refine tr_iload (pc := 88) dX10_fits_88 rfl ?_
            refine tr_topv (x' := b) (by rw [← hb]; split <;> omega) ?_
            refine tr_istore (pc := 90) dX10_fits_90 rfl (Nat.le_of_ble_eq_true rfl) ?_
            dsimp only [List.set]
            refine tr_iload (pc := 92) dX10_fits_92 rfl ?_
            refine tr_iload (pc := 94) dX10_fits_94 rfl ?_
            refine tr_icmpne (pc := 96) (tgt := 106) dX10_fits_96 (by decide) (fun c96 => ?_) (fun c96 => ?_)
            · skip
              refine tr_aload_n (pc := 106) dX10_fits_106 rfl (by decide) ?_
              refine tr_iload_n (pc := 107) dX10_fits_107 rfl ?_
              refine tr_iload (pc := 108) dX10_fits_108 rfl ?_
              refine tr_iload (pc := 110) dX10_fits_110 rfl ?_
              refine tr_cVi3 (pc := 112) dX10_fits_112 mtX10_which lv10_143 rfl sg101 kc10 ⟨(Nat.le_of_ble_eq_true rfl), (Nat.le_of_ble_eq_true rfl)⟩ nlX10_which (Nat.le_of_ble_eq_true rfl) ⟨(Nat.le_of_ble_eq_true rfl), (Nat.le_of_ble_eq_true rfl)⟩ (sp_X10_which (by omega) hs1) (fun r112 M112 h112 => ?_)
              obtain ⟨hr112, hM112⟩ := h112
              obtain rfl := hr112.symm
              obtain rfl := hM112.symm
              refine tr_iconst (pc := 115) dX10_fits_115 ⟨by decide, by decide⟩ ?_
              refine tr_icmpne (pc := 116) (tgt := 123) dX10_fits_116 (by decide) (fun c116 => ?_) (fun c116 => ?_)
              · skip
                refine tr_iconst (pc := 123) dX10_fits_123 ⟨by decide, by decide⟩ ?_
                refine tr_istore (pc := 124) dX10_fits_124 rfl (Nat.le_of_ble_eq_true rfl) ?_
                dsimp only [List.set]
                exact fin _ (by omega)
              · skip
                refine tr_iconst (pc := 119) dX10_fits_119 ⟨by decide, by decide⟩ ?_
                refine tr_goto (pc := 120) (tgt := 124) dX10_fits_120 (by decide) ?_
                refine tr_istore (pc := 124) dX10_fits_124 rfl (Nat.le_of_ble_eq_true rfl) ?_
                dsimp only [List.set]
                exact fin _ (by omega)
            · skip
              refine tr_iload (pc := 99) dX10_fits_99 rfl ?_
              refine tr_iload (pc := 101) dX10_fits_101 rfl ?_
              refine tr_icmpeq (pc := 103) (tgt := 119) dX10_fits_103 (by decide) (fun c103 => ?_) (fun c103 => ?_)
              · skip
                refine tr_iconst (pc := 119) dX10_fits_119 ⟨by decide, by decide⟩ ?_
                refine tr_goto (pc := 120) (tgt := 124) dX10_fits_120 (by decide) ?_
                refine tr_istore (pc := 124) dX10_fits_124 rfl (Nat.le_of_ble_eq_true rfl) ?_
                dsimp only [List.set]
                exact fin _ (by omega)
              · skip
                refine tr_aload_n (pc := 106) dX10_fits_106 rfl (by decide) ?_
                refine tr_iload_n (pc := 107) dX10_fits_107 rfl ?_
                refine tr_iload (pc := 108) dX10_fits_108 rfl ?_
                refine tr_iload (pc := 110) dX10_fits_110 rfl ?_
                refine tr_cVi3 (pc := 112) dX10_fits_112 mtX10_which lv10_143 rfl sg101 kc10 ⟨(Nat.le_of_ble_eq_true rfl), (Nat.le_of_ble_eq_true rfl)⟩ nlX10_which (Nat.le_of_ble_eq_true rfl) ⟨(Nat.le_of_ble_eq_true rfl), (Nat.le_of_ble_eq_true rfl)⟩ (sp_X10_which (by omega) hs1) (fun r112 M112 h112 => ?_)
                obtain ⟨hr112, hM112⟩ := h112
                obtain rfl := hr112.symm
                obtain rfl := hM112.symm
                refine tr_iconst (pc := 115) dX10_fits_115 ⟨by decide, by decide⟩ ?_
                refine tr_icmpne (pc := 116) (tgt := 123) dX10_fits_116 (by decide) (fun c116 => ?_) (fun c116 => ?_)
                · skip
                  refine tr_iconst (pc := 123) dX10_fits_123 ⟨by decide, by decide⟩ ?_
                  refine tr_istore (pc := 124) dX10_fits_124 rfl (Nat.le_of_ble_eq_true rfl) ?_
                  dsimp only [List.set]
                  exact fin _ (by omega)
                · skip
                  refine tr_iconst (pc := 119) dX10_fits_119 ⟨by decide, by decide⟩ ?_
                  refine tr_goto (pc := 120) (tgt := 124) dX10_fits_120 (by decide) ?_
                  refine tr_istore (pc := 124) dX10_fits_124 rfl (Nat.le_of_ble_eq_true rfl) ?_
                  dsimp only [List.set]
                  exact fin _ (by omega)
          · skip
            refine tr_iload (pc := 83) dX10_fits_83 rfl ?_
            refine tr_goto (pc := 85) (tgt := 90) dX10_fits_85 (by decide) ?_
            refine tr_topv (x' := b) (by rw [← hb]; split <;> omega) ?_
            refine tr_istore (pc := 90) dX10_fits_90 rfl (Nat.le_of_ble_eq_true rfl) ?_
            dsimp only [List.set]
            refine tr_iload (pc := 92) dX10_fits_92 rfl ?_
            refine tr_iload (pc := 94) dX10_fits_94 rfl ?_
            refine tr_icmpne (pc := 96) (tgt := 106) dX10_fits_96 (by decide) (fun c96 => ?_) (fun c96 => ?_)
            · skip
              refine tr_aload_n (pc := 106) dX10_fits_106 rfl (by decide) ?_
              refine tr_iload_n (pc := 107) dX10_fits_107 rfl ?_
              refine tr_iload (pc := 108) dX10_fits_108 rfl ?_
              refine tr_iload (pc := 110) dX10_fits_110 rfl ?_
              refine tr_cVi3 (pc := 112) dX10_fits_112 mtX10_which lv10_143 rfl sg101 kc10 ⟨(Nat.le_of_ble_eq_true rfl), (Nat.le_of_ble_eq_true rfl)⟩ nlX10_which (Nat.le_of_ble_eq_true rfl) ⟨(Nat.le_of_ble_eq_true rfl), (Nat.le_of_ble_eq_true rfl)⟩ (sp_X10_which (by omega) hs1) (fun r112 M112 h112 => ?_)
              obtain ⟨hr112, hM112⟩ := h112
              obtain rfl := hr112.symm
              obtain rfl := hM112.symm
              refine tr_iconst (pc := 115) dX10_fits_115 ⟨by decide, by decide⟩ ?_
              refine tr_icmpne (pc := 116) (tgt := 123) dX10_fits_116 (by decide) (fun c116 => ?_) (fun c116 => ?_)
              · skip
                refine tr_iconst (pc := 123) dX10_fits_123 ⟨by decide, by decide⟩ ?_
                refine tr_istore (pc := 124) dX10_fits_124 rfl (Nat.le_of_ble_eq_true rfl) ?_
                dsimp only [List.set]
                exact fin _ (by omega)
              · skip
                refine tr_iconst (pc := 119) dX10_fits_119 ⟨by decide, by decide⟩ ?_
                refine tr_goto (pc := 120) (tgt := 124) dX10_fits_120 (by decide) ?_
                refine tr_istore (pc := 124) dX10_fits_124 rfl (Nat.le_of_ble_eq_true rfl) ?_
                dsimp only [List.set]
                exact fin _ (by omega)
            · skip
              refine tr_iload (pc := 99) dX10_fits_99 rfl ?_
              refine tr_iload (pc := 101) dX10_fits_101 rfl ?_
              refine tr_icmpeq (pc := 103) (tgt := 119) dX10_fits_103 (by decide) (fun c103 => ?_) (fun c103 => ?_)
              · skip
                refine tr_iconst (pc := 119) dX10_fits_119 ⟨by decide, by decide⟩ ?_
                refine tr_goto (pc := 120) (tgt := 124) dX10_fits_120 (by decide) ?_
                refine tr_istore (pc := 124) dX10_fits_124 rfl (Nat.le_of_ble_eq_true rfl) ?_
                dsimp only [List.set]
                exact fin _ (by omega)
              · skip
                refine tr_aload_n (pc := 106) dX10_fits_106 rfl (by decide) ?_
                refine tr_iload_n (pc := 107) dX10_fits_107 rfl ?_
                refine tr_iload (pc := 108) dX10_fits_108 rfl ?_
                refine tr_iload (pc := 110) dX10_fits_110 rfl ?_
                refine tr_cVi3 (pc := 112) dX10_fits_112 mtX10_which lv10_143 rfl sg101 kc10 ⟨(Nat.le_of_ble_eq_true rfl), (Nat.le_of_ble_eq_true rfl)⟩ nlX10_which (Nat.le_of_ble_eq_true rfl) ⟨(Nat.le_of_ble_eq_true rfl), (Nat.le_of_ble_eq_true rfl)⟩ (sp_X10_which (by omega) hs1) (fun r112 M112 h112 => ?_)
                obtain ⟨hr112, hM112⟩ := h112
                obtain rfl := hr112.symm
                obtain rfl := hM112.symm
                refine tr_iconst (pc := 115) dX10_fits_115 ⟨by decide, by decide⟩ ?_
                refine tr_icmpne (pc := 116) (tgt := 123) dX10_fits_116 (by decide) (fun c116 => ?_) (fun c116 => ?_)
                · skip
                  refine tr_iconst (pc := 123) dX10_fits_123 ⟨by decide, by decide⟩ ?_
                  refine tr_istore (pc := 124) dX10_fits_124 rfl (Nat.le_of_ble_eq_true rfl) ?_
                  dsimp only [List.set]
                  exact fin _ (by omega)
                · skip
                  refine tr_iconst (pc := 119) dX10_fits_119 ⟨by decide, by decide⟩ ?_
                  refine tr_goto (pc := 120) (tgt := 124) dX10_fits_120 (by decide) ?_
                  refine tr_istore (pc := 124) dX10_fits_124 rfl (Nat.le_of_ble_eq_true rfl) ?_
                  dsimp only [List.set]
                  exact fin _ (by omega)
        · skip
          refine tr_iload (pc := 69) dX10_fits_69 rfl ?_
          refine tr_goto (pc := 71) (tgt := 76) dX10_fits_71 (by decide) ?_
          refine tr_topv (x' := a) (by rw [← ha]; split <;> omega) ?_
          refine tr_istore (pc := 76) dX10_fits_76 rfl (Nat.le_of_ble_eq_true rfl) ?_
          dsimp only [List.set]
          refine tr_iload_n (pc := 78) dX10_fits_78 rfl ?_
          refine tr_iconst (pc := 79) dX10_fits_79 ⟨by decide, by decide⟩ ?_
          refine tr_icmpne (pc := 80) (tgt := 88) dX10_fits_80 (by decide) (fun c80 => ?_) (fun c80 => ?_)
          · skip
            refine tr_iload (pc := 88) dX10_fits_88 rfl ?_
            refine tr_topv (x' := b) (by rw [← hb]; split <;> omega) ?_
            refine tr_istore (pc := 90) dX10_fits_90 rfl (Nat.le_of_ble_eq_true rfl) ?_
            dsimp only [List.set]
            refine tr_iload (pc := 92) dX10_fits_92 rfl ?_
            refine tr_iload (pc := 94) dX10_fits_94 rfl ?_
            refine tr_icmpne (pc := 96) (tgt := 106) dX10_fits_96 (by decide) (fun c96 => ?_) (fun c96 => ?_)
            · skip
              refine tr_aload_n (pc := 106) dX10_fits_106 rfl (by decide) ?_
              refine tr_iload_n (pc := 107) dX10_fits_107 rfl ?_
              refine tr_iload (pc := 108) dX10_fits_108 rfl ?_
              refine tr_iload (pc := 110) dX10_fits_110 rfl ?_
              refine tr_cVi3 (pc := 112) dX10_fits_112 mtX10_which lv10_143 rfl sg101 kc10 ⟨(Nat.le_of_ble_eq_true rfl), (Nat.le_of_ble_eq_true rfl)⟩ nlX10_which (Nat.le_of_ble_eq_true rfl) ⟨(Nat.le_of_ble_eq_true rfl), (Nat.le_of_ble_eq_true rfl)⟩ (sp_X10_which (by omega) hs1) (fun r112 M112 h112 => ?_)
              obtain ⟨hr112, hM112⟩ := h112
              obtain rfl := hr112.symm
              obtain rfl := hM112.symm
              refine tr_iconst (pc := 115) dX10_fits_115 ⟨by decide, by decide⟩ ?_
              refine tr_icmpne (pc := 116) (tgt := 123) dX10_fits_116 (by decide) (fun c116 => ?_) (fun c116 => ?_)
              · skip
                refine tr_iconst (pc := 123) dX10_fits_123 ⟨by decide, by decide⟩ ?_
                refine tr_istore (pc := 124) dX10_fits_124 rfl (Nat.le_of_ble_eq_true rfl) ?_
                dsimp only [List.set]
                exact fin _ (by omega)
              · skip
                refine tr_iconst (pc := 119) dX10_fits_119 ⟨by decide, by decide⟩ ?_
                refine tr_goto (pc := 120) (tgt := 124) dX10_fits_120 (by decide) ?_
                refine tr_istore (pc := 124) dX10_fits_124 rfl (Nat.le_of_ble_eq_true rfl) ?_
                dsimp only [List.set]
                exact fin _ (by omega)
            · skip
              refine tr_iload (pc := 99) dX10_fits_99 rfl ?_
              refine tr_iload (pc := 101) dX10_fits_101 rfl ?_
              refine tr_icmpeq (pc := 103) (tgt := 119) dX10_fits_103 (by decide) (fun c103 => ?_) (fun c103 => ?_)
              · skip
                refine tr_iconst (pc := 119) dX10_fits_119 ⟨by decide, by decide⟩ ?_
                refine tr_goto (pc := 120) (tgt := 124) dX10_fits_120 (by decide) ?_
                refine tr_istore (pc := 124) dX10_fits_124 rfl (Nat.le_of_ble_eq_true rfl) ?_
                dsimp only [List.set]
                exact fin _ (by omega)
              · skip
                refine tr_aload_n (pc := 106) dX10_fits_106 rfl (by decide) ?_
                refine tr_iload_n (pc := 107) dX10_fits_107 rfl ?_
                refine tr_iload (pc := 108) dX10_fits_108 rfl ?_
                refine tr_iload (pc := 110) dX10_fits_110 rfl ?_
                refine tr_cVi3 (pc := 112) dX10_fits_112 mtX10_which lv10_143 rfl sg101 kc10 ⟨(Nat.le_of_ble_eq_true rfl), (Nat.le_of_ble_eq_true rfl)⟩ nlX10_which (Nat.le_of_ble_eq_true rfl) ⟨(Nat.le_of_ble_eq_true rfl), (Nat.le_of_ble_eq_true rfl)⟩ (sp_X10_which (by omega) hs1) (fun r112 M112 h112 => ?_)
                obtain ⟨hr112, hM112⟩ := h112
                obtain rfl := hr112.symm
                obtain rfl := hM112.symm
                refine tr_iconst (pc := 115) dX10_fits_115 ⟨by decide, by decide⟩ ?_
                refine tr_icmpne (pc := 116) (tgt := 123) dX10_fits_116 (by decide) (fun c116 => ?_) (fun c116 => ?_)
                · skip
                  refine tr_iconst (pc := 123) dX10_fits_123 ⟨by decide, by decide⟩ ?_
                  refine tr_istore (pc := 124) dX10_fits_124 rfl (Nat.le_of_ble_eq_true rfl) ?_
                  dsimp only [List.set]
                  exact fin _ (by omega)
                · skip
                  refine tr_iconst (pc := 119) dX10_fits_119 ⟨by decide, by decide⟩ ?_
                  refine tr_goto (pc := 120) (tgt := 124) dX10_fits_120 (by decide) ?_
                  refine tr_istore (pc := 124) dX10_fits_124 rfl (Nat.le_of_ble_eq_true rfl) ?_
                  dsimp only [List.set]
                  exact fin _ (by omega)
          · skip
            refine tr_iload (pc := 83) dX10_fits_83 rfl ?_
            refine tr_goto (pc := 85) (tgt := 90) dX10_fits_85 (by decide) ?_
            refine tr_topv (x' := b) (by rw [← hb]; split <;> omega) ?_
            refine tr_istore (pc := 90) dX10_fits_90 rfl (Nat.le_of_ble_eq_true rfl) ?_
            dsimp only [List.set]
            refine tr_iload (pc := 92) dX10_fits_92 rfl ?_
            refine tr_iload (pc := 94) dX10_fits_94 rfl ?_
            refine tr_icmpne (pc := 96) (tgt := 106) dX10_fits_96 (by decide) (fun c96 => ?_) (fun c96 => ?_)
            · skip
              refine tr_aload_n (pc := 106) dX10_fits_106 rfl (by decide) ?_
              refine tr_iload_n (pc := 107) dX10_fits_107 rfl ?_
              refine tr_iload (pc := 108) dX10_fits_108 rfl ?_
              refine tr_iload (pc := 110) dX10_fits_110 rfl ?_
              refine tr_cVi3 (pc := 112) dX10_fits_112 mtX10_which lv10_143 rfl sg101 kc10 ⟨(Nat.le_of_ble_eq_true rfl), (Nat.le_of_ble_eq_true rfl)⟩ nlX10_which (Nat.le_of_ble_eq_true rfl) ⟨(Nat.le_of_ble_eq_true rfl), (Nat.le_of_ble_eq_true rfl)⟩ (sp_X10_which (by omega) hs1) (fun r112 M112 h112 => ?_)
              obtain ⟨hr112, hM112⟩ := h112
              obtain rfl := hr112.symm
              obtain rfl := hM112.symm
              refine tr_iconst (pc := 115) dX10_fits_115 ⟨by decide, by decide⟩ ?_
              refine tr_icmpne (pc := 116) (tgt := 123) dX10_fits_116 (by decide) (fun c116 => ?_) (fun c116 => ?_)
              · skip
                refine tr_iconst (pc := 123) dX10_fits_123 ⟨by decide, by decide⟩ ?_
                refine tr_istore (pc := 124) dX10_fits_124 rfl (Nat.le_of_ble_eq_true rfl) ?_
                dsimp only [List.set]
                exact fin _ (by omega)
              · skip
                refine tr_iconst (pc := 119) dX10_fits_119 ⟨by decide, by decide⟩ ?_
                refine tr_goto (pc := 120) (tgt := 124) dX10_fits_120 (by decide) ?_
                refine tr_istore (pc := 124) dX10_fits_124 rfl (Nat.le_of_ble_eq_true rfl) ?_
                dsimp only [List.set]
                exact fin _ (by omega)
            · skip
              refine tr_iload (pc := 99) dX10_fits_99 rfl ?_
              refine tr_iload (pc := 101) dX10_fits_101 rfl ?_
              refine tr_icmpeq (pc := 103) (tgt := 119) dX10_fits_103 (by decide) (fun c103 => ?_) (fun c103 => ?_)
              · skip
                refine tr_iconst (pc := 119) dX10_fits_119 ⟨by decide, by decide⟩ ?_
                refine tr_goto (pc := 120) (tgt := 124) dX10_fits_120 (by decide) ?_
                refine tr_istore (pc := 124) dX10_fits_124 rfl (Nat.le_of_ble_eq_true rfl) ?_
                dsimp only [List.set]
                exact fin _ (by omega)
              · skip
                refine tr_aload_n (pc := 106) dX10_fits_106 rfl (by decide) ?_
                refine tr_iload_n (pc := 107) dX10_fits_107 rfl ?_
                refine tr_iload (pc := 108) dX10_fits_108 rfl ?_
                refine tr_iload (pc := 110) dX10_fits_110 rfl ?_
                refine tr_cVi3 (pc := 112) dX10_fits_112 mtX10_which lv10_143 rfl sg101 kc10 ⟨(Nat.le_of_ble_eq_true rfl), (Nat.le_of_ble_eq_true rfl)⟩ nlX10_which (Nat.le_of_ble_eq_true rfl) ⟨(Nat.le_of_ble_eq_true rfl), (Nat.le_of_ble_eq_true rfl)⟩ (sp_X10_which (by omega) hs1) (fun r112 M112 h112 => ?_)
                obtain ⟨hr112, hM112⟩ := h112
                obtain rfl := hr112.symm
                obtain rfl := hM112.symm
                refine tr_iconst (pc := 115) dX10_fits_115 ⟨by decide, by decide⟩ ?_
                refine tr_icmpne (pc := 116) (tgt := 123) dX10_fits_116 (by decide) (fun c116 => ?_) (fun c116 => ?_)
                · skip
                  refine tr_iconst (pc := 123) dX10_fits_123 ⟨by decide, by decide⟩ ?_
                  refine tr_istore (pc := 124) dX10_fits_124 rfl (Nat.le_of_ble_eq_true rfl) ?_
                  dsimp only [List.set]
                  exact fin _ (by omega)
                · skip
                  refine tr_iconst (pc := 119) dX10_fits_119 ⟨by decide, by decide⟩ ?_
                  refine tr_goto (pc := 120) (tgt := 124) dX10_fits_120 (by decide) ?_
                  refine tr_istore (pc := 124) dX10_fits_124 rfl (Nat.le_of_ble_eq_true rfl) ?_
                  dsimp only [List.set]
                  exact fin _ (by omega)
    refine tr_aload_n (pc := 0) dX10_fits_0 rfl (by decide) ?_
    refine tr_iload_n (pc := 1) dX10_fits_1 rfl ?_
    refine tr_iload_n (pc := 2) dX10_fits_2 rfl ?_
    refine tr_cVi2 (pc := 3) dX10_fits_3 mtX10_isGenerator lv10_155 rfl sg101 kc10 ⟨(Nat.le_of_ble_eq_true rfl), (Nat.le_of_ble_eq_true rfl)⟩ nlX10_isGenerator (Nat.le_of_ble_eq_true rfl) ⟨(Nat.le_of_ble_eq_true rfl), (Nat.le_of_ble_eq_true rfl)⟩ (sp_X10_isGenerator hC) (fun r3 M3 h3 => ?_)
    obtain ⟨hr3, hM3⟩ := h3
    obtain rfl := hr3.symm
    obtain rfl := hM3.symm
    refine tr_ifeq (pc := 6) (tgt := 30) dX10_fits_6 (by decide) (fun c6 => absurd c6 (by omega)) (fun c6 => ?_)
    refine tr_iload_n (pc := 9) dX10_fits_9 rfl ?_
    refine tr_i2l (pc := 10) dX10_fits_10 ?_
    refine tr_lconst (pc := 11) (x := 0) dX10_fits_11 (by decide) ⟨by decide, by decide⟩ ?_
    refine tr_lconst (pc := 12) (x := 1) dX10_fits_12 (by decide) ⟨by decide, by decide⟩ ?_
    refine tr_cSi3 (pc := 13) dX10_fits_13 mtX10_isFrom ls10_115 rfl ⟨(Nat.le_of_ble_eq_true rfl), (Nat.le_of_ble_eq_true rfl)⟩ nlX10_isFrom (Nat.le_of_ble_eq_true rfl) ⟨(Nat.le_of_ble_eq_true rfl), (Nat.le_of_ble_eq_true rfl)⟩ (sp_X10_isFrom) (fun r13 M13 h13 => ?_)
    obtain ⟨hr13, hM13⟩ := h13
    obtain rfl := hr13.symm
    obtain rfl := hM13.symm
    refine tr_ifeq (pc := 16) (tgt := 30) dX10_fits_16 (by decide) (fun c16 => ?_) (fun c16 => ?_)
    · skip
      refine tr_iconst (pc := 30) dX10_fits_30 ⟨by decide, by decide⟩ ?_
      refine tr_ireti (pc := 31) dX10_fits_31 rfl ?_
      refine ⟨?_, fQ.rf⟩
      unfold x_fits
      rw [if_pos (show ¬ ((0 ≤ i ∧ i ≤ 1) ∧ (0 ≤ k ∧ k < (csel i C).length)) ∨ ¬ (0 ≤ lt ∧ lt ≤ 1) ∨ ¬ (0 ≤ w ∧ w ≤ 1) by omega)]
    · skip
      refine tr_iload (pc := 19) dX10_fits_19 rfl ?_
      refine tr_i2l (pc := 21) dX10_fits_21 ?_
      refine tr_lconst (pc := 22) (x := 0) dX10_fits_22 (by decide) ⟨by decide, by decide⟩ ?_
      refine tr_lconst (pc := 23) (x := 1) dX10_fits_23 (by decide) ⟨by decide, by decide⟩ ?_
      refine tr_cSi3 (pc := 24) dX10_fits_24 mtX10_isFrom ls10_115 rfl ⟨(Nat.le_of_ble_eq_true rfl), (Nat.le_of_ble_eq_true rfl)⟩ nlX10_isFrom (Nat.le_of_ble_eq_true rfl) ⟨(Nat.le_of_ble_eq_true rfl), (Nat.le_of_ble_eq_true rfl)⟩ (sp_X10_isFrom) (fun r24 M24 h24 => ?_)
      obtain ⟨hr24, hM24⟩ := h24
      obtain rfl := hr24.symm
      obtain rfl := hM24.symm
      refine tr_ifne (pc := 27) (tgt := 32) dX10_fits_27 (by decide) (fun c27 => ?_) (fun c27 => ?_)
      · skip
        refine tr_aload_n (pc := 32) dX10_fits_32 rfl (by decide) ?_
        refine tr_iload_n (pc := 33) dX10_fits_33 rfl ?_
        refine tr_iload_n (pc := 34) dX10_fits_34 rfl ?_
        refine tr_cVi2 (pc := 35) dX10_fits_35 mtX10_a lv10_125 rfl sg101 kc10 ⟨(Nat.le_of_ble_eq_true rfl), (Nat.le_of_ble_eq_true rfl)⟩ nlX10_a (Nat.le_of_ble_eq_true rfl) ⟨(Nat.le_of_ble_eq_true rfl), (Nat.le_of_ble_eq_true rfl)⟩ (sp_ra (by omega) hgn.2.1 (by omega) hgp.1) (fun r35 M35 h35 => ?_)
        obtain ⟨hr35, hM35⟩ := h35
        obtain rfl := hr35.symm
        obtain rfl := hM35.symm
        refine tr_istore (pc := 38) dX10_fits_38 rfl (Nat.le_of_ble_eq_true rfl) ?_
        dsimp only [List.set]
        refine tr_aload_n (pc := 40) dX10_fits_40 rfl (by decide) ?_
        refine tr_iload_n (pc := 41) dX10_fits_41 rfl ?_
        refine tr_iload_n (pc := 42) dX10_fits_42 rfl ?_
        refine tr_cVi2 (pc := 43) dX10_fits_43 mtX10_b lv10_129 rfl sg101 kc10 ⟨(Nat.le_of_ble_eq_true rfl), (Nat.le_of_ble_eq_true rfl)⟩ nlX10_b (Nat.le_of_ble_eq_true rfl) ⟨(Nat.le_of_ble_eq_true rfl), (Nat.le_of_ble_eq_true rfl)⟩ (sp_rb (by omega) hgn.2.1 (by omega) hgp.2) (fun r43 M43 h43 => ?_)
        obtain ⟨hr43, hM43⟩ := h43
        obtain rfl := hr43.symm
        obtain rfl := hM43.symm
        refine tr_istore (pc := 46) dX10_fits_46 rfl (Nat.le_of_ble_eq_true rfl) ?_
        dsimp only [List.set]
        refine tr_iconst (pc := 48) dX10_fits_48 ⟨by decide, by decide⟩ ?_
        refine tr_istore (pc := 49) dX10_fits_49 rfl (Nat.le_of_ble_eq_true rfl) ?_
        dsimp only [List.set]
        refine tr_bipush (pc := 51) dX10_fits_51 ⟨by decide, ⟨by decide, by decide⟩⟩ ?_
        refine tr_istore (pc := 53) dX10_fits_53 rfl (Nat.le_of_ble_eq_true rfl) ?_
        dsimp only [List.set]
        refine tr_iconst (pc := 55) dX10_fits_55 ⟨by decide, by decide⟩ ?_
        refine tr_istore (pc := 56) dX10_fits_56 rfl (Nat.le_of_ble_eq_true rfl) ?_
        dsimp only [List.set]
        unfold x_fits
        rw [if_neg (show ¬ (¬ ((0 ≤ i ∧ i ≤ 1) ∧ (0 ≤ k ∧ k < (csel i C).length)) ∨ ¬ (0 ≤ lt ∧ lt ≤ 1) ∨ ¬ (0 ≤ w ∧ w ≤ 1)) by omega)]
        exact loop (by omega) (by omega) 10 0 0 (-5) _ _ _ M (fun h => by cases h) (fun h => by cases h) (by omega) (by omega) (by omega) (by omega) (Or.inl ⟨rfl, rfl⟩) fQ.rf
      · skip
        refine tr_iconst (pc := 30) dX10_fits_30 ⟨by decide, by decide⟩ ?_
        refine tr_ireti (pc := 31) dX10_fits_31 rfl ?_
        refine ⟨?_, fQ.rf⟩
        unfold x_fits
        rw [if_pos (show ¬ ((0 ≤ i ∧ i ≤ 1) ∧ (0 ≤ k ∧ k < (csel i C).length)) ∨ ¬ (0 ≤ lt ∧ lt ≤ 1) ∨ ¬ (0 ≤ w ∧ w ≤ 1) by omega)]
  · skip
    refine tr_aload_n (pc := 0) dX10_fits_0 rfl (by decide) ?_
    refine tr_iload_n (pc := 1) dX10_fits_1 rfl ?_
    refine tr_iload_n (pc := 2) dX10_fits_2 rfl ?_
    refine tr_cVi2 (pc := 3) dX10_fits_3 mtX10_isGenerator lv10_155 rfl sg101 kc10 ⟨(Nat.le_of_ble_eq_true rfl), (Nat.le_of_ble_eq_true rfl)⟩ nlX10_isGenerator (Nat.le_of_ble_eq_true rfl) ⟨(Nat.le_of_ble_eq_true rfl), (Nat.le_of_ble_eq_true rfl)⟩ (sp_X10_isGenerator hC) (fun r3 M3 h3 => ?_)
    obtain ⟨hr3, hM3⟩ := h3
    obtain rfl := hr3.symm
    obtain rfl := hM3.symm
    refine tr_ifeq (pc := 6) (tgt := 30) dX10_fits_6 (by decide) (fun c6 => ?_) (fun c6 => absurd c6 (by omega))
    refine tr_iconst (pc := 30) dX10_fits_30 ⟨by decide, by decide⟩ ?_
    refine tr_ireti (pc := 31) dX10_fits_31 rfl ?_
    refine ⟨?_, fQ.rf⟩
    unfold x_fits
    rw [if_pos (Or.inl hgn)]
