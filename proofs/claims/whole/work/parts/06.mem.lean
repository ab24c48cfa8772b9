section TkMem
variable {G : tk_G} {f : tk_F} {pc : Nat} {ls st : List tk_V} {S : tk_S} {M : tk_M} {k n : Nat} {Q : tk_V → tk_S → tk_M → Prop}
theorem tk_in (ws : List Cond) (ps : List Nat) (hp : ws = ps.filterMap (fun i => lw_tbl[i]?)) (h : ws.all goodWord = true) : ∀ w ∈ ws, w ∈ tk_tb := by
  intro w hw
  have h1 := List.all_eq_true.mp h w hw
  rw [hp] at hw
  obtain ⟨i, -, hi⟩ := List.mem_filterMap.mp hw
  exact List.mem_filter.mpr ⟨List.mem_of_getElem? hi, h1⟩
theorem tk_sg_at {c : Int} {q : tk_C} (h : tk_sg S c = some q) : 0 ≤ c ∧ S[c.toNat]? = some q := by
  unfold tk_sg at h
  by_cases h0 : c < 0
  · rw [if_pos h0] at h; cases h
  · rw [if_neg h0] at h; exact ⟨by omega, h⟩
theorem tk_ws_at {c : Int} {q : tk_C} (h : tk_sg S c = some q) : (tk_ws G S M)[c.toNat]? = some (G.1 + c.toNat, tk_ent G q (M c)) := by
  obtain ⟨h0, h1⟩ := tk_sg_at h
  unfold tk_ws
  rw [List.getElem?_mapIdx, h1]
  show some (G.1 + c.toNat, tk_ent G q (M ((c.toNat : Nat) : Int))) = _
  rw [show ((c.toNat : Nat) : Int) = c by omega]
theorem tk_ws_D (G : tk_G) (S : tk_S) (M : tk_M) : va_D (tk_A G) (tk_ws G S M) := by
  refine ⟨fun i j p q hi hj hpq => ?_, fun i q hi => ?_⟩
  · unfold tk_ws at hi hj
    rw [List.getElem?_mapIdx] at hi hj
    cases h1 : S[i]? with
    | none => rw [h1] at hi; cases hi
    | some a =>
      cases h2 : S[j]? with
      | none => rw [h2] at hj; cases hj
      | some b =>
        rw [h1] at hi; rw [h2] at hj
        cases hi; cases hj
        have h3 : G.1 + i = G.1 + j := hpq
        omega
  · unfold tk_ws at hi
    rw [List.getElem?_mapIdx] at hi
    cases h1 : S[i]? with
    | none => rw [h1] at hi; cases hi
    | some a => rw [h1] at hi; cases hi; exact Nat.le_add_right _ _
/-- one cell anew -/
theorem tk_ws_set {S' : tk_S} {M' : tk_M} {c : Int} {q : tk_C} (h0 : 0 ≤ c) (hlen : S'.length = S.length) (hq : S'[c.toNat]? = some q) (ho : ∀ i : Nat, i ≠ c.toNat → S'[i]? = S[i]? ∧ M' (i : Int) = M (i : Int)) : (tk_ws G S M).set c.toNat (G.1 + c.toNat, tk_ent G q (M' c)) = tk_ws G S' M' := by
  apply List.ext_getElem?
  intro i
  have hl : c.toNat < (tk_ws G S M).length := by
    unfold tk_ws
    rw [List.length_mapIdx, ← hlen]
    exact (List.getElem?_eq_some_iff.mp hq).1
  by_cases hi : i = c.toNat
  · subst hi
    rw [List.getElem?_set_self hl]
    unfold tk_ws
    rw [List.getElem?_mapIdx, hq]
    show _ = some (G.1 + c.toNat, tk_ent G q (M' ((c.toNat : Nat) : Int)))
    rw [show ((c.toNat : Nat) : Int) = c by omega]
  · rw [List.getElem?_set_ne (fun h => hi h.symm)]
    unfold tk_ws
    rw [List.getElem?_mapIdx, List.getElem?_mapIdx, (ho i hi).1, (ho i hi).2]
theorem tk_mu_at (M : tk_M) (c i v : Int) : tk_mu M c i v c i = v := by simp [tk_mu]
theorem tk_mu_c {M : tk_M} {c i v c' : Int} (h : c' ≠ c) : tk_mu M c i v c' = M c' := by funext j; simp [tk_mu, h]
theorem tk_mu_i {M : tk_M} {c i v c' i' : Int} (h : i' ≠ i) : tk_mu M c i v c' i' = M c' i' := by simp [tk_mu, h]
theorem tk_mok_mu {c i v : Int} {q : tk_C} (h : tk_mok S M) (hs : tk_sg S c = some q) (hv : tk_rng q.1 v) : tk_mok S (tk_mu M c i v) := by
  obtain ⟨h0, h1⟩ := tk_sg_at hs
  intro c' q' hq j hj
  by_cases e : (c' : Int) = c ∧ (j : Int) = i
  · have e2 : c' = c.toNat := by omega
    subst e2
    rw [h1] at hq
    cases hq
    rw [e.1, e.2, tk_mu_at]
    exact hv
  · have e3 : tk_mu M c i v c' j = M c' j := by unfold tk_mu; rw [if_neg e]
    rw [e3]
    exact h c' q' hq j hj
theorem tk_mok_at {c i : Int} {q : tk_C} (h : tk_mok S M) (hs : tk_sg S c = some q) (h1 : 0 ≤ i) (h2 : i < q.2.1) : tk_rng q.1 (M c i) := by
  obtain ⟨h0, h3⟩ := tk_sg_at hs
  have h4 := h c.toNat q h3 i.toNat (by omega)
  rw [show ((c.toNat : Nat) : Int) = c by omega, show ((i.toNat : Nat) : Int) = i by omega] at h4
  exact h4
/-- a class with its fields: known to the tables -/
def tk_cls (kd N : Nat) : Prop := vwCl[kd]? = some (RX_of kd, TX_of kd, N) ∧ (∀ w ∈ u_ws (RX_of kd) (TX_of kd) N, w ∈ tk_tb) ∧ (∀ j, j < N → parseFieldDescriptor (TX_of kd j).2.2.1 = some (tyX_of kd j)) ∧ (∀ a, a < N → ∀ b, b < N → a ≠ b → (TX_of kd a).2.1 ≠ (TX_of kd b).2.1) ∧ kd < 20
/-- a field as an instruction names it -/
def tk_fi (own : String) (idx kd N j tg : Nat) : Prop := Cond.fieldLink own idx (TX_of kd j).1 (TX_of kd j).2.1 (TX_of kd j).2.2.1 ∈ tk_tb ∧ tk_cls kd N ∧ j < N ∧ tk_tag kd j = tg
theorem tk_ent_o {kd N : Nat} {rl : List Int} {g : Int → Int} (h : kd < 20) : tk_ent G (kd, N, rl) g = .inr (kd, (List.range N).map (fun i => if tk_tag kd i = 2 then tk_e G (xR (rl.getD i (-1))) else tk_e G (xI (g i)))) := by
  unfold tk_ent
  rw [if_neg (by show ¬ kd = 20; omega), if_neg (by show ¬ kd = 21; omega), if_neg (by show ¬ kd = 22; omega), if_neg (by show ¬ kd = 23; omega), if_neg (by show ¬ kd = 24; omega)]
theorem tr_geti {own : String} {idx kd N j : Nat} {c ji : Int} {rl : List Int} (hd : decode f.2.1 pc = .ok (.getfield idx, 3)) (hf : tk_fi own idx kd N j 0) (ho : f.1.cls = own) (hs : tk_sg S c = some (kd, N, rl)) (hji : (j : Int) = ji) (kk : Ok G f (pc + 3) ls (xI (M c ji) :: st) S M k n Q) : Ok G f pc ls (xR c :: st) S M k n Q := by
  intro p l e s m args below meth c0 H locs la Z F hW hS hl hn hls hst hR
  subst hji
  obtain ⟨h1, ⟨c1, c2, c3, c4, c5⟩, h3, h4⟩ := hf
  obtain ⟨g0, g1⟩ := tk_sg_at hs
  have hr : tk_r32 (M c j) := by
    have := tk_mok_at hW.2 hs (i := (j : Int)) (by omega) (by show (j : Int) < (N : Int); omega)
    unfold tk_rng at this
    rwa [if_neg (by show ¬ kd = 21; omega)] at this
  have he := tk_ws_at (G := G) (M := M) hs
  rw [tk_ent_o c5] at he
  rw [List.map_cons, tk_eR g0]
  refine va_get F.1 F.2.1 F.2.2.2.2.1 c2 F.2.2.2.1 F.2.2.2.2.2.1.1 hW.1 c.toNat he c1 j h3 (F.2.2.2.2.1 _ (by rw [ho]; exact h1)) (fun _ h => h) (v := tk_e G (xI (M c j))) ?_ hd (kk p l e s m args below meth c0 H locs la Z F hW hS hl hn hls (tk_okc (tk_ok_I.mpr hr) (tk_okt hst)) hR)
  rw [List.getElem?_map, List.getElem?_range h3]
  show some (if tk_tag kd j = 2 then _ else _) = _
  rw [if_neg (by rw [h4]; decide)]
theorem tr_getr {own : String} {idx kd N j : Nat} {c x : Int} {rl : List Int} (hd : decode f.2.1 pc = .ok (.getfield idx, 3)) (hf : tk_fi own idx kd N j 2) (ho : f.1.cls = own) (hs : tk_sg S c = some (kd, N, rl)) (hx : rl.getD j (-1) = x) (kk : Ok G f (pc + 3) ls (xR x :: st) S M k n Q) : Ok G f pc ls (xR c :: st) S M k n Q := by
  intro p l e s m args below meth c0 H locs la Z F hW hS hl hn hls hst hR
  subst hx
  obtain ⟨h1, ⟨c1, c2, c3, c4, c5⟩, h3, h4⟩ := hf
  obtain ⟨g0, g1⟩ := tk_sg_at hs
  have he := tk_ws_at (G := G) (M := M) hs
  rw [tk_ent_o c5] at he
  rw [List.map_cons, tk_eR g0]
  refine va_get F.1 F.2.1 F.2.2.2.2.1 c2 F.2.2.2.1 F.2.2.2.2.2.1.1 hW.1 c.toNat he c1 j h3 (F.2.2.2.2.1 _ (by rw [ho]; exact h1)) (fun _ h => h) (v := tk_e G (xR (rl.getD j (-1)))) ?_ hd (kk p l e s m args below meth c0 H locs la Z F hW hS hl hn hls (tk_okc (tk_ok_R _) (tk_okt hst)) hR)
  rw [List.getElem?_map, List.getElem?_range h3]
  show some (if tk_tag kd j = 2 then _ else _) = _
  rw [if_pos h4]
theorem tk_fs_set {kd N j : Nat} {rl rl' : List Int} {g g' : Int → Int} {v : Value} (hv : (if tk_tag kd j = 2 then tk_e G (xR (rl'.getD j (-1))) else tk_e G (xI (g' j))) = v) (ho : ∀ i : Nat, i ≠ j → rl'.getD i (-1) = rl.getD i (-1) ∧ g' (i : Int) = g (i : Int)) :
    ((List.range N).map (fun i => if tk_tag kd i = 2 then tk_e G (xR (rl.getD i (-1))) else tk_e G (xI (g i)))).set j v = (List.range N).map (fun i => if tk_tag kd i = 2 then tk_e G (xR (rl'.getD i (-1))) else tk_e G (xI (g' i))) := by
  apply List.ext_getElem?
  intro i
  by_cases hi : i < N
  · by_cases hij : i = j
    · subst hij
      rw [List.getElem?_set_self (by simpa using hi), List.getElem?_map, List.getElem?_range hi]
      show _ = some (if tk_tag kd i = 2 then _ else _)
      rw [hv]
    · rw [List.getElem?_set_ne (fun h => hij h.symm), List.getElem?_map, List.getElem?_map, List.getElem?_range hi]
      show some (if tk_tag kd i = 2 then tk_e G (xR (rl.getD i (-1))) else tk_e G (xI (g i))) = some (if tk_tag kd i = 2 then tk_e G (xR (rl'.getD i (-1))) else tk_e G (xI (g' i)))
      rw [(ho i hij).1, (ho i hij).2]
  · rw [List.getElem?_eq_none (by simpa using hi), List.getElem?_eq_none (by simpa using hi)]
theorem tr_puti {own : String} {idx kd N j : Nat} {c ji x : Int} {rl : List Int} (hd : decode f.2.1 pc = .ok (.putfield idx, 3)) (hf : tk_fi own idx kd N j 0) (ho : f.1.cls = own) (hfin : (TX_of kd j).2.2.2 = false ∨ ((TX_of kd j).2.2.2 = true ∧ f.1.name = "<init>" ∧ (TX_of kd j).1 = f.1.cls)) (hty : tyX_of kd j = .int ∨ (tyX_of kd j = .boolean ∧ (x = 0 ∨ x = 1))) (hs : tk_sg S c = some (kd, N, rl)) (hji : (j : Int) = ji) (kk : Ok G f (pc + 3) ls st S (tk_mu M c ji x) k n Q) : Ok G f pc ls (xI x :: xR c :: st) S M k n Q := by
  intro p l e s m args below meth c0 H locs la Z F hW hS hl hn hls hst hR
  subst hji
  obtain ⟨h1, ⟨c1, c2, c3, c4, c5⟩, h3, h4⟩ := hf
  obtain ⟨g0, g1⟩ := tk_sg_at hs
  have hx := tk_ok_I.mp (hst _ List.mem_cons_self)
  have he := tk_ws_at (G := G) (M := M) hs
  rw [tk_ent_o c5] at he
  have hset : (tk_ws G S M).set c.toNat (G.1 + c.toNat, .inr (kd, ((List.range N).map (fun i => if tk_tag kd i = 2 then tk_e G (xR (rl.getD i (-1))) else tk_e G (xI (M c i)))).set j (.int (Int32.ofInt x)))) = tk_ws G S (tk_mu M c j x) := by
    rw [← tk_ws_set (S := S) (S' := S) (M := M) (M' := tk_mu M c j x) (q := (kd, N, rl)) g0 rfl g1 (fun i hi => ⟨rfl, tk_mu_c (by omega)⟩), tk_ent_o c5, tk_fs_set (rl' := rl) (g' := tk_mu M c j x c)]
    · rw [if_neg (by rw [h4]; decide), tk_mu_at]; rfl
    · exact fun i hi => ⟨rfl, tk_mu_i (by omega)⟩
  have hn2 : narrow (tyX_of kd j) (.int (Int32.ofInt x)) = .int (Int32.ofInt x) := by
    rcases hty with h | ⟨h, h5 | h5⟩ <;> rw [h]
    · rfl
    · subst h5; decide
    · subst h5; decide
  have hfit : fits (tyX_of kd j) (.int (Int32.ofInt x)) = true := by
    rcases hty with h | ⟨h, h5 | h5⟩ <;> rw [h]
    · rfl
    · subst h5; decide
    · subst h5; decide
  have go : ∀ (H1 : Heap) (locs1 : List Loc), va_P G.2.1 vwCl ((tk_ws G S M).set c.toNat (G.1 + c.toNat, .inr (kd, ((List.range N).map (fun i => if tk_tag kd i = 2 then tk_e G (xR (rl.getD i (-1))) else tk_e G (xI (M c i)))).set j (.int (Int32.ofInt x))))) H1 → va_S (tk_A G) s.heap H1 locs1 → W p l e (tk_rm f) s m args below meth c0 H1 locs1 k n Z (F0 m (pc + 3) la (st.map (tk_e G))) := by
    intro H1 locs1 hP1 hS1
    rw [hset] at hP1
    exact kk p l e s m args below meth c0 H1 locs1 la Z F ⟨hP1, tk_mok_mu hW.2 hs (by unfold tk_rng; rw [if_neg (by show ¬ kd = 21; omega)]; exact hx)⟩ hS1 hl hn hls (tk_okt (tk_okt hst)) hR
  have hlen : j < ((List.range N).map (fun i => if tk_tag kd i = 2 then tk_e G (xR (rl.getD i (-1))) else tk_e G (xI (M c i)))).length := by simpa using h3
  rw [List.map_cons, List.map_cons, tk_eR g0]
  rcases hfin with h | ⟨h, h7, h8⟩
  · exact va_put F.1 F.2.1 F.2.2.2.2.1 c2 (tyX_of kd) c3 c4 F.2.2.2.1 F.2.2.2.2.2.1.1 hW.1 (tk_ws_D G S M) hS c.toNat he c1 j h3 (F.2.2.2.2.1 _ (by rw [ho]; exact h1)) (fun _ h => h) h (c3 j h3) hn2 hfit hlen hd (fun H1 locs1 hP1 _ hS1 => go H1 locs1 hP1 hS1)
  · exact va_putF F.1 F.2.1 F.2.2.2.2.1 c2 (tyX_of kd) c3 c4 F.2.2.2.1 F.2.2.2.2.2.1.1 hW.1 (tk_ws_D G S M) hS c.toNat he c1 j h3 (F.2.2.2.2.1 _ (by rw [ho]; exact h1)) (fun _ h => h) h (F.2.2.2.2.2.2.trans h7) h8 (c3 j h3) hn2 hfit hlen hd (fun H1 locs1 hP1 _ hS1 => go H1 locs1 hP1 hS1)
end TkMem
