section TkAlloc
variable {G : tk_G} {f : tk_F} {pc : Nat} {ls st : List tk_V} {S : tk_S} {M : tk_M} {k n : Nat} {Q : tk_V → tk_S → tk_M → Prop}
theorem tk_ws_push (q : tk_C) : tk_ws G S M ++ [(G.1 + S.length, tk_ent G q (M (S.length : Int)))] = tk_ws G (S ++ [q]) M := by
  unfold tk_ws
  rw [List.mapIdx_append]
  simp
theorem tk_newq {D : va_G} {cl : List vw_C} {q z : Nat} {en : va_E} {H1 : Heap} (hP : va_P D cl (tk_ws G S M ++ [(q, en)]) H1) (hD : va_D (tk_A G) (tk_ws G S M ++ [(q, en)])) (hz : H1.size ≤ z) (he : z = G.1 + S.length + 1) : q = G.1 + S.length := by
  have hlen : (tk_ws G S M).length = S.length := by unfold tk_ws; rw [List.length_mapIdx]
  have h1 : (tk_ws G S M ++ [(q, en)])[S.length]? = some (q, en) := by
    rw [List.getElem?_append_right (by omega), hlen, Nat.sub_self]; rfl
  have h2 : q < H1.size := (hP _ _ h1).lt
  have h3 : G.1 ≤ q := hD.2 _ _ h1
  apply Classical.byContradiction
  intro h4
  have h5 : q - G.1 < S.length := by omega
  have h6 : (tk_ws G S M ++ [(q, en)])[q - G.1]? = some (G.1 + (q - G.1), tk_ent G S[q - G.1] (M ((q - G.1 : Nat) : Int))) := by
    rw [List.getElem?_append_left (by omega)]
    unfold tk_ws
    rw [List.getElem?_mapIdx, List.getElem?_eq_getElem h5]; rfl
  have h7 := hD.1 _ _ _ _ h1 h6 (by show q = G.1 + (q - G.1); omega)
  omega
theorem tk_mok_push {q : tk_C} (h : tk_mok S M) (h0 : ∀ i : Int, M (S.length : Int) i = 0) : tk_mok (S ++ [q]) M := by
  intro c q' hq i hi
  by_cases hc : c < S.length
  · rw [List.getElem?_append_left hc] at hq
    exact h c q' hq i hi
  · have hz := (List.getElem?_eq_some_iff.mp hq).1
    rw [List.length_append] at hz
    have : c = S.length := by simp at hz; omega
    subst this
    rw [h0]
    unfold tk_rng tk_r32 tk_r64
    split <;> omega
def tk_dv (kd N : Nat) : Prop := ∀ j, j < N → defaultValue (tyX_of kd j) = if tk_tag kd j = 2 then Value.null else Value.int 0
def tk_nw (own : String) (idx kd N : Nat) : Prop := Cond.classLink own idx (RX_of kd) ∈ tk_tb ∧ Cond.instantiable (RX_of kd) N ∈ tk_tb ∧ Cond.initialized (RX_of kd) ∈ tk_tb ∧ tk_cls kd N ∧ tk_dv kd N
theorem tr_new {own : String} {idx kd N : Nat} (hd : decode f.2.1 pc = .ok (.new idx, 3)) (hw : tk_nw own idx kd N) (ho : f.1.cls = own) (h0 : ∀ i : Int, M (S.length : Int) i = 0) (hcs : k + 1 ≤ f.2.2.2.2.2.1 ∧ n + N ≤ f.2.2.2.2.2.2) (kk : Ok G f (pc + 3) ls (xR (S.length : Int) :: st) (S ++ [(kd, N, List.replicate N (-1))]) M (k + 1) (n + N) Q) : Ok G f pc ls st S M k n Q := by
  intro p l e s m args below meth c H locs la Z F hW hS hl hn hls hst hR
  subst ho
  obtain ⟨w1, w2, w3, ⟨c1, c2, c3, c4, c5⟩, w5⟩ := hw
  have hA : ∀ q : Nat, s.heap.size ≤ q → tk_A G q := fun q h => Nat.le_trans F.2.2.2.2.2.1.2.2.2.2.2 h
  refine va_new (fs := (List.range N).map (fun i => if tk_tag kd i = 2 then tk_e G (xR ((List.replicate N (-1) : List Int).getD i (-1))) else tk_e G (xI (M (S.length : Int) i)))) F.1 F.2.1 F.2.2.2.2.1 c2 (tyX_of kd) c3 F.2.2.2.1 (F.2.2.2.2.1 _ w1) (F.2.2.2.2.1 _ w2) (F.2.2.2.2.1 _ w3) F.2.2.2.2.2.1.1 hW.1 (tk_ws_D G S M) hS hA c1 (fun j hj => ?_) hcs.1 hcs.2 hd (fun q H1 hP1 hD1 hS1 => ?_)
  · rw [w5 j hj]
    unfold vp_V
    rw [List.getD_eq_getElem?_getD, List.getElem?_map, List.getElem?_range hj]
    show _ = (if tk_tag kd j = 2 then _ else _)
    by_cases ht : tk_tag kd j = 2
    · rw [if_pos ht, if_pos ht]
      have : (List.replicate N (-1) : List Int).getD j (-1) = -1 := by
        rw [List.getD_eq_getElem?_getD, List.getElem?_replicate]; split <;> rfl
      rw [this]; rfl
    · rw [if_neg ht, if_neg ht, h0]; rfl
  · intro T1 hT1 X1
    have hsz := X1.heapSize
    rw [hT1] at hsz
    have hq := tk_newq hP1 hD1 hsz (by have := hn.2; omega)
    subst hq
    have e1 := tk_ws_push (G := G) (S := S) (M := M) (kd, N, List.replicate N (-1))
    rw [tk_ent_o c5] at e1
    rw [e1] at hP1
    have h9 := kk p l e s m args below meth c H1 locs la Z F ⟨hP1, tk_mok_push hW.2 h0⟩ hS1 hl ⟨hn.1, by rw [List.length_append]; have := hn.2; simp only [List.length_cons, List.length_nil]; omega⟩ hls (tk_okc (tk_ok_R _) hst) hR T1 hT1 X1
    rw [List.map_cons, tk_eR (by omega)] at h9
    exact h9
theorem tk_cA {s : State} {cA : ClassId} {t0 : Nat} {ty : FieldType} (hty : ∀ C, ty ≠ .object C) (hK : va_K G.2.1 vwCl (tk_ty G) s) (hK2 : va_K G.2.1 vwCl (tk_ty G ++ [(cA, ty)]) s) (ht : (tk_ty G)[t0]? = some (G.2.2.1 t0, ty)) : cA = G.2.2.1 t0 := by
  have h1 := (hK.2 t0 _ ht).2
  have h2 := (hK2.2 5 (cA, ty) rfl).2
  cases ty with
  | object C => exact absurd rfl (hty C)
  | _ => exact Option.some.inj (h2.symm.trans h1)
theorem tr_newa {kd N t0 : Nat} {atype : ArrayType} {ty : FieldType} {z : Int} (hd : decode f.2.1 pc = .ok (.newarray atype, 2)) (hw : Cond.arrayClass ty ∈ tk_tb) (hty : newarray.typeOf atype = ty ∧ (∀ C, ty ≠ .object C) ∧ componentBytes ty ≤ 8) (ht : ∀ G : tk_G, (tk_ty G)[t0]? = some (G.2.2.1 t0, ty)) (hen : ∀ (G : tk_G) (g : Int → Int), (∀ i, g i = 0) → ∃ a0, tk_ent G (kd, N, []) g = .inl (G.2.2.1 t0, a0) ∧ ∀ cA : ClassId, vp_cell cA a0 = arrV cA N (fun _ => defaultValue ty)) (hz : z = (N : Int)) (hN : N ≤ 1000) (h0 : ∀ i : Int, M (S.length : Int) i = 0) (hcs : k + 1 ≤ f.2.2.2.2.2.1 ∧ n + N ≤ f.2.2.2.2.2.2) (kk : Ok G f (pc + 2) ls (xR (S.length : Int) :: st) (S ++ [(kd, N, [])]) M (k + 1) (n + N) Q) : Ok G f pc ls (xI z :: st) S M k n Q := by
  intro p l e s m args below meth c H locs la Z F hW hS hl hn hls hst hR
  have hA : ∀ q : Nat, s.heap.size ≤ q → tk_A G q := fun q h => Nat.le_trans F.2.2.2.2.2.1.2.2.2.2.2 h
  obtain ⟨a0, ha1, ha2⟩ := hen G (M (S.length : Int)) h0
  have rz := tk_ok_I.mp (hst _ List.mem_cons_self)
  have hw2 := F.2.2.2.2.1 _ hw
  rw [← hty.1] at hw2
  rw [List.map_cons]
  refine va_newa F.1 F.2.1 (atype := atype) (ty := ty) hw2 hty.1 F.2.2.2.2.2.1.1 hW.1 (tk_ws_D G S M) hS hA (n := Int32.ofInt z) (N' := N) (a0 := a0) ha2 ?_ ?_ ?_ hcs.1 hcs.2 hd (fun q cA H1 hK1 hP1 hD1 hS1 => ?_)
  · exact fun h => absurd ((i32_lt rz tk_r32_0).mp h) (by omega)
  · rw [i32_nat rz]; omega
  · exact Nat.le_trans (Nat.mul_le_mul hN hty.2.2) (by decide)
  · have hc := tk_cA hty.2.1 F.2.2.2.2.2.1.1 hK1 (ht G)
    subst hc
    intro T1 hT1 X1
    have hsz := X1.heapSize
    rw [hT1] at hsz
    have hq := tk_newq hP1 hD1 hsz (by have := hn.2; omega)
    subst hq
    have e1 := tk_ws_push (G := G) (S := S) (M := M) (kd, N, [])
    rw [ha1] at e1
    rw [e1] at hP1
    have h9 := kk p l e s m args below meth c H1 locs la Z F ⟨hP1, tk_mok_push hW.2 h0⟩ hS1 hl ⟨hn.1, by rw [List.length_append]; have := hn.2; simp only [List.length_cons, List.length_nil]; omega⟩ hls (tk_okc (tk_ok_R _) (tk_okt hst)) hR T1 hT1 X1
    rw [List.map_cons, tk_eR (by omega)] at h9
    exact h9
theorem tk_en20 (N : Nat) : ∀ (G : tk_G) (g : Int → Int), (∀ i, g i = 0) → ∃ a0, tk_ent G (20, N, []) g = .inl (G.2.2.1 0, a0) ∧ ∀ cA : ClassId, vp_cell cA a0 = arrV cA N (fun _ => defaultValue .int) := fun G g h => ⟨(N, .inl (fun j => Int32.ofInt (g j))), rfl, fun cA => by rw [vp_cell_i]; congr 1; funext j; rw [h]; rfl⟩
theorem tk_en21 (N : Nat) : ∀ (G : tk_G) (g : Int → Int), (∀ i, g i = 0) → ∃ a0, tk_ent G (21, N, []) g = .inl (G.2.2.1 1, a0) ∧ ∀ cA : ClassId, vp_cell cA a0 = arrV cA N (fun _ => defaultValue .long) := fun G g h => ⟨(N, .inr (.inl (fun j => Int64.ofInt (g j)))), rfl, fun cA => by rw [vp_cell_l]; congr 1; funext j; rw [h]; rfl⟩
theorem tk_en22 (N : Nat) : ∀ (G : tk_G) (g : Int → Int), (∀ i, g i = 0) → ∃ a0, tk_ent G (22, N, []) g = .inl (G.2.2.1 2, a0) ∧ ∀ cA : ClassId, vp_cell cA a0 = arrV cA N (fun _ => defaultValue .byte) := fun G g h => ⟨(N, .inl (fun j => Int32.ofInt (g j))), rfl, fun cA => by rw [vp_cell_i]; congr 1; funext j; rw [h]; rfl⟩
theorem tr_newi {N : Nat} {z : Int} (hd : decode f.2.1 pc = .ok (.newarray .int, 2)) (hw : Cond.arrayClass .int ∈ tk_tb) (hz : z = (N : Int)) (hN : N ≤ 1000) (h0 : ∀ i : Int, M (S.length : Int) i = 0) (hcs : k + 1 ≤ f.2.2.2.2.2.1 ∧ n + N ≤ f.2.2.2.2.2.2) (kk : Ok G f (pc + 2) ls (xR (S.length : Int) :: st) (S ++ [(20, N, [])]) M (k + 1) (n + N) Q) : Ok G f pc ls (xI z :: st) S M k n Q :=
  tr_newa (t0 := 0) (ty := .int) hd hw ⟨rfl, (fun C h => by cases h), by decide⟩ (fun _ => rfl) (tk_en20 N) hz hN h0 hcs kk
theorem tr_newl {N : Nat} {z : Int} (hd : decode f.2.1 pc = .ok (.newarray .long, 2)) (hw : Cond.arrayClass .long ∈ tk_tb) (hz : z = (N : Int)) (hN : N ≤ 1000) (h0 : ∀ i : Int, M (S.length : Int) i = 0) (hcs : k + 1 ≤ f.2.2.2.2.2.1 ∧ n + N ≤ f.2.2.2.2.2.2) (kk : Ok G f (pc + 2) ls (xR (S.length : Int) :: st) (S ++ [(21, N, [])]) M (k + 1) (n + N) Q) : Ok G f pc ls (xI z :: st) S M k n Q :=
  tr_newa (t0 := 1) (ty := .long) hd hw ⟨rfl, (fun C h => by cases h), by decide⟩ (fun _ => rfl) (tk_en21 N) hz hN h0 hcs kk
theorem tr_newb {N : Nat} {z : Int} (hd : decode f.2.1 pc = .ok (.newarray .byte, 2)) (hw : Cond.arrayClass .byte ∈ tk_tb) (hz : z = (N : Int)) (hN : N ≤ 1000) (h0 : ∀ i : Int, M (S.length : Int) i = 0) (hcs : k + 1 ≤ f.2.2.2.2.2.1 ∧ n + N ≤ f.2.2.2.2.2.2) (kk : Ok G f (pc + 2) ls (xR (S.length : Int) :: st) (S ++ [(22, N, [])]) M (k + 1) (n + N) Q) : Ok G f pc ls (xI z :: st) S M k n Q :=
  tr_newa (t0 := 2) (ty := .byte) hd hw ⟨rfl, (fun C h => by cases h), by decide⟩ (fun _ => rfl) (tk_en22 N) hz hN h0 hcs kk
theorem tr_anew {own C : String} {idx kd N t0 : Nat} {z : Int} (hd : decode f.2.1 pc = .ok (.anewarray idx, 3)) (hw : Cond.classLink own idx C ∈ tk_tb) (ho : f.1.cls = own) (hk : (kd = 23 ∧ t0 = 3 ∧ C = RX3) ∨ (kd = 24 ∧ t0 = 4 ∧ C = RX6)) (hz : z = (N : Int)) (hN : N ≤ 1000) (h0 : ∀ i : Int, M (S.length : Int) i = 0) (hcs : k + 1 ≤ f.2.2.2.2.2.1 ∧ n + N ≤ f.2.2.2.2.2.2) (kk : Ok G f (pc + 3) ls (xR (S.length : Int) :: st) (S ++ [(kd, N, List.replicate N (-1))]) M (k + 1) (n + N) Q) : Ok G f pc ls (xI z :: st) S M k n Q := by
  intro p l e s m args below meth c H locs la Z F hW hS hl hn hls hst hR
  have hA : ∀ q : Nat, s.heap.size ≤ q → tk_A G q := fun q h => Nat.le_trans F.2.2.2.2.2.1.2.2.2.2.2 h
  have rz := tk_ok_I.mp (hst _ List.mem_cons_self)
  subst ho
  have hrep : (fun j : Nat => tk_ro G ((List.replicate N (-1) : List Int).getD j (-1))) = fun _ => none := by
    funext j
    have : (List.replicate N (-1) : List Int).getD j (-1) = -1 := by
      rw [List.getD_eq_getElem?_getD, List.getElem?_replicate]; split <;> rfl
    rw [this]; rfl
  have hen : tk_ent G (kd, N, List.replicate N (-1)) (M (S.length : Int)) = .inl (G.2.2.1 t0, N, .inr (.inr (.inr (.inr (fun _ => none))))) := by
    rw [← hrep]
    rcases hk with ⟨rfl, rfl, rfl⟩ | ⟨rfl, rfl, rfl⟩ <;> rfl
  have hao : va_AO C s := by
    rcases hk with ⟨-, -, rfl⟩ | ⟨-, -, rfl⟩
    · exact F.2.2.2.2.2.1.2.2.2.2.1.2.1
    · exact F.2.2.2.2.2.1.2.2.2.2.1.2.2
  rw [List.map_cons]
  refine va_newq F.1 F.2.1 F.2.2.2.1 (F.2.2.2.2.1 _ hw) hao F.2.2.2.2.2.1.1 hW.1 (tk_ws_D G S M) hS hA (n := Int32.ofInt z) (N' := N) ?_ ?_ ?_ hcs.1 hcs.2 hd (fun q cA H1 hK1 hP1 hD1 hS1 => ?_)
  · exact fun h => absurd ((i32_lt rz tk_r32_0).mp h) (by omega)
  · rw [i32_nat rz]; omega
  · exact Nat.le_trans (Nat.mul_le_mul hN (Nat.le_refl 4)) (by decide)
  · have hc : cA = G.2.2.1 t0 := by
      obtain ⟨_, _, _, _, _, h2⟩ := (hK1.2 5 (cA, .object C) rfl).2
      rcases hk with ⟨_, rfl, rfl⟩ | ⟨_, rfl, rfl⟩
      · obtain ⟨_, _, _, _, _, h1⟩ := (F.2.2.2.2.2.1.1.2 3 _ rfl).2
        exact Option.some.inj (h2.symm.trans h1)
      · obtain ⟨_, _, _, _, _, h1⟩ := (F.2.2.2.2.2.1.1.2 4 _ rfl).2
        exact Option.some.inj (h2.symm.trans h1)
    subst hc
    intro T1 hT1 X1
    have hsz := X1.heapSize
    rw [hT1] at hsz
    have hq := tk_newq hP1 hD1 hsz (by have := hn.2; omega)
    subst hq
    have e1 := tk_ws_push (G := G) (S := S) (M := M) (kd, N, List.replicate N (-1))
    rw [hen] at e1
    rw [e1] at hP1
    have h9 := kk p l e s m args below meth c H1 locs la Z F ⟨hP1, tk_mok_push hW.2 h0⟩ hS1 hl ⟨hn.1, by rw [List.length_append]; have := hn.2; simp only [List.length_cons, List.length_nil]; omega⟩ hls (tk_okc (tk_ok_R _) (tk_okt hst)) hR T1 hT1 X1
    rw [List.map_cons, tk_eR (by omega)] at h9
    exact h9
/-- a cell comes into a slot: its class's row anew -/
def tk_sr (S : tk_S) (c : Int) (j : Nat) (x : Int) : tk_S := match S[c.toNat]? with
  | some (kd, N, rl) => S.set c.toNat (kd, N, rl.set j x)
  | none => S
theorem tk_sr_at {c : Int} {kd N j : Nat} {x : Int} {rl : List Int} (hs : tk_sg S c = some (kd, N, rl)) : tk_sr S c j x = S.set c.toNat (kd, N, rl.set j x) := by
  unfold tk_sr
  rw [(tk_sg_at hs).2]
theorem tk_mok_sr {c : Int} {kd N : Nat} {rl rl' : List Int} (h : tk_mok S M) (hs : tk_sg S c = some (kd, N, rl)) : tk_mok (S.set c.toNat (kd, N, rl')) M := by
  obtain ⟨g0, g1⟩ := tk_sg_at hs
  intro c' q' hq j hj
  by_cases e : c' = c.toNat
  · subst e
    rw [List.getElem?_set_self (List.getElem?_eq_some_iff.mp g1).1] at hq
    cases hq
    exact h _ _ g1 j hj
  · rw [List.getElem?_set_ne (fun h => e h.symm)] at hq
    exact h c' q' hq j hj
theorem tr_putr {own : String} {idx kd N j : Nat} {c x : Int} {rl : List Int} (hd : decode f.2.1 pc = .ok (.putfield idx, 3)) (hf : tk_fi own idx kd N j 2) (ho : f.1.cls = own) (hfin : (TX_of kd j).2.2.2 = true ∧ f.1.name = "<init>" ∧ (TX_of kd j).1 = f.1.cls) (hs : tk_sg S c = some (kd, N, rl)) (hrl : rl.length = N) (hx : 0 ≤ x) (kk : Ok G f (pc + 3) ls st (tk_sr S c j x) M k n Q) : Ok G f pc ls (xR x :: xR c :: st) S M k n Q := by
  intro p l e s m args below meth c0 H locs la Z F hW hS hl hn hls hst hR
  obtain ⟨h1, ⟨c1, c2, c3, c4, c5⟩, h3, h4⟩ := hf
  obtain ⟨g0, g1⟩ := tk_sg_at hs
  have he := tk_ws_at (G := G) (M := M) hs
  rw [tk_ent_o c5] at he
  have hlt : c.toNat < S.length := (List.getElem?_eq_some_iff.mp g1).1
  have hset : (tk_ws G S M).set c.toNat (G.1 + c.toNat, .inr (kd, ((List.range N).map (fun i => if tk_tag kd i = 2 then tk_e G (xR (rl.getD i (-1))) else tk_e G (xI (M c i)))).set j (.ref (G.1 + x.toNat)))) = tk_ws G (S.set c.toNat (kd, N, rl.set j x)) M := by
    rw [← tk_ws_set (S := S) (S' := S.set c.toNat (kd, N, rl.set j x)) (M := M) (M' := M) (q := (kd, N, rl.set j x)) g0 (List.length_set ..) (List.getElem?_set_self hlt) (fun i hi => ⟨List.getElem?_set_ne (fun h => hi h.symm), rfl⟩), tk_ent_o c5, tk_fs_set (rl' := rl.set j x) (g' := M c)]
    · rw [if_pos h4, List.getD_eq_getElem?_getD, List.getElem?_set_self (by omega)]; exact tk_eR hx
    · exact fun i hi => ⟨by rw [List.getD_eq_getElem?_getD, List.getD_eq_getElem?_getD, List.getElem?_set_ne (fun h => hi h.symm)], rfl⟩
  have hty : (∃ C, tyX_of kd j = .object C) ∨ ∃ t, tyX_of kd j = .array t := by
    unfold tk_tag at h4
    cases h5 : tyX_of kd j with
    | object C => exact Or.inl ⟨C, rfl⟩
    | array t => exact Or.inr ⟨t, rfl⟩
    | _ => rw [h5] at h4; cases h4
  have hn2 : narrow (tyX_of kd j) (.ref (G.1 + x.toNat)) = .ref (G.1 + x.toNat) := by
    rcases hty with ⟨C, h⟩ | ⟨t, h⟩ <;> rw [h] <;> rfl
  have hfit : fits (tyX_of kd j) (.ref (G.1 + x.toNat)) = true := by
    rcases hty with ⟨C, h⟩ | ⟨t, h⟩ <;> rw [h] <;> rfl
  have hlen : j < ((List.range N).map (fun i => if tk_tag kd i = 2 then tk_e G (xR (rl.getD i (-1))) else tk_e G (xI (M c i)))).length := by simpa using h3
  rw [List.map_cons, List.map_cons, tk_eR g0, tk_eR hx]
  refine va_putF F.1 F.2.1 F.2.2.2.2.1 c2 (tyX_of kd) c3 c4 F.2.2.2.1 F.2.2.2.2.2.1.1 hW.1 (tk_ws_D G S M) hS c.toNat he c1 j h3 (F.2.2.2.2.1 _ (by rw [ho]; exact h1)) (fun _ h => h) hfin.1 (F.2.2.2.2.2.2.trans hfin.2.1) hfin.2.2 (c3 j h3) hn2 hfit hlen hd (fun H1 locs1 hP1 _ hS1 => ?_)
  rw [hset] at hP1
  rw [tk_sr_at hs] at kk
  exact kk p l e s m args below meth c0 H1 locs1 la Z F ⟨hP1, tk_mok_sr hW.2 hs⟩ hS1 hl ⟨hn.1, by rw [List.length_set]; exact hn.2⟩ hls (tk_okt (tk_okt hst)) hR
theorem tr_aast {c x i : Int} {kd N kx Nx t0 : Nat} {rl rlx : List Int} (hd : decode f.2.1 pc = .ok (.aastore, 1)) (hs : tk_sg S c = some (kd, N, rl)) (hk : (kd = 23 ∧ t0 = 3 ∧ kx = 3 ∧ Nx = 3) ∨ (kd = 24 ∧ t0 = 4 ∧ kx = 6 ∧ Nx = 3)) (hx : tk_sg S x = some (kx, Nx, rlx)) (hrl : rl.length = N) (h0 : 0 ≤ i) (h1 : i < N) (kk : Ok G f (pc + 1) ls st (tk_sr S c i.toNat x) M k n Q) : Ok G f pc ls (xR x :: xI i :: xR c :: st) S M k n Q := by
  intro p l e s m args below meth c0 H locs la Z F hW hS hl hn hls hst hR
  obtain ⟨g0, g1⟩ := tk_sg_at hs
  obtain ⟨y0, y1⟩ := tk_sg_at hx
  have he := tk_ws_at (G := G) (M := M) hs
  have hex := tk_ws_at (G := G) (M := M) hx
  have ri := tk_ok_I.mp (tk_okt hst _ List.mem_cons_self)
  have hlt : c.toNat < S.length := (List.getElem?_eq_some_iff.mp g1).1
  have hen : ∀ rl : List Int, tk_ent G (kd, N, rl) (M c) = .inl (G.2.2.1 t0, N, .inr (.inr (.inr (.inr (fun j => tk_ro G (rl.getD j (-1))))))) := by
    intro rl
    rcases hk with ⟨rfl, rfl, -⟩ | ⟨rfl, rfl, -⟩ <;> rfl
  rw [hen] at he
  rw [tk_ent_o (by omega)] at hex
  have hset : (tk_ws G S M).set c.toNat (G.1 + c.toNat, .inl (G.2.2.1 t0, N, .inr (.inr (.inr (.inr (va_up (fun j => tk_ro G (rl.getD j (-1))) (Int32.ofInt i).toNatClampNeg (some (G.1 + x.toNat)))))))) = tk_ws G (S.set c.toNat (kd, N, rl.set i.toNat x)) M := by
    rw [← tk_ws_set (S := S) (S' := S.set c.toNat (kd, N, rl.set i.toNat x)) (M := M) (M' := M) (q := (kd, N, rl.set i.toNat x)) g0 (List.length_set ..) (List.getElem?_set_self hlt) (fun i hi => ⟨List.getElem?_set_ne (fun h => hi h.symm), rfl⟩), hen]
    congr 9
    funext j
    rw [i32_nat ri]
    unfold va_up
    by_cases hj : j = i.toNat
    · subst hj
      rw [if_pos rfl, List.getD_eq_getElem?_getD, List.getElem?_set_self (by omega)]
      unfold tk_ro
      rw [if_neg (by show ¬ x < 0; omega)]; rfl
    · rw [if_neg hj]
      dsimp only
      rw [List.getD_eq_getElem?_getD, List.getD_eq_getElem?_getD, List.getElem?_set_ne (fun h => hj h.symm)]
  rw [tk_sr_at hs] at kk
  have go : ∀ (H1 : Heap) (locs1 : List Loc), va_P G.2.1 vwCl ((tk_ws G S M).set c.toNat (G.1 + c.toNat, .inl (G.2.2.1 t0, N, .inr (.inr (.inr (.inr (va_up (fun j => tk_ro G (rl.getD j (-1))) (Int32.ofInt i).toNatClampNeg (some (G.1 + x.toNat))))))))) H1 → va_S (tk_A G) s.heap H1 locs1 → W p l e (tk_rm f) s m args below meth c0 H1 locs1 k n Z (F0 m (pc + 1) la (st.map (tk_e G))) := by
    intro H1 locs1 hP1 hS1
    rw [hset] at hP1
    exact kk p l e s m args below meth c0 H1 locs1 la Z F ⟨hP1, tk_mok_sr hW.2 hs⟩ hS1 hl ⟨hn.1, by rw [List.length_set]; exact hn.2⟩ hls (tk_okt (tk_okt (tk_okt hst))) hR
  rw [List.map_cons, List.map_cons, List.map_cons, tk_eR g0, tk_eR y0]
  rcases hk with ⟨rfl, rfl, rfl, rfl⟩ | ⟨rfl, rfl, rfl, rfl⟩
  · exact va_astq (r := (RX3, TX3, 3)) F.1 F.2.1 F.2.2.2.2.2.1.1 hW.1 (tk_ws_D G S M) hS c.toNat 3 x.toNat 3 he rfl hex rfl (i32_in ri h0 h1) hd (fun H1 locs1 hP1 _ hS1 => go H1 locs1 hP1 hS1)
  · exact va_astq (r := (RX6, TX6, 3)) F.1 F.2.1 F.2.2.2.2.2.1.1 hW.1 (tk_ws_D G S M) hS c.toNat 4 x.toNat 6 he rfl hex rfl (i32_in ri h0 h1) hd (fun H1 locs1 hP1 _ hS1 => go H1 locs1 hP1 hS1)
theorem tr_oinit {own : String} {idx : Nat} {c : Int} (hd : decode f.2.1 pc = .ok (.invokespecial idx, 3)) (hw : Cond.methodLink own idx Lib.objectInit ∈ tk_tb ∧ Cond.instanceMethod Lib.objectInit ∈ tk_tb ∧ Cond.code Lib.objectInit ⟨#[0xb1]⟩ 1 none ∈ tk_tb) (ho : f.1.cls = own) (h0 : 0 ≤ c) (hdep : 1 ≤ f.2.2.2.2.1) (hcw : tk_cw st ≤ 8) (kk : Ok G f (pc + 3) ls st S M k n Q) : Ok G f pc ls (xR c :: st) S M k n Q := by
  intro p l e s m args below meth c0 H locs la Z F hW hS hl hn hls hst hR
  subst ho
  rw [List.map_cons, tk_eR h0]
  refine W.objInit F.1 F.2.1 F.2.2.2.1 (F.2.2.2.2.1 _ hw.1) (F.2.2.2.2.1 _ hw.2.1) (F.2.2.2.2.1 _ hw.2.2) rfl (hl.1.trans (hn.1.trans F.2.2.1.symm)) rfl hd hdep ?_ (kk p l e s m args below meth c0 H locs la Z F hW hS hl hn hls (tk_okt hst) hR)
  rw [tk_cw_eq]
  show 2 * 0 + tk_cw st + 12 ≤ 40 * f.2.2.2.2.1
  omega
end TkAlloc
