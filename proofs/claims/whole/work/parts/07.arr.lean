section TkArr
variable {G : tk_G} {f : tk_F} {pc : Nat} {ls st : List tk_V} {S : tk_S} {M : tk_M} {k n : Nat} {Q : tk_V → tk_S → tk_M → Prop}
theorem tr_iald {c i : Int} {N : Nat} {rl : List Int} (hd : decode f.2.1 pc = .ok (.iaload, 1)) (hs : tk_sg S c = some (20, N, rl)) (h0 : 0 ≤ i) (h1 : i < N) (kk : Ok G f (pc + 1) ls (xI (M c i) :: st) S M k n Q) : Ok G f pc ls (xI i :: xR c :: st) S M k n Q := by
  intro p l e s m args below meth c0 H locs la Z F hW hS hl hn hls hst hR
  have hi := tk_ok_I.mp (hst _ List.mem_cons_self)
  have he := tk_ws_at (G := G) (M := M) hs
  have hr : tk_r32 (M c i) := tk_mok_at hW.2 hs h0 h1
  have h := kk p l e s m args below meth c0 H locs la Z F hW hS hl hn hls (tk_okc (tk_ok_I.mpr hr) (tk_okt (tk_okt hst))) hR
  rw [List.map_cons, List.map_cons, tk_eR (tk_sg_at hs).1]
  refine va_iald F.1 F.2.1 F.2.2.2.2.2.1.1 hW.1 c.toNat 0 he rfl (i32_in hi h0 h1) hd ?_
  rw [i32_nat hi, show ((i.toNat : Nat) : Int) = i by omega]
  exact h
theorem tr_bald {c i : Int} {N : Nat} {rl : List Int} (hd : decode f.2.1 pc = .ok (.baload, 1)) (hs : tk_sg S c = some (22, N, rl)) (h0 : 0 ≤ i) (h1 : i < N) (kk : Ok G f (pc + 1) ls (xI (M c i) :: st) S M k n Q) : Ok G f pc ls (xI i :: xR c :: st) S M k n Q := by
  intro p l e s m args below meth c0 H locs la Z F hW hS hl hn hls hst hR
  have hi := tk_ok_I.mp (hst _ List.mem_cons_self)
  have he := tk_ws_at (G := G) (M := M) hs
  have hr : tk_r32 (M c i) := tk_mok_at hW.2 hs h0 h1
  have h := kk p l e s m args below meth c0 H locs la Z F hW hS hl hn hls (tk_okc (tk_ok_I.mpr hr) (tk_okt (tk_okt hst))) hR
  rw [List.map_cons, List.map_cons, tk_eR (tk_sg_at hs).1]
  refine va_bald F.1 F.2.1 F.2.2.2.2.2.1.1 hW.1 c.toNat 2 he rfl (i32_in hi h0 h1) hd ?_
  rw [i32_nat hi, show ((i.toNat : Nat) : Int) = i by omega]
  exact h
theorem tr_lald {c i : Int} {N : Nat} {rl : List Int} (hd : decode f.2.1 pc = .ok (.laload, 1)) (hs : tk_sg S c = some (21, N, rl)) (h0 : 0 ≤ i) (h1 : i < N) (kk : Ok G f (pc + 1) ls (xL (M c i) :: st) S M k n Q) : Ok G f pc ls (xI i :: xR c :: st) S M k n Q := by
  intro p l e s m args below meth c0 H locs la Z F hW hS hl hn hls hst hR
  have hi := tk_ok_I.mp (hst _ List.mem_cons_self)
  have he := tk_ws_at (G := G) (M := M) hs
  have hr : tk_r64 (M c i) := tk_mok_at hW.2 hs h0 h1
  have h := kk p l e s m args below meth c0 H locs la Z F hW hS hl hn hls (tk_okc (tk_ok_L.mpr hr) (tk_okt (tk_okt hst))) hR
  rw [List.map_cons, List.map_cons, tk_eR (tk_sg_at hs).1]
  refine va_lald F.1 F.2.1 F.2.2.2.2.2.1.1 hW.1 c.toNat 1 he rfl (i32_in hi h0 h1) hd ?_
  rw [i32_nat hi, show ((i.toNat : Nat) : Int) = i by omega]
  exact h
theorem tr_iast {c i x : Int} {N : Nat} {rl : List Int} (hd : decode f.2.1 pc = .ok (.iastore, 1)) (hs : tk_sg S c = some (20, N, rl)) (h0 : 0 ≤ i) (h1 : i < N) (kk : Ok G f (pc + 1) ls st S (tk_mu M c i x) k n Q) : Ok G f pc ls (xI x :: xI i :: xR c :: st) S M k n Q := by
  intro p l e s m args below meth c0 H locs la Z F hW hS hl hn hls hst hR
  have hx := tk_ok_I.mp (hst _ List.mem_cons_self)
  have hi := tk_ok_I.mp (hst _ (List.mem_cons_of_mem _ List.mem_cons_self))
  have he := tk_ws_at (G := G) (M := M) hs
  obtain ⟨g0, g1⟩ := tk_sg_at hs
  have hset : (tk_ws G S M).set c.toNat (G.1 + c.toNat, .inl (G.2.2.1 0, N, .inl (upd (fun j => Int32.ofInt (M c j)) (Int32.ofInt i).toNatClampNeg (Int32.ofInt x)))) = tk_ws G S (tk_mu M c i x) := by
    rw [← tk_ws_set (S := S) (S' := S) (M := M) (M' := tk_mu M c i x) (q := (20, N, rl)) g0 rfl g1 (fun j hj => ⟨rfl, tk_mu_c (by omega)⟩)]
    show _ = (tk_ws G S M).set c.toNat (G.1 + c.toNat, .inl (G.2.2.1 0, N, .inl (fun j => Int32.ofInt (tk_mu M c i x c j))))
    congr 6
    funext j
    rw [i32_nat hi]
    by_cases hj : j = i.toNat
    · subst hj
      rw [show ((i.toNat : Nat) : Int) = i by omega, tk_mu_at]; simp [upd]
    · rw [tk_mu_i (by omega)]; simp [upd, hj]
  rw [List.map_cons, List.map_cons, List.map_cons, tk_eR g0]
  refine va_iast F.1 F.2.1 F.2.2.2.2.2.1.1 hW.1 (tk_ws_D G S M) hS c.toNat 0 he rfl (i32_in hi h0 h1) hd (fun H1 locs1 hP1 _ hS1 => ?_)
  rw [hset] at hP1
  exact kk p l e s m args below meth c0 H1 locs1 la Z F ⟨hP1, tk_mok_mu hW.2 hs hx⟩ hS1 hl hn hls (tk_okt (tk_okt (tk_okt hst))) hR
theorem tk_nar8 {x : Int} (h0 : -128 ≤ x) (h1 : x ≤ 127) : vp_nar .byte (Int32.ofInt x) = Int32.ofInt x := by
  have hx : tk_r32 x := by unfold tk_r32; omega
  rw [vp_nar_byte, ← Int32.toInt_inj, Int8.toInt_toInt32, Int32.toInt_toInt8, i32_to hx]
  exact Int.bmod_eq_of_le (by omega) (by omega)
theorem tr_bast {c i x : Int} {N : Nat} {rl : List Int} (hd : decode f.2.1 pc = .ok (.bastore, 1)) (hs : tk_sg S c = some (22, N, rl)) (h0 : 0 ≤ i) (h1 : i < N) (hb0 : -128 ≤ x) (hb1 : x ≤ 127) (kk : Ok G f (pc + 1) ls st S (tk_mu M c i x) k n Q) : Ok G f pc ls (xI x :: xI i :: xR c :: st) S M k n Q := by
  intro p l e s m args below meth c0 H locs la Z F hW hS hl hn hls hst hR
  have hx := tk_ok_I.mp (hst _ List.mem_cons_self)
  have hi := tk_ok_I.mp (hst _ (List.mem_cons_of_mem _ List.mem_cons_self))
  have he := tk_ws_at (G := G) (M := M) hs
  obtain ⟨g0, g1⟩ := tk_sg_at hs
  have hset : (tk_ws G S M).set c.toNat (G.1 + c.toNat, .inl (G.2.2.1 2, N, .inl (upd (fun j => Int32.ofInt (M c j)) (Int32.ofInt i).toNatClampNeg (vp_nar .byte (Int32.ofInt x))))) = tk_ws G S (tk_mu M c i x) := by
    rw [← tk_ws_set (S := S) (S' := S) (M := M) (M' := tk_mu M c i x) (q := (22, N, rl)) g0 rfl g1 (fun j hj => ⟨rfl, tk_mu_c (by omega)⟩), tk_nar8 hb0 hb1]
    show _ = (tk_ws G S M).set c.toNat (G.1 + c.toNat, .inl (G.2.2.1 2, N, .inl (fun j => Int32.ofInt (tk_mu M c i x c j))))
    congr 6
    funext j
    rw [i32_nat hi]
    by_cases hj : j = i.toNat
    · subst hj
      rw [show ((i.toNat : Nat) : Int) = i by omega, tk_mu_at]; simp [upd]
    · rw [tk_mu_i (by omega)]; simp [upd, hj]
  rw [List.map_cons, List.map_cons, List.map_cons, tk_eR g0]
  refine va_bast F.1 F.2.1 F.2.2.2.2.2.1.1 hW.1 (tk_ws_D G S M) hS c.toNat 2 he rfl (i32_in hi h0 h1) hd (fun H1 locs1 hP1 _ hS1 => ?_)
  rw [hset] at hP1
  exact kk p l e s m args below meth c0 H1 locs1 la Z F ⟨hP1, tk_mok_mu hW.2 hs hx⟩ hS1 hl hn hls (tk_okt (tk_okt (tk_okt hst))) hR
theorem tr_last {c i x : Int} {N : Nat} {rl : List Int} (hd : decode f.2.1 pc = .ok (.lastore, 1)) (hs : tk_sg S c = some (21, N, rl)) (h0 : 0 ≤ i) (h1 : i < N) (kk : Ok G f (pc + 1) ls st S (tk_mu M c i x) k n Q) : Ok G f pc ls (xL x :: xI i :: xR c :: st) S M k n Q := by
  intro p l e s m args below meth c0 H locs la Z F hW hS hl hn hls hst hR
  have hx := tk_ok_L.mp (hst _ List.mem_cons_self)
  have hi := tk_ok_I.mp (hst _ (List.mem_cons_of_mem _ List.mem_cons_self))
  have he := tk_ws_at (G := G) (M := M) hs
  obtain ⟨g0, g1⟩ := tk_sg_at hs
  have hset : (tk_ws G S M).set c.toNat (G.1 + c.toNat, .inl (G.2.2.1 1, N, .inr (.inl (vp_updL (fun j => Int64.ofInt (M c j)) (Int32.ofInt i).toNatClampNeg (Int64.ofInt x))))) = tk_ws G S (tk_mu M c i x) := by
    rw [← tk_ws_set (S := S) (S' := S) (M := M) (M' := tk_mu M c i x) (q := (21, N, rl)) g0 rfl g1 (fun j hj => ⟨rfl, tk_mu_c (by omega)⟩)]
    show _ = (tk_ws G S M).set c.toNat (G.1 + c.toNat, .inl (G.2.2.1 1, N, .inr (.inl (fun j => Int64.ofInt (tk_mu M c i x c j)))))
    congr 7
    funext j
    rw [i32_nat hi]
    by_cases hj : j = i.toNat
    · subst hj
      rw [show ((i.toNat : Nat) : Int) = i by omega, tk_mu_at]; simp [vp_updL]
    · rw [tk_mu_i (by omega)]; simp [vp_updL, hj]
  rw [List.map_cons, List.map_cons, List.map_cons, tk_eR g0]
  refine va_last F.1 F.2.1 F.2.2.2.2.2.1.1 hW.1 (tk_ws_D G S M) hS c.toNat 1 he rfl (i32_in hi h0 h1) hd (fun H1 locs1 hP1 _ hS1 => ?_)
  rw [hset] at hP1
  exact kk p l e s m args below meth c0 H1 locs1 la Z F ⟨hP1, tk_mok_mu hW.2 hs hx⟩ hS1 hl hn hls (tk_okt (tk_okt (tk_okt hst))) hR
theorem tr_aald {c i x : Int} {kd N : Nat} {rl : List Int} (hd : decode f.2.1 pc = .ok (.aaload, 1)) (hs : tk_sg S c = some (kd, N, rl)) (hk : kd = 23 ∨ kd = 24) (h0 : 0 ≤ i) (h1 : i < N) (hx : rl.getD i.toNat (-1) = x) (kk : Ok G f (pc + 1) ls (xR x :: st) S M k n Q) : Ok G f pc ls (xI i :: xR c :: st) S M k n Q := by
  intro p l e s m args below meth c0 H locs la Z F hW hS hl hn hls hst hR
  have hi := tk_ok_I.mp (hst _ List.mem_cons_self)
  have he := tk_ws_at (G := G) (M := M) hs
  subst hx
  have h := kk p l e s m args below meth c0 H locs la Z F hW hS hl hn hls (tk_okc (tk_ok_R _) (tk_okt (tk_okt hst))) hR
  rw [List.map_cons, List.map_cons, tk_eR (tk_sg_at hs).1]
  rcases hk with rfl | rfl
  · refine va_aldq F.1 F.2.1 F.2.2.2.2.2.1.1 hW.1 c.toNat 3 (C := RX3) he rfl (i32_in hi h0 h1) hd ?_
    rw [i32_nat hi]
    exact h
  · refine va_aldq F.1 F.2.1 F.2.2.2.2.2.1.1 hW.1 c.toNat 4 (C := RX6) he rfl (i32_in hi h0 h1) hd ?_
    rw [i32_nat hi]
    exact h
/-- the rows that are only read -/
theorem tk_ro_at {G : tk_G} {a : Nat} {i : Int} (h0 : 0 ≤ i) (h1 : i < ((G.2.2.2.2 a).length : Int)) (h : ∀ x ∈ G.2.2.2.2 a, tk_r32 x) : tk_r32 ((G.2.2.2.2 a).getD i.toNat 0) := by
  have h2 : i.toNat < (G.2.2.2.2 a).length := by omega
  rw [List.getD_eq_getElem?_getD, List.getElem?_eq_getElem h2]
  exact h _ (List.getElem_mem h2)
theorem tr_sald {a i x : Int} (hd : decode f.2.1 pc = .ok (.iaload, 1)) (ha : 0 ≤ a ∧ a < 3) (h0 : 0 ≤ i) (h1 : i < ((G.2.2.2.2 a.toNat).length : Int)) (hx : (G.2.2.2.2 a.toNat).getD i.toNat 0 = x) (kk : Ok G f (pc + 1) ls (xI x :: st) S M k n Q) : Ok G f pc ls (xI i :: xS a :: st) S M k n Q := by
  intro p l e s m args below meth c0 H locs la Z F hW hS hl hn hls hst hR
  have hi := tk_ok_I.mp (hst _ List.mem_cons_self)
  obtain ⟨t1, t2, t3⟩ := F.2.2.2.2.2.1.2.1 a.toNat (by omega)
  have hr := tk_ro_at h0 h1 t3
  rw [hx] at hr
  have h := kk p l e s m args below meth c0 H locs la Z F hW hS hl hn hls (tk_okc (tk_ok_I.mpr hr) (tk_okt (tk_okt hst))) hR
  rw [List.map_cons, List.map_cons]
  refine va_ti F.1 F.2.1 t1 hS (i32_in hi h0 h1) ?_ hd h
  rw [i32_nat hi, hx]; rfl
theorem tr_slen {a x : Int} (hd : decode f.2.1 pc = .ok (.arraylength, 1)) (ha : 0 ≤ a ∧ a < 3) (hx : ((G.2.2.2.2 a.toNat).length : Int) = x) (kk : Ok G f (pc + 1) ls (xI x :: st) S M k n Q) : Ok G f pc ls (xS a :: st) S M k n Q := by
  intro p l e s m args below meth c0 H locs la Z F hW hS hl hn hls hst hR
  obtain ⟨t1, t2, t3⟩ := F.2.2.2.2.2.1.2.1 a.toNat (by omega)
  have hr : tk_r32 x := by unfold tk_r32; omega
  have h := kk p l e s m args below meth c0 H locs la Z F hW hS hl hn hls (tk_okc (tk_ok_I.mpr hr) (tk_okt hst)) hR
  rw [List.map_cons]
  refine va_tlen F.1 F.2.1 t1 hS ?_ hd h
  rw [← hx, Int32.ofInt_eq_ofNat]
theorem tr_getS {own : String} {idx : Nat} (hd : decode f.2.1 pc = .ok (.getstatic idx, 3)) (hf : Cond.fieldLink own idx RX2 "S" "[I" ∈ tk_tb) (ho : f.1.cls = own) (kk : Ok G f (pc + 3) ls (xS 1 :: st) S M k n Q) : Ok G f pc ls st S M k n Q := by
  intro p l e s m args below meth c0 H locs la Z F hW hS hl hn hls hst hR
  exact va_gets F.1 F.2.1 F.2.2.2.2.2.1.2.2.1 hS F.2.2.2.1 (F.2.2.2.2.1 _ (by rw [ho]; exact hf)) (fun _ h => h) hd (kk p l e s m args below meth c0 H locs la Z F hW hS hl hn hls (tk_okc (tk_ok_S 1) hst) hR)
theorem tr_getT {own : String} {idx : Nat} (hd : decode f.2.1 pc = .ok (.getstatic idx, 3)) (hf : Cond.fieldLink own idx RX2 "T" "[I" ∈ tk_tb) (ho : f.1.cls = own) (kk : Ok G f (pc + 3) ls (xS 2 :: st) S M k n Q) : Ok G f pc ls st S M k n Q := by
  intro p l e s m args below meth c0 H locs la Z F hW hS hl hn hls hst hR
  exact va_gets F.1 F.2.1 F.2.2.2.2.2.1.2.2.2.1 hS F.2.2.2.1 (F.2.2.2.2.1 _ (by rw [ho]; exact hf)) (fun _ h => h) hd (kk p l e s m args below meth c0 H locs la Z F hW hS hl hn hls (tk_okc (tk_ok_S 2) hst) hR)
end TkArr
