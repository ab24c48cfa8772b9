section TkRows3
variable {G : tk_G} {f : tk_F} {pc : Nat} {ls st : List tk_V} {S : tk_S} {M : tk_M} {k n : Nat} {Q : tk_V → tk_S → tk_M → Prop}
/-- a link to an instance method, to a static one -/
def tk_lv (own : String) (idx : Nat) (g : tk_F) : Prop := Cond.methodLink own idx g.1 ∈ tk_tb ∧ Cond.instanceMethod g.1 ∈ tk_tb ∧ Cond.selects g.1.cls g.1 g.1 ∈ tk_tb
def tk_ls (own : String) (idx : Nat) (g : tk_F) : Prop := Cond.methodLink own idx g.1 ∈ tk_tb ∧ Cond.static g.1 ∈ tk_tb
theorem tk_callV {g : tk_F} {own : String} {idx na kd N : Nat} {args : List tk_V} {c : Int} {rl : List Int} {Q' : tk_V → tk_S → tk_M → Prop} (hd : decode f.2.1 pc = .ok (.invokevirtual idx, 3)) (hm : tk_mt g na) (hl : tk_lv own idx g) (ho : f.1.cls = own) (hs : tk_sg S c = some (kd, N, rl)) (hkd : vwCl[kd]? = some (g.1.cls, TX_of kd, N) ∧ kd < 20) (hdep : g.2.2.2.2.1 < f.2.2.2.2.1 ∧ g.2.2.1 ≤ 21) (hna : args.length = na) (hcw : tk_cw st ≤ 8) (hcs : k + g.2.2.2.2.2.1 ≤ f.2.2.2.2.2.1 ∧ n + g.2.2.2.2.2.2 ≤ f.2.2.2.2.2.2)
    (hsp : Sp G g (xR c :: args) S M Q') (kk : ∀ (v : tk_V) (S' : tk_S) (M' : tk_M), Q' v S' M' → tk_rvo g.2.2.2.1 v → tk_ok v → S'.length = S.length + g.2.2.2.2.2.1 → Ok G f (pc + 3) ls (if v.1 < 4 then v :: st else st) S' M' (k + g.2.2.2.2.2.1) (n + g.2.2.2.2.2.2) Q) : Ok G f pc ls (args.reverse ++ xR c :: st) S M k n Q := by
  intro p l e s m av below meth c0 H locs la Z F hW hS hle hn hls hst hR
  intro T hT X
  obtain ⟨g0, g1⟩ := tk_sg_at hs
  have hz := tk_size hW hS hn.2 F.2.2.2.2.2.1.2.2.2.2.2 hT X
  have hsa : ∀ v ∈ args, tk_ok v := fun v hv => hst v (List.mem_append_left _ (List.mem_reverse.mpr hv))
  have hss : ∀ v ∈ st, tk_ok v := fun v hv => hst v (List.mem_append_right _ (List.mem_cons_of_mem _ hv))
  have he := tk_ws_at (G := G) (M := M) hs
  rw [tk_ent_o hkd.2] at he
  have hrec := va_recv F.2.2.2.2.2.1.1 hW.1 hkd.1 he
  refine tk_after (g := g) (Q' := Q') (T := T) (av := (Value.ref (G.1 + c.toNat) :: args.map (tk_e G)).toArray) ?_ hT X F hS hle hn hls hss hR kk
  refine va_runV (As := args.map (tk_e G)) (b := G.1 + c.toNat) (C := g.1.cls) ⟨F.1, F.2.1, rfl, F.2.2.2.1, F.2.2.2.2.1⟩ (hsp l) ⟨tk_callB F.2.2.2.2.1 hm (by rw [ho]; exact hl.1) hdep, F.2.2.2.2.1 _ hl.2.1, F.2.2.2.2.1 _ hl.2.2⟩ ⟨tk_blind _, hrec, fun U hU hWm => ⟨?_, tk_okc (tk_ok_R c) hsa, by rw [hU]; exact hW, by rw [hU]; exact hz, ?_⟩⟩ rfl (by rw [List.length_map]; exact hna) (hle.1.trans (hn.1.trans F.2.2.1.symm)) ?_ ?_ hd hcs
  · rw [List.map_cons, tk_eR g0]
  · rw [hU]
    exact (F.2.2.2.2.2.1.moved hWm).kept hS.1 (fun a h1 h2 => hS.2.1 a h1 h2)
  · show (args.reverse ++ xR c :: st).map (tk_e G) = _
    rw [List.map_append, List.map_reverse, List.map_cons, tk_eR g0]
  · refine lv_room ?_
    rw [tk_cw_eq]; exact hcw
theorem tk_callS {g : tk_F} {own : String} {idx na : Nat} {args : List tk_V} {Q' : tk_V → tk_S → tk_M → Prop} (hd : decode f.2.1 pc = .ok (.invokestatic idx, 3)) (hm : tk_mt g na) (hl : tk_ls own idx g) (ho : f.1.cls = own) (hdep : g.2.2.2.2.1 < f.2.2.2.2.1 ∧ g.2.2.1 ≤ 21) (hna : args.length = na) (hcw : tk_cw st ≤ 8) (hcs : k + g.2.2.2.2.2.1 ≤ f.2.2.2.2.2.1 ∧ n + g.2.2.2.2.2.2 ≤ f.2.2.2.2.2.2)
    (hsp : Sp G g args S M Q') (kk : ∀ (v : tk_V) (S' : tk_S) (M' : tk_M), Q' v S' M' → tk_rvo g.2.2.2.1 v → tk_ok v → S'.length = S.length + g.2.2.2.2.2.1 → Ok G f (pc + 3) ls (if v.1 < 4 then v :: st else st) S' M' (k + g.2.2.2.2.2.1) (n + g.2.2.2.2.2.2) Q) : Ok G f pc ls (args.reverse ++ st) S M k n Q := by
  intro p l e s m av below meth c0 H locs la Z F hW hS hle hn hls hst hR
  intro T hT X
  have hz := tk_size hW hS hn.2 F.2.2.2.2.2.1.2.2.2.2.2 hT X
  have hsa : ∀ v ∈ args, tk_ok v := fun v hv => hst v (List.mem_append_left _ (List.mem_reverse.mpr hv))
  have hss : ∀ v ∈ st, tk_ok v := fun v hv => hst v (List.mem_append_right _ hv)
  refine tk_after (g := g) (Q' := Q') (T := T) (av := (args.map (tk_e G)).toArray) ?_ hT X F hS hle hn hls hss hR kk
  refine va_runS (As := args.map (tk_e G)) ⟨F.1, F.2.1, rfl, F.2.2.2.1, F.2.2.2.2.1⟩ (hsp l) ⟨tk_callB F.2.2.2.2.1 hm (by rw [ho]; exact hl.1) hdep, F.2.2.2.2.1 _ hl.2⟩ ⟨tk_blind _, fun U hU hWm => ⟨rfl, hsa, by rw [hU]; exact hW, by rw [hU]; exact hz, ?_⟩⟩ rfl (by rw [List.length_map]; exact hna) (hle.1.trans (hn.1.trans F.2.2.1.symm)) ?_ ?_ hd hcs
  · rw [hU]
    exact (F.2.2.2.2.2.1.moved hWm).kept hS.1 (fun a h1 h2 => hS.2.1 a h1 h2)
  · show (args.reverse ++ st).map (tk_e G) = _
    rw [List.map_append, List.map_reverse]
  · refine lv_room ?_
    rw [tk_cw_eq]; exact hcw
theorem tk_callI {g : tk_F} {own : String} {idx na : Nat} {args : List tk_V} {c : Int} {Q' : tk_V → tk_S → tk_M → Prop} (hd : decode f.2.1 pc = .ok (.invokespecial idx, 3)) (hm : tk_mt g na) (hl : Cond.methodLink own idx g.1 ∈ tk_tb ∧ Cond.instanceMethod g.1 ∈ tk_tb) (ho : f.1.cls = own) (hin : g.1.name = "<init>" ∧ g.2.2.2.1 = none) (h0 : 0 ≤ c) (hdep : g.2.2.2.2.1 < f.2.2.2.2.1 ∧ g.2.2.1 ≤ 21) (hna : args.length = na) (hcw : tk_cw st ≤ 8) (hcs : k + g.2.2.2.2.2.1 ≤ f.2.2.2.2.2.1 ∧ n + g.2.2.2.2.2.2 ≤ f.2.2.2.2.2.2)
    (hsp : Sp G g (xR c :: args) S M Q') (kk : ∀ (v : tk_V) (S' : tk_S) (M' : tk_M), Q' v S' M' → tk_rvo g.2.2.2.1 v → tk_ok v → S'.length = S.length + g.2.2.2.2.2.1 → Ok G f (pc + 3) ls (if v.1 < 4 then v :: st else st) S' M' (k + g.2.2.2.2.2.1) (n + g.2.2.2.2.2.2) Q) : Ok G f pc ls (args.reverse ++ xR c :: st) S M k n Q := by
  intro p l e s m av below meth c0 H locs la Z F hW hS hle hn hls hst hR
  intro T hT X
  have hz := tk_size hW hS hn.2 F.2.2.2.2.2.1.2.2.2.2.2 hT X
  have hsa : ∀ v ∈ args, tk_ok v := fun v hv => hst v (List.mem_append_left _ (List.mem_reverse.mpr hv))
  have hss : ∀ v ∈ st, tk_ok v := fun v hv => hst v (List.mem_append_right _ (List.mem_cons_of_mem _ hv))
  refine tk_after (g := g) (Q' := Q') (T := T) (av := (Value.ref (G.1 + c.toNat) :: args.map (tk_e G)).toArray) ?_ hT X F hS hle hn hls hss hR kk
  have hcb := tk_callB (s := s) F.2.2.2.2.1 hm (own := f.1.cls) (idx := idx) (by rw [ho]; exact hl.1) hdep
  have hM := hsp l
  rw [hin.2] at hcb hM
  refine va_runI (As := args.map (tk_e G)) (b := G.1 + c.toNat) ⟨F.1, F.2.1, rfl, F.2.2.2.1, F.2.2.2.2.1⟩ hM ⟨hcb, hin.1, F.2.2.2.2.1 _ hl.2⟩ ⟨tk_blind _, fun U hU hWm => ⟨?_, tk_okc (tk_ok_R c) hsa, by rw [hU]; exact hW, by rw [hU]; exact hz, ?_⟩⟩ rfl (by rw [List.length_map]; exact hna) (hle.1.trans (hn.1.trans F.2.2.1.symm)) ?_ ?_ hd hcs
  · rw [List.map_cons, tk_eR h0]
  · rw [hU]
    exact (F.2.2.2.2.2.1.moved hWm).kept hS.1 (fun a h1 h2 => hS.2.1 a h1 h2)
  · show (args.reverse ++ xR c :: st).map (tk_e G) = _
    rw [List.map_append, List.map_reverse, List.map_cons, tk_eR h0]
  · refine lv_room ?_
    rw [tk_cw_eq]; exact hcw
/-- what a range says of a value that lies in the locals, on the stack, in a row -/
theorem tr_rng {j : Nat} {x : Int} (h : ls[j]? = some (xI x)) (kk : tk_r32 x → Ok G f pc ls st S M k n Q) : Ok G f pc ls st S M k n Q := by
  intro p l e s m av below meth c0 H locs la Z F hW hS hle hn hls hst hR
  exact kk (tk_ok_I.mp (hls _ (List.mem_of_getElem? h))) p l e s m av below meth c0 H locs la Z F hW hS hle hn hls hst hR
theorem tr_rngL {j : Nat} {x : Int} (h : ls[j]? = some (xL x)) (kk : tk_r64 x → Ok G f pc ls st S M k n Q) : Ok G f pc ls st S M k n Q := by
  intro p l e s m av below meth c0 H locs la Z F hW hS hle hn hls hst hR
  exact kk (tk_ok_L.mp (hls _ (List.mem_of_getElem? h))) p l e s m av below meth c0 H locs la Z F hW hS hle hn hls hst hR
theorem tr_rngM {c i : Int} {q : tk_C} (hs : tk_sg S c = some q) (h1 : 0 ≤ i) (h2 : i < q.2.1) (kk : tk_rng q.1 (M c i) → Ok G f pc ls st S M k n Q) : Ok G f pc ls st S M k n Q := by
  intro p l e s m av below meth c0 H locs la Z F hW hS hle hn hls hst hR
  exact kk (tk_mok_at hW.2 hs h1 h2) p l e s m av below meth c0 H locs la Z F hW hS hle hn hls hst hR
/-- the ends -/
theorem tr_ret {v : tk_V} (hv : tk_rok f v pc) (hvo : tk_ok v) (hk : k ≤ f.2.2.2.2.2.1) (hn : n ≤ f.2.2.2.2.2.2) (hq : Q v S M) (hst : st = if v.1 < 4 then [v] else []) : Ok G f pc ls st S M k n Q := by
  intro p l e s m av below meth c0 H locs la Z F hW hS hle hnn hls hst2 hR
  have h := hR v S M H locs k n pc la hq hW hS ⟨hk, hnn.2⟩ hn hvo hv
  have e1 : tk_rst G v = st.map (tk_e G) := by
    rw [hst]; unfold tk_rst
    by_cases h4 : v.1 < 4
    · rw [if_pos h4, if_pos h4]; rfl
    · rw [if_neg h4, if_neg h4]; rfl
  rw [e1] at h
  exact h
theorem tk_okst {v : tk_V} (kk : tk_ok v → Ok G f pc ls (v :: st) S M k n Q) : Ok G f pc ls (v :: st) S M k n Q := by
  intro p l e s m av below meth c0 H locs la Z F hW hS hle hn hls hst hR
  exact kk (hst _ List.mem_cons_self) p l e s m av below meth c0 H locs la Z F hW hS hle hn hls hst hR
end TkRows3
