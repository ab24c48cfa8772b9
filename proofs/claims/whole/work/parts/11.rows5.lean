section TkRows5
variable {G : tk_G} {f : tk_F} {pc : Nat} {ls st : List tk_V} {S : tk_S} {M : tk_M} {k n : Nat} {Q : tk_V → tk_S → tk_M → Prop}
def tk_mth (own : String) (idx : Nat) (y : MethodName) (b : ByteArray) : Prop := Cond.methodLink own idx y ∈ tk_tb ∧ Cond.static y ∈ tk_tb ∧ Cond.initialized "java/lang/Math" ∈ tk_tb ∧ Cond.code y b 2 (some .int) ∈ tk_tb
theorem tr_min {own : String} {idx : Nat} {x z : Int} (hd : decode f.2.1 pc = .ok (.invokestatic idx, 3)) (hm : tk_mth own idx Lib.Math.min.name Lib.Math.min.code) (ho : f.1.cls = own) (hdep : 1 ≤ f.2.2.2.2.1) (hcw : tk_cw st ≤ 8) (hcs : k ≤ f.2.2.2.2.2.1 ∧ n ≤ f.2.2.2.2.2.2) (kk : Ok G f (pc + 3) ls (xI (min x z) :: st) S M k n Q) : Ok G f pc ls (xI z :: xI x :: st) S M k n Q := by
  intro p l e s m args below meth c H locs la Z F hW hS hl hn hls hst hR
  have hz := tk_ok_I.mp (hst _ List.mem_cons_self)
  have hx := tk_ok_I.mp (hst _ (List.mem_cons_of_mem _ List.mem_cons_self))
  have hr : tk_r32 (min x z) := by unfold tk_r32 at *; omega
  have h := kk p l e s m args below meth c H locs la Z F hW hS hl hn hls (tk_okc (tk_ok_I.mpr hr) (tk_okt (tk_okt hst))) hR
  subst ho
  refine va_mmin F.1 F.2.1 (F.2.2.1.trans (hn.1.symm.trans hl.1.symm)) F.2.2.2.1 (F.2.2.2.2.1 _ hm.1) (F.2.2.2.2.1 _ hm.2.1) (F.2.2.2.2.1 _ hm.2.2.1) (F.2.2.2.2.1 _ hm.2.2.2) hdep ?_ hcs.1 hcs.2 hd ?_
  · rw [tk_cw_eq]; show tk_cw st + 13 ≤ 40 * f.2.2.2.2.1; omega
  · have e1 : (if Int32.ofInt z < Int32.ofInt x then Int32.ofInt z else Int32.ofInt x) = Int32.ofInt (min x z) := by
      by_cases h1 : z < x
      · rw [if_pos ((i32_lt hz hx).mpr h1)]; congr 1; omega
      · rw [if_neg (fun h2 => h1 ((i32_lt hz hx).mp h2))]; congr 1; omega
    rw [e1]; exact h
theorem tr_max {own : String} {idx : Nat} {x z : Int} (hd : decode f.2.1 pc = .ok (.invokestatic idx, 3)) (hm : tk_mth own idx Lib.Math.max.name Lib.Math.max.code) (ho : f.1.cls = own) (hdep : 1 ≤ f.2.2.2.2.1) (hcw : tk_cw st ≤ 8) (hcs : k ≤ f.2.2.2.2.2.1 ∧ n ≤ f.2.2.2.2.2.2) (kk : Ok G f (pc + 3) ls (xI (max x z) :: st) S M k n Q) : Ok G f pc ls (xI z :: xI x :: st) S M k n Q := by
  intro p l e s m args below meth c H locs la Z F hW hS hl hn hls hst hR
  have hz := tk_ok_I.mp (hst _ List.mem_cons_self)
  have hx := tk_ok_I.mp (hst _ (List.mem_cons_of_mem _ List.mem_cons_self))
  have hr : tk_r32 (max x z) := by unfold tk_r32 at *; omega
  have h := kk p l e s m args below meth c H locs la Z F hW hS hl hn hls (tk_okc (tk_ok_I.mpr hr) (tk_okt (tk_okt hst))) hR
  subst ho
  refine va_mmax F.1 F.2.1 (F.2.2.1.trans (hn.1.symm.trans hl.1.symm)) F.2.2.2.1 (F.2.2.2.2.1 _ hm.1) (F.2.2.2.2.1 _ hm.2.1) (F.2.2.2.2.1 _ hm.2.2.1) (F.2.2.2.2.1 _ hm.2.2.2) hdep ?_ hcs.1 hcs.2 hd ?_
  · rw [tk_cw_eq]; show tk_cw st + 13 ≤ 40 * f.2.2.2.2.1; omega
  · have e1 : (if Int32.ofInt x < Int32.ofInt z then Int32.ofInt z else Int32.ofInt x) = Int32.ofInt (max x z) := by
      by_cases h1 : x < z
      · rw [if_pos ((i32_lt hx hz).mpr h1)]; congr 1; omega
      · rw [if_neg (fun h2 => h1 ((i32_lt hx hz).mp h2))]; congr 1; omega
    rw [e1]; exact h
/-- lowerOf, called by its nest mate -/
theorem tr_lower {g : tk_F} {a1 a2 : tk_V} {P : Int → tk_M → Prop} (hg : g.1 = yX9_lowerOf) (hd : decode f.2.1 pc = .ok (.invokestatic 49, 3)) (hm : tk_mt g 2) (hs1 : Cond.static g.1 ∈ tk_tb) (ho : f.1.cls = RX3) (hdep : g.2.2.2.2.1 < f.2.2.2.2.1 ∧ g.2.2.1 ≤ 21) (h0 : tk_nil g) (hcw : tk_cw st ≤ 8) (hcs : k ≤ f.2.2.2.2.2.1 ∧ n ≤ f.2.2.2.2.2.2) (hsp : Spi G g [a1, a2] S M P) (kk : ∀ (r : Int) (M' : tk_M), P r M' → Ok G f (pc + 3) ls (xI r :: st) S M' k n Q) : Ok G f pc ls (a2 :: a1 :: st) S M k n Q := by
  intro p l e s m av below meth c0 H locs la Z F hW hS hle hn hls hst hR
  intro T hT X
  have hz := tk_size hW hS hn.2 F.2.2.2.2.2.1.2.2.2.2.2 hT X
  have hss : ∀ v ∈ st, tk_ok v := tk_okt (tk_okt hst)
  have hsa : ∀ v ∈ [a1, a2], tk_ok v := tk_okc (hst _ (List.mem_cons_of_mem _ List.mem_cons_self)) (tk_okc (hst _ List.mem_cons_self) (fun v hv => by cases hv))
  refine tk_after (g := g) (Q' := tk_qi S P) (T := T) (av := ([a1, a2].map (tk_e G)).toArray) ?_ hT X F hS hle hn hls hss hR (fun v S' M' h _ _ _ => by
    obtain ⟨rfl, r, rfl, hP⟩ := h
    rw [h0.1, h0.2]
    exact kk r M' hP)
  obtain ⟨m1, m2, m3, m4, m5, -⟩ := hm
  have hlk : (Cond.methodLinkNest f.1.cls 49 g.1 RX9).before av s = true := by
    rw [ho, hg]
    exact va_Nw.use rfl F.2.2.2.2.2.1.2.2.2.2.1.1
  refine va_runSN (As := [a1, a2].map (tk_e G)) (n := 2) (bytes := g.2.1) (maxL := g.2.2.1) (ret := g.2.2.2.1) (host := RX9) ⟨F.1, F.2.1, rfl, F.2.2.2.1, F.2.2.2.2.1⟩ (hsp l) ⟨⟨⟨rfl, rfl, hdep.1, ?_, fun w hw a' U hW => ?_, List.mem_cons_self⟩, F.2.2.2.2.1 _ m1, F.2.2.2.2.1 _ m2, ⟨m3, m4⟩, fun sig hsig => ?_, hlk⟩, F.2.2.2.2.1 _ hs1, trivial⟩ ⟨tk_blind _, fun U hU hWm => ⟨rfl, hsa, by rw [hU]; exact hW, by rw [hU]; exact hz, ?_⟩⟩ rfl rfl (hle.1.trans (hn.1.trans F.2.2.1.symm)) rfl ?_ hd (by rw [h0.1, h0.2]; exact hcs)
  · show 8 + (g.2.2.1 + 11) + 40 * g.2.2.2.2.1 ≤ 40 * f.2.2.2.2.1
    omega
  · have hw2 : w ∈ tk_tb := by
      rcases List.mem_cons.mp hw with h | h
      · rw [h]; exact m1
      · exact h
    exact word_at hW (tk_good w hw2).2 (F.2.2.2.2.1 w hw2)
  · rw [hsig] at m5; exact (Option.some.inj m5).symm
  · rw [hU]
    exact (F.2.2.2.2.2.1.moved hWm).kept hS.1 (fun a h1 h2 => hS.2.1 a h1 h2)
  · refine lv_room ?_
    rw [tk_cw_eq]; exact hcw
/-- arraycopy of ints, of longs -/
def tk_cp (M : tk_M) (a sp b dp z : Int) : tk_M := fun c i => if c = b ∧ dp ≤ i ∧ i < dp + z then M a (sp + (i - dp)) else M c i
def tk_ac (own : String) (idx : Nat) : Prop := Cond.methodLink own idx arraycopyName ∈ tk_tb ∧ Cond.native arraycopyName ∈ tk_tb ∧ Cond.static arraycopyName ∈ tk_tb ∧ Cond.initialized "java/lang/System" ∈ tk_tb
theorem tk_mok_cp {a sp b dp z : Int} {q q0 : tk_C} (h : tk_mok S M) (hs : tk_sg S b = some q) (hs0 : tk_sg S a = some q0) (hk : q0.1 = q.1) (h0 : 0 ≤ sp) (h1 : sp + z ≤ q0.2.1) : tk_mok S (tk_cp M a sp b dp z) := by
  obtain ⟨g0, g1⟩ := tk_sg_at hs
  intro c' q' hq j hj
  unfold tk_cp
  by_cases e : (c' : Int) = b ∧ dp ≤ (j : Int) ∧ (j : Int) < dp + z
  · rw [if_pos e]
    have e2 : c' = b.toNat := by omega
    subst e2
    rw [g1] at hq
    cases hq
    rw [← hk]
    exact tk_mok_at h hs0 (by omega) (by omega)
  · rw [if_neg e]
    exact h c' q' hq j hj
theorem tr_copyi {own : String} {idx : Nat} {a b sp dp z : Int} {N0 N1 : Nat} {rl0 rl1 : List Int} (hd : decode f.2.1 pc = .ok (.invokestatic idx, 3)) (hm : tk_ac own idx) (ho : f.1.cls = own) (hdep : 1 ≤ f.2.2.2.2.1) (hcw : tk_cw st ≤ 8) (hs0 : tk_sg S a = some (20, N0, rl0)) (hs1 : tk_sg S b = some (20, N1, rl1)) (h1 : 0 ≤ sp) (h2 : 0 ≤ dp) (h3 : 0 ≤ z) (h4 : sp + z ≤ N0) (h5 : dp + z ≤ N1) (kk : Ok G f (pc + 3) ls st S (tk_cp M a sp b dp z) k n Q) : Ok G f pc ls (xI z :: xI dp :: xR b :: xI sp :: xR a :: st) S M k n Q := by
  intro p l e s m args below meth c H locs la Z F hW hS hl hn hls hst hR
  have rz := tk_ok_I.mp (hst _ List.mem_cons_self)
  have rd := tk_ok_I.mp (hst _ (List.mem_cons_of_mem _ List.mem_cons_self))
  have rs := tk_ok_I.mp (tk_okt (tk_okt (tk_okt hst)) _ List.mem_cons_self)
  have e0 := tk_ws_at (G := G) (M := M) hs0
  have e1 := tk_ws_at (G := G) (M := M) hs1
  obtain ⟨g0, g1⟩ := tk_sg_at hs1
  have hset : (tk_ws G S M).set b.toNat (G.1 + b.toNat, .inl (G.2.2.1 0, N1, .inl (va_cpy (fun j => Int32.ofInt (M a j)) (fun j => Int32.ofInt (M b j)) (Int32.ofInt sp).toNatClampNeg (Int32.ofInt dp).toNatClampNeg (Int32.ofInt z).toNatClampNeg))) = tk_ws G S (tk_cp M a sp b dp z) := by
    rw [← tk_ws_set (S := S) (S' := S) (M := M) (M' := tk_cp M a sp b dp z) (q := (20, N1, rl1)) g0 rfl g1 (fun j hj => ⟨rfl, by funext i; unfold tk_cp; rw [if_neg (by omega)]⟩)]
    show _ = (tk_ws G S M).set b.toNat (G.1 + b.toNat, .inl (G.2.2.1 0, N1, .inl (fun j => Int32.ofInt (tk_cp M a sp b dp z b j))))
    congr 6
    funext j
    rw [i32_nat rs, i32_nat rd, i32_nat rz]
    unfold va_cpy tk_cp
    by_cases hj : dp.toNat ≤ j ∧ j < dp.toNat + z.toNat
    · rw [if_pos hj, if_pos (by omega)]
      dsimp only
      rw [show (((sp.toNat + (j - dp.toNat) : Nat)) : Int) = sp + ((j : Int) - dp) by omega]
    · rw [if_neg hj, if_neg (by omega)]
  subst ho
  rw [List.map_cons, List.map_cons, List.map_cons, List.map_cons, List.map_cons, tk_eR g0, tk_eR (tk_sg_at hs0).1]
  refine va_copyi F.1 F.2.1 (F.2.2.1.trans (hn.1.symm.trans hl.1.symm)) F.2.2.2.1 (F.2.2.2.2.1 _ hm.1) (F.2.2.2.2.1 _ hm.2.1) (F.2.2.2.2.1 _ hm.2.2.1) (F.2.2.2.2.1 _ hm.2.2.2) F.2.2.2.2.2.1.1 hW.1 (tk_ws_D G S M) hS a.toNat b.toNat 0 0 e0 e1 rfl rfl rfl ?_ ?_ ?_ ?_ ?_ (fun _ _ => rfl) hdep ?_ hd (fun H1 locs1 hP1 _ hS1 => ?_)
  · exact fun h => absurd ((i32_lt rs tk_r32_0).mp h) (by omega)
  · exact fun h => absurd ((i32_lt rd tk_r32_0).mp h) (by omega)
  · exact fun h => absurd ((i32_lt rz tk_r32_0).mp h) (by omega)
  · rw [i32_nat rs, i32_nat rz]; show _ ≤ N0; omega
  · rw [i32_nat rd, i32_nat rz]; show _ ≤ N1; omega
  · rw [tk_cw_eq]
    have e5 : nativeFrameWords "java/lang/System" "arraycopy" 5 = 7 := by decide
    rw [e5]
    show tk_cw st + (7 + 11) ≤ 40 * f.2.2.2.2.1; omega
  · rw [hset] at hP1
    exact kk p l e s m args below meth c H1 locs1 la Z F ⟨hP1, tk_mok_cp hW.2 hs1 hs0 rfl h1 h4⟩ hS1 hl hn hls (tk_okt (tk_okt (tk_okt (tk_okt (tk_okt hst))))) hR
theorem tr_copyl {own : String} {idx : Nat} {a b sp dp z : Int} {N0 N1 : Nat} {rl0 rl1 : List Int} (hd : decode f.2.1 pc = .ok (.invokestatic idx, 3)) (hm : tk_ac own idx) (ho : f.1.cls = own) (hdep : 1 ≤ f.2.2.2.2.1) (hcw : tk_cw st ≤ 8) (hs0 : tk_sg S a = some (21, N0, rl0)) (hs1 : tk_sg S b = some (21, N1, rl1)) (h1 : 0 ≤ sp) (h2 : 0 ≤ dp) (h3 : 0 ≤ z) (h4 : sp + z ≤ N0) (h5 : dp + z ≤ N1) (kk : Ok G f (pc + 3) ls st S (tk_cp M a sp b dp z) k n Q) : Ok G f pc ls (xI z :: xI dp :: xR b :: xI sp :: xR a :: st) S M k n Q := by
  intro p l e s m args below meth c H locs la Z F hW hS hl hn hls hst hR
  have rz := tk_ok_I.mp (hst _ List.mem_cons_self)
  have rd := tk_ok_I.mp (hst _ (List.mem_cons_of_mem _ List.mem_cons_self))
  have rs := tk_ok_I.mp (tk_okt (tk_okt (tk_okt hst)) _ List.mem_cons_self)
  have e0 := tk_ws_at (G := G) (M := M) hs0
  have e1 := tk_ws_at (G := G) (M := M) hs1
  obtain ⟨g0, g1⟩ := tk_sg_at hs1
  have hset : (tk_ws G S M).set b.toNat (G.1 + b.toNat, .inl (G.2.2.1 1, N1, .inr (.inl (va_cpy (fun j => Int64.ofInt (M a j)) (fun j => Int64.ofInt (M b j)) (Int32.ofInt sp).toNatClampNeg (Int32.ofInt dp).toNatClampNeg (Int32.ofInt z).toNatClampNeg)))) = tk_ws G S (tk_cp M a sp b dp z) := by
    rw [← tk_ws_set (S := S) (S' := S) (M := M) (M' := tk_cp M a sp b dp z) (q := (21, N1, rl1)) g0 rfl g1 (fun j hj => ⟨rfl, by funext i; unfold tk_cp; rw [if_neg (by omega)]⟩)]
    show _ = (tk_ws G S M).set b.toNat (G.1 + b.toNat, .inl (G.2.2.1 1, N1, .inr (.inl (fun j => Int64.ofInt (tk_cp M a sp b dp z b j)))))
    congr 7
    funext j
    rw [i32_nat rs, i32_nat rd, i32_nat rz]
    unfold va_cpy tk_cp
    by_cases hj : dp.toNat ≤ j ∧ j < dp.toNat + z.toNat
    · rw [if_pos hj, if_pos (by omega)]
      dsimp only
      rw [show (((sp.toNat + (j - dp.toNat) : Nat)) : Int) = sp + ((j : Int) - dp) by omega]
    · rw [if_neg hj, if_neg (by omega)]
  subst ho
  rw [List.map_cons, List.map_cons, List.map_cons, List.map_cons, List.map_cons, tk_eR g0, tk_eR (tk_sg_at hs0).1]
  refine va_copyl F.1 F.2.1 (F.2.2.1.trans (hn.1.symm.trans hl.1.symm)) F.2.2.2.1 (F.2.2.2.2.1 _ hm.1) (F.2.2.2.2.1 _ hm.2.1) (F.2.2.2.2.1 _ hm.2.2.1) (F.2.2.2.2.1 _ hm.2.2.2) F.2.2.2.2.2.1.1 hW.1 (tk_ws_D G S M) hS a.toNat b.toNat 1 1 e0 e1 rfl rfl rfl ?_ ?_ ?_ ?_ ?_ (fun _ _ => rfl) hdep ?_ hd (fun H1 locs1 hP1 _ hS1 => ?_)
  · exact fun h => absurd ((i32_lt rs tk_r32_0).mp h) (by omega)
  · exact fun h => absurd ((i32_lt rd tk_r32_0).mp h) (by omega)
  · exact fun h => absurd ((i32_lt rz tk_r32_0).mp h) (by omega)
  · rw [i32_nat rs, i32_nat rz]; show _ ≤ N0; omega
  · rw [i32_nat rd, i32_nat rz]; show _ ≤ N1; omega
  · rw [tk_cw_eq]
    have e5 : nativeFrameWords "java/lang/System" "arraycopy" 5 = 7 := by decide
    rw [e5]
    show tk_cw st + (7 + 11) ≤ 40 * f.2.2.2.2.1; omega
  · rw [hset] at hP1
    exact kk p l e s m args below meth c H1 locs1 la Z F ⟨hP1, tk_mok_cp hW.2 hs1 hs0 rfl h1 h4⟩ hS1 hl hn hls (tk_okt (tk_okt (tk_okt (tk_okt (tk_okt hst))))) hR
end TkRows5
