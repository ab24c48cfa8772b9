/-! THE CLAIM OUT OF ONE WALK OF THE LAW'S BODY. Your part is whole_start (and what it stands on); all else here is the same for every law, but numbers. -/
def R_law : String := "TermIdealsLaw"
def lw_P (b : Addr) (xs : List Int32) (args : Array Value) (s : State) : Prop := args = #[.ref b] ∧ s.IntsAt b xs ∧ xs.length ≤ 3584 ∧ (Jvm.Cond.and given_1 narrow_1).before args s = true
def lw_Q (_ : Array Value) (s : State) (o : Outcome) (t : State) : Prop := o = .returned (some (.int 1)) ∧ Framed s o t [] 600000 7302250
def lw_Z (below : List Frame) (a : Array Value) (s : State) : State → Prop := fun t => ∃ o, t.status = .running ∧ Ended t below o ∧ lw_Q a s o t
/-- the law's own end, with 1 on the stack, nothing written that was there before, its room as the claim has it -/
theorem lw_ret {p : Program} {l : Launch} {e : Env} {s : State} {m : MethodId} {below : List Frame} {meth : Method} {c : Code} {b : Nat} (hx : p.tables.exec = Jvm.exec) (hb : c.code = code) (hr : meth.sig.returnType = ret) (hlocks : meth.locks = false) {pc : Nat} {H : Heap} {ls : Array Slot} (hdg : decode code pc = .ok (.ireturn, 1)) : W p l e room_1 s m #[Value.ref b] below meth c H [] 600000 7302250 (lw_Z below #[Value.ref b] s) (F0 m pc ls [.int 1]) := by
  intro T hT X
  obtain ⟨fs, hret, hrun, hended, hW, hframe⟩ := X.leave (v := some (.int 1)) (hlocks := hlocks) (fun h => by rw [hr] at h; cases h)
  have hmeth' : T.vm.method? m = some meth := X.method'
  refine ⟨T.setFrames fs, ?_, .returned (some (.int 1)), hrun, hended, rfl, ⟨_, rfl⟩, hW, hframe⟩
  jvm_step X.here [X.here.top, hx, hb, hdg, hmeth', hr, ret, narrow_b1]
  (try refine ⟨rfl, ?_⟩); (try refine ⟨rfl, ?_⟩)
  first | (intro acts; rw [hret _ acts rfl rfl rfl]) | rw [hret _ _ rfl rfl rfl]
  exact Steps.refl _
/-- what holds at the law's entry: the machine, the code, the tables' words (any of lw_tbl by 'hts w (by decide +kernel)'), the script of L ints xs at the cell b, what the Statement gives of the start (any of its parts by flat_of_before) -/
def lw_At (p : Program) (s : State) (m : MethodId) (meth : Method) (c : Code) (b L : Nat) (xs : Nat → Int32) : Prop :=
  p.tables.exec = Jvm.exec ∧ c.code = code ∧ meth.sig.returnType = ret ∧ c.maxLocals = 4 ∧ s.vm.findClass R_law = some m.cls ∧ (∀ w ∈ lw_tbl, w.before #[Value.ref b] s = true) ∧ va_X b L xs s s.heap ∧ b < s.heap.size ∧ meth.locks = false ∧ (Jvm.Cond.and given_1 narrow_1).before #[Value.ref b] s = true
-- ===== YOUR PART BEGINS =====
theorem lw_choose {l : List vw_C} {P : vw_C → ClassId → (Nat → Nat) → Prop} (h : ∀ k : Nat, ∃ (c : ClassId) (i : Nat → Nat), ∀ q, l[k]? = some q → P q c i) : ∃ (dC : Nat → ClassId) (dI : Nat → Nat → Nat), ∀ (k : Nat) (q : vw_C), l[k]? = some q → P q (dC k) (dI k) := by
  obtain ⟨dC, h1⟩ := Classical.axiomOfChoice h
  obtain ⟨dI, h2⟩ := Classical.axiomOfChoice h1
  exact ⟨dC, dI, h2⟩
def lw_wl (fl : String) (d : List Int) (j : Nat) : Cond := Cond.eq (Term.elem (Term.static RX2 fl "[I") (Term.int (Int32.ofNat j))) (Term.int (Int32.ofInt (d.getD j 0)))
theorem lw_wS : ∀ j ∈ List.range 55, lw_wl "S" dS j ∈ flatC (Jvm.Cond.and given_1 narrow_1) := by decide +kernel
theorem lw_wT : ∀ j ∈ List.range 55, lw_wl "T" dT j ∈ flatC (Jvm.Cond.and given_1 narrow_1) := by decide +kernel
theorem lw_stat {s : State} {args : Array Value} {A : Nat → Prop} (hA : ∀ a : Nat, a < s.heap.size → ¬ A a) (hts : ∀ w ∈ lw_tbl, w.before args s = true) (hgv : (Jvm.Cond.and given_1 narrow_1).before args s = true) (fl : String) (d : List Int) (hlay : Cond.laysStatic RX2 fl "[I" ∈ lw_tbl) (harr : Cond.arrayOf (Term.static RX2 fl "[I") .int ∈ flatC (Jvm.Cond.and given_1 narrow_1)) (hlen : Cond.eq (Term.length (Term.static RX2 fl "[I")) (Term.int 55) ∈ flatC (Jvm.Cond.and given_1 narrow_1)) (hel : ∀ j ∈ List.range 55, lw_wl fl d j ∈ flatC (Jvm.Cond.and given_1 narrow_1)) (hd : d.length = 55) :
    ∃ t : Nat, va_Z RX2 fl "[I" (.ref t) A s s.heap ∧ va_T .int t d.length (fun j => .int (Int32.ofInt (d.getD j 0))) A s s.heap := by
  have hs := flat_of_before _ hgv
  rw [hd]
  obtain ⟨t, ht, hT⟩ := va_Tof (N := 55) (f := fun j => .int (Int32.ofInt (d.getD j 0))) (A := A) (by decide) (hs _ harr) (va_eqt (hs _ hlen)) (fun j hj => va_eqt (hs _ (hel j (List.mem_range.mpr hj)))) hA
  exact ⟨t, va_Zref (hts _ hlay) (hts _ (by decide +kernel)) ht hA, hT⟩
theorem lw_arr {s : State} {args : Array Value} {ty : FieldType} (h : (Cond.arrayClass ty).before args s = true) : ∃ c : ClassId, ArrOfT s c ty ∧ s.vm.findClass ("[" ++ ty.toString) = some c := by
  obtain ⟨c, k, comp, f1, f2, f3⟩ := Cond.arrayClass_spec h
  exact ⟨c, fun N z => ⟨(fun k h => by cases h), k, f2, comp, f3⟩, f1⟩
theorem lw_over {s : State} {args : Array Value} {C : String} (h : (Cond.arrayOver (.object C)).before args s = true) : ∃ c : ClassId, ArrOfT s c (.object C) ∧ va_RA s c (.object C) := by
  obtain ⟨comp, c, k, f1, f2, f3, f4, f5⟩ := Cond.arrayOver_spec h
  exact ⟨c, fun N z => ⟨(fun k h => by cases h), k, f3, comp, f4⟩, k, comp, f3, f4, f1, f5⟩
theorem lw_classes {s : State} {args : Array Value} (hts : ∀ w ∈ lw_tbl, w.before args s = true) : ∃ (dC : Nat → ClassId) (dI : Nat → Nat → Nat), ∀ (k : Nat) (q : vw_C), vwCl[k]? = some q → u_Kn s q.1 q.2.1 q.2.2 (dC k) (dI k) := by
  have htb : ∀ w ∈ tk_tb, w.before args s = true := fun w hw => hts w (List.mem_filter.mp hw).1
  have key : ∀ {kd N : Nat}, tk_cls kd N → Cond.instantiable (RX_of kd) N ∈ lw_tbl → ∃ (c : ClassId) (i : Nat → Nat), ∀ q, vwCl[kd]? = some q → u_Kn s q.1 q.2.1 q.2.2 c i := by
    intro kd N hc hi
    obtain ⟨c, i, h⟩ := u_known (C := RX_of kd) (T := TX_of kd) (N := N) (n := N) htb hc.2.1 (hts _ hi)
    refine ⟨c, i, fun q hq => ?_⟩
    rw [hc.1] at hq
    cases hq
    exact h
  refine lw_choose (fun k => ?_)
  match k with
  | 0 => exact key cl0 (by decide +kernel)
  | 1 => exact key cl1 (by decide +kernel)
  | 2 => exact key cl2 (by decide +kernel)
  | 3 => exact key cl3 (by decide +kernel)
  | 4 => exact key cl4 (by decide +kernel)
  | 5 => exact key cl5 (by decide +kernel)
  | 6 => exact key cl6 (by decide +kernel)
  | 7 => exact key cl7 (by decide +kernel)
  | 8 => exact key cl8 (by decide +kernel)
  | 9 => exact key cl9 (by decide +kernel)
  | 10 => exact key cl10 (by decide +kernel)
  | k + 11 =>
    obtain ⟨c, i, -⟩ := key cl0 (by decide +kernel)
    exact ⟨c, i, fun q hq => by simp at hq⟩
set_option maxHeartbeats 4000000 in
/-- YOUR PART: from the entry, for every script of at most 3584 ints, the law comes to its end with true -/
theorem whole_start {p : Program} {e : Env} {s : State} {m : MethodId} {below : List Frame} {meth : Method} {c : Code} (l : Launch) (hflags : l.flags = flags0) {b L : Nat} {xs : Nat → Int32} (hL : L ≤ 3584) (C0 : lw_At p s m meth c b L xs) : W p l e room_1 s m #[Value.ref b] below meth c s.heap [] 0 0 (lw_Z below #[Value.ref b] s) (entryFrame m ([Value.ref b] : List Value).toArray 4) := by
  obtain ⟨hx, hb, hr, hml, hown, hts, hX, hbl, hlocks, hgv⟩ := id C0
  have htb : ∀ w ∈ tk_tb, w.before #[Value.ref b] s = true := fun w hw => hts w (List.mem_filter.mp hw).1
  have hA : ∀ a : Nat, a < s.heap.size → ¬ (fun q : Nat => s.heap.size ≤ q) a := fun _ h h1 => Nat.not_le.mpr h h1
  obtain ⟨dC, dI, hKc⟩ := lw_classes hts
  obtain ⟨a0, ha0, hn0⟩ := lw_arr (htb _ ka_int)
  obtain ⟨a1, ha1, hn1⟩ := lw_arr (htb _ ka_long)
  obtain ⟨a2, ha2, hn2⟩ := lw_arr (htb _ ka_byte)
  obtain ⟨a3, ha3, hn3⟩ := lw_over (C := RX3) (hts (Cond.arrayOver (.object RX3)) (by decide +kernel))
  obtain ⟨a4, ha4, hn4⟩ := lw_over (C := RX6) (hts (Cond.arrayOver (.object RX6)) (by decide +kernel))
  obtain ⟨tS, zS, TS⟩ := lw_stat hA hts hgv "S" dS (by decide +kernel) (by decide +kernel) (by decide +kernel) lw_wS (by decide)
  obtain ⟨tT, zT, TT⟩ := lw_stat hA hts hgv "T" dT (by decide +kernel) (by decide +kernel) (by decide +kernel) lw_wT (by decide)
  let xl : List Int := (List.range L).map (fun j => (xs j).toInt)
  have hxl : xl.length = L := by simp [xl]
  have hxj : ∀ j : Nat, j < L → Int32.ofInt (xl.getD j 0) = xs j := fun j hj => by
    have : xl.getD j 0 = (xs j).toInt := by simp [xl, List.getD_eq_getElem?_getD, hj]
    rw [this, Int32.ofInt_toInt]
  let G : tk_G := (s.heap.size, (dC, dI), (fun k => if k = 0 then a0 else if k = 1 then a1 else if k = 2 then a2 else if k = 3 then a3 else a4), (fun k => if k = 0 then b else if k = 1 then tS else tT), (fun k => if k = 0 then xl else if k = 1 then dS else dT))
  have hT0 : va_T .int b xl.length (fun j => .int (Int32.ofInt (xl.getD j 0))) (fun q : Nat => s.heap.size ≤ q) s s.heap := by
    obtain ⟨scr, x1, x2, x3, x4, x5⟩ := hX
    refine ⟨scr, x1, x2, x3, by rw [x4, hxl]; exact Nat.le_refl _, by rw [x4, hxl], fun j hj => ?_, hA b hbl⟩
    rw [hxl] at hj
    show scr.slots[j]? = some (.int (Int32.ofInt (xl.getD j 0)))
    rw [hxj j hj]; exact x5 j hj
  have hK : tk_K G s s.heap := by
    refine ⟨⟨hKc, fun k q hq => ?_⟩, fun k hk => ?_, zS, zT, ⟨va_Nw.of rfl (hts tk_nest (by decide +kernel)), va_AO.of (hts (Cond.arrayOver (.object RX3)) (by decide +kernel)), va_AO.of (hts (Cond.arrayOver (.object RX6)) (by decide +kernel))⟩, Nat.le_refl _⟩
    · match k, hq with
      | 0, hq => cases hq; exact ⟨ha0, hn0⟩
      | 1, hq => cases hq; exact ⟨ha1, hn1⟩
      | 2, hq => cases hq; exact ⟨ha2, hn2⟩
      | 3, hq => cases hq; exact ⟨ha3, hn3⟩
      | 4, hq => cases hq; exact ⟨ha4, hn4⟩
      | k + 5, hq => simp [tk_ty] at hq
    · match k, hk with
      | 0, _ =>
        refine ⟨hT0, by show xl.length < 2 ^ 31; rw [hxl]; omega, fun x hx' => ?_⟩
        obtain ⟨j, -, rfl⟩ := List.mem_map.mp (show x ∈ (List.range L).map (fun j => (xs j).toInt) from hx')
        have h1 := (xs j).le_toInt
        have h2 := (xs j).toInt_lt
        exact ⟨by omega, by omega⟩
      | 1, _ => exact ⟨TS, by show dS.length < 2 ^ 31; decide, by show ∀ x ∈ dS, tk_r32 x; unfold tk_r32; decide⟩
      | 2, _ => exact ⟨TT, by show dT.length < 2 ^ 31; decide, by show ∀ x ∈ dT, tk_r32 x; unfold tk_r32; decide⟩
      | k + 3, hk => omega
  have F : tk_Fx G (FLn meth.name) p s m #[Value.ref b] meth c := ⟨hx, hb, hml, hown, htb, hK, rfl⟩
  have hW : tk_W G [] (fun _ _ => 0) s.heap := ⟨fun k q h => by simp [tk_ws] at h, fun c q h => by simp at h⟩
  have hl := lv_entry ([.ref b]) (n := 4) (Nat.le_of_ble_eq_true rfl)
  rw [lg_entry_eq]
  generalize (lg_sl ([.ref b]) ++ List.replicate (4 - (lg_sl ([.ref b])).length) Slot.unset).toArray = la at hl ⊢
  have hl : lv_has la 4 [(0, .ref b)] := hl
  have hOk : Ok G (FLn meth.name) 0 [xS 0, xU, xU, xU] [] [] (fun _ _ => 0) 0 0 (fun v _ _ => v = xI 1) := lw_begin (nm := meth.name) ⟨rfl, rfl⟩ (by show ((xl.length : Nat) : Int) < 2 ^ 31; rw [hxl]; omega) (fun _ => rfl)
  refine hOk p l e s m #[Value.ref b] below meth c s.heap [] la _ F hW va_S.rf hl ⟨rfl, rfl⟩ (fun v hv => ?_) (fun v hv => by cases hv) (fun v S' M' H' locs' k' n' pc' la' hv hW' hS' hk' hn' hok hrok => ?_)
  · simp only [List.mem_cons, List.not_mem_nil, or_false] at hv
    rcases hv with rfl | rfl | rfl | rfl
    · exact tk_ok_S 0
    · exact tk_ok_U
    · exact tk_ok_U
    · exact tk_ok_U
  · subst hv
    refine va_forget (fun q hq => hS'.2.2 q hq) ?_
    refine W.widen (k := 600000) (n := 7302250) hk'.1 hn' ?_
    exact lw_ret hx hb hr hlocks hrok.2.2
-- ===== YOUR PART ENDS =====
set_option maxHeartbeats 4000000 in
theorem lw_walk (l : Launch) (hflags : l.flags = flags0) (b : Addr) (xs : List Int32) : MetFree l x (headSpec (Jvm.Cond.code x code maxLocals ret :: tables_1) room_1) (lw_P b xs) (fun _ _ _ _ _ => True) lw_Q := by
  refine MetFree.of_bodyS (code := code) (maxLocals := maxLocals) (ret := ret) (by decide) ?_ ?_
  · intro args s m h hn
    obtain ⟨meth, c, h1, h2, h3, h4, h5, h6, -, -⟩ := Cond.code_spec hn (atoms_spec (ws := Jvm.Cond.code x code maxLocals ret :: tables_1) h _ List.mem_cons_self)
    exact ⟨meth, c, h1, h2, h3, h4, h5, h6⟩
  · intro p e s m args below meth c s₁ B hml0 hP _
    obtain ⟨rfl, hx, hbd, hgv⟩ := hP
    obtain ⟨scr, harrAt, hlist, hof, hsmall⟩ := hx
    obtain ⟨hcb, hkn, -, -⟩ := State.arrayAt?_spec harrAt
    have hown : s.vm.findClass R_law = some m.cls := findClass_of_methodNamed B.named
    have hts0 : ∀ c ∈ (Jvm.Cond.code x code maxLocals ret :: tables_1), c.before #[Value.ref b] s = true := atoms_spec (ws := Jvm.Cond.code x code maxLocals ret :: tables_1) B.pre
    have hts : ∀ w ∈ lw_tbl, w.before #[Value.ref b] s = true := k2_hts_sels lw_privs (fun w hw => hts0 w (List.mem_cons_of_mem _ hw)) lw_privs_ok
    have hml : c.maxLocals = 4 := B.maxLocals_eq (hts0 _ List.mem_cons_self)
    have X₀ : Stand p l e room_1 s m #[Value.ref b] below meth c s₁ [] 0 0 := Stand.of_body B
    have hh0 : s₁.heap = s.heap := by rw [B.state]; rfl
    have hsz : scr.slots.size = xs.length := by rw [← Array.length_toList, hlist, List.length_map]
    have hval : ∀ j : Nat, j < xs.length → scr.slots[j]? = some (.int (xs.getD j 0)) := fun j hj => by
      rw [← Array.getElem?_toList, hlist]
      simp [hj]
    have hbl : b < s.heap.size := (Array.getElem?_eq_some_iff.mp hcb).1
    have hX : va_X b xs.length (fun j => xs.getD j 0) s s.heap := ⟨scr, hcb, hof, hkn, hsz, hval⟩
    have K : W p l e room_1 s m #[Value.ref b] below meth c s₁.heap [] 0 0 (lw_Z below #[Value.ref b] s) (entryFrame m ([Value.ref b] : List Value).toArray 4) := by
      rw [hh0]
      exact whole_start l hflags hbd ⟨B.exec, B.bytes, B.returns, hml, hown, hts, hX, hbl, B.notSynchronized, hgv⟩
    obtain ⟨t, a1, o, b1, b2, b3⟩ := K s₁ rfl X₀
    exact ⟨t, o, a1, b1, b2, b3⟩
theorem lw_pre_spec {args : Array Value} {s : State} (h : (Jvm.Cond.and given_1 narrow_1).before args s = true) (hr : rest_1_c.before args s = true) : ∃ (b : Addr) (xs : List Int32), lw_P b xs args s := by
  have hs := flat_of_before _ h
  have hq := flat_of_before _ hr
  have hc : (Cond.count 1).before args s = true := hs _ (by decide +kernel)
  have harr : (Cond.arrayOf (.arg 0) .int).before args s = true := hs _ (by decide +kernel)
  have hle : (Cond.le (.length (.arg 0)) (.int 3584)).before args s = true := hs _ (by decide +kernel)
  have hlen : (Cond.isInt (.length (.arg 0))).before args s = true := hq _ (by decide +kernel)
  have hall : (Cond.all (.arg 0) (.isInt (.elem (.arg 0) (.index 0)))).before args s = true := hq _ (by decide +kernel)
  obtain ⟨b, xs, hb, hx⟩ := State.ints_of_pre rfl harr hlen hall
  have hsm : xs.length < 2 ^ 31 := hx.choose_spec.2.2.2
  have hev : (Term.length (.arg 0)).eval args s none [] s = some (.int xs.length.toInt32) := hx.length_eval hb
  have hv := Cond.le_ints hev (show (Term.int 3584).eval args s none [] s = some (.int 3584) from rfl)
  have hd : xs.length.toInt32 ≤ 3584 := by
    simpa [Cond.before, Cond.holds, hv] using hle
  have hN : xs.length ≤ 3584 := (Int32.ofNat_le_ofNat hsm (by decide)).mp (show Int32.ofNat xs.length ≤ Int32.ofNat 3584 from hd)
  exact ⟨b, xs, Cond.one_arg hc (show args[0]? = some (.ref b) from hb), hx, hN, h⟩
theorem lw_comes (l : Launch) (hflags : l.flags = flags0) : Comes l x (Jvm.Cond.code x code maxLocals ret :: tables_1) room_1 (fun tb e args s => Calls_1 tb e args s ∧ rest_1 tb e args s ∧ Pre_1 tb e args s)
    (fun _ _ args s o t => lw_Q args s o t) := by
  intro p e ha hc hk s m args below hf hfit hheap happ hpre
  obtain ⟨b, xs, hP⟩ := lw_pre_spec hpre.2.2 hpre.2.1
  obtain ⟨k, o, h1, h2, h3, hQ⟩ := lw_walk l hflags b xs p e ha hc hk s m args below hf ((Spec.applies_iff_loose hf).mp happ).1 hP trivial
  exact ⟨k, o, h1, h2, h3, hQ⟩
theorem lw_frame {s t : State} {o : Outcome} {args : Array Value} (h : Framed s o t [] 600000 7302250) :
    Framed s o t (fieldLocs frame_1_writes args s ++ arrayLocs frame_1_arrays args s ++ staticLocs frame_1_statics s) 600000 7302250 := h
theorem lw_limb (L : Cond) (hL : ∀ (args : Array Value) (s t : State), L.after args s (.returned (some (.int 1))) t = true) :
    ArmFor flags0 classFile x code maxLocals ret World_1 tables_1 room_1 Calls_1 rest_1 Pre_1
      (fun tb e a s o t => postC L tb e a s o t ∧ Framed s o t (fieldLocs frame_1_writes a s ++ arrayLocs frame_1_arrays a s ++ staticLocs frame_1_statics s) 600000 7302250) := by
  intro l hflags _ _ p e ha hc hk s m args below hf hfit hheap happ hpre
  obtain ⟨k, o, h1, h2, h3, rfl, hF⟩ := lw_comes l hflags p e ha hc hk s m args below hf hfit hheap happ hpre
  exact ⟨k, _, h1, h2, h3, hL args s _, lw_frame hF⟩
theorem i_vc : Claimed_1_1 ∧ Claimed_1_2 := ⟨lw_limb limb_1_1 (fun args s t => by simp [limb_1_1, Cond.after, Cond.holds, Cond.value]), lw_limb limb_1_2 (fun args s t => Cond.after_iff.mpr (by
  first | (rw [show limb_1_2 = Cond.eq .result (.int 1) from rfl, Cond.eq_ints (x := 1) (y := 1) rfl rfl]; simp; done) | (simp [limb_1_2, Cond.value, Term.eval]; done)))⟩
