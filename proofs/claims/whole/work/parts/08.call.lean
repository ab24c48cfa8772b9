section TkCall
variable {G : tk_G} {f : tk_F} {pc : Nat} {ls st : List tk_V} {S : tk_S} {M : tk_M} {k n : Nat} {Q : tk_V → tk_S → tk_M → Prop}
theorem tk_size {H : Heap} {p : Program} {l : Launch} {e : Env} {R : Room} {s T : State} {m : MethodId} {args : Array Value} {below : List Frame} {meth : Method} {c : Code} {locs : List Loc} (hW : tk_W G S M H) (hS : va_S (tk_A G) s.heap H locs) (hz : s.heap.size + k = G.1 + S.length) (hg : G.1 ≤ s.heap.size) (hT : T.heap = H) (X : Stand p l e R s m args below meth c T locs k n) : H.size = G.1 + S.length := by
  have h1 := X.heapSize
  rw [hT] at h1
  have h2 : G.1 + S.length ≤ H.size := by
    by_cases h0 : S.length = 0
    · have := hS.1; omega
    · have h3 : S.length - 1 < S.length := by omega
      have h4 : (tk_ws G S M)[S.length - 1]? = some (G.1 + (S.length - 1), tk_ent G S[S.length - 1] (M ((S.length - 1 : Nat) : Int))) := by
        unfold tk_ws
        rw [List.getElem?_mapIdx, List.getElem?_eq_getElem h3]; rfl
      have h5 := (hW.1 _ _ h4).lt
      have h6 : G.1 + (S.length - 1) < H.size := h5
      omega
  omega
theorem tk_K.moved {u U : State} {H : Heap} (hW : u.WarmedH U.vm) (h : tk_K G u H) : tk_K G U H := by
  obtain ⟨h1, h2, h3, h4, h5, h6⟩ := h
  exact ⟨h1.moved hW.alike, fun j hj => ⟨(h2 j hj).1.moved hW.alike, (h2 j hj).2⟩, h3.moved hW.alike, h4.moved hW.alike, ⟨va_Nw.warmM hW h5.1, h5.2.1.moved hW.alike, h5.2.2.moved hW.alike⟩, h6⟩
theorem tk_K.kept {U : State} {H H1 : Heap} (h : tk_K G U H) (hz : H.size ≤ H1.size) (hq : ∀ a : Nat, a < H.size → ¬ tk_A G a → H1[a]? = H[a]?) : tk_K G U H1 := by
  obtain ⟨h1, h2, h3, h4, h5, h6⟩ := h
  exact ⟨h1, fun j hj => ⟨(h2 j hj).1.kept hq, (h2 j hj).2⟩, h3.kept hq, h4.kept hq, h5, Nat.le_trans h6 hz⟩
theorem tk_K.calling {U : State} {H : Heap} (g : JFrame) (mk : MethodId) (a : Array Value) (h : tk_K G U H) : tk_K G (U.calling g mk a) H := by
  obtain ⟨h1, h2, h3, h4, h5, h6⟩ := h
  have hv : U.vm.Alike (U.calling g mk a).vm := Vm.Alike.refl U.vm
  exact ⟨h1.moved hv, fun j hj => ⟨(h2 j hj).1.moved hv, (h2 j hj).2⟩, h3.moved hv, h4.moved hv, ⟨va_Nw.same rfl rfl h5.1, h5.2.1.moved hv, h5.2.2.moved hv⟩, h6⟩
def tk_rv (G : tk_G) (v : tk_V) : Option Value := if v.1 < 4 then some (tk_e G v) else none
def tk_rvo (r : Option FieldType) (v : tk_V) : Prop := match r with
  | none => v = xU
  | some .int => v.1 = 0
  | some .boolean => v.1 = 0 ∧ (v.2 = 0 ∨ v.2 = 1)
  | some .long => v.1 = 1
  | some (.object _) => v.1 = 2 ∧ 0 ≤ v.2
  | _ => False
def tk_Pc (G : tk_G) (args : List tk_V) (S : tk_S) (M : tk_M) : Array Value → State → Prop := fun a U => a = (args.map (tk_e G)).toArray ∧ (∀ v ∈ args, tk_ok v) ∧ tk_W G S M U.heap ∧ U.heap.size = G.1 + S.length ∧ tk_K G U U.heap
def tk_Qc (G : tk_G) (f : tk_F) (S : tk_S) (Q : tk_V → tk_S → tk_M → Prop) : Array Value → State → Outcome → State → Prop := fun _ st o t => ∃ (v : tk_V) (S' : tk_S) (M' : tk_M), o = .returned (tk_rv G v) ∧ Q v S' M' ∧ tk_W G S' M' t.heap ∧ S'.length = S.length + f.2.2.2.2.2.1 ∧ tk_ok v ∧ tk_rvo f.2.2.2.1 v ∧ va_F (tk_A G) st t
/-- a method's contract -/
def Sp (G : tk_G) (f : tk_F) (args : List tk_V) (S : tk_S) (M : tk_M) (Q : tk_V → tk_S → tk_M → Prop) : Prop :=
  ∀ l : Launch, Met l f.1 (Cond.code f.1 f.2.1 f.2.2.1 f.2.2.2.1 :: tk_tb) (tk_rm f) (tk_Pc G args S M) (tk_Qc G f S Q) f.2.2.2.2.2.1 f.2.2.2.2.2.2 (tk_A G)
def tk_x : List tk_V → List tk_V
  | [] => []
  | v :: t => if v.1 = 1 then v :: xU :: tk_x t else v :: tk_x t
def tk_en (args : List tk_V) (n : Nat) : List tk_V := tk_x args ++ List.replicate (n - (tk_x args).length) xU
theorem tk_x_args (vs : List tk_V) : ∀ (i j : Nat) (v : tk_V), (tk_x vs)[j]? = some v → v.1 < 4 → (i + j, tk_e G v) ∈ lv_args i (vs.map (tk_e G)) := by
  induction vs with
  | nil => intro i j v h; simp [tk_x] at h
  | cons a t ih =>
    intro i j v h hv
    show (i + j, tk_e G v) ∈ lv_args i (tk_e G a :: t.map (tk_e G))
    unfold tk_x at h
    by_cases ha : a.1 = 1
    · rw [if_pos ha] at h
      have hc : (tk_e G a).category = 2 := (tk_cat G).mpr ha
      match j, h with
      | 0, h => cases h; exact List.mem_cons_self
      | 1, h => cases h; exact absurd hv (by decide)
      | j + 2, h =>
        have := ih (i + 2) j v h hv
        rw [show i + (j + 2) = i + 2 + j by omega]
        unfold lv_args
        rw [hc]
        exact List.mem_cons_of_mem _ this
    · rw [if_neg ha] at h
      have hc : (tk_e G a).category = 1 := (lv_cat _).resolve_right (fun h2 => ha ((tk_cat G).mp h2))
      match j, h with
      | 0, h => cases h; exact List.mem_cons_self
      | j + 1, h =>
        have := ih (i + 1) j v h hv
        rw [show i + (j + 1) = i + 1 + j by omega]
        unfold lv_args
        rw [hc]
        exact List.mem_cons_of_mem _ this
theorem tk_x_len (vs : List tk_V) : (lg_sl (vs.map (tk_e G))).length = (tk_x vs).length := by
  induction vs with
  | nil => rfl
  | cons a t ih =>
    unfold tk_x
    by_cases ha : a.1 = 1
    · rw [if_pos ha]
      have hc : (tk_e G a).category = 2 := (tk_cat G).mpr ha
      have e0 : lg_sl ((a :: t).map (tk_e G)) = (if (tk_e G a).category = 2 then [Slot.val (tk_e G a), Slot.second] else [Slot.val (tk_e G a)]) ++ lg_sl (t.map (tk_e G)) := by simp [lg_sl]
      rw [e0, List.length_append, ih]
      simp [hc]; omega
    · rw [if_neg ha]
      have hc : (tk_e G a).category = 1 := (lv_cat _).resolve_right (fun h2 => ha ((tk_cat G).mp h2))
      have e0 : lg_sl ((a :: t).map (tk_e G)) = (if (tk_e G a).category = 2 then [Slot.val (tk_e G a), Slot.second] else [Slot.val (tk_e G a)]) ++ lg_sl (t.map (tk_e G)) := by simp [lg_sl]
      rw [e0, List.length_append, ih]
      simp [hc]; omega
theorem tk_x_ok {vs : List tk_V} (h : ∀ v ∈ vs, tk_ok v) : ∀ v ∈ tk_x vs, tk_ok v := by
  induction vs with
  | nil => intro v hv; cases hv
  | cons a t ih =>
    intro v hv
    unfold tk_x at hv
    have h1 := ih (fun w hw => h w (List.mem_cons_of_mem _ hw)) v
    by_cases ha : a.1 = 1
    · rw [if_pos ha] at hv
      rcases List.mem_cons.mp hv with h2 | hv
      · rw [h2]; exact h a List.mem_cons_self
      · rcases List.mem_cons.mp hv with h2 | hv
        · rw [h2]; exact tk_ok_U
        · exact h1 hv
    · rw [if_neg ha] at hv
      rcases List.mem_cons.mp hv with h2 | hv
      · rw [h2]; exact h a List.mem_cons_self
      · exact h1 hv
theorem Sp.of {args : List tk_V} (hpl : plainName f.1.cls = true) (hlen : (tk_x args).length ≤ f.2.2.1) (hQ : ∀ v S' M', Q v S' M' → S'.length = S.length + f.2.2.2.2.2.1) (hok : Ok G f 0 (tk_en args f.2.2.1) [] S M 0 0 Q) : Sp G f args S M Q := by
  intro l
  refine Met.ofW (cc := f.2.1) (maxL := f.2.2.1) (ret := f.2.2.2.1) hpl rfl ?_
  intro p e s m av below meth c s₁ B hml hv
  obtain ⟨rfl, hargs, hW, hz, hK⟩ := hv
  have hts := atoms_spec (ws := Cond.code f.1 f.2.1 f.2.2.1 f.2.2.2.1 :: tk_tb) B.pre
  have hown : s.vm.findClass f.1.cls = some m.cls := findClass_of_methodNamed B.named
  have hlocks := B.notSynchronized
  have hr := B.returns
  have hnm : meth.name = f.1.name := (name_of_methodNamed B.named B.method).1
  have hle : (lg_sl (args.map (tk_e G))).length ≤ f.2.2.1 := by rw [tk_x_len]; exact hlen
  have hl := lv_entry (args.map (tk_e G)) (n := f.2.2.1) hle
  rw [lg_entry_eq]
  generalize (lg_sl (args.map (tk_e G)) ++ List.replicate (f.2.2.1 - (lg_sl (args.map (tk_e G))).length) Slot.unset).toArray = la at hl ⊢
  have hlen2 : (tk_en args f.2.2.1).length = f.2.2.1 := by unfold tk_en; rw [List.length_append, List.length_replicate]; omega
  have F : tk_Fx G f p s m (args.map (tk_e G)).toArray meth c := ⟨B.exec, B.bytes, hml, hown, fun w hw => hts w (List.mem_cons_of_mem _ hw), hK, hnm⟩
  refine hok p l e s m (args.map (tk_e G)).toArray below meth c s.heap [] la _ F hW va_S.rf ?_ ⟨hlen2, hz⟩ ?_ (fun v hv => by cases hv) ?_
  · rw [hlen2]
    refine ⟨hl.1, hl.2.1, fun q hq => hl.2.2 q ?_⟩
    obtain ⟨v, h1, h2, h3⟩ := tk_l_of hq
    obtain ⟨j, z⟩ := q
    dsimp only at h1 h3
    subst h3
    unfold tk_en at h1
    by_cases hj : j < (tk_x args).length
    · rw [List.getElem?_append_left hj] at h1
      have := tk_x_args (G := G) args 0 j v h1 h2
      rwa [Nat.zero_add] at this
    · rw [List.getElem?_append_right (by omega)] at h1
      have := List.mem_of_getElem? h1
      rw [List.eq_of_mem_replicate this] at h2
      exact absurd h2 (by decide)
  · intro v hv
    rcases List.mem_append.mp hv with hv | hv
    · exact tk_x_ok hargs v hv
    · rw [List.eq_of_mem_replicate hv]; exact tk_ok_U
  · intro v S' M' H' locs' k' n' pc' la' hq hW' hS' hk' hn' hov hro
    have hk : k' = f.2.2.2.2.2.1 := by have := hQ v S' M' hq; omega
    refine W.widen (k := f.2.2.2.2.2.1) (n := f.2.2.2.2.2.2) hk'.1 hn' ?_
    have hf : ∀ q ∈ locs', tk_A G q.base := fun q hq => hS'.2.2 q hq
    have hQc : tk_rvo f.2.2.2.1 v → ∀ t : State, t.heap = H' → s.WarmedH t.vm → tk_Qc G f S Q (args.map (tk_e G)).toArray s (.returned (tk_rv G v)) t := fun h3 t ht _ => ⟨v, S', M', rfl, hq, by rw [ht]; exact hW', hQ v S' M' hq, hov, h3, hS'.F ht⟩
    obtain ⟨tg, x⟩ := v
    unfold tk_rok at hro
    cases hrt : f.2.2.2.1 with
    | none =>
      rw [hrt] at hro hr
      obtain ⟨h1, h2⟩ := hro
      cases h1
      exact W.vret B.exec B.bytes hr (hQc (by rw [hrt]; rfl)) hf h2
    | some ty =>
      rw [hrt] at hro hr
      cases ty with
      | int =>
        obtain ⟨h1, h2⟩ := hro
        cases h1
        exact W.iret B.exec B.bytes hr (hQc (by rw [hrt]; rfl)) hf h2
      | boolean =>
        obtain ⟨h1, h3, h2⟩ := hro
        cases h1
        have h4 : narrow .boolean (.int (Int32.ofInt x)) = .int (Int32.ofInt x) := by
          rcases h3 with h3 | h3 <;> (dsimp only at h3; subst h3; decide)
        exact W.zret B.exec B.bytes hr h4 (hQc (by rw [hrt]; exact ⟨rfl, h3⟩)) hf h2
      | long =>
        obtain ⟨h1, h2⟩ := hro
        cases h1
        exact W.lret B.exec B.bytes hr (hQc (by rw [hrt]; rfl)) hf h2
      | object C =>
        obtain ⟨h1, h3, h2⟩ := hro
        cases h1
        have h5 : tk_e G ((2 : Nat), x) = .ref (G.1 + x.toNat) := tk_eR h3
        have h6 := hQc (by rw [hrt]; exact ⟨rfl, h3⟩)
        refine W.aret (v := tk_e G (2, x)) B.exec B.bytes hr (Or.inl ⟨C, rfl⟩) (Or.inr ⟨_, h5⟩) h6 hf h2
      | _ => exact hro.elim
theorem tk_good : GoodIn tk_tb tk_tb := fun w h => ⟨h, good_of_word (List.mem_filter.mp h).2⟩
def tk_cw : List tk_V → Nat
  | [] => 0
  | v :: t => (if v.1 = 1 then 2 else 1) + tk_cw t
theorem tk_cw_eq (st : List tk_V) : ((st.map (tk_e G)).map fun v => v.category).sum = tk_cw st := by
  induction st with
  | nil => rfl
  | cons a t ih =>
    unfold tk_cw
    rw [List.map_cons, List.map_cons, List.sum_cons, ih]
    by_cases ha : a.1 = 1
    · rw [if_pos ha, (tk_cat G).mpr ha]
    · rw [if_neg ha, (lv_cat _).resolve_right (fun h2 => ha ((tk_cat G).mp h2))]
/-- a method as the tables have it -/
def tk_mt (g : tk_F) (na : Nat) : Prop := Cond.code g.1 g.2.1 g.2.2.1 g.2.2.2.1 ∈ tk_tb ∧ Cond.initialized g.1.cls ∈ tk_tb ∧ g.1.cls ≠ "java/lang/invoke/MethodHandle" ∧ g.1.cls ≠ "java/lang/invoke/VarHandle" ∧ (parseMethodDescriptor g.1.desc).map (fun d => d.parameters.length) = some na ∧ plainName g.1.cls = true
theorem tk_callB {g : tk_F} {na : Nat} {own : String} {idx : Nat} {s : State} {args : Array Value} (ht : ∀ w ∈ tk_tb, w.before args s = true) (hm : tk_mt g na) (hl : Cond.methodLink own idx g.1 ∈ tk_tb) (hdep : g.2.2.2.2.1 < f.2.2.2.2.1 ∧ g.2.2.1 ≤ 21) : CallB (tk_rm f) s args own idx g.1 g.2.1 g.2.2.1 g.2.2.2.1 (Cond.code g.1 g.2.1 g.2.2.1 g.2.2.2.1 :: tk_tb) (tk_rm g) g.2.2.2.2.2.1 g.2.2.2.2.2.2 na := by
  obtain ⟨h1, h2, h3, h4, h5, -⟩ := hm
  refine ⟨rfl, rfl, hdep.1, ?_, fun w hw a' U hW => ?_, List.mem_cons_self, ht _ h1, ht _ h2, ⟨h3, h4⟩, fun sig hsig => ?_, ht _ hl⟩
  · show 8 + (g.2.2.1 + 11) + 40 * g.2.2.2.2.1 ≤ 40 * f.2.2.2.2.1
    omega
  · have hw2 : w ∈ tk_tb := by
      rcases List.mem_cons.mp hw with h | h
      · rw [h]; exact h1
      · exact h
    exact word_at hW (tk_good w hw2).2 (ht w hw2)
  · rw [hsig] at h5; exact (Option.some.inj h5).symm
theorem tk_blind (args : List tk_V) : FrameBlind (tk_Pc G args S M) := fun a U g mk h => ⟨h.1, h.2.1, h.2.2.1, h.2.2.2.1, h.2.2.2.2.calling g mk a⟩
/-- behind a call -/
theorem tk_after {p : Program} {l : Launch} {e : Env} {s : State} {m : MethodId} {args : Array Value} {below : List Frame} {meth : Method} {c : Code} {H : Heap} {locs : List Loc} {la : Array Slot} {Z : State → Prop} {g : tk_F} {Q' : tk_V → tk_S → tk_M → Prop} {av : Array Value} {st0 : List Value} {T : State}
    (hr : va_Run p l e (tk_rm f) s m args below meth c H locs k n g.2.2.2.2.2.1 g.2.2.2.2.2.2 (F0 m pc la st0) (st.map (tk_e G)) (tk_Qc G g S Q' av) (tk_A G)) (hT : T.heap = H) (X : Stand p l e (tk_rm f) s m args below meth c T locs k n)
    (F : tk_Fx G f p s m args meth c) (hS : va_S (tk_A G) s.heap H locs) (hl : lv_has la ls.length (tk_l G ls)) (hn : ls.length = f.2.2.1 ∧ s.heap.size + k = G.1 + S.length) (hls : ∀ v ∈ ls, tk_ok v) (hst : ∀ v ∈ st, tk_ok v)
    (hR : ∀ (v : tk_V) (S' : tk_S) (M' : tk_M) (H' : Heap) (locs' : List Loc) (k' n' pc' : Nat) (la' : Array Slot), Q v S' M' → tk_W G S' M' H' → va_S (tk_A G) s.heap H' locs' → (k' ≤ f.2.2.2.2.2.1 ∧ s.heap.size + k' = G.1 + S'.length) → n' ≤ f.2.2.2.2.2.2 → tk_ok v → tk_rok f v pc' → W p l e (tk_rm f) s m args below meth c H' locs' k' n' Z (F0 m pc' la' (tk_rst G v)))
    (kk : ∀ (v : tk_V) (S' : tk_S) (M' : tk_M), Q' v S' M' → tk_rvo g.2.2.2.1 v → tk_ok v → S'.length = S.length + g.2.2.2.2.2.1 → Ok G f (pc + 3) ls (if v.1 < 4 then v :: st else st) S' M' (k + g.2.2.2.2.2.1) (n + g.2.2.2.2.2.2) Q) :
    ∃ t, Steps p.tables e below (T.setTop (F0 m pc la st0)) t ∧ Z t := by
  obtain ⟨v, st₀, t, T', L, h0, X', hL, e1, e2, hq, hgo⟩ := hr T hT X
  obtain ⟨v', S', M', q1, q2, q3, q4, q5, q6, q7⟩ := hq
  cases q1
  have hS2 : va_S (tk_A G) s.heap T'.heap (locs ++ L) := by
    refine ⟨Nat.le_trans hS.1 ?_, fun q h1 h2 => ?_, fun q hq => ?_⟩
    · rw [e1, ← h0]; exact q7.1
    · have h3 : q < st₀.heap.size := by rw [h0]; exact Nat.lt_of_lt_of_le h1 hS.1
      rw [e1, q7.2 q h3 h2, h0]; exact hS.2.1 q h1 h2
    · rcases List.mem_append.mp hq with h | h
      · exact hS.2.2 q h
      · exact hL q h
  have hst2 : ∀ w ∈ (if v'.1 < 4 then v' :: st else st), tk_ok w := by
    by_cases hv : v'.1 < 4
    · rw [if_pos hv]; exact tk_okc q5 hst
    · rw [if_neg hv]; exact hst
  obtain ⟨t2, a1, b1⟩ := kk v' S' M' q2 q6 q5 q4 p l e s m args below meth c T'.heap (locs ++ L) la Z F (by rw [e1]; exact q3) hS2 hl ⟨hn.1, by rw [q4]; have := hn.2; omega⟩ hls hst2 hR T' rfl X'
  refine ⟨t2, hgo t2 ?_, b1⟩
  have e3 : (tk_rv G v').toList ++ st.map (tk_e G) = (if v'.1 < 4 then v' :: st else st).map (tk_e G) := by
    unfold tk_rv
    by_cases hv : v'.1 < 4
    · rw [if_pos hv, if_pos hv]; rfl
    · rw [if_neg hv, if_neg hv]; rfl
  rw [← e3] at a1
  exact a1
end TkCall
