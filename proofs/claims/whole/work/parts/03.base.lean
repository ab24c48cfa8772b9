/-! ===== A LIGHT LAYER OVER THE KIT: values as (sort, Int), cells as Int rows by number, one judgement 'Ok' that speaks of all of the law's cells at once ===== -/
def tyX_of (k : Nat) : Nat → FieldType := match k with
  | 0 => tyX0
  | 1 => tyX1
  | 2 => tyX2
  | 3 => tyX3
  | 4 => tyX4
  | 5 => tyX5
  | 6 => tyX6
  | 7 => tyX7
  | 8 => tyX8
  | 9 => tyX9
  | _ => tyX10
def TX_of (k : Nat) : u_T := match k with
  | 0 => TX0
  | 1 => TX1
  | 2 => TX2
  | 3 => TX3
  | 4 => TX4
  | 5 => TX5
  | 6 => TX6
  | 7 => TX7
  | 8 => TX8
  | 9 => TX9
  | _ => TX10
def RX_of (k : Nat) : String := match k with
  | 0 => RX0
  | 1 => RX1
  | 2 => RX2
  | 3 => RX3
  | 4 => RX4
  | 5 => RX5
  | 6 => RX6
  | 7 => RX7
  | 8 => RX8
  | 9 => RX9
  | _ => RX10
abbrev tk_V : Type := Nat × Int
def xI (x : Int) : tk_V := (0, x)
def xL (x : Int) : tk_V := (1, x)
def xR (x : Int) : tk_V := (2, x)
def xS (x : Int) : tk_V := (3, x)
def xU : tk_V := (4, 0)
abbrev tk_M : Type := Int → Int → Int
abbrev tk_C : Type := Nat × Nat × List Int
abbrev tk_S : Type := List tk_C
/-- base address; classes and slots; array classes; addresses and contents of the rows that are only read -/
abbrev tk_G : Type := Nat × va_G × (Nat → ClassId) × (Nat → Nat) × (Nat → List Int)
/-- a method in its room: name, code, locals, answer; depth, cells, slots -/
abbrev tk_F : Type := MethodName × ByteArray × Nat × Option FieldType × Nat × Nat × Nat
def tk_mu (M : tk_M) (c i v : Int) : tk_M := fun c' i' => if c' = c ∧ i' = i then v else M c' i'
def tk_sg (S : tk_S) (c : Int) : Option tk_C := if c < 0 then none else S[c.toNat]?
def tk_ro (G : tk_G) (r : Int) : Option Nat := if r < 0 then none else some (G.1 + r.toNat)
def tk_e (G : tk_G) (v : tk_V) : Value := match v with
  | (0, x) => .int (Int32.ofInt x)
  | (1, x) => .long (Int64.ofInt x)
  | (2, x) => va_rf (tk_ro G x)
  | (3, x) => .ref (G.2.2.2.1 x.toNat)
  | _ => .int 0
def tk_r32 (x : Int) : Prop := -2147483648 ≤ x ∧ x ≤ 2147483647
def tk_r64 (x : Int) : Prop := -9223372036854775808 ≤ x ∧ x ≤ 9223372036854775807
def tk_ok (v : tk_V) : Prop := (v.1 = 0 → tk_r32 v.2) ∧ (v.1 = 1 → tk_r64 v.2)
/-- which slots of an object hold cells (2), ints (0) -/
def tk_tag (k i : Nat) : Nat := match tyX_of k i with
  | .object _ => 2
  | .array _ => 2
  | _ => 0
def tk_ent (G : tk_G) (q : tk_C) (f : Int → Int) : va_E :=
  if q.1 = 20 then .inl (G.2.2.1 0, q.2.1, .inl (fun j => Int32.ofInt (f j)))
  else if q.1 = 21 then .inl (G.2.2.1 1, q.2.1, .inr (.inl (fun j => Int64.ofInt (f j))))
  else if q.1 = 22 then .inl (G.2.2.1 2, q.2.1, .inl (fun j => Int32.ofInt (f j)))
  else if q.1 = 23 then .inl (G.2.2.1 3, q.2.1, .inr (.inr (.inr (.inr (fun j => tk_ro G (q.2.2.getD j (-1)))))))
  else if q.1 = 24 then .inl (G.2.2.1 4, q.2.1, .inr (.inr (.inr (.inr (fun j => tk_ro G (q.2.2.getD j (-1)))))))
  else .inr (q.1, (List.range q.2.1).map (fun i => if tk_tag q.1 i = 2 then tk_e G (xR (q.2.2.getD i (-1))) else tk_e G (xI (f i))))
def tk_ws (G : tk_G) (S : tk_S) (M : tk_M) : va_W := S.mapIdx (fun c q => (G.1 + c, tk_ent G q (M c)))
def tk_rng (k : Nat) (x : Int) : Prop := if k = 21 then tk_r64 x else tk_r32 x
def tk_mok (S : tk_S) (M : tk_M) : Prop := ∀ (c : Nat) (q : tk_C), S[c]? = some q → ∀ i : Nat, i < q.2.1 → tk_rng q.1 (M c i)
/-- the world: the law's cells, all of them, and nothing behind them -/
def tk_W (G : tk_G) (S : tk_S) (M : tk_M) (H : Heap) : Prop := va_P G.2.1 vwCl (tk_ws G S M) H ∧ tk_mok S M
def tk_A (G : tk_G) : Nat → Prop := fun q => G.1 ≤ q
def tk_ty (G : tk_G) : List (ClassId × FieldType) := [(G.2.2.1 0, .int), (G.2.2.1 1, .long), (G.2.2.1 2, .byte), (G.2.2.1 3, .object RX3), (G.2.2.1 4, .object RX6)]
def tk_T (G : tk_G) (k : Nat) (U : State) (H : Heap) : Prop := va_T .int (G.2.2.2.1 k) (G.2.2.2.2 k).length (fun j => .int (Int32.ofInt ((G.2.2.2.2 k).getD j 0))) (tk_A G) U H ∧ (G.2.2.2.2 k).length < 2 ^ 31 ∧ ∀ x ∈ G.2.2.2.2 k, tk_r32 x
def tk_nest : Cond := .methodLinkNest RX3 49 yX9_lowerOf RX9
/-- what holds at every state of the run: classes, rows that are only read -/
def tk_K (G : tk_G) (U : State) (H : Heap) : Prop := va_K G.2.1 vwCl (tk_ty G) U ∧ (∀ k : Nat, k < 3 → tk_T G k U H) ∧ va_Z RX2 "S" "[I" (.ref (G.2.2.2.1 1)) (tk_A G) U H ∧ va_Z RX2 "T" "[I" (.ref (G.2.2.2.1 2)) (tk_A G) U H ∧ (va_Nw tk_nest U ∧ va_AO RX3 U ∧ va_AO RX6 U) ∧ G.1 ≤ H.size
def tk_tb : List Cond := lw_tbl.filter goodWord
def tk_rm (f : tk_F) : Room := { frames := f.2.2.2.2.1, cells := f.2.2.2.2.2.1, slots := f.2.2.2.2.2.2, locals := 40 * f.2.2.2.2.1 }
def tk_l (G : tk_G) (ls : List tk_V) : List (Nat × Value) := ls.zipIdx.filterMap (fun q => if q.1.1 < 4 then some (q.2, tk_e G q.1) else none)
/-- what is fixed in a method's run -/
def tk_Fx (G : tk_G) (f : tk_F) (p : Program) (s : State) (m : MethodId) (args : Array Value) (meth : Method) (c : Code) : Prop :=
  p.tables.exec = Jvm.exec ∧ c.code = f.2.1 ∧ c.maxLocals = f.2.2.1 ∧ s.vm.findClass f.1.cls = some m.cls ∧ (∀ w ∈ tk_tb, w.before args s = true) ∧ tk_K G s s.heap ∧ meth.name = f.1.name
/-- the answer as it lies on the stack; how it is given -/
def tk_rst (G : tk_G) (v : tk_V) : List Value := if v.1 < 4 then [tk_e G v] else []
def tk_rok (f : tk_F) (v : tk_V) (pc : Nat) : Prop := match f.2.2.2.1 with
  | none => v = xU ∧ decode f.2.1 pc = .ok (.return_, 1)
  | some .int => v.1 = 0 ∧ decode f.2.1 pc = .ok (.ireturn, 1)
  | some .boolean => v.1 = 0 ∧ (v.2 = 0 ∨ v.2 = 1) ∧ decode f.2.1 pc = .ok (.ireturn, 1)
  | some .long => v.1 = 1 ∧ decode f.2.1 pc = .ok (.lreturn, 1)
  | some (.object _) => v.1 = 2 ∧ 0 ≤ v.2 ∧ decode f.2.1 pc = .ok (.areturn, 1)
  | _ => False
def Ok (G : tk_G) (f : tk_F) (pc : Nat) (ls st : List tk_V) (S : tk_S) (M : tk_M) (k n : Nat) (Q : tk_V → tk_S → tk_M → Prop) : Prop :=
  ∀ (p : Program) (l : Launch) (e : Env) (s : State) (m : MethodId) (args : Array Value) (below : List Frame) (meth : Method) (c : Code) (H : Heap) (locs : List Loc) (la : Array Slot) (Z : State → Prop),
    tk_Fx G f p s m args meth c → tk_W G S M H → va_S (tk_A G) s.heap H locs → lv_has la ls.length (tk_l G ls) → (ls.length = f.2.2.1 ∧ s.heap.size + k = G.1 + S.length) → (∀ v ∈ ls, tk_ok v) → (∀ v ∈ st, tk_ok v) →
    (∀ (v : tk_V) (S' : tk_S) (M' : tk_M) (H' : Heap) (locs' : List Loc) (k' n' pc' : Nat) (la' : Array Slot), Q v S' M' → tk_W G S' M' H' → va_S (tk_A G) s.heap H' locs' → (k' ≤ f.2.2.2.2.2.1 ∧ s.heap.size + k' = G.1 + S'.length) → n' ≤ f.2.2.2.2.2.2 → tk_ok v → tk_rok f v pc' →
      W p l e (tk_rm f) s m args below meth c H' locs' k' n' Z (F0 m pc' la' (tk_rst G v))) →
    W p l e (tk_rm f) s m args below meth c H locs k n Z (F0 m pc la (st.map (tk_e G)))
theorem i32_to {x : Int} (h : tk_r32 x) : (Int32.ofInt x).toInt = x := Int32.toInt_ofInt_of_le (by have := h.1; omega) (by have := h.2; omega)
theorem i64_to {x : Int} (h : tk_r64 x) : (Int64.ofInt x).toInt = x := Int64.toInt_ofInt_of_le (by have := h.1; omega) (by have := h.2; omega)
theorem i32_lt {x y : Int} (hx : tk_r32 x) (hy : tk_r32 y) : Int32.ofInt x < Int32.ofInt y ↔ x < y := by rw [Int32.lt_iff_toInt_lt, i32_to hx, i32_to hy]
theorem i32_le {x y : Int} (hx : tk_r32 x) (hy : tk_r32 y) : Int32.ofInt x ≤ Int32.ofInt y ↔ x ≤ y := by rw [Int32.le_iff_toInt_le, i32_to hx, i32_to hy]
theorem i32_eq {x y : Int} (hx : tk_r32 x) (hy : tk_r32 y) : Int32.ofInt x = Int32.ofInt y ↔ x = y := by rw [← Int32.toInt_inj, i32_to hx, i32_to hy]
theorem i32_nat {x : Int} (hx : tk_r32 x) : (Int32.ofInt x).toNatClampNeg = x.toNat := by
  show (Int32.ofInt x).toInt.toNat = _
  rw [i32_to hx]
theorem i32_in {x : Int} {n : Nat} (hx : tk_r32 x) (h0 : 0 ≤ x) (h1 : x < n) : vp_in (Int32.ofInt x) n := by
  rw [vp_in_iff, i32_to hx]; exact ⟨h0, h1⟩
theorem tk_ok_I {x : Int} : tk_ok (xI x) ↔ tk_r32 x := ⟨fun h => h.1 rfl, fun h => ⟨fun _ => h, fun h0 => (by cases h0)⟩⟩
theorem tk_ok_L {x : Int} : tk_ok (xL x) ↔ tk_r64 x := ⟨fun h => h.2 rfl, fun h => ⟨fun h0 => (by cases h0), fun _ => h⟩⟩
theorem tk_ok_R (x : Int) : tk_ok (xR x) := ⟨fun h0 => (by cases h0), fun h0 => (by cases h0)⟩
theorem tk_ok_S (x : Int) : tk_ok (xS x) := ⟨fun h0 => (by cases h0), fun h0 => (by cases h0)⟩
theorem tk_ok_U : tk_ok xU := ⟨fun h0 => (by cases h0), fun h0 => (by cases h0)⟩
theorem tk_l_mem {G : tk_G} {ls : List tk_V} {i : Nat} {v : tk_V} (h : ls[i]? = some v) (hv : v.1 < 4) : (i, tk_e G v) ∈ tk_l G ls := by
  unfold tk_l
  rw [List.mem_filterMap]
  exact ⟨(v, i), by rw [List.mem_zipIdx_iff_getElem?]; exact h, by rw [if_pos hv]⟩
theorem tk_l_of {G : tk_G} {ls : List tk_V} {q : Nat × Value} (h : q ∈ tk_l G ls) : ∃ v, ls[q.1]? = some v ∧ v.1 < 4 ∧ q.2 = tk_e G v := by
  unfold tk_l at h
  obtain ⟨⟨v, i⟩, h1, h2⟩ := List.mem_filterMap.mp h
  rw [List.mem_zipIdx_iff_getElem?] at h1
  by_cases hv : v.1 < 4
  · rw [if_pos hv] at h2; cases h2; exact ⟨v, h1, hv, rfl⟩
  · rw [if_neg hv] at h2; cases h2
theorem tk_lat {G : tk_G} {la : Array Slot} {ls : List tk_V} {n i : Nat} {v : tk_V} (hl : lv_has la n (tk_l G ls)) (h : ls[i]? = some v) (hv : v.1 < 4) : la[i]? = some (.val (tk_e G v)) := hl.2.2 _ (tk_l_mem h hv)
theorem tk_cat (G : tk_G) {v : tk_V} : (tk_e G v).category = 2 ↔ v.1 = 1 := by
  obtain ⟨t, x⟩ := v
  match t with
  | 0 => simp [tk_e, Value.category]
  | 1 => simp [tk_e, Value.category]
  | 2 => unfold tk_e va_rf; simp only []; split <;> simp [Value.category]
  | 3 => simp [tk_e, Value.category]
  | t + 4 => simp [tk_e, Value.category]
/-- a store at i is good, if no long lies just ahead of it -/
def tk_sto (ls : List tk_V) (i : Nat) : Bool := match i with
  | 0 => true
  | j + 1 => match ls[j]? with
    | some (1, _) => false
    | _ => true
theorem tk_sto_ne {ls : List tk_V} {i j : Nat} {v : tk_V} (h : tk_sto ls i = true) (hj : j + 1 = i) (hv : ls[j]? = some v) : v.1 ≠ 1 := by
  subst hj
  intro h1
  obtain ⟨t, x⟩ := v
  cases h1
  simp [tk_sto, hv] at h
theorem tk_set1 {G : tk_G} {la la' : Array Slot} {ls : List tk_V} {i : Nat} {v : tk_V} (hs : tk_sto ls i = true) (hi : i < ls.length) (hl : lv_has la' ls.length ((i, tk_e G v) :: (tk_l G ls).filter (fun q => !(q.1 == i) && !(q.1 + 1 == i && q.2.category == 2)))) : lv_has la' (ls.set i v).length (tk_l G (ls.set i v)) := by
  rw [List.length_set]
  refine ⟨hl.1, hl.2.1, fun q hq => hl.2.2 q ?_⟩
  obtain ⟨w, h1, h2, h3⟩ := tk_l_of hq
  obtain ⟨j, z⟩ := q
  dsimp only at h1 h3
  subst h3
  by_cases hj : j = i
  · subst hj
    rw [List.getElem?_set_self hi] at h1
    cases h1
    exact List.mem_cons_self
  · rw [List.getElem?_set_ne (fun h => hj h.symm)] at h1
    refine List.mem_cons_of_mem _ (List.mem_filter.mpr ⟨tk_l_mem h1 h2, ?_⟩)
    have hc : ¬ (j + 1 = i ∧ (tk_e G w).category = 2) := fun h => tk_sto_ne hs h.1 h1 ((tk_cat G).mp h.2)
    simp only [Bool.and_eq_true, Bool.not_eq_true', beq_eq_false_iff_ne, ne_eq, Bool.and_eq_false_iff]
    refine ⟨hj, ?_⟩
    by_cases h5 : j + 1 = i
    · exact Or.inr (fun h6 => hc ⟨h5, h6⟩)
    · exact Or.inl h5
theorem tk_set2 {G : tk_G} {la la' : Array Slot} {ls : List tk_V} {i : Nat} {v : tk_V} (hs : tk_sto ls i = true) (hi : i + 1 < ls.length) (hl : lv_has la' ls.length ((i, tk_e G v) :: (tk_l G ls).filter (fun q => !(q.1 == i) && (!(q.1 == i + 1) && !(q.1 + 1 == i && q.2.category == 2))))) : lv_has la' ((ls.set i v).set (i + 1) xU).length (tk_l G ((ls.set i v).set (i + 1) xU)) := by
  rw [List.length_set, List.length_set]
  refine ⟨hl.1, hl.2.1, fun q hq => hl.2.2 q ?_⟩
  obtain ⟨w, h1, h2, h3⟩ := tk_l_of hq
  obtain ⟨j, z⟩ := q
  dsimp only at h1 h3
  subst h3
  by_cases hj1 : j = i + 1
  · subst hj1
    rw [List.getElem?_set_self (by rw [List.length_set]; exact hi)] at h1
    cases h1
    exact absurd h2 (by decide)
  · rw [List.getElem?_set_ne (fun h => hj1 h.symm)] at h1
    by_cases hj : j = i
    · subst hj
      rw [List.getElem?_set_self (by omega)] at h1
      cases h1
      exact List.mem_cons_self
    · rw [List.getElem?_set_ne (fun h => hj h.symm)] at h1
      refine List.mem_cons_of_mem _ (List.mem_filter.mpr ⟨tk_l_mem h1 h2, ?_⟩)
      have hc : ¬ (j + 1 = i ∧ (tk_e G w).category = 2) := fun h => tk_sto_ne hs h.1 h1 ((tk_cat G).mp h.2)
      simp only [Bool.and_eq_true, Bool.not_eq_true', beq_eq_false_iff_ne, ne_eq, Bool.and_eq_false_iff]
      refine ⟨hj, hj1, ?_⟩
      by_cases h5 : j + 1 = i
      · exact Or.inr (fun h6 => hc ⟨h5, h6⟩)
      · exact Or.inl h5
theorem tk_oks {ls : List tk_V} {i : Nat} {v : tk_V} (h : ∀ w ∈ ls, tk_ok w) (hv : tk_ok v) : ∀ w ∈ ls.set i v, tk_ok w := fun w hw => by
  rcases List.mem_or_eq_of_mem_set hw with h1 | h1
  · exact h w h1
  · rw [h1]; exact hv
