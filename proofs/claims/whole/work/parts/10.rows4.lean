section TkRows4
variable {G : tk_G} {f : tk_F} {pc : Nat} {ls st : List tk_V} {S : tk_S} {M : tk_M} {k n : Nat} {Q : tk_V → tk_S → tk_M → Prop}
/-- the ends of a method that makes nothing -/
def tk_qi (S : tk_S) (P : Int → tk_M → Prop) : tk_V → tk_S → tk_M → Prop := fun v S' M' => S' = S ∧ ∃ r : Int, v = xI r ∧ P r M'
def tk_ql (S : tk_S) (P : Int → tk_M → Prop) : tk_V → tk_S → tk_M → Prop := fun v S' M' => S' = S ∧ ∃ r : Int, v = xL r ∧ P r M'
def tk_qr (S : tk_S) (P : Int → tk_M → Prop) : tk_V → tk_S → tk_M → Prop := fun v S' M' => S' = S ∧ ∃ r : Int, v = xR r ∧ P r M'
def tk_qv (S : tk_S) (P : tk_M → Prop) : tk_V → tk_S → tk_M → Prop := fun v S' M' => S' = S ∧ v = xU ∧ P M'
def Spi (G : tk_G) (f : tk_F) (args : List tk_V) (S : tk_S) (M : tk_M) (P : Int → tk_M → Prop) : Prop := Sp G f args S M (tk_qi S P)
def Spl (G : tk_G) (f : tk_F) (args : List tk_V) (S : tk_S) (M : tk_M) (P : Int → tk_M → Prop) : Prop := Sp G f args S M (tk_ql S P)
def Spr (G : tk_G) (f : tk_F) (args : List tk_V) (S : tk_S) (M : tk_M) (P : Int → tk_M → Prop) : Prop := Sp G f args S M (tk_qr S P)
def Spv (G : tk_G) (f : tk_F) (args : List tk_V) (S : tk_S) (M : tk_M) (P : tk_M → Prop) : Prop := Sp G f args S M (tk_qv S P)
/-- a method that makes nothing: no cells, no slots -/
def tk_nil (f : tk_F) : Prop := f.2.2.2.2.2.1 = 0 ∧ f.2.2.2.2.2.2 = 0
theorem Spi.of {args : List tk_V} {P : Int → tk_M → Prop} (na : Nat) (hm : tk_mt f na) (h0 : tk_nil f) (hlen : (tk_x args).length ≤ f.2.2.1) (hok : Ok G f 0 (tk_en args f.2.2.1) [] S M 0 0 (tk_qi S P)) : Spi G f args S M P := Sp.of hm.2.2.2.2.2 hlen (fun v S' M' h => by rw [h.1, h0.1]; rfl) hok
theorem Spl.of {args : List tk_V} {P : Int → tk_M → Prop} (na : Nat) (hm : tk_mt f na) (h0 : tk_nil f) (hlen : (tk_x args).length ≤ f.2.2.1) (hok : Ok G f 0 (tk_en args f.2.2.1) [] S M 0 0 (tk_ql S P)) : Spl G f args S M P := Sp.of hm.2.2.2.2.2 hlen (fun v S' M' h => by rw [h.1, h0.1]; rfl) hok
theorem Spr.of {args : List tk_V} {P : Int → tk_M → Prop} (na : Nat) (hm : tk_mt f na) (h0 : tk_nil f) (hlen : (tk_x args).length ≤ f.2.2.1) (hok : Ok G f 0 (tk_en args f.2.2.1) [] S M 0 0 (tk_qr S P)) : Spr G f args S M P := Sp.of hm.2.2.2.2.2 hlen (fun v S' M' h => by rw [h.1, h0.1]; rfl) hok
theorem Spv.of {args : List tk_V} {P : tk_M → Prop} (na : Nat) (hm : tk_mt f na) (h0 : tk_nil f) (hlen : (tk_x args).length ≤ f.2.2.1) (hok : Ok G f 0 (tk_en args f.2.2.1) [] S M 0 0 (tk_qv S P)) : Spv G f args S M P := Sp.of hm.2.2.2.2.2 hlen (fun v S' M' h => by rw [h.1, h0.1]; rfl) hok
theorem tr_ireti {x : Int} {P : Int → tk_M → Prop} (hd : decode f.2.1 pc = .ok (.ireturn, 1)) (hr : f.2.2.2.1 = some .int) (hP : P x M) : Ok G f pc ls [xI x] S M 0 0 (tk_qi S P) := by
  refine tk_okst (fun hx => ?_)
  exact tr_ret (v := xI x) (by unfold tk_rok; rw [hr]; exact ⟨rfl, hd⟩) hx (Nat.zero_le _) (Nat.zero_le _) ⟨rfl, x, rfl, hP⟩ rfl
theorem tr_iretz {x : Int} {P : Int → tk_M → Prop} (hd : decode f.2.1 pc = .ok (.ireturn, 1)) (hr : f.2.2.2.1 = some .boolean) (h01 : x = 0 ∨ x = 1) (hP : P x M) : Ok G f pc ls [xI x] S M 0 0 (tk_qi S P) := by
  refine tk_okst (fun hx => ?_)
  exact tr_ret (v := xI x) (by unfold tk_rok; rw [hr]; exact ⟨rfl, h01, hd⟩) hx (Nat.zero_le _) (Nat.zero_le _) ⟨rfl, x, rfl, hP⟩ rfl
theorem tr_lret {x : Int} {P : Int → tk_M → Prop} (hd : decode f.2.1 pc = .ok (.lreturn, 1)) (hr : f.2.2.2.1 = some .long) (hP : P x M) : Ok G f pc ls [xL x] S M 0 0 (tk_ql S P) := by
  refine tk_okst (fun hx => ?_)
  exact tr_ret (v := xL x) (by unfold tk_rok; rw [hr]; exact ⟨rfl, hd⟩) hx (Nat.zero_le _) (Nat.zero_le _) ⟨rfl, x, rfl, hP⟩ rfl
theorem tr_aret {x : Int} {C : String} {P : Int → tk_M → Prop} (hd : decode f.2.1 pc = .ok (.areturn, 1)) (hr : f.2.2.2.1 = some (.object C)) (h0 : 0 ≤ x) (hP : P x M) : Ok G f pc ls [xR x] S M 0 0 (tk_qr S P) := by
  exact tr_ret (v := xR x) (by unfold tk_rok; rw [hr]; exact ⟨rfl, h0, hd⟩) (tk_ok_R x) (Nat.zero_le _) (Nat.zero_le _) ⟨rfl, x, rfl, hP⟩ rfl
theorem tr_vret {P : tk_M → Prop} (hd : decode f.2.1 pc = .ok (.return_, 1)) (hr : f.2.2.2.1 = none) (hP : P M) : Ok G f pc ls [] S M 0 0 (tk_qv S P) := by
  exact tr_ret (v := xU) (by unfold tk_rok; rw [hr]; exact ⟨rfl, hd⟩) tk_ok_U (Nat.zero_le _) (Nat.zero_le _) ⟨rfl, rfl, hP⟩ rfl
theorem tr_cVi0 {g : tk_F} {own : String} {idx kd N : Nat} {c : Int} {rl : List Int} {P : Int → tk_M → Prop} (hd : decode f.2.1 pc = .ok (.invokevirtual idx, 3)) (hm : tk_mt g 0) (hl : tk_lv own idx g) (ho : f.1.cls = own) (hs : tk_sg S c = some (kd, N, rl)) (hkd : vwCl[kd]? = some (g.1.cls, TX_of kd, N) ∧ kd < 20) (hdep : g.2.2.2.2.1 < f.2.2.2.2.1 ∧ g.2.2.1 ≤ 21) (h0 : tk_nil g) (hcw : tk_cw st ≤ 8) (hcs : k ≤ f.2.2.2.2.2.1 ∧ n ≤ f.2.2.2.2.2.2) (hsp : Spi G g [xR c] S M P) (kk : ∀ (r : Int) (M' : tk_M), P r M' → Ok G f (pc + 3) ls (xI r :: st) S M' k n Q) : Ok G f pc ls (xR c :: st) S M k n Q := by
  refine tk_callV (args := []) (Q' := tk_qi S P) hd hm hl ho hs hkd hdep rfl hcw (by rw [h0.1, h0.2]; exact hcs) hsp (fun v S' M' h _ _ _ => ?_)
  obtain ⟨rfl, r, rfl, hP⟩ := h
  rw [h0.1, h0.2]
  exact kk r M' hP
theorem tr_cVi1 {g : tk_F} {own : String} {idx kd N : Nat} {c : Int} {rl : List Int} {a1 : tk_V} {P : Int → tk_M → Prop} (hd : decode f.2.1 pc = .ok (.invokevirtual idx, 3)) (hm : tk_mt g 1) (hl : tk_lv own idx g) (ho : f.1.cls = own) (hs : tk_sg S c = some (kd, N, rl)) (hkd : vwCl[kd]? = some (g.1.cls, TX_of kd, N) ∧ kd < 20) (hdep : g.2.2.2.2.1 < f.2.2.2.2.1 ∧ g.2.2.1 ≤ 21) (h0 : tk_nil g) (hcw : tk_cw st ≤ 8) (hcs : k ≤ f.2.2.2.2.2.1 ∧ n ≤ f.2.2.2.2.2.2) (hsp : Spi G g [xR c, a1] S M P) (kk : ∀ (r : Int) (M' : tk_M), P r M' → Ok G f (pc + 3) ls (xI r :: st) S M' k n Q) : Ok G f pc ls (a1 :: xR c :: st) S M k n Q := by
  refine tk_callV (args := [a1]) (Q' := tk_qi S P) hd hm hl ho hs hkd hdep rfl hcw (by rw [h0.1, h0.2]; exact hcs) hsp (fun v S' M' h _ _ _ => ?_)
  obtain ⟨rfl, r, rfl, hP⟩ := h
  rw [h0.1, h0.2]
  exact kk r M' hP
theorem tr_cVi2 {g : tk_F} {own : String} {idx kd N : Nat} {c : Int} {rl : List Int} {a1 a2 : tk_V} {P : Int → tk_M → Prop} (hd : decode f.2.1 pc = .ok (.invokevirtual idx, 3)) (hm : tk_mt g 2) (hl : tk_lv own idx g) (ho : f.1.cls = own) (hs : tk_sg S c = some (kd, N, rl)) (hkd : vwCl[kd]? = some (g.1.cls, TX_of kd, N) ∧ kd < 20) (hdep : g.2.2.2.2.1 < f.2.2.2.2.1 ∧ g.2.2.1 ≤ 21) (h0 : tk_nil g) (hcw : tk_cw st ≤ 8) (hcs : k ≤ f.2.2.2.2.2.1 ∧ n ≤ f.2.2.2.2.2.2) (hsp : Spi G g [xR c, a1, a2] S M P) (kk : ∀ (r : Int) (M' : tk_M), P r M' → Ok G f (pc + 3) ls (xI r :: st) S M' k n Q) : Ok G f pc ls (a2 :: a1 :: xR c :: st) S M k n Q := by
  refine tk_callV (args := [a1, a2]) (Q' := tk_qi S P) hd hm hl ho hs hkd hdep rfl hcw (by rw [h0.1, h0.2]; exact hcs) hsp (fun v S' M' h _ _ _ => ?_)
  obtain ⟨rfl, r, rfl, hP⟩ := h
  rw [h0.1, h0.2]
  exact kk r M' hP
theorem tr_cVi3 {g : tk_F} {own : String} {idx kd N : Nat} {c : Int} {rl : List Int} {a1 a2 a3 : tk_V} {P : Int → tk_M → Prop} (hd : decode f.2.1 pc = .ok (.invokevirtual idx, 3)) (hm : tk_mt g 3) (hl : tk_lv own idx g) (ho : f.1.cls = own) (hs : tk_sg S c = some (kd, N, rl)) (hkd : vwCl[kd]? = some (g.1.cls, TX_of kd, N) ∧ kd < 20) (hdep : g.2.2.2.2.1 < f.2.2.2.2.1 ∧ g.2.2.1 ≤ 21) (h0 : tk_nil g) (hcw : tk_cw st ≤ 8) (hcs : k ≤ f.2.2.2.2.2.1 ∧ n ≤ f.2.2.2.2.2.2) (hsp : Spi G g [xR c, a1, a2, a3] S M P) (kk : ∀ (r : Int) (M' : tk_M), P r M' → Ok G f (pc + 3) ls (xI r :: st) S M' k n Q) : Ok G f pc ls (a3 :: a2 :: a1 :: xR c :: st) S M k n Q := by
  refine tk_callV (args := [a1, a2, a3]) (Q' := tk_qi S P) hd hm hl ho hs hkd hdep rfl hcw (by rw [h0.1, h0.2]; exact hcs) hsp (fun v S' M' h _ _ _ => ?_)
  obtain ⟨rfl, r, rfl, hP⟩ := h
  rw [h0.1, h0.2]
  exact kk r M' hP
theorem tr_cVi4 {g : tk_F} {own : String} {idx kd N : Nat} {c : Int} {rl : List Int} {a1 a2 a3 a4 : tk_V} {P : Int → tk_M → Prop} (hd : decode f.2.1 pc = .ok (.invokevirtual idx, 3)) (hm : tk_mt g 4) (hl : tk_lv own idx g) (ho : f.1.cls = own) (hs : tk_sg S c = some (kd, N, rl)) (hkd : vwCl[kd]? = some (g.1.cls, TX_of kd, N) ∧ kd < 20) (hdep : g.2.2.2.2.1 < f.2.2.2.2.1 ∧ g.2.2.1 ≤ 21) (h0 : tk_nil g) (hcw : tk_cw st ≤ 8) (hcs : k ≤ f.2.2.2.2.2.1 ∧ n ≤ f.2.2.2.2.2.2) (hsp : Spi G g [xR c, a1, a2, a3, a4] S M P) (kk : ∀ (r : Int) (M' : tk_M), P r M' → Ok G f (pc + 3) ls (xI r :: st) S M' k n Q) : Ok G f pc ls (a4 :: a3 :: a2 :: a1 :: xR c :: st) S M k n Q := by
  refine tk_callV (args := [a1, a2, a3, a4]) (Q' := tk_qi S P) hd hm hl ho hs hkd hdep rfl hcw (by rw [h0.1, h0.2]; exact hcs) hsp (fun v S' M' h _ _ _ => ?_)
  obtain ⟨rfl, r, rfl, hP⟩ := h
  rw [h0.1, h0.2]
  exact kk r M' hP
theorem tr_cVi5 {g : tk_F} {own : String} {idx kd N : Nat} {c : Int} {rl : List Int} {a1 a2 a3 a4 a5 : tk_V} {P : Int → tk_M → Prop} (hd : decode f.2.1 pc = .ok (.invokevirtual idx, 3)) (hm : tk_mt g 5) (hl : tk_lv own idx g) (ho : f.1.cls = own) (hs : tk_sg S c = some (kd, N, rl)) (hkd : vwCl[kd]? = some (g.1.cls, TX_of kd, N) ∧ kd < 20) (hdep : g.2.2.2.2.1 < f.2.2.2.2.1 ∧ g.2.2.1 ≤ 21) (h0 : tk_nil g) (hcw : tk_cw st ≤ 8) (hcs : k ≤ f.2.2.2.2.2.1 ∧ n ≤ f.2.2.2.2.2.2) (hsp : Spi G g [xR c, a1, a2, a3, a4, a5] S M P) (kk : ∀ (r : Int) (M' : tk_M), P r M' → Ok G f (pc + 3) ls (xI r :: st) S M' k n Q) : Ok G f pc ls (a5 :: a4 :: a3 :: a2 :: a1 :: xR c :: st) S M k n Q := by
  refine tk_callV (args := [a1, a2, a3, a4, a5]) (Q' := tk_qi S P) hd hm hl ho hs hkd hdep rfl hcw (by rw [h0.1, h0.2]; exact hcs) hsp (fun v S' M' h _ _ _ => ?_)
  obtain ⟨rfl, r, rfl, hP⟩ := h
  rw [h0.1, h0.2]
  exact kk r M' hP
theorem tr_cVi6 {g : tk_F} {own : String} {idx kd N : Nat} {c : Int} {rl : List Int} {a1 a2 a3 a4 a5 a6 : tk_V} {P : Int → tk_M → Prop} (hd : decode f.2.1 pc = .ok (.invokevirtual idx, 3)) (hm : tk_mt g 6) (hl : tk_lv own idx g) (ho : f.1.cls = own) (hs : tk_sg S c = some (kd, N, rl)) (hkd : vwCl[kd]? = some (g.1.cls, TX_of kd, N) ∧ kd < 20) (hdep : g.2.2.2.2.1 < f.2.2.2.2.1 ∧ g.2.2.1 ≤ 21) (h0 : tk_nil g) (hcw : tk_cw st ≤ 8) (hcs : k ≤ f.2.2.2.2.2.1 ∧ n ≤ f.2.2.2.2.2.2) (hsp : Spi G g [xR c, a1, a2, a3, a4, a5, a6] S M P) (kk : ∀ (r : Int) (M' : tk_M), P r M' → Ok G f (pc + 3) ls (xI r :: st) S M' k n Q) : Ok G f pc ls (a6 :: a5 :: a4 :: a3 :: a2 :: a1 :: xR c :: st) S M k n Q := by
  refine tk_callV (args := [a1, a2, a3, a4, a5, a6]) (Q' := tk_qi S P) hd hm hl ho hs hkd hdep rfl hcw (by rw [h0.1, h0.2]; exact hcs) hsp (fun v S' M' h _ _ _ => ?_)
  obtain ⟨rfl, r, rfl, hP⟩ := h
  rw [h0.1, h0.2]
  exact kk r M' hP
theorem tr_cVl0 {g : tk_F} {own : String} {idx kd N : Nat} {c : Int} {rl : List Int} {P : Int → tk_M → Prop} (hd : decode f.2.1 pc = .ok (.invokevirtual idx, 3)) (hm : tk_mt g 0) (hl : tk_lv own idx g) (ho : f.1.cls = own) (hs : tk_sg S c = some (kd, N, rl)) (hkd : vwCl[kd]? = some (g.1.cls, TX_of kd, N) ∧ kd < 20) (hdep : g.2.2.2.2.1 < f.2.2.2.2.1 ∧ g.2.2.1 ≤ 21) (h0 : tk_nil g) (hcw : tk_cw st ≤ 8) (hcs : k ≤ f.2.2.2.2.2.1 ∧ n ≤ f.2.2.2.2.2.2) (hsp : Spl G g [xR c] S M P) (kk : ∀ (r : Int) (M' : tk_M), P r M' → Ok G f (pc + 3) ls (xL r :: st) S M' k n Q) : Ok G f pc ls (xR c :: st) S M k n Q := by
  refine tk_callV (args := []) (Q' := tk_ql S P) hd hm hl ho hs hkd hdep rfl hcw (by rw [h0.1, h0.2]; exact hcs) hsp (fun v S' M' h _ _ _ => ?_)
  obtain ⟨rfl, r, rfl, hP⟩ := h
  rw [h0.1, h0.2]
  exact kk r M' hP
theorem tr_cVl1 {g : tk_F} {own : String} {idx kd N : Nat} {c : Int} {rl : List Int} {a1 : tk_V} {P : Int → tk_M → Prop} (hd : decode f.2.1 pc = .ok (.invokevirtual idx, 3)) (hm : tk_mt g 1) (hl : tk_lv own idx g) (ho : f.1.cls = own) (hs : tk_sg S c = some (kd, N, rl)) (hkd : vwCl[kd]? = some (g.1.cls, TX_of kd, N) ∧ kd < 20) (hdep : g.2.2.2.2.1 < f.2.2.2.2.1 ∧ g.2.2.1 ≤ 21) (h0 : tk_nil g) (hcw : tk_cw st ≤ 8) (hcs : k ≤ f.2.2.2.2.2.1 ∧ n ≤ f.2.2.2.2.2.2) (hsp : Spl G g [xR c, a1] S M P) (kk : ∀ (r : Int) (M' : tk_M), P r M' → Ok G f (pc + 3) ls (xL r :: st) S M' k n Q) : Ok G f pc ls (a1 :: xR c :: st) S M k n Q := by
  refine tk_callV (args := [a1]) (Q' := tk_ql S P) hd hm hl ho hs hkd hdep rfl hcw (by rw [h0.1, h0.2]; exact hcs) hsp (fun v S' M' h _ _ _ => ?_)
  obtain ⟨rfl, r, rfl, hP⟩ := h
  rw [h0.1, h0.2]
  exact kk r M' hP
theorem tr_cVl2 {g : tk_F} {own : String} {idx kd N : Nat} {c : Int} {rl : List Int} {a1 a2 : tk_V} {P : Int → tk_M → Prop} (hd : decode f.2.1 pc = .ok (.invokevirtual idx, 3)) (hm : tk_mt g 2) (hl : tk_lv own idx g) (ho : f.1.cls = own) (hs : tk_sg S c = some (kd, N, rl)) (hkd : vwCl[kd]? = some (g.1.cls, TX_of kd, N) ∧ kd < 20) (hdep : g.2.2.2.2.1 < f.2.2.2.2.1 ∧ g.2.2.1 ≤ 21) (h0 : tk_nil g) (hcw : tk_cw st ≤ 8) (hcs : k ≤ f.2.2.2.2.2.1 ∧ n ≤ f.2.2.2.2.2.2) (hsp : Spl G g [xR c, a1, a2] S M P) (kk : ∀ (r : Int) (M' : tk_M), P r M' → Ok G f (pc + 3) ls (xL r :: st) S M' k n Q) : Ok G f pc ls (a2 :: a1 :: xR c :: st) S M k n Q := by
  refine tk_callV (args := [a1, a2]) (Q' := tk_ql S P) hd hm hl ho hs hkd hdep rfl hcw (by rw [h0.1, h0.2]; exact hcs) hsp (fun v S' M' h _ _ _ => ?_)
  obtain ⟨rfl, r, rfl, hP⟩ := h
  rw [h0.1, h0.2]
  exact kk r M' hP
theorem tr_cVl3 {g : tk_F} {own : String} {idx kd N : Nat} {c : Int} {rl : List Int} {a1 a2 a3 : tk_V} {P : Int → tk_M → Prop} (hd : decode f.2.1 pc = .ok (.invokevirtual idx, 3)) (hm : tk_mt g 3) (hl : tk_lv own idx g) (ho : f.1.cls = own) (hs : tk_sg S c = some (kd, N, rl)) (hkd : vwCl[kd]? = some (g.1.cls, TX_of kd, N) ∧ kd < 20) (hdep : g.2.2.2.2.1 < f.2.2.2.2.1 ∧ g.2.2.1 ≤ 21) (h0 : tk_nil g) (hcw : tk_cw st ≤ 8) (hcs : k ≤ f.2.2.2.2.2.1 ∧ n ≤ f.2.2.2.2.2.2) (hsp : Spl G g [xR c, a1, a2, a3] S M P) (kk : ∀ (r : Int) (M' : tk_M), P r M' → Ok G f (pc + 3) ls (xL r :: st) S M' k n Q) : Ok G f pc ls (a3 :: a2 :: a1 :: xR c :: st) S M k n Q := by
  refine tk_callV (args := [a1, a2, a3]) (Q' := tk_ql S P) hd hm hl ho hs hkd hdep rfl hcw (by rw [h0.1, h0.2]; exact hcs) hsp (fun v S' M' h _ _ _ => ?_)
  obtain ⟨rfl, r, rfl, hP⟩ := h
  rw [h0.1, h0.2]
  exact kk r M' hP
theorem tr_cVl4 {g : tk_F} {own : String} {idx kd N : Nat} {c : Int} {rl : List Int} {a1 a2 a3 a4 : tk_V} {P : Int → tk_M → Prop} (hd : decode f.2.1 pc = .ok (.invokevirtual idx, 3)) (hm : tk_mt g 4) (hl : tk_lv own idx g) (ho : f.1.cls = own) (hs : tk_sg S c = some (kd, N, rl)) (hkd : vwCl[kd]? = some (g.1.cls, TX_of kd, N) ∧ kd < 20) (hdep : g.2.2.2.2.1 < f.2.2.2.2.1 ∧ g.2.2.1 ≤ 21) (h0 : tk_nil g) (hcw : tk_cw st ≤ 8) (hcs : k ≤ f.2.2.2.2.2.1 ∧ n ≤ f.2.2.2.2.2.2) (hsp : Spl G g [xR c, a1, a2, a3, a4] S M P) (kk : ∀ (r : Int) (M' : tk_M), P r M' → Ok G f (pc + 3) ls (xL r :: st) S M' k n Q) : Ok G f pc ls (a4 :: a3 :: a2 :: a1 :: xR c :: st) S M k n Q := by
  refine tk_callV (args := [a1, a2, a3, a4]) (Q' := tk_ql S P) hd hm hl ho hs hkd hdep rfl hcw (by rw [h0.1, h0.2]; exact hcs) hsp (fun v S' M' h _ _ _ => ?_)
  obtain ⟨rfl, r, rfl, hP⟩ := h
  rw [h0.1, h0.2]
  exact kk r M' hP
theorem tr_cVl5 {g : tk_F} {own : String} {idx kd N : Nat} {c : Int} {rl : List Int} {a1 a2 a3 a4 a5 : tk_V} {P : Int → tk_M → Prop} (hd : decode f.2.1 pc = .ok (.invokevirtual idx, 3)) (hm : tk_mt g 5) (hl : tk_lv own idx g) (ho : f.1.cls = own) (hs : tk_sg S c = some (kd, N, rl)) (hkd : vwCl[kd]? = some (g.1.cls, TX_of kd, N) ∧ kd < 20) (hdep : g.2.2.2.2.1 < f.2.2.2.2.1 ∧ g.2.2.1 ≤ 21) (h0 : tk_nil g) (hcw : tk_cw st ≤ 8) (hcs : k ≤ f.2.2.2.2.2.1 ∧ n ≤ f.2.2.2.2.2.2) (hsp : Spl G g [xR c, a1, a2, a3, a4, a5] S M P) (kk : ∀ (r : Int) (M' : tk_M), P r M' → Ok G f (pc + 3) ls (xL r :: st) S M' k n Q) : Ok G f pc ls (a5 :: a4 :: a3 :: a2 :: a1 :: xR c :: st) S M k n Q := by
  refine tk_callV (args := [a1, a2, a3, a4, a5]) (Q' := tk_ql S P) hd hm hl ho hs hkd hdep rfl hcw (by rw [h0.1, h0.2]; exact hcs) hsp (fun v S' M' h _ _ _ => ?_)
  obtain ⟨rfl, r, rfl, hP⟩ := h
  rw [h0.1, h0.2]
  exact kk r M' hP
theorem tr_cVl6 {g : tk_F} {own : String} {idx kd N : Nat} {c : Int} {rl : List Int} {a1 a2 a3 a4 a5 a6 : tk_V} {P : Int → tk_M → Prop} (hd : decode f.2.1 pc = .ok (.invokevirtual idx, 3)) (hm : tk_mt g 6) (hl : tk_lv own idx g) (ho : f.1.cls = own) (hs : tk_sg S c = some (kd, N, rl)) (hkd : vwCl[kd]? = some (g.1.cls, TX_of kd, N) ∧ kd < 20) (hdep : g.2.2.2.2.1 < f.2.2.2.2.1 ∧ g.2.2.1 ≤ 21) (h0 : tk_nil g) (hcw : tk_cw st ≤ 8) (hcs : k ≤ f.2.2.2.2.2.1 ∧ n ≤ f.2.2.2.2.2.2) (hsp : Spl G g [xR c, a1, a2, a3, a4, a5, a6] S M P) (kk : ∀ (r : Int) (M' : tk_M), P r M' → Ok G f (pc + 3) ls (xL r :: st) S M' k n Q) : Ok G f pc ls (a6 :: a5 :: a4 :: a3 :: a2 :: a1 :: xR c :: st) S M k n Q := by
  refine tk_callV (args := [a1, a2, a3, a4, a5, a6]) (Q' := tk_ql S P) hd hm hl ho hs hkd hdep rfl hcw (by rw [h0.1, h0.2]; exact hcs) hsp (fun v S' M' h _ _ _ => ?_)
  obtain ⟨rfl, r, rfl, hP⟩ := h
  rw [h0.1, h0.2]
  exact kk r M' hP
theorem tr_cVr0 {g : tk_F} {own : String} {idx kd N : Nat} {c : Int} {rl : List Int} {P : Int → tk_M → Prop} (hd : decode f.2.1 pc = .ok (.invokevirtual idx, 3)) (hm : tk_mt g 0) (hl : tk_lv own idx g) (ho : f.1.cls = own) (hs : tk_sg S c = some (kd, N, rl)) (hkd : vwCl[kd]? = some (g.1.cls, TX_of kd, N) ∧ kd < 20) (hdep : g.2.2.2.2.1 < f.2.2.2.2.1 ∧ g.2.2.1 ≤ 21) (h0 : tk_nil g) (hcw : tk_cw st ≤ 8) (hcs : k ≤ f.2.2.2.2.2.1 ∧ n ≤ f.2.2.2.2.2.2) (hsp : Spr G g [xR c] S M P) (kk : ∀ (r : Int) (M' : tk_M), P r M' → Ok G f (pc + 3) ls (xR r :: st) S M' k n Q) : Ok G f pc ls (xR c :: st) S M k n Q := by
  refine tk_callV (args := []) (Q' := tk_qr S P) hd hm hl ho hs hkd hdep rfl hcw (by rw [h0.1, h0.2]; exact hcs) hsp (fun v S' M' h _ _ _ => ?_)
  obtain ⟨rfl, r, rfl, hP⟩ := h
  rw [h0.1, h0.2]
  exact kk r M' hP
theorem tr_cVr1 {g : tk_F} {own : String} {idx kd N : Nat} {c : Int} {rl : List Int} {a1 : tk_V} {P : Int → tk_M → Prop} (hd : decode f.2.1 pc = .ok (.invokevirtual idx, 3)) (hm : tk_mt g 1) (hl : tk_lv own idx g) (ho : f.1.cls = own) (hs : tk_sg S c = some (kd, N, rl)) (hkd : vwCl[kd]? = some (g.1.cls, TX_of kd, N) ∧ kd < 20) (hdep : g.2.2.2.2.1 < f.2.2.2.2.1 ∧ g.2.2.1 ≤ 21) (h0 : tk_nil g) (hcw : tk_cw st ≤ 8) (hcs : k ≤ f.2.2.2.2.2.1 ∧ n ≤ f.2.2.2.2.2.2) (hsp : Spr G g [xR c, a1] S M P) (kk : ∀ (r : Int) (M' : tk_M), P r M' → Ok G f (pc + 3) ls (xR r :: st) S M' k n Q) : Ok G f pc ls (a1 :: xR c :: st) S M k n Q := by
  refine tk_callV (args := [a1]) (Q' := tk_qr S P) hd hm hl ho hs hkd hdep rfl hcw (by rw [h0.1, h0.2]; exact hcs) hsp (fun v S' M' h _ _ _ => ?_)
  obtain ⟨rfl, r, rfl, hP⟩ := h
  rw [h0.1, h0.2]
  exact kk r M' hP
theorem tr_cVr2 {g : tk_F} {own : String} {idx kd N : Nat} {c : Int} {rl : List Int} {a1 a2 : tk_V} {P : Int → tk_M → Prop} (hd : decode f.2.1 pc = .ok (.invokevirtual idx, 3)) (hm : tk_mt g 2) (hl : tk_lv own idx g) (ho : f.1.cls = own) (hs : tk_sg S c = some (kd, N, rl)) (hkd : vwCl[kd]? = some (g.1.cls, TX_of kd, N) ∧ kd < 20) (hdep : g.2.2.2.2.1 < f.2.2.2.2.1 ∧ g.2.2.1 ≤ 21) (h0 : tk_nil g) (hcw : tk_cw st ≤ 8) (hcs : k ≤ f.2.2.2.2.2.1 ∧ n ≤ f.2.2.2.2.2.2) (hsp : Spr G g [xR c, a1, a2] S M P) (kk : ∀ (r : Int) (M' : tk_M), P r M' → Ok G f (pc + 3) ls (xR r :: st) S M' k n Q) : Ok G f pc ls (a2 :: a1 :: xR c :: st) S M k n Q := by
  refine tk_callV (args := [a1, a2]) (Q' := tk_qr S P) hd hm hl ho hs hkd hdep rfl hcw (by rw [h0.1, h0.2]; exact hcs) hsp (fun v S' M' h _ _ _ => ?_)
  obtain ⟨rfl, r, rfl, hP⟩ := h
  rw [h0.1, h0.2]
  exact kk r M' hP
theorem tr_cVr3 {g : tk_F} {own : String} {idx kd N : Nat} {c : Int} {rl : List Int} {a1 a2 a3 : tk_V} {P : Int → tk_M → Prop} (hd : decode f.2.1 pc = .ok (.invokevirtual idx, 3)) (hm : tk_mt g 3) (hl : tk_lv own idx g) (ho : f.1.cls = own) (hs : tk_sg S c = some (kd, N, rl)) (hkd : vwCl[kd]? = some (g.1.cls, TX_of kd, N) ∧ kd < 20) (hdep : g.2.2.2.2.1 < f.2.2.2.2.1 ∧ g.2.2.1 ≤ 21) (h0 : tk_nil g) (hcw : tk_cw st ≤ 8) (hcs : k ≤ f.2.2.2.2.2.1 ∧ n ≤ f.2.2.2.2.2.2) (hsp : Spr G g [xR c, a1, a2, a3] S M P) (kk : ∀ (r : Int) (M' : tk_M), P r M' → Ok G f (pc + 3) ls (xR r :: st) S M' k n Q) : Ok G f pc ls (a3 :: a2 :: a1 :: xR c :: st) S M k n Q := by
  refine tk_callV (args := [a1, a2, a3]) (Q' := tk_qr S P) hd hm hl ho hs hkd hdep rfl hcw (by rw [h0.1, h0.2]; exact hcs) hsp (fun v S' M' h _ _ _ => ?_)
  obtain ⟨rfl, r, rfl, hP⟩ := h
  rw [h0.1, h0.2]
  exact kk r M' hP
theorem tr_cVr4 {g : tk_F} {own : String} {idx kd N : Nat} {c : Int} {rl : List Int} {a1 a2 a3 a4 : tk_V} {P : Int → tk_M → Prop} (hd : decode f.2.1 pc = .ok (.invokevirtual idx, 3)) (hm : tk_mt g 4) (hl : tk_lv own idx g) (ho : f.1.cls = own) (hs : tk_sg S c = some (kd, N, rl)) (hkd : vwCl[kd]? = some (g.1.cls, TX_of kd, N) ∧ kd < 20) (hdep : g.2.2.2.2.1 < f.2.2.2.2.1 ∧ g.2.2.1 ≤ 21) (h0 : tk_nil g) (hcw : tk_cw st ≤ 8) (hcs : k ≤ f.2.2.2.2.2.1 ∧ n ≤ f.2.2.2.2.2.2) (hsp : Spr G g [xR c, a1, a2, a3, a4] S M P) (kk : ∀ (r : Int) (M' : tk_M), P r M' → Ok G f (pc + 3) ls (xR r :: st) S M' k n Q) : Ok G f pc ls (a4 :: a3 :: a2 :: a1 :: xR c :: st) S M k n Q := by
  refine tk_callV (args := [a1, a2, a3, a4]) (Q' := tk_qr S P) hd hm hl ho hs hkd hdep rfl hcw (by rw [h0.1, h0.2]; exact hcs) hsp (fun v S' M' h _ _ _ => ?_)
  obtain ⟨rfl, r, rfl, hP⟩ := h
  rw [h0.1, h0.2]
  exact kk r M' hP
theorem tr_cVr5 {g : tk_F} {own : String} {idx kd N : Nat} {c : Int} {rl : List Int} {a1 a2 a3 a4 a5 : tk_V} {P : Int → tk_M → Prop} (hd : decode f.2.1 pc = .ok (.invokevirtual idx, 3)) (hm : tk_mt g 5) (hl : tk_lv own idx g) (ho : f.1.cls = own) (hs : tk_sg S c = some (kd, N, rl)) (hkd : vwCl[kd]? = some (g.1.cls, TX_of kd, N) ∧ kd < 20) (hdep : g.2.2.2.2.1 < f.2.2.2.2.1 ∧ g.2.2.1 ≤ 21) (h0 : tk_nil g) (hcw : tk_cw st ≤ 8) (hcs : k ≤ f.2.2.2.2.2.1 ∧ n ≤ f.2.2.2.2.2.2) (hsp : Spr G g [xR c, a1, a2, a3, a4, a5] S M P) (kk : ∀ (r : Int) (M' : tk_M), P r M' → Ok G f (pc + 3) ls (xR r :: st) S M' k n Q) : Ok G f pc ls (a5 :: a4 :: a3 :: a2 :: a1 :: xR c :: st) S M k n Q := by
  refine tk_callV (args := [a1, a2, a3, a4, a5]) (Q' := tk_qr S P) hd hm hl ho hs hkd hdep rfl hcw (by rw [h0.1, h0.2]; exact hcs) hsp (fun v S' M' h _ _ _ => ?_)
  obtain ⟨rfl, r, rfl, hP⟩ := h
  rw [h0.1, h0.2]
  exact kk r M' hP
theorem tr_cVr6 {g : tk_F} {own : String} {idx kd N : Nat} {c : Int} {rl : List Int} {a1 a2 a3 a4 a5 a6 : tk_V} {P : Int → tk_M → Prop} (hd : decode f.2.1 pc = .ok (.invokevirtual idx, 3)) (hm : tk_mt g 6) (hl : tk_lv own idx g) (ho : f.1.cls = own) (hs : tk_sg S c = some (kd, N, rl)) (hkd : vwCl[kd]? = some (g.1.cls, TX_of kd, N) ∧ kd < 20) (hdep : g.2.2.2.2.1 < f.2.2.2.2.1 ∧ g.2.2.1 ≤ 21) (h0 : tk_nil g) (hcw : tk_cw st ≤ 8) (hcs : k ≤ f.2.2.2.2.2.1 ∧ n ≤ f.2.2.2.2.2.2) (hsp : Spr G g [xR c, a1, a2, a3, a4, a5, a6] S M P) (kk : ∀ (r : Int) (M' : tk_M), P r M' → Ok G f (pc + 3) ls (xR r :: st) S M' k n Q) : Ok G f pc ls (a6 :: a5 :: a4 :: a3 :: a2 :: a1 :: xR c :: st) S M k n Q := by
  refine tk_callV (args := [a1, a2, a3, a4, a5, a6]) (Q' := tk_qr S P) hd hm hl ho hs hkd hdep rfl hcw (by rw [h0.1, h0.2]; exact hcs) hsp (fun v S' M' h _ _ _ => ?_)
  obtain ⟨rfl, r, rfl, hP⟩ := h
  rw [h0.1, h0.2]
  exact kk r M' hP
theorem tr_cVv0 {g : tk_F} {own : String} {idx kd N : Nat} {c : Int} {rl : List Int} {P : tk_M → Prop} (hd : decode f.2.1 pc = .ok (.invokevirtual idx, 3)) (hm : tk_mt g 0) (hl : tk_lv own idx g) (ho : f.1.cls = own) (hs : tk_sg S c = some (kd, N, rl)) (hkd : vwCl[kd]? = some (g.1.cls, TX_of kd, N) ∧ kd < 20) (hdep : g.2.2.2.2.1 < f.2.2.2.2.1 ∧ g.2.2.1 ≤ 21) (h0 : tk_nil g) (hcw : tk_cw st ≤ 8) (hcs : k ≤ f.2.2.2.2.2.1 ∧ n ≤ f.2.2.2.2.2.2) (hsp : Spv G g [xR c] S M P) (kk : ∀ (M' : tk_M), P M' → Ok G f (pc + 3) ls st S M' k n Q) : Ok G f pc ls (xR c :: st) S M k n Q := by
  refine tk_callV (args := []) (Q' := tk_qv S P) hd hm hl ho hs hkd hdep rfl hcw (by rw [h0.1, h0.2]; exact hcs) hsp (fun v S' M' h _ _ _ => ?_)
  obtain ⟨rfl, rfl, hP⟩ := h
  rw [h0.1, h0.2]
  exact kk M' hP
theorem tr_cVv1 {g : tk_F} {own : String} {idx kd N : Nat} {c : Int} {rl : List Int} {a1 : tk_V} {P : tk_M → Prop} (hd : decode f.2.1 pc = .ok (.invokevirtual idx, 3)) (hm : tk_mt g 1) (hl : tk_lv own idx g) (ho : f.1.cls = own) (hs : tk_sg S c = some (kd, N, rl)) (hkd : vwCl[kd]? = some (g.1.cls, TX_of kd, N) ∧ kd < 20) (hdep : g.2.2.2.2.1 < f.2.2.2.2.1 ∧ g.2.2.1 ≤ 21) (h0 : tk_nil g) (hcw : tk_cw st ≤ 8) (hcs : k ≤ f.2.2.2.2.2.1 ∧ n ≤ f.2.2.2.2.2.2) (hsp : Spv G g [xR c, a1] S M P) (kk : ∀ (M' : tk_M), P M' → Ok G f (pc + 3) ls st S M' k n Q) : Ok G f pc ls (a1 :: xR c :: st) S M k n Q := by
  refine tk_callV (args := [a1]) (Q' := tk_qv S P) hd hm hl ho hs hkd hdep rfl hcw (by rw [h0.1, h0.2]; exact hcs) hsp (fun v S' M' h _ _ _ => ?_)
  obtain ⟨rfl, rfl, hP⟩ := h
  rw [h0.1, h0.2]
  exact kk M' hP
theorem tr_cVv2 {g : tk_F} {own : String} {idx kd N : Nat} {c : Int} {rl : List Int} {a1 a2 : tk_V} {P : tk_M → Prop} (hd : decode f.2.1 pc = .ok (.invokevirtual idx, 3)) (hm : tk_mt g 2) (hl : tk_lv own idx g) (ho : f.1.cls = own) (hs : tk_sg S c = some (kd, N, rl)) (hkd : vwCl[kd]? = some (g.1.cls, TX_of kd, N) ∧ kd < 20) (hdep : g.2.2.2.2.1 < f.2.2.2.2.1 ∧ g.2.2.1 ≤ 21) (h0 : tk_nil g) (hcw : tk_cw st ≤ 8) (hcs : k ≤ f.2.2.2.2.2.1 ∧ n ≤ f.2.2.2.2.2.2) (hsp : Spv G g [xR c, a1, a2] S M P) (kk : ∀ (M' : tk_M), P M' → Ok G f (pc + 3) ls st S M' k n Q) : Ok G f pc ls (a2 :: a1 :: xR c :: st) S M k n Q := by
  refine tk_callV (args := [a1, a2]) (Q' := tk_qv S P) hd hm hl ho hs hkd hdep rfl hcw (by rw [h0.1, h0.2]; exact hcs) hsp (fun v S' M' h _ _ _ => ?_)
  obtain ⟨rfl, rfl, hP⟩ := h
  rw [h0.1, h0.2]
  exact kk M' hP
theorem tr_cVv3 {g : tk_F} {own : String} {idx kd N : Nat} {c : Int} {rl : List Int} {a1 a2 a3 : tk_V} {P : tk_M → Prop} (hd : decode f.2.1 pc = .ok (.invokevirtual idx, 3)) (hm : tk_mt g 3) (hl : tk_lv own idx g) (ho : f.1.cls = own) (hs : tk_sg S c = some (kd, N, rl)) (hkd : vwCl[kd]? = some (g.1.cls, TX_of kd, N) ∧ kd < 20) (hdep : g.2.2.2.2.1 < f.2.2.2.2.1 ∧ g.2.2.1 ≤ 21) (h0 : tk_nil g) (hcw : tk_cw st ≤ 8) (hcs : k ≤ f.2.2.2.2.2.1 ∧ n ≤ f.2.2.2.2.2.2) (hsp : Spv G g [xR c, a1, a2, a3] S M P) (kk : ∀ (M' : tk_M), P M' → Ok G f (pc + 3) ls st S M' k n Q) : Ok G f pc ls (a3 :: a2 :: a1 :: xR c :: st) S M k n Q := by
  refine tk_callV (args := [a1, a2, a3]) (Q' := tk_qv S P) hd hm hl ho hs hkd hdep rfl hcw (by rw [h0.1, h0.2]; exact hcs) hsp (fun v S' M' h _ _ _ => ?_)
  obtain ⟨rfl, rfl, hP⟩ := h
  rw [h0.1, h0.2]
  exact kk M' hP
theorem tr_cVv4 {g : tk_F} {own : String} {idx kd N : Nat} {c : Int} {rl : List Int} {a1 a2 a3 a4 : tk_V} {P : tk_M → Prop} (hd : decode f.2.1 pc = .ok (.invokevirtual idx, 3)) (hm : tk_mt g 4) (hl : tk_lv own idx g) (ho : f.1.cls = own) (hs : tk_sg S c = some (kd, N, rl)) (hkd : vwCl[kd]? = some (g.1.cls, TX_of kd, N) ∧ kd < 20) (hdep : g.2.2.2.2.1 < f.2.2.2.2.1 ∧ g.2.2.1 ≤ 21) (h0 : tk_nil g) (hcw : tk_cw st ≤ 8) (hcs : k ≤ f.2.2.2.2.2.1 ∧ n ≤ f.2.2.2.2.2.2) (hsp : Spv G g [xR c, a1, a2, a3, a4] S M P) (kk : ∀ (M' : tk_M), P M' → Ok G f (pc + 3) ls st S M' k n Q) : Ok G f pc ls (a4 :: a3 :: a2 :: a1 :: xR c :: st) S M k n Q := by
  refine tk_callV (args := [a1, a2, a3, a4]) (Q' := tk_qv S P) hd hm hl ho hs hkd hdep rfl hcw (by rw [h0.1, h0.2]; exact hcs) hsp (fun v S' M' h _ _ _ => ?_)
  obtain ⟨rfl, rfl, hP⟩ := h
  rw [h0.1, h0.2]
  exact kk M' hP
theorem tr_cVv5 {g : tk_F} {own : String} {idx kd N : Nat} {c : Int} {rl : List Int} {a1 a2 a3 a4 a5 : tk_V} {P : tk_M → Prop} (hd : decode f.2.1 pc = .ok (.invokevirtual idx, 3)) (hm : tk_mt g 5) (hl : tk_lv own idx g) (ho : f.1.cls = own) (hs : tk_sg S c = some (kd, N, rl)) (hkd : vwCl[kd]? = some (g.1.cls, TX_of kd, N) ∧ kd < 20) (hdep : g.2.2.2.2.1 < f.2.2.2.2.1 ∧ g.2.2.1 ≤ 21) (h0 : tk_nil g) (hcw : tk_cw st ≤ 8) (hcs : k ≤ f.2.2.2.2.2.1 ∧ n ≤ f.2.2.2.2.2.2) (hsp : Spv G g [xR c, a1, a2, a3, a4, a5] S M P) (kk : ∀ (M' : tk_M), P M' → Ok G f (pc + 3) ls st S M' k n Q) : Ok G f pc ls (a5 :: a4 :: a3 :: a2 :: a1 :: xR c :: st) S M k n Q := by
  refine tk_callV (args := [a1, a2, a3, a4, a5]) (Q' := tk_qv S P) hd hm hl ho hs hkd hdep rfl hcw (by rw [h0.1, h0.2]; exact hcs) hsp (fun v S' M' h _ _ _ => ?_)
  obtain ⟨rfl, rfl, hP⟩ := h
  rw [h0.1, h0.2]
  exact kk M' hP
theorem tr_cVv6 {g : tk_F} {own : String} {idx kd N : Nat} {c : Int} {rl : List Int} {a1 a2 a3 a4 a5 a6 : tk_V} {P : tk_M → Prop} (hd : decode f.2.1 pc = .ok (.invokevirtual idx, 3)) (hm : tk_mt g 6) (hl : tk_lv own idx g) (ho : f.1.cls = own) (hs : tk_sg S c = some (kd, N, rl)) (hkd : vwCl[kd]? = some (g.1.cls, TX_of kd, N) ∧ kd < 20) (hdep : g.2.2.2.2.1 < f.2.2.2.2.1 ∧ g.2.2.1 ≤ 21) (h0 : tk_nil g) (hcw : tk_cw st ≤ 8) (hcs : k ≤ f.2.2.2.2.2.1 ∧ n ≤ f.2.2.2.2.2.2) (hsp : Spv G g [xR c, a1, a2, a3, a4, a5, a6] S M P) (kk : ∀ (M' : tk_M), P M' → Ok G f (pc + 3) ls st S M' k n Q) : Ok G f pc ls (a6 :: a5 :: a4 :: a3 :: a2 :: a1 :: xR c :: st) S M k n Q := by
  refine tk_callV (args := [a1, a2, a3, a4, a5, a6]) (Q' := tk_qv S P) hd hm hl ho hs hkd hdep rfl hcw (by rw [h0.1, h0.2]; exact hcs) hsp (fun v S' M' h _ _ _ => ?_)
  obtain ⟨rfl, rfl, hP⟩ := h
  rw [h0.1, h0.2]
  exact kk M' hP
theorem tr_cSi0 {g : tk_F} {own : String} {idx : Nat} {P : Int → tk_M → Prop} (hd : decode f.2.1 pc = .ok (.invokestatic idx, 3)) (hm : tk_mt g 0) (hl : tk_ls own idx g) (ho : f.1.cls = own) (hdep : g.2.2.2.2.1 < f.2.2.2.2.1 ∧ g.2.2.1 ≤ 21) (h0 : tk_nil g) (hcw : tk_cw st ≤ 8) (hcs : k ≤ f.2.2.2.2.2.1 ∧ n ≤ f.2.2.2.2.2.2) (hsp : Spi G g [] S M P) (kk : ∀ (r : Int) (M' : tk_M), P r M' → Ok G f (pc + 3) ls (xI r :: st) S M' k n Q) : Ok G f pc ls (st) S M k n Q := by
  refine tk_callS (args := []) (Q' := tk_qi S P) hd hm hl ho hdep rfl hcw (by rw [h0.1, h0.2]; exact hcs) hsp (fun v S' M' h _ _ _ => ?_)
  obtain ⟨rfl, r, rfl, hP⟩ := h
  rw [h0.1, h0.2]
  exact kk r M' hP
theorem tr_cSi1 {g : tk_F} {own : String} {idx : Nat} {a1 : tk_V} {P : Int → tk_M → Prop} (hd : decode f.2.1 pc = .ok (.invokestatic idx, 3)) (hm : tk_mt g 1) (hl : tk_ls own idx g) (ho : f.1.cls = own) (hdep : g.2.2.2.2.1 < f.2.2.2.2.1 ∧ g.2.2.1 ≤ 21) (h0 : tk_nil g) (hcw : tk_cw st ≤ 8) (hcs : k ≤ f.2.2.2.2.2.1 ∧ n ≤ f.2.2.2.2.2.2) (hsp : Spi G g [a1] S M P) (kk : ∀ (r : Int) (M' : tk_M), P r M' → Ok G f (pc + 3) ls (xI r :: st) S M' k n Q) : Ok G f pc ls (a1 :: st) S M k n Q := by
  refine tk_callS (args := [a1]) (Q' := tk_qi S P) hd hm hl ho hdep rfl hcw (by rw [h0.1, h0.2]; exact hcs) hsp (fun v S' M' h _ _ _ => ?_)
  obtain ⟨rfl, r, rfl, hP⟩ := h
  rw [h0.1, h0.2]
  exact kk r M' hP
theorem tr_cSi2 {g : tk_F} {own : String} {idx : Nat} {a1 a2 : tk_V} {P : Int → tk_M → Prop} (hd : decode f.2.1 pc = .ok (.invokestatic idx, 3)) (hm : tk_mt g 2) (hl : tk_ls own idx g) (ho : f.1.cls = own) (hdep : g.2.2.2.2.1 < f.2.2.2.2.1 ∧ g.2.2.1 ≤ 21) (h0 : tk_nil g) (hcw : tk_cw st ≤ 8) (hcs : k ≤ f.2.2.2.2.2.1 ∧ n ≤ f.2.2.2.2.2.2) (hsp : Spi G g [a1, a2] S M P) (kk : ∀ (r : Int) (M' : tk_M), P r M' → Ok G f (pc + 3) ls (xI r :: st) S M' k n Q) : Ok G f pc ls (a2 :: a1 :: st) S M k n Q := by
  refine tk_callS (args := [a1, a2]) (Q' := tk_qi S P) hd hm hl ho hdep rfl hcw (by rw [h0.1, h0.2]; exact hcs) hsp (fun v S' M' h _ _ _ => ?_)
  obtain ⟨rfl, r, rfl, hP⟩ := h
  rw [h0.1, h0.2]
  exact kk r M' hP
theorem tr_cSi3 {g : tk_F} {own : String} {idx : Nat} {a1 a2 a3 : tk_V} {P : Int → tk_M → Prop} (hd : decode f.2.1 pc = .ok (.invokestatic idx, 3)) (hm : tk_mt g 3) (hl : tk_ls own idx g) (ho : f.1.cls = own) (hdep : g.2.2.2.2.1 < f.2.2.2.2.1 ∧ g.2.2.1 ≤ 21) (h0 : tk_nil g) (hcw : tk_cw st ≤ 8) (hcs : k ≤ f.2.2.2.2.2.1 ∧ n ≤ f.2.2.2.2.2.2) (hsp : Spi G g [a1, a2, a3] S M P) (kk : ∀ (r : Int) (M' : tk_M), P r M' → Ok G f (pc + 3) ls (xI r :: st) S M' k n Q) : Ok G f pc ls (a3 :: a2 :: a1 :: st) S M k n Q := by
  refine tk_callS (args := [a1, a2, a3]) (Q' := tk_qi S P) hd hm hl ho hdep rfl hcw (by rw [h0.1, h0.2]; exact hcs) hsp (fun v S' M' h _ _ _ => ?_)
  obtain ⟨rfl, r, rfl, hP⟩ := h
  rw [h0.1, h0.2]
  exact kk r M' hP
theorem tr_cSi4 {g : tk_F} {own : String} {idx : Nat} {a1 a2 a3 a4 : tk_V} {P : Int → tk_M → Prop} (hd : decode f.2.1 pc = .ok (.invokestatic idx, 3)) (hm : tk_mt g 4) (hl : tk_ls own idx g) (ho : f.1.cls = own) (hdep : g.2.2.2.2.1 < f.2.2.2.2.1 ∧ g.2.2.1 ≤ 21) (h0 : tk_nil g) (hcw : tk_cw st ≤ 8) (hcs : k ≤ f.2.2.2.2.2.1 ∧ n ≤ f.2.2.2.2.2.2) (hsp : Spi G g [a1, a2, a3, a4] S M P) (kk : ∀ (r : Int) (M' : tk_M), P r M' → Ok G f (pc + 3) ls (xI r :: st) S M' k n Q) : Ok G f pc ls (a4 :: a3 :: a2 :: a1 :: st) S M k n Q := by
  refine tk_callS (args := [a1, a2, a3, a4]) (Q' := tk_qi S P) hd hm hl ho hdep rfl hcw (by rw [h0.1, h0.2]; exact hcs) hsp (fun v S' M' h _ _ _ => ?_)
  obtain ⟨rfl, r, rfl, hP⟩ := h
  rw [h0.1, h0.2]
  exact kk r M' hP
theorem tr_cSi5 {g : tk_F} {own : String} {idx : Nat} {a1 a2 a3 a4 a5 : tk_V} {P : Int → tk_M → Prop} (hd : decode f.2.1 pc = .ok (.invokestatic idx, 3)) (hm : tk_mt g 5) (hl : tk_ls own idx g) (ho : f.1.cls = own) (hdep : g.2.2.2.2.1 < f.2.2.2.2.1 ∧ g.2.2.1 ≤ 21) (h0 : tk_nil g) (hcw : tk_cw st ≤ 8) (hcs : k ≤ f.2.2.2.2.2.1 ∧ n ≤ f.2.2.2.2.2.2) (hsp : Spi G g [a1, a2, a3, a4, a5] S M P) (kk : ∀ (r : Int) (M' : tk_M), P r M' → Ok G f (pc + 3) ls (xI r :: st) S M' k n Q) : Ok G f pc ls (a5 :: a4 :: a3 :: a2 :: a1 :: st) S M k n Q := by
  refine tk_callS (args := [a1, a2, a3, a4, a5]) (Q' := tk_qi S P) hd hm hl ho hdep rfl hcw (by rw [h0.1, h0.2]; exact hcs) hsp (fun v S' M' h _ _ _ => ?_)
  obtain ⟨rfl, r, rfl, hP⟩ := h
  rw [h0.1, h0.2]
  exact kk r M' hP
theorem tr_cSi6 {g : tk_F} {own : String} {idx : Nat} {a1 a2 a3 a4 a5 a6 : tk_V} {P : Int → tk_M → Prop} (hd : decode f.2.1 pc = .ok (.invokestatic idx, 3)) (hm : tk_mt g 6) (hl : tk_ls own idx g) (ho : f.1.cls = own) (hdep : g.2.2.2.2.1 < f.2.2.2.2.1 ∧ g.2.2.1 ≤ 21) (h0 : tk_nil g) (hcw : tk_cw st ≤ 8) (hcs : k ≤ f.2.2.2.2.2.1 ∧ n ≤ f.2.2.2.2.2.2) (hsp : Spi G g [a1, a2, a3, a4, a5, a6] S M P) (kk : ∀ (r : Int) (M' : tk_M), P r M' → Ok G f (pc + 3) ls (xI r :: st) S M' k n Q) : Ok G f pc ls (a6 :: a5 :: a4 :: a3 :: a2 :: a1 :: st) S M k n Q := by
  refine tk_callS (args := [a1, a2, a3, a4, a5, a6]) (Q' := tk_qi S P) hd hm hl ho hdep rfl hcw (by rw [h0.1, h0.2]; exact hcs) hsp (fun v S' M' h _ _ _ => ?_)
  obtain ⟨rfl, r, rfl, hP⟩ := h
  rw [h0.1, h0.2]
  exact kk r M' hP
theorem tr_cSl0 {g : tk_F} {own : String} {idx : Nat} {P : Int → tk_M → Prop} (hd : decode f.2.1 pc = .ok (.invokestatic idx, 3)) (hm : tk_mt g 0) (hl : tk_ls own idx g) (ho : f.1.cls = own) (hdep : g.2.2.2.2.1 < f.2.2.2.2.1 ∧ g.2.2.1 ≤ 21) (h0 : tk_nil g) (hcw : tk_cw st ≤ 8) (hcs : k ≤ f.2.2.2.2.2.1 ∧ n ≤ f.2.2.2.2.2.2) (hsp : Spl G g [] S M P) (kk : ∀ (r : Int) (M' : tk_M), P r M' → Ok G f (pc + 3) ls (xL r :: st) S M' k n Q) : Ok G f pc ls (st) S M k n Q := by
  refine tk_callS (args := []) (Q' := tk_ql S P) hd hm hl ho hdep rfl hcw (by rw [h0.1, h0.2]; exact hcs) hsp (fun v S' M' h _ _ _ => ?_)
  obtain ⟨rfl, r, rfl, hP⟩ := h
  rw [h0.1, h0.2]
  exact kk r M' hP
theorem tr_cSl1 {g : tk_F} {own : String} {idx : Nat} {a1 : tk_V} {P : Int → tk_M → Prop} (hd : decode f.2.1 pc = .ok (.invokestatic idx, 3)) (hm : tk_mt g 1) (hl : tk_ls own idx g) (ho : f.1.cls = own) (hdep : g.2.2.2.2.1 < f.2.2.2.2.1 ∧ g.2.2.1 ≤ 21) (h0 : tk_nil g) (hcw : tk_cw st ≤ 8) (hcs : k ≤ f.2.2.2.2.2.1 ∧ n ≤ f.2.2.2.2.2.2) (hsp : Spl G g [a1] S M P) (kk : ∀ (r : Int) (M' : tk_M), P r M' → Ok G f (pc + 3) ls (xL r :: st) S M' k n Q) : Ok G f pc ls (a1 :: st) S M k n Q := by
  refine tk_callS (args := [a1]) (Q' := tk_ql S P) hd hm hl ho hdep rfl hcw (by rw [h0.1, h0.2]; exact hcs) hsp (fun v S' M' h _ _ _ => ?_)
  obtain ⟨rfl, r, rfl, hP⟩ := h
  rw [h0.1, h0.2]
  exact kk r M' hP
theorem tr_cSl2 {g : tk_F} {own : String} {idx : Nat} {a1 a2 : tk_V} {P : Int → tk_M → Prop} (hd : decode f.2.1 pc = .ok (.invokestatic idx, 3)) (hm : tk_mt g 2) (hl : tk_ls own idx g) (ho : f.1.cls = own) (hdep : g.2.2.2.2.1 < f.2.2.2.2.1 ∧ g.2.2.1 ≤ 21) (h0 : tk_nil g) (hcw : tk_cw st ≤ 8) (hcs : k ≤ f.2.2.2.2.2.1 ∧ n ≤ f.2.2.2.2.2.2) (hsp : Spl G g [a1, a2] S M P) (kk : ∀ (r : Int) (M' : tk_M), P r M' → Ok G f (pc + 3) ls (xL r :: st) S M' k n Q) : Ok G f pc ls (a2 :: a1 :: st) S M k n Q := by
  refine tk_callS (args := [a1, a2]) (Q' := tk_ql S P) hd hm hl ho hdep rfl hcw (by rw [h0.1, h0.2]; exact hcs) hsp (fun v S' M' h _ _ _ => ?_)
  obtain ⟨rfl, r, rfl, hP⟩ := h
  rw [h0.1, h0.2]
  exact kk r M' hP
theorem tr_cSl3 {g : tk_F} {own : String} {idx : Nat} {a1 a2 a3 : tk_V} {P : Int → tk_M → Prop} (hd : decode f.2.1 pc = .ok (.invokestatic idx, 3)) (hm : tk_mt g 3) (hl : tk_ls own idx g) (ho : f.1.cls = own) (hdep : g.2.2.2.2.1 < f.2.2.2.2.1 ∧ g.2.2.1 ≤ 21) (h0 : tk_nil g) (hcw : tk_cw st ≤ 8) (hcs : k ≤ f.2.2.2.2.2.1 ∧ n ≤ f.2.2.2.2.2.2) (hsp : Spl G g [a1, a2, a3] S M P) (kk : ∀ (r : Int) (M' : tk_M), P r M' → Ok G f (pc + 3) ls (xL r :: st) S M' k n Q) : Ok G f pc ls (a3 :: a2 :: a1 :: st) S M k n Q := by
  refine tk_callS (args := [a1, a2, a3]) (Q' := tk_ql S P) hd hm hl ho hdep rfl hcw (by rw [h0.1, h0.2]; exact hcs) hsp (fun v S' M' h _ _ _ => ?_)
  obtain ⟨rfl, r, rfl, hP⟩ := h
  rw [h0.1, h0.2]
  exact kk r M' hP
theorem tr_cSl4 {g : tk_F} {own : String} {idx : Nat} {a1 a2 a3 a4 : tk_V} {P : Int → tk_M → Prop} (hd : decode f.2.1 pc = .ok (.invokestatic idx, 3)) (hm : tk_mt g 4) (hl : tk_ls own idx g) (ho : f.1.cls = own) (hdep : g.2.2.2.2.1 < f.2.2.2.2.1 ∧ g.2.2.1 ≤ 21) (h0 : tk_nil g) (hcw : tk_cw st ≤ 8) (hcs : k ≤ f.2.2.2.2.2.1 ∧ n ≤ f.2.2.2.2.2.2) (hsp : Spl G g [a1, a2, a3, a4] S M P) (kk : ∀ (r : Int) (M' : tk_M), P r M' → Ok G f (pc + 3) ls (xL r :: st) S M' k n Q) : Ok G f pc ls (a4 :: a3 :: a2 :: a1 :: st) S M k n Q := by
  refine tk_callS (args := [a1, a2, a3, a4]) (Q' := tk_ql S P) hd hm hl ho hdep rfl hcw (by rw [h0.1, h0.2]; exact hcs) hsp (fun v S' M' h _ _ _ => ?_)
  obtain ⟨rfl, r, rfl, hP⟩ := h
  rw [h0.1, h0.2]
  exact kk r M' hP
theorem tr_cSl5 {g : tk_F} {own : String} {idx : Nat} {a1 a2 a3 a4 a5 : tk_V} {P : Int → tk_M → Prop} (hd : decode f.2.1 pc = .ok (.invokestatic idx, 3)) (hm : tk_mt g 5) (hl : tk_ls own idx g) (ho : f.1.cls = own) (hdep : g.2.2.2.2.1 < f.2.2.2.2.1 ∧ g.2.2.1 ≤ 21) (h0 : tk_nil g) (hcw : tk_cw st ≤ 8) (hcs : k ≤ f.2.2.2.2.2.1 ∧ n ≤ f.2.2.2.2.2.2) (hsp : Spl G g [a1, a2, a3, a4, a5] S M P) (kk : ∀ (r : Int) (M' : tk_M), P r M' → Ok G f (pc + 3) ls (xL r :: st) S M' k n Q) : Ok G f pc ls (a5 :: a4 :: a3 :: a2 :: a1 :: st) S M k n Q := by
  refine tk_callS (args := [a1, a2, a3, a4, a5]) (Q' := tk_ql S P) hd hm hl ho hdep rfl hcw (by rw [h0.1, h0.2]; exact hcs) hsp (fun v S' M' h _ _ _ => ?_)
  obtain ⟨rfl, r, rfl, hP⟩ := h
  rw [h0.1, h0.2]
  exact kk r M' hP
theorem tr_cSl6 {g : tk_F} {own : String} {idx : Nat} {a1 a2 a3 a4 a5 a6 : tk_V} {P : Int → tk_M → Prop} (hd : decode f.2.1 pc = .ok (.invokestatic idx, 3)) (hm : tk_mt g 6) (hl : tk_ls own idx g) (ho : f.1.cls = own) (hdep : g.2.2.2.2.1 < f.2.2.2.2.1 ∧ g.2.2.1 ≤ 21) (h0 : tk_nil g) (hcw : tk_cw st ≤ 8) (hcs : k ≤ f.2.2.2.2.2.1 ∧ n ≤ f.2.2.2.2.2.2) (hsp : Spl G g [a1, a2, a3, a4, a5, a6] S M P) (kk : ∀ (r : Int) (M' : tk_M), P r M' → Ok G f (pc + 3) ls (xL r :: st) S M' k n Q) : Ok G f pc ls (a6 :: a5 :: a4 :: a3 :: a2 :: a1 :: st) S M k n Q := by
  refine tk_callS (args := [a1, a2, a3, a4, a5, a6]) (Q' := tk_ql S P) hd hm hl ho hdep rfl hcw (by rw [h0.1, h0.2]; exact hcs) hsp (fun v S' M' h _ _ _ => ?_)
  obtain ⟨rfl, r, rfl, hP⟩ := h
  rw [h0.1, h0.2]
  exact kk r M' hP
theorem tr_cSr0 {g : tk_F} {own : String} {idx : Nat} {P : Int → tk_M → Prop} (hd : decode f.2.1 pc = .ok (.invokestatic idx, 3)) (hm : tk_mt g 0) (hl : tk_ls own idx g) (ho : f.1.cls = own) (hdep : g.2.2.2.2.1 < f.2.2.2.2.1 ∧ g.2.2.1 ≤ 21) (h0 : tk_nil g) (hcw : tk_cw st ≤ 8) (hcs : k ≤ f.2.2.2.2.2.1 ∧ n ≤ f.2.2.2.2.2.2) (hsp : Spr G g [] S M P) (kk : ∀ (r : Int) (M' : tk_M), P r M' → Ok G f (pc + 3) ls (xR r :: st) S M' k n Q) : Ok G f pc ls (st) S M k n Q := by
  refine tk_callS (args := []) (Q' := tk_qr S P) hd hm hl ho hdep rfl hcw (by rw [h0.1, h0.2]; exact hcs) hsp (fun v S' M' h _ _ _ => ?_)
  obtain ⟨rfl, r, rfl, hP⟩ := h
  rw [h0.1, h0.2]
  exact kk r M' hP
theorem tr_cSr1 {g : tk_F} {own : String} {idx : Nat} {a1 : tk_V} {P : Int → tk_M → Prop} (hd : decode f.2.1 pc = .ok (.invokestatic idx, 3)) (hm : tk_mt g 1) (hl : tk_ls own idx g) (ho : f.1.cls = own) (hdep : g.2.2.2.2.1 < f.2.2.2.2.1 ∧ g.2.2.1 ≤ 21) (h0 : tk_nil g) (hcw : tk_cw st ≤ 8) (hcs : k ≤ f.2.2.2.2.2.1 ∧ n ≤ f.2.2.2.2.2.2) (hsp : Spr G g [a1] S M P) (kk : ∀ (r : Int) (M' : tk_M), P r M' → Ok G f (pc + 3) ls (xR r :: st) S M' k n Q) : Ok G f pc ls (a1 :: st) S M k n Q := by
  refine tk_callS (args := [a1]) (Q' := tk_qr S P) hd hm hl ho hdep rfl hcw (by rw [h0.1, h0.2]; exact hcs) hsp (fun v S' M' h _ _ _ => ?_)
  obtain ⟨rfl, r, rfl, hP⟩ := h
  rw [h0.1, h0.2]
  exact kk r M' hP
theorem tr_cSr2 {g : tk_F} {own : String} {idx : Nat} {a1 a2 : tk_V} {P : Int → tk_M → Prop} (hd : decode f.2.1 pc = .ok (.invokestatic idx, 3)) (hm : tk_mt g 2) (hl : tk_ls own idx g) (ho : f.1.cls = own) (hdep : g.2.2.2.2.1 < f.2.2.2.2.1 ∧ g.2.2.1 ≤ 21) (h0 : tk_nil g) (hcw : tk_cw st ≤ 8) (hcs : k ≤ f.2.2.2.2.2.1 ∧ n ≤ f.2.2.2.2.2.2) (hsp : Spr G g [a1, a2] S M P) (kk : ∀ (r : Int) (M' : tk_M), P r M' → Ok G f (pc + 3) ls (xR r :: st) S M' k n Q) : Ok G f pc ls (a2 :: a1 :: st) S M k n Q := by
  refine tk_callS (args := [a1, a2]) (Q' := tk_qr S P) hd hm hl ho hdep rfl hcw (by rw [h0.1, h0.2]; exact hcs) hsp (fun v S' M' h _ _ _ => ?_)
  obtain ⟨rfl, r, rfl, hP⟩ := h
  rw [h0.1, h0.2]
  exact kk r M' hP
theorem tr_cSr3 {g : tk_F} {own : String} {idx : Nat} {a1 a2 a3 : tk_V} {P : Int → tk_M → Prop} (hd : decode f.2.1 pc = .ok (.invokestatic idx, 3)) (hm : tk_mt g 3) (hl : tk_ls own idx g) (ho : f.1.cls = own) (hdep : g.2.2.2.2.1 < f.2.2.2.2.1 ∧ g.2.2.1 ≤ 21) (h0 : tk_nil g) (hcw : tk_cw st ≤ 8) (hcs : k ≤ f.2.2.2.2.2.1 ∧ n ≤ f.2.2.2.2.2.2) (hsp : Spr G g [a1, a2, a3] S M P) (kk : ∀ (r : Int) (M' : tk_M), P r M' → Ok G f (pc + 3) ls (xR r :: st) S M' k n Q) : Ok G f pc ls (a3 :: a2 :: a1 :: st) S M k n Q := by
  refine tk_callS (args := [a1, a2, a3]) (Q' := tk_qr S P) hd hm hl ho hdep rfl hcw (by rw [h0.1, h0.2]; exact hcs) hsp (fun v S' M' h _ _ _ => ?_)
  obtain ⟨rfl, r, rfl, hP⟩ := h
  rw [h0.1, h0.2]
  exact kk r M' hP
theorem tr_cSr4 {g : tk_F} {own : String} {idx : Nat} {a1 a2 a3 a4 : tk_V} {P : Int → tk_M → Prop} (hd : decode f.2.1 pc = .ok (.invokestatic idx, 3)) (hm : tk_mt g 4) (hl : tk_ls own idx g) (ho : f.1.cls = own) (hdep : g.2.2.2.2.1 < f.2.2.2.2.1 ∧ g.2.2.1 ≤ 21) (h0 : tk_nil g) (hcw : tk_cw st ≤ 8) (hcs : k ≤ f.2.2.2.2.2.1 ∧ n ≤ f.2.2.2.2.2.2) (hsp : Spr G g [a1, a2, a3, a4] S M P) (kk : ∀ (r : Int) (M' : tk_M), P r M' → Ok G f (pc + 3) ls (xR r :: st) S M' k n Q) : Ok G f pc ls (a4 :: a3 :: a2 :: a1 :: st) S M k n Q := by
  refine tk_callS (args := [a1, a2, a3, a4]) (Q' := tk_qr S P) hd hm hl ho hdep rfl hcw (by rw [h0.1, h0.2]; exact hcs) hsp (fun v S' M' h _ _ _ => ?_)
  obtain ⟨rfl, r, rfl, hP⟩ := h
  rw [h0.1, h0.2]
  exact kk r M' hP
theorem tr_cSr5 {g : tk_F} {own : String} {idx : Nat} {a1 a2 a3 a4 a5 : tk_V} {P : Int → tk_M → Prop} (hd : decode f.2.1 pc = .ok (.invokestatic idx, 3)) (hm : tk_mt g 5) (hl : tk_ls own idx g) (ho : f.1.cls = own) (hdep : g.2.2.2.2.1 < f.2.2.2.2.1 ∧ g.2.2.1 ≤ 21) (h0 : tk_nil g) (hcw : tk_cw st ≤ 8) (hcs : k ≤ f.2.2.2.2.2.1 ∧ n ≤ f.2.2.2.2.2.2) (hsp : Spr G g [a1, a2, a3, a4, a5] S M P) (kk : ∀ (r : Int) (M' : tk_M), P r M' → Ok G f (pc + 3) ls (xR r :: st) S M' k n Q) : Ok G f pc ls (a5 :: a4 :: a3 :: a2 :: a1 :: st) S M k n Q := by
  refine tk_callS (args := [a1, a2, a3, a4, a5]) (Q' := tk_qr S P) hd hm hl ho hdep rfl hcw (by rw [h0.1, h0.2]; exact hcs) hsp (fun v S' M' h _ _ _ => ?_)
  obtain ⟨rfl, r, rfl, hP⟩ := h
  rw [h0.1, h0.2]
  exact kk r M' hP
theorem tr_cSr6 {g : tk_F} {own : String} {idx : Nat} {a1 a2 a3 a4 a5 a6 : tk_V} {P : Int → tk_M → Prop} (hd : decode f.2.1 pc = .ok (.invokestatic idx, 3)) (hm : tk_mt g 6) (hl : tk_ls own idx g) (ho : f.1.cls = own) (hdep : g.2.2.2.2.1 < f.2.2.2.2.1 ∧ g.2.2.1 ≤ 21) (h0 : tk_nil g) (hcw : tk_cw st ≤ 8) (hcs : k ≤ f.2.2.2.2.2.1 ∧ n ≤ f.2.2.2.2.2.2) (hsp : Spr G g [a1, a2, a3, a4, a5, a6] S M P) (kk : ∀ (r : Int) (M' : tk_M), P r M' → Ok G f (pc + 3) ls (xR r :: st) S M' k n Q) : Ok G f pc ls (a6 :: a5 :: a4 :: a3 :: a2 :: a1 :: st) S M k n Q := by
  refine tk_callS (args := [a1, a2, a3, a4, a5, a6]) (Q' := tk_qr S P) hd hm hl ho hdep rfl hcw (by rw [h0.1, h0.2]; exact hcs) hsp (fun v S' M' h _ _ _ => ?_)
  obtain ⟨rfl, r, rfl, hP⟩ := h
  rw [h0.1, h0.2]
  exact kk r M' hP
theorem tr_cSv0 {g : tk_F} {own : String} {idx : Nat} {P : tk_M → Prop} (hd : decode f.2.1 pc = .ok (.invokestatic idx, 3)) (hm : tk_mt g 0) (hl : tk_ls own idx g) (ho : f.1.cls = own) (hdep : g.2.2.2.2.1 < f.2.2.2.2.1 ∧ g.2.2.1 ≤ 21) (h0 : tk_nil g) (hcw : tk_cw st ≤ 8) (hcs : k ≤ f.2.2.2.2.2.1 ∧ n ≤ f.2.2.2.2.2.2) (hsp : Spv G g [] S M P) (kk : ∀ (M' : tk_M), P M' → Ok G f (pc + 3) ls st S M' k n Q) : Ok G f pc ls (st) S M k n Q := by
  refine tk_callS (args := []) (Q' := tk_qv S P) hd hm hl ho hdep rfl hcw (by rw [h0.1, h0.2]; exact hcs) hsp (fun v S' M' h _ _ _ => ?_)
  obtain ⟨rfl, rfl, hP⟩ := h
  rw [h0.1, h0.2]
  exact kk M' hP
theorem tr_cSv1 {g : tk_F} {own : String} {idx : Nat} {a1 : tk_V} {P : tk_M → Prop} (hd : decode f.2.1 pc = .ok (.invokestatic idx, 3)) (hm : tk_mt g 1) (hl : tk_ls own idx g) (ho : f.1.cls = own) (hdep : g.2.2.2.2.1 < f.2.2.2.2.1 ∧ g.2.2.1 ≤ 21) (h0 : tk_nil g) (hcw : tk_cw st ≤ 8) (hcs : k ≤ f.2.2.2.2.2.1 ∧ n ≤ f.2.2.2.2.2.2) (hsp : Spv G g [a1] S M P) (kk : ∀ (M' : tk_M), P M' → Ok G f (pc + 3) ls st S M' k n Q) : Ok G f pc ls (a1 :: st) S M k n Q := by
  refine tk_callS (args := [a1]) (Q' := tk_qv S P) hd hm hl ho hdep rfl hcw (by rw [h0.1, h0.2]; exact hcs) hsp (fun v S' M' h _ _ _ => ?_)
  obtain ⟨rfl, rfl, hP⟩ := h
  rw [h0.1, h0.2]
  exact kk M' hP
theorem tr_cSv2 {g : tk_F} {own : String} {idx : Nat} {a1 a2 : tk_V} {P : tk_M → Prop} (hd : decode f.2.1 pc = .ok (.invokestatic idx, 3)) (hm : tk_mt g 2) (hl : tk_ls own idx g) (ho : f.1.cls = own) (hdep : g.2.2.2.2.1 < f.2.2.2.2.1 ∧ g.2.2.1 ≤ 21) (h0 : tk_nil g) (hcw : tk_cw st ≤ 8) (hcs : k ≤ f.2.2.2.2.2.1 ∧ n ≤ f.2.2.2.2.2.2) (hsp : Spv G g [a1, a2] S M P) (kk : ∀ (M' : tk_M), P M' → Ok G f (pc + 3) ls st S M' k n Q) : Ok G f pc ls (a2 :: a1 :: st) S M k n Q := by
  refine tk_callS (args := [a1, a2]) (Q' := tk_qv S P) hd hm hl ho hdep rfl hcw (by rw [h0.1, h0.2]; exact hcs) hsp (fun v S' M' h _ _ _ => ?_)
  obtain ⟨rfl, rfl, hP⟩ := h
  rw [h0.1, h0.2]
  exact kk M' hP
theorem tr_cSv3 {g : tk_F} {own : String} {idx : Nat} {a1 a2 a3 : tk_V} {P : tk_M → Prop} (hd : decode f.2.1 pc = .ok (.invokestatic idx, 3)) (hm : tk_mt g 3) (hl : tk_ls own idx g) (ho : f.1.cls = own) (hdep : g.2.2.2.2.1 < f.2.2.2.2.1 ∧ g.2.2.1 ≤ 21) (h0 : tk_nil g) (hcw : tk_cw st ≤ 8) (hcs : k ≤ f.2.2.2.2.2.1 ∧ n ≤ f.2.2.2.2.2.2) (hsp : Spv G g [a1, a2, a3] S M P) (kk : ∀ (M' : tk_M), P M' → Ok G f (pc + 3) ls st S M' k n Q) : Ok G f pc ls (a3 :: a2 :: a1 :: st) S M k n Q := by
  refine tk_callS (args := [a1, a2, a3]) (Q' := tk_qv S P) hd hm hl ho hdep rfl hcw (by rw [h0.1, h0.2]; exact hcs) hsp (fun v S' M' h _ _ _ => ?_)
  obtain ⟨rfl, rfl, hP⟩ := h
  rw [h0.1, h0.2]
  exact kk M' hP
theorem tr_cSv4 {g : tk_F} {own : String} {idx : Nat} {a1 a2 a3 a4 : tk_V} {P : tk_M → Prop} (hd : decode f.2.1 pc = .ok (.invokestatic idx, 3)) (hm : tk_mt g 4) (hl : tk_ls own idx g) (ho : f.1.cls = own) (hdep : g.2.2.2.2.1 < f.2.2.2.2.1 ∧ g.2.2.1 ≤ 21) (h0 : tk_nil g) (hcw : tk_cw st ≤ 8) (hcs : k ≤ f.2.2.2.2.2.1 ∧ n ≤ f.2.2.2.2.2.2) (hsp : Spv G g [a1, a2, a3, a4] S M P) (kk : ∀ (M' : tk_M), P M' → Ok G f (pc + 3) ls st S M' k n Q) : Ok G f pc ls (a4 :: a3 :: a2 :: a1 :: st) S M k n Q := by
  refine tk_callS (args := [a1, a2, a3, a4]) (Q' := tk_qv S P) hd hm hl ho hdep rfl hcw (by rw [h0.1, h0.2]; exact hcs) hsp (fun v S' M' h _ _ _ => ?_)
  obtain ⟨rfl, rfl, hP⟩ := h
  rw [h0.1, h0.2]
  exact kk M' hP
theorem tr_cSv5 {g : tk_F} {own : String} {idx : Nat} {a1 a2 a3 a4 a5 : tk_V} {P : tk_M → Prop} (hd : decode f.2.1 pc = .ok (.invokestatic idx, 3)) (hm : tk_mt g 5) (hl : tk_ls own idx g) (ho : f.1.cls = own) (hdep : g.2.2.2.2.1 < f.2.2.2.2.1 ∧ g.2.2.1 ≤ 21) (h0 : tk_nil g) (hcw : tk_cw st ≤ 8) (hcs : k ≤ f.2.2.2.2.2.1 ∧ n ≤ f.2.2.2.2.2.2) (hsp : Spv G g [a1, a2, a3, a4, a5] S M P) (kk : ∀ (M' : tk_M), P M' → Ok G f (pc + 3) ls st S M' k n Q) : Ok G f pc ls (a5 :: a4 :: a3 :: a2 :: a1 :: st) S M k n Q := by
  refine tk_callS (args := [a1, a2, a3, a4, a5]) (Q' := tk_qv S P) hd hm hl ho hdep rfl hcw (by rw [h0.1, h0.2]; exact hcs) hsp (fun v S' M' h _ _ _ => ?_)
  obtain ⟨rfl, rfl, hP⟩ := h
  rw [h0.1, h0.2]
  exact kk M' hP
theorem tr_cSv6 {g : tk_F} {own : String} {idx : Nat} {a1 a2 a3 a4 a5 a6 : tk_V} {P : tk_M → Prop} (hd : decode f.2.1 pc = .ok (.invokestatic idx, 3)) (hm : tk_mt g 6) (hl : tk_ls own idx g) (ho : f.1.cls = own) (hdep : g.2.2.2.2.1 < f.2.2.2.2.1 ∧ g.2.2.1 ≤ 21) (h0 : tk_nil g) (hcw : tk_cw st ≤ 8) (hcs : k ≤ f.2.2.2.2.2.1 ∧ n ≤ f.2.2.2.2.2.2) (hsp : Spv G g [a1, a2, a3, a4, a5, a6] S M P) (kk : ∀ (M' : tk_M), P M' → Ok G f (pc + 3) ls st S M' k n Q) : Ok G f pc ls (a6 :: a5 :: a4 :: a3 :: a2 :: a1 :: st) S M k n Q := by
  refine tk_callS (args := [a1, a2, a3, a4, a5, a6]) (Q' := tk_qv S P) hd hm hl ho hdep rfl hcw (by rw [h0.1, h0.2]; exact hcs) hsp (fun v S' M' h _ _ _ => ?_)
  obtain ⟨rfl, rfl, hP⟩ := h
  rw [h0.1, h0.2]
  exact kk M' hP
end TkRows4
