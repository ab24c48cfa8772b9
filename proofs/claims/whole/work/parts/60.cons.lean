section TkCons
variable {G : tk_G} {f : tk_F} {pc : Nat} {ls st : List tk_V} {S : tk_S} {M : tk_M} {k n : Nat} {Q : tk_V → tk_S → tk_M → Prop}
/-- nothing is written from a cell on -/
def Zm (M : tk_M) (n : Int) : Prop := ∀ c : Int, n ≤ c → ∀ i : Int, M c i = 0
theorem Zm.mono {M : tk_M} {n n' : Int} (h : Zm M n) (hn : n ≤ n') : Zm M n' := fun c hc i => h c (by omega) i
theorem Zm.mu {M : tk_M} {n c i v : Int} (h : Zm M n) (hc : c < n) : Zm (tk_mu M c i v) n := fun c' hc' i' => (congrFun (tk_mu_c (by omega)) i').trans (h c' hc' i')
theorem tk_mu_z {M : tk_M} {c i : Int} (h : M c i = 0) : tk_mu M c i 0 = M := by
  funext c' i'
  rw [tk_mu_eq]
  by_cases hc : c' = c ∧ i' = i
  · rw [if_pos hc, hc.1, hc.2, h]
  · rw [if_neg hc]
theorem lenA {A L : tk_S} {n c : Int} (hA : (A.length : Int) = n) (hc : n + (L.length : Int) = c) : ((A ++ L).length : Int) = c := by
  rw [List.length_append]; omega
theorem sgA {A L : tk_S} {i : Nat} {c : Int} {q : tk_C} (hA : (A.length : Int) + (i : Int) = c) (hL : L[i]? = some q) : tk_sg (A ++ L) c = some q := by
  unfold tk_sg
  rw [if_neg (by omega), List.getElem?_append_right (by omega), show c.toNat - A.length = i by omega]
  exact hL
theorem tr_newA {A L : tk_S} {own : String} {idx kd N : Nat} {c m0 : Int} (hd : decode f.2.1 pc = .ok (.new idx, 3)) (hw : tk_nw own idx kd N) (ho : f.1.cls = own) (hA : (A.length : Int) = m0) (hc : m0 + (L.length : Int) = c) (hz : Zm M c) (hcs : k + 1 ≤ f.2.2.2.2.2.1 ∧ n + N ≤ f.2.2.2.2.2.2) (kk : Ok G f (pc + 3) ls (xR c :: st) (A ++ (L ++ [(kd, N, List.replicate N (-1))])) M (k + 1) (n + N) Q) : Ok G f pc ls st (A ++ L) M k n Q := by
  have e := lenA (L := L) hA hc
  refine tr_new hd hw ho (by rw [e]; exact hz c (Int.le_refl _)) hcs ?_
  rw [e, List.append_assoc]; exact kk
theorem tr_newiA {A L : tk_S} {N : Nat} {z c m0 : Int} (hd : decode f.2.1 pc = .ok (.newarray .int, 2)) (hz : z = (N : Int)) (hN : N ≤ 1000) (hA : (A.length : Int) = m0) (hc : m0 + (L.length : Int) = c) (hzz : Zm M c) (hcs : k + 1 ≤ f.2.2.2.2.2.1 ∧ n + N ≤ f.2.2.2.2.2.2) (kk : Ok G f (pc + 2) ls (xR c :: st) (A ++ (L ++ [(20, N, [])])) M (k + 1) (n + N) Q) : Ok G f pc ls (xI z :: st) (A ++ L) M k n Q := by
  have e := lenA (L := L) hA hc
  refine tr_newi hd ka_int hz hN (by rw [e]; exact hzz c (Int.le_refl _)) hcs ?_
  rw [e, List.append_assoc]; exact kk
theorem tr_newlA {A L : tk_S} {N : Nat} {z c m0 : Int} (hd : decode f.2.1 pc = .ok (.newarray .long, 2)) (hz : z = (N : Int)) (hN : N ≤ 1000) (hA : (A.length : Int) = m0) (hc : m0 + (L.length : Int) = c) (hzz : Zm M c) (hcs : k + 1 ≤ f.2.2.2.2.2.1 ∧ n + N ≤ f.2.2.2.2.2.2) (kk : Ok G f (pc + 2) ls (xR c :: st) (A ++ (L ++ [(21, N, [])])) M (k + 1) (n + N) Q) : Ok G f pc ls (xI z :: st) (A ++ L) M k n Q := by
  have e := lenA (L := L) hA hc
  refine tr_newl hd ka_long hz hN (by rw [e]; exact hzz c (Int.le_refl _)) hcs ?_
  rw [e, List.append_assoc]; exact kk
theorem tr_newbA {A L : tk_S} {N : Nat} {z c m0 : Int} (hd : decode f.2.1 pc = .ok (.newarray .byte, 2)) (hz : z = (N : Int)) (hN : N ≤ 1000) (hA : (A.length : Int) = m0) (hc : m0 + (L.length : Int) = c) (hzz : Zm M c) (hcs : k + 1 ≤ f.2.2.2.2.2.1 ∧ n + N ≤ f.2.2.2.2.2.2) (kk : Ok G f (pc + 2) ls (xR c :: st) (A ++ (L ++ [(22, N, [])])) M (k + 1) (n + N) Q) : Ok G f pc ls (xI z :: st) (A ++ L) M k n Q := by
  have e := lenA (L := L) hA hc
  refine tr_newb hd ka_byte hz hN (by rw [e]; exact hzz c (Int.le_refl _)) hcs ?_
  rw [e, List.append_assoc]; exact kk
theorem tr_anewA {A L : tk_S} {own C : String} {idx kd N t0 : Nat} {z c m0 : Int} (hd : decode f.2.1 pc = .ok (.anewarray idx, 3)) (hw : Cond.classLink own idx C ∈ tk_tb) (ho : f.1.cls = own) (hk : (kd = 23 ∧ t0 = 3 ∧ C = RX3) ∨ (kd = 24 ∧ t0 = 4 ∧ C = RX6)) (hz : z = (N : Int)) (hN : N ≤ 1000) (hA : (A.length : Int) = m0) (hc : m0 + (L.length : Int) = c) (hzz : Zm M c) (hcs : k + 1 ≤ f.2.2.2.2.2.1 ∧ n + N ≤ f.2.2.2.2.2.2) (kk : Ok G f (pc + 3) ls (xR c :: st) (A ++ (L ++ [(kd, N, List.replicate N (-1))])) M (k + 1) (n + N) Q) : Ok G f pc ls (xI z :: st) (A ++ L) M k n Q := by
  have e := lenA (L := L) hA hc
  refine tr_anew hd hw ho hk hz hN (by rw [e]; exact hzz c (Int.le_refl _)) hcs ?_
  rw [e, List.append_assoc]; exact kk
theorem tk_srA {A L : tk_S} {i kd N j : Nat} {c x : Int} {rl : List Int} (hA : (A.length : Int) + (i : Int) = c) (hL : L[i]? = some (kd, N, rl)) : tk_sr (A ++ L) c j x = A ++ L.set i (kd, N, rl.set j x) := by
  rw [tk_sr_at (sgA hA hL), List.set_append_right _ _ (by omega), show c.toNat - A.length = i by omega]
theorem tr_putrA {A L : tk_S} {own : String} {idx kd N j i : Nat} {c x : Int} {rl : List Int} (hd : decode f.2.1 pc = .ok (.putfield idx, 3)) (hf : tk_fi own idx kd N j 2) (ho : f.1.cls = own) (hfin : (TX_of kd j).2.2.2 = true ∧ f.1.name = "<init>" ∧ (TX_of kd j).1 = f.1.cls) (hA : (A.length : Int) + (i : Int) = c) (hL : L[i]? = some (kd, N, rl)) (hrl : rl.length = N) (hx : 0 ≤ x) (kk : Ok G f (pc + 3) ls st (A ++ L.set i (kd, N, rl.set j x)) M k n Q) : Ok G f pc ls (xR x :: xR c :: st) (A ++ L) M k n Q := by
  refine tr_putr hd hf ho hfin (sgA hA hL) hrl hx ?_
  rw [tk_srA hA hL]; exact kk
theorem tr_aastA {A L : tk_S} {c x z : Int} {i ix kd N kx Nx t0 : Nat} {rl rlx : List Int} (hd : decode f.2.1 pc = .ok (.aastore, 1)) (hA : (A.length : Int) + (i : Int) = c) (hL : L[i]? = some (kd, N, rl)) (hk : (kd = 23 ∧ t0 = 3 ∧ kx = 3 ∧ Nx = 3) ∨ (kd = 24 ∧ t0 = 4 ∧ kx = 6 ∧ Nx = 3)) (hAx : (A.length : Int) + (ix : Int) = x) (hLx : L[ix]? = some (kx, Nx, rlx)) (hrl : rl.length = N) (h0 : 0 ≤ z) (h1 : z < N) (kk : Ok G f (pc + 1) ls st (A ++ L.set i (kd, N, rl.set z.toNat x)) M k n Q) : Ok G f pc ls (xR x :: xI z :: xR c :: st) (A ++ L) M k n Q := by
  refine tr_aast hd (sgA hA hL) hk (sgA hAx hLx) hrl h0 h1 ?_
  rw [tk_srA hA hL]; exact kk
theorem tr_initA {A L R : tk_S} {q : tk_C} {g : tk_F} {own : String} {idx na : Nat} {args : List tk_V} {c : Int} {M1 : tk_M} (hd : decode f.2.1 pc = .ok (.invokespecial idx, 3)) (hm : tk_mt g na) (hl : Cond.methodLink own idx g.1 ∈ tk_tb ∧ Cond.instanceMethod g.1 ∈ tk_tb) (ho : f.1.cls = own) (hin : g.1.name = "<init>" ∧ g.2.2.2.1 = none) (h0 : 0 ≤ c) (hdep : g.2.2.2.2.1 < f.2.2.2.2.1 ∧ g.2.2.1 ≤ 21) (hna : args.length = na) (hcw : tk_cw st ≤ 8) (hcs : k + g.2.2.2.2.2.1 ≤ f.2.2.2.2.2.1 ∧ n + g.2.2.2.2.2.2 ≤ f.2.2.2.2.2.2)
    (hsp : Sp G g (xR c :: args) ((A ++ L) ++ [q]) M (fun v S' M' => v = xU ∧ S' = (A ++ L) ++ R ∧ M' = M1)) (kk : Ok G f (pc + 3) ls st (A ++ (L ++ R)) M1 (k + g.2.2.2.2.2.1) (n + g.2.2.2.2.2.2) Q) : Ok G f pc ls (args.reverse ++ xR c :: st) (A ++ (L ++ [q])) M k n Q := by
  rw [List.append_assoc] at hsp
  refine tk_callI hd hm hl ho hin h0 hdep hna hcw hcs hsp (fun v S' M' h _ _ _ => ?_)
  obtain ⟨rfl, rfl, rfl⟩ := h
  rw [List.append_assoc]
  exact kk
theorem tr_vretA {M1 : tk_M} {S1 : tk_S} (hd : decode f.2.1 pc = .ok (.return_, 1)) (hr : f.2.2.2.1 = none) (hk : k ≤ f.2.2.2.2.2.1) (hn : n ≤ f.2.2.2.2.2.2) (hS : S = S1) (hM : M = M1) : Ok G f pc ls [] S M k n (fun v S' M' => v = xU ∧ S' = S1 ∧ M' = M1) :=
  tr_ret (v := xU) (by unfold tk_rok; rw [hr]; exact ⟨rfl, hd⟩) tk_ok_U hk hn ⟨rfl, hS, hM⟩ rfl
theorem tr_shv {S' : tk_S} (h : S = S') (kk : Ok G f pc ls st S' M k n Q) : Ok G f pc ls st S M k n Q := by subst h; exact kk
end TkCons
