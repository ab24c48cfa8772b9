section TkRows
variable {G : tk_G} {f : tk_F} {pc : Nat} {ls st : List tk_V} {S : tk_S} {M : tk_M} {k n : Nat} {Q : tk_V → tk_S → tk_M → Prop}
theorem tk_okc {v : tk_V} {st : List tk_V} (hv : tk_ok v) (h : ∀ w ∈ st, tk_ok w) : ∀ w ∈ v :: st, tk_ok w := fun w hw => by
  rcases List.mem_cons.mp hw with h1 | h1
  · rw [h1]; exact hv
  · exact h w h1
theorem tk_okt {v : tk_V} {st : List tk_V} (h : ∀ w ∈ v :: st, tk_ok w) : ∀ w ∈ st, tk_ok w := fun w hw => h w (List.mem_cons_of_mem _ hw)
theorem tr_iconst {x : Int} (hd : decode f.2.1 pc = .ok (.iconst x, 1)) (hr : tk_r32 x) (kk : Ok G f (pc + 1) ls (xI x :: st) S M k n Q) : Ok G f pc ls st S M k n Q := by
  intro p l e s m args below meth c H locs la Z F hW hS hl hn hls hst hR
  exact lv_iconst F.1 F.2.1 hd rfl (kk p l e s m args below meth c H locs la Z F hW hS hl hn hls (tk_okc (tk_ok_I.mpr hr) hst) hR)
theorem tr_bipush {x : Int} (hd : decode f.2.1 pc = .ok (.bipush x, 2)) (hr : (Int8.ofInt x).toInt32 = Int32.ofInt x ∧ tk_r32 x) (kk : Ok G f (pc + 2) ls (xI x :: st) S M k n Q) : Ok G f pc ls st S M k n Q := by
  intro p l e s m args below meth c H locs la Z F hW hS hl hn hls hst hR
  exact lv_bipush F.1 F.2.1 hd hr.1 (kk p l e s m args below meth c H locs la Z F hW hS hl hn hls (tk_okc (tk_ok_I.mpr hr.2) hst) hR)
theorem tr_sipush {x : Int} (hd : decode f.2.1 pc = .ok (.sipush x, 3)) (hr : (Int16.ofInt x).toInt32 = Int32.ofInt x ∧ tk_r32 x) (kk : Ok G f (pc + 3) ls (xI x :: st) S M k n Q) : Ok G f pc ls st S M k n Q := by
  intro p l e s m args below meth c H locs la Z F hW hS hl hn hls hst hR
  exact lv_sipush F.1 F.2.1 hd hr.1 (kk p l e s m args below meth c H locs la Z F hW hS hl hn hls (tk_okc (tk_ok_I.mpr hr.2) hst) hR)
theorem tr_lconst {i : Fin 2} {x : Int} (hd : decode f.2.1 pc = .ok (.lconst i, 1)) (hx : Int64.ofNat (i : Nat) = Int64.ofInt x) (hr : tk_r64 x) (kk : Ok G f (pc + 1) ls (xL x :: st) S M k n Q) : Ok G f pc ls st S M k n Q := by
  intro p l e s m args below meth c H locs la Z F hW hS hl hn hls hst hR
  exact lv_lconst F.1 F.2.1 hd hx (kk p l e s m args below meth c H locs la Z F hW hS hl hn hls (tk_okc (tk_ok_L.mpr hr) hst) hR)
theorem tr_ldc {x : Int} {i : Nat} (hd : decode f.2.1 pc = .ok (.ldc i, 2)) (hw : Cond.constant f.1.cls i (Int32.ofInt x) ∈ tk_tb) (hr : tk_r32 x) (kk : Ok G f (pc + 2) ls (xI x :: st) S M k n Q) : Ok G f pc ls st S M k n Q := by
  intro p l e s m args below meth c H locs la Z F hW hS hl hn hls hst hR
  exact lv_ldc F.1 F.2.1 F.2.2.2.1 (F.2.2.2.2.1 _ hw) hd (kk p l e s m args below meth c H locs la Z F hW hS hl hn hls (tk_okc (tk_ok_I.mpr hr) hst) hR)
theorem tr_ldc2 {x : Int} {i : Nat} (hd : decode f.2.1 pc = .ok (.ldc2_w i, 3)) (hw : Cond.constantLong f.1.cls i (Int64.ofInt x) ∈ tk_tb) (hr : tk_r64 x) (kk : Ok G f (pc + 3) ls (xL x :: st) S M k n Q) : Ok G f pc ls st S M k n Q := by
  intro p l e s m args below meth c H locs la Z F hW hS hl hn hls hst hR
  exact lv_ldc2 F.1 F.2.1 F.2.2.2.1 (F.2.2.2.2.1 _ hw) hd (kk p l e s m args below meth c H locs la Z F hW hS hl hn hls (tk_okc (tk_ok_L.mpr hr) hst) hR)
theorem tr_iload_n {j : Fin 4} {x : Int} (hd : decode f.2.1 pc = .ok (.iload_n j, 1)) (hv : ls[(j : Nat)]? = some (xI x)) (kk : Ok G f (pc + 1) ls (xI x :: st) S M k n Q) : Ok G f pc ls st S M k n Q := by
  intro p l e s m args below meth c H locs la Z F hW hS hl hn hls hst hR
  exact lv_iload_n F.1 F.2.1 hd rfl (tk_lat hl hv (Nat.le_of_ble_eq_true rfl)) (kk p l e s m args below meth c H locs la Z F hW hS hl hn hls (tk_okc (hls _ (List.mem_of_getElem? hv)) hst) hR)
theorem tr_iload {j : Nat} {x : Int} (hd : decode f.2.1 pc = .ok (.iload j, 2)) (hv : ls[j]? = some (xI x)) (kk : Ok G f (pc + 2) ls (xI x :: st) S M k n Q) : Ok G f pc ls st S M k n Q := by
  intro p l e s m args below meth c H locs la Z F hW hS hl hn hls hst hR
  exact lv_iload F.1 F.2.1 hd (tk_lat hl hv (Nat.le_of_ble_eq_true rfl)) (kk p l e s m args below meth c H locs la Z F hW hS hl hn hls (tk_okc (hls _ (List.mem_of_getElem? hv)) hst) hR)
theorem tr_lload_n {j : Fin 4} {x : Int} (hd : decode f.2.1 pc = .ok (.lload_n j, 1)) (hv : ls[(j : Nat)]? = some (xL x)) (kk : Ok G f (pc + 1) ls (xL x :: st) S M k n Q) : Ok G f pc ls st S M k n Q := by
  intro p l e s m args below meth c H locs la Z F hW hS hl hn hls hst hR
  exact lv_lload_n F.1 F.2.1 hd rfl (tk_lat hl hv (Nat.le_of_ble_eq_true rfl)) (kk p l e s m args below meth c H locs la Z F hW hS hl hn hls (tk_okc (hls _ (List.mem_of_getElem? hv)) hst) hR)
theorem tr_lload {j : Nat} {x : Int} (hd : decode f.2.1 pc = .ok (.lload j, 2)) (hv : ls[j]? = some (xL x)) (kk : Ok G f (pc + 2) ls (xL x :: st) S M k n Q) : Ok G f pc ls st S M k n Q := by
  intro p l e s m args below meth c H locs la Z F hW hS hl hn hls hst hR
  exact lv_lload F.1 F.2.1 hd (tk_lat hl hv (Nat.le_of_ble_eq_true rfl)) (kk p l e s m args below meth c H locs la Z F hW hS hl hn hls (tk_okc (hls _ (List.mem_of_getElem? hv)) hst) hR)
theorem tk_eR {x : Int} (h : 0 ≤ x) : tk_e G (xR x) = .ref (G.1 + x.toNat) := by
  show va_rf (tk_ro G x) = _
  unfold tk_ro
  rw [if_neg (by omega)]
  rfl
theorem tr_aload_n {j : Fin 4} {x : Int} (hd : decode f.2.1 pc = .ok (.aload_n j, 1)) (hv : ls[(j : Nat)]? = some (xR x)) (h0 : 0 ≤ x) (kk : Ok G f (pc + 1) ls (xR x :: st) S M k n Q) : Ok G f pc ls st S M k n Q := by
  intro p l e s m args below meth c H locs la Z F hW hS hl hn hls hst hR
  have h1 := tk_lat hl hv (Nat.le_of_ble_eq_true rfl)
  rw [tk_eR h0] at h1
  refine lv_aload_n F.1 F.2.1 hd rfl h1 ?_
  rw [← tk_eR h0]
  exact kk p l e s m args below meth c H locs la Z F hW hS hl hn hls (tk_okc (tk_ok_R x) hst) hR
theorem tr_aload {j : Nat} {x : Int} (hd : decode f.2.1 pc = .ok (.aload j, 2)) (hv : ls[j]? = some (xR x)) (h0 : 0 ≤ x) (kk : Ok G f (pc + 2) ls (xR x :: st) S M k n Q) : Ok G f pc ls st S M k n Q := by
  intro p l e s m args below meth c H locs la Z F hW hS hl hn hls hst hR
  have h1 := tk_lat hl hv (Nat.le_of_ble_eq_true rfl)
  rw [tk_eR h0] at h1
  refine lv_aload F.1 F.2.1 hd h1 ?_
  rw [← tk_eR h0]
  exact kk p l e s m args below meth c H locs la Z F hW hS hl hn hls (tk_okc (tk_ok_R x) hst) hR
theorem tr_sload_n {j : Fin 4} {x : Int} (hd : decode f.2.1 pc = .ok (.aload_n j, 1)) (hv : ls[(j : Nat)]? = some (xS x)) (kk : Ok G f (pc + 1) ls (xS x :: st) S M k n Q) : Ok G f pc ls st S M k n Q := by
  intro p l e s m args below meth c H locs la Z F hW hS hl hn hls hst hR
  exact lv_aload_n F.1 F.2.1 hd rfl (tk_lat hl hv (Nat.le_of_ble_eq_true rfl)) (kk p l e s m args below meth c H locs la Z F hW hS hl hn hls (tk_okc (tk_ok_S x) hst) hR)
theorem tr_istore_n {j : Fin 4} {x : Int} (hd : decode f.2.1 pc = .ok (.istore_n j, 1)) (hs : tk_sto ls (j : Nat) = true) (hj : (j : Nat) < ls.length) (kk : Ok G f (pc + 1) (ls.set (j : Nat) (xI x)) st S M k n Q) : Ok G f pc ls (xI x :: st) S M k n Q := by
  intro p l e s m args below meth c H locs la Z F hW hS hl hn hls hst hR
  exact lv_istore_n F.1 F.2.1 hd rfl hl hj rfl (fun la' h' => kk p l e s m args below meth c H locs la' Z F hW hS (tk_set1 (la := la) (v := xI x) hs hj h') ⟨(List.length_set ..).trans hn.1, hn.2⟩ (tk_oks hls (hst _ List.mem_cons_self)) (tk_okt hst) hR)
theorem tr_istore {j : Nat} {x : Int} (hd : decode f.2.1 pc = .ok (.istore j, 2)) (hs : tk_sto ls j = true) (hj : j < ls.length) (kk : Ok G f (pc + 2) (ls.set j (xI x)) st S M k n Q) : Ok G f pc ls (xI x :: st) S M k n Q := by
  intro p l e s m args below meth c H locs la Z F hW hS hl hn hls hst hR
  exact lv_istore F.1 F.2.1 hd hl hj rfl (fun la' h' => kk p l e s m args below meth c H locs la' Z F hW hS (tk_set1 (la := la) (v := xI x) hs hj h') ⟨(List.length_set ..).trans hn.1, hn.2⟩ (tk_oks hls (hst _ List.mem_cons_self)) (tk_okt hst) hR)
theorem tr_lstore_n {j : Fin 4} {x : Int} (hd : decode f.2.1 pc = .ok (.lstore_n j, 1)) (hs : tk_sto ls (j : Nat) = true) (hj : (j : Nat) + 1 < ls.length) (kk : Ok G f (pc + 1) ((ls.set (j : Nat) (xL x)).set ((j : Nat) + 1) xU) st S M k n Q) : Ok G f pc ls (xL x :: st) S M k n Q := by
  intro p l e s m args below meth c H locs la Z F hW hS hl hn hls hst hR
  exact lv_lstore_n F.1 F.2.1 hd rfl hl hj rfl (fun la' h' => kk p l e s m args below meth c H locs la' Z F hW hS (tk_set2 (la := la) (v := xL x) hs hj h') ⟨by rw [List.length_set, List.length_set]; exact hn.1, hn.2⟩ (tk_oks (tk_oks hls (hst _ List.mem_cons_self)) tk_ok_U) (tk_okt hst) hR)
theorem tr_lstore {j : Nat} {x : Int} (hd : decode f.2.1 pc = .ok (.lstore j, 2)) (hs : tk_sto ls j = true) (hj : j + 1 < ls.length) (kk : Ok G f (pc + 2) ((ls.set j (xL x)).set (j + 1) xU) st S M k n Q) : Ok G f pc ls (xL x :: st) S M k n Q := by
  intro p l e s m args below meth c H locs la Z F hW hS hl hn hls hst hR
  exact lv_lstore F.1 F.2.1 hd hl hj rfl (fun la' h' => kk p l e s m args below meth c H locs la' Z F hW hS (tk_set2 (la := la) (v := xL x) hs hj h') ⟨by rw [List.length_set, List.length_set]; exact hn.1, hn.2⟩ (tk_oks (tk_oks hls (hst _ List.mem_cons_self)) tk_ok_U) (tk_okt hst) hR)
theorem tr_astore_n {j : Fin 4} {x : Int} (hd : decode f.2.1 pc = .ok (.astore_n j, 1)) (hs : tk_sto ls (j : Nat) = true) (hj : (j : Nat) < ls.length) (h0 : 0 ≤ x) (kk : Ok G f (pc + 1) (ls.set (j : Nat) (xR x)) st S M k n Q) : Ok G f pc ls (xR x :: st) S M k n Q := by
  intro p l e s m args below meth c H locs la Z F hW hS hl hn hls hst hR
  rw [List.map_cons, tk_eR h0]
  exact lv_astore_n F.1 F.2.1 hd rfl hl hj rfl (fun la' h' => kk p l e s m args below meth c H locs la' Z F hW hS (tk_set1 (la := la) (v := xR x) hs hj (by rw [tk_eR h0]; exact h')) ⟨(List.length_set ..).trans hn.1, hn.2⟩ (tk_oks hls (tk_ok_R x)) (tk_okt hst) hR)
theorem tr_astore {j : Nat} {x : Int} (hd : decode f.2.1 pc = .ok (.astore j, 2)) (hs : tk_sto ls j = true) (hj : j < ls.length) (h0 : 0 ≤ x) (kk : Ok G f (pc + 2) (ls.set j (xR x)) st S M k n Q) : Ok G f pc ls (xR x :: st) S M k n Q := by
  intro p l e s m args below meth c H locs la Z F hW hS hl hn hls hst hR
  rw [List.map_cons, tk_eR h0]
  exact lv_astore F.1 F.2.1 hd hl hj rfl (fun la' h' => kk p l e s m args below meth c H locs la' Z F hW hS (tk_set1 (la := la) (v := xR x) hs hj (by rw [tk_eR h0]; exact h')) ⟨(List.length_set ..).trans hn.1, hn.2⟩ (tk_oks hls (tk_ok_R x)) (tk_okt hst) hR)
theorem tr_iinc {j : Nat} {x z : Int} (hd : decode f.2.1 pc = .ok (.iinc j z, 3)) (hv : ls[j]? = some (xI x)) (hs : tk_sto ls j = true) (hr : tk_r32 (x + z)) (kk : Ok G f (pc + 3) (ls.set j (xI (x + z))) st S M k n Q) : Ok G f pc ls st S M k n Q := by
  intro p l e s m args below meth c H locs la Z F hW hS hl hn hls hst hR
  have hj : j < ls.length := (List.getElem?_eq_some_iff.mp hv).1
  obtain ⟨q, hq⟩ := List.getElem?_of_mem (tk_l_mem (G := G) hv (Nat.le_of_ble_eq_true rfl))
  exact lv_iinc (v := Int32.ofInt (x + z)) F.1 F.2.1 hd hl hq (Int32.ofInt_add x z).symm hj rfl (fun la' h' => kk p l e s m args below meth c H locs la' Z F hW hS (tk_set1 (la := la) (v := xI (x + z)) hs hj h') ⟨(List.length_set ..).trans hn.1, hn.2⟩ (tk_oks hls (tk_ok_I.mpr hr)) hst hR)
theorem tr_iadd {x z : Int} (hd : decode f.2.1 pc = .ok (.iadd, 1)) (hr : tk_r32 (x + z)) (kk : Ok G f (pc + 1) ls (xI (x + z) :: st) S M k n Q) : Ok G f pc ls (xI z :: xI x :: st) S M k n Q := by
  intro p l e s m args below meth c H locs la Z F hW hS hl hn hls hst hR
  have h := kk p l e s m args below meth c H locs la Z F hW hS hl hn hls (tk_okc (tk_ok_I.mpr hr) (tk_okt (tk_okt hst))) hR
  refine lv_iadd F.1 F.2.1 hd ?_
  rw [← Int32.ofInt_add]; exact h
theorem tr_isub {x z : Int} (hd : decode f.2.1 pc = .ok (.isub, 1)) (hr : tk_r32 (x - z)) (kk : Ok G f (pc + 1) ls (xI (x - z) :: st) S M k n Q) : Ok G f pc ls (xI z :: xI x :: st) S M k n Q := by
  intro p l e s m args below meth c H locs la Z F hW hS hl hn hls hst hR
  have h := kk p l e s m args below meth c H locs la Z F hW hS hl hn hls (tk_okc (tk_ok_I.mpr hr) (tk_okt (tk_okt hst))) hR
  refine lv_isub F.1 F.2.1 hd ?_
  rw [← Int32.ofInt_sub]; exact h
theorem tr_imul {x z : Int} (hd : decode f.2.1 pc = .ok (.imul, 1)) (hr : tk_r32 (x * z)) (kk : Ok G f (pc + 1) ls (xI (x * z) :: st) S M k n Q) : Ok G f pc ls (xI z :: xI x :: st) S M k n Q := by
  intro p l e s m args below meth c H locs la Z F hW hS hl hn hls hst hR
  have h := kk p l e s m args below meth c H locs la Z F hW hS hl hn hls (tk_okc (tk_ok_I.mpr hr) (tk_okt (tk_okt hst))) hR
  refine lv_imul F.1 F.2.1 hd ?_
  rw [← Int32.ofInt_mul]; exact h
end TkRows
