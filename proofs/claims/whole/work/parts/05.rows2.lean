section TkRows2
variable {G : tk_G} {f : tk_F} {pc : Nat} {ls st : List tk_V} {S : tk_S} {M : tk_M} {k n : Nat} {Q : tk_V → tk_S → tk_M → Prop}
theorem tk_r32_0 : tk_r32 0 := ⟨by decide, by decide⟩
theorem tr_ifeq {x off : Int} {tgt : Nat} (hd : decode f.2.1 pc = .ok (.ifCond .eq off, 3)) (ht : (pc : Int) + off = (tgt : Int)) (kt : x = 0 → Ok G f tgt ls st S M k n Q) (kf : ¬ (x = 0) → Ok G f (pc + 3) ls st S M k n Q) : Ok G f pc ls (xI x :: st) S M k n Q := by
  intro p l e s m args below meth c H locs la Z F hW hS hl hn hls hst hR
  have hx := tk_ok_I.mp (hst _ List.mem_cons_self)
  exact lv_if_eq F.1 F.2.1 hd ht (fun q => kt ((i32_eq hx tk_r32_0).mp q) p l e s m args below meth c H locs la Z F hW hS hl hn hls (tk_okt hst) hR) (fun q => kf (fun q2 => q ((i32_eq hx tk_r32_0).mpr q2)) p l e s m args below meth c H locs la Z F hW hS hl hn hls (tk_okt hst) hR)
theorem tr_ifne {x off : Int} {tgt : Nat} (hd : decode f.2.1 pc = .ok (.ifCond .ne off, 3)) (ht : (pc : Int) + off = (tgt : Int)) (kt : x ≠ 0 → Ok G f tgt ls st S M k n Q) (kf : x = 0 → Ok G f (pc + 3) ls st S M k n Q) : Ok G f pc ls (xI x :: st) S M k n Q := by
  intro p l e s m args below meth c H locs la Z F hW hS hl hn hls hst hR
  have hx := tk_ok_I.mp (hst _ List.mem_cons_self)
  exact lv_if_ne F.1 F.2.1 hd ht (fun q => kt ((not_congr (i32_eq hx tk_r32_0)).mp q) p l e s m args below meth c H locs la Z F hW hS hl hn hls (tk_okt hst) hR) (fun q => kf ((i32_eq hx tk_r32_0).mp q) p l e s m args below meth c H locs la Z F hW hS hl hn hls (tk_okt hst) hR)
theorem tr_iflt {x off : Int} {tgt : Nat} (hd : decode f.2.1 pc = .ok (.ifCond .lt off, 3)) (ht : (pc : Int) + off = (tgt : Int)) (kt : x < 0 → Ok G f tgt ls st S M k n Q) (kf : ¬ (x < 0) → Ok G f (pc + 3) ls st S M k n Q) : Ok G f pc ls (xI x :: st) S M k n Q := by
  intro p l e s m args below meth c H locs la Z F hW hS hl hn hls hst hR
  have hx := tk_ok_I.mp (hst _ List.mem_cons_self)
  exact lv_if_lt F.1 F.2.1 hd ht (fun q => kt ((i32_lt hx tk_r32_0).mp q) p l e s m args below meth c H locs la Z F hW hS hl hn hls (tk_okt hst) hR) (fun q => kf (fun q2 => q ((i32_lt hx tk_r32_0).mpr q2)) p l e s m args below meth c H locs la Z F hW hS hl hn hls (tk_okt hst) hR)
theorem tr_ifge {x off : Int} {tgt : Nat} (hd : decode f.2.1 pc = .ok (.ifCond .ge off, 3)) (ht : (pc : Int) + off = (tgt : Int)) (kt : 0 ≤ x → Ok G f tgt ls st S M k n Q) (kf : ¬ (0 ≤ x) → Ok G f (pc + 3) ls st S M k n Q) : Ok G f pc ls (xI x :: st) S M k n Q := by
  intro p l e s m args below meth c H locs la Z F hW hS hl hn hls hst hR
  have hx := tk_ok_I.mp (hst _ List.mem_cons_self)
  exact lv_if_ge F.1 F.2.1 hd ht (fun q => kt ((i32_le tk_r32_0 hx).mp q) p l e s m args below meth c H locs la Z F hW hS hl hn hls (tk_okt hst) hR) (fun q => kf (fun q2 => q ((i32_le tk_r32_0 hx).mpr q2)) p l e s m args below meth c H locs la Z F hW hS hl hn hls (tk_okt hst) hR)
theorem tr_ifgt {x off : Int} {tgt : Nat} (hd : decode f.2.1 pc = .ok (.ifCond .gt off, 3)) (ht : (pc : Int) + off = (tgt : Int)) (kt : 0 < x → Ok G f tgt ls st S M k n Q) (kf : ¬ (0 < x) → Ok G f (pc + 3) ls st S M k n Q) : Ok G f pc ls (xI x :: st) S M k n Q := by
  intro p l e s m args below meth c H locs la Z F hW hS hl hn hls hst hR
  have hx := tk_ok_I.mp (hst _ List.mem_cons_self)
  exact lv_if_gt F.1 F.2.1 hd ht (fun q => kt ((i32_lt tk_r32_0 hx).mp q) p l e s m args below meth c H locs la Z F hW hS hl hn hls (tk_okt hst) hR) (fun q => kf (fun q2 => q ((i32_lt tk_r32_0 hx).mpr q2)) p l e s m args below meth c H locs la Z F hW hS hl hn hls (tk_okt hst) hR)
theorem tr_ifle {x off : Int} {tgt : Nat} (hd : decode f.2.1 pc = .ok (.ifCond .le off, 3)) (ht : (pc : Int) + off = (tgt : Int)) (kt : x ≤ 0 → Ok G f tgt ls st S M k n Q) (kf : ¬ (x ≤ 0) → Ok G f (pc + 3) ls st S M k n Q) : Ok G f pc ls (xI x :: st) S M k n Q := by
  intro p l e s m args below meth c H locs la Z F hW hS hl hn hls hst hR
  have hx := tk_ok_I.mp (hst _ List.mem_cons_self)
  exact lv_if_le F.1 F.2.1 hd ht (fun q => kt ((i32_le hx tk_r32_0).mp q) p l e s m args below meth c H locs la Z F hW hS hl hn hls (tk_okt hst) hR) (fun q => kf (fun q2 => q ((i32_le hx tk_r32_0).mpr q2)) p l e s m args below meth c H locs la Z F hW hS hl hn hls (tk_okt hst) hR)
theorem tr_icmpeq {x z off : Int} {tgt : Nat} (hd : decode f.2.1 pc = .ok (.if_icmp .eq off, 3)) (ht : (pc : Int) + off = (tgt : Int)) (kt : x = z → Ok G f tgt ls st S M k n Q) (kf : ¬ (x = z) → Ok G f (pc + 3) ls st S M k n Q) : Ok G f pc ls (xI z :: xI x :: st) S M k n Q := by
  intro p l e s m args below meth c H locs la Z F hW hS hl hn hls hst hR
  have hz := tk_ok_I.mp (hst _ List.mem_cons_self)
  have hx := tk_ok_I.mp (hst _ (List.mem_cons_of_mem _ List.mem_cons_self))
  exact lv_icmp_eq F.1 F.2.1 hd ht (fun q => kt ((i32_eq hx hz).mp q) p l e s m args below meth c H locs la Z F hW hS hl hn hls (tk_okt (tk_okt hst)) hR) (fun q => kf (fun q2 => q ((i32_eq hx hz).mpr q2)) p l e s m args below meth c H locs la Z F hW hS hl hn hls (tk_okt (tk_okt hst)) hR)
theorem tr_icmpne {x z off : Int} {tgt : Nat} (hd : decode f.2.1 pc = .ok (.if_icmp .ne off, 3)) (ht : (pc : Int) + off = (tgt : Int)) (kt : x ≠ z → Ok G f tgt ls st S M k n Q) (kf : x = z → Ok G f (pc + 3) ls st S M k n Q) : Ok G f pc ls (xI z :: xI x :: st) S M k n Q := by
  intro p l e s m args below meth c H locs la Z F hW hS hl hn hls hst hR
  have hz := tk_ok_I.mp (hst _ List.mem_cons_self)
  have hx := tk_ok_I.mp (hst _ (List.mem_cons_of_mem _ List.mem_cons_self))
  exact lv_icmp_ne F.1 F.2.1 hd ht (fun q => kt ((not_congr (i32_eq hx hz)).mp q) p l e s m args below meth c H locs la Z F hW hS hl hn hls (tk_okt (tk_okt hst)) hR) (fun q => kf ((i32_eq hx hz).mp q) p l e s m args below meth c H locs la Z F hW hS hl hn hls (tk_okt (tk_okt hst)) hR)
theorem tr_icmplt {x z off : Int} {tgt : Nat} (hd : decode f.2.1 pc = .ok (.if_icmp .lt off, 3)) (ht : (pc : Int) + off = (tgt : Int)) (kt : x < z → Ok G f tgt ls st S M k n Q) (kf : ¬ (x < z) → Ok G f (pc + 3) ls st S M k n Q) : Ok G f pc ls (xI z :: xI x :: st) S M k n Q := by
  intro p l e s m args below meth c H locs la Z F hW hS hl hn hls hst hR
  have hz := tk_ok_I.mp (hst _ List.mem_cons_self)
  have hx := tk_ok_I.mp (hst _ (List.mem_cons_of_mem _ List.mem_cons_self))
  exact lv_icmp_lt F.1 F.2.1 hd ht (fun q => kt ((i32_lt hx hz).mp q) p l e s m args below meth c H locs la Z F hW hS hl hn hls (tk_okt (tk_okt hst)) hR) (fun q => kf (fun q2 => q ((i32_lt hx hz).mpr q2)) p l e s m args below meth c H locs la Z F hW hS hl hn hls (tk_okt (tk_okt hst)) hR)
theorem tr_icmpge {x z off : Int} {tgt : Nat} (hd : decode f.2.1 pc = .ok (.if_icmp .ge off, 3)) (ht : (pc : Int) + off = (tgt : Int)) (kt : z ≤ x → Ok G f tgt ls st S M k n Q) (kf : ¬ (z ≤ x) → Ok G f (pc + 3) ls st S M k n Q) : Ok G f pc ls (xI z :: xI x :: st) S M k n Q := by
  intro p l e s m args below meth c H locs la Z F hW hS hl hn hls hst hR
  have hz := tk_ok_I.mp (hst _ List.mem_cons_self)
  have hx := tk_ok_I.mp (hst _ (List.mem_cons_of_mem _ List.mem_cons_self))
  exact lv_icmp_ge F.1 F.2.1 hd ht (fun q => kt ((i32_le hz hx).mp q) p l e s m args below meth c H locs la Z F hW hS hl hn hls (tk_okt (tk_okt hst)) hR) (fun q => kf (fun q2 => q ((i32_le hz hx).mpr q2)) p l e s m args below meth c H locs la Z F hW hS hl hn hls (tk_okt (tk_okt hst)) hR)
theorem tr_icmpgt {x z off : Int} {tgt : Nat} (hd : decode f.2.1 pc = .ok (.if_icmp .gt off, 3)) (ht : (pc : Int) + off = (tgt : Int)) (kt : z < x → Ok G f tgt ls st S M k n Q) (kf : ¬ (z < x) → Ok G f (pc + 3) ls st S M k n Q) : Ok G f pc ls (xI z :: xI x :: st) S M k n Q := by
  intro p l e s m args below meth c H locs la Z F hW hS hl hn hls hst hR
  have hz := tk_ok_I.mp (hst _ List.mem_cons_self)
  have hx := tk_ok_I.mp (hst _ (List.mem_cons_of_mem _ List.mem_cons_self))
  exact lv_icmp_gt F.1 F.2.1 hd ht (fun q => kt ((i32_lt hz hx).mp q) p l e s m args below meth c H locs la Z F hW hS hl hn hls (tk_okt (tk_okt hst)) hR) (fun q => kf (fun q2 => q ((i32_lt hz hx).mpr q2)) p l e s m args below meth c H locs la Z F hW hS hl hn hls (tk_okt (tk_okt hst)) hR)
theorem tr_icmple {x z off : Int} {tgt : Nat} (hd : decode f.2.1 pc = .ok (.if_icmp .le off, 3)) (ht : (pc : Int) + off = (tgt : Int)) (kt : x ≤ z → Ok G f tgt ls st S M k n Q) (kf : ¬ (x ≤ z) → Ok G f (pc + 3) ls st S M k n Q) : Ok G f pc ls (xI z :: xI x :: st) S M k n Q := by
  intro p l e s m args below meth c H locs la Z F hW hS hl hn hls hst hR
  have hz := tk_ok_I.mp (hst _ List.mem_cons_self)
  have hx := tk_ok_I.mp (hst _ (List.mem_cons_of_mem _ List.mem_cons_self))
  exact lv_icmp_le F.1 F.2.1 hd ht (fun q => kt ((i32_le hx hz).mp q) p l e s m args below meth c H locs la Z F hW hS hl hn hls (tk_okt (tk_okt hst)) hR) (fun q => kf (fun q2 => q ((i32_le hx hz).mpr q2)) p l e s m args below meth c H locs la Z F hW hS hl hn hls (tk_okt (tk_okt hst)) hR)
theorem tr_goto {off : Int} {tgt : Nat} (hd : decode f.2.1 pc = .ok (.goto off, 3)) (ht : (pc : Int) + off = (tgt : Int)) (kk : Ok G f tgt ls st S M k n Q) : Ok G f pc ls st S M k n Q := by
  intro p l e s m args below meth c H locs la Z F hW hS hl hn hls hst hR
  exact lv_goto F.1 F.2.1 hd ht (kk p l e s m args below meth c H locs la Z F hW hS hl hn hls hst hR)
theorem tr_dup {v : tk_V} (hd : decode f.2.1 pc = .ok (.dup, 1)) (hv : v.1 ≠ 1) (kk : Ok G f (pc + 1) ls (v :: v :: st) S M k n Q) : Ok G f pc ls (v :: st) S M k n Q := by
  intro p l e s m args below meth c H locs la Z F hW hS hl hn hls hst hR
  exact lv_dup F.1 F.2.1 hd ((lv_cat _).resolve_right (fun h => hv ((tk_cat G).mp h))) (kk p l e s m args below meth c H locs la Z F hW hS hl hn hls (tk_okc (hst _ List.mem_cons_self) hst) hR)
theorem tr_dup2 {v w : tk_V} (hd : decode f.2.1 pc = .ok (.dup2, 1)) (hv : v.1 ≠ 1) (hw : w.1 ≠ 1) (kk : Ok G f (pc + 1) ls (v :: w :: v :: w :: st) S M k n Q) : Ok G f pc ls (v :: w :: st) S M k n Q := by
  intro p l e s m args below meth c H locs la Z F hW hS hl hn hls hst hR
  exact lv_dup2_11 F.1 F.2.1 hd ((lv_cat _).resolve_right (fun h => hv ((tk_cat G).mp h))) ((lv_cat _).resolve_right (fun h => hw ((tk_cat G).mp h))) (kk p l e s m args below meth c H locs la Z F hW hS hl hn hls (tk_okc (hst _ List.mem_cons_self) (tk_okc (hst _ (List.mem_cons_of_mem _ List.mem_cons_self)) hst)) hR)
theorem i32_div {x z : Int} (hx : tk_r32 x) (hz : tk_r32 z) (h0 : 0 ≤ x) (h1 : 0 < z) : Int32.ofInt x / Int32.ofInt z = Int32.ofInt (x / z) := by
  rw [← Int32.toInt_inj, Int32.toInt_div_of_ne_right, i32_to hx, i32_to hz, i32_to, Int.tdiv_eq_ediv_of_nonneg h0]
  · have h2 := Int.ediv_nonneg h0 (Int.le_of_lt h1)
    have h3 := Int.ediv_le_self z h0
    unfold tk_r32 at *; omega
  · intro h
    have h5 := congrArg Int32.toInt h
    rw [i32_to hz] at h5
    have h6 : (-1 : Int32).toInt = -1 := by decide
    omega
theorem i64_div {x z : Int} (hx : tk_r64 x) (hz : tk_r64 z) (h0 : 0 ≤ x) (h1 : 0 < z) : Int64.ofInt x / Int64.ofInt z = Int64.ofInt (x / z) := by
  rw [← Int64.toInt_inj, Int64.toInt_div_of_ne_right, i64_to hx, i64_to hz, i64_to, Int.tdiv_eq_ediv_of_nonneg h0]
  · have h2 := Int.ediv_nonneg h0 (Int.le_of_lt h1)
    have h3 := Int.ediv_le_self z h0
    unfold tk_r64 at *; omega
  · intro h
    have h5 := congrArg Int64.toInt h
    rw [i64_to hz] at h5
    have h6 : (-1 : Int64).toInt = -1 := by decide
    omega
theorem i32_ne0 {z : Int} (hz : tk_r32 z) (h1 : 0 < z) : ¬ Int32.ofInt z = 0 := fun h => by
  have h5 := congrArg Int32.toInt h
  rw [i32_to hz] at h5
  have h6 : (0 : Int32).toInt = 0 := by decide
  omega
theorem i64_ne0 {z : Int} (hz : tk_r64 z) (h1 : 0 < z) : ¬ Int64.ofInt z = 0 := fun h => by
  have h5 := congrArg Int64.toInt h
  rw [i64_to hz] at h5
  have h6 : (0 : Int64).toInt = 0 := by decide
  omega
theorem tr_idiv {x z : Int} (hd : decode f.2.1 pc = .ok (.idiv, 1)) (h0 : 0 ≤ x) (h1 : 0 < z) (kk : Ok G f (pc + 1) ls (xI (x / z) :: st) S M k n Q) : Ok G f pc ls (xI z :: xI x :: st) S M k n Q := by
  intro p l e s m args below meth c H locs la Z F hW hS hl hn hls hst hR
  have hz := tk_ok_I.mp (hst _ List.mem_cons_self)
  have hx := tk_ok_I.mp (hst _ (List.mem_cons_of_mem _ List.mem_cons_self))
  have hr : tk_r32 (x / z) := by
    have h2 := Int.ediv_nonneg h0 (Int.le_of_lt h1)
    have h3 := Int.ediv_le_self z h0
    unfold tk_r32 at *; omega
  have h := kk p l e s m args below meth c H locs la Z F hW hS hl hn hls (tk_okc (tk_ok_I.mpr hr) (tk_okt (tk_okt hst))) hR
  refine lv_idiv F.1 F.2.1 hd (i32_ne0 hz h1) ?_
  rw [i32_div hx hz h0 h1]; exact h
theorem tr_irem {x z : Int} (hd : decode f.2.1 pc = .ok (.irem, 1)) (h0 : 0 ≤ x) (h1 : 0 < z) (kk : Ok G f (pc + 1) ls (xI (x % z) :: st) S M k n Q) : Ok G f pc ls (xI z :: xI x :: st) S M k n Q := by
  intro p l e s m args below meth c H locs la Z F hW hS hl hn hls hst hR
  have hz := tk_ok_I.mp (hst _ List.mem_cons_self)
  have hx := tk_ok_I.mp (hst _ (List.mem_cons_of_mem _ List.mem_cons_self))
  have hr : tk_r32 (x % z) := by
    have h2 := Int.emod_nonneg x (Int.ne_of_gt h1)
    have h3 := Int.emod_lt_of_pos x h1
    unfold tk_r32 at *; omega
  have h := kk p l e s m args below meth c H locs la Z F hW hS hl hn hls (tk_okc (tk_ok_I.mpr hr) (tk_okt (tk_okt hst))) hR
  refine lv_irem F.1 F.2.1 hd (i32_ne0 hz h1) ?_
  rw [i32_div hx hz h0 h1, ← Int32.ofInt_mul, ← Int32.ofInt_sub, show x - x / z * z = x % z by rw [Int.emod_def, Int.mul_comm]]; exact h
theorem tr_ldiv {x z : Int} (hd : decode f.2.1 pc = .ok (.ldiv, 1)) (h0 : 0 ≤ x) (h1 : 0 < z) (kk : Ok G f (pc + 1) ls (xL (x / z) :: st) S M k n Q) : Ok G f pc ls (xL z :: xL x :: st) S M k n Q := by
  intro p l e s m args below meth c H locs la Z F hW hS hl hn hls hst hR
  have hz := tk_ok_L.mp (hst _ List.mem_cons_self)
  have hx := tk_ok_L.mp (hst _ (List.mem_cons_of_mem _ List.mem_cons_self))
  have hr : tk_r64 (x / z) := by
    have h2 := Int.ediv_nonneg h0 (Int.le_of_lt h1)
    have h3 := Int.ediv_le_self z h0
    unfold tk_r64 at *; omega
  have h := kk p l e s m args below meth c H locs la Z F hW hS hl hn hls (tk_okc (tk_ok_L.mpr hr) (tk_okt (tk_okt hst))) hR
  refine lv_ldiv F.1 F.2.1 hd (i64_ne0 hz h1) ?_
  rw [i64_div hx hz h0 h1]; exact h
theorem tr_lrem {x z : Int} (hd : decode f.2.1 pc = .ok (.lrem, 1)) (h0 : 0 ≤ x) (h1 : 0 < z) (kk : Ok G f (pc + 1) ls (xL (x % z) :: st) S M k n Q) : Ok G f pc ls (xL z :: xL x :: st) S M k n Q := by
  intro p l e s m args below meth c H locs la Z F hW hS hl hn hls hst hR
  have hz := tk_ok_L.mp (hst _ List.mem_cons_self)
  have hx := tk_ok_L.mp (hst _ (List.mem_cons_of_mem _ List.mem_cons_self))
  have hr : tk_r64 (x % z) := by
    have h2 := Int.emod_nonneg x (Int.ne_of_gt h1)
    have h3 := Int.emod_lt_of_pos x h1
    unfold tk_r64 at *; omega
  have h := kk p l e s m args below meth c H locs la Z F hW hS hl hn hls (tk_okc (tk_ok_L.mpr hr) (tk_okt (tk_okt hst))) hR
  refine lv_lrem F.1 F.2.1 hd (i64_ne0 hz h1) ?_
  rw [i64_div hx hz h0 h1, ← Int64.ofInt_mul, ← Int64.ofInt_sub, show x - x / z * z = x % z by rw [Int.emod_def, Int.mul_comm]]; exact h
theorem tr_ladd {x z : Int} (hd : decode f.2.1 pc = .ok (.ladd, 1)) (hr : tk_r64 (x + z)) (kk : Ok G f (pc + 1) ls (xL (x + z) :: st) S M k n Q) : Ok G f pc ls (xL z :: xL x :: st) S M k n Q := by
  intro p l e s m args below meth c H locs la Z F hW hS hl hn hls hst hR
  have h := kk p l e s m args below meth c H locs la Z F hW hS hl hn hls (tk_okc (tk_ok_L.mpr hr) (tk_okt (tk_okt hst))) hR
  refine lv_ladd F.1 F.2.1 hd ?_
  rw [← Int64.ofInt_add]; exact h
theorem tr_i2l {x : Int} (hd : decode f.2.1 pc = .ok (.i2l, 1)) (kk : Ok G f (pc + 1) ls (xL x :: st) S M k n Q) : Ok G f pc ls (xI x :: st) S M k n Q := by
  intro p l e s m args below meth c H locs la Z F hW hS hl hn hls hst hR
  have hx := tk_ok_I.mp (hst _ List.mem_cons_self)
  have hr : tk_r64 x := by unfold tk_r64; unfold tk_r32 at hx; omega
  exact lv_i2l F.1 F.2.1 hd (by rw [← Int64.toInt_inj, Int32.toInt_toInt64, i32_to hx, i64_to hr]) (kk p l e s m args below meth c H locs la Z F hW hS hl hn hls (tk_okc (tk_ok_L.mpr hr) (tk_okt hst)) hR)
theorem tk_bmod32 (x : Int) : tk_r32 (x.bmod (2 ^ 32)) := by
  have h1 := Int.le_bmod (x := x) (m := 2 ^ 32) (by decide)
  have h2 := Int.bmod_lt (x := x) (m := 2 ^ 32) (by decide)
  unfold tk_r32; omega
theorem tr_l2i {x : Int} (hd : decode f.2.1 pc = .ok (.l2i, 1)) (kk : Ok G f (pc + 1) ls (xI (x.bmod (2 ^ 32)) :: st) S M k n Q) : Ok G f pc ls (xL x :: st) S M k n Q := by
  intro p l e s m args below meth c H locs la Z F hW hS hl hn hls hst hR
  have hx := tk_ok_L.mp (hst _ List.mem_cons_self)
  exact lv_l2i F.1 F.2.1 hd (by rw [← Int32.toInt_inj, Int64.toInt_toInt32, i64_to hx, i32_to (tk_bmod32 x)]) (kk p l e s m args below meth c H locs la Z F hW hS hl hn hls (tk_okc (tk_ok_I.mpr (tk_bmod32 x)) (tk_okt hst)) hR)
theorem tk_bmod8 (x : Int) : tk_r32 (x.bmod (2 ^ 8)) := by
  have h1 := Int.le_bmod (x := x) (m := 2 ^ 8) (by decide)
  have h2 := Int.bmod_lt (x := x) (m := 2 ^ 8) (by decide)
  unfold tk_r32; omega
theorem tk_bmod16 (x : Int) : tk_r32 (x.bmod (2 ^ 16)) := by
  have h1 := Int.le_bmod (x := x) (m := 2 ^ 16) (by decide)
  have h2 := Int.bmod_lt (x := x) (m := 2 ^ 16) (by decide)
  unfold tk_r32; omega
theorem tr_i2b {x : Int} (hd : decode f.2.1 pc = .ok (.i2b, 1)) (kk : Ok G f (pc + 1) ls (xI (x.bmod (2 ^ 8)) :: st) S M k n Q) : Ok G f pc ls (xI x :: st) S M k n Q := by
  intro p l e s m args below meth c H locs la Z F hW hS hl hn hls hst hR
  have hx := tk_ok_I.mp (hst _ List.mem_cons_self)
  exact lv_i2b F.1 F.2.1 hd (by rw [← Int32.toInt_inj, Int8.toInt_toInt32, Int32.toInt_toInt8, i32_to hx, i32_to (tk_bmod8 x)]) (kk p l e s m args below meth c H locs la Z F hW hS hl hn hls (tk_okc (tk_ok_I.mpr (tk_bmod8 x)) (tk_okt hst)) hR)
theorem tr_i2s {x : Int} (hd : decode f.2.1 pc = .ok (.i2s, 1)) (kk : Ok G f (pc + 1) ls (xI (x.bmod (2 ^ 16)) :: st) S M k n Q) : Ok G f pc ls (xI x :: st) S M k n Q := by
  intro p l e s m args below meth c H locs la Z F hW hS hl hn hls hst hR
  have hx := tk_ok_I.mp (hst _ List.mem_cons_self)
  exact lv_i2s F.1 F.2.1 hd (by rw [← Int32.toInt_inj, Int16.toInt_toInt32, Int32.toInt_toInt16, i32_to hx, i32_to (tk_bmod16 x)]) (kk p l e s m args below meth c H locs la Z F hW hS hl hn hls (tk_okc (tk_ok_I.mpr (tk_bmod16 x)) (tk_okt hst)) hR)
/-- the law's own bits: any number will do, if it is the same one -/
def tk_iand (x z : Int) : Int := (Int32.ofInt x &&& Int32.ofInt z).toInt
def tk_land (x z : Int) : Int := (Int64.ofInt x &&& Int64.ofInt z).toInt
def tk_lor (x z : Int) : Int := (Int64.ofInt x ||| Int64.ofInt z).toInt
def tk_lshl (x z : Int) : Int := (Int64.ofInt x <<< ((Int32.ofInt z).toInt64 &&& 63)).toInt
theorem tk_r32_of (x : Int32) : tk_r32 x.toInt := by have h1 := Int32.le_toInt x; have h2 := Int32.toInt_lt x; unfold tk_r32; omega
theorem tk_r64_of (x : Int64) : tk_r64 x.toInt := by have h1 := Int64.le_toInt x; have h2 := Int64.toInt_lt x; unfold tk_r64; omega
theorem tr_iand {x z : Int} (hd : decode f.2.1 pc = .ok (.iand, 1)) (kk : Ok G f (pc + 1) ls (xI (tk_iand x z) :: st) S M k n Q) : Ok G f pc ls (xI z :: xI x :: st) S M k n Q := by
  intro p l e s m args below meth c H locs la Z F hW hS hl hn hls hst hR
  have h := kk p l e s m args below meth c H locs la Z F hW hS hl hn hls (tk_okc (tk_ok_I.mpr (tk_r32_of _)) (tk_okt (tk_okt hst))) hR
  refine lv_iand F.1 F.2.1 hd ?_
  rw [← Int32.ofInt_toInt (Int32.ofInt x &&& Int32.ofInt z)]; exact h
theorem tr_land {x z : Int} (hd : decode f.2.1 pc = .ok (.land, 1)) (kk : Ok G f (pc + 1) ls (xL (tk_land x z) :: st) S M k n Q) : Ok G f pc ls (xL z :: xL x :: st) S M k n Q := by
  intro p l e s m args below meth c H locs la Z F hW hS hl hn hls hst hR
  have h := kk p l e s m args below meth c H locs la Z F hW hS hl hn hls (tk_okc (tk_ok_L.mpr (tk_r64_of _)) (tk_okt (tk_okt hst))) hR
  refine lv_land F.1 F.2.1 hd ?_
  rw [← Int64.ofInt_toInt (Int64.ofInt x &&& Int64.ofInt z)]; exact h
theorem tr_lor {x z : Int} (hd : decode f.2.1 pc = .ok (.lor, 1)) (kk : Ok G f (pc + 1) ls (xL (tk_lor x z) :: st) S M k n Q) : Ok G f pc ls (xL z :: xL x :: st) S M k n Q := by
  intro p l e s m args below meth c H locs la Z F hW hS hl hn hls hst hR
  have h := kk p l e s m args below meth c H locs la Z F hW hS hl hn hls (tk_okc (tk_ok_L.mpr (tk_r64_of _)) (tk_okt (tk_okt hst))) hR
  refine lv_lor F.1 F.2.1 hd ?_
  rw [← Int64.ofInt_toInt (Int64.ofInt x ||| Int64.ofInt z)]; exact h
theorem tr_lshl {x z : Int} (hd : decode f.2.1 pc = .ok (.lshl, 1)) (kk : Ok G f (pc + 1) ls (xL (tk_lshl x z) :: st) S M k n Q) : Ok G f pc ls (xI z :: xL x :: st) S M k n Q := by
  intro p l e s m args below meth c H locs la Z F hW hS hl hn hls hst hR
  have h := kk p l e s m args below meth c H locs la Z F hW hS hl hn hls (tk_okc (tk_ok_L.mpr (tk_r64_of _)) (tk_okt (tk_okt hst))) hR
  refine lv_lshl F.1 F.2.1 hd rfl ?_
  rw [← Int64.ofInt_toInt (Int64.ofInt x <<< ((Int32.ofInt z).toInt64 &&& 63))]; exact h
def tk_cmp (x z : Int) : Int := if z < x then 1 else if x = z then 0 else -1
theorem tr_lcmp {x z : Int} (hd : decode f.2.1 pc = .ok (.lcmp, 1)) (kk : Ok G f (pc + 1) ls (xI (tk_cmp x z) :: st) S M k n Q) : Ok G f pc ls (xL z :: xL x :: st) S M k n Q := by
  intro p l e s m args below meth c H locs la Z F hW hS hl hn hls hst hR
  have hz := tk_ok_L.mp (hst _ List.mem_cons_self)
  have hx := tk_ok_L.mp (hst _ (List.mem_cons_of_mem _ List.mem_cons_self))
  have hr : tk_r32 (tk_cmp x z) := by unfold tk_cmp tk_r32; split <;> (try split) <;> omega
  have h := kk p l e s m args below meth c H locs la Z F hW hS hl hn hls (tk_okc (tk_ok_I.mpr hr) (tk_okt (tk_okt hst))) hR
  refine W.lcmp F.1 F.2.1 hd ?_
  have h2 : lg_cmp (Int64.ofInt x) (Int64.ofInt z) = Int32.ofInt (tk_cmp x z) := by
    unfold lg_cmp tk_cmp
    simp only [gt_iff_lt, Int64.lt_iff_toInt_lt, ← Int64.toInt_inj, i64_to hz, i64_to hx]
    split
    · rfl
    · split <;> rfl
  rw [h2]; exact h
theorem tr_table_in {x dflt lo hi off : Int} {offs : Array Int} {len tgt : Nat} (hd : decode f.2.1 pc = .ok (.tableswitch dflt lo hi offs, len)) (h1 : ¬ x < lo) (h2 : ¬ hi < x) (ho : offs[(x - lo).toNat]? = some off) (ht : (pc : Int) + off = (tgt : Int)) (kk : Ok G f tgt ls st S M k n Q) : Ok G f pc ls (xI x :: st) S M k n Q := by
  intro p l e s m args below meth c H locs la Z F hW hS hl hn hls hst hR
  have hx := tk_ok_I.mp (hst _ List.mem_cons_self)
  exact lv_tableIn F.1 F.2.1 hd (by rw [i32_to hx]; exact h1) (by rw [i32_to hx]; exact h2) (by rw [i32_to hx]; exact ho) ht (kk p l e s m args below meth c H locs la Z F hW hS hl hn hls (tk_okt hst) hR)
theorem tr_table_out {x dflt lo hi : Int} {offs : Array Int} {len tgt : Nat} (hd : decode f.2.1 pc = .ok (.tableswitch dflt lo hi offs, len)) (h : x < lo ∨ hi < x) (ht : (pc : Int) + dflt = (tgt : Int)) (kk : Ok G f tgt ls st S M k n Q) : Ok G f pc ls (xI x :: st) S M k n Q := by
  intro p l e s m args below meth c H locs la Z F hW hS hl hn hls hst hR
  have hx := tk_ok_I.mp (hst _ List.mem_cons_self)
  exact lv_tableOut F.1 F.2.1 hd (by rw [i32_to hx]; exact h) ht (kk p l e s m args below meth c H locs la Z F hW hS hl hn hls (tk_okt hst) hR)
theorem tr_lookup {x dflt off : Int} {ps : Array (Int × Int)} {len tgt : Nat} (hd : decode f.2.1 pc = .ok (.lookupswitch dflt ps, len)) (hp : (ps.toList.zip (ps.toList.drop 1)).all (fun (a, next) => a.1 < next.1) = true) (ho : Op.lookupswitch.offset ps.toList dflt x = off) (ht : (pc : Int) + off = (tgt : Int)) (kk : Ok G f tgt ls st S M k n Q) : Ok G f pc ls (xI x :: st) S M k n Q := by
  intro p l e s m args below meth c H locs la Z F hW hS hl hn hls hst hR
  have hx := tk_ok_I.mp (hst _ List.mem_cons_self)
  exact lv_lookup F.1 F.2.1 hd hp (by rw [i32_to hx]; exact ho) ht (kk p l e s m args below meth c H locs la Z F hW hS hl hn hls (tk_okt hst) hR)
end TkRows2
