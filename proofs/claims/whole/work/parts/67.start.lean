/-! ===== the law's start: both constructors, then the loop ===== -/
theorem tk_M0_mok {S : tk_S} : tk_mok S (fun _ _ => 0) := fun c q _ i _ => by
  unfold tk_rng
  split
  · show -9223372036854775808 ≤ (0 : Int) ∧ (0 : Int) ≤ 9223372036854775807; omega
  · show -2147483648 ≤ (0 : Int) ∧ (0 : Int) ≤ 2147483647; omega
theorem jr_nil : jr_ok ([], [], []) := ⟨fun q hq => absurd hq List.not_mem_nil, fun q hq => absurd hq List.not_mem_nil, fun q hq => absurd hq List.not_mem_nil⟩
theorem cnd_nil : cnd ([], [], []) := ⟨List.nodup_nil, List.nodup_nil, fun q hq => absurd hq List.not_mem_nil⟩
def lw_M1 : tk_M := tk_mu (tk_mu (tk_mu (tk_mu (tk_mu (tk_mu (tk_mu (tk_mu (tk_mu (tk_mu (tk_mu (tk_mu (fun _ _ => 0) 8 0 4) 12 0 8) 16 0 8) 27 0 4) 31 0 8) 35 0 8) 75 1 (-1)) 77 1 (-1)) 79 1 (-1)) 81 1 (-1)) 83 1 (-1)) 85 1 (-1)
def lw_M2 : tk_M := tk_mu (tk_mu (tk_mu (tk_mu (tk_mu (tk_mu lw_M1 126 0 (-1)) 126 1 (-1)) 126 2 (-1)) 126 3 (-1)) 126 4 (-1)) 126 5 (-1)
theorem lw_M1_z : Zm lw_M1 101 := by
  unfold lw_M1
  exact ((((((((((((show Zm (fun _ _ => 0) 101 from fun _ _ _ => rfl).mu (by decide)).mu (by decide)).mu (by decide)).mu (by decide)).mu (by decide)).mu (by decide)).mu (by decide)).mu (by decide)).mu (by decide)).mu (by decide)).mu (by decide)).mu (by decide)
theorem lw_jj : JJ lw_M2 := by
  have t6 : ∀ t : Int, 0 ≤ t → t < 6 → t = 0 ∨ t = 1 ∨ t = 2 ∨ t = 3 ∨ t = 4 ∨ t = 5 := fun t h0 h1 => by omega
  refine ⟨(([], [], []), ([], [], []), (([], [], [], [], []), 0), (fun _ => 0, 0), (fun _ => -1, fun _ => 0, fun _ _ => 0)), ⟨cnd_nil, jr_nil, ⟨⟨List.nodup_nil, List.nodup_nil, jr_nil⟩, Or.inl rfl⟩, ⟨⟨by decide, by decide⟩, fun i i0 i1 => ?_⟩, fun t t0 t1 => ?_⟩, ?_, ?_⟩
  · have i1 : i < 0 := i1
    omega
  · show (-1 ≤ (-1 : Int) ∧ (-1 : Int) ≤ 4) ∧ (0 ≤ (0 : Int) ∧ (0 : Int) ≤ 60) ∧ ((-1 : Int) = -1 → (0 : Int) = 0)
    omega
  · refine ⟨⟨⟨rfl, by decide⟩, ⟨rfl, by decide⟩, by decide, by decide, rfl, by decide, fun j q hq => by simp at hq⟩, ⟨⟨rfl, by decide, rfl⟩, ⟨rfl, by decide, rfl⟩, ⟨rfl, by decide, rfl⟩⟩, ⟨⟨⟨rfl, by decide⟩, ⟨rfl, by decide⟩, ⟨rfl, by decide, rfl⟩, ⟨rfl, by decide, rfl⟩, ⟨rfl, by decide, rfl⟩⟩, rfl⟩, ⟨rfl, fun i i0 i1 => ?_⟩, fun t t0 t1 => ⟨?_, fun i i0 i1 => ?_⟩⟩
    · have i1 : i < 0 := i1
      omega
    · rcases t6 t t0 t1 with rfl | rfl | rfl | rfl | rfl | rfl <;> exact ⟨rfl, rfl⟩
    · have i1 : i < 0 := i1
      omega
  · refine ⟨⟨⟨rfl, by decide⟩, ⟨rfl, by decide⟩, rfl, by decide, fun j q hq => by simp at hq⟩, ⟨⟨rfl, by decide⟩, ⟨rfl, by decide⟩, ⟨rfl, by decide⟩⟩, ⟨⟨⟨rfl, by decide⟩, ⟨rfl, by decide⟩, ⟨rfl, by decide⟩, ⟨rfl, by decide⟩, ⟨rfl, by decide⟩⟩, rfl⟩, ⟨rfl, fun i i0 i1 => ?_⟩, fun t t0 t1 => ⟨?_, fun i i0 i1 => ?_⟩⟩
    · have i1 : i < 0 := i1
      omega
    · rcases t6 t t0 t1 with rfl | rfl | rfl | rfl | rfl | rfl <;> exact ⟨rfl, rfl⟩
    · have i1 : i < 0 := i1
      omega
def lw_S1 : tk_S := [(9, 11, [1, 20, -1, 39, 72, 74, 87, 90, 94, 97, 99]), (8, 5, [2, 5, 8, 12, 16]), (3, 3, [3, 4, -1]), (20, 6, []), (20, 6, []), (3, 3, [6, 7, -1]), (20, 6, []), (20, 6, []), (5, 5, [-1, 9, 10, 11, -1]), (20, 4, []), (20, 4, []), (20, 4, []), (5, 5, [-1, 13, 14, 15, -1]), (20, 8, []), (20, 8, []), (20, 8, []), (5, 5, [-1, 17, 18, 19, -1]), (20, 8, []), (20, 8, []), (20, 8, []), (8, 5, [21, 24, 27, 31, 35]), (3, 3, [22, 23, -1]), (20, 6, []), (20, 6, []), (3, 3, [25, 26, -1]), (20, 6, []), (20, 6, []), (5, 5, [-1, 28, 29, 30, -1]), (20, 4, []), (20, 4, []), (20, 4, []), (5, 5, [-1, 32, 33, 34, -1]), (20, 8, []), (20, 8, []), (20, 8, []), (5, 5, [-1, 36, 37, 38, -1]), (20, 8, []), (20, 8, []), (20, 8, []), (0, 4, [40, 71, -1, -1]), (23, 10, [41, 44, 47, 50, 53, 56, 59, 62, 65, 68]), (3, 3, [42, 43, -1]), (20, 6, []), (20, 6, []), (3, 3, [45, 46, -1]), (20, 6, []), (20, 6, []), (3, 3, [48, 49, -1]), (20, 6, []), (20, 6, []), (3, 3, [51, 52, -1]), (20, 6, []), (20, 6, []), (3, 3, [54, 55, -1]), (20, 6, []), (20, 6, []), (3, 3, [57, 58, -1]), (20, 6, []), (20, 6, []), (3, 3, [60, 61, -1]), (20, 6, []), (20, 6, []), (3, 3, [63, 64, -1]), (20, 6, []), (20, 6, []), (3, 3, [66, 67, -1]), (20, 6, []), (20, 6, []), (3, 3, [69, 70, -1]), (20, 6, []), (20, 6, []), (20, 10, []), (7, 2, [73, -1]), (22, 100, []), (24, 6, [75, 77, 79, 81, 83, 85]), (6, 3, [76, -1, -1]), (21, 60, []), (6, 3, [78, -1, -1]), (21, 60, []), (6, 3, [80, -1, -1]), (21, 60, []), (6, 3, [82, -1, -1]), (21, 60, []), (6, 3, [84, -1, -1]), (21, 60, []), (6, 3, [86, -1, -1]), (21, 60, []), (3, 3, [88, 89, -1]), (20, 6, []), (20, 6, []), (2, 4, [91, 92, 93, -1]), (20, 7, []), (20, 7, []), (20, 7, []), (4, 3, [95, 96, -1]), (20, 100, []), (20, 100, []), (1, 1, [98]), (20, 61, []), (1, 1, [100]), (20, 61, [])]
theorem lw_begin {nm : String} {G : tk_G} {Q : tk_V → tk_S → tk_M → Prop} (hG : gs_ok G) (hL : ((G.2.2.2.2 (Int.toNat 0)).length : Int) < 2 ^ 31) (hQ : ∀ M, Q (xI 1) SF M) : Ok G (FLn nm) 0 [xS 0, xU, xU, xU] [] ([] ++ []) (fun _ _ => 0) 0 0 Q := by
  have hz : Zm (fun _ _ => 0) 0 := fun _ _ _ => rfl
  refine tr_newA (pc := 0) (c := 0) (m0 := 0) dL_law_0 nwL_7 rfl rfl rfl hz ⟨(Nat.le_of_ble_eq_true rfl), (Nat.le_of_ble_eq_true rfl)⟩ ?_
  refine tr_dup (pc := 3) dL_law_3 (fun h => by cases h) ?_
  refine tr_initA (pc := 4) (args := []) (c := 0) dL_law_4 mtX9_init liL_9 rfl ⟨rfl, rfl⟩ (by decide) ⟨(Nat.le_of_ble_eq_true rfl), (Nat.le_of_ble_eq_true rfl)⟩ rfl (Nat.le_of_ble_eq_true rfl) ⟨(Nat.le_of_ble_eq_true rfl), (Nat.le_of_ble_eq_true rfl)⟩ (sp_X9_init (A := [] ++ []) (n := 0) (c1 := 1) (c2 := 2) (c3 := 3) (c4 := 4) (c5 := 5) (c6 := 6) (c7 := 7) (c8 := 8) (c9 := 9) (c10 := 10) (c11 := 11) (c12 := 12) (c13 := 13) (c14 := 14) (c15 := 15) (c16 := 16) (c17 := 17) (c18 := 18) (c19 := 19) (c20 := 20) (c21 := 21) (c22 := 22) (c23 := 23) (c24 := 24) (c25 := 25) (c26 := 26) (c27 := 27) (c28 := 28) (c29 := 29) (c30 := 30) (c31 := 31) (c32 := 32) (c33 := 33) (c34 := 34) (c35 := 35) (c36 := 36) (c37 := 37) (c38 := 38) (c39 := 39) (c40 := 40) (c41 := 41) (c42 := 42) (c43 := 43) (c44 := 44) (c45 := 45) (c46 := 46) (c47 := 47) (c48 := 48) (c49 := 49) (c50 := 50) (c51 := 51) (c52 := 52) (c53 := 53) (c54 := 54) (c55 := 55) (c56 := 56) (c57 := 57) (c58 := 58) (c59 := 59) (c60 := 60) (c61 := 61) (c62 := 62) (c63 := 63) (c64 := 64) (c65 := 65) (c66 := 66) (c67 := 67) (c68 := 68) (c69 := 69) (c70 := 70) (c71 := 71) (c72 := 72) (c73 := 73) (c74 := 74) (c75 := 75) (c76 := 76) (c77 := 77) (c78 := 78) (c79 := 79) (c80 := 80) (c81 := 81) (c82 := 82) (c83 := 83) (c84 := 84) (c85 := 85) (c86 := 86) (c87 := 87) (c88 := 88) (c89 := 89) (c90 := 90) (c91 := 91) (c92 := 92) (c93 := 93) (c94 := 94) (c95 := 95) (c96 := 96) (c97 := 97) (c98 := 98) (c99 := 99) (c100 := 100) rfl hz (by omega) (by omega) (by omega) (by omega) (by omega) (by omega) (by omega) (by omega) (by omega) (by omega) (by omega) (by omega) (by omega) (by omega) (by omega) (by omega) (by omega) (by omega) (by omega) (by omega) (by omega) (by omega) (by omega) (by omega) (by omega) (by omega) (by omega) (by omega) (by omega) (by omega) (by omega) (by omega) (by omega) (by omega) (by omega) (by omega) (by omega) (by omega) (by omega) (by omega) (by omega) (by omega) (by omega) (by omega) (by omega) (by omega) (by omega) (by omega) (by omega) (by omega) (by omega) (by omega) (by omega) (by omega) (by omega) (by omega) (by omega) (by omega) (by omega) (by omega) (by omega) (by omega) (by omega) (by omega) (by omega) (by omega) (by omega) (by omega) (by omega) (by omega) (by omega) (by omega) (by omega) (by omega) (by omega) (by omega) (by omega) (by omega) (by omega) (by omega) (by omega) (by omega) (by omega) (by omega) (by omega) (by omega) (by omega) (by omega) (by omega) (by omega) (by omega) (by omega) (by omega) (by omega) (by omega) (by omega) (by omega) (by omega) (by omega) (by omega)) ?_
  refine tr_shv (S' := lw_S1 ++ []) rfl ?_
  show Ok G (FLn nm) 7 [xS 0, xU, xU, xU] [xR 0] (lw_S1 ++ []) lw_M1 101 1282 Q
  refine tr_astore_n (pc := 7) dL_law_7 rfl (Nat.le_of_ble_eq_true rfl) (by decide) ?_
  dsimp only [List.set]
  refine tr_newA (pc := 8) (c := 101) (m0 := 101) dL_law_8 nwL_10 rfl rfl rfl lw_M1_z ⟨(Nat.le_of_ble_eq_true rfl), (Nat.le_of_ble_eq_true rfl)⟩ ?_
  refine tr_dup (pc := 11) dL_law_11 (fun h => by cases h) ?_
  refine tr_initA (pc := 12) (args := []) (c := 101) dL_law_12 mtX10_init liL_12 rfl ⟨rfl, rfl⟩ (by decide) ⟨(Nat.le_of_ble_eq_true rfl), (Nat.le_of_ble_eq_true rfl)⟩ rfl (Nat.le_of_ble_eq_true rfl) ⟨(Nat.le_of_ble_eq_true rfl), (Nat.le_of_ble_eq_true rfl)⟩ (sp_X10_init (A := lw_S1 ++ []) (n := 101) (c1 := 102) (c2 := 103) (c3 := 104) (c4 := 105) (c5 := 106) (c6 := 107) (c7 := 108) (c8 := 109) (c9 := 110) (c10 := 111) (c11 := 112) (c12 := 113) (c13 := 114) (c14 := 115) (c15 := 116) (c16 := 117) (c17 := 118) (c18 := 119) (c19 := 120) (c20 := 121) (c21 := 122) (c22 := 123) (c23 := 124) (c24 := 125) (c25 := 126) (c26 := 127) (c27 := 128) (c28 := 129) (c29 := 130) (c30 := 131) (c31 := 132) (c32 := 133) (c33 := 134) (c34 := 135) rfl lw_M1_z (by omega) (by omega) (by omega) (by omega) (by omega) (by omega) (by omega) (by omega) (by omega) (by omega) (by omega) (by omega) (by omega) (by omega) (by omega) (by omega) (by omega) (by omega) (by omega) (by omega) (by omega) (by omega) (by omega) (by omega) (by omega) (by omega) (by omega) (by omega) (by omega) (by omega) (by omega) (by omega) (by omega) (by omega)) ?_
  refine tr_shv (S' := SF) rfl ?_
  show Ok G (FLn nm) 15 [xS 0, xR 0, xU, xU] [xR 101] SF lw_M2 136 5328 Q
  refine tr_astore_n (pc := 15) dL_law_15 rfl (Nat.le_of_ble_eq_true rfl) (by decide) ?_
  dsimp only [List.set]
  refine tr_iconst (pc := 16) dL_law_16 ⟨by decide, by decide⟩ ?_
  refine tr_istore_n (pc := 17) dL_law_17 rfl (Nat.le_of_ble_eq_true rfl) ?_
  dsimp only [List.set]
  exact lw_loop hG hL hQ (G.2.2.2.2 (Int.toNat 0)).length 0 lw_M2 (by decide) (by omega) (by decide) lw_jj
