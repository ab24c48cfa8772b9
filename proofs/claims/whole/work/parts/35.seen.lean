/-- SEEN, EVENTS, the BOOK as they are told -/
def sn_ok (l : List (Int × Int × Int)) : Prop := ∀ q ∈ l, (0 ≤ q.1 ∧ q.1 ≤ 99) ∧ (1 ≤ q.2.1 ∧ q.2.1 ≤ 99) ∧ (1 ≤ q.2.2 ∧ q.2.2 ≤ 99)
def en_ok (l : List (Int × Int × Int)) : Prop := ∀ q ∈ l, ev_ok q.1 q.2.1
def bk_ok (l : List (Int × Int × Int)) : Prop := ∀ q ∈ l, (0 ≤ q.1 ∧ q.1 ≤ 99) ∧ (0 ≤ q.2.1 ∧ q.2.1 ≤ 1)
def sA (J : List (Int × Int)) : List (Int × Int × Int) → Int
  | [] => 1
  | (i, n, d) :: t => if (J.length : Int) ≤ i ∨ (gp J i).1 * d ≠ n * (gp J i).2 then 0 else sA J t
def x_seen (l : List (Int × Int × Int)) (g : List (Int × Int)) : Int := if l.length = 0 then 1 else if g.length = 0 then 0 else sA (jr_ga (hl_fc g) 100 0 []) l
theorem jr_gp {M : tk_M} {J : List (Int × Int)} {j : Int} (hJ : jr_at M J) (h0 : 0 ≤ j) (h1 : j < M 94 2) : gp J j = (M 95 j, M 96 j) := by
  obtain ⟨gj, -⟩ := jr_seg_get J 0 j hJ.1 h0 h1
  rw [Int.sub_zero] at gj
  unfold gp; rw [List.getD_eq_getElem?_getD, gj]; rfl
theorem sp_X9_isAsSeen {G : tk_G} {M : tk_M} {r : Int} {g : List (Int × Int)} {l : List (Int × Int × Int)} (hG : gs_ok G) (hr : ig_s r) (hap : r + 3 ≤ 90) (hg : ig_at M r g) (hl : rw_at M 8 4 l) (hok : sn_ok l) : Spi G FX9_isAsSeen [xR 0, xR r] SF M (fun v M' => v = x_seen l g ∧ tk_fr M M' 90 97) := by
  have r0 := hr.1
  have hrq := hr.2.1
  have hln := hl.len
  have hgl := hg.len
  refine Spi.of _ mtX9_isAsSeen nlX9_isAsSeen (Nat.le_of_ble_eq_true rfl) ?_
  show Ok G FX9_isAsSeen 0 [xR 0, xR r, xU, xU, xU] [] SF M 0 0 _
  unfold x_seen
  have loop : ∀ (J : List (Int × Int)) (M1 : tk_M), jr_at M1 J → rw_at M1 8 4 l → ∀ (t : List (Int × Int × Int)) (k : Int) (v4 : tk_V), 0 ≤ k → sn_ok t → rw_seg (M1 9) (M1 10) (M1 11) (M1 8 4) k t → Ok G FX9_isAsSeen 32 [xR 0, xR r, xI (J.length : Int), xI k, v4] [] SF M1 0 0 (tk_qi SF (fun v M' => v = sA J t ∧ M' = M1)) := by
    intro J M1 hJ hl1 t
    have hjl := hJ.len
    have hl4 := hl1.2.1
    induction t with
    | nil =>
      intro k v4 hk hsn hs
      have hs : k = M1 8 4 := hs
      refine tr_iload_n (pc := 32) dX9_isAsSeen_32 rfl ?_
      refine tr_aload_n (pc := 33) dX9_isAsSeen_33 rfl (by decide) ?_
      refine tr_getr (pc := 34) (x := 1) dX9_isAsSeen_34 fi9_12 rfl sg0 rfl ?_
      refine tr_getr (pc := 37) (x := 8) dX9_isAsSeen_37 fi9_273 rfl sg1 rfl ?_
      refine tr_cVi0 (pc := 40) dX9_isAsSeen_40 mtX5_size lv9_295 rfl sg8 kc5 ⟨(Nat.le_of_ble_eq_true rfl), (Nat.le_of_ble_eq_true rfl)⟩ nlX5_size (Nat.le_of_ble_eq_true rfl) ⟨(Nat.le_of_ble_eq_true rfl), (Nat.le_of_ble_eq_true rfl)⟩ (sp_X5_size rw_s8) (fun r40 M40 h40 => ?_)
      obtain ⟨hr40, hM40⟩ := h40
      obtain rfl := hr40.symm
      obtain rfl := hM40.symm
      refine tr_icmpge (pc := 43) (tgt := 107) dX9_isAsSeen_43 (by decide) (fun c43 => ?_) (fun c43 => absurd c43 (by omega))
      refine tr_iconst (pc := 107) dX9_isAsSeen_107 ⟨by decide, by decide⟩ ?_
      refine tr_iretz (pc := 108) dX9_isAsSeen_108 rfl (by omega) ?_
      exact ⟨rfl, rfl⟩
    | cons q t ih =>
      intro k v4 hk hsn hs
      obtain ⟨i, n, d⟩ := q
      obtain ⟨e1, e2, e3, hlt, hs⟩ := hs
      have hq : (0 ≤ i ∧ i ≤ 99) ∧ (1 ≤ n ∧ n ≤ 99) ∧ (1 ≤ d ∧ d ≤ 99) := hsn (i, n, d) List.mem_cons_self
      refine tr_iload_n (pc := 32) dX9_isAsSeen_32 rfl ?_
      refine tr_aload_n (pc := 33) dX9_isAsSeen_33 rfl (by decide) ?_
      refine tr_getr (pc := 34) (x := 1) dX9_isAsSeen_34 fi9_12 rfl sg0 rfl ?_
      refine tr_getr (pc := 37) (x := 8) dX9_isAsSeen_37 fi9_273 rfl sg1 rfl ?_
      refine tr_cVi0 (pc := 40) dX9_isAsSeen_40 mtX5_size lv9_295 rfl sg8 kc5 ⟨(Nat.le_of_ble_eq_true rfl), (Nat.le_of_ble_eq_true rfl)⟩ nlX5_size (Nat.le_of_ble_eq_true rfl) ⟨(Nat.le_of_ble_eq_true rfl), (Nat.le_of_ble_eq_true rfl)⟩ (sp_X5_size rw_s8) (fun r40 M40 h40 => ?_)
      obtain ⟨hr40, hM40⟩ := h40
      obtain rfl := hr40.symm
      obtain rfl := hM40.symm
      refine tr_icmpge (pc := 43) (tgt := 107) dX9_isAsSeen_43 (by decide) (fun c43 => absurd c43 (by omega)) (fun c43 => ?_)
      refine tr_aload_n (pc := 46) dX9_isAsSeen_46 rfl (by decide) ?_
      refine tr_getr (pc := 47) (x := 1) dX9_isAsSeen_47 fi9_12 rfl sg0 rfl ?_
      refine tr_getr (pc := 50) (x := 8) dX9_isAsSeen_50 fi9_273 rfl sg1 rfl ?_
      refine tr_iload_n (pc := 53) dX9_isAsSeen_53 rfl ?_
      refine tr_cVi1 (pc := 54) dX9_isAsSeen_54 mtX5_first lv9_296 rfl sg8 kc5 ⟨(Nat.le_of_ble_eq_true rfl), (Nat.le_of_ble_eq_true rfl)⟩ nlX5_first (Nat.le_of_ble_eq_true rfl) ⟨(Nat.le_of_ble_eq_true rfl), (Nat.le_of_ble_eq_true rfl)⟩ (sp_X5_first rw_s8 hl4 hk hlt) (fun r54 M54 h54 => ?_)
      obtain ⟨hr54, hM54⟩ := h54
      replace hr54 : r54 = i := hr54.trans e1
      obtain rfl := hr54.symm
      obtain rfl := hM54.symm
      refine tr_istore (pc := 57) dX9_isAsSeen_57 rfl (Nat.le_of_ble_eq_true rfl) ?_
      dsimp only [List.set]
      refine tr_iload (pc := 59) dX9_isAsSeen_59 rfl ?_
      refine tr_iload_n (pc := 61) dX9_isAsSeen_61 rfl ?_
      refine tr_icmpge (pc := 62) (tgt := 99) dX9_isAsSeen_62 (by decide) (fun c62 => ?_) (fun c62 => ?_)
      · skip
        refine tr_iconst (pc := 99) dX9_isAsSeen_99 ⟨by decide, by decide⟩ ?_
        refine tr_iretz (pc := 100) dX9_isAsSeen_100 rfl (by omega) ?_
        refine ⟨?_, rfl⟩
        unfold sA
        first
        | rw [if_pos (Or.inl (by omega))]
        | rw [hgj, if_pos (show (J.length : Int) ≤ i ∨ M1 95 i * d ≠ n * M1 96 i by omega)]
      · skip
        have hgj := jr_gp (j := i) hJ (by omega) (by omega)
        refine tr_aload_n (pc := 65) dX9_isAsSeen_65 rfl (by decide) ?_
        refine tr_getr (pc := 66) (x := 94) dX9_isAsSeen_66 fi9_63 rfl sg0 rfl ?_
        refine tr_iload (pc := 69) dX9_isAsSeen_69 rfl ?_
        refine tr_aload_n (pc := 71) dX9_isAsSeen_71 rfl (by decide) ?_
        refine tr_getr (pc := 72) (x := 1) dX9_isAsSeen_72 fi9_12 rfl sg0 rfl ?_
        refine tr_getr (pc := 75) (x := 8) dX9_isAsSeen_75 fi9_273 rfl sg1 rfl ?_
        refine tr_iload_n (pc := 78) dX9_isAsSeen_78 rfl ?_
        refine tr_cVi1 (pc := 79) dX9_isAsSeen_79 mtX5_second lv9_299 rfl sg8 kc5 ⟨(Nat.le_of_ble_eq_true rfl), (Nat.le_of_ble_eq_true rfl)⟩ nlX5_second (Nat.le_of_ble_eq_true rfl) ⟨(Nat.le_of_ble_eq_true rfl), (Nat.le_of_ble_eq_true rfl)⟩ (sp_X5_second rw_s8 hl4 hk hlt) (fun r79 M79 h79 => ?_)
        obtain ⟨hr79, hM79⟩ := h79
        replace hr79 : r79 = n := hr79.trans e2
        obtain rfl := hr79.symm
        obtain rfl := hM79.symm
        refine tr_aload_n (pc := 82) dX9_isAsSeen_82 rfl (by decide) ?_
        refine tr_getr (pc := 83) (x := 1) dX9_isAsSeen_83 fi9_12 rfl sg0 rfl ?_
        refine tr_getr (pc := 86) (x := 8) dX9_isAsSeen_86 fi9_273 rfl sg1 rfl ?_
        refine tr_iload_n (pc := 89) dX9_isAsSeen_89 rfl ?_
        refine tr_cVi1 (pc := 90) dX9_isAsSeen_90 mtX5_third lv9_361 rfl sg8 kc5 ⟨(Nat.le_of_ble_eq_true rfl), (Nat.le_of_ble_eq_true rfl)⟩ nlX5_third (Nat.le_of_ble_eq_true rfl) ⟨(Nat.le_of_ble_eq_true rfl), (Nat.le_of_ble_eq_true rfl)⟩ (sp_X5_third rw_s8 hl4 hk hlt) (fun r90 M90 h90 => ?_)
        obtain ⟨hr90, hM90⟩ := h90
        replace hr90 : r90 = d := hr90.trans e3
        obtain rfl := hr90.symm
        obtain rfl := hM90.symm
        refine tr_cVi3 (pc := 93) dX9_isAsSeen_93 mtX4_compare lv9_364 rfl sg94 kc4 ⟨(Nat.le_of_ble_eq_true rfl), (Nat.le_of_ble_eq_true rfl)⟩ nlX4_compare (Nat.le_of_ble_eq_true rfl) ⟨(Nat.le_of_ble_eq_true rfl), (Nat.le_of_ble_eq_true rfl)⟩ (sp_X4_compare hJ (by omega) (by omega) (by omega) (by omega)) (fun r93 M93 h93 => ?_)
        obtain ⟨hr93, hM93⟩ := h93
        obtain rfl := hr93.symm
        obtain rfl := hM93.symm
        refine tr_ifeq (pc := 96) (tgt := 101) dX9_isAsSeen_96 (by decide) (fun c96 => ?_) (fun c96 => ?_)
        · skip
          refine tr_iinc (pc := 101) dX9_isAsSeen_101 rfl rfl ⟨by omega, by omega⟩ ?_
          dsimp only [List.set]
          refine tr_goto (pc := 104) (tgt := 32) dX9_isAsSeen_104 (by decide) ?_
          unfold sA
          rw [hgj, if_neg (show ¬ ((J.length : Int) ≤ i ∨ M1 95 i * d ≠ n * M1 96 i) by omega)]
          exact ih (k + 1) _ (by omega) (fun z hz => hsn z (List.mem_cons_of_mem _ hz)) hs
        · skip
          refine tr_iconst (pc := 99) dX9_isAsSeen_99 ⟨by decide, by decide⟩ ?_
          refine tr_iretz (pc := 100) dX9_isAsSeen_100 rfl (by omega) ?_
          refine ⟨?_, rfl⟩
          unfold sA
          first
          | rw [if_pos (Or.inl (by omega))]
          | rw [hgj, if_pos (show (J.length : Int) ≤ i ∨ M1 95 i * d ≠ n * M1 96 i by omega)]
  refine tr_aload_n (pc := 0) dX9_isAsSeen_0 rfl (by decide) ?_
  refine tr_getr (pc := 1) (x := 1) dX9_isAsSeen_1 fi9_12 rfl sg0 rfl ?_
  refine tr_getr (pc := 4) (x := 8) dX9_isAsSeen_4 fi9_273 rfl sg1 rfl ?_
  refine tr_cVi0 (pc := 7) dX9_isAsSeen_7 mtX5_size lv9_295 rfl sg8 kc5 ⟨(Nat.le_of_ble_eq_true rfl), (Nat.le_of_ble_eq_true rfl)⟩ nlX5_size (Nat.le_of_ble_eq_true rfl) ⟨(Nat.le_of_ble_eq_true rfl), (Nat.le_of_ble_eq_true rfl)⟩ (sp_X5_size rw_s8) (fun r7 M7 h7 => ?_)
  obtain ⟨hr7, hM7⟩ := h7
  obtain rfl := hr7.symm
  obtain rfl := hM7.symm
  refine tr_ifne (pc := 10) (tgt := 15) dX9_isAsSeen_10 (by decide) (fun c10 => ?_) (fun c10 => ?_)
  · skip
    refine tr_aload_n (pc := 15) dX9_isAsSeen_15 rfl (by omega) ?_
    refine tr_cVi0 (pc := 16) dX9_isAsSeen_16 mtX3_size lv9_93 rfl (by assumption) kc3 ⟨(Nat.le_of_ble_eq_true rfl), (Nat.le_of_ble_eq_true rfl)⟩ nlX3_size (Nat.le_of_ble_eq_true rfl) ⟨(Nat.le_of_ble_eq_true rfl), (Nat.le_of_ble_eq_true rfl)⟩ (sp_X3_size hr) (fun r16 M16 h16 => ?_)
    obtain ⟨hr16, hM16⟩ := h16
    obtain rfl := hr16.symm
    obtain rfl := hM16.symm
    refine tr_ifne (pc := 19) (tgt := 24) dX9_isAsSeen_19 (by decide) (fun c19 => ?_) (fun c19 => ?_)
    · skip
      refine tr_aload_n (pc := 24) dX9_isAsSeen_24 rfl (by decide) ?_
      refine tr_aload_n (pc := 25) dX9_isAsSeen_25 rfl (by omega) ?_
      refine tr_cVi1 (pc := 26) dX9_isAsSeen_26 mtX9_countJumps lv9_199 rfl sg0 kc9 ⟨(Nat.le_of_ble_eq_true rfl), (Nat.le_of_ble_eq_true rfl)⟩ nlX9_countJumps (Nat.le_of_ble_eq_true rfl) ⟨(Nat.le_of_ble_eq_true rfl), (Nat.le_of_ble_eq_true rfl)⟩ (sp_X9_countJumps hG hr hap hg (ig_ne hg (by omega))) (fun r26 M26 h26 => ?_)
      obtain ⟨hr26, hJ, f1⟩ := h26
      obtain rfl := hr26.symm
      have hl1 : rw_at M26 8 4 l := hl.frame f1 (by omega)
      refine tr_istore_n (pc := 29) dX9_isAsSeen_29 rfl (Nat.le_of_ble_eq_true rfl) ?_
      dsimp only [List.set]
      refine tr_iconst (pc := 30) dX9_isAsSeen_30 ⟨by decide, by decide⟩ ?_
      refine tr_istore_n (pc := 31) dX9_isAsSeen_31 rfl (Nat.le_of_ble_eq_true rfl) ?_
      dsimp only [List.set]
      rw [if_neg (by omega), if_neg (by omega)]
      exact tk_mono (loop _ M26 hJ hl1 l 0 _ (by omega) hok hl1.1) (fun v M1 h => ⟨h.1, by rw [h.2]; exact f1⟩)
    · skip
      refine tr_iconst (pc := 22) dX9_isAsSeen_22 ⟨by decide, by decide⟩ ?_
      refine tr_iretz (pc := 23) dX9_isAsSeen_23 rfl (by omega) ?_
      rw [if_neg (by omega), if_pos (by omega)]
      exact ⟨rfl, tk_fr.rf⟩
  · skip
    refine tr_iconst (pc := 13) dX9_isAsSeen_13 ⟨by decide, by decide⟩ ?_
    refine tr_iretz (pc := 14) dX9_isAsSeen_14 rfl (by omega) ?_
    rw [if_pos (by omega)]
    exact ⟨rfl, tk_fr.rf⟩
theorem sA01 (J : List (Int × Int)) : ∀ l, sA J l = 0 ∨ sA J l = 1 := by
  intro l
  induction l with
  | nil => exact Or.inr rfl
  | cons q t ih => obtain ⟨i, n, d⟩ := q; unfold sA; split; exact Or.inl rfl; exact ih
theorem x_seen01 (l : List (Int × Int × Int)) (g : List (Int × Int)) : x_seen l g = 0 ∨ x_seen l g = 1 := by
  unfold x_seen; split; exact Or.inr rfl; split; exact Or.inl rfl; exact sA01 _ _
def x_fw (C : cC) (l : List (Int × Int × Int)) (i k lt p : Int) : Int :=
  if 0 ≤ ig_find (if lt = 0 then p else (gp (csel i C) k).1) (if lt = 1 then p else (gp (csel i C) k).2) 0 (csel i C) ∧ ig_find (if lt = 0 then p else (gp (csel i C) k).1) (if lt = 1 then p else (gp (csel i C) k).2) 0 (csel i C) ≠ k then 0
  else if i = 1 then x_seen l C.1 else x_seen l ((csel i C).set k.toNat (if lt = 0 then p else (gp (csel i C) k).1, if lt = 1 then p else (gp (csel i C) k).2))
theorem x_fw01 (C : cC) (l : List (Int × Int × Int)) (i k lt p : Int) : x_fw C l i k lt p = 0 ∨ x_fw C l i k lt p = 1 := by
  unfold x_fw
  generalize (if lt = 0 then p else (gp (csel i C) k).1) = a
  generalize (if lt = 1 then p else (gp (csel i C) k).2) = b
  split
  · exact Or.inl rfl
  · split <;> exact x_seen01 _ _
theorem sp_X9_fitsWith {G : tk_G} {M : tk_M} {C : cC} {l : List (Int × Int × Int)} {i k lt p : Int} (hG : gs_ok G) (hC : Cg M C) (hl : rw_at M 8 4 l) (hok : sn_ok l) (hi : 0 ≤ i ∧ i ≤ 1) (hk : 0 ≤ k ∧ k < (csel i C).length) (hlt : 0 ≤ lt ∧ lt ≤ 1) (hp : 0 ≤ p ∧ p ≤ 9) : Spi G FX9_fitsWith [xR 0, xI i, xI k, xI lt, xI p] SF M (fun v M' => v = x_fw C l i k lt p ∧ fS M M') := by
  have hsel := hC.sel i
  have hln := hsel.len
  have hrs := rid_s i
  have hrr := rid_r i
  have hrq := hrs.2.1
  have h6 := hsel.2
  have hgp := ig_gp hsel hk.1 (by omega)
  obtain ⟨-, u1, u2, u3, u4⟩ := ig_seg_get _ 0 k hsel.1 hk.1 (by omega)
  rw [hgp.1] at u1 u2
  rw [hgp.2] at u3 u4
  have h01 := x_seen01 l C.1
  have h02 := x_seen01 l ((csel i C).set k.toNat (if lt = 0 then p else (gp (csel i C) k).1, if lt = 1 then p else (gp (csel i C) k).2))
  unfold x_fw
  refine Spi.of _ mtX9_fitsWith nlX9_fitsWith (Nat.le_of_ble_eq_true rfl) ?_
  show Ok G FX9_fitsWith 0 [xR 0, xI i, xI k, xI lt, xI p, xU, xU, xU, xU] [] SF M 0 0 _
  generalize ha : (if lt = 0 then p else (gp (csel i C) k).1) = a at h02 ⊢
  generalize hb : (if lt = 1 then p else (gp (csel i C) k).2) = b at h02 ⊢
  have ha0 : 0 ≤ a ∧ a ≤ 9 := by rw [← ha]; split <;> omega
  have hb0 : 0 ≤ b ∧ b ≤ 9 := by rw [← hb]; split <;> omega
  refine tr_aload_n (pc := 0) dX9_fitsWith_0 rfl (by decide) ?_
  refine tr_getr (pc := 1) (x := 1) dX9_fitsWith_1 fi9_12 rfl sg0 rfl ?_
  refine tr_iload_n (pc := 4) dX9_fitsWith_4 rfl ?_
  refine tr_cVr1 (pc := 5) dX9_fitsWith_5 mtX8_ideal lv9_85 rfl sg1 kc8 ⟨(Nat.le_of_ble_eq_true rfl), (Nat.le_of_ble_eq_true rfl)⟩ nlX8_ideal (Nat.le_of_ble_eq_true rfl) ⟨(Nat.le_of_ble_eq_true rfl), (Nat.le_of_ble_eq_true rfl)⟩ (sp_now) (fun r5 M5 h5 => ?_)
  obtain ⟨hr5, hM5⟩ := h5
  obtain rfl := hr5.symm
  obtain rfl := hM5.symm
  refine tr_astore (pc := 8) dX9_fitsWith_8 rfl (Nat.le_of_ble_eq_true rfl) (by omega) ?_
  dsimp only [List.set]
  refine tr_iload_n (pc := 10) dX9_fitsWith_10 rfl ?_
  refine tr_ifne (pc := 11) (tgt := 19) dX9_fitsWith_11 (by decide) (fun c11 => ?_) (fun c11 => ?_)
  · skip
    refine tr_aload (pc := 19) dX9_fitsWith_19 rfl (by omega) ?_
    refine tr_iload_n (pc := 21) dX9_fitsWith_21 rfl ?_
    refine tr_cVi1 (pc := 22) dX9_fitsWith_22 mtX3_powerA lv9_119 rfl hrq kc3 ⟨(Nat.le_of_ble_eq_true rfl), (Nat.le_of_ble_eq_true rfl)⟩ nlX3_powerA (Nat.le_of_ble_eq_true rfl) ⟨(Nat.le_of_ble_eq_true rfl), (Nat.le_of_ble_eq_true rfl)⟩ (sp_X3_powerA hrs h6) (fun r22 M22 h22 => ?_)
    rw [if_pos ⟨hk.1, by omega⟩] at h22
    obtain ⟨hr22, hM22⟩ := h22
    rw [hgp.1] at hr22
    obtain rfl := hr22.symm
    obtain rfl := hM22.symm
    refine tr_topv (x' := a) (by rw [← ha]; split <;> omega) ?_
    refine tr_istore (pc := 25) dX9_fitsWith_25 rfl (Nat.le_of_ble_eq_true rfl) ?_
    dsimp only [List.set]
    refine tr_iload_n (pc := 27) dX9_fitsWith_27 rfl ?_
    refine tr_iconst (pc := 28) dX9_fitsWith_28 ⟨by decide, by decide⟩ ?_
    refine tr_icmpne (pc := 29) (tgt := 37) dX9_fitsWith_29 (by decide) (fun c29 => ?_) (fun c29 => ?_)
    · skip
      refine tr_aload (pc := 37) dX9_fitsWith_37 rfl (by omega) ?_
      refine tr_iload_n (pc := 39) dX9_fitsWith_39 rfl ?_
      refine tr_cVi1 (pc := 40) dX9_fitsWith_40 mtX3_powerB lv9_123 rfl hrq kc3 ⟨(Nat.le_of_ble_eq_true rfl), (Nat.le_of_ble_eq_true rfl)⟩ nlX3_powerB (Nat.le_of_ble_eq_true rfl) ⟨(Nat.le_of_ble_eq_true rfl), (Nat.le_of_ble_eq_true rfl)⟩ (sp_X3_powerB hrs h6) (fun r40 M40 h40 => ?_)
      rw [if_pos ⟨hk.1, by omega⟩] at h40
      obtain ⟨hr40, hM40⟩ := h40
      rw [hgp.2] at hr40
      obtain rfl := hr40.symm
      obtain rfl := hM40.symm
      refine tr_topv (x' := b) (by rw [← hb]; split <;> omega) ?_
      refine tr_istore (pc := 43) dX9_fitsWith_43 rfl (Nat.le_of_ble_eq_true rfl) ?_
      dsimp only [List.set]
      refine tr_aload (pc := 45) dX9_fitsWith_45 rfl (by omega) ?_
      refine tr_iload (pc := 47) dX9_fitsWith_47 rfl ?_
      refine tr_iload (pc := 49) dX9_fitsWith_49 rfl ?_
      refine tr_cVi2 (pc := 51) dX9_fitsWith_51 mtX3_find lv9_89 rfl hrq kc3 ⟨(Nat.le_of_ble_eq_true rfl), (Nat.le_of_ble_eq_true rfl)⟩ nlX3_find (Nat.le_of_ble_eq_true rfl) ⟨(Nat.le_of_ble_eq_true rfl), (Nat.le_of_ble_eq_true rfl)⟩ (sp_X3_find hrs hsel) (fun r51 M51 h51 => ?_)
      obtain ⟨hr51, hM51⟩ := h51
      obtain rfl := hr51.symm
      obtain rfl := hM51.symm
      refine tr_istore (pc := 54) dX9_fitsWith_54 rfl (Nat.le_of_ble_eq_true rfl) ?_
      dsimp only [List.set]
      refine tr_iload (pc := 56) dX9_fitsWith_56 rfl ?_
      refine tr_iflt (pc := 58) (tgt := 69) dX9_fitsWith_58 (by decide) (fun c58 => ?_) (fun c58 => ?_)
      · skip
        refine tr_iload_n (pc := 69) dX9_fitsWith_69 rfl ?_
        refine tr_iconst (pc := 70) dX9_fitsWith_70 ⟨by decide, by decide⟩ ?_
        refine tr_icmpne (pc := 71) (tgt := 87) dX9_fitsWith_71 (by decide) (fun c71 => ?_) (fun c71 => ?_)
        · skip
          refine tr_aload_n (pc := 87) dX9_fitsWith_87 rfl (by decide) ?_
          refine tr_getr (pc := 88) (x := 87) dX9_fitsWith_88 fi9_49 rfl sg0 rfl ?_
          refine tr_aload (pc := 91) dX9_fitsWith_91 rfl (by omega) ?_
          refine tr_cVv1 (pc := 93) dX9_fitsWith_93 mtX3_copy lv9_136 rfl sg87 kc3 ⟨(Nat.le_of_ble_eq_true rfl), (Nat.le_of_ble_eq_true rfl)⟩ nlX3_copy (Nat.le_of_ble_eq_true rfl) ⟨(Nat.le_of_ble_eq_true rfl), (Nat.le_of_ble_eq_true rfl)⟩ (sp_X3_copy ig_s87 hrs (by omega) hsel) (fun M93 h93 => ?_)
          obtain ⟨a1, f1⟩ := h93
          have hl87 := a1.len
          refine tr_aload_n (pc := 96) dX9_fitsWith_96 rfl (by decide) ?_
          refine tr_getr (pc := 97) (x := 87) dX9_fitsWith_97 fi9_49 rfl sg0 rfl ?_
          refine tr_iload_n (pc := 100) dX9_fitsWith_100 rfl ?_
          refine tr_iload (pc := 101) dX9_fitsWith_101 rfl ?_
          refine tr_iload (pc := 103) dX9_fitsWith_103 rfl ?_
          refine tr_cVv3 (pc := 105) dX9_fitsWith_105 mtX3_replace lv9_357 rfl sg87 kc3 ⟨(Nat.le_of_ble_eq_true rfl), (Nat.le_of_ble_eq_true rfl)⟩ nlX3_replace (Nat.le_of_ble_eq_true rfl) ⟨(Nat.le_of_ble_eq_true rfl), (Nat.le_of_ble_eq_true rfl)⟩ (sp_X3_replace ig_s87 a1.2) (fun M105 h105 => ?_)
          obtain rfl := h105.symm
          have a2 := ig_setM_at (k := k) (a := a) (b := b) a1 hk.1 (by omega) ha0.1 ha0.2 hb0.1 hb0.2
          have f2 := f1.trans (ig_setM_fr M93 87 k a b)
          have hl2 : rw_at (ig_setM M93 87 k a b) 8 4 l := hl.frame f2 (by omega)
          refine tr_aload_n (pc := 108) dX9_fitsWith_108 rfl (by decide) ?_
          refine tr_aload_n (pc := 109) dX9_fitsWith_109 rfl (by decide) ?_
          refine tr_getr (pc := 110) (x := 87) dX9_fitsWith_110 fi9_49 rfl sg0 rfl ?_
          refine tr_cVi1 (pc := 113) dX9_fitsWith_113 mtX9_isAsSeen lv9_353 rfl sg0 kc9 ⟨(Nat.le_of_ble_eq_true rfl), (Nat.le_of_ble_eq_true rfl)⟩ nlX9_isAsSeen (Nat.le_of_ble_eq_true rfl) ⟨(Nat.le_of_ble_eq_true rfl), (Nat.le_of_ble_eq_true rfl)⟩ (sp_X9_isAsSeen hG ig_s87 (by omega) a2 hl2 hok) (fun r113 M113 h113 => ?_)
          obtain ⟨hr113, f3⟩ := h113
          obtain rfl := hr113.symm
          replace f3 : fS M M113 := (f2.mono (by omega) (by omega)).trans (f3.mono (by omega) (by omega))
          refine tr_iretz (pc := 116) dX9_fitsWith_116 rfl (by omega) ?_
          rw [if_neg (by omega), if_neg (by omega)]
          exact ⟨rfl, f3⟩
        · skip
          refine tr_aload_n (pc := 74) dX9_fitsWith_74 rfl (by decide) ?_
          refine tr_aload_n (pc := 75) dX9_fitsWith_75 rfl (by decide) ?_
          refine tr_getr (pc := 76) (x := 1) dX9_fitsWith_76 fi9_12 rfl sg0 rfl ?_
          refine tr_iconst (pc := 79) dX9_fitsWith_79 ⟨by decide, by decide⟩ ?_
          refine tr_cVr1 (pc := 80) dX9_fitsWith_80 mtX8_ideal lv9_85 rfl sg1 kc8 ⟨(Nat.le_of_ble_eq_true rfl), (Nat.le_of_ble_eq_true rfl)⟩ nlX8_ideal (Nat.le_of_ble_eq_true rfl) ⟨(Nat.le_of_ble_eq_true rfl), (Nat.le_of_ble_eq_true rfl)⟩ (sp_n0) (fun r80 M80 h80 => ?_)
          obtain ⟨hr80, hM80⟩ := h80
          obtain rfl := hr80.symm
          obtain rfl := hM80.symm
          refine tr_cVi1 (pc := 83) dX9_fitsWith_83 mtX9_isAsSeen lv9_353 rfl sg0 kc9 ⟨(Nat.le_of_ble_eq_true rfl), (Nat.le_of_ble_eq_true rfl)⟩ nlX9_isAsSeen (Nat.le_of_ble_eq_true rfl) ⟨(Nat.le_of_ble_eq_true rfl), (Nat.le_of_ble_eq_true rfl)⟩ (sp_X9_isAsSeen hG ig_s2 (by omega) hC.1 hl hok) (fun r83 M83 h83 => ?_)
          obtain ⟨hr83, f1⟩ := h83
          obtain rfl := hr83.symm
          replace f1 : fS M M83 := f1.mono (by omega) (by omega)
          refine tr_iretz (pc := 86) dX9_fitsWith_86 rfl (by omega) ?_
          rw [if_neg (by omega), if_pos (by omega)]
          exact ⟨rfl, f1⟩
      · skip
        refine tr_iload (pc := 61) dX9_fitsWith_61 rfl ?_
        refine tr_iload_n (pc := 63) dX9_fitsWith_63 rfl ?_
        refine tr_icmpeq (pc := 64) (tgt := 69) dX9_fitsWith_64 (by decide) (fun c64 => ?_) (fun c64 => ?_)
        · skip
          refine tr_iload_n (pc := 69) dX9_fitsWith_69 rfl ?_
          refine tr_iconst (pc := 70) dX9_fitsWith_70 ⟨by decide, by decide⟩ ?_
          refine tr_icmpne (pc := 71) (tgt := 87) dX9_fitsWith_71 (by decide) (fun c71 => ?_) (fun c71 => ?_)
          · skip
            refine tr_aload_n (pc := 87) dX9_fitsWith_87 rfl (by decide) ?_
            refine tr_getr (pc := 88) (x := 87) dX9_fitsWith_88 fi9_49 rfl sg0 rfl ?_
            refine tr_aload (pc := 91) dX9_fitsWith_91 rfl (by omega) ?_
            refine tr_cVv1 (pc := 93) dX9_fitsWith_93 mtX3_copy lv9_136 rfl sg87 kc3 ⟨(Nat.le_of_ble_eq_true rfl), (Nat.le_of_ble_eq_true rfl)⟩ nlX3_copy (Nat.le_of_ble_eq_true rfl) ⟨(Nat.le_of_ble_eq_true rfl), (Nat.le_of_ble_eq_true rfl)⟩ (sp_X3_copy ig_s87 hrs (by omega) hsel) (fun M93 h93 => ?_)
            obtain ⟨a1, f1⟩ := h93
            have hl87 := a1.len
            refine tr_aload_n (pc := 96) dX9_fitsWith_96 rfl (by decide) ?_
            refine tr_getr (pc := 97) (x := 87) dX9_fitsWith_97 fi9_49 rfl sg0 rfl ?_
            refine tr_iload_n (pc := 100) dX9_fitsWith_100 rfl ?_
            refine tr_iload (pc := 101) dX9_fitsWith_101 rfl ?_
            refine tr_iload (pc := 103) dX9_fitsWith_103 rfl ?_
            refine tr_cVv3 (pc := 105) dX9_fitsWith_105 mtX3_replace lv9_357 rfl sg87 kc3 ⟨(Nat.le_of_ble_eq_true rfl), (Nat.le_of_ble_eq_true rfl)⟩ nlX3_replace (Nat.le_of_ble_eq_true rfl) ⟨(Nat.le_of_ble_eq_true rfl), (Nat.le_of_ble_eq_true rfl)⟩ (sp_X3_replace ig_s87 a1.2) (fun M105 h105 => ?_)
            obtain rfl := h105.symm
            have a2 := ig_setM_at (k := k) (a := a) (b := b) a1 hk.1 (by omega) ha0.1 ha0.2 hb0.1 hb0.2
            have f2 := f1.trans (ig_setM_fr M93 87 k a b)
            have hl2 : rw_at (ig_setM M93 87 k a b) 8 4 l := hl.frame f2 (by omega)
            refine tr_aload_n (pc := 108) dX9_fitsWith_108 rfl (by decide) ?_
            refine tr_aload_n (pc := 109) dX9_fitsWith_109 rfl (by decide) ?_
            refine tr_getr (pc := 110) (x := 87) dX9_fitsWith_110 fi9_49 rfl sg0 rfl ?_
            refine tr_cVi1 (pc := 113) dX9_fitsWith_113 mtX9_isAsSeen lv9_353 rfl sg0 kc9 ⟨(Nat.le_of_ble_eq_true rfl), (Nat.le_of_ble_eq_true rfl)⟩ nlX9_isAsSeen (Nat.le_of_ble_eq_true rfl) ⟨(Nat.le_of_ble_eq_true rfl), (Nat.le_of_ble_eq_true rfl)⟩ (sp_X9_isAsSeen hG ig_s87 (by omega) a2 hl2 hok) (fun r113 M113 h113 => ?_)
            obtain ⟨hr113, f3⟩ := h113
            obtain rfl := hr113.symm
            replace f3 : fS M M113 := (f2.mono (by omega) (by omega)).trans (f3.mono (by omega) (by omega))
            refine tr_iretz (pc := 116) dX9_fitsWith_116 rfl (by omega) ?_
            rw [if_neg (by omega), if_neg (by omega)]
            exact ⟨rfl, f3⟩
          · skip
            refine tr_aload_n (pc := 74) dX9_fitsWith_74 rfl (by decide) ?_
            refine tr_aload_n (pc := 75) dX9_fitsWith_75 rfl (by decide) ?_
            refine tr_getr (pc := 76) (x := 1) dX9_fitsWith_76 fi9_12 rfl sg0 rfl ?_
            refine tr_iconst (pc := 79) dX9_fitsWith_79 ⟨by decide, by decide⟩ ?_
            refine tr_cVr1 (pc := 80) dX9_fitsWith_80 mtX8_ideal lv9_85 rfl sg1 kc8 ⟨(Nat.le_of_ble_eq_true rfl), (Nat.le_of_ble_eq_true rfl)⟩ nlX8_ideal (Nat.le_of_ble_eq_true rfl) ⟨(Nat.le_of_ble_eq_true rfl), (Nat.le_of_ble_eq_true rfl)⟩ (sp_n0) (fun r80 M80 h80 => ?_)
            obtain ⟨hr80, hM80⟩ := h80
            obtain rfl := hr80.symm
            obtain rfl := hM80.symm
            refine tr_cVi1 (pc := 83) dX9_fitsWith_83 mtX9_isAsSeen lv9_353 rfl sg0 kc9 ⟨(Nat.le_of_ble_eq_true rfl), (Nat.le_of_ble_eq_true rfl)⟩ nlX9_isAsSeen (Nat.le_of_ble_eq_true rfl) ⟨(Nat.le_of_ble_eq_true rfl), (Nat.le_of_ble_eq_true rfl)⟩ (sp_X9_isAsSeen hG ig_s2 (by omega) hC.1 hl hok) (fun r83 M83 h83 => ?_)
            obtain ⟨hr83, f1⟩ := h83
            obtain rfl := hr83.symm
            replace f1 : fS M M83 := f1.mono (by omega) (by omega)
            refine tr_iretz (pc := 86) dX9_fitsWith_86 rfl (by omega) ?_
            rw [if_neg (by omega), if_pos (by omega)]
            exact ⟨rfl, f1⟩
        · skip
          refine tr_iconst (pc := 67) dX9_fitsWith_67 ⟨by decide, by decide⟩ ?_
          refine tr_iretz (pc := 68) dX9_fitsWith_68 rfl (by omega) ?_
          rw [if_pos (by omega)]
          exact ⟨rfl, tk_fr.rf⟩
    · skip
      refine tr_iload (pc := 32) dX9_fitsWith_32 rfl ?_
      refine tr_goto (pc := 34) (tgt := 43) dX9_fitsWith_34 (by decide) ?_
      refine tr_topv (x' := b) (by rw [← hb]; split <;> omega) ?_
      refine tr_istore (pc := 43) dX9_fitsWith_43 rfl (Nat.le_of_ble_eq_true rfl) ?_
      dsimp only [List.set]
      refine tr_aload (pc := 45) dX9_fitsWith_45 rfl (by omega) ?_
      refine tr_iload (pc := 47) dX9_fitsWith_47 rfl ?_
      refine tr_iload (pc := 49) dX9_fitsWith_49 rfl ?_
      refine tr_cVi2 (pc := 51) dX9_fitsWith_51 mtX3_find lv9_89 rfl hrq kc3 ⟨(Nat.le_of_ble_eq_true rfl), (Nat.le_of_ble_eq_true rfl)⟩ nlX3_find (Nat.le_of_ble_eq_true rfl) ⟨(Nat.le_of_ble_eq_true rfl), (Nat.le_of_ble_eq_true rfl)⟩ (sp_X3_find hrs hsel) (fun r51 M51 h51 => ?_)
      obtain ⟨hr51, hM51⟩ := h51
      obtain rfl := hr51.symm
      obtain rfl := hM51.symm
      refine tr_istore (pc := 54) dX9_fitsWith_54 rfl (Nat.le_of_ble_eq_true rfl) ?_
      dsimp only [List.set]
      refine tr_iload (pc := 56) dX9_fitsWith_56 rfl ?_
      refine tr_iflt (pc := 58) (tgt := 69) dX9_fitsWith_58 (by decide) (fun c58 => ?_) (fun c58 => ?_)
      · skip
        refine tr_iload_n (pc := 69) dX9_fitsWith_69 rfl ?_
        refine tr_iconst (pc := 70) dX9_fitsWith_70 ⟨by decide, by decide⟩ ?_
        refine tr_icmpne (pc := 71) (tgt := 87) dX9_fitsWith_71 (by decide) (fun c71 => ?_) (fun c71 => ?_)
        · skip
          refine tr_aload_n (pc := 87) dX9_fitsWith_87 rfl (by decide) ?_
          refine tr_getr (pc := 88) (x := 87) dX9_fitsWith_88 fi9_49 rfl sg0 rfl ?_
          refine tr_aload (pc := 91) dX9_fitsWith_91 rfl (by omega) ?_
          refine tr_cVv1 (pc := 93) dX9_fitsWith_93 mtX3_copy lv9_136 rfl sg87 kc3 ⟨(Nat.le_of_ble_eq_true rfl), (Nat.le_of_ble_eq_true rfl)⟩ nlX3_copy (Nat.le_of_ble_eq_true rfl) ⟨(Nat.le_of_ble_eq_true rfl), (Nat.le_of_ble_eq_true rfl)⟩ (sp_X3_copy ig_s87 hrs (by omega) hsel) (fun M93 h93 => ?_)
          obtain ⟨a1, f1⟩ := h93
          have hl87 := a1.len
          refine tr_aload_n (pc := 96) dX9_fitsWith_96 rfl (by decide) ?_
          refine tr_getr (pc := 97) (x := 87) dX9_fitsWith_97 fi9_49 rfl sg0 rfl ?_
          refine tr_iload_n (pc := 100) dX9_fitsWith_100 rfl ?_
          refine tr_iload (pc := 101) dX9_fitsWith_101 rfl ?_
          refine tr_iload (pc := 103) dX9_fitsWith_103 rfl ?_
          refine tr_cVv3 (pc := 105) dX9_fitsWith_105 mtX3_replace lv9_357 rfl sg87 kc3 ⟨(Nat.le_of_ble_eq_true rfl), (Nat.le_of_ble_eq_true rfl)⟩ nlX3_replace (Nat.le_of_ble_eq_true rfl) ⟨(Nat.le_of_ble_eq_true rfl), (Nat.le_of_ble_eq_true rfl)⟩ (sp_X3_replace ig_s87 a1.2) (fun M105 h105 => ?_)
          obtain rfl := h105.symm
          have a2 := ig_setM_at (k := k) (a := a) (b := b) a1 hk.1 (by omega) ha0.1 ha0.2 hb0.1 hb0.2
          have f2 := f1.trans (ig_setM_fr M93 87 k a b)
          have hl2 : rw_at (ig_setM M93 87 k a b) 8 4 l := hl.frame f2 (by omega)
          refine tr_aload_n (pc := 108) dX9_fitsWith_108 rfl (by decide) ?_
          refine tr_aload_n (pc := 109) dX9_fitsWith_109 rfl (by decide) ?_
          refine tr_getr (pc := 110) (x := 87) dX9_fitsWith_110 fi9_49 rfl sg0 rfl ?_
          refine tr_cVi1 (pc := 113) dX9_fitsWith_113 mtX9_isAsSeen lv9_353 rfl sg0 kc9 ⟨(Nat.le_of_ble_eq_true rfl), (Nat.le_of_ble_eq_true rfl)⟩ nlX9_isAsSeen (Nat.le_of_ble_eq_true rfl) ⟨(Nat.le_of_ble_eq_true rfl), (Nat.le_of_ble_eq_true rfl)⟩ (sp_X9_isAsSeen hG ig_s87 (by omega) a2 hl2 hok) (fun r113 M113 h113 => ?_)
          obtain ⟨hr113, f3⟩ := h113
          obtain rfl := hr113.symm
          replace f3 : fS M M113 := (f2.mono (by omega) (by omega)).trans (f3.mono (by omega) (by omega))
          refine tr_iretz (pc := 116) dX9_fitsWith_116 rfl (by omega) ?_
          rw [if_neg (by omega), if_neg (by omega)]
          exact ⟨rfl, f3⟩
        · skip
          refine tr_aload_n (pc := 74) dX9_fitsWith_74 rfl (by decide) ?_
          refine tr_aload_n (pc := 75) dX9_fitsWith_75 rfl (by decide) ?_
          refine tr_getr (pc := 76) (x := 1) dX9_fitsWith_76 fi9_12 rfl sg0 rfl ?_
          refine tr_iconst (pc := 79) dX9_fitsWith_79 ⟨by decide, by decide⟩ ?_
          refine tr_cVr1 (pc := 80) dX9_fitsWith_80 mtX8_ideal lv9_85 rfl sg1 kc8 ⟨(Nat.le_of_ble_eq_true rfl), (Nat.le_of_ble_eq_true rfl)⟩ nlX8_ideal (Nat.le_of_ble_eq_true rfl) ⟨(Nat.le_of_ble_eq_true rfl), (Nat.le_of_ble_eq_true rfl)⟩ (sp_n0) (fun r80 M80 h80 => ?_)
          obtain ⟨hr80, hM80⟩ := h80
          obtain rfl := hr80.symm
          obtain rfl := hM80.symm
          refine tr_cVi1 (pc := 83) dX9_fitsWith_83 mtX9_isAsSeen lv9_353 rfl sg0 kc9 ⟨(Nat.le_of_ble_eq_true rfl), (Nat.le_of_ble_eq_true rfl)⟩ nlX9_isAsSeen (Nat.le_of_ble_eq_true rfl) ⟨(Nat.le_of_ble_eq_true rfl), (Nat.le_of_ble_eq_true rfl)⟩ (sp_X9_isAsSeen hG ig_s2 (by omega) hC.1 hl hok) (fun r83 M83 h83 => ?_)
          obtain ⟨hr83, f1⟩ := h83
          obtain rfl := hr83.symm
          replace f1 : fS M M83 := f1.mono (by omega) (by omega)
          refine tr_iretz (pc := 86) dX9_fitsWith_86 rfl (by omega) ?_
          rw [if_neg (by omega), if_pos (by omega)]
          exact ⟨rfl, f1⟩
      · skip
        refine tr_iload (pc := 61) dX9_fitsWith_61 rfl ?_
        refine tr_iload_n (pc := 63) dX9_fitsWith_63 rfl ?_
        refine tr_icmpeq (pc := 64) (tgt := 69) dX9_fitsWith_64 (by decide) (fun c64 => ?_) (fun c64 => ?_)
        · skip
          refine tr_iload_n (pc := 69) dX9_fitsWith_69 rfl ?_
          refine tr_iconst (pc := 70) dX9_fitsWith_70 ⟨by decide, by decide⟩ ?_
          refine tr_icmpne (pc := 71) (tgt := 87) dX9_fitsWith_71 (by decide) (fun c71 => ?_) (fun c71 => ?_)
          · skip
            refine tr_aload_n (pc := 87) dX9_fitsWith_87 rfl (by decide) ?_
            refine tr_getr (pc := 88) (x := 87) dX9_fitsWith_88 fi9_49 rfl sg0 rfl ?_
            refine tr_aload (pc := 91) dX9_fitsWith_91 rfl (by omega) ?_
            refine tr_cVv1 (pc := 93) dX9_fitsWith_93 mtX3_copy lv9_136 rfl sg87 kc3 ⟨(Nat.le_of_ble_eq_true rfl), (Nat.le_of_ble_eq_true rfl)⟩ nlX3_copy (Nat.le_of_ble_eq_true rfl) ⟨(Nat.le_of_ble_eq_true rfl), (Nat.le_of_ble_eq_true rfl)⟩ (sp_X3_copy ig_s87 hrs (by omega) hsel) (fun M93 h93 => ?_)
            obtain ⟨a1, f1⟩ := h93
            have hl87 := a1.len
            refine tr_aload_n (pc := 96) dX9_fitsWith_96 rfl (by decide) ?_
            refine tr_getr (pc := 97) (x := 87) dX9_fitsWith_97 fi9_49 rfl sg0 rfl ?_
            refine tr_iload_n (pc := 100) dX9_fitsWith_100 rfl ?_
            refine tr_iload (pc := 101) dX9_fitsWith_101 rfl ?_
            refine tr_iload (pc := 103) dX9_fitsWith_103 rfl ?_
            refine tr_cVv3 (pc := 105) dX9_fitsWith_105 mtX3_replace lv9_357 rfl sg87 kc3 ⟨(Nat.le_of_ble_eq_true rfl), (Nat.le_of_ble_eq_true rfl)⟩ nlX3_replace (Nat.le_of_ble_eq_true rfl) ⟨(Nat.le_of_ble_eq_true rfl), (Nat.le_of_ble_eq_true rfl)⟩ (sp_X3_replace ig_s87 a1.2) (fun M105 h105 => ?_)
            obtain rfl := h105.symm
            have a2 := ig_setM_at (k := k) (a := a) (b := b) a1 hk.1 (by omega) ha0.1 ha0.2 hb0.1 hb0.2
            have f2 := f1.trans (ig_setM_fr M93 87 k a b)
            have hl2 : rw_at (ig_setM M93 87 k a b) 8 4 l := hl.frame f2 (by omega)
            refine tr_aload_n (pc := 108) dX9_fitsWith_108 rfl (by decide) ?_
            refine tr_aload_n (pc := 109) dX9_fitsWith_109 rfl (by decide) ?_
            refine tr_getr (pc := 110) (x := 87) dX9_fitsWith_110 fi9_49 rfl sg0 rfl ?_
            refine tr_cVi1 (pc := 113) dX9_fitsWith_113 mtX9_isAsSeen lv9_353 rfl sg0 kc9 ⟨(Nat.le_of_ble_eq_true rfl), (Nat.le_of_ble_eq_true rfl)⟩ nlX9_isAsSeen (Nat.le_of_ble_eq_true rfl) ⟨(Nat.le_of_ble_eq_true rfl), (Nat.le_of_ble_eq_true rfl)⟩ (sp_X9_isAsSeen hG ig_s87 (by omega) a2 hl2 hok) (fun r113 M113 h113 => ?_)
            obtain ⟨hr113, f3⟩ := h113
            obtain rfl := hr113.symm
            replace f3 : fS M M113 := (f2.mono (by omega) (by omega)).trans (f3.mono (by omega) (by omega))
            refine tr_iretz (pc := 116) dX9_fitsWith_116 rfl (by omega) ?_
            rw [if_neg (by omega), if_neg (by omega)]
            exact ⟨rfl, f3⟩
          · skip
            refine tr_aload_n (pc := 74) dX9_fitsWith_74 rfl (by decide) ?_
            refine tr_aload_n (pc := 75) dX9_fitsWith_75 rfl (by decide) ?_
            refine tr_getr (pc := 76) (x := 1) dX9_fitsWith_76 fi9_12 rfl sg0 rfl ?_
            refine tr_iconst (pc := 79) dX9_fitsWith_79 ⟨by decide, by decide⟩ ?_
            refine tr_cVr1 (pc := 80) dX9_fitsWith_80 mtX8_ideal lv9_85 rfl sg1 kc8 ⟨(Nat.le_of_ble_eq_true rfl), (Nat.le_of_ble_eq_true rfl)⟩ nlX8_ideal (Nat.le_of_ble_eq_true rfl) ⟨(Nat.le_of_ble_eq_true rfl), (Nat.le_of_ble_eq_true rfl)⟩ (sp_n0) (fun r80 M80 h80 => ?_)
            obtain ⟨hr80, hM80⟩ := h80
            obtain rfl := hr80.symm
            obtain rfl := hM80.symm
            refine tr_cVi1 (pc := 83) dX9_fitsWith_83 mtX9_isAsSeen lv9_353 rfl sg0 kc9 ⟨(Nat.le_of_ble_eq_true rfl), (Nat.le_of_ble_eq_true rfl)⟩ nlX9_isAsSeen (Nat.le_of_ble_eq_true rfl) ⟨(Nat.le_of_ble_eq_true rfl), (Nat.le_of_ble_eq_true rfl)⟩ (sp_X9_isAsSeen hG ig_s2 (by omega) hC.1 hl hok) (fun r83 M83 h83 => ?_)
            obtain ⟨hr83, f1⟩ := h83
            obtain rfl := hr83.symm
            replace f1 : fS M M83 := f1.mono (by omega) (by omega)
            refine tr_iretz (pc := 86) dX9_fitsWith_86 rfl (by omega) ?_
            rw [if_neg (by omega), if_pos (by omega)]
            exact ⟨rfl, f1⟩
        · skip
          refine tr_iconst (pc := 67) dX9_fitsWith_67 ⟨by decide, by decide⟩ ?_
          refine tr_iretz (pc := 68) dX9_fitsWith_68 rfl (by omega) ?_
          rw [if_pos (by omega)]
          exact ⟨rfl, tk_fr.rf⟩
  · skip
    refine tr_iload (pc := 14) dX9_fitsWith_14 rfl ?_
    refine tr_goto (pc := 16) (tgt := 25) dX9_fitsWith_16 (by decide) ?_
    refine tr_topv (x' := a) (by rw [← ha]; split <;> omega) ?_
    refine tr_istore (pc := 25) dX9_fitsWith_25 rfl (Nat.le_of_ble_eq_true rfl) ?_
    dsimp only [List.set]
    refine tr_iload_n (pc := 27) dX9_fitsWith_27 rfl ?_
    refine tr_iconst (pc := 28) dX9_fitsWith_28 ⟨by decide, by decide⟩ ?_
    refine tr_icmpne (pc := 29) (tgt := 37) dX9_fitsWith_29 (by decide) (fun c29 => ?_) (fun c29 => ?_)
    · skip
      refine tr_aload (pc := 37) dX9_fitsWith_37 rfl (by omega) ?_
      refine tr_iload_n (pc := 39) dX9_fitsWith_39 rfl ?_
      refine tr_cVi1 (pc := 40) dX9_fitsWith_40 mtX3_powerB lv9_123 rfl hrq kc3 ⟨(Nat.le_of_ble_eq_true rfl), (Nat.le_of_ble_eq_true rfl)⟩ nlX3_powerB (Nat.le_of_ble_eq_true rfl) ⟨(Nat.le_of_ble_eq_true rfl), (Nat.le_of_ble_eq_true rfl)⟩ (sp_X3_powerB hrs h6) (fun r40 M40 h40 => ?_)
      rw [if_pos ⟨hk.1, by omega⟩] at h40
      obtain ⟨hr40, hM40⟩ := h40
      rw [hgp.2] at hr40
      obtain rfl := hr40.symm
      obtain rfl := hM40.symm
      refine tr_topv (x' := b) (by rw [← hb]; split <;> omega) ?_
      refine tr_istore (pc := 43) dX9_fitsWith_43 rfl (Nat.le_of_ble_eq_true rfl) ?_
      dsimp only [List.set]
      refine tr_aload (pc := 45) dX9_fitsWith_45 rfl (by omega) ?_
      refine tr_iload (pc := 47) dX9_fitsWith_47 rfl ?_
      refine tr_iload (pc := 49) dX9_fitsWith_49 rfl ?_
      refine tr_cVi2 (pc := 51) dX9_fitsWith_51 mtX3_find lv9_89 rfl hrq kc3 ⟨(Nat.le_of_ble_eq_true rfl), (Nat.le_of_ble_eq_true rfl)⟩ nlX3_find (Nat.le_of_ble_eq_true rfl) ⟨(Nat.le_of_ble_eq_true rfl), (Nat.le_of_ble_eq_true rfl)⟩ (sp_X3_find hrs hsel) (fun r51 M51 h51 => ?_)
      obtain ⟨hr51, hM51⟩ := h51
      obtain rfl := hr51.symm
      obtain rfl := hM51.symm
      refine tr_istore (pc := 54) dX9_fitsWith_54 rfl (Nat.le_of_ble_eq_true rfl) ?_
      dsimp only [List.set]
      refine tr_iload (pc := 56) dX9_fitsWith_56 rfl ?_
      refine tr_iflt (pc := 58) (tgt := 69) dX9_fitsWith_58 (by decide) (fun c58 => ?_) (fun c58 => ?_)
      · skip
        refine tr_iload_n (pc := 69) dX9_fitsWith_69 rfl ?_
        refine tr_iconst (pc := 70) dX9_fitsWith_70 ⟨by decide, by decide⟩ ?_
        refine tr_icmpne (pc := 71) (tgt := 87) dX9_fitsWith_71 (by decide) (fun c71 => ?_) (fun c71 => ?_)
        · skip
          refine tr_aload_n (pc := 87) dX9_fitsWith_87 rfl (by decide) ?_
          refine tr_getr (pc := 88) (x := 87) dX9_fitsWith_88 fi9_49 rfl sg0 rfl ?_
          refine tr_aload (pc := 91) dX9_fitsWith_91 rfl (by omega) ?_
          refine tr_cVv1 (pc := 93) dX9_fitsWith_93 mtX3_copy lv9_136 rfl sg87 kc3 ⟨(Nat.le_of_ble_eq_true rfl), (Nat.le_of_ble_eq_true rfl)⟩ nlX3_copy (Nat.le_of_ble_eq_true rfl) ⟨(Nat.le_of_ble_eq_true rfl), (Nat.le_of_ble_eq_true rfl)⟩ (sp_X3_copy ig_s87 hrs (by omega) hsel) (fun M93 h93 => ?_)
          obtain ⟨a1, f1⟩ := h93
          have hl87 := a1.len
          refine tr_aload_n (pc := 96) dX9_fitsWith_96 rfl (by decide) ?_
          refine tr_getr (pc := 97) (x := 87) dX9_fitsWith_97 fi9_49 rfl sg0 rfl ?_
          refine tr_iload_n (pc := 100) dX9_fitsWith_100 rfl ?_
          refine tr_iload (pc := 101) dX9_fitsWith_101 rfl ?_
          refine tr_iload (pc := 103) dX9_fitsWith_103 rfl ?_
          refine tr_cVv3 (pc := 105) dX9_fitsWith_105 mtX3_replace lv9_357 rfl sg87 kc3 ⟨(Nat.le_of_ble_eq_true rfl), (Nat.le_of_ble_eq_true rfl)⟩ nlX3_replace (Nat.le_of_ble_eq_true rfl) ⟨(Nat.le_of_ble_eq_true rfl), (Nat.le_of_ble_eq_true rfl)⟩ (sp_X3_replace ig_s87 a1.2) (fun M105 h105 => ?_)
          obtain rfl := h105.symm
          have a2 := ig_setM_at (k := k) (a := a) (b := b) a1 hk.1 (by omega) ha0.1 ha0.2 hb0.1 hb0.2
          have f2 := f1.trans (ig_setM_fr M93 87 k a b)
          have hl2 : rw_at (ig_setM M93 87 k a b) 8 4 l := hl.frame f2 (by omega)
          refine tr_aload_n (pc := 108) dX9_fitsWith_108 rfl (by decide) ?_
          refine tr_aload_n (pc := 109) dX9_fitsWith_109 rfl (by decide) ?_
          refine tr_getr (pc := 110) (x := 87) dX9_fitsWith_110 fi9_49 rfl sg0 rfl ?_
          refine tr_cVi1 (pc := 113) dX9_fitsWith_113 mtX9_isAsSeen lv9_353 rfl sg0 kc9 ⟨(Nat.le_of_ble_eq_true rfl), (Nat.le_of_ble_eq_true rfl)⟩ nlX9_isAsSeen (Nat.le_of_ble_eq_true rfl) ⟨(Nat.le_of_ble_eq_true rfl), (Nat.le_of_ble_eq_true rfl)⟩ (sp_X9_isAsSeen hG ig_s87 (by omega) a2 hl2 hok) (fun r113 M113 h113 => ?_)
          obtain ⟨hr113, f3⟩ := h113
          obtain rfl := hr113.symm
          replace f3 : fS M M113 := (f2.mono (by omega) (by omega)).trans (f3.mono (by omega) (by omega))
          refine tr_iretz (pc := 116) dX9_fitsWith_116 rfl (by omega) ?_
          rw [if_neg (by omega), if_neg (by omega)]
          exact ⟨rfl, f3⟩
        · skip
          refine tr_aload_n (pc := 74) dX9_fitsWith_74 rfl (by decide) ?_
          refine tr_aload_n (pc := 75) dX9_fitsWith_75 rfl (by decide) ?_
          refine tr_getr (pc := 76) (x := 1) dX9_fitsWith_76 fi9_12 rfl sg0 rfl ?_
          refine tr_iconst (pc := 79) dX9_fitsWith_79 ⟨by decide, by decide⟩ ?_
          refine tr_cVr1 (pc := 80) dX9_fitsWith_80 mtX8_ideal lv9_85 rfl sg1 kc8 ⟨(Nat.le_of_ble_eq_true rfl), (Nat.le_of_ble_eq_true rfl)⟩ nlX8_ideal (Nat.le_of_ble_eq_true rfl) ⟨(Nat.le_of_ble_eq_true rfl), (Nat.le_of_ble_eq_true rfl)⟩ (sp_n0) (fun r80 M80 h80 => ?_)
          obtain ⟨hr80, hM80⟩ := h80
          obtain rfl := hr80.symm
          obtain rfl := hM80.symm
          refine tr_cVi1 (pc := 83) dX9_fitsWith_83 mtX9_isAsSeen lv9_353 rfl sg0 kc9 ⟨(Nat.le_of_ble_eq_true rfl), (Nat.le_of_ble_eq_true rfl)⟩ nlX9_isAsSeen (Nat.le_of_ble_eq_true rfl) ⟨(Nat.le_of_ble_eq_true rfl), (Nat.le_of_ble_eq_true rfl)⟩ (sp_X9_isAsSeen hG ig_s2 (by omega) hC.1 hl hok) (fun r83 M83 h83 => ?_)
          obtain ⟨hr83, f1⟩ := h83
          obtain rfl := hr83.symm
          replace f1 : fS M M83 := f1.mono (by omega) (by omega)
          refine tr_iretz (pc := 86) dX9_fitsWith_86 rfl (by omega) ?_
          rw [if_neg (by omega), if_pos (by omega)]
          exact ⟨rfl, f1⟩
      · skip
        refine tr_iload (pc := 61) dX9_fitsWith_61 rfl ?_
        refine tr_iload_n (pc := 63) dX9_fitsWith_63 rfl ?_
        refine tr_icmpeq (pc := 64) (tgt := 69) dX9_fitsWith_64 (by decide) (fun c64 => ?_) (fun c64 => ?_)
        · skip
          refine tr_iload_n (pc := 69) dX9_fitsWith_69 rfl ?_
          refine tr_iconst (pc := 70) dX9_fitsWith_70 ⟨by decide, by decide⟩ ?_
          refine tr_icmpne (pc := 71) (tgt := 87) dX9_fitsWith_71 (by decide) (fun c71 => ?_) (fun c71 => ?_)
          · skip
            refine tr_aload_n (pc := 87) dX9_fitsWith_87 rfl (by decide) ?_
            refine tr_getr (pc := 88) (x := 87) dX9_fitsWith_88 fi9_49 rfl sg0 rfl ?_
            refine tr_aload (pc := 91) dX9_fitsWith_91 rfl (by omega) ?_
            refine tr_cVv1 (pc := 93) dX9_fitsWith_93 mtX3_copy lv9_136 rfl sg87 kc3 ⟨(Nat.le_of_ble_eq_true rfl), (Nat.le_of_ble_eq_true rfl)⟩ nlX3_copy (Nat.le_of_ble_eq_true rfl) ⟨(Nat.le_of_ble_eq_true rfl), (Nat.le_of_ble_eq_true rfl)⟩ (sp_X3_copy ig_s87 hrs (by omega) hsel) (fun M93 h93 => ?_)
            obtain ⟨a1, f1⟩ := h93
            have hl87 := a1.len
            refine tr_aload_n (pc := 96) dX9_fitsWith_96 rfl (by decide) ?_
            refine tr_getr (pc := 97) (x := 87) dX9_fitsWith_97 fi9_49 rfl sg0 rfl ?_
            refine tr_iload_n (pc := 100) dX9_fitsWith_100 rfl ?_
            refine tr_iload (pc := 101) dX9_fitsWith_101 rfl ?_
            refine tr_iload (pc := 103) dX9_fitsWith_103 rfl ?_
            refine tr_cVv3 (pc := 105) dX9_fitsWith_105 mtX3_replace lv9_357 rfl sg87 kc3 ⟨(Nat.le_of_ble_eq_true rfl), (Nat.le_of_ble_eq_true rfl)⟩ nlX3_replace (Nat.le_of_ble_eq_true rfl) ⟨(Nat.le_of_ble_eq_true rfl), (Nat.le_of_ble_eq_true rfl)⟩ (sp_X3_replace ig_s87 a1.2) (fun M105 h105 => ?_)
            obtain rfl := h105.symm
            have a2 := ig_setM_at (k := k) (a := a) (b := b) a1 hk.1 (by omega) ha0.1 ha0.2 hb0.1 hb0.2
            have f2 := f1.trans (ig_setM_fr M93 87 k a b)
            have hl2 : rw_at (ig_setM M93 87 k a b) 8 4 l := hl.frame f2 (by omega)
            refine tr_aload_n (pc := 108) dX9_fitsWith_108 rfl (by decide) ?_
            refine tr_aload_n (pc := 109) dX9_fitsWith_109 rfl (by decide) ?_
            refine tr_getr (pc := 110) (x := 87) dX9_fitsWith_110 fi9_49 rfl sg0 rfl ?_
            refine tr_cVi1 (pc := 113) dX9_fitsWith_113 mtX9_isAsSeen lv9_353 rfl sg0 kc9 ⟨(Nat.le_of_ble_eq_true rfl), (Nat.le_of_ble_eq_true rfl)⟩ nlX9_isAsSeen (Nat.le_of_ble_eq_true rfl) ⟨(Nat.le_of_ble_eq_true rfl), (Nat.le_of_ble_eq_true rfl)⟩ (sp_X9_isAsSeen hG ig_s87 (by omega) a2 hl2 hok) (fun r113 M113 h113 => ?_)
            obtain ⟨hr113, f3⟩ := h113
            obtain rfl := hr113.symm
            replace f3 : fS M M113 := (f2.mono (by omega) (by omega)).trans (f3.mono (by omega) (by omega))
            refine tr_iretz (pc := 116) dX9_fitsWith_116 rfl (by omega) ?_
            rw [if_neg (by omega), if_neg (by omega)]
            exact ⟨rfl, f3⟩
          · skip
            refine tr_aload_n (pc := 74) dX9_fitsWith_74 rfl (by decide) ?_
            refine tr_aload_n (pc := 75) dX9_fitsWith_75 rfl (by decide) ?_
            refine tr_getr (pc := 76) (x := 1) dX9_fitsWith_76 fi9_12 rfl sg0 rfl ?_
            refine tr_iconst (pc := 79) dX9_fitsWith_79 ⟨by decide, by decide⟩ ?_
            refine tr_cVr1 (pc := 80) dX9_fitsWith_80 mtX8_ideal lv9_85 rfl sg1 kc8 ⟨(Nat.le_of_ble_eq_true rfl), (Nat.le_of_ble_eq_true rfl)⟩ nlX8_ideal (Nat.le_of_ble_eq_true rfl) ⟨(Nat.le_of_ble_eq_true rfl), (Nat.le_of_ble_eq_true rfl)⟩ (sp_n0) (fun r80 M80 h80 => ?_)
            obtain ⟨hr80, hM80⟩ := h80
            obtain rfl := hr80.symm
            obtain rfl := hM80.symm
            refine tr_cVi1 (pc := 83) dX9_fitsWith_83 mtX9_isAsSeen lv9_353 rfl sg0 kc9 ⟨(Nat.le_of_ble_eq_true rfl), (Nat.le_of_ble_eq_true rfl)⟩ nlX9_isAsSeen (Nat.le_of_ble_eq_true rfl) ⟨(Nat.le_of_ble_eq_true rfl), (Nat.le_of_ble_eq_true rfl)⟩ (sp_X9_isAsSeen hG ig_s2 (by omega) hC.1 hl hok) (fun r83 M83 h83 => ?_)
            obtain ⟨hr83, f1⟩ := h83
            obtain rfl := hr83.symm
            replace f1 : fS M M83 := f1.mono (by omega) (by omega)
            refine tr_iretz (pc := 86) dX9_fitsWith_86 rfl (by omega) ?_
            rw [if_neg (by omega), if_pos (by omega)]
            exact ⟨rfl, f1⟩
        · skip
          refine tr_iconst (pc := 67) dX9_fitsWith_67 ⟨by decide, by decide⟩ ?_
          refine tr_iretz (pc := 68) dX9_fitsWith_68 rfl (by omega) ?_
          rw [if_pos (by omega)]
          exact ⟨rfl, tk_fr.rf⟩
    · skip
      refine tr_iload (pc := 32) dX9_fitsWith_32 rfl ?_
      refine tr_goto (pc := 34) (tgt := 43) dX9_fitsWith_34 (by decide) ?_
      refine tr_topv (x' := b) (by rw [← hb]; split <;> omega) ?_
      refine tr_istore (pc := 43) dX9_fitsWith_43 rfl (Nat.le_of_ble_eq_true rfl) ?_
      dsimp only [List.set]
      refine tr_aload (pc := 45) dX9_fitsWith_45 rfl (by omega) ?_
      refine tr_iload (pc := 47) dX9_fitsWith_47 rfl ?_
      refine tr_iload (pc := 49) dX9_fitsWith_49 rfl ?_
      refine tr_cVi2 (pc := 51) dX9_fitsWith_51 mtX3_find lv9_89 rfl hrq kc3 ⟨(Nat.le_of_ble_eq_true rfl), (Nat.le_of_ble_eq_true rfl)⟩ nlX3_find (Nat.le_of_ble_eq_true rfl) ⟨(Nat.le_of_ble_eq_true rfl), (Nat.le_of_ble_eq_true rfl)⟩ (sp_X3_find hrs hsel) (fun r51 M51 h51 => ?_)
      obtain ⟨hr51, hM51⟩ := h51
      obtain rfl := hr51.symm
      obtain rfl := hM51.symm
      refine tr_istore (pc := 54) dX9_fitsWith_54 rfl (Nat.le_of_ble_eq_true rfl) ?_
      dsimp only [List.set]
      refine tr_iload (pc := 56) dX9_fitsWith_56 rfl ?_
      refine tr_iflt (pc := 58) (tgt := 69) dX9_fitsWith_58 (by decide) (fun c58 => ?_) (fun c58 => ?_)
      · skip
        refine tr_iload_n (pc := 69) dX9_fitsWith_69 rfl ?_
        refine tr_iconst (pc := 70) dX9_fitsWith_70 ⟨by decide, by decide⟩ ?_
        refine tr_icmpne (pc := 71) (tgt := 87) dX9_fitsWith_71 (by decide) (fun c71 => ?_) (fun c71 => ?_)
        · skip
          refine tr_aload_n (pc := 87) dX9_fitsWith_87 rfl (by decide) ?_
          refine tr_getr (pc := 88) (x := 87) dX9_fitsWith_88 fi9_49 rfl sg0 rfl ?_
          refine tr_aload (pc := 91) dX9_fitsWith_91 rfl (by omega) ?_
          refine tr_cVv1 (pc := 93) dX9_fitsWith_93 mtX3_copy lv9_136 rfl sg87 kc3 ⟨(Nat.le_of_ble_eq_true rfl), (Nat.le_of_ble_eq_true rfl)⟩ nlX3_copy (Nat.le_of_ble_eq_true rfl) ⟨(Nat.le_of_ble_eq_true rfl), (Nat.le_of_ble_eq_true rfl)⟩ (sp_X3_copy ig_s87 hrs (by omega) hsel) (fun M93 h93 => ?_)
          obtain ⟨a1, f1⟩ := h93
          have hl87 := a1.len
          refine tr_aload_n (pc := 96) dX9_fitsWith_96 rfl (by decide) ?_
          refine tr_getr (pc := 97) (x := 87) dX9_fitsWith_97 fi9_49 rfl sg0 rfl ?_
          refine tr_iload_n (pc := 100) dX9_fitsWith_100 rfl ?_
          refine tr_iload (pc := 101) dX9_fitsWith_101 rfl ?_
          refine tr_iload (pc := 103) dX9_fitsWith_103 rfl ?_
          refine tr_cVv3 (pc := 105) dX9_fitsWith_105 mtX3_replace lv9_357 rfl sg87 kc3 ⟨(Nat.le_of_ble_eq_true rfl), (Nat.le_of_ble_eq_true rfl)⟩ nlX3_replace (Nat.le_of_ble_eq_true rfl) ⟨(Nat.le_of_ble_eq_true rfl), (Nat.le_of_ble_eq_true rfl)⟩ (sp_X3_replace ig_s87 a1.2) (fun M105 h105 => ?_)
          obtain rfl := h105.symm
          have a2 := ig_setM_at (k := k) (a := a) (b := b) a1 hk.1 (by omega) ha0.1 ha0.2 hb0.1 hb0.2
          have f2 := f1.trans (ig_setM_fr M93 87 k a b)
          have hl2 : rw_at (ig_setM M93 87 k a b) 8 4 l := hl.frame f2 (by omega)
          refine tr_aload_n (pc := 108) dX9_fitsWith_108 rfl (by decide) ?_
          refine tr_aload_n (pc := 109) dX9_fitsWith_109 rfl (by decide) ?_
          refine tr_getr (pc := 110) (x := 87) dX9_fitsWith_110 fi9_49 rfl sg0 rfl ?_
          refine tr_cVi1 (pc := 113) dX9_fitsWith_113 mtX9_isAsSeen lv9_353 rfl sg0 kc9 ⟨(Nat.le_of_ble_eq_true rfl), (Nat.le_of_ble_eq_true rfl)⟩ nlX9_isAsSeen (Nat.le_of_ble_eq_true rfl) ⟨(Nat.le_of_ble_eq_true rfl), (Nat.le_of_ble_eq_true rfl)⟩ (sp_X9_isAsSeen hG ig_s87 (by omega) a2 hl2 hok) (fun r113 M113 h113 => ?_)
          obtain ⟨hr113, f3⟩ := h113
          obtain rfl := hr113.symm
          replace f3 : fS M M113 := (f2.mono (by omega) (by omega)).trans (f3.mono (by omega) (by omega))
          refine tr_iretz (pc := 116) dX9_fitsWith_116 rfl (by omega) ?_
          rw [if_neg (by omega), if_neg (by omega)]
          exact ⟨rfl, f3⟩
        · skip
          refine tr_aload_n (pc := 74) dX9_fitsWith_74 rfl (by decide) ?_
          refine tr_aload_n (pc := 75) dX9_fitsWith_75 rfl (by decide) ?_
          refine tr_getr (pc := 76) (x := 1) dX9_fitsWith_76 fi9_12 rfl sg0 rfl ?_
          refine tr_iconst (pc := 79) dX9_fitsWith_79 ⟨by decide, by decide⟩ ?_
          refine tr_cVr1 (pc := 80) dX9_fitsWith_80 mtX8_ideal lv9_85 rfl sg1 kc8 ⟨(Nat.le_of_ble_eq_true rfl), (Nat.le_of_ble_eq_true rfl)⟩ nlX8_ideal (Nat.le_of_ble_eq_true rfl) ⟨(Nat.le_of_ble_eq_true rfl), (Nat.le_of_ble_eq_true rfl)⟩ (sp_n0) (fun r80 M80 h80 => ?_)
          obtain ⟨hr80, hM80⟩ := h80
          obtain rfl := hr80.symm
          obtain rfl := hM80.symm
          refine tr_cVi1 (pc := 83) dX9_fitsWith_83 mtX9_isAsSeen lv9_353 rfl sg0 kc9 ⟨(Nat.le_of_ble_eq_true rfl), (Nat.le_of_ble_eq_true rfl)⟩ nlX9_isAsSeen (Nat.le_of_ble_eq_true rfl) ⟨(Nat.le_of_ble_eq_true rfl), (Nat.le_of_ble_eq_true rfl)⟩ (sp_X9_isAsSeen hG ig_s2 (by omega) hC.1 hl hok) (fun r83 M83 h83 => ?_)
          obtain ⟨hr83, f1⟩ := h83
          obtain rfl := hr83.symm
          replace f1 : fS M M83 := f1.mono (by omega) (by omega)
          refine tr_iretz (pc := 86) dX9_fitsWith_86 rfl (by omega) ?_
          rw [if_neg (by omega), if_pos (by omega)]
          exact ⟨rfl, f1⟩
      · skip
        refine tr_iload (pc := 61) dX9_fitsWith_61 rfl ?_
        refine tr_iload_n (pc := 63) dX9_fitsWith_63 rfl ?_
        refine tr_icmpeq (pc := 64) (tgt := 69) dX9_fitsWith_64 (by decide) (fun c64 => ?_) (fun c64 => ?_)
        · skip
          refine tr_iload_n (pc := 69) dX9_fitsWith_69 rfl ?_
          refine tr_iconst (pc := 70) dX9_fitsWith_70 ⟨by decide, by decide⟩ ?_
          refine tr_icmpne (pc := 71) (tgt := 87) dX9_fitsWith_71 (by decide) (fun c71 => ?_) (fun c71 => ?_)
          · skip
            refine tr_aload_n (pc := 87) dX9_fitsWith_87 rfl (by decide) ?_
            refine tr_getr (pc := 88) (x := 87) dX9_fitsWith_88 fi9_49 rfl sg0 rfl ?_
            refine tr_aload (pc := 91) dX9_fitsWith_91 rfl (by omega) ?_
            refine tr_cVv1 (pc := 93) dX9_fitsWith_93 mtX3_copy lv9_136 rfl sg87 kc3 ⟨(Nat.le_of_ble_eq_true rfl), (Nat.le_of_ble_eq_true rfl)⟩ nlX3_copy (Nat.le_of_ble_eq_true rfl) ⟨(Nat.le_of_ble_eq_true rfl), (Nat.le_of_ble_eq_true rfl)⟩ (sp_X3_copy ig_s87 hrs (by omega) hsel) (fun M93 h93 => ?_)
            obtain ⟨a1, f1⟩ := h93
            have hl87 := a1.len
            refine tr_aload_n (pc := 96) dX9_fitsWith_96 rfl (by decide) ?_
            refine tr_getr (pc := 97) (x := 87) dX9_fitsWith_97 fi9_49 rfl sg0 rfl ?_
            refine tr_iload_n (pc := 100) dX9_fitsWith_100 rfl ?_
            refine tr_iload (pc := 101) dX9_fitsWith_101 rfl ?_
            refine tr_iload (pc := 103) dX9_fitsWith_103 rfl ?_
            refine tr_cVv3 (pc := 105) dX9_fitsWith_105 mtX3_replace lv9_357 rfl sg87 kc3 ⟨(Nat.le_of_ble_eq_true rfl), (Nat.le_of_ble_eq_true rfl)⟩ nlX3_replace (Nat.le_of_ble_eq_true rfl) ⟨(Nat.le_of_ble_eq_true rfl), (Nat.le_of_ble_eq_true rfl)⟩ (sp_X3_replace ig_s87 a1.2) (fun M105 h105 => ?_)
            obtain rfl := h105.symm
            have a2 := ig_setM_at (k := k) (a := a) (b := b) a1 hk.1 (by omega) ha0.1 ha0.2 hb0.1 hb0.2
            have f2 := f1.trans (ig_setM_fr M93 87 k a b)
            have hl2 : rw_at (ig_setM M93 87 k a b) 8 4 l := hl.frame f2 (by omega)
            refine tr_aload_n (pc := 108) dX9_fitsWith_108 rfl (by decide) ?_
            refine tr_aload_n (pc := 109) dX9_fitsWith_109 rfl (by decide) ?_
            refine tr_getr (pc := 110) (x := 87) dX9_fitsWith_110 fi9_49 rfl sg0 rfl ?_
            refine tr_cVi1 (pc := 113) dX9_fitsWith_113 mtX9_isAsSeen lv9_353 rfl sg0 kc9 ⟨(Nat.le_of_ble_eq_true rfl), (Nat.le_of_ble_eq_true rfl)⟩ nlX9_isAsSeen (Nat.le_of_ble_eq_true rfl) ⟨(Nat.le_of_ble_eq_true rfl), (Nat.le_of_ble_eq_true rfl)⟩ (sp_X9_isAsSeen hG ig_s87 (by omega) a2 hl2 hok) (fun r113 M113 h113 => ?_)
            obtain ⟨hr113, f3⟩ := h113
            obtain rfl := hr113.symm
            replace f3 : fS M M113 := (f2.mono (by omega) (by omega)).trans (f3.mono (by omega) (by omega))
            refine tr_iretz (pc := 116) dX9_fitsWith_116 rfl (by omega) ?_
            rw [if_neg (by omega), if_neg (by omega)]
            exact ⟨rfl, f3⟩
          · skip
            refine tr_aload_n (pc := 74) dX9_fitsWith_74 rfl (by decide) ?_
            refine tr_aload_n (pc := 75) dX9_fitsWith_75 rfl (by decide) ?_
            refine tr_getr (pc := 76) (x := 1) dX9_fitsWith_76 fi9_12 rfl sg0 rfl ?_
            refine tr_iconst (pc := 79) dX9_fitsWith_79 ⟨by decide, by decide⟩ ?_
            refine tr_cVr1 (pc := 80) dX9_fitsWith_80 mtX8_ideal lv9_85 rfl sg1 kc8 ⟨(Nat.le_of_ble_eq_true rfl), (Nat.le_of_ble_eq_true rfl)⟩ nlX8_ideal (Nat.le_of_ble_eq_true rfl) ⟨(Nat.le_of_ble_eq_true rfl), (Nat.le_of_ble_eq_true rfl)⟩ (sp_n0) (fun r80 M80 h80 => ?_)
            obtain ⟨hr80, hM80⟩ := h80
            obtain rfl := hr80.symm
            obtain rfl := hM80.symm
            refine tr_cVi1 (pc := 83) dX9_fitsWith_83 mtX9_isAsSeen lv9_353 rfl sg0 kc9 ⟨(Nat.le_of_ble_eq_true rfl), (Nat.le_of_ble_eq_true rfl)⟩ nlX9_isAsSeen (Nat.le_of_ble_eq_true rfl) ⟨(Nat.le_of_ble_eq_true rfl), (Nat.le_of_ble_eq_true rfl)⟩ (sp_X9_isAsSeen hG ig_s2 (by omega) hC.1 hl hok) (fun r83 M83 h83 => ?_)
            obtain ⟨hr83, f1⟩ := h83
            obtain rfl := hr83.symm
            replace f1 : fS M M83 := f1.mono (by omega) (by omega)
            refine tr_iretz (pc := 86) dX9_fitsWith_86 rfl (by omega) ?_
            rw [if_neg (by omega), if_pos (by omega)]
            exact ⟨rfl, f1⟩
        · skip
          refine tr_iconst (pc := 67) dX9_fitsWith_67 ⟨by decide, by decide⟩ ?_
          refine tr_iretz (pc := 68) dX9_fitsWith_68 rfl (by omega) ?_
          rw [if_pos (by omega)]
          exact ⟨rfl, tk_fr.rf⟩
def x_fl (C : cC) (l : List (Int × Int × Int)) (i k lt : Int) : Nat → Int → Int → Int → Int × Int
  | 0, _, mn, le => (mn, le)
  | d + 1, p, mn, le => if x_fw C l i k lt p = 0 then x_fl C l i k lt d (p + 1) mn le else x_fl C l i k lt d (p + 1) (mn + 1) (if le = -5 then p else le)
def x_fits (C : cC) (l : List (Int × Int × Int)) (i k lt w : Int) : Int := if ¬ ((0 ≤ i ∧ i ≤ 1) ∧ (0 ≤ k ∧ k < (csel i C).length)) ∨ ¬ (0 ≤ lt ∧ lt ≤ 1) ∨ ¬ (0 ≤ w ∧ w ≤ 1) then -1 else if w = 0 then (x_fl C l i k lt 10 0 0 (-5)).1 else (x_fl C l i k lt 10 0 0 (-5)).2
theorem sp_X9_fits {G : tk_G} {M : tk_M} {C : cC} {l : List (Int × Int × Int)} {i k lt w : Int} (hG : gs_ok G) (hC : Cg M C) (hl : rw_at M 8 4 l) (hok : sn_ok l) : Spi G FX9_fits [xR 0, xI i, xI k, xI lt, xI w] SF M (fun v M' => v = x_fits C l i k lt w ∧ fS M M') := by
  have hsel := hC.sel i
  have hln := hsel.len
  refine Spi.of _ mtX9_fits nlX9_fits (Nat.le_of_ble_eq_true rfl) ?_
  show Ok G FX9_fits 0 [xR 0, xI i, xI k, xI lt, xI w, xU, xU, xU] [] SF M 0 0 _
  have loop : (0 ≤ i ∧ i ≤ 1) → (0 ≤ k ∧ k < (csel i C).length) → (0 ≤ lt ∧ lt ≤ 1) → ∀ (d : Nat) (p mn le : Int) (M1 : tk_M), p + d = 10 → 0 ≤ p → 0 ≤ mn → mn ≤ p → fS M M1 → Ok G FX9_fits 41 [xR 0, xI i, xI k, xI lt, xI w, xI mn, xI le, xI p] [] SF M1 0 0 (tk_qi SF (fun v M' => v = (if w = 0 then (x_fl C l i k lt d p mn le).1 else (x_fl C l i k lt d p mn le).2) ∧ fS M M')) := by
    intro hi hk hlt d
    induction d with
    | zero =>
      intro p mn le M1 hd hp h0 h1 hf
      refine tr_iload (pc := 41) dX9_fits_41 rfl ?_
      refine tr_bipush (pc := 43) dX9_fits_43 ⟨by decide, ⟨by decide, by decide⟩⟩ ?_
      refine tr_icmpgt (pc := 45) (tgt := 85) dX9_fits_45 (by decide) (fun c45 => ?_) (fun c45 => absurd c45 (by omega))
      refine tr_iload (pc := 85) dX9_fits_85 rfl ?_
      refine tr_ifne (pc := 87) (tgt := 95) dX9_fits_87 (by decide) (fun c87 => ?_) (fun c87 => ?_)
      · skip
        refine tr_iload (pc := 95) dX9_fits_95 rfl ?_
        refine tr_ireti (pc := 97) dX9_fits_97 rfl ?_
        refine ⟨?_, hf⟩
        split
        all_goals first | rfl | omega
      · skip
        refine tr_iload (pc := 90) dX9_fits_90 rfl ?_
        refine tr_goto (pc := 92) (tgt := 97) dX9_fits_92 (by decide) ?_
        refine tr_ireti (pc := 97) dX9_fits_97 rfl ?_
        refine ⟨?_, hf⟩
        split
        all_goals first | rfl | omega
    | succ d ih =>
      intro p mn le M1 hd hp h0 h1 hf
      have h01 := x_fw01 C l i k lt p
      refine tr_iload (pc := 41) dX9_fits_41 rfl ?_
      refine tr_bipush (pc := 43) dX9_fits_43 ⟨by decide, ⟨by decide, by decide⟩⟩ ?_
      refine tr_icmpgt (pc := 45) (tgt := 85) dX9_fits_45 (by decide) (fun c45 => absurd c45 (by omega)) (fun c45 => ?_)
      refine tr_aload_n (pc := 48) dX9_fits_48 rfl (by decide) ?_
      refine tr_iload_n (pc := 49) dX9_fits_49 rfl ?_
      refine tr_iload_n (pc := 50) dX9_fits_50 rfl ?_
      refine tr_iload_n (pc := 51) dX9_fits_51 rfl ?_
      refine tr_iload (pc := 52) dX9_fits_52 rfl ?_
      refine tr_cVi4 (pc := 54) dX9_fits_54 mtX9_fitsWith lv9_282 rfl sg0 kc9 ⟨(Nat.le_of_ble_eq_true rfl), (Nat.le_of_ble_eq_true rfl)⟩ nlX9_fitsWith (Nat.le_of_ble_eq_true rfl) ⟨(Nat.le_of_ble_eq_true rfl), (Nat.le_of_ble_eq_true rfl)⟩ (sp_X9_fitsWith hG (hC.scr hf) (hl.frame hf (by omega)) hok hi hk hlt (by omega)) (fun r54 M54 h54 => ?_)
      obtain ⟨hr54, f1⟩ := h54
      obtain rfl := hr54.symm
      replace f1 := hf.trans f1
      refine tr_ifeq (pc := 57) (tgt := 79) dX9_fits_57 (by decide) (fun c57 => ?_) (fun c57 => ?_)
      · skip
        refine tr_iinc (pc := 79) dX9_fits_79 rfl rfl ⟨by omega, by omega⟩ ?_
        dsimp only [List.set]
        refine tr_goto (pc := 82) (tgt := 41) dX9_fits_82 (by decide) ?_
        unfold x_fl
        first
        | rw [if_pos (show x_fw C l i k lt p = 0 by omega)]
          exact ih (p + 1) mn le M54 (by omega) (by omega) (by omega) (by omega) f1
        | rw [if_neg (show ¬ x_fw C l i k lt p = 0 by omega)]
          first
          | rw [if_pos (show le = -5 by omega)]
            exact ih (p + 1) (mn + 1) p M54 (by omega) (by omega) (by omega) (by omega) f1
          | rw [if_neg (show ¬ le = -5 by omega)]
            exact ih (p + 1) (mn + 1) le M54 (by omega) (by omega) (by omega) (by omega) f1
      · skip
        refine tr_iinc (pc := 60) dX9_fits_60 rfl rfl ⟨by omega, by omega⟩ ?_
        dsimp only [List.set]
        refine tr_iload (pc := 63) dX9_fits_63 rfl ?_
        refine tr_bipush (pc := 65) dX9_fits_65 ⟨by decide, ⟨by decide, by decide⟩⟩ ?_
        refine tr_icmpne (pc := 67) (tgt := 75) dX9_fits_67 (by decide) (fun c67 => ?_) (fun c67 => ?_)
        · skip
          refine tr_iload (pc := 75) dX9_fits_75 rfl ?_
          refine tr_istore (pc := 77) dX9_fits_77 rfl (Nat.le_of_ble_eq_true rfl) ?_
          dsimp only [List.set]
          refine tr_iinc (pc := 79) dX9_fits_79 rfl rfl ⟨by omega, by omega⟩ ?_
          dsimp only [List.set]
          refine tr_goto (pc := 82) (tgt := 41) dX9_fits_82 (by decide) ?_
          unfold x_fl
          first
          | rw [if_pos (show x_fw C l i k lt p = 0 by omega)]
            exact ih (p + 1) mn le M54 (by omega) (by omega) (by omega) (by omega) f1
          | rw [if_neg (show ¬ x_fw C l i k lt p = 0 by omega)]
            first
            | rw [if_pos (show le = -5 by omega)]
              exact ih (p + 1) (mn + 1) p M54 (by omega) (by omega) (by omega) (by omega) f1
            | rw [if_neg (show ¬ le = -5 by omega)]
              exact ih (p + 1) (mn + 1) le M54 (by omega) (by omega) (by omega) (by omega) f1
        · skip
          refine tr_iload (pc := 70) dX9_fits_70 rfl ?_
          refine tr_goto (pc := 72) (tgt := 77) dX9_fits_72 (by decide) ?_
          refine tr_istore (pc := 77) dX9_fits_77 rfl (Nat.le_of_ble_eq_true rfl) ?_
          dsimp only [List.set]
          refine tr_iinc (pc := 79) dX9_fits_79 rfl rfl ⟨by omega, by omega⟩ ?_
          dsimp only [List.set]
          refine tr_goto (pc := 82) (tgt := 41) dX9_fits_82 (by decide) ?_
          unfold x_fl
          first
          | rw [if_pos (show x_fw C l i k lt p = 0 by omega)]
            exact ih (p + 1) mn le M54 (by omega) (by omega) (by omega) (by omega) f1
          | rw [if_neg (show ¬ x_fw C l i k lt p = 0 by omega)]
            first
            | rw [if_pos (show le = -5 by omega)]
              exact ih (p + 1) (mn + 1) p M54 (by omega) (by omega) (by omega) (by omega) f1
            | rw [if_neg (show ¬ le = -5 by omega)]
              exact ih (p + 1) (mn + 1) le M54 (by omega) (by omega) (by omega) (by omega) f1
  refine tr_aload_n (pc := 0) dX9_fits_0 rfl (by decide) ?_
  refine tr_iload_n (pc := 1) dX9_fits_1 rfl ?_
  refine tr_iload_n (pc := 2) dX9_fits_2 rfl ?_
  refine tr_cVi2 (pc := 3) dX9_fits_3 mtX9_noGenerator lv9_105 rfl sg0 kc9 ⟨(Nat.le_of_ble_eq_true rfl), (Nat.le_of_ble_eq_true rfl)⟩ nlX9_noGenerator (Nat.le_of_ble_eq_true rfl) ⟨(Nat.le_of_ble_eq_true rfl), (Nat.le_of_ble_eq_true rfl)⟩ (sp_X9_noGenerator) (fun r3 M3 h3 => ?_)
  obtain ⟨hr3, hM3⟩ := h3
  obtain rfl := hr3.symm
  obtain rfl := hM3.symm
  refine tr_ifne (pc := 6) (tgt := 29) dX9_fits_6 (by decide) (fun c6 => ?_) (fun c6 => ?_)
  · skip
    refine tr_iconst (pc := 29) dX9_fits_29 ⟨by decide, by decide⟩ ?_
    refine tr_ireti (pc := 30) dX9_fits_30 rfl ?_
    refine ⟨?_, tk_fr.rf⟩
    unfold x_fits
    rw [if_pos (by omega)]
  · skip
    refine tr_iload_n (pc := 9) dX9_fits_9 rfl ?_
    refine tr_iflt (pc := 10) (tgt := 29) dX9_fits_10 (by decide) (fun c10 => ?_) (fun c10 => ?_)
    · skip
      refine tr_iconst (pc := 29) dX9_fits_29 ⟨by decide, by decide⟩ ?_
      refine tr_ireti (pc := 30) dX9_fits_30 rfl ?_
      refine ⟨?_, tk_fr.rf⟩
      unfold x_fits
      rw [if_pos (by omega)]
    · skip
      refine tr_iload_n (pc := 13) dX9_fits_13 rfl ?_
      refine tr_iconst (pc := 14) dX9_fits_14 ⟨by decide, by decide⟩ ?_
      refine tr_icmpgt (pc := 15) (tgt := 29) dX9_fits_15 (by decide) (fun c15 => ?_) (fun c15 => ?_)
      · skip
        refine tr_iconst (pc := 29) dX9_fits_29 ⟨by decide, by decide⟩ ?_
        refine tr_ireti (pc := 30) dX9_fits_30 rfl ?_
        refine ⟨?_, tk_fr.rf⟩
        unfold x_fits
        rw [if_pos (by omega)]
      · skip
        refine tr_iload (pc := 18) dX9_fits_18 rfl ?_
        refine tr_iflt (pc := 20) (tgt := 29) dX9_fits_20 (by decide) (fun c20 => ?_) (fun c20 => ?_)
        · skip
          refine tr_iconst (pc := 29) dX9_fits_29 ⟨by decide, by decide⟩ ?_
          refine tr_ireti (pc := 30) dX9_fits_30 rfl ?_
          refine ⟨?_, tk_fr.rf⟩
          unfold x_fits
          rw [if_pos (by omega)]
        · skip
          refine tr_iload (pc := 23) dX9_fits_23 rfl ?_
          refine tr_iconst (pc := 25) dX9_fits_25 ⟨by decide, by decide⟩ ?_
          refine tr_icmple (pc := 26) (tgt := 31) dX9_fits_26 (by decide) (fun c26 => ?_) (fun c26 => ?_)
          · skip
            refine tr_iconst (pc := 31) dX9_fits_31 ⟨by decide, by decide⟩ ?_
            refine tr_istore (pc := 32) dX9_fits_32 rfl (Nat.le_of_ble_eq_true rfl) ?_
            dsimp only [List.set]
            refine tr_bipush (pc := 34) dX9_fits_34 ⟨by decide, ⟨by decide, by decide⟩⟩ ?_
            refine tr_istore (pc := 36) dX9_fits_36 rfl (Nat.le_of_ble_eq_true rfl) ?_
            dsimp only [List.set]
            refine tr_iconst (pc := 38) dX9_fits_38 ⟨by decide, by decide⟩ ?_
            refine tr_istore (pc := 39) dX9_fits_39 rfl (Nat.le_of_ble_eq_true rfl) ?_
            dsimp only [List.set]
            unfold x_fits
            rw [if_neg (by omega)]
            exact loop (by omega) (by omega) (by omega) 10 0 0 (-5) M (by omega) (by omega) (by omega) (by omega) tk_fr.rf
          · skip
            refine tr_iconst (pc := 29) dX9_fits_29 ⟨by decide, by decide⟩ ?_
            refine tr_ireti (pc := 30) dX9_fits_30 rfl ?_
            refine ⟨?_, tk_fr.rf⟩
            unfold x_fits
            rw [if_pos (by omega)]
/-- an EVENT -/
def ev_ap (g : List (Int × Int)) (q : Int × Int × Int) : List (Int × Int) := if q.1 = 0 then ig_addN g (q.2.1 / 10) (q.2.1 % 10) else if q.1 = 1 then (if 0 ≤ q.2.1 then g.eraseIdx q.2.1.toNat else g) else ig_les q.2.1 [] g
theorem sp_X9_happen {G : tk_G} {M : tk_M} {g : List (Int × Int)} {w n z : Int} (hg : ig_at M 87 g) (ho : ev_ok w n) : Spv G FX9_happen [xR 0, xI w, xI n] SF M (fun M' => ig_at M' 87 (ev_ap g (w, n, z)) ∧ tk_fr M M' 87 90) := by
  unfold ev_ok at ho
  unfold ev_ap
  refine Spv.of _ mtX9_happen nlX9_happen (Nat.le_of_ble_eq_true rfl) ?_
  show Ok G FX9_happen 0 [xR 0, xI w, xI n] [] SF M 0 0 _
  refine tr_iload_n (pc := 0) dX9_happen_0 rfl ?_
  rcases (by omega : w = 0 ∨ w = 1 ∨ (w ≠ 0 ∧ w ≠ 1)) with c1 | c1 | c1
  · skip
    refine tr_lookup (pc := 1) (x := w) (off := 27) (tgt := 28) dX9_happen_1 (by decide) (show Op.lookupswitch.offset [(0, 27), (1, 45)] 56 (w) = 27 by rw [Op.lookupswitch.offset_cons, if_pos (by omega)]) (by decide) ?_
    refine tr_aload_n (pc := 28) dX9_happen_28 rfl (by decide) ?_
    refine tr_getr (pc := 29) (x := 87) dX9_happen_29 fi9_49 rfl sg0 rfl ?_
    refine tr_iload_n (pc := 32) dX9_happen_32 rfl ?_
    refine tr_bipush (pc := 33) dX9_happen_33 ⟨by decide, ⟨by decide, by decide⟩⟩ ?_
    refine tr_idiv (pc := 35) dX9_happen_35 (by omega) (by omega) ?_
    refine tr_iload_n (pc := 36) dX9_happen_36 rfl ?_
    refine tr_bipush (pc := 37) dX9_happen_37 ⟨by decide, ⟨by decide, by decide⟩⟩ ?_
    refine tr_irem (pc := 39) dX9_happen_39 (by omega) (by omega) ?_
    refine tr_cVv2 (pc := 40) dX9_happen_40 mtX3_addIfNew lv9_126 rfl sg87 kc3 ⟨(Nat.le_of_ble_eq_true rfl), (Nat.le_of_ble_eq_true rfl)⟩ nlX3_addIfNew (Nat.le_of_ble_eq_true rfl) ⟨(Nat.le_of_ble_eq_true rfl), (Nat.le_of_ble_eq_true rfl)⟩ (sp_X3_addIfNew ig_s87 hg) (fun M40 h40 => ?_)
    obtain rfl := h40.symm
    have h9 := ig_addNM_at (a := n / 10) (b := n % 10) hg (by omega) (by omega) (by omega) (by omega)
    have f9 := ig_addNM_fr M 87 (n / 10) (n % 10) g
    refine tr_goto (pc := 43) (tgt := 65) dX9_happen_43 (by decide) ?_
    refine tr_vret (pc := 65) dX9_happen_65 rfl ?_
    dsimp only
    first
    | rw [if_pos (show w = 0 by omega)]
      exact ⟨h9, f9⟩
    | rw [if_neg (show ¬ w = 0 by omega), if_pos (show w = 1 by omega)]
      exact ⟨h9, f9⟩
    | rw [if_neg (show ¬ w = 0 by omega), if_neg (show ¬ w = 1 by omega)]
      exact ⟨h9, f9⟩
  · skip
    refine tr_lookup (pc := 1) (x := w) (off := 45) (tgt := 46) dX9_happen_1 (by decide) (show Op.lookupswitch.offset [(0, 27), (1, 45)] 56 (w) = 45 by rw [Op.lookupswitch.offset_cons, if_neg (by omega), Op.lookupswitch.offset_cons, if_pos (by omega)]) (by decide) ?_
    refine tr_aload_n (pc := 46) dX9_happen_46 rfl (by decide) ?_
    refine tr_getr (pc := 47) (x := 87) dX9_happen_47 fi9_49 rfl sg0 rfl ?_
    refine tr_iload_n (pc := 50) dX9_happen_50 rfl ?_
    refine tr_cVv1 (pc := 51) dX9_happen_51 mtX3_remove lv9_108 rfl sg87 kc3 ⟨(Nat.le_of_ble_eq_true rfl), (Nat.le_of_ble_eq_true rfl)⟩ nlX3_remove (Nat.le_of_ble_eq_true rfl) ⟨(Nat.le_of_ble_eq_true rfl), (Nat.le_of_ble_eq_true rfl)⟩ (sp_X3_remove ig_s87 hg) (fun M51 h51 => ?_)
    obtain ⟨h9, f9⟩ := h51
    refine tr_goto (pc := 54) (tgt := 65) dX9_happen_54 (by decide) ?_
    refine tr_vret (pc := 65) dX9_happen_65 rfl ?_
    dsimp only
    first
    | rw [if_pos (show w = 0 by omega)]
      exact ⟨h9, f9⟩
    | rw [if_neg (show ¬ w = 0 by omega), if_pos (show w = 1 by omega)]
      exact ⟨h9, f9⟩
    | rw [if_neg (show ¬ w = 0 by omega), if_neg (show ¬ w = 1 by omega)]
      exact ⟨h9, f9⟩
  · skip
    refine tr_lookup (pc := 1) (x := w) (off := 56) (tgt := 57) dX9_happen_1 (by decide) (show Op.lookupswitch.offset [(0, 27), (1, 45)] 56 (w) = 56 by rw [Op.lookupswitch.offset_cons, if_neg (by omega), Op.lookupswitch.offset_cons, if_neg (by omega)]; rfl) (by decide) ?_
    refine tr_aload_n (pc := 57) dX9_happen_57 rfl (by decide) ?_
    refine tr_getr (pc := 58) (x := 87) dX9_happen_58 fi9_49 rfl sg0 rfl ?_
    refine tr_iload_n (pc := 61) dX9_happen_61 rfl ?_
    refine tr_cVv1 (pc := 62) dX9_happen_62 mtX3_lessen lv9_367 rfl sg87 kc3 ⟨(Nat.le_of_ble_eq_true rfl), (Nat.le_of_ble_eq_true rfl)⟩ nlX3_lessen (Nat.le_of_ble_eq_true rfl) ⟨(Nat.le_of_ble_eq_true rfl), (Nat.le_of_ble_eq_true rfl)⟩ (sp_X3_lessen ig_s87 hg (by omega)) (fun M62 h62 => ?_)
    obtain ⟨h9, f9⟩ := h62
    refine tr_vret (pc := 65) dX9_happen_65 rfl ?_
    dsimp only
    first
    | rw [if_pos (show w = 0 by omega)]
      exact ⟨h9, f9⟩
    | rw [if_neg (show ¬ w = 0 by omega), if_pos (show w = 1 by omega)]
      exact ⟨h9, f9⟩
    | rw [if_neg (show ¬ w = 0 by omega), if_neg (show ¬ w = 1 by omega)]
      exact ⟨h9, f9⟩
def ev_all : List (Int × Int) → List (Int × Int × Int) → List (Int × Int)
  | g, [] => g
  | g, q :: t => ev_all (ev_ap g q) t
def x_after (C : cC) (ev : List (Int × Int × Int)) (w : Int) : Int := if ¬ (0 ≤ w ∧ w ≤ 2) then -1 else if w = 0 then (ev_all C.1 ev).length else if (ev_all C.1 ev).length = 0 then -3 else if w = 1 then (jr_ga (hl_fc (ev_all C.1 ev)) 100 0 []).length else cls1 (hl_fc (ev_all C.1 ev)) (ev_all C.1 ev) 100 0
theorem sp_X9_after {G : tk_G} {M : tk_M} {C : cC} {ev : List (Int × Int × Int)} {w : Int} (hG : gs_ok G) (hC : Cg M C) (hl : rw_at M 12 8 ev) (hok : en_ok ev) : Spi G FX9_after [xR 0, xI w] SF M (fun v M' => v = x_after C ev w ∧ fS M M') := by
  obtain ⟨d1, -, -⟩ := hC
  refine Spi.of _ mtX9_after nlX9_after (Nat.le_of_ble_eq_true rfl) ?_
  show Ok G FX9_after 0 [xR 0, xI w, xU] [] SF M 0 0 _
  have loop : (0 ≤ w ∧ w ≤ 2) → ∀ (t : List (Int × Int × Int)) (k : Int) (g : List (Int × Int)) (M1 : tk_M), 0 ≤ k → en_ok t → ig_at M1 87 g → tk_fr M M1 87 90 → rw_seg (M 13) (M 14) (M 15) (M 12 4) k t → Ok G FX9_after 28 [xR 0, xI w, xI k] [] SF M1 0 0 (tk_qi SF (fun v M' => v = (if w = 0 then ((ev_all g t).length : Int) else if (ev_all g t).length = 0 then -3 else if w = 1 then (jr_ga (hl_fc (ev_all g t)) 100 0 []).length else cls1 (hl_fc (ev_all g t)) (ev_all g t) 100 0) ∧ fS M M')) := by
    intro hw t
    induction t with
    | nil =>
      intro k g M1 hk ho hg hf hs
      have hs : k = M 12 4 := hs
      have e12 : M1 12 4 = M 12 4 := by rw [hf 12 (by omega)]
      have hgl := hg.len
      have hf2 : fS M M1 := hf.mono (by omega) (by omega)
      refine tr_iload_n (pc := 28) dX9_after_28 rfl ?_
      refine tr_aload_n (pc := 29) dX9_after_29 rfl (by decide) ?_
      refine tr_getr (pc := 30) (x := 1) dX9_after_30 fi9_12 rfl sg0 rfl ?_
      refine tr_getr (pc := 33) (x := 12) dX9_after_33 fi9_289 rfl sg1 rfl ?_
      refine tr_cVi0 (pc := 36) dX9_after_36 mtX5_size lv9_295 rfl sg12 kc5 ⟨(Nat.le_of_ble_eq_true rfl), (Nat.le_of_ble_eq_true rfl)⟩ nlX5_size (Nat.le_of_ble_eq_true rfl) ⟨(Nat.le_of_ble_eq_true rfl), (Nat.le_of_ble_eq_true rfl)⟩ (sp_X5_size rw_s12) (fun r36 M36 h36 => ?_)
      rw [e12] at h36
      obtain ⟨hr36, hM36⟩ := h36
      obtain rfl := hr36.symm
      obtain rfl := hM36.symm
      refine tr_icmpge (pc := 39) (tgt := 74) dX9_after_39 (by decide) (fun c39 => ?_) (fun c39 => absurd c39 (by omega))
      refine tr_iload_n (pc := 74) dX9_after_74 rfl ?_
      refine tr_ifne (pc := 75) (tgt := 86) dX9_after_75 (by decide) (fun c75 => ?_) (fun c75 => ?_)
      · skip
        refine tr_aload_n (pc := 86) dX9_after_86 rfl (by decide) ?_
        refine tr_getr (pc := 87) (x := 87) dX9_after_87 fi9_49 rfl sg0 rfl ?_
        refine tr_cVi0 (pc := 90) dX9_after_90 mtX3_size lv9_93 rfl sg87 kc3 ⟨(Nat.le_of_ble_eq_true rfl), (Nat.le_of_ble_eq_true rfl)⟩ nlX3_size (Nat.le_of_ble_eq_true rfl) ⟨(Nat.le_of_ble_eq_true rfl), (Nat.le_of_ble_eq_true rfl)⟩ (sp_X3_size ig_s87) (fun r90 M90 h90 => ?_)
        obtain ⟨hr90, hM90⟩ := h90
        obtain rfl := hr90.symm
        obtain rfl := hM90.symm
        refine tr_ifne (pc := 93) (tgt := 99) dX9_after_93 (by decide) (fun c93 => ?_) (fun c93 => ?_)
        · skip
          refine tr_iload_n (pc := 99) dX9_after_99 rfl ?_
          refine tr_iconst (pc := 100) dX9_after_100 ⟨by decide, by decide⟩ ?_
          refine tr_icmpne (pc := 101) (tgt := 115) dX9_after_101 (by decide) (fun c101 => ?_) (fun c101 => ?_)
          · skip
            refine tr_aload_n (pc := 115) dX9_after_115 rfl (by decide) ?_
            refine tr_aload_n (pc := 116) dX9_after_116 rfl (by decide) ?_
            refine tr_getr (pc := 117) (x := 87) dX9_after_117 fi9_49 rfl sg0 rfl ?_
            refine tr_cVi1 (pc := 120) dX9_after_120 mtX9_closedness lv9_196 rfl sg0 kc9 ⟨(Nat.le_of_ble_eq_true rfl), (Nat.le_of_ble_eq_true rfl)⟩ nlX9_closedness (Nat.le_of_ble_eq_true rfl) ⟨(Nat.le_of_ble_eq_true rfl), (Nat.le_of_ble_eq_true rfl)⟩ (sp_X9_closedness hG ig_s87 (by omega) hg (ig_ne hg (by omega))) (fun r120 M120 h120 => ?_)
            obtain ⟨hr120, f1⟩ := h120
            obtain rfl := hr120.symm
            replace f1 : fS M M120 := hf2.trans (f1.mono (by omega) (by omega))
            refine tr_ireti (pc := 123) dX9_after_123 rfl ?_
            refine ⟨?_, by first | exact f1 | exact hf2⟩
            show _ = (if w = 0 then (g.length : Int) else if g.length = 0 then -3 else if w = 1 then ((jr_ga (hl_fc g) 100 0 []).length : Int) else cls1 (hl_fc g) g 100 0)
            repeat' split
            all_goals first | rfl | omega
          · skip
            refine tr_aload_n (pc := 104) dX9_after_104 rfl (by decide) ?_
            refine tr_aload_n (pc := 105) dX9_after_105 rfl (by decide) ?_
            refine tr_getr (pc := 106) (x := 87) dX9_after_106 fi9_49 rfl sg0 rfl ?_
            refine tr_cVi1 (pc := 109) dX9_after_109 mtX9_countJumps lv9_199 rfl sg0 kc9 ⟨(Nat.le_of_ble_eq_true rfl), (Nat.le_of_ble_eq_true rfl)⟩ nlX9_countJumps (Nat.le_of_ble_eq_true rfl) ⟨(Nat.le_of_ble_eq_true rfl), (Nat.le_of_ble_eq_true rfl)⟩ (sp_X9_countJumps hG ig_s87 (by omega) hg (ig_ne hg (by omega))) (fun r109 M109 h109 => ?_)
            obtain ⟨hr109, -, f1⟩ := h109
            obtain rfl := hr109.symm
            replace f1 : fS M M109 := hf2.trans (f1.mono (by omega) (by omega))
            refine tr_goto (pc := 112) (tgt := 123) dX9_after_112 (by decide) ?_
            refine tr_ireti (pc := 123) dX9_after_123 rfl ?_
            refine ⟨?_, by first | exact f1 | exact hf2⟩
            show _ = (if w = 0 then (g.length : Int) else if g.length = 0 then -3 else if w = 1 then ((jr_ga (hl_fc g) 100 0 []).length : Int) else cls1 (hl_fc g) g 100 0)
            repeat' split
            all_goals first | rfl | omega
        · skip
          refine tr_bipush (pc := 96) dX9_after_96 ⟨by decide, ⟨by decide, by decide⟩⟩ ?_
          refine tr_ireti (pc := 98) dX9_after_98 rfl ?_
          refine ⟨?_, by first | exact f1 | exact hf2⟩
          show _ = (if w = 0 then (g.length : Int) else if g.length = 0 then -3 else if w = 1 then ((jr_ga (hl_fc g) 100 0 []).length : Int) else cls1 (hl_fc g) g 100 0)
          repeat' split
          all_goals first | rfl | omega
      · skip
        refine tr_aload_n (pc := 78) dX9_after_78 rfl (by decide) ?_
        refine tr_getr (pc := 79) (x := 87) dX9_after_79 fi9_49 rfl sg0 rfl ?_
        refine tr_cVi0 (pc := 82) dX9_after_82 mtX3_size lv9_93 rfl sg87 kc3 ⟨(Nat.le_of_ble_eq_true rfl), (Nat.le_of_ble_eq_true rfl)⟩ nlX3_size (Nat.le_of_ble_eq_true rfl) ⟨(Nat.le_of_ble_eq_true rfl), (Nat.le_of_ble_eq_true rfl)⟩ (sp_X3_size ig_s87) (fun r82 M82 h82 => ?_)
        obtain ⟨hr82, hM82⟩ := h82
        obtain rfl := hr82.symm
        obtain rfl := hM82.symm
        refine tr_ireti (pc := 85) dX9_after_85 rfl ?_
        refine ⟨?_, by first | exact f1 | exact hf2⟩
        show _ = (if w = 0 then (g.length : Int) else if g.length = 0 then -3 else if w = 1 then ((jr_ga (hl_fc g) 100 0 []).length : Int) else cls1 (hl_fc g) g 100 0)
        repeat' split
        all_goals first | rfl | omega
    | cons q t ih =>
      intro k g M1 hk ho hg hf hs
      obtain ⟨ew, en, ez⟩ := q
      obtain ⟨e1, e2, e3, hlt, hs⟩ := hs
      have hq : ev_ok ew en := ho (ew, en, ez) List.mem_cons_self
      have e12 : M1 12 = M 12 := hf 12 (by omega)
      have e13 : M1 13 = M 13 := hf 13 (by omega)
      have e14 : M1 14 = M 14 := hf 14 (by omega)
      have h8 : M1 12 4 ≤ (8 : Nat) := by rw [e12]; exact hl.2.1
      have hlt1 : k < M1 12 4 := by rw [e12]; exact hlt
      refine tr_iload_n (pc := 28) dX9_after_28 rfl ?_
      refine tr_aload_n (pc := 29) dX9_after_29 rfl (by decide) ?_
      refine tr_getr (pc := 30) (x := 1) dX9_after_30 fi9_12 rfl sg0 rfl ?_
      refine tr_getr (pc := 33) (x := 12) dX9_after_33 fi9_289 rfl sg1 rfl ?_
      refine tr_cVi0 (pc := 36) dX9_after_36 mtX5_size lv9_295 rfl sg12 kc5 ⟨(Nat.le_of_ble_eq_true rfl), (Nat.le_of_ble_eq_true rfl)⟩ nlX5_size (Nat.le_of_ble_eq_true rfl) ⟨(Nat.le_of_ble_eq_true rfl), (Nat.le_of_ble_eq_true rfl)⟩ (sp_X5_size rw_s12) (fun r36 M36 h36 => ?_)
      obtain ⟨hr36, hM36⟩ := h36
      obtain rfl := hr36.symm
      obtain rfl := hM36.symm
      refine tr_icmpge (pc := 39) (tgt := 74) dX9_after_39 (by decide) (fun c39 => absurd c39 (by omega)) (fun c39 => ?_)
      refine tr_aload_n (pc := 42) dX9_after_42 rfl (by decide) ?_
      refine tr_aload_n (pc := 43) dX9_after_43 rfl (by decide) ?_
      refine tr_getr (pc := 44) (x := 1) dX9_after_44 fi9_12 rfl sg0 rfl ?_
      refine tr_getr (pc := 47) (x := 12) dX9_after_47 fi9_289 rfl sg1 rfl ?_
      refine tr_iload_n (pc := 50) dX9_after_50 rfl ?_
      refine tr_cVi1 (pc := 51) dX9_after_51 mtX5_first lv9_296 rfl sg12 kc5 ⟨(Nat.le_of_ble_eq_true rfl), (Nat.le_of_ble_eq_true rfl)⟩ nlX5_first (Nat.le_of_ble_eq_true rfl) ⟨(Nat.le_of_ble_eq_true rfl), (Nat.le_of_ble_eq_true rfl)⟩ (sp_X5_first rw_s12 h8 hk hlt1) (fun r51 M51 h51 => ?_)
      obtain ⟨hr51, hM51⟩ := h51
      replace hr51 : r51 = ew := hr51.trans (by show M1 13 k = ew; rw [e13]; exact e1)
      obtain rfl := hr51.symm
      obtain rfl := hM51.symm
      refine tr_aload_n (pc := 54) dX9_after_54 rfl (by decide) ?_
      refine tr_getr (pc := 55) (x := 1) dX9_after_55 fi9_12 rfl sg0 rfl ?_
      refine tr_getr (pc := 58) (x := 12) dX9_after_58 fi9_289 rfl sg1 rfl ?_
      refine tr_iload_n (pc := 61) dX9_after_61 rfl ?_
      refine tr_cVi1 (pc := 62) dX9_after_62 mtX5_second lv9_299 rfl sg12 kc5 ⟨(Nat.le_of_ble_eq_true rfl), (Nat.le_of_ble_eq_true rfl)⟩ nlX5_second (Nat.le_of_ble_eq_true rfl) ⟨(Nat.le_of_ble_eq_true rfl), (Nat.le_of_ble_eq_true rfl)⟩ (sp_X5_second rw_s12 h8 hk hlt1) (fun r62 M62 h62 => ?_)
      obtain ⟨hr62, hM62⟩ := h62
      replace hr62 : r62 = en := hr62.trans (by show M1 14 k = en; rw [e14]; exact e2)
      obtain rfl := hr62.symm
      obtain rfl := hM62.symm
      refine tr_cVv2 (pc := 65) dX9_after_65 mtX9_happen lv9_302 rfl sg0 kc9 ⟨(Nat.le_of_ble_eq_true rfl), (Nat.le_of_ble_eq_true rfl)⟩ nlX9_happen (Nat.le_of_ble_eq_true rfl) ⟨(Nat.le_of_ble_eq_true rfl), (Nat.le_of_ble_eq_true rfl)⟩ (sp_X9_happen (z := ez) hg hq) (fun M65 h65 => ?_)
      obtain ⟨h9, f9⟩ := h65
      have h88 : M1 12 4 ≤ 8 := h8
      refine tr_iinc (pc := 68) dX9_after_68 rfl rfl ⟨by omega, by omega⟩ ?_
      dsimp only [List.set]
      refine tr_goto (pc := 71) (tgt := 28) dX9_after_71 (by decide) ?_
      exact ih (k + 1) _ M65 (by omega) (fun z hz => ho z (List.mem_cons_of_mem _ hz)) h9 (hf.trans f9) hs
  refine tr_iload_n (pc := 0) dX9_after_0 rfl ?_
  refine tr_iflt (pc := 1) (tgt := 9) dX9_after_1 (by decide) (fun c1 => ?_) (fun c1 => ?_)
  · skip
    refine tr_iconst (pc := 9) dX9_after_9 ⟨by decide, by decide⟩ ?_
    refine tr_ireti (pc := 10) dX9_after_10 rfl ?_
    refine ⟨?_, tk_fr.rf⟩
    unfold x_after
    rw [if_pos (by omega)]
  · skip
    refine tr_iload_n (pc := 4) dX9_after_4 rfl ?_
    refine tr_iconst (pc := 5) dX9_after_5 ⟨by decide, by decide⟩ ?_
    refine tr_icmple (pc := 6) (tgt := 11) dX9_after_6 (by decide) (fun c6 => ?_) (fun c6 => ?_)
    · skip
      refine tr_aload_n (pc := 11) dX9_after_11 rfl (by decide) ?_
      refine tr_getr (pc := 12) (x := 87) dX9_after_12 fi9_49 rfl sg0 rfl ?_
      refine tr_aload_n (pc := 15) dX9_after_15 rfl (by decide) ?_
      refine tr_getr (pc := 16) (x := 1) dX9_after_16 fi9_12 rfl sg0 rfl ?_
      refine tr_iconst (pc := 19) dX9_after_19 ⟨by decide, by decide⟩ ?_
      refine tr_cVr1 (pc := 20) dX9_after_20 mtX8_ideal lv9_85 rfl sg1 kc8 ⟨(Nat.le_of_ble_eq_true rfl), (Nat.le_of_ble_eq_true rfl)⟩ nlX8_ideal (Nat.le_of_ble_eq_true rfl) ⟨(Nat.le_of_ble_eq_true rfl), (Nat.le_of_ble_eq_true rfl)⟩ (sp_n0) (fun r20 M20 h20 => ?_)
      obtain ⟨hr20, hM20⟩ := h20
      obtain rfl := hr20.symm
      obtain rfl := hM20.symm
      refine tr_cVv1 (pc := 23) dX9_after_23 mtX3_copy lv9_136 rfl sg87 kc3 ⟨(Nat.le_of_ble_eq_true rfl), (Nat.le_of_ble_eq_true rfl)⟩ nlX3_copy (Nat.le_of_ble_eq_true rfl) ⟨(Nat.le_of_ble_eq_true rfl), (Nat.le_of_ble_eq_true rfl)⟩ (sp_X3_copy ig_s87 ig_s2 (by omega) d1) (fun M23 h23 => ?_)
      obtain ⟨a1, f1⟩ := h23
      refine tr_iconst (pc := 26) dX9_after_26 ⟨by decide, by decide⟩ ?_
      refine tr_istore_n (pc := 27) dX9_after_27 rfl (Nat.le_of_ble_eq_true rfl) ?_
      dsimp only [List.set]
      unfold x_after
      rw [if_neg (by omega)]
      exact loop (by omega) ev 0 _ M23 (by omega) hok a1 f1 hl.1
    · skip
      refine tr_iconst (pc := 9) dX9_after_9 ⟨by decide, by decide⟩ ?_
      refine tr_ireti (pc := 10) dX9_after_10 rfl ?_
      refine ⟨?_, tk_fr.rf⟩
      unfold x_after
      rw [if_pos (by omega)]
def x_lk (g : List (Int × Int)) : Int → List (Int × Int × Int) → Int
  | _, [] => -5
  | k, (t, v, _) :: u => if ig_in (t / 10) (t % 10) g = v then x_lk g (k + 1) u else k
theorem sp_X9_looked {G : tk_G} {M : tk_M} {C : cC} {bk : List (Int × Int × Int)} (hC : Cg M C) (hl : rw_at M 16 8 bk) (hok : bk_ok bk) : Spi G FX9_looked [xR 0] SF M (fun v M' => v = x_lk C.1 0 bk ∧ M' = M) := by
  obtain ⟨c1, -, -⟩ := hC
  have h8 := hl.2.1
  refine Spi.of _ mtX9_looked nlX9_looked (Nat.le_of_ble_eq_true rfl) ?_
  show Ok G FX9_looked 0 [xR 0, xU, xU, xU] [] SF M 0 0 _
  have loop : ∀ (u : List (Int × Int × Int)) (k : Int) (v2 v3 : tk_V), 0 ≤ k → bk_ok u → rw_seg (M 17) (M 18) (M 19) (M 16 4) k u → Ok G FX9_looked 2 [xR 0, xI k, v2, v3] [] SF M 0 0 (tk_qi SF (fun v M' => v = x_lk C.1 k u ∧ M' = M)) := by
    intro u
    induction u with
    | nil =>
      intro k v2 v3 hk ho hs
      have hs : k = M 16 4 := hs
      refine tr_iload_n (pc := 2) dX9_looked_2 rfl ?_
      refine tr_aload_n (pc := 3) dX9_looked_3 rfl (by decide) ?_
      refine tr_getr (pc := 4) (x := 1) dX9_looked_4 fi9_12 rfl sg0 rfl ?_
      refine tr_getr (pc := 7) (x := 16) dX9_looked_7 fi9_305 rfl sg1 rfl ?_
      refine tr_cVi0 (pc := 10) dX9_looked_10 mtX5_size lv9_295 rfl sg16 kc5 ⟨(Nat.le_of_ble_eq_true rfl), (Nat.le_of_ble_eq_true rfl)⟩ nlX5_size (Nat.le_of_ble_eq_true rfl) ⟨(Nat.le_of_ble_eq_true rfl), (Nat.le_of_ble_eq_true rfl)⟩ (sp_X5_size rw_s16) (fun r10 M10 h10 => ?_)
      obtain ⟨hr10, hM10⟩ := h10
      obtain rfl := hr10.symm
      obtain rfl := hM10.symm
      refine tr_icmpge (pc := 13) (tgt := 79) dX9_looked_13 (by decide) (fun c13 => ?_) (fun c13 => absurd c13 (by omega))
      refine tr_bipush (pc := 79) dX9_looked_79 ⟨by decide, ⟨by decide, by decide⟩⟩ ?_
      refine tr_ireti (pc := 81) dX9_looked_81 rfl ?_
      exact ⟨rfl, rfl⟩
    | cons q u ih =>
      intro k v2 v3 hk ho hs
      obtain ⟨t, v, z⟩ := q
      obtain ⟨e1, e2, e3, hlt, hs⟩ := hs
      have hq : (0 ≤ t ∧ t ≤ 99) ∧ (0 ≤ v ∧ v ≤ 1) := ho (t, v, z) List.mem_cons_self
      have h01 := ig_in01 (t / 10) (t % 10) C.1
      refine tr_iload_n (pc := 2) dX9_looked_2 rfl ?_
      refine tr_aload_n (pc := 3) dX9_looked_3 rfl (by decide) ?_
      refine tr_getr (pc := 4) (x := 1) dX9_looked_4 fi9_12 rfl sg0 rfl ?_
      refine tr_getr (pc := 7) (x := 16) dX9_looked_7 fi9_305 rfl sg1 rfl ?_
      refine tr_cVi0 (pc := 10) dX9_looked_10 mtX5_size lv9_295 rfl sg16 kc5 ⟨(Nat.le_of_ble_eq_true rfl), (Nat.le_of_ble_eq_true rfl)⟩ nlX5_size (Nat.le_of_ble_eq_true rfl) ⟨(Nat.le_of_ble_eq_true rfl), (Nat.le_of_ble_eq_true rfl)⟩ (sp_X5_size rw_s16) (fun r10 M10 h10 => ?_)
      obtain ⟨hr10, hM10⟩ := h10
      obtain rfl := hr10.symm
      obtain rfl := hM10.symm
      refine tr_icmpge (pc := 13) (tgt := 79) dX9_looked_13 (by decide) (fun c13 => absurd c13 (by omega)) (fun c13 => ?_)
      refine tr_aload_n (pc := 16) dX9_looked_16 rfl (by decide) ?_
      refine tr_getr (pc := 17) (x := 1) dX9_looked_17 fi9_12 rfl sg0 rfl ?_
      refine tr_getr (pc := 20) (x := 16) dX9_looked_20 fi9_305 rfl sg1 rfl ?_
      refine tr_iload_n (pc := 23) dX9_looked_23 rfl ?_
      refine tr_cVi1 (pc := 24) dX9_looked_24 mtX5_first lv9_296 rfl sg16 kc5 ⟨(Nat.le_of_ble_eq_true rfl), (Nat.le_of_ble_eq_true rfl)⟩ nlX5_first (Nat.le_of_ble_eq_true rfl) ⟨(Nat.le_of_ble_eq_true rfl), (Nat.le_of_ble_eq_true rfl)⟩ (sp_X5_first rw_s16 h8 hk hlt) (fun r24 M24 h24 => ?_)
      obtain ⟨hr24, hM24⟩ := h24
      replace hr24 : r24 = t := hr24.trans e1
      obtain rfl := hr24.symm
      obtain rfl := hM24.symm
      refine tr_istore_n (pc := 27) dX9_looked_27 rfl (Nat.le_of_ble_eq_true rfl) ?_
      dsimp only [List.set]
      refine tr_aload_n (pc := 28) dX9_looked_28 rfl (by decide) ?_
      refine tr_getr (pc := 29) (x := 1) dX9_looked_29 fi9_12 rfl sg0 rfl ?_
      refine tr_iconst (pc := 32) dX9_looked_32 ⟨by decide, by decide⟩ ?_
      refine tr_cVr1 (pc := 33) dX9_looked_33 mtX8_ideal lv9_85 rfl sg1 kc8 ⟨(Nat.le_of_ble_eq_true rfl), (Nat.le_of_ble_eq_true rfl)⟩ nlX8_ideal (Nat.le_of_ble_eq_true rfl) ⟨(Nat.le_of_ble_eq_true rfl), (Nat.le_of_ble_eq_true rfl)⟩ (sp_n0) (fun r33 M33 h33 => ?_)
      obtain ⟨hr33, hM33⟩ := h33
      obtain rfl := hr33.symm
      obtain rfl := hM33.symm
      refine tr_iload_n (pc := 36) dX9_looked_36 rfl ?_
      refine tr_bipush (pc := 37) dX9_looked_37 ⟨by decide, ⟨by decide, by decide⟩⟩ ?_
      refine tr_idiv (pc := 39) dX9_looked_39 (by omega) (by omega) ?_
      refine tr_iload_n (pc := 40) dX9_looked_40 rfl ?_
      refine tr_bipush (pc := 41) dX9_looked_41 ⟨by decide, ⟨by decide, by decide⟩⟩ ?_
      refine tr_irem (pc := 43) dX9_looked_43 (by omega) (by omega) ?_
      refine tr_cVi2 (pc := 44) dX9_looked_44 mtX3_contains lv9_202 rfl sg2 kc3 ⟨(Nat.le_of_ble_eq_true rfl), (Nat.le_of_ble_eq_true rfl)⟩ nlX3_contains (Nat.le_of_ble_eq_true rfl) ⟨(Nat.le_of_ble_eq_true rfl), (Nat.le_of_ble_eq_true rfl)⟩ (sp_X3_contains ig_s2 c1) (fun r44 M44 h44 => ?_)
      obtain ⟨hr44, hM44⟩ := h44
      obtain rfl := hr44.symm
      obtain rfl := hM44.symm
      refine tr_ifeq (pc := 47) (tgt := 54) dX9_looked_47 (by decide) (fun c47 => ?_) (fun c47 => ?_)
      · skip
        refine tr_iconst (pc := 54) dX9_looked_54 ⟨by decide, by decide⟩ ?_
        refine tr_istore_n (pc := 55) dX9_looked_55 rfl (Nat.le_of_ble_eq_true rfl) ?_
        dsimp only [List.set]
        refine tr_iload_n (pc := 56) dX9_looked_56 rfl ?_
        refine tr_aload_n (pc := 57) dX9_looked_57 rfl (by decide) ?_
        refine tr_getr (pc := 58) (x := 1) dX9_looked_58 fi9_12 rfl sg0 rfl ?_
        refine tr_getr (pc := 61) (x := 16) dX9_looked_61 fi9_305 rfl sg1 rfl ?_
        refine tr_iload_n (pc := 64) dX9_looked_64 rfl ?_
        refine tr_cVi1 (pc := 65) dX9_looked_65 mtX5_second lv9_299 rfl sg16 kc5 ⟨(Nat.le_of_ble_eq_true rfl), (Nat.le_of_ble_eq_true rfl)⟩ nlX5_second (Nat.le_of_ble_eq_true rfl) ⟨(Nat.le_of_ble_eq_true rfl), (Nat.le_of_ble_eq_true rfl)⟩ (sp_X5_second rw_s16 h8 hk hlt) (fun r65 M65 h65 => ?_)
        obtain ⟨hr65, hM65⟩ := h65
        replace hr65 : r65 = v := hr65.trans e2
        obtain rfl := hr65.symm
        obtain rfl := hM65.symm
        refine tr_icmpeq (pc := 68) (tgt := 73) dX9_looked_68 (by decide) (fun c68 => ?_) (fun c68 => ?_)
        · skip
          have h88 : M 16 4 ≤ 8 := h8
          refine tr_iinc (pc := 73) dX9_looked_73 rfl rfl ⟨by omega, by omega⟩ ?_
          dsimp only [List.set]
          refine tr_goto (pc := 76) (tgt := 2) dX9_looked_76 (by decide) ?_
          unfold x_lk
          rw [if_pos (by omega)]
          exact ih (k + 1) _ _ (by omega) (fun z hz => ho z (List.mem_cons_of_mem _ hz)) hs
        · skip
          refine tr_iload_n (pc := 71) dX9_looked_71 rfl ?_
          refine tr_ireti (pc := 72) dX9_looked_72 rfl ?_
          exact ⟨(if_neg (by omega)).symm, rfl⟩
      · skip
        refine tr_iconst (pc := 50) dX9_looked_50 ⟨by decide, by decide⟩ ?_
        refine tr_goto (pc := 51) (tgt := 55) dX9_looked_51 (by decide) ?_
        refine tr_istore_n (pc := 55) dX9_looked_55 rfl (Nat.le_of_ble_eq_true rfl) ?_
        dsimp only [List.set]
        refine tr_iload_n (pc := 56) dX9_looked_56 rfl ?_
        refine tr_aload_n (pc := 57) dX9_looked_57 rfl (by decide) ?_
        refine tr_getr (pc := 58) (x := 1) dX9_looked_58 fi9_12 rfl sg0 rfl ?_
        refine tr_getr (pc := 61) (x := 16) dX9_looked_61 fi9_305 rfl sg1 rfl ?_
        refine tr_iload_n (pc := 64) dX9_looked_64 rfl ?_
        refine tr_cVi1 (pc := 65) dX9_looked_65 mtX5_second lv9_299 rfl sg16 kc5 ⟨(Nat.le_of_ble_eq_true rfl), (Nat.le_of_ble_eq_true rfl)⟩ nlX5_second (Nat.le_of_ble_eq_true rfl) ⟨(Nat.le_of_ble_eq_true rfl), (Nat.le_of_ble_eq_true rfl)⟩ (sp_X5_second rw_s16 h8 hk hlt) (fun r65 M65 h65 => ?_)
        obtain ⟨hr65, hM65⟩ := h65
        replace hr65 : r65 = v := hr65.trans e2
        obtain rfl := hr65.symm
        obtain rfl := hM65.symm
        refine tr_icmpeq (pc := 68) (tgt := 73) dX9_looked_68 (by decide) (fun c68 => ?_) (fun c68 => ?_)
        · skip
          have h88 : M 16 4 ≤ 8 := h8
          refine tr_iinc (pc := 73) dX9_looked_73 rfl rfl ⟨by omega, by omega⟩ ?_
          dsimp only [List.set]
          refine tr_goto (pc := 76) (tgt := 2) dX9_looked_76 (by decide) ?_
          unfold x_lk
          rw [if_pos (by omega)]
          exact ih (k + 1) _ _ (by omega) (fun z hz => ho z (List.mem_cons_of_mem _ hz)) hs
        · skip
          refine tr_iload_n (pc := 71) dX9_looked_71 rfl ?_
          refine tr_ireti (pc := 72) dX9_looked_72 rfl ?_
          exact ⟨(if_neg (by omega)).symm, rfl⟩
  refine tr_iconst (pc := 0) dX9_looked_0 ⟨by decide, by decide⟩ ?_
  refine tr_istore_n (pc := 1) dX9_looked_1 rfl (Nat.le_of_ble_eq_true rfl) ?_
  dsimp only [List.set]
  exact loop bk 0 _ _ (by omega) hok hl.1
