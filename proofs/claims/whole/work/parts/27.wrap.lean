/-- the weights of Hull.S and Hull.T -/
def dS : List Int := [9, 8, 7, 6, 5, 9, 4, 7, 3, 8, 5, 7, 9, 2, 9, 7, 5, 8, 3, 7, 4, 9, 5, 6, 7, 8, 9, 1, 8, 7, 6, 5, 4, 7, 3, 5, 2, 5, 3, 4, 5, 1, 4, 3, 2, 3, 1, 2, 1, 2, 1, 1, 1, 1, 1]
def dT : List Int := [1, 1, 1, 1, 1, 2, 1, 2, 1, 3, 2, 3, 4, 1, 5, 4, 3, 5, 2, 5, 3, 7, 4, 5, 6, 7, 8, 1, 9, 8, 7, 6, 5, 9, 4, 7, 3, 8, 5, 7, 9, 2, 9, 7, 5, 8, 3, 7, 4, 9, 5, 6, 7, 8, 9]
def dirs : List (Int × Int) := [(9, 1), (8, 1), (7, 1), (6, 1), (5, 1), (9, 2), (4, 1), (7, 2), (3, 1), (8, 3), (5, 2), (7, 3), (9, 4), (2, 1), (9, 5), (7, 4), (5, 3), (8, 5), (3, 2), (7, 5), (4, 3), (9, 7), (5, 4), (6, 5), (7, 6), (8, 7), (9, 8), (1, 1), (8, 9), (7, 8), (6, 7), (5, 6), (4, 5), (7, 9), (3, 4), (5, 7), (2, 3), (5, 8), (3, 5), (4, 7), (5, 9), (1, 2), (4, 9), (3, 7), (2, 5), (3, 8), (1, 3), (2, 7), (1, 4), (2, 9), (1, 5), (1, 6), (1, 7), (1, 8), (1, 9)]
def dSf (i : Int) : Int := dS.getD i.toNat 0
def dTf (i : Int) : Int := dT.getD i.toNat 0
def gs_ok (G : tk_G) : Prop := G.2.2.2.2 1 = dS ∧ G.2.2.2.2 2 = dT
theorem gs_len1 {G : tk_G} (h : gs_ok G) : ((G.2.2.2.2 (Int.toNat 1)).length : Int) = 55 := by
  show ((G.2.2.2.2 1).length : Int) = 55
  rw [h.1]; rfl
theorem gs_len2 {G : tk_G} (h : gs_ok G) : ((G.2.2.2.2 (Int.toNat 2)).length : Int) = 55 := by
  show ((G.2.2.2.2 2).length : Int) = 55
  rw [h.2]; rfl
theorem gs_at1 {G : tk_G} (h : gs_ok G) (i : Int) : (G.2.2.2.2 (Int.toNat 1)).getD i.toNat 0 = dSf i := by
  show (G.2.2.2.2 1).getD i.toNat 0 = dSf i
  rw [h.1]; rfl
theorem gs_at2 {G : tk_G} (h : gs_ok G) (i : Int) : (G.2.2.2.2 (Int.toNat 2)).getD i.toNat 0 = dTf i := by
  show (G.2.2.2.2 2).getD i.toNat 0 = dTf i
  rw [h.2]; rfl
theorem dirs_seg : ig_seg dSf dTf 55 0 dirs := by
  unfold dirs
  repeat' (first | exact rfl | refine ⟨rfl, rfl, by decide, by decide, by decide, by decide, by decide, ?_⟩)
theorem ig_lw_bd {s t : Int} (hs0 : 0 ≤ s) (ht0 : 0 ≤ t) : ∀ (g : List (Int × Int)) (acc : Int), (∀ q ∈ g, 0 ≤ q.1 ∧ q.1 ≤ 9 ∧ 0 ≤ q.2 ∧ q.2 ≤ 9) → 0 ≤ acc → 0 ≤ ig_lw s t acc g ∧ ig_lw s t acc g ≤ acc ∧ ∀ q ∈ g, ig_lw s t acc g ≤ s * q.1 + t * q.2 := by
  intro g
  induction g with
  | nil => intro acc _ h; exact ⟨h, Int.le_refl _, fun q hq => by cases hq⟩
  | cons q u ih =>
    intro acc hb h
    obtain ⟨p, q⟩ := q
    have hq : 0 ≤ p ∧ p ≤ 9 ∧ 0 ≤ q ∧ q ≤ 9 := hb (p, q) List.mem_cons_self
    have m1 := Int.mul_nonneg hs0 hq.1
    have m2 := Int.mul_nonneg ht0 hq.2.2.1
    have h1 := ih (min acc (s * p + t * q)) (fun z hz => hb z (List.mem_cons_of_mem _ hz)) (by omega)
    unfold ig_lw
    refine ⟨h1.1, by omega, fun z hz => ?_⟩
    rcases List.mem_cons.mp hz with h2 | h2
    · subst h2; show _ ≤ s * p + t * q; omega
    · exact h1.2.2 z h2
def lvl (s t : Int) (g : List (Int × Int)) : Int := ig_lw s t 2147483647 g
theorem lvl_bd {s t : Int} {g : List (Int × Int)} (hs : 0 ≤ s ∧ s ≤ 9) (ht : 0 ≤ t ∧ t ≤ 9) (hb : ∀ q ∈ g, 0 ≤ q.1 ∧ q.1 ≤ 9 ∧ 0 ≤ q.2 ∧ q.2 ≤ 9) (hne : g ≠ []) : 0 ≤ lvl s t g ∧ lvl s t g ≤ 162 := by
  have h := ig_lw_bd hs.1 ht.1 g 2147483647 hb (by omega)
  obtain ⟨q, hq⟩ := List.exists_mem_of_ne_nil g hne
  have h1 := h.2.2 q hq
  have h2 := hb q hq
  have m1 := mul99 hs.1 hs.2 h2.1 h2.2.1
  have m2 := mul99 ht.1 ht.2 h2.2.2.1 h2.2.2.2
  exact ⟨h.1, by show ig_lw s t 2147483647 g ≤ 162; omega⟩
def hl_fd (g : List (Int × Int)) : List (Int × Int) → List (Int × Int × Int) → List (Int × Int × Int)
  | [], F => F
  | (s, t) :: ds, F => hl_fd g ds (if 2 ≤ ig_cw s t (lvl s t g) 0 g then hl_add F (s, t, lvl s t g) else F)
def hl_fc (g : List (Int × Int)) : List (Int × Int × Int) := hl_add (hl_fd g dirs (hl_add [] (1, 0, lvl 1 0 g))) (0, 1, lvl 0 1 g)
theorem sp_X2_wrap {G : tk_G} {M : tk_M} {r : Int} {g : List (Int × Int)} (hG : gs_ok G) (hr : ig_s r) (hap : r + 3 ≤ 90 ∨ 94 ≤ r) (hg : ig_at M r g) (hne : g ≠ []) : Spv G FX2_wrap [xR 90, xR r] SF M (fun M' => hl_at M' (hl_fc g) ∧ tk_fr M M' 90 94) := by
  have hr0 := hr.1
  have hrq := hr.2.1
  have hbd := hg.bd
  have hln := hg.len
  have hpos : 0 < g.length := List.length_pos_iff.mpr hne
  have e0 : tk_mu M 90 3 0 r 2 = M r 2 := by rw [tk_mu_c (by omega)]
  have hg0 : ig_at (tk_mu M 90 3 0) r g := hg.fr (tk_mu_c (by omega)) (tk_mu_c (by omega)) (tk_mu_c (by omega))
  have hl0 : hl_at (tk_mu M 90 3 0) [] := by unfold hl_at; rw [tk_mu_at]; exact ⟨rfl, by omega⟩
  have f0 : tk_fr M (tk_mu M 90 3 0) 90 94 := tk_fr.rf.mu (by omega) (by omega)
  have b10 := lvl_bd (s := 1) (t := 0) (by omega) (by omega) hbd hne
  have b01 := lvl_bd (s := 0) (t := 1) (by omega) (by omega) hbd hne
  refine Spv.of _ mtX2_wrap nlX2_wrap (Nat.le_of_ble_eq_true rfl) ?_
  show Ok G FX2_wrap 0 [xR 90, xR r, xU, xU] [] SF M 0 0 _
  have loop : ∀ (ds : List (Int × Int)) (w : Int) (F : List (Int × Int × Int)) (M1 : tk_M) (v3 : tk_V), 0 ≤ w → ig_seg dSf dTf 55 w ds → hl_at M1 F → tk_fr M M1 90 94 → Ok G FX2_wrap 27 [xR 90, xR r, xI w, v3] [] SF M1 0 0 (tk_qv SF (fun M' => hl_at M' (hl_add (hl_fd g ds F) (0, 1, lvl 0 1 g)) ∧ tk_fr M M' 90 94)) := by
    intro ds
    induction ds with
    | nil =>
      intro w F M1 v3 hw hs hF hf
      have hs : w = 55 := hs
      have hg1 : ig_at M1 r g := hg.frame hf (by omega)
      have hl1 := hF.len
      refine tr_iload_n (pc := 27) dX2_wrap_27 rfl ?_
      refine tr_getS (pc := 28) dX2_wrap_28 fs2_38 rfl ?_
      refine tr_slen (pc := 31) dX2_wrap_31 ⟨by decide, by decide⟩ (gs_len1 hG) ?_
      refine tr_icmpge (pc := 32) (tgt := 98) dX2_wrap_32 (by decide) (fun c32 => ?_) (fun c32 => absurd c32 (by omega))
      refine tr_aload_n (pc := 98) dX2_wrap_98 rfl (by decide) ?_
      refine tr_iconst (pc := 99) dX2_wrap_99 ⟨by decide, by decide⟩ ?_
      refine tr_iconst (pc := 100) dX2_wrap_100 ⟨by decide, by decide⟩ ?_
      refine tr_aload_n (pc := 101) dX2_wrap_101 rfl (by omega) ?_
      refine tr_iconst (pc := 102) dX2_wrap_102 ⟨by decide, by decide⟩ ?_
      refine tr_iconst (pc := 103) dX2_wrap_103 ⟨by decide, by decide⟩ ?_
      refine tr_cVi2 (pc := 104) dX2_wrap_104 mtX3_leastWeight lv2_30 rfl (by assumption) kc3 ⟨(Nat.le_of_ble_eq_true rfl), (Nat.le_of_ble_eq_true rfl)⟩ nlX3_leastWeight (Nat.le_of_ble_eq_true rfl) ⟨(Nat.le_of_ble_eq_true rfl), (Nat.le_of_ble_eq_true rfl)⟩ (sp_X3_leastWeight hr hg1 hne (by omega) (by omega) (by omega) (by omega)) (fun r104 M104 h104 => ?_)
      obtain ⟨hr104, hM104⟩ := h104
      obtain rfl := hr104.symm
      obtain rfl := hM104.symm
      refine tr_cVv3 (pc := 107) dX2_wrap_107 mtX2_add lv2_34 rfl sg90 kc2 ⟨(Nat.le_of_ble_eq_true rfl), (Nat.le_of_ble_eq_true rfl)⟩ nlX2_add (Nat.le_of_ble_eq_true rfl) ⟨(Nat.le_of_ble_eq_true rfl), (Nat.le_of_ble_eq_true rfl)⟩ (sp_X2_add (by omega)) (fun M107 h107 => ?_)
      obtain rfl := h107.symm
      refine tr_vret (pc := 110) dX2_wrap_110 rfl ?_
      exact ⟨hl_addM_at hF (by omega) (by omega) b01, hf.trans (hl_addM_fr M1 _ _ _)⟩
    | cons q ds ih =>
      intro w F M1 v3 hw hs hF hf
      obtain ⟨s, t⟩ := q
      obtain ⟨e1, e2, c1, c2, c3, c4, hlt, hs⟩ := hs
      have hg1 : ig_at M1 r g := hg.frame hf (by omega)
      have hl1 := hF.len
      have bst := lvl_bd (s := s) (t := t) (by omega) (by omega) hbd hne
      have a1 := (gs_at1 hG w).trans e1
      have a2 := (gs_at2 hG w).trans e2
      refine tr_iload_n (pc := 27) dX2_wrap_27 rfl ?_
      refine tr_getS (pc := 28) dX2_wrap_28 fs2_38 rfl ?_
      refine tr_slen (pc := 31) dX2_wrap_31 ⟨by decide, by decide⟩ (gs_len1 hG) ?_
      refine tr_icmpge (pc := 32) (tgt := 98) dX2_wrap_32 (by decide) (fun c32 => absurd c32 (by omega)) (fun c32 => ?_)
      refine tr_iload_n (pc := 35) dX2_wrap_35 rfl ?_
      refine tr_getT (pc := 36) dX2_wrap_36 fs2_41 rfl ?_
      refine tr_slen (pc := 39) dX2_wrap_39 ⟨by decide, by decide⟩ (gs_len2 hG) ?_
      refine tr_icmpge (pc := 40) (tgt := 98) dX2_wrap_40 (by decide) (fun c40 => absurd c40 (by omega)) (fun c40 => ?_)
      refine tr_aload_n (pc := 43) dX2_wrap_43 rfl (by omega) ?_
      refine tr_getS (pc := 44) dX2_wrap_44 fs2_38 rfl ?_
      refine tr_iload_n (pc := 47) dX2_wrap_47 rfl ?_
      refine tr_sald (pc := 48) dX2_wrap_48 ⟨by decide, by decide⟩ (by omega) (by rw [gs_len1 hG]; omega) a1 ?_
      refine tr_getT (pc := 49) dX2_wrap_49 fs2_41 rfl ?_
      refine tr_iload_n (pc := 52) dX2_wrap_52 rfl ?_
      refine tr_sald (pc := 53) dX2_wrap_53 ⟨by decide, by decide⟩ (by omega) (by rw [gs_len2 hG]; omega) a2 ?_
      refine tr_cVi2 (pc := 54) dX2_wrap_54 mtX3_leastWeight lv2_30 rfl (by assumption) kc3 ⟨(Nat.le_of_ble_eq_true rfl), (Nat.le_of_ble_eq_true rfl)⟩ nlX3_leastWeight (Nat.le_of_ble_eq_true rfl) ⟨(Nat.le_of_ble_eq_true rfl), (Nat.le_of_ble_eq_true rfl)⟩ (sp_X3_leastWeight hr hg1 hne (by omega) (by omega) (by omega) (by omega)) (fun r54 M54 h54 => ?_)
      obtain ⟨hr54, hM54⟩ := h54
      obtain rfl := hr54.symm
      obtain rfl := hM54.symm
      refine tr_istore_n (pc := 57) dX2_wrap_57 rfl (Nat.le_of_ble_eq_true rfl) ?_
      dsimp only [List.set]
      refine tr_aload_n (pc := 58) dX2_wrap_58 rfl (by omega) ?_
      refine tr_getS (pc := 59) dX2_wrap_59 fs2_38 rfl ?_
      refine tr_iload_n (pc := 62) dX2_wrap_62 rfl ?_
      refine tr_sald (pc := 63) dX2_wrap_63 ⟨by decide, by decide⟩ (by omega) (by rw [gs_len1 hG]; omega) a1 ?_
      refine tr_getT (pc := 64) dX2_wrap_64 fs2_41 rfl ?_
      refine tr_iload_n (pc := 67) dX2_wrap_67 rfl ?_
      refine tr_sald (pc := 68) dX2_wrap_68 ⟨by decide, by decide⟩ (by omega) (by rw [gs_len2 hG]; omega) a2 ?_
      refine tr_iload_n (pc := 69) dX2_wrap_69 rfl ?_
      refine tr_cVi3 (pc := 70) dX2_wrap_70 mtX3_countOfWeight lv2_44 rfl (by assumption) kc3 ⟨(Nat.le_of_ble_eq_true rfl), (Nat.le_of_ble_eq_true rfl)⟩ nlX3_countOfWeight (Nat.le_of_ble_eq_true rfl) ⟨(Nat.le_of_ble_eq_true rfl), (Nat.le_of_ble_eq_true rfl)⟩ (sp_X3_countOfWeight hr hg1 (by omega) (by omega) (by omega) (by omega)) (fun r70 M70 h70 => ?_)
      obtain ⟨hr70, hM70⟩ := h70
      obtain rfl := hr70.symm
      obtain rfl := hM70.symm
      refine tr_iconst (pc := 73) dX2_wrap_73 ⟨by decide, by decide⟩ ?_
      refine tr_icmplt (pc := 74) (tgt := 92) dX2_wrap_74 (by decide) (fun c74 => ?_) (fun c74 => ?_)
      · skip
        refine tr_iinc (pc := 92) dX2_wrap_92 rfl rfl ⟨by omega, by omega⟩ ?_
        dsimp only [List.set]
        refine tr_goto (pc := 95) (tgt := 27) dX2_wrap_95 (by decide) ?_
        unfold hl_fd
        first
        | rw [if_neg (by unfold lvl; omega)]
          exact ih (w + 1) F M1 _ (by omega) hs hF hf
        | rw [if_pos (by unfold lvl; omega)]
          exact ih (w + 1) _ _ _ (by omega) hs (hl_addM_at hF (by omega) (by omega) bst) (hf.trans (hl_addM_fr M1 _ _ _))
      · skip
        refine tr_aload_n (pc := 77) dX2_wrap_77 rfl (by decide) ?_
        refine tr_getS (pc := 78) dX2_wrap_78 fs2_38 rfl ?_
        refine tr_iload_n (pc := 81) dX2_wrap_81 rfl ?_
        refine tr_sald (pc := 82) dX2_wrap_82 ⟨by decide, by decide⟩ (by omega) (by rw [gs_len1 hG]; omega) a1 ?_
        refine tr_getT (pc := 83) dX2_wrap_83 fs2_41 rfl ?_
        refine tr_iload_n (pc := 86) dX2_wrap_86 rfl ?_
        refine tr_sald (pc := 87) dX2_wrap_87 ⟨by decide, by decide⟩ (by omega) (by rw [gs_len2 hG]; omega) a2 ?_
        refine tr_iload_n (pc := 88) dX2_wrap_88 rfl ?_
        refine tr_cVv3 (pc := 89) dX2_wrap_89 mtX2_add lv2_34 rfl sg90 kc2 ⟨(Nat.le_of_ble_eq_true rfl), (Nat.le_of_ble_eq_true rfl)⟩ nlX2_add (Nat.le_of_ble_eq_true rfl) ⟨(Nat.le_of_ble_eq_true rfl), (Nat.le_of_ble_eq_true rfl)⟩ (sp_X2_add (by omega)) (fun M89 h89 => ?_)
        obtain rfl := h89.symm
        refine tr_iinc (pc := 92) dX2_wrap_92 rfl rfl ⟨by omega, by omega⟩ ?_
        dsimp only [List.set]
        refine tr_goto (pc := 95) (tgt := 27) dX2_wrap_95 (by decide) ?_
        unfold hl_fd
        first
        | rw [if_neg (by unfold lvl; omega)]
          exact ih (w + 1) F M1 _ (by omega) hs hF hf
        | rw [if_pos (by unfold lvl; omega)]
          exact ih (w + 1) _ _ _ (by omega) hs (hl_addM_at hF (by omega) (by omega) bst) (hf.trans (hl_addM_fr M1 _ _ _))
  refine tr_aload_n (pc := 0) dX2_wrap_0 rfl (by decide) ?_
  refine tr_iconst (pc := 1) dX2_wrap_1 ⟨by decide, by decide⟩ ?_
  refine tr_puti (pc := 2) (ji := 3) dX2_wrap_2 fi2_21 rfl (Or.inl rfl) (Or.inl rfl) sg90 rfl ?_
  refine tr_aload_n (pc := 5) dX2_wrap_5 rfl (by omega) ?_
  refine tr_cVi0 (pc := 6) dX2_wrap_6 mtX3_size lv2_25 rfl (by assumption) kc3 ⟨(Nat.le_of_ble_eq_true rfl), (Nat.le_of_ble_eq_true rfl)⟩ nlX3_size (Nat.le_of_ble_eq_true rfl) ⟨(Nat.le_of_ble_eq_true rfl), (Nat.le_of_ble_eq_true rfl)⟩ (sp_X3_size hr) (fun r6 M6 h6 => ?_)
  obtain ⟨hr6, hM6⟩ := h6
  obtain rfl := hr6.symm
  obtain rfl := hM6.symm
  refine tr_ifne (pc := 9) (tgt := 13) dX2_wrap_9 (by decide) (fun c9 => ?_) (fun c9 => absurd c9 (by omega))
  refine tr_aload_n (pc := 13) dX2_wrap_13 rfl (by decide) ?_
  refine tr_iconst (pc := 14) dX2_wrap_14 ⟨by decide, by decide⟩ ?_
  refine tr_iconst (pc := 15) dX2_wrap_15 ⟨by decide, by decide⟩ ?_
  refine tr_aload_n (pc := 16) dX2_wrap_16 rfl (by omega) ?_
  refine tr_iconst (pc := 17) dX2_wrap_17 ⟨by decide, by decide⟩ ?_
  refine tr_iconst (pc := 18) dX2_wrap_18 ⟨by decide, by decide⟩ ?_
  refine tr_cVi2 (pc := 19) dX2_wrap_19 mtX3_leastWeight lv2_30 rfl (by assumption) kc3 ⟨(Nat.le_of_ble_eq_true rfl), (Nat.le_of_ble_eq_true rfl)⟩ nlX3_leastWeight (Nat.le_of_ble_eq_true rfl) ⟨(Nat.le_of_ble_eq_true rfl), (Nat.le_of_ble_eq_true rfl)⟩ (sp_X3_leastWeight hr hg0 hne (by omega) (by omega) (by omega) (by omega)) (fun r19 M19 h19 => ?_)
  obtain ⟨hr19, hM19⟩ := h19
  obtain rfl := hr19.symm
  obtain rfl := hM19.symm
  refine tr_cVv3 (pc := 22) dX2_wrap_22 mtX2_add lv2_34 rfl sg90 kc2 ⟨(Nat.le_of_ble_eq_true rfl), (Nat.le_of_ble_eq_true rfl)⟩ nlX2_add (Nat.le_of_ble_eq_true rfl) ⟨(Nat.le_of_ble_eq_true rfl), (Nat.le_of_ble_eq_true rfl)⟩ (sp_X2_add (by rw [tk_mu_at]; omega)) (fun M22 h22 => ?_)
  obtain rfl := h22.symm
  refine tr_iconst (pc := 25) dX2_wrap_25 ⟨by decide, by decide⟩ ?_
  refine tr_istore_n (pc := 26) dX2_wrap_26 rfl (Nat.le_of_ble_eq_true rfl) ?_
  dsimp only [List.set]
  exact loop dirs 0 _ _ xU (by omega) dirs_seg (hl_addM_at hl0 (by omega) (by omega) b10) (f0.trans (hl_addM_fr _ _ _ _))
