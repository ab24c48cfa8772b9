def rdA (h : List (Int × Int)) : List (Int × Int) → Int
  | [] => 1
  | (p, q) :: t => if ig_in p q h = 0 then 0 else rdA h t
def rdB (F : List (Int × Int × Int)) : List (Int × Int) → Int
  | [] => 1
  | (p, q) :: t => if hl_cov p q F = 0 then 0 else rdB F t
def x_red (C : cC) : Int := if C.1.length = 0 ∨ C.2.1.length = 0 then 0 else if rdA C.2.1 C.1 = 0 then 0 else rdB (hl_fc C.1) C.2.1
theorem sp_n0 {G : tk_G} {M : tk_M} : Spr G FX8_ideal [xR 1, xI 0] SF M (fun v M' => v = 2 ∧ M' = M) := sp_now (i := 0)
theorem sp_n1 {G : tk_G} {M : tk_M} : Spr G FX8_ideal [xR 1, xI 1] SF M (fun v M' => v = 5 ∧ M' = M) := sp_now (i := 1)
theorem sp_X9_reduction {G : tk_G} {M : tk_M} {C : cC} (hG : gs_ok G) (hC : Cg M C) : Spi G FX9_reduction [xR 0] SF M (fun v M' => v = x_red C ∧ fS M M') := by
  obtain ⟨c1, c2, -⟩ := hC
  have l1 := c1.len
  have l2 := c2.len
  refine Spi.of _ mtX9_reduction nlX9_reduction (Nat.le_of_ble_eq_true rfl) ?_
  show Ok G FX9_reduction 0 [xR 0, xU, xU, xU] [] SF M 0 0 _
  unfold x_red
  have loopB : ∀ (F : List (Int × Int × Int)) (M1 : tk_M), hl_at M1 F → ig_at M1 5 C.2.1 → ∀ (h : List (Int × Int)) (k : Int), 0 ≤ k → ig_seg (M1 6) (M1 7) (M1 5 2) k h → Ok G FX9_reduction 79 [xR 0, xR 2, xR 5, xI k] [] SF M1 0 0 (tk_qi SF (fun v M' => v = rdB F h ∧ M' = M1)) := by
    intro F M1 hF h5 h
    have h56 := h5.2
    induction h with
    | nil =>
      intro k hk hs
      have hs : k = M1 5 2 := hs
      refine tr_iload_n (pc := 79) dX9_reduction_79 rfl ?_
      refine tr_aload_n (pc := 80) dX9_reduction_80 rfl (by decide) ?_
      refine tr_cVi0 (pc := 81) dX9_reduction_81 mtX3_size lv9_93 rfl sg5 kc3 ⟨(Nat.le_of_ble_eq_true rfl), (Nat.le_of_ble_eq_true rfl)⟩ nlX3_size (Nat.le_of_ble_eq_true rfl) ⟨(Nat.le_of_ble_eq_true rfl), (Nat.le_of_ble_eq_true rfl)⟩ (sp_X3_size ig_s5) (fun r81 M81 h81 => ?_)
      obtain ⟨hr81, hM81⟩ := h81
      obtain rfl := hr81.symm
      obtain rfl := hM81.symm
      refine tr_icmpge (pc := 84) (tgt := 115) dX9_reduction_84 (by decide) (fun c84 => ?_) (fun c84 => absurd c84 (by omega))
      refine tr_iconst (pc := 115) dX9_reduction_115 ⟨by decide, by decide⟩ ?_
      refine tr_ireti (pc := 116) dX9_reduction_116 rfl ?_
      exact ⟨rfl, rfl⟩
    | cons q t ih =>
      intro k hk hs
      obtain ⟨p, q⟩ := q
      obtain ⟨e1, e2, b1, b2, b3, b4, hlt, hs⟩ := hs
      refine tr_iload_n (pc := 79) dX9_reduction_79 rfl ?_
      refine tr_aload_n (pc := 80) dX9_reduction_80 rfl (by decide) ?_
      refine tr_cVi0 (pc := 81) dX9_reduction_81 mtX3_size lv9_93 rfl sg5 kc3 ⟨(Nat.le_of_ble_eq_true rfl), (Nat.le_of_ble_eq_true rfl)⟩ nlX3_size (Nat.le_of_ble_eq_true rfl) ⟨(Nat.le_of_ble_eq_true rfl), (Nat.le_of_ble_eq_true rfl)⟩ (sp_X3_size ig_s5) (fun r81 M81 h81 => ?_)
      obtain ⟨hr81, hM81⟩ := h81
      obtain rfl := hr81.symm
      obtain rfl := hM81.symm
      refine tr_icmpge (pc := 84) (tgt := 115) dX9_reduction_84 (by decide) (fun c84 => absurd c84 (by omega)) (fun c84 => ?_)
      refine tr_aload_n (pc := 87) dX9_reduction_87 rfl (by decide) ?_
      refine tr_getr (pc := 88) (x := 90) dX9_reduction_88 fi9_56 rfl sg0 rfl ?_
      refine tr_aload_n (pc := 91) dX9_reduction_91 rfl (by decide) ?_
      refine tr_iload_n (pc := 92) dX9_reduction_92 rfl ?_
      refine tr_cVi1 (pc := 93) dX9_reduction_93 mtX3_powerA lv9_119 rfl sg5 kc3 ⟨(Nat.le_of_ble_eq_true rfl), (Nat.le_of_ble_eq_true rfl)⟩ nlX3_powerA (Nat.le_of_ble_eq_true rfl) ⟨(Nat.le_of_ble_eq_true rfl), (Nat.le_of_ble_eq_true rfl)⟩ (sp_X3_powerA ig_s5 h56) (fun r93 M93 h93 => ?_)
      rw [if_pos ⟨hk, hlt⟩] at h93
      obtain ⟨hr93, hM93⟩ := h93
      replace hr93 : r93 = p := hr93.trans e1
      obtain rfl := hr93.symm
      obtain rfl := hM93.symm
      refine tr_aload_n (pc := 96) dX9_reduction_96 rfl (by decide) ?_
      refine tr_iload_n (pc := 97) dX9_reduction_97 rfl ?_
      refine tr_cVi1 (pc := 98) dX9_reduction_98 mtX3_powerB lv9_123 rfl sg5 kc3 ⟨(Nat.le_of_ble_eq_true rfl), (Nat.le_of_ble_eq_true rfl)⟩ nlX3_powerB (Nat.le_of_ble_eq_true rfl) ⟨(Nat.le_of_ble_eq_true rfl), (Nat.le_of_ble_eq_true rfl)⟩ (sp_X3_powerB ig_s5 h56) (fun r98 M98 h98 => ?_)
      rw [if_pos ⟨hk, hlt⟩] at h98
      obtain ⟨hr98, hM98⟩ := h98
      replace hr98 : r98 = q := hr98.trans e2
      obtain rfl := hr98.symm
      obtain rfl := hM98.symm
      refine tr_cVi2 (pc := 101) dX9_reduction_101 mtX2_covers lv9_205 rfl sg90 kc2 ⟨(Nat.le_of_ble_eq_true rfl), (Nat.le_of_ble_eq_true rfl)⟩ nlX2_covers (Nat.le_of_ble_eq_true rfl) ⟨(Nat.le_of_ble_eq_true rfl), (Nat.le_of_ble_eq_true rfl)⟩ (sp_X2_covers hF (by omega) (by omega)) (fun r101 M101 h101 => ?_)
      obtain ⟨hr101, hM101⟩ := h101
      obtain rfl := hr101.symm
      obtain rfl := hM101.symm
      refine tr_ifne (pc := 104) (tgt := 109) dX9_reduction_104 (by decide) (fun c104 => ?_) (fun c104 => ?_)
      · skip
        refine tr_iinc (pc := 109) dX9_reduction_109 rfl rfl ⟨by omega, by omega⟩ ?_
        dsimp only [List.set]
        refine tr_goto (pc := 112) (tgt := 79) dX9_reduction_112 (by decide) ?_
        unfold rdB
        rw [if_neg (by omega)]
        exact ih (k + 1) (by omega) hs
      · skip
        refine tr_iconst (pc := 107) dX9_reduction_107 ⟨by decide, by decide⟩ ?_
        refine tr_ireti (pc := 108) dX9_reduction_108 rfl ?_
        exact ⟨(if_pos (by omega)).symm, rfl⟩
  have loopA : C.1.length ≠ 0 → ∀ (h : List (Int × Int)) (k : Int), 0 ≤ k → ig_seg (M 3) (M 4) (M 2 2) k h → Ok G FX9_reduction 36 [xR 0, xR 2, xR 5, xI k] [] SF M 0 0 (tk_qi SF (fun v M' => v = (if rdA C.2.1 h = 0 then 0 else rdB (hl_fc C.1) C.2.1) ∧ fS M M')) := by
    intro hne h
    have h26 := c1.2
    induction h with
    | nil =>
      intro k hk hs
      have hs : k = M 2 2 := hs
      rw [if_neg (show ¬ rdA C.2.1 [] = 0 by show ¬ (1 : Int) = 0; decide)]
      refine tr_iload_n (pc := 36) dX9_reduction_36 rfl ?_
      refine tr_aload_n (pc := 37) dX9_reduction_37 rfl (by decide) ?_
      refine tr_cVi0 (pc := 38) dX9_reduction_38 mtX3_size lv9_93 rfl sg2 kc3 ⟨(Nat.le_of_ble_eq_true rfl), (Nat.le_of_ble_eq_true rfl)⟩ nlX3_size (Nat.le_of_ble_eq_true rfl) ⟨(Nat.le_of_ble_eq_true rfl), (Nat.le_of_ble_eq_true rfl)⟩ (sp_X3_size ig_s2) (fun r38 M38 h38 => ?_)
      obtain ⟨hr38, hM38⟩ := h38
      obtain rfl := hr38.symm
      obtain rfl := hM38.symm
      refine tr_icmpge (pc := 41) (tgt := 69) dX9_reduction_41 (by decide) (fun c41 => ?_) (fun c41 => absurd c41 (by omega))
      refine tr_aload_n (pc := 69) dX9_reduction_69 rfl (by decide) ?_
      refine tr_getr (pc := 70) (x := 90) dX9_reduction_70 fi9_56 rfl sg0 rfl ?_
      refine tr_aload_n (pc := 73) dX9_reduction_73 rfl (by decide) ?_
      refine tr_cVv1 (pc := 74) dX9_reduction_74 mtX2_wrap lv9_129 rfl sg90 kc2 ⟨(Nat.le_of_ble_eq_true rfl), (Nat.le_of_ble_eq_true rfl)⟩ nlX2_wrap (Nat.le_of_ble_eq_true rfl) ⟨(Nat.le_of_ble_eq_true rfl), (Nat.le_of_ble_eq_true rfl)⟩ (sp_X2_wrap hG ig_s2 (by omega) c1 (fun h => hne (by rw [h]; rfl))) (fun M74 h74 => ?_)
      obtain ⟨hF, f1⟩ := h74
      refine tr_iconst (pc := 77) dX9_reduction_77 ⟨by decide, by decide⟩ ?_
      refine tr_istore_n (pc := 78) dX9_reduction_78 rfl (Nat.le_of_ble_eq_true rfl) ?_
      dsimp only [List.set]
      exact tk_mono (loopB _ M74 hF (c2.frame f1 (by omega)) _ 0 (by omega) (c2.frame f1 (by omega)).1) (fun v M1 h => ⟨h.1, by rw [h.2]; exact f1.mono (by omega) (by omega)⟩)
    | cons q t ih =>
      intro k hk hs
      obtain ⟨p, q⟩ := q
      obtain ⟨e1, e2, b1, b2, b3, b4, hlt, hs⟩ := hs
      refine tr_iload_n (pc := 36) dX9_reduction_36 rfl ?_
      refine tr_aload_n (pc := 37) dX9_reduction_37 rfl (by decide) ?_
      refine tr_cVi0 (pc := 38) dX9_reduction_38 mtX3_size lv9_93 rfl sg2 kc3 ⟨(Nat.le_of_ble_eq_true rfl), (Nat.le_of_ble_eq_true rfl)⟩ nlX3_size (Nat.le_of_ble_eq_true rfl) ⟨(Nat.le_of_ble_eq_true rfl), (Nat.le_of_ble_eq_true rfl)⟩ (sp_X3_size ig_s2) (fun r38 M38 h38 => ?_)
      obtain ⟨hr38, hM38⟩ := h38
      obtain rfl := hr38.symm
      obtain rfl := hM38.symm
      refine tr_icmpge (pc := 41) (tgt := 69) dX9_reduction_41 (by decide) (fun c41 => absurd c41 (by omega)) (fun c41 => ?_)
      refine tr_aload_n (pc := 44) dX9_reduction_44 rfl (by decide) ?_
      refine tr_aload_n (pc := 45) dX9_reduction_45 rfl (by decide) ?_
      refine tr_iload_n (pc := 46) dX9_reduction_46 rfl ?_
      refine tr_cVi1 (pc := 47) dX9_reduction_47 mtX3_powerA lv9_119 rfl sg2 kc3 ⟨(Nat.le_of_ble_eq_true rfl), (Nat.le_of_ble_eq_true rfl)⟩ nlX3_powerA (Nat.le_of_ble_eq_true rfl) ⟨(Nat.le_of_ble_eq_true rfl), (Nat.le_of_ble_eq_true rfl)⟩ (sp_X3_powerA ig_s2 h26) (fun r47 M47 h47 => ?_)
      rw [if_pos ⟨hk, hlt⟩] at h47
      obtain ⟨hr47, hM47⟩ := h47
      replace hr47 : r47 = p := hr47.trans e1
      obtain rfl := hr47.symm
      obtain rfl := hM47.symm
      refine tr_aload_n (pc := 50) dX9_reduction_50 rfl (by decide) ?_
      refine tr_iload_n (pc := 51) dX9_reduction_51 rfl ?_
      refine tr_cVi1 (pc := 52) dX9_reduction_52 mtX3_powerB lv9_123 rfl sg2 kc3 ⟨(Nat.le_of_ble_eq_true rfl), (Nat.le_of_ble_eq_true rfl)⟩ nlX3_powerB (Nat.le_of_ble_eq_true rfl) ⟨(Nat.le_of_ble_eq_true rfl), (Nat.le_of_ble_eq_true rfl)⟩ (sp_X3_powerB ig_s2 h26) (fun r52 M52 h52 => ?_)
      rw [if_pos ⟨hk, hlt⟩] at h52
      obtain ⟨hr52, hM52⟩ := h52
      replace hr52 : r52 = q := hr52.trans e2
      obtain rfl := hr52.symm
      obtain rfl := hM52.symm
      refine tr_cVi2 (pc := 55) dX9_reduction_55 mtX3_contains lv9_202 rfl sg5 kc3 ⟨(Nat.le_of_ble_eq_true rfl), (Nat.le_of_ble_eq_true rfl)⟩ nlX3_contains (Nat.le_of_ble_eq_true rfl) ⟨(Nat.le_of_ble_eq_true rfl), (Nat.le_of_ble_eq_true rfl)⟩ (sp_X3_contains ig_s5 c2) (fun r55 M55 h55 => ?_)
      obtain ⟨hr55, hM55⟩ := h55
      obtain rfl := hr55.symm
      obtain rfl := hM55.symm
      refine tr_ifne (pc := 58) (tgt := 63) dX9_reduction_58 (by decide) (fun c58 => ?_) (fun c58 => ?_)
      · skip
        refine tr_iinc (pc := 63) dX9_reduction_63 rfl rfl ⟨by omega, by omega⟩ ?_
        dsimp only [List.set]
        refine tr_goto (pc := 66) (tgt := 36) dX9_reduction_66 (by decide) ?_
        unfold rdA
        rw [if_neg (show ¬ ig_in p q C.2.1 = 0 by omega)]
        exact ih (k + 1) (by omega) hs
      · skip
        refine tr_iconst (pc := 61) dX9_reduction_61 ⟨by decide, by decide⟩ ?_
        refine tr_ireti (pc := 62) dX9_reduction_62 rfl ?_
        unfold rdA
        rw [if_pos (show ig_in p q C.2.1 = 0 by omega), if_pos rfl]
        exact ⟨rfl, tk_fr.rf⟩
  refine tr_aload_n (pc := 0) dX9_reduction_0 rfl (by decide) ?_
  refine tr_getr (pc := 1) (x := 1) dX9_reduction_1 fi9_12 rfl sg0 rfl ?_
  refine tr_iconst (pc := 4) dX9_reduction_4 ⟨by decide, by decide⟩ ?_
  refine tr_cVr1 (pc := 5) dX9_reduction_5 mtX8_ideal lv9_85 rfl sg1 kc8 ⟨(Nat.le_of_ble_eq_true rfl), (Nat.le_of_ble_eq_true rfl)⟩ nlX8_ideal (Nat.le_of_ble_eq_true rfl) ⟨(Nat.le_of_ble_eq_true rfl), (Nat.le_of_ble_eq_true rfl)⟩ (sp_n0) (fun r5 M5 h5 => ?_)
  obtain ⟨hr5, hM5⟩ := h5
  obtain rfl := hr5.symm
  obtain rfl := hM5.symm
  refine tr_astore_n (pc := 8) dX9_reduction_8 rfl (Nat.le_of_ble_eq_true rfl) (by decide) ?_
  dsimp only [List.set]
  refine tr_aload_n (pc := 9) dX9_reduction_9 rfl (by decide) ?_
  refine tr_getr (pc := 10) (x := 1) dX9_reduction_10 fi9_12 rfl sg0 rfl ?_
  refine tr_iconst (pc := 13) dX9_reduction_13 ⟨by decide, by decide⟩ ?_
  refine tr_cVr1 (pc := 14) dX9_reduction_14 mtX8_ideal lv9_85 rfl sg1 kc8 ⟨(Nat.le_of_ble_eq_true rfl), (Nat.le_of_ble_eq_true rfl)⟩ nlX8_ideal (Nat.le_of_ble_eq_true rfl) ⟨(Nat.le_of_ble_eq_true rfl), (Nat.le_of_ble_eq_true rfl)⟩ (sp_n1) (fun r14 M14 h14 => ?_)
  obtain ⟨hr14, hM14⟩ := h14
  obtain rfl := hr14.symm
  obtain rfl := hM14.symm
  refine tr_astore_n (pc := 17) dX9_reduction_17 rfl (Nat.le_of_ble_eq_true rfl) (by decide) ?_
  dsimp only [List.set]
  refine tr_aload_n (pc := 18) dX9_reduction_18 rfl (by decide) ?_
  refine tr_cVi0 (pc := 19) dX9_reduction_19 mtX3_size lv9_93 rfl sg2 kc3 ⟨(Nat.le_of_ble_eq_true rfl), (Nat.le_of_ble_eq_true rfl)⟩ nlX3_size (Nat.le_of_ble_eq_true rfl) ⟨(Nat.le_of_ble_eq_true rfl), (Nat.le_of_ble_eq_true rfl)⟩ (sp_X3_size ig_s2) (fun r19 M19 h19 => ?_)
  obtain ⟨hr19, hM19⟩ := h19
  obtain rfl := hr19.symm
  obtain rfl := hM19.symm
  refine tr_ifeq (pc := 22) (tgt := 32) dX9_reduction_22 (by decide) (fun c22 => ?_) (fun c22 => ?_)
  · skip
    refine tr_iconst (pc := 32) dX9_reduction_32 ⟨by decide, by decide⟩ ?_
    refine tr_ireti (pc := 33) dX9_reduction_33 rfl ?_
    rw [if_pos (by omega)]
    exact ⟨rfl, tk_fr.rf⟩
  · skip
    refine tr_aload_n (pc := 25) dX9_reduction_25 rfl (by decide) ?_
    refine tr_cVi0 (pc := 26) dX9_reduction_26 mtX3_size lv9_93 rfl sg5 kc3 ⟨(Nat.le_of_ble_eq_true rfl), (Nat.le_of_ble_eq_true rfl)⟩ nlX3_size (Nat.le_of_ble_eq_true rfl) ⟨(Nat.le_of_ble_eq_true rfl), (Nat.le_of_ble_eq_true rfl)⟩ (sp_X3_size ig_s5) (fun r26 M26 h26 => ?_)
    obtain ⟨hr26, hM26⟩ := h26
    obtain rfl := hr26.symm
    obtain rfl := hM26.symm
    refine tr_ifne (pc := 29) (tgt := 34) dX9_reduction_29 (by decide) (fun c29 => ?_) (fun c29 => ?_)
    · skip
      refine tr_iconst (pc := 34) dX9_reduction_34 ⟨by decide, by decide⟩ ?_
      refine tr_istore_n (pc := 35) dX9_reduction_35 rfl (Nat.le_of_ble_eq_true rfl) ?_
      dsimp only [List.set]
      rw [if_neg (by omega)]
      exact loopA (by omega) _ 0 (by omega) c1.1
    · skip
      refine tr_iconst (pc := 32) dX9_reduction_32 ⟨by decide, by decide⟩ ?_
      refine tr_ireti (pc := 33) dX9_reduction_33 rfl ?_
      rw [if_pos (by omega)]
      exact ⟨rfl, tk_fr.rf⟩
def hm (g : List (Int × Int)) (f : Int → Int) : Int → Int := fun a => ht_m f a 1000000 g
def hm0 : Int → Int := fun _ => 0
def hb (f : Int → Int) : Prop := ∀ i, 0 ≤ i → i ≤ 60 → 0 ≤ f i ∧ f i ≤ 1000000
theorem hb0 : hb hm0 := fun _ _ _ => ⟨by show (0 : Int) ≤ 0; omega, by show (0 : Int) ≤ 1000000; omega⟩
theorem hb_m {f : Int → Int} {g : List (Int × Int)} (h : hb f) (hg : ∀ q ∈ g, 0 ≤ q.1 ∧ q.1 ≤ 9 ∧ 0 ≤ q.2 ∧ q.2 ≤ 9) : hb (hm g f) := fun i i0 i1 => ht_m_bd (fun j j0 j1 => (h j j0 j1).1) ⟨i0, i1⟩ g 1000000 hg (by omega)
def hmp (g : List (Int × Int)) : Nat → (Int → Int) → Int → Int
  | 0, f => f
  | n + 1, f => hmp g n (hm g f)
def hk (L R : Int → Int) : Prop := ∀ a, 0 ≤ a → a ≤ 60 → L a = R a
noncomputable def x_met (g : List (Int × Int)) : Nat → Int → (Int → Int) → (Int → Int) → Int
  | 0, _, _, _ => -5
  | d + 1, r, L, R => @ite Int (hk L R) (Classical.propDecidable _) r (x_met g d (r + 1) (hm g L) (hm g R))
theorem ht_at.frame {M M' : tk_M} {h lo hi : Int} {f : Int → Int} (H : ht_at M h f) (hf : tk_fr M M' lo hi) (hd : h + 1 < lo ∨ hi ≤ h + 1) : ht_at M' h f := fun a a0 a1 => by rw [hf _ (by omega)]; exact H a a0 a1
theorem sp_X9_met {G : tk_G} {M : tk_M} {C : cC} (hC : Cg M C) : Spi G FX9_met [xR 0] SF M (fun v M' => v = x_met C.2.1 6 0 (hm C.1 hm0) (hm C.2.1 hm0) ∧ fS M M') := by
  obtain ⟨c1, c2, -⟩ := hC
  have b1 := c1.bd
  have b2 := c2.bd
  refine Spi.of _ mtX9_met nlX9_met (Nat.le_of_ble_eq_true rfl) ?_
  show Ok G FX9_met 0 [xR 0, xU, xU] [] SF M 0 0 _
  have loop : ∀ (d : Nat) (r : Int) (L R : Int → Int) (M1 : tk_M), r + d = 6 → 0 ≤ r → hb L → hb R → ht_at M1 97 L → ht_at M1 99 R → fS M M1 → Ok G FX9_met 48 [xR 0, xR 5, xI r] [] SF M1 0 0 (tk_qi SF (fun v M' => v = x_met C.2.1 d r L R ∧ fS M M')) := by
    intro d
    induction d with
    | zero =>
      intro r L R M1 hd hr hL hR aL aR hf
      refine tr_iload_n (pc := 48) dX9_met_48 rfl ?_
      refine tr_iconst (pc := 49) dX9_met_49 ⟨by decide, by decide⟩ ?_
      refine tr_icmpgt (pc := 50) (tgt := 91) dX9_met_50 (by decide) (fun c50 => ?_) (fun c50 => absurd c50 (by omega))
      refine tr_bipush (pc := 91) dX9_met_91 ⟨by decide, ⟨by decide, by decide⟩⟩ ?_
      refine tr_ireti (pc := 93) dX9_met_93 rfl ?_
      exact ⟨rfl, hf⟩
    | succ d ih =>
      intro r L R M1 hd hr hL hR aL aR hf
      have c21 : ig_at M1 5 C.2.1 := c2.frame hf (by omega)
      refine tr_iload_n (pc := 48) dX9_met_48 rfl ?_
      refine tr_iconst (pc := 49) dX9_met_49 ⟨by decide, by decide⟩ ?_
      refine tr_icmpgt (pc := 50) (tgt := 91) dX9_met_50 (by decide) (fun c50 => absurd c50 (by omega)) (fun c50 => ?_)
      refine tr_aload_n (pc := 53) dX9_met_53 rfl (by decide) ?_
      refine tr_getr (pc := 54) (x := 97) dX9_met_54 fi9_70 rfl sg0 rfl ?_
      refine tr_aload_n (pc := 57) dX9_met_57 rfl (by decide) ?_
      refine tr_getr (pc := 58) (x := 99) dX9_met_58 fi9_74 rfl sg0 rfl ?_
      refine tr_cVi1 (pc := 61) dX9_met_61 mtX1_isLike lv9_349 rfl sg97 kc1 ⟨(Nat.le_of_ble_eq_true rfl), (Nat.le_of_ble_eq_true rfl)⟩ nlX1_isLike (Nat.le_of_ble_eq_true rfl) ⟨(Nat.le_of_ble_eq_true rfl), (Nat.le_of_ble_eq_true rfl)⟩ (sp_X1_isLike ht_s97 ht_s99 aL aR) (fun r61 M61 h61 => ?_)
      obtain ⟨hv, hM61⟩ := h61
      obtain rfl := hM61.symm
      refine tr_ifeq (pc := 64) (tgt := 69) dX9_met_64 (by decide) (fun c64 => ?_) (fun c64 => ?_)
      · skip
        refine tr_aload_n (pc := 69) dX9_met_69 rfl (by decide) ?_
        refine tr_getr (pc := 70) (x := 97) dX9_met_70 fi9_70 rfl sg0 rfl ?_
        refine tr_aload_n (pc := 73) dX9_met_73 rfl (by decide) ?_
        refine tr_cVv1 (pc := 74) dX9_met_74 mtX1_multiply lv9_261 rfl sg97 kc1 ⟨(Nat.le_of_ble_eq_true rfl), (Nat.le_of_ble_eq_true rfl)⟩ nlX1_multiply (Nat.le_of_ble_eq_true rfl) ⟨(Nat.le_of_ble_eq_true rfl), (Nat.le_of_ble_eq_true rfl)⟩ (sp_X1_multiply ht_s97 ig_s5 (by omega) aL hL c21) (fun M74 h74 => ?_)
        obtain ⟨aL2, f2⟩ := h74
        have aR1 := aR.frame f2 (by omega)
        have c22 : ig_at M74 5 C.2.1 := c21.frame f2 (by omega)
        refine tr_aload_n (pc := 77) dX9_met_77 rfl (by decide) ?_
        refine tr_getr (pc := 78) (x := 99) dX9_met_78 fi9_74 rfl sg0 rfl ?_
        refine tr_aload_n (pc := 81) dX9_met_81 rfl (by decide) ?_
        refine tr_cVv1 (pc := 82) dX9_met_82 mtX1_multiply lv9_261 rfl sg99 kc1 ⟨(Nat.le_of_ble_eq_true rfl), (Nat.le_of_ble_eq_true rfl)⟩ nlX1_multiply (Nat.le_of_ble_eq_true rfl) ⟨(Nat.le_of_ble_eq_true rfl), (Nat.le_of_ble_eq_true rfl)⟩ (sp_X1_multiply ht_s99 ig_s5 (by omega) aR1 hR c22) (fun M82 h82 => ?_)
        obtain ⟨aR2, f3⟩ := h82
        have aL3 := aL2.frame f3 (by omega)
        refine tr_iinc (pc := 85) dX9_met_85 rfl rfl ⟨by omega, by omega⟩ ?_
        dsimp only [List.set]
        refine tr_goto (pc := 88) (tgt := 48) dX9_met_88 (by decide) ?_
        unfold x_met
        rw [if_neg (show ¬ hk L R from (hv.resolve_left (by omega)).2)]
        exact ih (r + 1) _ _ M82 (by omega) (by omega) (hb_m hL b2) (hb_m hR b2) aL3 aR2 ((hf.trans (f2.mono (by omega) (by omega))).trans (f3.mono (by omega) (by omega)))
      · skip
        refine tr_iload_n (pc := 67) dX9_met_67 rfl ?_
        refine tr_ireti (pc := 68) dX9_met_68 rfl ?_
        unfold x_met
        rw [if_pos (show hk L R from (hv.resolve_right (by omega)).2)]
        exact ⟨rfl, hf⟩
  refine tr_aload_n (pc := 0) dX9_met_0 rfl (by decide) ?_
  refine tr_getr (pc := 1) (x := 1) dX9_met_1 fi9_12 rfl sg0 rfl ?_
  refine tr_iconst (pc := 4) dX9_met_4 ⟨by decide, by decide⟩ ?_
  refine tr_cVr1 (pc := 5) dX9_met_5 mtX8_ideal lv9_85 rfl sg1 kc8 ⟨(Nat.le_of_ble_eq_true rfl), (Nat.le_of_ble_eq_true rfl)⟩ nlX8_ideal (Nat.le_of_ble_eq_true rfl) ⟨(Nat.le_of_ble_eq_true rfl), (Nat.le_of_ble_eq_true rfl)⟩ (sp_n1) (fun r5 M5 h5 => ?_)
  obtain ⟨hr5, hM5⟩ := h5
  obtain rfl := hr5.symm
  obtain rfl := hM5.symm
  refine tr_astore_n (pc := 8) dX9_met_8 rfl (Nat.le_of_ble_eq_true rfl) (by decide) ?_
  dsimp only [List.set]
  refine tr_aload_n (pc := 9) dX9_met_9 rfl (by decide) ?_
  refine tr_getr (pc := 10) (x := 97) dX9_met_10 fi9_70 rfl sg0 rfl ?_
  refine tr_cVv0 (pc := 13) dX9_met_13 mtX1_ofAllTerms lv9_258 rfl sg97 kc1 ⟨(Nat.le_of_ble_eq_true rfl), (Nat.le_of_ble_eq_true rfl)⟩ nlX1_ofAllTerms (Nat.le_of_ble_eq_true rfl) ⟨(Nat.le_of_ble_eq_true rfl), (Nat.le_of_ble_eq_true rfl)⟩ (sp_X1_ofAllTerms ht_s97) (fun M13 h13 => ?_)
  obtain ⟨a1, f1⟩ := h13
  have c11 : ig_at M13 2 C.1 := c1.frame f1 (by omega)
  refine tr_aload_n (pc := 16) dX9_met_16 rfl (by decide) ?_
  refine tr_getr (pc := 17) (x := 97) dX9_met_17 fi9_70 rfl sg0 rfl ?_
  refine tr_aload_n (pc := 20) dX9_met_20 rfl (by decide) ?_
  refine tr_getr (pc := 21) (x := 1) dX9_met_21 fi9_12 rfl sg0 rfl ?_
  refine tr_iconst (pc := 24) dX9_met_24 ⟨by decide, by decide⟩ ?_
  refine tr_cVr1 (pc := 25) dX9_met_25 mtX8_ideal lv9_85 rfl sg1 kc8 ⟨(Nat.le_of_ble_eq_true rfl), (Nat.le_of_ble_eq_true rfl)⟩ nlX8_ideal (Nat.le_of_ble_eq_true rfl) ⟨(Nat.le_of_ble_eq_true rfl), (Nat.le_of_ble_eq_true rfl)⟩ (sp_n0) (fun r25 M25 h25 => ?_)
  obtain ⟨hr25, hM25⟩ := h25
  obtain rfl := hr25.symm
  obtain rfl := hM25.symm
  refine tr_cVv1 (pc := 28) dX9_met_28 mtX1_multiply lv9_261 rfl sg97 kc1 ⟨(Nat.le_of_ble_eq_true rfl), (Nat.le_of_ble_eq_true rfl)⟩ nlX1_multiply (Nat.le_of_ble_eq_true rfl) ⟨(Nat.le_of_ble_eq_true rfl), (Nat.le_of_ble_eq_true rfl)⟩ (sp_X1_multiply ht_s97 ig_s2 (by omega) a1 hb0 c11) (fun M28 h28 => ?_)
  obtain ⟨a2, f2⟩ := h28
  refine tr_aload_n (pc := 31) dX9_met_31 rfl (by decide) ?_
  refine tr_getr (pc := 32) (x := 99) dX9_met_32 fi9_74 rfl sg0 rfl ?_
  refine tr_cVv0 (pc := 35) dX9_met_35 mtX1_ofAllTerms lv9_258 rfl sg99 kc1 ⟨(Nat.le_of_ble_eq_true rfl), (Nat.le_of_ble_eq_true rfl)⟩ nlX1_ofAllTerms (Nat.le_of_ble_eq_true rfl) ⟨(Nat.le_of_ble_eq_true rfl), (Nat.le_of_ble_eq_true rfl)⟩ (sp_X1_ofAllTerms ht_s99) (fun M35 h35 => ?_)
  obtain ⟨a3, f3⟩ := h35
  have a4 := a2.frame f3 (by omega)
  have f4 : fS M M35 := ((f1.mono (by omega) (by omega)).trans (f2.mono (by omega) (by omega))).trans (f3.mono (by omega) (by omega))
  have c25 : ig_at M35 5 C.2.1 := c2.frame f4 (by omega)
  refine tr_aload_n (pc := 38) dX9_met_38 rfl (by decide) ?_
  refine tr_getr (pc := 39) (x := 99) dX9_met_39 fi9_74 rfl sg0 rfl ?_
  refine tr_aload_n (pc := 42) dX9_met_42 rfl (by decide) ?_
  refine tr_cVv1 (pc := 43) dX9_met_43 mtX1_multiply lv9_261 rfl sg99 kc1 ⟨(Nat.le_of_ble_eq_true rfl), (Nat.le_of_ble_eq_true rfl)⟩ nlX1_multiply (Nat.le_of_ble_eq_true rfl) ⟨(Nat.le_of_ble_eq_true rfl), (Nat.le_of_ble_eq_true rfl)⟩ (sp_X1_multiply ht_s99 ig_s5 (by omega) a3 hb0 c25) (fun M43 h43 => ?_)
  obtain ⟨a5, f5⟩ := h43
  have a6 := a4.frame f5 (by omega)
  refine tr_iconst (pc := 46) dX9_met_46 ⟨by decide, by decide⟩ ?_
  refine tr_istore_n (pc := 47) dX9_met_47 rfl (Nat.le_of_ble_eq_true rfl) ?_
  dsimp only [List.set]
  exact loop 6 0 _ _ M43 (by omega) (by omega) (hb_m hb0 b1) (hb_m hb0 b2) a6 a5 (f4.trans (f5.mono (by omega) (by omega)))
noncomputable def x_reduces (C : cC) (w : Int) : Int := if ¬ (0 ≤ w ∧ w ≤ 1) then -1 else if w = 0 then x_red C else x_met C.2.1 6 0 (hm C.1 hm0) (hm C.2.1 hm0)
theorem sp_X9_reduces {G : tk_G} {M : tk_M} {C : cC} {w : Int} (hG : gs_ok G) (hC : Cg M C) : Spi G FX9_reduces [xR 0, xI w] SF M (fun v M' => v = x_reduces C w ∧ fS M M') := by
  refine Spi.of _ mtX9_reduces nlX9_reduces (Nat.le_of_ble_eq_true rfl) ?_
  show Ok G FX9_reduces 0 [xR 0, xI w] [] SF M 0 0 _
  refine tr_iload_n (pc := 0) dX9_reduces_0 rfl ?_
  refine tr_iflt (pc := 1) (tgt := 9) dX9_reduces_1 (by decide) (fun c1 => ?_) (fun c1 => ?_)
  · skip
    refine tr_iconst (pc := 9) dX9_reduces_9 ⟨by decide, by decide⟩ ?_
    refine tr_ireti (pc := 10) dX9_reduces_10 rfl ?_
    refine ⟨?_, by first | exact f1 | exact tk_fr.rf⟩
    unfold x_reduces
    repeat' split
    all_goals first | rfl | omega
  · skip
    refine tr_iload_n (pc := 4) dX9_reduces_4 rfl ?_
    refine tr_iconst (pc := 5) dX9_reduces_5 ⟨by decide, by decide⟩ ?_
    refine tr_icmple (pc := 6) (tgt := 11) dX9_reduces_6 (by decide) (fun c6 => ?_) (fun c6 => ?_)
    · skip
      refine tr_iload_n (pc := 11) dX9_reduces_11 rfl ?_
      refine tr_ifne (pc := 12) (tgt := 22) dX9_reduces_12 (by decide) (fun c12 => ?_) (fun c12 => ?_)
      · skip
        refine tr_aload_n (pc := 22) dX9_reduces_22 rfl (by decide) ?_
        refine tr_cVi0 (pc := 23) dX9_reduces_23 mtX9_met lv9_270 rfl sg0 kc9 ⟨(Nat.le_of_ble_eq_true rfl), (Nat.le_of_ble_eq_true rfl)⟩ nlX9_met (Nat.le_of_ble_eq_true rfl) ⟨(Nat.le_of_ble_eq_true rfl), (Nat.le_of_ble_eq_true rfl)⟩ (sp_X9_met hC) (fun r23 M23 h23 => ?_)
        obtain ⟨hr23, f1⟩ := h23
        obtain rfl := hr23.symm
        refine tr_ireti (pc := 26) dX9_reduces_26 rfl ?_
        refine ⟨?_, by first | exact f1 | exact tk_fr.rf⟩
        unfold x_reduces
        repeat' split
        all_goals first | rfl | omega
      · skip
        refine tr_aload_n (pc := 15) dX9_reduces_15 rfl (by decide) ?_
        refine tr_cVi0 (pc := 16) dX9_reduces_16 mtX9_reduction lv9_267 rfl sg0 kc9 ⟨(Nat.le_of_ble_eq_true rfl), (Nat.le_of_ble_eq_true rfl)⟩ nlX9_reduction (Nat.le_of_ble_eq_true rfl) ⟨(Nat.le_of_ble_eq_true rfl), (Nat.le_of_ble_eq_true rfl)⟩ (sp_X9_reduction hG hC) (fun r16 M16 h16 => ?_)
        obtain ⟨hr16, f1⟩ := h16
        obtain rfl := hr16.symm
        refine tr_goto (pc := 19) (tgt := 26) dX9_reduces_19 (by decide) ?_
        refine tr_ireti (pc := 26) dX9_reduces_26 rfl ?_
        refine ⟨?_, by first | exact f1 | exact tk_fr.rf⟩
        unfold x_reduces
        repeat' split
        all_goals first | rfl | omega
    · skip
      refine tr_iconst (pc := 9) dX9_reduces_9 ⟨by decide, by decide⟩ ?_
      refine tr_ireti (pc := 10) dX9_reduces_10 rfl ?_
      refine ⟨?_, by first | exact f1 | exact tk_fr.rf⟩
      unfold x_reduces
      repeat' split
      all_goals first | rfl | omega
def x_at (f : Int → Int) (a : Int) : Int := if f a < 1000000 then f a else -5
def x_height (C : cC) (i w a : Int) : Int := if ¬ (0 ≤ i ∧ i ≤ 1) ∨ ¬ ((0 ≤ w ∧ w ≤ 2) ∨ (10 ≤ w ∧ w ≤ 16)) then -1 else if ¬ (0 ≤ a ∧ a ≤ 60) then -2 else if w = 0 then ig_low a (-5) (csel i C) else if w = 1 then lowO (ig_low a (-5) C.1) (ig_low a (-5) C.2.1) else if w = 2 then x_at (hm C.2.1 (hm C.1 hm0)) a else x_at (hmp (csel i C) (w - 10).toNat hm0) a
theorem sp_X9_height {G : tk_G} {M : tk_M} {C : cC} {i w a : Int} (hC : Cg M C) : Spi G FX9_height [xR 0, xI i, xI w, xI a] SF M (fun v M' => v = x_height C i w a ∧ fS M M') := by
  have hsel := hC.sel i
  have hrs := rid_s i
  have hrr := rid_r i
  have hrq := hrs.2.1
  obtain ⟨c1, c2, -⟩ := hC
  have b1 := c1.bd
  have b2 := c2.bd
  have bs := hsel.bd
  refine Spi.of _ mtX9_height nlX9_height (Nat.le_of_ble_eq_true rfl) ?_
  show Ok G FX9_height 0 [xR 0, xI i, xI w, xI a, xU] [] SF M 0 0 _
  have loop : (0 ≤ a ∧ a ≤ 60) → ∀ (d : Nat) (k : Int) (f : Int → Int) (M1 : tk_M), w - k = d → 10 ≤ k → w ≤ 16 → hb f → ht_at M1 97 f → fS M M1 → Ok G FX9_height 128 [xR 0, xI i, xI w, xI a, xI k] [] SF M1 0 0 (tk_qi SF (fun v M' => v = x_at (hmp (csel i C) d f) a ∧ fS M M')) := by
    intro ha d
    induction d with
    | zero =>
      intro k f M1 hd hk hw hf1 af fr
      refine tr_iload (pc := 128) dX9_height_128 rfl ?_
      refine tr_iload_n (pc := 130) dX9_height_130 rfl ?_
      refine tr_icmpge (pc := 131) (tgt := 155) dX9_height_131 (by decide) (fun c131 => ?_) (fun c131 => absurd c131 (by omega))
      refine tr_aload_n (pc := 155) dX9_height_155 rfl (by decide) ?_
      refine tr_getr (pc := 156) (x := 97) dX9_height_156 fi9_70 rfl sg0 rfl ?_
      refine tr_iload_n (pc := 159) dX9_height_159 rfl ?_
      refine tr_cVi1 (pc := 160) dX9_height_160 mtX1_at lv9_264 rfl sg97 kc1 ⟨(Nat.le_of_ble_eq_true rfl), (Nat.le_of_ble_eq_true rfl)⟩ nlX1_at (Nat.le_of_ble_eq_true rfl) ⟨(Nat.le_of_ble_eq_true rfl), (Nat.le_of_ble_eq_true rfl)⟩ (sp_X1_at ht_s97 af ha.1 ha.2) (fun r160 M160 h160 => ?_)
      obtain ⟨hr160, hM160⟩ := h160
      obtain rfl := hr160.symm
      obtain rfl := hM160.symm
      refine tr_ireti (pc := 163) dX9_height_163 rfl ?_
      exact ⟨rfl, fr⟩
    | succ d ih =>
      intro k f M1 hd hk hw hf1 af fr
      have hs1 : ig_at M1 (rid i) (csel i C) := hsel.frame fr (by omega)
      refine tr_iload (pc := 128) dX9_height_128 rfl ?_
      refine tr_iload_n (pc := 130) dX9_height_130 rfl ?_
      refine tr_icmpge (pc := 131) (tgt := 155) dX9_height_131 (by decide) (fun c131 => absurd c131 (by omega)) (fun c131 => ?_)
      refine tr_aload_n (pc := 134) dX9_height_134 rfl (by decide) ?_
      refine tr_getr (pc := 135) (x := 97) dX9_height_135 fi9_70 rfl sg0 rfl ?_
      refine tr_aload_n (pc := 138) dX9_height_138 rfl (by decide) ?_
      refine tr_getr (pc := 139) (x := 1) dX9_height_139 fi9_12 rfl sg0 rfl ?_
      refine tr_iload_n (pc := 142) dX9_height_142 rfl ?_
      refine tr_cVr1 (pc := 143) dX9_height_143 mtX8_ideal lv9_85 rfl sg1 kc8 ⟨(Nat.le_of_ble_eq_true rfl), (Nat.le_of_ble_eq_true rfl)⟩ nlX8_ideal (Nat.le_of_ble_eq_true rfl) ⟨(Nat.le_of_ble_eq_true rfl), (Nat.le_of_ble_eq_true rfl)⟩ (sp_now) (fun r143 M143 h143 => ?_)
      obtain ⟨hr143, hM143⟩ := h143
      obtain rfl := hr143.symm
      obtain rfl := hM143.symm
      refine tr_cVv1 (pc := 146) dX9_height_146 mtX1_multiply lv9_261 rfl sg97 kc1 ⟨(Nat.le_of_ble_eq_true rfl), (Nat.le_of_ble_eq_true rfl)⟩ nlX1_multiply (Nat.le_of_ble_eq_true rfl) ⟨(Nat.le_of_ble_eq_true rfl), (Nat.le_of_ble_eq_true rfl)⟩ (sp_X1_multiply ht_s97 hrs (by omega) af hf1 hs1) (fun M146 h146 => ?_)
      obtain ⟨a2, f2⟩ := h146
      refine tr_iinc (pc := 149) dX9_height_149 rfl rfl ⟨by omega, by omega⟩ ?_
      dsimp only [List.set]
      refine tr_goto (pc := 152) (tgt := 128) dX9_height_152 (by decide) ?_
      exact ih (k + 1) _ M146 (by omega) (by omega) hw (hb_m hf1 bs) a2 (fr.trans (f2.mono (by omega) (by omega)))
  refine tr_iload_n (pc := 0) dX9_height_0 rfl ?_
  refine tr_cSi1 (pc := 1) dX9_height_1 mtX9_noIdeal ls9_77 rfl ⟨(Nat.le_of_ble_eq_true rfl), (Nat.le_of_ble_eq_true rfl)⟩ nlX9_noIdeal (Nat.le_of_ble_eq_true rfl) ⟨(Nat.le_of_ble_eq_true rfl), (Nat.le_of_ble_eq_true rfl)⟩ (sp_X9_noIdeal) (fun r1 M1 h1 => ?_)
  obtain ⟨hr1, hM1⟩ := h1
  obtain rfl := hr1.symm
  obtain rfl := hM1.symm
  refine tr_ifne (pc := 4) (tgt := 14) dX9_height_4 (by decide) (fun c4 => ?_) (fun c4 => ?_)
  · skip
    refine tr_iconst (pc := 14) dX9_height_14 ⟨by decide, by decide⟩ ?_
    refine tr_ireti (pc := 15) dX9_height_15 rfl ?_
    refine ⟨?_, tk_fr.rf⟩
    unfold x_height
    repeat' split
    all_goals first | rfl | omega
  · skip
    refine tr_iload_n (pc := 7) dX9_height_7 rfl ?_
    refine tr_cSi1 (pc := 8) dX9_height_8 mtX9_noHeightCode ls9_249 rfl ⟨(Nat.le_of_ble_eq_true rfl), (Nat.le_of_ble_eq_true rfl)⟩ nlX9_noHeightCode (Nat.le_of_ble_eq_true rfl) ⟨(Nat.le_of_ble_eq_true rfl), (Nat.le_of_ble_eq_true rfl)⟩ (sp_X9_noHeightCode) (fun r8 M8 h8 => ?_)
    obtain ⟨hr8, hM8⟩ := h8
    obtain rfl := hr8.symm
    obtain rfl := hM8.symm
    refine tr_ifeq (pc := 11) (tgt := 16) dX9_height_11 (by decide) (fun c11 => ?_) (fun c11 => ?_)
    · skip
      refine tr_iload_n (pc := 16) dX9_height_16 rfl ?_
      refine tr_iflt (pc := 17) (tgt := 26) dX9_height_17 (by decide) (fun c17 => ?_) (fun c17 => ?_)
      · skip
        refine tr_bipush (pc := 26) dX9_height_26 ⟨by decide, ⟨by decide, by decide⟩⟩ ?_
        refine tr_ireti (pc := 28) dX9_height_28 rfl ?_
        refine ⟨?_, tk_fr.rf⟩
        unfold x_height
        repeat' split
        all_goals first | rfl | omega
      · skip
        refine tr_iload_n (pc := 20) dX9_height_20 rfl ?_
        refine tr_bipush (pc := 21) dX9_height_21 ⟨by decide, ⟨by decide, by decide⟩⟩ ?_
        refine tr_icmple (pc := 23) (tgt := 29) dX9_height_23 (by decide) (fun c23 => ?_) (fun c23 => ?_)
        · skip
          refine tr_iload_n (pc := 29) dX9_height_29 rfl ?_
          refine tr_ifne (pc := 30) (tgt := 46) dX9_height_30 (by decide) (fun c30 => ?_) (fun c30 => ?_)
          · skip
            refine tr_iload_n (pc := 46) dX9_height_46 rfl ?_
            refine tr_iconst (pc := 47) dX9_height_47 ⟨by decide, by decide⟩ ?_
            refine tr_icmpne (pc := 48) (tgt := 79) dX9_height_48 (by decide) (fun c48 => ?_) (fun c48 => ?_)
            · skip
              refine tr_aload_n (pc := 79) dX9_height_79 rfl (by decide) ?_
              refine tr_getr (pc := 80) (x := 97) dX9_height_80 fi9_70 rfl sg0 rfl ?_
              refine tr_cVv0 (pc := 83) dX9_height_83 mtX1_ofAllTerms lv9_258 rfl sg97 kc1 ⟨(Nat.le_of_ble_eq_true rfl), (Nat.le_of_ble_eq_true rfl)⟩ nlX1_ofAllTerms (Nat.le_of_ble_eq_true rfl) ⟨(Nat.le_of_ble_eq_true rfl), (Nat.le_of_ble_eq_true rfl)⟩ (sp_X1_ofAllTerms ht_s97) (fun M83 h83 => ?_)
              obtain ⟨a1, f1⟩ := h83
              have c11 : ig_at M83 2 C.1 := c1.frame f1 (by omega)
              refine tr_iload_n (pc := 86) dX9_height_86 rfl ?_
              refine tr_iconst (pc := 87) dX9_height_87 ⟨by decide, by decide⟩ ?_
              refine tr_icmpne (pc := 88) (tgt := 124) dX9_height_88 (by decide) (fun c88 => ?_) (fun c88 => ?_)
              · skip
                refine tr_bipush (pc := 124) dX9_height_124 ⟨by decide, ⟨by decide, by decide⟩⟩ ?_
                refine tr_istore (pc := 126) dX9_height_126 rfl (Nat.le_of_ble_eq_true rfl) ?_
                dsimp only [List.set]
                refine tk_mono (loop (by omega) (w - 10).toNat 10 hm0 M83 (by omega) (by omega) (by omega) hb0 a1 (f1.mono (by omega) (by omega))) (fun v M1 h => ⟨h.1.trans ?_, h.2⟩)
                unfold x_height
                repeat' split
                all_goals first | rfl | omega
              · skip
                refine tr_aload_n (pc := 91) dX9_height_91 rfl (by decide) ?_
                refine tr_getr (pc := 92) (x := 97) dX9_height_92 fi9_70 rfl sg0 rfl ?_
                refine tr_aload_n (pc := 95) dX9_height_95 rfl (by decide) ?_
                refine tr_getr (pc := 96) (x := 1) dX9_height_96 fi9_12 rfl sg0 rfl ?_
                refine tr_iconst (pc := 99) dX9_height_99 ⟨by decide, by decide⟩ ?_
                refine tr_cVr1 (pc := 100) dX9_height_100 mtX8_ideal lv9_85 rfl sg1 kc8 ⟨(Nat.le_of_ble_eq_true rfl), (Nat.le_of_ble_eq_true rfl)⟩ nlX8_ideal (Nat.le_of_ble_eq_true rfl) ⟨(Nat.le_of_ble_eq_true rfl), (Nat.le_of_ble_eq_true rfl)⟩ (sp_n0) (fun r100 M100 h100 => ?_)
                obtain ⟨hr100, hM100⟩ := h100
                obtain rfl := hr100.symm
                obtain rfl := hM100.symm
                refine tr_cVv1 (pc := 103) dX9_height_103 mtX1_multiply lv9_261 rfl sg97 kc1 ⟨(Nat.le_of_ble_eq_true rfl), (Nat.le_of_ble_eq_true rfl)⟩ nlX1_multiply (Nat.le_of_ble_eq_true rfl) ⟨(Nat.le_of_ble_eq_true rfl), (Nat.le_of_ble_eq_true rfl)⟩ (sp_X1_multiply ht_s97 ig_s2 (by omega) a1 hb0 c11) (fun M103 h103 => ?_)
                obtain ⟨a2, f2⟩ := h103
                have f3 : fS M M103 := (f1.mono (by omega) (by omega)).trans (f2.mono (by omega) (by omega))
                have c25 : ig_at M103 5 C.2.1 := c2.frame f3 (by omega)
                refine tr_aload_n (pc := 106) dX9_height_106 rfl (by decide) ?_
                refine tr_getr (pc := 107) (x := 97) dX9_height_107 fi9_70 rfl sg0 rfl ?_
                refine tr_aload_n (pc := 110) dX9_height_110 rfl (by decide) ?_
                refine tr_getr (pc := 111) (x := 1) dX9_height_111 fi9_12 rfl sg0 rfl ?_
                refine tr_iconst (pc := 114) dX9_height_114 ⟨by decide, by decide⟩ ?_
                refine tr_cVr1 (pc := 115) dX9_height_115 mtX8_ideal lv9_85 rfl sg1 kc8 ⟨(Nat.le_of_ble_eq_true rfl), (Nat.le_of_ble_eq_true rfl)⟩ nlX8_ideal (Nat.le_of_ble_eq_true rfl) ⟨(Nat.le_of_ble_eq_true rfl), (Nat.le_of_ble_eq_true rfl)⟩ (sp_n1) (fun r115 M115 h115 => ?_)
                obtain ⟨hr115, hM115⟩ := h115
                obtain rfl := hr115.symm
                obtain rfl := hM115.symm
                refine tr_cVv1 (pc := 118) dX9_height_118 mtX1_multiply lv9_261 rfl sg97 kc1 ⟨(Nat.le_of_ble_eq_true rfl), (Nat.le_of_ble_eq_true rfl)⟩ nlX1_multiply (Nat.le_of_ble_eq_true rfl) ⟨(Nat.le_of_ble_eq_true rfl), (Nat.le_of_ble_eq_true rfl)⟩ (sp_X1_multiply ht_s97 ig_s5 (by omega) a2 (hb_m hb0 b1) c25) (fun M118 h118 => ?_)
                obtain ⟨a3, f4⟩ := h118
                have f5 : fS M M118 := f3.trans (f4.mono (by omega) (by omega))
                refine tr_goto (pc := 121) (tgt := 155) dX9_height_121 (by decide) ?_
                refine tr_aload_n (pc := 155) dX9_height_155 rfl (by decide) ?_
                refine tr_getr (pc := 156) (x := 97) dX9_height_156 fi9_70 rfl sg0 rfl ?_
                refine tr_iload_n (pc := 159) dX9_height_159 rfl ?_
                refine tr_cVi1 (pc := 160) dX9_height_160 mtX1_at lv9_264 rfl sg97 kc1 ⟨(Nat.le_of_ble_eq_true rfl), (Nat.le_of_ble_eq_true rfl)⟩ nlX1_at (Nat.le_of_ble_eq_true rfl) ⟨(Nat.le_of_ble_eq_true rfl), (Nat.le_of_ble_eq_true rfl)⟩ (sp_X1_at ht_s97 a3 (by omega) (by omega)) (fun r160 M160 h160 => ?_)
                obtain ⟨hr160, hM160⟩ := h160
                obtain rfl := hr160.symm
                obtain rfl := hM160.symm
                refine tr_ireti (pc := 163) dX9_height_163 rfl ?_
                refine ⟨?_, f5⟩
                show x_at (hm C.2.1 (hm C.1 hm0)) a = _
                unfold x_height
                repeat' split
                all_goals first | rfl | omega
            · skip
              refine tr_aload_n (pc := 51) dX9_height_51 rfl (by decide) ?_
              refine tr_getr (pc := 52) (x := 1) dX9_height_52 fi9_12 rfl sg0 rfl ?_
              refine tr_iconst (pc := 55) dX9_height_55 ⟨by decide, by decide⟩ ?_
              refine tr_cVr1 (pc := 56) dX9_height_56 mtX8_ideal lv9_85 rfl sg1 kc8 ⟨(Nat.le_of_ble_eq_true rfl), (Nat.le_of_ble_eq_true rfl)⟩ nlX8_ideal (Nat.le_of_ble_eq_true rfl) ⟨(Nat.le_of_ble_eq_true rfl), (Nat.le_of_ble_eq_true rfl)⟩ (sp_n0) (fun r56 M56 h56 => ?_)
              obtain ⟨hr56, hM56⟩ := h56
              obtain rfl := hr56.symm
              obtain rfl := hM56.symm
              refine tr_iload_n (pc := 59) dX9_height_59 rfl ?_
              refine tr_cVi1 (pc := 60) dX9_height_60 mtX3_lowestB lv9_252 rfl sg2 kc3 ⟨(Nat.le_of_ble_eq_true rfl), (Nat.le_of_ble_eq_true rfl)⟩ nlX3_lowestB (Nat.le_of_ble_eq_true rfl) ⟨(Nat.le_of_ble_eq_true rfl), (Nat.le_of_ble_eq_true rfl)⟩ (sp_X3_lowestB ig_s2 c1) (fun r60 M60 h60 => ?_)
              obtain ⟨hr60, hM60⟩ := h60
              obtain rfl := hr60.symm
              obtain rfl := hM60.symm
              refine tr_aload_n (pc := 63) dX9_height_63 rfl (by decide) ?_
              refine tr_getr (pc := 64) (x := 1) dX9_height_64 fi9_12 rfl sg0 rfl ?_
              refine tr_iconst (pc := 67) dX9_height_67 ⟨by decide, by decide⟩ ?_
              refine tr_cVr1 (pc := 68) dX9_height_68 mtX8_ideal lv9_85 rfl sg1 kc8 ⟨(Nat.le_of_ble_eq_true rfl), (Nat.le_of_ble_eq_true rfl)⟩ nlX8_ideal (Nat.le_of_ble_eq_true rfl) ⟨(Nat.le_of_ble_eq_true rfl), (Nat.le_of_ble_eq_true rfl)⟩ (sp_n1) (fun r68 M68 h68 => ?_)
              obtain ⟨hr68, hM68⟩ := h68
              obtain rfl := hr68.symm
              obtain rfl := hM68.symm
              refine tr_iload_n (pc := 71) dX9_height_71 rfl ?_
              refine tr_cVi1 (pc := 72) dX9_height_72 mtX3_lowestB lv9_252 rfl sg5 kc3 ⟨(Nat.le_of_ble_eq_true rfl), (Nat.le_of_ble_eq_true rfl)⟩ nlX3_lowestB (Nat.le_of_ble_eq_true rfl) ⟨(Nat.le_of_ble_eq_true rfl), (Nat.le_of_ble_eq_true rfl)⟩ (sp_X3_lowestB ig_s5 c2) (fun r72 M72 h72 => ?_)
              obtain ⟨hr72, hM72⟩ := h72
              obtain rfl := hr72.symm
              obtain rfl := hM72.symm
              refine tr_cSi2 (pc := 75) dX9_height_75 mtX9_lowerOf ls9_255 rfl ⟨(Nat.le_of_ble_eq_true rfl), (Nat.le_of_ble_eq_true rfl)⟩ nlX9_lowerOf (Nat.le_of_ble_eq_true rfl) ⟨(Nat.le_of_ble_eq_true rfl), (Nat.le_of_ble_eq_true rfl)⟩ (sp_X9_lowerOf) (fun r75 M75 h75 => ?_)
              obtain ⟨hr75, hM75⟩ := h75
              obtain rfl := hr75.symm
              obtain rfl := hM75.symm
              refine tr_ireti (pc := 78) dX9_height_78 rfl ?_
              refine ⟨?_, tk_fr.rf⟩
              unfold x_height
              repeat' split
              all_goals first | rfl | omega
          · skip
            refine tr_aload_n (pc := 33) dX9_height_33 rfl (by decide) ?_
            refine tr_getr (pc := 34) (x := 1) dX9_height_34 fi9_12 rfl sg0 rfl ?_
            refine tr_iload_n (pc := 37) dX9_height_37 rfl ?_
            refine tr_cVr1 (pc := 38) dX9_height_38 mtX8_ideal lv9_85 rfl sg1 kc8 ⟨(Nat.le_of_ble_eq_true rfl), (Nat.le_of_ble_eq_true rfl)⟩ nlX8_ideal (Nat.le_of_ble_eq_true rfl) ⟨(Nat.le_of_ble_eq_true rfl), (Nat.le_of_ble_eq_true rfl)⟩ (sp_now) (fun r38 M38 h38 => ?_)
            obtain ⟨hr38, hM38⟩ := h38
            obtain rfl := hr38.symm
            obtain rfl := hM38.symm
            refine tr_iload_n (pc := 41) dX9_height_41 rfl ?_
            refine tr_cVi1 (pc := 42) dX9_height_42 mtX3_lowestB lv9_252 rfl hrq kc3 ⟨(Nat.le_of_ble_eq_true rfl), (Nat.le_of_ble_eq_true rfl)⟩ nlX3_lowestB (Nat.le_of_ble_eq_true rfl) ⟨(Nat.le_of_ble_eq_true rfl), (Nat.le_of_ble_eq_true rfl)⟩ (sp_X3_lowestB hrs hsel) (fun r42 M42 h42 => ?_)
            obtain ⟨hr42, hM42⟩ := h42
            obtain rfl := hr42.symm
            obtain rfl := hM42.symm
            refine tr_ireti (pc := 45) dX9_height_45 rfl ?_
            refine ⟨?_, tk_fr.rf⟩
            unfold x_height
            repeat' split
            all_goals first | rfl | omega
        · skip
          refine tr_bipush (pc := 26) dX9_height_26 ⟨by decide, ⟨by decide, by decide⟩⟩ ?_
          refine tr_ireti (pc := 28) dX9_height_28 rfl ?_
          refine ⟨?_, tk_fr.rf⟩
          unfold x_height
          repeat' split
          all_goals first | rfl | omega
    · skip
      refine tr_iconst (pc := 14) dX9_height_14 ⟨by decide, by decide⟩ ?_
      refine tr_ireti (pc := 15) dX9_height_15 rfl ?_
      refine ⟨?_, tk_fr.rf⟩
      unfold x_height
      repeat' split
      all_goals first | rfl | omega
