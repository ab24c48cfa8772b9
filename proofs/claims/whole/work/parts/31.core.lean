/-- lessen: all powers n less, 0 at least, like ones once -/
def ig_les (n : Int) : List (Int × Int) → List (Int × Int) → List (Int × Int)
  | acc, [] => acc
  | acc, (p, q) :: t => ig_les n (ig_addN acc (max 0 (p - n)) (max 0 (q - n))) t
theorem ig_addN_len (g : List (Int × Int)) (a b : Int) : (ig_addN g a b).length ≤ g.length + 1 := by
  unfold ig_addN ig_add
  split
  · split
    · simp
    · omega
  · omega
theorem sp_X3_lessen {G : tk_G} {M : tk_M} {r n : Int} {g : List (Int × Int)} (hr : ig_s r) (hg : ig_at M r g) (hn : 1 ≤ n ∧ n ≤ 9) : Spv G FX3_lessen [xR r, xI n] SF M (fun M' => ig_at M' r (ig_les n [] g) ∧ tk_fr M M' r (r + 3)) := by
  have hr' := hr
  obtain ⟨r0, s0, s1, s2⟩ := hr
  have hln := hg.len
  obtain ⟨hg, h6⟩ := hg
  refine Spv.of _ mtX3_lessen nlX3_lessen (Nat.le_of_ble_eq_true rfl) ?_
  show Ok G FX3_lessen 0 [xR r, xI n, xU, xU] [] SF M 0 0 _
  have loop : ∀ (g' : List (Int × Int)) (k : Int) (acc : List (Int × Int)) (M1 : tk_M), 0 ≤ k → (acc.length : Int) ≤ k → ig_at M1 r acc → (∀ i, k ≤ i → M1 (r + 1) i = M (r + 1) i ∧ M1 (r + 2) i = M (r + 2) i) → tk_fr M M1 r (r + 3) → ig_seg (M (r + 1)) (M (r + 2)) (M r 2) k g' → Ok G FX3_lessen 12 [xR r, xI n, xI (M r 2), xI k] [] SF M1 0 0 (tk_qv SF (fun M' => ig_at M' r (ig_les n acc g') ∧ tk_fr M M' r (r + 3))) := by
    intro g'
    induction g' with
    | nil =>
      intro k acc M1 hk hac ha hc hf hs
      have hs : k = M r 2 := hs
      refine tr_iload_n (pc := 12) dX3_lessen_12 rfl ?_
      refine tr_iload_n (pc := 13) dX3_lessen_13 rfl ?_
      refine tr_icmpge (pc := 14) (tgt := 51) dX3_lessen_14 (by decide) (fun c14 => ?_) (fun c14 => absurd c14 (by omega))
      refine tr_vret (pc := 51) dX3_lessen_51 rfl ?_
      exact ⟨ha, hf⟩
    | cons q t ih =>
      intro k acc M1 hk hac ha hc hf hs
      obtain ⟨p, q⟩ := q
      obtain ⟨e1, e2, b1, b2, b3, b4, hlt, hs⟩ := hs
      have hck := hc k (Int.le_refl _)
      have hla := ha.len
      have hal := ig_addN_len acc (max 0 (p - n)) (max 0 (q - n))
      refine tr_iload_n (pc := 12) dX3_lessen_12 rfl ?_
      refine tr_iload_n (pc := 13) dX3_lessen_13 rfl ?_
      refine tr_icmpge (pc := 14) (tgt := 51) dX3_lessen_14 (by decide) (fun c14 => absurd c14 (by omega)) (fun c14 => ?_)
      refine tr_aload_n (pc := 17) dX3_lessen_17 rfl (by omega) ?_
      refine tr_iconst (pc := 18) dX3_lessen_18 ⟨by decide, by decide⟩ ?_
      refine tr_aload_n (pc := 19) dX3_lessen_19 rfl (by omega) ?_
      refine tr_getr (pc := 20) (x := r + 1) dX3_lessen_20 fi3_9 rfl (by assumption) rfl ?_
      refine tr_iload_n (pc := 23) dX3_lessen_23 rfl ?_
      refine tr_ialdv (pc := 24) (x := p) dX3_lessen_24 (by assumption) (by omega) (by omega) (hck.1.trans e1) ?_
      refine tr_iload_n (pc := 25) dX3_lessen_25 rfl ?_
      refine tr_isub (pc := 26) dX3_lessen_26 ⟨by omega, by omega⟩ ?_
      refine tr_max (pc := 27) dX3_lessen_27 mm3_30 rfl (Nat.le_of_ble_eq_true rfl) (Nat.le_of_ble_eq_true rfl) ⟨(Nat.le_of_ble_eq_true rfl), (Nat.le_of_ble_eq_true rfl)⟩ ?_
      refine tr_iconst (pc := 30) dX3_lessen_30 ⟨by decide, by decide⟩ ?_
      refine tr_aload_n (pc := 31) dX3_lessen_31 rfl (by omega) ?_
      refine tr_getr (pc := 32) (x := r + 2) dX3_lessen_32 fi3_15 rfl (by assumption) rfl ?_
      refine tr_iload_n (pc := 35) dX3_lessen_35 rfl ?_
      refine tr_ialdv (pc := 36) (x := q) dX3_lessen_36 (by assumption) (by omega) (by omega) (hck.2.trans e2) ?_
      refine tr_iload_n (pc := 37) dX3_lessen_37 rfl ?_
      refine tr_isub (pc := 38) dX3_lessen_38 ⟨by omega, by omega⟩ ?_
      refine tr_max (pc := 39) dX3_lessen_39 mm3_30 rfl (Nat.le_of_ble_eq_true rfl) (Nat.le_of_ble_eq_true rfl) ⟨(Nat.le_of_ble_eq_true rfl), (Nat.le_of_ble_eq_true rfl)⟩ ?_
      refine tr_cVv2 (pc := 42) dX3_lessen_42 mtX3_addIfNew lv3_35 rfl (by assumption) kc3 ⟨(Nat.le_of_ble_eq_true rfl), (Nat.le_of_ble_eq_true rfl)⟩ nlX3_addIfNew (Nat.le_of_ble_eq_true rfl) ⟨(Nat.le_of_ble_eq_true rfl), (Nat.le_of_ble_eq_true rfl)⟩ (sp_X3_addIfNew hr' ha) (fun M42 h42 => ?_)
      obtain rfl := h42.symm
      refine tr_iinc (pc := 45) dX3_lessen_45 rfl rfl ⟨by omega, by omega⟩ ?_
      dsimp only [List.set]
      refine tr_goto (pc := 48) (tgt := 12) dX3_lessen_48 (by decide) ?_
      unfold ig_les
      refine ih (k + 1) _ _ (by omega) (by omega) (ig_addNM_at ha (by omega) (by omega) (by omega) (by omega)) (fun i hi => ?_) (hf.trans (ig_addNM_fr M1 r _ _ acc)) hs
      have h7 := hc i (by omega)
      unfold ig_addNM ig_addM
      split
      · split
        · rw [tk_mu_c (show r + 1 ≠ r by omega), tk_mu_c (show r + 1 ≠ r + 2 by omega), tk_mu_i (by omega), tk_mu_c (show r + 2 ≠ r by omega), tk_mu_i (by omega), tk_mu_c (show r + 2 ≠ r + 1 by omega)]; exact h7
        · exact h7
      · exact h7
  refine tr_aload_n (pc := 0) dX3_lessen_0 rfl (by omega) ?_
  refine tr_geti (pc := 1) (ji := 2) dX3_lessen_1 fi3_18 rfl (by assumption) rfl ?_
  refine tr_istore_n (pc := 4) dX3_lessen_4 rfl (Nat.le_of_ble_eq_true rfl) ?_
  dsimp only [List.set]
  refine tr_aload_n (pc := 5) dX3_lessen_5 rfl (by omega) ?_
  refine tr_iconst (pc := 6) dX3_lessen_6 ⟨by decide, by decide⟩ ?_
  refine tr_puti (pc := 7) (ji := 2) dX3_lessen_7 fi3_18 rfl (Or.inl rfl) (Or.inl rfl) (by assumption) rfl ?_
  refine tr_iconst (pc := 10) dX3_lessen_10 ⟨by decide, by decide⟩ ?_
  refine tr_istore_n (pc := 11) dX3_lessen_11 rfl (Nat.le_of_ble_eq_true rfl) ?_
  dsimp only [List.set]
  exact loop g 0 [] _ (by omega) (by simp) (ig_empty_at M r) (fun i _ => ⟨by rw [tk_mu_c (by omega)], by rw [tk_mu_c (by omega)]⟩) (tk_fr.rf.mu (by omega) (by omega)) hg
/-- GENERATORS of both IDEALS, and DEEDS -/
abbrev cC : Type := List (Int × Int) × List (Int × Int) × List (Int × List (Int × Int))
def csel (i : Int) (C : cC) : List (Int × Int) := if i = 0 then C.1 else C.2.1
def cset (i : Int) (g : List (Int × Int)) (C : cC) : cC := if i = 0 then (g, C.2.1, C.2.2) else (C.1, g, C.2.2)
def cdeed (i : Int) (C : cC) : cC := (C.1, C.2.1, ((i, csel i C) :: C.2.2).take 10)
def Cg (M : tk_M) (C : cC) : Prop := ig_at M 2 C.1 ∧ ig_at M 5 C.2.1 ∧ dd_at M C.2.2
/-- what the calls that change GENERATORS leave alone -/
def fC (M M' : tk_M) : Prop := ∀ c : Int, ¬ (2 ≤ c ∧ c ≤ 7) → ¬ (39 ≤ c ∧ c ≤ 71) → ¬ (87 ≤ c ∧ c ≤ 100) → M' c = M c
theorem fC.rf {M : tk_M} : fC M M := fun _ _ _ _ => rfl
theorem fC.trans {M M1 M2 : tk_M} (h1 : fC M M1) (h2 : fC M1 M2) : fC M M2 := fun c a b d => (h2 c a b d).trans (h1 c a b d)
theorem fC.id {M M1 : tk_M} {i : Int} (h : tk_fr M M1 (rid i) (rid i + 3)) : fC M M1 := fun c a b d => h c (by have := rid_r i; omega)
theorem fC.dd {M M1 : tk_M} (h : tk_fr M M1 39 72) : fC M M1 := fun c a b d => h c (by omega)
theorem fC.sc {M M1 : tk_M} (h : tk_fr M M1 87 101) : fC M M1 := fun c a b d => h c (by omega)
theorem Cg.sel {M : tk_M} {C : cC} (h : Cg M C) (i : Int) : ig_at M (rid i) (csel i C) := by
  unfold rid csel
  split
  · exact h.1
  · exact h.2.1
theorem Cg.scr {M M1 : tk_M} {C : cC} (h : Cg M C) (hf : tk_fr M M1 87 101) : Cg M1 C := ⟨h.1.frame hf (by omega), h.2.1.frame hf (by omega), h.2.2.frame (fun c h1 h2 => hf c (by omega))⟩
theorem Cg.keep {M M1 : tk_M} {C : cC} {i : Int} (h : Cg M C) (hd : dd_at M1 (((i, csel i C) :: C.2.2).take 10)) (hf : tk_fr M M1 39 72) : Cg M1 (cdeed i C) := ⟨h.1.frame hf (by omega), h.2.1.frame hf (by omega), hd⟩
theorem Cg.set {M M1 : tk_M} {C : cC} {i : Int} {g : List (Int × Int)} (h : Cg M C) (hi : ig_at M1 (rid i) g) (hf : tk_fr M M1 (rid i) (rid i + 3)) : Cg M1 (cset i g C) := by
  unfold cset
  unfold rid at hi hf
  by_cases h0 : i = 0
  · rw [if_pos h0] at hi hf ⊢
    exact ⟨hi, h.2.1.frame hf (by omega), h.2.2.frame (fun c h1 h2 => hf c (by omega))⟩
  · rw [if_neg h0] at hi hf ⊢
    exact ⟨h.1.frame hf (by omega), hi, h.2.2.frame (fun c h1 h2 => hf c (by omega))⟩
theorem csel_deed (i : Int) (C : cC) : csel i (cdeed i C) = csel i C := rfl
def c_gen (C : cC) (i a b : Int) : Int × cC :=
  if ¬ (0 ≤ i ∧ i ≤ 1) then (-1, C) else if ¬ ((0 ≤ a ∧ a ≤ 9) ∧ (0 ≤ b ∧ b ≤ 9)) then (-2, C) else if 0 ≤ ig_find a b 0 (csel i C) then (-3, C) else if 6 ≤ (csel i C).length then (-4, C)
  else ((csel i C).length + 1, cset i (csel i C ++ [(a, b)]) (cdeed i C))
theorem sp_X9_generate {G : tk_G} {M : tk_M} {C : cC} {i a b : Int} (hC : Cg M C) : Spi G FX9_generate [xR 0, xI i, xI a, xI b] SF M (fun v M' => v = (c_gen C i a b).1 ∧ Cg M' (c_gen C i a b).2 ∧ fC M M') := by
  have hsel := hC.sel i
  have hln := hsel.len
  have hrs := rid_s i
  have hrr := rid_r i
  have hrq := hrs.2.1
  refine Spi.of _ mtX9_generate nlX9_generate (Nat.le_of_ble_eq_true rfl) ?_
  show Ok G FX9_generate 0 [xR 0, xI i, xI a, xI b, xU] [] SF M 0 0 _
  unfold c_gen
  by_cases hi : 0 ≤ i ∧ i ≤ 1
  · rw [if_neg (fun h => h hi)]
    by_cases ht : (0 ≤ a ∧ a ≤ 9) ∧ (0 ≤ b ∧ b ≤ 9)
    · rw [if_neg (fun h => h ht)]
      refine tr_iload_n (pc := 0) dX9_generate_0 rfl ?_
      refine tr_cSi1 (pc := 1) dX9_generate_1 mtX9_noIdeal ls9_77 rfl ⟨(Nat.le_of_ble_eq_true rfl), (Nat.le_of_ble_eq_true rfl)⟩ nlX9_noIdeal (Nat.le_of_ble_eq_true rfl) ⟨(Nat.le_of_ble_eq_true rfl), (Nat.le_of_ble_eq_true rfl)⟩ (sp_X9_noIdeal) (fun r1 M1 h1 => ?_)
      rw [if_pos hi] at h1
      obtain ⟨hr1, hM1⟩ := h1
      obtain rfl := hr1.symm
      obtain rfl := hM1.symm
      refine tr_ifeq (pc := 4) (tgt := 9) dX9_generate_4 (by decide) (fun c4 => ?_) (fun c4 => absurd c4 (by omega))
      refine tr_iload_n (pc := 9) dX9_generate_9 rfl ?_
      refine tr_iload_n (pc := 10) dX9_generate_10 rfl ?_
      refine tr_cSi2 (pc := 11) dX9_generate_11 mtX9_badTerm ls9_81 rfl ⟨(Nat.le_of_ble_eq_true rfl), (Nat.le_of_ble_eq_true rfl)⟩ nlX9_badTerm (Nat.le_of_ble_eq_true rfl) ⟨(Nat.le_of_ble_eq_true rfl), (Nat.le_of_ble_eq_true rfl)⟩ (sp_X9_badTerm) (fun r11 M11 h11 => ?_)
      rw [if_pos ht] at h11
      obtain ⟨hr11, hM11⟩ := h11
      obtain rfl := hr11.symm
      obtain rfl := hM11.symm
      refine tr_ifeq (pc := 14) (tgt := 20) dX9_generate_14 (by decide) (fun c14 => ?_) (fun c14 => absurd c14 (by omega))
      refine tr_aload_n (pc := 20) dX9_generate_20 rfl (by decide) ?_
      refine tr_getr (pc := 21) (x := 1) dX9_generate_21 fi9_12 rfl sg0 rfl ?_
      refine tr_iload_n (pc := 24) dX9_generate_24 rfl ?_
      refine tr_cVr1 (pc := 25) dX9_generate_25 mtX8_ideal lv9_85 rfl sg1 kc8 ⟨(Nat.le_of_ble_eq_true rfl), (Nat.le_of_ble_eq_true rfl)⟩ nlX8_ideal (Nat.le_of_ble_eq_true rfl) ⟨(Nat.le_of_ble_eq_true rfl), (Nat.le_of_ble_eq_true rfl)⟩ (sp_now) (fun r25 M25 h25 => ?_)
      obtain ⟨hr25, hM25⟩ := h25
      obtain rfl := hr25.symm
      obtain rfl := hM25.symm
      refine tr_astore (pc := 28) dX9_generate_28 rfl (Nat.le_of_ble_eq_true rfl) (by omega) ?_
      dsimp only [List.set]
      refine tr_aload (pc := 30) dX9_generate_30 rfl (by omega) ?_
      refine tr_iload_n (pc := 32) dX9_generate_32 rfl ?_
      refine tr_iload_n (pc := 33) dX9_generate_33 rfl ?_
      refine tr_cVi2 (pc := 34) dX9_generate_34 mtX3_find lv9_89 rfl hrq kc3 ⟨(Nat.le_of_ble_eq_true rfl), (Nat.le_of_ble_eq_true rfl)⟩ nlX3_find (Nat.le_of_ble_eq_true rfl) ⟨(Nat.le_of_ble_eq_true rfl), (Nat.le_of_ble_eq_true rfl)⟩ (sp_X3_find hrs hsel) (fun r34 M34 h34 => ?_)
      obtain ⟨hr34, hM34⟩ := h34
      obtain rfl := hr34.symm
      obtain rfl := hM34.symm
      refine tr_iflt (pc := 37) (tgt := 43) dX9_generate_37 (by decide) (fun c37 => ?_) (fun c37 => ?_)
      · skip
        refine tr_aload (pc := 43) dX9_generate_43 rfl (by omega) ?_
        refine tr_cVi0 (pc := 45) dX9_generate_45 mtX3_size lv9_93 rfl hrq kc3 ⟨(Nat.le_of_ble_eq_true rfl), (Nat.le_of_ble_eq_true rfl)⟩ nlX3_size (Nat.le_of_ble_eq_true rfl) ⟨(Nat.le_of_ble_eq_true rfl), (Nat.le_of_ble_eq_true rfl)⟩ (sp_X3_size hrs) (fun r45 M45 h45 => ?_)
        obtain ⟨hr45, hM45⟩ := h45
        obtain rfl := hr45.symm
        obtain rfl := hM45.symm
        refine tr_bipush (pc := 48) dX9_generate_48 ⟨by decide, ⟨by decide, by decide⟩⟩ ?_
        refine tr_icmplt (pc := 50) (tgt := 56) dX9_generate_50 (by decide) (fun c50 => ?_) (fun c50 => ?_)
        · skip
          refine tr_aload_n (pc := 56) dX9_generate_56 rfl (by decide) ?_
          refine tr_getr (pc := 57) (x := 39) dX9_generate_57 fi9_28 rfl sg0 rfl ?_
          refine tr_iload_n (pc := 60) dX9_generate_60 rfl ?_
          refine tr_aload (pc := 61) dX9_generate_61 rfl (by omega) ?_
          refine tr_cVv2 (pc := 63) dX9_generate_63 mtX0_keep lv9_97 rfl sg39 kc0 ⟨(Nat.le_of_ble_eq_true rfl), (Nat.le_of_ble_eq_true rfl)⟩ nlX0_keep (Nat.le_of_ble_eq_true rfl) ⟨(Nat.le_of_ble_eq_true rfl), (Nat.le_of_ble_eq_true rfl)⟩ (sp_X0_keep hrs (by omega) hsel (by omega) hC.2.2) (fun M63 h63 => ?_)
          obtain ⟨hD, f1⟩ := h63
          have hC1 := hC.keep hD f1
          have hsel1 : ig_at M63 (rid i) (csel i C) := hsel.frame f1 (by omega)
          have hln1 := hsel1.len
          refine tr_aload (pc := 66) dX9_generate_66 rfl (by omega) ?_
          refine tr_iload_n (pc := 68) dX9_generate_68 rfl ?_
          refine tr_iload_n (pc := 69) dX9_generate_69 rfl ?_
          refine tr_cVv2 (pc := 70) dX9_generate_70 mtX3_add lv9_101 rfl hrq kc3 ⟨(Nat.le_of_ble_eq_true rfl), (Nat.le_of_ble_eq_true rfl)⟩ nlX3_add (Nat.le_of_ble_eq_true rfl) ⟨(Nat.le_of_ble_eq_true rfl), (Nat.le_of_ble_eq_true rfl)⟩ (sp_X3_add hrs (by omega)) (fun M70 h70 => ?_)
          obtain rfl := h70.symm
          refine tr_aload (pc := 73) dX9_generate_73 rfl (by omega) ?_
          refine tr_cVi0 (pc := 75) dX9_generate_75 mtX3_size lv9_93 rfl hrq kc3 ⟨(Nat.le_of_ble_eq_true rfl), (Nat.le_of_ble_eq_true rfl)⟩ nlX3_size (Nat.le_of_ble_eq_true rfl) ⟨(Nat.le_of_ble_eq_true rfl), (Nat.le_of_ble_eq_true rfl)⟩ (sp_X3_size hrs) (fun r75 M75 h75 => ?_)
          obtain ⟨hr75, hM75⟩ := h75
          obtain rfl := hr75.symm
          obtain rfl := hM75.symm
          refine tr_ireti (pc := 78) dX9_generate_78 rfl ?_
          rw [if_neg (by omega), if_neg (by omega)]
          have h9 := ig_addM_at hsel1 ht.1.1 ht.1.2 ht.2.1 ht.2.2
          rw [show ig_add (csel i C) a b = csel i C ++ [(a, b)] from if_pos (by omega)] at h9
          have f9 := ig_addM_fr M63 (rid i) a b
          refine ⟨?_, hC1.set h9 f9, (fC.dd f1).trans (fC.id f9)⟩
          rw [h9.len.1, List.length_append]; simp
        · skip
          refine tr_bipush (pc := 53) dX9_generate_53 ⟨by decide, ⟨by decide, by decide⟩⟩ ?_
          refine tr_ireti (pc := 55) dX9_generate_55 rfl ?_
          rw [if_neg (by omega), if_pos (by omega)]
          exact ⟨rfl, hC, fC.rf⟩
      · skip
        refine tr_bipush (pc := 40) dX9_generate_40 ⟨by decide, ⟨by decide, by decide⟩⟩ ?_
        refine tr_ireti (pc := 42) dX9_generate_42 rfl ?_
        rw [if_pos (by omega)]
        exact ⟨rfl, hC, fC.rf⟩
    · rw [if_pos ht]
      refine tr_iload_n (pc := 0) dX9_generate_0 rfl ?_
      refine tr_cSi1 (pc := 1) dX9_generate_1 mtX9_noIdeal ls9_77 rfl ⟨(Nat.le_of_ble_eq_true rfl), (Nat.le_of_ble_eq_true rfl)⟩ nlX9_noIdeal (Nat.le_of_ble_eq_true rfl) ⟨(Nat.le_of_ble_eq_true rfl), (Nat.le_of_ble_eq_true rfl)⟩ (sp_X9_noIdeal) (fun r1 M1 h1 => ?_)
      rw [if_pos hi] at h1
      obtain ⟨hr1, hM1⟩ := h1
      obtain rfl := hr1.symm
      obtain rfl := hM1.symm
      refine tr_ifeq (pc := 4) (tgt := 9) dX9_generate_4 (by decide) (fun c4 => ?_) (fun c4 => absurd c4 (by omega))
      refine tr_iload_n (pc := 9) dX9_generate_9 rfl ?_
      refine tr_iload_n (pc := 10) dX9_generate_10 rfl ?_
      refine tr_cSi2 (pc := 11) dX9_generate_11 mtX9_badTerm ls9_81 rfl ⟨(Nat.le_of_ble_eq_true rfl), (Nat.le_of_ble_eq_true rfl)⟩ nlX9_badTerm (Nat.le_of_ble_eq_true rfl) ⟨(Nat.le_of_ble_eq_true rfl), (Nat.le_of_ble_eq_true rfl)⟩ (sp_X9_badTerm) (fun r11 M11 h11 => ?_)
      rw [if_neg ht] at h11
      obtain ⟨hr11, hM11⟩ := h11
      obtain rfl := hr11.symm
      obtain rfl := hM11.symm
      refine tr_ifeq (pc := 14) (tgt := 20) dX9_generate_14 (by decide) (fun c14 => absurd c14 (by omega)) (fun c14 => ?_)
      refine tr_bipush (pc := 17) dX9_generate_17 ⟨by decide, ⟨by decide, by decide⟩⟩ ?_
      refine tr_ireti (pc := 19) dX9_generate_19 rfl ?_
      exact ⟨rfl, hC, fC.rf⟩
  · rw [if_pos hi]
    refine tr_iload_n (pc := 0) dX9_generate_0 rfl ?_
    refine tr_cSi1 (pc := 1) dX9_generate_1 mtX9_noIdeal ls9_77 rfl ⟨(Nat.le_of_ble_eq_true rfl), (Nat.le_of_ble_eq_true rfl)⟩ nlX9_noIdeal (Nat.le_of_ble_eq_true rfl) ⟨(Nat.le_of_ble_eq_true rfl), (Nat.le_of_ble_eq_true rfl)⟩ (sp_X9_noIdeal) (fun r1 M1 h1 => ?_)
    rw [if_neg hi] at h1
    obtain ⟨hr1, hM1⟩ := h1
    obtain rfl := hr1.symm
    obtain rfl := hM1.symm
    refine tr_ifeq (pc := 4) (tgt := 9) dX9_generate_4 (by decide) (fun c4 => absurd c4 (by omega)) (fun c4 => ?_)
    refine tr_iconst (pc := 7) dX9_generate_7 ⟨by decide, by decide⟩ ?_
    refine tr_ireti (pc := 8) dX9_generate_8 rfl ?_
    exact ⟨rfl, hC, fC.rf⟩
def c_drop (C : cC) (i k : Int) : Int × cC := if (0 ≤ i ∧ i ≤ 1) ∧ (0 ≤ k ∧ k < (csel i C).length) then ((csel i C).length - 1, cset i ((csel i C).eraseIdx k.toNat) (cdeed i C)) else (-1, C)
theorem sp_X9_drop {G : tk_G} {M : tk_M} {C : cC} {i k : Int} (hC : Cg M C) : Spi G FX9_drop [xR 0, xI i, xI k] SF M (fun v M' => v = (c_drop C i k).1 ∧ Cg M' (c_drop C i k).2 ∧ fC M M') := by
  have hsel := hC.sel i
  have hln := hsel.len
  have hrs := rid_s i
  have hrr := rid_r i
  have hrq := hrs.2.1
  refine Spi.of _ mtX9_drop nlX9_drop (Nat.le_of_ble_eq_true rfl) ?_
  show Ok G FX9_drop 0 [xR 0, xI i, xI k, xU] [] SF M 0 0 _
  unfold c_drop
  by_cases hi : (0 ≤ i ∧ i ≤ 1) ∧ (0 ≤ k ∧ k < (csel i C).length)
  · rw [if_pos hi]
    refine tr_aload_n (pc := 0) dX9_drop_0 rfl (by decide) ?_
    refine tr_iload_n (pc := 1) dX9_drop_1 rfl ?_
    refine tr_iload_n (pc := 2) dX9_drop_2 rfl ?_
    refine tr_cVi2 (pc := 3) dX9_drop_3 mtX9_noGenerator lv9_105 rfl sg0 kc9 ⟨(Nat.le_of_ble_eq_true rfl), (Nat.le_of_ble_eq_true rfl)⟩ nlX9_noGenerator (Nat.le_of_ble_eq_true rfl) ⟨(Nat.le_of_ble_eq_true rfl), (Nat.le_of_ble_eq_true rfl)⟩ (sp_X9_noGenerator) (fun r3 M3 h3 => ?_)
    rw [if_pos (by omega)] at h3
    obtain ⟨hr3, hM3⟩ := h3
    obtain rfl := hr3.symm
    obtain rfl := hM3.symm
    refine tr_ifeq (pc := 6) (tgt := 11) dX9_drop_6 (by decide) (fun c6 => ?_) (fun c6 => absurd c6 (by omega))
    refine tr_aload_n (pc := 11) dX9_drop_11 rfl (by decide) ?_
    refine tr_getr (pc := 12) (x := 1) dX9_drop_12 fi9_12 rfl sg0 rfl ?_
    refine tr_iload_n (pc := 15) dX9_drop_15 rfl ?_
    refine tr_cVr1 (pc := 16) dX9_drop_16 mtX8_ideal lv9_85 rfl sg1 kc8 ⟨(Nat.le_of_ble_eq_true rfl), (Nat.le_of_ble_eq_true rfl)⟩ nlX8_ideal (Nat.le_of_ble_eq_true rfl) ⟨(Nat.le_of_ble_eq_true rfl), (Nat.le_of_ble_eq_true rfl)⟩ (sp_now) (fun r16 M16 h16 => ?_)
    obtain ⟨hr16, hM16⟩ := h16
    obtain rfl := hr16.symm
    obtain rfl := hM16.symm
    refine tr_astore_n (pc := 19) dX9_drop_19 rfl (Nat.le_of_ble_eq_true rfl) (by omega) ?_
    dsimp only [List.set]
    refine tr_aload_n (pc := 20) dX9_drop_20 rfl (by decide) ?_
    refine tr_getr (pc := 21) (x := 39) dX9_drop_21 fi9_28 rfl sg0 rfl ?_
    refine tr_iload_n (pc := 24) dX9_drop_24 rfl ?_
    refine tr_aload_n (pc := 25) dX9_drop_25 rfl (by omega) ?_
    refine tr_cVv2 (pc := 26) dX9_drop_26 mtX0_keep lv9_97 rfl sg39 kc0 ⟨(Nat.le_of_ble_eq_true rfl), (Nat.le_of_ble_eq_true rfl)⟩ nlX0_keep (Nat.le_of_ble_eq_true rfl) ⟨(Nat.le_of_ble_eq_true rfl), (Nat.le_of_ble_eq_true rfl)⟩ (sp_X0_keep hrs (by omega) hsel (by omega) hC.2.2) (fun M26 h26 => ?_)
    obtain ⟨hD, f1⟩ := h26
    have hC1 := hC.keep hD f1
    have hsel1 : ig_at M26 (rid i) (csel i C) := hsel.frame f1 (by omega)
    refine tr_aload_n (pc := 29) dX9_drop_29 rfl (by omega) ?_
    refine tr_iload_n (pc := 30) dX9_drop_30 rfl ?_
    refine tr_cVv1 (pc := 31) dX9_drop_31 mtX3_remove lv9_108 rfl hrq kc3 ⟨(Nat.le_of_ble_eq_true rfl), (Nat.le_of_ble_eq_true rfl)⟩ nlX3_remove (Nat.le_of_ble_eq_true rfl) ⟨(Nat.le_of_ble_eq_true rfl), (Nat.le_of_ble_eq_true rfl)⟩ (sp_X3_remove hrs hsel1) (fun M31 h31 => ?_)
    rw [if_pos hi.2.1] at h31
    obtain ⟨h9, f9⟩ := h31
    refine tr_aload_n (pc := 34) dX9_drop_34 rfl (by omega) ?_
    refine tr_cVi0 (pc := 35) dX9_drop_35 mtX3_size lv9_93 rfl hrq kc3 ⟨(Nat.le_of_ble_eq_true rfl), (Nat.le_of_ble_eq_true rfl)⟩ nlX3_size (Nat.le_of_ble_eq_true rfl) ⟨(Nat.le_of_ble_eq_true rfl), (Nat.le_of_ble_eq_true rfl)⟩ (sp_X3_size hrs) (fun r35 M35 h35 => ?_)
    obtain ⟨hr35, hM35⟩ := h35
    obtain rfl := hr35.symm
    obtain rfl := hM35.symm
    refine tr_ireti (pc := 38) dX9_drop_38 rfl ?_
    refine ⟨?_, hC1.set h9 f9, (fC.dd f1).trans (fC.id f9)⟩
    rw [h9.len.1, List.length_eraseIdx]
    rw [if_pos (by omega)]
    omega
  · rw [if_neg hi]
    refine tr_aload_n (pc := 0) dX9_drop_0 rfl (by decide) ?_
    refine tr_iload_n (pc := 1) dX9_drop_1 rfl ?_
    refine tr_iload_n (pc := 2) dX9_drop_2 rfl ?_
    refine tr_cVi2 (pc := 3) dX9_drop_3 mtX9_noGenerator lv9_105 rfl sg0 kc9 ⟨(Nat.le_of_ble_eq_true rfl), (Nat.le_of_ble_eq_true rfl)⟩ nlX9_noGenerator (Nat.le_of_ble_eq_true rfl) ⟨(Nat.le_of_ble_eq_true rfl), (Nat.le_of_ble_eq_true rfl)⟩ (sp_X9_noGenerator) (fun r3 M3 h3 => ?_)
    rw [if_neg (by omega)] at h3
    obtain ⟨hr3, hM3⟩ := h3
    obtain rfl := hr3.symm
    obtain rfl := hM3.symm
    refine tr_ifeq (pc := 6) (tgt := 11) dX9_drop_6 (by decide) (fun c6 => absurd c6 (by omega)) (fun c6 => ?_)
    refine tr_iconst (pc := 9) dX9_drop_9 ⟨by decide, by decide⟩ ?_
    refine tr_ireti (pc := 10) dX9_drop_10 rfl ?_
    exact ⟨rfl, hC, fC.rf⟩
def c_clear (C : cC) (i : Int) : Int × cC := if ¬ (0 ≤ i ∧ i ≤ 1) then (-1, C) else if (csel i C).length = 0 then (-3, C) else ((csel i C).length, cset i [] (cdeed i C))
theorem sp_X9_clear {G : tk_G} {M : tk_M} {C : cC} {i : Int} (hC : Cg M C) : Spi G FX9_clear [xR 0, xI i] SF M (fun v M' => v = (c_clear C i).1 ∧ Cg M' (c_clear C i).2 ∧ fC M M') := by
  have hsel := hC.sel i
  have hln := hsel.len
  have hrs := rid_s i
  have hrr := rid_r i
  have hrq := hrs.2.1
  refine Spi.of _ mtX9_clear nlX9_clear (Nat.le_of_ble_eq_true rfl) ?_
  show Ok G FX9_clear 0 [xR 0, xI i, xU, xU] [] SF M 0 0 _
  unfold c_clear
  by_cases hi : 0 ≤ i ∧ i ≤ 1
  · rw [if_neg (fun h => h hi)]
    refine tr_iload_n (pc := 0) dX9_clear_0 rfl ?_
    refine tr_cSi1 (pc := 1) dX9_clear_1 mtX9_noIdeal ls9_77 rfl ⟨(Nat.le_of_ble_eq_true rfl), (Nat.le_of_ble_eq_true rfl)⟩ nlX9_noIdeal (Nat.le_of_ble_eq_true rfl) ⟨(Nat.le_of_ble_eq_true rfl), (Nat.le_of_ble_eq_true rfl)⟩ (sp_X9_noIdeal) (fun r1 M1 h1 => ?_)
    rw [if_pos hi] at h1
    obtain ⟨hr1, hM1⟩ := h1
    obtain rfl := hr1.symm
    obtain rfl := hM1.symm
    refine tr_ifeq (pc := 4) (tgt := 9) dX9_clear_4 (by decide) (fun c4 => ?_) (fun c4 => absurd c4 (by omega))
    refine tr_aload_n (pc := 9) dX9_clear_9 rfl (by decide) ?_
    refine tr_getr (pc := 10) (x := 1) dX9_clear_10 fi9_12 rfl sg0 rfl ?_
    refine tr_iload_n (pc := 13) dX9_clear_13 rfl ?_
    refine tr_cVr1 (pc := 14) dX9_clear_14 mtX8_ideal lv9_85 rfl sg1 kc8 ⟨(Nat.le_of_ble_eq_true rfl), (Nat.le_of_ble_eq_true rfl)⟩ nlX8_ideal (Nat.le_of_ble_eq_true rfl) ⟨(Nat.le_of_ble_eq_true rfl), (Nat.le_of_ble_eq_true rfl)⟩ (sp_now) (fun r14 M14 h14 => ?_)
    obtain ⟨hr14, hM14⟩ := h14
    obtain rfl := hr14.symm
    obtain rfl := hM14.symm
    refine tr_astore_n (pc := 17) dX9_clear_17 rfl (Nat.le_of_ble_eq_true rfl) (by omega) ?_
    dsimp only [List.set]
    refine tr_aload_n (pc := 18) dX9_clear_18 rfl (by omega) ?_
    refine tr_cVi0 (pc := 19) dX9_clear_19 mtX3_size lv9_93 rfl hrq kc3 ⟨(Nat.le_of_ble_eq_true rfl), (Nat.le_of_ble_eq_true rfl)⟩ nlX3_size (Nat.le_of_ble_eq_true rfl) ⟨(Nat.le_of_ble_eq_true rfl), (Nat.le_of_ble_eq_true rfl)⟩ (sp_X3_size hrs) (fun r19 M19 h19 => ?_)
    obtain ⟨hr19, hM19⟩ := h19
    obtain rfl := hr19.symm
    obtain rfl := hM19.symm
    refine tr_istore_n (pc := 22) dX9_clear_22 rfl (Nat.le_of_ble_eq_true rfl) ?_
    dsimp only [List.set]
    refine tr_iload_n (pc := 23) dX9_clear_23 rfl ?_
    refine tr_ifne (pc := 24) (tgt := 30) dX9_clear_24 (by decide) (fun c24 => ?_) (fun c24 => ?_)
    · skip
      refine tr_aload_n (pc := 30) dX9_clear_30 rfl (by decide) ?_
      refine tr_getr (pc := 31) (x := 39) dX9_clear_31 fi9_28 rfl sg0 rfl ?_
      refine tr_iload_n (pc := 34) dX9_clear_34 rfl ?_
      refine tr_aload_n (pc := 35) dX9_clear_35 rfl (by omega) ?_
      refine tr_cVv2 (pc := 36) dX9_clear_36 mtX0_keep lv9_97 rfl sg39 kc0 ⟨(Nat.le_of_ble_eq_true rfl), (Nat.le_of_ble_eq_true rfl)⟩ nlX0_keep (Nat.le_of_ble_eq_true rfl) ⟨(Nat.le_of_ble_eq_true rfl), (Nat.le_of_ble_eq_true rfl)⟩ (sp_X0_keep hrs (by omega) hsel (by omega) hC.2.2) (fun M36 h36 => ?_)
      obtain ⟨hD, f1⟩ := h36
      have hC1 := hC.keep hD f1
      refine tr_aload_n (pc := 39) dX9_clear_39 rfl (by omega) ?_
      refine tr_cVv0 (pc := 40) dX9_clear_40 mtX3_empty lv9_112 rfl hrq kc3 ⟨(Nat.le_of_ble_eq_true rfl), (Nat.le_of_ble_eq_true rfl)⟩ nlX3_empty (Nat.le_of_ble_eq_true rfl) ⟨(Nat.le_of_ble_eq_true rfl), (Nat.le_of_ble_eq_true rfl)⟩ (sp_X3_empty hrs) (fun M40 h40 => ?_)
      obtain rfl := h40.symm
      refine tr_iload_n (pc := 43) dX9_clear_43 rfl ?_
      refine tr_ireti (pc := 44) dX9_clear_44 rfl ?_
      rw [if_neg (by omega)]
      have f9 : tk_fr M36 (tk_mu M36 (rid i) 2 0) (rid i) (rid i + 3) := tk_fr.rf.mu (by omega) (by omega)
      exact ⟨hln.1, hC1.set (ig_empty_at M36 (rid i)) f9, (fC.dd f1).trans (fC.id f9)⟩
    · skip
      refine tr_bipush (pc := 27) dX9_clear_27 ⟨by decide, ⟨by decide, by decide⟩⟩ ?_
      refine tr_ireti (pc := 29) dX9_clear_29 rfl ?_
      rw [if_pos (by omega)]
      exact ⟨rfl, hC, fC.rf⟩
  · rw [if_pos hi]
    refine tr_iload_n (pc := 0) dX9_clear_0 rfl ?_
    refine tr_cSi1 (pc := 1) dX9_clear_1 mtX9_noIdeal ls9_77 rfl ⟨(Nat.le_of_ble_eq_true rfl), (Nat.le_of_ble_eq_true rfl)⟩ nlX9_noIdeal (Nat.le_of_ble_eq_true rfl) ⟨(Nat.le_of_ble_eq_true rfl), (Nat.le_of_ble_eq_true rfl)⟩ (sp_X9_noIdeal) (fun r1 M1 h1 => ?_)
    rw [if_neg hi] at h1
    obtain ⟨hr1, hM1⟩ := h1
    obtain rfl := hr1.symm
    obtain rfl := hM1.symm
    refine tr_ifeq (pc := 4) (tgt := 9) dX9_clear_4 (by decide) (fun c4 => absurd c4 (by omega)) (fun c4 => ?_)
    refine tr_iconst (pc := 7) dX9_clear_7 ⟨by decide, by decide⟩ ?_
    refine tr_ireti (pc := 8) dX9_clear_8 rfl ?_
    exact ⟨rfl, hC, fC.rf⟩
/-- merge: those of h come to g, one behind the other, that aren't among them -/
def ig_mrg : List (Int × Int) → List (Int × Int) → List (Int × Int)
  | g, [] => g
  | g, (p, q) :: t => ig_mrg (ig_addN g p q) t
def c_merge (C : cC) (i : Int) : Int × cC := if ¬ (0 ≤ i ∧ i ≤ 1) then (-1, C) else if 6 < (csel i C).length + ig_unk (csel i C) 0 (csel (1 - i) C) then (-4, C) else ((ig_mrg (csel i C) (csel (1 - i) C)).length, cset i (ig_mrg (csel i C) (csel (1 - i) C)) (cdeed i C))
theorem ig_unk_bd (h : List (Int × Int)) : ∀ (g : List (Int × Int)) (acc : Int), acc ≤ ig_unk h acc g ∧ ig_unk h acc g ≤ acc + g.length := by
  intro g
  induction g with
  | nil => intro acc; unfold ig_unk; simp
  | cons q t ih =>
    intro acc
    obtain ⟨p, q⟩ := q
    unfold ig_unk
    have := ih (if ig_find p q 0 h < 0 then acc + 1 else acc)
    simp only [List.length_cons]
    split at this <;> split <;> omega
theorem sp_X9_merge {G : tk_G} {M : tk_M} {C : cC} {i : Int} (hC : Cg M C) : Spi G FX9_merge [xR 0, xI i] SF M (fun v M' => v = (c_merge C i).1 ∧ Cg M' (c_merge C i).2 ∧ fC M M') := by
  have hsel := hC.sel i
  have hln := hsel.len
  have hsel2 := hC.sel (1 - i)
  have hln2 := hsel2.len
  have hrs := rid_s i
  have hrr := rid_r i
  have hrq := hrs.2.1
  have hrs2 := rid_s (1 - i)
  have hrr2 := rid_r (1 - i)
  have hrq2 := hrs2.2.1
  have hub := ig_unk_bd (csel i C) (csel (1 - i) C) 0
  refine Spi.of _ mtX9_merge nlX9_merge (Nat.le_of_ble_eq_true rfl) ?_
  show Ok G FX9_merge 0 [xR 0, xI i, xU, xU, xU] [] SF M 0 0 _
  unfold c_merge
  by_cases hi : 0 ≤ i ∧ i ≤ 1
  · rw [if_neg (fun h => h hi)]
    have hne : rid i ≠ rid (1 - i) := by
      unfold rid
      rcases (by omega : i = 0 ∨ i = 1) with rfl | rfl <;> decide
    have loop : ∀ (MK : tk_M), ig_at MK (rid (1 - i)) (csel (1 - i) C) → ∀ (h' : List (Int × Int)) (k : Int) (acc : List (Int × Int)) (M1 : tk_M), 0 ≤ k → ig_at M1 (rid i) acc → tk_fr MK M1 (rid i) (rid i + 3) → ig_seg (MK (rid (1 - i) + 1)) (MK (rid (1 - i) + 2)) (MK (rid (1 - i)) 2) k h' → Ok G FX9_merge 59 [xR 0, xI i, xR (rid i), xR (rid (1 - i)), xI k] [] SF M1 0 0 (tk_qi SF (fun v M' => v = (ig_mrg acc h').length ∧ ig_at M' (rid i) (ig_mrg acc h') ∧ tk_fr MK M' (rid i) (rid i + 3))) := by
      intro MK hK h'
      induction h' with
      | nil =>
        intro k acc M1 hk ha hf hs
        have hs : k = MK (rid (1 - i)) 2 := hs
        have hK1 : ig_at M1 (rid (1 - i)) (csel (1 - i) C) := hK.frame hf (by omega)
        have e : M1 (rid (1 - i)) 2 = MK (rid (1 - i)) 2 := by rw [hf _ (by omega)]
        refine tr_iload (pc := 59) dX9_merge_59 rfl ?_
        refine tr_aload_n (pc := 61) dX9_merge_61 rfl (by omega) ?_
        refine tr_cVi0 (pc := 62) dX9_merge_62 mtX3_size lv9_93 rfl hrq2 kc3 ⟨(Nat.le_of_ble_eq_true rfl), (Nat.le_of_ble_eq_true rfl)⟩ nlX3_size (Nat.le_of_ble_eq_true rfl) ⟨(Nat.le_of_ble_eq_true rfl), (Nat.le_of_ble_eq_true rfl)⟩ (sp_X3_size hrs2) (fun r62 M62 h62 => ?_)
        obtain ⟨hr62, hM62⟩ := h62
        obtain rfl := hr62.symm
        obtain rfl := hM62.symm
        refine tr_icmpge (pc := 65) (tgt := 90) dX9_merge_65 (by decide) (fun c65 => ?_) (fun c65 => absurd c65 (by omega))
        refine tr_aload_n (pc := 90) dX9_merge_90 rfl (by omega) ?_
        refine tr_cVi0 (pc := 91) dX9_merge_91 mtX3_size lv9_93 rfl hrq kc3 ⟨(Nat.le_of_ble_eq_true rfl), (Nat.le_of_ble_eq_true rfl)⟩ nlX3_size (Nat.le_of_ble_eq_true rfl) ⟨(Nat.le_of_ble_eq_true rfl), (Nat.le_of_ble_eq_true rfl)⟩ (sp_X3_size hrs) (fun r91 M91 h91 => ?_)
        obtain ⟨hr91, hM91⟩ := h91
        obtain rfl := hr91.symm
        obtain rfl := hM91.symm
        refine tr_ireti (pc := 94) dX9_merge_94 rfl ?_
        exact ⟨ha.len.1, ha, hf⟩
      | cons q t ih =>
        intro k acc M1 hk ha hf hs
        obtain ⟨p, q⟩ := q
        obtain ⟨e1, e2, b1, b2, b3, b4, hlt, hs⟩ := hs
        have hK1 : ig_at M1 (rid (1 - i)) (csel (1 - i) C) := hK.frame hf (by omega)
        have e : M1 (rid (1 - i)) 2 = MK (rid (1 - i)) 2 := by rw [hf _ (by omega)]
        have e1' : M1 (rid (1 - i) + 1) k = p := by rw [hf _ (by omega)]; exact e1
        have e2' : M1 (rid (1 - i) + 2) k = q := by rw [hf _ (by omega)]; exact e2
        refine tr_iload (pc := 59) dX9_merge_59 rfl ?_
        refine tr_aload_n (pc := 61) dX9_merge_61 rfl (by omega) ?_
        refine tr_cVi0 (pc := 62) dX9_merge_62 mtX3_size lv9_93 rfl hrq2 kc3 ⟨(Nat.le_of_ble_eq_true rfl), (Nat.le_of_ble_eq_true rfl)⟩ nlX3_size (Nat.le_of_ble_eq_true rfl) ⟨(Nat.le_of_ble_eq_true rfl), (Nat.le_of_ble_eq_true rfl)⟩ (sp_X3_size hrs2) (fun r62 M62 h62 => ?_)
        obtain ⟨hr62, hM62⟩ := h62
        obtain rfl := hr62.symm
        obtain rfl := hM62.symm
        refine tr_icmpge (pc := 65) (tgt := 90) dX9_merge_65 (by decide) (fun c65 => absurd c65 (by omega)) (fun c65 => ?_)
        refine tr_aload_n (pc := 68) dX9_merge_68 rfl (by omega) ?_
        refine tr_aload_n (pc := 69) dX9_merge_69 rfl (by omega) ?_
        refine tr_iload (pc := 70) dX9_merge_70 rfl ?_
        refine tr_cVi1 (pc := 72) dX9_merge_72 mtX3_powerA lv9_119 rfl hrq2 kc3 ⟨(Nat.le_of_ble_eq_true rfl), (Nat.le_of_ble_eq_true rfl)⟩ nlX3_powerA (Nat.le_of_ble_eq_true rfl) ⟨(Nat.le_of_ble_eq_true rfl), (Nat.le_of_ble_eq_true rfl)⟩ (sp_X3_powerA hrs2 hK1.2) (fun r72 M72 h72 => ?_)
        rw [if_pos ⟨hk, by omega⟩, e1'] at h72
        obtain ⟨hr72, hM72⟩ := h72
        obtain rfl := hr72.symm
        obtain rfl := hM72.symm
        refine tr_aload_n (pc := 75) dX9_merge_75 rfl (by omega) ?_
        refine tr_iload (pc := 76) dX9_merge_76 rfl ?_
        refine tr_cVi1 (pc := 78) dX9_merge_78 mtX3_powerB lv9_123 rfl hrq2 kc3 ⟨(Nat.le_of_ble_eq_true rfl), (Nat.le_of_ble_eq_true rfl)⟩ nlX3_powerB (Nat.le_of_ble_eq_true rfl) ⟨(Nat.le_of_ble_eq_true rfl), (Nat.le_of_ble_eq_true rfl)⟩ (sp_X3_powerB hrs2 hK1.2) (fun r78 M78 h78 => ?_)
        rw [if_pos ⟨hk, by omega⟩, e2'] at h78
        obtain ⟨hr78, hM78⟩ := h78
        obtain rfl := hr78.symm
        obtain rfl := hM78.symm
        refine tr_cVv2 (pc := 81) dX9_merge_81 mtX3_addIfNew lv9_126 rfl hrq kc3 ⟨(Nat.le_of_ble_eq_true rfl), (Nat.le_of_ble_eq_true rfl)⟩ nlX3_addIfNew (Nat.le_of_ble_eq_true rfl) ⟨(Nat.le_of_ble_eq_true rfl), (Nat.le_of_ble_eq_true rfl)⟩ (sp_X3_addIfNew hrs ha) (fun M81 h81 => ?_)
        obtain rfl := h81.symm
        have hKl := hK1.len
        refine tr_iinc (pc := 84) dX9_merge_84 rfl rfl ⟨by omega, by omega⟩ ?_
        dsimp only [List.set]
        refine tr_goto (pc := 87) (tgt := 59) dX9_merge_87 (by decide) ?_
        exact ih (k + 1) _ _ (by omega) (ig_addNM_at ha b1 b2 b3 b4) (hf.trans (ig_addNM_fr M1 (rid i) p q acc)) hs
    refine tr_iload_n (pc := 0) dX9_merge_0 rfl ?_
    refine tr_cSi1 (pc := 1) dX9_merge_1 mtX9_noIdeal ls9_77 rfl ⟨(Nat.le_of_ble_eq_true rfl), (Nat.le_of_ble_eq_true rfl)⟩ nlX9_noIdeal (Nat.le_of_ble_eq_true rfl) ⟨(Nat.le_of_ble_eq_true rfl), (Nat.le_of_ble_eq_true rfl)⟩ (sp_X9_noIdeal) (fun r1 M1 h1 => ?_)
    rw [if_pos hi] at h1
    obtain ⟨hr1, hM1⟩ := h1
    obtain rfl := hr1.symm
    obtain rfl := hM1.symm
    refine tr_ifeq (pc := 4) (tgt := 9) dX9_merge_4 (by decide) (fun c4 => ?_) (fun c4 => absurd c4 (by omega))
    refine tr_aload_n (pc := 9) dX9_merge_9 rfl (by decide) ?_
    refine tr_getr (pc := 10) (x := 1) dX9_merge_10 fi9_12 rfl sg0 rfl ?_
    refine tr_iload_n (pc := 13) dX9_merge_13 rfl ?_
    refine tr_cVr1 (pc := 14) dX9_merge_14 mtX8_ideal lv9_85 rfl sg1 kc8 ⟨(Nat.le_of_ble_eq_true rfl), (Nat.le_of_ble_eq_true rfl)⟩ nlX8_ideal (Nat.le_of_ble_eq_true rfl) ⟨(Nat.le_of_ble_eq_true rfl), (Nat.le_of_ble_eq_true rfl)⟩ (sp_now) (fun r14 M14 h14 => ?_)
    obtain ⟨hr14, hM14⟩ := h14
    obtain rfl := hr14.symm
    obtain rfl := hM14.symm
    refine tr_astore_n (pc := 17) dX9_merge_17 rfl (Nat.le_of_ble_eq_true rfl) (by omega) ?_
    dsimp only [List.set]
    refine tr_aload_n (pc := 18) dX9_merge_18 rfl (by decide) ?_
    refine tr_getr (pc := 19) (x := 1) dX9_merge_19 fi9_12 rfl sg0 rfl ?_
    refine tr_iconst (pc := 22) dX9_merge_22 ⟨by decide, by decide⟩ ?_
    refine tr_iload_n (pc := 23) dX9_merge_23 rfl ?_
    refine tr_isub (pc := 24) dX9_merge_24 ⟨by omega, by omega⟩ ?_
    refine tr_cVr1 (pc := 25) dX9_merge_25 mtX8_ideal lv9_85 rfl sg1 kc8 ⟨(Nat.le_of_ble_eq_true rfl), (Nat.le_of_ble_eq_true rfl)⟩ nlX8_ideal (Nat.le_of_ble_eq_true rfl) ⟨(Nat.le_of_ble_eq_true rfl), (Nat.le_of_ble_eq_true rfl)⟩ (sp_now) (fun r25 M25 h25 => ?_)
    obtain ⟨hr25, hM25⟩ := h25
    obtain rfl := hr25.symm
    obtain rfl := hM25.symm
    refine tr_astore_n (pc := 28) dX9_merge_28 rfl (Nat.le_of_ble_eq_true rfl) (by omega) ?_
    dsimp only [List.set]
    refine tr_aload_n (pc := 29) dX9_merge_29 rfl (by omega) ?_
    refine tr_cVi0 (pc := 30) dX9_merge_30 mtX3_size lv9_93 rfl hrq kc3 ⟨(Nat.le_of_ble_eq_true rfl), (Nat.le_of_ble_eq_true rfl)⟩ nlX3_size (Nat.le_of_ble_eq_true rfl) ⟨(Nat.le_of_ble_eq_true rfl), (Nat.le_of_ble_eq_true rfl)⟩ (sp_X3_size hrs) (fun r30 M30 h30 => ?_)
    obtain ⟨hr30, hM30⟩ := h30
    obtain rfl := hr30.symm
    obtain rfl := hM30.symm
    refine tr_aload_n (pc := 33) dX9_merge_33 rfl (by omega) ?_
    refine tr_aload_n (pc := 34) dX9_merge_34 rfl (by omega) ?_
    refine tr_cVi1 (pc := 35) dX9_merge_35 mtX3_countUnknownTo lv9_115 rfl hrq2 kc3 ⟨(Nat.le_of_ble_eq_true rfl), (Nat.le_of_ble_eq_true rfl)⟩ nlX3_countUnknownTo (Nat.le_of_ble_eq_true rfl) ⟨(Nat.le_of_ble_eq_true rfl), (Nat.le_of_ble_eq_true rfl)⟩ (sp_X3_countUnknownTo hrs2 hrs hsel2 hsel) (fun r35 M35 h35 => ?_)
    obtain ⟨hr35, hM35⟩ := h35
    obtain rfl := hr35.symm
    obtain rfl := hM35.symm
    refine tr_iadd (pc := 38) dX9_merge_38 ⟨by omega, by omega⟩ ?_
    refine tr_bipush (pc := 39) dX9_merge_39 ⟨by decide, ⟨by decide, by decide⟩⟩ ?_
    refine tr_icmple (pc := 41) (tgt := 47) dX9_merge_41 (by decide) (fun c41 => ?_) (fun c41 => ?_)
    · skip
      refine tr_aload_n (pc := 47) dX9_merge_47 rfl (by decide) ?_
      refine tr_getr (pc := 48) (x := 39) dX9_merge_48 fi9_28 rfl sg0 rfl ?_
      refine tr_iload_n (pc := 51) dX9_merge_51 rfl ?_
      refine tr_aload_n (pc := 52) dX9_merge_52 rfl (by omega) ?_
      refine tr_cVv2 (pc := 53) dX9_merge_53 mtX0_keep lv9_97 rfl sg39 kc0 ⟨(Nat.le_of_ble_eq_true rfl), (Nat.le_of_ble_eq_true rfl)⟩ nlX0_keep (Nat.le_of_ble_eq_true rfl) ⟨(Nat.le_of_ble_eq_true rfl), (Nat.le_of_ble_eq_true rfl)⟩ (sp_X0_keep hrs (by omega) hsel (by omega) hC.2.2) (fun M53 h53 => ?_)
      obtain ⟨hD, f1⟩ := h53
      have hC1 := hC.keep hD f1
      have hk1 : ig_at M53 (rid i) (csel i C) := hsel.frame f1 (by omega)
      have hk2 : ig_at M53 (rid (1 - i)) (csel (1 - i) C) := hsel2.frame f1 (by omega)
      refine tr_iconst (pc := 56) dX9_merge_56 ⟨by decide, by decide⟩ ?_
      refine tr_istore (pc := 57) dX9_merge_57 rfl (Nat.le_of_ble_eq_true rfl) ?_
      dsimp only [List.set]
      rw [if_neg (by omega)]
      exact tk_mono (loop M53 hk2 _ 0 _ M53 (by omega) hk1 tk_fr.rf hk2.1) (fun v M1 h => ⟨h.1, hC1.set h.2.1 h.2.2, (fC.dd f1).trans (fC.id h.2.2)⟩)
    · skip
      refine tr_bipush (pc := 44) dX9_merge_44 ⟨by decide, ⟨by decide, by decide⟩⟩ ?_
      refine tr_ireti (pc := 46) dX9_merge_46 rfl ?_
      rw [if_pos (by omega)]
      exact ⟨rfl, hC, fC.rf⟩
  · rw [if_pos hi]
    refine tr_iload_n (pc := 0) dX9_merge_0 rfl ?_
    refine tr_cSi1 (pc := 1) dX9_merge_1 mtX9_noIdeal ls9_77 rfl ⟨(Nat.le_of_ble_eq_true rfl), (Nat.le_of_ble_eq_true rfl)⟩ nlX9_noIdeal (Nat.le_of_ble_eq_true rfl) ⟨(Nat.le_of_ble_eq_true rfl), (Nat.le_of_ble_eq_true rfl)⟩ (sp_X9_noIdeal) (fun r1 M1 h1 => ?_)
    rw [if_neg hi] at h1
    obtain ⟨hr1, hM1⟩ := h1
    obtain rfl := hr1.symm
    obtain rfl := hM1.symm
    refine tr_ifeq (pc := 4) (tgt := 9) dX9_merge_4 (by decide) (fun c4 => absurd c4 (by omega)) (fun c4 => ?_)
    refine tr_iconst (pc := 7) dX9_merge_7 ⟨by decide, by decide⟩ ?_
    refine tr_ireti (pc := 8) dX9_merge_8 rfl ?_
    exact ⟨rfl, hC, fC.rf⟩
def c_close (C : cC) (i : Int) : Int × cC := if ¬ (0 ≤ i ∧ i ≤ 1) then (-1, C) else if (csel i C).length = 0 then (-3, C) else if 6 < (hl_pc (hl_fc (csel i C)) 10 0 0 10 []).1 then (-4, C) else ((hl_pc (hl_fc (csel i C)) 10 0 0 10 []).2.length, cset i (hl_pc (hl_fc (csel i C)) 10 0 0 10 []).2 (cdeed i C))
theorem sp_X9_close {G : tk_G} {M : tk_M} {C : cC} {i : Int} (hG : gs_ok G) (hC : Cg M C) : Spi G FX9_close [xR 0, xI i] SF M (fun v M' => v = (c_close C i).1 ∧ Cg M' (c_close C i).2 ∧ fC M M') := by
  have hsel := hC.sel i
  have hln := hsel.len
  have hrs := rid_s i
  have hrr := rid_r i
  have hrq := hrs.2.1
  refine Spi.of _ mtX9_close nlX9_close (Nat.le_of_ble_eq_true rfl) ?_
  show Ok G FX9_close 0 [xR 0, xI i, xU] [] SF M 0 0 _
  unfold c_close
  by_cases hi : 0 ≤ i ∧ i ≤ 1
  · rw [if_neg (fun h => h hi)]
    refine tr_iload_n (pc := 0) dX9_close_0 rfl ?_
    refine tr_cSi1 (pc := 1) dX9_close_1 mtX9_noIdeal ls9_77 rfl ⟨(Nat.le_of_ble_eq_true rfl), (Nat.le_of_ble_eq_true rfl)⟩ nlX9_noIdeal (Nat.le_of_ble_eq_true rfl) ⟨(Nat.le_of_ble_eq_true rfl), (Nat.le_of_ble_eq_true rfl)⟩ (sp_X9_noIdeal) (fun r1 M1 h1 => ?_)
    rw [if_pos hi] at h1
    obtain ⟨hr1, hM1⟩ := h1
    obtain rfl := hr1.symm
    obtain rfl := hM1.symm
    refine tr_ifeq (pc := 4) (tgt := 9) dX9_close_4 (by decide) (fun c4 => ?_) (fun c4 => absurd c4 (by omega))
    refine tr_aload_n (pc := 9) dX9_close_9 rfl (by decide) ?_
    refine tr_getr (pc := 10) (x := 1) dX9_close_10 fi9_12 rfl sg0 rfl ?_
    refine tr_iload_n (pc := 13) dX9_close_13 rfl ?_
    refine tr_cVr1 (pc := 14) dX9_close_14 mtX8_ideal lv9_85 rfl sg1 kc8 ⟨(Nat.le_of_ble_eq_true rfl), (Nat.le_of_ble_eq_true rfl)⟩ nlX8_ideal (Nat.le_of_ble_eq_true rfl) ⟨(Nat.le_of_ble_eq_true rfl), (Nat.le_of_ble_eq_true rfl)⟩ (sp_now) (fun r14 M14 h14 => ?_)
    obtain ⟨hr14, hM14⟩ := h14
    obtain rfl := hr14.symm
    obtain rfl := hM14.symm
    refine tr_astore_n (pc := 17) dX9_close_17 rfl (Nat.le_of_ble_eq_true rfl) (by omega) ?_
    dsimp only [List.set]
    refine tr_aload_n (pc := 18) dX9_close_18 rfl (by omega) ?_
    refine tr_cVi0 (pc := 19) dX9_close_19 mtX3_size lv9_93 rfl hrq kc3 ⟨(Nat.le_of_ble_eq_true rfl), (Nat.le_of_ble_eq_true rfl)⟩ nlX3_size (Nat.le_of_ble_eq_true rfl) ⟨(Nat.le_of_ble_eq_true rfl), (Nat.le_of_ble_eq_true rfl)⟩ (sp_X3_size hrs) (fun r19 M19 h19 => ?_)
    obtain ⟨hr19, hM19⟩ := h19
    obtain rfl := hr19.symm
    obtain rfl := hM19.symm
    refine tr_ifne (pc := 22) (tgt := 28) dX9_close_22 (by decide) (fun c22 => ?_) (fun c22 => ?_)
    · skip
      refine tr_aload_n (pc := 28) dX9_close_28 rfl (by decide) ?_
      refine tr_getr (pc := 29) (x := 90) dX9_close_29 fi9_56 rfl sg0 rfl ?_
      refine tr_aload_n (pc := 32) dX9_close_32 rfl (by omega) ?_
      refine tr_cVv1 (pc := 33) dX9_close_33 mtX2_wrap lv9_129 rfl sg90 kc2 ⟨(Nat.le_of_ble_eq_true rfl), (Nat.le_of_ble_eq_true rfl)⟩ nlX2_wrap (Nat.le_of_ble_eq_true rfl) ⟨(Nat.le_of_ble_eq_true rfl), (Nat.le_of_ble_eq_true rfl)⟩ (sp_X2_wrap hG hrs (by omega) hsel (fun h => by rw [h] at hln; simp at hln; omega)) (fun M33 h33 => ?_)
      obtain ⟨hF, f1⟩ := h33
      replace f1 : tk_fr M M33 87 101 := f1.mono (by omega) (by omega)
      refine tr_aload_n (pc := 36) dX9_close_36 rfl (by decide) ?_
      refine tr_getr (pc := 37) (x := 90) dX9_close_37 fi9_56 rfl sg0 rfl ?_
      refine tr_aload_n (pc := 40) dX9_close_40 rfl (by decide) ?_
      refine tr_getr (pc := 41) (x := 87) dX9_close_41 fi9_49 rfl sg0 rfl ?_
      refine tr_cVi1 (pc := 44) dX9_close_44 mtX2_putCorners lv9_133 rfl sg90 kc2 ⟨(Nat.le_of_ble_eq_true rfl), (Nat.le_of_ble_eq_true rfl)⟩ nlX2_putCorners (Nat.le_of_ble_eq_true rfl) ⟨(Nat.le_of_ble_eq_true rfl), (Nat.le_of_ble_eq_true rfl)⟩ (sp_X2_putCorners hF) (fun r44 M44 h44 => ?_)
      obtain ⟨hr44, hp, f2⟩ := h44
      obtain rfl := hr44.symm
      replace f2 : tk_fr M M44 87 101 := f1.trans (f2.mono (by omega) (by omega))
      have hC0 := hC.scr f2
      have hsel0 := hC0.sel i
      refine tr_bipush (pc := 47) dX9_close_47 ⟨by decide, ⟨by decide, by decide⟩⟩ ?_
      refine tr_icmple (pc := 49) (tgt := 55) dX9_close_49 (by decide) (fun c49 => ?_) (fun c49 => ?_)
      · skip
        refine tr_aload_n (pc := 55) dX9_close_55 rfl (by decide) ?_
        refine tr_getr (pc := 56) (x := 39) dX9_close_56 fi9_28 rfl sg0 rfl ?_
        refine tr_iload_n (pc := 59) dX9_close_59 rfl ?_
        refine tr_aload_n (pc := 60) dX9_close_60 rfl (by omega) ?_
        refine tr_cVv2 (pc := 61) dX9_close_61 mtX0_keep lv9_97 rfl sg39 kc0 ⟨(Nat.le_of_ble_eq_true rfl), (Nat.le_of_ble_eq_true rfl)⟩ nlX0_keep (Nat.le_of_ble_eq_true rfl) ⟨(Nat.le_of_ble_eq_true rfl), (Nat.le_of_ble_eq_true rfl)⟩ (sp_X0_keep hrs (by omega) hsel0 (by omega) hC0.2.2) (fun M61 h61 => ?_)
        obtain ⟨hD, f3⟩ := h61
        have hC1 := hC0.keep hD f3
        have hp1 := hp.frame f3 (by omega)
        refine tr_aload_n (pc := 64) dX9_close_64 rfl (by omega) ?_
        refine tr_aload_n (pc := 65) dX9_close_65 rfl (by decide) ?_
        refine tr_getr (pc := 66) (x := 87) dX9_close_66 fi9_49 rfl sg0 rfl ?_
        refine tr_cVv1 (pc := 69) dX9_close_69 mtX3_copy lv9_136 rfl hrq kc3 ⟨(Nat.le_of_ble_eq_true rfl), (Nat.le_of_ble_eq_true rfl)⟩ nlX3_copy (Nat.le_of_ble_eq_true rfl) ⟨(Nat.le_of_ble_eq_true rfl), (Nat.le_of_ble_eq_true rfl)⟩ (sp_X3_copy hrs ig_s87 (by omega) hp1) (fun M69 h69 => ?_)
        obtain ⟨h9, f9⟩ := h69
        refine tr_aload_n (pc := 72) dX9_close_72 rfl (by omega) ?_
        refine tr_cVi0 (pc := 73) dX9_close_73 mtX3_size lv9_93 rfl hrq kc3 ⟨(Nat.le_of_ble_eq_true rfl), (Nat.le_of_ble_eq_true rfl)⟩ nlX3_size (Nat.le_of_ble_eq_true rfl) ⟨(Nat.le_of_ble_eq_true rfl), (Nat.le_of_ble_eq_true rfl)⟩ (sp_X3_size hrs) (fun r73 M73 h73 => ?_)
        obtain ⟨hr73, hM73⟩ := h73
        obtain rfl := hr73.symm
        obtain rfl := hM73.symm
        refine tr_ireti (pc := 76) dX9_close_76 rfl ?_
        rw [if_neg (by omega), if_neg (by omega)]
        exact ⟨h9.len.1, hC1.set h9 f9, ((fC.sc f2).trans (fC.dd f3)).trans (fC.id f9)⟩
      · skip
        refine tr_bipush (pc := 52) dX9_close_52 ⟨by decide, ⟨by decide, by decide⟩⟩ ?_
        refine tr_ireti (pc := 54) dX9_close_54 rfl ?_
        rw [if_neg (by omega), if_pos (by omega)]
        exact ⟨rfl, hC0, fC.sc f2⟩
    · skip
      refine tr_bipush (pc := 25) dX9_close_25 ⟨by decide, ⟨by decide, by decide⟩⟩ ?_
      refine tr_ireti (pc := 27) dX9_close_27 rfl ?_
      rw [if_pos (by omega)]
      exact ⟨rfl, hC, fC.rf⟩
  · rw [if_pos hi]
    refine tr_iload_n (pc := 0) dX9_close_0 rfl ?_
    refine tr_cSi1 (pc := 1) dX9_close_1 mtX9_noIdeal ls9_77 rfl ⟨(Nat.le_of_ble_eq_true rfl), (Nat.le_of_ble_eq_true rfl)⟩ nlX9_noIdeal (Nat.le_of_ble_eq_true rfl) ⟨(Nat.le_of_ble_eq_true rfl), (Nat.le_of_ble_eq_true rfl)⟩ (sp_X9_noIdeal) (fun r1 M1 h1 => ?_)
    rw [if_neg hi] at h1
    obtain ⟨hr1, hM1⟩ := h1
    obtain rfl := hr1.symm
    obtain rfl := hM1.symm
    refine tr_ifeq (pc := 4) (tgt := 9) dX9_close_4 (by decide) (fun c4 => absurd c4 (by omega)) (fun c4 => ?_)
    refine tr_iconst (pc := 7) dX9_close_7 ⟨by decide, by decide⟩ ?_
    refine tr_ireti (pc := 8) dX9_close_8 rfl ?_
    exact ⟨rfl, hC, fC.rf⟩
def c_back (C : cC) : Int × cC := match C.2.2 with
  | [] => (-3, C)
  | (w, g) :: D => (D.length, cset w g (C.1, C.2.1, D))
theorem sp_X9_back {G : tk_G} {M : tk_M} {C : cC} (hC : Cg M C) : Spi G FX9_back [xR 0] SF M (fun v M' => v = (c_back C).1 ∧ Cg M' (c_back C).2 ∧ fC M M') := by
  have hC' := hC
  obtain ⟨g0, g1, D⟩ := C
  obtain ⟨c1, c2, c3⟩ := hC
  refine Spi.of _ mtX9_back nlX9_back (Nat.le_of_ble_eq_true rfl) ?_
  show Ok G FX9_back 0 [xR 0] [] SF M 0 0 _
  cases D with
  | nil =>
    have e : M 39 3 = 0 := c3.2.2.1
    refine tr_aload_n (pc := 0) dX9_back_0 rfl (by decide) ?_
    refine tr_getr (pc := 1) (x := 39) dX9_back_1 fi9_28 rfl sg0 rfl ?_
    refine tr_cVi0 (pc := 4) dX9_back_4 mtX0_size lv9_139 rfl sg39 kc0 ⟨(Nat.le_of_ble_eq_true rfl), (Nat.le_of_ble_eq_true rfl)⟩ nlX0_size (Nat.le_of_ble_eq_true rfl) ⟨(Nat.le_of_ble_eq_true rfl), (Nat.le_of_ble_eq_true rfl)⟩ (sp_X0_size) (fun r4 M4 h4 => ?_)
    obtain ⟨hr4, hM4⟩ := h4
    obtain rfl := hr4.symm
    obtain rfl := hM4.symm
    refine tr_ifne (pc := 7) (tgt := 13) dX9_back_7 (by decide) (fun c7 => absurd c7 (by omega)) (fun c7 => ?_)
    refine tr_bipush (pc := 10) dX9_back_10 ⟨by decide, ⟨by decide, by decide⟩⟩ ?_
    refine tr_ireti (pc := 12) dX9_back_12 rfl ?_
    exact ⟨rfl, hC', fC.rf⟩
  | cons q D =>
    obtain ⟨w, g⟩ := q
    have e : M 39 3 = ((D.length + 1 : Nat) : Int) := c3.2.2.1
    have hw := (c3.2.2.2.2 0 (w, g) rfl).2.1
    simp only at hw
    refine tr_aload_n (pc := 0) dX9_back_0 rfl (by decide) ?_
    refine tr_getr (pc := 1) (x := 39) dX9_back_1 fi9_28 rfl sg0 rfl ?_
    refine tr_cVi0 (pc := 4) dX9_back_4 mtX0_size lv9_139 rfl sg39 kc0 ⟨(Nat.le_of_ble_eq_true rfl), (Nat.le_of_ble_eq_true rfl)⟩ nlX0_size (Nat.le_of_ble_eq_true rfl) ⟨(Nat.le_of_ble_eq_true rfl), (Nat.le_of_ble_eq_true rfl)⟩ (sp_X0_size) (fun r4 M4 h4 => ?_)
    obtain ⟨hr4, hM4⟩ := h4
    obtain rfl := hr4.symm
    obtain rfl := hM4.symm
    refine tr_ifne (pc := 7) (tgt := 13) dX9_back_7 (by decide) (fun c7 => ?_) (fun c7 => absurd c7 (by omega))
    refine tr_aload_n (pc := 13) dX9_back_13 rfl (by decide) ?_
    refine tr_getr (pc := 14) (x := 39) dX9_back_14 fi9_28 rfl sg0 rfl ?_
    refine tr_aload_n (pc := 17) dX9_back_17 rfl (by decide) ?_
    refine tr_getr (pc := 18) (x := 1) dX9_back_18 fi9_12 rfl sg0 rfl ?_
    refine tr_cVv1 (pc := 21) dX9_back_21 mtX0_takeBack lv9_140 rfl sg39 kc0 ⟨(Nat.le_of_ble_eq_true rfl), (Nat.le_of_ble_eq_true rfl)⟩ nlX0_takeBack (Nat.le_of_ble_eq_true rfl) ⟨(Nat.le_of_ble_eq_true rfl), (Nat.le_of_ble_eq_true rfl)⟩ (sp_X0_takeBack c3) (fun M21 h21 => ?_)
    obtain ⟨hD, hg, hf⟩ := h21
    refine tr_aload_n (pc := 24) dX9_back_24 rfl (by decide) ?_
    refine tr_getr (pc := 25) (x := 39) dX9_back_25 fi9_28 rfl sg0 rfl ?_
    refine tr_cVi0 (pc := 28) dX9_back_28 mtX0_size lv9_139 rfl sg39 kc0 ⟨(Nat.le_of_ble_eq_true rfl), (Nat.le_of_ble_eq_true rfl)⟩ nlX0_size (Nat.le_of_ble_eq_true rfl) ⟨(Nat.le_of_ble_eq_true rfl), (Nat.le_of_ble_eq_true rfl)⟩ (sp_X0_size) (fun r28 M28 h28 => ?_)
    obtain ⟨hr28, hM28⟩ := h28
    obtain rfl := hr28.symm
    obtain rfl := hM28.symm
    refine tr_ireti (pc := 31) dX9_back_31 rfl ?_
    refine ⟨hD.2.2.1, ?_, fun c h1 h2 h3 => hf c (by omega) (by split <;> omega)⟩
    show Cg M21 (cset w g (g0, g1, D))
    unfold cset
    rcases hw with hw | hw
    · subst hw
      rw [if_pos rfl]
      simp only [if_true] at hg hf
      exact ⟨hg, c2.fr (hf _ (by omega) (by omega)) (hf _ (by omega) (by omega)) (hf _ (by omega) (by omega)), hD⟩
    · subst hw
      rw [if_neg (by decide)]
      rw [if_neg (by decide)] at hg hf
      exact ⟨c1.fr (hf _ (by omega) (by omega)) (hf _ (by omega) (by omega)) (hf _ (by omega) (by omega)), hg, hD⟩
