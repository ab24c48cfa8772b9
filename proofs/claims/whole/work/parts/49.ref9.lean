def rt_at (M : tk_M) (h : Int → Int) : Prop := ∀ x : Int, 0 ≤ x → x ≤ 71 → M 116 x = h x
def rtf (M M' : tk_M) : Prop := ∀ c : Int, (c < 116 ∨ 117 < c) → M' c = M c
theorem rtf.rf {M : tk_M} : rtf M M := fun _ _ => rfl
theorem rtf.trans {M M1 M2 : tk_M} (h1 : rtf M M1) (h2 : rtf M1 M2) : rtf M M2 := fun c a => (h2 c a).trans (h1 c a)
theorem fQ.tf {M M1 : tk_M} (h : rtf M M1) : fQ M M1 := ⟨fun c a => h c (by omega), fun j _ _ _ => by rw [h 101 (by omega)], fun j _ => by rw [h 102 (by omega)], fun p _ => by rw [h 103 (by omega), h 104 (by omega)]; exact ⟨rfl, rfl⟩⟩
theorem rg_at.tf {M M1 : tk_M} {i : Int} {g : List (Int × Int)} (h : rg_at M i g) (hf : rtf M M1) : rg_at M1 i g := h.same (hf _ (by omega)) (hf _ (by omega)) (hf _ (by omega))
theorem sp_X10_begins {G : tk_G} {M : tk_M} : Spv G FX10_begins [xR 101] SF M (fun M' => rt_at M' h00 ∧ rtf M M') := by
  refine Spv.of _ mtX10_begins nlX10_begins (Nat.le_of_ble_eq_true rfl) ?_
  show Ok G FX10_begins 0 [xR 101, xU] [] SF M 0 0 _
  have loop : ∀ (d : Nat) (x : Int) (M1 : tk_M), x + d = 72 → 0 ≤ x → (∀ y, 0 ≤ y → y < x → M1 116 y = h00 y) → rtf M M1 → Ok G FX10_begins 2 [xR 101, xI x] [] SF M1 0 0 (tk_qv SF (fun M' => rt_at M' h00 ∧ rtf M M')) := by
    intro d
    induction d with
    | zero =>
      intro x M1 hd hx a1 hf
      refine tr_iload_n (pc := 2) dX10_begins_2 rfl ?_
      refine tr_bipush (pc := 3) dX10_begins_3 ⟨by decide, ⟨by decide, by decide⟩⟩ ?_
      refine tr_icmpge (pc := 5) (tgt := 31) dX10_begins_5 (by decide) (fun c5 => ?_) (fun c5 => absurd c5 (by omega))
      refine tr_vret (pc := 31) dX10_begins_31 rfl ?_
      exact ⟨fun y y0 y1 => a1 y y0 (by omega), hf⟩
    | succ d ih =>
      intro x M1 hd hx a1 hf
      refine tr_iload_n (pc := 2) dX10_begins_2 rfl ?_
      refine tr_bipush (pc := 3) dX10_begins_3 ⟨by decide, ⟨by decide, by decide⟩⟩ ?_
      refine tr_icmpge (pc := 5) (tgt := 31) dX10_begins_5 (by decide) (fun c5 => absurd c5 (by omega)) (fun c5 => ?_)
      refine tr_aload_n (pc := 8) dX10_begins_8 rfl (by decide) ?_
      refine tr_getr (pc := 9) (x := 116) dX10_begins_9 fi10_54 rfl sg101 rfl ?_
      refine tr_iload_n (pc := 12) dX10_begins_12 rfl ?_
      refine tr_iload_n (pc := 13) dX10_begins_13 rfl ?_
      refine tr_ifne (pc := 14) (tgt := 21) dX10_begins_14 (by decide) (fun c14 => ?_) (fun c14 => ?_)
      · skip
        refine tr_sipush (pc := 21) dX10_begins_21 ⟨by decide, ⟨by decide, by decide⟩⟩ ?_
        refine tr_iast (pc := 24) dX10_begins_24 sg116 (by omega) (by omega) ?_
        refine tr_iinc (pc := 25) dX10_begins_25 rfl rfl ⟨by omega, by omega⟩ ?_
        dsimp only [List.set]
        refine tr_goto (pc := 28) (tgt := 2) dX10_begins_28 (by decide) ?_
        refine ih (x + 1) _ (by omega) (by omega) (fun y y0 y1 => ?_) (fun c hc => (tk_mu_c (by omega)).trans (hf c hc))
        by_cases hy : y = x
        · subst hy
          rw [tk_mu_at]; unfold h00
          first | rw [if_pos (by omega)] | rw [if_neg (by omega)]
        · rw [tk_mu_i hy]; exact a1 y y0 (by omega)
      · skip
        refine tr_iconst (pc := 17) dX10_begins_17 ⟨by decide, by decide⟩ ?_
        refine tr_goto (pc := 18) (tgt := 24) dX10_begins_18 (by decide) ?_
        refine tr_iast (pc := 24) dX10_begins_24 sg116 (by omega) (by omega) ?_
        refine tr_iinc (pc := 25) dX10_begins_25 rfl rfl ⟨by omega, by omega⟩ ?_
        dsimp only [List.set]
        refine tr_goto (pc := 28) (tgt := 2) dX10_begins_28 (by decide) ?_
        refine ih (x + 1) _ (by omega) (by omega) (fun y y0 y1 => ?_) (fun c hc => (tk_mu_c (by omega)).trans (hf c hc))
        by_cases hy : y = x
        · subst hy
          rw [tk_mu_at]; unfold h00
          first | rw [if_pos (by omega)] | rw [if_neg (by omega)]
        · rw [tk_mu_i hy]; exact a1 y y0 (by omega)
  refine tr_iconst (pc := 0) dX10_begins_0 ⟨by decide, by decide⟩ ?_
  refine tr_istore_n (pc := 1) dX10_begins_1 rfl (Nat.le_of_ble_eq_true rfl) ?_
  dsimp only [List.set]
  exact loop 72 0 M (by omega) (by omega) (fun y h1 h2 => by omega) rtf.rf
theorem sp_X10_settles {G : tk_G} {M : tk_M} {h : Int → Int} (hh : rt_at M h) : Spv G FX10_settles [xR 101] SF M (fun M' => rt_at M' (pm h) ∧ rtf M M') := by
  refine Spv.of _ mtX10_settles nlX10_settles (Nat.le_of_ble_eq_true rfl) ?_
  show Ok G FX10_settles 0 [xR 101, xU] [] SF M 0 0 _
  have loop : ∀ (d : Nat) (x : Int) (M1 : tk_M), x + d = 72 → 1 ≤ x → (∀ y, 0 ≤ y → y < x → M1 116 y = pm h y) → (∀ y, x ≤ y → y ≤ 71 → M1 116 y = h y) → rtf M M1 → Ok G FX10_settles 2 [xR 101, xI x] [] SF M1 0 0 (tk_qv SF (fun M' => rt_at M' (pm h) ∧ rtf M M')) := by
    intro d
    induction d with
    | zero =>
      intro x M1 hd hx a1 a2 hf
      refine tr_iload_n (pc := 2) dX10_settles_2 rfl ?_
      refine tr_bipush (pc := 3) dX10_settles_3 ⟨by decide, ⟨by decide, by decide⟩⟩ ?_
      refine tr_icmpge (pc := 5) (tgt := 37) dX10_settles_5 (by decide) (fun c5 => ?_) (fun c5 => absurd c5 (by omega))
      refine tr_vret (pc := 37) dX10_settles_37 rfl ?_
      exact ⟨fun y y0 y1 => a1 y y0 (by omega), hf⟩
    | succ d ih =>
      intro x M1 hd hx a1 a2 hf
      refine tr_iload_n (pc := 2) dX10_settles_2 rfl ?_
      refine tr_bipush (pc := 3) dX10_settles_3 ⟨by decide, ⟨by decide, by decide⟩⟩ ?_
      refine tr_icmpge (pc := 5) (tgt := 37) dX10_settles_5 (by decide) (fun c5 => absurd c5 (by omega)) (fun c5 => ?_)
      refine tr_aload_n (pc := 8) dX10_settles_8 rfl (by decide) ?_
      refine tr_getr (pc := 9) (x := 116) dX10_settles_9 fi10_54 rfl sg101 rfl ?_
      refine tr_iload_n (pc := 12) dX10_settles_12 rfl ?_
      refine tr_aload_n (pc := 13) dX10_settles_13 rfl (by decide) ?_
      refine tr_getr (pc := 14) (x := 116) dX10_settles_14 fi10_54 rfl sg101 rfl ?_
      refine tr_iload_n (pc := 17) dX10_settles_17 rfl ?_
      refine tr_ialdv (pc := 18) (x := h x) dX10_settles_18 sg116 (by omega) (by omega) (a2 x (by omega) (by omega)) ?_
      refine tr_aload_n (pc := 19) dX10_settles_19 rfl (by decide) ?_
      refine tr_getr (pc := 20) (x := 116) dX10_settles_20 fi10_54 rfl sg101 rfl ?_
      refine tr_iload_n (pc := 23) dX10_settles_23 rfl ?_
      refine tr_iconst (pc := 24) dX10_settles_24 ⟨by decide, by decide⟩ ?_
      refine tr_isub (pc := 25) dX10_settles_25 ⟨by omega, by omega⟩ ?_
      refine tr_ialdv (pc := 26) (x := pm h (x - 1)) dX10_settles_26 sg116 (by omega) (by omega) (a1 _ (by omega) (by omega)) ?_
      refine tr_min (pc := 27) dX10_settles_27 mm10_216 rfl (Nat.le_of_ble_eq_true rfl) (Nat.le_of_ble_eq_true rfl) ⟨(Nat.le_of_ble_eq_true rfl), (Nat.le_of_ble_eq_true rfl)⟩ ?_
      refine tr_iast (pc := 30) dX10_settles_30 sg116 (by omega) (by omega) ?_
      refine tr_iinc (pc := 31) dX10_settles_31 rfl rfl ⟨by omega, by omega⟩ ?_
      dsimp only [List.set]
      refine tr_goto (pc := 34) (tgt := 2) dX10_settles_34 (by decide) ?_
      refine ih (x + 1) _ (by omega) (by omega) (fun y y0 y1 => ?_) (fun y y0 y1 => ?_) (fun c hc => (tk_mu_c (by omega)).trans (hf c hc))
      · by_cases hy : y = x
        · subst hy
          rw [tk_mu_at]
          unfold pm
          rw [show y.toNat = (y - 1).toNat + 1 by omega]
          show _ = min (h ((((y - 1).toNat : Nat) : Int) + 1)) (pmi h (y - 1).toNat)
          rw [show (((y - 1).toNat : Nat) : Int) + 1 = y by omega]
        · rw [tk_mu_i hy]; exact a1 y y0 (by omega)
      · rw [tk_mu_i (by omega)]; exact a2 y (by omega) y1
  refine tr_iconst (pc := 0) dX10_settles_0 ⟨by decide, by decide⟩ ?_
  refine tr_istore_n (pc := 1) dX10_settles_1 rfl (Nat.le_of_ble_eq_true rfl) ?_
  dsimp only [List.set]
  exact loop 71 1 M (by omega) (by omega) (fun y h1 h2 => by rw [show y = 0 by omega]; exact hh 0 (by omega) (by omega)) (fun y h1 h2 => hh y (by omega) h2) rtf.rf
theorem sp_X10_times {G : tk_G} {M : tk_M} {r : Int} {h : Int → Int} {g : List (Int × Int)} (hr : 0 ≤ r ∧ r ≤ 2) (hg : rg_at M r g) (hh : rt_at M h) (hb : hbk h) : Spv G FX10_times [xR 101, xI r] SF M (fun M' => rt_at M' (hmc 1000 g h) ∧ rtf M M') := by
  have hbm := hbk_m hg.bd hb
  refine Spv.of _ mtX10_times nlX10_times (Nat.le_of_ble_eq_true rfl) ?_
  show Ok G FX10_times 0 [xR 101, xI r, xU, xU] [] SF M 0 0 _
  have loop3 : ∀ (M0 : tk_M), (∀ y, 0 ≤ y → y ≤ 71 → M0 117 y = hmc 1000 g h y) → rtf M M0 → ∀ (d : Nat) (x : Int) (v3 : tk_V) (M1 : tk_M), x + d = 72 → 0 ≤ x → (∀ y, 0 ≤ y → y < x → M1 116 y = hmc 1000 g h y) → M1 117 = M0 117 → rtf M M1 → Ok G FX10_times 106 [xR 101, xI r, xI x, v3] [] SF M1 0 0 (tk_qv SF (fun M' => rt_at M' (hmc 1000 g h) ∧ rtf M M')) := by
    intro M0 b1 b2 d
    induction d with
    | zero =>
      intro x v3 M1 hd hx a1 a2 hf
      refine tr_iload_n (pc := 106) dX10_times_106 rfl ?_
      refine tr_bipush (pc := 107) dX10_times_107 ⟨by decide, ⟨by decide, by decide⟩⟩ ?_
      refine tr_icmpge (pc := 109) (tgt := 136) dX10_times_109 (by decide) (fun c109 => ?_) (fun c109 => absurd c109 (by omega))
      refine tr_vret (pc := 136) dX10_times_136 rfl ?_
      exact ⟨fun y y0 y1 => a1 y y0 (by omega), hf⟩
    | succ d ih =>
      intro x v3 M1 hd hx a1 a2 hf
      have hbx := hbm x
      refine tr_iload_n (pc := 106) dX10_times_106 rfl ?_
      refine tr_bipush (pc := 107) dX10_times_107 ⟨by decide, ⟨by decide, by decide⟩⟩ ?_
      refine tr_icmpge (pc := 109) (tgt := 136) dX10_times_109 (by decide) (fun c109 => absurd c109 (by omega)) (fun c109 => ?_)
      refine tr_aload_n (pc := 112) dX10_times_112 rfl (by decide) ?_
      refine tr_getr (pc := 113) (x := 116) dX10_times_113 fi10_54 rfl sg101 rfl ?_
      refine tr_iload_n (pc := 116) dX10_times_116 rfl ?_
      refine tr_aload_n (pc := 117) dX10_times_117 rfl (by decide) ?_
      refine tr_getr (pc := 118) (x := 117) dX10_times_118 fi10_57 rfl sg101 rfl ?_
      refine tr_iload_n (pc := 121) dX10_times_121 rfl ?_
      refine tr_ialdv (pc := 122) (x := hmc 1000 g h x) dX10_times_122 sg117 (by omega) (by omega) (by rw [a2]; exact b1 x (by omega) (by omega)) ?_
      refine tr_sipush (pc := 123) dX10_times_123 ⟨by decide, ⟨by decide, by decide⟩⟩ ?_
      refine tr_min (pc := 126) dX10_times_126 mm10_216 rfl (Nat.le_of_ble_eq_true rfl) (Nat.le_of_ble_eq_true rfl) ⟨(Nat.le_of_ble_eq_true rfl), (Nat.le_of_ble_eq_true rfl)⟩ ?_
      refine tr_topv (x' := hmc 1000 g h x) (by omega) ?_
      refine tr_iast (pc := 129) dX10_times_129 sg116 (by omega) (by omega) ?_
      refine tr_iinc (pc := 130) dX10_times_130 rfl rfl ⟨by omega, by omega⟩ ?_
      dsimp only [List.set]
      refine tr_goto (pc := 133) (tgt := 106) dX10_times_133 (by decide) ?_
      refine ih (x + 1) _ _ (by omega) (by omega) (fun y y0 y1 => ?_) ((tk_mu_c (by omega)).trans a2) (fun c hc => (tk_mu_c (by omega)).trans (hf c hc))
      by_cases hy : y = x
      · subst hy
        rw [tk_mu_at]
      · rw [tk_mu_i hy]; exact a1 y y0 (by omega)
  have loop2 : ∀ (t : List (Int × Int)) (k : Int) (v3 : tk_V) (M1 : tk_M), 0 ≤ k → ig_seg (fun k => M 103 (6 * r + k)) (fun k => M 104 (6 * r + k)) (M 102 r) k t → M1 116 = M 116 → rtf M M1 → (∀ y, 0 ≤ y → y ≤ 71 → ht_m h y (M1 117 y) t = hmc 1000 g h y) → (∀ y, 0 ≤ y → y ≤ 71 → 0 ≤ M1 117 y ∧ M1 117 y ≤ 1000) → Ok G FX10_times 25 [xR 101, xI r, xI k, v3] [] SF M1 0 0 (tk_qv SF (fun M' => rt_at M' (hmc 1000 g h) ∧ rtf M M')) := by
    intro t
    induction t with
    | nil =>
      intro k v3 M1 hk hs e6 hf a1 a2
      have hs : k = M 102 r := hs
      have e2 : M1 102 r = M 102 r := by rw [hf 102 (by omega)]
      refine tr_iload_n (pc := 25) dX10_times_25 rfl ?_
      refine tr_aload_n (pc := 26) dX10_times_26 rfl (by decide) ?_
      refine tr_getr (pc := 27) (x := 102) dX10_times_27 fi10_11 rfl sg101 rfl ?_
      refine tr_iload_n (pc := 30) dX10_times_30 rfl ?_
      refine tr_iald (pc := 31) dX10_times_31 sg102 (by omega) (by omega) ?_
      refine tr_icmpge (pc := 32) (tgt := 104) dX10_times_32 (by decide) (fun c32 => ?_) (fun c32 => absurd c32 (by omega))
      refine tr_iconst (pc := 104) dX10_times_104 ⟨by decide, by decide⟩ ?_
      refine tr_istore_n (pc := 105) dX10_times_105 rfl (Nat.le_of_ble_eq_true rfl) ?_
      dsimp only [List.set]
      exact loop3 M1 a1 hf 72 0 _ M1 (by omega) (by omega) (fun y h1 h2 => by omega) rfl hf
    | cons q t ih =>
      intro k v3 M1 hk hs e6 hf a1 a2
      obtain ⟨p, q⟩ := q
      obtain ⟨e1, e2, b1, b2, b3, b4, hlt, hs⟩ := hs
      have h6 := hg.2
      have e2' : M1 102 r = M 102 r := by rw [hf 102 (by omega)]
      have inner : ∀ (d : Nat) (x : Int) (M2 : tk_M), x + p + d = 72 → 0 ≤ x → M2 116 = M 116 → rtf M M2 → (∀ y, 0 ≤ y → y ≤ 71 → M2 117 y = (if 0 ≤ y - p ∧ y - p < x then min (M1 117 y) (h (y - p) + q) else M1 117 y)) → Ok G FX10_times 37 [xR 101, xI r, xI k, xI x] [] SF M2 0 0 (tk_qv SF (fun M' => rt_at M' (hmc 1000 g h) ∧ rtf M M')) := by
        intro d
        induction d with
        | zero =>
          intro x M2 hd hx g6 hf2 c1
          have e1' : M2 103 (6 * r + k) = p := by rw [hf2 103 (by omega)]; exact e1
          refine tr_iload_n (pc := 37) dX10_times_37 rfl ?_
          refine tr_aload_n (pc := 38) dX10_times_38 rfl (by decide) ?_
          refine tr_iload_n (pc := 39) dX10_times_39 rfl ?_
          refine tr_iload_n (pc := 40) dX10_times_40 rfl ?_
          refine tr_cVi2 (pc := 41) dX10_times_41 mtX10_a lv10_125 rfl sg101 kc10 ⟨(Nat.le_of_ble_eq_true rfl), (Nat.le_of_ble_eq_true rfl)⟩ nlX10_a (Nat.le_of_ble_eq_true rfl) ⟨(Nat.le_of_ble_eq_true rfl), (Nat.le_of_ble_eq_true rfl)⟩ (sp_ra hr hk (by omega) e1') (fun r41 M41 h41 => ?_)
          obtain ⟨hr41, hM41⟩ := h41
          obtain rfl := hr41.symm
          obtain rfl := hM41.symm
          refine tr_iadd (pc := 44) dX10_times_44 ⟨by omega, by omega⟩ ?_
          refine tr_bipush (pc := 45) dX10_times_45 ⟨by decide, ⟨by decide, by decide⟩⟩ ?_
          refine tr_icmpge (pc := 47) (tgt := 98) dX10_times_47 (by decide) (fun c47 => ?_) (fun c47 => absurd c47 (by omega))
          refine tr_iinc (pc := 98) dX10_times_98 rfl rfl ⟨by omega, by omega⟩ ?_
          dsimp only [List.set]
          refine tr_goto (pc := 101) (tgt := 25) dX10_times_101 (by decide) ?_
          refine ih (k + 1) _ M2 (by omega) hs g6 hf2 (fun y y0 y1 => ?_) (fun y y0 y1 => ?_)
          · rw [c1 y y0 y1, ← a1 y y0 y1]
            show _ = ht_m h y (if 0 ≤ y - p ∧ y - p ≤ y then min (M1 117 y) (h (y - p) + q) else M1 117 y) t
            congr 1
            by_cases hp : 0 ≤ y - p
            · rw [if_pos (by omega), if_pos (by omega)]
            · rw [if_neg (by omega), if_neg (by omega)]
          · have := a2 y y0 y1
            have := hb (y - p)
            rw [c1 y y0 y1]
            split <;> omega
        | succ d ih2 =>
          intro x M2 hd hx g6 hf2 c1
          have e1' : M2 103 (6 * r + k) = p := by rw [hf2 103 (by omega)]; exact e1
          have e2'' : M2 104 (6 * r + k) = q := by rw [hf2 104 (by omega)]; exact e2
          have hx1 : M2 116 x = h x := by rw [g6]; exact hh x (by omega) (by omega)
          have hbx := hb x
          have cx := c1 (x + p) (by omega) (by omega)
          rw [if_neg (by omega)] at cx
          refine tr_iload_n (pc := 37) dX10_times_37 rfl ?_
          refine tr_aload_n (pc := 38) dX10_times_38 rfl (by decide) ?_
          refine tr_iload_n (pc := 39) dX10_times_39 rfl ?_
          refine tr_iload_n (pc := 40) dX10_times_40 rfl ?_
          refine tr_cVi2 (pc := 41) dX10_times_41 mtX10_a lv10_125 rfl sg101 kc10 ⟨(Nat.le_of_ble_eq_true rfl), (Nat.le_of_ble_eq_true rfl)⟩ nlX10_a (Nat.le_of_ble_eq_true rfl) ⟨(Nat.le_of_ble_eq_true rfl), (Nat.le_of_ble_eq_true rfl)⟩ (sp_ra hr hk (by omega) e1') (fun r41 M41 h41 => ?_)
          obtain ⟨hr41, hM41⟩ := h41
          obtain rfl := hr41.symm
          obtain rfl := hM41.symm
          refine tr_iadd (pc := 44) dX10_times_44 ⟨by omega, by omega⟩ ?_
          refine tr_bipush (pc := 45) dX10_times_45 ⟨by decide, ⟨by decide, by decide⟩⟩ ?_
          refine tr_icmpge (pc := 47) (tgt := 98) dX10_times_47 (by decide) (fun c47 => absurd c47 (by omega)) (fun c47 => ?_)
          refine tr_aload_n (pc := 50) dX10_times_50 rfl (by decide) ?_
          refine tr_getr (pc := 51) (x := 117) dX10_times_51 fi10_57 rfl sg101 rfl ?_
          refine tr_iload_n (pc := 54) dX10_times_54 rfl ?_
          refine tr_aload_n (pc := 55) dX10_times_55 rfl (by decide) ?_
          refine tr_iload_n (pc := 56) dX10_times_56 rfl ?_
          refine tr_iload_n (pc := 57) dX10_times_57 rfl ?_
          refine tr_cVi2 (pc := 58) dX10_times_58 mtX10_a lv10_125 rfl sg101 kc10 ⟨(Nat.le_of_ble_eq_true rfl), (Nat.le_of_ble_eq_true rfl)⟩ nlX10_a (Nat.le_of_ble_eq_true rfl) ⟨(Nat.le_of_ble_eq_true rfl), (Nat.le_of_ble_eq_true rfl)⟩ (sp_ra hr hk (by omega) e1') (fun r58 M58 h58 => ?_)
          obtain ⟨hr58, hM58⟩ := h58
          obtain rfl := hr58.symm
          obtain rfl := hM58.symm
          refine tr_iadd (pc := 61) dX10_times_61 ⟨by omega, by omega⟩ ?_
          refine tr_aload_n (pc := 62) dX10_times_62 rfl (by decide) ?_
          refine tr_getr (pc := 63) (x := 117) dX10_times_63 fi10_57 rfl sg101 rfl ?_
          refine tr_iload_n (pc := 66) dX10_times_66 rfl ?_
          refine tr_aload_n (pc := 67) dX10_times_67 rfl (by decide) ?_
          refine tr_iload_n (pc := 68) dX10_times_68 rfl ?_
          refine tr_iload_n (pc := 69) dX10_times_69 rfl ?_
          refine tr_cVi2 (pc := 70) dX10_times_70 mtX10_a lv10_125 rfl sg101 kc10 ⟨(Nat.le_of_ble_eq_true rfl), (Nat.le_of_ble_eq_true rfl)⟩ nlX10_a (Nat.le_of_ble_eq_true rfl) ⟨(Nat.le_of_ble_eq_true rfl), (Nat.le_of_ble_eq_true rfl)⟩ (sp_ra hr hk (by omega) e1') (fun r70 M70 h70 => ?_)
          obtain ⟨hr70, hM70⟩ := h70
          obtain rfl := hr70.symm
          obtain rfl := hM70.symm
          refine tr_iadd (pc := 73) dX10_times_73 ⟨by omega, by omega⟩ ?_
          refine tr_ialdv (pc := 74) (x := M1 117 (x + p)) dX10_times_74 sg117 (by omega) (by omega) (cx) ?_
          refine tr_aload_n (pc := 75) dX10_times_75 rfl (by decide) ?_
          refine tr_getr (pc := 76) (x := 116) dX10_times_76 fi10_54 rfl sg101 rfl ?_
          refine tr_iload_n (pc := 79) dX10_times_79 rfl ?_
          refine tr_ialdv (pc := 80) (x := h x) dX10_times_80 sg116 (by omega) (by omega) (hx1) ?_
          refine tr_aload_n (pc := 81) dX10_times_81 rfl (by decide) ?_
          refine tr_iload_n (pc := 82) dX10_times_82 rfl ?_
          refine tr_iload_n (pc := 83) dX10_times_83 rfl ?_
          refine tr_cVi2 (pc := 84) dX10_times_84 mtX10_b lv10_129 rfl sg101 kc10 ⟨(Nat.le_of_ble_eq_true rfl), (Nat.le_of_ble_eq_true rfl)⟩ nlX10_b (Nat.le_of_ble_eq_true rfl) ⟨(Nat.le_of_ble_eq_true rfl), (Nat.le_of_ble_eq_true rfl)⟩ (sp_rb hr hk (by omega) e2'') (fun r84 M84 h84 => ?_)
          obtain ⟨hr84, hM84⟩ := h84
          obtain rfl := hr84.symm
          obtain rfl := hM84.symm
          refine tr_iadd (pc := 87) dX10_times_87 ⟨by omega, by omega⟩ ?_
          refine tr_min (pc := 88) dX10_times_88 mm10_216 rfl (Nat.le_of_ble_eq_true rfl) (Nat.le_of_ble_eq_true rfl) ⟨(Nat.le_of_ble_eq_true rfl), (Nat.le_of_ble_eq_true rfl)⟩ ?_
          refine tr_iast (pc := 91) dX10_times_91 sg117 (by omega) (by omega) ?_
          refine tr_iinc (pc := 92) dX10_times_92 rfl rfl ⟨by omega, by omega⟩ ?_
          dsimp only [List.set]
          refine tr_goto (pc := 95) (tgt := 37) dX10_times_95 (by decide) ?_
          refine ih2 (x + 1) _ (by omega) (by omega) ((tk_mu_c (by omega)).trans g6) (fun c hc => (tk_mu_c (by omega)).trans (hf2 c hc)) (fun y y0 y1 => ?_)
          by_cases hy : y = x + p
          · subst hy
            rw [tk_mu_at, if_pos (by omega), show x + p - p = x by omega]
          · rw [tk_mu_i hy, c1 y y0 y1]
            by_cases hp : 0 ≤ y - p ∧ y - p < x
            · rw [if_pos hp, if_pos (by omega)]
            · rw [if_neg hp, if_neg (by omega)]
      refine tr_iload_n (pc := 25) dX10_times_25 rfl ?_
      refine tr_aload_n (pc := 26) dX10_times_26 rfl (by decide) ?_
      refine tr_getr (pc := 27) (x := 102) dX10_times_27 fi10_11 rfl sg101 rfl ?_
      refine tr_iload_n (pc := 30) dX10_times_30 rfl ?_
      refine tr_iald (pc := 31) dX10_times_31 sg102 (by omega) (by omega) ?_
      refine tr_icmpge (pc := 32) (tgt := 104) dX10_times_32 (by decide) (fun c32 => absurd c32 (by omega)) (fun c32 => ?_)
      refine tr_iconst (pc := 35) dX10_times_35 ⟨by decide, by decide⟩ ?_
      refine tr_istore_n (pc := 36) dX10_times_36 rfl (Nat.le_of_ble_eq_true rfl) ?_
      dsimp only [List.set]
      exact inner (72 - p).toNat 0 M1 (by omega) (by omega) e6 hf (fun y y0 y1 => by rw [if_neg (by omega)])
  have loop1 : ∀ (d : Nat) (x : Int) (M1 : tk_M), x + d = 72 → 0 ≤ x → (∀ y, 0 ≤ y → y < x → M1 117 y = 1000) → M1 116 = M 116 → rtf M M1 → Ok G FX10_times 2 [xR 101, xI r, xI x, xU] [] SF M1 0 0 (tk_qv SF (fun M' => rt_at M' (hmc 1000 g h) ∧ rtf M M')) := by
    intro d
    induction d with
    | zero =>
      intro x M1 hd hx a1 a2 hf
      refine tr_iload_n (pc := 2) dX10_times_2 rfl ?_
      refine tr_bipush (pc := 3) dX10_times_3 ⟨by decide, ⟨by decide, by decide⟩⟩ ?_
      refine tr_icmpge (pc := 5) (tgt := 23) dX10_times_5 (by decide) (fun c5 => ?_) (fun c5 => absurd c5 (by omega))
      refine tr_iconst (pc := 23) dX10_times_23 ⟨by decide, by decide⟩ ?_
      refine tr_istore_n (pc := 24) dX10_times_24 rfl (Nat.le_of_ble_eq_true rfl) ?_
      dsimp only [List.set]
      exact loop2 g 0 _ M1 (by omega) hg.1 a2 hf (fun y y0 y1 => by rw [a1 y y0 (by omega)]; rfl) (fun y y0 y1 => by rw [a1 y y0 (by omega)]; omega)
    | succ d ih =>
      intro x M1 hd hx a1 a2 hf
      refine tr_iload_n (pc := 2) dX10_times_2 rfl ?_
      refine tr_bipush (pc := 3) dX10_times_3 ⟨by decide, ⟨by decide, by decide⟩⟩ ?_
      refine tr_icmpge (pc := 5) (tgt := 23) dX10_times_5 (by decide) (fun c5 => absurd c5 (by omega)) (fun c5 => ?_)
      refine tr_aload_n (pc := 8) dX10_times_8 rfl (by decide) ?_
      refine tr_getr (pc := 9) (x := 117) dX10_times_9 fi10_57 rfl sg101 rfl ?_
      refine tr_iload_n (pc := 12) dX10_times_12 rfl ?_
      refine tr_sipush (pc := 13) dX10_times_13 ⟨by decide, ⟨by decide, by decide⟩⟩ ?_
      refine tr_iast (pc := 16) dX10_times_16 sg117 (by omega) (by omega) ?_
      refine tr_iinc (pc := 17) dX10_times_17 rfl rfl ⟨by omega, by omega⟩ ?_
      dsimp only [List.set]
      refine tr_goto (pc := 20) (tgt := 2) dX10_times_20 (by decide) ?_
      refine ih (x + 1) _ (by omega) (by omega) (fun y y0 y1 => ?_) ((tk_mu_c (by omega)).trans a2) (fun c hc => (tk_mu_c (by omega)).trans (hf c hc))
      by_cases hy : y = x
      · subst hy; rw [tk_mu_at]
      · rw [tk_mu_i hy]; exact a1 y y0 (by omega)
  refine tr_iconst (pc := 0) dX10_times_0 ⟨by decide, by decide⟩ ?_
  refine tr_istore_n (pc := 1) dX10_times_1 rfl (Nat.le_of_ble_eq_true rfl) ?_
  dsimp only [List.set]
  exact loop1 72 0 M (by omega) (by omega) (fun y h1 h2 => by omega) rfl rtf.rf
theorem sp_X10_powers {G : tk_G} {M : tk_M} {r n : Int} {g : List (Int × Int)} (hr : 0 ≤ r ∧ r ≤ 2) (hg : rg_at M r g) (hn : 0 ≤ n ∧ n ≤ 6) : Spv G FX10_powers [xR 101, xI r, xI n] SF M (fun M' => rt_at M' (hmq g n.toNat h00) ∧ hbk (hmq g n.toNat h00) ∧ rtf M M') := by
  have hbd := hg.bd
  refine Spv.of _ mtX10_powers nlX10_powers (Nat.le_of_ble_eq_true rfl) ?_
  show Ok G FX10_powers 0 [xR 101, xI r, xI n, xU] [] SF M 0 0 _
  have loop : ∀ (d : Nat) (k : Int) (f : Int → Int) (M1 : tk_M), k + d = n → 0 ≤ k → hbk f → rt_at M1 f → rtf M M1 → Ok G FX10_powers 6 [xR 101, xI r, xI n, xI k] [] SF M1 0 0 (tk_qv SF (fun M' => rt_at M' (hmq g d f) ∧ hbk (hmq g d f) ∧ rtf M M')) := by
    intro d
    induction d with
    | zero =>
      intro k f M1 hd hk hb ht hf
      refine tr_iload_n (pc := 6) dX10_powers_6 rfl ?_
      refine tr_iload_n (pc := 7) dX10_powers_7 rfl ?_
      refine tr_icmpge (pc := 8) (tgt := 22) dX10_powers_8 (by decide) (fun c8 => ?_) (fun c8 => absurd c8 (by omega))
      refine tr_vret (pc := 22) dX10_powers_22 rfl ?_
      exact ⟨ht, hb, hf⟩
    | succ d ih =>
      intro k f M1 hd hk hb ht hf
      refine tr_iload_n (pc := 6) dX10_powers_6 rfl ?_
      refine tr_iload_n (pc := 7) dX10_powers_7 rfl ?_
      refine tr_icmpge (pc := 8) (tgt := 22) dX10_powers_8 (by decide) (fun c8 => absurd c8 (by omega)) (fun c8 => ?_)
      refine tr_aload_n (pc := 11) dX10_powers_11 rfl (by decide) ?_
      refine tr_iload_n (pc := 12) dX10_powers_12 rfl ?_
      refine tr_cVv1 (pc := 13) dX10_powers_13 mtX10_times lv10_289 rfl sg101 kc10 ⟨(Nat.le_of_ble_eq_true rfl), (Nat.le_of_ble_eq_true rfl)⟩ nlX10_times (Nat.le_of_ble_eq_true rfl) ⟨(Nat.le_of_ble_eq_true rfl), (Nat.le_of_ble_eq_true rfl)⟩ (sp_X10_times hr (hg.tf hf) ht hb) (fun M13 h13 => ?_)
      obtain ⟨h9, f9⟩ := h13
      refine tr_iinc (pc := 16) dX10_powers_16 rfl rfl ⟨by omega, by omega⟩ ?_
      dsimp only [List.set]
      refine tr_goto (pc := 19) (tgt := 6) dX10_powers_19 (by decide) ?_
      exact ih (k + 1) _ _ (by omega) (by omega) (hbk_m hbd hb) h9 (hf.trans f9)
  refine tr_aload_n (pc := 0) dX10_powers_0 rfl (by decide) ?_
  refine tr_cVv0 (pc := 1) dX10_powers_1 mtX10_begins lv10_286 rfl sg101 kc10 ⟨(Nat.le_of_ble_eq_true rfl), (Nat.le_of_ble_eq_true rfl)⟩ nlX10_begins (Nat.le_of_ble_eq_true rfl) ⟨(Nat.le_of_ble_eq_true rfl), (Nat.le_of_ble_eq_true rfl)⟩ (sp_X10_begins) (fun M1 h1 => ?_)
  obtain ⟨h9, f9⟩ := h1
  refine tr_iconst (pc := 4) dX10_powers_4 ⟨by decide, by decide⟩ ?_
  refine tr_istore_n (pc := 5) dX10_powers_5 rfl (Nat.le_of_ble_eq_true rfl) ?_
  dsimp only [List.set]
  exact loop n.toNat 0 h00 M1 (by omega) (by omega) hbk0 h9 f9
theorem sp_X10_heightAt {G : tk_G} {M : tk_M} {a : Int} {h : Int → Int} (hh : rt_at M h) (ha : 0 ≤ a ∧ a ≤ 60) : Spi G FX10_heightAt [xR 101, xI a] SF M (fun v M' => v = (if pm h a = 1000 then -5 else pm h a) ∧ rtf M M') := by
  refine Spi.of _ mtX10_heightAt nlX10_heightAt (Nat.le_of_ble_eq_true rfl) ?_
  show Ok G FX10_heightAt 0 [xR 101, xI a] [] SF M 0 0 _
  refine tr_aload_n (pc := 0) dX10_heightAt_0 rfl (by decide) ?_
  refine tr_cVv0 (pc := 1) dX10_heightAt_1 mtX10_settles lv10_292 rfl sg101 kc10 ⟨(Nat.le_of_ble_eq_true rfl), (Nat.le_of_ble_eq_true rfl)⟩ nlX10_settles (Nat.le_of_ble_eq_true rfl) ⟨(Nat.le_of_ble_eq_true rfl), (Nat.le_of_ble_eq_true rfl)⟩ (sp_X10_settles hh) (fun M1 h1 => ?_)
  obtain ⟨h9, f9⟩ := h1
  have h8 := h9 a (by omega) (by omega)
  refine tr_aload_n (pc := 4) dX10_heightAt_4 rfl (by decide) ?_
  refine tr_getr (pc := 5) (x := 116) dX10_heightAt_5 fi10_54 rfl sg101 rfl ?_
  refine tr_iload_n (pc := 8) dX10_heightAt_8 rfl ?_
  refine tr_ialdv (pc := 9) (x := pm h a) dX10_heightAt_9 sg116 (by omega) (by omega) (h8) ?_
  refine tr_sipush (pc := 10) dX10_heightAt_10 ⟨by decide, ⟨by decide, by decide⟩⟩ ?_
  refine tr_icmpne (pc := 13) (tgt := 21) dX10_heightAt_13 (by decide) (fun c13 => ?_) (fun c13 => ?_)
  · skip
    refine tr_aload_n (pc := 21) dX10_heightAt_21 rfl (by decide) ?_
    refine tr_getr (pc := 22) (x := 116) dX10_heightAt_22 fi10_54 rfl sg101 rfl ?_
    refine tr_iload_n (pc := 25) dX10_heightAt_25 rfl ?_
    refine tr_ialdv (pc := 26) (x := pm h a) dX10_heightAt_26 sg116 (by omega) (by omega) (h8) ?_
    refine tr_ireti (pc := 27) dX10_heightAt_27 rfl ?_
    exact ⟨by omega, f9⟩
  · skip
    refine tr_bipush (pc := 16) dX10_heightAt_16 ⟨by decide, ⟨by decide, by decide⟩⟩ ?_
    refine tr_goto (pc := 18) (tgt := 27) dX10_heightAt_18 (by decide) ?_
    refine tr_ireti (pc := 27) dX10_heightAt_27 rfl ?_
    exact ⟨by omega, f9⟩
theorem sp_X10_heightOf {G : tk_G} {M : tk_M} {r a : Int} {g : List (Int × Int)} (hr : 0 ≤ r ∧ r ≤ 2) (hg : rg_at M r g) (ha : 0 ≤ a ∧ a ≤ 60) : Spi G FX10_heightOf [xR 101, xI r, xI a] SF M (fun v M' => v = ig_low a (-5) g ∧ rtf M M') := by
  have e := (hrel_at (a := a) (by omega) (hmq_rel hg.bd 1 h00 hm0 0 (by omega) (by omega) hrel0) ha.1).trans (low_at hg.bd ha.1)
  refine Spi.of _ mtX10_heightOf nlX10_heightOf (Nat.le_of_ble_eq_true rfl) ?_
  show Ok G FX10_heightOf 0 [xR 101, xI r, xI a] [] SF M 0 0 _
  refine tr_aload_n (pc := 0) dX10_heightOf_0 rfl (by decide) ?_
  refine tr_iload_n (pc := 1) dX10_heightOf_1 rfl ?_
  refine tr_iconst (pc := 2) dX10_heightOf_2 ⟨by decide, by decide⟩ ?_
  refine tr_cVv2 (pc := 3) dX10_heightOf_3 mtX10_powers lv10_295 rfl sg101 kc10 ⟨(Nat.le_of_ble_eq_true rfl), (Nat.le_of_ble_eq_true rfl)⟩ nlX10_powers (Nat.le_of_ble_eq_true rfl) ⟨(Nat.le_of_ble_eq_true rfl), (Nat.le_of_ble_eq_true rfl)⟩ (sp_X10_powers hr hg (by omega)) (fun M3 h3 => ?_)
  obtain ⟨h9, b9, f9⟩ := h3
  refine tr_aload_n (pc := 6) dX10_heightOf_6 rfl (by decide) ?_
  refine tr_iload_n (pc := 7) dX10_heightOf_7 rfl ?_
  refine tr_cVi1 (pc := 8) dX10_heightOf_8 mtX10_heightAt lv10_298 rfl sg101 kc10 ⟨(Nat.le_of_ble_eq_true rfl), (Nat.le_of_ble_eq_true rfl)⟩ nlX10_heightAt (Nat.le_of_ble_eq_true rfl) ⟨(Nat.le_of_ble_eq_true rfl), (Nat.le_of_ble_eq_true rfl)⟩ (sp_X10_heightAt h9 ha) (fun r8 M8 h8 => ?_)
  obtain ⟨hr8, f8⟩ := h8
  rw [show (1 : Int).toNat = 1 from rfl, e] at hr8
  obtain rfl := hr8.symm
  refine tr_ireti (pc := 11) dX10_heightOf_11 rfl ?_
  exact ⟨rfl, f9.trans f8⟩
theorem sp_X10_sumHeight {G : tk_G} {M : tk_M} {a : Int} {g h : List (Int × Int)} (hg : rg_at M 0 g) (hh : rg_at M 1 h) (ha : 0 ≤ a ∧ a ≤ 60) : Spi G FX10_sumHeight [xR 101, xI a] SF M (fun v M' => v = lowO (ig_low a (-5) g) (ig_low a (-5) h) ∧ rtf M M') := by
  refine Spi.of _ mtX10_sumHeight nlX10_sumHeight (Nat.le_of_ble_eq_true rfl) ?_
  show Ok G FX10_sumHeight 0 [xR 101, xI a, xU, xU] [] SF M 0 0 _
  unfold lowO
  refine tr_aload_n (pc := 0) dX10_sumHeight_0 rfl (by decide) ?_
  refine tr_iconst (pc := 1) dX10_sumHeight_1 ⟨by decide, by decide⟩ ?_
  refine tr_iload_n (pc := 2) dX10_sumHeight_2 rfl ?_
  refine tr_cVi2 (pc := 3) dX10_sumHeight_3 mtX10_heightOf lv10_301 rfl sg101 kc10 ⟨(Nat.le_of_ble_eq_true rfl), (Nat.le_of_ble_eq_true rfl)⟩ nlX10_heightOf (Nat.le_of_ble_eq_true rfl) ⟨(Nat.le_of_ble_eq_true rfl), (Nat.le_of_ble_eq_true rfl)⟩ (sp_X10_heightOf (by omega) hg ha) (fun r3 M3 h3 => ?_)
  obtain ⟨hr3, f3⟩ := h3
  obtain rfl := hr3.symm
  refine tr_istore_n (pc := 6) dX10_sumHeight_6 rfl (Nat.le_of_ble_eq_true rfl) ?_
  dsimp only [List.set]
  refine tr_aload_n (pc := 7) dX10_sumHeight_7 rfl (by decide) ?_
  refine tr_iconst (pc := 8) dX10_sumHeight_8 ⟨by decide, by decide⟩ ?_
  refine tr_iload_n (pc := 9) dX10_sumHeight_9 rfl ?_
  refine tr_cVi2 (pc := 10) dX10_sumHeight_10 mtX10_heightOf lv10_301 rfl sg101 kc10 ⟨(Nat.le_of_ble_eq_true rfl), (Nat.le_of_ble_eq_true rfl)⟩ nlX10_heightOf (Nat.le_of_ble_eq_true rfl) ⟨(Nat.le_of_ble_eq_true rfl), (Nat.le_of_ble_eq_true rfl)⟩ (sp_X10_heightOf (by omega) (hh.tf f3) ha) (fun r10 M10 h10 => ?_)
  obtain ⟨hr10, f10⟩ := h10
  obtain rfl := hr10.symm
  have f9 := f3.trans f10
  refine tr_istore_n (pc := 13) dX10_sumHeight_13 rfl (Nat.le_of_ble_eq_true rfl) ?_
  dsimp only [List.set]
  refine tr_iload_n (pc := 14) dX10_sumHeight_14 rfl ?_
  refine tr_bipush (pc := 15) dX10_sumHeight_15 ⟨by decide, ⟨by decide, by decide⟩⟩ ?_
  refine tr_icmpne (pc := 17) (tgt := 24) dX10_sumHeight_17 (by decide) (fun c17 => ?_) (fun c17 => ?_)
  · skip
    refine tr_iload_n (pc := 24) dX10_sumHeight_24 rfl ?_
    refine tr_bipush (pc := 25) dX10_sumHeight_25 ⟨by decide, ⟨by decide, by decide⟩⟩ ?_
    refine tr_icmpne (pc := 27) (tgt := 34) dX10_sumHeight_27 (by decide) (fun c27 => ?_) (fun c27 => ?_)
    · skip
      refine tr_iload_n (pc := 34) dX10_sumHeight_34 rfl ?_
      refine tr_iload_n (pc := 35) dX10_sumHeight_35 rfl ?_
      refine tr_min (pc := 36) dX10_sumHeight_36 mm10_216 rfl (Nat.le_of_ble_eq_true rfl) (Nat.le_of_ble_eq_true rfl) ⟨(Nat.le_of_ble_eq_true rfl), (Nat.le_of_ble_eq_true rfl)⟩ ?_
      refine tr_ireti (pc := 39) dX10_sumHeight_39 rfl ?_
      exact ⟨by omega, f9⟩
    · skip
      refine tr_iload_n (pc := 30) dX10_sumHeight_30 rfl ?_
      refine tr_goto (pc := 31) (tgt := 39) dX10_sumHeight_31 (by decide) ?_
      refine tr_ireti (pc := 39) dX10_sumHeight_39 rfl ?_
      exact ⟨by omega, f9⟩
  · skip
    refine tr_iload_n (pc := 20) dX10_sumHeight_20 rfl ?_
    refine tr_goto (pc := 21) (tgt := 39) dX10_sumHeight_21 (by decide) ?_
    refine tr_ireti (pc := 39) dX10_sumHeight_39 rfl ?_
    exact ⟨by omega, f9⟩
theorem sp_X10_height {G : tk_G} {M : tk_M} {C : cC} {i w a : Int} (hC : Rg M C) : Spi G FX10_height [xR 101, xI i, xI w, xI a] SF M (fun v M' => v = x_height C i w a ∧ fQ M M') := by
  refine Spi.of _ mtX10_height nlX10_height (Nat.le_of_ble_eq_true rfl) ?_
  show Ok G FX10_height 0 [xR 101, xI i, xI w, xI a] [] SF M 0 0 _
  by_cases hi : 0 ≤ i ∧ i ≤ 1
  · skip
    have hsel := hC.sel hi
    have b1 := hC.1.bd
    have b2 := hC.2.1.bd
    have bs := hsel.bd
    refine tr_iload_n (pc := 0) dX10_height_0 rfl ?_
    refine tr_cSi1 (pc := 1) dX10_height_1 mtX10_isIdeal ls10_136 rfl ⟨(Nat.le_of_ble_eq_true rfl), (Nat.le_of_ble_eq_true rfl)⟩ nlX10_isIdeal (Nat.le_of_ble_eq_true rfl) ⟨(Nat.le_of_ble_eq_true rfl), (Nat.le_of_ble_eq_true rfl)⟩ (sp_X10_isIdeal) (fun r1 M1 h1 => ?_)
    obtain ⟨hr1, hM1⟩ := h1
    obtain rfl := hr1.symm
    obtain rfl := hM1.symm
    refine tr_ifeq (pc := 4) (tgt := 33) dX10_height_4 (by decide) (fun c4 => absurd c4 (by omega)) (fun c4 => ?_)
    refine tr_iload_n (pc := 7) dX10_height_7 rfl ?_
    refine tr_i2l (pc := 8) dX10_height_8 ?_
    refine tr_lconst (pc := 9) (x := 0) dX10_height_9 (by decide) ⟨by decide, by decide⟩ ?_
    refine tr_ldc2 (pc := 10) dX10_height_10 kn10_241 ⟨by decide, by decide⟩ ?_
    refine tr_cSi3 (pc := 13) dX10_height_13 mtX10_isFrom ls10_115 rfl ⟨(Nat.le_of_ble_eq_true rfl), (Nat.le_of_ble_eq_true rfl)⟩ nlX10_isFrom (Nat.le_of_ble_eq_true rfl) ⟨(Nat.le_of_ble_eq_true rfl), (Nat.le_of_ble_eq_true rfl)⟩ (sp_X10_isFrom) (fun r13 M13 h13 => ?_)
    obtain ⟨hr13, hM13⟩ := h13
    obtain rfl := hr13.symm
    obtain rfl := hM13.symm
    refine tr_ifne (pc := 16) (tgt := 35) dX10_height_16 (by decide) (fun c16 => ?_) (fun c16 => ?_)
    · skip
      refine tr_iload_n (pc := 35) dX10_height_35 rfl ?_
      refine tr_i2l (pc := 36) dX10_height_36 ?_
      refine tr_lconst (pc := 37) (x := 0) dX10_height_37 (by decide) ⟨by decide, by decide⟩ ?_
      refine tr_ldc2 (pc := 38) dX10_height_38 kn10_308 ⟨by decide, by decide⟩ ?_
      refine tr_cSi3 (pc := 41) dX10_height_41 mtX10_isFrom ls10_115 rfl ⟨(Nat.le_of_ble_eq_true rfl), (Nat.le_of_ble_eq_true rfl)⟩ nlX10_isFrom (Nat.le_of_ble_eq_true rfl) ⟨(Nat.le_of_ble_eq_true rfl), (Nat.le_of_ble_eq_true rfl)⟩ (sp_X10_isFrom) (fun r41 M41 h41 => ?_)
      obtain ⟨hr41, hM41⟩ := h41
      obtain rfl := hr41.symm
      obtain rfl := hM41.symm
      refine tr_ifne (pc := 44) (tgt := 50) dX10_height_44 (by decide) (fun c44 => ?_) (fun c44 => ?_)
      · skip
        refine tr_iload_n (pc := 50) dX10_height_50 rfl ?_
        refine tr_ifne (pc := 51) (tgt := 61) dX10_height_51 (by decide) (fun c51 => ?_) (fun c51 => ?_)
        · skip
          refine tr_iload_n (pc := 61) dX10_height_61 rfl ?_
          refine tr_iconst (pc := 62) dX10_height_62 ⟨by decide, by decide⟩ ?_
          refine tr_icmpne (pc := 63) (tgt := 72) dX10_height_63 (by decide) (fun c63 => ?_) (fun c63 => ?_)
          · skip
            refine tr_iload_n (pc := 72) dX10_height_72 rfl ?_
            refine tr_iconst (pc := 73) dX10_height_73 ⟨by decide, by decide⟩ ?_
            refine tr_icmpne (pc := 74) (tgt := 91) dX10_height_74 (by decide) (fun c74 => ?_) (fun c74 => ?_)
            · skip
              refine tr_aload_n (pc := 91) dX10_height_91 rfl (by decide) ?_
              refine tr_iload_n (pc := 92) dX10_height_92 rfl ?_
              refine tr_iload_n (pc := 93) dX10_height_93 rfl ?_
              refine tr_bipush (pc := 94) dX10_height_94 ⟨by decide, ⟨by decide, by decide⟩⟩ ?_
              refine tr_isub (pc := 96) dX10_height_96 ⟨by omega, by omega⟩ ?_
              refine tr_cVv2 (pc := 97) dX10_height_97 mtX10_powers lv10_295 rfl sg101 kc10 ⟨(Nat.le_of_ble_eq_true rfl), (Nat.le_of_ble_eq_true rfl)⟩ nlX10_powers (Nat.le_of_ble_eq_true rfl) ⟨(Nat.le_of_ble_eq_true rfl), (Nat.le_of_ble_eq_true rfl)⟩ (sp_X10_powers (by omega) hsel (by omega)) (fun M97 h97 => ?_)
              obtain ⟨h8, bb9, f9⟩ := h97
              have e := hrel_at (a := a) (by omega) (hmq_rel bs (w - 10).toNat h00 hm0 0 (by omega) (by omega) hrel0) (by omega)
              refine tr_aload_n (pc := 100) dX10_height_100 rfl (by decide) ?_
              refine tr_iload_n (pc := 101) dX10_height_101 rfl ?_
              refine tr_cVi1 (pc := 102) dX10_height_102 mtX10_heightAt lv10_298 rfl sg101 kc10 ⟨(Nat.le_of_ble_eq_true rfl), (Nat.le_of_ble_eq_true rfl)⟩ nlX10_heightAt (Nat.le_of_ble_eq_true rfl) ⟨(Nat.le_of_ble_eq_true rfl), (Nat.le_of_ble_eq_true rfl)⟩ (sp_X10_heightAt h8 (by omega)) (fun r102 M102 h102 => ?_)
              obtain ⟨hr102, f7⟩ := h102
              replace f9 := f9.trans f7
              replace hr102 := hr102.trans e
              obtain rfl := hr102.symm
              refine tr_ireti (pc := 105) dX10_height_105 rfl ?_
              refine ⟨?_, by first | exact fQ.rf | exact fQ.tf f9⟩
              unfold x_height
              repeat' split
              all_goals first | rfl | omega
            · skip
              refine tr_aload_n (pc := 77) dX10_height_77 rfl (by decide) ?_
              refine tr_iconst (pc := 78) dX10_height_78 ⟨by decide, by decide⟩ ?_
              refine tr_iconst (pc := 79) dX10_height_79 ⟨by decide, by decide⟩ ?_
              refine tr_cVv2 (pc := 80) dX10_height_80 mtX10_powers lv10_295 rfl sg101 kc10 ⟨(Nat.le_of_ble_eq_true rfl), (Nat.le_of_ble_eq_true rfl)⟩ nlX10_powers (Nat.le_of_ble_eq_true rfl) ⟨(Nat.le_of_ble_eq_true rfl), (Nat.le_of_ble_eq_true rfl)⟩ (sp_X10_powers (by omega) hC.1 (by omega)) (fun M80 h80 => ?_)
              obtain ⟨h9, bb9, f9⟩ := h80
              refine tr_aload_n (pc := 83) dX10_height_83 rfl (by decide) ?_
              refine tr_iconst (pc := 84) dX10_height_84 ⟨by decide, by decide⟩ ?_
              refine tr_cVv1 (pc := 85) dX10_height_85 mtX10_times lv10_289 rfl sg101 kc10 ⟨(Nat.le_of_ble_eq_true rfl), (Nat.le_of_ble_eq_true rfl)⟩ nlX10_times (Nat.le_of_ble_eq_true rfl) ⟨(Nat.le_of_ble_eq_true rfl), (Nat.le_of_ble_eq_true rfl)⟩ (sp_X10_times (by omega) (hC.2.1.tf f9) h9 bb9) (fun M85 h85 => ?_)
              obtain ⟨h8, f8⟩ := h85
              replace f9 := f9.trans f8
              have hrl := (hrel_step (by omega) (by omega) b2 (hmq_rel b1 1 h00 hm0 0 (by omega) (by omega) hrel0)).congr (fun a ha => pm_hmc b2 ha)
              have e := hrel_at (a := a) (by omega) hrl (by omega)
              refine tr_goto (pc := 88) (tgt := 100) dX10_height_88 (by decide) ?_
              refine tr_aload_n (pc := 100) dX10_height_100 rfl (by decide) ?_
              refine tr_iload_n (pc := 101) dX10_height_101 rfl ?_
              refine tr_cVi1 (pc := 102) dX10_height_102 mtX10_heightAt lv10_298 rfl sg101 kc10 ⟨(Nat.le_of_ble_eq_true rfl), (Nat.le_of_ble_eq_true rfl)⟩ nlX10_heightAt (Nat.le_of_ble_eq_true rfl) ⟨(Nat.le_of_ble_eq_true rfl), (Nat.le_of_ble_eq_true rfl)⟩ (sp_X10_heightAt h8 (by omega)) (fun r102 M102 h102 => ?_)
              obtain ⟨hr102, f7⟩ := h102
              replace f9 := f9.trans f7
              replace hr102 := hr102.trans e
              obtain rfl := hr102.symm
              refine tr_ireti (pc := 105) dX10_height_105 rfl ?_
              refine ⟨?_, by first | exact fQ.rf | exact fQ.tf f9⟩
              unfold x_height
              repeat' split
              all_goals first | rfl | omega
          · skip
            refine tr_aload_n (pc := 66) dX10_height_66 rfl (by decide) ?_
            refine tr_iload_n (pc := 67) dX10_height_67 rfl ?_
            refine tr_cVi1 (pc := 68) dX10_height_68 mtX10_sumHeight lv10_310 rfl sg101 kc10 ⟨(Nat.le_of_ble_eq_true rfl), (Nat.le_of_ble_eq_true rfl)⟩ nlX10_sumHeight (Nat.le_of_ble_eq_true rfl) ⟨(Nat.le_of_ble_eq_true rfl), (Nat.le_of_ble_eq_true rfl)⟩ (sp_X10_sumHeight hC.1 hC.2.1 (by omega)) (fun r68 M68 h68 => ?_)
            obtain ⟨hr68, f9⟩ := h68
            obtain rfl := hr68.symm
            refine tr_ireti (pc := 71) dX10_height_71 rfl ?_
            refine ⟨?_, by first | exact fQ.rf | exact fQ.tf f9⟩
            unfold x_height
            repeat' split
            all_goals first | rfl | omega
        · skip
          refine tr_aload_n (pc := 54) dX10_height_54 rfl (by decide) ?_
          refine tr_iload_n (pc := 55) dX10_height_55 rfl ?_
          refine tr_iload_n (pc := 56) dX10_height_56 rfl ?_
          refine tr_cVi2 (pc := 57) dX10_height_57 mtX10_heightOf lv10_301 rfl sg101 kc10 ⟨(Nat.le_of_ble_eq_true rfl), (Nat.le_of_ble_eq_true rfl)⟩ nlX10_heightOf (Nat.le_of_ble_eq_true rfl) ⟨(Nat.le_of_ble_eq_true rfl), (Nat.le_of_ble_eq_true rfl)⟩ (sp_X10_heightOf (by omega) hsel (by omega)) (fun r57 M57 h57 => ?_)
          obtain ⟨hr57, f9⟩ := h57
          obtain rfl := hr57.symm
          refine tr_ireti (pc := 60) dX10_height_60 rfl ?_
          refine ⟨?_, by first | exact fQ.rf | exact fQ.tf f9⟩
          unfold x_height
          repeat' split
          all_goals first | rfl | omega
      · skip
        refine tr_bipush (pc := 47) dX10_height_47 ⟨by decide, ⟨by decide, by decide⟩⟩ ?_
        refine tr_ireti (pc := 49) dX10_height_49 rfl ?_
        refine ⟨?_, by first | exact fQ.rf | exact fQ.tf f9⟩
        unfold x_height
        repeat' split
        all_goals first | rfl | omega
    · skip
      refine tr_iload_n (pc := 19) dX10_height_19 rfl ?_
      refine tr_i2l (pc := 20) dX10_height_20 ?_
      refine tr_ldc2 (pc := 21) dX10_height_21 kn10_304 ⟨by decide, by decide⟩ ?_
      refine tr_ldc2 (pc := 24) dX10_height_24 kn10_306 ⟨by decide, by decide⟩ ?_
      refine tr_cSi3 (pc := 27) dX10_height_27 mtX10_isFrom ls10_115 rfl ⟨(Nat.le_of_ble_eq_true rfl), (Nat.le_of_ble_eq_true rfl)⟩ nlX10_isFrom (Nat.le_of_ble_eq_true rfl) ⟨(Nat.le_of_ble_eq_true rfl), (Nat.le_of_ble_eq_true rfl)⟩ (sp_X10_isFrom) (fun r27 M27 h27 => ?_)
      obtain ⟨hr27, hM27⟩ := h27
      obtain rfl := hr27.symm
      obtain rfl := hM27.symm
      refine tr_ifne (pc := 30) (tgt := 35) dX10_height_30 (by decide) (fun c30 => ?_) (fun c30 => ?_)
      · skip
        refine tr_iload_n (pc := 35) dX10_height_35 rfl ?_
        refine tr_i2l (pc := 36) dX10_height_36 ?_
        refine tr_lconst (pc := 37) (x := 0) dX10_height_37 (by decide) ⟨by decide, by decide⟩ ?_
        refine tr_ldc2 (pc := 38) dX10_height_38 kn10_308 ⟨by decide, by decide⟩ ?_
        refine tr_cSi3 (pc := 41) dX10_height_41 mtX10_isFrom ls10_115 rfl ⟨(Nat.le_of_ble_eq_true rfl), (Nat.le_of_ble_eq_true rfl)⟩ nlX10_isFrom (Nat.le_of_ble_eq_true rfl) ⟨(Nat.le_of_ble_eq_true rfl), (Nat.le_of_ble_eq_true rfl)⟩ (sp_X10_isFrom) (fun r41 M41 h41 => ?_)
        obtain ⟨hr41, hM41⟩ := h41
        obtain rfl := hr41.symm
        obtain rfl := hM41.symm
        refine tr_ifne (pc := 44) (tgt := 50) dX10_height_44 (by decide) (fun c44 => ?_) (fun c44 => ?_)
        · skip
          refine tr_iload_n (pc := 50) dX10_height_50 rfl ?_
          refine tr_ifne (pc := 51) (tgt := 61) dX10_height_51 (by decide) (fun c51 => ?_) (fun c51 => ?_)
          · skip
            refine tr_iload_n (pc := 61) dX10_height_61 rfl ?_
            refine tr_iconst (pc := 62) dX10_height_62 ⟨by decide, by decide⟩ ?_
            refine tr_icmpne (pc := 63) (tgt := 72) dX10_height_63 (by decide) (fun c63 => ?_) (fun c63 => ?_)
            · skip
              refine tr_iload_n (pc := 72) dX10_height_72 rfl ?_
              refine tr_iconst (pc := 73) dX10_height_73 ⟨by decide, by decide⟩ ?_
              refine tr_icmpne (pc := 74) (tgt := 91) dX10_height_74 (by decide) (fun c74 => ?_) (fun c74 => ?_)
              · skip
                refine tr_aload_n (pc := 91) dX10_height_91 rfl (by decide) ?_
                refine tr_iload_n (pc := 92) dX10_height_92 rfl ?_
                refine tr_iload_n (pc := 93) dX10_height_93 rfl ?_
                refine tr_bipush (pc := 94) dX10_height_94 ⟨by decide, ⟨by decide, by decide⟩⟩ ?_
                refine tr_isub (pc := 96) dX10_height_96 ⟨by omega, by omega⟩ ?_
                refine tr_cVv2 (pc := 97) dX10_height_97 mtX10_powers lv10_295 rfl sg101 kc10 ⟨(Nat.le_of_ble_eq_true rfl), (Nat.le_of_ble_eq_true rfl)⟩ nlX10_powers (Nat.le_of_ble_eq_true rfl) ⟨(Nat.le_of_ble_eq_true rfl), (Nat.le_of_ble_eq_true rfl)⟩ (sp_X10_powers (by omega) hsel (by omega)) (fun M97 h97 => ?_)
                obtain ⟨h8, bb9, f9⟩ := h97
                have e := hrel_at (a := a) (by omega) (hmq_rel bs (w - 10).toNat h00 hm0 0 (by omega) (by omega) hrel0) (by omega)
                refine tr_aload_n (pc := 100) dX10_height_100 rfl (by decide) ?_
                refine tr_iload_n (pc := 101) dX10_height_101 rfl ?_
                refine tr_cVi1 (pc := 102) dX10_height_102 mtX10_heightAt lv10_298 rfl sg101 kc10 ⟨(Nat.le_of_ble_eq_true rfl), (Nat.le_of_ble_eq_true rfl)⟩ nlX10_heightAt (Nat.le_of_ble_eq_true rfl) ⟨(Nat.le_of_ble_eq_true rfl), (Nat.le_of_ble_eq_true rfl)⟩ (sp_X10_heightAt h8 (by omega)) (fun r102 M102 h102 => ?_)
                obtain ⟨hr102, f7⟩ := h102
                replace f9 := f9.trans f7
                replace hr102 := hr102.trans e
                obtain rfl := hr102.symm
                refine tr_ireti (pc := 105) dX10_height_105 rfl ?_
                refine ⟨?_, by first | exact fQ.rf | exact fQ.tf f9⟩
                unfold x_height
                repeat' split
                all_goals first | rfl | omega
              · skip
                refine tr_aload_n (pc := 77) dX10_height_77 rfl (by decide) ?_
                refine tr_iconst (pc := 78) dX10_height_78 ⟨by decide, by decide⟩ ?_
                refine tr_iconst (pc := 79) dX10_height_79 ⟨by decide, by decide⟩ ?_
                refine tr_cVv2 (pc := 80) dX10_height_80 mtX10_powers lv10_295 rfl sg101 kc10 ⟨(Nat.le_of_ble_eq_true rfl), (Nat.le_of_ble_eq_true rfl)⟩ nlX10_powers (Nat.le_of_ble_eq_true rfl) ⟨(Nat.le_of_ble_eq_true rfl), (Nat.le_of_ble_eq_true rfl)⟩ (sp_X10_powers (by omega) hC.1 (by omega)) (fun M80 h80 => ?_)
                obtain ⟨h9, bb9, f9⟩ := h80
                refine tr_aload_n (pc := 83) dX10_height_83 rfl (by decide) ?_
                refine tr_iconst (pc := 84) dX10_height_84 ⟨by decide, by decide⟩ ?_
                refine tr_cVv1 (pc := 85) dX10_height_85 mtX10_times lv10_289 rfl sg101 kc10 ⟨(Nat.le_of_ble_eq_true rfl), (Nat.le_of_ble_eq_true rfl)⟩ nlX10_times (Nat.le_of_ble_eq_true rfl) ⟨(Nat.le_of_ble_eq_true rfl), (Nat.le_of_ble_eq_true rfl)⟩ (sp_X10_times (by omega) (hC.2.1.tf f9) h9 bb9) (fun M85 h85 => ?_)
                obtain ⟨h8, f8⟩ := h85
                replace f9 := f9.trans f8
                have hrl := (hrel_step (by omega) (by omega) b2 (hmq_rel b1 1 h00 hm0 0 (by omega) (by omega) hrel0)).congr (fun a ha => pm_hmc b2 ha)
                have e := hrel_at (a := a) (by omega) hrl (by omega)
                refine tr_goto (pc := 88) (tgt := 100) dX10_height_88 (by decide) ?_
                refine tr_aload_n (pc := 100) dX10_height_100 rfl (by decide) ?_
                refine tr_iload_n (pc := 101) dX10_height_101 rfl ?_
                refine tr_cVi1 (pc := 102) dX10_height_102 mtX10_heightAt lv10_298 rfl sg101 kc10 ⟨(Nat.le_of_ble_eq_true rfl), (Nat.le_of_ble_eq_true rfl)⟩ nlX10_heightAt (Nat.le_of_ble_eq_true rfl) ⟨(Nat.le_of_ble_eq_true rfl), (Nat.le_of_ble_eq_true rfl)⟩ (sp_X10_heightAt h8 (by omega)) (fun r102 M102 h102 => ?_)
                obtain ⟨hr102, f7⟩ := h102
                replace f9 := f9.trans f7
                replace hr102 := hr102.trans e
                obtain rfl := hr102.symm
                refine tr_ireti (pc := 105) dX10_height_105 rfl ?_
                refine ⟨?_, by first | exact fQ.rf | exact fQ.tf f9⟩
                unfold x_height
                repeat' split
                all_goals first | rfl | omega
            · skip
              refine tr_aload_n (pc := 66) dX10_height_66 rfl (by decide) ?_
              refine tr_iload_n (pc := 67) dX10_height_67 rfl ?_
              refine tr_cVi1 (pc := 68) dX10_height_68 mtX10_sumHeight lv10_310 rfl sg101 kc10 ⟨(Nat.le_of_ble_eq_true rfl), (Nat.le_of_ble_eq_true rfl)⟩ nlX10_sumHeight (Nat.le_of_ble_eq_true rfl) ⟨(Nat.le_of_ble_eq_true rfl), (Nat.le_of_ble_eq_true rfl)⟩ (sp_X10_sumHeight hC.1 hC.2.1 (by omega)) (fun r68 M68 h68 => ?_)
              obtain ⟨hr68, f9⟩ := h68
              obtain rfl := hr68.symm
              refine tr_ireti (pc := 71) dX10_height_71 rfl ?_
              refine ⟨?_, by first | exact fQ.rf | exact fQ.tf f9⟩
              unfold x_height
              repeat' split
              all_goals first | rfl | omega
          · skip
            refine tr_aload_n (pc := 54) dX10_height_54 rfl (by decide) ?_
            refine tr_iload_n (pc := 55) dX10_height_55 rfl ?_
            refine tr_iload_n (pc := 56) dX10_height_56 rfl ?_
            refine tr_cVi2 (pc := 57) dX10_height_57 mtX10_heightOf lv10_301 rfl sg101 kc10 ⟨(Nat.le_of_ble_eq_true rfl), (Nat.le_of_ble_eq_true rfl)⟩ nlX10_heightOf (Nat.le_of_ble_eq_true rfl) ⟨(Nat.le_of_ble_eq_true rfl), (Nat.le_of_ble_eq_true rfl)⟩ (sp_X10_heightOf (by omega) hsel (by omega)) (fun r57 M57 h57 => ?_)
            obtain ⟨hr57, f9⟩ := h57
            obtain rfl := hr57.symm
            refine tr_ireti (pc := 60) dX10_height_60 rfl ?_
            refine ⟨?_, by first | exact fQ.rf | exact fQ.tf f9⟩
            unfold x_height
            repeat' split
            all_goals first | rfl | omega
        · skip
          refine tr_bipush (pc := 47) dX10_height_47 ⟨by decide, ⟨by decide, by decide⟩⟩ ?_
          refine tr_ireti (pc := 49) dX10_height_49 rfl ?_
          refine ⟨?_, by first | exact fQ.rf | exact fQ.tf f9⟩
          unfold x_height
          repeat' split
          all_goals first | rfl | omega
      · skip
        refine tr_iconst (pc := 33) dX10_height_33 ⟨by decide, by decide⟩ ?_
        refine tr_ireti (pc := 34) dX10_height_34 rfl ?_
        refine ⟨?_, by first | exact fQ.rf | exact fQ.tf f9⟩
        unfold x_height
        repeat' split
        all_goals first | rfl | omega
  · skip
    refine tr_iload_n (pc := 0) dX10_height_0 rfl ?_
    refine tr_cSi1 (pc := 1) dX10_height_1 mtX10_isIdeal ls10_136 rfl ⟨(Nat.le_of_ble_eq_true rfl), (Nat.le_of_ble_eq_true rfl)⟩ nlX10_isIdeal (Nat.le_of_ble_eq_true rfl) ⟨(Nat.le_of_ble_eq_true rfl), (Nat.le_of_ble_eq_true rfl)⟩ (sp_X10_isIdeal) (fun r1 M1 h1 => ?_)
    obtain ⟨hr1, hM1⟩ := h1
    obtain rfl := hr1.symm
    obtain rfl := hM1.symm
    refine tr_ifeq (pc := 4) (tgt := 33) dX10_height_4 (by decide) (fun c4 => ?_) (fun c4 => absurd c4 (by omega))
    refine tr_iconst (pc := 33) dX10_height_33 ⟨by decide, by decide⟩ ?_
    refine tr_ireti (pc := 34) dX10_height_34 rfl ?_
    refine ⟨?_, fQ.rf⟩
    unfold x_height
    rw [if_pos (Or.inl hi)]
