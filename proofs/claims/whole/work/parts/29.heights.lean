/-- all JUMPS: terms t, t + 1 .. of a hundred, each by its JUMP -/
def jr_ga (F : List (Int × Int × Int)) : Nat → Int → List (Int × Int) → List (Int × Int)
  | 0, _, J => J
  | d + 1, t, J => jr_ga F d (t + 1) (if (hl_tgt (t / 10) (t % 10) 0 (-1, 0, 0) F).1 < 0 then J else jins ((hl_tgt (t / 10) (t % 10) 0 (-1, 0, 0) F).2.1, (hl_tgt (t / 10) (t % 10) 0 (-1, 0, 0) F).2.2) J)
theorem sp_X4_gather {G : tk_G} {M : tk_M} {F : List (Int × Int × Int)} (hF : hl_at M F) : Spv G FX4_gather [xR 94, xR 90] SF M (fun M' => jr_at M' (jr_ga F 100 0 []) ∧ (jr_ga F 100 0 []).Pairwise jr_lt ∧ tk_fr M M' 94 97) := by
  refine Spv.of _ mtX4_gather nlX4_gather (Nat.le_of_ble_eq_true rfl) ?_
  show Ok G FX4_gather 0 [xR 94, xR 90, xU, xU, xU] [] SF M 0 0 _
  have loop : ∀ (d : Nat) (t a b : Int) (J : List (Int × Int)) (M1 : tk_M) (v4 : tk_V), t + d = 100 → t = 10 * a + b → 0 ≤ a → a ≤ 9 → 0 ≤ b → b ≤ 10 → jr_at M1 J → J.Pairwise jr_lt → (J.length : Int) ≤ t → tk_fr M M1 94 97 → Ok G FX4_gather 15 [xR 94, xR 90, xI a, xI b, v4] [] SF M1 0 0 (tk_qv SF (fun M' => jr_at M' (jr_ga F d t J) ∧ (jr_ga F d t J).Pairwise jr_lt ∧ tk_fr M M' 94 97)) := by
    intro d
    induction d with
    | zero =>
      intro t a b J M1 v4 hd ht ha0 ha1 hb0 hb1 hJ hs hl hf
      refine tr_iload_n (pc := 15) dX4_gather_15 rfl ?_
      refine tr_bipush (pc := 16) dX4_gather_16 ⟨by decide, ⟨by decide, by decide⟩⟩ ?_
      refine tr_icmpgt (pc := 18) (tgt := 62) dX4_gather_18 (by decide) (fun c18 => ?_) (fun c18 => absurd c18 (by omega))
      refine tr_iinc (pc := 62) dX4_gather_62 rfl rfl ⟨by omega, by omega⟩ ?_
      dsimp only [List.set]
      refine tr_goto (pc := 65) (tgt := 7) dX4_gather_65 (by decide) ?_
      refine tr_iload_n (pc := 7) dX4_gather_7 rfl ?_
      refine tr_bipush (pc := 8) dX4_gather_8 ⟨by decide, ⟨by decide, by decide⟩⟩ ?_
      refine tr_icmpgt (pc := 10) (tgt := 68) dX4_gather_10 (by decide) (fun c10 => ?_) (fun c10 => absurd c10 (by omega))
      refine tr_vret (pc := 68) dX4_gather_68 rfl ?_
      exact ⟨hJ, hs, hf⟩
    | succ d ih =>
      have step : ∀ (t a b : Int) (J : List (Int × Int)) (M1 : tk_M) (v4 : tk_V), t + (d + 1 : Nat) = 100 → t = 10 * a + b → 0 ≤ a → a ≤ 9 → 0 ≤ b → b ≤ 9 → jr_at M1 J → J.Pairwise jr_lt → (J.length : Int) ≤ t → tk_fr M M1 94 97 → Ok G FX4_gather 15 [xR 94, xR 90, xI a, xI b, v4] [] SF M1 0 0 (tk_qv SF (fun M' => jr_at M' (jr_ga F (d + 1) t J) ∧ (jr_ga F (d + 1) t J).Pairwise jr_lt ∧ tk_fr M M' 94 97)) := by
        intro t a b J M1 v4 hd ht ha0 ha1 hb0 hb1 hJ hs hl hf
        have hF1 : hl_at M1 F := hF.frame (fun c h1 h2 => hf c (by omega))
        have ea : t / 10 = a := by omega
        have eb : t % 10 = b := by omega
        have hlJ := hJ.len
        have hlF := hF1.len
        unfold jr_ga
        rw [ea, eb]
        have hz := hl_tgt_at (a := a) (b := b) F 0 (-1, 0, 0) (by omega) (Or.inl rfl) hF1.1
        generalize hzz : hl_tgt a b 0 (-1, 0, 0) F = z at hz ⊢
        refine tr_iload_n (pc := 15) dX4_gather_15 rfl ?_
        refine tr_bipush (pc := 16) dX4_gather_16 ⟨by decide, ⟨by decide, by decide⟩⟩ ?_
        refine tr_icmpgt (pc := 18) (tgt := 62) dX4_gather_18 (by decide) (fun c18 => absurd c18 (by omega)) (fun c18 => ?_)
        refine tr_aload_n (pc := 21) dX4_gather_21 rfl (by decide) ?_
        refine tr_iload_n (pc := 22) dX4_gather_22 rfl ?_
        refine tr_iload_n (pc := 23) dX4_gather_23 rfl ?_
        refine tr_cVi2 (pc := 24) dX4_gather_24 mtX2_tightest lv4_22 rfl sg90 kc2 ⟨(Nat.le_of_ble_eq_true rfl), (Nat.le_of_ble_eq_true rfl)⟩ nlX2_tightest (Nat.le_of_ble_eq_true rfl) ⟨(Nat.le_of_ble_eq_true rfl), (Nat.le_of_ble_eq_true rfl)⟩ (sp_X2_tightest hF1 (by omega) (by omega)) (fun r24 M24 h24 => ?_)
        obtain ⟨hr24, hM24⟩ := h24
        rw [hzz] at hr24
        obtain rfl := hr24.symm
        obtain rfl := hM24.symm
        refine tr_istore (pc := 27) dX4_gather_27 rfl (Nat.le_of_ble_eq_true rfl) ?_
        dsimp only [List.set]
        refine tr_iload (pc := 29) dX4_gather_29 rfl ?_
        refine tr_iflt (pc := 31) (tgt := 56) dX4_gather_31 (by decide) (fun c31 => ?_) (fun c31 => ?_)
        · skip
          refine tr_iinc (pc := 56) dX4_gather_56 rfl rfl ⟨by omega, by omega⟩ ?_
          dsimp only [List.set]
          refine tr_goto (pc := 59) (tgt := 15) dX4_gather_59 (by decide) ?_
          first
          | rw [if_pos (by omega)]
            exact ih (t + 1) a (b + 1) J M1 _ (by omega) (by omega) (by omega) (by omega) (by omega) (by omega) hJ hs (by omega) hf
          | rw [if_neg (by omega)]
            exact ih (t + 1) a (b + 1) _ _ _ (by omega) (by omega) (by omega) (by omega) (by omega) (by omega) hJ2 (jins_srt (by show 0 < z.2.2; omega) J (jr_seg_pos J 0 hJ.1) hs) (by omega) (hf.trans hf2)
        · skip
          obtain ⟨z0, z1, zw, zl, zp⟩ := hz.resolve_left (by omega)
          obtain ⟨-, u1, u2, u3⟩ := hl_seg_get F 0 z.1 hF1.1 z0 z1
          have m1 := mulb (y := a + 1) (Y := 10) u1.1 u1.2 (by omega) (by omega)
          have m2 := mulb (y := b + 1) (Y := 10) u2.1 u2.2 (by omega) (by omega)
          refine tr_aload_n (pc := 34) dX4_gather_34 rfl (by decide) ?_
          refine tr_aload_n (pc := 35) dX4_gather_35 rfl (by decide) ?_
          refine tr_iload (pc := 36) dX4_gather_36 rfl ?_
          refine tr_iload_n (pc := 38) dX4_gather_38 rfl ?_
          refine tr_iconst (pc := 39) dX4_gather_39 ⟨by decide, by decide⟩ ?_
          refine tr_iadd (pc := 40) dX4_gather_40 ⟨by omega, by omega⟩ ?_
          refine tr_iload_n (pc := 41) dX4_gather_41 rfl ?_
          refine tr_iconst (pc := 42) dX4_gather_42 ⟨by decide, by decide⟩ ?_
          refine tr_iadd (pc := 43) dX4_gather_43 ⟨by omega, by omega⟩ ?_
          refine tr_cVi3 (pc := 44) dX4_gather_44 mtX2_weigh lv4_28 rfl sg90 kc2 ⟨(Nat.le_of_ble_eq_true rfl), (Nat.le_of_ble_eq_true rfl)⟩ nlX2_weigh (Nat.le_of_ble_eq_true rfl) ⟨(Nat.le_of_ble_eq_true rfl), (Nat.le_of_ble_eq_true rfl)⟩ (sp_X2_weigh hF1 z0 z1 (by omega) (by omega)) (fun r44 M44 h44 => ?_)
          rw [zw] at h44
          obtain ⟨hr44, hM44⟩ := h44
          obtain rfl := hr44.symm
          obtain rfl := hM44.symm
          refine tr_aload_n (pc := 47) dX4_gather_47 rfl (by decide) ?_
          refine tr_iload (pc := 48) dX4_gather_48 rfl ?_
          refine tr_cVi1 (pc := 50) dX4_gather_50 mtX2_level lv4_32 rfl sg90 kc2 ⟨(Nat.le_of_ble_eq_true rfl), (Nat.le_of_ble_eq_true rfl)⟩ nlX2_level (Nat.le_of_ble_eq_true rfl) ⟨(Nat.le_of_ble_eq_true rfl), (Nat.le_of_ble_eq_true rfl)⟩ (sp_X2_level hF1.2 z0 z1) (fun r50 M50 h50 => ?_)
          rw [zl] at h50
          obtain ⟨hr50, hM50⟩ := h50
          obtain rfl := hr50.symm
          obtain rfl := hM50.symm
          refine tr_cVv2 (pc := 53) dX4_gather_53 mtX4_insert lv4_36 rfl sg94 kc4 ⟨(Nat.le_of_ble_eq_true rfl), (Nat.le_of_ble_eq_true rfl)⟩ nlX4_insert (Nat.le_of_ble_eq_true rfl) ⟨(Nat.le_of_ble_eq_true rfl), (Nat.le_of_ble_eq_true rfl)⟩ (sp_X4_insert hJ hs (by omega) (by omega) (by omega)) (fun M53 h53 => ?_)
          obtain ⟨hJ2, hf2⟩ := h53
          have hjl := jins_len (z.2.1, z.2.2) J
          refine tr_iinc (pc := 56) dX4_gather_56 rfl rfl ⟨by omega, by omega⟩ ?_
          dsimp only [List.set]
          refine tr_goto (pc := 59) (tgt := 15) dX4_gather_59 (by decide) ?_
          first
          | rw [if_pos (by omega)]
            exact ih (t + 1) a (b + 1) J M1 _ (by omega) (by omega) (by omega) (by omega) (by omega) (by omega) hJ hs (by omega) hf
          | rw [if_neg (by omega)]
            exact ih (t + 1) a (b + 1) _ _ _ (by omega) (by omega) (by omega) (by omega) (by omega) (by omega) hJ2 (jins_srt (by show 0 < z.2.2; omega) J (jr_seg_pos J 0 hJ.1) hs) (by omega) (hf.trans hf2)
      intro t a b J M1 v4 hd ht ha0 ha1 hb0 hb1 hJ hs hl hf
      by_cases hb : b ≤ 9
      · exact step t a b J M1 v4 hd ht ha0 ha1 hb0 hb hJ hs hl hf
      · skip
        refine tr_iload_n (pc := 15) dX4_gather_15 rfl ?_
        refine tr_bipush (pc := 16) dX4_gather_16 ⟨by decide, ⟨by decide, by decide⟩⟩ ?_
        refine tr_icmpgt (pc := 18) (tgt := 62) dX4_gather_18 (by decide) (fun c18 => ?_) (fun c18 => absurd c18 (by omega))
        refine tr_iinc (pc := 62) dX4_gather_62 rfl rfl ⟨by omega, by omega⟩ ?_
        dsimp only [List.set]
        refine tr_goto (pc := 65) (tgt := 7) dX4_gather_65 (by decide) ?_
        refine tr_iload_n (pc := 7) dX4_gather_7 rfl ?_
        refine tr_bipush (pc := 8) dX4_gather_8 ⟨by decide, ⟨by decide, by decide⟩⟩ ?_
        refine tr_icmpgt (pc := 10) (tgt := 68) dX4_gather_10 (by decide) (fun c10 => absurd c10 (by omega)) (fun c10 => ?_)
        refine tr_iconst (pc := 13) dX4_gather_13 ⟨by decide, by decide⟩ ?_
        refine tr_istore_n (pc := 14) dX4_gather_14 rfl (Nat.le_of_ble_eq_true rfl) ?_
        dsimp only [List.set]
        exact step t (a + 1) 0 J M1 v4 hd (by omega) (by omega) (by omega) (by omega) (by omega) hJ hs hl hf
  have h0 : jr_at (tk_mu M 94 2 0) [] := by unfold jr_at; rw [tk_mu_at]; exact ⟨rfl, by omega⟩
  refine tr_aload_n (pc := 0) dX4_gather_0 rfl (by decide) ?_
  refine tr_iconst (pc := 1) dX4_gather_1 ⟨by decide, by decide⟩ ?_
  refine tr_puti (pc := 2) (ji := 2) dX4_gather_2 fi4_18 rfl (Or.inl rfl) (Or.inl rfl) sg94 rfl ?_
  refine tr_iconst (pc := 5) dX4_gather_5 ⟨by decide, by decide⟩ ?_
  refine tr_istore_n (pc := 6) dX4_gather_6 rfl (Nat.le_of_ble_eq_true rfl) ?_
  dsimp only [List.set]
  refine tr_iload_n (pc := 7) dX4_gather_7 rfl ?_
  refine tr_bipush (pc := 8) dX4_gather_8 ⟨by decide, ⟨by decide, by decide⟩⟩ ?_
  refine tr_icmpgt (pc := 10) (tgt := 68) dX4_gather_10 (by decide) (fun c10 => absurd c10 (by omega)) (fun c10 => ?_)
  refine tr_iconst (pc := 13) dX4_gather_13 ⟨by decide, by decide⟩ ?_
  refine tr_istore_n (pc := 14) dX4_gather_14 rfl (Nat.le_of_ble_eq_true rfl) ?_
  dsimp only [List.set]
  exact loop 100 0 0 0 [] _ xU (by omega) (by omega) (by omega) (by omega) (by omega) (by omega) h0 List.Pairwise.nil (by simp) (tk_fr.rf.mu (by omega) (by omega))
/-- Heights: kind 1 at h, sixty-one ints behind it -/
def ht_s (h : Int) : Prop := 0 ≤ h ∧ tk_sg SF h = some (1, 1, [h + 1]) ∧ tk_sg SF (h + 1) = some (20, 61, [])
theorem ht_s97 : ht_s 97 := ⟨by decide, sg97, sg98⟩
theorem ht_s99 : ht_s 99 := ⟨by decide, sg99, sg100⟩
def ht_at (M : tk_M) (h : Int) (f : Int → Int) : Prop := ∀ a, 0 ≤ a → a ≤ 60 → M (h + 1) a = f a
theorem sp_X1_ofAllTerms {G : tk_G} {M : tk_M} {h : Int} (hh : ht_s h) : Spv G FX1_ofAllTerms [xR h] SF M (fun M' => ht_at M' h (fun _ => 0) ∧ tk_fr M M' h (h + 2)) := by
  obtain ⟨h0, s0, s1⟩ := hh
  refine Spv.of _ mtX1_ofAllTerms nlX1_ofAllTerms (Nat.le_of_ble_eq_true rfl) ?_
  show Ok G FX1_ofAllTerms 0 [xR h, xU] [] SF M 0 0 _
  have loop : ∀ (d : Nat) (k : Int) (M1 : tk_M), k + d = 61 → 0 ≤ k → (∀ a, 0 ≤ a → a < k → M1 (h + 1) a = 0) → tk_fr M M1 h (h + 2) → Ok G FX1_ofAllTerms 2 [xR h, xI k] [] SF M1 0 0 (tk_qv SF (fun M' => ht_at M' h (fun _ => 0) ∧ tk_fr M M' h (h + 2))) := by
    intro d
    induction d with
    | zero =>
      intro k M1 hd hk ha hf
      refine tr_iload_n (pc := 2) dX1_ofAllTerms_2 rfl ?_
      refine tr_bipush (pc := 3) dX1_ofAllTerms_3 ⟨by decide, ⟨by decide, by decide⟩⟩ ?_
      refine tr_icmpgt (pc := 5) (tgt := 21) dX1_ofAllTerms_5 (by decide) (fun c5 => ?_) (fun c5 => absurd c5 (by omega))
      refine tr_vret (pc := 21) dX1_ofAllTerms_21 rfl ?_
      exact ⟨fun a a0 a1 => ha a a0 (by omega), hf⟩
    | succ d ih =>
      intro k M1 hd hk ha hf
      refine tr_iload_n (pc := 2) dX1_ofAllTerms_2 rfl ?_
      refine tr_bipush (pc := 3) dX1_ofAllTerms_3 ⟨by decide, ⟨by decide, by decide⟩⟩ ?_
      refine tr_icmpgt (pc := 5) (tgt := 21) dX1_ofAllTerms_5 (by decide) (fun c5 => absurd c5 (by omega)) (fun c5 => ?_)
      refine tr_aload_n (pc := 8) dX1_ofAllTerms_8 rfl (by omega) ?_
      refine tr_getr (pc := 9) (x := h + 1) dX1_ofAllTerms_9 fi1_9 rfl (by assumption) rfl ?_
      refine tr_iload_n (pc := 12) dX1_ofAllTerms_12 rfl ?_
      refine tr_iconst (pc := 13) dX1_ofAllTerms_13 ⟨by decide, by decide⟩ ?_
      refine tr_iast (pc := 14) dX1_ofAllTerms_14 (by assumption) (by omega) (by omega) ?_
      refine tr_iinc (pc := 15) dX1_ofAllTerms_15 rfl rfl ⟨by omega, by omega⟩ ?_
      dsimp only [List.set]
      refine tr_goto (pc := 18) (tgt := 2) dX1_ofAllTerms_18 (by decide) ?_
      refine ih (k + 1) _ (by omega) (by omega) (fun a a0 a1 => ?_) (hf.mu (by omega) (by omega))
      by_cases hk2 : a = k
      · subst hk2; exact tk_mu_at _ _ _ _
      · rw [tk_mu_i hk2]; exact ha a a0 (by omega)
  refine tr_iconst (pc := 0) dX1_ofAllTerms_0 ⟨by decide, by decide⟩ ?_
  refine tr_istore_n (pc := 1) dX1_ofAllTerms_1 rfl (Nat.le_of_ble_eq_true rfl) ?_
  dsimp only [List.set]
  exact loop 61 0 M (by omega) (by omega) (fun a h1 h2 => by omega) tk_fr.rf
/-- a HEIGHT of the PRODUCT with an IDEAL -/
def ht_m (f : Int → Int) (a : Int) : Int → List (Int × Int) → Int
  | acc, [] => acc
  | acc, (p, q) :: t => ht_m f a (if 0 ≤ a - p ∧ a - p ≤ a then min acc (f (a - p) + q) else acc) t
theorem ht_m_bd {f : Int → Int} {a : Int} (hf : ∀ i, 0 ≤ i → i ≤ 60 → 0 ≤ f i) (ha : 0 ≤ a ∧ a ≤ 60) : ∀ (g : List (Int × Int)) (acc : Int), (∀ q ∈ g, 0 ≤ q.1 ∧ q.1 ≤ 9 ∧ 0 ≤ q.2 ∧ q.2 ≤ 9) → 0 ≤ acc → 0 ≤ ht_m f a acc g ∧ ht_m f a acc g ≤ acc := by
  intro g
  induction g with
  | nil => intro acc _ h; exact ⟨h, Int.le_refl _⟩
  | cons q t ih =>
    intro acc hb h
    obtain ⟨p, q⟩ := q
    have hq : 0 ≤ p ∧ p ≤ 9 ∧ 0 ≤ q ∧ q ≤ 9 := hb (p, q) List.mem_cons_self
    unfold ht_m
    by_cases h5 : 0 ≤ a - p ∧ a - p ≤ a
    · rw [if_pos h5]
      have := hf (a - p) h5.1 (by omega)
      have h1 := ih (min acc (f (a - p) + q)) (fun z hz => hb z (List.mem_cons_of_mem _ hz)) (by omega)
      omega
    · rw [if_neg h5]
      exact ih acc (fun z hz => hb z (List.mem_cons_of_mem _ hz)) h
theorem sp_X1_multiply {G : tk_G} {M : tk_M} {h r : Int} {f : Int → Int} {g : List (Int × Int)} (hh : ht_s h) (hr : ig_s r) (hap : r + 3 ≤ h ∨ h + 2 ≤ r) (hf : ht_at M h f) (hfb : ∀ i, 0 ≤ i → i ≤ 60 → 0 ≤ f i ∧ f i ≤ 1000000) (hg : ig_at M r g) : Spv G FX1_multiply [xR h, xR r] SF M (fun M' => ht_at M' h (fun a => ht_m f a 1000000 g) ∧ tk_fr M M' h (h + 2)) := by
  have hr' := hr
  obtain ⟨r0, q0, q1, q2⟩ := hr
  obtain ⟨h0, s0, s1⟩ := hh
  have hbd := hg.bd
  refine Spv.of _ mtX1_multiply nlX1_multiply (Nat.le_of_ble_eq_true rfl) ?_
  show Ok G FX1_multiply 0 [xR h, xR r, xU, xU, xU, xU] [] SF M 0 0 _
  have loop : ∀ (d : Nat) (a : Int) (M1 : tk_M) (v3 v4 v5 : tk_V), a + 1 = d → a ≤ 60 → (∀ i, 0 ≤ i → i ≤ a → M1 (h + 1) i = f i) → (∀ i, a < i → i ≤ 60 → M1 (h + 1) i = ht_m f i 1000000 g) → tk_fr M M1 h (h + 2) → Ok G FX1_multiply 3 [xR h, xR r, xI a, v3, v4, v5] [] SF M1 0 0 (tk_qv SF (fun M' => ht_at M' h (fun a => ht_m f a 1000000 g) ∧ tk_fr M M' h (h + 2))) := by
    intro d
    induction d with
    | zero =>
      intro a M1 v3 v4 v5 hd ha a1 a2 hfr
      refine tr_iload_n (pc := 3) dX1_multiply_3 rfl ?_
      refine tr_iflt (pc := 4) (tgt := 81) dX1_multiply_4 (by decide) (fun c4 => ?_) (fun c4 => absurd c4 (by omega))
      refine tr_vret (pc := 81) dX1_multiply_81 rfl ?_
      exact ⟨fun i i0 i1 => a2 i (by omega) i1, hfr⟩
    | succ d ih =>
      intro a M1 v3 v4 v5 hd ha a1 a2 hfr
      have hg1 : ig_at M1 r g := hg.frame hfr (by omega)
      have h6 := hg1.2
      have hln := hg1.len
      have inner : ∀ (g' : List (Int × Int)) (k acc : Int) (v5 : tk_V), 0 ≤ k → 0 ≤ acc → acc ≤ 1000000 → ht_m f a 1000000 g = ht_m f a acc g' → ig_seg (M1 (r + 1)) (M1 (r + 2)) (M1 r 2) k g' → Ok G FX1_multiply 13 [xR h, xR r, xI a, xI acc, xI k, v5] [] SF M1 0 0 (tk_qv SF (fun M' => ht_at M' h (fun a => ht_m f a 1000000 g) ∧ tk_fr M M' h (h + 2))) := by
        intro g'
        induction g' with
        | nil =>
          intro k acc v5 hk hc0 hc1 hE hs
          have hs : k = M1 r 2 := hs
          have hE : ht_m f a 1000000 g = acc := hE
          refine tr_iload (pc := 13) dX1_multiply_13 rfl ?_
          refine tr_aload_n (pc := 15) dX1_multiply_15 rfl (by omega) ?_
          refine tr_cVi0 (pc := 16) dX1_multiply_16 mtX3_size lv1_16 rfl (by assumption) kc3 ⟨(Nat.le_of_ble_eq_true rfl), (Nat.le_of_ble_eq_true rfl)⟩ nlX3_size (Nat.le_of_ble_eq_true rfl) ⟨(Nat.le_of_ble_eq_true rfl), (Nat.le_of_ble_eq_true rfl)⟩ (sp_X3_size hr') (fun r16 M16 h16 => ?_)
          obtain ⟨hr16, hM16⟩ := h16
          obtain rfl := hr16.symm
          obtain rfl := hM16.symm
          refine tr_icmpge (pc := 19) (tgt := 68) dX1_multiply_19 (by decide) (fun c19 => ?_) (fun c19 => absurd c19 (by omega))
          refine tr_aload_n (pc := 68) dX1_multiply_68 rfl (by omega) ?_
          refine tr_getr (pc := 69) (x := h + 1) dX1_multiply_69 fi1_9 rfl (by assumption) rfl ?_
          refine tr_iload_n (pc := 72) dX1_multiply_72 rfl ?_
          refine tr_iload_n (pc := 73) dX1_multiply_73 rfl ?_
          refine tr_iast (pc := 74) dX1_multiply_74 (by assumption) (by omega) (by omega) ?_
          refine tr_iinc (pc := 75) dX1_multiply_75 rfl rfl ⟨by omega, by omega⟩ ?_
          dsimp only [List.set]
          refine tr_goto (pc := 78) (tgt := 3) dX1_multiply_78 (by decide) ?_
          refine ih (a + -1) _ _ _ _ (by omega) (by omega) (fun i i0 i1 => ?_) (fun i i0 i1 => ?_) (hfr.mu (by omega) (by omega))
          · rw [tk_mu_i (by omega)]; exact a1 i i0 (by omega)
          · by_cases hi : i = a
            · subst hi; rw [tk_mu_at]; exact hE.symm
            · rw [tk_mu_i hi]; exact a2 i (by omega) i1
        | cons q t ih2 =>
          intro k acc v5 hk hc0 hc1 hE hs
          obtain ⟨p, q⟩ := q
          obtain ⟨e1, e2, b1, b2, b3, b4, hlt, hs⟩ := hs
          replace hE : ht_m f a 1000000 g = ht_m f a (if 0 ≤ a - p ∧ a - p ≤ a then min acc (f (a - p) + q) else acc) t := hE
          refine tr_iload (pc := 13) dX1_multiply_13 rfl ?_
          refine tr_aload_n (pc := 15) dX1_multiply_15 rfl (by omega) ?_
          refine tr_cVi0 (pc := 16) dX1_multiply_16 mtX3_size lv1_16 rfl (by assumption) kc3 ⟨(Nat.le_of_ble_eq_true rfl), (Nat.le_of_ble_eq_true rfl)⟩ nlX3_size (Nat.le_of_ble_eq_true rfl) ⟨(Nat.le_of_ble_eq_true rfl), (Nat.le_of_ble_eq_true rfl)⟩ (sp_X3_size hr') (fun r16 M16 h16 => ?_)
          obtain ⟨hr16, hM16⟩ := h16
          obtain rfl := hr16.symm
          obtain rfl := hM16.symm
          refine tr_icmpge (pc := 19) (tgt := 68) dX1_multiply_19 (by decide) (fun c19 => absurd c19 (by omega)) (fun c19 => ?_)
          refine tr_iload_n (pc := 22) dX1_multiply_22 rfl ?_
          refine tr_aload_n (pc := 23) dX1_multiply_23 rfl (by omega) ?_
          refine tr_iload (pc := 24) dX1_multiply_24 rfl ?_
          refine tr_cVi1 (pc := 26) dX1_multiply_26 mtX3_powerA lv1_22 rfl (by assumption) kc3 ⟨(Nat.le_of_ble_eq_true rfl), (Nat.le_of_ble_eq_true rfl)⟩ nlX3_powerA (Nat.le_of_ble_eq_true rfl) ⟨(Nat.le_of_ble_eq_true rfl), (Nat.le_of_ble_eq_true rfl)⟩ (sp_X3_powerA hr' h6) (fun r26 M26 h26 => ?_)
          rw [if_pos ⟨hk, hlt⟩, e1] at h26
          obtain ⟨hr26, hM26⟩ := h26
          obtain rfl := hr26.symm
          obtain rfl := hM26.symm
          refine tr_isub (pc := 29) dX1_multiply_29 ⟨by omega, by omega⟩ ?_
          refine tr_istore (pc := 30) dX1_multiply_30 rfl (Nat.le_of_ble_eq_true rfl) ?_
          dsimp only [List.set]
          refine tr_iload (pc := 32) dX1_multiply_32 rfl ?_
          refine tr_iflt (pc := 34) (tgt := 62) dX1_multiply_34 (by decide) (fun c34 => ?_) (fun c34 => ?_)
          · skip
            refine tr_iinc (pc := 62) dX1_multiply_62 rfl rfl ⟨by omega, by omega⟩ ?_
            dsimp only [List.set]
            refine tr_goto (pc := 65) (tgt := 13) dX1_multiply_65 (by decide) ?_
            first
            | rw [if_neg (by omega)] at hE
              exact ih2 (k + 1) acc _ (by omega) hc0 hc1 hE hs
            | rw [if_pos (by omega)] at hE
              exact ih2 (k + 1) _ _ (by omega) (by omega) (by omega) hE hs
          · skip
            refine tr_iload (pc := 37) dX1_multiply_37 rfl ?_
            refine tr_iload_n (pc := 39) dX1_multiply_39 rfl ?_
            refine tr_icmpgt (pc := 40) (tgt := 62) dX1_multiply_40 (by decide) (fun c40 => absurd c40 (by omega)) (fun c40 => ?_)
            have hfa := hfb (a - p) (by omega) (by omega)
            refine tr_iload_n (pc := 43) dX1_multiply_43 rfl ?_
            refine tr_aload_n (pc := 44) dX1_multiply_44 rfl (by omega) ?_
            refine tr_getr (pc := 45) (x := h + 1) dX1_multiply_45 fi1_9 rfl (by assumption) rfl ?_
            refine tr_iload (pc := 48) dX1_multiply_48 rfl ?_
            refine tr_ialdv (pc := 50) (x := f (a - p)) dX1_multiply_50 (by assumption) (by omega) (by omega) (a1 (a - p) (by omega) (by omega)) ?_
            refine tr_aload_n (pc := 51) dX1_multiply_51 rfl (by omega) ?_
            refine tr_iload (pc := 52) dX1_multiply_52 rfl ?_
            refine tr_cVi1 (pc := 54) dX1_multiply_54 mtX3_powerB lv1_26 rfl (by assumption) kc3 ⟨(Nat.le_of_ble_eq_true rfl), (Nat.le_of_ble_eq_true rfl)⟩ nlX3_powerB (Nat.le_of_ble_eq_true rfl) ⟨(Nat.le_of_ble_eq_true rfl), (Nat.le_of_ble_eq_true rfl)⟩ (sp_X3_powerB hr' h6) (fun r54 M54 h54 => ?_)
            rw [if_pos ⟨hk, hlt⟩, e2] at h54
            obtain ⟨hr54, hM54⟩ := h54
            obtain rfl := hr54.symm
            obtain rfl := hM54.symm
            refine tr_iadd (pc := 57) dX1_multiply_57 ⟨by omega, by omega⟩ ?_
            refine tr_min (pc := 58) dX1_multiply_58 mm1_29 rfl (Nat.le_of_ble_eq_true rfl) (Nat.le_of_ble_eq_true rfl) ⟨(Nat.le_of_ble_eq_true rfl), (Nat.le_of_ble_eq_true rfl)⟩ ?_
            refine tr_istore_n (pc := 61) dX1_multiply_61 rfl (Nat.le_of_ble_eq_true rfl) ?_
            dsimp only [List.set]
            refine tr_iinc (pc := 62) dX1_multiply_62 rfl rfl ⟨by omega, by omega⟩ ?_
            dsimp only [List.set]
            refine tr_goto (pc := 65) (tgt := 13) dX1_multiply_65 (by decide) ?_
            first
            | rw [if_neg (by omega)] at hE
              exact ih2 (k + 1) acc _ (by omega) hc0 hc1 hE hs
            | rw [if_pos (by omega)] at hE
              exact ih2 (k + 1) _ _ (by omega) (by omega) (by omega) hE hs
      refine tr_iload_n (pc := 3) dX1_multiply_3 rfl ?_
      refine tr_iflt (pc := 4) (tgt := 81) dX1_multiply_4 (by decide) (fun c4 => absurd c4 (by omega)) (fun c4 => ?_)
      refine tr_ldc (pc := 7) dX1_multiply_7 kn1_15 ⟨by decide, by decide⟩ ?_
      refine tr_istore_n (pc := 9) dX1_multiply_9 rfl (Nat.le_of_ble_eq_true rfl) ?_
      dsimp only [List.set]
      refine tr_iconst (pc := 10) dX1_multiply_10 ⟨by decide, by decide⟩ ?_
      refine tr_istore (pc := 11) dX1_multiply_11 rfl (Nat.le_of_ble_eq_true rfl) ?_
      dsimp only [List.set]
      exact inner g 0 1000000 _ (by omega) (by omega) (by omega) rfl hg1.1
  refine tr_bipush (pc := 0) dX1_multiply_0 ⟨by decide, ⟨by decide, by decide⟩⟩ ?_
  refine tr_istore_n (pc := 2) dX1_multiply_2 rfl (Nat.le_of_ble_eq_true rfl) ?_
  dsimp only [List.set]
  exact loop 61 60 M xU xU xU (by omega) (by omega) (fun i i0 i1 => hf i i0 i1) (fun i i0 i1 => by omega) tk_fr.rf
theorem sp_X1_at {G : tk_G} {M : tk_M} {h a : Int} {f : Int → Int} (hh : ht_s h) (hf : ht_at M h f) (a0 : 0 ≤ a) (a1 : a ≤ 60) : Spi G FX1_at [xR h, xI a] SF M (fun v M' => v = (if f a < 1000000 then f a else -5) ∧ M' = M) := by
  obtain ⟨h0, s0, s1⟩ := hh
  have e := hf a a0 a1
  refine Spi.of _ mtX1_at nlX1_at (Nat.le_of_ble_eq_true rfl) ?_
  show Ok G FX1_at 0 [xR h, xI a] [] SF M 0 0 _
  refine tr_iload_n (pc := 0) dX1_at_0 rfl ?_
  refine tr_iflt (pc := 1) (tgt := 30) dX1_at_1 (by decide) (fun c1 => absurd c1 (by omega)) (fun c1 => ?_)
  refine tr_iload_n (pc := 4) dX1_at_4 rfl ?_
  refine tr_bipush (pc := 5) dX1_at_5 ⟨by decide, ⟨by decide, by decide⟩⟩ ?_
  refine tr_icmpgt (pc := 7) (tgt := 30) dX1_at_7 (by decide) (fun c7 => absurd c7 (by omega)) (fun c7 => ?_)
  refine tr_aload_n (pc := 10) dX1_at_10 rfl (by omega) ?_
  refine tr_getr (pc := 11) (x := h + 1) dX1_at_11 fi1_9 rfl (by assumption) rfl ?_
  refine tr_iload_n (pc := 14) dX1_at_14 rfl ?_
  refine tr_ialdv (pc := 15) (x := f a) dX1_at_15 (by assumption) (by omega) (by omega) (e) ?_
  refine tr_ldc (pc := 16) dX1_at_16 kn1_15 ⟨by decide, by decide⟩ ?_
  refine tr_icmpge (pc := 18) (tgt := 30) dX1_at_18 (by decide) (fun c18 => ?_) (fun c18 => ?_)
  · skip
    refine tr_bipush (pc := 30) dX1_at_30 ⟨by decide, ⟨by decide, by decide⟩⟩ ?_
    refine tr_ireti (pc := 32) dX1_at_32 rfl ?_
    exact ⟨by split <;> omega, rfl⟩
  · skip
    refine tr_aload_n (pc := 21) dX1_at_21 rfl (by omega) ?_
    refine tr_getr (pc := 22) (x := h + 1) dX1_at_22 fi1_9 rfl (by assumption) rfl ?_
    refine tr_iload_n (pc := 25) dX1_at_25 rfl ?_
    refine tr_ialdv (pc := 26) (x := f a) dX1_at_26 (by assumption) (by omega) (by omega) (e) ?_
    refine tr_goto (pc := 27) (tgt := 32) dX1_at_27 (by decide) ?_
    refine tr_ireti (pc := 32) dX1_at_32 rfl ?_
    exact ⟨by split <;> omega, rfl⟩
theorem sp_X1_isLike {G : tk_G} {M : tk_M} {h z : Int} {f f' : Int → Int} (hh : ht_s h) (hz : ht_s z) (hf : ht_at M h f) (hf' : ht_at M z f') : Spi G FX1_isLike [xR h, xR z] SF M (fun v M' => ((v = 1 ∧ ∀ a, 0 ≤ a → a ≤ 60 → f a = f' a) ∨ (v = 0 ∧ ¬ ∀ a, 0 ≤ a → a ≤ 60 → f a = f' a)) ∧ M' = M) := by
  obtain ⟨h0, s0, s1⟩ := hh
  obtain ⟨z0, t0, t1⟩ := hz
  refine Spi.of _ mtX1_isLike nlX1_isLike (Nat.le_of_ble_eq_true rfl) ?_
  show Ok G FX1_isLike 0 [xR h, xR z, xU] [] SF M 0 0 _
  have loop : ∀ (d : Nat) (k : Int), k + d = 61 → 0 ≤ k → (∀ a, 0 ≤ a → a < k → f a = f' a) → Ok G FX1_isLike 2 [xR h, xR z, xI k] [] SF M 0 0 (tk_qi SF (fun v M' => ((v = 1 ∧ ∀ a, 0 ≤ a → a ≤ 60 → f a = f' a) ∨ (v = 0 ∧ ¬ ∀ a, 0 ≤ a → a ≤ 60 → f a = f' a)) ∧ M' = M)) := by
    intro d
    induction d with
    | zero =>
      intro k hd hk ha
      refine tr_iload_n (pc := 2) dX1_isLike_2 rfl ?_
      refine tr_bipush (pc := 3) dX1_isLike_3 ⟨by decide, ⟨by decide, by decide⟩⟩ ?_
      refine tr_icmpgt (pc := 5) (tgt := 31) dX1_isLike_5 (by decide) (fun c5 => ?_) (fun c5 => absurd c5 (by omega))
      refine tr_iconst (pc := 31) dX1_isLike_31 ⟨by decide, by decide⟩ ?_
      refine tr_iretz (pc := 32) dX1_isLike_32 rfl (by omega) ?_
      exact ⟨Or.inl ⟨rfl, fun a a0 a1 => ha a a0 (by omega)⟩, rfl⟩
    | succ d ih =>
      intro k hd hk ha
      have e1 := hf k hk (by omega)
      have e2 := hf' k hk (by omega)
      refine tr_iload_n (pc := 2) dX1_isLike_2 rfl ?_
      refine tr_bipush (pc := 3) dX1_isLike_3 ⟨by decide, ⟨by decide, by decide⟩⟩ ?_
      refine tr_icmpgt (pc := 5) (tgt := 31) dX1_isLike_5 (by decide) (fun c5 => absurd c5 (by omega)) (fun c5 => ?_)
      refine tr_aload_n (pc := 8) dX1_isLike_8 rfl (by omega) ?_
      refine tr_getr (pc := 9) (x := h + 1) dX1_isLike_9 fi1_9 rfl (by assumption) rfl ?_
      refine tr_iload_n (pc := 12) dX1_isLike_12 rfl ?_
      refine tr_ialdv (pc := 13) (x := f k) dX1_isLike_13 (by assumption) (by omega) (by omega) (e1) ?_
      refine tr_aload_n (pc := 14) dX1_isLike_14 rfl (by omega) ?_
      refine tr_getr (pc := 15) (x := z + 1) dX1_isLike_15 fi1_9 rfl (by assumption) rfl ?_
      refine tr_iload_n (pc := 18) dX1_isLike_18 rfl ?_
      refine tr_ialdv (pc := 19) (x := f' k) dX1_isLike_19 (by assumption) (by omega) (by omega) (e2) ?_
      refine tr_icmpeq (pc := 20) (tgt := 25) dX1_isLike_20 (by decide) (fun c20 => ?_) (fun c20 => ?_)
      · skip
        refine tr_iinc (pc := 25) dX1_isLike_25 rfl rfl ⟨by omega, by omega⟩ ?_
        dsimp only [List.set]
        refine tr_goto (pc := 28) (tgt := 2) dX1_isLike_28 (by decide) ?_
        refine ih (k + 1) (by omega) (by omega) (fun a a0 a1 => ?_)
        by_cases hk2 : a = k
        · subst hk2; assumption
        · exact ha a a0 (by omega)
      · skip
        refine tr_iconst (pc := 23) dX1_isLike_23 ⟨by decide, by decide⟩ ?_
        refine tr_iretz (pc := 24) dX1_isLike_24 rfl (by omega) ?_
        exact ⟨Or.inr ⟨rfl, fun hq => absurd (hq k hk (by omega)) (by assumption)⟩, rfl⟩
  refine tr_iconst (pc := 0) dX1_isLike_0 ⟨by decide, by decide⟩ ?_
  refine tr_istore_n (pc := 1) dX1_isLike_1 rfl (Nat.le_of_ble_eq_true rfl) ?_
  dsimp only [List.set]
  exact loop 61 0 (by omega) (by omega) (fun a h1 h2 => by omega)
