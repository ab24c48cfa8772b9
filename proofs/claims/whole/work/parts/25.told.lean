/-- Told: kind 8 at t, its two Ideals, its three Rows behind it -/
def td_s (t : Int) : Prop := 0 ≤ t ∧ tk_sg SF t = some (8, 5, [t + 1, t + 4, t + 7, t + 11, t + 15]) ∧ ig_s (t + 1) ∧ ig_s (t + 4) ∧ rw_s (t + 7) 4 ∧ rw_s (t + 11) 8 ∧ rw_s (t + 15) 8
abbrev td_T : Type := List (Int × Int) × List (Int × Int) × List (Int × Int × Int) × List (Int × Int × Int) × List (Int × Int × Int)
def td_at (M : tk_M) (t : Int) (T : td_T) : Prop := ig_at M (t + 1) T.1 ∧ ig_at M (t + 4) T.2.1 ∧ rw_at M (t + 7) 4 T.2.2.1 ∧ rw_at M (t + 11) 8 T.2.2.2.1 ∧ rw_at M (t + 15) 8 T.2.2.2.2
theorem ig_s_c {r : Int} (h0 : 0 ≤ r) (h1 : tk_sg SF r = some (3, 3, [r + 1, r + 2, -1])) (h2 : tk_sg SF (r + 1) = some (20, 6, [])) (h3 : tk_sg SF (r + 2) = some (20, 6, [])) : ig_s r := ⟨h0, h1, h2, h3⟩
theorem ig_s2 : ig_s 2 := ⟨by decide, sg2, sg3, sg4⟩
theorem ig_s5 : ig_s 5 := ⟨by decide, sg5, sg6, sg7⟩
theorem ig_s21 : ig_s 21 := ⟨by decide, sg21, sg22, sg23⟩
theorem ig_s24 : ig_s 24 := ⟨by decide, sg24, sg25, sg26⟩
theorem ig_s87 : ig_s 87 := ⟨by decide, sg87, sg88, sg89⟩
theorem rw_s8 : rw_s 8 4 := ⟨by decide, by decide, sg8, sg9, sg10, sg11⟩
theorem rw_s12 : rw_s 12 8 := ⟨by decide, by decide, sg12, sg13, sg14, sg15⟩
theorem rw_s16 : rw_s 16 8 := ⟨by decide, by decide, sg16, sg17, sg18, sg19⟩
theorem rw_s27 : rw_s 27 4 := ⟨by decide, by decide, sg27, sg28, sg29, sg30⟩
theorem rw_s31 : rw_s 31 8 := ⟨by decide, by decide, sg31, sg32, sg33, sg34⟩
theorem rw_s35 : rw_s 35 8 := ⟨by decide, by decide, sg35, sg36, sg37, sg38⟩
theorem td_s1 : td_s 1 := ⟨by decide, sg1, ig_s2, ig_s5, rw_s8, rw_s12, rw_s16⟩
theorem td_s20 : td_s 20 := ⟨by decide, sg20, ig_s21, ig_s24, rw_s27, rw_s31, rw_s35⟩
theorem ig_s_deed {i : Int} (h0 : 0 ≤ i) (h1 : i < 10) : ig_s (41 + 3 * i) := by
  rcases (by omega : i = 0 ∨ i = 1 ∨ i = 2 ∨ i = 3 ∨ i = 4 ∨ i = 5 ∨ i = 6 ∨ i = 7 ∨ i = 8 ∨ i = 9) with rfl | rfl | rfl | rfl | rfl | rfl | rfl | rfl | rfl | rfl
  · exact ⟨by decide, sg41, sg42, sg43⟩
  · exact ⟨by decide, sg44, sg45, sg46⟩
  · exact ⟨by decide, sg47, sg48, sg49⟩
  · exact ⟨by decide, sg50, sg51, sg52⟩
  · exact ⟨by decide, sg53, sg54, sg55⟩
  · exact ⟨by decide, sg56, sg57, sg58⟩
  · exact ⟨by decide, sg59, sg60, sg61⟩
  · exact ⟨by decide, sg62, sg63, sg64⟩
  · exact ⟨by decide, sg65, sg66, sg67⟩
  · exact ⟨by decide, sg68, sg69, sg70⟩
theorem dd_get {i : Int} (h0 : 0 ≤ i) (h1 : i < 10) : ([41, 44, 47, 50, 53, 56, 59, 62, 65, 68] : List Int).getD i.toNat (-1) = 41 + 3 * i := by
  rcases (by omega : i = 0 ∨ i = 1 ∨ i = 2 ∨ i = 3 ∨ i = 4 ∨ i = 5 ∨ i = 6 ∨ i = 7 ∨ i = 8 ∨ i = 9) with rfl | rfl | rfl | rfl | rfl | rfl | rfl | rfl | rfl | rfl <;> rfl
theorem tp_s_t {i : Int} (h0 : 0 ≤ i) (h1 : i < 6) : tp_s (75 + 2 * i) := by
  rcases (by omega : i = 0 ∨ i = 1 ∨ i = 2 ∨ i = 3 ∨ i = 4 ∨ i = 5) with rfl | rfl | rfl | rfl | rfl | rfl
  · exact ⟨by decide, sg75, sg76⟩
  · exact ⟨by decide, sg77, sg78⟩
  · exact ⟨by decide, sg79, sg80⟩
  · exact ⟨by decide, sg81, sg82⟩
  · exact ⟨by decide, sg83, sg84⟩
  · exact ⟨by decide, sg85, sg86⟩
theorem tp_get {i : Int} (h0 : 0 ≤ i) (h1 : i < 6) : ([75, 77, 79, 81, 83, 85] : List Int).getD i.toNat (-1) = 75 + 2 * i := by
  rcases (by omega : i = 0 ∨ i = 1 ∨ i = 2 ∨ i = 3 ∨ i = 4 ∨ i = 5) with rfl | rfl | rfl | rfl | rfl | rfl <;> rfl
theorem sp_X8_ideal {G : tk_G} {M : tk_M} {t i : Int} (ht : td_s t) : Spr G FX8_ideal [xR t, xI i] SF M (fun v M' => v = (if i = 0 then t + 1 else t + 4) ∧ M' = M) := by
  obtain ⟨t0, s0, s1, s2, s3, s4, s5⟩ := ht
  refine Spr.of _ mtX8_ideal nlX8_ideal (Nat.le_of_ble_eq_true rfl) ?_
  show Ok G FX8_ideal 0 [xR t, xI i] [] SF M 0 0 _
  refine tr_iload_n (pc := 0) dX8_ideal_0 rfl ?_
  refine tr_ifne (pc := 1) (tgt := 11) dX8_ideal_1 (by decide) (fun c1 => ?_) (fun c1 => ?_)
  · skip
    refine tr_aload_n (pc := 11) dX8_ideal_11 rfl (by omega) ?_
    refine tr_getr (pc := 12) (x := t + 4) dX8_ideal_12 fi8_16 rfl (by assumption) rfl ?_
    refine tr_aret (pc := 15) dX8_ideal_15 rfl (by omega) ?_
    exact ⟨by split <;> omega, rfl⟩
  · skip
    refine tr_aload_n (pc := 4) dX8_ideal_4 rfl (by omega) ?_
    refine tr_getr (pc := 5) (x := t + 1) dX8_ideal_5 fi8_10 rfl (by assumption) rfl ?_
    refine tr_goto (pc := 8) (tgt := 15) dX8_ideal_8 (by decide) ?_
    refine tr_aret (pc := 15) dX8_ideal_15 rfl (by omega) ?_
    exact ⟨by split <;> omega, rfl⟩
theorem sp_X8_countGenerators {G : tk_G} {M : tk_M} {t : Int} (ht : td_s t) (h0 : 0 ≤ M (t + 1) 2) (h1 : M (t + 1) 2 ≤ 6) (h2 : 0 ≤ M (t + 4) 2) (h3 : M (t + 4) 2 ≤ 6) : Spi G FX8_countGenerators [xR t] SF M (fun v M' => v = M (t + 1) 2 + M (t + 4) 2 ∧ M' = M) := by
  obtain ⟨t0, s0, s1, s2, s3, s4, s5⟩ := ht
  have q1 := s1.2.1
  have q2 := s2.2.1
  refine Spi.of _ mtX8_countGenerators nlX8_countGenerators (Nat.le_of_ble_eq_true rfl) ?_
  show Ok G FX8_countGenerators 0 [xR t] [] SF M 0 0 _
  refine tr_aload_n (pc := 0) dX8_countGenerators_0 rfl (by omega) ?_
  refine tr_getr (pc := 1) (x := t + 1) dX8_countGenerators_1 fi8_10 rfl (by assumption) rfl ?_
  refine tr_cVi0 (pc := 4) dX8_countGenerators_4 mtX3_size lv8_34 rfl (by assumption) kc3 ⟨(Nat.le_of_ble_eq_true rfl), (Nat.le_of_ble_eq_true rfl)⟩ nlX3_size (Nat.le_of_ble_eq_true rfl) ⟨(Nat.le_of_ble_eq_true rfl), (Nat.le_of_ble_eq_true rfl)⟩ (sp_X3_size s1) (fun r4 M4 h4 => ?_)
  obtain ⟨hr4, hM4⟩ := h4
  obtain rfl := hr4.symm
  obtain rfl := hM4.symm
  refine tr_aload_n (pc := 7) dX8_countGenerators_7 rfl (by omega) ?_
  refine tr_getr (pc := 8) (x := t + 4) dX8_countGenerators_8 fi8_16 rfl (by assumption) rfl ?_
  refine tr_cVi0 (pc := 11) dX8_countGenerators_11 mtX3_size lv8_34 rfl (by assumption) kc3 ⟨(Nat.le_of_ble_eq_true rfl), (Nat.le_of_ble_eq_true rfl)⟩ nlX3_size (Nat.le_of_ble_eq_true rfl) ⟨(Nat.le_of_ble_eq_true rfl), (Nat.le_of_ble_eq_true rfl)⟩ (sp_X3_size s2) (fun r11 M11 h11 => ?_)
  obtain ⟨hr11, hM11⟩ := h11
  obtain rfl := hr11.symm
  obtain rfl := hM11.symm
  refine tr_iadd (pc := 14) dX8_countGenerators_14 ⟨by omega, by omega⟩ ?_
  refine tr_ireti (pc := 15) dX8_countGenerators_15 rfl ?_
  exact ⟨rfl, rfl⟩
theorem ig_at.frame {M M' : tk_M} {r lo hi : Int} {g : List (Int × Int)} (h : ig_at M r g) (hf : tk_fr M M' lo hi) (hd : r + 3 ≤ lo ∨ hi ≤ r) : ig_at M' r g := h.fr (hf _ (by omega)) (hf _ (by omega)) (hf _ (by omega))
theorem rw_at.frame {M M' : tk_M} {r lo hi : Int} {N : Nat} {g : List (Int × Int × Int)} (h : rw_at M r N g) (hf : tk_fr M M' lo hi) (hd : r + 4 ≤ lo ∨ hi ≤ r) : rw_at M' r N g := h.fr (hf _ (by omega)) (hf _ (by omega)) (hf _ (by omega)) (hf _ (by omega))
theorem td_at.frame {M M' : tk_M} {t lo hi : Int} {T : td_T} (h : td_at M t T) (hf : tk_fr M M' lo hi) (hd : t + 19 ≤ lo ∨ hi ≤ t + 1) : td_at M' t T := ⟨h.1.frame hf (by omega), h.2.1.frame hf (by omega), h.2.2.1.frame hf (by omega), h.2.2.2.1.frame hf (by omega), h.2.2.2.2.frame hf (by omega)⟩
theorem sp_X8_copy {G : tk_G} {M : tk_M} {t z : Int} {T T0 : td_T} (ht : td_s t) (hz : td_s z) (hap : t + 19 ≤ z ∨ z + 19 ≤ t) (h : td_at M z T) (h0 : td_at M t T0) : Spv G FX8_copy [xR t, xR z] SF M (fun M' => td_at M' t T ∧ tk_fr M M' (t + 1) (t + 19)) := by
  obtain ⟨t0, s0, s1, s2, s3, s4, s5⟩ := ht
  obtain ⟨z0, u0, u1, u2, u3, u4, u5⟩ := hz
  have q1 := s1.2.1
  have q2 := s2.2.1
  have q3 := s3.2.2.1
  have q4 := s4.2.2.1
  have q5 := s5.2.2.1
  obtain ⟨g1, g2, g3, g4, g5⟩ := h
  refine Spv.of _ mtX8_copy nlX8_copy (Nat.le_of_ble_eq_true rfl) ?_
  show Ok G FX8_copy 0 [xR t, xR z] [] SF M 0 0 _
  refine tr_aload_n (pc := 0) dX8_copy_0 rfl (by omega) ?_
  refine tr_getr (pc := 1) (x := t + 1) dX8_copy_1 fi8_10 rfl (by assumption) rfl ?_
  refine tr_aload_n (pc := 4) dX8_copy_4 rfl (by omega) ?_
  refine tr_getr (pc := 5) (x := z + 1) dX8_copy_5 fi8_10 rfl (by assumption) rfl ?_
  refine tr_cVv1 (pc := 8) dX8_copy_8 mtX3_copy lv8_38 rfl (by assumption) kc3 ⟨(Nat.le_of_ble_eq_true rfl), (Nat.le_of_ble_eq_true rfl)⟩ nlX3_copy (Nat.le_of_ble_eq_true rfl) ⟨(Nat.le_of_ble_eq_true rfl), (Nat.le_of_ble_eq_true rfl)⟩ (sp_X3_copy s1 u1 (by omega) g1) (fun M8 h8 => ?_)
  obtain ⟨a1, f1⟩ := h8
  refine tr_aload_n (pc := 11) dX8_copy_11 rfl (by omega) ?_
  refine tr_getr (pc := 12) (x := t + 4) dX8_copy_12 fi8_16 rfl (by assumption) rfl ?_
  refine tr_aload_n (pc := 15) dX8_copy_15 rfl (by omega) ?_
  refine tr_getr (pc := 16) (x := z + 4) dX8_copy_16 fi8_16 rfl (by assumption) rfl ?_
  refine tr_cVv1 (pc := 19) dX8_copy_19 mtX3_copy lv8_38 rfl (by assumption) kc3 ⟨(Nat.le_of_ble_eq_true rfl), (Nat.le_of_ble_eq_true rfl)⟩ nlX3_copy (Nat.le_of_ble_eq_true rfl) ⟨(Nat.le_of_ble_eq_true rfl), (Nat.le_of_ble_eq_true rfl)⟩ (sp_X3_copy s2 u2 (by omega) (g2.frame f1 (by omega))) (fun M19 h19 => ?_)
  obtain ⟨a2, f2'⟩ := h19
  have f2 : tk_fr M M19 (t + 1) (t + 7) := (f1.mono (by omega) (by omega)).trans (f2'.mono (by omega) (by omega))
  have a1 := a1.frame f2' (by omega)
  refine tr_aload_n (pc := 22) dX8_copy_22 rfl (by omega) ?_
  refine tr_getr (pc := 23) (x := t + 7) dX8_copy_23 fi8_24 rfl (by assumption) rfl ?_
  refine tr_aload_n (pc := 26) dX8_copy_26 rfl (by omega) ?_
  refine tr_getr (pc := 27) (x := z + 7) dX8_copy_27 fi8_24 rfl (by assumption) rfl ?_
  refine tr_cVv1 (pc := 30) dX8_copy_30 mtX5_copy lv8_42 rfl (by assumption) kc5 ⟨(Nat.le_of_ble_eq_true rfl), (Nat.le_of_ble_eq_true rfl)⟩ nlX5_copy (Nat.le_of_ble_eq_true rfl) ⟨(Nat.le_of_ble_eq_true rfl), (Nat.le_of_ble_eq_true rfl)⟩ (sp_X5_copy s3 u3 (by omega) (by rw [f2 (t + 7) (by omega)]; exact h0.2.2.1.2.2) (g3.frame f2 (by omega))) (fun M30 h30 => ?_)
  obtain ⟨a3, f3'⟩ := h30
  have f3 : tk_fr M M30 (t + 1) (t + 11) := (f2.mono (by omega) (by omega)).trans (f3'.mono (by omega) (by omega))
  have a1 := a1.frame f3' (by omega)
  have a2 := a2.frame f3' (by omega)
  refine tr_aload_n (pc := 33) dX8_copy_33 rfl (by omega) ?_
  refine tr_getr (pc := 34) (x := t + 11) dX8_copy_34 fi8_28 rfl (by assumption) rfl ?_
  refine tr_aload_n (pc := 37) dX8_copy_37 rfl (by omega) ?_
  refine tr_getr (pc := 38) (x := z + 11) dX8_copy_38 fi8_28 rfl (by assumption) rfl ?_
  refine tr_cVv1 (pc := 41) dX8_copy_41 mtX5_copy lv8_42 rfl (by assumption) kc5 ⟨(Nat.le_of_ble_eq_true rfl), (Nat.le_of_ble_eq_true rfl)⟩ nlX5_copy (Nat.le_of_ble_eq_true rfl) ⟨(Nat.le_of_ble_eq_true rfl), (Nat.le_of_ble_eq_true rfl)⟩ (sp_X5_copy s4 u4 (by omega) (by rw [f3 (t + 11) (by omega)]; exact h0.2.2.2.1.2.2) (g4.frame f3 (by omega))) (fun M41 h41 => ?_)
  obtain ⟨a4, f4'⟩ := h41
  have f4 : tk_fr M M41 (t + 1) (t + 15) := (f3.mono (by omega) (by omega)).trans (f4'.mono (by omega) (by omega))
  have a1 := a1.frame f4' (by omega)
  have a2 := a2.frame f4' (by omega)
  have a3 := a3.frame f4' (by omega)
  refine tr_aload_n (pc := 44) dX8_copy_44 rfl (by omega) ?_
  refine tr_getr (pc := 45) (x := t + 15) dX8_copy_45 fi8_31 rfl (by assumption) rfl ?_
  refine tr_aload_n (pc := 48) dX8_copy_48 rfl (by omega) ?_
  refine tr_getr (pc := 49) (x := z + 15) dX8_copy_49 fi8_31 rfl (by assumption) rfl ?_
  refine tr_cVv1 (pc := 52) dX8_copy_52 mtX5_copy lv8_42 rfl (by assumption) kc5 ⟨(Nat.le_of_ble_eq_true rfl), (Nat.le_of_ble_eq_true rfl)⟩ nlX5_copy (Nat.le_of_ble_eq_true rfl) ⟨(Nat.le_of_ble_eq_true rfl), (Nat.le_of_ble_eq_true rfl)⟩ (sp_X5_copy s5 u5 (by omega) (by rw [f4 (t + 15) (by omega)]; exact h0.2.2.2.2.2.2) (g5.frame f4 (by omega))) (fun M52 h52 => ?_)
  obtain ⟨a5, f5'⟩ := h52
  have f5 : tk_fr M M52 (t + 1) (t + 19) := (f4.mono (by omega) (by omega)).trans (f5'.mono (by omega) (by omega))
  have a1 := a1.frame f5' (by omega)
  have a2 := a2.frame f5' (by omega)
  have a3 := a3.frame f5' (by omega)
  have a4 := a4.frame f5' (by omega)
  refine tr_vret (pc := 55) dX8_copy_55 rfl ?_
  exact ⟨⟨a1, a2, a3, a4, a5⟩, f5⟩
/-- DEEDS: cell 39, ten Ideals 41 + 3 i, whose 71; the latest first -/
def dd_at (M : tk_M) (D : List (Int × List (Int × Int))) : Prop := 0 ≤ M 39 2 ∧ M 39 2 < 10 ∧ M 39 3 = D.length ∧ D.length ≤ 10 ∧ ∀ (j : Nat) (q : Int × List (Int × Int)), D[j]? = some q → M 71 ((M 39 2 - 1 - j) % 10) = q.1 ∧ (q.1 = 0 ∨ q.1 = 1) ∧ ig_at M (41 + 3 * ((M 39 2 - 1 - j) % 10)) q.2
theorem sp_X0_size {G : tk_G} {M : tk_M} : Spi G FX0_size [xR 39] SF M (fun v M' => v = M 39 3 ∧ M' = M) := by
  refine Spi.of _ mtX0_size nlX0_size (Nat.le_of_ble_eq_true rfl) ?_
  show Ok G FX0_size 0 [xR 39] [] SF M 0 0 _
  refine tr_aload_n (pc := 0) dX0_size_0 rfl (by decide) ?_
  refine tr_geti (pc := 1) (ji := 3) dX0_size_1 fi0_24 rfl sg39 rfl ?_
  refine tr_ireti (pc := 4) dX0_size_4 rfl ?_
  exact ⟨rfl, rfl⟩
theorem sp_X0_forget {G : tk_G} {M : tk_M} : Spv G FX0_forget [xR 39] SF M (fun M' => M' = tk_mu M 39 3 0) := by
  refine Spv.of _ mtX0_forget nlX0_forget (Nat.le_of_ble_eq_true rfl) ?_
  show Ok G FX0_forget 0 [xR 39] [] SF M 0 0 _
  refine tr_aload_n (pc := 0) dX0_forget_0 rfl (by decide) ?_
  refine tr_iconst (pc := 1) dX0_forget_1 ⟨by decide, by decide⟩ ?_
  refine tr_puti (pc := 2) (ji := 3) dX0_forget_2 fi0_24 rfl (Or.inl rfl) (Or.inl rfl) sg39 rfl ?_
  refine tr_vret (pc := 5) dX0_forget_5 rfl ?_
  rfl
theorem dd_forget {M : tk_M} {D : List (Int × List (Int × Int))} (h : dd_at M D) : dd_at (tk_mu M 39 3 0) [] := by
  obtain ⟨h1, h2, h3, h4, h5⟩ := h
  refine ⟨?_, ?_, ?_, by decide, fun j q hq => by simp at hq⟩
  · rw [tk_mu_i (by omega)]; exact h1
  · rw [tk_mu_i (by omega)]; exact h2
  · rw [tk_mu_at]; rfl
theorem dd_at.frame {M M' : tk_M} {D : List (Int × List (Int × Int))} (h : dd_at M D) (hf : ∀ c : Int, 39 ≤ c → c ≤ 71 → M' c = M c) : dd_at M' D := by
  obtain ⟨h1, h2, h3, h4, h5⟩ := h
  unfold dd_at
  rw [hf 39 (by omega) (by omega), hf 71 (by omega) (by omega)]
  refine ⟨h1, h2, h3, h4, fun j q hq => ?_⟩
  obtain ⟨a1, a2, a3⟩ := h5 j q hq
  exact ⟨a1, a2, a3.fr (hf _ (by omega) (by omega)) (hf _ (by omega) (by omega)) (hf _ (by omega) (by omega))⟩
theorem sp_X0_keep {G : tk_G} {M : tk_M} {i z : Int} {g : List (Int × Int)} {D : List (Int × List (Int × Int))} (hz : ig_s z) (hap : z + 3 ≤ 39 ∨ 72 ≤ z) (hg : ig_at M z g) (hi : i = 0 ∨ i = 1) (hD : dd_at M D) : Spv G FX0_keep [xR 39, xI i, xR z] SF M (fun M' => dd_at M' (((i, g) :: D).take 10) ∧ tk_fr M M' 39 72) := by
  have hDD := hD
  obtain ⟨n0, n9, nl, l10, hD⟩ := hD
  have z0 := hz.1
  have hs : ig_s (41 + 3 * M 39 2) := ig_s_deed n0 n9
  have hq := hs.2.1
  refine Spv.of _ mtX0_keep nlX0_keep (Nat.le_of_ble_eq_true rfl) ?_
  show Ok G FX0_keep 0 [xR 39, xI i, xR z] [] SF M 0 0 _
  have fin : ∀ (M1 : tk_M) (nn : Int), ig_at M1 (41 + 3 * M 39 2) g → tk_fr M M1 (41 + 3 * M 39 2) (41 + 3 * M 39 2 + 3) → (nn = M 39 2 + 1 ∧ nn < 10 ∨ nn = 0 ∧ M 39 2 = 9) → dd_at (tk_mu (tk_mu (tk_mu M1 71 (M 39 2) i) 39 2 nn) 39 3 (min (M 39 3 + 1) 10)) (((i, g) :: D).take 10) ∧ tk_fr M (tk_mu (tk_mu (tk_mu M1 71 (M 39 2) i) 39 2 nn) 39 3 (min (M 39 3 + 1) 10)) 39 72 := by
    intro M1 nn a1 f1 hnn
    refine ⟨⟨?_, ?_, ?_, ?_, ?_⟩, (((f1.mono (by omega) (by omega)).mu (by omega) (by omega)).mu (by omega) (by omega)).mu (by omega) (by omega)⟩
    · rw [tk_mu_i (by omega), tk_mu_at]; omega
    · rw [tk_mu_i (by omega), tk_mu_at]; omega
    · rw [tk_mu_at, List.length_take, List.length_cons]; omega
    · rw [List.length_take]; omega
    · intro j q hq
      rw [tk_mu_i (show (2 : Int) ≠ 3 by omega), tk_mu_at, tk_mu_c (show (71 : Int) ≠ 39 by omega), tk_mu_c (show (71 : Int) ≠ 39 by omega)]
      have hj : j < 10 := by
        have := (List.getElem?_eq_some_iff.mp hq).1
        rw [List.length_take] at this; omega
      rw [List.getElem?_take_of_lt hj] at hq
      match j, hq, hj with
      | 0, hq, _ =>
        cases hq
        have e1 : (nn - 1 - ((0 : Nat) : Int)) % 10 = M 39 2 := by omega
        rw [e1, tk_mu_at]
        refine ⟨rfl, hi, a1.fr ?_ ?_ ?_⟩
        · rw [tk_mu_c (by omega), tk_mu_c (by omega), tk_mu_c (by omega)]
        · rw [tk_mu_c (by omega), tk_mu_c (by omega), tk_mu_c (by omega)]
        · rw [tk_mu_c (by omega), tk_mu_c (by omega), tk_mu_c (by omega)]
      | j + 1, hq, hj =>
        have hq2 : D[j]? = some q := hq
        obtain ⟨b1, b2, b3⟩ := hD j q hq2
        have e1 : (nn - 1 - ((j + 1 : Nat) : Int)) % 10 = (M 39 2 - 1 - j) % 10 := by omega
        have e2 : (M 39 2 - 1 - j) % 10 ≠ M 39 2 := by omega
        rw [e1, tk_mu_i e2]
        refine ⟨by rw [f1 71 (by omega)]; exact b1, b2, b3.fr ?_ ?_ ?_⟩
        · rw [tk_mu_c (by omega), tk_mu_c (by omega), tk_mu_c (by omega)]; exact f1 _ (by omega)
        · rw [tk_mu_c (by omega), tk_mu_c (by omega), tk_mu_c (by omega)]; exact f1 _ (by omega)
        · rw [tk_mu_c (by omega), tk_mu_c (by omega), tk_mu_c (by omega)]; exact f1 _ (by omega)
  refine tr_aload_n (pc := 0) dX0_keep_0 rfl (by decide) ?_
  refine tr_getr (pc := 1) (x := 40) dX0_keep_1 fi0_11 rfl sg39 rfl ?_
  refine tr_aload_n (pc := 4) dX0_keep_4 rfl (by decide) ?_
  refine tr_geti (pc := 5) (ji := 2) dX0_keep_5 fi0_20 rfl sg39 rfl ?_
  refine tr_aald (pc := 8) (x := 41 + 3 * M 39 2) dX0_keep_8 sg40 (by decide) (by omega) (by omega) (dd_get n0 n9) ?_
  refine tr_aload_n (pc := 9) dX0_keep_9 rfl (by omega) ?_
  refine tr_cVv1 (pc := 10) dX0_keep_10 mtX3_copy lv0_27 rfl hq kc3 ⟨(Nat.le_of_ble_eq_true rfl), (Nat.le_of_ble_eq_true rfl)⟩ nlX3_copy (Nat.le_of_ble_eq_true rfl) ⟨(Nat.le_of_ble_eq_true rfl), (Nat.le_of_ble_eq_true rfl)⟩ (sp_X3_copy hs hz (by omega) hg) (fun M10 h10 => ?_)
  obtain ⟨a1, f1⟩ := h10
  have e2 : M10 39 2 = M 39 2 := by rw [f1 39 (by omega)]
  have e3 : M10 39 3 = M 39 3 := by rw [f1 39 (by omega)]
  refine tr_aload_n (pc := 13) dX0_keep_13 rfl (by decide) ?_
  refine tr_getr (pc := 14) (x := 71) dX0_keep_14 fi0_16 rfl sg39 rfl ?_
  refine tr_aload_n (pc := 17) dX0_keep_17 rfl (by decide) ?_
  refine tr_getv (pc := 18) (ji := 2) (x := M 39 2) dX0_keep_18 fi0_20 rfl sg39 rfl (e2) ?_
  refine tr_iload_n (pc := 21) dX0_keep_21 rfl ?_
  refine tr_iast (pc := 22) dX0_keep_22 sg71 (by omega) (by omega) ?_
  refine tr_aload_n (pc := 23) dX0_keep_23 rfl (by decide) ?_
  refine tr_aload_n (pc := 24) dX0_keep_24 rfl (by decide) ?_
  refine tr_getv (pc := 25) (ji := 2) (x := M 39 2) dX0_keep_25 fi0_20 rfl sg39 rfl (by rw [tk_mu_c (by omega)]; exact e2) ?_
  refine tr_iconst (pc := 28) dX0_keep_28 ⟨by decide, by decide⟩ ?_
  refine tr_iadd (pc := 29) dX0_keep_29 ⟨by omega, by omega⟩ ?_
  refine tr_bipush (pc := 30) dX0_keep_30 ⟨by decide, ⟨by decide, by decide⟩⟩ ?_
  refine tr_icmpge (pc := 32) (tgt := 44) dX0_keep_32 (by decide) (fun c32 => ?_) (fun c32 => ?_)
  · skip
    refine tr_iconst (pc := 44) dX0_keep_44 ⟨by decide, by decide⟩ ?_
    refine tr_puti (pc := 45) (ji := 2) dX0_keep_45 fi0_20 rfl (Or.inl rfl) (Or.inl rfl) sg39 rfl ?_
    refine tr_aload_n (pc := 48) dX0_keep_48 rfl (by decide) ?_
    refine tr_aload_n (pc := 49) dX0_keep_49 rfl (by decide) ?_
    refine tr_getv (pc := 50) (ji := 3) (x := M 39 3) dX0_keep_50 fi0_24 rfl sg39 rfl (by rw [tk_mu_i (by omega), tk_mu_c (by omega)]; exact e3) ?_
    refine tr_iconst (pc := 53) dX0_keep_53 ⟨by decide, by decide⟩ ?_
    refine tr_iadd (pc := 54) dX0_keep_54 ⟨by omega, by omega⟩ ?_
    refine tr_bipush (pc := 55) dX0_keep_55 ⟨by decide, ⟨by decide, by decide⟩⟩ ?_
    refine tr_min (pc := 57) dX0_keep_57 mm0_31 rfl (Nat.le_of_ble_eq_true rfl) (Nat.le_of_ble_eq_true rfl) ⟨(Nat.le_of_ble_eq_true rfl), (Nat.le_of_ble_eq_true rfl)⟩ ?_
    refine tr_puti (pc := 60) (ji := 3) dX0_keep_60 fi0_24 rfl (Or.inl rfl) (Or.inl rfl) sg39 rfl ?_
    refine tr_vret (pc := 63) dX0_keep_63 rfl ?_
    exact fin M10 _ a1 f1 (by omega)
  · skip
    refine tr_aload_n (pc := 35) dX0_keep_35 rfl (by decide) ?_
    refine tr_getv (pc := 36) (ji := 2) (x := M 39 2) dX0_keep_36 fi0_20 rfl sg39 rfl (by rw [tk_mu_c (by omega)]; exact e2) ?_
    refine tr_iconst (pc := 39) dX0_keep_39 ⟨by decide, by decide⟩ ?_
    refine tr_iadd (pc := 40) dX0_keep_40 ⟨by omega, by omega⟩ ?_
    refine tr_goto (pc := 41) (tgt := 45) dX0_keep_41 (by decide) ?_
    refine tr_puti (pc := 45) (ji := 2) dX0_keep_45 fi0_20 rfl (Or.inl rfl) (Or.inl rfl) sg39 rfl ?_
    refine tr_aload_n (pc := 48) dX0_keep_48 rfl (by decide) ?_
    refine tr_aload_n (pc := 49) dX0_keep_49 rfl (by decide) ?_
    refine tr_getv (pc := 50) (ji := 3) (x := M 39 3) dX0_keep_50 fi0_24 rfl sg39 rfl (by rw [tk_mu_i (by omega), tk_mu_c (by omega)]; exact e3) ?_
    refine tr_iconst (pc := 53) dX0_keep_53 ⟨by decide, by decide⟩ ?_
    refine tr_iadd (pc := 54) dX0_keep_54 ⟨by omega, by omega⟩ ?_
    refine tr_bipush (pc := 55) dX0_keep_55 ⟨by decide, ⟨by decide, by decide⟩⟩ ?_
    refine tr_min (pc := 57) dX0_keep_57 mm0_31 rfl (Nat.le_of_ble_eq_true rfl) (Nat.le_of_ble_eq_true rfl) ⟨(Nat.le_of_ble_eq_true rfl), (Nat.le_of_ble_eq_true rfl)⟩ ?_
    refine tr_puti (pc := 60) (ji := 3) dX0_keep_60 fi0_24 rfl (Or.inl rfl) (Or.inl rfl) sg39 rfl ?_
    refine tr_vret (pc := 63) dX0_keep_63 rfl ?_
    exact fin M10 _ a1 f1 (by omega)
theorem sp_X0_takeBack {G : tk_G} {M : tk_M} {w : Int} {g : List (Int × Int)} {D : List (Int × List (Int × Int))} (hD : dd_at M ((w, g) :: D)) : Spv G FX0_takeBack [xR 39, xR 1] SF M (fun M' => dd_at M' D ∧ ig_at M' (if w = 0 then 2 else 5) g ∧ ∀ c : Int, c ≠ 39 → (c < (if w = 0 then 2 else 5) ∨ (if w = 0 then 2 else 5) + 3 ≤ c) → M' c = M c) := by
  obtain ⟨n0, n9, nl, l10, hD⟩ := hD
  have h00 := hD 0 (w, g) rfl
  rw [show (M 39 2 - 1 - ((0 : Nat) : Int)) = M 39 2 - 1 by omega] at h00
  obtain ⟨w1, w2, w3⟩ := h00
  simp only at w1 w2 w3
  simp only [List.length_cons] at nl l10
  generalize hm : (M 39 2 - 1) % 10 = m at w1 w3
  have hm0 : 0 ≤ m ∧ m < 10 := by omega
  have hs : ig_s (41 + 3 * m) := ig_s_deed hm0.1 hm0.2
  have hwz : ig_s (if w = 0 then 2 else 5) := by rcases w2 with rfl | rfl; exact ig_s2; exact ig_s5
  generalize hwr : (if w = 0 then (2 : Int) else 5) = wr at hwz ⊢
  have hwr2 : wr = 2 ∨ wr = 5 := by rcases w2 with rfl | rfl <;> simp at hwr <;> omega
  refine Spv.of _ mtX0_takeBack nlX0_takeBack (Nat.le_of_ble_eq_true rfl) ?_
  show Ok G FX0_takeBack 0 [xR 39, xR 1] [] SF M 0 0 _
  have w3' : ig_at (tk_mu M 39 2 m) (41 + 3 * m) g := w3.fr (tk_mu_c (by omega)) (tk_mu_c (by omega)) (tk_mu_c (by omega))
  have hzq := hwz.2.1
  have fin : ∀ M2 : tk_M, ig_at M2 wr g → tk_fr (tk_mu M 39 2 m) M2 wr (wr + 3) → dd_at (tk_mu M2 39 3 (M 39 3 - 1)) D ∧ ig_at (tk_mu M2 39 3 (M 39 3 - 1)) wr g ∧ ∀ c : Int, c ≠ 39 → (c < wr ∨ wr + 3 ≤ c) → tk_mu M2 39 3 (M 39 3 - 1) c = M c := by
    intro M2 a1 f1
    have e39 : M2 39 = tk_mu M 39 2 m 39 := f1 39 (by omega)
    refine ⟨⟨?_, ?_, ?_, ?_, ?_⟩, ?_, ?_⟩
    · rw [tk_mu_i (by omega), e39, tk_mu_at]; omega
    · rw [tk_mu_i (by omega), e39, tk_mu_at]; omega
    · rw [tk_mu_at]; omega
    · omega
    · intro j q hq
      rw [tk_mu_i (show (2 : Int) ≠ 3 by omega), e39, tk_mu_at, tk_mu_c (show (71 : Int) ≠ 39 by omega), f1 71 (by omega), tk_mu_c (show (71 : Int) ≠ 39 by omega)]
      obtain ⟨b1, b2, b3⟩ := hD (j + 1) q hq
      have e1 : (M 39 2 - 1 - ((j + 1 : Nat) : Int)) % 10 = (m - 1 - j) % 10 := by omega
      rw [e1] at b1 b3
      refine ⟨b1, b2, b3.fr ?_ ?_ ?_⟩
      · rw [tk_mu_c (by omega), f1 _ (by omega), tk_mu_c (by omega)]
      · rw [tk_mu_c (by omega), f1 _ (by omega), tk_mu_c (by omega)]
      · rw [tk_mu_c (by omega), f1 _ (by omega), tk_mu_c (by omega)]
    · exact a1.fr (tk_mu_c (by omega)) (tk_mu_c (by omega)) (tk_mu_c (by omega))
    · intro c h1 h2
      rw [tk_mu_c h1, f1 c (by omega), tk_mu_c h1]
  refine tr_aload_n (pc := 0) dX0_takeBack_0 rfl (by decide) ?_
  refine tr_geti (pc := 1) (ji := 3) dX0_takeBack_1 fi0_24 rfl sg39 rfl ?_
  refine tr_ifne (pc := 4) (tgt := 8) dX0_takeBack_4 (by decide) (fun c4 => ?_) (fun c4 => absurd c4 (by omega))
  refine tr_aload_n (pc := 8) dX0_takeBack_8 rfl (by decide) ?_
  refine tr_aload_n (pc := 9) dX0_takeBack_9 rfl (by decide) ?_
  refine tr_geti (pc := 10) (ji := 2) dX0_takeBack_10 fi0_20 rfl sg39 rfl ?_
  refine tr_ifle (pc := 13) (tgt := 25) dX0_takeBack_13 (by decide) (fun c13 => ?_) (fun c13 => ?_)
  · skip
    refine tr_bipush (pc := 25) dX0_takeBack_25 ⟨by decide, ⟨by decide, by decide⟩⟩ ?_
    refine tr_puti (pc := 27) (ji := 2) dX0_takeBack_27 fi0_20 rfl (Or.inl rfl) (Or.inl rfl) sg39 rfl ?_
    refine tr_memv (M' := tk_mu M 39 2 m) (by congr 1; omega) ?_
    refine tr_aload_n (pc := 30) dX0_takeBack_30 rfl (by decide) ?_
    refine tr_aload_n (pc := 31) dX0_takeBack_31 rfl (by decide) ?_
    refine tr_getr (pc := 32) (x := 71) dX0_takeBack_32 fi0_16 rfl sg39 rfl ?_
    refine tr_aload_n (pc := 35) dX0_takeBack_35 rfl (by decide) ?_
    refine tr_getv (pc := 36) (ji := 2) (x := m) dX0_takeBack_36 fi0_20 rfl sg39 rfl (tk_mu_at _ _ _ _) ?_
    refine tr_ialdv (pc := 39) (x := w) dX0_takeBack_39 sg71 (by omega) (by omega) (by rw [tk_mu_c (by omega)]; exact w1) ?_
    refine tr_cVr1 (pc := 40) dX0_takeBack_40 mtX8_ideal lv0_37 rfl sg1 kc8 ⟨(Nat.le_of_ble_eq_true rfl), (Nat.le_of_ble_eq_true rfl)⟩ nlX8_ideal (Nat.le_of_ble_eq_true rfl) ⟨(Nat.le_of_ble_eq_true rfl), (Nat.le_of_ble_eq_true rfl)⟩ (sp_X8_ideal td_s1) (fun r40 M40 h40 => ?_)
    obtain ⟨hr40, hM40⟩ := h40
    obtain rfl := hM40.symm
    have hr40 : r40 = wr := by rw [hr40, ← hwr]; split <;> omega
    obtain rfl := hr40.symm
    refine tr_aload_n (pc := 43) dX0_takeBack_43 rfl (by decide) ?_
    refine tr_getr (pc := 44) (x := 40) dX0_takeBack_44 fi0_11 rfl sg39 rfl ?_
    refine tr_aload_n (pc := 47) dX0_takeBack_47 rfl (by decide) ?_
    refine tr_getv (pc := 48) (ji := 2) (x := m) dX0_takeBack_48 fi0_20 rfl sg39 rfl (tk_mu_at _ _ _ _) ?_
    refine tr_aald (pc := 51) (x := 41 + 3 * m) dX0_takeBack_51 sg40 (by decide) (by omega) (by omega) (dd_get hm0.1 hm0.2) ?_
    refine tr_cVv1 (pc := 52) dX0_takeBack_52 mtX3_copy lv0_27 rfl hzq kc3 ⟨(Nat.le_of_ble_eq_true rfl), (Nat.le_of_ble_eq_true rfl)⟩ nlX3_copy (Nat.le_of_ble_eq_true rfl) ⟨(Nat.le_of_ble_eq_true rfl), (Nat.le_of_ble_eq_true rfl)⟩ (sp_X3_copy hwz hs (by omega) w3') (fun M52 h52 => ?_)
    obtain ⟨a1, f1⟩ := h52
    refine tr_aload_n (pc := 55) dX0_takeBack_55 rfl (by decide) ?_
    refine tr_dup (pc := 56) dX0_takeBack_56 (fun h => by cases h) ?_
    refine tr_getv (pc := 57) (ji := 3) (x := M 39 3) dX0_takeBack_57 fi0_24 rfl sg39 rfl (by rw [f1 39 (by omega), tk_mu_i (by omega)]) ?_
    refine tr_iconst (pc := 60) dX0_takeBack_60 ⟨by decide, by decide⟩ ?_
    refine tr_isub (pc := 61) dX0_takeBack_61 ⟨by omega, by omega⟩ ?_
    refine tr_puti (pc := 62) (ji := 3) dX0_takeBack_62 fi0_24 rfl (Or.inl rfl) (Or.inl rfl) sg39 rfl ?_
    refine tr_vret (pc := 65) dX0_takeBack_65 rfl ?_
    exact fin M52 a1 f1
  · skip
    refine tr_aload_n (pc := 16) dX0_takeBack_16 rfl (by decide) ?_
    refine tr_geti (pc := 17) (ji := 2) dX0_takeBack_17 fi0_20 rfl sg39 rfl ?_
    refine tr_iconst (pc := 20) dX0_takeBack_20 ⟨by decide, by decide⟩ ?_
    refine tr_isub (pc := 21) dX0_takeBack_21 ⟨by omega, by omega⟩ ?_
    refine tr_goto (pc := 22) (tgt := 27) dX0_takeBack_22 (by decide) ?_
    refine tr_puti (pc := 27) (ji := 2) dX0_takeBack_27 fi0_20 rfl (Or.inl rfl) (Or.inl rfl) sg39 rfl ?_
    refine tr_memv (M' := tk_mu M 39 2 m) (by congr 1; omega) ?_
    refine tr_aload_n (pc := 30) dX0_takeBack_30 rfl (by decide) ?_
    refine tr_aload_n (pc := 31) dX0_takeBack_31 rfl (by decide) ?_
    refine tr_getr (pc := 32) (x := 71) dX0_takeBack_32 fi0_16 rfl sg39 rfl ?_
    refine tr_aload_n (pc := 35) dX0_takeBack_35 rfl (by decide) ?_
    refine tr_getv (pc := 36) (ji := 2) (x := m) dX0_takeBack_36 fi0_20 rfl sg39 rfl (tk_mu_at _ _ _ _) ?_
    refine tr_ialdv (pc := 39) (x := w) dX0_takeBack_39 sg71 (by omega) (by omega) (by rw [tk_mu_c (by omega)]; exact w1) ?_
    refine tr_cVr1 (pc := 40) dX0_takeBack_40 mtX8_ideal lv0_37 rfl sg1 kc8 ⟨(Nat.le_of_ble_eq_true rfl), (Nat.le_of_ble_eq_true rfl)⟩ nlX8_ideal (Nat.le_of_ble_eq_true rfl) ⟨(Nat.le_of_ble_eq_true rfl), (Nat.le_of_ble_eq_true rfl)⟩ (sp_X8_ideal td_s1) (fun r40 M40 h40 => ?_)
    obtain ⟨hr40, hM40⟩ := h40
    obtain rfl := hM40.symm
    have hr40 : r40 = wr := by rw [hr40, ← hwr]; split <;> omega
    obtain rfl := hr40.symm
    refine tr_aload_n (pc := 43) dX0_takeBack_43 rfl (by decide) ?_
    refine tr_getr (pc := 44) (x := 40) dX0_takeBack_44 fi0_11 rfl sg39 rfl ?_
    refine tr_aload_n (pc := 47) dX0_takeBack_47 rfl (by decide) ?_
    refine tr_getv (pc := 48) (ji := 2) (x := m) dX0_takeBack_48 fi0_20 rfl sg39 rfl (tk_mu_at _ _ _ _) ?_
    refine tr_aald (pc := 51) (x := 41 + 3 * m) dX0_takeBack_51 sg40 (by decide) (by omega) (by omega) (dd_get hm0.1 hm0.2) ?_
    refine tr_cVv1 (pc := 52) dX0_takeBack_52 mtX3_copy lv0_27 rfl hzq kc3 ⟨(Nat.le_of_ble_eq_true rfl), (Nat.le_of_ble_eq_true rfl)⟩ nlX3_copy (Nat.le_of_ble_eq_true rfl) ⟨(Nat.le_of_ble_eq_true rfl), (Nat.le_of_ble_eq_true rfl)⟩ (sp_X3_copy hwz hs (by omega) w3') (fun M52 h52 => ?_)
    obtain ⟨a1, f1⟩ := h52
    refine tr_aload_n (pc := 55) dX0_takeBack_55 rfl (by decide) ?_
    refine tr_dup (pc := 56) dX0_takeBack_56 (fun h => by cases h) ?_
    refine tr_getv (pc := 57) (ji := 3) (x := M 39 3) dX0_takeBack_57 fi0_24 rfl sg39 rfl (by rw [f1 39 (by omega), tk_mu_i (by omega)]) ?_
    refine tr_iconst (pc := 60) dX0_takeBack_60 ⟨by decide, by decide⟩ ?_
    refine tr_isub (pc := 61) dX0_takeBack_61 ⟨by omega, by omega⟩ ?_
    refine tr_puti (pc := 62) (ji := 3) dX0_takeBack_62 fi0_24 rfl (Or.inl rfl) (Or.inl rfl) sg39 rfl ?_
    refine tr_vret (pc := 65) dX0_takeBack_65 rfl ?_
    exact fin M52 a1 f1
