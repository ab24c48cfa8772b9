theorem cnd_set {C : cC} (h : cnd C) {g : List (Int × Int)} (hg : g.Nodup) (i : Int) : cnd (cset i g C) := by
  unfold cset
  split
  · exact ⟨hg, h.2.1, h.2.2⟩
  · exact ⟨h.1, hg, h.2.2⟩
theorem cnd_deed {C : cC} (h : cnd C) (i : Int) : cnd (cdeed i C) := ⟨h.1, h.2.1, fun q hq => by
  rcases List.mem_cons.mp (List.mem_of_mem_take hq) with h1 | h1
  · subst h1; exact h.sel i
  · exact h.2.2 q h1⟩
theorem cnd_gen {C : cC} (h : cnd C) (i a b : Int) : cnd (c_gen C i a b).2 := by
  unfold c_gen
  repeat' split
  all_goals first | exact h | skip
  exact cnd_set (cnd_deed h i) (nd_snoc (h.sel i) (ig_find_one.mp (by omega))) i
theorem cnd_drop {C : cC} (h : cnd C) (i k : Int) : cnd (c_drop C i k).2 := by
  unfold c_drop
  split
  · exact cnd_set (cnd_deed h i) (nd_erase (h.sel i) _) i
  · exact h
theorem cnd_clear {C : cC} (h : cnd C) (i : Int) : cnd (c_clear C i).2 := by
  unfold c_clear
  repeat' split
  all_goals first | exact h | exact cnd_set (cnd_deed h i) List.nodup_nil i
theorem cnd_merge {C : cC} (h : cnd C) (i : Int) : cnd (c_merge C i).2 := by
  unfold c_merge
  repeat' split
  all_goals first | exact h | exact cnd_set (cnd_deed h i) (nd_mrg _ _ (h.sel i)) i
theorem cnd_close {M : tk_M} {C : cC} (hC : Rg M C) (h : cnd C) (i : Int) : cnd (c_close C i).2 := by
  unfold c_close
  by_cases hi : 0 ≤ i ∧ i ≤ 1
  · rw [if_neg (fun h => h hi)]
    have hsel := hC.sel hi
    have hln := hsel.len
    have hpc := pc_eq (hl_fc_end (h.sel i) hsel.bd (by omega))
    split
    · exact h
    · split
      · exact h
      · refine cnd_set (cnd_deed h i) ?_ i
        rw [hpc.2 (by omega)]
        exact cnr_nd 100 0 (by omega)
  · rw [if_pos hi]; exact h
theorem cnd_back {C : cC} (h : cnd C) : cnd (c_back C).2 := by
  obtain ⟨g0, g1, D⟩ := C
  unfold c_back
  cases D with
  | nil => exact h
  | cons q D =>
    obtain ⟨w, g⟩ := q
    exact cnd_set (C := (g0, g1, D)) ⟨h.1, h.2.1, fun z hz => h.2.2 z (List.mem_cons_of_mem _ hz)⟩ (h.2.2 (w, g) List.mem_cons_self) w
theorem cnd_do {M : tk_M} {C : cC} (hC : Rg M C) (h : cnd C) (x a b c : Int) : cnd (c_do C x a b c).2 := by
  unfold c_do
  repeat' split
  · exact cnd_gen h _ _ _
  · exact cnd_drop h _ _
  · exact cnd_close hC h _
  · exact cnd_merge h _
  · exact cnd_clear h _
  · exact cnd_back h
theorem sp_X10_isDone {G : tk_G} {M : tk_M} {C : cC} {x : Int} (hC : Rg M C) (hnd : cnd C) : Spi G FX10_isDone [xR 101, xI x] SF M (fun v M' => v = (if (c_do C x (M 110 0) (M 110 1) (M 110 2)).1 < 0 then 0 else 1) ∧ Rg M' (c_do C x (M 110 0) (M 110 1) (M 110 2)).2 ∧ fR M M') := by
  refine Spi.of _ mtX10_isDone nlX10_isDone (Nat.le_of_ble_eq_true rfl) ?_
  show Ok G FX10_isDone 0 [xR 101, xI x] [] SF M 0 0 _
  refine tr_iload_n (pc := 0) dX10_isDone_0 rfl ?_
  rcases (by omega : x = 43 ∨ x = 45 ∨ x = 99 ∨ x = 109 ∨ x = 122 ∨ (x ≠ 43 ∧ x ≠ 45 ∧ x ≠ 99 ∧ x ≠ 109 ∧ x ≠ 122)) with c1 | c1 | c1 | c1 | c1 | c1
  · skip
    refine tr_lookup (pc := 1) (x := x) (off := 51) (tgt := 52) dX10_isDone_1 (by decide) (show Op.lookupswitch.offset [(43, 51), (45, 82), (99, 126), (109, 145), (122, 107)] 164 (x) = 51 by rw [Op.lookupswitch.offset_cons, if_pos (by omega)]) (by decide) ?_
    refine tr_aload_n (pc := 52) dX10_isDone_52 rfl (by decide) ?_
    refine tr_aload_n (pc := 53) dX10_isDone_53 rfl (by decide) ?_
    refine tr_getr (pc := 54) (x := 110) dX10_isDone_54 fi10_36 rfl sg101 rfl ?_
    refine tr_iconst (pc := 57) dX10_isDone_57 ⟨by decide, by decide⟩ ?_
    refine tr_iald (pc := 58) dX10_isDone_58 sg110 (by omega) (by omega) ?_
    refine tr_aload_n (pc := 59) dX10_isDone_59 rfl (by decide) ?_
    refine tr_getr (pc := 60) (x := 110) dX10_isDone_60 fi10_36 rfl sg101 rfl ?_
    refine tr_iconst (pc := 63) dX10_isDone_63 ⟨by decide, by decide⟩ ?_
    refine tr_iald (pc := 64) dX10_isDone_64 sg110 (by omega) (by omega) ?_
    refine tr_aload_n (pc := 65) dX10_isDone_65 rfl (by decide) ?_
    refine tr_getr (pc := 66) (x := 110) dX10_isDone_66 fi10_36 rfl sg101 rfl ?_
    refine tr_iconst (pc := 69) dX10_isDone_69 ⟨by decide, by decide⟩ ?_
    refine tr_iald (pc := 70) dX10_isDone_70 sg110 (by omega) (by omega) ?_
    refine tr_cVi3 (pc := 71) dX10_isDone_71 mtX10_generate lv10_188 rfl sg101 kc10 ⟨(Nat.le_of_ble_eq_true rfl), (Nat.le_of_ble_eq_true rfl)⟩ nlX10_generate (Nat.le_of_ble_eq_true rfl) ⟨(Nat.le_of_ble_eq_true rfl), (Nat.le_of_ble_eq_true rfl)⟩ (sp_X10_generate hC) (fun r71 M71 h71 => ?_)
    obtain ⟨hv, hC2, f2⟩ := h71
    obtain rfl := hv.symm
    refine tr_iflt (pc := 74) (tgt := 81) dX10_isDone_74 (by decide) (fun c74 => ?_) (fun c74 => ?_)
    · skip
      refine tr_iconst (pc := 81) dX10_isDone_81 ⟨by decide, by decide⟩ ?_
      refine tr_iretz (pc := 82) dX10_isDone_82 rfl (by omega) ?_
      unfold c_do
      first
      | rw [if_pos (show x = 43 by omega)]
        exact ⟨by omega, hC2, f2⟩
      | rw [if_neg (show ¬ x = 43 by omega), if_pos (show x = 45 by omega)]
        exact ⟨by omega, hC2, f2⟩
      | rw [if_neg (show ¬ x = 43 by omega), if_neg (show ¬ x = 45 by omega), if_pos (show x = 99 by omega)]
        exact ⟨by omega, hC2, f2⟩
      | rw [if_neg (show ¬ x = 43 by omega), if_neg (show ¬ x = 45 by omega), if_neg (show ¬ x = 99 by omega), if_pos (show x = 109 by omega)]
        exact ⟨by omega, hC2, f2⟩
      | rw [if_neg (show ¬ x = 43 by omega), if_neg (show ¬ x = 45 by omega), if_neg (show ¬ x = 99 by omega), if_neg (show ¬ x = 109 by omega), if_pos (show x = 122 by omega)]
        exact ⟨by omega, hC2, f2⟩
      | rw [if_neg (show ¬ x = 43 by omega), if_neg (show ¬ x = 45 by omega), if_neg (show ¬ x = 99 by omega), if_neg (show ¬ x = 109 by omega), if_neg (show ¬ x = 122 by omega)]
        exact ⟨by omega, hC2, f2⟩
    · skip
      refine tr_iconst (pc := 77) dX10_isDone_77 ⟨by decide, by decide⟩ ?_
      refine tr_goto (pc := 78) (tgt := 82) dX10_isDone_78 (by decide) ?_
      refine tr_iretz (pc := 82) dX10_isDone_82 rfl (by omega) ?_
      unfold c_do
      first
      | rw [if_pos (show x = 43 by omega)]
        exact ⟨by omega, hC2, f2⟩
      | rw [if_neg (show ¬ x = 43 by omega), if_pos (show x = 45 by omega)]
        exact ⟨by omega, hC2, f2⟩
      | rw [if_neg (show ¬ x = 43 by omega), if_neg (show ¬ x = 45 by omega), if_pos (show x = 99 by omega)]
        exact ⟨by omega, hC2, f2⟩
      | rw [if_neg (show ¬ x = 43 by omega), if_neg (show ¬ x = 45 by omega), if_neg (show ¬ x = 99 by omega), if_pos (show x = 109 by omega)]
        exact ⟨by omega, hC2, f2⟩
      | rw [if_neg (show ¬ x = 43 by omega), if_neg (show ¬ x = 45 by omega), if_neg (show ¬ x = 99 by omega), if_neg (show ¬ x = 109 by omega), if_pos (show x = 122 by omega)]
        exact ⟨by omega, hC2, f2⟩
      | rw [if_neg (show ¬ x = 43 by omega), if_neg (show ¬ x = 45 by omega), if_neg (show ¬ x = 99 by omega), if_neg (show ¬ x = 109 by omega), if_neg (show ¬ x = 122 by omega)]
        exact ⟨by omega, hC2, f2⟩
  · skip
    refine tr_lookup (pc := 1) (x := x) (off := 82) (tgt := 83) dX10_isDone_1 (by decide) (show Op.lookupswitch.offset [(43, 51), (45, 82), (99, 126), (109, 145), (122, 107)] 164 (x) = 82 by rw [Op.lookupswitch.offset_cons, if_neg (by omega), Op.lookupswitch.offset_cons, if_pos (by omega)]) (by decide) ?_
    refine tr_aload_n (pc := 83) dX10_isDone_83 rfl (by decide) ?_
    refine tr_aload_n (pc := 84) dX10_isDone_84 rfl (by decide) ?_
    refine tr_getr (pc := 85) (x := 110) dX10_isDone_85 fi10_36 rfl sg101 rfl ?_
    refine tr_iconst (pc := 88) dX10_isDone_88 ⟨by decide, by decide⟩ ?_
    refine tr_iald (pc := 89) dX10_isDone_89 sg110 (by omega) (by omega) ?_
    refine tr_aload_n (pc := 90) dX10_isDone_90 rfl (by decide) ?_
    refine tr_getr (pc := 91) (x := 110) dX10_isDone_91 fi10_36 rfl sg101 rfl ?_
    refine tr_iconst (pc := 94) dX10_isDone_94 ⟨by decide, by decide⟩ ?_
    refine tr_iald (pc := 95) dX10_isDone_95 sg110 (by omega) (by omega) ?_
    refine tr_cVi2 (pc := 96) dX10_isDone_96 mtX10_drop lv10_191 rfl sg101 kc10 ⟨(Nat.le_of_ble_eq_true rfl), (Nat.le_of_ble_eq_true rfl)⟩ nlX10_drop (Nat.le_of_ble_eq_true rfl) ⟨(Nat.le_of_ble_eq_true rfl), (Nat.le_of_ble_eq_true rfl)⟩ (sp_X10_drop hC) (fun r96 M96 h96 => ?_)
    obtain ⟨hv, hC2, f2⟩ := h96
    obtain rfl := hv.symm
    refine tr_iflt (pc := 99) (tgt := 106) dX10_isDone_99 (by decide) (fun c99 => ?_) (fun c99 => ?_)
    · skip
      refine tr_iconst (pc := 106) dX10_isDone_106 ⟨by decide, by decide⟩ ?_
      refine tr_iretz (pc := 107) dX10_isDone_107 rfl (by omega) ?_
      unfold c_do
      first
      | rw [if_pos (show x = 43 by omega)]
        exact ⟨by omega, hC2, f2⟩
      | rw [if_neg (show ¬ x = 43 by omega), if_pos (show x = 45 by omega)]
        exact ⟨by omega, hC2, f2⟩
      | rw [if_neg (show ¬ x = 43 by omega), if_neg (show ¬ x = 45 by omega), if_pos (show x = 99 by omega)]
        exact ⟨by omega, hC2, f2⟩
      | rw [if_neg (show ¬ x = 43 by omega), if_neg (show ¬ x = 45 by omega), if_neg (show ¬ x = 99 by omega), if_pos (show x = 109 by omega)]
        exact ⟨by omega, hC2, f2⟩
      | rw [if_neg (show ¬ x = 43 by omega), if_neg (show ¬ x = 45 by omega), if_neg (show ¬ x = 99 by omega), if_neg (show ¬ x = 109 by omega), if_pos (show x = 122 by omega)]
        exact ⟨by omega, hC2, f2⟩
      | rw [if_neg (show ¬ x = 43 by omega), if_neg (show ¬ x = 45 by omega), if_neg (show ¬ x = 99 by omega), if_neg (show ¬ x = 109 by omega), if_neg (show ¬ x = 122 by omega)]
        exact ⟨by omega, hC2, f2⟩
    · skip
      refine tr_iconst (pc := 102) dX10_isDone_102 ⟨by decide, by decide⟩ ?_
      refine tr_goto (pc := 103) (tgt := 107) dX10_isDone_103 (by decide) ?_
      refine tr_iretz (pc := 107) dX10_isDone_107 rfl (by omega) ?_
      unfold c_do
      first
      | rw [if_pos (show x = 43 by omega)]
        exact ⟨by omega, hC2, f2⟩
      | rw [if_neg (show ¬ x = 43 by omega), if_pos (show x = 45 by omega)]
        exact ⟨by omega, hC2, f2⟩
      | rw [if_neg (show ¬ x = 43 by omega), if_neg (show ¬ x = 45 by omega), if_pos (show x = 99 by omega)]
        exact ⟨by omega, hC2, f2⟩
      | rw [if_neg (show ¬ x = 43 by omega), if_neg (show ¬ x = 45 by omega), if_neg (show ¬ x = 99 by omega), if_pos (show x = 109 by omega)]
        exact ⟨by omega, hC2, f2⟩
      | rw [if_neg (show ¬ x = 43 by omega), if_neg (show ¬ x = 45 by omega), if_neg (show ¬ x = 99 by omega), if_neg (show ¬ x = 109 by omega), if_pos (show x = 122 by omega)]
        exact ⟨by omega, hC2, f2⟩
      | rw [if_neg (show ¬ x = 43 by omega), if_neg (show ¬ x = 45 by omega), if_neg (show ¬ x = 99 by omega), if_neg (show ¬ x = 109 by omega), if_neg (show ¬ x = 122 by omega)]
        exact ⟨by omega, hC2, f2⟩
  · skip
    refine tr_lookup (pc := 1) (x := x) (off := 126) (tgt := 127) dX10_isDone_1 (by decide) (show Op.lookupswitch.offset [(43, 51), (45, 82), (99, 126), (109, 145), (122, 107)] 164 (x) = 126 by rw [Op.lookupswitch.offset_cons, if_neg (by omega), Op.lookupswitch.offset_cons, if_neg (by omega), Op.lookupswitch.offset_cons, if_pos (by omega)]) (by decide) ?_
    refine tr_aload_n (pc := 127) dX10_isDone_127 rfl (by decide) ?_
    refine tr_aload_n (pc := 128) dX10_isDone_128 rfl (by decide) ?_
    refine tr_getr (pc := 129) (x := 110) dX10_isDone_129 fi10_36 rfl sg101 rfl ?_
    refine tr_iconst (pc := 132) dX10_isDone_132 ⟨by decide, by decide⟩ ?_
    refine tr_iald (pc := 133) dX10_isDone_133 sg110 (by omega) (by omega) ?_
    refine tr_cVi1 (pc := 134) dX10_isDone_134 mtX10_close lv10_197 rfl sg101 kc10 ⟨(Nat.le_of_ble_eq_true rfl), (Nat.le_of_ble_eq_true rfl)⟩ nlX10_close (Nat.le_of_ble_eq_true rfl) ⟨(Nat.le_of_ble_eq_true rfl), (Nat.le_of_ble_eq_true rfl)⟩ (sp_X10_close hC hnd) (fun r134 M134 h134 => ?_)
    obtain ⟨hv, hC2, f2⟩ := h134
    obtain rfl := hv.symm
    refine tr_iflt (pc := 137) (tgt := 144) dX10_isDone_137 (by decide) (fun c137 => ?_) (fun c137 => ?_)
    · skip
      refine tr_iconst (pc := 144) dX10_isDone_144 ⟨by decide, by decide⟩ ?_
      refine tr_iretz (pc := 145) dX10_isDone_145 rfl (by omega) ?_
      unfold c_do
      first
      | rw [if_pos (show x = 43 by omega)]
        exact ⟨by omega, hC2, f2⟩
      | rw [if_neg (show ¬ x = 43 by omega), if_pos (show x = 45 by omega)]
        exact ⟨by omega, hC2, f2⟩
      | rw [if_neg (show ¬ x = 43 by omega), if_neg (show ¬ x = 45 by omega), if_pos (show x = 99 by omega)]
        exact ⟨by omega, hC2, f2⟩
      | rw [if_neg (show ¬ x = 43 by omega), if_neg (show ¬ x = 45 by omega), if_neg (show ¬ x = 99 by omega), if_pos (show x = 109 by omega)]
        exact ⟨by omega, hC2, f2⟩
      | rw [if_neg (show ¬ x = 43 by omega), if_neg (show ¬ x = 45 by omega), if_neg (show ¬ x = 99 by omega), if_neg (show ¬ x = 109 by omega), if_pos (show x = 122 by omega)]
        exact ⟨by omega, hC2, f2⟩
      | rw [if_neg (show ¬ x = 43 by omega), if_neg (show ¬ x = 45 by omega), if_neg (show ¬ x = 99 by omega), if_neg (show ¬ x = 109 by omega), if_neg (show ¬ x = 122 by omega)]
        exact ⟨by omega, hC2, f2⟩
    · skip
      refine tr_iconst (pc := 140) dX10_isDone_140 ⟨by decide, by decide⟩ ?_
      refine tr_goto (pc := 141) (tgt := 145) dX10_isDone_141 (by decide) ?_
      refine tr_iretz (pc := 145) dX10_isDone_145 rfl (by omega) ?_
      unfold c_do
      first
      | rw [if_pos (show x = 43 by omega)]
        exact ⟨by omega, hC2, f2⟩
      | rw [if_neg (show ¬ x = 43 by omega), if_pos (show x = 45 by omega)]
        exact ⟨by omega, hC2, f2⟩
      | rw [if_neg (show ¬ x = 43 by omega), if_neg (show ¬ x = 45 by omega), if_pos (show x = 99 by omega)]
        exact ⟨by omega, hC2, f2⟩
      | rw [if_neg (show ¬ x = 43 by omega), if_neg (show ¬ x = 45 by omega), if_neg (show ¬ x = 99 by omega), if_pos (show x = 109 by omega)]
        exact ⟨by omega, hC2, f2⟩
      | rw [if_neg (show ¬ x = 43 by omega), if_neg (show ¬ x = 45 by omega), if_neg (show ¬ x = 99 by omega), if_neg (show ¬ x = 109 by omega), if_pos (show x = 122 by omega)]
        exact ⟨by omega, hC2, f2⟩
      | rw [if_neg (show ¬ x = 43 by omega), if_neg (show ¬ x = 45 by omega), if_neg (show ¬ x = 99 by omega), if_neg (show ¬ x = 109 by omega), if_neg (show ¬ x = 122 by omega)]
        exact ⟨by omega, hC2, f2⟩
  · skip
    refine tr_lookup (pc := 1) (x := x) (off := 145) (tgt := 146) dX10_isDone_1 (by decide) (show Op.lookupswitch.offset [(43, 51), (45, 82), (99, 126), (109, 145), (122, 107)] 164 (x) = 145 by rw [Op.lookupswitch.offset_cons, if_neg (by omega), Op.lookupswitch.offset_cons, if_neg (by omega), Op.lookupswitch.offset_cons, if_neg (by omega), Op.lookupswitch.offset_cons, if_pos (by omega)]) (by decide) ?_
    refine tr_aload_n (pc := 146) dX10_isDone_146 rfl (by decide) ?_
    refine tr_aload_n (pc := 147) dX10_isDone_147 rfl (by decide) ?_
    refine tr_getr (pc := 148) (x := 110) dX10_isDone_148 fi10_36 rfl sg101 rfl ?_
    refine tr_iconst (pc := 151) dX10_isDone_151 ⟨by decide, by decide⟩ ?_
    refine tr_iald (pc := 152) dX10_isDone_152 sg110 (by omega) (by omega) ?_
    refine tr_cVi1 (pc := 153) dX10_isDone_153 mtX10_merge lv10_200 rfl sg101 kc10 ⟨(Nat.le_of_ble_eq_true rfl), (Nat.le_of_ble_eq_true rfl)⟩ nlX10_merge (Nat.le_of_ble_eq_true rfl) ⟨(Nat.le_of_ble_eq_true rfl), (Nat.le_of_ble_eq_true rfl)⟩ (sp_X10_merge hC) (fun r153 M153 h153 => ?_)
    obtain ⟨hv, hC2, f2⟩ := h153
    obtain rfl := hv.symm
    refine tr_iflt (pc := 156) (tgt := 163) dX10_isDone_156 (by decide) (fun c156 => ?_) (fun c156 => ?_)
    · skip
      refine tr_iconst (pc := 163) dX10_isDone_163 ⟨by decide, by decide⟩ ?_
      refine tr_iretz (pc := 164) dX10_isDone_164 rfl (by omega) ?_
      unfold c_do
      first
      | rw [if_pos (show x = 43 by omega)]
        exact ⟨by omega, hC2, f2⟩
      | rw [if_neg (show ¬ x = 43 by omega), if_pos (show x = 45 by omega)]
        exact ⟨by omega, hC2, f2⟩
      | rw [if_neg (show ¬ x = 43 by omega), if_neg (show ¬ x = 45 by omega), if_pos (show x = 99 by omega)]
        exact ⟨by omega, hC2, f2⟩
      | rw [if_neg (show ¬ x = 43 by omega), if_neg (show ¬ x = 45 by omega), if_neg (show ¬ x = 99 by omega), if_pos (show x = 109 by omega)]
        exact ⟨by omega, hC2, f2⟩
      | rw [if_neg (show ¬ x = 43 by omega), if_neg (show ¬ x = 45 by omega), if_neg (show ¬ x = 99 by omega), if_neg (show ¬ x = 109 by omega), if_pos (show x = 122 by omega)]
        exact ⟨by omega, hC2, f2⟩
      | rw [if_neg (show ¬ x = 43 by omega), if_neg (show ¬ x = 45 by omega), if_neg (show ¬ x = 99 by omega), if_neg (show ¬ x = 109 by omega), if_neg (show ¬ x = 122 by omega)]
        exact ⟨by omega, hC2, f2⟩
    · skip
      refine tr_iconst (pc := 159) dX10_isDone_159 ⟨by decide, by decide⟩ ?_
      refine tr_goto (pc := 160) (tgt := 164) dX10_isDone_160 (by decide) ?_
      refine tr_iretz (pc := 164) dX10_isDone_164 rfl (by omega) ?_
      unfold c_do
      first
      | rw [if_pos (show x = 43 by omega)]
        exact ⟨by omega, hC2, f2⟩
      | rw [if_neg (show ¬ x = 43 by omega), if_pos (show x = 45 by omega)]
        exact ⟨by omega, hC2, f2⟩
      | rw [if_neg (show ¬ x = 43 by omega), if_neg (show ¬ x = 45 by omega), if_pos (show x = 99 by omega)]
        exact ⟨by omega, hC2, f2⟩
      | rw [if_neg (show ¬ x = 43 by omega), if_neg (show ¬ x = 45 by omega), if_neg (show ¬ x = 99 by omega), if_pos (show x = 109 by omega)]
        exact ⟨by omega, hC2, f2⟩
      | rw [if_neg (show ¬ x = 43 by omega), if_neg (show ¬ x = 45 by omega), if_neg (show ¬ x = 99 by omega), if_neg (show ¬ x = 109 by omega), if_pos (show x = 122 by omega)]
        exact ⟨by omega, hC2, f2⟩
      | rw [if_neg (show ¬ x = 43 by omega), if_neg (show ¬ x = 45 by omega), if_neg (show ¬ x = 99 by omega), if_neg (show ¬ x = 109 by omega), if_neg (show ¬ x = 122 by omega)]
        exact ⟨by omega, hC2, f2⟩
  · skip
    refine tr_lookup (pc := 1) (x := x) (off := 107) (tgt := 108) dX10_isDone_1 (by decide) (show Op.lookupswitch.offset [(43, 51), (45, 82), (99, 126), (109, 145), (122, 107)] 164 (x) = 107 by rw [Op.lookupswitch.offset_cons, if_neg (by omega), Op.lookupswitch.offset_cons, if_neg (by omega), Op.lookupswitch.offset_cons, if_neg (by omega), Op.lookupswitch.offset_cons, if_neg (by omega), Op.lookupswitch.offset_cons, if_pos (by omega)]) (by decide) ?_
    refine tr_aload_n (pc := 108) dX10_isDone_108 rfl (by decide) ?_
    refine tr_aload_n (pc := 109) dX10_isDone_109 rfl (by decide) ?_
    refine tr_getr (pc := 110) (x := 110) dX10_isDone_110 fi10_36 rfl sg101 rfl ?_
    refine tr_iconst (pc := 113) dX10_isDone_113 ⟨by decide, by decide⟩ ?_
    refine tr_iald (pc := 114) dX10_isDone_114 sg110 (by omega) (by omega) ?_
    refine tr_cVi1 (pc := 115) dX10_isDone_115 mtX10_clear lv10_194 rfl sg101 kc10 ⟨(Nat.le_of_ble_eq_true rfl), (Nat.le_of_ble_eq_true rfl)⟩ nlX10_clear (Nat.le_of_ble_eq_true rfl) ⟨(Nat.le_of_ble_eq_true rfl), (Nat.le_of_ble_eq_true rfl)⟩ (sp_X10_clear hC) (fun r115 M115 h115 => ?_)
    obtain ⟨hv, hC2, f2⟩ := h115
    obtain rfl := hv.symm
    refine tr_iflt (pc := 118) (tgt := 125) dX10_isDone_118 (by decide) (fun c118 => ?_) (fun c118 => ?_)
    · skip
      refine tr_iconst (pc := 125) dX10_isDone_125 ⟨by decide, by decide⟩ ?_
      refine tr_iretz (pc := 126) dX10_isDone_126 rfl (by omega) ?_
      unfold c_do
      first
      | rw [if_pos (show x = 43 by omega)]
        exact ⟨by omega, hC2, f2⟩
      | rw [if_neg (show ¬ x = 43 by omega), if_pos (show x = 45 by omega)]
        exact ⟨by omega, hC2, f2⟩
      | rw [if_neg (show ¬ x = 43 by omega), if_neg (show ¬ x = 45 by omega), if_pos (show x = 99 by omega)]
        exact ⟨by omega, hC2, f2⟩
      | rw [if_neg (show ¬ x = 43 by omega), if_neg (show ¬ x = 45 by omega), if_neg (show ¬ x = 99 by omega), if_pos (show x = 109 by omega)]
        exact ⟨by omega, hC2, f2⟩
      | rw [if_neg (show ¬ x = 43 by omega), if_neg (show ¬ x = 45 by omega), if_neg (show ¬ x = 99 by omega), if_neg (show ¬ x = 109 by omega), if_pos (show x = 122 by omega)]
        exact ⟨by omega, hC2, f2⟩
      | rw [if_neg (show ¬ x = 43 by omega), if_neg (show ¬ x = 45 by omega), if_neg (show ¬ x = 99 by omega), if_neg (show ¬ x = 109 by omega), if_neg (show ¬ x = 122 by omega)]
        exact ⟨by omega, hC2, f2⟩
    · skip
      refine tr_iconst (pc := 121) dX10_isDone_121 ⟨by decide, by decide⟩ ?_
      refine tr_goto (pc := 122) (tgt := 126) dX10_isDone_122 (by decide) ?_
      refine tr_iretz (pc := 126) dX10_isDone_126 rfl (by omega) ?_
      unfold c_do
      first
      | rw [if_pos (show x = 43 by omega)]
        exact ⟨by omega, hC2, f2⟩
      | rw [if_neg (show ¬ x = 43 by omega), if_pos (show x = 45 by omega)]
        exact ⟨by omega, hC2, f2⟩
      | rw [if_neg (show ¬ x = 43 by omega), if_neg (show ¬ x = 45 by omega), if_pos (show x = 99 by omega)]
        exact ⟨by omega, hC2, f2⟩
      | rw [if_neg (show ¬ x = 43 by omega), if_neg (show ¬ x = 45 by omega), if_neg (show ¬ x = 99 by omega), if_pos (show x = 109 by omega)]
        exact ⟨by omega, hC2, f2⟩
      | rw [if_neg (show ¬ x = 43 by omega), if_neg (show ¬ x = 45 by omega), if_neg (show ¬ x = 99 by omega), if_neg (show ¬ x = 109 by omega), if_pos (show x = 122 by omega)]
        exact ⟨by omega, hC2, f2⟩
      | rw [if_neg (show ¬ x = 43 by omega), if_neg (show ¬ x = 45 by omega), if_neg (show ¬ x = 99 by omega), if_neg (show ¬ x = 109 by omega), if_neg (show ¬ x = 122 by omega)]
        exact ⟨by omega, hC2, f2⟩
  · skip
    refine tr_lookup (pc := 1) (x := x) (off := 164) (tgt := 165) dX10_isDone_1 (by decide) (show Op.lookupswitch.offset [(43, 51), (45, 82), (99, 126), (109, 145), (122, 107)] 164 (x) = 164 by rw [Op.lookupswitch.offset_cons, if_neg (by omega), Op.lookupswitch.offset_cons, if_neg (by omega), Op.lookupswitch.offset_cons, if_neg (by omega), Op.lookupswitch.offset_cons, if_neg (by omega), Op.lookupswitch.offset_cons, if_neg (by omega)]; rfl) (by decide) ?_
    refine tr_aload_n (pc := 165) dX10_isDone_165 rfl (by decide) ?_
    refine tr_cVi0 (pc := 166) dX10_isDone_166 mtX10_back lv10_203 rfl sg101 kc10 ⟨(Nat.le_of_ble_eq_true rfl), (Nat.le_of_ble_eq_true rfl)⟩ nlX10_back (Nat.le_of_ble_eq_true rfl) ⟨(Nat.le_of_ble_eq_true rfl), (Nat.le_of_ble_eq_true rfl)⟩ (sp_X10_back hC) (fun r166 M166 h166 => ?_)
    obtain ⟨hv, hC2, f2⟩ := h166
    obtain rfl := hv.symm
    refine tr_iflt (pc := 169) (tgt := 176) dX10_isDone_169 (by decide) (fun c169 => ?_) (fun c169 => ?_)
    · skip
      refine tr_iconst (pc := 176) dX10_isDone_176 ⟨by decide, by decide⟩ ?_
      refine tr_iretz (pc := 177) dX10_isDone_177 rfl (by omega) ?_
      unfold c_do
      first
      | rw [if_pos (show x = 43 by omega)]
        exact ⟨by omega, hC2, f2⟩
      | rw [if_neg (show ¬ x = 43 by omega), if_pos (show x = 45 by omega)]
        exact ⟨by omega, hC2, f2⟩
      | rw [if_neg (show ¬ x = 43 by omega), if_neg (show ¬ x = 45 by omega), if_pos (show x = 99 by omega)]
        exact ⟨by omega, hC2, f2⟩
      | rw [if_neg (show ¬ x = 43 by omega), if_neg (show ¬ x = 45 by omega), if_neg (show ¬ x = 99 by omega), if_pos (show x = 109 by omega)]
        exact ⟨by omega, hC2, f2⟩
      | rw [if_neg (show ¬ x = 43 by omega), if_neg (show ¬ x = 45 by omega), if_neg (show ¬ x = 99 by omega), if_neg (show ¬ x = 109 by omega), if_pos (show x = 122 by omega)]
        exact ⟨by omega, hC2, f2⟩
      | rw [if_neg (show ¬ x = 43 by omega), if_neg (show ¬ x = 45 by omega), if_neg (show ¬ x = 99 by omega), if_neg (show ¬ x = 109 by omega), if_neg (show ¬ x = 122 by omega)]
        exact ⟨by omega, hC2, f2⟩
    · skip
      refine tr_iconst (pc := 172) dX10_isDone_172 ⟨by decide, by decide⟩ ?_
      refine tr_goto (pc := 173) (tgt := 177) dX10_isDone_173 (by decide) ?_
      refine tr_iretz (pc := 177) dX10_isDone_177 rfl (by omega) ?_
      unfold c_do
      first
      | rw [if_pos (show x = 43 by omega)]
        exact ⟨by omega, hC2, f2⟩
      | rw [if_neg (show ¬ x = 43 by omega), if_pos (show x = 45 by omega)]
        exact ⟨by omega, hC2, f2⟩
      | rw [if_neg (show ¬ x = 43 by omega), if_neg (show ¬ x = 45 by omega), if_pos (show x = 99 by omega)]
        exact ⟨by omega, hC2, f2⟩
      | rw [if_neg (show ¬ x = 43 by omega), if_neg (show ¬ x = 45 by omega), if_neg (show ¬ x = 99 by omega), if_pos (show x = 109 by omega)]
        exact ⟨by omega, hC2, f2⟩
      | rw [if_neg (show ¬ x = 43 by omega), if_neg (show ¬ x = 45 by omega), if_neg (show ¬ x = 99 by omega), if_neg (show ¬ x = 109 by omega), if_pos (show x = 122 by omega)]
        exact ⟨by omega, hC2, f2⟩
      | rw [if_neg (show ¬ x = 43 by omega), if_neg (show ¬ x = 45 by omega), if_neg (show ¬ x = 99 by omega), if_neg (show ¬ x = 109 by omega), if_neg (show ¬ x = 122 by omega)]
        exact ⟨by omega, hC2, f2⟩
theorem c_do_eq {C : cC} {x a b c a' b' c' : Int} (h : ∀ k, 0 ≤ k → k < tx_len x - 1 → (k = 0 → a = a') ∧ (k = 1 → b = b') ∧ (k = 2 → c = c')) : c_do C x a b c = c_do C x a' b' c' := by
  unfold c_do
  unfold tx_len at h
  by_cases h1 : x = 43
  · rw [if_pos h1] at h
    rw [if_pos h1, if_pos h1, (h 0 (by omega) (by omega)).1 rfl, (h 1 (by omega) (by omega)).2.1 rfl, (h 2 (by omega) (by omega)).2.2 rfl]
  · rw [if_neg h1] at h
    rw [if_neg h1, if_neg h1]
    by_cases h2 : x = 45
    · rw [if_pos h2] at h
      rw [if_pos h2, if_pos h2, (h 0 (by omega) (by omega)).1 rfl, (h 1 (by omega) (by omega)).2.1 rfl]
    · rw [if_neg h2] at h
      rw [if_neg h2, if_neg h2]
      by_cases h3 : x = 99 ∨ x = 109 ∨ x = 122
      · rw [if_pos h3] at h
        rw [(h 0 (by omega) (by omega)).1 rfl]
      · rw [if_neg (show ¬ x = 99 by omega), if_neg (show ¬ x = 99 by omega), if_neg (show ¬ x = 109 by omega), if_neg (show ¬ x = 109 by omega), if_neg (show ¬ x = 122 by omega), if_neg (show ¬ x = 122 by omega)]
/-- what read leaves alone -/
def fD (M M' : tk_M) : Prop := (∀ c : Int, (c < 101 ∨ c = 109 ∨ 114 ≤ c) → M' c = M c) ∧ ∀ j : Int, j ≠ 3 → j ≠ 10 → j ≠ 12 → M' 101 j = M 101 j
theorem fD.rf {M : tk_M} : fD M M := ⟨fun _ _ => rfl, fun _ _ _ _ => rfl⟩
theorem fD.trans {M M1 M2 : tk_M} (h1 : fD M M1) (h2 : fD M1 M2) : fD M M2 := ⟨fun c a => (h2.1 c a).trans (h1.1 c a), fun j a b d => (h2.2 j a b d).trans (h1.2 j a b d)⟩
theorem fD.ty {M M1 : tk_M} (h : tyf M M1) : fD M M1 := ⟨fun c a => h.1 c (by omega) (by omega), fun j _ a _ => h.2 j a⟩
theorem fD.rr {M M1 : tk_M} (h : fR M M1) : fD M M1 := ⟨fun c a => h.1 c (by omega), fun j a _ b => h.2 j a b⟩
theorem Rg.ty {M M1 : tk_M} {C : cC} (h : Rg M C) (hf : tyf M M1) : Rg M1 C := ⟨h.1.same (hf.1 _ (by omega) (by omega)) (hf.1 _ (by omega) (by omega)) (hf.1 _ (by omega) (by omega)), h.2.1.same (hf.1 _ (by omega) (by omega)) (hf.1 _ (by omega) (by omega)) (hf.1 _ (by omega) (by omega)), h.2.2.frame (hf.2 3 (by omega)) (fun c _ _ => hf.1 c (by omega) (by omega))⟩
theorem sp_X10_read {G : tk_G} {M : tk_M} {C : cC} (hC : Rg M C) (hnd : cnd C) (ht : ty_ok M) : Spi G FX10_read [xR 101] SF M (fun v M' => v = (c_read (ty_g M) (M 101 9) C).1 ∧ Rg M' (c_read (ty_g M) (M 101 9) C).2 ∧ cnd (c_read (ty_g M) (M 101 9) C).2 ∧ M' 101 9 = 0 ∧ (∀ c : Int, (c < 101 ∨ c = 109 ∨ 114 ≤ c) → M' c = M c) ∧ ∀ j : Int, j ≠ 3 → j ≠ 9 → j ≠ 10 → j ≠ 12 → M' 101 j = M 101 j) := by
  have t0 := ht.1
  have t1 := ht.2.1
  refine Spi.of _ mtX10_read nlX10_read (Nat.le_of_ble_eq_true rfl) ?_
  show Ok G FX10_read 0 [xR 101, xU, xU, xU] [] SF M 0 0 _
  have fin : ∀ (M1 : tk_M) (C1 : cC), fD M M1 → Rg M1 C1 → Rg (tk_mu M1 101 9 0) C1 ∧ tk_mu M1 101 9 0 101 9 = 0 ∧ (∀ c : Int, (c < 101 ∨ c = 109 ∨ 114 ≤ c) → tk_mu M1 101 9 0 c = M c) ∧ ∀ j : Int, j ≠ 3 → j ≠ 9 → j ≠ 10 → j ≠ 12 → tk_mu M1 101 9 0 101 j = M 101 j := by
    intro M1 C1 hf h
    refine ⟨⟨h.1.same (tk_mu_c (by omega)) (tk_mu_c (by omega)) (tk_mu_c (by omega)), h.2.1.same (tk_mu_c (by omega)) (tk_mu_c (by omega)) (tk_mu_c (by omega)), h.2.2.frame (tk_mu_i (by omega)) (fun c _ _ => tk_mu_c (by omega))⟩, tk_mu_at _ _ _ _, fun c hc => (tk_mu_c (by omega)).trans (hf.1 c hc), fun j j3 j9 j10 j12 => (tk_mu_i j9).trans (hf.2 j j3 j10 j12)⟩
  have loop : ∀ (m : Int), m ≤ 12 → ∀ (r : Nat) (f : Nat) (k p dn : Int) (C1 : cC) (M1 : tk_M), k + r = m → 0 ≤ k → r ≤ f → 0 ≤ p → wfc (ty_g M) (M 101 9) r p → 0 ≤ dn → dn ≤ k → M1 101 10 = p → Rg M1 C1 → cnd C1 → fD M M1 → Ok G FX10_read 32 [xR 101, xI m, xI dn, xI k] [] SF M1 0 0 (tk_qi SF (fun v M' => v = (c_dos (ty_g M) (M 101 9) f p dn C1).1 ∧ Rg M' (c_dos (ty_g M) (M 101 9) f p dn C1).2 ∧ cnd (c_dos (ty_g M) (M 101 9) f p dn C1).2 ∧ M' 101 9 = 0 ∧ (∀ c : Int, (c < 101 ∨ c = 109 ∨ 114 ≤ c) → M' c = M c) ∧ ∀ j : Int, j ≠ 3 → j ≠ 9 → j ≠ 10 → j ≠ 12 → M' 101 j = M 101 j)) := by
    intro m hm12 r
    induction r with
    | zero =>
      intro f k p dn C1 M1 hk k0 hf0 p0 hw d0 d1 hat hC1 hn1 hf
      have hw : p = M 101 9 + 1 := hw
      have e : c_dos (ty_g M) (M 101 9) f p dn C1 = (dn, C1) := by
        cases f with
        | zero => rfl
        | succ f => exact if_neg (by omega)
      rw [e]
      refine tr_iload_n (pc := 32) dX10_read_32 rfl ?_
      refine tr_iload_n (pc := 33) dX10_read_33 rfl ?_
      refine tr_icmpge (pc := 34) (tgt := 72) dX10_read_34 (by decide) (fun c34 => ?_) (fun c34 => absurd c34 (by omega))
      refine tr_aload_n (pc := 72) dX10_read_72 rfl (by decide) ?_
      refine tr_iconst (pc := 73) dX10_read_73 ⟨by decide, by decide⟩ ?_
      refine tr_puti (pc := 74) (ji := 9) dX10_read_74 fi10_174 rfl (Or.inl rfl) (Or.inl rfl) sg101 rfl ?_
      refine tr_iload_n (pc := 77) dX10_read_77 rfl ?_
      refine tr_ireti (pc := 78) dX10_read_78 rfl ?_
      obtain ⟨q1, q2, q3, q4⟩ := fin M1 C1 hf hC1
      exact ⟨rfl, q1, hn1, q2, q3, q4⟩
    | succ r ih =>
      intro f k p dn C1 M1 hk k0 hf0 p0 hw d0 d1 hat hC1 hn1 hf
      obtain ⟨w1, w2, w3⟩ := hw
      have hl := tx_len_r (ty_g M p)
      have hpn : p < M 101 9 := by
        apply Classical.byContradiction
        intro h
        have e : ty_g M p = -1 := if_neg (by omega)
        rw [e] at w1
        exact w1 (by decide)
      match f, hf0 with
      | f + 1, hf0 =>
        have e : c_dos (ty_g M) (M 101 9) (f + 1) p dn C1 = c_dos (ty_g M) (M 101 9) f (p + (tx_len (ty_g M p) + 1)) (if (c_do C1 (ty_g M p) (ty_g M (p + 1) - 48) (ty_g M (p + 2) - 48) (ty_g M (p + 3) - 48)).1 < 0 then dn else dn + 1) (c_do C1 (ty_g M p) (ty_g M (p + 1) - 48) (ty_g M (p + 2) - 48) (ty_g M (p + 3) - 48)).2 := if_pos hpn
        rw [e]
        have e9 : M1 101 9 = M 101 9 := hf.2 9 (by omega) (by omega) (by omega)
        have e109 : M1 109 = M 109 := hf.1 109 (by omega)
        have eg' := ty_g_fr e9 e109
        have ht1 := ht.fr e9 e109
        refine tr_iload_n (pc := 32) dX10_read_32 rfl ?_
        refine tr_iload_n (pc := 33) dX10_read_33 rfl ?_
        refine tr_icmpge (pc := 34) (tgt := 72) dX10_read_34 (by decide) (fun c34 => absurd c34 (by omega)) (fun c34 => ?_)
        refine tr_iload_n (pc := 37) dX10_read_37 rfl ?_
        refine tr_aload_n (pc := 38) dX10_read_38 rfl (by decide) ?_
        refine tr_aload_n (pc := 39) dX10_read_39 rfl (by decide) ?_
        refine tr_cVi0 (pc := 40) dX10_read_40 mtX10_clause lv10_207 rfl sg101 kc10 ⟨(Nat.le_of_ble_eq_true rfl), (Nat.le_of_ble_eq_true rfl)⟩ nlX10_clause (Nat.le_of_ble_eq_true rfl) ⟨(Nat.le_of_ble_eq_true rfl), (Nat.le_of_ble_eq_true rfl)⟩ (sp_X10_clause ht1 (by omega)) (fun r40 M40 h40 => ?_)
        unfold cl_post at h40
        rw [hat, eg', e9] at h40
        obtain ⟨hv, f1'⟩ := h40
        obtain ⟨-, -, v1, v2, v3, v4⟩ := (hv.resolve_left (fun h => w1 h.1)).resolve_left (fun h => w2 h.2.1)
        obtain rfl := v1.symm
        have f1 : fD M M40 := hf.trans (fD.ty f1')
        have hC2 := hC1.ty f1'
        have ed : c_do C1 (ty_g M p) (M40 110 0) (M40 110 1) (M40 110 2) = c_do C1 (ty_g M p) (ty_g M (p + 1) - 48) (ty_g M (p + 2) - 48) (ty_g M (p + 3) - 48) := c_do_eq (fun k k0 k1 => ⟨fun h => by subst h; rw [v4 0 k0 k1, Int.add_zero], fun h => by subst h; rw [v4 1 k0 k1, show p + 1 + 1 = p + 2 by omega], fun h => by subst h; rw [v4 2 k0 k1, show p + 1 + 2 = p + 3 by omega]⟩)
        refine tr_cVi1 (pc := 43) dX10_read_43 mtX10_isDone lv10_213 rfl sg101 kc10 ⟨(Nat.le_of_ble_eq_true rfl), (Nat.le_of_ble_eq_true rfl)⟩ nlX10_isDone (Nat.le_of_ble_eq_true rfl) ⟨(Nat.le_of_ble_eq_true rfl), (Nat.le_of_ble_eq_true rfl)⟩ (sp_X10_isDone hC2 hn1) (fun r43 M43 h43 => ?_)
        rw [ed] at h43
        obtain ⟨hr43, hC3, f2⟩ := h43
        have hn3 := cnd_do hC2 hn1 (ty_g M p) (ty_g M (p + 1) - 48) (ty_g M (p + 2) - 48) (ty_g M (p + 3) - 48)
        have f3 := f1.trans (fD.rr f2)
        have e10 : M43 101 10 = p + tx_len (ty_g M p) := (f2.2 10 (by omega) (by omega)).trans v2
        generalize c_do C1 (ty_g M p) (ty_g M (p + 1) - 48) (ty_g M (p + 2) - 48) (ty_g M (p + 3) - 48) = Z at hr43 hC3 hn3 ⊢
        refine tr_ifeq (pc := 46) (tgt := 53) dX10_read_46 (by decide) (fun c46 => ?_) (fun c46 => ?_)
        · skip
          refine tr_iconst (pc := 53) dX10_read_53 ⟨by decide, by decide⟩ ?_
          refine tr_iadd (pc := 54) dX10_read_54 ⟨by omega, by omega⟩ ?_
          refine tr_istore_n (pc := 55) dX10_read_55 rfl (Nat.le_of_ble_eq_true rfl) ?_
          dsimp only [List.set]
          refine tr_aload_n (pc := 56) dX10_read_56 rfl (by decide) ?_
          refine tr_dup (pc := 57) dX10_read_57 (fun h => by cases h) ?_
          refine tr_getv (pc := 58) (ji := 10) (x := p + tx_len (ty_g M p)) dX10_read_58 fi10_177 rfl sg101 rfl (e10) ?_
          refine tr_iconst (pc := 61) dX10_read_61 ⟨by decide, by decide⟩ ?_
          refine tr_iadd (pc := 62) dX10_read_62 ⟨by omega, by omega⟩ ?_
          refine tr_puti (pc := 63) (ji := 10) dX10_read_63 fi10_177 rfl (Or.inl rfl) (Or.inl rfl) sg101 rfl ?_
          refine tr_iinc (pc := 66) dX10_read_66 rfl rfl ⟨by omega, by omega⟩ ?_
          dsimp only [List.set]
          refine tr_goto (pc := 69) (tgt := 32) dX10_read_69 (by decide) ?_
          have f4 : tyf M43 (tk_mu M43 101 10 (p + tx_len (ty_g M p) + 1)) := ⟨fun c c1 _ => tk_mu_c c1, fun j hj => tk_mu_i hj⟩
          have h9 := ih f (k + 1) (p + (tx_len (ty_g M p) + 1)) (if Z.1 < 0 then dn else dn + 1) Z.2 _ (by omega) (by omega) (by omega) (by omega) (by rw [show p + (tx_len (ty_g M p) + 1) = p + tx_len (ty_g M p) + 1 by omega]; exact w3) (by split <;> omega) (by split <;> omega) (by rw [tk_mu_at]; omega) (hC3.ty f4) hn3 (f3.trans (fD.ty f4))
          first
          | rw [if_pos (show Z.1 < 0 by omega)] at h9 ⊢
            have e : dn + 0 = dn := by omega
            rw [e]
            exact h9
          | rw [if_neg (show ¬ Z.1 < 0 by omega)] at h9 ⊢
            exact h9
        · skip
          refine tr_iconst (pc := 49) dX10_read_49 ⟨by decide, by decide⟩ ?_
          refine tr_goto (pc := 50) (tgt := 54) dX10_read_50 (by decide) ?_
          refine tr_iadd (pc := 54) dX10_read_54 ⟨by omega, by omega⟩ ?_
          refine tr_istore_n (pc := 55) dX10_read_55 rfl (Nat.le_of_ble_eq_true rfl) ?_
          dsimp only [List.set]
          refine tr_aload_n (pc := 56) dX10_read_56 rfl (by decide) ?_
          refine tr_dup (pc := 57) dX10_read_57 (fun h => by cases h) ?_
          refine tr_getv (pc := 58) (ji := 10) (x := p + tx_len (ty_g M p)) dX10_read_58 fi10_177 rfl sg101 rfl (e10) ?_
          refine tr_iconst (pc := 61) dX10_read_61 ⟨by decide, by decide⟩ ?_
          refine tr_iadd (pc := 62) dX10_read_62 ⟨by omega, by omega⟩ ?_
          refine tr_puti (pc := 63) (ji := 10) dX10_read_63 fi10_177 rfl (Or.inl rfl) (Or.inl rfl) sg101 rfl ?_
          refine tr_iinc (pc := 66) dX10_read_66 rfl rfl ⟨by omega, by omega⟩ ?_
          dsimp only [List.set]
          refine tr_goto (pc := 69) (tgt := 32) dX10_read_69 (by decide) ?_
          have f4 : tyf M43 (tk_mu M43 101 10 (p + tx_len (ty_g M p) + 1)) := ⟨fun c c1 _ => tk_mu_c c1, fun j hj => tk_mu_i hj⟩
          have h9 := ih f (k + 1) (p + (tx_len (ty_g M p) + 1)) (if Z.1 < 0 then dn else dn + 1) Z.2 _ (by omega) (by omega) (by omega) (by omega) (by rw [show p + (tx_len (ty_g M p) + 1) = p + tx_len (ty_g M p) + 1 by omega]; exact w3) (by split <;> omega) (by split <;> omega) (by rw [tk_mu_at]; omega) (hC3.ty f4) hn3 (f3.trans (fD.ty f4))
          first
          | rw [if_pos (show Z.1 < 0 by omega)] at h9 ⊢
            have e : dn + 0 = dn := by omega
            rw [e]
            exact h9
          | rw [if_neg (show ¬ Z.1 < 0 by omega)] at h9 ⊢
            exact h9
  unfold c_read
  refine tr_aload_n (pc := 0) dX10_read_0 rfl (by decide) ?_
  refine tr_cVi0 (pc := 1) dX10_read_1 mtX10_clauses lv10_210 rfl sg101 kc10 ⟨(Nat.le_of_ble_eq_true rfl), (Nat.le_of_ble_eq_true rfl)⟩ nlX10_clauses (Nat.le_of_ble_eq_true rfl) ⟨(Nat.le_of_ble_eq_true rfl), (Nat.le_of_ble_eq_true rfl)⟩ (sp_X10_clauses ht) (fun r1 M1 h1 => ?_)
  obtain ⟨hv, f1⟩ := h1
  have hC1 := hC.ty f1
  refine tr_istore_n (pc := 4) dX10_read_4 rfl (Nat.le_of_ble_eq_true rfl) ?_
  dsimp only [List.set]
  refine tr_iload_n (pc := 5) dX10_read_5 rfl ?_
  refine tr_iconst (pc := 6) dX10_read_6 ⟨by decide, by decide⟩ ?_
  refine tr_icmpne (pc := 7) (tgt := 23) dX10_read_7 (by decide) (fun c7 => ?_) (fun c7 => ?_)
  · skip
    obtain ⟨v1, v2, v3, v4⟩ := hv.resolve_left (fun h => by omega)
    refine tr_aload_n (pc := 23) dX10_read_23 rfl (by decide) ?_
    refine tr_iconst (pc := 24) dX10_read_24 ⟨by decide, by decide⟩ ?_
    refine tr_puti (pc := 25) (ji := 10) dX10_read_25 fi10_177 rfl (Or.inl rfl) (Or.inl rfl) sg101 rfl ?_
    refine tr_iconst (pc := 28) dX10_read_28 ⟨by decide, by decide⟩ ?_
    refine tr_istore_n (pc := 29) dX10_read_29 rfl (Nat.le_of_ble_eq_true rfl) ?_
    dsimp only [List.set]
    refine tr_iconst (pc := 30) dX10_read_30 ⟨by decide, by decide⟩ ?_
    refine tr_istore_n (pc := 31) dX10_read_31 rfl (Nat.le_of_ble_eq_true rfl) ?_
    dsimp only [List.set]
    rw [if_neg (by omega)]
    have f4 : tyf M1 (tk_mu M1 101 10 0) := ⟨fun c c1 _ => tk_mu_c c1, fun j hj => tk_mu_i hj⟩
    exact loop r1 v2 r1.toNat 12 0 0 0 C _ (by omega) (by omega) (by omega) (by omega) v4 (by omega) (by omega) (tk_mu_at _ _ _ _) (hC1.ty f4) hnd ((fD.ty f1).trans (fD.ty f4))
  · skip
    obtain ⟨-, w2, w3⟩ := hv.resolve_right (fun h => by omega)
    refine tr_aload_n (pc := 10) dX10_read_10 rfl (by decide) ?_
    refine tr_iconst (pc := 11) dX10_read_11 ⟨by decide, by decide⟩ ?_
    refine tr_puti (pc := 12) (ji := 9) dX10_read_12 fi10_174 rfl (Or.inl rfl) (Or.inl rfl) sg101 rfl ?_
    refine tr_bipush (pc := 15) dX10_read_15 ⟨by decide, ⟨by decide, by decide⟩⟩ ?_
    refine tr_aload_n (pc := 17) dX10_read_17 rfl (by decide) ?_
    refine tr_getv (pc := 18) (ji := 10) (x := tx_flt (ty_g M) (M 101 9) 12 0) dX10_read_18 fi10_177 rfl sg101 rfl (by rw [tk_mu_i (by omega)]; exact w3) ?_
    refine tr_isub (pc := 21) dX10_read_21 ⟨by have := tx_flt_r (g := ty_g M) (n := M 101 9) 12 0 (by omega); omega, by have := tx_flt_r (g := ty_g M) (n := M 101 9) 12 0 (by omega); omega⟩ ?_
    refine tr_ireti (pc := 22) dX10_read_22 rfl ?_
    rw [if_pos w2]
    obtain ⟨q1, q2, q3, q4⟩ := fin M1 C (fD.ty f1) hC1
    exact ⟨rfl, q1, hnd, q2, q3, q4⟩
