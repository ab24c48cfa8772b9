theorem lw_sw {nm : String} {G : tk_G} {M : tk_M} {i w : Int} {Q : tk_V → tk_S → tk_M → Prop} (hG : gs_ok G) (hi : lw_at G i) (hJ : JJ M) (hQ : lw_go nm G i Q) : Ok G (FLn nm) 33 [xS 0, xR 0, xR 101, xI i] [xI w] SF M 136 5328 Q := by
  rcases (by omega : w = 0 ∨ w = 1 ∨ w = 2 ∨ w = 3 ∨ w = 4 ∨ w = 5 ∨ w = 6 ∨ w = 7 ∨ w = 8 ∨ w = 9 ∨ w = 10 ∨ w = 11 ∨ w = 12 ∨ w = 13 ∨ w = 14 ∨ w = 15 ∨ w = 16 ∨ w = 17 ∨ w = 18 ∨ w = 19 ∨ w = 20 ∨ w = 21 ∨ w = 22 ∨ w = 23 ∨ w = 24 ∨ w = 25 ∨ w = 26 ∨ w = 27 ∨ w = 28 ∨ w = 29 ∨ w = 30 ∨ w = 31 ∨ w = 32 ∨ w = 33 ∨ w = 34 ∨ (w < 0 ∨ 34 < w)) with c33 | c33 | c33 | c33 | c33 | c33 | c33 | c33 | c33 | c33 | c33 | c33 | c33 | c33 | c33 | c33 | c33 | c33 | c33 | c33 | c33 | c33 | c33 | c33 | c33 | c33 | c33 | c33 | c33 | c33 | c33 | c33 | c33 | c33 | c33 | c33
  · skip
    refine tr_table_in (pc := 33) (x := w) (off := 155) (tgt := 188) dL_law_33 (by omega) (by omega) (by rw [c33]; rfl) (by decide) ?_
    exact lc_generate hG hi hJ hQ
  · skip
    refine tr_table_in (pc := 33) (x := w) (off := 198) (tgt := 231) dL_law_33 (by omega) (by omega) (by rw [c33]; rfl) (by decide) ?_
    exact lc_drop hG hi hJ hQ
  · skip
    refine tr_table_in (pc := 33) (x := w) (off := 231) (tgt := 264) dL_law_33 (by omega) (by omega) (by rw [c33]; rfl) (by decide) ?_
    exact lc_clear hG hi hJ hQ
  · skip
    refine tr_table_in (pc := 33) (x := w) (off := 254) (tgt := 287) dL_law_33 (by omega) (by omega) (by rw [c33]; rfl) (by decide) ?_
    exact lc_merge hG hi hJ hQ
  · skip
    refine tr_table_in (pc := 33) (x := w) (off := 277) (tgt := 310) dL_law_33 (by omega) (by omega) (by rw [c33]; rfl) (by decide) ?_
    exact lc_close hG hi hJ hQ
  · skip
    refine tr_table_in (pc := 33) (x := w) (off := 300) (tgt := 333) dL_law_33 (by omega) (by omega) (by rw [c33]; rfl) (by decide) ?_
    exact lc_back hG hi hJ hQ
  · skip
    refine tr_table_in (pc := 33) (x := w) (off := 313) (tgt := 346) dL_law_33 (by omega) (by omega) (by rw [c33]; rfl) (by decide) ?_
    exact lc_feed hG hi hJ hQ
  · skip
    refine tr_table_in (pc := 33) (x := w) (off := 336) (tgt := 369) dL_law_33 (by omega) (by omega) (by rw [c33]; rfl) (by decide) ?_
    exact lc_read hG hi hJ hQ
  · skip
    refine tr_table_in (pc := 33) (x := w) (off := 349) (tgt := 382) dL_law_33 (by omega) (by omega) (by rw [c33]; rfl) (by decide) ?_
    exact lc_of hG hi hJ hQ
  · skip
    refine tr_table_in (pc := 33) (x := w) (off := 392) (tgt := 425) dL_law_33 (by omega) (by omega) (by rw [c33]; rfl) (by decide) ?_
    exact lc_told hG hi hJ hQ
  · skip
    refine tr_table_in (pc := 33) (x := w) (off := 425) (tgt := 458) dL_law_33 (by omega) (by omega) (by rw [c33]; rfl) (by decide) ?_
    exact lc_in hG hi hJ hQ
  · skip
    refine tr_table_in (pc := 33) (x := w) (off := 478) (tgt := 511) dL_law_33 (by omega) (by omega) (by rw [c33]; rfl) (by decide) ?_
    exact lc_face hG hi hJ hQ
  · skip
    refine tr_table_in (pc := 33) (x := w) (off := 521) (tgt := 554) dL_law_33 (by omega) (by omega) (by rw [c33]; rfl) (by decide) ?_
    exact lc_held hG hi hJ hQ
  · skip
    refine tr_table_in (pc := 33) (x := w) (off := 584) (tgt := 617) dL_law_33 (by omega) (by omega) (by rw [c33]; rfl) (by decide) ?_
    exact lc_reason hG hi hJ hQ
  · skip
    refine tr_table_in (pc := 33) (x := w) (off := 659) (tgt := 692) dL_law_33 (by omega) (by omega) (by rw [c33]; rfl) (by decide) ?_
    exact lc_jump hG hi hJ hQ
  · skip
    refine tr_table_in (pc := 33) (x := w) (off := 713) (tgt := 746) dL_law_33 (by omega) (by omega) (by rw [c33]; rfl) (by decide) ?_
    exact lc_jumps hG hi hJ hQ
  · skip
    refine tr_table_in (pc := 33) (x := w) (off := 757) (tgt := 790) dL_law_33 (by omega) (by omega) (by rw [c33]; rfl) (by decide) ?_
    exact lc_lacks hG hi hJ hQ
  · skip
    refine tr_table_in (pc := 33) (x := w) (off := 800) (tgt := 833) dL_law_33 (by omega) (by omega) (by rw [c33]; rfl) (by decide) ?_
    exact lc_height hG hi hJ hQ
  · skip
    refine tr_table_in (pc := 33) (x := w) (off := 843) (tgt := 876) dL_law_33 (by omega) (by omega) (by rw [c33]; rfl) (by decide) ?_
    exact lc_reduces hG hi hJ hQ
  · skip
    refine tr_table_in (pc := 33) (x := w) (off := 866) (tgt := 899) dL_law_33 (by omega) (by omega) (by rw [c33]; rfl) (by decide) ?_
    exact lc_see hG hi hJ hQ
  · skip
    refine tr_table_in (pc := 33) (x := w) (off := 909) (tgt := 942) dL_law_33 (by omega) (by omega) (by rw [c33]; rfl) (by decide) ?_
    exact lc_fits hG hi hJ hQ
  · skip
    refine tr_table_in (pc := 33) (x := w) (off := 962) (tgt := 995) dL_law_33 (by omega) (by omega) (by rw [c33]; rfl) (by decide) ?_
    exact lc_odds hG hi hJ hQ
  · skip
    refine tr_table_in (pc := 33) (x := w) (off := 1016) (tgt := 1049) dL_law_33 (by omega) (by omega) (by rw [c33]; rfl) (by decide) ?_
    exact lc_mean hG hi hJ hQ
  · skip
    refine tr_table_in (pc := 33) (x := w) (off := 1050) (tgt := 1083) dL_law_33 (by omega) (by omega) (by rw [c33]; rfl) (by decide) ?_
    exact lc_event hG hi hJ hQ
  · skip
    refine tr_table_in (pc := 33) (x := w) (off := 1083) (tgt := 1116) dL_law_33 (by omega) (by omega) (by rw [c33]; rfl) (by decide) ?_
    exact lc_after hG hi hJ hQ
  · skip
    refine tr_table_in (pc := 33) (x := w) (off := 1106) (tgt := 1139) dL_law_33 (by omega) (by omega) (by rw [c33]; rfl) (by decide) ?_
    exact lc_book hG hi hJ hQ
  · skip
    refine tr_table_in (pc := 33) (x := w) (off := 1139) (tgt := 1172) dL_law_33 (by omega) (by omega) (by rw [c33]; rfl) (by decide) ?_
    exact lc_looked hG hi hJ hQ
  · skip
    refine tr_table_in (pc := 33) (x := w) (off := 1152) (tgt := 1185) dL_law_33 (by omega) (by omega) (by rw [c33]; rfl) (by decide) ?_
    exact lc_judge hG hi hJ hQ
  · skip
    refine tr_table_in (pc := 33) (x := w) (off := 1195) (tgt := 1228) dL_law_33 (by omega) (by omega) (by rw [c33]; rfl) (by decide) ?_
    exact lc_image hG hi hJ hQ
  · skip
    refine tr_table_in (pc := 33) (x := w) (off := 1208) (tgt := 1241) dL_law_33 (by omega) (by omega) (by rw [c33]; rfl) (by decide) ?_
    exact lc_undo hG hi hJ hQ
  · skip
    refine tr_table_in (pc := 33) (x := w) (off := 1221) (tgt := 1254) dL_law_33 (by omega) (by omega) (by rw [c33]; rfl) (by decide) ?_
    exact lc_count hG hi hJ hQ
  · skip
    refine tr_table_in (pc := 33) (x := w) (off := 1244) (tgt := 1277) dL_law_33 (by omega) (by omega) (by rw [c33]; rfl) (by decide) ?_
    exact lc_tape hG hi hJ hQ
  · skip
    refine tr_table_in (pc := 33) (x := w) (off := 1287) (tgt := 1320) dL_law_33 (by omega) (by omega) (by rw [c33]; rfl) (by decide) ?_
    exact lc_item hG hi hJ hQ
  · skip
    refine tr_table_in (pc := 33) (x := w) (off := 1360) (tgt := 1393) dL_law_33 (by omega) (by omega) (by rw [c33]; rfl) (by decide) ?_
    exact lc_peek hG hi hJ hQ
  · skip
    refine tr_table_in (pc := 33) (x := w) (off := 1394) (tgt := 1427) dL_law_33 (by omega) (by omega) (by rw [c33]; rfl) (by decide) ?_
    exact lc_shift hG hi hJ hQ
  · skip
    refine tr_table_out (pc := 33) (x := w) (tgt := 1490) dL_law_33 (by omega) (by decide) ?_
    exact hQ _ hJ
theorem lw_next {nm : String} {G : tk_G} {M : tk_M} {i : Int} {Q : tk_V → tk_S → tk_M → Prop} (hi : lw_at G i) (h : Ok G (FLn nm) 18 [xS 0, xR 0, xR 101, xI (i + 7)] [] SF M 136 5328 Q) : Ok G (FLn nm) 1490 [xS 0, xR 0, xR 101, xI i] [] SF M 136 5328 Q := by
  obtain ⟨i0, i1, i2⟩ := hi
  refine tr_iinc (pc := 1490) dL_law_1490 rfl rfl ⟨by omega, by omega⟩ ?_
  dsimp only [List.set]
  refine tr_goto (pc := 1493) (tgt := 18) dL_law_1493 (by decide) ?_
  exact h
theorem lw_loop {nm : String} {G : tk_G} {Q : tk_V → tk_S → tk_M → Prop} (hG : gs_ok G) (hL : ((G.2.2.2.2 (Int.toNat 0)).length : Int) < 2 ^ 31) (hQ : ∀ M, Q (xI 1) SF M) : ∀ (d : Nat) (i : Int) (M : tk_M), 0 ≤ i → ((G.2.2.2.2 (Int.toNat 0)).length : Int) - i ≤ d → i < 2 ^ 31 → JJ M → Ok G (FLn nm) 18 [xS 0, xR 0, xR 101, xI i] [] SF M 136 5328 Q := by
  intro d
  induction d with
  | zero =>
    intro i M i0 hd i3 hJ
    refine tr_iload_n (pc := 18) dL_law_18 rfl ?_
    refine tr_sload_n (pc := 19) dL_law_19 rfl ?_
    refine tr_slen (pc := 20) dL_law_20 ⟨by decide, by decide⟩ rfl ?_
    refine tr_bipush (pc := 21) dL_law_21 ⟨by decide, ⟨by decide, by decide⟩⟩ ?_
    refine tr_isub (pc := 23) dL_law_23 ⟨by omega, by omega⟩ ?_
    refine tr_icmpgt (pc := 24) (tgt := 1496) dL_law_24 (by decide) (fun c24 => ?_) (fun c24 => absurd c24 (by omega))
    refine tr_iconst (pc := 1496) dL_law_1496 ⟨by decide, by decide⟩ ?_
    exact tr_ret (v := xI 1) ⟨rfl, Or.inr rfl, dL_law_1497⟩ (tk_ok_I.mpr ⟨by decide, by decide⟩) (Nat.le_of_ble_eq_true rfl) (Nat.le_of_ble_eq_true rfl) (hQ _) rfl
  | succ d ih =>
    intro i M i0 hd i3 hJ
    refine tr_iload_n (pc := 18) dL_law_18 rfl ?_
    refine tr_sload_n (pc := 19) dL_law_19 rfl ?_
    refine tr_slen (pc := 20) dL_law_20 ⟨by decide, by decide⟩ rfl ?_
    refine tr_bipush (pc := 21) dL_law_21 ⟨by decide, ⟨by decide, by decide⟩⟩ ?_
    refine tr_isub (pc := 23) dL_law_23 ⟨by omega, by omega⟩ ?_
    refine tr_icmpgt (pc := 24) (tgt := 1496) dL_law_24 (by decide) (fun c24 => ?_) (fun c24 => ?_)
    · skip
      refine tr_iconst (pc := 1496) dL_law_1496 ⟨by decide, by decide⟩ ?_
      exact tr_ret (v := xI 1) ⟨rfl, Or.inr rfl, dL_law_1497⟩ (tk_ok_I.mpr ⟨by decide, by decide⟩) (Nat.le_of_ble_eq_true rfl) (Nat.le_of_ble_eq_true rfl) (hQ _) rfl
    · skip
      refine tr_sload_n (pc := 27) dL_law_27 rfl ?_
      refine tr_iload_n (pc := 28) dL_law_28 rfl ?_
      refine tr_sald (pc := 29) dL_law_29 ⟨by decide, by decide⟩ (by omega) (by omega) rfl ?_
      refine tr_bipush (pc := 30) dL_law_30 ⟨by decide, ⟨by decide, by decide⟩⟩ ?_
      refine tr_iand (pc := 32) dL_law_32 ?_
      exact lw_sw hG ⟨i0, by omega, hL⟩ hJ (fun M1 hJ1 => lw_next ⟨i0, by omega, hL⟩ (ih (i + 7) M1 (by omega) (by omega) (by omega) hJ1))
