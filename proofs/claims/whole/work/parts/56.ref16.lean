/-- THE IMAGE of the reference -/
def ri_at (M : tk_M) (T : td_T) : Prop := (ig_seg (fun k => M 131 (6 * 0 + k)) (fun k => M 132 (6 * 0 + k)) (M 130 0) 0 T.1 ∧ M 130 0 ≤ 6) ∧ (ig_seg (fun k => M 131 (6 * 1 + k)) (fun k => M 132 (6 * 1 + k)) (M 130 1) 0 T.2.1 ∧ M 130 1 ≤ 6) ∧ (rw_seg (fun k => M 133 (3 * k)) (fun k => M 133 (3 * k + 1)) (fun k => M 133 (3 * k + 2)) (M 101 40) 0 T.2.2.1 ∧ M 101 40 ≤ 4) ∧ (rw_seg (fun k => M 134 (2 * k)) (fun k => M 134 (2 * k + 1)) (fun _ => 0) (M 101 42) 0 T.2.2.2.1 ∧ M 101 42 ≤ 8) ∧ (rw_seg (fun k => M 135 (2 * k)) (fun k => M 135 (2 * k + 1)) (fun _ => 0) (M 101 44) 0 T.2.2.2.2 ∧ M 101 44 ≤ 8)
theorem ri_at.same {M M1 : tk_M} {T : td_T} (h : ri_at M T) (h0 : M1 101 40 = M 101 40) (h1 : M1 101 42 = M 101 42) (h2 : M1 101 44 = M 101 44) (hc : ∀ c, 130 ≤ c → c ≤ 135 → M1 c = M c) : ri_at M1 T := by
  unfold ri_at
  rw [h0, h1, h2, hc 130 (by omega) (by omega), hc 131 (by omega) (by omega), hc 132 (by omega) (by omega), hc 133 (by omega) (by omega), hc 134 (by omega) (by omega), hc 135 (by omega) (by omega)]
  exact h
def kpf (M M' : tk_M) : Prop := (∀ c : Int, c ≠ 101 → (c < 130 ∨ 135 < c) → M' c = M c) ∧ ∀ j : Int, j ≠ 36 → j ≠ 40 → j ≠ 42 → j ≠ 44 → M' 101 j = M 101 j
theorem sp_X10_image {G : tk_G} {M : tk_M} {g0 g1 : List (Int × Int)} {sn ev bk : L3} (hg0 : rg_at M 0 g0) (hg1 : rg_at M 1 g1) (hs : rs_at M sn) (he : re_at M ev) (hb : rb_at M bk) : Spi G FX10_image [xR 101] SF M (fun v M' => v = (g0.length : Int) + g1.length ∧ ri_at M' (g0, g1, sn, ev, bk) ∧ M' 101 36 = 1 ∧ kpf M M') := by
  have l0 := hg0.len
  have l1 := hg1.len
  have ls := hs.len
  have le := he.len
  have lb := hb.len
  refine Spi.of _ mtX10_image nlX10_image (Nat.le_of_ble_eq_true rfl) ?_
  show Ok G FX10_image 0 [xR 101, xU] [] SF M 0 0 _
  have loop3 : ∀ (d : Nat) (x : Int) (M1 : tk_M), x + d = 8 → 0 ≤ x → (∀ k, 0 ≤ k → k < 12 → M1 131 k = M 103 k ∧ M1 132 k = M 104 k) → (M1 130 0 = M 102 0 ∧ M1 130 1 = M 102 1) → (M1 101 36 = 1 ∧ M1 101 40 = M 101 22 ∧ M1 101 42 = M 101 26 ∧ M1 101 44 = M 101 29) → (∀ k, 0 ≤ k → k < 4 → M1 133 (3 * k) = M 119 k ∧ M1 133 (3 * k + 1) = M 120 k ∧ M1 133 (3 * k + 2) = M 121 k) → (∀ k, 0 ≤ k → k < x → (M1 134 (2 * k) = M 122 k ∧ M1 134 (2 * k + 1) = M 123 k) ∧ M1 135 (2 * k) = M 124 k ∧ M1 135 (2 * k + 1) = M 125 k) → kpf M M1 → Ok G FX10_image 152 [xR 101, xI x] [] SF M1 0 0 (tk_qi SF (fun v M' => v = (g0.length : Int) + g1.length ∧ ri_at M' (g0, g1, sn, ev, bk) ∧ M' 101 36 = 1 ∧ kpf M M')) := by
    intro d
    induction d with
    | zero =>
      intro x M1 hd hx a1 a2 a3 a4 a5 hf
      have e102 : M1 102 = M 102 := hf.1 102 (by omega) (by omega)
      refine tr_iload_n (pc := 152) dX10_image_152 rfl ?_
      refine tr_bipush (pc := 153) dX10_image_153 ⟨by decide, ⟨by decide, by decide⟩⟩ ?_
      refine tr_icmpge (pc := 155) (tgt := 224) dX10_image_155 (by decide) (fun c155 => ?_) (fun c155 => absurd c155 (by omega))
      refine tr_aload_n (pc := 224) dX10_image_224 rfl (by decide) ?_
      refine tr_getr (pc := 225) (x := 102) dX10_image_225 fi10_11 rfl sg101 rfl ?_
      refine tr_iconst (pc := 228) dX10_image_228 ⟨by decide, by decide⟩ ?_
      refine tr_ialdv (pc := 229) (x := M 102 0) dX10_image_229 sg102 (by omega) (by omega) (by rw [e102]) ?_
      refine tr_aload_n (pc := 230) dX10_image_230 rfl (by decide) ?_
      refine tr_getr (pc := 231) (x := 102) dX10_image_231 fi10_11 rfl sg101 rfl ?_
      refine tr_iconst (pc := 234) dX10_image_234 ⟨by decide, by decide⟩ ?_
      refine tr_ialdv (pc := 235) (x := M 102 1) dX10_image_235 sg102 (by omega) (by omega) (by rw [e102]) ?_
      refine tr_iadd (pc := 236) dX10_image_236 ⟨by omega, by omega⟩ ?_
      refine tr_ireti (pc := 237) dX10_image_237 rfl ?_
      refine ⟨by omega, ⟨⟨?_, by omega⟩, ⟨?_, by omega⟩, ⟨?_, by omega⟩, ⟨?_, by omega⟩, ⟨?_, by omega⟩⟩, a3.1, hf⟩
      · rw [a2.1]; exact ig_seg_congr g0 0 (fun k k0 k1 => a1 _ (by omega) (by omega)) hg0.1
      · rw [a2.2]; exact ig_seg_congr g1 0 (fun k k0 k1 => a1 _ (by omega) (by omega)) hg1.1
      · rw [a3.2.1]; exact rw_seg_congr sn 0 (fun k k0 k1 => a4 k k0 (by omega)) hs.1
      · rw [a3.2.2.1]; exact rw_seg_congr ev 0 (fun k k0 k1 => ⟨(a5 k k0 (by omega)).1.1, (a5 k k0 (by omega)).1.2, rfl⟩) he.1
      · rw [a3.2.2.2]; exact rw_seg_congr bk 0 (fun k k0 k1 => ⟨(a5 k k0 (by omega)).2.1, (a5 k k0 (by omega)).2.2, rfl⟩) hb.1
    | succ d ih =>
      intro x M1 hd hx a1 a2 a3 a4 a5 hf
      have h122 : M1 122 = M 122 := hf.1 122 (by omega) (by omega)
      have h123 : M1 123 = M 123 := hf.1 123 (by omega) (by omega)
      have h124 : M1 124 = M 124 := hf.1 124 (by omega) (by omega)
      have h125 : M1 125 = M 125 := hf.1 125 (by omega) (by omega)
      refine tr_iload_n (pc := 152) dX10_image_152 rfl ?_
      refine tr_bipush (pc := 153) dX10_image_153 ⟨by decide, ⟨by decide, by decide⟩⟩ ?_
      refine tr_icmpge (pc := 155) (tgt := 224) dX10_image_155 (by decide) (fun c155 => absurd c155 (by omega)) (fun c155 => ?_)
      refine tr_aload_n (pc := 158) dX10_image_158 rfl (by decide) ?_
      refine tr_getr (pc := 159) (x := 134) dX10_image_159 fi10_109 rfl sg101 rfl ?_
      refine tr_iconst (pc := 162) dX10_image_162 ⟨by decide, by decide⟩ ?_
      refine tr_iload_n (pc := 163) dX10_image_163 rfl ?_
      refine tr_imul (pc := 164) dX10_image_164 ⟨by omega, by omega⟩ ?_
      refine tr_aload_n (pc := 165) dX10_image_165 rfl (by decide) ?_
      refine tr_getr (pc := 166) (x := 122) dX10_image_166 fi10_72 rfl sg101 rfl ?_
      refine tr_iload_n (pc := 169) dX10_image_169 rfl ?_
      refine tr_ialdv (pc := 170) (x := M 122 x) dX10_image_170 sg122 (by omega) (by omega) (by rw [h122]) ?_
      refine tr_iast (pc := 171) dX10_image_171 sg134 (by omega) (by omega) ?_
      refine tr_aload_n (pc := 172) dX10_image_172 rfl (by decide) ?_
      refine tr_getr (pc := 173) (x := 134) dX10_image_173 fi10_109 rfl sg101 rfl ?_
      refine tr_iconst (pc := 176) dX10_image_176 ⟨by decide, by decide⟩ ?_
      refine tr_iload_n (pc := 177) dX10_image_177 rfl ?_
      refine tr_imul (pc := 178) dX10_image_178 ⟨by omega, by omega⟩ ?_
      refine tr_iconst (pc := 179) dX10_image_179 ⟨by decide, by decide⟩ ?_
      refine tr_iadd (pc := 180) dX10_image_180 ⟨by omega, by omega⟩ ?_
      refine tr_aload_n (pc := 181) dX10_image_181 rfl (by decide) ?_
      refine tr_getr (pc := 182) (x := 123) dX10_image_182 fi10_75 rfl sg101 rfl ?_
      refine tr_iload_n (pc := 185) dX10_image_185 rfl ?_
      refine tr_ialdv (pc := 186) (x := M 123 x) dX10_image_186 sg123 (by omega) (by omega) (by rw [tk_mu_c (by omega), h123]) ?_
      refine tr_iast (pc := 187) dX10_image_187 sg134 (by omega) (by omega) ?_
      refine tr_aload_n (pc := 188) dX10_image_188 rfl (by decide) ?_
      refine tr_getr (pc := 189) (x := 135) dX10_image_189 fi10_112 rfl sg101 rfl ?_
      refine tr_iconst (pc := 192) dX10_image_192 ⟨by decide, by decide⟩ ?_
      refine tr_iload_n (pc := 193) dX10_image_193 rfl ?_
      refine tr_imul (pc := 194) dX10_image_194 ⟨by omega, by omega⟩ ?_
      refine tr_aload_n (pc := 195) dX10_image_195 rfl (by decide) ?_
      refine tr_getr (pc := 196) (x := 124) dX10_image_196 fi10_78 rfl sg101 rfl ?_
      refine tr_iload_n (pc := 199) dX10_image_199 rfl ?_
      refine tr_ialdv (pc := 200) (x := M 124 x) dX10_image_200 sg124 (by omega) (by omega) (by rw [tk_mu_c (by omega), tk_mu_c (by omega), h124]) ?_
      refine tr_iast (pc := 201) dX10_image_201 sg135 (by omega) (by omega) ?_
      refine tr_aload_n (pc := 202) dX10_image_202 rfl (by decide) ?_
      refine tr_getr (pc := 203) (x := 135) dX10_image_203 fi10_112 rfl sg101 rfl ?_
      refine tr_iconst (pc := 206) dX10_image_206 ⟨by decide, by decide⟩ ?_
      refine tr_iload_n (pc := 207) dX10_image_207 rfl ?_
      refine tr_imul (pc := 208) dX10_image_208 ⟨by omega, by omega⟩ ?_
      refine tr_iconst (pc := 209) dX10_image_209 ⟨by decide, by decide⟩ ?_
      refine tr_iadd (pc := 210) dX10_image_210 ⟨by omega, by omega⟩ ?_
      refine tr_aload_n (pc := 211) dX10_image_211 rfl (by decide) ?_
      refine tr_getr (pc := 212) (x := 125) dX10_image_212 fi10_81 rfl sg101 rfl ?_
      refine tr_iload_n (pc := 215) dX10_image_215 rfl ?_
      refine tr_ialdv (pc := 216) (x := M 125 x) dX10_image_216 sg125 (by omega) (by omega) (by rw [tk_mu_c (by omega), tk_mu_c (by omega), tk_mu_c (by omega), h125]) ?_
      refine tr_iast (pc := 217) dX10_image_217 sg135 (by omega) (by omega) ?_
      refine tr_iinc (pc := 218) dX10_image_218 rfl rfl ⟨by omega, by omega⟩ ?_
      dsimp only [List.set]
      refine tr_goto (pc := 221) (tgt := 152) dX10_image_221 (by decide) ?_
      refine ih (x + 1) _ (by omega) (by omega) (fun k k0 k1 => ?_) ?_ ?_ (fun k k0 k1 => ?_) (fun k k0 k1 => ?_) ⟨fun c c1 c2 => ?_, fun j j1 j2 j3 j4 => ?_⟩
      · simp only [tk_mu_c (show (131 : Int) ≠ 135 by omega), tk_mu_c (show (131 : Int) ≠ 134 by omega), tk_mu_c (show (132 : Int) ≠ 135 by omega), tk_mu_c (show (132 : Int) ≠ 134 by omega)]; exact a1 k k0 k1
      · simp only [tk_mu_c (show (130 : Int) ≠ 135 by omega), tk_mu_c (show (130 : Int) ≠ 134 by omega)]; exact a2
      · simp only [tk_mu_c (show (101 : Int) ≠ 135 by omega), tk_mu_c (show (101 : Int) ≠ 134 by omega)]; exact a3
      · simp only [tk_mu_c (show (133 : Int) ≠ 135 by omega), tk_mu_c (show (133 : Int) ≠ 134 by omega)]; exact a4 k k0 k1
      · by_cases hk : k = x
        · subst hk
          (first | (simp only [tk_mu_eq, and_self, and_true, true_and, false_and, and_false, if_true, if_false, ↓reduceIte, reduceCtorEq]; done) | (simp only [tk_mu_eq, and_self, and_true, true_and, false_and, and_false, if_true, if_false, ↓reduceIte, reduceCtorEq]; omega))
        · have := a5 k k0 (by omega)
          (first | (simp only [tk_mu_eq, and_self, and_true, true_and, false_and, and_false, if_true, if_false, ↓reduceIte, reduceCtorEq]; done) | (simp only [tk_mu_eq, and_self, and_true, true_and, false_and, and_false, if_true, if_false, ↓reduceIte, reduceCtorEq]; omega))
      · rw [tk_mu_c (by omega), tk_mu_c (by omega), tk_mu_c (by omega), tk_mu_c (by omega)]; exact hf.1 c c1 c2
      · rw [tk_mu_c (by omega), tk_mu_c (by omega), tk_mu_c (by omega), tk_mu_c (by omega)]; exact hf.2 j j1 j2 j3 j4
  have loop2 : ∀ (d : Nat) (x : Int) (M1 : tk_M), x + d = 4 → 0 ≤ x → (∀ k, 0 ≤ k → k < 12 → M1 131 k = M 103 k ∧ M1 132 k = M 104 k) → (M1 130 0 = M 102 0 ∧ M1 130 1 = M 102 1) → (M1 101 36 = 1 ∧ M1 101 40 = M 101 22) → (∀ k, 0 ≤ k → k < x → M1 133 (3 * k) = M 119 k ∧ M1 133 (3 * k + 1) = M 120 k ∧ M1 133 (3 * k + 2) = M 121 k) → kpf M M1 → Ok G FX10_image 77 [xR 101, xI x] [] SF M1 0 0 (tk_qi SF (fun v M' => v = (g0.length : Int) + g1.length ∧ ri_at M' (g0, g1, sn, ev, bk) ∧ M' 101 36 = 1 ∧ kpf M M')) := by
    intro d
    induction d with
    | zero =>
      intro x M1 hd hx a1 a2 a3 a4 hf
      have e26 : M1 101 26 = M 101 26 := hf.2 26 (by omega) (by omega) (by omega) (by omega)
      have e29 : M1 101 29 = M 101 29 := hf.2 29 (by omega) (by omega) (by omega) (by omega)
      refine tr_iload_n (pc := 77) dX10_image_77 rfl ?_
      refine tr_iconst (pc := 78) dX10_image_78 ⟨by decide, by decide⟩ ?_
      refine tr_icmpge (pc := 79) (tgt := 134) dX10_image_79 (by decide) (fun c79 => ?_) (fun c79 => absurd c79 (by omega))
      refine tr_aload_n (pc := 134) dX10_image_134 rfl (by decide) ?_
      refine tr_aload_n (pc := 135) dX10_image_135 rfl (by decide) ?_
      refine tr_getv (pc := 136) (ji := 26) (x := M 101 26) dX10_image_136 fi10_328 rfl sg101 rfl (e26) ?_
      refine tr_puti (pc := 139) (ji := 42) dX10_image_139 fi10_364 rfl (Or.inl rfl) (Or.inl rfl) sg101 rfl ?_
      refine tr_aload_n (pc := 142) dX10_image_142 rfl (by decide) ?_
      refine tr_aload_n (pc := 143) dX10_image_143 rfl (by decide) ?_
      refine tr_getv (pc := 144) (ji := 29) (x := M 101 29) dX10_image_144 fi10_345 rfl sg101 rfl (by rw [tk_mu_i (by omega)]; exact e29) ?_
      refine tr_puti (pc := 147) (ji := 44) dX10_image_147 fi10_367 rfl (Or.inl rfl) (Or.inl rfl) sg101 rfl ?_
      refine tr_iconst (pc := 150) dX10_image_150 ⟨by decide, by decide⟩ ?_
      refine tr_istore_n (pc := 151) dX10_image_151 rfl (Nat.le_of_ble_eq_true rfl) ?_
      dsimp only [List.set]
      refine loop3 8 0 _ (by omega) (by omega) (fun k k0 k1 => ?_) ?_ ?_ (fun k k0 k1 => ?_) (fun k k0 k1 => by omega) ⟨fun c c1 c2 => ?_, fun j j1 j2 j3 j4 => ?_⟩
      · simp only [tk_mu_c (show (131 : Int) ≠ 101 by omega), tk_mu_c (show (132 : Int) ≠ 101 by omega)]; exact a1 k k0 k1
      · simp only [tk_mu_c (show (130 : Int) ≠ 101 by omega)]; exact a2
      · (first | (simp only [tk_mu_eq, and_self, and_true, true_and, false_and, and_false, if_true, if_false, ↓reduceIte, reduceCtorEq]; done) | (simp only [tk_mu_eq, and_self, and_true, true_and, false_and, and_false, if_true, if_false, ↓reduceIte, reduceCtorEq]; omega))
      · simp only [tk_mu_c (show (133 : Int) ≠ 101 by omega)]; exact a4 k k0 (by omega)
      · rw [tk_mu_c c1, tk_mu_c c1]; exact hf.1 c c1 c2
      · rw [tk_mu_i j4, tk_mu_i j3]; exact hf.2 j j1 j2 j3 j4
    | succ d ih =>
      intro x M1 hd hx a1 a2 a3 a4 hf
      have h119 : M1 119 = M 119 := hf.1 119 (by omega) (by omega)
      have h120 : M1 120 = M 120 := hf.1 120 (by omega) (by omega)
      have h121 : M1 121 = M 121 := hf.1 121 (by omega) (by omega)
      refine tr_iload_n (pc := 77) dX10_image_77 rfl ?_
      refine tr_iconst (pc := 78) dX10_image_78 ⟨by decide, by decide⟩ ?_
      refine tr_icmpge (pc := 79) (tgt := 134) dX10_image_79 (by decide) (fun c79 => absurd c79 (by omega)) (fun c79 => ?_)
      refine tr_aload_n (pc := 82) dX10_image_82 rfl (by decide) ?_
      refine tr_getr (pc := 83) (x := 133) dX10_image_83 fi10_106 rfl sg101 rfl ?_
      refine tr_iconst (pc := 86) dX10_image_86 ⟨by decide, by decide⟩ ?_
      refine tr_iload_n (pc := 87) dX10_image_87 rfl ?_
      refine tr_imul (pc := 88) dX10_image_88 ⟨by omega, by omega⟩ ?_
      refine tr_aload_n (pc := 89) dX10_image_89 rfl (by decide) ?_
      refine tr_getr (pc := 90) (x := 119) dX10_image_90 fi10_63 rfl sg101 rfl ?_
      refine tr_iload_n (pc := 93) dX10_image_93 rfl ?_
      refine tr_ialdv (pc := 94) (x := M 119 x) dX10_image_94 sg119 (by omega) (by omega) (by rw [h119]) ?_
      refine tr_iast (pc := 95) dX10_image_95 sg133 (by omega) (by omega) ?_
      refine tr_aload_n (pc := 96) dX10_image_96 rfl (by decide) ?_
      refine tr_getr (pc := 97) (x := 133) dX10_image_97 fi10_106 rfl sg101 rfl ?_
      refine tr_iconst (pc := 100) dX10_image_100 ⟨by decide, by decide⟩ ?_
      refine tr_iload_n (pc := 101) dX10_image_101 rfl ?_
      refine tr_imul (pc := 102) dX10_image_102 ⟨by omega, by omega⟩ ?_
      refine tr_iconst (pc := 103) dX10_image_103 ⟨by decide, by decide⟩ ?_
      refine tr_iadd (pc := 104) dX10_image_104 ⟨by omega, by omega⟩ ?_
      refine tr_aload_n (pc := 105) dX10_image_105 rfl (by decide) ?_
      refine tr_getr (pc := 106) (x := 120) dX10_image_106 fi10_66 rfl sg101 rfl ?_
      refine tr_iload_n (pc := 109) dX10_image_109 rfl ?_
      refine tr_ialdv (pc := 110) (x := M 120 x) dX10_image_110 sg120 (by omega) (by omega) (by rw [tk_mu_c (by omega), h120]) ?_
      refine tr_iast (pc := 111) dX10_image_111 sg133 (by omega) (by omega) ?_
      refine tr_aload_n (pc := 112) dX10_image_112 rfl (by decide) ?_
      refine tr_getr (pc := 113) (x := 133) dX10_image_113 fi10_106 rfl sg101 rfl ?_
      refine tr_iconst (pc := 116) dX10_image_116 ⟨by decide, by decide⟩ ?_
      refine tr_iload_n (pc := 117) dX10_image_117 rfl ?_
      refine tr_imul (pc := 118) dX10_image_118 ⟨by omega, by omega⟩ ?_
      refine tr_iconst (pc := 119) dX10_image_119 ⟨by decide, by decide⟩ ?_
      refine tr_iadd (pc := 120) dX10_image_120 ⟨by omega, by omega⟩ ?_
      refine tr_aload_n (pc := 121) dX10_image_121 rfl (by decide) ?_
      refine tr_getr (pc := 122) (x := 121) dX10_image_122 fi10_69 rfl sg101 rfl ?_
      refine tr_iload_n (pc := 125) dX10_image_125 rfl ?_
      refine tr_ialdv (pc := 126) (x := M 121 x) dX10_image_126 sg121 (by omega) (by omega) (by rw [tk_mu_c (by omega), tk_mu_c (by omega), h121]) ?_
      refine tr_iast (pc := 127) dX10_image_127 sg133 (by omega) (by omega) ?_
      refine tr_iinc (pc := 128) dX10_image_128 rfl rfl ⟨by omega, by omega⟩ ?_
      dsimp only [List.set]
      refine tr_goto (pc := 131) (tgt := 77) dX10_image_131 (by decide) ?_
      refine ih (x + 1) _ (by omega) (by omega) (fun k k0 k1 => ?_) ?_ ?_ (fun k k0 k1 => ?_) ⟨fun c c1 c2 => ?_, fun j j1 j2 j3 j4 => ?_⟩
      · simp only [tk_mu_c (show (131 : Int) ≠ 133 by omega), tk_mu_c (show (132 : Int) ≠ 133 by omega)]; exact a1 k k0 k1
      · simp only [tk_mu_c (show (130 : Int) ≠ 133 by omega)]; exact a2
      · simp only [tk_mu_c (show (101 : Int) ≠ 133 by omega)]; exact a3
      · by_cases hk : k = x
        · subst hk
          (first | (simp only [tk_mu_eq, and_self, and_true, true_and, false_and, and_false, if_true, if_false, ↓reduceIte, reduceCtorEq]; done) | (simp only [tk_mu_eq, and_self, and_true, true_and, false_and, and_false, if_true, if_false, ↓reduceIte, reduceCtorEq]; omega))
        · have := a4 k k0 (by omega)
          (first | (simp only [tk_mu_eq, and_self, and_true, true_and, false_and, and_false, if_true, if_false, ↓reduceIte, reduceCtorEq]; done) | (simp only [tk_mu_eq, and_self, and_true, true_and, false_and, and_false, if_true, if_false, ↓reduceIte, reduceCtorEq]; omega))
      · rw [tk_mu_c (by omega), tk_mu_c (by omega), tk_mu_c (by omega)]; exact hf.1 c c1 c2
      · rw [tk_mu_c (by omega), tk_mu_c (by omega), tk_mu_c (by omega)]; exact hf.2 j j1 j2 j3 j4
  have loop1 : ∀ (d : Nat) (x : Int) (M1 : tk_M), x + d = 12 → 0 ≤ x → (∀ k, 0 ≤ k → k < x → M1 131 k = M 103 k ∧ M1 132 k = M 104 k) → M1 101 36 = 1 → kpf M M1 → Ok G FX10_image 7 [xR 101, xI x] [] SF M1 0 0 (tk_qi SF (fun v M' => v = (g0.length : Int) + g1.length ∧ ri_at M' (g0, g1, sn, ev, bk) ∧ M' 101 36 = 1 ∧ kpf M M')) := by
    intro d
    induction d with
    | zero =>
      intro x M1 hd hx a1 a2 hf
      have e102 : M1 102 = M 102 := hf.1 102 (by omega) (by omega)
      have e22 : M1 101 22 = M 101 22 := hf.2 22 (by omega) (by omega) (by omega) (by omega)
      refine tr_iload_n (pc := 7) dX10_image_7 rfl ?_
      refine tr_bipush (pc := 8) dX10_image_8 ⟨by decide, ⟨by decide, by decide⟩⟩ ?_
      refine tr_icmpge (pc := 10) (tgt := 43) dX10_image_10 (by decide) (fun c10 => ?_) (fun c10 => absurd c10 (by omega))
      refine tr_aload_n (pc := 43) dX10_image_43 rfl (by decide) ?_
      refine tr_getr (pc := 44) (x := 130) dX10_image_44 fi10_97 rfl sg101 rfl ?_
      refine tr_iconst (pc := 47) dX10_image_47 ⟨by decide, by decide⟩ ?_
      refine tr_aload_n (pc := 48) dX10_image_48 rfl (by decide) ?_
      refine tr_getr (pc := 49) (x := 102) dX10_image_49 fi10_11 rfl sg101 rfl ?_
      refine tr_iconst (pc := 52) dX10_image_52 ⟨by decide, by decide⟩ ?_
      refine tr_ialdv (pc := 53) (x := M 102 0) dX10_image_53 sg102 (by omega) (by omega) (by rw [e102]) ?_
      refine tr_iast (pc := 54) dX10_image_54 sg130 (by omega) (by omega) ?_
      refine tr_aload_n (pc := 55) dX10_image_55 rfl (by decide) ?_
      refine tr_getr (pc := 56) (x := 130) dX10_image_56 fi10_97 rfl sg101 rfl ?_
      refine tr_iconst (pc := 59) dX10_image_59 ⟨by decide, by decide⟩ ?_
      refine tr_aload_n (pc := 60) dX10_image_60 rfl (by decide) ?_
      refine tr_getr (pc := 61) (x := 102) dX10_image_61 fi10_11 rfl sg101 rfl ?_
      refine tr_iconst (pc := 64) dX10_image_64 ⟨by decide, by decide⟩ ?_
      refine tr_ialdv (pc := 65) (x := M 102 1) dX10_image_65 sg102 (by omega) (by omega) (by rw [tk_mu_c (by omega), e102]) ?_
      refine tr_iast (pc := 66) dX10_image_66 sg130 (by omega) (by omega) ?_
      refine tr_aload_n (pc := 67) dX10_image_67 rfl (by decide) ?_
      refine tr_aload_n (pc := 68) dX10_image_68 rfl (by decide) ?_
      refine tr_getv (pc := 69) (ji := 22) (x := M 101 22) dX10_image_69 fi10_320 rfl sg101 rfl (by rw [tk_mu_c (by omega), tk_mu_c (by omega)]; exact e22) ?_
      refine tr_puti (pc := 72) (ji := 40) dX10_image_72 fi10_361 rfl (Or.inl rfl) (Or.inl rfl) sg101 rfl ?_
      refine tr_iconst (pc := 75) dX10_image_75 ⟨by decide, by decide⟩ ?_
      refine tr_istore_n (pc := 76) dX10_image_76 rfl (Nat.le_of_ble_eq_true rfl) ?_
      dsimp only [List.set]
      refine loop2 4 0 _ (by omega) (by omega) (fun k k0 k1 => ?_) ?_ ?_ (fun k k0 k1 => by omega) ⟨fun c c1 c2 => ?_, fun j j1 j2 j3 j4 => ?_⟩
      · simp only [tk_mu_c (show (131 : Int) ≠ 101 by omega), tk_mu_c (show (132 : Int) ≠ 101 by omega), tk_mu_c (show (131 : Int) ≠ 130 by omega), tk_mu_c (show (132 : Int) ≠ 130 by omega)]; exact a1 k k0 (by omega)
      · (first | (simp only [tk_mu_eq, and_self, and_true, true_and, false_and, and_false, if_true, if_false, ↓reduceIte, reduceCtorEq]; done) | (simp only [tk_mu_eq, and_self, and_true, true_and, false_and, and_false, if_true, if_false, ↓reduceIte, reduceCtorEq]; omega))
      · (first | (simp only [tk_mu_eq, and_self, and_true, true_and, false_and, and_false, if_true, if_false, ↓reduceIte, reduceCtorEq]; done) | (simp only [tk_mu_eq, and_self, and_true, true_and, false_and, and_false, if_true, if_false, ↓reduceIte, reduceCtorEq]; omega))
      · rw [tk_mu_c c1, tk_mu_c (by omega), tk_mu_c (by omega)]; exact hf.1 c c1 c2
      · rw [tk_mu_i j2, tk_mu_c (by omega), tk_mu_c (by omega)]; exact hf.2 j j1 j2 j3 j4
    | succ d ih =>
      intro x M1 hd hx a1 a2 hf
      have h103 : M1 103 = M 103 := hf.1 103 (by omega) (by omega)
      have h104 : M1 104 = M 104 := hf.1 104 (by omega) (by omega)
      refine tr_iload_n (pc := 7) dX10_image_7 rfl ?_
      refine tr_bipush (pc := 8) dX10_image_8 ⟨by decide, ⟨by decide, by decide⟩⟩ ?_
      refine tr_icmpge (pc := 10) (tgt := 43) dX10_image_10 (by decide) (fun c10 => absurd c10 (by omega)) (fun c10 => ?_)
      refine tr_aload_n (pc := 13) dX10_image_13 rfl (by decide) ?_
      refine tr_getr (pc := 14) (x := 131) dX10_image_14 fi10_100 rfl sg101 rfl ?_
      refine tr_iload_n (pc := 17) dX10_image_17 rfl ?_
      refine tr_aload_n (pc := 18) dX10_image_18 rfl (by decide) ?_
      refine tr_getr (pc := 19) (x := 103) dX10_image_19 fi10_15 rfl sg101 rfl ?_
      refine tr_iload_n (pc := 22) dX10_image_22 rfl ?_
      refine tr_ialdv (pc := 23) (x := M 103 x) dX10_image_23 sg103 (by omega) (by omega) (by rw [h103]) ?_
      refine tr_iast (pc := 24) dX10_image_24 sg131 (by omega) (by omega) ?_
      refine tr_aload_n (pc := 25) dX10_image_25 rfl (by decide) ?_
      refine tr_getr (pc := 26) (x := 132) dX10_image_26 fi10_103 rfl sg101 rfl ?_
      refine tr_iload_n (pc := 29) dX10_image_29 rfl ?_
      refine tr_aload_n (pc := 30) dX10_image_30 rfl (by decide) ?_
      refine tr_getr (pc := 31) (x := 104) dX10_image_31 fi10_18 rfl sg101 rfl ?_
      refine tr_iload_n (pc := 34) dX10_image_34 rfl ?_
      refine tr_ialdv (pc := 35) (x := M 104 x) dX10_image_35 sg104 (by omega) (by omega) (by rw [tk_mu_c (by omega), h104]) ?_
      refine tr_iast (pc := 36) dX10_image_36 sg132 (by omega) (by omega) ?_
      refine tr_iinc (pc := 37) dX10_image_37 rfl rfl ⟨by omega, by omega⟩ ?_
      dsimp only [List.set]
      refine tr_goto (pc := 40) (tgt := 7) dX10_image_40 (by decide) ?_
      refine ih (x + 1) _ (by omega) (by omega) (fun k k0 k1 => ?_) (by rw [tk_mu_c (by omega), tk_mu_c (by omega)]; exact a2) ⟨fun c c1 c2 => ?_, fun j j1 j2 j3 j4 => ?_⟩
      · by_cases hk : k = x
        · subst hk
          (first | (simp only [tk_mu_eq, and_self, and_true, true_and, false_and, and_false, if_true, if_false, ↓reduceIte, reduceCtorEq]; done) | (simp only [tk_mu_eq, and_self, and_true, true_and, false_and, and_false, if_true, if_false, ↓reduceIte, reduceCtorEq]; omega))
        · have := a1 k k0 (by omega)
          (first | (simp only [tk_mu_eq, and_self, and_true, true_and, false_and, and_false, if_true, if_false, ↓reduceIte, reduceCtorEq]; done) | (simp only [tk_mu_eq, and_self, and_true, true_and, false_and, and_false, if_true, if_false, ↓reduceIte, reduceCtorEq]; omega))
      · rw [tk_mu_c (by omega), tk_mu_c (by omega)]; exact hf.1 c c1 c2
      · rw [tk_mu_c (by omega), tk_mu_c (by omega)]; exact hf.2 j j1 j2 j3 j4
  refine tr_aload_n (pc := 0) dX10_image_0 rfl (by decide) ?_
  refine tr_iconst (pc := 1) dX10_image_1 ⟨by decide, by decide⟩ ?_
  refine tr_puti (pc := 2) (ji := 36) dX10_image_2 fi10_357 rfl (Or.inl rfl) (Or.inr ⟨rfl, by omega⟩) sg101 rfl ?_
  refine tr_iconst (pc := 5) dX10_image_5 ⟨by decide, by decide⟩ ?_
  refine tr_istore_n (pc := 6) dX10_image_6 rfl (Nat.le_of_ble_eq_true rfl) ?_
  dsimp only [List.set]
  exact loop1 12 0 _ (by omega) (by omega) (fun k k0 k1 => by omega) (tk_mu_at _ _ _ _) ⟨fun c c1 _ => tk_mu_c c1, fun j j1 _ _ _ => tk_mu_i j1⟩
def unf (M M' : tk_M) : Prop := (∀ c : Int, (c < 101 ∨ (105 ≤ c ∧ c ≤ 118) ∨ 126 ≤ c) → M' c = M c) ∧ ∀ j : Int, j ≠ 3 → j ≠ 22 → j ≠ 26 → j ≠ 29 → M' 101 j = M 101 j
theorem sp_X10_undo {G : tk_G} {M : tk_M} {T : td_T} (hT : ri_at M T) (hk : M 101 36 = 0 ∨ M 101 36 = 1) : Spi G FX10_undo [xR 101] SF M (fun v M' => (M 101 36 = 0 ∧ v = -3 ∧ M' = M) ∨ (M 101 36 = 1 ∧ v = (T.1.length : Int) + T.2.1.length ∧ (rg_at M' 0 T.1 ∧ rg_at M' 1 T.2.1 ∧ rs_at M' T.2.2.1 ∧ re_at M' T.2.2.2.1 ∧ rb_at M' T.2.2.2.2) ∧ M' 101 3 = 0 ∧ unf M M')) := by
  obtain ⟨⟨i1, i2⟩, ⟨j1, j2⟩, ⟨s1, s2⟩, ⟨e1, e2⟩, ⟨b1, b2⟩⟩ := hT
  have li := ig_seg_len _ _ i1
  have lj := ig_seg_len _ _ j1
  have lls := rw_seg_len _ _ s1
  have lle := rw_seg_len _ _ e1
  have llb := rw_seg_len _ _ b1
  refine Spi.of _ mtX10_undo nlX10_undo (Nat.le_of_ble_eq_true rfl) ?_
  show Ok G FX10_undo 0 [xR 101, xU] [] SF M 0 0 _
  have loop3 : M 101 36 = 1 → ∀ (d : Nat) (x : Int) (M1 : tk_M), x + d = 8 → 0 ≤ x → (∀ k, 0 ≤ k → k < 12 → M1 103 k = M 131 k ∧ M1 104 k = M 132 k) → (M1 102 0 = M 130 0 ∧ M1 102 1 = M 130 1) → (M1 101 22 = M 101 40 ∧ M1 101 26 = M 101 42 ∧ M1 101 29 = M 101 44) → (∀ k, 0 ≤ k → k < 4 → M1 119 k = M 133 (3 * k) ∧ M1 120 k = M 133 (3 * k + 1) ∧ M1 121 k = M 133 (3 * k + 2)) → (∀ k, 0 ≤ k → k < x → (M1 122 k = M 134 (2 * k) ∧ M1 123 k = M 134 (2 * k + 1)) ∧ M1 124 k = M 135 (2 * k) ∧ M1 125 k = M 135 (2 * k + 1)) → unf M M1 → Ok G FX10_undo 157 [xR 101, xI x] [] SF M1 0 0 (tk_qi SF (fun v M' => (M 101 36 = 0 ∧ v = -3 ∧ M' = M) ∨ (M 101 36 = 1 ∧ v = (T.1.length : Int) + T.2.1.length ∧ (rg_at M' 0 T.1 ∧ rg_at M' 1 T.2.1 ∧ rs_at M' T.2.2.1 ∧ re_at M' T.2.2.2.1 ∧ rb_at M' T.2.2.2.2) ∧ M' 101 3 = 0 ∧ unf M M'))) := by
    intro hk1 d
    induction d with
    | zero =>
      intro x M1 hd hx a1 a2 a3 a4 a5 hf
      refine tr_iload_n (pc := 157) dX10_undo_157 rfl ?_
      refine tr_bipush (pc := 158) dX10_undo_158 ⟨by decide, ⟨by decide, by decide⟩⟩ ?_
      refine tr_icmpge (pc := 160) (tgt := 229) dX10_undo_160 (by decide) (fun c160 => ?_) (fun c160 => absurd c160 (by omega))
      refine tr_aload_n (pc := 229) dX10_undo_229 rfl (by decide) ?_
      refine tr_iconst (pc := 230) dX10_undo_230 ⟨by decide, by decide⟩ ?_
      refine tr_puti (pc := 231) (ji := 3) dX10_undo_231 fi10_132 rfl (Or.inl rfl) (Or.inl rfl) sg101 rfl ?_
      refine tr_aload_n (pc := 234) dX10_undo_234 rfl (by decide) ?_
      refine tr_getr (pc := 235) (x := 102) dX10_undo_235 fi10_11 rfl sg101 rfl ?_
      refine tr_iconst (pc := 238) dX10_undo_238 ⟨by decide, by decide⟩ ?_
      refine tr_ialdv (pc := 239) (x := M 130 0) dX10_undo_239 sg102 (by omega) (by omega) (by rw [tk_mu_c (by omega)]; exact a2.1) ?_
      refine tr_aload_n (pc := 240) dX10_undo_240 rfl (by decide) ?_
      refine tr_getr (pc := 241) (x := 102) dX10_undo_241 fi10_11 rfl sg101 rfl ?_
      refine tr_iconst (pc := 244) dX10_undo_244 ⟨by decide, by decide⟩ ?_
      refine tr_ialdv (pc := 245) (x := M 130 1) dX10_undo_245 sg102 (by omega) (by omega) (by rw [tk_mu_c (by omega)]; exact a2.2) ?_
      refine tr_iadd (pc := 246) dX10_undo_246 ⟨by omega, by omega⟩ ?_
      refine tr_ireti (pc := 247) dX10_undo_247 rfl ?_
      refine Or.inr ⟨hk1, by omega, ⟨⟨?_, ?_⟩, ⟨?_, ?_⟩, ⟨?_, ?_⟩, ⟨?_, ?_⟩, ⟨?_, ?_⟩⟩, tk_mu_at _ _ _ _, fun c c1 => ?_, fun j q1 q2 q3 q4 => ?_⟩
      · rw [show tk_mu M1 101 3 0 102 0 = M1 102 0 by rw [tk_mu_c (by omega)], a2.1]
        refine ig_seg_congr _ 0 (fun k k0 k1 => ?_) i1
        rw [tk_mu_c (by omega), tk_mu_c (by omega)]; exact a1 _ (by omega) (by omega)
      · rw [tk_mu_c (by omega), a2.1]; exact i2
      · rw [show tk_mu M1 101 3 0 102 1 = M1 102 1 by rw [tk_mu_c (by omega)], a2.2]
        refine ig_seg_congr _ 0 (fun k k0 k1 => ?_) j1
        rw [tk_mu_c (by omega), tk_mu_c (by omega)]; exact a1 _ (by omega) (by omega)
      · rw [tk_mu_c (by omega), a2.2]; exact j2
      · rw [tk_mu_i (by omega), a3.1]
        refine rw_seg_congr _ 0 (fun k k0 k1 => ?_) s1
        rw [tk_mu_c (by omega), tk_mu_c (by omega), tk_mu_c (by omega)]; exact a4 k k0 (by omega)
      · rw [tk_mu_i (by omega), a3.1]; exact s2
      · rw [tk_mu_i (by omega), a3.2.1]
        refine rw_seg_congr _ 0 (fun k k0 k1 => ?_) e1
        rw [tk_mu_c (by omega), tk_mu_c (by omega)]; exact ⟨(a5 k k0 (by omega)).1.1, (a5 k k0 (by omega)).1.2, rfl⟩
      · rw [tk_mu_i (by omega), a3.2.1]; exact e2
      · rw [tk_mu_i (by omega), a3.2.2]
        refine rw_seg_congr _ 0 (fun k k0 k1 => ?_) b1
        rw [tk_mu_c (by omega), tk_mu_c (by omega)]; exact ⟨(a5 k k0 (by omega)).2.1, (a5 k k0 (by omega)).2.2, rfl⟩
      · rw [tk_mu_i (by omega), a3.2.2]; exact b2
      · rw [tk_mu_c (by omega)]; exact hf.1 c c1
      · rw [tk_mu_i q1]; exact hf.2 j q1 q2 q3 q4
    | succ d ih =>
      intro x M1 hd hx a1 a2 a3 a4 a5 hf
      have h134 : M1 134 = M 134 := hf.1 134 (by omega)
      have h135 : M1 135 = M 135 := hf.1 135 (by omega)
      refine tr_iload_n (pc := 157) dX10_undo_157 rfl ?_
      refine tr_bipush (pc := 158) dX10_undo_158 ⟨by decide, ⟨by decide, by decide⟩⟩ ?_
      refine tr_icmpge (pc := 160) (tgt := 229) dX10_undo_160 (by decide) (fun c160 => absurd c160 (by omega)) (fun c160 => ?_)
      refine tr_aload_n (pc := 163) dX10_undo_163 rfl (by decide) ?_
      refine tr_getr (pc := 164) (x := 122) dX10_undo_164 fi10_72 rfl sg101 rfl ?_
      refine tr_iload_n (pc := 167) dX10_undo_167 rfl ?_
      refine tr_aload_n (pc := 168) dX10_undo_168 rfl (by decide) ?_
      refine tr_getr (pc := 169) (x := 134) dX10_undo_169 fi10_109 rfl sg101 rfl ?_
      refine tr_iconst (pc := 172) dX10_undo_172 ⟨by decide, by decide⟩ ?_
      refine tr_iload_n (pc := 173) dX10_undo_173 rfl ?_
      refine tr_imul (pc := 174) dX10_undo_174 ⟨by omega, by omega⟩ ?_
      refine tr_ialdv (pc := 175) (x := M 134 (2 * x)) dX10_undo_175 sg134 (by omega) (by omega) (by rw [h134]) ?_
      refine tr_iast (pc := 176) dX10_undo_176 sg122 (by omega) (by omega) ?_
      refine tr_aload_n (pc := 177) dX10_undo_177 rfl (by decide) ?_
      refine tr_getr (pc := 178) (x := 123) dX10_undo_178 fi10_75 rfl sg101 rfl ?_
      refine tr_iload_n (pc := 181) dX10_undo_181 rfl ?_
      refine tr_aload_n (pc := 182) dX10_undo_182 rfl (by decide) ?_
      refine tr_getr (pc := 183) (x := 134) dX10_undo_183 fi10_109 rfl sg101 rfl ?_
      refine tr_iconst (pc := 186) dX10_undo_186 ⟨by decide, by decide⟩ ?_
      refine tr_iload_n (pc := 187) dX10_undo_187 rfl ?_
      refine tr_imul (pc := 188) dX10_undo_188 ⟨by omega, by omega⟩ ?_
      refine tr_iconst (pc := 189) dX10_undo_189 ⟨by decide, by decide⟩ ?_
      refine tr_iadd (pc := 190) dX10_undo_190 ⟨by omega, by omega⟩ ?_
      refine tr_ialdv (pc := 191) (x := M 134 (2 * x + 1)) dX10_undo_191 sg134 (by omega) (by omega) (by rw [tk_mu_c (by omega), h134]) ?_
      refine tr_iast (pc := 192) dX10_undo_192 sg123 (by omega) (by omega) ?_
      refine tr_aload_n (pc := 193) dX10_undo_193 rfl (by decide) ?_
      refine tr_getr (pc := 194) (x := 124) dX10_undo_194 fi10_78 rfl sg101 rfl ?_
      refine tr_iload_n (pc := 197) dX10_undo_197 rfl ?_
      refine tr_aload_n (pc := 198) dX10_undo_198 rfl (by decide) ?_
      refine tr_getr (pc := 199) (x := 135) dX10_undo_199 fi10_112 rfl sg101 rfl ?_
      refine tr_iconst (pc := 202) dX10_undo_202 ⟨by decide, by decide⟩ ?_
      refine tr_iload_n (pc := 203) dX10_undo_203 rfl ?_
      refine tr_imul (pc := 204) dX10_undo_204 ⟨by omega, by omega⟩ ?_
      refine tr_ialdv (pc := 205) (x := M 135 (2 * x)) dX10_undo_205 sg135 (by omega) (by omega) (by rw [tk_mu_c (by omega), tk_mu_c (by omega), h135]) ?_
      refine tr_iast (pc := 206) dX10_undo_206 sg124 (by omega) (by omega) ?_
      refine tr_aload_n (pc := 207) dX10_undo_207 rfl (by decide) ?_
      refine tr_getr (pc := 208) (x := 125) dX10_undo_208 fi10_81 rfl sg101 rfl ?_
      refine tr_iload_n (pc := 211) dX10_undo_211 rfl ?_
      refine tr_aload_n (pc := 212) dX10_undo_212 rfl (by decide) ?_
      refine tr_getr (pc := 213) (x := 135) dX10_undo_213 fi10_112 rfl sg101 rfl ?_
      refine tr_iconst (pc := 216) dX10_undo_216 ⟨by decide, by decide⟩ ?_
      refine tr_iload_n (pc := 217) dX10_undo_217 rfl ?_
      refine tr_imul (pc := 218) dX10_undo_218 ⟨by omega, by omega⟩ ?_
      refine tr_iconst (pc := 219) dX10_undo_219 ⟨by decide, by decide⟩ ?_
      refine tr_iadd (pc := 220) dX10_undo_220 ⟨by omega, by omega⟩ ?_
      refine tr_ialdv (pc := 221) (x := M 135 (2 * x + 1)) dX10_undo_221 sg135 (by omega) (by omega) (by rw [tk_mu_c (by omega), tk_mu_c (by omega), tk_mu_c (by omega), h135]) ?_
      refine tr_iast (pc := 222) dX10_undo_222 sg125 (by omega) (by omega) ?_
      refine tr_iinc (pc := 223) dX10_undo_223 rfl rfl ⟨by omega, by omega⟩ ?_
      dsimp only [List.set]
      refine tr_goto (pc := 226) (tgt := 157) dX10_undo_226 (by decide) ?_
      refine ih (x + 1) _ (by omega) (by omega) (fun k k0 k1 => ?_) ?_ ?_ (fun k k0 k1 => ?_) (fun k k0 k1 => ?_) ⟨fun c c1 => ?_, fun j q1 q2 q3 q4 => ?_⟩
      · have := a1 k k0 k1
        (first | (simp only [tk_mu_eq, and_self, and_true, true_and, false_and, and_false, if_true, if_false, ↓reduceIte, reduceCtorEq]; done) | (simp only [tk_mu_eq, and_self, and_true, true_and, false_and, and_false, if_true, if_false, ↓reduceIte, reduceCtorEq]; omega))
      · (first | (simp only [tk_mu_eq, and_self, and_true, true_and, false_and, and_false, if_true, if_false, ↓reduceIte, reduceCtorEq]; done) | (simp only [tk_mu_eq, and_self, and_true, true_and, false_and, and_false, if_true, if_false, ↓reduceIte, reduceCtorEq]; omega))
      · (first | (simp only [tk_mu_eq, and_self, and_true, true_and, false_and, and_false, if_true, if_false, ↓reduceIte, reduceCtorEq]; done) | (simp only [tk_mu_eq, and_self, and_true, true_and, false_and, and_false, if_true, if_false, ↓reduceIte, reduceCtorEq]; omega))
      · have := a4 k k0 k1
        (first | (simp only [tk_mu_eq, and_self, and_true, true_and, false_and, and_false, if_true, if_false, ↓reduceIte, reduceCtorEq]; done) | (simp only [tk_mu_eq, and_self, and_true, true_and, false_and, and_false, if_true, if_false, ↓reduceIte, reduceCtorEq]; omega))
      · by_cases hk : k = x
        · subst hk
          (first | (simp only [tk_mu_eq, and_self, and_true, true_and, false_and, and_false, if_true, if_false, ↓reduceIte, reduceCtorEq]; done) | (simp only [tk_mu_eq, and_self, and_true, true_and, false_and, and_false, if_true, if_false, ↓reduceIte, reduceCtorEq]; omega))
        · have := a5 k k0 (by omega)
          (first | (simp only [tk_mu_eq, and_self, and_true, true_and, false_and, and_false, if_true, if_false, ↓reduceIte, reduceCtorEq]; done) | (simp only [tk_mu_eq, and_self, and_true, true_and, false_and, and_false, if_true, if_false, ↓reduceIte, reduceCtorEq]; omega))
      · rw [tk_mu_c (by omega), tk_mu_c (by omega), tk_mu_c (by omega), tk_mu_c (by omega)]; exact hf.1 c c1
      · rw [tk_mu_c (by omega), tk_mu_c (by omega), tk_mu_c (by omega), tk_mu_c (by omega)]; exact hf.2 j q1 q2 q3 q4
  have loop2 : M 101 36 = 1 → ∀ (d : Nat) (x : Int) (M1 : tk_M), x + d = 4 → 0 ≤ x → (∀ k, 0 ≤ k → k < 12 → M1 103 k = M 131 k ∧ M1 104 k = M 132 k) → (M1 102 0 = M 130 0 ∧ M1 102 1 = M 130 1) → M1 101 22 = M 101 40 → (∀ k, 0 ≤ k → k < x → M1 119 k = M 133 (3 * k) ∧ M1 120 k = M 133 (3 * k + 1) ∧ M1 121 k = M 133 (3 * k + 2)) → unf M M1 → Ok G FX10_undo 82 [xR 101, xI x] [] SF M1 0 0 (tk_qi SF (fun v M' => (M 101 36 = 0 ∧ v = -3 ∧ M' = M) ∨ (M 101 36 = 1 ∧ v = (T.1.length : Int) + T.2.1.length ∧ (rg_at M' 0 T.1 ∧ rg_at M' 1 T.2.1 ∧ rs_at M' T.2.2.1 ∧ re_at M' T.2.2.2.1 ∧ rb_at M' T.2.2.2.2) ∧ M' 101 3 = 0 ∧ unf M M'))) := by
    intro hk1 d
    induction d with
    | zero =>
      intro x M1 hd hx a1 a2 a3 a4 hf
      have e42 : M1 101 42 = M 101 42 := hf.2 42 (by omega) (by omega) (by omega) (by omega)
      have e44 : M1 101 44 = M 101 44 := hf.2 44 (by omega) (by omega) (by omega) (by omega)
      refine tr_iload_n (pc := 82) dX10_undo_82 rfl ?_
      refine tr_iconst (pc := 83) dX10_undo_83 ⟨by decide, by decide⟩ ?_
      refine tr_icmpge (pc := 84) (tgt := 139) dX10_undo_84 (by decide) (fun c84 => ?_) (fun c84 => absurd c84 (by omega))
      refine tr_aload_n (pc := 139) dX10_undo_139 rfl (by decide) ?_
      refine tr_aload_n (pc := 140) dX10_undo_140 rfl (by decide) ?_
      refine tr_getv (pc := 141) (ji := 42) (x := M 101 42) dX10_undo_141 fi10_364 rfl sg101 rfl (e42) ?_
      refine tr_puti (pc := 144) (ji := 26) dX10_undo_144 fi10_328 rfl (Or.inl rfl) (Or.inl rfl) sg101 rfl ?_
      refine tr_aload_n (pc := 147) dX10_undo_147 rfl (by decide) ?_
      refine tr_aload_n (pc := 148) dX10_undo_148 rfl (by decide) ?_
      refine tr_getv (pc := 149) (ji := 44) (x := M 101 44) dX10_undo_149 fi10_367 rfl sg101 rfl (by rw [tk_mu_i (by omega)]; exact e44) ?_
      refine tr_puti (pc := 152) (ji := 29) dX10_undo_152 fi10_345 rfl (Or.inl rfl) (Or.inl rfl) sg101 rfl ?_
      refine tr_iconst (pc := 155) dX10_undo_155 ⟨by decide, by decide⟩ ?_
      refine tr_istore_n (pc := 156) dX10_undo_156 rfl (Nat.le_of_ble_eq_true rfl) ?_
      dsimp only [List.set]
      refine loop3 hk1 8 0 _ (by omega) (by omega) (fun k k0 k1 => ?_) ?_ ?_ (fun k k0 k1 => ?_) (fun k k0 k1 => by omega) ⟨fun c c1 => ?_, fun j q1 q2 q3 q4 => ?_⟩
      · have := a1 k k0 k1
        (first | (simp only [tk_mu_eq, and_self, and_true, true_and, false_and, and_false, if_true, if_false, ↓reduceIte, reduceCtorEq]; done) | (simp only [tk_mu_eq, and_self, and_true, true_and, false_and, and_false, if_true, if_false, ↓reduceIte, reduceCtorEq]; omega))
      · (first | (simp only [tk_mu_eq, and_self, and_true, true_and, false_and, and_false, if_true, if_false, ↓reduceIte, reduceCtorEq]; done) | (simp only [tk_mu_eq, and_self, and_true, true_and, false_and, and_false, if_true, if_false, ↓reduceIte, reduceCtorEq]; omega))
      · (first | (simp only [tk_mu_eq, and_self, and_true, true_and, false_and, and_false, if_true, if_false, ↓reduceIte, reduceCtorEq]; done) | (simp only [tk_mu_eq, and_self, and_true, true_and, false_and, and_false, if_true, if_false, ↓reduceIte, reduceCtorEq]; omega))
      · have := a4 k k0 (by omega)
        (first | (simp only [tk_mu_eq, and_self, and_true, true_and, false_and, and_false, if_true, if_false, ↓reduceIte, reduceCtorEq]; done) | (simp only [tk_mu_eq, and_self, and_true, true_and, false_and, and_false, if_true, if_false, ↓reduceIte, reduceCtorEq]; omega))
      · rw [tk_mu_c (by omega), tk_mu_c (by omega)]; exact hf.1 c c1
      · rw [tk_mu_i q4, tk_mu_i q3]; exact hf.2 j q1 q2 q3 q4
    | succ d ih =>
      intro x M1 hd hx a1 a2 a3 a4 hf
      have h133 : M1 133 = M 133 := hf.1 133 (by omega)
      refine tr_iload_n (pc := 82) dX10_undo_82 rfl ?_
      refine tr_iconst (pc := 83) dX10_undo_83 ⟨by decide, by decide⟩ ?_
      refine tr_icmpge (pc := 84) (tgt := 139) dX10_undo_84 (by decide) (fun c84 => absurd c84 (by omega)) (fun c84 => ?_)
      refine tr_aload_n (pc := 87) dX10_undo_87 rfl (by decide) ?_
      refine tr_getr (pc := 88) (x := 119) dX10_undo_88 fi10_63 rfl sg101 rfl ?_
      refine tr_iload_n (pc := 91) dX10_undo_91 rfl ?_
      refine tr_aload_n (pc := 92) dX10_undo_92 rfl (by decide) ?_
      refine tr_getr (pc := 93) (x := 133) dX10_undo_93 fi10_106 rfl sg101 rfl ?_
      refine tr_iconst (pc := 96) dX10_undo_96 ⟨by decide, by decide⟩ ?_
      refine tr_iload_n (pc := 97) dX10_undo_97 rfl ?_
      refine tr_imul (pc := 98) dX10_undo_98 ⟨by omega, by omega⟩ ?_
      refine tr_ialdv (pc := 99) (x := M 133 (3 * x)) dX10_undo_99 sg133 (by omega) (by omega) (by rw [h133]) ?_
      refine tr_iast (pc := 100) dX10_undo_100 sg119 (by omega) (by omega) ?_
      refine tr_aload_n (pc := 101) dX10_undo_101 rfl (by decide) ?_
      refine tr_getr (pc := 102) (x := 120) dX10_undo_102 fi10_66 rfl sg101 rfl ?_
      refine tr_iload_n (pc := 105) dX10_undo_105 rfl ?_
      refine tr_aload_n (pc := 106) dX10_undo_106 rfl (by decide) ?_
      refine tr_getr (pc := 107) (x := 133) dX10_undo_107 fi10_106 rfl sg101 rfl ?_
      refine tr_iconst (pc := 110) dX10_undo_110 ⟨by decide, by decide⟩ ?_
      refine tr_iload_n (pc := 111) dX10_undo_111 rfl ?_
      refine tr_imul (pc := 112) dX10_undo_112 ⟨by omega, by omega⟩ ?_
      refine tr_iconst (pc := 113) dX10_undo_113 ⟨by decide, by decide⟩ ?_
      refine tr_iadd (pc := 114) dX10_undo_114 ⟨by omega, by omega⟩ ?_
      refine tr_ialdv (pc := 115) (x := M 133 (3 * x + 1)) dX10_undo_115 sg133 (by omega) (by omega) (by rw [tk_mu_c (by omega), h133]) ?_
      refine tr_iast (pc := 116) dX10_undo_116 sg120 (by omega) (by omega) ?_
      refine tr_aload_n (pc := 117) dX10_undo_117 rfl (by decide) ?_
      refine tr_getr (pc := 118) (x := 121) dX10_undo_118 fi10_69 rfl sg101 rfl ?_
      refine tr_iload_n (pc := 121) dX10_undo_121 rfl ?_
      refine tr_aload_n (pc := 122) dX10_undo_122 rfl (by decide) ?_
      refine tr_getr (pc := 123) (x := 133) dX10_undo_123 fi10_106 rfl sg101 rfl ?_
      refine tr_iconst (pc := 126) dX10_undo_126 ⟨by decide, by decide⟩ ?_
      refine tr_iload_n (pc := 127) dX10_undo_127 rfl ?_
      refine tr_imul (pc := 128) dX10_undo_128 ⟨by omega, by omega⟩ ?_
      refine tr_iconst (pc := 129) dX10_undo_129 ⟨by decide, by decide⟩ ?_
      refine tr_iadd (pc := 130) dX10_undo_130 ⟨by omega, by omega⟩ ?_
      refine tr_ialdv (pc := 131) (x := M 133 (3 * x + 2)) dX10_undo_131 sg133 (by omega) (by omega) (by rw [tk_mu_c (by omega), tk_mu_c (by omega), h133]) ?_
      refine tr_iast (pc := 132) dX10_undo_132 sg121 (by omega) (by omega) ?_
      refine tr_iinc (pc := 133) dX10_undo_133 rfl rfl ⟨by omega, by omega⟩ ?_
      dsimp only [List.set]
      refine tr_goto (pc := 136) (tgt := 82) dX10_undo_136 (by decide) ?_
      refine ih (x + 1) _ (by omega) (by omega) (fun k k0 k1 => ?_) ?_ ?_ (fun k k0 k1 => ?_) ⟨fun c c1 => ?_, fun j q1 q2 q3 q4 => ?_⟩
      · have := a1 k k0 k1
        (first | (simp only [tk_mu_eq, and_self, and_true, true_and, false_and, and_false, if_true, if_false, ↓reduceIte, reduceCtorEq]; done) | (simp only [tk_mu_eq, and_self, and_true, true_and, false_and, and_false, if_true, if_false, ↓reduceIte, reduceCtorEq]; omega))
      · (first | (simp only [tk_mu_eq, and_self, and_true, true_and, false_and, and_false, if_true, if_false, ↓reduceIte, reduceCtorEq]; done) | (simp only [tk_mu_eq, and_self, and_true, true_and, false_and, and_false, if_true, if_false, ↓reduceIte, reduceCtorEq]; omega))
      · (first | (simp only [tk_mu_eq, and_self, and_true, true_and, false_and, and_false, if_true, if_false, ↓reduceIte, reduceCtorEq]; done) | (simp only [tk_mu_eq, and_self, and_true, true_and, false_and, and_false, if_true, if_false, ↓reduceIte, reduceCtorEq]; omega))
      · by_cases hk : k = x
        · subst hk
          (first | (simp only [tk_mu_eq, and_self, and_true, true_and, false_and, and_false, if_true, if_false, ↓reduceIte, reduceCtorEq]; done) | (simp only [tk_mu_eq, and_self, and_true, true_and, false_and, and_false, if_true, if_false, ↓reduceIte, reduceCtorEq]; omega))
        · have := a4 k k0 (by omega)
          (first | (simp only [tk_mu_eq, and_self, and_true, true_and, false_and, and_false, if_true, if_false, ↓reduceIte, reduceCtorEq]; done) | (simp only [tk_mu_eq, and_self, and_true, true_and, false_and, and_false, if_true, if_false, ↓reduceIte, reduceCtorEq]; omega))
      · rw [tk_mu_c (by omega), tk_mu_c (by omega), tk_mu_c (by omega)]; exact hf.1 c c1
      · rw [tk_mu_c (by omega), tk_mu_c (by omega), tk_mu_c (by omega)]; exact hf.2 j q1 q2 q3 q4
  have loop1 : M 101 36 = 1 → ∀ (d : Nat) (x : Int) (M1 : tk_M), x + d = 12 → 0 ≤ x → (∀ k, 0 ≤ k → k < x → M1 103 k = M 131 k ∧ M1 104 k = M 132 k) → unf M M1 → Ok G FX10_undo 12 [xR 101, xI x] [] SF M1 0 0 (tk_qi SF (fun v M' => (M 101 36 = 0 ∧ v = -3 ∧ M' = M) ∨ (M 101 36 = 1 ∧ v = (T.1.length : Int) + T.2.1.length ∧ (rg_at M' 0 T.1 ∧ rg_at M' 1 T.2.1 ∧ rs_at M' T.2.2.1 ∧ re_at M' T.2.2.2.1 ∧ rb_at M' T.2.2.2.2) ∧ M' 101 3 = 0 ∧ unf M M'))) := by
    intro hk1 d
    induction d with
    | zero =>
      intro x M1 hd hx a1 hf
      have h130 : M1 130 = M 130 := hf.1 130 (by omega)
      have e40 : M1 101 40 = M 101 40 := hf.2 40 (by omega) (by omega) (by omega) (by omega)
      refine tr_iload_n (pc := 12) dX10_undo_12 rfl ?_
      refine tr_bipush (pc := 13) dX10_undo_13 ⟨by decide, ⟨by decide, by decide⟩⟩ ?_
      refine tr_icmpge (pc := 15) (tgt := 48) dX10_undo_15 (by decide) (fun c15 => ?_) (fun c15 => absurd c15 (by omega))
      refine tr_aload_n (pc := 48) dX10_undo_48 rfl (by decide) ?_
      refine tr_getr (pc := 49) (x := 102) dX10_undo_49 fi10_11 rfl sg101 rfl ?_
      refine tr_iconst (pc := 52) dX10_undo_52 ⟨by decide, by decide⟩ ?_
      refine tr_aload_n (pc := 53) dX10_undo_53 rfl (by decide) ?_
      refine tr_getr (pc := 54) (x := 130) dX10_undo_54 fi10_97 rfl sg101 rfl ?_
      refine tr_iconst (pc := 57) dX10_undo_57 ⟨by decide, by decide⟩ ?_
      refine tr_ialdv (pc := 58) (x := M 130 0) dX10_undo_58 sg130 (by omega) (by omega) (by rw [h130]) ?_
      refine tr_iast (pc := 59) dX10_undo_59 sg102 (by omega) (by omega) ?_
      refine tr_aload_n (pc := 60) dX10_undo_60 rfl (by decide) ?_
      refine tr_getr (pc := 61) (x := 102) dX10_undo_61 fi10_11 rfl sg101 rfl ?_
      refine tr_iconst (pc := 64) dX10_undo_64 ⟨by decide, by decide⟩ ?_
      refine tr_aload_n (pc := 65) dX10_undo_65 rfl (by decide) ?_
      refine tr_getr (pc := 66) (x := 130) dX10_undo_66 fi10_97 rfl sg101 rfl ?_
      refine tr_iconst (pc := 69) dX10_undo_69 ⟨by decide, by decide⟩ ?_
      refine tr_ialdv (pc := 70) (x := M 130 1) dX10_undo_70 sg130 (by omega) (by omega) (by rw [tk_mu_c (by omega), h130]) ?_
      refine tr_iast (pc := 71) dX10_undo_71 sg102 (by omega) (by omega) ?_
      refine tr_aload_n (pc := 72) dX10_undo_72 rfl (by decide) ?_
      refine tr_aload_n (pc := 73) dX10_undo_73 rfl (by decide) ?_
      refine tr_getv (pc := 74) (ji := 40) (x := M 101 40) dX10_undo_74 fi10_361 rfl sg101 rfl (by rw [tk_mu_c (by omega), tk_mu_c (by omega)]; exact e40) ?_
      refine tr_puti (pc := 77) (ji := 22) dX10_undo_77 fi10_320 rfl (Or.inl rfl) (Or.inl rfl) sg101 rfl ?_
      refine tr_iconst (pc := 80) dX10_undo_80 ⟨by decide, by decide⟩ ?_
      refine tr_istore_n (pc := 81) dX10_undo_81 rfl (Nat.le_of_ble_eq_true rfl) ?_
      dsimp only [List.set]
      refine loop2 hk1 4 0 _ (by omega) (by omega) (fun k k0 k1 => ?_) ?_ ?_ (fun k k0 k1 => by omega) ⟨fun c c1 => ?_, fun j q1 q2 q3 q4 => ?_⟩
      · have := a1 k k0 (by omega)
        (first | (simp only [tk_mu_eq, and_self, and_true, true_and, false_and, and_false, if_true, if_false, ↓reduceIte, reduceCtorEq]; done) | (simp only [tk_mu_eq, and_self, and_true, true_and, false_and, and_false, if_true, if_false, ↓reduceIte, reduceCtorEq]; omega))
      · (first | (simp only [tk_mu_eq, and_self, and_true, true_and, false_and, and_false, if_true, if_false, ↓reduceIte, reduceCtorEq]; done) | (simp only [tk_mu_eq, and_self, and_true, true_and, false_and, and_false, if_true, if_false, ↓reduceIte, reduceCtorEq]; omega))
      · (first | (simp only [tk_mu_eq, and_self, and_true, true_and, false_and, and_false, if_true, if_false, ↓reduceIte, reduceCtorEq]; done) | (simp only [tk_mu_eq, and_self, and_true, true_and, false_and, and_false, if_true, if_false, ↓reduceIte, reduceCtorEq]; omega))
      · rw [tk_mu_c (by omega), tk_mu_c (by omega), tk_mu_c (by omega)]; exact hf.1 c c1
      · rw [tk_mu_i q2, tk_mu_c (by omega), tk_mu_c (by omega)]; exact hf.2 j q1 q2 q3 q4
    | succ d ih =>
      intro x M1 hd hx a1 hf
      have h131 : M1 131 = M 131 := hf.1 131 (by omega)
      have h132 : M1 132 = M 132 := hf.1 132 (by omega)
      refine tr_iload_n (pc := 12) dX10_undo_12 rfl ?_
      refine tr_bipush (pc := 13) dX10_undo_13 ⟨by decide, ⟨by decide, by decide⟩⟩ ?_
      refine tr_icmpge (pc := 15) (tgt := 48) dX10_undo_15 (by decide) (fun c15 => absurd c15 (by omega)) (fun c15 => ?_)
      refine tr_aload_n (pc := 18) dX10_undo_18 rfl (by decide) ?_
      refine tr_getr (pc := 19) (x := 103) dX10_undo_19 fi10_15 rfl sg101 rfl ?_
      refine tr_iload_n (pc := 22) dX10_undo_22 rfl ?_
      refine tr_aload_n (pc := 23) dX10_undo_23 rfl (by decide) ?_
      refine tr_getr (pc := 24) (x := 131) dX10_undo_24 fi10_100 rfl sg101 rfl ?_
      refine tr_iload_n (pc := 27) dX10_undo_27 rfl ?_
      refine tr_ialdv (pc := 28) (x := M 131 x) dX10_undo_28 sg131 (by omega) (by omega) (by rw [h131]) ?_
      refine tr_iast (pc := 29) dX10_undo_29 sg103 (by omega) (by omega) ?_
      refine tr_aload_n (pc := 30) dX10_undo_30 rfl (by decide) ?_
      refine tr_getr (pc := 31) (x := 104) dX10_undo_31 fi10_18 rfl sg101 rfl ?_
      refine tr_iload_n (pc := 34) dX10_undo_34 rfl ?_
      refine tr_aload_n (pc := 35) dX10_undo_35 rfl (by decide) ?_
      refine tr_getr (pc := 36) (x := 132) dX10_undo_36 fi10_103 rfl sg101 rfl ?_
      refine tr_iload_n (pc := 39) dX10_undo_39 rfl ?_
      refine tr_ialdv (pc := 40) (x := M 132 x) dX10_undo_40 sg132 (by omega) (by omega) (by rw [tk_mu_c (by omega), h132]) ?_
      refine tr_iast (pc := 41) dX10_undo_41 sg104 (by omega) (by omega) ?_
      refine tr_iinc (pc := 42) dX10_undo_42 rfl rfl ⟨by omega, by omega⟩ ?_
      dsimp only [List.set]
      refine tr_goto (pc := 45) (tgt := 12) dX10_undo_45 (by decide) ?_
      refine ih (x + 1) _ (by omega) (by omega) (fun k k0 k1 => ?_) ⟨fun c c1 => ?_, fun j q1 q2 q3 q4 => ?_⟩
      · by_cases hk : k = x
        · subst hk
          (first | (simp only [tk_mu_eq, and_self, and_true, true_and, false_and, and_false, if_true, if_false, ↓reduceIte, reduceCtorEq]; done) | (simp only [tk_mu_eq, and_self, and_true, true_and, false_and, and_false, if_true, if_false, ↓reduceIte, reduceCtorEq]; omega))
        · have := a1 k k0 (by omega)
          (first | (simp only [tk_mu_eq, and_self, and_true, true_and, false_and, and_false, if_true, if_false, ↓reduceIte, reduceCtorEq]; done) | (simp only [tk_mu_eq, and_self, and_true, true_and, false_and, and_false, if_true, if_false, ↓reduceIte, reduceCtorEq]; omega))
      · rw [tk_mu_c (by omega), tk_mu_c (by omega)]; exact hf.1 c c1
      · rw [tk_mu_c (by omega), tk_mu_c (by omega)]; exact hf.2 j q1 q2 q3 q4
  refine tr_aload_n (pc := 0) dX10_undo_0 rfl (by decide) ?_
  refine tr_geti (pc := 1) (ji := 36) dX10_undo_1 fi10_357 rfl sg101 rfl ?_
  refine tr_ifne (pc := 4) (tgt := 10) dX10_undo_4 (by decide) (fun c4 => ?_) (fun c4 => ?_)
  · skip
    refine tr_iconst (pc := 10) dX10_undo_10 ⟨by decide, by decide⟩ ?_
    refine tr_istore_n (pc := 11) dX10_undo_11 rfl (Nat.le_of_ble_eq_true rfl) ?_
    dsimp only [List.set]
    exact loop1 (by omega) 12 0 _ (by omega) (by omega) (fun k k0 k1 => by omega) ⟨fun c _ => rfl, fun j _ _ _ _ => rfl⟩
  · skip
    refine tr_bipush (pc := 7) dX10_undo_7 ⟨by decide, ⟨by decide, by decide⟩⟩ ?_
    refine tr_ireti (pc := 9) dX10_undo_9 rfl ?_
    exact Or.inl ⟨by omega, rfl, rfl⟩
