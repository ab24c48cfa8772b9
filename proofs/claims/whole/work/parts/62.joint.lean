/-! ===== what both hold: GENERATORS and DEEDS, rows, THE IMAGE, THE TEXT, TAPES ===== -/
abbrev jR : Type := L3 × L3 × L3
abbrev jX : Type := (Int → Int) × Int
abbrev jT : Type := (Int → Int) × (Int → Int) × (Int → Int → Int)
abbrev jS : Type := cC × jR × (td_T × Int) × jX × jT
def jx_ok (x : jX) : Prop := (0 ≤ x.2 ∧ x.2 ≤ 100) ∧ ∀ i, 0 ≤ i → i < x.2 → 0 ≤ x.1 i ∧ x.1 i ≤ 127
def jt_ok (p : jT) : Prop := ∀ t : Int, 0 ≤ t → t < 6 → (-1 ≤ p.1 t ∧ p.1 t ≤ 4) ∧ (0 ≤ p.2.1 t ∧ p.2.1 t ≤ 60) ∧ (p.1 t = -1 → p.2.1 t = 0)
def JCt (M : tk_M) (x : jX) : Prop := M 72 1 = x.2 ∧ ∀ i, 0 ≤ i → i < x.2 → M 73 i = x.1 i
def JRt (M : tk_M) (x : jX) : Prop := M 101 9 = x.2 ∧ ∀ i, 0 ≤ i → i < x.2 → M 109 i = x.1 i
def JCp (M : tk_M) (p : jT) : Prop := ∀ t : Int, 0 ≤ t → t < 6 → (M (75 + 2 * t) 1 = p.1 t ∧ M (75 + 2 * t) 2 = p.2.1 t) ∧ ∀ i, 0 ≤ i → i < p.2.1 t → M (76 + 2 * t) i = p.2.2 t i
def JRp (M : tk_M) (p : jT) : Prop := ∀ t : Int, 0 ≤ t → t < 6 → (M 126 t = p.1 t ∧ M 127 t = p.2.1 t) ∧ ∀ i, 0 ≤ i → i < p.2.1 t → M 128 (60 * t + i) = p.2.2 t i
def JC (M : tk_M) (z : jS) : Prop := Cg M z.1 ∧ (rw_at M 8 4 z.2.1.1 ∧ rw_at M 12 8 z.2.1.2.1 ∧ rw_at M 16 8 z.2.1.2.2) ∧ (td_at M 20 z.2.2.1.1 ∧ M 0 2 = z.2.2.1.2) ∧ JCt M z.2.2.2.1 ∧ JCp M z.2.2.2.2
def JR (M : tk_M) (z : jS) : Prop := Rg M z.1 ∧ (rs_at M z.2.1.1 ∧ re_at M z.2.1.2.1 ∧ rb_at M z.2.1.2.2) ∧ (ri_at M z.2.2.1.1 ∧ M 101 36 = z.2.2.1.2) ∧ JRt M z.2.2.2.1 ∧ JRp M z.2.2.2.2
def jr_ok (r : jR) : Prop := sn_ok r.1 ∧ en_ok r.2.1 ∧ bk_ok r.2.2
def JW (z : jS) : Prop := cnd z.1 ∧ jr_ok z.2.1 ∧ ((z.2.2.1.1.1.Nodup ∧ z.2.2.1.1.2.1.Nodup ∧ jr_ok z.2.2.1.1.2.2) ∧ (z.2.2.1.2 = 0 ∨ z.2.2.1.2 = 1)) ∧ jx_ok z.2.2.2.1 ∧ jt_ok z.2.2.2.2
def JJ (M : tk_M) : Prop := ∃ z : jS, JW z ∧ JC M z ∧ JR M z
theorem Cg.cg {M M' : tk_M} {C : cC} (h : Cg M C) (hf : ∀ c : Int, (2 ≤ c ∧ c ≤ 7) ∨ (39 ≤ c ∧ c ≤ 71) → M' c = M c) : Cg M' C := ⟨h.1.fr (hf _ (by omega)) (hf _ (by omega)) (hf _ (by omega)), h.2.1.fr (hf _ (by omega)) (hf _ (by omega)) (hf _ (by omega)), h.2.2.frame (fun c h1 h2 => hf c (by omega))⟩
theorem td_at.cg {M M' : tk_M} {t : Int} {T : td_T} (h : td_at M t T) (hf : ∀ c : Int, t + 1 ≤ c → c ≤ t + 18 → M' c = M c) : td_at M' t T := ⟨h.1.fr (hf _ (by omega) (by omega)) (hf _ (by omega) (by omega)) (hf _ (by omega) (by omega)), h.2.1.fr (hf _ (by omega) (by omega)) (hf _ (by omega) (by omega)) (hf _ (by omega) (by omega)), h.2.2.1.fr (hf _ (by omega) (by omega)) (hf _ (by omega) (by omega)) (hf _ (by omega) (by omega)) (hf _ (by omega) (by omega)), h.2.2.2.1.fr (hf _ (by omega) (by omega)) (hf _ (by omega) (by omega)) (hf _ (by omega) (by omega)) (hf _ (by omega) (by omega)), h.2.2.2.2.fr (hf _ (by omega) (by omega)) (hf _ (by omega) (by omega)) (hf _ (by omega) (by omega)) (hf _ (by omega) (by omega))⟩
theorem rw_at.cg {M M' : tk_M} {r : Int} {N : Nat} {l : L3} (h : rw_at M r N l) (hf : ∀ c : Int, r ≤ c → c ≤ r + 3 → M' c = M c) : rw_at M' r N l := h.fr (hf _ (by omega) (by omega)) (hf _ (by omega) (by omega)) (hf _ (by omega) (by omega)) (hf _ (by omega) (by omega))
theorem JCt.cg {M M' : tk_M} {x : jX} (h : JCt M x) (h1 : M' 72 = M 72) (h2 : M' 73 = M 73) : JCt M' x := by unfold JCt; rw [h1, h2]; exact h
theorem JCp.cg {M M' : tk_M} {p : jT} (h : JCp M p) (hf : ∀ c : Int, 75 ≤ c → c ≤ 86 → M' c = M c) : JCp M' p := fun t t0 t1 => by
  rw [hf (75 + 2 * t) (by omega) (by omega), hf (76 + 2 * t) (by omega) (by omega)]; exact h t t0 t1
/-- the class's half, where all but GENERATORS, DEEDS and its scratch is as it was -/
theorem JC.core {M M' : tk_M} {z : jS} {C' : cC} (h : JC M z) (hC : Cg M' C') (hf : ∀ c : Int, ¬ (2 ≤ c ∧ c ≤ 7) → ¬ (39 ≤ c ∧ c ≤ 71) → ¬ (87 ≤ c ∧ c ≤ 100) → c < 101 → M' c = M c) : JC M' (C', z.2) :=
  ⟨hC, ⟨h.2.1.1.cg (fun c _ _ => hf c (by omega) (by omega) (by omega) (by omega)), h.2.1.2.1.cg (fun c _ _ => hf c (by omega) (by omega) (by omega) (by omega)), h.2.1.2.2.cg (fun c _ _ => hf c (by omega) (by omega) (by omega) (by omega))⟩, ⟨h.2.2.1.1.cg (fun c _ _ => hf c (by omega) (by omega) (by omega) (by omega)), by rw [hf 0 (by omega) (by omega) (by omega) (by omega)]; exact h.2.2.1.2⟩, h.2.2.2.1.cg (hf _ (by omega) (by omega) (by omega) (by omega)) (hf _ (by omega) (by omega) (by omega) (by omega)), h.2.2.2.2.cg (fun c _ _ => hf c (by omega) (by omega) (by omega) (by omega))⟩
theorem JC.up {M M' : tk_M} {z : jS} (h : JC M z) (hf : ∀ c : Int, c < 101 → M' c = M c) : JC M' z := h.core (h.1.cg (fun c hc => hf c (by omega))) (fun c _ _ _ hc => hf c hc)
theorem JC.ask {M M' : tk_M} {z : jS} (h : JC M z) (hf : fS M M') : JC M' z := h.core (h.1.scr hf) (fun c _ _ h3 h4 => hf c (by omega))
theorem JRt.cg {M M' : tk_M} {x : jX} (h : JRt M x) (h1 : M' 101 9 = M 101 9) (h2 : M' 109 = M 109) : JRt M' x := by unfold JRt; rw [h1, h2]; exact h
theorem JRp.cg {M M' : tk_M} {p : jT} (h : JRp M p) (h1 : M' 126 = M 126) (h2 : M' 127 = M 127) (h3 : M' 128 = M 128) : JRp M' p := by unfold JRp; rw [h1, h2, h3]; exact h
theorem JR.core {M M' : tk_M} {z : jS} {C' : cC} (h : JR M z) (hC : Rg M' C') (hf : ∀ c : Int, 119 ≤ c ∨ c = 109 → c ≠ 129 → M' c = M c) (ho : ∀ j : Int, j ≠ 3 → j ≠ 10 → j ≠ 12 → j ≠ 16 → M' 101 j = M 101 j) : JR M' (C', z.2) :=
  ⟨hC, ⟨h.2.1.1.same (ho _ (by omega) (by omega) (by omega) (by omega)) (hf _ (by omega) (by omega)) (hf _ (by omega) (by omega)) (hf _ (by omega) (by omega)), h.2.1.2.1.same (ho _ (by omega) (by omega) (by omega) (by omega)) (hf _ (by omega) (by omega)) (hf _ (by omega) (by omega)), h.2.1.2.2.same (ho _ (by omega) (by omega) (by omega) (by omega)) (hf _ (by omega) (by omega)) (hf _ (by omega) (by omega))⟩, ⟨h.2.2.1.1.same (ho _ (by omega) (by omega) (by omega) (by omega)) (ho _ (by omega) (by omega) (by omega) (by omega)) (ho _ (by omega) (by omega) (by omega) (by omega)) (fun c _ _ => hf c (by omega) (by omega)), by rw [ho 36 (by omega) (by omega) (by omega) (by omega)]; exact h.2.2.1.2⟩, h.2.2.2.1.cg (ho _ (by omega) (by omega) (by omega) (by omega)) (hf _ (by omega) (by omega)), h.2.2.2.2.cg (hf _ (by omega) (by omega)) (hf _ (by omega) (by omega)) (hf _ (by omega) (by omega))⟩
theorem Rg.up {M M' : tk_M} {C : cC} (h : Rg M C) (hf : ∀ c : Int, 101 ≤ c → M' c = M c) : Rg M' C := ⟨h.1.same (hf _ (by omega)) (hf _ (by omega)) (hf _ (by omega)), h.2.1.same (hf _ (by omega)) (hf _ (by omega)) (hf _ (by omega)), h.2.2.frame (by rw [hf 101 (by omega)]) (fun c _ _ => hf c (by omega))⟩
theorem JR.up {M M' : tk_M} {z : jS} (h : JR M z) (hf : ∀ c : Int, 101 ≤ c → M' c = M c) : JR M' z := h.core (h.1.up hf) (fun c hc _ => hf c (by omega)) (fun j _ _ _ _ => by rw [hf 101 (by omega)])
theorem JR.coreR {M M' : tk_M} {z : jS} {C' : cC} (h : JR M z) (hC : Rg M' C') (hf : fR M M') : JR M' (C', z.2) := h.core hC (fun c hc _ => hf.1 c (by omega)) (fun j j3 _ j12 _ => hf.2 j j3 j12)
theorem JR.ask {M M' : tk_M} {z : jS} (h : JR M z) (hf : fQ M M') : JR M' z := h.core (h.1.fQ hf) (fun c hc _ => hf.1 c (by omega)) (fun j _ j10 j12 j16 => hf.2.1 j j10 j12 j16)
/-- a call that changes GENERATORS: both halves -/
theorem jj_core {M M1 M2 : tk_M} {z : jS} {C' : cC} (hw : JW z) (h1 : JC M z) (h2 : JR M1 z) (hn : cnd C') (c1 : Cg M1 C') (f1 : fC M M1) (c2 : Rg M2 C') (f2 : fR M1 M2) : JJ M2 :=
  ⟨(C', z.2), ⟨hn, hw.2⟩, (h1.core c1 (fun c a b d _ => f1 c a b d)).up (fun c hc => f2.1 c (by omega)), h2.coreR c2 f2⟩
theorem jj_ask {M M1 M2 : tk_M} {z : jS} (hw : JW z) (h1 : JC M z) (h2 : JR M1 z) (f1 : fS M M1) (f2 : fQ M1 M2) : JJ M2 := ⟨z, hw, (h1.ask f1).up (fun c hc => f2.1 c (by omega)), h2.ask f2⟩
theorem fC.hi {M M1 : tk_M} (h : fC M M1) : ∀ c : Int, 101 ≤ c → M1 c = M c := fun c hc => h c (by omega) (by omega) (by omega)
theorem fS.hi {M M1 : tk_M} (h : fS M M1) : ∀ c : Int, 101 ≤ c → M1 c = M c := fun c hc => h c (by omega)
/-- THE TEXT, TAPES in the words of either -/
def tg (x : jX) (p : Int) : Int := if 0 ≤ p ∧ p < x.2 then x.1 p else -1
theorem JCt.ok {M : tk_M} {x : jX} (h : JCt M x) (hx : jx_ok x) : tx_ok M ∧ tx_g M = tg x := by
  refine ⟨⟨by rw [h.1]; exact hx.1.1, by rw [h.1]; exact hx.1.2, fun i i0 i1 => ?_⟩, ?_⟩
  · rw [h.1] at i1; rw [h.2 i i0 i1]; exact hx.2 i i0 i1
  · funext p
    unfold tx_g tg
    rw [h.1]
    by_cases hp : 0 ≤ p ∧ p < x.2
    · rw [if_pos hp, if_pos hp]; exact h.2 p hp.1 hp.2
    · rw [if_neg hp, if_neg hp]
theorem JRt.ok {M : tk_M} {x : jX} (h : JRt M x) (hx : jx_ok x) : ty_ok M ∧ ty_g M = tg x := by
  refine ⟨⟨by rw [h.1]; exact hx.1.1, by rw [h.1]; exact hx.1.2, fun i i0 i1 => ?_⟩, ?_⟩
  · rw [h.1] at i1; rw [h.2 i i0 i1]; exact hx.2 i i0 i1
  · funext p
    unfold ty_g tg
    rw [h.1]
    by_cases hp : 0 ≤ p ∧ p < x.2
    · rw [if_pos hp, if_pos hp]; exact h.2 p hp.1 hp.2
    · rw [if_neg hp, if_neg hp]
theorem JCp.ok {M : tk_M} {p : jT} (h : JCp M p) (hp : jt_ok p) : tp_ok M := fun t t0 t1 => by
  obtain ⟨⟨h1, h2⟩, -⟩ := h t t0 t1
  rw [h1, h2]; exact hp t t0 t1
theorem JRp.ok {M : tk_M} {p : jT} (h : JRp M p) (hp : jt_ok p) : tq_ok M := fun t t0 t1 => by
  obtain ⟨⟨h1, h2⟩, -⟩ := h t t0 t1
  rw [h1, h2]; exact hp t t0 t1
theorem jj_feed {M M1 M2 : tk_M} {z : jS} {x v1 v2 : Int} (hw : JW z) (h1 : JC M z) (h2 : JR M z) (c1 : (¬ (0 ≤ x ∧ x ≤ 127) ∧ v1 = -2 ∧ M1 = M) ∨ ((0 ≤ x ∧ x ≤ 127) ∧ M 72 1 = 100 ∧ v1 = -4 ∧ M1 = M) ∨ ((0 ≤ x ∧ x ≤ 127) ∧ M 72 1 < 100 ∧ v1 = M 72 1 + 1 ∧ M1 = tk_mu (tk_mu M 73 (M 72 1) x) 72 1 (M 72 1 + 1)))
    (c2 : (¬ (0 ≤ x ∧ x ≤ 127) ∧ v2 = -2 ∧ M2 = M1) ∨ ((0 ≤ x ∧ x ≤ 127) ∧ M1 101 9 = 100 ∧ v2 = -4 ∧ M2 = M1) ∨ ((0 ≤ x ∧ x ≤ 127) ∧ M1 101 9 < 100 ∧ v2 = M1 101 9 + 1 ∧ M2 = tk_mu (tk_mu M1 109 (M1 101 9) x) 101 9 (M1 101 9 + 1))) : v1 = v2 ∧ JJ M2 := by
  have t1 := h1.2.2.2.1.1
  have t2 := h2.2.2.2.1.1
  have t0 := hw.2.2.2.1.1
  have e9 : M1 101 9 = M 101 9 := by
    rcases c1 with ⟨_, _, rfl⟩ | ⟨_, _, _, rfl⟩ | ⟨_, _, _, rfl⟩
    · rfl
    · rfl
    · rw [tk_mu_c (by omega), tk_mu_c (by omega)]
  rw [e9] at c2
  rcases c1 with ⟨a1, a2, rfl⟩ | ⟨a1, a2, a3, rfl⟩ | ⟨a1, a2, a3, rfl⟩
  · rcases c2 with ⟨b1, b2, rfl⟩ | ⟨b1, b2, b3, rfl⟩ | ⟨b1, b2, b3, rfl⟩
    · exact ⟨by omega, z, hw, h1, h2⟩
    · exact absurd b1 a1
    · exact absurd b1 a1
  · rcases c2 with ⟨b1, b2, rfl⟩ | ⟨b1, b2, b3, rfl⟩ | ⟨b1, b2, b3, rfl⟩
    · exact absurd a1 b1
    · exact ⟨by omega, z, hw, h1, h2⟩
    · omega
  · rcases c2 with ⟨b1, b2, rfl⟩ | ⟨b1, b2, b3, rfl⟩ | ⟨b1, b2, b3, rfl⟩
    · exact absurd a1 b1
    · omega
    · refine ⟨by omega, (z.1, z.2.1, z.2.2.1, (fun i => if i = z.2.2.2.1.2 then x else z.2.2.2.1.1 i, z.2.2.2.1.2 + 1), z.2.2.2.2), ⟨hw.1, hw.2.1, hw.2.2.1, ⟨⟨by show 0 ≤ z.2.2.2.1.2 + 1; omega, by show z.2.2.2.1.2 + 1 ≤ 100; omega⟩, fun i i0 i1 => ?_⟩, hw.2.2.2.2⟩, ?_, ?_⟩
      · show 0 ≤ (if i = z.2.2.2.1.2 then x else z.2.2.2.1.1 i) ∧ (if i = z.2.2.2.1.2 then x else z.2.2.2.1.1 i) ≤ 127
        have i1 : i < z.2.2.2.1.2 + 1 := i1
        by_cases hi : i = z.2.2.2.1.2
        · rw [if_pos hi]; exact a1
        · rw [if_neg hi]; exact hw.2.2.2.1.2 i i0 (by omega)
      · have hf : ∀ c : Int, c ≠ 72 → c ≠ 73 → c ≠ 101 → c ≠ 109 → tk_mu (tk_mu (tk_mu (tk_mu M 73 (M 72 1) x) 72 1 (M 72 1 + 1)) 109 (M 101 9) x) 101 9 (M 101 9 + 1) c = M c := fun c q1 q2 q3 q4 => by rw [tk_mu_c q3, tk_mu_c q4, tk_mu_c q1, tk_mu_c q2]
        refine ⟨h1.1.cg (fun c hc => hf c (by omega) (by omega) (by omega) (by omega)), ⟨h1.2.1.1.cg (fun c _ _ => hf c (by omega) (by omega) (by omega) (by omega)), h1.2.1.2.1.cg (fun c _ _ => hf c (by omega) (by omega) (by omega) (by omega)), h1.2.1.2.2.cg (fun c _ _ => hf c (by omega) (by omega) (by omega) (by omega))⟩, ⟨h1.2.2.1.1.cg (fun c _ _ => hf c (by omega) (by omega) (by omega) (by omega)), by rw [hf 0 (by omega) (by omega) (by omega) (by omega)]; exact h1.2.2.1.2⟩, ⟨?_, fun i i0 i1 => ?_⟩, h1.2.2.2.2.cg (fun c _ _ => hf c (by omega) (by omega) (by omega) (by omega))⟩
        · rw [tk_mu_c (by omega), tk_mu_c (by omega), tk_mu_at, t1]
        · show _ = (if i = z.2.2.2.1.2 then x else z.2.2.2.1.1 i)
          have i1 : i < z.2.2.2.1.2 + 1 := i1
          rw [tk_mu_c (by omega), tk_mu_c (by omega), tk_mu_c (by omega)]
          by_cases hi : i = z.2.2.2.1.2
          · rw [if_pos hi, hi, ← t1, tk_mu_at]
          · rw [if_neg hi, tk_mu_i (by omega)]; exact h1.2.2.2.1.2 i i0 (by omega)
      · have hf : ∀ c : Int, c ≠ 72 → c ≠ 73 → c ≠ 101 → c ≠ 109 → tk_mu (tk_mu (tk_mu (tk_mu M 73 (M 72 1) x) 72 1 (M 72 1 + 1)) 109 (M 101 9) x) 101 9 (M 101 9 + 1) c = M c := fun c q1 q2 q3 q4 => by rw [tk_mu_c q3, tk_mu_c q4, tk_mu_c q1, tk_mu_c q2]
        have ho : ∀ j : Int, j ≠ 9 → tk_mu (tk_mu (tk_mu (tk_mu M 73 (M 72 1) x) 72 1 (M 72 1 + 1)) 109 (M 101 9) x) 101 9 (M 101 9 + 1) 101 j = M 101 j := fun j hj => by rw [tk_mu_i hj, tk_mu_c (by omega), tk_mu_c (by omega), tk_mu_c (by omega)]
        refine ⟨⟨h2.1.1.same (hf _ (by omega) (by omega) (by omega) (by omega)) (hf _ (by omega) (by omega) (by omega) (by omega)) (hf _ (by omega) (by omega) (by omega) (by omega)), h2.1.2.1.same (hf _ (by omega) (by omega) (by omega) (by omega)) (hf _ (by omega) (by omega) (by omega) (by omega)) (hf _ (by omega) (by omega) (by omega) (by omega)), h2.1.2.2.frame (ho 3 (by omega)) (fun c _ _ => hf c (by omega) (by omega) (by omega) (by omega))⟩, ⟨h2.2.1.1.same (ho _ (by omega)) (hf _ (by omega) (by omega) (by omega) (by omega)) (hf _ (by omega) (by omega) (by omega) (by omega)) (hf _ (by omega) (by omega) (by omega) (by omega)), h2.2.1.2.1.same (ho _ (by omega)) (hf _ (by omega) (by omega) (by omega) (by omega)) (hf _ (by omega) (by omega) (by omega) (by omega)), h2.2.1.2.2.same (ho _ (by omega)) (hf _ (by omega) (by omega) (by omega) (by omega)) (hf _ (by omega) (by omega) (by omega) (by omega))⟩, ⟨h2.2.2.1.1.same (ho _ (by omega)) (ho _ (by omega)) (ho _ (by omega)) (fun c _ _ => hf c (by omega) (by omega) (by omega) (by omega)), by rw [ho 36 (by omega)]; exact h2.2.2.1.2⟩, ⟨?_, fun i i0 i1 => ?_⟩, h2.2.2.2.2.cg (hf _ (by omega) (by omega) (by omega) (by omega)) (hf _ (by omega) (by omega) (by omega) (by omega)) (hf _ (by omega) (by omega) (by omega) (by omega))⟩
        · rw [tk_mu_at, t2]
        · show _ = (if i = z.2.2.2.1.2 then x else z.2.2.2.1.1 i)
          have i1 : i < z.2.2.2.1.2 + 1 := i1
          rw [tk_mu_c (by omega)]
          by_cases hi : i = z.2.2.2.1.2
          · rw [if_pos hi, hi, ← t2, tk_mu_at]
          · rw [if_neg hi, tk_mu_i (by omega), tk_mu_c (by omega), tk_mu_c (by omega)]; exact h2.2.2.2.1.2 i i0 (by omega)
