section TkRows6
variable {G : tk_G} {f : tk_F} {pc : Nat} {ls st : List tk_V} {S : tk_S} {M : tk_M} {k n : Nat} {Q : tk_V → tk_S → tk_M → Prop}
/-- the same reads, with the value that is known -/
theorem tr_getv {own : String} {idx kd N j : Nat} {c ji x : Int} {rl : List Int} (hd : decode f.2.1 pc = .ok (.getfield idx, 3)) (hf : tk_fi own idx kd N j 0) (ho : f.1.cls = own) (hs : tk_sg S c = some (kd, N, rl)) (hji : (j : Int) = ji) (hv : M c ji = x) (kk : Ok G f (pc + 3) ls (xI x :: st) S M k n Q) : Ok G f pc ls (xR c :: st) S M k n Q := by
  subst hv; exact tr_geti hd hf ho hs hji kk
theorem tr_ialdv {c i x : Int} {N : Nat} {rl : List Int} (hd : decode f.2.1 pc = .ok (.iaload, 1)) (hs : tk_sg S c = some (20, N, rl)) (h0 : 0 ≤ i) (h1 : i < N) (hv : M c i = x) (kk : Ok G f (pc + 1) ls (xI x :: st) S M k n Q) : Ok G f pc ls (xI i :: xR c :: st) S M k n Q := by
  subst hv; exact tr_iald hd hs h0 h1 kk
theorem tr_baldv {c i x : Int} {N : Nat} {rl : List Int} (hd : decode f.2.1 pc = .ok (.baload, 1)) (hs : tk_sg S c = some (22, N, rl)) (h0 : 0 ≤ i) (h1 : i < N) (hv : M c i = x) (kk : Ok G f (pc + 1) ls (xI x :: st) S M k n Q) : Ok G f pc ls (xI i :: xR c :: st) S M k n Q := by
  subst hv; exact tr_bald hd hs h0 h1 kk
theorem tr_laldv {c i x : Int} {N : Nat} {rl : List Int} (hd : decode f.2.1 pc = .ok (.laload, 1)) (hs : tk_sg S c = some (21, N, rl)) (h0 : 0 ≤ i) (h1 : i < N) (hv : M c i = x) (kk : Ok G f (pc + 1) ls (xL x :: st) S M k n Q) : Ok G f pc ls (xI i :: xR c :: st) S M k n Q := by
  subst hv; exact tr_lald hd hs h0 h1 kk
/-- another name for what lies on top, for the cells -/
theorem tr_topv {x x' : Int} (h : x = x') (kk : Ok G f pc ls (xI x' :: st) S M k n Q) : Ok G f pc ls (xI x :: st) S M k n Q := by subst h; exact kk
theorem tr_memv {M' : tk_M} (h : M = M') (kk : Ok G f pc ls st S M' k n Q) : Ok G f pc ls st S M k n Q := by subst h; exact kk
theorem tr_lclt {x z off : Int} {tgt : Nat} (hd1 : decode f.2.1 pc = .ok (.lcmp, 1)) (hd2 : decode f.2.1 (pc + 1) = .ok (.ifCond .lt off, 3)) (ht : ((pc + 1 : Nat) : Int) + off = (tgt : Int)) (kt : x < z → Ok G f tgt ls st S M k n Q) (kf : ¬ x < z → Ok G f (pc + 4) ls st S M k n Q) : Ok G f pc ls (xL z :: xL x :: st) S M k n Q := by
  refine tr_lcmp hd1 (tr_iflt hd2 ht (fun h => kt ?_) (fun h => kf ?_)) <;>
  · unfold tk_cmp at h
    by_cases h1 : z < x
    · rw [if_pos h1] at h; omega
    · rw [if_neg h1] at h
      by_cases h2 : x = z
      · rw [if_pos h2] at h; omega
      · rw [if_neg h2] at h; omega
theorem tr_lcge {x z off : Int} {tgt : Nat} (hd1 : decode f.2.1 pc = .ok (.lcmp, 1)) (hd2 : decode f.2.1 (pc + 1) = .ok (.ifCond .ge off, 3)) (ht : ((pc + 1 : Nat) : Int) + off = (tgt : Int)) (kt : z ≤ x → Ok G f tgt ls st S M k n Q) (kf : ¬ z ≤ x → Ok G f (pc + 4) ls st S M k n Q) : Ok G f pc ls (xL z :: xL x :: st) S M k n Q := by
  refine tr_lcmp hd1 (tr_ifge hd2 ht (fun h => kt ?_) (fun h => kf ?_)) <;>
  · unfold tk_cmp at h
    by_cases h1 : z < x
    · rw [if_pos h1] at h; omega
    · rw [if_neg h1] at h
      by_cases h2 : x = z
      · rw [if_pos h2] at h; omega
      · rw [if_neg h2] at h; omega
theorem tr_lcgt {x z off : Int} {tgt : Nat} (hd1 : decode f.2.1 pc = .ok (.lcmp, 1)) (hd2 : decode f.2.1 (pc + 1) = .ok (.ifCond .gt off, 3)) (ht : ((pc + 1 : Nat) : Int) + off = (tgt : Int)) (kt : z < x → Ok G f tgt ls st S M k n Q) (kf : ¬ z < x → Ok G f (pc + 4) ls st S M k n Q) : Ok G f pc ls (xL z :: xL x :: st) S M k n Q := by
  refine tr_lcmp hd1 (tr_ifgt hd2 ht (fun h => kt ?_) (fun h => kf ?_)) <;>
  · unfold tk_cmp at h
    by_cases h1 : z < x
    · rw [if_pos h1] at h; omega
    · rw [if_neg h1] at h
      by_cases h2 : x = z
      · rw [if_pos h2] at h; omega
      · rw [if_neg h2] at h; omega
theorem tr_lcle {x z off : Int} {tgt : Nat} (hd1 : decode f.2.1 pc = .ok (.lcmp, 1)) (hd2 : decode f.2.1 (pc + 1) = .ok (.ifCond .le off, 3)) (ht : ((pc + 1 : Nat) : Int) + off = (tgt : Int)) (kt : x ≤ z → Ok G f tgt ls st S M k n Q) (kf : ¬ x ≤ z → Ok G f (pc + 4) ls st S M k n Q) : Ok G f pc ls (xL z :: xL x :: st) S M k n Q := by
  refine tr_lcmp hd1 (tr_ifle hd2 ht (fun h => kt ?_) (fun h => kf ?_)) <;>
  · unfold tk_cmp at h
    by_cases h1 : z < x
    · rw [if_pos h1] at h; omega
    · rw [if_neg h1] at h
      by_cases h2 : x = z
      · rw [if_pos h2] at h; omega
      · rw [if_neg h2] at h; omega
theorem tr_lceq {x z off : Int} {tgt : Nat} (hd1 : decode f.2.1 pc = .ok (.lcmp, 1)) (hd2 : decode f.2.1 (pc + 1) = .ok (.ifCond .eq off, 3)) (ht : ((pc + 1 : Nat) : Int) + off = (tgt : Int)) (kt : x = z → Ok G f tgt ls st S M k n Q) (kf : ¬ x = z → Ok G f (pc + 4) ls st S M k n Q) : Ok G f pc ls (xL z :: xL x :: st) S M k n Q := by
  refine tr_lcmp hd1 (tr_ifeq hd2 ht (fun h => kt ?_) (fun h => kf ?_)) <;>
  · unfold tk_cmp at h
    by_cases h1 : z < x
    · rw [if_pos h1] at h; omega
    · rw [if_neg h1] at h
      by_cases h2 : x = z
      · rw [if_pos h2] at h; omega
      · rw [if_neg h2] at h; omega
theorem tr_lcne {x z off : Int} {tgt : Nat} (hd1 : decode f.2.1 pc = .ok (.lcmp, 1)) (hd2 : decode f.2.1 (pc + 1) = .ok (.ifCond .ne off, 3)) (ht : ((pc + 1 : Nat) : Int) + off = (tgt : Int)) (kt : x ≠ z → Ok G f tgt ls st S M k n Q) (kf : x = z → Ok G f (pc + 4) ls st S M k n Q) : Ok G f pc ls (xL z :: xL x :: st) S M k n Q := by
  refine tr_lcmp hd1 (tr_ifne hd2 ht (fun h => kt ?_) (fun h => kf ?_)) <;>
  · unfold tk_cmp at h
    by_cases h1 : z < x
    · rw [if_pos h1] at h; omega
    · rw [if_neg h1] at h
      by_cases h2 : x = z
      · rw [if_pos h2] at h; omega
      · rw [if_neg h2] at h; omega
theorem tk_monoQ {Q' : tk_V → tk_S → tk_M → Prop} (h : Ok G f pc ls st S M k n Q') (hq : ∀ v S' M', Q' v S' M' → Q v S' M') : Ok G f pc ls st S M k n Q := by
  intro p l e s m args below meth c H locs la Z F hW hS hl hn hls hst hR
  exact h p l e s m args below meth c H locs la Z F hW hS hl hn hls hst (fun v S' M' H' locs' k' n' pc' la' hq' => hR v S' M' H' locs' k' n' pc' la' (hq v S' M' hq'))
/-- a weaker end -/
theorem tk_mono {P P' : Int → tk_M → Prop} (h : Ok G f pc ls st S M k n (tk_qi S P')) (hq : ∀ v M', P' v M' → P v M') : Ok G f pc ls st S M k n (tk_qi S P) := tk_monoQ h (fun v S' M' h => ⟨h.1, h.2.imp fun r hr => ⟨hr.1, hq _ _ hr.2⟩⟩)
end TkRows6
/-- only the cells lo .. hi - 1 are otherwise -/
def tk_fr (M M' : tk_M) (lo hi : Int) : Prop := ∀ c : Int, c < lo ∨ hi ≤ c → M' c = M c
theorem tk_fr.rf {M : tk_M} {lo hi : Int} : tk_fr M M lo hi := fun _ _ => rfl
theorem tk_fr.trans {M M1 M2 : tk_M} {lo hi : Int} (h1 : tk_fr M M1 lo hi) (h2 : tk_fr M1 M2 lo hi) : tk_fr M M2 lo hi := fun c hc => (h2 c hc).trans (h1 c hc)
theorem tk_fr.mono {M M1 : tk_M} {lo hi lo' hi' : Int} (h1 : tk_fr M M1 lo hi) (hl : lo' ≤ lo) (hh : hi ≤ hi') : tk_fr M M1 lo' hi' := fun c hc => h1 c (by omega)
theorem tk_fr.mu {M M1 : tk_M} {lo hi c i v : Int} (h1 : tk_fr M M1 lo hi) (hl : lo ≤ c) (hh : c < hi) : tk_fr M (tk_mu M1 c i v) lo hi := fun c' hc => (tk_mu_c (by omega)).trans (h1 c' hc)
theorem tk_mu_eq (M : tk_M) (c i v c' i' : Int) : tk_mu M c i v c' i' = if c' = c ∧ i' = i then v else M c' i' := rfl
