/-- HEIGHTS of both sides -/
def gbd (g : List (Int × Int)) : Prop := ∀ q ∈ g, 0 ≤ q.1 ∧ q.1 ≤ 9 ∧ 0 ≤ q.2 ∧ q.2 ≤ 9
def hmc (c : Int) (g : List (Int × Int)) (f : Int → Int) : Int → Int := fun a => ht_m f a c g
theorem ht_le {f : Int → Int} {a z : Int} : ∀ (g : List (Int × Int)) (acc : Int), gbd g → (z ≤ ht_m f a acc g ↔ z ≤ acc ∧ ∀ q ∈ g, q.1 ≤ a → z ≤ f (a - q.1) + q.2) := by
  intro g
  induction g with
  | nil => intro acc _; unfold ht_m; exact ⟨fun h => ⟨h, fun q hq => by cases hq⟩, fun h => h.1⟩
  | cons q t ih =>
    intro acc hb
    obtain ⟨p, q⟩ := q
    have hq : 0 ≤ p ∧ p ≤ 9 ∧ 0 ≤ q ∧ q ≤ 9 := hb (p, q) List.mem_cons_self
    unfold ht_m
    rw [ih _ (fun z hz => hb z (List.mem_cons_of_mem _ hz))]
    constructor
    · intro ⟨h1, h2⟩
      refine ⟨by split at h1 <;> omega, fun z hz ha => ?_⟩
      rcases List.mem_cons.mp hz with h3 | h3
      · subst h3
        simp only at ha ⊢
        rw [if_pos (by omega)] at h1
        omega
      · exact h2 z h3 ha
    · intro ⟨h1, h2⟩
      refine ⟨?_, fun z hz => h2 z (List.mem_cons_of_mem _ hz)⟩
      split
      · have := h2 (p, q) List.mem_cons_self (by simp only; omega)
        simp only at this
        omega
      · exact h1
theorem hmc_le {c : Int} {g : List (Int × Int)} {f : Int → Int} {a z : Int} (hb : gbd g) : z ≤ hmc c g f a ↔ z ≤ c ∧ ∀ q ∈ g, q.1 ≤ a → z ≤ f (a - q.1) + q.2 := ht_le g c hb
theorem hmc_comm1 {c : Int} {g h : List (Int × Int)} {f : Int → Int} {a : Int} (hg : gbd g) (hh : gbd h) : hmc c g (hmc c h f) a ≤ hmc c h (hmc c g f) a := by
  rw [hmc_le hh]
  have h1 := (hmc_le (z := hmc c g (hmc c h f) a) (c := c) (f := hmc c h f) (a := a) hg).mp (Int.le_refl _)
  generalize hmc c g (hmc c h f) a = z at h1 ⊢
  refine ⟨h1.1, fun r hr ra => ?_⟩
  have br := hh r hr
  have h2 : z - r.2 ≤ hmc c g f (a - r.1) := by
    rw [hmc_le hg]
    refine ⟨by omega, fun q hq qa => ?_⟩
    have bq := hg q hq
    have h3 := h1.2 q hq (by omega)
    have h4 : z - q.2 ≤ hmc c h f (a - q.1) := by omega
    rw [hmc_le hh] at h4
    have h5 := h4.2 r hr (by omega)
    rw [show a - r.1 - q.1 = a - q.1 - r.1 by omega]
    omega
  omega
theorem hmc_comm {c : Int} {g h : List (Int × Int)} {f : Int → Int} {a : Int} (hg : gbd g) (hh : gbd h) : hmc c g (hmc c h f) a = hmc c h (hmc c g f) a := Int.le_antisymm (hmc_comm1 hg hh) (hmc_comm1 hh hg)
theorem ht_congr {f f' : Int → Int} {a a' : Int} (h : ∀ p, 0 ≤ p → p ≤ 9 → (p ≤ a ↔ p ≤ a') ∧ (p ≤ a → f (a - p) = f' (a' - p))) : ∀ (g : List (Int × Int)) (acc : Int), gbd g → ht_m f a acc g = ht_m f' a' acc g := by
  intro g
  induction g with
  | nil => intro acc _; rfl
  | cons q t ih =>
    intro acc hb
    obtain ⟨p, q⟩ := q
    have hq : 0 ≤ p ∧ p ≤ 9 ∧ 0 ≤ q ∧ q ≤ 9 := hb (p, q) List.mem_cons_self
    obtain ⟨h1, h2⟩ := h p hq.1 hq.2.1
    unfold ht_m
    rw [ih _ (fun z hz => hb z (List.mem_cons_of_mem _ hz))]
    congr 1
    by_cases hp : p ≤ a
    · rw [if_pos (by omega), if_pos (by omega), h2 hp]
    · rw [if_neg (by omega), if_neg (by omega)]
theorem hmc_congr {c : Int} {g : List (Int × Int)} {f f' : Int → Int} (hg : gbd g) (h : ∀ a, 0 ≤ a → f a = f' a) : ∀ a, 0 ≤ a → hmc c g f a = hmc c g f' a := fun a _ => ht_congr (fun p p0 p9 => ⟨Iff.rfl, fun hp => h _ (by omega)⟩) g c hg
def pmi (h : Int → Int) : Nat → Int
  | 0 => h 0
  | n + 1 => min (h ((n : Int) + 1)) (pmi h n)
def pm (h : Int → Int) (a : Int) : Int := pmi h a.toNat
theorem pmi_le {h : Int → Int} {z : Int} : ∀ (n : Nat), z ≤ pmi h n ↔ ∀ x : Int, 0 ≤ x → x ≤ n → z ≤ h x := by
  intro n
  induction n with
  | zero =>
    unfold pmi
    constructor
    · intro h1 x x0 x1
      rw [show x = 0 by omega]; exact h1
    · intro h1; exact h1 0 (by omega) (by omega)
  | succ n ih =>
    unfold pmi
    constructor
    · intro h1 x x0 x1
      by_cases hx : x = (n : Int) + 1
      · rw [hx]; omega
      · exact ih.mp (by omega) x x0 (by omega)
    · intro h1
      have h2 := ih.mpr (fun x x0 x1 => h1 x x0 (by omega))
      have h3 := h1 ((n : Int) + 1) (by omega) (by omega)
      omega
theorem pm_le {h : Int → Int} {a z : Int} (ha : 0 ≤ a) : z ≤ pm h a ↔ ∀ x : Int, 0 ≤ x → x ≤ a → z ≤ h x := by
  unfold pm
  rw [pmi_le]
  constructor
  · intro h1 x x0 x1; exact h1 x x0 (by omega)
  · intro h1 x x0 x1; exact h1 x x0 (by omega)
theorem pm_hmc {c : Int} {g : List (Int × Int)} {h : Int → Int} (hg : gbd g) {a : Int} (ha : 0 ≤ a) : pm (hmc c g h) a = hmc c g (pm h) a := by
  apply Int.le_antisymm
  · rw [hmc_le hg]
    have h1 := (pm_le (h := hmc c g h) (z := pm (hmc c g h) a) ha).mp (Int.le_refl _)
    generalize pm (hmc c g h) a = z at h1 ⊢
    refine ⟨((hmc_le hg).mp (h1 0 (by omega) ha)).1, fun q hq qa => ?_⟩
    have bq := hg q hq
    have h2 : z - q.2 ≤ pm h (a - q.1) := by
      rw [pm_le (by omega)]
      intro y y0 y1
      have h3 := ((hmc_le hg).mp (h1 (y + q.1) (by omega) (by omega))).2 q hq (by omega)
      rw [show y + q.1 - q.1 = y by omega] at h3
      omega
    omega
  · rw [pm_le ha]
    have h1 := (hmc_le (z := hmc c g (pm h) a) (c := c) (f := pm h) (a := a) hg).mp (Int.le_refl _)
    generalize hmc c g (pm h) a = z at h1 ⊢
    intro x x0 x1
    rw [hmc_le hg]
    refine ⟨h1.1, fun q hq qx => ?_⟩
    have bq := hg q hq
    have h2 := h1.2 q hq (by omega)
    have h3 : z - q.2 ≤ pm h (a - q.1) := by omega
    rw [pm_le (by omega)] at h3
    have := h3 (x - q.1) (by omega) (by omega)
    omega
def hrel (B : Int) (m F : Int → Int) : Prop := ∀ a, 0 ≤ a → (0 ≤ m a ∧ m a ≤ B ∧ F a = m a) ∨ (m a = 1000 ∧ F a = 1000000)
theorem hrel_step {B : Int} {g : List (Int × Int)} {m F : Int → Int} (hB : 0 ≤ B) (hB9 : B + 9 < 1000) (hg : gbd g) (h : hrel B m F) : hrel (B + 9) (hmc 1000 g m) (hm g F) := by
  intro a ha
  have key : ∀ (g : List (Int × Int)) (x y : Int), gbd g → ((0 ≤ x ∧ x ≤ B + 9 ∧ y = x) ∨ (x = 1000 ∧ y = 1000000)) → (0 ≤ ht_m m a x g ∧ ht_m m a x g ≤ B + 9 ∧ ht_m F a y g = ht_m m a x g) ∨ (ht_m m a x g = 1000 ∧ ht_m F a y g = 1000000) := by
    intro g
    induction g with
    | nil => intro x y _ h1; exact h1
    | cons q t ih =>
      intro x y hb h1
      obtain ⟨p, q⟩ := q
      have hq : 0 ≤ p ∧ p ≤ 9 ∧ 0 ≤ q ∧ q ≤ 9 := hb (p, q) List.mem_cons_self
      unfold ht_m
      refine ih _ _ (fun z hz => hb z (List.mem_cons_of_mem _ hz)) ?_
      by_cases hp : 0 ≤ a - p ∧ a - p ≤ a
      · rw [if_pos hp, if_pos hp]
        have := h (a - p) (by omega)
        omega
      · rw [if_neg hp, if_neg hp]; exact h1
  exact key g 1000 1000000 hg (Or.inr ⟨rfl, rfl⟩)
theorem hrel.congr {B : Int} {m m' F : Int → Int} (h : hrel B m F) (he : ∀ a, 0 ≤ a → m' a = m a) : hrel B m' F := fun a ha => by rw [he a ha]; exact h a ha
def h00 : Int → Int := fun x => if x = 0 then 0 else 1000
theorem pm_h00 {a : Int} (ha : 0 ≤ a) : pm h00 a = 0 := by
  apply Int.le_antisymm
  · exact (pm_le (h := h00) (z := pm h00 a) ha).mp (Int.le_refl _) 0 (by omega) ha
  · rw [pm_le ha]
    intro x _ _
    unfold h00; split <;> omega
theorem hrel0 : hrel 0 (pm h00) hm0 := fun a ha => Or.inl ⟨by rw [pm_h00 ha]; omega, by rw [pm_h00 ha]; omega, by rw [pm_h00 ha]; rfl⟩
def hstab (N : Int) (m : Int → Int) : Prop := ∀ a, N ≤ a → m (a + 1) = m a
theorem hstab_step {c N : Int} {g : List (Int × Int)} {m : Int → Int} (hN : 0 ≤ N) (hg : gbd g) (h : hstab N m) : hstab (N + 9) (hmc c g m) := fun a ha => ht_congr (fun p p0 p9 => ⟨by omega, fun _ => by rw [show a + 1 - p = (a - p) + 1 by omega]; exact h _ (by omega)⟩) g c hg
theorem hstab.congr {N : Int} {m m' : Int → Int} (hN : 0 ≤ N) (h : hstab N m) (he : ∀ a, 0 ≤ a → m' a = m a) : hstab N m' := fun a ha => by rw [he a (by omega), he (a + 1) (by omega)]; exact h a ha
theorem hstab0 : hstab 0 (pm h00) := fun a ha => by rw [pm_h00 ha, pm_h00 (by omega)]
theorem hstab_far {N : Int} {m m' : Int → Int} (hN : N ≤ 60) (h : hstab N m) (h' : hstab N m') (he : ∀ a, 0 ≤ a → a ≤ 60 → m a = m' a) : ∀ (d : Nat), m (60 + d) = m' (60 + d) := by
  intro d
  induction d with
  | zero => exact he _ (by omega) (by omega)
  | succ d ih =>
    have e : (60 : Int) + ((d + 1 : Nat) : Int) = (60 + (d : Int)) + 1 := by omega
    rw [e, h _ (by omega), h' _ (by omega)]; exact ih
def hmq (g : List (Int × Int)) : Nat → (Int → Int) → Int → Int
  | 0, h => h
  | n + 1, h => hmq g n (hmc 1000 g h)
theorem hmq_s (g : List (Int × Int)) : ∀ (n : Nat) (h : Int → Int), hmq g (n + 1) h = hmc 1000 g (hmq g n h) := by
  intro n
  induction n with
  | zero => intro h; rfl
  | succ n ih => intro h; show hmq g (n + 1) (hmc 1000 g h) = _; rw [ih]; rfl
theorem hmq_rel {g : List (Int × Int)} (hg : gbd g) : ∀ (n : Nat) (h F : Int → Int) (B : Int), 0 ≤ B → B + 9 * n < 1000 → hrel B (pm h) F → hrel (B + 9 * n) (pm (hmq g n h)) (hmp g n F) := by
  intro n
  induction n with
  | zero => intro h F B _ _ h1; show hrel (B + 9 * ((0 : Nat) : Int)) (pm h) F; rw [show B + 9 * ((0 : Nat) : Int) = B by omega]; exact h1
  | succ n ih =>
    intro h F B hB hB9 h1
    have h2 := ih (hmc 1000 g h) (hm g F) (B + 9) (by omega) (by omega) ((hrel_step hB (by omega) hg h1).congr (fun a ha => pm_hmc hg ha))
    rw [show B + 9 * ((n + 1 : Nat) : Int) = B + 9 + 9 * n by omega]
    exact h2
theorem hmq_stab {g : List (Int × Int)} (hg : gbd g) : ∀ (n : Nat) (h : Int → Int) (N : Int), 0 ≤ N → hstab N (pm h) → hstab (N + 9 * n) (pm (hmq g n h)) := by
  intro n
  induction n with
  | zero => intro h N _ h1; show hstab (N + 9 * ((0 : Nat) : Int)) (pm h); rw [show N + 9 * ((0 : Nat) : Int) = N by omega]; exact h1
  | succ n ih =>
    intro h N hN h1
    have h2 := ih (hmc 1000 g h) (N + 9) (by omega) ((hstab_step hN hg h1).congr (by omega) (fun a ha => pm_hmc hg ha))
    rw [show N + 9 * ((n + 1 : Nat) : Int) = N + 9 + 9 * n by omega]
    exact h2
/-- the rows are of 0 to a thousand -/
def hbk (h : Int → Int) : Prop := ∀ x, 0 ≤ h x ∧ h x ≤ 1000
theorem hbk0 : hbk h00 := fun x => by unfold h00; split <;> omega
theorem hbk_m {g : List (Int × Int)} {h : Int → Int} (hg : gbd g) (hh : hbk h) : hbk (hmc 1000 g h) := fun x => by
  have h0 : 0 ≤ hmc 1000 g h x := (hmc_le hg).mpr ⟨by omega, fun q hq _ => by have := hg q hq; have := hh (x - q.1); omega⟩
  have h1 := ((hmc_le (z := hmc 1000 g h x) (c := 1000) (f := h) (a := x) hg).mp (Int.le_refl _)).1
  exact ⟨h0, h1⟩
theorem pm_bk {h : Int → Int} (hh : hbk h) {a : Int} (ha : 0 ≤ a) : 0 ≤ pm h a ∧ pm h a ≤ 1000 := by
  refine ⟨(pm_le ha).mpr (fun x _ _ => (hh x).1), ?_⟩
  have := (pm_le (h := h) (z := pm h a) ha).mp (Int.le_refl _) 0 (by omega) ha
  have := (hh 0).2
  omega
/-- the HEIGHT of one IDEAL -/
theorem low_at {g : List (Int × Int)} {a : Int} (hg : gbd g) (ha : 0 ≤ a) : x_at (hm g hm0) a = ig_low a (-5) g := by
  have key : ∀ (g : List (Int × Int)) (acc low : Int), gbd g → ((low = -5 ∧ acc = 1000000) ∨ (0 ≤ low ∧ low ≤ 9 ∧ acc = low)) → (ig_low a low g = -5 ∧ ht_m hm0 a acc g = 1000000) ∨ (0 ≤ ig_low a low g ∧ ig_low a low g ≤ 9 ∧ ht_m hm0 a acc g = ig_low a low g) := by
    intro g
    induction g with
    | nil => intro acc low _ h; exact h
    | cons q t ih =>
      intro acc low hb h
      obtain ⟨p, q⟩ := q
      have hq : 0 ≤ p ∧ p ≤ 9 ∧ 0 ≤ q ∧ q ≤ 9 := hb (p, q) List.mem_cons_self
      unfold ht_m ig_low
      refine ih _ _ (fun z hz => hb z (List.mem_cons_of_mem _ hz)) ?_
      by_cases hp : p ≤ a
      · rw [if_pos (show 0 ≤ a - p ∧ a - p ≤ a by omega), if_pos hp]
        unfold lowO hm0
        omega
      · rw [if_neg (show ¬ (0 ≤ a - p ∧ a - p ≤ a) by omega), if_neg hp]; exact h
  have h := key g 1000000 (-5) hg (Or.inl ⟨rfl, rfl⟩)
  unfold x_at hm
  rcases h with h | h
  · rw [h.1, h.2]; rfl
  · rw [h.2.2, if_pos (by omega)]
theorem hrel_at {B : Int} {m F : Int → Int} {a : Int} (hB : B < 1000) (h : hrel B m F) (ha : 0 ≤ a) : (if m a = 1000 then -5 else m a) = x_at F a := by
  unfold x_at
  rcases h a ha with ⟨h1, h2, h3⟩ | ⟨h1, h2⟩
  · rw [if_neg (by omega), h3, if_pos (by omega)]
  · rw [if_pos h1, h2]; rfl
/-- how soon they are met -/
theorem met_iff {B N : Int} {A C L R : Int → Int} (hB : B < 1000) (hN : N ≤ 60) (h1 : hrel B A L) (h2 : hrel B C R) (s1 : hstab N A) (s2 : hstab N C) : hk L R ↔ ∀ x, 0 ≤ x → x ≤ 71 → A x = C x := by
  constructor
  · intro h
    have e60 : ∀ a, 0 ≤ a → a ≤ 60 → A a = C a := fun a a0 a1 => by
      have := h a a0 a1
      have := h1 a a0
      have := h2 a a0
      omega
    intro x x0 x1
    by_cases hx : x ≤ 60
    · exact e60 x x0 hx
    · have := hstab_far hN s1 s2 e60 (x - 60).toNat
      rw [show (60 : Int) + ((x - 60).toNat : Int) = x by omega] at this
      exact this
  · intro h a a0 a1
    have := h a a0 (by omega)
    have := h1 a a0
    have := h2 a a0
    omega
