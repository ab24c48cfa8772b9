/-- fractions in lowest terms -/
theorem eg_gcd : ∀ (d a b : Nat), ec d (a : Int) (b : Int) → eg d (a : Int) (b : Int) = (Nat.gcd a b : Int) := by
  intro d
  induction d with
  | zero =>
    intro a b h
    have h : (b : Int) = 0 := h
    have h : b = 0 := by omega
    subst h
    rw [Nat.gcd_zero_right]; rfl
  | succ d ih =>
    intro a b h
    unfold eg
    by_cases hb : (b : Int) = 0
    · rw [if_pos hb]
      have hb : b = 0 := by omega
      subst hb
      rw [Nat.gcd_zero_right]
    · rw [if_neg hb]
      have h1 : ec d (b : Int) ((a : Int) % (b : Int)) := h.resolve_left hb
      rw [← Int.natCast_emod] at h1 ⊢
      rw [ih b (a % b) h1, Nat.gcd_comm b (a % b), ← Nat.gcd_rec b a, Nat.gcd_comm b a]
def red (x : Int × Int) : Int × Int := (lows x.1 x.2 0, lows x.1 x.2 1)
theorem red_spec {x : Int × Int} (hx : 0 ≤ x.1 ∧ x.1 ≤ 1000) (hy : 1 ≤ x.2 ∧ x.2 ≤ 1000) : ∃ g p q : Nat, 0 < g ∧ 0 < q ∧ Nat.Coprime p q ∧ x.1 = p * g ∧ x.2 = q * g ∧ red x = ((p : Int), (q : Int)) := by
  obtain ⟨x, y⟩ := x
  simp only at hx hy
  obtain ⟨a, rfl⟩ := Int.eq_ofNat_of_zero_le hx.1
  obtain ⟨b, rfl⟩ := Int.eq_ofNat_of_zero_le (show 0 ≤ y by omega)
  have hb : 0 < b := by omega
  have hg : 0 < Nat.gcd a b := Nat.gcd_pos_of_pos_right a hb
  have he := eg_gcd 24 a b (ec_24 hx.1 hx.2 (by omega) hy.2)
  refine ⟨Nat.gcd a b, a / Nat.gcd a b, b / Nat.gcd a b, hg, Nat.div_pos (Nat.le_of_dvd hb (Nat.gcd_dvd_right a b)) hg, Nat.coprime_div_gcd_div_gcd hg, ?_, ?_, ?_⟩
  · show (a : Int) = _
    rw [← Int.natCast_mul, Nat.div_mul_cancel (Nat.gcd_dvd_left a b)]
  · show (b : Int) = _
    rw [← Int.natCast_mul, Nat.div_mul_cancel (Nat.gcd_dvd_right a b)]
  · unfold red lows
    rw [if_pos rfl, if_neg (by decide)]
    show ((a : Int) / eg 24 a b, (b : Int) / eg 24 a b) = _
    rw [he, ← Int.natCast_ediv, ← Int.natCast_ediv]
theorem cross_eq {p q r s : Nat} (h1 : Nat.Coprime p q) (h2 : Nat.Coprime r s) (h : p * s = r * q) : p = r ∧ q = s := by
  have d1 : p ∣ r := h1.dvd_of_dvd_mul_right (by rw [← h]; exact Nat.dvd_mul_right p s)
  have d2 : r ∣ p := h2.dvd_of_dvd_mul_right (by rw [h]; exact Nat.dvd_mul_right r q)
  have e : p = r := Nat.dvd_antisymm d1 d2
  subst e
  refine ⟨rfl, ?_⟩
  by_cases hp : p = 0
  · subst hp
    rw [Nat.coprime_zero_left] at h1 h2
    omega
  · exact (Nat.eq_of_mul_eq_mul_left (by omega) h).symm
def rpos (x : Int × Int) : Prop := (0 ≤ x.1 ∧ x.1 ≤ 1000) ∧ (1 ≤ x.2 ∧ x.2 ≤ 1000)
theorem red_lt {x y : Int × Int} (hx : rpos x) (hy : rpos y) : (red y).1 * (red x).2 < (red x).1 * (red y).2 ↔ y.1 * x.2 < x.1 * y.2 := by
  obtain ⟨g, p, q, g0, q0, c1, e1, e2, e3⟩ := red_spec hx.1 hx.2
  obtain ⟨h, r, s, h0, s0, c2, f1, f2, f3⟩ := red_spec hy.1 hy.2
  rw [e3, f3, e1, e2, f1, f2]
  show (r : Int) * q < p * s ↔ _
  have a1 : (r : Int) * h * (q * g) = (r * q) * (h * g) := by rw [Int.mul_assoc, Int.mul_assoc, Int.mul_left_comm (h : Int) q g]
  have a2 : (p : Int) * g * (s * h) = (p * s) * (h * g) := by rw [Int.mul_assoc, Int.mul_assoc, Int.mul_left_comm (g : Int) s h, Int.mul_comm (g : Int) h]
  rw [a1, a2]
  have hp : (0 : Int) < (h : Int) * g := Int.mul_pos (by omega) (by omega)
  exact ⟨fun h => Int.mul_lt_mul_of_pos_right h hp, fun h => Int.lt_of_mul_lt_mul_right h (by omega)⟩
theorem red_eq {x y : Int × Int} (hx : rpos x) (hy : rpos y) : red y = red x ↔ y.1 * x.2 = x.1 * y.2 := by
  obtain ⟨g, p, q, g0, q0, c1, e1, e2, e3⟩ := red_spec hx.1 hx.2
  obtain ⟨h, r, s, h0, s0, c2, f1, f2, f3⟩ := red_spec hy.1 hy.2
  rw [e3, f3, e1, e2, f1, f2]
  have a1 : (r : Int) * h * (q * g) = (r * q) * (h * g) := by rw [Int.mul_assoc, Int.mul_assoc, Int.mul_left_comm (h : Int) q g]
  have a2 : (p : Int) * g * (s * h) = (p * s) * (h * g) := by rw [Int.mul_assoc, Int.mul_assoc, Int.mul_left_comm (g : Int) s h, Int.mul_comm (g : Int) h]
  rw [a1, a2]
  have hp : (0 : Int) < (h : Int) * g := Int.mul_pos (by omega) (by omega)
  constructor
  · intro h
    have h1 := congrArg Prod.fst h
    have h2 := congrArg Prod.snd h
    simp only at h1 h2
    rw [h1, h2]
  · intro h
    have h1 : (r : Int) * q = p * s := Int.eq_of_mul_eq_mul_right (by omega) h
    have h2 : r * q = p * s := by
      have : ((r * q : Nat) : Int) = ((p * s : Nat) : Int) := by rw [Int.natCast_mul, Int.natCast_mul]; exact h1
      omega
    obtain ⟨u1, u2⟩ := cross_eq c2 c1 h2
    rw [u1, u2]
/-- the reference's insertion -/
def zins (x : Int × Int) : List (Int × Int) → List (Int × Int)
  | [] => [x]
  | y :: t => if y.1 * x.2 < x.1 * y.2 then y :: zins x t else if y = x then y :: t else x :: y :: t
theorem zins_red {x : Int × Int} (hx : rpos x) : ∀ (J : List (Int × Int)), (∀ y ∈ J, rpos y) → zins (red x) (J.map red) = (jins x J).map red := by
  intro J
  induction J with
  | nil => intro _; rfl
  | cons y t ih =>
    intro h
    have hy := h y List.mem_cons_self
    rw [List.map_cons]
    unfold zins jins
    by_cases h1 : y.1 * x.2 < x.1 * y.2
    · rw [if_pos ((red_lt hx hy).mpr h1), if_pos h1, List.map_cons, ih (fun z hz => h z (List.mem_cons_of_mem _ hz))]
    · rw [if_neg (fun h2 => h1 ((red_lt hx hy).mp h2)), if_neg h1]
      by_cases h3 : y.1 * x.2 = x.1 * y.2
      · rw [if_pos ((red_eq hx hy).mpr h3), if_pos h3, List.map_cons]
      · rw [if_neg (fun h2 => h3 ((red_eq hx hy).mp h2)), if_neg h3, List.map_cons, List.map_cons]
theorem zins_ia {x : Int × Int} : ∀ (J : List (Int × Int)) (i : Nat), i ≤ J.length → (∀ (j : Nat) (q : Int × Int), j < i → J[j]? = some q → jr_lt q x) → (∀ q, J[i]? = some q → ¬ jr_lt q x ∧ q ≠ x) → zins x J = jr_ia x i J := by
  intro J
  induction J with
  | nil => intro i hi h1 h2; have : i = 0 := by simpa using hi
           subst this; rfl
  | cons y t ih =>
    intro i hi h1 h2
    match i with
    | 0 =>
      obtain ⟨h3, h4⟩ := h2 y rfl
      have h3 : ¬ y.1 * x.2 < x.1 * y.2 := h3
      show (if y.1 * x.2 < x.1 * y.2 then _ else _) = _
      rw [if_neg h3, if_neg h4]; rfl
    | i + 1 =>
      have h3 : y.1 * x.2 < x.1 * y.2 := h1 0 y (by omega) rfl
      show (if y.1 * x.2 < x.1 * y.2 then _ else _) = _
      rw [if_pos h3, ih i (by simpa using hi) (fun j q hj hq => h1 (j + 1) q (by omega) hq) (fun q hq => h2 q hq)]; rfl
theorem zins_eq {x : Int × Int} : ∀ (J : List (Int × Int)) (i : Nat), J[i]? = some x → (∀ (j : Nat) (q : Int × Int), j < i → J[j]? = some q → jr_lt q x) → zins x J = J := by
  intro J
  induction J with
  | nil => intro i h; simp at h
  | cons y t ih =>
    intro i hz h1
    match i with
    | 0 =>
      cases hz
      show (if x.1 * x.2 < x.1 * x.2 then _ else _) = _
      rw [if_neg (by omega), if_pos rfl]
    | i + 1 =>
      have h3 : y.1 * x.2 < x.1 * y.2 := h1 0 y (by omega) rfl
      show (if y.1 * x.2 < x.1 * y.2 then _ else _) = _
      rw [if_pos h3, ih i hz (fun j q hj hq => h1 (j + 1) q (by omega) hq)]
theorem red_bd {x : Int × Int} (hx : 0 ≤ x.1 ∧ x.1 ≤ 180) (hy : 1 ≤ x.2 ∧ x.2 ≤ 162) : (0 ≤ (red x).1 ∧ (red x).1 ≤ 180) ∧ (1 ≤ (red x).2 ∧ (red x).2 ≤ 162) := by
  obtain ⟨g, p, q, g0, q0, c1, e1, e2, e3⟩ := red_spec (x := x) (by omega) (by omega)
  rw [e3]
  have a1 : (p : Int) * 1 ≤ p * g := Int.mul_le_mul_of_nonneg_left (by omega) (by omega)
  have a2 : (q : Int) * 1 ≤ q * g := Int.mul_le_mul_of_nonneg_left (by omega) (by omega)
  refine ⟨⟨by show (0 : Int) ≤ p; omega, by show (p : Int) ≤ 180; omega⟩, ⟨by show (1 : Int) ≤ q; omega, by show (q : Int) ≤ 162; omega⟩⟩
theorem red_cross {x : Int × Int} {n d : Int} (hx : rpos x) : (red x).1 * d = n * (red x).2 ↔ x.1 * d = n * x.2 := by
  obtain ⟨g, p, q, g0, q0, c1, e1, e2, e3⟩ := red_spec hx.1 hx.2
  rw [e3, e1, e2]
  show (p : Int) * d = n * q ↔ _
  have a1 : (p : Int) * g * d = (p * d) * g := by rw [Int.mul_assoc, Int.mul_comm (g : Int) d, ← Int.mul_assoc]
  have a2 : n * ((q : Int) * g) = (n * q) * g := by rw [Int.mul_assoc]
  rw [a1, a2]
  exact ⟨fun h => by rw [h], fun h => Int.eq_of_mul_eq_mul_right (by omega) h⟩
