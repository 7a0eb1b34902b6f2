/-! EUCLID within 100 steps; fractions in lowest terms as Rat has them -/
def fb : Nat → Nat
  | 0 => 0
  | 1 => 1
  | n + 2 => fb (n + 1) + fb n
def fbT : Nat → Nat × Nat
  | 0 => (0, 1)
  | n + 1 => ((fbT n).2, (fbT n).1 + (fbT n).2)
theorem fbT_eq : ∀ n, fbT n = (fb n, fb (n + 1))
  | 0 => rfl
  | n + 1 => by
    show ((fbT n).2, (fbT n).1 + (fbT n).2) = _
    rw [fbT_eq n]
    exact congrArg (fun z => (fb (n + 1), z)) (Nat.add_comm (fb n) (fb (n + 1)))
theorem fb_100 : 2 ^ 63 ≤ fb 100 := by
  have h : (fbT 100).1 = fb 100 := by rw [fbT_eq]
  rw [← h]
  decide +kernel
/-- where Euclid stands after i steps from a, b -/
def eu (a b i x y : Nat) : Prop := Nat.gcd x y = Nat.gcd a b ∧ (x < 2 ^ 63 ∧ y < 2 ^ 63) ∧ ((i = 0 ∧ x = a ∧ y = b) ∨ (1 ≤ i ∧ y < x ∧ fb i * x + fb (i - 1) * y ≤ b))
theorem eu_0 {a b : Nat} (ha : a < 2 ^ 63) (hb : b < 2 ^ 63) : eu a b 0 a b := ⟨rfl, ⟨ha, hb⟩, Or.inl ⟨rfl, rfl, rfl⟩⟩
theorem eu_s {a b i x y : Nat} (h : eu a b i x y) (hy : y ≠ 0) : eu a b (i + 1) y (x % y) := by
  obtain ⟨h1, ⟨h2, h3⟩, h4⟩ := h
  have hlt : x % y < y := Nat.mod_lt x (by omega)
  refine ⟨?_, ⟨h3, by omega⟩, Or.inr ⟨by omega, hlt, ?_⟩⟩
  · rw [← h1, Nat.gcd_comm y, ← Nat.gcd_rec, Nat.gcd_comm]
  · rcases h4 with ⟨rfl, rfl, rfl⟩ | ⟨h5, h6, h7⟩
    · show 1 * y + 0 * (x % y) ≤ y
      omega
    · obtain ⟨k, rfl⟩ : ∃ k, i = k + 1 := ⟨i - 1, by omega⟩
      have h8 : y + x % y ≤ x := by
        have h9 := Nat.div_add_mod x y
        have h10 : 1 ≤ x / y := Nat.div_pos (by omega) (by omega)
        have h11 : y * 1 ≤ y * (x / y) := Nat.mul_le_mul_left y h10
        omega
      show fb (k + 2) * y + fb (k + 1) * (x % y) ≤ b
      have h7 : fb (k + 1) * x + fb k * y ≤ b := h7
      have h12 : fb (k + 1) * (y + x % y) ≤ fb (k + 1) * x := Nat.mul_le_mul_left _ h8
      have h13 : fb (k + 2) * y = fb (k + 1) * y + fb k * y := by
        show (fb (k + 1) + fb k) * y = _
        rw [Nat.add_mul]
      rw [Nat.mul_add] at h12
      omega
theorem eu_100 {a b x y : Nat} (hb : b < 2 ^ 63) (h : eu a b 100 x y) : False := by
  obtain ⟨-, -, h | ⟨-, h6, h7⟩⟩ := h
  · omega
  · have h8 := fb_100
    have h9 : fb 100 * 1 ≤ fb 100 * x := Nat.mul_le_mul_left _ (by omega)
    omega
theorem eu_e {a b i x : Nat} (h : eu a b i x 0) : x = Nat.gcd a b := by
  rw [← h.1, Nat.gcd_zero_right]
theorem lZ_abs {a : Int} (h : -(2 ^ 63 : Int) < a ∧ a < 2 ^ 63) : (if (0 : Int64) < lZ a then lZ a else -lZ a) = lZ (a.natAbs : Int) := by
  by_cases h0 : 0 < a
  · rw [if_pos (show (0 : Int64) < lZ a from (lZ_lt (a := 0) (by decide) (by omega)).mpr h0)]
    congr 1; omega
  · rw [if_neg (show ¬ (0 : Int64) < lZ a from fun h2 => h0 ((lZ_lt (a := 0) (by decide) (by omega)).mp h2)), lZ_neg]
    congr 1; omega
theorem fr_g {a b : Int} : Int.gcd b a = Nat.gcd a.natAbs b.natAbs := by
  show Nat.gcd b.natAbs a.natAbs = _
  rw [Nat.gcd_comm]
theorem fr_da {a b : Int} : ((Nat.gcd a.natAbs b.natAbs : Nat) : Int) ∣ a := Int.ofNat_dvd_left.mpr (Nat.gcd_dvd_left _ _)
theorem fr_db {a b : Int} : ((Nat.gcd a.natAbs b.natAbs : Nat) : Int) ∣ b := Int.ofNat_dvd_left.mpr (Nat.gcd_dvd_right _ _)
theorem fr_np {a b : Int} (hb : 0 < b) : a.tdiv (Nat.gcd a.natAbs b.natAbs : Nat) = (Rat.divInt a b).num := by
  rw [Rat.num_divInt, fr_g, Int.sign_eq_one_of_pos hb, Int.one_mul, Int.tdiv_eq_ediv_of_dvd fr_da]
theorem fr_dp {a b : Int} (hb : 0 < b) : b.tdiv (Nat.gcd a.natAbs b.natAbs : Nat) = ((Rat.divInt a b).den : Int) := by
  rw [Rat.den_divInt, if_neg (by omega), fr_g, Int.tdiv_eq_ediv_of_dvd fr_db, Int.natCast_ediv]
  congr 1; omega
theorem fr_nn {a b : Int} (hb : b < 0) : a.tdiv (-(Nat.gcd a.natAbs b.natAbs : Nat)) = (Rat.divInt a b).num := by
  rw [Rat.num_divInt, fr_g, Int.sign_eq_neg_one_of_neg hb, Int.tdiv_neg, Int.tdiv_eq_ediv_of_dvd fr_da, Int.neg_mul, Int.one_mul, Int.neg_ediv_of_dvd fr_da]
theorem fr_dn {a b : Int} (hb : b < 0) : b.tdiv (-(Nat.gcd a.natAbs b.natAbs : Nat)) = ((Rat.divInt a b).den : Int) := by
  rw [Rat.den_divInt, if_neg (by omega), fr_g, Int.tdiv_neg, Int.tdiv_eq_ediv_of_dvd fr_db, Int.natCast_ediv, ← Int.neg_ediv_of_dvd fr_db]
  congr 1; omega
