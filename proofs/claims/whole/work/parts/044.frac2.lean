/-! FRACTIONS as the model counts them -/
def fitR (x : Rat) : Prop := -(2 ^ 63 : Int) < x.num ∧ x.num < 2 ^ 63 ∧ (x.den : Int) < 2 ^ 63
/-- the sum's numerator over the least common bottom -/
def preN (x y : Rat) : Int := x.num * ((y.den / Nat.gcd x.den y.den : Nat) : Int) + y.num * ((x.den / Nat.gcd x.den y.den : Nat) : Int)
def preD (x y : Rat) : Int := ((x.den / Nat.gcd x.den y.den : Nat) : Int) * (y.den : Int)
def fitA (x y : Rat) : Prop := -(2 ^ 63 : Int) < preN x y ∧ preN x y < 2 ^ 63 ∧ preD x y < 2 ^ 63
theorem nd (x : Rat) : x = (x.num : Rat) / (x.den : Rat) := by
  rw [← Rat.intCast_natCast, ← Rat.divInt_eq_div, Rat.num_divInt_den]
theorem preD_pos (x y : Rat) : 0 < preD x y := by
  unfold preD
  have h1 := Nat.div_gcd_pos_of_pos_left (a := x.den) y.den x.den_pos
  have h2 := y.den_pos
  exact Int.mul_pos (by omega) (by omega)
theorem pre_add (x y : Rat) : Rat.divInt (preN x y) (preD x y) = x + y := by
  have h1 := Nat.div_gcd_pos_of_pos_left (a := x.den) y.den x.den_pos
  have h2 := Nat.div_gcd_pos_of_pos_right (b := y.den) x.den y.den_pos
  have h3 : 0 < Nat.gcd x.den y.den := Nat.gcd_pos_of_pos_left _ x.den_pos
  have e1 : x.den = Nat.gcd x.den y.den * (x.den / Nat.gcd x.den y.den) := (Nat.mul_div_cancel' (Nat.gcd_dvd_left _ _)).symm
  have e2 : y.den = Nat.gcd x.den y.den * (y.den / Nat.gcd x.den y.den) := (Nat.mul_div_cancel' (Nat.gcd_dvd_right _ _)).symm
  unfold preN preD
  have hx : x = (x.num : Rat) / (x.den : Rat) := nd x
  have hy : y = (y.num : Rat) / (y.den : Rat) := nd y
  generalize x.den / Nat.gcd x.den y.den = B at *
  generalize y.den / Nat.gcd x.den y.den = D at *
  generalize Nat.gcd x.den y.den = G at *
  rw [Rat.divInt_eq_div]
  have hB : (B : Rat) ≠ 0 := fun h => by have := Rat.natCast_eq_zero_iff.mp h; omega
  have hD : (D : Rat) ≠ 0 := fun h => by have := Rat.natCast_eq_zero_iff.mp h; omega
  have hG : (G : Rat) ≠ 0 := fun h => by have := Rat.natCast_eq_zero_iff.mp h; omega
  have c1 : (x.den : Rat) = (G : Rat) * (B : Rat) := by rw [e1, Rat.natCast_mul]
  have c2 : (y.den : Rat) = (G : Rat) * (D : Rat) := by rw [e2, Rat.natCast_mul]
  rw [c1] at hx
  rw [c2] at hy
  have c3 : ((x.num * (D : Int) + y.num * (B : Int) : Int) : Rat) = (x.num : Rat) * (D : Rat) + (y.num : Rat) * (B : Rat) := by
    rw [Rat.intCast_add, Rat.intCast_mul, Rat.intCast_mul, Rat.intCast_natCast, Rat.intCast_natCast]
  have c4 : (((B : Int) * (y.den : Int) : Int) : Rat) = (B : Rat) * ((G : Rat) * (D : Rat)) := by
    rw [Rat.intCast_mul, Rat.intCast_natCast, Rat.intCast_natCast, c2]
  rw [c3, c4]
  generalize (x.num : Rat) = a at *
  generalize (y.num : Rat) = c at *
  rw [hx, hy]
  grind
theorem mul_nd (x y : Rat) : (x * y).num = x.num.tdiv (Nat.gcd x.num.natAbs y.den : Nat) * y.num.tdiv (Nat.gcd y.num.natAbs x.den : Nat) ∧ (x * y).den = x.den / Nat.gcd y.num.natAbs x.den * (y.den / Nat.gcd x.num.natAbs y.den) := by
  have e : x * y = Rat.mul x y := rfl
  rw [e, Rat.mul]
  refine ⟨?_, ?_⟩
  · simp only [Int.divExact_eq_tdiv]
  · simp only [Nat.divExact_eq_div]
theorem inv_nd {x : Rat} (h : 0 < x) : (x⁻¹).num = (x.den : Int) ∧ ((x⁻¹).den : Int) = x.num := by
  have h1 : 0 < x.num := by
    have h2 := Rat.num_nonneg.mpr (Rat.le_of_lt h)
    have h3 : x.num ≠ 0 := fun e => Rat.ne_of_gt h (Rat.num_eq_zero.mp e)
    omega
  have e : x⁻¹ = Rat.inv x := rfl
  rw [e, Rat.inv, dif_neg (by omega), dif_pos h1]
  exact ⟨rfl, by show ((x.num.natAbs : Nat) : Int) = x.num; omega⟩
theorem preN_eq (x y : Rat) : (preN x y : Rat) = (x + y) * (preD x y : Rat) := by
  have h := pre_add x y
  have h0 := preD_pos x y
  rw [Rat.divInt_eq_div] at h
  rw [← h, Rat.div_mul_cancel]
  exact fun e => by have := Rat.intCast_eq_zero_iff.mp e; omega
theorem preD_dvd {x y : Rat} {D : Nat} (hx : x.den ∣ D) (hy : y.den ∣ D) : ∃ k : Nat, (D : Int) = preD x y * (k : Int) := by
  have h : x.den / Nat.gcd x.den y.den * y.den ∣ D := by
    rw [Nat.div_mul_right_comm (Nat.gcd_dvd_left _ _)]
    exact Nat.lcm_dvd hx hy
  obtain ⟨k, hk⟩ := h
  exact ⟨k, by unfold preD; rw [hk, Int.natCast_mul, Int.natCast_mul]⟩
theorem absk {a : Int} {k : Nat} (hk : 0 < k) {B : Int} (h1 : -B < a * k) (h2 : a * k < B) : -B < a ∧ a < B := by
  have hk : (1 : Int) ≤ k := by omega
  rcases Int.lt_or_le a 0 with h | h
  · have h3 : a * k ≤ a * 1 := Int.mul_le_mul_of_nonpos_left (by omega) hk
    omega
  · have h3 : a * 1 ≤ a * k := Int.mul_le_mul_of_nonneg_left hk h
    omega
theorem fitA_of {x y : Rat} {D : Nat} (hD0 : 0 < D) (hD : D < 2 ^ 63) (hx : x.den ∣ D) (hy : y.den ∣ D) (h1 : -(2 ^ 63 : Rat) < (x + y) * (D : Rat)) (h2 : (x + y) * (D : Rat) < 2 ^ 63) : fitA x y := by
  obtain ⟨k, hk⟩ := preD_dvd hx hy
  have h0 := preD_pos x y
  have hk0 : 0 < k := by
    rcases Nat.eq_zero_or_pos k with h | h
    · rw [h] at hk; simp at hk; omega
    · exact h
  have e : (x + y) * (D : Rat) = ((preN x y * (k : Int) : Int) : Rat) := by
    rw [Rat.intCast_mul, preN_eq, ← Rat.intCast_natCast D, hk, Rat.intCast_mul, Rat.mul_assoc]
  rw [e] at h1 h2
  have h1 : (((-(2 ^ 63 : Int)) : Int) : Rat) < ((preN x y * (k : Int) : Int) : Rat) := h1
  have h2 : ((preN x y * (k : Int) : Int) : Rat) < (((2 ^ 63 : Int) : Int) : Rat) := h2
  have h3 := absk hk0 (Rat.intCast_lt_intCast.mp h1) (Rat.intCast_lt_intCast.mp h2)
  refine ⟨h3.1, h3.2, ?_⟩
  have h4 : preD x y * 1 ≤ preD x y * (k : Int) := Int.mul_le_mul_of_nonneg_left (by omega) (by omega)
  omega
theorem fitR_of {x : Rat} {D : Nat} (hD0 : 0 < D) (hD : D < 2 ^ 63) (hx : x.den ∣ D) (h1 : -(2 ^ 63 : Rat) < x * (D : Rat)) (h2 : x * (D : Rat) < 2 ^ 63) : fitR x := by
  obtain ⟨k, hk⟩ := hx
  have hk0 : 0 < k := by
    rcases Nat.eq_zero_or_pos k with h | h
    · rw [h] at hk; simp at hk; omega
    · exact h
  have e : x * (D : Rat) = ((x.num * (k : Int) : Int) : Rat) := by
    rw [hk, Rat.natCast_mul, ← Rat.mul_assoc, Rat.intCast_mul, Rat.intCast_natCast]
    congr 1
    have := nd x
    have h0 : (x.den : Rat) ≠ 0 := fun h => x.den_nz (Rat.natCast_eq_zero_iff.mp h)
    generalize hn : (x.num : Rat) = a at *
    generalize hd : (x.den : Rat) = b at *
    rw [this, Rat.div_mul_cancel h0]
  rw [e] at h1 h2
  have h1 : (((-(2 ^ 63 : Int)) : Int) : Rat) < ((x.num * (k : Int) : Int) : Rat) := h1
  have h2 : ((x.num * (k : Int) : Int) : Rat) < (((2 ^ 63 : Int) : Int) : Rat) := h2
  have h3 := absk hk0 (Rat.intCast_lt_intCast.mp h1) (Rat.intCast_lt_intCast.mp h2)
  refine ⟨h3.1, h3.2, ?_⟩
  have h4 : x.den * 1 ≤ x.den * k := Nat.mul_le_mul_left _ hk0
  omega
theorem den_dvd (a : Int) {D : Nat} (hD : 0 < D) : (Rat.divInt a (D : Int)).den ∣ D := by
  rw [Rat.den_divInt, if_neg (by omega), Int.natAbs_natCast]
  exact Nat.div_dvd_of_dvd (by show Nat.gcd _ _ ∣ D; rw [Int.natAbs_natCast]; exact Nat.gcd_dvd_left _ _)
theorem divInt_D (a : Int) {D : Nat} (hD : 0 < D) : Rat.divInt a (D : Int) * (D : Rat) = (a : Rat) := by
  rw [Rat.divInt_eq_div, Rat.intCast_natCast, Rat.div_mul_cancel]
  exact fun h => by have := Rat.natCast_eq_zero_iff.mp h; omega
/-- fractions over one small bottom -/
theorem fitR_d {a : Int} {D : Nat} (hD : 0 < D) (hD2 : D < 2 ^ 63) (h1 : -(2 ^ 63 : Int) < a) (h2 : a < 2 ^ 63) : fitR (Rat.divInt a (D : Int)) := by
  refine fitR_of hD hD2 (den_dvd a hD) ?_ ?_
  · rw [divInt_D a hD]
    exact Rat.intCast_lt_intCast.mpr h1
  · rw [divInt_D a hD]
    exact Rat.intCast_lt_intCast.mpr h2
theorem divInt_add {a b : Int} {D : Nat} (hD : 0 < D) : Rat.divInt a (D : Int) + Rat.divInt b (D : Int) = Rat.divInt (a + b) (D : Int) := by
  have h : (D : Rat) ≠ 0 := fun h => by have := Rat.natCast_eq_zero_iff.mp h; omega
  rw [Rat.divInt_eq_div, Rat.divInt_eq_div, Rat.divInt_eq_div, Rat.intCast_add, Rat.intCast_natCast]
  grind
theorem fitA_d {a b : Int} {D : Nat} (hD : 0 < D) (hD2 : D < 2 ^ 63) (h1 : -(2 ^ 63 : Int) < a + b) (h2 : a + b < 2 ^ 63) : fitA (Rat.divInt a (D : Int)) (Rat.divInt b (D : Int)) := by
  refine fitA_of hD hD2 (den_dvd a hD) (den_dvd b hD) ?_ ?_
  · rw [divInt_add hD, divInt_D _ hD]
    exact Rat.intCast_lt_intCast.mpr h1
  · rw [divInt_add hD, divInt_D _ hD]
    exact Rat.intCast_lt_intCast.mpr h2
/-- the weights of the first i letters, multiplied -/
def wfr (w u : Nat → Nat) : Nat → Nat
  | 0 => 1
  | i + 1 => wfr w u i * w (u i)
theorem wfr_pos {w u : Nat → Nat} {n : Nat} (h : ∀ j, j < n → 1 ≤ w (u j)) : ∀ {i : Nat}, i ≤ n → 1 ≤ wfr w u i
  | 0, _ => Nat.le_refl 1
  | i + 1, hi => Nat.mul_le_mul (wfr_pos h (i := i) (by omega)) (h i (by omega))
theorem wfr_le {w u : Nat → Nat} {n : Nat} (h : ∀ j, j < n → w (u j) ≤ 4) : ∀ {i : Nat}, i ≤ n → wfr w u i ≤ 4 ^ i
  | 0, _ => Nat.le_refl 1
  | i + 1, hi => by
    have h1 := wfr_le h (i := i) (by omega)
    show wfr w u i * w (u i) ≤ 4 ^ (i + 1)
    rw [Nat.pow_succ]
    exact Nat.mul_le_mul h1 (h i (by omega))
theorem wbk_fr {w u : Nat → Nat} {n : Nat} : ∀ {k : Nat}, k ≤ n → wfr w u k * wbk w u n (n - k) = wbk w u n n
  | 0, _ => by rw [Nat.sub_zero]; exact Nat.one_mul _
  | k + 1, h => by
    rw [← wbk_fr (k := k) (by omega), show n - k = (n - (k + 1)) + 1 by omega]
    show wfr w u k * w (u k) * _ = wfr w u k * (wbk w u n (n - (k + 1)) * w (u (n - 1 - (n - (k + 1)))))
    rw [show n - 1 - (n - (k + 1)) = k by omega, Nat.mul_assoc, Nat.mul_comm (w (u k))]
/-- 1 / P of the first k letters -/
theorem over_eq {Wt : Nat} {w u : Nat → Nat} {n k : Nat} (hw : ∀ j, j < n → 1 ≤ w (u j)) (hk : k ≤ n) : Rat.divInt ((Wt ^ k : Nat) : Int) ((wfr w u k : Nat) : Int) = Rat.divInt ((shr Wt w u n k : Nat) : Int) ((shr Wt w u n 0 : Nat) : Int) := by
  have h1 := wbk_pos hw (i := n - k) (by omega)
  have e0 : shr Wt w u n 0 = wfr w u k * wbk w u n (n - k) := by
    rw [wbk_fr hk]
    show Wt ^ 0 * wbk w u n (n - 0) = _
    rw [Nat.pow_zero, Nat.one_mul, Nat.sub_zero]
  rw [e0]
  show _ = Rat.divInt ((Wt ^ k * wbk w u n (n - k) : Nat) : Int) _
  rw [Int.natCast_mul, Int.natCast_mul, Rat.divInt_mul_right (by omega)]
/-- the LEAD, as far as the laps of at most i letters go -/
def pld (Wt : Nat) (w : Nat → Nat) (ln : Nat → Nat) (u : Nat → Nat → Nat) (a b i : Nat) : Rat := Rat.divInt ((lapS (shr Wt w (u b) (ln b)) (u a) (ln a) (u b) (ln b) i : Nat) : Int) ((shr Wt w (u b) (ln b) 0 : Nat) : Int)
theorem pld_0 {Wt : Nat} {w : Nat → Nat} {ln : Nat → Nat} {u : Nat → Nat → Nat} {a b : Nat} : pld Wt w ln u a b 0 = 0 := by
  show Rat.divInt 0 _ = 0
  rw [Rat.zero_divInt]
theorem pld_n {Wt : Nat} {w : Nat → Nat} {ln : Nat → Nat} {u : Nat → Nat → Nat} {a b i : Nat} (h : ¬ (i + 1 ≤ ln a ∧ i + 1 ≤ ln b ∧ lapD (u a) (ln a) (u b) (i + 1))) : pld Wt w ln u a b (i + 1) = pld Wt w ln u a b i := by
  unfold pld
  have e : lapS (shr Wt w (u b) (ln b)) (u a) (ln a) (u b) (ln b) (i + 1) = lapS (shr Wt w (u b) (ln b)) (u a) (ln a) (u b) (ln b) i + (if i + 1 ≤ ln a ∧ i + 1 ≤ ln b ∧ lapD (u a) (ln a) (u b) (i + 1) then shr Wt w (u b) (ln b) (i + 1) else 0) := rfl
  rw [e, if_neg h, Nat.add_zero]
theorem pld_y {Wt : Nat} {w : Nat → Nat} {ln : Nat → Nat} {u : Nat → Nat → Nat} {a b i : Nat} (hw : ∀ j, j < ln b → 1 ≤ w (u b j)) (h : i + 1 ≤ ln a ∧ i + 1 ≤ ln b ∧ lapD (u a) (ln a) (u b) (i + 1)) : pld Wt w ln u a b i + Rat.divInt ((Wt ^ (i + 1) : Nat) : Int) ((wfr w (u b) (i + 1) : Nat) : Int) = pld Wt w ln u a b (i + 1) := by
  rw [over_eq hw h.2.1]
  unfold pld
  have e : lapS (shr Wt w (u b) (ln b)) (u a) (ln a) (u b) (ln b) (i + 1) = lapS (shr Wt w (u b) (ln b)) (u a) (ln a) (u b) (ln b) i + (if i + 1 ≤ ln a ∧ i + 1 ≤ ln b ∧ lapD (u a) (ln a) (u b) (i + 1) then shr Wt w (u b) (ln b) (i + 1) else 0) := rfl
  rw [e, if_pos h, Int.natCast_add, divInt_add (shr_0 hw)]
theorem pld_fit {Wt : Nat} {w : Nat → Nat} {ln : Nat → Nat} {u : Nat → Nat → Nat} {a b i : Nat} (hw : ∀ j, j < ln b → 1 ≤ w (u b j)) (hw4 : ∀ j, j < ln b → w (u b j) ≤ 4) (hW : Wt ≤ 4) (hn : ln b ≤ 5) (hi : i ≤ 5) : fitR (pld Wt w ln u a b i) := by
  have h0 := shr_0 (Wt := Wt) hw
  have h1 := shr_le (k := 0) hW hw4 hn (by omega)
  have h2 := lapS_le (f := shr Wt w (u b) (ln b)) (u := u a) (n := ln a) (v := u b) (m := ln b) (B := 1024) (fun k hk => shr_le hW hw4 hn hk) i
  exact fitR_d h0 (by omega) (by omega) (by omega)
theorem over_fit {Wt : Nat} {w u : Nat → Nat} {n k : Nat} (hw : ∀ j, j < n → 1 ≤ w (u j)) (hw4 : ∀ j, j < n → w (u j) ≤ 4) (hW : Wt ≤ 4) (hn : n ≤ 5) (hk : k ≤ n) : fitR (Rat.divInt ((Wt ^ k : Nat) : Int) ((wfr w u k : Nat) : Int)) := by
  have h0 := shr_0 (Wt := Wt) hw
  have h1 := shr_le (k := 0) hW hw4 hn (by omega)
  have h2 := shr_le (k := k) hW hw4 hn hk
  rw [over_eq hw hk]
  exact fitR_d h0 (by omega) (by omega) (by omega)
theorem pld_fitA {Wt : Nat} {w : Nat → Nat} {ln : Nat → Nat} {u : Nat → Nat → Nat} {a b i : Nat} (hw : ∀ j, j < ln b → 1 ≤ w (u b j)) (hw4 : ∀ j, j < ln b → w (u b j) ≤ 4) (hW : Wt ≤ 4) (hn : ln b ≤ 5) (hi : i ≤ 5) {k : Nat} (hk : k ≤ ln b) : fitA (pld Wt w ln u a b i) (Rat.divInt ((Wt ^ k : Nat) : Int) ((wfr w (u b) k : Nat) : Int)) := by
  have h0 := shr_0 (Wt := Wt) hw
  have h1 := shr_le (k := 0) hW hw4 hn (by omega)
  have h2 := lapS_le (f := shr Wt w (u b) (ln b)) (u := u a) (n := ln a) (v := u b) (m := ln b) (B := 1024) (fun k hk => shr_le hW hw4 hn hk) i
  have h3 := shr_le (k := k) hW hw4 hn hk
  rw [over_eq hw hk]
  exact fitA_d h0 (by omega) (by omega) (by omega)
theorem divInt_nd (x : Rat) : Rat.divInt x.num (x.den : Int) = x := Rat.num_divInt_den x
theorem times_n {a b c d : Int} {x y : Rat} (ha : a = x.num) (hb : b = (x.den : Int)) (hc : c = y.num) (hd : d = (y.den : Int)) : a.tdiv ((Nat.gcd a.natAbs d.natAbs : Nat) : Int) * c.tdiv ((Nat.gcd c.natAbs b.natAbs : Nat) : Int) = (x * y).num := by
  rw [(mul_nd x y).1, ha, hb, hc, hd, Int.natAbs_natCast, Int.natAbs_natCast]
theorem times_d {a b c d : Int} {x y : Rat} (ha : a = x.num) (hb : b = (x.den : Int)) (hc : c = y.num) (hd : d = (y.den : Int)) : b.tdiv ((Nat.gcd c.natAbs b.natAbs : Nat) : Int) * d.tdiv ((Nat.gcd a.natAbs d.natAbs : Nat) : Int) = ((x * y).den : Int) := by
  rw [(mul_nd x y).2, ha, hb, hc, hd, Int.natAbs_natCast, Int.natAbs_natCast, Int.natCast_mul]
  rfl
theorem add_n {a b c d : Int} {x y : Rat} (ha : a = x.num) (hb : b = (x.den : Int)) (hc : c = y.num) (hd : d = (y.den : Int)) : a * d.tdiv ((Nat.gcd b.natAbs d.natAbs : Nat) : Int) + c * b.tdiv ((Nat.gcd b.natAbs d.natAbs : Nat) : Int) = preN x y := by
  rw [ha, hb, hc, hd, Int.natAbs_natCast, Int.natAbs_natCast]
  rfl
theorem add_d {b d : Int} {x y : Rat} (hb : b = (x.den : Int)) (hd : d = (y.den : Int)) : b.tdiv ((Nat.gcd b.natAbs d.natAbs : Nat) : Int) * d = preD x y := by
  rw [hb, hd, Int.natAbs_natCast, Int.natAbs_natCast]
  rfl
theorem gcd_rg {a b : Int} (hb : 0 < b ∧ b < 2 ^ 63) : (0 : Int) < ((Nat.gcd a.natAbs b.natAbs : Nat) : Int) ∧ ((Nat.gcd a.natAbs b.natAbs : Nat) : Int) < 2 ^ 63 := by
  have h1 : Nat.gcd a.natAbs b.natAbs ≤ b.natAbs := Nat.gcd_le_right _ (by omega)
  have h2 : 0 < Nat.gcd a.natAbs b.natAbs := Nat.gcd_pos_of_pos_right _ (by omega)
  omega
