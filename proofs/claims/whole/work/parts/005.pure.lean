/-! THE WORDS' OWN NUMBERS -/
theorem nI_or (a b : Nat) : nI a ||| nI b = nI (a ||| b) := by
  apply Int32.toBitVec_inj.1
  show BitVec.ofNat 32 a ||| BitVec.ofNat 32 b = BitVec.ofNat 32 (a ||| b)
  apply BitVec.eq_of_getLsbD_eq
  intro i hi
  simp [hi]
theorem nI_and (a b : Nat) : nI a &&& nI b = nI (a &&& b) := by
  apply Int32.toBitVec_inj.1
  show BitVec.ofNat 32 a &&& BitVec.ofNat 32 b = BitVec.ofNat 32 (a &&& b)
  apply BitVec.eq_of_getLsbD_eq
  intro i hi
  simp [hi]
theorem nI_sl : ∀ n, n < 32 → ((nI n &&& 31).toBitVec.smod 32).toNat = n := by decide +kernel
theorem nI_shl1 {k : Nat} (h : k < 31) : nI 1 <<< (nI k &&& 31) = nI (2 ^ k) := by
  rw [pk_shlN (nI k &&& 31) k (nI_sl k (by omega)) (by rw [Nat.one_mul]; exact Nat.pow_lt_pow_right (by decide) (by omega)), Nat.one_mul]
theorem nI_shr {n k : Nat} (h : n < 2 ^ 31) (hk : k < 32) : nI n >>> (nI k &&& 31) = nI (n / 2 ^ k) := pk_shrN h (nI k &&& 31) k (nI_sl k hk)
/-- the code of the first k letters -/
def px (q : Nat) (u : Nat → Nat) : Nat → Nat
  | 0 => 0
  | k + 1 => px q u k * q + u k
theorem px_lt {q : Nat} {u : Nat → Nat} : ∀ {k : Nat}, (∀ j, j < k → u j < q) → px q u k < q ^ k
  | 0, _ => by simp [px]
  | k + 1, h => by
    have h1 : px q u k < q ^ k := px_lt (fun j hj => h j (by omega))
    have h2 := h k (by omega)
    have h3 : (px q u k + 1) * q ≤ q ^ k * q := Nat.mul_le_mul_right q h1
    rw [Nat.add_mul, Nat.one_mul] at h3
    show px q u k * q + u k < q ^ (k + 1)
    rw [Nat.pow_succ]
    omega
theorem px_inj {q : Nat} {u v : Nat → Nat} : ∀ {k : Nat}, (∀ j, j < k → u j < q) → (∀ j, j < k → v j < q) → (px q u k = px q v k ↔ ∀ j, j < k → u j = v j)
  | 0, _, _ => by simp [px]
  | k + 1, hu, hv => by
    have h1 := px_inj (k := k) (fun j hj => hu j (by omega)) (fun j hj => hv j (by omega))
    have h2 := hu k (by omega)
    have h3 := hv k (by omega)
    constructor
    · intro h j hj
      have h : px q u k * q + u k = px q v k * q + v k := h
      have e1 : u k = v k := by
        have := congrArg (· % q) h
        simpa [Nat.mul_add_mod, Nat.mod_eq_of_lt h2, Nat.mod_eq_of_lt h3, Nat.add_comm, Nat.add_mul_mod_self_right] using this
      have e2 : px q u k = px q v k := by
        rw [e1] at h
        exact Nat.eq_of_mul_eq_mul_right (by omega) (Nat.add_right_cancel h)
      rcases Nat.lt_or_ge j k with hjk | hjk
      · exact h1.mp e2 j hjk
      · rw [show j = k by omega]; exact e1
    · intro h
      show px q u k * q + u k = px q v k * q + v k
      rw [h1.mpr (fun j hj => h j (by omega)), h k (by omega)]
theorem px_congr {q : Nat} {u v : Nat → Nat} : ∀ {k : Nat}, (∀ j, j < k → u j = v j) → px q u k = px q v k
  | 0, _ => rfl
  | k + 1, h => by
    show px q u k * q + u k = px q v k * q + v k
    rw [px_congr (k := k) (fun j hj => h j (by omega)), h k (by omega)]
theorem pow_le5 {q k : Nat} (hq : q ≤ 4) (hk : k ≤ 5) : q ^ k ≤ 1024 := by
  rcases Nat.eq_zero_or_pos q with rfl | h0
  · rcases k with _ | k
    · decide
    · simp
  · exact Nat.le_trans (Nat.pow_le_pow_left hq k) (Nat.le_trans (Nat.pow_le_pow_right (by decide) hk) (by decide))
theorem px_small {q : Nat} {u : Nat → Nat} {k : Nat} (hq : q ≤ 4) (hk : k ≤ 5) (h : ∀ j, j < k → u j < q) : px q u k < 2 ^ 31 :=
  Nat.lt_of_lt_of_le (px_lt h) (Nat.le_trans (pow_le5 hq hk) (by decide))
/-- the last k letters of u, which has n, are the first k of v -/
abbrev lapD (u : Nat → Nat) (n : Nat) (v : Nat → Nat) (k : Nat) : Prop := ∀ j, j < k → u (n - k + j) = v j
theorem lapD_iff {q n k : Nat} {u v : Nat → Nat} (hk : k ≤ n) (hu : ∀ j, j < n → u j < q) (hv : ∀ j, j < k → v j < q) : px q (fun j => u (n - k + j)) k = px q v k ↔ lapD u n v k :=
  px_inj (fun j hj => hu _ (by omega)) hv
/-- laps of two words as bits, up to length k -/
def lapB (u : Nat → Nat) (n : Nat) (v : Nat → Nat) (m : Nat) : Nat → Nat
  | 0 => 0
  | k + 1 => lapB u n v m k ||| (if k + 1 ≤ n ∧ k + 1 ≤ m ∧ lapD u n v (k + 1) then 2 ^ k else 0)
theorem lapB_y {u v : Nat → Nat} {n m k : Nat} (h1 : k + 1 ≤ n) (h2 : k + 1 ≤ m) (h : lapD u n v (k + 1)) : lapB u n v m (k + 1) = lapB u n v m k ||| 2 ^ k := by
  show lapB u n v m k ||| (if _ then 2 ^ k else 0) = _
  rw [if_pos ⟨h1, h2, h⟩]
theorem lapB_n {u v : Nat → Nat} {n m k : Nat} (h : ¬ lapD u n v (k + 1)) : lapB u n v m (k + 1) = lapB u n v m k := by
  show lapB u n v m k ||| (if _ then 2 ^ k else 0) = _
  rw [if_neg (fun h2 => h h2.2.2), Nat.or_zero]
theorem lapB_out {u v : Nat → Nat} {n m k : Nat} (h : min n m ≤ k) : lapB u n v m (k + 1) = lapB u n v m k := by
  show lapB u n v m k ||| (if _ then 2 ^ k else 0) = _
  rw [if_neg (fun h2 => by omega), Nat.or_zero]
theorem lapB_end {u v : Nat → Nat} {n m : Nat} : ∀ (d k : Nat), min n m ≤ k → lapB u n v m (k + d) = lapB u n v m k
  | 0, _, _ => rfl
  | d + 1, k, h => by rw [← Nat.add_assoc, lapB_out (by omega), lapB_end d k h]
theorem lapB_5 {u v : Nat → Nat} {n m k : Nat} (h : min n m ≤ k) (hk : k ≤ 5) : lapB u n v m k = lapB u n v m 5 := by
  rw [← lapB_end (5 - k) k h, show k + (5 - k) = 5 by omega]
/-- the sum of f over the laps, up to length k -/
def lapS (f : Nat → Nat) (u : Nat → Nat) (n : Nat) (v : Nat → Nat) (m : Nat) : Nat → Nat
  | 0 => 0
  | k + 1 => lapS f u n v m k + (if k + 1 ≤ n ∧ k + 1 ≤ m ∧ lapD u n v (k + 1) then f (k + 1) else 0)
theorem lapS_y {f : Nat → Nat} {u v : Nat → Nat} {n m k : Nat} (h1 : k + 1 ≤ n) (h2 : k + 1 ≤ m) (h : lapD u n v (k + 1)) : lapS f u n v m (k + 1) = lapS f u n v m k + f (k + 1) := by
  show lapS f u n v m k + (if _ then _ else 0) = _
  rw [if_pos ⟨h1, h2, h⟩]
theorem lapS_n {f : Nat → Nat} {u v : Nat → Nat} {n m k : Nat} (h : ¬ lapD u n v (k + 1)) : lapS f u n v m (k + 1) = lapS f u n v m k := by
  show lapS f u n v m k + (if _ then _ else 0) = _
  rw [if_neg (fun h2 => h h2.2.2), Nat.add_zero]
theorem lapS_out {f : Nat → Nat} {u v : Nat → Nat} {n m k : Nat} (h : min n m ≤ k) : lapS f u n v m (k + 1) = lapS f u n v m k := by
  show lapS f u n v m k + (if _ then _ else 0) = _
  rw [if_neg (fun h2 => by omega), Nat.add_zero]
theorem lapS_end {f : Nat → Nat} {u v : Nat → Nat} {n m : Nat} : ∀ (d k : Nat), min n m ≤ k → lapS f u n v m (k + d) = lapS f u n v m k
  | 0, _, _ => rfl
  | d + 1, k, h => by rw [← Nat.add_assoc, lapS_out (by omega), lapS_end d k h]
theorem lapS_5 {f : Nat → Nat} {u v : Nat → Nat} {n m k : Nat} (h : min n m ≤ k) (hk : k ≤ 5) : lapS f u n v m k = lapS f u n v m 5 := by
  rw [← lapS_end (5 - k) k h, show k + (5 - k) = 5 by omega]
/-- the weights of the last i of n letters, multiplied -/
def wbk (w u : Nat → Nat) (n : Nat) : Nat → Nat
  | 0 => 1
  | i + 1 => wbk w u n i * w (u (n - 1 - i))
/-- shares: W to the k, times the weights of the letters from the k-th on -/
def shr (W : Nat) (w u : Nat → Nat) (n k : Nat) : Nat := W ^ k * wbk w u n (n - k)
theorem nI_min {a b : Nat} (ha : a < 2 ^ 31) (hb : b < 2 ^ 31) : (if nI b < nI a then nI b else nI a) = nI (min a b) := by
  by_cases h : b < a
  · rw [if_pos (nI_lt h ha), Nat.min_eq_right (by omega)]
  · rw [if_neg (nI_nlt (by omega) hb), Nat.min_eq_left (by omega)]
section XD
variable {p : Program} {l : Launch} {e : Env} {R : Room} {s : State} {m : MethodId} {args : Array Value} {below : List Frame} {meth : Method} {c : Code} {H : Heap} {locs : List Loc} {cells slots : Nat} {Q : State → Prop} {pc : Nat} {ls : Array Slot} {rest : List Value}
theorem xtopi {x y : Int32} (h : x = y) (k : W p l e R s m args below meth c H locs cells slots Q (F0 m pc ls (.int y :: rest))) : W p l e R s m args below meth c H locs cells slots Q (F0 m pc ls (.int x :: rest)) := h ▸ k
theorem xtopl {x y : Int64} (h : x = y) (k : W p l e R s m args below meth c H locs cells slots Q (F0 m pc ls (.long y :: rest))) : W p l e R s m args below meth c H locs cells slots Q (F0 m pc ls (.long x :: rest)) := h ▸ k
end XD
/-- the n letters u stand in t from place a on -/
abbrev stD (t : Nat → Nat) (a : Nat) (u : Nat → Nat) (n : Nat) : Prop := ∀ j, j < n → t (a + j) = u j
def exB (P : Nat → Bool) : Nat → Bool
  | 0 => false
  | k + 1 => exB P k || P k
theorem exB_iff {P : Nat → Bool} : ∀ {k : Nat}, exB P k = true ↔ ∃ a, a < k ∧ P a = true
  | 0 => by simp [exB]
  | k + 1 => by
    show (exB P k || P k) = true ↔ _
    rw [Bool.or_eq_true, exB_iff]
    constructor
    · rintro (⟨a, h1, h2⟩ | h)
      · exact ⟨a, by omega, h2⟩
      · exact ⟨k, by omega, h⟩
    · rintro ⟨a, h1, h2⟩
      rcases Nat.lt_or_ge a k with h | h
      · exact Or.inl ⟨a, h, h2⟩
      · rw [show k = a by omega]; exact Or.inr h2
/-- u (n letters) lies within v (m letters, at most 5) -/
abbrev liesW (u : Nat → Nat) (n : Nat) (v : Nat → Nat) (m : Nat) : Prop := exB (fun a => decide (a + n ≤ m ∧ stD v a u n)) 6 = true
theorem liesW_of {u v : Nat → Nat} {n m a : Nat} (hm : m ≤ 5) (h1 : a + n ≤ m) (h2 : stD v a u n) : liesW u n v m := exB_iff.mpr ⟨a, by omega, decide_eq_true ⟨h1, h2⟩⟩
theorem liesW_to {u v : Nat → Nat} {n m : Nat} (h : liesW u n v m) : ∃ a, a + n ≤ m ∧ stD v a u n := by
  obtain ⟨a, -, h⟩ := exB_iff.mp h
  exact ⟨a, of_decide_eq_true h⟩
def cntS (P : Nat → Bool) : Nat → Nat
  | 0 => 0
  | k + 1 => cntS P k + (if P k = true then 1 else 0)
theorem cntS_y {P : Nat → Bool} {k : Nat} (h : P k = true) : cntS P (k + 1) = cntS P k + 1 := by
  show cntS P k + (if _ then 1 else 0) = _
  rw [if_pos h]
theorem cntS_n {P : Nat → Bool} {k : Nat} (h : ¬ P k = true) : cntS P (k + 1) = cntS P k := by
  show cntS P k + (if _ then 1 else 0) = _
  rw [if_neg h]; rfl
theorem cntS_le {P : Nat → Bool} : ∀ (k : Nat), cntS P k ≤ k
  | 0 => Nat.le_refl 0
  | k + 1 => by
    have h := cntS_le (P := P) k
    show cntS P k + (if _ then 1 else 0) ≤ _
    split <;> omega
/-- the weight of a set of letters, of those below i -/
def wset (w : Nat → Nat) (s : Nat) : Nat → Nat
  | 0 => 0
  | i + 1 => wset w s i + (if s / 2 ^ i % 2 = 1 then w i else 0)
/-- the weights of the letters below i -/
def wsum (w : Nat → Nat) : Nat → Nat
  | 0 => 0
  | i + 1 => wsum w i + w i
theorem and1 (n : Nat) : nI n &&& nI 1 = nI (n % 2) := by rw [nI_and, Nat.and_one_is_mod]
theorem xb1 {P : Prop} [Decidable P] (h : P) : nI 1 = if P then 1 else 0 := by rw [if_pos h]; rfl
theorem xb0 {P : Prop} [Decidable P] (h : ¬ P) : nI 0 = if P then 1 else 0 := by rw [if_neg h]; rfl
