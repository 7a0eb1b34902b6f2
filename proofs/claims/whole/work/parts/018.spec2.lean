/-! MORE OF WHAT THE CALLS ANSWER -/
def hTp (o : Option Rat) (tp : Int64) : Int64 := match o with
  | none => tp
  | some x => lZ x.num
def hBt (o : Option Rat) (bt : Int64) : Int64 := match o with
  | none => bt
  | some x => lZ (x.den : Int)
def oLead (Wt : Nat) (w : Nat → Nat) (ln : Nat → Nat) (u : Nat → Nat → Nat) (x y : Int32) : Option Rat := match slotW ln x, slotW ln y with
  | some a, some b => some (fLead Wt w ln u a b)
  | _, _ => none
/-- the sum of (2 k - 1) times the shares, over the LAPS of a word on itself -/
def sprS (Wt : Nat) (w u : Nat → Nat) (n : Nat) : Nat := lapS (fun k => (2 * k - 1) * shr Wt w u n k) u n u n 5
def fMean (Wt : Nat) (w u : Nat → Nat) (n : Nat) : Rat := Rat.divInt ((ownL Wt w u n : Nat) : Int) ((shr Wt w u n 0 : Nat) : Int)
def fSpread (Wt : Nat) (w u : Nat → Nat) (n : Nat) : Rat := Rat.divInt (((ownL Wt w u n : Nat) : Int) * ((ownL Wt w u n : Nat) : Int) - ((sprS Wt w u n : Nat) : Int) * ((shr Wt w u n 0 : Nat) : Int)) (((shr Wt w u n 0 : Nat) : Int) * ((shr Wt w u n 0 : Nat) : Int))
def oWait (Wt : Nat) (w : Nat → Nat) (ln : Nat → Nat) (u : Nat → Nat → Nat) (x y : Int32) : Option Rat := match slotW ln x with
  | some k => if y = 0 then some (fMean Wt w (u k) (ln k)) else if y = 1 then some (fSpread Wt w (u k) (ln k)) else none
  | none => none
/-- the least place below k at which P holds -/
def lsF (P : Nat → Bool) : Nat → Option Nat
  | 0 => none
  | k + 1 => match lsF P k with
    | some a => some a
    | none => if P k = true then some k else none
theorem lsF_none {P : Nat → Bool} : ∀ {k : Nat}, (∀ x, x < k → ¬ P x = true) → lsF P k = none
  | 0, _ => rfl
  | k + 1, h => by
    show (match lsF P k with | some a => some a | none => if P k = true then some k else none) = none
    rw [lsF_none (fun x hx => h x (by omega))]
    exact if_neg (h k (by omega))
theorem lsF_some {P : Nat → Bool} {a : Nat} (h1 : P a = true) (h2 : ∀ x, x < a → ¬ P x = true) : ∀ {k : Nat}, a < k → lsF P k = some a
  | 0, h => absurd h (Nat.not_lt_zero _)
  | k + 1, h => by
    show (match lsF P k with | some a => some a | none => if P k = true then some k else none) = some a
    rcases Nat.lt_or_ge a k with h3 | h3
    · rw [lsF_some h1 h2 h3]
    · have e : a = k := by omega
      subst e
      rw [lsF_none h2]
      exact if_pos h1
/-- where u (n letters) stands first in the text: how many letters are before it -/
def fstT (T : Nat) (t : Nat → Nat) (u : Nat → Nat) (n : Nat) : Option Nat := lsF (fun a => decide (a + n ≤ T ∧ stD t a u n)) (T + 1)
theorem fstT_some {T : Nat} {t u : Nat → Nat} {n a : Nat} (h1 : a + n ≤ T) (h2 : stD t a u n) (h3 : ∀ x, x < a → ¬ stD t x u n) : fstT T t u n = some a :=
  lsF_some (decide_eq_true ⟨h1, h2⟩) (fun x hx h => h3 x hx (of_decide_eq_true h).2) (by omega)
theorem fstT_none {T : Nat} {t u : Nat → Nat} {n : Nat} (h : ∀ x, x + n ≤ T → ¬ stD t x u n) : fstT T t u n = none :=
  lsF_none (fun x _ h2 => h x (of_decide_eq_true h2).1 (of_decide_eq_true h2).2)
def oWon (Wt : Nat) (w : Nat → Nat) (ln : Nat → Nat) (u : Nat → Nat → Nat) (T : Nat) (t : Nat → Nat) (x : Int32) : Option Rat := match slotW ln x with
  | some k => match fstT T t (u k) (ln k) with
    | some _ => some (fMean Wt w (u k) (ln k))
    | none => none
  | none => none
def aCame (ln : Nat → Nat) (u : Nat → Nat → Nat) (T : Nat) (t : Nat → Nat) (x y : Int32) : Int32 := match slotW ln x with
  | some k => if y = 0 then (match fstT T t (u k) (ln k) with | some a => nI (a + ln k) | none => -1) else if y = 1 then nI (cntS (fun a => decide (stD t a (u k) (ln k))) (T + 1 - ln k)) else -1
  | none => -1
def aLetter (T : Nat) (t : Nat → Nat) (x : Int32) : Int32 := if ¬ x < 0 ∧ ¬ nI T ≤ x then nI (t x.toNatClampNeg) else -1
theorem nI_m1 {a : Nat} (h : a < 2 ^ 31) : ¬ nI a = -1 := fun e => by
  have h1 := nI_pos' h
  rw [e] at h1
  exact absurd h1 (by decide)
theorem bnd_mul {a b A B : Nat} (h1 : a ≤ A) (h2 : b ≤ B) : (0 : Int) ≤ (a : Int) * (b : Int) ∧ (a : Int) * (b : Int) ≤ ((A * B : Nat) : Int) := by
  rw [← Int.natCast_mul]
  exact ⟨Int.natCast_nonneg _, Int.ofNat_le.mpr (Nat.mul_le_mul h1 h2)⟩
