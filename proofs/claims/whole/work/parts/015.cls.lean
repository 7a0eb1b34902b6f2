/-! THE CLASS'S STATE: cells 0 .. 61 -/
/-- the SLOT's number, where it has a WORD -/
def slotW (ln : Nat → Nat) (x : Int32) : Option Nat := if ¬ x < 0 ∧ ¬ nI 8 ≤ x ∧ 0 < ln x.toNatClampNeg then some x.toNatClampNeg else none
def noW (ln : Nat → Nat) (x : Int32) : Prop := x < 0 ∨ nI 8 ≤ x ∨ ∃ k, k < 8 ∧ x = nI k ∧ ln k = 0
theorem slotW_yes {ln : Nat → Nat} {k : Nat} (hk : k < 8) (h : 0 < ln k) : slotW ln (nI k) = some k := by
  unfold slotW
  have hc : (nI k).toNatClampNeg = k := nI_clamp (by omega)
  rw [hc, if_pos ⟨nI_pos (by omega), nI_ge hk (by decide), h⟩]
theorem slotW_no {ln : Nat → Nat} {x : Int32} (h : noW ln x) : slotW ln x = none := by
  unfold slotW
  refine if_neg (fun h2 => ?_)
  obtain ⟨a, b, c⟩ := h2
  rcases h with h | h | ⟨k, hk, rfl, h0⟩
  · exact a h
  · exact b h
  · rw [nI_clamp (by omega), h0] at c
    omega
theorem slotW_cases (ln : Nat → Nat) (x : Int32) : noW ln x ∨ ∃ k, k < 8 ∧ x = nI k ∧ 0 < ln k := by
  rcases pk_ix x (n := 8) (by decide) with h | h | ⟨k, hk, rfl⟩
  · exact Or.inl (Or.inl h)
  · exact Or.inl (Or.inr (Or.inl h))
  · rcases Nat.eq_zero_or_pos (ln k) with h0 | h0
    · exact Or.inl (Or.inr (Or.inr ⟨k, hk, rfl, h0⟩))
    · exact Or.inr ⟨k, hk, rfl, h0⟩
/-- the own LEAD, times the bottom -/
def ownL (Wt : Nat) (w u : Nat → Nat) (n : Nat) : Nat := lapS (shr Wt w u n) u n u n 5
def WordI (cI cJ : ClassId) (ad : Nat → Nat) (g : Nat → va_E) (q Wt : Nat) (w : Nat → Nat) (b n : Nat) (u : Nat → Nat) : Prop := ∃ (fl fh ft : Nat → Int32) (fs : Nat → Int64) (co : Int32) (ow : Int64),
  g b = .inr (4, [.ref (ad (b + 1)), .ref (ad (b + 2)), .ref (ad (b + 3)), .ref (ad (b + 4)), .int (nI n), .int co, .long ow]) ∧ g (b + 1) = .inl (cI, 5, .inl fl) ∧ g (b + 2) = .inl (cI, 6, .inl fh) ∧ g (b + 3) = .inl (cI, 6, .inl ft) ∧ g (b + 4) = .inl (cJ, 6, .inr (.inl fs)) ∧ fh 0 = nI 0 ∧ ft 0 = nI 0 ∧
  (0 < n → co = nI (px q u n) ∧ ow = lZ ((ownL Wt w u n : Nat) : Int) ∧ (∀ j, j < n → fl j = nI (u j)) ∧ (∀ k, k ≤ n → fh k = nI (px q u k)) ∧ (∀ k, k ≤ n → ft k = nI (px q (fun j => u (n - k + j)) k)) ∧ (∀ k, k ≤ n → fs k = lZ ((shr Wt w u n k : Nat) : Int)))
def WordR (cI cJ : ClassId) (ad : Nat → Nat) (g : Nat → va_E) (b : Nat) : Prop := ∃ (fl fh ft : Nat → Int32) (fs : Nat → Int64) (le co : Int32) (ow : Int64),
  g b = .inr (4, [.ref (ad (b + 1)), .ref (ad (b + 2)), .ref (ad (b + 3)), .ref (ad (b + 4)), .int le, .int co, .long ow]) ∧ g (b + 1) = .inl (cI, 5, .inl fl) ∧ g (b + 2) = .inl (cI, 6, .inl fh) ∧ g (b + 3) = .inl (cI, 6, .inl ft) ∧ g (b + 4) = .inl (cJ, 6, .inr (.inl fs)) ∧ fh 0 = nI 0 ∧ ft 0 = nI 0
def RaceR (cJ cW : ClassId) (ad : Nat → Nat) (g : Nat → va_E) : Prop := ∃ (f5 : Nat → Option Nat) (f6 f7 : Nat → Int64) (sz : Int32),
  g 4 = .inr (2, [.ref (ad 5), .ref (ad 6), .ref (ad 7), .int sz]) ∧ g 5 = .inl (cW, 3, .inr (.inr (.inr (.inr f5)))) ∧ g 6 = .inl (cJ, 9, .inr (.inl f6)) ∧ g 7 = .inl (cJ, 3, .inr (.inl f7))
def MachR (cI cJ cZ : ClassId) (ad : Nat → Nat) (g : Nat → va_E) : Prop := ∃ (f9 f10 f11 f12 : Nat → Int32) (f13 f14 : Nat → Int64) (a b : Nat) (st : Int32), ((a = 13 ∧ b = 14) ∨ (a = 14 ∧ b = 13)) ∧
  g 8 = .inr (1, [.ref (ad 9), .ref (ad 10), .ref (ad 11), .ref (ad 12), .ref (ad a), .ref (ad b), .int st]) ∧ g 9 = .inl (cI, 164, .inl f9) ∧ g 10 = .inl (cI, 41, .inl f10) ∧ g 11 = .inl (cI, 41, .inl f11) ∧ g 12 = .inl (cZ, 41, .inl f12) ∧ g 13 = .inl (cJ, 186, .inr (.inl f13)) ∧ g 14 = .inl (cJ, 186, .inr (.inl f14))
def LotI (cI : ClassId) (ad : Nat → Nat) (g : Nat → va_E) (q Wt : Nat) (w : Nat → Nat) : Prop := ∃ f2 : Nat → Int32, g 1 = .inr (0, [.ref (ad 2), .int (nI q), .int (nI Wt)]) ∧ g 2 = .inl (cI, 4, .inl f2) ∧ ∀ j, j < 4 → f2 j = nI (w j)
def TextI (cI : ClassId) (ad : Nat → Nat) (g : Nat → va_E) (T : Nat) (t : Nat → Nat) : Prop := ∃ f16 : Nat → Int32, g 15 = .inr (3, [.ref (ad 16), .int (nI T)]) ∧ g 16 = .inl (cI, 300, .inl f16) ∧ ∀ j, j < T → f16 j = nI (t j)
def ClsI (cI cJ cZ cW : ClassId) (ad : Nat → Nat) (g : Nat → va_E) (q Wt : Nat) (w : Nat → Nat) (ln : Nat → Nat) (u : Nat → Nat → Nat) (T : Nat) (t : Nat → Nat) (tp bt : Int64) : Prop :=
  g 0 = .inr (5, [.ref (ad 1), .ref (ad 3), .ref (ad 57), .ref (ad 4), .ref (ad 8), .ref (ad 15), .long tp, .long bt]) ∧ LotI cI ad g q Wt w ∧
  (∃ f3 : Nat → Option Nat, g 3 = .inl (cW, 8, .inr (.inr (.inr (.inr f3)))) ∧ ∀ k, k < 8 → f3 k = some (ad (17 + 5 * k))) ∧
  RaceR cJ cW ad g ∧ MachR cI cJ cZ ad g ∧ TextI cI ad g T t ∧ (∀ k, k < 8 → WordI cI cJ ad g q Wt w (17 + 5 * k) (ln k) (u k)) ∧ WordR cI cJ ad g 57
/-- what the numbers keep to -/
def SrcI (q Wt : Nat) (w : Nat → Nat) (ln : Nat → Nat) (u : Nat → Nat → Nat) (T : Nat) (t : Nat → Nat) : Prop :=
  2 ≤ q ∧ q ≤ 4 ∧ (∀ j, j < q → 1 ≤ w j) ∧ (∀ j, q ≤ j → w j = 0) ∧ wsum w q = Wt ∧ Wt ≤ 4 ∧ (∀ j, j < 4 → w j ≤ 4) ∧ (∀ k, ln k ≤ 5) ∧ (∀ k j, j < ln k → u k j < q) ∧ T ≤ 300 ∧ ∀ j, j < T → t j < q
/-- a WORD's cells -/
theorem cw_pos {cI cJ : ClassId} {ad : Nat → Nat} {g : Nat → va_E} {q Wt : Nat} {w : Nat → Nat} {ln : Nat → Nat} {u : Nat → Nat → Nat} {k b n ol : Nat} {uu sf : Nat → Nat} (h : ∀ k, k < 8 → WordI cI cJ ad g q Wt w (17 + 5 * k) (ln k) (u k)) (hk : k < 8) (eb : 17 + 5 * k = b) (en : ln k = n) (eu : u k = uu) (es : shr Wt w uu n = sf) (eo : ownL Wt w uu n = ol) (hp : 0 < n) : ∃ (fl fh ft : Nat → Int32) (fs : Nat → Int64),
  g b = .inr (4, [.ref (ad (b + 1)), .ref (ad (b + 2)), .ref (ad (b + 3)), .ref (ad (b + 4)), .int (nI n), .int (nI (px q uu n)), .long (lZ (ol : Int))]) ∧ g (b + 1) = .inl (cI, 5, .inl fl) ∧ g (b + 2) = .inl (cI, 6, .inl fh) ∧ g (b + 3) = .inl (cI, 6, .inl ft) ∧ g (b + 4) = .inl (cJ, 6, .inr (.inl fs)) ∧
  (∀ j, j < n → fl j = nI (uu j)) ∧ (∀ k, k ≤ n → fh k = nI (px q uu k)) ∧ (∀ k, k ≤ n → ft k = nI (px q (fun j => uu (n - k + j)) k)) ∧ (∀ k, k ≤ n → fs k = lZ (sf k : Int)) := by
  subst eb; subst en; subst eu; subst es; subst eo
  obtain ⟨fl, fh, ft, fs, co, ow, h1, h2, h3, h4, h5, -, -, h6⟩ := h k hk
  obtain ⟨rfl, rfl, a1, a2, a3, a4⟩ := h6 hp
  exact ⟨fl, fh, ft, fs, h1, h2, h3, h4, h5, a1, a2, a3, a4⟩
/-! WHAT THE READING CALLS ANSWER -/
def aTell (q : Nat) (ln : Nat → Nat) (u : Nat → Nat → Nat) (x y : Int32) : Int32 := match slotW ln x with
  | none => -1
  | some k => if y < 0 then -1 else if y = 0 then nI (ln k) else if y = 1 then nI (px q (u k) (ln k)) else if y - 2 < nI (ln k) then nI (u k (y - 2).toNatClampNeg) else -1
def aLaps (ln : Nat → Nat) (u : Nat → Nat → Nat) (x y : Int32) : Int32 := match slotW ln x, slotW ln y with
  | some a, some b => nI (lapB (u a) (ln a) (u b) (ln b) 5)
  | _, _ => -1
def aWithin (ln : Nat → Nat) (u : Nat → Nat → Nat) (x y : Int32) : Int32 := match slotW ln x, slotW ln y with
  | some a, some b => if liesW (u a) (ln a) (u b) (ln b) then 1 else 0
  | _, _ => 0
theorem slotW_2n {ln : Nat → Nat} {x y : Int32} (h : noW ln y) {α : Type} {f : Nat → Nat → α} {z : α} : (match slotW ln x, slotW ln y with | some a, some b => f a b | _, _ => z) = z := by
  rw [slotW_no h]; cases slotW ln x <;> rfl
