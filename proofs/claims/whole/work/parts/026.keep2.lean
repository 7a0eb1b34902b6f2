section KQ
variable {cI cJ cZ cW : ClassId} {ad : Nat → Nat} {g g2 : Nat → va_E} {q Wt : Nat} {w : Nat → Nat} {ln : Nat → Nat} {u : Nat → Nat → Nat} {T : Nat} {t : Nat → Nat} {tp bt : Int64}
/-- the race and the fraction at hand change -/
theorem ClsI.race {tp2 bt2 : Int64} (h : ClsI cI cJ cZ cW ad g q Wt w ln u T t tp bt) (h0 : g2 0 = .inr (5, [.ref (ad 1), .ref (ad 3), .ref (ad 57), .ref (ad 4), .ref (ad 8), .ref (ad 15), .long tp2, .long bt2])) (hR : RaceR cJ cW ad g2) (e : ∀ j, j ≠ 0 → j ≠ 4 → j ≠ 5 → j ≠ 6 → j ≠ 7 → g2 j = g j) : ClsI cI cJ cZ cW ad g2 q Wt w ln u T t tp2 bt2 := by
  obtain ⟨-, h1, ⟨f3, h2, h3⟩, h4, h5, h6, h7, h8⟩ := h
  have e' : ∀ j, 8 ≤ j → g2 j = g j := fun j hj => e j (by omega) (by omega) (by omega) (by omega) (by omega)
  exact ⟨h0, h1.to (e 1 (by decide) (by decide) (by decide) (by decide) (by decide)) (e 2 (by decide) (by decide) (by decide) (by decide) (by decide)), ⟨f3, (e 3 (by decide) (by decide) (by decide) (by decide) (by decide)).trans h2, h3⟩, hR, h5.to (fun j h _ => e' j h), h6.to (e' 15 (by decide)) (e' 16 (by decide)), fun k hk => (h7 k hk).to (fun j h _ => e' j (by omega)), h8.to (fun j h _ => e' j (by omega))⟩
/-- the machine changes -/
theorem ClsI.mach (h : ClsI cI cJ cZ cW ad g q Wt w ln u T t tp bt) (hM : MachR cI cJ cZ ad g2) (e : ∀ j, (j < 8 ∨ 14 < j) → g2 j = g j) : ClsI cI cJ cZ cW ad g2 q Wt w ln u T t tp bt := by
  obtain ⟨h0, h1, ⟨f3, h2, h3⟩, h4, h5, h6, h7, h8⟩ := h
  exact ⟨(e 0 (by omega)).trans h0, h1.to (e 1 (by omega)) (e 2 (by omega)), ⟨f3, (e 3 (by omega)).trans h2, h3⟩, h4.to (e 4 (by omega)) (e 5 (by omega)) (e 6 (by omega)) (e 7 (by omega)), hM, h6.to (e 15 (by omega)) (e 16 (by omega)), fun k hk => (h7 k hk).to (fun j h _ => e j (by omega)), h8.to (fun j h _ => e j (by omega))⟩
/-- the candidate and the fraction at hand change -/
theorem ClsI.cand {tp2 bt2 : Int64} (h : ClsI cI cJ cZ cW ad g q Wt w ln u T t tp bt) (h0 : g2 0 = .inr (5, [.ref (ad 1), .ref (ad 3), .ref (ad 57), .ref (ad 4), .ref (ad 8), .ref (ad 15), .long tp2, .long bt2])) (hR : WordR cI cJ ad g2 57) (e : ∀ j, j ≠ 0 → j < 57 → g2 j = g j) : ClsI cI cJ cZ cW ad g2 q Wt w ln u T t tp2 bt2 := by
  obtain ⟨-, h1, ⟨f3, h2, h3⟩, h4, h5, h6, h7, h8⟩ := h
  exact ⟨h0, h1.to (e 1 (by decide) (by decide)) (e 2 (by decide) (by decide)), ⟨f3, (e 3 (by decide) (by decide)).trans h2, h3⟩, h4.to (e 4 (by decide) (by decide)) (e 5 (by decide) (by decide)) (e 6 (by decide) (by decide)) (e 7 (by decide) (by decide)), h5.to (fun j h _ => e j (by omega) (by omega)), h6.to (e 15 (by decide) (by decide)) (e 16 (by decide) (by decide)), fun k hk => (h7 k hk).to (fun j h _ => e j (by omega) (by omega)), hR⟩
end KQ
/-- LEAD of a on itself less that on b, times both bottoms -/
def edg (Wt : Nat) (w : Nat → Nat) (ua : Nat → Nat) (na : Nat) (ub : Nat → Nat) (nb : Nat) : Int := ((ownL Wt w ua na : Nat) : Int) * ((shr Wt w ub nb 0 : Nat) : Int) - ((lapS (shr Wt w ub nb) ua na ub nb 5 : Nat) : Int) * ((shr Wt w ua na 0 : Nat) : Int)
def oOdds (Wt : Nat) (w : Nat → Nat) (ln : Nat → Nat) (u : Nat → Nat → Nat) (x y : Int32) : Option Rat := match slotW ln x, slotW ln y with
  | some a, some b => if liesW (u b) (ln b) (u a) (ln a) ∨ liesW (u a) (ln a) (u b) (ln b) then none else some (Rat.divInt (edg Wt w (u b) (ln b) (u a) (ln a)) (edg Wt w (u a) (ln a) (u b) (ln b)))
  | _, _ => none
/-- of two words none of which lies within the other one -/
def edgNZ (Wt : Nat) (w : Nat → Nat) (ln : Nat → Nat) (u : Nat → Nat → Nat) : Prop := ∀ a b, a < 8 → b < 8 → 0 < ln a → 0 < ln b → ¬ (liesW (u b) (ln b) (u a) (ln a) ∨ liesW (u a) (ln a) (u b) (ln b)) → edg Wt w (u a) (ln a) (u b) (ln b) ≠ 0
/-- which WORDS are in the race after the SLOTS below s of a list -/
def ent (ln : Nat → Nat) (u : Nat → Nat → Nat) (L : Nat) : Nat → Option (Nat × (Nat → Nat))
  | 0 => some (0, fun _ => 0)
  | s + 1 => match ent ln u L s with
    | none => none
    | some (k, sl) => if L / 2 ^ s % 2 = 1 then (if 0 < ln s ∧ k < 3 ∧ (∀ i, i < k → ¬ (liesW (u s) (ln s) (u (sl i)) (ln (sl i)) ∨ liesW (u (sl i)) (ln (sl i)) (u s) (ln s))) then some (k + 1, va_up sl k s) else none) else some (k, sl)
theorem ent_none {ln : Nat → Nat} {u : Nat → Nat → Nat} {L : Nat} : ∀ {d s : Nat}, ent ln u L s = none → ent ln u L (s + d) = none
  | 0, _, h => h
  | d + 1, s, h => by
    rw [← Nat.add_assoc]
    show (match ent ln u L (s + d) with | none => none | some (k, sl) => _) = none
    rw [ent_none h]
theorem ent_8 {ln : Nat → Nat} {u : Nat → Nat → Nat} {L s : Nat} (hs : s ≤ 8) (h : ent ln u L s = none) : ent ln u L 8 = none := by
  rw [show 8 = s + (8 - s) by omega]; exact ent_none h
theorem ent_s {ln : Nat → Nat} {u : Nat → Nat → Nat} {L s k : Nat} {sl : Nat → Nat} (h : ent ln u L s = some (k, sl)) : ent ln u L (s + 1) = if L / 2 ^ s % 2 = 1 then (if 0 < ln s ∧ k < 3 ∧ (∀ i, i < k → ¬ (liesW (u s) (ln s) (u (sl i)) (ln (sl i)) ∨ liesW (u (sl i)) (ln (sl i)) (u s) (ln s))) then some (k + 1, va_up sl k s) else none) else some (k, sl) := by
  show (match ent ln u L s with | none => none | some (k, sl) => _) = _
  rw [h]
theorem ent_inv {ln : Nat → Nat} {u : Nat → Nat → Nat} {L : Nat} : ∀ {s k : Nat} {sl : Nat → Nat}, ent ln u L s = some (k, sl) → k ≤ 3 ∧ ∀ i, i < k → sl i < s ∧ 0 < ln (sl i)
  | 0, k, sl, h => by
    obtain ⟨rfl, rfl⟩ := Prod.mk.inj (Option.some.inj h)
    exact ⟨by decide, fun i hi => absurd hi (by omega)⟩
  | s + 1, k, sl, h => by
    cases e : ent ln u L s with
    | none =>
      have h2 : ent ln u L (s + 1) = none := ent_none (d := 1) e
      rw [h2] at h; cases h
    | some p =>
      obtain ⟨k0, sl0⟩ := p
      obtain ⟨i1, i2⟩ := ent_inv e
      rw [ent_s e] at h
      by_cases hb : L / 2 ^ s % 2 = 1
      · rw [if_pos hb] at h
        by_cases hc : 0 < ln s ∧ k0 < 3 ∧ (∀ i, i < k0 → ¬ (liesW (u s) (ln s) (u (sl0 i)) (ln (sl0 i)) ∨ liesW (u (sl0 i)) (ln (sl0 i)) (u s) (ln s)))
        · rw [if_pos hc] at h
          obtain ⟨rfl, rfl⟩ := Prod.mk.inj (Option.some.inj h)
          refine ⟨by omega, fun i hi => ?_⟩
          by_cases hik : i = k0
          · subst hik; rw [va_up_self]; exact ⟨by omega, hc.1⟩
          · rw [va_up_ne _ _ hik]
            have := i2 i (by omega)
            exact ⟨by omega, this.2⟩
        · rw [if_neg hc] at h; cases h
      · rw [if_neg hb] at h
        obtain ⟨rfl, rfl⟩ := Prod.mk.inj (Option.some.inj h)
        exact ⟨i1, fun i hi => by have := i2 i hi; exact ⟨by omega, this.2⟩⟩
/-- LEAD of the runner c on the runner r, times r's bottom; behind the runners the unit matrix -/
def rM (Wt : Nat) (w : Nat → Nat) (ln : Nat → Nat) (u : Nat → Nat → Nat) (k : Nat) (sl : Nat → Nat) (i : Nat) : Int := if i / 3 < k ∧ i % 3 < k then ((lapS (shr Wt w (u (sl (i / 3))) (ln (sl (i / 3)))) (u (sl (i % 3))) (ln (sl (i % 3))) (u (sl (i / 3))) (ln (sl (i / 3))) 5 : Nat) : Int) else idM i
def rK (Wt : Nat) (w : Nat → Nat) (ln : Nat → Nat) (u : Nat → Nat → Nat) (k : Nat) (sl : Nat → Nat) (i : Nat) : Int := if i < k then ((shr Wt w (u (sl i)) (ln (sl i)) 0 : Nat) : Int) else 0
