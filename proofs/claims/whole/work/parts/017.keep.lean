/-! WHAT STAYS: the parts of the class's state, over another world that has the same cells -/
section KP
variable {cI cJ cZ cW : ClassId} {ad : Nat → Nat} {g g2 : Nat → va_E} {q Wt : Nat} {w : Nat → Nat} {ln : Nat → Nat} {u : Nat → Nat → Nat} {T : Nat} {t : Nat → Nat} {tp bt : Int64}
theorem LotI.to (h : LotI cI ad g q Wt w) (e1 : g2 1 = g 1) (e2 : g2 2 = g 2) : LotI cI ad g2 q Wt w := by
  obtain ⟨f2, h1, h2, h3⟩ := h
  exact ⟨f2, e1.trans h1, e2.trans h2, h3⟩
theorem TextI.to (h : TextI cI ad g T t) (e1 : g2 15 = g 15) (e2 : g2 16 = g 16) : TextI cI ad g2 T t := by
  obtain ⟨f2, h1, h2, h3⟩ := h
  exact ⟨f2, e1.trans h1, e2.trans h2, h3⟩
theorem RaceR.to (h : RaceR cJ cW ad g) (e1 : g2 4 = g 4) (e2 : g2 5 = g 5) (e3 : g2 6 = g 6) (e4 : g2 7 = g 7) : RaceR cJ cW ad g2 := by
  obtain ⟨a, b, c, d, h1, h2, h3, h4⟩ := h
  exact ⟨a, b, c, d, e1.trans h1, e2.trans h2, e3.trans h3, e4.trans h4⟩
theorem MachR.to (h : MachR cI cJ cZ ad g) (e : ∀ j, 8 ≤ j → j ≤ 14 → g2 j = g j) : MachR cI cJ cZ ad g2 := by
  obtain ⟨a1, a2, a3, a4, a5, a6, a7, a8, a9, h0, h1, h2, h3, h4, h5, h6, h7⟩ := h
  exact ⟨a1, a2, a3, a4, a5, a6, a7, a8, a9, h0, (e 8 (by decide) (by decide)).trans h1, (e 9 (by decide) (by decide)).trans h2, (e 10 (by decide) (by decide)).trans h3, (e 11 (by decide) (by decide)).trans h4, (e 12 (by decide) (by decide)).trans h5, (e 13 (by decide) (by decide)).trans h6, (e 14 (by decide) (by decide)).trans h7⟩
theorem WordI.to {b n : Nat} {uu : Nat → Nat} (h : WordI cI cJ ad g q Wt w b n uu) (e : ∀ j, b ≤ j → j ≤ b + 4 → g2 j = g j) : WordI cI cJ ad g2 q Wt w b n uu := by
  obtain ⟨a1, a2, a3, a4, a5, a6, h1, h2, h3, h4, h5, h6⟩ := h
  exact ⟨a1, a2, a3, a4, a5, a6, (e b (by omega) (by omega)).trans h1, (e (b + 1) (by omega) (by omega)).trans h2, (e (b + 2) (by omega) (by omega)).trans h3, (e (b + 3) (by omega) (by omega)).trans h4, (e (b + 4) (by omega) (by omega)).trans h5, h6⟩
theorem WordR.to {b : Nat} (h : WordR cI cJ ad g b) (e : ∀ j, b ≤ j → j ≤ b + 4 → g2 j = g j) : WordR cI cJ ad g2 b := by
  obtain ⟨a1, a2, a3, a4, a5, a6, a7, h1, h2, h3, h4, h5, h6⟩ := h
  exact ⟨a1, a2, a3, a4, a5, a6, a7, (e b (by omega) (by omega)).trans h1, (e (b + 1) (by omega) (by omega)).trans h2, (e (b + 2) (by omega) (by omega)).trans h3, (e (b + 3) (by omega) (by omega)).trans h4, (e (b + 4) (by omega) (by omega)).trans h5, h6⟩
theorem WordI.raw {b n : Nat} {uu : Nat → Nat} (h : WordI cI cJ ad g q Wt w b n uu) : ∃ (fl fh ft : Nat → Int32) (fs : Nat → Int64) (co : Int32) (ow : Int64), g b = .inr (4, [.ref (ad (b + 1)), .ref (ad (b + 2)), .ref (ad (b + 3)), .ref (ad (b + 4)), .int (nI n), .int co, .long ow]) ∧ g (b + 1) = .inl (cI, 5, .inl fl) ∧ g (b + 2) = .inl (cI, 6, .inl fh) ∧ g (b + 3) = .inl (cI, 6, .inl ft) ∧ g (b + 4) = .inl (cJ, 6, .inr (.inl fs)) ∧ fh 0 = nI 0 ∧ ft 0 = nI 0 := by
  obtain ⟨a1, a2, a3, a4, a5, a6, h1, h2, h3, h4, h5, h6, h7, -⟩ := h
  exact ⟨a1, a2, a3, a4, a5, a6, h1, h2, h3, h4, h5, h6, h7⟩
/-- a WORD is dropped -/
theorem WordI.none {b n : Nat} {uu : Nat → Nat} {q' Wt' : Nat} {w' uu' : Nat → Nat} {co : Int32} {ow : Int64} (h : WordI cI cJ ad g q Wt w b n uu) (h0 : g2 b = .inr (4, [.ref (ad (b + 1)), .ref (ad (b + 2)), .ref (ad (b + 3)), .ref (ad (b + 4)), .int (nI 0), .int co, .long ow])) (e : ∀ j, b < j → j ≤ b + 4 → g2 j = g j) : WordI cI cJ ad g2 q' Wt' w' b 0 uu' := by
  obtain ⟨a1, a2, a3, a4, a5, a6, h1, h2, h3, h4, h5, h6, h7, -⟩ := h
  exact ⟨a1, a2, a3, a4, co, ow, h0, (e (b + 1) (by omega) (by omega)).trans h2, (e (b + 2) (by omega) (by omega)).trans h3, (e (b + 3) (by omega) (by omega)).trans h4, (e (b + 4) (by omega) (by omega)).trans h5, h6, h7, fun h => absurd h (by decide)⟩
/-- only the fraction at hand changes -/
theorem ClsI.hand {tp2 bt2 : Int64} (h : ClsI cI cJ cZ cW ad g q Wt w ln u T t tp bt) (h0 : g2 0 = .inr (5, [.ref (ad 1), .ref (ad 3), .ref (ad 57), .ref (ad 4), .ref (ad 8), .ref (ad 15), .long tp2, .long bt2])) (e : ∀ j, j ≠ 0 → g2 j = g j) : ClsI cI cJ cZ cW ad g2 q Wt w ln u T t tp2 bt2 := by
  obtain ⟨-, h1, ⟨f3, h2, h3⟩, h4, h5, h6, h7, h8⟩ := h
  exact ⟨h0, h1.to (e 1 (by decide)) (e 2 (by decide)), ⟨f3, (e 3 (by decide)).trans h2, h3⟩, h4.to (e 4 (by decide)) (e 5 (by decide)) (e 6 (by decide)) (e 7 (by decide)), h5.to (fun j h _ => e j (by omega)), h6.to (e 15 (by decide)) (e 16 (by decide)), fun k hk => (h7 k hk).to (fun j h _ => e j (by omega)), h8.to (fun j h _ => e j (by omega))⟩
/-- only the text changes -/
theorem ClsI.text {T2 : Nat} {t2 : Nat → Nat} (h : ClsI cI cJ cZ cW ad g q Wt w ln u T t tp bt) (h0 : TextI cI ad g2 T2 t2) (e : ∀ j, j ≠ 15 → j ≠ 16 → g2 j = g j) : ClsI cI cJ cZ cW ad g2 q Wt w ln u T2 t2 tp bt := by
  obtain ⟨h9, h1, ⟨f3, h2, h3⟩, h4, h5, h6, h7, h8⟩ := h
  exact ⟨(e 0 (by decide) (by decide)).trans h9, h1.to (e 1 (by decide) (by decide)) (e 2 (by decide) (by decide)), ⟨f3, (e 3 (by decide) (by decide)).trans h2, h3⟩, h4.to (e 4 (by decide) (by decide)) (e 5 (by decide) (by decide)) (e 6 (by decide) (by decide)) (e 7 (by decide) (by decide)), h5.to (fun j h _ => e j (by omega) (by omega)), h0, fun k hk => (h7 k hk).to (fun j h _ => e j (by omega) (by omega)), h8.to (fun j h _ => e j (by omega) (by omega))⟩
/-- one WORD changes -/
theorem ClsI.word {k n : Nat} {uu : Nat → Nat} (hk : k < 8) (h : ClsI cI cJ cZ cW ad g q Wt w ln u T t tp bt) (h0 : WordI cI cJ ad g2 q Wt w (17 + 5 * k) n uu) (e : ∀ j, (j < 17 + 5 * k ∨ 17 + 5 * k + 4 < j) → g2 j = g j) : ClsI cI cJ cZ cW ad g2 q Wt w (va_up ln k n) (va_up u k uu) T t tp bt := by
  obtain ⟨h9, h1, ⟨f3, h2, h3⟩, h4, h5, h6, h7, h8⟩ := h
  refine ⟨(e 0 (by omega)).trans h9, h1.to (e 1 (by omega)) (e 2 (by omega)), ⟨f3, (e 3 (by omega)).trans h2, h3⟩, h4.to (e 4 (by omega)) (e 5 (by omega)) (e 6 (by omega)) (e 7 (by omega)), h5.to (fun j h _ => e j (by omega)), h6.to (e 15 (by omega)) (e 16 (by omega)), fun k2 hk2 => ?_, h8.to (fun j h _ => e j (by omega))⟩
  by_cases hkk : k2 = k
  · subst hkk
    rw [va_up_self, va_up_self]
    exact h0
  · rw [va_up_ne _ _ hkk, va_up_ne _ _ hkk]
    exact (h7 k2 hk2).to (fun j a b => e j (by omega))
end KP
/-! WHAT THE CALLS THAT SET A FRACTION PUT AT HAND -/
/-- LEAD of the words of two SLOTS -/
def fLead (Wt : Nat) (w : Nat → Nat) (ln : Nat → Nat) (u : Nat → Nat → Nat) (a b : Nat) : Rat := Rat.divInt ((lapS (shr Wt w (u b) (ln b)) (u a) (ln a) (u b) (ln b) 5 : Nat) : Int) ((shr Wt w (u b) (ln b) 0 : Nat) : Int)
theorem wbk_pos {w u : Nat → Nat} {n : Nat} (h : ∀ j, j < n → 1 ≤ w (u j)) : ∀ {i : Nat}, i ≤ n → 1 ≤ wbk w u n i
  | 0, _ => Nat.le_refl 1
  | i + 1, hi => by
    have h1 := wbk_pos h (i := i) (by omega)
    have h2 := h (n - 1 - i) (by omega)
    exact Nat.mul_le_mul h1 h2
theorem wbk_le {w u : Nat → Nat} {n : Nat} (h : ∀ j, j < n → w (u j) ≤ 4) : ∀ {i : Nat}, i ≤ n → wbk w u n i ≤ 4 ^ i
  | 0, _ => Nat.le_refl 1
  | i + 1, hi => by
    have h1 := wbk_le h (i := i) (by omega)
    have h2 := h (n - 1 - i) (by omega)
    show wbk w u n i * w (u (n - 1 - i)) ≤ 4 ^ (i + 1)
    rw [Nat.pow_succ]
    exact Nat.mul_le_mul h1 h2
theorem shr_le {Wt : Nat} {w u : Nat → Nat} {n k : Nat} (hW : Wt ≤ 4) (h : ∀ j, j < n → w (u j) ≤ 4) (hn : n ≤ 5) (hk : k ≤ n) : shr Wt w u n k ≤ 1024 := by
  have h1 := wbk_le h (i := n - k) (by omega)
  have h2 : Wt ^ k ≤ 4 ^ k := Nat.pow_le_pow_left hW k
  have h3 : shr Wt w u n k ≤ 4 ^ k * 4 ^ (n - k) := Nat.mul_le_mul h2 h1
  rw [← Nat.pow_add, show k + (n - k) = n by omega] at h3
  exact Nat.le_trans h3 (Nat.le_trans (Nat.pow_le_pow_right (by decide) hn) (by decide))
theorem shr_0 {Wt : Nat} {w u : Nat → Nat} {n : Nat} (h : ∀ j, j < n → 1 ≤ w (u j)) : 1 ≤ shr Wt w u n 0 := by
  have := wbk_pos h (i := n) (Nat.le_refl n)
  show 1 ≤ Wt ^ 0 * wbk w u n (n - 0)
  rw [Nat.pow_zero, Nat.one_mul, Nat.sub_zero]
  exact this
theorem lapS_le {f : Nat → Nat} {u v : Nat → Nat} {n m B : Nat} (h : ∀ k, k ≤ m → f k ≤ B) : ∀ k, lapS f u n v m k ≤ B * k
  | 0 => Nat.zero_le _
  | k + 1 => by
    have h1 := lapS_le h (u := u) (v := v) (n := n) k
    show lapS f u n v m k + (if k + 1 ≤ n ∧ k + 1 ≤ m ∧ lapD u n v (k + 1) then f (k + 1) else 0) ≤ B * (k + 1)
    rw [Nat.mul_succ]
    by_cases hc : k + 1 ≤ n ∧ k + 1 ≤ m ∧ lapD u n v (k + 1)
    · rw [if_pos hc]
      have := h (k + 1) hc.2.1
      omega
    · rw [if_neg hc]; omega
