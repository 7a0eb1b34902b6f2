/-! THE SOURCES: there are eleven -/
theorem w_fun {w : Nat → Nat} {q a b e f : Nat} (hq : q ≤ 4) (h0 : ∀ j, q ≤ j → w j = 0) (ha : w 0 = a) (hb : w 1 = b) (he : w 2 = e) (hf : w 3 = f) : w = wt4 a b e f := by
  funext j
  unfold wt4
  by_cases e0 : j = 0
  · rw [if_pos e0, e0, ha]
  · rw [if_neg e0]
    by_cases e1 : j = 1
    · rw [if_pos e1, e1, hb]
    · rw [if_neg e1]
      by_cases e2 : j = 2
      · rw [if_pos e2, e2, he]
      · rw [if_neg e2]
        by_cases e3 : j = 3
        · rw [if_pos e3, e3, hf]
        · rw [if_neg e3]; exact h0 j (by omega)
theorem src11 {q Wt : Nat} {w : Nat → Nat} (hq2 : 2 ≤ q) (hq4 : q ≤ 4) (hw1 : ∀ j, j < q → 1 ≤ w j) (h0 : ∀ j, q ≤ j → w j = 0) (hs : wsum w q = Wt) (hW : Wt ≤ 4) {P : Nat → Nat → (Nat → Nat) → Prop}
  (p1 : P 2 2 (wt4 1 1 0 0)) (p2 : P 2 3 (wt4 1 2 0 0)) (p3 : P 2 3 (wt4 2 1 0 0)) (p4 : P 2 4 (wt4 1 3 0 0)) (p5 : P 2 4 (wt4 3 1 0 0)) (p6 : P 2 4 (wt4 2 2 0 0)) (p7 : P 3 3 (wt4 1 1 1 0)) (p8 : P 3 4 (wt4 2 1 1 0)) (p9 : P 3 4 (wt4 1 2 1 0)) (p10 : P 3 4 (wt4 1 1 2 0)) (p11 : P 4 4 (wt4 1 1 1 1)) : P q Wt w := by
  rcases (show q = 2 ∨ q = 3 ∨ q = 4 by omega) with e | e | e
  · subst e
    have a0 := hw1 0 (by decide)
    have a1 := hw1 1 (by decide)
    have a2 := h0 2 (by decide)
    have a3 := h0 3 (by decide)
    have hs' : 0 + w 0 + w 1 = Wt := hs
    rcases (show (w 0 = 1 ∧ w 1 = 1) ∨ (w 0 = 1 ∧ w 1 = 2) ∨ (w 0 = 2 ∧ w 1 = 1) ∨ (w 0 = 1 ∧ w 1 = 3) ∨ (w 0 = 3 ∧ w 1 = 1) ∨ (w 0 = 2 ∧ w 1 = 2) by omega) with ⟨g, h⟩ | ⟨g, h⟩ | ⟨g, h⟩ | ⟨g, h⟩ | ⟨g, h⟩ | ⟨g, h⟩
    · rw [w_fun hq4 h0 g h a2 a3, show Wt = 2 by omega]; exact p1
    · rw [w_fun hq4 h0 g h a2 a3, show Wt = 3 by omega]; exact p2
    · rw [w_fun hq4 h0 g h a2 a3, show Wt = 3 by omega]; exact p3
    · rw [w_fun hq4 h0 g h a2 a3, show Wt = 4 by omega]; exact p4
    · rw [w_fun hq4 h0 g h a2 a3, show Wt = 4 by omega]; exact p5
    · rw [w_fun hq4 h0 g h a2 a3, show Wt = 4 by omega]; exact p6
  · subst e
    have a0 := hw1 0 (by decide)
    have a1 := hw1 1 (by decide)
    have a2 := hw1 2 (by decide)
    have a3 := h0 3 (by decide)
    have hs' : 0 + w 0 + w 1 + w 2 = Wt := hs
    rcases (show (w 0 = 1 ∧ w 1 = 1 ∧ w 2 = 1) ∨ (w 0 = 2 ∧ w 1 = 1 ∧ w 2 = 1) ∨ (w 0 = 1 ∧ w 1 = 2 ∧ w 2 = 1) ∨ (w 0 = 1 ∧ w 1 = 1 ∧ w 2 = 2) by omega) with ⟨g, h, i⟩ | ⟨g, h, i⟩ | ⟨g, h, i⟩ | ⟨g, h, i⟩
    · rw [w_fun hq4 h0 g h i a3, show Wt = 3 by omega]; exact p7
    · rw [w_fun hq4 h0 g h i a3, show Wt = 4 by omega]; exact p8
    · rw [w_fun hq4 h0 g h i a3, show Wt = 4 by omega]; exact p9
    · rw [w_fun hq4 h0 g h i a3, show Wt = 4 by omega]; exact p10
  · subst e
    have a0 := hw1 0 (by decide)
    have a1 := hw1 1 (by decide)
    have a2 := hw1 2 (by decide)
    have a3 := hw1 3 (by decide)
    have hs' : 0 + w 0 + w 1 + w 2 + w 3 = Wt := hs
    rw [w_fun hq4 h0 (show w 0 = 1 by omega) (show w 1 = 1 by omega) (show w 2 = 1 by omega) (show w 3 = 1 by omega), show Wt = 4 by omega]; exact p11
theorem cvOK_of {q Wt : Nat} {w : Nat → Nat} (hq2 : 2 ≤ q) (hq4 : q ≤ 4) (hw1 : ∀ j, j < q → 1 ≤ w j) (h0 : ∀ j, q ≤ j → w j = 0) (hs : wsum w q = Wt) (hW : Wt ≤ 4) : cvOK q Wt w := by
  refine src11 hq2 hq4 hw1 h0 hs hW (P := cvOK) ?_ ?_ ?_ ?_ ?_ ?_ ?_ ?_ ?_ ?_ ?_ <;> refine ⟨fun k hk => ⟨?_, fun d hd hb => ⟨?_, ?_, ?_⟩, fun d hd => ?_, ?_⟩, ?_, ?_⟩
  all_goals first
    | (revert hb; revert hd; revert d; revert hk; revert k; unfold fitR; decide +kernel)
    | (revert hb; revert hd; revert d; revert hk; revert k; unfold fitA preN preD; decide +kernel)
    | (revert hd; revert d; revert hk; revert k; unfold fitR; decide +kernel)
    | (revert hk; revert k; unfold fitR; decide +kernel)
    | (revert hk; revert k; decide +kernel)
    | (unfold fitR; decide +kernel)
    | decide +kernel
/-! ALL LETTERS CAME: the sets, and their weights' powers -/
def tG (q : Nat) (w : Nat → Nat) (f : Nat → Int) (s : Nat) : Int := si (fun d => (w d : Int) * f (s ||| 2 ^ d)) q
def tGn (q : Nat) (w : Nat → Nat) (f : Nat → Int) : Nat → Nat → Int
  | 0 => f
  | r + 1 => tG q w (tGn q w f r)
theorem tGn_s {q : Nat} {w : Nat → Nat} {f : Nat → Int} : ∀ (r : Nat), tGn q w (tG q w f) r = tGn q w f (r + 1)
  | 0 => rfl
  | r + 1 => by
    show tG q w (tGn q w (tG q w f) r) = tG q w (tGn q w f (r + 1))
    rw [tGn_s r]
theorem cgC_si {w : Nat → Nat} {s : Nat} {x : Int} {th f : Nat → Int} (hs : s < 16) : ∀ {d : Nat}, d ≤ 4 → si (fun y => cgC w s x th d y * f y) 16 = si (fun y => th y * f y) 16 + x * si (fun d => (w d : Int) * f (s ||| 2 ^ d)) d
  | 0, _ => by show _ = _ + x * 0; rw [Int.mul_zero, Int.add_zero]; rfl
  | d + 1, hd => by
    have ih := cgC_si (w := w) (x := x) (th := th) (f := f) hs (d := d) (by omega)
    show si (fun y => va_up (cgC w s x th d) (s ||| 2 ^ d) (cgC w s x th d (s ||| 2 ^ d) + x * (w d : Int)) y * f y) 16 = _ + x * (si _ d + (w d : Int) * f (s ||| 2 ^ d))
    rw [si_up (or16 s hs d (by omega)), ih, Int.mul_add, Int.mul_assoc, Int.add_assoc]
theorem cgT_si {q : Nat} {w : Nat → Nat} {nw f : Nat → Int} (hq : q ≤ 4) : ∀ {s : Nat}, s ≤ 16 → si (fun y => cgT q w nw s y * f y) 16 = si (fun i => nw i * tG q w f i) s
  | 0, _ => si_zero (fun j _ => Int.zero_mul _)
  | s + 1, hs => by
    have ih := cgT_si (w := w) (nw := nw) (f := f) hq (s := s) (by omega)
    show si (fun y => cgC w s (nw s) (cgT q w nw s) q y * f y) 16 = si _ s + nw s * tG q w f s
    rw [cgC_si (by omega) hq, ih]; rfl
theorem cgG_si {q : Nat} {w : Nat → Nat} (hq : q ≤ 4) : ∀ {r : Nat} {f : Nat → Int}, si (fun y => cgG q w r y * f y) 16 = tGn q w f r 0
  | 0, f => by
    rw [si_one (k := 0) (by decide) (fun j _ hj => by show (if j = 0 then (1 : Int) else 0) * f j = 0; rw [if_neg hj, Int.zero_mul])]
    show (if 0 = 0 then (1 : Int) else 0) * f 0 = f 0
    rw [if_pos rfl, Int.one_mul]
  | r + 1, f => by
    show si (fun y => cgT q w (cgG q w r) 16 y * f y) 16 = _
    rw [cgT_si hq (Nat.le_refl 16), cgG_si hq (r := r) (f := tG q w f), tGn_s r]
/-- how often a power comes -/
def af (q : Nat) (w : Nat → Nat) (s m : Nat) : Int := si (fun U => if s ||| U = U ∧ wset w U q = m then (if (q - bcN U 8) % 2 = 0 then 1 else -1) else 0) (2 ^ q)
def afOK (q : Nat) (w : Nat → Nat) : Prop := (∀ s, s < 2 ^ q → ∀ m, m < 5 → si (fun d => (w d : Int) * af q w (s ||| 2 ^ d) m) q = (m : Int) * af q w s m) ∧ (∀ s, s < 2 ^ q → si (fun m => af q w s m) 5 = if s = 2 ^ q - 1 then 1 else 0) ∧ (∀ U, U < 2 ^ q → wset w U q < 5)
theorem si_swap {F : Nat → Nat → Int} {m : Nat} : ∀ {n : Nat}, si (fun x => si (fun y => F x y) m) n = si (fun y => si (fun x => F x y) n) m
  | 0 => (si_zero (fun _ _ => rfl)).symm
  | n + 1 => by
    show si (fun x => si (fun y => F x y) m) n + si (fun y => F n y) m = _
    rw [si_swap (n := n), ← si_add]; rfl
theorem tGn_pw {q : Nat} {w : Nat → Nat} (hq : q ≤ 4) (h : afOK q w) : ∀ {r s : Nat}, s < 2 ^ q → tGn q w (fun s => if s = 2 ^ q - 1 then 1 else 0) r s = si (fun m => af q w s m * ((m ^ r : Nat) : Int)) 5
  | 0, s, hs => by
    show (if s = 2 ^ q - 1 then (1 : Int) else 0) = _
    rw [← h.2.1 s hs]
    exact si_congr (fun m _ => by rw [Nat.pow_zero]; show _ = _ * (1 : Int); rw [Int.mul_one])
  | r + 1, s, hs => by
    show si (fun d => (w d : Int) * tGn q w (fun s => if s = 2 ^ q - 1 then 1 else 0) r (s ||| 2 ^ d)) q = _
    have e1 : si (fun d => (w d : Int) * tGn q w (fun s => if s = 2 ^ q - 1 then 1 else 0) r (s ||| 2 ^ d)) q = si (fun d => si (fun m => ((m ^ r : Nat) : Int) * ((w d : Int) * af q w (s ||| 2 ^ d) m)) 5) q := si_congr (fun d hd => by
      rw [tGn_pw hq h (r := r) (or_lt q hq s hs d hd), ← si_mul]
      exact si_congr (fun m _ => by rw [← Int.mul_assoc, Int.mul_comm]))
    rw [e1, si_swap]
    refine si_congr (fun m hm => ?_)
    rw [si_mul, h.1 s hs m hm, Nat.pow_succ, Int.natCast_mul, ← Int.mul_assoc, Int.mul_comm]
theorem cvd_si {q : Nat} {w : Nat → Nat} {n : Nat} : ∀ {S : Nat}, cvd q w n S = si (fun U => (if (q - bcN U 8) % 2 = 0 then 1 else -1) * ((wset w U q ^ n : Nat) : Int)) S
  | 0 => rfl
  | S + 1 => by
    show cvd q w n S + _ = si _ S + _
    rw [cvd_si]
    congr 1
    show (if (q - bcN S 8) % 2 = 0 then ((wset w S q ^ n : Nat) : Int) else -((wset w S q ^ n : Nat) : Int)) = (if (q - bcN S 8) % 2 = 0 then 1 else -1) * ((wset w S q ^ n : Nat) : Int)
    by_cases e : (q - bcN S 8) % 2 = 0
    · rw [if_pos e, if_pos e, Int.one_mul]
    · rw [if_neg e, if_neg e, Int.neg_mul, Int.one_mul]
theorem cvd_af {q : Nat} {w : Nat → Nat} {n : Nat} (h : ∀ U, U < 2 ^ q → wset w U q < 5) : cvd q w n (2 ^ q) = si (fun m => af q w 0 m * ((m ^ n : Nat) : Int)) 5 := by
  have e1 : si (fun m => af q w 0 m * ((m ^ n : Nat) : Int)) 5 = si (fun m => si (fun U => ((m ^ n : Nat) : Int) * (if 0 ||| U = U ∧ wset w U q = m then (if (q - bcN U 8) % 2 = 0 then 1 else -1) else 0)) (2 ^ q)) 5 := si_congr (fun m _ => by
    rw [si_mul, Int.mul_comm]; rfl)
  rw [e1, si_swap, cvd_si]
  refine si_congr (fun U hU => ?_)
  rw [si_one (k := wset w U q) (h U hU) (fun j _ hj => by rw [if_neg (fun e => hj e.2.symm), Int.mul_zero])]
  have e2 : (if 0 ||| U = U ∧ wset w U q = wset w U q then (if (q - bcN U 8) % 2 = 0 then (1 : Int) else -1) else 0) = (if (q - bcN U 8) % 2 = 0 then (1 : Int) else -1) := if_pos ⟨Nat.zero_or U, rfl⟩
  rw [e2, Int.mul_comm]
theorem afOK_of {q Wt : Nat} {w : Nat → Nat} (hq2 : 2 ≤ q) (hq4 : q ≤ 4) (hw1 : ∀ j, j < q → 1 ≤ w j) (h0 : ∀ j, q ≤ j → w j = 0) (hs : wsum w q = Wt) (hW : Wt ≤ 4) : afOK q w := by
  refine src11 hq2 hq4 hw1 h0 hs hW (P := fun q _ w => afOK q w) ?_ ?_ ?_ ?_ ?_ ?_ ?_ ?_ ?_ ?_ ?_ <;> unfold afOK <;> decide +kernel
theorem covered_eq {q : Nat} {w : Nat → Nat} (hq : q ≤ 4) (h : afOK q w) {n : Nat} : cgG q w n (2 ^ q - 1) = cvd q w n (2 ^ q) := by
  have h1 : 1 ≤ 2 ^ q := Nat.one_le_pow _ _ (by decide)
  have h2 : 2 ^ q ≤ 16 := Nat.le_trans (Nat.pow_le_pow_right (by decide) hq) (by decide)
  rw [cvd_af h.2.2, ← tGn_pw hq h (r := n) (s := 0) (by omega), ← cgG_si hq, si_one (k := 2 ^ q - 1) (by omega) (fun j _ hj => by rw [if_neg hj, Int.mul_zero]), if_pos rfl, Int.mul_one]
