/-! THE BEST ANSWER, of an even SOURCE -/
theorem pw_ev {Wt : Nat} {w v : Nat → Nat} {q : Nat} (hev : ∀ j, j < q → w j = w 0) : ∀ {k : Nat}, (∀ j, j < k → v j < q) → pwR Wt w v k = ((Wt : Rat) / (w 0 : Rat)) ^ k
  | 0, _ => by rw [Rat.pow_zero]; rfl
  | k + 1, h => by
    show pwR Wt w v k * ((Wt : Rat) / (w (v k) : Rat)) = _
    rw [pw_ev hev (fun j hj => h j (by omega)), hev _ (h k (by omega)), Rat.pow_succ]
theorem wsum_ev {w : Nat → Nat} : ∀ {q : Nat}, (∀ j, j < q → w j = w 0) → wsum w q = q * w 0
  | 0, _ => (Nat.zero_mul _).symm
  | q + 1, h => by
    show wsum w q + w q = _
    rw [wsum_ev (fun j hj => h j (by omega)), h q (by omega), Nat.add_mul, Nat.one_mul]
theorem geo_lt {r : Rat} (hr : 2 ≤ r) {P : Nat → Prop} [DecidablePred P] : ∀ (n : Nat), sm (fun k => if P k then r ^ (k + 1) else 0) n < r ^ (n + 1)
  | 0 => by
    show (0 : Rat) < r ^ 1
    rw [Rat.pow_succ, Rat.pow_zero, Rat.one_mul]; grind
  | n + 1 => by
    have h := geo_lt hr (P := P) n
    have hp : 0 < r ^ (n + 1) := Rat.pow_pos (by grind)
    show sm (fun k => if P k then r ^ (k + 1) else 0) n + (if P n then r ^ (n + 1) else 0) < r ^ (n + 1 + 1)
    rw [Rat.pow_succ r (n + 1)]
    have h2 := Rat.mul_le_mul_of_nonneg_left hr (Rat.le_of_lt hp)
    split <;> grind
theorem ev_edge {Wt q : Nat} {w u v : Nat → Nat} {n : Nat} (hev : ∀ j, j < q → w j = w 0) (hr : 2 ≤ (Wt : Rat) / (w 0 : Rat)) (hn : 0 < n) (hn5 : n ≤ 5) (hu : ∀ j, j < n → u j < q) (hv : ∀ j, j < n → v j < q) (hne : ¬ ∀ j, j < n → u j = v j) : 0 < lapR (pwR Wt w u) u n u n - lapR (pwR Wt w v) u n v n := by
  have h1 : lapR (pwR Wt w v) u n v n < ((Wt : Rat) / (w 0 : Rat)) ^ n := by
    have e : lapR (pwR Wt w v) u n v n = sm (fun k => if k + 1 ≤ n ∧ k + 1 ≤ n ∧ lapD u n v (k + 1) then ((Wt : Rat) / (w 0 : Rat)) ^ (k + 1) else 0) (n - 1) := by
      have e2 : lapR (pwR Wt w v) u n v n = sm (fun k => if k < n - 1 then (if k + 1 ≤ n ∧ k + 1 ≤ n ∧ lapD u n v (k + 1) then ((Wt : Rat) / (w 0 : Rat)) ^ (k + 1) else 0) else 0) 5 := by
        unfold lapR
        refine sm_congr (fun k _ => ?_)
        by_cases c : k + 1 ≤ n ∧ k + 1 ≤ n ∧ lapD u n v (k + 1)
        · rw [if_pos c]
          by_cases e3 : k < n - 1
          · rw [if_pos e3, if_pos c, pw_ev hev (fun j hj => hv j (by omega))]
          · exfalso
            refine hne (fun j hj => ?_)
            have := c.2.2 j (by omega)
            rw [show n - (k + 1) + j = j by omega] at this
            exact this
        · rw [if_neg c]; split <;> rfl
      rw [e2, sm_cut (by omega)]
    rw [e]
    have := geo_lt hr (P := fun k => k + 1 ≤ n ∧ k + 1 ≤ n ∧ lapD u n v (k + 1)) (n - 1)
    rw [show n - 1 + 1 = n by omega] at this
    exact this
  have h2 : ((Wt : Rat) / (w 0 : Rat)) ^ n ≤ lapR (pwR Wt w u) u n u n := by
    rw [← pw_ev (Wt := Wt) (v := u) hev (k := n) (fun j hj => hu j hj)]
    unfold lapR
    have h3 := sm_ge1 (f := fun k => if k + 1 ≤ n ∧ k + 1 ≤ n ∧ lapD u n u (k + 1) then pwR Wt w u (k + 1) else 0) (c := n - 1) (n := 5) (by omega) (fun j _ => by
      by_cases c : j + 1 ≤ n ∧ j + 1 ≤ n ∧ lapD u n u (j + 1)
      · rw [if_pos c, pw_ev hev (fun x hx => hu x (by omega))]
        exact Rat.le_of_lt (Rat.pow_pos (by grind))
      · rw [if_neg c]; exact Rat.le_refl)
    rw [if_pos ⟨by omega, by omega, fun j _ => by congr 1; omega⟩, show n - 1 + 1 = n by omega] at h3
    exact h3
  grind
/-- what the model's way to the best answer needs, and what it gives -/
def bsOK (q Wt : Nat) (w : Nat → Nat) (ln : Nat → Nat) (u : Nat → Nat → Nat) : Prop := ∀ k ot cd, k < 8 → ot < 8 → k ≠ ot → 3 ≤ ln k → (∀ j, j < q → w j = w 0) → cd < q ^ ln k → ¬ cd = px q (u k) (ln k) → 0 < edg Wt w (u k) (ln k) (dg q cd (ln k)) (ln k) ∧ 0 < edg Wt w (dg q cd (ln k)) (ln k) (u k) (ln k) ∧ ∀ ns sl sz gof, ChI q (va_up ln ot (ln k)) (va_up u ot (dg q cd (ln k))) (2 ^ k ||| 2 ^ ot) ns sl sz gof → gjFit (mkA Wt w gof q ns (fun x => Rat.divInt (hitZ w gof x ot q) 1)) ns ∧ fM Wt w gof q ns ot 0 = Rat.divInt (edg Wt w (u k) (ln k) (dg q cd (ln k)) (ln k)) (edg Wt w (u k) (ln k) (dg q cd (ln k)) (ln k) + edg Wt w (dg q cd (ln k)) (ln k) (u k) (ln k))
theorem SrP.up {q Wt : Nat} {w ln : Nat → Nat} {u : Nat → Nat → Nat} (hS : SrP q Wt w ln u) {k n : Nat} {v : Nat → Nat} (hn : n ≤ 5) (hv : ∀ j, j < n → v j < q) : SrP q Wt w (va_up ln k n) (va_up u k v) := by
  obtain ⟨h1, h2, h3, h4, h5, h6, h7⟩ := hS
  refine ⟨h1, h2, h3, h4, h5, fun x => ?_, fun x j hj => ?_⟩
  · by_cases e : x = k
    · rw [e, va_up_self]; exact hn
    · rw [va_up_ne _ _ e]; exact h6 x
  · by_cases e : x = k
    · rw [e, va_up_self] at hj ⊢; exact hv j hj
    · rw [va_up_ne _ _ e] at hj ⊢; exact h7 x j hj
theorem ev_r {q Wt : Nat} {w ln : Nat → Nat} {u : Nat → Nat → Nat} (hS : SrP q Wt w ln u) (hev : ∀ j, j < q → w j = w 0) : 2 ≤ (Wt : Rat) / (w 0 : Rat) := by
  have h1 := wsum_ev hev
  rw [hS.2.2.2.1] at h1
  have h2 := natpos (hS.2.2.1 0 (by have := hS.1; omega))
  have h3 : (Wt : Rat) = (q : Rat) * (w 0 : Rat) := by rw [h1, Rat.natCast_mul]
  have h4 : (2 : Rat) ≤ (q : Rat) := by
    have : ((2 : Nat) : Rat) ≤ (q : Rat) := Rat.natCast_le_natCast.mpr hS.1
    exact this
  have h5 : (w 0 : Rat) ≠ 0 := fun e => by rw [e] at h2; exact absurd h2 Rat.lt_irrefl
  have h6 : (Wt : Rat) / (w 0 : Rat) = (q : Rat) := by grind
  rw [h6]; exact h4
theorem lies_eq {u v : Nat → Nat} {n : Nat} (h : liesW u n v n) : ∀ j, j < n → u j = v j := by
  obtain ⟨a, h1, h2⟩ := liesW_to h
  intro j hj
  have := h2 j hj
  rw [show a + j = j by omega] at this
  exact this.symm
theorem bsOK_of {q Wt : Nat} {w ln : Nat → Nat} {u : Nat → Nat → Nat} (hS : SrP q Wt w ln u) : bsOK q Wt w ln u := by
  intro k ot cd hk ho hko hn hev hcd hne
  have hq := hS.1
  have hn5 := hS.2.2.2.2.2.1 k
  have hu := fun j hj => hS.2.2.2.2.2.2 k j hj
  have hd : ∀ j, j < ln k → dg q cd (ln k) j < q := fun j _ => dg_lt (by omega)
  have hr := ev_r hS hev
  have hdif : ¬ ∀ j, j < ln k → u k j = dg q cd (ln k) j := fun h => by
    refine hne ?_
    have h1 := px_dg (q := q) (c := cd) (n := ln k) (by omega) hcd (Nat.le_refl _)
    rw [Nat.sub_self, Nat.pow_zero, Nat.div_one] at h1
    rw [← h1]
    exact (px_congr h).symm
  have E1 := ev_edge hev hr (by omega) hn5 hu hd hdif
  have E2 := ev_edge hev hr (by omega) hn5 hd hu (fun h => hdif (fun j hj => (h j hj).symm))
  have hS2 := hS.up (k := ot) hn5 hd
  have ea := edg_R hS2 k ot
  have eb := edg_R hS2 ot k
  rw [va_up_ne _ _ hko, va_up_ne _ _ hko, va_up_self, va_up_self] at ea eb
  have s1 := sh0 hS2 k
  have s2 := sh0 hS2 ot
  rw [va_up_ne _ _ hko, va_up_ne _ _ hko] at s1
  rw [va_up_self, va_up_self] at s2
  have s3 := Rat.mul_pos s1 s2
  have s4 := Rat.mul_pos s2 s1
  have P1 := Rat.mul_pos E1 s3
  have P2 := Rat.mul_pos E2 s4
  rw [← ea] at P1
  rw [← eb] at P2
  refine ⟨Rat.intCast_pos.mp P1, Rat.intCast_pos.mp P2, fun ns sl sz gof hI => ?_⟩
  have hC := hI.toP
  have l1 : (va_up ln ot (ln k)) k = ln k := va_up_ne _ _ hko
  have l2 : (va_up ln ot (ln k)) ot = ln k := va_up_self _ _ _
  have u1 : (va_up u ot (dg q cd (ln k))) k = u k := va_up_ne _ _ hko
  have u2 : (va_up u ot (dg q cd (ln k))) ot = dg q cd (ln k) := va_up_self _ _ _
  obtain ⟨h1, h2, h3, h4, h5⟩ := two_eqs hS2 hk ho hko (by rw [l1]; omega) (by rw [l2]; omega) (two_noLs hk ho (by
    rw [l1, l2, u1, u2]
    rintro (h | h)
    · exact hdif (fun j hj => (lies_eq h j hj).symm)
    · exact hdif (lies_eq h))) hC
  rw [l1, l2, u1, u2] at h4
  refine ⟨fM_fit hC hS2 hI.2.1 ho, divInt_is ?_ ?_⟩
  · rw [Rat.intCast_add]
    intro e
    have : (0 : Rat) < ((edg Wt w (u k) (ln k) (dg q cd (ln k)) (ln k) : Int) : Rat) + ((edg Wt w (dg q cd (ln k)) (ln k) (u k) (ln k) : Int) : Rat) := by grind
    rw [e] at this
    exact absurd this Rat.lt_irrefl
  · rw [Rat.intCast_add, ea, eb]
    grind
theorem bst_inv {q Wt : Nat} {w u : Nat → Nat} {n : Nat} : ∀ {s : Nat}, (∀ cd, cd < s → ¬ cd = px q u n → 0 < edg Wt w u n (dg q cd n) n ∧ 0 < edg Wt w (dg q cd n) n u n) → 0 < (bst q Wt w u n s).2.2 ∧ ((bst q Wt w u n s = (-1, 0, 1) ∧ ∀ cd, cd < s → cd = px q u n) ∨ (∃ cd, cd < s ∧ (bst q Wt w u n s).1 = nI cd))
  | 0, _ => ⟨Int.one_pos, Or.inl ⟨rfl, fun cd h => absurd h (by omega)⟩⟩
  | s + 1, h => by
    obtain ⟨h1, h2⟩ := bst_inv (s := s) (fun cd hc => h cd (by omega))
    by_cases e : s = px q u n
    · rw [bst_own e]
      refine ⟨h1, ?_⟩
      rcases h2 with ⟨a, b⟩ | ⟨cd, a, b⟩
      · exact Or.inl ⟨a, fun cd hc => if e2 : cd = s then by rw [e2]; exact e else b cd (by omega)⟩
      · exact Or.inr ⟨cd, by omega, b⟩
    · obtain ⟨p1, p2⟩ := h s (by omega) e
      by_cases e2 : (bst q Wt w u n s).2.1 * (edg Wt w u n (dg q s n) n + edg Wt w (dg q s n) n u n) < edg Wt w u n (dg q s n) n * (bst q Wt w u n s).2.2
      · rw [bst_y e e2]
        exact ⟨by show 0 < edg Wt w u n (dg q s n) n + edg Wt w (dg q s n) n u n; omega, Or.inr ⟨s, by omega, rfl⟩⟩
      · rw [bst_n e e2]
        refine ⟨h1, ?_⟩
        rcases h2 with ⟨a, b⟩ | ⟨cd, a, b⟩
        · exfalso
          rw [a] at e2
          refine e2 ?_
          show (0 : Int) * _ < _ * 1
          omega
        · exact Or.inr ⟨cd, by omega, b⟩
theorem bstOK_of {q Wt : Nat} {w ln : Nat → Nat} {u : Nat → Nat → Nat} (hS : SrP q Wt w ln u) : bstOK q Wt w ln u := by
  intro k hk hn hev
  obtain ⟨ot, ho, hko⟩ : ∃ ot, ot < 8 ∧ k ≠ ot := ⟨if k = 0 then 1 else 0, by split <;> omega, by split <;> omega⟩
  have hq := hS.1
  have hq4 := hS.2.1
  have hn5 := hS.2.2.2.2.2.1 k
  obtain ⟨h1, h2⟩ := bst_inv (q := q) (Wt := Wt) (w := w) (u := u k) (n := ln k) (s := q ^ ln k) (fun cd hc hne => by
    obtain ⟨a, b, -⟩ := bsOK_of hS k ot cd hk ho hko hn hev hc hne
    exact ⟨a, b⟩)
  refine ⟨fun e => ?_, by omega⟩
  have hp : 2 ^ 1 ≤ q ^ ln k := Nat.le_trans (Nat.pow_le_pow_right (by decide) (show 1 ≤ ln k by omega)) (Nat.pow_le_pow_left hq _)
  have hp2 : q ^ ln k ≤ 4 ^ 5 := Nat.le_trans (Nat.pow_le_pow_left hq4 _) (Nat.pow_le_pow_right (by decide) hn5)
  rcases h2 with ⟨a, b⟩ | ⟨cd, a, b⟩
  · have b0 := b 0 (by omega)
    have b1 := b 1 (by omega)
    omega
  · rw [b] at e
    exact nI_m1 (by have : 4 ^ 5 = 1024 := rfl; omega) e
/-- the digits of a word's code are its letters -/
theorem dg_px {q : Nat} {u : Nat → Nat} {n : Nat} (hq : 0 < q) (hu : ∀ j, j < n → u j < q) : ∀ j, j < n → dg q (px q u n) n j = u j := by
  have h1 := px_dg (q := q) (c := px q u n) (n := n) hq (px_lt hu) (Nat.le_refl n)
  rw [Nat.sub_self, Nat.pow_zero, Nat.div_one] at h1
  exact (px_inj (fun j _ => dg_lt hq) hu).mp h1
/-- bounds of a fraction in lowest terms -/
theorem nd_b {a b A B : Int} (hb : 0 < b) (h1 : -A ≤ a) (h2 : a ≤ A) (hB : b ≤ B) : (-A ≤ (Rat.divInt a b).num ∧ (Rat.divInt a b).num ≤ A) ∧ (0 < ((Rat.divInt a b).den : Int) ∧ ((Rat.divInt a b).den : Int) ≤ B) := by
  obtain ⟨n, hn⟩ : ∃ n : Nat, b = (n : Int) := ⟨b.natAbs, by omega⟩
  subst hn
  have hd := den_dvd a (D := n) (by omega)
  obtain ⟨m, hm⟩ := hd
  have hp := (Rat.divInt a (n : Int)).den_pos
  have hm1 : 1 ≤ m := by
    rcases Nat.eq_zero_or_pos m with e | e
    · rw [e, Nat.mul_zero] at hm; omega
    · exact e
  have e1 := divInt_D a (D := n) (by omega)
  have e2 : ((Rat.divInt a (n : Int)).num : Rat) = Rat.divInt a (n : Int) * ((Rat.divInt a (n : Int)).den : Rat) := by
    have h8 := divInt_D (Rat.divInt a (n : Int)).num (D := (Rat.divInt a (n : Int)).den) hp
    rw [Rat.num_divInt_den] at h8
    exact h8.symm
  have e3 : (((Rat.divInt a (n : Int)).num * (m : Int) : Int) : Rat) = (a : Rat) := by
    rw [Rat.intCast_mul, Rat.intCast_natCast, e2, ← e1, Rat.mul_assoc, ← Rat.natCast_mul, ← hm]
  have e4 : (Rat.divInt a (n : Int)).num * (m : Int) = a := Rat.intCast_inj.mp e3
  have e5 : (Rat.divInt a (n : Int)).den ≤ n := by
    have := Nat.mul_le_mul_left (Rat.divInt a (n : Int)).den hm1
    rw [Nat.mul_one, ← hm] at this
    exact this
  refine ⟨⟨?_, ?_⟩, by omega, by omega⟩
  · refine Classical.byContradiction (fun h => ?_)
    have h3 : (Rat.divInt a (n : Int)).num * (m : Int) ≤ (Rat.divInt a (n : Int)).num * 1 := Int.mul_le_mul_of_nonpos_left (by omega) (by omega)
    omega
  · refine Classical.byContradiction (fun h => ?_)
    have h3 : (Rat.divInt a (n : Int)).num * 1 ≤ (Rat.divInt a (n : Int)).num * (m : Int) := Int.mul_le_mul_of_nonneg_left (by omega) (by omega)
    omega
/-- which of two fractions is more -/
theorem fr_le {a b d e : Int} (hb : 0 < b) (he : 0 < e) : (Rat.divInt a b).num * ((Rat.divInt d e).den : Int) ≤ (Rat.divInt d e).num * ((Rat.divInt a b).den : Int) ↔ a * e ≤ d * b := by
  rw [← Rat.le_iff]
  have hb' : (0 : Rat) < (b : Rat) := Rat.intCast_pos.mpr hb
  have he' : (0 : Rat) < (e : Rat) := Rat.intCast_pos.mpr he
  have h1 := divInt_m a (b := b) (by omega)
  have h2 := divInt_m d (b := e) (by omega)
  rw [← Rat.intCast_le_intCast, Rat.intCast_mul, Rat.intCast_mul, ← h1, ← h2]
  have h3 := Rat.mul_pos hb' he'
  constructor
  · intro h
    have := Rat.mul_le_mul_of_nonneg_right h (Rat.le_of_lt h3)
    grind
  · intro h
    refine Classical.byContradiction (fun h4 => ?_)
    have := Rat.mul_lt_mul_of_pos_right (show Rat.divInt d e < Rat.divInt a b by grind) h3
    grind
