/-! THE BETTORS' PURSES -/
/-- the sum of f over the laps of a text of n letters on a word of m -/
def lapR (f : Nat → Rat) (x : Nat → Nat) (n : Nat) (v : Nat → Nat) (m : Nat) : Rat := sm (fun k => if k + 1 ≤ n ∧ k + 1 ≤ m ∧ lapD x n v (k + 1) then f (k + 1) else 0) 5
theorem lapR_lin {f g h : Nat → Rat} {a b : Rat} {x v : Nat → Nat} {n m : Nat} (e : ∀ k, f k = a * g k + b * h k) : lapR f x n v m = a * lapR g x n v m + b * lapR h x n v m := by
  unfold lapR
  refine sm_lin (fun k _ => ?_)
  by_cases c : k + 1 ≤ n ∧ k + 1 ≤ m ∧ lapD x n v (k + 1)
  · rw [if_pos c, if_pos c, if_pos c, e]
  · rw [if_neg c, if_neg c, if_neg c]; grind
/-- only the end of a text counts -/
theorem lapR_suf {f : Nat → Rat} {x y v : Nat → Nat} {R m' m : Nat} (hm : m' ≤ R) (hy : ∀ j, j < m' → y j = x (R - m' + j)) (hmax : ∀ k, m' < k → k ≤ R → k ≤ m → ¬ lapD x R v k) : lapR f x R v m = lapR f y m' v m := by
  unfold lapR
  refine sm_congr (fun k _ => ?_)
  by_cases c : k + 1 ≤ m' ∧ k + 1 ≤ m ∧ lapD y m' v (k + 1)
  · rw [if_pos c, if_pos]
    refine ⟨by omega, c.2.1, fun j hj => ?_⟩
    have := c.2.2 j hj
    rw [hy _ (by omega)] at this
    rw [← this]; congr 1; omega
  · rw [if_neg c, if_neg]
    rintro ⟨c1, c2, c3⟩
    by_cases e : k + 1 ≤ m'
    · refine c ⟨e, c2, fun j hj => ?_⟩
      rw [hy _ (by omega), ← c3 j hj]; congr 1; omega
    · exact hmax (k + 1) (by omega) c1 c2 c3
theorem lapR_0 {f : Nat → Rat} {x v : Nat → Nat} {m : Nat} : lapR f x 0 v m = 0 := sm_zero (fun k _ => if_neg (by omega))
/-- a fair game: one more letter -/
theorem lapR_next {f h : Nat → Rat} {w x v : Nat → Nat} {n m q : Nat} (hm0 : 0 < m) (hm5 : m ≤ 5) (hv : ∀ j, j < m → v j < q) (hf : ∀ k, k < m → f (k + 1) * (w (v k) : Rat) = h k) (hno : ¬ (m ≤ n ∧ lapD x n v m)) : sm (fun c => (w c : Rat) * lapR f (fun j => if j < n then x j else c) (n + 1) v m) q = h 0 + lapR h x n v m := by
  have e1 : sm (fun c => (w c : Rat) * lapR f (fun j => if j < n then x j else c) (n + 1) v m) q = sm (fun k => sm (fun c => (w c : Rat) * (if k + 1 ≤ n + 1 ∧ k + 1 ≤ m ∧ lapD (fun j => if j < n then x j else c) (n + 1) v (k + 1) then f (k + 1) else 0)) q) 5 := by
    rw [sm_swap]
    exact sm_congr (fun c _ => (sm_mul _ _).symm)
  have e2 : ∀ k, k < 5 → sm (fun c => (w c : Rat) * (if k + 1 ≤ n + 1 ∧ k + 1 ≤ m ∧ lapD (fun j => if j < n then x j else c) (n + 1) v (k + 1) then f (k + 1) else 0)) q = (if k ≤ n ∧ k + 1 ≤ m ∧ lapD x n v k then h k else 0) := by
    intro k _
    by_cases c : k ≤ n ∧ k + 1 ≤ m ∧ lapD x n v k
    · rw [if_pos c, sm_one (c := v k) (hv k (by omega)) (fun j _ hj => ?_)]
      · rw [if_pos, ← hf k (by omega), Rat.mul_comm]
        refine ⟨by omega, c.2.1, fun j hj => ?_⟩
        show (if n + 1 - (k + 1) + j < n then _ else _) = _
        by_cases e : j < k
        · rw [if_pos (by omega), ← c.2.2 j e]; congr 1; omega
        · rw [if_neg (by omega), show j = k by omega]
      · rw [if_neg]
        · exact Rat.mul_zero _
        · rintro ⟨-, -, h3⟩
          have h4 : (if n + 1 - (k + 1) + k < n then x (n + 1 - (k + 1) + k) else j) = v k := h3 k (by omega)
          rw [if_neg (by omega)] at h4
          exact hj h4
    · rw [if_neg c]
      refine sm_zero (fun j _ => ?_)
      rw [if_neg]
      · exact Rat.mul_zero _
      · rintro ⟨h1, h2, h3⟩
        refine c ⟨by omega, h2, fun i hi => ?_⟩
        have h4 : (if n + 1 - (k + 1) + i < n then x (n + 1 - (k + 1) + i) else j) = v i := h3 i (by omega)
        rw [if_pos (by omega)] at h4
        rw [← h4]; congr 1; omega
  rw [e1, sm_congr e2]
  have e3 : sm (fun k => if k ≤ n ∧ k + 1 ≤ m ∧ lapD x n v k then h k else 0) 6 = sm (fun k => if k ≤ n ∧ k + 1 ≤ m ∧ lapD x n v k then h k else 0) 5 := by
    show sm _ 5 + (if 5 ≤ n ∧ 5 + 1 ≤ m ∧ lapD x n v 5 then h 5 else 0) = _
    rw [if_neg (by omega), Rat.add_zero]
  rw [← e3, sm_shift, if_pos ⟨Nat.zero_le _, hm0, fun j hj => absurd hj (by omega)⟩]
  congr 1
  unfold lapR
  refine sm_congr (fun k _ => ?_)
  by_cases c : k + 1 ≤ n ∧ k + 1 ≤ m ∧ lapD x n v (k + 1)
  · rw [if_pos c, if_pos]
    refine ⟨c.1, ?_, c.2.2⟩
    refine Classical.byContradiction (fun e => hno ?_)
    rw [show m = k + 1 by omega]
    exact ⟨c.1, c.2.2⟩
  · rw [if_neg c, if_neg (fun c2 => c ⟨c2.1, by omega, c2.2.2⟩)]
/-- 1 / P of the first k letters -/
def pwR (Wt : Nat) (w v : Nat → Nat) : Nat → Rat
  | 0 => 1
  | k + 1 => pwR Wt w v k * ((Wt : Rat) / (w (v k) : Rat))
theorem pwR_s {Wt : Nat} {w v : Nat → Nat} {k : Nat} (h : 1 ≤ w (v k)) : pwR Wt w v (k + 1) * (w (v k) : Rat) = (Wt : Rat) * pwR Wt w v k := by
  have h0 : (w (v k) : Rat) ≠ 0 := fun e => by have : w (v k) = 0 := Rat.natCast_inj.mp e; omega
  show pwR Wt w v k * ((Wt : Rat) / (w (v k) : Rat)) * (w (v k) : Rat) = _
  grind
theorem natpos {a : Nat} (h : 1 ≤ a) : (0 : Rat) < (a : Rat) := by
  have : ((0 : Nat) : Rat) < (a : Rat) := Rat.natCast_lt_natCast.mpr h
  exact this
theorem pwR_pos {Wt : Nat} {w v : Nat → Nat} (hW : 1 ≤ Wt) : ∀ {k : Nat}, (∀ j, j < k → 1 ≤ w (v j)) → 0 < pwR Wt w v k
  | 0, _ => by show (0 : Rat) < 1; decide
  | k + 1, h => Rat.mul_pos (pwR_pos hW (fun j hj => h j (by omega))) (div_pos' (natpos hW) (natpos (h k (by omega))))
theorem pwR_congr {Wt : Nat} {w v v' : Nat → Nat} : ∀ {k : Nat}, (∀ j, j < k → v j = v' j) → pwR Wt w v k = pwR Wt w v' k
  | 0, _ => rfl
  | k + 1, h => by
    show pwR Wt w v k * ((Wt : Rat) / (w (v k) : Rat)) = pwR Wt w v' k * ((Wt : Rat) / (w (v' k) : Rat))
    rw [pwR_congr (fun j hj => h j (by omega)), h k (by omega)]
theorem wbk_t {w u : Nat → Nat} {n k : Nat} (hk : k < n) : wbk w u n (n - k) = wbk w u n (n - (k + 1)) * w (u k) := by
  rw [show n - k = (n - (k + 1)) + 1 by omega]
  show wbk w u n (n - (k + 1)) * w (u (n - 1 - (n - (k + 1)))) = _
  rw [show n - 1 - (n - (k + 1)) = k by omega]
theorem shr_pw {Wt : Nat} {w u : Nat → Nat} {n : Nat} (hw : ∀ j, j < n → 1 ≤ w (u j)) : ∀ {k : Nat}, k ≤ n → ((shr Wt w u n k : Nat) : Rat) = pwR Wt w u k * ((shr Wt w u n 0 : Nat) : Rat)
  | 0, _ => by show _ = 1 * _; rw [Rat.one_mul]
  | k + 1, hk => by
    have h1 := shr_pw (Wt := Wt) hw (k := k) (by omega)
    have h2 : shr Wt w u n (k + 1) * w (u k) = Wt * shr Wt w u n k := by
      unfold shr
      rw [wbk_t (show k < n by omega), Nat.pow_succ]
      generalize wbk w u n (n - (k + 1)) = a
      generalize Wt ^ k = b
      generalize w (u k) = d
      rw [Nat.mul_assoc, Nat.mul_comm b Wt, Nat.mul_assoc]
    have h3 : ((shr Wt w u n (k + 1) : Nat) : Rat) * (w (u k) : Rat) = (Wt : Rat) * ((shr Wt w u n k : Nat) : Rat) := by rw [← Rat.natCast_mul, h2, Rat.natCast_mul]
    have h4 := pwR_s (Wt := Wt) (w := w) (v := u) (k := k) (hw k (by omega))
    have h0 : (w (u k) : Rat) ≠ 0 := fun e => by have : w (u k) = 0 := Rat.natCast_inj.mp e; have := hw k (by omega); omega
    rw [h1] at h3
    have h5 : ((shr Wt w u n (k + 1) : Nat) : Rat) * (w (u k) : Rat) = pwR Wt w u (k + 1) * ((shr Wt w u n 0 : Nat) : Rat) * (w (u k) : Rat) := by grind
    grind
/-- LEAD, as the programs sum it -/
theorem lapS_sm {f : Nat → Nat} {x v : Nat → Nat} {n m : Nat} : ∀ {k : Nat}, ((lapS f x n v m k : Nat) : Rat) = sm (fun k => if k + 1 ≤ n ∧ k + 1 ≤ m ∧ lapD x n v (k + 1) then (f (k + 1) : Rat) else 0) k
  | 0 => rfl
  | k + 1 => by
    show ((lapS f x n v m k + (if k + 1 ≤ n ∧ k + 1 ≤ m ∧ lapD x n v (k + 1) then f (k + 1) else 0) : Nat) : Rat) = _
    rw [Rat.natCast_add, lapS_sm]
    show _ = sm _ k + _
    congr 1
    by_cases c : k + 1 ≤ n ∧ k + 1 ≤ m ∧ lapD x n v (k + 1)
    · rw [if_pos c]; exact (if_pos c).symm
    · rw [if_neg c]; exact (if_neg c).symm
theorem lapS_R {Wt : Nat} {w x v : Nat → Nat} {n m : Nat} (hw : ∀ j, j < m → 1 ≤ w (v j)) (g : Nat → Nat) : ((lapS (fun k => g k * shr Wt w v m k) x n v m 5 : Nat) : Rat) = lapR (fun k => (g k : Rat) * pwR Wt w v k) x n v m * ((shr Wt w v m 0 : Nat) : Rat) := by
  rw [lapS_sm]
  unfold lapR
  rw [Rat.mul_comm, ← sm_mul]
  refine sm_congr (fun k _ => ?_)
  by_cases c : k + 1 ≤ n ∧ k + 1 ≤ m ∧ lapD x n v (k + 1)
  · rw [if_pos c, if_pos c, Rat.natCast_mul, shr_pw hw c.2.1]; grind
  · rw [if_neg c, if_neg c]; grind
theorem lapS_1 {Wt : Nat} {w x v : Nat → Nat} {n m : Nat} (hw : ∀ j, j < m → 1 ≤ w (v j)) : ((lapS (shr Wt w v m) x n v m 5 : Nat) : Rat) = lapR (pwR Wt w v) x n v m * ((shr Wt w v m 0 : Nat) : Rat) := by
  have h := lapS_R (Wt := Wt) (x := x) (n := n) hw (fun _ => 1)
  have e1 : (fun k => 1 * shr Wt w v m k) = shr Wt w v m := by funext k; rw [Nat.one_mul]
  have e2 : (fun k : Nat => ((1 : Nat) : Rat) * pwR Wt w v k) = pwR Wt w v := by funext k; exact Rat.one_mul _
  rw [e1, e2] at h
  exact h
/-! WHICH COMES FIRST: the sums that hold -/
theorem dI1 (z : Int) : Rat.divInt z 1 = (z : Rat) := by
  have h := divInt_D z (D := 1) (by decide)
  have e : ((1 : Nat) : Rat) = 1 := rfl
  rw [e, Rat.mul_one] at h
  exact h
/-- none lies within another -/
def noLs (ln : Nat → Nat) (u : Nat → Nat → Nat) (li : Nat) : Prop := ∀ a b, a < 8 → b < 8 → a ≠ b → btL li a → btL li b → ¬ liesW (u a) (ln a) (u b) (ln b)
section CF
variable {q Wt : Nat} {w ln : Nat → Nat} {u : Nat → Nat → Nat} {li ns : Nat} {sl sz gof : Nat → Nat}
theorem ch_tgt (hC : ChP q ln u li ns sl sz gof) {f : Nat → Rat} {i c b : Nat} (hi : i < ns) (hc : c < q) (hb : b < 8) (hbl : btL li b) : lapR f (rwW u sl sz i c) (sz i + 1) (u b) (ln b) = (if gof (4 * i + c) < ns then lapR f (u (sl (gof (4 * i + c)))) (sz (gof (4 * i + c))) (u b) (ln b) else lapR f (u (gof (4 * i + c) - 100)) (ln (gof (4 * i + c) - 100)) (u b) (ln b)) := by
  obtain ⟨m, hm, hmax, hg⟩ := hC.2.2.2.2 i c hi hc
  have hno : ∀ k, m < k → k ≤ sz i + 1 → k ≤ ln b → ¬ lapD (rwW u sl sz i c) (sz i + 1) (u b) k := fun k h1 h2 h3 => hmax k b h1 h2 hb hbl h3
  rcases hg with ⟨h1, h2, h3⟩ | ⟨s, h1, h2, h3, h4, h5⟩
  · rw [if_pos h1, h2]
    exact lapR_suf hm h3 hno
  · rw [if_neg (by have := hC.2.1; omega), h3, Nat.add_sub_cancel_left, ← h4]
    exact lapR_suf hm (fun j hj => (h5 j hj).symm) hno
/-- a state holds no whole WORD -/
theorem ch_nofull (hC : ChP q ln u li ns sl sz gof) (hS : SrP q Wt w ln u) (hN : noLs ln u li) {i b : Nat} (hi : i < ns) (hb : b < 8) (hbl : btL li b) : ¬ (ln b ≤ sz i ∧ lapD (u (sl i)) (sz i) (u b) (ln b)) := by
  rintro ⟨h1, h2⟩
  obtain ⟨c1, c2, c3⟩ := hC.2.2.2.1 i hi
  by_cases e : b = sl i
  · subst e; omega
  · exact hN b (sl i) hb c1 e hbl c2 (liesW_of (a := sz i - ln b) (hS.2.2.2.2.2.1 _) (by omega) h2)
theorem ch_fair (hC : ChP q ln u li ns sl sz gof) (hS : SrP q Wt w ln u) (hN : noLs ln u li) {f h : Nat → Rat} {i b : Nat} (hi : i < ns) (hb : b < 8) (hbl : btL li b) (hp : 0 < ln b) (hf : ∀ k, k < ln b → f (k + 1) * (w (u b k) : Rat) = h k) : ltS w gof ns i (fun g => lapR f (u (sl g)) (sz g) (u b) (ln b)) (fun s => lapR f (u s) (ln s) (u b) (ln b)) q = h 0 + lapR h (u (sl i)) (sz i) (u b) (ln b) := by
  rw [← lapR_next hp (hS.2.2.2.2.2.1 b) (fun j hj => hS.2.2.2.2.2.2 b j hj) hf (ch_nofull hC hS hN hi hb hbl)]
  exact sm_congr (fun c hc => by
    show (w c : Rat) * _ = (w c : Rat) * _
    rw [← ch_tgt hC hi hc hb hbl]; rfl)
theorem hitZ_sm {i s : Nat} : ∀ {c : Nat}, ((hitZ w gof i s c : Int) : Rat) = sm (fun c => if gof (4 * i + c) = 100 + s then (w c : Rat) else 0) c
  | 0 => rfl
  | c + 1 => by
    show ((hitZ w gof i s c + (if gof (4 * i + c) = 100 + s then (w c : Int) else 0) : Int) : Rat) = sm (fun c => if gof (4 * i + c) = 100 + s then (w c : Rat) else 0) c + (if gof (4 * i + c) = 100 + s then (w c : Rat) else 0)
    rw [Rat.intCast_add, hitZ_sm]
    congr 1
    by_cases e : gof (4 * i + c) = 100 + s
    · rw [if_pos e, if_pos e, Rat.intCast_natCast]
    · rw [if_neg e, if_neg e]; rfl
/-- the letters that end in a WORD apart -/
theorem ltS_split (hC : ChP q ln u li ns sl sz gof) {x y : Nat → Rat} {i : Nat} (hi : i < ns) : ltS w gof ns i x y q = ltS w gof ns i x (fun _ => 0) q + sm (fun s => ((hitZ w gof i s q : Int) : Rat) * y s) 8 := by
  have e : sm (fun s => ((hitZ w gof i s q : Int) : Rat) * y s) 8 = sm (fun c => sm (fun s => (if gof (4 * i + c) = 100 + s then (w c : Rat) else 0) * y s) 8) q := by
    rw [sm_swap (n := q)]
    refine sm_congr (fun s _ => ?_)
    rw [hitZ_sm, Rat.mul_comm, ← sm_mul]
    exact sm_congr (fun c _ => Rat.mul_comm _ _)
  rw [e]
  unfold ltS
  rw [← sm_add]
  refine sm_congr (fun c hc => ?_)
  have hg := (hC.2.2.2.2 i c hi hc).gb
  by_cases e1 : gof (4 * i + c) < ns
  · rw [if_pos e1, if_pos e1, sm_zero (fun s _ => by rw [if_neg (by have := hC.2.1; omega)]; exact Rat.zero_mul _), Rat.add_zero]
  · rw [if_neg e1, if_neg e1, sm_one (c := gof (4 * i + c) - 100) (by omega) (fun s _ hs => by rw [if_neg (by omega)]; exact Rat.zero_mul _), if_pos (by omega)]
    grind
/-- what the chain's rows make of a purse -/
theorem ch_ph (hC : ChP q ln u li ns sl sz gof) (hS : SrP q Wt w ln u) (hN : noLs ln u li) {f h : Nat → Rat} {i b : Nat} (hi : i < ns) (hb : b < 8) (hbl : btL li b) (hp : 0 < ln b) (hf : ∀ k, k < ln b → f (k + 1) * (w (u b k) : Rat) = h k) : chA Wt w gof q ns (fun g => lapR f (u (sl g)) (sz g) (u b) (ln b)) i = (Wt : Rat) * lapR f (u (sl i)) (sz i) (u b) (ln b) - (h 0 + lapR h (u (sl i)) (sz i) (u b) (ln b)) + sm (fun s => ((hitZ w gof i s q : Int) : Rat) * lapR f (u s) (ln s) (u b) (ln b)) 8 := by
  have h1 := ch_fair hC hS hN hi hb hbl hp hf
  rw [ltS_split hC hi] at h1
  unfold chA
  grind
theorem ch_w1 (hS : SrP q Wt w ln u) {b k : Nat} (hk : k < ln b) : 1 ≤ w (u b k) := hS.2.2.1 _ (hS.2.2.2.2.2.2 b k hk)
theorem ch_p1 (hC : ChP q ln u li ns sl sz gof) (hS : SrP q Wt w ln u) (hN : noLs ln u li) {i b : Nat} (hi : i < ns) (hb : b < 8) (hbl : btL li b) (hp : 0 < ln b) : chA Wt w gof q ns (fun g => lapR (pwR Wt w (u b)) (u (sl g)) (sz g) (u b) (ln b)) i = sm (fun s => ((hitZ w gof i s q : Int) : Rat) * lapR (pwR Wt w (u b)) (u s) (ln s) (u b) (ln b)) 8 - (Wt : Rat) := by
  have h1 := ch_ph hC hS hN (f := pwR Wt w (u b)) (h := fun k => (Wt : Rat) * pwR Wt w (u b) k) hi hb hbl hp (fun k hk => pwR_s (ch_w1 hS hk))
  rw [h1, lapR_lin (f := fun k => (Wt : Rat) * pwR Wt w (u b) k) (g := pwR Wt w (u b)) (h := pwR Wt w (u b)) (a := (Wt : Rat)) (b := 0) (fun k => by grind)]
  show _ - ((Wt : Rat) * 1 + _) + _ = _
  grind
theorem ch_1 (hC : ChP q ln u li ns sl sz gof) (hS : SrP q Wt w ln u) {i : Nat} (hi : i < ns) : chA Wt w gof q ns (fun _ => 1) i = sm (fun s => ((hitZ w gof i s q : Int) : Rat)) 8 := by
  have h1 := ltS_split (w := w) hC (x := fun _ => 1) (y := fun _ => 1) hi
  have h2 : ltS w gof ns i (fun _ => 1) (fun _ => 1) q = (Wt : Rat) := by
    rw [← hS.2.2.2.1, wsum_sm]
    exact sm_congr (fun c _ => by split <;> grind)
  rw [h2, sm_congr (g := fun s => ((hitZ w gof i s q : Int) : Rat)) (fun s _ => Rat.mul_one _)] at h1
  unfold chA
  grind
theorem fM_is (hC : ChP q ln u li ns sl sz gof) (hS : SrP q Wt w ln u) {i s : Nat} (hi : i < ns) : chA Wt w gof q ns (fM Wt w gof q ns s) i = ((hitZ w gof i s q : Int) : Rat) := by
  have h := ch_is hC hS (r := fun x => Rat.divInt (hitZ w gof x s q) 1) hi
  rw [dI1] at h
  exact h
theorem eM_is (hC : ChP q ln u li ns sl sz gof) (hS : SrP q Wt w ln u) {i : Nat} (hi : i < ns) : chA Wt w gof q ns (eM Wt w gof q ns) i = (Wt : Rat) := by
  have h := ch_is hC hS (r := fun _ => Rat.divInt ((Wt : Nat) : Int) 1) hi
  rw [show (Rat.divInt ((Wt : Nat) : Int) 1) = (Wt : Rat) by rw [dI1, Rat.intCast_natCast]] at h
  have e : eM Wt w gof q ns = fun i => gj (mkA Wt w gof q ns fun x => (Wt : Rat)) ns i ns := by
    unfold eM
    rw [show (Rat.divInt ((Wt : Nat) : Int) 1) = (Wt : Rat) by rw [dI1, Rat.intCast_natCast]]
  rw [e]
  exact h
theorem fM_1 (hC : ChP q ln u li ns sl sz gof) (hS : SrP q Wt w ln u) {i : Nat} (hi : i < ns) : sm (fun s => fM Wt w gof q ns s i) 8 = 1 := by
  refine ch_eq hC hS (x := fun i => sm (fun s => fM Wt w gof q ns s i) 8) (y := fun _ => 1) (fun j hj => ?_) hi
  rw [chA_sm hj, ch_1 hC hS hj]
  exact sm_congr (fun s _ => fM_is hC hS hj)
/-- Conway -/
theorem eM_lead (hC : ChP q ln u li ns sl sz gof) (hS : SrP q Wt w ln u) (hN : noLs ln u li) {i b : Nat} (hi : i < ns) (hb : b < 8) (hbl : btL li b) (hp : 0 < ln b) : eM Wt w gof q ns i = sm (fun s => fM Wt w gof q ns s i * lapR (pwR Wt w (u b)) (u s) (ln s) (u b) (ln b)) 8 - lapR (pwR Wt w (u b)) (u (sl i)) (sz i) (u b) (ln b) := by
  refine ch_eq hC hS (x := eM Wt w gof q ns) (y := fun i => sm (fun s => fM Wt w gof q ns s i * lapR (pwR Wt w (u b)) (u s) (ln s) (u b) (ln b)) 8 - lapR (pwR Wt w (u b)) (u (sl i)) (sz i) (u b) (ln b)) (fun j hj => ?_) hi
  rw [eM_is hC hS hj, chA_lin (x1 := fun i => sm (fun s => fM Wt w gof q ns s i * lapR (pwR Wt w (u b)) (u s) (ln s) (u b) (ln b)) 8) (x2 := fun i => lapR (pwR Wt w (u b)) (u (sl i)) (sz i) (u b) (ln b)) (a := 1) (b := -1) hj (fun g _ => by grind), ch_p1 hC hS hN hj hb hbl hp, chA_sm hj]
  have e : sm (fun a => chA Wt w gof q ns (fun g => fM Wt w gof q ns a g * lapR (pwR Wt w (u b)) (u a) (ln a) (u b) (ln b)) j) 8 = sm (fun s => ((hitZ w gof j s q : Int) : Rat) * lapR (pwR Wt w (u b)) (u s) (ln s) (u b) (ln b)) 8 := sm_congr (fun a _ => by
    rw [chA_lin (x1 := fM Wt w gof q ns a) (x2 := fM Wt w gof q ns a) (a := lapR (pwR Wt w (u b)) (u a) (ln a) (u b) (ln b)) (b := 0) hj (fun g _ => by grind), fM_is hC hS hj]
    grind)
  rw [e]
  grind
theorem eM_pos (hC : ChP q ln u li ns sl sz gof) (hS : SrP q Wt w ln u) {i : Nat} (hi : i < ns) : 0 < eM Wt w gof q ns i :=
  ch_pos hC hS (fun _ _ => by rw [dI1, Rat.intCast_natCast]; exact natpos (by have := W_pos hS; omega)) hi
theorem hitZ_nonneg {i s : Nat} : (0 : Rat) ≤ ((hitZ w gof i s q : Int) : Rat) := by
  rw [hitZ_sm]
  refine sm_nonneg (fun c _ => ?_)
  split
  · exact Rat.natCast_nonneg
  · exact Rat.le_refl
theorem fM_nonneg (hC : ChP q ln u li ns sl sz gof) (hS : SrP q Wt w ln u) {i s : Nat} (hi : i < ns) : 0 ≤ fM Wt w gof q ns s i :=
  ch_nonneg hC hS (fun _ _ => by rw [dI1]; exact hitZ_nonneg) hi
theorem fM_0 (hC : ChP q ln u li ns sl sz gof) (hS : SrP q Wt w ln u) {i s : Nat} (hi : i < ns) (hs : ¬ btL li s) : fM Wt w gof q ns s i = 0 := by
  refine ch_eq hC hS (x := fM Wt w gof q ns s) (y := fun _ => 0) (fun j hj => ?_) hi
  rw [fM_is hC hS hj, hitZ_sm, sm_zero, chA_lin (x1 := fun _ => 0) (x2 := fun _ => 0) (a := 0) (b := 0) hj (fun _ _ => by grind)]
  · grind
  · intro c hc
    rw [if_neg]
    intro e
    obtain ⟨m, -, -, ⟨h1, -⟩ | ⟨s', h1, h2, h3, -⟩⟩ := hC.2.2.2.2 j c hj hc
    · have := hC.2.1; omega
    · rw [show s' = s by omega] at h2; exact hs h2
/-- a state for each beginning -/
theorem ch_state (hC : ChP q ln u li ns sl sz gof) (hS : SrP q Wt w ln u) (hN : noLs ln u li) {b : Nat} (hb : b < 8) (hbl : btL li b) : ∀ {n : Nat}, n < ln b → ∃ i, i < ns ∧ sz i = n ∧ ∀ j, j < n → u (sl i) j = u b j
  | 0, _ => ⟨0, hC.1, hC.2.2.1, fun j hj => absurd hj (by omega)⟩
  | n + 1, hn => by
    obtain ⟨i, hi, h1, h2⟩ := ch_state hC hS hN hb hbl (n := n) (by omega)
    subst h1
    rcases sp_next hC hi hb hbl (by omega) h2 (hS.2.2.2.2.2.2 b _ (by omega)) with ⟨a1, a2, a3⟩ | ⟨s, a1, a2, a3, a4, a5⟩
    · exact ⟨_, a1, a2, a3⟩
    · exfalso
      by_cases e : s = b
      · subst e; omega
      · exact hN s b a1 hb e a2 hbl (liesW_of (a := 0) (hS.2.2.2.2.2.1 _) (by omega) (fun j hj => by rw [Nat.zero_add]; exact (a5 j hj).symm))
theorem ltS_ge1 {i c0 : Nat} {x y : Nat → Rat} (hc : c0 < q) (hx : ∀ g, g < ns → 0 ≤ x g) (hy : ∀ s, 0 ≤ y s) : (w c0 : Rat) * (if gof (4 * i + c0) < ns then x (gof (4 * i + c0)) else y (gof (4 * i + c0) - 100)) ≤ ltS w gof ns i x y q := by
  unfold ltS
  rw [sm_out hc]
  have := sm_nonneg (f := fun j => if j = c0 then (0 : Rat) else (w j : Rat) * (if gof (4 * i + j) < ns then x (gof (4 * i + j)) else y (gof (4 * i + j) - 100))) (n := q) (fun j _ => by
    by_cases e : j = c0
    · rw [if_pos e]; exact Rat.le_refl
    · rw [if_neg e]
      refine Rat.mul_nonneg Rat.natCast_nonneg ?_
      by_cases e2 : gof (4 * i + j) < ns
      · rw [if_pos e2]; exact hx _ e2
      · rw [if_neg e2]; exact hy _)
  grind
/-- each WORD of the LIST may come first -/
theorem fM_pos (hC : ChP q ln u li ns sl sz gof) (hS : SrP q Wt w ln u) (hN : noLs ln u li) {b : Nat} (hb : b < 8) (hbl : btL li b) : ∀ {d n i : Nat}, n + d = ln b → 0 < d → i < ns → sz i = n → (∀ j, j < n → u (sl i) j = u b j) → 0 < fM Wt w gof q ns b i
  | 0, n, i, _, h0, _, _, _ => absurd h0 (by omega)
  | d + 1, n, i, hd, _, hi, h1, h2 => by
    subst h1
    have hq := hS.2.2.2.2.2.2 b (sz i) (by omega)
    have hW := natpos (show 1 ≤ Wt by have := W_pos hS; omega)
    have hw := natpos (hS.2.2.1 _ hq)
    have e := fM_is hC hS (s := b) hi
    have nn : ∀ g, g < ns → 0 ≤ fM Wt w gof q ns b g := fun g hg => fM_nonneg hC hS hg
    have hge := ltS_ge1 (w := w) (i := i) (gof := gof) (y := fun _ => 0) hq nn (fun _ => Rat.le_refl)
    have hl := ltS_nonneg (w := w) (q := q) (i := i) (gof := gof) (y := fun _ => 0) nn (fun _ => Rat.le_refl)
    have hh := hitZ_nonneg (w := w) (gof := gof) (q := q) (i := i) (s := b)
    have hsum : 0 < (Wt : Rat) * fM Wt w gof q ns b i := by
      unfold chA at e
      rcases sp_next hC hi hb hbl (by omega) h2 hq with ⟨a1, a2, a3⟩ | ⟨s, a1, a2, a3, a4, a5⟩
      · by_cases hd0 : d = 0
        · exfalso
          have := (hC.2.2.2.1 _ a1)
          obtain ⟨c1, c2, c3⟩ := this
          by_cases e2 : sl (gof (4 * i + u b (sz i))) = b
          · rw [e2] at c3; omega
          · exact hN b _ hb c1 (fun h => e2 h.symm) hbl c2 (liesW_of (a := 0) (hS.2.2.2.2.2.1 _) (by omega) (fun j hj => by rw [Nat.zero_add]; exact a3 j (by omega)))
        · have ih := fM_pos hC hS hN hb hbl (d := d) (n := sz i + 1) (i := gof (4 * i + u b (sz i))) (by omega) (by omega) a1 a2 a3
          rw [if_pos a1] at hge
          have := Rat.mul_pos hw ih
          grind
      · have esb : s = b := by
          refine Classical.byContradiction (fun e2 => ?_)
          exact hN s b a1 hb e2 a2 hbl (liesW_of (a := 0) (hS.2.2.2.2.2.1 _) (by omega) (fun j hj => by rw [Nat.zero_add]; exact (a5 j hj).symm))
        subst esb
        have h3 : (w (u s (sz i)) : Rat) ≤ ((hitZ w gof i s q : Int) : Rat) := by
          rw [hitZ_sm, sm_out hq, if_pos a3]
          have := sm_nonneg (f := fun j => if j = u s (sz i) then (0 : Rat) else if gof (4 * i + j) = 100 + s then (w j : Rat) else 0) (n := q) (fun j _ => by
            split
            · exact Rat.le_refl
            · split
              · exact Rat.natCast_nonneg
              · exact Rat.le_refl)
          grind
        grind
    refine Classical.byContradiction (fun h6 => ?_)
    have := neg_mul_nonneg (show fM Wt w gof q ns b i ≤ 0 by grind) (Rat.le_of_lt hW)
    grind
theorem fM_pos0 (hC : ChP q ln u li ns sl sz gof) (hS : SrP q Wt w ln u) (hN : noLs ln u li) {b : Nat} (hb : b < 8) (hbl : btL li b) (hp : 0 < ln b) : 0 < fM Wt w gof q ns b 0 := fM_pos hC hS hN hb hbl (d := ln b) (n := 0) (by omega) hp hC.1 hC.2.2.1 (fun j hj => absurd hj (by omega))
end CF
/-! THE EQUATIONS HAVE ONE SOLUTION -/
section CK
variable {q Wt : Nat} {w ln : Nat → Nat} {u : Nat → Nat → Nat} {li ns : Nat} {sl sz gof : Nat → Nat}
theorem hit_0 (hC : ChP q ln u li ns sl sz gof) {i s : Nat} (hi : i < ns) (hs : ¬ btL li s) : ((hitZ w gof i s q : Int) : Rat) = 0 := by
  rw [hitZ_sm]
  refine sm_zero (fun c hc => ?_)
  rw [if_neg]
  intro e
  obtain ⟨m, -, -, ⟨h1, -⟩ | ⟨s', h1, h2, h3, -⟩⟩ := hC.2.2.2.2 i c hi hc
  · have := hC.2.1; omega
  · rw [show s' = s by omega] at h2; exact hs h2
/-- the shares of the WORDS that begin as b0 does -/
def clS (ln : Nat → Nat) (u : Nat → Nat → Nat) (li : Nat) (cc : Nat → Rat) (b0 n : Nat) : Rat := sm (fun b => if btL li b ∧ n ≤ ln b ∧ (∀ j, j < n → u b j = u b0 j) then cc b else 0) 8
theorem ker_state (hC : ChP q ln u li ns sl sz gof) (hS : SrP q Wt w ln u) (hN : noLs ln u li) (hp : ∀ b, b < 8 → btL li b → 0 < ln b) {cc : Nat → Rat} (h : ∀ a, a < 8 → btL li a → sm (fun b => if btL li b then cc b * lapR (pwR Wt w (u b)) (u a) (ln a) (u b) (ln b) else 0) 8 = 0) {i : Nat} (hi : i < ns) : sm (fun b => if btL li b then cc b * lapR (pwR Wt w (u b)) (u (sl i)) (sz i) (u b) (ln b) else 0) 8 = 0 := by
  have e1 : ∀ j, j < ns → chA Wt w gof q ns (fun g => sm (fun b => if btL li b then cc b * lapR (pwR Wt w (u b)) (u (sl g)) (sz g) (u b) (ln b) else 0) 8) j = (-(sm (fun b => if btL li b then cc b else 0) 8)) * (Wt : Rat) := fun j hj => by
    rw [chA_sm hj]
    have a1 : sm (fun a => chA Wt w gof q ns (fun g => if btL li a then cc a * lapR (pwR Wt w (u a)) (u (sl g)) (sz g) (u a) (ln a) else 0) j) 8 = sm (fun b => sm (fun s => ((hitZ w gof j s q : Int) : Rat) * (if btL li b then cc b * lapR (pwR Wt w (u b)) (u s) (ln s) (u b) (ln b) else 0)) 8 - (Wt : Rat) * (if btL li b then cc b else 0)) 8 := sm_congr (fun b hb => by
      by_cases e : btL li b
      · rw [if_pos e, chA_lin (x1 := fun g => lapR (pwR Wt w (u b)) (u (sl g)) (sz g) (u b) (ln b)) (x2 := fun _ => 0) (a := cc b) (b := 0) hj (fun g _ => by rw [if_pos e]; grind), ch_p1 hC hS hN hj hb e (hp b hb e)]
        have : sm (fun s => ((hitZ w gof j s q : Int) : Rat) * (if btL li b then cc b * lapR (pwR Wt w (u b)) (u s) (ln s) (u b) (ln b) else 0)) 8 = cc b * sm (fun s => ((hitZ w gof j s q : Int) : Rat) * lapR (pwR Wt w (u b)) (u s) (ln s) (u b) (ln b)) 8 := by
          rw [← sm_mul]
          exact sm_congr (fun s _ => by rw [if_pos e]; grind)
        rw [this]
        grind
      · rw [if_neg e, chA_lin (x1 := fun _ => 0) (x2 := fun _ => 0) (a := 0) (b := 0) hj (fun g _ => by rw [if_neg e]; grind), sm_zero (fun s _ => by rw [if_neg e]; grind)]
        grind)
    rw [a1, sm_sub, sm_swap, sm_zero]
    · grind
    · intro s hs
      rw [sm_mul]
      by_cases e : btL li s
      · rw [h s hs e]; grind
      · rw [hit_0 hC hj e]; grind
  have e2 : ∀ j, j < ns → sm (fun b => if btL li b then cc b * lapR (pwR Wt w (u b)) (u (sl j)) (sz j) (u b) (ln b) else 0) 8 = (-(sm (fun b => if btL li b then cc b else 0) 8)) * eM Wt w gof q ns j := fun j hj => by
    refine ch_eq hC hS (x := fun g => sm (fun b => if btL li b then cc b * lapR (pwR Wt w (u b)) (u (sl g)) (sz g) (u b) (ln b) else 0) 8) (y := fun j => (-(sm (fun b => if btL li b then cc b else 0) 8)) * eM Wt w gof q ns j) (fun j hj => ?_) hj
    rw [e1 j hj, chA_lin (x1 := eM Wt w gof q ns) (x2 := fun _ => 0) (a := -(sm (fun b => if btL li b then cc b else 0) 8)) (b := 0) hj (fun g _ => by grind), eM_is hC hS hj]
    grind
  have e3 := e2 0 hC.1
  rw [sm_zero (fun b _ => by rw [hC.2.2.1, lapR_0]; split <;> grind)] at e3
  have e4 := eM_pos hC hS hC.1
  have e5 : sm (fun b => if btL li b then cc b else 0) 8 = 0 := by
    have : eM Wt w gof q ns 0 ≠ 0 := fun e => by rw [e] at e4; exact absurd e4 Rat.lt_irrefl
    grind
  rw [e2 i hi, e5]
  grind
theorem ker_cl (hC : ChP q ln u li ns sl sz gof) (hS : SrP q Wt w ln u) (hN : noLs ln u li) (hp : ∀ b, b < 8 → btL li b → 0 < ln b) {cc : Nat → Rat} (h : ∀ a, a < 8 → btL li a → sm (fun b => if btL li b then cc b * lapR (pwR Wt w (u b)) (u a) (ln a) (u b) (ln b) else 0) 8 = 0) (n : Nat) : ∀ b0, b0 < 8 → btL li b0 → n + 1 ≤ ln b0 → clS ln u li cc b0 (n + 1) = 0 := by
  induction n using Nat.strongRecOn with
  | _ n ih =>
    intro b0 hb0 hbl0 hn
    have hW := natpos (show 1 ≤ Wt by have := W_pos hS; omega)
    have e0 : sm (fun b => if btL li b then cc b * lapR (pwR Wt w (u b)) (u b0) (n + 1) (u b) (ln b) else 0) 8 = 0 := by
      by_cases e : n + 1 < ln b0
      · obtain ⟨i, hi, h1, h2⟩ := ch_state hC hS hN hb0 hbl0 e
        refine Eq.trans (sm_congr (fun b _ => ?_)) (ker_state hC hS hN hp h hi)
        rw [h1, lapR_suf (y := u b0) (x := u (sl i)) (Nat.le_refl _) (fun j hj => by rw [Nat.sub_self, Nat.zero_add]; exact (h2 j hj).symm) (fun k h1 h2 _ => absurd h1 (by omega))]
      · have := h b0 hb0 hbl0
        rw [show ln b0 = n + 1 by omega] at this
        exact this
    have e1 : sm (fun b => if btL li b then cc b * lapR (pwR Wt w (u b)) (u b0) (n + 1) (u b) (ln b) else 0) 8 = sm (fun k => sm (fun b => if btL li b ∧ k + 1 ≤ n + 1 ∧ k + 1 ≤ ln b ∧ lapD (u b0) (n + 1) (u b) (k + 1) then cc b * pwR Wt w (u b) (k + 1) else 0) 8) 5 := by
      rw [sm_swap (n := 5)]
      refine sm_congr (fun b _ => ?_)
      by_cases e : btL li b
      · rw [if_pos e]
        unfold lapR
        rw [← sm_mul]
        refine sm_congr (fun k _ => ?_)
        by_cases c : k + 1 ≤ n + 1 ∧ k + 1 ≤ ln b ∧ lapD (u b0) (n + 1) (u b) (k + 1)
        · rw [if_pos c, if_pos ⟨e, c⟩]
        · rw [if_neg c, if_neg (fun c2 => c c2.2)]; grind
      · rw [if_neg e, sm_zero (fun k _ => if_neg (fun c => e c.1))]
    have hl := hS.2.2.2.2.2.1 b0
    have key : ∀ k b1, btL li b1 → b1 < 8 → k + 1 ≤ ln b1 → k + 1 ≤ n + 1 → lapD (u b0) (n + 1) (u b1) (k + 1) → sm (fun b => if btL li b ∧ k + 1 ≤ n + 1 ∧ k + 1 ≤ ln b ∧ lapD (u b0) (n + 1) (u b) (k + 1) then cc b * pwR Wt w (u b) (k + 1) else 0) 8 = pwR Wt w (u b1) (k + 1) * clS ln u li cc b1 (k + 1) := fun k b1 hb1 _ hk1 hkn hlap => by
      unfold clS
      rw [← sm_mul]
      refine sm_congr (fun b _ => ?_)
      by_cases c : btL li b ∧ k + 1 ≤ ln b ∧ (∀ j, j < k + 1 → u b j = u b1 j)
      · rw [if_pos c, if_pos ⟨c.1, hkn, c.2.1, fun j hj => by rw [hlap j hj, c.2.2 j hj]⟩, pwR_congr c.2.2, Rat.mul_comm]
      · rw [if_neg c, if_neg (fun c2 => c ⟨c2.1, c2.2.2.1, fun j hj => by rw [← c2.2.2.2 j hj, hlap j hj]⟩)]; grind
    rw [e1, sm_one (c := n) (by omega) (fun k hk hkn => ?_)] at e0
    · rw [key n b0 hbl0 hb0 hn (Nat.le_refl _) (fun j _ => by rw [Nat.sub_self, Nat.zero_add])] at e0
      have := pwR_pos (Wt := Wt) (w := w) (v := u b0) (k := n + 1) (by have := W_pos hS; omega) (fun j hj => ch_w1 hS (by omega))
      have h0 : pwR Wt w (u b0) (n + 1) ≠ 0 := fun e => by rw [e] at this; exact absurd this Rat.lt_irrefl
      grind
    · by_cases e : ∃ b1, b1 < 8 ∧ btL li b1 ∧ k + 1 ≤ n + 1 ∧ k + 1 ≤ ln b1 ∧ lapD (u b0) (n + 1) (u b1) (k + 1)
      · obtain ⟨b1, h1, h2, h3, h4, h5⟩ := e
        rw [key k b1 h2 h1 h4 h3 h5, ih k (by omega) b1 h1 h2 h4, Rat.mul_zero]
      · exact sm_zero (fun b hb => if_neg (fun c => e ⟨b, hb, c.1, c.2⟩))
theorem ch_ker (hC : ChP q ln u li ns sl sz gof) (hS : SrP q Wt w ln u) (hN : noLs ln u li) (hp : ∀ b, b < 8 → btL li b → 0 < ln b) {cc : Nat → Rat} (h : ∀ a, a < 8 → btL li a → sm (fun b => if btL li b then cc b * lapR (pwR Wt w (u b)) (u a) (ln a) (u b) (ln b) else 0) 8 = 0) {b : Nat} (hb : b < 8) (hbl : btL li b) : cc b = 0 := by
  have h1 := hp b hb hbl
  have h2 := ker_cl hC hS hN hp h (ln b - 1) b hb hbl (by omega)
  rw [show ln b - 1 + 1 = ln b by omega] at h2
  unfold clS at h2
  rw [sm_one (c := b) hb (fun j hj hjb => if_neg (fun c => ?_)), if_pos ⟨hbl, Nat.le_refl _, fun _ _ => rfl⟩] at h2
  · exact h2
  · exact hN b j hb hj (fun e => hjb e.symm) hbl c.1 (liesW_of (a := 0) (hS.2.2.2.2.2.1 _) (by omega) (fun i hi => by rw [Nat.zero_add]; exact c.2.2 i hi))
end CK
