/-! THE CHAIN'S MATRIX -/
theorem sm_swap {F : Nat → Nat → Rat} {m : Nat} : ∀ {n : Nat}, sm (fun x => sm (fun y => F x y) m) n = sm (fun y => sm (fun x => F x y) n) m
  | 0 => by
    show (0 : Rat) = _
    exact (sm_zero (fun _ _ => rfl)).symm
  | n + 1 => by
    show sm (fun x => sm (fun y => F x y) m) n + sm (fun y => F n y) m = _
    rw [sm_swap (n := n), ← sm_add]
    rfl
theorem sm_shift {f : Nat → Rat} : ∀ {n : Nat}, sm f (n + 1) = f 0 + sm (fun k => f (k + 1)) n
  | 0 => by show 0 + f 0 = f 0 + 0; grind
  | n + 1 => by
    show sm f (n + 1) + f (n + 1) = f 0 + (sm (fun k => f (k + 1)) n + f (n + 1))
    rw [sm_shift (n := n)]; grind
/-- one place of many -/
theorem sm_pick {f : Nat → Rat} {c n : Nat} (hc : c < n) (h : ∀ j, j < n → j ≠ c → f j = 0) : sm f n = f c := sm_one hc h
theorem wsum_sm {w : Nat → Nat} : ∀ {q : Nat}, ((wsum w q : Nat) : Rat) = sm (fun c => (w c : Rat)) q
  | 0 => rfl
  | q + 1 => by
    show ((wsum w q + w q : Nat) : Rat) = sm (fun c => (w c : Rat)) q + (w q : Rat)
    rw [Rat.natCast_add, wsum_sm]
/-- a sum over the letters: x where the letter leads to a state, else y -/
def ltS (w gof : Nat → Nat) (ns i : Nat) (x y : Nat → Rat) (q : Nat) : Rat := sm (fun c => (w c : Rat) * (if gof (4 * i + c) < ns then x (gof (4 * i + c)) else y (gof (4 * i + c) - 100))) q
theorem mtZ_sum {Wt : Nat} {w gof : Nat → Nat} {ns i : Nat} {x : Nat → Rat} (hi : i < ns) : ∀ (c : Nat), sm (fun j => ((mtZ Wt w gof i j c : Int) : Rat) * x j) ns = (Wt : Rat) * x i - ltS w gof ns i x (fun _ => 0) c
  | 0 => by
    rw [sm_one hi (fun j _ hj => by
      show (((if i = j then (Wt : Int) else 0) : Int) : Rat) * x j = 0
      rw [if_neg (fun e => hj e.symm)]
      show (0 : Rat) * x j = 0
      exact Rat.zero_mul _)]
    show (((if i = i then (Wt : Int) else 0) : Int) : Rat) * x i = _ - 0
    rw [if_pos rfl, Rat.intCast_natCast]; grind
  | c + 1 => by
    have e1 : sm (fun j => ((mtZ Wt w gof i j (c + 1) : Int) : Rat) * x j) ns = sm (fun j => ((mtZ Wt w gof i j c : Int) : Rat) * x j - 1 * (if gof (4 * i + c) = j then (w c : Rat) * x j else 0)) ns := sm_congr (fun j _ => by
      show ((mtZ Wt w gof i j c - (if gof (4 * i + c) = j then (w c : Int) else 0) : Int) : Rat) * x j = _
      rw [Rat.intCast_sub]
      by_cases e : gof (4 * i + c) = j
      · rw [if_pos e, if_pos e, Rat.intCast_natCast]; grind
      · rw [if_neg e, if_neg e, Rat.intCast_zero]; grind)
    rw [e1, sm_sub, mtZ_sum hi c]
    show _ - 1 * sm (fun j => if gof (4 * i + c) = j then (w c : Rat) * x j else 0) ns = (Wt : Rat) * x i - (ltS w gof ns i x (fun _ => 0) c + (w c : Rat) * (if gof (4 * i + c) < ns then x (gof (4 * i + c)) else 0))
    by_cases e : gof (4 * i + c) < ns
    · rw [if_pos e, sm_one (c := gof (4 * i + c)) e (fun j _ hj => if_neg (fun h => hj h.symm)), if_pos rfl]; grind
    · rw [if_neg e, sm_zero (fun j hj => if_neg (fun h => by omega))]; grind
/-- what the chain's row i makes of x -/
def chA (Wt : Nat) (w gof : Nat → Nat) (q ns : Nat) (x : Nat → Rat) (i : Nat) : Rat := (Wt : Rat) * x i - ltS w gof ns i x (fun _ => 0) q
theorem mkA_sum {Wt : Nat} {w gof : Nat → Nat} {q ns i : Nat} {r x : Nat → Rat} (hi : i < ns) : sm (fun j => mkA Wt w gof q ns r i j * x j) ns = chA Wt w gof q ns x i := by
  rw [sm_congr (g := fun j => ((mtZ Wt w gof i j q : Int) : Rat) * x j) (fun j hj => by rw [mkA_l hj])]
  exact mtZ_sum hi q
theorem ltS_lin {w gof : Nat → Nat} {ns i q : Nat} {x x1 x2 y y1 y2 : Nat → Rat} {a b : Rat} (hx : ∀ g, g < ns → x g = a * x1 g + b * x2 g) (hy : ∀ s, y s = a * y1 s + b * y2 s) : ltS w gof ns i x y q = a * ltS w gof ns i x1 y1 q + b * ltS w gof ns i x2 y2 q := by
  unfold ltS
  refine sm_lin (fun c _ => ?_)
  by_cases e : gof (4 * i + c) < ns
  · rw [if_pos e, if_pos e, if_pos e, hx _ e]; grind
  · rw [if_neg e, if_neg e, if_neg e, hy]; grind
theorem chA_lin {Wt : Nat} {w gof : Nat → Nat} {q ns i : Nat} {x x1 x2 : Nat → Rat} {a b : Rat} (hi : i < ns) (hx : ∀ g, g < ns → x g = a * x1 g + b * x2 g) : chA Wt w gof q ns x i = a * chA Wt w gof q ns x1 i + b * chA Wt w gof q ns x2 i := by
  unfold chA
  rw [ltS_lin (y := fun _ => 0) (y1 := fun _ => 0) (y2 := fun _ => 0) hx (fun _ => by grind), hx i hi]
  grind
theorem chA_congr {Wt : Nat} {w gof : Nat → Nat} {q ns i : Nat} {x y : Nat → Rat} (hi : i < ns) (h : ∀ g, g < ns → x g = y g) : chA Wt w gof q ns x i = chA Wt w gof q ns y i := by
  rw [chA_lin (x1 := y) (x2 := y) (a := 1) (b := 0) hi (fun g hg => by rw [h g hg]; grind)]; grind
theorem chA_sm {Wt : Nat} {w gof : Nat → Nat} {q ns i : Nat} {x : Nat → Nat → Rat} (hi : i < ns) : ∀ {m : Nat}, chA Wt w gof q ns (fun g => sm (fun a => x a g) m) i = sm (fun a => chA Wt w gof q ns (x a) i) m
  | 0 => by
    show (Wt : Rat) * 0 - sm _ q = 0
    rw [sm_zero (fun c _ => by
      show (w c : Rat) * (if gof (4 * i + c) < ns then (0 : Rat) else 0) = 0
      split <;> grind)]
    grind
  | m + 1 => by
    show _ = sm (fun a => chA Wt w gof q ns (x a) i) m + chA Wt w gof q ns (x m) i
    rw [← chA_sm hi (m := m), chA_lin (x := fun g => sm (fun a => x a g) (m + 1)) (x1 := fun g => sm (fun a => x a g) m) (x2 := x m) (a := 1) (b := 1) hi (fun g _ => by
      show sm (fun a => x a g) m + x m g = _
      grind)]
    grind
theorem mtZ_le {Wt : Nat} {w gof : Nat → Nat} {i j : Nat} : ∀ (c : Nat), mtZ Wt w gof i j c ≤ (if i = j then (Wt : Int) else 0)
  | 0 => Int.le_refl _
  | c + 1 => by
    have h := mtZ_le (Wt := Wt) (w := w) (gof := gof) (i := i) (j := j) c
    show mtZ Wt w gof i j c - (if gof (4 * i + c) = j then (w c : Int) else 0) ≤ _
    have : (0 : Int) ≤ (if gof (4 * i + c) = j then (w c : Int) else 0) := by split <;> omega
    omega
theorem ltS_le {w gof : Nat → Nat} {ns i q : Nat} {x y : Nat → Rat} {B : Rat} (hx : ∀ g, g < ns → x g ≤ B) (hy : ∀ s, y s ≤ B) : ltS w gof ns i x y q ≤ B * sm (fun c => (w c : Rat)) q := by
  rw [← sm_mul]
  unfold ltS
  refine sm_le (fun c _ => ?_)
  have hw : (0 : Rat) ≤ (w c : Rat) := Rat.natCast_nonneg
  rw [Rat.mul_comm B]
  refine Rat.mul_le_mul_of_nonneg_left ?_ hw
  by_cases e : gof (4 * i + c) < ns
  · rw [if_pos e]; exact hx _ e
  · rw [if_neg e]; exact hy _
/-- .. and one letter's share is known better -/
theorem ltS_le1 {w gof : Nat → Nat} {ns i q c0 : Nat} {x y : Nat → Rat} {B B0 : Rat} (hc : c0 < q) (hx : ∀ g, g < ns → x g ≤ B) (hy : ∀ s, y s ≤ B) (h0 : (if gof (4 * i + c0) < ns then x (gof (4 * i + c0)) else y (gof (4 * i + c0) - 100)) ≤ B0) : ltS w gof ns i x y q ≤ B * sm (fun c => (w c : Rat)) q - (B - B0) * (w c0 : Rat) := by
  have h2 : (B - B0) * (w c0 : Rat) = sm (fun c => if c = c0 then (B - B0) * (w c0 : Rat) else 0) q := by
    rw [sm_one (c := c0) hc (fun j _ hj => if_neg hj), if_pos rfl]
  rw [h2, ← sm_mul]
  have h3 : sm (fun j => B * (w j : Rat)) q - sm (fun c => if c = c0 then (B - B0) * (w c0 : Rat) else 0) q = sm (fun j => B * (w j : Rat) - 1 * (if j = c0 then (B - B0) * (w c0 : Rat) else 0)) q := by rw [sm_sub]; grind
  rw [h3]
  unfold ltS
  refine sm_le (fun c _ => ?_)
  have hw : (0 : Rat) ≤ (w c : Rat) := Rat.natCast_nonneg
  by_cases e0 : c = c0
  · subst e0
    rw [if_pos rfl]
    have := Rat.mul_le_mul_of_nonneg_left h0 hw
    grind
  · rw [if_neg e0]
    have : (w c : Rat) * (if gof (4 * i + c) < ns then x (gof (4 * i + c)) else y (gof (4 * i + c) - 100)) ≤ (w c : Rat) * B := by
      refine Rat.mul_le_mul_of_nonneg_left ?_ hw
      by_cases e : gof (4 * i + c) < ns
      · rw [if_pos e]; exact hx _ e
      · rw [if_neg e]; exact hy _
    grind
/-! THE CHAIN of a LIST -/
def ChP (q : Nat) (ln : Nat → Nat) (u : Nat → Nat → Nat) (li ns : Nat) (sl sz gof : Nat → Nat) : Prop := 1 ≤ ns ∧ ns ≤ 100 ∧ sz 0 = 0 ∧ (∀ k, k < ns → sl k < 8 ∧ btL li (sl k) ∧ sz k < ln (sl k)) ∧ (∀ k c, k < ns → c < q → trS u ln li ns sl sz (sz k + 1) (rwW u sl sz k c) (gof (4 * k + c)))
theorem ChI.toP {q : Nat} {ln : Nat → Nat} {u : Nat → Nat → Nat} {li ns : Nat} {sl sz gof : Nat → Nat} (h : ChI q ln u li ns sl sz gof) : ChP q ln u li ns sl sz gof := ⟨h.1, by have := h.2.1; omega, h.2.2.1, h.2.2.2.1, h.2.2.2.2.1⟩
/-- what a SOURCE and its WORDS are -/
def SrP (q Wt : Nat) (w ln : Nat → Nat) (u : Nat → Nat → Nat) : Prop := 2 ≤ q ∧ q ≤ 4 ∧ (∀ j, j < q → 1 ≤ w j) ∧ wsum w q = Wt ∧ Wt ≤ 4 ∧ (∀ k, ln k ≤ 5) ∧ (∀ k j, j < ln k → u k j < q)
theorem wsum_ge {w : Nat → Nat} : ∀ {q : Nat}, (∀ j, j < q → 1 ≤ w j) → q ≤ wsum w q
  | 0, _ => Nat.le_refl 0
  | q + 1, h => by
    have h1 := wsum_ge (q := q) (fun j hj => h j (by omega))
    have h2 := h q (by omega)
    show q + 1 ≤ wsum w q + w q
    omega
section CH
variable {q Wt : Nat} {w ln : Nat → Nat} {u : Nat → Nat → Nat} {li ns : Nat} {sl sz gof : Nat → Nat}
theorem sp_next (hC : ChP q ln u li ns sl sz gof) {i b : Nat} (hi : i < ns) (hb : b < 8) (hbl : btL li b) (hs : sz i < ln b) (he : ∀ j, j < sz i → u (sl i) j = u b j) (hq : u b (sz i) < q) : (gof (4 * i + u b (sz i)) < ns ∧ sz (gof (4 * i + u b (sz i))) = sz i + 1 ∧ ∀ j, j < sz i + 1 → u (sl (gof (4 * i + u b (sz i)))) j = u b j) ∨ (∃ s, s < 8 ∧ btL li s ∧ gof (4 * i + u b (sz i)) = 100 + s ∧ ln s = sz i + 1 ∧ ∀ j, j < ln s → u s j = u b j) := by
  obtain ⟨m, hm, hmax, hg⟩ := hC.2.2.2.2 i (u b (sz i)) hi hq
  have hrw : ∀ j, j < sz i + 1 → rwW u sl sz i (u b (sz i)) j = u b j := fun j hj => by
    unfold rwW
    by_cases e : j < sz i
    · rw [if_pos e]; exact he j e
    · rw [if_neg e, show j = sz i by omega]
  have hmR : m = sz i + 1 := by
    refine Classical.byContradiction (fun hne => ?_)
    exact hmax (sz i + 1) b (by omega) (Nat.le_refl _) hb hbl (by omega) (fun j hj => by rw [Nat.sub_self, Nat.zero_add]; exact hrw j hj)
  subst hmR
  rcases hg with ⟨h1, h2, h3⟩ | ⟨s, h1, h2, h3, h4, h5⟩
  · refine Or.inl ⟨h1, h2, fun j hj => ?_⟩
    rw [h3 j hj, Nat.sub_self, Nat.zero_add]; exact hrw j hj
  · refine Or.inr ⟨s, h1, h2, h3, h4.symm, fun j hj => ?_⟩
    have := h5 j (by omega)
    rw [Nat.sub_self, Nat.zero_add] at this
    rw [← this]; exact hrw j (by omega)
theorem p4b (m : Nat) (h : m ≤ 5) : (1 : Rat) ≤ ((4 ^ m : Nat) : Rat) ∧ ((4 ^ m : Nat) : Rat) ≤ 1024 := by
  constructor
  · have : ((1 : Nat) : Rat) ≤ ((4 ^ m : Nat) : Rat) := Rat.natCast_le_natCast.mpr (Nat.one_le_pow _ _ (by decide))
    exact this
  · have : ((4 ^ m : Nat) : Rat) ≤ ((1024 : Nat) : Rat) := Rat.natCast_le_natCast.mpr (Nat.le_trans (Nat.pow_le_pow_right (by decide) h) (by decide))
    exact this
theorem p4s (m : Nat) : ((4 ^ (m + 1) : Nat) : Rat) = 4 * ((4 ^ m : Nat) : Rat) := by rw [Nat.pow_succ, Nat.mul_comm, Rat.natCast_mul]; rfl
/-- a wait that is longer than all: it shows that the chain ends -/
def chV (sz : Nat → Nat) : Nat → Rat := fun i => 1024 - ((4 ^ sz i : Nat) : Rat)
theorem chV_b (hC : ChP q ln u li ns sl sz gof) (hS : SrP q Wt w ln u) {i : Nat} (hi : i < ns) : 0 < chV sz i ∧ chV sz i ≤ 1023 := by
  have h1 := (hC.2.2.2.1 i hi).2.2
  have h2 := hS.2.2.2.2.2.1 (sl i)
  obtain ⟨a1, a2⟩ := p4b (sz i + 1) (by omega)
  obtain ⟨b1, b2⟩ := p4b (sz i) (by omega)
  rw [p4s] at a2
  unfold chV
  constructor <;> grind
theorem chV_A (hC : ChP q ln u li ns sl sz gof) (hS : SrP q Wt w ln u) {i : Nat} (hi : i < ns) : 3 ≤ chA Wt w gof q ns (chV sz) i := by
  obtain ⟨hq2, hq4, hw1, hWs, hWt, hln, hul⟩ := hS
  obtain ⟨c1, c2, c3⟩ := hC.2.2.2.1 i hi
  have hl := hln (sl i)
  have hc := hul (sl i) (sz i) c3
  have hn := sp_next hC hi c1 c2 c3 (fun j _ => rfl) hc
  have h0 : (if gof (4 * i + u (sl i) (sz i)) < ns then chV sz (gof (4 * i + u (sl i) (sz i))) else (fun _ => (0 : Rat)) (gof (4 * i + u (sl i) (sz i)) - 100)) ≤ 1024 - ((4 ^ (sz i + 1) : Nat) : Rat) := by
    rcases hn with ⟨h1, h2, -⟩ | ⟨s, h1, h2, h3, h4, h5⟩
    · rw [if_pos h1]; unfold chV; rw [h2]; exact Rat.le_refl
    · rw [if_neg (by have := hC.2.1; omega)]
      obtain ⟨a1, a2⟩ := p4b (sz i + 1) (by omega)
      show (0 : Rat) ≤ _
      grind
  have h1 := ltS_le1 (w := w) (x := chV sz) (y := fun _ => 0) (B := 1023) hc (fun g hg => (chV_b hC ⟨hq2, hq4, hw1, hWs, hWt, hln, hul⟩ hg).2) (fun _ => by decide) h0
  rw [← wsum_sm, hWs, p4s] at h1
  have hw : (1 : Rat) ≤ (w (u (sl i) (sz i)) : Rat) := by
    have : ((1 : Nat) : Rat) ≤ (w (u (sl i) (sz i)) : Rat) := Rat.natCast_le_natCast.mpr (hw1 _ hc)
    exact this
  have hW4 : (Wt : Rat) ≤ 4 := by
    have : (Wt : Rat) ≤ ((4 : Nat) : Rat) := Rat.natCast_le_natCast.mpr hWt
    exact this
  obtain ⟨b1, b2⟩ := p4b (sz i) (by omega)
  unfold chA
  have p := Rat.mul_nonneg (show 0 ≤ 4 * (w (u (sl i) (sz i)) : Rat) - (Wt : Rat) by grind) (show 0 ≤ ((4 ^ sz i : Nat) : Rat) - 1 by grind)
  show 3 ≤ (Wt : Rat) * (1024 - ((4 ^ sz i : Nat) : Rat)) - _
  grind
theorem W_pos (hS : SrP q Wt w ln u) : 2 ≤ Wt := by
  have := wsum_ge hS.2.2.1
  have := hS.2.2.2.1
  have := hS.1
  omega
theorem ltS_nonneg {i : Nat} {x y : Nat → Rat} (hx : ∀ g, g < ns → 0 ≤ x g) (hy : ∀ s, 0 ≤ y s) : 0 ≤ ltS w gof ns i x y q := by
  refine sm_nonneg (fun c _ => Rat.mul_nonneg Rat.natCast_nonneg ?_)
  by_cases e : gof (4 * i + c) < ns
  · rw [if_pos e]; exact hx _ e
  · rw [if_neg e]; exact hy _
theorem ch_mmx (hC : ChP q ln u li ns sl sz gof) (hS : SrP q Wt w ln u) (r : Nat → Rat) : mmx (mkA Wt w gof q ns r) ns (Wt : Rat) (chV sz) := by
  refine ⟨fun i j hi hj hij => ?_, fun i hi => ?_, fun i hi => ?_, fun i hi => (chV_b hC hS hi).1, fun i hi => ?_⟩
  · rw [mkA_l hj]
    have h := mtZ_le (Wt := Wt) (w := w) (gof := gof) (i := i) (j := j) q
    rw [if_neg hij] at h
    exact Rat.intCast_le_intCast.mpr h
  · rw [mkA_l hi]
    have h := mtZ_le (Wt := Wt) (w := w) (gof := gof) (i := i) (j := i) q
    rw [if_pos rfl] at h
    rw [← Rat.intCast_natCast]
    exact Rat.intCast_le_intCast.mpr h
  · rw [mkA_sum (x := fun _ => 1) hi]
    unfold chA
    have h := ltS_le (w := w) (gof := gof) (ns := ns) (i := i) (q := q) (x := fun _ => 1) (y := fun _ => 0) (B := 1) (fun _ _ => Rat.le_refl) (fun _ => by decide)
    rw [← wsum_sm, hS.2.2.2.1] at h
    grind
  · rw [mkA_sum hi]
    have := chV_A hC hS hi
    grind
theorem ch_int {i j : Nat} {r : Nat → Rat} (hj : j < ns) : isI (mkA Wt w gof q ns r i j) := by rw [mkA_l hj]; exact ⟨_, rfl⟩
/-- one solution -/
theorem ch_sol (hC : ChP q ln u li ns sl sz gof) (hS : SrP q Wt w ln u) {r x : Nat → Rat} (hx : ∀ i, i < ns → chA Wt w gof q ns x i = r i) {i : Nat} (hi : i < ns) : gj (mkA Wt w gof q ns r) ns i ns = x i :=
  gj_uniq (ch_mmx hC hS r) (fun j hj => by rw [mkA_sum hj, mkA_r]; exact hx j hj) hi
theorem ch_eq (hC : ChP q ln u li ns sl sz gof) (hS : SrP q Wt w ln u) {x y : Nat → Rat} (h : ∀ i, i < ns → chA Wt w gof q ns x i = chA Wt w gof q ns y i) {i : Nat} (hi : i < ns) : x i = y i := by
  rw [← ch_sol hC hS (r := fun i => chA Wt w gof q ns y i) (x := x) h hi, ← ch_sol hC hS (r := fun i => chA Wt w gof q ns y i) (x := y) (fun _ _ => rfl) hi]
/-- the solution solves -/
theorem ch_is (hC : ChP q ln u li ns sl sz gof) (hS : SrP q Wt w ln u) {r : Nat → Rat} {i : Nat} (hi : i < ns) : chA Wt w gof q ns (fun i => gj (mkA Wt w gof q ns r) ns i ns) i = r i := by
  have h := (gj_eqs (A := mkA Wt w gof q ns r) (fun k hk => mm_p0 (ch_mmx hC hS r) hk) (Nat.le_refl ns)).1 i ns hi (Nat.le_refl _) (Nat.le_refl _)
  rw [mkA_r] at h
  rw [← mkA_sum (r := r) hi, ← h]
  exact sm_congr (fun j _ => Rat.mul_comm _ _)
theorem ch_nonneg (hC : ChP q ln u li ns sl sz gof) (hS : SrP q Wt w ln u) {r : Nat → Rat} (hr : ∀ i, i < ns → 0 ≤ r i) {i : Nat} (hi : i < ns) : 0 ≤ gj (mkA Wt w gof q ns r) ns i ns :=
  go_nonneg (ch_mmx hC hS r) (F := fun k i => gj (mkA Wt w gof q ns r) k i ns) (fun k i hk _ hik => gj_ik (by omega) hik) (fun k hk => gj_kk (by omega)) (fun i hi => by show 0 ≤ mkA Wt w gof q ns r i ns; rw [mkA_r]; exact hr i hi) (Nat.le_refl ns) i hi
theorem ch_pos (hC : ChP q ln u li ns sl sz gof) (hS : SrP q Wt w ln u) {r : Nat → Rat} (hr : ∀ i, i < ns → 0 < r i) {i : Nat} (hi : i < ns) : 0 < gj (mkA Wt w gof q ns r) ns i ns :=
  go_pos (ch_mmx hC hS r) (F := fun k i => gj (mkA Wt w gof q ns r) k i ns) (fun k i hk _ hik => gj_ik (by omega) hik) (fun k hk => gj_kk (by omega)) (fun i hi => by show 0 < mkA Wt w gof q ns r i ns; rw [mkA_r]; exact hr i hi) (Nat.le_refl ns) i hi
/-- .. and fits: what is asked is at most K times what chV shows -/
theorem ch_fit (hC : ChP q ln u li ns sl sz gof) (hS : SrP q Wt w ln u) {r z : Nat → Rat} {P B : Nat} (hP0 : 0 < P) (hP : ∀ i, i < ns → isI ((P : Rat) * r i)) (hr : ∀ i, i < ns → 0 ≤ r i) (hz : ∀ i, i < ns → 0 ≤ z i) (hAz : ∀ i, i < ns → r i ≤ chA Wt w gof q ns z i) (hzB : ∀ i, i < ns → (Wt : Rat) * z i ≤ (B : Rat)) (hB : 16 ≤ B) (hb : P * 4 ^ (2 * ns - 1) * B < 2 ^ 63) : gjFit (mkA Wt w gof q ns r) ns := by
  have hW2 := W_pos hS
  refine gjFit_of (z := z) (P := P) (B := B) (ch_mmx hC hS r) ?_ ?_ (fun i j _ hj => ch_int hj) hP0 (fun i hi => by rw [mkA_r]; exact hP i hi) (fun i hi => by rw [mkA_r]; exact hr i hi) hz (fun i hi => by rw [mkA_r, mkA_sum hi]; exact hAz i hi) hzB hB hb
  · have : ((1 : Nat) : Rat) ≤ (Wt : Rat) := Rat.natCast_le_natCast.mpr (by omega)
    exact this
  · have : (Wt : Rat) ≤ ((4 : Nat) : Rat) := Rat.natCast_le_natCast.mpr hS.2.2.2.2.1
    exact this
end CH
