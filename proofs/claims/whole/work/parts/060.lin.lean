/-! GAUSS AND JORDAN ON A CHAIN'S MATRIX: what stays from step to step -/
theorem sm_pos0 {f : Nat → Rat} {n : Nat} (h : ∀ j, j < n → f j ≤ 0) : sm f n ≤ 0 := by
  have h1 := sm_le (f := f) (g := fun _ => 0) h
  rw [sm_zero (f := fun _ => (0 : Rat)) (fun _ _ => rfl)] at h1
  exact h1
theorem sm_le1 {f : Nat → Rat} {c n : Nat} (hc : c < n) (h : ∀ j, j < n → j ≠ c → f j ≤ 0) : sm f n ≤ f c := by
  rw [sm_out hc]
  have := sm_pos0 (f := fun j => if j = c then 0 else f j) (n := n) (fun j hj => by
    by_cases e : j = c
    · rw [if_pos e]; exact Rat.le_refl
    · rw [if_neg e]; exact h j hj e)
  grind
theorem sm_le2 {f : Nat → Rat} {c d n : Nat} (hc : c < n) (hd : d < n) (hcd : d ≠ c) (h : ∀ j, j < n → j ≠ c → j ≠ d → f j ≤ 0) : sm f n ≤ f c + f d := by
  rw [sm_out hc]
  have := sm_le1 (f := fun j => if j = c then 0 else f j) (c := d) hd (fun j hj e => by
    by_cases e2 : j = c
    · rw [if_pos e2]; exact Rat.le_refl
    · rw [if_neg e2]; exact h j hj e2 e)
  rw [if_neg hcd] at this
  grind
theorem mk_head {a : Nat → Nat → Rat} {x : Nat → Rat} {k n i : Nat} (hk : k < n) : mk_ a x k n i = a i k * x k + sm (fun j => if j < k + 1 then 0 else a i j * x j) n := by
  unfold mk_
  rw [sm_out hk, if_neg (Nat.lt_irrefl k)]
  congr 1
  refine sm_congr (fun j _ => ?_)
  by_cases h1 : j = k
  · rw [if_pos h1, if_pos (by omega)]
  · rw [if_neg h1]
    by_cases h2 : j < k
    · rw [if_pos h2, if_pos (by omega)]
    · rw [if_neg h2, if_neg (by omega)]
/-- a row's sum at step k, with the places that are solved -/
def rowF (A : Nat → Nat → Rat) (x : Nat → Rat) (n k i : Nat) : Rat := (if i < k then x i else 0) + mk_ (gj A k) x k n i
theorem rowF_ik {A : Nat → Nat → Rat} {x : Nat → Rat} {n k i : Nat} (hk : k < n) (hp : gj A k k k ≠ 0) (hi : i ≠ k) : rowF A x n (k + 1) i = rowF A x n k i - gj A k i k * (rowF A x n k k / gj A k k k) := by
  unfold rowF
  have h1 := mk_step (a := gj A k) (x := x) hk hp hi
  rw [show mk_ (gj A (k + 1)) x (k + 1) n i = mk_ (gstep (gj A k) k) x (k + 1) n i from rfl, h1, if_neg (Nat.lt_irrefl k)]
  by_cases h2 : i < k
  · rw [if_pos h2, if_pos (by omega)]; grind
  · rw [if_neg h2, if_neg (by omega)]; grind
theorem rowF_kk {A : Nat → Nat → Rat} {x : Nat → Rat} {n k : Nat} (hk : k < n) (hp : gj A k k k ≠ 0) : rowF A x n (k + 1) k = rowF A x n k k / gj A k k k := by
  unfold rowF
  have h1 := mk_stepk (a := gj A k) (x := x) hk hp
  rw [show mk_ (gj A (k + 1)) x (k + 1) n k = mk_ (gstep (gj A k) k) x (k + 1) n k from rfl, if_pos (by omega), h1, if_neg (Nat.lt_irrefl k)]
  grind
theorem rowF_0 {A : Nat → Nat → Rat} {x : Nat → Rat} {n i : Nat} : rowF A x n 0 i = sm (fun j => A i j * x j) n := by
  unfold rowF mk_
  rw [if_neg (Nat.not_lt_zero i), Rat.zero_add]
  exact sm_congr (fun j _ => if_neg (Nat.not_lt_zero j))
theorem rowF_n {A : Nat → Nat → Rat} {x : Nat → Rat} {n i : Nat} (h : i < n) : rowF A x n n i = x i := by
  unfold rowF mk_
  rw [if_pos h, sm_zero (fun j hj => if_pos hj), Rat.add_zero]
theorem gj_ik {A : Nat → Nat → Rat} {k i j : Nat} (hj : k ≤ j) (hi : i ≠ k) : gj A (k + 1) i j = gj A k i j - gj A k i k * (gj A k k j / gj A k k k) := gs_ik hj hi
theorem gj_kk {A : Nat → Nat → Rat} {k j : Nat} (hj : k ≤ j) : gj A (k + 1) k j = gj A k k j / gj A k k k := gs_kk hj
/-- a matrix such as a chain's: with v above 0 whose sums are above 0 -/
def mmx (A : Nat → Nat → Rat) (n : Nat) (W : Rat) (v : Nat → Rat) : Prop := (∀ i j, i < n → j < n → i ≠ j → A i j ≤ 0) ∧ (∀ i, i < n → A i i ≤ W) ∧ (∀ i, i < n → 0 ≤ sm (fun j => A i j * 1) n) ∧ (∀ i, i < n → 0 < v i) ∧ (∀ i, i < n → 0 < sm (fun j => A i j * v j) n)
def mmI (A : Nat → Nat → Rat) (n : Nat) (W : Rat) (v : Nat → Rat) (k : Nat) : Prop := (∀ i j, i < n → k ≤ j → j < n → i ≠ j → gj A k i j ≤ 0) ∧ (∀ i, k ≤ i → i < n → gj A k i i ≤ W) ∧ (∀ i, i < n → 0 ≤ rowF A (fun _ => 1) n k i) ∧ (∀ i, i < n → 0 < rowF A v n k i)
theorem div_pos' {a b : Rat} (ha : 0 < a) (hb : 0 < b) : 0 < a / b := by
  rw [Rat.div_def]; exact Rat.mul_pos ha (Rat.inv_pos.mpr hb)
theorem div_nonneg' {a b : Rat} (ha : 0 ≤ a) (hb : 0 < b) : 0 ≤ a / b := by
  rw [Rat.div_def]; exact Rat.mul_nonneg ha (Rat.le_of_lt (Rat.inv_pos.mpr hb))
theorem neg_mul_nonneg {a b : Rat} (ha : a ≤ 0) (hb : 0 ≤ b) : 0 ≤ -(a * b) := by
  have := Rat.mul_nonneg (show 0 ≤ -a by grind) hb
  rw [Rat.neg_mul] at this; exact this
theorem mm_piv {A : Nat → Nat → Rat} {n k : Nat} {W : Rat} {v : Nat → Rat} (hv : ∀ i, i < n → 0 < v i) (h : mmI A n W v k) (hk : k < n) : 0 < gj A k k k := by
  have h1 := h.2.2.2 k hk
  unfold rowF at h1
  rw [if_neg (Nat.lt_irrefl k), Rat.zero_add, mk_head hk] at h1
  have h2 := sm_pos0 (f := fun j => if j < k + 1 then 0 else gj A k k j * v j) (n := n) (fun j hj => by
    by_cases e : j < k + 1
    · rw [if_pos e]; exact Rat.le_refl
    · rw [if_neg e]
      have h3 := h.1 k j hk (by omega) hj (by omega)
      have h4 := neg_mul_nonneg h3 (Rat.le_of_lt (hv j hj))
      grind)
  have h5 := hv k hk
  refine Classical.byContradiction (fun h6 => ?_)
  have h7 := neg_mul_nonneg (show gj A k k k ≤ 0 by grind) (Rat.le_of_lt h5)
  grind
theorem mm_step {A : Nat → Nat → Rat} {n k : Nat} {W : Rat} {v : Nat → Rat} (hv : ∀ i, i < n → 0 < v i) (h : mmI A n W v k) (hk : k < n) : mmI A n W v (k + 1) := by
  have hp := mm_piv hv h hk
  have hp0 : gj A k k k ≠ 0 := fun e => by rw [e] at hp; exact absurd hp Rat.lt_irrefl
  obtain ⟨h1, h2, h3, h4⟩ := h
  have hprod : ∀ i j, i < n → i ≠ k → k + 1 ≤ j → j < n → 0 ≤ gj A k i k * (gj A k k j / gj A k k k) := fun i j hi hik hj hjn => by
    have a1 := h1 i k hi (Nat.le_refl k) hk hik
    have a2 := h1 k j hk (by omega) hjn (by omega)
    have a3 := div_nonneg' (show 0 ≤ -gj A k k j by grind) hp
    have a4 := neg_mul_nonneg a1 a3
    have a5 : -(gj A k i k * (-gj A k k j / gj A k k k)) = gj A k i k * (gj A k k j / gj A k k k) := by grind
    rw [a5] at a4; exact a4
  refine ⟨fun i j hi hj hjn hij => ?_, fun i hi hin => ?_, fun i hi => ?_, fun i hi => ?_⟩
  · by_cases e : i = k
    · subst e
      rw [gj_kk (by omega)]
      have a2 := h1 i j hi (by omega) hjn (by omega)
      have a3 := div_nonneg' (show 0 ≤ -gj A i i j by grind) hp
      have a4 : -gj A i i j / gj A i i i = -(gj A i i j / gj A i i i) := by grind
      grind
    · rw [gj_ik (by omega) e]
      have a1 := h1 i j hi (by omega) hjn hij
      have a2 := hprod i j hi e hj hjn
      grind
  · rw [gj_ik (by omega) (by omega)]
    have a1 := h2 i (by omega) hin
    have a2 := hprod i i hin (by omega) hi hin
    grind
  · by_cases e : i = k
    · subst e; rw [rowF_kk hk hp0]; exact div_nonneg' (h3 i hi) hp
    · rw [rowF_ik hk hp0 e]
      have a1 := neg_mul_nonneg (h1 i k hi (Nat.le_refl k) hk e) (div_nonneg' (h3 k hk) hp)
      have a2 := h3 i hi
      grind
  · by_cases e : i = k
    · subst e; rw [rowF_kk hk hp0]; exact div_pos' (h4 i hi) hp
    · rw [rowF_ik hk hp0 e]
      have a1 := neg_mul_nonneg (h1 i k hi (Nat.le_refl k) hk e) (div_nonneg' (Rat.le_of_lt (h4 k hk)) hp)
      have a2 := h4 i hi
      grind
theorem mm_all {A : Nat → Nat → Rat} {n : Nat} {W : Rat} {v : Nat → Rat} (h : mmx A n W v) : ∀ {k : Nat}, k ≤ n → mmI A n W v k
  | 0, _ => ⟨fun i j hi _ hj hij => h.1 i j hi hj hij, fun i _ hi => h.2.1 i hi, fun i hi => by rw [rowF_0]; exact h.2.2.1 i hi, fun i hi => by rw [rowF_0]; exact h.2.2.2.2 i hi⟩
  | k + 1, hk => mm_step h.2.2.2.1 (mm_all h (k := k) (by omega)) hk
theorem mm_p {A : Nat → Nat → Rat} {n k : Nat} {W : Rat} {v : Nat → Rat} (h : mmx A n W v) (hk : k < n) : 0 < gj A k k k := mm_piv h.2.2.2.1 (mm_all h (by omega)) hk
theorem mm_p0 {A : Nat → Nat → Rat} {n k : Nat} {W : Rat} {v : Nat → Rat} (h : mmx A n W v) (hk : k < n) : gj A k k k ≠ 0 := fun e => by have := mm_p h hk; rw [e] at this; exact absurd this Rat.lt_irrefl
/-- what goes through the steps as a column does, and begins at 0 or above, stays there -/
theorem go_nonneg {A : Nat → Nat → Rat} {n : Nat} {W : Rat} {v : Nat → Rat} (h : mmx A n W v) {F : Nat → Nat → Rat} (h1 : ∀ k i, k < n → i < n → i ≠ k → F (k + 1) i = F k i - gj A k i k * (F k k / gj A k k k)) (h2 : ∀ k, k < n → F (k + 1) k = F k k / gj A k k k) (h0 : ∀ i, i < n → 0 ≤ F 0 i) : ∀ {k : Nat}, k ≤ n → ∀ i, i < n → 0 ≤ F k i
  | 0, _, i, hi => h0 i hi
  | k + 1, hk, i, hi => by
    have hI := go_nonneg h h1 h2 h0 (k := k) (by omega)
    have hp := mm_p h (k := k) hk
    by_cases e : i = k
    · subst e; rw [h2 i hk]; exact div_nonneg' (hI i hi) hp
    · rw [h1 k i hk hi e]
      have a1 := neg_mul_nonneg ((mm_all h (k := k) (by omega)).1 i k hi (Nat.le_refl k) hk e) (div_nonneg' (hI k hk) hp)
      have a2 := hI i hi
      grind
theorem go_pos {A : Nat → Nat → Rat} {n : Nat} {W : Rat} {v : Nat → Rat} (h : mmx A n W v) {F : Nat → Nat → Rat} (h1 : ∀ k i, k < n → i < n → i ≠ k → F (k + 1) i = F k i - gj A k i k * (F k k / gj A k k k)) (h2 : ∀ k, k < n → F (k + 1) k = F k k / gj A k k k) (h0 : ∀ i, i < n → 0 < F 0 i) : ∀ {k : Nat}, k ≤ n → ∀ i, i < n → 0 < F k i
  | 0, _, i, hi => h0 i hi
  | k + 1, hk, i, hi => by
    have hI := go_pos h h1 h2 h0 (k := k) (by omega)
    have hp := mm_p h (k := k) hk
    by_cases e : i = k
    · subst e; rw [h2 i hk]; exact div_pos' (hI i hi) hp
    · rw [h1 k i hk hi e]
      have a1 := neg_mul_nonneg ((mm_all h (k := k) (by omega)).1 i k hi (Nat.le_refl k) hk e) (div_nonneg' (Rat.le_of_lt (hI k hk)) hp)
      have a2 := hI i hi
      grind
/-- the solution is the only one -/
theorem gj_uniq {A : Nat → Nat → Rat} {n : Nat} {W : Rat} {v : Nat → Rat} (h : mmx A n W v) {x : Nat → Rat} (hx : ∀ i, i < n → sm (fun j => A i j * x j) n = A i n) {i : Nat} (hi : i < n) : gj A n i n = x i := by
  have key : ∀ k, k ≤ n → ∀ i, i < n → rowF A x n k i - gj A k i n = 0 := by
    intro k
    induction k with
    | zero => intro _ i hi; rw [rowF_0, hx i hi]; show A i n - A i n = 0; grind
    | succ k ih =>
      intro hk i hi
      have hI := ih (by omega)
      have hp0 := mm_p0 h (k := k) hk
      have e0 := hI k hk
      by_cases e : i = k
      · subst e
        rw [rowF_kk hk hp0, gj_kk (by omega)]
        have : rowF A x n i i = gj A i i n := by grind
        rw [this]; grind
      · rw [rowF_ik hk hp0 e, gj_ik (by omega) e]
        have : rowF A x n k k = gj A k k n := by grind
        rw [this]
        have := hI i hi
        grind
  have := key n (Nat.le_refl n) i hi
  rw [rowF_n hi] at this
  grind
/-- bounds -/
theorem mm_off {A : Nat → Nat → Rat} {n k i j : Nat} {W : Rat} {v : Nat → Rat} (h : mmx A n W v) (hW : 1 ≤ W) (hk : k ≤ n) (hi : i < n) (hj : k ≤ j) (hjn : j < n) : -W ≤ gj A k i j ∧ gj A k i j ≤ W := by
  obtain ⟨h1, h2, h3, -⟩ := mm_all h hk
  have h4 := h3 i hi
  unfold rowF mk_ at h4
  by_cases hik : i < k
  · rw [if_pos hik] at h4
    have h5 := sm_le1 (f := fun j => if j < k then 0 else gj A k i j * 1) (c := j) hjn (fun x hx _ => by
      by_cases e : x < k
      · rw [if_pos e]; exact Rat.le_refl
      · rw [if_neg e, Rat.mul_one]; exact h1 i x hi (by omega) hx (by omega))
    rw [if_neg (by omega)] at h5
    have h6 := h1 i j hi hj hjn (by omega)
    constructor <;> grind
  · rw [if_neg hik] at h4
    by_cases e : i = j
    · subst e
      have h5 := sm_le1 (f := fun j => if j < k then 0 else gj A k i j * 1) (c := i) hjn (fun x hx hxi => by
        by_cases e : x < k
        · rw [if_pos e]; exact Rat.le_refl
        · rw [if_neg e, Rat.mul_one]; exact h1 i x hi (by omega) hx (by omega))
      rw [if_neg (by omega)] at h5
      have h6 := h2 i hj hi
      constructor <;> grind
    · have h5 := sm_le2 (f := fun j => if j < k then 0 else gj A k i j * 1) (c := i) (d := j) hi hjn (fun e2 => e e2.symm) (fun x hx hxi hxj => by
        by_cases e : x < k
        · rw [if_pos e]; exact Rat.le_refl
        · rw [if_neg e, Rat.mul_one]; exact h1 i x hi (by omega) hx (by omega))
      rw [if_neg (by omega), if_neg (by omega)] at h5
      have h6 := h2 i (by omega) hi
      have h7 := h1 i j hi hj hjn e
      constructor <;> grind
theorem mm_rhs {A : Nat → Nat → Rat} {n k i : Nat} {W : Rat} {v z : Nat → Rat} (h : mmx A n W v) (hW : 1 ≤ W) (hr : ∀ i, i < n → 0 ≤ A i n) (hz : ∀ i, i < n → 0 ≤ z i) (hA : ∀ i, i < n → A i n ≤ sm (fun j => A i j * z j) n) (hk : k ≤ n) (hi : i < n) : 0 ≤ gj A k i n ∧ gj A k i n ≤ W * z i := by
  have p1 := go_nonneg h (F := fun k i => gj A k i n) (fun k i hk _ hik => gj_ik (by omega) hik) (fun k hk => gj_kk (by omega)) hr hk i hi
  have p2 := go_nonneg h (F := fun k i => rowF A z n k i - gj A k i n) (fun k i hk _ hik => by
    show rowF A z n (k + 1) i - gj A (k + 1) i n = rowF A z n k i - gj A k i n - gj A k i k * ((rowF A z n k k - gj A k k n) / gj A k k k)
    rw [rowF_ik hk (mm_p0 h hk) hik, gj_ik (by omega) hik]; grind) (fun k hk => by
    show rowF A z n (k + 1) k - gj A (k + 1) k n = (rowF A z n k k - gj A k k n) / gj A k k k
    rw [rowF_kk hk (mm_p0 h hk), gj_kk (by omega)]; grind) (fun i hi => by
    show 0 ≤ rowF A z n 0 i - A i n
    rw [rowF_0]; have := hA i hi; grind) hk i hi
  refine ⟨p1, ?_⟩
  obtain ⟨h1, h2, h3, -⟩ := mm_all h hk
  have h5 : 0 ≤ rowF A z n k i - gj A k i n := p2
  have hzi := hz i hi
  unfold rowF mk_ at h5
  by_cases hik : i < k
  · rw [if_pos hik] at h5
    have h6 := sm_pos0 (f := fun j => if j < k then 0 else gj A k i j * z j) (n := n) (fun x hx => by
      by_cases e : x < k
      · rw [if_pos e]; exact Rat.le_refl
      · rw [if_neg e]
        have := neg_mul_nonneg (h1 i x hi (by omega) hx (by omega)) (hz x hx)
        grind)
    have h7 := Rat.mul_le_mul_of_nonneg_right hW hzi
    grind
  · rw [if_neg hik] at h5
    have h6 := sm_le1 (f := fun j => if j < k then 0 else gj A k i j * z j) (c := i) hi (fun x hx hxi => by
      by_cases e : x < k
      · rw [if_pos e]; exact Rat.le_refl
      · rw [if_neg e]
        have := neg_mul_nonneg (h1 i x hi (by omega) hx (by omega)) (hz x hx)
        grind)
    rw [if_neg hik] at h6
    have h7 := Rat.mul_le_mul_of_nonneg_right (h2 i (by omega) hi) hzi
    grind
/-! .. exactly: the entries of step k times the determinant of k rows and columns are whole -/
def pvs (A : Nat → Nat → Rat) (n : Nat) : Prop := ∀ k, k < n → gj A k k k ≠ 0
theorem sm_sub {f g : Nat → Rat} {n : Nat} {a : Rat} : sm (fun j => f j - a * g j) n = sm f n - a * sm g n := by
  rw [sm_lin (f := fun j => f j - a * g j) (g := f) (h := g) (a := 1) (b := -a) (fun j _ => by grind)]
  grind
theorem gj_eqs {A : Nat → Nat → Rat} {n : Nat} (h : pvs A n) : ∀ {k : Nat}, k ≤ n → (∀ r j, r < k → k ≤ j → j ≤ n → sm (fun m => gj A k m j * A r m) k = A r j) ∧ (∀ i j, k ≤ i → i < n → k ≤ j → j ≤ n → gj A k i j = A i j - sm (fun m => gj A k m j * A i m) k)
  | 0, _ => ⟨fun r j hr => absurd hr (by omega), fun i j _ _ _ _ => by show A i j = A i j - 0; grind⟩
  | k + 1, hk => by
    obtain ⟨h1, h2⟩ := gj_eqs h (k := k) (by omega)
    have hp := h k hk
    have key : ∀ i j, k + 1 ≤ j → sm (fun m => gj A (k + 1) m j * A i m) (k + 1) = sm (fun m => gj A k m j * A i m) k - (gj A k k j / gj A k k k) * sm (fun m => gj A k m k * A i m) k + gj A k k j / gj A k k k * A i k := by
      intro i j hj
      show sm (fun m => gj A (k + 1) m j * A i m) k + gj A (k + 1) k j * A i k = _
      rw [gj_kk (by omega), ← sm_sub]
      congr 1
      refine sm_congr (fun m hm => ?_)
      rw [gj_ik (by omega) (by omega)]
      grind
    refine ⟨fun r j hr hj hjn => ?_, fun i j hi hin hj hjn => ?_⟩
    · rw [key r j hj]
      by_cases e : r = k
      · subst e
        have a1 := h2 r j (Nat.le_refl r) hk (by omega) hjn
        have a2 := h2 r r (Nat.le_refl r) hk (by omega) (by omega)
        have a3 : gj A r r r * (gj A r r j / gj A r r r) = gj A r r j := by grind
        have a4 : sm (fun m => gj A r m r * A r m) r = A r r - gj A r r r := by grind
        have a5 : sm (fun m => gj A r m j * A r m) r = A r j - gj A r r j := by grind
        rw [a4, a5]
        grind
      · rw [h1 r j (by omega) (by omega) hjn, h1 r k (by omega) (by omega) (by omega)]
        grind
    · rw [key i j hj, gj_ik (by omega) (by omega)]
      have a1 := h2 i j (by omega) hin (by omega) hjn
      have a2 := h2 i k (by omega) hin (by omega) (by omega)
      have a4 : sm (fun m => gj A k m k * A i m) k = A i k - gj A k i k := by grind
      have a5 : sm (fun m => gj A k m j * A i m) k = A i j - gj A k i j := by grind
      rw [a4, a5]
      grind
theorem dt_piv {A : Nat → Nat → Rat} {n k : Nat} (h : pvs A n) (hk : k < n) : dt (k + 1) A = gj A k k k * dt k A := by
  obtain ⟨h1, h2⟩ := gj_eqs h (k := k) (by omega)
  have e1 := dt_sm (n := k + 1) (A := A) (c := k) (y := fun m => if m = k then 1 else -(gj A k m k)) (B := fun m r => A r m) (by omega) (k + 1)
  have e2 : sm (fun i => (if i = k then (1 : Rat) else -(gj A k i k)) * dt (k + 1) (cs A k (fun r => A r i))) (k + 1) = dt (k + 1) A := by
    rw [sm_one (c := k) (by omega) (fun j hj hjk => ?_)]
    · rw [if_pos rfl, Rat.one_mul, cs_self (n := k + 1)]
    · rw [dt_ne (c := j) (d := k) hjk hj (by omega) (fun r _ => by rw [cs_c, cs_n hjk]), Rat.mul_zero]
  rw [← e2, ← e1]
  have col : ∀ r, sm (fun i => (if i = k then (1 : Rat) else -(gj A k i k)) * A r i) (k + 1) = A r k - sm (fun m => gj A k m k * A r m) k := by
    intro r
    show sm (fun i => (if i = k then (1 : Rat) else -(gj A k i k)) * A r i) k + (if k = k then (1 : Rat) else -(gj A k k k)) * A r k = _
    rw [if_pos rfl, sm_congr (g := fun m => (-1) * (gj A k m k * A r m)) (fun j hj => by rw [if_neg (by omega)]; grind), sm_mul]
    grind
  rw [dt_last (fun r hr => by rw [cs_c, col r, h1 r k hr (Nat.le_refl k) (by omega)]; grind), cs_c, col k, ← h2 k k (Nat.le_refl k) hk (Nat.le_refl k) (by omega)]
  congr 1
  exact dt_congr (fun r c hr hc => cs_n (by omega))
theorem isI_sub {x y : Rat} (hx : isI x) (hy : isI y) : isI (x - y) := by
  rw [Rat.sub_eq_add_neg]; exact isI_add hx (isI_neg hy)
/-- the columns of the matrix -/
theorem gj_int {A : Nat → Nat → Rat} {n k i j : Nat} {P : Rat} (h : pvs A n) (hA : ∀ i j, i < n → j < n → isI (A i j)) (hP : ∀ i, i < n → isI (P * A i j)) (hk : k ≤ n) (hi : i < n) (hj : k ≤ j) (hjn : j ≤ n) : isI (P * dt k A * gj A k i j) := by
  obtain ⟨h1, h2⟩ := gj_eqs h hk
  have hD : isI (dt k A) := dt_int (fun r c hr hc => hA r c (by omega) (by omega))
  have low : ∀ m, m < k → isI (P * dt k A * gj A k m j) := fun m hm => by
    have e1 := dt_cramer (n := k) (A := A) (y := fun m => gj A k m j) (b := fun r => A r j) hm (fun r hr => h1 r j hr hj hjn)
    have e2 := dt_lin (n := k) (M := cs A m (fun r => P * A r j)) (M1 := cs A m (fun r => A r j)) (M2 := cs A m (fun r => A r j)) (c := m) (a := P) (b := 0) hm (fun r d _ _ hd => by rw [cs_n hd, cs_n hd]; exact ⟨rfl, rfl⟩) (fun r hr => by rw [cs_c, cs_c]; grind)
    rw [e1] at e2
    have e3 : P * dt k A * gj A k m j = dt k (cs A m (fun r => P * A r j)) := by rw [e2]; grind
    rw [e3]
    refine dt_int (fun r c hr hc => ?_)
    by_cases e : c = m
    · subst e; rw [cs_c]; exact hP r (by omega)
    · rw [cs_n e]; exact hA r c (by omega) (by omega)
  by_cases hik : i < k
  · exact low i hik
  · rw [h2 i j (by omega) hi hj hjn]
    have e : P * dt k A * (A i j - sm (fun m => gj A k m j * A i m) k) = dt k A * (P * A i j) - sm (fun m => A i m * (P * dt k A * gj A k m j)) k := by
      rw [sm_congr (f := fun m => A i m * (P * dt k A * gj A k m j)) (g := fun m => (P * dt k A) * (gj A k m j * A i m)) (fun m _ => by grind), sm_mul]
      grind
    rw [e]
    exact isI_sub (isI_mul hD (hP i hi)) (isI_sm (fun m hm => isI_mul (hA i m hi (by omega)) (low m hm)))
theorem den_of {x : Rat} {D : Nat} (hD : 0 < D) (h : isI ((D : Rat) * x)) : x.den ∣ D := by
  obtain ⟨z, hz⟩ := h
  have h0 : (D : Rat) ≠ 0 := fun e => by have : D = 0 := Rat.natCast_inj.mp e; omega
  have : x = Rat.divInt z (D : Int) := by
    have h2 := divInt_D z hD
    have h3 : Rat.divInt z (D : Int) * (D : Rat) = x * (D : Rat) := by rw [h2, ← hz]; grind
    grind
  rw [this]
  exact den_dvd z hD
/-- the determinant of the first k rows and columns, a number above 0 and at most 4 to the k -/
theorem dt_nat {A : Nat → Nat → Rat} {n : Nat} {W : Rat} {v : Nat → Rat} (h : mmx A n W v) (hW : W ≤ 4) (hA : ∀ i j, i < n → j < n → isI (A i j)) : ∀ {k : Nat}, k ≤ n → ∃ d : Nat, 0 < d ∧ d ≤ 4 ^ k ∧ dt k A = (d : Rat) := by
  have key : ∀ {k : Nat}, k ≤ n → 0 < dt k A ∧ dt k A ≤ ((4 ^ k : Nat) : Rat) := by
    intro k
    induction k with
    | zero => intro _; exact ⟨by show (0 : Rat) < 1; decide, by show (1 : Rat) ≤ ((1 : Nat) : Rat); decide⟩
    | succ k ih =>
      intro hk
      obtain ⟨i1, i2⟩ := ih (by omega)
      have hp := mm_p h (k := k) hk
      have hb := (mm_all h (k := k) (by omega)).2.1 k (Nat.le_refl k) hk
      rw [dt_piv (fun k hk => mm_p0 h hk) hk]
      refine ⟨Rat.mul_pos hp i1, ?_⟩
      have e : ((4 ^ (k + 1) : Nat) : Rat) = 4 * ((4 ^ k : Nat) : Rat) := by rw [Nat.pow_succ, Nat.mul_comm, Rat.natCast_mul]; rfl
      rw [e]
      have a1 := Rat.mul_le_mul_of_nonneg_right (show gj A k k k ≤ 4 by grind) (Rat.le_of_lt i1)
      have a2 := Rat.mul_le_mul_of_nonneg_left i2 (show (0 : Rat) ≤ 4 by decide)
      grind
  intro k hk
  obtain ⟨k1, k2⟩ := key hk
  obtain ⟨z, hz⟩ : isI (dt k A) := dt_int (fun r c hr hc => hA r c (by omega) (by omega))
  rw [hz] at k1 k2
  have z1 : 0 < z := Rat.intCast_pos.mp k1
  have z2 : z ≤ ((4 ^ k : Nat) : Int) := by rw [← Rat.intCast_natCast] at k2; exact Rat.intCast_le_intCast.mp k2
  refine ⟨z.toNat, by omega, by omega, ?_⟩
  rw [hz, ← Rat.intCast_natCast, Int.toNat_of_nonneg (by omega)]
/-! .. and within 64 bits -/
theorem fit_rng {x : Rat} {D B : Nat} (hb : D * B < 2 ^ 63) (h1 : -(B : Rat) ≤ x) (h2 : x ≤ (B : Rat)) : -(2 ^ 63 : Rat) < x * (D : Rat) ∧ x * (D : Rat) < 2 ^ 63 := by
  have h3 : ((D * B : Nat) : Rat) < 2 ^ 63 := by
    have : ((D * B : Nat) : Rat) < ((2 ^ 63 : Nat) : Rat) := Rat.natCast_lt_natCast.mpr hb
    rw [show ((2 ^ 63 : Nat) : Rat) = 2 ^ 63 by rw [Rat.natCast_pow]; rfl] at this
    exact this
  rw [Rat.natCast_mul] at h3
  have hD : (0 : Rat) ≤ (D : Rat) := Rat.natCast_nonneg
  have a1 := Rat.mul_le_mul_of_nonneg_right h1 hD
  have a2 := Rat.mul_le_mul_of_nonneg_right h2 hD
  constructor <;> grind
theorem fit_b {x : Rat} {D B : Nat} (hD : 0 < D) (hx : isI ((D : Rat) * x)) (hB : 1 ≤ B) (hb : D * B < 2 ^ 63) (h1 : -(B : Rat) ≤ x) (h2 : x ≤ (B : Rat)) : fitR x := by
  obtain ⟨a1, a2⟩ := fit_rng hb h1 h2
  exact fitR_of hD (Nat.lt_of_le_of_lt (Nat.le_mul_of_pos_right D hB) hb) (den_of hD hx) a1 a2
theorem fitA_b {x y : Rat} {D B : Nat} (hD : 0 < D) (hx : isI ((D : Rat) * x)) (hy : isI ((D : Rat) * y)) (hB : 1 ≤ B) (hb : D * B < 2 ^ 63) (h1 : -(B : Rat) ≤ x + y) (h2 : x + y ≤ (B : Rat)) : fitA x y := by
  obtain ⟨a1, a2⟩ := fit_rng hb h1 h2
  exact fitA_of hD (Nat.lt_of_le_of_lt (Nat.le_mul_of_pos_right D hB) hb) (den_of hD hx) (den_of hD hy) a1 a2
theorem isI_nat (n : Nat) : isI (n : Rat) := ⟨(n : Int), (Rat.intCast_natCast n).symm⟩
theorem mul_rng {a b W : Rat} (hW : 0 ≤ W) (h1 : -W ≤ a) (h2 : a ≤ W) (h3 : -W ≤ b) (h4 : b ≤ W) : -(W * W) ≤ a * b ∧ a * b ≤ W * W := by
  have p1 := Rat.mul_nonneg (show 0 ≤ W - a by grind) (show 0 ≤ W - b by grind)
  have p2 := Rat.mul_nonneg (show 0 ≤ W - a by grind) (show 0 ≤ W + b by grind)
  have p3 := Rat.mul_nonneg (show 0 ≤ W + a by grind) (show 0 ≤ W - b by grind)
  have p4 := Rat.mul_nonneg (show 0 ≤ W + a by grind) (show 0 ≤ W + b by grind)
  constructor <;> grind
theorem gjFit_of {A : Nat → Nat → Rat} {n : Nat} {W : Rat} {v z : Nat → Rat} {P B : Nat} (h : mmx A n W v) (hW1 : 1 ≤ W) (hW : W ≤ 4) (hA : ∀ i j, i < n → j < n → isI (A i j)) (hP0 : 0 < P) (hP : ∀ i, i < n → isI ((P : Rat) * A i n)) (hr : ∀ i, i < n → 0 ≤ A i n) (hz : ∀ i, i < n → 0 ≤ z i) (hAz : ∀ i, i < n → A i n ≤ sm (fun j => A i j * z j) n) (hzB : ∀ i, i < n → W * z i ≤ (B : Rat)) (hB : 16 ≤ B) (hb : P * 4 ^ (2 * n - 1) * B < 2 ^ 63) : gjFit A n := by
  have hpv : pvs A n := fun k hk => mm_p0 h hk
  have hB4 : (4 : Rat) ≤ (B : Rat) := by
    have : ((4 : Nat) : Rat) ≤ (B : Rat) := Rat.natCast_le_natCast.mpr (by omega)
    exact this
  have hB16 : (16 : Rat) ≤ (B : Rat) := by
    have : ((16 : Nat) : Rat) ≤ (B : Rat) := Rat.natCast_le_natCast.mpr hB
    exact this
  have hPA : ∀ j, j ≤ n → ∀ i, i < n → isI ((P : Rat) * A i j) := fun j hj i hi => by
    by_cases e : j = n
    · subst e; exact hP i hi
    · exact isI_mul (isI_nat P) (hA i j hi (by omega))
  have ent : ∀ k i j, k ≤ n → i < n → k ≤ j → j ≤ n → isI ((P : Rat) * dt k A * gj A k i j) := fun k i j hk hi hj hjn => gj_int hpv hA (hPA j hjn) hk hi hj hjn
  have ent1 : ∀ k i j, k ≤ n → i < n → k ≤ j → j < n → isI (dt k A * gj A k i j) := fun k i j hk hi hj hjn => by
    have := gj_int (P := 1) hpv hA (fun i hi => by rw [Rat.one_mul]; exact hA i j hi hjn) hk hi hj (by omega)
    rw [Rat.one_mul] at this; exact this
  have bnd : ∀ k i j, k ≤ n → i < n → k ≤ j → j ≤ n → -(B : Rat) ≤ gj A k i j ∧ gj A k i j ≤ (B : Rat) := fun k i j hk hi hj hjn => by
    by_cases e : j = n
    · subst e
      obtain ⟨a1, a2⟩ := mm_rhs h hW1 hr hz hAz hk hi
      have := hzB i hi
      constructor <;> grind
    · obtain ⟨a1, a2⟩ := mm_off h hW1 hk hi hj (by omega)
      constructor <;> grind
  have pw : ∀ a, a ≤ 2 * n - 1 → 4 ^ a ≤ 4 ^ (2 * n - 1) := fun a ha => Nat.pow_le_pow_right (by decide) ha
  have hPB : ∀ d, d ≤ 4 ^ (2 * n - 1) → P * d * B < 2 ^ 63 := fun d hd => Nat.lt_of_le_of_lt (Nat.mul_le_mul_right B (Nat.mul_le_mul_left P hd)) hb
  refine ⟨fun k hk => ?_, fun i hi => ?_⟩
  · obtain ⟨d1, p1, q1, e1⟩ := dt_nat h hW hA (k := k) (by omega)
    obtain ⟨d2, p2, q2, e2⟩ := dt_nat h hW hA (k := k + 1) hk
    have f1 : ∀ i j, i < n → k ≤ j → j ≤ n → isI (((P * d1 : Nat) : Rat) * gj A k i j) := fun i j hi hj hjn => by
      have := ent k i j (by omega) hi hj hjn
      rw [e1] at this; rw [Rat.natCast_mul]; exact this
    have f2 : ∀ i j, i < n → k + 1 ≤ j → j ≤ n → isI (((P * d2 : Nat) : Rat) * gj A (k + 1) i j) := fun i j hi hj hjn => by
      have := ent (k + 1) i j hk hi hj hjn
      rw [e2] at this; rw [Rat.natCast_mul]; exact this
    have hone : gj A (k + 1) k k = 1 := by
      rw [gj_kk (Nat.le_refl k)]
      have := mm_p0 h hk
      grind
    have f3 : ∀ j, k ≤ j → j ≤ n → isI (((P * d2 : Nat) : Rat) * (gj A k k j / gj A k k k)) := fun j hj hjn => by
      rw [← gj_kk hj]
      by_cases e : j = k
      · subst e; rw [hone, Rat.mul_one]; exact isI_nat _
      · exact f2 k j hk (by omega) hjn
    have b3 : ∀ j, k ≤ j → j ≤ n → -(B : Rat) ≤ gj A k k j / gj A k k k ∧ gj A k k j / gj A k k k ≤ (B : Rat) := fun j hj hjn => by
      rw [← gj_kk hj]
      by_cases e : j = k
      · subst e; rw [hone]; constructor <;> grind
      · exact bnd (k + 1) k j hk hk (by omega) hjn
    have c1 : d1 ≤ 4 ^ (2 * n - 1) := Nat.le_trans q1 (pw k (by omega))
    have c2 : d2 ≤ 4 ^ (2 * n - 1) := Nat.le_trans q2 (pw (k + 1) (by omega))
    have c3 : d1 * d2 ≤ 4 ^ (2 * n - 1) := Nat.le_trans (Nat.mul_le_mul q1 q2) (by rw [← Nat.pow_add]; exact pw _ (by omega))
    refine ⟨mm_p h hk, fun i j hi hj hjn => ?_, fun j hj hjn => ?_, fun i j hi hik hj hjn => ?_⟩
    · obtain ⟨a1, a2⟩ := bnd k i j (by omega) hi hj hjn
      exact fit_b (Nat.mul_pos hP0 p1) (f1 i j hi hj hjn) (by omega) (hPB d1 c1) a1 a2
    · obtain ⟨a1, a2⟩ := b3 j hj hjn
      exact fit_b (Nat.mul_pos hP0 p2) (f3 j hj hjn) (by omega) (hPB d2 c2) a1 a2
    · have hD0 : 0 < P * (d1 * d2) := Nat.mul_pos hP0 (Nat.mul_pos p1 p2)
      have hy : isI (((P * (d1 * d2) : Nat) : Rat) * (-(gj A k i k) * (gj A k k j / gj A k k k))) := by
        have a1 := ent1 k i k (by omega) hi (Nat.le_refl k) hk
        rw [e1] at a1
        have a2 := isI_neg (isI_mul a1 (f3 j hj hjn))
        have a3 : ((P * (d1 * d2) : Nat) : Rat) * (-(gj A k i k) * (gj A k k j / gj A k k k)) = -((d1 : Rat) * gj A k i k * (((P * d2 : Nat) : Rat) * (gj A k k j / gj A k k k))) := by
          rw [Rat.natCast_mul, Rat.natCast_mul, Rat.natCast_mul]; grind
        rw [a3]; exact a2
      have hx : isI (((P * (d1 * d2) : Nat) : Rat) * gj A k i j) := by
        have a2 := isI_mul (isI_nat d2) (f1 i j hi hj hjn)
        have a3 : ((P * (d1 * d2) : Nat) : Rat) * gj A k i j = (d2 : Rat) * (((P * d1 : Nat) : Rat) * gj A k i j) := by
          rw [Rat.natCast_mul, Rat.natCast_mul, Rat.natCast_mul]; grind
        rw [a3]; exact a2
      have hs : gj A k i j + -(gj A k i k) * (gj A k k j / gj A k k k) = gj A (k + 1) i j := by rw [gj_ik hj hik]; grind
      have bs : -(B : Rat) ≤ gj A k i j + -(gj A k i k) * (gj A k k j / gj A k k k) ∧ gj A k i j + -(gj A k i k) * (gj A k k j / gj A k k k) ≤ (B : Rat) := by
        by_cases e : j = k
        · subst e
          have := mm_p0 h hk
          have h0 : gj A j i j + -(gj A j i j) * (gj A j j j / gj A j j j) = 0 := by grind
          rw [h0]; constructor <;> grind
        · rw [hs]; exact bnd (k + 1) i j hk hi (by omega) hjn
      have by_ : -(B : Rat) ≤ -(gj A k i k) * (gj A k k j / gj A k k k) ∧ -(gj A k i k) * (gj A k k j / gj A k k k) ≤ (B : Rat) := by
        by_cases e : j = n
        · subst e
          obtain ⟨a1, -⟩ := mm_rhs h hW1 hr hz hAz (show k ≤ j by omega) hi
          obtain ⟨a2, -⟩ := mm_rhs h hW1 hr hz hAz (show k ≤ j by omega) hk
          have a3 := div_nonneg' a2 (mm_p h hk)
          have a4 := neg_mul_nonneg ((mm_all h (k := k) (by omega)).1 i k hi (Nat.le_refl k) hk hik) a3
          have a5 := bs.2
          constructor <;> grind
        · obtain ⟨a1, a2⟩ := mm_off h hW1 (show k ≤ n by omega) hi (Nat.le_refl k) hk
          have a3 : -W ≤ gj A k k j / gj A k k k ∧ gj A k k j / gj A k k k ≤ W := by
            rw [← gj_kk hj]
            by_cases e2 : j = k
            · subst e2; rw [hone]; constructor <;> grind
            · exact mm_off h hW1 hk hk (by omega) (by omega)
          obtain ⟨a4, a5⟩ := mul_rng (show 0 ≤ W by grind) (show -W ≤ -(gj A k i k) by grind) (show -(gj A k i k) ≤ W by grind) a3.1 a3.2
          have a6 := mul_rng (W := 4) (by decide) (show -4 ≤ W by grind) hW (show -4 ≤ W by grind) hW
          constructor <;> grind
      exact ⟨fit_b hD0 hy (by omega) (hPB _ c3) by_.1 by_.2, fitA_b hD0 hx hy (by omega) (hPB _ c3) bs.1 bs.2⟩
  · obtain ⟨d1, p1, q1, e1⟩ := dt_nat h hW hA (k := n) (Nat.le_refl n)
    have f1 := ent n i n (Nat.le_refl n) hi (Nat.le_refl n) (Nat.le_refl n)
    rw [e1, ← Rat.natCast_mul] at f1
    obtain ⟨a1, a2⟩ := bnd n i n (Nat.le_refl n) hi (Nat.le_refl n) (Nat.le_refl n)
    exact fit_b (Nat.mul_pos hP0 p1) f1 (by omega) (hPB d1 (Nat.le_trans q1 (pw n (by omega)))) a1 a2
