/-! GAUSS AND JORDAN, exactly, over Rat: rows i < n, columns j < n, and column n what is asked -/
def gstep (a : Nat → Nat → Rat) (k : Nat) : Nat → Nat → Rat := fun i j => if j < k then a i j else if i = k then a k j / a k k else a i j - a i k * (a k j / a k k)
def gj (A : Nat → Nat → Rat) : Nat → Nat → Nat → Rat
  | 0 => A
  | k + 1 => gstep (gj A k) k
/-- the sum from column k on -/
def mk_ (a : Nat → Nat → Rat) (x : Nat → Rat) (k n i : Nat) : Rat := sm (fun j => if j < k then 0 else a i j * x j) n
theorem sm_add {f g : Nat → Rat} (n : Nat) : sm (fun j => f j + g j) n = sm f n + sm g n := by
  rw [sm_lin (f := fun j => f j + g j) (g := f) (h := g) (a := 1) (b := 1) (fun j _ => by grind)]
  grind
theorem sm_mul {f : Nat → Rat} (a : Rat) (n : Nat) : sm (fun j => a * f j) n = a * sm f n := by
  rw [sm_lin (f := fun j => a * f j) (g := f) (h := f) (a := a) (b := 0) (fun j _ => by grind)]
  grind
theorem sm_nonneg {f : Nat → Rat} : ∀ {n : Nat}, (∀ j, j < n → 0 ≤ f j) → 0 ≤ sm f n
  | 0, _ => Rat.le_refl
  | n + 1, h => Rat.add_nonneg (sm_nonneg (fun j hj => h j (by omega))) (h n (by omega))
theorem sm_le {f g : Nat → Rat} : ∀ {n : Nat}, (∀ j, j < n → f j ≤ g j) → sm f n ≤ sm g n
  | 0, _ => Rat.le_refl
  | n + 1, h => by
    have h1 := sm_le (fun j hj => h j (show j < n + 1 by omega)) (n := n)
    have h2 := h n (by omega)
    show sm f n + f n ≤ sm g n + g n
    grind
/-- one place apart -/
theorem sm_out {f : Nat → Rat} {c n : Nat} (hc : c < n) : sm f n = f c + sm (fun j => if j = c then 0 else f j) n := by
  have h1 : sm f n = sm (fun j => (if j = c then f j else 0) + (if j = c then 0 else f j)) n := sm_congr (fun j _ => by
    by_cases h : j = c
    · rw [if_pos h, if_pos h, Rat.add_zero]
    · rw [if_neg h, if_neg h, Rat.zero_add])
  rw [h1, sm_add, sm_one (c := c) hc (fun j _ hj => if_neg hj), if_pos rfl]
theorem gs_ik {a : Nat → Nat → Rat} {k i j : Nat} (hj : k ≤ j) (hi : i ≠ k) : gstep a k i j = a i j - a i k * (a k j / a k k) := by
  unfold gstep; rw [if_neg (by omega), if_neg hi]
theorem gs_kk {a : Nat → Nat → Rat} {k j : Nat} (hj : k ≤ j) : gstep a k k j = a k j / a k k := by
  unfold gstep; rw [if_neg (by omega), if_pos rfl]
/-- how the sums go on: a row that isn't the pivot's -/
theorem mk_step {a : Nat → Nat → Rat} {x : Nat → Rat} {k n i : Nat} (hk : k < n) (hp : a k k ≠ 0) (hi : i ≠ k) : mk_ (gstep a k) x (k + 1) n i = mk_ a x k n i - a i k * (mk_ a x k n k / a k k) := by
  have e1 : mk_ a x k n i = a i k * x k + sm (fun j => if j < k + 1 then 0 else a i j * x j) n := by
    unfold mk_
    rw [sm_out hk, if_neg (Nat.lt_irrefl k)]
    congr 1
    refine sm_congr (fun j _ => ?_)
    by_cases h1 : j = k
    · rw [if_pos h1, if_pos (by omega)]
    · rw [if_neg h1]
      by_cases h2 : j < k
      · rw [if_pos h2, if_pos (by omega)]
      · rw [if_neg h2, if_neg (by omega)]
  have e2 : mk_ a x k n k = a k k * x k + sm (fun j => if j < k + 1 then 0 else a k j * x j) n := by
    unfold mk_
    rw [sm_out hk, if_neg (Nat.lt_irrefl k)]
    congr 1
    refine sm_congr (fun j _ => ?_)
    by_cases h1 : j = k
    · rw [if_pos h1, if_pos (by omega)]
    · rw [if_neg h1]
      by_cases h2 : j < k
      · rw [if_pos h2, if_pos (by omega)]
      · rw [if_neg h2, if_neg (by omega)]
  have e3 : mk_ (gstep a k) x (k + 1) n i = sm (fun j => if j < k + 1 then 0 else a i j * x j) n + -(a i k / a k k) * sm (fun j => if j < k + 1 then 0 else a k j * x j) n := by
    unfold mk_
    rw [← sm_mul, ← sm_add]
    refine sm_congr (fun j _ => ?_)
    by_cases h1 : j < k + 1
    · rw [if_pos h1, if_pos h1, if_pos h1]; grind
    · rw [if_neg h1, if_neg h1, if_neg h1, gs_ik (by omega) hi]; grind
  rw [e3, e1, e2]
  grind
/-- the pivot's own row -/
theorem mk_stepk {a : Nat → Nat → Rat} {x : Nat → Rat} {k n : Nat} (hk : k < n) (hp : a k k ≠ 0) : x k + mk_ (gstep a k) x (k + 1) n k = mk_ a x k n k / a k k := by
  have e2 : mk_ a x k n k = a k k * x k + sm (fun j => if j < k + 1 then 0 else a k j * x j) n := by
    unfold mk_
    rw [sm_out hk, if_neg (Nat.lt_irrefl k)]
    congr 1
    refine sm_congr (fun j _ => ?_)
    by_cases h1 : j = k
    · rw [if_pos h1, if_pos (by omega)]
    · rw [if_neg h1]
      by_cases h2 : j < k
      · rw [if_pos h2, if_pos (by omega)]
      · rw [if_neg h2, if_neg (by omega)]
  have e3 : mk_ (gstep a k) x (k + 1) n k = (1 / a k k) * sm (fun j => if j < k + 1 then 0 else a k j * x j) n := by
    unfold mk_
    rw [← sm_mul]
    refine sm_congr (fun j _ => ?_)
    by_cases h1 : j < k + 1
    · rw [if_pos h1, if_pos h1]; grind
    · rw [if_neg h1, if_neg h1, gs_kk (by omega)]; grind
  rw [e3, e2]
  grind
