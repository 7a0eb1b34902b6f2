/-! DETERMINANTS over Rat, of size n, by the last row -/
def sm (f : Nat → Rat) : Nat → Rat
  | 0 => 0
  | n + 1 => sm f n + f n
theorem sm_congr {f g : Nat → Rat} : ∀ {n : Nat}, (∀ j, j < n → f j = g j) → sm f n = sm g n
  | 0, _ => rfl
  | n + 1, h => by
    show sm f n + f n = sm g n + g n
    rw [sm_congr (fun j hj => h j (by omega)), h n (by omega)]
theorem sm_lin {f g h : Nat → Rat} {a b : Rat} : ∀ {n : Nat}, (∀ j, j < n → f j = a * g j + b * h j) → sm f n = a * sm g n + b * sm h n
  | 0, _ => by show (0 : Rat) = a * 0 + b * 0; grind
  | n + 1, hh => by
    show sm f n + f n = a * (sm g n + g n) + b * (sm h n + h n)
    rw [sm_lin (fun j hj => hh j (by omega)), hh n (by omega)]
    grind
theorem sm_zero {f : Nat → Rat} : ∀ {n : Nat}, (∀ j, j < n → f j = 0) → sm f n = 0
  | 0, _ => rfl
  | n + 1, h => by
    show sm f n + f n = 0
    rw [sm_zero (fun j hj => h j (by omega)), h n (by omega), Rat.add_zero]
theorem sm_one {f : Nat → Rat} {c : Nat} : ∀ {n : Nat}, c < n → (∀ j, j < n → j ≠ c → f j = 0) → sm f n = f c
  | 0, h, _ => absurd h (Nat.not_lt_zero _)
  | n + 1, hc, h => by
    show sm f n + f n = f c
    by_cases hn : c = n
    · subst hn
      rw [sm_zero (fun j hj => h j (by omega) (by omega)), Rat.zero_add]
    · rw [sm_one (n := n) (by omega) (fun j hj hjc => h j (by omega) hjc), h n (by omega) (fun e => hn e.symm), Rat.add_zero]
theorem sm_two {f : Nat → Rat} {c : Nat} : ∀ {n : Nat}, c + 1 < n → (∀ j, j < n → j ≠ c → j ≠ c + 1 → f j = 0) → f c + f (c + 1) = 0 → sm f n = 0
  | 0, h, _, _ => absurd h (Nat.not_lt_zero _)
  | n + 1, hc, h, h2 => by
    show sm f n + f n = 0
    by_cases hn : c + 1 = n
    · subst hn
      rw [sm_one (c := c) (by omega) (fun j hj hjc => h j (by omega) hjc (by omega)), h2]
    · rw [sm_two (n := n) (c := c) (by omega) (fun j hj h3 h4 => h j (by omega) h3 h4) h2, h n (by omega) (by omega) (by omega), Rat.add_zero]
def sg : Nat → Rat
  | 0 => 1
  | n + 1 => -sg n
theorem sg_dbl : ∀ n : Nat, sg (n + n) = 1
  | 0 => rfl
  | n + 1 => by
    rw [show n + 1 + (n + 1) = (n + n) + 1 + 1 by omega]
    show - -sg (n + n) = 1
    rw [Rat.neg_neg, sg_dbl n]
def sk (j c : Nat) : Nat := if c < j then c else c + 1
def ps (j c : Nat) : Nat := if c < j then c else c - 1
theorem sk_ne (j c : Nat) : sk j c ≠ j := by unfold sk; split <;> omega
theorem sk_ps {j c : Nat} (h : c ≠ j) : sk j (ps j c) = c := by unfold sk ps; (repeat' split) <;> omega
theorem ps_sk (j c : Nat) : ps j (sk j c) = c := by unfold sk ps; (repeat' split) <;> omega
def dt : Nat → (Nat → Nat → Rat) → Rat
  | 0, _ => 1
  | n + 1, M => sm (fun j => sg (n + j) * M n j * dt n (fun r c => M r (sk j c))) (n + 1)
theorem dt_congr : ∀ {n : Nat} {M M' : Nat → Nat → Rat}, (∀ r c, r < n → c < n → M r c = M' r c) → dt n M = dt n M'
  | 0, _, _, _ => rfl
  | n + 1, M, M', h => by
    refine sm_congr (fun j hj => ?_)
    rw [h n j (by omega) hj, dt_congr (fun r c hr hc => h r (sk j c) (by omega) (by unfold sk; split <;> omega))]
/-- linear in a column -/
theorem dt_lin : ∀ {n : Nat} {M M1 M2 : Nat → Nat → Rat} {c : Nat} {a b : Rat}, c < n → (∀ r d, r < n → d < n → d ≠ c → M r d = M1 r d ∧ M r d = M2 r d) → (∀ r, r < n → M r c = a * M1 r c + b * M2 r c) → dt n M = a * dt n M1 + b * dt n M2
  | 0, _, _, _, _, _, _, h, _, _ => absurd h (Nat.not_lt_zero _)
  | n + 1, M, M1, M2, c, a, b, hc, h1, h2 => by
    refine sm_lin (fun j hj => ?_)
    by_cases hjc : j = c
    · subst hjc
      have e1 : dt n (fun r d => M r (sk j d)) = dt n (fun r d => M1 r (sk j d)) := dt_congr (fun r d hr hd => (h1 r _ (by omega) (by unfold sk; split <;> omega) (sk_ne j d)).1)
      have e2 : dt n (fun r d => M r (sk j d)) = dt n (fun r d => M2 r (sk j d)) := dt_congr (fun r d hr hd => (h1 r _ (by omega) (by unfold sk; split <;> omega) (sk_ne j d)).2)
      rw [h2 n (by omega), ← e1, ← e2]
      grind
    · have hp : ps j c < n := by unfold ps; split <;> omega
      have e := dt_lin (n := n) (M := fun r d => M r (sk j d)) (M1 := fun r d => M1 r (sk j d)) (M2 := fun r d => M2 r (sk j d)) (c := ps j c) (a := a) (b := b) hp
        (fun r d hr hd hdc => h1 r (sk j d) (by omega) (by unfold sk; split <;> omega) (fun e => hdc (by rw [← e, ps_sk])))
        (fun r hr => by show M r (sk j (ps j c)) = _; rw [sk_ps (fun e => hjc e.symm)]; exact h2 r (by omega))
      obtain ⟨g1, g2⟩ := h1 n j (by omega) hj hjc
      rw [e, ← g1, ← g2]
      grind
theorem dt_z {n : Nat} {M : Nat → Nat → Rat} {c : Nat} (hc : c < n) (h : ∀ r, r < n → M r c = 0) : dt n M = 0 := by
  rw [dt_lin (M1 := M) (M2 := M) (a := 0) (b := 0) hc (fun _ _ _ _ _ => ⟨rfl, rfl⟩) (fun r hr => by rw [h r hr]; grind)]
  grind
/-- two neighbours alike -/
theorem dt_adj : ∀ {n : Nat} {M : Nat → Nat → Rat} {c : Nat}, c + 1 < n → (∀ r, r < n → M r c = M r (c + 1)) → dt n M = 0
  | 0, _, _, h, _ => absurd h (Nat.not_lt_zero _)
  | n + 1, M, c, hc, h => by
    refine sm_two (c := c) hc (fun j hj h1 h2 => ?_) ?_
    · have e : dt n (fun r d => M r (sk j d)) = 0 := by
        refine dt_adj (c := ps j c) (by unfold ps; split <;> omega) (fun r hr => ?_)
        have e2 : sk j (ps j c + 1) = c + 1 := by unfold sk ps; split <;> split <;> omega
        show M r (sk j (ps j c)) = M r (sk j (ps j c + 1))
        rw [sk_ps (fun e => h1 e.symm), e2]
        exact h r (by omega)
      show sg (n + j) * M n j * dt n (fun r d => M r (sk j d)) = 0
      rw [e, Rat.mul_zero]
    · have e : dt n (fun r d => M r (sk c d)) = dt n (fun r d => M r (sk (c + 1) d)) := by
        refine dt_congr (fun r d hr hd => ?_)
        by_cases hdc : d = c
        · subst hdc
          rw [show sk d d = d + 1 by unfold sk; split <;> omega, show sk (d + 1) d = d by unfold sk; split <;> omega]
          exact (h r (by omega)).symm
        · rw [show sk c d = sk (c + 1) d by unfold sk; split <;> split <;> omega]
      show sg (n + c) * M n c * dt n (fun r d => M r (sk c d)) + sg (n + (c + 1)) * M n (c + 1) * dt n (fun r d => M r (sk (c + 1) d)) = 0
      rw [e, h n (by omega)]
      show sg (n + c) * M n (c + 1) * dt n (fun r d => M r (sk (c + 1) d)) + -sg (n + c) * M n (c + 1) * dt n (fun r d => M r (sk (c + 1) d)) = 0
      grind
def cs (M : Nat → Nat → Rat) (c : Nat) (v : Nat → Rat) : Nat → Nat → Rat := fun r d => if d = c then v r else M r d
theorem cs_c {M : Nat → Nat → Rat} {c : Nat} {v : Nat → Rat} {r : Nat} : cs M c v r c = v r := by simp [cs]
theorem cs_n {M : Nat → Nat → Rat} {c d : Nat} {v : Nat → Rat} {r : Nat} (h : d ≠ c) : cs M c v r d = M r d := by simp [cs, h]
theorem dt_cs2 {n : Nat} {M : Nat → Nat → Rat} {c : Nat} {x y : Nat → Rat} (hc : c < n) : dt n (cs M c (fun r => x r + y r)) = dt n (cs M c x) + dt n (cs M c y) := by
  rw [dt_lin (M1 := cs M c x) (M2 := cs M c y) (a := 1) (b := 1) hc (fun r d _ _ h => by rw [cs_n h, cs_n h, cs_n h]; exact ⟨rfl, rfl⟩) (fun r _ => by rw [cs_c, cs_c, cs_c]; grind)]
  grind
theorem cs_comm {M : Nat → Nat → Rat} {c d : Nat} {x y : Nat → Rat} (h : c ≠ d) : cs (cs M c x) d y = cs (cs M d y) c x := by
  funext r k
  by_cases h1 : k = c
  · subst h1; rw [cs_n h, cs_c, cs_c]
  · by_cases h2 : k = d
    · subst h2; rw [cs_c, cs_n h1, cs_c]
    · rw [cs_n h2, cs_n h1, cs_n h1, cs_n h2]
theorem dt_swap {n : Nat} {M : Nat → Nat → Rat} {c : Nat} {x y : Nat → Rat} (hc : c + 1 < n) : dt n (cs (cs M c y) (c + 1) x) = -dt n (cs (cs M c x) (c + 1) y) := by
  have hz : ∀ v : Nat → Rat, dt n (cs (cs M c v) (c + 1) v) = 0 := fun v => dt_adj (c := c) hc (fun r _ => by rw [cs_n (by omega), cs_c, cs_c])
  have h0 := hz (fun r => x r + y r)
  rw [dt_cs2 hc, cs_comm (by omega), cs_comm (x := fun r => x r + y r) (y := y) (by omega), dt_cs2 (by omega), dt_cs2 (by omega), cs_comm (c := c + 1) (by omega), cs_comm (c := c + 1) (d := c) (by omega), cs_comm (c := c + 1) (d := c) (by omega), cs_comm (c := c + 1) (d := c) (by omega), hz x, hz y] at h0
  grind
theorem cs_self {n : Nat} {M : Nat → Nat → Rat} {c : Nat} : cs M c (fun r => M r c) = M := by
  funext r d
  by_cases h : d = c
  · subst h; rw [cs_c]
  · rw [cs_n h]
/-- two columns alike -/
theorem dt_eq {n : Nat} : ∀ {d : Nat} {M : Nat → Nat → Rat} {c : Nat}, c < d → d < n → (∀ r, r < n → M r c = M r d) → dt n M = 0
  | 0, _, _, h, _, _ => absurd h (Nat.not_lt_zero _)
  | d + 1, M, c, hc, hd, h => by
    by_cases hcd : c = d
    · subst hcd
      exact dt_adj hd h
    · have e : dt n (cs (cs M d (fun r => M r (d + 1))) (d + 1) (fun r => M r d)) = 0 := by
        refine dt_eq (d := d) (c := c) (by omega) (by omega) (fun r hr => ?_)
        rw [cs_n (by omega), cs_n (by omega), cs_n (by omega), cs_c]
        exact h r hr
      rw [dt_swap (x := fun r => M r d) (y := fun r => M r (d + 1)) hd] at e
      have e2 : cs (cs M d (fun r => M r d)) (d + 1) (fun r => M r (d + 1)) = M := by
        rw [cs_self (n := n)]; exact cs_self (n := n)
      rw [e2] at e
      grind
theorem dt_ne {n c d : Nat} {M : Nat → Nat → Rat} (h : c ≠ d) (hc : c < n) (hd : d < n) (he : ∀ r, r < n → M r c = M r d) : dt n M = 0 := by
  rcases Nat.lt_or_ge c d with h1 | h1
  · exact dt_eq h1 hd he
  · exact dt_eq (show d < c by omega) hc (fun r hr => (he r hr).symm)
/-- the last column is 0 but for its last place -/
theorem dt_last {n : Nat} {M : Nat → Nat → Rat} (h : ∀ r, r < n → M r n = 0) : dt (n + 1) M = M n n * dt n M := by
  show sm (fun j => sg (n + j) * M n j * dt n (fun r c => M r (sk j c))) (n + 1) = _
  rw [sm_one (c := n) (by omega)]
  · rw [sg_dbl, dt_congr (n := n) (M' := M) (fun r c hr hc => by rw [show sk n c = c by unfold sk; split <;> omega])]
    grind
  · intro j hj hjn
    have e : dt n (fun r c => M r (sk j c)) = 0 := dt_z (c := n - 1) (by omega) (fun r hr => by
      show M r (sk j (n - 1)) = 0
      rw [show sk j (n - 1) = n by unfold sk; split <;> omega]
      exact h r hr)
    rw [e, Rat.mul_zero]
theorem dt_sm {n : Nat} {A : Nat → Nat → Rat} {c : Nat} {y : Nat → Rat} {B : Nat → Nat → Rat} (hc : c < n) : ∀ (m : Nat), dt n (cs A c (fun r => sm (fun i => y i * B i r) m)) = sm (fun i => y i * dt n (cs A c (B i))) m
  | 0 => dt_z hc (fun r _ => by rw [cs_c]; rfl)
  | m + 1 => by
    show _ = sm (fun i => y i * dt n (cs A c (B i))) m + y m * dt n (cs A c (B m))
    rw [← dt_sm hc m]
    rw [dt_lin (M1 := cs A c (fun r => sm (fun i => y i * B i r) m)) (M2 := cs A c (B m)) (a := 1) (b := y m) hc (fun r d _ _ h => by rw [cs_n h, cs_n h, cs_n h]; exact ⟨rfl, rfl⟩) (fun r _ => by
      rw [cs_c, cs_c, cs_c]
      show sm (fun i => y i * B i r) m + y m * B m r = _
      grind)]
    grind
theorem dt_cramer {n : Nat} {A : Nat → Nat → Rat} {y b : Nat → Rat} {i : Nat} (hi : i < n) (h : ∀ r, r < n → sm (fun k => y k * A r k) n = b r) : dt n (cs A i b) = y i * dt n A := by
  have e1 : dt n (cs A i b) = dt n (cs A i (fun r => sm (fun k => y k * (fun r2 => A r2 k) r) n)) := dt_congr (fun r c hr _ => by
    by_cases hci : c = i
    · subst hci; rw [cs_c, cs_c, ← h r hr]
    · rw [cs_n hci, cs_n hci])
  rw [e1, dt_sm (B := fun k r2 => A r2 k) hi n, sm_one hi]
  · rw [cs_self (n := n)]
  · intro k hk hki
    rw [dt_ne (c := i) (d := k) (fun e => hki e.symm) hi hk (fun r _ => by rw [cs_c, cs_n hki]), Rat.mul_zero]
def isI (x : Rat) : Prop := ∃ z : Int, x = (z : Rat)
theorem isI_add {x y : Rat} (hx : isI x) (hy : isI y) : isI (x + y) := by
  obtain ⟨a, rfl⟩ := hx; obtain ⟨b, rfl⟩ := hy
  exact ⟨a + b, (Rat.intCast_add a b).symm⟩
theorem isI_mul {x y : Rat} (hx : isI x) (hy : isI y) : isI (x * y) := by
  obtain ⟨a, rfl⟩ := hx; obtain ⟨b, rfl⟩ := hy
  exact ⟨a * b, (Rat.intCast_mul a b).symm⟩
theorem isI_neg {x : Rat} (hx : isI x) : isI (-x) := by
  obtain ⟨a, rfl⟩ := hx
  exact ⟨-a, rfl⟩
theorem isI_sm {f : Nat → Rat} : ∀ {n : Nat}, (∀ j, j < n → isI (f j)) → isI (sm f n)
  | 0, _ => ⟨0, rfl⟩
  | n + 1, h => isI_add (isI_sm (fun j hj => h j (by omega))) (h n (by omega))
theorem isI_sg : ∀ n : Nat, isI (sg n)
  | 0 => ⟨1, rfl⟩
  | n + 1 => isI_neg (isI_sg n)
theorem dt_int : ∀ {n : Nat} {M : Nat → Nat → Rat}, (∀ r c, r < n → c < n → isI (M r c)) → isI (dt n M)
  | 0, _, _ => ⟨1, rfl⟩
  | n + 1, M, h => isI_sm (fun j hj => isI_mul (isI_mul (isI_sg _) (h n j (by omega) hj)) (dt_int (fun r c hr hc => h r (sk j c) (by omega) (by unfold sk; split <;> omega))))
