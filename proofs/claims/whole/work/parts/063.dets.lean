/-! THERE IS A CHAIN for each LIST -/
theorem ex_max {P : Nat → Prop} (h0 : P 0) : ∀ (R : Nat), ∃ m, m ≤ R ∧ P m ∧ ∀ m', m < m' → m' ≤ R → ¬ P m'
  | 0 => ⟨0, Nat.le_refl 0, h0, fun m' h1 h2 => absurd h1 (by omega)⟩
  | R + 1 => by
    by_cases e : P (R + 1)
    · exact ⟨R + 1, Nat.le_refl _, e, fun m' h1 h2 => absurd h1 (by omega)⟩
    · obtain ⟨m, h1, h2, h3⟩ := ex_max h0 R
      refine ⟨m, by omega, h2, fun m' a b => ?_⟩
      by_cases e2 : m' = R + 1
      · rw [e2]; exact e
      · exact h3 m' a (by omega)
theorem ch_ex {q Wt : Nat} {w ln : Nat → Nat} {u : Nat → Nat → Nat} {li s0 : Nat} (hS : SrP q Wt w ln u) (hp : ∀ b, b < 8 → btL li b → 0 < ln b) (hs : s0 < 8) (hsl : btL li s0) : ∃ ns sl sz gof, ChP q ln u li ns sl sz gof := by
  have tr : ∀ (sl sz : Nat → Nat), (∀ s m, s < 8 → btL li s → m < ln s → sl (5 * s + m) = s ∧ sz (5 * s + m) = m) → ∀ R rw, ∃ g, trS u ln li 40 sl sz R rw g := fun sl sz h R rw => by
    obtain ⟨m, h1, ⟨s, h2, h3, h4, h5⟩, h6⟩ := ex_max (P := fun m => ∃ s, s < 8 ∧ btL li s ∧ m ≤ ln s ∧ lapD rw R (u s) m) ⟨s0, hs, hsl, Nat.zero_le _, fun j hj => absurd hj (by omega)⟩ R
    have hmax : ∀ m' s, m < m' → m' ≤ R → s < 8 → btL li s → m' ≤ ln s → ¬ lapD rw R (u s) m' := fun m' s a b x y z l => h6 m' a b ⟨s, x, y, z, l⟩
    have hl := hS.2.2.2.2.2.1 s
    by_cases e : m = ln s
    · exact ⟨100 + s, m, h1, hmax, Or.inr ⟨s, h2, h3, rfl, e, h5⟩⟩
    · obtain ⟨a1, a2⟩ := h s m h2 h3 (by omega)
      exact ⟨5 * s + m, m, h1, hmax, Or.inl ⟨by omega, a2, fun j hj => by rw [a1]; exact (h5 j hj).symm⟩⟩
  have hP : ∀ s m, s < 8 → btL li s → m < ln s → (if btL li ((5 * s + m) / 5) ∧ (5 * s + m) % 5 < ln ((5 * s + m) / 5) then (5 * s + m) / 5 else s0) = s ∧ (if btL li ((5 * s + m) / 5) ∧ (5 * s + m) % 5 < ln ((5 * s + m) / 5) then (5 * s + m) % 5 else 0) = m := fun s m h1 h2 h3 => by
    have hl := hS.2.2.2.2.2.1 s
    rw [show (5 * s + m) / 5 = s by omega, show (5 * s + m) % 5 = m by omega, if_pos ⟨h2, h3⟩, if_pos ⟨h2, h3⟩]
    exact ⟨rfl, rfl⟩
  refine ⟨40, fun k => if btL li (k / 5) ∧ k % 5 < ln (k / 5) then k / 5 else s0, fun k => if btL li (k / 5) ∧ k % 5 < ln (k / 5) then k % 5 else 0, fun x => Classical.choose (tr (fun k => if btL li (k / 5) ∧ k % 5 < ln (k / 5) then k / 5 else s0) (fun k => if btL li (k / 5) ∧ k % 5 < ln (k / 5) then k % 5 else 0) hP ((fun k => if btL li (k / 5) ∧ k % 5 < ln (k / 5) then k % 5 else 0) (x / 4) + 1) (rwW u (fun k => if btL li (k / 5) ∧ k % 5 < ln (k / 5) then k / 5 else s0) (fun k => if btL li (k / 5) ∧ k % 5 < ln (k / 5) then k % 5 else 0) (x / 4) (x % 4))), by decide, by decide, ?_, fun k hk => ?_, fun k c hk hc => ?_⟩
  · show (if btL li (0 / 5) ∧ 0 % 5 < ln (0 / 5) then 0 % 5 else 0) = 0
    split <;> rfl
  · show (if btL li (k / 5) ∧ k % 5 < ln (k / 5) then k / 5 else s0) < 8 ∧ btL li (if btL li (k / 5) ∧ k % 5 < ln (k / 5) then k / 5 else s0) ∧ (if btL li (k / 5) ∧ k % 5 < ln (k / 5) then k % 5 else 0) < ln (if btL li (k / 5) ∧ k % 5 < ln (k / 5) then k / 5 else s0)
    by_cases e : btL li (k / 5) ∧ k % 5 < ln (k / 5)
    · rw [if_pos e, if_pos e]; exact ⟨by omega, e.1, e.2⟩
    · rw [if_neg e, if_neg e]; exact ⟨hs, hsl, hp s0 hs hsl⟩
  · have hq := hS.2.1
    have hch := Classical.choose_spec (tr (fun k => if btL li (k / 5) ∧ k % 5 < ln (k / 5) then k / 5 else s0) (fun k => if btL li (k / 5) ∧ k % 5 < ln (k / 5) then k % 5 else 0) hP ((fun k => if btL li (k / 5) ∧ k % 5 < ln (k / 5) then k % 5 else 0) ((4 * k + c) / 4) + 1) (rwW u (fun k => if btL li (k / 5) ∧ k % 5 < ln (k / 5) then k / 5 else s0) (fun k => if btL li (k / 5) ∧ k % 5 < ln (k / 5) then k % 5 else 0) ((4 * k + c) / 4) ((4 * k + c) % 4)))
    have e1 : (4 * k + c) / 4 = k := by omega
    have e2 : (4 * k + c) % 4 = c := by omega
    simp only [e1, e2] at hch ⊢
    exact hch
/-! THE DETERMINANT of a LIST's equations -/
theorem ent_sum {ln : Nat → Nat} {u : Nat → Nat → Nat} {L : Nat} {F : Nat → Rat} (hF : ∀ a, ¬ btL L a → F a = 0) : ∀ {s k : Nat} {sl : Nat → Nat}, ent ln u L s = some (k, sl) → sm F s = sm (fun i => F (sl i)) k
  | 0, k, sl, h => by
    obtain ⟨rfl, rfl⟩ := Prod.mk.inj (Option.some.inj h)
    rfl
  | s + 1, k, sl, h => by
    cases e : ent ln u L s with
    | none =>
      have h2 : ent ln u L (s + 1) = none := ent_none (d := 1) e
      rw [h2] at h; cases h
    | some p =>
      obtain ⟨k0, sl0⟩ := p
      have ih := ent_sum hF e
      rw [ent_s e] at h
      by_cases hb : L / 2 ^ s % 2 = 1
      · rw [if_pos hb] at h
        by_cases hc : 0 < ln s ∧ k0 < 3 ∧ (∀ i, i < k0 → ¬ (liesW (u s) (ln s) (u (sl0 i)) (ln (sl0 i)) ∨ liesW (u (sl0 i)) (ln (sl0 i)) (u s) (ln s)))
        · rw [if_pos hc] at h
          obtain ⟨rfl, rfl⟩ := Prod.mk.inj (Option.some.inj h)
          show sm F s + F s = sm (fun i => F (va_up sl0 k0 s i)) k0 + F (va_up sl0 k0 s k0)
          rw [va_up_self, ih]
          congr 1
          exact sm_congr (fun j hj => by rw [va_up_ne _ _ (by omega)])
        · rw [if_neg hc] at h; cases h
      · rw [if_neg hb] at h
        obtain ⟨rfl, rfl⟩ := Prod.mk.inj (Option.some.inj h)
        show sm F s + F s = _
        rw [hF s hb, Rat.add_zero, ih]
theorem ent_up {ln : Nat → Nat} {u : Nat → Nat → Nat} {L : Nat} : ∀ {s k : Nat} {sl : Nat → Nat}, ent ln u L s = some (k, sl) → ∀ i j, i < j → j < k → sl i < sl j
  | 0, k, sl, h => by
    obtain ⟨rfl, rfl⟩ := Prod.mk.inj (Option.some.inj h)
    exact fun i j _ hj => absurd hj (by omega)
  | s + 1, k, sl, h => by
    cases e : ent ln u L s with
    | none =>
      have h2 : ent ln u L (s + 1) = none := ent_none (d := 1) e
      rw [h2] at h; cases h
    | some p =>
      obtain ⟨k0, sl0⟩ := p
      have ih := ent_up e
      have i2 := (ent_c e).2.1
      rw [ent_s e] at h
      by_cases hb : L / 2 ^ s % 2 = 1
      · rw [if_pos hb] at h
        by_cases hc : 0 < ln s ∧ k0 < 3 ∧ (∀ i, i < k0 → ¬ (liesW (u s) (ln s) (u (sl0 i)) (ln (sl0 i)) ∨ liesW (u (sl0 i)) (ln (sl0 i)) (u s) (ln s)))
        · rw [if_pos hc] at h
          obtain ⟨rfl, rfl⟩ := Prod.mk.inj (Option.some.inj h)
          intro i j hij hj
          rw [va_up_ne _ _ (show i ≠ k0 by omega)]
          by_cases e2 : j = k0
          · subst e2; rw [va_up_self]; exact (i2 i (by omega)).1
          · rw [va_up_ne _ _ e2]; exact ih i j hij (by omega)
        · rw [if_neg hc] at h; cases h
      · rw [if_neg hb] at h
        obtain ⟨rfl, rfl⟩ := Prod.mk.inj (Option.some.inj h)
        exact ih
theorem ent_noLs {ln : Nat → Nat} {u : Nat → Nat → Nat} {L k : Nat} {sl : Nat → Nat} (h : ent ln u L 8 = some (k, sl)) : noLs ln u L := fun a b ha hb hab h1 h2 => (ent_c h).2.2.2 a b ha hb hab h1 h2
/-- the determinant, over Rat -/
def dtQ (M : Nat → Rat) (K : Nat → Rat) (p : Nat) : Rat :=
  (fun (e : Nat → Nat → Rat) => e 0 0 * (e 1 1 * e 2 2 - e 1 2 * e 2 1) - e 0 1 * (e 1 0 * e 2 2 - e 1 2 * e 2 0) + e 0 2 * (e 1 0 * e 2 1 - e 1 1 * e 2 0)) (fun r c => if c = p then K r else M (r * 3 + c))
theorem enM_c {M K : Nat → Int} {p r c : Nat} : ((enM M K p r c : Int) : Rat) = if c = p then (K r : Rat) else (M (r * 3 + c) : Rat) := by
  unfold enM
  split <;> rfl
theorem dtM_c {M K : Nat → Int} {p : Nat} : ((dtM M K p : Int) : Rat) = dtQ (fun i => (M i : Rat)) (fun i => (K i : Rat)) p := by
  unfold dtM mnM dtQ
  simp only [Rat.intCast_add, Rat.intCast_sub, Rat.intCast_mul, enM_c]
theorem cram3 {M K y : Nat → Rat} {N : Rat} (h : ∀ r, r < 3 → sm (fun c => M (r * 3 + c) * y c) 3 = N * K r) : ∀ p, p < 3 → N * dtQ M K p = y p * dtQ M K 3 := by
  have h0 := h 0 (by decide)
  have h1 := h 1 (by decide)
  have h2 := h 2 (by decide)
  simp only [sm, Nat.zero_mul, Nat.one_mul, Nat.zero_add, Rat.zero_add] at h0 h1 h2
  intro p hp
  match p, hp with
  | 0, _ => simp only [dtQ]; simp (config := { decide := true }) only [if_false, if_true]; grind
  | 1, _ => simp only [dtQ]; simp (config := { decide := true }) only [if_false, if_true]; grind
  | 2, _ => simp only [dtQ]; simp (config := { decide := true }) only [if_false, if_true]; grind
theorem sm_cut {g : Nat → Rat} {k : Nat} : ∀ {n : Nat}, k ≤ n → sm (fun c => if c < k then g c else 0) n = sm g k
  | 0, h => by rw [show k = 0 by omega]; rfl
  | n + 1, h => by
    by_cases e : k = n + 1
    · subst e; exact sm_congr (fun j hj => if_pos hj)
    · show sm (fun c => if c < k then g c else 0) n + (if n < k then g n else 0) = _
      rw [sm_cut (show k ≤ n by omega), if_neg (by omega), Rat.add_zero]
theorem sm_ab {f : Nat → Rat} {a b n : Nat} (ha : a < n) (hb : b < n) (hab : a ≠ b) (h : ∀ j, j < n → j ≠ a → j ≠ b → f j = 0) : sm f n = f a + f b := by
  rw [sm_out ha, sm_one (c := b) hb (fun j hj hjb => ?_), if_neg (fun e => hab e.symm)]
  by_cases e : j = a
  · exact if_pos e
  · rw [if_neg e]; exact h j hj e hjb
theorem lapR_pos {Wt : Nat} {w v : Nat → Nat} {m : Nat} (hW : 1 ≤ Wt) (hm : 0 < m) (hm5 : m ≤ 5) (hw : ∀ j, j < m → 1 ≤ w (v j)) : 0 < lapR (pwR Wt w v) v m v m := by
  unfold lapR
  rw [sm_out (c := m - 1) (by omega), if_pos ⟨by omega, by omega, fun j _ => by congr 1; omega⟩]
  have h1 := pwR_pos (Wt := Wt) (w := w) (v := v) hW (k := m - 1 + 1) (fun j hj => hw j (by omega))
  have h2 := sm_nonneg (f := fun j => if j = m - 1 then (0 : Rat) else if j + 1 ≤ m ∧ j + 1 ≤ m ∧ lapD v m v (j + 1) then pwR Wt w v (j + 1) else 0) (n := 5) (fun j _ => by
    by_cases e : j = m - 1
    · rw [if_pos e]; exact Rat.le_refl
    · rw [if_neg e]
      by_cases c : j + 1 ≤ m ∧ j + 1 ≤ m ∧ lapD v m v (j + 1)
      · rw [if_pos c]; exact Rat.le_of_lt (pwR_pos hW (fun i hi => hw i (by omega)))
      · rw [if_neg c]; exact Rat.le_refl)
  grind
theorem idM_z : ∀ r, r < 3 → ∀ d, d < 3 → r ≠ d → idM (r * 3 + d) = 0 := by decide
theorem idM_1 : ∀ r, r < 3 → idM (r * 3 + r) = 1 := by decide
section DT
variable {q Wt : Nat} {w ln : Nat → Nat} {u : Nat → Nat → Nat} {L k ns : Nat} {sl s2 sz gof : Nat → Nat}
theorem rM_in {r d : Nat} (hr : r < k) (hd : d < k) (hk : k ≤ 3) (hS : SrP q Wt w ln u) : ((rM Wt w ln u k sl (r * 3 + d) : Int) : Rat) = lapR (pwR Wt w (u (sl r))) (u (sl d)) (ln (sl d)) (u (sl r)) (ln (sl r)) * ((shr Wt w (u (sl r)) (ln (sl r)) 0 : Nat) : Rat) := by
  unfold rM
  rw [show (r * 3 + d) / 3 = r by omega, show (r * 3 + d) % 3 = d by omega, if_pos ⟨hr, hd⟩, Rat.intCast_natCast]
  exact lapS_1 (fun j hj => ch_w1 hS hj)
theorem rM_out {r d : Nat} (h : ¬ (r < k ∧ d < k)) (hd : d < 3) : rM Wt w ln u k sl (r * 3 + d) = idM (r * 3 + d) := by
  unfold rM
  rw [show (r * 3 + d) / 3 = r by omega, show (r * 3 + d) % 3 = d by omega, if_neg h]
theorem sh0 (hS : SrP q Wt w ln u) (b : Nat) : (0 : Rat) < ((shr Wt w (u b) (ln b) 0 : Nat) : Rat) := natpos (shr_0 (fun j hj => ch_w1 hS hj))
/-- the equations of a LIST -/
theorem ls_eqs (hS : SrP q Wt w ln u) (he : ent ln u L 8 = some (k, sl)) (hC : ChP q ln u L ns s2 sz gof) : ∀ r, r < 3 → sm (fun d => ((rM Wt w ln u k sl (r * 3 + d) : Int) : Rat) * (if d < k then fM Wt w gof q ns (sl d) 0 else 0)) 3 = eM Wt w gof q ns 0 * ((rK Wt w ln u k sl r : Int) : Rat) := by
  intro r hr
  obtain ⟨hk3, -⟩ := ent_inv he
  by_cases e : r < k
  · obtain ⟨h1, h2⟩ := (ent_c he).2.1 r e
    have hN := ent_noLs he
    have h3 := eM_lead hC hS hN hC.1 h1 h2 ((ent_c he).2.2.1 _ h1 h2)
    rw [hC.2.2.1, lapR_0, ent_sum (F := fun s => fM Wt w gof q ns s 0 * lapR (pwR Wt w (u (sl r))) (u s) (ln s) (u (sl r)) (ln (sl r))) (fun a ha => by rw [fM_0 hC hS hC.1 ha]; exact Rat.zero_mul _) he] at h3
    rw [sm_congr (g := fun d => if d < k then ((shr Wt w (u (sl r)) (ln (sl r)) 0 : Nat) : Rat) * (fM Wt w gof q ns (sl d) 0 * lapR (pwR Wt w (u (sl r))) (u (sl d)) (ln (sl d)) (u (sl r)) (ln (sl r))) else 0) (fun d hd => by
      by_cases e2 : d < k
      · rw [if_pos e2, if_pos e2, rM_in e e2 hk3 hS]; grind
      · rw [if_neg e2, if_neg e2]; grind), sm_cut hk3, sm_mul]
    unfold rK
    rw [if_pos e, Rat.intCast_natCast]
    grind
  · unfold rK
    rw [if_neg e, sm_zero (fun d hd => ?_)]
    · show (0 : Rat) = _ * 0; grind
    · by_cases e2 : d < k
      · rw [rM_out (fun h => e h.1) hd, idM_z r hr d hd (by omega)]; exact Rat.zero_mul _
      · rw [if_neg e2]; exact Rat.mul_zero _
theorem ls_one (hS : SrP q Wt w ln u) (he : ent ln u L 8 = some (k, sl)) (hC : ChP q ln u L ns s2 sz gof) : sm (fun d => fM Wt w gof q ns (sl d) 0) k = 1 := by
  rw [← ent_sum (F := fun s => fM Wt w gof q ns s 0) (fun a ha => fM_0 hC hS hC.1 ha) he]
  exact fM_1 hC hS hC.1
theorem ls_ker (hS : SrP q Wt w ln u) (he : ent ln u L 8 = some (k, sl)) (hC : ChP q ln u L ns s2 sz gof) {d : Nat → Rat} (h : ∀ a, a < k → sm (fun r => d r * ((rM Wt w ln u k sl (r * 3 + a) : Int) : Rat)) k = 0) : ∀ r, r < k → d r = 0 := by
  intro r hr
  obtain ⟨hk3, -⟩ := ent_inv he
  have hup := ent_up he
  have inj : ∀ i j, i < k → j < k → sl i = sl j → i = j := fun i j hi hj e => by
    rcases Nat.lt_trichotomy i j with h1 | h1 | h1
    · have := hup i j h1 hj; omega
    · exact h1
    · have := hup j i h1 hi; omega
  have hcc : ∀ r, r < k → sm (fun i => if sl i = sl r then d i * ((shr Wt w (u (sl i)) (ln (sl i)) 0 : Nat) : Rat) else 0) k = d r * ((shr Wt w (u (sl r)) (ln (sl r)) 0 : Nat) : Rat) := fun r hr => by
    rw [sm_one (c := r) hr (fun j hj hjr => if_neg (fun e => hjr (inj j r hj hr e))), if_pos rfl]
  have key := ch_ker hC hS (ent_noLs he) (ent_c he).2.2.1 (cc := fun b => sm (fun i => if sl i = b then d i * ((shr Wt w (u (sl i)) (ln (sl i)) 0 : Nat) : Rat) else 0) k) (fun a ha hal => by
    rw [ent_sum (F := fun b => if btL L b then sm (fun i => if sl i = b then d i * ((shr Wt w (u (sl i)) (ln (sl i)) 0 : Nat) : Rat) else 0) k * lapR (pwR Wt w (u b)) (u a) (ln a) (u b) (ln b) else 0) (fun b hb => if_neg hb) he]
    obtain ⟨ea, hka⟩ := (ent_k he).2 a ha hal
    refine Eq.trans (sm_congr (fun i hi => ?_)) (h (bcN L a) hka)
    rw [if_pos ((ent_c he).2.1 i hi).2, hcc i hi, rM_in hi hka hk3 hS, ea]
    grind) ((ent_c he).2.1 r hr).1 ((ent_c he).2.1 r hr).2
  rw [hcc r hr] at key
  have := sh0 hS (sl r)
  have h0 : ((shr Wt w (u (sl r)) (ln (sl r)) 0 : Nat) : Rat) ≠ 0 := fun e => by rw [e] at this; exact absurd this Rat.lt_irrefl
  grind
theorem rM_diag (hS : SrP q Wt w ln u) (he : ent ln u L 8 = some (k, sl)) {r : Nat} (hr : r < k) : ((rM Wt w ln u k sl (r * 3 + r) : Int) : Rat) ≠ 0 := by
  obtain ⟨hk3, h2⟩ := ent_inv he
  rw [rM_in hr hr hk3 hS]
  have h1 := lapR_pos (Wt := Wt) (w := w) (v := u (sl r)) (by have := W_pos hS; omega) (h2 r hr).2 (hS.2.2.2.2.2.1 _) (fun j hj => ch_w1 hS hj)
  have h3 := Rat.mul_pos h1 (sh0 hS (sl r))
  intro e; rw [e] at h3; exact absurd h3 Rat.lt_irrefl
theorem dtQ_3 {M K : Nat → Rat} : dtQ M K 3 = M 0 * (M 4 * M 8 - M 5 * M 7) - M 1 * (M 3 * M 8 - M 5 * M 6) + M 2 * (M 3 * M 7 - M 4 * M 6) := by
  simp only [dtQ]
  simp (config := { decide := true }) only [if_false, if_true, Nat.zero_mul, Nat.one_mul, Nat.zero_add, Nat.reduceMul, Nat.reduceAdd]
theorem dt_nz (hS : SrP q Wt w ln u) (he : ent ln u L 8 = some (k, sl)) (hC : ChP q ln u L ns s2 sz gof) (hk : 0 < k) : ((dtM (rM Wt w ln u k sl) (rK Wt w ln u k sl) 3 : Int) : Rat) ≠ 0 := by
  rw [dtM_c, dtQ_3]
  obtain ⟨hk3, -⟩ := ent_inv he
  have hker := fun d h => ls_ker hS he hC (d := d) h
  have hd0 := rM_diag hS he hk
  have hout : ∀ r d, ¬ (r < k ∧ d < k) → d < 3 → ((rM Wt w ln u k sl (r * 3 + d) : Int) : Rat) = ((idM (r * 3 + d) : Int) : Rat) := fun r d h hd => by rw [rM_out h hd]
  intro h0
  rcases (show k = 1 ∨ k = 2 ∨ k = 3 by omega) with rfl | rfl | rfl
  · have a1 : ((rM Wt w ln u 1 sl 1 : Int) : Rat) = 0 := hout 0 1 (by omega) (by decide)
    have a2 : ((rM Wt w ln u 1 sl 2 : Int) : Rat) = 0 := hout 0 2 (by omega) (by decide)
    have a4 : ((rM Wt w ln u 1 sl 4 : Int) : Rat) = 1 := hout 1 1 (by omega) (by decide)
    have a5 : ((rM Wt w ln u 1 sl 5 : Int) : Rat) = 0 := hout 1 2 (by omega) (by decide)
    have a8 : ((rM Wt w ln u 1 sl 8 : Int) : Rat) = 1 := hout 2 2 (by omega) (by decide)
    simp only [a1, a2, a4, a5, a8] at h0
    exact hd0 (by show ((rM Wt w ln u 1 sl 0 : Int) : Rat) = 0; grind)
  · have a2 : ((rM Wt w ln u 2 sl 2 : Int) : Rat) = 0 := hout 0 2 (by omega) (by decide)
    have a5 : ((rM Wt w ln u 2 sl 5 : Int) : Rat) = 0 := hout 1 2 (by omega) (by decide)
    have a8 : ((rM Wt w ln u 2 sl 8 : Int) : Rat) = 1 := hout 2 2 (by omega) (by decide)
    simp only [a2, a5, a8] at h0
    have h1 := hker (fun r => if r = 0 then ((rM Wt w ln u 2 sl 4 : Int) : Rat) else -((rM Wt w ln u 2 sl 1 : Int) : Rat)) (fun a ha => by
      show (0 + _ * ((rM Wt w ln u 2 sl (0 * 3 + a) : Int) : Rat)) + _ * ((rM Wt w ln u 2 sl (1 * 3 + a) : Int) : Rat) = 0
      rw [if_pos rfl, if_neg (by decide)]
      match a, ha with
      | 0, _ => show (0 + _ * ((rM Wt w ln u 2 sl 0 : Int) : Rat)) + _ * ((rM Wt w ln u 2 sl 3 : Int) : Rat) = 0; grind
      | 1, _ => show (0 + _ * ((rM Wt w ln u 2 sl 1 : Int) : Rat)) + _ * ((rM Wt w ln u 2 sl 4 : Int) : Rat) = 0; grind) 0 (by decide)
    rw [if_pos rfl] at h1
    exact rM_diag hS he (r := 1) (by decide) h1
  · have cof : ∀ a b, ((rM Wt w ln u 3 sl (0 * 3 + a) : Int) : Rat) * ((rM Wt w ln u 3 sl (1 * 3 + b) : Int) : Rat) = ((rM Wt w ln u 3 sl (0 * 3 + b) : Int) : Rat) * ((rM Wt w ln u 3 sl (1 * 3 + a) : Int) : Rat) ∨ ¬ (a < b ∧ b < 3) := fun a b => by
      rcases Classical.em (a < b ∧ b < 3) with hab | hab
      · refine Or.inl ?_
        have e01 := hker (fun r => if r = 0 then ((rM Wt w ln u 3 sl 3 : Int) : Rat) * ((rM Wt w ln u 3 sl 7 : Int) : Rat) - ((rM Wt w ln u 3 sl 4 : Int) : Rat) * ((rM Wt w ln u 3 sl 6 : Int) : Rat) else if r = 1 then ((rM Wt w ln u 3 sl 1 : Int) : Rat) * ((rM Wt w ln u 3 sl 6 : Int) : Rat) - ((rM Wt w ln u 3 sl 0 : Int) : Rat) * ((rM Wt w ln u 3 sl 7 : Int) : Rat) else ((rM Wt w ln u 3 sl 0 : Int) : Rat) * ((rM Wt w ln u 3 sl 4 : Int) : Rat) - ((rM Wt w ln u 3 sl 1 : Int) : Rat) * ((rM Wt w ln u 3 sl 3 : Int) : Rat)) (fun x hx => by
          show ((0 + _ * ((rM Wt w ln u 3 sl (0 * 3 + x) : Int) : Rat)) + _ * ((rM Wt w ln u 3 sl (1 * 3 + x) : Int) : Rat)) + _ * ((rM Wt w ln u 3 sl (2 * 3 + x) : Int) : Rat) = 0
          simp (config := { decide := true }) only [if_true, if_false]
          match x, hx with
          | 0, _ => simp only [Nat.zero_mul, Nat.one_mul, Nat.zero_add, Nat.reduceMul, Nat.reduceAdd]; grind
          | 1, _ => simp only [Nat.zero_mul, Nat.one_mul, Nat.zero_add, Nat.reduceMul, Nat.reduceAdd]; grind
          | 2, _ => simp only [Nat.zero_mul, Nat.one_mul, Nat.zero_add, Nat.reduceMul, Nat.reduceAdd]; grind) 2 (by decide)
        have e02 := hker (fun r => if r = 0 then ((rM Wt w ln u 3 sl 3 : Int) : Rat) * ((rM Wt w ln u 3 sl 8 : Int) : Rat) - ((rM Wt w ln u 3 sl 5 : Int) : Rat) * ((rM Wt w ln u 3 sl 6 : Int) : Rat) else if r = 1 then ((rM Wt w ln u 3 sl 2 : Int) : Rat) * ((rM Wt w ln u 3 sl 6 : Int) : Rat) - ((rM Wt w ln u 3 sl 0 : Int) : Rat) * ((rM Wt w ln u 3 sl 8 : Int) : Rat) else ((rM Wt w ln u 3 sl 0 : Int) : Rat) * ((rM Wt w ln u 3 sl 5 : Int) : Rat) - ((rM Wt w ln u 3 sl 2 : Int) : Rat) * ((rM Wt w ln u 3 sl 3 : Int) : Rat)) (fun x hx => by
          show ((0 + _ * ((rM Wt w ln u 3 sl (0 * 3 + x) : Int) : Rat)) + _ * ((rM Wt w ln u 3 sl (1 * 3 + x) : Int) : Rat)) + _ * ((rM Wt w ln u 3 sl (2 * 3 + x) : Int) : Rat) = 0
          simp (config := { decide := true }) only [if_true, if_false]
          match x, hx with
          | 0, _ => simp only [Nat.zero_mul, Nat.one_mul, Nat.zero_add, Nat.reduceMul, Nat.reduceAdd]; grind
          | 1, _ => simp only [Nat.zero_mul, Nat.one_mul, Nat.zero_add, Nat.reduceMul, Nat.reduceAdd]; grind
          | 2, _ => simp only [Nat.zero_mul, Nat.one_mul, Nat.zero_add, Nat.reduceMul, Nat.reduceAdd]; grind) 2 (by decide)
        have e12 := hker (fun r => if r = 0 then ((rM Wt w ln u 3 sl 4 : Int) : Rat) * ((rM Wt w ln u 3 sl 8 : Int) : Rat) - ((rM Wt w ln u 3 sl 5 : Int) : Rat) * ((rM Wt w ln u 3 sl 7 : Int) : Rat) else if r = 1 then ((rM Wt w ln u 3 sl 2 : Int) : Rat) * ((rM Wt w ln u 3 sl 7 : Int) : Rat) - ((rM Wt w ln u 3 sl 1 : Int) : Rat) * ((rM Wt w ln u 3 sl 8 : Int) : Rat) else ((rM Wt w ln u 3 sl 1 : Int) : Rat) * ((rM Wt w ln u 3 sl 5 : Int) : Rat) - ((rM Wt w ln u 3 sl 2 : Int) : Rat) * ((rM Wt w ln u 3 sl 4 : Int) : Rat)) (fun x hx => by
          show ((0 + _ * ((rM Wt w ln u 3 sl (0 * 3 + x) : Int) : Rat)) + _ * ((rM Wt w ln u 3 sl (1 * 3 + x) : Int) : Rat)) + _ * ((rM Wt w ln u 3 sl (2 * 3 + x) : Int) : Rat) = 0
          simp (config := { decide := true }) only [if_true, if_false]
          match x, hx with
          | 0, _ => simp only [Nat.zero_mul, Nat.one_mul, Nat.zero_add, Nat.reduceMul, Nat.reduceAdd]; grind
          | 1, _ => simp only [Nat.zero_mul, Nat.one_mul, Nat.zero_add, Nat.reduceMul, Nat.reduceAdd]; grind
          | 2, _ => simp only [Nat.zero_mul, Nat.one_mul, Nat.zero_add, Nat.reduceMul, Nat.reduceAdd]; grind) 2 (by decide)
        simp (config := { decide := true }) only [if_true, if_false] at e01 e02 e12
        rcases (show (a = 0 ∧ b = 1) ∨ (a = 0 ∧ b = 2) ∨ (a = 1 ∧ b = 2) by omega) with ⟨rfl, rfl⟩ | ⟨rfl, rfl⟩ | ⟨rfl, rfl⟩ <;> simp only [Nat.zero_mul, Nat.one_mul, Nat.zero_add, Nat.add_zero, Nat.reduceAdd] <;> grind
      · exact Or.inr hab
    have c01 := (cof 0 1).resolve_right (fun h => h (by decide))
    have c12 := (cof 1 2).resolve_right (fun h => h (by decide))
    simp only [Nat.zero_mul, Nat.one_mul, Nat.zero_add, Nat.add_zero, Nat.reduceAdd] at c01 c12
    have h1 := hker (fun r => if r = 0 then ((rM Wt w ln u 3 sl 4 : Int) : Rat) else if r = 1 then -((rM Wt w ln u 3 sl 1 : Int) : Rat) else 0) (fun x hx => by
      show ((0 + _ * ((rM Wt w ln u 3 sl (0 * 3 + x) : Int) : Rat)) + _ * ((rM Wt w ln u 3 sl (1 * 3 + x) : Int) : Rat)) + _ * ((rM Wt w ln u 3 sl (2 * 3 + x) : Int) : Rat) = 0
      simp (config := { decide := true }) only [if_true, if_false]
      match x, hx with
      | 0, _ => simp only [Nat.zero_mul, Nat.one_mul, Nat.zero_add, Nat.reduceMul, Nat.reduceAdd]; grind
      | 1, _ => simp only [Nat.zero_mul, Nat.one_mul, Nat.zero_add, Nat.reduceMul, Nat.reduceAdd]; grind
      | 2, _ => simp only [Nat.zero_mul, Nat.one_mul, Nat.zero_add, Nat.reduceMul, Nat.reduceAdd]; grind) 0 (by decide)
    rw [if_pos rfl] at h1
    exact rM_diag hS he (r := 1) (by decide) h1
end DT
