/-! WHAT THE PROGRAMS' WAYS NEED AND GIVE -/
theorem divInt_m (a : Int) {b : Int} (hb : b ≠ 0) : Rat.divInt a b * (b : Rat) = (a : Rat) := by
  rcases Int.lt_or_gt_of_ne hb with h | h
  · obtain ⟨n, hn⟩ : ∃ n : Nat, b = -(n : Int) := ⟨b.natAbs, by omega⟩
    subst hn
    rw [Rat.divInt_neg', Rat.intCast_neg, Rat.intCast_natCast]
    have := divInt_D (-a) (D := n) (by omega)
    rw [Rat.intCast_neg] at this
    grind
  · obtain ⟨n, hn⟩ : ∃ n : Nat, b = (n : Int) := ⟨b.natAbs, by omega⟩
    subst hn
    rw [Rat.intCast_natCast]
    exact divInt_D a (by omega)
theorem divInt_is {a b : Int} {x : Rat} (hb : (b : Rat) ≠ 0) (h : x * (b : Rat) = (a : Rat)) : x = Rat.divInt a b := by
  have h2 := divInt_m a (b := b) (fun e => hb (by rw [e]; rfl))
  grind
theorem ssM_c {M K : Nat → Int} : ∀ {k : Nat}, ((ssM M K k : Int) : Rat) = sm (fun p => dtQ (fun i => (M i : Rat)) (fun i => (K i : Rat)) p) k
  | 0 => rfl
  | k + 1 => by
    show ((ssM M K k + dtM M K k : Int) : Rat) = _ + _
    rw [Rat.intCast_add, ssM_c, dtM_c]
section FI
variable {q Wt : Nat} {w ln : Nat → Nat} {u : Nat → Nat → Nat} {L k ns : Nat} {sl s2 sz gof : Nat → Nat}
theorem ent_kpos (he : ent ln u L 8 = some (k, sl)) (h1 : 1 ≤ L) (h2 : L < 256) : 0 < k := by
  have := cn_ne0 L h2 h1
  rw [← (ent_c he).1] at this
  omega
theorem ls_ss (hS : SrP q Wt w ln u) (he : ent ln u L 8 = some (k, sl)) (hC : ChP q ln u L ns s2 sz gof) (hk : 0 < k) : eM Wt w gof q ns 0 * ((ssM (rM Wt w ln u k sl) (rK Wt w ln u k sl) k : Int) : Rat) = ((dtM (rM Wt w ln u k sl) (rK Wt w ln u k sl) 3 : Int) : Rat) ∧ (∀ p, p < k → eM Wt w gof q ns 0 * ((dtM (rM Wt w ln u k sl) (rK Wt w ln u k sl) p : Int) : Rat) = fM Wt w gof q ns (sl p) 0 * ((dtM (rM Wt w ln u k sl) (rK Wt w ln u k sl) 3 : Int) : Rat)) := by
  obtain ⟨hk3, -⟩ := ent_inv he
  have hc := cram3 (M := fun i => ((rM Wt w ln u k sl i : Int) : Rat)) (K := fun i => ((rK Wt w ln u k sl i : Int) : Rat)) (y := fun d => if d < k then fM Wt w gof q ns (sl d) 0 else 0) (N := eM Wt w gof q ns 0) (ls_eqs hS he hC)
  have hp : ∀ p, p < k → eM Wt w gof q ns 0 * ((dtM (rM Wt w ln u k sl) (rK Wt w ln u k sl) p : Int) : Rat) = fM Wt w gof q ns (sl p) 0 * ((dtM (rM Wt w ln u k sl) (rK Wt w ln u k sl) 3 : Int) : Rat) := fun p hp => by
    have := hc p (by omega)
    rw [if_pos hp] at this
    rw [dtM_c, dtM_c]; exact this
  refine ⟨?_, hp⟩
  rw [ssM_c, ← sm_mul, sm_congr (g := fun p => ((dtM (rM Wt w ln u k sl) (rK Wt w ln u k sl) 3 : Int) : Rat) * fM Wt w gof q ns (sl p) 0) (fun p h => by rw [← dtM_c, hp p h]; exact Rat.mul_comm _ _), sm_mul, ls_one hS he hC]
  exact Rat.mul_one _
theorem ls_nz (hS : SrP q Wt w ln u) (he : ent ln u L 8 = some (k, sl)) (hC : ChP q ln u L ns s2 sz gof) (hk : 0 < k) : ((ssM (rM Wt w ln u k sl) (rK Wt w ln u k sl) k : Int) : Rat) ≠ 0 := fun e => by
  have h1 := (ls_ss hS he hC hk).1
  rw [e, Rat.mul_zero] at h1
  exact dt_nz hS he hC hk h1.symm
theorem eM_fit (hC : ChP q ln u L ns s2 sz gof) (hS : SrP q Wt w ln u) (hn : ns ≤ 13) : gjFit (mkA Wt w gof q ns (fun _ => Rat.divInt ((Wt : Nat) : Int) 1)) ns := by
  have hW2 := W_pos hS
  have hW4 : (Wt : Rat) ≤ 4 := by
    have : (Wt : Rat) ≤ ((4 : Nat) : Rat) := Rat.natCast_le_natCast.mpr hS.2.2.2.2.1
    exact this
  have hW0 := natpos (show 1 ≤ Wt by omega)
  refine ch_fit hC hS (z := fun i => (Wt : Rat) / 3 * chV sz i) (P := 1) (B := 5456) (by decide) (fun i _ => ?_) (fun i _ => ?_) (fun i hi => ?_) (fun i hi => ?_) (fun i hi => ?_) (by decide) ?_
  · rw [dI1]; exact isI_mul (isI_nat 1) ⟨_, rfl⟩
  · rw [dI1, Rat.intCast_natCast]; exact Rat.le_of_lt hW0
  · exact Rat.mul_nonneg (by grind) (Rat.le_of_lt (chV_b hC hS hi).1)
  · rw [dI1, Rat.intCast_natCast, chA_lin (x1 := chV sz) (x2 := fun _ => 0) (a := (Wt : Rat) / 3) (b := 0) hi (fun g _ => by grind)]
    have := Rat.mul_le_mul_of_nonneg_left (chV_A hC hS hi) (show 0 ≤ (Wt : Rat) / 3 by grind)
    grind
  · have h1 := (chV_b hC hS hi).2
    have h2 := Rat.le_of_lt (chV_b hC hS hi).1
    have h3 := Rat.mul_le_mul_of_nonneg_left h1 (show 0 ≤ (Wt : Rat) * ((Wt : Rat) / 3) by exact Rat.mul_nonneg (Rat.le_of_lt hW0) (by grind))
    have h4 := mul_rng (W := 4) (by decide) (show -4 ≤ (Wt : Rat) by grind) hW4 (show -4 ≤ (Wt : Rat) by grind) hW4
    show (Wt : Rat) * ((Wt : Rat) / 3 * chV sz i) ≤ ((5456 : Nat) : Rat)
    have e : ((5456 : Nat) : Rat) = 5456 := rfl
    rw [e]
    grind
  · have : 4 ^ (2 * ns - 1) ≤ 4 ^ 25 := Nat.pow_le_pow_right (by decide) (by omega)
    have h2 : 1 * 4 ^ (2 * ns - 1) * 5456 ≤ 1 * 4 ^ 25 * 5456 := Nat.mul_le_mul_right _ (Nat.mul_le_mul_left _ this)
    exact Nat.lt_of_le_of_lt h2 (by decide)
theorem sm_ge1 {f : Nat → Rat} {c n : Nat} (hc : c < n) (h : ∀ j, j < n → 0 ≤ f j) : f c ≤ sm f n := by
  rw [sm_out hc]
  have := sm_nonneg (f := fun j => if j = c then 0 else f j) (n := n) (fun j hj => by
    by_cases e : j = c
    · rw [if_pos e]; exact Rat.le_refl
    · rw [if_neg e]; exact h j hj)
  grind
theorem fM_fit (hC : ChP q ln u L ns s2 sz gof) (hS : SrP q Wt w ln u) (hn : ns ≤ 13) {s : Nat} (hs : s < 8) : gjFit (mkA Wt w gof q ns (fun x => Rat.divInt (hitZ w gof x s q) 1)) ns := by
  have hW4 : (Wt : Rat) ≤ 4 := by
    have : (Wt : Rat) ≤ ((4 : Nat) : Rat) := Rat.natCast_le_natCast.mpr hS.2.2.2.2.1
    exact this
  refine ch_fit hC hS (z := fun _ => 1) (P := 1) (B := 16) (by decide) (fun i _ => ?_) (fun i _ => ?_) (fun i hi => by decide) (fun i hi => ?_) (fun i hi => ?_) (by decide) ?_
  · rw [dI1]; exact isI_mul (isI_nat 1) ⟨_, rfl⟩
  · rw [dI1]; exact hitZ_nonneg
  · rw [dI1, ch_1 hC hS hi]
    exact sm_ge1 (f := fun s => ((hitZ w gof i s q : Int) : Rat)) hs (fun j _ => hitZ_nonneg)
  · show (Wt : Rat) * 1 ≤ ((16 : Nat) : Rat)
    have e : ((16 : Nat) : Rat) = 16 := rfl
    rw [e]; grind
  · have : 4 ^ (2 * ns - 1) ≤ 4 ^ 25 := Nat.pow_le_pow_right (by decide) (by omega)
    have h2 : 1 * 4 ^ (2 * ns - 1) * 16 ≤ 1 * 4 ^ 25 * 16 := Nat.mul_le_mul_right _ (Nat.mul_le_mul_left _ this)
    exact Nat.lt_of_le_of_lt h2 (by decide)
theorem chOK_of (hS : SrP q Wt w ln u) : chOK q Wt w ln u := by
  intro L k sl ns s2 sz gof hL1 hL2 he hI
  have hC := hI.toP
  have hk := ent_kpos he hL1 hL2
  obtain ⟨h1, h2⟩ := ls_ss hS he hC hk
  have hnz := ls_nz hS he hC hk
  have hN := eM_pos hC hS hC.1
  have hN0 : eM Wt w gof q ns 0 ≠ 0 := fun e => by rw [e] at hN; exact absurd hN Rat.lt_irrefl
  refine ⟨eM_fit hC hS hI.2.1, divInt_is hnz h1, fun s hs hsl => ⟨fM_fit hC hS hI.2.1 hs, divInt_is hnz ?_⟩⟩
  obtain ⟨a1, a2⟩ := (ent_k he).2 s hs hsl
  have h3 := h2 _ a2
  rw [a1, ← h1] at h3
  grind
theorem ssNZ_of (hS : SrP q Wt w ln u) : ssNZ Wt w ln u := by
  intro L k sl hL1 hL2 he
  have hk := ent_kpos he hL1 hL2
  obtain ⟨s1, s2⟩ := (ent_c he).2.1 0 hk
  obtain ⟨ns, s2, sz, gof, hC⟩ := ch_ex hS (ent_c he).2.2.1 s1 s2
  exact fun e => ls_nz hS he hC hk (by rw [e]; rfl)
/-- two WORDS -/
theorem two_eqs (hS : SrP q Wt w ln u) {a b : Nat} (ha : a < 8) (hb : b < 8) (hab : a ≠ b) (hpa : 0 < ln a) (hpb : 0 < ln b) (hN : noLs ln u (2 ^ a ||| 2 ^ b)) (hC : ChP q ln u (2 ^ a ||| 2 ^ b) ns s2 sz gof) : fM Wt w gof q ns a 0 + fM Wt w gof q ns b 0 = 1 ∧ 0 < fM Wt w gof q ns a 0 ∧ 0 < fM Wt w gof q ns b 0 ∧ fM Wt w gof q ns a 0 * (lapR (pwR Wt w (u a)) (u a) (ln a) (u a) (ln a) - lapR (pwR Wt w (u b)) (u a) (ln a) (u b) (ln b)) = fM Wt w gof q ns b 0 * (lapR (pwR Wt w (u b)) (u b) (ln b) (u b) (ln b) - lapR (pwR Wt w (u a)) (u b) (ln b) (u a) (ln a)) ∧ lapR (pwR Wt w (u a)) (u a) (ln a) (u a) (ln a) - lapR (pwR Wt w (u b)) (u a) (ln a) (u b) (ln b) ≠ 0 := by
  obtain ⟨-, -, -, hbt⟩ := or_pow a ha b hb
  have hla := (hbt a ha).mpr (Or.inl rfl)
  have hlb := (hbt b hb).mpr (Or.inr rfl)
  have hz : ∀ j, j < 8 → j ≠ a → j ≠ b → fM Wt w gof q ns j 0 = 0 := fun j hj h1 h2 => fM_0 hC hS hC.1 (fun h => ((hbt j hj).mp h).elim h1 h2)
  have f1 := fM_pos0 hC hS hN ha hla hpa
  have f2 := fM_pos0 hC hS hN hb hlb hpb
  have e1 := fM_1 hC hS hC.1
  rw [sm_ab ha hb hab hz] at e1
  have e2 := eM_lead hC hS hN hC.1 ha hla hpa
  have e3 := eM_lead hC hS hN hC.1 hb hlb hpb
  rw [hC.2.2.1, lapR_0, sm_ab ha hb hab (fun j hj h1 h2 => by rw [hz j hj h1 h2]; exact Rat.zero_mul _)] at e2 e3
  have e4 : fM Wt w gof q ns a 0 * (lapR (pwR Wt w (u a)) (u a) (ln a) (u a) (ln a) - lapR (pwR Wt w (u b)) (u a) (ln a) (u b) (ln b)) = fM Wt w gof q ns b 0 * (lapR (pwR Wt w (u b)) (u b) (ln b) (u b) (ln b) - lapR (pwR Wt w (u a)) (u b) (ln b) (u a) (ln a)) := by grind
  refine ⟨e1, f1, f2, e4, fun e5 => ?_⟩
  have n2 : fM Wt w gof q ns b 0 ≠ 0 := fun e => by rw [e] at f2; exact absurd f2 Rat.lt_irrefl
  rw [e5, Rat.mul_zero] at e4
  have e6 : lapR (pwR Wt w (u b)) (u b) (ln b) (u b) (ln b) - lapR (pwR Wt w (u a)) (u b) (ln b) (u a) (ln a) = 0 := by grind
  have key := ch_ker hC hS hN (fun x hx hxl => ((hbt x hx).mp hxl).elim (fun e => by rw [e]; exact hpa) (fun e => by rw [e]; exact hpb)) (cc := fun x => if x = a then 1 else -1) (fun x hx hxl => by
    rw [sm_ab ha hb hab (fun j hj h1 h2 => if_neg (fun h => ((hbt j hj).mp h).elim h1 h2)), if_pos hla, if_pos hlb, if_pos rfl, if_neg (fun e => hab e.symm)]
    rcases (hbt x hx).mp hxl with e | e
    · rw [e]; grind
    · rw [e]; grind) ha hla
  rw [if_pos rfl] at key
  exact absurd key (by decide)
theorem edg_R (hS : SrP q Wt w ln u) (a b : Nat) : ((edg Wt w (u a) (ln a) (u b) (ln b) : Int) : Rat) = (lapR (pwR Wt w (u a)) (u a) (ln a) (u a) (ln a) - lapR (pwR Wt w (u b)) (u a) (ln a) (u b) (ln b)) * (((shr Wt w (u a) (ln a) 0 : Nat) : Rat) * ((shr Wt w (u b) (ln b) 0 : Nat) : Rat)) := by
  unfold edg ownL
  rw [Rat.intCast_sub, Rat.intCast_mul, Rat.intCast_mul, Rat.intCast_natCast, Rat.intCast_natCast, Rat.intCast_natCast, Rat.intCast_natCast, lapS_1 (fun j hj => ch_w1 hS hj), lapS_1 (fun j hj => ch_w1 hS hj)]
  grind
theorem two_noLs {a b : Nat} (ha : a < 8) (hb : b < 8) (h : ¬ (liesW (u b) (ln b) (u a) (ln a) ∨ liesW (u a) (ln a) (u b) (ln b))) : noLs ln u (2 ^ a ||| 2 ^ b) := by
  obtain ⟨-, -, -, hbt⟩ := or_pow a ha b hb
  intro x y hx hy hxy h1 h2
  rcases (hbt x hx).mp h1 with rfl | rfl <;> rcases (hbt y hy).mp h2 with rfl | rfl
  · exact absurd rfl hxy
  · exact fun h3 => h (Or.inr h3)
  · exact fun h3 => h (Or.inl h3)
  · exact absurd rfl hxy
theorem two_ex (hS : SrP q Wt w ln u) {a b : Nat} (ha : a < 8) (hb : b < 8) (hpa : 0 < ln a) (hpb : 0 < ln b) : ∃ ns sl sz gof, ChP q ln u (2 ^ a ||| 2 ^ b) ns sl sz gof := by
  obtain ⟨-, -, -, hbt⟩ := or_pow a ha b hb
  exact ch_ex hS (fun x hx hxl => ((hbt x hx).mp hxl).elim (fun e => by rw [e]; exact hpa) (fun e => by rw [e]; exact hpb)) ha ((hbt a ha).mpr (Or.inl rfl))
theorem edgNZ_of (hS : SrP q Wt w ln u) : edgNZ Wt w ln u := by
  intro a b ha hb hpa hpb hl e
  have hab : a ≠ b := fun e => by subst e; exact hl (Or.inl (lies_self (hS.2.2.2.2.2.1 _)))
  obtain ⟨ns, s2, sz, gof, hC⟩ := two_ex hS ha hb hpa hpb
  obtain ⟨-, -, -, -, h5⟩ := two_eqs hS ha hb hab hpa hpb (two_noLs ha hb hl) hC
  have h6 := edg_R hS a b
  rw [e] at h6
  have h7 := Rat.mul_pos (sh0 hS a) (sh0 hS b)
  have h8 : ((shr Wt w (u a) (ln a) 0 : Nat) : Rat) * ((shr Wt w (u b) (ln b) 0 : Nat) : Rat) ≠ 0 := fun e => by rw [e] at h7; exact absurd h7 Rat.lt_irrefl
  have e0 : ((0 : Int) : Rat) = 0 := rfl
  rw [e0] at h6
  grind
theorem num_lt_den {x : Rat} (h : x < 1) : x.num < (x.den : Int) := by
  have h1 := Rat.num_divInt_den x
  have h2 := divInt_D x.num (D := x.den) x.den_pos
  rw [h1] at h2
  have h3 : (0 : Rat) < (x.den : Rat) := natpos x.den_pos
  have h4 := Rat.mul_lt_mul_of_pos_right h h3
  rw [h2, Rat.one_mul, ← Rat.intCast_natCast] at h4
  exact Rat.intCast_lt_intCast.mp h4
theorem odOK_of (hS : SrP q Wt w ln u) : odOK q Wt w ln u := by
  intro a b ns sl sz gof ha hb hab hpa hpb hl hI
  have hC := hI.toP
  obtain ⟨h1, h2, h3, h4, h5⟩ := two_eqs hS ha hb hab hpa hpb (two_noLs ha hb hl) hC
  have hlt := num_lt_den (x := fM Wt w gof q ns a 0) (by grind)
  refine ⟨fM_fit hC hS hI.2.1 ha, Rat.le_of_lt h2, hlt, ?_⟩
  have h6 := edg_R hS a b
  have h7 := edg_R hS b a
  have p1 := sh0 hS a
  have p2 := sh0 hS b
  have n1 : ((shr Wt w (u a) (ln a) 0 : Nat) : Rat) ≠ 0 := fun e => by rw [e] at p1; exact absurd p1 Rat.lt_irrefl
  have n2 : ((shr Wt w (u b) (ln b) 0 : Nat) : Rat) ≠ 0 := fun e => by rw [e] at p2; exact absurd p2 Rat.lt_irrefl
  have n3 : fM Wt w gof q ns b 0 ≠ 0 := fun e => by rw [e] at h3; exact absurd h3 Rat.lt_irrefl
  have hne : ((edg Wt w (u a) (ln a) (u b) (ln b) : Int) : Rat) ≠ 0 := by
    rw [h6]
    intro e
    grind
  refine divInt_is hne ?_
  have d0 : ((fM Wt w gof q ns a 0).den : Int) - (fM Wt w gof q ns a 0).num ≠ 0 := by omega
  have d1 := divInt_m (fM Wt w gof q ns a 0).num d0
  have d2 : ((fM Wt w gof q ns a 0).num : Rat) = fM Wt w gof q ns a 0 * ((fM Wt w gof q ns a 0).den : Rat) := by
    have h8 := divInt_D (fM Wt w gof q ns a 0).num (D := (fM Wt w gof q ns a 0).den) (fM Wt w gof q ns a 0).den_pos
    rw [Rat.num_divInt_den] at h8
    exact h8.symm
  have d3 : ((((fM Wt w gof q ns a 0).den : Int) - (fM Wt w gof q ns a 0).num : Int) : Rat) = fM Wt w gof q ns b 0 * ((fM Wt w gof q ns a 0).den : Rat) := by
    rw [Rat.intCast_sub, Rat.intCast_natCast, d2]; grind
  have d4 : ((fM Wt w gof q ns a 0).den : Rat) ≠ 0 := fun e => by have := natpos (fM Wt w gof q ns a 0).den_pos; rw [e] at this; exact absurd this Rat.lt_irrefl
  rw [d3, d2] at d1
  have d5 : Rat.divInt (fM Wt w gof q ns a 0).num (((fM Wt w gof q ns a 0).den : Int) - (fM Wt w gof q ns a 0).num) * fM Wt w gof q ns b 0 = fM Wt w gof q ns a 0 := by grind
  rw [h6, h7]
  grind
end FI
/-! THE WAIT for one WORD, and its SPREAD -/
theorem bt_self : ∀ k, k < 8 → btL (2 ^ k) k := by decide +kernel
theorem lapR_lin1 {f g h : Nat → Rat} {a b : Rat} {x v : Nat → Nat} {n m : Nat} (e : ∀ k, f (k + 1) = a * g (k + 1) + b * h (k + 1)) : lapR f x n v m = a * lapR g x n v m + b * lapR h x n v m := by
  unfold lapR
  refine sm_lin (fun k _ => ?_)
  by_cases c : k + 1 ≤ n ∧ k + 1 ≤ m ∧ lapD x n v (k + 1)
  · rw [if_pos c, if_pos c, if_pos c, e]
  · rw [if_neg c, if_neg c, if_neg c]; grind
theorem wsum_up {w : Nat → Nat} {c : Nat} : ∀ {q : Nat}, c ≤ q → wsum w c ≤ wsum w q
  | 0, h => by rw [show c = 0 by omega]; exact Nat.le_refl _
  | q + 1, h => by
    by_cases e : c = q + 1
    · rw [e]; exact Nat.le_refl _
    · have := wsum_up (w := w) (c := c) (q := q) (by omega)
      show wsum w c ≤ wsum w q + w q
      omega
section WA
variable {q Wt : Nat} {w ln : Nat → Nat} {u : Nat → Nat → Nat} {k ns : Nat} {sl sz gof : Nat → Nat}
theorem one_noLs (hk : k < 8) : noLs ln u (2 ^ k) := fun a b ha hb hab h1 h2 => absurd ((bt_pow k hk a ha h1).trans (bt_pow k hk b hb h2).symm) hab
theorem one_sum (hC : ChP q ln u (2 ^ k) ns sl sz gof) (hk : k < 8) {i : Nat} (hi : i < ns) {F : Nat → Rat} : sm (fun s => ((hitZ w gof i s q : Int) : Rat) * F s) 8 = ((hitZ w gof i k q : Int) : Rat) * F k :=
  sm_one hk (fun j hj hjk => by rw [hit_0 hC hi (fun h => hjk (bt_pow k hk j hj h))]; exact Rat.zero_mul _)
theorem one_e (hC : ChP q ln u (2 ^ k) ns sl sz gof) (hS : SrP q Wt w ln u) (hk : k < 8) (hp : 0 < ln k) {i : Nat} (hi : i < ns) : eM Wt w gof q ns i = lapR (pwR Wt w (u k)) (u k) (ln k) (u k) (ln k) - lapR (pwR Wt w (u k)) (u (sl i)) (sz i) (u k) (ln k) := by
  have h1 := fM_1 hC hS hi
  rw [sm_one (c := k) hk (fun j hj hjk => fM_0 hC hS hi (fun h => hjk (bt_pow k hk j hj h)))] at h1
  rw [eM_lead hC hS (one_noLs hk) hi hk (bt_self k hk) hp, sm_one (c := k) hk (fun j hj hjk => by rw [fM_0 hC hS hi (fun h => hjk (bt_pow k hk j hj h))]; exact Rat.zero_mul _), h1, Rat.one_mul]
theorem r2S_sm (hC : ChP q ln u (2 ^ k) ns sl sz gof) {e : Nat → Rat} {i : Nat} (hi : i < ns) : ∀ {c : Nat}, c ≤ q → r2S Wt w gof e i c = (Wt : Rat) + 2 * ltS w gof ns i e (fun _ => 0) c
  | 0, _ => by
    show Rat.divInt ((Wt : Nat) : Int) 1 = (Wt : Rat) + 2 * 0
    rw [dI1, Rat.intCast_natCast]; grind
  | c + 1, hc => by
    have ih := r2S_sm hC (e := e) hi (c := c) (by omega)
    have hg := (hC.2.2.2.2 i c hi hc).gb
    have hn := hC.2.1
    show _ = (Wt : Rat) + 2 * (ltS w gof ns i e (fun _ => 0) c + (w c : Rat) * (if gof (4 * i + c) < ns then e (gof (4 * i + c)) else 0))
    by_cases e1 : gof (4 * i + c) < ns
    · rw [← r2S_y (by omega), ih, if_pos e1, dI1, Rat.intCast_mul, Rat.intCast_natCast]
      have : ((2 : Int) : Rat) = 2 := rfl
      rw [this]; grind
    · rw [r2S_n (by omega), ih, if_neg e1]; grind
theorem r2_is (hC : ChP q ln u (2 ^ k) ns sl sz gof) (hS : SrP q Wt w ln u) {i : Nat} (hi : i < ns) : r2S Wt w gof (eM Wt w gof q ns) i q = (Wt : Rat) * (2 * eM Wt w gof q ns i - 1) := by
  rw [r2S_sm hC hi (Nat.le_refl q)]
  have h := eM_is hC hS hi
  unfold chA at h
  grind
theorem one_s (hC : ChP q ln u (2 ^ k) ns sl sz gof) (hS : SrP q Wt w ln u) (hk : k < 8) (hp : 0 < ln k) : sM Wt w gof q ns 0 = lapR (pwR Wt w (u k)) (u k) (ln k) (u k) (ln k) + 2 * (lapR (pwR Wt w (u k)) (u k) (ln k) (u k) (ln k) * lapR (pwR Wt w (u k)) (u k) (ln k) (u k) (ln k)) - 2 * lapR (fun j => (j : Rat) * pwR Wt w (u k) j) (u k) (ln k) (u k) (ln k) := by
  have hN := one_noLs (ln := ln) (u := u) hk
  have hb := bt_self k hk
  have key := ch_sol hC hS (r := fun i => r2S Wt w gof (eM Wt w gof q ns) i q) (x := fun i => 1 * (((1 + 2 * lapR (pwR Wt w (u k)) (u k) (ln k) (u k) (ln k)) * lapR (pwR Wt w (u k)) (u k) (ln k) (u k) (ln k) - 2 * lapR (fun j => (j : Rat) * pwR Wt w (u k) j) (u k) (ln k) (u k) (ln k)) * 1 + -(1 + 2 * lapR (pwR Wt w (u k)) (u k) (ln k) (u k) (ln k)) * lapR (pwR Wt w (u k)) (u (sl i)) (sz i) (u k) (ln k)) + 2 * lapR (fun j => (j : Rat) * pwR Wt w (u k) j) (u (sl i)) (sz i) (u k) (ln k)) (fun i hi => by
    rw [r2_is hC hS hi, one_e hC hS hk hp hi]
    rw [chA_lin (x1 := fun i => ((1 + 2 * lapR (pwR Wt w (u k)) (u k) (ln k) (u k) (ln k)) * lapR (pwR Wt w (u k)) (u k) (ln k) (u k) (ln k) - 2 * lapR (fun j => (j : Rat) * pwR Wt w (u k) j) (u k) (ln k) (u k) (ln k)) * 1 + -(1 + 2 * lapR (pwR Wt w (u k)) (u k) (ln k) (u k) (ln k)) * lapR (pwR Wt w (u k)) (u (sl i)) (sz i) (u k) (ln k)) (x2 := fun i => lapR (fun j => (j : Rat) * pwR Wt w (u k) j) (u (sl i)) (sz i) (u k) (ln k)) (a := 1) (b := 2) hi (fun g _ => rfl)]
    rw [chA_lin (x1 := fun _ => 1) (x2 := fun i => lapR (pwR Wt w (u k)) (u (sl i)) (sz i) (u k) (ln k)) (a := (1 + 2 * lapR (pwR Wt w (u k)) (u k) (ln k) (u k) (ln k)) * lapR (pwR Wt w (u k)) (u k) (ln k) (u k) (ln k) - 2 * lapR (fun j => (j : Rat) * pwR Wt w (u k) j) (u k) (ln k) (u k) (ln k)) (b := -(1 + 2 * lapR (pwR Wt w (u k)) (u k) (ln k) (u k) (ln k))) hi (fun g _ => rfl)]
    rw [ch_1 hC hS hi, ch_p1 hC hS hN hi hk hb hp, one_sum hC hk hi]
    have h1 := ch_ph (Wt := Wt) hC hS hN (f := fun j => (j : Rat) * pwR Wt w (u k) j) (h := fun j => (Wt : Rat) * ((j : Rat) * pwR Wt w (u k) j) + (Wt : Rat) * pwR Wt w (u k) j) hi hk hb hp (fun j hj => by
      have := pwR_s (Wt := Wt) (w := w) (v := u k) (k := j) (ch_w1 hS hj)
      show ((j + 1 : Nat) : Rat) * pwR Wt w (u k) (j + 1) * (w (u k j) : Rat) = _
      rw [Rat.mul_assoc, this, Rat.natCast_add]
      have e1 : ((1 : Nat) : Rat) = 1 := rfl
      rw [e1]; grind)
    rw [h1, one_sum hC hk hi, lapR_lin (f := fun j => (Wt : Rat) * ((j : Rat) * pwR Wt w (u k) j) + (Wt : Rat) * pwR Wt w (u k) j) (g := fun j => (j : Rat) * pwR Wt w (u k) j) (h := pwR Wt w (u k)) (a := (Wt : Rat)) (b := (Wt : Rat)) (fun _ => rfl)]
    have h2 : sm (fun s => ((hitZ w gof i s q : Int) : Rat)) 8 = ((hitZ w gof i k q : Int) : Rat) := by
      have := one_sum (w := w) hC hk hi (F := fun _ => 1)
      rw [Rat.mul_one, sm_congr (g := fun s => ((hitZ w gof i s q : Int) : Rat)) (fun s _ => Rat.mul_one _)] at this
      exact this
    rw [h2]
    have e0 : ((0 : Nat) : Rat) = 0 := rfl
    have e1 : pwR Wt w (u k) 0 = 1 := rfl
    rw [e0, e1]
    grind) hC.1
  show gj (mkA Wt w gof q ns (fun i => r2S Wt w gof (eM Wt w gof q ns) i q)) ns 0 ns = _
  rw [key, hC.2.2.1, lapR_0, lapR_0]
  grind
/-- a bound of the means -/
theorem eM_le {L : Nat} (hC : ChP q ln u L ns sl sz gof) (hS : SrP q Wt w ln u) {i : Nat} (hi : i < ns) : eM Wt w gof q ns i ≤ 1364 := by
  have hW4 : (Wt : Rat) ≤ 4 := by
    have : (Wt : Rat) ≤ ((4 : Nat) : Rat) := Rat.natCast_le_natCast.mpr hS.2.2.2.2.1
    exact this
  have hW0 := natpos (show 1 ≤ Wt by have := W_pos hS; omega)
  have e1 : ∀ j, j < ns → chA Wt w gof q ns (fun i => (Wt : Rat) / 3 * chV sz i + -1 * eM Wt w gof q ns i) j = (Wt : Rat) / 3 * chA Wt w gof q ns (chV sz) j + -1 * (Wt : Rat) := fun j hj => by
    rw [chA_lin (x1 := chV sz) (x2 := eM Wt w gof q ns) (a := (Wt : Rat) / 3) (b := -1) hj (fun _ _ => rfl), eM_is hC hS hj]
  have h1 := ch_nonneg hC hS (r := fun j => (Wt : Rat) / 3 * chA Wt w gof q ns (chV sz) j + -1 * (Wt : Rat)) (fun j hj => by
    have := Rat.mul_le_mul_of_nonneg_left (chV_A hC hS hj) (show 0 ≤ (Wt : Rat) / 3 by grind)
    grind) hi
  rw [ch_sol hC hS (x := fun i => (Wt : Rat) / 3 * chV sz i + -1 * eM Wt w gof q ns i) e1 hi] at h1
  have h2 := (chV_b hC hS hi).2
  have h3 := (chV_b hC hS hi).1
  have h4 := Rat.mul_le_mul_of_nonneg_left h2 (show 0 ≤ (Wt : Rat) / 3 by grind)
  grind
theorem lapR_int {x v : Nat → Nat} {n m : Nat} (hw : ∀ j, j < m → 1 ≤ w (v j)) : isI (((shr Wt w v m 0 : Nat) : Rat) * lapR (pwR Wt w v) x n v m) := by
  unfold lapR
  rw [← sm_mul]
  refine isI_sm (fun j _ => ?_)
  by_cases c : j + 1 ≤ n ∧ j + 1 ≤ m ∧ lapD x n v (j + 1)
  · rw [if_pos c, Rat.mul_comm, ← shr_pw hw c.2.1]; exact isI_nat _
  · rw [if_neg c, Rat.mul_zero]; exact isI_nat 0
theorem one_int (hC : ChP q ln u (2 ^ k) ns sl sz gof) (hS : SrP q Wt w ln u) (hk : k < 8) (hp : 0 < ln k) {i : Nat} (hi : i < ns) : isI (((shr Wt w (u k) (ln k) 0 : Nat) : Rat) * eM Wt w gof q ns i) := by
  rw [one_e hC hS hk hp hi]
  have h1 := lapR_int (Wt := Wt) (w := w) (v := u k) (m := ln k) (x := u k) (n := ln k) (fun j hj => ch_w1 hS hj)
  have h2 := lapR_int (Wt := Wt) (w := w) (v := u k) (m := ln k) (x := u (sl i)) (n := sz i) (fun j hj => ch_w1 hS hj)
  have h3 := isI_sub h1 h2
  have e : ((shr Wt w (u k) (ln k) 0 : Nat) : Rat) * (lapR (pwR Wt w (u k)) (u k) (ln k) (u k) (ln k) - lapR (pwR Wt w (u k)) (u (sl i)) (sz i) (u k) (ln k)) = ((shr Wt w (u k) (ln k) 0 : Nat) : Rat) * lapR (pwR Wt w (u k)) (u k) (ln k) (u k) (ln k) - ((shr Wt w (u k) (ln k) 0 : Nat) : Rat) * lapR (pwR Wt w (u k)) (u (sl i)) (sz i) (u k) (ln k) := by grind
  rw [e]; exact h3
theorem wc4 (hS : SrP q Wt w ln u) {c : Nat} (hc : c < q) : w c ≤ 4 := by
  have h1 := wsum_up (w := w) (show c + 1 ≤ q by omega)
  have h2 : wsum w (c + 1) = wsum w c + w c := rfl
  have h3 := hS.2.2.2.1
  have h4 := hS.2.2.2.2.1
  omega
theorem r2_b (hC : ChP q ln u (2 ^ k) ns sl sz gof) (hS : SrP q Wt w ln u) {i c : Nat} (hi : i < ns) (hc : c ≤ q) : 0 ≤ r2S Wt w gof (eM Wt w gof q ns) i c ∧ r2S Wt w gof (eM Wt w gof q ns) i c ≤ 10916 := by
  rw [r2S_sm hC hi hc]
  have hW4 : (Wt : Rat) ≤ 4 := by
    have : (Wt : Rat) ≤ ((4 : Nat) : Rat) := Rat.natCast_le_natCast.mpr hS.2.2.2.2.1
    exact this
  have hW0 := natpos (show 1 ≤ Wt by have := W_pos hS; omega)
  have h1 := ltS_nonneg (w := w) (q := c) (gof := gof) (i := i) (x := eM Wt w gof q ns) (y := fun _ => 0) (fun g hg => Rat.le_of_lt (eM_pos hC hS hg)) (fun _ => Rat.le_refl)
  have h2 := ltS_le (w := w) (q := c) (gof := gof) (i := i) (x := eM Wt w gof q ns) (y := fun _ => 0) (B := 1364) (fun g hg => eM_le hC hS hg) (fun _ => by decide)
  rw [← wsum_sm] at h2
  have h3 : ((wsum w c : Nat) : Rat) ≤ 4 := by
    have : ((wsum w c : Nat) : Rat) ≤ ((4 : Nat) : Rat) := Rat.natCast_le_natCast.mpr (by have := wsum_up (w := w) hc; have := hS.2.2.2.1; have := hS.2.2.2.2.1; omega)
    exact this
  constructor <;> grind
theorem r2_int (hC : ChP q ln u (2 ^ k) ns sl sz gof) (hS : SrP q Wt w ln u) (hk : k < 8) (hp : 0 < ln k) {i c : Nat} (hi : i < ns) (hc : c ≤ q) : isI (((shr Wt w (u k) (ln k) 0 : Nat) : Rat) * r2S Wt w gof (eM Wt w gof q ns) i c) := by
  rw [r2S_sm hC hi hc]
  have e : ((shr Wt w (u k) (ln k) 0 : Nat) : Rat) * ((Wt : Rat) + 2 * ltS w gof ns i (eM Wt w gof q ns) (fun _ => 0) c) = ((shr Wt w (u k) (ln k) 0 : Nat) : Rat) * (Wt : Rat) + ((2 : Nat) : Rat) * (((shr Wt w (u k) (ln k) 0 : Nat) : Rat) * ltS w gof ns i (eM Wt w gof q ns) (fun _ => 0) c) := by
    have : ((2 : Nat) : Rat) = 2 := rfl
    rw [this]; grind
  rw [e]
  refine isI_add (isI_mul (isI_nat _) (isI_nat _)) (isI_mul (isI_nat 2) ?_)
  unfold ltS
  rw [← sm_mul]
  refine isI_sm (fun j _ => ?_)
  by_cases e1 : gof (4 * i + j) < ns
  · rw [if_pos e1]
    have := isI_mul (isI_nat (w j)) (one_int hC hS hk hp e1)
    have e2 : ((shr Wt w (u k) (ln k) 0 : Nat) : Rat) * ((w j : Rat) * eM Wt w gof q ns (gof (4 * i + j))) = (w j : Rat) * (((shr Wt w (u k) (ln k) 0 : Nat) : Rat) * eM Wt w gof q ns (gof (4 * i + j))) := by grind
    rw [e2]; exact this
  · rw [if_neg e1, Rat.mul_zero, Rat.mul_zero]; exact isI_nat 0
theorem waOK_of (hS : SrP q Wt w ln u) : waOK q Wt w ln u := by
  intro k ns sl sz gof hk hp hI
  have hC := hI.toP
  have hns : ns ≤ 5 := by have := hI.2.2.2.2.2; rw [cn_pow k hk] at this; omega
  have e0 := one_e hC hS hk hp hC.1
  rw [hC.2.2.1, lapR_0] at e0
  have e0' : eM Wt w gof q ns 0 = lapR (pwR Wt w (u k)) (u k) (ln k) (u k) (ln k) := by grind
  have hs := one_s hC hS hk hp
  have hw : ∀ j, j < ln k → 1 ≤ w (u k j) := fun j hj => ch_w1 hS hj
  have hP1 := shr_0 (Wt := Wt) hw
  have hP2 : shr Wt w (u k) (ln k) 0 ≤ 1024 := shr_le hS.2.2.2.2.1 (fun j hj => wc4 hS (hS.2.2.2.2.2.2 k j hj)) (hS.2.2.2.2.2.1 k) (Nat.zero_le _)
  have hPp := sh0 hS k
  have hPn : ((shr Wt w (u k) (ln k) 0 : Nat) : Rat) ≠ 0 := fun e => by rw [e] at hPp; exact absurd hPp Rat.lt_irrefl
  have hPb : ∀ B, B ≤ 2 ^ 40 → shr Wt w (u k) (ln k) 0 * B < 2 ^ 63 := fun B hB => Nat.lt_of_le_of_lt (Nat.mul_le_mul hP2 hB) (by decide)
  have hPPb : ∀ B, B ≤ 2 ^ 40 → shr Wt w (u k) (ln k) 0 * shr Wt w (u k) (ln k) 0 * B < 2 ^ 63 := fun B hB => Nat.lt_of_le_of_lt (Nat.mul_le_mul (Nat.mul_le_mul hP2 hP2) hB) (by decide)
  have own : ((ownL Wt w (u k) (ln k) : Nat) : Rat) = lapR (pwR Wt w (u k)) (u k) (ln k) (u k) (ln k) * ((shr Wt w (u k) (ln k) 0 : Nat) : Rat) := lapS_1 hw
  have spr : ((sprS Wt w (u k) (ln k) : Nat) : Rat) = (2 * lapR (fun j => (j : Rat) * pwR Wt w (u k) j) (u k) (ln k) (u k) (ln k) - lapR (pwR Wt w (u k)) (u k) (ln k) (u k) (ln k)) * ((shr Wt w (u k) (ln k) 0 : Nat) : Rat) := by
    have h1 := lapS_R (Wt := Wt) (x := u k) (n := ln k) hw (fun j => 2 * j - 1)
    show ((lapS (fun j => (2 * j - 1) * shr Wt w (u k) (ln k) j) (u k) (ln k) (u k) (ln k) 5 : Nat) : Rat) = _
    rw [h1, lapR_lin1 (f := fun j => ((2 * j - 1 : Nat) : Rat) * pwR Wt w (u k) j) (g := fun j => (j : Rat) * pwR Wt w (u k) j) (h := pwR Wt w (u k)) (a := 2) (b := -1) (fun j => by
      show ((2 * (j + 1) - 1 : Nat) : Rat) * _ = 2 * (((j + 1 : Nat) : Rat) * _) + _
      rw [show 2 * (j + 1) - 1 = 2 * j + 1 by omega, Rat.natCast_add, Rat.natCast_add, Rat.natCast_mul]
      have a1 : ((1 : Nat) : Rat) = 1 := rfl
      have a2 : ((2 : Nat) : Rat) = 2 := rfl
      rw [a1, a2]; grind)]
    grind
  have hspread : sM Wt w gof q ns 0 + -(eM Wt w gof q ns 0) * eM Wt w gof q ns 0 = fSpread Wt w (u k) (ln k) := by
    unfold fSpread
    refine divInt_is ?_ ?_
    · rw [Rat.intCast_mul, Rat.intCast_natCast]
      intro e; grind
    · rw [Rat.intCast_sub, Rat.intCast_mul, Rat.intCast_mul, Rat.intCast_mul, Rat.intCast_natCast, Rat.intCast_natCast, Rat.intCast_natCast, own, spr, hs, e0']
      grind
  have hb0 := eM_le hC hS hC.1
  have hp0 := eM_pos hC hS hC.1
  have sq1 := Rat.mul_nonneg (Rat.le_of_lt hp0) (Rat.le_of_lt hp0)
  have sq2 := mul_rng (W := 1364) (by decide) (show -1364 ≤ eM Wt w gof q ns 0 by grind) hb0 (show -1364 ≤ eM Wt w gof q ns 0 by grind) hb0
  have hpsi : isI (((shr Wt w (u k) (ln k) 0 : Nat) : Rat) * lapR (fun j => (j : Rat) * pwR Wt w (u k) j) (u k) (ln k) (u k) (ln k)) := by
    have h1 := lapS_R (Wt := Wt) (x := u k) (n := ln k) hw (fun j => j)
    rw [Rat.mul_comm, ← h1]; exact isI_nat _
  have hpsi0 : 0 ≤ lapR (fun j => (j : Rat) * pwR Wt w (u k) j) (u k) (ln k) (u k) (ln k) := by
    refine sm_nonneg (fun j _ => ?_)
    by_cases d : j + 1 ≤ ln k ∧ j + 1 ≤ ln k ∧ lapD (u k) (ln k) (u k) (j + 1)
    · rw [if_pos d]
      exact Rat.mul_nonneg Rat.natCast_nonneg (Rat.le_of_lt (pwR_pos (by have := W_pos hS; omega) (fun x hx => hw x (by omega))))
    · rw [if_neg d]; exact Rat.le_refl
  have hpsi5 : lapR (fun j => (j : Rat) * pwR Wt w (u k) j) (u k) (ln k) (u k) (ln k) ≤ 5 * lapR (pwR Wt w (u k)) (u k) (ln k) (u k) (ln k) := by
    unfold lapR
    rw [← sm_mul]
    refine sm_le (fun j hj => ?_)
    by_cases d : j + 1 ≤ ln k ∧ j + 1 ≤ ln k ∧ lapD (u k) (ln k) (u k) (j + 1)
    · rw [if_pos d, if_pos d]
      have a1 : ((j + 1 : Nat) : Rat) ≤ 5 := by
        have : ((j + 1 : Nat) : Rat) ≤ ((5 : Nat) : Rat) := Rat.natCast_le_natCast.mpr (by omega)
        exact this
      exact Rat.mul_le_mul_of_nonneg_right a1 (Rat.le_of_lt (pwR_pos (by have := W_pos hS; omega) (fun x hx => hw x (by omega))))
    · rw [if_neg d, if_neg d]; grind
  have hPe := one_int hC hS hk hp hC.1
  have hPP : ((shr Wt w (u k) (ln k) 0 * shr Wt w (u k) (ln k) 0 : Nat) : Rat) = ((shr Wt w (u k) (ln k) 0 : Nat) : Rat) * ((shr Wt w (u k) (ln k) 0 : Nat) : Rat) := Rat.natCast_mul _ _
  have i1 : isI (((shr Wt w (u k) (ln k) 0 * shr Wt w (u k) (ln k) 0 : Nat) : Rat) * (-(eM Wt w gof q ns 0) * eM Wt w gof q ns 0)) := by
    have := isI_neg (isI_mul hPe hPe)
    rw [hPP]
    have e : ((shr Wt w (u k) (ln k) 0 : Nat) : Rat) * ((shr Wt w (u k) (ln k) 0 : Nat) : Rat) * (-(eM Wt w gof q ns 0) * eM Wt w gof q ns 0) = -(((shr Wt w (u k) (ln k) 0 : Nat) : Rat) * eM Wt w gof q ns 0 * (((shr Wt w (u k) (ln k) 0 : Nat) : Rat) * eM Wt w gof q ns 0)) := by grind
    rw [e]; exact this
  have i2 : isI (((shr Wt w (u k) (ln k) 0 * shr Wt w (u k) (ln k) 0 : Nat) : Rat) * sM Wt w gof q ns 0) := by
    rw [hs, ← e0', hPP]
    have a1 := isI_mul (isI_nat (shr Wt w (u k) (ln k) 0)) hPe
    have a2 := isI_mul (isI_nat 2) (isI_mul hPe hPe)
    have a3 := isI_mul (isI_nat 2) (isI_mul (isI_nat (shr Wt w (u k) (ln k) 0)) hpsi)
    have a4 := isI_sub (isI_add a1 a2) a3
    have c2 : ((2 : Nat) : Rat) = 2 := rfl
    rw [c2] at a4
    have e : ∀ P e D : Rat, P * P * (e + 2 * (e * e) - 2 * D) = P * (P * e) + 2 * (P * e * (P * e)) - 2 * (P * (P * D)) := fun P e D => by grind
    rw [e]; exact a4
  have cB : ((2 ^ 24 : Nat) : Rat) = 16777216 := rfl
  refine ⟨eM_fit hC hS hI.2.1, divInt_is ?_ ?_, ⟨fun i c hi hc hg => ?_, fun i c hi hc => ?_, ?_, ?_, ?_, ?_⟩, hspread⟩
  · rw [Rat.intCast_natCast]; exact hPn
  · rw [Rat.intCast_natCast, Rat.intCast_natCast, own, e0']
  · have h1 := eM_le hC hS hg
    have h2 := eM_pos hC hS hg
    have h3 : Rat.divInt (2 * ((w c : Nat) : Int)) 1 = 2 * (w c : Rat) := by
      rw [dI1, Rat.intCast_mul, Rat.intCast_natCast]; rfl
    have h4 : (w c : Rat) ≤ 4 := by
      have : (w c : Rat) ≤ ((4 : Nat) : Rat) := Rat.natCast_le_natCast.mpr (wc4 hS hc)
      exact this
    have h5 : (0 : Rat) ≤ (w c : Rat) := Rat.natCast_nonneg
    have h6 := mul_rng (W := 1364) (by decide) (show -1364 ≤ (w c : Rat) by grind) (show (w c : Rat) ≤ 1364 by grind) (show -1364 ≤ eM Wt w gof q ns (gof (4 * i + c)) by grind) h1
    have hi1 := one_int hC hS hk hp hg
    have hi2 : isI (((shr Wt w (u k) (ln k) 0 : Nat) : Rat) * (2 * (w c : Rat) * eM Wt w gof q ns (gof (4 * i + c)))) := by
      have a := isI_mul (isI_mul (isI_nat 2) (isI_nat (w c))) hi1
      have c2 : ((2 : Nat) : Rat) = 2 := rfl
      rw [c2] at a
      have e : ∀ P x y : Rat, P * (2 * x * y) = 2 * x * (P * y) := fun P x y => by grind
      rw [e]; exact a
    rw [h3]
    refine ⟨fit_b (B := 2 ^ 24) hP1 hi2 (by decide) (hPb _ (by decide)) (by rw [cB]; grind) (by rw [cB]; grind), fitA_b (B := 2 ^ 24) hP1 (r2_int hC hS hk hp hi (by omega)) hi2 (by decide) (hPb _ (by decide)) ?_ ?_⟩
    · rw [← h3, r2S_y (by have := hC.2.1; omega), cB]
      have := r2_b hC hS hi (show c + 1 ≤ q by omega)
      grind
    · rw [← h3, r2S_y (by have := hC.2.1; omega), cB]
      have := r2_b hC hS hi (show c + 1 ≤ q by omega)
      grind
  · have := r2_b hC hS hi hc
    exact fit_b (B := 2 ^ 24) hP1 (r2_int hC hS hk hp hi hc) (by decide) (hPb _ (by decide)) (by rw [cB]; grind) (by rw [cB]; grind)
  · have hW4 : (Wt : Rat) ≤ 4 := by
      have : (Wt : Rat) ≤ ((4 : Nat) : Rat) := Rat.natCast_le_natCast.mpr hS.2.2.2.2.1
      exact this
    have hW0 := natpos (show 1 ≤ Wt by have := W_pos hS; omega)
    refine ch_fit hC hS (z := fun i => 3640 * chV sz i) (P := shr Wt w (u k) (ln k) 0) (B := 2 ^ 24) hP1 (fun i hi => r2_int hC hS hk hp hi (Nat.le_refl q)) (fun i hi => (r2_b hC hS hi (Nat.le_refl q)).1) (fun i hi => Rat.mul_nonneg (by decide) (Rat.le_of_lt (chV_b hC hS hi).1)) (fun i hi => ?_) (fun i hi => ?_) (by decide) ?_
    · rw [chA_lin (x1 := chV sz) (x2 := fun _ => 0) (a := 3640) (b := 0) hi (fun g _ => by grind)]
      have h1 := chV_A hC hS hi
      have h2 := (r2_b hC hS hi (Nat.le_refl q)).2
      grind
    · have h1 := (chV_b hC hS hi).2
      have h2 := Rat.le_of_lt (chV_b hC hS hi).1
      have h3 := Rat.mul_le_mul_of_nonneg_right hW4 (show 0 ≤ 3640 * chV sz i by grind)
      show (Wt : Rat) * (3640 * chV sz i) ≤ _
      rw [cB]
      grind
    · have : 4 ^ (2 * ns - 1) ≤ 4 ^ 9 := Nat.pow_le_pow_right (by decide) (by omega)
      have h2 : shr Wt w (u k) (ln k) 0 * 4 ^ (2 * ns - 1) * 2 ^ 24 ≤ 1024 * 4 ^ 9 * 2 ^ 24 := Nat.mul_le_mul_right _ (Nat.mul_le_mul hP2 this)
      exact Nat.lt_of_le_of_lt h2 (by decide)
  · exact fit_b (B := 2 ^ 24) (Nat.mul_pos hP1 hP1) i1 (by decide) (hPPb _ (by decide)) (by rw [cB]; grind) (by rw [cB]; grind)
  · refine fitA_b (B := 2 ^ 24) (Nat.mul_pos hP1 hP1) i2 i1 (by decide) (hPPb _ (by decide)) ?_ ?_ <;> rw [cB, hs, ← e0'] <;> rw [← e0'] at hpsi5 <;> grind
  · refine fit_b (B := 2 ^ 24) (Nat.mul_pos hP1 hP1) ?_ (by decide) (hPPb _ (by decide)) ?_ ?_
    · have := isI_add i2 i1
      have e : ∀ P x y : Rat, P * (x + y) = P * x + P * y := fun P x y => by grind
      rw [e]; exact this
    · rw [cB, hs, ← e0']; rw [← e0'] at hpsi5; grind
    · rw [cB, hs, ← e0']; rw [← e0'] at hpsi5; grind
end WA
theorem SrcI.toP {q Wt T : Nat} {w ln t : Nat → Nat} {u : Nat → Nat → Nat} (h : SrcI q Wt w ln u T t) : SrP q Wt w ln u := ⟨h.1, h.2.1, h.2.2.1, h.2.2.2.2.1, h.2.2.2.2.2.1, h.2.2.2.2.2.2.2.1, h.2.2.2.2.2.2.2.2.1⟩
