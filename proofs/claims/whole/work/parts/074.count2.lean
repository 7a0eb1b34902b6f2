/-! THE COUNTS are the same -/
theorem sgm_add {nw : Nat → Int} {a b : Nat} : ∀ {e : Nat}, sgm nw a (b + e) = sgm nw a b + sgm nw (a + b) e
  | 0 => (Int.add_zero _).symm
  | e + 1 => by
    show sgm nw a (b + e) + nw (a + (b + e)) = sgm nw a b + (sgm nw (a + b) e + nw (a + b + e))
    rw [sgm_add, Nat.add_assoc]; omega
theorem wpS_sgm {nw : Nat → Int} {k : Nat} : ∀ {m : Nat}, wpS nw k m = sgm nw (512 * k) (512 * m)
  | 0 => rfl
  | m + 1 => by
    show wpS nw k m + sgm nw (512 * (k + m)) 512 = _
    rw [wpS_sgm, show 512 * (m + 1) = 512 * m + 512 by omega, sgm_add, show 512 * k + 512 * m = 512 * (k + m) by omega]
section CE
variable {q Wt : Nat} {w ln : Nat → Nat} {u : Nat → Nat → Nat}
theorem mac_one (hS : SrP q Wt w ln u) {k : Nat} (hk : k < 8) (hp : 0 < ln k) : ∃ pa, macOK q ln u (2 ^ k) (lkF q (lk0 (u k) (ln k))).1 (lkF q (lk0 (u k) (ln k))).2.2.2.1 (lrn (u k) (fun _ => 0) 1 (ln k)).2.1 pa := by
  obtain ⟨pa, j1, j2, j3, j4, j5⟩ := lrn_T (TrI0 (q := q)) hS.2.1 (u := u k) (n := ln k) (hS.2.2.2.2.2.2 k)
  obtain ⟨b1, b2, b3, b4⟩ := lrn_B (u := u k) (nx := fun _ => 0) (S := 1) (by decide) (fun _ => by decide) (ln k)
  have h5 := hS.2.2.2.2.2.1 k
  refine ⟨pa, mac_of j1 hS.2.1 (by omega) b4 (fun t => ?_) (fun t ht => ?_) (fun k' hk' h1 h2 => ?_)⟩
  · by_cases e : t = (lrn (u k) (fun _ => 0) 1 (ln k)).2.2
    · rw [e, va_up_self]; exact Nat.le_refl 1
    · rw [va_up_ne _ _ e]; exact Nat.zero_le 1
  · by_cases e : t = (lrn (u k) (fun _ => 0) 1 (ln k)).2.2
    · rw [e, va_up_self]
      exact ⟨fun _ => ⟨k, hk, hp, bt_self k hk, j5⟩, fun _ => rfl⟩
    · rw [va_up_ne _ _ e]
      constructor
      · intro h; exact absurd h (by decide)
      · rintro ⟨k', k1, k2, k3, k4⟩
        have := bt_pow k hk k' k1 k3
        subst this
        exact absurd (j1.2.2.2.2.1 t _ ht j4 (by rw [k4, j5])) e
  · have := bt_pow k hk k' hk' h2
    subst this
    exact ⟨_, j4, j5⟩
theorem mac_set (hS : SrP q Wt w ln u) (B : Nat) : ∃ pa, macOK q ln u B (lkF q (lkA ln u B)).1 (lkF q (lkA ln u B)).2.2.2.1 (lrA ln u B 8).2.1 pa := by
  obtain ⟨pa, j1, j2, j3⟩ := lrA_T (B := B) hS.2.1 hS.2.2.2.2.2.2 8
  obtain ⟨b1, b2, b3, b4⟩ := lrA_B (u := u) (B := B) hS.2.2.2.2.2.1 8
  refine ⟨pa, mac_of j1 hS.2.1 (by omega) b3 b4 (fun t ht => ?_) j3⟩
  rw [j2 t]
  exact ⟨fun h => h.2, fun h => ⟨ht, h⟩⟩
theorem k_lt {a b s S : Nat} (hs : s < S) (h : a < b) : a * S + s < b * S := by
  have h1 : (a + 1) * S ≤ b * S := Nat.mul_le_mul_right S h
  rw [Nat.add_mul, Nat.one_mul] at h1
  omega
theorem tm_exact (hS : SrP q Wt w ln u) {k n0 kq : Nat} (hk : k < 8) (hp : 0 < ln k) (hn : n0 ≤ 30) (hkq : kq ≤ 30) : tmW q w (u k) (ln k) n0 kq kq = wpS (ctN q w (hsN ln u (2 ^ k)) 0 n0) kq 1 := by
  obtain ⟨pa, hm⟩ := mac_one hS hk hp
  have hle : kq * (lrn (u k) (fun _ => 0) 1 (ln k)).2.1 ≤ (kq + 1) * (lrn (u k) (fun _ => 0) 1 (ln k)).2.1 := Nat.mul_le_mul_right _ (by omega)
  unfold tmW
  rw [si_range (N := (kq + 1) * (lrn (u k) (fun _ => 0) 1 (ln k)).2.1) (by omega), wpS_sgm, si_range (N := 16384) (by omega)]
  refine sim_si hm hS.2.1 hS.2.2.2.2.2.1 (Or.inl rfl) (fun a s e ha hs he => ?_) (fun a e ha he => ?_) hn
  · have hb := vE_b he
    by_cases e1 : a = kq
    · subst e1
      rw [if_pos ⟨by omega, by have := k_lt hs (show a < a + 1 by omega); omega⟩, if_pos (by omega)]
    · have := k_lt hs (show a < kq by omega)
      rw [if_neg (by omega), if_neg (by omega)]
  · have hb := vE_b he
    rw [if_neg (by omega)]
theorem w_si (hS : SrP q Wt w ln u) : si (fun d => (w d : Int)) q = (Wt : Int) := by
  rw [← hS.2.2.2.1]
  have : ∀ n, si (fun d => (w d : Int)) n = ((wsum w n : Nat) : Int) := by
    intro n
    induction n with
    | zero => rfl
    | succ n ih => show si _ n + (w n : Int) = ((wsum w n + w n : Nat) : Int); rw [ih, Int.natCast_add]
  exact this q
theorem tot (hS : SrP q Wt w ln u) {B : Nat} : ∀ {r k e : Nat}, k + r ≤ 30 → vE e → tMn q w (hsN ln u B) 0 (fun x => if x < 15872 then 1 else 0) r (512 * k + e) = ((Wt ^ r : Nat) : Int)
  | 0, k, e, hk, he => by
    have hb := vE_b he
    show (if 512 * k + e < 15872 then (1 : Int) else 0) = 1
    rw [if_pos (by omega)]
  | r + 1, k, e, hk, he => by
    have hb := vE_b he
    have hq := hS.2.1
    show tM q w (hsN ln u B) 0 (tMn q w (hsN ln u B) 0 (fun x => if x < 15872 then 1 else 0) r) (512 * k + e) = _
    unfold tM
    rw [show (512 * k + e) / 512 = k by omega, show (512 * k + e) % 512 = e by omega]
    have e1 : si (fun d => if ¬ hsN ln u B e d = 0 ∧ ¬ 0 = 0 then 0 else (w d : Int) * tMn q w (hsN ln u B) 0 (fun x => if x < 15872 then 1 else 0) r (512 * (k + hsN ln u B e d) + shE (4 * e + d))) q = si (fun d => ((Wt ^ r : Nat) : Int) * (w d : Int)) q := si_congr (fun d hd => by
      have h1 := hsN_le (ln := ln) (u := u) (B := B) (e := e) (d := d)
      rw [if_neg (fun h => h.2 rfl), tot hS (r := r) (by omega) (vE_s he (by omega)), Int.mul_comm])
    rw [e1, si_mul, w_si hS, Nat.pow_succ, Int.natCast_mul]
theorem tm_tot (hS : SrP q Wt w ln u) {B n0 : Nat} (hn : n0 ≤ 30) : si (fun y => ctN q w (hsN ln u B) 0 n0 y * (if y < 15872 then 1 else 0)) 16384 = ((Wt ^ n0 : Nat) : Int) := by
  rw [ctN_si hS.2.1 (fun _ _ => hsN_le) hn]
  exact tot hS (r := n0) (k := 0) (e := 1) (by omega) (Or.inl rfl)
theorem tm_least (hS : SrP q Wt w ln u) {k n0 kq : Nat} (hk : k < 8) (hp : 0 < ln k) (hn : n0 ≤ 30) (hkq : kq ≤ 30) (hk1 : 1 ≤ kq) : ((Wt ^ n0 : Nat) : Int) - tmW q w (u k) (ln k) n0 0 (kq - 1) = wpS (ctN q w (hsN ln u (2 ^ k)) 0 n0) kq (31 - kq) := by
  obtain ⟨pa, hm⟩ := mac_one hS hk hp
  have e1 : tmW q w (u k) (ln k) n0 0 (kq - 1) = si (fun y => ctN q w (hsN ln u (2 ^ k)) 0 n0 y * (if y < 512 * kq then 1 else 0)) 16384 := by
    unfold tmW
    rw [si_range (N := (kq - 1 + 1) * (lrn (u k) (fun _ => 0) 1 (ln k)).2.1) (by omega)]
    refine sim_si hm hS.2.1 hS.2.2.2.2.2.1 (Or.inl rfl) (fun a s e ha hs he => ?_) (fun a e ha he => ?_) hn
    · have hb := vE_b he
      have := k_lt hs (show a < kq - 1 + 1 by omega)
      rw [if_pos (by omega), if_pos (by omega)]
    · have hb := vE_b he
      rw [if_neg (by omega)]
  rw [e1, ← tm_tot hS (B := 2 ^ k) hn, wpS_sgm, si_range (N := 16384) (by omega)]
  have e2 : si (fun y => ctN q w (hsN ln u (2 ^ k)) 0 n0 y * (if y < 15872 then 1 else 0)) 16384 = si (fun y => ctN q w (hsN ln u (2 ^ k)) 0 n0 y * (if y < 512 * kq then 1 else 0) + ctN q w (hsN ln u (2 ^ k)) 0 n0 y * (if 512 * kq ≤ y ∧ y < 512 * kq + 512 * (31 - kq) then 1 else 0)) 16384 := si_congr (fun j _ => by
    by_cases c1 : j < 512 * kq
    · rw [if_pos c1, if_pos (by omega), if_neg (by omega)]; omega
    · rw [if_neg c1]
      by_cases c2 : j < 15872
      · rw [if_pos c2, if_pos (by omega)]; omega
      · rw [if_neg c2, if_neg (by omega)]; omega)
  rw [e2, si_add]
  omega
theorem tm_all (hS : SrP q Wt w ln u) {k n0 : Nat} (hn : n0 ≤ 30) : wpS (ctN q w (hsN ln u (2 ^ k)) 0 n0) 0 (31 - 0) = ((Wt ^ n0 : Nat) : Int) := by
  rw [← tm_tot hS (B := 2 ^ k) hn, wpS_sgm, si_range (N := 16384) (by omega)]
  exact si_congr (fun j _ => by
    by_cases c2 : j < 15872
    · rw [if_pos c2, if_pos (by omega)]
    · rw [if_neg c2, if_neg (by omega)])
theorem tm_zero (hS : SrP q Wt w ln u) {B n0 kq m : Nat} (h : n0 < kq) (hm : kq + m ≤ 31) : wpS (ctN q w (hsN ln u B) 0 n0) kq m = 0 := by
  rw [wpS_sgm, sgm_si]
  refine si_zero (fun j _ => ?_)
  refine Classical.byContradiction (fun h1 => ?_)
  have h2 := (ctN_z (w := w) (nv := 0) hS.2.1 (fun _ _ => hsN_le) n0 _ h1).1
  omega
theorem nv_eq (hS : SrP q Wt w ln u) {B n0 : Nat} (hn : n0 ≤ 30) : nvW q w ln u B n0 = sgm (ctN q w (hsN ln u B) 1 n0) (512 * 0) 512 := by
  obtain ⟨pa, hm⟩ := mac_set hS B
  unfold nvW
  rw [si_range (N := (0 + 1) * (lrA ln u B 8).2.1) (by omega), si_range (N := 16384) (by omega)]
  refine sim_si hm hS.2.1 hS.2.2.2.2.2.1 (Or.inr rfl) (fun a s e ha hs he => ?_) (fun a e ha he => ?_) hn
  · have hb := vE_b he
    have := k_lt hs (show a < 0 + 1 by omega)
    rw [if_pos (by omega), if_pos (by omega)]
  · have hb := vE_b he
    rw [if_neg (by omega)]
end CE
