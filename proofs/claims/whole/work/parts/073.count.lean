/-! HOW OFTEN: both count all texts by their weights -/
def si (f : Nat → Int) : Nat → Int
  | 0 => 0
  | n + 1 => si f n + f n
theorem si_congr {f g : Nat → Int} : ∀ {n : Nat}, (∀ j, j < n → f j = g j) → si f n = si g n
  | 0, _ => rfl
  | n + 1, h => by
    show si f n + f n = si g n + g n
    rw [si_congr (fun j hj => h j (by omega)), h n (by omega)]
theorem si_zero {f : Nat → Int} : ∀ {n : Nat}, (∀ j, j < n → f j = 0) → si f n = 0
  | 0, _ => rfl
  | n + 1, h => by
    show si f n + f n = 0
    rw [si_zero (fun j hj => h j (by omega)), h n (by omega)]; rfl
theorem si_add {f g : Nat → Int} : ∀ {n : Nat}, si (fun j => f j + g j) n = si f n + si g n
  | 0 => rfl
  | n + 1 => by
    show si (fun j => f j + g j) n + (f n + g n) = (si f n + f n) + (si g n + g n)
    rw [si_add]; omega
theorem si_mul {f : Nat → Int} {a : Int} : ∀ {n : Nat}, si (fun j => a * f j) n = a * si f n
  | 0 => (Int.mul_zero a).symm
  | n + 1 => by
    show si (fun j => a * f j) n + a * f n = a * (si f n + f n)
    rw [si_mul, Int.mul_add]
theorem si_one {f : Nat → Int} {k : Nat} : ∀ {n : Nat}, k < n → (∀ j, j < n → j ≠ k → f j = 0) → si f n = f k
  | 0, h, _ => absurd h (by omega)
  | n + 1, h, h2 => by
    show si f n + f n = f k
    by_cases e : k = n
    · subst e; rw [si_zero (fun j hj => h2 j (by omega) (by omega)), Int.zero_add]
    · rw [si_one (show k < n by omega) (fun j hj => h2 j (by omega)), h2 n (by omega) (fun e2 => e e2.symm), Int.add_zero]
/-- one place more -/
theorem si_up {th f : Nat → Int} {k n : Nat} {v : Int} (hk : k < n) : si (fun x => va_up th k (th k + v) x * f x) n = si (fun x => th x * f x) n + v * f k := by
  have e : si (fun x => va_up th k (th k + v) x * f x) n = si (fun x => th x * f x + (if x = k then v * f k else 0)) n := si_congr (fun j _ => by
    by_cases e : j = k
    · rw [e, va_up_self, if_pos rfl, Int.add_mul]
    · rw [va_up_ne _ _ e, if_neg e, Int.add_zero])
  rw [e, si_add, si_one (k := k) hk (fun j _ hj => if_neg hj), if_pos rfl]
theorem si_split {f : Nat → Int} {a : Nat} : ∀ {b : Nat}, si f (a + b) = si f a + si (fun j => f (a + j)) b
  | 0 => (Int.add_zero _).symm
  | b + 1 => by
    show si f (a + b) + f (a + b) = si f a + (si (fun j => f (a + j)) b + f (a + b))
    rw [si_split (b := b)]; omega
theorem si_cut {f : Nat → Int} {a b : Nat} (hab : a ≤ b) (h : ∀ j, a ≤ j → j < b → f j = 0) : si f b = si f a := by
  rw [show b = a + (b - a) by omega, si_split, si_zero (fun j hj => h (a + j) (by omega) (by omega)), Int.add_zero]
theorem si_rows {f : Nat → Int} {S : Nat} : ∀ {K : Nat}, si (fun k => si (fun s => f (k * S + s)) S) K = si f (K * S)
  | 0 => by rw [Nat.zero_mul]; rfl
  | K + 1 => by
    show si (fun k => si (fun s => f (k * S + s)) S) K + si (fun s => f (K * S + s)) S = _
    rw [si_rows (K := K), Nat.add_mul, Nat.one_mul, si_split]
theorem sgm_si {nw : Nat → Int} {a : Nat} : ∀ {n : Nat}, sgm nw a n = si (fun j => nw (a + j)) n
  | 0 => rfl
  | n + 1 => by
    show sgm nw a n + nw (a + n) = si (fun j => nw (a + j)) n + nw (a + n)
    rw [sgm_si]
/-- a stretch, as a sum over all -/
theorem si_range {nw : Nat → Int} {a b N : Nat} (h : a + b ≤ N) : sgm nw a b = si (fun x => nw x * (if a ≤ x ∧ x < a + b then 1 else 0)) N := by
  rw [sgm_si, si_cut (a := a + b) (f := fun x => nw x * (if a ≤ x ∧ x < a + b then 1 else 0)) h (fun j h1 h2 => by rw [if_neg (by omega), Int.mul_zero]), si_split, si_zero (n := a) (fun j hj => by rw [if_neg (by omega), Int.mul_zero]), Int.zero_add]
  exact si_congr (fun j hj => by rw [if_pos (by omega), Int.mul_one])
/-! the class's machine -/
section CM
variable {q : Nat} {w nx hv : Nat → Nat} {S M : Nat}
/-- one letter read, from the end -/
def tC (q : Nat) (w nx hv : Nat → Nat) (S M : Nat) (f : Nat → Int) (x : Nat) : Int := si (fun d => if x / S + hv (nx (x % S * 4 + d)) ≤ M then (w d : Int) * f ((x / S + hv (nx (x % S * 4 + d))) * S + nx (x % S * 4 + d)) else 0) q
def tCn (q : Nat) (w nx hv : Nat → Nat) (S M : Nat) (f : Nat → Int) : Nat → Nat → Int
  | 0 => f
  | r + 1 => tC q w nx hv S M (tCn q w nx hv S M f r)
theorem ix_lt {a b S M : Nat} (ha : a ≤ M) (hb : b < S) : a * S + b < (M + 1) * S := by
  have h1 : a * S ≤ M * S := Nat.mul_le_mul_right S ha
  rw [Nat.add_mul, Nat.one_mul]; omega
theorem spr_si {s k : Nat} {x : Int} {th f : Nat → Int} (hn : ∀ e, nx e < S) : ∀ {d : Nat}, si (fun y => spr w nx hv S s k M x th d y * f y) ((M + 1) * S) = si (fun y => th y * f y) ((M + 1) * S) + x * si (fun d => if k + hv (nx (s * 4 + d)) ≤ M then (w d : Int) * f ((k + hv (nx (s * 4 + d))) * S + nx (s * 4 + d)) else 0) d
  | 0 => by show _ = _ + x * 0; rw [Int.mul_zero, Int.add_zero]; rfl
  | d + 1 => by
    have ih := spr_si (s := s) (k := k) (x := x) (th := th) (f := f) hn (d := d)
    show _ = _ + x * (si _ d + (if k + hv (nx (s * 4 + d)) ≤ M then (w d : Int) * f ((k + hv (nx (s * 4 + d))) * S + nx (s * 4 + d)) else 0))
    rw [Int.mul_add, ← Int.add_assoc, ← ih]
    by_cases h : k + hv (nx (s * 4 + d)) ≤ M
    · rw [spr_y h, si_up (ix_lt h (hn _)), if_pos h, Int.mul_assoc]
    · rw [spr_n h, if_neg h, Int.mul_zero, Int.add_zero]
theorem rdS_si {k : Nat} {nw th f : Nat → Int} (hn : ∀ e, nx e < S) : ∀ {s : Nat}, s ≤ S → si (fun y => rdS q w nx hv S k M nw th s y * f y) ((M + 1) * S) = si (fun y => th y * f y) ((M + 1) * S) + si (fun s => nw (k * S + s) * tC q w nx hv S M f (k * S + s)) s
  | 0, _ => by show _ = _ + 0; rw [Int.add_zero]; rfl
  | s + 1, hs => by
    have ih := rdS_si (k := k) (nw := nw) (th := th) (f := f) hn (s := s) (by omega)
    show si (fun y => spr w nx hv S s k M (nw (k * S + s)) (rdS q w nx hv S k M nw th s) q y * f y) ((M + 1) * S) = _ + (si _ s + _)
    rw [spr_si hn, ih, Int.add_assoc]
    congr 2
    show _ = nw (k * S + s) * tC q w nx hv S M f (k * S + s)
    unfold tC
    have e1 : (k * S + s) / S = k := by
      rw [Nat.add_comm, Nat.add_mul_div_right _ _ (by omega), Nat.div_eq_of_lt (by omega), Nat.zero_add]
    have e2 : (k * S + s) % S = s := by
      rw [Nat.add_comm, Nat.add_mul_mod_self_right, Nat.mod_eq_of_lt (by omega)]
    rw [e1, e2]
theorem rdK_si {nw f : Nat → Int} (hn : ∀ e, nx e < S) : ∀ {K : Nat}, si (fun y => rdK q w nx hv S M nw K y * f y) ((M + 1) * S) = si (fun y => nw y * tC q w nx hv S M f y) (K * S)
  | 0 => by
    rw [Nat.zero_mul]
    exact si_zero (fun j _ => Int.zero_mul _)
  | K + 1 => by
    show si (fun y => rdS q w nx hv S K M nw (rdK q w nx hv S M nw K) S y * f y) ((M + 1) * S) = _
    rw [rdS_si hn (Nat.le_refl S), rdK_si hn (K := K), Nat.add_mul, Nat.one_mul, si_split]
/-- no text of r letters has more than r places -/
def zC (S r : Nat) (f : Nat → Int) : Prop := ∀ j, f j ≠ 0 → j / S ≤ r
theorem spr_z {s k r : Nat} {x : Int} {th : Nat → Int} (hn : ∀ e, nx e < S) (hh : ∀ t, hv t ≤ 1) (hk : k ≤ r) (ht : zC S (r + 1) th) : ∀ {d : Nat}, zC S (r + 1) (spr w nx hv S s k M x th d)
  | 0 => ht
  | d + 1 => by
    have ih := spr_z (s := s) (x := x) hn hh hk ht (d := d)
    by_cases h : k + hv (nx (s * 4 + d)) ≤ M
    · rw [spr_y h]
      intro j hj
      by_cases e : j = (k + hv (nx (s * 4 + d))) * S + nx (s * 4 + d)
      · have h1 := hn (s * 4 + d)
        have h2 := hh (nx (s * 4 + d))
        rw [e, Nat.add_comm, Nat.add_mul_div_right _ _ (by omega), Nat.div_eq_of_lt h1]
        omega
      · rw [va_up_ne _ _ e] at hj; exact ih j hj
    · rw [spr_n h]; exact ih
theorem rdS_z {k r : Nat} {nw th : Nat → Int} (hn : ∀ e, nx e < S) (hh : ∀ t, hv t ≤ 1) (hk : k ≤ r) (ht : zC S (r + 1) th) : ∀ (s : Nat), zC S (r + 1) (rdS q w nx hv S k M nw th s)
  | 0 => ht
  | s + 1 => spr_z hn hh hk (rdS_z hn hh hk ht s)
theorem rdK_z {r : Nat} {nw : Nat → Int} (hn : ∀ e, nx e < S) (hh : ∀ t, hv t ≤ 1) : ∀ {K : Nat}, K ≤ r + 1 → zC S (r + 1) (rdK q w nx hv S M nw K)
  | 0, _ => fun j hj => absurd rfl hj
  | K + 1, h => rdS_z hn hh (by omega) (rdK_z hn hh (by omega)) S
theorem wgh_z (hn : ∀ e, nx e < S) (hh : ∀ t, hv t ≤ 1) : ∀ (r : Nat), zC S r (wgh q w nx hv S M r)
  | 0 => fun j hj => by
    by_cases e : j = 0
    · rw [e, Nat.zero_div]; exact Nat.le_refl 0
    · exact absurd (if_neg e) hj
  | r + 1 => rdK_z hn hh (by omega)
theorem wgh_si (hS : 0 < S) (hn : ∀ e, nx e < S) (hh : ∀ t, hv t ≤ 1) : ∀ {r : Nat} {f : Nat → Int}, si (fun y => wgh q w nx hv S M r y * f y) ((M + 1) * S) = tCn q w nx hv S M f r 0
  | 0, f => by
    have h0 : 0 < (M + 1) * S := Nat.mul_pos (by omega) hS
    rw [si_one (k := 0) h0 (fun j _ hj => by show (if j = 0 then (1 : Int) else 0) * f j = 0; rw [if_neg hj, Int.zero_mul])]
    show (if 0 = 0 then (1 : Int) else 0) * f 0 = f 0
    rw [if_pos rfl, Int.one_mul]
  | r + 1, f => by
    have hcut : si (fun y => wgh q w nx hv S M r y * tC q w nx hv S M f y) ((M + 1) * S) = si (fun y => wgh q w nx hv S M r y * tC q w nx hv S M f y) ((min r M + 1) * S) := by
      refine si_cut (Nat.mul_le_mul_right S (by omega)) (fun j h1 h2 => ?_)
      have h3 : wgh q w nx hv S M r j = 0 := by
        refine Classical.byContradiction (fun h4 => ?_)
        have h5 := wgh_z hn hh r j h4
        have h6 : j / S < M + 1 := Nat.div_lt_of_lt_mul (by rw [Nat.mul_comm]; exact h2)
        have h7 : min r M + 1 ≤ j / S := (Nat.le_div_iff_mul_le hS).mpr h1
        omega
      rw [h3, Int.zero_mul]
    show si (fun y => rdK q w nx hv S M (wgh q w nx hv S M r) (min r M + 1) y * f y) ((M + 1) * S) = _
    rw [rdK_si hn, ← hcut, wgh_si hS hn hh (r := r) (f := tC q w nx hv S M f)]
    show tCn q w nx hv S M (tC q w nx hv S M f) r 0 = tCn q w nx hv S M f (r + 1) 0
    exact congrFun (tCn_s r) 0
where
  tCn_s {f : Nat → Int} : ∀ (r : Nat), tCn q w nx hv S M (tC q w nx hv S M f) r = tCn q w nx hv S M f (r + 1)
    | 0 => rfl
    | r + 1 => by
      show tC q w nx hv S M (tCn q w nx hv S M (tC q w nx hv S M f) r) = tC q w nx hv S M (tCn q w nx hv S M f (r + 1))
      rw [tCn_s r]
end CM
/-! the model's -/
section MM2
variable {q : Nat} {w : Nat → Nat} {hp : Nat → Nat → Nat} {nv : Nat}
def tM (q : Nat) (w : Nat → Nat) (hp : Nat → Nat → Nat) (nv : Nat) (f : Nat → Int) (i : Nat) : Int := si (fun d => if ¬ hp (i % 512) d = 0 ∧ ¬ nv = 0 then 0 else (w d : Int) * f (512 * (i / 512 + hp (i % 512) d) + shE (4 * (i % 512) + d))) q
def tMn (q : Nat) (w : Nat → Nat) (hp : Nat → Nat → Nat) (nv : Nat) (f : Nat → Int) : Nat → Nat → Int
  | 0 => f
  | r + 1 => tM q w hp nv (tMn q w hp nv f r)
theorem tMn_s {f : Nat → Int} : ∀ (r : Nat), tMn q w hp nv (tM q w hp nv f) r = tMn q w hp nv f (r + 1)
  | 0 => rfl
  | r + 1 => by
    show tM q w hp nv (tMn q w hp nv (tM q w hp nv f) r) = tM q w hp nv (tMn q w hp nv f (r + 1))
    rw [tMn_s r]
theorem ctC_x0 {i : Nat} {th : Nat → Int} : ∀ (d : Nat), ctC w hp nv i 0 th d = th
  | 0 => rfl
  | d + 1 => by
    by_cases h : ¬ hp (i % 512) d = 0 ∧ ¬ nv = 0
    · rw [ctC_n h]; exact ctC_x0 d
    · rw [ctC_y h, ctC_x0 d]
      funext j
      by_cases e : j = 512 * (i / 512 + hp (i % 512) d) + shE (4 * (i % 512) + d)
      · rw [e, va_up_self, Int.zero_mul, Int.add_zero]
      · rw [va_up_ne _ _ e]
theorem ctC_si {i : Nat} {x : Int} {th f : Nat → Int} (hh : ∀ e d, hp e d ≤ 1) (hi : i / 512 ≤ 29) (he : vE (i % 512)) : ∀ {d : Nat}, d ≤ 4 → si (fun y => ctC w hp nv i x th d y * f y) 16384 = si (fun y => th y * f y) 16384 + x * si (fun d => if ¬ hp (i % 512) d = 0 ∧ ¬ nv = 0 then 0 else (w d : Int) * f (512 * (i / 512 + hp (i % 512) d) + shE (4 * (i % 512) + d))) d
  | 0, _ => by show _ = _ + x * 0; rw [Int.mul_zero, Int.add_zero]; rfl
  | d + 1, hd => by
    have ih := ctC_si (x := x) (th := th) (f := f) hh hi he (d := d) (by omega)
    show _ = _ + x * (si _ d + (if ¬ hp (i % 512) d = 0 ∧ ¬ nv = 0 then 0 else (w d : Int) * f (512 * (i / 512 + hp (i % 512) d) + shE (4 * (i % 512) + d))))
    rw [Int.mul_add, ← Int.add_assoc, ← ih]
    by_cases h : ¬ hp (i % 512) d = 0 ∧ ¬ nv = 0
    · rw [ctC_n h, if_pos h, Int.mul_zero, Int.add_zero]
    · have h1 := vE_b (vE_s he (show d < 4 by omega))
      have h2 := hh (i % 512) d
      rw [ctC_y h, si_up (by omega), if_neg h, Int.mul_assoc]
theorem ctI_si {r : Nat} {nw f : Nat → Int} (hq : q ≤ 4) (hh : ∀ e d, hp e d ≤ 1) (hr : r ≤ 29) (hz : zQ r nw) : ∀ {n : Nat}, si (fun y => ctI q w hp nv nw n y * f y) 16384 = si (fun i => nw i * tM q w hp nv f i) n
  | 0 => si_zero (fun j _ => Int.zero_mul _)
  | n + 1 => by
    have ih := ctI_si (f := f) hq hh hr hz (n := n)
    show si (fun y => ctC w hp nv n (nw n) (ctI q w hp nv nw n) q y * f y) 16384 = si _ n + nw n * tM q w hp nv f n
    by_cases e : nw n = 0
    · rw [e, ctC_x0, ih, Int.zero_mul, Int.add_zero]
    · obtain ⟨a, b⟩ := hz n e
      rw [ctC_si hh (by omega) b hq, ih]; rfl
theorem ctN_si (hq : q ≤ 4) (hh : ∀ e d, hp e d ≤ 1) : ∀ {r : Nat} {f : Nat → Int}, r ≤ 30 → si (fun y => ctN q w hp nv r y * f y) 16384 = tMn q w hp nv f r 1
  | 0, f, _ => by
    rw [si_one (k := 1) (by decide) (fun j _ hj => by show (if j = 1 then (1 : Int) else 0) * f j = 0; rw [if_neg hj, Int.zero_mul])]
    show (if 1 = 1 then (1 : Int) else 0) * f 1 = f 1
    rw [if_pos rfl, Int.one_mul]
  | r + 1, f, hr => by
    show si (fun y => ctI q w hp nv (ctN q w hp nv r) 16384 y * f y) 16384 = _
    rw [ctI_si hq hh (show r ≤ 29 by omega) (ctN_z hq hh r), ctN_si hq hh (r := r) (f := tM q w hp nv f) (by omega), tMn_s r]
theorem tM_add {f g h : Nat → Int} (e : ∀ x, h x = f x + g x) (i : Nat) : tM q w hp nv h i = tM q w hp nv f i + tM q w hp nv g i := by
  unfold tM
  rw [← si_add]
  refine si_congr (fun d _ => ?_)
  by_cases c : ¬ hp (i % 512) d = 0 ∧ ¬ nv = 0
  · rw [if_pos c, if_pos c, if_pos c]; rfl
  · rw [if_neg c, if_neg c, if_neg c, e, Int.mul_add]
theorem tMn_add {f g h : Nat → Int} (e : ∀ x, h x = f x + g x) : ∀ (r i : Nat), tMn q w hp nv h r i = tMn q w hp nv f r i + tMn q w hp nv g r i
  | 0, i => e i
  | r + 1, i => tM_add (tMn_add e r) i
end MM2
/-! .. and read the same in a text -/
/-- the code of a text's last letters -/
def enc : List Nat → Nat
  | [] => 1
  | d :: l => 4 * enc l + d
theorem enc_pos : ∀ (l : List Nat), 1 ≤ enc l
  | [] => Nat.le_refl 1
  | d :: l => by have := enc_pos l; show 1 ≤ 4 * enc l + d; omega
theorem enc_s {d : Nat} {y : List Nat} (hy : ∀ x, x ∈ y → x < 4) (hd : d < 4) : shE (4 * enc (y.take 4) + d) = enc ((d :: y).take 4) := by
  unfold shE
  match y, hy with
  | [], _ => show (if 4 * 1 + d < 1024 then 4 * 1 + d else _) = 4 * 1 + d; rw [if_pos (by omega)]
  | [a], hy =>
    have ha := hy a (by simp)
    show (if 4 * (4 * 1 + a) + d < 1024 then _ else _) = _
    rw [if_pos (by omega)]; rfl
  | [a, b], hy =>
    have ha := hy a (by simp)
    have hb := hy b (by simp)
    show (if 4 * (4 * (4 * 1 + b) + a) + d < 1024 then _ else _) = _
    rw [if_pos (by omega)]; rfl
  | [a, b, e], hy =>
    have ha := hy a (by simp)
    have hb := hy b (by simp)
    have he := hy e (by simp)
    show (if 4 * (4 * (4 * (4 * 1 + e) + b) + a) + d < 1024 then _ else _) = _
    rw [if_pos (by omega)]; rfl
  | a :: b :: e :: g :: l, hy =>
    have ha := hy a (by simp)
    have hb := hy b (by simp)
    have he := hy e (by simp)
    have hg := hy g (by simp)
    show (if 4 * (4 * (4 * (4 * (4 * 1 + g) + e) + b) + a) + d < 1024 then _ else 256 + (4 * (4 * (4 * (4 * (4 * 1 + g) + e) + b) + a) + d) % 256) = 4 * (4 * (4 * (4 * 1 + e) + b) + a) + d
    rw [if_neg (by omega)]
    omega
theorem enc_v {y : List Nat} (hy : ∀ x, x ∈ y → x < 4) : vE (enc (y.take 4)) := by
  unfold vE
  match y, hy with
  | [], _ => exact Or.inl rfl
  | [a], hy =>
    have ha := hy a (by simp)
    show 4 * 1 + a = 1 ∨ (4 ≤ 4 * 1 + a ∧ 4 * 1 + a < 8) ∨ _
    omega
  | [a, b], hy =>
    have ha := hy a (by simp)
    have hb := hy b (by simp)
    refine Or.inr (Or.inr (Or.inl ?_))
    show 16 ≤ 4 * (4 * 1 + b) + a ∧ 4 * (4 * 1 + b) + a < 32
    omega
  | [a, b, e], hy =>
    have ha := hy a (by simp)
    have hb := hy b (by simp)
    have he := hy e (by simp)
    refine Or.inr (Or.inr (Or.inr (Or.inl ?_)))
    show 64 ≤ 4 * (4 * (4 * 1 + e) + b) + a ∧ 4 * (4 * (4 * 1 + e) + b) + a < 128
    omega
  | a :: b :: e :: g :: l, hy =>
    have ha := hy a (by simp)
    have hb := hy b (by simp)
    have he := hy e (by simp)
    have hg := hy g (by simp)
    refine Or.inr (Or.inr (Or.inr (Or.inr ?_)))
    show 256 ≤ 4 * (4 * (4 * (4 * 1 + g) + e) + b) + a ∧ 4 * (4 * (4 * (4 * 1 + g) + e) + b) + a < 512
    omega
theorem cmE_enc {v : Nat → Nat} : ∀ {n : Nat} {l : List Nat}, (∀ x, x ∈ l → x < 4) → (cmE v n (enc l) = true ↔ l.take n = rvW v n)
  | 0, l, _ => ⟨fun _ => List.take_zero, fun _ => rfl⟩
  | n + 1, [], _ => by
    rw [cmE_n (by show ¬ (1 < 1 ∧ _); omega)]
    constructor
    · intro h; cases h
    · intro h; cases h
  | n + 1, d :: l, hl => by
    have hd := hl d (by simp)
    have hp := enc_pos l
    have ih := cmE_enc (v := v) (n := n) (l := l) (fun x hx => hl x (by simp [hx]))
    have e1 : (4 * enc l + d) % 4 = d := by omega
    have e2 : (4 * enc l + d) / 4 = enc l := by omega
    show cmE v (n + 1) (4 * enc l + d) = true ↔ d :: l.take n = v n :: rvW v n
    by_cases e : d = v n
    · rw [cmE_y ⟨by omega, by rw [e1]; exact e, by omega⟩, e2, ih]
      constructor
      · intro h; rw [h, e]
      · intro h; exact (List.cons.inj h).2
    · rw [cmE_n (fun h => e (by rw [← h.2.1, e1]))]
      constructor
      · intro h; cases h
      · intro h; exact absurd (List.cons.inj h).1 e
/-- a WORD of the set ends the text -/
def endsW (ln : Nat → Nat) (u : Nat → Nat → Nat) (B : Nat) (l : List Nat) : Prop := ∃ k, k < 8 ∧ btL B k ∧ 0 < ln k ∧ l.take (ln k) = rvW (u k) (ln k)
theorem hsB_iff {ln : Nat → Nat} {u : Nat → Nat → Nat} {B e d : Nat} : ∀ {s : Nat}, hsB ln u B e d s = true ↔ ∃ k, k < s ∧ btL B k ∧ 0 < ln k ∧ cmE (u k) (ln k) (4 * e + d) = true
  | 0 => ⟨fun h => Bool.noConfusion h, fun ⟨k, hk, _⟩ => absurd hk (by omega)⟩
  | s + 1 => by
    by_cases h : hsB ln u B e d s = true
    · rw [hsB_1 h]
      obtain ⟨k, a, b⟩ := hsB_iff.mp h
      exact ⟨fun _ => ⟨k, by omega, b⟩, fun _ => rfl⟩
    · by_cases h2 : btL B s ∧ 0 < ln s ∧ cmE (u s) (ln s) (4 * e + d) = true
      · rw [hsB_y h2.1 h2.2.1 h2.2.2]
        exact ⟨fun _ => ⟨s, by omega, h2⟩, fun _ => rfl⟩
      · constructor
        · intro h3; exact absurd h3 (hsB_n h h2)
        · rintro ⟨k, a, b⟩
          by_cases ek : k = s
          · subst ek; exact absurd b h2
          · exact absurd (hsB_iff.mpr ⟨k, by omega, b⟩) h
theorem hsN_iff {ln : Nat → Nat} {u : Nat → Nat → Nat} {B d : Nat} {y : List Nat} (hln : ∀ k, ln k ≤ 5) (hy : ∀ x, x ∈ y → x < 4) (hd : d < 4) : hsN ln u B (enc (y.take 4)) d = 1 ↔ endsW ln u B (d :: y) := by
  have h1 : hsN ln u B (enc (y.take 4)) d = 1 ↔ hsB ln u B (enc (y.take 4)) d 8 = true := by
    unfold hsN
    by_cases h : hsB ln u B (enc (y.take 4)) d 8 = true
    · rw [if_pos h]; exact ⟨fun _ => h, fun _ => rfl⟩
    · rw [if_neg h]; exact ⟨fun h2 => absurd h2 (by decide), fun h2 => absurd h2 h⟩
  rw [h1, hsB_iff]
  have key : ∀ k, cmE (u k) (ln k) (4 * enc (y.take 4) + d) = true ↔ (d :: y).take (ln k) = rvW (u k) (ln k) := fun k => by
    have h2 := cmE_enc (v := u k) (n := ln k) (l := d :: y.take 4) (fun x hx => by
      rcases List.mem_cons.mp hx with h | h
      · rw [h]; exact hd
      · exact hy x (List.mem_of_mem_take h))
    have h3 : (d :: y.take 4).take (ln k) = (d :: y).take (ln k) := by
      cases e : ln k with
      | zero => rfl
      | succ m =>
        show d :: (y.take 4).take m = d :: y.take m
        rw [List.take_take, show min m 4 = m by have := hln k; omega]
    rw [h3] at h2
    exact h2
  constructor
  · rintro ⟨k, a, b, e, f⟩; exact ⟨k, a, b, e, (key k).mp f⟩
  · rintro ⟨k, a, b, e, f⟩; exact ⟨k, a, b, e, (key k).mpr f⟩
/-- the machine reads a text as the document does -/
def macOK (q : Nat) (ln : Nat → Nat) (u : Nat → Nat → Nat) (B : Nat) (nx hv : Nat → Nat) (S : Nat) (pa : Nat → List Nat) : Prop := 0 < S ∧ (∀ e, nx e < S) ∧ (∀ t, hv t ≤ 1) ∧ LSp S pa 0 [] ∧ ∀ s y d, LSp S pa s y → d < q → LSp S pa (nx (s * 4 + d)) (d :: y) ∧ (hv (nx (s * 4 + d)) = 1 ↔ endsW ln u B (d :: y))
theorem mac_of {q : Nat} {ln : Nat → Nat} {u : Nat → Nat → Nat} {B : Nat} {nx hv : Nat → Nat} {S : Nat} {pa : Nat → List Nat} (hT : TrI q nx S pa) (hq : q ≤ 4) (hS41 : S ≤ 41) (hn : ∀ e, nx e < S) (hv1 : ∀ t, hv t ≤ 1) (hw : ∀ t, t < S → (hv t = 1 ↔ ∃ k, k < 8 ∧ 0 < ln k ∧ btL B k ∧ pa t = rvW (u k) (ln k))) (hh : ∀ k, k < 8 → 0 < ln k → btL B k → ∃ y, y < S ∧ pa y = rvW (u k) (ln k)) : macOK q ln u B (lkF q (nx, fun _ => 0, fun _ => 0, hv, 1)).1 (lkF q (nx, fun _ => 0, fun _ => 0, hv, 1)).2.2.2.1 S pa := by
  obtain ⟨h1, h2, h3⟩ := lkF_all (hv := hv) hT hq hS41 hv1
  have hB : lkB S (lkF q (nx, fun _ => 0, fun _ => 0, hv, 1)) := by
    unfold lkF
    exact lkO_B ⟨hn, fun _ => hT.1, fun _ => hT.1, hv1, by show 1 ≤ 41; decide⟩ _
  refine ⟨hT.1, hB.1, h3, ls_nil hT, fun s y d hs hd => ?_⟩
  have hst := ls_step hT hs (h1 s d hs.1 hd)
  refine ⟨hst, ?_⟩
  rw [h2 _ hst.1]
  obtain ⟨v1, m0, v2, v3, v4⟩ := hst
  have hlen : (rvW (u 0) 0).length = 0 := rfl
  constructor
  · rintro ⟨t, t1, t2, m, t3⟩
    obtain ⟨k, k1, k2, k3, k4⟩ := (hw t t1).mp t2
    refine ⟨k, k1, k3, k2, ?_⟩
    rw [v3, List.take_take, k4] at t3
    have hl : ln k = min (min m m0) (d :: y).length := by
      have := congrArg List.length t3
      rw [rvW_len, List.length_take] at this
      exact this
    rw [t3]
    by_cases e : min m m0 ≤ (d :: y).length
    · rw [hl, show min (min m m0) (d :: y).length = min m m0 by omega]
    · rw [hl, show min (min m m0) (d :: y).length = (d :: y).length by omega, List.take_length, List.take_of_length_le (by omega)]
  · rintro ⟨k, k1, k3, k2, k4⟩
    obtain ⟨t, t1, t2⟩ := hh k k1 k2 k3
    have hl : ln k ≤ (d :: y).length := by
      have := congrArg List.length k4
      rw [rvW_len, List.length_take] at this
      omega
    have hm : ln k ≤ m0 := by
      refine Classical.byContradiction (fun hc => ?_)
      exact v4 (ln k) (by omega) hl ⟨t, t1, by rw [t2, k4]⟩
    refine ⟨t, t1, (hw t t1).mpr ⟨k, k1, k2, k3, t2⟩, ln k, ?_⟩
    rw [v3, List.take_take, show min (ln k) m0 = ln k by omega, k4, t2]
section SM
variable {q : Nat} {w ln : Nat → Nat} {u : Nat → Nat → Nat} {B : Nat} {nx hv : Nat → Nat} {S M nv : Nat} {pa : Nat → List Nat}
theorem tMn_z {f : Nat → Int} (hq : q ≤ 4) (hz : ∀ k e, M < k → vE e → f (512 * k + e) = 0) : ∀ {r k e : Nat}, M < k → vE e → tMn q w (hsN ln u B) nv f r (512 * k + e) = 0
  | 0, k, e, hk, he => hz k e hk he
  | r + 1, k, e, hk, he => by
    have hb := vE_b he
    show tM q w (hsN ln u B) nv (tMn q w (hsN ln u B) nv f r) (512 * k + e) = 0
    unfold tM
    rw [show (512 * k + e) / 512 = k by omega, show (512 * k + e) % 512 = e by omega]
    refine si_zero (fun d hd => ?_)
    split
    · rfl
    · rw [tMn_z hq hz (r := r) (by omega) (vE_s he (by omega)), Int.mul_zero]
theorem sim {fc fm : Nat → Int} (hm : macOK q ln u B nx hv S pa) (hq : q ≤ 4) (hln : ∀ k, ln k ≤ 5) (hnv : nv = 0 ∨ M = 0) (hb : ∀ k s e, k ≤ M → s < S → vE e → fc (k * S + s) = fm (512 * k + e)) (hz : ∀ k e, M < k → vE e → fm (512 * k + e) = 0) : ∀ {r k s : Nat} {y : List Nat}, k ≤ M → LSp S pa s y → (∀ x, x ∈ y → x < q) → tCn q w nx hv S M fc r (k * S + s) = tMn q w (hsN ln u B) nv fm r (512 * k + enc (y.take 4))
  | 0, k, s, y, hk, hs, hy => hb k s _ hk hs.1 (enc_v (fun x hx => Nat.lt_of_lt_of_le (hy x hx) hq))
  | r + 1, k, s, y, hk, hs, hy => by
    have hy4 : ∀ x, x ∈ y → x < 4 := fun x hx => Nat.lt_of_lt_of_le (hy x hx) hq
    have hv5 := enc_v hy4
    have hb5 := vE_b hv5
    have hsS := hs.1
    show tC q w nx hv S M (tCn q w nx hv S M fc r) (k * S + s) = tM q w (hsN ln u B) nv (tMn q w (hsN ln u B) nv fm r) (512 * k + enc (y.take 4))
    unfold tC tM
    rw [show (512 * k + enc (y.take 4)) / 512 = k by omega, show (512 * k + enc (y.take 4)) % 512 = enc (y.take 4) by omega]
    have e1 : (k * S + s) / S = k := by
      rw [Nat.add_comm, Nat.add_mul_div_right _ _ (by omega), Nat.div_eq_of_lt (by omega), Nat.zero_add]
    have e2 : (k * S + s) % S = s := by
      rw [Nat.add_comm, Nat.add_mul_mod_self_right, Nat.mod_eq_of_lt (by omega)]
    rw [e1, e2]
    refine si_congr (fun d hd => ?_)
    obtain ⟨p1, p2⟩ := hm.2.2.2.2 s y d hs hd
    have eh : hv (nx (s * 4 + d)) = hsN ln u B (enc (y.take 4)) d := by
      have h3 := hsN_iff (u := u) (B := B) (d := d) hln hy4 (by omega)
      have h4 := hm.2.2.1 (nx (s * 4 + d))
      have h5 := hsN_le (ln := ln) (u := u) (B := B) (e := enc (y.take 4)) (d := d)
      by_cases c : endsW ln u B (d :: y)
      · rw [p2.mpr c, h3.mpr c]
      · have a1 : ¬ hv (nx (s * 4 + d)) = 1 := fun h => c (p2.mp h)
        have a2 : ¬ hsN ln u B (enc (y.take 4)) d = 1 := fun h => c (h3.mp h)
        omega
    rw [eh]
    by_cases c : k + hsN ln u B (enc (y.take 4)) d ≤ M
    · rw [if_pos c, if_neg (fun h => by rcases hnv with g | g; exact h.2 g; exact h.1 (by omega)), enc_s hy4 (by omega), sim hm hq hln hnv hb hz (r := r) c p1 (fun x hx => by
        rcases List.mem_cons.mp hx with h | h
        · rw [h]; exact hd
        · exact hy x h)]
    · rw [if_neg c]
      split
      · rfl
      · rw [tMn_z hq hz (r := r) (by omega) (vE_s hv5 (by omega)), Int.mul_zero]
/-- what the machine counts is what the model counts -/
theorem sim_si {fc fm : Nat → Int} (hm : macOK q ln u B nx hv S pa) (hq : q ≤ 4) (hln : ∀ k, ln k ≤ 5) (hnv : nv = 0 ∨ M = 0) (hb : ∀ k s e, k ≤ M → s < S → vE e → fc (k * S + s) = fm (512 * k + e)) (hz : ∀ k e, M < k → vE e → fm (512 * k + e) = 0) {r : Nat} (hr : r ≤ 30) : si (fun y => wgh q w nx hv S M r y * fc y) ((M + 1) * S) = si (fun y => ctN q w (hsN ln u B) nv r y * fm y) 16384 := by
  rw [wgh_si hm.1 hm.2.1 hm.2.2.1, ctN_si hq (fun _ _ => hsN_le) hr]
  have := sim (w := w) (r := r) hm hq hln hnv hb hz (Nat.zero_le M) hm.2.2.2.1 (fun x hx => by cases hx)
  rw [Nat.zero_mul, Nat.zero_add] at this
  exact this
end SM
