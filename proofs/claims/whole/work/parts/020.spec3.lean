/-- the letter that a number d below the weights' sum draws -/
def pick (q : Nat) (w : Nat → Nat) (d : Nat) : Nat := (lsF (fun i => decide (d < wsum w (i + 1))) q).getD 0
theorem wsum_mono {w : Nat → Nat} {a : Nat} : ∀ {b : Nat}, a ≤ b → wsum w a ≤ wsum w b
  | 0, h => by rw [show a = 0 by omega]; exact Nat.le_refl _
  | b + 1, h => by
    rcases Nat.lt_or_ge a (b + 1) with h1 | h1
    · have h2 := wsum_mono (w := w) (a := a) (b := b) (by omega)
      show wsum w a ≤ wsum w b + w b
      omega
    · rw [show a = b + 1 by omega]; exact Nat.le_refl _
theorem pick_eq {q : Nat} {w : Nat → Nat} {d i : Nat} (hi : i < q) (h1 : wsum w i ≤ d) (h2 : d < wsum w (i + 1)) : pick q w d = i := by
  unfold pick
  rw [lsF_some (a := i) (decide_eq_true h2) (fun x hx h => ?_) hi]
  · rfl
  · have h3 := of_decide_eq_true h
    have h4 := wsum_mono (w := w) (show x + 1 ≤ i by omega)
    omega
/-- the seed after j letters -/
def sdN (s0 : Int32) : Nat → Int32
  | 0 => s0
  | j + 1 => sdN s0 j * 1103515245 + 12345
/-- a seed, shifted right by 16 without its sign -/
def s16 (x : Int32) : Nat := x.toBitVec.toNat / 65536
theorem s16_lt (x : Int32) : s16 x < 65536 := by
  have h := x.toBitVec.isLt
  unfold s16
  omega
theorem s16_eq (x : Int32) : (x.toUInt32 >>> ((nI 16).toUInt32 &&& Int32.toUInt32 31)).toInt32 = nI (s16 x) := by
  apply Int32.toBitVec_inj.mp
  apply BitVec.eq_of_toNat_eq
  rw [pk_ushr x (nI 16) 16 (by decide +kernel), pk_tn (Nat.lt_trans (s16_lt x) (by decide))]
  rfl
/-- the j-th letter drawn -/
def drw (q Wt : Nat) (w : Nat → Nat) (s0 : Int32) (j : Nat) : Nat := pick q w (s16 (sdN s0 (j + 1)) % Wt)
theorem clamp_nI (j : Nat) (h : j < 2 ^ 31) : (nI j).toNatClampNeg = j := nI_clamp h
theorem aLetter_in {T j : Nat} {t : Nat → Nat} (hT : T ≤ 300) (h : j < T) : aLetter T t (nI j) = nI (t j) := by
  unfold aLetter
  rw [if_pos ⟨nI_pos (by omega), nI_ge h (by omega)⟩, nI_clamp (by omega)]
theorem aLetter_out {T : Nat} {t : Nat → Nat} {x : Int32} (h : x < 0 ∨ nI T ≤ x) : aLetter T t x = -1 := by
  unfold aLetter
  exact if_neg (fun h2 => h.elim h2.1 h2.2)
