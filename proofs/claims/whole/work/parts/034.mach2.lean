/-- what link works on: next, shorter, order, hit, found -/
abbrev LkS : Type := (Nat → Nat) × (Nat → Nat) × (Nat → Nat) × (Nat → Nat) × Nat
/-- one letter c of the state s -/
def lkC (s c : Nat) (x : LkS) : LkS :=
  if x.1 (s * 4 + c) = 0 then (va_up x.1 (s * 4 + c) (if s = 0 then 0 else x.1 (x.2.1 s * 4 + c)), x.2.1, x.2.2.1, x.2.2.2.1, x.2.2.2.2)
  else if x.2.2.2.2 < 41 then (x.1, va_up x.2.1 (x.1 (s * 4 + c)) (if s = 0 then 0 else x.1 (x.2.1 s * 4 + c)), va_up x.2.2.1 x.2.2.2.2 (x.1 (s * 4 + c)), x.2.2.2.1, x.2.2.2.2 + 1) else x
def lkL (s : Nat) (x : LkS) : Nat → LkS
  | 0 => x
  | c + 1 => lkC s c (lkL s x c)
/-- the hit of a state, from its shorter one -/
def lkH (s : Nat) (x : LkS) : LkS := (x.1, x.2.1, x.2.2.1, va_up x.2.2.2.1 s (if ¬ x.2.2.2.1 s = 0 then 1 else if ¬ x.2.2.2.1 (x.2.1 s) = 0 then 1 else 0), x.2.2.2.2)
def lkO (q : Nat) (x : LkS) : Nat → LkS
  | 0 => x
  | i + 1 => lkL ((lkO q x i).2.2.1 i) (lkH ((lkO q x i).2.2.1 i) (lkO q x i)) q
def lkB (S : Nat) (x : LkS) : Prop := (∀ e, x.1 e < S) ∧ (∀ s, x.2.1 s < S) ∧ (∀ i, x.2.2.1 i < S) ∧ (∀ s, x.2.2.2.1 s ≤ 1) ∧ x.2.2.2.2 ≤ 41
theorem va_up_lt {f : Nat → Nat} {k v B : Nat} (h : ∀ e, f e < B) (hv : v < B) : ∀ e, va_up f k v e < B := fun e => by
  by_cases he : e = k
  · rw [he, va_up_self]; exact hv
  · rw [va_up_ne _ _ he]; exact h e
theorem lkC_B {S s c : Nat} {x : LkS} (h : lkB S x) : lkB S (lkC s c x) := by
  obtain ⟨h1, h2, h3, h4, h5⟩ := h
  have h0 := h1 0
  have hf : (if s = 0 then 0 else x.1 (x.2.1 s * 4 + c)) < S := by split; omega; exact h1 _
  unfold lkC
  split
  · exact ⟨va_up_lt h1 hf, h2, h3, h4, h5⟩
  · split
    · exact ⟨h1, va_up_lt h2 hf, va_up_lt h3 (h1 _), h4, by show x.2.2.2.2 + 1 ≤ 41; omega⟩
    · exact ⟨h1, h2, h3, h4, h5⟩
theorem lkL_B {S s : Nat} {x : LkS} (h : lkB S x) : ∀ c, lkB S (lkL s x c)
  | 0 => h
  | c + 1 => lkC_B (lkL_B h c)
theorem lkH_B {S s : Nat} {x : LkS} (h : lkB S x) : lkB S (lkH s x) := by
  obtain ⟨h1, h2, h3, h4, h5⟩ := h
  refine ⟨h1, h2, h3, fun e => ?_, h5⟩
  show va_up _ _ _ e ≤ 1
  by_cases he : e = s
  · rw [he, va_up_self]; split; decide; split <;> decide
  · rw [va_up_ne _ _ he]; exact h4 e
theorem lkO_B {q S : Nat} {x : LkS} (h : lkB S x) : ∀ i, lkB S (lkO q x i)
  | 0 => h
  | i + 1 => lkL_B (lkH_B (lkO_B h i)) q
/-- how many states link goes through, and what it leaves -/
def lkI (q : Nat) (x : LkS) : Nat := (lsF (fun i => decide ((lkO q x i).2.2.2.2 ≤ i)) 41).getD 41
def lkF (q : Nat) (x : LkS) : LkS := lkO q x (lkI q x)
theorem lkI_eq {q : Nat} {x : LkS} {i : Nat} (h1 : i ≤ 41) (h2 : ∀ j, j < i → j < (lkO q x j).2.2.2.2) (h3 : (lkO q x i).2.2.2.2 ≤ i ∨ i = 41) : lkI q x = i := by
  unfold lkI
  rcases Nat.lt_or_ge i 41 with h | h
  · rw [lsF_some (a := i) (decide_eq_true (by omega)) (fun j hj hd => by have := of_decide_eq_true hd; have := h2 j hj; omega) h]; rfl
  · rw [lsF_none (fun j hj hd => by have := of_decide_eq_true hd; have := h2 j (by omega); omega)]
    show 41 = i; omega
theorem upd_nI1 {f : Nat → Int32} {g : Nat → Nat} {n v : Nat} (h : ∀ j, j < n → f j = nI (g j)) : ∀ j, j < n + 1 → upd f n (nI v) j = nI (va_up g n v j) := fun j hj => by
  by_cases e : j = n
  · subst e; rw [pk_us, va_up_self]
  · rw [pk_un e, va_up_ne _ _ e]; exact h j (by omega)
/-- one weight, spread over the letters below c -/
def spr (w nx hv : Nat → Nat) (S s k M : Nat) (x : Int) (th : Nat → Int) : Nat → Nat → Int
  | 0 => th
  | c + 1 => if k + hv (nx (s * 4 + c)) ≤ M then va_up (spr w nx hv S s k M x th c) ((k + hv (nx (s * 4 + c))) * S + nx (s * 4 + c)) (spr w nx hv S s k M x th c ((k + hv (nx (s * 4 + c))) * S + nx (s * 4 + c)) + x * (w c : Int)) else spr w nx hv S s k M x th c
theorem spr_y {w nx hv : Nat → Nat} {S s k M c : Nat} {x : Int} {th : Nat → Int} (h : k + hv (nx (s * 4 + c)) ≤ M) : spr w nx hv S s k M x th (c + 1) = va_up (spr w nx hv S s k M x th c) ((k + hv (nx (s * 4 + c))) * S + nx (s * 4 + c)) (spr w nx hv S s k M x th c ((k + hv (nx (s * 4 + c))) * S + nx (s * 4 + c)) + x * (w c : Int)) := by
  show (if _ then _ else _) = _
  rw [if_pos h]
theorem spr_n {w nx hv : Nat → Nat} {S s k M c : Nat} {x : Int} {th : Nat → Int} (h : ¬ k + hv (nx (s * 4 + c)) ≤ M) : spr w nx hv S s k M x th (c + 1) = spr w nx hv S s k M x th c := by
  show (if _ then _ else _) = _
  rw [if_neg h]
theorem updL_lZ {f : Nat → Int64} {g : Nat → Int} {n k : Nat} {v : Int} (h : ∀ j, j < n → f j = lZ (g j)) : ∀ j, j < n → vp_updL f k (lZ v) j = lZ (va_up g k v j) := fun j hj => by
  by_cases e : j = k
  · subst e; rw [pk_uLs, va_up_self]
  · rw [pk_uLn e, va_up_ne _ _ e]; exact h j hj
theorem ix186 {a b S M : Nat} (ha : a ≤ M) (hb : b < S) (h : S * (M + 1) ≤ 186) : a * S + b < 186 := by
  have h1 : a * S ≤ M * S := Nat.mul_le_mul_right S ha
  have h2 : S * (M + 1) = M * S + S := by rw [Nat.mul_add, Nat.mul_one, Nat.mul_comm]
  omega
/-- the states below c of one count -/
def rdS (q : Nat) (w nx hv : Nat → Nat) (S k M : Nat) (nw th : Nat → Int) : Nat → Nat → Int
  | 0 => th
  | s + 1 => spr w nx hv S s k M (nw (k * S + s)) (rdS q w nx hv S k M nw th s) q
def rdK (q : Nat) (w nx hv : Nat → Nat) (S M : Nat) (nw : Nat → Int) : Nat → Nat → Int
  | 0 => fun _ => 0
  | k + 1 => rdS q w nx hv S k M nw (rdK q w nx hv S M nw k) S
theorem va_up_id {α : Type} {f : Nat → α} {k : Nat} {v : α} (h : v = f k) : va_up f k v = f := by
  funext j
  by_cases e : j = k
  · subst e; rw [va_up_self, h]
  · rw [va_up_ne _ _ e]
theorem spr_0 {w nx hv : Nat → Nat} {S s k M : Nat} {x : Int} {th : Nat → Int} (hx : lZ x = 0) : ∀ (c j : Nat), lZ (spr w nx hv S s k M x th c j) = lZ (th j)
  | 0, _ => rfl
  | c + 1, j => by
    by_cases h : k + hv (nx (s * 4 + c)) ≤ M
    · rw [spr_y h]
      by_cases e : j = (k + hv (nx (s * 4 + c))) * S + nx (s * 4 + c)
      · rw [e, va_up_self, ← lZ_add, ← lZ_mul, hx, spr_0 hx c, Int64.zero_mul, Int64.add_zero]
      · rw [va_up_ne _ _ e]; exact spr_0 hx c j
    · rw [spr_n h]; exact spr_0 hx c j
set_option maxHeartbeats 4000000 in
set_option maxRecDepth 100000 in
/-- Machine.spread -/
theorem mX1_spread (l : Launch) {D : va_G} {cI cJ cZ cW : ClassId} {ad : Nat → Nat} {A : Nat → Prop} (hD : ∀ g, va_D A (xw 81 ad g)) {g : Nat → va_E} {q Wt S s1 k1 M1 na nb : Nat} {w nx hv : Nat → Nat} {x1 : Int} {th : Nat → Int} {f2 f9 f12 : Nat → Int32} {fb : Nat → Int64}  (fo8 : g (8) = .inr (1, [.ref (ad (9)), .ref (ad (10)), .ref (ad (11)), .ref (ad (12)), .ref (ad (na)), .ref (ad (nb)), .int (nI (S))])) (fa9 : g (9) = .inl (cI, 164, .inl (f9))) (fa12 : g (12) = .inl (cZ, 41, .inl (f12))) (fo_1 : g (1) = .inr (0, [.ref (ad (2)), .int (nI (q)), .int (nI (Wt))])) (fa_2 : g (2) = .inl (cI, 4, .inl (f2))) (fab : g (nb) = .inl (cJ, 186, .inr (.inl (fb)))) (hq4 : q ≤ 4) (h2 : ∀ j, j < 4 → f2 j = nI (w j)) (hw : ∀ j, j < 4 → w j ≤ 4) (hab : (na = 13 ∧ nb = 14) ∨ (na = 14 ∧ nb = 13)) (hS41 : S ≤ 41) (hs1 : s1 < S) (hnx : ∀ e, nx e < S) (h9 : ∀ j, j < 164 → f9 j = nI (nx j)) (hht : ∀ s, hv s ≤ 1) (h12 : ∀ j, j < 41 → f12 j = nI (hv j)) (hM1 : M1 ≤ 30) (hk1 : k1 ≤ M1) (hSM : S * (M1 + 1) ≤ 186) (hth : ∀ j, j < 186 → fb j = lZ (th j)) : Met l yX1_spread wsX1_spread ({ frames := 0, cells := 0, slots := 0, locals := 0 }) (va_Pc [.ref (ad (8)), .ref (ad (1)), .int (nI (s1)), .int (nI (k1)), .int (nI (M1)), .long (lZ (x1))] (xB D (xT cI cJ cZ cW) ad g)) (va_Qv (fun g2 => ∃ fz : Nat → Int64, (∀ j, j < 186 → fz j = lZ (spr w nx hv S s1 k1 M1 x1 th q j)) ∧ g2 (nb) = .inl (cJ, 186, .inr (.inl (fz))) ∧ ∀ j : Nat, j ≠ nb → g2 j = g j) (xB D (xT cI cJ cZ cW) ad) A) 0 0 A := by
  refine Met.ofW (cc := cX1_spread) (maxL := 10) (ret := none) (by decide) rfl ?_
  intro p e s m args below meth c s₁ B hml hv
  obtain ⟨rfl, hP, hK, hN⟩ := hv
  have hx := B.exec
  have hb := B.bytes
  have hr := B.returns
  have hts := atoms_spec (ws := wsX1_spread) B.pre
  have hown : s.vm.findClass RX1 = some m.cls := findClass_of_methodNamed B.named
  have hlocks := B.notSynchronized
  have hS : va_S A s.heap s.heap [] := va_S.rf
  have hin0 : ∀ w ∈ wsX00, w ∈ wsX1_spread := by decide +kernel
  have hin1 : ∀ w ∈ wsX10, w ∈ wsX1_spread := by decide +kernel
  have hf11 := hts (.fieldLink RX1 11 "LettersByLot$Machine" "next" "[I") (by decide +kernel)
  have hf21 := hts (.fieldLink RX1 21 "LettersByLot$Machine" "hit" "[Z") (by decide +kernel)
  have hf29 := hts (.fieldLink RX1 29 "LettersByLot$Machine" "then" "[J") (by decide +kernel)
  have hf32 := hts (.fieldLink RX1 32 "LettersByLot$Machine" "states" "I") (by decide +kernel)
  have hf50 := hts (.fieldLink RX1 50 "LettersByLot$Lot" "letters" "I") (by decide +kernel)
  have hf71 := hts (.fieldLink RX1 71 "LettersByLot$Lot" "weights" "[I") (by decide +kernel)
  have hl := lv_entry ([.ref (ad (8)), .ref (ad (1)), .int (nI (s1)), .int (nI (k1)), .int (nI (M1)), .long (lZ (x1))]) (n := 10) (Nat.le_of_ble_eq_true rfl)
  rw [lg_entry_eq]
  generalize (lg_sl ([.ref (ad (8)), .ref (ad (1)), .int (nI (s1)), .int (nI (k1)), .int (nI (M1)), .long (lZ (x1))]) ++ List.replicate (10 - (lg_sl ([.ref (ad (8)), .ref (ad (1)), .int (nI (s1)), .int (nI (k1)), .int (nI (M1)), .long (lZ (x1))])).length) Slot.unset).toArray = ls at hl ⊢
  have hl : lv_has ls 10 [(0, .ref (ad (8))), (1, .ref (ad (1))), (2, .int (nI (s1))), (3, .int (nI (k1))), (4, .int (nI (M1))), (5, .long (lZ (x1)))] := hl
  refine lv_iconst (v := nI (0)) hx hb dX1_spread_0 (by decide) ?_
  refine lv_istore (lv' := [(7, .int (nI (0))), (0, .ref (ad (8))), (1, .ref (ad (1))), (2, .int (nI (s1))), (3, .int (nI (k1))), (4, .int (nI (M1))), (5, .long (lZ (x1)))]) hx hb dX1_spread_1 hl (by decide) rfl (fun ls hl => ?_)
  refine xloopW (G := fun H locs fr => W p l e _ s m _ below meth c H locs _ _ _ fr) (σ := Nat × (Nat → Int64)) (fun (i, fz) ls => F0 m 3 ls []) (fun (i, fz) gl3_1 H locs ls => (i ≤ q) ∧ (∀ j, j < 186 → fz j = lZ (spr w nx hv S s1 k1 M1 x1 th i j)) ∧ gl3_1 (8) = .inr (1, [.ref (ad (9)), .ref (ad (10)), .ref (ad (11)), .ref (ad (12)), .ref (ad (na)), .ref (ad (nb)), .int (nI (S))]) ∧ gl3_1 (9) = .inl (cI, 164, .inl (f9)) ∧ gl3_1 (12) = .inl (cZ, 41, .inl (f12)) ∧ gl3_1 (1) = .inr (0, [.ref (ad (2)), .int (nI (q)), .int (nI (Wt))]) ∧ gl3_1 (2) = .inl (cI, 4, .inl (f2)) ∧ gl3_1 (nb) = .inl (cJ, 186, .inr (.inl (fz))) ∧ (∀ j : Nat, j ≠ nb → gl3_1 j = g j) ∧ va_P D vwCl (xw 81 ad gl3_1) H ∧ va_S A s.heap H locs ∧ lv_has ls 10 [(0, .ref (ad (8))), (1, .ref (ad (1))), (2, .int (nI (s1))), (3, .int (nI (k1))), (4, .int (nI (M1))), (5, .long (lZ (x1))), (7, .int (nI (i)))]) (fun (i, fz) => q - i) ?_ (0, fb) g s.heap [] ls ⟨(by omega), hth, fo8, fa9, fa12, fo_1, fa_2, fab, (fun _ _ => rfl), hP, hS, (lv_sub hl [1, 2, 3, 4, 5, 6, 0] rfl)⟩
  rintro ⟨i, fz⟩ gl3_1 H locs ls ⟨hi, hfz, fo8, fa9, fa12, fo_1, fa_2, fab, hfrgl3_1, hP, hS, hl⟩ ih3
  refine lv_iload hx hb dX1_spread_3 (lv_at hl 6 rfl) ?_
  refine lv_aload_n hx hb dX1_spread_5 rfl (lv_at hl 1 rfl) ?_
  refine xw_get hx hb hts hin0 hown hK hP (by decide) fo_1 rfl 1 (by decide) hf50 rfl rfl dX1_spread_6 ?_
  refine xi_icmp_ge (tgt := 86) hx hb (by omega) (by omega) dX1_spread_9 (by decide) (fun c9_2 => ?_) (fun c9_2 => ?_)
  · exact W.vret hx hb hr (fun tZ ht hW => ⟨⟨gl3_1, rfl, (by have hiq : i = q := (by omega); subst hiq; exact ⟨fz, hfz, fab, hfrgl3_1⟩), by rw [ht]; exact hP, va_K.moved hW.alike hK, va_Nw.warmM hW hN⟩, hS.F ht⟩) hS.2.2 dX1_spread_86
  · refine lv_aload_n hx hb dX1_spread_12 rfl (lv_at hl 0 rfl) ?_
    refine xw_get hx hb hts hin1 hown hK hP (by decide) fo8 rfl 0 (by decide) hf11 rfl rfl dX1_spread_13 ?_
    refine lv_iload_n hx hb dX1_spread_16 rfl (lv_at hl 2 rfl) ?_
    refine lv_iconst (v := nI (4)) hx hb dX1_spread_17 (by decide) ?_
    refine xi_mul hx hb dX1_spread_18 ?_
    refine lv_iload hx hb dX1_spread_19 (lv_at hl 6 rfl) ?_
    refine xi_add hx hb dX1_spread_21 ?_
    refine xw_iald hx hb hK hP (by decide) 0 fa9 rfl (by omega) (by decide) dX1_spread_22 ?_
    rw [h9 ((s1 * 4) + i) (by omega)]
    refine lv_istore (lv' := [(8, .int (nI (nx ((s1 * 4) + i)))), (0, .ref (ad (8))), (1, .ref (ad (1))), (2, .int (nI (s1))), (3, .int (nI (k1))), (4, .int (nI (M1))), (5, .long (lZ (x1))), (7, .int (nI (i)))]) hx hb dX1_spread_23 hl (by decide) rfl (fun ls hl => ?_)
    refine lv_aload_n hx hb dX1_spread_25 rfl (lv_at hl 1 rfl) ?_
    refine xw_get hx hb hts hin1 hown hK hP (by decide) fo8 rfl 3 (by decide) hf21 rfl rfl dX1_spread_26 ?_
    refine lv_iload hx hb dX1_spread_29 (lv_at hl 0 rfl) ?_
    refine xw_zald hx hb hK hP (by decide) 2 fa12 rfl (Nat.lt_of_lt_of_le (hnx _) hS41) (by decide) dX1_spread_31 ?_
    rw [h12 (nx ((s1 * 4) + i)) (Nat.lt_of_lt_of_le (hnx _) hS41)]
    refine xi_if_eq (tgt := 41) hx hb (by have h8 := hht (nx (s1 * 4 + i)); omega) dX1_spread_32 (by decide) (fun c32_3 => ?_) (fun c32_3 => ?_)
    · have hpl : k1 = k1 + hv (nx (s1 * 4 + i)) := by omega
      refine lv_iload_n hx hb dX1_spread_41 rfl (lv_at hl 4 rfl) ?_
      refine xtopi (y := nI (k1 + hv (nx (s1 * 4 + i)))) (congrArg nI hpl) ?_
      refine lv_istore (lv' := [(9, .int (nI (k1 + hv (nx (s1 * 4 + i))))), (8, .int (nI (nx ((s1 * 4) + i)))), (0, .ref (ad (8))), (1, .ref (ad (1))), (2, .int (nI (s1))), (3, .int (nI (k1))), (4, .int (nI (M1))), (5, .long (lZ (x1))), (7, .int (nI (i)))]) hx hb dX1_spread_42 hl (by decide) rfl (fun ls hl => ?_)
      refine lv_iload hx hb dX1_spread_44 (lv_at hl 0 rfl) ?_
      refine lv_iload hx hb dX1_spread_46 (lv_at hl 6 rfl) ?_
      refine xi_icmp_gt (tgt := 80) hx hb (by have h8 := hht (nx (s1 * 4 + i)); omega) (by omega) dX1_spread_48 (by decide) (fun c48_4 => ?_) (fun c48_4 => ?_)
      · have hsp := spr_n (w := w) (nx := nx) (hv := hv) (S := S) (s := s1) (k := k1) (M := M1) (c := i) (x := x1) (th := th) (by omega)
        refine lv_iinc (v := nI (i + 1)) (lv' := [(7, .int (nI (i + 1))), (9, .int (nI (k1 + hv (nx (s1 * 4 + i))))), (8, .int (nI (nx ((s1 * 4) + i)))), (0, .ref (ad (8))), (1, .ref (ad (1))), (2, .int (nI (s1))), (3, .int (nI (k1))), (4, .int (nI (M1))), (5, .long (lZ (x1)))]) hx hb dX1_spread_80 hl (k := 8) rfl (nI_add (i) 1) (by decide) rfl (fun ls hl => ?_)
        refine lv_goto (tgt := 3) hx hb dX1_spread_83 (by decide) ?_
        exact ih3 (i + 1, fz) gl3_1 H locs ls ⟨(by omega), (by rw [hsp]; exact hfz), fo8, fa9, fa12, fo_1, fa_2, fab, hfrgl3_1, hP, hS, (lv_sub hl [3, 4, 5, 6, 7, 8, 0] rfl)⟩ (by first | omega | (dsimp only; omega))
      · have hsp := spr_y (w := w) (nx := nx) (hv := hv) (S := S) (s := s1) (k := k1) (M := M1) (c := i) (x := x1) (th := th) c48_4
        have hix := ix186 c48_4 (hnx (s1 * 4 + i)) hSM
        refine lv_aload_n hx hb dX1_spread_51 rfl (lv_at hl 2 rfl) ?_
        refine xw_get hx hb hts hin1 hown hK hP (by decide) fo8 rfl 5 (by decide) hf29 rfl rfl dX1_spread_52 ?_
        refine lv_iload hx hb dX1_spread_55 (lv_at hl 0 rfl) ?_
        refine lv_aload_n hx hb dX1_spread_57 rfl (lv_at hl 2 rfl) ?_
        refine xw_get hx hb hts hin1 hown hK hP (by decide) fo8 rfl 6 (by decide) hf32 rfl rfl dX1_spread_58 ?_
        refine xi_mul hx hb dX1_spread_61 ?_
        refine lv_iload hx hb dX1_spread_62 (lv_at hl 1 rfl) ?_
        refine xi_add hx hb dX1_spread_64 ?_
        refine lv_dup2_11 hx hb dX1_spread_65 rfl rfl ?_
        refine xw_lald hx hb hK hP (by omega) 1 fab rfl hix (by decide) dX1_spread_66 ?_
        rw [hfz (((k1 + hv (nx (s1 * 4 + i))) * S) + (nx ((s1 * 4) + i))) hix]
        refine lv_lload hx hb dX1_spread_67 (lv_at hl 7 rfl) ?_
        refine lv_aload_n hx hb dX1_spread_69 rfl (lv_at hl 3 rfl) ?_
        refine xw_get hx hb hts hin0 hown hK hP (by decide) fo_1 rfl 0 (by decide) hf71 rfl rfl dX1_spread_70 ?_
        refine lv_iload hx hb dX1_spread_73 (lv_at hl 8 rfl) ?_
        refine xw_iald hx hb hK hP (by decide) 0 fa_2 rfl (by omega) (by decide) dX1_spread_75 ?_
        rw [h2 (i) (by omega)]
        refine xi_i2l hx hb (Nat.lt_of_le_of_lt (hw _ (by omega)) (by decide)) dX1_spread_76 ?_
        refine xl_mul hx hb dX1_spread_77 ?_
        refine xl_add hx hb dX1_spread_78 ?_
        refine xw_last hx hb hK hP hD hS (by omega) 1 fab rfl hix (by decide) dX1_spread_79 (fun g5 H locs eg5 hP hS => ?_)
        have fg5_0 : g5 (8) = .inr (1, [.ref (ad (9)), .ref (ad (10)), .ref (ad (11)), .ref (ad (12)), .ref (ad (na)), .ref (ad (nb)), .int (nI (S))]) := (congrFun eg5 (8)).trans ((va_up_ne _ _ (by omega)).trans fo8)
        have fg5_1 : g5 (9) = .inl (cI, 164, .inl (f9)) := (congrFun eg5 (9)).trans ((va_up_ne _ _ (by omega)).trans fa9)
        have fg5_2 : g5 (12) = .inl (cZ, 41, .inl (f12)) := (congrFun eg5 (12)).trans ((va_up_ne _ _ (by omega)).trans fa12)
        have fg5_3 : g5 (1) = .inr (0, [.ref (ad (2)), .int (nI (q)), .int (nI (Wt))]) := (congrFun eg5 (1)).trans ((va_up_ne _ _ (by omega)).trans fo_1)
        have fg5_4 : g5 (2) = .inl (cI, 4, .inl (f2)) := (congrFun eg5 (2)).trans ((va_up_ne _ _ (by omega)).trans fa_2)
        have fg5_w : g5 (nb) = .inl (cJ, 186, .inr (.inl (vp_updL (fz) (((k1 + hv (nx (s1 * 4 + i))) * S) + (nx ((s1 * 4) + i))) (lZ ((spr w nx hv S s1 k1 M1 x1 th i (((k1 + hv (nx (s1 * 4 + i))) * S) + (nx ((s1 * 4) + i)))) + (x1 * (((w (i) : Nat) : Int)))))))) := (congrFun eg5 (nb)).trans (va_up_self _ _ _)
        have hfrg5 : ∀ j : Nat, j ≠ nb → g5 j = g j := fun j h0 => (congrFun eg5 j).trans ((va_up_ne _ _ h0).trans (hfrgl3_1 j h0))
        refine lv_iinc (v := nI (i + 1)) (lv' := [(7, .int (nI (i + 1))), (9, .int (nI (k1 + hv (nx (s1 * 4 + i))))), (8, .int (nI (nx ((s1 * 4) + i)))), (0, .ref (ad (8))), (1, .ref (ad (1))), (2, .int (nI (s1))), (3, .int (nI (k1))), (4, .int (nI (M1))), (5, .long (lZ (x1)))]) hx hb dX1_spread_80 hl (k := 8) rfl (nI_add (i) 1) (by decide) rfl (fun ls hl => ?_)
        refine lv_goto (tgt := 3) hx hb dX1_spread_83 (by decide) ?_
        exact ih3 (i + 1, vp_updL (fz) (((k1 + hv (nx (s1 * 4 + i))) * S) + (nx ((s1 * 4) + i))) (lZ ((spr w nx hv S s1 k1 M1 x1 th i (((k1 + hv (nx (s1 * 4 + i))) * S) + (nx ((s1 * 4) + i)))) + (x1 * (((w (i) : Nat) : Int)))))) g5 H locs ls ⟨(by omega), (by rw [hsp]; exact updL_lZ hfz), fg5_0, fg5_1, fg5_2, fg5_3, fg5_4, fg5_w, hfrg5, hP, hS, (lv_sub hl [3, 4, 5, 6, 7, 8, 0] rfl)⟩ (by first | omega | (dsimp only; omega))
    · have hpl : k1 + 1 = k1 + hv (nx (s1 * 4 + i)) := by have h8 := hht (nx (s1 * 4 + i)); omega
      refine lv_iload_n hx hb dX1_spread_35 rfl (lv_at hl 4 rfl) ?_
      refine lv_iconst (v := nI (1)) hx hb dX1_spread_36 (by decide) ?_
      refine xi_add hx hb dX1_spread_37 ?_
      refine lv_goto (tgt := 42) hx hb dX1_spread_38 (by decide) ?_
      refine xtopi (y := nI (k1 + hv (nx (s1 * 4 + i)))) (congrArg nI hpl) ?_
      refine lv_istore (lv' := [(9, .int (nI (k1 + hv (nx (s1 * 4 + i))))), (8, .int (nI (nx ((s1 * 4) + i)))), (0, .ref (ad (8))), (1, .ref (ad (1))), (2, .int (nI (s1))), (3, .int (nI (k1))), (4, .int (nI (M1))), (5, .long (lZ (x1))), (7, .int (nI (i)))]) hx hb dX1_spread_42 hl (by decide) rfl (fun ls hl => ?_)
      refine lv_iload hx hb dX1_spread_44 (lv_at hl 0 rfl) ?_
      refine lv_iload hx hb dX1_spread_46 (lv_at hl 6 rfl) ?_
      refine xi_icmp_gt (tgt := 80) hx hb (by have h8 := hht (nx (s1 * 4 + i)); omega) (by omega) dX1_spread_48 (by decide) (fun c48_6 => ?_) (fun c48_6 => ?_)
      · have hsp := spr_n (w := w) (nx := nx) (hv := hv) (S := S) (s := s1) (k := k1) (M := M1) (c := i) (x := x1) (th := th) (by omega)
        refine lv_iinc (v := nI (i + 1)) (lv' := [(7, .int (nI (i + 1))), (9, .int (nI (k1 + hv (nx (s1 * 4 + i))))), (8, .int (nI (nx ((s1 * 4) + i)))), (0, .ref (ad (8))), (1, .ref (ad (1))), (2, .int (nI (s1))), (3, .int (nI (k1))), (4, .int (nI (M1))), (5, .long (lZ (x1)))]) hx hb dX1_spread_80 hl (k := 8) rfl (nI_add (i) 1) (by decide) rfl (fun ls hl => ?_)
        refine lv_goto (tgt := 3) hx hb dX1_spread_83 (by decide) ?_
        exact ih3 (i + 1, fz) gl3_1 H locs ls ⟨(by omega), (by rw [hsp]; exact hfz), fo8, fa9, fa12, fo_1, fa_2, fab, hfrgl3_1, hP, hS, (lv_sub hl [3, 4, 5, 6, 7, 8, 0] rfl)⟩ (by first | omega | (dsimp only; omega))
      · have hsp := spr_y (w := w) (nx := nx) (hv := hv) (S := S) (s := s1) (k := k1) (M := M1) (c := i) (x := x1) (th := th) c48_6
        have hix := ix186 c48_6 (hnx (s1 * 4 + i)) hSM
        refine lv_aload_n hx hb dX1_spread_51 rfl (lv_at hl 2 rfl) ?_
        refine xw_get hx hb hts hin1 hown hK hP (by decide) fo8 rfl 5 (by decide) hf29 rfl rfl dX1_spread_52 ?_
        refine lv_iload hx hb dX1_spread_55 (lv_at hl 0 rfl) ?_
        refine lv_aload_n hx hb dX1_spread_57 rfl (lv_at hl 2 rfl) ?_
        refine xw_get hx hb hts hin1 hown hK hP (by decide) fo8 rfl 6 (by decide) hf32 rfl rfl dX1_spread_58 ?_
        refine xi_mul hx hb dX1_spread_61 ?_
        refine lv_iload hx hb dX1_spread_62 (lv_at hl 1 rfl) ?_
        refine xi_add hx hb dX1_spread_64 ?_
        refine lv_dup2_11 hx hb dX1_spread_65 rfl rfl ?_
        refine xw_lald hx hb hK hP (by omega) 1 fab rfl hix (by decide) dX1_spread_66 ?_
        rw [hfz (((k1 + hv (nx (s1 * 4 + i))) * S) + (nx ((s1 * 4) + i))) hix]
        refine lv_lload hx hb dX1_spread_67 (lv_at hl 7 rfl) ?_
        refine lv_aload_n hx hb dX1_spread_69 rfl (lv_at hl 3 rfl) ?_
        refine xw_get hx hb hts hin0 hown hK hP (by decide) fo_1 rfl 0 (by decide) hf71 rfl rfl dX1_spread_70 ?_
        refine lv_iload hx hb dX1_spread_73 (lv_at hl 8 rfl) ?_
        refine xw_iald hx hb hK hP (by decide) 0 fa_2 rfl (by omega) (by decide) dX1_spread_75 ?_
        rw [h2 (i) (by omega)]
        refine xi_i2l hx hb (Nat.lt_of_le_of_lt (hw _ (by omega)) (by decide)) dX1_spread_76 ?_
        refine xl_mul hx hb dX1_spread_77 ?_
        refine xl_add hx hb dX1_spread_78 ?_
        refine xw_last hx hb hK hP hD hS (by omega) 1 fab rfl hix (by decide) dX1_spread_79 (fun g7 H locs eg7 hP hS => ?_)
        have fg7_0 : g7 (8) = .inr (1, [.ref (ad (9)), .ref (ad (10)), .ref (ad (11)), .ref (ad (12)), .ref (ad (na)), .ref (ad (nb)), .int (nI (S))]) := (congrFun eg7 (8)).trans ((va_up_ne _ _ (by omega)).trans fo8)
        have fg7_1 : g7 (9) = .inl (cI, 164, .inl (f9)) := (congrFun eg7 (9)).trans ((va_up_ne _ _ (by omega)).trans fa9)
        have fg7_2 : g7 (12) = .inl (cZ, 41, .inl (f12)) := (congrFun eg7 (12)).trans ((va_up_ne _ _ (by omega)).trans fa12)
        have fg7_3 : g7 (1) = .inr (0, [.ref (ad (2)), .int (nI (q)), .int (nI (Wt))]) := (congrFun eg7 (1)).trans ((va_up_ne _ _ (by omega)).trans fo_1)
        have fg7_4 : g7 (2) = .inl (cI, 4, .inl (f2)) := (congrFun eg7 (2)).trans ((va_up_ne _ _ (by omega)).trans fa_2)
        have fg7_w : g7 (nb) = .inl (cJ, 186, .inr (.inl (vp_updL (fz) (((k1 + hv (nx (s1 * 4 + i))) * S) + (nx ((s1 * 4) + i))) (lZ ((spr w nx hv S s1 k1 M1 x1 th i (((k1 + hv (nx (s1 * 4 + i))) * S) + (nx ((s1 * 4) + i)))) + (x1 * (((w (i) : Nat) : Int)))))))) := (congrFun eg7 (nb)).trans (va_up_self _ _ _)
        have hfrg7 : ∀ j : Nat, j ≠ nb → g7 j = g j := fun j h0 => (congrFun eg7 j).trans ((va_up_ne _ _ h0).trans (hfrgl3_1 j h0))
        refine lv_iinc (v := nI (i + 1)) (lv' := [(7, .int (nI (i + 1))), (9, .int (nI (k1 + hv (nx (s1 * 4 + i))))), (8, .int (nI (nx ((s1 * 4) + i)))), (0, .ref (ad (8))), (1, .ref (ad (1))), (2, .int (nI (s1))), (3, .int (nI (k1))), (4, .int (nI (M1))), (5, .long (lZ (x1)))]) hx hb dX1_spread_80 hl (k := 8) rfl (nI_add (i) 1) (by decide) rfl (fun ls hl => ?_)
        refine lv_goto (tgt := 3) hx hb dX1_spread_83 (by decide) ?_
        exact ih3 (i + 1, vp_updL (fz) (((k1 + hv (nx (s1 * 4 + i))) * S) + (nx ((s1 * 4) + i))) (lZ ((spr w nx hv S s1 k1 M1 x1 th i (((k1 + hv (nx (s1 * 4 + i))) * S) + (nx ((s1 * 4) + i)))) + (x1 * (((w (i) : Nat) : Int)))))) g7 H locs ls ⟨(by omega), (by rw [hsp]; exact updL_lZ hfz), fg7_0, fg7_1, fg7_2, fg7_3, fg7_4, fg7_w, hfrg7, hP, hS, (lv_sub hl [3, 4, 5, 6, 7, 8, 0] rfl)⟩ (by first | omega | (dsimp only; omega))

set_option maxHeartbeats 4000000 in
set_option maxRecDepth 100000 in
/-- Machine.readLetter -/
theorem mX1_readLetter (l : Launch) {D : va_G} {cI cJ cZ cW : ClassId} {ad : Nat → Nat} {A : Nat → Prop} (hD : ∀ g, va_D A (xw 81 ad g)) {g : Nat → va_E} {q Wt S m0 M1 na nb : Nat} {w nx hv : Nat → Nat} {nw : Nat → Int} {f2 f9 f12 : Nat → Int32} {fa fb : Nat → Int64}  (fo8 : g (8) = .inr (1, [.ref (ad (9)), .ref (ad (10)), .ref (ad (11)), .ref (ad (12)), .ref (ad (na)), .ref (ad (nb)), .int (nI (S))])) (fa9 : g (9) = .inl (cI, 164, .inl (f9))) (fa12 : g (12) = .inl (cZ, 41, .inl (f12))) (fo_1 : g (1) = .inr (0, [.ref (ad (2)), .int (nI (q)), .int (nI (Wt))])) (fa_2 : g (2) = .inl (cI, 4, .inl (f2))) (faa : g (na) = .inl (cJ, 186, .inr (.inl (fa)))) (fab : g (nb) = .inl (cJ, 186, .inr (.inl (fb)))) (hq4 : q ≤ 4) (h2 : ∀ j, j < 4 → f2 j = nI (w j)) (hw : ∀ j, j < 4 → w j ≤ 4) (hab : (na = 13 ∧ nb = 14) ∨ (na = 14 ∧ nb = 13)) (hS41 : S ≤ 41) (hnx : ∀ e, nx e < S) (h9 : ∀ j, j < 164 → f9 j = nI (nx j)) (hht : ∀ s, hv s ≤ 1) (h12 : ∀ j, j < 41 → f12 j = nI (hv j)) (hM1 : M1 ≤ 30) (hm0 : m0 ≤ M1) (hSM : S * (M1 + 1) ≤ 186) (hnw : ∀ j, j < 186 → fa j = lZ (nw j)) : Met l yX1_readLetter wsX1_readLetter ({ frames := 1, cells := 0, slots := 0, locals := 29 }) (va_Pc [.ref (ad (8)), .ref (ad (1)), .int (nI (m0)), .int (nI (M1))] (xB D (xT cI cJ cZ cW) ad g)) (va_Qv (fun g2 => ∃ fz : Nat → Int64, (∀ j, j < 186 → fz j = lZ (rdK q w nx hv S M1 nw (m0 + 1) j)) ∧ g2 8 = .inr (1, [.ref (ad (9)), .ref (ad (10)), .ref (ad (11)), .ref (ad (12)), .ref (ad (nb)), .ref (ad (na)), .int (nI (S))]) ∧ g2 (nb) = .inl (cJ, 186, .inr (.inl (fz))) ∧ ∀ j : Nat, j ≠ 8 → j ≠ nb → g2 j = g j) (xB D (xT cI cJ cZ cW) ad) A) 0 0 A := by
  refine Met.ofW (cc := cX1_readLetter) (maxL := 8) (ret := none) (by decide) rfl ?_
  intro p e s m args below meth c s₁ B hml hv
  obtain ⟨rfl, hP, hK, hN⟩ := hv
  have hx := B.exec
  have hb := B.bytes
  have hr := B.returns
  have hts := atoms_spec (ws := wsX1_readLetter) B.pre
  have hown : s.vm.findClass RX1 = some m.cls := findClass_of_methodNamed B.named
  have hlocks := B.notSynchronized
  have hS : va_S A s.heap s.heap [] := va_S.rf
  have hin1 : ∀ w ∈ wsX10, w ∈ wsX1_readLetter := by decide +kernel
  have hf25 := hts (.fieldLink RX1 25 "LettersByLot$Machine" "now" "[J") (by decide +kernel)
  have hf29 := hts (.fieldLink RX1 29 "LettersByLot$Machine" "then" "[J") (by decide +kernel)
  have hf32 := hts (.fieldLink RX1 32 "LettersByLot$Machine" "states" "I") (by decide +kernel)
  have hl := lv_entry ([.ref (ad (8)), .ref (ad (1)), .int (nI (m0)), .int (nI (M1))]) (n := 8) (Nat.le_of_ble_eq_true rfl)
  rw [lg_entry_eq]
  generalize (lg_sl ([.ref (ad (8)), .ref (ad (1)), .int (nI (m0)), .int (nI (M1))]) ++ List.replicate (8 - (lg_sl ([.ref (ad (8)), .ref (ad (1)), .int (nI (m0)), .int (nI (M1))])).length) Slot.unset).toArray = ls at hl ⊢
  have hl : lv_has ls 8 [(0, .ref (ad (8))), (1, .ref (ad (1))), (2, .int (nI (m0))), (3, .int (nI (M1)))] := hl
  refine lv_aload_n hx hb dX1_readLetter_0 rfl (lv_at hl 0 rfl) ?_
  refine xw_get hx hb hts hin1 hown hK hP (by decide) fo8 rfl 5 (by decide) hf29 rfl rfl dX1_readLetter_1 ?_
  refine lv_lconst (v := lZ (0)) hx hb dX1_readLetter_4 (by decide) ?_
  refine va_callv (va_runS (As := [.ref (ad (nb)), .long (lZ (0))]) (rest := []) ⟨hx, hb, hml, hown, hts⟩ (mJ7_fillJ l hD (xv := lZ 0) fab (by omega) (by decide)) (va_cwS 2 hts gX1_readLetter_J7_fill_d0a16 rfl rfl rfl (by decide +kernel) ⟨Nat.le_of_ble_eq_true rfl, Nat.le_of_ble_eq_true rfl⟩) ⟨xB_blind, fun U hU hW => ⟨rfl, by rw [hU]; exact hP, va_K.moved hW.alike hK, va_Nw.warmM hW hN⟩⟩ rfl rfl hl.1 rfl (lv_room (Nat.le_of_ble_eq_true rfl)) dX1_readLetter_5 ⟨Nat.le_of_ble_eq_true rfl, Nat.le_of_ble_eq_true rfl⟩) hS (fun _ _ h => h) (fun _ h => h) (fun g1 tZ H locs ht hvm hwg1 hB hzZ hkZ hS => ?_)
  obtain ⟨hP, -⟩ := hB
  rw [ht] at hP
  obtain ⟨f0c, h0c, fg1_n0, hcg1⟩ := hwg1
  have fg1_k0 : g1 (8) = .inr (1, [.ref (ad (9)), .ref (ad (10)), .ref (ad (11)), .ref (ad (12)), .ref (ad (na)), .ref (ad (nb)), .int (nI (S))]) := (hcg1 (8) (by omega)).trans fo8
  have fg1_k1 : g1 (9) = .inl (cI, 164, .inl (f9)) := (hcg1 (9) (by omega)).trans fa9
  have fg1_k2 : g1 (12) = .inl (cZ, 41, .inl (f12)) := (hcg1 (12) (by omega)).trans fa12
  have fg1_k3 : g1 (1) = .inr (0, [.ref (ad (2)), .int (nI (q)), .int (nI (Wt))]) := (hcg1 (1) (by omega)).trans fo_1
  have fg1_k4 : g1 (2) = .inl (cI, 4, .inl (f2)) := (hcg1 (2) (by omega)).trans fa_2
  have fg1_k5 : g1 (na) = .inl (cJ, 186, .inr (.inl (fa))) := (hcg1 (na) (by omega)).trans faa
  have hfrg1 : ∀ j : Nat, j ≠ 8 → j ≠ nb → g1 j = g j := fun j h0 h1 => (hcg1 j h1).trans ((fun _ _ _ => rfl) j h0 h1)
  refine lv_iconst (v := nI (0)) hx hb dX1_readLetter_8 (by decide) ?_
  refine lv_istore (lv' := [(4, .int (nI (0))), (0, .ref (ad (8))), (1, .ref (ad (1))), (2, .int (nI (m0))), (3, .int (nI (M1)))]) hx hb dX1_readLetter_9 hl (by decide) rfl (fun ls hl => ?_)
  refine xloopW (G := fun H locs fr => W p l e _ s m _ below meth c H locs _ _ _ fr) (σ := Nat × (Nat → Int64)) (fun (k0, fk) ls => F0 m 11 ls []) (fun (k0, fk) gl11_3 H locs ls => (k0 ≤ m0 + 1) ∧ (∀ j, j < 186 → fk j = lZ (rdK q w nx hv S M1 nw k0 j)) ∧ gl11_3 (8) = .inr (1, [.ref (ad (9)), .ref (ad (10)), .ref (ad (11)), .ref (ad (12)), .ref (ad (na)), .ref (ad (nb)), .int (nI (S))]) ∧ gl11_3 (9) = .inl (cI, 164, .inl (f9)) ∧ gl11_3 (12) = .inl (cZ, 41, .inl (f12)) ∧ gl11_3 (1) = .inr (0, [.ref (ad (2)), .int (nI (q)), .int (nI (Wt))]) ∧ gl11_3 (2) = .inl (cI, 4, .inl (f2)) ∧ gl11_3 (na) = .inl (cJ, 186, .inr (.inl (fa))) ∧ gl11_3 (nb) = .inl (cJ, 186, .inr (.inl (fk))) ∧ (∀ j : Nat, j ≠ 8 → j ≠ nb → gl11_3 j = g j) ∧ va_P D vwCl (xw 81 ad gl11_3) H ∧ va_S A s.heap H locs ∧ lv_has ls 8 [(0, .ref (ad (8))), (1, .ref (ad (1))), (2, .int (nI (m0))), (3, .int (nI (M1))), (4, .int (nI (k0)))]) (fun (k0, fk) => m0 + 1 - k0) ?_ (0, f0c) g1 H locs ls ⟨(by omega), h0c, fg1_k0, fg1_k1, fg1_k2, fg1_k3, fg1_k4, fg1_k5, fg1_n0, hfrg1, hP, hS, (lv_sub hl [1, 2, 3, 4, 0] rfl)⟩
  rintro ⟨k0, fk⟩ gl11_3 H locs ls ⟨hk0, hfk, fo8, fa9, fa12, fo_1, fa_2, faa, fab, hfrgl11_3, hP, hS, hl⟩ ih11
  refine lv_iload hx hb dX1_readLetter_11 (lv_at hl 4 rfl) ?_
  refine lv_iload_n hx hb dX1_readLetter_13 rfl (lv_at hl 2 rfl) ?_
  refine xi_icmp_gt (tgt := 77) hx hb (by omega) (by omega) dX1_readLetter_14 (by decide) (fun c14_4 => ?_) (fun c14_4 => ?_)
  · refine lv_aload_n hx hb dX1_readLetter_77 rfl (lv_at hl 0 rfl) ?_
    refine xw_get hx hb hts hin1 hown hK hP (by decide) fo8 rfl 4 (by decide) hf25 rfl rfl dX1_readLetter_78 ?_
    refine lv_astore (lv' := [(4, .ref (ad (na))), (0, .ref (ad (8))), (1, .ref (ad (1))), (2, .int (nI (m0))), (3, .int (nI (M1)))]) hx hb dX1_readLetter_81 hl (by decide) rfl (fun ls hl => ?_)
    refine lv_aload_n hx hb dX1_readLetter_83 rfl (lv_at hl 1 rfl) ?_
    refine lv_aload_n hx hb dX1_readLetter_84 rfl (lv_at hl 1 rfl) ?_
    refine xw_get hx hb hts hin1 hown hK hP (by decide) fo8 rfl 5 (by decide) hf29 rfl rfl dX1_readLetter_85 ?_
    refine xw_put hx hb hts hin1 tyX1 tyX1_ok nmX1 hown hK hP hD hS (by decide) fo8 rfl 4 (by decide) hf25 rfl rfl (ty := .array .long) (by decide +kernel) rfl rfl (Nat.le_of_ble_eq_true rfl) (fs' := [.ref (ad (9)), .ref (ad (10)), .ref (ad (11)), .ref (ad (12)), .ref (ad (nb)), .ref (ad (nb)), .int (nI (S))]) rfl dX1_readLetter_88 (fun g5 H locs eg5 hP hS => ?_)
    have fg5_0 : g5 (9) = .inl (cI, 164, .inl (f9)) := (congrFun eg5 (9)).trans ((va_up_ne _ _ (by decide)).trans fa9)
    have fg5_1 : g5 (12) = .inl (cZ, 41, .inl (f12)) := (congrFun eg5 (12)).trans ((va_up_ne _ _ (by decide)).trans fa12)
    have fg5_2 : g5 (1) = .inr (0, [.ref (ad (2)), .int (nI (q)), .int (nI (Wt))]) := (congrFun eg5 (1)).trans ((va_up_ne _ _ (by decide)).trans fo_1)
    have fg5_3 : g5 (2) = .inl (cI, 4, .inl (f2)) := (congrFun eg5 (2)).trans ((va_up_ne _ _ (by decide)).trans fa_2)
    have fg5_4 : g5 (na) = .inl (cJ, 186, .inr (.inl (fa))) := (congrFun eg5 (na)).trans ((va_up_ne _ _ (by omega)).trans faa)
    have fg5_5 : g5 (nb) = .inl (cJ, 186, .inr (.inl (fk))) := (congrFun eg5 (nb)).trans ((va_up_ne _ _ (by omega)).trans fab)
    have fg5_w : g5 (8) = .inr (1, [.ref (ad (9)), .ref (ad (10)), .ref (ad (11)), .ref (ad (12)), .ref (ad (nb)), .ref (ad (nb)), .int (nI (S))]) := (congrFun eg5 (8)).trans (va_up_self _ _ _)
    have hfrg5 : ∀ j : Nat, j ≠ 8 → j ≠ nb → g5 j = g j := fun j h0 h1 => (congrFun eg5 j).trans ((va_up_ne _ _ h0).trans (hfrgl11_3 j h0 h1))
    refine lv_aload_n hx hb dX1_readLetter_91 rfl (lv_at hl 1 rfl) ?_
    refine lv_aload hx hb dX1_readLetter_92 (lv_at hl 0 rfl) ?_
    refine xw_put hx hb hts hin1 tyX1 tyX1_ok nmX1 hown hK hP hD hS (by decide) fg5_w rfl 5 (by decide) hf29 rfl rfl (ty := .array .long) (by decide +kernel) rfl rfl (Nat.le_of_ble_eq_true rfl) (fs' := [.ref (ad (9)), .ref (ad (10)), .ref (ad (11)), .ref (ad (12)), .ref (ad (nb)), .ref (ad (na)), .int (nI (S))]) rfl dX1_readLetter_94 (fun g6 H locs eg6 hP hS => ?_)
    have fg6_0 : g6 (9) = .inl (cI, 164, .inl (f9)) := (congrFun eg6 (9)).trans ((va_up_ne _ _ (by decide)).trans fg5_0)
    have fg6_1 : g6 (12) = .inl (cZ, 41, .inl (f12)) := (congrFun eg6 (12)).trans ((va_up_ne _ _ (by decide)).trans fg5_1)
    have fg6_2 : g6 (1) = .inr (0, [.ref (ad (2)), .int (nI (q)), .int (nI (Wt))]) := (congrFun eg6 (1)).trans ((va_up_ne _ _ (by decide)).trans fg5_2)
    have fg6_3 : g6 (2) = .inl (cI, 4, .inl (f2)) := (congrFun eg6 (2)).trans ((va_up_ne _ _ (by decide)).trans fg5_3)
    have fg6_4 : g6 (na) = .inl (cJ, 186, .inr (.inl (fa))) := (congrFun eg6 (na)).trans ((va_up_ne _ _ (by omega)).trans fg5_4)
    have fg6_5 : g6 (nb) = .inl (cJ, 186, .inr (.inl (fk))) := (congrFun eg6 (nb)).trans ((va_up_ne _ _ (by omega)).trans fg5_5)
    have fg6_w : g6 (8) = .inr (1, [.ref (ad (9)), .ref (ad (10)), .ref (ad (11)), .ref (ad (12)), .ref (ad (nb)), .ref (ad (na)), .int (nI (S))]) := (congrFun eg6 (8)).trans (va_up_self _ _ _)
    have hfrg6 : ∀ j : Nat, j ≠ 8 → j ≠ nb → g6 j = g j := fun j h0 h1 => (congrFun eg6 j).trans ((va_up_ne _ _ h0).trans (hfrg5 j h0 h1))
    exact W.vret hx hb hr (fun tZ ht hW => ⟨⟨g6, rfl, (by have hke : k0 = m0 + 1 := (by omega); subst hke; exact ⟨fk, hfk, fg6_w, fg6_5, hfrg6⟩), by rw [ht]; exact hP, va_K.moved hW.alike hK, va_Nw.warmM hW hN⟩, hS.F ht⟩) hS.2.2 dX1_readLetter_97
  · refine lv_iconst (v := nI (0)) hx hb dX1_readLetter_17 (by decide) ?_
    refine lv_istore (lv' := [(5, .int (nI (0))), (0, .ref (ad (8))), (1, .ref (ad (1))), (2, .int (nI (m0))), (3, .int (nI (M1))), (4, .int (nI (k0)))]) hx hb dX1_readLetter_18 hl (by decide) rfl (fun ls hl => ?_)
    refine xloopW (G := fun H locs fr => W p l e _ s m _ below meth c H locs _ _ _ fr) (σ := Nat × (Nat → Int64)) (fun (s1, fs) ls => F0 m 20 ls []) (fun (s1, fs) gl20_7 H locs ls => (s1 ≤ S) ∧ (∀ j, j < 186 → fs j = lZ (rdS q w nx hv S k0 M1 nw (rdK q w nx hv S M1 nw k0) s1 j)) ∧ gl20_7 (8) = .inr (1, [.ref (ad (9)), .ref (ad (10)), .ref (ad (11)), .ref (ad (12)), .ref (ad (na)), .ref (ad (nb)), .int (nI (S))]) ∧ gl20_7 (9) = .inl (cI, 164, .inl (f9)) ∧ gl20_7 (12) = .inl (cZ, 41, .inl (f12)) ∧ gl20_7 (1) = .inr (0, [.ref (ad (2)), .int (nI (q)), .int (nI (Wt))]) ∧ gl20_7 (2) = .inl (cI, 4, .inl (f2)) ∧ gl20_7 (na) = .inl (cJ, 186, .inr (.inl (fa))) ∧ gl20_7 (nb) = .inl (cJ, 186, .inr (.inl (fs))) ∧ (∀ j : Nat, j ≠ 8 → j ≠ nb → gl20_7 j = g j) ∧ va_P D vwCl (xw 81 ad gl20_7) H ∧ va_S A s.heap H locs ∧ lv_has ls 8 [(0, .ref (ad (8))), (1, .ref (ad (1))), (2, .int (nI (m0))), (3, .int (nI (M1))), (4, .int (nI (k0))), (5, .int (nI (s1)))]) (fun (s1, fs) => S - s1) ?_ (0, fk) gl11_3 H locs ls ⟨(by omega), hfk, fo8, fa9, fa12, fo_1, fa_2, faa, fab, hfrgl11_3, hP, hS, (lv_sub hl [1, 2, 3, 4, 5, 0] rfl)⟩
    rintro ⟨s1, fs⟩ gl20_7 H locs ls ⟨hs1, hfs, fo8, fa9, fa12, fo_1, fa_2, faa, fab, hfrgl20_7, hP, hS, hl⟩ ih20
    refine lv_iload hx hb dX1_readLetter_20 (lv_at hl 5 rfl) ?_
    refine lv_aload_n hx hb dX1_readLetter_22 rfl (lv_at hl 0 rfl) ?_
    refine xw_get hx hb hts hin1 hown hK hP (by decide) fo8 rfl 6 (by decide) hf32 rfl rfl dX1_readLetter_23 ?_
    refine xi_icmp_ge (tgt := 71) hx hb (by omega) (by omega) dX1_readLetter_26 (by decide) (fun c26_8 => ?_) (fun c26_8 => ?_)
    · refine lv_iinc (v := nI (k0 + 1)) (lv' := [(4, .int (nI (k0 + 1))), (0, .ref (ad (8))), (1, .ref (ad (1))), (2, .int (nI (m0))), (3, .int (nI (M1))), (5, .int (nI (s1)))]) hx hb dX1_readLetter_71 hl (k := 4) rfl (nI_add (k0) 1) (by decide) rfl (fun ls hl => ?_)
      refine lv_goto (tgt := 11) hx hb dX1_readLetter_74 (by decide) ?_
      exact ih11 (k0 + 1, fs) gl20_7 H locs ls ⟨(by omega), (show ∀ j, j < 186 → fs j = lZ (rdS q w nx hv S k0 M1 nw (rdK q w nx hv S M1 nw k0) S j) from (show s1 = S by omega) ▸ hfs), fo8, fa9, fa12, fo_1, fa_2, faa, fab, hfrgl20_7, hP, hS, (lv_sub hl [1, 2, 3, 4, 0] rfl)⟩ (by first | omega | (dsimp only; omega))
    · refine lv_aload_n hx hb dX1_readLetter_29 rfl (lv_at hl 0 rfl) ?_
      refine xw_get hx hb hts hin1 hown hK hP (by decide) fo8 rfl 4 (by decide) hf25 rfl rfl dX1_readLetter_30 ?_
      refine lv_iload hx hb dX1_readLetter_33 (lv_at hl 4 rfl) ?_
      refine lv_aload_n hx hb dX1_readLetter_35 rfl (lv_at hl 0 rfl) ?_
      refine xw_get hx hb hts hin1 hown hK hP (by decide) fo8 rfl 6 (by decide) hf32 rfl rfl dX1_readLetter_36 ?_
      refine xi_mul hx hb dX1_readLetter_39 ?_
      refine lv_iload hx hb dX1_readLetter_40 (lv_at hl 5 rfl) ?_
      refine xi_add hx hb dX1_readLetter_42 ?_
      have hix := ix186 (show k0 ≤ M1 by omega) (show s1 < S by omega) hSM
      refine xw_lald hx hb hK hP (by omega) 1 faa rfl hix (by decide) dX1_readLetter_43 ?_
      rw [hnw ((k0 * S) + s1) hix]
      refine lv_lstore (lv' := [(6, .long (lZ (nw ((k0 * S) + s1)))), (0, .ref (ad (8))), (1, .ref (ad (1))), (2, .int (nI (m0))), (3, .int (nI (M1))), (4, .int (nI (k0))), (5, .int (nI (s1)))]) hx hb dX1_readLetter_44 hl (by decide) rfl (fun ls hl => ?_)
      refine lv_lload hx hb dX1_readLetter_46 (lv_at hl 0 rfl) ?_
      refine lv_lconst (v := lZ (0)) hx hb dX1_readLetter_48 (by decide) ?_
      refine xr_cmp_eq (tgt := 65) hx hb dX1_readLetter_49 dX1_readLetter_50 (by decide) (fun hz => ?_) (fun hz => ?_)
      · refine lv_iinc (v := nI (s1 + 1)) (lv' := [(5, .int (nI (s1 + 1))), (6, .long (lZ (nw ((k0 * S) + s1)))), (0, .ref (ad (8))), (1, .ref (ad (1))), (2, .int (nI (m0))), (3, .int (nI (M1))), (4, .int (nI (k0)))]) hx hb dX1_readLetter_65 hl (k := 6) rfl (nI_add (s1) 1) (by decide) rfl (fun ls hl => ?_)
        refine lv_goto (tgt := 20) hx hb dX1_readLetter_68 (by decide) ?_
        exact ih20 (s1 + 1, fs) gl20_7 H locs ls ⟨(by omega), (fun j hj => (hfs j hj).trans (spr_0 hz q j).symm), fo8, fa9, fa12, fo_1, fa_2, faa, fab, hfrgl20_7, hP, hS, (lv_sub hl [2, 3, 4, 5, 6, 0] rfl)⟩ (by first | omega | (dsimp only; omega))
      · refine lv_aload_n hx hb dX1_readLetter_53 rfl (lv_at hl 1 rfl) ?_
        refine lv_aload_n hx hb dX1_readLetter_54 rfl (lv_at hl 2 rfl) ?_
        refine lv_iload hx hb dX1_readLetter_55 (lv_at hl 6 rfl) ?_
        refine lv_iload hx hb dX1_readLetter_57 (lv_at hl 5 rfl) ?_
        refine lv_iload_n hx hb dX1_readLetter_59 rfl (lv_at hl 4 rfl) ?_
        refine lv_lload hx hb dX1_readLetter_60 (lv_at hl 0 rfl) ?_
        refine va_callv (va_runV (As := [.ref (ad (1)), .int (nI (s1)), .int (nI (k0)), .int (nI (M1)), .long (lZ (nw ((k0 * S) + s1)))]) (rest := []) ⟨hx, hb, hml, hown, hts⟩ (mX1_spread l hD (th := rdS q w nx hv S k0 M1 nw (rdK q w nx hv S M1 nw k0) s1) (x1 := nw ((k0 * S) + s1)) fo8 fa9 fa12 fo_1 fa_2 fab hq4 h2 hw hab hS41 (by omega) hnx h9 hht h12 hM1 (by omega) hSM hfs) (cwV 5 hts gX1_readLetter_X1_spread rfl rfl rfl (by decide +kernel) ⟨Nat.le_of_ble_eq_true rfl, Nat.le_of_ble_eq_true rfl⟩) ⟨xB_blind, va_recv hK hP (ci := 1) rfl (xw_is (by decide) fo8), fun U hU hW => ⟨rfl, by rw [hU]; exact hP, va_K.moved hW.alike hK, va_Nw.warmM hW hN⟩⟩ rfl rfl hl.1 rfl (lv_room (Nat.le_of_ble_eq_true rfl)) dX1_readLetter_62 ⟨Nat.le_of_ble_eq_true rfl, Nat.le_of_ble_eq_true rfl⟩) hS (fun _ _ h => h) (fun _ h => h) (fun g9 tZ H locs ht hvm hwg9 hB hzZ hkZ hS => ?_)
        obtain ⟨hP, -⟩ := hB
        rw [ht] at hP
        obtain ⟨fz, hfz, fg9_n0, hcg9⟩ := hwg9
        have fg9_k0 : g9 (8) = .inr (1, [.ref (ad (9)), .ref (ad (10)), .ref (ad (11)), .ref (ad (12)), .ref (ad (na)), .ref (ad (nb)), .int (nI (S))]) := (hcg9 (8) (by omega)).trans fo8
        have fg9_k1 : g9 (9) = .inl (cI, 164, .inl (f9)) := (hcg9 (9) (by omega)).trans fa9
        have fg9_k2 : g9 (12) = .inl (cZ, 41, .inl (f12)) := (hcg9 (12) (by omega)).trans fa12
        have fg9_k3 : g9 (1) = .inr (0, [.ref (ad (2)), .int (nI (q)), .int (nI (Wt))]) := (hcg9 (1) (by omega)).trans fo_1
        have fg9_k4 : g9 (2) = .inl (cI, 4, .inl (f2)) := (hcg9 (2) (by omega)).trans fa_2
        have fg9_k5 : g9 (na) = .inl (cJ, 186, .inr (.inl (fa))) := (hcg9 (na) (by omega)).trans faa
        have hfrg9 : ∀ j : Nat, j ≠ 8 → j ≠ nb → g9 j = g j := fun j h0 h1 => (hcg9 j h1).trans (hfrgl20_7 j h0 h1)
        refine lv_iinc (v := nI (s1 + 1)) (lv' := [(5, .int (nI (s1 + 1))), (6, .long (lZ (nw ((k0 * S) + s1)))), (0, .ref (ad (8))), (1, .ref (ad (1))), (2, .int (nI (m0))), (3, .int (nI (M1))), (4, .int (nI (k0)))]) hx hb dX1_readLetter_65 hl (k := 6) rfl (nI_add (s1) 1) (by decide) rfl (fun ls hl => ?_)
        refine lv_goto (tgt := 20) hx hb dX1_readLetter_68 (by decide) ?_
        exact ih20 (s1 + 1, fz) g9 H locs ls ⟨(by omega), hfz, fg9_k0, fg9_k1, fg9_k2, fg9_k3, fg9_k4, fg9_k5, fg9_n0, hfrg9, hP, hS, (lv_sub hl [2, 3, 4, 5, 6, 0] rfl)⟩ (by first | omega | (dsimp only; omega))
