theorem fitR_neg {x : Rat} (h : fitR x) : fitR (-x) := by
  obtain ⟨h1, h2, h3⟩ := h
  refine ⟨?_, ?_, h3⟩
  · rw [Rat.neg_num]; omega
  · rw [Rat.neg_num]; omega
theorem toE (a b c : Rat) : a + -b * c = a - b * c := by rw [Rat.neg_mul, ← Rat.sub_eq_add_neg]
/-- row i, from column k on to j, less m i k times row k -/
def mtO (m : Nat → Nat → Rat) (i k j : Nat) : Nat → Nat → Rat := fun r x => if r = i ∧ k ≤ x ∧ x < j then m i x - m i k * m k x else m r x
theorem mtO_z {m : Nat → Nat → Rat} {i k j : Nat} (h : m i k = 0) : mtO m i k j = m := by
  funext r x
  unfold mtO
  by_cases e : r = i ∧ k ≤ x ∧ x < j
  · rw [if_pos e, h, Rat.zero_mul, e.1]; grind
  · rw [if_neg e]
theorem mtO_y {m : Nat → Nat → Rat} {i k j x : Nat} (h1 : k ≤ x) (h2 : x < j) : mtO m i k j i x = m i x - m i k * m k x := if_pos ⟨rfl, h1, h2⟩
theorem mtO_n {m : Nat → Nat → Rat} {i k j r x : Nat} (h : r ≠ i ∨ x < k) : mtO m i k j r x = m r x := if_neg (fun h2 => h.elim (fun h => h h2.1) (fun h => by omega))
def mA (fa fb : Nat → Int64) (ns : Nat) (m : Nat → Nat → Rat) : Prop := ∀ i j, i < ns → j < ns → fa (13 * i + j) = lZ (m i j).num ∧ fb (13 * i + j) = lZ ((m i j).den : Int)
def mB (fc fd : Nat → Int64) (ns : Nat) (m : Nat → Nat → Rat) : Prop := ∀ i, i < ns → fc i = lZ (m i ns).num ∧ fd i = lZ ((m i ns).den : Int)
theorem mA.to {fa fb : Nat → Int64} {ns : Nat} {m m' : Nat → Nat → Rat} (h : mA fa fb ns m) (e : ∀ i j, i < ns → j < ns → m i j = m' i j) : mA fa fb ns m' := fun i j hi hj => by rw [← e i j hi hj]; exact h i j hi hj
theorem mB.to {fa fb : Nat → Int64} {ns : Nat} {m m' : Nat → Nat → Rat} (h : mB fa fb ns m) (e : ∀ i, i < ns → m i ns = m' i ns) : mB fa fb ns m' := fun i hi => by rw [← e i hi]; exact h i hi
/-- the pivot's row divided -/
def mtS (a : Nat → Nat → Rat) (k : Nat) : Nat → Nat → Rat := fun r x => if r = k ∧ k ≤ x then a k x / a k k else a r x
/-- .. and taken off the rows below i -/
def mtT (a : Nat → Nat → Rat) (k i : Nat) : Nat → Nat → Rat := fun r x => if k ≤ x ∧ r ≠ k ∧ r < i then a r x - a r k * (a k x / a k k) else mtS a k r x
theorem mtS_k {a : Nat → Nat → Rat} {k x : Nat} (h : k ≤ x) : mtS a k k x = a k x / a k k := if_pos ⟨rfl, h⟩
theorem mtS_n {a : Nat → Nat → Rat} {k r x : Nat} (h : r ≠ k ∨ x < k) : mtS a k r x = a r x := if_neg (fun h2 => h.elim (fun h => h h2.1) (fun h => by omega))
theorem mtT_0 {a : Nat → Nat → Rat} {k : Nat} : mtT a k 0 = mtS a k := by
  funext r x
  exact if_neg (fun h => by omega)
theorem mtT_k {a : Nat → Nat → Rat} {k i x : Nat} (h : k ≤ x) : mtT a k i k x = a k x / a k k := by
  unfold mtT
  rw [if_neg (fun h2 => h2.2.1 rfl), mtS_k h]
theorem mtT_i {a : Nat → Nat → Rat} {k i x : Nat} (h : i ≠ k) : mtT a k i i x = a i x := by
  unfold mtT
  rw [if_neg (fun h2 => by omega), mtS_n (Or.inl h)]
theorem mtT_s {a : Nat → Nat → Rat} {k i n r x : Nat} (hi : i ≠ k) (hx : x < n) : mtO (mtT a k i) i k n r x = mtT a k (i + 1) r x := by
  by_cases e : r = i
  · subst e
    by_cases h : k ≤ x
    · rw [mtO_y h hx, mtT_i hi, mtT_i hi, mtT_k h]
      unfold mtT
      rw [if_pos ⟨h, hi, by omega⟩]
    · rw [mtO_n (Or.inr (by omega)), mtT_i hi]
      unfold mtT
      rw [if_neg (fun h2 => h h2.1), mtS_n (Or.inl hi)]
  · rw [mtO_n (Or.inl e)]
    unfold mtT
    by_cases h : k ≤ x ∧ r ≠ k ∧ r < i
    · rw [if_pos h, if_pos ⟨h.1, h.2.1, by omega⟩]
    · rw [if_neg h, if_neg (fun h2 => h ⟨h2.1, h2.2.1, by omega⟩)]
theorem mtT_kk {a : Nat → Nat → Rat} {k x r : Nat} : mtT a k k r x = mtT a k (k + 1) r x := by
  unfold mtT
  by_cases h : k ≤ x ∧ r ≠ k ∧ r < k
  · rw [if_pos h, if_pos ⟨h.1, h.2.1, by omega⟩]
  · rw [if_neg h, if_neg (fun h2 => h ⟨h2.1, h2.2.1, by omega⟩)]
theorem mtT_e {a : Nat → Nat → Rat} {k n r x : Nat} (hr : r < n) : mtT a k n r x = gstep a k r x := by
  unfold mtT gstep
  by_cases h : x < k
  · rw [if_pos h, if_neg (fun h2 => by omega), mtS_n (Or.inr h)]
  · rw [if_neg h]
    by_cases e : r = k
    · subst e
      rw [if_pos rfl, if_neg (fun h2 => h2.2.1 rfl), mtS_k (by omega)]
    · rw [if_neg e, if_pos ⟨by omega, e, hr⟩]
/-- every number on the way fits into a long -/
def gjFit (A : Nat → Nat → Rat) (ns : Nat) : Prop := (∀ k, k < ns → 0 < gj A k k k ∧ (∀ i j, i < ns → k ≤ j → j ≤ ns → fitR (gj A k i j)) ∧ (∀ j, k ≤ j → j ≤ ns → fitR (gj A k k j / gj A k k k)) ∧ (∀ i j, i < ns → i ≠ k → k ≤ j → j ≤ ns → fitR (-(gj A k i k) * (gj A k k j / gj A k k k)) ∧ fitA (gj A k i j) (-(gj A k i k) * (gj A k k j / gj A k k k)))) ∧ ∀ i, i < ns → fitR (gj A ns i ns)
set_option maxHeartbeats 4000000 in
set_option maxRecDepth 100000 in
/-- begins -/
theorem mX6_begins (l : Launch) {D : va_G} {cI cJ cZ cW : ClassId} {ad : Nat → Nat} {A : Nat → Prop} (hD : ∀ g, va_D A (xw 81 ad g)) {g : Nat → va_E} {q Wt T : Nat} {w ln t : Nat → Nat} {u : Nat → Nat → Nat} {tp bt : Int64} {ns : Nat} {gof : Nat → Nat} {nu de : Int64} {fw : Nat → Int32} {fgo : Nat → Int32} {fan : Nat → Int64} {fad : Nat → Int64}  (fo62 : g (62) = .inr (6, [.int (nI (q)), .int (nI (Wt)), .ref (ad (63)), .ref (ad (64)), .ref (ad (65)), .ref (ad (66)), .int (nI (T)), .long (tp), .long (bt), .long (nu), .long (de), .int (nI (ns)), .ref (ad (67)), .ref (ad (68)), .ref (ad (69)), .ref (ad (70)), .ref (ad (71)), .ref (ad (72)), .ref (ad (73)), .ref (ad (74)), .ref (ad (75)), .ref (ad (76)), .ref (ad (77)), .ref (ad (78)), .ref (ad (79)), .ref (ad (80))])) (fa63 : g (63) = .inl (cI, 4, .inl (fw))) (fa69 : g (69) = .inl (cI, 52, .inl (fgo))) (fa71 : g (71) = .inl (cJ, 169, .inr (.inl (fan)))) (fa72 : g (72) = .inl (cJ, 169, .inr (.inl (fad))))  (hfw : ∀ j, j < 4 → fw j = nI (w j))   (hgo : ∀ a x, a < ns → x < q → fgo (4 * a + x) = nI (gof (4 * a + x))) (hgb : ∀ a x, a < ns → x < q → gof (4 * a + x) < ns ∨ (100 ≤ gof (4 * a + x) ∧ gof (4 * a + x) < 108)) (hq4 : q ≤ 4) (hns : ns ≤ 13) (hWt : Wt ≤ 4) (hw : ∀ j, j < 4 → w j ≤ 4) : Met l yX6_begins wsX6_begins ({ frames := 0, cells := 0, slots := 0, locals := 0 }) (va_Pc [.ref (ad (62))] (xB D (xT cI cJ cZ cW) ad g)) (va_Qv (fun g2 => ∃ fA fB : Nat → Int64, (∀ x y, x < ns → y < ns → fA (13 * x + y) = lZ (mtZ Wt w gof (x) (y) (q)) ∧ fB (13 * x + y) = lZ 1) ∧ g2 71 = .inl (cJ, 169, .inr (.inl (fA))) ∧ g2 72 = .inl (cJ, 169, .inr (.inl (fB))) ∧ ∀ j : Nat, j ≠ 71 → j ≠ 72 → g2 j = g j) (xB D (xT cI cJ cZ cW) ad) A) 0 0 A := by
  refine Met.ofW (cc := cX6_begins) (maxL := 3) (ret := none) (by decide) rfl ?_
  intro p e s m args below meth c s₁ B hml hv
  obtain ⟨rfl, hP, hK, hN⟩ := hv
  have hx := B.exec
  have hb := B.bytes
  have hr := B.returns
  have hts := atoms_spec (ws := wsX6_begins) B.pre
  have hown : s.vm.findClass RX6 = some m.cls := findClass_of_methodNamed B.named
  have hlocks := B.notSynchronized
  have hS : va_S A s.heap s.heap [] := va_S.rf
  have hin6 : ∀ w ∈ wsX60, w ∈ wsX6_begins := by decide +kernel
  have hf7 := hts (.fieldLink RX6 7 "LettersByLotModel" "q" "I") (by decide +kernel)
  have hf13 := hts (.fieldLink RX6 13 "LettersByLotModel" "all" "I") (by decide +kernel)
  have hf16 := hts (.fieldLink RX6 16 "LettersByLotModel" "weight" "[I") (by decide +kernel)
  have hf39 := hts (.fieldLink RX6 39 "LettersByLotModel" "goes" "[I") (by decide +kernel)
  have hf45 := hts (.fieldLink RX6 45 "LettersByLotModel" "an" "[J") (by decide +kernel)
  have hf49 := hts (.fieldLink RX6 49 "LettersByLotModel" "ad" "[J") (by decide +kernel)
  have hf130 := hts (.fieldLink RX6 130 "LettersByLotModel" "states" "I") (by decide +kernel)
  have hl := lv_entry ([.ref (ad (62))]) (n := 3) (Nat.le_of_ble_eq_true rfl)
  rw [lg_entry_eq]
  generalize (lg_sl ([.ref (ad (62))]) ++ List.replicate (3 - (lg_sl ([.ref (ad (62))])).length) Slot.unset).toArray = ls at hl ⊢
  have hl : lv_has ls 3 [(0, .ref (ad (62)))] := hl
  refine lv_iconst (v := nI (0)) hx hb dX6_begins_0 (by decide) ?_
  refine lv_istore_n (lv' := [(1, .int (nI (0))), (0, .ref (ad (62)))]) hx hb dX6_begins_1 rfl hl (by decide) rfl (fun ls hl => ?_)
  refine xloopW (G := fun H locs fr => W p l e _ s m _ below meth c H locs _ _ _ fr) (σ := Nat × (Nat → Int64) × (Nat → Int64)) (fun (i, fA, fB) ls => F0 m 2 ls []) (fun (i, fA, fB) gl2_1 H locs ls => (i ≤ ns) ∧ (∀ x y, x < i → y < ns → fA (13 * x + y) = lZ (mtZ Wt w gof (x) (y) (q)) ∧ fB (13 * x + y) = lZ 1) ∧ gl2_1 (62) = .inr (6, [.int (nI (q)), .int (nI (Wt)), .ref (ad (63)), .ref (ad (64)), .ref (ad (65)), .ref (ad (66)), .int (nI (T)), .long (tp), .long (bt), .long (nu), .long (de), .int (nI (ns)), .ref (ad (67)), .ref (ad (68)), .ref (ad (69)), .ref (ad (70)), .ref (ad (71)), .ref (ad (72)), .ref (ad (73)), .ref (ad (74)), .ref (ad (75)), .ref (ad (76)), .ref (ad (77)), .ref (ad (78)), .ref (ad (79)), .ref (ad (80))]) ∧ gl2_1 (63) = .inl (cI, 4, .inl (fw)) ∧ gl2_1 (69) = .inl (cI, 52, .inl (fgo)) ∧ gl2_1 (71) = .inl (cJ, 169, .inr (.inl (fA))) ∧ gl2_1 (72) = .inl (cJ, 169, .inr (.inl (fB))) ∧ (∀ j : Nat, j ≠ 71 → j ≠ 72 → gl2_1 j = g j) ∧ va_P D vwCl (xw 81 ad gl2_1) H ∧ va_S A s.heap H locs ∧ lv_has ls 3 [(0, .ref (ad (62))), (1, .int (nI (i)))]) (fun (i, fA, fB) => ns - i) ?_ (0, fan, fad) g s.heap [] ls ⟨(Nat.zero_le _), (fun x y h => absurd h (by omega)), fo62, fa63, fa69, fa71, fa72, (fun _ _ _ => rfl), hP, hS, (lv_sub hl [1, 0] rfl)⟩
  rintro ⟨i, fA, fB⟩ gl2_1 H locs ls ⟨hi, hM, fo62, fa63, fa69, fa71, fa72, hfrgl2_1, hP, hS, hl⟩ ih2
  refine lv_iload_n hx hb dX6_begins_2 rfl (lv_at hl 1 rfl) ?_
  refine lv_aload_n hx hb dX6_begins_3 rfl (lv_at hl 0 rfl) ?_
  refine xw_get hx hb hts hin6 hown hK hP (by decide) fo62 rfl 11 (by decide) hf130 rfl rfl dX6_begins_4 ?_
  refine xi_icmp_ge (tgt := 130) hx hb (by omega) (by omega) dX6_begins_7 (by decide) (fun c7_2 => ?_) (fun c7_2 => ?_)
  · exact W.vret hx hb hr (fun tZ ht hW => ⟨⟨gl2_1, rfl, ⟨fA, fB, fun x y h1 h2 => hM x y (by omega) h2, fa71, fa72, hfrgl2_1⟩, by rw [ht]; exact hP, va_K.moved hW.alike hK, va_Nw.warmM hW hN⟩, hS.F ht⟩) hS.2.2 dX6_begins_130
  · refine lv_iconst (v := nI (0)) hx hb dX6_begins_10 (by decide) ?_
    refine lv_istore_n (lv' := [(2, .int (nI (0))), (0, .ref (ad (62))), (1, .int (nI (i)))]) hx hb dX6_begins_11 rfl hl (by decide) rfl (fun ls hl => ?_)
    refine xloopW (G := fun H locs fr => W p l e _ s m _ below meth c H locs _ _ _ fr) (σ := Nat × (Nat → Int64) × (Nat → Int64)) (fun (k, fA, fB) ls => F0 m 12 ls []) (fun (k, fA, fB) gl12_3 H locs ls => (k ≤ ns) ∧ (∀ x y, x < i → y < ns → fA (13 * x + y) = lZ (mtZ Wt w gof (x) (y) (q)) ∧ fB (13 * x + y) = lZ 1) ∧ (∀ y, y < k → fA (13 * i + y) = lZ (mtZ Wt w gof (i) (y) (0)) ∧ fB (13 * i + y) = lZ 1) ∧ gl12_3 (62) = .inr (6, [.int (nI (q)), .int (nI (Wt)), .ref (ad (63)), .ref (ad (64)), .ref (ad (65)), .ref (ad (66)), .int (nI (T)), .long (tp), .long (bt), .long (nu), .long (de), .int (nI (ns)), .ref (ad (67)), .ref (ad (68)), .ref (ad (69)), .ref (ad (70)), .ref (ad (71)), .ref (ad (72)), .ref (ad (73)), .ref (ad (74)), .ref (ad (75)), .ref (ad (76)), .ref (ad (77)), .ref (ad (78)), .ref (ad (79)), .ref (ad (80))]) ∧ gl12_3 (63) = .inl (cI, 4, .inl (fw)) ∧ gl12_3 (69) = .inl (cI, 52, .inl (fgo)) ∧ gl12_3 (71) = .inl (cJ, 169, .inr (.inl (fA))) ∧ gl12_3 (72) = .inl (cJ, 169, .inr (.inl (fB))) ∧ (∀ j : Nat, j ≠ 71 → j ≠ 72 → gl12_3 j = g j) ∧ va_P D vwCl (xw 81 ad gl12_3) H ∧ va_S A s.heap H locs ∧ lv_has ls 3 [(0, .ref (ad (62))), (1, .int (nI (i))), (2, .int (nI (k)))]) (fun (k, fA, fB) => ns - k) ?_ (0, fA, fB) gl2_1 H locs ls ⟨(Nat.zero_le _), hM, (fun y h => absurd h (by omega)), fo62, fa63, fa69, fa71, fa72, hfrgl2_1, hP, hS, (lv_sub hl [1, 2, 0] rfl)⟩
    rintro ⟨k, fA, fB⟩ gl12_3 H locs ls ⟨hk, hM, hR, fo62, fa63, fa69, fa71, fa72, hfrgl12_3, hP, hS, hl⟩ ih12
    refine lv_iload_n hx hb dX6_begins_12 rfl (lv_at hl 2 rfl) ?_
    refine lv_aload_n hx hb dX6_begins_13 rfl (lv_at hl 0 rfl) ?_
    refine xw_get hx hb hts hin6 hown hK hP (by decide) fo62 rfl 11 (by decide) hf130 rfl rfl dX6_begins_14 ?_
    refine xi_icmp_ge (tgt := 63) hx hb (by omega) (by omega) dX6_begins_17 (by decide) (fun c17_4 => ?_) (fun c17_4 => ?_)
    · refine lv_iconst (v := nI (0)) hx hb dX6_begins_63 (by decide) ?_
      refine lv_istore_n (lv' := [(2, .int (nI (0))), (0, .ref (ad (62))), (1, .int (nI (i)))]) hx hb dX6_begins_64 rfl hl (by decide) rfl (fun ls hl => ?_)
      refine xloopW (G := fun H locs fr => W p l e _ s m _ below meth c H locs _ _ _ fr) (σ := Nat × (Nat → Int64) × (Nat → Int64)) (fun (c0, fA, fB) ls => F0 m 65 ls []) (fun (c0, fA, fB) gl65_5 H locs ls => (c0 ≤ q) ∧ (∀ x y, x < i → y < ns → fA (13 * x + y) = lZ (mtZ Wt w gof (x) (y) (q)) ∧ fB (13 * x + y) = lZ 1) ∧ (∀ y, y < ns → fA (13 * i + y) = lZ (mtZ Wt w gof (i) (y) (c0)) ∧ fB (13 * i + y) = lZ 1) ∧ gl65_5 (62) = .inr (6, [.int (nI (q)), .int (nI (Wt)), .ref (ad (63)), .ref (ad (64)), .ref (ad (65)), .ref (ad (66)), .int (nI (T)), .long (tp), .long (bt), .long (nu), .long (de), .int (nI (ns)), .ref (ad (67)), .ref (ad (68)), .ref (ad (69)), .ref (ad (70)), .ref (ad (71)), .ref (ad (72)), .ref (ad (73)), .ref (ad (74)), .ref (ad (75)), .ref (ad (76)), .ref (ad (77)), .ref (ad (78)), .ref (ad (79)), .ref (ad (80))]) ∧ gl65_5 (63) = .inl (cI, 4, .inl (fw)) ∧ gl65_5 (69) = .inl (cI, 52, .inl (fgo)) ∧ gl65_5 (71) = .inl (cJ, 169, .inr (.inl (fA))) ∧ gl65_5 (72) = .inl (cJ, 169, .inr (.inl (fB))) ∧ (∀ j : Nat, j ≠ 71 → j ≠ 72 → gl65_5 j = g j) ∧ va_P D vwCl (xw 81 ad gl65_5) H ∧ va_S A s.heap H locs ∧ lv_has ls 3 [(0, .ref (ad (62))), (1, .int (nI (i))), (2, .int (nI (c0)))]) (fun (c0, fA, fB) => q - c0) ?_ (0, fA, fB) gl12_3 H locs ls ⟨(Nat.zero_le _), hM, (fun y h => hR y (by omega)), fo62, fa63, fa69, fa71, fa72, hfrgl12_3, hP, hS, (lv_sub hl [1, 2, 0] rfl)⟩
      rintro ⟨c0, fA, fB⟩ gl65_5 H locs ls ⟨hc0, hM, hR, fo62, fa63, fa69, fa71, fa72, hfrgl65_5, hP, hS, hl⟩ ih65
      refine lv_iload_n hx hb dX6_begins_65 rfl (lv_at hl 2 rfl) ?_
      refine lv_aload_n hx hb dX6_begins_66 rfl (lv_at hl 0 rfl) ?_
      refine xw_get hx hb hts hin6 hown hK hP (by decide) fo62 rfl 0 (by decide) hf7 rfl rfl dX6_begins_67 ?_
      refine xi_icmp_ge (tgt := 124) hx hb (by omega) (by omega) dX6_begins_70 (by decide) (fun c70_6 => ?_) (fun c70_6 => ?_)
      · refine lv_iinc (v := nI (i + 1)) (lv' := [(1, .int (nI (i + 1))), (0, .ref (ad (62))), (2, .int (nI (c0)))]) hx hb dX6_begins_124 hl (k := 1) rfl (nI_add (i) 1) (by decide) rfl (fun ls hl => ?_)
        refine lv_goto (tgt := 2) hx hb dX6_begins_127 (by decide) ?_
        exact ih2 (i + 1, fA, fB) gl65_5 H locs ls ⟨(by omega), (fun x y h1 h2 => if e : x = i then by rw [e, show q = c0 by omega]; exact hR y h2 else hM x y (by omega) h2), fo62, fa63, fa69, fa71, fa72, hfrgl65_5, hP, hS, (lv_sub hl [1, 0] rfl)⟩ (by first | omega | (dsimp only; omega))
      · refine lv_aload_n hx hb dX6_begins_73 rfl (lv_at hl 0 rfl) ?_
        refine xw_get hx hb hts hin6 hown hK hP (by decide) fo62 rfl 14 (by decide) hf39 rfl rfl dX6_begins_74 ?_
        refine lv_iconst (v := nI (4)) hx hb dX6_begins_77 (by decide) ?_
        refine lv_iload_n hx hb dX6_begins_78 rfl (lv_at hl 1 rfl) ?_
        refine xi_mul hx hb dX6_begins_79 ?_
        refine lv_iload_n hx hb dX6_begins_80 rfl (lv_at hl 2 rfl) ?_
        refine xi_add hx hb dX6_begins_81 ?_
        refine xw_iald hx hb hK hP (by decide) 0 fa69 rfl (by omega) (by decide) dX6_begins_82 ?_
        rw [hgo i c0 (by omega) (by omega)]
        refine lv_bipush (v := nI (100)) hx hb dX6_begins_83 (by decide) ?_
        refine xi_icmp_ge (tgt := 118) hx hb (by have h9 := hgb i c0 (by omega) (by omega); omega) (by decide) dX6_begins_85 (by decide) (fun c85_7 => ?_) (fun c85_7 => ?_)
        · refine lv_iinc (v := nI (c0 + 1)) (lv' := [(2, .int (nI (c0 + 1))), (0, .ref (ad (62))), (1, .int (nI (i)))]) hx hb dX6_begins_118 hl (k := 2) rfl (nI_add (c0) 1) (by decide) rfl (fun ls hl => ?_)
          refine lv_goto (tgt := 65) hx hb dX6_begins_121 (by decide) ?_
          exact ih65 (c0 + 1, fA, fB) gl65_5 H locs ls ⟨(by omega), hM, (fun y hy => by rw [mtZ_n (by omega)]; exact hR y hy), fo62, fa63, fa69, fa71, fa72, hfrgl65_5, hP, hS, (lv_sub hl [1, 2, 0] rfl)⟩ (by first | omega | (dsimp only; omega))
        · have hg9 := hgb i c0 (by omega) (by omega)
          refine lv_aload_n hx hb dX6_begins_88 rfl (lv_at hl 0 rfl) ?_
          refine xw_get hx hb hts hin6 hown hK hP (by decide) fo62 rfl 16 (by decide) hf45 rfl rfl dX6_begins_89 ?_
          refine lv_bipush (v := nI (13)) hx hb dX6_begins_92 (by decide) ?_
          refine lv_iload_n hx hb dX6_begins_94 rfl (lv_at hl 1 rfl) ?_
          refine xi_mul hx hb dX6_begins_95 ?_
          refine lv_aload_n hx hb dX6_begins_96 rfl (lv_at hl 0 rfl) ?_
          refine xw_get hx hb hts hin6 hown hK hP (by decide) fo62 rfl 14 (by decide) hf39 rfl rfl dX6_begins_97 ?_
          refine lv_iconst (v := nI (4)) hx hb dX6_begins_100 (by decide) ?_
          refine lv_iload_n hx hb dX6_begins_101 rfl (lv_at hl 1 rfl) ?_
          refine xi_mul hx hb dX6_begins_102 ?_
          refine lv_iload_n hx hb dX6_begins_103 rfl (lv_at hl 2 rfl) ?_
          refine xi_add hx hb dX6_begins_104 ?_
          refine xw_iald hx hb hK hP (by decide) 0 fa69 rfl (by omega) (by decide) dX6_begins_105 ?_
          rw [hgo i c0 (by omega) (by omega)]
          refine xi_add hx hb dX6_begins_106 ?_
          refine lv_dup2_11 hx hb dX6_begins_107 rfl rfl ?_
          refine xw_lald hx hb hK hP (by decide) 1 fa71 rfl (by omega) (by decide) dX6_begins_108 ?_
          rw [(hR ((gof (4 * i + c0))) (by omega)).1]
          refine lv_aload_n hx hb dX6_begins_109 rfl (lv_at hl 0 rfl) ?_
          refine xw_get hx hb hts hin6 hown hK hP (by decide) fo62 rfl 2 (by decide) hf16 rfl rfl dX6_begins_110 ?_
          refine lv_iload_n hx hb dX6_begins_113 rfl (lv_at hl 2 rfl) ?_
          refine xw_iald hx hb hK hP (by decide) 0 fa63 rfl (by omega) (by decide) dX6_begins_114 ?_
          rw [hfw (c0) (by omega)]
          refine xi_i2l hx hb (by have h9 := hw c0 (by omega); omega) dX6_begins_115 ?_
          refine xl_sub hx hb dX6_begins_116 ?_
          refine xtopl (y := lZ (mtZ Wt w gof (i) (gof (4 * i + c0)) (c0 + 1))) (congrArg lZ (mtZ_y rfl)) ?_
          refine xw_last hx hb hK hP hD hS (by decide) 1 fa71 rfl (by omega) (by decide) dX6_begins_117 (fun g8 H locs eg8 hP hS => ?_)
          have fg8_0 : g8 (62) = .inr (6, [.int (nI (q)), .int (nI (Wt)), .ref (ad (63)), .ref (ad (64)), .ref (ad (65)), .ref (ad (66)), .int (nI (T)), .long (tp), .long (bt), .long (nu), .long (de), .int (nI (ns)), .ref (ad (67)), .ref (ad (68)), .ref (ad (69)), .ref (ad (70)), .ref (ad (71)), .ref (ad (72)), .ref (ad (73)), .ref (ad (74)), .ref (ad (75)), .ref (ad (76)), .ref (ad (77)), .ref (ad (78)), .ref (ad (79)), .ref (ad (80))]) := (congrFun eg8 (62)).trans ((va_up_ne _ _ (by decide)).trans fo62)
          have fg8_1 : g8 (63) = .inl (cI, 4, .inl (fw)) := (congrFun eg8 (63)).trans ((va_up_ne _ _ (by decide)).trans fa63)
          have fg8_2 : g8 (69) = .inl (cI, 52, .inl (fgo)) := (congrFun eg8 (69)).trans ((va_up_ne _ _ (by decide)).trans fa69)
          have fg8_3 : g8 (72) = .inl (cJ, 169, .inr (.inl (fB))) := (congrFun eg8 (72)).trans ((va_up_ne _ _ (by decide)).trans fa72)
          have fg8_w : g8 (71) = .inl (cJ, 169, .inr (.inl (vp_updL (fA) ((13 * i) + (gof (4 * i + c0))) (lZ (mtZ Wt w gof (i) (gof (4 * i + c0)) (c0 + 1)))))) := (congrFun eg8 (71)).trans (va_up_self _ _ _)
          have hfrg8 : ∀ j : Nat, j ≠ 71 → j ≠ 72 → g8 j = g j := fun j h0 h1 => (congrFun eg8 j).trans ((va_up_ne _ _ h0).trans (hfrgl65_5 j h0 h1))
          refine lv_iinc (v := nI (c0 + 1)) (lv' := [(2, .int (nI (c0 + 1))), (0, .ref (ad (62))), (1, .int (nI (i)))]) hx hb dX6_begins_118 hl (k := 2) rfl (nI_add (c0) 1) (by decide) rfl (fun ls hl => ?_)
          refine lv_goto (tgt := 65) hx hb dX6_begins_121 (by decide) ?_
          exact ih65 (c0 + 1, vp_updL (fA) ((13 * i) + (gof (4 * i + c0))) (lZ (mtZ Wt w gof (i) (gof (4 * i + c0)) (c0 + 1))), fB) g8 H locs ls ⟨(by omega), (fun x y h1 h2 => by rw [pk_uLn (by omega)]; exact hM x y h1 h2), (fun y hy => if e : y = gof (4 * i + c0) then by rw [e, pk_uLs]; exact ⟨rfl, (hR _ (by omega)).2⟩ else by rw [pk_uLn (by omega), mtZ_n (fun h => e h.symm)]; exact hR y hy), fg8_0, fg8_1, fg8_2, fg8_w, fg8_3, hfrg8, hP, hS, (lv_sub hl [1, 2, 0] rfl)⟩ (by first | omega | (dsimp only; omega))
    · refine lv_aload_n hx hb dX6_begins_20 rfl (lv_at hl 0 rfl) ?_
      refine xw_get hx hb hts hin6 hown hK hP (by decide) fo62 rfl 16 (by decide) hf45 rfl rfl dX6_begins_21 ?_
      refine lv_bipush (v := nI (13)) hx hb dX6_begins_24 (by decide) ?_
      refine lv_iload_n hx hb dX6_begins_26 rfl (lv_at hl 1 rfl) ?_
      refine xi_mul hx hb dX6_begins_27 ?_
      refine lv_iload_n hx hb dX6_begins_28 rfl (lv_at hl 2 rfl) ?_
      refine xi_add hx hb dX6_begins_29 ?_
      refine lv_iload_n hx hb dX6_begins_30 rfl (lv_at hl 1 rfl) ?_
      refine lv_iload_n hx hb dX6_begins_31 rfl (lv_at hl 2 rfl) ?_
      refine xi_icmp_ne (tgt := 43) hx hb (by omega) (by omega) dX6_begins_32 (by decide) (fun c32_9 => ?_) (fun c32_9 => ?_)
      · refine lv_lconst (v := lZ (0)) hx hb dX6_begins_43 (by decide) ?_
        refine xw_last hx hb hK hP hD hS (by decide) 1 fa71 rfl (by omega) (by decide) dX6_begins_44 (fun g10 H locs eg10 hP hS => ?_)
        have fg10_0 : g10 (62) = .inr (6, [.int (nI (q)), .int (nI (Wt)), .ref (ad (63)), .ref (ad (64)), .ref (ad (65)), .ref (ad (66)), .int (nI (T)), .long (tp), .long (bt), .long (nu), .long (de), .int (nI (ns)), .ref (ad (67)), .ref (ad (68)), .ref (ad (69)), .ref (ad (70)), .ref (ad (71)), .ref (ad (72)), .ref (ad (73)), .ref (ad (74)), .ref (ad (75)), .ref (ad (76)), .ref (ad (77)), .ref (ad (78)), .ref (ad (79)), .ref (ad (80))]) := (congrFun eg10 (62)).trans ((va_up_ne _ _ (by decide)).trans fo62)
        have fg10_1 : g10 (63) = .inl (cI, 4, .inl (fw)) := (congrFun eg10 (63)).trans ((va_up_ne _ _ (by decide)).trans fa63)
        have fg10_2 : g10 (69) = .inl (cI, 52, .inl (fgo)) := (congrFun eg10 (69)).trans ((va_up_ne _ _ (by decide)).trans fa69)
        have fg10_3 : g10 (72) = .inl (cJ, 169, .inr (.inl (fB))) := (congrFun eg10 (72)).trans ((va_up_ne _ _ (by decide)).trans fa72)
        have fg10_w : g10 (71) = .inl (cJ, 169, .inr (.inl (vp_updL (fA) ((13 * i) + k) (lZ (0))))) := (congrFun eg10 (71)).trans (va_up_self _ _ _)
        have hfrg10 : ∀ j : Nat, j ≠ 71 → j ≠ 72 → g10 j = g j := fun j h0 h1 => (congrFun eg10 j).trans ((va_up_ne _ _ h0).trans (hfrgl12_3 j h0 h1))
        refine lv_aload_n hx hb dX6_begins_45 rfl (lv_at hl 0 rfl) ?_
        refine xw_get hx hb hts hin6 hown hK hP (by decide) fg10_0 rfl 17 (by decide) hf49 rfl rfl dX6_begins_46 ?_
        refine lv_bipush (v := nI (13)) hx hb dX6_begins_49 (by decide) ?_
        refine lv_iload_n hx hb dX6_begins_51 rfl (lv_at hl 1 rfl) ?_
        refine xi_mul hx hb dX6_begins_52 ?_
        refine lv_iload_n hx hb dX6_begins_53 rfl (lv_at hl 2 rfl) ?_
        refine xi_add hx hb dX6_begins_54 ?_
        refine lv_lconst (v := lZ (1)) hx hb dX6_begins_55 (by decide) ?_
        refine xw_last hx hb hK hP hD hS (by decide) 1 fg10_3 rfl (by omega) (by decide) dX6_begins_56 (fun g11 H locs eg11 hP hS => ?_)
        have fg11_0 : g11 (62) = .inr (6, [.int (nI (q)), .int (nI (Wt)), .ref (ad (63)), .ref (ad (64)), .ref (ad (65)), .ref (ad (66)), .int (nI (T)), .long (tp), .long (bt), .long (nu), .long (de), .int (nI (ns)), .ref (ad (67)), .ref (ad (68)), .ref (ad (69)), .ref (ad (70)), .ref (ad (71)), .ref (ad (72)), .ref (ad (73)), .ref (ad (74)), .ref (ad (75)), .ref (ad (76)), .ref (ad (77)), .ref (ad (78)), .ref (ad (79)), .ref (ad (80))]) := (congrFun eg11 (62)).trans ((va_up_ne _ _ (by decide)).trans fg10_0)
        have fg11_1 : g11 (63) = .inl (cI, 4, .inl (fw)) := (congrFun eg11 (63)).trans ((va_up_ne _ _ (by decide)).trans fg10_1)
        have fg11_2 : g11 (69) = .inl (cI, 52, .inl (fgo)) := (congrFun eg11 (69)).trans ((va_up_ne _ _ (by decide)).trans fg10_2)
        have fg11_3 : g11 (71) = .inl (cJ, 169, .inr (.inl (vp_updL (fA) ((13 * i) + k) (lZ (0))))) := (congrFun eg11 (71)).trans ((va_up_ne _ _ (by decide)).trans fg10_w)
        have fg11_w : g11 (72) = .inl (cJ, 169, .inr (.inl (vp_updL (fB) ((13 * i) + k) (lZ (1))))) := (congrFun eg11 (72)).trans (va_up_self _ _ _)
        have hfrg11 : ∀ j : Nat, j ≠ 71 → j ≠ 72 → g11 j = g j := fun j h0 h1 => (congrFun eg11 j).trans ((va_up_ne _ _ h1).trans (hfrg10 j h0 h1))
        refine lv_iinc (v := nI (k + 1)) (lv' := [(2, .int (nI (k + 1))), (0, .ref (ad (62))), (1, .int (nI (i)))]) hx hb dX6_begins_57 hl (k := 2) rfl (nI_add (k) 1) (by decide) rfl (fun ls hl => ?_)
        refine lv_goto (tgt := 12) hx hb dX6_begins_60 (by decide) ?_
        exact ih12 (k + 1, vp_updL (fA) ((13 * i) + k) (lZ (0)), vp_updL (fB) ((13 * i) + k) (lZ (1))) g11 H locs ls ⟨(by omega), (fun x y h1 h2 => by rw [pk_uLn (by omega), pk_uLn (by omega)]; exact hM x y h1 h2), (fun y hy => if e : y = k then by rw [e, pk_uLs, pk_uLs]; exact ⟨congrArg lZ (show _ = if i = k then (Wt : Int) else 0 by rw [if_neg c32_9]), rfl⟩ else by rw [pk_uLn (by omega), pk_uLn (by omega)]; exact hR y (by omega)), fg11_0, fg11_1, fg11_2, fg11_3, fg11_w, hfrg11, hP, hS, (lv_sub hl [1, 2, 0] rfl)⟩ (by first | omega | (dsimp only; omega))
      · refine lv_aload_n hx hb dX6_begins_35 rfl (lv_at hl 0 rfl) ?_
        refine xw_get hx hb hts hin6 hown hK hP (by decide) fo62 rfl 1 (by decide) hf13 rfl rfl dX6_begins_36 ?_
        refine xi_i2l hx hb (by omega) dX6_begins_39 ?_
        refine lv_goto (tgt := 44) hx hb dX6_begins_40 (by decide) ?_
        refine xw_last hx hb hK hP hD hS (by decide) 1 fa71 rfl (by omega) (by decide) dX6_begins_44 (fun g12 H locs eg12 hP hS => ?_)
        have fg12_0 : g12 (62) = .inr (6, [.int (nI (q)), .int (nI (Wt)), .ref (ad (63)), .ref (ad (64)), .ref (ad (65)), .ref (ad (66)), .int (nI (T)), .long (tp), .long (bt), .long (nu), .long (de), .int (nI (ns)), .ref (ad (67)), .ref (ad (68)), .ref (ad (69)), .ref (ad (70)), .ref (ad (71)), .ref (ad (72)), .ref (ad (73)), .ref (ad (74)), .ref (ad (75)), .ref (ad (76)), .ref (ad (77)), .ref (ad (78)), .ref (ad (79)), .ref (ad (80))]) := (congrFun eg12 (62)).trans ((va_up_ne _ _ (by decide)).trans fo62)
        have fg12_1 : g12 (63) = .inl (cI, 4, .inl (fw)) := (congrFun eg12 (63)).trans ((va_up_ne _ _ (by decide)).trans fa63)
        have fg12_2 : g12 (69) = .inl (cI, 52, .inl (fgo)) := (congrFun eg12 (69)).trans ((va_up_ne _ _ (by decide)).trans fa69)
        have fg12_3 : g12 (72) = .inl (cJ, 169, .inr (.inl (fB))) := (congrFun eg12 (72)).trans ((va_up_ne _ _ (by decide)).trans fa72)
        have fg12_w : g12 (71) = .inl (cJ, 169, .inr (.inl (vp_updL (fA) ((13 * i) + k) (lZ (((Wt : Nat) : Int)))))) := (congrFun eg12 (71)).trans (va_up_self _ _ _)
        have hfrg12 : ∀ j : Nat, j ≠ 71 → j ≠ 72 → g12 j = g j := fun j h0 h1 => (congrFun eg12 j).trans ((va_up_ne _ _ h0).trans (hfrgl12_3 j h0 h1))
        refine lv_aload_n hx hb dX6_begins_45 rfl (lv_at hl 0 rfl) ?_
        refine xw_get hx hb hts hin6 hown hK hP (by decide) fg12_0 rfl 17 (by decide) hf49 rfl rfl dX6_begins_46 ?_
        refine lv_bipush (v := nI (13)) hx hb dX6_begins_49 (by decide) ?_
        refine lv_iload_n hx hb dX6_begins_51 rfl (lv_at hl 1 rfl) ?_
        refine xi_mul hx hb dX6_begins_52 ?_
        refine lv_iload_n hx hb dX6_begins_53 rfl (lv_at hl 2 rfl) ?_
        refine xi_add hx hb dX6_begins_54 ?_
        refine lv_lconst (v := lZ (1)) hx hb dX6_begins_55 (by decide) ?_
        refine xw_last hx hb hK hP hD hS (by decide) 1 fg12_3 rfl (by omega) (by decide) dX6_begins_56 (fun g13 H locs eg13 hP hS => ?_)
        have fg13_0 : g13 (62) = .inr (6, [.int (nI (q)), .int (nI (Wt)), .ref (ad (63)), .ref (ad (64)), .ref (ad (65)), .ref (ad (66)), .int (nI (T)), .long (tp), .long (bt), .long (nu), .long (de), .int (nI (ns)), .ref (ad (67)), .ref (ad (68)), .ref (ad (69)), .ref (ad (70)), .ref (ad (71)), .ref (ad (72)), .ref (ad (73)), .ref (ad (74)), .ref (ad (75)), .ref (ad (76)), .ref (ad (77)), .ref (ad (78)), .ref (ad (79)), .ref (ad (80))]) := (congrFun eg13 (62)).trans ((va_up_ne _ _ (by decide)).trans fg12_0)
        have fg13_1 : g13 (63) = .inl (cI, 4, .inl (fw)) := (congrFun eg13 (63)).trans ((va_up_ne _ _ (by decide)).trans fg12_1)
        have fg13_2 : g13 (69) = .inl (cI, 52, .inl (fgo)) := (congrFun eg13 (69)).trans ((va_up_ne _ _ (by decide)).trans fg12_2)
        have fg13_3 : g13 (71) = .inl (cJ, 169, .inr (.inl (vp_updL (fA) ((13 * i) + k) (lZ (((Wt : Nat) : Int)))))) := (congrFun eg13 (71)).trans ((va_up_ne _ _ (by decide)).trans fg12_w)
        have fg13_w : g13 (72) = .inl (cJ, 169, .inr (.inl (vp_updL (fB) ((13 * i) + k) (lZ (1))))) := (congrFun eg13 (72)).trans (va_up_self _ _ _)
        have hfrg13 : ∀ j : Nat, j ≠ 71 → j ≠ 72 → g13 j = g j := fun j h0 h1 => (congrFun eg13 j).trans ((va_up_ne _ _ h1).trans (hfrg12 j h0 h1))
        refine lv_iinc (v := nI (k + 1)) (lv' := [(2, .int (nI (k + 1))), (0, .ref (ad (62))), (1, .int (nI (i)))]) hx hb dX6_begins_57 hl (k := 2) rfl (nI_add (k) 1) (by decide) rfl (fun ls hl => ?_)
        refine lv_goto (tgt := 12) hx hb dX6_begins_60 (by decide) ?_
        exact ih12 (k + 1, vp_updL (fA) ((13 * i) + k) (lZ (((Wt : Nat) : Int))), vp_updL (fB) ((13 * i) + k) (lZ (1))) g13 H locs ls ⟨(by omega), (fun x y h1 h2 => by rw [pk_uLn (by omega), pk_uLn (by omega)]; exact hM x y h1 h2), (fun y hy => if e : y = k then by rw [e, pk_uLs, pk_uLs]; exact ⟨congrArg lZ (show _ = if i = k then (Wt : Int) else 0 by rw [if_pos c32_9]), rfl⟩ else by rw [pk_uLn (by omega), pk_uLn (by omega)]; exact hR y (by omega)), fg13_0, fg13_1, fg13_2, fg13_3, fg13_w, hfrg13, hP, hS, (lv_sub hl [1, 2, 0] rfl)⟩ (by first | omega | (dsimp only; omega))

set_option maxHeartbeats 4000000 in
set_option maxRecDepth 100000 in
/-- own -/
theorem mX6_own (l : Launch) {D : va_G} {cI cJ cZ cW : ClassId} {ad : Nat → Nat} {A : Nat → Prop} (hD : ∀ g, va_D A (xw 81 ad g)) {g : Nat → va_E} {q Wt T : Nat} {w ln t : Nat → Nat} {u : Nat → Nat → Nat} {tp bt : Int64} {ns i : Nat} {a b : Int} {nu de : Int64} {frn : Nat → Int64} {frd : Nat → Int64}  (fo62 : g (62) = .inr (6, [.int (nI (q)), .int (nI (Wt)), .ref (ad (63)), .ref (ad (64)), .ref (ad (65)), .ref (ad (66)), .int (nI (T)), .long (tp), .long (bt), .long (nu), .long (de), .int (nI (ns)), .ref (ad (67)), .ref (ad (68)), .ref (ad (69)), .ref (ad (70)), .ref (ad (71)), .ref (ad (72)), .ref (ad (73)), .ref (ad (74)), .ref (ad (75)), .ref (ad (76)), .ref (ad (77)), .ref (ad (78)), .ref (ad (79)), .ref (ad (80))])) (fa73 : g (73) = .inl (cJ, 13, .inr (.inl (frn)))) (fa74 : g (74) = .inl (cJ, 13, .inr (.inl (frd)))) (ha : -(2 ^ 63 : Int) < a ∧ a < 2 ^ 63) (hb0 : 0 < b ∧ b < 2 ^ 63) (hi : i < 13) : Met l yX6_own wsX6_own ({ frames := 2, cells := 0, slots := 0, locals := 55 }) (va_Pc [.ref (ad (62)), .int (nI (i)), .long (lZ (a)), .long (lZ (b))] (xB D (xT cI cJ cZ cW) ad g)) (va_Qv (fun g2 => g2 62 = .inr (6, [.int (nI (q)), .int (nI (Wt)), .ref (ad (63)), .ref (ad (64)), .ref (ad (65)), .ref (ad (66)), .int (nI (T)), .long (tp), .long (bt), .long (lZ ((Rat.divInt (a) (b)).num)), .long (lZ (((Rat.divInt (a) (b)).den : Int))), .int (nI (ns)), .ref (ad (67)), .ref (ad (68)), .ref (ad (69)), .ref (ad (70)), .ref (ad (71)), .ref (ad (72)), .ref (ad (73)), .ref (ad (74)), .ref (ad (75)), .ref (ad (76)), .ref (ad (77)), .ref (ad (78)), .ref (ad (79)), .ref (ad (80))]) ∧ g2 73 = .inl (cJ, 13, .inr (.inl (vp_updL (frn) (i) (lZ ((Rat.divInt (a) (b)).num))))) ∧ g2 74 = .inl (cJ, 13, .inr (.inl (vp_updL (frd) (i) (lZ (((Rat.divInt (a) (b)).den : Int)))))) ∧ ∀ j : Nat, j ≠ 62 → j ≠ 73 → j ≠ 74 → g2 j = g j) (xB D (xT cI cJ cZ cW) ad) A) 0 0 A := by
  refine Met.ofW (cc := cX6_own) (maxL := 6) (ret := none) (by decide) rfl ?_
  intro p e s m args below meth c s₁ B hml hv
  obtain ⟨rfl, hP, hK, hN⟩ := hv
  have hx := B.exec
  have hb := B.bytes
  have hr := B.returns
  have hts := atoms_spec (ws := wsX6_own) B.pre
  have hown : s.vm.findClass RX6 = some m.cls := findClass_of_methodNamed B.named
  have hlocks := B.notSynchronized
  have hS : va_S A s.heap s.heap [] := va_S.rf
  have hin6 : ∀ w ∈ wsX60, w ∈ wsX6_own := by decide +kernel
  have hf52 := hts (.fieldLink RX6 52 "LettersByLotModel" "rn" "[J") (by decide +kernel)
  have hf55 := hts (.fieldLink RX6 55 "LettersByLotModel" "rd" "[J") (by decide +kernel)
  have hf106 := hts (.fieldLink RX6 106 "LettersByLotModel" "num" "J") (by decide +kernel)
  have hf109 := hts (.fieldLink RX6 109 "LettersByLotModel" "den" "J") (by decide +kernel)
  have hl := lv_entry ([.ref (ad (62)), .int (nI (i)), .long (lZ (a)), .long (lZ (b))]) (n := 6) (Nat.le_of_ble_eq_true rfl)
  rw [lg_entry_eq]
  generalize (lg_sl ([.ref (ad (62)), .int (nI (i)), .long (lZ (a)), .long (lZ (b))]) ++ List.replicate (6 - (lg_sl ([.ref (ad (62)), .int (nI (i)), .long (lZ (a)), .long (lZ (b))])).length) Slot.unset).toArray = ls at hl ⊢
  have hl : lv_has ls 6 [(0, .ref (ad (62))), (1, .int (nI (i))), (2, .long (lZ (a))), (4, .long (lZ (b)))] := hl
  refine lv_aload_n hx hb dX6_own_0 rfl (lv_at hl 0 rfl) ?_
  refine lv_lload_n hx hb dX6_own_1 rfl (lv_at hl 2 rfl) ?_
  refine lv_lload hx hb dX6_own_2 (lv_at hl 3 rfl) ?_
  refine va_callv (va_runV (As := [.long (lZ (a)), .long (lZ (b))]) (rest := []) ⟨hx, hb, hml, hown, hts⟩ (mX6_set l hD (w := w) (ln := ln) (t := t) (u := u) (a := a) (b := b) fo62 ha hb0) (cwV 2 hts gX6_own_X6_set rfl rfl rfl (by decide +kernel) ⟨Nat.le_of_ble_eq_true rfl, Nat.le_of_ble_eq_true rfl⟩) ⟨xB_blind, va_recv hK hP (ci := 6) rfl (xw_is (by decide) fo62), fun U hU hW => ⟨rfl, by rw [hU]; exact hP, va_K.moved hW.alike hK, va_Nw.warmM hW hN⟩⟩ rfl rfl hl.1 rfl (lv_room (Nat.le_of_ble_eq_true rfl)) dX6_own_4 ⟨Nat.le_of_ble_eq_true rfl, Nat.le_of_ble_eq_true rfl⟩) hS (fun _ _ h => h) (fun _ h => h) (fun g1 tZ H locs ht hvm hwg1 hB hzZ hkZ hS => ?_)
  obtain ⟨hP, -⟩ := hB
  rw [ht] at hP
  obtain ⟨fg1_n0, hcg1⟩ := hwg1
  have fg1_k0 : g1 (73) = .inl (cJ, 13, .inr (.inl (frn))) := (hcg1 (73) (by decide)).trans fa73
  have fg1_k1 : g1 (74) = .inl (cJ, 13, .inr (.inl (frd))) := (hcg1 (74) (by decide)).trans fa74
  have hfrg1 : ∀ j : Nat, j ≠ 62 → j ≠ 73 → j ≠ 74 → g1 j = g j := fun j h0 h1 h2 => (hcg1 j h0).trans ((fun _ _ _ _ => rfl) j h0 h1 h2)
  refine lv_aload_n hx hb dX6_own_7 rfl (lv_at hl 0 rfl) ?_
  refine xw_get hx hb hts hin6 hown hK hP (by decide) fg1_n0 rfl 18 (by decide) hf52 rfl rfl dX6_own_8 ?_
  refine lv_iload_n hx hb dX6_own_11 rfl (lv_at hl 1 rfl) ?_
  refine lv_aload_n hx hb dX6_own_12 rfl (lv_at hl 0 rfl) ?_
  refine xw_get hx hb hts hin6 hown hK hP (by decide) fg1_n0 rfl 9 (by decide) hf106 rfl rfl dX6_own_13 ?_
  refine xw_last hx hb hK hP hD hS (by decide) 1 fg1_k0 rfl (by omega) (by decide) dX6_own_16 (fun g3 H locs eg3 hP hS => ?_)
  have fg3_0 : g3 (62) = .inr (6, [.int (nI (q)), .int (nI (Wt)), .ref (ad (63)), .ref (ad (64)), .ref (ad (65)), .ref (ad (66)), .int (nI (T)), .long (tp), .long (bt), .long (lZ ((Rat.divInt (a) (b)).num)), .long (lZ (((Rat.divInt (a) (b)).den : Int))), .int (nI (ns)), .ref (ad (67)), .ref (ad (68)), .ref (ad (69)), .ref (ad (70)), .ref (ad (71)), .ref (ad (72)), .ref (ad (73)), .ref (ad (74)), .ref (ad (75)), .ref (ad (76)), .ref (ad (77)), .ref (ad (78)), .ref (ad (79)), .ref (ad (80))]) := (congrFun eg3 (62)).trans ((va_up_ne _ _ (by decide)).trans fg1_n0)
  have fg3_1 : g3 (74) = .inl (cJ, 13, .inr (.inl (frd))) := (congrFun eg3 (74)).trans ((va_up_ne _ _ (by decide)).trans fg1_k1)
  have fg3_w : g3 (73) = .inl (cJ, 13, .inr (.inl (vp_updL (frn) (i) (lZ ((Rat.divInt (a) (b)).num))))) := (congrFun eg3 (73)).trans (va_up_self _ _ _)
  have hfrg3 : ∀ j : Nat, j ≠ 62 → j ≠ 73 → j ≠ 74 → g3 j = g j := fun j h0 h1 h2 => (congrFun eg3 j).trans ((va_up_ne _ _ h1).trans (hfrg1 j h0 h1 h2))
  refine lv_aload_n hx hb dX6_own_17 rfl (lv_at hl 0 rfl) ?_
  refine xw_get hx hb hts hin6 hown hK hP (by decide) fg3_0 rfl 19 (by decide) hf55 rfl rfl dX6_own_18 ?_
  refine lv_iload_n hx hb dX6_own_21 rfl (lv_at hl 1 rfl) ?_
  refine lv_aload_n hx hb dX6_own_22 rfl (lv_at hl 0 rfl) ?_
  refine xw_get hx hb hts hin6 hown hK hP (by decide) fg3_0 rfl 10 (by decide) hf109 rfl rfl dX6_own_23 ?_
  refine xw_last hx hb hK hP hD hS (by decide) 1 fg3_1 rfl (by omega) (by decide) dX6_own_26 (fun g4 H locs eg4 hP hS => ?_)
  have fg4_0 : g4 (62) = .inr (6, [.int (nI (q)), .int (nI (Wt)), .ref (ad (63)), .ref (ad (64)), .ref (ad (65)), .ref (ad (66)), .int (nI (T)), .long (tp), .long (bt), .long (lZ ((Rat.divInt (a) (b)).num)), .long (lZ (((Rat.divInt (a) (b)).den : Int))), .int (nI (ns)), .ref (ad (67)), .ref (ad (68)), .ref (ad (69)), .ref (ad (70)), .ref (ad (71)), .ref (ad (72)), .ref (ad (73)), .ref (ad (74)), .ref (ad (75)), .ref (ad (76)), .ref (ad (77)), .ref (ad (78)), .ref (ad (79)), .ref (ad (80))]) := (congrFun eg4 (62)).trans ((va_up_ne _ _ (by decide)).trans fg3_0)
  have fg4_1 : g4 (73) = .inl (cJ, 13, .inr (.inl (vp_updL (frn) (i) (lZ ((Rat.divInt (a) (b)).num))))) := (congrFun eg4 (73)).trans ((va_up_ne _ _ (by decide)).trans fg3_w)
  have fg4_w : g4 (74) = .inl (cJ, 13, .inr (.inl (vp_updL (frd) (i) (lZ (((Rat.divInt (a) (b)).den : Int)))))) := (congrFun eg4 (74)).trans (va_up_self _ _ _)
  have hfrg4 : ∀ j : Nat, j ≠ 62 → j ≠ 73 → j ≠ 74 → g4 j = g j := fun j h0 h1 h2 => (congrFun eg4 j).trans ((va_up_ne _ _ h2).trans (hfrg3 j h0 h1 h2))
  exact W.vret hx hb hr (fun tZ ht hW => ⟨⟨g4, rfl, ⟨fg4_0, fg4_1, fg4_w, hfrg4⟩, by rw [ht]; exact hP, va_K.moved hW.alike hK, va_Nw.warmM hW hN⟩, hS.F ht⟩) hS.2.2 dX6_own_27

set_option maxHeartbeats 4000000 in
set_option maxRecDepth 100000 in
/-- takesOff -/
theorem mX6_takesOff (l : Launch) {D : va_G} {cI cJ cZ cW : ClassId} {ad : Nat → Nat} {A : Nat → Prop} (hD : ∀ g, va_D A (xw 81 ad g)) {g : Nat → va_E} {q Wt T : Nat} {w ln t : Nat → Nat} {u : Nat → Nat → Nat} {tp bt : Int64} {ns i0 k0 : Nat} {mx : Nat → Nat → Rat} {nu de : Int64} {fan : Nat → Int64} {fad : Nat → Int64} {frn : Nat → Int64} {frd : Nat → Int64}  (fo62 : g (62) = .inr (6, [.int (nI (q)), .int (nI (Wt)), .ref (ad (63)), .ref (ad (64)), .ref (ad (65)), .ref (ad (66)), .int (nI (T)), .long (tp), .long (bt), .long (nu), .long (de), .int (nI (ns)), .ref (ad (67)), .ref (ad (68)), .ref (ad (69)), .ref (ad (70)), .ref (ad (71)), .ref (ad (72)), .ref (ad (73)), .ref (ad (74)), .ref (ad (75)), .ref (ad (76)), .ref (ad (77)), .ref (ad (78)), .ref (ad (79)), .ref (ad (80))])) (fa71 : g (71) = .inl (cJ, 169, .inr (.inl (fan)))) (fa72 : g (72) = .inl (cJ, 169, .inr (.inl (fad)))) (fa73 : g (73) = .inl (cJ, 13, .inr (.inl (frn)))) (fa74 : g (74) = .inl (cJ, 13, .inr (.inl (frd)))) (hA0 : mA fan fad ns mx) (hB0 : mB frn frd ns mx) (hns : ns ≤ 13) (hi0 : i0 < ns) (hk0 : k0 < ns) (hik : i0 ≠ k0) (hfi : ∀ x, k0 ≤ x → x ≤ ns → fitR (mx i0 x)) (hfk : ∀ x, k0 ≤ x → x ≤ ns → fitR (mx k0 x)) (hfp : ∀ x, k0 ≤ x → x ≤ ns → fitR (-(mx i0 k0) * mx k0 x)) (hfa : ∀ x, k0 ≤ x → x ≤ ns → fitA (mx i0 x) (-(mx i0 k0) * mx k0 x)) : Met l yX6_takesOff wsX6_takesOff ({ frames := 3, cells := 0, slots := 0, locals := 87 }) (va_Pc [.ref (ad (62)), .int (nI (i0)), .int (nI (k0))] (xB D (xT cI cJ cZ cW) ad g)) (va_Qv (fun g2 => ∃ (fA fB fC fD : Nat → Int64) (nx dx : Int64), mA fA fB ns (mtO mx i0 k0 (ns + 1)) ∧ mB fC fD ns (mtO mx i0 k0 (ns + 1)) ∧ g2 62 = .inr (6, [.int (nI (q)), .int (nI (Wt)), .ref (ad (63)), .ref (ad (64)), .ref (ad (65)), .ref (ad (66)), .int (nI (T)), .long (tp), .long (bt), .long (nx), .long (dx), .int (nI (ns)), .ref (ad (67)), .ref (ad (68)), .ref (ad (69)), .ref (ad (70)), .ref (ad (71)), .ref (ad (72)), .ref (ad (73)), .ref (ad (74)), .ref (ad (75)), .ref (ad (76)), .ref (ad (77)), .ref (ad (78)), .ref (ad (79)), .ref (ad (80))]) ∧ g2 71 = .inl (cJ, 169, .inr (.inl (fA))) ∧ g2 72 = .inl (cJ, 169, .inr (.inl (fB))) ∧ g2 73 = .inl (cJ, 13, .inr (.inl (fC))) ∧ g2 74 = .inl (cJ, 13, .inr (.inl (fD))) ∧ ∀ j : Nat, j ≠ 62 → j ≠ 71 → j ≠ 72 → j ≠ 73 → j ≠ 74 → g2 j = g j) (xB D (xT cI cJ cZ cW) ad) A) 0 0 A := by
  refine Met.ofW (cc := cX6_takesOff) (maxL := 8) (ret := none) (by decide) rfl ?_
  intro p e s m args below meth c s₁ B hml hv
  obtain ⟨rfl, hP, hK, hN⟩ := hv
  have hx := B.exec
  have hb := B.bytes
  have hr := B.returns
  have hts := atoms_spec (ws := wsX6_takesOff) B.pre
  have hown : s.vm.findClass RX6 = some m.cls := findClass_of_methodNamed B.named
  have hlocks := B.notSynchronized
  have hS : va_S A s.heap s.heap [] := va_S.rf
  have hin6 : ∀ w ∈ wsX60, w ∈ wsX6_takesOff := by decide +kernel
  have hf45 := hts (.fieldLink RX6 45 "LettersByLotModel" "an" "[J") (by decide +kernel)
  have hf49 := hts (.fieldLink RX6 49 "LettersByLotModel" "ad" "[J") (by decide +kernel)
  have hf52 := hts (.fieldLink RX6 52 "LettersByLotModel" "rn" "[J") (by decide +kernel)
  have hf55 := hts (.fieldLink RX6 55 "LettersByLotModel" "rd" "[J") (by decide +kernel)
  have hf106 := hts (.fieldLink RX6 106 "LettersByLotModel" "num" "J") (by decide +kernel)
  have hf109 := hts (.fieldLink RX6 109 "LettersByLotModel" "den" "J") (by decide +kernel)
  have hf130 := hts (.fieldLink RX6 130 "LettersByLotModel" "states" "I") (by decide +kernel)
  have hl := lv_entry ([.ref (ad (62)), .int (nI (i0)), .int (nI (k0))]) (n := 8) (Nat.le_of_ble_eq_true rfl)
  rw [lg_entry_eq]
  generalize (lg_sl ([.ref (ad (62)), .int (nI (i0)), .int (nI (k0))]) ++ List.replicate (8 - (lg_sl ([.ref (ad (62)), .int (nI (i0)), .int (nI (k0))])).length) Slot.unset).toArray = ls at hl ⊢
  have hl : lv_has ls 8 [(0, .ref (ad (62))), (1, .int (nI (i0))), (2, .int (nI (k0)))] := hl
  refine lv_aload_n hx hb dX6_takesOff_0 rfl (lv_at hl 0 rfl) ?_
  refine xw_get hx hb hts hin6 hown hK hP (by decide) fo62 rfl 16 (by decide) hf45 rfl rfl dX6_takesOff_1 ?_
  refine lv_bipush (v := nI (13)) hx hb dX6_takesOff_4 (by decide) ?_
  refine lv_iload_n hx hb dX6_takesOff_6 rfl (lv_at hl 1 rfl) ?_
  refine xi_mul hx hb dX6_takesOff_7 ?_
  refine lv_iload_n hx hb dX6_takesOff_8 rfl (lv_at hl 2 rfl) ?_
  refine xi_add hx hb dX6_takesOff_9 ?_
  refine xw_lald hx hb hK hP (by decide) 1 fa71 rfl (by omega) (by decide) dX6_takesOff_10 ?_
  rw [(hA0 i0 k0 (by omega) (by omega)).1]
  refine lv_lstore_n (lv' := [(3, .long (lZ ((mx i0 k0).num))), (0, .ref (ad (62))), (1, .int (nI (i0))), (2, .int (nI (k0)))]) hx hb dX6_takesOff_11 rfl hl (by decide) rfl (fun ls hl => ?_)
  refine lv_aload_n hx hb dX6_takesOff_12 rfl (lv_at hl 1 rfl) ?_
  refine xw_get hx hb hts hin6 hown hK hP (by decide) fo62 rfl 17 (by decide) hf49 rfl rfl dX6_takesOff_13 ?_
  refine lv_bipush (v := nI (13)) hx hb dX6_takesOff_16 (by decide) ?_
  refine lv_iload_n hx hb dX6_takesOff_18 rfl (lv_at hl 2 rfl) ?_
  refine xi_mul hx hb dX6_takesOff_19 ?_
  refine lv_iload_n hx hb dX6_takesOff_20 rfl (lv_at hl 3 rfl) ?_
  refine xi_add hx hb dX6_takesOff_21 ?_
  refine xw_lald hx hb hK hP (by decide) 1 fa72 rfl (by omega) (by decide) dX6_takesOff_22 ?_
  rw [(hA0 i0 k0 (by omega) (by omega)).2]
  refine lv_lstore (lv' := [(5, .long (lZ (((mx i0 k0).den : Int)))), (3, .long (lZ ((mx i0 k0).num))), (0, .ref (ad (62))), (1, .int (nI (i0))), (2, .int (nI (k0)))]) hx hb dX6_takesOff_23 hl (by decide) rfl (fun ls hl => ?_)
  refine lv_lload_n hx hb dX6_takesOff_25 rfl (lv_at hl 1 rfl) ?_
  refine lv_lconst (v := lZ (0)) hx hb dX6_takesOff_26 (by decide) ?_
  refine xl_cmp_ne (tgt := 32) hx hb (by have h9 := hfi k0 (by omega) (by omega); exact ⟨Int.le_of_lt h9.1, h9.2.1⟩) (by decide) dX6_takesOff_27 dX6_takesOff_28 (by decide) (fun c27_1 => ?_) (fun c27_1 => ?_)
  · refine lv_iload_n hx hb dX6_takesOff_32 rfl (lv_at hl 4 rfl) ?_
    refine lv_istore (lv' := [(7, .int (nI (k0))), (5, .long (lZ (((mx i0 k0).den : Int)))), (3, .long (lZ ((mx i0 k0).num))), (0, .ref (ad (62))), (1, .int (nI (i0))), (2, .int (nI (k0)))]) hx hb dX6_takesOff_33 hl (by decide) rfl (fun ls hl => ?_)
    refine xloopW (G := fun H locs fr => W p l e _ s m _ below meth c H locs _ _ _ fr) (σ := Nat × (Nat → Int64) × (Nat → Int64) × Int64 × Int64) (fun (j, fA, fB, nx, dx) ls => F0 m 35 ls []) (fun (j, fA, fB, nx, dx) gl35_2 H locs ls => (k0 ≤ j ∧ j ≤ ns) ∧ (∀ x, k0 ≤ x → x < j → fA (13 * i0 + x) = lZ ((mx i0 x - mx i0 k0 * mx k0 x).num) ∧ fB (13 * i0 + x) = lZ (((mx i0 x - mx i0 k0 * mx k0 x).den : Int))) ∧ (∀ x, j ≤ x → x < ns → fA (13 * i0 + x) = lZ ((mx i0 x).num) ∧ fB (13 * i0 + x) = lZ (((mx i0 x).den : Int))) ∧ (∀ x, (x < 13 * i0 + k0 ∨ 13 * i0 + ns ≤ x) → fA x = fan x ∧ fB x = fad x) ∧ gl35_2 (62) = .inr (6, [.int (nI (q)), .int (nI (Wt)), .ref (ad (63)), .ref (ad (64)), .ref (ad (65)), .ref (ad (66)), .int (nI (T)), .long (tp), .long (bt), .long (nx), .long (dx), .int (nI (ns)), .ref (ad (67)), .ref (ad (68)), .ref (ad (69)), .ref (ad (70)), .ref (ad (71)), .ref (ad (72)), .ref (ad (73)), .ref (ad (74)), .ref (ad (75)), .ref (ad (76)), .ref (ad (77)), .ref (ad (78)), .ref (ad (79)), .ref (ad (80))]) ∧ gl35_2 (71) = .inl (cJ, 169, .inr (.inl (fA))) ∧ gl35_2 (72) = .inl (cJ, 169, .inr (.inl (fB))) ∧ gl35_2 (73) = .inl (cJ, 13, .inr (.inl (frn))) ∧ gl35_2 (74) = .inl (cJ, 13, .inr (.inl (frd))) ∧ (∀ j : Nat, j ≠ 62 → j ≠ 71 → j ≠ 72 → j ≠ 73 → j ≠ 74 → gl35_2 j = g j) ∧ va_P D vwCl (xw 81 ad gl35_2) H ∧ va_S A s.heap H locs ∧ lv_has ls 8 [(0, .ref (ad (62))), (1, .int (nI (i0))), (2, .int (nI (k0))), (3, .long (lZ ((mx i0 k0).num))), (5, .long (lZ (((mx i0 k0).den : Int)))), (7, .int (nI (j)))]) (fun (j, fA, fB, nx, dx) => ns - j) ?_ (k0, fan, fad, nu, de) g s.heap [] ls ⟨⟨Nat.le_refl _, by omega⟩, (fun x h1 h2 => absurd h1 (by omega)), (fun x h1 h2 => hA0 i0 x (by omega) h2), (fun _ _ => ⟨rfl, rfl⟩), fo62, fa71, fa72, fa73, fa74, (fun _ _ _ _ _ _ => rfl), hP, hS, (lv_sub hl [3, 4, 5, 2, 1, 0] rfl)⟩
    rintro ⟨j, fA, fB, nx, dx⟩ gl35_2 H locs ls ⟨hj, hMd, hMr, hMo, fo62, fa71, fa72, fa73, fa74, hfrgl35_2, hP, hS, hl⟩ ih35
    refine lv_iload hx hb dX6_takesOff_35 (lv_at hl 5 rfl) ?_
    refine lv_aload_n hx hb dX6_takesOff_37 rfl (lv_at hl 0 rfl) ?_
    refine xw_get hx hb hts hin6 hown hK hP (by decide) fo62 rfl 11 (by decide) hf130 rfl rfl dX6_takesOff_38 ?_
    refine xi_icmp_ge (tgt := 150) hx hb (by omega) (by omega) dX6_takesOff_41 (by decide) (fun c41_3 => ?_) (fun c41_3 => ?_)
    · refine lv_aload_n hx hb dX6_takesOff_150 rfl (lv_at hl 0 rfl) ?_
      refine lv_lload_n hx hb dX6_takesOff_151 rfl (lv_at hl 3 rfl) ?_
      refine xl_neg hx hb dX6_takesOff_152 ?_
      refine xtopl (y := lZ ((-(mx i0 k0)).num)) rfl ?_
      refine lv_lload hx hb dX6_takesOff_153 (lv_at hl 4 rfl) ?_
      refine lv_aload_n hx hb dX6_takesOff_155 rfl (lv_at hl 0 rfl) ?_
      refine xw_get hx hb hts hin6 hown hK hP (by decide) fo62 rfl 18 (by decide) hf52 rfl rfl dX6_takesOff_156 ?_
      refine lv_iload_n hx hb dX6_takesOff_159 rfl (lv_at hl 2 rfl) ?_
      refine xw_lald hx hb hK hP (by decide) 1 fa73 rfl (by omega) (by decide) dX6_takesOff_160 ?_
      rw [(hB0 k0 (by omega)).1]
      refine lv_aload_n hx hb dX6_takesOff_161 rfl (lv_at hl 0 rfl) ?_
      refine xw_get hx hb hts hin6 hown hK hP (by decide) fo62 rfl 19 (by decide) hf55 rfl rfl dX6_takesOff_162 ?_
      refine lv_iload_n hx hb dX6_takesOff_165 rfl (lv_at hl 2 rfl) ?_
      refine xw_lald hx hb hK hP (by decide) 1 fa74 rfl (by omega) (by decide) dX6_takesOff_166 ?_
      rw [(hB0 k0 (by omega)).2]
      refine va_callv (va_runV (As := [.long (lZ ((-(mx i0 k0)).num)), .long (lZ (((mx i0 k0).den : Int))), .long (lZ ((mx k0 ns).num)), .long (lZ (((mx k0 ns).den : Int)))]) (rest := []) ⟨hx, hb, hml, hown, hts⟩ (mX6_times l hD (w := w) (ln := ln) (t := t) (u := u) (x := -(mx i0 k0)) (y := mx k0 ns) fo62 rfl rfl rfl rfl (fitR_neg (hfi k0 (by omega) (by omega))) (hfk ns (by omega) (by omega)) (hfp ns (by omega) (by omega))) (cwV 4 hts gX6_takesOff_X6_times rfl rfl rfl (by decide +kernel) ⟨Nat.le_of_ble_eq_true rfl, Nat.le_of_ble_eq_true rfl⟩) ⟨xB_blind, va_recv hK hP (ci := 6) rfl (xw_is (by decide) fo62), fun U hU hW => ⟨rfl, by rw [hU]; exact hP, va_K.moved hW.alike hK, va_Nw.warmM hW hN⟩⟩ rfl rfl hl.1 rfl (lv_room (Nat.le_of_ble_eq_true rfl)) dX6_takesOff_167 ⟨Nat.le_of_ble_eq_true rfl, Nat.le_of_ble_eq_true rfl⟩) hS (fun _ _ h => h) (fun _ h => h) (fun g4 tZ H locs ht hvm hwg4 hB hzZ hkZ hS => ?_)
      obtain ⟨hP, -⟩ := hB
      rw [ht] at hP
      obtain ⟨fg4_n0, hcg4⟩ := hwg4
      have fg4_k0 : g4 (71) = .inl (cJ, 169, .inr (.inl (fA))) := (hcg4 (71) (by decide)).trans fa71
      have fg4_k1 : g4 (72) = .inl (cJ, 169, .inr (.inl (fB))) := (hcg4 (72) (by decide)).trans fa72
      have fg4_k2 : g4 (73) = .inl (cJ, 13, .inr (.inl (frn))) := (hcg4 (73) (by decide)).trans fa73
      have fg4_k3 : g4 (74) = .inl (cJ, 13, .inr (.inl (frd))) := (hcg4 (74) (by decide)).trans fa74
      have hfrg4 : ∀ j : Nat, j ≠ 62 → j ≠ 71 → j ≠ 72 → j ≠ 73 → j ≠ 74 → g4 j = g j := fun j h0 h1 h2 h3 h4 => (hcg4 j h0).trans (hfrgl35_2 j h0 h1 h2 h3 h4)
      refine lv_aload_n hx hb dX6_takesOff_170 rfl (lv_at hl 0 rfl) ?_
      refine lv_aload_n hx hb dX6_takesOff_171 rfl (lv_at hl 0 rfl) ?_
      refine xw_get hx hb hts hin6 hown hK hP (by decide) fg4_n0 rfl 18 (by decide) hf52 rfl rfl dX6_takesOff_172 ?_
      refine lv_iload_n hx hb dX6_takesOff_175 rfl (lv_at hl 1 rfl) ?_
      refine xw_lald hx hb hK hP (by decide) 1 fg4_k2 rfl (by omega) (by decide) dX6_takesOff_176 ?_
      rw [(hB0 i0 (by omega)).1]
      refine lv_aload_n hx hb dX6_takesOff_177 rfl (lv_at hl 0 rfl) ?_
      refine xw_get hx hb hts hin6 hown hK hP (by decide) fg4_n0 rfl 19 (by decide) hf55 rfl rfl dX6_takesOff_178 ?_
      refine lv_iload_n hx hb dX6_takesOff_181 rfl (lv_at hl 1 rfl) ?_
      refine xw_lald hx hb hK hP (by decide) 1 fg4_k3 rfl (by omega) (by decide) dX6_takesOff_182 ?_
      rw [(hB0 i0 (by omega)).2]
      refine lv_aload_n hx hb dX6_takesOff_183 rfl (lv_at hl 0 rfl) ?_
      refine xw_get hx hb hts hin6 hown hK hP (by decide) fg4_n0 rfl 9 (by decide) hf106 rfl rfl dX6_takesOff_184 ?_
      refine lv_aload_n hx hb dX6_takesOff_187 rfl (lv_at hl 0 rfl) ?_
      refine xw_get hx hb hts hin6 hown hK hP (by decide) fg4_n0 rfl 10 (by decide) hf109 rfl rfl dX6_takesOff_188 ?_
      refine va_callv (va_runV (As := [.long (lZ ((mx i0 ns).num)), .long (lZ (((mx i0 ns).den : Int))), .long (lZ (((-(mx i0 k0)) * (mx k0 ns)).num)), .long (lZ ((((-(mx i0 k0)) * (mx k0 ns)).den : Int)))]) (rest := []) ⟨hx, hb, hml, hown, hts⟩ (mX6_add l hD (w := w) (ln := ln) (t := t) (u := u) (x := mx i0 ns) (y := (-(mx i0 k0)) * (mx k0 ns)) fg4_n0 rfl rfl rfl rfl (hfi ns (by omega) (by omega)) (hfp ns (by omega) (by omega)) (hfa ns (by omega) (by omega))) (cwV 4 hts gX6_takesOff_X6_add rfl rfl rfl (by decide +kernel) ⟨Nat.le_of_ble_eq_true rfl, Nat.le_of_ble_eq_true rfl⟩) ⟨xB_blind, va_recv hK hP (ci := 6) rfl (xw_is (by decide) fg4_n0), fun U hU hW => ⟨rfl, by rw [hU]; exact hP, va_K.moved hW.alike hK, va_Nw.warmM hW hN⟩⟩ rfl rfl hl.1 rfl (lv_room (Nat.le_of_ble_eq_true rfl)) dX6_takesOff_191 ⟨Nat.le_of_ble_eq_true rfl, Nat.le_of_ble_eq_true rfl⟩) hS (fun _ _ h => h) (fun _ h => h) (fun g6 tZ H locs ht hvm hwg6 hB hzZ hkZ hS => ?_)
      obtain ⟨hP, -⟩ := hB
      rw [ht] at hP
      obtain ⟨fg6_n0, hcg6⟩ := hwg6
      have fg6_k0 : g6 (71) = .inl (cJ, 169, .inr (.inl (fA))) := (hcg6 (71) (by decide)).trans fg4_k0
      have fg6_k1 : g6 (72) = .inl (cJ, 169, .inr (.inl (fB))) := (hcg6 (72) (by decide)).trans fg4_k1
      have fg6_k2 : g6 (73) = .inl (cJ, 13, .inr (.inl (frn))) := (hcg6 (73) (by decide)).trans fg4_k2
      have fg6_k3 : g6 (74) = .inl (cJ, 13, .inr (.inl (frd))) := (hcg6 (74) (by decide)).trans fg4_k3
      have hfrg6 : ∀ j : Nat, j ≠ 62 → j ≠ 71 → j ≠ 72 → j ≠ 73 → j ≠ 74 → g6 j = g j := fun j h0 h1 h2 h3 h4 => (hcg6 j h0).trans (hfrg4 j h0 h1 h2 h3 h4)
      rw [show (mx i0 ns) + ((-(mx i0 k0)) * (mx k0 ns)) = mx i0 ns - mx i0 k0 * mx k0 ns from toE _ _ _] at fg6_n0
      refine lv_aload_n hx hb dX6_takesOff_194 rfl (lv_at hl 0 rfl) ?_
      refine xw_get hx hb hts hin6 hown hK hP (by decide) fg6_n0 rfl 18 (by decide) hf52 rfl rfl dX6_takesOff_195 ?_
      refine lv_iload_n hx hb dX6_takesOff_198 rfl (lv_at hl 1 rfl) ?_
      refine lv_aload_n hx hb dX6_takesOff_199 rfl (lv_at hl 0 rfl) ?_
      refine xw_get hx hb hts hin6 hown hK hP (by decide) fg6_n0 rfl 9 (by decide) hf106 rfl rfl dX6_takesOff_200 ?_
      refine xw_last hx hb hK hP hD hS (by decide) 1 fg6_k2 rfl (by omega) (by decide) dX6_takesOff_203 (fun g8 H locs eg8 hP hS => ?_)
      have fg8_0 : g8 (62) = .inr (6, [.int (nI (q)), .int (nI (Wt)), .ref (ad (63)), .ref (ad (64)), .ref (ad (65)), .ref (ad (66)), .int (nI (T)), .long (tp), .long (bt), .long (lZ ((mx i0 ns - mx i0 k0 * mx k0 ns).num)), .long (lZ (((mx i0 ns - mx i0 k0 * mx k0 ns).den : Int))), .int (nI (ns)), .ref (ad (67)), .ref (ad (68)), .ref (ad (69)), .ref (ad (70)), .ref (ad (71)), .ref (ad (72)), .ref (ad (73)), .ref (ad (74)), .ref (ad (75)), .ref (ad (76)), .ref (ad (77)), .ref (ad (78)), .ref (ad (79)), .ref (ad (80))]) := (congrFun eg8 (62)).trans ((va_up_ne _ _ (by decide)).trans fg6_n0)
      have fg8_1 : g8 (71) = .inl (cJ, 169, .inr (.inl (fA))) := (congrFun eg8 (71)).trans ((va_up_ne _ _ (by decide)).trans fg6_k0)
      have fg8_2 : g8 (72) = .inl (cJ, 169, .inr (.inl (fB))) := (congrFun eg8 (72)).trans ((va_up_ne _ _ (by decide)).trans fg6_k1)
      have fg8_3 : g8 (74) = .inl (cJ, 13, .inr (.inl (frd))) := (congrFun eg8 (74)).trans ((va_up_ne _ _ (by decide)).trans fg6_k3)
      have fg8_w : g8 (73) = .inl (cJ, 13, .inr (.inl (vp_updL (frn) (i0) (lZ ((mx i0 ns - mx i0 k0 * mx k0 ns).num))))) := (congrFun eg8 (73)).trans (va_up_self _ _ _)
      have hfrg8 : ∀ j : Nat, j ≠ 62 → j ≠ 71 → j ≠ 72 → j ≠ 73 → j ≠ 74 → g8 j = g j := fun j h0 h1 h2 h3 h4 => (congrFun eg8 j).trans ((va_up_ne _ _ h3).trans (hfrg6 j h0 h1 h2 h3 h4))
      refine lv_aload_n hx hb dX6_takesOff_204 rfl (lv_at hl 0 rfl) ?_
      refine xw_get hx hb hts hin6 hown hK hP (by decide) fg8_0 rfl 19 (by decide) hf55 rfl rfl dX6_takesOff_205 ?_
      refine lv_iload_n hx hb dX6_takesOff_208 rfl (lv_at hl 1 rfl) ?_
      refine lv_aload_n hx hb dX6_takesOff_209 rfl (lv_at hl 0 rfl) ?_
      refine xw_get hx hb hts hin6 hown hK hP (by decide) fg8_0 rfl 10 (by decide) hf109 rfl rfl dX6_takesOff_210 ?_
      refine xw_last hx hb hK hP hD hS (by decide) 1 fg8_3 rfl (by omega) (by decide) dX6_takesOff_213 (fun g9 H locs eg9 hP hS => ?_)
      have fg9_0 : g9 (62) = .inr (6, [.int (nI (q)), .int (nI (Wt)), .ref (ad (63)), .ref (ad (64)), .ref (ad (65)), .ref (ad (66)), .int (nI (T)), .long (tp), .long (bt), .long (lZ ((mx i0 ns - mx i0 k0 * mx k0 ns).num)), .long (lZ (((mx i0 ns - mx i0 k0 * mx k0 ns).den : Int))), .int (nI (ns)), .ref (ad (67)), .ref (ad (68)), .ref (ad (69)), .ref (ad (70)), .ref (ad (71)), .ref (ad (72)), .ref (ad (73)), .ref (ad (74)), .ref (ad (75)), .ref (ad (76)), .ref (ad (77)), .ref (ad (78)), .ref (ad (79)), .ref (ad (80))]) := (congrFun eg9 (62)).trans ((va_up_ne _ _ (by decide)).trans fg8_0)
      have fg9_1 : g9 (71) = .inl (cJ, 169, .inr (.inl (fA))) := (congrFun eg9 (71)).trans ((va_up_ne _ _ (by decide)).trans fg8_1)
      have fg9_2 : g9 (72) = .inl (cJ, 169, .inr (.inl (fB))) := (congrFun eg9 (72)).trans ((va_up_ne _ _ (by decide)).trans fg8_2)
      have fg9_3 : g9 (73) = .inl (cJ, 13, .inr (.inl (vp_updL (frn) (i0) (lZ ((mx i0 ns - mx i0 k0 * mx k0 ns).num))))) := (congrFun eg9 (73)).trans ((va_up_ne _ _ (by decide)).trans fg8_w)
      have fg9_w : g9 (74) = .inl (cJ, 13, .inr (.inl (vp_updL (frd) (i0) (lZ (((mx i0 ns - mx i0 k0 * mx k0 ns).den : Int)))))) := (congrFun eg9 (74)).trans (va_up_self _ _ _)
      have hfrg9 : ∀ j : Nat, j ≠ 62 → j ≠ 71 → j ≠ 72 → j ≠ 73 → j ≠ 74 → g9 j = g j := fun j h0 h1 h2 h3 h4 => (congrFun eg9 j).trans ((va_up_ne _ _ h4).trans (hfrg8 j h0 h1 h2 h3 h4))
      exact W.vret hx hb hr (fun tZ ht hW => ⟨⟨g9, rfl, ⟨_, _, _, _, _, _, (fun r x hr hx => if e : r = i0 then by subst e; exact (if h : k0 ≤ x then by rw [mtO_y h (by omega)]; exact hMd x h (by omega) else by rw [mtO_n (Or.inr (by omega))]; exact ⟨(hMo _ (by omega)).1.trans (hA0 r x hr hx).1, (hMo _ (by omega)).2.trans (hA0 r x hr hx).2⟩) else by rw [mtO_n (Or.inl e)]; exact ⟨(hMo _ (by omega)).1.trans (hA0 r x hr hx).1, (hMo _ (by omega)).2.trans (hA0 r x hr hx).2⟩), (fun r hr => if e : r = i0 then by rw [e, pk_uLs, pk_uLs, mtO_y (by omega) (by omega)]; exact ⟨rfl, rfl⟩ else by rw [pk_uLn e, pk_uLn e, mtO_n (Or.inl e)]; exact hB0 r hr), fg9_0, fg9_1, fg9_2, fg9_3, fg9_w, hfrg9⟩, by rw [ht]; exact hP, va_K.moved hW.alike hK, va_Nw.warmM hW hN⟩, hS.F ht⟩) hS.2.2 dX6_takesOff_214
    · refine lv_aload_n hx hb dX6_takesOff_44 rfl (lv_at hl 0 rfl) ?_
      refine lv_lload_n hx hb dX6_takesOff_45 rfl (lv_at hl 3 rfl) ?_
      refine xl_neg hx hb dX6_takesOff_46 ?_
      refine xtopl (y := lZ ((-(mx i0 k0)).num)) rfl ?_
      refine lv_lload hx hb dX6_takesOff_47 (lv_at hl 4 rfl) ?_
      refine lv_aload_n hx hb dX6_takesOff_49 rfl (lv_at hl 0 rfl) ?_
      refine xw_get hx hb hts hin6 hown hK hP (by decide) fo62 rfl 16 (by decide) hf45 rfl rfl dX6_takesOff_50 ?_
      refine lv_bipush (v := nI (13)) hx hb dX6_takesOff_53 (by decide) ?_
      refine lv_iload_n hx hb dX6_takesOff_55 rfl (lv_at hl 2 rfl) ?_
      refine xi_mul hx hb dX6_takesOff_56 ?_
      refine lv_iload hx hb dX6_takesOff_57 (lv_at hl 5 rfl) ?_
      refine xi_add hx hb dX6_takesOff_59 ?_
      refine xw_lald hx hb hK hP (by decide) 1 fa71 rfl (by omega) (by decide) dX6_takesOff_60 ?_
      rw [((hMo (13 * k0 + j) (by omega)).1.trans (hA0 k0 j (by omega) (by omega)).1)]
      refine lv_aload_n hx hb dX6_takesOff_61 rfl (lv_at hl 0 rfl) ?_
      refine xw_get hx hb hts hin6 hown hK hP (by decide) fo62 rfl 17 (by decide) hf49 rfl rfl dX6_takesOff_62 ?_
      refine lv_bipush (v := nI (13)) hx hb dX6_takesOff_65 (by decide) ?_
      refine lv_iload_n hx hb dX6_takesOff_67 rfl (lv_at hl 2 rfl) ?_
      refine xi_mul hx hb dX6_takesOff_68 ?_
      refine lv_iload hx hb dX6_takesOff_69 (lv_at hl 5 rfl) ?_
      refine xi_add hx hb dX6_takesOff_71 ?_
      refine xw_lald hx hb hK hP (by decide) 1 fa72 rfl (by omega) (by decide) dX6_takesOff_72 ?_
      rw [((hMo (13 * k0 + j) (by omega)).2.trans (hA0 k0 j (by omega) (by omega)).2)]
      refine va_callv (va_runV (As := [.long (lZ ((-(mx i0 k0)).num)), .long (lZ (((mx i0 k0).den : Int))), .long (lZ ((mx k0 j).num)), .long (lZ (((mx k0 j).den : Int)))]) (rest := []) ⟨hx, hb, hml, hown, hts⟩ (mX6_times l hD (w := w) (ln := ln) (t := t) (u := u) (x := -(mx i0 k0)) (y := mx k0 j) fo62 rfl rfl rfl rfl (fitR_neg (hfi k0 (by omega) (by omega))) (hfk j (by omega) (by omega)) (hfp j (by omega) (by omega))) (cwV 4 hts gX6_takesOff_X6_times rfl rfl rfl (by decide +kernel) ⟨Nat.le_of_ble_eq_true rfl, Nat.le_of_ble_eq_true rfl⟩) ⟨xB_blind, va_recv hK hP (ci := 6) rfl (xw_is (by decide) fo62), fun U hU hW => ⟨rfl, by rw [hU]; exact hP, va_K.moved hW.alike hK, va_Nw.warmM hW hN⟩⟩ rfl rfl hl.1 rfl (lv_room (Nat.le_of_ble_eq_true rfl)) dX6_takesOff_73 ⟨Nat.le_of_ble_eq_true rfl, Nat.le_of_ble_eq_true rfl⟩) hS (fun _ _ h => h) (fun _ h => h) (fun g10 tZ H locs ht hvm hwg10 hB hzZ hkZ hS => ?_)
      obtain ⟨hP, -⟩ := hB
      rw [ht] at hP
      obtain ⟨fg10_n0, hcg10⟩ := hwg10
      have fg10_k0 : g10 (71) = .inl (cJ, 169, .inr (.inl (fA))) := (hcg10 (71) (by decide)).trans fa71
      have fg10_k1 : g10 (72) = .inl (cJ, 169, .inr (.inl (fB))) := (hcg10 (72) (by decide)).trans fa72
      have fg10_k2 : g10 (73) = .inl (cJ, 13, .inr (.inl (frn))) := (hcg10 (73) (by decide)).trans fa73
      have fg10_k3 : g10 (74) = .inl (cJ, 13, .inr (.inl (frd))) := (hcg10 (74) (by decide)).trans fa74
      have hfrg10 : ∀ j : Nat, j ≠ 62 → j ≠ 71 → j ≠ 72 → j ≠ 73 → j ≠ 74 → g10 j = g j := fun j h0 h1 h2 h3 h4 => (hcg10 j h0).trans (hfrgl35_2 j h0 h1 h2 h3 h4)
      refine lv_aload_n hx hb dX6_takesOff_76 rfl (lv_at hl 0 rfl) ?_
      refine lv_aload_n hx hb dX6_takesOff_77 rfl (lv_at hl 0 rfl) ?_
      refine xw_get hx hb hts hin6 hown hK hP (by decide) fg10_n0 rfl 16 (by decide) hf45 rfl rfl dX6_takesOff_78 ?_
      refine lv_bipush (v := nI (13)) hx hb dX6_takesOff_81 (by decide) ?_
      refine lv_iload_n hx hb dX6_takesOff_83 rfl (lv_at hl 1 rfl) ?_
      refine xi_mul hx hb dX6_takesOff_84 ?_
      refine lv_iload hx hb dX6_takesOff_85 (lv_at hl 5 rfl) ?_
      refine xi_add hx hb dX6_takesOff_87 ?_
      refine xw_lald hx hb hK hP (by decide) 1 fg10_k0 rfl (by omega) (by decide) dX6_takesOff_88 ?_
      rw [(hMr j (by omega) (by omega)).1]
      refine lv_aload_n hx hb dX6_takesOff_89 rfl (lv_at hl 0 rfl) ?_
      refine xw_get hx hb hts hin6 hown hK hP (by decide) fg10_n0 rfl 17 (by decide) hf49 rfl rfl dX6_takesOff_90 ?_
      refine lv_bipush (v := nI (13)) hx hb dX6_takesOff_93 (by decide) ?_
      refine lv_iload_n hx hb dX6_takesOff_95 rfl (lv_at hl 1 rfl) ?_
      refine xi_mul hx hb dX6_takesOff_96 ?_
      refine lv_iload hx hb dX6_takesOff_97 (lv_at hl 5 rfl) ?_
      refine xi_add hx hb dX6_takesOff_99 ?_
      refine xw_lald hx hb hK hP (by decide) 1 fg10_k1 rfl (by omega) (by decide) dX6_takesOff_100 ?_
      rw [(hMr j (by omega) (by omega)).2]
      refine lv_aload_n hx hb dX6_takesOff_101 rfl (lv_at hl 0 rfl) ?_
      refine xw_get hx hb hts hin6 hown hK hP (by decide) fg10_n0 rfl 9 (by decide) hf106 rfl rfl dX6_takesOff_102 ?_
      refine lv_aload_n hx hb dX6_takesOff_105 rfl (lv_at hl 0 rfl) ?_
      refine xw_get hx hb hts hin6 hown hK hP (by decide) fg10_n0 rfl 10 (by decide) hf109 rfl rfl dX6_takesOff_106 ?_
      refine va_callv (va_runV (As := [.long (lZ ((mx i0 j).num)), .long (lZ (((mx i0 j).den : Int))), .long (lZ (((-(mx i0 k0)) * (mx k0 j)).num)), .long (lZ ((((-(mx i0 k0)) * (mx k0 j)).den : Int)))]) (rest := []) ⟨hx, hb, hml, hown, hts⟩ (mX6_add l hD (w := w) (ln := ln) (t := t) (u := u) (x := mx i0 j) (y := (-(mx i0 k0)) * (mx k0 j)) fg10_n0 rfl rfl rfl rfl (hfi j (by omega) (by omega)) (hfp j (by omega) (by omega)) (hfa j (by omega) (by omega))) (cwV 4 hts gX6_takesOff_X6_add rfl rfl rfl (by decide +kernel) ⟨Nat.le_of_ble_eq_true rfl, Nat.le_of_ble_eq_true rfl⟩) ⟨xB_blind, va_recv hK hP (ci := 6) rfl (xw_is (by decide) fg10_n0), fun U hU hW => ⟨rfl, by rw [hU]; exact hP, va_K.moved hW.alike hK, va_Nw.warmM hW hN⟩⟩ rfl rfl hl.1 rfl (lv_room (Nat.le_of_ble_eq_true rfl)) dX6_takesOff_109 ⟨Nat.le_of_ble_eq_true rfl, Nat.le_of_ble_eq_true rfl⟩) hS (fun _ _ h => h) (fun _ h => h) (fun g12 tZ H locs ht hvm hwg12 hB hzZ hkZ hS => ?_)
      obtain ⟨hP, -⟩ := hB
      rw [ht] at hP
      obtain ⟨fg12_n0, hcg12⟩ := hwg12
      have fg12_k0 : g12 (71) = .inl (cJ, 169, .inr (.inl (fA))) := (hcg12 (71) (by decide)).trans fg10_k0
      have fg12_k1 : g12 (72) = .inl (cJ, 169, .inr (.inl (fB))) := (hcg12 (72) (by decide)).trans fg10_k1
      have fg12_k2 : g12 (73) = .inl (cJ, 13, .inr (.inl (frn))) := (hcg12 (73) (by decide)).trans fg10_k2
      have fg12_k3 : g12 (74) = .inl (cJ, 13, .inr (.inl (frd))) := (hcg12 (74) (by decide)).trans fg10_k3
      have hfrg12 : ∀ j : Nat, j ≠ 62 → j ≠ 71 → j ≠ 72 → j ≠ 73 → j ≠ 74 → g12 j = g j := fun j h0 h1 h2 h3 h4 => (hcg12 j h0).trans (hfrg10 j h0 h1 h2 h3 h4)
      rw [show (mx i0 j) + ((-(mx i0 k0)) * (mx k0 j)) = mx i0 j - mx i0 k0 * mx k0 j from toE _ _ _] at fg12_n0
      refine lv_aload_n hx hb dX6_takesOff_112 rfl (lv_at hl 0 rfl) ?_
      refine xw_get hx hb hts hin6 hown hK hP (by decide) fg12_n0 rfl 16 (by decide) hf45 rfl rfl dX6_takesOff_113 ?_
      refine lv_bipush (v := nI (13)) hx hb dX6_takesOff_116 (by decide) ?_
      refine lv_iload_n hx hb dX6_takesOff_118 rfl (lv_at hl 1 rfl) ?_
      refine xi_mul hx hb dX6_takesOff_119 ?_
      refine lv_iload hx hb dX6_takesOff_120 (lv_at hl 5 rfl) ?_
      refine xi_add hx hb dX6_takesOff_122 ?_
      refine lv_aload_n hx hb dX6_takesOff_123 rfl (lv_at hl 0 rfl) ?_
      refine xw_get hx hb hts hin6 hown hK hP (by decide) fg12_n0 rfl 9 (by decide) hf106 rfl rfl dX6_takesOff_124 ?_
      refine xw_last hx hb hK hP hD hS (by decide) 1 fg12_k0 rfl (by omega) (by decide) dX6_takesOff_127 (fun g14 H locs eg14 hP hS => ?_)
      have fg14_0 : g14 (62) = .inr (6, [.int (nI (q)), .int (nI (Wt)), .ref (ad (63)), .ref (ad (64)), .ref (ad (65)), .ref (ad (66)), .int (nI (T)), .long (tp), .long (bt), .long (lZ ((mx i0 j - mx i0 k0 * mx k0 j).num)), .long (lZ (((mx i0 j - mx i0 k0 * mx k0 j).den : Int))), .int (nI (ns)), .ref (ad (67)), .ref (ad (68)), .ref (ad (69)), .ref (ad (70)), .ref (ad (71)), .ref (ad (72)), .ref (ad (73)), .ref (ad (74)), .ref (ad (75)), .ref (ad (76)), .ref (ad (77)), .ref (ad (78)), .ref (ad (79)), .ref (ad (80))]) := (congrFun eg14 (62)).trans ((va_up_ne _ _ (by decide)).trans fg12_n0)
      have fg14_1 : g14 (72) = .inl (cJ, 169, .inr (.inl (fB))) := (congrFun eg14 (72)).trans ((va_up_ne _ _ (by decide)).trans fg12_k1)
      have fg14_2 : g14 (73) = .inl (cJ, 13, .inr (.inl (frn))) := (congrFun eg14 (73)).trans ((va_up_ne _ _ (by decide)).trans fg12_k2)
      have fg14_3 : g14 (74) = .inl (cJ, 13, .inr (.inl (frd))) := (congrFun eg14 (74)).trans ((va_up_ne _ _ (by decide)).trans fg12_k3)
      have fg14_w : g14 (71) = .inl (cJ, 169, .inr (.inl (vp_updL (fA) ((13 * i0) + j) (lZ ((mx i0 j - mx i0 k0 * mx k0 j).num))))) := (congrFun eg14 (71)).trans (va_up_self _ _ _)
      have hfrg14 : ∀ j : Nat, j ≠ 62 → j ≠ 71 → j ≠ 72 → j ≠ 73 → j ≠ 74 → g14 j = g j := fun j h0 h1 h2 h3 h4 => (congrFun eg14 j).trans ((va_up_ne _ _ h1).trans (hfrg12 j h0 h1 h2 h3 h4))
      refine lv_aload_n hx hb dX6_takesOff_128 rfl (lv_at hl 0 rfl) ?_
      refine xw_get hx hb hts hin6 hown hK hP (by decide) fg14_0 rfl 17 (by decide) hf49 rfl rfl dX6_takesOff_129 ?_
      refine lv_bipush (v := nI (13)) hx hb dX6_takesOff_132 (by decide) ?_
      refine lv_iload_n hx hb dX6_takesOff_134 rfl (lv_at hl 1 rfl) ?_
      refine xi_mul hx hb dX6_takesOff_135 ?_
      refine lv_iload hx hb dX6_takesOff_136 (lv_at hl 5 rfl) ?_
      refine xi_add hx hb dX6_takesOff_138 ?_
      refine lv_aload_n hx hb dX6_takesOff_139 rfl (lv_at hl 0 rfl) ?_
      refine xw_get hx hb hts hin6 hown hK hP (by decide) fg14_0 rfl 10 (by decide) hf109 rfl rfl dX6_takesOff_140 ?_
      refine xw_last hx hb hK hP hD hS (by decide) 1 fg14_1 rfl (by omega) (by decide) dX6_takesOff_143 (fun g15 H locs eg15 hP hS => ?_)
      have fg15_0 : g15 (62) = .inr (6, [.int (nI (q)), .int (nI (Wt)), .ref (ad (63)), .ref (ad (64)), .ref (ad (65)), .ref (ad (66)), .int (nI (T)), .long (tp), .long (bt), .long (lZ ((mx i0 j - mx i0 k0 * mx k0 j).num)), .long (lZ (((mx i0 j - mx i0 k0 * mx k0 j).den : Int))), .int (nI (ns)), .ref (ad (67)), .ref (ad (68)), .ref (ad (69)), .ref (ad (70)), .ref (ad (71)), .ref (ad (72)), .ref (ad (73)), .ref (ad (74)), .ref (ad (75)), .ref (ad (76)), .ref (ad (77)), .ref (ad (78)), .ref (ad (79)), .ref (ad (80))]) := (congrFun eg15 (62)).trans ((va_up_ne _ _ (by decide)).trans fg14_0)
      have fg15_1 : g15 (73) = .inl (cJ, 13, .inr (.inl (frn))) := (congrFun eg15 (73)).trans ((va_up_ne _ _ (by decide)).trans fg14_2)
      have fg15_2 : g15 (74) = .inl (cJ, 13, .inr (.inl (frd))) := (congrFun eg15 (74)).trans ((va_up_ne _ _ (by decide)).trans fg14_3)
      have fg15_3 : g15 (71) = .inl (cJ, 169, .inr (.inl (vp_updL (fA) ((13 * i0) + j) (lZ ((mx i0 j - mx i0 k0 * mx k0 j).num))))) := (congrFun eg15 (71)).trans ((va_up_ne _ _ (by decide)).trans fg14_w)
      have fg15_w : g15 (72) = .inl (cJ, 169, .inr (.inl (vp_updL (fB) ((13 * i0) + j) (lZ (((mx i0 j - mx i0 k0 * mx k0 j).den : Int)))))) := (congrFun eg15 (72)).trans (va_up_self _ _ _)
      have hfrg15 : ∀ j : Nat, j ≠ 62 → j ≠ 71 → j ≠ 72 → j ≠ 73 → j ≠ 74 → g15 j = g j := fun j h0 h1 h2 h3 h4 => (congrFun eg15 j).trans ((va_up_ne _ _ h2).trans (hfrg14 j h0 h1 h2 h3 h4))
      refine lv_iinc (v := nI (j + 1)) (lv' := [(7, .int (nI (j + 1))), (0, .ref (ad (62))), (1, .int (nI (i0))), (2, .int (nI (k0))), (3, .long (lZ ((mx i0 k0).num))), (5, .long (lZ (((mx i0 k0).den : Int))))]) hx hb dX6_takesOff_144 hl (k := 5) rfl (nI_add (j) 1) (by decide) rfl (fun ls hl => ?_)
      refine lv_goto (tgt := 35) hx hb dX6_takesOff_147 (by decide) ?_
      exact ih35 (j + 1, vp_updL (fA) ((13 * i0) + j) (lZ ((mx i0 j - mx i0 k0 * mx k0 j).num)), vp_updL (fB) ((13 * i0) + j) (lZ (((mx i0 j - mx i0 k0 * mx k0 j).den : Int))), lZ ((mx i0 j - mx i0 k0 * mx k0 j).num), lZ (((mx i0 j - mx i0 k0 * mx k0 j).den : Int))) g15 H locs ls ⟨(by omega), (fun x h1 h2 => if e : x = j then by rw [e, pk_uLs, pk_uLs]; exact ⟨rfl, rfl⟩ else by rw [pk_uLn (by omega), pk_uLn (by omega)]; exact hMd x h1 (by omega)), (fun x h1 h2 => by rw [pk_uLn (by omega), pk_uLn (by omega)]; exact hMr x (by omega) h2), (fun x h1 => by rw [pk_uLn (by omega), pk_uLn (by omega)]; exact hMo x h1), fg15_0, fg15_3, fg15_w, fg15_1, fg15_2, hfrg15, hP, hS, (lv_sub hl [1, 2, 3, 4, 5, 0] rfl)⟩ (by first | omega | (dsimp only; omega))
  · exact W.vret hx hb hr (fun tZ ht hW => ⟨⟨g, rfl, (by have hz : mx i0 k0 = 0 := Rat.num_eq_zero.mp c27_1; rw [mtO_z hz]; exact ⟨_, _, _, _, _, _, hA0, hB0, fo62, fa71, fa72, fa73, fa74, (fun _ _ _ _ _ _ => rfl)⟩), by rw [ht]; exact hP, va_K.moved hW.alike hK, va_Nw.warmM hW hN⟩, hS.F ht⟩) hS.2.2 dX6_takesOff_31
