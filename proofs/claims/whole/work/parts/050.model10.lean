theorem trS.gb {u : Nat → Nat → Nat} {ln : Nat → Nat} {li ns : Nat} {sl sz : Nat → Nat} {R : Nat} {rw : Nat → Nat} {g : Nat} (h : trS u ln li ns sl sz R rw g) : g < ns ∨ (100 ≤ g ∧ g < 108) := by
  obtain ⟨m, -, -, ⟨h1, -⟩ | ⟨s, h1, -, h2, -⟩⟩ := h
  · exact Or.inl h1
  · exact Or.inr ⟨by omega, by omega⟩
theorem ChI.gb {q : Nat} {ln : Nat → Nat} {u : Nat → Nat → Nat} {li ns : Nat} {sl sz gof : Nat → Nat} (h : ChI q ln u li ns sl sz gof) : ∀ a x, a < ns → x < q → gof (4 * a + x) < ns ∨ (100 ≤ gof (4 * a + x) ∧ gof (4 * a + x) < 108) := fun a x h1 h2 => (h.2.2.2.2.1 a x h1 h2).gb
/-- the chain's equations, with what is asked in the last column -/
def mkA (Wt : Nat) (w gof : Nat → Nat) (q ns : Nat) (r : Nat → Rat) : Nat → Nat → Rat := fun i j => if j < ns then ((mtZ Wt w gof i j q : Int) : Rat) else r i
theorem mkA_l {Wt : Nat} {w gof : Nat → Nat} {q ns : Nat} {r : Nat → Rat} {i j : Nat} (h : j < ns) : mkA Wt w gof q ns r i j = ((mtZ Wt w gof i j q : Int) : Rat) := if_pos h
theorem mkA_r {Wt : Nat} {w gof : Nat → Nat} {q ns : Nat} {r : Nat → Rat} {i : Nat} : mkA Wt w gof q ns r i ns = r i := if_neg (Nat.lt_irrefl ns)
theorem mkA_A {Wt : Nat} {w gof : Nat → Nat} {q ns : Nat} {r : Nat → Rat} {fA fB : Nat → Int64} (h : ∀ x y, x < ns → y < ns → fA (13 * x + y) = lZ (mtZ Wt w gof x y q) ∧ fB (13 * x + y) = lZ 1) : mA fA fB ns (mkA Wt w gof q ns r) := fun i j hi hj => by
  rw [mkA_l hj]
  exact h i j hi hj
theorem mkA_B {Wt : Nat} {w gof : Nat → Nat} {q ns : Nat} {r : Nat → Rat} {fC fD : Nat → Int64} (h : ∀ x, x < ns → fC x = lZ (r x).num ∧ fD x = lZ ((r x).den : Int)) : mB fC fD ns (mkA Wt w gof q ns r) := fun i hi => by
  rw [mkA_r]
  exact h i hi
/-- the weights of the letters below c that end in WORD s -/
def hitZ (w gof : Nat → Nat) (i s : Nat) : Nat → Int
  | 0 => 0
  | c + 1 => hitZ w gof i s c + (if gof (4 * i + c) = 100 + s then (w c : Int) else 0)
theorem hitZ_b {w gof : Nat → Nat} {i s : Nat} (hw : ∀ j, j < 4 → w j ≤ 4) : ∀ {c : Nat}, c ≤ 4 → 0 ≤ hitZ w gof i s c ∧ hitZ w gof i s c ≤ 4 * c
  | 0, _ => ⟨Int.le_refl 0, Int.le_refl 0⟩
  | c + 1, h => by
    have h1 := hitZ_b (gof := gof) (i := i) (s := s) hw (c := c) (by omega)
    have h2 := hw c (by omega)
    show 0 ≤ hitZ w gof i s c + (if gof (4 * i + c) = 100 + s then (w c : Int) else 0) ∧ hitZ w gof i s c + (if gof (4 * i + c) = 100 + s then (w c : Int) else 0) ≤ 4 * ((c + 1 : Nat) : Int)
    split <;> omega
theorem fitR_inv {x : Rat} (h : 0 < x) (hf : fitR x) : fitR (x⁻¹) := by
  obtain ⟨h1, h2⟩ := inv_nd h
  obtain ⟨h3, h4, h5⟩ := hf
  have h6 := x.den_pos
  refine ⟨by omega, by omega, by omega⟩
set_option maxHeartbeats 4000000 in
set_option maxRecDepth 100000 in
/-- solves -/
theorem mX6_solves (l : Launch) {D : va_G} {cI cJ cZ cW : ClassId} {ad : Nat → Nat} {A : Nat → Prop} (hD : ∀ g, va_D A (xw 81 ad g)) {g : Nat → va_E} {q Wt T : Nat} {w ln t : Nat → Nat} {u : Nat → Nat → Nat} {tp bt : Int64} {ns : Nat} {A0 : Nat → Nat → Rat} {nu de : Int64} {fan : Nat → Int64} {fad : Nat → Int64} {frn : Nat → Int64} {frd : Nat → Int64}  (fo62 : g (62) = .inr (6, [.int (nI (q)), .int (nI (Wt)), .ref (ad (63)), .ref (ad (64)), .ref (ad (65)), .ref (ad (66)), .int (nI (T)), .long (tp), .long (bt), .long (nu), .long (de), .int (nI (ns)), .ref (ad (67)), .ref (ad (68)), .ref (ad (69)), .ref (ad (70)), .ref (ad (71)), .ref (ad (72)), .ref (ad (73)), .ref (ad (74)), .ref (ad (75)), .ref (ad (76)), .ref (ad (77)), .ref (ad (78)), .ref (ad (79)), .ref (ad (80))])) (fa71 : g (71) = .inl (cJ, 169, .inr (.inl (fan)))) (fa72 : g (72) = .inl (cJ, 169, .inr (.inl (fad)))) (fa73 : g (73) = .inl (cJ, 13, .inr (.inl (frn)))) (fa74 : g (74) = .inl (cJ, 13, .inr (.inl (frd)))) (hA0 : mA fan fad ns A0) (hB0 : mB frn frd ns A0) (hns : ns ≤ 13) (hF : gjFit A0 ns) : Met l yX6_solves wsX6_solves ({ frames := 4, cells := 0, slots := 0, locals := 114 }) (va_Pc [.ref (ad (62))] (xB D (xT cI cJ cZ cW) ad g)) (va_Qv (fun g2 => ∃ (fA fB fC fD : Nat → Int64) (nx dx : Int64), mB fC fD ns (gj A0 ns) ∧ g2 62 = .inr (6, [.int (nI (q)), .int (nI (Wt)), .ref (ad (63)), .ref (ad (64)), .ref (ad (65)), .ref (ad (66)), .int (nI (T)), .long (tp), .long (bt), .long (nx), .long (dx), .int (nI (ns)), .ref (ad (67)), .ref (ad (68)), .ref (ad (69)), .ref (ad (70)), .ref (ad (71)), .ref (ad (72)), .ref (ad (73)), .ref (ad (74)), .ref (ad (75)), .ref (ad (76)), .ref (ad (77)), .ref (ad (78)), .ref (ad (79)), .ref (ad (80))]) ∧ g2 71 = .inl (cJ, 169, .inr (.inl (fA))) ∧ g2 72 = .inl (cJ, 169, .inr (.inl (fB))) ∧ g2 73 = .inl (cJ, 13, .inr (.inl (fC))) ∧ g2 74 = .inl (cJ, 13, .inr (.inl (fD))) ∧ ∀ j : Nat, j ≠ 62 → j ≠ 71 → j ≠ 72 → j ≠ 73 → j ≠ 74 → g2 j = g j) (xB D (xT cI cJ cZ cW) ad) A) 0 0 A := by
  refine Met.ofW (cc := cX6_solves) (maxL := 7) (ret := none) (by decide) rfl ?_
  intro p e s m args below meth c s₁ B hml hv
  obtain ⟨rfl, hP, hK, hN⟩ := hv
  have hx := B.exec
  have hb := B.bytes
  have hr := B.returns
  have hts := atoms_spec (ws := wsX6_solves) B.pre
  have hown : s.vm.findClass RX6 = some m.cls := findClass_of_methodNamed B.named
  have hlocks := B.notSynchronized
  have hS : va_S A s.heap s.heap [] := va_S.rf
  have hin6 : ∀ w ∈ wsX60, w ∈ wsX6_solves := by decide +kernel
  have hf45 := hts (.fieldLink RX6 45 "LettersByLotModel" "an" "[J") (by decide +kernel)
  have hf49 := hts (.fieldLink RX6 49 "LettersByLotModel" "ad" "[J") (by decide +kernel)
  have hf52 := hts (.fieldLink RX6 52 "LettersByLotModel" "rn" "[J") (by decide +kernel)
  have hf55 := hts (.fieldLink RX6 55 "LettersByLotModel" "rd" "[J") (by decide +kernel)
  have hf106 := hts (.fieldLink RX6 106 "LettersByLotModel" "num" "J") (by decide +kernel)
  have hf109 := hts (.fieldLink RX6 109 "LettersByLotModel" "den" "J") (by decide +kernel)
  have hf130 := hts (.fieldLink RX6 130 "LettersByLotModel" "states" "I") (by decide +kernel)
  have hl := lv_entry ([.ref (ad (62))]) (n := 7) (Nat.le_of_ble_eq_true rfl)
  rw [lg_entry_eq]
  generalize (lg_sl ([.ref (ad (62))]) ++ List.replicate (7 - (lg_sl ([.ref (ad (62))])).length) Slot.unset).toArray = ls at hl ⊢
  have hl : lv_has ls 7 [(0, .ref (ad (62)))] := hl
  refine lv_iconst (v := nI (0)) hx hb dX6_solves_0 (by decide) ?_
  refine lv_istore_n (lv' := [(1, .int (nI (0))), (0, .ref (ad (62)))]) hx hb dX6_solves_1 rfl hl (by decide) rfl (fun ls hl => ?_)
  refine xloopW (G := fun H locs fr => W p l e _ s m _ below meth c H locs _ _ _ fr) (σ := Nat × (Nat → Int64) × (Nat → Int64) × (Nat → Int64) × (Nat → Int64) × Int64 × Int64) (fun (k, fA, fB, fC, fD, nx, dx) ls => F0 m 2 ls []) (fun (k, fA, fB, fC, fD, nx, dx) gl2_1 H locs ls => (k ≤ ns) ∧ (mA fA fB ns (gj A0 k)) ∧ (mB fC fD ns (gj A0 k)) ∧ gl2_1 (62) = .inr (6, [.int (nI (q)), .int (nI (Wt)), .ref (ad (63)), .ref (ad (64)), .ref (ad (65)), .ref (ad (66)), .int (nI (T)), .long (tp), .long (bt), .long (nx), .long (dx), .int (nI (ns)), .ref (ad (67)), .ref (ad (68)), .ref (ad (69)), .ref (ad (70)), .ref (ad (71)), .ref (ad (72)), .ref (ad (73)), .ref (ad (74)), .ref (ad (75)), .ref (ad (76)), .ref (ad (77)), .ref (ad (78)), .ref (ad (79)), .ref (ad (80))]) ∧ gl2_1 (71) = .inl (cJ, 169, .inr (.inl (fA))) ∧ gl2_1 (72) = .inl (cJ, 169, .inr (.inl (fB))) ∧ gl2_1 (73) = .inl (cJ, 13, .inr (.inl (fC))) ∧ gl2_1 (74) = .inl (cJ, 13, .inr (.inl (fD))) ∧ (∀ j : Nat, j ≠ 62 → j ≠ 71 → j ≠ 72 → j ≠ 73 → j ≠ 74 → gl2_1 j = g j) ∧ va_P D vwCl (xw 81 ad gl2_1) H ∧ va_S A s.heap H locs ∧ lv_has ls 7 [(0, .ref (ad (62))), (1, .int (nI (k)))]) (fun (k, fA, fB, fC, fD, nx, dx) => ns - k) ?_ (0, fan, fad, frn, frd, nu, de) g s.heap [] ls ⟨(Nat.zero_le _), hA0, hB0, fo62, fa71, fa72, fa73, fa74, (fun _ _ _ _ _ _ => rfl), hP, hS, (lv_sub hl [1, 0] rfl)⟩
  rintro ⟨k, fA, fB, fC, fD, nx, dx⟩ gl2_1 H locs ls ⟨hk, hMA, hMB, fo62, fa71, fa72, fa73, fa74, hfrgl2_1, hP, hS, hl⟩ ih2
  refine lv_iload_n hx hb dX6_solves_2 rfl (lv_at hl 1 rfl) ?_
  refine lv_aload_n hx hb dX6_solves_3 rfl (lv_at hl 0 rfl) ?_
  refine xw_get hx hb hts hin6 hown hK hP (by decide) fo62 rfl 11 (by decide) hf130 rfl rfl dX6_solves_4 ?_
  refine xi_icmp_ge (tgt := 192) hx hb (by omega) (by omega) dX6_solves_7 (by decide) (fun c7_2 => ?_) (fun c7_2 => ?_)
  · exact W.vret hx hb hr (fun tZ ht hW => ⟨⟨gl2_1, rfl, ⟨fA, fB, fC, fD, nx, dx, (hMB.to (fun r _ => by rw [show k = ns by omega])), fo62, fa71, fa72, fa73, fa74, hfrgl2_1⟩, by rw [ht]; exact hP, va_K.moved hW.alike hK, va_Nw.warmM hW hN⟩, hS.F ht⟩) hS.2.2 dX6_solves_192
  · obtain ⟨hpv, hfr, hfq, hfx⟩ := hF.1 k (by omega)
    refine lv_aload_n hx hb dX6_solves_10 rfl (lv_at hl 0 rfl) ?_
    refine xw_get hx hb hts hin6 hown hK hP (by decide) fo62 rfl 16 (by decide) hf45 rfl rfl dX6_solves_11 ?_
    refine lv_bipush (v := nI (13)) hx hb dX6_solves_14 (by decide) ?_
    refine lv_iload_n hx hb dX6_solves_16 rfl (lv_at hl 1 rfl) ?_
    refine xi_mul hx hb dX6_solves_17 ?_
    refine lv_iload_n hx hb dX6_solves_18 rfl (lv_at hl 1 rfl) ?_
    refine xi_add hx hb dX6_solves_19 ?_
    refine xw_lald hx hb hK hP (by decide) 1 fa71 rfl (by omega) (by decide) dX6_solves_20 ?_
    rw [(hMA k k (by omega) (by omega)).1]
    refine lv_lstore_n (lv' := [(2, .long (lZ ((gj A0 k k k).num))), (0, .ref (ad (62))), (1, .int (nI (k)))]) hx hb dX6_solves_21 rfl hl (by decide) rfl (fun ls hl => ?_)
    refine lv_aload_n hx hb dX6_solves_22 rfl (lv_at hl 1 rfl) ?_
    refine xw_get hx hb hts hin6 hown hK hP (by decide) fo62 rfl 17 (by decide) hf49 rfl rfl dX6_solves_23 ?_
    refine lv_bipush (v := nI (13)) hx hb dX6_solves_26 (by decide) ?_
    refine lv_iload_n hx hb dX6_solves_28 rfl (lv_at hl 2 rfl) ?_
    refine xi_mul hx hb dX6_solves_29 ?_
    refine lv_iload_n hx hb dX6_solves_30 rfl (lv_at hl 2 rfl) ?_
    refine xi_add hx hb dX6_solves_31 ?_
    refine xw_lald hx hb hK hP (by decide) 1 fa72 rfl (by omega) (by decide) dX6_solves_32 ?_
    rw [(hMA k k (by omega) (by omega)).2]
    refine lv_lstore (lv' := [(4, .long (lZ (((gj A0 k k k).den : Int)))), (2, .long (lZ ((gj A0 k k k).num))), (0, .ref (ad (62))), (1, .int (nI (k)))]) hx hb dX6_solves_33 hl (by decide) rfl (fun ls hl => ?_)
    refine lv_iload_n hx hb dX6_solves_35 rfl (lv_at hl 3 rfl) ?_
    refine lv_istore (lv' := [(6, .int (nI (k))), (4, .long (lZ (((gj A0 k k k).den : Int)))), (2, .long (lZ ((gj A0 k k k).num))), (0, .ref (ad (62))), (1, .int (nI (k)))]) hx hb dX6_solves_36 hl (by decide) rfl (fun ls hl => ?_)
    refine xloopW (G := fun H locs fr => W p l e _ s m _ below meth c H locs _ _ _ fr) (σ := Nat × (Nat → Int64) × (Nat → Int64) × Int64 × Int64) (fun (j, fP, fQ, nx, dx) ls => F0 m 38 ls []) (fun (j, fP, fQ, nx, dx) gl38_3 H locs ls => (k ≤ j ∧ j ≤ ns) ∧ (∀ x, k ≤ x → x < j → fP (13 * k + x) = lZ ((gj A0 k k x / gj A0 k k k).num) ∧ fQ (13 * k + x) = lZ (((gj A0 k k x / gj A0 k k k).den : Int))) ∧ (∀ x, j ≤ x → x < ns → fP (13 * k + x) = lZ ((gj A0 k k x).num) ∧ fQ (13 * k + x) = lZ (((gj A0 k k x).den : Int))) ∧ (∀ x, (x < 13 * k + k ∨ 13 * k + ns ≤ x) → fP x = fA x ∧ fQ x = fB x) ∧ gl38_3 (62) = .inr (6, [.int (nI (q)), .int (nI (Wt)), .ref (ad (63)), .ref (ad (64)), .ref (ad (65)), .ref (ad (66)), .int (nI (T)), .long (tp), .long (bt), .long (nx), .long (dx), .int (nI (ns)), .ref (ad (67)), .ref (ad (68)), .ref (ad (69)), .ref (ad (70)), .ref (ad (71)), .ref (ad (72)), .ref (ad (73)), .ref (ad (74)), .ref (ad (75)), .ref (ad (76)), .ref (ad (77)), .ref (ad (78)), .ref (ad (79)), .ref (ad (80))]) ∧ gl38_3 (71) = .inl (cJ, 169, .inr (.inl (fP))) ∧ gl38_3 (72) = .inl (cJ, 169, .inr (.inl (fQ))) ∧ gl38_3 (73) = .inl (cJ, 13, .inr (.inl (fC))) ∧ gl38_3 (74) = .inl (cJ, 13, .inr (.inl (fD))) ∧ (∀ j : Nat, j ≠ 62 → j ≠ 71 → j ≠ 72 → j ≠ 73 → j ≠ 74 → gl38_3 j = g j) ∧ va_P D vwCl (xw 81 ad gl38_3) H ∧ va_S A s.heap H locs ∧ lv_has ls 7 [(0, .ref (ad (62))), (1, .int (nI (k))), (2, .long (lZ ((gj A0 k k k).num))), (4, .long (lZ (((gj A0 k k k).den : Int)))), (6, .int (nI (j)))]) (fun (j, fP, fQ, nx, dx) => ns - j) ?_ (k, fA, fB, nx, dx) gl2_1 H locs ls ⟨⟨Nat.le_refl _, by omega⟩, (fun x h1 h2 => absurd h1 (by omega)), (fun x h1 h2 => hMA k x (by omega) h2), (fun _ _ => ⟨rfl, rfl⟩), fo62, fa71, fa72, fa73, fa74, hfrgl2_1, hP, hS, (lv_sub hl [3, 4, 2, 1, 0] rfl)⟩
    rintro ⟨j, fP, fQ, nx, dx⟩ gl38_3 H locs ls ⟨hj, hPd, hPr, hPo, fo62, fa71, fa72, fa73, fa74, hfrgl38_3, hP, hS, hl⟩ ih38
    refine lv_iload hx hb dX6_solves_38 (lv_at hl 4 rfl) ?_
    refine lv_aload_n hx hb dX6_solves_40 rfl (lv_at hl 0 rfl) ?_
    refine xw_get hx hb hts hin6 hown hK hP (by decide) fo62 rfl 11 (by decide) hf130 rfl rfl dX6_solves_41 ?_
    refine xi_icmp_ge (tgt := 116) hx hb (by omega) (by omega) dX6_solves_44 (by decide) (fun c44_4 => ?_) (fun c44_4 => ?_)
    · refine lv_aload_n hx hb dX6_solves_116 rfl (lv_at hl 0 rfl) ?_
      refine lv_aload_n hx hb dX6_solves_117 rfl (lv_at hl 0 rfl) ?_
      refine xw_get hx hb hts hin6 hown hK hP (by decide) fo62 rfl 18 (by decide) hf52 rfl rfl dX6_solves_118 ?_
      refine lv_iload_n hx hb dX6_solves_121 rfl (lv_at hl 1 rfl) ?_
      refine xw_lald hx hb hK hP (by decide) 1 fa73 rfl (by omega) (by decide) dX6_solves_122 ?_
      rw [(hMB k (by omega)).1]
      refine lv_aload_n hx hb dX6_solves_123 rfl (lv_at hl 0 rfl) ?_
      refine xw_get hx hb hts hin6 hown hK hP (by decide) fo62 rfl 19 (by decide) hf55 rfl rfl dX6_solves_124 ?_
      refine lv_iload_n hx hb dX6_solves_127 rfl (lv_at hl 1 rfl) ?_
      refine xw_lald hx hb hK hP (by decide) 1 fa74 rfl (by omega) (by decide) dX6_solves_128 ?_
      rw [(hMB k (by omega)).2]
      refine lv_lload hx hb dX6_solves_129 (lv_at hl 3 rfl) ?_
      refine lv_lload_n hx hb dX6_solves_131 rfl (lv_at hl 2 rfl) ?_
      refine va_callv (va_runV (As := [.long (lZ ((gj A0 k k ns).num)), .long (lZ (((gj A0 k k ns).den : Int))), .long (lZ (((gj A0 k k k).den : Int))), .long (lZ ((gj A0 k k k).num))]) (rest := []) ⟨hx, hb, hml, hown, hts⟩ (mX6_times l hD (w := w) (ln := ln) (t := t) (u := u) (x := gj A0 k k ns) (y := (gj A0 k k k)⁻¹) fo62 rfl rfl (inv_nd hpv).1.symm (inv_nd hpv).2.symm (hfr k ns (by omega) (by omega) (by omega)) (fitR_inv hpv (hfr k k (by omega) (by omega) (by omega))) (hfq ns (by omega) (by omega))) (cwV 4 hts gX6_solves_X6_times rfl rfl rfl (by decide +kernel) ⟨Nat.le_of_ble_eq_true rfl, Nat.le_of_ble_eq_true rfl⟩) ⟨xB_blind, va_recv hK hP (ci := 6) rfl (xw_is (by decide) fo62), fun U hU hW => ⟨rfl, by rw [hU]; exact hP, va_K.moved hW.alike hK, va_Nw.warmM hW hN⟩⟩ rfl rfl hl.1 rfl (lv_room (Nat.le_of_ble_eq_true rfl)) dX6_solves_132 ⟨Nat.le_of_ble_eq_true rfl, Nat.le_of_ble_eq_true rfl⟩) hS (fun _ _ h => h) (fun _ h => h) (fun g5 tZ H locs ht hvm hwg5 hB hzZ hkZ hS => ?_)
      obtain ⟨hP, -⟩ := hB
      rw [ht] at hP
      obtain ⟨fg5_n0, hcg5⟩ := hwg5
      have fg5_k0 : g5 (71) = .inl (cJ, 169, .inr (.inl (fP))) := (hcg5 (71) (by decide)).trans fa71
      have fg5_k1 : g5 (72) = .inl (cJ, 169, .inr (.inl (fQ))) := (hcg5 (72) (by decide)).trans fa72
      have fg5_k2 : g5 (73) = .inl (cJ, 13, .inr (.inl (fC))) := (hcg5 (73) (by decide)).trans fa73
      have fg5_k3 : g5 (74) = .inl (cJ, 13, .inr (.inl (fD))) := (hcg5 (74) (by decide)).trans fa74
      have hfrg5 : ∀ j : Nat, j ≠ 62 → j ≠ 71 → j ≠ 72 → j ≠ 73 → j ≠ 74 → g5 j = g j := fun j h0 h1 h2 h3 h4 => (hcg5 j h0).trans (hfrgl38_3 j h0 h1 h2 h3 h4)
      rw [show (gj A0 k k ns) * ((gj A0 k k k)⁻¹) = gj A0 k k ns / gj A0 k k k from (Rat.div_def _ _).symm] at fg5_n0
      refine lv_aload_n hx hb dX6_solves_135 rfl (lv_at hl 0 rfl) ?_
      refine xw_get hx hb hts hin6 hown hK hP (by decide) fg5_n0 rfl 18 (by decide) hf52 rfl rfl dX6_solves_136 ?_
      refine lv_iload_n hx hb dX6_solves_139 rfl (lv_at hl 1 rfl) ?_
      refine lv_aload_n hx hb dX6_solves_140 rfl (lv_at hl 0 rfl) ?_
      refine xw_get hx hb hts hin6 hown hK hP (by decide) fg5_n0 rfl 9 (by decide) hf106 rfl rfl dX6_solves_141 ?_
      refine xw_last hx hb hK hP hD hS (by decide) 1 fg5_k2 rfl (by omega) (by decide) dX6_solves_144 (fun g7 H locs eg7 hP hS => ?_)
      have fg7_0 : g7 (62) = .inr (6, [.int (nI (q)), .int (nI (Wt)), .ref (ad (63)), .ref (ad (64)), .ref (ad (65)), .ref (ad (66)), .int (nI (T)), .long (tp), .long (bt), .long (lZ ((gj A0 k k ns / gj A0 k k k).num)), .long (lZ (((gj A0 k k ns / gj A0 k k k).den : Int))), .int (nI (ns)), .ref (ad (67)), .ref (ad (68)), .ref (ad (69)), .ref (ad (70)), .ref (ad (71)), .ref (ad (72)), .ref (ad (73)), .ref (ad (74)), .ref (ad (75)), .ref (ad (76)), .ref (ad (77)), .ref (ad (78)), .ref (ad (79)), .ref (ad (80))]) := (congrFun eg7 (62)).trans ((va_up_ne _ _ (by decide)).trans fg5_n0)
      have fg7_1 : g7 (71) = .inl (cJ, 169, .inr (.inl (fP))) := (congrFun eg7 (71)).trans ((va_up_ne _ _ (by decide)).trans fg5_k0)
      have fg7_2 : g7 (72) = .inl (cJ, 169, .inr (.inl (fQ))) := (congrFun eg7 (72)).trans ((va_up_ne _ _ (by decide)).trans fg5_k1)
      have fg7_3 : g7 (74) = .inl (cJ, 13, .inr (.inl (fD))) := (congrFun eg7 (74)).trans ((va_up_ne _ _ (by decide)).trans fg5_k3)
      have fg7_w : g7 (73) = .inl (cJ, 13, .inr (.inl (vp_updL (fC) (k) (lZ ((gj A0 k k ns / gj A0 k k k).num))))) := (congrFun eg7 (73)).trans (va_up_self _ _ _)
      have hfrg7 : ∀ j : Nat, j ≠ 62 → j ≠ 71 → j ≠ 72 → j ≠ 73 → j ≠ 74 → g7 j = g j := fun j h0 h1 h2 h3 h4 => (congrFun eg7 j).trans ((va_up_ne _ _ h3).trans (hfrg5 j h0 h1 h2 h3 h4))
      refine lv_aload_n hx hb dX6_solves_145 rfl (lv_at hl 0 rfl) ?_
      refine xw_get hx hb hts hin6 hown hK hP (by decide) fg7_0 rfl 19 (by decide) hf55 rfl rfl dX6_solves_146 ?_
      refine lv_iload_n hx hb dX6_solves_149 rfl (lv_at hl 1 rfl) ?_
      refine lv_aload_n hx hb dX6_solves_150 rfl (lv_at hl 0 rfl) ?_
      refine xw_get hx hb hts hin6 hown hK hP (by decide) fg7_0 rfl 10 (by decide) hf109 rfl rfl dX6_solves_151 ?_
      refine xw_last hx hb hK hP hD hS (by decide) 1 fg7_3 rfl (by omega) (by decide) dX6_solves_154 (fun g8 H locs eg8 hP hS => ?_)
      have fg8_0 : g8 (62) = .inr (6, [.int (nI (q)), .int (nI (Wt)), .ref (ad (63)), .ref (ad (64)), .ref (ad (65)), .ref (ad (66)), .int (nI (T)), .long (tp), .long (bt), .long (lZ ((gj A0 k k ns / gj A0 k k k).num)), .long (lZ (((gj A0 k k ns / gj A0 k k k).den : Int))), .int (nI (ns)), .ref (ad (67)), .ref (ad (68)), .ref (ad (69)), .ref (ad (70)), .ref (ad (71)), .ref (ad (72)), .ref (ad (73)), .ref (ad (74)), .ref (ad (75)), .ref (ad (76)), .ref (ad (77)), .ref (ad (78)), .ref (ad (79)), .ref (ad (80))]) := (congrFun eg8 (62)).trans ((va_up_ne _ _ (by decide)).trans fg7_0)
      have fg8_1 : g8 (71) = .inl (cJ, 169, .inr (.inl (fP))) := (congrFun eg8 (71)).trans ((va_up_ne _ _ (by decide)).trans fg7_1)
      have fg8_2 : g8 (72) = .inl (cJ, 169, .inr (.inl (fQ))) := (congrFun eg8 (72)).trans ((va_up_ne _ _ (by decide)).trans fg7_2)
      have fg8_3 : g8 (73) = .inl (cJ, 13, .inr (.inl (vp_updL (fC) (k) (lZ ((gj A0 k k ns / gj A0 k k k).num))))) := (congrFun eg8 (73)).trans ((va_up_ne _ _ (by decide)).trans fg7_w)
      have fg8_w : g8 (74) = .inl (cJ, 13, .inr (.inl (vp_updL (fD) (k) (lZ (((gj A0 k k ns / gj A0 k k k).den : Int)))))) := (congrFun eg8 (74)).trans (va_up_self _ _ _)
      have hfrg8 : ∀ j : Nat, j ≠ 62 → j ≠ 71 → j ≠ 72 → j ≠ 73 → j ≠ 74 → g8 j = g j := fun j h0 h1 h2 h3 h4 => (congrFun eg8 j).trans ((va_up_ne _ _ h4).trans (hfrg7 j h0 h1 h2 h3 h4))
      have hT1 : mA fP fQ ns (mtT (gj A0 k) k 0) := fun r x hr hx => by rw [mtT_0]; by_cases e : r = k ∧ k ≤ x; rw [e.1, mtS_k e.2]; exact hPd x e.2 (by omega); rw [mtS_n (show r ≠ k ∨ x < k by omega)]; exact ⟨(hPo _ (by omega)).1.trans (hMA r x hr hx).1, (hPo _ (by omega)).2.trans (hMA r x hr hx).2⟩
      have hT2 : mB (vp_updL (fC) (k) (lZ ((gj A0 k k ns / gj A0 k k k).num))) (vp_updL (fD) (k) (lZ (((gj A0 k k ns / gj A0 k k k).den : Int)))) ns (mtT (gj A0 k) k 0) := fun r hr => by rw [mtT_0]; by_cases e : r = k; rw [e, pk_uLs, pk_uLs, mtS_k (by omega)]; exact ⟨rfl, rfl⟩; rw [pk_uLn e, pk_uLn e, mtS_n (Or.inl e)]; exact hMB r hr
      refine lv_iconst (v := nI (0)) hx hb dX6_solves_155 (by decide) ?_
      refine lv_istore (lv' := [(6, .int (nI (0))), (0, .ref (ad (62))), (1, .int (nI (k))), (2, .long (lZ ((gj A0 k k k).num))), (4, .long (lZ (((gj A0 k k k).den : Int))))]) hx hb dX6_solves_156 hl (by decide) rfl (fun ls hl => ?_)
      refine xloopW (G := fun H locs fr => W p l e _ s m _ below meth c H locs _ _ _ fr) (σ := Nat × (Nat → Int64) × (Nat → Int64) × (Nat → Int64) × (Nat → Int64) × Int64 × Int64) (fun (i, fE, fF, fG, fH, nx, dx) ls => F0 m 158 ls []) (fun (i, fE, fF, fG, fH, nx, dx) gl158_9 H locs ls => (i ≤ ns) ∧ (mA fE fF ns (mtT (gj A0 k) k i)) ∧ (mB fG fH ns (mtT (gj A0 k) k i)) ∧ gl158_9 (62) = .inr (6, [.int (nI (q)), .int (nI (Wt)), .ref (ad (63)), .ref (ad (64)), .ref (ad (65)), .ref (ad (66)), .int (nI (T)), .long (tp), .long (bt), .long (nx), .long (dx), .int (nI (ns)), .ref (ad (67)), .ref (ad (68)), .ref (ad (69)), .ref (ad (70)), .ref (ad (71)), .ref (ad (72)), .ref (ad (73)), .ref (ad (74)), .ref (ad (75)), .ref (ad (76)), .ref (ad (77)), .ref (ad (78)), .ref (ad (79)), .ref (ad (80))]) ∧ gl158_9 (71) = .inl (cJ, 169, .inr (.inl (fE))) ∧ gl158_9 (72) = .inl (cJ, 169, .inr (.inl (fF))) ∧ gl158_9 (73) = .inl (cJ, 13, .inr (.inl (fG))) ∧ gl158_9 (74) = .inl (cJ, 13, .inr (.inl (fH))) ∧ (∀ j : Nat, j ≠ 62 → j ≠ 71 → j ≠ 72 → j ≠ 73 → j ≠ 74 → gl158_9 j = g j) ∧ va_P D vwCl (xw 81 ad gl158_9) H ∧ va_S A s.heap H locs ∧ lv_has ls 7 [(0, .ref (ad (62))), (1, .int (nI (k))), (6, .int (nI (i)))]) (fun (i, fE, fF, fG, fH, nx, dx) => ns - i) ?_ (0, fP, fQ, vp_updL (fC) (k) (lZ ((gj A0 k k ns / gj A0 k k k).num)), vp_updL (fD) (k) (lZ (((gj A0 k k ns / gj A0 k k k).den : Int))), lZ ((gj A0 k k ns / gj A0 k k k).num), lZ (((gj A0 k k ns / gj A0 k k k).den : Int))) g8 H locs ls ⟨(Nat.zero_le _), hT1, hT2, fg8_0, fg8_1, fg8_2, fg8_3, fg8_w, hfrg8, hP, hS, (lv_sub hl [1, 2, 0] rfl)⟩
      rintro ⟨i, fE, fF, fG, fH, nx, dx⟩ gl158_9 H locs ls ⟨hi, hE, hG, fo62, fa71, fa72, fa73, fa74, hfrgl158_9, hP, hS, hl⟩ ih158
      refine lv_iload hx hb dX6_solves_158 (lv_at hl 2 rfl) ?_
      refine lv_aload_n hx hb dX6_solves_160 rfl (lv_at hl 0 rfl) ?_
      refine xw_get hx hb hts hin6 hown hK hP (by decide) fo62 rfl 11 (by decide) hf130 rfl rfl dX6_solves_161 ?_
      refine xi_icmp_ge (tgt := 186) hx hb (by omega) (by omega) dX6_solves_164 (by decide) (fun c164_10 => ?_) (fun c164_10 => ?_)
      · refine lv_iinc (v := nI (k + 1)) (lv' := [(1, .int (nI (k + 1))), (0, .ref (ad (62))), (6, .int (nI (i)))]) hx hb dX6_solves_186 hl (k := 1) rfl (nI_add (k) 1) (by decide) rfl (fun ls hl => ?_)
        refine lv_goto (tgt := 2) hx hb dX6_solves_189 (by decide) ?_
        exact ih2 (k + 1, fE, fF, fG, fH, nx, dx) gl158_9 H locs ls ⟨(by omega), (hE.to (fun r x hr _ => by rw [show i = ns by omega]; exact mtT_e hr)), (hG.to (fun r hr => by rw [show i = ns by omega]; exact mtT_e hr)), fo62, fa71, fa72, fa73, fa74, hfrgl158_9, hP, hS, (lv_sub hl [1, 0] rfl)⟩ (by first | omega | (dsimp only; omega))
      · refine lv_iload hx hb dX6_solves_167 (lv_at hl 2 rfl) ?_
        refine lv_iload_n hx hb dX6_solves_169 rfl (lv_at hl 1 rfl) ?_
        refine xi_icmp_eq (tgt := 180) hx hb (by omega) (by omega) dX6_solves_170 (by decide) (fun c170_11 => ?_) (fun c170_11 => ?_)
        · refine lv_iinc (v := nI (i + 1)) (lv' := [(6, .int (nI (i + 1))), (0, .ref (ad (62))), (1, .int (nI (k)))]) hx hb dX6_solves_180 hl (k := 2) rfl (nI_add (i) 1) (by decide) rfl (fun ls hl => ?_)
          refine lv_goto (tgt := 158) hx hb dX6_solves_183 (by decide) ?_
          exact ih158 (i + 1, fE, fF, fG, fH, nx, dx) gl158_9 H locs ls ⟨(by omega), (hE.to (fun r x _ _ => by rw [c170_11]; exact mtT_kk)), (hG.to (fun r _ => by rw [c170_11]; exact mtT_kk)), fo62, fa71, fa72, fa73, fa74, hfrgl158_9, hP, hS, (lv_sub hl [1, 2, 0] rfl)⟩ (by first | omega | (dsimp only; omega))
        · refine lv_aload_n hx hb dX6_solves_173 rfl (lv_at hl 0 rfl) ?_
          refine lv_iload hx hb dX6_solves_174 (lv_at hl 2 rfl) ?_
          refine lv_iload_n hx hb dX6_solves_176 rfl (lv_at hl 1 rfl) ?_
          refine va_callv (va_runV (As := [.int (nI (i)), .int (nI (k))]) (rest := []) ⟨hx, hb, hml, hown, hts⟩ (mX6_takesOff l hD (w := w) (ln := ln) (t := t) (u := u) (mx := mtT (gj A0 k) k i) fo62 fa71 fa72 fa73 fa74 hE hG hns (by omega) (by omega) c170_11 (fun x h1 h2 => by rw [mtT_i c170_11]; exact hfr i x (by omega) h1 h2) (fun x h1 h2 => by rw [mtT_k h1]; exact hfq x h1 h2) (fun x h1 h2 => by rw [mtT_i c170_11, mtT_k h1]; exact (hfx i x (by omega) c170_11 h1 h2).1) (fun x h1 h2 => by rw [mtT_i c170_11, mtT_i c170_11, mtT_k h1]; exact (hfx i x (by omega) c170_11 h1 h2).2)) (cwV 2 hts gX6_solves_X6_takesOff rfl rfl rfl (by decide +kernel) ⟨Nat.le_of_ble_eq_true rfl, Nat.le_of_ble_eq_true rfl⟩) ⟨xB_blind, va_recv hK hP (ci := 6) rfl (xw_is (by decide) fo62), fun U hU hW => ⟨rfl, by rw [hU]; exact hP, va_K.moved hW.alike hK, va_Nw.warmM hW hN⟩⟩ rfl rfl hl.1 rfl (lv_room (Nat.le_of_ble_eq_true rfl)) dX6_solves_177 ⟨Nat.le_of_ble_eq_true rfl, Nat.le_of_ble_eq_true rfl⟩) hS (fun _ _ h => h) (fun _ h => h) (fun g12 tZ H locs ht hvm hwg12 hB hzZ hkZ hS => ?_)
          obtain ⟨hP, -⟩ := hB
          rw [ht] at hP
          obtain ⟨fE2, fF2, fG2, fH2, nx2, dx2, hE2, hG2, fg12_n0, fg12_n1, fg12_n2, fg12_n3, fg12_n4, hcg12⟩ := hwg12
          have hfrg12 : ∀ j : Nat, j ≠ 62 → j ≠ 71 → j ≠ 72 → j ≠ 73 → j ≠ 74 → g12 j = g j := fun j h0 h1 h2 h3 h4 => (hcg12 j h0 h1 h2 h3 h4).trans (hfrgl158_9 j h0 h1 h2 h3 h4)
          refine lv_iinc (v := nI (i + 1)) (lv' := [(6, .int (nI (i + 1))), (0, .ref (ad (62))), (1, .int (nI (k)))]) hx hb dX6_solves_180 hl (k := 2) rfl (nI_add (i) 1) (by decide) rfl (fun ls hl => ?_)
          refine lv_goto (tgt := 158) hx hb dX6_solves_183 (by decide) ?_
          exact ih158 (i + 1, fE2, fF2, fG2, fH2, nx2, dx2) g12 H locs ls ⟨(by omega), (hE2.to (fun r x _ hx => mtT_s c170_11 (by omega))), (hG2.to (fun r _ => mtT_s c170_11 (by omega))), fg12_n0, fg12_n1, fg12_n2, fg12_n3, fg12_n4, hfrg12, hP, hS, (lv_sub hl [1, 2, 0] rfl)⟩ (by first | omega | (dsimp only; omega))
    · refine lv_aload_n hx hb dX6_solves_47 rfl (lv_at hl 0 rfl) ?_
      refine lv_aload_n hx hb dX6_solves_48 rfl (lv_at hl 0 rfl) ?_
      refine xw_get hx hb hts hin6 hown hK hP (by decide) fo62 rfl 16 (by decide) hf45 rfl rfl dX6_solves_49 ?_
      refine lv_bipush (v := nI (13)) hx hb dX6_solves_52 (by decide) ?_
      refine lv_iload_n hx hb dX6_solves_54 rfl (lv_at hl 1 rfl) ?_
      refine xi_mul hx hb dX6_solves_55 ?_
      refine lv_iload hx hb dX6_solves_56 (lv_at hl 4 rfl) ?_
      refine xi_add hx hb dX6_solves_58 ?_
      refine xw_lald hx hb hK hP (by decide) 1 fa71 rfl (by omega) (by decide) dX6_solves_59 ?_
      rw [(hPr j (by omega) (by omega)).1]
      refine lv_aload_n hx hb dX6_solves_60 rfl (lv_at hl 0 rfl) ?_
      refine xw_get hx hb hts hin6 hown hK hP (by decide) fo62 rfl 17 (by decide) hf49 rfl rfl dX6_solves_61 ?_
      refine lv_bipush (v := nI (13)) hx hb dX6_solves_64 (by decide) ?_
      refine lv_iload_n hx hb dX6_solves_66 rfl (lv_at hl 1 rfl) ?_
      refine xi_mul hx hb dX6_solves_67 ?_
      refine lv_iload hx hb dX6_solves_68 (lv_at hl 4 rfl) ?_
      refine xi_add hx hb dX6_solves_70 ?_
      refine xw_lald hx hb hK hP (by decide) 1 fa72 rfl (by omega) (by decide) dX6_solves_71 ?_
      rw [(hPr j (by omega) (by omega)).2]
      refine lv_lload hx hb dX6_solves_72 (lv_at hl 3 rfl) ?_
      refine lv_lload_n hx hb dX6_solves_74 rfl (lv_at hl 2 rfl) ?_
      refine va_callv (va_runV (As := [.long (lZ ((gj A0 k k j).num)), .long (lZ (((gj A0 k k j).den : Int))), .long (lZ (((gj A0 k k k).den : Int))), .long (lZ ((gj A0 k k k).num))]) (rest := []) ⟨hx, hb, hml, hown, hts⟩ (mX6_times l hD (w := w) (ln := ln) (t := t) (u := u) (x := gj A0 k k j) (y := (gj A0 k k k)⁻¹) fo62 rfl rfl (inv_nd hpv).1.symm (inv_nd hpv).2.symm (hfr k j (by omega) (by omega) (by omega)) (fitR_inv hpv (hfr k k (by omega) (by omega) (by omega))) (hfq j (by omega) (by omega))) (cwV 4 hts gX6_solves_X6_times rfl rfl rfl (by decide +kernel) ⟨Nat.le_of_ble_eq_true rfl, Nat.le_of_ble_eq_true rfl⟩) ⟨xB_blind, va_recv hK hP (ci := 6) rfl (xw_is (by decide) fo62), fun U hU hW => ⟨rfl, by rw [hU]; exact hP, va_K.moved hW.alike hK, va_Nw.warmM hW hN⟩⟩ rfl rfl hl.1 rfl (lv_room (Nat.le_of_ble_eq_true rfl)) dX6_solves_75 ⟨Nat.le_of_ble_eq_true rfl, Nat.le_of_ble_eq_true rfl⟩) hS (fun _ _ h => h) (fun _ h => h) (fun g14 tZ H locs ht hvm hwg14 hB hzZ hkZ hS => ?_)
      obtain ⟨hP, -⟩ := hB
      rw [ht] at hP
      obtain ⟨fg14_n0, hcg14⟩ := hwg14
      have fg14_k0 : g14 (71) = .inl (cJ, 169, .inr (.inl (fP))) := (hcg14 (71) (by decide)).trans fa71
      have fg14_k1 : g14 (72) = .inl (cJ, 169, .inr (.inl (fQ))) := (hcg14 (72) (by decide)).trans fa72
      have fg14_k2 : g14 (73) = .inl (cJ, 13, .inr (.inl (fC))) := (hcg14 (73) (by decide)).trans fa73
      have fg14_k3 : g14 (74) = .inl (cJ, 13, .inr (.inl (fD))) := (hcg14 (74) (by decide)).trans fa74
      have hfrg14 : ∀ j : Nat, j ≠ 62 → j ≠ 71 → j ≠ 72 → j ≠ 73 → j ≠ 74 → g14 j = g j := fun j h0 h1 h2 h3 h4 => (hcg14 j h0).trans (hfrgl38_3 j h0 h1 h2 h3 h4)
      rw [show (gj A0 k k j) * ((gj A0 k k k)⁻¹) = gj A0 k k j / gj A0 k k k from (Rat.div_def _ _).symm] at fg14_n0
      refine lv_aload_n hx hb dX6_solves_78 rfl (lv_at hl 0 rfl) ?_
      refine xw_get hx hb hts hin6 hown hK hP (by decide) fg14_n0 rfl 16 (by decide) hf45 rfl rfl dX6_solves_79 ?_
      refine lv_bipush (v := nI (13)) hx hb dX6_solves_82 (by decide) ?_
      refine lv_iload_n hx hb dX6_solves_84 rfl (lv_at hl 1 rfl) ?_
      refine xi_mul hx hb dX6_solves_85 ?_
      refine lv_iload hx hb dX6_solves_86 (lv_at hl 4 rfl) ?_
      refine xi_add hx hb dX6_solves_88 ?_
      refine lv_aload_n hx hb dX6_solves_89 rfl (lv_at hl 0 rfl) ?_
      refine xw_get hx hb hts hin6 hown hK hP (by decide) fg14_n0 rfl 9 (by decide) hf106 rfl rfl dX6_solves_90 ?_
      refine xw_last hx hb hK hP hD hS (by decide) 1 fg14_k0 rfl (by omega) (by decide) dX6_solves_93 (fun g16 H locs eg16 hP hS => ?_)
      have fg16_0 : g16 (62) = .inr (6, [.int (nI (q)), .int (nI (Wt)), .ref (ad (63)), .ref (ad (64)), .ref (ad (65)), .ref (ad (66)), .int (nI (T)), .long (tp), .long (bt), .long (lZ ((gj A0 k k j / gj A0 k k k).num)), .long (lZ (((gj A0 k k j / gj A0 k k k).den : Int))), .int (nI (ns)), .ref (ad (67)), .ref (ad (68)), .ref (ad (69)), .ref (ad (70)), .ref (ad (71)), .ref (ad (72)), .ref (ad (73)), .ref (ad (74)), .ref (ad (75)), .ref (ad (76)), .ref (ad (77)), .ref (ad (78)), .ref (ad (79)), .ref (ad (80))]) := (congrFun eg16 (62)).trans ((va_up_ne _ _ (by decide)).trans fg14_n0)
      have fg16_1 : g16 (72) = .inl (cJ, 169, .inr (.inl (fQ))) := (congrFun eg16 (72)).trans ((va_up_ne _ _ (by decide)).trans fg14_k1)
      have fg16_2 : g16 (73) = .inl (cJ, 13, .inr (.inl (fC))) := (congrFun eg16 (73)).trans ((va_up_ne _ _ (by decide)).trans fg14_k2)
      have fg16_3 : g16 (74) = .inl (cJ, 13, .inr (.inl (fD))) := (congrFun eg16 (74)).trans ((va_up_ne _ _ (by decide)).trans fg14_k3)
      have fg16_w : g16 (71) = .inl (cJ, 169, .inr (.inl (vp_updL (fP) ((13 * k) + j) (lZ ((gj A0 k k j / gj A0 k k k).num))))) := (congrFun eg16 (71)).trans (va_up_self _ _ _)
      have hfrg16 : ∀ j : Nat, j ≠ 62 → j ≠ 71 → j ≠ 72 → j ≠ 73 → j ≠ 74 → g16 j = g j := fun j h0 h1 h2 h3 h4 => (congrFun eg16 j).trans ((va_up_ne _ _ h1).trans (hfrg14 j h0 h1 h2 h3 h4))
      refine lv_aload_n hx hb dX6_solves_94 rfl (lv_at hl 0 rfl) ?_
      refine xw_get hx hb hts hin6 hown hK hP (by decide) fg16_0 rfl 17 (by decide) hf49 rfl rfl dX6_solves_95 ?_
      refine lv_bipush (v := nI (13)) hx hb dX6_solves_98 (by decide) ?_
      refine lv_iload_n hx hb dX6_solves_100 rfl (lv_at hl 1 rfl) ?_
      refine xi_mul hx hb dX6_solves_101 ?_
      refine lv_iload hx hb dX6_solves_102 (lv_at hl 4 rfl) ?_
      refine xi_add hx hb dX6_solves_104 ?_
      refine lv_aload_n hx hb dX6_solves_105 rfl (lv_at hl 0 rfl) ?_
      refine xw_get hx hb hts hin6 hown hK hP (by decide) fg16_0 rfl 10 (by decide) hf109 rfl rfl dX6_solves_106 ?_
      refine xw_last hx hb hK hP hD hS (by decide) 1 fg16_1 rfl (by omega) (by decide) dX6_solves_109 (fun g17 H locs eg17 hP hS => ?_)
      have fg17_0 : g17 (62) = .inr (6, [.int (nI (q)), .int (nI (Wt)), .ref (ad (63)), .ref (ad (64)), .ref (ad (65)), .ref (ad (66)), .int (nI (T)), .long (tp), .long (bt), .long (lZ ((gj A0 k k j / gj A0 k k k).num)), .long (lZ (((gj A0 k k j / gj A0 k k k).den : Int))), .int (nI (ns)), .ref (ad (67)), .ref (ad (68)), .ref (ad (69)), .ref (ad (70)), .ref (ad (71)), .ref (ad (72)), .ref (ad (73)), .ref (ad (74)), .ref (ad (75)), .ref (ad (76)), .ref (ad (77)), .ref (ad (78)), .ref (ad (79)), .ref (ad (80))]) := (congrFun eg17 (62)).trans ((va_up_ne _ _ (by decide)).trans fg16_0)
      have fg17_1 : g17 (73) = .inl (cJ, 13, .inr (.inl (fC))) := (congrFun eg17 (73)).trans ((va_up_ne _ _ (by decide)).trans fg16_2)
      have fg17_2 : g17 (74) = .inl (cJ, 13, .inr (.inl (fD))) := (congrFun eg17 (74)).trans ((va_up_ne _ _ (by decide)).trans fg16_3)
      have fg17_3 : g17 (71) = .inl (cJ, 169, .inr (.inl (vp_updL (fP) ((13 * k) + j) (lZ ((gj A0 k k j / gj A0 k k k).num))))) := (congrFun eg17 (71)).trans ((va_up_ne _ _ (by decide)).trans fg16_w)
      have fg17_w : g17 (72) = .inl (cJ, 169, .inr (.inl (vp_updL (fQ) ((13 * k) + j) (lZ (((gj A0 k k j / gj A0 k k k).den : Int)))))) := (congrFun eg17 (72)).trans (va_up_self _ _ _)
      have hfrg17 : ∀ j : Nat, j ≠ 62 → j ≠ 71 → j ≠ 72 → j ≠ 73 → j ≠ 74 → g17 j = g j := fun j h0 h1 h2 h3 h4 => (congrFun eg17 j).trans ((va_up_ne _ _ h2).trans (hfrg16 j h0 h1 h2 h3 h4))
      refine lv_iinc (v := nI (j + 1)) (lv' := [(6, .int (nI (j + 1))), (0, .ref (ad (62))), (1, .int (nI (k))), (2, .long (lZ ((gj A0 k k k).num))), (4, .long (lZ (((gj A0 k k k).den : Int))))]) hx hb dX6_solves_110 hl (k := 4) rfl (nI_add (j) 1) (by decide) rfl (fun ls hl => ?_)
      refine lv_goto (tgt := 38) hx hb dX6_solves_113 (by decide) ?_
      exact ih38 (j + 1, vp_updL (fP) ((13 * k) + j) (lZ ((gj A0 k k j / gj A0 k k k).num)), vp_updL (fQ) ((13 * k) + j) (lZ (((gj A0 k k j / gj A0 k k k).den : Int))), lZ ((gj A0 k k j / gj A0 k k k).num), lZ (((gj A0 k k j / gj A0 k k k).den : Int))) g17 H locs ls ⟨(by omega), (fun x h1 h2 => if e : x = j then by rw [e, pk_uLs, pk_uLs]; exact ⟨rfl, rfl⟩ else by rw [pk_uLn (by omega), pk_uLn (by omega)]; exact hPd x h1 (by omega)), (fun x h1 h2 => by rw [pk_uLn (by omega), pk_uLn (by omega)]; exact hPr x (by omega) h2), (fun x h1 => by rw [pk_uLn (by omega), pk_uLn (by omega)]; exact hPo x h1), fg17_0, fg17_3, fg17_w, fg17_1, fg17_2, hfrg17, hP, hS, (lv_sub hl [1, 2, 3, 4, 0] rfl)⟩ (by first | omega | (dsimp only; omega))

set_option maxHeartbeats 4000000 in
set_option maxRecDepth 100000 in
/-- means -/
theorem mX6_means (l : Launch) {D : va_G} {cI cJ cZ cW : ClassId} {ad : Nat → Nat} {A : Nat → Prop} (hD : ∀ g, va_D A (xw 81 ad g)) {g : Nat → va_E} {q Wt T : Nat} {w ln t : Nat → Nat} {u : Nat → Nat → Nat} {tp bt : Int64} {li : Nat} {sq : Int32} {nu de : Int64} {fw : Nat → Int32} {fsz : Nat → Int32} {fwd : Nat → Int32} {fos : Nat → Int32} {foz : Nat → Int32} {fgo : Nat → Int32} {frw : Nat → Int32} {fan : Nat → Int64} {fad : Nat → Int64} {frn : Nat → Int64} {frd : Nat → Int64}  (fo62 : g (62) = .inr (6, [.int (nI (q)), .int (nI (Wt)), .ref (ad (63)), .ref (ad (64)), .ref (ad (65)), .ref (ad (66)), .int (nI (T)), .long (tp), .long (bt), .long (nu), .long (de), .int (sq), .ref (ad (67)), .ref (ad (68)), .ref (ad (69)), .ref (ad (70)), .ref (ad (71)), .ref (ad (72)), .ref (ad (73)), .ref (ad (74)), .ref (ad (75)), .ref (ad (76)), .ref (ad (77)), .ref (ad (78)), .ref (ad (79)), .ref (ad (80))])) (fa63 : g (63) = .inl (cI, 4, .inl (fw))) (fa64 : g (64) = .inl (cI, 8, .inl (fsz))) (fa65 : g (65) = .inl (cI, 40, .inl (fwd))) (fa67 : g (67) = .inl (cI, 13, .inl (fos))) (fa68 : g (68) = .inl (cI, 13, .inl (foz))) (fa69 : g (69) = .inl (cI, 52, .inl (fgo))) (fa70 : g (70) = .inl (cI, 6, .inl (frw))) (fa71 : g (71) = .inl (cJ, 169, .inr (.inl (fan)))) (fa72 : g (72) = .inl (cJ, 169, .inr (.inl (fad)))) (fa73 : g (73) = .inl (cJ, 13, .inr (.inl (frn)))) (fa74 : g (74) = .inl (cJ, 13, .inr (.inl (frd))))  (hfw : ∀ j, j < 4 → fw j = nI (w j)) (hsz : ∀ k, k < 8 → fsz k = nI (ln k)) (hwl : ∀ k j, k < 8 → j < ln k → fwd (5 * k + j) = nI (u k j))         (hq2 : 2 ≤ q) (hq4 : q ≤ 4) (hln : ∀ k, ln k ≤ 5) (hul : ∀ k j, j < ln k → u k j < q) (hT : T ≤ 300) (ht : ∀ j, j < T → t j < q) (hw1 : ∀ j, j < q → 1 ≤ w j) (hw : ∀ j, j < 4 → w j ≤ 4) (hWt : Wt ≤ 4) (hli : li < 256) (hlb : ∀ s, s < 8 → btL li s → 0 < ln s) (hl3 : cntS (fun s => decide (btL li s)) (8) ≤ 3) (hl0 : cntS (fun s => decide (btL li s)) (8) ≠ 0) (hfit : ∀ ns sl sz gof, ChI q ln u li ns sl sz gof → gjFit (mkA Wt w gof q ns (fun _ => Rat.divInt ((Wt : Nat) : Int) 1)) ns) : Met l yX6_means wsX6_means ({ frames := 5, cells := 0, slots := 0, locals := 140 }) (va_Pc [.ref (ad (62)), .int (nI (li))] (xB D (xT cI cJ cZ cW) ad g)) (va_Qv (fun g2 => ∃ (ns : Nat) (sl sz gof : Nat → Nat) (f7 f8 f9 f0 : Nat → Int32) (fA fB fC fD : Nat → Int64) (nx dx : Int64), ChI q ln u li ns sl sz gof ∧ (∀ a x, a < ns → x < q → f9 (4 * a + x) = nI (gof (4 * a + x))) ∧ mB fC fD ns (gj (mkA Wt w gof q ns (fun _ => Rat.divInt ((Wt : Nat) : Int) 1)) ns) ∧ g2 62 = .inr (6, [.int (nI (q)), .int (nI (Wt)), .ref (ad (63)), .ref (ad (64)), .ref (ad (65)), .ref (ad (66)), .int (nI (T)), .long (tp), .long (bt), .long (nx), .long (dx), .int (nI (ns)), .ref (ad (67)), .ref (ad (68)), .ref (ad (69)), .ref (ad (70)), .ref (ad (71)), .ref (ad (72)), .ref (ad (73)), .ref (ad (74)), .ref (ad (75)), .ref (ad (76)), .ref (ad (77)), .ref (ad (78)), .ref (ad (79)), .ref (ad (80))]) ∧ g2 67 = .inl (cI, 13, .inl (f7)) ∧ g2 68 = .inl (cI, 13, .inl (f8)) ∧ g2 69 = .inl (cI, 52, .inl (f9)) ∧ g2 70 = .inl (cI, 6, .inl (f0)) ∧ g2 71 = .inl (cJ, 169, .inr (.inl (fA))) ∧ g2 72 = .inl (cJ, 169, .inr (.inl (fB))) ∧ g2 73 = .inl (cJ, 13, .inr (.inl (fC))) ∧ g2 74 = .inl (cJ, 13, .inr (.inl (fD))) ∧ ∀ j : Nat, j ≠ 62 → j ≠ 67 → j ≠ 68 → j ≠ 69 → j ≠ 70 → j ≠ 71 → j ≠ 72 → j ≠ 73 → j ≠ 74 → g2 j = g j) (xB D (xT cI cJ cZ cW) ad) A) 0 0 A := by
  refine Met.ofW (cc := cX6_means) (maxL := 3) (ret := none) (by decide) rfl ?_
  intro p e s m args below meth c s₁ B hml hv
  obtain ⟨rfl, hP, hK, hN⟩ := hv
  have hx := B.exec
  have hb := B.bytes
  have hr := B.returns
  have hts := atoms_spec (ws := wsX6_means) B.pre
  have hown : s.vm.findClass RX6 = some m.cls := findClass_of_methodNamed B.named
  have hlocks := B.notSynchronized
  have hS : va_S A s.heap s.heap [] := va_S.rf
  have hin6 : ∀ w ∈ wsX60, w ∈ wsX6_means := by decide +kernel
  have hf13 := hts (.fieldLink RX6 13 "LettersByLotModel" "all" "I") (by decide +kernel)
  have hf130 := hts (.fieldLink RX6 130 "LettersByLotModel" "states" "I") (by decide +kernel)
  have hl := lv_entry ([.ref (ad (62)), .int (nI (li))]) (n := 3) (Nat.le_of_ble_eq_true rfl)
  rw [lg_entry_eq]
  generalize (lg_sl ([.ref (ad (62)), .int (nI (li))]) ++ List.replicate (3 - (lg_sl ([.ref (ad (62)), .int (nI (li))])).length) Slot.unset).toArray = ls at hl ⊢
  have hl : lv_has ls 3 [(0, .ref (ad (62))), (1, .int (nI (li)))] := hl
  refine lv_aload_n hx hb dX6_means_0 rfl (lv_at hl 0 rfl) ?_
  refine lv_iload_n hx hb dX6_means_1 rfl (lv_at hl 1 rfl) ?_
  refine va_callv (va_runV (As := [.int (nI (li))]) (rest := []) ⟨hx, hb, hml, hown, hts⟩ (mX6_makes l hD (w := w) (ln := ln) (t := t) (u := u) (li := li) fo62 fa64 fa65 fa67 fa68 fa69 fa70 hsz hwl hq2 hq4 hln hul hT ht hli hlb hl3 hl0) (cwV 1 hts gX6_means_X6_makes rfl rfl rfl (by decide +kernel) ⟨Nat.le_of_ble_eq_true rfl, Nat.le_of_ble_eq_true rfl⟩) ⟨xB_blind, va_recv hK hP (ci := 6) rfl (xw_is (by decide) fo62), fun U hU hW => ⟨rfl, by rw [hU]; exact hP, va_K.moved hW.alike hK, va_Nw.warmM hW hN⟩⟩ rfl rfl hl.1 rfl (lv_room (Nat.le_of_ble_eq_true rfl)) dX6_means_2 ⟨Nat.le_of_ble_eq_true rfl, Nat.le_of_ble_eq_true rfl⟩) hS (fun _ _ h => h) (fun _ h => h) (fun g1 tZ H locs ht hvm hwg1 hB hzZ hkZ hS => ?_)
  obtain ⟨hP, -⟩ := hB
  rw [ht] at hP
  obtain ⟨ns, sl, sz, gof, f7, f8, f9, f0, hCh, hos, hoz, hgo, fg1_n0, fg1_n1, fg1_n2, fg1_n3, fg1_n4, hcg1⟩ := hwg1
  have fg1_k0 : g1 (63) = .inl (cI, 4, .inl (fw)) := (hcg1 (63) (by decide) (by decide) (by decide) (by decide) (by decide)).trans fa63
  have fg1_k1 : g1 (64) = .inl (cI, 8, .inl (fsz)) := (hcg1 (64) (by decide) (by decide) (by decide) (by decide) (by decide)).trans fa64
  have fg1_k2 : g1 (65) = .inl (cI, 40, .inl (fwd)) := (hcg1 (65) (by decide) (by decide) (by decide) (by decide) (by decide)).trans fa65
  have fg1_k3 : g1 (71) = .inl (cJ, 169, .inr (.inl (fan))) := (hcg1 (71) (by decide) (by decide) (by decide) (by decide) (by decide)).trans fa71
  have fg1_k4 : g1 (72) = .inl (cJ, 169, .inr (.inl (fad))) := (hcg1 (72) (by decide) (by decide) (by decide) (by decide) (by decide)).trans fa72
  have fg1_k5 : g1 (73) = .inl (cJ, 13, .inr (.inl (frn))) := (hcg1 (73) (by decide) (by decide) (by decide) (by decide) (by decide)).trans fa73
  have fg1_k6 : g1 (74) = .inl (cJ, 13, .inr (.inl (frd))) := (hcg1 (74) (by decide) (by decide) (by decide) (by decide) (by decide)).trans fa74
  have hfrg1 : ∀ j : Nat, j ≠ 62 → j ≠ 67 → j ≠ 68 → j ≠ 69 → j ≠ 70 → j ≠ 71 → j ≠ 72 → j ≠ 73 → j ≠ 74 → g1 j = g j := fun j h0 h1 h2 h3 h4 h5 h6 h7 h8 => (hcg1 j h0 h1 h2 h3 h4).trans ((fun _ _ _ _ _ _ _ _ _ _ => rfl) j h0 h1 h2 h3 h4 h5 h6 h7 h8)
  have hns := hCh.2.1
  have hns1 := hCh.1
  have hgb := hCh.gb
  refine lv_aload_n hx hb dX6_means_5 rfl (lv_at hl 0 rfl) ?_
  refine va_callv (va_runV (As := []) (rest := []) ⟨hx, hb, hml, hown, hts⟩ (mX6_begins l hD (w := w) (ln := ln) (t := t) (u := u) (gof := gof) fg1_n0 fg1_k0 fg1_n3 fg1_k3 fg1_k4 hfw hgo hgb hq4 hns hWt hw) (cwV 0 hts gX6_means_X6_begins rfl rfl rfl (by decide +kernel) ⟨Nat.le_of_ble_eq_true rfl, Nat.le_of_ble_eq_true rfl⟩) ⟨xB_blind, va_recv hK hP (ci := 6) rfl (xw_is (by decide) fg1_n0), fun U hU hW => ⟨rfl, by rw [hU]; exact hP, va_K.moved hW.alike hK, va_Nw.warmM hW hN⟩⟩ rfl rfl hl.1 rfl (lv_room (Nat.le_of_ble_eq_true rfl)) dX6_means_6 ⟨Nat.le_of_ble_eq_true rfl, Nat.le_of_ble_eq_true rfl⟩) hS (fun _ _ h => h) (fun _ h => h) (fun g3 tZ H locs ht hvm hwg3 hB hzZ hkZ hS => ?_)
  obtain ⟨hP, -⟩ := hB
  rw [ht] at hP
  obtain ⟨fA, fB, hBg, fg3_n0, fg3_n1, hcg3⟩ := hwg3
  have fg3_k0 : g3 (62) = .inr (6, [.int (nI (q)), .int (nI (Wt)), .ref (ad (63)), .ref (ad (64)), .ref (ad (65)), .ref (ad (66)), .int (nI (T)), .long (tp), .long (bt), .long (nu), .long (de), .int (nI (ns)), .ref (ad (67)), .ref (ad (68)), .ref (ad (69)), .ref (ad (70)), .ref (ad (71)), .ref (ad (72)), .ref (ad (73)), .ref (ad (74)), .ref (ad (75)), .ref (ad (76)), .ref (ad (77)), .ref (ad (78)), .ref (ad (79)), .ref (ad (80))]) := (hcg3 (62) (by decide) (by decide)).trans fg1_n0
  have fg3_k1 : g3 (67) = .inl (cI, 13, .inl (f7)) := (hcg3 (67) (by decide) (by decide)).trans fg1_n1
  have fg3_k2 : g3 (68) = .inl (cI, 13, .inl (f8)) := (hcg3 (68) (by decide) (by decide)).trans fg1_n2
  have fg3_k3 : g3 (69) = .inl (cI, 52, .inl (f9)) := (hcg3 (69) (by decide) (by decide)).trans fg1_n3
  have fg3_k4 : g3 (70) = .inl (cI, 6, .inl (f0)) := (hcg3 (70) (by decide) (by decide)).trans fg1_n4
  have fg3_k5 : g3 (63) = .inl (cI, 4, .inl (fw)) := (hcg3 (63) (by decide) (by decide)).trans fg1_k0
  have fg3_k6 : g3 (64) = .inl (cI, 8, .inl (fsz)) := (hcg3 (64) (by decide) (by decide)).trans fg1_k1
  have fg3_k7 : g3 (65) = .inl (cI, 40, .inl (fwd)) := (hcg3 (65) (by decide) (by decide)).trans fg1_k2
  have fg3_k8 : g3 (73) = .inl (cJ, 13, .inr (.inl (frn))) := (hcg3 (73) (by decide) (by decide)).trans fg1_k5
  have fg3_k9 : g3 (74) = .inl (cJ, 13, .inr (.inl (frd))) := (hcg3 (74) (by decide) (by decide)).trans fg1_k6
  have hfrg3 : ∀ j : Nat, j ≠ 62 → j ≠ 67 → j ≠ 68 → j ≠ 69 → j ≠ 70 → j ≠ 71 → j ≠ 72 → j ≠ 73 → j ≠ 74 → g3 j = g j := fun j h0 h1 h2 h3 h4 h5 h6 h7 h8 => (hcg3 j h5 h6).trans (hfrg1 j h0 h1 h2 h3 h4 h5 h6 h7 h8)
  refine lv_iconst (v := nI (0)) hx hb dX6_means_9 (by decide) ?_
  refine lv_istore_n (lv' := [(2, .int (nI (0))), (0, .ref (ad (62))), (1, .int (nI (li)))]) hx hb dX6_means_10 rfl hl (by decide) rfl (fun ls hl => ?_)
  refine xloopW (G := fun H locs fr => W p l e _ s m _ below meth c H locs _ _ _ fr) (σ := Nat × (Nat → Int64) × (Nat → Int64) × Int64 × Int64) (fun (i, fC, fD, nx, dx) ls => F0 m 11 ls []) (fun (i, fC, fD, nx, dx) gl11_5 H locs ls => (i ≤ ns) ∧ (∀ x, x < i → fC x = lZ (((fun _ => Rat.divInt ((Wt : Nat) : Int) 1) x).num) ∧ fD x = lZ ((((fun _ => Rat.divInt ((Wt : Nat) : Int) 1) x).den : Int))) ∧ gl11_5 (62) = .inr (6, [.int (nI (q)), .int (nI (Wt)), .ref (ad (63)), .ref (ad (64)), .ref (ad (65)), .ref (ad (66)), .int (nI (T)), .long (tp), .long (bt), .long (nx), .long (dx), .int (nI (ns)), .ref (ad (67)), .ref (ad (68)), .ref (ad (69)), .ref (ad (70)), .ref (ad (71)), .ref (ad (72)), .ref (ad (73)), .ref (ad (74)), .ref (ad (75)), .ref (ad (76)), .ref (ad (77)), .ref (ad (78)), .ref (ad (79)), .ref (ad (80))]) ∧ gl11_5 (71) = .inl (cJ, 169, .inr (.inl (fA))) ∧ gl11_5 (72) = .inl (cJ, 169, .inr (.inl (fB))) ∧ gl11_5 (67) = .inl (cI, 13, .inl (f7)) ∧ gl11_5 (68) = .inl (cI, 13, .inl (f8)) ∧ gl11_5 (69) = .inl (cI, 52, .inl (f9)) ∧ gl11_5 (70) = .inl (cI, 6, .inl (f0)) ∧ gl11_5 (63) = .inl (cI, 4, .inl (fw)) ∧ gl11_5 (64) = .inl (cI, 8, .inl (fsz)) ∧ gl11_5 (65) = .inl (cI, 40, .inl (fwd)) ∧ gl11_5 (73) = .inl (cJ, 13, .inr (.inl (fC))) ∧ gl11_5 (74) = .inl (cJ, 13, .inr (.inl (fD))) ∧ (∀ j : Nat, j ≠ 62 → j ≠ 67 → j ≠ 68 → j ≠ 69 → j ≠ 70 → j ≠ 71 → j ≠ 72 → j ≠ 73 → j ≠ 74 → gl11_5 j = g j) ∧ va_P D vwCl (xw 81 ad gl11_5) H ∧ va_S A s.heap H locs ∧ lv_has ls 3 [(0, .ref (ad (62))), (2, .int (nI (i)))]) (fun (i, fC, fD, nx, dx) => ns - i) ?_ (0, frn, frd, nu, de) g3 H locs ls ⟨(Nat.zero_le _), (fun x hx => absurd hx (by omega)), fg3_k0, fg3_n0, fg3_n1, fg3_k1, fg3_k2, fg3_k3, fg3_k4, fg3_k5, fg3_k6, fg3_k7, fg3_k8, fg3_k9, hfrg3, hP, hS, (lv_sub hl [1, 0] rfl)⟩
  rintro ⟨i, fC, fD, nx, dx⟩ gl11_5 H locs ls ⟨hi, hRv, fo62, kf71, kf72, kf67, kf68, kf69, kf70, kf63, kf64, kf65, fa73, fa74, hfrgl11_5, hP, hS, hl⟩ ih11
  refine lv_iload_n hx hb dX6_means_11 rfl (lv_at hl 1 rfl) ?_
  refine lv_aload_n hx hb dX6_means_12 rfl (lv_at hl 0 rfl) ?_
  refine xw_get hx hb hts hin6 hown hK hP (by decide) fo62 rfl 11 (by decide) hf130 rfl rfl dX6_means_13 ?_
  refine xi_icmp_ge (tgt := 36) hx hb (by omega) (by omega) dX6_means_16 (by decide) (fun c16_6 => ?_) (fun c16_6 => ?_)
  · refine lv_aload_n hx hb dX6_means_36 rfl (lv_at hl 0 rfl) ?_
    refine va_callv (va_runV (As := []) (rest := []) ⟨hx, hb, hml, hown, hts⟩ (mX6_solves l hD (w := w) (ln := ln) (t := t) (u := u) (A0 := mkA Wt w gof q ns (fun _ => Rat.divInt ((Wt : Nat) : Int) 1)) fo62 kf71 kf72 fa73 fa74 (mkA_A hBg) (mkA_B (fun x hx => hRv x (by omega))) hns (hfit ns sl sz gof hCh)) (cwV 0 hts gX6_means_X6_solves rfl rfl rfl (by decide +kernel) ⟨Nat.le_of_ble_eq_true rfl, Nat.le_of_ble_eq_true rfl⟩) ⟨xB_blind, va_recv hK hP (ci := 6) rfl (xw_is (by decide) fo62), fun U hU hW => ⟨rfl, by rw [hU]; exact hP, va_K.moved hW.alike hK, va_Nw.warmM hW hN⟩⟩ rfl rfl hl.1 rfl (lv_room (Nat.le_of_ble_eq_true rfl)) dX6_means_37 ⟨Nat.le_of_ble_eq_true rfl, Nat.le_of_ble_eq_true rfl⟩) hS (fun _ _ h => h) (fun _ h => h) (fun g7 tZ H locs ht hvm hwg7 hB hzZ hkZ hS => ?_)
    obtain ⟨hP, -⟩ := hB
    rw [ht] at hP
    obtain ⟨fA3, fB3, fC3, fD3, nx3, dx3, hSv, fg7_n0, fg7_n1, fg7_n2, fg7_n3, fg7_n4, hcg7⟩ := hwg7
    have fg7_k0 : g7 (67) = .inl (cI, 13, .inl (f7)) := (hcg7 (67) (by decide) (by decide) (by decide) (by decide) (by decide)).trans kf67
    have fg7_k1 : g7 (68) = .inl (cI, 13, .inl (f8)) := (hcg7 (68) (by decide) (by decide) (by decide) (by decide) (by decide)).trans kf68
    have fg7_k2 : g7 (69) = .inl (cI, 52, .inl (f9)) := (hcg7 (69) (by decide) (by decide) (by decide) (by decide) (by decide)).trans kf69
    have fg7_k3 : g7 (70) = .inl (cI, 6, .inl (f0)) := (hcg7 (70) (by decide) (by decide) (by decide) (by decide) (by decide)).trans kf70
    have fg7_k4 : g7 (63) = .inl (cI, 4, .inl (fw)) := (hcg7 (63) (by decide) (by decide) (by decide) (by decide) (by decide)).trans kf63
    have fg7_k5 : g7 (64) = .inl (cI, 8, .inl (fsz)) := (hcg7 (64) (by decide) (by decide) (by decide) (by decide) (by decide)).trans kf64
    have fg7_k6 : g7 (65) = .inl (cI, 40, .inl (fwd)) := (hcg7 (65) (by decide) (by decide) (by decide) (by decide) (by decide)).trans kf65
    have hfrg7 : ∀ j : Nat, j ≠ 62 → j ≠ 67 → j ≠ 68 → j ≠ 69 → j ≠ 70 → j ≠ 71 → j ≠ 72 → j ≠ 73 → j ≠ 74 → g7 j = g j := fun j h0 h1 h2 h3 h4 h5 h6 h7 h8 => (hcg7 j h0 h5 h6 h7 h8).trans (hfrgl11_5 j h0 h1 h2 h3 h4 h5 h6 h7 h8)
    exact W.vret hx hb hr (fun tZ ht hW => ⟨⟨g7, rfl, ⟨ns, sl, sz, gof, f7, f8, f9, f0, fA3, fB3, fC3, fD3, _, _, hCh, hgo, hSv, fg7_n0, fg7_k0, fg7_k1, fg7_k2, fg7_k3, fg7_n1, fg7_n2, fg7_n3, fg7_n4, hfrg7⟩, by rw [ht]; exact hP, va_K.moved hW.alike hK, va_Nw.warmM hW hN⟩, hS.F ht⟩) hS.2.2 dX6_means_40
  · refine lv_aload_n hx hb dX6_means_19 rfl (lv_at hl 0 rfl) ?_
    refine lv_iload_n hx hb dX6_means_20 rfl (lv_at hl 1 rfl) ?_
    refine lv_aload_n hx hb dX6_means_21 rfl (lv_at hl 0 rfl) ?_
    refine xw_get hx hb hts hin6 hown hK hP (by decide) fo62 rfl 1 (by decide) hf13 rfl rfl dX6_means_22 ?_
    refine xi_i2l hx hb (by omega) dX6_means_25 ?_
    refine lv_lconst (v := lZ (1)) hx hb dX6_means_26 (by decide) ?_
    refine va_callv (va_runV (As := [.int (nI (i)), .long (lZ (((Wt : Nat) : Int))), .long (lZ (1))]) (rest := []) ⟨hx, hb, hml, hown, hts⟩ (mX6_own l hD (w := w) (ln := ln) (t := t) (u := u) fo62 fa73 fa74 (by omega) (by omega) (by omega)) (cwV 3 hts gX6_means_X6_own rfl rfl rfl (by decide +kernel) ⟨Nat.le_of_ble_eq_true rfl, Nat.le_of_ble_eq_true rfl⟩) ⟨xB_blind, va_recv hK hP (ci := 6) rfl (xw_is (by decide) fo62), fun U hU hW => ⟨rfl, by rw [hU]; exact hP, va_K.moved hW.alike hK, va_Nw.warmM hW hN⟩⟩ rfl rfl hl.1 rfl (lv_room (Nat.le_of_ble_eq_true rfl)) dX6_means_27 ⟨Nat.le_of_ble_eq_true rfl, Nat.le_of_ble_eq_true rfl⟩) hS (fun _ _ h => h) (fun _ h => h) (fun g9 tZ H locs ht hvm hwg9 hB hzZ hkZ hS => ?_)
    obtain ⟨hP, -⟩ := hB
    rw [ht] at hP
    obtain ⟨fg9_n0, fg9_n1, fg9_n2, hcg9⟩ := hwg9
    have fg9_k0 : g9 (71) = .inl (cJ, 169, .inr (.inl (fA))) := (hcg9 (71) (by decide) (by decide) (by decide)).trans kf71
    have fg9_k1 : g9 (72) = .inl (cJ, 169, .inr (.inl (fB))) := (hcg9 (72) (by decide) (by decide) (by decide)).trans kf72
    have fg9_k2 : g9 (67) = .inl (cI, 13, .inl (f7)) := (hcg9 (67) (by decide) (by decide) (by decide)).trans kf67
    have fg9_k3 : g9 (68) = .inl (cI, 13, .inl (f8)) := (hcg9 (68) (by decide) (by decide) (by decide)).trans kf68
    have fg9_k4 : g9 (69) = .inl (cI, 52, .inl (f9)) := (hcg9 (69) (by decide) (by decide) (by decide)).trans kf69
    have fg9_k5 : g9 (70) = .inl (cI, 6, .inl (f0)) := (hcg9 (70) (by decide) (by decide) (by decide)).trans kf70
    have fg9_k6 : g9 (63) = .inl (cI, 4, .inl (fw)) := (hcg9 (63) (by decide) (by decide) (by decide)).trans kf63
    have fg9_k7 : g9 (64) = .inl (cI, 8, .inl (fsz)) := (hcg9 (64) (by decide) (by decide) (by decide)).trans kf64
    have fg9_k8 : g9 (65) = .inl (cI, 40, .inl (fwd)) := (hcg9 (65) (by decide) (by decide) (by decide)).trans kf65
    have hfrg9 : ∀ j : Nat, j ≠ 62 → j ≠ 67 → j ≠ 68 → j ≠ 69 → j ≠ 70 → j ≠ 71 → j ≠ 72 → j ≠ 73 → j ≠ 74 → g9 j = g j := fun j h0 h1 h2 h3 h4 h5 h6 h7 h8 => (hcg9 j h0 h7 h8).trans (hfrgl11_5 j h0 h1 h2 h3 h4 h5 h6 h7 h8)
    refine lv_iinc (v := nI (i + 1)) (lv' := [(2, .int (nI (i + 1))), (0, .ref (ad (62)))]) hx hb dX6_means_30 hl (k := 1) rfl (nI_add (i) 1) (by decide) rfl (fun ls hl => ?_)
    refine lv_goto (tgt := 11) hx hb dX6_means_33 (by decide) ?_
    exact ih11 (i + 1, vp_updL (fC) (i) (lZ ((Rat.divInt (((Wt : Nat) : Int)) (1)).num)), vp_updL (fD) (i) (lZ (((Rat.divInt (((Wt : Nat) : Int)) (1)).den : Int))), lZ ((Rat.divInt (((Wt : Nat) : Int)) (1)).num), lZ (((Rat.divInt (((Wt : Nat) : Int)) (1)).den : Int))) g9 H locs ls ⟨(by omega), (fun x hx => if e : x = i then by rw [e, pk_uLs, pk_uLs]; exact ⟨rfl, rfl⟩ else by rw [pk_uLn e, pk_uLn e]; exact hRv x (by omega)), fg9_n0, fg9_k0, fg9_k1, fg9_k2, fg9_k3, fg9_k4, fg9_k5, fg9_k6, fg9_k7, fg9_k8, fg9_n1, fg9_n2, hfrg9, hP, hS, (lv_sub hl [1, 0] rfl)⟩ (by first | omega | (dsimp only; omega))

set_option maxHeartbeats 4000000 in
set_option maxRecDepth 100000 in
/-- chance -/
theorem mX6_chance (l : Launch) {D : va_G} {cI cJ cZ cW : ClassId} {ad : Nat → Nat} {A : Nat → Prop} (hD : ∀ g, va_D A (xw 81 ad g)) {g : Nat → va_E} {q Wt T : Nat} {w ln t : Nat → Nat} {u : Nat → Nat → Nat} {tp bt : Int64} {li s0 : Nat} {sq : Int32} {nu de : Int64} {fw : Nat → Int32} {fsz : Nat → Int32} {fwd : Nat → Int32} {fos : Nat → Int32} {foz : Nat → Int32} {fgo : Nat → Int32} {frw : Nat → Int32} {fan : Nat → Int64} {fad : Nat → Int64} {frn : Nat → Int64} {frd : Nat → Int64}  (fo62 : g (62) = .inr (6, [.int (nI (q)), .int (nI (Wt)), .ref (ad (63)), .ref (ad (64)), .ref (ad (65)), .ref (ad (66)), .int (nI (T)), .long (tp), .long (bt), .long (nu), .long (de), .int (sq), .ref (ad (67)), .ref (ad (68)), .ref (ad (69)), .ref (ad (70)), .ref (ad (71)), .ref (ad (72)), .ref (ad (73)), .ref (ad (74)), .ref (ad (75)), .ref (ad (76)), .ref (ad (77)), .ref (ad (78)), .ref (ad (79)), .ref (ad (80))])) (fa63 : g (63) = .inl (cI, 4, .inl (fw))) (fa64 : g (64) = .inl (cI, 8, .inl (fsz))) (fa65 : g (65) = .inl (cI, 40, .inl (fwd))) (fa67 : g (67) = .inl (cI, 13, .inl (fos))) (fa68 : g (68) = .inl (cI, 13, .inl (foz))) (fa69 : g (69) = .inl (cI, 52, .inl (fgo))) (fa70 : g (70) = .inl (cI, 6, .inl (frw))) (fa71 : g (71) = .inl (cJ, 169, .inr (.inl (fan)))) (fa72 : g (72) = .inl (cJ, 169, .inr (.inl (fad)))) (fa73 : g (73) = .inl (cJ, 13, .inr (.inl (frn)))) (fa74 : g (74) = .inl (cJ, 13, .inr (.inl (frd))))  (hfw : ∀ j, j < 4 → fw j = nI (w j)) (hsz : ∀ k, k < 8 → fsz k = nI (ln k)) (hwl : ∀ k j, k < 8 → j < ln k → fwd (5 * k + j) = nI (u k j))         (hq2 : 2 ≤ q) (hq4 : q ≤ 4) (hln : ∀ k, ln k ≤ 5) (hul : ∀ k j, j < ln k → u k j < q) (hT : T ≤ 300) (ht : ∀ j, j < T → t j < q) (hw1 : ∀ j, j < q → 1 ≤ w j) (hw : ∀ j, j < 4 → w j ≤ 4) (hWt : Wt ≤ 4) (hli : li < 256) (hlb : ∀ s, s < 8 → btL li s → 0 < ln s) (hl3 : cntS (fun s => decide (btL li s)) (8) ≤ 3) (hl0 : cntS (fun s => decide (btL li s)) (8) ≠ 0) (hs0 : s0 < 8) (hfit : ∀ ns sl sz gof, ChI q ln u li ns sl sz gof → gjFit (mkA Wt w gof q ns (fun x => Rat.divInt (hitZ w gof x s0 q) 1)) ns) : Met l yX6_chance wsX6_chance ({ frames := 5, cells := 0, slots := 0, locals := 140 }) (va_Pc [.ref (ad (62)), .int (nI (li)), .int (nI (s0))] (xB D (xT cI cJ cZ cW) ad g)) (va_Qv (fun g2 => ∃ (ns : Nat) (sl sz gof : Nat → Nat) (f7 f8 f9 f0 : Nat → Int32) (fA fB fC fD : Nat → Int64), ChI q ln u li ns sl sz gof ∧ (∀ a x, a < ns → x < q → f9 (4 * a + x) = nI (gof (4 * a + x))) ∧ mB fC fD ns (gj (mkA Wt w gof q ns (fun x => Rat.divInt (hitZ w gof x s0 q) 1)) ns) ∧ g2 62 = .inr (6, [.int (nI (q)), .int (nI (Wt)), .ref (ad (63)), .ref (ad (64)), .ref (ad (65)), .ref (ad (66)), .int (nI (T)), .long (tp), .long (bt), .long (lZ ((gj (mkA Wt w gof q ns (fun x => Rat.divInt (hitZ w gof x s0 q) 1)) ns 0 ns).num)), .long (lZ (((gj (mkA Wt w gof q ns (fun x => Rat.divInt (hitZ w gof x s0 q) 1)) ns 0 ns).den : Int))), .int (nI (ns)), .ref (ad (67)), .ref (ad (68)), .ref (ad (69)), .ref (ad (70)), .ref (ad (71)), .ref (ad (72)), .ref (ad (73)), .ref (ad (74)), .ref (ad (75)), .ref (ad (76)), .ref (ad (77)), .ref (ad (78)), .ref (ad (79)), .ref (ad (80))]) ∧ g2 67 = .inl (cI, 13, .inl (f7)) ∧ g2 68 = .inl (cI, 13, .inl (f8)) ∧ g2 69 = .inl (cI, 52, .inl (f9)) ∧ g2 70 = .inl (cI, 6, .inl (f0)) ∧ g2 71 = .inl (cJ, 169, .inr (.inl (fA))) ∧ g2 72 = .inl (cJ, 169, .inr (.inl (fB))) ∧ g2 73 = .inl (cJ, 13, .inr (.inl (fC))) ∧ g2 74 = .inl (cJ, 13, .inr (.inl (fD))) ∧ ∀ j : Nat, j ≠ 62 → j ≠ 67 → j ≠ 68 → j ≠ 69 → j ≠ 70 → j ≠ 71 → j ≠ 72 → j ≠ 73 → j ≠ 74 → g2 j = g j) (xB D (xT cI cJ cZ cW) ad) A) 0 0 A := by
  refine Met.ofW (cc := cX6_chance) (maxL := 7) (ret := none) (by decide) rfl ?_
  intro p e s m args below meth c s₁ B hml hv
  obtain ⟨rfl, hP, hK, hN⟩ := hv
  have hx := B.exec
  have hb := B.bytes
  have hr := B.returns
  have hts := atoms_spec (ws := wsX6_chance) B.pre
  have hown : s.vm.findClass RX6 = some m.cls := findClass_of_methodNamed B.named
  have hlocks := B.notSynchronized
  have hS : va_S A s.heap s.heap [] := va_S.rf
  have hin6 : ∀ w ∈ wsX60, w ∈ wsX6_chance := by decide +kernel
  have hf7 := hts (.fieldLink RX6 7 "LettersByLotModel" "q" "I") (by decide +kernel)
  have hf16 := hts (.fieldLink RX6 16 "LettersByLotModel" "weight" "[I") (by decide +kernel)
  have hf39 := hts (.fieldLink RX6 39 "LettersByLotModel" "goes" "[I") (by decide +kernel)
  have hf52 := hts (.fieldLink RX6 52 "LettersByLotModel" "rn" "[J") (by decide +kernel)
  have hf55 := hts (.fieldLink RX6 55 "LettersByLotModel" "rd" "[J") (by decide +kernel)
  have hf130 := hts (.fieldLink RX6 130 "LettersByLotModel" "states" "I") (by decide +kernel)
  have hl := lv_entry ([.ref (ad (62)), .int (nI (li)), .int (nI (s0))]) (n := 7) (Nat.le_of_ble_eq_true rfl)
  rw [lg_entry_eq]
  generalize (lg_sl ([.ref (ad (62)), .int (nI (li)), .int (nI (s0))]) ++ List.replicate (7 - (lg_sl ([.ref (ad (62)), .int (nI (li)), .int (nI (s0))])).length) Slot.unset).toArray = ls at hl ⊢
  have hl : lv_has ls 7 [(0, .ref (ad (62))), (1, .int (nI (li))), (2, .int (nI (s0)))] := hl
  refine lv_aload_n hx hb dX6_chance_0 rfl (lv_at hl 0 rfl) ?_
  refine lv_iload_n hx hb dX6_chance_1 rfl (lv_at hl 1 rfl) ?_
  refine va_callv (va_runV (As := [.int (nI (li))]) (rest := []) ⟨hx, hb, hml, hown, hts⟩ (mX6_makes l hD (w := w) (ln := ln) (t := t) (u := u) (li := li) fo62 fa64 fa65 fa67 fa68 fa69 fa70 hsz hwl hq2 hq4 hln hul hT ht hli hlb hl3 hl0) (cwV 1 hts gX6_chance_X6_makes rfl rfl rfl (by decide +kernel) ⟨Nat.le_of_ble_eq_true rfl, Nat.le_of_ble_eq_true rfl⟩) ⟨xB_blind, va_recv hK hP (ci := 6) rfl (xw_is (by decide) fo62), fun U hU hW => ⟨rfl, by rw [hU]; exact hP, va_K.moved hW.alike hK, va_Nw.warmM hW hN⟩⟩ rfl rfl hl.1 rfl (lv_room (Nat.le_of_ble_eq_true rfl)) dX6_chance_2 ⟨Nat.le_of_ble_eq_true rfl, Nat.le_of_ble_eq_true rfl⟩) hS (fun _ _ h => h) (fun _ h => h) (fun g1 tZ H locs ht hvm hwg1 hB hzZ hkZ hS => ?_)
  obtain ⟨hP, -⟩ := hB
  rw [ht] at hP
  obtain ⟨ns, sl, sz, gof, f7, f8, f9, f0, hCh, hos, hoz, hgo, fg1_n0, fg1_n1, fg1_n2, fg1_n3, fg1_n4, hcg1⟩ := hwg1
  have fg1_k0 : g1 (63) = .inl (cI, 4, .inl (fw)) := (hcg1 (63) (by decide) (by decide) (by decide) (by decide) (by decide)).trans fa63
  have fg1_k1 : g1 (64) = .inl (cI, 8, .inl (fsz)) := (hcg1 (64) (by decide) (by decide) (by decide) (by decide) (by decide)).trans fa64
  have fg1_k2 : g1 (65) = .inl (cI, 40, .inl (fwd)) := (hcg1 (65) (by decide) (by decide) (by decide) (by decide) (by decide)).trans fa65
  have fg1_k3 : g1 (71) = .inl (cJ, 169, .inr (.inl (fan))) := (hcg1 (71) (by decide) (by decide) (by decide) (by decide) (by decide)).trans fa71
  have fg1_k4 : g1 (72) = .inl (cJ, 169, .inr (.inl (fad))) := (hcg1 (72) (by decide) (by decide) (by decide) (by decide) (by decide)).trans fa72
  have fg1_k5 : g1 (73) = .inl (cJ, 13, .inr (.inl (frn))) := (hcg1 (73) (by decide) (by decide) (by decide) (by decide) (by decide)).trans fa73
  have fg1_k6 : g1 (74) = .inl (cJ, 13, .inr (.inl (frd))) := (hcg1 (74) (by decide) (by decide) (by decide) (by decide) (by decide)).trans fa74
  have hfrg1 : ∀ j : Nat, j ≠ 62 → j ≠ 67 → j ≠ 68 → j ≠ 69 → j ≠ 70 → j ≠ 71 → j ≠ 72 → j ≠ 73 → j ≠ 74 → g1 j = g j := fun j h0 h1 h2 h3 h4 h5 h6 h7 h8 => (hcg1 j h0 h1 h2 h3 h4).trans ((fun _ _ _ _ _ _ _ _ _ _ => rfl) j h0 h1 h2 h3 h4 h5 h6 h7 h8)
  have hns := hCh.2.1
  have hns1 := hCh.1
  have hgb := hCh.gb
  refine lv_aload_n hx hb dX6_chance_5 rfl (lv_at hl 0 rfl) ?_
  refine va_callv (va_runV (As := []) (rest := []) ⟨hx, hb, hml, hown, hts⟩ (mX6_begins l hD (w := w) (ln := ln) (t := t) (u := u) (gof := gof) fg1_n0 fg1_k0 fg1_n3 fg1_k3 fg1_k4 hfw hgo hgb hq4 hns hWt hw) (cwV 0 hts gX6_chance_X6_begins rfl rfl rfl (by decide +kernel) ⟨Nat.le_of_ble_eq_true rfl, Nat.le_of_ble_eq_true rfl⟩) ⟨xB_blind, va_recv hK hP (ci := 6) rfl (xw_is (by decide) fg1_n0), fun U hU hW => ⟨rfl, by rw [hU]; exact hP, va_K.moved hW.alike hK, va_Nw.warmM hW hN⟩⟩ rfl rfl hl.1 rfl (lv_room (Nat.le_of_ble_eq_true rfl)) dX6_chance_6 ⟨Nat.le_of_ble_eq_true rfl, Nat.le_of_ble_eq_true rfl⟩) hS (fun _ _ h => h) (fun _ h => h) (fun g3 tZ H locs ht hvm hwg3 hB hzZ hkZ hS => ?_)
  obtain ⟨hP, -⟩ := hB
  rw [ht] at hP
  obtain ⟨fA, fB, hBg, fg3_n0, fg3_n1, hcg3⟩ := hwg3
  have fg3_k0 : g3 (62) = .inr (6, [.int (nI (q)), .int (nI (Wt)), .ref (ad (63)), .ref (ad (64)), .ref (ad (65)), .ref (ad (66)), .int (nI (T)), .long (tp), .long (bt), .long (nu), .long (de), .int (nI (ns)), .ref (ad (67)), .ref (ad (68)), .ref (ad (69)), .ref (ad (70)), .ref (ad (71)), .ref (ad (72)), .ref (ad (73)), .ref (ad (74)), .ref (ad (75)), .ref (ad (76)), .ref (ad (77)), .ref (ad (78)), .ref (ad (79)), .ref (ad (80))]) := (hcg3 (62) (by decide) (by decide)).trans fg1_n0
  have fg3_k1 : g3 (67) = .inl (cI, 13, .inl (f7)) := (hcg3 (67) (by decide) (by decide)).trans fg1_n1
  have fg3_k2 : g3 (68) = .inl (cI, 13, .inl (f8)) := (hcg3 (68) (by decide) (by decide)).trans fg1_n2
  have fg3_k3 : g3 (69) = .inl (cI, 52, .inl (f9)) := (hcg3 (69) (by decide) (by decide)).trans fg1_n3
  have fg3_k4 : g3 (70) = .inl (cI, 6, .inl (f0)) := (hcg3 (70) (by decide) (by decide)).trans fg1_n4
  have fg3_k5 : g3 (63) = .inl (cI, 4, .inl (fw)) := (hcg3 (63) (by decide) (by decide)).trans fg1_k0
  have fg3_k6 : g3 (64) = .inl (cI, 8, .inl (fsz)) := (hcg3 (64) (by decide) (by decide)).trans fg1_k1
  have fg3_k7 : g3 (65) = .inl (cI, 40, .inl (fwd)) := (hcg3 (65) (by decide) (by decide)).trans fg1_k2
  have fg3_k8 : g3 (73) = .inl (cJ, 13, .inr (.inl (frn))) := (hcg3 (73) (by decide) (by decide)).trans fg1_k5
  have fg3_k9 : g3 (74) = .inl (cJ, 13, .inr (.inl (frd))) := (hcg3 (74) (by decide) (by decide)).trans fg1_k6
  have hfrg3 : ∀ j : Nat, j ≠ 62 → j ≠ 67 → j ≠ 68 → j ≠ 69 → j ≠ 70 → j ≠ 71 → j ≠ 72 → j ≠ 73 → j ≠ 74 → g3 j = g j := fun j h0 h1 h2 h3 h4 h5 h6 h7 h8 => (hcg3 j h5 h6).trans (hfrg1 j h0 h1 h2 h3 h4 h5 h6 h7 h8)
  refine lv_iconst (v := nI (0)) hx hb dX6_chance_9 (by decide) ?_
  refine lv_istore_n (lv' := [(3, .int (nI (0))), (0, .ref (ad (62))), (1, .int (nI (li))), (2, .int (nI (s0)))]) hx hb dX6_chance_10 rfl hl (by decide) rfl (fun ls hl => ?_)
  refine xloopW (G := fun H locs fr => W p l e _ s m _ below meth c H locs _ _ _ fr) (σ := Nat × (Nat → Int64) × (Nat → Int64) × Int64 × Int64) (fun (i, fC, fD, nx, dx) ls => F0 m 11 ls []) (fun (i, fC, fD, nx, dx) gl11_5 H locs ls => (i ≤ ns) ∧ (∀ x, x < i → fC x = lZ (((fun x => Rat.divInt (hitZ w gof x s0 q) 1) x).num) ∧ fD x = lZ ((((fun x => Rat.divInt (hitZ w gof x s0 q) 1) x).den : Int))) ∧ gl11_5 (62) = .inr (6, [.int (nI (q)), .int (nI (Wt)), .ref (ad (63)), .ref (ad (64)), .ref (ad (65)), .ref (ad (66)), .int (nI (T)), .long (tp), .long (bt), .long (nx), .long (dx), .int (nI (ns)), .ref (ad (67)), .ref (ad (68)), .ref (ad (69)), .ref (ad (70)), .ref (ad (71)), .ref (ad (72)), .ref (ad (73)), .ref (ad (74)), .ref (ad (75)), .ref (ad (76)), .ref (ad (77)), .ref (ad (78)), .ref (ad (79)), .ref (ad (80))]) ∧ gl11_5 (71) = .inl (cJ, 169, .inr (.inl (fA))) ∧ gl11_5 (72) = .inl (cJ, 169, .inr (.inl (fB))) ∧ gl11_5 (67) = .inl (cI, 13, .inl (f7)) ∧ gl11_5 (68) = .inl (cI, 13, .inl (f8)) ∧ gl11_5 (69) = .inl (cI, 52, .inl (f9)) ∧ gl11_5 (70) = .inl (cI, 6, .inl (f0)) ∧ gl11_5 (63) = .inl (cI, 4, .inl (fw)) ∧ gl11_5 (64) = .inl (cI, 8, .inl (fsz)) ∧ gl11_5 (65) = .inl (cI, 40, .inl (fwd)) ∧ gl11_5 (73) = .inl (cJ, 13, .inr (.inl (fC))) ∧ gl11_5 (74) = .inl (cJ, 13, .inr (.inl (fD))) ∧ (∀ j : Nat, j ≠ 62 → j ≠ 67 → j ≠ 68 → j ≠ 69 → j ≠ 70 → j ≠ 71 → j ≠ 72 → j ≠ 73 → j ≠ 74 → gl11_5 j = g j) ∧ va_P D vwCl (xw 81 ad gl11_5) H ∧ va_S A s.heap H locs ∧ lv_has ls 7 [(0, .ref (ad (62))), (2, .int (nI (s0))), (3, .int (nI (i)))]) (fun (i, fC, fD, nx, dx) => ns - i) ?_ (0, frn, frd, nu, de) g3 H locs ls ⟨(Nat.zero_le _), (fun x hx => absurd hx (by omega)), fg3_k0, fg3_n0, fg3_n1, fg3_k1, fg3_k2, fg3_k3, fg3_k4, fg3_k5, fg3_k6, fg3_k7, fg3_k8, fg3_k9, hfrg3, hP, hS, (lv_sub hl [1, 3, 0] rfl)⟩
  rintro ⟨i, fC, fD, nx, dx⟩ gl11_5 H locs ls ⟨hi, hRv, fo62, kf71, kf72, kf67, kf68, kf69, kf70, kf63, kf64, kf65, fa73, fa74, hfrgl11_5, hP, hS, hl⟩ ih11
  refine lv_iload_n hx hb dX6_chance_11 rfl (lv_at hl 2 rfl) ?_
  refine lv_aload_n hx hb dX6_chance_12 rfl (lv_at hl 0 rfl) ?_
  refine xw_get hx hb hts hin6 hown hK hP (by decide) fo62 rfl 11 (by decide) hf130 rfl rfl dX6_chance_13 ?_
  refine xi_icmp_ge (tgt := 89) hx hb (by omega) (by omega) dX6_chance_16 (by decide) (fun c16_6 => ?_) (fun c16_6 => ?_)
  · refine lv_aload_n hx hb dX6_chance_89 rfl (lv_at hl 0 rfl) ?_
    refine va_callv (va_runV (As := []) (rest := []) ⟨hx, hb, hml, hown, hts⟩ (mX6_solves l hD (w := w) (ln := ln) (t := t) (u := u) (A0 := mkA Wt w gof q ns (fun x => Rat.divInt (hitZ w gof x s0 q) 1)) fo62 kf71 kf72 fa73 fa74 (mkA_A hBg) (mkA_B (fun x hx => hRv x (by omega))) hns (hfit ns sl sz gof hCh)) (cwV 0 hts gX6_chance_X6_solves rfl rfl rfl (by decide +kernel) ⟨Nat.le_of_ble_eq_true rfl, Nat.le_of_ble_eq_true rfl⟩) ⟨xB_blind, va_recv hK hP (ci := 6) rfl (xw_is (by decide) fo62), fun U hU hW => ⟨rfl, by rw [hU]; exact hP, va_K.moved hW.alike hK, va_Nw.warmM hW hN⟩⟩ rfl rfl hl.1 rfl (lv_room (Nat.le_of_ble_eq_true rfl)) dX6_chance_90 ⟨Nat.le_of_ble_eq_true rfl, Nat.le_of_ble_eq_true rfl⟩) hS (fun _ _ h => h) (fun _ h => h) (fun g7 tZ H locs ht hvm hwg7 hB hzZ hkZ hS => ?_)
    obtain ⟨hP, -⟩ := hB
    rw [ht] at hP
    obtain ⟨fA3, fB3, fC3, fD3, nx3, dx3, hSv, fg7_n0, fg7_n1, fg7_n2, fg7_n3, fg7_n4, hcg7⟩ := hwg7
    have fg7_k0 : g7 (67) = .inl (cI, 13, .inl (f7)) := (hcg7 (67) (by decide) (by decide) (by decide) (by decide) (by decide)).trans kf67
    have fg7_k1 : g7 (68) = .inl (cI, 13, .inl (f8)) := (hcg7 (68) (by decide) (by decide) (by decide) (by decide) (by decide)).trans kf68
    have fg7_k2 : g7 (69) = .inl (cI, 52, .inl (f9)) := (hcg7 (69) (by decide) (by decide) (by decide) (by decide) (by decide)).trans kf69
    have fg7_k3 : g7 (70) = .inl (cI, 6, .inl (f0)) := (hcg7 (70) (by decide) (by decide) (by decide) (by decide) (by decide)).trans kf70
    have fg7_k4 : g7 (63) = .inl (cI, 4, .inl (fw)) := (hcg7 (63) (by decide) (by decide) (by decide) (by decide) (by decide)).trans kf63
    have fg7_k5 : g7 (64) = .inl (cI, 8, .inl (fsz)) := (hcg7 (64) (by decide) (by decide) (by decide) (by decide) (by decide)).trans kf64
    have fg7_k6 : g7 (65) = .inl (cI, 40, .inl (fwd)) := (hcg7 (65) (by decide) (by decide) (by decide) (by decide) (by decide)).trans kf65
    have hfrg7 : ∀ j : Nat, j ≠ 62 → j ≠ 67 → j ≠ 68 → j ≠ 69 → j ≠ 70 → j ≠ 71 → j ≠ 72 → j ≠ 73 → j ≠ 74 → g7 j = g j := fun j h0 h1 h2 h3 h4 h5 h6 h7 h8 => (hcg7 j h0 h5 h6 h7 h8).trans (hfrgl11_5 j h0 h1 h2 h3 h4 h5 h6 h7 h8)
    refine lv_aload_n hx hb dX6_chance_93 rfl (lv_at hl 0 rfl) ?_
    refine lv_aload_n hx hb dX6_chance_94 rfl (lv_at hl 0 rfl) ?_
    refine xw_get hx hb hts hin6 hown hK hP (by decide) fg7_n0 rfl 18 (by decide) hf52 rfl rfl dX6_chance_95 ?_
    refine lv_iconst (v := nI (0)) hx hb dX6_chance_98 (by decide) ?_
    refine xw_lald hx hb hK hP (by decide) 1 fg7_n3 rfl (by omega) (by decide) dX6_chance_99 ?_
    rw [(hSv 0 (by omega)).1]
    refine lv_aload_n hx hb dX6_chance_100 rfl (lv_at hl 0 rfl) ?_
    refine xw_get hx hb hts hin6 hown hK hP (by decide) fg7_n0 rfl 19 (by decide) hf55 rfl rfl dX6_chance_101 ?_
    refine lv_iconst (v := nI (0)) hx hb dX6_chance_104 (by decide) ?_
    refine xw_lald hx hb hK hP (by decide) 1 fg7_n4 rfl (by omega) (by decide) dX6_chance_105 ?_
    rw [(hSv 0 (by omega)).2]
    refine va_callv (va_runV (As := [.long (lZ ((gj (mkA Wt w gof q ns (fun x => Rat.divInt (hitZ w gof x s0 q) 1)) ns 0 ns).num)), .long (lZ (((gj (mkA Wt w gof q ns (fun x => Rat.divInt (hitZ w gof x s0 q) 1)) ns 0 ns).den : Int)))]) (rest := []) ⟨hx, hb, hml, hown, hts⟩ (mX6_set l hD (w := w) (ln := ln) (t := t) (u := u) (a := (gj (mkA Wt w gof q ns (fun x => Rat.divInt (hitZ w gof x s0 q) 1)) ns 0 ns).num) (b := ((gj (mkA Wt w gof q ns (fun x => Rat.divInt (hitZ w gof x s0 q) 1)) ns 0 ns).den : Int)) fg7_n0 ⟨((hfit ns sl sz gof hCh).2 0 (by omega)).1, ((hfit ns sl sz gof hCh).2 0 (by omega)).2.1⟩ ⟨by have h9 := (gj (mkA Wt w gof q ns (fun x => Rat.divInt (hitZ w gof x s0 q) 1)) ns 0 ns).den_pos; omega, ((hfit ns sl sz gof hCh).2 0 (by omega)).2.2⟩) (cwV 2 hts gX6_chance_X6_set rfl rfl rfl (by decide +kernel) ⟨Nat.le_of_ble_eq_true rfl, Nat.le_of_ble_eq_true rfl⟩) ⟨xB_blind, va_recv hK hP (ci := 6) rfl (xw_is (by decide) fg7_n0), fun U hU hW => ⟨rfl, by rw [hU]; exact hP, va_K.moved hW.alike hK, va_Nw.warmM hW hN⟩⟩ rfl rfl hl.1 rfl (lv_room (Nat.le_of_ble_eq_true rfl)) dX6_chance_106 ⟨Nat.le_of_ble_eq_true rfl, Nat.le_of_ble_eq_true rfl⟩) hS (fun _ _ h => h) (fun _ h => h) (fun g9 tZ H locs ht hvm hwg9 hB hzZ hkZ hS => ?_)
    obtain ⟨hP, -⟩ := hB
    rw [ht] at hP
    obtain ⟨fg9_n0, hcg9⟩ := hwg9
    have fg9_k0 : g9 (71) = .inl (cJ, 169, .inr (.inl (fA3))) := (hcg9 (71) (by decide)).trans fg7_n1
    have fg9_k1 : g9 (72) = .inl (cJ, 169, .inr (.inl (fB3))) := (hcg9 (72) (by decide)).trans fg7_n2
    have fg9_k2 : g9 (73) = .inl (cJ, 13, .inr (.inl (fC3))) := (hcg9 (73) (by decide)).trans fg7_n3
    have fg9_k3 : g9 (74) = .inl (cJ, 13, .inr (.inl (fD3))) := (hcg9 (74) (by decide)).trans fg7_n4
    have fg9_k4 : g9 (67) = .inl (cI, 13, .inl (f7)) := (hcg9 (67) (by decide)).trans fg7_k0
    have fg9_k5 : g9 (68) = .inl (cI, 13, .inl (f8)) := (hcg9 (68) (by decide)).trans fg7_k1
    have fg9_k6 : g9 (69) = .inl (cI, 52, .inl (f9)) := (hcg9 (69) (by decide)).trans fg7_k2
    have fg9_k7 : g9 (70) = .inl (cI, 6, .inl (f0)) := (hcg9 (70) (by decide)).trans fg7_k3
    have fg9_k8 : g9 (63) = .inl (cI, 4, .inl (fw)) := (hcg9 (63) (by decide)).trans fg7_k4
    have fg9_k9 : g9 (64) = .inl (cI, 8, .inl (fsz)) := (hcg9 (64) (by decide)).trans fg7_k5
    have fg9_k10 : g9 (65) = .inl (cI, 40, .inl (fwd)) := (hcg9 (65) (by decide)).trans fg7_k6
    have hfrg9 : ∀ j : Nat, j ≠ 62 → j ≠ 67 → j ≠ 68 → j ≠ 69 → j ≠ 70 → j ≠ 71 → j ≠ 72 → j ≠ 73 → j ≠ 74 → g9 j = g j := fun j h0 h1 h2 h3 h4 h5 h6 h7 h8 => (hcg9 j h0).trans (hfrg7 j h0 h1 h2 h3 h4 h5 h6 h7 h8)
    rw [divInt_nd] at fg9_n0
    exact W.vret hx hb hr (fun tZ ht hW => ⟨⟨g9, rfl, ⟨ns, sl, sz, gof, f7, f8, f9, f0, fA3, fB3, fC3, fD3, hCh, hgo, hSv, fg9_n0, fg9_k4, fg9_k5, fg9_k6, fg9_k7, fg9_k0, fg9_k1, fg9_k2, fg9_k3, hfrg9⟩, by rw [ht]; exact hP, va_K.moved hW.alike hK, va_Nw.warmM hW hN⟩, hS.F ht⟩) hS.2.2 dX6_chance_109
  · refine lv_lconst (v := lZ (0)) hx hb dX6_chance_19 (by decide) ?_
    refine lv_lstore (lv' := [(4, .long (lZ (0))), (0, .ref (ad (62))), (2, .int (nI (s0))), (3, .int (nI (i)))]) hx hb dX6_chance_20 hl (by decide) rfl (fun ls hl => ?_)
    refine lv_iconst (v := nI (0)) hx hb dX6_chance_22 (by decide) ?_
    refine lv_istore (lv' := [(6, .int (nI (0))), (4, .long (lZ (0))), (0, .ref (ad (62))), (2, .int (nI (s0))), (3, .int (nI (i)))]) hx hb dX6_chance_23 hl (by decide) rfl (fun ls hl => ?_)
    refine xloop (G := fun fr => W p l e _ s m _ below meth c _ _ _ _ _ fr) (σ := Nat) (fun c0 ls => F0 m 25 ls []) (fun c0 ls => (c0 ≤ q) ∧ lv_has ls 7 [(0, .ref (ad (62))), (2, .int (nI (s0))), (3, .int (nI (i))), (4, .long (lZ (hitZ w gof i s0 c0))), (6, .int (nI (c0)))]) (fun c0 => q - c0) ?_ (0) ls ⟨(Nat.zero_le _), (lv_sub hl [2, 3, 4, 1, 0] rfl)⟩
    rintro c0 ls ⟨hc0, hl⟩ ih25
    refine lv_iload hx hb dX6_chance_25 (lv_at hl 4 rfl) ?_
    refine lv_aload_n hx hb dX6_chance_27 rfl (lv_at hl 0 rfl) ?_
    refine xw_get hx hb hts hin6 hown hK hP (by decide) fo62 rfl 0 (by decide) hf7 rfl rfl dX6_chance_28 ?_
    refine xi_icmp_ge (tgt := 75) hx hb (by omega) (by omega) dX6_chance_31 (by decide) (fun c31_11 => ?_) (fun c31_11 => ?_)
    · refine lv_aload_n hx hb dX6_chance_75 rfl (lv_at hl 0 rfl) ?_
      refine lv_iload_n hx hb dX6_chance_76 rfl (lv_at hl 2 rfl) ?_
      refine lv_lload hx hb dX6_chance_77 (lv_at hl 3 rfl) ?_
      refine lv_lconst (v := lZ (1)) hx hb dX6_chance_79 (by decide) ?_
      refine va_callv (va_runV (As := [.int (nI (i)), .long (lZ (hitZ w gof i s0 c0)), .long (lZ (1))]) (rest := []) ⟨hx, hb, hml, hown, hts⟩ (mX6_own l hD (w := w) (ln := ln) (t := t) (u := u) fo62 fa73 fa74 (by have h9 := hitZ_b (gof := gof) (i := i) (s := s0) hw (c := c0) (by omega); omega) (by omega) (by omega)) (cwV 3 hts gX6_chance_X6_own rfl rfl rfl (by decide +kernel) ⟨Nat.le_of_ble_eq_true rfl, Nat.le_of_ble_eq_true rfl⟩) ⟨xB_blind, va_recv hK hP (ci := 6) rfl (xw_is (by decide) fo62), fun U hU hW => ⟨rfl, by rw [hU]; exact hP, va_K.moved hW.alike hK, va_Nw.warmM hW hN⟩⟩ rfl rfl hl.1 rfl (lv_room (Nat.le_of_ble_eq_true rfl)) dX6_chance_80 ⟨Nat.le_of_ble_eq_true rfl, Nat.le_of_ble_eq_true rfl⟩) hS (fun _ _ h => h) (fun _ h => h) (fun g12 tZ H locs ht hvm hwg12 hB hzZ hkZ hS => ?_)
      obtain ⟨hP, -⟩ := hB
      rw [ht] at hP
      obtain ⟨fg12_n0, fg12_n1, fg12_n2, hcg12⟩ := hwg12
      have fg12_k0 : g12 (71) = .inl (cJ, 169, .inr (.inl (fA))) := (hcg12 (71) (by decide) (by decide) (by decide)).trans kf71
      have fg12_k1 : g12 (72) = .inl (cJ, 169, .inr (.inl (fB))) := (hcg12 (72) (by decide) (by decide) (by decide)).trans kf72
      have fg12_k2 : g12 (67) = .inl (cI, 13, .inl (f7)) := (hcg12 (67) (by decide) (by decide) (by decide)).trans kf67
      have fg12_k3 : g12 (68) = .inl (cI, 13, .inl (f8)) := (hcg12 (68) (by decide) (by decide) (by decide)).trans kf68
      have fg12_k4 : g12 (69) = .inl (cI, 52, .inl (f9)) := (hcg12 (69) (by decide) (by decide) (by decide)).trans kf69
      have fg12_k5 : g12 (70) = .inl (cI, 6, .inl (f0)) := (hcg12 (70) (by decide) (by decide) (by decide)).trans kf70
      have fg12_k6 : g12 (63) = .inl (cI, 4, .inl (fw)) := (hcg12 (63) (by decide) (by decide) (by decide)).trans kf63
      have fg12_k7 : g12 (64) = .inl (cI, 8, .inl (fsz)) := (hcg12 (64) (by decide) (by decide) (by decide)).trans kf64
      have fg12_k8 : g12 (65) = .inl (cI, 40, .inl (fwd)) := (hcg12 (65) (by decide) (by decide) (by decide)).trans kf65
      have hfrg12 : ∀ j : Nat, j ≠ 62 → j ≠ 67 → j ≠ 68 → j ≠ 69 → j ≠ 70 → j ≠ 71 → j ≠ 72 → j ≠ 73 → j ≠ 74 → g12 j = g j := fun j h0 h1 h2 h3 h4 h5 h6 h7 h8 => (hcg12 j h0 h7 h8).trans (hfrgl11_5 j h0 h1 h2 h3 h4 h5 h6 h7 h8)
      refine lv_iinc (v := nI (i + 1)) (lv' := [(3, .int (nI (i + 1))), (0, .ref (ad (62))), (2, .int (nI (s0))), (4, .long (lZ (hitZ w gof i s0 c0))), (6, .int (nI (c0)))]) hx hb dX6_chance_83 hl (k := 2) rfl (nI_add (i) 1) (by decide) rfl (fun ls hl => ?_)
      refine lv_goto (tgt := 11) hx hb dX6_chance_86 (by decide) ?_
      exact ih11 (i + 1, vp_updL (fC) (i) (lZ ((Rat.divInt (hitZ w gof i s0 c0) (1)).num)), vp_updL (fD) (i) (lZ (((Rat.divInt (hitZ w gof i s0 c0) (1)).den : Int))), lZ ((Rat.divInt (hitZ w gof i s0 c0) (1)).num), lZ (((Rat.divInt (hitZ w gof i s0 c0) (1)).den : Int))) g12 H locs ls ⟨(by omega), (fun x hx => if e : x = i then by rw [e, pk_uLs, pk_uLs, show c0 = q by omega]; exact ⟨rfl, rfl⟩ else by rw [pk_uLn e, pk_uLn e]; exact hRv x (by omega)), fg12_n0, fg12_k0, fg12_k1, fg12_k2, fg12_k3, fg12_k4, fg12_k5, fg12_k6, fg12_k7, fg12_k8, fg12_n1, fg12_n2, hfrg12, hP, hS, (lv_sub hl [1, 2, 0] rfl)⟩ (by first | omega | (dsimp only; omega))
    · refine lv_lload hx hb dX6_chance_34 (lv_at hl 3 rfl) ?_
      refine lv_aload_n hx hb dX6_chance_36 rfl (lv_at hl 0 rfl) ?_
      refine xw_get hx hb hts hin6 hown hK hP (by decide) fo62 rfl 14 (by decide) hf39 rfl rfl dX6_chance_37 ?_
      refine lv_iconst (v := nI (4)) hx hb dX6_chance_40 (by decide) ?_
      refine lv_iload_n hx hb dX6_chance_41 rfl (lv_at hl 2 rfl) ?_
      refine xi_mul hx hb dX6_chance_42 ?_
      refine lv_iload hx hb dX6_chance_43 (lv_at hl 4 rfl) ?_
      refine xi_add hx hb dX6_chance_45 ?_
      refine xw_iald hx hb hK hP (by decide) 0 kf69 rfl (by omega) (by decide) dX6_chance_46 ?_
      rw [hgo i c0 (by omega) (by omega)]
      refine lv_bipush (v := nI (100)) hx hb dX6_chance_47 (by decide) ?_
      refine lv_iload_n hx hb dX6_chance_49 rfl (lv_at hl 1 rfl) ?_
      refine xi_add hx hb dX6_chance_50 ?_
      refine xi_icmp_ne (tgt := 65) hx hb (by have h9 := hgb i c0 (by omega) (by omega); omega) (by omega) dX6_chance_51 (by decide) (fun c51_14 => ?_) (fun c51_14 => ?_)
      · refine lv_lconst (v := lZ (0)) hx hb dX6_chance_65 (by decide) ?_
        refine xl_add hx hb dX6_chance_66 ?_
        refine xtopl (y := lZ (hitZ w gof i s0 (c0 + 1))) (congrArg lZ (show _ = hitZ w gof i s0 c0 + (if gof (4 * i + c0) = 100 + s0 then (w c0 : Int) else 0) by rw [if_neg c51_14])) ?_
        refine lv_lstore (lv' := [(4, .long (lZ (hitZ w gof i s0 (c0 + 1)))), (0, .ref (ad (62))), (2, .int (nI (s0))), (3, .int (nI (i))), (6, .int (nI (c0)))]) hx hb dX6_chance_67 hl (by decide) rfl (fun ls hl => ?_)
        refine lv_iinc (v := nI (c0 + 1)) (lv' := [(6, .int (nI (c0 + 1))), (4, .long (lZ (hitZ w gof i s0 (c0 + 1)))), (0, .ref (ad (62))), (2, .int (nI (s0))), (3, .int (nI (i)))]) hx hb dX6_chance_69 hl (k := 4) rfl (nI_add (c0) 1) (by decide) rfl (fun ls hl => ?_)
        refine lv_goto (tgt := 25) hx hb dX6_chance_72 (by decide) ?_
        exact ih25 (c0 + 1) ls ⟨(by omega), (lv_sub hl [2, 3, 4, 1, 0] rfl)⟩ (by first | omega | (dsimp only; omega))
      · refine lv_aload_n hx hb dX6_chance_54 rfl (lv_at hl 0 rfl) ?_
        refine xw_get hx hb hts hin6 hown hK hP (by decide) fo62 rfl 2 (by decide) hf16 rfl rfl dX6_chance_55 ?_
        refine lv_iload hx hb dX6_chance_58 (lv_at hl 4 rfl) ?_
        refine xw_iald hx hb hK hP (by decide) 0 kf63 rfl (by omega) (by decide) dX6_chance_60 ?_
        rw [hfw (c0) (by omega)]
        refine xi_i2l hx hb (by have h9 := hw c0 (by omega); omega) dX6_chance_61 ?_
        refine lv_goto (tgt := 66) hx hb dX6_chance_62 (by decide) ?_
        refine xl_add hx hb dX6_chance_66 ?_
        refine xtopl (y := lZ (hitZ w gof i s0 (c0 + 1))) (congrArg lZ (show _ = hitZ w gof i s0 c0 + (if gof (4 * i + c0) = 100 + s0 then (w c0 : Int) else 0) by rw [if_pos c51_14])) ?_
        refine lv_lstore (lv' := [(4, .long (lZ (hitZ w gof i s0 (c0 + 1)))), (0, .ref (ad (62))), (2, .int (nI (s0))), (3, .int (nI (i))), (6, .int (nI (c0)))]) hx hb dX6_chance_67 hl (by decide) rfl (fun ls hl => ?_)
        refine lv_iinc (v := nI (c0 + 1)) (lv' := [(6, .int (nI (c0 + 1))), (4, .long (lZ (hitZ w gof i s0 (c0 + 1)))), (0, .ref (ad (62))), (2, .int (nI (s0))), (3, .int (nI (i)))]) hx hb dX6_chance_69 hl (k := 4) rfl (nI_add (c0) 1) (by decide) rfl (fun ls hl => ?_)
        refine lv_goto (tgt := 25) hx hb dX6_chance_72 (by decide) ?_
        exact ih25 (c0 + 1) ls ⟨(by omega), (lv_sub hl [2, 3, 4, 1, 0] rfl)⟩ (by first | omega | (dsimp only; omega))
