theorem cntS_mono {P : Nat → Bool} {a : Nat} : ∀ {b : Nat}, a ≤ b → cntS P a ≤ cntS P b
  | 0, h => by rw [show a = 0 by omega]; exact Nat.le_refl _
  | b + 1, h => by
    rcases Nat.lt_or_ge a (b + 1) with h1 | h1
    · have h2 := cntS_mono (P := P) (a := a) (b := b) (by omega)
      have h3 : cntS P (b + 1) = cntS P b + (if P b = true then 1 else 0) := rfl
      rw [h3]
      split <;> omega
    · rw [show a = b + 1 by omega]; exact Nat.le_refl _
/-- W on the diagonal, less the weights of the letters below c that lead from i to j -/
def mtZ (Wt : Nat) (w gof : Nat → Nat) (i j : Nat) : Nat → Int
  | 0 => if i = j then (Wt : Int) else 0
  | c + 1 => mtZ Wt w gof i j c - (if gof (4 * i + c) = j then (w c : Int) else 0)
theorem mtZ_y {Wt : Nat} {w gof : Nat → Nat} {i j c : Nat} (h : gof (4 * i + c) = j) : mtZ Wt w gof i j c - (w c : Int) = mtZ Wt w gof i j (c + 1) := by
  show _ = mtZ Wt w gof i j c - (if gof (4 * i + c) = j then (w c : Int) else 0)
  rw [if_pos h]
theorem mtZ_n {Wt : Nat} {w gof : Nat → Nat} {i j c : Nat} (h : ¬ gof (4 * i + c) = j) : mtZ Wt w gof i j (c + 1) = mtZ Wt w gof i j c := by
  show mtZ Wt w gof i j c - (if gof (4 * i + c) = j then (w c : Int) else 0) = _
  rw [if_neg h, Int.sub_zero]
set_option maxHeartbeats 4000000 in
set_option maxRecDepth 100000 in
/-- makes -/
theorem mX6_makes (l : Launch) {D : va_G} {cI cJ cZ cW : ClassId} {ad : Nat → Nat} {A : Nat → Prop} (hD : ∀ g, va_D A (xw 81 ad g)) {g : Nat → va_E} {q Wt T : Nat} {w ln t : Nat → Nat} {u : Nat → Nat → Nat} {tp bt : Int64} {li : Nat} {sq : Int32} {nu de : Int64} {fsz : Nat → Int32} {fwd : Nat → Int32} {fos : Nat → Int32} {foz : Nat → Int32} {fgo : Nat → Int32} {frw : Nat → Int32}  (fo62 : g (62) = .inr (6, [.int (nI (q)), .int (nI (Wt)), .ref (ad (63)), .ref (ad (64)), .ref (ad (65)), .ref (ad (66)), .int (nI (T)), .long (tp), .long (bt), .long (nu), .long (de), .int (sq), .ref (ad (67)), .ref (ad (68)), .ref (ad (69)), .ref (ad (70)), .ref (ad (71)), .ref (ad (72)), .ref (ad (73)), .ref (ad (74)), .ref (ad (75)), .ref (ad (76)), .ref (ad (77)), .ref (ad (78)), .ref (ad (79)), .ref (ad (80))])) (fa64 : g (64) = .inl (cI, 8, .inl (fsz))) (fa65 : g (65) = .inl (cI, 40, .inl (fwd))) (fa67 : g (67) = .inl (cI, 13, .inl (fos))) (fa68 : g (68) = .inl (cI, 13, .inl (foz))) (fa69 : g (69) = .inl (cI, 52, .inl (fgo))) (fa70 : g (70) = .inl (cI, 6, .inl (frw)))  (hsz : ∀ k, k < 8 → fsz k = nI (ln k)) (hwl : ∀ k j, k < 8 → j < ln k → fwd (5 * k + j) = nI (u k j))     (hq2 : 2 ≤ q) (hq4 : q ≤ 4) (hln : ∀ k, ln k ≤ 5) (hul : ∀ k j, j < ln k → u k j < q) (hT : T ≤ 300) (ht : ∀ j, j < T → t j < q) (hli : li < 256) (hlb : ∀ s, s < 8 → btL li s → 0 < ln s) (hl3 : cntS (fun s => decide (btL li s)) (8) ≤ 3) (hl0 : cntS (fun s => decide (btL li s)) (8) ≠ 0) : Met l yX6_makes wsX6_makes ({ frames := 4, cells := 0, slots := 0, locals := 98 }) (va_Pc [.ref (ad (62)), .int (nI (li))] (xB D (xT cI cJ cZ cW) ad g)) (va_Qv (fun g2 => ∃ (ns : Nat) (sl sz gof : Nat → Nat) (f7 f8 f9 f0 : Nat → Int32), ChI q ln u li ns sl sz gof ∧ (∀ k, k < ns → f7 k = nI (sl k)) ∧ (∀ k, k < ns → f8 k = nI (sz k)) ∧ (∀ a x, a < ns → x < q → f9 (4 * a + x) = nI (gof (4 * a + x))) ∧ g2 62 = .inr (6, [.int (nI (q)), .int (nI (Wt)), .ref (ad (63)), .ref (ad (64)), .ref (ad (65)), .ref (ad (66)), .int (nI (T)), .long (tp), .long (bt), .long (nu), .long (de), .int (nI (ns)), .ref (ad (67)), .ref (ad (68)), .ref (ad (69)), .ref (ad (70)), .ref (ad (71)), .ref (ad (72)), .ref (ad (73)), .ref (ad (74)), .ref (ad (75)), .ref (ad (76)), .ref (ad (77)), .ref (ad (78)), .ref (ad (79)), .ref (ad (80))]) ∧ g2 67 = .inl (cI, 13, .inl (f7)) ∧ g2 68 = .inl (cI, 13, .inl (f8)) ∧ g2 69 = .inl (cI, 52, .inl (f9)) ∧ g2 70 = .inl (cI, 6, .inl (f0)) ∧ ∀ j : Nat, j ≠ 62 → j ≠ 67 → j ≠ 68 → j ≠ 69 → j ≠ 70 → g2 j = g j) (xB D (xT cI cJ cZ cW) ad) A) 0 0 A := by
  refine Met.ofW (cc := cX6_makes) (maxL := 4) (ret := none) (by decide) rfl ?_
  intro p e s m args below meth c s₁ B hml hv
  obtain ⟨rfl, hP, hK, hN⟩ := hv
  have hx := B.exec
  have hb := B.bytes
  have hr := B.returns
  have hts := atoms_spec (ws := wsX6_makes) B.pre
  have hown : s.vm.findClass RX6 = some m.cls := findClass_of_methodNamed B.named
  have hlocks := B.notSynchronized
  have hS : va_S A s.heap s.heap [] := va_S.rf
  have hin6 : ∀ w ∈ wsX60, w ∈ wsX6_makes := by decide +kernel
  have hf7 := hts (.fieldLink RX6 7 "LettersByLotModel" "q" "I") (by decide +kernel)
  have hf20 := hts (.fieldLink RX6 20 "LettersByLotModel" "size" "[I") (by decide +kernel)
  have hf33 := hts (.fieldLink RX6 33 "LettersByLotModel" "ofSlot" "[I") (by decide +kernel)
  have hf36 := hts (.fieldLink RX6 36 "LettersByLotModel" "ofSize" "[I") (by decide +kernel)
  have hf39 := hts (.fieldLink RX6 39 "LettersByLotModel" "goes" "[I") (by decide +kernel)
  have hf130 := hts (.fieldLink RX6 130 "LettersByLotModel" "states" "I") (by decide +kernel)
  have hl := lv_entry ([.ref (ad (62)), .int (nI (li))]) (n := 4) (Nat.le_of_ble_eq_true rfl)
  rw [lg_entry_eq]
  generalize (lg_sl ([.ref (ad (62)), .int (nI (li))]) ++ List.replicate (4 - (lg_sl ([.ref (ad (62)), .int (nI (li))])).length) Slot.unset).toArray = ls at hl ⊢
  have hl : lv_has ls 4 [(0, .ref (ad (62))), (1, .int (nI (li)))] := hl
  refine lv_aload_n hx hb dX6_makes_0 rfl (lv_at hl 0 rfl) ?_
  refine lv_iconst (v := nI (0)) hx hb dX6_makes_1 (by decide) ?_
  refine xw_put hx hb hts hin6 tyX6 tyX6_ok nmX6 hown hK hP hD hS (by decide) fo62 rfl 11 (by decide) hf130 rfl rfl (ty := .int) (by decide +kernel) rfl rfl (Nat.le_of_ble_eq_true rfl) (fs' := [.int (nI (q)), .int (nI (Wt)), .ref (ad (63)), .ref (ad (64)), .ref (ad (65)), .ref (ad (66)), .int (nI (T)), .long (tp), .long (bt), .long (nu), .long (de), .int (nI (0)), .ref (ad (67)), .ref (ad (68)), .ref (ad (69)), .ref (ad (70)), .ref (ad (71)), .ref (ad (72)), .ref (ad (73)), .ref (ad (74)), .ref (ad (75)), .ref (ad (76)), .ref (ad (77)), .ref (ad (78)), .ref (ad (79)), .ref (ad (80))]) rfl dX6_makes_2 (fun g1 H locs eg1 hP hS => ?_)
  have fg1_0 : g1 (64) = .inl (cI, 8, .inl (fsz)) := (congrFun eg1 (64)).trans ((va_up_ne _ _ (by decide)).trans fa64)
  have fg1_1 : g1 (65) = .inl (cI, 40, .inl (fwd)) := (congrFun eg1 (65)).trans ((va_up_ne _ _ (by decide)).trans fa65)
  have fg1_2 : g1 (67) = .inl (cI, 13, .inl (fos)) := (congrFun eg1 (67)).trans ((va_up_ne _ _ (by decide)).trans fa67)
  have fg1_3 : g1 (68) = .inl (cI, 13, .inl (foz)) := (congrFun eg1 (68)).trans ((va_up_ne _ _ (by decide)).trans fa68)
  have fg1_4 : g1 (69) = .inl (cI, 52, .inl (fgo)) := (congrFun eg1 (69)).trans ((va_up_ne _ _ (by decide)).trans fa69)
  have fg1_5 : g1 (70) = .inl (cI, 6, .inl (frw)) := (congrFun eg1 (70)).trans ((va_up_ne _ _ (by decide)).trans fa70)
  have fg1_w : g1 (62) = .inr (6, [.int (nI (q)), .int (nI (Wt)), .ref (ad (63)), .ref (ad (64)), .ref (ad (65)), .ref (ad (66)), .int (nI (T)), .long (tp), .long (bt), .long (nu), .long (de), .int (nI (0)), .ref (ad (67)), .ref (ad (68)), .ref (ad (69)), .ref (ad (70)), .ref (ad (71)), .ref (ad (72)), .ref (ad (73)), .ref (ad (74)), .ref (ad (75)), .ref (ad (76)), .ref (ad (77)), .ref (ad (78)), .ref (ad (79)), .ref (ad (80))]) := (congrFun eg1 (62)).trans (va_up_self _ _ _)
  have hfrg1 : ∀ j : Nat, j ≠ 62 → j ≠ 67 → j ≠ 68 → j ≠ 69 → j ≠ 70 → g1 j = g j := fun j h0 h1 h2 h3 h4 => (congrFun eg1 j).trans ((va_up_ne _ _ h0).trans ((fun _ _ _ _ _ _ => rfl) j h0 h1 h2 h3 h4))
  refine lv_iconst (v := nI (0)) hx hb dX6_makes_5 (by decide) ?_
  refine lv_istore_n (lv' := [(2, .int (nI (0))), (0, .ref (ad (62))), (1, .int (nI (li)))]) hx hb dX6_makes_6 rfl hl (by decide) rfl (fun ls hl => ?_)
  refine xloopW (G := fun H locs fr => W p l e _ s m _ below meth c H locs _ _ _ fr) (σ := Nat × Nat × (Nat → Nat) × (Nat → Nat) × (Nat → Int32) × (Nat → Int32)) (fun (i, ns, sl, sz, fx, fy) ls => F0 m 7 ls []) (fun (i, ns, sl, sz, fx, fy) gl7_2 H locs ls => (i ≤ 8) ∧ ((cntS (fun s => decide (btL li s)) (i) = 0 ∧ ns = 0) ∨ (1 ≤ ns ∧ ns ≤ 4 * cntS (fun s => decide (btL li s)) (i) + 1 ∧ 1 ≤ cntS (fun s => decide (btL li s)) (i))) ∧ (1 ≤ ns → sz 0 = 0) ∧ (∀ k, k < ns → sl k < 8 ∧ btL li (sl k) ∧ sz k < ln (sl k)) ∧ (∀ k, k < ns → fx k = nI (sl k)) ∧ (∀ k, k < ns → fy k = nI (sz k)) ∧ (∀ s m, s < i → btL li s → m < ln s → ∃ k, k < ns ∧ bgW u s m (sl k) (sz k)) ∧ gl7_2 (62) = .inr (6, [.int (nI (q)), .int (nI (Wt)), .ref (ad (63)), .ref (ad (64)), .ref (ad (65)), .ref (ad (66)), .int (nI (T)), .long (tp), .long (bt), .long (nu), .long (de), .int (nI (ns)), .ref (ad (67)), .ref (ad (68)), .ref (ad (69)), .ref (ad (70)), .ref (ad (71)), .ref (ad (72)), .ref (ad (73)), .ref (ad (74)), .ref (ad (75)), .ref (ad (76)), .ref (ad (77)), .ref (ad (78)), .ref (ad (79)), .ref (ad (80))]) ∧ gl7_2 (64) = .inl (cI, 8, .inl (fsz)) ∧ gl7_2 (65) = .inl (cI, 40, .inl (fwd)) ∧ gl7_2 (67) = .inl (cI, 13, .inl (fx)) ∧ gl7_2 (68) = .inl (cI, 13, .inl (fy)) ∧ gl7_2 (69) = .inl (cI, 52, .inl (fgo)) ∧ gl7_2 (70) = .inl (cI, 6, .inl (frw)) ∧ (∀ j : Nat, j ≠ 62 → j ≠ 67 → j ≠ 68 → j ≠ 69 → j ≠ 70 → gl7_2 j = g j) ∧ va_P D vwCl (xw 81 ad gl7_2) H ∧ va_S A s.heap H locs ∧ lv_has ls 4 [(0, .ref (ad (62))), (1, .int (nI (li))), (2, .int (nI (i)))]) (fun (i, ns, sl, sz, fx, fy) => 8 - i) ?_ (0, 0, fun _ => 0, fun _ => 0, fos, foz) g1 H locs ls ⟨(Nat.zero_le _), (Or.inl ⟨rfl, rfl⟩), (fun h => absurd h (by omega)), (fun k hk => absurd hk (by omega)), (fun k hk => absurd hk (by omega)), (fun k hk => absurd hk (by omega)), (fun s m h1 => absurd h1 (by omega)), fg1_w, fg1_0, fg1_1, fg1_2, fg1_3, fg1_4, fg1_5, hfrg1, hP, hS, (lv_sub hl [1, 2, 0] rfl)⟩
  rintro ⟨i, ns, sl, sz, fx, fy⟩ gl7_2 H locs ls ⟨hi, hA, hz, hst, hos, hoz, hcm, fo62, fa64, fa65, fa67, fa68, fa69, fa70, hfrgl7_2, hP, hS, hl⟩ ih7
  refine lv_iload_n hx hb dX6_makes_7 rfl (lv_at hl 2 rfl) ?_
  refine lv_bipush (v := nI (8)) hx hb dX6_makes_8 (by decide) ?_
  refine xi_icmp_ge (tgt := 90) hx hb (by omega) (by decide) dX6_makes_10 (by decide) (fun c10_3 => ?_) (fun c10_3 => ?_)
  · have hi8 : i = 8 := by omega
    subst hi8
    have hns1 : 1 ≤ ns := hA.elim (fun h => absurd h.1 hl0) (fun h => h.1)
    have hns4 : ns ≤ 4 * cntS (fun s => decide (btL li s)) 8 + 1 := hA.elim (fun h => absurd h.1 hl0) (fun h => h.2.1)
    have hns13 : ns ≤ 13 := by omega
    refine lv_iconst (v := nI (0)) hx hb dX6_makes_90 (by decide) ?_
    refine lv_istore_n (lv' := [(2, .int (nI (0))), (0, .ref (ad (62))), (1, .int (nI (li)))]) hx hb dX6_makes_91 rfl hl (by decide) rfl (fun ls hl => ?_)
    refine xloopW (G := fun H locs fr => W p l e _ s m _ below meth c H locs _ _ _ fr) (σ := Nat × (Nat → Nat) × (Nat → Int32) × (Nat → Int32)) (fun (k, gof, fz, fr) ls => F0 m 92 ls []) (fun (k, gof, fz, fr) gl92_4 H locs ls => (k ≤ ns) ∧ (∀ a x, a < k → x < q → fz (4 * a + x) = nI (gof (4 * a + x)) ∧ trS u ln li ns sl sz (sz (a) + 1) (rwW u sl sz (a) (x)) (gof (4 * a + x))) ∧ gl92_4 (62) = .inr (6, [.int (nI (q)), .int (nI (Wt)), .ref (ad (63)), .ref (ad (64)), .ref (ad (65)), .ref (ad (66)), .int (nI (T)), .long (tp), .long (bt), .long (nu), .long (de), .int (nI (ns)), .ref (ad (67)), .ref (ad (68)), .ref (ad (69)), .ref (ad (70)), .ref (ad (71)), .ref (ad (72)), .ref (ad (73)), .ref (ad (74)), .ref (ad (75)), .ref (ad (76)), .ref (ad (77)), .ref (ad (78)), .ref (ad (79)), .ref (ad (80))]) ∧ gl92_4 (64) = .inl (cI, 8, .inl (fsz)) ∧ gl92_4 (65) = .inl (cI, 40, .inl (fwd)) ∧ gl92_4 (67) = .inl (cI, 13, .inl (fx)) ∧ gl92_4 (68) = .inl (cI, 13, .inl (fy)) ∧ gl92_4 (69) = .inl (cI, 52, .inl (fz)) ∧ gl92_4 (70) = .inl (cI, 6, .inl (fr)) ∧ (∀ j : Nat, j ≠ 62 → j ≠ 67 → j ≠ 68 → j ≠ 69 → j ≠ 70 → gl92_4 j = g j) ∧ va_P D vwCl (xw 81 ad gl92_4) H ∧ va_S A s.heap H locs ∧ lv_has ls 4 [(0, .ref (ad (62))), (1, .int (nI (li))), (2, .int (nI (k)))]) (fun (k, gof, fz, fr) => ns - k) ?_ (0, fun _ => 0, fgo, frw) gl7_2 H locs ls ⟨(Nat.zero_le _), (fun a x h => absurd h (by omega)), fo62, fa64, fa65, fa67, fa68, fa69, fa70, hfrgl7_2, hP, hS, (lv_sub hl [1, 2, 0] rfl)⟩
    rintro ⟨k, gof, fz, fr⟩ gl92_4 H locs ls ⟨hk, hgo, fo62, fa64, fa65, fa67, fa68, fa69, fa70, hfrgl92_4, hP, hS, hl⟩ ih92
    refine lv_iload_n hx hb dX6_makes_92 rfl (lv_at hl 2 rfl) ?_
    refine lv_aload_n hx hb dX6_makes_93 rfl (lv_at hl 0 rfl) ?_
    refine xw_get hx hb hts hin6 hown hK hP (by decide) fo62 rfl 11 (by decide) hf130 rfl rfl dX6_makes_94 ?_
    refine xi_icmp_ge (tgt := 139) hx hb (by omega) (by omega) dX6_makes_97 (by decide) (fun c97_5 => ?_) (fun c97_5 => ?_)
    · exact W.vret hx hb hr (fun tZ ht hW => ⟨⟨gl92_4, rfl, ⟨ns, sl, sz, gof, fx, fy, fz, fr, ⟨hns1, hns13, hz hns1, hst, fun k x h1 h2 => (hgo k x (by omega) h2).2, hns4⟩, hos, hoz, fun a x h1 h2 => (hgo a x (by omega) h2).1, fo62, fa67, fa68, fa69, fa70, hfrgl92_4⟩, by rw [ht]; exact hP, va_K.moved hW.alike hK, va_Nw.warmM hW hN⟩, hS.F ht⟩) hS.2.2 dX6_makes_139
    · refine lv_iconst (v := nI (0)) hx hb dX6_makes_100 (by decide) ?_
      refine lv_istore_n (lv' := [(3, .int (nI (0))), (0, .ref (ad (62))), (1, .int (nI (li))), (2, .int (nI (k)))]) hx hb dX6_makes_101 rfl hl (by decide) rfl (fun ls hl => ?_)
      refine xloopW (G := fun H locs fr => W p l e _ s m _ below meth c H locs _ _ _ fr) (σ := Nat × (Nat → Nat) × (Nat → Int32) × (Nat → Int32)) (fun (c0, gof, fz, fr) ls => F0 m 102 ls []) (fun (c0, gof, fz, fr) gl102_6 H locs ls => (c0 ≤ q) ∧ (∀ a x, a < k → x < q → fz (4 * a + x) = nI (gof (4 * a + x)) ∧ trS u ln li ns sl sz (sz (a) + 1) (rwW u sl sz (a) (x)) (gof (4 * a + x))) ∧ (∀ x, x < c0 → fz (4 * k + x) = nI (gof (4 * k + x)) ∧ trS u ln li ns sl sz (sz (k) + 1) (rwW u sl sz (k) (x)) (gof (4 * k + x))) ∧ gl102_6 (62) = .inr (6, [.int (nI (q)), .int (nI (Wt)), .ref (ad (63)), .ref (ad (64)), .ref (ad (65)), .ref (ad (66)), .int (nI (T)), .long (tp), .long (bt), .long (nu), .long (de), .int (nI (ns)), .ref (ad (67)), .ref (ad (68)), .ref (ad (69)), .ref (ad (70)), .ref (ad (71)), .ref (ad (72)), .ref (ad (73)), .ref (ad (74)), .ref (ad (75)), .ref (ad (76)), .ref (ad (77)), .ref (ad (78)), .ref (ad (79)), .ref (ad (80))]) ∧ gl102_6 (64) = .inl (cI, 8, .inl (fsz)) ∧ gl102_6 (65) = .inl (cI, 40, .inl (fwd)) ∧ gl102_6 (67) = .inl (cI, 13, .inl (fx)) ∧ gl102_6 (68) = .inl (cI, 13, .inl (fy)) ∧ gl102_6 (69) = .inl (cI, 52, .inl (fz)) ∧ gl102_6 (70) = .inl (cI, 6, .inl (fr)) ∧ (∀ j : Nat, j ≠ 62 → j ≠ 67 → j ≠ 68 → j ≠ 69 → j ≠ 70 → gl102_6 j = g j) ∧ va_P D vwCl (xw 81 ad gl102_6) H ∧ va_S A s.heap H locs ∧ lv_has ls 4 [(0, .ref (ad (62))), (1, .int (nI (li))), (2, .int (nI (k))), (3, .int (nI (c0)))]) (fun (c0, gof, fz, fr) => q - c0) ?_ (0, gof, fz, fr) gl92_4 H locs ls ⟨(Nat.zero_le _), hgo, (fun x h => absurd h (by omega)), fo62, fa64, fa65, fa67, fa68, fa69, fa70, hfrgl92_4, hP, hS, (lv_sub hl [1, 2, 3, 0] rfl)⟩
      rintro ⟨c0, gof, fz, fr⟩ gl102_6 H locs ls ⟨hc0, hgo, hgk, fo62, fa64, fa65, fa67, fa68, fa69, fa70, hfrgl102_6, hP, hS, hl⟩ ih102
      refine lv_iload_n hx hb dX6_makes_102 rfl (lv_at hl 3 rfl) ?_
      refine lv_aload_n hx hb dX6_makes_103 rfl (lv_at hl 0 rfl) ?_
      refine xw_get hx hb hts hin6 hown hK hP (by decide) fo62 rfl 0 (by decide) hf7 rfl rfl dX6_makes_104 ?_
      refine xi_icmp_ge (tgt := 133) hx hb (by omega) (by omega) dX6_makes_107 (by decide) (fun c107_7 => ?_) (fun c107_7 => ?_)
      · refine lv_iinc (v := nI (k + 1)) (lv' := [(2, .int (nI (k + 1))), (0, .ref (ad (62))), (1, .int (nI (li))), (3, .int (nI (c0)))]) hx hb dX6_makes_133 hl (k := 2) rfl (nI_add (k) 1) (by decide) rfl (fun ls hl => ?_)
        refine lv_goto (tgt := 92) hx hb dX6_makes_136 (by decide) ?_
        exact ih92 (k + 1, gof, fz, fr) gl102_6 H locs ls ⟨(by omega), (fun a x h1 h2 => if e : a = k then by rw [e]; exact hgk x (by omega) else hgo a x (by omega) h2), fo62, fa64, fa65, fa67, fa68, fa69, fa70, hfrgl102_6, hP, hS, (lv_sub hl [1, 2, 0] rfl)⟩ (by first | omega | (dsimp only; omega))
      · refine lv_aload_n hx hb dX6_makes_110 rfl (lv_at hl 0 rfl) ?_
        refine xw_get hx hb hts hin6 hown hK hP (by decide) fo62 rfl 14 (by decide) hf39 rfl rfl dX6_makes_111 ?_
        refine lv_iconst (v := nI (4)) hx hb dX6_makes_114 (by decide) ?_
        refine lv_iload_n hx hb dX6_makes_115 rfl (lv_at hl 2 rfl) ?_
        refine xi_mul hx hb dX6_makes_116 ?_
        refine lv_iload_n hx hb dX6_makes_117 rfl (lv_at hl 3 rfl) ?_
        refine xi_add hx hb dX6_makes_118 ?_
        refine lv_aload_n hx hb dX6_makes_119 rfl (lv_at hl 0 rfl) ?_
        refine lv_iload_n hx hb dX6_makes_120 rfl (lv_at hl 2 rfl) ?_
        refine lv_iload_n hx hb dX6_makes_121 rfl (lv_at hl 3 rfl) ?_
        refine lv_iload_n hx hb dX6_makes_122 rfl (lv_at hl 1 rfl) ?_
        refine va_calli (va_runV (As := [.int (nI (k)), .int (nI (c0)), .int (nI (li))]) (rest := [.int (nI ((4 * k) + c0)), .ref (ad (69))]) ⟨hx, hb, hml, hown, hts⟩ (mX6_next l hD (w := w) (ln := ln) (t := t) (u := u) (li := li) fo62 fa64 fa65 fa67 fa68 fa70 hsz hwl hos hoz hq2 hq4 hln hul hT ht hns13 hst hcm (hz hns1) hli (by omega) (by omega)) (cwV 3 hts gX6_makes_X6_next rfl rfl rfl (by decide +kernel) ⟨Nat.le_of_ble_eq_true rfl, Nat.le_of_ble_eq_true rfl⟩) ⟨xB_blind, va_recv hK hP (ci := 6) rfl (xw_is (by decide) fo62), fun U hU hW => ⟨rfl, by rw [hU]; exact hP, va_K.moved hW.alike hK, va_Nw.warmM hW hN⟩⟩ rfl rfl hl.1 rfl (lv_room (Nat.le_of_ble_eq_true rfl)) dX6_makes_123 ⟨Nat.le_of_ble_eq_true rfl, Nat.le_of_ble_eq_true rfl⟩) hS (fun _ _ h => h) (fun _ h => h) (fun r9 g8 tZ H locs ht hvm hwg8 hB hzZ hkZ hS => ?_)
        obtain ⟨hP, -⟩ := hB
        rw [ht] at hP
        obtain ⟨gv, rfl, htr, fr2, fg8_n0, hcg8⟩ := hwg8
        have fg8_k0 : g8 (62) = .inr (6, [.int (nI (q)), .int (nI (Wt)), .ref (ad (63)), .ref (ad (64)), .ref (ad (65)), .ref (ad (66)), .int (nI (T)), .long (tp), .long (bt), .long (nu), .long (de), .int (nI (ns)), .ref (ad (67)), .ref (ad (68)), .ref (ad (69)), .ref (ad (70)), .ref (ad (71)), .ref (ad (72)), .ref (ad (73)), .ref (ad (74)), .ref (ad (75)), .ref (ad (76)), .ref (ad (77)), .ref (ad (78)), .ref (ad (79)), .ref (ad (80))]) := (hcg8 (62) (by decide)).trans fo62
        have fg8_k1 : g8 (64) = .inl (cI, 8, .inl (fsz)) := (hcg8 (64) (by decide)).trans fa64
        have fg8_k2 : g8 (65) = .inl (cI, 40, .inl (fwd)) := (hcg8 (65) (by decide)).trans fa65
        have fg8_k3 : g8 (67) = .inl (cI, 13, .inl (fx)) := (hcg8 (67) (by decide)).trans fa67
        have fg8_k4 : g8 (68) = .inl (cI, 13, .inl (fy)) := (hcg8 (68) (by decide)).trans fa68
        have fg8_k5 : g8 (69) = .inl (cI, 52, .inl (fz)) := (hcg8 (69) (by decide)).trans fa69
        have hfrg8 : ∀ j : Nat, j ≠ 62 → j ≠ 67 → j ≠ 68 → j ≠ 69 → j ≠ 70 → g8 j = g j := fun j h0 h1 h2 h3 h4 => (hcg8 j h4).trans (hfrgl102_6 j h0 h1 h2 h3 h4)
        refine xw_iast hx hb hK hP hD hS (by decide) 0 fg8_k5 rfl (by omega) (by decide) dX6_makes_126 (fun g10 H locs eg10 hP hS => ?_)
        have fg10_0 : g10 (70) = .inl (cI, 6, .inl (fr2)) := (congrFun eg10 (70)).trans ((va_up_ne _ _ (by decide)).trans fg8_n0)
        have fg10_1 : g10 (62) = .inr (6, [.int (nI (q)), .int (nI (Wt)), .ref (ad (63)), .ref (ad (64)), .ref (ad (65)), .ref (ad (66)), .int (nI (T)), .long (tp), .long (bt), .long (nu), .long (de), .int (nI (ns)), .ref (ad (67)), .ref (ad (68)), .ref (ad (69)), .ref (ad (70)), .ref (ad (71)), .ref (ad (72)), .ref (ad (73)), .ref (ad (74)), .ref (ad (75)), .ref (ad (76)), .ref (ad (77)), .ref (ad (78)), .ref (ad (79)), .ref (ad (80))]) := (congrFun eg10 (62)).trans ((va_up_ne _ _ (by decide)).trans fg8_k0)
        have fg10_2 : g10 (64) = .inl (cI, 8, .inl (fsz)) := (congrFun eg10 (64)).trans ((va_up_ne _ _ (by decide)).trans fg8_k1)
        have fg10_3 : g10 (65) = .inl (cI, 40, .inl (fwd)) := (congrFun eg10 (65)).trans ((va_up_ne _ _ (by decide)).trans fg8_k2)
        have fg10_4 : g10 (67) = .inl (cI, 13, .inl (fx)) := (congrFun eg10 (67)).trans ((va_up_ne _ _ (by decide)).trans fg8_k3)
        have fg10_5 : g10 (68) = .inl (cI, 13, .inl (fy)) := (congrFun eg10 (68)).trans ((va_up_ne _ _ (by decide)).trans fg8_k4)
        have fg10_w : g10 (69) = .inl (cI, 52, .inl (upd (fz) ((4 * k) + c0) (nI (gv)))) := (congrFun eg10 (69)).trans (va_up_self _ _ _)
        have hfrg10 : ∀ j : Nat, j ≠ 62 → j ≠ 67 → j ≠ 68 → j ≠ 69 → j ≠ 70 → g10 j = g j := fun j h0 h1 h2 h3 h4 => (congrFun eg10 j).trans ((va_up_ne _ _ h3).trans (hfrg8 j h0 h1 h2 h3 h4))
        refine lv_iinc (v := nI (c0 + 1)) (lv' := [(3, .int (nI (c0 + 1))), (0, .ref (ad (62))), (1, .int (nI (li))), (2, .int (nI (k)))]) hx hb dX6_makes_127 hl (k := 3) rfl (nI_add (c0) 1) (by decide) rfl (fun ls hl => ?_)
        refine lv_goto (tgt := 102) hx hb dX6_makes_130 (by decide) ?_
        exact ih102 (c0 + 1, va_up gof (4 * k + c0) gv, upd (fz) ((4 * k) + c0) (nI (gv)), fr2) g10 H locs ls ⟨(by omega), (fun a x h1 h2 => by rw [pk_un (by omega), va_up_ne _ _ (by omega)]; exact hgo a x h1 h2), (fun x hx => if e : x = c0 then by rw [e, pk_us, va_up_self]; exact ⟨rfl, htr⟩ else by rw [pk_un (by omega), va_up_ne _ _ (by omega)]; exact hgk x (by omega)), fg10_1, fg10_2, fg10_3, fg10_4, fg10_5, fg10_w, fg10_0, hfrg10, hP, hS, (lv_sub hl [1, 2, 3, 0] rfl)⟩ (by first | omega | (dsimp only; omega))
  · refine lv_iload_n hx hb dX6_makes_13 rfl (lv_at hl 1 rfl) ?_
    refine lv_iload_n hx hb dX6_makes_14 rfl (lv_at hl 2 rfl) ?_
    refine lv_ishr hx hb dX6_makes_15 ?_
    refine xtopi (y := nI (li / 2 ^ i)) (nI_shr (by omega) (by omega)) ?_
    refine lv_iconst (v := nI (1)) hx hb dX6_makes_16 (by decide) ?_
    refine lv_iand hx hb dX6_makes_17 ?_
    refine xtopi (y := nI (li / 2 ^ i % 2)) (and1 _) ?_
    refine xi_if_ne (tgt := 24) hx hb (by omega) dX6_makes_18 (by decide) (fun c18_13 => ?_) (fun c18_13 => ?_)
    · have hbit : btL li i := by have h9 := c18_13; show _ = 1; omega
      have hci : cntS (fun s => decide (btL li s)) (i) + 1 ≤ 3 := by have h1 := cntS_y (P := fun s => decide (btL li s)) (decide_eq_true hbit); have h2 := cntS_mono (P := fun s => decide (btL li s)) (show i + 1 ≤ 8 by omega); omega
      have hln5 := hln i
      refine lv_iconst (v := nI (0)) hx hb dX6_makes_24 (by decide) ?_
      refine lv_istore_n (lv' := [(3, .int (nI (0))), (0, .ref (ad (62))), (1, .int (nI (li))), (2, .int (nI (i)))]) hx hb dX6_makes_25 rfl hl (by decide) rfl (fun ls hl => ?_)
      refine xloopW (G := fun H locs fr => W p l e _ s m _ below meth c H locs _ _ _ fr) (σ := Nat × Nat × (Nat → Nat) × (Nat → Nat) × (Nat → Int32) × (Nat → Int32)) (fun (j, ns, sl, sz, fx, fy) ls => F0 m 26 ls []) (fun (j, ns, sl, sz, fx, fy) gl26_14 H locs ls => (j ≤ ln i) ∧ ((j = 0 ∧ ((cntS (fun s => decide (btL li s)) (i) = 0 ∧ ns = 0) ∨ (1 ≤ ns ∧ ns ≤ 4 * cntS (fun s => decide (btL li s)) (i) + 1 ∧ 1 ≤ cntS (fun s => decide (btL li s)) (i)))) ∨ (1 ≤ j ∧ 1 ≤ ns ∧ ns ≤ 4 * cntS (fun s => decide (btL li s)) (i) + j)) ∧ (1 ≤ ns → sz 0 = 0) ∧ (∀ k, k < ns → sl k < 8 ∧ btL li (sl k) ∧ sz k < ln (sl k)) ∧ (∀ k, k < ns → fx k = nI (sl k)) ∧ (∀ k, k < ns → fy k = nI (sz k)) ∧ (∀ s m, s < i → btL li s → m < ln s → ∃ k, k < ns ∧ bgW u s m (sl k) (sz k)) ∧ (∀ m, m < j → ∃ k, k < ns ∧ bgW u i m (sl k) (sz k)) ∧ gl26_14 (62) = .inr (6, [.int (nI (q)), .int (nI (Wt)), .ref (ad (63)), .ref (ad (64)), .ref (ad (65)), .ref (ad (66)), .int (nI (T)), .long (tp), .long (bt), .long (nu), .long (de), .int (nI (ns)), .ref (ad (67)), .ref (ad (68)), .ref (ad (69)), .ref (ad (70)), .ref (ad (71)), .ref (ad (72)), .ref (ad (73)), .ref (ad (74)), .ref (ad (75)), .ref (ad (76)), .ref (ad (77)), .ref (ad (78)), .ref (ad (79)), .ref (ad (80))]) ∧ gl26_14 (64) = .inl (cI, 8, .inl (fsz)) ∧ gl26_14 (65) = .inl (cI, 40, .inl (fwd)) ∧ gl26_14 (67) = .inl (cI, 13, .inl (fx)) ∧ gl26_14 (68) = .inl (cI, 13, .inl (fy)) ∧ gl26_14 (69) = .inl (cI, 52, .inl (fgo)) ∧ gl26_14 (70) = .inl (cI, 6, .inl (frw)) ∧ (∀ j : Nat, j ≠ 62 → j ≠ 67 → j ≠ 68 → j ≠ 69 → j ≠ 70 → gl26_14 j = g j) ∧ va_P D vwCl (xw 81 ad gl26_14) H ∧ va_S A s.heap H locs ∧ lv_has ls 4 [(0, .ref (ad (62))), (1, .int (nI (li))), (2, .int (nI (i))), (3, .int (nI (j)))]) (fun (j, ns, sl, sz, fx, fy) => ln i - j) ?_ (0, ns, sl, sz, fx, fy) gl7_2 H locs ls ⟨(Nat.zero_le _), (Or.inl ⟨rfl, hA⟩), hz, hst, hos, hoz, hcm, (fun m hm => absurd hm (by omega)), fo62, fa64, fa65, fa67, fa68, fa69, fa70, hfrgl7_2, hP, hS, (lv_sub hl [1, 2, 3, 0] rfl)⟩
      rintro ⟨j, ns, sl, sz, fx, fy⟩ gl26_14 H locs ls ⟨hj, hA2, hz, hst, hos, hoz, hcm, hcj, fo62, fa64, fa65, fa67, fa68, fa69, fa70, hfrgl26_14, hP, hS, hl⟩ ih26
      refine lv_iload_n hx hb dX6_makes_26 rfl (lv_at hl 3 rfl) ?_
      refine lv_aload_n hx hb dX6_makes_27 rfl (lv_at hl 0 rfl) ?_
      refine xw_get hx hb hts hin6 hown hK hP (by decide) fo62 rfl 3 (by decide) hf20 rfl rfl dX6_makes_28 ?_
      refine lv_iload_n hx hb dX6_makes_31 rfl (lv_at hl 2 rfl) ?_
      refine xw_iald hx hb hK hP (by decide) 0 fa64 rfl (by omega) (by decide) dX6_makes_32 ?_
      rw [hsz (i) (by omega)]
      refine xi_icmp_ge (tgt := 84) hx hb (by omega) (by omega) dX6_makes_33 (by decide) (fun c33_15 => ?_) (fun c33_15 => ?_)
      · refine lv_iinc (v := nI (i + 1)) (lv' := [(2, .int (nI (i + 1))), (0, .ref (ad (62))), (1, .int (nI (li))), (3, .int (nI (j)))]) hx hb dX6_makes_84 hl (k := 2) rfl (nI_add (i) 1) (by decide) rfl (fun ls hl => ?_)
        refine lv_goto (tgt := 7) hx hb dX6_makes_87 (by decide) ?_
        exact ih7 (i + 1, ns, sl, sz, fx, fy) gl26_14 H locs ls ⟨(by omega), (by rw [cntS_y (P := fun s => decide (btL li s)) (decide_eq_true hbit)]; have h9 := hln i; have h8 := hlb i (by omega) hbit; omega), hz, hst, hos, hoz, (fun s m h1 h2 h3 => if e : s = i then by rw [e] at h3 ⊢; exact hcj m (by omega) else hcm s m (by omega) h2 h3), fo62, fa64, fa65, fa67, fa68, fa69, fa70, hfrgl26_14, hP, hS, (lv_sub hl [1, 2, 0] rfl)⟩ (by first | omega | (dsimp only; omega))
      · refine lv_aload_n hx hb dX6_makes_36 rfl (lv_at hl 0 rfl) ?_
        refine lv_iload_n hx hb dX6_makes_37 rfl (lv_at hl 2 rfl) ?_
        refine lv_iload_n hx hb dX6_makes_38 rfl (lv_at hl 3 rfl) ?_
        refine vp_callSi (va_Run.run (va_runV (As := [.int (nI (i)), .int (nI (j))]) (rest := []) ⟨hx, hb, hml, hown, hts⟩ (mX6_stateOf l (w := w) (ln := ln) (t := t) (u := u) (k1 := i) (n1 := j) (li := li) fo62 fa65 fa67 fa68 hwl hos hoz hq2 hq4 hln hul hT ht (by omega) hst (by omega) (by omega)) (cwV 2 hts gX6_makes_X6_stateOf rfl rfl rfl (by decide +kernel) ⟨Nat.le_of_ble_eq_true rfl, Nat.le_of_ble_eq_true rfl⟩) ⟨xB_blind, va_recv hK hP (ci := 6) rfl (xw_is (by decide) fo62), fun U hU hW => ⟨rfl, by rw [hU]; exact hP, va_K.moved hW.alike hK, va_Nw.warmM hW hN⟩⟩ rfl rfl hl.1 rfl (lv_room (Nat.le_of_ble_eq_true rfl)) dX6_makes_39 ⟨Nat.le_of_ble_eq_true rfl, Nat.le_of_ble_eq_true rfl⟩)) (fun r16 er16 => ?_)
        rcases er16 with ⟨gv, hgv1, rfl, hgv2⟩ | ⟨rfl, hno⟩
        · refine xi_if_lt (tgt := 48) hx hb (by omega) dX6_makes_42 (by decide) ?_
          refine lv_goto (tgt := 78) hx hb dX6_makes_45 (by decide) ?_
          refine lv_iinc (v := nI (j + 1)) (lv' := [(3, .int (nI (j + 1))), (0, .ref (ad (62))), (1, .int (nI (li))), (2, .int (nI (i)))]) hx hb dX6_makes_78 hl (k := 3) rfl (nI_add (j) 1) (by decide) rfl (fun ls hl => ?_)
          refine lv_goto (tgt := 26) hx hb dX6_makes_81 (by decide) ?_
          exact ih26 (j + 1, ns, sl, sz, fx, fy) gl26_14 H locs ls ⟨(by omega), (by omega), hz, hst, hos, hoz, hcm, (fun m hm => if e : m = j then ⟨gv, hgv1, by rw [e]; exact hgv2⟩ else hcj m (by omega)), fo62, fa64, fa65, fa67, fa68, fa69, fa70, hfrgl26_14, hP, hS, (lv_sub hl [1, 2, 3, 0] rfl)⟩ (by first | omega | (dsimp only; omega))
        · have hadd : ns ≤ 12 ∧ (j = 0 → ns = 0) := by refine ⟨by omega, fun hj0 => ?_⟩; rcases Nat.eq_zero_or_pos ns with h9 | h9; exact h9; exact absurd ⟨by rw [hz h9]; exact hj0, fun x hx => absurd hx (by omega)⟩ (hno 0 h9)
          refine lv_if_lt (tgt := 48) hx hb dX6_makes_42 (by decide) (fun c42_18 => ?_) (fun c42_18 => ?_)
          · refine lv_aload_n hx hb dX6_makes_48 rfl (lv_at hl 0 rfl) ?_
            refine xw_get hx hb hts hin6 hown hK hP (by decide) fo62 rfl 12 (by decide) hf33 rfl rfl dX6_makes_49 ?_
            refine lv_aload_n hx hb dX6_makes_52 rfl (lv_at hl 0 rfl) ?_
            refine xw_get hx hb hts hin6 hown hK hP (by decide) fo62 rfl 11 (by decide) hf130 rfl rfl dX6_makes_53 ?_
            refine lv_iload_n hx hb dX6_makes_56 rfl (lv_at hl 2 rfl) ?_
            refine xw_iast hx hb hK hP hD hS (by decide) 0 fa67 rfl (by omega) (by decide) dX6_makes_57 (fun g19 H locs eg19 hP hS => ?_)
            have fg19_0 : g19 (62) = .inr (6, [.int (nI (q)), .int (nI (Wt)), .ref (ad (63)), .ref (ad (64)), .ref (ad (65)), .ref (ad (66)), .int (nI (T)), .long (tp), .long (bt), .long (nu), .long (de), .int (nI (ns)), .ref (ad (67)), .ref (ad (68)), .ref (ad (69)), .ref (ad (70)), .ref (ad (71)), .ref (ad (72)), .ref (ad (73)), .ref (ad (74)), .ref (ad (75)), .ref (ad (76)), .ref (ad (77)), .ref (ad (78)), .ref (ad (79)), .ref (ad (80))]) := (congrFun eg19 (62)).trans ((va_up_ne _ _ (by decide)).trans fo62)
            have fg19_1 : g19 (64) = .inl (cI, 8, .inl (fsz)) := (congrFun eg19 (64)).trans ((va_up_ne _ _ (by decide)).trans fa64)
            have fg19_2 : g19 (65) = .inl (cI, 40, .inl (fwd)) := (congrFun eg19 (65)).trans ((va_up_ne _ _ (by decide)).trans fa65)
            have fg19_3 : g19 (68) = .inl (cI, 13, .inl (fy)) := (congrFun eg19 (68)).trans ((va_up_ne _ _ (by decide)).trans fa68)
            have fg19_4 : g19 (69) = .inl (cI, 52, .inl (fgo)) := (congrFun eg19 (69)).trans ((va_up_ne _ _ (by decide)).trans fa69)
            have fg19_5 : g19 (70) = .inl (cI, 6, .inl (frw)) := (congrFun eg19 (70)).trans ((va_up_ne _ _ (by decide)).trans fa70)
            have fg19_w : g19 (67) = .inl (cI, 13, .inl (upd (fx) (ns) (nI (i)))) := (congrFun eg19 (67)).trans (va_up_self _ _ _)
            have hfrg19 : ∀ j : Nat, j ≠ 62 → j ≠ 67 → j ≠ 68 → j ≠ 69 → j ≠ 70 → g19 j = g j := fun j h0 h1 h2 h3 h4 => (congrFun eg19 j).trans ((va_up_ne _ _ h1).trans (hfrgl26_14 j h0 h1 h2 h3 h4))
            refine lv_aload_n hx hb dX6_makes_58 rfl (lv_at hl 0 rfl) ?_
            refine xw_get hx hb hts hin6 hown hK hP (by decide) fg19_0 rfl 13 (by decide) hf36 rfl rfl dX6_makes_59 ?_
            refine lv_aload_n hx hb dX6_makes_62 rfl (lv_at hl 0 rfl) ?_
            refine xw_get hx hb hts hin6 hown hK hP (by decide) fg19_0 rfl 11 (by decide) hf130 rfl rfl dX6_makes_63 ?_
            refine lv_iload_n hx hb dX6_makes_66 rfl (lv_at hl 3 rfl) ?_
            refine xw_iast hx hb hK hP hD hS (by decide) 0 fg19_3 rfl (by omega) (by decide) dX6_makes_67 (fun g20 H locs eg20 hP hS => ?_)
            have fg20_0 : g20 (62) = .inr (6, [.int (nI (q)), .int (nI (Wt)), .ref (ad (63)), .ref (ad (64)), .ref (ad (65)), .ref (ad (66)), .int (nI (T)), .long (tp), .long (bt), .long (nu), .long (de), .int (nI (ns)), .ref (ad (67)), .ref (ad (68)), .ref (ad (69)), .ref (ad (70)), .ref (ad (71)), .ref (ad (72)), .ref (ad (73)), .ref (ad (74)), .ref (ad (75)), .ref (ad (76)), .ref (ad (77)), .ref (ad (78)), .ref (ad (79)), .ref (ad (80))]) := (congrFun eg20 (62)).trans ((va_up_ne _ _ (by decide)).trans fg19_0)
            have fg20_1 : g20 (64) = .inl (cI, 8, .inl (fsz)) := (congrFun eg20 (64)).trans ((va_up_ne _ _ (by decide)).trans fg19_1)
            have fg20_2 : g20 (65) = .inl (cI, 40, .inl (fwd)) := (congrFun eg20 (65)).trans ((va_up_ne _ _ (by decide)).trans fg19_2)
            have fg20_3 : g20 (69) = .inl (cI, 52, .inl (fgo)) := (congrFun eg20 (69)).trans ((va_up_ne _ _ (by decide)).trans fg19_4)
            have fg20_4 : g20 (70) = .inl (cI, 6, .inl (frw)) := (congrFun eg20 (70)).trans ((va_up_ne _ _ (by decide)).trans fg19_5)
            have fg20_5 : g20 (67) = .inl (cI, 13, .inl (upd (fx) (ns) (nI (i)))) := (congrFun eg20 (67)).trans ((va_up_ne _ _ (by decide)).trans fg19_w)
            have fg20_w : g20 (68) = .inl (cI, 13, .inl (upd (fy) (ns) (nI (j)))) := (congrFun eg20 (68)).trans (va_up_self _ _ _)
            have hfrg20 : ∀ j : Nat, j ≠ 62 → j ≠ 67 → j ≠ 68 → j ≠ 69 → j ≠ 70 → g20 j = g j := fun j h0 h1 h2 h3 h4 => (congrFun eg20 j).trans ((va_up_ne _ _ h2).trans (hfrg19 j h0 h1 h2 h3 h4))
            refine lv_aload_n hx hb dX6_makes_68 rfl (lv_at hl 0 rfl) ?_
            refine lv_dup hx hb dX6_makes_69 rfl ?_
            refine xw_get hx hb hts hin6 hown hK hP (by decide) fg20_0 rfl 11 (by decide) hf130 rfl rfl dX6_makes_70 ?_
            refine lv_iconst (v := nI (1)) hx hb dX6_makes_73 (by decide) ?_
            refine xi_add hx hb dX6_makes_74 ?_
            refine xw_put hx hb hts hin6 tyX6 tyX6_ok nmX6 hown hK hP hD hS (by decide) fg20_0 rfl 11 (by decide) hf130 rfl rfl (ty := .int) (by decide +kernel) rfl rfl (Nat.le_of_ble_eq_true rfl) (fs' := [.int (nI (q)), .int (nI (Wt)), .ref (ad (63)), .ref (ad (64)), .ref (ad (65)), .ref (ad (66)), .int (nI (T)), .long (tp), .long (bt), .long (nu), .long (de), .int (nI (ns + 1)), .ref (ad (67)), .ref (ad (68)), .ref (ad (69)), .ref (ad (70)), .ref (ad (71)), .ref (ad (72)), .ref (ad (73)), .ref (ad (74)), .ref (ad (75)), .ref (ad (76)), .ref (ad (77)), .ref (ad (78)), .ref (ad (79)), .ref (ad (80))]) rfl dX6_makes_75 (fun g21 H locs eg21 hP hS => ?_)
            have fg21_0 : g21 (64) = .inl (cI, 8, .inl (fsz)) := (congrFun eg21 (64)).trans ((va_up_ne _ _ (by decide)).trans fg20_1)
            have fg21_1 : g21 (65) = .inl (cI, 40, .inl (fwd)) := (congrFun eg21 (65)).trans ((va_up_ne _ _ (by decide)).trans fg20_2)
            have fg21_2 : g21 (69) = .inl (cI, 52, .inl (fgo)) := (congrFun eg21 (69)).trans ((va_up_ne _ _ (by decide)).trans fg20_3)
            have fg21_3 : g21 (70) = .inl (cI, 6, .inl (frw)) := (congrFun eg21 (70)).trans ((va_up_ne _ _ (by decide)).trans fg20_4)
            have fg21_4 : g21 (67) = .inl (cI, 13, .inl (upd (fx) (ns) (nI (i)))) := (congrFun eg21 (67)).trans ((va_up_ne _ _ (by decide)).trans fg20_5)
            have fg21_5 : g21 (68) = .inl (cI, 13, .inl (upd (fy) (ns) (nI (j)))) := (congrFun eg21 (68)).trans ((va_up_ne _ _ (by decide)).trans fg20_w)
            have fg21_w : g21 (62) = .inr (6, [.int (nI (q)), .int (nI (Wt)), .ref (ad (63)), .ref (ad (64)), .ref (ad (65)), .ref (ad (66)), .int (nI (T)), .long (tp), .long (bt), .long (nu), .long (de), .int (nI (ns + 1)), .ref (ad (67)), .ref (ad (68)), .ref (ad (69)), .ref (ad (70)), .ref (ad (71)), .ref (ad (72)), .ref (ad (73)), .ref (ad (74)), .ref (ad (75)), .ref (ad (76)), .ref (ad (77)), .ref (ad (78)), .ref (ad (79)), .ref (ad (80))]) := (congrFun eg21 (62)).trans (va_up_self _ _ _)
            have hfrg21 : ∀ j : Nat, j ≠ 62 → j ≠ 67 → j ≠ 68 → j ≠ 69 → j ≠ 70 → g21 j = g j := fun j h0 h1 h2 h3 h4 => (congrFun eg21 j).trans ((va_up_ne _ _ h0).trans (hfrg20 j h0 h1 h2 h3 h4))
            refine lv_iinc (v := nI (j + 1)) (lv' := [(3, .int (nI (j + 1))), (0, .ref (ad (62))), (1, .int (nI (li))), (2, .int (nI (i)))]) hx hb dX6_makes_78 hl (k := 3) rfl (nI_add (j) 1) (by decide) rfl (fun ls hl => ?_)
            refine lv_goto (tgt := 26) hx hb dX6_makes_81 (by decide) ?_
            exact ih26 (j + 1, ns + 1, va_up sl ns i, va_up sz ns j, upd (fx) (ns) (nI (i)), upd (fy) (ns) (nI (j))) g21 H locs ls ⟨(by omega), (by omega), (fun _ => if e : 0 = ns then by rw [← e, va_up_self]; omega else by rw [va_up_ne _ _ e]; exact hz (by omega)), (fun k hk => if e : k = ns then by rw [e, va_up_self, va_up_self]; exact ⟨by omega, hbit, by omega⟩ else by rw [va_up_ne _ _ e, va_up_ne _ _ e]; exact hst k (by omega)), (fun k hk => if e : k = ns then by rw [e, pk_us, va_up_self] else by rw [pk_un e, va_up_ne _ _ e]; exact hos k (by omega)), (fun k hk => if e : k = ns then by rw [e, pk_us, va_up_self] else by rw [pk_un e, va_up_ne _ _ e]; exact hoz k (by omega)), (fun s m h1 h2 h3 => by obtain ⟨k, hk, h9⟩ := hcm s m h1 h2 h3; exact ⟨k, by omega, by rw [va_up_ne _ _ (by omega), va_up_ne _ _ (by omega)]; exact h9⟩), (fun m hm => if e : m = j then ⟨ns, by omega, by rw [va_up_self, va_up_self]; exact ⟨e, fun _ _ => rfl⟩⟩ else by obtain ⟨k, hk, h9⟩ := hcj m (by omega); exact ⟨k, by omega, by rw [va_up_ne _ _ (by omega), va_up_ne _ _ (by omega)]; exact h9⟩), fg21_w, fg21_0, fg21_1, fg21_4, fg21_5, fg21_2, fg21_3, hfrg21, hP, hS, (lv_sub hl [1, 2, 3, 0] rfl)⟩ (by first | omega | (dsimp only; omega))
          · exact absurd (show ((-1) : Int32) < 0 by decide) c42_18
    · refine lv_goto (tgt := 84) hx hb dX6_makes_21 (by decide) ?_
      refine lv_iinc (v := nI (i + 1)) (lv' := [(2, .int (nI (i + 1))), (0, .ref (ad (62))), (1, .int (nI (li)))]) hx hb dX6_makes_84 hl (k := 2) rfl (nI_add (i) 1) (by decide) rfl (fun ls hl => ?_)
      refine lv_goto (tgt := 7) hx hb dX6_makes_87 (by decide) ?_
      exact ih7 (i + 1, ns, sl, sz, fx, fy) gl7_2 H locs ls ⟨(by omega), (by rw [cntS_n (fun h => absurd (of_decide_eq_true h) (by have h9 := c18_13; omega))]; exact hA), hz, hst, hos, hoz, (fun s m h1 h2 h3 => if e : s = i then absurd h2 (by rw [e]; have h9 := c18_13; omega) else hcm s m (by omega) h2 h3), fo62, fa64, fa65, fa67, fa68, fa69, fa70, hfrgl7_2, hP, hS, (lv_sub hl [1, 2, 0] rfl)⟩ (by first | omega | (dsimp only; omega))
