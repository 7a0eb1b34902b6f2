def ModI (cI cJ : ClassId) (ad : Nat → Nat) (g : Nat → va_E) (q Wt : Nat) (w : Nat → Nat) (ln : Nat → Nat) (u : Nat → Nat → Nat) (T : Nat) (t : Nat → Nat) (tp bt : Int64) : Prop := ∃ (sq : Int32) (nu de : Int64) (fw fsz fwd ftx fos foz fgo frw : Nat → Int32) (fan fad frn frd fen fed fcn fcd fnw fth : Nat → Int64), g 62 = .inr (6, [.int (nI (q)), .int (nI (Wt)), .ref (ad (63)), .ref (ad (64)), .ref (ad (65)), .ref (ad (66)), .int (nI (T)), .long (tp), .long (bt), .long (nu), .long (de), .int (sq), .ref (ad (67)), .ref (ad (68)), .ref (ad (69)), .ref (ad (70)), .ref (ad (71)), .ref (ad (72)), .ref (ad (73)), .ref (ad (74)), .ref (ad (75)), .ref (ad (76)), .ref (ad (77)), .ref (ad (78)), .ref (ad (79)), .ref (ad (80))]) ∧ g 63 = .inl (cI, 4, .inl (fw)) ∧ g 64 = .inl (cI, 8, .inl (fsz)) ∧ g 65 = .inl (cI, 40, .inl (fwd)) ∧ g 66 = .inl (cI, 300, .inl (ftx)) ∧ g 67 = .inl (cI, 13, .inl (fos)) ∧ g 68 = .inl (cI, 13, .inl (foz)) ∧ g 69 = .inl (cI, 52, .inl (fgo)) ∧ g 70 = .inl (cI, 6, .inl (frw)) ∧ g 71 = .inl (cJ, 169, .inr (.inl (fan))) ∧ g 72 = .inl (cJ, 169, .inr (.inl (fad))) ∧ g 73 = .inl (cJ, 13, .inr (.inl (frn))) ∧ g 74 = .inl (cJ, 13, .inr (.inl (frd))) ∧ g 75 = .inl (cJ, 13, .inr (.inl (fen))) ∧ g 76 = .inl (cJ, 13, .inr (.inl (fed))) ∧ g 77 = .inl (cJ, 16, .inr (.inl (fcn))) ∧ g 78 = .inl (cJ, 16, .inr (.inl (fcd))) ∧ g 79 = .inl (cJ, 16384, .inr (.inl (fnw))) ∧ g 80 = .inl (cJ, 16384, .inr (.inl (fth))) ∧ (∀ j, j < 4 → fw j = nI (w j)) ∧ (∀ k, k < 8 → fsz k = nI (ln k)) ∧ (∀ k j, k < 8 → j < ln k → fwd (5 * k + j) = nI (u k j)) ∧ (∀ j, j < T → ftx j = nI (t j))
set_option maxHeartbeats 4000000 in
set_option maxRecDepth 100000 in
/-- lies -/
theorem mX6_lies (l : Launch) {D : va_G} {cI cJ cZ cW : ClassId} {ad : Nat → Nat} {g : Nat → va_E} {q Wt T : Nat} {w ln t : Nat → Nat} {u : Nat → Nat → Nat} {tp bt : Int64} {k1 k2 : Nat} {sq : Int32} {nu de : Int64} {fsz : Nat → Int32} {fwd : Nat → Int32}  (fo62 : g (62) = .inr (6, [.int (nI (q)), .int (nI (Wt)), .ref (ad (63)), .ref (ad (64)), .ref (ad (65)), .ref (ad (66)), .int (nI (T)), .long (tp), .long (bt), .long (nu), .long (de), .int (sq), .ref (ad (67)), .ref (ad (68)), .ref (ad (69)), .ref (ad (70)), .ref (ad (71)), .ref (ad (72)), .ref (ad (73)), .ref (ad (74)), .ref (ad (75)), .ref (ad (76)), .ref (ad (77)), .ref (ad (78)), .ref (ad (79)), .ref (ad (80))])) (fa64 : g (64) = .inl (cI, 8, .inl (fsz))) (fa65 : g (65) = .inl (cI, 40, .inl (fwd)))  (hsz : ∀ k, k < 8 → fsz k = nI (ln k)) (hwl : ∀ k j, k < 8 → j < ln k → fwd (5 * k + j) = nI (u k j)) (hq2 : 2 ≤ q) (hq4 : q ≤ 4) (hln : ∀ k, ln k ≤ 5) (hul : ∀ k j, j < ln k → u k j < q) (hT : T ≤ 300) (ht : ∀ j, j < T → t j < q) (hk1 : k1 < 8) (hk2 : k2 < 8) : Met l yX6_lies wsX6_lies ({ frames := 1, cells := 0, slots := 0, locals := 22 }) (va_Pc [.ref (ad (62)), .int (nI (k1)), .int (nI (k2))] (xB D (xT cI cJ cZ cW) ad g)) (vp_Si (fun r => r = if liesW (u k1) (ln k1) (u k2) (ln k2) then 1 else 0)) 0 0 (fun _ => False) := by
  refine Met.ofW (cc := cX6_lies) (maxL := 7) (ret := (some .boolean)) (by decide) rfl ?_
  intro p e s m args below meth c s₁ B hml hv
  obtain ⟨rfl, hP, hK, hN⟩ := hv
  have hx := B.exec
  have hb := B.bytes
  have hr := B.returns
  have hts := atoms_spec (ws := wsX6_lies) B.pre
  have hown : s.vm.findClass RX6 = some m.cls := findClass_of_methodNamed B.named
  have hlocks := B.notSynchronized
  have hin6 : ∀ w ∈ wsX60, w ∈ wsX6_lies := by decide +kernel
  have hf20 := hts (.fieldLink RX6 20 "LettersByLotModel" "size" "[I") (by decide +kernel)
  have hl := lv_entry ([.ref (ad (62)), .int (nI (k1)), .int (nI (k2))]) (n := 7) (Nat.le_of_ble_eq_true rfl)
  rw [lg_entry_eq]
  generalize (lg_sl ([.ref (ad (62)), .int (nI (k1)), .int (nI (k2))]) ++ List.replicate (7 - (lg_sl ([.ref (ad (62)), .int (nI (k1)), .int (nI (k2))])).length) Slot.unset).toArray = ls at hl ⊢
  have hl : lv_has ls 7 [(0, .ref (ad (62))), (1, .int (nI (k1))), (2, .int (nI (k2)))] := hl
  have hn1 := hln k1
  have hn2 := hln k2
  refine lv_iconst (v := nI (0)) hx hb dX6_lies_0 (by decide) ?_
  refine lv_istore_n (lv' := [(3, .int (nI (0))), (0, .ref (ad (62))), (1, .int (nI (k1))), (2, .int (nI (k2)))]) hx hb dX6_lies_1 rfl hl (by decide) rfl (fun ls hl => ?_)
  refine lv_iconst (v := nI (0)) hx hb dX6_lies_2 (by decide) ?_
  refine lv_istore (lv' := [(4, .int (nI (0))), (3, .int (nI (0))), (0, .ref (ad (62))), (1, .int (nI (k1))), (2, .int (nI (k2)))]) hx hb dX6_lies_3 hl (by decide) rfl (fun ls hl => ?_)
  refine xloop (G := fun fr => W p l e _ s m _ below meth c _ _ _ _ _ fr) (σ := Nat × Nat) (fun (a, d) ls => F0 m 5 ls []) (fun (a, d) ls => (a ≤ 6) ∧ ((d = 1 ∧ liesW (u k1) (ln k1) (u k2) (ln k2)) ∨ (d = 0 ∧ ∀ x, x < a → ¬ stD (u k2) x (u k1) (ln k1))) ∧ lv_has ls 7 [(0, .ref (ad (62))), (1, .int (nI (k1))), (2, .int (nI (k2))), (3, .int (nI (d))), (4, .int (nI (a)))]) (fun (a, d) => 6 - a) ?_ (0, 0) ls ⟨(Nat.zero_le _), (Or.inr ⟨rfl, fun x hx => absurd hx (by omega)⟩), (lv_sub hl [2, 3, 4, 1, 0] rfl)⟩
  rintro ⟨a, d⟩ ls ⟨ha, hdq, hl⟩ ih5
  refine lv_iload hx hb dX6_lies_5 (lv_at hl 4 rfl) ?_
  refine lv_aload_n hx hb dX6_lies_7 rfl (lv_at hl 0 rfl) ?_
  refine xw_get hx hb hts hin6 hown hK hP (by decide) fo62 rfl 3 (by decide) hf20 rfl rfl dX6_lies_8 ?_
  refine lv_iload_n hx hb dX6_lies_11 rfl (lv_at hl 1 rfl) ?_
  refine xw_iald hx hb hK hP (by decide) 0 fa64 rfl (by omega) (by decide) dX6_lies_12 ?_
  rw [hsz (k1) (by omega)]
  refine xi_add hx hb dX6_lies_13 ?_
  refine lv_aload_n hx hb dX6_lies_14 rfl (lv_at hl 0 rfl) ?_
  refine xw_get hx hb hts hin6 hown hK hP (by decide) fo62 rfl 3 (by decide) hf20 rfl rfl dX6_lies_15 ?_
  refine lv_iload_n hx hb dX6_lies_18 rfl (lv_at hl 2 rfl) ?_
  refine xw_iald hx hb hK hP (by decide) 0 fa64 rfl (by omega) (by decide) dX6_lies_19 ?_
  rw [hsz (k2) (by omega)]
  refine xi_icmp_gt (tgt := 99) hx hb (by omega) (by omega) dX6_lies_20 (by decide) (fun c20_1 => ?_) (fun c20_1 => ?_)
  · refine lv_iload_n hx hb dX6_lies_99 rfl (lv_at hl 3 rfl) ?_
    exact W.zret (v := nI d) hx hb hr (by rcases hdq with h | h; rw [h.1]; rfl; rw [h.1]; rfl) (fun tZ ht _ => ⟨_, rfl, (by show _ = (if liesW (u k1) (ln k1) (u k2) (ln k2) then 1 else 0); rcases hdq with h | h; rw [h.1]; exact xb1 h.2; rw [h.1]; exact xb0 (fun h2 => by obtain ⟨x, h3, h4⟩ := liesW_to h2; exact h.2 x (by omega) h4)), ht⟩) (fun q hq => by cases hq) dX6_lies_100
  · refine lv_iconst (v := nI (1)) hx hb dX6_lies_23 (by decide) ?_
    refine lv_istore (lv' := [(5, .int (nI (1))), (0, .ref (ad (62))), (1, .int (nI (k1))), (2, .int (nI (k2))), (3, .int (nI (d))), (4, .int (nI (a)))]) hx hb dX6_lies_24 hl (by decide) rfl (fun ls hl => ?_)
    refine lv_iconst (v := nI (0)) hx hb dX6_lies_26 (by decide) ?_
    refine lv_istore (lv' := [(6, .int (nI (0))), (5, .int (nI (1))), (0, .ref (ad (62))), (1, .int (nI (k1))), (2, .int (nI (k2))), (3, .int (nI (d))), (4, .int (nI (a)))]) hx hb dX6_lies_27 hl (by decide) rfl (fun ls hl => ?_)
    refine xloop (G := fun fr => W p l e _ s m _ below meth c _ _ _ _ _ fr) (σ := Nat × Nat) (fun (i, b) ls => F0 m 29 ls []) (fun (i, b) ls => (i ≤ ln k1) ∧ ((b = 1 ∧ ∀ j, j < i → u k2 (a + j) = u k1 j) ∨ (b = 0 ∧ ¬ stD (u k2) a (u k1) (ln k1))) ∧ lv_has ls 7 [(0, .ref (ad (62))), (1, .int (nI (k1))), (2, .int (nI (k2))), (3, .int (nI (d))), (4, .int (nI (a))), (5, .int (nI (b))), (6, .int (nI (i)))]) (fun (i, b) => ln k1 - i) ?_ (0, 1) ls ⟨(Nat.zero_le _), (Or.inl ⟨rfl, fun j hj => absurd hj (by omega)⟩), (lv_sub hl [2, 3, 4, 5, 6, 1, 0] rfl)⟩
    rintro ⟨i, b⟩ ls ⟨hi, hbq, hl⟩ ih29
    refine lv_iload hx hb dX6_lies_29 (lv_at hl 6 rfl) ?_
    refine lv_aload_n hx hb dX6_lies_31 rfl (lv_at hl 0 rfl) ?_
    refine xw_get hx hb hts hin6 hown hK hP (by decide) fo62 rfl 3 (by decide) hf20 rfl rfl dX6_lies_32 ?_
    refine lv_iload_n hx hb dX6_lies_35 rfl (lv_at hl 1 rfl) ?_
    refine xw_iald hx hb hK hP (by decide) 0 fa64 rfl (by omega) (by decide) dX6_lies_36 ?_
    rw [hsz (k1) (by omega)]
    refine xi_icmp_ge (tgt := 78) hx hb (by omega) (by omega) dX6_lies_37 (by decide) (fun c37_2 => ?_) (fun c37_2 => ?_)
    · refine lv_iload_n hx hb dX6_lies_78 rfl (lv_at hl 3 rfl) ?_
      refine xi_if_ne (tgt := 87) hx hb (by rcases hdq with h | h <;> omega) dX6_lies_79 (by decide) (fun c79_3 => ?_) (fun c79_3 => ?_)
      · refine lv_iconst (v := nI (1)) hx hb dX6_lies_87 (by decide) ?_
        refine lv_goto (tgt := 92) hx hb dX6_lies_88 (by decide) ?_
        refine lv_istore_n (lv' := [(3, .int (nI (1))), (0, .ref (ad (62))), (1, .int (nI (k1))), (2, .int (nI (k2))), (4, .int (nI (a))), (5, .int (nI (b))), (6, .int (nI (i)))]) hx hb dX6_lies_92 rfl hl (by decide) rfl (fun ls hl => ?_)
        refine lv_iinc (v := nI (a + 1)) (lv' := [(4, .int (nI (a + 1))), (3, .int (nI (1))), (0, .ref (ad (62))), (1, .int (nI (k1))), (2, .int (nI (k2))), (5, .int (nI (b))), (6, .int (nI (i)))]) hx hb dX6_lies_93 hl (k := 4) rfl (nI_add (a) 1) (by decide) rfl (fun ls hl => ?_)
        refine lv_goto (tgt := 5) hx hb dX6_lies_96 (by decide) ?_
        exact ih5 (a + 1, 1) ls ⟨(by omega), (hdq.elim (fun h => Or.inl ⟨rfl, h.2⟩) (fun h => absurd h.1 c79_3)), (lv_sub hl [2, 3, 4, 1, 0] rfl)⟩ (by first | omega | (dsimp only; omega))
      · refine lv_iload hx hb dX6_lies_82 (lv_at hl 5 rfl) ?_
        refine xi_if_eq (tgt := 91) hx hb (by rcases hbq with h | h <;> omega) dX6_lies_84 (by decide) (fun c84_4 => ?_) (fun c84_4 => ?_)
        · refine lv_iconst (v := nI (0)) hx hb dX6_lies_91 (by decide) ?_
          refine lv_istore_n (lv' := [(3, .int (nI (0))), (0, .ref (ad (62))), (1, .int (nI (k1))), (2, .int (nI (k2))), (4, .int (nI (a))), (5, .int (nI (b))), (6, .int (nI (i)))]) hx hb dX6_lies_92 rfl hl (by decide) rfl (fun ls hl => ?_)
          refine lv_iinc (v := nI (a + 1)) (lv' := [(4, .int (nI (a + 1))), (3, .int (nI (0))), (0, .ref (ad (62))), (1, .int (nI (k1))), (2, .int (nI (k2))), (5, .int (nI (b))), (6, .int (nI (i)))]) hx hb dX6_lies_93 hl (k := 4) rfl (nI_add (a) 1) (by decide) rfl (fun ls hl => ?_)
          refine lv_goto (tgt := 5) hx hb dX6_lies_96 (by decide) ?_
          exact ih5 (a + 1, 0) ls ⟨(by omega), (hdq.elim (fun h => absurd c79_3 (by omega)) (fun hd => hbq.elim (fun h => absurd c84_4 (by omega)) (fun h => Or.inr ⟨rfl, fun x hx => if e : x = a then by rw [e]; exact h.2 else hd.2 x (by omega)⟩))), (lv_sub hl [2, 3, 4, 1, 0] rfl)⟩ (by first | omega | (dsimp only; omega))
        · refine lv_iconst (v := nI (1)) hx hb dX6_lies_87 (by decide) ?_
          refine lv_goto (tgt := 92) hx hb dX6_lies_88 (by decide) ?_
          refine lv_istore_n (lv' := [(3, .int (nI (1))), (0, .ref (ad (62))), (1, .int (nI (k1))), (2, .int (nI (k2))), (4, .int (nI (a))), (5, .int (nI (b))), (6, .int (nI (i)))]) hx hb dX6_lies_92 rfl hl (by decide) rfl (fun ls hl => ?_)
          refine lv_iinc (v := nI (a + 1)) (lv' := [(4, .int (nI (a + 1))), (3, .int (nI (1))), (0, .ref (ad (62))), (1, .int (nI (k1))), (2, .int (nI (k2))), (5, .int (nI (b))), (6, .int (nI (i)))]) hx hb dX6_lies_93 hl (k := 4) rfl (nI_add (a) 1) (by decide) rfl (fun ls hl => ?_)
          refine lv_goto (tgt := 5) hx hb dX6_lies_96 (by decide) ?_
          exact ih5 (a + 1, 1) ls ⟨(by omega), (hbq.elim (fun h => Or.inl ⟨rfl, liesW_of (by omega) (by omega) (fun j hj => h.2 j (by omega))⟩) (fun h => absurd h.1 c84_4)), (lv_sub hl [2, 3, 4, 1, 0] rfl)⟩ (by first | omega | (dsimp only; omega))
    · refine lv_iload hx hb dX6_lies_40 (lv_at hl 5 rfl) ?_
      refine xi_if_eq (tgt := 69) hx hb (by rcases hbq with h | h <;> omega) dX6_lies_42 (by decide) (fun c42_5 => ?_) (fun c42_5 => ?_)
      · refine lv_iconst (v := nI (0)) hx hb dX6_lies_69 (by decide) ?_
        refine lv_istore (lv' := [(5, .int (nI (0))), (0, .ref (ad (62))), (1, .int (nI (k1))), (2, .int (nI (k2))), (3, .int (nI (d))), (4, .int (nI (a))), (6, .int (nI (i)))]) hx hb dX6_lies_70 hl (by decide) rfl (fun ls hl => ?_)
        refine lv_iinc (v := nI (i + 1)) (lv' := [(6, .int (nI (i + 1))), (5, .int (nI (0))), (0, .ref (ad (62))), (1, .int (nI (k1))), (2, .int (nI (k2))), (3, .int (nI (d))), (4, .int (nI (a)))]) hx hb dX6_lies_72 hl (k := 6) rfl (nI_add (i) 1) (by decide) rfl (fun ls hl => ?_)
        refine lv_goto (tgt := 29) hx hb dX6_lies_75 (by decide) ?_
        exact ih29 (i + 1, 0) ls ⟨(by omega), (hbq.elim (fun h => absurd c42_5 (by omega)) (fun h => Or.inr ⟨rfl, h.2⟩)), (lv_sub hl [2, 3, 4, 5, 6, 1, 0] rfl)⟩ (by first | omega | (dsimp only; omega))
      · have hb1 := hbq.resolve_right (fun h => c42_5 h.1)
        refine lv_aload_n hx hb dX6_lies_45 rfl (lv_at hl 0 rfl) ?_
        refine lv_iload_n hx hb dX6_lies_46 rfl (lv_at hl 1 rfl) ?_
        refine lv_iload hx hb dX6_lies_47 (lv_at hl 6 rfl) ?_
        refine vp_callSi (va_Run.run (va_runV (As := [.int (nI (k1)), .int (nI (i))]) (rest := []) ⟨hx, hb, hml, hown, hts⟩ (mX6_letterOf l (w := w) (ln := ln) (t := t) (u := u) (s1 := k1) (j1 := i) (vv := u (k1) (i)) fo62 fa65 (by omega) (by have h9 := hln (k1); omega) (hwl (k1) (i) (by omega) (by omega))) (cwV 2 hts gX6_lies_X6_letterOf rfl rfl rfl (by decide +kernel) ⟨Nat.le_of_ble_eq_true rfl, Nat.le_of_ble_eq_true rfl⟩) ⟨xB_blind, va_recv hK hP (ci := 6) rfl (xw_is (by decide) fo62), fun U hU hW => ⟨rfl, by rw [hU]; exact hP, va_K.moved hW.alike hK, va_Nw.warmM hW hN⟩⟩ rfl rfl hl.1 rfl (lv_room (Nat.le_of_ble_eq_true rfl)) dX6_lies_49 ⟨Nat.le_of_ble_eq_true rfl, Nat.le_of_ble_eq_true rfl⟩)) (fun r6 er6 => ?_)
        subst er6
        refine lv_aload_n hx hb dX6_lies_52 rfl (lv_at hl 0 rfl) ?_
        refine lv_iload_n hx hb dX6_lies_53 rfl (lv_at hl 2 rfl) ?_
        refine lv_iload hx hb dX6_lies_54 (lv_at hl 4 rfl) ?_
        refine lv_iload hx hb dX6_lies_56 (lv_at hl 6 rfl) ?_
        refine xi_add hx hb dX6_lies_58 ?_
        refine vp_callSi (va_Run.run (va_runV (As := [.int (nI (k2)), .int (nI (a + i))]) (rest := [.int (nI (u (k1) (i)))]) ⟨hx, hb, hml, hown, hts⟩ (mX6_letterOf l (w := w) (ln := ln) (t := t) (u := u) (s1 := k2) (j1 := a + i) (vv := u (k2) (a + i)) fo62 fa65 (by omega) (by have h9 := hln (k2); omega) (hwl (k2) (a + i) (by omega) (by omega))) (cwV 2 hts gX6_lies_X6_letterOf rfl rfl rfl (by decide +kernel) ⟨Nat.le_of_ble_eq_true rfl, Nat.le_of_ble_eq_true rfl⟩) ⟨xB_blind, va_recv hK hP (ci := 6) rfl (xw_is (by decide) fo62), fun U hU hW => ⟨rfl, by rw [hU]; exact hP, va_K.moved hW.alike hK, va_Nw.warmM hW hN⟩⟩ rfl rfl hl.1 rfl (lv_room (Nat.le_of_ble_eq_true rfl)) dX6_lies_59 ⟨Nat.le_of_ble_eq_true rfl, Nat.le_of_ble_eq_true rfl⟩)) (fun r7 er7 => ?_)
        subst er7
        refine xi_icmp_ne (tgt := 69) hx hb (Nat.lt_trans (hul _ _ (by omega)) (by omega)) (Nat.lt_trans (hul _ _ (by omega)) (by omega)) dX6_lies_62 (by decide) (fun c62_8 => ?_) (fun c62_8 => ?_)
        · refine lv_iconst (v := nI (0)) hx hb dX6_lies_69 (by decide) ?_
          refine lv_istore (lv' := [(5, .int (nI (0))), (0, .ref (ad (62))), (1, .int (nI (k1))), (2, .int (nI (k2))), (3, .int (nI (d))), (4, .int (nI (a))), (6, .int (nI (i)))]) hx hb dX6_lies_70 hl (by decide) rfl (fun ls hl => ?_)
          refine lv_iinc (v := nI (i + 1)) (lv' := [(6, .int (nI (i + 1))), (5, .int (nI (0))), (0, .ref (ad (62))), (1, .int (nI (k1))), (2, .int (nI (k2))), (3, .int (nI (d))), (4, .int (nI (a)))]) hx hb dX6_lies_72 hl (k := 6) rfl (nI_add (i) 1) (by decide) rfl (fun ls hl => ?_)
          refine lv_goto (tgt := 29) hx hb dX6_lies_75 (by decide) ?_
          exact ih29 (i + 1, 0) ls ⟨(by omega), (Or.inr ⟨rfl, fun h => c62_8 (h i (by omega)).symm⟩), (lv_sub hl [2, 3, 4, 5, 6, 1, 0] rfl)⟩ (by first | omega | (dsimp only; omega))
        · refine lv_iconst (v := nI (1)) hx hb dX6_lies_65 (by decide) ?_
          refine lv_goto (tgt := 70) hx hb dX6_lies_66 (by decide) ?_
          refine lv_istore (lv' := [(5, .int (nI (1))), (0, .ref (ad (62))), (1, .int (nI (k1))), (2, .int (nI (k2))), (3, .int (nI (d))), (4, .int (nI (a))), (6, .int (nI (i)))]) hx hb dX6_lies_70 hl (by decide) rfl (fun ls hl => ?_)
          refine lv_iinc (v := nI (i + 1)) (lv' := [(6, .int (nI (i + 1))), (5, .int (nI (1))), (0, .ref (ad (62))), (1, .int (nI (k1))), (2, .int (nI (k2))), (3, .int (nI (d))), (4, .int (nI (a)))]) hx hb dX6_lies_72 hl (k := 6) rfl (nI_add (i) 1) (by decide) rfl (fun ls hl => ?_)
          refine lv_goto (tgt := 29) hx hb dX6_lies_75 (by decide) ?_
          exact ih29 (i + 1, 1) ls ⟨(by omega), (Or.inl ⟨rfl, fun j hj => if e : j = i then by rw [e]; exact c62_8.symm else hb1.2 j (by omega)⟩), (lv_sub hl [2, 3, 4, 5, 6, 1, 0] rfl)⟩ (by first | omega | (dsimp only; omega))

set_option maxHeartbeats 4000000 in
set_option maxRecDepth 100000 in
theorem mX6_within_ss (l : Launch) {D : va_G} {cI cJ cZ cW : ClassId} {ad : Nat → Nat} {g : Nat → va_E} {q Wt : Nat} {w : Nat → Nat} {ln : Nat → Nat} {u : Nat → Nat → Nat} {T : Nat} {t : Nat → Nat} {tp bt : Int64} {k1 : Nat} {k2 : Nat}  (hM : ModI cI cJ ad g q Wt w ln u T t tp bt) (hs : SrcI q Wt w ln u T t) (hk1 : k1 < 8) (hp1 : 0 < ln k1) (hk2 : k2 < 8) (hp2 : 0 < ln k2) : Met l yX6_within wsX6_within ({ frames := 2, cells := 0, slots := 0, locals := 48 }) (va_Pc [.ref (ad (62)), .int (nI (k1)), .int (nI (k2))] (xB D (xT cI cJ cZ cW) ad g)) (vp_Si (fun r => r = aWithin ln u (nI (k1)) (nI (k2)))) 0 0 (fun _ => False) := by
  refine Met.ofW (cc := cX6_within) (maxL := 3) (ret := (some .boolean)) (by decide) rfl ?_
  intro p e s m args below meth c s₁ B hml hv
  obtain ⟨rfl, hP, hK, hN⟩ := hv
  have hx := B.exec
  have hb := B.bytes
  have hr := B.returns
  have hts := atoms_spec (ws := wsX6_within) B.pre
  have hown : s.vm.findClass RX6 = some m.cls := findClass_of_methodNamed B.named
  have hlocks := B.notSynchronized
  have hl := lv_entry ([.ref (ad (62)), .int (nI (k1)), .int (nI (k2))]) (n := 3) (Nat.le_of_ble_eq_true rfl)
  rw [lg_entry_eq]
  generalize (lg_sl ([.ref (ad (62)), .int (nI (k1)), .int (nI (k2))]) ++ List.replicate (3 - (lg_sl ([.ref (ad (62)), .int (nI (k1)), .int (nI (k2))])).length) Slot.unset).toArray = ls at hl ⊢
  have hl : lv_has ls 3 [(0, .ref (ad (62))), (1, .int (nI (k1))), (2, .int (nI (k2)))] := hl
  obtain ⟨hq2, hq4, hw1, hw0, hWs, hWt, hw, hln, hul, hT, ht⟩ := hs
  obtain ⟨sq, nu, de, fw, fsz, fwd, ftx, fos, foz, fgo, frw, fan, fad, frn, frd, fen, fed, fcn, fcd, fnw, fth, fo62, fa63, fa64, fa65, fa66, fa67, fa68, fa69, fa70, fa71, fa72, fa73, fa74, fa75, fa76, fa77, fa78, fa79, fa80, hfw, hsz, hwl, htx⟩ := id hM
  have hn1 := hln k1
  have hn2 := hln k2
  refine lv_aload_n hx hb dX6_within_0 rfl (lv_at hl 0 rfl) ?_
  refine lv_iload_n hx hb dX6_within_1 rfl (lv_at hl 1 rfl) ?_
  refine vp_callSi (va_Run.run (va_runV (As := [.int (nI (k1))]) (rest := []) ⟨hx, hb, hml, hown, hts⟩ (mX6_isWord_yes l (w := w) (ln := ln) (t := t) (u := u) fo62 fa64 hsz hk1 hp1 (hln _)) (cwV 1 hts gX6_within_X6_isWord rfl rfl rfl (by decide +kernel) ⟨Nat.le_of_ble_eq_true rfl, Nat.le_of_ble_eq_true rfl⟩) ⟨xB_blind, va_recv hK hP (ci := 6) rfl (xw_is (by decide) fo62), fun U hU hW => ⟨rfl, by rw [hU]; exact hP, va_K.moved hW.alike hK, va_Nw.warmM hW hN⟩⟩ rfl rfl hl.1 rfl (lv_room (Nat.le_of_ble_eq_true rfl)) dX6_within_2 ⟨Nat.le_of_ble_eq_true rfl, Nat.le_of_ble_eq_true rfl⟩)) (fun r1 er1 => ?_)
  subst er1
  refine xi_if_eq (tgt := 29) hx hb (by decide) dX6_within_5 (by decide) (fun c0 => absurd c0 (by decide)) (fun _ => ?_)
  refine lv_aload_n hx hb dX6_within_8 rfl (lv_at hl 0 rfl) ?_
  refine lv_iload_n hx hb dX6_within_9 rfl (lv_at hl 2 rfl) ?_
  refine vp_callSi (va_Run.run (va_runV (As := [.int (nI (k2))]) (rest := []) ⟨hx, hb, hml, hown, hts⟩ (mX6_isWord_yes l (w := w) (ln := ln) (t := t) (u := u) fo62 fa64 hsz hk2 hp2 (hln _)) (cwV 1 hts gX6_within_X6_isWord rfl rfl rfl (by decide +kernel) ⟨Nat.le_of_ble_eq_true rfl, Nat.le_of_ble_eq_true rfl⟩) ⟨xB_blind, va_recv hK hP (ci := 6) rfl (xw_is (by decide) fo62), fun U hU hW => ⟨rfl, by rw [hU]; exact hP, va_K.moved hW.alike hK, va_Nw.warmM hW hN⟩⟩ rfl rfl hl.1 rfl (lv_room (Nat.le_of_ble_eq_true rfl)) dX6_within_10 ⟨Nat.le_of_ble_eq_true rfl, Nat.le_of_ble_eq_true rfl⟩)) (fun r3 er3 => ?_)
  subst er3
  refine xi_if_eq (tgt := 29) hx hb (by decide) dX6_within_13 (by decide) (fun c0 => absurd c0 (by decide)) (fun _ => ?_)
  refine lv_aload_n hx hb dX6_within_16 rfl (lv_at hl 0 rfl) ?_
  refine lv_iload_n hx hb dX6_within_17 rfl (lv_at hl 1 rfl) ?_
  refine lv_iload_n hx hb dX6_within_18 rfl (lv_at hl 2 rfl) ?_
  refine vp_callSi (va_Run.run (va_runV (As := [.int (nI (k1)), .int (nI (k2))]) (rest := []) ⟨hx, hb, hml, hown, hts⟩ (mX6_lies l (w := w) (ln := ln) (t := t) (u := u) fo62 fa64 fa65 hsz hwl hq2 hq4 hln hul hT ht (by omega) (by omega)) (cwV 2 hts gX6_within_X6_lies rfl rfl rfl (by decide +kernel) ⟨Nat.le_of_ble_eq_true rfl, Nat.le_of_ble_eq_true rfl⟩) ⟨xB_blind, va_recv hK hP (ci := 6) rfl (xw_is (by decide) fo62), fun U hU hW => ⟨rfl, by rw [hU]; exact hP, va_K.moved hW.alike hK, va_Nw.warmM hW hN⟩⟩ rfl rfl hl.1 rfl (lv_room (Nat.le_of_ble_eq_true rfl)) dX6_within_19 ⟨Nat.le_of_ble_eq_true rfl, Nat.le_of_ble_eq_true rfl⟩)) (fun r5 er5 => ?_)
  subst er5
  refine xb_if_eq (tgt := 29) hx hb dX6_within_22 (by decide) (fun c22_6 => ?_) (fun c22_6 => ?_)
  · refine lv_iconst (v := nI (0)) hx hb dX6_within_29 (by decide) ?_
    exact W.zret (v := nI (0)) hx hb hr (by decide) (fun tZ ht _ => ⟨_, rfl, (by show _ = aWithin ln u _ _; unfold aWithin; rw [slotW_yes hk1 hp1, slotW_yes hk2 hp2]; exact xb0 c22_6), ht⟩) (fun q hq => by cases hq) dX6_within_30
  · refine lv_iconst (v := nI (1)) hx hb dX6_within_25 (by decide) ?_
    refine lv_goto (tgt := 30) hx hb dX6_within_26 (by decide) ?_
    exact W.zret (v := nI (1)) hx hb hr (by decide) (fun tZ ht _ => ⟨_, rfl, (by show _ = aWithin ln u _ _; unfold aWithin; rw [slotW_yes hk1 hp1, slotW_yes hk2 hp2]; exact xb1 c22_6), ht⟩) (fun q hq => by cases hq) dX6_within_30

set_option maxHeartbeats 4000000 in
set_option maxRecDepth 100000 in
theorem mX6_within_sn (l : Launch) {D : va_G} {cI cJ cZ cW : ClassId} {ad : Nat → Nat} {g : Nat → va_E} {q Wt : Nat} {w : Nat → Nat} {ln : Nat → Nat} {u : Nat → Nat → Nat} {T : Nat} {t : Nat → Nat} {tp bt : Int64} {k1 : Nat} {xb : Int32}  (hM : ModI cI cJ ad g q Wt w ln u T t tp bt) (hs : SrcI q Wt w ln u T t) (hk1 : k1 < 8) (hp1 : 0 < ln k1) (hxb : noW ln xb) : Met l yX6_within wsX6_within ({ frames := 2, cells := 0, slots := 0, locals := 48 }) (va_Pc [.ref (ad (62)), .int (nI (k1)), .int (xb)] (xB D (xT cI cJ cZ cW) ad g)) (vp_Si (fun r => r = aWithin ln u (nI (k1)) (xb))) 0 0 (fun _ => False) := by
  refine Met.ofW (cc := cX6_within) (maxL := 3) (ret := (some .boolean)) (by decide) rfl ?_
  intro p e s m args below meth c s₁ B hml hv
  obtain ⟨rfl, hP, hK, hN⟩ := hv
  have hx := B.exec
  have hb := B.bytes
  have hr := B.returns
  have hts := atoms_spec (ws := wsX6_within) B.pre
  have hown : s.vm.findClass RX6 = some m.cls := findClass_of_methodNamed B.named
  have hlocks := B.notSynchronized
  have hl := lv_entry ([.ref (ad (62)), .int (nI (k1)), .int (xb)]) (n := 3) (Nat.le_of_ble_eq_true rfl)
  rw [lg_entry_eq]
  generalize (lg_sl ([.ref (ad (62)), .int (nI (k1)), .int (xb)]) ++ List.replicate (3 - (lg_sl ([.ref (ad (62)), .int (nI (k1)), .int (xb)])).length) Slot.unset).toArray = ls at hl ⊢
  have hl : lv_has ls 3 [(0, .ref (ad (62))), (1, .int (nI (k1))), (2, .int (xb))] := hl
  obtain ⟨hq2, hq4, hw1, hw0, hWs, hWt, hw, hln, hul, hT, ht⟩ := hs
  obtain ⟨sq, nu, de, fw, fsz, fwd, ftx, fos, foz, fgo, frw, fan, fad, frn, frd, fen, fed, fcn, fcd, fnw, fth, fo62, fa63, fa64, fa65, fa66, fa67, fa68, fa69, fa70, fa71, fa72, fa73, fa74, fa75, fa76, fa77, fa78, fa79, fa80, hfw, hsz, hwl, htx⟩ := id hM
  have hn1 := hln k1
  refine lv_aload_n hx hb dX6_within_0 rfl (lv_at hl 0 rfl) ?_
  refine lv_iload_n hx hb dX6_within_1 rfl (lv_at hl 1 rfl) ?_
  refine vp_callSi (va_Run.run (va_runV (As := [.int (nI (k1))]) (rest := []) ⟨hx, hb, hml, hown, hts⟩ (mX6_isWord_yes l (w := w) (ln := ln) (t := t) (u := u) fo62 fa64 hsz hk1 hp1 (hln _)) (cwV 1 hts gX6_within_X6_isWord rfl rfl rfl (by decide +kernel) ⟨Nat.le_of_ble_eq_true rfl, Nat.le_of_ble_eq_true rfl⟩) ⟨xB_blind, va_recv hK hP (ci := 6) rfl (xw_is (by decide) fo62), fun U hU hW => ⟨rfl, by rw [hU]; exact hP, va_K.moved hW.alike hK, va_Nw.warmM hW hN⟩⟩ rfl rfl hl.1 rfl (lv_room (Nat.le_of_ble_eq_true rfl)) dX6_within_2 ⟨Nat.le_of_ble_eq_true rfl, Nat.le_of_ble_eq_true rfl⟩)) (fun r1 er1 => ?_)
  subst er1
  refine xi_if_eq (tgt := 29) hx hb (by decide) dX6_within_5 (by decide) (fun c0 => absurd c0 (by decide)) (fun _ => ?_)
  refine lv_aload_n hx hb dX6_within_8 rfl (lv_at hl 0 rfl) ?_
  refine lv_iload_n hx hb dX6_within_9 rfl (lv_at hl 2 rfl) ?_
  refine vp_callSi (va_Run.run (va_runV (As := [.int (xb)]) (rest := []) ⟨hx, hb, hml, hown, hts⟩ (mX6_isWord_no l (w := w) (ln := ln) (t := t) (u := u) fo62 fa64 hsz hxb) (cwV 1 hts gX6_within_X6_isWord rfl rfl rfl (by decide +kernel) ⟨Nat.le_of_ble_eq_true rfl, Nat.le_of_ble_eq_true rfl⟩) ⟨xB_blind, va_recv hK hP (ci := 6) rfl (xw_is (by decide) fo62), fun U hU hW => ⟨rfl, by rw [hU]; exact hP, va_K.moved hW.alike hK, va_Nw.warmM hW hN⟩⟩ rfl rfl hl.1 rfl (lv_room (Nat.le_of_ble_eq_true rfl)) dX6_within_10 ⟨Nat.le_of_ble_eq_true rfl, Nat.le_of_ble_eq_true rfl⟩)) (fun r3 er3 => ?_)
  subst er3
  refine xi_if_eq (tgt := 29) hx hb (by decide) dX6_within_13 (by decide) (fun _ => ?_) (fun c0 => absurd c0 (by decide))
  refine lv_iconst (v := nI (0)) hx hb dX6_within_29 (by decide) ?_
  exact W.zret (v := nI (0)) hx hb hr (by decide) (fun tZ ht _ => ⟨_, rfl, (by show _ = aWithin ln u _ _; exact (slotW_2n hxb).symm), ht⟩) (fun q hq => by cases hq) dX6_within_30

set_option maxHeartbeats 4000000 in
set_option maxRecDepth 100000 in
theorem mX6_within_ns (l : Launch) {D : va_G} {cI cJ cZ cW : ClassId} {ad : Nat → Nat} {g : Nat → va_E} {q Wt : Nat} {w : Nat → Nat} {ln : Nat → Nat} {u : Nat → Nat → Nat} {T : Nat} {t : Nat → Nat} {tp bt : Int64} {xa : Int32} {k2 : Nat}  (hM : ModI cI cJ ad g q Wt w ln u T t tp bt) (hs : SrcI q Wt w ln u T t) (hxa : noW ln xa) (hk2 : k2 < 8) (hp2 : 0 < ln k2) : Met l yX6_within wsX6_within ({ frames := 2, cells := 0, slots := 0, locals := 48 }) (va_Pc [.ref (ad (62)), .int (xa), .int (nI (k2))] (xB D (xT cI cJ cZ cW) ad g)) (vp_Si (fun r => r = aWithin ln u (xa) (nI (k2)))) 0 0 (fun _ => False) := by
  refine Met.ofW (cc := cX6_within) (maxL := 3) (ret := (some .boolean)) (by decide) rfl ?_
  intro p e s m args below meth c s₁ B hml hv
  obtain ⟨rfl, hP, hK, hN⟩ := hv
  have hx := B.exec
  have hb := B.bytes
  have hr := B.returns
  have hts := atoms_spec (ws := wsX6_within) B.pre
  have hown : s.vm.findClass RX6 = some m.cls := findClass_of_methodNamed B.named
  have hlocks := B.notSynchronized
  have hl := lv_entry ([.ref (ad (62)), .int (xa), .int (nI (k2))]) (n := 3) (Nat.le_of_ble_eq_true rfl)
  rw [lg_entry_eq]
  generalize (lg_sl ([.ref (ad (62)), .int (xa), .int (nI (k2))]) ++ List.replicate (3 - (lg_sl ([.ref (ad (62)), .int (xa), .int (nI (k2))])).length) Slot.unset).toArray = ls at hl ⊢
  have hl : lv_has ls 3 [(0, .ref (ad (62))), (1, .int (xa)), (2, .int (nI (k2)))] := hl
  obtain ⟨hq2, hq4, hw1, hw0, hWs, hWt, hw, hln, hul, hT, ht⟩ := hs
  obtain ⟨sq, nu, de, fw, fsz, fwd, ftx, fos, foz, fgo, frw, fan, fad, frn, frd, fen, fed, fcn, fcd, fnw, fth, fo62, fa63, fa64, fa65, fa66, fa67, fa68, fa69, fa70, fa71, fa72, fa73, fa74, fa75, fa76, fa77, fa78, fa79, fa80, hfw, hsz, hwl, htx⟩ := id hM
  have hn2 := hln k2
  refine lv_aload_n hx hb dX6_within_0 rfl (lv_at hl 0 rfl) ?_
  refine lv_iload_n hx hb dX6_within_1 rfl (lv_at hl 1 rfl) ?_
  refine vp_callSi (va_Run.run (va_runV (As := [.int (xa)]) (rest := []) ⟨hx, hb, hml, hown, hts⟩ (mX6_isWord_no l (w := w) (ln := ln) (t := t) (u := u) fo62 fa64 hsz hxa) (cwV 1 hts gX6_within_X6_isWord rfl rfl rfl (by decide +kernel) ⟨Nat.le_of_ble_eq_true rfl, Nat.le_of_ble_eq_true rfl⟩) ⟨xB_blind, va_recv hK hP (ci := 6) rfl (xw_is (by decide) fo62), fun U hU hW => ⟨rfl, by rw [hU]; exact hP, va_K.moved hW.alike hK, va_Nw.warmM hW hN⟩⟩ rfl rfl hl.1 rfl (lv_room (Nat.le_of_ble_eq_true rfl)) dX6_within_2 ⟨Nat.le_of_ble_eq_true rfl, Nat.le_of_ble_eq_true rfl⟩)) (fun r1 er1 => ?_)
  subst er1
  refine xi_if_eq (tgt := 29) hx hb (by decide) dX6_within_5 (by decide) (fun _ => ?_) (fun c0 => absurd c0 (by decide))
  refine lv_iconst (v := nI (0)) hx hb dX6_within_29 (by decide) ?_
  exact W.zret (v := nI (0)) hx hb hr (by decide) (fun tZ ht _ => ⟨_, rfl, (by show _ = aWithin ln u _ _; unfold aWithin; rw [slotW_no hxa]; rfl), ht⟩) (fun q hq => by cases hq) dX6_within_30

set_option maxHeartbeats 4000000 in
set_option maxRecDepth 100000 in
theorem mX6_within_nn (l : Launch) {D : va_G} {cI cJ cZ cW : ClassId} {ad : Nat → Nat} {g : Nat → va_E} {q Wt : Nat} {w : Nat → Nat} {ln : Nat → Nat} {u : Nat → Nat → Nat} {T : Nat} {t : Nat → Nat} {tp bt : Int64} {xa : Int32} {xb : Int32}  (hM : ModI cI cJ ad g q Wt w ln u T t tp bt) (hs : SrcI q Wt w ln u T t) (hxa : noW ln xa) (hxb : noW ln xb) : Met l yX6_within wsX6_within ({ frames := 2, cells := 0, slots := 0, locals := 48 }) (va_Pc [.ref (ad (62)), .int (xa), .int (xb)] (xB D (xT cI cJ cZ cW) ad g)) (vp_Si (fun r => r = aWithin ln u (xa) (xb))) 0 0 (fun _ => False) := by
  refine Met.ofW (cc := cX6_within) (maxL := 3) (ret := (some .boolean)) (by decide) rfl ?_
  intro p e s m args below meth c s₁ B hml hv
  obtain ⟨rfl, hP, hK, hN⟩ := hv
  have hx := B.exec
  have hb := B.bytes
  have hr := B.returns
  have hts := atoms_spec (ws := wsX6_within) B.pre
  have hown : s.vm.findClass RX6 = some m.cls := findClass_of_methodNamed B.named
  have hlocks := B.notSynchronized
  have hl := lv_entry ([.ref (ad (62)), .int (xa), .int (xb)]) (n := 3) (Nat.le_of_ble_eq_true rfl)
  rw [lg_entry_eq]
  generalize (lg_sl ([.ref (ad (62)), .int (xa), .int (xb)]) ++ List.replicate (3 - (lg_sl ([.ref (ad (62)), .int (xa), .int (xb)])).length) Slot.unset).toArray = ls at hl ⊢
  have hl : lv_has ls 3 [(0, .ref (ad (62))), (1, .int (xa)), (2, .int (xb))] := hl
  obtain ⟨hq2, hq4, hw1, hw0, hWs, hWt, hw, hln, hul, hT, ht⟩ := hs
  obtain ⟨sq, nu, de, fw, fsz, fwd, ftx, fos, foz, fgo, frw, fan, fad, frn, frd, fen, fed, fcn, fcd, fnw, fth, fo62, fa63, fa64, fa65, fa66, fa67, fa68, fa69, fa70, fa71, fa72, fa73, fa74, fa75, fa76, fa77, fa78, fa79, fa80, hfw, hsz, hwl, htx⟩ := id hM
  refine lv_aload_n hx hb dX6_within_0 rfl (lv_at hl 0 rfl) ?_
  refine lv_iload_n hx hb dX6_within_1 rfl (lv_at hl 1 rfl) ?_
  refine vp_callSi (va_Run.run (va_runV (As := [.int (xa)]) (rest := []) ⟨hx, hb, hml, hown, hts⟩ (mX6_isWord_no l (w := w) (ln := ln) (t := t) (u := u) fo62 fa64 hsz hxa) (cwV 1 hts gX6_within_X6_isWord rfl rfl rfl (by decide +kernel) ⟨Nat.le_of_ble_eq_true rfl, Nat.le_of_ble_eq_true rfl⟩) ⟨xB_blind, va_recv hK hP (ci := 6) rfl (xw_is (by decide) fo62), fun U hU hW => ⟨rfl, by rw [hU]; exact hP, va_K.moved hW.alike hK, va_Nw.warmM hW hN⟩⟩ rfl rfl hl.1 rfl (lv_room (Nat.le_of_ble_eq_true rfl)) dX6_within_2 ⟨Nat.le_of_ble_eq_true rfl, Nat.le_of_ble_eq_true rfl⟩)) (fun r1 er1 => ?_)
  subst er1
  refine xi_if_eq (tgt := 29) hx hb (by decide) dX6_within_5 (by decide) (fun _ => ?_) (fun c0 => absurd c0 (by decide))
  refine lv_iconst (v := nI (0)) hx hb dX6_within_29 (by decide) ?_
  exact W.zret (v := nI (0)) hx hb hr (by decide) (fun tZ ht _ => ⟨_, rfl, (by show _ = aWithin ln u _ _; exact (slotW_2n hxb).symm), ht⟩) (fun q hq => by cases hq) dX6_within_30

theorem mX6_within (l : Launch) {D : va_G} {cI cJ cZ cW : ClassId} {ad : Nat → Nat} {g : Nat → va_E} {q Wt : Nat} {w : Nat → Nat} {ln : Nat → Nat} {u : Nat → Nat → Nat} {T : Nat} {t : Nat → Nat} {tp bt : Int64} (hM : ModI cI cJ ad g q Wt w ln u T t tp bt) (hs : SrcI q Wt w ln u T t) (xa xb : Int32) : Met l yX6_within wsX6_within ({ frames := 2, cells := 0, slots := 0, locals := 48 }) (va_Pc [.ref (ad (62)), .int xa, .int xb] (xB D (xT cI cJ cZ cW) ad g)) (vp_Si (fun r => r = aWithin ln u (xa) (xb))) 0 0 (fun _ => False) := by
  rcases slotW_cases ln xa with hxa | ⟨k1, hk1, rfl, hp1⟩
  · rcases slotW_cases ln xb with hxb | ⟨k2, hk2, rfl, hp2⟩
    · exact mX6_within_nn l hM hs hxa hxb
    · exact mX6_within_ns l hM hs hxa hk2 hp2
  · rcases slotW_cases ln xb with hxb | ⟨k2, hk2, rfl, hp2⟩
    · exact mX6_within_sn l hM hs hk1 hp1 hxb
    · exact mX6_within_ss l hM hs hk1 hp1 hk2 hp2

set_option maxHeartbeats 4000000 in
set_option maxRecDepth 100000 in
theorem mX6_laps_ss (l : Launch) {D : va_G} {cI cJ cZ cW : ClassId} {ad : Nat → Nat} {g : Nat → va_E} {q Wt : Nat} {w : Nat → Nat} {ln : Nat → Nat} {u : Nat → Nat → Nat} {T : Nat} {t : Nat → Nat} {tp bt : Int64} {k1 : Nat} {k2 : Nat}  (hM : ModI cI cJ ad g q Wt w ln u T t tp bt) (hs : SrcI q Wt w ln u T t) (hk1 : k1 < 8) (hp1 : 0 < ln k1) (hk2 : k2 < 8) (hp2 : 0 < ln k2) : Met l yX6_laps wsX6_laps ({ frames := 2, cells := 0, slots := 0, locals := 47 }) (va_Pc [.ref (ad (62)), .int (nI (k1)), .int (nI (k2))] (xB D (xT cI cJ cZ cW) ad g)) (vp_Si (fun r => r = aLaps ln u (nI (k1)) (nI (k2)))) 0 0 (fun _ => False) := by
  refine Met.ofW (cc := cX6_laps) (maxL := 5) (ret := (some .int)) (by decide) rfl ?_
  intro p e s m args below meth c s₁ B hml hv
  obtain ⟨rfl, hP, hK, hN⟩ := hv
  have hx := B.exec
  have hb := B.bytes
  have hr := B.returns
  have hts := atoms_spec (ws := wsX6_laps) B.pre
  have hown : s.vm.findClass RX6 = some m.cls := findClass_of_methodNamed B.named
  have hlocks := B.notSynchronized
  have hl := lv_entry ([.ref (ad (62)), .int (nI (k1)), .int (nI (k2))]) (n := 5) (Nat.le_of_ble_eq_true rfl)
  rw [lg_entry_eq]
  generalize (lg_sl ([.ref (ad (62)), .int (nI (k1)), .int (nI (k2))]) ++ List.replicate (5 - (lg_sl ([.ref (ad (62)), .int (nI (k1)), .int (nI (k2))])).length) Slot.unset).toArray = ls at hl ⊢
  have hl : lv_has ls 5 [(0, .ref (ad (62))), (1, .int (nI (k1))), (2, .int (nI (k2)))] := hl
  obtain ⟨hq2, hq4, hw1, hw0, hWs, hWt, hw, hln, hul, hT, ht⟩ := hs
  obtain ⟨sq, nu, de, fw, fsz, fwd, ftx, fos, foz, fgo, frw, fan, fad, frn, frd, fen, fed, fcn, fcd, fnw, fth, fo62, fa63, fa64, fa65, fa66, fa67, fa68, fa69, fa70, fa71, fa72, fa73, fa74, fa75, fa76, fa77, fa78, fa79, fa80, hfw, hsz, hwl, htx⟩ := id hM
  have hn1 := hln k1
  have hn2 := hln k2
  refine lv_aload_n hx hb dX6_laps_0 rfl (lv_at hl 0 rfl) ?_
  refine lv_iload_n hx hb dX6_laps_1 rfl (lv_at hl 1 rfl) ?_
  refine vp_callSi (va_Run.run (va_runV (As := [.int (nI (k1))]) (rest := []) ⟨hx, hb, hml, hown, hts⟩ (mX6_isWord_yes l (w := w) (ln := ln) (t := t) (u := u) fo62 fa64 hsz hk1 hp1 (hln _)) (cwV 1 hts gX6_laps_X6_isWord rfl rfl rfl (by decide +kernel) ⟨Nat.le_of_ble_eq_true rfl, Nat.le_of_ble_eq_true rfl⟩) ⟨xB_blind, va_recv hK hP (ci := 6) rfl (xw_is (by decide) fo62), fun U hU hW => ⟨rfl, by rw [hU]; exact hP, va_K.moved hW.alike hK, va_Nw.warmM hW hN⟩⟩ rfl rfl hl.1 rfl (lv_room (Nat.le_of_ble_eq_true rfl)) dX6_laps_2 ⟨Nat.le_of_ble_eq_true rfl, Nat.le_of_ble_eq_true rfl⟩)) (fun r1 er1 => ?_)
  subst er1
  refine xi_if_eq (tgt := 16) hx hb (by decide) dX6_laps_5 (by decide) (fun c0 => absurd c0 (by decide)) (fun _ => ?_)
  refine lv_aload_n hx hb dX6_laps_8 rfl (lv_at hl 0 rfl) ?_
  refine lv_iload_n hx hb dX6_laps_9 rfl (lv_at hl 2 rfl) ?_
  refine vp_callSi (va_Run.run (va_runV (As := [.int (nI (k2))]) (rest := []) ⟨hx, hb, hml, hown, hts⟩ (mX6_isWord_yes l (w := w) (ln := ln) (t := t) (u := u) fo62 fa64 hsz hk2 hp2 (hln _)) (cwV 1 hts gX6_laps_X6_isWord rfl rfl rfl (by decide +kernel) ⟨Nat.le_of_ble_eq_true rfl, Nat.le_of_ble_eq_true rfl⟩) ⟨xB_blind, va_recv hK hP (ci := 6) rfl (xw_is (by decide) fo62), fun U hU hW => ⟨rfl, by rw [hU]; exact hP, va_K.moved hW.alike hK, va_Nw.warmM hW hN⟩⟩ rfl rfl hl.1 rfl (lv_room (Nat.le_of_ble_eq_true rfl)) dX6_laps_10 ⟨Nat.le_of_ble_eq_true rfl, Nat.le_of_ble_eq_true rfl⟩)) (fun r3 er3 => ?_)
  subst er3
  refine xi_if_ne (tgt := 18) hx hb (by decide) dX6_laps_13 (by decide) (fun _ => ?_) (fun c0 => absurd c0 (by decide))
  refine lv_iconst (v := nI (0)) hx hb dX6_laps_18 (by decide) ?_
  refine lv_istore_n (lv' := [(3, .int (nI (0))), (0, .ref (ad (62))), (1, .int (nI (k1))), (2, .int (nI (k2)))]) hx hb dX6_laps_19 rfl hl (by decide) rfl (fun ls hl => ?_)
  refine lv_iconst (v := nI (1)) hx hb dX6_laps_20 (by decide) ?_
  refine lv_istore (lv' := [(4, .int (nI (1))), (3, .int (nI (0))), (0, .ref (ad (62))), (1, .int (nI (k1))), (2, .int (nI (k2)))]) hx hb dX6_laps_21 hl (by decide) rfl (fun ls hl => ?_)
  refine xloop (G := fun fr => W p l e _ s m _ below meth c _ _ _ _ _ fr) (σ := Nat) (fun i ls => F0 m 23 ls []) (fun i ls => (i ≤ 5) ∧ lv_has ls 5 [(0, .ref (ad (62))), (1, .int (nI (k1))), (2, .int (nI (k2))), (3, .int (nI (lapB (u k1) (ln k1) (u k2) (ln k2) i))), (4, .int (nI (i + 1)))]) (fun i => 5 - i) ?_ (0) ls ⟨(Nat.zero_le _), (lv_sub hl [2, 3, 4, 1, 0] rfl)⟩
  rintro i ls ⟨hi, hl⟩ ih23
  refine lv_iload hx hb dX6_laps_23 (lv_at hl 4 rfl) ?_
  refine lv_iconst (v := nI (5)) hx hb dX6_laps_25 (by decide) ?_
  refine xi_icmp_gt (tgt := 59) hx hb (by omega) (by decide) dX6_laps_26 (by decide) (fun c26_5 => ?_) (fun c26_5 => ?_)
  · refine lv_iload_n hx hb dX6_laps_59 rfl (lv_at hl 3 rfl) ?_
    exact W.iret (v := nI (lapB (u k1) (ln k1) (u k2) (ln k2) i)) hx hb hr (fun tZ ht _ => ⟨_, rfl, (by show _ = aLaps ln u _ _; unfold aLaps; rw [slotW_yes hk1 hp1, slotW_yes hk2 hp2, show i = 5 by omega]), ht⟩) (fun q hq => by cases hq) dX6_laps_60
  · refine lv_iload_n hx hb dX6_laps_29 rfl (lv_at hl 3 rfl) ?_
    refine lv_aload_n hx hb dX6_laps_30 rfl (lv_at hl 0 rfl) ?_
    refine lv_iload_n hx hb dX6_laps_31 rfl (lv_at hl 1 rfl) ?_
    refine lv_iload_n hx hb dX6_laps_32 rfl (lv_at hl 2 rfl) ?_
    refine lv_iload hx hb dX6_laps_33 (lv_at hl 4 rfl) ?_
    refine vp_callSi (va_Run.run (va_runV (As := [.int (nI (k1)), .int (nI (k2)), .int (nI (i + 1))]) (rest := [.int (nI (lapB (u k1) (ln k1) (u k2) (ln k2) i))]) ⟨hx, hb, hml, hown, hts⟩ (mX6_isLap l (w := w) (ln := ln) (t := t) (u := u) fo62 fa64 fa65 hsz hwl hq2 hq4 hln hul hT ht (by omega) (by omega) (by omega)) (cwV 3 hts gX6_laps_X6_isLap rfl rfl rfl (by decide +kernel) ⟨Nat.le_of_ble_eq_true rfl, Nat.le_of_ble_eq_true rfl⟩) ⟨xB_blind, va_recv hK hP (ci := 6) rfl (xw_is (by decide) fo62), fun U hU hW => ⟨rfl, by rw [hU]; exact hP, va_K.moved hW.alike hK, va_Nw.warmM hW hN⟩⟩ rfl rfl hl.1 rfl (lv_room (Nat.le_of_ble_eq_true rfl)) dX6_laps_35 ⟨Nat.le_of_ble_eq_true rfl, Nat.le_of_ble_eq_true rfl⟩)) (fun r6 er6 => ?_)
    subst er6
    refine xb_if_eq (tgt := 50) hx hb dX6_laps_38 (by decide) (fun c38_7 => ?_) (fun c38_7 => ?_)
    · refine lv_iconst (v := nI (0)) hx hb dX6_laps_50 (by decide) ?_
      refine lv_ior hx hb dX6_laps_51 ?_
      refine xtopi (y := nI (lapB (u k1) (ln k1) (u k2) (ln k2) (i + 1))) ((nI_or _ _).trans (congrArg nI (by show lapB (u k1) (ln k1) (u k2) (ln k2) i ||| _ = lapB (u k1) (ln k1) (u k2) (ln k2) i ||| (if _ then 2 ^ i else 0); rw [if_neg c38_7]))) ?_
      refine lv_istore_n (lv' := [(3, .int (nI (lapB (u k1) (ln k1) (u k2) (ln k2) (i + 1)))), (0, .ref (ad (62))), (1, .int (nI (k1))), (2, .int (nI (k2))), (4, .int (nI (i + 1)))]) hx hb dX6_laps_52 rfl hl (by decide) rfl (fun ls hl => ?_)
      refine lv_iinc (v := nI (i + 1 + 1)) (lv' := [(4, .int (nI (i + 1 + 1))), (3, .int (nI (lapB (u k1) (ln k1) (u k2) (ln k2) (i + 1)))), (0, .ref (ad (62))), (1, .int (nI (k1))), (2, .int (nI (k2)))]) hx hb dX6_laps_53 hl (k := 4) rfl (nI_add (i + 1) 1) (by decide) rfl (fun ls hl => ?_)
      refine lv_goto (tgt := 23) hx hb dX6_laps_56 (by decide) ?_
      exact ih23 (i + 1) ls ⟨(by omega), (lv_sub hl [2, 3, 4, 1, 0] rfl)⟩ (by first | omega | (dsimp only; omega))
    · refine lv_iconst (v := nI (1)) hx hb dX6_laps_41 (by decide) ?_
      refine lv_iload hx hb dX6_laps_42 (lv_at hl 4 rfl) ?_
      refine lv_iconst (v := nI (1)) hx hb dX6_laps_44 (by decide) ?_
      refine xi_sub hx hb (by omega) dX6_laps_45 ?_
      refine lv_ishl hx hb dX6_laps_46 ?_
      refine xtopi (y := nI (2 ^ i)) (by rw [Nat.add_sub_cancel]; exact nI_shl1 (by omega)) ?_
      refine lv_goto (tgt := 51) hx hb dX6_laps_47 (by decide) ?_
      refine lv_ior hx hb dX6_laps_51 ?_
      refine xtopi (y := nI (lapB (u k1) (ln k1) (u k2) (ln k2) (i + 1))) ((nI_or _ _).trans (congrArg nI (by show lapB (u k1) (ln k1) (u k2) (ln k2) i ||| _ = lapB (u k1) (ln k1) (u k2) (ln k2) i ||| (if _ then 2 ^ i else 0); rw [if_pos c38_7]))) ?_
      refine lv_istore_n (lv' := [(3, .int (nI (lapB (u k1) (ln k1) (u k2) (ln k2) (i + 1)))), (0, .ref (ad (62))), (1, .int (nI (k1))), (2, .int (nI (k2))), (4, .int (nI (i + 1)))]) hx hb dX6_laps_52 rfl hl (by decide) rfl (fun ls hl => ?_)
      refine lv_iinc (v := nI (i + 1 + 1)) (lv' := [(4, .int (nI (i + 1 + 1))), (3, .int (nI (lapB (u k1) (ln k1) (u k2) (ln k2) (i + 1)))), (0, .ref (ad (62))), (1, .int (nI (k1))), (2, .int (nI (k2)))]) hx hb dX6_laps_53 hl (k := 4) rfl (nI_add (i + 1) 1) (by decide) rfl (fun ls hl => ?_)
      refine lv_goto (tgt := 23) hx hb dX6_laps_56 (by decide) ?_
      exact ih23 (i + 1) ls ⟨(by omega), (lv_sub hl [2, 3, 4, 1, 0] rfl)⟩ (by first | omega | (dsimp only; omega))

set_option maxHeartbeats 4000000 in
set_option maxRecDepth 100000 in
theorem mX6_laps_sn (l : Launch) {D : va_G} {cI cJ cZ cW : ClassId} {ad : Nat → Nat} {g : Nat → va_E} {q Wt : Nat} {w : Nat → Nat} {ln : Nat → Nat} {u : Nat → Nat → Nat} {T : Nat} {t : Nat → Nat} {tp bt : Int64} {k1 : Nat} {xb : Int32}  (hM : ModI cI cJ ad g q Wt w ln u T t tp bt) (hs : SrcI q Wt w ln u T t) (hk1 : k1 < 8) (hp1 : 0 < ln k1) (hxb : noW ln xb) : Met l yX6_laps wsX6_laps ({ frames := 2, cells := 0, slots := 0, locals := 47 }) (va_Pc [.ref (ad (62)), .int (nI (k1)), .int (xb)] (xB D (xT cI cJ cZ cW) ad g)) (vp_Si (fun r => r = aLaps ln u (nI (k1)) (xb))) 0 0 (fun _ => False) := by
  refine Met.ofW (cc := cX6_laps) (maxL := 5) (ret := (some .int)) (by decide) rfl ?_
  intro p e s m args below meth c s₁ B hml hv
  obtain ⟨rfl, hP, hK, hN⟩ := hv
  have hx := B.exec
  have hb := B.bytes
  have hr := B.returns
  have hts := atoms_spec (ws := wsX6_laps) B.pre
  have hown : s.vm.findClass RX6 = some m.cls := findClass_of_methodNamed B.named
  have hlocks := B.notSynchronized
  have hl := lv_entry ([.ref (ad (62)), .int (nI (k1)), .int (xb)]) (n := 5) (Nat.le_of_ble_eq_true rfl)
  rw [lg_entry_eq]
  generalize (lg_sl ([.ref (ad (62)), .int (nI (k1)), .int (xb)]) ++ List.replicate (5 - (lg_sl ([.ref (ad (62)), .int (nI (k1)), .int (xb)])).length) Slot.unset).toArray = ls at hl ⊢
  have hl : lv_has ls 5 [(0, .ref (ad (62))), (1, .int (nI (k1))), (2, .int (xb))] := hl
  obtain ⟨hq2, hq4, hw1, hw0, hWs, hWt, hw, hln, hul, hT, ht⟩ := hs
  obtain ⟨sq, nu, de, fw, fsz, fwd, ftx, fos, foz, fgo, frw, fan, fad, frn, frd, fen, fed, fcn, fcd, fnw, fth, fo62, fa63, fa64, fa65, fa66, fa67, fa68, fa69, fa70, fa71, fa72, fa73, fa74, fa75, fa76, fa77, fa78, fa79, fa80, hfw, hsz, hwl, htx⟩ := id hM
  have hn1 := hln k1
  refine lv_aload_n hx hb dX6_laps_0 rfl (lv_at hl 0 rfl) ?_
  refine lv_iload_n hx hb dX6_laps_1 rfl (lv_at hl 1 rfl) ?_
  refine vp_callSi (va_Run.run (va_runV (As := [.int (nI (k1))]) (rest := []) ⟨hx, hb, hml, hown, hts⟩ (mX6_isWord_yes l (w := w) (ln := ln) (t := t) (u := u) fo62 fa64 hsz hk1 hp1 (hln _)) (cwV 1 hts gX6_laps_X6_isWord rfl rfl rfl (by decide +kernel) ⟨Nat.le_of_ble_eq_true rfl, Nat.le_of_ble_eq_true rfl⟩) ⟨xB_blind, va_recv hK hP (ci := 6) rfl (xw_is (by decide) fo62), fun U hU hW => ⟨rfl, by rw [hU]; exact hP, va_K.moved hW.alike hK, va_Nw.warmM hW hN⟩⟩ rfl rfl hl.1 rfl (lv_room (Nat.le_of_ble_eq_true rfl)) dX6_laps_2 ⟨Nat.le_of_ble_eq_true rfl, Nat.le_of_ble_eq_true rfl⟩)) (fun r1 er1 => ?_)
  subst er1
  refine xi_if_eq (tgt := 16) hx hb (by decide) dX6_laps_5 (by decide) (fun c0 => absurd c0 (by decide)) (fun _ => ?_)
  refine lv_aload_n hx hb dX6_laps_8 rfl (lv_at hl 0 rfl) ?_
  refine lv_iload_n hx hb dX6_laps_9 rfl (lv_at hl 2 rfl) ?_
  refine vp_callSi (va_Run.run (va_runV (As := [.int (xb)]) (rest := []) ⟨hx, hb, hml, hown, hts⟩ (mX6_isWord_no l (w := w) (ln := ln) (t := t) (u := u) fo62 fa64 hsz hxb) (cwV 1 hts gX6_laps_X6_isWord rfl rfl rfl (by decide +kernel) ⟨Nat.le_of_ble_eq_true rfl, Nat.le_of_ble_eq_true rfl⟩) ⟨xB_blind, va_recv hK hP (ci := 6) rfl (xw_is (by decide) fo62), fun U hU hW => ⟨rfl, by rw [hU]; exact hP, va_K.moved hW.alike hK, va_Nw.warmM hW hN⟩⟩ rfl rfl hl.1 rfl (lv_room (Nat.le_of_ble_eq_true rfl)) dX6_laps_10 ⟨Nat.le_of_ble_eq_true rfl, Nat.le_of_ble_eq_true rfl⟩)) (fun r3 er3 => ?_)
  subst er3
  refine xi_if_ne (tgt := 18) hx hb (by decide) dX6_laps_13 (by decide) (fun c0 => absurd c0 (by decide)) (fun _ => ?_)
  refine lv_iconst (v := (-1)) hx hb dX6_laps_16 (by decide) ?_
  exact W.iret (v := (-1)) hx hb hr (fun tZ ht _ => ⟨_, rfl, (by show _ = aLaps ln u _ _; exact (slotW_2n hxb).symm), ht⟩) (fun q hq => by cases hq) dX6_laps_17

set_option maxHeartbeats 4000000 in
set_option maxRecDepth 100000 in
theorem mX6_laps_ns (l : Launch) {D : va_G} {cI cJ cZ cW : ClassId} {ad : Nat → Nat} {g : Nat → va_E} {q Wt : Nat} {w : Nat → Nat} {ln : Nat → Nat} {u : Nat → Nat → Nat} {T : Nat} {t : Nat → Nat} {tp bt : Int64} {xa : Int32} {k2 : Nat}  (hM : ModI cI cJ ad g q Wt w ln u T t tp bt) (hs : SrcI q Wt w ln u T t) (hxa : noW ln xa) (hk2 : k2 < 8) (hp2 : 0 < ln k2) : Met l yX6_laps wsX6_laps ({ frames := 2, cells := 0, slots := 0, locals := 47 }) (va_Pc [.ref (ad (62)), .int (xa), .int (nI (k2))] (xB D (xT cI cJ cZ cW) ad g)) (vp_Si (fun r => r = aLaps ln u (xa) (nI (k2)))) 0 0 (fun _ => False) := by
  refine Met.ofW (cc := cX6_laps) (maxL := 5) (ret := (some .int)) (by decide) rfl ?_
  intro p e s m args below meth c s₁ B hml hv
  obtain ⟨rfl, hP, hK, hN⟩ := hv
  have hx := B.exec
  have hb := B.bytes
  have hr := B.returns
  have hts := atoms_spec (ws := wsX6_laps) B.pre
  have hown : s.vm.findClass RX6 = some m.cls := findClass_of_methodNamed B.named
  have hlocks := B.notSynchronized
  have hl := lv_entry ([.ref (ad (62)), .int (xa), .int (nI (k2))]) (n := 5) (Nat.le_of_ble_eq_true rfl)
  rw [lg_entry_eq]
  generalize (lg_sl ([.ref (ad (62)), .int (xa), .int (nI (k2))]) ++ List.replicate (5 - (lg_sl ([.ref (ad (62)), .int (xa), .int (nI (k2))])).length) Slot.unset).toArray = ls at hl ⊢
  have hl : lv_has ls 5 [(0, .ref (ad (62))), (1, .int (xa)), (2, .int (nI (k2)))] := hl
  obtain ⟨hq2, hq4, hw1, hw0, hWs, hWt, hw, hln, hul, hT, ht⟩ := hs
  obtain ⟨sq, nu, de, fw, fsz, fwd, ftx, fos, foz, fgo, frw, fan, fad, frn, frd, fen, fed, fcn, fcd, fnw, fth, fo62, fa63, fa64, fa65, fa66, fa67, fa68, fa69, fa70, fa71, fa72, fa73, fa74, fa75, fa76, fa77, fa78, fa79, fa80, hfw, hsz, hwl, htx⟩ := id hM
  have hn2 := hln k2
  refine lv_aload_n hx hb dX6_laps_0 rfl (lv_at hl 0 rfl) ?_
  refine lv_iload_n hx hb dX6_laps_1 rfl (lv_at hl 1 rfl) ?_
  refine vp_callSi (va_Run.run (va_runV (As := [.int (xa)]) (rest := []) ⟨hx, hb, hml, hown, hts⟩ (mX6_isWord_no l (w := w) (ln := ln) (t := t) (u := u) fo62 fa64 hsz hxa) (cwV 1 hts gX6_laps_X6_isWord rfl rfl rfl (by decide +kernel) ⟨Nat.le_of_ble_eq_true rfl, Nat.le_of_ble_eq_true rfl⟩) ⟨xB_blind, va_recv hK hP (ci := 6) rfl (xw_is (by decide) fo62), fun U hU hW => ⟨rfl, by rw [hU]; exact hP, va_K.moved hW.alike hK, va_Nw.warmM hW hN⟩⟩ rfl rfl hl.1 rfl (lv_room (Nat.le_of_ble_eq_true rfl)) dX6_laps_2 ⟨Nat.le_of_ble_eq_true rfl, Nat.le_of_ble_eq_true rfl⟩)) (fun r1 er1 => ?_)
  subst er1
  refine xi_if_eq (tgt := 16) hx hb (by decide) dX6_laps_5 (by decide) (fun _ => ?_) (fun c0 => absurd c0 (by decide))
  refine lv_iconst (v := (-1)) hx hb dX6_laps_16 (by decide) ?_
  exact W.iret (v := (-1)) hx hb hr (fun tZ ht _ => ⟨_, rfl, (by show _ = aLaps ln u _ _; unfold aLaps; rw [slotW_no hxa]), ht⟩) (fun q hq => by cases hq) dX6_laps_17

set_option maxHeartbeats 4000000 in
set_option maxRecDepth 100000 in
theorem mX6_laps_nn (l : Launch) {D : va_G} {cI cJ cZ cW : ClassId} {ad : Nat → Nat} {g : Nat → va_E} {q Wt : Nat} {w : Nat → Nat} {ln : Nat → Nat} {u : Nat → Nat → Nat} {T : Nat} {t : Nat → Nat} {tp bt : Int64} {xa : Int32} {xb : Int32}  (hM : ModI cI cJ ad g q Wt w ln u T t tp bt) (hs : SrcI q Wt w ln u T t) (hxa : noW ln xa) (hxb : noW ln xb) : Met l yX6_laps wsX6_laps ({ frames := 2, cells := 0, slots := 0, locals := 47 }) (va_Pc [.ref (ad (62)), .int (xa), .int (xb)] (xB D (xT cI cJ cZ cW) ad g)) (vp_Si (fun r => r = aLaps ln u (xa) (xb))) 0 0 (fun _ => False) := by
  refine Met.ofW (cc := cX6_laps) (maxL := 5) (ret := (some .int)) (by decide) rfl ?_
  intro p e s m args below meth c s₁ B hml hv
  obtain ⟨rfl, hP, hK, hN⟩ := hv
  have hx := B.exec
  have hb := B.bytes
  have hr := B.returns
  have hts := atoms_spec (ws := wsX6_laps) B.pre
  have hown : s.vm.findClass RX6 = some m.cls := findClass_of_methodNamed B.named
  have hlocks := B.notSynchronized
  have hl := lv_entry ([.ref (ad (62)), .int (xa), .int (xb)]) (n := 5) (Nat.le_of_ble_eq_true rfl)
  rw [lg_entry_eq]
  generalize (lg_sl ([.ref (ad (62)), .int (xa), .int (xb)]) ++ List.replicate (5 - (lg_sl ([.ref (ad (62)), .int (xa), .int (xb)])).length) Slot.unset).toArray = ls at hl ⊢
  have hl : lv_has ls 5 [(0, .ref (ad (62))), (1, .int (xa)), (2, .int (xb))] := hl
  obtain ⟨hq2, hq4, hw1, hw0, hWs, hWt, hw, hln, hul, hT, ht⟩ := hs
  obtain ⟨sq, nu, de, fw, fsz, fwd, ftx, fos, foz, fgo, frw, fan, fad, frn, frd, fen, fed, fcn, fcd, fnw, fth, fo62, fa63, fa64, fa65, fa66, fa67, fa68, fa69, fa70, fa71, fa72, fa73, fa74, fa75, fa76, fa77, fa78, fa79, fa80, hfw, hsz, hwl, htx⟩ := id hM
  refine lv_aload_n hx hb dX6_laps_0 rfl (lv_at hl 0 rfl) ?_
  refine lv_iload_n hx hb dX6_laps_1 rfl (lv_at hl 1 rfl) ?_
  refine vp_callSi (va_Run.run (va_runV (As := [.int (xa)]) (rest := []) ⟨hx, hb, hml, hown, hts⟩ (mX6_isWord_no l (w := w) (ln := ln) (t := t) (u := u) fo62 fa64 hsz hxa) (cwV 1 hts gX6_laps_X6_isWord rfl rfl rfl (by decide +kernel) ⟨Nat.le_of_ble_eq_true rfl, Nat.le_of_ble_eq_true rfl⟩) ⟨xB_blind, va_recv hK hP (ci := 6) rfl (xw_is (by decide) fo62), fun U hU hW => ⟨rfl, by rw [hU]; exact hP, va_K.moved hW.alike hK, va_Nw.warmM hW hN⟩⟩ rfl rfl hl.1 rfl (lv_room (Nat.le_of_ble_eq_true rfl)) dX6_laps_2 ⟨Nat.le_of_ble_eq_true rfl, Nat.le_of_ble_eq_true rfl⟩)) (fun r1 er1 => ?_)
  subst er1
  refine xi_if_eq (tgt := 16) hx hb (by decide) dX6_laps_5 (by decide) (fun _ => ?_) (fun c0 => absurd c0 (by decide))
  refine lv_iconst (v := (-1)) hx hb dX6_laps_16 (by decide) ?_
  exact W.iret (v := (-1)) hx hb hr (fun tZ ht _ => ⟨_, rfl, (by show _ = aLaps ln u _ _; exact (slotW_2n hxb).symm), ht⟩) (fun q hq => by cases hq) dX6_laps_17

theorem mX6_laps (l : Launch) {D : va_G} {cI cJ cZ cW : ClassId} {ad : Nat → Nat} {g : Nat → va_E} {q Wt : Nat} {w : Nat → Nat} {ln : Nat → Nat} {u : Nat → Nat → Nat} {T : Nat} {t : Nat → Nat} {tp bt : Int64} (hM : ModI cI cJ ad g q Wt w ln u T t tp bt) (hs : SrcI q Wt w ln u T t) (xa xb : Int32) : Met l yX6_laps wsX6_laps ({ frames := 2, cells := 0, slots := 0, locals := 47 }) (va_Pc [.ref (ad (62)), .int xa, .int xb] (xB D (xT cI cJ cZ cW) ad g)) (vp_Si (fun r => r = aLaps ln u (xa) (xb))) 0 0 (fun _ => False) := by
  rcases slotW_cases ln xa with hxa | ⟨k1, hk1, rfl, hp1⟩
  · rcases slotW_cases ln xb with hxb | ⟨k2, hk2, rfl, hp2⟩
    · exact mX6_laps_nn l hM hs hxa hxb
    · exact mX6_laps_ns l hM hs hxa hk2 hp2
  · rcases slotW_cases ln xb with hxb | ⟨k2, hk2, rfl, hp2⟩
    · exact mX6_laps_sn l hM hs hk1 hp1 hxb
    · exact mX6_laps_ss l hM hs hk1 hp1 hk2 hp2

set_option maxHeartbeats 4000000 in
set_option maxRecDepth 100000 in
theorem mX6_tell_s (l : Launch) {D : va_G} {cI cJ cZ cW : ClassId} {ad : Nat → Nat} {g : Nat → va_E} {q Wt : Nat} {w : Nat → Nat} {ln : Nat → Nat} {u : Nat → Nat → Nat} {T : Nat} {t : Nat → Nat} {tp bt : Int64} {k1 : Nat} {y0 : Int32}  (hM : ModI cI cJ ad g q Wt w ln u T t tp bt) (hs : SrcI q Wt w ln u T t) (hk1 : k1 < 8) (hp1 : 0 < ln k1) : Met l yX6_tell wsX6_tell ({ frames := 2, cells := 0, slots := 0, locals := 45 }) (va_Pc [.ref (ad (62)), .int (nI (k1)), .int (y0)] (xB D (xT cI cJ cZ cW) ad g)) (vp_Si (fun r => r = aTell q ln u (nI (k1)) y0)) 0 0 (fun _ => False) := by
  refine Met.ofW (cc := cX6_tell) (maxL := 3) (ret := (some .int)) (by decide) rfl ?_
  intro p e s m args below meth c s₁ B hml hv
  obtain ⟨rfl, hP, hK, hN⟩ := hv
  have hx := B.exec
  have hb := B.bytes
  have hr := B.returns
  have hts := atoms_spec (ws := wsX6_tell) B.pre
  have hown : s.vm.findClass RX6 = some m.cls := findClass_of_methodNamed B.named
  have hlocks := B.notSynchronized
  have hin6 : ∀ w ∈ wsX60, w ∈ wsX6_tell := by decide +kernel
  have hf20 := hts (.fieldLink RX6 20 "LettersByLotModel" "size" "[I") (by decide +kernel)
  have hl := lv_entry ([.ref (ad (62)), .int (nI (k1)), .int (y0)]) (n := 3) (Nat.le_of_ble_eq_true rfl)
  rw [lg_entry_eq]
  generalize (lg_sl ([.ref (ad (62)), .int (nI (k1)), .int (y0)]) ++ List.replicate (3 - (lg_sl ([.ref (ad (62)), .int (nI (k1)), .int (y0)])).length) Slot.unset).toArray = ls at hl ⊢
  have hl : lv_has ls 3 [(0, .ref (ad (62))), (1, .int (nI (k1))), (2, .int (y0))] := hl
  obtain ⟨hq2, hq4, hw1, hw0, hWs, hWt, hw, hln, hul, hT, ht⟩ := hs
  obtain ⟨sq, nu, de, fw, fsz, fwd, ftx, fos, foz, fgo, frw, fan, fad, frn, frd, fen, fed, fcn, fcd, fnw, fth, fo62, fa63, fa64, fa65, fa66, fa67, fa68, fa69, fa70, fa71, fa72, fa73, fa74, fa75, fa76, fa77, fa78, fa79, fa80, hfw, hsz, hwl, htx⟩ := id hM
  have hn1 := hln k1
  refine lv_aload_n hx hb dX6_tell_0 rfl (lv_at hl 0 rfl) ?_
  refine lv_iload_n hx hb dX6_tell_1 rfl (lv_at hl 1 rfl) ?_
  refine vp_callSi (va_Run.run (va_runV (As := [.int (nI (k1))]) (rest := []) ⟨hx, hb, hml, hown, hts⟩ (mX6_isWord_yes l (w := w) (ln := ln) (t := t) (u := u) fo62 fa64 hsz hk1 hp1 (hln _)) (cwV 1 hts gX6_tell_X6_isWord rfl rfl rfl (by decide +kernel) ⟨Nat.le_of_ble_eq_true rfl, Nat.le_of_ble_eq_true rfl⟩) ⟨xB_blind, va_recv hK hP (ci := 6) rfl (xw_is (by decide) fo62), fun U hU hW => ⟨rfl, by rw [hU]; exact hP, va_K.moved hW.alike hK, va_Nw.warmM hW hN⟩⟩ rfl rfl hl.1 rfl (lv_room (Nat.le_of_ble_eq_true rfl)) dX6_tell_2 ⟨Nat.le_of_ble_eq_true rfl, Nat.le_of_ble_eq_true rfl⟩)) (fun r1 er1 => ?_)
  subst er1
  refine xi_if_eq (tgt := 12) hx hb (by decide) dX6_tell_5 (by decide) (fun c0 => absurd c0 (by decide)) (fun _ => ?_)
  refine lv_iload_n hx hb dX6_tell_8 rfl (lv_at hl 2 rfl) ?_
  refine lv_if_ge (tgt := 14) hx hb dX6_tell_9 (by decide) (fun c9_3 => ?_) (fun c9_3 => ?_)
  · obtain ⟨yy, hyy, rfl⟩ := nI_of (x := y0) (by rw [Int32.not_lt]; exact c9_3)
    refine lv_iload_n hx hb dX6_tell_14 rfl (lv_at hl 2 rfl) ?_
    refine xi_if_ne (tgt := 25) hx hb (by omega) dX6_tell_15 (by decide) (fun c15_4 => ?_) (fun c15_4 => ?_)
    · refine lv_iload_n hx hb dX6_tell_25 rfl (lv_at hl 2 rfl) ?_
      refine lv_iconst (v := nI (1)) hx hb dX6_tell_26 (by decide) ?_
      refine xi_icmp_ne (tgt := 36) hx hb (by omega) (by decide) dX6_tell_27 (by decide) (fun c27_5 => ?_) (fun c27_5 => ?_)
      · refine lv_iload_n hx hb dX6_tell_36 rfl (lv_at hl 2 rfl) ?_
        refine lv_iconst (v := nI (2)) hx hb dX6_tell_37 (by decide) ?_
        refine xi_sub hx hb (by omega) dX6_tell_38 ?_
        refine lv_aload_n hx hb dX6_tell_39 rfl (lv_at hl 0 rfl) ?_
        refine xw_get hx hb hts hin6 hown hK hP (by decide) fo62 rfl 3 (by decide) hf20 rfl rfl dX6_tell_40 ?_
        refine lv_iload_n hx hb dX6_tell_43 rfl (lv_at hl 1 rfl) ?_
        refine xw_iald hx hb hK hP (by decide) 0 fa64 rfl (by omega) (by decide) dX6_tell_44 ?_
        rw [hsz (k1) (by omega)]
        refine xi_icmp_ge (tgt := 59) hx hb (by omega) (by omega) dX6_tell_45 (by decide) (fun c45_6 => ?_) (fun c45_6 => ?_)
        · refine lv_iconst (v := (-1)) hx hb dX6_tell_59 (by decide) ?_
          exact W.iret (v := (-1)) hx hb hr (fun tZ ht _ => ⟨_, rfl, (by show _ = aTell q ln u _ _; unfold aTell; rw [slotW_yes hk1 hp1]; show _ = (if nI yy < 0 then _ else _); rw [if_neg (nI_pos hyy)]; rw [if_neg (show ¬ nI yy = 0 from fun h => c15_4 ((nI_eq hyy (by decide)).mp (h.trans (show (0 : Int32) = nI 0 from rfl)))), if_neg (show ¬ nI yy = 1 from fun h => c27_5 ((nI_eq hyy (by decide)).mp (h.trans (show (1 : Int32) = nI 1 from rfl)))), show nI yy - 2 = nI (yy - 2) from pk_sub (b := 2) (by omega)]; rw [if_neg (nI_nlt c45_6 (by omega))]), ht⟩) (fun q hq => by cases hq) dX6_tell_60
        · refine lv_aload_n hx hb dX6_tell_48 rfl (lv_at hl 0 rfl) ?_
          refine lv_iload_n hx hb dX6_tell_49 rfl (lv_at hl 1 rfl) ?_
          refine lv_iload_n hx hb dX6_tell_50 rfl (lv_at hl 2 rfl) ?_
          refine lv_iconst (v := nI (2)) hx hb dX6_tell_51 (by decide) ?_
          refine xi_sub hx hb (by omega) dX6_tell_52 ?_
          refine vp_callSi (va_Run.run (va_runV (As := [.int (nI (k1)), .int (nI (yy - 2))]) (rest := []) ⟨hx, hb, hml, hown, hts⟩ (mX6_letterOf l (w := w) (ln := ln) (t := t) (u := u) (s1 := k1) (j1 := yy - 2) (vv := u (k1) (yy - 2)) fo62 fa65 (by omega) (by have h9 := hln (k1); omega) (hwl (k1) (yy - 2) (by omega) (by omega))) (cwV 2 hts gX6_tell_X6_letterOf rfl rfl rfl (by decide +kernel) ⟨Nat.le_of_ble_eq_true rfl, Nat.le_of_ble_eq_true rfl⟩) ⟨xB_blind, va_recv hK hP (ci := 6) rfl (xw_is (by decide) fo62), fun U hU hW => ⟨rfl, by rw [hU]; exact hP, va_K.moved hW.alike hK, va_Nw.warmM hW hN⟩⟩ rfl rfl hl.1 rfl (lv_room (Nat.le_of_ble_eq_true rfl)) dX6_tell_53 ⟨Nat.le_of_ble_eq_true rfl, Nat.le_of_ble_eq_true rfl⟩)) (fun r7 er7 => ?_)
          subst er7
          refine lv_goto (tgt := 60) hx hb dX6_tell_56 (by decide) ?_
          exact W.iret (v := nI (u (k1) (yy - 2))) hx hb hr (fun tZ ht _ => ⟨_, rfl, (by show _ = aTell q ln u _ _; unfold aTell; rw [slotW_yes hk1 hp1]; show _ = (if nI yy < 0 then _ else _); rw [if_neg (nI_pos hyy)]; rw [if_neg (show ¬ nI yy = 0 from fun h => c15_4 ((nI_eq hyy (by decide)).mp (h.trans (show (0 : Int32) = nI 0 from rfl)))), if_neg (show ¬ nI yy = 1 from fun h => c27_5 ((nI_eq hyy (by decide)).mp (h.trans (show (1 : Int32) = nI 1 from rfl)))), show nI yy - 2 = nI (yy - 2) from pk_sub (b := 2) (by omega)]; rw [if_pos (nI_lt c45_6 (by omega)), nI_clamp (by omega)]), ht⟩) (fun q hq => by cases hq) dX6_tell_60
      · refine lv_aload_n hx hb dX6_tell_30 rfl (lv_at hl 0 rfl) ?_
        refine lv_iload_n hx hb dX6_tell_31 rfl (lv_at hl 1 rfl) ?_
        refine vp_callSi (va_Run.run (va_runV (As := [.int (nI (k1))]) (rest := []) ⟨hx, hb, hml, hown, hts⟩ (mX6_codeOf l (w := w) (ln := ln) (t := t) (u := u) fo62 fa64 fa65 hsz hwl hln (by omega)) (cwV 1 hts gX6_tell_X6_codeOf rfl rfl rfl (by decide +kernel) ⟨Nat.le_of_ble_eq_true rfl, Nat.le_of_ble_eq_true rfl⟩) ⟨xB_blind, va_recv hK hP (ci := 6) rfl (xw_is (by decide) fo62), fun U hU hW => ⟨rfl, by rw [hU]; exact hP, va_K.moved hW.alike hK, va_Nw.warmM hW hN⟩⟩ rfl rfl hl.1 rfl (lv_room (Nat.le_of_ble_eq_true rfl)) dX6_tell_32 ⟨Nat.le_of_ble_eq_true rfl, Nat.le_of_ble_eq_true rfl⟩)) (fun r8 er8 => ?_)
        subst er8
        exact W.iret (v := nI (px q (u (k1)) (ln (k1)))) hx hb hr (fun tZ ht _ => ⟨_, rfl, (by show _ = aTell q ln u _ _; unfold aTell; rw [slotW_yes hk1 hp1]; show _ = (if nI yy < 0 then _ else _); rw [if_neg (nI_pos hyy)]; rw [if_neg (show ¬ nI yy = 0 from fun h => c15_4 ((nI_eq hyy (by decide)).mp (h.trans (show (0 : Int32) = nI 0 from rfl)))), if_pos (show nI yy = 1 by rw [c27_5]; rfl)]), ht⟩) (fun q hq => by cases hq) dX6_tell_35
    · refine lv_aload_n hx hb dX6_tell_18 rfl (lv_at hl 0 rfl) ?_
      refine xw_get hx hb hts hin6 hown hK hP (by decide) fo62 rfl 3 (by decide) hf20 rfl rfl dX6_tell_19 ?_
      refine lv_iload_n hx hb dX6_tell_22 rfl (lv_at hl 1 rfl) ?_
      refine xw_iald hx hb hK hP (by decide) 0 fa64 rfl (by omega) (by decide) dX6_tell_23 ?_
      rw [hsz (k1) (by omega)]
      exact W.iret (v := nI (ln (k1))) hx hb hr (fun tZ ht _ => ⟨_, rfl, (by show _ = aTell q ln u _ _; unfold aTell; rw [slotW_yes hk1 hp1]; show _ = (if nI yy < 0 then _ else _); rw [if_neg (nI_pos hyy)]; rw [if_pos (show nI yy = 0 by rw [c15_4]; rfl)]), ht⟩) (fun q hq => by cases hq) dX6_tell_24
  · refine lv_iconst (v := (-1)) hx hb dX6_tell_12 (by decide) ?_
    exact W.iret (v := (-1)) hx hb hr (fun tZ ht _ => ⟨_, rfl, (by show _ = aTell q ln u _ _; unfold aTell; rw [slotW_yes hk1 hp1]; show _ = (if y0 < 0 then _ else _); rw [if_pos (Int32.not_le.mp c9_3)]), ht⟩) (fun q hq => by cases hq) dX6_tell_13

set_option maxHeartbeats 4000000 in
set_option maxRecDepth 100000 in
theorem mX6_tell_n (l : Launch) {D : va_G} {cI cJ cZ cW : ClassId} {ad : Nat → Nat} {g : Nat → va_E} {q Wt : Nat} {w : Nat → Nat} {ln : Nat → Nat} {u : Nat → Nat → Nat} {T : Nat} {t : Nat → Nat} {tp bt : Int64} {xa : Int32} {y0 : Int32}  (hM : ModI cI cJ ad g q Wt w ln u T t tp bt) (hs : SrcI q Wt w ln u T t) (hxa : noW ln xa) : Met l yX6_tell wsX6_tell ({ frames := 2, cells := 0, slots := 0, locals := 45 }) (va_Pc [.ref (ad (62)), .int (xa), .int (y0)] (xB D (xT cI cJ cZ cW) ad g)) (vp_Si (fun r => r = aTell q ln u (xa) y0)) 0 0 (fun _ => False) := by
  refine Met.ofW (cc := cX6_tell) (maxL := 3) (ret := (some .int)) (by decide) rfl ?_
  intro p e s m args below meth c s₁ B hml hv
  obtain ⟨rfl, hP, hK, hN⟩ := hv
  have hx := B.exec
  have hb := B.bytes
  have hr := B.returns
  have hts := atoms_spec (ws := wsX6_tell) B.pre
  have hown : s.vm.findClass RX6 = some m.cls := findClass_of_methodNamed B.named
  have hlocks := B.notSynchronized
  have hl := lv_entry ([.ref (ad (62)), .int (xa), .int (y0)]) (n := 3) (Nat.le_of_ble_eq_true rfl)
  rw [lg_entry_eq]
  generalize (lg_sl ([.ref (ad (62)), .int (xa), .int (y0)]) ++ List.replicate (3 - (lg_sl ([.ref (ad (62)), .int (xa), .int (y0)])).length) Slot.unset).toArray = ls at hl ⊢
  have hl : lv_has ls 3 [(0, .ref (ad (62))), (1, .int (xa)), (2, .int (y0))] := hl
  obtain ⟨hq2, hq4, hw1, hw0, hWs, hWt, hw, hln, hul, hT, ht⟩ := hs
  obtain ⟨sq, nu, de, fw, fsz, fwd, ftx, fos, foz, fgo, frw, fan, fad, frn, frd, fen, fed, fcn, fcd, fnw, fth, fo62, fa63, fa64, fa65, fa66, fa67, fa68, fa69, fa70, fa71, fa72, fa73, fa74, fa75, fa76, fa77, fa78, fa79, fa80, hfw, hsz, hwl, htx⟩ := id hM
  refine lv_aload_n hx hb dX6_tell_0 rfl (lv_at hl 0 rfl) ?_
  refine lv_iload_n hx hb dX6_tell_1 rfl (lv_at hl 1 rfl) ?_
  refine vp_callSi (va_Run.run (va_runV (As := [.int (xa)]) (rest := []) ⟨hx, hb, hml, hown, hts⟩ (mX6_isWord_no l (w := w) (ln := ln) (t := t) (u := u) fo62 fa64 hsz hxa) (cwV 1 hts gX6_tell_X6_isWord rfl rfl rfl (by decide +kernel) ⟨Nat.le_of_ble_eq_true rfl, Nat.le_of_ble_eq_true rfl⟩) ⟨xB_blind, va_recv hK hP (ci := 6) rfl (xw_is (by decide) fo62), fun U hU hW => ⟨rfl, by rw [hU]; exact hP, va_K.moved hW.alike hK, va_Nw.warmM hW hN⟩⟩ rfl rfl hl.1 rfl (lv_room (Nat.le_of_ble_eq_true rfl)) dX6_tell_2 ⟨Nat.le_of_ble_eq_true rfl, Nat.le_of_ble_eq_true rfl⟩)) (fun r1 er1 => ?_)
  subst er1
  refine xi_if_eq (tgt := 12) hx hb (by decide) dX6_tell_5 (by decide) (fun _ => ?_) (fun c0 => absurd c0 (by decide))
  refine lv_iconst (v := (-1)) hx hb dX6_tell_12 (by decide) ?_
  exact W.iret (v := (-1)) hx hb hr (fun tZ ht _ => ⟨_, rfl, (by show _ = aTell q ln u _ _; unfold aTell; rw [slotW_no hxa]), ht⟩) (fun q hq => by cases hq) dX6_tell_13

theorem mX6_tell (l : Launch) {D : va_G} {cI cJ cZ cW : ClassId} {ad : Nat → Nat} {g : Nat → va_E} {q Wt : Nat} {w : Nat → Nat} {ln : Nat → Nat} {u : Nat → Nat → Nat} {T : Nat} {t : Nat → Nat} {tp bt : Int64} {y0 : Int32} (hM : ModI cI cJ ad g q Wt w ln u T t tp bt) (hs : SrcI q Wt w ln u T t) (xa : Int32) : Met l yX6_tell wsX6_tell ({ frames := 2, cells := 0, slots := 0, locals := 45 }) (va_Pc [.ref (ad (62)), .int xa, .int (y0)] (xB D (xT cI cJ cZ cW) ad g)) (vp_Si (fun r => r = aTell q ln u (xa) y0)) 0 0 (fun _ => False) := by
  rcases slotW_cases ln xa with hxa | ⟨k1, hk1, rfl, hp1⟩
  · exact mX6_tell_n l hM hs hxa
  · exact mX6_tell_s l hM hs hk1 hp1

set_option maxHeartbeats 4000000 in
set_option maxRecDepth 100000 in
theorem mX6_letter_in (l : Launch) {D : va_G} {cI cJ cZ cW : ClassId} {ad : Nat → Nat} {g : Nat → va_E} {q Wt : Nat} {w : Nat → Nat} {ln : Nat → Nat} {u : Nat → Nat → Nat} {T : Nat} {t : Nat → Nat} {tp bt : Int64} {j : Nat}  (hM : ModI cI cJ ad g q Wt w ln u T t tp bt) (hs : SrcI q Wt w ln u T t) (hj : j < T) : Met l yX6_letter wsX6_letter ({ frames := 1, cells := 0, slots := 0, locals := 21 }) (va_Pc [.ref (ad (62)), .int (nI (j))] (xB D (xT cI cJ cZ cW) ad g)) (vp_Si (fun r => r = aLetter T t (nI j))) 0 0 (fun _ => False) := by
  refine Met.ofW (cc := cX6_letter) (maxL := 2) (ret := (some .int)) (by decide) rfl ?_
  intro p e s m args below meth c s₁ B hml hv
  obtain ⟨rfl, hP, hK, hN⟩ := hv
  have hx := B.exec
  have hb := B.bytes
  have hr := B.returns
  have hts := atoms_spec (ws := wsX6_letter) B.pre
  have hown : s.vm.findClass RX6 = some m.cls := findClass_of_methodNamed B.named
  have hlocks := B.notSynchronized
  have hin6 : ∀ w ∈ wsX60, w ∈ wsX6_letter := by decide +kernel
  have hf26 := hts (.fieldLink RX6 26 "LettersByLotModel" "text" "[I") (by decide +kernel)
  have hf76 := hts (.fieldLink RX6 76 "LettersByLotModel" "written" "I") (by decide +kernel)
  have hl := lv_entry ([.ref (ad (62)), .int (nI (j))]) (n := 2) (Nat.le_of_ble_eq_true rfl)
  rw [lg_entry_eq]
  generalize (lg_sl ([.ref (ad (62)), .int (nI (j))]) ++ List.replicate (2 - (lg_sl ([.ref (ad (62)), .int (nI (j))])).length) Slot.unset).toArray = ls at hl ⊢
  have hl : lv_has ls 2 [(0, .ref (ad (62))), (1, .int (nI (j)))] := hl
  obtain ⟨hq2, hq4, hw1, hw0, hWs, hWt, hw, hln, hul, hT, ht⟩ := hs
  obtain ⟨sq, nu, de, fw, fsz, fwd, ftx, fos, foz, fgo, frw, fan, fad, frn, frd, fen, fed, fcn, fcd, fnw, fth, fo62, fa63, fa64, fa65, fa66, fa67, fa68, fa69, fa70, fa71, fa72, fa73, fa74, fa75, fa76, fa77, fa78, fa79, fa80, hfw, hsz, hwl, htx⟩ := id hM
  refine lv_iload_n hx hb dX6_letter_0 rfl (lv_at hl 1 rfl) ?_
  refine lv_aload_n hx hb dX6_letter_1 rfl (lv_at hl 0 rfl) ?_
  refine xw_get hx hb hts hin6 hown hK hP (by decide) fo62 rfl 6 (by decide) hf76 rfl rfl dX6_letter_2 ?_
  refine vp_callSi (va_Run.run (va_runS (As := [.int (nI (j)), .int (nI (T))]) (rest := []) ⟨hx, hb, hml, hown, hts⟩ (mX6_isIn_in l (by omega) (by omega)) (va_cwS 2 hts gX6_letter_X6_isIn rfl rfl rfl (by decide +kernel) ⟨Nat.le_of_ble_eq_true rfl, Nat.le_of_ble_eq_true rfl⟩) ⟨xB_blind, fun U hU hW => ⟨rfl, by rw [hU]; exact hP, va_K.moved hW.alike hK, va_Nw.warmM hW hN⟩⟩ rfl rfl hl.1 rfl (lv_room (Nat.le_of_ble_eq_true rfl)) dX6_letter_5 ⟨Nat.le_of_ble_eq_true rfl, Nat.le_of_ble_eq_true rfl⟩)) (fun r1 er1 => ?_)
  subst er1
  refine xi_if_eq (tgt := 20) hx hb (by decide) dX6_letter_8 (by decide) (fun c0 => absurd c0 (by decide)) (fun _ => ?_)
  refine lv_aload_n hx hb dX6_letter_11 rfl (lv_at hl 0 rfl) ?_
  refine xw_get hx hb hts hin6 hown hK hP (by decide) fo62 rfl 5 (by decide) hf26 rfl rfl dX6_letter_12 ?_
  refine lv_iload_n hx hb dX6_letter_15 rfl (lv_at hl 1 rfl) ?_
  refine xw_iald hx hb hK hP (by decide) 0 fa66 rfl (by omega) (by decide) dX6_letter_16 ?_
  rw [htx (j) (by omega)]
  refine lv_goto (tgt := 21) hx hb dX6_letter_17 (by decide) ?_
  exact W.iret (v := nI (t (j))) hx hb hr (fun tZ ht _ => ⟨_, rfl, (aLetter_in hT hj).symm, ht⟩) (fun q hq => by cases hq) dX6_letter_21

set_option maxHeartbeats 4000000 in
set_option maxRecDepth 100000 in
theorem mX6_letter_out (l : Launch) {D : va_G} {cI cJ cZ cW : ClassId} {ad : Nat → Nat} {g : Nat → va_E} {q Wt : Nat} {w : Nat → Nat} {ln : Nat → Nat} {u : Nat → Nat → Nat} {T : Nat} {t : Nat → Nat} {tp bt : Int64} {x0 : Int32}  (hM : ModI cI cJ ad g q Wt w ln u T t tp bt) (hs : SrcI q Wt w ln u T t) (hx0 : x0 < 0 ∨ nI T ≤ x0) : Met l yX6_letter wsX6_letter ({ frames := 1, cells := 0, slots := 0, locals := 21 }) (va_Pc [.ref (ad (62)), .int (x0)] (xB D (xT cI cJ cZ cW) ad g)) (vp_Si (fun r => r = aLetter T t x0)) 0 0 (fun _ => False) := by
  refine Met.ofW (cc := cX6_letter) (maxL := 2) (ret := (some .int)) (by decide) rfl ?_
  intro p e s m args below meth c s₁ B hml hv
  obtain ⟨rfl, hP, hK, hN⟩ := hv
  have hx := B.exec
  have hb := B.bytes
  have hr := B.returns
  have hts := atoms_spec (ws := wsX6_letter) B.pre
  have hown : s.vm.findClass RX6 = some m.cls := findClass_of_methodNamed B.named
  have hlocks := B.notSynchronized
  have hin6 : ∀ w ∈ wsX60, w ∈ wsX6_letter := by decide +kernel
  have hf76 := hts (.fieldLink RX6 76 "LettersByLotModel" "written" "I") (by decide +kernel)
  have hl := lv_entry ([.ref (ad (62)), .int (x0)]) (n := 2) (Nat.le_of_ble_eq_true rfl)
  rw [lg_entry_eq]
  generalize (lg_sl ([.ref (ad (62)), .int (x0)]) ++ List.replicate (2 - (lg_sl ([.ref (ad (62)), .int (x0)])).length) Slot.unset).toArray = ls at hl ⊢
  have hl : lv_has ls 2 [(0, .ref (ad (62))), (1, .int (x0))] := hl
  obtain ⟨hq2, hq4, hw1, hw0, hWs, hWt, hw, hln, hul, hT, ht⟩ := hs
  obtain ⟨sq, nu, de, fw, fsz, fwd, ftx, fos, foz, fgo, frw, fan, fad, frn, frd, fen, fed, fcn, fcd, fnw, fth, fo62, fa63, fa64, fa65, fa66, fa67, fa68, fa69, fa70, fa71, fa72, fa73, fa74, fa75, fa76, fa77, fa78, fa79, fa80, hfw, hsz, hwl, htx⟩ := id hM
  refine lv_iload_n hx hb dX6_letter_0 rfl (lv_at hl 1 rfl) ?_
  refine lv_aload_n hx hb dX6_letter_1 rfl (lv_at hl 0 rfl) ?_
  refine xw_get hx hb hts hin6 hown hK hP (by decide) fo62 rfl 6 (by decide) hf76 rfl rfl dX6_letter_2 ?_
  refine vp_callSi (va_Run.run (va_runS (As := [.int (x0), .int (nI (T))]) (rest := []) ⟨hx, hb, hml, hown, hts⟩ (mX6_isIn_out l hx0) (va_cwS 2 hts gX6_letter_X6_isIn rfl rfl rfl (by decide +kernel) ⟨Nat.le_of_ble_eq_true rfl, Nat.le_of_ble_eq_true rfl⟩) ⟨xB_blind, fun U hU hW => ⟨rfl, by rw [hU]; exact hP, va_K.moved hW.alike hK, va_Nw.warmM hW hN⟩⟩ rfl rfl hl.1 rfl (lv_room (Nat.le_of_ble_eq_true rfl)) dX6_letter_5 ⟨Nat.le_of_ble_eq_true rfl, Nat.le_of_ble_eq_true rfl⟩)) (fun r1 er1 => ?_)
  subst er1
  refine xi_if_eq (tgt := 20) hx hb (by decide) dX6_letter_8 (by decide) (fun _ => ?_) (fun c0 => absurd c0 (by decide))
  refine lv_iconst (v := (-1)) hx hb dX6_letter_20 (by decide) ?_
  exact W.iret (v := (-1)) hx hb hr (fun tZ ht _ => ⟨_, rfl, (aLetter_out hx0).symm, ht⟩) (fun q hq => by cases hq) dX6_letter_21

set_option maxHeartbeats 4000000 in
set_option maxRecDepth 100000 in
theorem mX6_top (l : Launch) {D : va_G} {cI cJ cZ cW : ClassId} {ad : Nat → Nat} {g : Nat → va_E} {q Wt : Nat} {w : Nat → Nat} {ln : Nat → Nat} {u : Nat → Nat → Nat} {T : Nat} {t : Nat → Nat} {tp bt : Int64}  (hM : ModI cI cJ ad g q Wt w ln u T t tp bt) (hs : SrcI q Wt w ln u T t) : Met l yX6_top wsX6_top ({ frames := 0, cells := 0, slots := 0, locals := 0 }) (va_Pc [.ref (ad (62))] (xB D (xT cI cJ cZ cW) ad g)) (vp_Sl (fun r => r = tp)) 0 0 (fun _ => False) := by
  refine Met.ofW (cc := cX6_top) (maxL := 1) (ret := (some .long)) (by decide) rfl ?_
  intro p e s m args below meth c s₁ B hml hv
  obtain ⟨rfl, hP, hK, hN⟩ := hv
  have hx := B.exec
  have hb := B.bytes
  have hr := B.returns
  have hts := atoms_spec (ws := wsX6_top) B.pre
  have hown : s.vm.findClass RX6 = some m.cls := findClass_of_methodNamed B.named
  have hlocks := B.notSynchronized
  have hin6 : ∀ w ∈ wsX60, w ∈ wsX6_top := by decide +kernel
  have hf116 := hts (.fieldLink RX6 116 "LettersByLotModel" "top" "J") (by decide +kernel)
  have hl := lv_entry ([.ref (ad (62))]) (n := 1) (Nat.le_of_ble_eq_true rfl)
  rw [lg_entry_eq]
  generalize (lg_sl ([.ref (ad (62))]) ++ List.replicate (1 - (lg_sl ([.ref (ad (62))])).length) Slot.unset).toArray = ls at hl ⊢
  have hl : lv_has ls 1 [(0, .ref (ad (62)))] := hl
  obtain ⟨hq2, hq4, hw1, hw0, hWs, hWt, hw, hln, hul, hT, ht⟩ := hs
  obtain ⟨sq, nu, de, fw, fsz, fwd, ftx, fos, foz, fgo, frw, fan, fad, frn, frd, fen, fed, fcn, fcd, fnw, fth, fo62, fa63, fa64, fa65, fa66, fa67, fa68, fa69, fa70, fa71, fa72, fa73, fa74, fa75, fa76, fa77, fa78, fa79, fa80, hfw, hsz, hwl, htx⟩ := id hM
  refine lv_aload_n hx hb dX6_top_0 rfl (lv_at hl 0 rfl) ?_
  refine xw_get hx hb hts hin6 hown hK hP (by decide) fo62 rfl 7 (by decide) hf116 rfl rfl dX6_top_1 ?_
  exact W.lret (v := tp) hx hb hr (fun tZ ht _ => ⟨_, rfl, rfl, ht⟩) (fun q hq => by cases hq) dX6_top_4

set_option maxHeartbeats 4000000 in
set_option maxRecDepth 100000 in
theorem mX6_bottom (l : Launch) {D : va_G} {cI cJ cZ cW : ClassId} {ad : Nat → Nat} {g : Nat → va_E} {q Wt : Nat} {w : Nat → Nat} {ln : Nat → Nat} {u : Nat → Nat → Nat} {T : Nat} {t : Nat → Nat} {tp bt : Int64}  (hM : ModI cI cJ ad g q Wt w ln u T t tp bt) (hs : SrcI q Wt w ln u T t) : Met l yX6_bottom wsX6_bottom ({ frames := 0, cells := 0, slots := 0, locals := 0 }) (va_Pc [.ref (ad (62))] (xB D (xT cI cJ cZ cW) ad g)) (vp_Sl (fun r => r = bt)) 0 0 (fun _ => False) := by
  refine Met.ofW (cc := cX6_bottom) (maxL := 1) (ret := (some .long)) (by decide) rfl ?_
  intro p e s m args below meth c s₁ B hml hv
  obtain ⟨rfl, hP, hK, hN⟩ := hv
  have hx := B.exec
  have hb := B.bytes
  have hr := B.returns
  have hts := atoms_spec (ws := wsX6_bottom) B.pre
  have hown : s.vm.findClass RX6 = some m.cls := findClass_of_methodNamed B.named
  have hlocks := B.notSynchronized
  have hin6 : ∀ w ∈ wsX60, w ∈ wsX6_bottom := by decide +kernel
  have hf29 := hts (.fieldLink RX6 29 "LettersByLotModel" "bottom" "J") (by decide +kernel)
  have hl := lv_entry ([.ref (ad (62))]) (n := 1) (Nat.le_of_ble_eq_true rfl)
  rw [lg_entry_eq]
  generalize (lg_sl ([.ref (ad (62))]) ++ List.replicate (1 - (lg_sl ([.ref (ad (62))])).length) Slot.unset).toArray = ls at hl ⊢
  have hl : lv_has ls 1 [(0, .ref (ad (62)))] := hl
  obtain ⟨hq2, hq4, hw1, hw0, hWs, hWt, hw, hln, hul, hT, ht⟩ := hs
  obtain ⟨sq, nu, de, fw, fsz, fwd, ftx, fos, foz, fgo, frw, fan, fad, frn, frd, fen, fed, fcn, fcd, fnw, fth, fo62, fa63, fa64, fa65, fa66, fa67, fa68, fa69, fa70, fa71, fa72, fa73, fa74, fa75, fa76, fa77, fa78, fa79, fa80, hfw, hsz, hwl, htx⟩ := id hM
  refine lv_aload_n hx hb dX6_bottom_0 rfl (lv_at hl 0 rfl) ?_
  refine xw_get hx hb hts hin6 hown hK hP (by decide) fo62 rfl 8 (by decide) hf29 rfl rfl dX6_bottom_1 ?_
  exact W.lret (v := bt) hx hb hr (fun tZ ht _ => ⟨_, rfl, rfl, ht⟩) (fun q hq => by cases hq) dX6_bottom_4
