theorem lZ_i (n : Nat) : (lZ (n : Int)).toInt32 = nI n := by
  show (Int64.ofInt (n : Int)).toInt32 = Int32.ofNat n
  rw [Int64.ofInt_eq_ofNat]
  exact lN_i n
theorem edg_B {Wt : Nat} {w ua ub : Nat → Nat} {na nb : Nat} (ha : ∀ k, k ≤ na → shr Wt w ua na k ≤ 1024) (hb : ∀ k, k ≤ nb → shr Wt w ub nb k ≤ 1024) : -5242880 ≤ edg Wt w ua na ub nb ∧ edg Wt w ua na ub nb ≤ 5242880 := by
  have h0 : ownL Wt w ua na ≤ 5120 := lapS_le ha 5
  have h1 := bnd_mul h0 (hb 0 (Nat.zero_le _))
  have h2 := bnd_mul (lapS_le (u := ua) (n := na) (v := ub) hb 5) (ha 0 (Nat.zero_le _))
  unfold edg
  omega
/-- the best of the codes below s: its code (-1: none yet), and the fraction that its chance is -/
def bst (q Wt : Nat) (w u : Nat → Nat) (n : Nat) : Nat → Int32 × Int × Int
  | 0 => (-1, 0, 1)
  | s + 1 => if s = px q u n then bst q Wt w u n s else if (bst q Wt w u n s).2.1 * (edg Wt w u n (dg q s n) n + edg Wt w (dg q s n) n u n) < edg Wt w u n (dg q s n) n * (bst q Wt w u n s).2.2 then (nI s, edg Wt w u n (dg q s n) n, edg Wt w u n (dg q s n) n + edg Wt w (dg q s n) n u n) else bst q Wt w u n s
theorem bst_own {q Wt : Nat} {w u : Nat → Nat} {n s : Nat} (h : s = px q u n) : bst q Wt w u n (s + 1) = bst q Wt w u n s := by
  show (if _ then _ else _) = _
  rw [if_pos h]
theorem bst_y {q Wt : Nat} {w u : Nat → Nat} {n s : Nat} (h : ¬ s = px q u n) (h2 : (bst q Wt w u n s).2.1 * (edg Wt w u n (dg q s n) n + edg Wt w (dg q s n) n u n) < edg Wt w u n (dg q s n) n * (bst q Wt w u n s).2.2) : bst q Wt w u n (s + 1) = (nI s, edg Wt w u n (dg q s n) n, edg Wt w u n (dg q s n) n + edg Wt w (dg q s n) n u n) := by
  show (if _ then _ else _) = _
  rw [if_neg h, if_pos h2]
theorem bst_n {q Wt : Nat} {w u : Nat → Nat} {n s : Nat} (h : ¬ s = px q u n) (h2 : ¬ (bst q Wt w u n s).2.1 * (edg Wt w u n (dg q s n) n + edg Wt w (dg q s n) n u n) < edg Wt w u n (dg q s n) n * (bst q Wt w u n s).2.2) : bst q Wt w u n (s + 1) = bst q Wt w u n s := by
  show (if _ then _ else _) = _
  rw [if_neg h, if_neg h2]
/-- the best answer: its code, and the chance -/
def oBest (q Wt : Nat) (w : Nat → Nat) (ln : Nat → Nat) (u : Nat → Nat → Nat) (x : Int32) : Option (Int32 × Rat) := match slotW ln x with
  | none => none
  | some k => if (∀ j, j < q → w j = w 0) ∧ 3 ≤ ln k then some ((bst q Wt w (u k) (ln k) (q ^ ln k)).1, Rat.divInt (bst q Wt w (u k) (ln k) (q ^ ln k)).2.1 (bst q Wt w (u k) (ln k) (q ^ ln k)).2.2) else none
def bstOK (q Wt : Nat) (w : Nat → Nat) (ln : Nat → Nat) (u : Nat → Nat → Nat) : Prop := ∀ k, k < 8 → 3 ≤ ln k → (∀ j, j < q → w j = w 0) → ¬ (bst q Wt w (u k) (ln k) (q ^ ln k)).1 = -1 ∧ (bst q Wt w (u k) (ln k) (q ^ ln k)).2.2 ≠ 0
set_option maxHeartbeats 4000000 in
set_option maxRecDepth 100000 in
/-- best -/
theorem mX5_best_yes (l : Launch) {D : va_G} {cI cJ cZ cW : ClassId} {ad : Nat → Nat} {A : Nat → Prop} (hD : ∀ g, va_D A (xw 81 ad g)) {g : Nat → va_E} {q Wt : Nat} {w : Nat → Nat} {ln : Nat → Nat} {u : Nat → Nat → Nat} {T : Nat} {t : Nat → Nat} {tp bt : Int64} {k1 b1 n1 ol1 : Nat} {u1 sf1 : Nat → Nat}  (hC : ClsI cI cJ cZ cW ad g q Wt w ln u T t tp bt) (hs : SrcI q Wt w ln u T t) (hk1 : k1 < 8) (eb1 : 17 + 5 * k1 = b1) (en1 : ln k1 = n1) (eu1 : u k1 = u1) (es1 : shr Wt w u1 n1 = sf1) (eo1 : ownL Wt w u1 n1 = ol1) (hp1 : 0 < n1) (hev : ∀ j, j < q → w j = w 0) (hn3 : 3 ≤ n1) (hOK : bstOK q Wt w ln u) : Met l yX5_best wsX5_best ({ frames := 3, cells := 0, slots := 0, locals := 75 }) (va_Pc [.ref (ad (0)), .int (nI (k1))] (xB D (xT cI cJ cZ cW) ad g)) (va_Qi (fun r g2 => r = (match oBest q Wt w ln u (nI k1) with | some p => p.1 | none => -1) ∧ ClsI cI cJ cZ cW ad g2 q Wt w ln u T t (hTp ((oBest q Wt w ln u (nI k1)).map Prod.snd) tp) (hBt ((oBest q Wt w ln u (nI k1)).map Prod.snd) bt) ∧ ∀ j : Nat, 62 ≤ j → g2 j = g j) (xB D (xT cI cJ cZ cW) ad) A) 0 0 A := by
  refine Met.ofW (cc := cX5_best) (maxL := 14) (ret := (some .int)) (by decide) rfl ?_
  intro p e s m args below meth c s₁ B hml hv
  obtain ⟨rfl, hP, hK, hN⟩ := hv
  have hx := B.exec
  have hb := B.bytes
  have hr := B.returns
  have hts := atoms_spec (ws := wsX5_best) B.pre
  have hown : s.vm.findClass RX5 = some m.cls := findClass_of_methodNamed B.named
  have hlocks := B.notSynchronized
  have hS : va_S A s.heap s.heap [] := va_S.rf
  have hin0 : ∀ w ∈ wsX00, w ∈ wsX5_best := by decide +kernel
  have hin4 : ∀ w ∈ wsX40, w ∈ wsX5_best := by decide +kernel
  have hin5 : ∀ w ∈ wsX50, w ∈ wsX5_best := by decide +kernel
  have hf12 := hts (.fieldLink RX5 12 "LettersByLot" "lot" "LLettersByLot$Lot;") (by decide +kernel)
  have hf23 := hts (.fieldLink RX5 23 "LettersByLot" "candidate" "LLettersByLot$Word;") (by decide +kernel)
  have hf79 := hts (.fieldLink RX5 79 "LettersByLot$Word" "length" "I") (by decide +kernel)
  have hf82 := hts (.fieldLink RX5 82 "LettersByLot$Word" "code" "I") (by decide +kernel)
  have hf141 := hts (.fieldLink RX5 141 "LettersByLot$Lot" "letters" "I") (by decide +kernel)
  have hl := lv_entry ([.ref (ad (0)), .int (nI (k1))]) (n := 14) (Nat.le_of_ble_eq_true rfl)
  rw [lg_entry_eq]
  generalize (lg_sl ([.ref (ad (0)), .int (nI (k1))]) ++ List.replicate (14 - (lg_sl ([.ref (ad (0)), .int (nI (k1))])).length) Slot.unset).toArray = ls at hl ⊢
  have hl : lv_has ls 14 [(0, .ref (ad (0))), (1, .int (nI (k1)))] := hl
  obtain ⟨hq2, hq4, hw1, hw0, hWs, hWt, hw, hln, hul, hT, ht⟩ := hs
  obtain ⟨fo_0, ⟨f2, fo_1, fa_2, h2⟩, ⟨f3, fa_3, h3⟩, hRace, hMach, ⟨f16, fo15, fa16, h16⟩, hwd, hcand⟩ := id hC
  have hWp : 1 ≤ Wt ∧ Wt ≤ 4 := by have h8 := hw1 0 (by omega); have h9 := wsum_mono (w := w) (show 1 ≤ q by omega); have h7 : wsum w 1 = 0 + w 0 := rfl; omega
  obtain ⟨f5r, f6r, f7r, szr, fo4, fa5, fa6, fa7⟩ := hRace
  obtain ⟨fl1, fh1, ft1, fs1, fo1, fal1, fah1, fat1, fas1, hfl1, hfh1, hft1, hfs1⟩ := cw_pos hwd hk1 eb1 en1 eu1 es1 eo1 hp1
  have hb1 : b1 + 4 < 81 := by omega
  have hn1 : n1 ≤ 5 := en1 ▸ hln k1
  have hu1 : ∀ j, j < n1 → u1 j < q := fun j hj => by rw [← eu1]; exact hul k1 j (by rw [en1]; exact hj)
  have hwu1 : ∀ j, j < n1 → w (u1 j) ≤ 4 := fun j hj => hw _ (Nat.lt_of_lt_of_le (hu1 j hj) hq4)
  have hsf1 : ∀ k, k ≤ n1 → sf1 k ≤ 1024 := fun k hk => es1 ▸ shr_le hWt hwu1 hn1 hk
  have hs01 : 1 ≤ sf1 0 := es1 ▸ shr_0 (fun j hj => hw1 _ (hu1 j hj))
  have hol1 : ol1 ≤ 5120 := by rw [← eo1]; show lapS (shr Wt w u1 n1) u1 n1 u1 n1 5 ≤ 5120; rw [es1]; exact lapS_le hsf1 5
  have hb171 : 17 ≤ b1 := by omega
  subst es1
  subst eo1
  obtain ⟨flc, fhc, ftc, fsc, lec, coc, owc, fc0, fc1, fc2, fc3, fc4, hhc, htc⟩ := hcand
  have hp5 : q ^ n1 ≤ 1024 := pow_le5 hq4 hn1
  refine lv_aload_n hx hb dX5_best_0 rfl (lv_at hl 0 rfl) ?_
  refine lv_iload_n hx hb dX5_best_1 rfl (lv_at hl 1 rfl) ?_
  refine va_csq (va_Run.run (va_runV (As := [.int (nI (k1))]) (rest := []) ⟨hx, hb, hml, hown, hts⟩ (mX5_wordIn_yes l fo_0 fa_3 fo1 h3 hk1 eb1 hp1 hn1) (cwV 1 hts gX5_best_X5_wordIn rfl rfl rfl (by decide +kernel) ⟨Nat.le_of_ble_eq_true rfl, Nat.le_of_ble_eq_true rfl⟩) ⟨xB_blind, va_recv hK hP (ci := 5) rfl (xw_is (by decide) fo_0), fun U hU hW => ⟨rfl, by rw [hU]; exact hP, va_K.moved hW.alike hK, va_Nw.warmM hW hN⟩⟩ rfl rfl hl.1 rfl (lv_room (Nat.le_of_ble_eq_true rfl)) dX5_best_2 ⟨Nat.le_of_ble_eq_true rfl, Nat.le_of_ble_eq_true rfl⟩)) (fun r1 er1 => ?_)
  subst er1
  refine W.eq (g2 := F0 m 5 ls (.ref (ad (b1)) :: [])) rfl ?_
  refine lv_astore_n (lv' := [(2, .ref (ad (b1))), (0, .ref (ad (0))), (1, .int (nI (k1)))]) hx hb dX5_best_5 rfl hl (by decide) rfl (fun ls hl => ?_)
  refine lv_aload_n hx hb dX5_best_6 rfl (lv_at hl 0 rfl) ?_
  refine lv_ifnull hx hb dX5_best_7 ?_
  refine lv_aload_n hx hb dX5_best_10 rfl (lv_at hl 1 rfl) ?_
  refine xw_get hx hb hts hin5 hown hK hP (by decide) fo_0 rfl 0 (by decide) hf12 rfl rfl dX5_best_11 ?_
  refine vp_callSi (va_Run.run (va_runV (As := []) (rest := []) ⟨hx, hb, hml, hown, hts⟩ (mX0_isEven l fo_1 fa_2 hq4 hq2 h2 hw) (cwV 0 hts gX5_best_X0_isEven rfl rfl rfl (by decide +kernel) ⟨Nat.le_of_ble_eq_true rfl, Nat.le_of_ble_eq_true rfl⟩) ⟨xB_blind, va_recv hK hP (ci := 0) rfl (xw_is (by decide) fo_1), fun U hU hW => ⟨rfl, by rw [hU]; exact hP, va_K.moved hW.alike hK, va_Nw.warmM hW hN⟩⟩ rfl rfl hl.1 rfl (lv_room (Nat.le_of_ble_eq_true rfl)) dX5_best_14 ⟨Nat.le_of_ble_eq_true rfl, Nat.le_of_ble_eq_true rfl⟩)) (fun r2 er2 => ?_)
  subst er2
  refine xb_if_eq (tgt := 28) hx hb dX5_best_17 (by decide) (fun c17_3 => ?_) (fun c17_3 => ?_)
  · exact absurd hev c17_3
  · refine lv_aload_n hx hb dX5_best_20 rfl (lv_at hl 0 rfl) ?_
    refine xw_get hx hb hts hin4 hown hK hP (by omega) fo1 rfl 4 (by decide) hf79 rfl rfl dX5_best_21 ?_
    refine lv_iconst (v := nI (3)) hx hb dX5_best_24 (by decide) ?_
    refine xi_icmp_ge (tgt := 30) hx hb (by omega) (by decide) dX5_best_25 (by decide) (fun c25_4 => ?_) (fun c25_4 => ?_)
    · refine lv_aload_n hx hb dX5_best_30 rfl (lv_at hl 1 rfl) ?_
      refine xw_get hx hb hts hin5 hown hK hP (by decide) fo_0 rfl 0 (by decide) hf12 rfl rfl dX5_best_31 ?_
      refine xw_get hx hb hts hin0 hown hK hP (by decide) fo_1 rfl 1 (by decide) hf141 rfl rfl dX5_best_34 ?_
      refine xi_i2l hx hb (by omega) dX5_best_37 ?_
      refine lv_aload_n hx hb dX5_best_38 rfl (lv_at hl 0 rfl) ?_
      refine xw_get hx hb hts hin4 hown hK hP (by omega) fo1 rfl 4 (by decide) hf79 rfl rfl dX5_best_39 ?_
      refine vp_callSl (va_Run.run (va_runS (As := [.long (lZ (((q : Nat) : Int))), .int (nI (n1))]) (rest := []) ⟨hx, hb, hml, hown, hts⟩ (mX5_power l (b0 := q) (e0 := n1) (by omega)) (va_cwS 2 hts gX5_best_X5_power rfl rfl rfl (by decide +kernel) ⟨Nat.le_of_ble_eq_true rfl, Nat.le_of_ble_eq_true rfl⟩) ⟨xB_blind, fun U hU hW => ⟨rfl, by rw [hU]; exact hP, va_K.moved hW.alike hK, va_Nw.warmM hW hN⟩⟩ rfl rfl hl.1 rfl (lv_room (Nat.le_of_ble_eq_true rfl)) dX5_best_42 ⟨Nat.le_of_ble_eq_true rfl, Nat.le_of_ble_eq_true rfl⟩)) (fun r5 er5 => ?_)
      subst er5
      refine lv_l2i hx hb dX5_best_45 (lZ_i _) ?_
      refine lv_istore_n (lv' := [(3, .int (nI (q ^ n1))), (2, .ref (ad (b1))), (0, .ref (ad (0))), (1, .int (nI (k1)))]) hx hb dX5_best_46 rfl hl (by decide) rfl (fun ls hl => ?_)
      refine lv_iconst (v := (-1)) hx hb dX5_best_47 (by decide) ?_
      refine lv_istore (lv' := [(4, .int ((-1))), (3, .int (nI (q ^ n1))), (2, .ref (ad (b1))), (0, .ref (ad (0))), (1, .int (nI (k1)))]) hx hb dX5_best_48 hl (by decide) rfl (fun ls hl => ?_)
      refine lv_lconst (v := lZ (0)) hx hb dX5_best_50 (by decide) ?_
      refine lv_lstore (lv' := [(5, .long (lZ (0))), (4, .int ((-1))), (3, .int (nI (q ^ n1))), (2, .ref (ad (b1))), (0, .ref (ad (0))), (1, .int (nI (k1)))]) hx hb dX5_best_51 hl (by decide) rfl (fun ls hl => ?_)
      refine lv_lconst (v := lZ (1)) hx hb dX5_best_53 (by decide) ?_
      refine lv_lstore (lv' := [(7, .long (lZ (1))), (5, .long (lZ (0))), (4, .int ((-1))), (3, .int (nI (q ^ n1))), (2, .ref (ad (b1))), (0, .ref (ad (0))), (1, .int (nI (k1)))]) hx hb dX5_best_54 hl (by decide) rfl (fun ls hl => ?_)
      refine lv_iconst (v := nI (0)) hx hb dX5_best_56 (by decide) ?_
      refine lv_istore (lv' := [(9, .int (nI (0))), (7, .long (lZ (1))), (5, .long (lZ (0))), (4, .int ((-1))), (3, .int (nI (q ^ n1))), (2, .ref (ad (b1))), (0, .ref (ad (0))), (1, .int (nI (k1)))]) hx hb dX5_best_57 hl (by decide) rfl (fun ls hl => ?_)
      refine xloopW (G := fun H locs fr => W p l e _ s m _ below meth c H locs _ _ _ fr) (σ := Nat × (Nat → Int32) × (Nat → Int32) × (Nat → Int32) × (Nat → Int64) × Int32 × Int32 × Int64) (fun (i, flc, fhc, ftc, fsc, lec, coc, owc) ls => F0 m 59 ls []) (fun (i, flc, fhc, ftc, fsc, lec, coc, owc) gl59_6 H locs ls => (i ≤ q ^ n1) ∧ ((-5242880 ≤ (bst q Wt w u1 n1 i).2.1 ∧ (bst q Wt w u1 n1 i).2.1 ≤ 5242880) ∧ (-10485760 ≤ (bst q Wt w u1 n1 i).2.2 ∧ (bst q Wt w u1 n1 i).2.2 ≤ 10485760)) ∧ (fhc 0 = nI 0) ∧ (ftc 0 = nI 0) ∧ gl59_6 (0) = .inr (5, [.ref (ad (1)), .ref (ad (3)), .ref (ad (57)), .ref (ad (4)), .ref (ad (8)), .ref (ad (15)), .long (tp), .long (bt)]) ∧ gl59_6 (1) = .inr (0, [.ref (ad (2)), .int (nI (q)), .int (nI (Wt))]) ∧ gl59_6 (2) = .inl (cI, 4, .inl (f2)) ∧ gl59_6 (b1) = .inr (4, [.ref (ad (b1 + 1)), .ref (ad (b1 + 2)), .ref (ad (b1 + 3)), .ref (ad (b1 + 4)), .int (nI (n1)), .int (nI (px q u1 n1)), .long (lZ (((ownL Wt w u1 n1 : Nat) : Int)))]) ∧ gl59_6 (b1 + 1) = .inl (cI, 5, .inl (fl1)) ∧ gl59_6 (b1 + 2) = .inl (cI, 6, .inl (fh1)) ∧ gl59_6 (b1 + 3) = .inl (cI, 6, .inl (ft1)) ∧ gl59_6 (b1 + 4) = .inl (cJ, 6, .inr (.inl (fs1))) ∧ gl59_6 (57) = .inr (4, [.ref (ad (57 + 1)), .ref (ad (57 + 2)), .ref (ad (57 + 3)), .ref (ad (57 + 4)), .int (lec), .int (coc), .long (owc)]) ∧ gl59_6 (57 + 1) = .inl (cI, 5, .inl (flc)) ∧ gl59_6 (57 + 2) = .inl (cI, 6, .inl (fhc)) ∧ gl59_6 (57 + 3) = .inl (cI, 6, .inl (ftc)) ∧ gl59_6 (57 + 4) = .inl (cJ, 6, .inr (.inl (fsc))) ∧ (∀ j : Nat, j ≠ 0 → j ≠ 57 → j ≠ 57 + 1 → j ≠ 57 + 2 → j ≠ 57 + 3 → j ≠ 57 + 4 → gl59_6 j = g j) ∧ va_P D vwCl (xw 81 ad gl59_6) H ∧ va_S A s.heap H locs ∧ lv_has ls 14 [(0, .ref (ad (0))), (2, .ref (ad (b1))), (3, .int (nI (q ^ n1))), (4, .int ((bst q Wt w u1 n1 i).1)), (5, .long (lZ ((bst q Wt w u1 n1 i).2.1))), (7, .long (lZ ((bst q Wt w u1 n1 i).2.2))), (9, .int (nI (i)))]) (fun (i, flc, fhc, ftc, fsc, lec, coc, owc) => q ^ n1 - i) ?_ (0, flc, fhc, ftc, fsc, lec, coc, owc) g s.heap [] ls ⟨(Nat.zero_le _), (show ((-5242880 : Int) ≤ 0 ∧ (0 : Int) ≤ 5242880) ∧ ((-10485760 : Int) ≤ 1 ∧ (1 : Int) ≤ 10485760) by decide), hhc, htc, fo_0, fo_1, fa_2, fo1, fal1, fah1, fat1, fas1, fc0, fc1, fc2, fc3, fc4, (fun _ _ _ _ _ _ _ => rfl), hP, hS, (lv_sub hl [6, 5, 4, 3, 2, 1, 0] rfl)⟩
      rintro ⟨i, flc, fhc, ftc, fsc, lec, coc, owc⟩ gl59_6 H locs ls ⟨hi, hcb, hhc, htc, fo_0, fo_1, fa_2, fo1, fal1, fah1, fat1, fas1, fc0, fc1, fc2, fc3, fc4, hfrgl59_6, hP, hS, hl⟩ ih59
      refine lv_iload hx hb dX5_best_59 (lv_at hl 6 rfl) ?_
      refine lv_iload_n hx hb dX5_best_61 rfl (lv_at hl 2 rfl) ?_
      refine xi_icmp_ge (tgt := 152) hx hb (by omega) (by omega) dX5_best_62 (by decide) (fun c62_7 => ?_) (fun c62_7 => ?_)
      · have hiq : i = q ^ n1 := by omega
        rw [hiq] at hl
        have hok := hOK k1 hk1 (by rw [en1]; exact hn3) hev
        rw [en1, eu1] at hok
        refine lv_iload hx hb dX5_best_152 (lv_at hl 3 rfl) ?_
        refine lv_iconst (v := (-1)) hx hb dX5_best_154 (by decide) ?_
        refine lv_icmp_eq (tgt := 166) hx hb dX5_best_155 (by decide) (fun c155_8 => ?_) (fun c155_8 => ?_)
        · exact absurd c155_8 hok.1
        · refine lv_aload_n hx hb dX5_best_158 rfl (lv_at hl 0 rfl) ?_
          refine lv_lload hx hb dX5_best_159 (lv_at hl 4 rfl) ?_
          refine lv_lload hx hb dX5_best_161 (lv_at hl 5 rfl) ?_
          refine va_callv (va_runV (As := [.long (lZ ((bst q Wt w u1 n1 (q ^ n1)).2.1)), .long (lZ ((bst q Wt w u1 n1 (q ^ n1)).2.2))]) (rest := []) ⟨hx, hb, hml, hown, hts⟩ (mX5_hold l hD (a := (bst q Wt w u1 n1 (q ^ n1)).2.1) (b := (bst q Wt w u1 n1 (q ^ n1)).2.2) fo_0 (by rw [hiq] at hcb; omega) (by rw [hiq] at hcb; omega) hok.2) (cwV 2 hts gX5_best_X5_hold rfl rfl rfl (by decide +kernel) ⟨Nat.le_of_ble_eq_true rfl, Nat.le_of_ble_eq_true rfl⟩) ⟨xB_blind, va_recv hK hP (ci := 5) rfl (xw_is (by decide) fo_0), fun U hU hW => ⟨rfl, by rw [hU]; exact hP, va_K.moved hW.alike hK, va_Nw.warmM hW hN⟩⟩ rfl rfl hl.1 rfl (lv_room (Nat.le_of_ble_eq_true rfl)) dX5_best_163 ⟨Nat.le_of_ble_eq_true rfl, Nat.le_of_ble_eq_true rfl⟩) hS (fun _ _ h => h) (fun _ h => h) (fun g9 tZ H locs ht hvm hwg9 hB hzZ hkZ hS => ?_)
          obtain ⟨hP, -⟩ := hB
          rw [ht] at hP
          obtain ⟨fg9_n0, hcg9⟩ := hwg9
          have fg9_k0 : g9 (1) = .inr (0, [.ref (ad (2)), .int (nI (q)), .int (nI (Wt))]) := (hcg9 (1) (by decide)).trans fo_1
          have fg9_k1 : g9 (2) = .inl (cI, 4, .inl (f2)) := (hcg9 (2) (by decide)).trans fa_2
          have fg9_k2 : g9 (b1) = .inr (4, [.ref (ad (b1 + 1)), .ref (ad (b1 + 2)), .ref (ad (b1 + 3)), .ref (ad (b1 + 4)), .int (nI (n1)), .int (nI (px q u1 n1)), .long (lZ (((ownL Wt w u1 n1 : Nat) : Int)))]) := (hcg9 (b1) (by omega)).trans fo1
          have fg9_k3 : g9 (b1 + 1) = .inl (cI, 5, .inl (fl1)) := (hcg9 (b1 + 1) (by omega)).trans fal1
          have fg9_k4 : g9 (b1 + 2) = .inl (cI, 6, .inl (fh1)) := (hcg9 (b1 + 2) (by omega)).trans fah1
          have fg9_k5 : g9 (b1 + 3) = .inl (cI, 6, .inl (ft1)) := (hcg9 (b1 + 3) (by omega)).trans fat1
          have fg9_k6 : g9 (b1 + 4) = .inl (cJ, 6, .inr (.inl (fs1))) := (hcg9 (b1 + 4) (by omega)).trans fas1
          have fg9_k7 : g9 (57) = .inr (4, [.ref (ad (57 + 1)), .ref (ad (57 + 2)), .ref (ad (57 + 3)), .ref (ad (57 + 4)), .int (lec), .int (coc), .long (owc)]) := (hcg9 (57) (by decide)).trans fc0
          have fg9_k8 : g9 (57 + 1) = .inl (cI, 5, .inl (flc)) := (hcg9 (57 + 1) (by omega)).trans fc1
          have fg9_k9 : g9 (57 + 2) = .inl (cI, 6, .inl (fhc)) := (hcg9 (57 + 2) (by omega)).trans fc2
          have fg9_k10 : g9 (57 + 3) = .inl (cI, 6, .inl (ftc)) := (hcg9 (57 + 3) (by omega)).trans fc3
          have fg9_k11 : g9 (57 + 4) = .inl (cJ, 6, .inr (.inl (fsc))) := (hcg9 (57 + 4) (by omega)).trans fc4
          have hfrg9 : ∀ j : Nat, j ≠ 0 → j ≠ 57 → j ≠ 57 + 1 → j ≠ 57 + 2 → j ≠ 57 + 3 → j ≠ 57 + 4 → g9 j = g j := fun j h0 h1 h2 h3 h4 h5 => (hcg9 j h0).trans (hfrgl59_6 j h0 h1 h2 h3 h4 h5)
          refine lv_iload hx hb dX5_best_166 (lv_at hl 3 rfl) ?_
          exact W.iret (v := (bst q Wt w u1 n1 (q ^ n1)).1) hx hb hr (fun tZ ht hW => ⟨⟨_, g9, rfl, (by have hO : oBest q Wt w ln u (nI k1) = some ((bst q Wt w u1 n1 (q ^ n1)).1, Rat.divInt (bst q Wt w u1 n1 (q ^ n1)).2.1 (bst q Wt w u1 n1 (q ^ n1)).2.2) := (by unfold oBest; rw [slotW_yes hk1 (by rw [en1]; exact hp1)]; show (if _ then _ else _) = _; rw [if_pos ⟨hev, by rw [en1]; exact hn3⟩, en1, eu1]); rw [hO]; exact ⟨rfl, hC.cand fg9_n0 ⟨_, _, _, _, _, _, _, fg9_k7, fg9_k8, fg9_k9, fg9_k10, fg9_k11, hhc, htc⟩ (fun j h1 h2 => hfrg9 j (by omega) (by omega) (by omega) (by omega) (by omega) (by omega)), fun j hj => hfrg9 j (by omega) (by omega) (by omega) (by omega) (by omega) (by omega)⟩), by rw [ht]; exact hP, va_K.moved hW.alike hK, va_Nw.warmM hW hN⟩, hS.F ht⟩) hS.2.2 dX5_best_168
      · refine lv_iload hx hb dX5_best_65 (lv_at hl 6 rfl) ?_
        refine lv_aload_n hx hb dX5_best_67 rfl (lv_at hl 1 rfl) ?_
        refine xw_get hx hb hts hin4 hown hK hP (by omega) fo1 rfl 5 (by decide) hf82 rfl rfl dX5_best_68 ?_
        refine xi_icmp_eq (tgt := 146) hx hb (by omega) (px_small hq4 hn1 hu1) dX5_best_71 (by decide) (fun c71_11 => ?_) (fun c71_11 => ?_)
        · have hbs : bst q Wt w u1 n1 (i + 1) = bst q Wt w u1 n1 i := bst_own c71_11
          refine lv_iinc (v := nI (i + 1)) (lv' := [(9, .int (nI (i + 1))), (0, .ref (ad (0))), (2, .ref (ad (b1))), (3, .int (nI (q ^ n1))), (4, .int ((bst q Wt w u1 n1 i).1)), (5, .long (lZ ((bst q Wt w u1 n1 i).2.1))), (7, .long (lZ ((bst q Wt w u1 n1 i).2.2)))]) hx hb dX5_best_146 hl (k := 6) rfl (nI_add (i) 1) (by decide) rfl (fun ls hl => ?_)
          refine lv_goto (tgt := 59) hx hb dX5_best_149 (by decide) ?_
          exact ih59 (i + 1, flc, fhc, ftc, fsc, lec, coc, owc) gl59_6 H locs ls ⟨(by omega), (by rw [hbs]; exact hcb), hhc, htc, fo_0, fo_1, fa_2, fo1, fal1, fah1, fat1, fas1, fc0, fc1, fc2, fc3, fc4, hfrgl59_6, hP, hS, (by rw [hbs]; exact (lv_sub hl [1, 2, 3, 4, 5, 6, 0] rfl))⟩ (by first | omega | (dsimp only; omega))
        · refine lv_aload_n hx hb dX5_best_74 rfl (lv_at hl 0 rfl) ?_
          refine xw_get hx hb hts hin5 hown hK hP (by decide) fo_0 rfl 2 (by decide) hf23 rfl rfl dX5_best_75 ?_
          refine lv_aload_n hx hb dX5_best_78 rfl (lv_at hl 1 rfl) ?_
          refine xw_get hx hb hts hin4 hown hK hP (by omega) fo1 rfl 4 (by decide) hf79 rfl rfl dX5_best_79 ?_
          refine lv_iload hx hb dX5_best_82 (lv_at hl 6 rfl) ?_
          refine lv_aload_n hx hb dX5_best_84 rfl (lv_at hl 0 rfl) ?_
          refine xw_get hx hb hts hin5 hown hK hP (by decide) fo_0 rfl 0 (by decide) hf12 rfl rfl dX5_best_85 ?_
          have hic : i < q ^ n1 := by omega
          refine va_calli (va_runV (As := [.int (nI (n1)), .int (nI (i)), .ref (ad (1))]) (rest := []) ⟨hx, hb, hml, hown, hts⟩ (mX4_spell l hD (w := w) (b1 := 57) (n1 := n1) (cd := i) fc0 fc1 fc2 fc3 fc4 fo_1 fa_2 hq4 hq2 h2 hw hWt (by decide) (by decide) (by omega) hn1 hic hhc htc) (cwV 3 hts gX5_best_X4_spell rfl rfl rfl (by decide +kernel) ⟨Nat.le_of_ble_eq_true rfl, Nat.le_of_ble_eq_true rfl⟩) ⟨xB_blind, va_recv hK hP (ci := 4) rfl (xw_is (by decide) fc0), fun U hU hW => ⟨rfl, by rw [hU]; exact hP, va_K.moved hW.alike hK, va_Nw.warmM hW hN⟩⟩ rfl rfl hl.1 rfl (lv_room (Nat.le_of_ble_eq_true rfl)) dX5_best_88 ⟨Nat.le_of_ble_eq_true rfl, Nat.le_of_ble_eq_true rfl⟩) hS (fun _ _ h => h) (fun _ h => h) (fun r13 g12 tZ H locs ht hvm hwg12 hB hzZ hkZ hS => ?_)
          obtain ⟨hP, -⟩ := hB
          rw [ht] at hP
          obtain ⟨er13, fln, fhn, ftn, fsn, hfln, hfhn, hftn, hfsn, hh0n, ht0n, fg12_n0, fg12_n1, fg12_n2, fg12_n3, fg12_n4, hcg12⟩ := hwg12
          subst er13
          have fg12_k0 : g12 (0) = .inr (5, [.ref (ad (1)), .ref (ad (3)), .ref (ad (57)), .ref (ad (4)), .ref (ad (8)), .ref (ad (15)), .long (tp), .long (bt)]) := (hcg12 (0) (by decide) (by omega) (by omega) (by omega) (by omega)).trans fo_0
          have fg12_k1 : g12 (1) = .inr (0, [.ref (ad (2)), .int (nI (q)), .int (nI (Wt))]) := (hcg12 (1) (by decide) (by omega) (by omega) (by omega) (by omega)).trans fo_1
          have fg12_k2 : g12 (2) = .inl (cI, 4, .inl (f2)) := (hcg12 (2) (by decide) (by omega) (by omega) (by omega) (by omega)).trans fa_2
          have fg12_k3 : g12 (b1) = .inr (4, [.ref (ad (b1 + 1)), .ref (ad (b1 + 2)), .ref (ad (b1 + 3)), .ref (ad (b1 + 4)), .int (nI (n1)), .int (nI (px q u1 n1)), .long (lZ (((ownL Wt w u1 n1 : Nat) : Int)))]) := (hcg12 (b1) (by omega) (by omega) (by omega) (by omega) (by omega)).trans fo1
          have fg12_k4 : g12 (b1 + 1) = .inl (cI, 5, .inl (fl1)) := (hcg12 (b1 + 1) (by omega) (by omega) (by omega) (by omega) (by omega)).trans fal1
          have fg12_k5 : g12 (b1 + 2) = .inl (cI, 6, .inl (fh1)) := (hcg12 (b1 + 2) (by omega) (by omega) (by omega) (by omega) (by omega)).trans fah1
          have fg12_k6 : g12 (b1 + 3) = .inl (cI, 6, .inl (ft1)) := (hcg12 (b1 + 3) (by omega) (by omega) (by omega) (by omega) (by omega)).trans fat1
          have fg12_k7 : g12 (b1 + 4) = .inl (cJ, 6, .inr (.inl (fs1))) := (hcg12 (b1 + 4) (by omega) (by omega) (by omega) (by omega) (by omega)).trans fas1
          have hfrg12 : ∀ j : Nat, j ≠ 0 → j ≠ 57 → j ≠ 57 + 1 → j ≠ 57 + 2 → j ≠ 57 + 3 → j ≠ 57 + 4 → g12 j = g j := fun j h0 h1 h2 h3 h4 h5 => (hcg12 j h1 h2 h3 h4 h5).trans (hfrgl59_6 j h0 h1 h2 h3 h4 h5)
          have hdq : ∀ j, j < n1 → dg q i n1 j < q := fun j _ => dg_lt (by omega)
          have hsd : ∀ k, k ≤ n1 → shr Wt w (dg q i n1) n1 k ≤ 1024 := fun k hk => shr_le hWt (fun j hj => hw _ (Nat.lt_of_lt_of_le (hdq j hj) hq4)) hn1 hk
          have hp1e := edg_B hsf1 hsd
          have hp2e := edg_B hsd hsf1
          refine xi_if_ne (tgt := 97) hx hb (by decide) dX5_best_91 (by decide) (fun _ => ?_) (fun c0 => absurd c0 (by decide))
          refine lv_aload_n hx hb dX5_best_97 rfl (lv_at hl 1 rfl) ?_
          refine lv_aload_n hx hb dX5_best_98 rfl (lv_at hl 0 rfl) ?_
          refine xw_get hx hb hts hin5 hown hK hP (by decide) fg12_k0 rfl 2 (by decide) hf23 rfl rfl dX5_best_99 ?_
          refine vp_callSl (va_Run.run (va_runV (As := [.ref (ad (57))]) (rest := []) ⟨hx, hb, hml, hown, hts⟩ (mX4_edgeOver l (q := q) fg12_k3 fg12_k6 fg12_k7 fg12_n0 fg12_n2 fg12_n4 hq4 hb1 hn1 hu1 hft1 hfs1 (by decide) hn1 hdq hfhn hfsn) (cwV 1 hts gX5_best_X4_edgeOver rfl rfl rfl (by decide +kernel) ⟨Nat.le_of_ble_eq_true rfl, Nat.le_of_ble_eq_true rfl⟩) ⟨xB_blind, va_recv hK hP (ci := 4) rfl (xw_is (by omega) fg12_k3), fun U hU hW => ⟨rfl, by rw [hU]; exact hP, va_K.moved hW.alike hK, va_Nw.warmM hW hN⟩⟩ rfl rfl hl.1 rfl (lv_room (Nat.le_of_ble_eq_true rfl)) dX5_best_102 ⟨Nat.le_of_ble_eq_true rfl, Nat.le_of_ble_eq_true rfl⟩)) (fun r15 er15 => ?_)
          subst er15
          refine lv_lstore (lv' := [(10, .long (lZ (edg Wt w u1 n1 (dg q i n1) n1))), (0, .ref (ad (0))), (2, .ref (ad (b1))), (3, .int (nI (q ^ n1))), (4, .int ((bst q Wt w u1 n1 i).1)), (5, .long (lZ ((bst q Wt w u1 n1 i).2.1))), (7, .long (lZ ((bst q Wt w u1 n1 i).2.2))), (9, .int (nI (i)))]) hx hb dX5_best_105 hl (by decide) rfl (fun ls hl => ?_)
          refine lv_lload hx hb dX5_best_107 (lv_at hl 0 rfl) ?_
          refine lv_aload_n hx hb dX5_best_109 rfl (lv_at hl 1 rfl) ?_
          refine xw_get hx hb hts hin5 hown hK hP (by decide) fg12_k0 rfl 2 (by decide) hf23 rfl rfl dX5_best_110 ?_
          refine lv_aload_n hx hb dX5_best_113 rfl (lv_at hl 2 rfl) ?_
          refine vp_callSl (va_Run.run (va_runV (As := [.ref (ad (b1))]) (rest := [.long (lZ (edg Wt w u1 n1 (dg q i n1) n1))]) ⟨hx, hb, hml, hown, hts⟩ (mX4_edgeOver l (q := q) fg12_n0 fg12_n3 fg12_n4 fg12_k3 fg12_k5 fg12_k7 hq4 (by decide) hn1 hdq hftn hfsn hb1 hn1 hu1 hfh1 hfs1) (cwV 1 hts gX5_best_X4_edgeOver rfl rfl rfl (by decide +kernel) ⟨Nat.le_of_ble_eq_true rfl, Nat.le_of_ble_eq_true rfl⟩) ⟨xB_blind, va_recv hK hP (ci := 4) rfl (xw_is (by decide) fg12_n0), fun U hU hW => ⟨rfl, by rw [hU]; exact hP, va_K.moved hW.alike hK, va_Nw.warmM hW hN⟩⟩ rfl rfl hl.1 rfl (lv_room (Nat.le_of_ble_eq_true rfl)) dX5_best_114 ⟨Nat.le_of_ble_eq_true rfl, Nat.le_of_ble_eq_true rfl⟩)) (fun r16 er16 => ?_)
          subst er16
          refine xl_add hx hb dX5_best_117 ?_
          refine lv_lstore (lv' := [(12, .long (lZ ((edg Wt w u1 n1 (dg q i n1) n1) + (edg Wt w (dg q i n1) n1 u1 n1)))), (10, .long (lZ (edg Wt w u1 n1 (dg q i n1) n1))), (0, .ref (ad (0))), (2, .ref (ad (b1))), (3, .int (nI (q ^ n1))), (4, .int ((bst q Wt w u1 n1 i).1)), (5, .long (lZ ((bst q Wt w u1 n1 i).2.1))), (7, .long (lZ ((bst q Wt w u1 n1 i).2.2))), (9, .int (nI (i)))]) hx hb dX5_best_118 hl (by decide) rfl (fun ls hl => ?_)
          refine lv_lload hx hb dX5_best_120 (lv_at hl 1 rfl) ?_
          refine lv_lload hx hb dX5_best_122 (lv_at hl 7 rfl) ?_
          refine xl_mul hx hb dX5_best_124 ?_
          refine lv_lload hx hb dX5_best_125 (lv_at hl 6 rfl) ?_
          refine lv_lload hx hb dX5_best_127 (lv_at hl 0 rfl) ?_
          refine xl_mul hx hb dX5_best_129 ?_
          refine xl_cmp_le (tgt := 146) hx hb (by have h9 := mulB hp1e hcb.2; omega) (by have h9 := mulB hcb.1 (show -10485760 ≤ edg Wt w u1 n1 (dg q i n1) n1 + edg Wt w (dg q i n1) n1 u1 n1 ∧ _ ≤ 10485760 by omega); omega) dX5_best_130 dX5_best_131 (by decide) (fun c130_17 => ?_) (fun c130_17 => ?_)
          · have hbs : bst q Wt w u1 n1 (i + 1) = bst q Wt w u1 n1 i := bst_n c71_11 (by rw [Int.not_lt]; exact c130_17)
            refine lv_iinc (v := nI (i + 1)) (lv' := [(9, .int (nI (i + 1))), (12, .long (lZ ((edg Wt w u1 n1 (dg q i n1) n1) + (edg Wt w (dg q i n1) n1 u1 n1)))), (10, .long (lZ (edg Wt w u1 n1 (dg q i n1) n1))), (0, .ref (ad (0))), (2, .ref (ad (b1))), (3, .int (nI (q ^ n1))), (4, .int ((bst q Wt w u1 n1 i).1)), (5, .long (lZ ((bst q Wt w u1 n1 i).2.1))), (7, .long (lZ ((bst q Wt w u1 n1 i).2.2)))]) hx hb dX5_best_146 hl (k := 8) rfl (nI_add (i) 1) (by decide) rfl (fun ls hl => ?_)
            refine lv_goto (tgt := 59) hx hb dX5_best_149 (by decide) ?_
            exact ih59 (i + 1, fln, fhn, ftn, fsn, _, _, _) g12 H locs ls ⟨(by omega), (by rw [hbs]; exact hcb), hh0n, ht0n, fg12_k0, fg12_k1, fg12_k2, fg12_k3, fg12_k4, fg12_k5, fg12_k6, fg12_k7, fg12_n0, fg12_n1, fg12_n2, fg12_n3, fg12_n4, hfrg12, hP, hS, (by rw [hbs]; exact (lv_sub hl [3, 4, 5, 6, 7, 8, 0] rfl))⟩ (by first | omega | (dsimp only; omega))
          · have hbs : bst q Wt w u1 n1 (i + 1) = (nI i, edg Wt w u1 n1 (dg q i n1) n1, edg Wt w u1 n1 (dg q i n1) n1 + edg Wt w (dg q i n1) n1 u1 n1) := bst_y c71_11 c130_17
            refine lv_iload hx hb dX5_best_134 (lv_at hl 8 rfl) ?_
            refine lv_istore (lv' := [(4, .int (nI (i))), (12, .long (lZ ((edg Wt w u1 n1 (dg q i n1) n1) + (edg Wt w (dg q i n1) n1 u1 n1)))), (10, .long (lZ (edg Wt w u1 n1 (dg q i n1) n1))), (0, .ref (ad (0))), (2, .ref (ad (b1))), (3, .int (nI (q ^ n1))), (5, .long (lZ ((bst q Wt w u1 n1 i).2.1))), (7, .long (lZ ((bst q Wt w u1 n1 i).2.2))), (9, .int (nI (i)))]) hx hb dX5_best_136 hl (by decide) rfl (fun ls hl => ?_)
            refine lv_lload hx hb dX5_best_138 (lv_at hl 2 rfl) ?_
            refine lv_lstore (lv' := [(5, .long (lZ (edg Wt w u1 n1 (dg q i n1) n1))), (4, .int (nI (i))), (12, .long (lZ ((edg Wt w u1 n1 (dg q i n1) n1) + (edg Wt w (dg q i n1) n1 u1 n1)))), (10, .long (lZ (edg Wt w u1 n1 (dg q i n1) n1))), (0, .ref (ad (0))), (2, .ref (ad (b1))), (3, .int (nI (q ^ n1))), (7, .long (lZ ((bst q Wt w u1 n1 i).2.2))), (9, .int (nI (i)))]) hx hb dX5_best_140 hl (by decide) rfl (fun ls hl => ?_)
            refine lv_lload hx hb dX5_best_142 (lv_at hl 2 rfl) ?_
            refine lv_lstore (lv' := [(7, .long (lZ ((edg Wt w u1 n1 (dg q i n1) n1) + (edg Wt w (dg q i n1) n1 u1 n1)))), (5, .long (lZ (edg Wt w u1 n1 (dg q i n1) n1))), (4, .int (nI (i))), (12, .long (lZ ((edg Wt w u1 n1 (dg q i n1) n1) + (edg Wt w (dg q i n1) n1 u1 n1)))), (10, .long (lZ (edg Wt w u1 n1 (dg q i n1) n1))), (0, .ref (ad (0))), (2, .ref (ad (b1))), (3, .int (nI (q ^ n1))), (9, .int (nI (i)))]) hx hb dX5_best_144 hl (by decide) rfl (fun ls hl => ?_)
            refine lv_iinc (v := nI (i + 1)) (lv' := [(9, .int (nI (i + 1))), (7, .long (lZ ((edg Wt w u1 n1 (dg q i n1) n1) + (edg Wt w (dg q i n1) n1 u1 n1)))), (5, .long (lZ (edg Wt w u1 n1 (dg q i n1) n1))), (4, .int (nI (i))), (12, .long (lZ ((edg Wt w u1 n1 (dg q i n1) n1) + (edg Wt w (dg q i n1) n1 u1 n1)))), (10, .long (lZ (edg Wt w u1 n1 (dg q i n1) n1))), (0, .ref (ad (0))), (2, .ref (ad (b1))), (3, .int (nI (q ^ n1)))]) hx hb dX5_best_146 hl (k := 8) rfl (nI_add (i) 1) (by decide) rfl (fun ls hl => ?_)
            refine lv_goto (tgt := 59) hx hb dX5_best_149 (by decide) ?_
            exact ih59 (i + 1, fln, fhn, ftn, fsn, _, _, _) g12 H locs ls ⟨(by omega), (by rw [hbs]; exact ⟨hp1e, (show -10485760 ≤ edg Wt w u1 n1 (dg q i n1) n1 + edg Wt w (dg q i n1) n1 u1 n1 ∧ edg Wt w u1 n1 (dg q i n1) n1 + edg Wt w (dg q i n1) n1 u1 n1 ≤ 10485760 by omega)⟩), hh0n, ht0n, fg12_k0, fg12_k1, fg12_k2, fg12_k3, fg12_k4, fg12_k5, fg12_k6, fg12_k7, fg12_n0, fg12_n1, fg12_n2, fg12_n3, fg12_n4, hfrg12, hP, hS, (by rw [hbs]; exact (lv_sub hl [6, 7, 8, 3, 2, 1, 0] rfl))⟩ (by first | omega | (dsimp only; omega))
    · exact absurd c25_4 (by omega)

set_option maxHeartbeats 4000000 in
set_option maxRecDepth 100000 in
/-- best, none -/
theorem mX5_best_not (l : Launch) {D : va_G} {cI cJ cZ cW : ClassId} {ad : Nat → Nat} {A : Nat → Prop} (hD : ∀ g, va_D A (xw 81 ad g)) {g : Nat → va_E} {q Wt : Nat} {w : Nat → Nat} {ln : Nat → Nat} {u : Nat → Nat → Nat} {T : Nat} {t : Nat → Nat} {tp bt : Int64} {k1 b1 n1 ol1 : Nat} {u1 sf1 : Nat → Nat}  (hC : ClsI cI cJ cZ cW ad g q Wt w ln u T t tp bt) (hs : SrcI q Wt w ln u T t) (hk1 : k1 < 8) (eb1 : 17 + 5 * k1 = b1) (en1 : ln k1 = n1) (eu1 : u k1 = u1) (es1 : shr Wt w u1 n1 = sf1) (eo1 : ownL Wt w u1 n1 = ol1) (hp1 : 0 < n1) (hno : ¬ (∀ j, j < q → w j = w 0) ∨ n1 < 3) : Met l yX5_best wsX5_best ({ frames := 3, cells := 0, slots := 0, locals := 75 }) (va_Pc [.ref (ad (0)), .int (nI (k1))] (xB D (xT cI cJ cZ cW) ad g)) (va_Qi (fun r g2 => r = (match oBest q Wt w ln u (nI k1) with | some p => p.1 | none => -1) ∧ ClsI cI cJ cZ cW ad g2 q Wt w ln u T t (hTp ((oBest q Wt w ln u (nI k1)).map Prod.snd) tp) (hBt ((oBest q Wt w ln u (nI k1)).map Prod.snd) bt) ∧ ∀ j : Nat, 62 ≤ j → g2 j = g j) (xB D (xT cI cJ cZ cW) ad) A) 0 0 A := by
  refine Met.ofW (cc := cX5_best) (maxL := 14) (ret := (some .int)) (by decide) rfl ?_
  intro p e s m args below meth c s₁ B hml hv
  obtain ⟨rfl, hP, hK, hN⟩ := hv
  have hx := B.exec
  have hb := B.bytes
  have hr := B.returns
  have hts := atoms_spec (ws := wsX5_best) B.pre
  have hown : s.vm.findClass RX5 = some m.cls := findClass_of_methodNamed B.named
  have hlocks := B.notSynchronized
  have hS : va_S A s.heap s.heap [] := va_S.rf
  have hin4 : ∀ w ∈ wsX40, w ∈ wsX5_best := by decide +kernel
  have hin5 : ∀ w ∈ wsX50, w ∈ wsX5_best := by decide +kernel
  have hf12 := hts (.fieldLink RX5 12 "LettersByLot" "lot" "LLettersByLot$Lot;") (by decide +kernel)
  have hf79 := hts (.fieldLink RX5 79 "LettersByLot$Word" "length" "I") (by decide +kernel)
  have hl := lv_entry ([.ref (ad (0)), .int (nI (k1))]) (n := 14) (Nat.le_of_ble_eq_true rfl)
  rw [lg_entry_eq]
  generalize (lg_sl ([.ref (ad (0)), .int (nI (k1))]) ++ List.replicate (14 - (lg_sl ([.ref (ad (0)), .int (nI (k1))])).length) Slot.unset).toArray = ls at hl ⊢
  have hl : lv_has ls 14 [(0, .ref (ad (0))), (1, .int (nI (k1)))] := hl
  obtain ⟨hq2, hq4, hw1, hw0, hWs, hWt, hw, hln, hul, hT, ht⟩ := hs
  obtain ⟨fo_0, ⟨f2, fo_1, fa_2, h2⟩, ⟨f3, fa_3, h3⟩, hRace, hMach, ⟨f16, fo15, fa16, h16⟩, hwd, hcand⟩ := id hC
  have hWp : 1 ≤ Wt ∧ Wt ≤ 4 := by have h8 := hw1 0 (by omega); have h9 := wsum_mono (w := w) (show 1 ≤ q by omega); have h7 : wsum w 1 = 0 + w 0 := rfl; omega
  obtain ⟨f5r, f6r, f7r, szr, fo4, fa5, fa6, fa7⟩ := hRace
  obtain ⟨fl1, fh1, ft1, fs1, fo1, fal1, fah1, fat1, fas1, hfl1, hfh1, hft1, hfs1⟩ := cw_pos hwd hk1 eb1 en1 eu1 es1 eo1 hp1
  have hb1 : b1 + 4 < 81 := by omega
  have hn1 : n1 ≤ 5 := en1 ▸ hln k1
  have hu1 : ∀ j, j < n1 → u1 j < q := fun j hj => by rw [← eu1]; exact hul k1 j (by rw [en1]; exact hj)
  have hwu1 : ∀ j, j < n1 → w (u1 j) ≤ 4 := fun j hj => hw _ (Nat.lt_of_lt_of_le (hu1 j hj) hq4)
  have hsf1 : ∀ k, k ≤ n1 → sf1 k ≤ 1024 := fun k hk => es1 ▸ shr_le hWt hwu1 hn1 hk
  have hs01 : 1 ≤ sf1 0 := es1 ▸ shr_0 (fun j hj => hw1 _ (hu1 j hj))
  have hol1 : ol1 ≤ 5120 := by rw [← eo1]; show lapS (shr Wt w u1 n1) u1 n1 u1 n1 5 ≤ 5120; rw [es1]; exact lapS_le hsf1 5
  have hb171 : 17 ≤ b1 := by omega
  subst es1
  subst eo1
  obtain ⟨flc, fhc, ftc, fsc, lec, coc, owc, fc0, fc1, fc2, fc3, fc4, hhc, htc⟩ := hcand
  have hp5 : q ^ n1 ≤ 1024 := pow_le5 hq4 hn1
  refine lv_aload_n hx hb dX5_best_0 rfl (lv_at hl 0 rfl) ?_
  refine lv_iload_n hx hb dX5_best_1 rfl (lv_at hl 1 rfl) ?_
  refine va_csq (va_Run.run (va_runV (As := [.int (nI (k1))]) (rest := []) ⟨hx, hb, hml, hown, hts⟩ (mX5_wordIn_yes l fo_0 fa_3 fo1 h3 hk1 eb1 hp1 hn1) (cwV 1 hts gX5_best_X5_wordIn rfl rfl rfl (by decide +kernel) ⟨Nat.le_of_ble_eq_true rfl, Nat.le_of_ble_eq_true rfl⟩) ⟨xB_blind, va_recv hK hP (ci := 5) rfl (xw_is (by decide) fo_0), fun U hU hW => ⟨rfl, by rw [hU]; exact hP, va_K.moved hW.alike hK, va_Nw.warmM hW hN⟩⟩ rfl rfl hl.1 rfl (lv_room (Nat.le_of_ble_eq_true rfl)) dX5_best_2 ⟨Nat.le_of_ble_eq_true rfl, Nat.le_of_ble_eq_true rfl⟩)) (fun r1 er1 => ?_)
  subst er1
  refine W.eq (g2 := F0 m 5 ls (.ref (ad (b1)) :: [])) rfl ?_
  refine lv_astore_n (lv' := [(2, .ref (ad (b1))), (0, .ref (ad (0))), (1, .int (nI (k1)))]) hx hb dX5_best_5 rfl hl (by decide) rfl (fun ls hl => ?_)
  refine lv_aload_n hx hb dX5_best_6 rfl (lv_at hl 0 rfl) ?_
  refine lv_ifnull hx hb dX5_best_7 ?_
  refine lv_aload_n hx hb dX5_best_10 rfl (lv_at hl 1 rfl) ?_
  refine xw_get hx hb hts hin5 hown hK hP (by decide) fo_0 rfl 0 (by decide) hf12 rfl rfl dX5_best_11 ?_
  refine vp_callSi (va_Run.run (va_runV (As := []) (rest := []) ⟨hx, hb, hml, hown, hts⟩ (mX0_isEven l fo_1 fa_2 hq4 hq2 h2 hw) (cwV 0 hts gX5_best_X0_isEven rfl rfl rfl (by decide +kernel) ⟨Nat.le_of_ble_eq_true rfl, Nat.le_of_ble_eq_true rfl⟩) ⟨xB_blind, va_recv hK hP (ci := 0) rfl (xw_is (by decide) fo_1), fun U hU hW => ⟨rfl, by rw [hU]; exact hP, va_K.moved hW.alike hK, va_Nw.warmM hW hN⟩⟩ rfl rfl hl.1 rfl (lv_room (Nat.le_of_ble_eq_true rfl)) dX5_best_14 ⟨Nat.le_of_ble_eq_true rfl, Nat.le_of_ble_eq_true rfl⟩)) (fun r2 er2 => ?_)
  subst er2
  refine xb_if_eq (tgt := 28) hx hb dX5_best_17 (by decide) (fun c17_3 => ?_) (fun c17_3 => ?_)
  · refine lv_iconst (v := (-1)) hx hb dX5_best_28 (by decide) ?_
    exact W.iret (v := (-1)) hx hb hr (fun tZ ht hW => ⟨⟨_, g, rfl, (by have hO : oBest q Wt w ln u (nI k1) = none := (by unfold oBest; rw [slotW_yes hk1 (by rw [en1]; exact hp1)]; exact if_neg (fun h => hno.elim (fun h2 => h2 h.1) (fun h2 => by have := h.2; omega))); rw [hO]; exact ⟨rfl, hC, fun _ _ => rfl⟩), by rw [ht]; exact hP, va_K.moved hW.alike hK, va_Nw.warmM hW hN⟩, hS.F ht⟩) hS.2.2 dX5_best_29
  · refine lv_aload_n hx hb dX5_best_20 rfl (lv_at hl 0 rfl) ?_
    refine xw_get hx hb hts hin4 hown hK hP (by omega) fo1 rfl 4 (by decide) hf79 rfl rfl dX5_best_21 ?_
    refine lv_iconst (v := nI (3)) hx hb dX5_best_24 (by decide) ?_
    refine xi_icmp_ge (tgt := 30) hx hb (by omega) (by decide) dX5_best_25 (by decide) (fun c25_4 => ?_) (fun c25_4 => ?_)
    · exact absurd hno (by rintro (h | h); exact h c17_3; omega)
    · refine lv_iconst (v := (-1)) hx hb dX5_best_28 (by decide) ?_
      exact W.iret (v := (-1)) hx hb hr (fun tZ ht hW => ⟨⟨_, g, rfl, (by have hO : oBest q Wt w ln u (nI k1) = none := (by unfold oBest; rw [slotW_yes hk1 (by rw [en1]; exact hp1)]; exact if_neg (fun h => hno.elim (fun h2 => h2 h.1) (fun h2 => by have := h.2; omega))); rw [hO]; exact ⟨rfl, hC, fun _ _ => rfl⟩), by rw [ht]; exact hP, va_K.moved hW.alike hK, va_Nw.warmM hW hN⟩, hS.F ht⟩) hS.2.2 dX5_best_29

set_option maxHeartbeats 4000000 in
set_option maxRecDepth 100000 in
/-- best, no WORD -/
theorem mX5_best_no (l : Launch) {D : va_G} {cI cJ cZ cW : ClassId} {ad : Nat → Nat} {A : Nat → Prop} (hD : ∀ g, va_D A (xw 81 ad g)) {g : Nat → va_E} {q Wt : Nat} {w : Nat → Nat} {ln : Nat → Nat} {u : Nat → Nat → Nat} {T : Nat} {t : Nat → Nat} {tp bt : Int64} {xa : Int32}  (hC : ClsI cI cJ cZ cW ad g q Wt w ln u T t tp bt) (hs : SrcI q Wt w ln u T t) (hxa : noW ln xa) : Met l yX5_best wsX5_best ({ frames := 3, cells := 0, slots := 0, locals := 75 }) (va_Pc [.ref (ad (0)), .int (xa)] (xB D (xT cI cJ cZ cW) ad g)) (va_Qi (fun r g2 => r = (match oBest q Wt w ln u (xa) with | some p => p.1 | none => -1) ∧ ClsI cI cJ cZ cW ad g2 q Wt w ln u T t (hTp ((oBest q Wt w ln u (xa)).map Prod.snd) tp) (hBt ((oBest q Wt w ln u (xa)).map Prod.snd) bt) ∧ ∀ j : Nat, 62 ≤ j → g2 j = g j) (xB D (xT cI cJ cZ cW) ad) A) 0 0 A := by
  refine Met.ofW (cc := cX5_best) (maxL := 14) (ret := (some .int)) (by decide) rfl ?_
  intro p e s m args below meth c s₁ B hml hv
  obtain ⟨rfl, hP, hK, hN⟩ := hv
  have hx := B.exec
  have hb := B.bytes
  have hr := B.returns
  have hts := atoms_spec (ws := wsX5_best) B.pre
  have hown : s.vm.findClass RX5 = some m.cls := findClass_of_methodNamed B.named
  have hlocks := B.notSynchronized
  have hS : va_S A s.heap s.heap [] := va_S.rf
  have hl := lv_entry ([.ref (ad (0)), .int (xa)]) (n := 14) (Nat.le_of_ble_eq_true rfl)
  rw [lg_entry_eq]
  generalize (lg_sl ([.ref (ad (0)), .int (xa)]) ++ List.replicate (14 - (lg_sl ([.ref (ad (0)), .int (xa)])).length) Slot.unset).toArray = ls at hl ⊢
  have hl : lv_has ls 14 [(0, .ref (ad (0))), (1, .int (xa))] := hl
  obtain ⟨hq2, hq4, hw1, hw0, hWs, hWt, hw, hln, hul, hT, ht⟩ := hs
  obtain ⟨fo_0, ⟨f2, fo_1, fa_2, h2⟩, ⟨f3, fa_3, h3⟩, hRace, hMach, ⟨f16, fo15, fa16, h16⟩, hwd, hcand⟩ := id hC
  have hWp : 1 ≤ Wt ∧ Wt ≤ 4 := by have h8 := hw1 0 (by omega); have h9 := wsum_mono (w := w) (show 1 ≤ q by omega); have h7 : wsum w 1 = 0 + w 0 := rfl; omega
  obtain ⟨f5r, f6r, f7r, szr, fo4, fa5, fa6, fa7⟩ := hRace
  refine lv_aload_n hx hb dX5_best_0 rfl (lv_at hl 0 rfl) ?_
  refine lv_iload_n hx hb dX5_best_1 rfl (lv_at hl 1 rfl) ?_
  refine va_csq (va_Run.run (va_runV (As := [.int (xa)]) (rest := []) ⟨hx, hb, hml, hown, hts⟩ (mX5_wordIn_no l fo_0 fa_3 h3 hwd hxa) (cwV 1 hts gX5_best_X5_wordIn rfl rfl rfl (by decide +kernel) ⟨Nat.le_of_ble_eq_true rfl, Nat.le_of_ble_eq_true rfl⟩) ⟨xB_blind, va_recv hK hP (ci := 5) rfl (xw_is (by decide) fo_0), fun U hU hW => ⟨rfl, by rw [hU]; exact hP, va_K.moved hW.alike hK, va_Nw.warmM hW hN⟩⟩ rfl rfl hl.1 rfl (lv_room (Nat.le_of_ble_eq_true rfl)) dX5_best_2 ⟨Nat.le_of_ble_eq_true rfl, Nat.le_of_ble_eq_true rfl⟩)) (fun r1 er1 => ?_)
  subst er1
  refine W.eq (g2 := F0 m 5 ls (.null :: [])) rfl ?_
  refine lv_astore_nN (lv' := [(2, .null), (0, .ref (ad (0))), (1, .int (xa))]) hx hb dX5_best_5 rfl hl (by decide) rfl (fun ls hl => ?_)
  refine lv_aload_nN hx hb dX5_best_6 rfl (lv_at hl 0 rfl) ?_
  refine lv_ifnullN (tgt := 28) hx hb dX5_best_7 (by decide) ?_
  refine lv_iconst (v := (-1)) hx hb dX5_best_28 (by decide) ?_
  exact W.iret (v := (-1)) hx hb hr (fun tZ ht hW => ⟨⟨_, g, rfl, (by have hO : oBest q Wt w ln u xa = none := (by unfold oBest; rw [slotW_no hxa]); rw [hO]; exact ⟨rfl, hC, fun _ _ => rfl⟩), by rw [ht]; exact hP, va_K.moved hW.alike hK, va_Nw.warmM hW hN⟩, hS.F ht⟩) hS.2.2 dX5_best_29
