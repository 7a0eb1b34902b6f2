set_option maxHeartbeats 4000000 in
set_option maxRecDepth 100000 in
/-- wordIn, a WORD -/
theorem mX5_wordIn_yes (l : Launch) {D : va_G} {cI cJ cZ cW : ClassId} {ad : Nat → Nat} {g : Nat → va_E} {k1 b1 n1 : Nat} {co1 : Int32} {ow1 tp bt : Int64} {f3 : Nat → Option Nat}  (fo_0 : g (0) = .inr (5, [.ref (ad (1)), .ref (ad (3)), .ref (ad (57)), .ref (ad (4)), .ref (ad (8)), .ref (ad (15)), .long (tp), .long (bt)])) (fa_3 : g (3) = .inl (cW, 8, .inr (.inr (.inr (.inr (f3)))))) (fo1 : g (b1) = .inr (4, [.ref (ad (b1 + 1)), .ref (ad (b1 + 2)), .ref (ad (b1 + 3)), .ref (ad (b1 + 4)), .int (nI (n1)), .int (co1), .long (ow1)])) (h3 : ∀ k, k < 8 → f3 k = some (ad (17 + 5 * k))) (hk1 : k1 < 8) (eb1 : 17 + 5 * k1 = b1) (hp1 : 0 < n1) (hn1 : n1 ≤ 5) : Met l yX5_wordIn wsX5_wordIn ({ frames := 1, cells := 0, slots := 0, locals := 20 }) (va_Pc [.ref (ad (0)), .int (nI (k1))] (xB D (xT cI cJ cZ cW) ad g)) (va_Sq (fun r => r = some (ad b1))) 0 0 (fun _ => False) := by
  refine Met.ofW (cc := cX5_wordIn) (maxL := 2) (ret := (some (.object "LettersByLot$Word"))) (by decide) rfl ?_
  intro p e s m args below meth c s₁ B hml hv
  obtain ⟨rfl, hP, hK, hN⟩ := hv
  have hx := B.exec
  have hb := B.bytes
  have hr := B.returns
  have hts := atoms_spec (ws := wsX5_wordIn) B.pre
  have hown : s.vm.findClass RX5 = some m.cls := findClass_of_methodNamed B.named
  have hlocks := B.notSynchronized
  have hin4 : ∀ w ∈ wsX40, w ∈ wsX5_wordIn := by decide +kernel
  have hin5 : ∀ w ∈ wsX50, w ∈ wsX5_wordIn := by decide +kernel
  have hf18 := hts (.fieldLink RX5 18 "LettersByLot" "words" "[LLettersByLot$Word;") (by decide +kernel)
  have hf79 := hts (.fieldLink RX5 79 "LettersByLot$Word" "length" "I") (by decide +kernel)
  have hl := lv_entry ([.ref (ad (0)), .int (nI (k1))]) (n := 2) (Nat.le_of_ble_eq_true rfl)
  rw [lg_entry_eq]
  generalize (lg_sl ([.ref (ad (0)), .int (nI (k1))]) ++ List.replicate (2 - (lg_sl ([.ref (ad (0)), .int (nI (k1))])).length) Slot.unset).toArray = ls at hl ⊢
  have hl : lv_has ls 2 [(0, .ref (ad (0))), (1, .int (nI (k1)))] := hl
  refine lv_iload_n hx hb dX5_wordIn_0 rfl (lv_at hl 1 rfl) ?_
  refine vp_callSi (va_Run.run (va_runS (As := [.int (nI (k1))]) (rest := []) ⟨hx, hb, hml, hown, hts⟩ (mX5_isSlot_in l (by omega)) (va_cwS 1 hts gX5_wordIn_X5_isSlot rfl rfl rfl (by decide +kernel) ⟨Nat.le_of_ble_eq_true rfl, Nat.le_of_ble_eq_true rfl⟩) ⟨xB_blind, fun U hU hW => ⟨rfl, by rw [hU]; exact hP, va_K.moved hW.alike hK, va_Nw.warmM hW hN⟩⟩ rfl rfl hl.1 rfl (lv_room (Nat.le_of_ble_eq_true rfl)) dX5_wordIn_1 ⟨Nat.le_of_ble_eq_true rfl, Nat.le_of_ble_eq_true rfl⟩)) (fun r1 er1 => ?_)
  subst er1
  refine xi_if_eq (tgt := 28) hx hb (by decide) dX5_wordIn_4 (by decide) (fun c0 => absurd c0 (by decide)) (fun _ => ?_)
  refine lv_aload_n hx hb dX5_wordIn_7 rfl (lv_at hl 0 rfl) ?_
  refine xw_get hx hb hts hin5 hown hK hP (by decide) fo_0 rfl 1 (by decide) hf18 rfl rfl dX5_wordIn_8 ?_
  refine lv_iload_n hx hb dX5_wordIn_11 rfl (lv_at hl 1 rfl) ?_
  refine xw_aald hx hb hK hP (by decide) 3 fa_3 rfl (by omega) (by decide) (v := .ref (ad (b1))) (by rw [h3 k1 hk1, eb1]; rfl) dX5_wordIn_12 ?_
  refine xw_get hx hb hts hin4 hown hK hP (by omega) fo1 rfl 4 (by decide) hf79 rfl rfl dX5_wordIn_13 ?_
  refine xi_if_le (tgt := 28) hx hb (by omega) dX5_wordIn_16 (by decide) (fun c16_3 => ?_) (fun c16_3 => ?_)
  · exact absurd c16_3 (by omega)
  · refine lv_aload_n hx hb dX5_wordIn_19 rfl (lv_at hl 0 rfl) ?_
    refine xw_get hx hb hts hin5 hown hK hP (by decide) fo_0 rfl 1 (by decide) hf18 rfl rfl dX5_wordIn_20 ?_
    refine lv_iload_n hx hb dX5_wordIn_23 rfl (lv_at hl 1 rfl) ?_
    refine xw_aald hx hb hK hP (by decide) 3 fa_3 rfl (by omega) (by decide) (v := .ref (ad (b1))) (by rw [h3 k1 hk1, eb1]; rfl) dX5_wordIn_24 ?_
    refine lv_goto (tgt := 29) hx hb dX5_wordIn_25 (by decide) ?_
    exact W.aret (v := .ref (ad (b1))) hx hb hr (Or.inl ⟨_, rfl⟩) (Or.inr ⟨_, rfl⟩) (fun tZ ht _ => ⟨some (ad (b1)), rfl, rfl, ht⟩) (fun q hq => by cases hq) dX5_wordIn_29

set_option maxHeartbeats 4000000 in
set_option maxRecDepth 100000 in
/-- wordIn, no WORD there -/
theorem mX5_wordIn_abs (l : Launch) {D : va_G} {cI cJ cZ cW : ClassId} {ad : Nat → Nat} {g : Nat → va_E} {k1 b1 n1 : Nat} {co1 : Int32} {ow1 tp bt : Int64} {f3 : Nat → Option Nat}  (fo_0 : g (0) = .inr (5, [.ref (ad (1)), .ref (ad (3)), .ref (ad (57)), .ref (ad (4)), .ref (ad (8)), .ref (ad (15)), .long (tp), .long (bt)])) (fa_3 : g (3) = .inl (cW, 8, .inr (.inr (.inr (.inr (f3)))))) (fo1 : g (b1) = .inr (4, [.ref (ad (b1 + 1)), .ref (ad (b1 + 2)), .ref (ad (b1 + 3)), .ref (ad (b1 + 4)), .int (nI (0)), .int (co1), .long (ow1)])) (h3 : ∀ k, k < 8 → f3 k = some (ad (17 + 5 * k))) (hk1 : k1 < 8) (eb1 : 17 + 5 * k1 = b1) : Met l yX5_wordIn wsX5_wordIn ({ frames := 1, cells := 0, slots := 0, locals := 20 }) (va_Pc [.ref (ad (0)), .int (nI (k1))] (xB D (xT cI cJ cZ cW) ad g)) (va_Sq (fun r => r = none)) 0 0 (fun _ => False) := by
  refine Met.ofW (cc := cX5_wordIn) (maxL := 2) (ret := (some (.object "LettersByLot$Word"))) (by decide) rfl ?_
  intro p e s m args below meth c s₁ B hml hv
  obtain ⟨rfl, hP, hK, hN⟩ := hv
  have hx := B.exec
  have hb := B.bytes
  have hr := B.returns
  have hts := atoms_spec (ws := wsX5_wordIn) B.pre
  have hown : s.vm.findClass RX5 = some m.cls := findClass_of_methodNamed B.named
  have hlocks := B.notSynchronized
  have hin4 : ∀ w ∈ wsX40, w ∈ wsX5_wordIn := by decide +kernel
  have hin5 : ∀ w ∈ wsX50, w ∈ wsX5_wordIn := by decide +kernel
  have hf18 := hts (.fieldLink RX5 18 "LettersByLot" "words" "[LLettersByLot$Word;") (by decide +kernel)
  have hf79 := hts (.fieldLink RX5 79 "LettersByLot$Word" "length" "I") (by decide +kernel)
  have hl := lv_entry ([.ref (ad (0)), .int (nI (k1))]) (n := 2) (Nat.le_of_ble_eq_true rfl)
  rw [lg_entry_eq]
  generalize (lg_sl ([.ref (ad (0)), .int (nI (k1))]) ++ List.replicate (2 - (lg_sl ([.ref (ad (0)), .int (nI (k1))])).length) Slot.unset).toArray = ls at hl ⊢
  have hl : lv_has ls 2 [(0, .ref (ad (0))), (1, .int (nI (k1)))] := hl
  refine lv_iload_n hx hb dX5_wordIn_0 rfl (lv_at hl 1 rfl) ?_
  refine vp_callSi (va_Run.run (va_runS (As := [.int (nI (k1))]) (rest := []) ⟨hx, hb, hml, hown, hts⟩ (mX5_isSlot_in l (by omega)) (va_cwS 1 hts gX5_wordIn_X5_isSlot rfl rfl rfl (by decide +kernel) ⟨Nat.le_of_ble_eq_true rfl, Nat.le_of_ble_eq_true rfl⟩) ⟨xB_blind, fun U hU hW => ⟨rfl, by rw [hU]; exact hP, va_K.moved hW.alike hK, va_Nw.warmM hW hN⟩⟩ rfl rfl hl.1 rfl (lv_room (Nat.le_of_ble_eq_true rfl)) dX5_wordIn_1 ⟨Nat.le_of_ble_eq_true rfl, Nat.le_of_ble_eq_true rfl⟩)) (fun r1 er1 => ?_)
  subst er1
  refine xi_if_eq (tgt := 28) hx hb (by decide) dX5_wordIn_4 (by decide) (fun c0 => absurd c0 (by decide)) (fun _ => ?_)
  refine lv_aload_n hx hb dX5_wordIn_7 rfl (lv_at hl 0 rfl) ?_
  refine xw_get hx hb hts hin5 hown hK hP (by decide) fo_0 rfl 1 (by decide) hf18 rfl rfl dX5_wordIn_8 ?_
  refine lv_iload_n hx hb dX5_wordIn_11 rfl (lv_at hl 1 rfl) ?_
  refine xw_aald hx hb hK hP (by decide) 3 fa_3 rfl (by omega) (by decide) (v := .ref (ad (b1))) (by rw [h3 k1 hk1, eb1]; rfl) dX5_wordIn_12 ?_
  refine xw_get hx hb hts hin4 hown hK hP (by omega) fo1 rfl 4 (by decide) hf79 rfl rfl dX5_wordIn_13 ?_
  refine xi_if_le (tgt := 28) hx hb (by decide) dX5_wordIn_16 (by decide) (fun _ => ?_) (fun c0 => absurd c0 (by decide))
  refine lv_null hx hb dX5_wordIn_28 ?_
  exact W.aret (v := .null) hx hb hr (Or.inl ⟨_, rfl⟩) (Or.inl rfl) (fun tZ ht _ => ⟨none, rfl, rfl, ht⟩) (fun q hq => by cases hq) dX5_wordIn_29

set_option maxHeartbeats 4000000 in
set_option maxRecDepth 100000 in
/-- wordIn, no such SLOT -/
theorem mX5_wordIn_bad (l : Launch) {D : va_G} {cI cJ cZ cW : ClassId} {ad : Nat → Nat} {g : Nat → va_E} {x0 : Int32}  (hx0 : x0 < 0 ∨ nI 8 ≤ x0) : Met l yX5_wordIn wsX5_wordIn ({ frames := 1, cells := 0, slots := 0, locals := 20 }) (va_Pc [.ref (ad (0)), .int (x0)] (xB D (xT cI cJ cZ cW) ad g)) (va_Sq (fun r => r = none)) 0 0 (fun _ => False) := by
  refine Met.ofW (cc := cX5_wordIn) (maxL := 2) (ret := (some (.object "LettersByLot$Word"))) (by decide) rfl ?_
  intro p e s m args below meth c s₁ B hml hv
  obtain ⟨rfl, hP, hK, hN⟩ := hv
  have hx := B.exec
  have hb := B.bytes
  have hr := B.returns
  have hts := atoms_spec (ws := wsX5_wordIn) B.pre
  have hown : s.vm.findClass RX5 = some m.cls := findClass_of_methodNamed B.named
  have hlocks := B.notSynchronized
  have hl := lv_entry ([.ref (ad (0)), .int (x0)]) (n := 2) (Nat.le_of_ble_eq_true rfl)
  rw [lg_entry_eq]
  generalize (lg_sl ([.ref (ad (0)), .int (x0)]) ++ List.replicate (2 - (lg_sl ([.ref (ad (0)), .int (x0)])).length) Slot.unset).toArray = ls at hl ⊢
  have hl : lv_has ls 2 [(0, .ref (ad (0))), (1, .int (x0))] := hl
  refine lv_iload_n hx hb dX5_wordIn_0 rfl (lv_at hl 1 rfl) ?_
  refine vp_callSi (va_Run.run (va_runS (As := [.int (x0)]) (rest := []) ⟨hx, hb, hml, hown, hts⟩ (mX5_isSlot_out l hx0) (va_cwS 1 hts gX5_wordIn_X5_isSlot rfl rfl rfl (by decide +kernel) ⟨Nat.le_of_ble_eq_true rfl, Nat.le_of_ble_eq_true rfl⟩) ⟨xB_blind, fun U hU hW => ⟨rfl, by rw [hU]; exact hP, va_K.moved hW.alike hK, va_Nw.warmM hW hN⟩⟩ rfl rfl hl.1 rfl (lv_room (Nat.le_of_ble_eq_true rfl)) dX5_wordIn_1 ⟨Nat.le_of_ble_eq_true rfl, Nat.le_of_ble_eq_true rfl⟩)) (fun r1 er1 => ?_)
  subst er1
  refine xi_if_eq (tgt := 28) hx hb (by decide) dX5_wordIn_4 (by decide) (fun _ => ?_) (fun c0 => absurd c0 (by decide))
  refine lv_null hx hb dX5_wordIn_28 ?_
  exact W.aret (v := .null) hx hb hr (Or.inl ⟨_, rfl⟩) (Or.inl rfl) (fun tZ ht _ => ⟨none, rfl, rfl, ht⟩) (fun q hq => by cases hq) dX5_wordIn_29

/-- wordIn, none -/
theorem mX5_wordIn_no (l : Launch) {D : va_G} {cI cJ cZ cW : ClassId} {ad : Nat → Nat} {g : Nat → va_E} {q Wt : Nat} {w ln : Nat → Nat} {u : Nat → Nat → Nat} {tp bt : Int64} {f3 : Nat → Option Nat} {x0 : Int32} (fo_0 : g 0 = .inr (5, [.ref (ad (1)), .ref (ad (3)), .ref (ad (57)), .ref (ad (4)), .ref (ad (8)), .ref (ad (15)), .long (tp), .long (bt)])) (fa_3 : g 3 = .inl (cW, 8, .inr (.inr (.inr (.inr (f3)))))) (h3 : ∀ k, k < 8 → f3 k = some (ad (17 + 5 * k))) (hwd : ∀ k, k < 8 → WordI cI cJ ad g q Wt w (17 + 5 * k) (ln k) (u k)) (h : noW ln x0) : Met l yX5_wordIn wsX5_wordIn ({ frames := 1, cells := 0, slots := 0, locals := 20 }) (va_Pc [.ref (ad (0)), .int (x0)] (xB D (xT cI cJ cZ cW) ad g)) (va_Sq (fun r => r = none)) 0 0 (fun _ => False) := by
  rcases h with h | h | ⟨k, hk, rfl, h0⟩
  · exact mX5_wordIn_bad l (Or.inl h)
  · exact mX5_wordIn_bad l (Or.inr h)
  · obtain ⟨fl, fh, ft, fs, co, ow, h1, -⟩ := hwd k hk
    rw [h0] at h1
    exact mX5_wordIn_abs l (n1 := 0) fo_0 fa_3 h1 h3 hk rfl

set_option maxHeartbeats 4000000 in
set_option maxRecDepth 100000 in
theorem mX5_laps_ss (l : Launch) {D : va_G} {cI cJ cZ cW : ClassId} {ad : Nat → Nat} {g : Nat → va_E} {q Wt : Nat} {w : Nat → Nat} {ln : Nat → Nat} {u : Nat → Nat → Nat} {T : Nat} {t : Nat → Nat} {tp bt : Int64} {k1 b1 n1 ol1 : Nat} {u1 sf1 : Nat → Nat} {k2 b2 n2 ol2 : Nat} {u2 sf2 : Nat → Nat}  (hC : ClsI cI cJ cZ cW ad g q Wt w ln u T t tp bt) (hs : SrcI q Wt w ln u T t) (hk1 : k1 < 8) (eb1 : 17 + 5 * k1 = b1) (en1 : ln k1 = n1) (eu1 : u k1 = u1) (es1 : shr Wt w u1 n1 = sf1) (eo1 : ownL Wt w u1 n1 = ol1) (hp1 : 0 < n1) (hk2 : k2 < 8) (eb2 : 17 + 5 * k2 = b2) (en2 : ln k2 = n2) (eu2 : u k2 = u2) (es2 : shr Wt w u2 n2 = sf2) (eo2 : ownL Wt w u2 n2 = ol2) (hp2 : 0 < n2) : Met l yX5_laps wsX5_laps ({ frames := 2, cells := 0, slots := 0, locals := 46 }) (va_Pc [.ref (ad (0)), .int (nI (k1)), .int (nI (k2))] (xB D (xT cI cJ cZ cW) ad g)) (vp_Si (fun r => r = aLaps ln u (nI (k1)) (nI (k2)))) 0 0 (fun _ => False) := by
  refine Met.ofW (cc := cX5_laps) (maxL := 5) (ret := (some .int)) (by decide) rfl ?_
  intro p e s m args below meth c s₁ B hml hv
  obtain ⟨rfl, hP, hK, hN⟩ := hv
  have hx := B.exec
  have hb := B.bytes
  have hr := B.returns
  have hts := atoms_spec (ws := wsX5_laps) B.pre
  have hown : s.vm.findClass RX5 = some m.cls := findClass_of_methodNamed B.named
  have hlocks := B.notSynchronized
  have hl := lv_entry ([.ref (ad (0)), .int (nI (k1)), .int (nI (k2))]) (n := 5) (Nat.le_of_ble_eq_true rfl)
  rw [lg_entry_eq]
  generalize (lg_sl ([.ref (ad (0)), .int (nI (k1)), .int (nI (k2))]) ++ List.replicate (5 - (lg_sl ([.ref (ad (0)), .int (nI (k1)), .int (nI (k2))])).length) Slot.unset).toArray = ls at hl ⊢
  have hl : lv_has ls 5 [(0, .ref (ad (0))), (1, .int (nI (k1))), (2, .int (nI (k2)))] := hl
  obtain ⟨hq2, hq4, hw1, hw0, hWs, hWt, hw, hln, hul, hT, ht⟩ := hs
  obtain ⟨fo_0, ⟨f2, fo_1, fa_2, h2⟩, ⟨f3, fa_3, h3⟩, hRace, hMach, ⟨f16, fo15, fa16, h16⟩, hwd, hcand⟩ := id hC
  obtain ⟨fl1, fh1, ft1, fs1, fo1, fal1, fah1, fat1, fas1, hfl1, hfh1, hft1, hfs1⟩ := cw_pos hwd hk1 eb1 en1 eu1 es1 eo1 hp1
  have hb1 : b1 + 4 < 81 := by omega
  have hn1 : n1 ≤ 5 := en1 ▸ hln k1
  have hu1 : ∀ j, j < n1 → u1 j < q := fun j hj => by rw [← eu1]; exact hul k1 j (by rw [en1]; exact hj)
  have hwu1 : ∀ j, j < n1 → w (u1 j) ≤ 4 := fun j hj => hw _ (Nat.lt_of_lt_of_le (hu1 j hj) hq4)
  have hsf1 : ∀ k, k ≤ n1 → sf1 k ≤ 1024 := fun k hk => es1 ▸ shr_le hWt hwu1 hn1 hk
  have hs01 : 1 ≤ sf1 0 := es1 ▸ shr_0 (fun j hj => hw1 _ (hu1 j hj))
  have hol1 : ol1 ≤ 5120 := by rw [← eo1]; show lapS (shr Wt w u1 n1) u1 n1 u1 n1 5 ≤ 5120; rw [es1]; exact lapS_le hsf1 5
  obtain ⟨fl2, fh2, ft2, fs2, fo2, fal2, fah2, fat2, fas2, hfl2, hfh2, hft2, hfs2⟩ := cw_pos hwd hk2 eb2 en2 eu2 es2 eo2 hp2
  have hb2 : b2 + 4 < 81 := by omega
  have hn2 : n2 ≤ 5 := en2 ▸ hln k2
  have hu2 : ∀ j, j < n2 → u2 j < q := fun j hj => by rw [← eu2]; exact hul k2 j (by rw [en2]; exact hj)
  have hwu2 : ∀ j, j < n2 → w (u2 j) ≤ 4 := fun j hj => hw _ (Nat.lt_of_lt_of_le (hu2 j hj) hq4)
  have hsf2 : ∀ k, k ≤ n2 → sf2 k ≤ 1024 := fun k hk => es2 ▸ shr_le hWt hwu2 hn2 hk
  have hs02 : 1 ≤ sf2 0 := es2 ▸ shr_0 (fun j hj => hw1 _ (hu2 j hj))
  have hol2 : ol2 ≤ 5120 := by rw [← eo2]; show lapS (shr Wt w u2 n2) u2 n2 u2 n2 5 ≤ 5120; rw [es2]; exact lapS_le hsf2 5
  refine lv_aload_n hx hb dX5_laps_0 rfl (lv_at hl 0 rfl) ?_
  refine lv_iload_n hx hb dX5_laps_1 rfl (lv_at hl 1 rfl) ?_
  refine va_csq (va_Run.run (va_runV (As := [.int (nI (k1))]) (rest := []) ⟨hx, hb, hml, hown, hts⟩ (mX5_wordIn_yes l fo_0 fa_3 fo1 h3 hk1 eb1 hp1 hn1) (cwV 1 hts gX5_laps_X5_wordIn rfl rfl rfl (by decide +kernel) ⟨Nat.le_of_ble_eq_true rfl, Nat.le_of_ble_eq_true rfl⟩) ⟨xB_blind, va_recv hK hP (ci := 5) rfl (xw_is (by decide) fo_0), fun U hU hW => ⟨rfl, by rw [hU]; exact hP, va_K.moved hW.alike hK, va_Nw.warmM hW hN⟩⟩ rfl rfl hl.1 rfl (lv_room (Nat.le_of_ble_eq_true rfl)) dX5_laps_2 ⟨Nat.le_of_ble_eq_true rfl, Nat.le_of_ble_eq_true rfl⟩)) (fun r1 er1 => ?_)
  subst er1
  refine W.eq (g2 := F0 m 5 ls (.ref (ad (b1)) :: [])) rfl ?_
  refine lv_astore_n (lv' := [(3, .ref (ad (b1))), (0, .ref (ad (0))), (1, .int (nI (k1))), (2, .int (nI (k2)))]) hx hb dX5_laps_5 rfl hl (by decide) rfl (fun ls hl => ?_)
  refine lv_aload_n hx hb dX5_laps_6 rfl (lv_at hl 1 rfl) ?_
  refine lv_iload_n hx hb dX5_laps_7 rfl (lv_at hl 3 rfl) ?_
  refine va_csq (va_Run.run (va_runV (As := [.int (nI (k2))]) (rest := []) ⟨hx, hb, hml, hown, hts⟩ (mX5_wordIn_yes l fo_0 fa_3 fo2 h3 hk2 eb2 hp2 hn2) (cwV 1 hts gX5_laps_X5_wordIn rfl rfl rfl (by decide +kernel) ⟨Nat.le_of_ble_eq_true rfl, Nat.le_of_ble_eq_true rfl⟩) ⟨xB_blind, va_recv hK hP (ci := 5) rfl (xw_is (by decide) fo_0), fun U hU hW => ⟨rfl, by rw [hU]; exact hP, va_K.moved hW.alike hK, va_Nw.warmM hW hN⟩⟩ rfl rfl hl.1 rfl (lv_room (Nat.le_of_ble_eq_true rfl)) dX5_laps_8 ⟨Nat.le_of_ble_eq_true rfl, Nat.le_of_ble_eq_true rfl⟩)) (fun r2 er2 => ?_)
  subst er2
  refine W.eq (g2 := F0 m 11 ls (.ref (ad (b2)) :: [])) rfl ?_
  refine lv_astore (lv' := [(4, .ref (ad (b2))), (3, .ref (ad (b1))), (0, .ref (ad (0))), (1, .int (nI (k1))), (2, .int (nI (k2)))]) hx hb dX5_laps_11 hl (by decide) rfl (fun ls hl => ?_)
  refine lv_aload_n hx hb dX5_laps_13 rfl (lv_at hl 1 rfl) ?_
  refine lv_ifnull hx hb dX5_laps_14 ?_
  refine lv_aload hx hb dX5_laps_17 (lv_at hl 0 rfl) ?_
  refine lv_ifnonnull (tgt := 26) hx hb dX5_laps_19 (by decide) ?_
  refine lv_aload_n hx hb dX5_laps_26 rfl (lv_at hl 1 rfl) ?_
  refine lv_aload hx hb dX5_laps_27 (lv_at hl 0 rfl) ?_
  refine vp_callSi (va_Run.run (va_runV (As := [.ref (ad (b2))]) (rest := []) ⟨hx, hb, hml, hown, hts⟩ (mX4_lapsOn l (q := q) fo1 fat1 fo2 fah2 hq4 hb1 hn1 hu1 hft1 hb2 hn2 hu2 hfh2) (cwV 1 hts gX5_laps_X4_lapsOn rfl rfl rfl (by decide +kernel) ⟨Nat.le_of_ble_eq_true rfl, Nat.le_of_ble_eq_true rfl⟩) ⟨xB_blind, va_recv hK hP (ci := 4) rfl (xw_is (by omega) fo1), fun U hU hW => ⟨rfl, by rw [hU]; exact hP, va_K.moved hW.alike hK, va_Nw.warmM hW hN⟩⟩ rfl rfl hl.1 rfl (lv_room (Nat.le_of_ble_eq_true rfl)) dX5_laps_29 ⟨Nat.le_of_ble_eq_true rfl, Nat.le_of_ble_eq_true rfl⟩)) (fun r3 er3 => ?_)
  subst er3
  exact W.iret (v := nI (lapB u1 n1 u2 n2 5)) hx hb hr (fun tZ ht _ => ⟨_, rfl, (by show _ = aLaps ln u _ _; subst en1 eu1; subst en2 eu2; unfold aLaps; rw [slotW_yes hk1 hp1, slotW_yes hk2 hp2]), ht⟩) (fun q hq => by cases hq) dX5_laps_32

set_option maxHeartbeats 4000000 in
set_option maxRecDepth 100000 in
theorem mX5_laps_sn (l : Launch) {D : va_G} {cI cJ cZ cW : ClassId} {ad : Nat → Nat} {g : Nat → va_E} {q Wt : Nat} {w : Nat → Nat} {ln : Nat → Nat} {u : Nat → Nat → Nat} {T : Nat} {t : Nat → Nat} {tp bt : Int64} {k1 b1 n1 ol1 : Nat} {u1 sf1 : Nat → Nat} {xb : Int32}  (hC : ClsI cI cJ cZ cW ad g q Wt w ln u T t tp bt) (hs : SrcI q Wt w ln u T t) (hk1 : k1 < 8) (eb1 : 17 + 5 * k1 = b1) (en1 : ln k1 = n1) (eu1 : u k1 = u1) (es1 : shr Wt w u1 n1 = sf1) (eo1 : ownL Wt w u1 n1 = ol1) (hp1 : 0 < n1) (hxb : noW ln xb) : Met l yX5_laps wsX5_laps ({ frames := 2, cells := 0, slots := 0, locals := 46 }) (va_Pc [.ref (ad (0)), .int (nI (k1)), .int (xb)] (xB D (xT cI cJ cZ cW) ad g)) (vp_Si (fun r => r = aLaps ln u (nI (k1)) (xb))) 0 0 (fun _ => False) := by
  refine Met.ofW (cc := cX5_laps) (maxL := 5) (ret := (some .int)) (by decide) rfl ?_
  intro p e s m args below meth c s₁ B hml hv
  obtain ⟨rfl, hP, hK, hN⟩ := hv
  have hx := B.exec
  have hb := B.bytes
  have hr := B.returns
  have hts := atoms_spec (ws := wsX5_laps) B.pre
  have hown : s.vm.findClass RX5 = some m.cls := findClass_of_methodNamed B.named
  have hlocks := B.notSynchronized
  have hl := lv_entry ([.ref (ad (0)), .int (nI (k1)), .int (xb)]) (n := 5) (Nat.le_of_ble_eq_true rfl)
  rw [lg_entry_eq]
  generalize (lg_sl ([.ref (ad (0)), .int (nI (k1)), .int (xb)]) ++ List.replicate (5 - (lg_sl ([.ref (ad (0)), .int (nI (k1)), .int (xb)])).length) Slot.unset).toArray = ls at hl ⊢
  have hl : lv_has ls 5 [(0, .ref (ad (0))), (1, .int (nI (k1))), (2, .int (xb))] := hl
  obtain ⟨hq2, hq4, hw1, hw0, hWs, hWt, hw, hln, hul, hT, ht⟩ := hs
  obtain ⟨fo_0, ⟨f2, fo_1, fa_2, h2⟩, ⟨f3, fa_3, h3⟩, hRace, hMach, ⟨f16, fo15, fa16, h16⟩, hwd, hcand⟩ := id hC
  obtain ⟨fl1, fh1, ft1, fs1, fo1, fal1, fah1, fat1, fas1, hfl1, hfh1, hft1, hfs1⟩ := cw_pos hwd hk1 eb1 en1 eu1 es1 eo1 hp1
  have hb1 : b1 + 4 < 81 := by omega
  have hn1 : n1 ≤ 5 := en1 ▸ hln k1
  have hu1 : ∀ j, j < n1 → u1 j < q := fun j hj => by rw [← eu1]; exact hul k1 j (by rw [en1]; exact hj)
  have hwu1 : ∀ j, j < n1 → w (u1 j) ≤ 4 := fun j hj => hw _ (Nat.lt_of_lt_of_le (hu1 j hj) hq4)
  have hsf1 : ∀ k, k ≤ n1 → sf1 k ≤ 1024 := fun k hk => es1 ▸ shr_le hWt hwu1 hn1 hk
  have hs01 : 1 ≤ sf1 0 := es1 ▸ shr_0 (fun j hj => hw1 _ (hu1 j hj))
  have hol1 : ol1 ≤ 5120 := by rw [← eo1]; show lapS (shr Wt w u1 n1) u1 n1 u1 n1 5 ≤ 5120; rw [es1]; exact lapS_le hsf1 5
  refine lv_aload_n hx hb dX5_laps_0 rfl (lv_at hl 0 rfl) ?_
  refine lv_iload_n hx hb dX5_laps_1 rfl (lv_at hl 1 rfl) ?_
  refine va_csq (va_Run.run (va_runV (As := [.int (nI (k1))]) (rest := []) ⟨hx, hb, hml, hown, hts⟩ (mX5_wordIn_yes l fo_0 fa_3 fo1 h3 hk1 eb1 hp1 hn1) (cwV 1 hts gX5_laps_X5_wordIn rfl rfl rfl (by decide +kernel) ⟨Nat.le_of_ble_eq_true rfl, Nat.le_of_ble_eq_true rfl⟩) ⟨xB_blind, va_recv hK hP (ci := 5) rfl (xw_is (by decide) fo_0), fun U hU hW => ⟨rfl, by rw [hU]; exact hP, va_K.moved hW.alike hK, va_Nw.warmM hW hN⟩⟩ rfl rfl hl.1 rfl (lv_room (Nat.le_of_ble_eq_true rfl)) dX5_laps_2 ⟨Nat.le_of_ble_eq_true rfl, Nat.le_of_ble_eq_true rfl⟩)) (fun r1 er1 => ?_)
  subst er1
  refine W.eq (g2 := F0 m 5 ls (.ref (ad (b1)) :: [])) rfl ?_
  refine lv_astore_n (lv' := [(3, .ref (ad (b1))), (0, .ref (ad (0))), (1, .int (nI (k1))), (2, .int (xb))]) hx hb dX5_laps_5 rfl hl (by decide) rfl (fun ls hl => ?_)
  refine lv_aload_n hx hb dX5_laps_6 rfl (lv_at hl 1 rfl) ?_
  refine lv_iload_n hx hb dX5_laps_7 rfl (lv_at hl 3 rfl) ?_
  refine va_csq (va_Run.run (va_runV (As := [.int (xb)]) (rest := []) ⟨hx, hb, hml, hown, hts⟩ (mX5_wordIn_no l fo_0 fa_3 h3 hwd hxb) (cwV 1 hts gX5_laps_X5_wordIn rfl rfl rfl (by decide +kernel) ⟨Nat.le_of_ble_eq_true rfl, Nat.le_of_ble_eq_true rfl⟩) ⟨xB_blind, va_recv hK hP (ci := 5) rfl (xw_is (by decide) fo_0), fun U hU hW => ⟨rfl, by rw [hU]; exact hP, va_K.moved hW.alike hK, va_Nw.warmM hW hN⟩⟩ rfl rfl hl.1 rfl (lv_room (Nat.le_of_ble_eq_true rfl)) dX5_laps_8 ⟨Nat.le_of_ble_eq_true rfl, Nat.le_of_ble_eq_true rfl⟩)) (fun r2 er2 => ?_)
  subst er2
  refine W.eq (g2 := F0 m 11 ls (.null :: [])) rfl ?_
  refine lv_astoreN (lv' := [(4, .null), (3, .ref (ad (b1))), (0, .ref (ad (0))), (1, .int (nI (k1))), (2, .int (xb))]) hx hb dX5_laps_11 hl (by decide) rfl (fun ls hl => ?_)
  refine lv_aload_n hx hb dX5_laps_13 rfl (lv_at hl 1 rfl) ?_
  refine lv_ifnull hx hb dX5_laps_14 ?_
  refine lv_aloadN hx hb dX5_laps_17 (lv_at hl 0 rfl) ?_
  refine lv_ifnonnullN hx hb dX5_laps_19 ?_
  refine lv_iconst (v := (-1)) hx hb dX5_laps_22 (by decide) ?_
  refine lv_goto (tgt := 32) hx hb dX5_laps_23 (by decide) ?_
  exact W.iret (v := (-1)) hx hb hr (fun tZ ht _ => ⟨_, rfl, (by show _ = aLaps ln u _ _; exact (slotW_2n hxb).symm), ht⟩) (fun q hq => by cases hq) dX5_laps_32

set_option maxHeartbeats 4000000 in
set_option maxRecDepth 100000 in
theorem mX5_laps_ns (l : Launch) {D : va_G} {cI cJ cZ cW : ClassId} {ad : Nat → Nat} {g : Nat → va_E} {q Wt : Nat} {w : Nat → Nat} {ln : Nat → Nat} {u : Nat → Nat → Nat} {T : Nat} {t : Nat → Nat} {tp bt : Int64} {xa : Int32} {k2 b2 n2 ol2 : Nat} {u2 sf2 : Nat → Nat}  (hC : ClsI cI cJ cZ cW ad g q Wt w ln u T t tp bt) (hs : SrcI q Wt w ln u T t) (hxa : noW ln xa) (hk2 : k2 < 8) (eb2 : 17 + 5 * k2 = b2) (en2 : ln k2 = n2) (eu2 : u k2 = u2) (es2 : shr Wt w u2 n2 = sf2) (eo2 : ownL Wt w u2 n2 = ol2) (hp2 : 0 < n2) : Met l yX5_laps wsX5_laps ({ frames := 2, cells := 0, slots := 0, locals := 46 }) (va_Pc [.ref (ad (0)), .int (xa), .int (nI (k2))] (xB D (xT cI cJ cZ cW) ad g)) (vp_Si (fun r => r = aLaps ln u (xa) (nI (k2)))) 0 0 (fun _ => False) := by
  refine Met.ofW (cc := cX5_laps) (maxL := 5) (ret := (some .int)) (by decide) rfl ?_
  intro p e s m args below meth c s₁ B hml hv
  obtain ⟨rfl, hP, hK, hN⟩ := hv
  have hx := B.exec
  have hb := B.bytes
  have hr := B.returns
  have hts := atoms_spec (ws := wsX5_laps) B.pre
  have hown : s.vm.findClass RX5 = some m.cls := findClass_of_methodNamed B.named
  have hlocks := B.notSynchronized
  have hl := lv_entry ([.ref (ad (0)), .int (xa), .int (nI (k2))]) (n := 5) (Nat.le_of_ble_eq_true rfl)
  rw [lg_entry_eq]
  generalize (lg_sl ([.ref (ad (0)), .int (xa), .int (nI (k2))]) ++ List.replicate (5 - (lg_sl ([.ref (ad (0)), .int (xa), .int (nI (k2))])).length) Slot.unset).toArray = ls at hl ⊢
  have hl : lv_has ls 5 [(0, .ref (ad (0))), (1, .int (xa)), (2, .int (nI (k2)))] := hl
  obtain ⟨hq2, hq4, hw1, hw0, hWs, hWt, hw, hln, hul, hT, ht⟩ := hs
  obtain ⟨fo_0, ⟨f2, fo_1, fa_2, h2⟩, ⟨f3, fa_3, h3⟩, hRace, hMach, ⟨f16, fo15, fa16, h16⟩, hwd, hcand⟩ := id hC
  obtain ⟨fl2, fh2, ft2, fs2, fo2, fal2, fah2, fat2, fas2, hfl2, hfh2, hft2, hfs2⟩ := cw_pos hwd hk2 eb2 en2 eu2 es2 eo2 hp2
  have hb2 : b2 + 4 < 81 := by omega
  have hn2 : n2 ≤ 5 := en2 ▸ hln k2
  have hu2 : ∀ j, j < n2 → u2 j < q := fun j hj => by rw [← eu2]; exact hul k2 j (by rw [en2]; exact hj)
  have hwu2 : ∀ j, j < n2 → w (u2 j) ≤ 4 := fun j hj => hw _ (Nat.lt_of_lt_of_le (hu2 j hj) hq4)
  have hsf2 : ∀ k, k ≤ n2 → sf2 k ≤ 1024 := fun k hk => es2 ▸ shr_le hWt hwu2 hn2 hk
  have hs02 : 1 ≤ sf2 0 := es2 ▸ shr_0 (fun j hj => hw1 _ (hu2 j hj))
  have hol2 : ol2 ≤ 5120 := by rw [← eo2]; show lapS (shr Wt w u2 n2) u2 n2 u2 n2 5 ≤ 5120; rw [es2]; exact lapS_le hsf2 5
  refine lv_aload_n hx hb dX5_laps_0 rfl (lv_at hl 0 rfl) ?_
  refine lv_iload_n hx hb dX5_laps_1 rfl (lv_at hl 1 rfl) ?_
  refine va_csq (va_Run.run (va_runV (As := [.int (xa)]) (rest := []) ⟨hx, hb, hml, hown, hts⟩ (mX5_wordIn_no l fo_0 fa_3 h3 hwd hxa) (cwV 1 hts gX5_laps_X5_wordIn rfl rfl rfl (by decide +kernel) ⟨Nat.le_of_ble_eq_true rfl, Nat.le_of_ble_eq_true rfl⟩) ⟨xB_blind, va_recv hK hP (ci := 5) rfl (xw_is (by decide) fo_0), fun U hU hW => ⟨rfl, by rw [hU]; exact hP, va_K.moved hW.alike hK, va_Nw.warmM hW hN⟩⟩ rfl rfl hl.1 rfl (lv_room (Nat.le_of_ble_eq_true rfl)) dX5_laps_2 ⟨Nat.le_of_ble_eq_true rfl, Nat.le_of_ble_eq_true rfl⟩)) (fun r1 er1 => ?_)
  subst er1
  refine W.eq (g2 := F0 m 5 ls (.null :: [])) rfl ?_
  refine lv_astore_nN (lv' := [(3, .null), (0, .ref (ad (0))), (1, .int (xa)), (2, .int (nI (k2)))]) hx hb dX5_laps_5 rfl hl (by decide) rfl (fun ls hl => ?_)
  refine lv_aload_n hx hb dX5_laps_6 rfl (lv_at hl 1 rfl) ?_
  refine lv_iload_n hx hb dX5_laps_7 rfl (lv_at hl 3 rfl) ?_
  refine va_csq (va_Run.run (va_runV (As := [.int (nI (k2))]) (rest := []) ⟨hx, hb, hml, hown, hts⟩ (mX5_wordIn_yes l fo_0 fa_3 fo2 h3 hk2 eb2 hp2 hn2) (cwV 1 hts gX5_laps_X5_wordIn rfl rfl rfl (by decide +kernel) ⟨Nat.le_of_ble_eq_true rfl, Nat.le_of_ble_eq_true rfl⟩) ⟨xB_blind, va_recv hK hP (ci := 5) rfl (xw_is (by decide) fo_0), fun U hU hW => ⟨rfl, by rw [hU]; exact hP, va_K.moved hW.alike hK, va_Nw.warmM hW hN⟩⟩ rfl rfl hl.1 rfl (lv_room (Nat.le_of_ble_eq_true rfl)) dX5_laps_8 ⟨Nat.le_of_ble_eq_true rfl, Nat.le_of_ble_eq_true rfl⟩)) (fun r2 er2 => ?_)
  subst er2
  refine W.eq (g2 := F0 m 11 ls (.ref (ad (b2)) :: [])) rfl ?_
  refine lv_astore (lv' := [(4, .ref (ad (b2))), (3, .null), (0, .ref (ad (0))), (1, .int (xa)), (2, .int (nI (k2)))]) hx hb dX5_laps_11 hl (by decide) rfl (fun ls hl => ?_)
  refine lv_aload_nN hx hb dX5_laps_13 rfl (lv_at hl 1 rfl) ?_
  refine lv_ifnullN (tgt := 22) hx hb dX5_laps_14 (by decide) ?_
  refine lv_iconst (v := (-1)) hx hb dX5_laps_22 (by decide) ?_
  refine lv_goto (tgt := 32) hx hb dX5_laps_23 (by decide) ?_
  exact W.iret (v := (-1)) hx hb hr (fun tZ ht _ => ⟨_, rfl, (by show _ = aLaps ln u _ _; unfold aLaps; rw [slotW_no hxa]), ht⟩) (fun q hq => by cases hq) dX5_laps_32

set_option maxHeartbeats 4000000 in
set_option maxRecDepth 100000 in
theorem mX5_laps_nn (l : Launch) {D : va_G} {cI cJ cZ cW : ClassId} {ad : Nat → Nat} {g : Nat → va_E} {q Wt : Nat} {w : Nat → Nat} {ln : Nat → Nat} {u : Nat → Nat → Nat} {T : Nat} {t : Nat → Nat} {tp bt : Int64} {xa : Int32} {xb : Int32}  (hC : ClsI cI cJ cZ cW ad g q Wt w ln u T t tp bt) (hs : SrcI q Wt w ln u T t) (hxa : noW ln xa) (hxb : noW ln xb) : Met l yX5_laps wsX5_laps ({ frames := 2, cells := 0, slots := 0, locals := 46 }) (va_Pc [.ref (ad (0)), .int (xa), .int (xb)] (xB D (xT cI cJ cZ cW) ad g)) (vp_Si (fun r => r = aLaps ln u (xa) (xb))) 0 0 (fun _ => False) := by
  refine Met.ofW (cc := cX5_laps) (maxL := 5) (ret := (some .int)) (by decide) rfl ?_
  intro p e s m args below meth c s₁ B hml hv
  obtain ⟨rfl, hP, hK, hN⟩ := hv
  have hx := B.exec
  have hb := B.bytes
  have hr := B.returns
  have hts := atoms_spec (ws := wsX5_laps) B.pre
  have hown : s.vm.findClass RX5 = some m.cls := findClass_of_methodNamed B.named
  have hlocks := B.notSynchronized
  have hl := lv_entry ([.ref (ad (0)), .int (xa), .int (xb)]) (n := 5) (Nat.le_of_ble_eq_true rfl)
  rw [lg_entry_eq]
  generalize (lg_sl ([.ref (ad (0)), .int (xa), .int (xb)]) ++ List.replicate (5 - (lg_sl ([.ref (ad (0)), .int (xa), .int (xb)])).length) Slot.unset).toArray = ls at hl ⊢
  have hl : lv_has ls 5 [(0, .ref (ad (0))), (1, .int (xa)), (2, .int (xb))] := hl
  obtain ⟨hq2, hq4, hw1, hw0, hWs, hWt, hw, hln, hul, hT, ht⟩ := hs
  obtain ⟨fo_0, ⟨f2, fo_1, fa_2, h2⟩, ⟨f3, fa_3, h3⟩, hRace, hMach, ⟨f16, fo15, fa16, h16⟩, hwd, hcand⟩ := id hC
  refine lv_aload_n hx hb dX5_laps_0 rfl (lv_at hl 0 rfl) ?_
  refine lv_iload_n hx hb dX5_laps_1 rfl (lv_at hl 1 rfl) ?_
  refine va_csq (va_Run.run (va_runV (As := [.int (xa)]) (rest := []) ⟨hx, hb, hml, hown, hts⟩ (mX5_wordIn_no l fo_0 fa_3 h3 hwd hxa) (cwV 1 hts gX5_laps_X5_wordIn rfl rfl rfl (by decide +kernel) ⟨Nat.le_of_ble_eq_true rfl, Nat.le_of_ble_eq_true rfl⟩) ⟨xB_blind, va_recv hK hP (ci := 5) rfl (xw_is (by decide) fo_0), fun U hU hW => ⟨rfl, by rw [hU]; exact hP, va_K.moved hW.alike hK, va_Nw.warmM hW hN⟩⟩ rfl rfl hl.1 rfl (lv_room (Nat.le_of_ble_eq_true rfl)) dX5_laps_2 ⟨Nat.le_of_ble_eq_true rfl, Nat.le_of_ble_eq_true rfl⟩)) (fun r1 er1 => ?_)
  subst er1
  refine W.eq (g2 := F0 m 5 ls (.null :: [])) rfl ?_
  refine lv_astore_nN (lv' := [(3, .null), (0, .ref (ad (0))), (1, .int (xa)), (2, .int (xb))]) hx hb dX5_laps_5 rfl hl (by decide) rfl (fun ls hl => ?_)
  refine lv_aload_n hx hb dX5_laps_6 rfl (lv_at hl 1 rfl) ?_
  refine lv_iload_n hx hb dX5_laps_7 rfl (lv_at hl 3 rfl) ?_
  refine va_csq (va_Run.run (va_runV (As := [.int (xb)]) (rest := []) ⟨hx, hb, hml, hown, hts⟩ (mX5_wordIn_no l fo_0 fa_3 h3 hwd hxb) (cwV 1 hts gX5_laps_X5_wordIn rfl rfl rfl (by decide +kernel) ⟨Nat.le_of_ble_eq_true rfl, Nat.le_of_ble_eq_true rfl⟩) ⟨xB_blind, va_recv hK hP (ci := 5) rfl (xw_is (by decide) fo_0), fun U hU hW => ⟨rfl, by rw [hU]; exact hP, va_K.moved hW.alike hK, va_Nw.warmM hW hN⟩⟩ rfl rfl hl.1 rfl (lv_room (Nat.le_of_ble_eq_true rfl)) dX5_laps_8 ⟨Nat.le_of_ble_eq_true rfl, Nat.le_of_ble_eq_true rfl⟩)) (fun r2 er2 => ?_)
  subst er2
  refine W.eq (g2 := F0 m 11 ls (.null :: [])) rfl ?_
  refine lv_astoreN (lv' := [(4, .null), (3, .null), (0, .ref (ad (0))), (1, .int (xa)), (2, .int (xb))]) hx hb dX5_laps_11 hl (by decide) rfl (fun ls hl => ?_)
  refine lv_aload_nN hx hb dX5_laps_13 rfl (lv_at hl 1 rfl) ?_
  refine lv_ifnullN (tgt := 22) hx hb dX5_laps_14 (by decide) ?_
  refine lv_iconst (v := (-1)) hx hb dX5_laps_22 (by decide) ?_
  refine lv_goto (tgt := 32) hx hb dX5_laps_23 (by decide) ?_
  exact W.iret (v := (-1)) hx hb hr (fun tZ ht _ => ⟨_, rfl, (by show _ = aLaps ln u _ _; exact (slotW_2n hxb).symm), ht⟩) (fun q hq => by cases hq) dX5_laps_32

theorem mX5_laps (l : Launch) {D : va_G} {cI cJ cZ cW : ClassId} {ad : Nat → Nat} {g : Nat → va_E} {q Wt : Nat} {w : Nat → Nat} {ln : Nat → Nat} {u : Nat → Nat → Nat} {T : Nat} {t : Nat → Nat} {tp bt : Int64} (hC : ClsI cI cJ cZ cW ad g q Wt w ln u T t tp bt) (hs : SrcI q Wt w ln u T t) (xa xb : Int32) : Met l yX5_laps wsX5_laps ({ frames := 2, cells := 0, slots := 0, locals := 46 }) (va_Pc [.ref (ad (0)), .int xa, .int xb] (xB D (xT cI cJ cZ cW) ad g)) (vp_Si (fun r => r = aLaps ln u (xa) (xb))) 0 0 (fun _ => False) := by
  rcases slotW_cases ln xa with hxa | ⟨k1, hk1, rfl, hp1⟩
  · rcases slotW_cases ln xb with hxb | ⟨k2, hk2, rfl, hp2⟩
    · exact mX5_laps_nn l hC hs hxa hxb
    · exact mX5_laps_ns l hC hs hxa hk2 rfl rfl rfl rfl rfl hp2
  · rcases slotW_cases ln xb with hxb | ⟨k2, hk2, rfl, hp2⟩
    · exact mX5_laps_sn l hC hs hk1 rfl rfl rfl rfl rfl hp1 hxb
    · exact mX5_laps_ss l hC hs hk1 rfl rfl rfl rfl rfl hp1 hk2 rfl rfl rfl rfl rfl hp2

set_option maxHeartbeats 4000000 in
set_option maxRecDepth 100000 in
theorem mX5_within_ss (l : Launch) {D : va_G} {cI cJ cZ cW : ClassId} {ad : Nat → Nat} {g : Nat → va_E} {q Wt : Nat} {w : Nat → Nat} {ln : Nat → Nat} {u : Nat → Nat → Nat} {T : Nat} {t : Nat → Nat} {tp bt : Int64} {k1 b1 n1 ol1 : Nat} {u1 sf1 : Nat → Nat} {k2 b2 n2 ol2 : Nat} {u2 sf2 : Nat → Nat}  (hC : ClsI cI cJ cZ cW ad g q Wt w ln u T t tp bt) (hs : SrcI q Wt w ln u T t) (hk1 : k1 < 8) (eb1 : 17 + 5 * k1 = b1) (en1 : ln k1 = n1) (eu1 : u k1 = u1) (es1 : shr Wt w u1 n1 = sf1) (eo1 : ownL Wt w u1 n1 = ol1) (hp1 : 0 < n1) (hk2 : k2 < 8) (eb2 : 17 + 5 * k2 = b2) (en2 : ln k2 = n2) (eu2 : u k2 = u2) (es2 : shr Wt w u2 n2 = sf2) (eo2 : ownL Wt w u2 n2 = ol2) (hp2 : 0 < n2) : Met l yX5_within wsX5_within ({ frames := 2, cells := 0, slots := 0, locals := 45 }) (va_Pc [.ref (ad (0)), .int (nI (k1)), .int (nI (k2))] (xB D (xT cI cJ cZ cW) ad g)) (vp_Si (fun r => r = aWithin ln u (nI (k1)) (nI (k2)))) 0 0 (fun _ => False) := by
  refine Met.ofW (cc := cX5_within) (maxL := 5) (ret := (some .boolean)) (by decide) rfl ?_
  intro p e s m args below meth c s₁ B hml hv
  obtain ⟨rfl, hP, hK, hN⟩ := hv
  have hx := B.exec
  have hb := B.bytes
  have hr := B.returns
  have hts := atoms_spec (ws := wsX5_within) B.pre
  have hown : s.vm.findClass RX5 = some m.cls := findClass_of_methodNamed B.named
  have hlocks := B.notSynchronized
  have hl := lv_entry ([.ref (ad (0)), .int (nI (k1)), .int (nI (k2))]) (n := 5) (Nat.le_of_ble_eq_true rfl)
  rw [lg_entry_eq]
  generalize (lg_sl ([.ref (ad (0)), .int (nI (k1)), .int (nI (k2))]) ++ List.replicate (5 - (lg_sl ([.ref (ad (0)), .int (nI (k1)), .int (nI (k2))])).length) Slot.unset).toArray = ls at hl ⊢
  have hl : lv_has ls 5 [(0, .ref (ad (0))), (1, .int (nI (k1))), (2, .int (nI (k2)))] := hl
  obtain ⟨hq2, hq4, hw1, hw0, hWs, hWt, hw, hln, hul, hT, ht⟩ := hs
  obtain ⟨fo_0, ⟨f2, fo_1, fa_2, h2⟩, ⟨f3, fa_3, h3⟩, hRace, hMach, ⟨f16, fo15, fa16, h16⟩, hwd, hcand⟩ := id hC
  obtain ⟨fl1, fh1, ft1, fs1, fo1, fal1, fah1, fat1, fas1, hfl1, hfh1, hft1, hfs1⟩ := cw_pos hwd hk1 eb1 en1 eu1 es1 eo1 hp1
  have hb1 : b1 + 4 < 81 := by omega
  have hn1 : n1 ≤ 5 := en1 ▸ hln k1
  have hu1 : ∀ j, j < n1 → u1 j < q := fun j hj => by rw [← eu1]; exact hul k1 j (by rw [en1]; exact hj)
  have hwu1 : ∀ j, j < n1 → w (u1 j) ≤ 4 := fun j hj => hw _ (Nat.lt_of_lt_of_le (hu1 j hj) hq4)
  have hsf1 : ∀ k, k ≤ n1 → sf1 k ≤ 1024 := fun k hk => es1 ▸ shr_le hWt hwu1 hn1 hk
  have hs01 : 1 ≤ sf1 0 := es1 ▸ shr_0 (fun j hj => hw1 _ (hu1 j hj))
  have hol1 : ol1 ≤ 5120 := by rw [← eo1]; show lapS (shr Wt w u1 n1) u1 n1 u1 n1 5 ≤ 5120; rw [es1]; exact lapS_le hsf1 5
  obtain ⟨fl2, fh2, ft2, fs2, fo2, fal2, fah2, fat2, fas2, hfl2, hfh2, hft2, hfs2⟩ := cw_pos hwd hk2 eb2 en2 eu2 es2 eo2 hp2
  have hb2 : b2 + 4 < 81 := by omega
  have hn2 : n2 ≤ 5 := en2 ▸ hln k2
  have hu2 : ∀ j, j < n2 → u2 j < q := fun j hj => by rw [← eu2]; exact hul k2 j (by rw [en2]; exact hj)
  have hwu2 : ∀ j, j < n2 → w (u2 j) ≤ 4 := fun j hj => hw _ (Nat.lt_of_lt_of_le (hu2 j hj) hq4)
  have hsf2 : ∀ k, k ≤ n2 → sf2 k ≤ 1024 := fun k hk => es2 ▸ shr_le hWt hwu2 hn2 hk
  have hs02 : 1 ≤ sf2 0 := es2 ▸ shr_0 (fun j hj => hw1 _ (hu2 j hj))
  have hol2 : ol2 ≤ 5120 := by rw [← eo2]; show lapS (shr Wt w u2 n2) u2 n2 u2 n2 5 ≤ 5120; rw [es2]; exact lapS_le hsf2 5
  refine lv_aload_n hx hb dX5_within_0 rfl (lv_at hl 0 rfl) ?_
  refine lv_iload_n hx hb dX5_within_1 rfl (lv_at hl 1 rfl) ?_
  refine va_csq (va_Run.run (va_runV (As := [.int (nI (k1))]) (rest := []) ⟨hx, hb, hml, hown, hts⟩ (mX5_wordIn_yes l fo_0 fa_3 fo1 h3 hk1 eb1 hp1 hn1) (cwV 1 hts gX5_within_X5_wordIn rfl rfl rfl (by decide +kernel) ⟨Nat.le_of_ble_eq_true rfl, Nat.le_of_ble_eq_true rfl⟩) ⟨xB_blind, va_recv hK hP (ci := 5) rfl (xw_is (by decide) fo_0), fun U hU hW => ⟨rfl, by rw [hU]; exact hP, va_K.moved hW.alike hK, va_Nw.warmM hW hN⟩⟩ rfl rfl hl.1 rfl (lv_room (Nat.le_of_ble_eq_true rfl)) dX5_within_2 ⟨Nat.le_of_ble_eq_true rfl, Nat.le_of_ble_eq_true rfl⟩)) (fun r1 er1 => ?_)
  subst er1
  refine W.eq (g2 := F0 m 5 ls (.ref (ad (b1)) :: [])) rfl ?_
  refine lv_astore_n (lv' := [(3, .ref (ad (b1))), (0, .ref (ad (0))), (1, .int (nI (k1))), (2, .int (nI (k2)))]) hx hb dX5_within_5 rfl hl (by decide) rfl (fun ls hl => ?_)
  refine lv_aload_n hx hb dX5_within_6 rfl (lv_at hl 1 rfl) ?_
  refine lv_iload_n hx hb dX5_within_7 rfl (lv_at hl 3 rfl) ?_
  refine va_csq (va_Run.run (va_runV (As := [.int (nI (k2))]) (rest := []) ⟨hx, hb, hml, hown, hts⟩ (mX5_wordIn_yes l fo_0 fa_3 fo2 h3 hk2 eb2 hp2 hn2) (cwV 1 hts gX5_within_X5_wordIn rfl rfl rfl (by decide +kernel) ⟨Nat.le_of_ble_eq_true rfl, Nat.le_of_ble_eq_true rfl⟩) ⟨xB_blind, va_recv hK hP (ci := 5) rfl (xw_is (by decide) fo_0), fun U hU hW => ⟨rfl, by rw [hU]; exact hP, va_K.moved hW.alike hK, va_Nw.warmM hW hN⟩⟩ rfl rfl hl.1 rfl (lv_room (Nat.le_of_ble_eq_true rfl)) dX5_within_8 ⟨Nat.le_of_ble_eq_true rfl, Nat.le_of_ble_eq_true rfl⟩)) (fun r2 er2 => ?_)
  subst er2
  refine W.eq (g2 := F0 m 11 ls (.ref (ad (b2)) :: [])) rfl ?_
  refine lv_astore (lv' := [(4, .ref (ad (b2))), (3, .ref (ad (b1))), (0, .ref (ad (0))), (1, .int (nI (k1))), (2, .int (nI (k2)))]) hx hb dX5_within_11 hl (by decide) rfl (fun ls hl => ?_)
  refine lv_aload_n hx hb dX5_within_13 rfl (lv_at hl 1 rfl) ?_
  refine lv_ifnull hx hb dX5_within_14 ?_
  refine lv_aload hx hb dX5_within_17 (lv_at hl 0 rfl) ?_
  refine lv_ifnull hx hb dX5_within_19 ?_
  refine lv_aload_n hx hb dX5_within_22 rfl (lv_at hl 1 rfl) ?_
  refine lv_aload hx hb dX5_within_23 (lv_at hl 0 rfl) ?_
  refine vp_callSi (va_Run.run (va_runV (As := [.ref (ad (b2))]) (rest := []) ⟨hx, hb, hml, hown, hts⟩ (mX4_liesWithin l (q := q) fo1 fal1 fo2 fal2 hq4 hb1 hn1 hu1 hfl1 hb2 hn2 hu2 hfl2) (cwV 1 hts gX5_within_X4_liesWithin rfl rfl rfl (by decide +kernel) ⟨Nat.le_of_ble_eq_true rfl, Nat.le_of_ble_eq_true rfl⟩) ⟨xB_blind, va_recv hK hP (ci := 4) rfl (xw_is (by omega) fo1), fun U hU hW => ⟨rfl, by rw [hU]; exact hP, va_K.moved hW.alike hK, va_Nw.warmM hW hN⟩⟩ rfl rfl hl.1 rfl (lv_room (Nat.le_of_ble_eq_true rfl)) dX5_within_25 ⟨Nat.le_of_ble_eq_true rfl, Nat.le_of_ble_eq_true rfl⟩)) (fun r3 er3 => ?_)
  subst er3
  refine xb_if_eq (tgt := 35) hx hb dX5_within_28 (by decide) (fun c28_4 => ?_) (fun c28_4 => ?_)
  · refine lv_iconst (v := nI (0)) hx hb dX5_within_35 (by decide) ?_
    exact W.zret (v := nI (0)) hx hb hr (by decide) (fun tZ ht _ => ⟨_, rfl, (by show _ = aWithin ln u _ _; subst en1 eu1; subst en2 eu2; unfold aWithin; rw [slotW_yes hk1 hp1, slotW_yes hk2 hp2]; exact xb0 c28_4), ht⟩) (fun q hq => by cases hq) dX5_within_36
  · refine lv_iconst (v := nI (1)) hx hb dX5_within_31 (by decide) ?_
    refine lv_goto (tgt := 36) hx hb dX5_within_32 (by decide) ?_
    exact W.zret (v := nI (1)) hx hb hr (by decide) (fun tZ ht _ => ⟨_, rfl, (by show _ = aWithin ln u _ _; subst en1 eu1; subst en2 eu2; unfold aWithin; rw [slotW_yes hk1 hp1, slotW_yes hk2 hp2]; exact xb1 c28_4), ht⟩) (fun q hq => by cases hq) dX5_within_36

set_option maxHeartbeats 4000000 in
set_option maxRecDepth 100000 in
theorem mX5_within_sn (l : Launch) {D : va_G} {cI cJ cZ cW : ClassId} {ad : Nat → Nat} {g : Nat → va_E} {q Wt : Nat} {w : Nat → Nat} {ln : Nat → Nat} {u : Nat → Nat → Nat} {T : Nat} {t : Nat → Nat} {tp bt : Int64} {k1 b1 n1 ol1 : Nat} {u1 sf1 : Nat → Nat} {xb : Int32}  (hC : ClsI cI cJ cZ cW ad g q Wt w ln u T t tp bt) (hs : SrcI q Wt w ln u T t) (hk1 : k1 < 8) (eb1 : 17 + 5 * k1 = b1) (en1 : ln k1 = n1) (eu1 : u k1 = u1) (es1 : shr Wt w u1 n1 = sf1) (eo1 : ownL Wt w u1 n1 = ol1) (hp1 : 0 < n1) (hxb : noW ln xb) : Met l yX5_within wsX5_within ({ frames := 2, cells := 0, slots := 0, locals := 45 }) (va_Pc [.ref (ad (0)), .int (nI (k1)), .int (xb)] (xB D (xT cI cJ cZ cW) ad g)) (vp_Si (fun r => r = aWithin ln u (nI (k1)) (xb))) 0 0 (fun _ => False) := by
  refine Met.ofW (cc := cX5_within) (maxL := 5) (ret := (some .boolean)) (by decide) rfl ?_
  intro p e s m args below meth c s₁ B hml hv
  obtain ⟨rfl, hP, hK, hN⟩ := hv
  have hx := B.exec
  have hb := B.bytes
  have hr := B.returns
  have hts := atoms_spec (ws := wsX5_within) B.pre
  have hown : s.vm.findClass RX5 = some m.cls := findClass_of_methodNamed B.named
  have hlocks := B.notSynchronized
  have hl := lv_entry ([.ref (ad (0)), .int (nI (k1)), .int (xb)]) (n := 5) (Nat.le_of_ble_eq_true rfl)
  rw [lg_entry_eq]
  generalize (lg_sl ([.ref (ad (0)), .int (nI (k1)), .int (xb)]) ++ List.replicate (5 - (lg_sl ([.ref (ad (0)), .int (nI (k1)), .int (xb)])).length) Slot.unset).toArray = ls at hl ⊢
  have hl : lv_has ls 5 [(0, .ref (ad (0))), (1, .int (nI (k1))), (2, .int (xb))] := hl
  obtain ⟨hq2, hq4, hw1, hw0, hWs, hWt, hw, hln, hul, hT, ht⟩ := hs
  obtain ⟨fo_0, ⟨f2, fo_1, fa_2, h2⟩, ⟨f3, fa_3, h3⟩, hRace, hMach, ⟨f16, fo15, fa16, h16⟩, hwd, hcand⟩ := id hC
  obtain ⟨fl1, fh1, ft1, fs1, fo1, fal1, fah1, fat1, fas1, hfl1, hfh1, hft1, hfs1⟩ := cw_pos hwd hk1 eb1 en1 eu1 es1 eo1 hp1
  have hb1 : b1 + 4 < 81 := by omega
  have hn1 : n1 ≤ 5 := en1 ▸ hln k1
  have hu1 : ∀ j, j < n1 → u1 j < q := fun j hj => by rw [← eu1]; exact hul k1 j (by rw [en1]; exact hj)
  have hwu1 : ∀ j, j < n1 → w (u1 j) ≤ 4 := fun j hj => hw _ (Nat.lt_of_lt_of_le (hu1 j hj) hq4)
  have hsf1 : ∀ k, k ≤ n1 → sf1 k ≤ 1024 := fun k hk => es1 ▸ shr_le hWt hwu1 hn1 hk
  have hs01 : 1 ≤ sf1 0 := es1 ▸ shr_0 (fun j hj => hw1 _ (hu1 j hj))
  have hol1 : ol1 ≤ 5120 := by rw [← eo1]; show lapS (shr Wt w u1 n1) u1 n1 u1 n1 5 ≤ 5120; rw [es1]; exact lapS_le hsf1 5
  refine lv_aload_n hx hb dX5_within_0 rfl (lv_at hl 0 rfl) ?_
  refine lv_iload_n hx hb dX5_within_1 rfl (lv_at hl 1 rfl) ?_
  refine va_csq (va_Run.run (va_runV (As := [.int (nI (k1))]) (rest := []) ⟨hx, hb, hml, hown, hts⟩ (mX5_wordIn_yes l fo_0 fa_3 fo1 h3 hk1 eb1 hp1 hn1) (cwV 1 hts gX5_within_X5_wordIn rfl rfl rfl (by decide +kernel) ⟨Nat.le_of_ble_eq_true rfl, Nat.le_of_ble_eq_true rfl⟩) ⟨xB_blind, va_recv hK hP (ci := 5) rfl (xw_is (by decide) fo_0), fun U hU hW => ⟨rfl, by rw [hU]; exact hP, va_K.moved hW.alike hK, va_Nw.warmM hW hN⟩⟩ rfl rfl hl.1 rfl (lv_room (Nat.le_of_ble_eq_true rfl)) dX5_within_2 ⟨Nat.le_of_ble_eq_true rfl, Nat.le_of_ble_eq_true rfl⟩)) (fun r1 er1 => ?_)
  subst er1
  refine W.eq (g2 := F0 m 5 ls (.ref (ad (b1)) :: [])) rfl ?_
  refine lv_astore_n (lv' := [(3, .ref (ad (b1))), (0, .ref (ad (0))), (1, .int (nI (k1))), (2, .int (xb))]) hx hb dX5_within_5 rfl hl (by decide) rfl (fun ls hl => ?_)
  refine lv_aload_n hx hb dX5_within_6 rfl (lv_at hl 1 rfl) ?_
  refine lv_iload_n hx hb dX5_within_7 rfl (lv_at hl 3 rfl) ?_
  refine va_csq (va_Run.run (va_runV (As := [.int (xb)]) (rest := []) ⟨hx, hb, hml, hown, hts⟩ (mX5_wordIn_no l fo_0 fa_3 h3 hwd hxb) (cwV 1 hts gX5_within_X5_wordIn rfl rfl rfl (by decide +kernel) ⟨Nat.le_of_ble_eq_true rfl, Nat.le_of_ble_eq_true rfl⟩) ⟨xB_blind, va_recv hK hP (ci := 5) rfl (xw_is (by decide) fo_0), fun U hU hW => ⟨rfl, by rw [hU]; exact hP, va_K.moved hW.alike hK, va_Nw.warmM hW hN⟩⟩ rfl rfl hl.1 rfl (lv_room (Nat.le_of_ble_eq_true rfl)) dX5_within_8 ⟨Nat.le_of_ble_eq_true rfl, Nat.le_of_ble_eq_true rfl⟩)) (fun r2 er2 => ?_)
  subst er2
  refine W.eq (g2 := F0 m 11 ls (.null :: [])) rfl ?_
  refine lv_astoreN (lv' := [(4, .null), (3, .ref (ad (b1))), (0, .ref (ad (0))), (1, .int (nI (k1))), (2, .int (xb))]) hx hb dX5_within_11 hl (by decide) rfl (fun ls hl => ?_)
  refine lv_aload_n hx hb dX5_within_13 rfl (lv_at hl 1 rfl) ?_
  refine lv_ifnull hx hb dX5_within_14 ?_
  refine lv_aloadN hx hb dX5_within_17 (lv_at hl 0 rfl) ?_
  refine lv_ifnullN (tgt := 35) hx hb dX5_within_19 (by decide) ?_
  refine lv_iconst (v := nI (0)) hx hb dX5_within_35 (by decide) ?_
  exact W.zret (v := nI (0)) hx hb hr (by decide) (fun tZ ht _ => ⟨_, rfl, (by show _ = aWithin ln u _ _; exact (slotW_2n hxb).symm), ht⟩) (fun q hq => by cases hq) dX5_within_36

set_option maxHeartbeats 4000000 in
set_option maxRecDepth 100000 in
theorem mX5_within_ns (l : Launch) {D : va_G} {cI cJ cZ cW : ClassId} {ad : Nat → Nat} {g : Nat → va_E} {q Wt : Nat} {w : Nat → Nat} {ln : Nat → Nat} {u : Nat → Nat → Nat} {T : Nat} {t : Nat → Nat} {tp bt : Int64} {xa : Int32} {k2 b2 n2 ol2 : Nat} {u2 sf2 : Nat → Nat}  (hC : ClsI cI cJ cZ cW ad g q Wt w ln u T t tp bt) (hs : SrcI q Wt w ln u T t) (hxa : noW ln xa) (hk2 : k2 < 8) (eb2 : 17 + 5 * k2 = b2) (en2 : ln k2 = n2) (eu2 : u k2 = u2) (es2 : shr Wt w u2 n2 = sf2) (eo2 : ownL Wt w u2 n2 = ol2) (hp2 : 0 < n2) : Met l yX5_within wsX5_within ({ frames := 2, cells := 0, slots := 0, locals := 45 }) (va_Pc [.ref (ad (0)), .int (xa), .int (nI (k2))] (xB D (xT cI cJ cZ cW) ad g)) (vp_Si (fun r => r = aWithin ln u (xa) (nI (k2)))) 0 0 (fun _ => False) := by
  refine Met.ofW (cc := cX5_within) (maxL := 5) (ret := (some .boolean)) (by decide) rfl ?_
  intro p e s m args below meth c s₁ B hml hv
  obtain ⟨rfl, hP, hK, hN⟩ := hv
  have hx := B.exec
  have hb := B.bytes
  have hr := B.returns
  have hts := atoms_spec (ws := wsX5_within) B.pre
  have hown : s.vm.findClass RX5 = some m.cls := findClass_of_methodNamed B.named
  have hlocks := B.notSynchronized
  have hl := lv_entry ([.ref (ad (0)), .int (xa), .int (nI (k2))]) (n := 5) (Nat.le_of_ble_eq_true rfl)
  rw [lg_entry_eq]
  generalize (lg_sl ([.ref (ad (0)), .int (xa), .int (nI (k2))]) ++ List.replicate (5 - (lg_sl ([.ref (ad (0)), .int (xa), .int (nI (k2))])).length) Slot.unset).toArray = ls at hl ⊢
  have hl : lv_has ls 5 [(0, .ref (ad (0))), (1, .int (xa)), (2, .int (nI (k2)))] := hl
  obtain ⟨hq2, hq4, hw1, hw0, hWs, hWt, hw, hln, hul, hT, ht⟩ := hs
  obtain ⟨fo_0, ⟨f2, fo_1, fa_2, h2⟩, ⟨f3, fa_3, h3⟩, hRace, hMach, ⟨f16, fo15, fa16, h16⟩, hwd, hcand⟩ := id hC
  obtain ⟨fl2, fh2, ft2, fs2, fo2, fal2, fah2, fat2, fas2, hfl2, hfh2, hft2, hfs2⟩ := cw_pos hwd hk2 eb2 en2 eu2 es2 eo2 hp2
  have hb2 : b2 + 4 < 81 := by omega
  have hn2 : n2 ≤ 5 := en2 ▸ hln k2
  have hu2 : ∀ j, j < n2 → u2 j < q := fun j hj => by rw [← eu2]; exact hul k2 j (by rw [en2]; exact hj)
  have hwu2 : ∀ j, j < n2 → w (u2 j) ≤ 4 := fun j hj => hw _ (Nat.lt_of_lt_of_le (hu2 j hj) hq4)
  have hsf2 : ∀ k, k ≤ n2 → sf2 k ≤ 1024 := fun k hk => es2 ▸ shr_le hWt hwu2 hn2 hk
  have hs02 : 1 ≤ sf2 0 := es2 ▸ shr_0 (fun j hj => hw1 _ (hu2 j hj))
  have hol2 : ol2 ≤ 5120 := by rw [← eo2]; show lapS (shr Wt w u2 n2) u2 n2 u2 n2 5 ≤ 5120; rw [es2]; exact lapS_le hsf2 5
  refine lv_aload_n hx hb dX5_within_0 rfl (lv_at hl 0 rfl) ?_
  refine lv_iload_n hx hb dX5_within_1 rfl (lv_at hl 1 rfl) ?_
  refine va_csq (va_Run.run (va_runV (As := [.int (xa)]) (rest := []) ⟨hx, hb, hml, hown, hts⟩ (mX5_wordIn_no l fo_0 fa_3 h3 hwd hxa) (cwV 1 hts gX5_within_X5_wordIn rfl rfl rfl (by decide +kernel) ⟨Nat.le_of_ble_eq_true rfl, Nat.le_of_ble_eq_true rfl⟩) ⟨xB_blind, va_recv hK hP (ci := 5) rfl (xw_is (by decide) fo_0), fun U hU hW => ⟨rfl, by rw [hU]; exact hP, va_K.moved hW.alike hK, va_Nw.warmM hW hN⟩⟩ rfl rfl hl.1 rfl (lv_room (Nat.le_of_ble_eq_true rfl)) dX5_within_2 ⟨Nat.le_of_ble_eq_true rfl, Nat.le_of_ble_eq_true rfl⟩)) (fun r1 er1 => ?_)
  subst er1
  refine W.eq (g2 := F0 m 5 ls (.null :: [])) rfl ?_
  refine lv_astore_nN (lv' := [(3, .null), (0, .ref (ad (0))), (1, .int (xa)), (2, .int (nI (k2)))]) hx hb dX5_within_5 rfl hl (by decide) rfl (fun ls hl => ?_)
  refine lv_aload_n hx hb dX5_within_6 rfl (lv_at hl 1 rfl) ?_
  refine lv_iload_n hx hb dX5_within_7 rfl (lv_at hl 3 rfl) ?_
  refine va_csq (va_Run.run (va_runV (As := [.int (nI (k2))]) (rest := []) ⟨hx, hb, hml, hown, hts⟩ (mX5_wordIn_yes l fo_0 fa_3 fo2 h3 hk2 eb2 hp2 hn2) (cwV 1 hts gX5_within_X5_wordIn rfl rfl rfl (by decide +kernel) ⟨Nat.le_of_ble_eq_true rfl, Nat.le_of_ble_eq_true rfl⟩) ⟨xB_blind, va_recv hK hP (ci := 5) rfl (xw_is (by decide) fo_0), fun U hU hW => ⟨rfl, by rw [hU]; exact hP, va_K.moved hW.alike hK, va_Nw.warmM hW hN⟩⟩ rfl rfl hl.1 rfl (lv_room (Nat.le_of_ble_eq_true rfl)) dX5_within_8 ⟨Nat.le_of_ble_eq_true rfl, Nat.le_of_ble_eq_true rfl⟩)) (fun r2 er2 => ?_)
  subst er2
  refine W.eq (g2 := F0 m 11 ls (.ref (ad (b2)) :: [])) rfl ?_
  refine lv_astore (lv' := [(4, .ref (ad (b2))), (3, .null), (0, .ref (ad (0))), (1, .int (xa)), (2, .int (nI (k2)))]) hx hb dX5_within_11 hl (by decide) rfl (fun ls hl => ?_)
  refine lv_aload_nN hx hb dX5_within_13 rfl (lv_at hl 1 rfl) ?_
  refine lv_ifnullN (tgt := 35) hx hb dX5_within_14 (by decide) ?_
  refine lv_iconst (v := nI (0)) hx hb dX5_within_35 (by decide) ?_
  exact W.zret (v := nI (0)) hx hb hr (by decide) (fun tZ ht _ => ⟨_, rfl, (by show _ = aWithin ln u _ _; unfold aWithin; rw [slotW_no hxa]; rfl), ht⟩) (fun q hq => by cases hq) dX5_within_36

set_option maxHeartbeats 4000000 in
set_option maxRecDepth 100000 in
theorem mX5_within_nn (l : Launch) {D : va_G} {cI cJ cZ cW : ClassId} {ad : Nat → Nat} {g : Nat → va_E} {q Wt : Nat} {w : Nat → Nat} {ln : Nat → Nat} {u : Nat → Nat → Nat} {T : Nat} {t : Nat → Nat} {tp bt : Int64} {xa : Int32} {xb : Int32}  (hC : ClsI cI cJ cZ cW ad g q Wt w ln u T t tp bt) (hs : SrcI q Wt w ln u T t) (hxa : noW ln xa) (hxb : noW ln xb) : Met l yX5_within wsX5_within ({ frames := 2, cells := 0, slots := 0, locals := 45 }) (va_Pc [.ref (ad (0)), .int (xa), .int (xb)] (xB D (xT cI cJ cZ cW) ad g)) (vp_Si (fun r => r = aWithin ln u (xa) (xb))) 0 0 (fun _ => False) := by
  refine Met.ofW (cc := cX5_within) (maxL := 5) (ret := (some .boolean)) (by decide) rfl ?_
  intro p e s m args below meth c s₁ B hml hv
  obtain ⟨rfl, hP, hK, hN⟩ := hv
  have hx := B.exec
  have hb := B.bytes
  have hr := B.returns
  have hts := atoms_spec (ws := wsX5_within) B.pre
  have hown : s.vm.findClass RX5 = some m.cls := findClass_of_methodNamed B.named
  have hlocks := B.notSynchronized
  have hl := lv_entry ([.ref (ad (0)), .int (xa), .int (xb)]) (n := 5) (Nat.le_of_ble_eq_true rfl)
  rw [lg_entry_eq]
  generalize (lg_sl ([.ref (ad (0)), .int (xa), .int (xb)]) ++ List.replicate (5 - (lg_sl ([.ref (ad (0)), .int (xa), .int (xb)])).length) Slot.unset).toArray = ls at hl ⊢
  have hl : lv_has ls 5 [(0, .ref (ad (0))), (1, .int (xa)), (2, .int (xb))] := hl
  obtain ⟨hq2, hq4, hw1, hw0, hWs, hWt, hw, hln, hul, hT, ht⟩ := hs
  obtain ⟨fo_0, ⟨f2, fo_1, fa_2, h2⟩, ⟨f3, fa_3, h3⟩, hRace, hMach, ⟨f16, fo15, fa16, h16⟩, hwd, hcand⟩ := id hC
  refine lv_aload_n hx hb dX5_within_0 rfl (lv_at hl 0 rfl) ?_
  refine lv_iload_n hx hb dX5_within_1 rfl (lv_at hl 1 rfl) ?_
  refine va_csq (va_Run.run (va_runV (As := [.int (xa)]) (rest := []) ⟨hx, hb, hml, hown, hts⟩ (mX5_wordIn_no l fo_0 fa_3 h3 hwd hxa) (cwV 1 hts gX5_within_X5_wordIn rfl rfl rfl (by decide +kernel) ⟨Nat.le_of_ble_eq_true rfl, Nat.le_of_ble_eq_true rfl⟩) ⟨xB_blind, va_recv hK hP (ci := 5) rfl (xw_is (by decide) fo_0), fun U hU hW => ⟨rfl, by rw [hU]; exact hP, va_K.moved hW.alike hK, va_Nw.warmM hW hN⟩⟩ rfl rfl hl.1 rfl (lv_room (Nat.le_of_ble_eq_true rfl)) dX5_within_2 ⟨Nat.le_of_ble_eq_true rfl, Nat.le_of_ble_eq_true rfl⟩)) (fun r1 er1 => ?_)
  subst er1
  refine W.eq (g2 := F0 m 5 ls (.null :: [])) rfl ?_
  refine lv_astore_nN (lv' := [(3, .null), (0, .ref (ad (0))), (1, .int (xa)), (2, .int (xb))]) hx hb dX5_within_5 rfl hl (by decide) rfl (fun ls hl => ?_)
  refine lv_aload_n hx hb dX5_within_6 rfl (lv_at hl 1 rfl) ?_
  refine lv_iload_n hx hb dX5_within_7 rfl (lv_at hl 3 rfl) ?_
  refine va_csq (va_Run.run (va_runV (As := [.int (xb)]) (rest := []) ⟨hx, hb, hml, hown, hts⟩ (mX5_wordIn_no l fo_0 fa_3 h3 hwd hxb) (cwV 1 hts gX5_within_X5_wordIn rfl rfl rfl (by decide +kernel) ⟨Nat.le_of_ble_eq_true rfl, Nat.le_of_ble_eq_true rfl⟩) ⟨xB_blind, va_recv hK hP (ci := 5) rfl (xw_is (by decide) fo_0), fun U hU hW => ⟨rfl, by rw [hU]; exact hP, va_K.moved hW.alike hK, va_Nw.warmM hW hN⟩⟩ rfl rfl hl.1 rfl (lv_room (Nat.le_of_ble_eq_true rfl)) dX5_within_8 ⟨Nat.le_of_ble_eq_true rfl, Nat.le_of_ble_eq_true rfl⟩)) (fun r2 er2 => ?_)
  subst er2
  refine W.eq (g2 := F0 m 11 ls (.null :: [])) rfl ?_
  refine lv_astoreN (lv' := [(4, .null), (3, .null), (0, .ref (ad (0))), (1, .int (xa)), (2, .int (xb))]) hx hb dX5_within_11 hl (by decide) rfl (fun ls hl => ?_)
  refine lv_aload_nN hx hb dX5_within_13 rfl (lv_at hl 1 rfl) ?_
  refine lv_ifnullN (tgt := 35) hx hb dX5_within_14 (by decide) ?_
  refine lv_iconst (v := nI (0)) hx hb dX5_within_35 (by decide) ?_
  exact W.zret (v := nI (0)) hx hb hr (by decide) (fun tZ ht _ => ⟨_, rfl, (by show _ = aWithin ln u _ _; exact (slotW_2n hxb).symm), ht⟩) (fun q hq => by cases hq) dX5_within_36

theorem mX5_within (l : Launch) {D : va_G} {cI cJ cZ cW : ClassId} {ad : Nat → Nat} {g : Nat → va_E} {q Wt : Nat} {w : Nat → Nat} {ln : Nat → Nat} {u : Nat → Nat → Nat} {T : Nat} {t : Nat → Nat} {tp bt : Int64} (hC : ClsI cI cJ cZ cW ad g q Wt w ln u T t tp bt) (hs : SrcI q Wt w ln u T t) (xa xb : Int32) : Met l yX5_within wsX5_within ({ frames := 2, cells := 0, slots := 0, locals := 45 }) (va_Pc [.ref (ad (0)), .int xa, .int xb] (xB D (xT cI cJ cZ cW) ad g)) (vp_Si (fun r => r = aWithin ln u (xa) (xb))) 0 0 (fun _ => False) := by
  rcases slotW_cases ln xa with hxa | ⟨k1, hk1, rfl, hp1⟩
  · rcases slotW_cases ln xb with hxb | ⟨k2, hk2, rfl, hp2⟩
    · exact mX5_within_nn l hC hs hxa hxb
    · exact mX5_within_ns l hC hs hxa hk2 rfl rfl rfl rfl rfl hp2
  · rcases slotW_cases ln xb with hxb | ⟨k2, hk2, rfl, hp2⟩
    · exact mX5_within_sn l hC hs hk1 rfl rfl rfl rfl rfl hp1 hxb
    · exact mX5_within_ss l hC hs hk1 rfl rfl rfl rfl rfl hp1 hk2 rfl rfl rfl rfl rfl hp2

set_option maxHeartbeats 4000000 in
set_option maxRecDepth 100000 in
theorem mX5_top (l : Launch) {D : va_G} {cI cJ cZ cW : ClassId} {ad : Nat → Nat} {g : Nat → va_E} {q Wt : Nat} {w : Nat → Nat} {ln : Nat → Nat} {u : Nat → Nat → Nat} {T : Nat} {t : Nat → Nat} {tp bt : Int64}  (hC : ClsI cI cJ cZ cW ad g q Wt w ln u T t tp bt) (hs : SrcI q Wt w ln u T t) : Met l yX5_top wsX5_top ({ frames := 0, cells := 0, slots := 0, locals := 0 }) (va_Pc [.ref (ad (0))] (xB D (xT cI cJ cZ cW) ad g)) (vp_Sl (fun r => r = tp)) 0 0 (fun _ => False) := by
  refine Met.ofW (cc := cX5_top) (maxL := 1) (ret := (some .long)) (by decide) rfl ?_
  intro p e s m args below meth c s₁ B hml hv
  obtain ⟨rfl, hP, hK, hN⟩ := hv
  have hx := B.exec
  have hb := B.bytes
  have hr := B.returns
  have hts := atoms_spec (ws := wsX5_top) B.pre
  have hown : s.vm.findClass RX5 = some m.cls := findClass_of_methodNamed B.named
  have hlocks := B.notSynchronized
  have hin5 : ∀ w ∈ wsX50, w ∈ wsX5_top := by decide +kernel
  have hf48 := hts (.fieldLink RX5 48 "LettersByLot" "topAtHand" "J") (by decide +kernel)
  have hl := lv_entry ([.ref (ad (0))]) (n := 1) (Nat.le_of_ble_eq_true rfl)
  rw [lg_entry_eq]
  generalize (lg_sl ([.ref (ad (0))]) ++ List.replicate (1 - (lg_sl ([.ref (ad (0))])).length) Slot.unset).toArray = ls at hl ⊢
  have hl : lv_has ls 1 [(0, .ref (ad (0)))] := hl
  obtain ⟨hq2, hq4, hw1, hw0, hWs, hWt, hw, hln, hul, hT, ht⟩ := hs
  obtain ⟨fo_0, ⟨f2, fo_1, fa_2, h2⟩, ⟨f3, fa_3, h3⟩, hRace, hMach, ⟨f16, fo15, fa16, h16⟩, hwd, hcand⟩ := id hC
  refine lv_aload_n hx hb dX5_top_0 rfl (lv_at hl 0 rfl) ?_
  refine xw_get hx hb hts hin5 hown hK hP (by decide) fo_0 rfl 6 (by decide) hf48 rfl rfl dX5_top_1 ?_
  exact W.lret (v := tp) hx hb hr (fun tZ ht _ => ⟨_, rfl, rfl, ht⟩) (fun q hq => by cases hq) dX5_top_4

set_option maxHeartbeats 4000000 in
set_option maxRecDepth 100000 in
theorem mX5_bottom (l : Launch) {D : va_G} {cI cJ cZ cW : ClassId} {ad : Nat → Nat} {g : Nat → va_E} {q Wt : Nat} {w : Nat → Nat} {ln : Nat → Nat} {u : Nat → Nat → Nat} {T : Nat} {t : Nat → Nat} {tp bt : Int64}  (hC : ClsI cI cJ cZ cW ad g q Wt w ln u T t tp bt) (hs : SrcI q Wt w ln u T t) : Met l yX5_bottom wsX5_bottom ({ frames := 0, cells := 0, slots := 0, locals := 0 }) (va_Pc [.ref (ad (0))] (xB D (xT cI cJ cZ cW) ad g)) (vp_Sl (fun r => r = bt)) 0 0 (fun _ => False) := by
  refine Met.ofW (cc := cX5_bottom) (maxL := 1) (ret := (some .long)) (by decide) rfl ?_
  intro p e s m args below meth c s₁ B hml hv
  obtain ⟨rfl, hP, hK, hN⟩ := hv
  have hx := B.exec
  have hb := B.bytes
  have hr := B.returns
  have hts := atoms_spec (ws := wsX5_bottom) B.pre
  have hown : s.vm.findClass RX5 = some m.cls := findClass_of_methodNamed B.named
  have hlocks := B.notSynchronized
  have hin5 : ∀ w ∈ wsX50, w ∈ wsX5_bottom := by decide +kernel
  have hf52 := hts (.fieldLink RX5 52 "LettersByLot" "bottomAtHand" "J") (by decide +kernel)
  have hl := lv_entry ([.ref (ad (0))]) (n := 1) (Nat.le_of_ble_eq_true rfl)
  rw [lg_entry_eq]
  generalize (lg_sl ([.ref (ad (0))]) ++ List.replicate (1 - (lg_sl ([.ref (ad (0))])).length) Slot.unset).toArray = ls at hl ⊢
  have hl : lv_has ls 1 [(0, .ref (ad (0)))] := hl
  obtain ⟨hq2, hq4, hw1, hw0, hWs, hWt, hw, hln, hul, hT, ht⟩ := hs
  obtain ⟨fo_0, ⟨f2, fo_1, fa_2, h2⟩, ⟨f3, fa_3, h3⟩, hRace, hMach, ⟨f16, fo15, fa16, h16⟩, hwd, hcand⟩ := id hC
  refine lv_aload_n hx hb dX5_bottom_0 rfl (lv_at hl 0 rfl) ?_
  refine xw_get hx hb hts hin5 hown hK hP (by decide) fo_0 rfl 7 (by decide) hf52 rfl rfl dX5_bottom_1 ?_
  exact W.lret (v := bt) hx hb hr (fun tZ ht _ => ⟨_, rfl, rfl, ht⟩) (fun q hq => by cases hq) dX5_bottom_4
