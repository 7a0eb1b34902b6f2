set_option maxHeartbeats 4000000 in
set_option maxRecDepth 100000 in
/-- Word.lapsBy -/
theorem mX4_lapsBy (l : Launch) {D : va_G} {cI cJ cZ cW : ClassId} {ad : Nat → Nat} {g : Nat → va_E} {q k : Nat} {b1 n1 : Nat} {u1 : Nat → Nat} {co1 : Int32} {ow1 : Int64} {ft1 : Nat → Int32} {b2 n2 : Nat} {u2 : Nat → Nat} {co2 : Int32} {ow2 : Int64} {fh2 : Nat → Int32}  (fo1 : g (b1) = .inr (4, [.ref (ad (b1 + 1)), .ref (ad (b1 + 2)), .ref (ad (b1 + 3)), .ref (ad (b1 + 4)), .int (nI (n1)), .int (co1), .long (ow1)])) (fat1 : g (b1 + 3) = .inl (cI, 6, .inl (ft1))) (fo2 : g (b2) = .inr (4, [.ref (ad (b2 + 1)), .ref (ad (b2 + 2)), .ref (ad (b2 + 3)), .ref (ad (b2 + 4)), .int (nI (n2)), .int (co2), .long (ow2)])) (fah2 : g (b2 + 2) = .inl (cI, 6, .inl (fh2))) (hq4 : q ≤ 4) (hb1 : b1 + 4 < 81) (hn1 : n1 ≤ 5) (hu1 : ∀ j, j < n1 → u1 j < q) (hft1 : ∀ k, k ≤ n1 → ft1 k = nI (px q (fun j => u1 (n1 - k + j)) k)) (hb2 : b2 + 4 < 81) (hn2 : n2 ≤ 5) (hu2 : ∀ j, j < n2 → u2 j < q) (hfh2 : ∀ k, k ≤ n2 → fh2 k = nI (px q u2 k)) (hk1 : k ≤ n1) (hk2 : k ≤ n2) : Met l yX4_lapsBy wsX4_lapsBy ({ frames := 0, cells := 0, slots := 0, locals := 0 }) (va_Pc [.ref (ad (b1)), .int (nI (k)), .ref (ad (b2))] (xB D (xT cI cJ cZ cW) ad g)) (vp_Si (fun r => r = if lapD u1 n1 u2 k then 1 else 0)) 0 0 (fun _ => False) := by
  refine Met.ofW (cc := cX4_lapsBy) (maxL := 3) (ret := (some .boolean)) (by decide) rfl ?_
  intro p e s m args below meth c s₁ B hml hv
  obtain ⟨rfl, hP, hK, hN⟩ := hv
  have hx := B.exec
  have hb := B.bytes
  have hr := B.returns
  have hts := atoms_spec (ws := wsX4_lapsBy) B.pre
  have hown : s.vm.findClass RX4 = some m.cls := findClass_of_methodNamed B.named
  have hlocks := B.notSynchronized
  have hin4 : ∀ w ∈ wsX40, w ∈ wsX4_lapsBy := by decide +kernel
  have hf15 := hts (.fieldLink RX4 15 "LettersByLot$Word" "heads" "[I") (by decide +kernel)
  have hf18 := hts (.fieldLink RX4 18 "LettersByLot$Word" "tails" "[I") (by decide +kernel)
  have hl := lv_entry ([.ref (ad (b1)), .int (nI (k)), .ref (ad (b2))]) (n := 3) (Nat.le_of_ble_eq_true rfl)
  rw [lg_entry_eq]
  generalize (lg_sl ([.ref (ad (b1)), .int (nI (k)), .ref (ad (b2))]) ++ List.replicate (3 - (lg_sl ([.ref (ad (b1)), .int (nI (k)), .ref (ad (b2))])).length) Slot.unset).toArray = ls at hl ⊢
  have hl : lv_has ls 3 [(0, .ref (ad (b1))), (1, .int (nI (k))), (2, .ref (ad (b2)))] := hl
  refine lv_aload_n hx hb dX4_lapsBy_0 rfl (lv_at hl 0 rfl) ?_
  refine xw_get hx hb hts hin4 hown hK hP (by omega) fo1 rfl 2 (by decide) hf18 rfl rfl dX4_lapsBy_1 ?_
  refine lv_iload_n hx hb dX4_lapsBy_4 rfl (lv_at hl 1 rfl) ?_
  refine xw_iald hx hb hK hP (by omega) 0 fat1 rfl (by omega) (by decide) dX4_lapsBy_5 ?_
  rw [hft1 (k) (by omega)]
  refine lv_aload_n hx hb dX4_lapsBy_6 rfl (lv_at hl 2 rfl) ?_
  refine xw_get hx hb hts hin4 hown hK hP (by omega) fo2 rfl 1 (by decide) hf15 rfl rfl dX4_lapsBy_7 ?_
  refine lv_iload_n hx hb dX4_lapsBy_10 rfl (lv_at hl 1 rfl) ?_
  refine xw_iald hx hb hK hP (by omega) 0 fah2 rfl (by omega) (by decide) dX4_lapsBy_11 ?_
  rw [hfh2 (k) (by omega)]
  refine xi_icmp_ne (tgt := 19) hx hb (px_small hq4 (by omega) (fun j hj => hu1 _ (by omega))) (px_small hq4 (by omega) (fun j hj => hu2 _ (by omega))) dX4_lapsBy_12 (by decide) (fun c12_1 => ?_) (fun c12_1 => ?_)
  · refine lv_iconst (v := nI (0)) hx hb dX4_lapsBy_19 (by decide) ?_
    exact W.zret (v := nI (0)) hx hb hr (by decide) (fun tZ ht _ => ⟨_, rfl, (xb0 <| fun h => c12_1 ((lapD_iff (by omega) hu1 (fun j hj => hu2 j (by omega))).mpr h)), ht⟩) (fun q hq => by cases hq) dX4_lapsBy_20
  · refine lv_iconst (v := nI (1)) hx hb dX4_lapsBy_15 (by decide) ?_
    refine lv_goto (tgt := 20) hx hb dX4_lapsBy_16 (by decide) ?_
    exact W.zret (v := nI (1)) hx hb hr (by decide) (fun tZ ht _ => ⟨_, rfl, (xb1 <| (lapD_iff (by omega) hu1 (fun j hj => hu2 j (by omega))).mp c12_1), ht⟩) (fun q hq => by cases hq) dX4_lapsBy_20

set_option maxHeartbeats 4000000 in
set_option maxRecDepth 100000 in
/-- Word.lapsOn -/
theorem mX4_lapsOn (l : Launch) {D : va_G} {cI cJ cZ cW : ClassId} {ad : Nat → Nat} {g : Nat → va_E} {q : Nat} {b1 n1 : Nat} {u1 : Nat → Nat} {co1 : Int32} {ow1 : Int64} {ft1 : Nat → Int32} {b2 n2 : Nat} {u2 : Nat → Nat} {co2 : Int32} {ow2 : Int64} {fh2 : Nat → Int32}  (fo1 : g (b1) = .inr (4, [.ref (ad (b1 + 1)), .ref (ad (b1 + 2)), .ref (ad (b1 + 3)), .ref (ad (b1 + 4)), .int (nI (n1)), .int (co1), .long (ow1)])) (fat1 : g (b1 + 3) = .inl (cI, 6, .inl (ft1))) (fo2 : g (b2) = .inr (4, [.ref (ad (b2 + 1)), .ref (ad (b2 + 2)), .ref (ad (b2 + 3)), .ref (ad (b2 + 4)), .int (nI (n2)), .int (co2), .long (ow2)])) (fah2 : g (b2 + 2) = .inl (cI, 6, .inl (fh2))) (hq4 : q ≤ 4) (hb1 : b1 + 4 < 81) (hn1 : n1 ≤ 5) (hu1 : ∀ j, j < n1 → u1 j < q) (hft1 : ∀ k, k ≤ n1 → ft1 k = nI (px q (fun j => u1 (n1 - k + j)) k)) (hb2 : b2 + 4 < 81) (hn2 : n2 ≤ 5) (hu2 : ∀ j, j < n2 → u2 j < q) (hfh2 : ∀ k, k ≤ n2 → fh2 k = nI (px q u2 k)) : Met l yX4_lapsOn wsX4_lapsOn ({ frames := 1, cells := 0, slots := 0, locals := 22 }) (va_Pc [.ref (ad (b1)), .ref (ad (b2))] (xB D (xT cI cJ cZ cW) ad g)) (vp_Si (fun r => r = nI (lapB u1 n1 u2 n2 5))) 0 0 (fun _ => False) := by
  refine Met.ofW (cc := cX4_lapsOn) (maxL := 5) (ret := (some .int)) (by decide) rfl ?_
  intro p e s m args below meth c s₁ B hml hv
  obtain ⟨rfl, hP, hK, hN⟩ := hv
  have hx := B.exec
  have hb := B.bytes
  have hr := B.returns
  have hts := atoms_spec (ws := wsX4_lapsOn) B.pre
  have hown : s.vm.findClass RX4 = some m.cls := findClass_of_methodNamed B.named
  have hlocks := B.notSynchronized
  have hin4 : ∀ w ∈ wsX40, w ∈ wsX4_lapsOn := by decide +kernel
  have hf25 := hts (.fieldLink RX4 25 "LettersByLot$Word" "length" "I") (by decide +kernel)
  have hl := lv_entry ([.ref (ad (b1)), .ref (ad (b2))]) (n := 5) (Nat.le_of_ble_eq_true rfl)
  rw [lg_entry_eq]
  generalize (lg_sl ([.ref (ad (b1)), .ref (ad (b2))]) ++ List.replicate (5 - (lg_sl ([.ref (ad (b1)), .ref (ad (b2))])).length) Slot.unset).toArray = ls at hl ⊢
  have hl : lv_has ls 5 [(0, .ref (ad (b1))), (1, .ref (ad (b2)))] := hl
  refine lv_iconst (v := nI (0)) hx hb dX4_lapsOn_0 (by decide) ?_
  refine lv_istore_n (lv' := [(2, .int (nI (0))), (0, .ref (ad (b1))), (1, .ref (ad (b2)))]) hx hb dX4_lapsOn_1 rfl hl (by decide) rfl (fun ls hl => ?_)
  refine lv_aload_n hx hb dX4_lapsOn_2 rfl (lv_at hl 1 rfl) ?_
  refine xw_get hx hb hts hin4 hown hK hP (by omega) fo1 rfl 4 (by decide) hf25 rfl rfl dX4_lapsOn_3 ?_
  refine lv_aload_n hx hb dX4_lapsOn_6 rfl (lv_at hl 2 rfl) ?_
  refine xw_get hx hb hts hin4 hown hK hP (by omega) fo2 rfl 4 (by decide) hf25 rfl rfl dX4_lapsOn_7 ?_
  refine va_mmin hx hb (hml.trans hl.1.symm) hown (hts (.methodLink RX4 58 Lib.Math.min.name) (by decide +kernel)) (hts (.static Lib.Math.min.name) (by decide +kernel)) (hts (.initialized "java/lang/Math") (by decide +kernel)) (hts (.code Lib.Math.min.name Lib.Math.min.code 2 (some .int)) (by decide +kernel)) (Nat.le_of_ble_eq_true rfl) (Nat.le_of_ble_eq_true rfl) (Nat.zero_le _) (Nat.zero_le _) dX4_lapsOn_10 ?_
  refine xtopi (y := nI (min (n1) (n2))) (nI_min (by omega) (by omega)) ?_
  refine lv_istore_n (lv' := [(3, .int (nI (min n1 n2))), (2, .int (nI (0))), (0, .ref (ad (b1))), (1, .ref (ad (b2)))]) hx hb dX4_lapsOn_13 rfl hl (by decide) rfl (fun ls hl => ?_)
  refine lv_iconst (v := nI (1)) hx hb dX4_lapsOn_14 (by decide) ?_
  refine lv_istore (lv' := [(4, .int (nI (1))), (3, .int (nI (min n1 n2))), (2, .int (nI (0))), (0, .ref (ad (b1))), (1, .ref (ad (b2)))]) hx hb dX4_lapsOn_15 hl (by decide) rfl (fun ls hl => ?_)
  refine xloop (G := fun fr => W p l e _ s m _ below meth c _ _ _ _ _ fr) (σ := Nat) (fun i ls => F0 m 17 ls []) (fun i ls => (i ≤ min n1 n2) ∧ lv_has ls 5 [(0, .ref (ad (b1))), (1, .ref (ad (b2))), (2, .int (nI (lapB u1 n1 u2 n2 i))), (3, .int (nI (min n1 n2))), (4, .int (nI (i + 1)))]) (fun i => 6 - i) ?_ (0) ls ⟨(by omega), (lv_sub hl [3, 4, 2, 1, 0] rfl)⟩
  rintro i ls ⟨hi, hl⟩ ih17
  refine lv_iload hx hb dX4_lapsOn_17 (lv_at hl 4 rfl) ?_
  refine lv_iload_n hx hb dX4_lapsOn_19 rfl (lv_at hl 3 rfl) ?_
  refine xi_icmp_gt (tgt := 52) hx hb (by omega) (by omega) dX4_lapsOn_20 (by decide) (fun c20_1 => ?_) (fun c20_1 => ?_)
  · refine lv_iload_n hx hb dX4_lapsOn_52 rfl (lv_at hl 2 rfl) ?_
    exact W.iret (v := nI (lapB u1 n1 u2 n2 i)) hx hb hr (fun tZ ht _ => ⟨_, rfl, (by show _ = _; rw [lapB_5 (by omega) (by omega)]), ht⟩) (fun q hq => by cases hq) dX4_lapsOn_53
  · refine lv_iload_n hx hb dX4_lapsOn_23 rfl (lv_at hl 2 rfl) ?_
    refine lv_aload_n hx hb dX4_lapsOn_24 rfl (lv_at hl 0 rfl) ?_
    refine lv_iload hx hb dX4_lapsOn_25 (lv_at hl 4 rfl) ?_
    refine lv_aload_n hx hb dX4_lapsOn_27 rfl (lv_at hl 1 rfl) ?_
    refine vp_callSi (va_Run.run (va_runV (As := [.int (nI (i + 1)), .ref (ad (b2))]) (rest := [.int (nI (lapB u1 n1 u2 n2 i))]) ⟨hx, hb, hml, hown, hts⟩ (mX4_lapsBy l (q := q) (k := i + 1) fo1 fat1 fo2 fah2 hq4 hb1 hn1 hu1 hft1 hb2 hn2 hu2 hfh2 (by omega) (by omega)) (cwV 2 hts gX4_lapsOn_X4_lapsBy rfl rfl rfl (by decide +kernel) ⟨Nat.le_of_ble_eq_true rfl, Nat.le_of_ble_eq_true rfl⟩) ⟨xB_blind, va_recv hK hP (ci := 4) rfl (xw_is (by omega) fo1), fun U hU hW => ⟨rfl, by rw [hU]; exact hP, va_K.moved hW.alike hK, va_Nw.warmM hW hN⟩⟩ rfl rfl hl.1 rfl (lv_room (Nat.le_of_ble_eq_true rfl)) dX4_lapsOn_28 ⟨Nat.le_of_ble_eq_true rfl, Nat.le_of_ble_eq_true rfl⟩)) (fun r2 er2 => ?_)
    subst er2
    refine xb_if_eq (tgt := 43) hx hb dX4_lapsOn_31 (by decide) (fun c31_3 => ?_) (fun c31_3 => ?_)
    · refine lv_iconst (v := nI (0)) hx hb dX4_lapsOn_43 (by decide) ?_
      refine lv_ior hx hb dX4_lapsOn_44 ?_
      refine xtopi (y := nI (lapB u1 n1 u2 n2 (i + 1))) (by rw [nI_or, Nat.or_zero, lapB_n c31_3]) ?_
      refine lv_istore_n (lv' := [(2, .int (nI (lapB u1 n1 u2 n2 (i + 1)))), (0, .ref (ad (b1))), (1, .ref (ad (b2))), (3, .int (nI (min n1 n2))), (4, .int (nI (i + 1)))]) hx hb dX4_lapsOn_45 rfl hl (by decide) rfl (fun ls hl => ?_)
      refine lv_iinc (v := nI (i + 1 + 1)) (lv' := [(4, .int (nI (i + 1 + 1))), (2, .int (nI (lapB u1 n1 u2 n2 (i + 1)))), (0, .ref (ad (b1))), (1, .ref (ad (b2))), (3, .int (nI (min n1 n2)))]) hx hb dX4_lapsOn_46 hl (k := 4) rfl (nI_add (i + 1) 1) (by decide) rfl (fun ls hl => ?_)
      refine lv_goto (tgt := 17) hx hb dX4_lapsOn_49 (by decide) ?_
      exact ih17 (i + 1) ls ⟨(by omega), (lv_sub hl [2, 3, 1, 4, 0] rfl)⟩ (by first | omega | (dsimp only; omega))
    · refine lv_iconst (v := nI (1)) hx hb dX4_lapsOn_34 (by decide) ?_
      refine lv_iload hx hb dX4_lapsOn_35 (lv_at hl 4 rfl) ?_
      refine lv_iconst (v := nI (1)) hx hb dX4_lapsOn_37 (by decide) ?_
      refine xi_sub hx hb (by omega) dX4_lapsOn_38 ?_
      refine lv_ishl hx hb dX4_lapsOn_39 ?_
      refine xtopi (y := nI (2 ^ i)) (by rw [Nat.add_sub_cancel]; exact nI_shl1 (by omega)) ?_
      refine lv_goto (tgt := 44) hx hb dX4_lapsOn_40 (by decide) ?_
      refine lv_ior hx hb dX4_lapsOn_44 ?_
      refine xtopi (y := nI (lapB u1 n1 u2 n2 (i + 1))) (by rw [nI_or, lapB_y (by omega) (by omega) c31_3]) ?_
      refine lv_istore_n (lv' := [(2, .int (nI (lapB u1 n1 u2 n2 (i + 1)))), (0, .ref (ad (b1))), (1, .ref (ad (b2))), (3, .int (nI (min n1 n2))), (4, .int (nI (i + 1)))]) hx hb dX4_lapsOn_45 rfl hl (by decide) rfl (fun ls hl => ?_)
      refine lv_iinc (v := nI (i + 1 + 1)) (lv' := [(4, .int (nI (i + 1 + 1))), (2, .int (nI (lapB u1 n1 u2 n2 (i + 1)))), (0, .ref (ad (b1))), (1, .ref (ad (b2))), (3, .int (nI (min n1 n2)))]) hx hb dX4_lapsOn_46 hl (k := 4) rfl (nI_add (i + 1) 1) (by decide) rfl (fun ls hl => ?_)
      refine lv_goto (tgt := 17) hx hb dX4_lapsOn_49 (by decide) ?_
      exact ih17 (i + 1) ls ⟨(by omega), (lv_sub hl [2, 3, 1, 4, 0] rfl)⟩ (by first | omega | (dsimp only; omega))

set_option maxHeartbeats 4000000 in
set_option maxRecDepth 100000 in
/-- Word.leadOn -/
theorem mX4_leadOn (l : Launch) {D : va_G} {cI cJ cZ cW : ClassId} {ad : Nat → Nat} {g : Nat → va_E} {q : Nat} {b1 n1 : Nat} {u1 : Nat → Nat} {co1 : Int32} {ow1 : Int64} {ft1 : Nat → Int32} {b2 n2 : Nat} {u2 : Nat → Nat} {co2 : Int32} {ow2 : Int64} {fh2 : Nat → Int32} {fs2 : Nat → Int64} {sf2 : Nat → Nat}  (fo1 : g (b1) = .inr (4, [.ref (ad (b1 + 1)), .ref (ad (b1 + 2)), .ref (ad (b1 + 3)), .ref (ad (b1 + 4)), .int (nI (n1)), .int (co1), .long (ow1)])) (fat1 : g (b1 + 3) = .inl (cI, 6, .inl (ft1))) (fo2 : g (b2) = .inr (4, [.ref (ad (b2 + 1)), .ref (ad (b2 + 2)), .ref (ad (b2 + 3)), .ref (ad (b2 + 4)), .int (nI (n2)), .int (co2), .long (ow2)])) (fah2 : g (b2 + 2) = .inl (cI, 6, .inl (fh2))) (fas2 : g (b2 + 4) = .inl (cJ, 6, .inr (.inl (fs2)))) (hq4 : q ≤ 4) (hb1 : b1 + 4 < 81) (hn1 : n1 ≤ 5) (hu1 : ∀ j, j < n1 → u1 j < q) (hft1 : ∀ k, k ≤ n1 → ft1 k = nI (px q (fun j => u1 (n1 - k + j)) k)) (hb2 : b2 + 4 < 81) (hn2 : n2 ≤ 5) (hu2 : ∀ j, j < n2 → u2 j < q) (hfh2 : ∀ k, k ≤ n2 → fh2 k = nI (px q u2 k)) (hfs2 : ∀ k, k ≤ n2 → fs2 k = lZ (sf2 k : Int)) : Met l yX4_leadOn wsX4_leadOn ({ frames := 1, cells := 0, slots := 0, locals := 22 }) (va_Pc [.ref (ad (b1)), .ref (ad (b2))] (xB D (xT cI cJ cZ cW) ad g)) (vp_Sl (fun r => r = lZ (lapS sf2 u1 n1 u2 n2 5 : Int))) 0 0 (fun _ => False) := by
  refine Met.ofW (cc := cX4_leadOn) (maxL := 6) (ret := (some .long)) (by decide) rfl ?_
  intro p e s m args below meth c s₁ B hml hv
  obtain ⟨rfl, hP, hK, hN⟩ := hv
  have hx := B.exec
  have hb := B.bytes
  have hr := B.returns
  have hts := atoms_spec (ws := wsX4_leadOn) B.pre
  have hown : s.vm.findClass RX4 = some m.cls := findClass_of_methodNamed B.named
  have hlocks := B.notSynchronized
  have hin4 : ∀ w ∈ wsX40, w ∈ wsX4_leadOn := by decide +kernel
  have hf21 := hts (.fieldLink RX4 21 "LettersByLot$Word" "shares" "[J") (by decide +kernel)
  have hf25 := hts (.fieldLink RX4 25 "LettersByLot$Word" "length" "I") (by decide +kernel)
  have hl := lv_entry ([.ref (ad (b1)), .ref (ad (b2))]) (n := 6) (Nat.le_of_ble_eq_true rfl)
  rw [lg_entry_eq]
  generalize (lg_sl ([.ref (ad (b1)), .ref (ad (b2))]) ++ List.replicate (6 - (lg_sl ([.ref (ad (b1)), .ref (ad (b2))])).length) Slot.unset).toArray = ls at hl ⊢
  have hl : lv_has ls 6 [(0, .ref (ad (b1))), (1, .ref (ad (b2)))] := hl
  refine lv_lconst (v := lZ (0)) hx hb dX4_leadOn_0 (by decide) ?_
  refine lv_lstore_n (lv' := [(2, .long (lZ (0))), (0, .ref (ad (b1))), (1, .ref (ad (b2)))]) hx hb dX4_leadOn_1 rfl hl (by decide) rfl (fun ls hl => ?_)
  refine lv_aload_n hx hb dX4_leadOn_2 rfl (lv_at hl 1 rfl) ?_
  refine xw_get hx hb hts hin4 hown hK hP (by omega) fo1 rfl 4 (by decide) hf25 rfl rfl dX4_leadOn_3 ?_
  refine lv_aload_n hx hb dX4_leadOn_6 rfl (lv_at hl 2 rfl) ?_
  refine xw_get hx hb hts hin4 hown hK hP (by omega) fo2 rfl 4 (by decide) hf25 rfl rfl dX4_leadOn_7 ?_
  refine va_mmin hx hb (hml.trans hl.1.symm) hown (hts (.methodLink RX4 58 Lib.Math.min.name) (by decide +kernel)) (hts (.static Lib.Math.min.name) (by decide +kernel)) (hts (.initialized "java/lang/Math") (by decide +kernel)) (hts (.code Lib.Math.min.name Lib.Math.min.code 2 (some .int)) (by decide +kernel)) (Nat.le_of_ble_eq_true rfl) (Nat.le_of_ble_eq_true rfl) (Nat.zero_le _) (Nat.zero_le _) dX4_leadOn_10 ?_
  refine xtopi (y := nI (min (n1) (n2))) (nI_min (by omega) (by omega)) ?_
  refine lv_istore (lv' := [(4, .int (nI (min n1 n2))), (2, .long (lZ (0))), (0, .ref (ad (b1))), (1, .ref (ad (b2)))]) hx hb dX4_leadOn_13 hl (by decide) rfl (fun ls hl => ?_)
  refine lv_iconst (v := nI (1)) hx hb dX4_leadOn_15 (by decide) ?_
  refine lv_istore (lv' := [(5, .int (nI (1))), (4, .int (nI (min n1 n2))), (2, .long (lZ (0))), (0, .ref (ad (b1))), (1, .ref (ad (b2)))]) hx hb dX4_leadOn_16 hl (by decide) rfl (fun ls hl => ?_)
  refine xloop (G := fun fr => W p l e _ s m _ below meth c _ _ _ _ _ fr) (σ := Nat) (fun i ls => F0 m 18 ls []) (fun i ls => (i ≤ min n1 n2) ∧ lv_has ls 6 [(0, .ref (ad (b1))), (1, .ref (ad (b2))), (2, .long (lZ ((lapS sf2 u1 n1 u2 n2 i : Int)))), (4, .int (nI (min n1 n2))), (5, .int (nI (i + 1)))]) (fun i => 6 - i) ?_ (0) ls ⟨(by omega), (lv_sub hl [3, 4, 2, 1, 0] rfl)⟩
  rintro i ls ⟨hi, hl⟩ ih18
  refine lv_iload hx hb dX4_leadOn_18 (lv_at hl 4 rfl) ?_
  refine lv_iload hx hb dX4_leadOn_20 (lv_at hl 3 rfl) ?_
  refine xi_icmp_gt (tgt := 55) hx hb (by omega) (by omega) dX4_leadOn_22 (by decide) (fun c22_1 => ?_) (fun c22_1 => ?_)
  · refine lv_lload_n hx hb dX4_leadOn_55 rfl (lv_at hl 2 rfl) ?_
    exact W.lret (v := lZ ((lapS sf2 u1 n1 u2 n2 i : Int))) hx hb hr (fun tZ ht _ => ⟨_, rfl, (by show _ = _; rw [lapS_5 (by omega) (by omega)]), ht⟩) (fun q hq => by cases hq) dX4_leadOn_56
  · refine lv_lload_n hx hb dX4_leadOn_25 rfl (lv_at hl 2 rfl) ?_
    refine lv_aload_n hx hb dX4_leadOn_26 rfl (lv_at hl 0 rfl) ?_
    refine lv_iload hx hb dX4_leadOn_27 (lv_at hl 4 rfl) ?_
    refine lv_aload_n hx hb dX4_leadOn_29 rfl (lv_at hl 1 rfl) ?_
    refine vp_callSi (va_Run.run (va_runV (As := [.int (nI (i + 1)), .ref (ad (b2))]) (rest := [.long (lZ ((lapS sf2 u1 n1 u2 n2 i : Int)))]) ⟨hx, hb, hml, hown, hts⟩ (mX4_lapsBy l (q := q) (k := i + 1) fo1 fat1 fo2 fah2 hq4 hb1 hn1 hu1 hft1 hb2 hn2 hu2 hfh2 (by omega) (by omega)) (cwV 2 hts gX4_leadOn_X4_lapsBy rfl rfl rfl (by decide +kernel) ⟨Nat.le_of_ble_eq_true rfl, Nat.le_of_ble_eq_true rfl⟩) ⟨xB_blind, va_recv hK hP (ci := 4) rfl (xw_is (by omega) fo1), fun U hU hW => ⟨rfl, by rw [hU]; exact hP, va_K.moved hW.alike hK, va_Nw.warmM hW hN⟩⟩ rfl rfl hl.1 rfl (lv_room (Nat.le_of_ble_eq_true rfl)) dX4_leadOn_30 ⟨Nat.le_of_ble_eq_true rfl, Nat.le_of_ble_eq_true rfl⟩)) (fun r2 er2 => ?_)
    subst er2
    refine xb_if_eq (tgt := 46) hx hb dX4_leadOn_33 (by decide) (fun c33_3 => ?_) (fun c33_3 => ?_)
    · refine lv_lconst (v := lZ (0)) hx hb dX4_leadOn_46 (by decide) ?_
      refine xl_add hx hb dX4_leadOn_47 ?_
      refine xtopl (y := lZ ((lapS sf2 u1 n1 u2 n2 (i + 1) : Int))) (congrArg lZ (by rw [lapS_n c33_3, Int.add_zero])) ?_
      refine lv_lstore_n (lv' := [(2, .long (lZ ((lapS sf2 u1 n1 u2 n2 (i + 1) : Int)))), (0, .ref (ad (b1))), (1, .ref (ad (b2))), (4, .int (nI (min n1 n2))), (5, .int (nI (i + 1)))]) hx hb dX4_leadOn_48 rfl hl (by decide) rfl (fun ls hl => ?_)
      refine lv_iinc (v := nI (i + 1 + 1)) (lv' := [(5, .int (nI (i + 1 + 1))), (2, .long (lZ ((lapS sf2 u1 n1 u2 n2 (i + 1) : Int)))), (0, .ref (ad (b1))), (1, .ref (ad (b2))), (4, .int (nI (min n1 n2)))]) hx hb dX4_leadOn_49 hl (k := 4) rfl (nI_add (i + 1) 1) (by decide) rfl (fun ls hl => ?_)
      refine lv_goto (tgt := 18) hx hb dX4_leadOn_52 (by decide) ?_
      exact ih18 (i + 1) ls ⟨(by omega), (lv_sub hl [2, 3, 1, 4, 0] rfl)⟩ (by first | omega | (dsimp only; omega))
    · refine lv_aload_n hx hb dX4_leadOn_36 rfl (lv_at hl 1 rfl) ?_
      refine xw_get hx hb hts hin4 hown hK hP (by omega) fo2 rfl 3 (by decide) hf21 rfl rfl dX4_leadOn_37 ?_
      refine lv_iload hx hb dX4_leadOn_40 (lv_at hl 4 rfl) ?_
      refine xw_lald hx hb hK hP (by omega) 1 fas2 rfl (by omega) (by decide) dX4_leadOn_42 ?_
      rw [hfs2 (i + 1) (by omega)]
      refine lv_goto (tgt := 47) hx hb dX4_leadOn_43 (by decide) ?_
      refine xl_add hx hb dX4_leadOn_47 ?_
      refine xtopl (y := lZ ((lapS sf2 u1 n1 u2 n2 (i + 1) : Int))) (congrArg lZ (by rw [lapS_y (by omega) (by omega) c33_3, Int.natCast_add])) ?_
      refine lv_lstore_n (lv' := [(2, .long (lZ ((lapS sf2 u1 n1 u2 n2 (i + 1) : Int)))), (0, .ref (ad (b1))), (1, .ref (ad (b2))), (4, .int (nI (min n1 n2))), (5, .int (nI (i + 1)))]) hx hb dX4_leadOn_48 rfl hl (by decide) rfl (fun ls hl => ?_)
      refine lv_iinc (v := nI (i + 1 + 1)) (lv' := [(5, .int (nI (i + 1 + 1))), (2, .long (lZ ((lapS sf2 u1 n1 u2 n2 (i + 1) : Int)))), (0, .ref (ad (b1))), (1, .ref (ad (b2))), (4, .int (nI (min n1 n2)))]) hx hb dX4_leadOn_49 hl (k := 4) rfl (nI_add (i + 1) 1) (by decide) rfl (fun ls hl => ?_)
      refine lv_goto (tgt := 18) hx hb dX4_leadOn_52 (by decide) ?_
      exact ih18 (i + 1) ls ⟨(by omega), (lv_sub hl [2, 3, 1, 4, 0] rfl)⟩ (by first | omega | (dsimp only; omega))

set_option maxHeartbeats 4000000 in
set_option maxRecDepth 100000 in
/-- Word.leadBottom -/
theorem mX4_leadBottom (l : Launch) {D : va_G} {cI cJ cZ cW : ClassId} {ad : Nat → Nat} {g : Nat → va_E} {q : Nat} {b1 n1 : Nat} {u1 : Nat → Nat} {co1 : Int32} {ow1 : Int64} {fs1 : Nat → Int64} {sf1 : Nat → Nat}  (fo1 : g (b1) = .inr (4, [.ref (ad (b1 + 1)), .ref (ad (b1 + 2)), .ref (ad (b1 + 3)), .ref (ad (b1 + 4)), .int (nI (n1)), .int (co1), .long (ow1)])) (fas1 : g (b1 + 4) = .inl (cJ, 6, .inr (.inl (fs1))))  (hb1 : b1 + 4 < 81) (hn1 : n1 ≤ 5) (hu1 : ∀ j, j < n1 → u1 j < q) (hfs1 : ∀ k, k ≤ n1 → fs1 k = lZ (sf1 k : Int)) : Met l yX4_leadBottom wsX4_leadBottom ({ frames := 0, cells := 0, slots := 0, locals := 0 }) (va_Pc [.ref (ad (b1))] (xB D (xT cI cJ cZ cW) ad g)) (vp_Sl (fun r => r = lZ (sf1 0 : Int))) 0 0 (fun _ => False) := by
  refine Met.ofW (cc := cX4_leadBottom) (maxL := 1) (ret := (some .long)) (by decide) rfl ?_
  intro p e s m args below meth c s₁ B hml hv
  obtain ⟨rfl, hP, hK, hN⟩ := hv
  have hx := B.exec
  have hb := B.bytes
  have hr := B.returns
  have hts := atoms_spec (ws := wsX4_leadBottom) B.pre
  have hown : s.vm.findClass RX4 = some m.cls := findClass_of_methodNamed B.named
  have hlocks := B.notSynchronized
  have hin4 : ∀ w ∈ wsX40, w ∈ wsX4_leadBottom := by decide +kernel
  have hf21 := hts (.fieldLink RX4 21 "LettersByLot$Word" "shares" "[J") (by decide +kernel)
  have hl := lv_entry ([.ref (ad (b1))]) (n := 1) (Nat.le_of_ble_eq_true rfl)
  rw [lg_entry_eq]
  generalize (lg_sl ([.ref (ad (b1))]) ++ List.replicate (1 - (lg_sl ([.ref (ad (b1))])).length) Slot.unset).toArray = ls at hl ⊢
  have hl : lv_has ls 1 [(0, .ref (ad (b1)))] := hl
  refine lv_aload_n hx hb dX4_leadBottom_0 rfl (lv_at hl 0 rfl) ?_
  refine xw_get hx hb hts hin4 hown hK hP (by omega) fo1 rfl 3 (by decide) hf21 rfl rfl dX4_leadBottom_1 ?_
  refine lv_iconst (v := nI (0)) hx hb dX4_leadBottom_4 (by decide) ?_
  refine xw_lald hx hb hK hP (by omega) 1 fas1 rfl (by omega) (by decide) dX4_leadBottom_5 ?_
  rw [hfs1 (0) (by omega)]
  exact W.lret (v := lZ ((sf1 (0) : Int))) hx hb hr (fun tZ ht _ => ⟨_, rfl, rfl, ht⟩) (fun q hq => by cases hq) dX4_leadBottom_6

set_option maxHeartbeats 4000000 in
set_option maxRecDepth 100000 in
/-- Word.spreadTop -/
theorem mX4_spreadTop (l : Launch) {D : va_G} {cI cJ cZ cW : ClassId} {ad : Nat → Nat} {g : Nat → va_E} {q : Nat} {b1 n1 : Nat} {u1 : Nat → Nat} {co1 : Int32} {ol1 : Nat} {fh1 : Nat → Int32} {ft1 : Nat → Int32} {fs1 : Nat → Int64} {sf1 : Nat → Nat}  (fo1 : g (b1) = .inr (4, [.ref (ad (b1 + 1)), .ref (ad (b1 + 2)), .ref (ad (b1 + 3)), .ref (ad (b1 + 4)), .int (nI (n1)), .int (co1), .long (lZ ((ol1 : Int)))])) (fah1 : g (b1 + 2) = .inl (cI, 6, .inl (fh1))) (fat1 : g (b1 + 3) = .inl (cI, 6, .inl (ft1))) (fas1 : g (b1 + 4) = .inl (cJ, 6, .inr (.inl (fs1)))) (hq4 : q ≤ 4) (hb1 : b1 + 4 < 81) (hn1 : n1 ≤ 5) (hu1 : ∀ j, j < n1 → u1 j < q) (hfh1 : ∀ k, k ≤ n1 → fh1 k = nI (px q u1 k)) (hft1 : ∀ k, k ≤ n1 → ft1 k = nI (px q (fun j => u1 (n1 - k + j)) k)) (hfs1 : ∀ k, k ≤ n1 → fs1 k = lZ (sf1 k : Int)) : Met l yX4_spreadTop wsX4_spreadTop ({ frames := 1, cells := 0, slots := 0, locals := 22 }) (va_Pc [.ref (ad (b1))] (xB D (xT cI cJ cZ cW) ad g)) (vp_Sl (fun r => r = lZ ((ol1 : Int) * (ol1 : Int) - (lapS (fun k => (2 * k - 1) * sf1 k) u1 n1 u1 n1 5 : Int) * (sf1 0 : Int)))) 0 0 (fun _ => False) := by
  refine Met.ofW (cc := cX4_spreadTop) (maxL := 4) (ret := (some .long)) (by decide) rfl ?_
  intro p e s m args below meth c s₁ B hml hv
  obtain ⟨rfl, hP, hK, hN⟩ := hv
  have hx := B.exec
  have hb := B.bytes
  have hr := B.returns
  have hts := atoms_spec (ws := wsX4_spreadTop) B.pre
  have hown : s.vm.findClass RX4 = some m.cls := findClass_of_methodNamed B.named
  have hlocks := B.notSynchronized
  have hin4 : ∀ w ∈ wsX40, w ∈ wsX4_spreadTop := by decide +kernel
  have hf21 := hts (.fieldLink RX4 21 "LettersByLot$Word" "shares" "[J") (by decide +kernel)
  have hf25 := hts (.fieldLink RX4 25 "LettersByLot$Word" "length" "I") (by decide +kernel)
  have hf48 := hts (.fieldLink RX4 48 "LettersByLot$Word" "ownLead" "J") (by decide +kernel)
  have hl := lv_entry ([.ref (ad (b1))]) (n := 4) (Nat.le_of_ble_eq_true rfl)
  rw [lg_entry_eq]
  generalize (lg_sl ([.ref (ad (b1))]) ++ List.replicate (4 - (lg_sl ([.ref (ad (b1))])).length) Slot.unset).toArray = ls at hl ⊢
  have hl : lv_has ls 4 [(0, .ref (ad (b1)))] := hl
  refine lv_lconst (v := lZ (0)) hx hb dX4_spreadTop_0 (by decide) ?_
  refine lv_lstore_n (lv' := [(1, .long (lZ (0))), (0, .ref (ad (b1)))]) hx hb dX4_spreadTop_1 rfl hl (by decide) rfl (fun ls hl => ?_)
  refine lv_iconst (v := nI (1)) hx hb dX4_spreadTop_2 (by decide) ?_
  refine lv_istore_n (lv' := [(3, .int (nI (1))), (1, .long (lZ (0))), (0, .ref (ad (b1)))]) hx hb dX4_spreadTop_3 rfl hl (by decide) rfl (fun ls hl => ?_)
  refine xloop (G := fun fr => W p l e _ s m _ below meth c _ _ _ _ _ fr) (σ := Nat) (fun i ls => F0 m 4 ls []) (fun i ls => (i ≤ n1) ∧ lv_has ls 4 [(0, .ref (ad (b1))), (1, .long (lZ ((lapS (fun k => (2 * k - 1) * sf1 k) u1 n1 u1 n1 i : Int)))), (3, .int (nI (i + 1)))]) (fun i => 6 - i) ?_ (0) ls ⟨(by omega), (lv_sub hl [2, 1, 0] rfl)⟩
  rintro i ls ⟨hi, hl⟩ ih4
  refine lv_iload_n hx hb dX4_spreadTop_4 rfl (lv_at hl 2 rfl) ?_
  refine lv_aload_n hx hb dX4_spreadTop_5 rfl (lv_at hl 0 rfl) ?_
  refine xw_get hx hb hts hin4 hown hK hP (by omega) fo1 rfl 4 (by decide) hf25 rfl rfl dX4_spreadTop_6 ?_
  refine xi_icmp_gt (tgt := 47) hx hb (by omega) (by omega) dX4_spreadTop_9 (by decide) (fun c9_1 => ?_) (fun c9_1 => ?_)
  · refine lv_aload_n hx hb dX4_spreadTop_47 rfl (lv_at hl 0 rfl) ?_
    refine xw_get hx hb hts hin4 hown hK hP (by omega) fo1 rfl 6 (by decide) hf48 rfl rfl dX4_spreadTop_48 ?_
    refine lv_aload_n hx hb dX4_spreadTop_51 rfl (lv_at hl 0 rfl) ?_
    refine xw_get hx hb hts hin4 hown hK hP (by omega) fo1 rfl 6 (by decide) hf48 rfl rfl dX4_spreadTop_52 ?_
    refine xl_mul hx hb dX4_spreadTop_55 ?_
    refine lv_lload_n hx hb dX4_spreadTop_56 rfl (lv_at hl 1 rfl) ?_
    refine lv_aload_n hx hb dX4_spreadTop_57 rfl (lv_at hl 0 rfl) ?_
    refine vp_callSl (va_Run.run (va_runV (As := []) (rest := [.long (lZ ((lapS (fun k => (2 * k - 1) * sf1 k) u1 n1 u1 n1 i : Int))), .long (lZ (((ol1 : Int)) * ((ol1 : Int))))]) ⟨hx, hb, hml, hown, hts⟩ (mX4_leadBottom l (q := q) fo1 fas1 hb1 hn1 hu1 hfs1) (cwV 0 hts gX4_spreadTop_X4_leadBottom rfl rfl rfl (by decide +kernel) ⟨Nat.le_of_ble_eq_true rfl, Nat.le_of_ble_eq_true rfl⟩) ⟨xB_blind, va_recv hK hP (ci := 4) rfl (xw_is (by omega) fo1), fun U hU hW => ⟨rfl, by rw [hU]; exact hP, va_K.moved hW.alike hK, va_Nw.warmM hW hN⟩⟩ rfl rfl hl.1 rfl (lv_room (Nat.le_of_ble_eq_true rfl)) dX4_spreadTop_58 ⟨Nat.le_of_ble_eq_true rfl, Nat.le_of_ble_eq_true rfl⟩)) (fun r2 er2 => ?_)
    subst er2
    refine xl_mul hx hb dX4_spreadTop_61 ?_
    refine xl_sub hx hb dX4_spreadTop_62 ?_
    exact W.lret (v := lZ ((((ol1 : Int)) * ((ol1 : Int))) - (((lapS (fun k => (2 * k - 1) * sf1 k) u1 n1 u1 n1 i : Int)) * ((sf1 0 : Int))))) hx hb hr (fun tZ ht _ => ⟨_, rfl, (by show _ = _; rw [lapS_5 (k := i) (by omega) (by omega)]), ht⟩) (fun q hq => by cases hq) dX4_spreadTop_63
  · refine lv_lload_n hx hb dX4_spreadTop_12 rfl (lv_at hl 1 rfl) ?_
    refine lv_aload_n hx hb dX4_spreadTop_13 rfl (lv_at hl 0 rfl) ?_
    refine lv_iload_n hx hb dX4_spreadTop_14 rfl (lv_at hl 2 rfl) ?_
    refine lv_aload_n hx hb dX4_spreadTop_15 rfl (lv_at hl 0 rfl) ?_
    refine vp_callSi (va_Run.run (va_runV (As := [.int (nI (i + 1)), .ref (ad (b1))]) (rest := [.long (lZ ((lapS (fun k => (2 * k - 1) * sf1 k) u1 n1 u1 n1 i : Int)))]) ⟨hx, hb, hml, hown, hts⟩ (mX4_lapsBy l (q := q) (k := i + 1) fo1 fat1 fo1 fah1 hq4 hb1 hn1 hu1 hft1 hb1 hn1 hu1 hfh1 (by omega) (by omega)) (cwV 2 hts gX4_spreadTop_X4_lapsBy rfl rfl rfl (by decide +kernel) ⟨Nat.le_of_ble_eq_true rfl, Nat.le_of_ble_eq_true rfl⟩) ⟨xB_blind, va_recv hK hP (ci := 4) rfl (xw_is (by omega) fo1), fun U hU hW => ⟨rfl, by rw [hU]; exact hP, va_K.moved hW.alike hK, va_Nw.warmM hW hN⟩⟩ rfl rfl hl.1 rfl (lv_room (Nat.le_of_ble_eq_true rfl)) dX4_spreadTop_16 ⟨Nat.le_of_ble_eq_true rfl, Nat.le_of_ble_eq_true rfl⟩)) (fun r3 er3 => ?_)
    subst er3
    refine xb_if_eq (tgt := 38) hx hb dX4_spreadTop_19 (by decide) (fun c19_4 => ?_) (fun c19_4 => ?_)
    · refine lv_lconst (v := lZ (0)) hx hb dX4_spreadTop_38 (by decide) ?_
      refine xl_add hx hb dX4_spreadTop_39 ?_
      refine xtopl (y := lZ ((lapS (fun k => (2 * k - 1) * sf1 k) u1 n1 u1 n1 (i + 1) : Int))) (congrArg lZ (by rw [lapS_n c19_4, Int.add_zero])) ?_
      refine lv_lstore_n (lv' := [(1, .long (lZ ((lapS (fun k => (2 * k - 1) * sf1 k) u1 n1 u1 n1 (i + 1) : Int)))), (0, .ref (ad (b1))), (3, .int (nI (i + 1)))]) hx hb dX4_spreadTop_40 rfl hl (by decide) rfl (fun ls hl => ?_)
      refine lv_iinc (v := nI (i + 1 + 1)) (lv' := [(3, .int (nI (i + 1 + 1))), (1, .long (lZ ((lapS (fun k => (2 * k - 1) * sf1 k) u1 n1 u1 n1 (i + 1) : Int)))), (0, .ref (ad (b1)))]) hx hb dX4_spreadTop_41 hl (k := 2) rfl (nI_add (i + 1) 1) (by decide) rfl (fun ls hl => ?_)
      refine lv_goto (tgt := 4) hx hb dX4_spreadTop_44 (by decide) ?_
      exact ih4 (i + 1) ls ⟨(by omega), (lv_sub hl [2, 1, 0] rfl)⟩ (by first | omega | (dsimp only; omega))
    · refine lv_iconst (v := nI (2)) hx hb dX4_spreadTop_22 (by decide) ?_
      refine lv_iload_n hx hb dX4_spreadTop_23 rfl (lv_at hl 2 rfl) ?_
      refine xi_mul hx hb dX4_spreadTop_24 ?_
      refine lv_iconst (v := nI (1)) hx hb dX4_spreadTop_25 (by decide) ?_
      refine xi_sub hx hb (by omega) dX4_spreadTop_26 ?_
      refine xi_i2l hx hb (by omega) dX4_spreadTop_27 ?_
      refine lv_aload_n hx hb dX4_spreadTop_28 rfl (lv_at hl 0 rfl) ?_
      refine xw_get hx hb hts hin4 hown hK hP (by omega) fo1 rfl 3 (by decide) hf21 rfl rfl dX4_spreadTop_29 ?_
      refine lv_iload_n hx hb dX4_spreadTop_32 rfl (lv_at hl 2 rfl) ?_
      refine xw_lald hx hb hK hP (by omega) 1 fas1 rfl (by omega) (by decide) dX4_spreadTop_33 ?_
      rw [hfs1 (i + 1) (by omega)]
      refine xl_mul hx hb dX4_spreadTop_34 ?_
      refine lv_goto (tgt := 39) hx hb dX4_spreadTop_35 (by decide) ?_
      refine xl_add hx hb dX4_spreadTop_39 ?_
      refine xtopl (y := lZ ((lapS (fun k => (2 * k - 1) * sf1 k) u1 n1 u1 n1 (i + 1) : Int))) (congrArg lZ (by rw [lapS_y (by omega) (by omega) c19_4, Int.natCast_add, Int.natCast_mul])) ?_
      refine lv_lstore_n (lv' := [(1, .long (lZ ((lapS (fun k => (2 * k - 1) * sf1 k) u1 n1 u1 n1 (i + 1) : Int)))), (0, .ref (ad (b1))), (3, .int (nI (i + 1)))]) hx hb dX4_spreadTop_40 rfl hl (by decide) rfl (fun ls hl => ?_)
      refine lv_iinc (v := nI (i + 1 + 1)) (lv' := [(3, .int (nI (i + 1 + 1))), (1, .long (lZ ((lapS (fun k => (2 * k - 1) * sf1 k) u1 n1 u1 n1 (i + 1) : Int)))), (0, .ref (ad (b1)))]) hx hb dX4_spreadTop_41 hl (k := 2) rfl (nI_add (i + 1) 1) (by decide) rfl (fun ls hl => ?_)
      refine lv_goto (tgt := 4) hx hb dX4_spreadTop_44 (by decide) ?_
      exact ih4 (i + 1) ls ⟨(by omega), (lv_sub hl [2, 1, 0] rfl)⟩ (by first | omega | (dsimp only; omega))

set_option maxHeartbeats 4000000 in
set_option maxRecDepth 100000 in
/-- Word.edgeOver -/
theorem mX4_edgeOver (l : Launch) {D : va_G} {cI cJ cZ cW : ClassId} {ad : Nat → Nat} {g : Nat → va_E} {q : Nat} {b1 n1 : Nat} {u1 : Nat → Nat} {co1 : Int32} {ol1 : Nat} {ft1 : Nat → Int32} {fs1 : Nat → Int64} {sf1 : Nat → Nat} {b2 n2 : Nat} {u2 : Nat → Nat} {co2 : Int32} {ow2 : Int64} {fh2 : Nat → Int32} {fs2 : Nat → Int64} {sf2 : Nat → Nat}  (fo1 : g (b1) = .inr (4, [.ref (ad (b1 + 1)), .ref (ad (b1 + 2)), .ref (ad (b1 + 3)), .ref (ad (b1 + 4)), .int (nI (n1)), .int (co1), .long (lZ ((ol1 : Int)))])) (fat1 : g (b1 + 3) = .inl (cI, 6, .inl (ft1))) (fas1 : g (b1 + 4) = .inl (cJ, 6, .inr (.inl (fs1)))) (fo2 : g (b2) = .inr (4, [.ref (ad (b2 + 1)), .ref (ad (b2 + 2)), .ref (ad (b2 + 3)), .ref (ad (b2 + 4)), .int (nI (n2)), .int (co2), .long (ow2)])) (fah2 : g (b2 + 2) = .inl (cI, 6, .inl (fh2))) (fas2 : g (b2 + 4) = .inl (cJ, 6, .inr (.inl (fs2)))) (hq4 : q ≤ 4) (hb1 : b1 + 4 < 81) (hn1 : n1 ≤ 5) (hu1 : ∀ j, j < n1 → u1 j < q) (hft1 : ∀ k, k ≤ n1 → ft1 k = nI (px q (fun j => u1 (n1 - k + j)) k)) (hfs1 : ∀ k, k ≤ n1 → fs1 k = lZ (sf1 k : Int)) (hb2 : b2 + 4 < 81) (hn2 : n2 ≤ 5) (hu2 : ∀ j, j < n2 → u2 j < q) (hfh2 : ∀ k, k ≤ n2 → fh2 k = nI (px q u2 k)) (hfs2 : ∀ k, k ≤ n2 → fs2 k = lZ (sf2 k : Int)) : Met l yX4_edgeOver wsX4_edgeOver ({ frames := 2, cells := 0, slots := 0, locals := 47 }) (va_Pc [.ref (ad (b1)), .ref (ad (b2))] (xB D (xT cI cJ cZ cW) ad g)) (vp_Sl (fun r => r = lZ ((ol1 : Int) * (sf2 0 : Int) - (lapS sf2 u1 n1 u2 n2 5 : Int) * (sf1 0 : Int)))) 0 0 (fun _ => False) := by
  refine Met.ofW (cc := cX4_edgeOver) (maxL := 2) (ret := (some .long)) (by decide) rfl ?_
  intro p e s m args below meth c s₁ B hml hv
  obtain ⟨rfl, hP, hK, hN⟩ := hv
  have hx := B.exec
  have hb := B.bytes
  have hr := B.returns
  have hts := atoms_spec (ws := wsX4_edgeOver) B.pre
  have hown : s.vm.findClass RX4 = some m.cls := findClass_of_methodNamed B.named
  have hlocks := B.notSynchronized
  have hin4 : ∀ w ∈ wsX40, w ∈ wsX4_edgeOver := by decide +kernel
  have hf48 := hts (.fieldLink RX4 48 "LettersByLot$Word" "ownLead" "J") (by decide +kernel)
  have hl := lv_entry ([.ref (ad (b1)), .ref (ad (b2))]) (n := 2) (Nat.le_of_ble_eq_true rfl)
  rw [lg_entry_eq]
  generalize (lg_sl ([.ref (ad (b1)), .ref (ad (b2))]) ++ List.replicate (2 - (lg_sl ([.ref (ad (b1)), .ref (ad (b2))])).length) Slot.unset).toArray = ls at hl ⊢
  have hl : lv_has ls 2 [(0, .ref (ad (b1))), (1, .ref (ad (b2)))] := hl
  refine lv_aload_n hx hb dX4_edgeOver_0 rfl (lv_at hl 0 rfl) ?_
  refine xw_get hx hb hts hin4 hown hK hP (by omega) fo1 rfl 6 (by decide) hf48 rfl rfl dX4_edgeOver_1 ?_
  refine lv_aload_n hx hb dX4_edgeOver_4 rfl (lv_at hl 1 rfl) ?_
  refine vp_callSl (va_Run.run (va_runV (As := []) (rest := [.long (lZ ((ol1 : Int)))]) ⟨hx, hb, hml, hown, hts⟩ (mX4_leadBottom l (q := q) fo2 fas2 hb2 hn2 hu2 hfs2) (cwV 0 hts gX4_edgeOver_X4_leadBottom rfl rfl rfl (by decide +kernel) ⟨Nat.le_of_ble_eq_true rfl, Nat.le_of_ble_eq_true rfl⟩) ⟨xB_blind, va_recv hK hP (ci := 4) rfl (xw_is (by omega) fo2), fun U hU hW => ⟨rfl, by rw [hU]; exact hP, va_K.moved hW.alike hK, va_Nw.warmM hW hN⟩⟩ rfl rfl hl.1 rfl (lv_room (Nat.le_of_ble_eq_true rfl)) dX4_edgeOver_5 ⟨Nat.le_of_ble_eq_true rfl, Nat.le_of_ble_eq_true rfl⟩)) (fun r1 er1 => ?_)
  subst er1
  refine xl_mul hx hb dX4_edgeOver_8 ?_
  refine lv_aload_n hx hb dX4_edgeOver_9 rfl (lv_at hl 0 rfl) ?_
  refine lv_aload_n hx hb dX4_edgeOver_10 rfl (lv_at hl 1 rfl) ?_
  refine vp_callSl (va_Run.run (va_runV (As := [.ref (ad (b2))]) (rest := [.long (lZ (((ol1 : Int)) * ((sf2 0 : Int))))]) ⟨hx, hb, hml, hown, hts⟩ (mX4_leadOn l (q := q) fo1 fat1 fo2 fah2 fas2 hq4 hb1 hn1 hu1 hft1 hb2 hn2 hu2 hfh2 hfs2) (cwV 1 hts gX4_edgeOver_X4_leadOn rfl rfl rfl (by decide +kernel) ⟨Nat.le_of_ble_eq_true rfl, Nat.le_of_ble_eq_true rfl⟩) ⟨xB_blind, va_recv hK hP (ci := 4) rfl (xw_is (by omega) fo1), fun U hU hW => ⟨rfl, by rw [hU]; exact hP, va_K.moved hW.alike hK, va_Nw.warmM hW hN⟩⟩ rfl rfl hl.1 rfl (lv_room (Nat.le_of_ble_eq_true rfl)) dX4_edgeOver_11 ⟨Nat.le_of_ble_eq_true rfl, Nat.le_of_ble_eq_true rfl⟩)) (fun r2 er2 => ?_)
  subst er2
  refine lv_aload_n hx hb dX4_edgeOver_14 rfl (lv_at hl 0 rfl) ?_
  refine vp_callSl (va_Run.run (va_runV (As := []) (rest := [.long (lZ ((lapS sf2 u1 n1 u2 n2 5 : Int))), .long (lZ (((ol1 : Int)) * ((sf2 0 : Int))))]) ⟨hx, hb, hml, hown, hts⟩ (mX4_leadBottom l (q := q) fo1 fas1 hb1 hn1 hu1 hfs1) (cwV 0 hts gX4_edgeOver_X4_leadBottom rfl rfl rfl (by decide +kernel) ⟨Nat.le_of_ble_eq_true rfl, Nat.le_of_ble_eq_true rfl⟩) ⟨xB_blind, va_recv hK hP (ci := 4) rfl (xw_is (by omega) fo1), fun U hU hW => ⟨rfl, by rw [hU]; exact hP, va_K.moved hW.alike hK, va_Nw.warmM hW hN⟩⟩ rfl rfl hl.1 rfl (lv_room (Nat.le_of_ble_eq_true rfl)) dX4_edgeOver_15 ⟨Nat.le_of_ble_eq_true rfl, Nat.le_of_ble_eq_true rfl⟩)) (fun r3 er3 => ?_)
  subst er3
  refine xl_mul hx hb dX4_edgeOver_18 ?_
  refine xl_sub hx hb dX4_edgeOver_19 ?_
  exact W.lret (v := lZ ((((ol1 : Int)) * ((sf2 0 : Int))) - (((lapS sf2 u1 n1 u2 n2 5 : Int)) * ((sf1 0 : Int))))) hx hb hr (fun tZ ht _ => ⟨_, rfl, rfl, ht⟩) (fun q hq => by cases hq) dX4_edgeOver_20

set_option maxHeartbeats 4000000 in
set_option maxRecDepth 100000 in
/-- Word.letterAt, a letter that is there -/
theorem mX4_letterAt_in (l : Launch) {D : va_G} {cI cJ cZ cW : ClassId} {ad : Nat → Nat} {g : Nat → va_E} {q j : Nat} {b1 n1 : Nat} {u1 : Nat → Nat} {co1 : Int32} {ow1 : Int64} {fl1 : Nat → Int32}  (fo1 : g (b1) = .inr (4, [.ref (ad (b1 + 1)), .ref (ad (b1 + 2)), .ref (ad (b1 + 3)), .ref (ad (b1 + 4)), .int (nI (n1)), .int (co1), .long (ow1)])) (fal1 : g (b1 + 1) = .inl (cI, 5, .inl (fl1)))  (hb1 : b1 + 4 < 81) (hn1 : n1 ≤ 5) (hu1 : ∀ j, j < n1 → u1 j < q) (hfl1 : ∀ j, j < n1 → fl1 j = nI (u1 j)) (hj : j < n1) : Met l yX4_letterAt wsX4_letterAt ({ frames := 0, cells := 0, slots := 0, locals := 0 }) (va_Pc [.ref (ad (b1)), .int (nI (j))] (xB D (xT cI cJ cZ cW) ad g)) (vp_Si (fun r => r = nI (u1 j))) 0 0 (fun _ => False) := by
  refine Met.ofW (cc := cX4_letterAt) (maxL := 2) (ret := (some .int)) (by decide) rfl ?_
  intro p e s m args below meth c s₁ B hml hv
  obtain ⟨rfl, hP, hK, hN⟩ := hv
  have hx := B.exec
  have hb := B.bytes
  have hr := B.returns
  have hts := atoms_spec (ws := wsX4_letterAt) B.pre
  have hown : s.vm.findClass RX4 = some m.cls := findClass_of_methodNamed B.named
  have hlocks := B.notSynchronized
  have hin4 : ∀ w ∈ wsX40, w ∈ wsX4_letterAt := by decide +kernel
  have hf9 := hts (.fieldLink RX4 9 "LettersByLot$Word" "letters" "[I") (by decide +kernel)
  have hf25 := hts (.fieldLink RX4 25 "LettersByLot$Word" "length" "I") (by decide +kernel)
  have hl := lv_entry ([.ref (ad (b1)), .int (nI (j))]) (n := 2) (Nat.le_of_ble_eq_true rfl)
  rw [lg_entry_eq]
  generalize (lg_sl ([.ref (ad (b1)), .int (nI (j))]) ++ List.replicate (2 - (lg_sl ([.ref (ad (b1)), .int (nI (j))])).length) Slot.unset).toArray = ls at hl ⊢
  have hl : lv_has ls 2 [(0, .ref (ad (b1))), (1, .int (nI (j)))] := hl
  refine lv_iload_n hx hb dX4_letterAt_0 rfl (lv_at hl 1 rfl) ?_
  refine xi_if_lt (tgt := 21) hx hb (by omega) dX4_letterAt_1 (by decide) ?_
  refine lv_iload_n hx hb dX4_letterAt_4 rfl (lv_at hl 1 rfl) ?_
  refine lv_aload_n hx hb dX4_letterAt_5 rfl (lv_at hl 0 rfl) ?_
  refine xw_get hx hb hts hin4 hown hK hP (by omega) fo1 rfl 4 (by decide) hf25 rfl rfl dX4_letterAt_6 ?_
  refine xi_icmp_ge (tgt := 21) hx hb (by omega) (by omega) dX4_letterAt_9 (by decide) (fun c9_2 => ?_) (fun c9_2 => ?_)
  · exact absurd c9_2 (by omega)
  · refine lv_aload_n hx hb dX4_letterAt_12 rfl (lv_at hl 0 rfl) ?_
    refine xw_get hx hb hts hin4 hown hK hP (by omega) fo1 rfl 0 (by decide) hf9 rfl rfl dX4_letterAt_13 ?_
    refine lv_iload_n hx hb dX4_letterAt_16 rfl (lv_at hl 1 rfl) ?_
    refine xw_iald hx hb hK hP (by omega) 0 fal1 rfl (by omega) (by decide) dX4_letterAt_17 ?_
    rw [hfl1 (j) (by omega)]
    refine lv_goto (tgt := 22) hx hb dX4_letterAt_18 (by decide) ?_
    exact W.iret (v := nI (u1 (j))) hx hb hr (fun tZ ht _ => ⟨_, rfl, rfl, ht⟩) (fun q hq => by cases hq) dX4_letterAt_22

set_option maxHeartbeats 4000000 in
set_option maxRecDepth 100000 in
/-- Word.letterAt, none there -/
theorem mX4_letterAt_out (l : Launch) {D : va_G} {cI cJ cZ cW : ClassId} {ad : Nat → Nat} {g : Nat → va_E} {q : Nat} {x0 : Int32} {b1 n1 : Nat} {u1 : Nat → Nat} {co1 : Int32} {ow1 : Int64} {fl1 : Nat → Int32}  (fo1 : g (b1) = .inr (4, [.ref (ad (b1 + 1)), .ref (ad (b1 + 2)), .ref (ad (b1 + 3)), .ref (ad (b1 + 4)), .int (nI (n1)), .int (co1), .long (ow1)])) (fal1 : g (b1 + 1) = .inl (cI, 5, .inl (fl1)))  (hb1 : b1 + 4 < 81) (hn1 : n1 ≤ 5) (hu1 : ∀ j, j < n1 → u1 j < q) (hfl1 : ∀ j, j < n1 → fl1 j = nI (u1 j)) (hx0 : x0 < 0 ∨ nI n1 ≤ x0) : Met l yX4_letterAt wsX4_letterAt ({ frames := 0, cells := 0, slots := 0, locals := 0 }) (va_Pc [.ref (ad (b1)), .int (x0)] (xB D (xT cI cJ cZ cW) ad g)) (vp_Si (fun r => r = -1)) 0 0 (fun _ => False) := by
  refine Met.ofW (cc := cX4_letterAt) (maxL := 2) (ret := (some .int)) (by decide) rfl ?_
  intro p e s m args below meth c s₁ B hml hv
  obtain ⟨rfl, hP, hK, hN⟩ := hv
  have hx := B.exec
  have hb := B.bytes
  have hr := B.returns
  have hts := atoms_spec (ws := wsX4_letterAt) B.pre
  have hown : s.vm.findClass RX4 = some m.cls := findClass_of_methodNamed B.named
  have hlocks := B.notSynchronized
  have hin4 : ∀ w ∈ wsX40, w ∈ wsX4_letterAt := by decide +kernel
  have hf25 := hts (.fieldLink RX4 25 "LettersByLot$Word" "length" "I") (by decide +kernel)
  have hl := lv_entry ([.ref (ad (b1)), .int (x0)]) (n := 2) (Nat.le_of_ble_eq_true rfl)
  rw [lg_entry_eq]
  generalize (lg_sl ([.ref (ad (b1)), .int (x0)]) ++ List.replicate (2 - (lg_sl ([.ref (ad (b1)), .int (x0)])).length) Slot.unset).toArray = ls at hl ⊢
  have hl : lv_has ls 2 [(0, .ref (ad (b1))), (1, .int (x0))] := hl
  refine lv_iload_n hx hb dX4_letterAt_0 rfl (lv_at hl 1 rfl) ?_
  refine lv_if_lt (tgt := 21) hx hb dX4_letterAt_1 (by decide) (fun c1_1 => ?_) (fun c1_1 => ?_)
  · refine lv_iconst (v := (-1)) hx hb dX4_letterAt_21 (by decide) ?_
    exact W.iret (v := (-1)) hx hb hr (fun tZ ht _ => ⟨_, rfl, rfl, ht⟩) (fun q hq => by cases hq) dX4_letterAt_22
  · refine lv_iload_n hx hb dX4_letterAt_4 rfl (lv_at hl 1 rfl) ?_
    refine lv_aload_n hx hb dX4_letterAt_5 rfl (lv_at hl 0 rfl) ?_
    refine xw_get hx hb hts hin4 hown hK hP (by omega) fo1 rfl 4 (by decide) hf25 rfl rfl dX4_letterAt_6 ?_
    refine lv_icmp_ge (tgt := 21) hx hb dX4_letterAt_9 (by decide) (fun c9_2 => ?_) (fun c9_2 => ?_)
    · refine lv_iconst (v := (-1)) hx hb dX4_letterAt_21 (by decide) ?_
      exact W.iret (v := (-1)) hx hb hr (fun tZ ht _ => ⟨_, rfl, rfl, ht⟩) (fun q hq => by cases hq) dX4_letterAt_22
    · exact absurd hx0 (by rintro (h | h); exact c1_1 h; exact c9_2 h)

set_option maxHeartbeats 4000000 in
set_option maxRecDepth 100000 in
/-- Word.standsIn -/
theorem mX4_standsIn (l : Launch) {D : va_G} {cI cJ cZ cW : ClassId} {ad : Nat → Nat} {g : Nat → va_E} {q st br LN T : Nat} {t : Nat → Nat} {fr : Nat → Int32} {b1 n1 : Nat} {u1 : Nat → Nat} {co1 : Int32} {ow1 : Int64} {fl1 : Nat → Int32}  (fo1 : g (b1) = .inr (4, [.ref (ad (b1 + 1)), .ref (ad (b1 + 2)), .ref (ad (b1 + 3)), .ref (ad (b1 + 4)), .int (nI (n1)), .int (co1), .long (ow1)])) (fal1 : g (b1 + 1) = .inl (cI, 5, .inl (fl1))) (far : g (br) = .inl (cI, LN, .inl (fr))) (hq4 : q ≤ 4) (hb1 : b1 + 4 < 81) (hn1 : n1 ≤ 5) (hu1 : ∀ j, j < n1 → u1 j < q) (hfl1 : ∀ j, j < n1 → fl1 j = nI (u1 j)) (hbr : br < 81) (hLN : LN < 2 ^ 31) (hT : T ≤ LN) (ht : ∀ j, j < T → t j < q) (hfr : ∀ j, j < T → fr j = nI (t j)) (hst : st + n1 ≤ T) : Met l yX4_standsIn wsX4_standsIn ({ frames := 0, cells := 0, slots := 0, locals := 0 }) (va_Pc [.ref (ad (b1)), .ref (ad (br)), .int (nI (st))] (xB D (xT cI cJ cZ cW) ad g)) (vp_Si (fun r => r = if stD t st u1 n1 then 1 else 0)) 0 0 (fun _ => False) := by
  refine Met.ofW (cc := cX4_standsIn) (maxL := 4) (ret := (some .boolean)) (by decide) rfl ?_
  intro p e s m args below meth c s₁ B hml hv
  obtain ⟨rfl, hP, hK, hN⟩ := hv
  have hx := B.exec
  have hb := B.bytes
  have hr := B.returns
  have hts := atoms_spec (ws := wsX4_standsIn) B.pre
  have hown : s.vm.findClass RX4 = some m.cls := findClass_of_methodNamed B.named
  have hlocks := B.notSynchronized
  have hin4 : ∀ w ∈ wsX40, w ∈ wsX4_standsIn := by decide +kernel
  have hf9 := hts (.fieldLink RX4 9 "LettersByLot$Word" "letters" "[I") (by decide +kernel)
  have hf25 := hts (.fieldLink RX4 25 "LettersByLot$Word" "length" "I") (by decide +kernel)
  have hl := lv_entry ([.ref (ad (b1)), .ref (ad (br)), .int (nI (st))]) (n := 4) (Nat.le_of_ble_eq_true rfl)
  rw [lg_entry_eq]
  generalize (lg_sl ([.ref (ad (b1)), .ref (ad (br)), .int (nI (st))]) ++ List.replicate (4 - (lg_sl ([.ref (ad (b1)), .ref (ad (br)), .int (nI (st))])).length) Slot.unset).toArray = ls at hl ⊢
  have hl : lv_has ls 4 [(0, .ref (ad (b1))), (1, .ref (ad (br))), (2, .int (nI (st)))] := hl
  refine lv_iload_n hx hb dX4_standsIn_0 rfl (lv_at hl 2 rfl) ?_
  refine xi_if_lt (tgt := 15) hx hb (by omega) dX4_standsIn_1 (by decide) ?_
  refine lv_iload_n hx hb dX4_standsIn_4 rfl (lv_at hl 2 rfl) ?_
  refine lv_aload_n hx hb dX4_standsIn_5 rfl (lv_at hl 0 rfl) ?_
  refine xw_get hx hb hts hin4 hown hK hP (by omega) fo1 rfl 4 (by decide) hf25 rfl rfl dX4_standsIn_6 ?_
  refine xi_add hx hb dX4_standsIn_9 ?_
  refine lv_aload_n hx hb dX4_standsIn_10 rfl (lv_at hl 1 rfl) ?_
  refine xw_alen hx hb hK hP (by omega) 0 far rfl dX4_standsIn_11 ?_
  refine xi_icmp_le (tgt := 17) hx hb (by omega) (by omega) dX4_standsIn_12 (by decide) (fun c12_2 => ?_) (fun c12_2 => ?_)
  · refine lv_iconst (v := nI (0)) hx hb dX4_standsIn_17 (by decide) ?_
    refine lv_istore_n (lv' := [(3, .int (nI (0))), (0, .ref (ad (b1))), (1, .ref (ad (br))), (2, .int (nI (st)))]) hx hb dX4_standsIn_18 rfl hl (by decide) rfl (fun ls hl => ?_)
    refine xloop (G := fun fr => W p l e _ s m _ below meth c _ _ _ _ _ fr) (σ := Nat) (fun i ls => F0 m 19 ls []) (fun i ls => (i ≤ n1) ∧ (∀ j, j < i → t (st + j) = u1 j) ∧ lv_has ls 4 [(0, .ref (ad (b1))), (1, .ref (ad (br))), (2, .int (nI (st))), (3, .int (nI (i)))]) (fun i => n1 - i) ?_ (0) ls ⟨(by omega), (fun j hj => absurd hj (by omega)), (lv_sub hl [1, 2, 3, 0] rfl)⟩
    rintro i ls ⟨hi, hm, hl⟩ ih19
    refine lv_iload_n hx hb dX4_standsIn_19 rfl (lv_at hl 3 rfl) ?_
    refine lv_aload_n hx hb dX4_standsIn_20 rfl (lv_at hl 0 rfl) ?_
    refine xw_get hx hb hts hin4 hown hK hP (by omega) fo1 rfl 4 (by decide) hf25 rfl rfl dX4_standsIn_21 ?_
    refine xi_icmp_ge (tgt := 49) hx hb (by omega) (by omega) dX4_standsIn_24 (by decide) (fun c24_3 => ?_) (fun c24_3 => ?_)
    · refine lv_iconst (v := nI (1)) hx hb dX4_standsIn_49 (by decide) ?_
      exact W.zret (v := nI (1)) hx hb hr (by decide) (fun tZ ht _ => ⟨_, rfl, (xb1 <| fun j hj => hm j (by omega)), ht⟩) (fun q hq => by cases hq) dX4_standsIn_50
    · refine lv_aload_n hx hb dX4_standsIn_27 rfl (lv_at hl 1 rfl) ?_
      refine lv_iload_n hx hb dX4_standsIn_28 rfl (lv_at hl 2 rfl) ?_
      refine lv_iload_n hx hb dX4_standsIn_29 rfl (lv_at hl 3 rfl) ?_
      refine xi_add hx hb dX4_standsIn_30 ?_
      refine xw_iald hx hb hK hP (by omega) 0 far rfl (by omega) (by omega) dX4_standsIn_31 ?_
      rw [hfr (st + i) (by omega)]
      refine lv_aload_n hx hb dX4_standsIn_32 rfl (lv_at hl 0 rfl) ?_
      refine xw_get hx hb hts hin4 hown hK hP (by omega) fo1 rfl 0 (by decide) hf9 rfl rfl dX4_standsIn_33 ?_
      refine lv_iload_n hx hb dX4_standsIn_36 rfl (lv_at hl 3 rfl) ?_
      refine xw_iald hx hb hK hP (by omega) 0 fal1 rfl (by omega) (by decide) dX4_standsIn_37 ?_
      rw [hfl1 (i) (by omega)]
      refine xi_icmp_eq (tgt := 43) hx hb (Nat.lt_trans (ht _ (by omega)) (by omega)) (Nat.lt_trans (hu1 _ (by omega)) (by omega)) dX4_standsIn_38 (by decide) (fun c38_4 => ?_) (fun c38_4 => ?_)
      · refine lv_iinc (v := nI (i + 1)) (lv' := [(3, .int (nI (i + 1))), (0, .ref (ad (b1))), (1, .ref (ad (br))), (2, .int (nI (st)))]) hx hb dX4_standsIn_43 hl (k := 3) rfl (nI_add (i) 1) (by decide) rfl (fun ls hl => ?_)
        refine lv_goto (tgt := 19) hx hb dX4_standsIn_46 (by decide) ?_
        exact ih19 (i + 1) ls ⟨(by omega), (fun j hj => if h : j = i then by rw [h]; exact c38_4 else hm j (by omega)), (lv_sub hl [1, 2, 3, 0] rfl)⟩ (by first | omega | (dsimp only; omega))
      · refine lv_iconst (v := nI (0)) hx hb dX4_standsIn_41 (by decide) ?_
        exact W.zret (v := nI (0)) hx hb hr (by decide) (fun tZ ht _ => ⟨_, rfl, (xb0 <| fun h => c38_4 (h i (by omega))), ht⟩) (fun q hq => by cases hq) dX4_standsIn_42
  · refine lv_iconst (v := nI (0)) hx hb dX4_standsIn_15 (by decide) ?_
    exact W.zret (v := nI (0)) hx hb hr (by decide) (fun tZ ht _ => ⟨_, rfl, (absurd c12_2 (by omega)), ht⟩) (fun q hq => by cases hq) dX4_standsIn_16

set_option maxHeartbeats 4000000 in
set_option maxRecDepth 100000 in
/-- Word.liesWithin -/
theorem mX4_liesWithin (l : Launch) {D : va_G} {cI cJ cZ cW : ClassId} {ad : Nat → Nat} {g : Nat → va_E} {q : Nat} {b1 n1 : Nat} {u1 : Nat → Nat} {co1 : Int32} {ow1 : Int64} {fl1 : Nat → Int32} {b2 n2 : Nat} {u2 : Nat → Nat} {co2 : Int32} {ow2 : Int64} {fl2 : Nat → Int32}  (fo1 : g (b1) = .inr (4, [.ref (ad (b1 + 1)), .ref (ad (b1 + 2)), .ref (ad (b1 + 3)), .ref (ad (b1 + 4)), .int (nI (n1)), .int (co1), .long (ow1)])) (fal1 : g (b1 + 1) = .inl (cI, 5, .inl (fl1))) (fo2 : g (b2) = .inr (4, [.ref (ad (b2 + 1)), .ref (ad (b2 + 2)), .ref (ad (b2 + 3)), .ref (ad (b2 + 4)), .int (nI (n2)), .int (co2), .long (ow2)])) (fal2 : g (b2 + 1) = .inl (cI, 5, .inl (fl2))) (hq4 : q ≤ 4) (hb1 : b1 + 4 < 81) (hn1 : n1 ≤ 5) (hu1 : ∀ j, j < n1 → u1 j < q) (hfl1 : ∀ j, j < n1 → fl1 j = nI (u1 j)) (hb2 : b2 + 4 < 81) (hn2 : n2 ≤ 5) (hu2 : ∀ j, j < n2 → u2 j < q) (hfl2 : ∀ j, j < n2 → fl2 j = nI (u2 j)) : Met l yX4_liesWithin wsX4_liesWithin ({ frames := 1, cells := 0, slots := 0, locals := 23 }) (va_Pc [.ref (ad (b1)), .ref (ad (b2))] (xB D (xT cI cJ cZ cW) ad g)) (vp_Si (fun r => r = if liesW u1 n1 u2 n2 then 1 else 0)) 0 0 (fun _ => False) := by
  refine Met.ofW (cc := cX4_liesWithin) (maxL := 3) (ret := (some .boolean)) (by decide) rfl ?_
  intro p e s m args below meth c s₁ B hml hv
  obtain ⟨rfl, hP, hK, hN⟩ := hv
  have hx := B.exec
  have hb := B.bytes
  have hr := B.returns
  have hts := atoms_spec (ws := wsX4_liesWithin) B.pre
  have hown : s.vm.findClass RX4 = some m.cls := findClass_of_methodNamed B.named
  have hlocks := B.notSynchronized
  have hin4 : ∀ w ∈ wsX40, w ∈ wsX4_liesWithin := by decide +kernel
  have hf9 := hts (.fieldLink RX4 9 "LettersByLot$Word" "letters" "[I") (by decide +kernel)
  have hf25 := hts (.fieldLink RX4 25 "LettersByLot$Word" "length" "I") (by decide +kernel)
  have hl := lv_entry ([.ref (ad (b1)), .ref (ad (b2))]) (n := 3) (Nat.le_of_ble_eq_true rfl)
  rw [lg_entry_eq]
  generalize (lg_sl ([.ref (ad (b1)), .ref (ad (b2))]) ++ List.replicate (3 - (lg_sl ([.ref (ad (b1)), .ref (ad (b2))])).length) Slot.unset).toArray = ls at hl ⊢
  have hl : lv_has ls 3 [(0, .ref (ad (b1))), (1, .ref (ad (b2)))] := hl
  refine lv_iconst (v := nI (0)) hx hb dX4_liesWithin_0 (by decide) ?_
  refine lv_istore_n (lv' := [(2, .int (nI (0))), (0, .ref (ad (b1))), (1, .ref (ad (b2)))]) hx hb dX4_liesWithin_1 rfl hl (by decide) rfl (fun ls hl => ?_)
  refine xloop (G := fun fr => W p l e _ s m _ below meth c _ _ _ _ _ fr) (σ := Nat) (fun a ls => F0 m 2 ls []) (fun a ls => (a ≤ 6) ∧ (∀ x, x < a → ¬ stD u2 x u1 n1) ∧ lv_has ls 3 [(0, .ref (ad (b1))), (1, .ref (ad (b2))), (2, .int (nI (a)))]) (fun a => 6 - a) ?_ (0) ls ⟨(by omega), (fun x hx => absurd hx (by omega)), (lv_sub hl [1, 2, 0] rfl)⟩
  rintro a ls ⟨ha, hno, hl⟩ ih2
  refine lv_iload_n hx hb dX4_liesWithin_2 rfl (lv_at hl 2 rfl) ?_
  refine lv_aload_n hx hb dX4_liesWithin_3 rfl (lv_at hl 0 rfl) ?_
  refine xw_get hx hb hts hin4 hown hK hP (by omega) fo1 rfl 4 (by decide) hf25 rfl rfl dX4_liesWithin_4 ?_
  refine xi_add hx hb dX4_liesWithin_7 ?_
  refine lv_aload_n hx hb dX4_liesWithin_8 rfl (lv_at hl 1 rfl) ?_
  refine xw_get hx hb hts hin4 hown hK hP (by omega) fo2 rfl 4 (by decide) hf25 rfl rfl dX4_liesWithin_9 ?_
  refine xi_icmp_gt (tgt := 35) hx hb (by omega) (by omega) dX4_liesWithin_12 (by decide) (fun c12_1 => ?_) (fun c12_1 => ?_)
  · refine lv_iconst (v := nI (0)) hx hb dX4_liesWithin_35 (by decide) ?_
    exact W.zret (v := nI (0)) hx hb hr (by decide) (fun tZ ht _ => ⟨_, rfl, (xb0 <| fun h => by obtain ⟨x, h1, h2⟩ := liesW_to h; exact hno x (by omega) h2), ht⟩) (fun q hq => by cases hq) dX4_liesWithin_36
  · refine lv_aload_n hx hb dX4_liesWithin_15 rfl (lv_at hl 0 rfl) ?_
    refine lv_aload_n hx hb dX4_liesWithin_16 rfl (lv_at hl 1 rfl) ?_
    refine xw_get hx hb hts hin4 hown hK hP (by omega) fo2 rfl 0 (by decide) hf9 rfl rfl dX4_liesWithin_17 ?_
    refine lv_iload_n hx hb dX4_liesWithin_20 rfl (lv_at hl 2 rfl) ?_
    refine vp_callSi (va_Run.run (va_runV (As := [.ref (ad (b2 + 1)), .int (nI (a))]) (rest := []) ⟨hx, hb, hml, hown, hts⟩ (mX4_standsIn l (q := q) (T := n2) (t := u2) fo1 fal1 fal2 hq4 hb1 hn1 hu1 hfl1 (by omega) (by decide) hn2 hu2 hfl2 (by omega)) (cwV 2 hts gX4_liesWithin_X4_standsIn rfl rfl rfl (by decide +kernel) ⟨Nat.le_of_ble_eq_true rfl, Nat.le_of_ble_eq_true rfl⟩) ⟨xB_blind, va_recv hK hP (ci := 4) rfl (xw_is (by omega) fo1), fun U hU hW => ⟨rfl, by rw [hU]; exact hP, va_K.moved hW.alike hK, va_Nw.warmM hW hN⟩⟩ rfl rfl hl.1 rfl (lv_room (Nat.le_of_ble_eq_true rfl)) dX4_liesWithin_21 ⟨Nat.le_of_ble_eq_true rfl, Nat.le_of_ble_eq_true rfl⟩)) (fun r2 er2 => ?_)
    subst er2
    refine xb_if_eq (tgt := 29) hx hb dX4_liesWithin_24 (by decide) (fun c24_3 => ?_) (fun c24_3 => ?_)
    · refine lv_iinc (v := nI (a + 1)) (lv' := [(2, .int (nI (a + 1))), (0, .ref (ad (b1))), (1, .ref (ad (b2)))]) hx hb dX4_liesWithin_29 hl (k := 2) rfl (nI_add (a) 1) (by decide) rfl (fun ls hl => ?_)
      refine lv_goto (tgt := 2) hx hb dX4_liesWithin_32 (by decide) ?_
      exact ih2 (a + 1) ls ⟨(by omega), (fun x hx => if h : x = a then by rw [h]; exact c24_3 else hno x (by omega)), (lv_sub hl [1, 2, 0] rfl)⟩ (by first | omega | (dsimp only; omega))
    · refine lv_iconst (v := nI (1)) hx hb dX4_liesWithin_27 (by decide) ?_
      exact W.zret (v := nI (1)) hx hb hr (by decide) (fun tZ ht _ => ⟨_, rfl, (xb1 <| liesW_of (by omega) (by omega) c24_3), ht⟩) (fun q hq => by cases hq) dX4_liesWithin_28
