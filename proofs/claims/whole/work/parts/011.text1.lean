theorem wsum_le {w : Nat → Nat} (hw : ∀ j, j < 4 → w j ≤ 4) : ∀ {i : Nat}, i ≤ 4 → wsum w i ≤ 4 * i
  | 0, _ => Nat.le_refl 0
  | i + 1, h => by
    have h1 := wsum_le hw (i := i) (by omega)
    have h2 := hw i (by omega)
    show wsum w i + w i ≤ _
    omega
theorem wsum_small {w : Nat → Nat} (hw : ∀ j, j < 4 → w j ≤ 4) {i : Nat} (h : i ≤ 4) : wsum w i < 2 ^ 31 := by
  have := wsum_le hw h
  omega
set_option maxHeartbeats 4000000 in
set_option maxRecDepth 100000 in
/-- Text.letterAt, a letter that is there -/
theorem mX3_letterAt_in (l : Launch) {D : va_G} {cI cJ cZ cW : ClassId} {ad : Nat → Nat} {g : Nat → va_E} {q j : Nat} {T : Nat} {t : Nat → Nat} {f16 : Nat → Int32}  (fo15 : g (15) = .inr (3, [.ref (ad (16)), .int (nI (T))])) (fa16 : g (16) = .inl (cI, 300, .inl (f16)))  (hT : T ≤ 300) (ht : ∀ j, j < T → t j < q) (h16 : ∀ j, j < T → f16 j = nI (t j)) (hj : j < T) : Met l yX3_letterAt wsX3_letterAt ({ frames := 0, cells := 0, slots := 0, locals := 0 }) (va_Pc [.ref (ad (15)), .int (nI (j))] (xB D (xT cI cJ cZ cW) ad g)) (vp_Si (fun r => r = nI (t j))) 0 0 (fun _ => False) := by
  refine Met.ofW (cc := cX3_letterAt) (maxL := 2) (ret := (some .int)) (by decide) rfl ?_
  intro p e s m args below meth c s₁ B hml hv
  obtain ⟨rfl, hP, hK, hN⟩ := hv
  have hx := B.exec
  have hb := B.bytes
  have hr := B.returns
  have hts := atoms_spec (ws := wsX3_letterAt) B.pre
  have hown : s.vm.findClass RX3 = some m.cls := findClass_of_methodNamed B.named
  have hlocks := B.notSynchronized
  have hin3 : ∀ w ∈ wsX30, w ∈ wsX3_letterAt := by decide +kernel
  have hf9 := hts (.fieldLink RX3 9 "LettersByLot$Text" "letters" "[I") (by decide +kernel)
  have hf15 := hts (.fieldLink RX3 15 "LettersByLot$Text" "length" "I") (by decide +kernel)
  have hl := lv_entry ([.ref (ad (15)), .int (nI (j))]) (n := 2) (Nat.le_of_ble_eq_true rfl)
  rw [lg_entry_eq]
  generalize (lg_sl ([.ref (ad (15)), .int (nI (j))]) ++ List.replicate (2 - (lg_sl ([.ref (ad (15)), .int (nI (j))])).length) Slot.unset).toArray = ls at hl ⊢
  have hl : lv_has ls 2 [(0, .ref (ad (15))), (1, .int (nI (j)))] := hl
  refine lv_iload_n hx hb dX3_letterAt_0 rfl (lv_at hl 1 rfl) ?_
  refine xi_if_lt (tgt := 21) hx hb (by omega) dX3_letterAt_1 (by decide) ?_
  refine lv_iload_n hx hb dX3_letterAt_4 rfl (lv_at hl 1 rfl) ?_
  refine lv_aload_n hx hb dX3_letterAt_5 rfl (lv_at hl 0 rfl) ?_
  refine xw_get hx hb hts hin3 hown hK hP (by decide) fo15 rfl 1 (by decide) hf15 rfl rfl dX3_letterAt_6 ?_
  refine xi_icmp_ge (tgt := 21) hx hb (by omega) (by omega) dX3_letterAt_9 (by decide) (fun c9_2 => ?_) (fun c9_2 => ?_)
  · exact absurd c9_2 (by omega)
  · refine lv_aload_n hx hb dX3_letterAt_12 rfl (lv_at hl 0 rfl) ?_
    refine xw_get hx hb hts hin3 hown hK hP (by decide) fo15 rfl 0 (by decide) hf9 rfl rfl dX3_letterAt_13 ?_
    refine lv_iload_n hx hb dX3_letterAt_16 rfl (lv_at hl 1 rfl) ?_
    refine xw_iald hx hb hK hP (by decide) 0 fa16 rfl (by omega) (by decide) dX3_letterAt_17 ?_
    rw [h16 (j) (by omega)]
    refine lv_goto (tgt := 22) hx hb dX3_letterAt_18 (by decide) ?_
    exact W.iret (v := nI (t (j))) hx hb hr (fun tZ ht _ => ⟨_, rfl, rfl, ht⟩) (fun q hq => by cases hq) dX3_letterAt_22

set_option maxHeartbeats 4000000 in
set_option maxRecDepth 100000 in
/-- Text.letterAt, none there -/
theorem mX3_letterAt_out (l : Launch) {D : va_G} {cI cJ cZ cW : ClassId} {ad : Nat → Nat} {g : Nat → va_E} {q : Nat} {x0 : Int32} {T : Nat} {t : Nat → Nat} {f16 : Nat → Int32}  (fo15 : g (15) = .inr (3, [.ref (ad (16)), .int (nI (T))])) (fa16 : g (16) = .inl (cI, 300, .inl (f16)))  (hT : T ≤ 300) (ht : ∀ j, j < T → t j < q) (h16 : ∀ j, j < T → f16 j = nI (t j)) (hx0 : x0 < 0 ∨ nI T ≤ x0) : Met l yX3_letterAt wsX3_letterAt ({ frames := 0, cells := 0, slots := 0, locals := 0 }) (va_Pc [.ref (ad (15)), .int (x0)] (xB D (xT cI cJ cZ cW) ad g)) (vp_Si (fun r => r = -1)) 0 0 (fun _ => False) := by
  refine Met.ofW (cc := cX3_letterAt) (maxL := 2) (ret := (some .int)) (by decide) rfl ?_
  intro p e s m args below meth c s₁ B hml hv
  obtain ⟨rfl, hP, hK, hN⟩ := hv
  have hx := B.exec
  have hb := B.bytes
  have hr := B.returns
  have hts := atoms_spec (ws := wsX3_letterAt) B.pre
  have hown : s.vm.findClass RX3 = some m.cls := findClass_of_methodNamed B.named
  have hlocks := B.notSynchronized
  have hin3 : ∀ w ∈ wsX30, w ∈ wsX3_letterAt := by decide +kernel
  have hf15 := hts (.fieldLink RX3 15 "LettersByLot$Text" "length" "I") (by decide +kernel)
  have hl := lv_entry ([.ref (ad (15)), .int (x0)]) (n := 2) (Nat.le_of_ble_eq_true rfl)
  rw [lg_entry_eq]
  generalize (lg_sl ([.ref (ad (15)), .int (x0)]) ++ List.replicate (2 - (lg_sl ([.ref (ad (15)), .int (x0)])).length) Slot.unset).toArray = ls at hl ⊢
  have hl : lv_has ls 2 [(0, .ref (ad (15))), (1, .int (x0))] := hl
  refine lv_iload_n hx hb dX3_letterAt_0 rfl (lv_at hl 1 rfl) ?_
  refine lv_if_lt (tgt := 21) hx hb dX3_letterAt_1 (by decide) (fun c1_1 => ?_) (fun c1_1 => ?_)
  · refine lv_iconst (v := (-1)) hx hb dX3_letterAt_21 (by decide) ?_
    exact W.iret (v := (-1)) hx hb hr (fun tZ ht _ => ⟨_, rfl, rfl, ht⟩) (fun q hq => by cases hq) dX3_letterAt_22
  · refine lv_iload_n hx hb dX3_letterAt_4 rfl (lv_at hl 1 rfl) ?_
    refine lv_aload_n hx hb dX3_letterAt_5 rfl (lv_at hl 0 rfl) ?_
    refine xw_get hx hb hts hin3 hown hK hP (by decide) fo15 rfl 1 (by decide) hf15 rfl rfl dX3_letterAt_6 ?_
    refine lv_icmp_ge (tgt := 21) hx hb dX3_letterAt_9 (by decide) (fun c9_2 => ?_) (fun c9_2 => ?_)
    · refine lv_iconst (v := (-1)) hx hb dX3_letterAt_21 (by decide) ?_
      exact W.iret (v := (-1)) hx hb hr (fun tZ ht _ => ⟨_, rfl, rfl, ht⟩) (fun q hq => by cases hq) dX3_letterAt_22
    · exact absurd hx0 (by rintro (h | h); exact c1_1 h; exact c9_2 h)

set_option maxHeartbeats 4000000 in
set_option maxRecDepth 100000 in
/-- Text.firstEndOf -/
theorem mX3_firstEndOf (l : Launch) {D : va_G} {cI cJ cZ cW : ClassId} {ad : Nat → Nat} {g : Nat → va_E} {q : Nat} {T : Nat} {t : Nat → Nat} {f16 : Nat → Int32} {b1 n1 : Nat} {u1 : Nat → Nat} {co1 : Int32} {ow1 : Int64} {fl1 : Nat → Int32}  (fo15 : g (15) = .inr (3, [.ref (ad (16)), .int (nI (T))])) (fa16 : g (16) = .inl (cI, 300, .inl (f16))) (fo1 : g (b1) = .inr (4, [.ref (ad (b1 + 1)), .ref (ad (b1 + 2)), .ref (ad (b1 + 3)), .ref (ad (b1 + 4)), .int (nI (n1)), .int (co1), .long (ow1)])) (fal1 : g (b1 + 1) = .inl (cI, 5, .inl (fl1))) (hq4 : q ≤ 4) (hT : T ≤ 300) (ht : ∀ j, j < T → t j < q) (h16 : ∀ j, j < T → f16 j = nI (t j)) (hb1 : b1 + 4 < 81) (hn1 : n1 ≤ 5) (hu1 : ∀ j, j < n1 → u1 j < q) (hfl1 : ∀ j, j < n1 → fl1 j = nI (u1 j)) : Met l yX3_firstEndOf wsX3_firstEndOf ({ frames := 1, cells := 0, slots := 0, locals := 23 }) (va_Pc [.ref (ad (15)), .ref (ad (b1))] (xB D (xT cI cJ cZ cW) ad g)) (vp_Si (fun r => (∃ a, r = nI (a + n1) ∧ a + n1 ≤ T ∧ stD t a u1 n1 ∧ ∀ x, x < a → ¬ stD t x u1 n1) ∨ (r = -1 ∧ ∀ x, x + n1 ≤ T → ¬ stD t x u1 n1))) 0 0 (fun _ => False) := by
  refine Met.ofW (cc := cX3_firstEndOf) (maxL := 3) (ret := (some .int)) (by decide) rfl ?_
  intro p e s m args below meth c s₁ B hml hv
  obtain ⟨rfl, hP, hK, hN⟩ := hv
  have hx := B.exec
  have hb := B.bytes
  have hr := B.returns
  have hts := atoms_spec (ws := wsX3_firstEndOf) B.pre
  have hown : s.vm.findClass RX3 = some m.cls := findClass_of_methodNamed B.named
  have hlocks := B.notSynchronized
  have hin3 : ∀ w ∈ wsX30, w ∈ wsX3_firstEndOf := by decide +kernel
  have hin4 : ∀ w ∈ wsX40, w ∈ wsX3_firstEndOf := by decide +kernel
  have hf9 := hts (.fieldLink RX3 9 "LettersByLot$Text" "letters" "[I") (by decide +kernel)
  have hf15 := hts (.fieldLink RX3 15 "LettersByLot$Text" "length" "I") (by decide +kernel)
  have hf19 := hts (.fieldLink RX3 19 "LettersByLot$Word" "length" "I") (by decide +kernel)
  have hl := lv_entry ([.ref (ad (15)), .ref (ad (b1))]) (n := 3) (Nat.le_of_ble_eq_true rfl)
  rw [lg_entry_eq]
  generalize (lg_sl ([.ref (ad (15)), .ref (ad (b1))]) ++ List.replicate (3 - (lg_sl ([.ref (ad (15)), .ref (ad (b1))])).length) Slot.unset).toArray = ls at hl ⊢
  have hl : lv_has ls 3 [(0, .ref (ad (15))), (1, .ref (ad (b1)))] := hl
  refine lv_iconst (v := nI (0)) hx hb dX3_firstEndOf_0 (by decide) ?_
  refine lv_istore_n (lv' := [(2, .int (nI (0))), (0, .ref (ad (15))), (1, .ref (ad (b1)))]) hx hb dX3_firstEndOf_1 rfl hl (by decide) rfl (fun ls hl => ?_)
  refine xloop (G := fun fr => W p l e _ s m _ below meth c _ _ _ _ _ fr) (σ := Nat) (fun a ls => F0 m 2 ls []) (fun a ls => (a ≤ 301) ∧ (∀ x, x < a → ¬ stD t x u1 n1) ∧ lv_has ls 3 [(0, .ref (ad (15))), (1, .ref (ad (b1))), (2, .int (nI (a)))]) (fun a => 302 - a) ?_ (0) ls ⟨(by omega), (fun x hx => absurd hx (by omega)), (lv_sub hl [1, 2, 0] rfl)⟩
  rintro a ls ⟨ha, hno, hl⟩ ih2
  refine lv_iload_n hx hb dX3_firstEndOf_2 rfl (lv_at hl 2 rfl) ?_
  refine lv_aload_n hx hb dX3_firstEndOf_3 rfl (lv_at hl 1 rfl) ?_
  refine xw_get hx hb hts hin4 hown hK hP (by omega) fo1 rfl 4 (by decide) hf19 rfl rfl dX3_firstEndOf_4 ?_
  refine xi_add hx hb dX3_firstEndOf_7 ?_
  refine lv_aload_n hx hb dX3_firstEndOf_8 rfl (lv_at hl 0 rfl) ?_
  refine xw_get hx hb hts hin3 hown hK hP (by decide) fo15 rfl 1 (by decide) hf15 rfl rfl dX3_firstEndOf_9 ?_
  refine xi_icmp_gt (tgt := 40) hx hb (by omega) (by omega) dX3_firstEndOf_12 (by decide) (fun c12_1 => ?_) (fun c12_1 => ?_)
  · refine lv_iconst (v := (-1)) hx hb dX3_firstEndOf_40 (by decide) ?_
    exact W.iret (v := (-1)) hx hb hr (fun tZ ht _ => ⟨_, rfl, Or.inr ⟨rfl, fun x hx => hno x (by omega)⟩, ht⟩) (fun q hq => by cases hq) dX3_firstEndOf_41
  · refine lv_aload_n hx hb dX3_firstEndOf_15 rfl (lv_at hl 1 rfl) ?_
    refine lv_aload_n hx hb dX3_firstEndOf_16 rfl (lv_at hl 0 rfl) ?_
    refine xw_get hx hb hts hin3 hown hK hP (by decide) fo15 rfl 0 (by decide) hf9 rfl rfl dX3_firstEndOf_17 ?_
    refine lv_iload_n hx hb dX3_firstEndOf_20 rfl (lv_at hl 2 rfl) ?_
    refine vp_callSi (va_Run.run (va_runV (As := [.ref (ad (16)), .int (nI (a))]) (rest := []) ⟨hx, hb, hml, hown, hts⟩ (mX4_standsIn l (q := q) (T := T) (t := t) fo1 fal1 fa16 hq4 hb1 hn1 hu1 hfl1 (by decide) (by decide) hT ht h16 (by omega)) (cwV 2 hts gX3_firstEndOf_X4_standsIn rfl rfl rfl (by decide +kernel) ⟨Nat.le_of_ble_eq_true rfl, Nat.le_of_ble_eq_true rfl⟩) ⟨xB_blind, va_recv hK hP (ci := 4) rfl (xw_is (by omega) fo1), fun U hU hW => ⟨rfl, by rw [hU]; exact hP, va_K.moved hW.alike hK, va_Nw.warmM hW hN⟩⟩ rfl rfl hl.1 rfl (lv_room (Nat.le_of_ble_eq_true rfl)) dX3_firstEndOf_21 ⟨Nat.le_of_ble_eq_true rfl, Nat.le_of_ble_eq_true rfl⟩)) (fun r2 er2 => ?_)
    subst er2
    refine xb_if_eq (tgt := 34) hx hb dX3_firstEndOf_24 (by decide) (fun c24_3 => ?_) (fun c24_3 => ?_)
    · refine lv_iinc (v := nI (a + 1)) (lv' := [(2, .int (nI (a + 1))), (0, .ref (ad (15))), (1, .ref (ad (b1)))]) hx hb dX3_firstEndOf_34 hl (k := 2) rfl (nI_add (a) 1) (by decide) rfl (fun ls hl => ?_)
      refine lv_goto (tgt := 2) hx hb dX3_firstEndOf_37 (by decide) ?_
      exact ih2 (a + 1) ls ⟨(by omega), (fun x hx => if h : x = a then by rw [h]; exact c24_3 else hno x (by omega)), (lv_sub hl [1, 2, 0] rfl)⟩ (by first | omega | (dsimp only; omega))
    · refine lv_iload_n hx hb dX3_firstEndOf_27 rfl (lv_at hl 2 rfl) ?_
      refine lv_aload_n hx hb dX3_firstEndOf_28 rfl (lv_at hl 1 rfl) ?_
      refine xw_get hx hb hts hin4 hown hK hP (by omega) fo1 rfl 4 (by decide) hf19 rfl rfl dX3_firstEndOf_29 ?_
      refine xi_add hx hb dX3_firstEndOf_32 ?_
      exact W.iret (v := nI (a + n1)) hx hb hr (fun tZ ht _ => ⟨_, rfl, Or.inl ⟨a, rfl, by omega, c24_3, hno⟩, ht⟩) (fun q hq => by cases hq) dX3_firstEndOf_33

set_option maxHeartbeats 4000000 in
set_option maxRecDepth 100000 in
/-- Text.placesOf -/
theorem mX3_placesOf (l : Launch) {D : va_G} {cI cJ cZ cW : ClassId} {ad : Nat → Nat} {g : Nat → va_E} {q : Nat} {T : Nat} {t : Nat → Nat} {f16 : Nat → Int32} {b1 n1 : Nat} {u1 : Nat → Nat} {co1 : Int32} {ow1 : Int64} {fl1 : Nat → Int32}  (fo15 : g (15) = .inr (3, [.ref (ad (16)), .int (nI (T))])) (fa16 : g (16) = .inl (cI, 300, .inl (f16))) (fo1 : g (b1) = .inr (4, [.ref (ad (b1 + 1)), .ref (ad (b1 + 2)), .ref (ad (b1 + 3)), .ref (ad (b1 + 4)), .int (nI (n1)), .int (co1), .long (ow1)])) (fal1 : g (b1 + 1) = .inl (cI, 5, .inl (fl1))) (hq4 : q ≤ 4) (hT : T ≤ 300) (ht : ∀ j, j < T → t j < q) (h16 : ∀ j, j < T → f16 j = nI (t j)) (hb1 : b1 + 4 < 81) (hn1 : n1 ≤ 5) (hu1 : ∀ j, j < n1 → u1 j < q) (hfl1 : ∀ j, j < n1 → fl1 j = nI (u1 j)) (hn0 : 0 < n1) : Met l yX3_placesOf wsX3_placesOf ({ frames := 1, cells := 0, slots := 0, locals := 23 }) (va_Pc [.ref (ad (15)), .ref (ad (b1))] (xB D (xT cI cJ cZ cW) ad g)) (vp_Si (fun r => r = nI (cntS (fun a => decide (stD t a u1 n1)) (T + 1 - n1)))) 0 0 (fun _ => False) := by
  refine Met.ofW (cc := cX3_placesOf) (maxL := 4) (ret := (some .int)) (by decide) rfl ?_
  intro p e s m args below meth c s₁ B hml hv
  obtain ⟨rfl, hP, hK, hN⟩ := hv
  have hx := B.exec
  have hb := B.bytes
  have hr := B.returns
  have hts := atoms_spec (ws := wsX3_placesOf) B.pre
  have hown : s.vm.findClass RX3 = some m.cls := findClass_of_methodNamed B.named
  have hlocks := B.notSynchronized
  have hin3 : ∀ w ∈ wsX30, w ∈ wsX3_placesOf := by decide +kernel
  have hin4 : ∀ w ∈ wsX40, w ∈ wsX3_placesOf := by decide +kernel
  have hf9 := hts (.fieldLink RX3 9 "LettersByLot$Text" "letters" "[I") (by decide +kernel)
  have hf15 := hts (.fieldLink RX3 15 "LettersByLot$Text" "length" "I") (by decide +kernel)
  have hf19 := hts (.fieldLink RX3 19 "LettersByLot$Word" "length" "I") (by decide +kernel)
  have hl := lv_entry ([.ref (ad (15)), .ref (ad (b1))]) (n := 4) (Nat.le_of_ble_eq_true rfl)
  rw [lg_entry_eq]
  generalize (lg_sl ([.ref (ad (15)), .ref (ad (b1))]) ++ List.replicate (4 - (lg_sl ([.ref (ad (15)), .ref (ad (b1))])).length) Slot.unset).toArray = ls at hl ⊢
  have hl : lv_has ls 4 [(0, .ref (ad (15))), (1, .ref (ad (b1)))] := hl
  refine lv_iconst (v := nI (0)) hx hb dX3_placesOf_0 (by decide) ?_
  refine lv_istore_n (lv' := [(2, .int (nI (0))), (0, .ref (ad (15))), (1, .ref (ad (b1)))]) hx hb dX3_placesOf_1 rfl hl (by decide) rfl (fun ls hl => ?_)
  refine lv_iconst (v := nI (0)) hx hb dX3_placesOf_2 (by decide) ?_
  refine lv_istore_n (lv' := [(3, .int (nI (0))), (2, .int (nI (0))), (0, .ref (ad (15))), (1, .ref (ad (b1)))]) hx hb dX3_placesOf_3 rfl hl (by decide) rfl (fun ls hl => ?_)
  refine xloop (G := fun fr => W p l e _ s m _ below meth c _ _ _ _ _ fr) (σ := Nat) (fun a ls => F0 m 4 ls []) (fun a ls => (a ≤ T + 1 - n1) ∧ lv_has ls 4 [(0, .ref (ad (15))), (1, .ref (ad (b1))), (2, .int (nI (cntS (fun a => decide (stD t a u1 n1)) a))), (3, .int (nI (a)))]) (fun a => 302 - a) ?_ (0) ls ⟨(by omega), (lv_sub hl [2, 3, 1, 0] rfl)⟩
  rintro a ls ⟨ha, hl⟩ ih4
  refine lv_iload_n hx hb dX3_placesOf_4 rfl (lv_at hl 3 rfl) ?_
  refine lv_aload_n hx hb dX3_placesOf_5 rfl (lv_at hl 1 rfl) ?_
  refine xw_get hx hb hts hin4 hown hK hP (by omega) fo1 rfl 4 (by decide) hf19 rfl rfl dX3_placesOf_6 ?_
  refine xi_add hx hb dX3_placesOf_9 ?_
  refine lv_aload_n hx hb dX3_placesOf_10 rfl (lv_at hl 0 rfl) ?_
  refine xw_get hx hb hts hin3 hown hK hP (by decide) fo15 rfl 1 (by decide) hf15 rfl rfl dX3_placesOf_11 ?_
  refine xi_icmp_gt (tgt := 43) hx hb (by omega) (by omega) dX3_placesOf_14 (by decide) (fun c14_1 => ?_) (fun c14_1 => ?_)
  · refine lv_iload_n hx hb dX3_placesOf_43 rfl (lv_at hl 2 rfl) ?_
    exact W.iret (v := nI (cntS (fun a => decide (stD t a u1 n1)) a)) hx hb hr (fun tZ ht _ => ⟨_, rfl, (by show _ = _; rw [show a = T + 1 - n1 by omega]), ht⟩) (fun q hq => by cases hq) dX3_placesOf_44
  · refine lv_iload_n hx hb dX3_placesOf_17 rfl (lv_at hl 2 rfl) ?_
    refine lv_aload_n hx hb dX3_placesOf_18 rfl (lv_at hl 1 rfl) ?_
    refine lv_aload_n hx hb dX3_placesOf_19 rfl (lv_at hl 0 rfl) ?_
    refine xw_get hx hb hts hin3 hown hK hP (by decide) fo15 rfl 0 (by decide) hf9 rfl rfl dX3_placesOf_20 ?_
    refine lv_iload_n hx hb dX3_placesOf_23 rfl (lv_at hl 3 rfl) ?_
    refine vp_callSi (va_Run.run (va_runV (As := [.ref (ad (16)), .int (nI (a))]) (rest := [.int (nI (cntS (fun a => decide (stD t a u1 n1)) a))]) ⟨hx, hb, hml, hown, hts⟩ (mX4_standsIn l (q := q) (T := T) (t := t) fo1 fal1 fa16 hq4 hb1 hn1 hu1 hfl1 (by decide) (by decide) hT ht h16 (by omega)) (cwV 2 hts gX3_placesOf_X4_standsIn rfl rfl rfl (by decide +kernel) ⟨Nat.le_of_ble_eq_true rfl, Nat.le_of_ble_eq_true rfl⟩) ⟨xB_blind, va_recv hK hP (ci := 4) rfl (xw_is (by omega) fo1), fun U hU hW => ⟨rfl, by rw [hU]; exact hP, va_K.moved hW.alike hK, va_Nw.warmM hW hN⟩⟩ rfl rfl hl.1 rfl (lv_room (Nat.le_of_ble_eq_true rfl)) dX3_placesOf_24 ⟨Nat.le_of_ble_eq_true rfl, Nat.le_of_ble_eq_true rfl⟩)) (fun r2 er2 => ?_)
    subst er2
    refine xb_if_eq (tgt := 34) hx hb dX3_placesOf_27 (by decide) (fun c27_3 => ?_) (fun c27_3 => ?_)
    · refine lv_iconst (v := nI (0)) hx hb dX3_placesOf_34 (by decide) ?_
      refine xi_add hx hb dX3_placesOf_35 ?_
      refine xtopi (y := nI (cntS (fun a => decide (stD t a u1 n1)) (a + 1))) (congrArg nI (by rw [cntS_n (fun h => c27_3 (of_decide_eq_true h)), Nat.add_zero])) ?_
      refine lv_istore_n (lv' := [(2, .int (nI (cntS (fun a => decide (stD t a u1 n1)) (a + 1)))), (0, .ref (ad (15))), (1, .ref (ad (b1))), (3, .int (nI (a)))]) hx hb dX3_placesOf_36 rfl hl (by decide) rfl (fun ls hl => ?_)
      refine lv_iinc (v := nI (a + 1)) (lv' := [(3, .int (nI (a + 1))), (2, .int (nI (cntS (fun a => decide (stD t a u1 n1)) (a + 1)))), (0, .ref (ad (15))), (1, .ref (ad (b1)))]) hx hb dX3_placesOf_37 hl (k := 3) rfl (nI_add (a) 1) (by decide) rfl (fun ls hl => ?_)
      refine lv_goto (tgt := 4) hx hb dX3_placesOf_40 (by decide) ?_
      exact ih4 (a + 1) ls ⟨(by omega), (lv_sub hl [2, 3, 1, 0] rfl)⟩ (by first | omega | (dsimp only; omega))
    · refine lv_iconst (v := nI (1)) hx hb dX3_placesOf_30 (by decide) ?_
      refine lv_goto (tgt := 35) hx hb dX3_placesOf_31 (by decide) ?_
      refine xi_add hx hb dX3_placesOf_35 ?_
      refine xtopi (y := nI (cntS (fun a => decide (stD t a u1 n1)) (a + 1))) (congrArg nI (by rw [cntS_y (decide_eq_true c27_3)])) ?_
      refine lv_istore_n (lv' := [(2, .int (nI (cntS (fun a => decide (stD t a u1 n1)) (a + 1)))), (0, .ref (ad (15))), (1, .ref (ad (b1))), (3, .int (nI (a)))]) hx hb dX3_placesOf_36 rfl hl (by decide) rfl (fun ls hl => ?_)
      refine lv_iinc (v := nI (a + 1)) (lv' := [(3, .int (nI (a + 1))), (2, .int (nI (cntS (fun a => decide (stD t a u1 n1)) (a + 1)))), (0, .ref (ad (15))), (1, .ref (ad (b1)))]) hx hb dX3_placesOf_37 hl (k := 3) rfl (nI_add (a) 1) (by decide) rfl (fun ls hl => ?_)
      refine lv_goto (tgt := 4) hx hb dX3_placesOf_40 (by decide) ?_
      exact ih4 (a + 1) ls ⟨(by omega), (lv_sub hl [2, 3, 1, 0] rfl)⟩ (by first | omega | (dsimp only; omega))

set_option maxHeartbeats 4000000 in
set_option maxRecDepth 100000 in
/-- Lot.isEven -/
theorem mX0_isEven (l : Launch) {D : va_G} {cI cJ cZ cW : ClassId} {ad : Nat → Nat} {g : Nat → va_E} {q Wt : Nat} {w : Nat → Nat} {f2 : Nat → Int32}  (fo_1 : g (1) = .inr (0, [.ref (ad (2)), .int (nI (q)), .int (nI (Wt))])) (fa_2 : g (2) = .inl (cI, 4, .inl (f2)))  (hq4 : q ≤ 4) (hq2 : 2 ≤ q) (h2 : ∀ j, j < 4 → f2 j = nI (w j)) (hw : ∀ j, j < 4 → w j ≤ 4) : Met l yX0_isEven wsX0_isEven ({ frames := 0, cells := 0, slots := 0, locals := 0 }) (va_Pc [.ref (ad (1))] (xB D (xT cI cJ cZ cW) ad g)) (vp_Si (fun r => r = if (∀ j, j < q → w j = w 0) then 1 else 0)) 0 0 (fun _ => False) := by
  refine Met.ofW (cc := cX0_isEven) (maxL := 2) (ret := (some .boolean)) (by decide) rfl ?_
  intro p e s m args below meth c s₁ B hml hv
  obtain ⟨rfl, hP, hK, hN⟩ := hv
  have hx := B.exec
  have hb := B.bytes
  have hr := B.returns
  have hts := atoms_spec (ws := wsX0_isEven) B.pre
  have hown : s.vm.findClass RX0 = some m.cls := findClass_of_methodNamed B.named
  have hlocks := B.notSynchronized
  have hin0 : ∀ w ∈ wsX00, w ∈ wsX0_isEven := by decide +kernel
  have hf9 := hts (.fieldLink RX0 9 "LettersByLot$Lot" "weights" "[I") (by decide +kernel)
  have hf15 := hts (.fieldLink RX0 15 "LettersByLot$Lot" "letters" "I") (by decide +kernel)
  have hl := lv_entry ([.ref (ad (1))]) (n := 2) (Nat.le_of_ble_eq_true rfl)
  rw [lg_entry_eq]
  generalize (lg_sl ([.ref (ad (1))]) ++ List.replicate (2 - (lg_sl ([.ref (ad (1))])).length) Slot.unset).toArray = ls at hl ⊢
  have hl : lv_has ls 2 [(0, .ref (ad (1)))] := hl
  refine lv_iconst (v := nI (1)) hx hb dX0_isEven_0 (by decide) ?_
  refine lv_istore_n (lv' := [(1, .int (nI (1))), (0, .ref (ad (1)))]) hx hb dX0_isEven_1 rfl hl (by decide) rfl (fun ls hl => ?_)
  refine xloop (G := fun fr => W p l e _ s m _ below meth c _ _ _ _ _ fr) (σ := Nat) (fun i ls => F0 m 2 ls []) (fun i ls => (1 ≤ i ∧ i ≤ q) ∧ (∀ j, j < i → w j = w 0) ∧ lv_has ls 2 [(0, .ref (ad (1))), (1, .int (nI (i)))]) (fun i => q - i) ?_ (1) ls ⟨(by omega), (fun j hj => by rw [show j = 0 by omega]), (lv_sub hl [1, 0] rfl)⟩
  rintro i ls ⟨hi, hm, hl⟩ ih2
  refine lv_iload_n hx hb dX0_isEven_2 rfl (lv_at hl 1 rfl) ?_
  refine lv_aload_n hx hb dX0_isEven_3 rfl (lv_at hl 0 rfl) ?_
  refine xw_get hx hb hts hin0 hown hK hP (by decide) fo_1 rfl 1 (by decide) hf15 rfl rfl dX0_isEven_4 ?_
  refine xi_icmp_ge (tgt := 33) hx hb (by omega) (by omega) dX0_isEven_7 (by decide) (fun c7_1 => ?_) (fun c7_1 => ?_)
  · refine lv_iconst (v := nI (1)) hx hb dX0_isEven_33 (by decide) ?_
    exact W.zret (v := nI (1)) hx hb hr (by decide) (fun tZ ht _ => ⟨_, rfl, (xb1 <| fun j hj => hm j (by omega)), ht⟩) (fun q hq => by cases hq) dX0_isEven_34
  · refine lv_aload_n hx hb dX0_isEven_10 rfl (lv_at hl 0 rfl) ?_
    refine xw_get hx hb hts hin0 hown hK hP (by decide) fo_1 rfl 0 (by decide) hf9 rfl rfl dX0_isEven_11 ?_
    refine lv_iload_n hx hb dX0_isEven_14 rfl (lv_at hl 1 rfl) ?_
    refine xw_iald hx hb hK hP (by decide) 0 fa_2 rfl (by omega) (by decide) dX0_isEven_15 ?_
    rw [h2 (i) (by omega)]
    refine lv_aload_n hx hb dX0_isEven_16 rfl (lv_at hl 0 rfl) ?_
    refine xw_get hx hb hts hin0 hown hK hP (by decide) fo_1 rfl 0 (by decide) hf9 rfl rfl dX0_isEven_17 ?_
    refine lv_iconst (v := nI (0)) hx hb dX0_isEven_20 (by decide) ?_
    refine xw_iald hx hb hK hP (by decide) 0 fa_2 rfl (by omega) (by decide) dX0_isEven_21 ?_
    rw [h2 (0) (by omega)]
    refine xi_icmp_eq (tgt := 27) hx hb (Nat.lt_of_le_of_lt (hw _ (by omega)) (by decide)) (Nat.lt_of_le_of_lt (hw _ (by omega)) (by decide)) dX0_isEven_22 (by decide) (fun c22_2 => ?_) (fun c22_2 => ?_)
    · refine lv_iinc (v := nI (i + 1)) (lv' := [(1, .int (nI (i + 1))), (0, .ref (ad (1)))]) hx hb dX0_isEven_27 hl (k := 1) rfl (nI_add (i) 1) (by decide) rfl (fun ls hl => ?_)
      refine lv_goto (tgt := 2) hx hb dX0_isEven_30 (by decide) ?_
      exact ih2 (i + 1) ls ⟨(by omega), (fun j hj => if h : j = i then by rw [h]; exact c22_2 else hm j (by omega)), (lv_sub hl [1, 0] rfl)⟩ (by first | omega | (dsimp only; omega))
    · refine lv_iconst (v := nI (0)) hx hb dX0_isEven_25 (by decide) ?_
      exact W.zret (v := nI (0)) hx hb hr (by decide) (fun tZ ht _ => ⟨_, rfl, (xb0 <| fun h => c22_2 (h i (by omega))), ht⟩) (fun q hq => by cases hq) dX0_isEven_26

set_option maxHeartbeats 4000000 in
set_option maxRecDepth 100000 in
/-- Lot.weightOf -/
theorem mX0_weightOf (l : Launch) {D : va_G} {cI cJ cZ cW : ClassId} {ad : Nat → Nat} {g : Nat → va_E} {s0 : Nat} {q Wt : Nat} {w : Nat → Nat} {f2 : Nat → Int32}  (fo_1 : g (1) = .inr (0, [.ref (ad (2)), .int (nI (q)), .int (nI (Wt))])) (fa_2 : g (2) = .inl (cI, 4, .inl (f2)))  (hq4 : q ≤ 4) (hq2 : 2 ≤ q) (h2 : ∀ j, j < 4 → f2 j = nI (w j)) (hw : ∀ j, j < 4 → w j ≤ 4) (hs0 : s0 < 16) : Met l yX0_weightOf wsX0_weightOf ({ frames := 0, cells := 0, slots := 0, locals := 0 }) (va_Pc [.ref (ad (1)), .int (nI (s0))] (xB D (xT cI cJ cZ cW) ad g)) (vp_Si (fun r => r = nI (wset w s0 q))) 0 0 (fun _ => False) := by
  refine Met.ofW (cc := cX0_weightOf) (maxL := 4) (ret := (some .int)) (by decide) rfl ?_
  intro p e s m args below meth c s₁ B hml hv
  obtain ⟨rfl, hP, hK, hN⟩ := hv
  have hx := B.exec
  have hb := B.bytes
  have hr := B.returns
  have hts := atoms_spec (ws := wsX0_weightOf) B.pre
  have hown : s.vm.findClass RX0 = some m.cls := findClass_of_methodNamed B.named
  have hlocks := B.notSynchronized
  have hin0 : ∀ w ∈ wsX00, w ∈ wsX0_weightOf := by decide +kernel
  have hf9 := hts (.fieldLink RX0 9 "LettersByLot$Lot" "weights" "[I") (by decide +kernel)
  have hf15 := hts (.fieldLink RX0 15 "LettersByLot$Lot" "letters" "I") (by decide +kernel)
  have hl := lv_entry ([.ref (ad (1)), .int (nI (s0))]) (n := 4) (Nat.le_of_ble_eq_true rfl)
  rw [lg_entry_eq]
  generalize (lg_sl ([.ref (ad (1)), .int (nI (s0))]) ++ List.replicate (4 - (lg_sl ([.ref (ad (1)), .int (nI (s0))])).length) Slot.unset).toArray = ls at hl ⊢
  have hl : lv_has ls 4 [(0, .ref (ad (1))), (1, .int (nI (s0)))] := hl
  refine lv_iconst (v := nI (0)) hx hb dX0_weightOf_0 (by decide) ?_
  refine lv_istore_n (lv' := [(2, .int (nI (0))), (0, .ref (ad (1))), (1, .int (nI (s0)))]) hx hb dX0_weightOf_1 rfl hl (by decide) rfl (fun ls hl => ?_)
  refine lv_iconst (v := nI (0)) hx hb dX0_weightOf_2 (by decide) ?_
  refine lv_istore_n (lv' := [(3, .int (nI (0))), (2, .int (nI (0))), (0, .ref (ad (1))), (1, .int (nI (s0)))]) hx hb dX0_weightOf_3 rfl hl (by decide) rfl (fun ls hl => ?_)
  refine xloop (G := fun fr => W p l e _ s m _ below meth c _ _ _ _ _ fr) (σ := Nat) (fun i ls => F0 m 4 ls []) (fun i ls => (i ≤ q) ∧ lv_has ls 4 [(0, .ref (ad (1))), (1, .int (nI (s0))), (2, .int (nI (wset w s0 i))), (3, .int (nI (i)))]) (fun i => q - i) ?_ (0) ls ⟨(by omega), (lv_sub hl [2, 3, 1, 0] rfl)⟩
  rintro i ls ⟨hi, hl⟩ ih4
  refine lv_iload_n hx hb dX0_weightOf_4 rfl (lv_at hl 3 rfl) ?_
  refine lv_aload_n hx hb dX0_weightOf_5 rfl (lv_at hl 0 rfl) ?_
  refine xw_get hx hb hts hin0 hown hK hP (by decide) fo_1 rfl 1 (by decide) hf15 rfl rfl dX0_weightOf_6 ?_
  refine xi_icmp_ge (tgt := 40) hx hb (by omega) (by omega) dX0_weightOf_9 (by decide) (fun c9_1 => ?_) (fun c9_1 => ?_)
  · refine lv_iload_n hx hb dX0_weightOf_40 rfl (lv_at hl 2 rfl) ?_
    exact W.iret (v := nI (wset w s0 i)) hx hb hr (fun tZ ht _ => ⟨_, rfl, (by show _ = _; rw [show i = q by omega]), ht⟩) (fun q hq => by cases hq) dX0_weightOf_41
  · refine lv_iload_n hx hb dX0_weightOf_12 rfl (lv_at hl 2 rfl) ?_
    refine lv_iload_n hx hb dX0_weightOf_13 rfl (lv_at hl 1 rfl) ?_
    refine lv_iload_n hx hb dX0_weightOf_14 rfl (lv_at hl 3 rfl) ?_
    refine lv_ishr hx hb dX0_weightOf_15 ?_
    refine xtopi (y := nI (s0 / 2 ^ i)) (nI_shr (by omega) (by omega)) ?_
    refine lv_iconst (v := nI (1)) hx hb dX0_weightOf_16 (by decide) ?_
    refine lv_iand hx hb dX0_weightOf_17 ?_
    refine xtopi (y := nI (s0 / 2 ^ i % 2)) (and1 _) ?_
    refine lv_iconst (v := nI (1)) hx hb dX0_weightOf_18 (by decide) ?_
    refine xi_icmp_ne (tgt := 31) hx hb (by omega) (by decide) dX0_weightOf_19 (by decide) (fun c19_4 => ?_) (fun c19_4 => ?_)
    · refine lv_iconst (v := nI (0)) hx hb dX0_weightOf_31 (by decide) ?_
      refine xi_add hx hb dX0_weightOf_32 ?_
      refine xtopi (y := nI (wset w s0 (i + 1))) (congrArg nI (by show _ = wset w s0 i + (if _ then _ else 0); rw [if_neg c19_4])) ?_
      refine lv_istore_n (lv' := [(2, .int (nI (wset w s0 (i + 1)))), (0, .ref (ad (1))), (1, .int (nI (s0))), (3, .int (nI (i)))]) hx hb dX0_weightOf_33 rfl hl (by decide) rfl (fun ls hl => ?_)
      refine lv_iinc (v := nI (i + 1)) (lv' := [(3, .int (nI (i + 1))), (2, .int (nI (wset w s0 (i + 1)))), (0, .ref (ad (1))), (1, .int (nI (s0)))]) hx hb dX0_weightOf_34 hl (k := 3) rfl (nI_add (i) 1) (by decide) rfl (fun ls hl => ?_)
      refine lv_goto (tgt := 4) hx hb dX0_weightOf_37 (by decide) ?_
      exact ih4 (i + 1) ls ⟨(by omega), (lv_sub hl [2, 3, 1, 0] rfl)⟩ (by first | omega | (dsimp only; omega))
    · refine lv_aload_n hx hb dX0_weightOf_22 rfl (lv_at hl 0 rfl) ?_
      refine xw_get hx hb hts hin0 hown hK hP (by decide) fo_1 rfl 0 (by decide) hf9 rfl rfl dX0_weightOf_23 ?_
      refine lv_iload_n hx hb dX0_weightOf_26 rfl (lv_at hl 3 rfl) ?_
      refine xw_iald hx hb hK hP (by decide) 0 fa_2 rfl (by omega) (by decide) dX0_weightOf_27 ?_
      rw [h2 (i) (by omega)]
      refine lv_goto (tgt := 32) hx hb dX0_weightOf_28 (by decide) ?_
      refine xi_add hx hb dX0_weightOf_32 ?_
      refine xtopi (y := nI (wset w s0 (i + 1))) (congrArg nI (by show _ = wset w s0 i + (if _ then _ else 0); rw [if_pos c19_4])) ?_
      refine lv_istore_n (lv' := [(2, .int (nI (wset w s0 (i + 1)))), (0, .ref (ad (1))), (1, .int (nI (s0))), (3, .int (nI (i)))]) hx hb dX0_weightOf_33 rfl hl (by decide) rfl (fun ls hl => ?_)
      refine lv_iinc (v := nI (i + 1)) (lv' := [(3, .int (nI (i + 1))), (2, .int (nI (wset w s0 (i + 1)))), (0, .ref (ad (1))), (1, .int (nI (s0)))]) hx hb dX0_weightOf_34 hl (k := 3) rfl (nI_add (i) 1) (by decide) rfl (fun ls hl => ?_)
      refine lv_goto (tgt := 4) hx hb dX0_weightOf_37 (by decide) ?_
      exact ih4 (i + 1) ls ⟨(by omega), (lv_sub hl [2, 3, 1, 0] rfl)⟩ (by first | omega | (dsimp only; omega))

set_option maxHeartbeats 4000000 in
set_option maxRecDepth 100000 in
/-- Lot.letterFor -/
theorem mX0_letterFor (l : Launch) {D : va_G} {cI cJ cZ cW : ClassId} {ad : Nat → Nat} {g : Nat → va_E} {nr : Nat} {q Wt : Nat} {w : Nat → Nat} {f2 : Nat → Int32}  (fo_1 : g (1) = .inr (0, [.ref (ad (2)), .int (nI (q)), .int (nI (Wt))])) (fa_2 : g (2) = .inl (cI, 4, .inl (f2)))  (hq4 : q ≤ 4) (hq2 : 2 ≤ q) (h2 : ∀ j, j < 4 → f2 j = nI (w j)) (hw : ∀ j, j < 4 → w j ≤ 4) (hWt : wsum w q = Wt) (hW1 : 1 ≤ Wt ∧ Wt ≤ 4) (hnr : nr < 65536) : Met l yX0_letterFor wsX0_letterFor ({ frames := 0, cells := 0, slots := 0, locals := 0 }) (va_Pc [.ref (ad (1)), .int (nI (nr))] (xB D (xT cI cJ cZ cW) ad g)) (vp_Si (fun r => ∃ i, r = nI i ∧ i < q ∧ wsum w i ≤ nr % Wt ∧ nr % Wt < wsum w (i + 1))) 0 0 (fun _ => False) := by
  refine Met.ofW (cc := cX0_letterFor) (maxL := 5) (ret := (some .int)) (by decide) rfl ?_
  intro p e s m args below meth c s₁ B hml hv
  obtain ⟨rfl, hP, hK, hN⟩ := hv
  have hx := B.exec
  have hb := B.bytes
  have hr := B.returns
  have hts := atoms_spec (ws := wsX0_letterFor) B.pre
  have hown : s.vm.findClass RX0 = some m.cls := findClass_of_methodNamed B.named
  have hlocks := B.notSynchronized
  have hin0 : ∀ w ∈ wsX00, w ∈ wsX0_letterFor := by decide +kernel
  have hf9 := hts (.fieldLink RX0 9 "LettersByLot$Lot" "weights" "[I") (by decide +kernel)
  have hf15 := hts (.fieldLink RX0 15 "LettersByLot$Lot" "letters" "I") (by decide +kernel)
  have hf19 := hts (.fieldLink RX0 19 "LettersByLot$Lot" "total" "I") (by decide +kernel)
  have hl := lv_entry ([.ref (ad (1)), .int (nI (nr))]) (n := 5) (Nat.le_of_ble_eq_true rfl)
  rw [lg_entry_eq]
  generalize (lg_sl ([.ref (ad (1)), .int (nI (nr))]) ++ List.replicate (5 - (lg_sl ([.ref (ad (1)), .int (nI (nr))])).length) Slot.unset).toArray = ls at hl ⊢
  have hl : lv_has ls 5 [(0, .ref (ad (1))), (1, .int (nI (nr)))] := hl
  refine lv_aload_n hx hb dX0_letterFor_0 rfl (lv_at hl 0 rfl) ?_
  refine xw_get hx hb hts hin0 hown hK hP (by decide) fo_1 rfl 2 (by decide) hf19 rfl rfl dX0_letterFor_1 ?_
  refine xi_if_gt (tgt := 9) hx hb (by omega) dX0_letterFor_4 (by decide) (fun c4_1 => ?_) (fun c4_1 => ?_)
  · refine lv_iload_n hx hb dX0_letterFor_9 rfl (lv_at hl 1 rfl) ?_
    refine lv_aload_n hx hb dX0_letterFor_10 rfl (lv_at hl 0 rfl) ?_
    refine xw_get hx hb hts hin0 hown hK hP (by decide) fo_1 rfl 2 (by decide) hf19 rfl rfl dX0_letterFor_11 ?_
    refine xi_rem hx hb (by omega) (by omega) (by omega) dX0_letterFor_14 ?_
    refine lv_istore_n (lv' := [(2, .int (nI (nr % Wt))), (0, .ref (ad (1))), (1, .int (nI (nr)))]) hx hb dX0_letterFor_15 rfl hl (by decide) rfl (fun ls hl => ?_)
    refine lv_iconst (v := nI (0)) hx hb dX0_letterFor_16 (by decide) ?_
    refine lv_istore_n (lv' := [(3, .int (nI (0))), (2, .int (nI (nr % Wt))), (0, .ref (ad (1))), (1, .int (nI (nr)))]) hx hb dX0_letterFor_17 rfl hl (by decide) rfl (fun ls hl => ?_)
    refine lv_iconst (v := nI (0)) hx hb dX0_letterFor_18 (by decide) ?_
    refine lv_istore (lv' := [(4, .int (nI (0))), (3, .int (nI (0))), (2, .int (nI (nr % Wt))), (0, .ref (ad (1))), (1, .int (nI (nr)))]) hx hb dX0_letterFor_19 hl (by decide) rfl (fun ls hl => ?_)
    refine xloop (G := fun fr => W p l e _ s m _ below meth c _ _ _ _ _ fr) (σ := Nat) (fun i ls => F0 m 21 ls []) (fun i ls => (i ≤ q) ∧ (wsum w i ≤ nr % Wt) ∧ lv_has ls 5 [(0, .ref (ad (1))), (2, .int (nI (nr % Wt))), (3, .int (nI (wsum w i))), (4, .int (nI (i)))]) (fun i => q - i) ?_ (0) ls ⟨(by omega), (Nat.zero_le _), (lv_sub hl [3, 2, 1, 0] rfl)⟩
    rintro i ls ⟨hi, hm, hl⟩ ih21
    refine lv_iload hx hb dX0_letterFor_21 (lv_at hl 3 rfl) ?_
    refine lv_aload_n hx hb dX0_letterFor_23 rfl (lv_at hl 0 rfl) ?_
    refine xw_get hx hb hts hin0 hown hK hP (by decide) fo_1 rfl 1 (by decide) hf15 rfl rfl dX0_letterFor_24 ?_
    refine xi_icmp_ge (tgt := 54) hx hb (by omega) (by omega) dX0_letterFor_27 (by decide) (fun c27_2 => ?_) (fun c27_2 => ?_)
    · refine lv_iconst (v := nI (0)) hx hb dX0_letterFor_54 (by decide) ?_
      exact W.iret (v := nI (0)) hx hb hr (fun tZ ht _ => ⟨_, rfl, (absurd hm (by have h3 : i = q := (by omega); subst h3; rw [hWt]; exact Nat.not_le.mpr (Nat.mod_lt _ (by omega)))), ht⟩) (fun q hq => by cases hq) dX0_letterFor_55
    · refine lv_iload_n hx hb dX0_letterFor_30 rfl (lv_at hl 2 rfl) ?_
      refine lv_aload_n hx hb dX0_letterFor_31 rfl (lv_at hl 0 rfl) ?_
      refine xw_get hx hb hts hin0 hown hK hP (by decide) fo_1 rfl 0 (by decide) hf9 rfl rfl dX0_letterFor_32 ?_
      refine lv_iload hx hb dX0_letterFor_35 (lv_at hl 3 rfl) ?_
      refine xw_iald hx hb hK hP (by decide) 0 fa_2 rfl (by omega) (by decide) dX0_letterFor_37 ?_
      rw [h2 (i) (by omega)]
      refine xi_add hx hb dX0_letterFor_38 ?_
      refine xtopi (y := nI (wsum w (i + 1))) rfl ?_
      refine lv_istore_n (lv' := [(3, .int (nI (wsum w (i + 1)))), (0, .ref (ad (1))), (2, .int (nI (nr % Wt))), (4, .int (nI (i)))]) hx hb dX0_letterFor_39 rfl hl (by decide) rfl (fun ls hl => ?_)
      refine lv_iload_n hx hb dX0_letterFor_40 rfl (lv_at hl 0 rfl) ?_
      refine lv_iload_n hx hb dX0_letterFor_41 rfl (lv_at hl 2 rfl) ?_
      refine xi_icmp_le (tgt := 48) hx hb (wsum_small hw (by omega)) (Nat.lt_trans (Nat.mod_lt _ (by omega)) (by omega)) dX0_letterFor_42 (by decide) (fun c42_3 => ?_) (fun c42_3 => ?_)
      · refine lv_iinc (v := nI (i + 1)) (lv' := [(4, .int (nI (i + 1))), (3, .int (nI (wsum w (i + 1)))), (0, .ref (ad (1))), (2, .int (nI (nr % Wt)))]) hx hb dX0_letterFor_48 hl (k := 3) rfl (nI_add (i) 1) (by decide) rfl (fun ls hl => ?_)
        refine lv_goto (tgt := 21) hx hb dX0_letterFor_51 (by decide) ?_
        exact ih21 (i + 1) ls ⟨(by omega), c42_3, (lv_sub hl [2, 3, 1, 0] rfl)⟩ (by first | omega | (dsimp only; omega))
      · refine lv_iload hx hb dX0_letterFor_45 (lv_at hl 3 rfl) ?_
        exact W.iret (v := nI (i)) hx hb hr (fun tZ ht _ => ⟨_, rfl, ⟨i, rfl, by omega, hm, c42_3⟩, ht⟩) (fun q hq => by cases hq) dX0_letterFor_47
  · refine lv_iconst (v := nI (0)) hx hb dX0_letterFor_7 (by decide) ?_
    exact W.iret (v := nI (0)) hx hb hr (fun tZ ht _ => ⟨_, rfl, (absurd c4_1 (by omega)), ht⟩) (fun q hq => by cases hq) dX0_letterFor_8
