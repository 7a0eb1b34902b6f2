set_option maxHeartbeats 4000000 in
set_option maxRecDepth 100000 in
/-- isIn yes -/
theorem mX6_isIn_in (l : Launch) {D : va_G} {cI cJ cZ cW : ClassId} {ad : Nat → Nat} {g : Nat → va_E} {j b0 : Nat}  (hb0 : b0 < 2 ^ 31) (hj : j < b0) : Met l yX6_isIn wsX6_isIn ({ frames := 0, cells := 0, slots := 0, locals := 0 }) (va_Pc [.int (nI (j)), .int (nI (b0))] (xB D (xT cI cJ cZ cW) ad g)) (vp_Si (fun r => r = nI 1)) 0 0 (fun _ => False) := by
  refine Met.ofW (cc := cX6_isIn) (maxL := 2) (ret := (some .boolean)) (by decide) rfl ?_
  intro p e s m args below meth c s₁ B hml hv
  obtain ⟨rfl, hP, hK, hN⟩ := hv
  have hx := B.exec
  have hb := B.bytes
  have hr := B.returns
  have hts := atoms_spec (ws := wsX6_isIn) B.pre
  have hown : s.vm.findClass RX6 = some m.cls := findClass_of_methodNamed B.named
  have hlocks := B.notSynchronized
  have hl := lv_entry ([.int (nI (j)), .int (nI (b0))]) (n := 2) (Nat.le_of_ble_eq_true rfl)
  rw [lg_entry_eq]
  generalize (lg_sl ([.int (nI (j)), .int (nI (b0))]) ++ List.replicate (2 - (lg_sl ([.int (nI (j)), .int (nI (b0))])).length) Slot.unset).toArray = ls at hl ⊢
  have hl : lv_has ls 2 [(0, .int (nI (j))), (1, .int (nI (b0)))] := hl
  refine lv_iload_n hx hb dX6_isIn_0 rfl (lv_at hl 0 rfl) ?_
  refine xi_if_lt (tgt := 13) hx hb (by omega) dX6_isIn_1 (by decide) ?_
  refine lv_iload_n hx hb dX6_isIn_4 rfl (lv_at hl 0 rfl) ?_
  refine lv_iload_n hx hb dX6_isIn_5 rfl (lv_at hl 1 rfl) ?_
  refine xi_icmp_ge (tgt := 13) hx hb (by omega) (by omega) dX6_isIn_6 (by decide) (fun c6_2 => ?_) (fun c6_2 => ?_)
  · exact absurd c6_2 (by omega)
  · refine lv_iconst (v := nI (1)) hx hb dX6_isIn_9 (by decide) ?_
    refine lv_goto (tgt := 14) hx hb dX6_isIn_10 (by decide) ?_
    exact W.zret (v := nI (1)) hx hb hr (by decide) (fun tZ ht _ => ⟨_, rfl, rfl, ht⟩) (fun q hq => by cases hq) dX6_isIn_14

set_option maxHeartbeats 4000000 in
set_option maxRecDepth 100000 in
/-- isIn no -/
theorem mX6_isIn_out (l : Launch) {D : va_G} {cI cJ cZ cW : ClassId} {ad : Nat → Nat} {g : Nat → va_E} {b0 : Nat} {x0 : Int32}  (hx0 : x0 < 0 ∨ nI b0 ≤ x0) : Met l yX6_isIn wsX6_isIn ({ frames := 0, cells := 0, slots := 0, locals := 0 }) (va_Pc [.int (x0), .int (nI (b0))] (xB D (xT cI cJ cZ cW) ad g)) (vp_Si (fun r => r = nI 0)) 0 0 (fun _ => False) := by
  refine Met.ofW (cc := cX6_isIn) (maxL := 2) (ret := (some .boolean)) (by decide) rfl ?_
  intro p e s m args below meth c s₁ B hml hv
  obtain ⟨rfl, hP, hK, hN⟩ := hv
  have hx := B.exec
  have hb := B.bytes
  have hr := B.returns
  have hts := atoms_spec (ws := wsX6_isIn) B.pre
  have hown : s.vm.findClass RX6 = some m.cls := findClass_of_methodNamed B.named
  have hlocks := B.notSynchronized
  have hl := lv_entry ([.int (x0), .int (nI (b0))]) (n := 2) (Nat.le_of_ble_eq_true rfl)
  rw [lg_entry_eq]
  generalize (lg_sl ([.int (x0), .int (nI (b0))]) ++ List.replicate (2 - (lg_sl ([.int (x0), .int (nI (b0))])).length) Slot.unset).toArray = ls at hl ⊢
  have hl : lv_has ls 2 [(0, .int (x0)), (1, .int (nI (b0)))] := hl
  refine lv_iload_n hx hb dX6_isIn_0 rfl (lv_at hl 0 rfl) ?_
  refine lv_if_lt (tgt := 13) hx hb dX6_isIn_1 (by decide) (fun c1_1 => ?_) (fun c1_1 => ?_)
  · refine lv_iconst (v := nI (0)) hx hb dX6_isIn_13 (by decide) ?_
    exact W.zret (v := nI (0)) hx hb hr (by decide) (fun tZ ht _ => ⟨_, rfl, rfl, ht⟩) (fun q hq => by cases hq) dX6_isIn_14
  · refine lv_iload_n hx hb dX6_isIn_4 rfl (lv_at hl 0 rfl) ?_
    refine lv_iload_n hx hb dX6_isIn_5 rfl (lv_at hl 1 rfl) ?_
    refine lv_icmp_ge (tgt := 13) hx hb dX6_isIn_6 (by decide) (fun c6_2 => ?_) (fun c6_2 => ?_)
    · refine lv_iconst (v := nI (0)) hx hb dX6_isIn_13 (by decide) ?_
      exact W.zret (v := nI (0)) hx hb hr (by decide) (fun tZ ht _ => ⟨_, rfl, rfl, ht⟩) (fun q hq => by cases hq) dX6_isIn_14
    · exact absurd hx0 (by rintro (h | h); exact c1_1 h; exact c6_2 h)

set_option maxHeartbeats 4000000 in
set_option maxRecDepth 100000 in
/-- isWord yes -/
theorem mX6_isWord_yes (l : Launch) {D : va_G} {cI cJ cZ cW : ClassId} {ad : Nat → Nat} {g : Nat → va_E} {q Wt T : Nat} {w ln t : Nat → Nat} {u : Nat → Nat → Nat} {tp bt : Int64} {k1 : Nat} {sq : Int32} {nu de : Int64} {fsz : Nat → Int32}  (fo62 : g (62) = .inr (6, [.int (nI (q)), .int (nI (Wt)), .ref (ad (63)), .ref (ad (64)), .ref (ad (65)), .ref (ad (66)), .int (nI (T)), .long (tp), .long (bt), .long (nu), .long (de), .int (sq), .ref (ad (67)), .ref (ad (68)), .ref (ad (69)), .ref (ad (70)), .ref (ad (71)), .ref (ad (72)), .ref (ad (73)), .ref (ad (74)), .ref (ad (75)), .ref (ad (76)), .ref (ad (77)), .ref (ad (78)), .ref (ad (79)), .ref (ad (80))])) (fa64 : g (64) = .inl (cI, 8, .inl (fsz)))  (hsz : ∀ k, k < 8 → fsz k = nI (ln k)) (hk1 : k1 < 8) (hp1 : 0 < ln k1) (hn1 : ln k1 ≤ 5) : Met l yX6_isWord wsX6_isWord ({ frames := 1, cells := 0, slots := 0, locals := 21 }) (va_Pc [.ref (ad (62)), .int (nI (k1))] (xB D (xT cI cJ cZ cW) ad g)) (vp_Si (fun r => r = nI 1)) 0 0 (fun _ => False) := by
  refine Met.ofW (cc := cX6_isWord) (maxL := 2) (ret := (some .boolean)) (by decide) rfl ?_
  intro p e s m args below meth c s₁ B hml hv
  obtain ⟨rfl, hP, hK, hN⟩ := hv
  have hx := B.exec
  have hb := B.bytes
  have hr := B.returns
  have hts := atoms_spec (ws := wsX6_isWord) B.pre
  have hown : s.vm.findClass RX6 = some m.cls := findClass_of_methodNamed B.named
  have hlocks := B.notSynchronized
  have hin6 : ∀ w ∈ wsX60, w ∈ wsX6_isWord := by decide +kernel
  have hf20 := hts (.fieldLink RX6 20 "LettersByLotModel" "size" "[I") (by decide +kernel)
  have hl := lv_entry ([.ref (ad (62)), .int (nI (k1))]) (n := 2) (Nat.le_of_ble_eq_true rfl)
  rw [lg_entry_eq]
  generalize (lg_sl ([.ref (ad (62)), .int (nI (k1))]) ++ List.replicate (2 - (lg_sl ([.ref (ad (62)), .int (nI (k1))])).length) Slot.unset).toArray = ls at hl ⊢
  have hl : lv_has ls 2 [(0, .ref (ad (62))), (1, .int (nI (k1)))] := hl
  refine lv_iload_n hx hb dX6_isWord_0 rfl (lv_at hl 1 rfl) ?_
  refine lv_bipush (v := nI (8)) hx hb dX6_isWord_1 (by decide) ?_
  refine vp_callSi (va_Run.run (va_runS (As := [.int (nI (k1)), .int (nI (8))]) (rest := []) ⟨hx, hb, hml, hown, hts⟩ (mX6_isIn_in l (by omega) (by omega)) (va_cwS 2 hts gX6_isWord_X6_isIn rfl rfl rfl (by decide +kernel) ⟨Nat.le_of_ble_eq_true rfl, Nat.le_of_ble_eq_true rfl⟩) ⟨xB_blind, fun U hU hW => ⟨rfl, by rw [hU]; exact hP, va_K.moved hW.alike hK, va_Nw.warmM hW hN⟩⟩ rfl rfl hl.1 rfl (lv_room (Nat.le_of_ble_eq_true rfl)) dX6_isWord_3 ⟨Nat.le_of_ble_eq_true rfl, Nat.le_of_ble_eq_true rfl⟩)) (fun r1 er1 => ?_)
  subst er1
  refine xi_if_eq (tgt := 22) hx hb (by decide) dX6_isWord_6 (by decide) (fun c0 => absurd c0 (by decide)) (fun _ => ?_)
  refine lv_aload_n hx hb dX6_isWord_9 rfl (lv_at hl 0 rfl) ?_
  refine xw_get hx hb hts hin6 hown hK hP (by decide) fo62 rfl 3 (by decide) hf20 rfl rfl dX6_isWord_10 ?_
  refine lv_iload_n hx hb dX6_isWord_13 rfl (lv_at hl 1 rfl) ?_
  refine xw_iald hx hb hK hP (by decide) 0 fa64 rfl (by omega) (by decide) dX6_isWord_14 ?_
  rw [hsz (k1) (by omega)]
  refine xi_if_le (tgt := 22) hx hb (by omega) dX6_isWord_15 (by decide) (fun c15_3 => ?_) (fun c15_3 => ?_)
  · exact absurd c15_3 (by omega)
  · refine lv_iconst (v := nI (1)) hx hb dX6_isWord_18 (by decide) ?_
    refine lv_goto (tgt := 23) hx hb dX6_isWord_19 (by decide) ?_
    exact W.zret (v := nI (1)) hx hb hr (by decide) (fun tZ ht _ => ⟨_, rfl, rfl, ht⟩) (fun q hq => by cases hq) dX6_isWord_23

set_option maxHeartbeats 4000000 in
set_option maxRecDepth 100000 in
/-- isWord, none -/
theorem mX6_isWord_abs (l : Launch) {D : va_G} {cI cJ cZ cW : ClassId} {ad : Nat → Nat} {g : Nat → va_E} {q Wt T : Nat} {w ln t : Nat → Nat} {u : Nat → Nat → Nat} {tp bt : Int64} {k1 : Nat} {sq : Int32} {nu de : Int64} {fsz : Nat → Int32}  (fo62 : g (62) = .inr (6, [.int (nI (q)), .int (nI (Wt)), .ref (ad (63)), .ref (ad (64)), .ref (ad (65)), .ref (ad (66)), .int (nI (T)), .long (tp), .long (bt), .long (nu), .long (de), .int (sq), .ref (ad (67)), .ref (ad (68)), .ref (ad (69)), .ref (ad (70)), .ref (ad (71)), .ref (ad (72)), .ref (ad (73)), .ref (ad (74)), .ref (ad (75)), .ref (ad (76)), .ref (ad (77)), .ref (ad (78)), .ref (ad (79)), .ref (ad (80))])) (fa64 : g (64) = .inl (cI, 8, .inl (fsz)))  (hsz : ∀ k, k < 8 → fsz k = nI (ln k)) (hk1 : k1 < 8) (hp1 : ln k1 = 0) : Met l yX6_isWord wsX6_isWord ({ frames := 1, cells := 0, slots := 0, locals := 21 }) (va_Pc [.ref (ad (62)), .int (nI (k1))] (xB D (xT cI cJ cZ cW) ad g)) (vp_Si (fun r => r = nI 0)) 0 0 (fun _ => False) := by
  refine Met.ofW (cc := cX6_isWord) (maxL := 2) (ret := (some .boolean)) (by decide) rfl ?_
  intro p e s m args below meth c s₁ B hml hv
  obtain ⟨rfl, hP, hK, hN⟩ := hv
  have hx := B.exec
  have hb := B.bytes
  have hr := B.returns
  have hts := atoms_spec (ws := wsX6_isWord) B.pre
  have hown : s.vm.findClass RX6 = some m.cls := findClass_of_methodNamed B.named
  have hlocks := B.notSynchronized
  have hin6 : ∀ w ∈ wsX60, w ∈ wsX6_isWord := by decide +kernel
  have hf20 := hts (.fieldLink RX6 20 "LettersByLotModel" "size" "[I") (by decide +kernel)
  have hl := lv_entry ([.ref (ad (62)), .int (nI (k1))]) (n := 2) (Nat.le_of_ble_eq_true rfl)
  rw [lg_entry_eq]
  generalize (lg_sl ([.ref (ad (62)), .int (nI (k1))]) ++ List.replicate (2 - (lg_sl ([.ref (ad (62)), .int (nI (k1))])).length) Slot.unset).toArray = ls at hl ⊢
  have hl : lv_has ls 2 [(0, .ref (ad (62))), (1, .int (nI (k1)))] := hl
  refine lv_iload_n hx hb dX6_isWord_0 rfl (lv_at hl 1 rfl) ?_
  refine lv_bipush (v := nI (8)) hx hb dX6_isWord_1 (by decide) ?_
  refine vp_callSi (va_Run.run (va_runS (As := [.int (nI (k1)), .int (nI (8))]) (rest := []) ⟨hx, hb, hml, hown, hts⟩ (mX6_isIn_in l (by omega) (by omega)) (va_cwS 2 hts gX6_isWord_X6_isIn rfl rfl rfl (by decide +kernel) ⟨Nat.le_of_ble_eq_true rfl, Nat.le_of_ble_eq_true rfl⟩) ⟨xB_blind, fun U hU hW => ⟨rfl, by rw [hU]; exact hP, va_K.moved hW.alike hK, va_Nw.warmM hW hN⟩⟩ rfl rfl hl.1 rfl (lv_room (Nat.le_of_ble_eq_true rfl)) dX6_isWord_3 ⟨Nat.le_of_ble_eq_true rfl, Nat.le_of_ble_eq_true rfl⟩)) (fun r1 er1 => ?_)
  subst er1
  refine xi_if_eq (tgt := 22) hx hb (by decide) dX6_isWord_6 (by decide) (fun c0 => absurd c0 (by decide)) (fun _ => ?_)
  refine lv_aload_n hx hb dX6_isWord_9 rfl (lv_at hl 0 rfl) ?_
  refine xw_get hx hb hts hin6 hown hK hP (by decide) fo62 rfl 3 (by decide) hf20 rfl rfl dX6_isWord_10 ?_
  refine lv_iload_n hx hb dX6_isWord_13 rfl (lv_at hl 1 rfl) ?_
  refine xw_iald hx hb hK hP (by decide) 0 fa64 rfl (by omega) (by decide) dX6_isWord_14 ?_
  rw [hsz (k1) (by omega)]
  refine xi_if_le (tgt := 22) hx hb (by omega) dX6_isWord_15 (by decide) (fun c15_3 => ?_) (fun c15_3 => ?_)
  · refine lv_iconst (v := nI (0)) hx hb dX6_isWord_22 (by decide) ?_
    exact W.zret (v := nI (0)) hx hb hr (by decide) (fun tZ ht _ => ⟨_, rfl, rfl, ht⟩) (fun q hq => by cases hq) dX6_isWord_23
  · exact absurd c15_3 (by omega)

set_option maxHeartbeats 4000000 in
set_option maxRecDepth 100000 in
/-- isWord, no SLOT -/
theorem mX6_isWord_bad (l : Launch) {D : va_G} {cI cJ cZ cW : ClassId} {ad : Nat → Nat} {g : Nat → va_E} {x0 : Int32}  (hx0 : x0 < 0 ∨ nI 8 ≤ x0) : Met l yX6_isWord wsX6_isWord ({ frames := 1, cells := 0, slots := 0, locals := 21 }) (va_Pc [.ref (ad (62)), .int (x0)] (xB D (xT cI cJ cZ cW) ad g)) (vp_Si (fun r => r = nI 0)) 0 0 (fun _ => False) := by
  refine Met.ofW (cc := cX6_isWord) (maxL := 2) (ret := (some .boolean)) (by decide) rfl ?_
  intro p e s m args below meth c s₁ B hml hv
  obtain ⟨rfl, hP, hK, hN⟩ := hv
  have hx := B.exec
  have hb := B.bytes
  have hr := B.returns
  have hts := atoms_spec (ws := wsX6_isWord) B.pre
  have hown : s.vm.findClass RX6 = some m.cls := findClass_of_methodNamed B.named
  have hlocks := B.notSynchronized
  have hl := lv_entry ([.ref (ad (62)), .int (x0)]) (n := 2) (Nat.le_of_ble_eq_true rfl)
  rw [lg_entry_eq]
  generalize (lg_sl ([.ref (ad (62)), .int (x0)]) ++ List.replicate (2 - (lg_sl ([.ref (ad (62)), .int (x0)])).length) Slot.unset).toArray = ls at hl ⊢
  have hl : lv_has ls 2 [(0, .ref (ad (62))), (1, .int (x0))] := hl
  refine lv_iload_n hx hb dX6_isWord_0 rfl (lv_at hl 1 rfl) ?_
  refine lv_bipush (v := nI (8)) hx hb dX6_isWord_1 (by decide) ?_
  refine vp_callSi (va_Run.run (va_runS (As := [.int (x0), .int (nI (8))]) (rest := []) ⟨hx, hb, hml, hown, hts⟩ (mX6_isIn_out l hx0) (va_cwS 2 hts gX6_isWord_X6_isIn rfl rfl rfl (by decide +kernel) ⟨Nat.le_of_ble_eq_true rfl, Nat.le_of_ble_eq_true rfl⟩) ⟨xB_blind, fun U hU hW => ⟨rfl, by rw [hU]; exact hP, va_K.moved hW.alike hK, va_Nw.warmM hW hN⟩⟩ rfl rfl hl.1 rfl (lv_room (Nat.le_of_ble_eq_true rfl)) dX6_isWord_3 ⟨Nat.le_of_ble_eq_true rfl, Nat.le_of_ble_eq_true rfl⟩)) (fun r1 er1 => ?_)
  subst er1
  refine xi_if_eq (tgt := 22) hx hb (by decide) dX6_isWord_6 (by decide) (fun _ => ?_) (fun c0 => absurd c0 (by decide))
  refine lv_iconst (v := nI (0)) hx hb dX6_isWord_22 (by decide) ?_
  exact W.zret (v := nI (0)) hx hb hr (by decide) (fun tZ ht _ => ⟨_, rfl, rfl, ht⟩) (fun q hq => by cases hq) dX6_isWord_23

theorem mX6_isWord_no (l : Launch) {D : va_G} {cI cJ cZ cW : ClassId} {ad : Nat → Nat} {g : Nat → va_E} {q Wt T : Nat} {w ln t : Nat → Nat} {u : Nat → Nat → Nat} {tp bt : Int64} {sq : Int32} {nu de : Int64} {fsz : Nat → Int32} {x0 : Int32} (fo62 : g 62 = .inr (6, [.int (nI (q)), .int (nI (Wt)), .ref (ad (63)), .ref (ad (64)), .ref (ad (65)), .ref (ad (66)), .int (nI (T)), .long (tp), .long (bt), .long (nu), .long (de), .int (sq), .ref (ad (67)), .ref (ad (68)), .ref (ad (69)), .ref (ad (70)), .ref (ad (71)), .ref (ad (72)), .ref (ad (73)), .ref (ad (74)), .ref (ad (75)), .ref (ad (76)), .ref (ad (77)), .ref (ad (78)), .ref (ad (79)), .ref (ad (80))])) (fa64 : g 64 = .inl (cI, 8, .inl (fsz)))  (hsz : ∀ k, k < 8 → fsz k = nI (ln k)) (h0 : noW ln x0) : Met l yX6_isWord wsX6_isWord ({ frames := 1, cells := 0, slots := 0, locals := 21 }) (va_Pc [.ref (ad (62)), .int (x0)] (xB D (xT cI cJ cZ cW) ad g)) (vp_Si (fun r => r = nI 0)) 0 0 (fun _ => False) := by
  rcases h0 with h0 | h0 | ⟨k, hk, rfl, h0⟩
  · exact mX6_isWord_bad l (Or.inl h0)
  · exact mX6_isWord_bad l (Or.inr h0)
  · exact mX6_isWord_abs l (w := w) (ln := ln) (t := t) (u := u) fo62 fa64 hsz hk h0

set_option maxHeartbeats 4000000 in
set_option maxRecDepth 100000 in
/-- letterOf -/
theorem mX6_letterOf (l : Launch) {D : va_G} {cI cJ cZ cW : ClassId} {ad : Nat → Nat} {g : Nat → va_E} {q Wt T : Nat} {w ln t : Nat → Nat} {u : Nat → Nat → Nat} {tp bt : Int64} {s1 j1 vv : Nat} {sq : Int32} {nu de : Int64} {fwd : Nat → Int32}  (fo62 : g (62) = .inr (6, [.int (nI (q)), .int (nI (Wt)), .ref (ad (63)), .ref (ad (64)), .ref (ad (65)), .ref (ad (66)), .int (nI (T)), .long (tp), .long (bt), .long (nu), .long (de), .int (sq), .ref (ad (67)), .ref (ad (68)), .ref (ad (69)), .ref (ad (70)), .ref (ad (71)), .ref (ad (72)), .ref (ad (73)), .ref (ad (74)), .ref (ad (75)), .ref (ad (76)), .ref (ad (77)), .ref (ad (78)), .ref (ad (79)), .ref (ad (80))])) (fa65 : g (65) = .inl (cI, 40, .inl (fwd)))  (hs1 : s1 < 8) (hj1 : j1 < 5) (hvv : fwd (5 * s1 + j1) = nI vv) : Met l yX6_letterOf wsX6_letterOf ({ frames := 0, cells := 0, slots := 0, locals := 0 }) (va_Pc [.ref (ad (62)), .int (nI (s1)), .int (nI (j1))] (xB D (xT cI cJ cZ cW) ad g)) (vp_Si (fun r => r = nI vv)) 0 0 (fun _ => False) := by
  refine Met.ofW (cc := cX6_letterOf) (maxL := 3) (ret := (some .int)) (by decide) rfl ?_
  intro p e s m args below meth c s₁ B hml hv
  obtain ⟨rfl, hP, hK, hN⟩ := hv
  have hx := B.exec
  have hb := B.bytes
  have hr := B.returns
  have hts := atoms_spec (ws := wsX6_letterOf) B.pre
  have hown : s.vm.findClass RX6 = some m.cls := findClass_of_methodNamed B.named
  have hlocks := B.notSynchronized
  have hin6 : ∀ w ∈ wsX60, w ∈ wsX6_letterOf := by decide +kernel
  have hf23 := hts (.fieldLink RX6 23 "LettersByLotModel" "word" "[I") (by decide +kernel)
  have hl := lv_entry ([.ref (ad (62)), .int (nI (s1)), .int (nI (j1))]) (n := 3) (Nat.le_of_ble_eq_true rfl)
  rw [lg_entry_eq]
  generalize (lg_sl ([.ref (ad (62)), .int (nI (s1)), .int (nI (j1))]) ++ List.replicate (3 - (lg_sl ([.ref (ad (62)), .int (nI (s1)), .int (nI (j1))])).length) Slot.unset).toArray = ls at hl ⊢
  have hl : lv_has ls 3 [(0, .ref (ad (62))), (1, .int (nI (s1))), (2, .int (nI (j1)))] := hl
  refine lv_aload_n hx hb dX6_letterOf_0 rfl (lv_at hl 0 rfl) ?_
  refine xw_get hx hb hts hin6 hown hK hP (by decide) fo62 rfl 4 (by decide) hf23 rfl rfl dX6_letterOf_1 ?_
  refine lv_iconst (v := nI (5)) hx hb dX6_letterOf_4 (by decide) ?_
  refine lv_iload_n hx hb dX6_letterOf_5 rfl (lv_at hl 1 rfl) ?_
  refine xi_mul hx hb dX6_letterOf_6 ?_
  refine lv_iload_n hx hb dX6_letterOf_7 rfl (lv_at hl 2 rfl) ?_
  refine xi_add hx hb dX6_letterOf_8 ?_
  refine xw_iald hx hb hK hP (by decide) 0 fa65 rfl (by omega) (by decide) dX6_letterOf_9 ?_
  rw [hvv]
  exact W.iret (v := nI (vv)) hx hb hr (fun tZ ht _ => ⟨_, rfl, rfl, ht⟩) (fun q hq => by cases hq) dX6_letterOf_10

set_option maxHeartbeats 4000000 in
set_option maxRecDepth 100000 in
/-- codeOf -/
theorem mX6_codeOf (l : Launch) {D : va_G} {cI cJ cZ cW : ClassId} {ad : Nat → Nat} {g : Nat → va_E} {q Wt T : Nat} {w ln t : Nat → Nat} {u : Nat → Nat → Nat} {tp bt : Int64} {k1 : Nat} {sq : Int32} {nu de : Int64} {fsz : Nat → Int32} {fwd : Nat → Int32}  (fo62 : g (62) = .inr (6, [.int (nI (q)), .int (nI (Wt)), .ref (ad (63)), .ref (ad (64)), .ref (ad (65)), .ref (ad (66)), .int (nI (T)), .long (tp), .long (bt), .long (nu), .long (de), .int (sq), .ref (ad (67)), .ref (ad (68)), .ref (ad (69)), .ref (ad (70)), .ref (ad (71)), .ref (ad (72)), .ref (ad (73)), .ref (ad (74)), .ref (ad (75)), .ref (ad (76)), .ref (ad (77)), .ref (ad (78)), .ref (ad (79)), .ref (ad (80))])) (fa64 : g (64) = .inl (cI, 8, .inl (fsz))) (fa65 : g (65) = .inl (cI, 40, .inl (fwd)))  (hsz : ∀ k, k < 8 → fsz k = nI (ln k)) (hwl : ∀ k j, k < 8 → j < ln k → fwd (5 * k + j) = nI (u k j)) (hln : ∀ k, ln k ≤ 5) (hk1 : k1 < 8) : Met l yX6_codeOf wsX6_codeOf ({ frames := 1, cells := 0, slots := 0, locals := 22 }) (va_Pc [.ref (ad (62)), .int (nI (k1))] (xB D (xT cI cJ cZ cW) ad g)) (vp_Si (fun r => r = nI (px q (u k1) (ln k1)))) 0 0 (fun _ => False) := by
  refine Met.ofW (cc := cX6_codeOf) (maxL := 4) (ret := (some .int)) (by decide) rfl ?_
  intro p e s m args below meth c s₁ B hml hv
  obtain ⟨rfl, hP, hK, hN⟩ := hv
  have hx := B.exec
  have hb := B.bytes
  have hr := B.returns
  have hts := atoms_spec (ws := wsX6_codeOf) B.pre
  have hown : s.vm.findClass RX6 = some m.cls := findClass_of_methodNamed B.named
  have hlocks := B.notSynchronized
  have hin6 : ∀ w ∈ wsX60, w ∈ wsX6_codeOf := by decide +kernel
  have hf7 := hts (.fieldLink RX6 7 "LettersByLotModel" "q" "I") (by decide +kernel)
  have hf20 := hts (.fieldLink RX6 20 "LettersByLotModel" "size" "[I") (by decide +kernel)
  have hl := lv_entry ([.ref (ad (62)), .int (nI (k1))]) (n := 4) (Nat.le_of_ble_eq_true rfl)
  rw [lg_entry_eq]
  generalize (lg_sl ([.ref (ad (62)), .int (nI (k1))]) ++ List.replicate (4 - (lg_sl ([.ref (ad (62)), .int (nI (k1))])).length) Slot.unset).toArray = ls at hl ⊢
  have hl : lv_has ls 4 [(0, .ref (ad (62))), (1, .int (nI (k1)))] := hl
  have hn1 := hln k1
  refine lv_iconst (v := nI (0)) hx hb dX6_codeOf_0 (by decide) ?_
  refine lv_istore_n (lv' := [(2, .int (nI (0))), (0, .ref (ad (62))), (1, .int (nI (k1)))]) hx hb dX6_codeOf_1 rfl hl (by decide) rfl (fun ls hl => ?_)
  refine lv_iconst (v := nI (0)) hx hb dX6_codeOf_2 (by decide) ?_
  refine lv_istore_n (lv' := [(3, .int (nI (0))), (2, .int (nI (0))), (0, .ref (ad (62))), (1, .int (nI (k1)))]) hx hb dX6_codeOf_3 rfl hl (by decide) rfl (fun ls hl => ?_)
  refine xloop (G := fun fr => W p l e _ s m _ below meth c _ _ _ _ _ fr) (σ := Nat) (fun i ls => F0 m 4 ls []) (fun i ls => (i ≤ ln k1) ∧ lv_has ls 4 [(0, .ref (ad (62))), (1, .int (nI (k1))), (2, .int (nI (px q (u k1) i))), (3, .int (nI (i)))]) (fun i => ln k1 - i) ?_ (0) ls ⟨(by omega), (lv_sub hl [2, 3, 1, 0] rfl)⟩
  rintro i ls ⟨hi, hl⟩ ih4
  refine lv_iload_n hx hb dX6_codeOf_4 rfl (lv_at hl 3 rfl) ?_
  refine lv_aload_n hx hb dX6_codeOf_5 rfl (lv_at hl 0 rfl) ?_
  refine xw_get hx hb hts hin6 hown hK hP (by decide) fo62 rfl 3 (by decide) hf20 rfl rfl dX6_codeOf_6 ?_
  refine lv_iload_n hx hb dX6_codeOf_9 rfl (lv_at hl 1 rfl) ?_
  refine xw_iald hx hb hK hP (by decide) 0 fa64 rfl (by omega) (by decide) dX6_codeOf_10 ?_
  rw [hsz (k1) (by omega)]
  refine xi_icmp_ge (tgt := 34) hx hb (by omega) (by omega) dX6_codeOf_11 (by decide) (fun c11_1 => ?_) (fun c11_1 => ?_)
  · refine lv_iload_n hx hb dX6_codeOf_34 rfl (lv_at hl 2 rfl) ?_
    exact W.iret (v := nI (px q (u k1) i)) hx hb hr (fun tZ ht _ => ⟨_, rfl, (by show _ = _; rw [show i = ln k1 by omega]), ht⟩) (fun q hq => by cases hq) dX6_codeOf_35
  · refine lv_aload_n hx hb dX6_codeOf_14 rfl (lv_at hl 0 rfl) ?_
    refine xw_get hx hb hts hin6 hown hK hP (by decide) fo62 rfl 0 (by decide) hf7 rfl rfl dX6_codeOf_15 ?_
    refine lv_iload_n hx hb dX6_codeOf_18 rfl (lv_at hl 2 rfl) ?_
    refine xi_mul hx hb dX6_codeOf_19 ?_
    refine lv_aload_n hx hb dX6_codeOf_20 rfl (lv_at hl 0 rfl) ?_
    refine lv_iload_n hx hb dX6_codeOf_21 rfl (lv_at hl 1 rfl) ?_
    refine lv_iload_n hx hb dX6_codeOf_22 rfl (lv_at hl 3 rfl) ?_
    refine vp_callSi (va_Run.run (va_runV (As := [.int (nI (k1)), .int (nI (i))]) (rest := [.int (nI (q * (px q (u k1) i)))]) ⟨hx, hb, hml, hown, hts⟩ (mX6_letterOf l (w := w) (ln := ln) (t := t) (u := u) (s1 := k1) (j1 := i) (vv := u (k1) (i)) fo62 fa65 (by omega) (by have h9 := hln (k1); omega) (hwl (k1) (i) (by omega) (by omega))) (cwV 2 hts gX6_codeOf_X6_letterOf rfl rfl rfl (by decide +kernel) ⟨Nat.le_of_ble_eq_true rfl, Nat.le_of_ble_eq_true rfl⟩) ⟨xB_blind, va_recv hK hP (ci := 6) rfl (xw_is (by decide) fo62), fun U hU hW => ⟨rfl, by rw [hU]; exact hP, va_K.moved hW.alike hK, va_Nw.warmM hW hN⟩⟩ rfl rfl hl.1 rfl (lv_room (Nat.le_of_ble_eq_true rfl)) dX6_codeOf_23 ⟨Nat.le_of_ble_eq_true rfl, Nat.le_of_ble_eq_true rfl⟩)) (fun r2 er2 => ?_)
    subst er2
    refine xi_add hx hb dX6_codeOf_26 ?_
    refine xtopi (y := nI (px q (u k1) (i + 1))) (congrArg nI (by show _ = px q (u k1) i * q + u k1 i; rw [Nat.mul_comm])) ?_
    refine lv_istore_n (lv' := [(2, .int (nI (px q (u k1) (i + 1)))), (0, .ref (ad (62))), (1, .int (nI (k1))), (3, .int (nI (i)))]) hx hb dX6_codeOf_27 rfl hl (by decide) rfl (fun ls hl => ?_)
    refine lv_iinc (v := nI (i + 1)) (lv' := [(3, .int (nI (i + 1))), (2, .int (nI (px q (u k1) (i + 1)))), (0, .ref (ad (62))), (1, .int (nI (k1)))]) hx hb dX6_codeOf_28 hl (k := 3) rfl (nI_add (i) 1) (by decide) rfl (fun ls hl => ?_)
    refine lv_goto (tgt := 4) hx hb dX6_codeOf_31 (by decide) ?_
    exact ih4 (i + 1) ls ⟨(by omega), (lv_sub hl [2, 3, 1, 0] rfl)⟩ (by first | omega | (dsimp only; omega))

set_option maxHeartbeats 4000000 in
set_option maxRecDepth 100000 in
/-- isLap -/
theorem mX6_isLap (l : Launch) {D : va_G} {cI cJ cZ cW : ClassId} {ad : Nat → Nat} {g : Nat → va_E} {q Wt T : Nat} {w ln t : Nat → Nat} {u : Nat → Nat → Nat} {tp bt : Int64} {k1 k2 k : Nat} {sq : Int32} {nu de : Int64} {fsz : Nat → Int32} {fwd : Nat → Int32}  (fo62 : g (62) = .inr (6, [.int (nI (q)), .int (nI (Wt)), .ref (ad (63)), .ref (ad (64)), .ref (ad (65)), .ref (ad (66)), .int (nI (T)), .long (tp), .long (bt), .long (nu), .long (de), .int (sq), .ref (ad (67)), .ref (ad (68)), .ref (ad (69)), .ref (ad (70)), .ref (ad (71)), .ref (ad (72)), .ref (ad (73)), .ref (ad (74)), .ref (ad (75)), .ref (ad (76)), .ref (ad (77)), .ref (ad (78)), .ref (ad (79)), .ref (ad (80))])) (fa64 : g (64) = .inl (cI, 8, .inl (fsz))) (fa65 : g (65) = .inl (cI, 40, .inl (fwd)))  (hsz : ∀ k, k < 8 → fsz k = nI (ln k)) (hwl : ∀ k j, k < 8 → j < ln k → fwd (5 * k + j) = nI (u k j)) (hq2 : 2 ≤ q) (hq4 : q ≤ 4) (hln : ∀ k, ln k ≤ 5) (hul : ∀ k j, j < ln k → u k j < q) (hT : T ≤ 300) (ht : ∀ j, j < T → t j < q) (hk1 : k1 < 8) (hk2 : k2 < 8) (hk5 : k ≤ 5) : Met l yX6_isLap wsX6_isLap ({ frames := 1, cells := 0, slots := 0, locals := 22 }) (va_Pc [.ref (ad (62)), .int (nI (k1)), .int (nI (k2)), .int (nI (k))] (xB D (xT cI cJ cZ cW) ad g)) (vp_Si (fun r => r = if (k ≤ ln k1 ∧ k ≤ ln k2 ∧ lapD (u k1) (ln k1) (u k2) k) then 1 else 0)) 0 0 (fun _ => False) := by
  refine Met.ofW (cc := cX6_isLap) (maxL := 6) (ret := (some .boolean)) (by decide) rfl ?_
  intro p e s m args below meth c s₁ B hml hv
  obtain ⟨rfl, hP, hK, hN⟩ := hv
  have hx := B.exec
  have hb9 := B.bytes
  have hr := B.returns
  have hts := atoms_spec (ws := wsX6_isLap) B.pre
  have hown : s.vm.findClass RX6 = some m.cls := findClass_of_methodNamed B.named
  have hlocks := B.notSynchronized
  have hin6 : ∀ w ∈ wsX60, w ∈ wsX6_isLap := by decide +kernel
  have hf20 := hts (.fieldLink RX6 20 "LettersByLotModel" "size" "[I") (by decide +kernel)
  have hl := lv_entry ([.ref (ad (62)), .int (nI (k1)), .int (nI (k2)), .int (nI (k))]) (n := 6) (Nat.le_of_ble_eq_true rfl)
  rw [lg_entry_eq]
  generalize (lg_sl ([.ref (ad (62)), .int (nI (k1)), .int (nI (k2)), .int (nI (k))]) ++ List.replicate (6 - (lg_sl ([.ref (ad (62)), .int (nI (k1)), .int (nI (k2)), .int (nI (k))])).length) Slot.unset).toArray = ls at hl ⊢
  have hl : lv_has ls 6 [(0, .ref (ad (62))), (1, .int (nI (k1))), (2, .int (nI (k2))), (3, .int (nI (k)))] := hl
  have hn1 := hln k1
  have hn2 := hln k2
  refine lv_iload_n hx hb9 dX6_isLap_0 rfl (lv_at hl 3 rfl) ?_
  refine lv_aload_n hx hb9 dX6_isLap_1 rfl (lv_at hl 0 rfl) ?_
  refine xw_get hx hb9 hts hin6 hown hK hP (by decide) fo62 rfl 3 (by decide) hf20 rfl rfl dX6_isLap_2 ?_
  refine lv_iload_n hx hb9 dX6_isLap_5 rfl (lv_at hl 1 rfl) ?_
  refine xw_iald hx hb9 hK hP (by decide) 0 fa64 rfl (by omega) (by decide) dX6_isLap_6 ?_
  rw [hsz (k1) (by omega)]
  refine xi_icmp_gt (tgt := 24) hx hb9 (by omega) (by omega) dX6_isLap_7 (by decide) (fun c7_1 => ?_) (fun c7_1 => ?_)
  · refine lv_iconst (v := nI (0)) hx hb9 dX6_isLap_24 (by decide) ?_
    refine lv_istore (lv' := [(4, .int (nI (0))), (0, .ref (ad (62))), (1, .int (nI (k1))), (2, .int (nI (k2))), (3, .int (nI (k)))]) hx hb9 dX6_isLap_25 hl (by decide) rfl (fun ls hl => ?_)
    refine lv_iconst (v := nI (0)) hx hb9 dX6_isLap_27 (by decide) ?_
    refine lv_istore (lv' := [(5, .int (nI (0))), (4, .int (nI (0))), (0, .ref (ad (62))), (1, .int (nI (k1))), (2, .int (nI (k2))), (3, .int (nI (k)))]) hx hb9 dX6_isLap_28 hl (by decide) rfl (fun ls hl => ?_)
    refine xloop (G := fun fr => W p l e _ s m _ below meth c _ _ _ _ _ fr) (σ := Nat × Nat) (fun (i, b) ls => F0 m 30 ls []) (fun (i, b) ls => (i ≤ k) ∧ ((b = 1 ∧ k ≤ ln k1 ∧ k ≤ ln k2 ∧ ∀ j, j < i → u k1 (ln k1 - k + j) = u k2 j) ∨ (b = 0 ∧ ¬ (k ≤ ln k1 ∧ k ≤ ln k2 ∧ lapD (u k1) (ln k1) (u k2) k))) ∧ lv_has ls 6 [(0, .ref (ad (62))), (1, .int (nI (k1))), (2, .int (nI (k2))), (3, .int (nI (k))), (4, .int (nI (b))), (5, .int (nI (i)))]) (fun (i, b) => k - i) ?_ (0, 0) ls ⟨(Nat.zero_le _), (Or.inr ⟨rfl, fun h => by have h1 := h.1; have h2 := h.2.1; omega⟩), (lv_sub hl [2, 3, 4, 5, 1, 0] rfl)⟩
    rintro ⟨i, b⟩ ls ⟨hi, hb, hl⟩ ih30
    refine lv_iload hx hb9 dX6_isLap_30 (lv_at hl 5 rfl) ?_
    refine lv_iload_n hx hb9 dX6_isLap_32 rfl (lv_at hl 3 rfl) ?_
    refine xi_icmp_ge (tgt := 80) hx hb9 (by omega) (by omega) dX6_isLap_33 (by decide) (fun c33_2 => ?_) (fun c33_2 => ?_)
    · refine lv_iload hx hb9 dX6_isLap_80 (lv_at hl 4 rfl) ?_
      exact W.zret (v := nI b) hx hb9 hr (by rcases hb with h | h; rw [h.1]; rfl; rw [h.1]; rfl) (fun tZ ht _ => ⟨_, rfl, (by show _ = (if (k ≤ ln k1 ∧ k ≤ ln k2 ∧ lapD (u k1) (ln k1) (u k2) k) then 1 else 0); rcases hb with h | h; rw [h.1, if_pos ⟨h.2.1, h.2.2.1, fun j hj => h.2.2.2 j (by omega)⟩]; rfl; rw [h.1, if_neg h.2]; rfl), ht⟩) (fun q hq => by cases hq) dX6_isLap_82
    · refine lv_iload hx hb9 dX6_isLap_36 (lv_at hl 4 rfl) ?_
      refine xi_if_eq (tgt := 80) hx hb9 (by rcases hb with h | h <;> omega) dX6_isLap_38 (by decide) (fun c38_3 => ?_) (fun c38_3 => ?_)
      · refine lv_iload hx hb9 dX6_isLap_80 (lv_at hl 4 rfl) ?_
        exact W.zret (v := nI b) hx hb9 hr (by rcases hb with h | h; rw [h.1]; rfl; rw [h.1]; rfl) (fun tZ ht _ => ⟨_, rfl, (by show _ = (if (k ≤ ln k1 ∧ k ≤ ln k2 ∧ lapD (u k1) (ln k1) (u k2) k) then 1 else 0); rcases hb with h | h; rw [h.1, if_pos ⟨h.2.1, h.2.2.1, fun j hj => h.2.2.2 j (by have h5 := c38_3; omega)⟩]; rfl; rw [h.1, if_neg h.2]; rfl), ht⟩) (fun q hq => by cases hq) dX6_isLap_82
      · have hb1 := hb.resolve_right (fun h => c38_3 h.1)
        have hb1l := hb1.2.1
        have hb1r := hb1.2.2.1
        refine lv_aload_n hx hb9 dX6_isLap_41 rfl (lv_at hl 0 rfl) ?_
        refine lv_iload_n hx hb9 dX6_isLap_42 rfl (lv_at hl 1 rfl) ?_
        refine lv_aload_n hx hb9 dX6_isLap_43 rfl (lv_at hl 0 rfl) ?_
        refine xw_get hx hb9 hts hin6 hown hK hP (by decide) fo62 rfl 3 (by decide) hf20 rfl rfl dX6_isLap_44 ?_
        refine lv_iload_n hx hb9 dX6_isLap_47 rfl (lv_at hl 1 rfl) ?_
        refine xw_iald hx hb9 hK hP (by decide) 0 fa64 rfl (by omega) (by decide) dX6_isLap_48 ?_
        rw [hsz (k1) (by omega)]
        refine lv_iload_n hx hb9 dX6_isLap_49 rfl (lv_at hl 3 rfl) ?_
        refine xi_sub hx hb9 (by omega) dX6_isLap_50 ?_
        refine lv_iload hx hb9 dX6_isLap_51 (lv_at hl 5 rfl) ?_
        refine xi_add hx hb9 dX6_isLap_53 ?_
        refine vp_callSi (va_Run.run (va_runV (As := [.int (nI (k1)), .int (nI (((ln (k1)) - k) + i))]) (rest := []) ⟨hx, hb9, hml, hown, hts⟩ (mX6_letterOf l (w := w) (ln := ln) (t := t) (u := u) (s1 := k1) (j1 := ((ln (k1)) - k) + i) (vv := u (k1) (((ln (k1)) - k) + i)) fo62 fa65 (by omega) (by have h9 := hln (k1); omega) (hwl (k1) (((ln (k1)) - k) + i) (by omega) (by omega))) (cwV 2 hts gX6_isLap_X6_letterOf rfl rfl rfl (by decide +kernel) ⟨Nat.le_of_ble_eq_true rfl, Nat.le_of_ble_eq_true rfl⟩) ⟨xB_blind, va_recv hK hP (ci := 6) rfl (xw_is (by decide) fo62), fun U hU hW => ⟨rfl, by rw [hU]; exact hP, va_K.moved hW.alike hK, va_Nw.warmM hW hN⟩⟩ rfl rfl hl.1 rfl (lv_room (Nat.le_of_ble_eq_true rfl)) dX6_isLap_54 ⟨Nat.le_of_ble_eq_true rfl, Nat.le_of_ble_eq_true rfl⟩)) (fun r4 er4 => ?_)
        subst er4
        refine lv_aload_n hx hb9 dX6_isLap_57 rfl (lv_at hl 0 rfl) ?_
        refine lv_iload_n hx hb9 dX6_isLap_58 rfl (lv_at hl 2 rfl) ?_
        refine lv_iload hx hb9 dX6_isLap_59 (lv_at hl 5 rfl) ?_
        refine vp_callSi (va_Run.run (va_runV (As := [.int (nI (k2)), .int (nI (i))]) (rest := [.int (nI (u (k1) (((ln (k1)) - k) + i)))]) ⟨hx, hb9, hml, hown, hts⟩ (mX6_letterOf l (w := w) (ln := ln) (t := t) (u := u) (s1 := k2) (j1 := i) (vv := u (k2) (i)) fo62 fa65 (by omega) (by have h9 := hln (k2); omega) (hwl (k2) (i) (by omega) (by omega))) (cwV 2 hts gX6_isLap_X6_letterOf rfl rfl rfl (by decide +kernel) ⟨Nat.le_of_ble_eq_true rfl, Nat.le_of_ble_eq_true rfl⟩) ⟨xB_blind, va_recv hK hP (ci := 6) rfl (xw_is (by decide) fo62), fun U hU hW => ⟨rfl, by rw [hU]; exact hP, va_K.moved hW.alike hK, va_Nw.warmM hW hN⟩⟩ rfl rfl hl.1 rfl (lv_room (Nat.le_of_ble_eq_true rfl)) dX6_isLap_61 ⟨Nat.le_of_ble_eq_true rfl, Nat.le_of_ble_eq_true rfl⟩)) (fun r5 er5 => ?_)
        subst er5
        refine xi_icmp_ne (tgt := 71) hx hb9 (Nat.lt_trans (hul _ _ (by omega)) (by omega)) (Nat.lt_trans (hul _ _ (by omega)) (by omega)) dX6_isLap_64 (by decide) (fun c64_6 => ?_) (fun c64_6 => ?_)
        · refine lv_iconst (v := nI (0)) hx hb9 dX6_isLap_71 (by decide) ?_
          refine lv_istore (lv' := [(4, .int (nI (0))), (0, .ref (ad (62))), (1, .int (nI (k1))), (2, .int (nI (k2))), (3, .int (nI (k))), (5, .int (nI (i)))]) hx hb9 dX6_isLap_72 hl (by decide) rfl (fun ls hl => ?_)
          refine lv_iinc (v := nI (i + 1)) (lv' := [(5, .int (nI (i + 1))), (4, .int (nI (0))), (0, .ref (ad (62))), (1, .int (nI (k1))), (2, .int (nI (k2))), (3, .int (nI (k)))]) hx hb9 dX6_isLap_74 hl (k := 5) rfl (nI_add (i) 1) (by decide) rfl (fun ls hl => ?_)
          refine lv_goto (tgt := 30) hx hb9 dX6_isLap_77 (by decide) ?_
          exact ih30 (i + 1, 0) ls ⟨(by omega), (Or.inr ⟨rfl, fun h => c64_6 (h.2.2 i (by omega))⟩), (lv_sub hl [2, 3, 4, 5, 1, 0] rfl)⟩ (by first | omega | (dsimp only; omega))
        · refine lv_iconst (v := nI (1)) hx hb9 dX6_isLap_67 (by decide) ?_
          refine lv_goto (tgt := 72) hx hb9 dX6_isLap_68 (by decide) ?_
          refine lv_istore (lv' := [(4, .int (nI (1))), (0, .ref (ad (62))), (1, .int (nI (k1))), (2, .int (nI (k2))), (3, .int (nI (k))), (5, .int (nI (i)))]) hx hb9 dX6_isLap_72 hl (by decide) rfl (fun ls hl => ?_)
          refine lv_iinc (v := nI (i + 1)) (lv' := [(5, .int (nI (i + 1))), (4, .int (nI (1))), (0, .ref (ad (62))), (1, .int (nI (k1))), (2, .int (nI (k2))), (3, .int (nI (k)))]) hx hb9 dX6_isLap_74 hl (k := 5) rfl (nI_add (i) 1) (by decide) rfl (fun ls hl => ?_)
          refine lv_goto (tgt := 30) hx hb9 dX6_isLap_77 (by decide) ?_
          exact ih30 (i + 1, 1) ls ⟨(by omega), (Or.inl ⟨rfl, hb1.2.1, hb1.2.2.1, fun j hj => if e : j = i then by rw [e]; exact c64_6 else hb1.2.2.2 j (by omega)⟩), (lv_sub hl [2, 3, 4, 5, 1, 0] rfl)⟩ (by first | omega | (dsimp only; omega))
  · refine lv_iload_n hx hb9 dX6_isLap_10 rfl (lv_at hl 3 rfl) ?_
    refine lv_aload_n hx hb9 dX6_isLap_11 rfl (lv_at hl 0 rfl) ?_
    refine xw_get hx hb9 hts hin6 hown hK hP (by decide) fo62 rfl 3 (by decide) hf20 rfl rfl dX6_isLap_12 ?_
    refine lv_iload_n hx hb9 dX6_isLap_15 rfl (lv_at hl 2 rfl) ?_
    refine xw_iald hx hb9 hK hP (by decide) 0 fa64 rfl (by omega) (by decide) dX6_isLap_16 ?_
    rw [hsz (k2) (by omega)]
    refine xi_icmp_gt (tgt := 24) hx hb9 (by omega) (by omega) dX6_isLap_17 (by decide) (fun c17_7 => ?_) (fun c17_7 => ?_)
    · refine lv_iconst (v := nI (0)) hx hb9 dX6_isLap_24 (by decide) ?_
      refine lv_istore (lv' := [(4, .int (nI (0))), (0, .ref (ad (62))), (1, .int (nI (k1))), (2, .int (nI (k2))), (3, .int (nI (k)))]) hx hb9 dX6_isLap_25 hl (by decide) rfl (fun ls hl => ?_)
      refine lv_iconst (v := nI (0)) hx hb9 dX6_isLap_27 (by decide) ?_
      refine lv_istore (lv' := [(5, .int (nI (0))), (4, .int (nI (0))), (0, .ref (ad (62))), (1, .int (nI (k1))), (2, .int (nI (k2))), (3, .int (nI (k)))]) hx hb9 dX6_isLap_28 hl (by decide) rfl (fun ls hl => ?_)
      refine xloop (G := fun fr => W p l e _ s m _ below meth c _ _ _ _ _ fr) (σ := Nat × Nat) (fun (i, b) ls => F0 m 30 ls []) (fun (i, b) ls => (i ≤ k) ∧ ((b = 1 ∧ k ≤ ln k1 ∧ k ≤ ln k2 ∧ ∀ j, j < i → u k1 (ln k1 - k + j) = u k2 j) ∨ (b = 0 ∧ ¬ (k ≤ ln k1 ∧ k ≤ ln k2 ∧ lapD (u k1) (ln k1) (u k2) k))) ∧ lv_has ls 6 [(0, .ref (ad (62))), (1, .int (nI (k1))), (2, .int (nI (k2))), (3, .int (nI (k))), (4, .int (nI (b))), (5, .int (nI (i)))]) (fun (i, b) => k - i) ?_ (0, 0) ls ⟨(Nat.zero_le _), (Or.inr ⟨rfl, fun h => by have h1 := h.1; have h2 := h.2.1; omega⟩), (lv_sub hl [2, 3, 4, 5, 1, 0] rfl)⟩
      rintro ⟨i, b⟩ ls ⟨hi, hb, hl⟩ ih30
      refine lv_iload hx hb9 dX6_isLap_30 (lv_at hl 5 rfl) ?_
      refine lv_iload_n hx hb9 dX6_isLap_32 rfl (lv_at hl 3 rfl) ?_
      refine xi_icmp_ge (tgt := 80) hx hb9 (by omega) (by omega) dX6_isLap_33 (by decide) (fun c33_8 => ?_) (fun c33_8 => ?_)
      · refine lv_iload hx hb9 dX6_isLap_80 (lv_at hl 4 rfl) ?_
        exact W.zret (v := nI b) hx hb9 hr (by rcases hb with h | h; rw [h.1]; rfl; rw [h.1]; rfl) (fun tZ ht _ => ⟨_, rfl, (by show _ = (if (k ≤ ln k1 ∧ k ≤ ln k2 ∧ lapD (u k1) (ln k1) (u k2) k) then 1 else 0); rcases hb with h | h; rw [h.1, if_pos ⟨h.2.1, h.2.2.1, fun j hj => h.2.2.2 j (by omega)⟩]; rfl; rw [h.1, if_neg h.2]; rfl), ht⟩) (fun q hq => by cases hq) dX6_isLap_82
      · refine lv_iload hx hb9 dX6_isLap_36 (lv_at hl 4 rfl) ?_
        refine xi_if_eq (tgt := 80) hx hb9 (by rcases hb with h | h <;> omega) dX6_isLap_38 (by decide) (fun c38_9 => ?_) (fun c38_9 => ?_)
        · refine lv_iload hx hb9 dX6_isLap_80 (lv_at hl 4 rfl) ?_
          exact W.zret (v := nI b) hx hb9 hr (by rcases hb with h | h; rw [h.1]; rfl; rw [h.1]; rfl) (fun tZ ht _ => ⟨_, rfl, (by show _ = (if (k ≤ ln k1 ∧ k ≤ ln k2 ∧ lapD (u k1) (ln k1) (u k2) k) then 1 else 0); rcases hb with h | h; rw [h.1, if_pos ⟨h.2.1, h.2.2.1, fun j hj => h.2.2.2 j (by have h5 := c38_9; omega)⟩]; rfl; rw [h.1, if_neg h.2]; rfl), ht⟩) (fun q hq => by cases hq) dX6_isLap_82
        · have hb1 := hb.resolve_right (fun h => c38_9 h.1)
          have hb1l := hb1.2.1
          have hb1r := hb1.2.2.1
          refine lv_aload_n hx hb9 dX6_isLap_41 rfl (lv_at hl 0 rfl) ?_
          refine lv_iload_n hx hb9 dX6_isLap_42 rfl (lv_at hl 1 rfl) ?_
          refine lv_aload_n hx hb9 dX6_isLap_43 rfl (lv_at hl 0 rfl) ?_
          refine xw_get hx hb9 hts hin6 hown hK hP (by decide) fo62 rfl 3 (by decide) hf20 rfl rfl dX6_isLap_44 ?_
          refine lv_iload_n hx hb9 dX6_isLap_47 rfl (lv_at hl 1 rfl) ?_
          refine xw_iald hx hb9 hK hP (by decide) 0 fa64 rfl (by omega) (by decide) dX6_isLap_48 ?_
          rw [hsz (k1) (by omega)]
          refine lv_iload_n hx hb9 dX6_isLap_49 rfl (lv_at hl 3 rfl) ?_
          refine xi_sub hx hb9 (by omega) dX6_isLap_50 ?_
          refine lv_iload hx hb9 dX6_isLap_51 (lv_at hl 5 rfl) ?_
          refine xi_add hx hb9 dX6_isLap_53 ?_
          refine vp_callSi (va_Run.run (va_runV (As := [.int (nI (k1)), .int (nI (((ln (k1)) - k) + i))]) (rest := []) ⟨hx, hb9, hml, hown, hts⟩ (mX6_letterOf l (w := w) (ln := ln) (t := t) (u := u) (s1 := k1) (j1 := ((ln (k1)) - k) + i) (vv := u (k1) (((ln (k1)) - k) + i)) fo62 fa65 (by omega) (by have h9 := hln (k1); omega) (hwl (k1) (((ln (k1)) - k) + i) (by omega) (by omega))) (cwV 2 hts gX6_isLap_X6_letterOf rfl rfl rfl (by decide +kernel) ⟨Nat.le_of_ble_eq_true rfl, Nat.le_of_ble_eq_true rfl⟩) ⟨xB_blind, va_recv hK hP (ci := 6) rfl (xw_is (by decide) fo62), fun U hU hW => ⟨rfl, by rw [hU]; exact hP, va_K.moved hW.alike hK, va_Nw.warmM hW hN⟩⟩ rfl rfl hl.1 rfl (lv_room (Nat.le_of_ble_eq_true rfl)) dX6_isLap_54 ⟨Nat.le_of_ble_eq_true rfl, Nat.le_of_ble_eq_true rfl⟩)) (fun r10 er10 => ?_)
          subst er10
          refine lv_aload_n hx hb9 dX6_isLap_57 rfl (lv_at hl 0 rfl) ?_
          refine lv_iload_n hx hb9 dX6_isLap_58 rfl (lv_at hl 2 rfl) ?_
          refine lv_iload hx hb9 dX6_isLap_59 (lv_at hl 5 rfl) ?_
          refine vp_callSi (va_Run.run (va_runV (As := [.int (nI (k2)), .int (nI (i))]) (rest := [.int (nI (u (k1) (((ln (k1)) - k) + i)))]) ⟨hx, hb9, hml, hown, hts⟩ (mX6_letterOf l (w := w) (ln := ln) (t := t) (u := u) (s1 := k2) (j1 := i) (vv := u (k2) (i)) fo62 fa65 (by omega) (by have h9 := hln (k2); omega) (hwl (k2) (i) (by omega) (by omega))) (cwV 2 hts gX6_isLap_X6_letterOf rfl rfl rfl (by decide +kernel) ⟨Nat.le_of_ble_eq_true rfl, Nat.le_of_ble_eq_true rfl⟩) ⟨xB_blind, va_recv hK hP (ci := 6) rfl (xw_is (by decide) fo62), fun U hU hW => ⟨rfl, by rw [hU]; exact hP, va_K.moved hW.alike hK, va_Nw.warmM hW hN⟩⟩ rfl rfl hl.1 rfl (lv_room (Nat.le_of_ble_eq_true rfl)) dX6_isLap_61 ⟨Nat.le_of_ble_eq_true rfl, Nat.le_of_ble_eq_true rfl⟩)) (fun r11 er11 => ?_)
          subst er11
          refine xi_icmp_ne (tgt := 71) hx hb9 (Nat.lt_trans (hul _ _ (by omega)) (by omega)) (Nat.lt_trans (hul _ _ (by omega)) (by omega)) dX6_isLap_64 (by decide) (fun c64_12 => ?_) (fun c64_12 => ?_)
          · refine lv_iconst (v := nI (0)) hx hb9 dX6_isLap_71 (by decide) ?_
            refine lv_istore (lv' := [(4, .int (nI (0))), (0, .ref (ad (62))), (1, .int (nI (k1))), (2, .int (nI (k2))), (3, .int (nI (k))), (5, .int (nI (i)))]) hx hb9 dX6_isLap_72 hl (by decide) rfl (fun ls hl => ?_)
            refine lv_iinc (v := nI (i + 1)) (lv' := [(5, .int (nI (i + 1))), (4, .int (nI (0))), (0, .ref (ad (62))), (1, .int (nI (k1))), (2, .int (nI (k2))), (3, .int (nI (k)))]) hx hb9 dX6_isLap_74 hl (k := 5) rfl (nI_add (i) 1) (by decide) rfl (fun ls hl => ?_)
            refine lv_goto (tgt := 30) hx hb9 dX6_isLap_77 (by decide) ?_
            exact ih30 (i + 1, 0) ls ⟨(by omega), (Or.inr ⟨rfl, fun h => c64_12 (h.2.2 i (by omega))⟩), (lv_sub hl [2, 3, 4, 5, 1, 0] rfl)⟩ (by first | omega | (dsimp only; omega))
          · refine lv_iconst (v := nI (1)) hx hb9 dX6_isLap_67 (by decide) ?_
            refine lv_goto (tgt := 72) hx hb9 dX6_isLap_68 (by decide) ?_
            refine lv_istore (lv' := [(4, .int (nI (1))), (0, .ref (ad (62))), (1, .int (nI (k1))), (2, .int (nI (k2))), (3, .int (nI (k))), (5, .int (nI (i)))]) hx hb9 dX6_isLap_72 hl (by decide) rfl (fun ls hl => ?_)
            refine lv_iinc (v := nI (i + 1)) (lv' := [(5, .int (nI (i + 1))), (4, .int (nI (1))), (0, .ref (ad (62))), (1, .int (nI (k1))), (2, .int (nI (k2))), (3, .int (nI (k)))]) hx hb9 dX6_isLap_74 hl (k := 5) rfl (nI_add (i) 1) (by decide) rfl (fun ls hl => ?_)
            refine lv_goto (tgt := 30) hx hb9 dX6_isLap_77 (by decide) ?_
            exact ih30 (i + 1, 1) ls ⟨(by omega), (Or.inl ⟨rfl, hb1.2.1, hb1.2.2.1, fun j hj => if e : j = i then by rw [e]; exact c64_12 else hb1.2.2.2 j (by omega)⟩), (lv_sub hl [2, 3, 4, 5, 1, 0] rfl)⟩ (by first | omega | (dsimp only; omega))
    · refine lv_iconst (v := nI (1)) hx hb9 dX6_isLap_20 (by decide) ?_
      refine lv_goto (tgt := 25) hx hb9 dX6_isLap_21 (by decide) ?_
      refine lv_istore (lv' := [(4, .int (nI (1))), (0, .ref (ad (62))), (1, .int (nI (k1))), (2, .int (nI (k2))), (3, .int (nI (k)))]) hx hb9 dX6_isLap_25 hl (by decide) rfl (fun ls hl => ?_)
      refine lv_iconst (v := nI (0)) hx hb9 dX6_isLap_27 (by decide) ?_
      refine lv_istore (lv' := [(5, .int (nI (0))), (4, .int (nI (1))), (0, .ref (ad (62))), (1, .int (nI (k1))), (2, .int (nI (k2))), (3, .int (nI (k)))]) hx hb9 dX6_isLap_28 hl (by decide) rfl (fun ls hl => ?_)
      refine xloop (G := fun fr => W p l e _ s m _ below meth c _ _ _ _ _ fr) (σ := Nat × Nat) (fun (i, b) ls => F0 m 30 ls []) (fun (i, b) ls => (i ≤ k) ∧ ((b = 1 ∧ k ≤ ln k1 ∧ k ≤ ln k2 ∧ ∀ j, j < i → u k1 (ln k1 - k + j) = u k2 j) ∨ (b = 0 ∧ ¬ (k ≤ ln k1 ∧ k ≤ ln k2 ∧ lapD (u k1) (ln k1) (u k2) k))) ∧ lv_has ls 6 [(0, .ref (ad (62))), (1, .int (nI (k1))), (2, .int (nI (k2))), (3, .int (nI (k))), (4, .int (nI (b))), (5, .int (nI (i)))]) (fun (i, b) => k - i) ?_ (0, 1) ls ⟨(Nat.zero_le _), (Or.inl ⟨rfl, by omega, by omega, fun j hj => absurd hj (by omega)⟩), (lv_sub hl [2, 3, 4, 5, 1, 0] rfl)⟩
      rintro ⟨i, b⟩ ls ⟨hi, hb, hl⟩ ih30
      refine lv_iload hx hb9 dX6_isLap_30 (lv_at hl 5 rfl) ?_
      refine lv_iload_n hx hb9 dX6_isLap_32 rfl (lv_at hl 3 rfl) ?_
      refine xi_icmp_ge (tgt := 80) hx hb9 (by omega) (by omega) dX6_isLap_33 (by decide) (fun c33_13 => ?_) (fun c33_13 => ?_)
      · refine lv_iload hx hb9 dX6_isLap_80 (lv_at hl 4 rfl) ?_
        exact W.zret (v := nI b) hx hb9 hr (by rcases hb with h | h; rw [h.1]; rfl; rw [h.1]; rfl) (fun tZ ht _ => ⟨_, rfl, (by show _ = (if (k ≤ ln k1 ∧ k ≤ ln k2 ∧ lapD (u k1) (ln k1) (u k2) k) then 1 else 0); rcases hb with h | h; rw [h.1, if_pos ⟨h.2.1, h.2.2.1, fun j hj => h.2.2.2 j (by omega)⟩]; rfl; rw [h.1, if_neg h.2]; rfl), ht⟩) (fun q hq => by cases hq) dX6_isLap_82
      · refine lv_iload hx hb9 dX6_isLap_36 (lv_at hl 4 rfl) ?_
        refine xi_if_eq (tgt := 80) hx hb9 (by rcases hb with h | h <;> omega) dX6_isLap_38 (by decide) (fun c38_14 => ?_) (fun c38_14 => ?_)
        · refine lv_iload hx hb9 dX6_isLap_80 (lv_at hl 4 rfl) ?_
          exact W.zret (v := nI b) hx hb9 hr (by rcases hb with h | h; rw [h.1]; rfl; rw [h.1]; rfl) (fun tZ ht _ => ⟨_, rfl, (by show _ = (if (k ≤ ln k1 ∧ k ≤ ln k2 ∧ lapD (u k1) (ln k1) (u k2) k) then 1 else 0); rcases hb with h | h; rw [h.1, if_pos ⟨h.2.1, h.2.2.1, fun j hj => h.2.2.2 j (by have h5 := c38_14; omega)⟩]; rfl; rw [h.1, if_neg h.2]; rfl), ht⟩) (fun q hq => by cases hq) dX6_isLap_82
        · have hb1 := hb.resolve_right (fun h => c38_14 h.1)
          have hb1l := hb1.2.1
          have hb1r := hb1.2.2.1
          refine lv_aload_n hx hb9 dX6_isLap_41 rfl (lv_at hl 0 rfl) ?_
          refine lv_iload_n hx hb9 dX6_isLap_42 rfl (lv_at hl 1 rfl) ?_
          refine lv_aload_n hx hb9 dX6_isLap_43 rfl (lv_at hl 0 rfl) ?_
          refine xw_get hx hb9 hts hin6 hown hK hP (by decide) fo62 rfl 3 (by decide) hf20 rfl rfl dX6_isLap_44 ?_
          refine lv_iload_n hx hb9 dX6_isLap_47 rfl (lv_at hl 1 rfl) ?_
          refine xw_iald hx hb9 hK hP (by decide) 0 fa64 rfl (by omega) (by decide) dX6_isLap_48 ?_
          rw [hsz (k1) (by omega)]
          refine lv_iload_n hx hb9 dX6_isLap_49 rfl (lv_at hl 3 rfl) ?_
          refine xi_sub hx hb9 (by omega) dX6_isLap_50 ?_
          refine lv_iload hx hb9 dX6_isLap_51 (lv_at hl 5 rfl) ?_
          refine xi_add hx hb9 dX6_isLap_53 ?_
          refine vp_callSi (va_Run.run (va_runV (As := [.int (nI (k1)), .int (nI (((ln (k1)) - k) + i))]) (rest := []) ⟨hx, hb9, hml, hown, hts⟩ (mX6_letterOf l (w := w) (ln := ln) (t := t) (u := u) (s1 := k1) (j1 := ((ln (k1)) - k) + i) (vv := u (k1) (((ln (k1)) - k) + i)) fo62 fa65 (by omega) (by have h9 := hln (k1); omega) (hwl (k1) (((ln (k1)) - k) + i) (by omega) (by omega))) (cwV 2 hts gX6_isLap_X6_letterOf rfl rfl rfl (by decide +kernel) ⟨Nat.le_of_ble_eq_true rfl, Nat.le_of_ble_eq_true rfl⟩) ⟨xB_blind, va_recv hK hP (ci := 6) rfl (xw_is (by decide) fo62), fun U hU hW => ⟨rfl, by rw [hU]; exact hP, va_K.moved hW.alike hK, va_Nw.warmM hW hN⟩⟩ rfl rfl hl.1 rfl (lv_room (Nat.le_of_ble_eq_true rfl)) dX6_isLap_54 ⟨Nat.le_of_ble_eq_true rfl, Nat.le_of_ble_eq_true rfl⟩)) (fun r15 er15 => ?_)
          subst er15
          refine lv_aload_n hx hb9 dX6_isLap_57 rfl (lv_at hl 0 rfl) ?_
          refine lv_iload_n hx hb9 dX6_isLap_58 rfl (lv_at hl 2 rfl) ?_
          refine lv_iload hx hb9 dX6_isLap_59 (lv_at hl 5 rfl) ?_
          refine vp_callSi (va_Run.run (va_runV (As := [.int (nI (k2)), .int (nI (i))]) (rest := [.int (nI (u (k1) (((ln (k1)) - k) + i)))]) ⟨hx, hb9, hml, hown, hts⟩ (mX6_letterOf l (w := w) (ln := ln) (t := t) (u := u) (s1 := k2) (j1 := i) (vv := u (k2) (i)) fo62 fa65 (by omega) (by have h9 := hln (k2); omega) (hwl (k2) (i) (by omega) (by omega))) (cwV 2 hts gX6_isLap_X6_letterOf rfl rfl rfl (by decide +kernel) ⟨Nat.le_of_ble_eq_true rfl, Nat.le_of_ble_eq_true rfl⟩) ⟨xB_blind, va_recv hK hP (ci := 6) rfl (xw_is (by decide) fo62), fun U hU hW => ⟨rfl, by rw [hU]; exact hP, va_K.moved hW.alike hK, va_Nw.warmM hW hN⟩⟩ rfl rfl hl.1 rfl (lv_room (Nat.le_of_ble_eq_true rfl)) dX6_isLap_61 ⟨Nat.le_of_ble_eq_true rfl, Nat.le_of_ble_eq_true rfl⟩)) (fun r16 er16 => ?_)
          subst er16
          refine xi_icmp_ne (tgt := 71) hx hb9 (Nat.lt_trans (hul _ _ (by omega)) (by omega)) (Nat.lt_trans (hul _ _ (by omega)) (by omega)) dX6_isLap_64 (by decide) (fun c64_17 => ?_) (fun c64_17 => ?_)
          · refine lv_iconst (v := nI (0)) hx hb9 dX6_isLap_71 (by decide) ?_
            refine lv_istore (lv' := [(4, .int (nI (0))), (0, .ref (ad (62))), (1, .int (nI (k1))), (2, .int (nI (k2))), (3, .int (nI (k))), (5, .int (nI (i)))]) hx hb9 dX6_isLap_72 hl (by decide) rfl (fun ls hl => ?_)
            refine lv_iinc (v := nI (i + 1)) (lv' := [(5, .int (nI (i + 1))), (4, .int (nI (0))), (0, .ref (ad (62))), (1, .int (nI (k1))), (2, .int (nI (k2))), (3, .int (nI (k)))]) hx hb9 dX6_isLap_74 hl (k := 5) rfl (nI_add (i) 1) (by decide) rfl (fun ls hl => ?_)
            refine lv_goto (tgt := 30) hx hb9 dX6_isLap_77 (by decide) ?_
            exact ih30 (i + 1, 0) ls ⟨(by omega), (Or.inr ⟨rfl, fun h => c64_17 (h.2.2 i (by omega))⟩), (lv_sub hl [2, 3, 4, 5, 1, 0] rfl)⟩ (by first | omega | (dsimp only; omega))
          · refine lv_iconst (v := nI (1)) hx hb9 dX6_isLap_67 (by decide) ?_
            refine lv_goto (tgt := 72) hx hb9 dX6_isLap_68 (by decide) ?_
            refine lv_istore (lv' := [(4, .int (nI (1))), (0, .ref (ad (62))), (1, .int (nI (k1))), (2, .int (nI (k2))), (3, .int (nI (k))), (5, .int (nI (i)))]) hx hb9 dX6_isLap_72 hl (by decide) rfl (fun ls hl => ?_)
            refine lv_iinc (v := nI (i + 1)) (lv' := [(5, .int (nI (i + 1))), (4, .int (nI (1))), (0, .ref (ad (62))), (1, .int (nI (k1))), (2, .int (nI (k2))), (3, .int (nI (k)))]) hx hb9 dX6_isLap_74 hl (k := 5) rfl (nI_add (i) 1) (by decide) rfl (fun ls hl => ?_)
            refine lv_goto (tgt := 30) hx hb9 dX6_isLap_77 (by decide) ?_
            exact ih30 (i + 1, 1) ls ⟨(by omega), (Or.inl ⟨rfl, hb1.2.1, hb1.2.2.1, fun j hj => if e : j = i then by rw [e]; exact c64_17 else hb1.2.2.2 j (by omega)⟩), (lv_sub hl [2, 3, 4, 5, 1, 0] rfl)⟩ (by first | omega | (dsimp only; omega))
