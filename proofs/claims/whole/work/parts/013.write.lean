def hf (x : Int32) : Nat := if ¬ x < nI 1 ∧ ¬ nI 4 < x then x.toNatClampNeg else 5
theorem hf_no {x : Int32} (h : x < nI 1 ∨ nI 4 < x) : hf x = 5 := by
  unfold hf
  rw [if_neg (fun h2 => h.elim h2.1 h2.2)]
theorem hf_yes {x : Int32} (h1 : ¬ x < nI 1) (h2 : ¬ nI 4 < x) : x = nI (hf x) := by
  unfold hf
  rw [if_pos ⟨h1, h2⟩]
  have h3 : x.toInt = (x.toNatClampNeg : Int) := by
    have h4 : (1 : Int) ≤ x.toInt := by
      rw [Int32.lt_iff_toInt_lt] at h1
      have e1 : (nI 1).toInt = 1 := by decide
      omega
    rw [Int32.toNatClampNeg]
    omega
  apply Int32.toInt_inj.mp
  rw [nI_toInt, h3]
  have h5 := Int32.toNatClampNeg_lt x
  omega
theorem hf_le (x : Int32) : hf x ≤ 5 := by
  by_cases h : ¬ x < nI 1 ∧ ¬ nI 4 < x
  · have h1 := hf_yes h.1 h.2
    have h2 := h.2
    rw [h1] at h2
    have h5 := Int32.toNatClampNeg_lt x
    have h6 : hf x < 2 ^ 31 := by unfold hf; rw [if_pos h]; omega
    rw [nI_ltI (by decide) h6] at h2
    omega
  · unfold hf; rw [if_neg h]; exact Nat.le_refl 5
theorem hf_1 (x : Int32) : 1 ≤ hf x := by
  by_cases h : ¬ x < nI 1 ∧ ¬ nI 4 < x
  · have h1 := hf_yes h.1 h.2
    have h2 := h.1
    rw [h1] at h2
    have h6 : hf x < 2 ^ 31 := Nat.lt_of_le_of_lt (hf_le x) (by decide)
    rw [nI_ltI h6 (by decide)] at h2
    omega
  · unfold hf; rw [if_neg h]; decide
theorem hf_eq {x : Int32} (h : hf x ≤ 4) : x = nI (hf x) := by
  by_cases h1 : ¬ x < nI 1 ∧ ¬ nI 4 < x
  · exact hf_yes h1.1 h1.2
  · unfold hf at h; rw [if_neg h1] at h; omega
set_option maxHeartbeats 4000000 in
set_option maxRecDepth 100000 in
/-- Word.clear -/
theorem mX4_clear (l : Launch) {D : va_G} {cI cJ cZ cW : ClassId} {ad : Nat → Nat} {A : Nat → Prop} (hD : ∀ g, va_D A (xw 81 ad g)) {g : Nat → va_E} {b1 : Nat} {le1 co1 : Int32} {ow1 : Int64}  (fo1 : g (b1) = .inr (4, [.ref (ad (b1 + 1)), .ref (ad (b1 + 2)), .ref (ad (b1 + 3)), .ref (ad (b1 + 4)), .int (le1), .int (co1), .long (ow1)])) (hb1 : b1 + 4 < 81) : Met l yX4_clear wsX4_clear ({ frames := 0, cells := 0, slots := 0, locals := 0 }) (va_Pc [.ref (ad (b1))] (xB D (xT cI cJ cZ cW) ad g)) (va_Qv (fun g2 => g2 (b1) = .inr (4, [.ref (ad (b1 + 1)), .ref (ad (b1 + 2)), .ref (ad (b1 + 3)), .ref (ad (b1 + 4)), .int (nI (0)), .int (co1), .long (ow1)]) ∧ ∀ j : Nat, j ≠ b1 → g2 j = g j) (xB D (xT cI cJ cZ cW) ad) A) 0 0 A := by
  refine Met.ofW (cc := cX4_clear) (maxL := 1) (ret := none) (by decide) rfl ?_
  intro p e s m args below meth c s₁ B hml hv
  obtain ⟨rfl, hP, hK, hN⟩ := hv
  have hx := B.exec
  have hb := B.bytes
  have hr := B.returns
  have hts := atoms_spec (ws := wsX4_clear) B.pre
  have hown : s.vm.findClass RX4 = some m.cls := findClass_of_methodNamed B.named
  have hlocks := B.notSynchronized
  have hS : va_S A s.heap s.heap [] := va_S.rf
  have hin4 : ∀ w ∈ wsX40, w ∈ wsX4_clear := by decide +kernel
  have hf25 := hts (.fieldLink RX4 25 "LettersByLot$Word" "length" "I") (by decide +kernel)
  have hl := lv_entry ([.ref (ad (b1))]) (n := 1) (Nat.le_of_ble_eq_true rfl)
  rw [lg_entry_eq]
  generalize (lg_sl ([.ref (ad (b1))]) ++ List.replicate (1 - (lg_sl ([.ref (ad (b1))])).length) Slot.unset).toArray = ls at hl ⊢
  have hl : lv_has ls 1 [(0, .ref (ad (b1)))] := hl
  refine lv_aload_n hx hb dX4_clear_0 rfl (lv_at hl 0 rfl) ?_
  refine lv_iconst (v := nI (0)) hx hb dX4_clear_1 (by decide) ?_
  refine xw_put hx hb hts hin4 tyX4 tyX4_ok nmX4 hown hK hP hD hS (by omega) fo1 rfl 4 (by decide) hf25 rfl rfl (ty := .int) (by decide +kernel) rfl rfl (Nat.le_of_ble_eq_true rfl) (fs' := [.ref (ad (b1 + 1)), .ref (ad (b1 + 2)), .ref (ad (b1 + 3)), .ref (ad (b1 + 4)), .int (nI (0)), .int (co1), .long (ow1)]) rfl dX4_clear_2 (fun g1 H locs eg1 hP hS => ?_)
  have fg1_w : g1 (b1) = .inr (4, [.ref (ad (b1 + 1)), .ref (ad (b1 + 2)), .ref (ad (b1 + 3)), .ref (ad (b1 + 4)), .int (nI (0)), .int (co1), .long (ow1)]) := (congrFun eg1 (b1)).trans (va_up_self _ _ _)
  have hfrg1 : ∀ j : Nat, j ≠ b1 → g1 j = g j := fun j h0 => (congrFun eg1 j).trans ((va_up_ne _ _ h0).trans ((fun _ _ => rfl) j h0))
  exact W.vret hx hb hr (fun tZ ht hW => ⟨⟨g1, rfl, ⟨fg1_w, hfrg1⟩, by rw [ht]; exact hP, va_K.moved hW.alike hK, va_Nw.warmM hW hN⟩, hS.F ht⟩) hS.2.2 dX4_clear_5

set_option maxHeartbeats 4000000 in
set_option maxRecDepth 100000 in
/-- Text.clear -/
theorem mX3_clear (l : Launch) {D : va_G} {cI cJ cZ cW : ClassId} {ad : Nat → Nat} {A : Nat → Prop} (hD : ∀ g, va_D A (xw 81 ad g)) {g : Nat → va_E} {T : Nat}  (fo15 : g (15) = .inr (3, [.ref (ad (16)), .int (nI (T))]))  : Met l yX3_clear wsX3_clear ({ frames := 0, cells := 0, slots := 0, locals := 0 }) (va_Pc [.ref (ad (15))] (xB D (xT cI cJ cZ cW) ad g)) (va_Qv (fun g2 => g2 15 = .inr (3, [.ref (ad (16)), .int (nI (0))]) ∧ ∀ j : Nat, j ≠ 15 → g2 j = g j) (xB D (xT cI cJ cZ cW) ad) A) 0 0 A := by
  refine Met.ofW (cc := cX3_clear) (maxL := 1) (ret := none) (by decide) rfl ?_
  intro p e s m args below meth c s₁ B hml hv
  obtain ⟨rfl, hP, hK, hN⟩ := hv
  have hx := B.exec
  have hb := B.bytes
  have hr := B.returns
  have hts := atoms_spec (ws := wsX3_clear) B.pre
  have hown : s.vm.findClass RX3 = some m.cls := findClass_of_methodNamed B.named
  have hlocks := B.notSynchronized
  have hS : va_S A s.heap s.heap [] := va_S.rf
  have hin3 : ∀ w ∈ wsX30, w ∈ wsX3_clear := by decide +kernel
  have hf15 := hts (.fieldLink RX3 15 "LettersByLot$Text" "length" "I") (by decide +kernel)
  have hl := lv_entry ([.ref (ad (15))]) (n := 1) (Nat.le_of_ble_eq_true rfl)
  rw [lg_entry_eq]
  generalize (lg_sl ([.ref (ad (15))]) ++ List.replicate (1 - (lg_sl ([.ref (ad (15))])).length) Slot.unset).toArray = ls at hl ⊢
  have hl : lv_has ls 1 [(0, .ref (ad (15)))] := hl
  refine lv_aload_n hx hb dX3_clear_0 rfl (lv_at hl 0 rfl) ?_
  refine lv_iconst (v := nI (0)) hx hb dX3_clear_1 (by decide) ?_
  refine xw_put hx hb hts hin3 tyX3 tyX3_ok nmX3 hown hK hP hD hS (by decide) fo15 rfl 1 (by decide) hf15 rfl rfl (ty := .int) (by decide +kernel) rfl rfl (Nat.le_of_ble_eq_true rfl) (fs' := [.ref (ad (16)), .int (nI (0))]) rfl dX3_clear_2 (fun g1 H locs eg1 hP hS => ?_)
  have fg1_w : g1 (15) = .inr (3, [.ref (ad (16)), .int (nI (0))]) := (congrFun eg1 (15)).trans (va_up_self _ _ _)
  have hfrg1 : ∀ j : Nat, j ≠ 15 → g1 j = g j := fun j h0 => (congrFun eg1 j).trans ((va_up_ne _ _ h0).trans ((fun _ _ => rfl) j h0))
  exact W.vret hx hb hr (fun tZ ht hW => ⟨⟨g1, rfl, ⟨fg1_w, hfrg1⟩, by rw [ht]; exact hP, va_K.moved hW.alike hK, va_Nw.warmM hW hN⟩, hS.F ht⟩) hS.2.2 dX3_clear_5

set_option maxHeartbeats 4000000 in
set_option maxRecDepth 100000 in
/-- Text.append -/
theorem mX3_append_in (l : Launch) {D : va_G} {cI cJ cZ cW : ClassId} {ad : Nat → Nat} {A : Nat → Prop} (hD : ∀ g, va_D A (xw 81 ad g)) {g : Nat → va_E} {T : Nat} {lt : Int32} {f16 : Nat → Int32}  (fo15 : g (15) = .inr (3, [.ref (ad (16)), .int (nI (T))])) (fa16 : g (16) = .inl (cI, 300, .inl (f16))) (hT : T < 300) : Met l yX3_append wsX3_append ({ frames := 0, cells := 0, slots := 0, locals := 0 }) (va_Pc [.ref (ad (15)), .int (lt)] (xB D (xT cI cJ cZ cW) ad g)) (va_Qi (fun r g2 => r = nI 1 ∧ g2 15 = .inr (3, [.ref (ad (16)), .int (nI (T + 1))]) ∧ g2 16 = .inl (cI, 300, .inl (upd (f16) (T) (lt))) ∧ ∀ j : Nat, j ≠ 15 → j ≠ 16 → g2 j = g j) (xB D (xT cI cJ cZ cW) ad) A) 0 0 A := by
  refine Met.ofW (cc := cX3_append) (maxL := 2) (ret := (some .boolean)) (by decide) rfl ?_
  intro p e s m args below meth c s₁ B hml hv
  obtain ⟨rfl, hP, hK, hN⟩ := hv
  have hx := B.exec
  have hb := B.bytes
  have hr := B.returns
  have hts := atoms_spec (ws := wsX3_append) B.pre
  have hown : s.vm.findClass RX3 = some m.cls := findClass_of_methodNamed B.named
  have hlocks := B.notSynchronized
  have hS : va_S A s.heap s.heap [] := va_S.rf
  have hin3 : ∀ w ∈ wsX30, w ∈ wsX3_append := by decide +kernel
  have hf9 := hts (.fieldLink RX3 9 "LettersByLot$Text" "letters" "[I") (by decide +kernel)
  have hf15 := hts (.fieldLink RX3 15 "LettersByLot$Text" "length" "I") (by decide +kernel)
  have hl := lv_entry ([.ref (ad (15)), .int (lt)]) (n := 2) (Nat.le_of_ble_eq_true rfl)
  rw [lg_entry_eq]
  generalize (lg_sl ([.ref (ad (15)), .int (lt)]) ++ List.replicate (2 - (lg_sl ([.ref (ad (15)), .int (lt)])).length) Slot.unset).toArray = ls at hl ⊢
  have hl : lv_has ls 2 [(0, .ref (ad (15))), (1, .int (lt))] := hl
  refine lv_aload_n hx hb dX3_append_0 rfl (lv_at hl 0 rfl) ?_
  refine xw_get hx hb hts hin3 hown hK hP (by decide) fo15 rfl 1 (by decide) hf15 rfl rfl dX3_append_1 ?_
  refine lv_sipush (v := nI (300)) hx hb dX3_append_4 (by decide) ?_
  refine xi_icmp_lt (tgt := 12) hx hb (by omega) (by decide) dX3_append_7 (by decide) (fun c7_1 => ?_) (fun c7_1 => ?_)
  · refine lv_aload_n hx hb dX3_append_12 rfl (lv_at hl 0 rfl) ?_
    refine xw_get hx hb hts hin3 hown hK hP (by decide) fo15 rfl 0 (by decide) hf9 rfl rfl dX3_append_13 ?_
    refine lv_aload_n hx hb dX3_append_16 rfl (lv_at hl 0 rfl) ?_
    refine xw_get hx hb hts hin3 hown hK hP (by decide) fo15 rfl 1 (by decide) hf15 rfl rfl dX3_append_17 ?_
    refine lv_iload_n hx hb dX3_append_20 rfl (lv_at hl 1 rfl) ?_
    refine xw_iast hx hb hK hP hD hS (by decide) 0 fa16 rfl (by omega) (by decide) dX3_append_21 (fun g2 H locs eg2 hP hS => ?_)
    have fg2_0 : g2 (15) = .inr (3, [.ref (ad (16)), .int (nI (T))]) := (congrFun eg2 (15)).trans ((va_up_ne _ _ (by decide)).trans fo15)
    have fg2_w : g2 (16) = .inl (cI, 300, .inl (upd (f16) (T) (lt))) := (congrFun eg2 (16)).trans (va_up_self _ _ _)
    have hfrg2 : ∀ j : Nat, j ≠ 15 → j ≠ 16 → g2 j = g j := fun j h0 h1 => (congrFun eg2 j).trans ((va_up_ne _ _ h1).trans ((fun _ _ _ => rfl) j h0 h1))
    refine lv_aload_n hx hb dX3_append_22 rfl (lv_at hl 0 rfl) ?_
    refine lv_dup hx hb dX3_append_23 rfl ?_
    refine xw_get hx hb hts hin3 hown hK hP (by decide) fg2_0 rfl 1 (by decide) hf15 rfl rfl dX3_append_24 ?_
    refine lv_iconst (v := nI (1)) hx hb dX3_append_27 (by decide) ?_
    refine xi_add hx hb dX3_append_28 ?_
    refine xw_put hx hb hts hin3 tyX3 tyX3_ok nmX3 hown hK hP hD hS (by decide) fg2_0 rfl 1 (by decide) hf15 rfl rfl (ty := .int) (by decide +kernel) rfl rfl (Nat.le_of_ble_eq_true rfl) (fs' := [.ref (ad (16)), .int (nI (T + 1))]) rfl dX3_append_29 (fun g3 H locs eg3 hP hS => ?_)
    have fg3_0 : g3 (16) = .inl (cI, 300, .inl (upd (f16) (T) (lt))) := (congrFun eg3 (16)).trans ((va_up_ne _ _ (by decide)).trans fg2_w)
    have fg3_w : g3 (15) = .inr (3, [.ref (ad (16)), .int (nI (T + 1))]) := (congrFun eg3 (15)).trans (va_up_self _ _ _)
    have hfrg3 : ∀ j : Nat, j ≠ 15 → j ≠ 16 → g3 j = g j := fun j h0 h1 => (congrFun eg3 j).trans ((va_up_ne _ _ h0).trans (hfrg2 j h0 h1))
    refine lv_iconst (v := nI (1)) hx hb dX3_append_32 (by decide) ?_
    exact W.zret (v := nI (1)) hx hb hr (by decide) (fun tZ ht hW => ⟨⟨_, g3, rfl, ⟨rfl, fg3_w, fg3_0, hfrg3⟩, by rw [ht]; exact hP, va_K.moved hW.alike hK, va_Nw.warmM hW hN⟩, hS.F ht⟩) hS.2.2 dX3_append_33
  · exact absurd c7_1 (by omega)

set_option maxHeartbeats 4000000 in
set_option maxRecDepth 100000 in
/-- Text.append, full -/
theorem mX3_append_full (l : Launch) {D : va_G} {cI cJ cZ cW : ClassId} {ad : Nat → Nat} {g : Nat → va_E} {T : Nat} {lt : Int32}  (fo15 : g (15) = .inr (3, [.ref (ad (16)), .int (nI (T))])) (hT : T = 300) : Met l yX3_append wsX3_append ({ frames := 0, cells := 0, slots := 0, locals := 0 }) (va_Pc [.ref (ad (15)), .int (lt)] (xB D (xT cI cJ cZ cW) ad g)) (vp_Si (fun r => r = nI 0)) 0 0 (fun _ => False) := by
  refine Met.ofW (cc := cX3_append) (maxL := 2) (ret := (some .boolean)) (by decide) rfl ?_
  intro p e s m args below meth c s₁ B hml hv
  obtain ⟨rfl, hP, hK, hN⟩ := hv
  have hx := B.exec
  have hb := B.bytes
  have hr := B.returns
  have hts := atoms_spec (ws := wsX3_append) B.pre
  have hown : s.vm.findClass RX3 = some m.cls := findClass_of_methodNamed B.named
  have hlocks := B.notSynchronized
  have hin3 : ∀ w ∈ wsX30, w ∈ wsX3_append := by decide +kernel
  have hf15 := hts (.fieldLink RX3 15 "LettersByLot$Text" "length" "I") (by decide +kernel)
  have hl := lv_entry ([.ref (ad (15)), .int (lt)]) (n := 2) (Nat.le_of_ble_eq_true rfl)
  rw [lg_entry_eq]
  generalize (lg_sl ([.ref (ad (15)), .int (lt)]) ++ List.replicate (2 - (lg_sl ([.ref (ad (15)), .int (lt)])).length) Slot.unset).toArray = ls at hl ⊢
  have hl : lv_has ls 2 [(0, .ref (ad (15))), (1, .int (lt))] := hl
  refine lv_aload_n hx hb dX3_append_0 rfl (lv_at hl 0 rfl) ?_
  refine xw_get hx hb hts hin3 hown hK hP (by decide) fo15 rfl 1 (by decide) hf15 rfl rfl dX3_append_1 ?_
  refine lv_sipush (v := nI (300)) hx hb dX3_append_4 (by decide) ?_
  refine xi_icmp_lt (tgt := 12) hx hb (by omega) (by decide) dX3_append_7 (by decide) (fun c7_1 => ?_) (fun c7_1 => ?_)
  · exact absurd c7_1 (by omega)
  · refine lv_iconst (v := nI (0)) hx hb dX3_append_10 (by decide) ?_
    exact W.zret (v := nI (0)) hx hb hr (by decide) (fun tZ ht _ => ⟨_, rfl, rfl, ht⟩) (fun q hq => by cases hq) dX3_append_11

set_option maxHeartbeats 4000000 in
set_option maxRecDepth 100000 in
/-- Lot.heft -/
theorem mX0_heft (l : Launch) {D : va_G} {cI cJ cZ cW : ClassId} {ad : Nat → Nat} {g : Nat → va_E} {x0 : Int32}   : Met l yX0_heft wsX0_heft ({ frames := 0, cells := 0, slots := 0, locals := 0 }) (va_Pc [.int (x0)] (xB D (xT cI cJ cZ cW) ad g)) (vp_Si (fun r => r = nI (hf x0))) 0 0 (fun _ => False) := by
  refine Met.ofW (cc := cX0_heft) (maxL := 1) (ret := (some .int)) (by decide) rfl ?_
  intro p e s m args below meth c s₁ B hml hv
  obtain ⟨rfl, hP, hK, hN⟩ := hv
  have hx := B.exec
  have hb := B.bytes
  have hr := B.returns
  have hts := atoms_spec (ws := wsX0_heft) B.pre
  have hown : s.vm.findClass RX0 = some m.cls := findClass_of_methodNamed B.named
  have hlocks := B.notSynchronized
  have hl := lv_entry ([.int (x0)]) (n := 1) (Nat.le_of_ble_eq_true rfl)
  rw [lg_entry_eq]
  generalize (lg_sl ([.int (x0)]) ++ List.replicate (1 - (lg_sl ([.int (x0)])).length) Slot.unset).toArray = ls at hl ⊢
  have hl : lv_has ls 1 [(0, .int (x0))] := hl
  refine lv_iload_n hx hb dX0_heft_0 rfl (lv_at hl 0 rfl) ?_
  refine lv_iconst (v := nI (1)) hx hb dX0_heft_1 (by decide) ?_
  refine lv_icmp_lt (tgt := 14) hx hb dX0_heft_2 (by decide) (fun c2_1 => ?_) (fun c2_1 => ?_)
  · refine lv_iconst (v := nI (5)) hx hb dX0_heft_14 (by decide) ?_
    exact W.iret (v := nI (5)) hx hb hr (fun tZ ht _ => ⟨_, rfl, (by show _ = _; rw [hf_no (Or.inl c2_1)]), ht⟩) (fun q hq => by cases hq) dX0_heft_15
  · refine lv_iload_n hx hb dX0_heft_5 rfl (lv_at hl 0 rfl) ?_
    refine lv_iconst (v := nI (4)) hx hb dX0_heft_6 (by decide) ?_
    refine lv_icmp_gt (tgt := 14) hx hb dX0_heft_7 (by decide) (fun c7_2 => ?_) (fun c7_2 => ?_)
    · refine lv_iconst (v := nI (5)) hx hb dX0_heft_14 (by decide) ?_
      exact W.iret (v := nI (5)) hx hb hr (fun tZ ht _ => ⟨_, rfl, (by show _ = _; rw [hf_no (Or.inr c7_2)]), ht⟩) (fun q hq => by cases hq) dX0_heft_15
    · refine lv_iload_n hx hb dX0_heft_10 rfl (lv_at hl 0 rfl) ?_
      refine lv_goto (tgt := 15) hx hb dX0_heft_11 (by decide) ?_
      exact W.iret (v := x0) hx hb hr (fun tZ ht _ => ⟨_, rfl, (by show _ = _; rw [← hf_yes c2_1 c7_2]), ht⟩) (fun q hq => by cases hq) dX0_heft_15

set_option maxHeartbeats 4000000 in
set_option maxRecDepth 100000 in
/-- Lot.become, 2 letters -/
theorem mX0_become2 (l : Launch) {D : va_G} {cI cJ cZ cW : ClassId} {ad : Nat → Nat} {A : Nat → Prop} (hD : ∀ g, va_D A (xw 81 ad g)) {g : Nat → va_E} {q9 w9 xa xb xc xd : Int32} {f2 : Nat → Int32}  (fo_1 : g (1) = .inr (0, [.ref (ad (2)), .int (q9), .int (w9)])) (fa_2 : g (2) = .inl (cI, 4, .inl (f2)))  : Met l yX0_become wsX0_become ({ frames := 1, cells := 0, slots := 0, locals := 20 }) (va_Pc [.ref (ad (1)), .int (nI (2)), .int (xa), .int (xb), .int (xc), .int (xd)] (xB D (xT cI cJ cZ cW) ad g)) (va_Qi (fun r g2 => (r = nI 1 ∧ hf xa + hf xb + 0 + 0 ≤ 4 ∧ g2 1 = .inr (0, [.ref (ad (2)), .int (nI (2)), .int (nI (hf xa + hf xb + 0 + 0))]) ∧ g2 2 = .inl (cI, 4, .inl (upd (upd (upd (upd (f2) (0) (xa)) (1) (xb)) (2) (nI (0))) (3) (nI (0)))) ∧ ∀ j : Nat, j ≠ 1 → j ≠ 2 → g2 j = g j) ∨ (r = nI 0 ∧ 4 < hf xa + hf xb + 0 + 0 ∧ g2 = g)) (xB D (xT cI cJ cZ cW) ad) A) 0 0 A := by
  refine Met.ofW (cc := cX0_become) (maxL := 9) (ret := (some .boolean)) (by decide) rfl ?_
  intro p e s m args below meth c s₁ B hml hv
  obtain ⟨rfl, hP, hK, hN⟩ := hv
  have hx := B.exec
  have hb := B.bytes
  have hr := B.returns
  have hts := atoms_spec (ws := wsX0_become) B.pre
  have hown : s.vm.findClass RX0 = some m.cls := findClass_of_methodNamed B.named
  have hlocks := B.notSynchronized
  have hS : va_S A s.heap s.heap [] := va_S.rf
  have hin0 : ∀ w ∈ wsX00, w ∈ wsX0_become := by decide +kernel
  have hf9 := hts (.fieldLink RX0 9 "LettersByLot$Lot" "weights" "[I") (by decide +kernel)
  have hf15 := hts (.fieldLink RX0 15 "LettersByLot$Lot" "letters" "I") (by decide +kernel)
  have hf19 := hts (.fieldLink RX0 19 "LettersByLot$Lot" "total" "I") (by decide +kernel)
  have hl := lv_entry ([.ref (ad (1)), .int (nI (2)), .int (xa), .int (xb), .int (xc), .int (xd)]) (n := 9) (Nat.le_of_ble_eq_true rfl)
  rw [lg_entry_eq]
  generalize (lg_sl ([.ref (ad (1)), .int (nI (2)), .int (xa), .int (xb), .int (xc), .int (xd)]) ++ List.replicate (9 - (lg_sl ([.ref (ad (1)), .int (nI (2)), .int (xa), .int (xb), .int (xc), .int (xd)])).length) Slot.unset).toArray = ls at hl ⊢
  have hl : lv_has ls 9 [(0, .ref (ad (1))), (1, .int (nI (2))), (2, .int (xa)), (3, .int (xb)), (4, .int (xc)), (5, .int (xd))] := hl
  refine lv_iload_n hx hb dX0_become_0 rfl (lv_at hl 1 rfl) ?_
  refine lv_iconst (v := nI (2)) hx hb dX0_become_1 (by decide) ?_
  refine xi_icmp_lt (tgt := 10) hx hb (by decide) (by decide) dX0_become_2 (by decide) (fun c0 => absurd c0 (by decide)) (fun _ => ?_)
  refine lv_iload_n hx hb dX0_become_5 rfl (lv_at hl 1 rfl) ?_
  refine lv_iconst (v := nI (4)) hx hb dX0_become_6 (by decide) ?_
  refine xi_icmp_le (tgt := 12) hx hb (by decide) (by decide) dX0_become_7 (by decide) (fun _ => ?_) (fun c0 => absurd c0 (by decide))
  refine lv_iload_n hx hb dX0_become_12 rfl (lv_at hl 1 rfl) ?_
  refine lv_iconst (v := nI (2)) hx hb dX0_become_13 (by decide) ?_
  refine xi_icmp_le (tgt := 22) hx hb (by decide) (by decide) dX0_become_14 (by decide) (fun _ => ?_) (fun c0 => absurd c0 (by decide))
  refine lv_iconst (v := nI (0)) hx hb dX0_become_22 (by decide) ?_
  refine lv_istore (lv' := [(6, .int (nI (0))), (0, .ref (ad (1))), (1, .int (nI (2))), (2, .int (xa)), (3, .int (xb)), (4, .int (xc)), (5, .int (xd))]) hx hb dX0_become_23 hl (by decide) rfl (fun ls hl => ?_)
  refine lv_iload_n hx hb dX0_become_25 rfl (lv_at hl 2 rfl) ?_
  refine lv_iconst (v := nI (3)) hx hb dX0_become_26 (by decide) ?_
  refine xi_icmp_le (tgt := 35) hx hb (by decide) (by decide) dX0_become_27 (by decide) (fun _ => ?_) (fun c0 => absurd c0 (by decide))
  refine lv_iconst (v := nI (0)) hx hb dX0_become_35 (by decide) ?_
  refine lv_istore (lv' := [(7, .int (nI (0))), (6, .int (nI (0))), (0, .ref (ad (1))), (1, .int (nI (2))), (2, .int (xa)), (3, .int (xb)), (4, .int (xc)), (5, .int (xd))]) hx hb dX0_become_36 hl (by decide) rfl (fun ls hl => ?_)
  refine lv_iload_n hx hb dX0_become_38 rfl (lv_at hl 4 rfl) ?_
  refine vp_callSi (va_Run.run (va_runS (As := [.int (xa)]) (rest := []) ⟨hx, hb, hml, hown, hts⟩ (mX0_heft l (x0 := xa)) (va_cwS 1 hts gX0_become_X0_heft rfl rfl rfl (by decide +kernel) ⟨Nat.le_of_ble_eq_true rfl, Nat.le_of_ble_eq_true rfl⟩) ⟨xB_blind, fun U hU hW => ⟨rfl, by rw [hU]; exact hP, va_K.moved hW.alike hK, va_Nw.warmM hW hN⟩⟩ rfl rfl hl.1 rfl (lv_room (Nat.le_of_ble_eq_true rfl)) dX0_become_39 ⟨Nat.le_of_ble_eq_true rfl, Nat.le_of_ble_eq_true rfl⟩)) (fun r5 er5 => ?_)
  subst er5
  refine lv_iload_n hx hb dX0_become_42 rfl (lv_at hl 5 rfl) ?_
  refine vp_callSi (va_Run.run (va_runS (As := [.int (xb)]) (rest := [.int (nI (hf (xa)))]) ⟨hx, hb, hml, hown, hts⟩ (mX0_heft l (x0 := xb)) (va_cwS 1 hts gX0_become_X0_heft rfl rfl rfl (by decide +kernel) ⟨Nat.le_of_ble_eq_true rfl, Nat.le_of_ble_eq_true rfl⟩) ⟨xB_blind, fun U hU hW => ⟨rfl, by rw [hU]; exact hP, va_K.moved hW.alike hK, va_Nw.warmM hW hN⟩⟩ rfl rfl hl.1 rfl (lv_room (Nat.le_of_ble_eq_true rfl)) dX0_become_43 ⟨Nat.le_of_ble_eq_true rfl, Nat.le_of_ble_eq_true rfl⟩)) (fun r6 er6 => ?_)
  subst er6
  refine xi_add hx hb dX0_become_46 ?_
  refine lv_istore (lv' := [(8, .int (nI ((hf (xa)) + (hf (xb))))), (7, .int (nI (0))), (6, .int (nI (0))), (0, .ref (ad (1))), (1, .int (nI (2))), (2, .int (xa)), (3, .int (xb)), (4, .int (xc)), (5, .int (xd))]) hx hb dX0_become_47 hl (by decide) rfl (fun ls hl => ?_)
  refine lv_iload hx hb dX0_become_49 (lv_at hl 0 rfl) ?_
  refine lv_iload_n hx hb dX0_become_51 rfl (lv_at hl 4 rfl) ?_
  refine lv_iconst (v := nI (2)) hx hb dX0_become_52 (by decide) ?_
  refine xi_icmp_le (tgt := 64) hx hb (by decide) (by decide) dX0_become_53 (by decide) (fun _ => ?_) (fun c0 => absurd c0 (by decide))
  refine lv_iconst (v := nI (0)) hx hb dX0_become_64 (by decide) ?_
  refine xi_add hx hb dX0_become_65 ?_
  refine lv_istore (lv' := [(8, .int (nI (((hf (xa)) + (hf (xb))) + 0))), (7, .int (nI (0))), (6, .int (nI (0))), (0, .ref (ad (1))), (1, .int (nI (2))), (2, .int (xa)), (3, .int (xb)), (4, .int (xc)), (5, .int (xd))]) hx hb dX0_become_66 hl (by decide) rfl (fun ls hl => ?_)
  refine lv_iload hx hb dX0_become_68 (lv_at hl 0 rfl) ?_
  refine lv_iload_n hx hb dX0_become_70 rfl (lv_at hl 4 rfl) ?_
  refine lv_iconst (v := nI (3)) hx hb dX0_become_71 (by decide) ?_
  refine xi_icmp_le (tgt := 83) hx hb (by decide) (by decide) dX0_become_72 (by decide) (fun _ => ?_) (fun c0 => absurd c0 (by decide))
  refine lv_iconst (v := nI (0)) hx hb dX0_become_83 (by decide) ?_
  refine xi_add hx hb dX0_become_84 ?_
  refine lv_istore (lv' := [(8, .int (nI ((((hf (xa)) + (hf (xb))) + 0) + 0))), (7, .int (nI (0))), (6, .int (nI (0))), (0, .ref (ad (1))), (1, .int (nI (2))), (2, .int (xa)), (3, .int (xb)), (4, .int (xc)), (5, .int (xd))]) hx hb dX0_become_85 hl (by decide) rfl (fun ls hl => ?_)
  refine lv_iload hx hb dX0_become_87 (lv_at hl 0 rfl) ?_
  refine lv_iconst (v := nI (4)) hx hb dX0_become_89 (by decide) ?_
  refine xi_icmp_le (tgt := 95) hx hb (by have := hf_le xa; have := hf_le xb; have := hf_le xc; have := hf_le xd; omega) (by decide) dX0_become_90 (by decide) (fun c90_9 => ?_) (fun c90_9 => ?_)
  · refine lv_aload_n hx hb dX0_become_95 rfl (lv_at hl 3 rfl) ?_
    refine xw_get hx hb hts hin0 hown hK hP (by decide) fo_1 rfl 0 (by decide) hf9 rfl rfl dX0_become_96 ?_
    refine lv_iconst (v := nI (0)) hx hb dX0_become_99 (by decide) ?_
    refine lv_iload_n hx hb dX0_become_100 rfl (lv_at hl 5 rfl) ?_
    refine xw_iast hx hb hK hP hD hS (by decide) 0 fa_2 rfl (by omega) (by decide) dX0_become_101 (fun g10 H locs eg10 hP hS => ?_)
    have fg10_0 : g10 (1) = .inr (0, [.ref (ad (2)), .int (q9), .int (w9)]) := (congrFun eg10 (1)).trans ((va_up_ne _ _ (by decide)).trans fo_1)
    have fg10_w : g10 (2) = .inl (cI, 4, .inl (upd (f2) (0) (xa))) := (congrFun eg10 (2)).trans (va_up_self _ _ _)
    have hfrg10 : ∀ j : Nat, j ≠ 1 → j ≠ 2 → g10 j = g j := fun j h0 h1 => (congrFun eg10 j).trans ((va_up_ne _ _ h1).trans ((fun _ _ _ => rfl) j h0 h1))
    refine lv_aload_n hx hb dX0_become_102 rfl (lv_at hl 3 rfl) ?_
    refine xw_get hx hb hts hin0 hown hK hP (by decide) fg10_0 rfl 0 (by decide) hf9 rfl rfl dX0_become_103 ?_
    refine lv_iconst (v := nI (1)) hx hb dX0_become_106 (by decide) ?_
    refine lv_iload_n hx hb dX0_become_107 rfl (lv_at hl 6 rfl) ?_
    refine xw_iast hx hb hK hP hD hS (by decide) 0 fg10_w rfl (by omega) (by decide) dX0_become_108 (fun g11 H locs eg11 hP hS => ?_)
    have fg11_0 : g11 (1) = .inr (0, [.ref (ad (2)), .int (q9), .int (w9)]) := (congrFun eg11 (1)).trans ((va_up_ne _ _ (by decide)).trans fg10_0)
    have fg11_w : g11 (2) = .inl (cI, 4, .inl (upd (upd (f2) (0) (xa)) (1) (xb))) := (congrFun eg11 (2)).trans (va_up_self _ _ _)
    have hfrg11 : ∀ j : Nat, j ≠ 1 → j ≠ 2 → g11 j = g j := fun j h0 h1 => (congrFun eg11 j).trans ((va_up_ne _ _ h1).trans (hfrg10 j h0 h1))
    refine lv_aload_n hx hb dX0_become_109 rfl (lv_at hl 3 rfl) ?_
    refine xw_get hx hb hts hin0 hown hK hP (by decide) fg11_0 rfl 0 (by decide) hf9 rfl rfl dX0_become_110 ?_
    refine lv_iconst (v := nI (2)) hx hb dX0_become_113 (by decide) ?_
    refine lv_iload hx hb dX0_become_114 (lv_at hl 2 rfl) ?_
    refine xw_iast hx hb hK hP hD hS (by decide) 0 fg11_w rfl (by omega) (by decide) dX0_become_116 (fun g12 H locs eg12 hP hS => ?_)
    have fg12_0 : g12 (1) = .inr (0, [.ref (ad (2)), .int (q9), .int (w9)]) := (congrFun eg12 (1)).trans ((va_up_ne _ _ (by decide)).trans fg11_0)
    have fg12_w : g12 (2) = .inl (cI, 4, .inl (upd (upd (upd (f2) (0) (xa)) (1) (xb)) (2) (nI (0)))) := (congrFun eg12 (2)).trans (va_up_self _ _ _)
    have hfrg12 : ∀ j : Nat, j ≠ 1 → j ≠ 2 → g12 j = g j := fun j h0 h1 => (congrFun eg12 j).trans ((va_up_ne _ _ h1).trans (hfrg11 j h0 h1))
    refine lv_aload_n hx hb dX0_become_117 rfl (lv_at hl 3 rfl) ?_
    refine xw_get hx hb hts hin0 hown hK hP (by decide) fg12_0 rfl 0 (by decide) hf9 rfl rfl dX0_become_118 ?_
    refine lv_iconst (v := nI (3)) hx hb dX0_become_121 (by decide) ?_
    refine lv_iload hx hb dX0_become_122 (lv_at hl 1 rfl) ?_
    refine xw_iast hx hb hK hP hD hS (by decide) 0 fg12_w rfl (by omega) (by decide) dX0_become_124 (fun g13 H locs eg13 hP hS => ?_)
    have fg13_0 : g13 (1) = .inr (0, [.ref (ad (2)), .int (q9), .int (w9)]) := (congrFun eg13 (1)).trans ((va_up_ne _ _ (by decide)).trans fg12_0)
    have fg13_w : g13 (2) = .inl (cI, 4, .inl (upd (upd (upd (upd (f2) (0) (xa)) (1) (xb)) (2) (nI (0))) (3) (nI (0)))) := (congrFun eg13 (2)).trans (va_up_self _ _ _)
    have hfrg13 : ∀ j : Nat, j ≠ 1 → j ≠ 2 → g13 j = g j := fun j h0 h1 => (congrFun eg13 j).trans ((va_up_ne _ _ h1).trans (hfrg12 j h0 h1))
    refine lv_aload_n hx hb dX0_become_125 rfl (lv_at hl 3 rfl) ?_
    refine lv_iload_n hx hb dX0_become_126 rfl (lv_at hl 4 rfl) ?_
    refine xw_put hx hb hts hin0 tyX0 tyX0_ok nmX0 hown hK hP hD hS (by decide) fg13_0 rfl 1 (by decide) hf15 rfl rfl (ty := .int) (by decide +kernel) rfl rfl (Nat.le_of_ble_eq_true rfl) (fs' := [.ref (ad (2)), .int (nI (2)), .int (w9)]) rfl dX0_become_127 (fun g14 H locs eg14 hP hS => ?_)
    have fg14_0 : g14 (2) = .inl (cI, 4, .inl (upd (upd (upd (upd (f2) (0) (xa)) (1) (xb)) (2) (nI (0))) (3) (nI (0)))) := (congrFun eg14 (2)).trans ((va_up_ne _ _ (by decide)).trans fg13_w)
    have fg14_w : g14 (1) = .inr (0, [.ref (ad (2)), .int (nI (2)), .int (w9)]) := (congrFun eg14 (1)).trans (va_up_self _ _ _)
    have hfrg14 : ∀ j : Nat, j ≠ 1 → j ≠ 2 → g14 j = g j := fun j h0 h1 => (congrFun eg14 j).trans ((va_up_ne _ _ h0).trans (hfrg13 j h0 h1))
    refine lv_aload_n hx hb dX0_become_130 rfl (lv_at hl 3 rfl) ?_
    refine lv_iload hx hb dX0_become_131 (lv_at hl 0 rfl) ?_
    refine xw_put hx hb hts hin0 tyX0 tyX0_ok nmX0 hown hK hP hD hS (by decide) fg14_w rfl 2 (by decide) hf19 rfl rfl (ty := .int) (by decide +kernel) rfl rfl (Nat.le_of_ble_eq_true rfl) (fs' := [.ref (ad (2)), .int (nI (2)), .int (nI ((((hf (xa)) + (hf (xb))) + 0) + 0))]) rfl dX0_become_133 (fun g15 H locs eg15 hP hS => ?_)
    have fg15_0 : g15 (2) = .inl (cI, 4, .inl (upd (upd (upd (upd (f2) (0) (xa)) (1) (xb)) (2) (nI (0))) (3) (nI (0)))) := (congrFun eg15 (2)).trans ((va_up_ne _ _ (by decide)).trans fg14_0)
    have fg15_w : g15 (1) = .inr (0, [.ref (ad (2)), .int (nI (2)), .int (nI ((((hf (xa)) + (hf (xb))) + 0) + 0))]) := (congrFun eg15 (1)).trans (va_up_self _ _ _)
    have hfrg15 : ∀ j : Nat, j ≠ 1 → j ≠ 2 → g15 j = g j := fun j h0 h1 => (congrFun eg15 j).trans ((va_up_ne _ _ h0).trans (hfrg14 j h0 h1))
    refine lv_iconst (v := nI (1)) hx hb dX0_become_136 (by decide) ?_
    exact W.zret (v := nI (1)) hx hb hr (by decide) (fun tZ ht hW => ⟨⟨_, g15, rfl, Or.inl ⟨rfl, by omega, fg15_w, fg15_0, hfrg15⟩, by rw [ht]; exact hP, va_K.moved hW.alike hK, va_Nw.warmM hW hN⟩, hS.F ht⟩) hS.2.2 dX0_become_137
  · refine lv_iconst (v := nI (0)) hx hb dX0_become_93 (by decide) ?_
    exact W.zret (v := nI (0)) hx hb hr (by decide) (fun tZ ht hW => ⟨⟨_, g, rfl, Or.inr ⟨rfl, by omega, rfl⟩, by rw [ht]; exact hP, va_K.moved hW.alike hK, va_Nw.warmM hW hN⟩, hS.F ht⟩) hS.2.2 dX0_become_94

set_option maxHeartbeats 4000000 in
set_option maxRecDepth 100000 in
/-- Lot.become, 3 letters -/
theorem mX0_become3 (l : Launch) {D : va_G} {cI cJ cZ cW : ClassId} {ad : Nat → Nat} {A : Nat → Prop} (hD : ∀ g, va_D A (xw 81 ad g)) {g : Nat → va_E} {q9 w9 xa xb xc xd : Int32} {f2 : Nat → Int32}  (fo_1 : g (1) = .inr (0, [.ref (ad (2)), .int (q9), .int (w9)])) (fa_2 : g (2) = .inl (cI, 4, .inl (f2)))  : Met l yX0_become wsX0_become ({ frames := 1, cells := 0, slots := 0, locals := 20 }) (va_Pc [.ref (ad (1)), .int (nI (3)), .int (xa), .int (xb), .int (xc), .int (xd)] (xB D (xT cI cJ cZ cW) ad g)) (va_Qi (fun r g2 => (r = nI 1 ∧ hf xa + hf xb + hf xc + 0 ≤ 4 ∧ g2 1 = .inr (0, [.ref (ad (2)), .int (nI (3)), .int (nI (hf xa + hf xb + hf xc + 0))]) ∧ g2 2 = .inl (cI, 4, .inl (upd (upd (upd (upd (f2) (0) (xa)) (1) (xb)) (2) (xc)) (3) (nI (0)))) ∧ ∀ j : Nat, j ≠ 1 → j ≠ 2 → g2 j = g j) ∨ (r = nI 0 ∧ 4 < hf xa + hf xb + hf xc + 0 ∧ g2 = g)) (xB D (xT cI cJ cZ cW) ad) A) 0 0 A := by
  refine Met.ofW (cc := cX0_become) (maxL := 9) (ret := (some .boolean)) (by decide) rfl ?_
  intro p e s m args below meth c s₁ B hml hv
  obtain ⟨rfl, hP, hK, hN⟩ := hv
  have hx := B.exec
  have hb := B.bytes
  have hr := B.returns
  have hts := atoms_spec (ws := wsX0_become) B.pre
  have hown : s.vm.findClass RX0 = some m.cls := findClass_of_methodNamed B.named
  have hlocks := B.notSynchronized
  have hS : va_S A s.heap s.heap [] := va_S.rf
  have hin0 : ∀ w ∈ wsX00, w ∈ wsX0_become := by decide +kernel
  have hf9 := hts (.fieldLink RX0 9 "LettersByLot$Lot" "weights" "[I") (by decide +kernel)
  have hf15 := hts (.fieldLink RX0 15 "LettersByLot$Lot" "letters" "I") (by decide +kernel)
  have hf19 := hts (.fieldLink RX0 19 "LettersByLot$Lot" "total" "I") (by decide +kernel)
  have hl := lv_entry ([.ref (ad (1)), .int (nI (3)), .int (xa), .int (xb), .int (xc), .int (xd)]) (n := 9) (Nat.le_of_ble_eq_true rfl)
  rw [lg_entry_eq]
  generalize (lg_sl ([.ref (ad (1)), .int (nI (3)), .int (xa), .int (xb), .int (xc), .int (xd)]) ++ List.replicate (9 - (lg_sl ([.ref (ad (1)), .int (nI (3)), .int (xa), .int (xb), .int (xc), .int (xd)])).length) Slot.unset).toArray = ls at hl ⊢
  have hl : lv_has ls 9 [(0, .ref (ad (1))), (1, .int (nI (3))), (2, .int (xa)), (3, .int (xb)), (4, .int (xc)), (5, .int (xd))] := hl
  refine lv_iload_n hx hb dX0_become_0 rfl (lv_at hl 1 rfl) ?_
  refine lv_iconst (v := nI (2)) hx hb dX0_become_1 (by decide) ?_
  refine xi_icmp_lt (tgt := 10) hx hb (by decide) (by decide) dX0_become_2 (by decide) (fun c0 => absurd c0 (by decide)) (fun _ => ?_)
  refine lv_iload_n hx hb dX0_become_5 rfl (lv_at hl 1 rfl) ?_
  refine lv_iconst (v := nI (4)) hx hb dX0_become_6 (by decide) ?_
  refine xi_icmp_le (tgt := 12) hx hb (by decide) (by decide) dX0_become_7 (by decide) (fun _ => ?_) (fun c0 => absurd c0 (by decide))
  refine lv_iload_n hx hb dX0_become_12 rfl (lv_at hl 1 rfl) ?_
  refine lv_iconst (v := nI (2)) hx hb dX0_become_13 (by decide) ?_
  refine xi_icmp_le (tgt := 22) hx hb (by decide) (by decide) dX0_become_14 (by decide) (fun c0 => absurd c0 (by decide)) (fun _ => ?_)
  refine lv_iload hx hb dX0_become_17 (lv_at hl 4 rfl) ?_
  refine lv_goto (tgt := 23) hx hb dX0_become_19 (by decide) ?_
  refine lv_istore (lv' := [(6, .int (xc)), (0, .ref (ad (1))), (1, .int (nI (3))), (2, .int (xa)), (3, .int (xb)), (4, .int (xc)), (5, .int (xd))]) hx hb dX0_become_23 hl (by decide) rfl (fun ls hl => ?_)
  refine lv_iload_n hx hb dX0_become_25 rfl (lv_at hl 2 rfl) ?_
  refine lv_iconst (v := nI (3)) hx hb dX0_become_26 (by decide) ?_
  refine xi_icmp_le (tgt := 35) hx hb (by decide) (by decide) dX0_become_27 (by decide) (fun _ => ?_) (fun c0 => absurd c0 (by decide))
  refine lv_iconst (v := nI (0)) hx hb dX0_become_35 (by decide) ?_
  refine lv_istore (lv' := [(7, .int (nI (0))), (6, .int (xc)), (0, .ref (ad (1))), (1, .int (nI (3))), (2, .int (xa)), (3, .int (xb)), (4, .int (xc)), (5, .int (xd))]) hx hb dX0_become_36 hl (by decide) rfl (fun ls hl => ?_)
  refine lv_iload_n hx hb dX0_become_38 rfl (lv_at hl 4 rfl) ?_
  refine vp_callSi (va_Run.run (va_runS (As := [.int (xa)]) (rest := []) ⟨hx, hb, hml, hown, hts⟩ (mX0_heft l (x0 := xa)) (va_cwS 1 hts gX0_become_X0_heft rfl rfl rfl (by decide +kernel) ⟨Nat.le_of_ble_eq_true rfl, Nat.le_of_ble_eq_true rfl⟩) ⟨xB_blind, fun U hU hW => ⟨rfl, by rw [hU]; exact hP, va_K.moved hW.alike hK, va_Nw.warmM hW hN⟩⟩ rfl rfl hl.1 rfl (lv_room (Nat.le_of_ble_eq_true rfl)) dX0_become_39 ⟨Nat.le_of_ble_eq_true rfl, Nat.le_of_ble_eq_true rfl⟩)) (fun r5 er5 => ?_)
  subst er5
  refine lv_iload_n hx hb dX0_become_42 rfl (lv_at hl 5 rfl) ?_
  refine vp_callSi (va_Run.run (va_runS (As := [.int (xb)]) (rest := [.int (nI (hf (xa)))]) ⟨hx, hb, hml, hown, hts⟩ (mX0_heft l (x0 := xb)) (va_cwS 1 hts gX0_become_X0_heft rfl rfl rfl (by decide +kernel) ⟨Nat.le_of_ble_eq_true rfl, Nat.le_of_ble_eq_true rfl⟩) ⟨xB_blind, fun U hU hW => ⟨rfl, by rw [hU]; exact hP, va_K.moved hW.alike hK, va_Nw.warmM hW hN⟩⟩ rfl rfl hl.1 rfl (lv_room (Nat.le_of_ble_eq_true rfl)) dX0_become_43 ⟨Nat.le_of_ble_eq_true rfl, Nat.le_of_ble_eq_true rfl⟩)) (fun r6 er6 => ?_)
  subst er6
  refine xi_add hx hb dX0_become_46 ?_
  refine lv_istore (lv' := [(8, .int (nI ((hf (xa)) + (hf (xb))))), (7, .int (nI (0))), (6, .int (xc)), (0, .ref (ad (1))), (1, .int (nI (3))), (2, .int (xa)), (3, .int (xb)), (4, .int (xc)), (5, .int (xd))]) hx hb dX0_become_47 hl (by decide) rfl (fun ls hl => ?_)
  refine lv_iload hx hb dX0_become_49 (lv_at hl 0 rfl) ?_
  refine lv_iload_n hx hb dX0_become_51 rfl (lv_at hl 4 rfl) ?_
  refine lv_iconst (v := nI (2)) hx hb dX0_become_52 (by decide) ?_
  refine xi_icmp_le (tgt := 64) hx hb (by decide) (by decide) dX0_become_53 (by decide) (fun c0 => absurd c0 (by decide)) (fun _ => ?_)
  refine lv_iload hx hb dX0_become_56 (lv_at hl 2 rfl) ?_
  refine vp_callSi (va_Run.run (va_runS (As := [.int (xc)]) (rest := [.int (nI ((hf (xa)) + (hf (xb))))]) ⟨hx, hb, hml, hown, hts⟩ (mX0_heft l (x0 := xc)) (va_cwS 1 hts gX0_become_X0_heft rfl rfl rfl (by decide +kernel) ⟨Nat.le_of_ble_eq_true rfl, Nat.le_of_ble_eq_true rfl⟩) ⟨xB_blind, fun U hU hW => ⟨rfl, by rw [hU]; exact hP, va_K.moved hW.alike hK, va_Nw.warmM hW hN⟩⟩ rfl rfl hl.1 rfl (lv_room (Nat.le_of_ble_eq_true rfl)) dX0_become_58 ⟨Nat.le_of_ble_eq_true rfl, Nat.le_of_ble_eq_true rfl⟩)) (fun r8 er8 => ?_)
  subst er8
  refine lv_goto (tgt := 65) hx hb dX0_become_61 (by decide) ?_
  refine xi_add hx hb dX0_become_65 ?_
  refine lv_istore (lv' := [(8, .int (nI (((hf (xa)) + (hf (xb))) + (hf (xc))))), (7, .int (nI (0))), (6, .int (xc)), (0, .ref (ad (1))), (1, .int (nI (3))), (2, .int (xa)), (3, .int (xb)), (4, .int (xc)), (5, .int (xd))]) hx hb dX0_become_66 hl (by decide) rfl (fun ls hl => ?_)
  refine lv_iload hx hb dX0_become_68 (lv_at hl 0 rfl) ?_
  refine lv_iload_n hx hb dX0_become_70 rfl (lv_at hl 4 rfl) ?_
  refine lv_iconst (v := nI (3)) hx hb dX0_become_71 (by decide) ?_
  refine xi_icmp_le (tgt := 83) hx hb (by decide) (by decide) dX0_become_72 (by decide) (fun _ => ?_) (fun c0 => absurd c0 (by decide))
  refine lv_iconst (v := nI (0)) hx hb dX0_become_83 (by decide) ?_
  refine xi_add hx hb dX0_become_84 ?_
  refine lv_istore (lv' := [(8, .int (nI ((((hf (xa)) + (hf (xb))) + (hf (xc))) + 0))), (7, .int (nI (0))), (6, .int (xc)), (0, .ref (ad (1))), (1, .int (nI (3))), (2, .int (xa)), (3, .int (xb)), (4, .int (xc)), (5, .int (xd))]) hx hb dX0_become_85 hl (by decide) rfl (fun ls hl => ?_)
  refine lv_iload hx hb dX0_become_87 (lv_at hl 0 rfl) ?_
  refine lv_iconst (v := nI (4)) hx hb dX0_become_89 (by decide) ?_
  refine xi_icmp_le (tgt := 95) hx hb (by have := hf_le xa; have := hf_le xb; have := hf_le xc; have := hf_le xd; omega) (by decide) dX0_become_90 (by decide) (fun c90_10 => ?_) (fun c90_10 => ?_)
  · refine lv_aload_n hx hb dX0_become_95 rfl (lv_at hl 3 rfl) ?_
    refine xw_get hx hb hts hin0 hown hK hP (by decide) fo_1 rfl 0 (by decide) hf9 rfl rfl dX0_become_96 ?_
    refine lv_iconst (v := nI (0)) hx hb dX0_become_99 (by decide) ?_
    refine lv_iload_n hx hb dX0_become_100 rfl (lv_at hl 5 rfl) ?_
    refine xw_iast hx hb hK hP hD hS (by decide) 0 fa_2 rfl (by omega) (by decide) dX0_become_101 (fun g11 H locs eg11 hP hS => ?_)
    have fg11_0 : g11 (1) = .inr (0, [.ref (ad (2)), .int (q9), .int (w9)]) := (congrFun eg11 (1)).trans ((va_up_ne _ _ (by decide)).trans fo_1)
    have fg11_w : g11 (2) = .inl (cI, 4, .inl (upd (f2) (0) (xa))) := (congrFun eg11 (2)).trans (va_up_self _ _ _)
    have hfrg11 : ∀ j : Nat, j ≠ 1 → j ≠ 2 → g11 j = g j := fun j h0 h1 => (congrFun eg11 j).trans ((va_up_ne _ _ h1).trans ((fun _ _ _ => rfl) j h0 h1))
    refine lv_aload_n hx hb dX0_become_102 rfl (lv_at hl 3 rfl) ?_
    refine xw_get hx hb hts hin0 hown hK hP (by decide) fg11_0 rfl 0 (by decide) hf9 rfl rfl dX0_become_103 ?_
    refine lv_iconst (v := nI (1)) hx hb dX0_become_106 (by decide) ?_
    refine lv_iload_n hx hb dX0_become_107 rfl (lv_at hl 6 rfl) ?_
    refine xw_iast hx hb hK hP hD hS (by decide) 0 fg11_w rfl (by omega) (by decide) dX0_become_108 (fun g12 H locs eg12 hP hS => ?_)
    have fg12_0 : g12 (1) = .inr (0, [.ref (ad (2)), .int (q9), .int (w9)]) := (congrFun eg12 (1)).trans ((va_up_ne _ _ (by decide)).trans fg11_0)
    have fg12_w : g12 (2) = .inl (cI, 4, .inl (upd (upd (f2) (0) (xa)) (1) (xb))) := (congrFun eg12 (2)).trans (va_up_self _ _ _)
    have hfrg12 : ∀ j : Nat, j ≠ 1 → j ≠ 2 → g12 j = g j := fun j h0 h1 => (congrFun eg12 j).trans ((va_up_ne _ _ h1).trans (hfrg11 j h0 h1))
    refine lv_aload_n hx hb dX0_become_109 rfl (lv_at hl 3 rfl) ?_
    refine xw_get hx hb hts hin0 hown hK hP (by decide) fg12_0 rfl 0 (by decide) hf9 rfl rfl dX0_become_110 ?_
    refine lv_iconst (v := nI (2)) hx hb dX0_become_113 (by decide) ?_
    refine lv_iload hx hb dX0_become_114 (lv_at hl 2 rfl) ?_
    refine xw_iast hx hb hK hP hD hS (by decide) 0 fg12_w rfl (by omega) (by decide) dX0_become_116 (fun g13 H locs eg13 hP hS => ?_)
    have fg13_0 : g13 (1) = .inr (0, [.ref (ad (2)), .int (q9), .int (w9)]) := (congrFun eg13 (1)).trans ((va_up_ne _ _ (by decide)).trans fg12_0)
    have fg13_w : g13 (2) = .inl (cI, 4, .inl (upd (upd (upd (f2) (0) (xa)) (1) (xb)) (2) (xc))) := (congrFun eg13 (2)).trans (va_up_self _ _ _)
    have hfrg13 : ∀ j : Nat, j ≠ 1 → j ≠ 2 → g13 j = g j := fun j h0 h1 => (congrFun eg13 j).trans ((va_up_ne _ _ h1).trans (hfrg12 j h0 h1))
    refine lv_aload_n hx hb dX0_become_117 rfl (lv_at hl 3 rfl) ?_
    refine xw_get hx hb hts hin0 hown hK hP (by decide) fg13_0 rfl 0 (by decide) hf9 rfl rfl dX0_become_118 ?_
    refine lv_iconst (v := nI (3)) hx hb dX0_become_121 (by decide) ?_
    refine lv_iload hx hb dX0_become_122 (lv_at hl 1 rfl) ?_
    refine xw_iast hx hb hK hP hD hS (by decide) 0 fg13_w rfl (by omega) (by decide) dX0_become_124 (fun g14 H locs eg14 hP hS => ?_)
    have fg14_0 : g14 (1) = .inr (0, [.ref (ad (2)), .int (q9), .int (w9)]) := (congrFun eg14 (1)).trans ((va_up_ne _ _ (by decide)).trans fg13_0)
    have fg14_w : g14 (2) = .inl (cI, 4, .inl (upd (upd (upd (upd (f2) (0) (xa)) (1) (xb)) (2) (xc)) (3) (nI (0)))) := (congrFun eg14 (2)).trans (va_up_self _ _ _)
    have hfrg14 : ∀ j : Nat, j ≠ 1 → j ≠ 2 → g14 j = g j := fun j h0 h1 => (congrFun eg14 j).trans ((va_up_ne _ _ h1).trans (hfrg13 j h0 h1))
    refine lv_aload_n hx hb dX0_become_125 rfl (lv_at hl 3 rfl) ?_
    refine lv_iload_n hx hb dX0_become_126 rfl (lv_at hl 4 rfl) ?_
    refine xw_put hx hb hts hin0 tyX0 tyX0_ok nmX0 hown hK hP hD hS (by decide) fg14_0 rfl 1 (by decide) hf15 rfl rfl (ty := .int) (by decide +kernel) rfl rfl (Nat.le_of_ble_eq_true rfl) (fs' := [.ref (ad (2)), .int (nI (3)), .int (w9)]) rfl dX0_become_127 (fun g15 H locs eg15 hP hS => ?_)
    have fg15_0 : g15 (2) = .inl (cI, 4, .inl (upd (upd (upd (upd (f2) (0) (xa)) (1) (xb)) (2) (xc)) (3) (nI (0)))) := (congrFun eg15 (2)).trans ((va_up_ne _ _ (by decide)).trans fg14_w)
    have fg15_w : g15 (1) = .inr (0, [.ref (ad (2)), .int (nI (3)), .int (w9)]) := (congrFun eg15 (1)).trans (va_up_self _ _ _)
    have hfrg15 : ∀ j : Nat, j ≠ 1 → j ≠ 2 → g15 j = g j := fun j h0 h1 => (congrFun eg15 j).trans ((va_up_ne _ _ h0).trans (hfrg14 j h0 h1))
    refine lv_aload_n hx hb dX0_become_130 rfl (lv_at hl 3 rfl) ?_
    refine lv_iload hx hb dX0_become_131 (lv_at hl 0 rfl) ?_
    refine xw_put hx hb hts hin0 tyX0 tyX0_ok nmX0 hown hK hP hD hS (by decide) fg15_w rfl 2 (by decide) hf19 rfl rfl (ty := .int) (by decide +kernel) rfl rfl (Nat.le_of_ble_eq_true rfl) (fs' := [.ref (ad (2)), .int (nI (3)), .int (nI ((((hf (xa)) + (hf (xb))) + (hf (xc))) + 0))]) rfl dX0_become_133 (fun g16 H locs eg16 hP hS => ?_)
    have fg16_0 : g16 (2) = .inl (cI, 4, .inl (upd (upd (upd (upd (f2) (0) (xa)) (1) (xb)) (2) (xc)) (3) (nI (0)))) := (congrFun eg16 (2)).trans ((va_up_ne _ _ (by decide)).trans fg15_0)
    have fg16_w : g16 (1) = .inr (0, [.ref (ad (2)), .int (nI (3)), .int (nI ((((hf (xa)) + (hf (xb))) + (hf (xc))) + 0))]) := (congrFun eg16 (1)).trans (va_up_self _ _ _)
    have hfrg16 : ∀ j : Nat, j ≠ 1 → j ≠ 2 → g16 j = g j := fun j h0 h1 => (congrFun eg16 j).trans ((va_up_ne _ _ h0).trans (hfrg15 j h0 h1))
    refine lv_iconst (v := nI (1)) hx hb dX0_become_136 (by decide) ?_
    exact W.zret (v := nI (1)) hx hb hr (by decide) (fun tZ ht hW => ⟨⟨_, g16, rfl, Or.inl ⟨rfl, by omega, fg16_w, fg16_0, hfrg16⟩, by rw [ht]; exact hP, va_K.moved hW.alike hK, va_Nw.warmM hW hN⟩, hS.F ht⟩) hS.2.2 dX0_become_137
  · refine lv_iconst (v := nI (0)) hx hb dX0_become_93 (by decide) ?_
    exact W.zret (v := nI (0)) hx hb hr (by decide) (fun tZ ht hW => ⟨⟨_, g, rfl, Or.inr ⟨rfl, by omega, rfl⟩, by rw [ht]; exact hP, va_K.moved hW.alike hK, va_Nw.warmM hW hN⟩, hS.F ht⟩) hS.2.2 dX0_become_94

set_option maxHeartbeats 4000000 in
set_option maxRecDepth 100000 in
/-- Lot.become, 4 letters -/
theorem mX0_become4 (l : Launch) {D : va_G} {cI cJ cZ cW : ClassId} {ad : Nat → Nat} {A : Nat → Prop} (hD : ∀ g, va_D A (xw 81 ad g)) {g : Nat → va_E} {q9 w9 xa xb xc xd : Int32} {f2 : Nat → Int32}  (fo_1 : g (1) = .inr (0, [.ref (ad (2)), .int (q9), .int (w9)])) (fa_2 : g (2) = .inl (cI, 4, .inl (f2)))  : Met l yX0_become wsX0_become ({ frames := 1, cells := 0, slots := 0, locals := 20 }) (va_Pc [.ref (ad (1)), .int (nI (4)), .int (xa), .int (xb), .int (xc), .int (xd)] (xB D (xT cI cJ cZ cW) ad g)) (va_Qi (fun r g2 => (r = nI 1 ∧ hf xa + hf xb + hf xc + hf xd ≤ 4 ∧ g2 1 = .inr (0, [.ref (ad (2)), .int (nI (4)), .int (nI (hf xa + hf xb + hf xc + hf xd))]) ∧ g2 2 = .inl (cI, 4, .inl (upd (upd (upd (upd (f2) (0) (xa)) (1) (xb)) (2) (xc)) (3) (xd))) ∧ ∀ j : Nat, j ≠ 1 → j ≠ 2 → g2 j = g j) ∨ (r = nI 0 ∧ 4 < hf xa + hf xb + hf xc + hf xd ∧ g2 = g)) (xB D (xT cI cJ cZ cW) ad) A) 0 0 A := by
  refine Met.ofW (cc := cX0_become) (maxL := 9) (ret := (some .boolean)) (by decide) rfl ?_
  intro p e s m args below meth c s₁ B hml hv
  obtain ⟨rfl, hP, hK, hN⟩ := hv
  have hx := B.exec
  have hb := B.bytes
  have hr := B.returns
  have hts := atoms_spec (ws := wsX0_become) B.pre
  have hown : s.vm.findClass RX0 = some m.cls := findClass_of_methodNamed B.named
  have hlocks := B.notSynchronized
  have hS : va_S A s.heap s.heap [] := va_S.rf
  have hin0 : ∀ w ∈ wsX00, w ∈ wsX0_become := by decide +kernel
  have hf9 := hts (.fieldLink RX0 9 "LettersByLot$Lot" "weights" "[I") (by decide +kernel)
  have hf15 := hts (.fieldLink RX0 15 "LettersByLot$Lot" "letters" "I") (by decide +kernel)
  have hf19 := hts (.fieldLink RX0 19 "LettersByLot$Lot" "total" "I") (by decide +kernel)
  have hl := lv_entry ([.ref (ad (1)), .int (nI (4)), .int (xa), .int (xb), .int (xc), .int (xd)]) (n := 9) (Nat.le_of_ble_eq_true rfl)
  rw [lg_entry_eq]
  generalize (lg_sl ([.ref (ad (1)), .int (nI (4)), .int (xa), .int (xb), .int (xc), .int (xd)]) ++ List.replicate (9 - (lg_sl ([.ref (ad (1)), .int (nI (4)), .int (xa), .int (xb), .int (xc), .int (xd)])).length) Slot.unset).toArray = ls at hl ⊢
  have hl : lv_has ls 9 [(0, .ref (ad (1))), (1, .int (nI (4))), (2, .int (xa)), (3, .int (xb)), (4, .int (xc)), (5, .int (xd))] := hl
  refine lv_iload_n hx hb dX0_become_0 rfl (lv_at hl 1 rfl) ?_
  refine lv_iconst (v := nI (2)) hx hb dX0_become_1 (by decide) ?_
  refine xi_icmp_lt (tgt := 10) hx hb (by decide) (by decide) dX0_become_2 (by decide) (fun c0 => absurd c0 (by decide)) (fun _ => ?_)
  refine lv_iload_n hx hb dX0_become_5 rfl (lv_at hl 1 rfl) ?_
  refine lv_iconst (v := nI (4)) hx hb dX0_become_6 (by decide) ?_
  refine xi_icmp_le (tgt := 12) hx hb (by decide) (by decide) dX0_become_7 (by decide) (fun _ => ?_) (fun c0 => absurd c0 (by decide))
  refine lv_iload_n hx hb dX0_become_12 rfl (lv_at hl 1 rfl) ?_
  refine lv_iconst (v := nI (2)) hx hb dX0_become_13 (by decide) ?_
  refine xi_icmp_le (tgt := 22) hx hb (by decide) (by decide) dX0_become_14 (by decide) (fun c0 => absurd c0 (by decide)) (fun _ => ?_)
  refine lv_iload hx hb dX0_become_17 (lv_at hl 4 rfl) ?_
  refine lv_goto (tgt := 23) hx hb dX0_become_19 (by decide) ?_
  refine lv_istore (lv' := [(6, .int (xc)), (0, .ref (ad (1))), (1, .int (nI (4))), (2, .int (xa)), (3, .int (xb)), (4, .int (xc)), (5, .int (xd))]) hx hb dX0_become_23 hl (by decide) rfl (fun ls hl => ?_)
  refine lv_iload_n hx hb dX0_become_25 rfl (lv_at hl 2 rfl) ?_
  refine lv_iconst (v := nI (3)) hx hb dX0_become_26 (by decide) ?_
  refine xi_icmp_le (tgt := 35) hx hb (by decide) (by decide) dX0_become_27 (by decide) (fun c0 => absurd c0 (by decide)) (fun _ => ?_)
  refine lv_iload hx hb dX0_become_30 (lv_at hl 6 rfl) ?_
  refine lv_goto (tgt := 36) hx hb dX0_become_32 (by decide) ?_
  refine lv_istore (lv' := [(7, .int (xd)), (6, .int (xc)), (0, .ref (ad (1))), (1, .int (nI (4))), (2, .int (xa)), (3, .int (xb)), (4, .int (xc)), (5, .int (xd))]) hx hb dX0_become_36 hl (by decide) rfl (fun ls hl => ?_)
  refine lv_iload_n hx hb dX0_become_38 rfl (lv_at hl 4 rfl) ?_
  refine vp_callSi (va_Run.run (va_runS (As := [.int (xa)]) (rest := []) ⟨hx, hb, hml, hown, hts⟩ (mX0_heft l (x0 := xa)) (va_cwS 1 hts gX0_become_X0_heft rfl rfl rfl (by decide +kernel) ⟨Nat.le_of_ble_eq_true rfl, Nat.le_of_ble_eq_true rfl⟩) ⟨xB_blind, fun U hU hW => ⟨rfl, by rw [hU]; exact hP, va_K.moved hW.alike hK, va_Nw.warmM hW hN⟩⟩ rfl rfl hl.1 rfl (lv_room (Nat.le_of_ble_eq_true rfl)) dX0_become_39 ⟨Nat.le_of_ble_eq_true rfl, Nat.le_of_ble_eq_true rfl⟩)) (fun r5 er5 => ?_)
  subst er5
  refine lv_iload_n hx hb dX0_become_42 rfl (lv_at hl 5 rfl) ?_
  refine vp_callSi (va_Run.run (va_runS (As := [.int (xb)]) (rest := [.int (nI (hf (xa)))]) ⟨hx, hb, hml, hown, hts⟩ (mX0_heft l (x0 := xb)) (va_cwS 1 hts gX0_become_X0_heft rfl rfl rfl (by decide +kernel) ⟨Nat.le_of_ble_eq_true rfl, Nat.le_of_ble_eq_true rfl⟩) ⟨xB_blind, fun U hU hW => ⟨rfl, by rw [hU]; exact hP, va_K.moved hW.alike hK, va_Nw.warmM hW hN⟩⟩ rfl rfl hl.1 rfl (lv_room (Nat.le_of_ble_eq_true rfl)) dX0_become_43 ⟨Nat.le_of_ble_eq_true rfl, Nat.le_of_ble_eq_true rfl⟩)) (fun r6 er6 => ?_)
  subst er6
  refine xi_add hx hb dX0_become_46 ?_
  refine lv_istore (lv' := [(8, .int (nI ((hf (xa)) + (hf (xb))))), (7, .int (xd)), (6, .int (xc)), (0, .ref (ad (1))), (1, .int (nI (4))), (2, .int (xa)), (3, .int (xb)), (4, .int (xc)), (5, .int (xd))]) hx hb dX0_become_47 hl (by decide) rfl (fun ls hl => ?_)
  refine lv_iload hx hb dX0_become_49 (lv_at hl 0 rfl) ?_
  refine lv_iload_n hx hb dX0_become_51 rfl (lv_at hl 4 rfl) ?_
  refine lv_iconst (v := nI (2)) hx hb dX0_become_52 (by decide) ?_
  refine xi_icmp_le (tgt := 64) hx hb (by decide) (by decide) dX0_become_53 (by decide) (fun c0 => absurd c0 (by decide)) (fun _ => ?_)
  refine lv_iload hx hb dX0_become_56 (lv_at hl 2 rfl) ?_
  refine vp_callSi (va_Run.run (va_runS (As := [.int (xc)]) (rest := [.int (nI ((hf (xa)) + (hf (xb))))]) ⟨hx, hb, hml, hown, hts⟩ (mX0_heft l (x0 := xc)) (va_cwS 1 hts gX0_become_X0_heft rfl rfl rfl (by decide +kernel) ⟨Nat.le_of_ble_eq_true rfl, Nat.le_of_ble_eq_true rfl⟩) ⟨xB_blind, fun U hU hW => ⟨rfl, by rw [hU]; exact hP, va_K.moved hW.alike hK, va_Nw.warmM hW hN⟩⟩ rfl rfl hl.1 rfl (lv_room (Nat.le_of_ble_eq_true rfl)) dX0_become_58 ⟨Nat.le_of_ble_eq_true rfl, Nat.le_of_ble_eq_true rfl⟩)) (fun r8 er8 => ?_)
  subst er8
  refine lv_goto (tgt := 65) hx hb dX0_become_61 (by decide) ?_
  refine xi_add hx hb dX0_become_65 ?_
  refine lv_istore (lv' := [(8, .int (nI (((hf (xa)) + (hf (xb))) + (hf (xc))))), (7, .int (xd)), (6, .int (xc)), (0, .ref (ad (1))), (1, .int (nI (4))), (2, .int (xa)), (3, .int (xb)), (4, .int (xc)), (5, .int (xd))]) hx hb dX0_become_66 hl (by decide) rfl (fun ls hl => ?_)
  refine lv_iload hx hb dX0_become_68 (lv_at hl 0 rfl) ?_
  refine lv_iload_n hx hb dX0_become_70 rfl (lv_at hl 4 rfl) ?_
  refine lv_iconst (v := nI (3)) hx hb dX0_become_71 (by decide) ?_
  refine xi_icmp_le (tgt := 83) hx hb (by decide) (by decide) dX0_become_72 (by decide) (fun c0 => absurd c0 (by decide)) (fun _ => ?_)
  refine lv_iload hx hb dX0_become_75 (lv_at hl 1 rfl) ?_
  refine vp_callSi (va_Run.run (va_runS (As := [.int (xd)]) (rest := [.int (nI (((hf (xa)) + (hf (xb))) + (hf (xc))))]) ⟨hx, hb, hml, hown, hts⟩ (mX0_heft l (x0 := xd)) (va_cwS 1 hts gX0_become_X0_heft rfl rfl rfl (by decide +kernel) ⟨Nat.le_of_ble_eq_true rfl, Nat.le_of_ble_eq_true rfl⟩) ⟨xB_blind, fun U hU hW => ⟨rfl, by rw [hU]; exact hP, va_K.moved hW.alike hK, va_Nw.warmM hW hN⟩⟩ rfl rfl hl.1 rfl (lv_room (Nat.le_of_ble_eq_true rfl)) dX0_become_77 ⟨Nat.le_of_ble_eq_true rfl, Nat.le_of_ble_eq_true rfl⟩)) (fun r10 er10 => ?_)
  subst er10
  refine lv_goto (tgt := 84) hx hb dX0_become_80 (by decide) ?_
  refine xi_add hx hb dX0_become_84 ?_
  refine lv_istore (lv' := [(8, .int (nI ((((hf (xa)) + (hf (xb))) + (hf (xc))) + (hf (xd))))), (7, .int (xd)), (6, .int (xc)), (0, .ref (ad (1))), (1, .int (nI (4))), (2, .int (xa)), (3, .int (xb)), (4, .int (xc)), (5, .int (xd))]) hx hb dX0_become_85 hl (by decide) rfl (fun ls hl => ?_)
  refine lv_iload hx hb dX0_become_87 (lv_at hl 0 rfl) ?_
  refine lv_iconst (v := nI (4)) hx hb dX0_become_89 (by decide) ?_
  refine xi_icmp_le (tgt := 95) hx hb (by have := hf_le xa; have := hf_le xb; have := hf_le xc; have := hf_le xd; omega) (by decide) dX0_become_90 (by decide) (fun c90_11 => ?_) (fun c90_11 => ?_)
  · refine lv_aload_n hx hb dX0_become_95 rfl (lv_at hl 3 rfl) ?_
    refine xw_get hx hb hts hin0 hown hK hP (by decide) fo_1 rfl 0 (by decide) hf9 rfl rfl dX0_become_96 ?_
    refine lv_iconst (v := nI (0)) hx hb dX0_become_99 (by decide) ?_
    refine lv_iload_n hx hb dX0_become_100 rfl (lv_at hl 5 rfl) ?_
    refine xw_iast hx hb hK hP hD hS (by decide) 0 fa_2 rfl (by omega) (by decide) dX0_become_101 (fun g12 H locs eg12 hP hS => ?_)
    have fg12_0 : g12 (1) = .inr (0, [.ref (ad (2)), .int (q9), .int (w9)]) := (congrFun eg12 (1)).trans ((va_up_ne _ _ (by decide)).trans fo_1)
    have fg12_w : g12 (2) = .inl (cI, 4, .inl (upd (f2) (0) (xa))) := (congrFun eg12 (2)).trans (va_up_self _ _ _)
    have hfrg12 : ∀ j : Nat, j ≠ 1 → j ≠ 2 → g12 j = g j := fun j h0 h1 => (congrFun eg12 j).trans ((va_up_ne _ _ h1).trans ((fun _ _ _ => rfl) j h0 h1))
    refine lv_aload_n hx hb dX0_become_102 rfl (lv_at hl 3 rfl) ?_
    refine xw_get hx hb hts hin0 hown hK hP (by decide) fg12_0 rfl 0 (by decide) hf9 rfl rfl dX0_become_103 ?_
    refine lv_iconst (v := nI (1)) hx hb dX0_become_106 (by decide) ?_
    refine lv_iload_n hx hb dX0_become_107 rfl (lv_at hl 6 rfl) ?_
    refine xw_iast hx hb hK hP hD hS (by decide) 0 fg12_w rfl (by omega) (by decide) dX0_become_108 (fun g13 H locs eg13 hP hS => ?_)
    have fg13_0 : g13 (1) = .inr (0, [.ref (ad (2)), .int (q9), .int (w9)]) := (congrFun eg13 (1)).trans ((va_up_ne _ _ (by decide)).trans fg12_0)
    have fg13_w : g13 (2) = .inl (cI, 4, .inl (upd (upd (f2) (0) (xa)) (1) (xb))) := (congrFun eg13 (2)).trans (va_up_self _ _ _)
    have hfrg13 : ∀ j : Nat, j ≠ 1 → j ≠ 2 → g13 j = g j := fun j h0 h1 => (congrFun eg13 j).trans ((va_up_ne _ _ h1).trans (hfrg12 j h0 h1))
    refine lv_aload_n hx hb dX0_become_109 rfl (lv_at hl 3 rfl) ?_
    refine xw_get hx hb hts hin0 hown hK hP (by decide) fg13_0 rfl 0 (by decide) hf9 rfl rfl dX0_become_110 ?_
    refine lv_iconst (v := nI (2)) hx hb dX0_become_113 (by decide) ?_
    refine lv_iload hx hb dX0_become_114 (lv_at hl 2 rfl) ?_
    refine xw_iast hx hb hK hP hD hS (by decide) 0 fg13_w rfl (by omega) (by decide) dX0_become_116 (fun g14 H locs eg14 hP hS => ?_)
    have fg14_0 : g14 (1) = .inr (0, [.ref (ad (2)), .int (q9), .int (w9)]) := (congrFun eg14 (1)).trans ((va_up_ne _ _ (by decide)).trans fg13_0)
    have fg14_w : g14 (2) = .inl (cI, 4, .inl (upd (upd (upd (f2) (0) (xa)) (1) (xb)) (2) (xc))) := (congrFun eg14 (2)).trans (va_up_self _ _ _)
    have hfrg14 : ∀ j : Nat, j ≠ 1 → j ≠ 2 → g14 j = g j := fun j h0 h1 => (congrFun eg14 j).trans ((va_up_ne _ _ h1).trans (hfrg13 j h0 h1))
    refine lv_aload_n hx hb dX0_become_117 rfl (lv_at hl 3 rfl) ?_
    refine xw_get hx hb hts hin0 hown hK hP (by decide) fg14_0 rfl 0 (by decide) hf9 rfl rfl dX0_become_118 ?_
    refine lv_iconst (v := nI (3)) hx hb dX0_become_121 (by decide) ?_
    refine lv_iload hx hb dX0_become_122 (lv_at hl 1 rfl) ?_
    refine xw_iast hx hb hK hP hD hS (by decide) 0 fg14_w rfl (by omega) (by decide) dX0_become_124 (fun g15 H locs eg15 hP hS => ?_)
    have fg15_0 : g15 (1) = .inr (0, [.ref (ad (2)), .int (q9), .int (w9)]) := (congrFun eg15 (1)).trans ((va_up_ne _ _ (by decide)).trans fg14_0)
    have fg15_w : g15 (2) = .inl (cI, 4, .inl (upd (upd (upd (upd (f2) (0) (xa)) (1) (xb)) (2) (xc)) (3) (xd))) := (congrFun eg15 (2)).trans (va_up_self _ _ _)
    have hfrg15 : ∀ j : Nat, j ≠ 1 → j ≠ 2 → g15 j = g j := fun j h0 h1 => (congrFun eg15 j).trans ((va_up_ne _ _ h1).trans (hfrg14 j h0 h1))
    refine lv_aload_n hx hb dX0_become_125 rfl (lv_at hl 3 rfl) ?_
    refine lv_iload_n hx hb dX0_become_126 rfl (lv_at hl 4 rfl) ?_
    refine xw_put hx hb hts hin0 tyX0 tyX0_ok nmX0 hown hK hP hD hS (by decide) fg15_0 rfl 1 (by decide) hf15 rfl rfl (ty := .int) (by decide +kernel) rfl rfl (Nat.le_of_ble_eq_true rfl) (fs' := [.ref (ad (2)), .int (nI (4)), .int (w9)]) rfl dX0_become_127 (fun g16 H locs eg16 hP hS => ?_)
    have fg16_0 : g16 (2) = .inl (cI, 4, .inl (upd (upd (upd (upd (f2) (0) (xa)) (1) (xb)) (2) (xc)) (3) (xd))) := (congrFun eg16 (2)).trans ((va_up_ne _ _ (by decide)).trans fg15_w)
    have fg16_w : g16 (1) = .inr (0, [.ref (ad (2)), .int (nI (4)), .int (w9)]) := (congrFun eg16 (1)).trans (va_up_self _ _ _)
    have hfrg16 : ∀ j : Nat, j ≠ 1 → j ≠ 2 → g16 j = g j := fun j h0 h1 => (congrFun eg16 j).trans ((va_up_ne _ _ h0).trans (hfrg15 j h0 h1))
    refine lv_aload_n hx hb dX0_become_130 rfl (lv_at hl 3 rfl) ?_
    refine lv_iload hx hb dX0_become_131 (lv_at hl 0 rfl) ?_
    refine xw_put hx hb hts hin0 tyX0 tyX0_ok nmX0 hown hK hP hD hS (by decide) fg16_w rfl 2 (by decide) hf19 rfl rfl (ty := .int) (by decide +kernel) rfl rfl (Nat.le_of_ble_eq_true rfl) (fs' := [.ref (ad (2)), .int (nI (4)), .int (nI ((((hf (xa)) + (hf (xb))) + (hf (xc))) + (hf (xd))))]) rfl dX0_become_133 (fun g17 H locs eg17 hP hS => ?_)
    have fg17_0 : g17 (2) = .inl (cI, 4, .inl (upd (upd (upd (upd (f2) (0) (xa)) (1) (xb)) (2) (xc)) (3) (xd))) := (congrFun eg17 (2)).trans ((va_up_ne _ _ (by decide)).trans fg16_0)
    have fg17_w : g17 (1) = .inr (0, [.ref (ad (2)), .int (nI (4)), .int (nI ((((hf (xa)) + (hf (xb))) + (hf (xc))) + (hf (xd))))]) := (congrFun eg17 (1)).trans (va_up_self _ _ _)
    have hfrg17 : ∀ j : Nat, j ≠ 1 → j ≠ 2 → g17 j = g j := fun j h0 h1 => (congrFun eg17 j).trans ((va_up_ne _ _ h0).trans (hfrg16 j h0 h1))
    refine lv_iconst (v := nI (1)) hx hb dX0_become_136 (by decide) ?_
    exact W.zret (v := nI (1)) hx hb hr (by decide) (fun tZ ht hW => ⟨⟨_, g17, rfl, Or.inl ⟨rfl, by omega, fg17_w, fg17_0, hfrg17⟩, by rw [ht]; exact hP, va_K.moved hW.alike hK, va_Nw.warmM hW hN⟩, hS.F ht⟩) hS.2.2 dX0_become_137
  · refine lv_iconst (v := nI (0)) hx hb dX0_become_93 (by decide) ?_
    exact W.zret (v := nI (0)) hx hb hr (by decide) (fun tZ ht hW => ⟨⟨_, g, rfl, Or.inr ⟨rfl, by omega, rfl⟩, by rw [ht]; exact hP, va_K.moved hW.alike hK, va_Nw.warmM hW hN⟩, hS.F ht⟩) hS.2.2 dX0_become_94

set_option maxHeartbeats 4000000 in
set_option maxRecDepth 100000 in
/-- Lot.become, no such q -/
theorem mX0_become_no (l : Launch) {D : va_G} {cI cJ cZ cW : ClassId} {ad : Nat → Nat} {g : Nat → va_E} {x0 xa xb xc xd : Int32}  (hq : x0 < nI 2 ∨ nI 4 < x0) : Met l yX0_become wsX0_become ({ frames := 0, cells := 0, slots := 0, locals := 0 }) (va_Pc [.ref (ad (1)), .int (x0), .int (xa), .int (xb), .int (xc), .int (xd)] (xB D (xT cI cJ cZ cW) ad g)) (vp_Si (fun r => r = nI 0)) 0 0 (fun _ => False) := by
  refine Met.ofW (cc := cX0_become) (maxL := 9) (ret := (some .boolean)) (by decide) rfl ?_
  intro p e s m args below meth c s₁ B hml hv
  obtain ⟨rfl, hP, hK, hN⟩ := hv
  have hx := B.exec
  have hb := B.bytes
  have hr := B.returns
  have hts := atoms_spec (ws := wsX0_become) B.pre
  have hown : s.vm.findClass RX0 = some m.cls := findClass_of_methodNamed B.named
  have hlocks := B.notSynchronized
  have hl := lv_entry ([.ref (ad (1)), .int (x0), .int (xa), .int (xb), .int (xc), .int (xd)]) (n := 9) (Nat.le_of_ble_eq_true rfl)
  rw [lg_entry_eq]
  generalize (lg_sl ([.ref (ad (1)), .int (x0), .int (xa), .int (xb), .int (xc), .int (xd)]) ++ List.replicate (9 - (lg_sl ([.ref (ad (1)), .int (x0), .int (xa), .int (xb), .int (xc), .int (xd)])).length) Slot.unset).toArray = ls at hl ⊢
  have hl : lv_has ls 9 [(0, .ref (ad (1))), (1, .int (x0)), (2, .int (xa)), (3, .int (xb)), (4, .int (xc)), (5, .int (xd))] := hl
  refine lv_iload_n hx hb dX0_become_0 rfl (lv_at hl 1 rfl) ?_
  refine lv_iconst (v := nI (2)) hx hb dX0_become_1 (by decide) ?_
  refine lv_icmp_lt (tgt := 10) hx hb dX0_become_2 (by decide) (fun c2_1 => ?_) (fun c2_1 => ?_)
  · refine lv_iconst (v := nI (0)) hx hb dX0_become_10 (by decide) ?_
    exact W.zret (v := nI (0)) hx hb hr (by decide) (fun tZ ht _ => ⟨_, rfl, rfl, ht⟩) (fun q hq => by cases hq) dX0_become_11
  · refine lv_iload_n hx hb dX0_become_5 rfl (lv_at hl 1 rfl) ?_
    refine lv_iconst (v := nI (4)) hx hb dX0_become_6 (by decide) ?_
    refine lv_icmp_le (tgt := 12) hx hb dX0_become_7 (by decide) (fun c7_2 => ?_) (fun c7_2 => ?_)
    · exact absurd hq (by rintro (h | h); exact c2_1 h; exact absurd c7_2 (by rw [Int32.not_le]; exact h))
    · refine lv_iconst (v := nI (0)) hx hb dX0_become_10 (by decide) ?_
      exact W.zret (v := nI (0)) hx hb hr (by decide) (fun tZ ht _ => ⟨_, rfl, rfl, ht⟩) (fun q hq => by cases hq) dX0_become_11
