set_option maxHeartbeats 4000000 in
set_option maxRecDepth 100000 in
theorem mX5_add_full (l : Launch) {D : va_G} {cI cJ cZ cW : ClassId} {ad : Nat → Nat} {A : Nat → Prop} (hD : ∀ g, va_D A (xw 81 ad g)) {g : Nat → va_E} {q Wt : Nat} {w : Nat → Nat} {ln : Nat → Nat} {u : Nat → Nat → Nat} {T : Nat} {t : Nat → Nat} {tp bt : Int64} {j : Nat}  (hC : ClsI cI cJ cZ cW ad g q Wt w ln u T t tp bt) (hs : SrcI q Wt w ln u T t) (hj : j < q) (hT3 : T = 300) : Met l yX5_add wsX5_add ({ frames := 1, cells := 0, slots := 0, locals := 21 }) (va_Pc [.ref (ad (0)), .int (nI (j))] (xB D (xT cI cJ cZ cW) ad g)) (va_Qi (fun r g2 => r = -1 ∧ ClsI cI cJ cZ cW ad g2 q Wt w ln u T t tp bt ∧ ∀ i : Nat, 62 ≤ i → g2 i = g i) (xB D (xT cI cJ cZ cW) ad) A) 0 0 A := by
  refine Met.ofW (cc := cX5_add) (maxL := 2) (ret := (some .int)) (by decide) rfl ?_
  intro p e s m args below meth c s₁ B hml hv
  obtain ⟨rfl, hP, hK, hN⟩ := hv
  have hx := B.exec
  have hb := B.bytes
  have hr := B.returns
  have hts := atoms_spec (ws := wsX5_add) B.pre
  have hown : s.vm.findClass RX5 = some m.cls := findClass_of_methodNamed B.named
  have hlocks := B.notSynchronized
  have hS : va_S A s.heap s.heap [] := va_S.rf
  have hin0 : ∀ w ∈ wsX00, w ∈ wsX5_add := by decide +kernel
  have hin5 : ∀ w ∈ wsX50, w ∈ wsX5_add := by decide +kernel
  have hf12 := hts (.fieldLink RX5 12 "LettersByLot" "lot" "LLettersByLot$Lot;") (by decide +kernel)
  have hf44 := hts (.fieldLink RX5 44 "LettersByLot" "text" "LLettersByLot$Text;") (by decide +kernel)
  have hf141 := hts (.fieldLink RX5 141 "LettersByLot$Lot" "letters" "I") (by decide +kernel)
  have hl := lv_entry ([.ref (ad (0)), .int (nI (j))]) (n := 2) (Nat.le_of_ble_eq_true rfl)
  rw [lg_entry_eq]
  generalize (lg_sl ([.ref (ad (0)), .int (nI (j))]) ++ List.replicate (2 - (lg_sl ([.ref (ad (0)), .int (nI (j))])).length) Slot.unset).toArray = ls at hl ⊢
  have hl : lv_has ls 2 [(0, .ref (ad (0))), (1, .int (nI (j)))] := hl
  obtain ⟨hq2, hq4, hw1, hw0, hWs, hWt, hw, hln, hul, hT, ht⟩ := hs
  obtain ⟨fo_0, ⟨f2, fo_1, fa_2, h2⟩, ⟨f3, fa_3, h3⟩, hRace, hMach, ⟨f16, fo15, fa16, h16⟩, hwd, hcand⟩ := id hC
  refine lv_iload_n hx hb dX5_add_0 rfl (lv_at hl 1 rfl) ?_
  refine xi_if_lt (tgt := 26) hx hb (by omega) dX5_add_1 (by decide) ?_
  refine lv_iload_n hx hb dX5_add_4 rfl (lv_at hl 1 rfl) ?_
  refine lv_aload_n hx hb dX5_add_5 rfl (lv_at hl 0 rfl) ?_
  refine xw_get hx hb hts hin5 hown hK hP (by decide) fo_0 rfl 0 (by decide) hf12 rfl rfl dX5_add_6 ?_
  refine xw_get hx hb hts hin0 hown hK hP (by decide) fo_1 rfl 1 (by decide) hf141 rfl rfl dX5_add_9 ?_
  refine xi_icmp_ge (tgt := 26) hx hb (by omega) (by omega) dX5_add_12 (by decide) (fun c12_2 => ?_) (fun c12_2 => ?_)
  · exact absurd c12_2 (by omega)
  · refine lv_aload_n hx hb dX5_add_15 rfl (lv_at hl 0 rfl) ?_
    refine xw_get hx hb hts hin5 hown hK hP (by decide) fo_0 rfl 5 (by decide) hf44 rfl rfl dX5_add_16 ?_
    refine lv_iload_n hx hb dX5_add_19 rfl (lv_at hl 1 rfl) ?_
    refine vp_callSi (va_Run.run (va_runV (As := [.int (nI (j))]) (rest := []) ⟨hx, hb, hml, hown, hts⟩ (mX3_append_full l (T := T) fo15 hT3) (cwV 1 hts gX5_add_X3_append rfl rfl rfl (by decide +kernel) ⟨Nat.le_of_ble_eq_true rfl, Nat.le_of_ble_eq_true rfl⟩) ⟨xB_blind, va_recv hK hP (ci := 3) rfl (xw_is (by decide) fo15), fun U hU hW => ⟨rfl, by rw [hU]; exact hP, va_K.moved hW.alike hK, va_Nw.warmM hW hN⟩⟩ rfl rfl hl.1 rfl (lv_room (Nat.le_of_ble_eq_true rfl)) dX5_add_20 ⟨Nat.le_of_ble_eq_true rfl, Nat.le_of_ble_eq_true rfl⟩)) (fun r3 er3 => ?_)
    subst er3
    refine xi_if_ne (tgt := 28) hx hb (by decide) dX5_add_23 (by decide) (fun c0 => absurd c0 (by decide)) (fun _ => ?_)
    refine lv_iconst (v := (-1)) hx hb dX5_add_26 (by decide) ?_
    exact W.iret (v := (-1)) hx hb hr (fun tZ ht hW => ⟨⟨_, g, rfl, ⟨rfl, hC, fun _ _ => rfl⟩, by rw [ht]; exact hP, va_K.moved hW.alike hK, va_Nw.warmM hW hN⟩, hS.F ht⟩) hS.2.2 dX5_add_27

set_option maxHeartbeats 4000000 in
set_option maxRecDepth 100000 in
theorem mX5_add_bad (l : Launch) {D : va_G} {cI cJ cZ cW : ClassId} {ad : Nat → Nat} {A : Nat → Prop} (hD : ∀ g, va_D A (xw 81 ad g)) {g : Nat → va_E} {q Wt : Nat} {w : Nat → Nat} {ln : Nat → Nat} {u : Nat → Nat → Nat} {T : Nat} {t : Nat → Nat} {tp bt : Int64} {x0 : Int32}  (hC : ClsI cI cJ cZ cW ad g q Wt w ln u T t tp bt) (hs : SrcI q Wt w ln u T t) (hx0 : x0 < 0 ∨ nI q ≤ x0) : Met l yX5_add wsX5_add ({ frames := 1, cells := 0, slots := 0, locals := 21 }) (va_Pc [.ref (ad (0)), .int (x0)] (xB D (xT cI cJ cZ cW) ad g)) (va_Qi (fun r g2 => r = -1 ∧ ClsI cI cJ cZ cW ad g2 q Wt w ln u T t tp bt ∧ ∀ i : Nat, 62 ≤ i → g2 i = g i) (xB D (xT cI cJ cZ cW) ad) A) 0 0 A := by
  refine Met.ofW (cc := cX5_add) (maxL := 2) (ret := (some .int)) (by decide) rfl ?_
  intro p e s m args below meth c s₁ B hml hv
  obtain ⟨rfl, hP, hK, hN⟩ := hv
  have hx := B.exec
  have hb := B.bytes
  have hr := B.returns
  have hts := atoms_spec (ws := wsX5_add) B.pre
  have hown : s.vm.findClass RX5 = some m.cls := findClass_of_methodNamed B.named
  have hlocks := B.notSynchronized
  have hS : va_S A s.heap s.heap [] := va_S.rf
  have hin0 : ∀ w ∈ wsX00, w ∈ wsX5_add := by decide +kernel
  have hin5 : ∀ w ∈ wsX50, w ∈ wsX5_add := by decide +kernel
  have hf12 := hts (.fieldLink RX5 12 "LettersByLot" "lot" "LLettersByLot$Lot;") (by decide +kernel)
  have hf141 := hts (.fieldLink RX5 141 "LettersByLot$Lot" "letters" "I") (by decide +kernel)
  have hl := lv_entry ([.ref (ad (0)), .int (x0)]) (n := 2) (Nat.le_of_ble_eq_true rfl)
  rw [lg_entry_eq]
  generalize (lg_sl ([.ref (ad (0)), .int (x0)]) ++ List.replicate (2 - (lg_sl ([.ref (ad (0)), .int (x0)])).length) Slot.unset).toArray = ls at hl ⊢
  have hl : lv_has ls 2 [(0, .ref (ad (0))), (1, .int (x0))] := hl
  obtain ⟨hq2, hq4, hw1, hw0, hWs, hWt, hw, hln, hul, hT, ht⟩ := hs
  obtain ⟨fo_0, ⟨f2, fo_1, fa_2, h2⟩, ⟨f3, fa_3, h3⟩, hRace, hMach, ⟨f16, fo15, fa16, h16⟩, hwd, hcand⟩ := id hC
  refine lv_iload_n hx hb dX5_add_0 rfl (lv_at hl 1 rfl) ?_
  refine lv_if_lt (tgt := 26) hx hb dX5_add_1 (by decide) (fun c1_1 => ?_) (fun c1_1 => ?_)
  · refine lv_iconst (v := (-1)) hx hb dX5_add_26 (by decide) ?_
    exact W.iret (v := (-1)) hx hb hr (fun tZ ht hW => ⟨⟨_, g, rfl, ⟨rfl, hC, fun _ _ => rfl⟩, by rw [ht]; exact hP, va_K.moved hW.alike hK, va_Nw.warmM hW hN⟩, hS.F ht⟩) hS.2.2 dX5_add_27
  · refine lv_iload_n hx hb dX5_add_4 rfl (lv_at hl 1 rfl) ?_
    refine lv_aload_n hx hb dX5_add_5 rfl (lv_at hl 0 rfl) ?_
    refine xw_get hx hb hts hin5 hown hK hP (by decide) fo_0 rfl 0 (by decide) hf12 rfl rfl dX5_add_6 ?_
    refine xw_get hx hb hts hin0 hown hK hP (by decide) fo_1 rfl 1 (by decide) hf141 rfl rfl dX5_add_9 ?_
    refine lv_icmp_ge (tgt := 26) hx hb dX5_add_12 (by decide) (fun c12_2 => ?_) (fun c12_2 => ?_)
    · refine lv_iconst (v := (-1)) hx hb dX5_add_26 (by decide) ?_
      exact W.iret (v := (-1)) hx hb hr (fun tZ ht hW => ⟨⟨_, g, rfl, ⟨rfl, hC, fun _ _ => rfl⟩, by rw [ht]; exact hP, va_K.moved hW.alike hK, va_Nw.warmM hW hN⟩, hS.F ht⟩) hS.2.2 dX5_add_27
    · exact absurd hx0 (by rintro (h | h); exact c1_1 h; exact c12_2 h)

set_option maxHeartbeats 4000000 in
set_option maxRecDepth 100000 in
theorem mX5_draw_in (l : Launch) {D : va_G} {cI cJ cZ cW : ClassId} {ad : Nat → Nat} {A : Nat → Prop} (hD : ∀ g, va_D A (xw 81 ad g)) {g : Nat → va_E} {q Wt : Nat} {w : Nat → Nat} {ln : Nat → Nat} {u : Nat → Nat → Nat} {T : Nat} {t : Nat → Nat} {tp bt : Int64} {n0 : Nat} {s0 : Int32}  (hC : ClsI cI cJ cZ cW ad g q Wt w ln u T t tp bt) (hs : SrcI q Wt w ln u T t) (hn0 : n0 ≤ 300) : Met l yX5_draw wsX5_draw ({ frames := 1, cells := 0, slots := 0, locals := 24 }) (va_Pc [.ref (ad (0)), .int (s0), .int (nI (n0))] (xB D (xT cI cJ cZ cW) ad g)) (va_Qi (fun r g2 => r = sdN s0 n0 ∧ ClsI cI cJ cZ cW ad g2 q Wt w ln u n0 (drw q Wt w s0) tp bt ∧ ∀ i : Nat, 62 ≤ i → g2 i = g i) (xB D (xT cI cJ cZ cW) ad) A) 0 0 A := by
  refine Met.ofW (cc := cX5_draw) (maxL := 5) (ret := (some .int)) (by decide) rfl ?_
  intro p e s m args below meth c s₁ B hml hv
  obtain ⟨rfl, hP, hK, hN⟩ := hv
  have hx := B.exec
  have hb := B.bytes
  have hr := B.returns
  have hts := atoms_spec (ws := wsX5_draw) B.pre
  have hown : s.vm.findClass RX5 = some m.cls := findClass_of_methodNamed B.named
  have hlocks := B.notSynchronized
  have hS : va_S A s.heap s.heap [] := va_S.rf
  have hin5 : ∀ w ∈ wsX50, w ∈ wsX5_draw := by decide +kernel
  have hf12 := hts (.fieldLink RX5 12 "LettersByLot" "lot" "LLettersByLot$Lot;") (by decide +kernel)
  have hf44 := hts (.fieldLink RX5 44 "LettersByLot" "text" "LLettersByLot$Text;") (by decide +kernel)
  have hl := lv_entry ([.ref (ad (0)), .int (s0), .int (nI (n0))]) (n := 5) (Nat.le_of_ble_eq_true rfl)
  rw [lg_entry_eq]
  generalize (lg_sl ([.ref (ad (0)), .int (s0), .int (nI (n0))]) ++ List.replicate (5 - (lg_sl ([.ref (ad (0)), .int (s0), .int (nI (n0))])).length) Slot.unset).toArray = ls at hl ⊢
  have hl : lv_has ls 5 [(0, .ref (ad (0))), (1, .int (s0)), (2, .int (nI (n0)))] := hl
  obtain ⟨hq2, hq4, hw1, hw0, hWs, hWt, hw, hln, hul, hT, ht⟩ := hs
  obtain ⟨fo_0, ⟨f2, fo_1, fa_2, h2⟩, ⟨f3, fa_3, h3⟩, hRace, hMach, ⟨f16, fo15, fa16, h16⟩, hwd, hcand⟩ := id hC
  have hWp : 1 ≤ Wt ∧ Wt ≤ 4 := by have h8 := hw1 0 (by omega); have h9 := wsum_mono (w := w) (show 1 ≤ q by omega); have h7 : wsum w 1 = 0 + w 0 := rfl; omega
  refine lv_iload_n hx hb dX5_draw_0 rfl (lv_at hl 2 rfl) ?_
  refine xi_if_lt (tgt := 11) hx hb (by omega) dX5_draw_1 (by decide) ?_
  refine lv_iload_n hx hb dX5_draw_4 rfl (lv_at hl 2 rfl) ?_
  refine lv_sipush (v := nI (300)) hx hb dX5_draw_5 (by decide) ?_
  refine xi_icmp_le (tgt := 13) hx hb (by omega) (by decide) dX5_draw_8 (by decide) (fun c8_2 => ?_) (fun c8_2 => ?_)
  · refine lv_aload_n hx hb dX5_draw_13 rfl (lv_at hl 0 rfl) ?_
    refine xw_get hx hb hts hin5 hown hK hP (by decide) fo_0 rfl 5 (by decide) hf44 rfl rfl dX5_draw_14 ?_
    refine va_callv (va_runV (As := []) (rest := []) ⟨hx, hb, hml, hown, hts⟩ (mX3_clear l hD fo15) (cwV 0 hts gX5_draw_X3_clear rfl rfl rfl (by decide +kernel) ⟨Nat.le_of_ble_eq_true rfl, Nat.le_of_ble_eq_true rfl⟩) ⟨xB_blind, va_recv hK hP (ci := 3) rfl (xw_is (by decide) fo15), fun U hU hW => ⟨rfl, by rw [hU]; exact hP, va_K.moved hW.alike hK, va_Nw.warmM hW hN⟩⟩ rfl rfl hl.1 rfl (lv_room (Nat.le_of_ble_eq_true rfl)) dX5_draw_17 ⟨Nat.le_of_ble_eq_true rfl, Nat.le_of_ble_eq_true rfl⟩) hS (fun _ _ h => h) (fun _ h => h) (fun g3 tZ H locs ht hvm hwg3 hB hzZ hkZ hS => ?_)
    obtain ⟨hP, -⟩ := hB
    rw [ht] at hP
    obtain ⟨fg3_n0, hcg3⟩ := hwg3
    have fg3_k0 : g3 (0) = .inr (5, [.ref (ad (1)), .ref (ad (3)), .ref (ad (57)), .ref (ad (4)), .ref (ad (8)), .ref (ad (15)), .long (tp), .long (bt)]) := (hcg3 (0) (by decide)).trans fo_0
    have fg3_k1 : g3 (1) = .inr (0, [.ref (ad (2)), .int (nI (q)), .int (nI (Wt))]) := (hcg3 (1) (by decide)).trans fo_1
    have fg3_k2 : g3 (2) = .inl (cI, 4, .inl (f2)) := (hcg3 (2) (by decide)).trans fa_2
    have fg3_k3 : g3 (16) = .inl (cI, 300, .inl (f16)) := (hcg3 (16) (by decide)).trans fa16
    have fg3_k4 : g3 (3) = .inl (cW, 8, .inr (.inr (.inr (.inr (f3))))) := (hcg3 (3) (by decide)).trans fa_3
    have hfrg3 : ∀ j : Nat, j ≠ 15 → j ≠ 16 → g3 j = g j := fun j h0 h1 => (hcg3 j h0).trans ((fun _ _ _ => rfl) j h0 h1)
    refine lv_iload_n hx hb dX5_draw_20 rfl (lv_at hl 1 rfl) ?_
    refine lv_istore_n (lv' := [(3, .int (s0)), (0, .ref (ad (0))), (1, .int (s0)), (2, .int (nI (n0)))]) hx hb dX5_draw_21 rfl hl (by decide) rfl (fun ls hl => ?_)
    refine lv_iconst (v := nI (0)) hx hb dX5_draw_22 (by decide) ?_
    refine lv_istore (lv' := [(4, .int (nI (0))), (3, .int (s0)), (0, .ref (ad (0))), (1, .int (s0)), (2, .int (nI (n0)))]) hx hb dX5_draw_23 hl (by decide) rfl (fun ls hl => ?_)
    refine xloopW (G := fun H locs fr => W p l e _ s m _ below meth c H locs _ _ _ fr) (σ := Nat × (Nat → Int32)) (fun (i, fx) ls => F0 m 25 ls []) (fun (i, fx) gl25_5 H locs ls => (i ≤ n0) ∧ (∀ j, j < i → fx j = nI (drw q Wt w s0 j)) ∧ gl25_5 (0) = .inr (5, [.ref (ad (1)), .ref (ad (3)), .ref (ad (57)), .ref (ad (4)), .ref (ad (8)), .ref (ad (15)), .long (tp), .long (bt)]) ∧ gl25_5 (1) = .inr (0, [.ref (ad (2)), .int (nI (q)), .int (nI (Wt))]) ∧ gl25_5 (2) = .inl (cI, 4, .inl (f2)) ∧ gl25_5 (15) = .inr (3, [.ref (ad (16)), .int (nI (i))]) ∧ gl25_5 (16) = .inl (cI, 300, .inl (fx)) ∧ (∀ j : Nat, j ≠ 15 → j ≠ 16 → gl25_5 j = g j) ∧ va_P D vwCl (xw 81 ad gl25_5) H ∧ va_S A s.heap H locs ∧ lv_has ls 5 [(0, .ref (ad (0))), (2, .int (nI (n0))), (3, .int (sdN s0 i)), (4, .int (nI (i)))]) (fun (i, fx) => 301 - i) ?_ (0, f16) g3 H locs ls ⟨(by omega), (fun j hj => absurd hj (by omega)), fg3_k0, fg3_k1, fg3_k2, fg3_n0, fg3_k3, hfrg3, hP, hS, (lv_sub hl [2, 4, 1, 0] rfl)⟩
    rintro ⟨i, fx⟩ gl25_5 H locs ls ⟨hi, hfx, fo_0, fo_1, fa_2, fo15, fa16, hfrgl25_5, hP, hS, hl⟩ ih25
    refine lv_iload hx hb dX5_draw_25 (lv_at hl 3 rfl) ?_
    refine lv_iload_n hx hb dX5_draw_27 rfl (lv_at hl 1 rfl) ?_
    refine xi_icmp_ge (tgt := 65) hx hb (by omega) (by omega) dX5_draw_28 (by decide) (fun c28_6 => ?_) (fun c28_6 => ?_)
    · refine lv_iload_n hx hb dX5_draw_65 rfl (lv_at hl 2 rfl) ?_
      exact W.iret (v := sdN s0 i) hx hb hr (fun tZ ht hW => ⟨⟨_, gl25_5, rfl, ⟨by rw [show n0 = i by omega], hC.text ⟨fx, by rw [show n0 = i by omega]; exact fo15, fa16, fun j hj => hfx j (by omega)⟩ hfrgl25_5, fun j hj => hfrgl25_5 j (by omega) (by omega)⟩, by rw [ht]; exact hP, va_K.moved hW.alike hK, va_Nw.warmM hW hN⟩, hS.F ht⟩) hS.2.2 dX5_draw_66
    · refine lv_iload_n hx hb dX5_draw_31 rfl (lv_at hl 2 rfl) ?_
      refine lv_ldc (v := nI (1103515245)) hx hb hown (hts (.constant RX5 174 (1103515245)) (by decide +kernel)) dX5_draw_32 ?_
      refine lv_imul hx hb dX5_draw_34 ?_
      refine xtopi (y := sdN s0 i * 1103515245) rfl ?_
      refine lv_sipush (v := nI (12345)) hx hb dX5_draw_35 (by decide) ?_
      refine lv_iadd hx hb dX5_draw_38 ?_
      refine xtopi (y := sdN s0 (i + 1)) rfl ?_
      refine lv_istore_n (lv' := [(3, .int (sdN s0 (i + 1))), (0, .ref (ad (0))), (2, .int (nI (n0))), (4, .int (nI (i)))]) hx hb dX5_draw_39 rfl hl (by decide) rfl (fun ls hl => ?_)
      refine lv_aload_n hx hb dX5_draw_40 rfl (lv_at hl 1 rfl) ?_
      refine xw_get hx hb hts hin5 hown hK hP (by decide) fo_0 rfl 5 (by decide) hf44 rfl rfl dX5_draw_41 ?_
      refine lv_aload_n hx hb dX5_draw_44 rfl (lv_at hl 1 rfl) ?_
      refine xw_get hx hb hts hin5 hown hK hP (by decide) fo_0 rfl 0 (by decide) hf12 rfl rfl dX5_draw_45 ?_
      refine lv_iload_n hx hb dX5_draw_48 rfl (lv_at hl 0 rfl) ?_
      refine lv_bipush (v := nI (16)) hx hb dX5_draw_49 (by decide) ?_
      refine lv_iushr hx hb dX5_draw_51 rfl ?_
      refine xtopi (y := nI (s16 (sdN s0 (i + 1)))) (s16_eq _) ?_
      refine vp_callSi (va_Run.run (va_runV (As := [.int (nI (s16 (sdN s0 (i + 1))))]) (rest := [.ref (ad (15))]) ⟨hx, hb, hml, hown, hts⟩ (mX0_letterFor l fo_1 fa_2 hq4 hq2 h2 hw hWs hWp (s16_lt _)) (cwV 1 hts gX5_draw_X0_letterFor rfl rfl rfl (by decide +kernel) ⟨Nat.le_of_ble_eq_true rfl, Nat.le_of_ble_eq_true rfl⟩) ⟨xB_blind, va_recv hK hP (ci := 0) rfl (xw_is (by decide) fo_1), fun U hU hW => ⟨rfl, by rw [hU]; exact hP, va_K.moved hW.alike hK, va_Nw.warmM hW hN⟩⟩ rfl rfl hl.1 rfl (lv_room (Nat.le_of_ble_eq_true rfl)) dX5_draw_52 ⟨Nat.le_of_ble_eq_true rfl, Nat.le_of_ble_eq_true rfl⟩)) (fun r10 er10 => ?_)
      obtain ⟨li, rfl, hli1, hli2, hli3⟩ := er10
      refine va_calli (va_runV (As := [.int (nI (li))]) (rest := []) ⟨hx, hb, hml, hown, hts⟩ (mX3_append_in l hD (T := i) fo15 fa16 (by omega)) (cwV 1 hts gX5_draw_X3_append rfl rfl rfl (by decide +kernel) ⟨Nat.le_of_ble_eq_true rfl, Nat.le_of_ble_eq_true rfl⟩) ⟨xB_blind, va_recv hK hP (ci := 3) rfl (xw_is (by decide) fo15), fun U hU hW => ⟨rfl, by rw [hU]; exact hP, va_K.moved hW.alike hK, va_Nw.warmM hW hN⟩⟩ rfl rfl hl.1 rfl (lv_room (Nat.le_of_ble_eq_true rfl)) dX5_draw_55 ⟨Nat.le_of_ble_eq_true rfl, Nat.le_of_ble_eq_true rfl⟩) hS (fun _ _ h => h) (fun _ h => h) (fun r12 g11 tZ H locs ht hvm hwg11 hB hzZ hkZ hS => ?_)
      obtain ⟨hP, -⟩ := hB
      rw [ht] at hP
      obtain ⟨er12, fg11_n0, fg11_n1, hcg11⟩ := hwg11
      subst er12
      have fg11_k0 : g11 (0) = .inr (5, [.ref (ad (1)), .ref (ad (3)), .ref (ad (57)), .ref (ad (4)), .ref (ad (8)), .ref (ad (15)), .long (tp), .long (bt)]) := (hcg11 (0) (by decide) (by decide)).trans fo_0
      have fg11_k1 : g11 (1) = .inr (0, [.ref (ad (2)), .int (nI (q)), .int (nI (Wt))]) := (hcg11 (1) (by decide) (by decide)).trans fo_1
      have fg11_k2 : g11 (2) = .inl (cI, 4, .inl (f2)) := (hcg11 (2) (by decide) (by decide)).trans fa_2
      have hfrg11 : ∀ j : Nat, j ≠ 15 → j ≠ 16 → g11 j = g j := fun j h0 h1 => (hcg11 j h0 h1).trans (hfrgl25_5 j h0 h1)
      refine lv_pop hx hb dX5_draw_58 rfl ?_
      refine lv_iinc (v := nI (i + 1)) (lv' := [(4, .int (nI (i + 1))), (3, .int (sdN s0 (i + 1))), (0, .ref (ad (0))), (2, .int (nI (n0)))]) hx hb dX5_draw_59 hl (k := 3) rfl (nI_add (i) 1) (by decide) rfl (fun ls hl => ?_)
      refine lv_goto (tgt := 25) hx hb dX5_draw_62 (by decide) ?_
      exact ih25 (i + 1, upd (fx) (i) (nI (li))) g11 H locs ls ⟨(by omega), (fun j hj => by by_cases e : j = i; subst e; rw [pk_us]; show nI li = nI (pick q w _); rw [pick_eq hli1 hli2 hli3]; rw [pk_un e]; exact hfx j (by omega)), fg11_k0, fg11_k1, fg11_k2, fg11_n0, fg11_n1, hfrg11, hP, hS, (lv_sub hl [2, 3, 1, 0] rfl)⟩ (by first | omega | (dsimp only; omega))
  · exact absurd c8_2 (by omega)

set_option maxHeartbeats 4000000 in
set_option maxRecDepth 100000 in
theorem mX5_draw_bad (l : Launch) {D : va_G} {cI cJ cZ cW : ClassId} {ad : Nat → Nat} {A : Nat → Prop} (hD : ∀ g, va_D A (xw 81 ad g)) {g : Nat → va_E} {q Wt : Nat} {w : Nat → Nat} {ln : Nat → Nat} {u : Nat → Nat → Nat} {T : Nat} {t : Nat → Nat} {tp bt : Int64} {s0 x0 : Int32}  (hC : ClsI cI cJ cZ cW ad g q Wt w ln u T t tp bt) (hs : SrcI q Wt w ln u T t) (hx0 : x0 < 0 ∨ nI 300 < x0) : Met l yX5_draw wsX5_draw ({ frames := 1, cells := 0, slots := 0, locals := 24 }) (va_Pc [.ref (ad (0)), .int (s0), .int (x0)] (xB D (xT cI cJ cZ cW) ad g)) (va_Qi (fun r g2 => r = 0 ∧ ClsI cI cJ cZ cW ad g2 q Wt w ln u T t tp bt ∧ ∀ i : Nat, 62 ≤ i → g2 i = g i) (xB D (xT cI cJ cZ cW) ad) A) 0 0 A := by
  refine Met.ofW (cc := cX5_draw) (maxL := 5) (ret := (some .int)) (by decide) rfl ?_
  intro p e s m args below meth c s₁ B hml hv
  obtain ⟨rfl, hP, hK, hN⟩ := hv
  have hx := B.exec
  have hb := B.bytes
  have hr := B.returns
  have hts := atoms_spec (ws := wsX5_draw) B.pre
  have hown : s.vm.findClass RX5 = some m.cls := findClass_of_methodNamed B.named
  have hlocks := B.notSynchronized
  have hS : va_S A s.heap s.heap [] := va_S.rf
  have hl := lv_entry ([.ref (ad (0)), .int (s0), .int (x0)]) (n := 5) (Nat.le_of_ble_eq_true rfl)
  rw [lg_entry_eq]
  generalize (lg_sl ([.ref (ad (0)), .int (s0), .int (x0)]) ++ List.replicate (5 - (lg_sl ([.ref (ad (0)), .int (s0), .int (x0)])).length) Slot.unset).toArray = ls at hl ⊢
  have hl : lv_has ls 5 [(0, .ref (ad (0))), (1, .int (s0)), (2, .int (x0))] := hl
  obtain ⟨hq2, hq4, hw1, hw0, hWs, hWt, hw, hln, hul, hT, ht⟩ := hs
  obtain ⟨fo_0, ⟨f2, fo_1, fa_2, h2⟩, ⟨f3, fa_3, h3⟩, hRace, hMach, ⟨f16, fo15, fa16, h16⟩, hwd, hcand⟩ := id hC
  have hWp : 1 ≤ Wt ∧ Wt ≤ 4 := by have h8 := hw1 0 (by omega); have h9 := wsum_mono (w := w) (show 1 ≤ q by omega); have h7 : wsum w 1 = 0 + w 0 := rfl; omega
  refine lv_iload_n hx hb dX5_draw_0 rfl (lv_at hl 2 rfl) ?_
  refine lv_if_lt (tgt := 11) hx hb dX5_draw_1 (by decide) (fun c1_1 => ?_) (fun c1_1 => ?_)
  · refine lv_iconst (v := nI (0)) hx hb dX5_draw_11 (by decide) ?_
    exact W.iret (v := nI (0)) hx hb hr (fun tZ ht hW => ⟨⟨_, g, rfl, ⟨rfl, hC, fun _ _ => rfl⟩, by rw [ht]; exact hP, va_K.moved hW.alike hK, va_Nw.warmM hW hN⟩, hS.F ht⟩) hS.2.2 dX5_draw_12
  · refine lv_iload_n hx hb dX5_draw_4 rfl (lv_at hl 2 rfl) ?_
    refine lv_sipush (v := nI (300)) hx hb dX5_draw_5 (by decide) ?_
    refine lv_icmp_le (tgt := 13) hx hb dX5_draw_8 (by decide) (fun c8_2 => ?_) (fun c8_2 => ?_)
    · exact absurd hx0 (by rintro (h | h); exact c1_1 h; exact absurd c8_2 (by rw [Int32.not_le]; exact h))
    · refine lv_iconst (v := nI (0)) hx hb dX5_draw_11 (by decide) ?_
      exact W.iret (v := nI (0)) hx hb hr (fun tZ ht hW => ⟨⟨_, g, rfl, ⟨rfl, hC, fun _ _ => rfl⟩, by rw [ht]; exact hP, va_K.moved hW.alike hK, va_Nw.warmM hW hN⟩, hS.F ht⟩) hS.2.2 dX5_draw_12
