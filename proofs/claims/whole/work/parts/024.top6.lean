def wt4 (a b c d : Nat) : Nat → Nat := fun j => if j = 0 then a else if j = 1 then b else if j = 2 then c else if j = 3 then d else 0
theorem wt4_ok {f : Nat → Int32} {xa xb xc xd : Int32} {a b c d : Nat} (ha : xa = nI a) (hb : xb = nI b) (hc : xc = nI c) (hd : xd = nI d) : ∀ j, j < 4 → upd (upd (upd (upd f 0 xa) 1 xb) 2 xc) 3 xd j = nI (wt4 a b c d j) := by
  intro j hj
  rcases (show j = 0 ∨ j = 1 ∨ j = 2 ∨ j = 3 by omega) with rfl | rfl | rfl | rfl
  · rw [pk_un (by decide), pk_un (by decide), pk_un (by decide), pk_us]; exact ha
  · rw [pk_un (by decide), pk_un (by decide), pk_us]; exact hb
  · rw [pk_un (by decide), pk_us]; exact hc
  · rw [pk_us]; exact hd
set_option maxHeartbeats 4000000 in
set_option maxRecDepth 100000 in
/-- source, 2 letters -/
theorem mX5_source2 (l : Launch) {D : va_G} {cI cJ cZ cW : ClassId} {ad : Nat → Nat} {A : Nat → Prop} (hD : ∀ g, va_D A (xw 81 ad g)) {g : Nat → va_E} {q Wt : Nat} {w : Nat → Nat} {ln : Nat → Nat} {u : Nat → Nat → Nat} {T : Nat} {t : Nat → Nat} {tp bt : Int64} {xa xb xc xd : Int32}  (hC : ClsI cI cJ cZ cW ad g q Wt w ln u T t tp bt) (hs : SrcI q Wt w ln u T t) : Met l yX5_source wsX5_source ({ frames := 2, cells := 0, slots := 0, locals := 48 }) (va_Pc [.ref (ad (0)), .int (nI (2)), .int (xa), .int (xb), .int (xc), .int (xd)] (xB D (xT cI cJ cZ cW) ad g)) (va_Qi (fun r g2 => (r = nI (hf xa + hf xb + 0 + 0) ∧ hf xa + hf xb + 0 + 0 ≤ 4 ∧ ClsI cI cJ cZ cW ad g2 2 (hf xa + hf xb + 0 + 0) (wt4 (hf xa) (hf xb) (0) (0)) (fun _ => 0) u 0 t tp bt ∧ ∀ j : Nat, 62 ≤ j → g2 j = g j) ∨ (r = -1 ∧ 4 < hf xa + hf xb + 0 + 0 ∧ ClsI cI cJ cZ cW ad g2 q Wt w ln u T t tp bt ∧ ∀ i : Nat, 62 ≤ i → g2 i = g i)) (xB D (xT cI cJ cZ cW) ad) A) 0 0 A := by
  refine Met.ofW (cc := cX5_source) (maxL := 7) (ret := (some .int)) (by decide) rfl ?_
  intro p e s m args below meth c s₁ B hml hv
  obtain ⟨rfl, hP, hK, hN⟩ := hv
  have hx := B.exec
  have hb := B.bytes
  have hr := B.returns
  have hts := atoms_spec (ws := wsX5_source) B.pre
  have hown : s.vm.findClass RX5 = some m.cls := findClass_of_methodNamed B.named
  have hlocks := B.notSynchronized
  have hS : va_S A s.heap s.heap [] := va_S.rf
  have hin0 : ∀ w ∈ wsX00, w ∈ wsX5_source := by decide +kernel
  have hin5 : ∀ w ∈ wsX50, w ∈ wsX5_source := by decide +kernel
  have hf12 := hts (.fieldLink RX5 12 "LettersByLot" "lot" "LLettersByLot$Lot;") (by decide +kernel)
  have hf18 := hts (.fieldLink RX5 18 "LettersByLot" "words" "[LLettersByLot$Word;") (by decide +kernel)
  have hf44 := hts (.fieldLink RX5 44 "LettersByLot" "text" "LLettersByLot$Text;") (by decide +kernel)
  have hf63 := hts (.fieldLink RX5 63 "LettersByLot$Lot" "total" "I") (by decide +kernel)
  have hl := lv_entry ([.ref (ad (0)), .int (nI (2)), .int (xa), .int (xb), .int (xc), .int (xd)]) (n := 7) (Nat.le_of_ble_eq_true rfl)
  rw [lg_entry_eq]
  generalize (lg_sl ([.ref (ad (0)), .int (nI (2)), .int (xa), .int (xb), .int (xc), .int (xd)]) ++ List.replicate (7 - (lg_sl ([.ref (ad (0)), .int (nI (2)), .int (xa), .int (xb), .int (xc), .int (xd)])).length) Slot.unset).toArray = ls at hl ⊢
  have hl : lv_has ls 7 [(0, .ref (ad (0))), (1, .int (nI (2))), (2, .int (xa)), (3, .int (xb)), (4, .int (xc)), (5, .int (xd))] := hl
  obtain ⟨hq2, hq4, hw1, hw0, hWs, hWt, hw, hln, hul, hT, ht⟩ := hs
  obtain ⟨fo_0, ⟨f2, fo_1, fa_2, h2⟩, ⟨f3, fa_3, h3⟩, hRace, hMach, ⟨f16, fo15, fa16, h16⟩, hwd, hcand⟩ := id hC
  have hWp : 1 ≤ Wt ∧ Wt ≤ 4 := by have h8 := hw1 0 (by omega); have h9 := wsum_mono (w := w) (show 1 ≤ q by omega); have h7 : wsum w 1 = 0 + w 0 := rfl; omega
  refine lv_aload_n hx hb dX5_source_0 rfl (lv_at hl 0 rfl) ?_
  refine xw_get hx hb hts hin5 hown hK hP (by decide) fo_0 rfl 0 (by decide) hf12 rfl rfl dX5_source_1 ?_
  refine lv_iload_n hx hb dX5_source_4 rfl (lv_at hl 1 rfl) ?_
  refine lv_iload_n hx hb dX5_source_5 rfl (lv_at hl 2 rfl) ?_
  refine lv_iload_n hx hb dX5_source_6 rfl (lv_at hl 3 rfl) ?_
  refine lv_iload hx hb dX5_source_7 (lv_at hl 4 rfl) ?_
  refine lv_iload hx hb dX5_source_9 (lv_at hl 5 rfl) ?_
  refine va_calli (va_runV (As := [.int (nI (2)), .int (xa), .int (xb), .int (xc), .int (xd)]) (rest := []) ⟨hx, hb, hml, hown, hts⟩ (mX0_become2 l hD fo_1 fa_2) (cwV 5 hts gX5_source_X0_become rfl rfl rfl (by decide +kernel) ⟨Nat.le_of_ble_eq_true rfl, Nat.le_of_ble_eq_true rfl⟩) ⟨xB_blind, va_recv hK hP (ci := 0) rfl (xw_is (by decide) fo_1), fun U hU hW => ⟨rfl, by rw [hU]; exact hP, va_K.moved hW.alike hK, va_Nw.warmM hW hN⟩⟩ rfl rfl hl.1 rfl (lv_room (Nat.le_of_ble_eq_true rfl)) dX5_source_11 ⟨Nat.le_of_ble_eq_true rfl, Nat.le_of_ble_eq_true rfl⟩) hS (fun _ _ h => h) (fun _ h => h) (fun r1 gb tZ H locs ht1 hvm hwb hB hzZ hkZ hS => ?_)
  obtain ⟨hP, -⟩ := hB
  rw [ht1] at hP
  rcases hwb with ⟨er1, hS4, fb1, fb2, hcb⟩ | ⟨er1, hS4, eg⟩
  · subst er1
    have fb_0 : gb (0) = .inr (5, [.ref (ad (1)), .ref (ad (3)), .ref (ad (57)), .ref (ad (4)), .ref (ad (8)), .ref (ad (15)), .long (tp), .long (bt)]) := (hcb (0) (by decide) (by decide)).trans fo_0
    have fb_15 : gb (15) = .inr (3, [.ref (ad (16)), .int (nI (T))]) := (hcb (15) (by decide) (by decide)).trans fo15
    have fb_16 : gb (16) = .inl (cI, 300, .inl (f16)) := (hcb (16) (by decide) (by decide)).trans fa16
    have fb_3 : gb (3) = .inl (cW, 8, .inr (.inr (.inr (.inr (f3))))) := (hcb (3) (by decide) (by decide)).trans fa_3
    refine xi_if_ne (tgt := 19) hx hb (by decide) dX5_source_14 (by decide) (fun _ => ?_) (fun c0 => absurd c0 (by decide))
    refine lv_iconst (v := nI (0)) hx hb dX5_source_19 (by decide) ?_
    refine lv_istore (lv' := [(6, .int (nI (0))), (0, .ref (ad (0))), (1, .int (nI (2))), (2, .int (xa)), (3, .int (xb)), (4, .int (xc)), (5, .int (xd))]) hx hb dX5_source_20 hl (by decide) rfl (fun ls hl => ?_)
    refine xloopW (G := fun H locs fr => W p l e _ s m _ below meth c H locs _ _ _ fr) (σ := Nat) (fun i ls => F0 m 22 ls []) (fun i gl22_2 H locs ls => (i ≤ 8) ∧ (∀ k, k < i → ∃ (co : Int32) (ow : Int64), gl22_2 (17 + 5 * k) = .inr (4, [.ref (ad (17 + 5 * k + 1)), .ref (ad (17 + 5 * k + 2)), .ref (ad (17 + 5 * k + 3)), .ref (ad (17 + 5 * k + 4)), .int (nI (0)), .int (co), .long (ow)])) ∧ (∀ j : Nat, j ≠ 1 → j ≠ 2 → (∀ k, k < i → j ≠ 17 + 5 * k) → gl22_2 j = g j) ∧ gl22_2 (0) = .inr (5, [.ref (ad (1)), .ref (ad (3)), .ref (ad (57)), .ref (ad (4)), .ref (ad (8)), .ref (ad (15)), .long (tp), .long (bt)]) ∧ gl22_2 (1) = .inr (0, [.ref (ad (2)), .int (nI (2)), .int (nI (hf xa + hf xb + 0 + 0))]) ∧ gl22_2 (2) = .inl (cI, 4, .inl (upd (upd (upd (upd (f2) (0) (xa)) (1) (xb)) (2) (nI (0))) (3) (nI (0)))) ∧ gl22_2 (3) = .inl (cW, 8, .inr (.inr (.inr (.inr (f3))))) ∧ gl22_2 (15) = .inr (3, [.ref (ad (16)), .int (nI (T))]) ∧ gl22_2 (16) = .inl (cI, 300, .inl (f16)) ∧ va_P D vwCl (xw 81 ad gl22_2) H ∧ va_S A s.heap H locs ∧ lv_has ls 7 [(0, .ref (ad (0))), (6, .int (nI (i)))]) (fun i => 9 - i) ?_ (0) gb H locs ls ⟨(by omega), (fun k hk => absurd hk (by omega)), (fun j h1 h2 _ => hcb j h1 h2), fb_0, fb1, fb2, fb_3, fb_15, fb_16, hP, hS, (lv_sub hl [1, 0] rfl)⟩
    rintro i gl22_2 H locs ls ⟨hi, hAw, hBf, fo_0, fo_1, fa_2, fa_3, fo15, fa16, hP, hS, hl⟩ ih22
    refine lv_iload hx hb dX5_source_22 (lv_at hl 1 rfl) ?_
    refine lv_aload_n hx hb dX5_source_24 rfl (lv_at hl 0 rfl) ?_
    refine xw_get hx hb hts hin5 hown hK hP (by decide) fo_0 rfl 1 (by decide) hf18 rfl rfl dX5_source_25 ?_
    refine xw_alen hx hb hK hP (by decide) 3 fa_3 rfl dX5_source_28 ?_
    refine xi_icmp_ge (tgt := 48) hx hb (by omega) (by decide) dX5_source_29 (by decide) (fun c29_3 => ?_) (fun c29_3 => ?_)
    · have hi8 : i = 8 := by omega
      subst hi8
      refine lv_aload_n hx hb dX5_source_48 rfl (lv_at hl 0 rfl) ?_
      refine xw_get hx hb hts hin5 hown hK hP (by decide) fo_0 rfl 5 (by decide) hf44 rfl rfl dX5_source_49 ?_
      refine va_callv (va_runV (As := []) (rest := []) ⟨hx, hb, hml, hown, hts⟩ (mX3_clear l hD fo15) (cwV 0 hts gX5_source_X3_clear rfl rfl rfl (by decide +kernel) ⟨Nat.le_of_ble_eq_true rfl, Nat.le_of_ble_eq_true rfl⟩) ⟨xB_blind, va_recv hK hP (ci := 3) rfl (xw_is (by decide) fo15), fun U hU hW => ⟨rfl, by rw [hU]; exact hP, va_K.moved hW.alike hK, va_Nw.warmM hW hN⟩⟩ rfl rfl hl.1 rfl (lv_room (Nat.le_of_ble_eq_true rfl)) dX5_source_52 ⟨Nat.le_of_ble_eq_true rfl, Nat.le_of_ble_eq_true rfl⟩) hS (fun _ _ h => h) (fun _ h => h) (fun g4 tZ H locs ht hvm hwg4 hB hzZ hkZ hS => ?_)
      obtain ⟨hP, -⟩ := hB
      rw [ht] at hP
      obtain ⟨fg4_n0, hcg4⟩ := hwg4
      have fg4_k0 : g4 (0) = .inr (5, [.ref (ad (1)), .ref (ad (3)), .ref (ad (57)), .ref (ad (4)), .ref (ad (8)), .ref (ad (15)), .long (tp), .long (bt)]) := (hcg4 (0) (by decide)).trans fo_0
      have fg4_k1 : g4 (1) = .inr (0, [.ref (ad (2)), .int (nI (2)), .int (nI (hf xa + hf xb + 0 + 0))]) := (hcg4 (1) (by decide)).trans fo_1
      have fg4_k2 : g4 (2) = .inl (cI, 4, .inl (upd (upd (upd (upd (f2) (0) (xa)) (1) (xb)) (2) (nI (0))) (3) (nI (0)))) := (hcg4 (2) (by decide)).trans fa_2
      have fg4_k3 : g4 (3) = .inl (cW, 8, .inr (.inr (.inr (.inr (f3))))) := (hcg4 (3) (by decide)).trans fa_3
      have fg4_k4 : g4 (16) = .inl (cI, 300, .inl (f16)) := (hcg4 (16) (by decide)).trans fa16
      refine lv_aload_n hx hb dX5_source_55 rfl (lv_at hl 0 rfl) ?_
      refine xw_get hx hb hts hin5 hown hK hP (by decide) fg4_k0 rfl 0 (by decide) hf12 rfl rfl dX5_source_56 ?_
      refine xw_get hx hb hts hin0 hown hK hP (by decide) fg4_k1 rfl 2 (by decide) hf63 rfl rfl dX5_source_59 ?_
      exact W.iret (v := nI (hf xa + hf xb + 0 + 0)) hx hb hr (fun tZ ht hW => ⟨⟨_, g4, rfl, (by have a1 := hf_1 xa; have a2 := hf_1 xb; have a3 := hf_1 xc; have a4 := hf_1 xd; have hE : ∀ j : Nat, j ≠ 15 → j ≠ 1 → j ≠ 2 → (∀ k, k < 8 → j ≠ 17 + 5 * k) → g4 j = g j := fun j h5 h1 h2 h9 => (hcg4 j h5).trans (hBf j h1 h2 h9); exact Or.inl ⟨rfl, by omega, ⟨fg4_k0, ⟨_, fg4_k1, fg4_k2, wt4_ok (hf_eq (by omega)) (hf_eq (by omega)) rfl rfl⟩, ⟨f3, fg4_k3, h3⟩, hRace.to (hE 4 (by decide) (by decide) (by decide) (by omega)) (hE 5 (by decide) (by decide) (by decide) (by omega)) (hE 6 (by decide) (by decide) (by decide) (by omega)) (hE 7 (by decide) (by decide) (by decide) (by omega)), hMach.to (fun j _ _ => hE j (by omega) (by omega) (by omega) (by omega)), ⟨_, fg4_n0, fg4_k4, fun j hj => absurd hj (by omega)⟩, fun k hk => by obtain ⟨c9, o9, h9⟩   := hAw k hk; exact WordI.none (hwd k hk) ((hcg4 _ (by omega)).trans h9) (fun j _ _ => hE j (by omega) (by omega) (by omega) (fun k2 _ => by omega)), hcand.to (fun j _ _ => hE j (by omega) (by omega) (by omega) (by omega))⟩, fun j hj => hE j (by omega) (by omega) (by omega) (by omega)⟩), by rw [ht]; exact hP, va_K.moved hW.alike hK, va_Nw.warmM hW hN⟩, hS.F ht⟩) hS.2.2 dX5_source_62
    · refine lv_aload_n hx hb dX5_source_32 rfl (lv_at hl 0 rfl) ?_
      refine xw_get hx hb hts hin5 hown hK hP (by decide) fo_0 rfl 1 (by decide) hf18 rfl rfl dX5_source_33 ?_
      refine lv_iload hx hb dX5_source_36 (lv_at hl 1 rfl) ?_
      refine xw_aald hx hb hK hP (by decide) 3 fa_3 rfl (by omega) (by decide) (v := .ref (ad (17 + 5 * i))) (by rw [h3 i (by omega)]; rfl) dX5_source_38 ?_
      obtain ⟨flw, fhw, ftw, fsw, cow, oww, hwo, -⟩ := (hwd i (by omega)).raw
      have fwo : gl22_2 (17 + 5 * i) = .inr (4, [.ref (ad (17 + 5 * i + 1)), .ref (ad (17 + 5 * i + 2)), .ref (ad (17 + 5 * i + 3)), .ref (ad (17 + 5 * i + 4)), .int (nI (ln i)), .int (cow), .long (oww)]) := (hBf (17 + 5 * i) (by omega) (by omega) (fun k hk => by omega)).trans hwo
      refine va_callv (va_runV (As := []) (rest := []) ⟨hx, hb, hml, hown, hts⟩ (mX4_clear l hD fwo (by omega)) (cwV 0 hts gX5_source_X4_clear rfl rfl rfl (by decide +kernel) ⟨Nat.le_of_ble_eq_true rfl, Nat.le_of_ble_eq_true rfl⟩) ⟨xB_blind, va_recv hK hP (ci := 4) rfl (xw_is (by omega) fwo), fun U hU hW => ⟨rfl, by rw [hU]; exact hP, va_K.moved hW.alike hK, va_Nw.warmM hW hN⟩⟩ rfl rfl hl.1 rfl (lv_room (Nat.le_of_ble_eq_true rfl)) dX5_source_39 ⟨Nat.le_of_ble_eq_true rfl, Nat.le_of_ble_eq_true rfl⟩) hS (fun _ _ h => h) (fun _ h => h) (fun g6 tZ H locs ht hvm hwg6 hB hzZ hkZ hS => ?_)
      obtain ⟨hP, -⟩ := hB
      rw [ht] at hP
      obtain ⟨fg6_n0, hcg6⟩ := hwg6
      have fg6_k0 : g6 (0) = .inr (5, [.ref (ad (1)), .ref (ad (3)), .ref (ad (57)), .ref (ad (4)), .ref (ad (8)), .ref (ad (15)), .long (tp), .long (bt)]) := (hcg6 (0) (by omega)).trans fo_0
      have fg6_k1 : g6 (1) = .inr (0, [.ref (ad (2)), .int (nI (2)), .int (nI (hf xa + hf xb + 0 + 0))]) := (hcg6 (1) (by omega)).trans fo_1
      have fg6_k2 : g6 (2) = .inl (cI, 4, .inl (upd (upd (upd (upd (f2) (0) (xa)) (1) (xb)) (2) (nI (0))) (3) (nI (0)))) := (hcg6 (2) (by omega)).trans fa_2
      have fg6_k3 : g6 (3) = .inl (cW, 8, .inr (.inr (.inr (.inr (f3))))) := (hcg6 (3) (by omega)).trans fa_3
      have fg6_k4 : g6 (15) = .inr (3, [.ref (ad (16)), .int (nI (T))]) := (hcg6 (15) (by omega)).trans fo15
      have fg6_k5 : g6 (16) = .inl (cI, 300, .inl (f16)) := (hcg6 (16) (by omega)).trans fa16
      refine lv_iinc (v := nI (i + 1)) (lv' := [(6, .int (nI (i + 1))), (0, .ref (ad (0)))]) hx hb dX5_source_42 hl (k := 1) rfl (nI_add (i) 1) (by decide) rfl (fun ls hl => ?_)
      refine lv_goto (tgt := 22) hx hb dX5_source_45 (by decide) ?_
      exact ih22 (i + 1) g6 H locs ls ⟨(by omega), (fun k hk => if e : k = i then by subst e; exact ⟨_, _, fg6_n0⟩ else by obtain ⟨c9, o9, h9⟩   := hAw k (by omega); exact ⟨c9, o9, (hcg6 _ (by omega)).trans h9⟩), (fun j h1 h2 h9 => (hcg6 j (h9 i (by omega))).trans (hBf j h1 h2 (fun k hk => h9 k (by omega)))), fg6_k0, fg6_k1, fg6_k2, fg6_k3, fg6_k4, fg6_k5, hP, hS, (lv_sub hl [1, 0] rfl)⟩ (by first | omega | (dsimp only; omega))
  · subst er1
    rw [eg] at hP
    refine xi_if_ne (tgt := 19) hx hb (by decide) dX5_source_14 (by decide) (fun c0 => absurd c0 (by decide)) (fun _ => ?_)
    refine lv_iconst (v := (-1)) hx hb dX5_source_17 (by decide) ?_
    exact W.iret (v := (-1)) hx hb hr (fun tZ ht hW => ⟨⟨_, g, rfl, Or.inr ⟨rfl, by omega, hC, fun _ _ => rfl⟩, by rw [ht]; exact hP, va_K.moved hW.alike hK, va_Nw.warmM hW hN⟩, hS.F ht⟩) hS.2.2 dX5_source_18

set_option maxHeartbeats 4000000 in
set_option maxRecDepth 100000 in
/-- source, 3 letters -/
theorem mX5_source3 (l : Launch) {D : va_G} {cI cJ cZ cW : ClassId} {ad : Nat → Nat} {A : Nat → Prop} (hD : ∀ g, va_D A (xw 81 ad g)) {g : Nat → va_E} {q Wt : Nat} {w : Nat → Nat} {ln : Nat → Nat} {u : Nat → Nat → Nat} {T : Nat} {t : Nat → Nat} {tp bt : Int64} {xa xb xc xd : Int32}  (hC : ClsI cI cJ cZ cW ad g q Wt w ln u T t tp bt) (hs : SrcI q Wt w ln u T t) : Met l yX5_source wsX5_source ({ frames := 2, cells := 0, slots := 0, locals := 48 }) (va_Pc [.ref (ad (0)), .int (nI (3)), .int (xa), .int (xb), .int (xc), .int (xd)] (xB D (xT cI cJ cZ cW) ad g)) (va_Qi (fun r g2 => (r = nI (hf xa + hf xb + hf xc + 0) ∧ hf xa + hf xb + hf xc + 0 ≤ 4 ∧ ClsI cI cJ cZ cW ad g2 3 (hf xa + hf xb + hf xc + 0) (wt4 (hf xa) (hf xb) (hf xc) (0)) (fun _ => 0) u 0 t tp bt ∧ ∀ j : Nat, 62 ≤ j → g2 j = g j) ∨ (r = -1 ∧ 4 < hf xa + hf xb + hf xc + 0 ∧ ClsI cI cJ cZ cW ad g2 q Wt w ln u T t tp bt ∧ ∀ i : Nat, 62 ≤ i → g2 i = g i)) (xB D (xT cI cJ cZ cW) ad) A) 0 0 A := by
  refine Met.ofW (cc := cX5_source) (maxL := 7) (ret := (some .int)) (by decide) rfl ?_
  intro p e s m args below meth c s₁ B hml hv
  obtain ⟨rfl, hP, hK, hN⟩ := hv
  have hx := B.exec
  have hb := B.bytes
  have hr := B.returns
  have hts := atoms_spec (ws := wsX5_source) B.pre
  have hown : s.vm.findClass RX5 = some m.cls := findClass_of_methodNamed B.named
  have hlocks := B.notSynchronized
  have hS : va_S A s.heap s.heap [] := va_S.rf
  have hin0 : ∀ w ∈ wsX00, w ∈ wsX5_source := by decide +kernel
  have hin5 : ∀ w ∈ wsX50, w ∈ wsX5_source := by decide +kernel
  have hf12 := hts (.fieldLink RX5 12 "LettersByLot" "lot" "LLettersByLot$Lot;") (by decide +kernel)
  have hf18 := hts (.fieldLink RX5 18 "LettersByLot" "words" "[LLettersByLot$Word;") (by decide +kernel)
  have hf44 := hts (.fieldLink RX5 44 "LettersByLot" "text" "LLettersByLot$Text;") (by decide +kernel)
  have hf63 := hts (.fieldLink RX5 63 "LettersByLot$Lot" "total" "I") (by decide +kernel)
  have hl := lv_entry ([.ref (ad (0)), .int (nI (3)), .int (xa), .int (xb), .int (xc), .int (xd)]) (n := 7) (Nat.le_of_ble_eq_true rfl)
  rw [lg_entry_eq]
  generalize (lg_sl ([.ref (ad (0)), .int (nI (3)), .int (xa), .int (xb), .int (xc), .int (xd)]) ++ List.replicate (7 - (lg_sl ([.ref (ad (0)), .int (nI (3)), .int (xa), .int (xb), .int (xc), .int (xd)])).length) Slot.unset).toArray = ls at hl ⊢
  have hl : lv_has ls 7 [(0, .ref (ad (0))), (1, .int (nI (3))), (2, .int (xa)), (3, .int (xb)), (4, .int (xc)), (5, .int (xd))] := hl
  obtain ⟨hq2, hq4, hw1, hw0, hWs, hWt, hw, hln, hul, hT, ht⟩ := hs
  obtain ⟨fo_0, ⟨f2, fo_1, fa_2, h2⟩, ⟨f3, fa_3, h3⟩, hRace, hMach, ⟨f16, fo15, fa16, h16⟩, hwd, hcand⟩ := id hC
  have hWp : 1 ≤ Wt ∧ Wt ≤ 4 := by have h8 := hw1 0 (by omega); have h9 := wsum_mono (w := w) (show 1 ≤ q by omega); have h7 : wsum w 1 = 0 + w 0 := rfl; omega
  refine lv_aload_n hx hb dX5_source_0 rfl (lv_at hl 0 rfl) ?_
  refine xw_get hx hb hts hin5 hown hK hP (by decide) fo_0 rfl 0 (by decide) hf12 rfl rfl dX5_source_1 ?_
  refine lv_iload_n hx hb dX5_source_4 rfl (lv_at hl 1 rfl) ?_
  refine lv_iload_n hx hb dX5_source_5 rfl (lv_at hl 2 rfl) ?_
  refine lv_iload_n hx hb dX5_source_6 rfl (lv_at hl 3 rfl) ?_
  refine lv_iload hx hb dX5_source_7 (lv_at hl 4 rfl) ?_
  refine lv_iload hx hb dX5_source_9 (lv_at hl 5 rfl) ?_
  refine va_calli (va_runV (As := [.int (nI (3)), .int (xa), .int (xb), .int (xc), .int (xd)]) (rest := []) ⟨hx, hb, hml, hown, hts⟩ (mX0_become3 l hD fo_1 fa_2) (cwV 5 hts gX5_source_X0_become rfl rfl rfl (by decide +kernel) ⟨Nat.le_of_ble_eq_true rfl, Nat.le_of_ble_eq_true rfl⟩) ⟨xB_blind, va_recv hK hP (ci := 0) rfl (xw_is (by decide) fo_1), fun U hU hW => ⟨rfl, by rw [hU]; exact hP, va_K.moved hW.alike hK, va_Nw.warmM hW hN⟩⟩ rfl rfl hl.1 rfl (lv_room (Nat.le_of_ble_eq_true rfl)) dX5_source_11 ⟨Nat.le_of_ble_eq_true rfl, Nat.le_of_ble_eq_true rfl⟩) hS (fun _ _ h => h) (fun _ h => h) (fun r1 gb tZ H locs ht1 hvm hwb hB hzZ hkZ hS => ?_)
  obtain ⟨hP, -⟩ := hB
  rw [ht1] at hP
  rcases hwb with ⟨er1, hS4, fb1, fb2, hcb⟩ | ⟨er1, hS4, eg⟩
  · subst er1
    have fb_0 : gb (0) = .inr (5, [.ref (ad (1)), .ref (ad (3)), .ref (ad (57)), .ref (ad (4)), .ref (ad (8)), .ref (ad (15)), .long (tp), .long (bt)]) := (hcb (0) (by decide) (by decide)).trans fo_0
    have fb_15 : gb (15) = .inr (3, [.ref (ad (16)), .int (nI (T))]) := (hcb (15) (by decide) (by decide)).trans fo15
    have fb_16 : gb (16) = .inl (cI, 300, .inl (f16)) := (hcb (16) (by decide) (by decide)).trans fa16
    have fb_3 : gb (3) = .inl (cW, 8, .inr (.inr (.inr (.inr (f3))))) := (hcb (3) (by decide) (by decide)).trans fa_3
    refine xi_if_ne (tgt := 19) hx hb (by decide) dX5_source_14 (by decide) (fun _ => ?_) (fun c0 => absurd c0 (by decide))
    refine lv_iconst (v := nI (0)) hx hb dX5_source_19 (by decide) ?_
    refine lv_istore (lv' := [(6, .int (nI (0))), (0, .ref (ad (0))), (1, .int (nI (3))), (2, .int (xa)), (3, .int (xb)), (4, .int (xc)), (5, .int (xd))]) hx hb dX5_source_20 hl (by decide) rfl (fun ls hl => ?_)
    refine xloopW (G := fun H locs fr => W p l e _ s m _ below meth c H locs _ _ _ fr) (σ := Nat) (fun i ls => F0 m 22 ls []) (fun i gl22_2 H locs ls => (i ≤ 8) ∧ (∀ k, k < i → ∃ (co : Int32) (ow : Int64), gl22_2 (17 + 5 * k) = .inr (4, [.ref (ad (17 + 5 * k + 1)), .ref (ad (17 + 5 * k + 2)), .ref (ad (17 + 5 * k + 3)), .ref (ad (17 + 5 * k + 4)), .int (nI (0)), .int (co), .long (ow)])) ∧ (∀ j : Nat, j ≠ 1 → j ≠ 2 → (∀ k, k < i → j ≠ 17 + 5 * k) → gl22_2 j = g j) ∧ gl22_2 (0) = .inr (5, [.ref (ad (1)), .ref (ad (3)), .ref (ad (57)), .ref (ad (4)), .ref (ad (8)), .ref (ad (15)), .long (tp), .long (bt)]) ∧ gl22_2 (1) = .inr (0, [.ref (ad (2)), .int (nI (3)), .int (nI (hf xa + hf xb + hf xc + 0))]) ∧ gl22_2 (2) = .inl (cI, 4, .inl (upd (upd (upd (upd (f2) (0) (xa)) (1) (xb)) (2) (xc)) (3) (nI (0)))) ∧ gl22_2 (3) = .inl (cW, 8, .inr (.inr (.inr (.inr (f3))))) ∧ gl22_2 (15) = .inr (3, [.ref (ad (16)), .int (nI (T))]) ∧ gl22_2 (16) = .inl (cI, 300, .inl (f16)) ∧ va_P D vwCl (xw 81 ad gl22_2) H ∧ va_S A s.heap H locs ∧ lv_has ls 7 [(0, .ref (ad (0))), (6, .int (nI (i)))]) (fun i => 9 - i) ?_ (0) gb H locs ls ⟨(by omega), (fun k hk => absurd hk (by omega)), (fun j h1 h2 _ => hcb j h1 h2), fb_0, fb1, fb2, fb_3, fb_15, fb_16, hP, hS, (lv_sub hl [1, 0] rfl)⟩
    rintro i gl22_2 H locs ls ⟨hi, hAw, hBf, fo_0, fo_1, fa_2, fa_3, fo15, fa16, hP, hS, hl⟩ ih22
    refine lv_iload hx hb dX5_source_22 (lv_at hl 1 rfl) ?_
    refine lv_aload_n hx hb dX5_source_24 rfl (lv_at hl 0 rfl) ?_
    refine xw_get hx hb hts hin5 hown hK hP (by decide) fo_0 rfl 1 (by decide) hf18 rfl rfl dX5_source_25 ?_
    refine xw_alen hx hb hK hP (by decide) 3 fa_3 rfl dX5_source_28 ?_
    refine xi_icmp_ge (tgt := 48) hx hb (by omega) (by decide) dX5_source_29 (by decide) (fun c29_3 => ?_) (fun c29_3 => ?_)
    · have hi8 : i = 8 := by omega
      subst hi8
      refine lv_aload_n hx hb dX5_source_48 rfl (lv_at hl 0 rfl) ?_
      refine xw_get hx hb hts hin5 hown hK hP (by decide) fo_0 rfl 5 (by decide) hf44 rfl rfl dX5_source_49 ?_
      refine va_callv (va_runV (As := []) (rest := []) ⟨hx, hb, hml, hown, hts⟩ (mX3_clear l hD fo15) (cwV 0 hts gX5_source_X3_clear rfl rfl rfl (by decide +kernel) ⟨Nat.le_of_ble_eq_true rfl, Nat.le_of_ble_eq_true rfl⟩) ⟨xB_blind, va_recv hK hP (ci := 3) rfl (xw_is (by decide) fo15), fun U hU hW => ⟨rfl, by rw [hU]; exact hP, va_K.moved hW.alike hK, va_Nw.warmM hW hN⟩⟩ rfl rfl hl.1 rfl (lv_room (Nat.le_of_ble_eq_true rfl)) dX5_source_52 ⟨Nat.le_of_ble_eq_true rfl, Nat.le_of_ble_eq_true rfl⟩) hS (fun _ _ h => h) (fun _ h => h) (fun g4 tZ H locs ht hvm hwg4 hB hzZ hkZ hS => ?_)
      obtain ⟨hP, -⟩ := hB
      rw [ht] at hP
      obtain ⟨fg4_n0, hcg4⟩ := hwg4
      have fg4_k0 : g4 (0) = .inr (5, [.ref (ad (1)), .ref (ad (3)), .ref (ad (57)), .ref (ad (4)), .ref (ad (8)), .ref (ad (15)), .long (tp), .long (bt)]) := (hcg4 (0) (by decide)).trans fo_0
      have fg4_k1 : g4 (1) = .inr (0, [.ref (ad (2)), .int (nI (3)), .int (nI (hf xa + hf xb + hf xc + 0))]) := (hcg4 (1) (by decide)).trans fo_1
      have fg4_k2 : g4 (2) = .inl (cI, 4, .inl (upd (upd (upd (upd (f2) (0) (xa)) (1) (xb)) (2) (xc)) (3) (nI (0)))) := (hcg4 (2) (by decide)).trans fa_2
      have fg4_k3 : g4 (3) = .inl (cW, 8, .inr (.inr (.inr (.inr (f3))))) := (hcg4 (3) (by decide)).trans fa_3
      have fg4_k4 : g4 (16) = .inl (cI, 300, .inl (f16)) := (hcg4 (16) (by decide)).trans fa16
      refine lv_aload_n hx hb dX5_source_55 rfl (lv_at hl 0 rfl) ?_
      refine xw_get hx hb hts hin5 hown hK hP (by decide) fg4_k0 rfl 0 (by decide) hf12 rfl rfl dX5_source_56 ?_
      refine xw_get hx hb hts hin0 hown hK hP (by decide) fg4_k1 rfl 2 (by decide) hf63 rfl rfl dX5_source_59 ?_
      exact W.iret (v := nI (hf xa + hf xb + hf xc + 0)) hx hb hr (fun tZ ht hW => ⟨⟨_, g4, rfl, (by have a1 := hf_1 xa; have a2 := hf_1 xb; have a3 := hf_1 xc; have a4 := hf_1 xd; have hE : ∀ j : Nat, j ≠ 15 → j ≠ 1 → j ≠ 2 → (∀ k, k < 8 → j ≠ 17 + 5 * k) → g4 j = g j := fun j h5 h1 h2 h9 => (hcg4 j h5).trans (hBf j h1 h2 h9); exact Or.inl ⟨rfl, by omega, ⟨fg4_k0, ⟨_, fg4_k1, fg4_k2, wt4_ok (hf_eq (by omega)) (hf_eq (by omega)) (hf_eq (by omega)) rfl⟩, ⟨f3, fg4_k3, h3⟩, hRace.to (hE 4 (by decide) (by decide) (by decide) (by omega)) (hE 5 (by decide) (by decide) (by decide) (by omega)) (hE 6 (by decide) (by decide) (by decide) (by omega)) (hE 7 (by decide) (by decide) (by decide) (by omega)), hMach.to (fun j _ _ => hE j (by omega) (by omega) (by omega) (by omega)), ⟨_, fg4_n0, fg4_k4, fun j hj => absurd hj (by omega)⟩, fun k hk => by obtain ⟨c9, o9, h9⟩   := hAw k hk; exact WordI.none (hwd k hk) ((hcg4 _ (by omega)).trans h9) (fun j _ _ => hE j (by omega) (by omega) (by omega) (fun k2 _ => by omega)), hcand.to (fun j _ _ => hE j (by omega) (by omega) (by omega) (by omega))⟩, fun j hj => hE j (by omega) (by omega) (by omega) (by omega)⟩), by rw [ht]; exact hP, va_K.moved hW.alike hK, va_Nw.warmM hW hN⟩, hS.F ht⟩) hS.2.2 dX5_source_62
    · refine lv_aload_n hx hb dX5_source_32 rfl (lv_at hl 0 rfl) ?_
      refine xw_get hx hb hts hin5 hown hK hP (by decide) fo_0 rfl 1 (by decide) hf18 rfl rfl dX5_source_33 ?_
      refine lv_iload hx hb dX5_source_36 (lv_at hl 1 rfl) ?_
      refine xw_aald hx hb hK hP (by decide) 3 fa_3 rfl (by omega) (by decide) (v := .ref (ad (17 + 5 * i))) (by rw [h3 i (by omega)]; rfl) dX5_source_38 ?_
      obtain ⟨flw, fhw, ftw, fsw, cow, oww, hwo, -⟩ := (hwd i (by omega)).raw
      have fwo : gl22_2 (17 + 5 * i) = .inr (4, [.ref (ad (17 + 5 * i + 1)), .ref (ad (17 + 5 * i + 2)), .ref (ad (17 + 5 * i + 3)), .ref (ad (17 + 5 * i + 4)), .int (nI (ln i)), .int (cow), .long (oww)]) := (hBf (17 + 5 * i) (by omega) (by omega) (fun k hk => by omega)).trans hwo
      refine va_callv (va_runV (As := []) (rest := []) ⟨hx, hb, hml, hown, hts⟩ (mX4_clear l hD fwo (by omega)) (cwV 0 hts gX5_source_X4_clear rfl rfl rfl (by decide +kernel) ⟨Nat.le_of_ble_eq_true rfl, Nat.le_of_ble_eq_true rfl⟩) ⟨xB_blind, va_recv hK hP (ci := 4) rfl (xw_is (by omega) fwo), fun U hU hW => ⟨rfl, by rw [hU]; exact hP, va_K.moved hW.alike hK, va_Nw.warmM hW hN⟩⟩ rfl rfl hl.1 rfl (lv_room (Nat.le_of_ble_eq_true rfl)) dX5_source_39 ⟨Nat.le_of_ble_eq_true rfl, Nat.le_of_ble_eq_true rfl⟩) hS (fun _ _ h => h) (fun _ h => h) (fun g6 tZ H locs ht hvm hwg6 hB hzZ hkZ hS => ?_)
      obtain ⟨hP, -⟩ := hB
      rw [ht] at hP
      obtain ⟨fg6_n0, hcg6⟩ := hwg6
      have fg6_k0 : g6 (0) = .inr (5, [.ref (ad (1)), .ref (ad (3)), .ref (ad (57)), .ref (ad (4)), .ref (ad (8)), .ref (ad (15)), .long (tp), .long (bt)]) := (hcg6 (0) (by omega)).trans fo_0
      have fg6_k1 : g6 (1) = .inr (0, [.ref (ad (2)), .int (nI (3)), .int (nI (hf xa + hf xb + hf xc + 0))]) := (hcg6 (1) (by omega)).trans fo_1
      have fg6_k2 : g6 (2) = .inl (cI, 4, .inl (upd (upd (upd (upd (f2) (0) (xa)) (1) (xb)) (2) (xc)) (3) (nI (0)))) := (hcg6 (2) (by omega)).trans fa_2
      have fg6_k3 : g6 (3) = .inl (cW, 8, .inr (.inr (.inr (.inr (f3))))) := (hcg6 (3) (by omega)).trans fa_3
      have fg6_k4 : g6 (15) = .inr (3, [.ref (ad (16)), .int (nI (T))]) := (hcg6 (15) (by omega)).trans fo15
      have fg6_k5 : g6 (16) = .inl (cI, 300, .inl (f16)) := (hcg6 (16) (by omega)).trans fa16
      refine lv_iinc (v := nI (i + 1)) (lv' := [(6, .int (nI (i + 1))), (0, .ref (ad (0)))]) hx hb dX5_source_42 hl (k := 1) rfl (nI_add (i) 1) (by decide) rfl (fun ls hl => ?_)
      refine lv_goto (tgt := 22) hx hb dX5_source_45 (by decide) ?_
      exact ih22 (i + 1) g6 H locs ls ⟨(by omega), (fun k hk => if e : k = i then by subst e; exact ⟨_, _, fg6_n0⟩ else by obtain ⟨c9, o9, h9⟩   := hAw k (by omega); exact ⟨c9, o9, (hcg6 _ (by omega)).trans h9⟩), (fun j h1 h2 h9 => (hcg6 j (h9 i (by omega))).trans (hBf j h1 h2 (fun k hk => h9 k (by omega)))), fg6_k0, fg6_k1, fg6_k2, fg6_k3, fg6_k4, fg6_k5, hP, hS, (lv_sub hl [1, 0] rfl)⟩ (by first | omega | (dsimp only; omega))
  · subst er1
    rw [eg] at hP
    refine xi_if_ne (tgt := 19) hx hb (by decide) dX5_source_14 (by decide) (fun c0 => absurd c0 (by decide)) (fun _ => ?_)
    refine lv_iconst (v := (-1)) hx hb dX5_source_17 (by decide) ?_
    exact W.iret (v := (-1)) hx hb hr (fun tZ ht hW => ⟨⟨_, g, rfl, Or.inr ⟨rfl, by omega, hC, fun _ _ => rfl⟩, by rw [ht]; exact hP, va_K.moved hW.alike hK, va_Nw.warmM hW hN⟩, hS.F ht⟩) hS.2.2 dX5_source_18

set_option maxHeartbeats 4000000 in
set_option maxRecDepth 100000 in
/-- source, 4 letters -/
theorem mX5_source4 (l : Launch) {D : va_G} {cI cJ cZ cW : ClassId} {ad : Nat → Nat} {A : Nat → Prop} (hD : ∀ g, va_D A (xw 81 ad g)) {g : Nat → va_E} {q Wt : Nat} {w : Nat → Nat} {ln : Nat → Nat} {u : Nat → Nat → Nat} {T : Nat} {t : Nat → Nat} {tp bt : Int64} {xa xb xc xd : Int32}  (hC : ClsI cI cJ cZ cW ad g q Wt w ln u T t tp bt) (hs : SrcI q Wt w ln u T t) : Met l yX5_source wsX5_source ({ frames := 2, cells := 0, slots := 0, locals := 48 }) (va_Pc [.ref (ad (0)), .int (nI (4)), .int (xa), .int (xb), .int (xc), .int (xd)] (xB D (xT cI cJ cZ cW) ad g)) (va_Qi (fun r g2 => (r = nI (hf xa + hf xb + hf xc + hf xd) ∧ hf xa + hf xb + hf xc + hf xd ≤ 4 ∧ ClsI cI cJ cZ cW ad g2 4 (hf xa + hf xb + hf xc + hf xd) (wt4 (hf xa) (hf xb) (hf xc) (hf xd)) (fun _ => 0) u 0 t tp bt ∧ ∀ j : Nat, 62 ≤ j → g2 j = g j) ∨ (r = -1 ∧ 4 < hf xa + hf xb + hf xc + hf xd ∧ ClsI cI cJ cZ cW ad g2 q Wt w ln u T t tp bt ∧ ∀ i : Nat, 62 ≤ i → g2 i = g i)) (xB D (xT cI cJ cZ cW) ad) A) 0 0 A := by
  refine Met.ofW (cc := cX5_source) (maxL := 7) (ret := (some .int)) (by decide) rfl ?_
  intro p e s m args below meth c s₁ B hml hv
  obtain ⟨rfl, hP, hK, hN⟩ := hv
  have hx := B.exec
  have hb := B.bytes
  have hr := B.returns
  have hts := atoms_spec (ws := wsX5_source) B.pre
  have hown : s.vm.findClass RX5 = some m.cls := findClass_of_methodNamed B.named
  have hlocks := B.notSynchronized
  have hS : va_S A s.heap s.heap [] := va_S.rf
  have hin0 : ∀ w ∈ wsX00, w ∈ wsX5_source := by decide +kernel
  have hin5 : ∀ w ∈ wsX50, w ∈ wsX5_source := by decide +kernel
  have hf12 := hts (.fieldLink RX5 12 "LettersByLot" "lot" "LLettersByLot$Lot;") (by decide +kernel)
  have hf18 := hts (.fieldLink RX5 18 "LettersByLot" "words" "[LLettersByLot$Word;") (by decide +kernel)
  have hf44 := hts (.fieldLink RX5 44 "LettersByLot" "text" "LLettersByLot$Text;") (by decide +kernel)
  have hf63 := hts (.fieldLink RX5 63 "LettersByLot$Lot" "total" "I") (by decide +kernel)
  have hl := lv_entry ([.ref (ad (0)), .int (nI (4)), .int (xa), .int (xb), .int (xc), .int (xd)]) (n := 7) (Nat.le_of_ble_eq_true rfl)
  rw [lg_entry_eq]
  generalize (lg_sl ([.ref (ad (0)), .int (nI (4)), .int (xa), .int (xb), .int (xc), .int (xd)]) ++ List.replicate (7 - (lg_sl ([.ref (ad (0)), .int (nI (4)), .int (xa), .int (xb), .int (xc), .int (xd)])).length) Slot.unset).toArray = ls at hl ⊢
  have hl : lv_has ls 7 [(0, .ref (ad (0))), (1, .int (nI (4))), (2, .int (xa)), (3, .int (xb)), (4, .int (xc)), (5, .int (xd))] := hl
  obtain ⟨hq2, hq4, hw1, hw0, hWs, hWt, hw, hln, hul, hT, ht⟩ := hs
  obtain ⟨fo_0, ⟨f2, fo_1, fa_2, h2⟩, ⟨f3, fa_3, h3⟩, hRace, hMach, ⟨f16, fo15, fa16, h16⟩, hwd, hcand⟩ := id hC
  have hWp : 1 ≤ Wt ∧ Wt ≤ 4 := by have h8 := hw1 0 (by omega); have h9 := wsum_mono (w := w) (show 1 ≤ q by omega); have h7 : wsum w 1 = 0 + w 0 := rfl; omega
  refine lv_aload_n hx hb dX5_source_0 rfl (lv_at hl 0 rfl) ?_
  refine xw_get hx hb hts hin5 hown hK hP (by decide) fo_0 rfl 0 (by decide) hf12 rfl rfl dX5_source_1 ?_
  refine lv_iload_n hx hb dX5_source_4 rfl (lv_at hl 1 rfl) ?_
  refine lv_iload_n hx hb dX5_source_5 rfl (lv_at hl 2 rfl) ?_
  refine lv_iload_n hx hb dX5_source_6 rfl (lv_at hl 3 rfl) ?_
  refine lv_iload hx hb dX5_source_7 (lv_at hl 4 rfl) ?_
  refine lv_iload hx hb dX5_source_9 (lv_at hl 5 rfl) ?_
  refine va_calli (va_runV (As := [.int (nI (4)), .int (xa), .int (xb), .int (xc), .int (xd)]) (rest := []) ⟨hx, hb, hml, hown, hts⟩ (mX0_become4 l hD fo_1 fa_2) (cwV 5 hts gX5_source_X0_become rfl rfl rfl (by decide +kernel) ⟨Nat.le_of_ble_eq_true rfl, Nat.le_of_ble_eq_true rfl⟩) ⟨xB_blind, va_recv hK hP (ci := 0) rfl (xw_is (by decide) fo_1), fun U hU hW => ⟨rfl, by rw [hU]; exact hP, va_K.moved hW.alike hK, va_Nw.warmM hW hN⟩⟩ rfl rfl hl.1 rfl (lv_room (Nat.le_of_ble_eq_true rfl)) dX5_source_11 ⟨Nat.le_of_ble_eq_true rfl, Nat.le_of_ble_eq_true rfl⟩) hS (fun _ _ h => h) (fun _ h => h) (fun r1 gb tZ H locs ht1 hvm hwb hB hzZ hkZ hS => ?_)
  obtain ⟨hP, -⟩ := hB
  rw [ht1] at hP
  rcases hwb with ⟨er1, hS4, fb1, fb2, hcb⟩ | ⟨er1, hS4, eg⟩
  · subst er1
    have fb_0 : gb (0) = .inr (5, [.ref (ad (1)), .ref (ad (3)), .ref (ad (57)), .ref (ad (4)), .ref (ad (8)), .ref (ad (15)), .long (tp), .long (bt)]) := (hcb (0) (by decide) (by decide)).trans fo_0
    have fb_15 : gb (15) = .inr (3, [.ref (ad (16)), .int (nI (T))]) := (hcb (15) (by decide) (by decide)).trans fo15
    have fb_16 : gb (16) = .inl (cI, 300, .inl (f16)) := (hcb (16) (by decide) (by decide)).trans fa16
    have fb_3 : gb (3) = .inl (cW, 8, .inr (.inr (.inr (.inr (f3))))) := (hcb (3) (by decide) (by decide)).trans fa_3
    refine xi_if_ne (tgt := 19) hx hb (by decide) dX5_source_14 (by decide) (fun _ => ?_) (fun c0 => absurd c0 (by decide))
    refine lv_iconst (v := nI (0)) hx hb dX5_source_19 (by decide) ?_
    refine lv_istore (lv' := [(6, .int (nI (0))), (0, .ref (ad (0))), (1, .int (nI (4))), (2, .int (xa)), (3, .int (xb)), (4, .int (xc)), (5, .int (xd))]) hx hb dX5_source_20 hl (by decide) rfl (fun ls hl => ?_)
    refine xloopW (G := fun H locs fr => W p l e _ s m _ below meth c H locs _ _ _ fr) (σ := Nat) (fun i ls => F0 m 22 ls []) (fun i gl22_2 H locs ls => (i ≤ 8) ∧ (∀ k, k < i → ∃ (co : Int32) (ow : Int64), gl22_2 (17 + 5 * k) = .inr (4, [.ref (ad (17 + 5 * k + 1)), .ref (ad (17 + 5 * k + 2)), .ref (ad (17 + 5 * k + 3)), .ref (ad (17 + 5 * k + 4)), .int (nI (0)), .int (co), .long (ow)])) ∧ (∀ j : Nat, j ≠ 1 → j ≠ 2 → (∀ k, k < i → j ≠ 17 + 5 * k) → gl22_2 j = g j) ∧ gl22_2 (0) = .inr (5, [.ref (ad (1)), .ref (ad (3)), .ref (ad (57)), .ref (ad (4)), .ref (ad (8)), .ref (ad (15)), .long (tp), .long (bt)]) ∧ gl22_2 (1) = .inr (0, [.ref (ad (2)), .int (nI (4)), .int (nI (hf xa + hf xb + hf xc + hf xd))]) ∧ gl22_2 (2) = .inl (cI, 4, .inl (upd (upd (upd (upd (f2) (0) (xa)) (1) (xb)) (2) (xc)) (3) (xd))) ∧ gl22_2 (3) = .inl (cW, 8, .inr (.inr (.inr (.inr (f3))))) ∧ gl22_2 (15) = .inr (3, [.ref (ad (16)), .int (nI (T))]) ∧ gl22_2 (16) = .inl (cI, 300, .inl (f16)) ∧ va_P D vwCl (xw 81 ad gl22_2) H ∧ va_S A s.heap H locs ∧ lv_has ls 7 [(0, .ref (ad (0))), (6, .int (nI (i)))]) (fun i => 9 - i) ?_ (0) gb H locs ls ⟨(by omega), (fun k hk => absurd hk (by omega)), (fun j h1 h2 _ => hcb j h1 h2), fb_0, fb1, fb2, fb_3, fb_15, fb_16, hP, hS, (lv_sub hl [1, 0] rfl)⟩
    rintro i gl22_2 H locs ls ⟨hi, hAw, hBf, fo_0, fo_1, fa_2, fa_3, fo15, fa16, hP, hS, hl⟩ ih22
    refine lv_iload hx hb dX5_source_22 (lv_at hl 1 rfl) ?_
    refine lv_aload_n hx hb dX5_source_24 rfl (lv_at hl 0 rfl) ?_
    refine xw_get hx hb hts hin5 hown hK hP (by decide) fo_0 rfl 1 (by decide) hf18 rfl rfl dX5_source_25 ?_
    refine xw_alen hx hb hK hP (by decide) 3 fa_3 rfl dX5_source_28 ?_
    refine xi_icmp_ge (tgt := 48) hx hb (by omega) (by decide) dX5_source_29 (by decide) (fun c29_3 => ?_) (fun c29_3 => ?_)
    · have hi8 : i = 8 := by omega
      subst hi8
      refine lv_aload_n hx hb dX5_source_48 rfl (lv_at hl 0 rfl) ?_
      refine xw_get hx hb hts hin5 hown hK hP (by decide) fo_0 rfl 5 (by decide) hf44 rfl rfl dX5_source_49 ?_
      refine va_callv (va_runV (As := []) (rest := []) ⟨hx, hb, hml, hown, hts⟩ (mX3_clear l hD fo15) (cwV 0 hts gX5_source_X3_clear rfl rfl rfl (by decide +kernel) ⟨Nat.le_of_ble_eq_true rfl, Nat.le_of_ble_eq_true rfl⟩) ⟨xB_blind, va_recv hK hP (ci := 3) rfl (xw_is (by decide) fo15), fun U hU hW => ⟨rfl, by rw [hU]; exact hP, va_K.moved hW.alike hK, va_Nw.warmM hW hN⟩⟩ rfl rfl hl.1 rfl (lv_room (Nat.le_of_ble_eq_true rfl)) dX5_source_52 ⟨Nat.le_of_ble_eq_true rfl, Nat.le_of_ble_eq_true rfl⟩) hS (fun _ _ h => h) (fun _ h => h) (fun g4 tZ H locs ht hvm hwg4 hB hzZ hkZ hS => ?_)
      obtain ⟨hP, -⟩ := hB
      rw [ht] at hP
      obtain ⟨fg4_n0, hcg4⟩ := hwg4
      have fg4_k0 : g4 (0) = .inr (5, [.ref (ad (1)), .ref (ad (3)), .ref (ad (57)), .ref (ad (4)), .ref (ad (8)), .ref (ad (15)), .long (tp), .long (bt)]) := (hcg4 (0) (by decide)).trans fo_0
      have fg4_k1 : g4 (1) = .inr (0, [.ref (ad (2)), .int (nI (4)), .int (nI (hf xa + hf xb + hf xc + hf xd))]) := (hcg4 (1) (by decide)).trans fo_1
      have fg4_k2 : g4 (2) = .inl (cI, 4, .inl (upd (upd (upd (upd (f2) (0) (xa)) (1) (xb)) (2) (xc)) (3) (xd))) := (hcg4 (2) (by decide)).trans fa_2
      have fg4_k3 : g4 (3) = .inl (cW, 8, .inr (.inr (.inr (.inr (f3))))) := (hcg4 (3) (by decide)).trans fa_3
      have fg4_k4 : g4 (16) = .inl (cI, 300, .inl (f16)) := (hcg4 (16) (by decide)).trans fa16
      refine lv_aload_n hx hb dX5_source_55 rfl (lv_at hl 0 rfl) ?_
      refine xw_get hx hb hts hin5 hown hK hP (by decide) fg4_k0 rfl 0 (by decide) hf12 rfl rfl dX5_source_56 ?_
      refine xw_get hx hb hts hin0 hown hK hP (by decide) fg4_k1 rfl 2 (by decide) hf63 rfl rfl dX5_source_59 ?_
      exact W.iret (v := nI (hf xa + hf xb + hf xc + hf xd)) hx hb hr (fun tZ ht hW => ⟨⟨_, g4, rfl, (by have a1 := hf_1 xa; have a2 := hf_1 xb; have a3 := hf_1 xc; have a4 := hf_1 xd; have hE : ∀ j : Nat, j ≠ 15 → j ≠ 1 → j ≠ 2 → (∀ k, k < 8 → j ≠ 17 + 5 * k) → g4 j = g j := fun j h5 h1 h2 h9 => (hcg4 j h5).trans (hBf j h1 h2 h9); exact Or.inl ⟨rfl, by omega, ⟨fg4_k0, ⟨_, fg4_k1, fg4_k2, wt4_ok (hf_eq (by omega)) (hf_eq (by omega)) (hf_eq (by omega)) (hf_eq (by omega))⟩, ⟨f3, fg4_k3, h3⟩, hRace.to (hE 4 (by decide) (by decide) (by decide) (by omega)) (hE 5 (by decide) (by decide) (by decide) (by omega)) (hE 6 (by decide) (by decide) (by decide) (by omega)) (hE 7 (by decide) (by decide) (by decide) (by omega)), hMach.to (fun j _ _ => hE j (by omega) (by omega) (by omega) (by omega)), ⟨_, fg4_n0, fg4_k4, fun j hj => absurd hj (by omega)⟩, fun k hk => by obtain ⟨c9, o9, h9⟩   := hAw k hk; exact WordI.none (hwd k hk) ((hcg4 _ (by omega)).trans h9) (fun j _ _ => hE j (by omega) (by omega) (by omega) (fun k2 _ => by omega)), hcand.to (fun j _ _ => hE j (by omega) (by omega) (by omega) (by omega))⟩, fun j hj => hE j (by omega) (by omega) (by omega) (by omega)⟩), by rw [ht]; exact hP, va_K.moved hW.alike hK, va_Nw.warmM hW hN⟩, hS.F ht⟩) hS.2.2 dX5_source_62
    · refine lv_aload_n hx hb dX5_source_32 rfl (lv_at hl 0 rfl) ?_
      refine xw_get hx hb hts hin5 hown hK hP (by decide) fo_0 rfl 1 (by decide) hf18 rfl rfl dX5_source_33 ?_
      refine lv_iload hx hb dX5_source_36 (lv_at hl 1 rfl) ?_
      refine xw_aald hx hb hK hP (by decide) 3 fa_3 rfl (by omega) (by decide) (v := .ref (ad (17 + 5 * i))) (by rw [h3 i (by omega)]; rfl) dX5_source_38 ?_
      obtain ⟨flw, fhw, ftw, fsw, cow, oww, hwo, -⟩ := (hwd i (by omega)).raw
      have fwo : gl22_2 (17 + 5 * i) = .inr (4, [.ref (ad (17 + 5 * i + 1)), .ref (ad (17 + 5 * i + 2)), .ref (ad (17 + 5 * i + 3)), .ref (ad (17 + 5 * i + 4)), .int (nI (ln i)), .int (cow), .long (oww)]) := (hBf (17 + 5 * i) (by omega) (by omega) (fun k hk => by omega)).trans hwo
      refine va_callv (va_runV (As := []) (rest := []) ⟨hx, hb, hml, hown, hts⟩ (mX4_clear l hD fwo (by omega)) (cwV 0 hts gX5_source_X4_clear rfl rfl rfl (by decide +kernel) ⟨Nat.le_of_ble_eq_true rfl, Nat.le_of_ble_eq_true rfl⟩) ⟨xB_blind, va_recv hK hP (ci := 4) rfl (xw_is (by omega) fwo), fun U hU hW => ⟨rfl, by rw [hU]; exact hP, va_K.moved hW.alike hK, va_Nw.warmM hW hN⟩⟩ rfl rfl hl.1 rfl (lv_room (Nat.le_of_ble_eq_true rfl)) dX5_source_39 ⟨Nat.le_of_ble_eq_true rfl, Nat.le_of_ble_eq_true rfl⟩) hS (fun _ _ h => h) (fun _ h => h) (fun g6 tZ H locs ht hvm hwg6 hB hzZ hkZ hS => ?_)
      obtain ⟨hP, -⟩ := hB
      rw [ht] at hP
      obtain ⟨fg6_n0, hcg6⟩ := hwg6
      have fg6_k0 : g6 (0) = .inr (5, [.ref (ad (1)), .ref (ad (3)), .ref (ad (57)), .ref (ad (4)), .ref (ad (8)), .ref (ad (15)), .long (tp), .long (bt)]) := (hcg6 (0) (by omega)).trans fo_0
      have fg6_k1 : g6 (1) = .inr (0, [.ref (ad (2)), .int (nI (4)), .int (nI (hf xa + hf xb + hf xc + hf xd))]) := (hcg6 (1) (by omega)).trans fo_1
      have fg6_k2 : g6 (2) = .inl (cI, 4, .inl (upd (upd (upd (upd (f2) (0) (xa)) (1) (xb)) (2) (xc)) (3) (xd))) := (hcg6 (2) (by omega)).trans fa_2
      have fg6_k3 : g6 (3) = .inl (cW, 8, .inr (.inr (.inr (.inr (f3))))) := (hcg6 (3) (by omega)).trans fa_3
      have fg6_k4 : g6 (15) = .inr (3, [.ref (ad (16)), .int (nI (T))]) := (hcg6 (15) (by omega)).trans fo15
      have fg6_k5 : g6 (16) = .inl (cI, 300, .inl (f16)) := (hcg6 (16) (by omega)).trans fa16
      refine lv_iinc (v := nI (i + 1)) (lv' := [(6, .int (nI (i + 1))), (0, .ref (ad (0)))]) hx hb dX5_source_42 hl (k := 1) rfl (nI_add (i) 1) (by decide) rfl (fun ls hl => ?_)
      refine lv_goto (tgt := 22) hx hb dX5_source_45 (by decide) ?_
      exact ih22 (i + 1) g6 H locs ls ⟨(by omega), (fun k hk => if e : k = i then by subst e; exact ⟨_, _, fg6_n0⟩ else by obtain ⟨c9, o9, h9⟩   := hAw k (by omega); exact ⟨c9, o9, (hcg6 _ (by omega)).trans h9⟩), (fun j h1 h2 h9 => (hcg6 j (h9 i (by omega))).trans (hBf j h1 h2 (fun k hk => h9 k (by omega)))), fg6_k0, fg6_k1, fg6_k2, fg6_k3, fg6_k4, fg6_k5, hP, hS, (lv_sub hl [1, 0] rfl)⟩ (by first | omega | (dsimp only; omega))
  · subst er1
    rw [eg] at hP
    refine xi_if_ne (tgt := 19) hx hb (by decide) dX5_source_14 (by decide) (fun c0 => absurd c0 (by decide)) (fun _ => ?_)
    refine lv_iconst (v := (-1)) hx hb dX5_source_17 (by decide) ?_
    exact W.iret (v := (-1)) hx hb hr (fun tZ ht hW => ⟨⟨_, g, rfl, Or.inr ⟨rfl, by omega, hC, fun _ _ => rfl⟩, by rw [ht]; exact hP, va_K.moved hW.alike hK, va_Nw.warmM hW hN⟩, hS.F ht⟩) hS.2.2 dX5_source_18

set_option maxHeartbeats 4000000 in
set_option maxRecDepth 100000 in
/-- source, no such q -/
theorem mX5_source_no (l : Launch) {D : va_G} {cI cJ cZ cW : ClassId} {ad : Nat → Nat} {A : Nat → Prop} (hD : ∀ g, va_D A (xw 81 ad g)) {g : Nat → va_E} {q Wt : Nat} {w : Nat → Nat} {ln : Nat → Nat} {u : Nat → Nat → Nat} {T : Nat} {t : Nat → Nat} {tp bt : Int64} {x0 xa xb xc xd : Int32}  (hC : ClsI cI cJ cZ cW ad g q Wt w ln u T t tp bt) (hs : SrcI q Wt w ln u T t) (hx0 : x0 < nI 2 ∨ nI 4 < x0) : Met l yX5_source wsX5_source ({ frames := 2, cells := 0, slots := 0, locals := 48 }) (va_Pc [.ref (ad (0)), .int (x0), .int (xa), .int (xb), .int (xc), .int (xd)] (xB D (xT cI cJ cZ cW) ad g)) (va_Qi (fun r g2 => r = -1 ∧ ClsI cI cJ cZ cW ad g2 q Wt w ln u T t tp bt ∧ ∀ i : Nat, 62 ≤ i → g2 i = g i) (xB D (xT cI cJ cZ cW) ad) A) 0 0 A := by
  refine Met.ofW (cc := cX5_source) (maxL := 7) (ret := (some .int)) (by decide) rfl ?_
  intro p e s m args below meth c s₁ B hml hv
  obtain ⟨rfl, hP, hK, hN⟩ := hv
  have hx := B.exec
  have hb := B.bytes
  have hr := B.returns
  have hts := atoms_spec (ws := wsX5_source) B.pre
  have hown : s.vm.findClass RX5 = some m.cls := findClass_of_methodNamed B.named
  have hlocks := B.notSynchronized
  have hS : va_S A s.heap s.heap [] := va_S.rf
  have hin5 : ∀ w ∈ wsX50, w ∈ wsX5_source := by decide +kernel
  have hf12 := hts (.fieldLink RX5 12 "LettersByLot" "lot" "LLettersByLot$Lot;") (by decide +kernel)
  have hl := lv_entry ([.ref (ad (0)), .int (x0), .int (xa), .int (xb), .int (xc), .int (xd)]) (n := 7) (Nat.le_of_ble_eq_true rfl)
  rw [lg_entry_eq]
  generalize (lg_sl ([.ref (ad (0)), .int (x0), .int (xa), .int (xb), .int (xc), .int (xd)]) ++ List.replicate (7 - (lg_sl ([.ref (ad (0)), .int (x0), .int (xa), .int (xb), .int (xc), .int (xd)])).length) Slot.unset).toArray = ls at hl ⊢
  have hl : lv_has ls 7 [(0, .ref (ad (0))), (1, .int (x0)), (2, .int (xa)), (3, .int (xb)), (4, .int (xc)), (5, .int (xd))] := hl
  obtain ⟨hq2, hq4, hw1, hw0, hWs, hWt, hw, hln, hul, hT, ht⟩ := hs
  obtain ⟨fo_0, ⟨f2, fo_1, fa_2, h2⟩, ⟨f3, fa_3, h3⟩, hRace, hMach, ⟨f16, fo15, fa16, h16⟩, hwd, hcand⟩ := id hC
  have hWp : 1 ≤ Wt ∧ Wt ≤ 4 := by have h8 := hw1 0 (by omega); have h9 := wsum_mono (w := w) (show 1 ≤ q by omega); have h7 : wsum w 1 = 0 + w 0 := rfl; omega
  refine lv_aload_n hx hb dX5_source_0 rfl (lv_at hl 0 rfl) ?_
  refine xw_get hx hb hts hin5 hown hK hP (by decide) fo_0 rfl 0 (by decide) hf12 rfl rfl dX5_source_1 ?_
  refine lv_iload_n hx hb dX5_source_4 rfl (lv_at hl 1 rfl) ?_
  refine lv_iload_n hx hb dX5_source_5 rfl (lv_at hl 2 rfl) ?_
  refine lv_iload_n hx hb dX5_source_6 rfl (lv_at hl 3 rfl) ?_
  refine lv_iload hx hb dX5_source_7 (lv_at hl 4 rfl) ?_
  refine lv_iload hx hb dX5_source_9 (lv_at hl 5 rfl) ?_
  refine vp_callSi (va_Run.run (va_runV (As := [.int (x0), .int (xa), .int (xb), .int (xc), .int (xd)]) (rest := []) ⟨hx, hb, hml, hown, hts⟩ (mX0_become_no l hx0) (cwV 5 hts gX5_source_X0_become rfl rfl rfl (by decide +kernel) ⟨Nat.le_of_ble_eq_true rfl, Nat.le_of_ble_eq_true rfl⟩) ⟨xB_blind, va_recv hK hP (ci := 0) rfl (xw_is (by decide) fo_1), fun U hU hW => ⟨rfl, by rw [hU]; exact hP, va_K.moved hW.alike hK, va_Nw.warmM hW hN⟩⟩ rfl rfl hl.1 rfl (lv_room (Nat.le_of_ble_eq_true rfl)) dX5_source_11 ⟨Nat.le_of_ble_eq_true rfl, Nat.le_of_ble_eq_true rfl⟩)) (fun r1 er1 => ?_)
  subst er1
  refine xi_if_ne (tgt := 19) hx hb (by decide) dX5_source_14 (by decide) (fun c0 => absurd c0 (by decide)) (fun _ => ?_)
  refine lv_iconst (v := (-1)) hx hb dX5_source_17 (by decide) ?_
  exact W.iret (v := (-1)) hx hb hr (fun tZ ht hW => ⟨⟨_, g, rfl, ⟨rfl, hC, fun _ _ => rfl⟩, by rw [ht]; exact hP, va_K.moved hW.alike hK, va_Nw.warmM hW hN⟩, hS.F ht⟩) hS.2.2 dX5_source_18
