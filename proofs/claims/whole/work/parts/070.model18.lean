set_option maxHeartbeats 4000000 in
set_option maxRecDepth 100000 in
theorem mX6_covered_bad (l : Launch) {D : va_G} {cI cJ cZ cW : ClassId} {ad : Nat → Nat} {A : Nat → Prop} (hD : ∀ g, va_D A (xw 81 ad g)) {g : Nat → va_E} {q Wt : Nat} {w : Nat → Nat} {ln : Nat → Nat} {u : Nat → Nat → Nat} {T : Nat} {t : Nat → Nat} {tp bt : Int64} {x0 : Int32}  (hM : ModI cI cJ ad g q Wt w ln u T t tp bt) (hs : SrcI q Wt w ln u T t) (hx0 : x0 < 0 ∨ nI 31 ≤ x0) : Met l yX6_covered wsX6_covered ({ frames := 1, cells := 0, slots := 0, locals := 21 }) (va_Pc [.ref (ad (62)), .int (x0)] (xB D (xT cI cJ cZ cW) ad g)) (va_Ql (fun r g2 => r = -1 ∧ ModI cI cJ ad g2 q Wt w ln u T t tp bt ∧ ∀ j : Nat, j < 62 → g2 j = g j) (xB D (xT cI cJ cZ cW) ad) A) 0 0 A := by
  refine Met.ofW (cc := cX6_covered) (maxL := 5) (ret := (some .long)) (by decide) rfl ?_
  intro p e s m args below meth c s₁ B hml hv
  obtain ⟨rfl, hP, hK, hN⟩ := hv
  have hx := B.exec
  have hb := B.bytes
  have hr := B.returns
  have hts := atoms_spec (ws := wsX6_covered) B.pre
  have hown : s.vm.findClass RX6 = some m.cls := findClass_of_methodNamed B.named
  have hlocks := B.notSynchronized
  have hS : va_S A s.heap s.heap [] := va_S.rf
  have hl := lv_entry ([.ref (ad (62)), .int (x0)]) (n := 5) (Nat.le_of_ble_eq_true rfl)
  rw [lg_entry_eq]
  generalize (lg_sl ([.ref (ad (62)), .int (x0)]) ++ List.replicate (5 - (lg_sl ([.ref (ad (62)), .int (x0)])).length) Slot.unset).toArray = ls at hl ⊢
  have hl : lv_has ls 5 [(0, .ref (ad (62))), (1, .int (x0))] := hl
  obtain ⟨hq2, hq4, hw1, hw0, hWs, hWt, hw, hln, hul, hT, ht⟩ := hs
  obtain ⟨sq, nu, de, fw, fsz, fwd, ftx, fos, foz, fgo, frw, fan, fad, frn, frd, fen, fed, fcn, fcd, fnw, fth, fo62, fa63, fa64, fa65, fa66, fa67, fa68, fa69, fa70, fa71, fa72, fa73, fa74, fa75, fa76, fa77, fa78, fa79, fa80, hfw, hsz, hwl, htx⟩ := id hM
  have hWp : 1 ≤ Wt ∧ Wt ≤ 4 := by have h8 := hw1 0 (by omega); have h9 := wsum_mono (w := w) (show 1 ≤ q by omega); have h7 : wsum w 1 = 0 + w 0 := rfl; omega
  have hwA : ∀ k j, j < ln k → 1 ≤ w (u k j) := fun k j hj => hw1 _ (hul k j hj)
  have hwB : ∀ k j, j < ln k → w (u k j) ≤ 4 := fun k j hj => hw _ (Nat.lt_of_lt_of_le (hul k j hj) hq4)
  refine lv_iload_n hx hb dX6_covered_0 rfl (lv_at hl 1 rfl) ?_
  refine lv_bipush (v := nI (31)) hx hb dX6_covered_1 (by decide) ?_
  refine vp_callSi (va_Run.run (va_runS (As := [.int (x0), .int (nI (31))]) (rest := []) ⟨hx, hb, hml, hown, hts⟩ (mX6_isIn_out l hx0) (va_cwS 2 hts gX6_covered_X6_isIn rfl rfl rfl (by decide +kernel) ⟨Nat.le_of_ble_eq_true rfl, Nat.le_of_ble_eq_true rfl⟩) ⟨xB_blind, fun U hU hW => ⟨rfl, by rw [hU]; exact hP, va_K.moved hW.alike hK, va_Nw.warmM hW hN⟩⟩ rfl rfl hl.1 rfl (lv_room (Nat.le_of_ble_eq_true rfl)) dX6_covered_3 ⟨Nat.le_of_ble_eq_true rfl, Nat.le_of_ble_eq_true rfl⟩)) (fun r1 er1 => ?_)
  subst er1
  refine xi_if_ne (tgt := 13) hx hb (by decide) dX6_covered_6 (by decide) (fun c0 => absurd c0 (by decide)) (fun _ => ?_)
  refine lv_ldc2 (v := lZ (-1)) hx hb hown (hts (.constantLong RX6 186 (-1)) (by decide +kernel)) dX6_covered_9 ?_
  exact W.lret (v := lZ (-1)) hx hb hr (fun tZ ht hW => ⟨⟨_, g, rfl, ⟨rfl, hM, fun _ _ => rfl⟩, by rw [ht]; exact hP, va_K.moved hW.alike hK, va_Nw.warmM hW hN⟩, hS.F ht⟩) hS.2.2 dX6_covered_12

set_option maxHeartbeats 4000000 in
set_option maxRecDepth 100000 in
theorem mX6_covered_in (l : Launch) {D : va_G} {cI cJ cZ cW : ClassId} {ad : Nat → Nat} {A : Nat → Prop} (hD : ∀ g, va_D A (xw 81 ad g)) {g : Nat → va_E} {q Wt : Nat} {w : Nat → Nat} {ln : Nat → Nat} {u : Nat → Nat → Nat} {T : Nat} {t : Nat → Nat} {tp bt : Int64} {n0 : Nat}  (hM : ModI cI cJ ad g q Wt w ln u T t tp bt) (hs : SrcI q Wt w ln u T t) (hn0 : n0 ≤ 30) : Met l yX6_covered wsX6_covered ({ frames := 1, cells := 0, slots := 0, locals := 21 }) (va_Pc [.ref (ad (62)), .int (nI (n0))] (xB D (xT cI cJ cZ cW) ad g)) (va_Ql (fun r g2 => r = lZ (cgG q w n0 (2 ^ q - 1)) ∧ ModI cI cJ ad g2 q Wt w ln u T t tp bt ∧ ∀ j : Nat, j < 62 → g2 j = g j) (xB D (xT cI cJ cZ cW) ad) A) 0 0 A := by
  refine Met.ofW (cc := cX6_covered) (maxL := 5) (ret := (some .long)) (by decide) rfl ?_
  intro p e s m args below meth c s₁ B hml hv
  obtain ⟨rfl, hP, hK, hN⟩ := hv
  have hx := B.exec
  have hb := B.bytes
  have hr := B.returns
  have hts := atoms_spec (ws := wsX6_covered) B.pre
  have hown : s.vm.findClass RX6 = some m.cls := findClass_of_methodNamed B.named
  have hlocks := B.notSynchronized
  have hS : va_S A s.heap s.heap [] := va_S.rf
  have hin6 : ∀ w ∈ wsX60, w ∈ wsX6_covered := by decide +kernel
  have hf7 := hts (.fieldLink RX6 7 "LettersByLotModel" "q" "I") (by decide +kernel)
  have hf16 := hts (.fieldLink RX6 16 "LettersByLotModel" "weight" "[I") (by decide +kernel)
  have hf70 := hts (.fieldLink RX6 70 "LettersByLotModel" "now" "[J") (by decide +kernel)
  have hf73 := hts (.fieldLink RX6 73 "LettersByLotModel" "then" "[J") (by decide +kernel)
  have hl := lv_entry ([.ref (ad (62)), .int (nI (n0))]) (n := 5) (Nat.le_of_ble_eq_true rfl)
  rw [lg_entry_eq]
  generalize (lg_sl ([.ref (ad (62)), .int (nI (n0))]) ++ List.replicate (5 - (lg_sl ([.ref (ad (62)), .int (nI (n0))])).length) Slot.unset).toArray = ls at hl ⊢
  have hl : lv_has ls 5 [(0, .ref (ad (62))), (1, .int (nI (n0)))] := hl
  obtain ⟨hq2, hq4, hw1, hw0, hWs, hWt, hw, hln, hul, hT, ht⟩ := hs
  obtain ⟨sq, nu, de, fw, fsz, fwd, ftx, fos, foz, fgo, frw, fan, fad, frn, frd, fen, fed, fcn, fcd, fnw, fth, fo62, fa63, fa64, fa65, fa66, fa67, fa68, fa69, fa70, fa71, fa72, fa73, fa74, fa75, fa76, fa77, fa78, fa79, fa80, hfw, hsz, hwl, htx⟩ := id hM
  have hWp : 1 ≤ Wt ∧ Wt ≤ 4 := by have h8 := hw1 0 (by omega); have h9 := wsum_mono (w := w) (show 1 ≤ q by omega); have h7 : wsum w 1 = 0 + w 0 := rfl; omega
  have hwA : ∀ k j, j < ln k → 1 ≤ w (u k j) := fun k j hj => hw1 _ (hul k j hj)
  have hwB : ∀ k j, j < ln k → w (u k j) ≤ 4 := fun k j hj => hw _ (Nat.lt_of_lt_of_le (hul k j hj) hq4)
  refine lv_iload_n hx hb dX6_covered_0 rfl (lv_at hl 1 rfl) ?_
  refine lv_bipush (v := nI (31)) hx hb dX6_covered_1 (by decide) ?_
  refine vp_callSi (va_Run.run (va_runS (As := [.int (nI (n0)), .int (nI (31))]) (rest := []) ⟨hx, hb, hml, hown, hts⟩ (mX6_isIn_in l (by omega) (by omega)) (va_cwS 2 hts gX6_covered_X6_isIn rfl rfl rfl (by decide +kernel) ⟨Nat.le_of_ble_eq_true rfl, Nat.le_of_ble_eq_true rfl⟩) ⟨xB_blind, fun U hU hW => ⟨rfl, by rw [hU]; exact hP, va_K.moved hW.alike hK, va_Nw.warmM hW hN⟩⟩ rfl rfl hl.1 rfl (lv_room (Nat.le_of_ble_eq_true rfl)) dX6_covered_3 ⟨Nat.le_of_ble_eq_true rfl, Nat.le_of_ble_eq_true rfl⟩)) (fun r1 er1 => ?_)
  subst er1
  refine xi_if_ne (tgt := 13) hx hb (by decide) dX6_covered_6 (by decide) (fun _ => ?_) (fun c0 => absurd c0 (by decide))
  refine lv_iconst (v := nI (0)) hx hb dX6_covered_13 (by decide) ?_
  refine lv_istore_n (lv' := [(2, .int (nI (0))), (0, .ref (ad (62))), (1, .int (nI (n0)))]) hx hb dX6_covered_14 rfl hl (by decide) rfl (fun ls hl => ?_)
  refine xloopW (G := fun H locs fr => W p l e _ s m _ below meth c H locs _ _ _ fr) (σ := Nat × (Nat → Int64)) (fun (i, fz) ls => F0 m 15 ls []) (fun (i, fz) gl15_3 H locs ls => (i ≤ 16) ∧ (∀ j, j < i → fz j = lZ (if j = 0 then 1 else 0)) ∧ gl15_3 (62) = .inr (6, [.int (nI (q)), .int (nI (Wt)), .ref (ad (63)), .ref (ad (64)), .ref (ad (65)), .ref (ad (66)), .int (nI (T)), .long (tp), .long (bt), .long (nu), .long (de), .int (sq), .ref (ad (67)), .ref (ad (68)), .ref (ad (69)), .ref (ad (70)), .ref (ad (71)), .ref (ad (72)), .ref (ad (73)), .ref (ad (74)), .ref (ad (75)), .ref (ad (76)), .ref (ad (77)), .ref (ad (78)), .ref (ad (79)), .ref (ad (80))]) ∧ gl15_3 (63) = .inl (cI, 4, .inl (fw)) ∧ gl15_3 (79) = .inl (cJ, 16384, .inr (.inl (fz))) ∧ gl15_3 (80) = .inl (cJ, 16384, .inr (.inl (fth))) ∧ (∀ j : Nat, j ≠ 79 → j ≠ 80 → gl15_3 j = g j) ∧ va_P D vwCl (xw 81 ad gl15_3) H ∧ va_S A s.heap H locs ∧ lv_has ls 5 [(0, .ref (ad (62))), (1, .int (nI (n0))), (2, .int (nI (i)))]) (fun (i, fz) => 16 - i) ?_ (0, fnw) g s.heap [] ls ⟨(Nat.zero_le _), (fun j hj => absurd hj (by omega)), fo62, fa63, fa79, fa80, (fun _ _ _ => rfl), hP, hS, (lv_sub hl [1, 2, 0] rfl)⟩
  rintro ⟨i, fz⟩ gl15_3 H locs ls ⟨hi, hfz, fo62, fa63, fa79, fa80, hfrgl15_3, hP, hS, hl⟩ ih15
  refine lv_iload_n hx hb dX6_covered_15 rfl (lv_at hl 2 rfl) ?_
  refine lv_bipush (v := nI (16)) hx hb dX6_covered_16 (by decide) ?_
  refine xi_icmp_ge (tgt := 42) hx hb (by omega) (by decide) dX6_covered_18 (by decide) (fun c18_4 => ?_) (fun c18_4 => ?_)
  · refine lv_iconst (v := nI (0)) hx hb dX6_covered_42 (by decide) ?_
    refine lv_istore_n (lv' := [(2, .int (nI (0))), (0, .ref (ad (62))), (1, .int (nI (n0)))]) hx hb dX6_covered_43 rfl hl (by decide) rfl (fun ls hl => ?_)
    refine xloopW (G := fun H locs fr => W p l e _ s m _ below meth c H locs _ _ _ fr) (σ := Nat × (Nat → Int64) × (Nat → Int64)) (fun (r, fz, fy) ls => F0 m 44 ls []) (fun (r, fz, fy) gl44_5 H locs ls => (r ≤ n0) ∧ (∀ j, j < 16 → fz j = lZ (cgG q w (r) j)) ∧ gl44_5 (62) = .inr (6, [.int (nI (q)), .int (nI (Wt)), .ref (ad (63)), .ref (ad (64)), .ref (ad (65)), .ref (ad (66)), .int (nI (T)), .long (tp), .long (bt), .long (nu), .long (de), .int (sq), .ref (ad (67)), .ref (ad (68)), .ref (ad (69)), .ref (ad (70)), .ref (ad (71)), .ref (ad (72)), .ref (ad (73)), .ref (ad (74)), .ref (ad (75)), .ref (ad (76)), .ref (ad (77)), .ref (ad (78)), .ref (ad (79)), .ref (ad (80))]) ∧ gl44_5 (63) = .inl (cI, 4, .inl (fw)) ∧ gl44_5 (79) = .inl (cJ, 16384, .inr (.inl (fz))) ∧ gl44_5 (80) = .inl (cJ, 16384, .inr (.inl (fy))) ∧ (∀ j : Nat, j ≠ 79 → j ≠ 80 → gl44_5 j = g j) ∧ va_P D vwCl (xw 81 ad gl44_5) H ∧ va_S A s.heap H locs ∧ lv_has ls 5 [(0, .ref (ad (62))), (1, .int (nI (n0))), (2, .int (nI (r)))]) (fun (r, fz, fy) => n0 - r) ?_ (0, fz, fth) gl15_3 H locs ls ⟨(Nat.zero_le _), (fun j hj => hfz j (by omega)), fo62, fa63, fa79, fa80, hfrgl15_3, hP, hS, (lv_sub hl [1, 2, 0] rfl)⟩
    rintro ⟨r, fz, fy⟩ gl44_5 H locs ls ⟨hr0, hfz, fo62, fa63, fa79, fa80, hfrgl44_5, hP, hS, hl⟩ ih44
    refine lv_iload_n hx hb dX6_covered_44 rfl (lv_at hl 2 rfl) ?_
    refine lv_iload_n hx hb dX6_covered_45 rfl (lv_at hl 1 rfl) ?_
    refine xi_icmp_ge (tgt := 163) hx hb (by omega) (by omega) dX6_covered_46 (by decide) (fun c46_6 => ?_) (fun c46_6 => ?_)
    · have hrn : r = n0 := by omega
      subst hrn
      have hq16 : 1 ≤ 2 ^ q ∧ 2 ^ q ≤ 16 := ⟨Nat.one_le_pow _ _ (by decide), Nat.le_trans (Nat.pow_le_pow_right (by decide) hq4) (by decide)⟩
      have hi15 : 2 ^ q - 1 < 16 := by omega
      refine lv_aload_n hx hb dX6_covered_163 rfl (lv_at hl 0 rfl) ?_
      refine xw_get hx hb hts hin6 hown hK hP (by decide) fo62 rfl 24 (by decide) hf70 rfl rfl dX6_covered_164 ?_
      refine lv_iconst (v := nI (1)) hx hb dX6_covered_167 (by decide) ?_
      refine lv_aload_n hx hb dX6_covered_168 rfl (lv_at hl 0 rfl) ?_
      refine xw_get hx hb hts hin6 hown hK hP (by decide) fo62 rfl 0 (by decide) hf7 rfl rfl dX6_covered_169 ?_
      refine lv_ishl hx hb dX6_covered_172 ?_
      refine xtopi (y := nI (2 ^ q)) (nI_shl1 (by omega)) ?_
      refine lv_iconst (v := nI (1)) hx hb dX6_covered_173 (by decide) ?_
      refine xi_sub hx hb (by omega) dX6_covered_174 ?_
      refine xw_lald hx hb hK hP (by decide) 1 fa79 rfl (by omega) (by decide) dX6_covered_175 ?_
      rw [hfz ((2 ^ q) - 1) hi15]
      exact W.lret (v := lZ (cgG q w (r) ((2 ^ q) - 1))) hx hb hr (fun tZ ht hW => ⟨⟨_, gl44_5, rfl, ⟨rfl, ⟨_, _, _, _, _, _, _, _, _, _, _, _, _, _, _, _, _, _, _, _, _, fo62, fa63, ((hfrgl44_5) 64 (by decide) (by decide)).trans fa64, ((hfrgl44_5) 65 (by decide) (by decide)).trans fa65, ((hfrgl44_5) 66 (by decide) (by decide)).trans fa66, ((hfrgl44_5) 67 (by decide) (by decide)).trans fa67, ((hfrgl44_5) 68 (by decide) (by decide)).trans fa68, ((hfrgl44_5) 69 (by decide) (by decide)).trans fa69, ((hfrgl44_5) 70 (by decide) (by decide)).trans fa70, ((hfrgl44_5) 71 (by decide) (by decide)).trans fa71, ((hfrgl44_5) 72 (by decide) (by decide)).trans fa72, ((hfrgl44_5) 73 (by decide) (by decide)).trans fa73, ((hfrgl44_5) 74 (by decide) (by decide)).trans fa74, ((hfrgl44_5) 75 (by decide) (by decide)).trans fa75, ((hfrgl44_5) 76 (by decide) (by decide)).trans fa76, ((hfrgl44_5) 77 (by decide) (by decide)).trans fa77, ((hfrgl44_5) 78 (by decide) (by decide)).trans fa78, fa79, fa80, hfw, hsz, hwl, htx⟩, fun j hj => (hfrgl44_5) j (by omega) (by omega)⟩, by rw [ht]; exact hP, va_K.moved hW.alike hK, va_Nw.warmM hW hN⟩, hS.F ht⟩) hS.2.2 dX6_covered_176
    · refine lv_iconst (v := nI (0)) hx hb dX6_covered_49 (by decide) ?_
      refine lv_istore_n (lv' := [(3, .int (nI (0))), (0, .ref (ad (62))), (1, .int (nI (n0))), (2, .int (nI (r)))]) hx hb dX6_covered_50 rfl hl (by decide) rfl (fun ls hl => ?_)
      refine xloopW (G := fun H locs fr => W p l e _ s m _ below meth c H locs _ _ _ fr) (σ := Nat × (Nat → Int64)) (fun (i, fx) ls => F0 m 51 ls []) (fun (i, fx) gl51_8 H locs ls => (i ≤ 16) ∧ (∀ j, j < i → fx j = lZ 0) ∧ gl51_8 (62) = .inr (6, [.int (nI (q)), .int (nI (Wt)), .ref (ad (63)), .ref (ad (64)), .ref (ad (65)), .ref (ad (66)), .int (nI (T)), .long (tp), .long (bt), .long (nu), .long (de), .int (sq), .ref (ad (67)), .ref (ad (68)), .ref (ad (69)), .ref (ad (70)), .ref (ad (71)), .ref (ad (72)), .ref (ad (73)), .ref (ad (74)), .ref (ad (75)), .ref (ad (76)), .ref (ad (77)), .ref (ad (78)), .ref (ad (79)), .ref (ad (80))]) ∧ gl51_8 (63) = .inl (cI, 4, .inl (fw)) ∧ gl51_8 (79) = .inl (cJ, 16384, .inr (.inl (fz))) ∧ gl51_8 (80) = .inl (cJ, 16384, .inr (.inl (fx))) ∧ (∀ j : Nat, j ≠ 79 → j ≠ 80 → gl51_8 j = g j) ∧ va_P D vwCl (xw 81 ad gl51_8) H ∧ va_S A s.heap H locs ∧ lv_has ls 5 [(0, .ref (ad (62))), (1, .int (nI (n0))), (2, .int (nI (r))), (3, .int (nI (i)))]) (fun (i, fx) => 16 - i) ?_ (0, fy) gl44_5 H locs ls ⟨(Nat.zero_le _), (fun j hj => absurd hj (by omega)), fo62, fa63, fa79, fa80, hfrgl44_5, hP, hS, (lv_sub hl [1, 2, 3, 0] rfl)⟩
      rintro ⟨i, fx⟩ gl51_8 H locs ls ⟨hi, hfx, fo62, fa63, fa79, fa80, hfrgl51_8, hP, hS, hl⟩ ih51
      refine lv_iload_n hx hb dX6_covered_51 rfl (lv_at hl 3 rfl) ?_
      refine lv_bipush (v := nI (16)) hx hb dX6_covered_52 (by decide) ?_
      refine xi_icmp_ge (tgt := 70) hx hb (by omega) (by decide) dX6_covered_54 (by decide) (fun c54_9 => ?_) (fun c54_9 => ?_)
      · refine lv_iconst (v := nI (0)) hx hb dX6_covered_70 (by decide) ?_
        refine lv_istore_n (lv' := [(3, .int (nI (0))), (0, .ref (ad (62))), (1, .int (nI (n0))), (2, .int (nI (r)))]) hx hb dX6_covered_71 rfl hl (by decide) rfl (fun ls hl => ?_)
        refine xloopW (G := fun H locs fr => W p l e _ s m _ below meth c H locs _ _ _ fr) (σ := Nat × (Nat → Int64)) (fun (i, fx) ls => F0 m 72 ls []) (fun (i, fx) gl72_10 H locs ls => (i ≤ 16) ∧ (∀ j, j < 16 → fx j = lZ (cgT q w (cgG q w (r)) (i) j)) ∧ gl72_10 (62) = .inr (6, [.int (nI (q)), .int (nI (Wt)), .ref (ad (63)), .ref (ad (64)), .ref (ad (65)), .ref (ad (66)), .int (nI (T)), .long (tp), .long (bt), .long (nu), .long (de), .int (sq), .ref (ad (67)), .ref (ad (68)), .ref (ad (69)), .ref (ad (70)), .ref (ad (71)), .ref (ad (72)), .ref (ad (73)), .ref (ad (74)), .ref (ad (75)), .ref (ad (76)), .ref (ad (77)), .ref (ad (78)), .ref (ad (79)), .ref (ad (80))]) ∧ gl72_10 (63) = .inl (cI, 4, .inl (fw)) ∧ gl72_10 (79) = .inl (cJ, 16384, .inr (.inl (fz))) ∧ gl72_10 (80) = .inl (cJ, 16384, .inr (.inl (fx))) ∧ (∀ j : Nat, j ≠ 79 → j ≠ 80 → gl72_10 j = g j) ∧ va_P D vwCl (xw 81 ad gl72_10) H ∧ va_S A s.heap H locs ∧ lv_has ls 5 [(0, .ref (ad (62))), (1, .int (nI (n0))), (2, .int (nI (r))), (3, .int (nI (i)))]) (fun (i, fx) => 16 - i) ?_ (0, fx) gl51_8 H locs ls ⟨(Nat.zero_le _), (fun j hj => hfx j (by omega)), fo62, fa63, fa79, fa80, hfrgl51_8, hP, hS, (lv_sub hl [1, 2, 3, 0] rfl)⟩
        rintro ⟨i, fx⟩ gl72_10 H locs ls ⟨hi, hfx, fo62, fa63, fa79, fa80, hfrgl72_10, hP, hS, hl⟩ ih72
        refine lv_iload_n hx hb dX6_covered_72 rfl (lv_at hl 3 rfl) ?_
        refine lv_bipush (v := nI (16)) hx hb dX6_covered_73 (by decide) ?_
        refine xi_icmp_ge (tgt := 131) hx hb (by omega) (by decide) dX6_covered_75 (by decide) (fun c75_11 => ?_) (fun c75_11 => ?_)
        · have hfx2 : ∀ j, j < 16 → fx j = lZ (cgG q w (r + 1) j) := by have h9 := hfx; rw [show i = 16 by omega] at h9; exact h9
          refine lv_iconst (v := nI (0)) hx hb dX6_covered_131 (by decide) ?_
          refine lv_istore_n (lv' := [(3, .int (nI (0))), (0, .ref (ad (62))), (1, .int (nI (n0))), (2, .int (nI (r)))]) hx hb dX6_covered_132 rfl hl (by decide) rfl (fun ls hl => ?_)
          refine xloopW (G := fun H locs fr => W p l e _ s m _ below meth c H locs _ _ _ fr) (σ := Nat × (Nat → Int64)) (fun (i, fn) ls => F0 m 133 ls []) (fun (i, fn) gl133_12 H locs ls => (i ≤ 16) ∧ (∀ j, j < i → fn j = lZ (cgG q w (r + 1) j)) ∧ gl133_12 (62) = .inr (6, [.int (nI (q)), .int (nI (Wt)), .ref (ad (63)), .ref (ad (64)), .ref (ad (65)), .ref (ad (66)), .int (nI (T)), .long (tp), .long (bt), .long (nu), .long (de), .int (sq), .ref (ad (67)), .ref (ad (68)), .ref (ad (69)), .ref (ad (70)), .ref (ad (71)), .ref (ad (72)), .ref (ad (73)), .ref (ad (74)), .ref (ad (75)), .ref (ad (76)), .ref (ad (77)), .ref (ad (78)), .ref (ad (79)), .ref (ad (80))]) ∧ gl133_12 (63) = .inl (cI, 4, .inl (fw)) ∧ gl133_12 (79) = .inl (cJ, 16384, .inr (.inl (fn))) ∧ gl133_12 (80) = .inl (cJ, 16384, .inr (.inl (fx))) ∧ (∀ j : Nat, j ≠ 79 → j ≠ 80 → gl133_12 j = g j) ∧ va_P D vwCl (xw 81 ad gl133_12) H ∧ va_S A s.heap H locs ∧ lv_has ls 5 [(0, .ref (ad (62))), (1, .int (nI (n0))), (2, .int (nI (r))), (3, .int (nI (i)))]) (fun (i, fn) => 16 - i) ?_ (0, fz) gl72_10 H locs ls ⟨(Nat.zero_le _), (fun j hj => absurd hj (by omega)), fo62, fa63, fa79, fa80, hfrgl72_10, hP, hS, (lv_sub hl [1, 2, 3, 0] rfl)⟩
          rintro ⟨i, fn⟩ gl133_12 H locs ls ⟨hi, hfn, fo62, fa63, fa79, fa80, hfrgl133_12, hP, hS, hl⟩ ih133
          refine lv_iload_n hx hb dX6_covered_133 rfl (lv_at hl 3 rfl) ?_
          refine lv_bipush (v := nI (16)) hx hb dX6_covered_134 (by decide) ?_
          refine xi_icmp_ge (tgt := 157) hx hb (by omega) (by decide) dX6_covered_136 (by decide) (fun c136_13 => ?_) (fun c136_13 => ?_)
          · refine lv_iinc (v := nI (r + 1)) (lv' := [(2, .int (nI (r + 1))), (0, .ref (ad (62))), (1, .int (nI (n0))), (3, .int (nI (i)))]) hx hb dX6_covered_157 hl (k := 2) rfl (nI_add (r) 1) (by decide) rfl (fun ls hl => ?_)
            refine lv_goto (tgt := 44) hx hb dX6_covered_160 (by decide) ?_
            exact ih44 (r + 1, fn, fx) gl133_12 H locs ls ⟨(by omega), (fun j hj => hfn j (by omega)), fo62, fa63, fa79, fa80, hfrgl133_12, hP, hS, (lv_sub hl [1, 2, 0] rfl)⟩ (by first | omega | (dsimp only; omega))
          · refine lv_aload_n hx hb dX6_covered_139 rfl (lv_at hl 0 rfl) ?_
            refine xw_get hx hb hts hin6 hown hK hP (by decide) fo62 rfl 24 (by decide) hf70 rfl rfl dX6_covered_140 ?_
            refine lv_iload_n hx hb dX6_covered_143 rfl (lv_at hl 3 rfl) ?_
            refine lv_aload_n hx hb dX6_covered_144 rfl (lv_at hl 0 rfl) ?_
            refine xw_get hx hb hts hin6 hown hK hP (by decide) fo62 rfl 25 (by decide) hf73 rfl rfl dX6_covered_145 ?_
            refine lv_iload_n hx hb dX6_covered_148 rfl (lv_at hl 3 rfl) ?_
            refine xw_lald hx hb hK hP (by decide) 1 fa80 rfl (by omega) (by decide) dX6_covered_149 ?_
            rw [hfx2 (i) (by omega)]
            refine xw_last hx hb hK hP hD hS (by decide) 1 fa79 rfl (by omega) (by decide) dX6_covered_150 (fun g14 H locs eg14 hP hS => ?_)
            have fg14_0 : g14 (62) = .inr (6, [.int (nI (q)), .int (nI (Wt)), .ref (ad (63)), .ref (ad (64)), .ref (ad (65)), .ref (ad (66)), .int (nI (T)), .long (tp), .long (bt), .long (nu), .long (de), .int (sq), .ref (ad (67)), .ref (ad (68)), .ref (ad (69)), .ref (ad (70)), .ref (ad (71)), .ref (ad (72)), .ref (ad (73)), .ref (ad (74)), .ref (ad (75)), .ref (ad (76)), .ref (ad (77)), .ref (ad (78)), .ref (ad (79)), .ref (ad (80))]) := (congrFun eg14 (62)).trans ((va_up_ne _ _ (by decide)).trans fo62)
            have fg14_1 : g14 (63) = .inl (cI, 4, .inl (fw)) := (congrFun eg14 (63)).trans ((va_up_ne _ _ (by decide)).trans fa63)
            have fg14_2 : g14 (80) = .inl (cJ, 16384, .inr (.inl (fx))) := (congrFun eg14 (80)).trans ((va_up_ne _ _ (by decide)).trans fa80)
            have fg14_w : g14 (79) = .inl (cJ, 16384, .inr (.inl (vp_updL (fn) (i) (lZ (cgG q w (r + 1) (i)))))) := (congrFun eg14 (79)).trans (va_up_self _ _ _)
            have hfrg14 : ∀ j : Nat, j ≠ 79 → j ≠ 80 → g14 j = g j := fun j h0 h1 => (congrFun eg14 j).trans ((va_up_ne _ _ h0).trans (hfrgl133_12 j h0 h1))
            refine lv_iinc (v := nI (i + 1)) (lv' := [(3, .int (nI (i + 1))), (0, .ref (ad (62))), (1, .int (nI (n0))), (2, .int (nI (r)))]) hx hb dX6_covered_151 hl (k := 3) rfl (nI_add (i) 1) (by decide) rfl (fun ls hl => ?_)
            refine lv_goto (tgt := 133) hx hb dX6_covered_154 (by decide) ?_
            exact ih133 (i + 1, vp_updL (fn) (i) (lZ (cgG q w (r + 1) (i)))) g14 H locs ls ⟨(by omega), (fun j hj => if e : j = i then by rw [e, pk_uLs] else by rw [pk_uLn e]; exact hfn j (by omega)), fg14_0, fg14_1, fg14_w, fg14_2, hfrg14, hP, hS, (lv_sub hl [1, 2, 3, 0] rfl)⟩ (by first | omega | (dsimp only; omega))
        · refine lv_iconst (v := nI (0)) hx hb dX6_covered_78 (by decide) ?_
          refine lv_istore (lv' := [(4, .int (nI (0))), (0, .ref (ad (62))), (1, .int (nI (n0))), (2, .int (nI (r))), (3, .int (nI (i)))]) hx hb dX6_covered_79 hl (by decide) rfl (fun ls hl => ?_)
          refine xloopW (G := fun H locs fr => W p l e _ s m _ below meth c H locs _ _ _ fr) (σ := Nat × (Nat → Int64)) (fun (d0, fc) ls => F0 m 81 ls []) (fun (d0, fc) gl81_15 H locs ls => (d0 ≤ q) ∧ (∀ j, j < 16 → fc j = lZ (cgC w i (cgG q w (r) i) (cgT q w (cgG q w (r)) (i)) (d0) j)) ∧ gl81_15 (62) = .inr (6, [.int (nI (q)), .int (nI (Wt)), .ref (ad (63)), .ref (ad (64)), .ref (ad (65)), .ref (ad (66)), .int (nI (T)), .long (tp), .long (bt), .long (nu), .long (de), .int (sq), .ref (ad (67)), .ref (ad (68)), .ref (ad (69)), .ref (ad (70)), .ref (ad (71)), .ref (ad (72)), .ref (ad (73)), .ref (ad (74)), .ref (ad (75)), .ref (ad (76)), .ref (ad (77)), .ref (ad (78)), .ref (ad (79)), .ref (ad (80))]) ∧ gl81_15 (63) = .inl (cI, 4, .inl (fw)) ∧ gl81_15 (79) = .inl (cJ, 16384, .inr (.inl (fz))) ∧ gl81_15 (80) = .inl (cJ, 16384, .inr (.inl (fc))) ∧ (∀ j : Nat, j ≠ 79 → j ≠ 80 → gl81_15 j = g j) ∧ va_P D vwCl (xw 81 ad gl81_15) H ∧ va_S A s.heap H locs ∧ lv_has ls 5 [(0, .ref (ad (62))), (1, .int (nI (n0))), (2, .int (nI (r))), (3, .int (nI (i))), (4, .int (nI (d0)))]) (fun (d0, fc) => q - d0) ?_ (0, fx) gl72_10 H locs ls ⟨(Nat.zero_le _), hfx, fo62, fa63, fa79, fa80, hfrgl72_10, hP, hS, (lv_sub hl [1, 2, 3, 4, 0] rfl)⟩
          rintro ⟨d0, fc⟩ gl81_15 H locs ls ⟨hd0, hfc, fo62, fa63, fa79, fa80, hfrgl81_15, hP, hS, hl⟩ ih81
          refine lv_iload hx hb dX6_covered_81 (lv_at hl 4 rfl) ?_
          refine lv_aload_n hx hb dX6_covered_83 rfl (lv_at hl 0 rfl) ?_
          refine xw_get hx hb hts hin6 hown hK hP (by decide) fo62 rfl 0 (by decide) hf7 rfl rfl dX6_covered_84 ?_
          refine xi_icmp_ge (tgt := 125) hx hb (by omega) (by omega) dX6_covered_87 (by decide) (fun c87_16 => ?_) (fun c87_16 => ?_)
          · refine lv_iinc (v := nI (i + 1)) (lv' := [(3, .int (nI (i + 1))), (0, .ref (ad (62))), (1, .int (nI (n0))), (2, .int (nI (r))), (4, .int (nI (d0)))]) hx hb dX6_covered_125 hl (k := 3) rfl (nI_add (i) 1) (by decide) rfl (fun ls hl => ?_)
            refine lv_goto (tgt := 72) hx hb dX6_covered_128 (by decide) ?_
            exact ih72 (i + 1, fc) gl81_15 H locs ls ⟨(by omega), (show ∀ j, j < 16 → fc j = lZ (cgC w i (cgG q w (r) i) (cgT q w (cgG q w (r)) (i)) (q) j) from (show d0 = q by omega) ▸ hfc), fo62, fa63, fa79, fa80, hfrgl81_15, hP, hS, (lv_sub hl [1, 2, 3, 0] rfl)⟩ (by first | omega | (dsimp only; omega))
          · have hix : i ||| 2 ^ d0 < 16 := or16 i (by omega) d0 (by omega)
            have hi2 : i ||| 2 ^ d0 < 16384 := by omega
            refine lv_aload_n hx hb dX6_covered_90 rfl (lv_at hl 0 rfl) ?_
            refine xw_get hx hb hts hin6 hown hK hP (by decide) fo62 rfl 25 (by decide) hf73 rfl rfl dX6_covered_91 ?_
            refine lv_iload_n hx hb dX6_covered_94 rfl (lv_at hl 3 rfl) ?_
            refine lv_iconst (v := nI (1)) hx hb dX6_covered_95 (by decide) ?_
            refine lv_iload hx hb dX6_covered_96 (lv_at hl 4 rfl) ?_
            refine lv_ishl hx hb dX6_covered_98 ?_
            refine xtopi (y := nI (2 ^ d0)) (nI_shl1 (by omega)) ?_
            refine lv_ior hx hb dX6_covered_99 ?_
            refine xtopi (y := nI (i ||| 2 ^ d0)) (nI_or _ _) ?_
            refine lv_dup2_11 hx hb dX6_covered_100 rfl rfl ?_
            refine xw_lald hx hb hK hP (by decide) 1 fa80 rfl hi2 (by decide) dX6_covered_101 ?_
            rw [hfc (i ||| 2 ^ d0) hix]
            refine lv_aload_n hx hb dX6_covered_102 rfl (lv_at hl 0 rfl) ?_
            refine xw_get hx hb hts hin6 hown hK hP (by decide) fo62 rfl 24 (by decide) hf70 rfl rfl dX6_covered_103 ?_
            refine lv_iload_n hx hb dX6_covered_106 rfl (lv_at hl 3 rfl) ?_
            refine xw_lald hx hb hK hP (by decide) 1 fa79 rfl (by omega) (by decide) dX6_covered_107 ?_
            rw [hfz (i) (by omega)]
            refine lv_aload_n hx hb dX6_covered_108 rfl (lv_at hl 0 rfl) ?_
            refine xw_get hx hb hts hin6 hown hK hP (by decide) fo62 rfl 2 (by decide) hf16 rfl rfl dX6_covered_109 ?_
            refine lv_iload hx hb dX6_covered_112 (lv_at hl 4 rfl) ?_
            refine xw_iald hx hb hK hP (by decide) 0 fa63 rfl (by omega) (by decide) dX6_covered_114 ?_
            rw [hfw (d0) (by omega)]
            refine xi_i2l hx hb (Nat.lt_of_le_of_lt (hw _ (by omega)) (by decide)) dX6_covered_115 ?_
            refine xl_mul hx hb dX6_covered_116 ?_
            refine xl_add hx hb dX6_covered_117 ?_
            refine xw_last hx hb hK hP hD hS (by decide) 1 fa80 rfl hi2 (by decide) dX6_covered_118 (fun g19 H locs eg19 hP hS => ?_)
            have fg19_0 : g19 (62) = .inr (6, [.int (nI (q)), .int (nI (Wt)), .ref (ad (63)), .ref (ad (64)), .ref (ad (65)), .ref (ad (66)), .int (nI (T)), .long (tp), .long (bt), .long (nu), .long (de), .int (sq), .ref (ad (67)), .ref (ad (68)), .ref (ad (69)), .ref (ad (70)), .ref (ad (71)), .ref (ad (72)), .ref (ad (73)), .ref (ad (74)), .ref (ad (75)), .ref (ad (76)), .ref (ad (77)), .ref (ad (78)), .ref (ad (79)), .ref (ad (80))]) := (congrFun eg19 (62)).trans ((va_up_ne _ _ (by decide)).trans fo62)
            have fg19_1 : g19 (63) = .inl (cI, 4, .inl (fw)) := (congrFun eg19 (63)).trans ((va_up_ne _ _ (by decide)).trans fa63)
            have fg19_2 : g19 (79) = .inl (cJ, 16384, .inr (.inl (fz))) := (congrFun eg19 (79)).trans ((va_up_ne _ _ (by decide)).trans fa79)
            have fg19_w : g19 (80) = .inl (cJ, 16384, .inr (.inl (vp_updL (fc) (i ||| 2 ^ d0) (lZ ((cgC w i (cgG q w (r) i) (cgT q w (cgG q w (r)) (i)) (d0) (i ||| 2 ^ d0)) + ((cgG q w (r) (i)) * (((w (d0) : Nat) : Int)))))))) := (congrFun eg19 (80)).trans (va_up_self _ _ _)
            have hfrg19 : ∀ j : Nat, j ≠ 79 → j ≠ 80 → g19 j = g j := fun j h0 h1 => (congrFun eg19 j).trans ((va_up_ne _ _ h1).trans (hfrgl81_15 j h0 h1))
            refine lv_iinc (v := nI (d0 + 1)) (lv' := [(4, .int (nI (d0 + 1))), (0, .ref (ad (62))), (1, .int (nI (n0))), (2, .int (nI (r))), (3, .int (nI (i)))]) hx hb dX6_covered_119 hl (k := 4) rfl (nI_add (d0) 1) (by decide) rfl (fun ls hl => ?_)
            refine lv_goto (tgt := 81) hx hb dX6_covered_122 (by decide) ?_
            exact ih81 (d0 + 1, vp_updL (fc) (i ||| 2 ^ d0) (lZ ((cgC w i (cgG q w (r) i) (cgT q w (cgG q w (r)) (i)) (d0) (i ||| 2 ^ d0)) + ((cgG q w (r) (i)) * (((w (d0) : Nat) : Int)))))) g19 H locs ls ⟨(by omega), (show ∀ j, j < 16 → _ = lZ (va_up (cgC w i (cgG q w (r) i) (cgT q w (cgG q w (r)) (i)) (d0)) _ _ j) from updL_lZ hfc), fg19_0, fg19_1, fg19_2, fg19_w, hfrg19, hP, hS, (lv_sub hl [1, 2, 3, 4, 0] rfl)⟩ (by first | omega | (dsimp only; omega))
      · refine lv_aload_n hx hb dX6_covered_57 rfl (lv_at hl 0 rfl) ?_
        refine xw_get hx hb hts hin6 hown hK hP (by decide) fo62 rfl 25 (by decide) hf73 rfl rfl dX6_covered_58 ?_
        refine lv_iload_n hx hb dX6_covered_61 rfl (lv_at hl 3 rfl) ?_
        refine lv_lconst (v := lZ (0)) hx hb dX6_covered_62 (by decide) ?_
        refine xw_last hx hb hK hP hD hS (by decide) 1 fa80 rfl (by omega) (by decide) dX6_covered_63 (fun g20 H locs eg20 hP hS => ?_)
        have fg20_0 : g20 (62) = .inr (6, [.int (nI (q)), .int (nI (Wt)), .ref (ad (63)), .ref (ad (64)), .ref (ad (65)), .ref (ad (66)), .int (nI (T)), .long (tp), .long (bt), .long (nu), .long (de), .int (sq), .ref (ad (67)), .ref (ad (68)), .ref (ad (69)), .ref (ad (70)), .ref (ad (71)), .ref (ad (72)), .ref (ad (73)), .ref (ad (74)), .ref (ad (75)), .ref (ad (76)), .ref (ad (77)), .ref (ad (78)), .ref (ad (79)), .ref (ad (80))]) := (congrFun eg20 (62)).trans ((va_up_ne _ _ (by decide)).trans fo62)
        have fg20_1 : g20 (63) = .inl (cI, 4, .inl (fw)) := (congrFun eg20 (63)).trans ((va_up_ne _ _ (by decide)).trans fa63)
        have fg20_2 : g20 (79) = .inl (cJ, 16384, .inr (.inl (fz))) := (congrFun eg20 (79)).trans ((va_up_ne _ _ (by decide)).trans fa79)
        have fg20_w : g20 (80) = .inl (cJ, 16384, .inr (.inl (vp_updL (fx) (i) (lZ (0))))) := (congrFun eg20 (80)).trans (va_up_self _ _ _)
        have hfrg20 : ∀ j : Nat, j ≠ 79 → j ≠ 80 → g20 j = g j := fun j h0 h1 => (congrFun eg20 j).trans ((va_up_ne _ _ h1).trans (hfrgl51_8 j h0 h1))
        refine lv_iinc (v := nI (i + 1)) (lv' := [(3, .int (nI (i + 1))), (0, .ref (ad (62))), (1, .int (nI (n0))), (2, .int (nI (r)))]) hx hb dX6_covered_64 hl (k := 3) rfl (nI_add (i) 1) (by decide) rfl (fun ls hl => ?_)
        refine lv_goto (tgt := 51) hx hb dX6_covered_67 (by decide) ?_
        exact ih51 (i + 1, vp_updL (fx) (i) (lZ (0))) g20 H locs ls ⟨(by omega), (fun j hj => if e : j = i then by rw [e, pk_uLs] else by rw [pk_uLn e]; exact hfx j (by omega)), fg20_0, fg20_1, fg20_2, fg20_w, hfrg20, hP, hS, (lv_sub hl [1, 2, 3, 0] rfl)⟩ (by first | omega | (dsimp only; omega))
  · refine lv_aload_n hx hb dX6_covered_21 rfl (lv_at hl 0 rfl) ?_
    refine xw_get hx hb hts hin6 hown hK hP (by decide) fo62 rfl 24 (by decide) hf70 rfl rfl dX6_covered_22 ?_
    refine lv_iload_n hx hb dX6_covered_25 rfl (lv_at hl 2 rfl) ?_
    refine lv_iload_n hx hb dX6_covered_26 rfl (lv_at hl 2 rfl) ?_
    refine xi_if_ne (tgt := 34) hx hb (by omega) dX6_covered_27 (by decide) (fun c27_21 => ?_) (fun c27_21 => ?_)
    · refine lv_lconst (v := lZ (0)) hx hb dX6_covered_34 (by decide) ?_
      refine xw_last hx hb hK hP hD hS (by decide) 1 fa79 rfl (by omega) (by decide) dX6_covered_35 (fun g22 H locs eg22 hP hS => ?_)
      have fg22_0 : g22 (62) = .inr (6, [.int (nI (q)), .int (nI (Wt)), .ref (ad (63)), .ref (ad (64)), .ref (ad (65)), .ref (ad (66)), .int (nI (T)), .long (tp), .long (bt), .long (nu), .long (de), .int (sq), .ref (ad (67)), .ref (ad (68)), .ref (ad (69)), .ref (ad (70)), .ref (ad (71)), .ref (ad (72)), .ref (ad (73)), .ref (ad (74)), .ref (ad (75)), .ref (ad (76)), .ref (ad (77)), .ref (ad (78)), .ref (ad (79)), .ref (ad (80))]) := (congrFun eg22 (62)).trans ((va_up_ne _ _ (by decide)).trans fo62)
      have fg22_1 : g22 (63) = .inl (cI, 4, .inl (fw)) := (congrFun eg22 (63)).trans ((va_up_ne _ _ (by decide)).trans fa63)
      have fg22_2 : g22 (80) = .inl (cJ, 16384, .inr (.inl (fth))) := (congrFun eg22 (80)).trans ((va_up_ne _ _ (by decide)).trans fa80)
      have fg22_w : g22 (79) = .inl (cJ, 16384, .inr (.inl (vp_updL (fz) (i) (lZ (0))))) := (congrFun eg22 (79)).trans (va_up_self _ _ _)
      have hfrg22 : ∀ j : Nat, j ≠ 79 → j ≠ 80 → g22 j = g j := fun j h0 h1 => (congrFun eg22 j).trans ((va_up_ne _ _ h0).trans (hfrgl15_3 j h0 h1))
      refine lv_iinc (v := nI (i + 1)) (lv' := [(2, .int (nI (i + 1))), (0, .ref (ad (62))), (1, .int (nI (n0)))]) hx hb dX6_covered_36 hl (k := 2) rfl (nI_add (i) 1) (by decide) rfl (fun ls hl => ?_)
      refine lv_goto (tgt := 15) hx hb dX6_covered_39 (by decide) ?_
      exact ih15 (i + 1, vp_updL (fz) (i) (lZ (0))) g22 H locs ls ⟨(by omega), (fun j hj => if e : j = i then by rw [e, pk_uLs, if_neg c27_21] else by rw [pk_uLn e]; exact hfz j (by omega)), fg22_0, fg22_1, fg22_w, fg22_2, hfrg22, hP, hS, (lv_sub hl [1, 2, 0] rfl)⟩ (by first | omega | (dsimp only; omega))
    · refine lv_lconst (v := lZ (1)) hx hb dX6_covered_30 (by decide) ?_
      refine lv_goto (tgt := 35) hx hb dX6_covered_31 (by decide) ?_
      refine xw_last hx hb hK hP hD hS (by decide) 1 fa79 rfl (by omega) (by decide) dX6_covered_35 (fun g23 H locs eg23 hP hS => ?_)
      have fg23_0 : g23 (62) = .inr (6, [.int (nI (q)), .int (nI (Wt)), .ref (ad (63)), .ref (ad (64)), .ref (ad (65)), .ref (ad (66)), .int (nI (T)), .long (tp), .long (bt), .long (nu), .long (de), .int (sq), .ref (ad (67)), .ref (ad (68)), .ref (ad (69)), .ref (ad (70)), .ref (ad (71)), .ref (ad (72)), .ref (ad (73)), .ref (ad (74)), .ref (ad (75)), .ref (ad (76)), .ref (ad (77)), .ref (ad (78)), .ref (ad (79)), .ref (ad (80))]) := (congrFun eg23 (62)).trans ((va_up_ne _ _ (by decide)).trans fo62)
      have fg23_1 : g23 (63) = .inl (cI, 4, .inl (fw)) := (congrFun eg23 (63)).trans ((va_up_ne _ _ (by decide)).trans fa63)
      have fg23_2 : g23 (80) = .inl (cJ, 16384, .inr (.inl (fth))) := (congrFun eg23 (80)).trans ((va_up_ne _ _ (by decide)).trans fa80)
      have fg23_w : g23 (79) = .inl (cJ, 16384, .inr (.inl (vp_updL (fz) (i) (lZ (1))))) := (congrFun eg23 (79)).trans (va_up_self _ _ _)
      have hfrg23 : ∀ j : Nat, j ≠ 79 → j ≠ 80 → g23 j = g j := fun j h0 h1 => (congrFun eg23 j).trans ((va_up_ne _ _ h0).trans (hfrgl15_3 j h0 h1))
      refine lv_iinc (v := nI (i + 1)) (lv' := [(2, .int (nI (i + 1))), (0, .ref (ad (62))), (1, .int (nI (n0)))]) hx hb dX6_covered_36 hl (k := 2) rfl (nI_add (i) 1) (by decide) rfl (fun ls hl => ?_)
      refine lv_goto (tgt := 15) hx hb dX6_covered_39 (by decide) ?_
      exact ih15 (i + 1, vp_updL (fz) (i) (lZ (1))) g23 H locs ls ⟨(by omega), (fun j hj => if e : j = i then by rw [e, pk_uLs, if_pos c27_21] else by rw [pk_uLn e]; exact hfz j (by omega)), fg23_0, fg23_1, fg23_w, fg23_2, hfrg23, hP, hS, (lv_sub hl [1, 2, 0] rfl)⟩ (by first | omega | (dsimp only; omega))
