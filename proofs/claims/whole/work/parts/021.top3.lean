set_option maxHeartbeats 4000000 in
set_option maxRecDepth 100000 in
theorem mX5_tell_s (l : Launch) {D : va_G} {cI cJ cZ cW : ClassId} {ad : Nat → Nat} {g : Nat → va_E} {q Wt : Nat} {w : Nat → Nat} {ln : Nat → Nat} {u : Nat → Nat → Nat} {T : Nat} {t : Nat → Nat} {tp bt : Int64} {k1 b1 n1 ol1 : Nat} {u1 sf1 : Nat → Nat} {y0 : Int32}  (hC : ClsI cI cJ cZ cW ad g q Wt w ln u T t tp bt) (hs : SrcI q Wt w ln u T t) (hk1 : k1 < 8) (eb1 : 17 + 5 * k1 = b1) (en1 : ln k1 = n1) (eu1 : u k1 = u1) (es1 : shr Wt w u1 n1 = sf1) (eo1 : ownL Wt w u1 n1 = ol1) (hp1 : 0 < n1) : Met l yX5_tell wsX5_tell ({ frames := 2, cells := 0, slots := 0, locals := 41 }) (va_Pc [.ref (ad (0)), .int (nI (k1)), .int (y0)] (xB D (xT cI cJ cZ cW) ad g)) (vp_Si (fun r => r = aTell q ln u (nI (k1)) y0)) 0 0 (fun _ => False) := by
  refine Met.ofW (cc := cX5_tell) (maxL := 4) (ret := (some .int)) (by decide) rfl ?_
  intro p e s m args below meth c s₁ B hml hv
  obtain ⟨rfl, hP, hK, hN⟩ := hv
  have hx := B.exec
  have hb := B.bytes
  have hr := B.returns
  have hts := atoms_spec (ws := wsX5_tell) B.pre
  have hown : s.vm.findClass RX5 = some m.cls := findClass_of_methodNamed B.named
  have hlocks := B.notSynchronized
  have hin4 : ∀ w ∈ wsX40, w ∈ wsX5_tell := by decide +kernel
  have hf79 := hts (.fieldLink RX5 79 "LettersByLot$Word" "length" "I") (by decide +kernel)
  have hf82 := hts (.fieldLink RX5 82 "LettersByLot$Word" "code" "I") (by decide +kernel)
  have hl := lv_entry ([.ref (ad (0)), .int (nI (k1)), .int (y0)]) (n := 4) (Nat.le_of_ble_eq_true rfl)
  rw [lg_entry_eq]
  generalize (lg_sl ([.ref (ad (0)), .int (nI (k1)), .int (y0)]) ++ List.replicate (4 - (lg_sl ([.ref (ad (0)), .int (nI (k1)), .int (y0)])).length) Slot.unset).toArray = ls at hl ⊢
  have hl : lv_has ls 4 [(0, .ref (ad (0))), (1, .int (nI (k1))), (2, .int (y0))] := hl
  obtain ⟨hq2, hq4, hw1, hw0, hWs, hWt, hw, hln, hul, hT, ht⟩ := hs
  obtain ⟨fo_0, ⟨f2, fo_1, fa_2, h2⟩, ⟨f3, fa_3, h3⟩, hRace, hMach, ⟨f16, fo15, fa16, h16⟩, hwd, hcand⟩ := id hC
  obtain ⟨fl1, fh1, ft1, fs1, fo1, fal1, fah1, fat1, fas1, hfl1, hfh1, hft1, hfs1⟩ := cw_pos hwd hk1 eb1 en1 eu1 es1 eo1 hp1
  have hb1 : b1 + 4 < 81 := by omega
  have hn1 : n1 ≤ 5 := en1 ▸ hln k1
  have hu1 : ∀ j, j < n1 → u1 j < q := fun j hj => by rw [← eu1]; exact hul k1 j (by rw [en1]; exact hj)
  have hwu1 : ∀ j, j < n1 → w (u1 j) ≤ 4 := fun j hj => hw _ (Nat.lt_of_lt_of_le (hu1 j hj) hq4)
  have hsf1 : ∀ k, k ≤ n1 → sf1 k ≤ 1024 := fun k hk => es1 ▸ shr_le hWt hwu1 hn1 hk
  have hs01 : 1 ≤ sf1 0 := es1 ▸ shr_0 (fun j hj => hw1 _ (hu1 j hj))
  have hol1 : ol1 ≤ 5120 := by rw [← eo1]; show lapS (shr Wt w u1 n1) u1 n1 u1 n1 5 ≤ 5120; rw [es1]; exact lapS_le hsf1 5
  refine lv_aload_n hx hb dX5_tell_0 rfl (lv_at hl 0 rfl) ?_
  refine lv_iload_n hx hb dX5_tell_1 rfl (lv_at hl 1 rfl) ?_
  refine va_csq (va_Run.run (va_runV (As := [.int (nI (k1))]) (rest := []) ⟨hx, hb, hml, hown, hts⟩ (mX5_wordIn_yes l fo_0 fa_3 fo1 h3 hk1 eb1 hp1 hn1) (cwV 1 hts gX5_tell_X5_wordIn rfl rfl rfl (by decide +kernel) ⟨Nat.le_of_ble_eq_true rfl, Nat.le_of_ble_eq_true rfl⟩) ⟨xB_blind, va_recv hK hP (ci := 5) rfl (xw_is (by decide) fo_0), fun U hU hW => ⟨rfl, by rw [hU]; exact hP, va_K.moved hW.alike hK, va_Nw.warmM hW hN⟩⟩ rfl rfl hl.1 rfl (lv_room (Nat.le_of_ble_eq_true rfl)) dX5_tell_2 ⟨Nat.le_of_ble_eq_true rfl, Nat.le_of_ble_eq_true rfl⟩)) (fun r1 er1 => ?_)
  subst er1
  refine W.eq (g2 := F0 m 5 ls (.ref (ad (b1)) :: [])) rfl ?_
  refine lv_astore_n (lv' := [(3, .ref (ad (b1))), (0, .ref (ad (0))), (1, .int (nI (k1))), (2, .int (y0))]) hx hb dX5_tell_5 rfl hl (by decide) rfl (fun ls hl => ?_)
  refine lv_aload_n hx hb dX5_tell_6 rfl (lv_at hl 0 rfl) ?_
  refine lv_ifnull hx hb dX5_tell_7 ?_
  refine lv_iload_n hx hb dX5_tell_10 rfl (lv_at hl 3 rfl) ?_
  refine lv_if_ge (tgt := 16) hx hb dX5_tell_11 (by decide) (fun c11_2 => ?_) (fun c11_2 => ?_)
  · obtain ⟨yy, hyy, rfl⟩ := nI_of (x := y0) (by rw [Int32.not_lt]; exact c11_2)
    refine lv_iload_n hx hb dX5_tell_16 rfl (lv_at hl 3 rfl) ?_
    refine xi_if_ne (tgt := 25) hx hb (by omega) dX5_tell_17 (by decide) (fun c17_3 => ?_) (fun c17_3 => ?_)
    · refine lv_iload_n hx hb dX5_tell_25 rfl (lv_at hl 3 rfl) ?_
      refine lv_iconst (v := nI (1)) hx hb dX5_tell_26 (by decide) ?_
      refine xi_icmp_ne (tgt := 37) hx hb (by omega) (by decide) dX5_tell_27 (by decide) (fun c27_4 => ?_) (fun c27_4 => ?_)
      · refine lv_aload_n hx hb dX5_tell_37 rfl (lv_at hl 0 rfl) ?_
        refine lv_iload_n hx hb dX5_tell_38 rfl (lv_at hl 3 rfl) ?_
        refine lv_iconst (v := nI (2)) hx hb dX5_tell_39 (by decide) ?_
        refine xi_sub hx hb (by omega) dX5_tell_40 ?_
        by_cases hj : yy - 2 < n1
        · refine vp_callSi (va_Run.run (va_runV (As := [.int (nI (yy - 2))]) (rest := []) ⟨hx, hb, hml, hown, hts⟩ (mX4_letterAt_in l (q := q) fo1 fal1 hb1 hn1 hu1 hfl1 hj) (cwV 1 hts gX5_tell_X4_letterAt rfl rfl rfl (by decide +kernel) ⟨Nat.le_of_ble_eq_true rfl, Nat.le_of_ble_eq_true rfl⟩) ⟨xB_blind, va_recv hK hP (ci := 4) rfl (xw_is (by omega) fo1), fun U hU hW => ⟨rfl, by rw [hU]; exact hP, va_K.moved hW.alike hK, va_Nw.warmM hW hN⟩⟩ rfl rfl hl.1 rfl (lv_room (Nat.le_of_ble_eq_true rfl)) dX5_tell_41 ⟨Nat.le_of_ble_eq_true rfl, Nat.le_of_ble_eq_true rfl⟩)) (fun r5 er5 => ?_)
          subst er5
          exact W.iret (v := nI (u1 (yy - 2))) hx hb hr (fun tZ ht _ => ⟨_, rfl, (by show _ = aTell q ln u _ _; subst en1 eu1 es1 eo1; unfold aTell; rw [slotW_yes hk1 hp1]; show _ = (if nI yy < 0 then _ else _); rw [if_neg (nI_pos hyy)]; rw [if_neg (show ¬ nI yy = 0 from fun h => c17_3 ((nI_eq hyy (by decide)).mp (h.trans (show (0 : Int32) = nI 0 from rfl)))), if_neg (show ¬ nI yy = 1 from fun h => c27_4 ((nI_eq hyy (by decide)).mp (h.trans (show (1 : Int32) = nI 1 from rfl)))), show nI yy - 2 = nI (yy - 2) from pk_sub (b := 2) (by omega)]; rw [if_pos (nI_lt hj (by have := hln k1; omega)), nI_clamp (by omega)]), ht⟩) (fun q hq => by cases hq) dX5_tell_44
        · refine vp_callSi (va_Run.run (va_runV (As := [.int (nI (yy - 2))]) (rest := []) ⟨hx, hb, hml, hown, hts⟩ (mX4_letterAt_out l (q := q) fo1 fal1 hb1 hn1 hu1 hfl1 (Or.inr (nI_le (by omega) (by omega)))) (cwV 1 hts gX5_tell_X4_letterAt rfl rfl rfl (by decide +kernel) ⟨Nat.le_of_ble_eq_true rfl, Nat.le_of_ble_eq_true rfl⟩) ⟨xB_blind, va_recv hK hP (ci := 4) rfl (xw_is (by omega) fo1), fun U hU hW => ⟨rfl, by rw [hU]; exact hP, va_K.moved hW.alike hK, va_Nw.warmM hW hN⟩⟩ rfl rfl hl.1 rfl (lv_room (Nat.le_of_ble_eq_true rfl)) dX5_tell_41 ⟨Nat.le_of_ble_eq_true rfl, Nat.le_of_ble_eq_true rfl⟩)) (fun r6 er6 => ?_)
          subst er6
          exact W.iret (v := (-1)) hx hb hr (fun tZ ht _ => ⟨_, rfl, (by show _ = aTell q ln u _ _; subst en1 eu1 es1 eo1; unfold aTell; rw [slotW_yes hk1 hp1]; show _ = (if nI yy < 0 then _ else _); rw [if_neg (nI_pos hyy)]; rw [if_neg (show ¬ nI yy = 0 from fun h => c17_3 ((nI_eq hyy (by decide)).mp (h.trans (show (0 : Int32) = nI 0 from rfl)))), if_neg (show ¬ nI yy = 1 from fun h => c27_4 ((nI_eq hyy (by decide)).mp (h.trans (show (1 : Int32) = nI 1 from rfl)))), show nI yy - 2 = nI (yy - 2) from pk_sub (b := 2) (by omega)]; rw [if_neg (nI_nlt (by omega) (by omega))]), ht⟩) (fun q hq => by cases hq) dX5_tell_44
      · refine lv_aload_n hx hb dX5_tell_30 rfl (lv_at hl 0 rfl) ?_
        refine xw_get hx hb hts hin4 hown hK hP (by omega) fo1 rfl 5 (by decide) hf82 rfl rfl dX5_tell_31 ?_
        refine lv_goto (tgt := 44) hx hb dX5_tell_34 (by decide) ?_
        exact W.iret (v := nI (px q u1 n1)) hx hb hr (fun tZ ht _ => ⟨_, rfl, (by show _ = aTell q ln u _ _; subst en1 eu1 es1 eo1; unfold aTell; rw [slotW_yes hk1 hp1]; show _ = (if nI yy < 0 then _ else _); rw [if_neg (nI_pos hyy)]; rw [if_neg (show ¬ nI yy = 0 from fun h => c17_3 ((nI_eq hyy (by decide)).mp (h.trans (show (0 : Int32) = nI 0 from rfl)))), if_pos (show nI yy = 1 by rw [c27_4]; rfl)]), ht⟩) (fun q hq => by cases hq) dX5_tell_44
    · refine lv_aload_n hx hb dX5_tell_20 rfl (lv_at hl 0 rfl) ?_
      refine xw_get hx hb hts hin4 hown hK hP (by omega) fo1 rfl 4 (by decide) hf79 rfl rfl dX5_tell_21 ?_
      exact W.iret (v := nI (n1)) hx hb hr (fun tZ ht _ => ⟨_, rfl, (by show _ = aTell q ln u _ _; subst en1 eu1 es1 eo1; unfold aTell; rw [slotW_yes hk1 hp1]; show _ = (if nI yy < 0 then _ else _); rw [if_neg (nI_pos hyy)]; rw [if_pos (show nI yy = 0 by rw [c17_3]; rfl)]), ht⟩) (fun q hq => by cases hq) dX5_tell_24
  · refine lv_iconst (v := (-1)) hx hb dX5_tell_14 (by decide) ?_
    exact W.iret (v := (-1)) hx hb hr (fun tZ ht _ => ⟨_, rfl, (by show _ = aTell q ln u _ _; subst en1 eu1 es1 eo1; unfold aTell; rw [slotW_yes hk1 hp1]; show _ = (if y0 < 0 then _ else _); rw [if_pos (Int32.not_le.mp c11_2)]), ht⟩) (fun q hq => by cases hq) dX5_tell_15

set_option maxHeartbeats 4000000 in
set_option maxRecDepth 100000 in
theorem mX5_tell_n (l : Launch) {D : va_G} {cI cJ cZ cW : ClassId} {ad : Nat → Nat} {g : Nat → va_E} {q Wt : Nat} {w : Nat → Nat} {ln : Nat → Nat} {u : Nat → Nat → Nat} {T : Nat} {t : Nat → Nat} {tp bt : Int64} {xa : Int32} {y0 : Int32}  (hC : ClsI cI cJ cZ cW ad g q Wt w ln u T t tp bt) (hs : SrcI q Wt w ln u T t) (hxa : noW ln xa) : Met l yX5_tell wsX5_tell ({ frames := 2, cells := 0, slots := 0, locals := 41 }) (va_Pc [.ref (ad (0)), .int (xa), .int (y0)] (xB D (xT cI cJ cZ cW) ad g)) (vp_Si (fun r => r = aTell q ln u (xa) y0)) 0 0 (fun _ => False) := by
  refine Met.ofW (cc := cX5_tell) (maxL := 4) (ret := (some .int)) (by decide) rfl ?_
  intro p e s m args below meth c s₁ B hml hv
  obtain ⟨rfl, hP, hK, hN⟩ := hv
  have hx := B.exec
  have hb := B.bytes
  have hr := B.returns
  have hts := atoms_spec (ws := wsX5_tell) B.pre
  have hown : s.vm.findClass RX5 = some m.cls := findClass_of_methodNamed B.named
  have hlocks := B.notSynchronized
  have hl := lv_entry ([.ref (ad (0)), .int (xa), .int (y0)]) (n := 4) (Nat.le_of_ble_eq_true rfl)
  rw [lg_entry_eq]
  generalize (lg_sl ([.ref (ad (0)), .int (xa), .int (y0)]) ++ List.replicate (4 - (lg_sl ([.ref (ad (0)), .int (xa), .int (y0)])).length) Slot.unset).toArray = ls at hl ⊢
  have hl : lv_has ls 4 [(0, .ref (ad (0))), (1, .int (xa)), (2, .int (y0))] := hl
  obtain ⟨hq2, hq4, hw1, hw0, hWs, hWt, hw, hln, hul, hT, ht⟩ := hs
  obtain ⟨fo_0, ⟨f2, fo_1, fa_2, h2⟩, ⟨f3, fa_3, h3⟩, hRace, hMach, ⟨f16, fo15, fa16, h16⟩, hwd, hcand⟩ := id hC
  refine lv_aload_n hx hb dX5_tell_0 rfl (lv_at hl 0 rfl) ?_
  refine lv_iload_n hx hb dX5_tell_1 rfl (lv_at hl 1 rfl) ?_
  refine va_csq (va_Run.run (va_runV (As := [.int (xa)]) (rest := []) ⟨hx, hb, hml, hown, hts⟩ (mX5_wordIn_no l fo_0 fa_3 h3 hwd hxa) (cwV 1 hts gX5_tell_X5_wordIn rfl rfl rfl (by decide +kernel) ⟨Nat.le_of_ble_eq_true rfl, Nat.le_of_ble_eq_true rfl⟩) ⟨xB_blind, va_recv hK hP (ci := 5) rfl (xw_is (by decide) fo_0), fun U hU hW => ⟨rfl, by rw [hU]; exact hP, va_K.moved hW.alike hK, va_Nw.warmM hW hN⟩⟩ rfl rfl hl.1 rfl (lv_room (Nat.le_of_ble_eq_true rfl)) dX5_tell_2 ⟨Nat.le_of_ble_eq_true rfl, Nat.le_of_ble_eq_true rfl⟩)) (fun r1 er1 => ?_)
  subst er1
  refine W.eq (g2 := F0 m 5 ls (.null :: [])) rfl ?_
  refine lv_astore_nN (lv' := [(3, .null), (0, .ref (ad (0))), (1, .int (xa)), (2, .int (y0))]) hx hb dX5_tell_5 rfl hl (by decide) rfl (fun ls hl => ?_)
  refine lv_aload_nN hx hb dX5_tell_6 rfl (lv_at hl 0 rfl) ?_
  refine lv_ifnullN (tgt := 14) hx hb dX5_tell_7 (by decide) ?_
  refine lv_iconst (v := (-1)) hx hb dX5_tell_14 (by decide) ?_
  exact W.iret (v := (-1)) hx hb hr (fun tZ ht _ => ⟨_, rfl, (by show _ = aTell q ln u _ _; unfold aTell; rw [slotW_no hxa]), ht⟩) (fun q hq => by cases hq) dX5_tell_15

theorem mX5_tell (l : Launch) {D : va_G} {cI cJ cZ cW : ClassId} {ad : Nat → Nat} {g : Nat → va_E} {q Wt : Nat} {w : Nat → Nat} {ln : Nat → Nat} {u : Nat → Nat → Nat} {T : Nat} {t : Nat → Nat} {tp bt : Int64} {y0 : Int32} (hC : ClsI cI cJ cZ cW ad g q Wt w ln u T t tp bt) (hs : SrcI q Wt w ln u T t) (xa : Int32) : Met l yX5_tell wsX5_tell ({ frames := 2, cells := 0, slots := 0, locals := 41 }) (va_Pc [.ref (ad (0)), .int xa, .int (y0)] (xB D (xT cI cJ cZ cW) ad g)) (vp_Si (fun r => r = aTell q ln u (xa) y0)) 0 0 (fun _ => False) := by
  rcases slotW_cases ln xa with hxa | ⟨k1, hk1, rfl, hp1⟩
  · exact mX5_tell_n l hC hs hxa
  · exact mX5_tell_s l hC hs hk1 rfl rfl rfl rfl rfl hp1

set_option maxHeartbeats 4000000 in
set_option maxRecDepth 100000 in
theorem mX5_came0_s (l : Launch) {D : va_G} {cI cJ cZ cW : ClassId} {ad : Nat → Nat} {g : Nat → va_E} {q Wt : Nat} {w : Nat → Nat} {ln : Nat → Nat} {u : Nat → Nat → Nat} {T : Nat} {t : Nat → Nat} {tp bt : Int64} {k1 b1 n1 ol1 : Nat} {u1 sf1 : Nat → Nat}  (hC : ClsI cI cJ cZ cW ad g q Wt w ln u T t tp bt) (hs : SrcI q Wt w ln u T t) (hk1 : k1 < 8) (eb1 : 17 + 5 * k1 = b1) (en1 : ln k1 = n1) (eu1 : u k1 = u1) (es1 : shr Wt w u1 n1 = sf1) (eo1 : ownL Wt w u1 n1 = ol1) (hp1 : 0 < n1) : Met l yX5_came wsX5_came ({ frames := 2, cells := 0, slots := 0, locals := 45 }) (va_Pc [.ref (ad (0)), .int (nI (k1)), .int (nI (0))] (xB D (xT cI cJ cZ cW) ad g)) (vp_Si (fun r => r = aCame ln u T t (nI (k1)) (nI 0))) 0 0 (fun _ => False) := by
  refine Met.ofW (cc := cX5_came) (maxL := 4) (ret := (some .int)) (by decide) rfl ?_
  intro p e s m args below meth c s₁ B hml hv
  obtain ⟨rfl, hP, hK, hN⟩ := hv
  have hx := B.exec
  have hb := B.bytes
  have hr := B.returns
  have hts := atoms_spec (ws := wsX5_came) B.pre
  have hown : s.vm.findClass RX5 = some m.cls := findClass_of_methodNamed B.named
  have hlocks := B.notSynchronized
  have hin5 : ∀ w ∈ wsX50, w ∈ wsX5_came := by decide +kernel
  have hf44 := hts (.fieldLink RX5 44 "LettersByLot" "text" "LLettersByLot$Text;") (by decide +kernel)
  have hl := lv_entry ([.ref (ad (0)), .int (nI (k1)), .int (nI (0))]) (n := 4) (Nat.le_of_ble_eq_true rfl)
  rw [lg_entry_eq]
  generalize (lg_sl ([.ref (ad (0)), .int (nI (k1)), .int (nI (0))]) ++ List.replicate (4 - (lg_sl ([.ref (ad (0)), .int (nI (k1)), .int (nI (0))])).length) Slot.unset).toArray = ls at hl ⊢
  have hl : lv_has ls 4 [(0, .ref (ad (0))), (1, .int (nI (k1))), (2, .int (nI (0)))] := hl
  obtain ⟨hq2, hq4, hw1, hw0, hWs, hWt, hw, hln, hul, hT, ht⟩ := hs
  obtain ⟨fo_0, ⟨f2, fo_1, fa_2, h2⟩, ⟨f3, fa_3, h3⟩, hRace, hMach, ⟨f16, fo15, fa16, h16⟩, hwd, hcand⟩ := id hC
  obtain ⟨fl1, fh1, ft1, fs1, fo1, fal1, fah1, fat1, fas1, hfl1, hfh1, hft1, hfs1⟩ := cw_pos hwd hk1 eb1 en1 eu1 es1 eo1 hp1
  have hb1 : b1 + 4 < 81 := by omega
  have hn1 : n1 ≤ 5 := en1 ▸ hln k1
  have hu1 : ∀ j, j < n1 → u1 j < q := fun j hj => by rw [← eu1]; exact hul k1 j (by rw [en1]; exact hj)
  have hwu1 : ∀ j, j < n1 → w (u1 j) ≤ 4 := fun j hj => hw _ (Nat.lt_of_lt_of_le (hu1 j hj) hq4)
  have hsf1 : ∀ k, k ≤ n1 → sf1 k ≤ 1024 := fun k hk => es1 ▸ shr_le hWt hwu1 hn1 hk
  have hs01 : 1 ≤ sf1 0 := es1 ▸ shr_0 (fun j hj => hw1 _ (hu1 j hj))
  have hol1 : ol1 ≤ 5120 := by rw [← eo1]; show lapS (shr Wt w u1 n1) u1 n1 u1 n1 5 ≤ 5120; rw [es1]; exact lapS_le hsf1 5
  refine lv_aload_n hx hb dX5_came_0 rfl (lv_at hl 0 rfl) ?_
  refine lv_iload_n hx hb dX5_came_1 rfl (lv_at hl 1 rfl) ?_
  refine va_csq (va_Run.run (va_runV (As := [.int (nI (k1))]) (rest := []) ⟨hx, hb, hml, hown, hts⟩ (mX5_wordIn_yes l fo_0 fa_3 fo1 h3 hk1 eb1 hp1 hn1) (cwV 1 hts gX5_came_X5_wordIn rfl rfl rfl (by decide +kernel) ⟨Nat.le_of_ble_eq_true rfl, Nat.le_of_ble_eq_true rfl⟩) ⟨xB_blind, va_recv hK hP (ci := 5) rfl (xw_is (by decide) fo_0), fun U hU hW => ⟨rfl, by rw [hU]; exact hP, va_K.moved hW.alike hK, va_Nw.warmM hW hN⟩⟩ rfl rfl hl.1 rfl (lv_room (Nat.le_of_ble_eq_true rfl)) dX5_came_2 ⟨Nat.le_of_ble_eq_true rfl, Nat.le_of_ble_eq_true rfl⟩)) (fun r1 er1 => ?_)
  subst er1
  refine W.eq (g2 := F0 m 5 ls (.ref (ad (b1)) :: [])) rfl ?_
  refine lv_astore_n (lv' := [(3, .ref (ad (b1))), (0, .ref (ad (0))), (1, .int (nI (k1))), (2, .int (nI (0)))]) hx hb dX5_came_5 rfl hl (by decide) rfl (fun ls hl => ?_)
  refine lv_aload_n hx hb dX5_came_6 rfl (lv_at hl 0 rfl) ?_
  refine lv_ifnull hx hb dX5_came_7 ?_
  refine lv_iload_n hx hb dX5_came_10 rfl (lv_at hl 3 rfl) ?_
  refine xi_if_lt (tgt := 19) hx hb (by decide) dX5_came_11 (by decide) ?_
  refine lv_iload_n hx hb dX5_came_14 rfl (lv_at hl 3 rfl) ?_
  refine lv_iconst (v := nI (1)) hx hb dX5_came_15 (by decide) ?_
  refine xi_icmp_le (tgt := 21) hx hb (by decide) (by decide) dX5_came_16 (by decide) (fun _ => ?_) (fun c0 => absurd c0 (by decide))
  refine lv_iload_n hx hb dX5_came_21 rfl (lv_at hl 3 rfl) ?_
  refine xi_if_ne (tgt := 36) hx hb (by decide) dX5_came_22 (by decide) (fun c0 => absurd c0 (by decide)) (fun _ => ?_)
  refine lv_aload_n hx hb dX5_came_25 rfl (lv_at hl 1 rfl) ?_
  refine xw_get hx hb hts hin5 hown hK hP (by decide) fo_0 rfl 5 (by decide) hf44 rfl rfl dX5_came_26 ?_
  refine lv_aload_n hx hb dX5_came_29 rfl (lv_at hl 0 rfl) ?_
  refine vp_callSi (va_Run.run (va_runV (As := [.ref (ad (b1))]) (rest := []) ⟨hx, hb, hml, hown, hts⟩ (mX3_firstEndOf l (q := q) fo15 fa16 fo1 fal1 hq4 hT ht h16 hb1 hn1 hu1 hfl1) (cwV 1 hts gX5_came_X3_firstEndOf rfl rfl rfl (by decide +kernel) ⟨Nat.le_of_ble_eq_true rfl, Nat.le_of_ble_eq_true rfl⟩) ⟨xB_blind, va_recv hK hP (ci := 3) rfl (xw_is (by decide) fo15), fun U hU hW => ⟨rfl, by rw [hU]; exact hP, va_K.moved hW.alike hK, va_Nw.warmM hW hN⟩⟩ rfl rfl hl.1 rfl (lv_room (Nat.le_of_ble_eq_true rfl)) dX5_came_30 ⟨Nat.le_of_ble_eq_true rfl, Nat.le_of_ble_eq_true rfl⟩)) (fun r5 er5 => ?_)
  refine lv_goto (tgt := 44) hx hb dX5_came_33 (by decide) ?_
  exact W.iret (v := r5) hx hb hr (fun tZ ht _ => ⟨_, rfl, (by show _ = aCame ln u T t _ _; subst en1 eu1 es1 eo1; unfold aCame; rw [slotW_yes hk1 hp1]; rcases er5 with ⟨a, e, h1, h2, h3⟩ | ⟨e, h⟩; rw [e]; show _ = (match fstT T t (u k1) (ln k1) with | some a => nI (a + ln k1) | none => -1); rw [fstT_some h1 h2 h3]; rw [e]; show _ = (match fstT T t (u k1) (ln k1) with | some a => nI (a + ln k1) | none => -1); rw [fstT_none h]), ht⟩) (fun q hq => by cases hq) dX5_came_44

set_option maxHeartbeats 4000000 in
set_option maxRecDepth 100000 in
theorem mX5_came0_n (l : Launch) {D : va_G} {cI cJ cZ cW : ClassId} {ad : Nat → Nat} {g : Nat → va_E} {q Wt : Nat} {w : Nat → Nat} {ln : Nat → Nat} {u : Nat → Nat → Nat} {T : Nat} {t : Nat → Nat} {tp bt : Int64} {xa : Int32}  (hC : ClsI cI cJ cZ cW ad g q Wt w ln u T t tp bt) (hs : SrcI q Wt w ln u T t) (hxa : noW ln xa) : Met l yX5_came wsX5_came ({ frames := 2, cells := 0, slots := 0, locals := 45 }) (va_Pc [.ref (ad (0)), .int (xa), .int (nI (0))] (xB D (xT cI cJ cZ cW) ad g)) (vp_Si (fun r => r = aCame ln u T t (xa) (nI 0))) 0 0 (fun _ => False) := by
  refine Met.ofW (cc := cX5_came) (maxL := 4) (ret := (some .int)) (by decide) rfl ?_
  intro p e s m args below meth c s₁ B hml hv
  obtain ⟨rfl, hP, hK, hN⟩ := hv
  have hx := B.exec
  have hb := B.bytes
  have hr := B.returns
  have hts := atoms_spec (ws := wsX5_came) B.pre
  have hown : s.vm.findClass RX5 = some m.cls := findClass_of_methodNamed B.named
  have hlocks := B.notSynchronized
  have hl := lv_entry ([.ref (ad (0)), .int (xa), .int (nI (0))]) (n := 4) (Nat.le_of_ble_eq_true rfl)
  rw [lg_entry_eq]
  generalize (lg_sl ([.ref (ad (0)), .int (xa), .int (nI (0))]) ++ List.replicate (4 - (lg_sl ([.ref (ad (0)), .int (xa), .int (nI (0))])).length) Slot.unset).toArray = ls at hl ⊢
  have hl : lv_has ls 4 [(0, .ref (ad (0))), (1, .int (xa)), (2, .int (nI (0)))] := hl
  obtain ⟨hq2, hq4, hw1, hw0, hWs, hWt, hw, hln, hul, hT, ht⟩ := hs
  obtain ⟨fo_0, ⟨f2, fo_1, fa_2, h2⟩, ⟨f3, fa_3, h3⟩, hRace, hMach, ⟨f16, fo15, fa16, h16⟩, hwd, hcand⟩ := id hC
  refine lv_aload_n hx hb dX5_came_0 rfl (lv_at hl 0 rfl) ?_
  refine lv_iload_n hx hb dX5_came_1 rfl (lv_at hl 1 rfl) ?_
  refine va_csq (va_Run.run (va_runV (As := [.int (xa)]) (rest := []) ⟨hx, hb, hml, hown, hts⟩ (mX5_wordIn_no l fo_0 fa_3 h3 hwd hxa) (cwV 1 hts gX5_came_X5_wordIn rfl rfl rfl (by decide +kernel) ⟨Nat.le_of_ble_eq_true rfl, Nat.le_of_ble_eq_true rfl⟩) ⟨xB_blind, va_recv hK hP (ci := 5) rfl (xw_is (by decide) fo_0), fun U hU hW => ⟨rfl, by rw [hU]; exact hP, va_K.moved hW.alike hK, va_Nw.warmM hW hN⟩⟩ rfl rfl hl.1 rfl (lv_room (Nat.le_of_ble_eq_true rfl)) dX5_came_2 ⟨Nat.le_of_ble_eq_true rfl, Nat.le_of_ble_eq_true rfl⟩)) (fun r1 er1 => ?_)
  subst er1
  refine W.eq (g2 := F0 m 5 ls (.null :: [])) rfl ?_
  refine lv_astore_nN (lv' := [(3, .null), (0, .ref (ad (0))), (1, .int (xa)), (2, .int (nI (0)))]) hx hb dX5_came_5 rfl hl (by decide) rfl (fun ls hl => ?_)
  refine lv_aload_nN hx hb dX5_came_6 rfl (lv_at hl 0 rfl) ?_
  refine lv_ifnullN (tgt := 19) hx hb dX5_came_7 (by decide) ?_
  refine lv_iconst (v := (-1)) hx hb dX5_came_19 (by decide) ?_
  exact W.iret (v := (-1)) hx hb hr (fun tZ ht _ => ⟨_, rfl, (by show _ = aCame ln u T t _ _; unfold aCame; rw [slotW_no hxa]), ht⟩) (fun q hq => by cases hq) dX5_came_20

theorem mX5_came0 (l : Launch) {D : va_G} {cI cJ cZ cW : ClassId} {ad : Nat → Nat} {g : Nat → va_E} {q Wt : Nat} {w : Nat → Nat} {ln : Nat → Nat} {u : Nat → Nat → Nat} {T : Nat} {t : Nat → Nat} {tp bt : Int64} (hC : ClsI cI cJ cZ cW ad g q Wt w ln u T t tp bt) (hs : SrcI q Wt w ln u T t) (xa : Int32) : Met l yX5_came wsX5_came ({ frames := 2, cells := 0, slots := 0, locals := 45 }) (va_Pc [.ref (ad (0)), .int xa, .int (nI (0))] (xB D (xT cI cJ cZ cW) ad g)) (vp_Si (fun r => r = aCame ln u T t (xa) (nI 0))) 0 0 (fun _ => False) := by
  rcases slotW_cases ln xa with hxa | ⟨k1, hk1, rfl, hp1⟩
  · exact mX5_came0_n l hC hs hxa
  · exact mX5_came0_s l hC hs hk1 rfl rfl rfl rfl rfl hp1

set_option maxHeartbeats 4000000 in
set_option maxRecDepth 100000 in
theorem mX5_came1_s (l : Launch) {D : va_G} {cI cJ cZ cW : ClassId} {ad : Nat → Nat} {g : Nat → va_E} {q Wt : Nat} {w : Nat → Nat} {ln : Nat → Nat} {u : Nat → Nat → Nat} {T : Nat} {t : Nat → Nat} {tp bt : Int64} {k1 b1 n1 ol1 : Nat} {u1 sf1 : Nat → Nat}  (hC : ClsI cI cJ cZ cW ad g q Wt w ln u T t tp bt) (hs : SrcI q Wt w ln u T t) (hk1 : k1 < 8) (eb1 : 17 + 5 * k1 = b1) (en1 : ln k1 = n1) (eu1 : u k1 = u1) (es1 : shr Wt w u1 n1 = sf1) (eo1 : ownL Wt w u1 n1 = ol1) (hp1 : 0 < n1) : Met l yX5_came wsX5_came ({ frames := 2, cells := 0, slots := 0, locals := 46 }) (va_Pc [.ref (ad (0)), .int (nI (k1)), .int (nI (1))] (xB D (xT cI cJ cZ cW) ad g)) (vp_Si (fun r => r = aCame ln u T t (nI (k1)) (nI 1))) 0 0 (fun _ => False) := by
  refine Met.ofW (cc := cX5_came) (maxL := 4) (ret := (some .int)) (by decide) rfl ?_
  intro p e s m args below meth c s₁ B hml hv
  obtain ⟨rfl, hP, hK, hN⟩ := hv
  have hx := B.exec
  have hb := B.bytes
  have hr := B.returns
  have hts := atoms_spec (ws := wsX5_came) B.pre
  have hown : s.vm.findClass RX5 = some m.cls := findClass_of_methodNamed B.named
  have hlocks := B.notSynchronized
  have hin5 : ∀ w ∈ wsX50, w ∈ wsX5_came := by decide +kernel
  have hf44 := hts (.fieldLink RX5 44 "LettersByLot" "text" "LLettersByLot$Text;") (by decide +kernel)
  have hl := lv_entry ([.ref (ad (0)), .int (nI (k1)), .int (nI (1))]) (n := 4) (Nat.le_of_ble_eq_true rfl)
  rw [lg_entry_eq]
  generalize (lg_sl ([.ref (ad (0)), .int (nI (k1)), .int (nI (1))]) ++ List.replicate (4 - (lg_sl ([.ref (ad (0)), .int (nI (k1)), .int (nI (1))])).length) Slot.unset).toArray = ls at hl ⊢
  have hl : lv_has ls 4 [(0, .ref (ad (0))), (1, .int (nI (k1))), (2, .int (nI (1)))] := hl
  obtain ⟨hq2, hq4, hw1, hw0, hWs, hWt, hw, hln, hul, hT, ht⟩ := hs
  obtain ⟨fo_0, ⟨f2, fo_1, fa_2, h2⟩, ⟨f3, fa_3, h3⟩, hRace, hMach, ⟨f16, fo15, fa16, h16⟩, hwd, hcand⟩ := id hC
  obtain ⟨fl1, fh1, ft1, fs1, fo1, fal1, fah1, fat1, fas1, hfl1, hfh1, hft1, hfs1⟩ := cw_pos hwd hk1 eb1 en1 eu1 es1 eo1 hp1
  have hb1 : b1 + 4 < 81 := by omega
  have hn1 : n1 ≤ 5 := en1 ▸ hln k1
  have hu1 : ∀ j, j < n1 → u1 j < q := fun j hj => by rw [← eu1]; exact hul k1 j (by rw [en1]; exact hj)
  have hwu1 : ∀ j, j < n1 → w (u1 j) ≤ 4 := fun j hj => hw _ (Nat.lt_of_lt_of_le (hu1 j hj) hq4)
  have hsf1 : ∀ k, k ≤ n1 → sf1 k ≤ 1024 := fun k hk => es1 ▸ shr_le hWt hwu1 hn1 hk
  have hs01 : 1 ≤ sf1 0 := es1 ▸ shr_0 (fun j hj => hw1 _ (hu1 j hj))
  have hol1 : ol1 ≤ 5120 := by rw [← eo1]; show lapS (shr Wt w u1 n1) u1 n1 u1 n1 5 ≤ 5120; rw [es1]; exact lapS_le hsf1 5
  refine lv_aload_n hx hb dX5_came_0 rfl (lv_at hl 0 rfl) ?_
  refine lv_iload_n hx hb dX5_came_1 rfl (lv_at hl 1 rfl) ?_
  refine va_csq (va_Run.run (va_runV (As := [.int (nI (k1))]) (rest := []) ⟨hx, hb, hml, hown, hts⟩ (mX5_wordIn_yes l fo_0 fa_3 fo1 h3 hk1 eb1 hp1 hn1) (cwV 1 hts gX5_came_X5_wordIn rfl rfl rfl (by decide +kernel) ⟨Nat.le_of_ble_eq_true rfl, Nat.le_of_ble_eq_true rfl⟩) ⟨xB_blind, va_recv hK hP (ci := 5) rfl (xw_is (by decide) fo_0), fun U hU hW => ⟨rfl, by rw [hU]; exact hP, va_K.moved hW.alike hK, va_Nw.warmM hW hN⟩⟩ rfl rfl hl.1 rfl (lv_room (Nat.le_of_ble_eq_true rfl)) dX5_came_2 ⟨Nat.le_of_ble_eq_true rfl, Nat.le_of_ble_eq_true rfl⟩)) (fun r1 er1 => ?_)
  subst er1
  refine W.eq (g2 := F0 m 5 ls (.ref (ad (b1)) :: [])) rfl ?_
  refine lv_astore_n (lv' := [(3, .ref (ad (b1))), (0, .ref (ad (0))), (1, .int (nI (k1))), (2, .int (nI (1)))]) hx hb dX5_came_5 rfl hl (by decide) rfl (fun ls hl => ?_)
  refine lv_aload_n hx hb dX5_came_6 rfl (lv_at hl 0 rfl) ?_
  refine lv_ifnull hx hb dX5_came_7 ?_
  refine lv_iload_n hx hb dX5_came_10 rfl (lv_at hl 3 rfl) ?_
  refine xi_if_lt (tgt := 19) hx hb (by decide) dX5_came_11 (by decide) ?_
  refine lv_iload_n hx hb dX5_came_14 rfl (lv_at hl 3 rfl) ?_
  refine lv_iconst (v := nI (1)) hx hb dX5_came_15 (by decide) ?_
  refine xi_icmp_le (tgt := 21) hx hb (by decide) (by decide) dX5_came_16 (by decide) (fun _ => ?_) (fun c0 => absurd c0 (by decide))
  refine lv_iload_n hx hb dX5_came_21 rfl (lv_at hl 3 rfl) ?_
  refine xi_if_ne (tgt := 36) hx hb (by decide) dX5_came_22 (by decide) (fun _ => ?_) (fun c0 => absurd c0 (by decide))
  refine lv_aload_n hx hb dX5_came_36 rfl (lv_at hl 1 rfl) ?_
  refine xw_get hx hb hts hin5 hown hK hP (by decide) fo_0 rfl 5 (by decide) hf44 rfl rfl dX5_came_37 ?_
  refine lv_aload_n hx hb dX5_came_40 rfl (lv_at hl 0 rfl) ?_
  refine vp_callSi (va_Run.run (va_runV (As := [.ref (ad (b1))]) (rest := []) ⟨hx, hb, hml, hown, hts⟩ (mX3_placesOf l (q := q) fo15 fa16 fo1 fal1 hq4 hT ht h16 hb1 hn1 hu1 hfl1 hp1) (cwV 1 hts gX5_came_X3_placesOf rfl rfl rfl (by decide +kernel) ⟨Nat.le_of_ble_eq_true rfl, Nat.le_of_ble_eq_true rfl⟩) ⟨xB_blind, va_recv hK hP (ci := 3) rfl (xw_is (by decide) fo15), fun U hU hW => ⟨rfl, by rw [hU]; exact hP, va_K.moved hW.alike hK, va_Nw.warmM hW hN⟩⟩ rfl rfl hl.1 rfl (lv_room (Nat.le_of_ble_eq_true rfl)) dX5_came_41 ⟨Nat.le_of_ble_eq_true rfl, Nat.le_of_ble_eq_true rfl⟩)) (fun r5 er5 => ?_)
  subst er5
  exact W.iret (v := nI (cntS (fun a => decide (stD t a u1 n1)) (T + 1 - n1))) hx hb hr (fun tZ ht _ => ⟨_, rfl, (by show _ = aCame ln u T t _ _; subst en1 eu1 es1 eo1; unfold aCame; rw [slotW_yes hk1 hp1]; rfl), ht⟩) (fun q hq => by cases hq) dX5_came_44

set_option maxHeartbeats 4000000 in
set_option maxRecDepth 100000 in
theorem mX5_came1_n (l : Launch) {D : va_G} {cI cJ cZ cW : ClassId} {ad : Nat → Nat} {g : Nat → va_E} {q Wt : Nat} {w : Nat → Nat} {ln : Nat → Nat} {u : Nat → Nat → Nat} {T : Nat} {t : Nat → Nat} {tp bt : Int64} {xa : Int32}  (hC : ClsI cI cJ cZ cW ad g q Wt w ln u T t tp bt) (hs : SrcI q Wt w ln u T t) (hxa : noW ln xa) : Met l yX5_came wsX5_came ({ frames := 2, cells := 0, slots := 0, locals := 46 }) (va_Pc [.ref (ad (0)), .int (xa), .int (nI (1))] (xB D (xT cI cJ cZ cW) ad g)) (vp_Si (fun r => r = aCame ln u T t (xa) (nI 1))) 0 0 (fun _ => False) := by
  refine Met.ofW (cc := cX5_came) (maxL := 4) (ret := (some .int)) (by decide) rfl ?_
  intro p e s m args below meth c s₁ B hml hv
  obtain ⟨rfl, hP, hK, hN⟩ := hv
  have hx := B.exec
  have hb := B.bytes
  have hr := B.returns
  have hts := atoms_spec (ws := wsX5_came) B.pre
  have hown : s.vm.findClass RX5 = some m.cls := findClass_of_methodNamed B.named
  have hlocks := B.notSynchronized
  have hl := lv_entry ([.ref (ad (0)), .int (xa), .int (nI (1))]) (n := 4) (Nat.le_of_ble_eq_true rfl)
  rw [lg_entry_eq]
  generalize (lg_sl ([.ref (ad (0)), .int (xa), .int (nI (1))]) ++ List.replicate (4 - (lg_sl ([.ref (ad (0)), .int (xa), .int (nI (1))])).length) Slot.unset).toArray = ls at hl ⊢
  have hl : lv_has ls 4 [(0, .ref (ad (0))), (1, .int (xa)), (2, .int (nI (1)))] := hl
  obtain ⟨hq2, hq4, hw1, hw0, hWs, hWt, hw, hln, hul, hT, ht⟩ := hs
  obtain ⟨fo_0, ⟨f2, fo_1, fa_2, h2⟩, ⟨f3, fa_3, h3⟩, hRace, hMach, ⟨f16, fo15, fa16, h16⟩, hwd, hcand⟩ := id hC
  refine lv_aload_n hx hb dX5_came_0 rfl (lv_at hl 0 rfl) ?_
  refine lv_iload_n hx hb dX5_came_1 rfl (lv_at hl 1 rfl) ?_
  refine va_csq (va_Run.run (va_runV (As := [.int (xa)]) (rest := []) ⟨hx, hb, hml, hown, hts⟩ (mX5_wordIn_no l fo_0 fa_3 h3 hwd hxa) (cwV 1 hts gX5_came_X5_wordIn rfl rfl rfl (by decide +kernel) ⟨Nat.le_of_ble_eq_true rfl, Nat.le_of_ble_eq_true rfl⟩) ⟨xB_blind, va_recv hK hP (ci := 5) rfl (xw_is (by decide) fo_0), fun U hU hW => ⟨rfl, by rw [hU]; exact hP, va_K.moved hW.alike hK, va_Nw.warmM hW hN⟩⟩ rfl rfl hl.1 rfl (lv_room (Nat.le_of_ble_eq_true rfl)) dX5_came_2 ⟨Nat.le_of_ble_eq_true rfl, Nat.le_of_ble_eq_true rfl⟩)) (fun r1 er1 => ?_)
  subst er1
  refine W.eq (g2 := F0 m 5 ls (.null :: [])) rfl ?_
  refine lv_astore_nN (lv' := [(3, .null), (0, .ref (ad (0))), (1, .int (xa)), (2, .int (nI (1)))]) hx hb dX5_came_5 rfl hl (by decide) rfl (fun ls hl => ?_)
  refine lv_aload_nN hx hb dX5_came_6 rfl (lv_at hl 0 rfl) ?_
  refine lv_ifnullN (tgt := 19) hx hb dX5_came_7 (by decide) ?_
  refine lv_iconst (v := (-1)) hx hb dX5_came_19 (by decide) ?_
  exact W.iret (v := (-1)) hx hb hr (fun tZ ht _ => ⟨_, rfl, (by show _ = aCame ln u T t _ _; unfold aCame; rw [slotW_no hxa]), ht⟩) (fun q hq => by cases hq) dX5_came_20

theorem mX5_came1 (l : Launch) {D : va_G} {cI cJ cZ cW : ClassId} {ad : Nat → Nat} {g : Nat → va_E} {q Wt : Nat} {w : Nat → Nat} {ln : Nat → Nat} {u : Nat → Nat → Nat} {T : Nat} {t : Nat → Nat} {tp bt : Int64} (hC : ClsI cI cJ cZ cW ad g q Wt w ln u T t tp bt) (hs : SrcI q Wt w ln u T t) (xa : Int32) : Met l yX5_came wsX5_came ({ frames := 2, cells := 0, slots := 0, locals := 46 }) (va_Pc [.ref (ad (0)), .int xa, .int (nI (1))] (xB D (xT cI cJ cZ cW) ad g)) (vp_Si (fun r => r = aCame ln u T t (xa) (nI 1))) 0 0 (fun _ => False) := by
  rcases slotW_cases ln xa with hxa | ⟨k1, hk1, rfl, hp1⟩
  · exact mX5_came1_n l hC hs hxa
  · exact mX5_came1_s l hC hs hk1 rfl rfl rfl rfl rfl hp1

set_option maxHeartbeats 4000000 in
set_option maxRecDepth 100000 in
theorem mX5_camex_s (l : Launch) {D : va_G} {cI cJ cZ cW : ClassId} {ad : Nat → Nat} {g : Nat → va_E} {q Wt : Nat} {w : Nat → Nat} {ln : Nat → Nat} {u : Nat → Nat → Nat} {T : Nat} {t : Nat → Nat} {tp bt : Int64} {k1 b1 n1 ol1 : Nat} {u1 sf1 : Nat → Nat} {y0 : Int32}  (hC : ClsI cI cJ cZ cW ad g q Wt w ln u T t tp bt) (hs : SrcI q Wt w ln u T t) (hk1 : k1 < 8) (eb1 : 17 + 5 * k1 = b1) (en1 : ln k1 = n1) (eu1 : u k1 = u1) (es1 : shr Wt w u1 n1 = sf1) (eo1 : ownL Wt w u1 n1 = ol1) (hp1 : 0 < n1) (hy0 : y0 < 0 ∨ nI 1 < y0) : Met l yX5_came wsX5_came ({ frames := 2, cells := 0, slots := 0, locals := 41 }) (va_Pc [.ref (ad (0)), .int (nI (k1)), .int (y0)] (xB D (xT cI cJ cZ cW) ad g)) (vp_Si (fun r => r = aCame ln u T t (nI (k1)) y0)) 0 0 (fun _ => False) := by
  refine Met.ofW (cc := cX5_came) (maxL := 4) (ret := (some .int)) (by decide) rfl ?_
  intro p e s m args below meth c s₁ B hml hv
  obtain ⟨rfl, hP, hK, hN⟩ := hv
  have hx := B.exec
  have hb := B.bytes
  have hr := B.returns
  have hts := atoms_spec (ws := wsX5_came) B.pre
  have hown : s.vm.findClass RX5 = some m.cls := findClass_of_methodNamed B.named
  have hlocks := B.notSynchronized
  have hl := lv_entry ([.ref (ad (0)), .int (nI (k1)), .int (y0)]) (n := 4) (Nat.le_of_ble_eq_true rfl)
  rw [lg_entry_eq]
  generalize (lg_sl ([.ref (ad (0)), .int (nI (k1)), .int (y0)]) ++ List.replicate (4 - (lg_sl ([.ref (ad (0)), .int (nI (k1)), .int (y0)])).length) Slot.unset).toArray = ls at hl ⊢
  have hl : lv_has ls 4 [(0, .ref (ad (0))), (1, .int (nI (k1))), (2, .int (y0))] := hl
  obtain ⟨hq2, hq4, hw1, hw0, hWs, hWt, hw, hln, hul, hT, ht⟩ := hs
  obtain ⟨fo_0, ⟨f2, fo_1, fa_2, h2⟩, ⟨f3, fa_3, h3⟩, hRace, hMach, ⟨f16, fo15, fa16, h16⟩, hwd, hcand⟩ := id hC
  obtain ⟨fl1, fh1, ft1, fs1, fo1, fal1, fah1, fat1, fas1, hfl1, hfh1, hft1, hfs1⟩ := cw_pos hwd hk1 eb1 en1 eu1 es1 eo1 hp1
  have hb1 : b1 + 4 < 81 := by omega
  have hn1 : n1 ≤ 5 := en1 ▸ hln k1
  have hu1 : ∀ j, j < n1 → u1 j < q := fun j hj => by rw [← eu1]; exact hul k1 j (by rw [en1]; exact hj)
  have hwu1 : ∀ j, j < n1 → w (u1 j) ≤ 4 := fun j hj => hw _ (Nat.lt_of_lt_of_le (hu1 j hj) hq4)
  have hsf1 : ∀ k, k ≤ n1 → sf1 k ≤ 1024 := fun k hk => es1 ▸ shr_le hWt hwu1 hn1 hk
  have hs01 : 1 ≤ sf1 0 := es1 ▸ shr_0 (fun j hj => hw1 _ (hu1 j hj))
  have hol1 : ol1 ≤ 5120 := by rw [← eo1]; show lapS (shr Wt w u1 n1) u1 n1 u1 n1 5 ≤ 5120; rw [es1]; exact lapS_le hsf1 5
  refine lv_aload_n hx hb dX5_came_0 rfl (lv_at hl 0 rfl) ?_
  refine lv_iload_n hx hb dX5_came_1 rfl (lv_at hl 1 rfl) ?_
  refine va_csq (va_Run.run (va_runV (As := [.int (nI (k1))]) (rest := []) ⟨hx, hb, hml, hown, hts⟩ (mX5_wordIn_yes l fo_0 fa_3 fo1 h3 hk1 eb1 hp1 hn1) (cwV 1 hts gX5_came_X5_wordIn rfl rfl rfl (by decide +kernel) ⟨Nat.le_of_ble_eq_true rfl, Nat.le_of_ble_eq_true rfl⟩) ⟨xB_blind, va_recv hK hP (ci := 5) rfl (xw_is (by decide) fo_0), fun U hU hW => ⟨rfl, by rw [hU]; exact hP, va_K.moved hW.alike hK, va_Nw.warmM hW hN⟩⟩ rfl rfl hl.1 rfl (lv_room (Nat.le_of_ble_eq_true rfl)) dX5_came_2 ⟨Nat.le_of_ble_eq_true rfl, Nat.le_of_ble_eq_true rfl⟩)) (fun r1 er1 => ?_)
  subst er1
  refine W.eq (g2 := F0 m 5 ls (.ref (ad (b1)) :: [])) rfl ?_
  refine lv_astore_n (lv' := [(3, .ref (ad (b1))), (0, .ref (ad (0))), (1, .int (nI (k1))), (2, .int (y0))]) hx hb dX5_came_5 rfl hl (by decide) rfl (fun ls hl => ?_)
  refine lv_aload_n hx hb dX5_came_6 rfl (lv_at hl 0 rfl) ?_
  refine lv_ifnull hx hb dX5_came_7 ?_
  refine lv_iload_n hx hb dX5_came_10 rfl (lv_at hl 3 rfl) ?_
  refine lv_if_lt (tgt := 19) hx hb dX5_came_11 (by decide) (fun c11_2 => ?_) (fun c11_2 => ?_)
  · refine lv_iconst (v := (-1)) hx hb dX5_came_19 (by decide) ?_
    exact W.iret (v := (-1)) hx hb hr (fun tZ ht _ => ⟨_, rfl, (by show _ = aCame ln u T t _ _; unfold aCame; rw [slotW_yes hk1 (en1 ▸ hp1)]; show _ = (if y0 = 0 then _ else _); rw [if_neg (fun h => by rw [h] at hy0; exact absurd hy0 (by decide)), if_neg (fun h => by rw [h] at hy0; exact absurd hy0 (by decide))]), ht⟩) (fun q hq => by cases hq) dX5_came_20
  · refine lv_iload_n hx hb dX5_came_14 rfl (lv_at hl 3 rfl) ?_
    refine lv_iconst (v := nI (1)) hx hb dX5_came_15 (by decide) ?_
    refine lv_icmp_le (tgt := 21) hx hb dX5_came_16 (by decide) (fun c16_3 => ?_) (fun c16_3 => ?_)
    · exact absurd hy0 (by rintro (h | h); exact c11_2 h; exact absurd c16_3 (by rw [Int32.not_le]; exact h))
    · refine lv_iconst (v := (-1)) hx hb dX5_came_19 (by decide) ?_
      exact W.iret (v := (-1)) hx hb hr (fun tZ ht _ => ⟨_, rfl, (by show _ = aCame ln u T t _ _; unfold aCame; rw [slotW_yes hk1 (en1 ▸ hp1)]; show _ = (if y0 = 0 then _ else _); rw [if_neg (fun h => by rw [h] at hy0; exact absurd hy0 (by decide)), if_neg (fun h => by rw [h] at hy0; exact absurd hy0 (by decide))]), ht⟩) (fun q hq => by cases hq) dX5_came_20

set_option maxHeartbeats 4000000 in
set_option maxRecDepth 100000 in
theorem mX5_camex_n (l : Launch) {D : va_G} {cI cJ cZ cW : ClassId} {ad : Nat → Nat} {g : Nat → va_E} {q Wt : Nat} {w : Nat → Nat} {ln : Nat → Nat} {u : Nat → Nat → Nat} {T : Nat} {t : Nat → Nat} {tp bt : Int64} {xa : Int32} {y0 : Int32}  (hC : ClsI cI cJ cZ cW ad g q Wt w ln u T t tp bt) (hs : SrcI q Wt w ln u T t) (hxa : noW ln xa) (hy0 : y0 < 0 ∨ nI 1 < y0) : Met l yX5_came wsX5_came ({ frames := 2, cells := 0, slots := 0, locals := 41 }) (va_Pc [.ref (ad (0)), .int (xa), .int (y0)] (xB D (xT cI cJ cZ cW) ad g)) (vp_Si (fun r => r = aCame ln u T t (xa) y0)) 0 0 (fun _ => False) := by
  refine Met.ofW (cc := cX5_came) (maxL := 4) (ret := (some .int)) (by decide) rfl ?_
  intro p e s m args below meth c s₁ B hml hv
  obtain ⟨rfl, hP, hK, hN⟩ := hv
  have hx := B.exec
  have hb := B.bytes
  have hr := B.returns
  have hts := atoms_spec (ws := wsX5_came) B.pre
  have hown : s.vm.findClass RX5 = some m.cls := findClass_of_methodNamed B.named
  have hlocks := B.notSynchronized
  have hl := lv_entry ([.ref (ad (0)), .int (xa), .int (y0)]) (n := 4) (Nat.le_of_ble_eq_true rfl)
  rw [lg_entry_eq]
  generalize (lg_sl ([.ref (ad (0)), .int (xa), .int (y0)]) ++ List.replicate (4 - (lg_sl ([.ref (ad (0)), .int (xa), .int (y0)])).length) Slot.unset).toArray = ls at hl ⊢
  have hl : lv_has ls 4 [(0, .ref (ad (0))), (1, .int (xa)), (2, .int (y0))] := hl
  obtain ⟨hq2, hq4, hw1, hw0, hWs, hWt, hw, hln, hul, hT, ht⟩ := hs
  obtain ⟨fo_0, ⟨f2, fo_1, fa_2, h2⟩, ⟨f3, fa_3, h3⟩, hRace, hMach, ⟨f16, fo15, fa16, h16⟩, hwd, hcand⟩ := id hC
  refine lv_aload_n hx hb dX5_came_0 rfl (lv_at hl 0 rfl) ?_
  refine lv_iload_n hx hb dX5_came_1 rfl (lv_at hl 1 rfl) ?_
  refine va_csq (va_Run.run (va_runV (As := [.int (xa)]) (rest := []) ⟨hx, hb, hml, hown, hts⟩ (mX5_wordIn_no l fo_0 fa_3 h3 hwd hxa) (cwV 1 hts gX5_came_X5_wordIn rfl rfl rfl (by decide +kernel) ⟨Nat.le_of_ble_eq_true rfl, Nat.le_of_ble_eq_true rfl⟩) ⟨xB_blind, va_recv hK hP (ci := 5) rfl (xw_is (by decide) fo_0), fun U hU hW => ⟨rfl, by rw [hU]; exact hP, va_K.moved hW.alike hK, va_Nw.warmM hW hN⟩⟩ rfl rfl hl.1 rfl (lv_room (Nat.le_of_ble_eq_true rfl)) dX5_came_2 ⟨Nat.le_of_ble_eq_true rfl, Nat.le_of_ble_eq_true rfl⟩)) (fun r1 er1 => ?_)
  subst er1
  refine W.eq (g2 := F0 m 5 ls (.null :: [])) rfl ?_
  refine lv_astore_nN (lv' := [(3, .null), (0, .ref (ad (0))), (1, .int (xa)), (2, .int (y0))]) hx hb dX5_came_5 rfl hl (by decide) rfl (fun ls hl => ?_)
  refine lv_aload_nN hx hb dX5_came_6 rfl (lv_at hl 0 rfl) ?_
  refine lv_ifnullN (tgt := 19) hx hb dX5_came_7 (by decide) ?_
  refine lv_iconst (v := (-1)) hx hb dX5_came_19 (by decide) ?_
  exact W.iret (v := (-1)) hx hb hr (fun tZ ht _ => ⟨_, rfl, (by show _ = aCame ln u T t _ _; unfold aCame; rw [slotW_no hxa]), ht⟩) (fun q hq => by cases hq) dX5_came_20

theorem mX5_camex (l : Launch) {D : va_G} {cI cJ cZ cW : ClassId} {ad : Nat → Nat} {g : Nat → va_E} {q Wt : Nat} {w : Nat → Nat} {ln : Nat → Nat} {u : Nat → Nat → Nat} {T : Nat} {t : Nat → Nat} {tp bt : Int64} {y0 : Int32} (hC : ClsI cI cJ cZ cW ad g q Wt w ln u T t tp bt) (hs : SrcI q Wt w ln u T t) (hy0 : y0 < 0 ∨ nI 1 < y0) (xa : Int32) : Met l yX5_came wsX5_came ({ frames := 2, cells := 0, slots := 0, locals := 41 }) (va_Pc [.ref (ad (0)), .int xa, .int (y0)] (xB D (xT cI cJ cZ cW) ad g)) (vp_Si (fun r => r = aCame ln u T t (xa) y0)) 0 0 (fun _ => False) := by
  rcases slotW_cases ln xa with hxa | ⟨k1, hk1, rfl, hp1⟩
  · exact mX5_camex_n l hC hs hxa hy0
  · exact mX5_camex_s l hC hs hk1 rfl rfl rfl rfl rfl hp1 hy0

set_option maxHeartbeats 4000000 in
set_option maxRecDepth 100000 in
theorem mX5_won_s (l : Launch) {D : va_G} {cI cJ cZ cW : ClassId} {ad : Nat → Nat} {A : Nat → Prop} (hD : ∀ g, va_D A (xw 81 ad g)) {g : Nat → va_E} {q Wt : Nat} {w : Nat → Nat} {ln : Nat → Nat} {u : Nat → Nat → Nat} {T : Nat} {t : Nat → Nat} {tp bt : Int64} {k1 b1 n1 ol1 : Nat} {u1 sf1 : Nat → Nat}  (hC : ClsI cI cJ cZ cW ad g q Wt w ln u T t tp bt) (hs : SrcI q Wt w ln u T t) (hk1 : k1 < 8) (eb1 : 17 + 5 * k1 = b1) (en1 : ln k1 = n1) (eu1 : u k1 = u1) (es1 : shr Wt w u1 n1 = sf1) (eo1 : ownL Wt w u1 n1 = ol1) (hp1 : 0 < n1) : Met l yX5_won wsX5_won ({ frames := 2, cells := 0, slots := 0, locals := 58 }) (va_Pc [.ref (ad (0)), .int (nI (k1))] (xB D (xT cI cJ cZ cW) ad g)) (va_Qi (fun r g2 => r = (if (oWon Wt w ln u T t (nI (k1))).isSome then 1 else 0) ∧ ClsI cI cJ cZ cW ad g2 q Wt w ln u T t (hTp (oWon Wt w ln u T t (nI (k1))) tp) (hBt (oWon Wt w ln u T t (nI (k1))) bt) ∧ ∀ j : Nat, 62 ≤ j → g2 j = g j) (xB D (xT cI cJ cZ cW) ad) A) 0 0 A := by
  refine Met.ofW (cc := cX5_won) (maxL := 3) (ret := (some .boolean)) (by decide) rfl ?_
  intro p e s m args below meth c s₁ B hml hv
  obtain ⟨rfl, hP, hK, hN⟩ := hv
  have hx := B.exec
  have hb := B.bytes
  have hr := B.returns
  have hts := atoms_spec (ws := wsX5_won) B.pre
  have hown : s.vm.findClass RX5 = some m.cls := findClass_of_methodNamed B.named
  have hlocks := B.notSynchronized
  have hS : va_S A s.heap s.heap [] := va_S.rf
  have hin4 : ∀ w ∈ wsX40, w ∈ wsX5_won := by decide +kernel
  have hin5 : ∀ w ∈ wsX50, w ∈ wsX5_won := by decide +kernel
  have hf44 := hts (.fieldLink RX5 44 "LettersByLot" "text" "LLettersByLot$Text;") (by decide +kernel)
  have hf109 := hts (.fieldLink RX5 109 "LettersByLot$Word" "ownLead" "J") (by decide +kernel)
  have hl := lv_entry ([.ref (ad (0)), .int (nI (k1))]) (n := 3) (Nat.le_of_ble_eq_true rfl)
  rw [lg_entry_eq]
  generalize (lg_sl ([.ref (ad (0)), .int (nI (k1))]) ++ List.replicate (3 - (lg_sl ([.ref (ad (0)), .int (nI (k1))])).length) Slot.unset).toArray = ls at hl ⊢
  have hl : lv_has ls 3 [(0, .ref (ad (0))), (1, .int (nI (k1)))] := hl
  obtain ⟨hq2, hq4, hw1, hw0, hWs, hWt, hw, hln, hul, hT, ht⟩ := hs
  obtain ⟨fo_0, ⟨f2, fo_1, fa_2, h2⟩, ⟨f3, fa_3, h3⟩, hRace, hMach, ⟨f16, fo15, fa16, h16⟩, hwd, hcand⟩ := id hC
  obtain ⟨fl1, fh1, ft1, fs1, fo1, fal1, fah1, fat1, fas1, hfl1, hfh1, hft1, hfs1⟩ := cw_pos hwd hk1 eb1 en1 eu1 es1 eo1 hp1
  have hb1 : b1 + 4 < 81 := by omega
  have hn1 : n1 ≤ 5 := en1 ▸ hln k1
  have hu1 : ∀ j, j < n1 → u1 j < q := fun j hj => by rw [← eu1]; exact hul k1 j (by rw [en1]; exact hj)
  have hwu1 : ∀ j, j < n1 → w (u1 j) ≤ 4 := fun j hj => hw _ (Nat.lt_of_lt_of_le (hu1 j hj) hq4)
  have hsf1 : ∀ k, k ≤ n1 → sf1 k ≤ 1024 := fun k hk => es1 ▸ shr_le hWt hwu1 hn1 hk
  have hs01 : 1 ≤ sf1 0 := es1 ▸ shr_0 (fun j hj => hw1 _ (hu1 j hj))
  have hol1 : ol1 ≤ 5120 := by rw [← eo1]; show lapS (shr Wt w u1 n1) u1 n1 u1 n1 5 ≤ 5120; rw [es1]; exact lapS_le hsf1 5
  refine lv_aload_n hx hb dX5_won_0 rfl (lv_at hl 0 rfl) ?_
  refine lv_iload_n hx hb dX5_won_1 rfl (lv_at hl 1 rfl) ?_
  refine va_csq (va_Run.run (va_runV (As := [.int (nI (k1))]) (rest := []) ⟨hx, hb, hml, hown, hts⟩ (mX5_wordIn_yes l fo_0 fa_3 fo1 h3 hk1 eb1 hp1 hn1) (cwV 1 hts gX5_won_X5_wordIn rfl rfl rfl (by decide +kernel) ⟨Nat.le_of_ble_eq_true rfl, Nat.le_of_ble_eq_true rfl⟩) ⟨xB_blind, va_recv hK hP (ci := 5) rfl (xw_is (by decide) fo_0), fun U hU hW => ⟨rfl, by rw [hU]; exact hP, va_K.moved hW.alike hK, va_Nw.warmM hW hN⟩⟩ rfl rfl hl.1 rfl (lv_room (Nat.le_of_ble_eq_true rfl)) dX5_won_2 ⟨Nat.le_of_ble_eq_true rfl, Nat.le_of_ble_eq_true rfl⟩)) (fun r1 er1 => ?_)
  subst er1
  refine W.eq (g2 := F0 m 5 ls (.ref (ad (b1)) :: [])) rfl ?_
  refine lv_astore_n (lv' := [(2, .ref (ad (b1))), (0, .ref (ad (0))), (1, .int (nI (k1)))]) hx hb dX5_won_5 rfl hl (by decide) rfl (fun ls hl => ?_)
  refine lv_aload_n hx hb dX5_won_6 rfl (lv_at hl 0 rfl) ?_
  refine lv_ifnull hx hb dX5_won_7 ?_
  refine lv_aload_n hx hb dX5_won_10 rfl (lv_at hl 1 rfl) ?_
  refine xw_get hx hb hts hin5 hown hK hP (by decide) fo_0 rfl 5 (by decide) hf44 rfl rfl dX5_won_11 ?_
  refine lv_aload_n hx hb dX5_won_14 rfl (lv_at hl 0 rfl) ?_
  refine vp_callSi (va_Run.run (va_runV (As := [.ref (ad (b1))]) (rest := []) ⟨hx, hb, hml, hown, hts⟩ (mX3_firstEndOf l (q := q) fo15 fa16 fo1 fal1 hq4 hT ht h16 hb1 hn1 hu1 hfl1) (cwV 1 hts gX5_won_X3_firstEndOf rfl rfl rfl (by decide +kernel) ⟨Nat.le_of_ble_eq_true rfl, Nat.le_of_ble_eq_true rfl⟩) ⟨xB_blind, va_recv hK hP (ci := 3) rfl (xw_is (by decide) fo15), fun U hU hW => ⟨rfl, by rw [hU]; exact hP, va_K.moved hW.alike hK, va_Nw.warmM hW hN⟩⟩ rfl rfl hl.1 rfl (lv_room (Nat.le_of_ble_eq_true rfl)) dX5_won_15 ⟨Nat.le_of_ble_eq_true rfl, Nat.le_of_ble_eq_true rfl⟩)) (fun r2 er2 => ?_)
  refine lv_iconst (v := (-1)) hx hb dX5_won_18 (by decide) ?_
  refine lv_icmp_ne (tgt := 24) hx hb dX5_won_19 (by decide) (fun c19_3 => ?_) (fun c19_3 => ?_)
  · refine lv_aload_n hx hb dX5_won_24 rfl (lv_at hl 1 rfl) ?_
    refine lv_aload_n hx hb dX5_won_25 rfl (lv_at hl 0 rfl) ?_
    refine xw_get hx hb hts hin4 hown hK hP (by omega) fo1 rfl 6 (by decide) hf109 rfl rfl dX5_won_26 ?_
    refine lv_aload_n hx hb dX5_won_29 rfl (lv_at hl 0 rfl) ?_
    refine vp_callSl (va_Run.run (va_runV (As := []) (rest := [.long (lZ ((ol1 : Int))), .ref (ad (0))]) ⟨hx, hb, hml, hown, hts⟩ (mX4_leadBottom l (q := q) fo1 fas1 hb1 hn1 hu1 hfs1) (cwV 0 hts gX5_won_X4_leadBottom rfl rfl rfl (by decide +kernel) ⟨Nat.le_of_ble_eq_true rfl, Nat.le_of_ble_eq_true rfl⟩) ⟨xB_blind, va_recv hK hP (ci := 4) rfl (xw_is (by omega) fo1), fun U hU hW => ⟨rfl, by rw [hU]; exact hP, va_K.moved hW.alike hK, va_Nw.warmM hW hN⟩⟩ rfl rfl hl.1 rfl (lv_room (Nat.le_of_ble_eq_true rfl)) dX5_won_30 ⟨Nat.le_of_ble_eq_true rfl, Nat.le_of_ble_eq_true rfl⟩)) (fun r4 er4 => ?_)
    subst er4
    refine va_callv (va_runV (As := [.long (lZ ((ol1 : Int))), .long (lZ ((sf1 0 : Int)))]) (rest := []) ⟨hx, hb, hml, hown, hts⟩ (mX5_hold l hD (a := (ol1 : Int)) (b := (sf1 0 : Int)) fo_0 (by omega) (by have h9 := hsf1 0 (by omega); omega) (by omega)) (cwV 2 hts gX5_won_X5_hold rfl rfl rfl (by decide +kernel) ⟨Nat.le_of_ble_eq_true rfl, Nat.le_of_ble_eq_true rfl⟩) ⟨xB_blind, va_recv hK hP (ci := 5) rfl (xw_is (by decide) fo_0), fun U hU hW => ⟨rfl, by rw [hU]; exact hP, va_K.moved hW.alike hK, va_Nw.warmM hW hN⟩⟩ rfl rfl hl.1 rfl (lv_room (Nat.le_of_ble_eq_true rfl)) dX5_won_33 ⟨Nat.le_of_ble_eq_true rfl, Nat.le_of_ble_eq_true rfl⟩) hS (fun _ _ h => h) (fun _ h => h) (fun g5 tZ H locs ht hvm hwg5 hB hzZ hkZ hS => ?_)
    obtain ⟨hP, -⟩ := hB
    rw [ht] at hP
    obtain ⟨fg5_n0, hcg5⟩ := hwg5
    have fg5_k0 : g5 (1) = .inr (0, [.ref (ad (2)), .int (nI (q)), .int (nI (Wt))]) := (hcg5 (1) (by decide)).trans fo_1
    have fg5_k1 : g5 (2) = .inl (cI, 4, .inl (f2)) := (hcg5 (2) (by decide)).trans fa_2
    have fg5_k2 : g5 (15) = .inr (3, [.ref (ad (16)), .int (nI (T))]) := (hcg5 (15) (by decide)).trans fo15
    have fg5_k3 : g5 (16) = .inl (cI, 300, .inl (f16)) := (hcg5 (16) (by decide)).trans fa16
    have fg5_k4 : g5 (3) = .inl (cW, 8, .inr (.inr (.inr (.inr (f3))))) := (hcg5 (3) (by decide)).trans fa_3
    have fg5_k5 : g5 (b1) = .inr (4, [.ref (ad (b1 + 1)), .ref (ad (b1 + 2)), .ref (ad (b1 + 3)), .ref (ad (b1 + 4)), .int (nI (n1)), .int (nI (px q u1 n1)), .long (lZ ((ol1 : Int)))]) := (hcg5 (b1) (by omega)).trans fo1
    have fg5_k6 : g5 (b1 + 1) = .inl (cI, 5, .inl (fl1)) := (hcg5 (b1 + 1) (by omega)).trans fal1
    have fg5_k7 : g5 (b1 + 2) = .inl (cI, 6, .inl (fh1)) := (hcg5 (b1 + 2) (by omega)).trans fah1
    have fg5_k8 : g5 (b1 + 3) = .inl (cI, 6, .inl (ft1)) := (hcg5 (b1 + 3) (by omega)).trans fat1
    have fg5_k9 : g5 (b1 + 4) = .inl (cJ, 6, .inr (.inl (fs1))) := (hcg5 (b1 + 4) (by omega)).trans fas1
    have hfrg5 : ∀ j : Nat, j ≠ 0 → g5 j = g j := fun j h0 => (hcg5 j h0).trans ((fun _ _ => rfl) j h0)
    refine lv_iconst (v := nI (1)) hx hb dX5_won_36 (by decide) ?_
    exact W.zret (v := nI (1)) hx hb hr (by decide) (fun tZ ht hW => ⟨⟨_, g5, rfl, (by subst en1 eu1 es1 eo1; have hO : oWon Wt w ln u T t (nI k1) = some (fMean Wt w (u k1) (ln k1)) := (by unfold oWon; rw [slotW_yes hk1 hp1]; rcases er2 with ⟨a, e, h1, h2, h3⟩ | ⟨e, h⟩; show (match fstT T t (u k1) (ln k1) with | some _ => _ | none => _) = _; rw [fstT_some h1 h2 h3]; exact absurd e c19_3); show _ = (if (oWon Wt w ln u T t (nI k1)).isSome then 1 else 0) ∧ _; rw [hO]; exact ⟨rfl, hC.hand fg5_n0 hfrg5, fun j hj => hfrg5 j (by omega)⟩), by rw [ht]; exact hP, va_K.moved hW.alike hK, va_Nw.warmM hW hN⟩, hS.F ht⟩) hS.2.2 dX5_won_37
  · refine lv_iconst (v := nI (0)) hx hb dX5_won_22 (by decide) ?_
    exact W.zret (v := nI (0)) hx hb hr (by decide) (fun tZ ht hW => ⟨⟨_, g, rfl, (by have hO : oWon Wt w ln u T t (nI k1) = none := (by subst en1 eu1 es1 eo1; unfold oWon; rw [slotW_yes hk1 hp1]; rcases er2 with ⟨a, e, h1, h2, h3⟩ | ⟨e, h⟩; exact absurd (e.symm.trans c19_3) (nI_m1 (by omega)); show (match fstT T t (u k1) (ln k1) with | some _ => _ | none => _) = _; rw [fstT_none h]); show _ = (if (oWon Wt w ln u T t (nI k1)).isSome then 1 else 0) ∧ _; rw [hO]; exact ⟨rfl, hC, fun _ _ => rfl⟩), by rw [ht]; exact hP, va_K.moved hW.alike hK, va_Nw.warmM hW hN⟩, hS.F ht⟩) hS.2.2 dX5_won_23

set_option maxHeartbeats 4000000 in
set_option maxRecDepth 100000 in
theorem mX5_won_n (l : Launch) {D : va_G} {cI cJ cZ cW : ClassId} {ad : Nat → Nat} {A : Nat → Prop} (hD : ∀ g, va_D A (xw 81 ad g)) {g : Nat → va_E} {q Wt : Nat} {w : Nat → Nat} {ln : Nat → Nat} {u : Nat → Nat → Nat} {T : Nat} {t : Nat → Nat} {tp bt : Int64} {xa : Int32}  (hC : ClsI cI cJ cZ cW ad g q Wt w ln u T t tp bt) (hs : SrcI q Wt w ln u T t) (hxa : noW ln xa) : Met l yX5_won wsX5_won ({ frames := 2, cells := 0, slots := 0, locals := 58 }) (va_Pc [.ref (ad (0)), .int (xa)] (xB D (xT cI cJ cZ cW) ad g)) (va_Qi (fun r g2 => r = (if (oWon Wt w ln u T t (xa)).isSome then 1 else 0) ∧ ClsI cI cJ cZ cW ad g2 q Wt w ln u T t (hTp (oWon Wt w ln u T t (xa)) tp) (hBt (oWon Wt w ln u T t (xa)) bt) ∧ ∀ j : Nat, 62 ≤ j → g2 j = g j) (xB D (xT cI cJ cZ cW) ad) A) 0 0 A := by
  refine Met.ofW (cc := cX5_won) (maxL := 3) (ret := (some .boolean)) (by decide) rfl ?_
  intro p e s m args below meth c s₁ B hml hv
  obtain ⟨rfl, hP, hK, hN⟩ := hv
  have hx := B.exec
  have hb := B.bytes
  have hr := B.returns
  have hts := atoms_spec (ws := wsX5_won) B.pre
  have hown : s.vm.findClass RX5 = some m.cls := findClass_of_methodNamed B.named
  have hlocks := B.notSynchronized
  have hS : va_S A s.heap s.heap [] := va_S.rf
  have hl := lv_entry ([.ref (ad (0)), .int (xa)]) (n := 3) (Nat.le_of_ble_eq_true rfl)
  rw [lg_entry_eq]
  generalize (lg_sl ([.ref (ad (0)), .int (xa)]) ++ List.replicate (3 - (lg_sl ([.ref (ad (0)), .int (xa)])).length) Slot.unset).toArray = ls at hl ⊢
  have hl : lv_has ls 3 [(0, .ref (ad (0))), (1, .int (xa))] := hl
  obtain ⟨hq2, hq4, hw1, hw0, hWs, hWt, hw, hln, hul, hT, ht⟩ := hs
  obtain ⟨fo_0, ⟨f2, fo_1, fa_2, h2⟩, ⟨f3, fa_3, h3⟩, hRace, hMach, ⟨f16, fo15, fa16, h16⟩, hwd, hcand⟩ := id hC
  refine lv_aload_n hx hb dX5_won_0 rfl (lv_at hl 0 rfl) ?_
  refine lv_iload_n hx hb dX5_won_1 rfl (lv_at hl 1 rfl) ?_
  refine va_csq (va_Run.run (va_runV (As := [.int (xa)]) (rest := []) ⟨hx, hb, hml, hown, hts⟩ (mX5_wordIn_no l fo_0 fa_3 h3 hwd hxa) (cwV 1 hts gX5_won_X5_wordIn rfl rfl rfl (by decide +kernel) ⟨Nat.le_of_ble_eq_true rfl, Nat.le_of_ble_eq_true rfl⟩) ⟨xB_blind, va_recv hK hP (ci := 5) rfl (xw_is (by decide) fo_0), fun U hU hW => ⟨rfl, by rw [hU]; exact hP, va_K.moved hW.alike hK, va_Nw.warmM hW hN⟩⟩ rfl rfl hl.1 rfl (lv_room (Nat.le_of_ble_eq_true rfl)) dX5_won_2 ⟨Nat.le_of_ble_eq_true rfl, Nat.le_of_ble_eq_true rfl⟩)) (fun r1 er1 => ?_)
  subst er1
  refine W.eq (g2 := F0 m 5 ls (.null :: [])) rfl ?_
  refine lv_astore_nN (lv' := [(2, .null), (0, .ref (ad (0))), (1, .int (xa))]) hx hb dX5_won_5 rfl hl (by decide) rfl (fun ls hl => ?_)
  refine lv_aload_nN hx hb dX5_won_6 rfl (lv_at hl 0 rfl) ?_
  refine lv_ifnullN (tgt := 22) hx hb dX5_won_7 (by decide) ?_
  refine lv_iconst (v := nI (0)) hx hb dX5_won_22 (by decide) ?_
  exact W.zret (v := nI (0)) hx hb hr (by decide) (fun tZ ht hW => ⟨⟨_, g, rfl, (by have hO : oWon Wt w ln u T t xa = none := (by unfold oWon; rw [slotW_no hxa]); show _ = (if (oWon Wt w ln u T t xa).isSome then 1 else 0) ∧ _; rw [hO]; exact ⟨rfl, hC, fun _ _ => rfl⟩), by rw [ht]; exact hP, va_K.moved hW.alike hK, va_Nw.warmM hW hN⟩, hS.F ht⟩) hS.2.2 dX5_won_23

theorem mX5_won (l : Launch) {D : va_G} {cI cJ cZ cW : ClassId} {ad : Nat → Nat} {A : Nat → Prop} (hD : ∀ g, va_D A (xw 81 ad g)) {g : Nat → va_E} {q Wt : Nat} {w : Nat → Nat} {ln : Nat → Nat} {u : Nat → Nat → Nat} {T : Nat} {t : Nat → Nat} {tp bt : Int64} (hC : ClsI cI cJ cZ cW ad g q Wt w ln u T t tp bt) (hs : SrcI q Wt w ln u T t) (xa : Int32) : Met l yX5_won wsX5_won ({ frames := 2, cells := 0, slots := 0, locals := 58 }) (va_Pc [.ref (ad (0)), .int xa] (xB D (xT cI cJ cZ cW) ad g)) (va_Qi (fun r g2 => r = (if (oWon Wt w ln u T t (xa)).isSome then 1 else 0) ∧ ClsI cI cJ cZ cW ad g2 q Wt w ln u T t (hTp (oWon Wt w ln u T t (xa)) tp) (hBt (oWon Wt w ln u T t (xa)) bt) ∧ ∀ j : Nat, 62 ≤ j → g2 j = g j) (xB D (xT cI cJ cZ cW) ad) A) 0 0 A := by
  rcases slotW_cases ln xa with hxa | ⟨k1, hk1, rfl, hp1⟩
  · exact mX5_won_n l hD hC hs hxa
  · exact mX5_won_s l hD hC hs hk1 rfl rfl rfl rfl rfl hp1

set_option maxHeartbeats 4000000 in
set_option maxRecDepth 100000 in
theorem mX5_letter_in (l : Launch) {D : va_G} {cI cJ cZ cW : ClassId} {ad : Nat → Nat} {g : Nat → va_E} {q Wt : Nat} {w : Nat → Nat} {ln : Nat → Nat} {u : Nat → Nat → Nat} {T : Nat} {t : Nat → Nat} {tp bt : Int64} {j : Nat}  (hC : ClsI cI cJ cZ cW ad g q Wt w ln u T t tp bt) (hs : SrcI q Wt w ln u T t) (hj : j < T) : Met l yX5_letter wsX5_letter ({ frames := 1, cells := 0, slots := 0, locals := 21 }) (va_Pc [.ref (ad (0)), .int (nI (j))] (xB D (xT cI cJ cZ cW) ad g)) (vp_Si (fun r => r = aLetter T t (nI j))) 0 0 (fun _ => False) := by
  refine Met.ofW (cc := cX5_letter) (maxL := 2) (ret := (some .int)) (by decide) rfl ?_
  intro p e s m args below meth c s₁ B hml hv
  obtain ⟨rfl, hP, hK, hN⟩ := hv
  have hx := B.exec
  have hb := B.bytes
  have hr := B.returns
  have hts := atoms_spec (ws := wsX5_letter) B.pre
  have hown : s.vm.findClass RX5 = some m.cls := findClass_of_methodNamed B.named
  have hlocks := B.notSynchronized
  have hin5 : ∀ w ∈ wsX50, w ∈ wsX5_letter := by decide +kernel
  have hf44 := hts (.fieldLink RX5 44 "LettersByLot" "text" "LLettersByLot$Text;") (by decide +kernel)
  have hl := lv_entry ([.ref (ad (0)), .int (nI (j))]) (n := 2) (Nat.le_of_ble_eq_true rfl)
  rw [lg_entry_eq]
  generalize (lg_sl ([.ref (ad (0)), .int (nI (j))]) ++ List.replicate (2 - (lg_sl ([.ref (ad (0)), .int (nI (j))])).length) Slot.unset).toArray = ls at hl ⊢
  have hl : lv_has ls 2 [(0, .ref (ad (0))), (1, .int (nI (j)))] := hl
  obtain ⟨hq2, hq4, hw1, hw0, hWs, hWt, hw, hln, hul, hT, ht⟩ := hs
  obtain ⟨fo_0, ⟨f2, fo_1, fa_2, h2⟩, ⟨f3, fa_3, h3⟩, hRace, hMach, ⟨f16, fo15, fa16, h16⟩, hwd, hcand⟩ := id hC
  refine lv_aload_n hx hb dX5_letter_0 rfl (lv_at hl 0 rfl) ?_
  refine xw_get hx hb hts hin5 hown hK hP (by decide) fo_0 rfl 5 (by decide) hf44 rfl rfl dX5_letter_1 ?_
  refine lv_iload_n hx hb dX5_letter_4 rfl (lv_at hl 1 rfl) ?_
  refine vp_callSi (va_Run.run (va_runV (As := [.int (nI (j))]) (rest := []) ⟨hx, hb, hml, hown, hts⟩ (mX3_letterAt_in l (q := q) fo15 fa16 hT ht h16 hj) (cwV 1 hts gX5_letter_X3_letterAt rfl rfl rfl (by decide +kernel) ⟨Nat.le_of_ble_eq_true rfl, Nat.le_of_ble_eq_true rfl⟩) ⟨xB_blind, va_recv hK hP (ci := 3) rfl (xw_is (by decide) fo15), fun U hU hW => ⟨rfl, by rw [hU]; exact hP, va_K.moved hW.alike hK, va_Nw.warmM hW hN⟩⟩ rfl rfl hl.1 rfl (lv_room (Nat.le_of_ble_eq_true rfl)) dX5_letter_5 ⟨Nat.le_of_ble_eq_true rfl, Nat.le_of_ble_eq_true rfl⟩)) (fun r1 er1 => ?_)
  subst er1
  exact W.iret (v := nI (t (j))) hx hb hr (fun tZ ht _ => ⟨_, rfl, (aLetter_in hT hj).symm, ht⟩) (fun q hq => by cases hq) dX5_letter_8

set_option maxHeartbeats 4000000 in
set_option maxRecDepth 100000 in
theorem mX5_letter_out (l : Launch) {D : va_G} {cI cJ cZ cW : ClassId} {ad : Nat → Nat} {g : Nat → va_E} {q Wt : Nat} {w : Nat → Nat} {ln : Nat → Nat} {u : Nat → Nat → Nat} {T : Nat} {t : Nat → Nat} {tp bt : Int64} {x0 : Int32}  (hC : ClsI cI cJ cZ cW ad g q Wt w ln u T t tp bt) (hs : SrcI q Wt w ln u T t) (hx0 : x0 < 0 ∨ nI T ≤ x0) : Met l yX5_letter wsX5_letter ({ frames := 1, cells := 0, slots := 0, locals := 21 }) (va_Pc [.ref (ad (0)), .int (x0)] (xB D (xT cI cJ cZ cW) ad g)) (vp_Si (fun r => r = aLetter T t x0)) 0 0 (fun _ => False) := by
  refine Met.ofW (cc := cX5_letter) (maxL := 2) (ret := (some .int)) (by decide) rfl ?_
  intro p e s m args below meth c s₁ B hml hv
  obtain ⟨rfl, hP, hK, hN⟩ := hv
  have hx := B.exec
  have hb := B.bytes
  have hr := B.returns
  have hts := atoms_spec (ws := wsX5_letter) B.pre
  have hown : s.vm.findClass RX5 = some m.cls := findClass_of_methodNamed B.named
  have hlocks := B.notSynchronized
  have hin5 : ∀ w ∈ wsX50, w ∈ wsX5_letter := by decide +kernel
  have hf44 := hts (.fieldLink RX5 44 "LettersByLot" "text" "LLettersByLot$Text;") (by decide +kernel)
  have hl := lv_entry ([.ref (ad (0)), .int (x0)]) (n := 2) (Nat.le_of_ble_eq_true rfl)
  rw [lg_entry_eq]
  generalize (lg_sl ([.ref (ad (0)), .int (x0)]) ++ List.replicate (2 - (lg_sl ([.ref (ad (0)), .int (x0)])).length) Slot.unset).toArray = ls at hl ⊢
  have hl : lv_has ls 2 [(0, .ref (ad (0))), (1, .int (x0))] := hl
  obtain ⟨hq2, hq4, hw1, hw0, hWs, hWt, hw, hln, hul, hT, ht⟩ := hs
  obtain ⟨fo_0, ⟨f2, fo_1, fa_2, h2⟩, ⟨f3, fa_3, h3⟩, hRace, hMach, ⟨f16, fo15, fa16, h16⟩, hwd, hcand⟩ := id hC
  refine lv_aload_n hx hb dX5_letter_0 rfl (lv_at hl 0 rfl) ?_
  refine xw_get hx hb hts hin5 hown hK hP (by decide) fo_0 rfl 5 (by decide) hf44 rfl rfl dX5_letter_1 ?_
  refine lv_iload_n hx hb dX5_letter_4 rfl (lv_at hl 1 rfl) ?_
  refine vp_callSi (va_Run.run (va_runV (As := [.int (x0)]) (rest := []) ⟨hx, hb, hml, hown, hts⟩ (mX3_letterAt_out l (q := q) fo15 fa16 hT ht h16 hx0) (cwV 1 hts gX5_letter_X3_letterAt rfl rfl rfl (by decide +kernel) ⟨Nat.le_of_ble_eq_true rfl, Nat.le_of_ble_eq_true rfl⟩) ⟨xB_blind, va_recv hK hP (ci := 3) rfl (xw_is (by decide) fo15), fun U hU hW => ⟨rfl, by rw [hU]; exact hP, va_K.moved hW.alike hK, va_Nw.warmM hW hN⟩⟩ rfl rfl hl.1 rfl (lv_room (Nat.le_of_ble_eq_true rfl)) dX5_letter_5 ⟨Nat.le_of_ble_eq_true rfl, Nat.le_of_ble_eq_true rfl⟩)) (fun r1 er1 => ?_)
  subst er1
  exact W.iret (v := (-1)) hx hb hr (fun tZ ht _ => ⟨_, rfl, (aLetter_out hx0).symm, ht⟩) (fun q hq => by cases hq) dX5_letter_8

set_option maxHeartbeats 4000000 in
set_option maxRecDepth 100000 in
theorem mX5_add_in (l : Launch) {D : va_G} {cI cJ cZ cW : ClassId} {ad : Nat → Nat} {A : Nat → Prop} (hD : ∀ g, va_D A (xw 81 ad g)) {g : Nat → va_E} {q Wt : Nat} {w : Nat → Nat} {ln : Nat → Nat} {u : Nat → Nat → Nat} {T : Nat} {t : Nat → Nat} {tp bt : Int64} {j : Nat}  (hC : ClsI cI cJ cZ cW ad g q Wt w ln u T t tp bt) (hs : SrcI q Wt w ln u T t) (hj : j < q) (hT3 : T < 300) : Met l yX5_add wsX5_add ({ frames := 1, cells := 0, slots := 0, locals := 21 }) (va_Pc [.ref (ad (0)), .int (nI (j))] (xB D (xT cI cJ cZ cW) ad g)) (va_Qi (fun r g2 => r = nI (T + 1) ∧ ClsI cI cJ cZ cW ad g2 q Wt w ln u (T + 1) (va_up t T j) tp bt ∧ ∀ i : Nat, 62 ≤ i → g2 i = g i) (xB D (xT cI cJ cZ cW) ad) A) 0 0 A := by
  refine Met.ofW (cc := cX5_add) (maxL := 2) (ret := (some .int)) (by decide) rfl ?_
  intro p e s m args below meth c s₁ B hml hv
  obtain ⟨rfl, hP, hK, hN⟩ := hv
  have hx := B.exec
  have hb := B.bytes
  have hr := B.returns
  have hts := atoms_spec (ws := wsX5_add) B.pre
  have hown : s.vm.findClass RX5 = some m.cls := findClass_of_methodNamed B.named
  have hlocks := B.notSynchronized
  have hS : va_S A s.heap s.heap [] := va_S.rf
  have hin0 : ∀ w ∈ wsX00, w ∈ wsX5_add := by decide +kernel
  have hin3 : ∀ w ∈ wsX30, w ∈ wsX5_add := by decide +kernel
  have hin5 : ∀ w ∈ wsX50, w ∈ wsX5_add := by decide +kernel
  have hf12 := hts (.fieldLink RX5 12 "LettersByLot" "lot" "LLettersByLot$Lot;") (by decide +kernel)
  have hf44 := hts (.fieldLink RX5 44 "LettersByLot" "text" "LLettersByLot$Text;") (by decide +kernel)
  have hf141 := hts (.fieldLink RX5 141 "LettersByLot$Lot" "letters" "I") (by decide +kernel)
  have hf181 := hts (.fieldLink RX5 181 "LettersByLot$Text" "length" "I") (by decide +kernel)
  have hl := lv_entry ([.ref (ad (0)), .int (nI (j))]) (n := 2) (Nat.le_of_ble_eq_true rfl)
  rw [lg_entry_eq]
  generalize (lg_sl ([.ref (ad (0)), .int (nI (j))]) ++ List.replicate (2 - (lg_sl ([.ref (ad (0)), .int (nI (j))])).length) Slot.unset).toArray = ls at hl ⊢
  have hl : lv_has ls 2 [(0, .ref (ad (0))), (1, .int (nI (j)))] := hl
  obtain ⟨hq2, hq4, hw1, hw0, hWs, hWt, hw, hln, hul, hT, ht⟩ := hs
  obtain ⟨fo_0, ⟨f2, fo_1, fa_2, h2⟩, ⟨f3, fa_3, h3⟩, hRace, hMach, ⟨f16, fo15, fa16, h16⟩, hwd, hcand⟩ := id hC
  refine lv_iload_n hx hb dX5_add_0 rfl (lv_at hl 1 rfl) ?_
  refine xi_if_lt (tgt := 26) hx hb (by omega) dX5_add_1 (by decide) ?_
  refine lv_iload_n hx hb dX5_add_4 rfl (lv_at hl 1 rfl) ?_
  refine lv_aload_n hx hb dX5_add_5 rfl (lv_at hl 0 rfl) ?_
  refine xw_get hx hb hts hin5 hown hK hP (by decide) fo_0 rfl 0 (by decide) hf12 rfl rfl dX5_add_6 ?_
  refine xw_get hx hb hts hin0 hown hK hP (by decide) fo_1 rfl 1 (by decide) hf141 rfl rfl dX5_add_9 ?_
  refine xi_icmp_ge (tgt := 26) hx hb (by omega) (by omega) dX5_add_12 (by decide) (fun c12_2 => ?_) (fun c12_2 => ?_)
  · exact absurd c12_2 (by omega)
  · refine lv_aload_n hx hb dX5_add_15 rfl (lv_at hl 0 rfl) ?_
    refine xw_get hx hb hts hin5 hown hK hP (by decide) fo_0 rfl 5 (by decide) hf44 rfl rfl dX5_add_16 ?_
    refine lv_iload_n hx hb dX5_add_19 rfl (lv_at hl 1 rfl) ?_
    refine va_calli (va_runV (As := [.int (nI (j))]) (rest := []) ⟨hx, hb, hml, hown, hts⟩ (mX3_append_in l hD fo15 fa16 hT3) (cwV 1 hts gX5_add_X3_append rfl rfl rfl (by decide +kernel) ⟨Nat.le_of_ble_eq_true rfl, Nat.le_of_ble_eq_true rfl⟩) ⟨xB_blind, va_recv hK hP (ci := 3) rfl (xw_is (by decide) fo15), fun U hU hW => ⟨rfl, by rw [hU]; exact hP, va_K.moved hW.alike hK, va_Nw.warmM hW hN⟩⟩ rfl rfl hl.1 rfl (lv_room (Nat.le_of_ble_eq_true rfl)) dX5_add_20 ⟨Nat.le_of_ble_eq_true rfl, Nat.le_of_ble_eq_true rfl⟩) hS (fun _ _ h => h) (fun _ h => h) (fun r4 g3 tZ H locs ht hvm hwg3 hB hzZ hkZ hS => ?_)
    obtain ⟨hP, -⟩ := hB
    rw [ht] at hP
    obtain ⟨er4, fg3_n0, fg3_n1, hcg3⟩ := hwg3
    subst er4
    have fg3_k0 : g3 (0) = .inr (5, [.ref (ad (1)), .ref (ad (3)), .ref (ad (57)), .ref (ad (4)), .ref (ad (8)), .ref (ad (15)), .long (tp), .long (bt)]) := (hcg3 (0) (by decide) (by decide)).trans fo_0
    have fg3_k1 : g3 (1) = .inr (0, [.ref (ad (2)), .int (nI (q)), .int (nI (Wt))]) := (hcg3 (1) (by decide) (by decide)).trans fo_1
    have fg3_k2 : g3 (2) = .inl (cI, 4, .inl (f2)) := (hcg3 (2) (by decide) (by decide)).trans fa_2
    have fg3_k3 : g3 (3) = .inl (cW, 8, .inr (.inr (.inr (.inr (f3))))) := (hcg3 (3) (by decide) (by decide)).trans fa_3
    have hfrg3 : ∀ j : Nat, j ≠ 15 → j ≠ 16 → g3 j = g j := fun j h0 h1 => (hcg3 j h0 h1).trans ((fun _ _ _ => rfl) j h0 h1)
    refine xi_if_ne (tgt := 28) hx hb (by decide) dX5_add_23 (by decide) (fun _ => ?_) (fun c0 => absurd c0 (by decide))
    refine lv_aload_n hx hb dX5_add_28 rfl (lv_at hl 0 rfl) ?_
    refine xw_get hx hb hts hin5 hown hK hP (by decide) fg3_k0 rfl 5 (by decide) hf44 rfl rfl dX5_add_29 ?_
    refine xw_get hx hb hts hin3 hown hK hP (by decide) fg3_n0 rfl 1 (by decide) hf181 rfl rfl dX5_add_32 ?_
    exact W.iret (v := nI (T + 1)) hx hb hr (fun tZ ht hW => ⟨⟨_, g3, rfl, ⟨rfl, hC.text ⟨_, fg3_n0, fg3_n1, fun i hi => (by by_cases e : i = T; subst e; rw [pk_us, va_up_self]; rw [pk_un e, va_up_ne _ _ e]; exact h16 i (by omega))⟩ hfrg3, fun i hi => hfrg3 i (by omega) (by omega)⟩, by rw [ht]; exact hP, va_K.moved hW.alike hK, va_Nw.warmM hW hN⟩, hS.F ht⟩) hS.2.2 dX5_add_35
