set_option maxHeartbeats 4000000 in
set_option maxRecDepth 100000 in
theorem mX5_odds_ss (l : Launch) {D : va_G} {cI cJ cZ cW : ClassId} {ad : Nat → Nat} {A : Nat → Prop} (hD : ∀ g, va_D A (xw 81 ad g)) {g : Nat → va_E} {q Wt : Nat} {w : Nat → Nat} {ln : Nat → Nat} {u : Nat → Nat → Nat} {T : Nat} {t : Nat → Nat} {tp bt : Int64} {k1 b1 n1 ol1 : Nat} {u1 sf1 : Nat → Nat} {k2 b2 n2 ol2 : Nat} {u2 sf2 : Nat → Nat}  (hC : ClsI cI cJ cZ cW ad g q Wt w ln u T t tp bt) (hs : SrcI q Wt w ln u T t) (hk1 : k1 < 8) (eb1 : 17 + 5 * k1 = b1) (en1 : ln k1 = n1) (eu1 : u k1 = u1) (es1 : shr Wt w u1 n1 = sf1) (eo1 : ownL Wt w u1 n1 = ol1) (hp1 : 0 < n1) (hk2 : k2 < 8) (eb2 : 17 + 5 * k2 = b2) (en2 : ln k2 = n2) (eu2 : u k2 = u2) (es2 : shr Wt w u2 n2 = sf2) (eo2 : ownL Wt w u2 n2 = ol2) (hp2 : 0 < n2) (hNZ : edgNZ Wt w ln u) : Met l yX5_odds wsX5_odds ({ frames := 3, cells := 0, slots := 0, locals := 71 }) (va_Pc [.ref (ad (0)), .int (nI (k1)), .int (nI (k2))] (xB D (xT cI cJ cZ cW) ad g)) (va_Qi (fun r g2 => r = (if (oOdds Wt w ln u (nI (k1)) (nI (k2))).isSome then 1 else 0) ∧ ClsI cI cJ cZ cW ad g2 q Wt w ln u T t (hTp (oOdds Wt w ln u (nI (k1)) (nI (k2))) tp) (hBt (oOdds Wt w ln u (nI (k1)) (nI (k2))) bt) ∧ ∀ j : Nat, 62 ≤ j → g2 j = g j) (xB D (xT cI cJ cZ cW) ad) A) 0 0 A := by
  refine Met.ofW (cc := cX5_odds) (maxL := 5) (ret := (some .boolean)) (by decide) rfl ?_
  intro p e s m args below meth c s₁ B hml hv
  obtain ⟨rfl, hP, hK, hN⟩ := hv
  have hx := B.exec
  have hb := B.bytes
  have hr := B.returns
  have hts := atoms_spec (ws := wsX5_odds) B.pre
  have hown : s.vm.findClass RX5 = some m.cls := findClass_of_methodNamed B.named
  have hlocks := B.notSynchronized
  have hS : va_S A s.heap s.heap [] := va_S.rf
  have hin5 : ∀ w ∈ wsX50, w ∈ wsX5_odds := by decide +kernel
  have hf30 := hts (.fieldLink RX5 30 "LettersByLot" "race" "LLettersByLot$Race;") (by decide +kernel)
  have hl := lv_entry ([.ref (ad (0)), .int (nI (k1)), .int (nI (k2))]) (n := 5) (Nat.le_of_ble_eq_true rfl)
  rw [lg_entry_eq]
  generalize (lg_sl ([.ref (ad (0)), .int (nI (k1)), .int (nI (k2))]) ++ List.replicate (5 - (lg_sl ([.ref (ad (0)), .int (nI (k1)), .int (nI (k2))])).length) Slot.unset).toArray = ls at hl ⊢
  have hl : lv_has ls 5 [(0, .ref (ad (0))), (1, .int (nI (k1))), (2, .int (nI (k2)))] := hl
  obtain ⟨hq2, hq4, hw1, hw0, hWs, hWt, hw, hln, hul, hT, ht⟩ := hs
  obtain ⟨fo_0, ⟨f2, fo_1, fa_2, h2⟩, ⟨f3, fa_3, h3⟩, hRace, hMach, ⟨f16, fo15, fa16, h16⟩, hwd, hcand⟩ := id hC
  have hWp : 1 ≤ Wt ∧ Wt ≤ 4 := by have h8 := hw1 0 (by omega); have h9 := wsum_mono (w := w) (show 1 ≤ q by omega); have h7 : wsum w 1 = 0 + w 0 := rfl; omega
  obtain ⟨f5r, f6r, f7r, szr, fo4, fa5, fa6, fa7⟩ := hRace
  obtain ⟨fl1, fh1, ft1, fs1, fo1, fal1, fah1, fat1, fas1, hfl1, hfh1, hft1, hfs1⟩ := cw_pos hwd hk1 eb1 en1 eu1 es1 eo1 hp1
  have hb1 : b1 + 4 < 81 := by omega
  have hn1 : n1 ≤ 5 := en1 ▸ hln k1
  have hu1 : ∀ j, j < n1 → u1 j < q := fun j hj => by rw [← eu1]; exact hul k1 j (by rw [en1]; exact hj)
  have hwu1 : ∀ j, j < n1 → w (u1 j) ≤ 4 := fun j hj => hw _ (Nat.lt_of_lt_of_le (hu1 j hj) hq4)
  have hsf1 : ∀ k, k ≤ n1 → sf1 k ≤ 1024 := fun k hk => es1 ▸ shr_le hWt hwu1 hn1 hk
  have hs01 : 1 ≤ sf1 0 := es1 ▸ shr_0 (fun j hj => hw1 _ (hu1 j hj))
  have hol1 : ol1 ≤ 5120 := by rw [← eo1]; show lapS (shr Wt w u1 n1) u1 n1 u1 n1 5 ≤ 5120; rw [es1]; exact lapS_le hsf1 5
  have hb171 : 17 ≤ b1 := by omega
  obtain ⟨fl2, fh2, ft2, fs2, fo2, fal2, fah2, fat2, fas2, hfl2, hfh2, hft2, hfs2⟩ := cw_pos hwd hk2 eb2 en2 eu2 es2 eo2 hp2
  have hb2 : b2 + 4 < 81 := by omega
  have hn2 : n2 ≤ 5 := en2 ▸ hln k2
  have hu2 : ∀ j, j < n2 → u2 j < q := fun j hj => by rw [← eu2]; exact hul k2 j (by rw [en2]; exact hj)
  have hwu2 : ∀ j, j < n2 → w (u2 j) ≤ 4 := fun j hj => hw _ (Nat.lt_of_lt_of_le (hu2 j hj) hq4)
  have hsf2 : ∀ k, k ≤ n2 → sf2 k ≤ 1024 := fun k hk => es2 ▸ shr_le hWt hwu2 hn2 hk
  have hs02 : 1 ≤ sf2 0 := es2 ▸ shr_0 (fun j hj => hw1 _ (hu2 j hj))
  have hol2 : ol2 ≤ 5120 := by rw [← eo2]; show lapS (shr Wt w u2 n2) u2 n2 u2 n2 5 ≤ 5120; rw [es2]; exact lapS_le hsf2 5
  have hb172 : 17 ≤ b2 := by omega
  refine lv_aload_n hx hb dX5_odds_0 rfl (lv_at hl 0 rfl) ?_
  refine lv_iload_n hx hb dX5_odds_1 rfl (lv_at hl 1 rfl) ?_
  refine va_csq (va_Run.run (va_runV (As := [.int (nI (k1))]) (rest := []) ⟨hx, hb, hml, hown, hts⟩ (mX5_wordIn_yes l fo_0 fa_3 fo1 h3 hk1 eb1 hp1 hn1) (cwV 1 hts gX5_odds_X5_wordIn rfl rfl rfl (by decide +kernel) ⟨Nat.le_of_ble_eq_true rfl, Nat.le_of_ble_eq_true rfl⟩) ⟨xB_blind, va_recv hK hP (ci := 5) rfl (xw_is (by decide) fo_0), fun U hU hW => ⟨rfl, by rw [hU]; exact hP, va_K.moved hW.alike hK, va_Nw.warmM hW hN⟩⟩ rfl rfl hl.1 rfl (lv_room (Nat.le_of_ble_eq_true rfl)) dX5_odds_2 ⟨Nat.le_of_ble_eq_true rfl, Nat.le_of_ble_eq_true rfl⟩)) (fun r1 er1 => ?_)
  subst er1
  refine W.eq (g2 := F0 m 5 ls (.ref (ad (b1)) :: [])) rfl ?_
  refine lv_astore_n (lv' := [(3, .ref (ad (b1))), (0, .ref (ad (0))), (1, .int (nI (k1))), (2, .int (nI (k2)))]) hx hb dX5_odds_5 rfl hl (by decide) rfl (fun ls hl => ?_)
  refine lv_aload_n hx hb dX5_odds_6 rfl (lv_at hl 1 rfl) ?_
  refine lv_iload_n hx hb dX5_odds_7 rfl (lv_at hl 3 rfl) ?_
  refine va_csq (va_Run.run (va_runV (As := [.int (nI (k2))]) (rest := []) ⟨hx, hb, hml, hown, hts⟩ (mX5_wordIn_yes l fo_0 fa_3 fo2 h3 hk2 eb2 hp2 hn2) (cwV 1 hts gX5_odds_X5_wordIn rfl rfl rfl (by decide +kernel) ⟨Nat.le_of_ble_eq_true rfl, Nat.le_of_ble_eq_true rfl⟩) ⟨xB_blind, va_recv hK hP (ci := 5) rfl (xw_is (by decide) fo_0), fun U hU hW => ⟨rfl, by rw [hU]; exact hP, va_K.moved hW.alike hK, va_Nw.warmM hW hN⟩⟩ rfl rfl hl.1 rfl (lv_room (Nat.le_of_ble_eq_true rfl)) dX5_odds_8 ⟨Nat.le_of_ble_eq_true rfl, Nat.le_of_ble_eq_true rfl⟩)) (fun r2 er2 => ?_)
  subst er2
  refine W.eq (g2 := F0 m 11 ls (.ref (ad (b2)) :: [])) rfl ?_
  refine lv_astore (lv' := [(4, .ref (ad (b2))), (3, .ref (ad (b1))), (0, .ref (ad (0))), (1, .int (nI (k1))), (2, .int (nI (k2)))]) hx hb dX5_odds_11 hl (by decide) rfl (fun ls hl => ?_)
  refine lv_aload_n hx hb dX5_odds_13 rfl (lv_at hl 2 rfl) ?_
  refine xw_get hx hb hts hin5 hown hK hP (by decide) fo_0 rfl 3 (by decide) hf30 rfl rfl dX5_odds_14 ?_
  refine va_callv (va_runV (As := []) (rest := []) ⟨hx, hb, hml, hown, hts⟩ (mX2_clear l hD fo4 fa5 fa6 fa7) (cwV 0 hts gX5_odds_X2_clear rfl rfl rfl (by decide +kernel) ⟨Nat.le_of_ble_eq_true rfl, Nat.le_of_ble_eq_true rfl⟩) ⟨xB_blind, va_recv hK hP (ci := 2) rfl (xw_is (by decide) fo4), fun U hU hW => ⟨rfl, by rw [hU]; exact hP, va_K.moved hW.alike hK, va_Nw.warmM hW hN⟩⟩ rfl rfl hl.1 rfl (lv_room (Nat.le_of_ble_eq_true rfl)) dX5_odds_17 ⟨Nat.le_of_ble_eq_true rfl, Nat.le_of_ble_eq_true rfl⟩) hS (fun _ _ h => h) (fun _ h => h) (fun g3 tZ H locs ht hvm hwg3 hB hzZ hkZ hS => ?_)
  obtain ⟨hP, -⟩ := hB
  rw [ht] at hP
  obtain ⟨f5c, f6c, f7c, h5c, h6c, h7c, fg3_n0, fg3_n1, fg3_n2, fg3_n3, hcg3⟩ := hwg3
  have fg3_k0 : g3 (0) = .inr (5, [.ref (ad (1)), .ref (ad (3)), .ref (ad (57)), .ref (ad (4)), .ref (ad (8)), .ref (ad (15)), .long (tp), .long (bt)]) := (hcg3 (0) (by decide) (by decide) (by decide) (by decide)).trans fo_0
  have fg3_k1 : g3 (1) = .inr (0, [.ref (ad (2)), .int (nI (q)), .int (nI (Wt))]) := (hcg3 (1) (by decide) (by decide) (by decide) (by decide)).trans fo_1
  have fg3_k2 : g3 (2) = .inl (cI, 4, .inl (f2)) := (hcg3 (2) (by decide) (by decide) (by decide) (by decide)).trans fa_2
  have fg3_k3 : g3 (15) = .inr (3, [.ref (ad (16)), .int (nI (T))]) := (hcg3 (15) (by decide) (by decide) (by decide) (by decide)).trans fo15
  have fg3_k4 : g3 (16) = .inl (cI, 300, .inl (f16)) := (hcg3 (16) (by decide) (by decide) (by decide) (by decide)).trans fa16
  have fg3_k5 : g3 (3) = .inl (cW, 8, .inr (.inr (.inr (.inr (f3))))) := (hcg3 (3) (by decide) (by decide) (by decide) (by decide)).trans fa_3
  have fg3_k6 : g3 (b1) = .inr (4, [.ref (ad (b1 + 1)), .ref (ad (b1 + 2)), .ref (ad (b1 + 3)), .ref (ad (b1 + 4)), .int (nI (n1)), .int (nI (px q u1 n1)), .long (lZ ((ol1 : Int)))]) := (hcg3 (b1) (by omega) (by omega) (by omega) (by omega)).trans fo1
  have fg3_k7 : g3 (b1 + 1) = .inl (cI, 5, .inl (fl1)) := (hcg3 (b1 + 1) (by omega) (by omega) (by omega) (by omega)).trans fal1
  have fg3_k8 : g3 (b1 + 2) = .inl (cI, 6, .inl (fh1)) := (hcg3 (b1 + 2) (by omega) (by omega) (by omega) (by omega)).trans fah1
  have fg3_k9 : g3 (b1 + 3) = .inl (cI, 6, .inl (ft1)) := (hcg3 (b1 + 3) (by omega) (by omega) (by omega) (by omega)).trans fat1
  have fg3_k10 : g3 (b1 + 4) = .inl (cJ, 6, .inr (.inl (fs1))) := (hcg3 (b1 + 4) (by omega) (by omega) (by omega) (by omega)).trans fas1
  have fg3_k11 : g3 (b2) = .inr (4, [.ref (ad (b2 + 1)), .ref (ad (b2 + 2)), .ref (ad (b2 + 3)), .ref (ad (b2 + 4)), .int (nI (n2)), .int (nI (px q u2 n2)), .long (lZ ((ol2 : Int)))]) := (hcg3 (b2) (by omega) (by omega) (by omega) (by omega)).trans fo2
  have fg3_k12 : g3 (b2 + 1) = .inl (cI, 5, .inl (fl2)) := (hcg3 (b2 + 1) (by omega) (by omega) (by omega) (by omega)).trans fal2
  have fg3_k13 : g3 (b2 + 2) = .inl (cI, 6, .inl (fh2)) := (hcg3 (b2 + 2) (by omega) (by omega) (by omega) (by omega)).trans fah2
  have fg3_k14 : g3 (b2 + 3) = .inl (cI, 6, .inl (ft2)) := (hcg3 (b2 + 3) (by omega) (by omega) (by omega) (by omega)).trans fat2
  have fg3_k15 : g3 (b2 + 4) = .inl (cJ, 6, .inr (.inl (fs2))) := (hcg3 (b2 + 4) (by omega) (by omega) (by omega) (by omega)).trans fas2
  have hfrg3 : ∀ j : Nat, j ≠ 0 → j ≠ 4 → j ≠ 5 → j ≠ 6 → j ≠ 7 → g3 j = g j := fun j h0 h1 h2 h3 h4 => (hcg3 j h1 h2 h3 h4).trans ((fun _ _ _ _ _ _ => rfl) j h0 h1 h2 h3 h4)
  refine lv_aload_n hx hb dX5_odds_20 rfl (lv_at hl 1 rfl) ?_
  refine lv_ifnull hx hb dX5_odds_21 ?_
  refine lv_aload hx hb dX5_odds_24 (lv_at hl 0 rfl) ?_
  refine lv_ifnull hx hb dX5_odds_26 ?_
  refine lv_aload_n hx hb dX5_odds_29 rfl (lv_at hl 2 rfl) ?_
  refine xw_get hx hb hts hin5 hown hK hP (by decide) fg3_k0 rfl 3 (by decide) hf30 rfl rfl dX5_odds_30 ?_
  refine lv_aload_n hx hb dX5_odds_33 rfl (lv_at hl 1 rfl) ?_
  refine va_calli (va_runV (As := [.ref (ad (b1))]) (rest := []) ⟨hx, hb, hml, hown, hts⟩ (mX2_enter0 l hD (q := q) fg3_n0 fg3_n1 fg3_n2 fg3_n3 fg3_k6 fg3_k7 fg3_k8 fg3_k9 fg3_k10  hq4 hb1 hn1 hu1 hfl1 hfh1 hft1 hfs1 hb171  ) (cwV 1 hts gX5_odds_X2_enter rfl rfl rfl (by decide +kernel) ⟨Nat.le_of_ble_eq_true rfl, Nat.le_of_ble_eq_true rfl⟩) ⟨xB_blind, va_recv hK hP (ci := 2) rfl (xw_is (by decide) fg3_n0), fun U hU hW => ⟨rfl, by rw [hU]; exact hP, va_K.moved hW.alike hK, va_Nw.warmM hW hN⟩⟩ rfl rfl hl.1 rfl (lv_room (Nat.le_of_ble_eq_true rfl)) dX5_odds_34 ⟨Nat.le_of_ble_eq_true rfl, Nat.le_of_ble_eq_true rfl⟩) hS (fun _ _ h => h) (fun _ h => h) (fun r1 ge5 tZ H locs ht1 hvm hwb hB hzZ hkZ hS => ?_)
  obtain ⟨hP, -⟩ := hB
  rw [ht1] at hP
  rcases hwb with ⟨er1, hlige5, fe4ge5, fe5ge5, fe6ge5, fe7ge5, hcege5⟩ | ⟨er1, hlige5, eg⟩
  · subst er1
    have fkge5_4 : ge5 (0) = .inr (5, [.ref (ad (1)), .ref (ad (3)), .ref (ad (57)), .ref (ad (4)), .ref (ad (8)), .ref (ad (15)), .long (tp), .long (bt)]) := (hcege5 (0) (by decide) (by decide) (by decide) (by decide)).trans fg3_k0
    have fkge5_5 : ge5 (1) = .inr (0, [.ref (ad (2)), .int (nI (q)), .int (nI (Wt))]) := (hcege5 (1) (by decide) (by decide) (by decide) (by decide)).trans fg3_k1
    have fkge5_6 : ge5 (2) = .inl (cI, 4, .inl (f2)) := (hcege5 (2) (by decide) (by decide) (by decide) (by decide)).trans fg3_k2
    have fkge5_7 : ge5 (15) = .inr (3, [.ref (ad (16)), .int (nI (T))]) := (hcege5 (15) (by decide) (by decide) (by decide) (by decide)).trans fg3_k3
    have fkge5_8 : ge5 (16) = .inl (cI, 300, .inl (f16)) := (hcege5 (16) (by decide) (by decide) (by decide) (by decide)).trans fg3_k4
    have fkge5_9 : ge5 (3) = .inl (cW, 8, .inr (.inr (.inr (.inr (f3))))) := (hcege5 (3) (by decide) (by decide) (by decide) (by decide)).trans fg3_k5
    have fkge5_10 : ge5 (b1) = .inr (4, [.ref (ad (b1 + 1)), .ref (ad (b1 + 2)), .ref (ad (b1 + 3)), .ref (ad (b1 + 4)), .int (nI (n1)), .int (nI (px q u1 n1)), .long (lZ ((ol1 : Int)))]) := (hcege5 (b1) (by omega) (by omega) (by omega) (by omega)).trans fg3_k6
    have fkge5_11 : ge5 (b1 + 1) = .inl (cI, 5, .inl (fl1)) := (hcege5 (b1 + 1) (by omega) (by omega) (by omega) (by omega)).trans fg3_k7
    have fkge5_12 : ge5 (b1 + 2) = .inl (cI, 6, .inl (fh1)) := (hcege5 (b1 + 2) (by omega) (by omega) (by omega) (by omega)).trans fg3_k8
    have fkge5_13 : ge5 (b1 + 3) = .inl (cI, 6, .inl (ft1)) := (hcege5 (b1 + 3) (by omega) (by omega) (by omega) (by omega)).trans fg3_k9
    have fkge5_14 : ge5 (b1 + 4) = .inl (cJ, 6, .inr (.inl (fs1))) := (hcege5 (b1 + 4) (by omega) (by omega) (by omega) (by omega)).trans fg3_k10
    have fkge5_15 : ge5 (b2) = .inr (4, [.ref (ad (b2 + 1)), .ref (ad (b2 + 2)), .ref (ad (b2 + 3)), .ref (ad (b2 + 4)), .int (nI (n2)), .int (nI (px q u2 n2)), .long (lZ ((ol2 : Int)))]) := (hcege5 (b2) (by omega) (by omega) (by omega) (by omega)).trans fg3_k11
    have fkge5_16 : ge5 (b2 + 1) = .inl (cI, 5, .inl (fl2)) := (hcege5 (b2 + 1) (by omega) (by omega) (by omega) (by omega)).trans fg3_k12
    have fkge5_17 : ge5 (b2 + 2) = .inl (cI, 6, .inl (fh2)) := (hcege5 (b2 + 2) (by omega) (by omega) (by omega) (by omega)).trans fg3_k13
    have fkge5_18 : ge5 (b2 + 3) = .inl (cI, 6, .inl (ft2)) := (hcege5 (b2 + 3) (by omega) (by omega) (by omega) (by omega)).trans fg3_k14
    have fkge5_19 : ge5 (b2 + 4) = .inl (cJ, 6, .inr (.inl (fs2))) := (hcege5 (b2 + 4) (by omega) (by omega) (by omega) (by omega)).trans fg3_k15
    have hfrge5 : ∀ j : Nat, j ≠ 0 → j ≠ 4 → j ≠ 5 → j ≠ 6 → j ≠ 7 → ge5 j = g j := fun j h0 h1 h2 h3 h4 => (hcege5 j h1 h2 h3 h4).trans (hfrg3 j h0 h1 h2 h3 h4)
    refine xi_if_eq (tgt := 52) hx hb (by decide) dX5_odds_37 (by decide) (fun c0 => absurd c0 (by decide)) (fun _ => ?_)
    refine lv_aload_n hx hb dX5_odds_40 rfl (lv_at hl 2 rfl) ?_
    refine xw_get hx hb hts hin5 hown hK hP (by decide) fkge5_4 rfl 3 (by decide) hf30 rfl rfl dX5_odds_41 ?_
    refine lv_aload hx hb dX5_odds_44 (lv_at hl 0 rfl) ?_
    have hrr0 : (va_up (f5c) (0) (some (ad (b1)))) 0 = some (ad b1) := rfl
    refine va_calli (va_runV (As := [.ref (ad (b2))]) (rest := []) ⟨hx, hb, hml, hown, hts⟩ (mX2_enter1 l hD (q := q) fe4ge5 fe5ge5 fe6ge5 fe7ge5 fkge5_15 fkge5_16 fkge5_17 fkge5_18 fkge5_19 fkge5_10 fkge5_11 fkge5_12 fkge5_13 fkge5_14 hq4 hb2 hn2 hu2 hfl2 hfh2 hft2 hfs2 hb172 hb1 hn1 hu1 hfl1 hfh1 hft1 hfs1 hb171 hrr0) (cwV 1 hts gX5_odds_X2_enter rfl rfl rfl (by decide +kernel) ⟨Nat.le_of_ble_eq_true rfl, Nat.le_of_ble_eq_true rfl⟩) ⟨xB_blind, va_recv hK hP (ci := 2) rfl (xw_is (by decide) fe4ge5), fun U hU hW => ⟨rfl, by rw [hU]; exact hP, va_K.moved hW.alike hK, va_Nw.warmM hW hN⟩⟩ rfl rfl hl.1 rfl (lv_room (Nat.le_of_ble_eq_true rfl)) dX5_odds_46 ⟨Nat.le_of_ble_eq_true rfl, Nat.le_of_ble_eq_true rfl⟩) hS (fun _ _ h => h) (fun _ h => h) (fun r1 ge7 tZ H locs ht1 hvm hwb hB hzZ hkZ hS => ?_)
    obtain ⟨hP, -⟩ := hB
    rw [ht1] at hP
    rcases hwb with ⟨er1, hlige7, fe4ge7, fe5ge7, fe6ge7, fe7ge7, hcege7⟩ | ⟨er1, hlige7, eg⟩
    · subst er1
      have fkge7_4 : ge7 (0) = .inr (5, [.ref (ad (1)), .ref (ad (3)), .ref (ad (57)), .ref (ad (4)), .ref (ad (8)), .ref (ad (15)), .long (tp), .long (bt)]) := (hcege7 (0) (by decide) (by decide) (by decide) (by decide)).trans fkge5_4
      have fkge7_5 : ge7 (1) = .inr (0, [.ref (ad (2)), .int (nI (q)), .int (nI (Wt))]) := (hcege7 (1) (by decide) (by decide) (by decide) (by decide)).trans fkge5_5
      have fkge7_6 : ge7 (2) = .inl (cI, 4, .inl (f2)) := (hcege7 (2) (by decide) (by decide) (by decide) (by decide)).trans fkge5_6
      have fkge7_7 : ge7 (15) = .inr (3, [.ref (ad (16)), .int (nI (T))]) := (hcege7 (15) (by decide) (by decide) (by decide) (by decide)).trans fkge5_7
      have fkge7_8 : ge7 (16) = .inl (cI, 300, .inl (f16)) := (hcege7 (16) (by decide) (by decide) (by decide) (by decide)).trans fkge5_8
      have fkge7_9 : ge7 (3) = .inl (cW, 8, .inr (.inr (.inr (.inr (f3))))) := (hcege7 (3) (by decide) (by decide) (by decide) (by decide)).trans fkge5_9
      have fkge7_10 : ge7 (b1) = .inr (4, [.ref (ad (b1 + 1)), .ref (ad (b1 + 2)), .ref (ad (b1 + 3)), .ref (ad (b1 + 4)), .int (nI (n1)), .int (nI (px q u1 n1)), .long (lZ ((ol1 : Int)))]) := (hcege7 (b1) (by omega) (by omega) (by omega) (by omega)).trans fkge5_10
      have fkge7_11 : ge7 (b1 + 1) = .inl (cI, 5, .inl (fl1)) := (hcege7 (b1 + 1) (by omega) (by omega) (by omega) (by omega)).trans fkge5_11
      have fkge7_12 : ge7 (b1 + 2) = .inl (cI, 6, .inl (fh1)) := (hcege7 (b1 + 2) (by omega) (by omega) (by omega) (by omega)).trans fkge5_12
      have fkge7_13 : ge7 (b1 + 3) = .inl (cI, 6, .inl (ft1)) := (hcege7 (b1 + 3) (by omega) (by omega) (by omega) (by omega)).trans fkge5_13
      have fkge7_14 : ge7 (b1 + 4) = .inl (cJ, 6, .inr (.inl (fs1))) := (hcege7 (b1 + 4) (by omega) (by omega) (by omega) (by omega)).trans fkge5_14
      have fkge7_15 : ge7 (b2) = .inr (4, [.ref (ad (b2 + 1)), .ref (ad (b2 + 2)), .ref (ad (b2 + 3)), .ref (ad (b2 + 4)), .int (nI (n2)), .int (nI (px q u2 n2)), .long (lZ ((ol2 : Int)))]) := (hcege7 (b2) (by omega) (by omega) (by omega) (by omega)).trans fkge5_15
      have fkge7_16 : ge7 (b2 + 1) = .inl (cI, 5, .inl (fl2)) := (hcege7 (b2 + 1) (by omega) (by omega) (by omega) (by omega)).trans fkge5_16
      have fkge7_17 : ge7 (b2 + 2) = .inl (cI, 6, .inl (fh2)) := (hcege7 (b2 + 2) (by omega) (by omega) (by omega) (by omega)).trans fkge5_17
      have fkge7_18 : ge7 (b2 + 3) = .inl (cI, 6, .inl (ft2)) := (hcege7 (b2 + 3) (by omega) (by omega) (by omega) (by omega)).trans fkge5_18
      have fkge7_19 : ge7 (b2 + 4) = .inl (cJ, 6, .inr (.inl (fs2))) := (hcege7 (b2 + 4) (by omega) (by omega) (by omega) (by omega)).trans fkge5_19
      have hfrge7 : ∀ j : Nat, j ≠ 0 → j ≠ 4 → j ≠ 5 → j ≠ 6 → j ≠ 7 → ge7 j = g j := fun j h0 h1 h2 h3 h4 => (hcege7 j h1 h2 h3 h4).trans (hfrge5 j h0 h1 h2 h3 h4)
      refine xi_if_ne (tgt := 54) hx hb (by decide) dX5_odds_49 (by decide) (fun _ => ?_) (fun c0 => absurd c0 (by decide))
      refine lv_aload_n hx hb dX5_odds_54 rfl (lv_at hl 2 rfl) ?_
      refine lv_aload hx hb dX5_odds_55 (lv_at hl 0 rfl) ?_
      refine lv_aload_n hx hb dX5_odds_57 rfl (lv_at hl 1 rfl) ?_
      refine vp_callSl (va_Run.run (va_runV (As := [.ref (ad (b1))]) (rest := [.ref (ad (0))]) ⟨hx, hb, hml, hown, hts⟩ (mX4_edgeOver l (q := q) fkge7_15 fkge7_18 fkge7_19 fkge7_10 fkge7_12 fkge7_14 hq4 hb2 hn2 hu2 hft2 hfs2 hb1 hn1 hu1 hfh1 hfs1) (cwV 1 hts gX5_odds_X4_edgeOver rfl rfl rfl (by decide +kernel) ⟨Nat.le_of_ble_eq_true rfl, Nat.le_of_ble_eq_true rfl⟩) ⟨xB_blind, va_recv hK hP (ci := 4) rfl (xw_is (by omega) fkge7_15), fun U hU hW => ⟨rfl, by rw [hU]; exact hP, va_K.moved hW.alike hK, va_Nw.warmM hW hN⟩⟩ rfl rfl hl.1 rfl (lv_room (Nat.le_of_ble_eq_true rfl)) dX5_odds_58 ⟨Nat.le_of_ble_eq_true rfl, Nat.le_of_ble_eq_true rfl⟩)) (fun r9 er9 => ?_)
      subst er9
      refine lv_aload_n hx hb dX5_odds_61 rfl (lv_at hl 1 rfl) ?_
      refine lv_aload hx hb dX5_odds_62 (lv_at hl 0 rfl) ?_
      refine vp_callSl (va_Run.run (va_runV (As := [.ref (ad (b2))]) (rest := [.long (lZ ((ol2 : Int) * (sf1 0 : Int) - (lapS sf1 u2 n2 u1 n1 5 : Int) * (sf2 0 : Int))), .ref (ad (0))]) ⟨hx, hb, hml, hown, hts⟩ (mX4_edgeOver l (q := q) fkge7_10 fkge7_13 fkge7_14 fkge7_15 fkge7_17 fkge7_19 hq4 hb1 hn1 hu1 hft1 hfs1 hb2 hn2 hu2 hfh2 hfs2) (cwV 1 hts gX5_odds_X4_edgeOver rfl rfl rfl (by decide +kernel) ⟨Nat.le_of_ble_eq_true rfl, Nat.le_of_ble_eq_true rfl⟩) ⟨xB_blind, va_recv hK hP (ci := 4) rfl (xw_is (by omega) fkge7_10), fun U hU hW => ⟨rfl, by rw [hU]; exact hP, va_K.moved hW.alike hK, va_Nw.warmM hW hN⟩⟩ rfl rfl hl.1 rfl (lv_room (Nat.le_of_ble_eq_true rfl)) dX5_odds_64 ⟨Nat.le_of_ble_eq_true rfl, Nat.le_of_ble_eq_true rfl⟩)) (fun r10 er10 => ?_)
      subst er10
      refine va_callv (va_runV (As := [.long (lZ ((ol2 : Int) * (sf1 0 : Int) - (lapS sf1 u2 n2 u1 n1 5 : Int) * (sf2 0 : Int))), .long (lZ ((ol1 : Int) * (sf2 0 : Int) - (lapS sf2 u1 n1 u2 n2 5 : Int) * (sf1 0 : Int)))]) (rest := []) ⟨hx, hb, hml, hown, hts⟩ (mX5_hold l hD (a := (ol2 : Int) * (sf1 0 : Int) - (lapS sf1 u2 n2 u1 n1 5 : Int) * (sf2 0 : Int)) (b := (ol1 : Int) * (sf2 0 : Int) - (lapS sf2 u1 n1 u2 n2 5 : Int) * (sf1 0 : Int)) fkge7_4 (by have h9 := bnd_mul hol2 (hsf1 0 (by omega)); have h8 := bnd_mul (lapS_le (u := u2) (n := n2) (v := u1) hsf1 5) (hsf2 0 (by omega)); omega) (by have h9 := bnd_mul hol1 (hsf2 0 (by omega)); have h8 := bnd_mul (lapS_le (u := u1) (n := n1) (v := u2) hsf2 5) (hsf1 0 (by omega)); omega) (by subst en1 eu1 es1 eo1 en2 eu2 es2 eo2; exact hNZ k1 k2 hk1 hk2 hp1 hp2 hlige7)) (cwV 2 hts gX5_odds_X5_hold rfl rfl rfl (by decide +kernel) ⟨Nat.le_of_ble_eq_true rfl, Nat.le_of_ble_eq_true rfl⟩) ⟨xB_blind, va_recv hK hP (ci := 5) rfl (xw_is (by decide) fkge7_4), fun U hU hW => ⟨rfl, by rw [hU]; exact hP, va_K.moved hW.alike hK, va_Nw.warmM hW hN⟩⟩ rfl rfl hl.1 rfl (lv_room (Nat.le_of_ble_eq_true rfl)) dX5_odds_67 ⟨Nat.le_of_ble_eq_true rfl, Nat.le_of_ble_eq_true rfl⟩) hS (fun _ _ h => h) (fun _ h => h) (fun g11 tZ H locs ht hvm hwg11 hB hzZ hkZ hS => ?_)
      obtain ⟨hP, -⟩ := hB
      rw [ht] at hP
      obtain ⟨fg11_n0, hcg11⟩ := hwg11
      have fg11_k0 : g11 (4) = .inr (2, [.ref (ad (5)), .ref (ad (6)), .ref (ad (7)), .int (nI (2))]) := (hcg11 (4) (by decide)).trans fe4ge7
      have fg11_k1 : g11 (5) = .inl (cW, 3, .inr (.inr (.inr (.inr (va_up (va_up (f5c) (0) (some (ad (b1)))) (1) (some (ad (b2)))))))) := (hcg11 (5) (by decide)).trans fe5ge7
      have fg11_k2 : g11 (6) = .inl (cJ, 9, .inr (.inl (vp_updL (vp_updL (vp_updL (vp_updL (vp_updL (vp_updL (f6c) (0) (lZ ((lapS sf1 u1 n1 u1 n1 5 : Int)))) (0) (lZ ((lapS sf1 u1 n1 u1 n1 5 : Int)))) (3) (lZ ((lapS sf2 u1 n1 u2 n2 5 : Int)))) (1) (lZ ((lapS sf1 u2 n2 u1 n1 5 : Int)))) (4) (lZ ((lapS sf2 u2 n2 u2 n2 5 : Int)))) (4) (lZ ((lapS sf2 u2 n2 u2 n2 5 : Int)))))) := (hcg11 (6) (by decide)).trans fe6ge7
      have fg11_k3 : g11 (7) = .inl (cJ, 3, .inr (.inl (vp_updL (vp_updL (f7c) (0) (lZ ((sf1 0 : Int)))) (1) (lZ ((sf2 0 : Int)))))) := (hcg11 (7) (by decide)).trans fe7ge7
      have fg11_k4 : g11 (1) = .inr (0, [.ref (ad (2)), .int (nI (q)), .int (nI (Wt))]) := (hcg11 (1) (by decide)).trans fkge7_5
      have fg11_k5 : g11 (2) = .inl (cI, 4, .inl (f2)) := (hcg11 (2) (by decide)).trans fkge7_6
      have fg11_k6 : g11 (15) = .inr (3, [.ref (ad (16)), .int (nI (T))]) := (hcg11 (15) (by decide)).trans fkge7_7
      have fg11_k7 : g11 (16) = .inl (cI, 300, .inl (f16)) := (hcg11 (16) (by decide)).trans fkge7_8
      have fg11_k8 : g11 (3) = .inl (cW, 8, .inr (.inr (.inr (.inr (f3))))) := (hcg11 (3) (by decide)).trans fkge7_9
      have fg11_k9 : g11 (b1) = .inr (4, [.ref (ad (b1 + 1)), .ref (ad (b1 + 2)), .ref (ad (b1 + 3)), .ref (ad (b1 + 4)), .int (nI (n1)), .int (nI (px q u1 n1)), .long (lZ ((ol1 : Int)))]) := (hcg11 (b1) (by omega)).trans fkge7_10
      have fg11_k10 : g11 (b1 + 1) = .inl (cI, 5, .inl (fl1)) := (hcg11 (b1 + 1) (by omega)).trans fkge7_11
      have fg11_k11 : g11 (b1 + 2) = .inl (cI, 6, .inl (fh1)) := (hcg11 (b1 + 2) (by omega)).trans fkge7_12
      have fg11_k12 : g11 (b1 + 3) = .inl (cI, 6, .inl (ft1)) := (hcg11 (b1 + 3) (by omega)).trans fkge7_13
      have fg11_k13 : g11 (b1 + 4) = .inl (cJ, 6, .inr (.inl (fs1))) := (hcg11 (b1 + 4) (by omega)).trans fkge7_14
      have fg11_k14 : g11 (b2) = .inr (4, [.ref (ad (b2 + 1)), .ref (ad (b2 + 2)), .ref (ad (b2 + 3)), .ref (ad (b2 + 4)), .int (nI (n2)), .int (nI (px q u2 n2)), .long (lZ ((ol2 : Int)))]) := (hcg11 (b2) (by omega)).trans fkge7_15
      have fg11_k15 : g11 (b2 + 1) = .inl (cI, 5, .inl (fl2)) := (hcg11 (b2 + 1) (by omega)).trans fkge7_16
      have fg11_k16 : g11 (b2 + 2) = .inl (cI, 6, .inl (fh2)) := (hcg11 (b2 + 2) (by omega)).trans fkge7_17
      have fg11_k17 : g11 (b2 + 3) = .inl (cI, 6, .inl (ft2)) := (hcg11 (b2 + 3) (by omega)).trans fkge7_18
      have fg11_k18 : g11 (b2 + 4) = .inl (cJ, 6, .inr (.inl (fs2))) := (hcg11 (b2 + 4) (by omega)).trans fkge7_19
      have hfrg11 : ∀ j : Nat, j ≠ 0 → j ≠ 4 → j ≠ 5 → j ≠ 6 → j ≠ 7 → g11 j = g j := fun j h0 h1 h2 h3 h4 => (hcg11 j h0).trans (hfrge7 j h0 h1 h2 h3 h4)
      refine lv_iconst (v := nI (1)) hx hb dX5_odds_70 (by decide) ?_
      exact W.zret (v := nI (1)) hx hb hr (by decide) (fun tZ ht hW => ⟨⟨_, g11, rfl, (by subst en1 eu1 es1 eo1 en2 eu2 es2 eo2; have hO : oOdds Wt w ln u (nI k1) (nI k2) = some (Rat.divInt (edg Wt w (u k2) (ln k2) (u k1) (ln k1)) (edg Wt w (u k1) (ln k1) (u k2) (ln k2))) := (by unfold oOdds; rw [slotW_yes hk1 hp1, slotW_yes hk2 hp2]; exact if_neg hlige7); show _ = (if (oOdds Wt w ln u (nI k1) (nI k2)).isSome then 1 else 0) ∧ _; rw [hO]; exact ⟨rfl, hC.race fg11_n0 ⟨_, _, _, _, fg11_k0, fg11_k1, fg11_k2, fg11_k3⟩ hfrg11, (fun j hj => hfrg11 j (by omega) (by omega) (by omega) (by omega) (by omega))⟩), by rw [ht]; exact hP, va_K.moved hW.alike hK, va_Nw.warmM hW hN⟩, hS.F ht⟩) hS.2.2 dX5_odds_71
    · subst er1
      rw [eg] at hP
      refine xi_if_ne (tgt := 54) hx hb (by decide) dX5_odds_49 (by decide) (fun c0 => absurd c0 (by decide)) (fun _ => ?_)
      refine lv_iconst (v := nI (0)) hx hb dX5_odds_52 (by decide) ?_
      exact W.zret (v := nI (0)) hx hb hr (by decide) (fun tZ ht hW => ⟨⟨_, ge5, rfl, (by have hO : oOdds Wt w ln u (nI k1) (nI k2) = none := (by subst en1 eu1 es1 eo1 en2 eu2 es2 eo2; unfold oOdds; rw [slotW_yes hk1 hp1, slotW_yes hk2 hp2]; exact if_pos hlige7); show _ = (if (oOdds Wt w ln u (nI k1) (nI k2)).isSome then 1 else 0) ∧ _; rw [hO]; exact ⟨rfl, hC.race fkge5_4 ⟨_, _, _, _, fe4ge5, fe5ge5, fe6ge5, fe7ge5⟩ hfrge5, (fun j hj => hfrge5 j (by omega) (by omega) (by omega) (by omega) (by omega))⟩), by rw [ht]; exact hP, va_K.moved hW.alike hK, va_Nw.warmM hW hN⟩, hS.F ht⟩) hS.2.2 dX5_odds_53
  · subst er1
    rw [eg] at hP
    refine xi_if_eq (tgt := 52) hx hb (by decide) dX5_odds_37 (by decide) (fun _ => ?_) (fun c0 => absurd c0 (by decide))
    refine lv_iconst (v := nI (0)) hx hb dX5_odds_52 (by decide) ?_
    exact W.zret (v := nI (0)) hx hb hr (by decide) (fun tZ ht hW => ⟨⟨_, g3, rfl, (by have hO : oOdds Wt w ln u (nI k1) (nI k2) = none := (by exact absurd hlige5 (fun h => h)); show _ = (if (oOdds Wt w ln u (nI k1) (nI k2)).isSome then 1 else 0) ∧ _; rw [hO]; exact ⟨rfl, hC.race fg3_k0 ⟨_, _, _, _, fg3_n0, fg3_n1, fg3_n2, fg3_n3⟩ hfrg3, (fun j hj => hfrg3 j (by omega) (by omega) (by omega) (by omega) (by omega))⟩), by rw [ht]; exact hP, va_K.moved hW.alike hK, va_Nw.warmM hW hN⟩, hS.F ht⟩) hS.2.2 dX5_odds_53

set_option maxHeartbeats 4000000 in
set_option maxRecDepth 100000 in
theorem mX5_odds_sn (l : Launch) {D : va_G} {cI cJ cZ cW : ClassId} {ad : Nat → Nat} {A : Nat → Prop} (hD : ∀ g, va_D A (xw 81 ad g)) {g : Nat → va_E} {q Wt : Nat} {w : Nat → Nat} {ln : Nat → Nat} {u : Nat → Nat → Nat} {T : Nat} {t : Nat → Nat} {tp bt : Int64} {k1 b1 n1 ol1 : Nat} {u1 sf1 : Nat → Nat} {xb : Int32}  (hC : ClsI cI cJ cZ cW ad g q Wt w ln u T t tp bt) (hs : SrcI q Wt w ln u T t) (hk1 : k1 < 8) (eb1 : 17 + 5 * k1 = b1) (en1 : ln k1 = n1) (eu1 : u k1 = u1) (es1 : shr Wt w u1 n1 = sf1) (eo1 : ownL Wt w u1 n1 = ol1) (hp1 : 0 < n1) (hxb : noW ln xb) (hNZ : edgNZ Wt w ln u) : Met l yX5_odds wsX5_odds ({ frames := 3, cells := 0, slots := 0, locals := 71 }) (va_Pc [.ref (ad (0)), .int (nI (k1)), .int (xb)] (xB D (xT cI cJ cZ cW) ad g)) (va_Qi (fun r g2 => r = (if (oOdds Wt w ln u (nI (k1)) (xb)).isSome then 1 else 0) ∧ ClsI cI cJ cZ cW ad g2 q Wt w ln u T t (hTp (oOdds Wt w ln u (nI (k1)) (xb)) tp) (hBt (oOdds Wt w ln u (nI (k1)) (xb)) bt) ∧ ∀ j : Nat, 62 ≤ j → g2 j = g j) (xB D (xT cI cJ cZ cW) ad) A) 0 0 A := by
  refine Met.ofW (cc := cX5_odds) (maxL := 5) (ret := (some .boolean)) (by decide) rfl ?_
  intro p e s m args below meth c s₁ B hml hv
  obtain ⟨rfl, hP, hK, hN⟩ := hv
  have hx := B.exec
  have hb := B.bytes
  have hr := B.returns
  have hts := atoms_spec (ws := wsX5_odds) B.pre
  have hown : s.vm.findClass RX5 = some m.cls := findClass_of_methodNamed B.named
  have hlocks := B.notSynchronized
  have hS : va_S A s.heap s.heap [] := va_S.rf
  have hin5 : ∀ w ∈ wsX50, w ∈ wsX5_odds := by decide +kernel
  have hf30 := hts (.fieldLink RX5 30 "LettersByLot" "race" "LLettersByLot$Race;") (by decide +kernel)
  have hl := lv_entry ([.ref (ad (0)), .int (nI (k1)), .int (xb)]) (n := 5) (Nat.le_of_ble_eq_true rfl)
  rw [lg_entry_eq]
  generalize (lg_sl ([.ref (ad (0)), .int (nI (k1)), .int (xb)]) ++ List.replicate (5 - (lg_sl ([.ref (ad (0)), .int (nI (k1)), .int (xb)])).length) Slot.unset).toArray = ls at hl ⊢
  have hl : lv_has ls 5 [(0, .ref (ad (0))), (1, .int (nI (k1))), (2, .int (xb))] := hl
  obtain ⟨hq2, hq4, hw1, hw0, hWs, hWt, hw, hln, hul, hT, ht⟩ := hs
  obtain ⟨fo_0, ⟨f2, fo_1, fa_2, h2⟩, ⟨f3, fa_3, h3⟩, hRace, hMach, ⟨f16, fo15, fa16, h16⟩, hwd, hcand⟩ := id hC
  have hWp : 1 ≤ Wt ∧ Wt ≤ 4 := by have h8 := hw1 0 (by omega); have h9 := wsum_mono (w := w) (show 1 ≤ q by omega); have h7 : wsum w 1 = 0 + w 0 := rfl; omega
  obtain ⟨f5r, f6r, f7r, szr, fo4, fa5, fa6, fa7⟩ := hRace
  obtain ⟨fl1, fh1, ft1, fs1, fo1, fal1, fah1, fat1, fas1, hfl1, hfh1, hft1, hfs1⟩ := cw_pos hwd hk1 eb1 en1 eu1 es1 eo1 hp1
  have hb1 : b1 + 4 < 81 := by omega
  have hn1 : n1 ≤ 5 := en1 ▸ hln k1
  have hu1 : ∀ j, j < n1 → u1 j < q := fun j hj => by rw [← eu1]; exact hul k1 j (by rw [en1]; exact hj)
  have hwu1 : ∀ j, j < n1 → w (u1 j) ≤ 4 := fun j hj => hw _ (Nat.lt_of_lt_of_le (hu1 j hj) hq4)
  have hsf1 : ∀ k, k ≤ n1 → sf1 k ≤ 1024 := fun k hk => es1 ▸ shr_le hWt hwu1 hn1 hk
  have hs01 : 1 ≤ sf1 0 := es1 ▸ shr_0 (fun j hj => hw1 _ (hu1 j hj))
  have hol1 : ol1 ≤ 5120 := by rw [← eo1]; show lapS (shr Wt w u1 n1) u1 n1 u1 n1 5 ≤ 5120; rw [es1]; exact lapS_le hsf1 5
  have hb171 : 17 ≤ b1 := by omega
  refine lv_aload_n hx hb dX5_odds_0 rfl (lv_at hl 0 rfl) ?_
  refine lv_iload_n hx hb dX5_odds_1 rfl (lv_at hl 1 rfl) ?_
  refine va_csq (va_Run.run (va_runV (As := [.int (nI (k1))]) (rest := []) ⟨hx, hb, hml, hown, hts⟩ (mX5_wordIn_yes l fo_0 fa_3 fo1 h3 hk1 eb1 hp1 hn1) (cwV 1 hts gX5_odds_X5_wordIn rfl rfl rfl (by decide +kernel) ⟨Nat.le_of_ble_eq_true rfl, Nat.le_of_ble_eq_true rfl⟩) ⟨xB_blind, va_recv hK hP (ci := 5) rfl (xw_is (by decide) fo_0), fun U hU hW => ⟨rfl, by rw [hU]; exact hP, va_K.moved hW.alike hK, va_Nw.warmM hW hN⟩⟩ rfl rfl hl.1 rfl (lv_room (Nat.le_of_ble_eq_true rfl)) dX5_odds_2 ⟨Nat.le_of_ble_eq_true rfl, Nat.le_of_ble_eq_true rfl⟩)) (fun r1 er1 => ?_)
  subst er1
  refine W.eq (g2 := F0 m 5 ls (.ref (ad (b1)) :: [])) rfl ?_
  refine lv_astore_n (lv' := [(3, .ref (ad (b1))), (0, .ref (ad (0))), (1, .int (nI (k1))), (2, .int (xb))]) hx hb dX5_odds_5 rfl hl (by decide) rfl (fun ls hl => ?_)
  refine lv_aload_n hx hb dX5_odds_6 rfl (lv_at hl 1 rfl) ?_
  refine lv_iload_n hx hb dX5_odds_7 rfl (lv_at hl 3 rfl) ?_
  refine va_csq (va_Run.run (va_runV (As := [.int (xb)]) (rest := []) ⟨hx, hb, hml, hown, hts⟩ (mX5_wordIn_no l fo_0 fa_3 h3 hwd hxb) (cwV 1 hts gX5_odds_X5_wordIn rfl rfl rfl (by decide +kernel) ⟨Nat.le_of_ble_eq_true rfl, Nat.le_of_ble_eq_true rfl⟩) ⟨xB_blind, va_recv hK hP (ci := 5) rfl (xw_is (by decide) fo_0), fun U hU hW => ⟨rfl, by rw [hU]; exact hP, va_K.moved hW.alike hK, va_Nw.warmM hW hN⟩⟩ rfl rfl hl.1 rfl (lv_room (Nat.le_of_ble_eq_true rfl)) dX5_odds_8 ⟨Nat.le_of_ble_eq_true rfl, Nat.le_of_ble_eq_true rfl⟩)) (fun r2 er2 => ?_)
  subst er2
  refine W.eq (g2 := F0 m 11 ls (.null :: [])) rfl ?_
  refine lv_astoreN (lv' := [(4, .null), (3, .ref (ad (b1))), (0, .ref (ad (0))), (1, .int (nI (k1))), (2, .int (xb))]) hx hb dX5_odds_11 hl (by decide) rfl (fun ls hl => ?_)
  refine lv_aload_n hx hb dX5_odds_13 rfl (lv_at hl 2 rfl) ?_
  refine xw_get hx hb hts hin5 hown hK hP (by decide) fo_0 rfl 3 (by decide) hf30 rfl rfl dX5_odds_14 ?_
  refine va_callv (va_runV (As := []) (rest := []) ⟨hx, hb, hml, hown, hts⟩ (mX2_clear l hD fo4 fa5 fa6 fa7) (cwV 0 hts gX5_odds_X2_clear rfl rfl rfl (by decide +kernel) ⟨Nat.le_of_ble_eq_true rfl, Nat.le_of_ble_eq_true rfl⟩) ⟨xB_blind, va_recv hK hP (ci := 2) rfl (xw_is (by decide) fo4), fun U hU hW => ⟨rfl, by rw [hU]; exact hP, va_K.moved hW.alike hK, va_Nw.warmM hW hN⟩⟩ rfl rfl hl.1 rfl (lv_room (Nat.le_of_ble_eq_true rfl)) dX5_odds_17 ⟨Nat.le_of_ble_eq_true rfl, Nat.le_of_ble_eq_true rfl⟩) hS (fun _ _ h => h) (fun _ h => h) (fun g3 tZ H locs ht hvm hwg3 hB hzZ hkZ hS => ?_)
  obtain ⟨hP, -⟩ := hB
  rw [ht] at hP
  obtain ⟨f5c, f6c, f7c, h5c, h6c, h7c, fg3_n0, fg3_n1, fg3_n2, fg3_n3, hcg3⟩ := hwg3
  have fg3_k0 : g3 (0) = .inr (5, [.ref (ad (1)), .ref (ad (3)), .ref (ad (57)), .ref (ad (4)), .ref (ad (8)), .ref (ad (15)), .long (tp), .long (bt)]) := (hcg3 (0) (by decide) (by decide) (by decide) (by decide)).trans fo_0
  have fg3_k1 : g3 (1) = .inr (0, [.ref (ad (2)), .int (nI (q)), .int (nI (Wt))]) := (hcg3 (1) (by decide) (by decide) (by decide) (by decide)).trans fo_1
  have fg3_k2 : g3 (2) = .inl (cI, 4, .inl (f2)) := (hcg3 (2) (by decide) (by decide) (by decide) (by decide)).trans fa_2
  have fg3_k3 : g3 (15) = .inr (3, [.ref (ad (16)), .int (nI (T))]) := (hcg3 (15) (by decide) (by decide) (by decide) (by decide)).trans fo15
  have fg3_k4 : g3 (16) = .inl (cI, 300, .inl (f16)) := (hcg3 (16) (by decide) (by decide) (by decide) (by decide)).trans fa16
  have fg3_k5 : g3 (3) = .inl (cW, 8, .inr (.inr (.inr (.inr (f3))))) := (hcg3 (3) (by decide) (by decide) (by decide) (by decide)).trans fa_3
  have fg3_k6 : g3 (b1) = .inr (4, [.ref (ad (b1 + 1)), .ref (ad (b1 + 2)), .ref (ad (b1 + 3)), .ref (ad (b1 + 4)), .int (nI (n1)), .int (nI (px q u1 n1)), .long (lZ ((ol1 : Int)))]) := (hcg3 (b1) (by omega) (by omega) (by omega) (by omega)).trans fo1
  have fg3_k7 : g3 (b1 + 1) = .inl (cI, 5, .inl (fl1)) := (hcg3 (b1 + 1) (by omega) (by omega) (by omega) (by omega)).trans fal1
  have fg3_k8 : g3 (b1 + 2) = .inl (cI, 6, .inl (fh1)) := (hcg3 (b1 + 2) (by omega) (by omega) (by omega) (by omega)).trans fah1
  have fg3_k9 : g3 (b1 + 3) = .inl (cI, 6, .inl (ft1)) := (hcg3 (b1 + 3) (by omega) (by omega) (by omega) (by omega)).trans fat1
  have fg3_k10 : g3 (b1 + 4) = .inl (cJ, 6, .inr (.inl (fs1))) := (hcg3 (b1 + 4) (by omega) (by omega) (by omega) (by omega)).trans fas1
  have hfrg3 : ∀ j : Nat, j ≠ 0 → j ≠ 4 → j ≠ 5 → j ≠ 6 → j ≠ 7 → g3 j = g j := fun j h0 h1 h2 h3 h4 => (hcg3 j h1 h2 h3 h4).trans ((fun _ _ _ _ _ _ => rfl) j h0 h1 h2 h3 h4)
  refine lv_aload_n hx hb dX5_odds_20 rfl (lv_at hl 1 rfl) ?_
  refine lv_ifnull hx hb dX5_odds_21 ?_
  refine lv_aloadN hx hb dX5_odds_24 (lv_at hl 0 rfl) ?_
  refine lv_ifnullN (tgt := 52) hx hb dX5_odds_26 (by decide) ?_
  refine lv_iconst (v := nI (0)) hx hb dX5_odds_52 (by decide) ?_
  exact W.zret (v := nI (0)) hx hb hr (by decide) (fun tZ ht hW => ⟨⟨_, g3, rfl, (by have hO : oOdds Wt w ln u (nI k1) xb = none := (by exact slotW_2n hxb); show _ = (if (oOdds Wt w ln u (nI k1) xb).isSome then 1 else 0) ∧ _; rw [hO]; exact ⟨rfl, hC.race fg3_k0 ⟨_, _, _, _, fg3_n0, fg3_n1, fg3_n2, fg3_n3⟩ hfrg3, (fun j hj => hfrg3 j (by omega) (by omega) (by omega) (by omega) (by omega))⟩), by rw [ht]; exact hP, va_K.moved hW.alike hK, va_Nw.warmM hW hN⟩, hS.F ht⟩) hS.2.2 dX5_odds_53

set_option maxHeartbeats 4000000 in
set_option maxRecDepth 100000 in
theorem mX5_odds_ns (l : Launch) {D : va_G} {cI cJ cZ cW : ClassId} {ad : Nat → Nat} {A : Nat → Prop} (hD : ∀ g, va_D A (xw 81 ad g)) {g : Nat → va_E} {q Wt : Nat} {w : Nat → Nat} {ln : Nat → Nat} {u : Nat → Nat → Nat} {T : Nat} {t : Nat → Nat} {tp bt : Int64} {xa : Int32} {k2 b2 n2 ol2 : Nat} {u2 sf2 : Nat → Nat}  (hC : ClsI cI cJ cZ cW ad g q Wt w ln u T t tp bt) (hs : SrcI q Wt w ln u T t) (hxa : noW ln xa) (hk2 : k2 < 8) (eb2 : 17 + 5 * k2 = b2) (en2 : ln k2 = n2) (eu2 : u k2 = u2) (es2 : shr Wt w u2 n2 = sf2) (eo2 : ownL Wt w u2 n2 = ol2) (hp2 : 0 < n2) (hNZ : edgNZ Wt w ln u) : Met l yX5_odds wsX5_odds ({ frames := 3, cells := 0, slots := 0, locals := 71 }) (va_Pc [.ref (ad (0)), .int (xa), .int (nI (k2))] (xB D (xT cI cJ cZ cW) ad g)) (va_Qi (fun r g2 => r = (if (oOdds Wt w ln u (xa) (nI (k2))).isSome then 1 else 0) ∧ ClsI cI cJ cZ cW ad g2 q Wt w ln u T t (hTp (oOdds Wt w ln u (xa) (nI (k2))) tp) (hBt (oOdds Wt w ln u (xa) (nI (k2))) bt) ∧ ∀ j : Nat, 62 ≤ j → g2 j = g j) (xB D (xT cI cJ cZ cW) ad) A) 0 0 A := by
  refine Met.ofW (cc := cX5_odds) (maxL := 5) (ret := (some .boolean)) (by decide) rfl ?_
  intro p e s m args below meth c s₁ B hml hv
  obtain ⟨rfl, hP, hK, hN⟩ := hv
  have hx := B.exec
  have hb := B.bytes
  have hr := B.returns
  have hts := atoms_spec (ws := wsX5_odds) B.pre
  have hown : s.vm.findClass RX5 = some m.cls := findClass_of_methodNamed B.named
  have hlocks := B.notSynchronized
  have hS : va_S A s.heap s.heap [] := va_S.rf
  have hin5 : ∀ w ∈ wsX50, w ∈ wsX5_odds := by decide +kernel
  have hf30 := hts (.fieldLink RX5 30 "LettersByLot" "race" "LLettersByLot$Race;") (by decide +kernel)
  have hl := lv_entry ([.ref (ad (0)), .int (xa), .int (nI (k2))]) (n := 5) (Nat.le_of_ble_eq_true rfl)
  rw [lg_entry_eq]
  generalize (lg_sl ([.ref (ad (0)), .int (xa), .int (nI (k2))]) ++ List.replicate (5 - (lg_sl ([.ref (ad (0)), .int (xa), .int (nI (k2))])).length) Slot.unset).toArray = ls at hl ⊢
  have hl : lv_has ls 5 [(0, .ref (ad (0))), (1, .int (xa)), (2, .int (nI (k2)))] := hl
  obtain ⟨hq2, hq4, hw1, hw0, hWs, hWt, hw, hln, hul, hT, ht⟩ := hs
  obtain ⟨fo_0, ⟨f2, fo_1, fa_2, h2⟩, ⟨f3, fa_3, h3⟩, hRace, hMach, ⟨f16, fo15, fa16, h16⟩, hwd, hcand⟩ := id hC
  have hWp : 1 ≤ Wt ∧ Wt ≤ 4 := by have h8 := hw1 0 (by omega); have h9 := wsum_mono (w := w) (show 1 ≤ q by omega); have h7 : wsum w 1 = 0 + w 0 := rfl; omega
  obtain ⟨f5r, f6r, f7r, szr, fo4, fa5, fa6, fa7⟩ := hRace
  obtain ⟨fl2, fh2, ft2, fs2, fo2, fal2, fah2, fat2, fas2, hfl2, hfh2, hft2, hfs2⟩ := cw_pos hwd hk2 eb2 en2 eu2 es2 eo2 hp2
  have hb2 : b2 + 4 < 81 := by omega
  have hn2 : n2 ≤ 5 := en2 ▸ hln k2
  have hu2 : ∀ j, j < n2 → u2 j < q := fun j hj => by rw [← eu2]; exact hul k2 j (by rw [en2]; exact hj)
  have hwu2 : ∀ j, j < n2 → w (u2 j) ≤ 4 := fun j hj => hw _ (Nat.lt_of_lt_of_le (hu2 j hj) hq4)
  have hsf2 : ∀ k, k ≤ n2 → sf2 k ≤ 1024 := fun k hk => es2 ▸ shr_le hWt hwu2 hn2 hk
  have hs02 : 1 ≤ sf2 0 := es2 ▸ shr_0 (fun j hj => hw1 _ (hu2 j hj))
  have hol2 : ol2 ≤ 5120 := by rw [← eo2]; show lapS (shr Wt w u2 n2) u2 n2 u2 n2 5 ≤ 5120; rw [es2]; exact lapS_le hsf2 5
  have hb172 : 17 ≤ b2 := by omega
  refine lv_aload_n hx hb dX5_odds_0 rfl (lv_at hl 0 rfl) ?_
  refine lv_iload_n hx hb dX5_odds_1 rfl (lv_at hl 1 rfl) ?_
  refine va_csq (va_Run.run (va_runV (As := [.int (xa)]) (rest := []) ⟨hx, hb, hml, hown, hts⟩ (mX5_wordIn_no l fo_0 fa_3 h3 hwd hxa) (cwV 1 hts gX5_odds_X5_wordIn rfl rfl rfl (by decide +kernel) ⟨Nat.le_of_ble_eq_true rfl, Nat.le_of_ble_eq_true rfl⟩) ⟨xB_blind, va_recv hK hP (ci := 5) rfl (xw_is (by decide) fo_0), fun U hU hW => ⟨rfl, by rw [hU]; exact hP, va_K.moved hW.alike hK, va_Nw.warmM hW hN⟩⟩ rfl rfl hl.1 rfl (lv_room (Nat.le_of_ble_eq_true rfl)) dX5_odds_2 ⟨Nat.le_of_ble_eq_true rfl, Nat.le_of_ble_eq_true rfl⟩)) (fun r1 er1 => ?_)
  subst er1
  refine W.eq (g2 := F0 m 5 ls (.null :: [])) rfl ?_
  refine lv_astore_nN (lv' := [(3, .null), (0, .ref (ad (0))), (1, .int (xa)), (2, .int (nI (k2)))]) hx hb dX5_odds_5 rfl hl (by decide) rfl (fun ls hl => ?_)
  refine lv_aload_n hx hb dX5_odds_6 rfl (lv_at hl 1 rfl) ?_
  refine lv_iload_n hx hb dX5_odds_7 rfl (lv_at hl 3 rfl) ?_
  refine va_csq (va_Run.run (va_runV (As := [.int (nI (k2))]) (rest := []) ⟨hx, hb, hml, hown, hts⟩ (mX5_wordIn_yes l fo_0 fa_3 fo2 h3 hk2 eb2 hp2 hn2) (cwV 1 hts gX5_odds_X5_wordIn rfl rfl rfl (by decide +kernel) ⟨Nat.le_of_ble_eq_true rfl, Nat.le_of_ble_eq_true rfl⟩) ⟨xB_blind, va_recv hK hP (ci := 5) rfl (xw_is (by decide) fo_0), fun U hU hW => ⟨rfl, by rw [hU]; exact hP, va_K.moved hW.alike hK, va_Nw.warmM hW hN⟩⟩ rfl rfl hl.1 rfl (lv_room (Nat.le_of_ble_eq_true rfl)) dX5_odds_8 ⟨Nat.le_of_ble_eq_true rfl, Nat.le_of_ble_eq_true rfl⟩)) (fun r2 er2 => ?_)
  subst er2
  refine W.eq (g2 := F0 m 11 ls (.ref (ad (b2)) :: [])) rfl ?_
  refine lv_astore (lv' := [(4, .ref (ad (b2))), (3, .null), (0, .ref (ad (0))), (1, .int (xa)), (2, .int (nI (k2)))]) hx hb dX5_odds_11 hl (by decide) rfl (fun ls hl => ?_)
  refine lv_aload_n hx hb dX5_odds_13 rfl (lv_at hl 2 rfl) ?_
  refine xw_get hx hb hts hin5 hown hK hP (by decide) fo_0 rfl 3 (by decide) hf30 rfl rfl dX5_odds_14 ?_
  refine va_callv (va_runV (As := []) (rest := []) ⟨hx, hb, hml, hown, hts⟩ (mX2_clear l hD fo4 fa5 fa6 fa7) (cwV 0 hts gX5_odds_X2_clear rfl rfl rfl (by decide +kernel) ⟨Nat.le_of_ble_eq_true rfl, Nat.le_of_ble_eq_true rfl⟩) ⟨xB_blind, va_recv hK hP (ci := 2) rfl (xw_is (by decide) fo4), fun U hU hW => ⟨rfl, by rw [hU]; exact hP, va_K.moved hW.alike hK, va_Nw.warmM hW hN⟩⟩ rfl rfl hl.1 rfl (lv_room (Nat.le_of_ble_eq_true rfl)) dX5_odds_17 ⟨Nat.le_of_ble_eq_true rfl, Nat.le_of_ble_eq_true rfl⟩) hS (fun _ _ h => h) (fun _ h => h) (fun g3 tZ H locs ht hvm hwg3 hB hzZ hkZ hS => ?_)
  obtain ⟨hP, -⟩ := hB
  rw [ht] at hP
  obtain ⟨f5c, f6c, f7c, h5c, h6c, h7c, fg3_n0, fg3_n1, fg3_n2, fg3_n3, hcg3⟩ := hwg3
  have fg3_k0 : g3 (0) = .inr (5, [.ref (ad (1)), .ref (ad (3)), .ref (ad (57)), .ref (ad (4)), .ref (ad (8)), .ref (ad (15)), .long (tp), .long (bt)]) := (hcg3 (0) (by decide) (by decide) (by decide) (by decide)).trans fo_0
  have fg3_k1 : g3 (1) = .inr (0, [.ref (ad (2)), .int (nI (q)), .int (nI (Wt))]) := (hcg3 (1) (by decide) (by decide) (by decide) (by decide)).trans fo_1
  have fg3_k2 : g3 (2) = .inl (cI, 4, .inl (f2)) := (hcg3 (2) (by decide) (by decide) (by decide) (by decide)).trans fa_2
  have fg3_k3 : g3 (15) = .inr (3, [.ref (ad (16)), .int (nI (T))]) := (hcg3 (15) (by decide) (by decide) (by decide) (by decide)).trans fo15
  have fg3_k4 : g3 (16) = .inl (cI, 300, .inl (f16)) := (hcg3 (16) (by decide) (by decide) (by decide) (by decide)).trans fa16
  have fg3_k5 : g3 (3) = .inl (cW, 8, .inr (.inr (.inr (.inr (f3))))) := (hcg3 (3) (by decide) (by decide) (by decide) (by decide)).trans fa_3
  have fg3_k6 : g3 (b2) = .inr (4, [.ref (ad (b2 + 1)), .ref (ad (b2 + 2)), .ref (ad (b2 + 3)), .ref (ad (b2 + 4)), .int (nI (n2)), .int (nI (px q u2 n2)), .long (lZ ((ol2 : Int)))]) := (hcg3 (b2) (by omega) (by omega) (by omega) (by omega)).trans fo2
  have fg3_k7 : g3 (b2 + 1) = .inl (cI, 5, .inl (fl2)) := (hcg3 (b2 + 1) (by omega) (by omega) (by omega) (by omega)).trans fal2
  have fg3_k8 : g3 (b2 + 2) = .inl (cI, 6, .inl (fh2)) := (hcg3 (b2 + 2) (by omega) (by omega) (by omega) (by omega)).trans fah2
  have fg3_k9 : g3 (b2 + 3) = .inl (cI, 6, .inl (ft2)) := (hcg3 (b2 + 3) (by omega) (by omega) (by omega) (by omega)).trans fat2
  have fg3_k10 : g3 (b2 + 4) = .inl (cJ, 6, .inr (.inl (fs2))) := (hcg3 (b2 + 4) (by omega) (by omega) (by omega) (by omega)).trans fas2
  have hfrg3 : ∀ j : Nat, j ≠ 0 → j ≠ 4 → j ≠ 5 → j ≠ 6 → j ≠ 7 → g3 j = g j := fun j h0 h1 h2 h3 h4 => (hcg3 j h1 h2 h3 h4).trans ((fun _ _ _ _ _ _ => rfl) j h0 h1 h2 h3 h4)
  refine lv_aload_nN hx hb dX5_odds_20 rfl (lv_at hl 1 rfl) ?_
  refine lv_ifnullN (tgt := 52) hx hb dX5_odds_21 (by decide) ?_
  refine lv_iconst (v := nI (0)) hx hb dX5_odds_52 (by decide) ?_
  exact W.zret (v := nI (0)) hx hb hr (by decide) (fun tZ ht hW => ⟨⟨_, g3, rfl, (by have hO : oOdds Wt w ln u xa (nI k2) = none := (by unfold oOdds; rw [slotW_no hxa]); show _ = (if (oOdds Wt w ln u xa (nI k2)).isSome then 1 else 0) ∧ _; rw [hO]; exact ⟨rfl, hC.race fg3_k0 ⟨_, _, _, _, fg3_n0, fg3_n1, fg3_n2, fg3_n3⟩ hfrg3, (fun j hj => hfrg3 j (by omega) (by omega) (by omega) (by omega) (by omega))⟩), by rw [ht]; exact hP, va_K.moved hW.alike hK, va_Nw.warmM hW hN⟩, hS.F ht⟩) hS.2.2 dX5_odds_53

set_option maxHeartbeats 4000000 in
set_option maxRecDepth 100000 in
theorem mX5_odds_nn (l : Launch) {D : va_G} {cI cJ cZ cW : ClassId} {ad : Nat → Nat} {A : Nat → Prop} (hD : ∀ g, va_D A (xw 81 ad g)) {g : Nat → va_E} {q Wt : Nat} {w : Nat → Nat} {ln : Nat → Nat} {u : Nat → Nat → Nat} {T : Nat} {t : Nat → Nat} {tp bt : Int64} {xa : Int32} {xb : Int32}  (hC : ClsI cI cJ cZ cW ad g q Wt w ln u T t tp bt) (hs : SrcI q Wt w ln u T t) (hxa : noW ln xa) (hxb : noW ln xb) (hNZ : edgNZ Wt w ln u) : Met l yX5_odds wsX5_odds ({ frames := 3, cells := 0, slots := 0, locals := 71 }) (va_Pc [.ref (ad (0)), .int (xa), .int (xb)] (xB D (xT cI cJ cZ cW) ad g)) (va_Qi (fun r g2 => r = (if (oOdds Wt w ln u (xa) (xb)).isSome then 1 else 0) ∧ ClsI cI cJ cZ cW ad g2 q Wt w ln u T t (hTp (oOdds Wt w ln u (xa) (xb)) tp) (hBt (oOdds Wt w ln u (xa) (xb)) bt) ∧ ∀ j : Nat, 62 ≤ j → g2 j = g j) (xB D (xT cI cJ cZ cW) ad) A) 0 0 A := by
  refine Met.ofW (cc := cX5_odds) (maxL := 5) (ret := (some .boolean)) (by decide) rfl ?_
  intro p e s m args below meth c s₁ B hml hv
  obtain ⟨rfl, hP, hK, hN⟩ := hv
  have hx := B.exec
  have hb := B.bytes
  have hr := B.returns
  have hts := atoms_spec (ws := wsX5_odds) B.pre
  have hown : s.vm.findClass RX5 = some m.cls := findClass_of_methodNamed B.named
  have hlocks := B.notSynchronized
  have hS : va_S A s.heap s.heap [] := va_S.rf
  have hin5 : ∀ w ∈ wsX50, w ∈ wsX5_odds := by decide +kernel
  have hf30 := hts (.fieldLink RX5 30 "LettersByLot" "race" "LLettersByLot$Race;") (by decide +kernel)
  have hl := lv_entry ([.ref (ad (0)), .int (xa), .int (xb)]) (n := 5) (Nat.le_of_ble_eq_true rfl)
  rw [lg_entry_eq]
  generalize (lg_sl ([.ref (ad (0)), .int (xa), .int (xb)]) ++ List.replicate (5 - (lg_sl ([.ref (ad (0)), .int (xa), .int (xb)])).length) Slot.unset).toArray = ls at hl ⊢
  have hl : lv_has ls 5 [(0, .ref (ad (0))), (1, .int (xa)), (2, .int (xb))] := hl
  obtain ⟨hq2, hq4, hw1, hw0, hWs, hWt, hw, hln, hul, hT, ht⟩ := hs
  obtain ⟨fo_0, ⟨f2, fo_1, fa_2, h2⟩, ⟨f3, fa_3, h3⟩, hRace, hMach, ⟨f16, fo15, fa16, h16⟩, hwd, hcand⟩ := id hC
  have hWp : 1 ≤ Wt ∧ Wt ≤ 4 := by have h8 := hw1 0 (by omega); have h9 := wsum_mono (w := w) (show 1 ≤ q by omega); have h7 : wsum w 1 = 0 + w 0 := rfl; omega
  obtain ⟨f5r, f6r, f7r, szr, fo4, fa5, fa6, fa7⟩ := hRace
  refine lv_aload_n hx hb dX5_odds_0 rfl (lv_at hl 0 rfl) ?_
  refine lv_iload_n hx hb dX5_odds_1 rfl (lv_at hl 1 rfl) ?_
  refine va_csq (va_Run.run (va_runV (As := [.int (xa)]) (rest := []) ⟨hx, hb, hml, hown, hts⟩ (mX5_wordIn_no l fo_0 fa_3 h3 hwd hxa) (cwV 1 hts gX5_odds_X5_wordIn rfl rfl rfl (by decide +kernel) ⟨Nat.le_of_ble_eq_true rfl, Nat.le_of_ble_eq_true rfl⟩) ⟨xB_blind, va_recv hK hP (ci := 5) rfl (xw_is (by decide) fo_0), fun U hU hW => ⟨rfl, by rw [hU]; exact hP, va_K.moved hW.alike hK, va_Nw.warmM hW hN⟩⟩ rfl rfl hl.1 rfl (lv_room (Nat.le_of_ble_eq_true rfl)) dX5_odds_2 ⟨Nat.le_of_ble_eq_true rfl, Nat.le_of_ble_eq_true rfl⟩)) (fun r1 er1 => ?_)
  subst er1
  refine W.eq (g2 := F0 m 5 ls (.null :: [])) rfl ?_
  refine lv_astore_nN (lv' := [(3, .null), (0, .ref (ad (0))), (1, .int (xa)), (2, .int (xb))]) hx hb dX5_odds_5 rfl hl (by decide) rfl (fun ls hl => ?_)
  refine lv_aload_n hx hb dX5_odds_6 rfl (lv_at hl 1 rfl) ?_
  refine lv_iload_n hx hb dX5_odds_7 rfl (lv_at hl 3 rfl) ?_
  refine va_csq (va_Run.run (va_runV (As := [.int (xb)]) (rest := []) ⟨hx, hb, hml, hown, hts⟩ (mX5_wordIn_no l fo_0 fa_3 h3 hwd hxb) (cwV 1 hts gX5_odds_X5_wordIn rfl rfl rfl (by decide +kernel) ⟨Nat.le_of_ble_eq_true rfl, Nat.le_of_ble_eq_true rfl⟩) ⟨xB_blind, va_recv hK hP (ci := 5) rfl (xw_is (by decide) fo_0), fun U hU hW => ⟨rfl, by rw [hU]; exact hP, va_K.moved hW.alike hK, va_Nw.warmM hW hN⟩⟩ rfl rfl hl.1 rfl (lv_room (Nat.le_of_ble_eq_true rfl)) dX5_odds_8 ⟨Nat.le_of_ble_eq_true rfl, Nat.le_of_ble_eq_true rfl⟩)) (fun r2 er2 => ?_)
  subst er2
  refine W.eq (g2 := F0 m 11 ls (.null :: [])) rfl ?_
  refine lv_astoreN (lv' := [(4, .null), (3, .null), (0, .ref (ad (0))), (1, .int (xa)), (2, .int (xb))]) hx hb dX5_odds_11 hl (by decide) rfl (fun ls hl => ?_)
  refine lv_aload_n hx hb dX5_odds_13 rfl (lv_at hl 2 rfl) ?_
  refine xw_get hx hb hts hin5 hown hK hP (by decide) fo_0 rfl 3 (by decide) hf30 rfl rfl dX5_odds_14 ?_
  refine va_callv (va_runV (As := []) (rest := []) ⟨hx, hb, hml, hown, hts⟩ (mX2_clear l hD fo4 fa5 fa6 fa7) (cwV 0 hts gX5_odds_X2_clear rfl rfl rfl (by decide +kernel) ⟨Nat.le_of_ble_eq_true rfl, Nat.le_of_ble_eq_true rfl⟩) ⟨xB_blind, va_recv hK hP (ci := 2) rfl (xw_is (by decide) fo4), fun U hU hW => ⟨rfl, by rw [hU]; exact hP, va_K.moved hW.alike hK, va_Nw.warmM hW hN⟩⟩ rfl rfl hl.1 rfl (lv_room (Nat.le_of_ble_eq_true rfl)) dX5_odds_17 ⟨Nat.le_of_ble_eq_true rfl, Nat.le_of_ble_eq_true rfl⟩) hS (fun _ _ h => h) (fun _ h => h) (fun g3 tZ H locs ht hvm hwg3 hB hzZ hkZ hS => ?_)
  obtain ⟨hP, -⟩ := hB
  rw [ht] at hP
  obtain ⟨f5c, f6c, f7c, h5c, h6c, h7c, fg3_n0, fg3_n1, fg3_n2, fg3_n3, hcg3⟩ := hwg3
  have fg3_k0 : g3 (0) = .inr (5, [.ref (ad (1)), .ref (ad (3)), .ref (ad (57)), .ref (ad (4)), .ref (ad (8)), .ref (ad (15)), .long (tp), .long (bt)]) := (hcg3 (0) (by decide) (by decide) (by decide) (by decide)).trans fo_0
  have fg3_k1 : g3 (1) = .inr (0, [.ref (ad (2)), .int (nI (q)), .int (nI (Wt))]) := (hcg3 (1) (by decide) (by decide) (by decide) (by decide)).trans fo_1
  have fg3_k2 : g3 (2) = .inl (cI, 4, .inl (f2)) := (hcg3 (2) (by decide) (by decide) (by decide) (by decide)).trans fa_2
  have fg3_k3 : g3 (15) = .inr (3, [.ref (ad (16)), .int (nI (T))]) := (hcg3 (15) (by decide) (by decide) (by decide) (by decide)).trans fo15
  have fg3_k4 : g3 (16) = .inl (cI, 300, .inl (f16)) := (hcg3 (16) (by decide) (by decide) (by decide) (by decide)).trans fa16
  have fg3_k5 : g3 (3) = .inl (cW, 8, .inr (.inr (.inr (.inr (f3))))) := (hcg3 (3) (by decide) (by decide) (by decide) (by decide)).trans fa_3
  have hfrg3 : ∀ j : Nat, j ≠ 0 → j ≠ 4 → j ≠ 5 → j ≠ 6 → j ≠ 7 → g3 j = g j := fun j h0 h1 h2 h3 h4 => (hcg3 j h1 h2 h3 h4).trans ((fun _ _ _ _ _ _ => rfl) j h0 h1 h2 h3 h4)
  refine lv_aload_nN hx hb dX5_odds_20 rfl (lv_at hl 1 rfl) ?_
  refine lv_ifnullN (tgt := 52) hx hb dX5_odds_21 (by decide) ?_
  refine lv_iconst (v := nI (0)) hx hb dX5_odds_52 (by decide) ?_
  exact W.zret (v := nI (0)) hx hb hr (by decide) (fun tZ ht hW => ⟨⟨_, g3, rfl, (by have hO : oOdds Wt w ln u xa xb = none := (by exact slotW_2n hxb); show _ = (if (oOdds Wt w ln u xa xb).isSome then 1 else 0) ∧ _; rw [hO]; exact ⟨rfl, hC.race fg3_k0 ⟨_, _, _, _, fg3_n0, fg3_n1, fg3_n2, fg3_n3⟩ hfrg3, (fun j hj => hfrg3 j (by omega) (by omega) (by omega) (by omega) (by omega))⟩), by rw [ht]; exact hP, va_K.moved hW.alike hK, va_Nw.warmM hW hN⟩, hS.F ht⟩) hS.2.2 dX5_odds_53

theorem mX5_odds (l : Launch) {D : va_G} {cI cJ cZ cW : ClassId} {ad : Nat → Nat} {A : Nat → Prop} (hD : ∀ g, va_D A (xw 81 ad g)) {g : Nat → va_E} {q Wt : Nat} {w : Nat → Nat} {ln : Nat → Nat} {u : Nat → Nat → Nat} {T : Nat} {t : Nat → Nat} {tp bt : Int64} (hC : ClsI cI cJ cZ cW ad g q Wt w ln u T t tp bt) (hs : SrcI q Wt w ln u T t) (hNZ : edgNZ Wt w ln u) (xa xb : Int32) : Met l yX5_odds wsX5_odds ({ frames := 3, cells := 0, slots := 0, locals := 71 }) (va_Pc [.ref (ad (0)), .int xa, .int xb] (xB D (xT cI cJ cZ cW) ad g)) (va_Qi (fun r g2 => r = (if (oOdds Wt w ln u (xa) (xb)).isSome then 1 else 0) ∧ ClsI cI cJ cZ cW ad g2 q Wt w ln u T t (hTp (oOdds Wt w ln u (xa) (xb)) tp) (hBt (oOdds Wt w ln u (xa) (xb)) bt) ∧ ∀ j : Nat, 62 ≤ j → g2 j = g j) (xB D (xT cI cJ cZ cW) ad) A) 0 0 A := by
  rcases slotW_cases ln xa with hxa | ⟨k1, hk1, rfl, hp1⟩
  · rcases slotW_cases ln xb with hxb | ⟨k2, hk2, rfl, hp2⟩
    · exact mX5_odds_nn l hD hC hs hxa hxb hNZ
    · exact mX5_odds_ns l hD hC hs hxa hk2 rfl rfl rfl rfl rfl hp2 hNZ
  · rcases slotW_cases ln xb with hxb | ⟨k2, hk2, rfl, hp2⟩
    · exact mX5_odds_sn l hD hC hs hk1 rfl rfl rfl rfl rfl hp1 hxb hNZ
    · exact mX5_odds_ss l hD hC hs hk1 rfl rfl rfl rfl rfl hp1 hk2 rfl rfl rfl rfl rfl hp2 hNZ
