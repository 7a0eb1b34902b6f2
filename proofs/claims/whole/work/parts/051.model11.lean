theorem bt_pow : ∀ k, k < 8 → ∀ s, s < 8 → btL (2 ^ k) s → s = k := by decide +kernel
theorem cn_pow : ∀ k, k < 8 → cntS (fun s => decide (btL (2 ^ k) s)) 8 = 1 := by decide +kernel
theorem pw_lt : ∀ k, k < 8 → 2 ^ k < 256 := by decide +kernel
/-- what is asked for the second moment, of the letters below c -/
def r2S (Wt : Nat) (w gof : Nat → Nat) (e : Nat → Rat) (i : Nat) : Nat → Rat
  | 0 => Rat.divInt ((Wt : Nat) : Int) 1
  | c + 1 => if gof (4 * i + c) < 100 then r2S Wt w gof e i c + Rat.divInt (2 * ((w c : Nat) : Int)) 1 * e (gof (4 * i + c)) else r2S Wt w gof e i c
theorem r2S_y {Wt : Nat} {w gof : Nat → Nat} {e : Nat → Rat} {i c : Nat} (h : gof (4 * i + c) < 100) : r2S Wt w gof e i c + Rat.divInt (2 * ((w c : Nat) : Int)) 1 * e (gof (4 * i + c)) = r2S Wt w gof e i (c + 1) := (if_pos h).symm
theorem r2S_n {Wt : Nat} {w gof : Nat → Nat} {e : Nat → Rat} {i c : Nat} (h : ¬ gof (4 * i + c) < 100) : r2S Wt w gof e i (c + 1) = r2S Wt w gof e i c := if_neg h
/-- the mean waits from the states -/
def eM (Wt : Nat) (w gof : Nat → Nat) (q ns : Nat) : Nat → Rat := fun i => gj (mkA Wt w gof q ns (fun _ => Rat.divInt ((Wt : Nat) : Int) 1)) ns i ns
def sM (Wt : Nat) (w gof : Nat → Nat) (q ns : Nat) : Nat → Rat := fun i => gj (mkA Wt w gof q ns (fun i => r2S Wt w gof (eM Wt w gof q ns) i q)) ns i ns
def w2Fit (Wt : Nat) (w gof : Nat → Nat) (q ns : Nat) : Prop := (∀ i c, i < ns → c < q → gof (4 * i + c) < ns → fitR (Rat.divInt (2 * ((w c : Nat) : Int)) 1 * eM Wt w gof q ns (gof (4 * i + c))) ∧ fitA (r2S Wt w gof (eM Wt w gof q ns) i c) (Rat.divInt (2 * ((w c : Nat) : Int)) 1 * eM Wt w gof q ns (gof (4 * i + c)))) ∧ (∀ i c, i < ns → c ≤ q → fitR (r2S Wt w gof (eM Wt w gof q ns) i c)) ∧ gjFit (mkA Wt w gof q ns (fun i => r2S Wt w gof (eM Wt w gof q ns) i q)) ns ∧ fitR (-(eM Wt w gof q ns 0) * eM Wt w gof q ns 0) ∧ fitA (sM Wt w gof q ns 0) (-(eM Wt w gof q ns 0) * eM Wt w gof q ns 0) ∧ fitR (sM Wt w gof q ns 0 + -(eM Wt w gof q ns 0) * eM Wt w gof q ns 0)
/-- what the model's way to a wait needs, and what it gives -/
def waOK (q Wt : Nat) (w : Nat → Nat) (ln : Nat → Nat) (u : Nat → Nat → Nat) : Prop := ∀ k ns sl sz gof, k < 8 → 0 < ln k → ChI q ln u (2 ^ k) ns sl sz gof → gjFit (mkA Wt w gof q ns (fun _ => Rat.divInt ((Wt : Nat) : Int) 1)) ns ∧ eM Wt w gof q ns 0 = fMean Wt w (u k) (ln k) ∧ w2Fit Wt w gof q ns ∧ sM Wt w gof q ns 0 + -(eM Wt w gof q ns 0) * eM Wt w gof q ns 0 = fSpread Wt w (u k) (ln k)
theorem fitR_i {a : Int} (h : -(2 ^ 63 : Int) < a ∧ a < 2 ^ 63) : fitR (Rat.divInt a 1) := fitR_d (D := 1) (by decide) (by decide) h.1 h.2
theorem divInt_1n {a : Int} : (Rat.divInt a 1).num = a ∧ (Rat.divInt a 1).den = 1 := by
  have e : Rat.divInt a 1 = (a : Rat) := by rw [Rat.divInt_eq_div]; show (a : Rat) / 1 = _; grind
  rw [e]
  exact ⟨rfl, rfl⟩
set_option maxHeartbeats 4000000 in
set_option maxRecDepth 100000 in
theorem mX6_wait0_s (l : Launch) {D : va_G} {cI cJ cZ cW : ClassId} {ad : Nat → Nat} {A : Nat → Prop} (hD : ∀ g, va_D A (xw 81 ad g)) {g : Nat → va_E} {q Wt : Nat} {w : Nat → Nat} {ln : Nat → Nat} {u : Nat → Nat → Nat} {T : Nat} {t : Nat → Nat} {tp bt : Int64} {k1 : Nat}  (hM : ModI cI cJ ad g q Wt w ln u T t tp bt) (hs : SrcI q Wt w ln u T t) (hk1 : k1 < 8) (hp1 : 0 < ln k1) (hWa : waOK q Wt w ln u) : Met l yX6_wait wsX6_wait ({ frames := 6, cells := 0, slots := 0, locals := 162 }) (va_Pc [.ref (ad (62)), .int (nI (k1)), .int (nI (0))] (xB D (xT cI cJ cZ cW) ad g)) (va_Qi (fun r g2 => r = (if (oWait Wt w ln u (nI (k1)) (nI 0)).isSome then 1 else 0) ∧ ModI cI cJ ad g2 q Wt w ln u T t (hTp (oWait Wt w ln u (nI (k1)) (nI 0)) tp) (hBt (oWait Wt w ln u (nI (k1)) (nI 0)) bt) ∧ ∀ j : Nat, j < 62 → g2 j = g j) (xB D (xT cI cJ cZ cW) ad) A) 0 0 A := by
  refine Met.ofW (cc := cX6_wait) (maxL := 10) (ret := (some .boolean)) (by decide) rfl ?_
  intro p e s m args below meth c s₁ B hml hv
  obtain ⟨rfl, hP, hK, hN⟩ := hv
  have hx := B.exec
  have hb := B.bytes
  have hr := B.returns
  have hts := atoms_spec (ws := wsX6_wait) B.pre
  have hown : s.vm.findClass RX6 = some m.cls := findClass_of_methodNamed B.named
  have hlocks := B.notSynchronized
  have hS : va_S A s.heap s.heap [] := va_S.rf
  have hin6 : ∀ w ∈ wsX60, w ∈ wsX6_wait := by decide +kernel
  have hf52 := hts (.fieldLink RX6 52 "LettersByLotModel" "rn" "[J") (by decide +kernel)
  have hf55 := hts (.fieldLink RX6 55 "LettersByLotModel" "rd" "[J") (by decide +kernel)
  have hl := lv_entry ([.ref (ad (62)), .int (nI (k1)), .int (nI (0))]) (n := 10) (Nat.le_of_ble_eq_true rfl)
  rw [lg_entry_eq]
  generalize (lg_sl ([.ref (ad (62)), .int (nI (k1)), .int (nI (0))]) ++ List.replicate (10 - (lg_sl ([.ref (ad (62)), .int (nI (k1)), .int (nI (0))])).length) Slot.unset).toArray = ls at hl ⊢
  have hl : lv_has ls 10 [(0, .ref (ad (62))), (1, .int (nI (k1))), (2, .int (nI (0)))] := hl
  obtain ⟨hq2, hq4, hw1, hw0, hWs, hWt, hw, hln, hul, hT, ht⟩ := hs
  obtain ⟨sq, nu, de, fw, fsz, fwd, ftx, fos, foz, fgo, frw, fan, fad, frn, frd, fen, fed, fcn, fcd, fnw, fth, fo62, fa63, fa64, fa65, fa66, fa67, fa68, fa69, fa70, fa71, fa72, fa73, fa74, fa75, fa76, fa77, fa78, fa79, fa80, hfw, hsz, hwl, htx⟩ := id hM
  have hWp : 1 ≤ Wt ∧ Wt ≤ 4 := by have h8 := hw1 0 (by omega); have h9 := wsum_mono (w := w) (show 1 ≤ q by omega); have h7 : wsum w 1 = 0 + w 0 := rfl; omega
  have hwA : ∀ k j, j < ln k → 1 ≤ w (u k j) := fun k j hj => hw1 _ (hul k j hj)
  have hwB : ∀ k j, j < ln k → w (u k j) ≤ 4 := fun k j hj => hw _ (Nat.lt_of_lt_of_le (hul k j hj) hq4)
  have hn1 := hln k1
  refine lv_aload_n hx hb dX6_wait_0 rfl (lv_at hl 0 rfl) ?_
  refine lv_iload_n hx hb dX6_wait_1 rfl (lv_at hl 1 rfl) ?_
  refine vp_callSi (va_Run.run (va_runV (As := [.int (nI (k1))]) (rest := []) ⟨hx, hb, hml, hown, hts⟩ (mX6_isWord_yes l (w := w) (ln := ln) (t := t) (u := u) fo62 fa64 hsz hk1 hp1 (hln _)) (cwV 1 hts gX6_wait_X6_isWord rfl rfl rfl (by decide +kernel) ⟨Nat.le_of_ble_eq_true rfl, Nat.le_of_ble_eq_true rfl⟩) ⟨xB_blind, va_recv hK hP (ci := 6) rfl (xw_is (by decide) fo62), fun U hU hW => ⟨rfl, by rw [hU]; exact hP, va_K.moved hW.alike hK, va_Nw.warmM hW hN⟩⟩ rfl rfl hl.1 rfl (lv_room (Nat.le_of_ble_eq_true rfl)) dX6_wait_2 ⟨Nat.le_of_ble_eq_true rfl, Nat.le_of_ble_eq_true rfl⟩)) (fun r1 er1 => ?_)
  subst er1
  refine xi_if_eq (tgt := 16) hx hb (by decide) dX6_wait_5 (by decide) (fun c0 => absurd c0 (by decide)) (fun _ => ?_)
  refine lv_iload_n hx hb dX6_wait_8 rfl (lv_at hl 2 rfl) ?_
  refine lv_iconst (v := nI (2)) hx hb dX6_wait_9 (by decide) ?_
  refine vp_callSi (va_Run.run (va_runS (As := [.int (nI (0)), .int (nI (2))]) (rest := []) ⟨hx, hb, hml, hown, hts⟩ (mX6_isIn_in l (by omega) (by omega)) (va_cwS 2 hts gX6_wait_X6_isIn rfl rfl rfl (by decide +kernel) ⟨Nat.le_of_ble_eq_true rfl, Nat.le_of_ble_eq_true rfl⟩) ⟨xB_blind, fun U hU hW => ⟨rfl, by rw [hU]; exact hP, va_K.moved hW.alike hK, va_Nw.warmM hW hN⟩⟩ rfl rfl hl.1 rfl (lv_room (Nat.le_of_ble_eq_true rfl)) dX6_wait_10 ⟨Nat.le_of_ble_eq_true rfl, Nat.le_of_ble_eq_true rfl⟩)) (fun r3 er3 => ?_)
  subst er3
  refine xi_if_ne (tgt := 18) hx hb (by decide) dX6_wait_13 (by decide) (fun _ => ?_) (fun c0 => absurd c0 (by decide))
  refine lv_aload_n hx hb dX6_wait_18 rfl (lv_at hl 0 rfl) ?_
  refine lv_iconst (v := nI (1)) hx hb dX6_wait_19 (by decide) ?_
  refine lv_iload_n hx hb dX6_wait_20 rfl (lv_at hl 1 rfl) ?_
  refine lv_ishl hx hb dX6_wait_21 ?_
  refine xtopi (y := nI (2 ^ k1)) (nI_shl1 (by omega)) ?_
  refine va_callv (va_runV (As := [.int (nI (2 ^ k1))]) (rest := []) ⟨hx, hb, hml, hown, hts⟩ (mX6_means l hD (w := w) (ln := ln) (t := t) (u := u) (li := 2 ^ k1) fo62 fa63 fa64 fa65 fa67 fa68 fa69 fa70 fa71 fa72 fa73 fa74 hfw hsz hwl hq2 hq4 hln hul hT ht hw1 hw hWt (pw_lt k1 hk1) (fun s h1 h2 => by rw [bt_pow k1 hk1 s h1 h2]; exact hp1) (by rw [cn_pow k1 hk1]; decide) (by rw [cn_pow k1 hk1]; decide) (fun ns sl sz gof h => (hWa k1 ns sl sz gof hk1 hp1 h).1)) (cwV 1 hts gX6_wait_X6_means rfl rfl rfl (by decide +kernel) ⟨Nat.le_of_ble_eq_true rfl, Nat.le_of_ble_eq_true rfl⟩) ⟨xB_blind, va_recv hK hP (ci := 6) rfl (xw_is (by decide) fo62), fun U hU hW => ⟨rfl, by rw [hU]; exact hP, va_K.moved hW.alike hK, va_Nw.warmM hW hN⟩⟩ rfl rfl hl.1 rfl (lv_room (Nat.le_of_ble_eq_true rfl)) dX6_wait_22 ⟨Nat.le_of_ble_eq_true rfl, Nat.le_of_ble_eq_true rfl⟩) hS (fun _ _ h => h) (fun _ h => h) (fun g6 tZ H locs ht hvm hwg6 hB hzZ hkZ hS => ?_)
  obtain ⟨hP, -⟩ := hB
  rw [ht] at hP
  obtain ⟨ns, sl, sz, gof, f7, f8, f9, f0, fA, fB, fC, fD, nx, dx, hCh, hgo, hSv, fg6_n0, fg6_n1, fg6_n2, fg6_n3, fg6_n4, fg6_n5, fg6_n6, fg6_n7, fg6_n8, hcg6⟩ := hwg6
  have fg6_k0 : g6 (63) = .inl (cI, 4, .inl (fw)) := (hcg6 (63) (by decide) (by decide) (by decide) (by decide) (by decide) (by decide) (by decide) (by decide) (by decide)).trans fa63
  have fg6_k1 : g6 (64) = .inl (cI, 8, .inl (fsz)) := (hcg6 (64) (by decide) (by decide) (by decide) (by decide) (by decide) (by decide) (by decide) (by decide) (by decide)).trans fa64
  have fg6_k2 : g6 (65) = .inl (cI, 40, .inl (fwd)) := (hcg6 (65) (by decide) (by decide) (by decide) (by decide) (by decide) (by decide) (by decide) (by decide) (by decide)).trans fa65
  have fg6_k3 : g6 (75) = .inl (cJ, 13, .inr (.inl (fen))) := (hcg6 (75) (by decide) (by decide) (by decide) (by decide) (by decide) (by decide) (by decide) (by decide) (by decide)).trans fa75
  have fg6_k4 : g6 (76) = .inl (cJ, 13, .inr (.inl (fed))) := (hcg6 (76) (by decide) (by decide) (by decide) (by decide) (by decide) (by decide) (by decide) (by decide) (by decide)).trans fa76
  have hfrg6 : ∀ j : Nat, j ≠ 62 → j ≠ 67 → j ≠ 68 → j ≠ 69 → j ≠ 70 → j ≠ 71 → j ≠ 72 → j ≠ 73 → j ≠ 74 → j ≠ 75 → j ≠ 76 → g6 j = g j := fun j h0 h1 h2 h3 h4 h5 h6 h7 h8 h9 h10 => (hcg6 j h0 h1 h2 h3 h4 h5 h6 h7 h8).trans ((fun _ _ _ _ _ _ _ _ _ _ _ _ => rfl) j h0 h1 h2 h3 h4 h5 h6 h7 h8 h9 h10)
  have hns := hCh.2.1
  have hns1 := hCh.1
  have hgb := hCh.gb
  obtain ⟨hF1, hF2, hF3, hF4⟩ := hWa k1 ns sl sz gof hk1 hp1 hCh
  refine lv_iload_n hx hb dX6_wait_25 rfl (lv_at hl 2 rfl) ?_
  refine xi_if_ne (tgt := 47) hx hb (by decide) dX6_wait_26 (by decide) (fun c0 => absurd c0 (by decide)) (fun _ => ?_)
  refine lv_aload_n hx hb dX6_wait_29 rfl (lv_at hl 0 rfl) ?_
  refine lv_aload_n hx hb dX6_wait_30 rfl (lv_at hl 0 rfl) ?_
  refine xw_get hx hb hts hin6 hown hK hP (by decide) fg6_n0 rfl 18 (by decide) hf52 rfl rfl dX6_wait_31 ?_
  refine lv_iconst (v := nI (0)) hx hb dX6_wait_34 (by decide) ?_
  refine xw_lald hx hb hK hP (by decide) 1 fg6_n7 rfl (by omega) (by decide) dX6_wait_35 ?_
  rw [(hSv (0) (by omega)).1]
  refine lv_aload_n hx hb dX6_wait_36 rfl (lv_at hl 0 rfl) ?_
  refine xw_get hx hb hts hin6 hown hK hP (by decide) fg6_n0 rfl 19 (by decide) hf55 rfl rfl dX6_wait_37 ?_
  refine lv_iconst (v := nI (0)) hx hb dX6_wait_40 (by decide) ?_
  refine xw_lald hx hb hK hP (by decide) 1 fg6_n8 rfl (by omega) (by decide) dX6_wait_41 ?_
  rw [(hSv (0) (by omega)).2]
  refine va_callv (va_runV (As := [.long (lZ ((eM Wt w gof q ns 0).num)), .long (lZ (((eM Wt w gof q ns 0).den : Int)))]) (rest := []) ⟨hx, hb, hml, hown, hts⟩ (mX6_atHand l hD (w := w) (ln := ln) (t := t) (u := u) (a := (eM Wt w gof q ns 0).num) (b := ((eM Wt w gof q ns 0).den : Int)) fg6_n0 ⟨(hF1.2 0 (by omega)).1, (hF1.2 0 (by omega)).2.1⟩ ⟨by have h9 := (eM Wt w gof q ns 0).den_pos; omega, (hF1.2 0 (by omega)).2.2⟩) (cwV 2 hts gX6_wait_X6_atHand rfl rfl rfl (by decide +kernel) ⟨Nat.le_of_ble_eq_true rfl, Nat.le_of_ble_eq_true rfl⟩) ⟨xB_blind, va_recv hK hP (ci := 6) rfl (xw_is (by decide) fg6_n0), fun U hU hW => ⟨rfl, by rw [hU]; exact hP, va_K.moved hW.alike hK, va_Nw.warmM hW hN⟩⟩ rfl rfl hl.1 rfl (lv_room (Nat.le_of_ble_eq_true rfl)) dX6_wait_42 ⟨Nat.le_of_ble_eq_true rfl, Nat.le_of_ble_eq_true rfl⟩) hS (fun _ _ h => h) (fun _ h => h) (fun g9 tZ H locs ht hvm hwg9 hB hzZ hkZ hS => ?_)
  obtain ⟨hP, -⟩ := hB
  rw [ht] at hP
  obtain ⟨fg9_n0, hcg9⟩ := hwg9
  have fg9_k0 : g9 (67) = .inl (cI, 13, .inl (f7)) := (hcg9 (67) (by decide)).trans fg6_n1
  have fg9_k1 : g9 (68) = .inl (cI, 13, .inl (f8)) := (hcg9 (68) (by decide)).trans fg6_n2
  have fg9_k2 : g9 (69) = .inl (cI, 52, .inl (f9)) := (hcg9 (69) (by decide)).trans fg6_n3
  have fg9_k3 : g9 (70) = .inl (cI, 6, .inl (f0)) := (hcg9 (70) (by decide)).trans fg6_n4
  have fg9_k4 : g9 (71) = .inl (cJ, 169, .inr (.inl (fA))) := (hcg9 (71) (by decide)).trans fg6_n5
  have fg9_k5 : g9 (72) = .inl (cJ, 169, .inr (.inl (fB))) := (hcg9 (72) (by decide)).trans fg6_n6
  have fg9_k6 : g9 (73) = .inl (cJ, 13, .inr (.inl (fC))) := (hcg9 (73) (by decide)).trans fg6_n7
  have fg9_k7 : g9 (74) = .inl (cJ, 13, .inr (.inl (fD))) := (hcg9 (74) (by decide)).trans fg6_n8
  have fg9_k8 : g9 (63) = .inl (cI, 4, .inl (fw)) := (hcg9 (63) (by decide)).trans fg6_k0
  have fg9_k9 : g9 (64) = .inl (cI, 8, .inl (fsz)) := (hcg9 (64) (by decide)).trans fg6_k1
  have fg9_k10 : g9 (65) = .inl (cI, 40, .inl (fwd)) := (hcg9 (65) (by decide)).trans fg6_k2
  have fg9_k11 : g9 (75) = .inl (cJ, 13, .inr (.inl (fen))) := (hcg9 (75) (by decide)).trans fg6_k3
  have fg9_k12 : g9 (76) = .inl (cJ, 13, .inr (.inl (fed))) := (hcg9 (76) (by decide)).trans fg6_k4
  have hfrg9 : ∀ j : Nat, j ≠ 62 → j ≠ 67 → j ≠ 68 → j ≠ 69 → j ≠ 70 → j ≠ 71 → j ≠ 72 → j ≠ 73 → j ≠ 74 → j ≠ 75 → j ≠ 76 → g9 j = g j := fun j h0 h1 h2 h3 h4 h5 h6 h7 h8 h9 h10 => (hcg9 j h0).trans (hfrg6 j h0 h1 h2 h3 h4 h5 h6 h7 h8 h9 h10)
  rw [divInt_nd] at fg9_n0
  refine lv_iconst (v := nI (1)) hx hb dX6_wait_45 (by decide) ?_
  exact W.zret (v := nI (1)) hx hb hr (by decide) (fun tZ ht hW => ⟨⟨_, g9, rfl, (by have hO : oWait Wt w ln u (nI k1) (nI 0) = some (eM Wt w gof q ns 0) := (by unfold oWait; rw [slotW_yes hk1 hp1, hF2]; rfl); show _ = (if (oWait Wt w ln u (nI k1) (nI 0)).isSome then 1 else 0) ∧ _; rw [hO]; exact ⟨rfl, ⟨_, _, _, _, _, _, _, _, _, _, _, _, _, _, _, _, _, _, _, _, _, fg9_n0, fg9_k8, fg9_k9, fg9_k10, ((hfrg9) 66 (by decide) (by decide) (by decide) (by decide) (by decide) (by decide) (by decide) (by decide) (by decide) (by decide) (by decide)).trans fa66, fg9_k0, fg9_k1, fg9_k2, fg9_k3, fg9_k4, fg9_k5, fg9_k6, fg9_k7, fg9_k11, fg9_k12, ((hfrg9) 77 (by decide) (by decide) (by decide) (by decide) (by decide) (by decide) (by decide) (by decide) (by decide) (by decide) (by decide)).trans fa77, ((hfrg9) 78 (by decide) (by decide) (by decide) (by decide) (by decide) (by decide) (by decide) (by decide) (by decide) (by decide) (by decide)).trans fa78, ((hfrg9) 79 (by decide) (by decide) (by decide) (by decide) (by decide) (by decide) (by decide) (by decide) (by decide) (by decide) (by decide)).trans fa79, ((hfrg9) 80 (by decide) (by decide) (by decide) (by decide) (by decide) (by decide) (by decide) (by decide) (by decide) (by decide) (by decide)).trans fa80, hfw, hsz, hwl, htx⟩, fun j hj => (hfrg9) j (by omega) (by omega) (by omega) (by omega) (by omega) (by omega) (by omega) (by omega) (by omega) (by omega) (by omega)⟩), by rw [ht]; exact hP, va_K.moved hW.alike hK, va_Nw.warmM hW hN⟩, hS.F ht⟩) hS.2.2 dX6_wait_46

set_option maxHeartbeats 4000000 in
set_option maxRecDepth 100000 in
theorem mX6_wait0_n (l : Launch) {D : va_G} {cI cJ cZ cW : ClassId} {ad : Nat → Nat} {A : Nat → Prop} (hD : ∀ g, va_D A (xw 81 ad g)) {g : Nat → va_E} {q Wt : Nat} {w : Nat → Nat} {ln : Nat → Nat} {u : Nat → Nat → Nat} {T : Nat} {t : Nat → Nat} {tp bt : Int64} {xa : Int32}  (hM : ModI cI cJ ad g q Wt w ln u T t tp bt) (hs : SrcI q Wt w ln u T t) (hxa : noW ln xa) (hWa : waOK q Wt w ln u) : Met l yX6_wait wsX6_wait ({ frames := 6, cells := 0, slots := 0, locals := 162 }) (va_Pc [.ref (ad (62)), .int (xa), .int (nI (0))] (xB D (xT cI cJ cZ cW) ad g)) (va_Qi (fun r g2 => r = (if (oWait Wt w ln u (xa) (nI 0)).isSome then 1 else 0) ∧ ModI cI cJ ad g2 q Wt w ln u T t (hTp (oWait Wt w ln u (xa) (nI 0)) tp) (hBt (oWait Wt w ln u (xa) (nI 0)) bt) ∧ ∀ j : Nat, j < 62 → g2 j = g j) (xB D (xT cI cJ cZ cW) ad) A) 0 0 A := by
  refine Met.ofW (cc := cX6_wait) (maxL := 10) (ret := (some .boolean)) (by decide) rfl ?_
  intro p e s m args below meth c s₁ B hml hv
  obtain ⟨rfl, hP, hK, hN⟩ := hv
  have hx := B.exec
  have hb := B.bytes
  have hr := B.returns
  have hts := atoms_spec (ws := wsX6_wait) B.pre
  have hown : s.vm.findClass RX6 = some m.cls := findClass_of_methodNamed B.named
  have hlocks := B.notSynchronized
  have hS : va_S A s.heap s.heap [] := va_S.rf
  have hl := lv_entry ([.ref (ad (62)), .int (xa), .int (nI (0))]) (n := 10) (Nat.le_of_ble_eq_true rfl)
  rw [lg_entry_eq]
  generalize (lg_sl ([.ref (ad (62)), .int (xa), .int (nI (0))]) ++ List.replicate (10 - (lg_sl ([.ref (ad (62)), .int (xa), .int (nI (0))])).length) Slot.unset).toArray = ls at hl ⊢
  have hl : lv_has ls 10 [(0, .ref (ad (62))), (1, .int (xa)), (2, .int (nI (0)))] := hl
  obtain ⟨hq2, hq4, hw1, hw0, hWs, hWt, hw, hln, hul, hT, ht⟩ := hs
  obtain ⟨sq, nu, de, fw, fsz, fwd, ftx, fos, foz, fgo, frw, fan, fad, frn, frd, fen, fed, fcn, fcd, fnw, fth, fo62, fa63, fa64, fa65, fa66, fa67, fa68, fa69, fa70, fa71, fa72, fa73, fa74, fa75, fa76, fa77, fa78, fa79, fa80, hfw, hsz, hwl, htx⟩ := id hM
  have hWp : 1 ≤ Wt ∧ Wt ≤ 4 := by have h8 := hw1 0 (by omega); have h9 := wsum_mono (w := w) (show 1 ≤ q by omega); have h7 : wsum w 1 = 0 + w 0 := rfl; omega
  have hwA : ∀ k j, j < ln k → 1 ≤ w (u k j) := fun k j hj => hw1 _ (hul k j hj)
  have hwB : ∀ k j, j < ln k → w (u k j) ≤ 4 := fun k j hj => hw _ (Nat.lt_of_lt_of_le (hul k j hj) hq4)
  refine lv_aload_n hx hb dX6_wait_0 rfl (lv_at hl 0 rfl) ?_
  refine lv_iload_n hx hb dX6_wait_1 rfl (lv_at hl 1 rfl) ?_
  refine vp_callSi (va_Run.run (va_runV (As := [.int (xa)]) (rest := []) ⟨hx, hb, hml, hown, hts⟩ (mX6_isWord_no l (w := w) (ln := ln) (t := t) (u := u) fo62 fa64 hsz hxa) (cwV 1 hts gX6_wait_X6_isWord rfl rfl rfl (by decide +kernel) ⟨Nat.le_of_ble_eq_true rfl, Nat.le_of_ble_eq_true rfl⟩) ⟨xB_blind, va_recv hK hP (ci := 6) rfl (xw_is (by decide) fo62), fun U hU hW => ⟨rfl, by rw [hU]; exact hP, va_K.moved hW.alike hK, va_Nw.warmM hW hN⟩⟩ rfl rfl hl.1 rfl (lv_room (Nat.le_of_ble_eq_true rfl)) dX6_wait_2 ⟨Nat.le_of_ble_eq_true rfl, Nat.le_of_ble_eq_true rfl⟩)) (fun r1 er1 => ?_)
  subst er1
  refine xi_if_eq (tgt := 16) hx hb (by decide) dX6_wait_5 (by decide) (fun _ => ?_) (fun c0 => absurd c0 (by decide))
  refine lv_iconst (v := nI (0)) hx hb dX6_wait_16 (by decide) ?_
  exact W.zret (v := nI (0)) hx hb hr (by decide) (fun tZ ht hW => ⟨⟨_, g, rfl, (by have hO : oWait Wt w ln u xa (nI 0) = none := (by unfold oWait; rw [slotW_no hxa]); show _ = (if (oWait Wt w ln u xa (nI 0)).isSome then 1 else 0) ∧ _; rw [hO]; exact ⟨rfl, hM, fun _ _ => rfl⟩), by rw [ht]; exact hP, va_K.moved hW.alike hK, va_Nw.warmM hW hN⟩, hS.F ht⟩) hS.2.2 dX6_wait_17

theorem mX6_wait0 (l : Launch) {D : va_G} {cI cJ cZ cW : ClassId} {ad : Nat → Nat} {A : Nat → Prop} (hD : ∀ g, va_D A (xw 81 ad g)) {g : Nat → va_E} {q Wt : Nat} {w : Nat → Nat} {ln : Nat → Nat} {u : Nat → Nat → Nat} {T : Nat} {t : Nat → Nat} {tp bt : Int64} (hM : ModI cI cJ ad g q Wt w ln u T t tp bt) (hs : SrcI q Wt w ln u T t) (hWa : waOK q Wt w ln u) (xa : Int32) : Met l yX6_wait wsX6_wait ({ frames := 6, cells := 0, slots := 0, locals := 162 }) (va_Pc [.ref (ad (62)), .int xa, .int (nI (0))] (xB D (xT cI cJ cZ cW) ad g)) (va_Qi (fun r g2 => r = (if (oWait Wt w ln u (xa) (nI 0)).isSome then 1 else 0) ∧ ModI cI cJ ad g2 q Wt w ln u T t (hTp (oWait Wt w ln u (xa) (nI 0)) tp) (hBt (oWait Wt w ln u (xa) (nI 0)) bt) ∧ ∀ j : Nat, j < 62 → g2 j = g j) (xB D (xT cI cJ cZ cW) ad) A) 0 0 A := by
  rcases slotW_cases ln xa with hxa | ⟨k1, hk1, rfl, hp1⟩
  · exact mX6_wait0_n l hD hM hs hxa hWa
  · exact mX6_wait0_s l hD hM hs hk1 hp1 hWa

set_option maxHeartbeats 4000000 in
set_option maxRecDepth 100000 in
theorem mX6_wait1_s (l : Launch) {D : va_G} {cI cJ cZ cW : ClassId} {ad : Nat → Nat} {A : Nat → Prop} (hD : ∀ g, va_D A (xw 81 ad g)) {g : Nat → va_E} {q Wt : Nat} {w : Nat → Nat} {ln : Nat → Nat} {u : Nat → Nat → Nat} {T : Nat} {t : Nat → Nat} {tp bt : Int64} {k1 : Nat}  (hM : ModI cI cJ ad g q Wt w ln u T t tp bt) (hs : SrcI q Wt w ln u T t) (hk1 : k1 < 8) (hp1 : 0 < ln k1) (hWa : waOK q Wt w ln u) : Met l yX6_wait wsX6_wait ({ frames := 6, cells := 0, slots := 0, locals := 162 }) (va_Pc [.ref (ad (62)), .int (nI (k1)), .int (nI (1))] (xB D (xT cI cJ cZ cW) ad g)) (va_Qi (fun r g2 => r = (if (oWait Wt w ln u (nI (k1)) (nI 1)).isSome then 1 else 0) ∧ ModI cI cJ ad g2 q Wt w ln u T t (hTp (oWait Wt w ln u (nI (k1)) (nI 1)) tp) (hBt (oWait Wt w ln u (nI (k1)) (nI 1)) bt) ∧ ∀ j : Nat, j < 62 → g2 j = g j) (xB D (xT cI cJ cZ cW) ad) A) 0 0 A := by
  refine Met.ofW (cc := cX6_wait) (maxL := 10) (ret := (some .boolean)) (by decide) rfl ?_
  intro p e s m args below meth c s₁ B hml hv
  obtain ⟨rfl, hP, hK, hN⟩ := hv
  have hx := B.exec
  have hb := B.bytes
  have hr := B.returns
  have hts := atoms_spec (ws := wsX6_wait) B.pre
  have hown : s.vm.findClass RX6 = some m.cls := findClass_of_methodNamed B.named
  have hlocks := B.notSynchronized
  have hS : va_S A s.heap s.heap [] := va_S.rf
  have hin6 : ∀ w ∈ wsX60, w ∈ wsX6_wait := by decide +kernel
  have hf7 := hts (.fieldLink RX6 7 "LettersByLotModel" "q" "I") (by decide +kernel)
  have hf13 := hts (.fieldLink RX6 13 "LettersByLotModel" "all" "I") (by decide +kernel)
  have hf16 := hts (.fieldLink RX6 16 "LettersByLotModel" "weight" "[I") (by decide +kernel)
  have hf39 := hts (.fieldLink RX6 39 "LettersByLotModel" "goes" "[I") (by decide +kernel)
  have hf52 := hts (.fieldLink RX6 52 "LettersByLotModel" "rn" "[J") (by decide +kernel)
  have hf55 := hts (.fieldLink RX6 55 "LettersByLotModel" "rd" "[J") (by decide +kernel)
  have hf58 := hts (.fieldLink RX6 58 "LettersByLotModel" "en" "[J") (by decide +kernel)
  have hf61 := hts (.fieldLink RX6 61 "LettersByLotModel" "ed" "[J") (by decide +kernel)
  have hf106 := hts (.fieldLink RX6 106 "LettersByLotModel" "num" "J") (by decide +kernel)
  have hf109 := hts (.fieldLink RX6 109 "LettersByLotModel" "den" "J") (by decide +kernel)
  have hf130 := hts (.fieldLink RX6 130 "LettersByLotModel" "states" "I") (by decide +kernel)
  have hl := lv_entry ([.ref (ad (62)), .int (nI (k1)), .int (nI (1))]) (n := 10) (Nat.le_of_ble_eq_true rfl)
  rw [lg_entry_eq]
  generalize (lg_sl ([.ref (ad (62)), .int (nI (k1)), .int (nI (1))]) ++ List.replicate (10 - (lg_sl ([.ref (ad (62)), .int (nI (k1)), .int (nI (1))])).length) Slot.unset).toArray = ls at hl ⊢
  have hl : lv_has ls 10 [(0, .ref (ad (62))), (1, .int (nI (k1))), (2, .int (nI (1)))] := hl
  obtain ⟨hq2, hq4, hw1, hw0, hWs, hWt, hw, hln, hul, hT, ht⟩ := hs
  obtain ⟨sq, nu, de, fw, fsz, fwd, ftx, fos, foz, fgo, frw, fan, fad, frn, frd, fen, fed, fcn, fcd, fnw, fth, fo62, fa63, fa64, fa65, fa66, fa67, fa68, fa69, fa70, fa71, fa72, fa73, fa74, fa75, fa76, fa77, fa78, fa79, fa80, hfw, hsz, hwl, htx⟩ := id hM
  have hWp : 1 ≤ Wt ∧ Wt ≤ 4 := by have h8 := hw1 0 (by omega); have h9 := wsum_mono (w := w) (show 1 ≤ q by omega); have h7 : wsum w 1 = 0 + w 0 := rfl; omega
  have hwA : ∀ k j, j < ln k → 1 ≤ w (u k j) := fun k j hj => hw1 _ (hul k j hj)
  have hwB : ∀ k j, j < ln k → w (u k j) ≤ 4 := fun k j hj => hw _ (Nat.lt_of_lt_of_le (hul k j hj) hq4)
  have hn1 := hln k1
  refine lv_aload_n hx hb dX6_wait_0 rfl (lv_at hl 0 rfl) ?_
  refine lv_iload_n hx hb dX6_wait_1 rfl (lv_at hl 1 rfl) ?_
  refine vp_callSi (va_Run.run (va_runV (As := [.int (nI (k1))]) (rest := []) ⟨hx, hb, hml, hown, hts⟩ (mX6_isWord_yes l (w := w) (ln := ln) (t := t) (u := u) fo62 fa64 hsz hk1 hp1 (hln _)) (cwV 1 hts gX6_wait_X6_isWord rfl rfl rfl (by decide +kernel) ⟨Nat.le_of_ble_eq_true rfl, Nat.le_of_ble_eq_true rfl⟩) ⟨xB_blind, va_recv hK hP (ci := 6) rfl (xw_is (by decide) fo62), fun U hU hW => ⟨rfl, by rw [hU]; exact hP, va_K.moved hW.alike hK, va_Nw.warmM hW hN⟩⟩ rfl rfl hl.1 rfl (lv_room (Nat.le_of_ble_eq_true rfl)) dX6_wait_2 ⟨Nat.le_of_ble_eq_true rfl, Nat.le_of_ble_eq_true rfl⟩)) (fun r1 er1 => ?_)
  subst er1
  refine xi_if_eq (tgt := 16) hx hb (by decide) dX6_wait_5 (by decide) (fun c0 => absurd c0 (by decide)) (fun _ => ?_)
  refine lv_iload_n hx hb dX6_wait_8 rfl (lv_at hl 2 rfl) ?_
  refine lv_iconst (v := nI (2)) hx hb dX6_wait_9 (by decide) ?_
  refine vp_callSi (va_Run.run (va_runS (As := [.int (nI (1)), .int (nI (2))]) (rest := []) ⟨hx, hb, hml, hown, hts⟩ (mX6_isIn_in l (by omega) (by omega)) (va_cwS 2 hts gX6_wait_X6_isIn rfl rfl rfl (by decide +kernel) ⟨Nat.le_of_ble_eq_true rfl, Nat.le_of_ble_eq_true rfl⟩) ⟨xB_blind, fun U hU hW => ⟨rfl, by rw [hU]; exact hP, va_K.moved hW.alike hK, va_Nw.warmM hW hN⟩⟩ rfl rfl hl.1 rfl (lv_room (Nat.le_of_ble_eq_true rfl)) dX6_wait_10 ⟨Nat.le_of_ble_eq_true rfl, Nat.le_of_ble_eq_true rfl⟩)) (fun r3 er3 => ?_)
  subst er3
  refine xi_if_ne (tgt := 18) hx hb (by decide) dX6_wait_13 (by decide) (fun _ => ?_) (fun c0 => absurd c0 (by decide))
  refine lv_aload_n hx hb dX6_wait_18 rfl (lv_at hl 0 rfl) ?_
  refine lv_iconst (v := nI (1)) hx hb dX6_wait_19 (by decide) ?_
  refine lv_iload_n hx hb dX6_wait_20 rfl (lv_at hl 1 rfl) ?_
  refine lv_ishl hx hb dX6_wait_21 ?_
  refine xtopi (y := nI (2 ^ k1)) (nI_shl1 (by omega)) ?_
  refine va_callv (va_runV (As := [.int (nI (2 ^ k1))]) (rest := []) ⟨hx, hb, hml, hown, hts⟩ (mX6_means l hD (w := w) (ln := ln) (t := t) (u := u) (li := 2 ^ k1) fo62 fa63 fa64 fa65 fa67 fa68 fa69 fa70 fa71 fa72 fa73 fa74 hfw hsz hwl hq2 hq4 hln hul hT ht hw1 hw hWt (pw_lt k1 hk1) (fun s h1 h2 => by rw [bt_pow k1 hk1 s h1 h2]; exact hp1) (by rw [cn_pow k1 hk1]; decide) (by rw [cn_pow k1 hk1]; decide) (fun ns sl sz gof h => (hWa k1 ns sl sz gof hk1 hp1 h).1)) (cwV 1 hts gX6_wait_X6_means rfl rfl rfl (by decide +kernel) ⟨Nat.le_of_ble_eq_true rfl, Nat.le_of_ble_eq_true rfl⟩) ⟨xB_blind, va_recv hK hP (ci := 6) rfl (xw_is (by decide) fo62), fun U hU hW => ⟨rfl, by rw [hU]; exact hP, va_K.moved hW.alike hK, va_Nw.warmM hW hN⟩⟩ rfl rfl hl.1 rfl (lv_room (Nat.le_of_ble_eq_true rfl)) dX6_wait_22 ⟨Nat.le_of_ble_eq_true rfl, Nat.le_of_ble_eq_true rfl⟩) hS (fun _ _ h => h) (fun _ h => h) (fun g6 tZ H locs ht hvm hwg6 hB hzZ hkZ hS => ?_)
  obtain ⟨hP, -⟩ := hB
  rw [ht] at hP
  obtain ⟨ns, sl, sz, gof, f7, f8, f9, f0, fA, fB, fC, fD, nx, dx, hCh, hgo, hSv, fg6_n0, fg6_n1, fg6_n2, fg6_n3, fg6_n4, fg6_n5, fg6_n6, fg6_n7, fg6_n8, hcg6⟩ := hwg6
  have fg6_k0 : g6 (63) = .inl (cI, 4, .inl (fw)) := (hcg6 (63) (by decide) (by decide) (by decide) (by decide) (by decide) (by decide) (by decide) (by decide) (by decide)).trans fa63
  have fg6_k1 : g6 (64) = .inl (cI, 8, .inl (fsz)) := (hcg6 (64) (by decide) (by decide) (by decide) (by decide) (by decide) (by decide) (by decide) (by decide) (by decide)).trans fa64
  have fg6_k2 : g6 (65) = .inl (cI, 40, .inl (fwd)) := (hcg6 (65) (by decide) (by decide) (by decide) (by decide) (by decide) (by decide) (by decide) (by decide) (by decide)).trans fa65
  have fg6_k3 : g6 (75) = .inl (cJ, 13, .inr (.inl (fen))) := (hcg6 (75) (by decide) (by decide) (by decide) (by decide) (by decide) (by decide) (by decide) (by decide) (by decide)).trans fa75
  have fg6_k4 : g6 (76) = .inl (cJ, 13, .inr (.inl (fed))) := (hcg6 (76) (by decide) (by decide) (by decide) (by decide) (by decide) (by decide) (by decide) (by decide) (by decide)).trans fa76
  have hfrg6 : ∀ j : Nat, j ≠ 62 → j ≠ 67 → j ≠ 68 → j ≠ 69 → j ≠ 70 → j ≠ 71 → j ≠ 72 → j ≠ 73 → j ≠ 74 → j ≠ 75 → j ≠ 76 → g6 j = g j := fun j h0 h1 h2 h3 h4 h5 h6 h7 h8 h9 h10 => (hcg6 j h0 h1 h2 h3 h4 h5 h6 h7 h8).trans ((fun _ _ _ _ _ _ _ _ _ _ _ _ => rfl) j h0 h1 h2 h3 h4 h5 h6 h7 h8 h9 h10)
  have hns := hCh.2.1
  have hns1 := hCh.1
  have hgb := hCh.gb
  obtain ⟨hF1, hF2, hF3, hF4⟩ := hWa k1 ns sl sz gof hk1 hp1 hCh
  refine lv_iload_n hx hb dX6_wait_25 rfl (lv_at hl 2 rfl) ?_
  refine xi_if_ne (tgt := 47) hx hb (by decide) dX6_wait_26 (by decide) (fun _ => ?_) (fun c0 => absurd c0 (by decide))
  refine lv_iconst (v := nI (0)) hx hb dX6_wait_47 (by decide) ?_
  refine lv_istore_n (lv' := [(3, .int (nI (0))), (0, .ref (ad (62))), (1, .int (nI (k1))), (2, .int (nI (1)))]) hx hb dX6_wait_48 rfl hl (by decide) rfl (fun ls hl => ?_)
  refine xloopW (G := fun H locs fr => W p l e _ s m _ below meth c H locs _ _ _ fr) (σ := Nat × (Nat → Int64) × (Nat → Int64)) (fun (i, fe, fd) ls => F0 m 49 ls []) (fun (i, fe, fd) gl49_9 H locs ls => (i ≤ ns) ∧ (∀ x, x < i → fe x = lZ ((eM Wt w gof q ns x).num) ∧ fd x = lZ (((eM Wt w gof q ns x).den : Int))) ∧ gl49_9 (62) = .inr (6, [.int (nI (q)), .int (nI (Wt)), .ref (ad (63)), .ref (ad (64)), .ref (ad (65)), .ref (ad (66)), .int (nI (T)), .long (tp), .long (bt), .long (nx), .long (dx), .int (nI (ns)), .ref (ad (67)), .ref (ad (68)), .ref (ad (69)), .ref (ad (70)), .ref (ad (71)), .ref (ad (72)), .ref (ad (73)), .ref (ad (74)), .ref (ad (75)), .ref (ad (76)), .ref (ad (77)), .ref (ad (78)), .ref (ad (79)), .ref (ad (80))]) ∧ gl49_9 (67) = .inl (cI, 13, .inl (f7)) ∧ gl49_9 (68) = .inl (cI, 13, .inl (f8)) ∧ gl49_9 (69) = .inl (cI, 52, .inl (f9)) ∧ gl49_9 (70) = .inl (cI, 6, .inl (f0)) ∧ gl49_9 (71) = .inl (cJ, 169, .inr (.inl (fA))) ∧ gl49_9 (72) = .inl (cJ, 169, .inr (.inl (fB))) ∧ gl49_9 (73) = .inl (cJ, 13, .inr (.inl (fC))) ∧ gl49_9 (74) = .inl (cJ, 13, .inr (.inl (fD))) ∧ gl49_9 (63) = .inl (cI, 4, .inl (fw)) ∧ gl49_9 (64) = .inl (cI, 8, .inl (fsz)) ∧ gl49_9 (65) = .inl (cI, 40, .inl (fwd)) ∧ gl49_9 (75) = .inl (cJ, 13, .inr (.inl (fe))) ∧ gl49_9 (76) = .inl (cJ, 13, .inr (.inl (fd))) ∧ (∀ j : Nat, j ≠ 62 → j ≠ 67 → j ≠ 68 → j ≠ 69 → j ≠ 70 → j ≠ 71 → j ≠ 72 → j ≠ 73 → j ≠ 74 → j ≠ 75 → j ≠ 76 → gl49_9 j = g j) ∧ va_P D vwCl (xw 81 ad gl49_9) H ∧ va_S A s.heap H locs ∧ lv_has ls 10 [(0, .ref (ad (62))), (3, .int (nI (i)))]) (fun (i, fe, fd) => ns - i) ?_ (0, fen, fed) g6 H locs ls ⟨(Nat.zero_le _), (fun x hx => absurd hx (by omega)), fg6_n0, fg6_n1, fg6_n2, fg6_n3, fg6_n4, fg6_n5, fg6_n6, fg6_n7, fg6_n8, fg6_k0, fg6_k1, fg6_k2, fg6_k3, fg6_k4, hfrg6, hP, hS, (lv_sub hl [1, 0] rfl)⟩
  rintro ⟨i, fe, fd⟩ gl49_9 H locs ls ⟨hi, hfe, kg62, kg67, kg68, kg69, kg70, kg71, kg72, kg73, kg74, kg63, kg64, kg65, kg75, kg76, hfrgl49_9, hP, hS, hl⟩ ih49
  refine lv_iload_n hx hb dX6_wait_49 rfl (lv_at hl 1 rfl) ?_
  refine lv_aload_n hx hb dX6_wait_50 rfl (lv_at hl 0 rfl) ?_
  refine xw_get hx hb hts hin6 hown hK hP (by decide) kg62 rfl 11 (by decide) hf130 rfl rfl dX6_wait_51 ?_
  refine xi_icmp_ge (tgt := 87) hx hb (by omega) (by omega) dX6_wait_54 (by decide) (fun c54_10 => ?_) (fun c54_10 => ?_)
  · refine lv_aload_n hx hb dX6_wait_87 rfl (lv_at hl 0 rfl) ?_
    refine va_callv (va_runV (As := []) (rest := []) ⟨hx, hb, hml, hown, hts⟩ (mX6_begins l hD (w := w) (ln := ln) (t := t) (u := u) (gof := gof) kg62 kg63 kg69 kg71 kg72 hfw hgo hgb hq4 hns hWt hw) (cwV 0 hts gX6_wait_X6_begins rfl rfl rfl (by decide +kernel) ⟨Nat.le_of_ble_eq_true rfl, Nat.le_of_ble_eq_true rfl⟩) ⟨xB_blind, va_recv hK hP (ci := 6) rfl (xw_is (by decide) kg62), fun U hU hW => ⟨rfl, by rw [hU]; exact hP, va_K.moved hW.alike hK, va_Nw.warmM hW hN⟩⟩ rfl rfl hl.1 rfl (lv_room (Nat.le_of_ble_eq_true rfl)) dX6_wait_88 ⟨Nat.le_of_ble_eq_true rfl, Nat.le_of_ble_eq_true rfl⟩) hS (fun _ _ h => h) (fun _ h => h) (fun g11 tZ H locs ht hvm hwg11 hB hzZ hkZ hS => ?_)
    obtain ⟨hP, -⟩ := hB
    rw [ht] at hP
    obtain ⟨fA4, fB4, hBg, fg11_n0, fg11_n1, hcg11⟩ := hwg11
    have fg11_k0 : g11 (62) = .inr (6, [.int (nI (q)), .int (nI (Wt)), .ref (ad (63)), .ref (ad (64)), .ref (ad (65)), .ref (ad (66)), .int (nI (T)), .long (tp), .long (bt), .long (nx), .long (dx), .int (nI (ns)), .ref (ad (67)), .ref (ad (68)), .ref (ad (69)), .ref (ad (70)), .ref (ad (71)), .ref (ad (72)), .ref (ad (73)), .ref (ad (74)), .ref (ad (75)), .ref (ad (76)), .ref (ad (77)), .ref (ad (78)), .ref (ad (79)), .ref (ad (80))]) := (hcg11 (62) (by decide) (by decide)).trans kg62
    have fg11_k1 : g11 (67) = .inl (cI, 13, .inl (f7)) := (hcg11 (67) (by decide) (by decide)).trans kg67
    have fg11_k2 : g11 (68) = .inl (cI, 13, .inl (f8)) := (hcg11 (68) (by decide) (by decide)).trans kg68
    have fg11_k3 : g11 (69) = .inl (cI, 52, .inl (f9)) := (hcg11 (69) (by decide) (by decide)).trans kg69
    have fg11_k4 : g11 (70) = .inl (cI, 6, .inl (f0)) := (hcg11 (70) (by decide) (by decide)).trans kg70
    have fg11_k5 : g11 (73) = .inl (cJ, 13, .inr (.inl (fC))) := (hcg11 (73) (by decide) (by decide)).trans kg73
    have fg11_k6 : g11 (74) = .inl (cJ, 13, .inr (.inl (fD))) := (hcg11 (74) (by decide) (by decide)).trans kg74
    have fg11_k7 : g11 (63) = .inl (cI, 4, .inl (fw)) := (hcg11 (63) (by decide) (by decide)).trans kg63
    have fg11_k8 : g11 (64) = .inl (cI, 8, .inl (fsz)) := (hcg11 (64) (by decide) (by decide)).trans kg64
    have fg11_k9 : g11 (65) = .inl (cI, 40, .inl (fwd)) := (hcg11 (65) (by decide) (by decide)).trans kg65
    have fg11_k10 : g11 (75) = .inl (cJ, 13, .inr (.inl (fe))) := (hcg11 (75) (by decide) (by decide)).trans kg75
    have fg11_k11 : g11 (76) = .inl (cJ, 13, .inr (.inl (fd))) := (hcg11 (76) (by decide) (by decide)).trans kg76
    have hfrg11 : ∀ j : Nat, j ≠ 62 → j ≠ 67 → j ≠ 68 → j ≠ 69 → j ≠ 70 → j ≠ 71 → j ≠ 72 → j ≠ 73 → j ≠ 74 → j ≠ 75 → j ≠ 76 → g11 j = g j := fun j h0 h1 h2 h3 h4 h5 h6 h7 h8 h9 h10 => (hcg11 j h5 h6).trans (hfrgl49_9 j h0 h1 h2 h3 h4 h5 h6 h7 h8 h9 h10)
    refine lv_iconst (v := nI (0)) hx hb dX6_wait_91 (by decide) ?_
    refine lv_istore_n (lv' := [(3, .int (nI (0))), (0, .ref (ad (62)))]) hx hb dX6_wait_92 rfl hl (by decide) rfl (fun ls hl => ?_)
    refine xloopW (G := fun H locs fr => W p l e _ s m _ below meth c H locs _ _ _ fr) (σ := Nat × (Nat → Int64) × (Nat → Int64) × Int64 × Int64) (fun (i, fC, fD, nx, dx) ls => F0 m 93 ls []) (fun (i, fC, fD, nx, dx) gl93_13 H locs ls => (i ≤ ns) ∧ (∀ x, x < i → fC x = lZ (((fun i => r2S Wt w gof (eM Wt w gof q ns) i q) x).num) ∧ fD x = lZ ((((fun i => r2S Wt w gof (eM Wt w gof q ns) i q) x).den : Int))) ∧ gl93_13 (71) = .inl (cJ, 169, .inr (.inl (fA4))) ∧ gl93_13 (72) = .inl (cJ, 169, .inr (.inl (fB4))) ∧ gl93_13 (62) = .inr (6, [.int (nI (q)), .int (nI (Wt)), .ref (ad (63)), .ref (ad (64)), .ref (ad (65)), .ref (ad (66)), .int (nI (T)), .long (tp), .long (bt), .long (nx), .long (dx), .int (nI (ns)), .ref (ad (67)), .ref (ad (68)), .ref (ad (69)), .ref (ad (70)), .ref (ad (71)), .ref (ad (72)), .ref (ad (73)), .ref (ad (74)), .ref (ad (75)), .ref (ad (76)), .ref (ad (77)), .ref (ad (78)), .ref (ad (79)), .ref (ad (80))]) ∧ gl93_13 (67) = .inl (cI, 13, .inl (f7)) ∧ gl93_13 (68) = .inl (cI, 13, .inl (f8)) ∧ gl93_13 (69) = .inl (cI, 52, .inl (f9)) ∧ gl93_13 (70) = .inl (cI, 6, .inl (f0)) ∧ gl93_13 (73) = .inl (cJ, 13, .inr (.inl (fC))) ∧ gl93_13 (74) = .inl (cJ, 13, .inr (.inl (fD))) ∧ gl93_13 (63) = .inl (cI, 4, .inl (fw)) ∧ gl93_13 (64) = .inl (cI, 8, .inl (fsz)) ∧ gl93_13 (65) = .inl (cI, 40, .inl (fwd)) ∧ gl93_13 (75) = .inl (cJ, 13, .inr (.inl (fe))) ∧ gl93_13 (76) = .inl (cJ, 13, .inr (.inl (fd))) ∧ (∀ j : Nat, j ≠ 62 → j ≠ 67 → j ≠ 68 → j ≠ 69 → j ≠ 70 → j ≠ 71 → j ≠ 72 → j ≠ 73 → j ≠ 74 → j ≠ 75 → j ≠ 76 → gl93_13 j = g j) ∧ va_P D vwCl (xw 81 ad gl93_13) H ∧ va_S A s.heap H locs ∧ lv_has ls 10 [(0, .ref (ad (62))), (3, .int (nI (i)))]) (fun (i, fC, fD, nx, dx) => ns - i) ?_ (0, fC, fD, nx, dx) g11 H locs ls ⟨(Nat.zero_le _), (fun x hx => absurd hx (by omega)), fg11_n0, fg11_n1, fg11_k0, fg11_k1, fg11_k2, fg11_k3, fg11_k4, fg11_k5, fg11_k6, fg11_k7, fg11_k8, fg11_k9, fg11_k10, fg11_k11, hfrg11, hP, hS, (lv_sub hl [1, 0] rfl)⟩
    rintro ⟨i, fC, fD, nx, dx⟩ gl93_13 H locs ls ⟨hi, hRv, kg71, kg72, kg62, kg67, kg68, kg69, kg70, kg73, kg74, kg63, kg64, kg65, kg75, kg76, hfrgl93_13, hP, hS, hl⟩ ih93
    refine lv_iload_n hx hb dX6_wait_93 rfl (lv_at hl 1 rfl) ?_
    refine lv_aload_n hx hb dX6_wait_94 rfl (lv_at hl 0 rfl) ?_
    refine xw_get hx hb hts hin6 hown hK hP (by decide) kg62 rfl 11 (by decide) hf130 rfl rfl dX6_wait_95 ?_
    refine xi_icmp_ge (tgt := 226) hx hb (by omega) (by omega) dX6_wait_98 (by decide) (fun c98_14 => ?_) (fun c98_14 => ?_)
    · refine lv_aload_n hx hb dX6_wait_226 rfl (lv_at hl 0 rfl) ?_
      refine va_callv (va_runV (As := []) (rest := []) ⟨hx, hb, hml, hown, hts⟩ (mX6_solves l hD (w := w) (ln := ln) (t := t) (u := u) (A0 := mkA Wt w gof q ns (fun i => r2S Wt w gof (eM Wt w gof q ns) i q)) kg62 kg71 kg72 kg73 kg74 (mkA_A hBg) (mkA_B (fun x hx => hRv x (by omega))) hns hF3.2.2.1) (cwV 0 hts gX6_wait_X6_solves rfl rfl rfl (by decide +kernel) ⟨Nat.le_of_ble_eq_true rfl, Nat.le_of_ble_eq_true rfl⟩) ⟨xB_blind, va_recv hK hP (ci := 6) rfl (xw_is (by decide) kg62), fun U hU hW => ⟨rfl, by rw [hU]; exact hP, va_K.moved hW.alike hK, va_Nw.warmM hW hN⟩⟩ rfl rfl hl.1 rfl (lv_room (Nat.le_of_ble_eq_true rfl)) dX6_wait_227 ⟨Nat.le_of_ble_eq_true rfl, Nat.le_of_ble_eq_true rfl⟩) hS (fun _ _ h => h) (fun _ h => h) (fun g15 tZ H locs ht hvm hwg15 hB hzZ hkZ hS => ?_)
      obtain ⟨hP, -⟩ := hB
      rw [ht] at hP
      obtain ⟨fA3, fB3, fC3, fD3, nx3, dx3, hSv, fg15_n0, fg15_n1, fg15_n2, fg15_n3, fg15_n4, hcg15⟩ := hwg15
      have fg15_k0 : g15 (67) = .inl (cI, 13, .inl (f7)) := (hcg15 (67) (by decide) (by decide) (by decide) (by decide) (by decide)).trans kg67
      have fg15_k1 : g15 (68) = .inl (cI, 13, .inl (f8)) := (hcg15 (68) (by decide) (by decide) (by decide) (by decide) (by decide)).trans kg68
      have fg15_k2 : g15 (69) = .inl (cI, 52, .inl (f9)) := (hcg15 (69) (by decide) (by decide) (by decide) (by decide) (by decide)).trans kg69
      have fg15_k3 : g15 (70) = .inl (cI, 6, .inl (f0)) := (hcg15 (70) (by decide) (by decide) (by decide) (by decide) (by decide)).trans kg70
      have fg15_k4 : g15 (63) = .inl (cI, 4, .inl (fw)) := (hcg15 (63) (by decide) (by decide) (by decide) (by decide) (by decide)).trans kg63
      have fg15_k5 : g15 (64) = .inl (cI, 8, .inl (fsz)) := (hcg15 (64) (by decide) (by decide) (by decide) (by decide) (by decide)).trans kg64
      have fg15_k6 : g15 (65) = .inl (cI, 40, .inl (fwd)) := (hcg15 (65) (by decide) (by decide) (by decide) (by decide) (by decide)).trans kg65
      have fg15_k7 : g15 (75) = .inl (cJ, 13, .inr (.inl (fe))) := (hcg15 (75) (by decide) (by decide) (by decide) (by decide) (by decide)).trans kg75
      have fg15_k8 : g15 (76) = .inl (cJ, 13, .inr (.inl (fd))) := (hcg15 (76) (by decide) (by decide) (by decide) (by decide) (by decide)).trans kg76
      have hfrg15 : ∀ j : Nat, j ≠ 62 → j ≠ 67 → j ≠ 68 → j ≠ 69 → j ≠ 70 → j ≠ 71 → j ≠ 72 → j ≠ 73 → j ≠ 74 → j ≠ 75 → j ≠ 76 → g15 j = g j := fun j h0 h1 h2 h3 h4 h5 h6 h7 h8 h9 h10 => (hcg15 j h0 h5 h6 h7 h8).trans (hfrgl93_13 j h0 h1 h2 h3 h4 h5 h6 h7 h8 h9 h10)
      refine lv_aload_n hx hb dX6_wait_230 rfl (lv_at hl 0 rfl) ?_
      refine lv_aload_n hx hb dX6_wait_231 rfl (lv_at hl 0 rfl) ?_
      refine xw_get hx hb hts hin6 hown hK hP (by decide) fg15_n0 rfl 20 (by decide) hf58 rfl rfl dX6_wait_232 ?_
      refine lv_iconst (v := nI (0)) hx hb dX6_wait_235 (by decide) ?_
      refine xw_lald hx hb hK hP (by decide) 1 fg15_k7 rfl (by omega) (by decide) dX6_wait_236 ?_
      rw [(hfe (0) (by omega)).1]
      refine xl_neg hx hb dX6_wait_237 ?_
      refine xtopl (y := lZ ((-(eM Wt w gof q ns 0)).num)) rfl ?_
      refine lv_aload_n hx hb dX6_wait_238 rfl (lv_at hl 0 rfl) ?_
      refine xw_get hx hb hts hin6 hown hK hP (by decide) fg15_n0 rfl 21 (by decide) hf61 rfl rfl dX6_wait_239 ?_
      refine lv_iconst (v := nI (0)) hx hb dX6_wait_242 (by decide) ?_
      refine xw_lald hx hb hK hP (by decide) 1 fg15_k8 rfl (by omega) (by decide) dX6_wait_243 ?_
      rw [(hfe (0) (by omega)).2]
      refine lv_aload_n hx hb dX6_wait_244 rfl (lv_at hl 0 rfl) ?_
      refine xw_get hx hb hts hin6 hown hK hP (by decide) fg15_n0 rfl 20 (by decide) hf58 rfl rfl dX6_wait_245 ?_
      refine lv_iconst (v := nI (0)) hx hb dX6_wait_248 (by decide) ?_
      refine xw_lald hx hb hK hP (by decide) 1 fg15_k7 rfl (by omega) (by decide) dX6_wait_249 ?_
      rw [(hfe (0) (by omega)).1]
      refine lv_aload_n hx hb dX6_wait_250 rfl (lv_at hl 0 rfl) ?_
      refine xw_get hx hb hts hin6 hown hK hP (by decide) fg15_n0 rfl 21 (by decide) hf61 rfl rfl dX6_wait_251 ?_
      refine lv_iconst (v := nI (0)) hx hb dX6_wait_254 (by decide) ?_
      refine xw_lald hx hb hK hP (by decide) 1 fg15_k8 rfl (by omega) (by decide) dX6_wait_255 ?_
      rw [(hfe (0) (by omega)).2]
      refine va_callv (va_runV (As := [.long (lZ ((-(eM Wt w gof q ns 0)).num)), .long (lZ (((eM Wt w gof q ns (0)).den : Int))), .long (lZ ((eM Wt w gof q ns (0)).num)), .long (lZ (((eM Wt w gof q ns (0)).den : Int)))]) (rest := []) ⟨hx, hb, hml, hown, hts⟩ (mX6_times l hD (w := w) (ln := ln) (t := t) (u := u) (x := -(eM Wt w gof q ns 0)) (y := eM Wt w gof q ns 0) fg15_n0 rfl rfl rfl rfl (fitR_neg (hF1.2 0 (by omega))) (hF1.2 0 (by omega)) hF3.2.2.2.1) (cwV 4 hts gX6_wait_X6_times rfl rfl rfl (by decide +kernel) ⟨Nat.le_of_ble_eq_true rfl, Nat.le_of_ble_eq_true rfl⟩) ⟨xB_blind, va_recv hK hP (ci := 6) rfl (xw_is (by decide) fg15_n0), fun U hU hW => ⟨rfl, by rw [hU]; exact hP, va_K.moved hW.alike hK, va_Nw.warmM hW hN⟩⟩ rfl rfl hl.1 rfl (lv_room (Nat.le_of_ble_eq_true rfl)) dX6_wait_256 ⟨Nat.le_of_ble_eq_true rfl, Nat.le_of_ble_eq_true rfl⟩) hS (fun _ _ h => h) (fun _ h => h) (fun g17 tZ H locs ht hvm hwg17 hB hzZ hkZ hS => ?_)
      obtain ⟨hP, -⟩ := hB
      rw [ht] at hP
      obtain ⟨fg17_n0, hcg17⟩ := hwg17
      have fg17_k0 : g17 (71) = .inl (cJ, 169, .inr (.inl (fA3))) := (hcg17 (71) (by decide)).trans fg15_n1
      have fg17_k1 : g17 (72) = .inl (cJ, 169, .inr (.inl (fB3))) := (hcg17 (72) (by decide)).trans fg15_n2
      have fg17_k2 : g17 (73) = .inl (cJ, 13, .inr (.inl (fC3))) := (hcg17 (73) (by decide)).trans fg15_n3
      have fg17_k3 : g17 (74) = .inl (cJ, 13, .inr (.inl (fD3))) := (hcg17 (74) (by decide)).trans fg15_n4
      have fg17_k4 : g17 (67) = .inl (cI, 13, .inl (f7)) := (hcg17 (67) (by decide)).trans fg15_k0
      have fg17_k5 : g17 (68) = .inl (cI, 13, .inl (f8)) := (hcg17 (68) (by decide)).trans fg15_k1
      have fg17_k6 : g17 (69) = .inl (cI, 52, .inl (f9)) := (hcg17 (69) (by decide)).trans fg15_k2
      have fg17_k7 : g17 (70) = .inl (cI, 6, .inl (f0)) := (hcg17 (70) (by decide)).trans fg15_k3
      have fg17_k8 : g17 (63) = .inl (cI, 4, .inl (fw)) := (hcg17 (63) (by decide)).trans fg15_k4
      have fg17_k9 : g17 (64) = .inl (cI, 8, .inl (fsz)) := (hcg17 (64) (by decide)).trans fg15_k5
      have fg17_k10 : g17 (65) = .inl (cI, 40, .inl (fwd)) := (hcg17 (65) (by decide)).trans fg15_k6
      have fg17_k11 : g17 (75) = .inl (cJ, 13, .inr (.inl (fe))) := (hcg17 (75) (by decide)).trans fg15_k7
      have fg17_k12 : g17 (76) = .inl (cJ, 13, .inr (.inl (fd))) := (hcg17 (76) (by decide)).trans fg15_k8
      have hfrg17 : ∀ j : Nat, j ≠ 62 → j ≠ 67 → j ≠ 68 → j ≠ 69 → j ≠ 70 → j ≠ 71 → j ≠ 72 → j ≠ 73 → j ≠ 74 → j ≠ 75 → j ≠ 76 → g17 j = g j := fun j h0 h1 h2 h3 h4 h5 h6 h7 h8 h9 h10 => (hcg17 j h0).trans (hfrg15 j h0 h1 h2 h3 h4 h5 h6 h7 h8 h9 h10)
      refine lv_aload_n hx hb dX6_wait_259 rfl (lv_at hl 0 rfl) ?_
      refine lv_aload_n hx hb dX6_wait_260 rfl (lv_at hl 0 rfl) ?_
      refine xw_get hx hb hts hin6 hown hK hP (by decide) fg17_n0 rfl 18 (by decide) hf52 rfl rfl dX6_wait_261 ?_
      refine lv_iconst (v := nI (0)) hx hb dX6_wait_264 (by decide) ?_
      refine xw_lald hx hb hK hP (by decide) 1 fg17_k2 rfl (by omega) (by decide) dX6_wait_265 ?_
      rw [(hSv 0 (by omega)).1]
      refine lv_aload_n hx hb dX6_wait_266 rfl (lv_at hl 0 rfl) ?_
      refine xw_get hx hb hts hin6 hown hK hP (by decide) fg17_n0 rfl 19 (by decide) hf55 rfl rfl dX6_wait_267 ?_
      refine lv_iconst (v := nI (0)) hx hb dX6_wait_270 (by decide) ?_
      refine xw_lald hx hb hK hP (by decide) 1 fg17_k3 rfl (by omega) (by decide) dX6_wait_271 ?_
      rw [(hSv 0 (by omega)).2]
      refine lv_aload_n hx hb dX6_wait_272 rfl (lv_at hl 0 rfl) ?_
      refine xw_get hx hb hts hin6 hown hK hP (by decide) fg17_n0 rfl 9 (by decide) hf106 rfl rfl dX6_wait_273 ?_
      refine lv_aload_n hx hb dX6_wait_276 rfl (lv_at hl 0 rfl) ?_
      refine xw_get hx hb hts hin6 hown hK hP (by decide) fg17_n0 rfl 10 (by decide) hf109 rfl rfl dX6_wait_277 ?_
      refine va_callv (va_runV (As := [.long (lZ ((sM Wt w gof q ns 0).num)), .long (lZ (((sM Wt w gof q ns 0).den : Int))), .long (lZ (((-(eM Wt w gof q ns 0)) * (eM Wt w gof q ns 0)).num)), .long (lZ ((((-(eM Wt w gof q ns 0)) * (eM Wt w gof q ns 0)).den : Int)))]) (rest := []) ⟨hx, hb, hml, hown, hts⟩ (mX6_add l hD (w := w) (ln := ln) (t := t) (u := u) (x := sM Wt w gof q ns 0) (y := (-(eM Wt w gof q ns 0)) * (eM Wt w gof q ns 0)) fg17_n0 rfl rfl rfl rfl (hF3.2.2.1.2 0 (by omega)) hF3.2.2.2.1 hF3.2.2.2.2.1) (cwV 4 hts gX6_wait_X6_add rfl rfl rfl (by decide +kernel) ⟨Nat.le_of_ble_eq_true rfl, Nat.le_of_ble_eq_true rfl⟩) ⟨xB_blind, va_recv hK hP (ci := 6) rfl (xw_is (by decide) fg17_n0), fun U hU hW => ⟨rfl, by rw [hU]; exact hP, va_K.moved hW.alike hK, va_Nw.warmM hW hN⟩⟩ rfl rfl hl.1 rfl (lv_room (Nat.le_of_ble_eq_true rfl)) dX6_wait_280 ⟨Nat.le_of_ble_eq_true rfl, Nat.le_of_ble_eq_true rfl⟩) hS (fun _ _ h => h) (fun _ h => h) (fun g19 tZ H locs ht hvm hwg19 hB hzZ hkZ hS => ?_)
      obtain ⟨hP, -⟩ := hB
      rw [ht] at hP
      obtain ⟨fg19_n0, hcg19⟩ := hwg19
      have fg19_k0 : g19 (71) = .inl (cJ, 169, .inr (.inl (fA3))) := (hcg19 (71) (by decide)).trans fg17_k0
      have fg19_k1 : g19 (72) = .inl (cJ, 169, .inr (.inl (fB3))) := (hcg19 (72) (by decide)).trans fg17_k1
      have fg19_k2 : g19 (73) = .inl (cJ, 13, .inr (.inl (fC3))) := (hcg19 (73) (by decide)).trans fg17_k2
      have fg19_k3 : g19 (74) = .inl (cJ, 13, .inr (.inl (fD3))) := (hcg19 (74) (by decide)).trans fg17_k3
      have fg19_k4 : g19 (67) = .inl (cI, 13, .inl (f7)) := (hcg19 (67) (by decide)).trans fg17_k4
      have fg19_k5 : g19 (68) = .inl (cI, 13, .inl (f8)) := (hcg19 (68) (by decide)).trans fg17_k5
      have fg19_k6 : g19 (69) = .inl (cI, 52, .inl (f9)) := (hcg19 (69) (by decide)).trans fg17_k6
      have fg19_k7 : g19 (70) = .inl (cI, 6, .inl (f0)) := (hcg19 (70) (by decide)).trans fg17_k7
      have fg19_k8 : g19 (63) = .inl (cI, 4, .inl (fw)) := (hcg19 (63) (by decide)).trans fg17_k8
      have fg19_k9 : g19 (64) = .inl (cI, 8, .inl (fsz)) := (hcg19 (64) (by decide)).trans fg17_k9
      have fg19_k10 : g19 (65) = .inl (cI, 40, .inl (fwd)) := (hcg19 (65) (by decide)).trans fg17_k10
      have fg19_k11 : g19 (75) = .inl (cJ, 13, .inr (.inl (fe))) := (hcg19 (75) (by decide)).trans fg17_k11
      have fg19_k12 : g19 (76) = .inl (cJ, 13, .inr (.inl (fd))) := (hcg19 (76) (by decide)).trans fg17_k12
      have hfrg19 : ∀ j : Nat, j ≠ 62 → j ≠ 67 → j ≠ 68 → j ≠ 69 → j ≠ 70 → j ≠ 71 → j ≠ 72 → j ≠ 73 → j ≠ 74 → j ≠ 75 → j ≠ 76 → g19 j = g j := fun j h0 h1 h2 h3 h4 h5 h6 h7 h8 h9 h10 => (hcg19 j h0).trans (hfrg17 j h0 h1 h2 h3 h4 h5 h6 h7 h8 h9 h10)
      refine lv_aload_n hx hb dX6_wait_283 rfl (lv_at hl 0 rfl) ?_
      refine lv_aload_n hx hb dX6_wait_284 rfl (lv_at hl 0 rfl) ?_
      refine xw_get hx hb hts hin6 hown hK hP (by decide) fg19_n0 rfl 9 (by decide) hf106 rfl rfl dX6_wait_285 ?_
      refine lv_aload_n hx hb dX6_wait_288 rfl (lv_at hl 0 rfl) ?_
      refine xw_get hx hb hts hin6 hown hK hP (by decide) fg19_n0 rfl 10 (by decide) hf109 rfl rfl dX6_wait_289 ?_
      refine va_callv (va_runV (As := [.long (lZ (((sM Wt w gof q ns 0) + ((-(eM Wt w gof q ns 0)) * (eM Wt w gof q ns 0))).num)), .long (lZ ((((sM Wt w gof q ns 0) + ((-(eM Wt w gof q ns 0)) * (eM Wt w gof q ns 0))).den : Int)))]) (rest := []) ⟨hx, hb, hml, hown, hts⟩ (mX6_atHand l hD (w := w) (ln := ln) (t := t) (u := u) (a := ((sM Wt w gof q ns 0) + ((-(eM Wt w gof q ns 0)) * (eM Wt w gof q ns 0))).num) (b := (((sM Wt w gof q ns 0) + ((-(eM Wt w gof q ns 0)) * (eM Wt w gof q ns 0))).den : Int)) fg19_n0 ⟨hF3.2.2.2.2.2.1, hF3.2.2.2.2.2.2.1⟩ ⟨by have h9 := ((sM Wt w gof q ns 0) + ((-(eM Wt w gof q ns 0)) * (eM Wt w gof q ns 0))).den_pos; omega, hF3.2.2.2.2.2.2.2⟩) (cwV 2 hts gX6_wait_X6_atHand rfl rfl rfl (by decide +kernel) ⟨Nat.le_of_ble_eq_true rfl, Nat.le_of_ble_eq_true rfl⟩) ⟨xB_blind, va_recv hK hP (ci := 6) rfl (xw_is (by decide) fg19_n0), fun U hU hW => ⟨rfl, by rw [hU]; exact hP, va_K.moved hW.alike hK, va_Nw.warmM hW hN⟩⟩ rfl rfl hl.1 rfl (lv_room (Nat.le_of_ble_eq_true rfl)) dX6_wait_292 ⟨Nat.le_of_ble_eq_true rfl, Nat.le_of_ble_eq_true rfl⟩) hS (fun _ _ h => h) (fun _ h => h) (fun g21 tZ H locs ht hvm hwg21 hB hzZ hkZ hS => ?_)
      obtain ⟨hP, -⟩ := hB
      rw [ht] at hP
      obtain ⟨fg21_n0, hcg21⟩ := hwg21
      have fg21_k0 : g21 (71) = .inl (cJ, 169, .inr (.inl (fA3))) := (hcg21 (71) (by decide)).trans fg19_k0
      have fg21_k1 : g21 (72) = .inl (cJ, 169, .inr (.inl (fB3))) := (hcg21 (72) (by decide)).trans fg19_k1
      have fg21_k2 : g21 (73) = .inl (cJ, 13, .inr (.inl (fC3))) := (hcg21 (73) (by decide)).trans fg19_k2
      have fg21_k3 : g21 (74) = .inl (cJ, 13, .inr (.inl (fD3))) := (hcg21 (74) (by decide)).trans fg19_k3
      have fg21_k4 : g21 (67) = .inl (cI, 13, .inl (f7)) := (hcg21 (67) (by decide)).trans fg19_k4
      have fg21_k5 : g21 (68) = .inl (cI, 13, .inl (f8)) := (hcg21 (68) (by decide)).trans fg19_k5
      have fg21_k6 : g21 (69) = .inl (cI, 52, .inl (f9)) := (hcg21 (69) (by decide)).trans fg19_k6
      have fg21_k7 : g21 (70) = .inl (cI, 6, .inl (f0)) := (hcg21 (70) (by decide)).trans fg19_k7
      have fg21_k8 : g21 (63) = .inl (cI, 4, .inl (fw)) := (hcg21 (63) (by decide)).trans fg19_k8
      have fg21_k9 : g21 (64) = .inl (cI, 8, .inl (fsz)) := (hcg21 (64) (by decide)).trans fg19_k9
      have fg21_k10 : g21 (65) = .inl (cI, 40, .inl (fwd)) := (hcg21 (65) (by decide)).trans fg19_k10
      have fg21_k11 : g21 (75) = .inl (cJ, 13, .inr (.inl (fe))) := (hcg21 (75) (by decide)).trans fg19_k11
      have fg21_k12 : g21 (76) = .inl (cJ, 13, .inr (.inl (fd))) := (hcg21 (76) (by decide)).trans fg19_k12
      have hfrg21 : ∀ j : Nat, j ≠ 62 → j ≠ 67 → j ≠ 68 → j ≠ 69 → j ≠ 70 → j ≠ 71 → j ≠ 72 → j ≠ 73 → j ≠ 74 → j ≠ 75 → j ≠ 76 → g21 j = g j := fun j h0 h1 h2 h3 h4 h5 h6 h7 h8 h9 h10 => (hcg21 j h0).trans (hfrg19 j h0 h1 h2 h3 h4 h5 h6 h7 h8 h9 h10)
      rw [divInt_nd] at fg21_n0
      refine lv_iconst (v := nI (1)) hx hb dX6_wait_295 (by decide) ?_
      exact W.zret (v := nI (1)) hx hb hr (by decide) (fun tZ ht hW => ⟨⟨_, g21, rfl, (by have hO : oWait Wt w ln u (nI k1) (nI 1) = some ((sM Wt w gof q ns 0) + ((-(eM Wt w gof q ns 0)) * (eM Wt w gof q ns 0))) := (by unfold oWait; rw [slotW_yes hk1 hp1, hF4]; rfl); show _ = (if (oWait Wt w ln u (nI k1) (nI 1)).isSome then 1 else 0) ∧ _; rw [hO]; exact ⟨rfl, ⟨_, _, _, _, _, _, _, _, _, _, _, _, _, _, _, _, _, _, _, _, _, fg21_n0, fg21_k8, fg21_k9, fg21_k10, ((hfrg21) 66 (by decide) (by decide) (by decide) (by decide) (by decide) (by decide) (by decide) (by decide) (by decide) (by decide) (by decide)).trans fa66, fg21_k4, fg21_k5, fg21_k6, fg21_k7, fg21_k0, fg21_k1, fg21_k2, fg21_k3, fg21_k11, fg21_k12, ((hfrg21) 77 (by decide) (by decide) (by decide) (by decide) (by decide) (by decide) (by decide) (by decide) (by decide) (by decide) (by decide)).trans fa77, ((hfrg21) 78 (by decide) (by decide) (by decide) (by decide) (by decide) (by decide) (by decide) (by decide) (by decide) (by decide) (by decide)).trans fa78, ((hfrg21) 79 (by decide) (by decide) (by decide) (by decide) (by decide) (by decide) (by decide) (by decide) (by decide) (by decide) (by decide)).trans fa79, ((hfrg21) 80 (by decide) (by decide) (by decide) (by decide) (by decide) (by decide) (by decide) (by decide) (by decide) (by decide) (by decide)).trans fa80, hfw, hsz, hwl, htx⟩, fun j hj => (hfrg21) j (by omega) (by omega) (by omega) (by omega) (by omega) (by omega) (by omega) (by omega) (by omega) (by omega) (by omega)⟩), by rw [ht]; exact hP, va_K.moved hW.alike hK, va_Nw.warmM hW hN⟩, hS.F ht⟩) hS.2.2 dX6_wait_296
    · refine lv_aload_n hx hb dX6_wait_101 rfl (lv_at hl 0 rfl) ?_
      refine xw_get hx hb hts hin6 hown hK hP (by decide) kg62 rfl 1 (by decide) hf13 rfl rfl dX6_wait_102 ?_
      refine xi_i2l hx hb (by omega) dX6_wait_105 ?_
      refine lv_lstore (lv' := [(4, .long (lZ (((Wt : Nat) : Int)))), (0, .ref (ad (62))), (3, .int (nI (i)))]) hx hb dX6_wait_106 hl (by decide) rfl (fun ls hl => ?_)
      refine lv_lconst (v := lZ (1)) hx hb dX6_wait_108 (by decide) ?_
      refine lv_lstore (lv' := [(6, .long (lZ (1))), (4, .long (lZ (((Wt : Nat) : Int)))), (0, .ref (ad (62))), (3, .int (nI (i)))]) hx hb dX6_wait_109 hl (by decide) rfl (fun ls hl => ?_)
      refine lv_iconst (v := nI (0)) hx hb dX6_wait_111 (by decide) ?_
      refine lv_istore (lv' := [(8, .int (nI (0))), (6, .long (lZ (1))), (4, .long (lZ (((Wt : Nat) : Int)))), (0, .ref (ad (62))), (3, .int (nI (i)))]) hx hb dX6_wait_112 hl (by decide) rfl (fun ls hl => ?_)
      refine xloopW (G := fun H locs fr => W p l e _ s m _ below meth c H locs _ _ _ fr) (σ := Nat × Int64 × Int64) (fun (c0, nx, dx) ls => F0 m 114 ls []) (fun (c0, nx, dx) gl114_23 H locs ls => (c0 ≤ q) ∧ gl114_23 (71) = .inl (cJ, 169, .inr (.inl (fA4))) ∧ gl114_23 (72) = .inl (cJ, 169, .inr (.inl (fB4))) ∧ gl114_23 (62) = .inr (6, [.int (nI (q)), .int (nI (Wt)), .ref (ad (63)), .ref (ad (64)), .ref (ad (65)), .ref (ad (66)), .int (nI (T)), .long (tp), .long (bt), .long (nx), .long (dx), .int (nI (ns)), .ref (ad (67)), .ref (ad (68)), .ref (ad (69)), .ref (ad (70)), .ref (ad (71)), .ref (ad (72)), .ref (ad (73)), .ref (ad (74)), .ref (ad (75)), .ref (ad (76)), .ref (ad (77)), .ref (ad (78)), .ref (ad (79)), .ref (ad (80))]) ∧ gl114_23 (67) = .inl (cI, 13, .inl (f7)) ∧ gl114_23 (68) = .inl (cI, 13, .inl (f8)) ∧ gl114_23 (69) = .inl (cI, 52, .inl (f9)) ∧ gl114_23 (70) = .inl (cI, 6, .inl (f0)) ∧ gl114_23 (73) = .inl (cJ, 13, .inr (.inl (fC))) ∧ gl114_23 (74) = .inl (cJ, 13, .inr (.inl (fD))) ∧ gl114_23 (63) = .inl (cI, 4, .inl (fw)) ∧ gl114_23 (64) = .inl (cI, 8, .inl (fsz)) ∧ gl114_23 (65) = .inl (cI, 40, .inl (fwd)) ∧ gl114_23 (75) = .inl (cJ, 13, .inr (.inl (fe))) ∧ gl114_23 (76) = .inl (cJ, 13, .inr (.inl (fd))) ∧ (∀ j : Nat, j ≠ 62 → j ≠ 67 → j ≠ 68 → j ≠ 69 → j ≠ 70 → j ≠ 71 → j ≠ 72 → j ≠ 73 → j ≠ 74 → j ≠ 75 → j ≠ 76 → gl114_23 j = g j) ∧ va_P D vwCl (xw 81 ad gl114_23) H ∧ va_S A s.heap H locs ∧ lv_has ls 10 [(0, .ref (ad (62))), (3, .int (nI (i))), (4, .long (lZ ((r2S Wt w gof (eM Wt w gof q ns) i (c0)).num))), (6, .long (lZ (((r2S Wt w gof (eM Wt w gof q ns) i (c0)).den : Int)))), (8, .int (nI (c0)))]) (fun (c0, nx, dx) => q - c0) ?_ (0, nx, dx) gl93_13 H locs ls ⟨(Nat.zero_le _), kg71, kg72, kg62, kg67, kg68, kg69, kg70, kg73, kg74, kg63, kg64, kg65, kg75, kg76, hfrgl93_13, hP, hS, (by rw [show r2S Wt w gof (eM Wt w gof q ns) i 0 = Rat.divInt ((Wt : Nat) : Int) 1 from rfl, divInt_1n.1, divInt_1n.2]; exact (lv_sub hl [3, 4, 2, 1, 0] rfl))⟩
      rintro ⟨c0, nx, dx⟩ gl114_23 H locs ls ⟨hc0, kg71, kg72, kg62, kg67, kg68, kg69, kg70, kg73, kg74, kg63, kg64, kg65, kg75, kg76, hfrgl114_23, hP, hS, hl⟩ ih114
      refine lv_iload hx hb dX6_wait_114 (lv_at hl 4 rfl) ?_
      refine lv_aload_n hx hb dX6_wait_116 rfl (lv_at hl 0 rfl) ?_
      refine xw_get hx hb hts hin6 hown hK hP (by decide) kg62 rfl 0 (by decide) hf7 rfl rfl dX6_wait_117 ?_
      refine xi_icmp_ge (tgt := 211) hx hb (by omega) (by omega) dX6_wait_120 (by decide) (fun c120_24 => ?_) (fun c120_24 => ?_)
      · refine lv_aload_n hx hb dX6_wait_211 rfl (lv_at hl 0 rfl) ?_
        refine lv_iload_n hx hb dX6_wait_212 rfl (lv_at hl 1 rfl) ?_
        refine lv_lload hx hb dX6_wait_213 (lv_at hl 2 rfl) ?_
        refine lv_lload hx hb dX6_wait_215 (lv_at hl 3 rfl) ?_
        refine va_callv (va_runV (As := [.int (nI (i)), .long (lZ ((r2S Wt w gof (eM Wt w gof q ns) i (c0)).num)), .long (lZ (((r2S Wt w gof (eM Wt w gof q ns) i (c0)).den : Int)))]) (rest := []) ⟨hx, hb, hml, hown, hts⟩ (mX6_own l hD (w := w) (ln := ln) (t := t) (u := u) kg62 kg73 kg74 ⟨(hF3.2.1 i c0 (by omega) (by omega)).1, (hF3.2.1 i c0 (by omega) (by omega)).2.1⟩ ⟨by have h9 := (r2S Wt w gof (eM Wt w gof q ns) i (c0)).den_pos; omega, (hF3.2.1 i c0 (by omega) (by omega)).2.2⟩ (by omega)) (cwV 3 hts gX6_wait_X6_own rfl rfl rfl (by decide +kernel) ⟨Nat.le_of_ble_eq_true rfl, Nat.le_of_ble_eq_true rfl⟩) ⟨xB_blind, va_recv hK hP (ci := 6) rfl (xw_is (by decide) kg62), fun U hU hW => ⟨rfl, by rw [hU]; exact hP, va_K.moved hW.alike hK, va_Nw.warmM hW hN⟩⟩ rfl rfl hl.1 rfl (lv_room (Nat.le_of_ble_eq_true rfl)) dX6_wait_217 ⟨Nat.le_of_ble_eq_true rfl, Nat.le_of_ble_eq_true rfl⟩) hS (fun _ _ h => h) (fun _ h => h) (fun g25 tZ H locs ht hvm hwg25 hB hzZ hkZ hS => ?_)
        obtain ⟨hP, -⟩ := hB
        rw [ht] at hP
        obtain ⟨fg25_n0, fg25_n1, fg25_n2, hcg25⟩ := hwg25
        have fg25_k0 : g25 (71) = .inl (cJ, 169, .inr (.inl (fA4))) := (hcg25 (71) (by decide) (by decide) (by decide)).trans kg71
        have fg25_k1 : g25 (72) = .inl (cJ, 169, .inr (.inl (fB4))) := (hcg25 (72) (by decide) (by decide) (by decide)).trans kg72
        have fg25_k2 : g25 (67) = .inl (cI, 13, .inl (f7)) := (hcg25 (67) (by decide) (by decide) (by decide)).trans kg67
        have fg25_k3 : g25 (68) = .inl (cI, 13, .inl (f8)) := (hcg25 (68) (by decide) (by decide) (by decide)).trans kg68
        have fg25_k4 : g25 (69) = .inl (cI, 52, .inl (f9)) := (hcg25 (69) (by decide) (by decide) (by decide)).trans kg69
        have fg25_k5 : g25 (70) = .inl (cI, 6, .inl (f0)) := (hcg25 (70) (by decide) (by decide) (by decide)).trans kg70
        have fg25_k6 : g25 (63) = .inl (cI, 4, .inl (fw)) := (hcg25 (63) (by decide) (by decide) (by decide)).trans kg63
        have fg25_k7 : g25 (64) = .inl (cI, 8, .inl (fsz)) := (hcg25 (64) (by decide) (by decide) (by decide)).trans kg64
        have fg25_k8 : g25 (65) = .inl (cI, 40, .inl (fwd)) := (hcg25 (65) (by decide) (by decide) (by decide)).trans kg65
        have fg25_k9 : g25 (75) = .inl (cJ, 13, .inr (.inl (fe))) := (hcg25 (75) (by decide) (by decide) (by decide)).trans kg75
        have fg25_k10 : g25 (76) = .inl (cJ, 13, .inr (.inl (fd))) := (hcg25 (76) (by decide) (by decide) (by decide)).trans kg76
        have hfrg25 : ∀ j : Nat, j ≠ 62 → j ≠ 67 → j ≠ 68 → j ≠ 69 → j ≠ 70 → j ≠ 71 → j ≠ 72 → j ≠ 73 → j ≠ 74 → j ≠ 75 → j ≠ 76 → g25 j = g j := fun j h0 h1 h2 h3 h4 h5 h6 h7 h8 h9 h10 => (hcg25 j h0 h7 h8).trans (hfrgl114_23 j h0 h1 h2 h3 h4 h5 h6 h7 h8 h9 h10)
        refine lv_iinc (v := nI (i + 1)) (lv' := [(3, .int (nI (i + 1))), (0, .ref (ad (62))), (4, .long (lZ ((r2S Wt w gof (eM Wt w gof q ns) i (c0)).num))), (6, .long (lZ (((r2S Wt w gof (eM Wt w gof q ns) i (c0)).den : Int)))), (8, .int (nI (c0)))]) hx hb dX6_wait_220 hl (k := 1) rfl (nI_add (i) 1) (by decide) rfl (fun ls hl => ?_)
        refine lv_goto (tgt := 93) hx hb dX6_wait_223 (by decide) ?_
        exact ih93 (i + 1, vp_updL (fC) (i) (lZ ((Rat.divInt ((r2S Wt w gof (eM Wt w gof q ns) i (c0)).num) (((r2S Wt w gof (eM Wt w gof q ns) i (c0)).den : Int))).num)), vp_updL (fD) (i) (lZ (((Rat.divInt ((r2S Wt w gof (eM Wt w gof q ns) i (c0)).num) (((r2S Wt w gof (eM Wt w gof q ns) i (c0)).den : Int))).den : Int))), lZ ((Rat.divInt ((r2S Wt w gof (eM Wt w gof q ns) i (c0)).num) (((r2S Wt w gof (eM Wt w gof q ns) i (c0)).den : Int))).num), lZ (((Rat.divInt ((r2S Wt w gof (eM Wt w gof q ns) i (c0)).num) (((r2S Wt w gof (eM Wt w gof q ns) i (c0)).den : Int))).den : Int))) g25 H locs ls ⟨(by omega), (fun x hx => if e : x = i then by rw [e, pk_uLs, pk_uLs, divInt_nd, show c0 = q by omega]; exact ⟨rfl, rfl⟩ else by rw [pk_uLn e, pk_uLn e]; exact hRv x (by omega)), fg25_k0, fg25_k1, fg25_n0, fg25_k2, fg25_k3, fg25_k4, fg25_k5, fg25_n1, fg25_n2, fg25_k6, fg25_k7, fg25_k8, fg25_k9, fg25_k10, hfrg25, hP, hS, (lv_sub hl [1, 0] rfl)⟩ (by first | omega | (dsimp only; omega))
      · refine lv_aload_n hx hb dX6_wait_123 rfl (lv_at hl 0 rfl) ?_
        refine xw_get hx hb hts hin6 hown hK hP (by decide) kg62 rfl 14 (by decide) hf39 rfl rfl dX6_wait_124 ?_
        refine lv_iconst (v := nI (4)) hx hb dX6_wait_127 (by decide) ?_
        refine lv_iload_n hx hb dX6_wait_128 rfl (lv_at hl 1 rfl) ?_
        refine xi_mul hx hb dX6_wait_129 ?_
        refine lv_iload hx hb dX6_wait_130 (lv_at hl 4 rfl) ?_
        refine xi_add hx hb dX6_wait_132 ?_
        refine xw_iald hx hb hK hP (by decide) 0 kg69 rfl (by omega) (by decide) dX6_wait_133 ?_
        rw [hgo i c0 (by omega) (by omega)]
        refine lv_istore (lv' := [(9, .int (nI (gof (4 * i + c0)))), (0, .ref (ad (62))), (3, .int (nI (i))), (4, .long (lZ ((r2S Wt w gof (eM Wt w gof q ns) i (c0)).num))), (6, .long (lZ (((r2S Wt w gof (eM Wt w gof q ns) i (c0)).den : Int)))), (8, .int (nI (c0)))]) hx hb dX6_wait_134 hl (by decide) rfl (fun ls hl => ?_)
        refine lv_iload hx hb dX6_wait_136 (lv_at hl 0 rfl) ?_
        refine lv_bipush (v := nI (100)) hx hb dX6_wait_138 (by decide) ?_
        refine xi_icmp_lt (tgt := 146) hx hb (by have h9 := hgb i c0 (by omega) (by omega); omega) (by decide) dX6_wait_140 (by decide) (fun c140_27 => ?_) (fun c140_27 => ?_)
        · have hgn : gof (4 * i + c0) < ns := by have h9 := hgb i c0 (by omega) (by omega); omega
          obtain ⟨hX1, hX2⟩ := hF3.1 i c0 (by omega) (by omega) hgn
          refine lv_aload_n hx hb dX6_wait_146 rfl (lv_at hl 1 rfl) ?_
          refine lv_ldc2 (v := lZ (2)) hx hb hown (hts (.constantLong RX6 170 (2)) (by decide +kernel)) dX6_wait_147 ?_
          refine lv_aload_n hx hb dX6_wait_150 rfl (lv_at hl 1 rfl) ?_
          refine xw_get hx hb hts hin6 hown hK hP (by decide) kg62 rfl 2 (by decide) hf16 rfl rfl dX6_wait_151 ?_
          refine lv_iload hx hb dX6_wait_154 (lv_at hl 5 rfl) ?_
          refine xw_iald hx hb hK hP (by decide) 0 kg63 rfl (by omega) (by decide) dX6_wait_156 ?_
          rw [hfw (c0) (by omega)]
          refine xi_i2l hx hb (by have h9 := hw c0 (by omega); omega) dX6_wait_157 ?_
          refine xl_mul hx hb dX6_wait_158 ?_
          refine lv_lconst (v := lZ (1)) hx hb dX6_wait_159 (by decide) ?_
          refine lv_aload_n hx hb dX6_wait_160 rfl (lv_at hl 1 rfl) ?_
          refine xw_get hx hb hts hin6 hown hK hP (by decide) kg62 rfl 20 (by decide) hf58 rfl rfl dX6_wait_161 ?_
          refine lv_iload hx hb dX6_wait_164 (lv_at hl 0 rfl) ?_
          refine xw_lald hx hb hK hP (by decide) 1 kg75 rfl (by omega) (by decide) dX6_wait_166 ?_
          rw [(hfe (gof (4 * i + c0)) (by omega)).1]
          refine lv_aload_n hx hb dX6_wait_167 rfl (lv_at hl 1 rfl) ?_
          refine xw_get hx hb hts hin6 hown hK hP (by decide) kg62 rfl 21 (by decide) hf61 rfl rfl dX6_wait_168 ?_
          refine lv_iload hx hb dX6_wait_171 (lv_at hl 0 rfl) ?_
          refine xw_lald hx hb hK hP (by decide) 1 kg76 rfl (by omega) (by decide) dX6_wait_173 ?_
          rw [(hfe (gof (4 * i + c0)) (by omega)).2]
          refine va_callv (va_runV (As := [.long (lZ (2 * (((w (c0) : Nat) : Int)))), .long (lZ (1)), .long (lZ ((eM Wt w gof q ns (gof (4 * i + c0))).num)), .long (lZ (((eM Wt w gof q ns (gof (4 * i + c0))).den : Int)))]) (rest := []) ⟨hx, hb, hml, hown, hts⟩ (mX6_times l hD (w := w) (ln := ln) (t := t) (u := u) (x := Rat.divInt (2 * ((w c0 : Nat) : Int)) 1) (y := eM Wt w gof q ns (gof (4 * i + c0))) kg62 divInt_1n.1.symm (by rw [divInt_1n.2]; rfl) rfl rfl (fitR_i (by have h9 := hw c0 (by omega); omega)) (hF1.2 _ hgn) hX1) (cwV 4 hts gX6_wait_X6_times rfl rfl rfl (by decide +kernel) ⟨Nat.le_of_ble_eq_true rfl, Nat.le_of_ble_eq_true rfl⟩) ⟨xB_blind, va_recv hK hP (ci := 6) rfl (xw_is (by decide) kg62), fun U hU hW => ⟨rfl, by rw [hU]; exact hP, va_K.moved hW.alike hK, va_Nw.warmM hW hN⟩⟩ rfl rfl hl.1 rfl (lv_room (Nat.le_of_ble_eq_true rfl)) dX6_wait_174 ⟨Nat.le_of_ble_eq_true rfl, Nat.le_of_ble_eq_true rfl⟩) hS (fun _ _ h => h) (fun _ h => h) (fun g28 tZ H locs ht hvm hwg28 hB hzZ hkZ hS => ?_)
          obtain ⟨hP, -⟩ := hB
          rw [ht] at hP
          obtain ⟨fg28_n0, hcg28⟩ := hwg28
          have fg28_k0 : g28 (71) = .inl (cJ, 169, .inr (.inl (fA4))) := (hcg28 (71) (by decide)).trans kg71
          have fg28_k1 : g28 (72) = .inl (cJ, 169, .inr (.inl (fB4))) := (hcg28 (72) (by decide)).trans kg72
          have fg28_k2 : g28 (67) = .inl (cI, 13, .inl (f7)) := (hcg28 (67) (by decide)).trans kg67
          have fg28_k3 : g28 (68) = .inl (cI, 13, .inl (f8)) := (hcg28 (68) (by decide)).trans kg68
          have fg28_k4 : g28 (69) = .inl (cI, 52, .inl (f9)) := (hcg28 (69) (by decide)).trans kg69
          have fg28_k5 : g28 (70) = .inl (cI, 6, .inl (f0)) := (hcg28 (70) (by decide)).trans kg70
          have fg28_k6 : g28 (73) = .inl (cJ, 13, .inr (.inl (fC))) := (hcg28 (73) (by decide)).trans kg73
          have fg28_k7 : g28 (74) = .inl (cJ, 13, .inr (.inl (fD))) := (hcg28 (74) (by decide)).trans kg74
          have fg28_k8 : g28 (63) = .inl (cI, 4, .inl (fw)) := (hcg28 (63) (by decide)).trans kg63
          have fg28_k9 : g28 (64) = .inl (cI, 8, .inl (fsz)) := (hcg28 (64) (by decide)).trans kg64
          have fg28_k10 : g28 (65) = .inl (cI, 40, .inl (fwd)) := (hcg28 (65) (by decide)).trans kg65
          have fg28_k11 : g28 (75) = .inl (cJ, 13, .inr (.inl (fe))) := (hcg28 (75) (by decide)).trans kg75
          have fg28_k12 : g28 (76) = .inl (cJ, 13, .inr (.inl (fd))) := (hcg28 (76) (by decide)).trans kg76
          have hfrg28 : ∀ j : Nat, j ≠ 62 → j ≠ 67 → j ≠ 68 → j ≠ 69 → j ≠ 70 → j ≠ 71 → j ≠ 72 → j ≠ 73 → j ≠ 74 → j ≠ 75 → j ≠ 76 → g28 j = g j := fun j h0 h1 h2 h3 h4 h5 h6 h7 h8 h9 h10 => (hcg28 j h0).trans (hfrgl114_23 j h0 h1 h2 h3 h4 h5 h6 h7 h8 h9 h10)
          refine lv_aload_n hx hb dX6_wait_177 rfl (lv_at hl 1 rfl) ?_
          refine lv_lload hx hb dX6_wait_178 (lv_at hl 3 rfl) ?_
          refine lv_lload hx hb dX6_wait_180 (lv_at hl 4 rfl) ?_
          refine lv_aload_n hx hb dX6_wait_182 rfl (lv_at hl 1 rfl) ?_
          refine xw_get hx hb hts hin6 hown hK hP (by decide) fg28_n0 rfl 9 (by decide) hf106 rfl rfl dX6_wait_183 ?_
          refine lv_aload_n hx hb dX6_wait_186 rfl (lv_at hl 1 rfl) ?_
          refine xw_get hx hb hts hin6 hown hK hP (by decide) fg28_n0 rfl 10 (by decide) hf109 rfl rfl dX6_wait_187 ?_
          refine va_callv (va_runV (As := [.long (lZ ((r2S Wt w gof (eM Wt w gof q ns) i (c0)).num)), .long (lZ (((r2S Wt w gof (eM Wt w gof q ns) i (c0)).den : Int))), .long (lZ (((Rat.divInt (2 * ((w c0 : Nat) : Int)) 1) * (eM Wt w gof q ns (gof (4 * i + c0)))).num)), .long (lZ ((((Rat.divInt (2 * ((w c0 : Nat) : Int)) 1) * (eM Wt w gof q ns (gof (4 * i + c0)))).den : Int)))]) (rest := []) ⟨hx, hb, hml, hown, hts⟩ (mX6_add l hD (w := w) (ln := ln) (t := t) (u := u) (x := r2S Wt w gof (eM Wt w gof q ns) i (c0)) (y := (Rat.divInt (2 * ((w c0 : Nat) : Int)) 1) * (eM Wt w gof q ns (gof (4 * i + c0)))) fg28_n0 rfl rfl rfl rfl (hF3.2.1 i c0 (by omega) (by omega)) hX1 hX2) (cwV 4 hts gX6_wait_X6_add rfl rfl rfl (by decide +kernel) ⟨Nat.le_of_ble_eq_true rfl, Nat.le_of_ble_eq_true rfl⟩) ⟨xB_blind, va_recv hK hP (ci := 6) rfl (xw_is (by decide) fg28_n0), fun U hU hW => ⟨rfl, by rw [hU]; exact hP, va_K.moved hW.alike hK, va_Nw.warmM hW hN⟩⟩ rfl rfl hl.1 rfl (lv_room (Nat.le_of_ble_eq_true rfl)) dX6_wait_190 ⟨Nat.le_of_ble_eq_true rfl, Nat.le_of_ble_eq_true rfl⟩) hS (fun _ _ h => h) (fun _ h => h) (fun g30 tZ H locs ht hvm hwg30 hB hzZ hkZ hS => ?_)
          obtain ⟨hP, -⟩ := hB
          rw [ht] at hP
          obtain ⟨fg30_n0, hcg30⟩ := hwg30
          have fg30_k0 : g30 (71) = .inl (cJ, 169, .inr (.inl (fA4))) := (hcg30 (71) (by decide)).trans fg28_k0
          have fg30_k1 : g30 (72) = .inl (cJ, 169, .inr (.inl (fB4))) := (hcg30 (72) (by decide)).trans fg28_k1
          have fg30_k2 : g30 (67) = .inl (cI, 13, .inl (f7)) := (hcg30 (67) (by decide)).trans fg28_k2
          have fg30_k3 : g30 (68) = .inl (cI, 13, .inl (f8)) := (hcg30 (68) (by decide)).trans fg28_k3
          have fg30_k4 : g30 (69) = .inl (cI, 52, .inl (f9)) := (hcg30 (69) (by decide)).trans fg28_k4
          have fg30_k5 : g30 (70) = .inl (cI, 6, .inl (f0)) := (hcg30 (70) (by decide)).trans fg28_k5
          have fg30_k6 : g30 (73) = .inl (cJ, 13, .inr (.inl (fC))) := (hcg30 (73) (by decide)).trans fg28_k6
          have fg30_k7 : g30 (74) = .inl (cJ, 13, .inr (.inl (fD))) := (hcg30 (74) (by decide)).trans fg28_k7
          have fg30_k8 : g30 (63) = .inl (cI, 4, .inl (fw)) := (hcg30 (63) (by decide)).trans fg28_k8
          have fg30_k9 : g30 (64) = .inl (cI, 8, .inl (fsz)) := (hcg30 (64) (by decide)).trans fg28_k9
          have fg30_k10 : g30 (65) = .inl (cI, 40, .inl (fwd)) := (hcg30 (65) (by decide)).trans fg28_k10
          have fg30_k11 : g30 (75) = .inl (cJ, 13, .inr (.inl (fe))) := (hcg30 (75) (by decide)).trans fg28_k11
          have fg30_k12 : g30 (76) = .inl (cJ, 13, .inr (.inl (fd))) := (hcg30 (76) (by decide)).trans fg28_k12
          have hfrg30 : ∀ j : Nat, j ≠ 62 → j ≠ 67 → j ≠ 68 → j ≠ 69 → j ≠ 70 → j ≠ 71 → j ≠ 72 → j ≠ 73 → j ≠ 74 → j ≠ 75 → j ≠ 76 → g30 j = g j := fun j h0 h1 h2 h3 h4 h5 h6 h7 h8 h9 h10 => (hcg30 j h0).trans (hfrg28 j h0 h1 h2 h3 h4 h5 h6 h7 h8 h9 h10)
          rw [show (r2S Wt w gof (eM Wt w gof q ns) i (c0)) + ((Rat.divInt (2 * ((w c0 : Nat) : Int)) 1) * (eM Wt w gof q ns (gof (4 * i + c0)))) = r2S Wt w gof (eM Wt w gof q ns) i (c0 + 1) from r2S_y (by omega)] at fg30_n0
          refine lv_aload_n hx hb dX6_wait_193 rfl (lv_at hl 1 rfl) ?_
          refine xw_get hx hb hts hin6 hown hK hP (by decide) fg30_n0 rfl 9 (by decide) hf106 rfl rfl dX6_wait_194 ?_
          refine lv_lstore (lv' := [(4, .long (lZ ((r2S Wt w gof (eM Wt w gof q ns) i (c0 + 1)).num))), (9, .int (nI (gof (4 * i + c0)))), (0, .ref (ad (62))), (3, .int (nI (i))), (6, .long (lZ (((r2S Wt w gof (eM Wt w gof q ns) i (c0)).den : Int)))), (8, .int (nI (c0)))]) hx hb dX6_wait_197 hl (by decide) rfl (fun ls hl => ?_)
          refine lv_aload_n hx hb dX6_wait_199 rfl (lv_at hl 2 rfl) ?_
          refine xw_get hx hb hts hin6 hown hK hP (by decide) fg30_n0 rfl 10 (by decide) hf109 rfl rfl dX6_wait_200 ?_
          refine lv_lstore (lv' := [(6, .long (lZ (((r2S Wt w gof (eM Wt w gof q ns) i (c0 + 1)).den : Int)))), (4, .long (lZ ((r2S Wt w gof (eM Wt w gof q ns) i (c0 + 1)).num))), (9, .int (nI (gof (4 * i + c0)))), (0, .ref (ad (62))), (3, .int (nI (i))), (8, .int (nI (c0)))]) hx hb dX6_wait_203 hl (by decide) rfl (fun ls hl => ?_)
          refine lv_iinc (v := nI (c0 + 1)) (lv' := [(8, .int (nI (c0 + 1))), (6, .long (lZ (((r2S Wt w gof (eM Wt w gof q ns) i (c0 + 1)).den : Int)))), (4, .long (lZ ((r2S Wt w gof (eM Wt w gof q ns) i (c0 + 1)).num))), (9, .int (nI (gof (4 * i + c0)))), (0, .ref (ad (62))), (3, .int (nI (i)))]) hx hb dX6_wait_205 hl (k := 5) rfl (nI_add (c0) 1) (by decide) rfl (fun ls hl => ?_)
          refine lv_goto (tgt := 114) hx hb dX6_wait_208 (by decide) ?_
          exact ih114 (c0 + 1, lZ ((r2S Wt w gof (eM Wt w gof q ns) i (c0 + 1)).num), lZ (((r2S Wt w gof (eM Wt w gof q ns) i (c0 + 1)).den : Int))) g30 H locs ls ⟨(by omega), fg30_k0, fg30_k1, fg30_n0, fg30_k2, fg30_k3, fg30_k4, fg30_k5, fg30_k6, fg30_k7, fg30_k8, fg30_k9, fg30_k10, fg30_k11, fg30_k12, hfrg30, hP, hS, (lv_sub hl [4, 5, 2, 1, 0] rfl)⟩ (by first | omega | (dsimp only; omega))
        · refine lv_goto (tgt := 205) hx hb dX6_wait_143 (by decide) ?_
          refine lv_iinc (v := nI (c0 + 1)) (lv' := [(8, .int (nI (c0 + 1))), (9, .int (nI (gof (4 * i + c0)))), (0, .ref (ad (62))), (3, .int (nI (i))), (4, .long (lZ ((r2S Wt w gof (eM Wt w gof q ns) i (c0)).num))), (6, .long (lZ (((r2S Wt w gof (eM Wt w gof q ns) i (c0)).den : Int))))]) hx hb dX6_wait_205 hl (k := 5) rfl (nI_add (c0) 1) (by decide) rfl (fun ls hl => ?_)
          refine lv_goto (tgt := 114) hx hb dX6_wait_208 (by decide) ?_
          exact ih114 (c0 + 1, nx, dx) gl114_23 H locs ls ⟨(by omega), kg71, kg72, kg62, kg67, kg68, kg69, kg70, kg73, kg74, kg63, kg64, kg65, kg75, kg76, hfrgl114_23, hP, hS, (by rw [r2S_n (show ¬ gof (4 * i + c0) < 100 by omega)]; exact (lv_sub hl [2, 3, 4, 5, 0] rfl))⟩ (by first | omega | (dsimp only; omega))
  · refine lv_aload_n hx hb dX6_wait_57 rfl (lv_at hl 0 rfl) ?_
    refine xw_get hx hb hts hin6 hown hK hP (by decide) kg62 rfl 20 (by decide) hf58 rfl rfl dX6_wait_58 ?_
    refine lv_iload_n hx hb dX6_wait_61 rfl (lv_at hl 1 rfl) ?_
    refine lv_aload_n hx hb dX6_wait_62 rfl (lv_at hl 0 rfl) ?_
    refine xw_get hx hb hts hin6 hown hK hP (by decide) kg62 rfl 18 (by decide) hf52 rfl rfl dX6_wait_63 ?_
    refine lv_iload_n hx hb dX6_wait_66 rfl (lv_at hl 1 rfl) ?_
    refine xw_lald hx hb hK hP (by decide) 1 kg73 rfl (by omega) (by decide) dX6_wait_67 ?_
    rw [(hSv (i) (by omega)).1]
    refine xw_last hx hb hK hP hD hS (by decide) 1 kg75 rfl (by omega) (by decide) dX6_wait_68 (fun g32 H locs eg32 hP hS => ?_)
    have fg32_0 : g32 (62) = .inr (6, [.int (nI (q)), .int (nI (Wt)), .ref (ad (63)), .ref (ad (64)), .ref (ad (65)), .ref (ad (66)), .int (nI (T)), .long (tp), .long (bt), .long (nx), .long (dx), .int (nI (ns)), .ref (ad (67)), .ref (ad (68)), .ref (ad (69)), .ref (ad (70)), .ref (ad (71)), .ref (ad (72)), .ref (ad (73)), .ref (ad (74)), .ref (ad (75)), .ref (ad (76)), .ref (ad (77)), .ref (ad (78)), .ref (ad (79)), .ref (ad (80))]) := (congrFun eg32 (62)).trans ((va_up_ne _ _ (by decide)).trans kg62)
    have fg32_1 : g32 (67) = .inl (cI, 13, .inl (f7)) := (congrFun eg32 (67)).trans ((va_up_ne _ _ (by decide)).trans kg67)
    have fg32_2 : g32 (68) = .inl (cI, 13, .inl (f8)) := (congrFun eg32 (68)).trans ((va_up_ne _ _ (by decide)).trans kg68)
    have fg32_3 : g32 (69) = .inl (cI, 52, .inl (f9)) := (congrFun eg32 (69)).trans ((va_up_ne _ _ (by decide)).trans kg69)
    have fg32_4 : g32 (70) = .inl (cI, 6, .inl (f0)) := (congrFun eg32 (70)).trans ((va_up_ne _ _ (by decide)).trans kg70)
    have fg32_5 : g32 (71) = .inl (cJ, 169, .inr (.inl (fA))) := (congrFun eg32 (71)).trans ((va_up_ne _ _ (by decide)).trans kg71)
    have fg32_6 : g32 (72) = .inl (cJ, 169, .inr (.inl (fB))) := (congrFun eg32 (72)).trans ((va_up_ne _ _ (by decide)).trans kg72)
    have fg32_7 : g32 (73) = .inl (cJ, 13, .inr (.inl (fC))) := (congrFun eg32 (73)).trans ((va_up_ne _ _ (by decide)).trans kg73)
    have fg32_8 : g32 (74) = .inl (cJ, 13, .inr (.inl (fD))) := (congrFun eg32 (74)).trans ((va_up_ne _ _ (by decide)).trans kg74)
    have fg32_9 : g32 (63) = .inl (cI, 4, .inl (fw)) := (congrFun eg32 (63)).trans ((va_up_ne _ _ (by decide)).trans kg63)
    have fg32_10 : g32 (64) = .inl (cI, 8, .inl (fsz)) := (congrFun eg32 (64)).trans ((va_up_ne _ _ (by decide)).trans kg64)
    have fg32_11 : g32 (65) = .inl (cI, 40, .inl (fwd)) := (congrFun eg32 (65)).trans ((va_up_ne _ _ (by decide)).trans kg65)
    have fg32_12 : g32 (76) = .inl (cJ, 13, .inr (.inl (fd))) := (congrFun eg32 (76)).trans ((va_up_ne _ _ (by decide)).trans kg76)
    have fg32_w : g32 (75) = .inl (cJ, 13, .inr (.inl (vp_updL (fe) (i) (lZ ((eM Wt w gof q ns i).num))))) := (congrFun eg32 (75)).trans (va_up_self _ _ _)
    have hfrg32 : ∀ j : Nat, j ≠ 62 → j ≠ 67 → j ≠ 68 → j ≠ 69 → j ≠ 70 → j ≠ 71 → j ≠ 72 → j ≠ 73 → j ≠ 74 → j ≠ 75 → j ≠ 76 → g32 j = g j := fun j h0 h1 h2 h3 h4 h5 h6 h7 h8 h9 h10 => (congrFun eg32 j).trans ((va_up_ne _ _ h9).trans (hfrgl49_9 j h0 h1 h2 h3 h4 h5 h6 h7 h8 h9 h10))
    refine lv_aload_n hx hb dX6_wait_69 rfl (lv_at hl 0 rfl) ?_
    refine xw_get hx hb hts hin6 hown hK hP (by decide) fg32_0 rfl 21 (by decide) hf61 rfl rfl dX6_wait_70 ?_
    refine lv_iload_n hx hb dX6_wait_73 rfl (lv_at hl 1 rfl) ?_
    refine lv_aload_n hx hb dX6_wait_74 rfl (lv_at hl 0 rfl) ?_
    refine xw_get hx hb hts hin6 hown hK hP (by decide) fg32_0 rfl 19 (by decide) hf55 rfl rfl dX6_wait_75 ?_
    refine lv_iload_n hx hb dX6_wait_78 rfl (lv_at hl 1 rfl) ?_
    refine xw_lald hx hb hK hP (by decide) 1 fg32_8 rfl (by omega) (by decide) dX6_wait_79 ?_
    rw [(hSv (i) (by omega)).2]
    refine xw_last hx hb hK hP hD hS (by decide) 1 fg32_12 rfl (by omega) (by decide) dX6_wait_80 (fun g33 H locs eg33 hP hS => ?_)
    have fg33_0 : g33 (62) = .inr (6, [.int (nI (q)), .int (nI (Wt)), .ref (ad (63)), .ref (ad (64)), .ref (ad (65)), .ref (ad (66)), .int (nI (T)), .long (tp), .long (bt), .long (nx), .long (dx), .int (nI (ns)), .ref (ad (67)), .ref (ad (68)), .ref (ad (69)), .ref (ad (70)), .ref (ad (71)), .ref (ad (72)), .ref (ad (73)), .ref (ad (74)), .ref (ad (75)), .ref (ad (76)), .ref (ad (77)), .ref (ad (78)), .ref (ad (79)), .ref (ad (80))]) := (congrFun eg33 (62)).trans ((va_up_ne _ _ (by decide)).trans fg32_0)
    have fg33_1 : g33 (67) = .inl (cI, 13, .inl (f7)) := (congrFun eg33 (67)).trans ((va_up_ne _ _ (by decide)).trans fg32_1)
    have fg33_2 : g33 (68) = .inl (cI, 13, .inl (f8)) := (congrFun eg33 (68)).trans ((va_up_ne _ _ (by decide)).trans fg32_2)
    have fg33_3 : g33 (69) = .inl (cI, 52, .inl (f9)) := (congrFun eg33 (69)).trans ((va_up_ne _ _ (by decide)).trans fg32_3)
    have fg33_4 : g33 (70) = .inl (cI, 6, .inl (f0)) := (congrFun eg33 (70)).trans ((va_up_ne _ _ (by decide)).trans fg32_4)
    have fg33_5 : g33 (71) = .inl (cJ, 169, .inr (.inl (fA))) := (congrFun eg33 (71)).trans ((va_up_ne _ _ (by decide)).trans fg32_5)
    have fg33_6 : g33 (72) = .inl (cJ, 169, .inr (.inl (fB))) := (congrFun eg33 (72)).trans ((va_up_ne _ _ (by decide)).trans fg32_6)
    have fg33_7 : g33 (73) = .inl (cJ, 13, .inr (.inl (fC))) := (congrFun eg33 (73)).trans ((va_up_ne _ _ (by decide)).trans fg32_7)
    have fg33_8 : g33 (74) = .inl (cJ, 13, .inr (.inl (fD))) := (congrFun eg33 (74)).trans ((va_up_ne _ _ (by decide)).trans fg32_8)
    have fg33_9 : g33 (63) = .inl (cI, 4, .inl (fw)) := (congrFun eg33 (63)).trans ((va_up_ne _ _ (by decide)).trans fg32_9)
    have fg33_10 : g33 (64) = .inl (cI, 8, .inl (fsz)) := (congrFun eg33 (64)).trans ((va_up_ne _ _ (by decide)).trans fg32_10)
    have fg33_11 : g33 (65) = .inl (cI, 40, .inl (fwd)) := (congrFun eg33 (65)).trans ((va_up_ne _ _ (by decide)).trans fg32_11)
    have fg33_12 : g33 (75) = .inl (cJ, 13, .inr (.inl (vp_updL (fe) (i) (lZ ((eM Wt w gof q ns i).num))))) := (congrFun eg33 (75)).trans ((va_up_ne _ _ (by decide)).trans fg32_w)
    have fg33_w : g33 (76) = .inl (cJ, 13, .inr (.inl (vp_updL (fd) (i) (lZ (((eM Wt w gof q ns i).den : Int)))))) := (congrFun eg33 (76)).trans (va_up_self _ _ _)
    have hfrg33 : ∀ j : Nat, j ≠ 62 → j ≠ 67 → j ≠ 68 → j ≠ 69 → j ≠ 70 → j ≠ 71 → j ≠ 72 → j ≠ 73 → j ≠ 74 → j ≠ 75 → j ≠ 76 → g33 j = g j := fun j h0 h1 h2 h3 h4 h5 h6 h7 h8 h9 h10 => (congrFun eg33 j).trans ((va_up_ne _ _ h10).trans (hfrg32 j h0 h1 h2 h3 h4 h5 h6 h7 h8 h9 h10))
    refine lv_iinc (v := nI (i + 1)) (lv' := [(3, .int (nI (i + 1))), (0, .ref (ad (62)))]) hx hb dX6_wait_81 hl (k := 1) rfl (nI_add (i) 1) (by decide) rfl (fun ls hl => ?_)
    refine lv_goto (tgt := 49) hx hb dX6_wait_84 (by decide) ?_
    exact ih49 (i + 1, vp_updL (fe) (i) (lZ ((eM Wt w gof q ns i).num)), vp_updL (fd) (i) (lZ (((eM Wt w gof q ns i).den : Int)))) g33 H locs ls ⟨(by omega), (fun x hx => if e : x = i then by rw [e, pk_uLs, pk_uLs]; exact ⟨rfl, rfl⟩ else by rw [pk_uLn e, pk_uLn e]; exact hfe x (by omega)), fg33_0, fg33_1, fg33_2, fg33_3, fg33_4, fg33_5, fg33_6, fg33_7, fg33_8, fg33_9, fg33_10, fg33_11, fg33_12, fg33_w, hfrg33, hP, hS, (lv_sub hl [1, 0] rfl)⟩ (by first | omega | (dsimp only; omega))

set_option maxHeartbeats 4000000 in
set_option maxRecDepth 100000 in
theorem mX6_wait1_n (l : Launch) {D : va_G} {cI cJ cZ cW : ClassId} {ad : Nat → Nat} {A : Nat → Prop} (hD : ∀ g, va_D A (xw 81 ad g)) {g : Nat → va_E} {q Wt : Nat} {w : Nat → Nat} {ln : Nat → Nat} {u : Nat → Nat → Nat} {T : Nat} {t : Nat → Nat} {tp bt : Int64} {xa : Int32}  (hM : ModI cI cJ ad g q Wt w ln u T t tp bt) (hs : SrcI q Wt w ln u T t) (hxa : noW ln xa) (hWa : waOK q Wt w ln u) : Met l yX6_wait wsX6_wait ({ frames := 6, cells := 0, slots := 0, locals := 162 }) (va_Pc [.ref (ad (62)), .int (xa), .int (nI (1))] (xB D (xT cI cJ cZ cW) ad g)) (va_Qi (fun r g2 => r = (if (oWait Wt w ln u (xa) (nI 1)).isSome then 1 else 0) ∧ ModI cI cJ ad g2 q Wt w ln u T t (hTp (oWait Wt w ln u (xa) (nI 1)) tp) (hBt (oWait Wt w ln u (xa) (nI 1)) bt) ∧ ∀ j : Nat, j < 62 → g2 j = g j) (xB D (xT cI cJ cZ cW) ad) A) 0 0 A := by
  refine Met.ofW (cc := cX6_wait) (maxL := 10) (ret := (some .boolean)) (by decide) rfl ?_
  intro p e s m args below meth c s₁ B hml hv
  obtain ⟨rfl, hP, hK, hN⟩ := hv
  have hx := B.exec
  have hb := B.bytes
  have hr := B.returns
  have hts := atoms_spec (ws := wsX6_wait) B.pre
  have hown : s.vm.findClass RX6 = some m.cls := findClass_of_methodNamed B.named
  have hlocks := B.notSynchronized
  have hS : va_S A s.heap s.heap [] := va_S.rf
  have hl := lv_entry ([.ref (ad (62)), .int (xa), .int (nI (1))]) (n := 10) (Nat.le_of_ble_eq_true rfl)
  rw [lg_entry_eq]
  generalize (lg_sl ([.ref (ad (62)), .int (xa), .int (nI (1))]) ++ List.replicate (10 - (lg_sl ([.ref (ad (62)), .int (xa), .int (nI (1))])).length) Slot.unset).toArray = ls at hl ⊢
  have hl : lv_has ls 10 [(0, .ref (ad (62))), (1, .int (xa)), (2, .int (nI (1)))] := hl
  obtain ⟨hq2, hq4, hw1, hw0, hWs, hWt, hw, hln, hul, hT, ht⟩ := hs
  obtain ⟨sq, nu, de, fw, fsz, fwd, ftx, fos, foz, fgo, frw, fan, fad, frn, frd, fen, fed, fcn, fcd, fnw, fth, fo62, fa63, fa64, fa65, fa66, fa67, fa68, fa69, fa70, fa71, fa72, fa73, fa74, fa75, fa76, fa77, fa78, fa79, fa80, hfw, hsz, hwl, htx⟩ := id hM
  have hWp : 1 ≤ Wt ∧ Wt ≤ 4 := by have h8 := hw1 0 (by omega); have h9 := wsum_mono (w := w) (show 1 ≤ q by omega); have h7 : wsum w 1 = 0 + w 0 := rfl; omega
  have hwA : ∀ k j, j < ln k → 1 ≤ w (u k j) := fun k j hj => hw1 _ (hul k j hj)
  have hwB : ∀ k j, j < ln k → w (u k j) ≤ 4 := fun k j hj => hw _ (Nat.lt_of_lt_of_le (hul k j hj) hq4)
  refine lv_aload_n hx hb dX6_wait_0 rfl (lv_at hl 0 rfl) ?_
  refine lv_iload_n hx hb dX6_wait_1 rfl (lv_at hl 1 rfl) ?_
  refine vp_callSi (va_Run.run (va_runV (As := [.int (xa)]) (rest := []) ⟨hx, hb, hml, hown, hts⟩ (mX6_isWord_no l (w := w) (ln := ln) (t := t) (u := u) fo62 fa64 hsz hxa) (cwV 1 hts gX6_wait_X6_isWord rfl rfl rfl (by decide +kernel) ⟨Nat.le_of_ble_eq_true rfl, Nat.le_of_ble_eq_true rfl⟩) ⟨xB_blind, va_recv hK hP (ci := 6) rfl (xw_is (by decide) fo62), fun U hU hW => ⟨rfl, by rw [hU]; exact hP, va_K.moved hW.alike hK, va_Nw.warmM hW hN⟩⟩ rfl rfl hl.1 rfl (lv_room (Nat.le_of_ble_eq_true rfl)) dX6_wait_2 ⟨Nat.le_of_ble_eq_true rfl, Nat.le_of_ble_eq_true rfl⟩)) (fun r1 er1 => ?_)
  subst er1
  refine xi_if_eq (tgt := 16) hx hb (by decide) dX6_wait_5 (by decide) (fun _ => ?_) (fun c0 => absurd c0 (by decide))
  refine lv_iconst (v := nI (0)) hx hb dX6_wait_16 (by decide) ?_
  exact W.zret (v := nI (0)) hx hb hr (by decide) (fun tZ ht hW => ⟨⟨_, g, rfl, (by have hO : oWait Wt w ln u xa (nI 1) = none := (by unfold oWait; rw [slotW_no hxa]); show _ = (if (oWait Wt w ln u xa (nI 1)).isSome then 1 else 0) ∧ _; rw [hO]; exact ⟨rfl, hM, fun _ _ => rfl⟩), by rw [ht]; exact hP, va_K.moved hW.alike hK, va_Nw.warmM hW hN⟩, hS.F ht⟩) hS.2.2 dX6_wait_17

theorem mX6_wait1 (l : Launch) {D : va_G} {cI cJ cZ cW : ClassId} {ad : Nat → Nat} {A : Nat → Prop} (hD : ∀ g, va_D A (xw 81 ad g)) {g : Nat → va_E} {q Wt : Nat} {w : Nat → Nat} {ln : Nat → Nat} {u : Nat → Nat → Nat} {T : Nat} {t : Nat → Nat} {tp bt : Int64} (hM : ModI cI cJ ad g q Wt w ln u T t tp bt) (hs : SrcI q Wt w ln u T t) (hWa : waOK q Wt w ln u) (xa : Int32) : Met l yX6_wait wsX6_wait ({ frames := 6, cells := 0, slots := 0, locals := 162 }) (va_Pc [.ref (ad (62)), .int xa, .int (nI (1))] (xB D (xT cI cJ cZ cW) ad g)) (va_Qi (fun r g2 => r = (if (oWait Wt w ln u (xa) (nI 1)).isSome then 1 else 0) ∧ ModI cI cJ ad g2 q Wt w ln u T t (hTp (oWait Wt w ln u (xa) (nI 1)) tp) (hBt (oWait Wt w ln u (xa) (nI 1)) bt) ∧ ∀ j : Nat, j < 62 → g2 j = g j) (xB D (xT cI cJ cZ cW) ad) A) 0 0 A := by
  rcases slotW_cases ln xa with hxa | ⟨k1, hk1, rfl, hp1⟩
  · exact mX6_wait1_n l hD hM hs hxa hWa
  · exact mX6_wait1_s l hD hM hs hk1 hp1 hWa

set_option maxHeartbeats 4000000 in
set_option maxRecDepth 100000 in
theorem mX6_waitx_s (l : Launch) {D : va_G} {cI cJ cZ cW : ClassId} {ad : Nat → Nat} {A : Nat → Prop} (hD : ∀ g, va_D A (xw 81 ad g)) {g : Nat → va_E} {q Wt : Nat} {w : Nat → Nat} {ln : Nat → Nat} {u : Nat → Nat → Nat} {T : Nat} {t : Nat → Nat} {tp bt : Int64} {k1 : Nat} {y0 : Int32}  (hM : ModI cI cJ ad g q Wt w ln u T t tp bt) (hs : SrcI q Wt w ln u T t) (hk1 : k1 < 8) (hp1 : 0 < ln k1) (hy0 : y0 < 0 ∨ nI 2 ≤ y0) : Met l yX6_wait wsX6_wait ({ frames := 2, cells := 0, slots := 0, locals := 42 }) (va_Pc [.ref (ad (62)), .int (nI (k1)), .int (y0)] (xB D (xT cI cJ cZ cW) ad g)) (va_Qi (fun r g2 => r = (if (oWait Wt w ln u (nI (k1)) y0).isSome then 1 else 0) ∧ ModI cI cJ ad g2 q Wt w ln u T t (hTp (oWait Wt w ln u (nI (k1)) y0) tp) (hBt (oWait Wt w ln u (nI (k1)) y0) bt) ∧ ∀ j : Nat, j < 62 → g2 j = g j) (xB D (xT cI cJ cZ cW) ad) A) 0 0 A := by
  refine Met.ofW (cc := cX6_wait) (maxL := 10) (ret := (some .boolean)) (by decide) rfl ?_
  intro p e s m args below meth c s₁ B hml hv
  obtain ⟨rfl, hP, hK, hN⟩ := hv
  have hx := B.exec
  have hb := B.bytes
  have hr := B.returns
  have hts := atoms_spec (ws := wsX6_wait) B.pre
  have hown : s.vm.findClass RX6 = some m.cls := findClass_of_methodNamed B.named
  have hlocks := B.notSynchronized
  have hS : va_S A s.heap s.heap [] := va_S.rf
  have hl := lv_entry ([.ref (ad (62)), .int (nI (k1)), .int (y0)]) (n := 10) (Nat.le_of_ble_eq_true rfl)
  rw [lg_entry_eq]
  generalize (lg_sl ([.ref (ad (62)), .int (nI (k1)), .int (y0)]) ++ List.replicate (10 - (lg_sl ([.ref (ad (62)), .int (nI (k1)), .int (y0)])).length) Slot.unset).toArray = ls at hl ⊢
  have hl : lv_has ls 10 [(0, .ref (ad (62))), (1, .int (nI (k1))), (2, .int (y0))] := hl
  obtain ⟨hq2, hq4, hw1, hw0, hWs, hWt, hw, hln, hul, hT, ht⟩ := hs
  obtain ⟨sq, nu, de, fw, fsz, fwd, ftx, fos, foz, fgo, frw, fan, fad, frn, frd, fen, fed, fcn, fcd, fnw, fth, fo62, fa63, fa64, fa65, fa66, fa67, fa68, fa69, fa70, fa71, fa72, fa73, fa74, fa75, fa76, fa77, fa78, fa79, fa80, hfw, hsz, hwl, htx⟩ := id hM
  have hWp : 1 ≤ Wt ∧ Wt ≤ 4 := by have h8 := hw1 0 (by omega); have h9 := wsum_mono (w := w) (show 1 ≤ q by omega); have h7 : wsum w 1 = 0 + w 0 := rfl; omega
  have hwA : ∀ k j, j < ln k → 1 ≤ w (u k j) := fun k j hj => hw1 _ (hul k j hj)
  have hwB : ∀ k j, j < ln k → w (u k j) ≤ 4 := fun k j hj => hw _ (Nat.lt_of_lt_of_le (hul k j hj) hq4)
  have hn1 := hln k1
  refine lv_aload_n hx hb dX6_wait_0 rfl (lv_at hl 0 rfl) ?_
  refine lv_iload_n hx hb dX6_wait_1 rfl (lv_at hl 1 rfl) ?_
  refine vp_callSi (va_Run.run (va_runV (As := [.int (nI (k1))]) (rest := []) ⟨hx, hb, hml, hown, hts⟩ (mX6_isWord_yes l (w := w) (ln := ln) (t := t) (u := u) fo62 fa64 hsz hk1 hp1 (hln _)) (cwV 1 hts gX6_wait_X6_isWord rfl rfl rfl (by decide +kernel) ⟨Nat.le_of_ble_eq_true rfl, Nat.le_of_ble_eq_true rfl⟩) ⟨xB_blind, va_recv hK hP (ci := 6) rfl (xw_is (by decide) fo62), fun U hU hW => ⟨rfl, by rw [hU]; exact hP, va_K.moved hW.alike hK, va_Nw.warmM hW hN⟩⟩ rfl rfl hl.1 rfl (lv_room (Nat.le_of_ble_eq_true rfl)) dX6_wait_2 ⟨Nat.le_of_ble_eq_true rfl, Nat.le_of_ble_eq_true rfl⟩)) (fun r1 er1 => ?_)
  subst er1
  refine xi_if_eq (tgt := 16) hx hb (by decide) dX6_wait_5 (by decide) (fun c0 => absurd c0 (by decide)) (fun _ => ?_)
  refine lv_iload_n hx hb dX6_wait_8 rfl (lv_at hl 2 rfl) ?_
  refine lv_iconst (v := nI (2)) hx hb dX6_wait_9 (by decide) ?_
  refine vp_callSi (va_Run.run (va_runS (As := [.int (y0), .int (nI (2))]) (rest := []) ⟨hx, hb, hml, hown, hts⟩ (mX6_isIn_out l hy0) (va_cwS 2 hts gX6_wait_X6_isIn rfl rfl rfl (by decide +kernel) ⟨Nat.le_of_ble_eq_true rfl, Nat.le_of_ble_eq_true rfl⟩) ⟨xB_blind, fun U hU hW => ⟨rfl, by rw [hU]; exact hP, va_K.moved hW.alike hK, va_Nw.warmM hW hN⟩⟩ rfl rfl hl.1 rfl (lv_room (Nat.le_of_ble_eq_true rfl)) dX6_wait_10 ⟨Nat.le_of_ble_eq_true rfl, Nat.le_of_ble_eq_true rfl⟩)) (fun r3 er3 => ?_)
  subst er3
  refine xi_if_ne (tgt := 18) hx hb (by decide) dX6_wait_13 (by decide) (fun c0 => absurd c0 (by decide)) (fun _ => ?_)
  refine lv_iconst (v := nI (0)) hx hb dX6_wait_16 (by decide) ?_
  exact W.zret (v := nI (0)) hx hb hr (by decide) (fun tZ ht hW => ⟨⟨_, g, rfl, (by have hO : oWait Wt w ln u (nI k1) y0 = none := (by unfold oWait; rw [slotW_yes hk1 hp1]; show (if y0 = 0 then _ else _) = none; rw [if_neg (fun h => by rw [h] at hy0; exact absurd hy0 (by decide)), if_neg (fun h => by rw [h] at hy0; exact absurd hy0 (by decide))]); show _ = (if (oWait Wt w ln u (nI k1) y0).isSome then 1 else 0) ∧ _; rw [hO]; exact ⟨rfl, hM, fun _ _ => rfl⟩), by rw [ht]; exact hP, va_K.moved hW.alike hK, va_Nw.warmM hW hN⟩, hS.F ht⟩) hS.2.2 dX6_wait_17

set_option maxHeartbeats 4000000 in
set_option maxRecDepth 100000 in
theorem mX6_waitx_n (l : Launch) {D : va_G} {cI cJ cZ cW : ClassId} {ad : Nat → Nat} {A : Nat → Prop} (hD : ∀ g, va_D A (xw 81 ad g)) {g : Nat → va_E} {q Wt : Nat} {w : Nat → Nat} {ln : Nat → Nat} {u : Nat → Nat → Nat} {T : Nat} {t : Nat → Nat} {tp bt : Int64} {xa : Int32} {y0 : Int32}  (hM : ModI cI cJ ad g q Wt w ln u T t tp bt) (hs : SrcI q Wt w ln u T t) (hxa : noW ln xa) (hy0 : y0 < 0 ∨ nI 2 ≤ y0) : Met l yX6_wait wsX6_wait ({ frames := 2, cells := 0, slots := 0, locals := 42 }) (va_Pc [.ref (ad (62)), .int (xa), .int (y0)] (xB D (xT cI cJ cZ cW) ad g)) (va_Qi (fun r g2 => r = (if (oWait Wt w ln u (xa) y0).isSome then 1 else 0) ∧ ModI cI cJ ad g2 q Wt w ln u T t (hTp (oWait Wt w ln u (xa) y0) tp) (hBt (oWait Wt w ln u (xa) y0) bt) ∧ ∀ j : Nat, j < 62 → g2 j = g j) (xB D (xT cI cJ cZ cW) ad) A) 0 0 A := by
  refine Met.ofW (cc := cX6_wait) (maxL := 10) (ret := (some .boolean)) (by decide) rfl ?_
  intro p e s m args below meth c s₁ B hml hv
  obtain ⟨rfl, hP, hK, hN⟩ := hv
  have hx := B.exec
  have hb := B.bytes
  have hr := B.returns
  have hts := atoms_spec (ws := wsX6_wait) B.pre
  have hown : s.vm.findClass RX6 = some m.cls := findClass_of_methodNamed B.named
  have hlocks := B.notSynchronized
  have hS : va_S A s.heap s.heap [] := va_S.rf
  have hl := lv_entry ([.ref (ad (62)), .int (xa), .int (y0)]) (n := 10) (Nat.le_of_ble_eq_true rfl)
  rw [lg_entry_eq]
  generalize (lg_sl ([.ref (ad (62)), .int (xa), .int (y0)]) ++ List.replicate (10 - (lg_sl ([.ref (ad (62)), .int (xa), .int (y0)])).length) Slot.unset).toArray = ls at hl ⊢
  have hl : lv_has ls 10 [(0, .ref (ad (62))), (1, .int (xa)), (2, .int (y0))] := hl
  obtain ⟨hq2, hq4, hw1, hw0, hWs, hWt, hw, hln, hul, hT, ht⟩ := hs
  obtain ⟨sq, nu, de, fw, fsz, fwd, ftx, fos, foz, fgo, frw, fan, fad, frn, frd, fen, fed, fcn, fcd, fnw, fth, fo62, fa63, fa64, fa65, fa66, fa67, fa68, fa69, fa70, fa71, fa72, fa73, fa74, fa75, fa76, fa77, fa78, fa79, fa80, hfw, hsz, hwl, htx⟩ := id hM
  have hWp : 1 ≤ Wt ∧ Wt ≤ 4 := by have h8 := hw1 0 (by omega); have h9 := wsum_mono (w := w) (show 1 ≤ q by omega); have h7 : wsum w 1 = 0 + w 0 := rfl; omega
  have hwA : ∀ k j, j < ln k → 1 ≤ w (u k j) := fun k j hj => hw1 _ (hul k j hj)
  have hwB : ∀ k j, j < ln k → w (u k j) ≤ 4 := fun k j hj => hw _ (Nat.lt_of_lt_of_le (hul k j hj) hq4)
  refine lv_aload_n hx hb dX6_wait_0 rfl (lv_at hl 0 rfl) ?_
  refine lv_iload_n hx hb dX6_wait_1 rfl (lv_at hl 1 rfl) ?_
  refine vp_callSi (va_Run.run (va_runV (As := [.int (xa)]) (rest := []) ⟨hx, hb, hml, hown, hts⟩ (mX6_isWord_no l (w := w) (ln := ln) (t := t) (u := u) fo62 fa64 hsz hxa) (cwV 1 hts gX6_wait_X6_isWord rfl rfl rfl (by decide +kernel) ⟨Nat.le_of_ble_eq_true rfl, Nat.le_of_ble_eq_true rfl⟩) ⟨xB_blind, va_recv hK hP (ci := 6) rfl (xw_is (by decide) fo62), fun U hU hW => ⟨rfl, by rw [hU]; exact hP, va_K.moved hW.alike hK, va_Nw.warmM hW hN⟩⟩ rfl rfl hl.1 rfl (lv_room (Nat.le_of_ble_eq_true rfl)) dX6_wait_2 ⟨Nat.le_of_ble_eq_true rfl, Nat.le_of_ble_eq_true rfl⟩)) (fun r1 er1 => ?_)
  subst er1
  refine xi_if_eq (tgt := 16) hx hb (by decide) dX6_wait_5 (by decide) (fun _ => ?_) (fun c0 => absurd c0 (by decide))
  refine lv_iconst (v := nI (0)) hx hb dX6_wait_16 (by decide) ?_
  exact W.zret (v := nI (0)) hx hb hr (by decide) (fun tZ ht hW => ⟨⟨_, g, rfl, (by have hO : oWait Wt w ln u xa y0 = none := (by unfold oWait; rw [slotW_no hxa]); show _ = (if (oWait Wt w ln u xa y0).isSome then 1 else 0) ∧ _; rw [hO]; exact ⟨rfl, hM, fun _ _ => rfl⟩), by rw [ht]; exact hP, va_K.moved hW.alike hK, va_Nw.warmM hW hN⟩, hS.F ht⟩) hS.2.2 dX6_wait_17

theorem mX6_waitx (l : Launch) {D : va_G} {cI cJ cZ cW : ClassId} {ad : Nat → Nat} {A : Nat → Prop} (hD : ∀ g, va_D A (xw 81 ad g)) {g : Nat → va_E} {q Wt : Nat} {w : Nat → Nat} {ln : Nat → Nat} {u : Nat → Nat → Nat} {T : Nat} {t : Nat → Nat} {tp bt : Int64} {y0 : Int32} (hM : ModI cI cJ ad g q Wt w ln u T t tp bt) (hs : SrcI q Wt w ln u T t) (hy0 : y0 < 0 ∨ nI 2 ≤ y0) (xa : Int32) : Met l yX6_wait wsX6_wait ({ frames := 2, cells := 0, slots := 0, locals := 42 }) (va_Pc [.ref (ad (62)), .int xa, .int (y0)] (xB D (xT cI cJ cZ cW) ad g)) (va_Qi (fun r g2 => r = (if (oWait Wt w ln u (xa) y0).isSome then 1 else 0) ∧ ModI cI cJ ad g2 q Wt w ln u T t (hTp (oWait Wt w ln u (xa) y0) tp) (hBt (oWait Wt w ln u (xa) y0) bt) ∧ ∀ j : Nat, j < 62 → g2 j = g j) (xB D (xT cI cJ cZ cW) ad) A) 0 0 A := by
  rcases slotW_cases ln xa with hxa | ⟨k1, hk1, rfl, hp1⟩
  · exact mX6_waitx_n l hD hM hs hxa hy0
  · exact mX6_waitx_s l hD hM hs hk1 hp1 hy0
