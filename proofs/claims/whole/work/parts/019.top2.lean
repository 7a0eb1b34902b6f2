set_option maxHeartbeats 4000000 in
set_option maxRecDepth 100000 in
theorem mX5_lead_ss (l : Launch) {D : va_G} {cI cJ cZ cW : ClassId} {ad : Nat → Nat} {A : Nat → Prop} (hD : ∀ g, va_D A (xw 81 ad g)) {g : Nat → va_E} {q Wt : Nat} {w : Nat → Nat} {ln : Nat → Nat} {u : Nat → Nat → Nat} {T : Nat} {t : Nat → Nat} {tp bt : Int64} {k1 b1 n1 ol1 : Nat} {u1 sf1 : Nat → Nat} {k2 b2 n2 ol2 : Nat} {u2 sf2 : Nat → Nat}  (hC : ClsI cI cJ cZ cW ad g q Wt w ln u T t tp bt) (hs : SrcI q Wt w ln u T t) (hk1 : k1 < 8) (eb1 : 17 + 5 * k1 = b1) (en1 : ln k1 = n1) (eu1 : u k1 = u1) (es1 : shr Wt w u1 n1 = sf1) (eo1 : ownL Wt w u1 n1 = ol1) (hp1 : 0 < n1) (hk2 : k2 < 8) (eb2 : 17 + 5 * k2 = b2) (en2 : ln k2 = n2) (eu2 : u k2 = u2) (es2 : shr Wt w u2 n2 = sf2) (eo2 : ownL Wt w u2 n2 = ol2) (hp2 : 0 < n2) : Met l yX5_lead wsX5_lead ({ frames := 2, cells := 0, slots := 0, locals := 58 }) (va_Pc [.ref (ad (0)), .int (nI (k1)), .int (nI (k2))] (xB D (xT cI cJ cZ cW) ad g)) (va_Qi (fun r g2 => r = (if (oLead Wt w ln u (nI (k1)) (nI (k2))).isSome then 1 else 0) ∧ ClsI cI cJ cZ cW ad g2 q Wt w ln u T t (hTp (oLead Wt w ln u (nI (k1)) (nI (k2))) tp) (hBt (oLead Wt w ln u (nI (k1)) (nI (k2))) bt) ∧ ∀ j : Nat, 62 ≤ j → g2 j = g j) (xB D (xT cI cJ cZ cW) ad) A) 0 0 A := by
  refine Met.ofW (cc := cX5_lead) (maxL := 5) (ret := (some .boolean)) (by decide) rfl ?_
  intro p e s m args below meth c s₁ B hml hv
  obtain ⟨rfl, hP, hK, hN⟩ := hv
  have hx := B.exec
  have hb := B.bytes
  have hr := B.returns
  have hts := atoms_spec (ws := wsX5_lead) B.pre
  have hown : s.vm.findClass RX5 = some m.cls := findClass_of_methodNamed B.named
  have hlocks := B.notSynchronized
  have hS : va_S A s.heap s.heap [] := va_S.rf
  have hl := lv_entry ([.ref (ad (0)), .int (nI (k1)), .int (nI (k2))]) (n := 5) (Nat.le_of_ble_eq_true rfl)
  rw [lg_entry_eq]
  generalize (lg_sl ([.ref (ad (0)), .int (nI (k1)), .int (nI (k2))]) ++ List.replicate (5 - (lg_sl ([.ref (ad (0)), .int (nI (k1)), .int (nI (k2))])).length) Slot.unset).toArray = ls at hl ⊢
  have hl : lv_has ls 5 [(0, .ref (ad (0))), (1, .int (nI (k1))), (2, .int (nI (k2)))] := hl
  obtain ⟨hq2, hq4, hw1, hw0, hWs, hWt, hw, hln, hul, hT, ht⟩ := hs
  obtain ⟨fo_0, ⟨f2, fo_1, fa_2, h2⟩, ⟨f3, fa_3, h3⟩, hRace, hMach, ⟨f16, fo15, fa16, h16⟩, hwd, hcand⟩ := id hC
  obtain ⟨fl1, fh1, ft1, fs1, fo1, fal1, fah1, fat1, fas1, hfl1, hfh1, hft1, hfs1⟩ := cw_pos hwd hk1 eb1 en1 eu1 es1 eo1 hp1
  have hb1 : b1 + 4 < 81 := by omega
  have hn1 : n1 ≤ 5 := en1 ▸ hln k1
  have hu1 : ∀ j, j < n1 → u1 j < q := fun j hj => by rw [← eu1]; exact hul k1 j (by rw [en1]; exact hj)
  have hwu1 : ∀ j, j < n1 → w (u1 j) ≤ 4 := fun j hj => hw _ (Nat.lt_of_lt_of_le (hu1 j hj) hq4)
  have hsf1 : ∀ k, k ≤ n1 → sf1 k ≤ 1024 := fun k hk => es1 ▸ shr_le hWt hwu1 hn1 hk
  have hs01 : 1 ≤ sf1 0 := es1 ▸ shr_0 (fun j hj => hw1 _ (hu1 j hj))
  have hol1 : ol1 ≤ 5120 := by rw [← eo1]; show lapS (shr Wt w u1 n1) u1 n1 u1 n1 5 ≤ 5120; rw [es1]; exact lapS_le hsf1 5
  obtain ⟨fl2, fh2, ft2, fs2, fo2, fal2, fah2, fat2, fas2, hfl2, hfh2, hft2, hfs2⟩ := cw_pos hwd hk2 eb2 en2 eu2 es2 eo2 hp2
  have hb2 : b2 + 4 < 81 := by omega
  have hn2 : n2 ≤ 5 := en2 ▸ hln k2
  have hu2 : ∀ j, j < n2 → u2 j < q := fun j hj => by rw [← eu2]; exact hul k2 j (by rw [en2]; exact hj)
  have hwu2 : ∀ j, j < n2 → w (u2 j) ≤ 4 := fun j hj => hw _ (Nat.lt_of_lt_of_le (hu2 j hj) hq4)
  have hsf2 : ∀ k, k ≤ n2 → sf2 k ≤ 1024 := fun k hk => es2 ▸ shr_le hWt hwu2 hn2 hk
  have hs02 : 1 ≤ sf2 0 := es2 ▸ shr_0 (fun j hj => hw1 _ (hu2 j hj))
  have hol2 : ol2 ≤ 5120 := by rw [← eo2]; show lapS (shr Wt w u2 n2) u2 n2 u2 n2 5 ≤ 5120; rw [es2]; exact lapS_le hsf2 5
  refine lv_aload_n hx hb dX5_lead_0 rfl (lv_at hl 0 rfl) ?_
  refine lv_iload_n hx hb dX5_lead_1 rfl (lv_at hl 1 rfl) ?_
  refine va_csq (va_Run.run (va_runV (As := [.int (nI (k1))]) (rest := []) ⟨hx, hb, hml, hown, hts⟩ (mX5_wordIn_yes l fo_0 fa_3 fo1 h3 hk1 eb1 hp1 hn1) (cwV 1 hts gX5_lead_X5_wordIn rfl rfl rfl (by decide +kernel) ⟨Nat.le_of_ble_eq_true rfl, Nat.le_of_ble_eq_true rfl⟩) ⟨xB_blind, va_recv hK hP (ci := 5) rfl (xw_is (by decide) fo_0), fun U hU hW => ⟨rfl, by rw [hU]; exact hP, va_K.moved hW.alike hK, va_Nw.warmM hW hN⟩⟩ rfl rfl hl.1 rfl (lv_room (Nat.le_of_ble_eq_true rfl)) dX5_lead_2 ⟨Nat.le_of_ble_eq_true rfl, Nat.le_of_ble_eq_true rfl⟩)) (fun r1 er1 => ?_)
  subst er1
  refine W.eq (g2 := F0 m 5 ls (.ref (ad (b1)) :: [])) rfl ?_
  refine lv_astore_n (lv' := [(3, .ref (ad (b1))), (0, .ref (ad (0))), (1, .int (nI (k1))), (2, .int (nI (k2)))]) hx hb dX5_lead_5 rfl hl (by decide) rfl (fun ls hl => ?_)
  refine lv_aload_n hx hb dX5_lead_6 rfl (lv_at hl 1 rfl) ?_
  refine lv_iload_n hx hb dX5_lead_7 rfl (lv_at hl 3 rfl) ?_
  refine va_csq (va_Run.run (va_runV (As := [.int (nI (k2))]) (rest := []) ⟨hx, hb, hml, hown, hts⟩ (mX5_wordIn_yes l fo_0 fa_3 fo2 h3 hk2 eb2 hp2 hn2) (cwV 1 hts gX5_lead_X5_wordIn rfl rfl rfl (by decide +kernel) ⟨Nat.le_of_ble_eq_true rfl, Nat.le_of_ble_eq_true rfl⟩) ⟨xB_blind, va_recv hK hP (ci := 5) rfl (xw_is (by decide) fo_0), fun U hU hW => ⟨rfl, by rw [hU]; exact hP, va_K.moved hW.alike hK, va_Nw.warmM hW hN⟩⟩ rfl rfl hl.1 rfl (lv_room (Nat.le_of_ble_eq_true rfl)) dX5_lead_8 ⟨Nat.le_of_ble_eq_true rfl, Nat.le_of_ble_eq_true rfl⟩)) (fun r2 er2 => ?_)
  subst er2
  refine W.eq (g2 := F0 m 11 ls (.ref (ad (b2)) :: [])) rfl ?_
  refine lv_astore (lv' := [(4, .ref (ad (b2))), (3, .ref (ad (b1))), (0, .ref (ad (0))), (1, .int (nI (k1))), (2, .int (nI (k2)))]) hx hb dX5_lead_11 hl (by decide) rfl (fun ls hl => ?_)
  refine lv_aload_n hx hb dX5_lead_13 rfl (lv_at hl 1 rfl) ?_
  refine lv_ifnull hx hb dX5_lead_14 ?_
  refine lv_aload hx hb dX5_lead_17 (lv_at hl 0 rfl) ?_
  refine lv_ifnonnull (tgt := 24) hx hb dX5_lead_19 (by decide) ?_
  refine lv_aload_n hx hb dX5_lead_24 rfl (lv_at hl 2 rfl) ?_
  refine lv_aload_n hx hb dX5_lead_25 rfl (lv_at hl 1 rfl) ?_
  refine lv_aload hx hb dX5_lead_26 (lv_at hl 0 rfl) ?_
  refine vp_callSl (va_Run.run (va_runV (As := [.ref (ad (b2))]) (rest := [.ref (ad (0))]) ⟨hx, hb, hml, hown, hts⟩ (mX4_leadOn l (q := q) fo1 fat1 fo2 fah2 fas2 hq4 hb1 hn1 hu1 hft1 hb2 hn2 hu2 hfh2 hfs2) (cwV 1 hts gX5_lead_X4_leadOn rfl rfl rfl (by decide +kernel) ⟨Nat.le_of_ble_eq_true rfl, Nat.le_of_ble_eq_true rfl⟩) ⟨xB_blind, va_recv hK hP (ci := 4) rfl (xw_is (by omega) fo1), fun U hU hW => ⟨rfl, by rw [hU]; exact hP, va_K.moved hW.alike hK, va_Nw.warmM hW hN⟩⟩ rfl rfl hl.1 rfl (lv_room (Nat.le_of_ble_eq_true rfl)) dX5_lead_28 ⟨Nat.le_of_ble_eq_true rfl, Nat.le_of_ble_eq_true rfl⟩)) (fun r3 er3 => ?_)
  subst er3
  refine lv_aload hx hb dX5_lead_31 (lv_at hl 0 rfl) ?_
  refine vp_callSl (va_Run.run (va_runV (As := []) (rest := [.long (lZ ((lapS sf2 u1 n1 u2 n2 5 : Int))), .ref (ad (0))]) ⟨hx, hb, hml, hown, hts⟩ (mX4_leadBottom l (q := q) fo2 fas2 hb2 hn2 hu2 hfs2) (cwV 0 hts gX5_lead_X4_leadBottom rfl rfl rfl (by decide +kernel) ⟨Nat.le_of_ble_eq_true rfl, Nat.le_of_ble_eq_true rfl⟩) ⟨xB_blind, va_recv hK hP (ci := 4) rfl (xw_is (by omega) fo2), fun U hU hW => ⟨rfl, by rw [hU]; exact hP, va_K.moved hW.alike hK, va_Nw.warmM hW hN⟩⟩ rfl rfl hl.1 rfl (lv_room (Nat.le_of_ble_eq_true rfl)) dX5_lead_33 ⟨Nat.le_of_ble_eq_true rfl, Nat.le_of_ble_eq_true rfl⟩)) (fun r4 er4 => ?_)
  subst er4
  refine va_callv (va_runV (As := [.long (lZ ((lapS sf2 u1 n1 u2 n2 5 : Int))), .long (lZ ((sf2 0 : Int)))]) (rest := []) ⟨hx, hb, hml, hown, hts⟩ (mX5_hold l hD (a := (lapS sf2 u1 n1 u2 n2 5 : Int)) (b := (sf2 0 : Int)) fo_0 (by have h9 := lapS_le (u := u1) (n := n1) (v := u2) hsf2 5; omega) (by have h9 := hsf2 0 (by omega); omega) (by omega)) (cwV 2 hts gX5_lead_X5_hold rfl rfl rfl (by decide +kernel) ⟨Nat.le_of_ble_eq_true rfl, Nat.le_of_ble_eq_true rfl⟩) ⟨xB_blind, va_recv hK hP (ci := 5) rfl (xw_is (by decide) fo_0), fun U hU hW => ⟨rfl, by rw [hU]; exact hP, va_K.moved hW.alike hK, va_Nw.warmM hW hN⟩⟩ rfl rfl hl.1 rfl (lv_room (Nat.le_of_ble_eq_true rfl)) dX5_lead_36 ⟨Nat.le_of_ble_eq_true rfl, Nat.le_of_ble_eq_true rfl⟩) hS (fun _ _ h => h) (fun _ h => h) (fun g5 tZ H locs ht hvm hwg5 hB hzZ hkZ hS => ?_)
  obtain ⟨hP, -⟩ := hB
  rw [ht] at hP
  obtain ⟨fg5_n0, hcg5⟩ := hwg5
  have fg5_k0 : g5 (1) = .inr (0, [.ref (ad (2)), .int (nI (q)), .int (nI (Wt))]) := (hcg5 (1) (by decide)).trans fo_1
  have fg5_k1 : g5 (2) = .inl (cI, 4, .inl (f2)) := (hcg5 (2) (by decide)).trans fa_2
  have fg5_k2 : g5 (15) = .inr (3, [.ref (ad (16)), .int (nI (T))]) := (hcg5 (15) (by decide)).trans fo15
  have fg5_k3 : g5 (16) = .inl (cI, 300, .inl (f16)) := (hcg5 (16) (by decide)).trans fa16
  have fg5_k4 : g5 (3) = .inl (cW, 8, .inr (.inr (.inr (.inr (f3))))) := (hcg5 (3) (by decide)).trans fa_3
  have fg5_k5 : g5 (b1) = .inr (4, [.ref (ad (b1 + 1)), .ref (ad (b1 + 2)), .ref (ad (b1 + 3)), .ref (ad (b1 + 4)), .int (nI (n1)), .int (nI (px q u1 n1)), .long (lZ ((ol1 : Int)))]) := (hcg5 (b1) (by omega)).trans fo1
  have fg5_k6 : g5 (b1 + 1) = .inl (cI, 5, .inl (fl1)) := (hcg5 (b1 + 1) (by omega)).trans fal1
  have fg5_k7 : g5 (b1 + 2) = .inl (cI, 6, .inl (fh1)) := (hcg5 (b1 + 2) (by omega)).trans fah1
  have fg5_k8 : g5 (b1 + 3) = .inl (cI, 6, .inl (ft1)) := (hcg5 (b1 + 3) (by omega)).trans fat1
  have fg5_k9 : g5 (b1 + 4) = .inl (cJ, 6, .inr (.inl (fs1))) := (hcg5 (b1 + 4) (by omega)).trans fas1
  have fg5_k10 : g5 (b2) = .inr (4, [.ref (ad (b2 + 1)), .ref (ad (b2 + 2)), .ref (ad (b2 + 3)), .ref (ad (b2 + 4)), .int (nI (n2)), .int (nI (px q u2 n2)), .long (lZ ((ol2 : Int)))]) := (hcg5 (b2) (by omega)).trans fo2
  have fg5_k11 : g5 (b2 + 1) = .inl (cI, 5, .inl (fl2)) := (hcg5 (b2 + 1) (by omega)).trans fal2
  have fg5_k12 : g5 (b2 + 2) = .inl (cI, 6, .inl (fh2)) := (hcg5 (b2 + 2) (by omega)).trans fah2
  have fg5_k13 : g5 (b2 + 3) = .inl (cI, 6, .inl (ft2)) := (hcg5 (b2 + 3) (by omega)).trans fat2
  have fg5_k14 : g5 (b2 + 4) = .inl (cJ, 6, .inr (.inl (fs2))) := (hcg5 (b2 + 4) (by omega)).trans fas2
  have hfrg5 : ∀ j : Nat, j ≠ 0 → g5 j = g j := fun j h0 => (hcg5 j h0).trans ((fun _ _ => rfl) j h0)
  refine lv_iconst (v := nI (1)) hx hb dX5_lead_39 (by decide) ?_
  exact W.zret (v := nI (1)) hx hb hr (by decide) (fun tZ ht hW => ⟨⟨_, g5, rfl, (by subst en1 eu1 es1 eo1 en2 eu2 es2 eo2; have hO : oLead Wt w ln u (nI k1) (nI k2) = some (fLead Wt w ln u k1 k2) := (by unfold oLead; rw [slotW_yes hk1 hp1, slotW_yes hk2 hp2]); show _ = (if (oLead Wt w ln u (nI k1) (nI k2)).isSome then 1 else 0) ∧ _; rw [hO]; exact ⟨rfl, hC.hand fg5_n0 hfrg5, fun j hj => hfrg5 j (by omega)⟩), by rw [ht]; exact hP, va_K.moved hW.alike hK, va_Nw.warmM hW hN⟩, hS.F ht⟩) hS.2.2 dX5_lead_40

set_option maxHeartbeats 4000000 in
set_option maxRecDepth 100000 in
theorem mX5_lead_sn (l : Launch) {D : va_G} {cI cJ cZ cW : ClassId} {ad : Nat → Nat} {A : Nat → Prop} (hD : ∀ g, va_D A (xw 81 ad g)) {g : Nat → va_E} {q Wt : Nat} {w : Nat → Nat} {ln : Nat → Nat} {u : Nat → Nat → Nat} {T : Nat} {t : Nat → Nat} {tp bt : Int64} {k1 b1 n1 ol1 : Nat} {u1 sf1 : Nat → Nat} {xb : Int32}  (hC : ClsI cI cJ cZ cW ad g q Wt w ln u T t tp bt) (hs : SrcI q Wt w ln u T t) (hk1 : k1 < 8) (eb1 : 17 + 5 * k1 = b1) (en1 : ln k1 = n1) (eu1 : u k1 = u1) (es1 : shr Wt w u1 n1 = sf1) (eo1 : ownL Wt w u1 n1 = ol1) (hp1 : 0 < n1) (hxb : noW ln xb) : Met l yX5_lead wsX5_lead ({ frames := 2, cells := 0, slots := 0, locals := 58 }) (va_Pc [.ref (ad (0)), .int (nI (k1)), .int (xb)] (xB D (xT cI cJ cZ cW) ad g)) (va_Qi (fun r g2 => r = (if (oLead Wt w ln u (nI (k1)) (xb)).isSome then 1 else 0) ∧ ClsI cI cJ cZ cW ad g2 q Wt w ln u T t (hTp (oLead Wt w ln u (nI (k1)) (xb)) tp) (hBt (oLead Wt w ln u (nI (k1)) (xb)) bt) ∧ ∀ j : Nat, 62 ≤ j → g2 j = g j) (xB D (xT cI cJ cZ cW) ad) A) 0 0 A := by
  refine Met.ofW (cc := cX5_lead) (maxL := 5) (ret := (some .boolean)) (by decide) rfl ?_
  intro p e s m args below meth c s₁ B hml hv
  obtain ⟨rfl, hP, hK, hN⟩ := hv
  have hx := B.exec
  have hb := B.bytes
  have hr := B.returns
  have hts := atoms_spec (ws := wsX5_lead) B.pre
  have hown : s.vm.findClass RX5 = some m.cls := findClass_of_methodNamed B.named
  have hlocks := B.notSynchronized
  have hS : va_S A s.heap s.heap [] := va_S.rf
  have hl := lv_entry ([.ref (ad (0)), .int (nI (k1)), .int (xb)]) (n := 5) (Nat.le_of_ble_eq_true rfl)
  rw [lg_entry_eq]
  generalize (lg_sl ([.ref (ad (0)), .int (nI (k1)), .int (xb)]) ++ List.replicate (5 - (lg_sl ([.ref (ad (0)), .int (nI (k1)), .int (xb)])).length) Slot.unset).toArray = ls at hl ⊢
  have hl : lv_has ls 5 [(0, .ref (ad (0))), (1, .int (nI (k1))), (2, .int (xb))] := hl
  obtain ⟨hq2, hq4, hw1, hw0, hWs, hWt, hw, hln, hul, hT, ht⟩ := hs
  obtain ⟨fo_0, ⟨f2, fo_1, fa_2, h2⟩, ⟨f3, fa_3, h3⟩, hRace, hMach, ⟨f16, fo15, fa16, h16⟩, hwd, hcand⟩ := id hC
  obtain ⟨fl1, fh1, ft1, fs1, fo1, fal1, fah1, fat1, fas1, hfl1, hfh1, hft1, hfs1⟩ := cw_pos hwd hk1 eb1 en1 eu1 es1 eo1 hp1
  have hb1 : b1 + 4 < 81 := by omega
  have hn1 : n1 ≤ 5 := en1 ▸ hln k1
  have hu1 : ∀ j, j < n1 → u1 j < q := fun j hj => by rw [← eu1]; exact hul k1 j (by rw [en1]; exact hj)
  have hwu1 : ∀ j, j < n1 → w (u1 j) ≤ 4 := fun j hj => hw _ (Nat.lt_of_lt_of_le (hu1 j hj) hq4)
  have hsf1 : ∀ k, k ≤ n1 → sf1 k ≤ 1024 := fun k hk => es1 ▸ shr_le hWt hwu1 hn1 hk
  have hs01 : 1 ≤ sf1 0 := es1 ▸ shr_0 (fun j hj => hw1 _ (hu1 j hj))
  have hol1 : ol1 ≤ 5120 := by rw [← eo1]; show lapS (shr Wt w u1 n1) u1 n1 u1 n1 5 ≤ 5120; rw [es1]; exact lapS_le hsf1 5
  refine lv_aload_n hx hb dX5_lead_0 rfl (lv_at hl 0 rfl) ?_
  refine lv_iload_n hx hb dX5_lead_1 rfl (lv_at hl 1 rfl) ?_
  refine va_csq (va_Run.run (va_runV (As := [.int (nI (k1))]) (rest := []) ⟨hx, hb, hml, hown, hts⟩ (mX5_wordIn_yes l fo_0 fa_3 fo1 h3 hk1 eb1 hp1 hn1) (cwV 1 hts gX5_lead_X5_wordIn rfl rfl rfl (by decide +kernel) ⟨Nat.le_of_ble_eq_true rfl, Nat.le_of_ble_eq_true rfl⟩) ⟨xB_blind, va_recv hK hP (ci := 5) rfl (xw_is (by decide) fo_0), fun U hU hW => ⟨rfl, by rw [hU]; exact hP, va_K.moved hW.alike hK, va_Nw.warmM hW hN⟩⟩ rfl rfl hl.1 rfl (lv_room (Nat.le_of_ble_eq_true rfl)) dX5_lead_2 ⟨Nat.le_of_ble_eq_true rfl, Nat.le_of_ble_eq_true rfl⟩)) (fun r1 er1 => ?_)
  subst er1
  refine W.eq (g2 := F0 m 5 ls (.ref (ad (b1)) :: [])) rfl ?_
  refine lv_astore_n (lv' := [(3, .ref (ad (b1))), (0, .ref (ad (0))), (1, .int (nI (k1))), (2, .int (xb))]) hx hb dX5_lead_5 rfl hl (by decide) rfl (fun ls hl => ?_)
  refine lv_aload_n hx hb dX5_lead_6 rfl (lv_at hl 1 rfl) ?_
  refine lv_iload_n hx hb dX5_lead_7 rfl (lv_at hl 3 rfl) ?_
  refine va_csq (va_Run.run (va_runV (As := [.int (xb)]) (rest := []) ⟨hx, hb, hml, hown, hts⟩ (mX5_wordIn_no l fo_0 fa_3 h3 hwd hxb) (cwV 1 hts gX5_lead_X5_wordIn rfl rfl rfl (by decide +kernel) ⟨Nat.le_of_ble_eq_true rfl, Nat.le_of_ble_eq_true rfl⟩) ⟨xB_blind, va_recv hK hP (ci := 5) rfl (xw_is (by decide) fo_0), fun U hU hW => ⟨rfl, by rw [hU]; exact hP, va_K.moved hW.alike hK, va_Nw.warmM hW hN⟩⟩ rfl rfl hl.1 rfl (lv_room (Nat.le_of_ble_eq_true rfl)) dX5_lead_8 ⟨Nat.le_of_ble_eq_true rfl, Nat.le_of_ble_eq_true rfl⟩)) (fun r2 er2 => ?_)
  subst er2
  refine W.eq (g2 := F0 m 11 ls (.null :: [])) rfl ?_
  refine lv_astoreN (lv' := [(4, .null), (3, .ref (ad (b1))), (0, .ref (ad (0))), (1, .int (nI (k1))), (2, .int (xb))]) hx hb dX5_lead_11 hl (by decide) rfl (fun ls hl => ?_)
  refine lv_aload_n hx hb dX5_lead_13 rfl (lv_at hl 1 rfl) ?_
  refine lv_ifnull hx hb dX5_lead_14 ?_
  refine lv_aloadN hx hb dX5_lead_17 (lv_at hl 0 rfl) ?_
  refine lv_ifnonnullN hx hb dX5_lead_19 ?_
  refine lv_iconst (v := nI (0)) hx hb dX5_lead_22 (by decide) ?_
  exact W.zret (v := nI (0)) hx hb hr (by decide) (fun tZ ht hW => ⟨⟨_, g, rfl, (by have hO : oLead Wt w ln u (nI k1) xb = none := (by exact slotW_2n hxb); show _ = (if (oLead Wt w ln u (nI k1) xb).isSome then 1 else 0) ∧ _; rw [hO]; exact ⟨rfl, hC, fun _ _ => rfl⟩), by rw [ht]; exact hP, va_K.moved hW.alike hK, va_Nw.warmM hW hN⟩, hS.F ht⟩) hS.2.2 dX5_lead_23

set_option maxHeartbeats 4000000 in
set_option maxRecDepth 100000 in
theorem mX5_lead_ns (l : Launch) {D : va_G} {cI cJ cZ cW : ClassId} {ad : Nat → Nat} {A : Nat → Prop} (hD : ∀ g, va_D A (xw 81 ad g)) {g : Nat → va_E} {q Wt : Nat} {w : Nat → Nat} {ln : Nat → Nat} {u : Nat → Nat → Nat} {T : Nat} {t : Nat → Nat} {tp bt : Int64} {xa : Int32} {k2 b2 n2 ol2 : Nat} {u2 sf2 : Nat → Nat}  (hC : ClsI cI cJ cZ cW ad g q Wt w ln u T t tp bt) (hs : SrcI q Wt w ln u T t) (hxa : noW ln xa) (hk2 : k2 < 8) (eb2 : 17 + 5 * k2 = b2) (en2 : ln k2 = n2) (eu2 : u k2 = u2) (es2 : shr Wt w u2 n2 = sf2) (eo2 : ownL Wt w u2 n2 = ol2) (hp2 : 0 < n2) : Met l yX5_lead wsX5_lead ({ frames := 2, cells := 0, slots := 0, locals := 58 }) (va_Pc [.ref (ad (0)), .int (xa), .int (nI (k2))] (xB D (xT cI cJ cZ cW) ad g)) (va_Qi (fun r g2 => r = (if (oLead Wt w ln u (xa) (nI (k2))).isSome then 1 else 0) ∧ ClsI cI cJ cZ cW ad g2 q Wt w ln u T t (hTp (oLead Wt w ln u (xa) (nI (k2))) tp) (hBt (oLead Wt w ln u (xa) (nI (k2))) bt) ∧ ∀ j : Nat, 62 ≤ j → g2 j = g j) (xB D (xT cI cJ cZ cW) ad) A) 0 0 A := by
  refine Met.ofW (cc := cX5_lead) (maxL := 5) (ret := (some .boolean)) (by decide) rfl ?_
  intro p e s m args below meth c s₁ B hml hv
  obtain ⟨rfl, hP, hK, hN⟩ := hv
  have hx := B.exec
  have hb := B.bytes
  have hr := B.returns
  have hts := atoms_spec (ws := wsX5_lead) B.pre
  have hown : s.vm.findClass RX5 = some m.cls := findClass_of_methodNamed B.named
  have hlocks := B.notSynchronized
  have hS : va_S A s.heap s.heap [] := va_S.rf
  have hl := lv_entry ([.ref (ad (0)), .int (xa), .int (nI (k2))]) (n := 5) (Nat.le_of_ble_eq_true rfl)
  rw [lg_entry_eq]
  generalize (lg_sl ([.ref (ad (0)), .int (xa), .int (nI (k2))]) ++ List.replicate (5 - (lg_sl ([.ref (ad (0)), .int (xa), .int (nI (k2))])).length) Slot.unset).toArray = ls at hl ⊢
  have hl : lv_has ls 5 [(0, .ref (ad (0))), (1, .int (xa)), (2, .int (nI (k2)))] := hl
  obtain ⟨hq2, hq4, hw1, hw0, hWs, hWt, hw, hln, hul, hT, ht⟩ := hs
  obtain ⟨fo_0, ⟨f2, fo_1, fa_2, h2⟩, ⟨f3, fa_3, h3⟩, hRace, hMach, ⟨f16, fo15, fa16, h16⟩, hwd, hcand⟩ := id hC
  obtain ⟨fl2, fh2, ft2, fs2, fo2, fal2, fah2, fat2, fas2, hfl2, hfh2, hft2, hfs2⟩ := cw_pos hwd hk2 eb2 en2 eu2 es2 eo2 hp2
  have hb2 : b2 + 4 < 81 := by omega
  have hn2 : n2 ≤ 5 := en2 ▸ hln k2
  have hu2 : ∀ j, j < n2 → u2 j < q := fun j hj => by rw [← eu2]; exact hul k2 j (by rw [en2]; exact hj)
  have hwu2 : ∀ j, j < n2 → w (u2 j) ≤ 4 := fun j hj => hw _ (Nat.lt_of_lt_of_le (hu2 j hj) hq4)
  have hsf2 : ∀ k, k ≤ n2 → sf2 k ≤ 1024 := fun k hk => es2 ▸ shr_le hWt hwu2 hn2 hk
  have hs02 : 1 ≤ sf2 0 := es2 ▸ shr_0 (fun j hj => hw1 _ (hu2 j hj))
  have hol2 : ol2 ≤ 5120 := by rw [← eo2]; show lapS (shr Wt w u2 n2) u2 n2 u2 n2 5 ≤ 5120; rw [es2]; exact lapS_le hsf2 5
  refine lv_aload_n hx hb dX5_lead_0 rfl (lv_at hl 0 rfl) ?_
  refine lv_iload_n hx hb dX5_lead_1 rfl (lv_at hl 1 rfl) ?_
  refine va_csq (va_Run.run (va_runV (As := [.int (xa)]) (rest := []) ⟨hx, hb, hml, hown, hts⟩ (mX5_wordIn_no l fo_0 fa_3 h3 hwd hxa) (cwV 1 hts gX5_lead_X5_wordIn rfl rfl rfl (by decide +kernel) ⟨Nat.le_of_ble_eq_true rfl, Nat.le_of_ble_eq_true rfl⟩) ⟨xB_blind, va_recv hK hP (ci := 5) rfl (xw_is (by decide) fo_0), fun U hU hW => ⟨rfl, by rw [hU]; exact hP, va_K.moved hW.alike hK, va_Nw.warmM hW hN⟩⟩ rfl rfl hl.1 rfl (lv_room (Nat.le_of_ble_eq_true rfl)) dX5_lead_2 ⟨Nat.le_of_ble_eq_true rfl, Nat.le_of_ble_eq_true rfl⟩)) (fun r1 er1 => ?_)
  subst er1
  refine W.eq (g2 := F0 m 5 ls (.null :: [])) rfl ?_
  refine lv_astore_nN (lv' := [(3, .null), (0, .ref (ad (0))), (1, .int (xa)), (2, .int (nI (k2)))]) hx hb dX5_lead_5 rfl hl (by decide) rfl (fun ls hl => ?_)
  refine lv_aload_n hx hb dX5_lead_6 rfl (lv_at hl 1 rfl) ?_
  refine lv_iload_n hx hb dX5_lead_7 rfl (lv_at hl 3 rfl) ?_
  refine va_csq (va_Run.run (va_runV (As := [.int (nI (k2))]) (rest := []) ⟨hx, hb, hml, hown, hts⟩ (mX5_wordIn_yes l fo_0 fa_3 fo2 h3 hk2 eb2 hp2 hn2) (cwV 1 hts gX5_lead_X5_wordIn rfl rfl rfl (by decide +kernel) ⟨Nat.le_of_ble_eq_true rfl, Nat.le_of_ble_eq_true rfl⟩) ⟨xB_blind, va_recv hK hP (ci := 5) rfl (xw_is (by decide) fo_0), fun U hU hW => ⟨rfl, by rw [hU]; exact hP, va_K.moved hW.alike hK, va_Nw.warmM hW hN⟩⟩ rfl rfl hl.1 rfl (lv_room (Nat.le_of_ble_eq_true rfl)) dX5_lead_8 ⟨Nat.le_of_ble_eq_true rfl, Nat.le_of_ble_eq_true rfl⟩)) (fun r2 er2 => ?_)
  subst er2
  refine W.eq (g2 := F0 m 11 ls (.ref (ad (b2)) :: [])) rfl ?_
  refine lv_astore (lv' := [(4, .ref (ad (b2))), (3, .null), (0, .ref (ad (0))), (1, .int (xa)), (2, .int (nI (k2)))]) hx hb dX5_lead_11 hl (by decide) rfl (fun ls hl => ?_)
  refine lv_aload_nN hx hb dX5_lead_13 rfl (lv_at hl 1 rfl) ?_
  refine lv_ifnullN (tgt := 22) hx hb dX5_lead_14 (by decide) ?_
  refine lv_iconst (v := nI (0)) hx hb dX5_lead_22 (by decide) ?_
  exact W.zret (v := nI (0)) hx hb hr (by decide) (fun tZ ht hW => ⟨⟨_, g, rfl, (by have hO : oLead Wt w ln u xa (nI k2) = none := (by unfold oLead; rw [slotW_no hxa]); show _ = (if (oLead Wt w ln u xa (nI k2)).isSome then 1 else 0) ∧ _; rw [hO]; exact ⟨rfl, hC, fun _ _ => rfl⟩), by rw [ht]; exact hP, va_K.moved hW.alike hK, va_Nw.warmM hW hN⟩, hS.F ht⟩) hS.2.2 dX5_lead_23

set_option maxHeartbeats 4000000 in
set_option maxRecDepth 100000 in
theorem mX5_lead_nn (l : Launch) {D : va_G} {cI cJ cZ cW : ClassId} {ad : Nat → Nat} {A : Nat → Prop} (hD : ∀ g, va_D A (xw 81 ad g)) {g : Nat → va_E} {q Wt : Nat} {w : Nat → Nat} {ln : Nat → Nat} {u : Nat → Nat → Nat} {T : Nat} {t : Nat → Nat} {tp bt : Int64} {xa : Int32} {xb : Int32}  (hC : ClsI cI cJ cZ cW ad g q Wt w ln u T t tp bt) (hs : SrcI q Wt w ln u T t) (hxa : noW ln xa) (hxb : noW ln xb) : Met l yX5_lead wsX5_lead ({ frames := 2, cells := 0, slots := 0, locals := 58 }) (va_Pc [.ref (ad (0)), .int (xa), .int (xb)] (xB D (xT cI cJ cZ cW) ad g)) (va_Qi (fun r g2 => r = (if (oLead Wt w ln u (xa) (xb)).isSome then 1 else 0) ∧ ClsI cI cJ cZ cW ad g2 q Wt w ln u T t (hTp (oLead Wt w ln u (xa) (xb)) tp) (hBt (oLead Wt w ln u (xa) (xb)) bt) ∧ ∀ j : Nat, 62 ≤ j → g2 j = g j) (xB D (xT cI cJ cZ cW) ad) A) 0 0 A := by
  refine Met.ofW (cc := cX5_lead) (maxL := 5) (ret := (some .boolean)) (by decide) rfl ?_
  intro p e s m args below meth c s₁ B hml hv
  obtain ⟨rfl, hP, hK, hN⟩ := hv
  have hx := B.exec
  have hb := B.bytes
  have hr := B.returns
  have hts := atoms_spec (ws := wsX5_lead) B.pre
  have hown : s.vm.findClass RX5 = some m.cls := findClass_of_methodNamed B.named
  have hlocks := B.notSynchronized
  have hS : va_S A s.heap s.heap [] := va_S.rf
  have hl := lv_entry ([.ref (ad (0)), .int (xa), .int (xb)]) (n := 5) (Nat.le_of_ble_eq_true rfl)
  rw [lg_entry_eq]
  generalize (lg_sl ([.ref (ad (0)), .int (xa), .int (xb)]) ++ List.replicate (5 - (lg_sl ([.ref (ad (0)), .int (xa), .int (xb)])).length) Slot.unset).toArray = ls at hl ⊢
  have hl : lv_has ls 5 [(0, .ref (ad (0))), (1, .int (xa)), (2, .int (xb))] := hl
  obtain ⟨hq2, hq4, hw1, hw0, hWs, hWt, hw, hln, hul, hT, ht⟩ := hs
  obtain ⟨fo_0, ⟨f2, fo_1, fa_2, h2⟩, ⟨f3, fa_3, h3⟩, hRace, hMach, ⟨f16, fo15, fa16, h16⟩, hwd, hcand⟩ := id hC
  refine lv_aload_n hx hb dX5_lead_0 rfl (lv_at hl 0 rfl) ?_
  refine lv_iload_n hx hb dX5_lead_1 rfl (lv_at hl 1 rfl) ?_
  refine va_csq (va_Run.run (va_runV (As := [.int (xa)]) (rest := []) ⟨hx, hb, hml, hown, hts⟩ (mX5_wordIn_no l fo_0 fa_3 h3 hwd hxa) (cwV 1 hts gX5_lead_X5_wordIn rfl rfl rfl (by decide +kernel) ⟨Nat.le_of_ble_eq_true rfl, Nat.le_of_ble_eq_true rfl⟩) ⟨xB_blind, va_recv hK hP (ci := 5) rfl (xw_is (by decide) fo_0), fun U hU hW => ⟨rfl, by rw [hU]; exact hP, va_K.moved hW.alike hK, va_Nw.warmM hW hN⟩⟩ rfl rfl hl.1 rfl (lv_room (Nat.le_of_ble_eq_true rfl)) dX5_lead_2 ⟨Nat.le_of_ble_eq_true rfl, Nat.le_of_ble_eq_true rfl⟩)) (fun r1 er1 => ?_)
  subst er1
  refine W.eq (g2 := F0 m 5 ls (.null :: [])) rfl ?_
  refine lv_astore_nN (lv' := [(3, .null), (0, .ref (ad (0))), (1, .int (xa)), (2, .int (xb))]) hx hb dX5_lead_5 rfl hl (by decide) rfl (fun ls hl => ?_)
  refine lv_aload_n hx hb dX5_lead_6 rfl (lv_at hl 1 rfl) ?_
  refine lv_iload_n hx hb dX5_lead_7 rfl (lv_at hl 3 rfl) ?_
  refine va_csq (va_Run.run (va_runV (As := [.int (xb)]) (rest := []) ⟨hx, hb, hml, hown, hts⟩ (mX5_wordIn_no l fo_0 fa_3 h3 hwd hxb) (cwV 1 hts gX5_lead_X5_wordIn rfl rfl rfl (by decide +kernel) ⟨Nat.le_of_ble_eq_true rfl, Nat.le_of_ble_eq_true rfl⟩) ⟨xB_blind, va_recv hK hP (ci := 5) rfl (xw_is (by decide) fo_0), fun U hU hW => ⟨rfl, by rw [hU]; exact hP, va_K.moved hW.alike hK, va_Nw.warmM hW hN⟩⟩ rfl rfl hl.1 rfl (lv_room (Nat.le_of_ble_eq_true rfl)) dX5_lead_8 ⟨Nat.le_of_ble_eq_true rfl, Nat.le_of_ble_eq_true rfl⟩)) (fun r2 er2 => ?_)
  subst er2
  refine W.eq (g2 := F0 m 11 ls (.null :: [])) rfl ?_
  refine lv_astoreN (lv' := [(4, .null), (3, .null), (0, .ref (ad (0))), (1, .int (xa)), (2, .int (xb))]) hx hb dX5_lead_11 hl (by decide) rfl (fun ls hl => ?_)
  refine lv_aload_nN hx hb dX5_lead_13 rfl (lv_at hl 1 rfl) ?_
  refine lv_ifnullN (tgt := 22) hx hb dX5_lead_14 (by decide) ?_
  refine lv_iconst (v := nI (0)) hx hb dX5_lead_22 (by decide) ?_
  exact W.zret (v := nI (0)) hx hb hr (by decide) (fun tZ ht hW => ⟨⟨_, g, rfl, (by have hO : oLead Wt w ln u xa xb = none := (by exact slotW_2n hxb); show _ = (if (oLead Wt w ln u xa xb).isSome then 1 else 0) ∧ _; rw [hO]; exact ⟨rfl, hC, fun _ _ => rfl⟩), by rw [ht]; exact hP, va_K.moved hW.alike hK, va_Nw.warmM hW hN⟩, hS.F ht⟩) hS.2.2 dX5_lead_23

theorem mX5_lead (l : Launch) {D : va_G} {cI cJ cZ cW : ClassId} {ad : Nat → Nat} {A : Nat → Prop} (hD : ∀ g, va_D A (xw 81 ad g)) {g : Nat → va_E} {q Wt : Nat} {w : Nat → Nat} {ln : Nat → Nat} {u : Nat → Nat → Nat} {T : Nat} {t : Nat → Nat} {tp bt : Int64} (hC : ClsI cI cJ cZ cW ad g q Wt w ln u T t tp bt) (hs : SrcI q Wt w ln u T t) (xa xb : Int32) : Met l yX5_lead wsX5_lead ({ frames := 2, cells := 0, slots := 0, locals := 58 }) (va_Pc [.ref (ad (0)), .int xa, .int xb] (xB D (xT cI cJ cZ cW) ad g)) (va_Qi (fun r g2 => r = (if (oLead Wt w ln u (xa) (xb)).isSome then 1 else 0) ∧ ClsI cI cJ cZ cW ad g2 q Wt w ln u T t (hTp (oLead Wt w ln u (xa) (xb)) tp) (hBt (oLead Wt w ln u (xa) (xb)) bt) ∧ ∀ j : Nat, 62 ≤ j → g2 j = g j) (xB D (xT cI cJ cZ cW) ad) A) 0 0 A := by
  rcases slotW_cases ln xa with hxa | ⟨k1, hk1, rfl, hp1⟩
  · rcases slotW_cases ln xb with hxb | ⟨k2, hk2, rfl, hp2⟩
    · exact mX5_lead_nn l hD hC hs hxa hxb
    · exact mX5_lead_ns l hD hC hs hxa hk2 rfl rfl rfl rfl rfl hp2
  · rcases slotW_cases ln xb with hxb | ⟨k2, hk2, rfl, hp2⟩
    · exact mX5_lead_sn l hD hC hs hk1 rfl rfl rfl rfl rfl hp1 hxb
    · exact mX5_lead_ss l hD hC hs hk1 rfl rfl rfl rfl rfl hp1 hk2 rfl rfl rfl rfl rfl hp2

set_option maxHeartbeats 4000000 in
set_option maxRecDepth 100000 in
theorem mX5_wait0_s (l : Launch) {D : va_G} {cI cJ cZ cW : ClassId} {ad : Nat → Nat} {A : Nat → Prop} (hD : ∀ g, va_D A (xw 81 ad g)) {g : Nat → va_E} {q Wt : Nat} {w : Nat → Nat} {ln : Nat → Nat} {u : Nat → Nat → Nat} {T : Nat} {t : Nat → Nat} {tp bt : Int64} {k1 b1 n1 ol1 : Nat} {u1 sf1 : Nat → Nat}  (hC : ClsI cI cJ cZ cW ad g q Wt w ln u T t tp bt) (hs : SrcI q Wt w ln u T t) (hk1 : k1 < 8) (eb1 : 17 + 5 * k1 = b1) (en1 : ln k1 = n1) (eu1 : u k1 = u1) (es1 : shr Wt w u1 n1 = sf1) (eo1 : ownL Wt w u1 n1 = ol1) (hp1 : 0 < n1) : Met l yX5_wait wsX5_wait ({ frames := 2, cells := 0, slots := 0, locals := 58 }) (va_Pc [.ref (ad (0)), .int (nI (k1)), .int (nI (0))] (xB D (xT cI cJ cZ cW) ad g)) (va_Qi (fun r g2 => r = (if (oWait Wt w ln u (nI (k1)) (nI 0)).isSome then 1 else 0) ∧ ClsI cI cJ cZ cW ad g2 q Wt w ln u T t (hTp (oWait Wt w ln u (nI (k1)) (nI 0)) tp) (hBt (oWait Wt w ln u (nI (k1)) (nI 0)) bt) ∧ ∀ j : Nat, 62 ≤ j → g2 j = g j) (xB D (xT cI cJ cZ cW) ad) A) 0 0 A := by
  refine Met.ofW (cc := cX5_wait) (maxL := 4) (ret := (some .boolean)) (by decide) rfl ?_
  intro p e s m args below meth c s₁ B hml hv
  obtain ⟨rfl, hP, hK, hN⟩ := hv
  have hx := B.exec
  have hb := B.bytes
  have hr := B.returns
  have hts := atoms_spec (ws := wsX5_wait) B.pre
  have hown : s.vm.findClass RX5 = some m.cls := findClass_of_methodNamed B.named
  have hlocks := B.notSynchronized
  have hS : va_S A s.heap s.heap [] := va_S.rf
  have hin4 : ∀ w ∈ wsX40, w ∈ wsX5_wait := by decide +kernel
  have hf109 := hts (.fieldLink RX5 109 "LettersByLot$Word" "ownLead" "J") (by decide +kernel)
  have hl := lv_entry ([.ref (ad (0)), .int (nI (k1)), .int (nI (0))]) (n := 4) (Nat.le_of_ble_eq_true rfl)
  rw [lg_entry_eq]
  generalize (lg_sl ([.ref (ad (0)), .int (nI (k1)), .int (nI (0))]) ++ List.replicate (4 - (lg_sl ([.ref (ad (0)), .int (nI (k1)), .int (nI (0))])).length) Slot.unset).toArray = ls at hl ⊢
  have hl : lv_has ls 4 [(0, .ref (ad (0))), (1, .int (nI (k1))), (2, .int (nI (0)))] := hl
  obtain ⟨hq2, hq4, hw1, hw0, hWs, hWt, hw, hln, hul, hT, ht⟩ := hs
  obtain ⟨fo_0, ⟨f2, fo_1, fa_2, h2⟩, ⟨f3, fa_3, h3⟩, hRace, hMach, ⟨f16, fo15, fa16, h16⟩, hwd, hcand⟩ := id hC
  obtain ⟨fl1, fh1, ft1, fs1, fo1, fal1, fah1, fat1, fas1, hfl1, hfh1, hft1, hfs1⟩ := cw_pos hwd hk1 eb1 en1 eu1 es1 eo1 hp1
  have hb1 : b1 + 4 < 81 := by omega
  have hn1 : n1 ≤ 5 := en1 ▸ hln k1
  have hu1 : ∀ j, j < n1 → u1 j < q := fun j hj => by rw [← eu1]; exact hul k1 j (by rw [en1]; exact hj)
  have hwu1 : ∀ j, j < n1 → w (u1 j) ≤ 4 := fun j hj => hw _ (Nat.lt_of_lt_of_le (hu1 j hj) hq4)
  have hsf1 : ∀ k, k ≤ n1 → sf1 k ≤ 1024 := fun k hk => es1 ▸ shr_le hWt hwu1 hn1 hk
  have hs01 : 1 ≤ sf1 0 := es1 ▸ shr_0 (fun j hj => hw1 _ (hu1 j hj))
  have hol1 : ol1 ≤ 5120 := by rw [← eo1]; show lapS (shr Wt w u1 n1) u1 n1 u1 n1 5 ≤ 5120; rw [es1]; exact lapS_le hsf1 5
  refine lv_aload_n hx hb dX5_wait_0 rfl (lv_at hl 0 rfl) ?_
  refine lv_iload_n hx hb dX5_wait_1 rfl (lv_at hl 1 rfl) ?_
  refine va_csq (va_Run.run (va_runV (As := [.int (nI (k1))]) (rest := []) ⟨hx, hb, hml, hown, hts⟩ (mX5_wordIn_yes l fo_0 fa_3 fo1 h3 hk1 eb1 hp1 hn1) (cwV 1 hts gX5_wait_X5_wordIn rfl rfl rfl (by decide +kernel) ⟨Nat.le_of_ble_eq_true rfl, Nat.le_of_ble_eq_true rfl⟩) ⟨xB_blind, va_recv hK hP (ci := 5) rfl (xw_is (by decide) fo_0), fun U hU hW => ⟨rfl, by rw [hU]; exact hP, va_K.moved hW.alike hK, va_Nw.warmM hW hN⟩⟩ rfl rfl hl.1 rfl (lv_room (Nat.le_of_ble_eq_true rfl)) dX5_wait_2 ⟨Nat.le_of_ble_eq_true rfl, Nat.le_of_ble_eq_true rfl⟩)) (fun r1 er1 => ?_)
  subst er1
  refine W.eq (g2 := F0 m 5 ls (.ref (ad (b1)) :: [])) rfl ?_
  refine lv_astore_n (lv' := [(3, .ref (ad (b1))), (0, .ref (ad (0))), (1, .int (nI (k1))), (2, .int (nI (0)))]) hx hb dX5_wait_5 rfl hl (by decide) rfl (fun ls hl => ?_)
  refine lv_aload_n hx hb dX5_wait_6 rfl (lv_at hl 0 rfl) ?_
  refine lv_ifnull hx hb dX5_wait_7 ?_
  refine lv_iload_n hx hb dX5_wait_10 rfl (lv_at hl 3 rfl) ?_
  refine xi_if_lt (tgt := 19) hx hb (by decide) dX5_wait_11 (by decide) ?_
  refine lv_iload_n hx hb dX5_wait_14 rfl (lv_at hl 3 rfl) ?_
  refine lv_iconst (v := nI (1)) hx hb dX5_wait_15 (by decide) ?_
  refine xi_icmp_le (tgt := 21) hx hb (by decide) (by decide) dX5_wait_16 (by decide) (fun _ => ?_) (fun c0 => absurd c0 (by decide))
  refine lv_iload_n hx hb dX5_wait_21 rfl (lv_at hl 3 rfl) ?_
  refine xi_if_ne (tgt := 40) hx hb (by decide) dX5_wait_22 (by decide) (fun c0 => absurd c0 (by decide)) (fun _ => ?_)
  refine lv_aload_n hx hb dX5_wait_25 rfl (lv_at hl 1 rfl) ?_
  refine lv_aload_n hx hb dX5_wait_26 rfl (lv_at hl 0 rfl) ?_
  refine xw_get hx hb hts hin4 hown hK hP (by omega) fo1 rfl 6 (by decide) hf109 rfl rfl dX5_wait_27 ?_
  refine lv_aload_n hx hb dX5_wait_30 rfl (lv_at hl 0 rfl) ?_
  refine vp_callSl (va_Run.run (va_runV (As := []) (rest := [.long (lZ ((ol1 : Int))), .ref (ad (0))]) ⟨hx, hb, hml, hown, hts⟩ (mX4_leadBottom l (q := q) fo1 fas1 hb1 hn1 hu1 hfs1) (cwV 0 hts gX5_wait_X4_leadBottom rfl rfl rfl (by decide +kernel) ⟨Nat.le_of_ble_eq_true rfl, Nat.le_of_ble_eq_true rfl⟩) ⟨xB_blind, va_recv hK hP (ci := 4) rfl (xw_is (by omega) fo1), fun U hU hW => ⟨rfl, by rw [hU]; exact hP, va_K.moved hW.alike hK, va_Nw.warmM hW hN⟩⟩ rfl rfl hl.1 rfl (lv_room (Nat.le_of_ble_eq_true rfl)) dX5_wait_31 ⟨Nat.le_of_ble_eq_true rfl, Nat.le_of_ble_eq_true rfl⟩)) (fun r5 er5 => ?_)
  subst er5
  refine va_callv (va_runV (As := [.long (lZ ((ol1 : Int))), .long (lZ ((sf1 0 : Int)))]) (rest := []) ⟨hx, hb, hml, hown, hts⟩ (mX5_hold l hD (a := (ol1 : Int)) (b := (sf1 0 : Int)) fo_0 (by omega) (by have h9 := hsf1 0 (by omega); omega) (by omega)) (cwV 2 hts gX5_wait_X5_hold rfl rfl rfl (by decide +kernel) ⟨Nat.le_of_ble_eq_true rfl, Nat.le_of_ble_eq_true rfl⟩) ⟨xB_blind, va_recv hK hP (ci := 5) rfl (xw_is (by decide) fo_0), fun U hU hW => ⟨rfl, by rw [hU]; exact hP, va_K.moved hW.alike hK, va_Nw.warmM hW hN⟩⟩ rfl rfl hl.1 rfl (lv_room (Nat.le_of_ble_eq_true rfl)) dX5_wait_34 ⟨Nat.le_of_ble_eq_true rfl, Nat.le_of_ble_eq_true rfl⟩) hS (fun _ _ h => h) (fun _ h => h) (fun g6 tZ H locs ht hvm hwg6 hB hzZ hkZ hS => ?_)
  obtain ⟨hP, -⟩ := hB
  rw [ht] at hP
  obtain ⟨fg6_n0, hcg6⟩ := hwg6
  have fg6_k0 : g6 (1) = .inr (0, [.ref (ad (2)), .int (nI (q)), .int (nI (Wt))]) := (hcg6 (1) (by decide)).trans fo_1
  have fg6_k1 : g6 (2) = .inl (cI, 4, .inl (f2)) := (hcg6 (2) (by decide)).trans fa_2
  have fg6_k2 : g6 (15) = .inr (3, [.ref (ad (16)), .int (nI (T))]) := (hcg6 (15) (by decide)).trans fo15
  have fg6_k3 : g6 (16) = .inl (cI, 300, .inl (f16)) := (hcg6 (16) (by decide)).trans fa16
  have fg6_k4 : g6 (3) = .inl (cW, 8, .inr (.inr (.inr (.inr (f3))))) := (hcg6 (3) (by decide)).trans fa_3
  have fg6_k5 : g6 (b1) = .inr (4, [.ref (ad (b1 + 1)), .ref (ad (b1 + 2)), .ref (ad (b1 + 3)), .ref (ad (b1 + 4)), .int (nI (n1)), .int (nI (px q u1 n1)), .long (lZ ((ol1 : Int)))]) := (hcg6 (b1) (by omega)).trans fo1
  have fg6_k6 : g6 (b1 + 1) = .inl (cI, 5, .inl (fl1)) := (hcg6 (b1 + 1) (by omega)).trans fal1
  have fg6_k7 : g6 (b1 + 2) = .inl (cI, 6, .inl (fh1)) := (hcg6 (b1 + 2) (by omega)).trans fah1
  have fg6_k8 : g6 (b1 + 3) = .inl (cI, 6, .inl (ft1)) := (hcg6 (b1 + 3) (by omega)).trans fat1
  have fg6_k9 : g6 (b1 + 4) = .inl (cJ, 6, .inr (.inl (fs1))) := (hcg6 (b1 + 4) (by omega)).trans fas1
  have hfrg6 : ∀ j : Nat, j ≠ 0 → g6 j = g j := fun j h0 => (hcg6 j h0).trans ((fun _ _ => rfl) j h0)
  refine lv_goto (tgt := 57) hx hb dX5_wait_37 (by decide) ?_
  refine lv_iconst (v := nI (1)) hx hb dX5_wait_57 (by decide) ?_
  exact W.zret (v := nI (1)) hx hb hr (by decide) (fun tZ ht hW => ⟨⟨_, g6, rfl, (by subst en1 eu1 es1 eo1; have hO : oWait Wt w ln u (nI k1) (nI 0) = some (fMean Wt w (u k1) (ln k1)) := (by unfold oWait; rw [slotW_yes hk1 hp1]; rfl); show _ = (if (oWait Wt w ln u (nI k1) (nI 0)).isSome then 1 else 0) ∧ _; rw [hO]; exact ⟨rfl, hC.hand fg6_n0 hfrg6, fun j hj => hfrg6 j (by omega)⟩), by rw [ht]; exact hP, va_K.moved hW.alike hK, va_Nw.warmM hW hN⟩, hS.F ht⟩) hS.2.2 dX5_wait_58

set_option maxHeartbeats 4000000 in
set_option maxRecDepth 100000 in
theorem mX5_wait0_n (l : Launch) {D : va_G} {cI cJ cZ cW : ClassId} {ad : Nat → Nat} {A : Nat → Prop} (hD : ∀ g, va_D A (xw 81 ad g)) {g : Nat → va_E} {q Wt : Nat} {w : Nat → Nat} {ln : Nat → Nat} {u : Nat → Nat → Nat} {T : Nat} {t : Nat → Nat} {tp bt : Int64} {xa : Int32}  (hC : ClsI cI cJ cZ cW ad g q Wt w ln u T t tp bt) (hs : SrcI q Wt w ln u T t) (hxa : noW ln xa) : Met l yX5_wait wsX5_wait ({ frames := 2, cells := 0, slots := 0, locals := 58 }) (va_Pc [.ref (ad (0)), .int (xa), .int (nI (0))] (xB D (xT cI cJ cZ cW) ad g)) (va_Qi (fun r g2 => r = (if (oWait Wt w ln u (xa) (nI 0)).isSome then 1 else 0) ∧ ClsI cI cJ cZ cW ad g2 q Wt w ln u T t (hTp (oWait Wt w ln u (xa) (nI 0)) tp) (hBt (oWait Wt w ln u (xa) (nI 0)) bt) ∧ ∀ j : Nat, 62 ≤ j → g2 j = g j) (xB D (xT cI cJ cZ cW) ad) A) 0 0 A := by
  refine Met.ofW (cc := cX5_wait) (maxL := 4) (ret := (some .boolean)) (by decide) rfl ?_
  intro p e s m args below meth c s₁ B hml hv
  obtain ⟨rfl, hP, hK, hN⟩ := hv
  have hx := B.exec
  have hb := B.bytes
  have hr := B.returns
  have hts := atoms_spec (ws := wsX5_wait) B.pre
  have hown : s.vm.findClass RX5 = some m.cls := findClass_of_methodNamed B.named
  have hlocks := B.notSynchronized
  have hS : va_S A s.heap s.heap [] := va_S.rf
  have hl := lv_entry ([.ref (ad (0)), .int (xa), .int (nI (0))]) (n := 4) (Nat.le_of_ble_eq_true rfl)
  rw [lg_entry_eq]
  generalize (lg_sl ([.ref (ad (0)), .int (xa), .int (nI (0))]) ++ List.replicate (4 - (lg_sl ([.ref (ad (0)), .int (xa), .int (nI (0))])).length) Slot.unset).toArray = ls at hl ⊢
  have hl : lv_has ls 4 [(0, .ref (ad (0))), (1, .int (xa)), (2, .int (nI (0)))] := hl
  obtain ⟨hq2, hq4, hw1, hw0, hWs, hWt, hw, hln, hul, hT, ht⟩ := hs
  obtain ⟨fo_0, ⟨f2, fo_1, fa_2, h2⟩, ⟨f3, fa_3, h3⟩, hRace, hMach, ⟨f16, fo15, fa16, h16⟩, hwd, hcand⟩ := id hC
  refine lv_aload_n hx hb dX5_wait_0 rfl (lv_at hl 0 rfl) ?_
  refine lv_iload_n hx hb dX5_wait_1 rfl (lv_at hl 1 rfl) ?_
  refine va_csq (va_Run.run (va_runV (As := [.int (xa)]) (rest := []) ⟨hx, hb, hml, hown, hts⟩ (mX5_wordIn_no l fo_0 fa_3 h3 hwd hxa) (cwV 1 hts gX5_wait_X5_wordIn rfl rfl rfl (by decide +kernel) ⟨Nat.le_of_ble_eq_true rfl, Nat.le_of_ble_eq_true rfl⟩) ⟨xB_blind, va_recv hK hP (ci := 5) rfl (xw_is (by decide) fo_0), fun U hU hW => ⟨rfl, by rw [hU]; exact hP, va_K.moved hW.alike hK, va_Nw.warmM hW hN⟩⟩ rfl rfl hl.1 rfl (lv_room (Nat.le_of_ble_eq_true rfl)) dX5_wait_2 ⟨Nat.le_of_ble_eq_true rfl, Nat.le_of_ble_eq_true rfl⟩)) (fun r1 er1 => ?_)
  subst er1
  refine W.eq (g2 := F0 m 5 ls (.null :: [])) rfl ?_
  refine lv_astore_nN (lv' := [(3, .null), (0, .ref (ad (0))), (1, .int (xa)), (2, .int (nI (0)))]) hx hb dX5_wait_5 rfl hl (by decide) rfl (fun ls hl => ?_)
  refine lv_aload_nN hx hb dX5_wait_6 rfl (lv_at hl 0 rfl) ?_
  refine lv_ifnullN (tgt := 19) hx hb dX5_wait_7 (by decide) ?_
  refine lv_iconst (v := nI (0)) hx hb dX5_wait_19 (by decide) ?_
  exact W.zret (v := nI (0)) hx hb hr (by decide) (fun tZ ht hW => ⟨⟨_, g, rfl, (by have hO : oWait Wt w ln u xa (nI 0) = none := (by unfold oWait; rw [slotW_no hxa]); show _ = (if (oWait Wt w ln u xa (nI 0)).isSome then 1 else 0) ∧ _; rw [hO]; exact ⟨rfl, hC, fun _ _ => rfl⟩), by rw [ht]; exact hP, va_K.moved hW.alike hK, va_Nw.warmM hW hN⟩, hS.F ht⟩) hS.2.2 dX5_wait_20

theorem mX5_wait0 (l : Launch) {D : va_G} {cI cJ cZ cW : ClassId} {ad : Nat → Nat} {A : Nat → Prop} (hD : ∀ g, va_D A (xw 81 ad g)) {g : Nat → va_E} {q Wt : Nat} {w : Nat → Nat} {ln : Nat → Nat} {u : Nat → Nat → Nat} {T : Nat} {t : Nat → Nat} {tp bt : Int64} (hC : ClsI cI cJ cZ cW ad g q Wt w ln u T t tp bt) (hs : SrcI q Wt w ln u T t) (xa : Int32) : Met l yX5_wait wsX5_wait ({ frames := 2, cells := 0, slots := 0, locals := 58 }) (va_Pc [.ref (ad (0)), .int xa, .int (nI (0))] (xB D (xT cI cJ cZ cW) ad g)) (va_Qi (fun r g2 => r = (if (oWait Wt w ln u (xa) (nI 0)).isSome then 1 else 0) ∧ ClsI cI cJ cZ cW ad g2 q Wt w ln u T t (hTp (oWait Wt w ln u (xa) (nI 0)) tp) (hBt (oWait Wt w ln u (xa) (nI 0)) bt) ∧ ∀ j : Nat, 62 ≤ j → g2 j = g j) (xB D (xT cI cJ cZ cW) ad) A) 0 0 A := by
  rcases slotW_cases ln xa with hxa | ⟨k1, hk1, rfl, hp1⟩
  · exact mX5_wait0_n l hD hC hs hxa
  · exact mX5_wait0_s l hD hC hs hk1 rfl rfl rfl rfl rfl hp1

set_option maxHeartbeats 4000000 in
set_option maxRecDepth 100000 in
theorem mX5_wait1_s (l : Launch) {D : va_G} {cI cJ cZ cW : ClassId} {ad : Nat → Nat} {A : Nat → Prop} (hD : ∀ g, va_D A (xw 81 ad g)) {g : Nat → va_E} {q Wt : Nat} {w : Nat → Nat} {ln : Nat → Nat} {u : Nat → Nat → Nat} {T : Nat} {t : Nat → Nat} {tp bt : Int64} {k1 b1 n1 ol1 : Nat} {u1 sf1 : Nat → Nat}  (hC : ClsI cI cJ cZ cW ad g q Wt w ln u T t tp bt) (hs : SrcI q Wt w ln u T t) (hk1 : k1 < 8) (eb1 : 17 + 5 * k1 = b1) (en1 : ln k1 = n1) (eu1 : u k1 = u1) (es1 : shr Wt w u1 n1 = sf1) (eo1 : ownL Wt w u1 n1 = ol1) (hp1 : 0 < n1) : Met l yX5_wait wsX5_wait ({ frames := 2, cells := 0, slots := 0, locals := 58 }) (va_Pc [.ref (ad (0)), .int (nI (k1)), .int (nI (1))] (xB D (xT cI cJ cZ cW) ad g)) (va_Qi (fun r g2 => r = (if (oWait Wt w ln u (nI (k1)) (nI 1)).isSome then 1 else 0) ∧ ClsI cI cJ cZ cW ad g2 q Wt w ln u T t (hTp (oWait Wt w ln u (nI (k1)) (nI 1)) tp) (hBt (oWait Wt w ln u (nI (k1)) (nI 1)) bt) ∧ ∀ j : Nat, 62 ≤ j → g2 j = g j) (xB D (xT cI cJ cZ cW) ad) A) 0 0 A := by
  refine Met.ofW (cc := cX5_wait) (maxL := 4) (ret := (some .boolean)) (by decide) rfl ?_
  intro p e s m args below meth c s₁ B hml hv
  obtain ⟨rfl, hP, hK, hN⟩ := hv
  have hx := B.exec
  have hb := B.bytes
  have hr := B.returns
  have hts := atoms_spec (ws := wsX5_wait) B.pre
  have hown : s.vm.findClass RX5 = some m.cls := findClass_of_methodNamed B.named
  have hlocks := B.notSynchronized
  have hS : va_S A s.heap s.heap [] := va_S.rf
  have hl := lv_entry ([.ref (ad (0)), .int (nI (k1)), .int (nI (1))]) (n := 4) (Nat.le_of_ble_eq_true rfl)
  rw [lg_entry_eq]
  generalize (lg_sl ([.ref (ad (0)), .int (nI (k1)), .int (nI (1))]) ++ List.replicate (4 - (lg_sl ([.ref (ad (0)), .int (nI (k1)), .int (nI (1))])).length) Slot.unset).toArray = ls at hl ⊢
  have hl : lv_has ls 4 [(0, .ref (ad (0))), (1, .int (nI (k1))), (2, .int (nI (1)))] := hl
  obtain ⟨hq2, hq4, hw1, hw0, hWs, hWt, hw, hln, hul, hT, ht⟩ := hs
  obtain ⟨fo_0, ⟨f2, fo_1, fa_2, h2⟩, ⟨f3, fa_3, h3⟩, hRace, hMach, ⟨f16, fo15, fa16, h16⟩, hwd, hcand⟩ := id hC
  obtain ⟨fl1, fh1, ft1, fs1, fo1, fal1, fah1, fat1, fas1, hfl1, hfh1, hft1, hfs1⟩ := cw_pos hwd hk1 eb1 en1 eu1 es1 eo1 hp1
  have hb1 : b1 + 4 < 81 := by omega
  have hn1 : n1 ≤ 5 := en1 ▸ hln k1
  have hu1 : ∀ j, j < n1 → u1 j < q := fun j hj => by rw [← eu1]; exact hul k1 j (by rw [en1]; exact hj)
  have hwu1 : ∀ j, j < n1 → w (u1 j) ≤ 4 := fun j hj => hw _ (Nat.lt_of_lt_of_le (hu1 j hj) hq4)
  have hsf1 : ∀ k, k ≤ n1 → sf1 k ≤ 1024 := fun k hk => es1 ▸ shr_le hWt hwu1 hn1 hk
  have hs01 : 1 ≤ sf1 0 := es1 ▸ shr_0 (fun j hj => hw1 _ (hu1 j hj))
  have hol1 : ol1 ≤ 5120 := by rw [← eo1]; show lapS (shr Wt w u1 n1) u1 n1 u1 n1 5 ≤ 5120; rw [es1]; exact lapS_le hsf1 5
  refine lv_aload_n hx hb dX5_wait_0 rfl (lv_at hl 0 rfl) ?_
  refine lv_iload_n hx hb dX5_wait_1 rfl (lv_at hl 1 rfl) ?_
  refine va_csq (va_Run.run (va_runV (As := [.int (nI (k1))]) (rest := []) ⟨hx, hb, hml, hown, hts⟩ (mX5_wordIn_yes l fo_0 fa_3 fo1 h3 hk1 eb1 hp1 hn1) (cwV 1 hts gX5_wait_X5_wordIn rfl rfl rfl (by decide +kernel) ⟨Nat.le_of_ble_eq_true rfl, Nat.le_of_ble_eq_true rfl⟩) ⟨xB_blind, va_recv hK hP (ci := 5) rfl (xw_is (by decide) fo_0), fun U hU hW => ⟨rfl, by rw [hU]; exact hP, va_K.moved hW.alike hK, va_Nw.warmM hW hN⟩⟩ rfl rfl hl.1 rfl (lv_room (Nat.le_of_ble_eq_true rfl)) dX5_wait_2 ⟨Nat.le_of_ble_eq_true rfl, Nat.le_of_ble_eq_true rfl⟩)) (fun r1 er1 => ?_)
  subst er1
  refine W.eq (g2 := F0 m 5 ls (.ref (ad (b1)) :: [])) rfl ?_
  refine lv_astore_n (lv' := [(3, .ref (ad (b1))), (0, .ref (ad (0))), (1, .int (nI (k1))), (2, .int (nI (1)))]) hx hb dX5_wait_5 rfl hl (by decide) rfl (fun ls hl => ?_)
  refine lv_aload_n hx hb dX5_wait_6 rfl (lv_at hl 0 rfl) ?_
  refine lv_ifnull hx hb dX5_wait_7 ?_
  refine lv_iload_n hx hb dX5_wait_10 rfl (lv_at hl 3 rfl) ?_
  refine xi_if_lt (tgt := 19) hx hb (by decide) dX5_wait_11 (by decide) ?_
  refine lv_iload_n hx hb dX5_wait_14 rfl (lv_at hl 3 rfl) ?_
  refine lv_iconst (v := nI (1)) hx hb dX5_wait_15 (by decide) ?_
  refine xi_icmp_le (tgt := 21) hx hb (by decide) (by decide) dX5_wait_16 (by decide) (fun _ => ?_) (fun c0 => absurd c0 (by decide))
  refine lv_iload_n hx hb dX5_wait_21 rfl (lv_at hl 3 rfl) ?_
  refine xi_if_ne (tgt := 40) hx hb (by decide) dX5_wait_22 (by decide) (fun _ => ?_) (fun c0 => absurd c0 (by decide))
  refine lv_aload_n hx hb dX5_wait_40 rfl (lv_at hl 1 rfl) ?_
  refine lv_aload_n hx hb dX5_wait_41 rfl (lv_at hl 0 rfl) ?_
  refine vp_callSl (va_Run.run (va_runV (As := []) (rest := [.ref (ad (0))]) ⟨hx, hb, hml, hown, hts⟩ (mX4_spreadTop l (q := q) fo1 fah1 fat1 fas1 hq4 hb1 hn1 hu1 hfh1 hft1 hfs1) (cwV 0 hts gX5_wait_X4_spreadTop rfl rfl rfl (by decide +kernel) ⟨Nat.le_of_ble_eq_true rfl, Nat.le_of_ble_eq_true rfl⟩) ⟨xB_blind, va_recv hK hP (ci := 4) rfl (xw_is (by omega) fo1), fun U hU hW => ⟨rfl, by rw [hU]; exact hP, va_K.moved hW.alike hK, va_Nw.warmM hW hN⟩⟩ rfl rfl hl.1 rfl (lv_room (Nat.le_of_ble_eq_true rfl)) dX5_wait_42 ⟨Nat.le_of_ble_eq_true rfl, Nat.le_of_ble_eq_true rfl⟩)) (fun r5 er5 => ?_)
  subst er5
  refine lv_aload_n hx hb dX5_wait_45 rfl (lv_at hl 0 rfl) ?_
  refine vp_callSl (va_Run.run (va_runV (As := []) (rest := [.long (lZ ((ol1 : Int) * (ol1 : Int) - (lapS (fun k => (2 * k - 1) * sf1 k) u1 n1 u1 n1 5 : Int) * (sf1 0 : Int))), .ref (ad (0))]) ⟨hx, hb, hml, hown, hts⟩ (mX4_leadBottom l (q := q) fo1 fas1 hb1 hn1 hu1 hfs1) (cwV 0 hts gX5_wait_X4_leadBottom rfl rfl rfl (by decide +kernel) ⟨Nat.le_of_ble_eq_true rfl, Nat.le_of_ble_eq_true rfl⟩) ⟨xB_blind, va_recv hK hP (ci := 4) rfl (xw_is (by omega) fo1), fun U hU hW => ⟨rfl, by rw [hU]; exact hP, va_K.moved hW.alike hK, va_Nw.warmM hW hN⟩⟩ rfl rfl hl.1 rfl (lv_room (Nat.le_of_ble_eq_true rfl)) dX5_wait_46 ⟨Nat.le_of_ble_eq_true rfl, Nat.le_of_ble_eq_true rfl⟩)) (fun r6 er6 => ?_)
  subst er6
  refine lv_aload_n hx hb dX5_wait_49 rfl (lv_at hl 0 rfl) ?_
  refine vp_callSl (va_Run.run (va_runV (As := []) (rest := [.long (lZ ((sf1 0 : Int))), .long (lZ ((ol1 : Int) * (ol1 : Int) - (lapS (fun k => (2 * k - 1) * sf1 k) u1 n1 u1 n1 5 : Int) * (sf1 0 : Int))), .ref (ad (0))]) ⟨hx, hb, hml, hown, hts⟩ (mX4_leadBottom l (q := q) fo1 fas1 hb1 hn1 hu1 hfs1) (cwV 0 hts gX5_wait_X4_leadBottom rfl rfl rfl (by decide +kernel) ⟨Nat.le_of_ble_eq_true rfl, Nat.le_of_ble_eq_true rfl⟩) ⟨xB_blind, va_recv hK hP (ci := 4) rfl (xw_is (by omega) fo1), fun U hU hW => ⟨rfl, by rw [hU]; exact hP, va_K.moved hW.alike hK, va_Nw.warmM hW hN⟩⟩ rfl rfl hl.1 rfl (lv_room (Nat.le_of_ble_eq_true rfl)) dX5_wait_50 ⟨Nat.le_of_ble_eq_true rfl, Nat.le_of_ble_eq_true rfl⟩)) (fun r7 er7 => ?_)
  subst er7
  refine xl_mul hx hb dX5_wait_53 ?_
  refine va_callv (va_runV (As := [.long (lZ ((ol1 : Int) * (ol1 : Int) - (lapS (fun k => (2 * k - 1) * sf1 k) u1 n1 u1 n1 5 : Int) * (sf1 0 : Int))), .long (lZ (((sf1 0 : Int)) * ((sf1 0 : Int))))]) (rest := []) ⟨hx, hb, hml, hown, hts⟩ (mX5_hold l hD (a := (ol1 : Int) * (ol1 : Int) - (lapS (fun k => (2 * k - 1) * sf1 k) u1 n1 u1 n1 5 : Int) * (sf1 0 : Int)) (b := ((sf1 0 : Int)) * ((sf1 0 : Int))) fo_0 (by have h9 := bnd_mul hol1 hol1; have h8 := lapS_le (u := u1) (n := n1) (v := u1) (f := fun k => (2 * k - 1) * sf1 k) (m := n1) (B := 9216) (fun k hk => by have := Nat.mul_le_mul (show 2 * k - 1 ≤ 9 by omega) (hsf1 k hk); omega) 5; have h7 := bnd_mul h8 (hsf1 0 (by omega)); omega) (by have h9 := bnd_mul (hsf1 0 (by omega)) (hsf1 0 (by omega)); omega) (by have h9 := Int.mul_pos (show (0 : Int) < (sf1 0 : Int) by omega) (show (0 : Int) < (sf1 0 : Int) by omega); omega)) (cwV 2 hts gX5_wait_X5_hold rfl rfl rfl (by decide +kernel) ⟨Nat.le_of_ble_eq_true rfl, Nat.le_of_ble_eq_true rfl⟩) ⟨xB_blind, va_recv hK hP (ci := 5) rfl (xw_is (by decide) fo_0), fun U hU hW => ⟨rfl, by rw [hU]; exact hP, va_K.moved hW.alike hK, va_Nw.warmM hW hN⟩⟩ rfl rfl hl.1 rfl (lv_room (Nat.le_of_ble_eq_true rfl)) dX5_wait_54 ⟨Nat.le_of_ble_eq_true rfl, Nat.le_of_ble_eq_true rfl⟩) hS (fun _ _ h => h) (fun _ h => h) (fun g8 tZ H locs ht hvm hwg8 hB hzZ hkZ hS => ?_)
  obtain ⟨hP, -⟩ := hB
  rw [ht] at hP
  obtain ⟨fg8_n0, hcg8⟩ := hwg8
  have fg8_k0 : g8 (1) = .inr (0, [.ref (ad (2)), .int (nI (q)), .int (nI (Wt))]) := (hcg8 (1) (by decide)).trans fo_1
  have fg8_k1 : g8 (2) = .inl (cI, 4, .inl (f2)) := (hcg8 (2) (by decide)).trans fa_2
  have fg8_k2 : g8 (15) = .inr (3, [.ref (ad (16)), .int (nI (T))]) := (hcg8 (15) (by decide)).trans fo15
  have fg8_k3 : g8 (16) = .inl (cI, 300, .inl (f16)) := (hcg8 (16) (by decide)).trans fa16
  have fg8_k4 : g8 (3) = .inl (cW, 8, .inr (.inr (.inr (.inr (f3))))) := (hcg8 (3) (by decide)).trans fa_3
  have fg8_k5 : g8 (b1) = .inr (4, [.ref (ad (b1 + 1)), .ref (ad (b1 + 2)), .ref (ad (b1 + 3)), .ref (ad (b1 + 4)), .int (nI (n1)), .int (nI (px q u1 n1)), .long (lZ ((ol1 : Int)))]) := (hcg8 (b1) (by omega)).trans fo1
  have fg8_k6 : g8 (b1 + 1) = .inl (cI, 5, .inl (fl1)) := (hcg8 (b1 + 1) (by omega)).trans fal1
  have fg8_k7 : g8 (b1 + 2) = .inl (cI, 6, .inl (fh1)) := (hcg8 (b1 + 2) (by omega)).trans fah1
  have fg8_k8 : g8 (b1 + 3) = .inl (cI, 6, .inl (ft1)) := (hcg8 (b1 + 3) (by omega)).trans fat1
  have fg8_k9 : g8 (b1 + 4) = .inl (cJ, 6, .inr (.inl (fs1))) := (hcg8 (b1 + 4) (by omega)).trans fas1
  have hfrg8 : ∀ j : Nat, j ≠ 0 → g8 j = g j := fun j h0 => (hcg8 j h0).trans ((fun _ _ => rfl) j h0)
  refine lv_iconst (v := nI (1)) hx hb dX5_wait_57 (by decide) ?_
  exact W.zret (v := nI (1)) hx hb hr (by decide) (fun tZ ht hW => ⟨⟨_, g8, rfl, (by subst en1 eu1 es1 eo1; have hO : oWait Wt w ln u (nI k1) (nI 1) = some (fSpread Wt w (u k1) (ln k1)) := (by unfold oWait; rw [slotW_yes hk1 hp1]; rfl); show _ = (if (oWait Wt w ln u (nI k1) (nI 1)).isSome then 1 else 0) ∧ _; rw [hO]; exact ⟨rfl, hC.hand fg8_n0 hfrg8, fun j hj => hfrg8 j (by omega)⟩), by rw [ht]; exact hP, va_K.moved hW.alike hK, va_Nw.warmM hW hN⟩, hS.F ht⟩) hS.2.2 dX5_wait_58

set_option maxHeartbeats 4000000 in
set_option maxRecDepth 100000 in
theorem mX5_wait1_n (l : Launch) {D : va_G} {cI cJ cZ cW : ClassId} {ad : Nat → Nat} {A : Nat → Prop} (hD : ∀ g, va_D A (xw 81 ad g)) {g : Nat → va_E} {q Wt : Nat} {w : Nat → Nat} {ln : Nat → Nat} {u : Nat → Nat → Nat} {T : Nat} {t : Nat → Nat} {tp bt : Int64} {xa : Int32}  (hC : ClsI cI cJ cZ cW ad g q Wt w ln u T t tp bt) (hs : SrcI q Wt w ln u T t) (hxa : noW ln xa) : Met l yX5_wait wsX5_wait ({ frames := 2, cells := 0, slots := 0, locals := 58 }) (va_Pc [.ref (ad (0)), .int (xa), .int (nI (1))] (xB D (xT cI cJ cZ cW) ad g)) (va_Qi (fun r g2 => r = (if (oWait Wt w ln u (xa) (nI 1)).isSome then 1 else 0) ∧ ClsI cI cJ cZ cW ad g2 q Wt w ln u T t (hTp (oWait Wt w ln u (xa) (nI 1)) tp) (hBt (oWait Wt w ln u (xa) (nI 1)) bt) ∧ ∀ j : Nat, 62 ≤ j → g2 j = g j) (xB D (xT cI cJ cZ cW) ad) A) 0 0 A := by
  refine Met.ofW (cc := cX5_wait) (maxL := 4) (ret := (some .boolean)) (by decide) rfl ?_
  intro p e s m args below meth c s₁ B hml hv
  obtain ⟨rfl, hP, hK, hN⟩ := hv
  have hx := B.exec
  have hb := B.bytes
  have hr := B.returns
  have hts := atoms_spec (ws := wsX5_wait) B.pre
  have hown : s.vm.findClass RX5 = some m.cls := findClass_of_methodNamed B.named
  have hlocks := B.notSynchronized
  have hS : va_S A s.heap s.heap [] := va_S.rf
  have hl := lv_entry ([.ref (ad (0)), .int (xa), .int (nI (1))]) (n := 4) (Nat.le_of_ble_eq_true rfl)
  rw [lg_entry_eq]
  generalize (lg_sl ([.ref (ad (0)), .int (xa), .int (nI (1))]) ++ List.replicate (4 - (lg_sl ([.ref (ad (0)), .int (xa), .int (nI (1))])).length) Slot.unset).toArray = ls at hl ⊢
  have hl : lv_has ls 4 [(0, .ref (ad (0))), (1, .int (xa)), (2, .int (nI (1)))] := hl
  obtain ⟨hq2, hq4, hw1, hw0, hWs, hWt, hw, hln, hul, hT, ht⟩ := hs
  obtain ⟨fo_0, ⟨f2, fo_1, fa_2, h2⟩, ⟨f3, fa_3, h3⟩, hRace, hMach, ⟨f16, fo15, fa16, h16⟩, hwd, hcand⟩ := id hC
  refine lv_aload_n hx hb dX5_wait_0 rfl (lv_at hl 0 rfl) ?_
  refine lv_iload_n hx hb dX5_wait_1 rfl (lv_at hl 1 rfl) ?_
  refine va_csq (va_Run.run (va_runV (As := [.int (xa)]) (rest := []) ⟨hx, hb, hml, hown, hts⟩ (mX5_wordIn_no l fo_0 fa_3 h3 hwd hxa) (cwV 1 hts gX5_wait_X5_wordIn rfl rfl rfl (by decide +kernel) ⟨Nat.le_of_ble_eq_true rfl, Nat.le_of_ble_eq_true rfl⟩) ⟨xB_blind, va_recv hK hP (ci := 5) rfl (xw_is (by decide) fo_0), fun U hU hW => ⟨rfl, by rw [hU]; exact hP, va_K.moved hW.alike hK, va_Nw.warmM hW hN⟩⟩ rfl rfl hl.1 rfl (lv_room (Nat.le_of_ble_eq_true rfl)) dX5_wait_2 ⟨Nat.le_of_ble_eq_true rfl, Nat.le_of_ble_eq_true rfl⟩)) (fun r1 er1 => ?_)
  subst er1
  refine W.eq (g2 := F0 m 5 ls (.null :: [])) rfl ?_
  refine lv_astore_nN (lv' := [(3, .null), (0, .ref (ad (0))), (1, .int (xa)), (2, .int (nI (1)))]) hx hb dX5_wait_5 rfl hl (by decide) rfl (fun ls hl => ?_)
  refine lv_aload_nN hx hb dX5_wait_6 rfl (lv_at hl 0 rfl) ?_
  refine lv_ifnullN (tgt := 19) hx hb dX5_wait_7 (by decide) ?_
  refine lv_iconst (v := nI (0)) hx hb dX5_wait_19 (by decide) ?_
  exact W.zret (v := nI (0)) hx hb hr (by decide) (fun tZ ht hW => ⟨⟨_, g, rfl, (by have hO : oWait Wt w ln u xa (nI 1) = none := (by unfold oWait; rw [slotW_no hxa]); show _ = (if (oWait Wt w ln u xa (nI 1)).isSome then 1 else 0) ∧ _; rw [hO]; exact ⟨rfl, hC, fun _ _ => rfl⟩), by rw [ht]; exact hP, va_K.moved hW.alike hK, va_Nw.warmM hW hN⟩, hS.F ht⟩) hS.2.2 dX5_wait_20

theorem mX5_wait1 (l : Launch) {D : va_G} {cI cJ cZ cW : ClassId} {ad : Nat → Nat} {A : Nat → Prop} (hD : ∀ g, va_D A (xw 81 ad g)) {g : Nat → va_E} {q Wt : Nat} {w : Nat → Nat} {ln : Nat → Nat} {u : Nat → Nat → Nat} {T : Nat} {t : Nat → Nat} {tp bt : Int64} (hC : ClsI cI cJ cZ cW ad g q Wt w ln u T t tp bt) (hs : SrcI q Wt w ln u T t) (xa : Int32) : Met l yX5_wait wsX5_wait ({ frames := 2, cells := 0, slots := 0, locals := 58 }) (va_Pc [.ref (ad (0)), .int xa, .int (nI (1))] (xB D (xT cI cJ cZ cW) ad g)) (va_Qi (fun r g2 => r = (if (oWait Wt w ln u (xa) (nI 1)).isSome then 1 else 0) ∧ ClsI cI cJ cZ cW ad g2 q Wt w ln u T t (hTp (oWait Wt w ln u (xa) (nI 1)) tp) (hBt (oWait Wt w ln u (xa) (nI 1)) bt) ∧ ∀ j : Nat, 62 ≤ j → g2 j = g j) (xB D (xT cI cJ cZ cW) ad) A) 0 0 A := by
  rcases slotW_cases ln xa with hxa | ⟨k1, hk1, rfl, hp1⟩
  · exact mX5_wait1_n l hD hC hs hxa
  · exact mX5_wait1_s l hD hC hs hk1 rfl rfl rfl rfl rfl hp1

set_option maxHeartbeats 4000000 in
set_option maxRecDepth 100000 in
theorem mX5_waitx_s (l : Launch) {D : va_G} {cI cJ cZ cW : ClassId} {ad : Nat → Nat} {A : Nat → Prop} (hD : ∀ g, va_D A (xw 81 ad g)) {g : Nat → va_E} {q Wt : Nat} {w : Nat → Nat} {ln : Nat → Nat} {u : Nat → Nat → Nat} {T : Nat} {t : Nat → Nat} {tp bt : Int64} {k1 b1 n1 ol1 : Nat} {u1 sf1 : Nat → Nat} {y0 : Int32}  (hC : ClsI cI cJ cZ cW ad g q Wt w ln u T t tp bt) (hs : SrcI q Wt w ln u T t) (hk1 : k1 < 8) (eb1 : 17 + 5 * k1 = b1) (en1 : ln k1 = n1) (eu1 : u k1 = u1) (es1 : shr Wt w u1 n1 = sf1) (eo1 : ownL Wt w u1 n1 = ol1) (hp1 : 0 < n1) (hy0 : y0 < 0 ∨ nI 1 < y0) : Met l yX5_wait wsX5_wait ({ frames := 2, cells := 0, slots := 0, locals := 41 }) (va_Pc [.ref (ad (0)), .int (nI (k1)), .int (y0)] (xB D (xT cI cJ cZ cW) ad g)) (va_Qi (fun r g2 => r = (if (oWait Wt w ln u (nI (k1)) y0).isSome then 1 else 0) ∧ ClsI cI cJ cZ cW ad g2 q Wt w ln u T t (hTp (oWait Wt w ln u (nI (k1)) y0) tp) (hBt (oWait Wt w ln u (nI (k1)) y0) bt) ∧ ∀ j : Nat, 62 ≤ j → g2 j = g j) (xB D (xT cI cJ cZ cW) ad) A) 0 0 A := by
  refine Met.ofW (cc := cX5_wait) (maxL := 4) (ret := (some .boolean)) (by decide) rfl ?_
  intro p e s m args below meth c s₁ B hml hv
  obtain ⟨rfl, hP, hK, hN⟩ := hv
  have hx := B.exec
  have hb := B.bytes
  have hr := B.returns
  have hts := atoms_spec (ws := wsX5_wait) B.pre
  have hown : s.vm.findClass RX5 = some m.cls := findClass_of_methodNamed B.named
  have hlocks := B.notSynchronized
  have hS : va_S A s.heap s.heap [] := va_S.rf
  have hl := lv_entry ([.ref (ad (0)), .int (nI (k1)), .int (y0)]) (n := 4) (Nat.le_of_ble_eq_true rfl)
  rw [lg_entry_eq]
  generalize (lg_sl ([.ref (ad (0)), .int (nI (k1)), .int (y0)]) ++ List.replicate (4 - (lg_sl ([.ref (ad (0)), .int (nI (k1)), .int (y0)])).length) Slot.unset).toArray = ls at hl ⊢
  have hl : lv_has ls 4 [(0, .ref (ad (0))), (1, .int (nI (k1))), (2, .int (y0))] := hl
  obtain ⟨hq2, hq4, hw1, hw0, hWs, hWt, hw, hln, hul, hT, ht⟩ := hs
  obtain ⟨fo_0, ⟨f2, fo_1, fa_2, h2⟩, ⟨f3, fa_3, h3⟩, hRace, hMach, ⟨f16, fo15, fa16, h16⟩, hwd, hcand⟩ := id hC
  obtain ⟨fl1, fh1, ft1, fs1, fo1, fal1, fah1, fat1, fas1, hfl1, hfh1, hft1, hfs1⟩ := cw_pos hwd hk1 eb1 en1 eu1 es1 eo1 hp1
  have hb1 : b1 + 4 < 81 := by omega
  have hn1 : n1 ≤ 5 := en1 ▸ hln k1
  have hu1 : ∀ j, j < n1 → u1 j < q := fun j hj => by rw [← eu1]; exact hul k1 j (by rw [en1]; exact hj)
  have hwu1 : ∀ j, j < n1 → w (u1 j) ≤ 4 := fun j hj => hw _ (Nat.lt_of_lt_of_le (hu1 j hj) hq4)
  have hsf1 : ∀ k, k ≤ n1 → sf1 k ≤ 1024 := fun k hk => es1 ▸ shr_le hWt hwu1 hn1 hk
  have hs01 : 1 ≤ sf1 0 := es1 ▸ shr_0 (fun j hj => hw1 _ (hu1 j hj))
  have hol1 : ol1 ≤ 5120 := by rw [← eo1]; show lapS (shr Wt w u1 n1) u1 n1 u1 n1 5 ≤ 5120; rw [es1]; exact lapS_le hsf1 5
  refine lv_aload_n hx hb dX5_wait_0 rfl (lv_at hl 0 rfl) ?_
  refine lv_iload_n hx hb dX5_wait_1 rfl (lv_at hl 1 rfl) ?_
  refine va_csq (va_Run.run (va_runV (As := [.int (nI (k1))]) (rest := []) ⟨hx, hb, hml, hown, hts⟩ (mX5_wordIn_yes l fo_0 fa_3 fo1 h3 hk1 eb1 hp1 hn1) (cwV 1 hts gX5_wait_X5_wordIn rfl rfl rfl (by decide +kernel) ⟨Nat.le_of_ble_eq_true rfl, Nat.le_of_ble_eq_true rfl⟩) ⟨xB_blind, va_recv hK hP (ci := 5) rfl (xw_is (by decide) fo_0), fun U hU hW => ⟨rfl, by rw [hU]; exact hP, va_K.moved hW.alike hK, va_Nw.warmM hW hN⟩⟩ rfl rfl hl.1 rfl (lv_room (Nat.le_of_ble_eq_true rfl)) dX5_wait_2 ⟨Nat.le_of_ble_eq_true rfl, Nat.le_of_ble_eq_true rfl⟩)) (fun r1 er1 => ?_)
  subst er1
  refine W.eq (g2 := F0 m 5 ls (.ref (ad (b1)) :: [])) rfl ?_
  refine lv_astore_n (lv' := [(3, .ref (ad (b1))), (0, .ref (ad (0))), (1, .int (nI (k1))), (2, .int (y0))]) hx hb dX5_wait_5 rfl hl (by decide) rfl (fun ls hl => ?_)
  refine lv_aload_n hx hb dX5_wait_6 rfl (lv_at hl 0 rfl) ?_
  refine lv_ifnull hx hb dX5_wait_7 ?_
  refine lv_iload_n hx hb dX5_wait_10 rfl (lv_at hl 3 rfl) ?_
  refine lv_if_lt (tgt := 19) hx hb dX5_wait_11 (by decide) (fun c11_2 => ?_) (fun c11_2 => ?_)
  · refine lv_iconst (v := nI (0)) hx hb dX5_wait_19 (by decide) ?_
    exact W.zret (v := nI (0)) hx hb hr (by decide) (fun tZ ht hW => ⟨⟨_, g, rfl, (by have hO : oWait Wt w ln u (nI k1) y0 = none := (by unfold oWait; rw [slotW_yes hk1 (en1 ▸ hp1)]; show (if y0 = 0 then _ else _) = none; rw [if_neg (fun h => by rw [h] at hy0; exact absurd hy0 (by decide)), if_neg (fun h => by rw [h] at hy0; exact absurd hy0 (by decide))]); show _ = (if (oWait Wt w ln u (nI k1) y0).isSome then 1 else 0) ∧ _; rw [hO]; exact ⟨rfl, hC, fun _ _ => rfl⟩), by rw [ht]; exact hP, va_K.moved hW.alike hK, va_Nw.warmM hW hN⟩, hS.F ht⟩) hS.2.2 dX5_wait_20
  · refine lv_iload_n hx hb dX5_wait_14 rfl (lv_at hl 3 rfl) ?_
    refine lv_iconst (v := nI (1)) hx hb dX5_wait_15 (by decide) ?_
    refine lv_icmp_le (tgt := 21) hx hb dX5_wait_16 (by decide) (fun c16_3 => ?_) (fun c16_3 => ?_)
    · exact absurd hy0 (by rintro (h | h); exact c11_2 h; exact absurd c16_3 (by rw [Int32.not_le]; exact h))
    · refine lv_iconst (v := nI (0)) hx hb dX5_wait_19 (by decide) ?_
      exact W.zret (v := nI (0)) hx hb hr (by decide) (fun tZ ht hW => ⟨⟨_, g, rfl, (by have hO : oWait Wt w ln u (nI k1) y0 = none := (by unfold oWait; rw [slotW_yes hk1 (en1 ▸ hp1)]; show (if y0 = 0 then _ else _) = none; rw [if_neg (fun h => by rw [h] at hy0; exact absurd hy0 (by decide)), if_neg (fun h => by rw [h] at hy0; exact absurd hy0 (by decide))]); show _ = (if (oWait Wt w ln u (nI k1) y0).isSome then 1 else 0) ∧ _; rw [hO]; exact ⟨rfl, hC, fun _ _ => rfl⟩), by rw [ht]; exact hP, va_K.moved hW.alike hK, va_Nw.warmM hW hN⟩, hS.F ht⟩) hS.2.2 dX5_wait_20

set_option maxHeartbeats 4000000 in
set_option maxRecDepth 100000 in
theorem mX5_waitx_n (l : Launch) {D : va_G} {cI cJ cZ cW : ClassId} {ad : Nat → Nat} {A : Nat → Prop} (hD : ∀ g, va_D A (xw 81 ad g)) {g : Nat → va_E} {q Wt : Nat} {w : Nat → Nat} {ln : Nat → Nat} {u : Nat → Nat → Nat} {T : Nat} {t : Nat → Nat} {tp bt : Int64} {xa : Int32} {y0 : Int32}  (hC : ClsI cI cJ cZ cW ad g q Wt w ln u T t tp bt) (hs : SrcI q Wt w ln u T t) (hxa : noW ln xa) (hy0 : y0 < 0 ∨ nI 1 < y0) : Met l yX5_wait wsX5_wait ({ frames := 2, cells := 0, slots := 0, locals := 41 }) (va_Pc [.ref (ad (0)), .int (xa), .int (y0)] (xB D (xT cI cJ cZ cW) ad g)) (va_Qi (fun r g2 => r = (if (oWait Wt w ln u (xa) y0).isSome then 1 else 0) ∧ ClsI cI cJ cZ cW ad g2 q Wt w ln u T t (hTp (oWait Wt w ln u (xa) y0) tp) (hBt (oWait Wt w ln u (xa) y0) bt) ∧ ∀ j : Nat, 62 ≤ j → g2 j = g j) (xB D (xT cI cJ cZ cW) ad) A) 0 0 A := by
  refine Met.ofW (cc := cX5_wait) (maxL := 4) (ret := (some .boolean)) (by decide) rfl ?_
  intro p e s m args below meth c s₁ B hml hv
  obtain ⟨rfl, hP, hK, hN⟩ := hv
  have hx := B.exec
  have hb := B.bytes
  have hr := B.returns
  have hts := atoms_spec (ws := wsX5_wait) B.pre
  have hown : s.vm.findClass RX5 = some m.cls := findClass_of_methodNamed B.named
  have hlocks := B.notSynchronized
  have hS : va_S A s.heap s.heap [] := va_S.rf
  have hl := lv_entry ([.ref (ad (0)), .int (xa), .int (y0)]) (n := 4) (Nat.le_of_ble_eq_true rfl)
  rw [lg_entry_eq]
  generalize (lg_sl ([.ref (ad (0)), .int (xa), .int (y0)]) ++ List.replicate (4 - (lg_sl ([.ref (ad (0)), .int (xa), .int (y0)])).length) Slot.unset).toArray = ls at hl ⊢
  have hl : lv_has ls 4 [(0, .ref (ad (0))), (1, .int (xa)), (2, .int (y0))] := hl
  obtain ⟨hq2, hq4, hw1, hw0, hWs, hWt, hw, hln, hul, hT, ht⟩ := hs
  obtain ⟨fo_0, ⟨f2, fo_1, fa_2, h2⟩, ⟨f3, fa_3, h3⟩, hRace, hMach, ⟨f16, fo15, fa16, h16⟩, hwd, hcand⟩ := id hC
  refine lv_aload_n hx hb dX5_wait_0 rfl (lv_at hl 0 rfl) ?_
  refine lv_iload_n hx hb dX5_wait_1 rfl (lv_at hl 1 rfl) ?_
  refine va_csq (va_Run.run (va_runV (As := [.int (xa)]) (rest := []) ⟨hx, hb, hml, hown, hts⟩ (mX5_wordIn_no l fo_0 fa_3 h3 hwd hxa) (cwV 1 hts gX5_wait_X5_wordIn rfl rfl rfl (by decide +kernel) ⟨Nat.le_of_ble_eq_true rfl, Nat.le_of_ble_eq_true rfl⟩) ⟨xB_blind, va_recv hK hP (ci := 5) rfl (xw_is (by decide) fo_0), fun U hU hW => ⟨rfl, by rw [hU]; exact hP, va_K.moved hW.alike hK, va_Nw.warmM hW hN⟩⟩ rfl rfl hl.1 rfl (lv_room (Nat.le_of_ble_eq_true rfl)) dX5_wait_2 ⟨Nat.le_of_ble_eq_true rfl, Nat.le_of_ble_eq_true rfl⟩)) (fun r1 er1 => ?_)
  subst er1
  refine W.eq (g2 := F0 m 5 ls (.null :: [])) rfl ?_
  refine lv_astore_nN (lv' := [(3, .null), (0, .ref (ad (0))), (1, .int (xa)), (2, .int (y0))]) hx hb dX5_wait_5 rfl hl (by decide) rfl (fun ls hl => ?_)
  refine lv_aload_nN hx hb dX5_wait_6 rfl (lv_at hl 0 rfl) ?_
  refine lv_ifnullN (tgt := 19) hx hb dX5_wait_7 (by decide) ?_
  refine lv_iconst (v := nI (0)) hx hb dX5_wait_19 (by decide) ?_
  exact W.zret (v := nI (0)) hx hb hr (by decide) (fun tZ ht hW => ⟨⟨_, g, rfl, (by have hO : oWait Wt w ln u xa y0 = none := (by unfold oWait; rw [slotW_no hxa]); show _ = (if (oWait Wt w ln u xa y0).isSome then 1 else 0) ∧ _; rw [hO]; exact ⟨rfl, hC, fun _ _ => rfl⟩), by rw [ht]; exact hP, va_K.moved hW.alike hK, va_Nw.warmM hW hN⟩, hS.F ht⟩) hS.2.2 dX5_wait_20

theorem mX5_waitx (l : Launch) {D : va_G} {cI cJ cZ cW : ClassId} {ad : Nat → Nat} {A : Nat → Prop} (hD : ∀ g, va_D A (xw 81 ad g)) {g : Nat → va_E} {q Wt : Nat} {w : Nat → Nat} {ln : Nat → Nat} {u : Nat → Nat → Nat} {T : Nat} {t : Nat → Nat} {tp bt : Int64} {y0 : Int32} (hC : ClsI cI cJ cZ cW ad g q Wt w ln u T t tp bt) (hs : SrcI q Wt w ln u T t) (hy0 : y0 < 0 ∨ nI 1 < y0) (xa : Int32) : Met l yX5_wait wsX5_wait ({ frames := 2, cells := 0, slots := 0, locals := 41 }) (va_Pc [.ref (ad (0)), .int xa, .int (y0)] (xB D (xT cI cJ cZ cW) ad g)) (va_Qi (fun r g2 => r = (if (oWait Wt w ln u (xa) y0).isSome then 1 else 0) ∧ ClsI cI cJ cZ cW ad g2 q Wt w ln u T t (hTp (oWait Wt w ln u (xa) y0) tp) (hBt (oWait Wt w ln u (xa) y0) bt) ∧ ∀ j : Nat, 62 ≤ j → g2 j = g j) (xB D (xT cI cJ cZ cW) ad) A) 0 0 A := by
  rcases slotW_cases ln xa with hxa | ⟨k1, hk1, rfl, hp1⟩
  · exact mX5_waitx_n l hD hC hs hxa hy0
  · exact mX5_waitx_s l hD hC hs hk1 rfl rfl rfl rfl rfl hp1 hy0

set_option maxHeartbeats 4000000 in
set_option maxRecDepth 100000 in
theorem mX5_drop_s (l : Launch) {D : va_G} {cI cJ cZ cW : ClassId} {ad : Nat → Nat} {A : Nat → Prop} (hD : ∀ g, va_D A (xw 81 ad g)) {g : Nat → va_E} {q Wt : Nat} {w : Nat → Nat} {ln : Nat → Nat} {u : Nat → Nat → Nat} {T : Nat} {t : Nat → Nat} {tp bt : Int64} {k1 b1 n1 ol1 : Nat} {u1 sf1 : Nat → Nat}  (hC : ClsI cI cJ cZ cW ad g q Wt w ln u T t tp bt) (hs : SrcI q Wt w ln u T t) (hk1 : k1 < 8) (eb1 : 17 + 5 * k1 = b1) (en1 : ln k1 = n1) (eu1 : u k1 = u1) (es1 : shr Wt w u1 n1 = sf1) (eo1 : ownL Wt w u1 n1 = ol1) (hp1 : 0 < n1) : Met l yX5_drop wsX5_drop ({ frames := 2, cells := 0, slots := 0, locals := 41 }) (va_Pc [.ref (ad (0)), .int (nI (k1))] (xB D (xT cI cJ cZ cW) ad g)) (va_Qi (fun r g2 => match slotW ln (nI (k1)) with | some k => r = nI 1 ∧ ClsI cI cJ cZ cW ad g2 q Wt w (va_up ln k 0) (va_up u k (u k)) T t tp bt ∧ ∀ j : Nat, 62 ≤ j → g2 j = g j | none => r = nI 0 ∧ ClsI cI cJ cZ cW ad g2 q Wt w ln u T t tp bt ∧ ∀ j : Nat, 62 ≤ j → g2 j = g j) (xB D (xT cI cJ cZ cW) ad) A) 0 0 A := by
  refine Met.ofW (cc := cX5_drop) (maxL := 3) (ret := (some .boolean)) (by decide) rfl ?_
  intro p e s m args below meth c s₁ B hml hv
  obtain ⟨rfl, hP, hK, hN⟩ := hv
  have hx := B.exec
  have hb := B.bytes
  have hr := B.returns
  have hts := atoms_spec (ws := wsX5_drop) B.pre
  have hown : s.vm.findClass RX5 = some m.cls := findClass_of_methodNamed B.named
  have hlocks := B.notSynchronized
  have hS : va_S A s.heap s.heap [] := va_S.rf
  have hl := lv_entry ([.ref (ad (0)), .int (nI (k1))]) (n := 3) (Nat.le_of_ble_eq_true rfl)
  rw [lg_entry_eq]
  generalize (lg_sl ([.ref (ad (0)), .int (nI (k1))]) ++ List.replicate (3 - (lg_sl ([.ref (ad (0)), .int (nI (k1))])).length) Slot.unset).toArray = ls at hl ⊢
  have hl : lv_has ls 3 [(0, .ref (ad (0))), (1, .int (nI (k1)))] := hl
  obtain ⟨hq2, hq4, hw1, hw0, hWs, hWt, hw, hln, hul, hT, ht⟩ := hs
  obtain ⟨fo_0, ⟨f2, fo_1, fa_2, h2⟩, ⟨f3, fa_3, h3⟩, hRace, hMach, ⟨f16, fo15, fa16, h16⟩, hwd, hcand⟩ := id hC
  obtain ⟨fl1, fh1, ft1, fs1, fo1, fal1, fah1, fat1, fas1, hfl1, hfh1, hft1, hfs1⟩ := cw_pos hwd hk1 eb1 en1 eu1 es1 eo1 hp1
  have hb1 : b1 + 4 < 81 := by omega
  have hn1 : n1 ≤ 5 := en1 ▸ hln k1
  have hu1 : ∀ j, j < n1 → u1 j < q := fun j hj => by rw [← eu1]; exact hul k1 j (by rw [en1]; exact hj)
  have hwu1 : ∀ j, j < n1 → w (u1 j) ≤ 4 := fun j hj => hw _ (Nat.lt_of_lt_of_le (hu1 j hj) hq4)
  have hsf1 : ∀ k, k ≤ n1 → sf1 k ≤ 1024 := fun k hk => es1 ▸ shr_le hWt hwu1 hn1 hk
  have hs01 : 1 ≤ sf1 0 := es1 ▸ shr_0 (fun j hj => hw1 _ (hu1 j hj))
  have hol1 : ol1 ≤ 5120 := by rw [← eo1]; show lapS (shr Wt w u1 n1) u1 n1 u1 n1 5 ≤ 5120; rw [es1]; exact lapS_le hsf1 5
  refine lv_aload_n hx hb dX5_drop_0 rfl (lv_at hl 0 rfl) ?_
  refine lv_iload_n hx hb dX5_drop_1 rfl (lv_at hl 1 rfl) ?_
  refine va_csq (va_Run.run (va_runV (As := [.int (nI (k1))]) (rest := []) ⟨hx, hb, hml, hown, hts⟩ (mX5_wordIn_yes l fo_0 fa_3 fo1 h3 hk1 eb1 hp1 hn1) (cwV 1 hts gX5_drop_X5_wordIn rfl rfl rfl (by decide +kernel) ⟨Nat.le_of_ble_eq_true rfl, Nat.le_of_ble_eq_true rfl⟩) ⟨xB_blind, va_recv hK hP (ci := 5) rfl (xw_is (by decide) fo_0), fun U hU hW => ⟨rfl, by rw [hU]; exact hP, va_K.moved hW.alike hK, va_Nw.warmM hW hN⟩⟩ rfl rfl hl.1 rfl (lv_room (Nat.le_of_ble_eq_true rfl)) dX5_drop_2 ⟨Nat.le_of_ble_eq_true rfl, Nat.le_of_ble_eq_true rfl⟩)) (fun r1 er1 => ?_)
  subst er1
  refine W.eq (g2 := F0 m 5 ls (.ref (ad (b1)) :: [])) rfl ?_
  refine lv_astore_n (lv' := [(2, .ref (ad (b1))), (0, .ref (ad (0))), (1, .int (nI (k1)))]) hx hb dX5_drop_5 rfl hl (by decide) rfl (fun ls hl => ?_)
  refine lv_aload_n hx hb dX5_drop_6 rfl (lv_at hl 0 rfl) ?_
  refine lv_ifnonnull (tgt := 12) hx hb dX5_drop_7 (by decide) ?_
  refine lv_aload_n hx hb dX5_drop_12 rfl (lv_at hl 0 rfl) ?_
  refine va_callv (va_runV (As := []) (rest := []) ⟨hx, hb, hml, hown, hts⟩ (mX4_clear l hD fo1 hb1) (cwV 0 hts gX5_drop_X4_clear rfl rfl rfl (by decide +kernel) ⟨Nat.le_of_ble_eq_true rfl, Nat.le_of_ble_eq_true rfl⟩) ⟨xB_blind, va_recv hK hP (ci := 4) rfl (xw_is (by omega) fo1), fun U hU hW => ⟨rfl, by rw [hU]; exact hP, va_K.moved hW.alike hK, va_Nw.warmM hW hN⟩⟩ rfl rfl hl.1 rfl (lv_room (Nat.le_of_ble_eq_true rfl)) dX5_drop_13 ⟨Nat.le_of_ble_eq_true rfl, Nat.le_of_ble_eq_true rfl⟩) hS (fun _ _ h => h) (fun _ h => h) (fun g2 tZ H locs ht hvm hwg2 hB hzZ hkZ hS => ?_)
  obtain ⟨hP, -⟩ := hB
  rw [ht] at hP
  obtain ⟨fg2_n0, hcg2⟩ := hwg2
  have fg2_k0 : g2 (0) = .inr (5, [.ref (ad (1)), .ref (ad (3)), .ref (ad (57)), .ref (ad (4)), .ref (ad (8)), .ref (ad (15)), .long (tp), .long (bt)]) := (hcg2 (0) (by omega)).trans fo_0
  have fg2_k1 : g2 (1) = .inr (0, [.ref (ad (2)), .int (nI (q)), .int (nI (Wt))]) := (hcg2 (1) (by omega)).trans fo_1
  have fg2_k2 : g2 (2) = .inl (cI, 4, .inl (f2)) := (hcg2 (2) (by omega)).trans fa_2
  have fg2_k3 : g2 (15) = .inr (3, [.ref (ad (16)), .int (nI (T))]) := (hcg2 (15) (by omega)).trans fo15
  have fg2_k4 : g2 (16) = .inl (cI, 300, .inl (f16)) := (hcg2 (16) (by omega)).trans fa16
  have fg2_k5 : g2 (3) = .inl (cW, 8, .inr (.inr (.inr (.inr (f3))))) := (hcg2 (3) (by omega)).trans fa_3
  have fg2_k6 : g2 (b1 + 1) = .inl (cI, 5, .inl (fl1)) := (hcg2 (b1 + 1) (by omega)).trans fal1
  have fg2_k7 : g2 (b1 + 2) = .inl (cI, 6, .inl (fh1)) := (hcg2 (b1 + 2) (by omega)).trans fah1
  have fg2_k8 : g2 (b1 + 3) = .inl (cI, 6, .inl (ft1)) := (hcg2 (b1 + 3) (by omega)).trans fat1
  have fg2_k9 : g2 (b1 + 4) = .inl (cJ, 6, .inr (.inl (fs1))) := (hcg2 (b1 + 4) (by omega)).trans fas1
  have hfrg2 : ∀ j : Nat, j ≠ b1 → g2 j = g j := fun j h0 => (hcg2 j h0).trans ((fun _ _ => rfl) j h0)
  refine lv_iconst (v := nI (1)) hx hb dX5_drop_16 (by decide) ?_
  exact W.zret (v := nI (1)) hx hb hr (by decide) (fun tZ ht hW => ⟨⟨_, g2, rfl, (by have e : slotW ln (nI k1) = some k1 := slotW_yes hk1 (en1 ▸ hp1); rw [e]; refine ⟨rfl, ClsI.word hk1 hC (WordI.none (hwd k1 hk1) (by rw [eb1]; exact fg2_n0) (fun j h1 h2 => hfrg2 j (by omega))) (fun j hj => hfrg2 j (by omega)), fun j hj => hfrg2 j (by omega)⟩), by rw [ht]; exact hP, va_K.moved hW.alike hK, va_Nw.warmM hW hN⟩, hS.F ht⟩) hS.2.2 dX5_drop_17

set_option maxHeartbeats 4000000 in
set_option maxRecDepth 100000 in
theorem mX5_drop_n (l : Launch) {D : va_G} {cI cJ cZ cW : ClassId} {ad : Nat → Nat} {A : Nat → Prop} (hD : ∀ g, va_D A (xw 81 ad g)) {g : Nat → va_E} {q Wt : Nat} {w : Nat → Nat} {ln : Nat → Nat} {u : Nat → Nat → Nat} {T : Nat} {t : Nat → Nat} {tp bt : Int64} {xa : Int32}  (hC : ClsI cI cJ cZ cW ad g q Wt w ln u T t tp bt) (hs : SrcI q Wt w ln u T t) (hxa : noW ln xa) : Met l yX5_drop wsX5_drop ({ frames := 2, cells := 0, slots := 0, locals := 41 }) (va_Pc [.ref (ad (0)), .int (xa)] (xB D (xT cI cJ cZ cW) ad g)) (va_Qi (fun r g2 => match slotW ln (xa) with | some k => r = nI 1 ∧ ClsI cI cJ cZ cW ad g2 q Wt w (va_up ln k 0) (va_up u k (u k)) T t tp bt ∧ ∀ j : Nat, 62 ≤ j → g2 j = g j | none => r = nI 0 ∧ ClsI cI cJ cZ cW ad g2 q Wt w ln u T t tp bt ∧ ∀ j : Nat, 62 ≤ j → g2 j = g j) (xB D (xT cI cJ cZ cW) ad) A) 0 0 A := by
  refine Met.ofW (cc := cX5_drop) (maxL := 3) (ret := (some .boolean)) (by decide) rfl ?_
  intro p e s m args below meth c s₁ B hml hv
  obtain ⟨rfl, hP, hK, hN⟩ := hv
  have hx := B.exec
  have hb := B.bytes
  have hr := B.returns
  have hts := atoms_spec (ws := wsX5_drop) B.pre
  have hown : s.vm.findClass RX5 = some m.cls := findClass_of_methodNamed B.named
  have hlocks := B.notSynchronized
  have hS : va_S A s.heap s.heap [] := va_S.rf
  have hl := lv_entry ([.ref (ad (0)), .int (xa)]) (n := 3) (Nat.le_of_ble_eq_true rfl)
  rw [lg_entry_eq]
  generalize (lg_sl ([.ref (ad (0)), .int (xa)]) ++ List.replicate (3 - (lg_sl ([.ref (ad (0)), .int (xa)])).length) Slot.unset).toArray = ls at hl ⊢
  have hl : lv_has ls 3 [(0, .ref (ad (0))), (1, .int (xa))] := hl
  obtain ⟨hq2, hq4, hw1, hw0, hWs, hWt, hw, hln, hul, hT, ht⟩ := hs
  obtain ⟨fo_0, ⟨f2, fo_1, fa_2, h2⟩, ⟨f3, fa_3, h3⟩, hRace, hMach, ⟨f16, fo15, fa16, h16⟩, hwd, hcand⟩ := id hC
  refine lv_aload_n hx hb dX5_drop_0 rfl (lv_at hl 0 rfl) ?_
  refine lv_iload_n hx hb dX5_drop_1 rfl (lv_at hl 1 rfl) ?_
  refine va_csq (va_Run.run (va_runV (As := [.int (xa)]) (rest := []) ⟨hx, hb, hml, hown, hts⟩ (mX5_wordIn_no l fo_0 fa_3 h3 hwd hxa) (cwV 1 hts gX5_drop_X5_wordIn rfl rfl rfl (by decide +kernel) ⟨Nat.le_of_ble_eq_true rfl, Nat.le_of_ble_eq_true rfl⟩) ⟨xB_blind, va_recv hK hP (ci := 5) rfl (xw_is (by decide) fo_0), fun U hU hW => ⟨rfl, by rw [hU]; exact hP, va_K.moved hW.alike hK, va_Nw.warmM hW hN⟩⟩ rfl rfl hl.1 rfl (lv_room (Nat.le_of_ble_eq_true rfl)) dX5_drop_2 ⟨Nat.le_of_ble_eq_true rfl, Nat.le_of_ble_eq_true rfl⟩)) (fun r1 er1 => ?_)
  subst er1
  refine W.eq (g2 := F0 m 5 ls (.null :: [])) rfl ?_
  refine lv_astore_nN (lv' := [(2, .null), (0, .ref (ad (0))), (1, .int (xa))]) hx hb dX5_drop_5 rfl hl (by decide) rfl (fun ls hl => ?_)
  refine lv_aload_nN hx hb dX5_drop_6 rfl (lv_at hl 0 rfl) ?_
  refine lv_ifnonnullN hx hb dX5_drop_7 ?_
  refine lv_iconst (v := nI (0)) hx hb dX5_drop_10 (by decide) ?_
  exact W.zret (v := nI (0)) hx hb hr (by decide) (fun tZ ht hW => ⟨⟨_, g, rfl, (by rw [slotW_no hxa]; exact ⟨rfl, hC, fun _ _ => rfl⟩), by rw [ht]; exact hP, va_K.moved hW.alike hK, va_Nw.warmM hW hN⟩, hS.F ht⟩) hS.2.2 dX5_drop_11

theorem mX5_drop (l : Launch) {D : va_G} {cI cJ cZ cW : ClassId} {ad : Nat → Nat} {A : Nat → Prop} (hD : ∀ g, va_D A (xw 81 ad g)) {g : Nat → va_E} {q Wt : Nat} {w : Nat → Nat} {ln : Nat → Nat} {u : Nat → Nat → Nat} {T : Nat} {t : Nat → Nat} {tp bt : Int64} (hC : ClsI cI cJ cZ cW ad g q Wt w ln u T t tp bt) (hs : SrcI q Wt w ln u T t) (xa : Int32) : Met l yX5_drop wsX5_drop ({ frames := 2, cells := 0, slots := 0, locals := 41 }) (va_Pc [.ref (ad (0)), .int xa] (xB D (xT cI cJ cZ cW) ad g)) (va_Qi (fun r g2 => match slotW ln (xa) with | some k => r = nI 1 ∧ ClsI cI cJ cZ cW ad g2 q Wt w (va_up ln k 0) (va_up u k (u k)) T t tp bt ∧ ∀ j : Nat, 62 ≤ j → g2 j = g j | none => r = nI 0 ∧ ClsI cI cJ cZ cW ad g2 q Wt w ln u T t tp bt ∧ ∀ j : Nat, 62 ≤ j → g2 j = g j) (xB D (xT cI cJ cZ cW) ad) A) 0 0 A := by
  rcases slotW_cases ln xa with hxa | ⟨k1, hk1, rfl, hp1⟩
  · exact mX5_drop_n l hD hC hs hxa
  · exact mX5_drop_s l hD hC hs hk1 rfl rfl rfl rfl rfl hp1
