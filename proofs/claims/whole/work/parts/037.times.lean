/-- the machine of one word, of which link works on -/
def lk0 (u : Nat → Nat) (n : Nat) : LkS := ((lrn u (fun _ => 0) 1 n).1, fun _ => 0, fun _ => 0, va_up (fun _ => 0) (lrn u (fun _ => 0) 1 n).2.2 1, 1)
/-- how much the texts of N letters weigh in which the word stands at a .. M places, as the machine counts them -/
def tmW (q : Nat) (w u : Nat → Nat) (n N a M : Nat) : Int := sgm (wgh q w (lkF q (lk0 u n)).1 (lkF q (lk0 u n)).2.2.2.1 (lrn u (fun _ => 0) 1 n).2.1 M N) (a * (lrn u (fun _ => 0) 1 n).2.1) ((M + 1) * (lrn u (fun _ => 0) 1 n).2.1 - a * (lrn u (fun _ => 0) 1 n).2.1)
theorem lk0_B {u : Nat → Nat} {n : Nat} : lkB (lrn u (fun _ => 0) 1 n).2.1 (lk0 u n) := by
  obtain ⟨h1, h2, h3, h4⟩ := lrn_B (u := u) (nx := fun _ => 0) (S := 1) (by decide) (fun _ => by decide) n
  refine ⟨h4, fun _ => by show 0 < _; omega, fun _ => by show 0 < _; omega, fun e => ?_, by show 1 ≤ 41; decide⟩
  show va_up (fun _ => 0) _ 1 e ≤ 1
  by_cases he : e = (lrn u (fun _ => 0) 1 n).2.2
  · rw [he, va_up_self]; exact Nat.le_refl 1
  · rw [va_up_ne _ _ he]; exact Nat.zero_le _
theorem lkF_B {q S : Nat} {x : LkS} (h : lkB S x) : lkB S (lkF q x) := lkO_B h _
set_option maxHeartbeats 4000000 in
set_option maxRecDepth 100000 in
theorem mX5_times_badn (l : Launch) {D : va_G} {cI cJ cZ cW : ClassId} {ad : Nat → Nat} {A : Nat → Prop} (hD : ∀ g, va_D A (xw 81 ad g)) {g : Nat → va_E} {q Wt : Nat} {w : Nat → Nat} {ln : Nat → Nat} {u : Nat → Nat → Nat} {T : Nat} {t : Nat → Nat} {tp bt : Int64} {k1 b1 n1 ol1 : Nat} {u1 sf1 : Nat → Nat} {x0 kk bb : Int32}  (hC : ClsI cI cJ cZ cW ad g q Wt w ln u T t tp bt) (hs : SrcI q Wt w ln u T t) (hk1 : k1 < 8) (eb1 : 17 + 5 * k1 = b1) (en1 : ln k1 = n1) (eu1 : u k1 = u1) (es1 : shr Wt w u1 n1 = sf1) (eo1 : ownL Wt w u1 n1 = ol1) (hp1 : 0 < n1) (hx0 : x0 < 0 ∨ nI 30 < x0) : Met l yX5_times wsX5_times ({ frames := 3, cells := 0, slots := 0, locals := 83 }) (va_Pc [.ref (ad (0)), .int (nI (k1)), .int (x0), .int (kk), .int (bb)] (xB D (xT cI cJ cZ cW) ad g)) (va_Ql (fun r g2 => r = -1 ∧ ClsI cI cJ cZ cW ad g2 q Wt w ln u T t tp bt ∧ ∀ i : Nat, 62 ≤ i → g2 i = g i) (xB D (xT cI cJ cZ cW) ad) A) 0 0 A := by
  refine Met.ofW (cc := cX5_times) (maxL := 6) (ret := (some .long)) (by decide) rfl ?_
  intro p e s m args below meth c s₁ B hml hv
  obtain ⟨rfl, hP, hK, hN⟩ := hv
  have hx := B.exec
  have hb := B.bytes
  have hr := B.returns
  have hts := atoms_spec (ws := wsX5_times) B.pre
  have hown : s.vm.findClass RX5 = some m.cls := findClass_of_methodNamed B.named
  have hlocks := B.notSynchronized
  have hS : va_S A s.heap s.heap [] := va_S.rf
  have hl := lv_entry ([.ref (ad (0)), .int (nI (k1)), .int (x0), .int (kk), .int (bb)]) (n := 6) (Nat.le_of_ble_eq_true rfl)
  rw [lg_entry_eq]
  generalize (lg_sl ([.ref (ad (0)), .int (nI (k1)), .int (x0), .int (kk), .int (bb)]) ++ List.replicate (6 - (lg_sl ([.ref (ad (0)), .int (nI (k1)), .int (x0), .int (kk), .int (bb)])).length) Slot.unset).toArray = ls at hl ⊢
  have hl : lv_has ls 6 [(0, .ref (ad (0))), (1, .int (nI (k1))), (2, .int (x0)), (3, .int (kk)), (4, .int (bb))] := hl
  obtain ⟨hq2, hq4, hw1, hw0, hWs, hWt, hw, hln, hul, hT, ht⟩ := hs
  obtain ⟨fo_0, ⟨f2, fo_1, fa_2, h2⟩, ⟨f3, fa_3, h3⟩, hRace, hMach, ⟨f16, fo15, fa16, h16⟩, hwd, hcand⟩ := id hC
  have hWp : 1 ≤ Wt ∧ Wt ≤ 4 := by have h8 := hw1 0 (by omega); have h9 := wsum_mono (w := w) (show 1 ≤ q by omega); have h7 : wsum w 1 = 0 + w 0 := rfl; omega
  obtain ⟨f5r, f6r, f7r, szr, fo4, fa5, fa6, fa7⟩ := hRace
  obtain ⟨fl1, fh1, ft1, fs1, fo1, fal1, fah1, fat1, fas1, hfl1, hfh1, hft1, hfs1⟩ := cw_pos hwd hk1 eb1 en1 eu1 es1 eo1 hp1
  have hb1 : b1 + 4 < 81 := by omega
  have hn1 : n1 ≤ 5 := en1 ▸ hln k1
  have hu1 : ∀ j, j < n1 → u1 j < q := fun j hj => by rw [← eu1]; exact hul k1 j (by rw [en1]; exact hj)
  have hwu1 : ∀ j, j < n1 → w (u1 j) ≤ 4 := fun j hj => hw _ (Nat.lt_of_lt_of_le (hu1 j hj) hq4)
  have hsf1 : ∀ k, k ≤ n1 → sf1 k ≤ 1024 := fun k hk => es1 ▸ shr_le hWt hwu1 hn1 hk
  have hs01 : 1 ≤ sf1 0 := es1 ▸ shr_0 (fun j hj => hw1 _ (hu1 j hj))
  have hol1 : ol1 ≤ 5120 := by rw [← eo1]; show lapS (shr Wt w u1 n1) u1 n1 u1 n1 5 ≤ 5120; rw [es1]; exact lapS_le hsf1 5
  have hb171 : 17 ≤ b1 := by omega
  obtain ⟨f9, f10, f11, f12, f13, f14, na, nb, stq, hab, fo8, fa9, fa10, fa11, fa12, fa13, fa14⟩ := id hMach
  have fana : ∃ fx : Nat → Int64, g na = .inl (cJ, 186, .inr (.inl fx)) := by rcases hab with ⟨rfl, rfl⟩ | ⟨rfl, rfl⟩; exact ⟨_, fa13⟩; exact ⟨_, fa14⟩
  have fanb : ∃ fx : Nat → Int64, g nb = .inl (cJ, 186, .inr (.inl fx)) := by rcases hab with ⟨rfl, rfl⟩ | ⟨rfl, rfl⟩; exact ⟨_, fa14⟩; exact ⟨_, fa13⟩
  obtain ⟨fna, fana⟩ := fana
  obtain ⟨fnb, fanb⟩ := fanb
  refine lv_aload_n hx hb dX5_times_0 rfl (lv_at hl 0 rfl) ?_
  refine lv_iload_n hx hb dX5_times_1 rfl (lv_at hl 1 rfl) ?_
  refine va_csq (va_Run.run (va_runV (As := [.int (nI (k1))]) (rest := []) ⟨hx, hb, hml, hown, hts⟩ (mX5_wordIn_yes l fo_0 fa_3 fo1 h3 hk1 eb1 hp1 hn1) (cwV 1 hts gX5_times_X5_wordIn rfl rfl rfl (by decide +kernel) ⟨Nat.le_of_ble_eq_true rfl, Nat.le_of_ble_eq_true rfl⟩) ⟨xB_blind, va_recv hK hP (ci := 5) rfl (xw_is (by decide) fo_0), fun U hU hW => ⟨rfl, by rw [hU]; exact hP, va_K.moved hW.alike hK, va_Nw.warmM hW hN⟩⟩ rfl rfl hl.1 rfl (lv_room (Nat.le_of_ble_eq_true rfl)) dX5_times_2 ⟨Nat.le_of_ble_eq_true rfl, Nat.le_of_ble_eq_true rfl⟩)) (fun r1 er1 => ?_)
  subst er1
  refine W.eq (g2 := F0 m 5 ls (.ref (ad (b1)) :: [])) rfl ?_
  refine lv_astore (lv' := [(5, .ref (ad (b1))), (0, .ref (ad (0))), (1, .int (nI (k1))), (2, .int (x0)), (3, .int (kk)), (4, .int (bb))]) hx hb dX5_times_5 hl (by decide) rfl (fun ls hl => ?_)
  refine lv_aload hx hb dX5_times_7 (lv_at hl 0 rfl) ?_
  refine lv_ifnull hx hb dX5_times_9 ?_
  refine lv_iload_n hx hb dX5_times_12 rfl (lv_at hl 3 rfl) ?_
  refine vp_callSi (va_Run.run (va_runS (As := [.int (x0)]) (rest := []) ⟨hx, hb, hml, hown, hts⟩ (mX5_isCounted_out l hx0) (va_cwS 1 hts gX5_times_X5_isCounted rfl rfl rfl (by decide +kernel) ⟨Nat.le_of_ble_eq_true rfl, Nat.le_of_ble_eq_true rfl⟩) ⟨xB_blind, fun U hU hW => ⟨rfl, by rw [hU]; exact hP, va_K.moved hW.alike hK, va_Nw.warmM hW hN⟩⟩ rfl rfl hl.1 rfl (lv_room (Nat.le_of_ble_eq_true rfl)) dX5_times_13 ⟨Nat.le_of_ble_eq_true rfl, Nat.le_of_ble_eq_true rfl⟩)) (fun r2 er2 => ?_)
  subst er2
  refine xi_if_ne (tgt := 23) hx hb (by decide) dX5_times_16 (by decide) (fun c0 => absurd c0 (by decide)) (fun _ => ?_)
  refine lv_ldc2 (v := lZ (-1)) hx hb hown (hts (.constantLong RX5 159 (-1)) (by decide +kernel)) dX5_times_19 ?_
  exact W.lret (v := lZ (-1)) hx hb hr (fun tZ ht hW => ⟨⟨_, g, rfl, ⟨rfl, hC, fun _ _ => rfl⟩, by rw [ht]; exact hP, va_K.moved hW.alike hK, va_Nw.warmM hW hN⟩, hS.F ht⟩) hS.2.2 dX5_times_22

set_option maxHeartbeats 4000000 in
set_option maxRecDepth 100000 in
theorem mX5_times_big (l : Launch) {D : va_G} {cI cJ cZ cW : ClassId} {ad : Nat → Nat} {A : Nat → Prop} (hD : ∀ g, va_D A (xw 81 ad g)) {g : Nat → va_E} {q Wt : Nat} {w : Nat → Nat} {ln : Nat → Nat} {u : Nat → Nat → Nat} {T : Nat} {t : Nat → Nat} {tp bt : Int64} {k1 b1 n1 ol1 : Nat} {u1 sf1 : Nat → Nat} {n0 : Nat} {kk bb : Int32}  (hC : ClsI cI cJ cZ cW ad g q Wt w ln u T t tp bt) (hs : SrcI q Wt w ln u T t) (hk1 : k1 < 8) (eb1 : 17 + 5 * k1 = b1) (en1 : ln k1 = n1) (eu1 : u k1 = u1) (es1 : shr Wt w u1 n1 = sf1) (eo1 : ownL Wt w u1 n1 = ol1) (hp1 : 0 < n1) (hn0 : n0 ≤ 30) (hkk : nI n0 < kk) : Met l yX5_times wsX5_times ({ frames := 3, cells := 0, slots := 0, locals := 83 }) (va_Pc [.ref (ad (0)), .int (nI (k1)), .int (nI (n0)), .int (kk), .int (bb)] (xB D (xT cI cJ cZ cW) ad g)) (va_Ql (fun r g2 => r = lZ 0 ∧ ClsI cI cJ cZ cW ad g2 q Wt w ln u T t tp bt ∧ ∀ i : Nat, 62 ≤ i → g2 i = g i) (xB D (xT cI cJ cZ cW) ad) A) 0 0 A := by
  refine Met.ofW (cc := cX5_times) (maxL := 6) (ret := (some .long)) (by decide) rfl ?_
  intro p e s m args below meth c s₁ B hml hv
  obtain ⟨rfl, hP, hK, hN⟩ := hv
  have hx := B.exec
  have hb := B.bytes
  have hr := B.returns
  have hts := atoms_spec (ws := wsX5_times) B.pre
  have hown : s.vm.findClass RX5 = some m.cls := findClass_of_methodNamed B.named
  have hlocks := B.notSynchronized
  have hS : va_S A s.heap s.heap [] := va_S.rf
  have hl := lv_entry ([.ref (ad (0)), .int (nI (k1)), .int (nI (n0)), .int (kk), .int (bb)]) (n := 6) (Nat.le_of_ble_eq_true rfl)
  rw [lg_entry_eq]
  generalize (lg_sl ([.ref (ad (0)), .int (nI (k1)), .int (nI (n0)), .int (kk), .int (bb)]) ++ List.replicate (6 - (lg_sl ([.ref (ad (0)), .int (nI (k1)), .int (nI (n0)), .int (kk), .int (bb)])).length) Slot.unset).toArray = ls at hl ⊢
  have hl : lv_has ls 6 [(0, .ref (ad (0))), (1, .int (nI (k1))), (2, .int (nI (n0))), (3, .int (kk)), (4, .int (bb))] := hl
  obtain ⟨hq2, hq4, hw1, hw0, hWs, hWt, hw, hln, hul, hT, ht⟩ := hs
  obtain ⟨fo_0, ⟨f2, fo_1, fa_2, h2⟩, ⟨f3, fa_3, h3⟩, hRace, hMach, ⟨f16, fo15, fa16, h16⟩, hwd, hcand⟩ := id hC
  have hWp : 1 ≤ Wt ∧ Wt ≤ 4 := by have h8 := hw1 0 (by omega); have h9 := wsum_mono (w := w) (show 1 ≤ q by omega); have h7 : wsum w 1 = 0 + w 0 := rfl; omega
  obtain ⟨f5r, f6r, f7r, szr, fo4, fa5, fa6, fa7⟩ := hRace
  obtain ⟨fl1, fh1, ft1, fs1, fo1, fal1, fah1, fat1, fas1, hfl1, hfh1, hft1, hfs1⟩ := cw_pos hwd hk1 eb1 en1 eu1 es1 eo1 hp1
  have hb1 : b1 + 4 < 81 := by omega
  have hn1 : n1 ≤ 5 := en1 ▸ hln k1
  have hu1 : ∀ j, j < n1 → u1 j < q := fun j hj => by rw [← eu1]; exact hul k1 j (by rw [en1]; exact hj)
  have hwu1 : ∀ j, j < n1 → w (u1 j) ≤ 4 := fun j hj => hw _ (Nat.lt_of_lt_of_le (hu1 j hj) hq4)
  have hsf1 : ∀ k, k ≤ n1 → sf1 k ≤ 1024 := fun k hk => es1 ▸ shr_le hWt hwu1 hn1 hk
  have hs01 : 1 ≤ sf1 0 := es1 ▸ shr_0 (fun j hj => hw1 _ (hu1 j hj))
  have hol1 : ol1 ≤ 5120 := by rw [← eo1]; show lapS (shr Wt w u1 n1) u1 n1 u1 n1 5 ≤ 5120; rw [es1]; exact lapS_le hsf1 5
  have hb171 : 17 ≤ b1 := by omega
  obtain ⟨f9, f10, f11, f12, f13, f14, na, nb, stq, hab, fo8, fa9, fa10, fa11, fa12, fa13, fa14⟩ := id hMach
  have fana : ∃ fx : Nat → Int64, g na = .inl (cJ, 186, .inr (.inl fx)) := by rcases hab with ⟨rfl, rfl⟩ | ⟨rfl, rfl⟩; exact ⟨_, fa13⟩; exact ⟨_, fa14⟩
  have fanb : ∃ fx : Nat → Int64, g nb = .inl (cJ, 186, .inr (.inl fx)) := by rcases hab with ⟨rfl, rfl⟩ | ⟨rfl, rfl⟩; exact ⟨_, fa14⟩; exact ⟨_, fa13⟩
  obtain ⟨fna, fana⟩ := fana
  obtain ⟨fnb, fanb⟩ := fanb
  refine lv_aload_n hx hb dX5_times_0 rfl (lv_at hl 0 rfl) ?_
  refine lv_iload_n hx hb dX5_times_1 rfl (lv_at hl 1 rfl) ?_
  refine va_csq (va_Run.run (va_runV (As := [.int (nI (k1))]) (rest := []) ⟨hx, hb, hml, hown, hts⟩ (mX5_wordIn_yes l fo_0 fa_3 fo1 h3 hk1 eb1 hp1 hn1) (cwV 1 hts gX5_times_X5_wordIn rfl rfl rfl (by decide +kernel) ⟨Nat.le_of_ble_eq_true rfl, Nat.le_of_ble_eq_true rfl⟩) ⟨xB_blind, va_recv hK hP (ci := 5) rfl (xw_is (by decide) fo_0), fun U hU hW => ⟨rfl, by rw [hU]; exact hP, va_K.moved hW.alike hK, va_Nw.warmM hW hN⟩⟩ rfl rfl hl.1 rfl (lv_room (Nat.le_of_ble_eq_true rfl)) dX5_times_2 ⟨Nat.le_of_ble_eq_true rfl, Nat.le_of_ble_eq_true rfl⟩)) (fun r1 er1 => ?_)
  subst er1
  refine W.eq (g2 := F0 m 5 ls (.ref (ad (b1)) :: [])) rfl ?_
  refine lv_astore (lv' := [(5, .ref (ad (b1))), (0, .ref (ad (0))), (1, .int (nI (k1))), (2, .int (nI (n0))), (3, .int (kk)), (4, .int (bb))]) hx hb dX5_times_5 hl (by decide) rfl (fun ls hl => ?_)
  refine lv_aload hx hb dX5_times_7 (lv_at hl 0 rfl) ?_
  refine lv_ifnull hx hb dX5_times_9 ?_
  refine lv_iload_n hx hb dX5_times_12 rfl (lv_at hl 3 rfl) ?_
  refine vp_callSi (va_Run.run (va_runS (As := [.int (nI (n0))]) (rest := []) ⟨hx, hb, hml, hown, hts⟩ (mX5_isCounted_in l hn0) (va_cwS 1 hts gX5_times_X5_isCounted rfl rfl rfl (by decide +kernel) ⟨Nat.le_of_ble_eq_true rfl, Nat.le_of_ble_eq_true rfl⟩) ⟨xB_blind, fun U hU hW => ⟨rfl, by rw [hU]; exact hP, va_K.moved hW.alike hK, va_Nw.warmM hW hN⟩⟩ rfl rfl hl.1 rfl (lv_room (Nat.le_of_ble_eq_true rfl)) dX5_times_13 ⟨Nat.le_of_ble_eq_true rfl, Nat.le_of_ble_eq_true rfl⟩)) (fun r2 er2 => ?_)
  subst er2
  refine xi_if_ne (tgt := 23) hx hb (by decide) dX5_times_16 (by decide) (fun _ => ?_) (fun c0 => absurd c0 (by decide))
  refine lv_iload_n hx hb dX5_times_23 rfl (lv_at hl 4 rfl) ?_
  refine lv_iload_n hx hb dX5_times_24 rfl (lv_at hl 3 rfl) ?_
  refine lv_icmp_gt (tgt := 37) hx hb dX5_times_25 (by decide) (fun c25_4 => ?_) (fun c25_4 => ?_)
  · refine lv_lconst (v := lZ (0)) hx hb dX5_times_37 (by decide) ?_
    exact W.lret (v := lZ (0)) hx hb hr (fun tZ ht hW => ⟨⟨_, g, rfl, ⟨rfl, hC, fun _ _ => rfl⟩, by rw [ht]; exact hP, va_K.moved hW.alike hK, va_Nw.warmM hW hN⟩, hS.F ht⟩) hS.2.2 dX5_times_38
  · exact absurd hkk c25_4

set_option maxHeartbeats 4000000 in
set_option maxRecDepth 100000 in
theorem mX5_times_neg (l : Launch) {D : va_G} {cI cJ cZ cW : ClassId} {ad : Nat → Nat} {A : Nat → Prop} (hD : ∀ g, va_D A (xw 81 ad g)) {g : Nat → va_E} {q Wt : Nat} {w : Nat → Nat} {ln : Nat → Nat} {u : Nat → Nat → Nat} {T : Nat} {t : Nat → Nat} {tp bt : Int64} {k1 b1 n1 ol1 : Nat} {u1 sf1 : Nat → Nat} {n0 : Nat} {kk : Int32}  (hC : ClsI cI cJ cZ cW ad g q Wt w ln u T t tp bt) (hs : SrcI q Wt w ln u T t) (hk1 : k1 < 8) (eb1 : 17 + 5 * k1 = b1) (en1 : ln k1 = n1) (eu1 : u k1 = u1) (es1 : shr Wt w u1 n1 = sf1) (eo1 : ownL Wt w u1 n1 = ol1) (hp1 : 0 < n1) (hn0 : n0 ≤ 30) (hkk : kk < 0) : Met l yX5_times wsX5_times ({ frames := 3, cells := 0, slots := 0, locals := 83 }) (va_Pc [.ref (ad (0)), .int (nI (k1)), .int (nI (n0)), .int (kk), .int (nI (1))] (xB D (xT cI cJ cZ cW) ad g)) (va_Ql (fun r g2 => r = lZ 0 ∧ ClsI cI cJ cZ cW ad g2 q Wt w ln u T t tp bt ∧ ∀ i : Nat, 62 ≤ i → g2 i = g i) (xB D (xT cI cJ cZ cW) ad) A) 0 0 A := by
  refine Met.ofW (cc := cX5_times) (maxL := 6) (ret := (some .long)) (by decide) rfl ?_
  intro p e s m args below meth c s₁ B hml hv
  obtain ⟨rfl, hP, hK, hN⟩ := hv
  have hx := B.exec
  have hb := B.bytes
  have hr := B.returns
  have hts := atoms_spec (ws := wsX5_times) B.pre
  have hown : s.vm.findClass RX5 = some m.cls := findClass_of_methodNamed B.named
  have hlocks := B.notSynchronized
  have hS : va_S A s.heap s.heap [] := va_S.rf
  have hl := lv_entry ([.ref (ad (0)), .int (nI (k1)), .int (nI (n0)), .int (kk), .int (nI (1))]) (n := 6) (Nat.le_of_ble_eq_true rfl)
  rw [lg_entry_eq]
  generalize (lg_sl ([.ref (ad (0)), .int (nI (k1)), .int (nI (n0)), .int (kk), .int (nI (1))]) ++ List.replicate (6 - (lg_sl ([.ref (ad (0)), .int (nI (k1)), .int (nI (n0)), .int (kk), .int (nI (1))])).length) Slot.unset).toArray = ls at hl ⊢
  have hl : lv_has ls 6 [(0, .ref (ad (0))), (1, .int (nI (k1))), (2, .int (nI (n0))), (3, .int (kk)), (4, .int (nI (1)))] := hl
  obtain ⟨hq2, hq4, hw1, hw0, hWs, hWt, hw, hln, hul, hT, ht⟩ := hs
  obtain ⟨fo_0, ⟨f2, fo_1, fa_2, h2⟩, ⟨f3, fa_3, h3⟩, hRace, hMach, ⟨f16, fo15, fa16, h16⟩, hwd, hcand⟩ := id hC
  have hWp : 1 ≤ Wt ∧ Wt ≤ 4 := by have h8 := hw1 0 (by omega); have h9 := wsum_mono (w := w) (show 1 ≤ q by omega); have h7 : wsum w 1 = 0 + w 0 := rfl; omega
  obtain ⟨f5r, f6r, f7r, szr, fo4, fa5, fa6, fa7⟩ := hRace
  obtain ⟨fl1, fh1, ft1, fs1, fo1, fal1, fah1, fat1, fas1, hfl1, hfh1, hft1, hfs1⟩ := cw_pos hwd hk1 eb1 en1 eu1 es1 eo1 hp1
  have hb1 : b1 + 4 < 81 := by omega
  have hn1 : n1 ≤ 5 := en1 ▸ hln k1
  have hu1 : ∀ j, j < n1 → u1 j < q := fun j hj => by rw [← eu1]; exact hul k1 j (by rw [en1]; exact hj)
  have hwu1 : ∀ j, j < n1 → w (u1 j) ≤ 4 := fun j hj => hw _ (Nat.lt_of_lt_of_le (hu1 j hj) hq4)
  have hsf1 : ∀ k, k ≤ n1 → sf1 k ≤ 1024 := fun k hk => es1 ▸ shr_le hWt hwu1 hn1 hk
  have hs01 : 1 ≤ sf1 0 := es1 ▸ shr_0 (fun j hj => hw1 _ (hu1 j hj))
  have hol1 : ol1 ≤ 5120 := by rw [← eo1]; show lapS (shr Wt w u1 n1) u1 n1 u1 n1 5 ≤ 5120; rw [es1]; exact lapS_le hsf1 5
  have hb171 : 17 ≤ b1 := by omega
  obtain ⟨f9, f10, f11, f12, f13, f14, na, nb, stq, hab, fo8, fa9, fa10, fa11, fa12, fa13, fa14⟩ := id hMach
  have fana : ∃ fx : Nat → Int64, g na = .inl (cJ, 186, .inr (.inl fx)) := by rcases hab with ⟨rfl, rfl⟩ | ⟨rfl, rfl⟩; exact ⟨_, fa13⟩; exact ⟨_, fa14⟩
  have fanb : ∃ fx : Nat → Int64, g nb = .inl (cJ, 186, .inr (.inl fx)) := by rcases hab with ⟨rfl, rfl⟩ | ⟨rfl, rfl⟩; exact ⟨_, fa14⟩; exact ⟨_, fa13⟩
  obtain ⟨fna, fana⟩ := fana
  obtain ⟨fnb, fanb⟩ := fanb
  refine lv_aload_n hx hb dX5_times_0 rfl (lv_at hl 0 rfl) ?_
  refine lv_iload_n hx hb dX5_times_1 rfl (lv_at hl 1 rfl) ?_
  refine va_csq (va_Run.run (va_runV (As := [.int (nI (k1))]) (rest := []) ⟨hx, hb, hml, hown, hts⟩ (mX5_wordIn_yes l fo_0 fa_3 fo1 h3 hk1 eb1 hp1 hn1) (cwV 1 hts gX5_times_X5_wordIn rfl rfl rfl (by decide +kernel) ⟨Nat.le_of_ble_eq_true rfl, Nat.le_of_ble_eq_true rfl⟩) ⟨xB_blind, va_recv hK hP (ci := 5) rfl (xw_is (by decide) fo_0), fun U hU hW => ⟨rfl, by rw [hU]; exact hP, va_K.moved hW.alike hK, va_Nw.warmM hW hN⟩⟩ rfl rfl hl.1 rfl (lv_room (Nat.le_of_ble_eq_true rfl)) dX5_times_2 ⟨Nat.le_of_ble_eq_true rfl, Nat.le_of_ble_eq_true rfl⟩)) (fun r1 er1 => ?_)
  subst er1
  refine W.eq (g2 := F0 m 5 ls (.ref (ad (b1)) :: [])) rfl ?_
  refine lv_astore (lv' := [(5, .ref (ad (b1))), (0, .ref (ad (0))), (1, .int (nI (k1))), (2, .int (nI (n0))), (3, .int (kk)), (4, .int (nI (1)))]) hx hb dX5_times_5 hl (by decide) rfl (fun ls hl => ?_)
  refine lv_aload hx hb dX5_times_7 (lv_at hl 0 rfl) ?_
  refine lv_ifnull hx hb dX5_times_9 ?_
  refine lv_iload_n hx hb dX5_times_12 rfl (lv_at hl 3 rfl) ?_
  refine vp_callSi (va_Run.run (va_runS (As := [.int (nI (n0))]) (rest := []) ⟨hx, hb, hml, hown, hts⟩ (mX5_isCounted_in l hn0) (va_cwS 1 hts gX5_times_X5_isCounted rfl rfl rfl (by decide +kernel) ⟨Nat.le_of_ble_eq_true rfl, Nat.le_of_ble_eq_true rfl⟩) ⟨xB_blind, fun U hU hW => ⟨rfl, by rw [hU]; exact hP, va_K.moved hW.alike hK, va_Nw.warmM hW hN⟩⟩ rfl rfl hl.1 rfl (lv_room (Nat.le_of_ble_eq_true rfl)) dX5_times_13 ⟨Nat.le_of_ble_eq_true rfl, Nat.le_of_ble_eq_true rfl⟩)) (fun r2 er2 => ?_)
  subst er2
  refine xi_if_ne (tgt := 23) hx hb (by decide) dX5_times_16 (by decide) (fun _ => ?_) (fun c0 => absurd c0 (by decide))
  refine lv_iload_n hx hb dX5_times_23 rfl (lv_at hl 4 rfl) ?_
  refine lv_iload_n hx hb dX5_times_24 rfl (lv_at hl 3 rfl) ?_
  refine lv_icmp_gt (tgt := 37) hx hb dX5_times_25 (by decide) (fun c25_4 => ?_) (fun c25_4 => ?_)
  · refine lv_lconst (v := lZ (0)) hx hb dX5_times_37 (by decide) ?_
    exact W.lret (v := lZ (0)) hx hb hr (fun tZ ht hW => ⟨⟨_, g, rfl, ⟨rfl, hC, fun _ _ => rfl⟩, by rw [ht]; exact hP, va_K.moved hW.alike hK, va_Nw.warmM hW hN⟩, hS.F ht⟩) hS.2.2 dX5_times_38
  · refine lv_iload hx hb dX5_times_28 (lv_at hl 5 rfl) ?_
    refine xi_if_eq (tgt := 39) hx hb (by decide) dX5_times_30 (by decide) (fun c0 => absurd c0 (by decide)) (fun _ => ?_)
    refine lv_iload_n hx hb dX5_times_33 rfl (lv_at hl 4 rfl) ?_
    refine lv_if_ge (tgt := 39) hx hb dX5_times_34 (by decide) (fun c34_6 => ?_) (fun c34_6 => ?_)
    · exact absurd hkk (by rw [Int32.not_lt]; exact c34_6)
    · refine lv_lconst (v := lZ (0)) hx hb dX5_times_37 (by decide) ?_
      exact W.lret (v := lZ (0)) hx hb hr (fun tZ ht hW => ⟨⟨_, g, rfl, ⟨rfl, hC, fun _ _ => rfl⟩, by rw [ht]; exact hP, va_K.moved hW.alike hK, va_Nw.warmM hW hN⟩, hS.F ht⟩) hS.2.2 dX5_times_38

set_option maxHeartbeats 4000000 in
set_option maxRecDepth 100000 in
theorem mX5_times_all (l : Launch) {D : va_G} {cI cJ cZ cW : ClassId} {ad : Nat → Nat} {A : Nat → Prop} (hD : ∀ g, va_D A (xw 81 ad g)) {g : Nat → va_E} {q Wt : Nat} {w : Nat → Nat} {ln : Nat → Nat} {u : Nat → Nat → Nat} {T : Nat} {t : Nat → Nat} {tp bt : Int64} {k1 b1 n1 ol1 : Nat} {u1 sf1 : Nat → Nat} {n0 : Nat} {kk : Int32}  (hC : ClsI cI cJ cZ cW ad g q Wt w ln u T t tp bt) (hs : SrcI q Wt w ln u T t) (hk1 : k1 < 8) (eb1 : 17 + 5 * k1 = b1) (en1 : ln k1 = n1) (eu1 : u k1 = u1) (es1 : shr Wt w u1 n1 = sf1) (eo1 : ownL Wt w u1 n1 = ol1) (hp1 : 0 < n1) (hn0 : n0 ≤ 30) (hkk : ¬ nI n0 < kk) (hk0 : ¬ 0 < kk) : Met l yX5_times wsX5_times ({ frames := 3, cells := 0, slots := 0, locals := 83 }) (va_Pc [.ref (ad (0)), .int (nI (k1)), .int (nI (n0)), .int (kk), .int (nI (0))] (xB D (xT cI cJ cZ cW) ad g)) (va_Ql (fun r g2 => r = lZ ((Wt ^ n0 : Nat) : Int) ∧ ClsI cI cJ cZ cW ad g2 q Wt w ln u T t tp bt ∧ ∀ i : Nat, 62 ≤ i → g2 i = g i) (xB D (xT cI cJ cZ cW) ad) A) 0 0 A := by
  refine Met.ofW (cc := cX5_times) (maxL := 6) (ret := (some .long)) (by decide) rfl ?_
  intro p e s m args below meth c s₁ B hml hv
  obtain ⟨rfl, hP, hK, hN⟩ := hv
  have hx := B.exec
  have hb := B.bytes
  have hr := B.returns
  have hts := atoms_spec (ws := wsX5_times) B.pre
  have hown : s.vm.findClass RX5 = some m.cls := findClass_of_methodNamed B.named
  have hlocks := B.notSynchronized
  have hS : va_S A s.heap s.heap [] := va_S.rf
  have hin0 : ∀ w ∈ wsX00, w ∈ wsX5_times := by decide +kernel
  have hin5 : ∀ w ∈ wsX50, w ∈ wsX5_times := by decide +kernel
  have hf12 := hts (.fieldLink RX5 12 "LettersByLot" "lot" "LLettersByLot$Lot;") (by decide +kernel)
  have hf63 := hts (.fieldLink RX5 63 "LettersByLot$Lot" "total" "I") (by decide +kernel)
  have hl := lv_entry ([.ref (ad (0)), .int (nI (k1)), .int (nI (n0)), .int (kk), .int (nI (0))]) (n := 6) (Nat.le_of_ble_eq_true rfl)
  rw [lg_entry_eq]
  generalize (lg_sl ([.ref (ad (0)), .int (nI (k1)), .int (nI (n0)), .int (kk), .int (nI (0))]) ++ List.replicate (6 - (lg_sl ([.ref (ad (0)), .int (nI (k1)), .int (nI (n0)), .int (kk), .int (nI (0))])).length) Slot.unset).toArray = ls at hl ⊢
  have hl : lv_has ls 6 [(0, .ref (ad (0))), (1, .int (nI (k1))), (2, .int (nI (n0))), (3, .int (kk)), (4, .int (nI (0)))] := hl
  obtain ⟨hq2, hq4, hw1, hw0, hWs, hWt, hw, hln, hul, hT, ht⟩ := hs
  obtain ⟨fo_0, ⟨f2, fo_1, fa_2, h2⟩, ⟨f3, fa_3, h3⟩, hRace, hMach, ⟨f16, fo15, fa16, h16⟩, hwd, hcand⟩ := id hC
  have hWp : 1 ≤ Wt ∧ Wt ≤ 4 := by have h8 := hw1 0 (by omega); have h9 := wsum_mono (w := w) (show 1 ≤ q by omega); have h7 : wsum w 1 = 0 + w 0 := rfl; omega
  obtain ⟨f5r, f6r, f7r, szr, fo4, fa5, fa6, fa7⟩ := hRace
  obtain ⟨fl1, fh1, ft1, fs1, fo1, fal1, fah1, fat1, fas1, hfl1, hfh1, hft1, hfs1⟩ := cw_pos hwd hk1 eb1 en1 eu1 es1 eo1 hp1
  have hb1 : b1 + 4 < 81 := by omega
  have hn1 : n1 ≤ 5 := en1 ▸ hln k1
  have hu1 : ∀ j, j < n1 → u1 j < q := fun j hj => by rw [← eu1]; exact hul k1 j (by rw [en1]; exact hj)
  have hwu1 : ∀ j, j < n1 → w (u1 j) ≤ 4 := fun j hj => hw _ (Nat.lt_of_lt_of_le (hu1 j hj) hq4)
  have hsf1 : ∀ k, k ≤ n1 → sf1 k ≤ 1024 := fun k hk => es1 ▸ shr_le hWt hwu1 hn1 hk
  have hs01 : 1 ≤ sf1 0 := es1 ▸ shr_0 (fun j hj => hw1 _ (hu1 j hj))
  have hol1 : ol1 ≤ 5120 := by rw [← eo1]; show lapS (shr Wt w u1 n1) u1 n1 u1 n1 5 ≤ 5120; rw [es1]; exact lapS_le hsf1 5
  have hb171 : 17 ≤ b1 := by omega
  obtain ⟨f9, f10, f11, f12, f13, f14, na, nb, stq, hab, fo8, fa9, fa10, fa11, fa12, fa13, fa14⟩ := id hMach
  have fana : ∃ fx : Nat → Int64, g na = .inl (cJ, 186, .inr (.inl fx)) := by rcases hab with ⟨rfl, rfl⟩ | ⟨rfl, rfl⟩; exact ⟨_, fa13⟩; exact ⟨_, fa14⟩
  have fanb : ∃ fx : Nat → Int64, g nb = .inl (cJ, 186, .inr (.inl fx)) := by rcases hab with ⟨rfl, rfl⟩ | ⟨rfl, rfl⟩; exact ⟨_, fa14⟩; exact ⟨_, fa13⟩
  obtain ⟨fna, fana⟩ := fana
  obtain ⟨fnb, fanb⟩ := fanb
  refine lv_aload_n hx hb dX5_times_0 rfl (lv_at hl 0 rfl) ?_
  refine lv_iload_n hx hb dX5_times_1 rfl (lv_at hl 1 rfl) ?_
  refine va_csq (va_Run.run (va_runV (As := [.int (nI (k1))]) (rest := []) ⟨hx, hb, hml, hown, hts⟩ (mX5_wordIn_yes l fo_0 fa_3 fo1 h3 hk1 eb1 hp1 hn1) (cwV 1 hts gX5_times_X5_wordIn rfl rfl rfl (by decide +kernel) ⟨Nat.le_of_ble_eq_true rfl, Nat.le_of_ble_eq_true rfl⟩) ⟨xB_blind, va_recv hK hP (ci := 5) rfl (xw_is (by decide) fo_0), fun U hU hW => ⟨rfl, by rw [hU]; exact hP, va_K.moved hW.alike hK, va_Nw.warmM hW hN⟩⟩ rfl rfl hl.1 rfl (lv_room (Nat.le_of_ble_eq_true rfl)) dX5_times_2 ⟨Nat.le_of_ble_eq_true rfl, Nat.le_of_ble_eq_true rfl⟩)) (fun r1 er1 => ?_)
  subst er1
  refine W.eq (g2 := F0 m 5 ls (.ref (ad (b1)) :: [])) rfl ?_
  refine lv_astore (lv' := [(5, .ref (ad (b1))), (0, .ref (ad (0))), (1, .int (nI (k1))), (2, .int (nI (n0))), (3, .int (kk)), (4, .int (nI (0)))]) hx hb dX5_times_5 hl (by decide) rfl (fun ls hl => ?_)
  refine lv_aload hx hb dX5_times_7 (lv_at hl 0 rfl) ?_
  refine lv_ifnull hx hb dX5_times_9 ?_
  refine lv_iload_n hx hb dX5_times_12 rfl (lv_at hl 3 rfl) ?_
  refine vp_callSi (va_Run.run (va_runS (As := [.int (nI (n0))]) (rest := []) ⟨hx, hb, hml, hown, hts⟩ (mX5_isCounted_in l hn0) (va_cwS 1 hts gX5_times_X5_isCounted rfl rfl rfl (by decide +kernel) ⟨Nat.le_of_ble_eq_true rfl, Nat.le_of_ble_eq_true rfl⟩) ⟨xB_blind, fun U hU hW => ⟨rfl, by rw [hU]; exact hP, va_K.moved hW.alike hK, va_Nw.warmM hW hN⟩⟩ rfl rfl hl.1 rfl (lv_room (Nat.le_of_ble_eq_true rfl)) dX5_times_13 ⟨Nat.le_of_ble_eq_true rfl, Nat.le_of_ble_eq_true rfl⟩)) (fun r2 er2 => ?_)
  subst er2
  refine xi_if_ne (tgt := 23) hx hb (by decide) dX5_times_16 (by decide) (fun _ => ?_) (fun c0 => absurd c0 (by decide))
  refine lv_iload_n hx hb dX5_times_23 rfl (lv_at hl 4 rfl) ?_
  refine lv_iload_n hx hb dX5_times_24 rfl (lv_at hl 3 rfl) ?_
  refine lv_icmp_gt (tgt := 37) hx hb dX5_times_25 (by decide) (fun c25_4 => ?_) (fun c25_4 => ?_)
  · exact absurd c25_4 hkk
  · refine lv_iload hx hb dX5_times_28 (lv_at hl 5 rfl) ?_
    refine xi_if_eq (tgt := 39) hx hb (by decide) dX5_times_30 (by decide) (fun _ => ?_) (fun c0 => absurd c0 (by decide))
    refine lv_iload hx hb dX5_times_39 (lv_at hl 5 rfl) ?_
    refine xi_if_ne (tgt := 61) hx hb (by decide) dX5_times_41 (by decide) (fun c0 => absurd c0 (by decide)) (fun _ => ?_)
    refine lv_iload_n hx hb dX5_times_44 rfl (lv_at hl 4 rfl) ?_
    refine lv_if_gt (tgt := 61) hx hb dX5_times_45 (by decide) (fun c45_7 => ?_) (fun c45_7 => ?_)
    · exact absurd c45_7 hk0
    · refine lv_aload_n hx hb dX5_times_48 rfl (lv_at hl 1 rfl) ?_
      refine xw_get hx hb hts hin5 hown hK hP (by decide) fo_0 rfl 0 (by decide) hf12 rfl rfl dX5_times_49 ?_
      refine xw_get hx hb hts hin0 hown hK hP (by decide) fo_1 rfl 2 (by decide) hf63 rfl rfl dX5_times_52 ?_
      refine xi_i2l hx hb (by omega) dX5_times_55 ?_
      refine lv_iload_n hx hb dX5_times_56 rfl (lv_at hl 3 rfl) ?_
      refine vp_callSl (va_Run.run (va_runS (As := [.long (lZ (((Wt : Nat) : Int))), .int (nI (n0))]) (rest := []) ⟨hx, hb, hml, hown, hts⟩ (mX5_power l (b0 := Wt) (e0 := n0) (by omega)) (va_cwS 2 hts gX5_times_X5_power rfl rfl rfl (by decide +kernel) ⟨Nat.le_of_ble_eq_true rfl, Nat.le_of_ble_eq_true rfl⟩) ⟨xB_blind, fun U hU hW => ⟨rfl, by rw [hU]; exact hP, va_K.moved hW.alike hK, va_Nw.warmM hW hN⟩⟩ rfl rfl hl.1 rfl (lv_room (Nat.le_of_ble_eq_true rfl)) dX5_times_57 ⟨Nat.le_of_ble_eq_true rfl, Nat.le_of_ble_eq_true rfl⟩)) (fun r8 er8 => ?_)
      subst er8
      exact W.lret (v := lZ (((Wt ^ n0 : Nat) : Int))) hx hb hr (fun tZ ht hW => ⟨⟨_, g, rfl, ⟨rfl, hC, fun _ _ => rfl⟩, by rw [ht]; exact hP, va_K.moved hW.alike hK, va_Nw.warmM hW hN⟩, hS.F ht⟩) hS.2.2 dX5_times_60

set_option maxHeartbeats 4000000 in
set_option maxRecDepth 100000 in
theorem mX5_times_k (l : Launch) {D : va_G} {cI cJ cZ cW : ClassId} {ad : Nat → Nat} {A : Nat → Prop} (hD : ∀ g, va_D A (xw 81 ad g)) {g : Nat → va_E} {q Wt : Nat} {w : Nat → Nat} {ln : Nat → Nat} {u : Nat → Nat → Nat} {T : Nat} {t : Nat → Nat} {tp bt : Int64} {k1 b1 n1 ol1 : Nat} {u1 sf1 : Nat → Nat} {n0 kq : Nat}  (hC : ClsI cI cJ cZ cW ad g q Wt w ln u T t tp bt) (hs : SrcI q Wt w ln u T t) (hk1 : k1 < 8) (eb1 : 17 + 5 * k1 = b1) (en1 : ln k1 = n1) (eu1 : u k1 = u1) (es1 : shr Wt w u1 n1 = sf1) (eo1 : ownL Wt w u1 n1 = ol1) (hp1 : 0 < n1) (hn0 : n0 ≤ 30) (hkq : kq ≤ n0) : Met l yX5_times wsX5_times ({ frames := 3, cells := 0, slots := 0, locals := 83 }) (va_Pc [.ref (ad (0)), .int (nI (k1)), .int (nI (n0)), .int (nI (kq)), .int (nI (1))] (xB D (xT cI cJ cZ cW) ad g)) (va_Ql (fun r g2 => r = lZ (tmW q w u1 n1 n0 kq kq) ∧ ClsI cI cJ cZ cW ad g2 q Wt w ln u T t tp bt ∧ ∀ i : Nat, 62 ≤ i → g2 i = g i) (xB D (xT cI cJ cZ cW) ad) A) 0 0 A := by
  refine Met.ofW (cc := cX5_times) (maxL := 6) (ret := (some .long)) (by decide) rfl ?_
  intro p e s m args below meth c s₁ B hml hv
  obtain ⟨rfl, hP, hK, hN⟩ := hv
  have hx := B.exec
  have hb := B.bytes
  have hr := B.returns
  have hts := atoms_spec (ws := wsX5_times) B.pre
  have hown : s.vm.findClass RX5 = some m.cls := findClass_of_methodNamed B.named
  have hlocks := B.notSynchronized
  have hS : va_S A s.heap s.heap [] := va_S.rf
  have hin5 : ∀ w ∈ wsX50, w ∈ wsX5_times := by decide +kernel
  have hf12 := hts (.fieldLink RX5 12 "LettersByLot" "lot" "LLettersByLot$Lot;") (by decide +kernel)
  have hf37 := hts (.fieldLink RX5 37 "LettersByLot" "machine" "LLettersByLot$Machine;") (by decide +kernel)
  have hl := lv_entry ([.ref (ad (0)), .int (nI (k1)), .int (nI (n0)), .int (nI (kq)), .int (nI (1))]) (n := 6) (Nat.le_of_ble_eq_true rfl)
  rw [lg_entry_eq]
  generalize (lg_sl ([.ref (ad (0)), .int (nI (k1)), .int (nI (n0)), .int (nI (kq)), .int (nI (1))]) ++ List.replicate (6 - (lg_sl ([.ref (ad (0)), .int (nI (k1)), .int (nI (n0)), .int (nI (kq)), .int (nI (1))])).length) Slot.unset).toArray = ls at hl ⊢
  have hl : lv_has ls 6 [(0, .ref (ad (0))), (1, .int (nI (k1))), (2, .int (nI (n0))), (3, .int (nI (kq))), (4, .int (nI (1)))] := hl
  obtain ⟨hq2, hq4, hw1, hw0, hWs, hWt, hw, hln, hul, hT, ht⟩ := hs
  obtain ⟨fo_0, ⟨f2, fo_1, fa_2, h2⟩, ⟨f3, fa_3, h3⟩, hRace, hMach, ⟨f16, fo15, fa16, h16⟩, hwd, hcand⟩ := id hC
  have hWp : 1 ≤ Wt ∧ Wt ≤ 4 := by have h8 := hw1 0 (by omega); have h9 := wsum_mono (w := w) (show 1 ≤ q by omega); have h7 : wsum w 1 = 0 + w 0 := rfl; omega
  obtain ⟨f5r, f6r, f7r, szr, fo4, fa5, fa6, fa7⟩ := hRace
  obtain ⟨fl1, fh1, ft1, fs1, fo1, fal1, fah1, fat1, fas1, hfl1, hfh1, hft1, hfs1⟩ := cw_pos hwd hk1 eb1 en1 eu1 es1 eo1 hp1
  have hb1 : b1 + 4 < 81 := by omega
  have hn1 : n1 ≤ 5 := en1 ▸ hln k1
  have hu1 : ∀ j, j < n1 → u1 j < q := fun j hj => by rw [← eu1]; exact hul k1 j (by rw [en1]; exact hj)
  have hwu1 : ∀ j, j < n1 → w (u1 j) ≤ 4 := fun j hj => hw _ (Nat.lt_of_lt_of_le (hu1 j hj) hq4)
  have hsf1 : ∀ k, k ≤ n1 → sf1 k ≤ 1024 := fun k hk => es1 ▸ shr_le hWt hwu1 hn1 hk
  have hs01 : 1 ≤ sf1 0 := es1 ▸ shr_0 (fun j hj => hw1 _ (hu1 j hj))
  have hol1 : ol1 ≤ 5120 := by rw [← eo1]; show lapS (shr Wt w u1 n1) u1 n1 u1 n1 5 ≤ 5120; rw [es1]; exact lapS_le hsf1 5
  have hb171 : 17 ≤ b1 := by omega
  obtain ⟨f9, f10, f11, f12, f13, f14, na, nb, stq, hab, fo8, fa9, fa10, fa11, fa12, fa13, fa14⟩ := id hMach
  have fana : ∃ fx : Nat → Int64, g na = .inl (cJ, 186, .inr (.inl fx)) := by rcases hab with ⟨rfl, rfl⟩ | ⟨rfl, rfl⟩; exact ⟨_, fa13⟩; exact ⟨_, fa14⟩
  have fanb : ∃ fx : Nat → Int64, g nb = .inl (cJ, 186, .inr (.inl fx)) := by rcases hab with ⟨rfl, rfl⟩ | ⟨rfl, rfl⟩; exact ⟨_, fa14⟩; exact ⟨_, fa13⟩
  obtain ⟨fna, fana⟩ := fana
  obtain ⟨fnb, fanb⟩ := fanb
  refine lv_aload_n hx hb dX5_times_0 rfl (lv_at hl 0 rfl) ?_
  refine lv_iload_n hx hb dX5_times_1 rfl (lv_at hl 1 rfl) ?_
  refine va_csq (va_Run.run (va_runV (As := [.int (nI (k1))]) (rest := []) ⟨hx, hb, hml, hown, hts⟩ (mX5_wordIn_yes l fo_0 fa_3 fo1 h3 hk1 eb1 hp1 hn1) (cwV 1 hts gX5_times_X5_wordIn rfl rfl rfl (by decide +kernel) ⟨Nat.le_of_ble_eq_true rfl, Nat.le_of_ble_eq_true rfl⟩) ⟨xB_blind, va_recv hK hP (ci := 5) rfl (xw_is (by decide) fo_0), fun U hU hW => ⟨rfl, by rw [hU]; exact hP, va_K.moved hW.alike hK, va_Nw.warmM hW hN⟩⟩ rfl rfl hl.1 rfl (lv_room (Nat.le_of_ble_eq_true rfl)) dX5_times_2 ⟨Nat.le_of_ble_eq_true rfl, Nat.le_of_ble_eq_true rfl⟩)) (fun r1 er1 => ?_)
  subst er1
  refine W.eq (g2 := F0 m 5 ls (.ref (ad (b1)) :: [])) rfl ?_
  refine lv_astore (lv' := [(5, .ref (ad (b1))), (0, .ref (ad (0))), (1, .int (nI (k1))), (2, .int (nI (n0))), (3, .int (nI (kq))), (4, .int (nI (1)))]) hx hb dX5_times_5 hl (by decide) rfl (fun ls hl => ?_)
  refine lv_aload hx hb dX5_times_7 (lv_at hl 0 rfl) ?_
  refine lv_ifnull hx hb dX5_times_9 ?_
  refine lv_iload_n hx hb dX5_times_12 rfl (lv_at hl 3 rfl) ?_
  refine vp_callSi (va_Run.run (va_runS (As := [.int (nI (n0))]) (rest := []) ⟨hx, hb, hml, hown, hts⟩ (mX5_isCounted_in l hn0) (va_cwS 1 hts gX5_times_X5_isCounted rfl rfl rfl (by decide +kernel) ⟨Nat.le_of_ble_eq_true rfl, Nat.le_of_ble_eq_true rfl⟩) ⟨xB_blind, fun U hU hW => ⟨rfl, by rw [hU]; exact hP, va_K.moved hW.alike hK, va_Nw.warmM hW hN⟩⟩ rfl rfl hl.1 rfl (lv_room (Nat.le_of_ble_eq_true rfl)) dX5_times_13 ⟨Nat.le_of_ble_eq_true rfl, Nat.le_of_ble_eq_true rfl⟩)) (fun r2 er2 => ?_)
  subst er2
  refine xi_if_ne (tgt := 23) hx hb (by decide) dX5_times_16 (by decide) (fun _ => ?_) (fun c0 => absurd c0 (by decide))
  refine lv_iload_n hx hb dX5_times_23 rfl (lv_at hl 4 rfl) ?_
  refine lv_iload_n hx hb dX5_times_24 rfl (lv_at hl 3 rfl) ?_
  refine xi_icmp_gt (tgt := 37) hx hb (by omega) (by omega) dX5_times_25 (by decide) (fun c25_4 => ?_) (fun c25_4 => ?_)
  · exact absurd c25_4 (by omega)
  · refine lv_iload hx hb dX5_times_28 (lv_at hl 5 rfl) ?_
    refine xi_if_eq (tgt := 39) hx hb (by decide) dX5_times_30 (by decide) (fun c0 => absurd c0 (by decide)) (fun _ => ?_)
    refine lv_iload_n hx hb dX5_times_33 rfl (lv_at hl 4 rfl) ?_
    refine xi_if_ge (tgt := 39) hx hb (by omega) dX5_times_34 (by decide) ?_
    refine lv_iload hx hb dX5_times_39 (lv_at hl 5 rfl) ?_
    refine xi_if_ne (tgt := 61) hx hb (by decide) dX5_times_41 (by decide) (fun _ => ?_) (fun c0 => absurd c0 (by decide))
    refine lv_aload_n hx hb dX5_times_61 rfl (lv_at hl 1 rfl) ?_
    refine xw_get hx hb hts hin5 hown hK hP (by decide) fo_0 rfl 4 (by decide) hf37 rfl rfl dX5_times_62 ?_
    refine va_callv (va_runV (As := []) (rest := []) ⟨hx, hb, hml, hown, hts⟩ (mX1_clear l hD fo8 fa9 fa10 fa12) (cwV 0 hts gX5_times_X1_clear rfl rfl rfl (by decide +kernel) ⟨Nat.le_of_ble_eq_true rfl, Nat.le_of_ble_eq_true rfl⟩) ⟨xB_blind, va_recv hK hP (ci := 1) rfl (xw_is (by decide) fo8), fun U hU hW => ⟨rfl, by rw [hU]; exact hP, va_K.moved hW.alike hK, va_Nw.warmM hW hN⟩⟩ rfl rfl hl.1 rfl (lv_room (Nat.le_of_ble_eq_true rfl)) dX5_times_65 ⟨Nat.le_of_ble_eq_true rfl, Nat.le_of_ble_eq_true rfl⟩) hS (fun _ _ h => h) (fun _ h => h) (fun g8 tZ H locs ht hvm hwg8 hB hzZ hkZ hS => ?_)
    obtain ⟨hP, -⟩ := hB
    rw [ht] at hP
    obtain ⟨c9, c10, c12, hc9, hc10, hc12, fg8_n0, fg8_n1, fg8_n2, fg8_n3, hcg8⟩ := hwg8
    have fg8_k0 : g8 (0) = .inr (5, [.ref (ad (1)), .ref (ad (3)), .ref (ad (57)), .ref (ad (4)), .ref (ad (8)), .ref (ad (15)), .long (tp), .long (bt)]) := (hcg8 (0) (by decide) (by decide) (by decide) (by decide)).trans fo_0
    have fg8_k1 : g8 (1) = .inr (0, [.ref (ad (2)), .int (nI (q)), .int (nI (Wt))]) := (hcg8 (1) (by decide) (by decide) (by decide) (by decide)).trans fo_1
    have fg8_k2 : g8 (2) = .inl (cI, 4, .inl (f2)) := (hcg8 (2) (by decide) (by decide) (by decide) (by decide)).trans fa_2
    have fg8_k3 : g8 (3) = .inl (cW, 8, .inr (.inr (.inr (.inr (f3))))) := (hcg8 (3) (by decide) (by decide) (by decide) (by decide)).trans fa_3
    have fg8_k4 : g8 (b1) = .inr (4, [.ref (ad (b1 + 1)), .ref (ad (b1 + 2)), .ref (ad (b1 + 3)), .ref (ad (b1 + 4)), .int (nI (n1)), .int (nI (px q u1 n1)), .long (lZ ((ol1 : Int)))]) := (hcg8 (b1) (by omega) (by omega) (by omega) (by omega)).trans fo1
    have fg8_k5 : g8 (b1 + 1) = .inl (cI, 5, .inl (fl1)) := (hcg8 (b1 + 1) (by omega) (by omega) (by omega) (by omega)).trans fal1
    have fg8_k6 : g8 (b1 + 2) = .inl (cI, 6, .inl (fh1)) := (hcg8 (b1 + 2) (by omega) (by omega) (by omega) (by omega)).trans fah1
    have fg8_k7 : g8 (b1 + 3) = .inl (cI, 6, .inl (ft1)) := (hcg8 (b1 + 3) (by omega) (by omega) (by omega) (by omega)).trans fat1
    have fg8_k8 : g8 (b1 + 4) = .inl (cJ, 6, .inr (.inl (fs1))) := (hcg8 (b1 + 4) (by omega) (by omega) (by omega) (by omega)).trans fas1
    have fg8_k9 : g8 (11) = .inl (cI, 41, .inl (f11)) := (hcg8 (11) (by decide) (by decide) (by decide) (by decide)).trans fa11
    have fg8_k10 : g8 (na) = .inl (cJ, 186, .inr (.inl (fna))) := (hcg8 (na) (by omega) (by omega) (by omega) (by omega)).trans fana
    have fg8_k11 : g8 (nb) = .inl (cJ, 186, .inr (.inl (fnb))) := (hcg8 (nb) (by omega) (by omega) (by omega) (by omega)).trans fanb
    have hfrg8 : ∀ j : Nat, j ≠ 8 → j ≠ 9 → j ≠ 10 → j ≠ 11 → j ≠ 12 → j ≠ 13 → j ≠ 14 → g8 j = g j := fun j h0 h1 h2 h3 h4 h5 h6 => (hcg8 j h0 h1 h2 h4).trans ((fun _ _ _ _ _ _ _ _ => rfl) j h0 h1 h2 h3 h4 h5 h6)
    refine lv_aload_n hx hb dX5_times_68 rfl (lv_at hl 1 rfl) ?_
    refine xw_get hx hb hts hin5 hown hK hP (by decide) fg8_k0 rfl 4 (by decide) hf37 rfl rfl dX5_times_69 ?_
    refine lv_aload hx hb dX5_times_72 (lv_at hl 0 rfl) ?_
    refine va_callv (va_runV (As := [.ref (ad (b1))]) (rest := []) ⟨hx, hb, hml, hown, hts⟩ (mX1_learn l hD (q := q) (nx := fun _ => 0) (S0 := 1) fg8_n0 fg8_n1 fg8_n3 fg8_k4 fg8_k5 hq4 hb1 hn1 hu1 hfl1 hb171 (by decide) (by omega) (fun _ => by decide) hc9) (cwV 1 hts gX5_times_X1_learn rfl rfl rfl (by decide +kernel) ⟨Nat.le_of_ble_eq_true rfl, Nat.le_of_ble_eq_true rfl⟩) ⟨xB_blind, va_recv hK hP (ci := 1) rfl (xw_is (by decide) fg8_n0), fun U hU hW => ⟨rfl, by rw [hU]; exact hP, va_K.moved hW.alike hK, va_Nw.warmM hW hN⟩⟩ rfl rfl hl.1 rfl (lv_room (Nat.le_of_ble_eq_true rfl)) dX5_times_74 ⟨Nat.le_of_ble_eq_true rfl, Nat.le_of_ble_eq_true rfl⟩) hS (fun _ _ h => h) (fun _ h => h) (fun g10 tZ H locs ht hvm hwg10 hB hzZ hkZ hS => ?_)
    obtain ⟨hP, -⟩ := hB
    rw [ht] at hP
    obtain ⟨d9, hd9, fg10_n0, fg10_n1, fg10_n2, hcg10⟩ := hwg10
    have fg10_k0 : g10 (10) = .inl (cI, 41, .inl (c10)) := (hcg10 (10) (by decide) (by decide) (by decide)).trans fg8_n2
    have fg10_k1 : g10 (0) = .inr (5, [.ref (ad (1)), .ref (ad (3)), .ref (ad (57)), .ref (ad (4)), .ref (ad (8)), .ref (ad (15)), .long (tp), .long (bt)]) := (hcg10 (0) (by decide) (by decide) (by decide)).trans fg8_k0
    have fg10_k2 : g10 (1) = .inr (0, [.ref (ad (2)), .int (nI (q)), .int (nI (Wt))]) := (hcg10 (1) (by decide) (by decide) (by decide)).trans fg8_k1
    have fg10_k3 : g10 (2) = .inl (cI, 4, .inl (f2)) := (hcg10 (2) (by decide) (by decide) (by decide)).trans fg8_k2
    have fg10_k4 : g10 (3) = .inl (cW, 8, .inr (.inr (.inr (.inr (f3))))) := (hcg10 (3) (by decide) (by decide) (by decide)).trans fg8_k3
    have fg10_k5 : g10 (b1) = .inr (4, [.ref (ad (b1 + 1)), .ref (ad (b1 + 2)), .ref (ad (b1 + 3)), .ref (ad (b1 + 4)), .int (nI (n1)), .int (nI (px q u1 n1)), .long (lZ ((ol1 : Int)))]) := (hcg10 (b1) (by omega) (by omega) (by omega)).trans fg8_k4
    have fg10_k6 : g10 (b1 + 1) = .inl (cI, 5, .inl (fl1)) := (hcg10 (b1 + 1) (by omega) (by omega) (by omega)).trans fg8_k5
    have fg10_k7 : g10 (b1 + 2) = .inl (cI, 6, .inl (fh1)) := (hcg10 (b1 + 2) (by omega) (by omega) (by omega)).trans fg8_k6
    have fg10_k8 : g10 (b1 + 3) = .inl (cI, 6, .inl (ft1)) := (hcg10 (b1 + 3) (by omega) (by omega) (by omega)).trans fg8_k7
    have fg10_k9 : g10 (b1 + 4) = .inl (cJ, 6, .inr (.inl (fs1))) := (hcg10 (b1 + 4) (by omega) (by omega) (by omega)).trans fg8_k8
    have fg10_k10 : g10 (11) = .inl (cI, 41, .inl (f11)) := (hcg10 (11) (by decide) (by decide) (by decide)).trans fg8_k9
    have fg10_k11 : g10 (na) = .inl (cJ, 186, .inr (.inl (fna))) := (hcg10 (na) (by omega) (by omega) (by omega)).trans fg8_k10
    have fg10_k12 : g10 (nb) = .inl (cJ, 186, .inr (.inl (fnb))) := (hcg10 (nb) (by omega) (by omega) (by omega)).trans fg8_k11
    have hfrg10 : ∀ j : Nat, j ≠ 8 → j ≠ 9 → j ≠ 10 → j ≠ 11 → j ≠ 12 → j ≠ 13 → j ≠ 14 → g10 j = g j := fun j h0 h1 h2 h3 h4 h5 h6 => (hcg10 j h0 h1 h4).trans (hfrg8 j h0 h1 h2 h3 h4 h5 h6)
    have hxB := lk0_B (u := u1) (n := n1)
    obtain ⟨hl1, hl2, -, -⟩ := lrn_B (u := u1) (nx := fun _ => 0) (S := 1) (by decide) (fun _ => by decide) n1
    have hd12 : ∀ j, j < 41 → (upd (c12) ((lrn u1 (fun _ => 0) 1 n1).2.2) (nI 1)) j = nI ((lk0 u1 n1).2.2.2.1 j) := upd_nI (g := fun _ => 0) hc12
    refine lv_aload_n hx hb dX5_times_77 rfl (lv_at hl 1 rfl) ?_
    refine xw_get hx hb hts hin5 hown hK hP (by decide) fg10_k1 rfl 4 (by decide) hf37 rfl rfl dX5_times_78 ?_
    refine lv_aload_n hx hb dX5_times_81 rfl (lv_at hl 1 rfl) ?_
    refine xw_get hx hb hts hin5 hown hK hP (by decide) fg10_k1 rfl 0 (by decide) hf12 rfl rfl dX5_times_82 ?_
    refine va_callv (va_runV (As := [.ref (ad (1))]) (rest := []) ⟨hx, hb, hml, hown, hts⟩ (mX1_link l hD (x0 := lk0 u1 n1) fg10_n0 fg10_k2 fg10_n1 fg10_k0 fg10_k10 fg10_n2 hq4 hxB (by omega) rfl rfl hd9 hc10 hd12) (cwV 1 hts gX5_times_X1_link rfl rfl rfl (by decide +kernel) ⟨Nat.le_of_ble_eq_true rfl, Nat.le_of_ble_eq_true rfl⟩) ⟨xB_blind, va_recv hK hP (ci := 1) rfl (xw_is (by decide) fg10_n0), fun U hU hW => ⟨rfl, by rw [hU]; exact hP, va_K.moved hW.alike hK, va_Nw.warmM hW hN⟩⟩ rfl rfl hl.1 rfl (lv_room (Nat.le_of_ble_eq_true rfl)) dX5_times_85 ⟨Nat.le_of_ble_eq_true rfl, Nat.le_of_ble_eq_true rfl⟩) hS (fun _ _ h => h) (fun _ h => h) (fun g12 tZ H locs ht hvm hwg12 hB hzZ hkZ hS => ?_)
    obtain ⟨hP, -⟩ := hB
    rw [ht] at hP
    obtain ⟨il, hil1, hil2, hil3, e9, e10, e11, e12, he9, he10, he11, he12, fg12_n0, fg12_n1, fg12_n2, fg12_n3, hcg12⟩ := hwg12
    have fg12_k0 : g12 (8) = .inr (1, [.ref (ad (9)), .ref (ad (10)), .ref (ad (11)), .ref (ad (12)), .ref (ad (na)), .ref (ad (nb)), .int (nI ((lrn u1 (fun _ => 0) 1 n1).2.1))]) := (hcg12 (8) (by decide) (by decide) (by decide) (by decide)).trans fg10_n0
    have fg12_k1 : g12 (0) = .inr (5, [.ref (ad (1)), .ref (ad (3)), .ref (ad (57)), .ref (ad (4)), .ref (ad (8)), .ref (ad (15)), .long (tp), .long (bt)]) := (hcg12 (0) (by decide) (by decide) (by decide) (by decide)).trans fg10_k1
    have fg12_k2 : g12 (1) = .inr (0, [.ref (ad (2)), .int (nI (q)), .int (nI (Wt))]) := (hcg12 (1) (by decide) (by decide) (by decide) (by decide)).trans fg10_k2
    have fg12_k3 : g12 (2) = .inl (cI, 4, .inl (f2)) := (hcg12 (2) (by decide) (by decide) (by decide) (by decide)).trans fg10_k3
    have fg12_k4 : g12 (3) = .inl (cW, 8, .inr (.inr (.inr (.inr (f3))))) := (hcg12 (3) (by decide) (by decide) (by decide) (by decide)).trans fg10_k4
    have fg12_k5 : g12 (b1) = .inr (4, [.ref (ad (b1 + 1)), .ref (ad (b1 + 2)), .ref (ad (b1 + 3)), .ref (ad (b1 + 4)), .int (nI (n1)), .int (nI (px q u1 n1)), .long (lZ ((ol1 : Int)))]) := (hcg12 (b1) (by omega) (by omega) (by omega) (by omega)).trans fg10_k5
    have fg12_k6 : g12 (b1 + 1) = .inl (cI, 5, .inl (fl1)) := (hcg12 (b1 + 1) (by omega) (by omega) (by omega) (by omega)).trans fg10_k6
    have fg12_k7 : g12 (b1 + 2) = .inl (cI, 6, .inl (fh1)) := (hcg12 (b1 + 2) (by omega) (by omega) (by omega) (by omega)).trans fg10_k7
    have fg12_k8 : g12 (b1 + 3) = .inl (cI, 6, .inl (ft1)) := (hcg12 (b1 + 3) (by omega) (by omega) (by omega) (by omega)).trans fg10_k8
    have fg12_k9 : g12 (b1 + 4) = .inl (cJ, 6, .inr (.inl (fs1))) := (hcg12 (b1 + 4) (by omega) (by omega) (by omega) (by omega)).trans fg10_k9
    have fg12_k10 : g12 (na) = .inl (cJ, 186, .inr (.inl (fna))) := (hcg12 (na) (by omega) (by omega) (by omega) (by omega)).trans fg10_k11
    have fg12_k11 : g12 (nb) = .inl (cJ, 186, .inr (.inl (fnb))) := (hcg12 (nb) (by omega) (by omega) (by omega) (by omega)).trans fg10_k12
    have hfrg12 : ∀ j : Nat, j ≠ 8 → j ≠ 9 → j ≠ 10 → j ≠ 11 → j ≠ 12 → j ≠ 13 → j ≠ 14 → g12 j = g j := fun j h0 h1 h2 h3 h4 h5 h6 => (hcg12 j h1 h2 h3 h4).trans (hfrg10 j h0 h1 h2 h3 h4 h5 h6)
    have hlF : lkO q (lk0 u1 n1) il = lkF q (lk0 u1 n1) := by unfold lkF; rw [lkI_eq hil1 hil2 hil3]
    rw [hlF] at he9 he10 he11 he12
    obtain ⟨hz1, hz2, hz3, hz4, hz5⟩ := lkF_B (q := q) hxB
    refine lv_iload hx hb dX5_times_88 (lv_at hl 5 rfl) ?_
    refine xi_if_eq (tgt := 108) hx hb (by decide) dX5_times_90 (by decide) (fun c0 => absurd c0 (by decide)) (fun _ => ?_)
    refine lv_aload_n hx hb dX5_times_93 rfl (lv_at hl 1 rfl) ?_
    refine xw_get hx hb hts hin5 hown hK hP (by decide) fg12_k1 rfl 4 (by decide) hf37 rfl rfl dX5_times_94 ?_
    refine lv_aload_n hx hb dX5_times_97 rfl (lv_at hl 1 rfl) ?_
    refine xw_get hx hb hts hin5 hown hK hP (by decide) fg12_k1 rfl 0 (by decide) hf12 rfl rfl dX5_times_98 ?_
    refine lv_iload_n hx hb dX5_times_101 rfl (lv_at hl 3 rfl) ?_
    refine lv_iload_n hx hb dX5_times_102 rfl (lv_at hl 4 rfl) ?_
    refine lv_iload_n hx hb dX5_times_103 rfl (lv_at hl 4 rfl) ?_
    refine va_calll (va_runV (As := [.ref (ad (1)), .int (nI (n0)), .int (nI (kq)), .int (nI (kq))]) (rest := []) ⟨hx, hb, hml, hown, hts⟩ (mX1_weigh l hD (nx := (lkF q (lk0 u1 n1)).1) (hv := (lkF q (lk0 u1 n1)).2.2.2.1) (S := (lrn u1 (fun _ => 0) 1 n1).2.1) (n0 := n0) (a0 := kq) (M1 := kq) fg12_k0 fg12_n0 fg12_n3 fg12_k2 fg12_k3 fg12_k10 fg12_k11 hq4 h2 hw hab (by omega) hz1 he9 hz4 he12 hn0 (by omega) (by omega) (Nat.le_trans (Nat.mul_le_mul (show (lrn u1 (fun _ => 0) 1 n1).2.1 ≤ 6 by omega) (show kq + 1 ≤ 31 by omega)) (by decide))) (cwV 4 hts gX5_times_X1_weigh rfl rfl rfl (by decide +kernel) ⟨Nat.le_of_ble_eq_true rfl, Nat.le_of_ble_eq_true rfl⟩) ⟨xB_blind, va_recv hK hP (ci := 1) rfl (xw_is (by decide) fg12_k0), fun U hU hW => ⟨rfl, by rw [hU]; exact hP, va_K.moved hW.alike hK, va_Nw.warmM hW hN⟩⟩ rfl rfl hl.1 rfl (lv_room (Nat.le_of_ble_eq_true rfl)) dX5_times_104 ⟨Nat.le_of_ble_eq_true rfl, Nat.le_of_ble_eq_true rfl⟩) hS (fun _ _ h => h) (fun _ h => h) (fun r1 gw tZ H locs ht1 hvm hwb hB hzZ hkZ hS => ?_)
    obtain ⟨hP, -⟩ := hB
    rw [ht1] at hP
    obtain ⟨er1, ⟨ca, cb, fx9, fy9, hcab9, fw8, fwa, fwb⟩, hcw⟩ := hwb
    subst er1
    have hfrgw : ∀ j : Nat, j ≠ 8 → j ≠ 9 → j ≠ 10 → j ≠ 11 → j ≠ 12 → j ≠ 13 → j ≠ 14 → gw j = g j := fun j h0 h1 h2 h3 h4 h5 h6 => (hcw j h0 h5 h6).trans (hfrg12 j h0 h1 h2 h3 h4 h5 h6)
    have fw_9 : gw (9) = .inl (cI, 164, .inl (e9)) := (hcw (9) (by decide) (by decide) (by decide)).trans fg12_n0
    have fw_10 : gw (10) = .inl (cI, 41, .inl (e10)) := (hcw (10) (by decide) (by decide) (by decide)).trans fg12_n1
    have fw_11 : gw (11) = .inl (cI, 41, .inl (e11)) := (hcw (11) (by decide) (by decide) (by decide)).trans fg12_n2
    have fw_12 : gw (12) = .inl (cZ, 41, .inl (e12)) := (hcw (12) (by decide) (by decide) (by decide)).trans fg12_n3
    have fw_1 : gw (1) = .inr (0, [.ref (ad (2)), .int (nI (q)), .int (nI (Wt))]) := (hcw (1) (by decide) (by decide) (by decide)).trans fg12_k2
    have fw_0 : gw (0) = .inr (5, [.ref (ad (1)), .ref (ad (3)), .ref (ad (57)), .ref (ad (4)), .ref (ad (8)), .ref (ad (15)), .long (tp), .long (bt)]) := (hcw (0) (by decide) (by decide) (by decide)).trans fg12_k1
    exact W.lret (v := lZ (tmW q w u1 n1 n0 kq kq)) hx hb hr (fun tZ ht hW => ⟨⟨_, gw, rfl, ⟨rfl, hC.mach (by rcases hcab9 with ⟨rfl, rfl⟩ | ⟨rfl, rfl⟩; exact ⟨_, _, _, _, _, _, 13, 14, _, Or.inl ⟨rfl, rfl⟩, fw8, fw_9, fw_10, fw_11, fw_12, fwa, fwb⟩; exact ⟨_, _, _, _, _, _, 14, 13, _, Or.inr ⟨rfl, rfl⟩, fw8, fw_9, fw_10, fw_11, fw_12, fwb, fwa⟩) (fun j hj => hfrgw j (by omega) (by omega) (by omega) (by omega) (by omega) (by omega) (by omega)), fun j hj => hfrgw j (by omega) (by omega) (by omega) (by omega) (by omega) (by omega) (by omega)⟩, by rw [ht]; exact hP, va_K.moved hW.alike hK, va_Nw.warmM hW hN⟩, hS.F ht⟩) hS.2.2 dX5_times_107

set_option maxHeartbeats 4000000 in
set_option maxRecDepth 100000 in
theorem mX5_times_m (l : Launch) {D : va_G} {cI cJ cZ cW : ClassId} {ad : Nat → Nat} {A : Nat → Prop} (hD : ∀ g, va_D A (xw 81 ad g)) {g : Nat → va_E} {q Wt : Nat} {w : Nat → Nat} {ln : Nat → Nat} {u : Nat → Nat → Nat} {T : Nat} {t : Nat → Nat} {tp bt : Int64} {k1 b1 n1 ol1 : Nat} {u1 sf1 : Nat → Nat} {n0 kq : Nat}  (hC : ClsI cI cJ cZ cW ad g q Wt w ln u T t tp bt) (hs : SrcI q Wt w ln u T t) (hk1 : k1 < 8) (eb1 : 17 + 5 * k1 = b1) (en1 : ln k1 = n1) (eu1 : u k1 = u1) (es1 : shr Wt w u1 n1 = sf1) (eo1 : ownL Wt w u1 n1 = ol1) (hp1 : 0 < n1) (hn0 : n0 ≤ 30) (hkq : kq ≤ n0) (hk1q : 1 ≤ kq) : Met l yX5_times wsX5_times ({ frames := 3, cells := 0, slots := 0, locals := 83 }) (va_Pc [.ref (ad (0)), .int (nI (k1)), .int (nI (n0)), .int (nI (kq)), .int (nI (0))] (xB D (xT cI cJ cZ cW) ad g)) (va_Ql (fun r g2 => r = lZ (((Wt ^ n0 : Nat) : Int) - tmW q w u1 n1 n0 0 (kq - 1)) ∧ ClsI cI cJ cZ cW ad g2 q Wt w ln u T t tp bt ∧ ∀ i : Nat, 62 ≤ i → g2 i = g i) (xB D (xT cI cJ cZ cW) ad) A) 0 0 A := by
  refine Met.ofW (cc := cX5_times) (maxL := 6) (ret := (some .long)) (by decide) rfl ?_
  intro p e s m args below meth c s₁ B hml hv
  obtain ⟨rfl, hP, hK, hN⟩ := hv
  have hx := B.exec
  have hb := B.bytes
  have hr := B.returns
  have hts := atoms_spec (ws := wsX5_times) B.pre
  have hown : s.vm.findClass RX5 = some m.cls := findClass_of_methodNamed B.named
  have hlocks := B.notSynchronized
  have hS : va_S A s.heap s.heap [] := va_S.rf
  have hin0 : ∀ w ∈ wsX00, w ∈ wsX5_times := by decide +kernel
  have hin5 : ∀ w ∈ wsX50, w ∈ wsX5_times := by decide +kernel
  have hf12 := hts (.fieldLink RX5 12 "LettersByLot" "lot" "LLettersByLot$Lot;") (by decide +kernel)
  have hf37 := hts (.fieldLink RX5 37 "LettersByLot" "machine" "LLettersByLot$Machine;") (by decide +kernel)
  have hf63 := hts (.fieldLink RX5 63 "LettersByLot$Lot" "total" "I") (by decide +kernel)
  have hl := lv_entry ([.ref (ad (0)), .int (nI (k1)), .int (nI (n0)), .int (nI (kq)), .int (nI (0))]) (n := 6) (Nat.le_of_ble_eq_true rfl)
  rw [lg_entry_eq]
  generalize (lg_sl ([.ref (ad (0)), .int (nI (k1)), .int (nI (n0)), .int (nI (kq)), .int (nI (0))]) ++ List.replicate (6 - (lg_sl ([.ref (ad (0)), .int (nI (k1)), .int (nI (n0)), .int (nI (kq)), .int (nI (0))])).length) Slot.unset).toArray = ls at hl ⊢
  have hl : lv_has ls 6 [(0, .ref (ad (0))), (1, .int (nI (k1))), (2, .int (nI (n0))), (3, .int (nI (kq))), (4, .int (nI (0)))] := hl
  obtain ⟨hq2, hq4, hw1, hw0, hWs, hWt, hw, hln, hul, hT, ht⟩ := hs
  obtain ⟨fo_0, ⟨f2, fo_1, fa_2, h2⟩, ⟨f3, fa_3, h3⟩, hRace, hMach, ⟨f16, fo15, fa16, h16⟩, hwd, hcand⟩ := id hC
  have hWp : 1 ≤ Wt ∧ Wt ≤ 4 := by have h8 := hw1 0 (by omega); have h9 := wsum_mono (w := w) (show 1 ≤ q by omega); have h7 : wsum w 1 = 0 + w 0 := rfl; omega
  obtain ⟨f5r, f6r, f7r, szr, fo4, fa5, fa6, fa7⟩ := hRace
  obtain ⟨fl1, fh1, ft1, fs1, fo1, fal1, fah1, fat1, fas1, hfl1, hfh1, hft1, hfs1⟩ := cw_pos hwd hk1 eb1 en1 eu1 es1 eo1 hp1
  have hb1 : b1 + 4 < 81 := by omega
  have hn1 : n1 ≤ 5 := en1 ▸ hln k1
  have hu1 : ∀ j, j < n1 → u1 j < q := fun j hj => by rw [← eu1]; exact hul k1 j (by rw [en1]; exact hj)
  have hwu1 : ∀ j, j < n1 → w (u1 j) ≤ 4 := fun j hj => hw _ (Nat.lt_of_lt_of_le (hu1 j hj) hq4)
  have hsf1 : ∀ k, k ≤ n1 → sf1 k ≤ 1024 := fun k hk => es1 ▸ shr_le hWt hwu1 hn1 hk
  have hs01 : 1 ≤ sf1 0 := es1 ▸ shr_0 (fun j hj => hw1 _ (hu1 j hj))
  have hol1 : ol1 ≤ 5120 := by rw [← eo1]; show lapS (shr Wt w u1 n1) u1 n1 u1 n1 5 ≤ 5120; rw [es1]; exact lapS_le hsf1 5
  have hb171 : 17 ≤ b1 := by omega
  obtain ⟨f9, f10, f11, f12, f13, f14, na, nb, stq, hab, fo8, fa9, fa10, fa11, fa12, fa13, fa14⟩ := id hMach
  have fana : ∃ fx : Nat → Int64, g na = .inl (cJ, 186, .inr (.inl fx)) := by rcases hab with ⟨rfl, rfl⟩ | ⟨rfl, rfl⟩; exact ⟨_, fa13⟩; exact ⟨_, fa14⟩
  have fanb : ∃ fx : Nat → Int64, g nb = .inl (cJ, 186, .inr (.inl fx)) := by rcases hab with ⟨rfl, rfl⟩ | ⟨rfl, rfl⟩; exact ⟨_, fa14⟩; exact ⟨_, fa13⟩
  obtain ⟨fna, fana⟩ := fana
  obtain ⟨fnb, fanb⟩ := fanb
  refine lv_aload_n hx hb dX5_times_0 rfl (lv_at hl 0 rfl) ?_
  refine lv_iload_n hx hb dX5_times_1 rfl (lv_at hl 1 rfl) ?_
  refine va_csq (va_Run.run (va_runV (As := [.int (nI (k1))]) (rest := []) ⟨hx, hb, hml, hown, hts⟩ (mX5_wordIn_yes l fo_0 fa_3 fo1 h3 hk1 eb1 hp1 hn1) (cwV 1 hts gX5_times_X5_wordIn rfl rfl rfl (by decide +kernel) ⟨Nat.le_of_ble_eq_true rfl, Nat.le_of_ble_eq_true rfl⟩) ⟨xB_blind, va_recv hK hP (ci := 5) rfl (xw_is (by decide) fo_0), fun U hU hW => ⟨rfl, by rw [hU]; exact hP, va_K.moved hW.alike hK, va_Nw.warmM hW hN⟩⟩ rfl rfl hl.1 rfl (lv_room (Nat.le_of_ble_eq_true rfl)) dX5_times_2 ⟨Nat.le_of_ble_eq_true rfl, Nat.le_of_ble_eq_true rfl⟩)) (fun r1 er1 => ?_)
  subst er1
  refine W.eq (g2 := F0 m 5 ls (.ref (ad (b1)) :: [])) rfl ?_
  refine lv_astore (lv' := [(5, .ref (ad (b1))), (0, .ref (ad (0))), (1, .int (nI (k1))), (2, .int (nI (n0))), (3, .int (nI (kq))), (4, .int (nI (0)))]) hx hb dX5_times_5 hl (by decide) rfl (fun ls hl => ?_)
  refine lv_aload hx hb dX5_times_7 (lv_at hl 0 rfl) ?_
  refine lv_ifnull hx hb dX5_times_9 ?_
  refine lv_iload_n hx hb dX5_times_12 rfl (lv_at hl 3 rfl) ?_
  refine vp_callSi (va_Run.run (va_runS (As := [.int (nI (n0))]) (rest := []) ⟨hx, hb, hml, hown, hts⟩ (mX5_isCounted_in l hn0) (va_cwS 1 hts gX5_times_X5_isCounted rfl rfl rfl (by decide +kernel) ⟨Nat.le_of_ble_eq_true rfl, Nat.le_of_ble_eq_true rfl⟩) ⟨xB_blind, fun U hU hW => ⟨rfl, by rw [hU]; exact hP, va_K.moved hW.alike hK, va_Nw.warmM hW hN⟩⟩ rfl rfl hl.1 rfl (lv_room (Nat.le_of_ble_eq_true rfl)) dX5_times_13 ⟨Nat.le_of_ble_eq_true rfl, Nat.le_of_ble_eq_true rfl⟩)) (fun r2 er2 => ?_)
  subst er2
  refine xi_if_ne (tgt := 23) hx hb (by decide) dX5_times_16 (by decide) (fun _ => ?_) (fun c0 => absurd c0 (by decide))
  refine lv_iload_n hx hb dX5_times_23 rfl (lv_at hl 4 rfl) ?_
  refine lv_iload_n hx hb dX5_times_24 rfl (lv_at hl 3 rfl) ?_
  refine xi_icmp_gt (tgt := 37) hx hb (by omega) (by omega) dX5_times_25 (by decide) (fun c25_4 => ?_) (fun c25_4 => ?_)
  · exact absurd c25_4 (by omega)
  · refine lv_iload hx hb dX5_times_28 (lv_at hl 5 rfl) ?_
    refine xi_if_eq (tgt := 39) hx hb (by decide) dX5_times_30 (by decide) (fun _ => ?_) (fun c0 => absurd c0 (by decide))
    refine lv_iload hx hb dX5_times_39 (lv_at hl 5 rfl) ?_
    refine xi_if_ne (tgt := 61) hx hb (by decide) dX5_times_41 (by decide) (fun c0 => absurd c0 (by decide)) (fun _ => ?_)
    refine lv_iload_n hx hb dX5_times_44 rfl (lv_at hl 4 rfl) ?_
    refine xi_if_gt (tgt := 61) hx hb (by omega) dX5_times_45 (by decide) (fun c45_7 => ?_) (fun c45_7 => ?_)
    · refine lv_aload_n hx hb dX5_times_61 rfl (lv_at hl 1 rfl) ?_
      refine xw_get hx hb hts hin5 hown hK hP (by decide) fo_0 rfl 4 (by decide) hf37 rfl rfl dX5_times_62 ?_
      refine va_callv (va_runV (As := []) (rest := []) ⟨hx, hb, hml, hown, hts⟩ (mX1_clear l hD fo8 fa9 fa10 fa12) (cwV 0 hts gX5_times_X1_clear rfl rfl rfl (by decide +kernel) ⟨Nat.le_of_ble_eq_true rfl, Nat.le_of_ble_eq_true rfl⟩) ⟨xB_blind, va_recv hK hP (ci := 1) rfl (xw_is (by decide) fo8), fun U hU hW => ⟨rfl, by rw [hU]; exact hP, va_K.moved hW.alike hK, va_Nw.warmM hW hN⟩⟩ rfl rfl hl.1 rfl (lv_room (Nat.le_of_ble_eq_true rfl)) dX5_times_65 ⟨Nat.le_of_ble_eq_true rfl, Nat.le_of_ble_eq_true rfl⟩) hS (fun _ _ h => h) (fun _ h => h) (fun g8 tZ H locs ht hvm hwg8 hB hzZ hkZ hS => ?_)
      obtain ⟨hP, -⟩ := hB
      rw [ht] at hP
      obtain ⟨c9, c10, c12, hc9, hc10, hc12, fg8_n0, fg8_n1, fg8_n2, fg8_n3, hcg8⟩ := hwg8
      have fg8_k0 : g8 (0) = .inr (5, [.ref (ad (1)), .ref (ad (3)), .ref (ad (57)), .ref (ad (4)), .ref (ad (8)), .ref (ad (15)), .long (tp), .long (bt)]) := (hcg8 (0) (by decide) (by decide) (by decide) (by decide)).trans fo_0
      have fg8_k1 : g8 (1) = .inr (0, [.ref (ad (2)), .int (nI (q)), .int (nI (Wt))]) := (hcg8 (1) (by decide) (by decide) (by decide) (by decide)).trans fo_1
      have fg8_k2 : g8 (2) = .inl (cI, 4, .inl (f2)) := (hcg8 (2) (by decide) (by decide) (by decide) (by decide)).trans fa_2
      have fg8_k3 : g8 (3) = .inl (cW, 8, .inr (.inr (.inr (.inr (f3))))) := (hcg8 (3) (by decide) (by decide) (by decide) (by decide)).trans fa_3
      have fg8_k4 : g8 (b1) = .inr (4, [.ref (ad (b1 + 1)), .ref (ad (b1 + 2)), .ref (ad (b1 + 3)), .ref (ad (b1 + 4)), .int (nI (n1)), .int (nI (px q u1 n1)), .long (lZ ((ol1 : Int)))]) := (hcg8 (b1) (by omega) (by omega) (by omega) (by omega)).trans fo1
      have fg8_k5 : g8 (b1 + 1) = .inl (cI, 5, .inl (fl1)) := (hcg8 (b1 + 1) (by omega) (by omega) (by omega) (by omega)).trans fal1
      have fg8_k6 : g8 (b1 + 2) = .inl (cI, 6, .inl (fh1)) := (hcg8 (b1 + 2) (by omega) (by omega) (by omega) (by omega)).trans fah1
      have fg8_k7 : g8 (b1 + 3) = .inl (cI, 6, .inl (ft1)) := (hcg8 (b1 + 3) (by omega) (by omega) (by omega) (by omega)).trans fat1
      have fg8_k8 : g8 (b1 + 4) = .inl (cJ, 6, .inr (.inl (fs1))) := (hcg8 (b1 + 4) (by omega) (by omega) (by omega) (by omega)).trans fas1
      have fg8_k9 : g8 (11) = .inl (cI, 41, .inl (f11)) := (hcg8 (11) (by decide) (by decide) (by decide) (by decide)).trans fa11
      have fg8_k10 : g8 (na) = .inl (cJ, 186, .inr (.inl (fna))) := (hcg8 (na) (by omega) (by omega) (by omega) (by omega)).trans fana
      have fg8_k11 : g8 (nb) = .inl (cJ, 186, .inr (.inl (fnb))) := (hcg8 (nb) (by omega) (by omega) (by omega) (by omega)).trans fanb
      have hfrg8 : ∀ j : Nat, j ≠ 8 → j ≠ 9 → j ≠ 10 → j ≠ 11 → j ≠ 12 → j ≠ 13 → j ≠ 14 → g8 j = g j := fun j h0 h1 h2 h3 h4 h5 h6 => (hcg8 j h0 h1 h2 h4).trans ((fun _ _ _ _ _ _ _ _ => rfl) j h0 h1 h2 h3 h4 h5 h6)
      refine lv_aload_n hx hb dX5_times_68 rfl (lv_at hl 1 rfl) ?_
      refine xw_get hx hb hts hin5 hown hK hP (by decide) fg8_k0 rfl 4 (by decide) hf37 rfl rfl dX5_times_69 ?_
      refine lv_aload hx hb dX5_times_72 (lv_at hl 0 rfl) ?_
      refine va_callv (va_runV (As := [.ref (ad (b1))]) (rest := []) ⟨hx, hb, hml, hown, hts⟩ (mX1_learn l hD (q := q) (nx := fun _ => 0) (S0 := 1) fg8_n0 fg8_n1 fg8_n3 fg8_k4 fg8_k5 hq4 hb1 hn1 hu1 hfl1 hb171 (by decide) (by omega) (fun _ => by decide) hc9) (cwV 1 hts gX5_times_X1_learn rfl rfl rfl (by decide +kernel) ⟨Nat.le_of_ble_eq_true rfl, Nat.le_of_ble_eq_true rfl⟩) ⟨xB_blind, va_recv hK hP (ci := 1) rfl (xw_is (by decide) fg8_n0), fun U hU hW => ⟨rfl, by rw [hU]; exact hP, va_K.moved hW.alike hK, va_Nw.warmM hW hN⟩⟩ rfl rfl hl.1 rfl (lv_room (Nat.le_of_ble_eq_true rfl)) dX5_times_74 ⟨Nat.le_of_ble_eq_true rfl, Nat.le_of_ble_eq_true rfl⟩) hS (fun _ _ h => h) (fun _ h => h) (fun g10 tZ H locs ht hvm hwg10 hB hzZ hkZ hS => ?_)
      obtain ⟨hP, -⟩ := hB
      rw [ht] at hP
      obtain ⟨d9, hd9, fg10_n0, fg10_n1, fg10_n2, hcg10⟩ := hwg10
      have fg10_k0 : g10 (10) = .inl (cI, 41, .inl (c10)) := (hcg10 (10) (by decide) (by decide) (by decide)).trans fg8_n2
      have fg10_k1 : g10 (0) = .inr (5, [.ref (ad (1)), .ref (ad (3)), .ref (ad (57)), .ref (ad (4)), .ref (ad (8)), .ref (ad (15)), .long (tp), .long (bt)]) := (hcg10 (0) (by decide) (by decide) (by decide)).trans fg8_k0
      have fg10_k2 : g10 (1) = .inr (0, [.ref (ad (2)), .int (nI (q)), .int (nI (Wt))]) := (hcg10 (1) (by decide) (by decide) (by decide)).trans fg8_k1
      have fg10_k3 : g10 (2) = .inl (cI, 4, .inl (f2)) := (hcg10 (2) (by decide) (by decide) (by decide)).trans fg8_k2
      have fg10_k4 : g10 (3) = .inl (cW, 8, .inr (.inr (.inr (.inr (f3))))) := (hcg10 (3) (by decide) (by decide) (by decide)).trans fg8_k3
      have fg10_k5 : g10 (b1) = .inr (4, [.ref (ad (b1 + 1)), .ref (ad (b1 + 2)), .ref (ad (b1 + 3)), .ref (ad (b1 + 4)), .int (nI (n1)), .int (nI (px q u1 n1)), .long (lZ ((ol1 : Int)))]) := (hcg10 (b1) (by omega) (by omega) (by omega)).trans fg8_k4
      have fg10_k6 : g10 (b1 + 1) = .inl (cI, 5, .inl (fl1)) := (hcg10 (b1 + 1) (by omega) (by omega) (by omega)).trans fg8_k5
      have fg10_k7 : g10 (b1 + 2) = .inl (cI, 6, .inl (fh1)) := (hcg10 (b1 + 2) (by omega) (by omega) (by omega)).trans fg8_k6
      have fg10_k8 : g10 (b1 + 3) = .inl (cI, 6, .inl (ft1)) := (hcg10 (b1 + 3) (by omega) (by omega) (by omega)).trans fg8_k7
      have fg10_k9 : g10 (b1 + 4) = .inl (cJ, 6, .inr (.inl (fs1))) := (hcg10 (b1 + 4) (by omega) (by omega) (by omega)).trans fg8_k8
      have fg10_k10 : g10 (11) = .inl (cI, 41, .inl (f11)) := (hcg10 (11) (by decide) (by decide) (by decide)).trans fg8_k9
      have fg10_k11 : g10 (na) = .inl (cJ, 186, .inr (.inl (fna))) := (hcg10 (na) (by omega) (by omega) (by omega)).trans fg8_k10
      have fg10_k12 : g10 (nb) = .inl (cJ, 186, .inr (.inl (fnb))) := (hcg10 (nb) (by omega) (by omega) (by omega)).trans fg8_k11
      have hfrg10 : ∀ j : Nat, j ≠ 8 → j ≠ 9 → j ≠ 10 → j ≠ 11 → j ≠ 12 → j ≠ 13 → j ≠ 14 → g10 j = g j := fun j h0 h1 h2 h3 h4 h5 h6 => (hcg10 j h0 h1 h4).trans (hfrg8 j h0 h1 h2 h3 h4 h5 h6)
      have hxB := lk0_B (u := u1) (n := n1)
      obtain ⟨hl1, hl2, -, -⟩ := lrn_B (u := u1) (nx := fun _ => 0) (S := 1) (by decide) (fun _ => by decide) n1
      have hd12 : ∀ j, j < 41 → (upd (c12) ((lrn u1 (fun _ => 0) 1 n1).2.2) (nI 1)) j = nI ((lk0 u1 n1).2.2.2.1 j) := upd_nI (g := fun _ => 0) hc12
      refine lv_aload_n hx hb dX5_times_77 rfl (lv_at hl 1 rfl) ?_
      refine xw_get hx hb hts hin5 hown hK hP (by decide) fg10_k1 rfl 4 (by decide) hf37 rfl rfl dX5_times_78 ?_
      refine lv_aload_n hx hb dX5_times_81 rfl (lv_at hl 1 rfl) ?_
      refine xw_get hx hb hts hin5 hown hK hP (by decide) fg10_k1 rfl 0 (by decide) hf12 rfl rfl dX5_times_82 ?_
      refine va_callv (va_runV (As := [.ref (ad (1))]) (rest := []) ⟨hx, hb, hml, hown, hts⟩ (mX1_link l hD (x0 := lk0 u1 n1) fg10_n0 fg10_k2 fg10_n1 fg10_k0 fg10_k10 fg10_n2 hq4 hxB (by omega) rfl rfl hd9 hc10 hd12) (cwV 1 hts gX5_times_X1_link rfl rfl rfl (by decide +kernel) ⟨Nat.le_of_ble_eq_true rfl, Nat.le_of_ble_eq_true rfl⟩) ⟨xB_blind, va_recv hK hP (ci := 1) rfl (xw_is (by decide) fg10_n0), fun U hU hW => ⟨rfl, by rw [hU]; exact hP, va_K.moved hW.alike hK, va_Nw.warmM hW hN⟩⟩ rfl rfl hl.1 rfl (lv_room (Nat.le_of_ble_eq_true rfl)) dX5_times_85 ⟨Nat.le_of_ble_eq_true rfl, Nat.le_of_ble_eq_true rfl⟩) hS (fun _ _ h => h) (fun _ h => h) (fun g12 tZ H locs ht hvm hwg12 hB hzZ hkZ hS => ?_)
      obtain ⟨hP, -⟩ := hB
      rw [ht] at hP
      obtain ⟨il, hil1, hil2, hil3, e9, e10, e11, e12, he9, he10, he11, he12, fg12_n0, fg12_n1, fg12_n2, fg12_n3, hcg12⟩ := hwg12
      have fg12_k0 : g12 (8) = .inr (1, [.ref (ad (9)), .ref (ad (10)), .ref (ad (11)), .ref (ad (12)), .ref (ad (na)), .ref (ad (nb)), .int (nI ((lrn u1 (fun _ => 0) 1 n1).2.1))]) := (hcg12 (8) (by decide) (by decide) (by decide) (by decide)).trans fg10_n0
      have fg12_k1 : g12 (0) = .inr (5, [.ref (ad (1)), .ref (ad (3)), .ref (ad (57)), .ref (ad (4)), .ref (ad (8)), .ref (ad (15)), .long (tp), .long (bt)]) := (hcg12 (0) (by decide) (by decide) (by decide) (by decide)).trans fg10_k1
      have fg12_k2 : g12 (1) = .inr (0, [.ref (ad (2)), .int (nI (q)), .int (nI (Wt))]) := (hcg12 (1) (by decide) (by decide) (by decide) (by decide)).trans fg10_k2
      have fg12_k3 : g12 (2) = .inl (cI, 4, .inl (f2)) := (hcg12 (2) (by decide) (by decide) (by decide) (by decide)).trans fg10_k3
      have fg12_k4 : g12 (3) = .inl (cW, 8, .inr (.inr (.inr (.inr (f3))))) := (hcg12 (3) (by decide) (by decide) (by decide) (by decide)).trans fg10_k4
      have fg12_k5 : g12 (b1) = .inr (4, [.ref (ad (b1 + 1)), .ref (ad (b1 + 2)), .ref (ad (b1 + 3)), .ref (ad (b1 + 4)), .int (nI (n1)), .int (nI (px q u1 n1)), .long (lZ ((ol1 : Int)))]) := (hcg12 (b1) (by omega) (by omega) (by omega) (by omega)).trans fg10_k5
      have fg12_k6 : g12 (b1 + 1) = .inl (cI, 5, .inl (fl1)) := (hcg12 (b1 + 1) (by omega) (by omega) (by omega) (by omega)).trans fg10_k6
      have fg12_k7 : g12 (b1 + 2) = .inl (cI, 6, .inl (fh1)) := (hcg12 (b1 + 2) (by omega) (by omega) (by omega) (by omega)).trans fg10_k7
      have fg12_k8 : g12 (b1 + 3) = .inl (cI, 6, .inl (ft1)) := (hcg12 (b1 + 3) (by omega) (by omega) (by omega) (by omega)).trans fg10_k8
      have fg12_k9 : g12 (b1 + 4) = .inl (cJ, 6, .inr (.inl (fs1))) := (hcg12 (b1 + 4) (by omega) (by omega) (by omega) (by omega)).trans fg10_k9
      have fg12_k10 : g12 (na) = .inl (cJ, 186, .inr (.inl (fna))) := (hcg12 (na) (by omega) (by omega) (by omega) (by omega)).trans fg10_k11
      have fg12_k11 : g12 (nb) = .inl (cJ, 186, .inr (.inl (fnb))) := (hcg12 (nb) (by omega) (by omega) (by omega) (by omega)).trans fg10_k12
      have hfrg12 : ∀ j : Nat, j ≠ 8 → j ≠ 9 → j ≠ 10 → j ≠ 11 → j ≠ 12 → j ≠ 13 → j ≠ 14 → g12 j = g j := fun j h0 h1 h2 h3 h4 h5 h6 => (hcg12 j h1 h2 h3 h4).trans (hfrg10 j h0 h1 h2 h3 h4 h5 h6)
      have hlF : lkO q (lk0 u1 n1) il = lkF q (lk0 u1 n1) := by unfold lkF; rw [lkI_eq hil1 hil2 hil3]
      rw [hlF] at he9 he10 he11 he12
      obtain ⟨hz1, hz2, hz3, hz4, hz5⟩ := lkF_B (q := q) hxB
      refine lv_iload hx hb dX5_times_88 (lv_at hl 5 rfl) ?_
      refine xi_if_eq (tgt := 108) hx hb (by decide) dX5_times_90 (by decide) (fun _ => ?_) (fun c0 => absurd c0 (by decide))
      refine lv_aload_n hx hb dX5_times_108 rfl (lv_at hl 1 rfl) ?_
      refine xw_get hx hb hts hin5 hown hK hP (by decide) fg12_k1 rfl 0 (by decide) hf12 rfl rfl dX5_times_109 ?_
      refine xw_get hx hb hts hin0 hown hK hP (by decide) fg12_k2 rfl 2 (by decide) hf63 rfl rfl dX5_times_112 ?_
      refine xi_i2l hx hb (by omega) dX5_times_115 ?_
      refine lv_iload_n hx hb dX5_times_116 rfl (lv_at hl 3 rfl) ?_
      refine vp_callSl (va_Run.run (va_runS (As := [.long (lZ (((Wt : Nat) : Int))), .int (nI (n0))]) (rest := []) ⟨hx, hb, hml, hown, hts⟩ (mX5_power l (b0 := Wt) (e0 := n0) (by omega)) (va_cwS 2 hts gX5_times_X5_power rfl rfl rfl (by decide +kernel) ⟨Nat.le_of_ble_eq_true rfl, Nat.le_of_ble_eq_true rfl⟩) ⟨xB_blind, fun U hU hW => ⟨rfl, by rw [hU]; exact hP, va_K.moved hW.alike hK, va_Nw.warmM hW hN⟩⟩ rfl rfl hl.1 rfl (lv_room (Nat.le_of_ble_eq_true rfl)) dX5_times_117 ⟨Nat.le_of_ble_eq_true rfl, Nat.le_of_ble_eq_true rfl⟩)) (fun r15 er15 => ?_)
      subst er15
      refine lv_aload_n hx hb dX5_times_120 rfl (lv_at hl 1 rfl) ?_
      refine xw_get hx hb hts hin5 hown hK hP (by decide) fg12_k1 rfl 4 (by decide) hf37 rfl rfl dX5_times_121 ?_
      refine lv_aload_n hx hb dX5_times_124 rfl (lv_at hl 1 rfl) ?_
      refine xw_get hx hb hts hin5 hown hK hP (by decide) fg12_k1 rfl 0 (by decide) hf12 rfl rfl dX5_times_125 ?_
      refine lv_iload_n hx hb dX5_times_128 rfl (lv_at hl 3 rfl) ?_
      refine lv_iconst (v := nI (0)) hx hb dX5_times_129 (by decide) ?_
      refine lv_iload_n hx hb dX5_times_130 rfl (lv_at hl 4 rfl) ?_
      refine lv_iconst (v := nI (1)) hx hb dX5_times_131 (by decide) ?_
      refine xi_sub hx hb (by omega) dX5_times_132 ?_
      refine va_calll (va_runV (As := [.ref (ad (1)), .int (nI (n0)), .int (nI (0)), .int (nI (kq - 1))]) (rest := [.long (lZ (((Wt ^ n0 : Nat) : Int)))]) ⟨hx, hb, hml, hown, hts⟩ (mX1_weigh l hD (nx := (lkF q (lk0 u1 n1)).1) (hv := (lkF q (lk0 u1 n1)).2.2.2.1) (S := (lrn u1 (fun _ => 0) 1 n1).2.1) (n0 := n0) (a0 := 0) (M1 := (kq - 1)) fg12_k0 fg12_n0 fg12_n3 fg12_k2 fg12_k3 fg12_k10 fg12_k11 hq4 h2 hw hab (by omega) hz1 he9 hz4 he12 hn0 (by omega) (by omega) (Nat.le_trans (Nat.mul_le_mul (show (lrn u1 (fun _ => 0) 1 n1).2.1 ≤ 6 by omega) (show (kq - 1) + 1 ≤ 31 by omega)) (by decide))) (cwV 4 hts gX5_times_X1_weigh rfl rfl rfl (by decide +kernel) ⟨Nat.le_of_ble_eq_true rfl, Nat.le_of_ble_eq_true rfl⟩) ⟨xB_blind, va_recv hK hP (ci := 1) rfl (xw_is (by decide) fg12_k0), fun U hU hW => ⟨rfl, by rw [hU]; exact hP, va_K.moved hW.alike hK, va_Nw.warmM hW hN⟩⟩ rfl rfl hl.1 rfl (lv_room (Nat.le_of_ble_eq_true rfl)) dX5_times_133 ⟨Nat.le_of_ble_eq_true rfl, Nat.le_of_ble_eq_true rfl⟩) hS (fun _ _ h => h) (fun _ h => h) (fun r1 gw tZ H locs ht1 hvm hwb hB hzZ hkZ hS => ?_)
      obtain ⟨hP, -⟩ := hB
      rw [ht1] at hP
      obtain ⟨er1, ⟨ca, cb, fx9, fy9, hcab9, fw8, fwa, fwb⟩, hcw⟩ := hwb
      subst er1
      have hfrgw : ∀ j : Nat, j ≠ 8 → j ≠ 9 → j ≠ 10 → j ≠ 11 → j ≠ 12 → j ≠ 13 → j ≠ 14 → gw j = g j := fun j h0 h1 h2 h3 h4 h5 h6 => (hcw j h0 h5 h6).trans (hfrg12 j h0 h1 h2 h3 h4 h5 h6)
      have fw_9 : gw (9) = .inl (cI, 164, .inl (e9)) := (hcw (9) (by decide) (by decide) (by decide)).trans fg12_n0
      have fw_10 : gw (10) = .inl (cI, 41, .inl (e10)) := (hcw (10) (by decide) (by decide) (by decide)).trans fg12_n1
      have fw_11 : gw (11) = .inl (cI, 41, .inl (e11)) := (hcw (11) (by decide) (by decide) (by decide)).trans fg12_n2
      have fw_12 : gw (12) = .inl (cZ, 41, .inl (e12)) := (hcw (12) (by decide) (by decide) (by decide)).trans fg12_n3
      have fw_1 : gw (1) = .inr (0, [.ref (ad (2)), .int (nI (q)), .int (nI (Wt))]) := (hcw (1) (by decide) (by decide) (by decide)).trans fg12_k2
      have fw_0 : gw (0) = .inr (5, [.ref (ad (1)), .ref (ad (3)), .ref (ad (57)), .ref (ad (4)), .ref (ad (8)), .ref (ad (15)), .long (tp), .long (bt)]) := (hcw (0) (by decide) (by decide) (by decide)).trans fg12_k1
      refine xl_sub hx hb dX5_times_136 ?_
      exact W.lret (v := lZ ((((Wt ^ n0 : Nat) : Int)) - (tmW q w u1 n1 n0 0 (kq - 1)))) hx hb hr (fun tZ ht hW => ⟨⟨_, gw, rfl, ⟨rfl, hC.mach (by rcases hcab9 with ⟨rfl, rfl⟩ | ⟨rfl, rfl⟩; exact ⟨_, _, _, _, _, _, 13, 14, _, Or.inl ⟨rfl, rfl⟩, fw8, fw_9, fw_10, fw_11, fw_12, fwa, fwb⟩; exact ⟨_, _, _, _, _, _, 14, 13, _, Or.inr ⟨rfl, rfl⟩, fw8, fw_9, fw_10, fw_11, fw_12, fwb, fwa⟩) (fun j hj => hfrgw j (by omega) (by omega) (by omega) (by omega) (by omega) (by omega) (by omega)), fun j hj => hfrgw j (by omega) (by omega) (by omega) (by omega) (by omega) (by omega) (by omega)⟩, by rw [ht]; exact hP, va_K.moved hW.alike hK, va_Nw.warmM hW hN⟩, hS.F ht⟩) hS.2.2 dX5_times_137
    · exact absurd c45_7 (by omega)

set_option maxHeartbeats 4000000 in
set_option maxRecDepth 100000 in
/-- times, no WORD -/
theorem mX5_times_no (l : Launch) {D : va_G} {cI cJ cZ cW : ClassId} {ad : Nat → Nat} {A : Nat → Prop} (hD : ∀ g, va_D A (xw 81 ad g)) {g : Nat → va_E} {q Wt : Nat} {w : Nat → Nat} {ln : Nat → Nat} {u : Nat → Nat → Nat} {T : Nat} {t : Nat → Nat} {tp bt : Int64} {xa x0 kk bb : Int32}  (hC : ClsI cI cJ cZ cW ad g q Wt w ln u T t tp bt) (hs : SrcI q Wt w ln u T t) (hxa : noW ln xa) : Met l yX5_times wsX5_times ({ frames := 3, cells := 0, slots := 0, locals := 83 }) (va_Pc [.ref (ad (0)), .int (xa), .int (x0), .int (kk), .int (bb)] (xB D (xT cI cJ cZ cW) ad g)) (va_Ql (fun r g2 => r = -1 ∧ ClsI cI cJ cZ cW ad g2 q Wt w ln u T t tp bt ∧ ∀ i : Nat, 62 ≤ i → g2 i = g i) (xB D (xT cI cJ cZ cW) ad) A) 0 0 A := by
  refine Met.ofW (cc := cX5_times) (maxL := 6) (ret := (some .long)) (by decide) rfl ?_
  intro p e s m args below meth c s₁ B hml hv
  obtain ⟨rfl, hP, hK, hN⟩ := hv
  have hx := B.exec
  have hb := B.bytes
  have hr := B.returns
  have hts := atoms_spec (ws := wsX5_times) B.pre
  have hown : s.vm.findClass RX5 = some m.cls := findClass_of_methodNamed B.named
  have hlocks := B.notSynchronized
  have hS : va_S A s.heap s.heap [] := va_S.rf
  have hl := lv_entry ([.ref (ad (0)), .int (xa), .int (x0), .int (kk), .int (bb)]) (n := 6) (Nat.le_of_ble_eq_true rfl)
  rw [lg_entry_eq]
  generalize (lg_sl ([.ref (ad (0)), .int (xa), .int (x0), .int (kk), .int (bb)]) ++ List.replicate (6 - (lg_sl ([.ref (ad (0)), .int (xa), .int (x0), .int (kk), .int (bb)])).length) Slot.unset).toArray = ls at hl ⊢
  have hl : lv_has ls 6 [(0, .ref (ad (0))), (1, .int (xa)), (2, .int (x0)), (3, .int (kk)), (4, .int (bb))] := hl
  obtain ⟨hq2, hq4, hw1, hw0, hWs, hWt, hw, hln, hul, hT, ht⟩ := hs
  obtain ⟨fo_0, ⟨f2, fo_1, fa_2, h2⟩, ⟨f3, fa_3, h3⟩, hRace, hMach, ⟨f16, fo15, fa16, h16⟩, hwd, hcand⟩ := id hC
  have hWp : 1 ≤ Wt ∧ Wt ≤ 4 := by have h8 := hw1 0 (by omega); have h9 := wsum_mono (w := w) (show 1 ≤ q by omega); have h7 : wsum w 1 = 0 + w 0 := rfl; omega
  obtain ⟨f5r, f6r, f7r, szr, fo4, fa5, fa6, fa7⟩ := hRace
  refine lv_aload_n hx hb dX5_times_0 rfl (lv_at hl 0 rfl) ?_
  refine lv_iload_n hx hb dX5_times_1 rfl (lv_at hl 1 rfl) ?_
  refine va_csq (va_Run.run (va_runV (As := [.int (xa)]) (rest := []) ⟨hx, hb, hml, hown, hts⟩ (mX5_wordIn_no l fo_0 fa_3 h3 hwd hxa) (cwV 1 hts gX5_times_X5_wordIn rfl rfl rfl (by decide +kernel) ⟨Nat.le_of_ble_eq_true rfl, Nat.le_of_ble_eq_true rfl⟩) ⟨xB_blind, va_recv hK hP (ci := 5) rfl (xw_is (by decide) fo_0), fun U hU hW => ⟨rfl, by rw [hU]; exact hP, va_K.moved hW.alike hK, va_Nw.warmM hW hN⟩⟩ rfl rfl hl.1 rfl (lv_room (Nat.le_of_ble_eq_true rfl)) dX5_times_2 ⟨Nat.le_of_ble_eq_true rfl, Nat.le_of_ble_eq_true rfl⟩)) (fun r1 er1 => ?_)
  subst er1
  refine W.eq (g2 := F0 m 5 ls (.null :: [])) rfl ?_
  refine lv_astoreN (lv' := [(5, .null), (0, .ref (ad (0))), (1, .int (xa)), (2, .int (x0)), (3, .int (kk)), (4, .int (bb))]) hx hb dX5_times_5 hl (by decide) rfl (fun ls hl => ?_)
  refine lv_aloadN hx hb dX5_times_7 (lv_at hl 0 rfl) ?_
  refine lv_ifnullN (tgt := 19) hx hb dX5_times_9 (by decide) ?_
  refine lv_ldc2 (v := lZ (-1)) hx hb hown (hts (.constantLong RX5 159 (-1)) (by decide +kernel)) dX5_times_19 ?_
  exact W.lret (v := lZ (-1)) hx hb hr (fun tZ ht hW => ⟨⟨_, g, rfl, ⟨rfl, hC, fun _ _ => rfl⟩, by rw [ht]; exact hP, va_K.moved hW.alike hK, va_Nw.warmM hW hN⟩, hS.F ht⟩) hS.2.2 dX5_times_22
