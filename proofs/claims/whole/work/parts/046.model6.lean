/-- a WORD's LEAD on itself, of the laps of more than j letters -/
def pwn (Wt : Nat) (w u : Nat → Nat) (n j : Nat) : Rat := Rat.divInt (((lapS (shr Wt w u n) u n u n 5 : Nat) : Int) - ((lapS (shr Wt w u n) u n u n j : Nat) : Int)) ((shr Wt w u n 0 : Nat) : Int)
theorem lapS_big {f u v : Nat → Nat} {n m k : Nat} (h : min n m ≤ k) : lapS f u n v m k = lapS f u n v m (min n m) := by
  rw [← lapS_end (f := f) (u := u) (v := v) (k - min n m) (min n m) (Nat.le_refl _), show min n m + (k - min n m) = k by omega]
theorem pwn_0 {Wt : Nat} {w u : Nat → Nat} {n j : Nat} (hn : n ≤ 5) (hj : n ≤ j) : pwn Wt w u n j = 0 := by
  unfold pwn
  rw [lapS_big (k := 5) (by omega), lapS_big (k := j) (by omega), Int.sub_self, Rat.zero_divInt]
theorem pwn_e {Wt : Nat} {w u : Nat → Nat} {n : Nat} : pwn Wt w u n 0 = fMean Wt w u n := by
  unfold pwn
  rw [show lapS (shr Wt w u n) u n u n 0 = 0 from rfl]
  show Rat.divInt (_ - 0) _ = _
  rw [Int.sub_zero]
  rfl
theorem pwn_n {Wt : Nat} {w u : Nat → Nat} {n j : Nat} (h : ¬ (j + 1 ≤ n ∧ lapD u n u (j + 1))) : pwn Wt w u n (j + 1) = pwn Wt w u n j := by
  unfold pwn
  have e : lapS (shr Wt w u n) u n u n (j + 1) = lapS (shr Wt w u n) u n u n j + (if j + 1 ≤ n ∧ j + 1 ≤ n ∧ lapD u n u (j + 1) then shr Wt w u n (j + 1) else 0) := rfl
  rw [e, if_neg (fun h2 => h h2.2), Nat.add_zero]
theorem pwn_y {Wt : Nat} {w u : Nat → Nat} {n j : Nat} (hw : ∀ j, j < n → 1 ≤ w (u j)) (h : j + 1 ≤ n ∧ lapD u n u (j + 1)) : pwn Wt w u n (j + 1) + Rat.divInt ((Wt ^ (j + 1) : Nat) : Int) ((wfr w u (j + 1) : Nat) : Int) = pwn Wt w u n j := by
  rw [over_eq hw h.1]
  unfold pwn
  have e : lapS (shr Wt w u n) u n u n (j + 1) = lapS (shr Wt w u n) u n u n j + (if j + 1 ≤ n ∧ j + 1 ≤ n ∧ lapD u n u (j + 1) then shr Wt w u n (j + 1) else 0) := rfl
  rw [e, if_pos ⟨h.1, h⟩, divInt_add (shr_0 hw), Int.natCast_add]
  congr 1
  omega
theorem pwn_fit {Wt : Nat} {w u : Nat → Nat} {n j : Nat} (hw : ∀ j, j < n → 1 ≤ w (u j)) (hw4 : ∀ j, j < n → w (u j) ≤ 4) (hW : Wt ≤ 4) (hn : n ≤ 5) (hj : j ≤ 300) : fitR (pwn Wt w u n j) := by
  have h0 := shr_0 (Wt := Wt) hw
  have h1 := shr_le (k := 0) hW hw4 hn (by omega)
  have h2 := lapS_le (f := shr Wt w u n) (u := u) (n := n) (v := u) (m := n) (B := 1024) (fun k hk => shr_le hW hw4 hn hk) 5
  have h3 := lapS_le (f := shr Wt w u n) (u := u) (n := n) (v := u) (m := n) (B := 1024) (fun k hk => shr_le hW hw4 hn hk) j
  exact fitR_d h0 (by omega) (by omega) (by omega)
theorem pwn_fitA {Wt : Nat} {w u : Nat → Nat} {n j : Nat} (hw : ∀ j, j < n → 1 ≤ w (u j)) (hw4 : ∀ j, j < n → w (u j) ≤ 4) (hW : Wt ≤ 4) (hn : n ≤ 5) (hj : j ≤ 300) {k : Nat} (hk : k ≤ n) : fitA (pwn Wt w u n j) (Rat.divInt ((Wt ^ k : Nat) : Int) ((wfr w u k : Nat) : Int)) := by
  have h0 := shr_0 (Wt := Wt) hw
  have h1 := shr_le (k := 0) hW hw4 hn (by omega)
  have h2 := lapS_le (f := shr Wt w u n) (u := u) (n := n) (v := u) (m := n) (B := 1024) (fun k hk => shr_le hW hw4 hn hk) 5
  have h3 := lapS_le (f := shr Wt w u n) (u := u) (n := n) (v := u) (m := n) (B := 1024) (fun k hk => shr_le hW hw4 hn hk) j
  have h4 := shr_le (k := k) hW hw4 hn hk
  rw [over_eq hw hk]
  exact fitA_d h0 (by omega) (by omega) (by omega)
set_option maxHeartbeats 4000000 in
set_option maxRecDepth 100000 in
theorem mX6_won_s (l : Launch) {D : va_G} {cI cJ cZ cW : ClassId} {ad : Nat → Nat} {A : Nat → Prop} (hD : ∀ g, va_D A (xw 81 ad g)) {g : Nat → va_E} {q Wt : Nat} {w : Nat → Nat} {ln : Nat → Nat} {u : Nat → Nat → Nat} {T : Nat} {t : Nat → Nat} {tp bt : Int64} {k1 : Nat}  (hM : ModI cI cJ ad g q Wt w ln u T t tp bt) (hs : SrcI q Wt w ln u T t) (hk1 : k1 < 8) (hp1 : 0 < ln k1) : Met l yX6_won wsX6_won ({ frames := 3, cells := 0, slots := 0, locals := 85 }) (va_Pc [.ref (ad (62)), .int (nI (k1))] (xB D (xT cI cJ cZ cW) ad g)) (va_Qi (fun r g2 => r = (if (oWon Wt w ln u T t (nI (k1))).isSome then 1 else 0) ∧ ModI cI cJ ad g2 q Wt w ln u T t (hTp (oWon Wt w ln u T t (nI (k1))) tp) (hBt (oWon Wt w ln u T t (nI (k1))) bt) ∧ ∀ j : Nat, j < 62 → g2 j = g j) (xB D (xT cI cJ cZ cW) ad) A) 0 0 A := by
  refine Met.ofW (cc := cX6_won) (maxL := 10) (ret := (some .boolean)) (by decide) rfl ?_
  intro p e s m args below meth c s₁ B hml hv
  obtain ⟨rfl, hP, hK, hN⟩ := hv
  have hx := B.exec
  have hb := B.bytes
  have hr := B.returns
  have hts := atoms_spec (ws := wsX6_won) B.pre
  have hown : s.vm.findClass RX6 = some m.cls := findClass_of_methodNamed B.named
  have hlocks := B.notSynchronized
  have hS : va_S A s.heap s.heap [] := va_S.rf
  have hin6 : ∀ w ∈ wsX60, w ∈ wsX6_won := by decide +kernel
  have hf20 := hts (.fieldLink RX6 20 "LettersByLotModel" "size" "[I") (by decide +kernel)
  have hf26 := hts (.fieldLink RX6 26 "LettersByLotModel" "text" "[I") (by decide +kernel)
  have hf106 := hts (.fieldLink RX6 106 "LettersByLotModel" "num" "J") (by decide +kernel)
  have hf109 := hts (.fieldLink RX6 109 "LettersByLotModel" "den" "J") (by decide +kernel)
  have hl := lv_entry ([.ref (ad (62)), .int (nI (k1))]) (n := 10) (Nat.le_of_ble_eq_true rfl)
  rw [lg_entry_eq]
  generalize (lg_sl ([.ref (ad (62)), .int (nI (k1))]) ++ List.replicate (10 - (lg_sl ([.ref (ad (62)), .int (nI (k1))])).length) Slot.unset).toArray = ls at hl ⊢
  have hl : lv_has ls 10 [(0, .ref (ad (62))), (1, .int (nI (k1)))] := hl
  obtain ⟨hq2, hq4, hw1, hw0, hWs, hWt, hw, hln, hul, hT, ht⟩ := hs
  obtain ⟨sq, nu, de, fw, fsz, fwd, ftx, fos, foz, fgo, frw, fan, fad, frn, frd, fen, fed, fcn, fcd, fnw, fth, fo62, fa63, fa64, fa65, fa66, fa67, fa68, fa69, fa70, fa71, fa72, fa73, fa74, fa75, fa76, fa77, fa78, fa79, fa80, hfw, hsz, hwl, htx⟩ := id hM
  have hWp : 1 ≤ Wt ∧ Wt ≤ 4 := by have h8 := hw1 0 (by omega); have h9 := wsum_mono (w := w) (show 1 ≤ q by omega); have h7 : wsum w 1 = 0 + w 0 := rfl; omega
  have hwA : ∀ k j, j < ln k → 1 ≤ w (u k j) := fun k j hj => hw1 _ (hul k j hj)
  have hwB : ∀ k j, j < ln k → w (u k j) ≤ 4 := fun k j hj => hw _ (Nat.lt_of_lt_of_le (hul k j hj) hq4)
  have hn1 := hln k1
  refine lv_aload_n hx hb dX6_won_0 rfl (lv_at hl 0 rfl) ?_
  refine lv_iload_n hx hb dX6_won_1 rfl (lv_at hl 1 rfl) ?_
  refine vp_callSi (va_Run.run (va_runV (As := [.int (nI (k1))]) (rest := []) ⟨hx, hb, hml, hown, hts⟩ (mX6_isWord_yes l (w := w) (ln := ln) (t := t) (u := u) fo62 fa64 hsz hk1 hp1 (hln _)) (cwV 1 hts gX6_won_X6_isWord rfl rfl rfl (by decide +kernel) ⟨Nat.le_of_ble_eq_true rfl, Nat.le_of_ble_eq_true rfl⟩) ⟨xB_blind, va_recv hK hP (ci := 6) rfl (xw_is (by decide) fo62), fun U hU hW => ⟨rfl, by rw [hU]; exact hP, va_K.moved hW.alike hK, va_Nw.warmM hW hN⟩⟩ rfl rfl hl.1 rfl (lv_room (Nat.le_of_ble_eq_true rfl)) dX6_won_2 ⟨Nat.le_of_ble_eq_true rfl, Nat.le_of_ble_eq_true rfl⟩)) (fun r1 er1 => ?_)
  subst er1
  refine xi_if_eq (tgt := 16) hx hb (by decide) dX6_won_5 (by decide) (fun c0 => absurd c0 (by decide)) (fun _ => ?_)
  refine lv_aload_n hx hb dX6_won_8 rfl (lv_at hl 0 rfl) ?_
  refine lv_iload_n hx hb dX6_won_9 rfl (lv_at hl 1 rfl) ?_
  refine vp_callSi (va_Run.run (va_runV (As := [.int (nI (k1))]) (rest := []) ⟨hx, hb, hml, hown, hts⟩ (mX6_firstOf l (w := w) (ln := ln) (t := t) (u := u) fo62 fa64 fa65 fa66 hsz hwl htx hq2 hq4 hln hul hT ht (by omega) hp1) (cwV 1 hts gX6_won_X6_firstOf rfl rfl rfl (by decide +kernel) ⟨Nat.le_of_ble_eq_true rfl, Nat.le_of_ble_eq_true rfl⟩) ⟨xB_blind, va_recv hK hP (ci := 6) rfl (xw_is (by decide) fo62), fun U hU hW => ⟨rfl, by rw [hU]; exact hP, va_K.moved hW.alike hK, va_Nw.warmM hW hN⟩⟩ rfl rfl hl.1 rfl (lv_room (Nat.le_of_ble_eq_true rfl)) dX6_won_10 ⟨Nat.le_of_ble_eq_true rfl, Nat.le_of_ble_eq_true rfl⟩)) (fun r3 er3 => ?_)
  rcases er3 with ⟨a0, rfl, ha1, ha2, ha3⟩ | ⟨rfl, hno⟩
  · refine lv_goto (tgt := 17) hx hb dX6_won_13 (by decide) ?_
    refine lv_istore_n (lv' := [(2, .int (nI ((a0 + ln k1)))), (0, .ref (ad (62))), (1, .int (nI (k1)))]) hx hb dX6_won_17 rfl hl (by decide) rfl (fun ls hl => ?_)
    refine lv_iload_n hx hb dX6_won_18 rfl (lv_at hl 0 rfl) ?_
    refine xi_if_ge (tgt := 24) hx hb (by omega) dX6_won_19 (by decide) ?_
    refine lv_lconst (v := lZ (0)) hx hb dX6_won_24 (by decide) ?_
    refine lv_lstore_n (lv' := [(3, .long (lZ (0))), (2, .int (nI ((a0 + ln k1)))), (0, .ref (ad (62))), (1, .int (nI (k1)))]) hx hb dX6_won_25 rfl hl (by decide) rfl (fun ls hl => ?_)
    refine lv_lconst (v := lZ (1)) hx hb dX6_won_26 (by decide) ?_
    refine lv_lstore (lv' := [(5, .long (lZ (1))), (3, .long (lZ (0))), (2, .int (nI ((a0 + ln k1)))), (0, .ref (ad (62))), (1, .int (nI (k1)))]) hx hb dX6_won_27 hl (by decide) rfl (fun ls hl => ?_)
    refine lv_iconst (v := nI (0)) hx hb dX6_won_29 (by decide) ?_
    refine lv_istore (lv' := [(7, .int (nI (0))), (5, .long (lZ (1))), (3, .long (lZ (0))), (2, .int (nI ((a0 + ln k1)))), (0, .ref (ad (62))), (1, .int (nI (k1)))]) hx hb dX6_won_30 hl (by decide) rfl (fun ls hl => ?_)
    refine xloopW (G := fun H locs fr => W p l e _ s m _ below meth c H locs _ _ _ fr) (σ := Nat × Nat × Int64 × Int64) (fun (i, d, nx, dx) ls => F0 m 32 ls []) (fun (i, d, nx, dx) gl32_5 H locs ls => (i + d = (a0 + ln k1)) ∧ gl32_5 (62) = .inr (6, [.int (nI (q)), .int (nI (Wt)), .ref (ad (63)), .ref (ad (64)), .ref (ad (65)), .ref (ad (66)), .int (nI (T)), .long (tp), .long (bt), .long (nx), .long (dx), .int (sq), .ref (ad (67)), .ref (ad (68)), .ref (ad (69)), .ref (ad (70)), .ref (ad (71)), .ref (ad (72)), .ref (ad (73)), .ref (ad (74)), .ref (ad (75)), .ref (ad (76)), .ref (ad (77)), .ref (ad (78)), .ref (ad (79)), .ref (ad (80))]) ∧ gl32_5 (63) = .inl (cI, 4, .inl (fw)) ∧ gl32_5 (64) = .inl (cI, 8, .inl (fsz)) ∧ gl32_5 (65) = .inl (cI, 40, .inl (fwd)) ∧ gl32_5 (66) = .inl (cI, 300, .inl (ftx)) ∧ (∀ j : Nat, j ≠ 62 → gl32_5 j = g j) ∧ va_P D vwCl (xw 81 ad gl32_5) H ∧ va_S A s.heap H locs ∧ lv_has ls 10 [(0, .ref (ad (62))), (1, .int (nI (k1))), (2, .int (nI ((a0 + ln k1)))), (3, .long (lZ ((pwn Wt w (u k1) (ln k1) (d)).num))), (5, .long (lZ (((pwn Wt w (u k1) (ln k1) (d)).den : Int)))), (7, .int (nI (i)))]) (fun (i, d, nx, dx) => d) ?_ (0, (a0 + ln k1), nu, de) g s.heap [] ls ⟨(by omega), fo62, fa63, fa64, fa65, fa66, (fun _ _ => rfl), hP, hS, (by rw [pwn_0 hn1 (show ln k1 ≤ (a0 + ln k1) by omega)]; exact (lv_sub hl [4, 5, 3, 2, 1, 0] rfl))⟩
    rintro ⟨i, d, nx, dx⟩ gl32_5 H locs ls ⟨hi, fo62, fa63, fa64, fa65, fa66, hfrgl32_5, hP, hS, hl⟩ ih32
    refine lv_iload hx hb dX6_won_32 (lv_at hl 5 rfl) ?_
    refine lv_iload_n hx hb dX6_won_34 rfl (lv_at hl 2 rfl) ?_
    refine xi_icmp_ge (tgt := 157) hx hb (by omega) (by omega) dX6_won_35 (by decide) (fun c35_6 => ?_) (fun c35_6 => ?_)
    · have hd0 : d = 0 := by omega
      subst hd0
      refine lv_aload_n hx hb dX6_won_157 rfl (lv_at hl 0 rfl) ?_
      refine lv_lload_n hx hb dX6_won_158 rfl (lv_at hl 3 rfl) ?_
      refine lv_lload hx hb dX6_won_159 (lv_at hl 4 rfl) ?_
      refine va_callv (va_runV (As := [.long (lZ ((pwn Wt w (u k1) (ln k1) (0)).num)), .long (lZ (((pwn Wt w (u k1) (ln k1) (0)).den : Int)))]) (rest := []) ⟨hx, hb, hml, hown, hts⟩ (mX6_atHand l hD (w := w) (ln := ln) (t := t) (u := u) (a := (pwn Wt w (u k1) (ln k1) (0)).num) (b := ((pwn Wt w (u k1) (ln k1) (0)).den : Int)) fo62 ⟨(pwn_fit (j := 0) (hwA k1) (hwB k1) hWt hn1 (by omega)).1, (pwn_fit (j := 0) (hwA k1) (hwB k1) hWt hn1 (by omega)).2.1⟩ ⟨by have h9 := (pwn Wt w (u k1) (ln k1) (0)).den_pos; omega, (pwn_fit (j := 0) (hwA k1) (hwB k1) hWt hn1 (by omega)).2.2⟩) (cwV 2 hts gX6_won_X6_atHand rfl rfl rfl (by decide +kernel) ⟨Nat.le_of_ble_eq_true rfl, Nat.le_of_ble_eq_true rfl⟩) ⟨xB_blind, va_recv hK hP (ci := 6) rfl (xw_is (by decide) fo62), fun U hU hW => ⟨rfl, by rw [hU]; exact hP, va_K.moved hW.alike hK, va_Nw.warmM hW hN⟩⟩ rfl rfl hl.1 rfl (lv_room (Nat.le_of_ble_eq_true rfl)) dX6_won_161 ⟨Nat.le_of_ble_eq_true rfl, Nat.le_of_ble_eq_true rfl⟩) hS (fun _ _ h => h) (fun _ h => h) (fun g7 tZ H locs ht hvm hwg7 hB hzZ hkZ hS => ?_)
      obtain ⟨hP, -⟩ := hB
      rw [ht] at hP
      obtain ⟨fg7_n0, hcg7⟩ := hwg7
      have fg7_k0 : g7 (63) = .inl (cI, 4, .inl (fw)) := (hcg7 (63) (by decide)).trans fa63
      have fg7_k1 : g7 (64) = .inl (cI, 8, .inl (fsz)) := (hcg7 (64) (by decide)).trans fa64
      have fg7_k2 : g7 (65) = .inl (cI, 40, .inl (fwd)) := (hcg7 (65) (by decide)).trans fa65
      have fg7_k3 : g7 (66) = .inl (cI, 300, .inl (ftx)) := (hcg7 (66) (by decide)).trans fa66
      have hfrg7 : ∀ j : Nat, j ≠ 62 → g7 j = g j := fun j h0 => (hcg7 j h0).trans (hfrgl32_5 j h0)
      rw [divInt_nd] at fg7_n0
      refine lv_iconst (v := nI (1)) hx hb dX6_won_164 (by decide) ?_
      exact W.zret (v := nI (1)) hx hb hr (by decide) (fun tZ ht hW => ⟨⟨_, g7, rfl, (by have hO : oWon Wt w ln u T t (nI k1) = some (pwn Wt w (u k1) (ln k1) (0)) := (by unfold oWon; rw [slotW_yes hk1 hp1, pwn_e]; show (match fstT T t (u k1) (ln k1) with | some _ => _ | none => none) = _; rw [fstT_some ha1 ha2 ha3]); show _ = (if (oWon Wt w ln u T t (nI k1)).isSome then 1 else 0) ∧ _; rw [hO]; exact ⟨rfl, ⟨_, _, _, _, _, _, _, _, _, _, _, _, _, _, _, _, _, _, _, _, _, fg7_n0, fg7_k0, fg7_k1, fg7_k2, fg7_k3, ((hfrg7) 67 (by decide)).trans fa67, ((hfrg7) 68 (by decide)).trans fa68, ((hfrg7) 69 (by decide)).trans fa69, ((hfrg7) 70 (by decide)).trans fa70, ((hfrg7) 71 (by decide)).trans fa71, ((hfrg7) 72 (by decide)).trans fa72, ((hfrg7) 73 (by decide)).trans fa73, ((hfrg7) 74 (by decide)).trans fa74, ((hfrg7) 75 (by decide)).trans fa75, ((hfrg7) 76 (by decide)).trans fa76, ((hfrg7) 77 (by decide)).trans fa77, ((hfrg7) 78 (by decide)).trans fa78, ((hfrg7) 79 (by decide)).trans fa79, ((hfrg7) 80 (by decide)).trans fa80, hfw, hsz, hwl, htx⟩, fun j hj => (hfrg7) j (by omega)⟩), by rw [ht]; exact hP, va_K.moved hW.alike hK, va_Nw.warmM hW hN⟩, hS.F ht⟩) hS.2.2 dX6_won_165
    · obtain ⟨d1, rfl⟩ : ∃ k, d = k + 1 := ⟨d - 1, by omega⟩
      refine lv_iload_n hx hb dX6_won_38 rfl (lv_at hl 2 rfl) ?_
      refine lv_iload hx hb dX6_won_39 (lv_at hl 5 rfl) ?_
      refine xi_sub hx hb (by omega) dX6_won_41 ?_
      refine xtopi (y := nI (d1 + 1)) (congrArg nI (show (a0 + ln k1) - i = d1 + 1 by omega)) ?_
      refine lv_aload_n hx hb dX6_won_42 rfl (lv_at hl 0 rfl) ?_
      refine xw_get hx hb hts hin6 hown hK hP (by decide) fo62 rfl 3 (by decide) hf20 rfl rfl dX6_won_43 ?_
      refine lv_iload_n hx hb dX6_won_46 rfl (lv_at hl 1 rfl) ?_
      refine xw_iald hx hb hK hP (by decide) 0 fa64 rfl (by omega) (by decide) dX6_won_47 ?_
      rw [hsz (k1) (by omega)]
      refine xi_icmp_gt (tgt := 55) hx hb (by omega) (by omega) dX6_won_48 (by decide) (fun c48_9 => ?_) (fun c48_9 => ?_)
      · refine lv_iconst (v := nI (0)) hx hb dX6_won_55 (by decide) ?_
        refine lv_istore (lv' := [(8, .int (nI (0))), (0, .ref (ad (62))), (1, .int (nI (k1))), (2, .int (nI ((a0 + ln k1)))), (3, .long (lZ ((pwn Wt w (u k1) (ln k1) ((d1 + 1))).num))), (5, .long (lZ (((pwn Wt w (u k1) (ln k1) ((d1 + 1))).den : Int)))), (7, .int (nI (i)))]) hx hb dX6_won_56 hl (by decide) rfl (fun ls hl => ?_)
        refine lv_iconst (v := nI (0)) hx hb dX6_won_58 (by decide) ?_
        refine lv_istore (lv' := [(9, .int (nI (0))), (8, .int (nI (0))), (0, .ref (ad (62))), (1, .int (nI (k1))), (2, .int (nI ((a0 + ln k1)))), (3, .long (lZ ((pwn Wt w (u k1) (ln k1) ((d1 + 1))).num))), (5, .long (lZ (((pwn Wt w (u k1) (ln k1) ((d1 + 1))).den : Int)))), (7, .int (nI (i)))]) hx hb dX6_won_59 hl (by decide) rfl (fun ls hl => ?_)
        refine xloop (G := fun fr => W p l e _ s m _ below meth c _ _ _ _ _ fr) (σ := Nat × Nat) (fun (j, b) ls => F0 m 61 ls []) (fun (j, b) ls => (j ≤ d1 + 1) ∧ ((b = 1 ∧ d1 + 1 ≤ ln k1 ∧ ∀ x, x < j → t (i + x) = u k1 x) ∨ (b = 0 ∧ ¬ (d1 + 1 ≤ ln k1 ∧ ∀ x, x < d1 + 1 → t (i + x) = u k1 x))) ∧ lv_has ls 10 [(0, .ref (ad (62))), (1, .int (nI (k1))), (2, .int (nI ((a0 + ln k1)))), (3, .long (lZ ((pwn Wt w (u k1) (ln k1) (d1 + 1)).num))), (5, .long (lZ (((pwn Wt w (u k1) (ln k1) (d1 + 1)).den : Int)))), (7, .int (nI (i))), (8, .int (nI (b))), (9, .int (nI (j)))]) (fun (j, b) => d1 + 1 - j) ?_ (0, 0) ls ⟨(Nat.zero_le _), (Or.inr ⟨rfl, fun h => by have h1 := h.1; omega⟩), (lv_sub hl [2, 3, 4, 5, 6, 7, 1, 0] rfl)⟩
        rintro ⟨j, b⟩ ls ⟨hj, hbq, hl⟩ ih61
        refine lv_iload hx hb dX6_won_61 (lv_at hl 5 rfl) ?_
        refine lv_iload hx hb dX6_won_63 (lv_at hl 7 rfl) ?_
        refine xi_add hx hb dX6_won_65 ?_
        refine lv_iload_n hx hb dX6_won_66 rfl (lv_at hl 2 rfl) ?_
        refine xi_icmp_ge (tgt := 108) hx hb (by omega) (by omega) dX6_won_67 (by decide) (fun c67_10 => ?_) (fun c67_10 => ?_)
        · refine lv_iload hx hb dX6_won_108 (lv_at hl 6 rfl) ?_
          refine xi_if_ne (tgt := 116) hx hb (by rcases hbq with h | h <;> omega) dX6_won_110 (by decide) (fun c110_11 => ?_) (fun c110_11 => ?_)
          · have hb1 := hbq.resolve_right (fun h => c110_11 h.1)
            have hb3 : ∀ x, x < d1 + 1 → t (i + x) = u k1 x := fun x hx => hb1.2.2 x (by omega)
            have hby : d1 + 1 ≤ ln k1 ∧ lapD (u k1) (ln k1) (u k1) (d1 + 1) := ⟨hb1.2.1, fun x hx => by have h1 := hb1.2.1; rw [← ha2 _ (by omega), ← hb3 x hx, show a0 + (ln k1 - (d1 + 1) + x) = i + x by omega]⟩
            refine lv_aload_n hx hb dX6_won_116 rfl (lv_at hl 0 rfl) ?_
            refine lv_iload_n hx hb dX6_won_117 rfl (lv_at hl 1 rfl) ?_
            refine lv_iload_n hx hb dX6_won_118 rfl (lv_at hl 2 rfl) ?_
            refine lv_iload hx hb dX6_won_119 (lv_at hl 5 rfl) ?_
            refine xi_sub hx hb (by omega) dX6_won_121 ?_
            refine xtopi (y := nI (d1 + 1)) (congrArg nI (show (a0 + ln k1) - i = d1 + 1 by omega)) ?_
            refine va_callv (va_runV (As := [.int (nI (k1)), .int (nI (d1 + 1))]) (rest := []) ⟨hx, hb, hml, hown, hts⟩ (mX6_over l hD (w := w) (ln := ln) (t := t) (u := u) fo62 fa63 fa65 hfw hwl hq2 hq4 hln hul hT ht hw1 hw hWt (by omega) hby.1) (cwV 2 hts gX6_won_X6_over rfl rfl rfl (by decide +kernel) ⟨Nat.le_of_ble_eq_true rfl, Nat.le_of_ble_eq_true rfl⟩) ⟨xB_blind, va_recv hK hP (ci := 6) rfl (xw_is (by decide) fo62), fun U hU hW => ⟨rfl, by rw [hU]; exact hP, va_K.moved hW.alike hK, va_Nw.warmM hW hN⟩⟩ rfl rfl hl.1 rfl (lv_room (Nat.le_of_ble_eq_true rfl)) dX6_won_122 ⟨Nat.le_of_ble_eq_true rfl, Nat.le_of_ble_eq_true rfl⟩) hS (fun _ _ h => h) (fun _ h => h) (fun g12 tZ H locs ht hvm hwg12 hB hzZ hkZ hS => ?_)
            obtain ⟨hP, -⟩ := hB
            rw [ht] at hP
            obtain ⟨fg12_n0, hcg12⟩ := hwg12
            have fg12_k0 : g12 (63) = .inl (cI, 4, .inl (fw)) := (hcg12 (63) (by decide)).trans fa63
            have fg12_k1 : g12 (64) = .inl (cI, 8, .inl (fsz)) := (hcg12 (64) (by decide)).trans fa64
            have fg12_k2 : g12 (65) = .inl (cI, 40, .inl (fwd)) := (hcg12 (65) (by decide)).trans fa65
            have fg12_k3 : g12 (66) = .inl (cI, 300, .inl (ftx)) := (hcg12 (66) (by decide)).trans fa66
            have hfrg12 : ∀ j : Nat, j ≠ 62 → g12 j = g j := fun j h0 => (hcg12 j h0).trans (hfrgl32_5 j h0)
            refine lv_aload_n hx hb dX6_won_125 rfl (lv_at hl 0 rfl) ?_
            refine lv_lload_n hx hb dX6_won_126 rfl (lv_at hl 3 rfl) ?_
            refine lv_lload hx hb dX6_won_127 (lv_at hl 4 rfl) ?_
            refine lv_aload_n hx hb dX6_won_129 rfl (lv_at hl 0 rfl) ?_
            refine xw_get hx hb hts hin6 hown hK hP (by decide) fg12_n0 rfl 9 (by decide) hf106 rfl rfl dX6_won_130 ?_
            refine lv_aload_n hx hb dX6_won_133 rfl (lv_at hl 0 rfl) ?_
            refine xw_get hx hb hts hin6 hown hK hP (by decide) fg12_n0 rfl 10 (by decide) hf109 rfl rfl dX6_won_134 ?_
            refine va_callv (va_runV (As := [.long (lZ ((pwn Wt w (u k1) (ln k1) (d1 + 1)).num)), .long (lZ (((pwn Wt w (u k1) (ln k1) (d1 + 1)).den : Int))), .long (lZ ((Rat.divInt ((Wt ^ (d1 + 1) : Nat) : Int) ((wfr w (u (k1)) (d1 + 1) : Nat) : Int)).num)), .long (lZ (((Rat.divInt ((Wt ^ (d1 + 1) : Nat) : Int) ((wfr w (u (k1)) (d1 + 1) : Nat) : Int)).den : Int)))]) (rest := []) ⟨hx, hb, hml, hown, hts⟩ (mX6_add l hD (w := w) (ln := ln) (t := t) (u := u) (x := pwn Wt w (u k1) (ln k1) (d1 + 1)) (y := Rat.divInt ((Wt ^ (d1 + 1) : Nat) : Int) ((wfr w (u (k1)) (d1 + 1) : Nat) : Int)) fg12_n0 rfl rfl rfl rfl (pwn_fit (hwA k1) (hwB k1) hWt hn1 (by omega)) (over_fit (hwA k1) (hwB k1) hWt hn1 hby.1) (pwn_fitA (hwA k1) (hwB k1) hWt hn1 (by omega) hby.1)) (cwV 4 hts gX6_won_X6_add rfl rfl rfl (by decide +kernel) ⟨Nat.le_of_ble_eq_true rfl, Nat.le_of_ble_eq_true rfl⟩) ⟨xB_blind, va_recv hK hP (ci := 6) rfl (xw_is (by decide) fg12_n0), fun U hU hW => ⟨rfl, by rw [hU]; exact hP, va_K.moved hW.alike hK, va_Nw.warmM hW hN⟩⟩ rfl rfl hl.1 rfl (lv_room (Nat.le_of_ble_eq_true rfl)) dX6_won_137 ⟨Nat.le_of_ble_eq_true rfl, Nat.le_of_ble_eq_true rfl⟩) hS (fun _ _ h => h) (fun _ h => h) (fun g14 tZ H locs ht hvm hwg14 hB hzZ hkZ hS => ?_)
            obtain ⟨hP, -⟩ := hB
            rw [ht] at hP
            obtain ⟨fg14_n0, hcg14⟩ := hwg14
            have fg14_k0 : g14 (63) = .inl (cI, 4, .inl (fw)) := (hcg14 (63) (by decide)).trans fg12_k0
            have fg14_k1 : g14 (64) = .inl (cI, 8, .inl (fsz)) := (hcg14 (64) (by decide)).trans fg12_k1
            have fg14_k2 : g14 (65) = .inl (cI, 40, .inl (fwd)) := (hcg14 (65) (by decide)).trans fg12_k2
            have fg14_k3 : g14 (66) = .inl (cI, 300, .inl (ftx)) := (hcg14 (66) (by decide)).trans fg12_k3
            have hfrg14 : ∀ j : Nat, j ≠ 62 → g14 j = g j := fun j h0 => (hcg14 j h0).trans (hfrg12 j h0)
            rw [show (pwn Wt w (u k1) (ln k1) (d1 + 1)) + (Rat.divInt ((Wt ^ (d1 + 1) : Nat) : Int) ((wfr w (u (k1)) (d1 + 1) : Nat) : Int)) = pwn Wt w (u k1) (ln k1) (d1) from pwn_y (hwA k1) hby] at fg14_n0
            refine lv_aload_n hx hb dX6_won_140 rfl (lv_at hl 0 rfl) ?_
            refine xw_get hx hb hts hin6 hown hK hP (by decide) fg14_n0 rfl 9 (by decide) hf106 rfl rfl dX6_won_141 ?_
            refine lv_lstore_n (lv' := [(3, .long (lZ ((pwn Wt w (u k1) (ln k1) (d1)).num))), (0, .ref (ad (62))), (1, .int (nI (k1))), (2, .int (nI ((a0 + ln k1)))), (5, .long (lZ (((pwn Wt w (u k1) (ln k1) (d1 + 1)).den : Int)))), (7, .int (nI (i))), (8, .int (nI (b))), (9, .int (nI (j)))]) hx hb dX6_won_144 rfl hl (by decide) rfl (fun ls hl => ?_)
            refine lv_aload_n hx hb dX6_won_145 rfl (lv_at hl 1 rfl) ?_
            refine xw_get hx hb hts hin6 hown hK hP (by decide) fg14_n0 rfl 10 (by decide) hf109 rfl rfl dX6_won_146 ?_
            refine lv_lstore (lv' := [(5, .long (lZ (((pwn Wt w (u k1) (ln k1) (d1)).den : Int)))), (3, .long (lZ ((pwn Wt w (u k1) (ln k1) (d1)).num))), (0, .ref (ad (62))), (1, .int (nI (k1))), (2, .int (nI ((a0 + ln k1)))), (7, .int (nI (i))), (8, .int (nI (b))), (9, .int (nI (j)))]) hx hb dX6_won_149 hl (by decide) rfl (fun ls hl => ?_)
            refine lv_iinc (v := nI (i + 1)) (lv' := [(7, .int (nI (i + 1))), (5, .long (lZ (((pwn Wt w (u k1) (ln k1) (d1)).den : Int)))), (3, .long (lZ ((pwn Wt w (u k1) (ln k1) (d1)).num))), (0, .ref (ad (62))), (1, .int (nI (k1))), (2, .int (nI ((a0 + ln k1)))), (8, .int (nI (b))), (9, .int (nI (j)))]) hx hb dX6_won_151 hl (k := 5) rfl (nI_add (i) 1) (by decide) rfl (fun ls hl => ?_)
            refine lv_goto (tgt := 32) hx hb dX6_won_154 (by decide) ?_
            exact ih32 (i + 1, d1, lZ ((pwn Wt w (u k1) (ln k1) (d1)).num), lZ (((pwn Wt w (u k1) (ln k1) (d1)).den : Int))) g14 H locs ls ⟨(by omega), fg14_n0, fg14_k0, fg14_k1, fg14_k2, fg14_k3, hfrg14, hP, hS, (lv_sub hl [3, 4, 5, 2, 1, 0] rfl)⟩ (by first | omega | (dsimp only; omega))
          · have hb1 := hbq.resolve_left (fun h => absurd h.1 (by omega))
            have hbno : ¬ (d1 + 1 ≤ ln k1 ∧ lapD (u k1) (ln k1) (u k1) (d1 + 1)) := fun h => hb1.2 ⟨h.1, fun x hx => by rw [← h.2 x hx, ← ha2 _ (by omega), show a0 + (ln k1 - (d1 + 1) + x) = i + x by omega]⟩
            refine lv_goto (tgt := 151) hx hb dX6_won_113 (by decide) ?_
            refine lv_iinc (v := nI (i + 1)) (lv' := [(7, .int (nI (i + 1))), (0, .ref (ad (62))), (1, .int (nI (k1))), (2, .int (nI ((a0 + ln k1)))), (3, .long (lZ ((pwn Wt w (u k1) (ln k1) (d1 + 1)).num))), (5, .long (lZ (((pwn Wt w (u k1) (ln k1) (d1 + 1)).den : Int)))), (8, .int (nI (b))), (9, .int (nI (j)))]) hx hb dX6_won_151 hl (k := 5) rfl (nI_add (i) 1) (by decide) rfl (fun ls hl => ?_)
            refine lv_goto (tgt := 32) hx hb dX6_won_154 (by decide) ?_
            exact ih32 (i + 1, d1, nx, dx) gl32_5 H locs ls ⟨(by omega), fo62, fa63, fa64, fa65, fa66, hfrgl32_5, hP, hS, (by rw [← pwn_n (j := d1) (fun h => hbno h)]; exact (lv_sub hl [1, 2, 3, 4, 5, 0] rfl))⟩ (by first | omega | (dsimp only; omega))
        · refine lv_iload hx hb dX6_won_70 (lv_at hl 6 rfl) ?_
          refine xi_if_eq (tgt := 108) hx hb (by rcases hbq with h | h <;> omega) dX6_won_72 (by decide) (fun c72_16 => ?_) (fun c72_16 => ?_)
          · refine lv_iload hx hb dX6_won_108 (lv_at hl 6 rfl) ?_
            refine xi_if_ne (tgt := 116) hx hb (by rcases hbq with h | h <;> omega) dX6_won_110 (by decide) (fun c110_17 => ?_) (fun c110_17 => ?_)
            · have hb1 := hbq.resolve_right (fun h => c110_17 h.1)
              have hb3 : ∀ x, x < d1 + 1 → t (i + x) = u k1 x := fun x hx => hb1.2.2 x (by have h5 := c72_16; omega)
              have hby : d1 + 1 ≤ ln k1 ∧ lapD (u k1) (ln k1) (u k1) (d1 + 1) := ⟨hb1.2.1, fun x hx => by have h1 := hb1.2.1; rw [← ha2 _ (by omega), ← hb3 x hx, show a0 + (ln k1 - (d1 + 1) + x) = i + x by omega]⟩
              refine lv_aload_n hx hb dX6_won_116 rfl (lv_at hl 0 rfl) ?_
              refine lv_iload_n hx hb dX6_won_117 rfl (lv_at hl 1 rfl) ?_
              refine lv_iload_n hx hb dX6_won_118 rfl (lv_at hl 2 rfl) ?_
              refine lv_iload hx hb dX6_won_119 (lv_at hl 5 rfl) ?_
              refine xi_sub hx hb (by omega) dX6_won_121 ?_
              refine xtopi (y := nI (d1 + 1)) (congrArg nI (show (a0 + ln k1) - i = d1 + 1 by omega)) ?_
              refine va_callv (va_runV (As := [.int (nI (k1)), .int (nI (d1 + 1))]) (rest := []) ⟨hx, hb, hml, hown, hts⟩ (mX6_over l hD (w := w) (ln := ln) (t := t) (u := u) fo62 fa63 fa65 hfw hwl hq2 hq4 hln hul hT ht hw1 hw hWt (by omega) hby.1) (cwV 2 hts gX6_won_X6_over rfl rfl rfl (by decide +kernel) ⟨Nat.le_of_ble_eq_true rfl, Nat.le_of_ble_eq_true rfl⟩) ⟨xB_blind, va_recv hK hP (ci := 6) rfl (xw_is (by decide) fo62), fun U hU hW => ⟨rfl, by rw [hU]; exact hP, va_K.moved hW.alike hK, va_Nw.warmM hW hN⟩⟩ rfl rfl hl.1 rfl (lv_room (Nat.le_of_ble_eq_true rfl)) dX6_won_122 ⟨Nat.le_of_ble_eq_true rfl, Nat.le_of_ble_eq_true rfl⟩) hS (fun _ _ h => h) (fun _ h => h) (fun g18 tZ H locs ht hvm hwg18 hB hzZ hkZ hS => ?_)
              obtain ⟨hP, -⟩ := hB
              rw [ht] at hP
              obtain ⟨fg18_n0, hcg18⟩ := hwg18
              have fg18_k0 : g18 (63) = .inl (cI, 4, .inl (fw)) := (hcg18 (63) (by decide)).trans fa63
              have fg18_k1 : g18 (64) = .inl (cI, 8, .inl (fsz)) := (hcg18 (64) (by decide)).trans fa64
              have fg18_k2 : g18 (65) = .inl (cI, 40, .inl (fwd)) := (hcg18 (65) (by decide)).trans fa65
              have fg18_k3 : g18 (66) = .inl (cI, 300, .inl (ftx)) := (hcg18 (66) (by decide)).trans fa66
              have hfrg18 : ∀ j : Nat, j ≠ 62 → g18 j = g j := fun j h0 => (hcg18 j h0).trans (hfrgl32_5 j h0)
              refine lv_aload_n hx hb dX6_won_125 rfl (lv_at hl 0 rfl) ?_
              refine lv_lload_n hx hb dX6_won_126 rfl (lv_at hl 3 rfl) ?_
              refine lv_lload hx hb dX6_won_127 (lv_at hl 4 rfl) ?_
              refine lv_aload_n hx hb dX6_won_129 rfl (lv_at hl 0 rfl) ?_
              refine xw_get hx hb hts hin6 hown hK hP (by decide) fg18_n0 rfl 9 (by decide) hf106 rfl rfl dX6_won_130 ?_
              refine lv_aload_n hx hb dX6_won_133 rfl (lv_at hl 0 rfl) ?_
              refine xw_get hx hb hts hin6 hown hK hP (by decide) fg18_n0 rfl 10 (by decide) hf109 rfl rfl dX6_won_134 ?_
              refine va_callv (va_runV (As := [.long (lZ ((pwn Wt w (u k1) (ln k1) (d1 + 1)).num)), .long (lZ (((pwn Wt w (u k1) (ln k1) (d1 + 1)).den : Int))), .long (lZ ((Rat.divInt ((Wt ^ (d1 + 1) : Nat) : Int) ((wfr w (u (k1)) (d1 + 1) : Nat) : Int)).num)), .long (lZ (((Rat.divInt ((Wt ^ (d1 + 1) : Nat) : Int) ((wfr w (u (k1)) (d1 + 1) : Nat) : Int)).den : Int)))]) (rest := []) ⟨hx, hb, hml, hown, hts⟩ (mX6_add l hD (w := w) (ln := ln) (t := t) (u := u) (x := pwn Wt w (u k1) (ln k1) (d1 + 1)) (y := Rat.divInt ((Wt ^ (d1 + 1) : Nat) : Int) ((wfr w (u (k1)) (d1 + 1) : Nat) : Int)) fg18_n0 rfl rfl rfl rfl (pwn_fit (hwA k1) (hwB k1) hWt hn1 (by omega)) (over_fit (hwA k1) (hwB k1) hWt hn1 hby.1) (pwn_fitA (hwA k1) (hwB k1) hWt hn1 (by omega) hby.1)) (cwV 4 hts gX6_won_X6_add rfl rfl rfl (by decide +kernel) ⟨Nat.le_of_ble_eq_true rfl, Nat.le_of_ble_eq_true rfl⟩) ⟨xB_blind, va_recv hK hP (ci := 6) rfl (xw_is (by decide) fg18_n0), fun U hU hW => ⟨rfl, by rw [hU]; exact hP, va_K.moved hW.alike hK, va_Nw.warmM hW hN⟩⟩ rfl rfl hl.1 rfl (lv_room (Nat.le_of_ble_eq_true rfl)) dX6_won_137 ⟨Nat.le_of_ble_eq_true rfl, Nat.le_of_ble_eq_true rfl⟩) hS (fun _ _ h => h) (fun _ h => h) (fun g20 tZ H locs ht hvm hwg20 hB hzZ hkZ hS => ?_)
              obtain ⟨hP, -⟩ := hB
              rw [ht] at hP
              obtain ⟨fg20_n0, hcg20⟩ := hwg20
              have fg20_k0 : g20 (63) = .inl (cI, 4, .inl (fw)) := (hcg20 (63) (by decide)).trans fg18_k0
              have fg20_k1 : g20 (64) = .inl (cI, 8, .inl (fsz)) := (hcg20 (64) (by decide)).trans fg18_k1
              have fg20_k2 : g20 (65) = .inl (cI, 40, .inl (fwd)) := (hcg20 (65) (by decide)).trans fg18_k2
              have fg20_k3 : g20 (66) = .inl (cI, 300, .inl (ftx)) := (hcg20 (66) (by decide)).trans fg18_k3
              have hfrg20 : ∀ j : Nat, j ≠ 62 → g20 j = g j := fun j h0 => (hcg20 j h0).trans (hfrg18 j h0)
              rw [show (pwn Wt w (u k1) (ln k1) (d1 + 1)) + (Rat.divInt ((Wt ^ (d1 + 1) : Nat) : Int) ((wfr w (u (k1)) (d1 + 1) : Nat) : Int)) = pwn Wt w (u k1) (ln k1) (d1) from pwn_y (hwA k1) hby] at fg20_n0
              refine lv_aload_n hx hb dX6_won_140 rfl (lv_at hl 0 rfl) ?_
              refine xw_get hx hb hts hin6 hown hK hP (by decide) fg20_n0 rfl 9 (by decide) hf106 rfl rfl dX6_won_141 ?_
              refine lv_lstore_n (lv' := [(3, .long (lZ ((pwn Wt w (u k1) (ln k1) (d1)).num))), (0, .ref (ad (62))), (1, .int (nI (k1))), (2, .int (nI ((a0 + ln k1)))), (5, .long (lZ (((pwn Wt w (u k1) (ln k1) (d1 + 1)).den : Int)))), (7, .int (nI (i))), (8, .int (nI (b))), (9, .int (nI (j)))]) hx hb dX6_won_144 rfl hl (by decide) rfl (fun ls hl => ?_)
              refine lv_aload_n hx hb dX6_won_145 rfl (lv_at hl 1 rfl) ?_
              refine xw_get hx hb hts hin6 hown hK hP (by decide) fg20_n0 rfl 10 (by decide) hf109 rfl rfl dX6_won_146 ?_
              refine lv_lstore (lv' := [(5, .long (lZ (((pwn Wt w (u k1) (ln k1) (d1)).den : Int)))), (3, .long (lZ ((pwn Wt w (u k1) (ln k1) (d1)).num))), (0, .ref (ad (62))), (1, .int (nI (k1))), (2, .int (nI ((a0 + ln k1)))), (7, .int (nI (i))), (8, .int (nI (b))), (9, .int (nI (j)))]) hx hb dX6_won_149 hl (by decide) rfl (fun ls hl => ?_)
              refine lv_iinc (v := nI (i + 1)) (lv' := [(7, .int (nI (i + 1))), (5, .long (lZ (((pwn Wt w (u k1) (ln k1) (d1)).den : Int)))), (3, .long (lZ ((pwn Wt w (u k1) (ln k1) (d1)).num))), (0, .ref (ad (62))), (1, .int (nI (k1))), (2, .int (nI ((a0 + ln k1)))), (8, .int (nI (b))), (9, .int (nI (j)))]) hx hb dX6_won_151 hl (k := 5) rfl (nI_add (i) 1) (by decide) rfl (fun ls hl => ?_)
              refine lv_goto (tgt := 32) hx hb dX6_won_154 (by decide) ?_
              exact ih32 (i + 1, d1, lZ ((pwn Wt w (u k1) (ln k1) (d1)).num), lZ (((pwn Wt w (u k1) (ln k1) (d1)).den : Int))) g20 H locs ls ⟨(by omega), fg20_n0, fg20_k0, fg20_k1, fg20_k2, fg20_k3, hfrg20, hP, hS, (lv_sub hl [3, 4, 5, 2, 1, 0] rfl)⟩ (by first | omega | (dsimp only; omega))
            · have hb1 := hbq.resolve_left (fun h => absurd h.1 (by omega))
              have hbno : ¬ (d1 + 1 ≤ ln k1 ∧ lapD (u k1) (ln k1) (u k1) (d1 + 1)) := fun h => hb1.2 ⟨h.1, fun x hx => by rw [← h.2 x hx, ← ha2 _ (by omega), show a0 + (ln k1 - (d1 + 1) + x) = i + x by omega]⟩
              refine lv_goto (tgt := 151) hx hb dX6_won_113 (by decide) ?_
              refine lv_iinc (v := nI (i + 1)) (lv' := [(7, .int (nI (i + 1))), (0, .ref (ad (62))), (1, .int (nI (k1))), (2, .int (nI ((a0 + ln k1)))), (3, .long (lZ ((pwn Wt w (u k1) (ln k1) (d1 + 1)).num))), (5, .long (lZ (((pwn Wt w (u k1) (ln k1) (d1 + 1)).den : Int)))), (8, .int (nI (b))), (9, .int (nI (j)))]) hx hb dX6_won_151 hl (k := 5) rfl (nI_add (i) 1) (by decide) rfl (fun ls hl => ?_)
              refine lv_goto (tgt := 32) hx hb dX6_won_154 (by decide) ?_
              exact ih32 (i + 1, d1, nx, dx) gl32_5 H locs ls ⟨(by omega), fo62, fa63, fa64, fa65, fa66, hfrgl32_5, hP, hS, (by rw [← pwn_n (j := d1) (fun h => hbno h)]; exact (lv_sub hl [1, 2, 3, 4, 5, 0] rfl))⟩ (by first | omega | (dsimp only; omega))
          · have hb1 := hbq.resolve_right (fun h => c72_16 h.1)
            have hb1l := hb1.2.1
            refine lv_aload_n hx hb dX6_won_75 rfl (lv_at hl 0 rfl) ?_
            refine xw_get hx hb hts hin6 hown hK hP (by decide) fo62 rfl 5 (by decide) hf26 rfl rfl dX6_won_76 ?_
            refine lv_iload hx hb dX6_won_79 (lv_at hl 5 rfl) ?_
            refine lv_iload hx hb dX6_won_81 (lv_at hl 7 rfl) ?_
            refine xi_add hx hb dX6_won_83 ?_
            refine xw_iald hx hb hK hP (by decide) 0 fa66 rfl (by omega) (by decide) dX6_won_84 ?_
            rw [htx (i + j) (by omega)]
            refine lv_aload_n hx hb dX6_won_85 rfl (lv_at hl 0 rfl) ?_
            refine lv_iload_n hx hb dX6_won_86 rfl (lv_at hl 1 rfl) ?_
            refine lv_iload hx hb dX6_won_87 (lv_at hl 7 rfl) ?_
            refine vp_callSi (va_Run.run (va_runV (As := [.int (nI (k1)), .int (nI (j))]) (rest := [.int (nI (t (i + j)))]) ⟨hx, hb, hml, hown, hts⟩ (mX6_letterOf l (w := w) (ln := ln) (t := t) (u := u) (s1 := k1) (j1 := j) (vv := u (k1) (j)) fo62 fa65 (by omega) (by have h9 := hln (k1); omega) (hwl (k1) (j) (by omega) (by omega))) (cwV 2 hts gX6_won_X6_letterOf rfl rfl rfl (by decide +kernel) ⟨Nat.le_of_ble_eq_true rfl, Nat.le_of_ble_eq_true rfl⟩) ⟨xB_blind, va_recv hK hP (ci := 6) rfl (xw_is (by decide) fo62), fun U hU hW => ⟨rfl, by rw [hU]; exact hP, va_K.moved hW.alike hK, va_Nw.warmM hW hN⟩⟩ rfl rfl hl.1 rfl (lv_room (Nat.le_of_ble_eq_true rfl)) dX6_won_89 ⟨Nat.le_of_ble_eq_true rfl, Nat.le_of_ble_eq_true rfl⟩)) (fun r22 er22 => ?_)
            subst er22
            refine xi_icmp_ne (tgt := 99) hx hb (Nat.lt_trans (ht _ (by omega)) (by omega)) (Nat.lt_trans (hul _ _ (by omega)) (by omega)) dX6_won_92 (by decide) (fun c92_23 => ?_) (fun c92_23 => ?_)
            · refine lv_iconst (v := nI (0)) hx hb dX6_won_99 (by decide) ?_
              refine lv_istore (lv' := [(8, .int (nI (0))), (0, .ref (ad (62))), (1, .int (nI (k1))), (2, .int (nI ((a0 + ln k1)))), (3, .long (lZ ((pwn Wt w (u k1) (ln k1) (d1 + 1)).num))), (5, .long (lZ (((pwn Wt w (u k1) (ln k1) (d1 + 1)).den : Int)))), (7, .int (nI (i))), (9, .int (nI (j)))]) hx hb dX6_won_100 hl (by decide) rfl (fun ls hl => ?_)
              refine lv_iinc (v := nI (j + 1)) (lv' := [(9, .int (nI (j + 1))), (8, .int (nI (0))), (0, .ref (ad (62))), (1, .int (nI (k1))), (2, .int (nI ((a0 + ln k1)))), (3, .long (lZ ((pwn Wt w (u k1) (ln k1) (d1 + 1)).num))), (5, .long (lZ (((pwn Wt w (u k1) (ln k1) (d1 + 1)).den : Int)))), (7, .int (nI (i)))]) hx hb dX6_won_102 hl (k := 7) rfl (nI_add (j) 1) (by decide) rfl (fun ls hl => ?_)
              refine lv_goto (tgt := 61) hx hb dX6_won_105 (by decide) ?_
              exact ih61 (j + 1, 0) ls ⟨(by omega), (Or.inr ⟨rfl, fun h => c92_23 (h.2 j (by omega))⟩), (lv_sub hl [2, 3, 4, 5, 6, 7, 1, 0] rfl)⟩ (by first | omega | (dsimp only; omega))
            · refine lv_iconst (v := nI (1)) hx hb dX6_won_95 (by decide) ?_
              refine lv_goto (tgt := 100) hx hb dX6_won_96 (by decide) ?_
              refine lv_istore (lv' := [(8, .int (nI (1))), (0, .ref (ad (62))), (1, .int (nI (k1))), (2, .int (nI ((a0 + ln k1)))), (3, .long (lZ ((pwn Wt w (u k1) (ln k1) (d1 + 1)).num))), (5, .long (lZ (((pwn Wt w (u k1) (ln k1) (d1 + 1)).den : Int)))), (7, .int (nI (i))), (9, .int (nI (j)))]) hx hb dX6_won_100 hl (by decide) rfl (fun ls hl => ?_)
              refine lv_iinc (v := nI (j + 1)) (lv' := [(9, .int (nI (j + 1))), (8, .int (nI (1))), (0, .ref (ad (62))), (1, .int (nI (k1))), (2, .int (nI ((a0 + ln k1)))), (3, .long (lZ ((pwn Wt w (u k1) (ln k1) (d1 + 1)).num))), (5, .long (lZ (((pwn Wt w (u k1) (ln k1) (d1 + 1)).den : Int)))), (7, .int (nI (i)))]) hx hb dX6_won_102 hl (k := 7) rfl (nI_add (j) 1) (by decide) rfl (fun ls hl => ?_)
              refine lv_goto (tgt := 61) hx hb dX6_won_105 (by decide) ?_
              exact ih61 (j + 1, 1) ls ⟨(by omega), (Or.inl ⟨rfl, hb1.2.1, fun x hx => if e : x = j then by rw [e]; exact c92_23 else hb1.2.2 x (by omega)⟩), (lv_sub hl [2, 3, 4, 5, 6, 7, 1, 0] rfl)⟩ (by first | omega | (dsimp only; omega))
      · refine lv_iconst (v := nI (1)) hx hb dX6_won_51 (by decide) ?_
        refine lv_goto (tgt := 56) hx hb dX6_won_52 (by decide) ?_
        refine lv_istore (lv' := [(8, .int (nI (1))), (0, .ref (ad (62))), (1, .int (nI (k1))), (2, .int (nI ((a0 + ln k1)))), (3, .long (lZ ((pwn Wt w (u k1) (ln k1) ((d1 + 1))).num))), (5, .long (lZ (((pwn Wt w (u k1) (ln k1) ((d1 + 1))).den : Int)))), (7, .int (nI (i)))]) hx hb dX6_won_56 hl (by decide) rfl (fun ls hl => ?_)
        refine lv_iconst (v := nI (0)) hx hb dX6_won_58 (by decide) ?_
        refine lv_istore (lv' := [(9, .int (nI (0))), (8, .int (nI (1))), (0, .ref (ad (62))), (1, .int (nI (k1))), (2, .int (nI ((a0 + ln k1)))), (3, .long (lZ ((pwn Wt w (u k1) (ln k1) ((d1 + 1))).num))), (5, .long (lZ (((pwn Wt w (u k1) (ln k1) ((d1 + 1))).den : Int)))), (7, .int (nI (i)))]) hx hb dX6_won_59 hl (by decide) rfl (fun ls hl => ?_)
        refine xloop (G := fun fr => W p l e _ s m _ below meth c _ _ _ _ _ fr) (σ := Nat × Nat) (fun (j, b) ls => F0 m 61 ls []) (fun (j, b) ls => (j ≤ d1 + 1) ∧ ((b = 1 ∧ d1 + 1 ≤ ln k1 ∧ ∀ x, x < j → t (i + x) = u k1 x) ∨ (b = 0 ∧ ¬ (d1 + 1 ≤ ln k1 ∧ ∀ x, x < d1 + 1 → t (i + x) = u k1 x))) ∧ lv_has ls 10 [(0, .ref (ad (62))), (1, .int (nI (k1))), (2, .int (nI ((a0 + ln k1)))), (3, .long (lZ ((pwn Wt w (u k1) (ln k1) (d1 + 1)).num))), (5, .long (lZ (((pwn Wt w (u k1) (ln k1) (d1 + 1)).den : Int)))), (7, .int (nI (i))), (8, .int (nI (b))), (9, .int (nI (j)))]) (fun (j, b) => d1 + 1 - j) ?_ (0, 1) ls ⟨(Nat.zero_le _), (Or.inl ⟨rfl, by omega, fun x hx => absurd hx (by omega)⟩), (lv_sub hl [2, 3, 4, 5, 6, 7, 1, 0] rfl)⟩
        rintro ⟨j, b⟩ ls ⟨hj, hbq, hl⟩ ih61
        refine lv_iload hx hb dX6_won_61 (lv_at hl 5 rfl) ?_
        refine lv_iload hx hb dX6_won_63 (lv_at hl 7 rfl) ?_
        refine xi_add hx hb dX6_won_65 ?_
        refine lv_iload_n hx hb dX6_won_66 rfl (lv_at hl 2 rfl) ?_
        refine xi_icmp_ge (tgt := 108) hx hb (by omega) (by omega) dX6_won_67 (by decide) (fun c67_24 => ?_) (fun c67_24 => ?_)
        · refine lv_iload hx hb dX6_won_108 (lv_at hl 6 rfl) ?_
          refine xi_if_ne (tgt := 116) hx hb (by rcases hbq with h | h <;> omega) dX6_won_110 (by decide) (fun c110_25 => ?_) (fun c110_25 => ?_)
          · have hb1 := hbq.resolve_right (fun h => c110_25 h.1)
            have hb3 : ∀ x, x < d1 + 1 → t (i + x) = u k1 x := fun x hx => hb1.2.2 x (by omega)
            have hby : d1 + 1 ≤ ln k1 ∧ lapD (u k1) (ln k1) (u k1) (d1 + 1) := ⟨hb1.2.1, fun x hx => by have h1 := hb1.2.1; rw [← ha2 _ (by omega), ← hb3 x hx, show a0 + (ln k1 - (d1 + 1) + x) = i + x by omega]⟩
            refine lv_aload_n hx hb dX6_won_116 rfl (lv_at hl 0 rfl) ?_
            refine lv_iload_n hx hb dX6_won_117 rfl (lv_at hl 1 rfl) ?_
            refine lv_iload_n hx hb dX6_won_118 rfl (lv_at hl 2 rfl) ?_
            refine lv_iload hx hb dX6_won_119 (lv_at hl 5 rfl) ?_
            refine xi_sub hx hb (by omega) dX6_won_121 ?_
            refine xtopi (y := nI (d1 + 1)) (congrArg nI (show (a0 + ln k1) - i = d1 + 1 by omega)) ?_
            refine va_callv (va_runV (As := [.int (nI (k1)), .int (nI (d1 + 1))]) (rest := []) ⟨hx, hb, hml, hown, hts⟩ (mX6_over l hD (w := w) (ln := ln) (t := t) (u := u) fo62 fa63 fa65 hfw hwl hq2 hq4 hln hul hT ht hw1 hw hWt (by omega) hby.1) (cwV 2 hts gX6_won_X6_over rfl rfl rfl (by decide +kernel) ⟨Nat.le_of_ble_eq_true rfl, Nat.le_of_ble_eq_true rfl⟩) ⟨xB_blind, va_recv hK hP (ci := 6) rfl (xw_is (by decide) fo62), fun U hU hW => ⟨rfl, by rw [hU]; exact hP, va_K.moved hW.alike hK, va_Nw.warmM hW hN⟩⟩ rfl rfl hl.1 rfl (lv_room (Nat.le_of_ble_eq_true rfl)) dX6_won_122 ⟨Nat.le_of_ble_eq_true rfl, Nat.le_of_ble_eq_true rfl⟩) hS (fun _ _ h => h) (fun _ h => h) (fun g26 tZ H locs ht hvm hwg26 hB hzZ hkZ hS => ?_)
            obtain ⟨hP, -⟩ := hB
            rw [ht] at hP
            obtain ⟨fg26_n0, hcg26⟩ := hwg26
            have fg26_k0 : g26 (63) = .inl (cI, 4, .inl (fw)) := (hcg26 (63) (by decide)).trans fa63
            have fg26_k1 : g26 (64) = .inl (cI, 8, .inl (fsz)) := (hcg26 (64) (by decide)).trans fa64
            have fg26_k2 : g26 (65) = .inl (cI, 40, .inl (fwd)) := (hcg26 (65) (by decide)).trans fa65
            have fg26_k3 : g26 (66) = .inl (cI, 300, .inl (ftx)) := (hcg26 (66) (by decide)).trans fa66
            have hfrg26 : ∀ j : Nat, j ≠ 62 → g26 j = g j := fun j h0 => (hcg26 j h0).trans (hfrgl32_5 j h0)
            refine lv_aload_n hx hb dX6_won_125 rfl (lv_at hl 0 rfl) ?_
            refine lv_lload_n hx hb dX6_won_126 rfl (lv_at hl 3 rfl) ?_
            refine lv_lload hx hb dX6_won_127 (lv_at hl 4 rfl) ?_
            refine lv_aload_n hx hb dX6_won_129 rfl (lv_at hl 0 rfl) ?_
            refine xw_get hx hb hts hin6 hown hK hP (by decide) fg26_n0 rfl 9 (by decide) hf106 rfl rfl dX6_won_130 ?_
            refine lv_aload_n hx hb dX6_won_133 rfl (lv_at hl 0 rfl) ?_
            refine xw_get hx hb hts hin6 hown hK hP (by decide) fg26_n0 rfl 10 (by decide) hf109 rfl rfl dX6_won_134 ?_
            refine va_callv (va_runV (As := [.long (lZ ((pwn Wt w (u k1) (ln k1) (d1 + 1)).num)), .long (lZ (((pwn Wt w (u k1) (ln k1) (d1 + 1)).den : Int))), .long (lZ ((Rat.divInt ((Wt ^ (d1 + 1) : Nat) : Int) ((wfr w (u (k1)) (d1 + 1) : Nat) : Int)).num)), .long (lZ (((Rat.divInt ((Wt ^ (d1 + 1) : Nat) : Int) ((wfr w (u (k1)) (d1 + 1) : Nat) : Int)).den : Int)))]) (rest := []) ⟨hx, hb, hml, hown, hts⟩ (mX6_add l hD (w := w) (ln := ln) (t := t) (u := u) (x := pwn Wt w (u k1) (ln k1) (d1 + 1)) (y := Rat.divInt ((Wt ^ (d1 + 1) : Nat) : Int) ((wfr w (u (k1)) (d1 + 1) : Nat) : Int)) fg26_n0 rfl rfl rfl rfl (pwn_fit (hwA k1) (hwB k1) hWt hn1 (by omega)) (over_fit (hwA k1) (hwB k1) hWt hn1 hby.1) (pwn_fitA (hwA k1) (hwB k1) hWt hn1 (by omega) hby.1)) (cwV 4 hts gX6_won_X6_add rfl rfl rfl (by decide +kernel) ⟨Nat.le_of_ble_eq_true rfl, Nat.le_of_ble_eq_true rfl⟩) ⟨xB_blind, va_recv hK hP (ci := 6) rfl (xw_is (by decide) fg26_n0), fun U hU hW => ⟨rfl, by rw [hU]; exact hP, va_K.moved hW.alike hK, va_Nw.warmM hW hN⟩⟩ rfl rfl hl.1 rfl (lv_room (Nat.le_of_ble_eq_true rfl)) dX6_won_137 ⟨Nat.le_of_ble_eq_true rfl, Nat.le_of_ble_eq_true rfl⟩) hS (fun _ _ h => h) (fun _ h => h) (fun g28 tZ H locs ht hvm hwg28 hB hzZ hkZ hS => ?_)
            obtain ⟨hP, -⟩ := hB
            rw [ht] at hP
            obtain ⟨fg28_n0, hcg28⟩ := hwg28
            have fg28_k0 : g28 (63) = .inl (cI, 4, .inl (fw)) := (hcg28 (63) (by decide)).trans fg26_k0
            have fg28_k1 : g28 (64) = .inl (cI, 8, .inl (fsz)) := (hcg28 (64) (by decide)).trans fg26_k1
            have fg28_k2 : g28 (65) = .inl (cI, 40, .inl (fwd)) := (hcg28 (65) (by decide)).trans fg26_k2
            have fg28_k3 : g28 (66) = .inl (cI, 300, .inl (ftx)) := (hcg28 (66) (by decide)).trans fg26_k3
            have hfrg28 : ∀ j : Nat, j ≠ 62 → g28 j = g j := fun j h0 => (hcg28 j h0).trans (hfrg26 j h0)
            rw [show (pwn Wt w (u k1) (ln k1) (d1 + 1)) + (Rat.divInt ((Wt ^ (d1 + 1) : Nat) : Int) ((wfr w (u (k1)) (d1 + 1) : Nat) : Int)) = pwn Wt w (u k1) (ln k1) (d1) from pwn_y (hwA k1) hby] at fg28_n0
            refine lv_aload_n hx hb dX6_won_140 rfl (lv_at hl 0 rfl) ?_
            refine xw_get hx hb hts hin6 hown hK hP (by decide) fg28_n0 rfl 9 (by decide) hf106 rfl rfl dX6_won_141 ?_
            refine lv_lstore_n (lv' := [(3, .long (lZ ((pwn Wt w (u k1) (ln k1) (d1)).num))), (0, .ref (ad (62))), (1, .int (nI (k1))), (2, .int (nI ((a0 + ln k1)))), (5, .long (lZ (((pwn Wt w (u k1) (ln k1) (d1 + 1)).den : Int)))), (7, .int (nI (i))), (8, .int (nI (b))), (9, .int (nI (j)))]) hx hb dX6_won_144 rfl hl (by decide) rfl (fun ls hl => ?_)
            refine lv_aload_n hx hb dX6_won_145 rfl (lv_at hl 1 rfl) ?_
            refine xw_get hx hb hts hin6 hown hK hP (by decide) fg28_n0 rfl 10 (by decide) hf109 rfl rfl dX6_won_146 ?_
            refine lv_lstore (lv' := [(5, .long (lZ (((pwn Wt w (u k1) (ln k1) (d1)).den : Int)))), (3, .long (lZ ((pwn Wt w (u k1) (ln k1) (d1)).num))), (0, .ref (ad (62))), (1, .int (nI (k1))), (2, .int (nI ((a0 + ln k1)))), (7, .int (nI (i))), (8, .int (nI (b))), (9, .int (nI (j)))]) hx hb dX6_won_149 hl (by decide) rfl (fun ls hl => ?_)
            refine lv_iinc (v := nI (i + 1)) (lv' := [(7, .int (nI (i + 1))), (5, .long (lZ (((pwn Wt w (u k1) (ln k1) (d1)).den : Int)))), (3, .long (lZ ((pwn Wt w (u k1) (ln k1) (d1)).num))), (0, .ref (ad (62))), (1, .int (nI (k1))), (2, .int (nI ((a0 + ln k1)))), (8, .int (nI (b))), (9, .int (nI (j)))]) hx hb dX6_won_151 hl (k := 5) rfl (nI_add (i) 1) (by decide) rfl (fun ls hl => ?_)
            refine lv_goto (tgt := 32) hx hb dX6_won_154 (by decide) ?_
            exact ih32 (i + 1, d1, lZ ((pwn Wt w (u k1) (ln k1) (d1)).num), lZ (((pwn Wt w (u k1) (ln k1) (d1)).den : Int))) g28 H locs ls ⟨(by omega), fg28_n0, fg28_k0, fg28_k1, fg28_k2, fg28_k3, hfrg28, hP, hS, (lv_sub hl [3, 4, 5, 2, 1, 0] rfl)⟩ (by first | omega | (dsimp only; omega))
          · have hb1 := hbq.resolve_left (fun h => absurd h.1 (by omega))
            have hbno : ¬ (d1 + 1 ≤ ln k1 ∧ lapD (u k1) (ln k1) (u k1) (d1 + 1)) := fun h => hb1.2 ⟨h.1, fun x hx => by rw [← h.2 x hx, ← ha2 _ (by omega), show a0 + (ln k1 - (d1 + 1) + x) = i + x by omega]⟩
            refine lv_goto (tgt := 151) hx hb dX6_won_113 (by decide) ?_
            refine lv_iinc (v := nI (i + 1)) (lv' := [(7, .int (nI (i + 1))), (0, .ref (ad (62))), (1, .int (nI (k1))), (2, .int (nI ((a0 + ln k1)))), (3, .long (lZ ((pwn Wt w (u k1) (ln k1) (d1 + 1)).num))), (5, .long (lZ (((pwn Wt w (u k1) (ln k1) (d1 + 1)).den : Int)))), (8, .int (nI (b))), (9, .int (nI (j)))]) hx hb dX6_won_151 hl (k := 5) rfl (nI_add (i) 1) (by decide) rfl (fun ls hl => ?_)
            refine lv_goto (tgt := 32) hx hb dX6_won_154 (by decide) ?_
            exact ih32 (i + 1, d1, nx, dx) gl32_5 H locs ls ⟨(by omega), fo62, fa63, fa64, fa65, fa66, hfrgl32_5, hP, hS, (by rw [← pwn_n (j := d1) (fun h => hbno h)]; exact (lv_sub hl [1, 2, 3, 4, 5, 0] rfl))⟩ (by first | omega | (dsimp only; omega))
        · refine lv_iload hx hb dX6_won_70 (lv_at hl 6 rfl) ?_
          refine xi_if_eq (tgt := 108) hx hb (by rcases hbq with h | h <;> omega) dX6_won_72 (by decide) (fun c72_30 => ?_) (fun c72_30 => ?_)
          · refine lv_iload hx hb dX6_won_108 (lv_at hl 6 rfl) ?_
            refine xi_if_ne (tgt := 116) hx hb (by rcases hbq with h | h <;> omega) dX6_won_110 (by decide) (fun c110_31 => ?_) (fun c110_31 => ?_)
            · have hb1 := hbq.resolve_right (fun h => c110_31 h.1)
              have hb3 : ∀ x, x < d1 + 1 → t (i + x) = u k1 x := fun x hx => hb1.2.2 x (by have h5 := c72_30; omega)
              have hby : d1 + 1 ≤ ln k1 ∧ lapD (u k1) (ln k1) (u k1) (d1 + 1) := ⟨hb1.2.1, fun x hx => by have h1 := hb1.2.1; rw [← ha2 _ (by omega), ← hb3 x hx, show a0 + (ln k1 - (d1 + 1) + x) = i + x by omega]⟩
              refine lv_aload_n hx hb dX6_won_116 rfl (lv_at hl 0 rfl) ?_
              refine lv_iload_n hx hb dX6_won_117 rfl (lv_at hl 1 rfl) ?_
              refine lv_iload_n hx hb dX6_won_118 rfl (lv_at hl 2 rfl) ?_
              refine lv_iload hx hb dX6_won_119 (lv_at hl 5 rfl) ?_
              refine xi_sub hx hb (by omega) dX6_won_121 ?_
              refine xtopi (y := nI (d1 + 1)) (congrArg nI (show (a0 + ln k1) - i = d1 + 1 by omega)) ?_
              refine va_callv (va_runV (As := [.int (nI (k1)), .int (nI (d1 + 1))]) (rest := []) ⟨hx, hb, hml, hown, hts⟩ (mX6_over l hD (w := w) (ln := ln) (t := t) (u := u) fo62 fa63 fa65 hfw hwl hq2 hq4 hln hul hT ht hw1 hw hWt (by omega) hby.1) (cwV 2 hts gX6_won_X6_over rfl rfl rfl (by decide +kernel) ⟨Nat.le_of_ble_eq_true rfl, Nat.le_of_ble_eq_true rfl⟩) ⟨xB_blind, va_recv hK hP (ci := 6) rfl (xw_is (by decide) fo62), fun U hU hW => ⟨rfl, by rw [hU]; exact hP, va_K.moved hW.alike hK, va_Nw.warmM hW hN⟩⟩ rfl rfl hl.1 rfl (lv_room (Nat.le_of_ble_eq_true rfl)) dX6_won_122 ⟨Nat.le_of_ble_eq_true rfl, Nat.le_of_ble_eq_true rfl⟩) hS (fun _ _ h => h) (fun _ h => h) (fun g32 tZ H locs ht hvm hwg32 hB hzZ hkZ hS => ?_)
              obtain ⟨hP, -⟩ := hB
              rw [ht] at hP
              obtain ⟨fg32_n0, hcg32⟩ := hwg32
              have fg32_k0 : g32 (63) = .inl (cI, 4, .inl (fw)) := (hcg32 (63) (by decide)).trans fa63
              have fg32_k1 : g32 (64) = .inl (cI, 8, .inl (fsz)) := (hcg32 (64) (by decide)).trans fa64
              have fg32_k2 : g32 (65) = .inl (cI, 40, .inl (fwd)) := (hcg32 (65) (by decide)).trans fa65
              have fg32_k3 : g32 (66) = .inl (cI, 300, .inl (ftx)) := (hcg32 (66) (by decide)).trans fa66
              have hfrg32 : ∀ j : Nat, j ≠ 62 → g32 j = g j := fun j h0 => (hcg32 j h0).trans (hfrgl32_5 j h0)
              refine lv_aload_n hx hb dX6_won_125 rfl (lv_at hl 0 rfl) ?_
              refine lv_lload_n hx hb dX6_won_126 rfl (lv_at hl 3 rfl) ?_
              refine lv_lload hx hb dX6_won_127 (lv_at hl 4 rfl) ?_
              refine lv_aload_n hx hb dX6_won_129 rfl (lv_at hl 0 rfl) ?_
              refine xw_get hx hb hts hin6 hown hK hP (by decide) fg32_n0 rfl 9 (by decide) hf106 rfl rfl dX6_won_130 ?_
              refine lv_aload_n hx hb dX6_won_133 rfl (lv_at hl 0 rfl) ?_
              refine xw_get hx hb hts hin6 hown hK hP (by decide) fg32_n0 rfl 10 (by decide) hf109 rfl rfl dX6_won_134 ?_
              refine va_callv (va_runV (As := [.long (lZ ((pwn Wt w (u k1) (ln k1) (d1 + 1)).num)), .long (lZ (((pwn Wt w (u k1) (ln k1) (d1 + 1)).den : Int))), .long (lZ ((Rat.divInt ((Wt ^ (d1 + 1) : Nat) : Int) ((wfr w (u (k1)) (d1 + 1) : Nat) : Int)).num)), .long (lZ (((Rat.divInt ((Wt ^ (d1 + 1) : Nat) : Int) ((wfr w (u (k1)) (d1 + 1) : Nat) : Int)).den : Int)))]) (rest := []) ⟨hx, hb, hml, hown, hts⟩ (mX6_add l hD (w := w) (ln := ln) (t := t) (u := u) (x := pwn Wt w (u k1) (ln k1) (d1 + 1)) (y := Rat.divInt ((Wt ^ (d1 + 1) : Nat) : Int) ((wfr w (u (k1)) (d1 + 1) : Nat) : Int)) fg32_n0 rfl rfl rfl rfl (pwn_fit (hwA k1) (hwB k1) hWt hn1 (by omega)) (over_fit (hwA k1) (hwB k1) hWt hn1 hby.1) (pwn_fitA (hwA k1) (hwB k1) hWt hn1 (by omega) hby.1)) (cwV 4 hts gX6_won_X6_add rfl rfl rfl (by decide +kernel) ⟨Nat.le_of_ble_eq_true rfl, Nat.le_of_ble_eq_true rfl⟩) ⟨xB_blind, va_recv hK hP (ci := 6) rfl (xw_is (by decide) fg32_n0), fun U hU hW => ⟨rfl, by rw [hU]; exact hP, va_K.moved hW.alike hK, va_Nw.warmM hW hN⟩⟩ rfl rfl hl.1 rfl (lv_room (Nat.le_of_ble_eq_true rfl)) dX6_won_137 ⟨Nat.le_of_ble_eq_true rfl, Nat.le_of_ble_eq_true rfl⟩) hS (fun _ _ h => h) (fun _ h => h) (fun g34 tZ H locs ht hvm hwg34 hB hzZ hkZ hS => ?_)
              obtain ⟨hP, -⟩ := hB
              rw [ht] at hP
              obtain ⟨fg34_n0, hcg34⟩ := hwg34
              have fg34_k0 : g34 (63) = .inl (cI, 4, .inl (fw)) := (hcg34 (63) (by decide)).trans fg32_k0
              have fg34_k1 : g34 (64) = .inl (cI, 8, .inl (fsz)) := (hcg34 (64) (by decide)).trans fg32_k1
              have fg34_k2 : g34 (65) = .inl (cI, 40, .inl (fwd)) := (hcg34 (65) (by decide)).trans fg32_k2
              have fg34_k3 : g34 (66) = .inl (cI, 300, .inl (ftx)) := (hcg34 (66) (by decide)).trans fg32_k3
              have hfrg34 : ∀ j : Nat, j ≠ 62 → g34 j = g j := fun j h0 => (hcg34 j h0).trans (hfrg32 j h0)
              rw [show (pwn Wt w (u k1) (ln k1) (d1 + 1)) + (Rat.divInt ((Wt ^ (d1 + 1) : Nat) : Int) ((wfr w (u (k1)) (d1 + 1) : Nat) : Int)) = pwn Wt w (u k1) (ln k1) (d1) from pwn_y (hwA k1) hby] at fg34_n0
              refine lv_aload_n hx hb dX6_won_140 rfl (lv_at hl 0 rfl) ?_
              refine xw_get hx hb hts hin6 hown hK hP (by decide) fg34_n0 rfl 9 (by decide) hf106 rfl rfl dX6_won_141 ?_
              refine lv_lstore_n (lv' := [(3, .long (lZ ((pwn Wt w (u k1) (ln k1) (d1)).num))), (0, .ref (ad (62))), (1, .int (nI (k1))), (2, .int (nI ((a0 + ln k1)))), (5, .long (lZ (((pwn Wt w (u k1) (ln k1) (d1 + 1)).den : Int)))), (7, .int (nI (i))), (8, .int (nI (b))), (9, .int (nI (j)))]) hx hb dX6_won_144 rfl hl (by decide) rfl (fun ls hl => ?_)
              refine lv_aload_n hx hb dX6_won_145 rfl (lv_at hl 1 rfl) ?_
              refine xw_get hx hb hts hin6 hown hK hP (by decide) fg34_n0 rfl 10 (by decide) hf109 rfl rfl dX6_won_146 ?_
              refine lv_lstore (lv' := [(5, .long (lZ (((pwn Wt w (u k1) (ln k1) (d1)).den : Int)))), (3, .long (lZ ((pwn Wt w (u k1) (ln k1) (d1)).num))), (0, .ref (ad (62))), (1, .int (nI (k1))), (2, .int (nI ((a0 + ln k1)))), (7, .int (nI (i))), (8, .int (nI (b))), (9, .int (nI (j)))]) hx hb dX6_won_149 hl (by decide) rfl (fun ls hl => ?_)
              refine lv_iinc (v := nI (i + 1)) (lv' := [(7, .int (nI (i + 1))), (5, .long (lZ (((pwn Wt w (u k1) (ln k1) (d1)).den : Int)))), (3, .long (lZ ((pwn Wt w (u k1) (ln k1) (d1)).num))), (0, .ref (ad (62))), (1, .int (nI (k1))), (2, .int (nI ((a0 + ln k1)))), (8, .int (nI (b))), (9, .int (nI (j)))]) hx hb dX6_won_151 hl (k := 5) rfl (nI_add (i) 1) (by decide) rfl (fun ls hl => ?_)
              refine lv_goto (tgt := 32) hx hb dX6_won_154 (by decide) ?_
              exact ih32 (i + 1, d1, lZ ((pwn Wt w (u k1) (ln k1) (d1)).num), lZ (((pwn Wt w (u k1) (ln k1) (d1)).den : Int))) g34 H locs ls ⟨(by omega), fg34_n0, fg34_k0, fg34_k1, fg34_k2, fg34_k3, hfrg34, hP, hS, (lv_sub hl [3, 4, 5, 2, 1, 0] rfl)⟩ (by first | omega | (dsimp only; omega))
            · have hb1 := hbq.resolve_left (fun h => absurd h.1 (by omega))
              have hbno : ¬ (d1 + 1 ≤ ln k1 ∧ lapD (u k1) (ln k1) (u k1) (d1 + 1)) := fun h => hb1.2 ⟨h.1, fun x hx => by rw [← h.2 x hx, ← ha2 _ (by omega), show a0 + (ln k1 - (d1 + 1) + x) = i + x by omega]⟩
              refine lv_goto (tgt := 151) hx hb dX6_won_113 (by decide) ?_
              refine lv_iinc (v := nI (i + 1)) (lv' := [(7, .int (nI (i + 1))), (0, .ref (ad (62))), (1, .int (nI (k1))), (2, .int (nI ((a0 + ln k1)))), (3, .long (lZ ((pwn Wt w (u k1) (ln k1) (d1 + 1)).num))), (5, .long (lZ (((pwn Wt w (u k1) (ln k1) (d1 + 1)).den : Int)))), (8, .int (nI (b))), (9, .int (nI (j)))]) hx hb dX6_won_151 hl (k := 5) rfl (nI_add (i) 1) (by decide) rfl (fun ls hl => ?_)
              refine lv_goto (tgt := 32) hx hb dX6_won_154 (by decide) ?_
              exact ih32 (i + 1, d1, nx, dx) gl32_5 H locs ls ⟨(by omega), fo62, fa63, fa64, fa65, fa66, hfrgl32_5, hP, hS, (by rw [← pwn_n (j := d1) (fun h => hbno h)]; exact (lv_sub hl [1, 2, 3, 4, 5, 0] rfl))⟩ (by first | omega | (dsimp only; omega))
          · have hb1 := hbq.resolve_right (fun h => c72_30 h.1)
            have hb1l := hb1.2.1
            refine lv_aload_n hx hb dX6_won_75 rfl (lv_at hl 0 rfl) ?_
            refine xw_get hx hb hts hin6 hown hK hP (by decide) fo62 rfl 5 (by decide) hf26 rfl rfl dX6_won_76 ?_
            refine lv_iload hx hb dX6_won_79 (lv_at hl 5 rfl) ?_
            refine lv_iload hx hb dX6_won_81 (lv_at hl 7 rfl) ?_
            refine xi_add hx hb dX6_won_83 ?_
            refine xw_iald hx hb hK hP (by decide) 0 fa66 rfl (by omega) (by decide) dX6_won_84 ?_
            rw [htx (i + j) (by omega)]
            refine lv_aload_n hx hb dX6_won_85 rfl (lv_at hl 0 rfl) ?_
            refine lv_iload_n hx hb dX6_won_86 rfl (lv_at hl 1 rfl) ?_
            refine lv_iload hx hb dX6_won_87 (lv_at hl 7 rfl) ?_
            refine vp_callSi (va_Run.run (va_runV (As := [.int (nI (k1)), .int (nI (j))]) (rest := [.int (nI (t (i + j)))]) ⟨hx, hb, hml, hown, hts⟩ (mX6_letterOf l (w := w) (ln := ln) (t := t) (u := u) (s1 := k1) (j1 := j) (vv := u (k1) (j)) fo62 fa65 (by omega) (by have h9 := hln (k1); omega) (hwl (k1) (j) (by omega) (by omega))) (cwV 2 hts gX6_won_X6_letterOf rfl rfl rfl (by decide +kernel) ⟨Nat.le_of_ble_eq_true rfl, Nat.le_of_ble_eq_true rfl⟩) ⟨xB_blind, va_recv hK hP (ci := 6) rfl (xw_is (by decide) fo62), fun U hU hW => ⟨rfl, by rw [hU]; exact hP, va_K.moved hW.alike hK, va_Nw.warmM hW hN⟩⟩ rfl rfl hl.1 rfl (lv_room (Nat.le_of_ble_eq_true rfl)) dX6_won_89 ⟨Nat.le_of_ble_eq_true rfl, Nat.le_of_ble_eq_true rfl⟩)) (fun r36 er36 => ?_)
            subst er36
            refine xi_icmp_ne (tgt := 99) hx hb (Nat.lt_trans (ht _ (by omega)) (by omega)) (Nat.lt_trans (hul _ _ (by omega)) (by omega)) dX6_won_92 (by decide) (fun c92_37 => ?_) (fun c92_37 => ?_)
            · refine lv_iconst (v := nI (0)) hx hb dX6_won_99 (by decide) ?_
              refine lv_istore (lv' := [(8, .int (nI (0))), (0, .ref (ad (62))), (1, .int (nI (k1))), (2, .int (nI ((a0 + ln k1)))), (3, .long (lZ ((pwn Wt w (u k1) (ln k1) (d1 + 1)).num))), (5, .long (lZ (((pwn Wt w (u k1) (ln k1) (d1 + 1)).den : Int)))), (7, .int (nI (i))), (9, .int (nI (j)))]) hx hb dX6_won_100 hl (by decide) rfl (fun ls hl => ?_)
              refine lv_iinc (v := nI (j + 1)) (lv' := [(9, .int (nI (j + 1))), (8, .int (nI (0))), (0, .ref (ad (62))), (1, .int (nI (k1))), (2, .int (nI ((a0 + ln k1)))), (3, .long (lZ ((pwn Wt w (u k1) (ln k1) (d1 + 1)).num))), (5, .long (lZ (((pwn Wt w (u k1) (ln k1) (d1 + 1)).den : Int)))), (7, .int (nI (i)))]) hx hb dX6_won_102 hl (k := 7) rfl (nI_add (j) 1) (by decide) rfl (fun ls hl => ?_)
              refine lv_goto (tgt := 61) hx hb dX6_won_105 (by decide) ?_
              exact ih61 (j + 1, 0) ls ⟨(by omega), (Or.inr ⟨rfl, fun h => c92_37 (h.2 j (by omega))⟩), (lv_sub hl [2, 3, 4, 5, 6, 7, 1, 0] rfl)⟩ (by first | omega | (dsimp only; omega))
            · refine lv_iconst (v := nI (1)) hx hb dX6_won_95 (by decide) ?_
              refine lv_goto (tgt := 100) hx hb dX6_won_96 (by decide) ?_
              refine lv_istore (lv' := [(8, .int (nI (1))), (0, .ref (ad (62))), (1, .int (nI (k1))), (2, .int (nI ((a0 + ln k1)))), (3, .long (lZ ((pwn Wt w (u k1) (ln k1) (d1 + 1)).num))), (5, .long (lZ (((pwn Wt w (u k1) (ln k1) (d1 + 1)).den : Int)))), (7, .int (nI (i))), (9, .int (nI (j)))]) hx hb dX6_won_100 hl (by decide) rfl (fun ls hl => ?_)
              refine lv_iinc (v := nI (j + 1)) (lv' := [(9, .int (nI (j + 1))), (8, .int (nI (1))), (0, .ref (ad (62))), (1, .int (nI (k1))), (2, .int (nI ((a0 + ln k1)))), (3, .long (lZ ((pwn Wt w (u k1) (ln k1) (d1 + 1)).num))), (5, .long (lZ (((pwn Wt w (u k1) (ln k1) (d1 + 1)).den : Int)))), (7, .int (nI (i)))]) hx hb dX6_won_102 hl (k := 7) rfl (nI_add (j) 1) (by decide) rfl (fun ls hl => ?_)
              refine lv_goto (tgt := 61) hx hb dX6_won_105 (by decide) ?_
              exact ih61 (j + 1, 1) ls ⟨(by omega), (Or.inl ⟨rfl, hb1.2.1, fun x hx => if e : x = j then by rw [e]; exact c92_37 else hb1.2.2 x (by omega)⟩), (lv_sub hl [2, 3, 4, 5, 6, 7, 1, 0] rfl)⟩ (by first | omega | (dsimp only; omega))
  · refine lv_goto (tgt := 17) hx hb dX6_won_13 (by decide) ?_
    refine lv_istore_n (lv' := [(2, .int ((-1))), (0, .ref (ad (62))), (1, .int (nI (k1)))]) hx hb dX6_won_17 rfl hl (by decide) rfl (fun ls hl => ?_)
    refine lv_iload_n hx hb dX6_won_18 rfl (lv_at hl 0 rfl) ?_
    refine lv_if_ge (tgt := 24) hx hb dX6_won_19 (by decide) (fun c19_38 => ?_) (fun c19_38 => ?_)
    · exact absurd c19_38 (by decide)
    · refine lv_iconst (v := nI (0)) hx hb dX6_won_22 (by decide) ?_
      exact W.zret (v := nI (0)) hx hb hr (by decide) (fun tZ ht hW => ⟨⟨_, g, rfl, (by have hO : oWon Wt w ln u T t (nI k1) = none := (by unfold oWon; rw [slotW_yes hk1 hp1]; show (match fstT T t (u k1) (ln k1) with | some _ => _ | none => none) = none; rw [fstT_none hno]); show _ = (if (oWon Wt w ln u T t (nI k1)).isSome then 1 else 0) ∧ _; rw [hO]; exact ⟨rfl, hM, fun _ _ => rfl⟩), by rw [ht]; exact hP, va_K.moved hW.alike hK, va_Nw.warmM hW hN⟩, hS.F ht⟩) hS.2.2 dX6_won_23

set_option maxHeartbeats 4000000 in
set_option maxRecDepth 100000 in
theorem mX6_won_n (l : Launch) {D : va_G} {cI cJ cZ cW : ClassId} {ad : Nat → Nat} {A : Nat → Prop} (hD : ∀ g, va_D A (xw 81 ad g)) {g : Nat → va_E} {q Wt : Nat} {w : Nat → Nat} {ln : Nat → Nat} {u : Nat → Nat → Nat} {T : Nat} {t : Nat → Nat} {tp bt : Int64} {xa : Int32}  (hM : ModI cI cJ ad g q Wt w ln u T t tp bt) (hs : SrcI q Wt w ln u T t) (hxa : noW ln xa) : Met l yX6_won wsX6_won ({ frames := 3, cells := 0, slots := 0, locals := 85 }) (va_Pc [.ref (ad (62)), .int (xa)] (xB D (xT cI cJ cZ cW) ad g)) (va_Qi (fun r g2 => r = (if (oWon Wt w ln u T t (xa)).isSome then 1 else 0) ∧ ModI cI cJ ad g2 q Wt w ln u T t (hTp (oWon Wt w ln u T t (xa)) tp) (hBt (oWon Wt w ln u T t (xa)) bt) ∧ ∀ j : Nat, j < 62 → g2 j = g j) (xB D (xT cI cJ cZ cW) ad) A) 0 0 A := by
  refine Met.ofW (cc := cX6_won) (maxL := 10) (ret := (some .boolean)) (by decide) rfl ?_
  intro p e s m args below meth c s₁ B hml hv
  obtain ⟨rfl, hP, hK, hN⟩ := hv
  have hx := B.exec
  have hb := B.bytes
  have hr := B.returns
  have hts := atoms_spec (ws := wsX6_won) B.pre
  have hown : s.vm.findClass RX6 = some m.cls := findClass_of_methodNamed B.named
  have hlocks := B.notSynchronized
  have hS : va_S A s.heap s.heap [] := va_S.rf
  have hl := lv_entry ([.ref (ad (62)), .int (xa)]) (n := 10) (Nat.le_of_ble_eq_true rfl)
  rw [lg_entry_eq]
  generalize (lg_sl ([.ref (ad (62)), .int (xa)]) ++ List.replicate (10 - (lg_sl ([.ref (ad (62)), .int (xa)])).length) Slot.unset).toArray = ls at hl ⊢
  have hl : lv_has ls 10 [(0, .ref (ad (62))), (1, .int (xa))] := hl
  obtain ⟨hq2, hq4, hw1, hw0, hWs, hWt, hw, hln, hul, hT, ht⟩ := hs
  obtain ⟨sq, nu, de, fw, fsz, fwd, ftx, fos, foz, fgo, frw, fan, fad, frn, frd, fen, fed, fcn, fcd, fnw, fth, fo62, fa63, fa64, fa65, fa66, fa67, fa68, fa69, fa70, fa71, fa72, fa73, fa74, fa75, fa76, fa77, fa78, fa79, fa80, hfw, hsz, hwl, htx⟩ := id hM
  have hWp : 1 ≤ Wt ∧ Wt ≤ 4 := by have h8 := hw1 0 (by omega); have h9 := wsum_mono (w := w) (show 1 ≤ q by omega); have h7 : wsum w 1 = 0 + w 0 := rfl; omega
  have hwA : ∀ k j, j < ln k → 1 ≤ w (u k j) := fun k j hj => hw1 _ (hul k j hj)
  have hwB : ∀ k j, j < ln k → w (u k j) ≤ 4 := fun k j hj => hw _ (Nat.lt_of_lt_of_le (hul k j hj) hq4)
  refine lv_aload_n hx hb dX6_won_0 rfl (lv_at hl 0 rfl) ?_
  refine lv_iload_n hx hb dX6_won_1 rfl (lv_at hl 1 rfl) ?_
  refine vp_callSi (va_Run.run (va_runV (As := [.int (xa)]) (rest := []) ⟨hx, hb, hml, hown, hts⟩ (mX6_isWord_no l (w := w) (ln := ln) (t := t) (u := u) fo62 fa64 hsz hxa) (cwV 1 hts gX6_won_X6_isWord rfl rfl rfl (by decide +kernel) ⟨Nat.le_of_ble_eq_true rfl, Nat.le_of_ble_eq_true rfl⟩) ⟨xB_blind, va_recv hK hP (ci := 6) rfl (xw_is (by decide) fo62), fun U hU hW => ⟨rfl, by rw [hU]; exact hP, va_K.moved hW.alike hK, va_Nw.warmM hW hN⟩⟩ rfl rfl hl.1 rfl (lv_room (Nat.le_of_ble_eq_true rfl)) dX6_won_2 ⟨Nat.le_of_ble_eq_true rfl, Nat.le_of_ble_eq_true rfl⟩)) (fun r1 er1 => ?_)
  subst er1
  refine xi_if_eq (tgt := 16) hx hb (by decide) dX6_won_5 (by decide) (fun _ => ?_) (fun c0 => absurd c0 (by decide))
  refine lv_iconst (v := (-1)) hx hb dX6_won_16 (by decide) ?_
  refine lv_istore_n (lv' := [(2, .int ((-1))), (0, .ref (ad (62))), (1, .int (xa))]) hx hb dX6_won_17 rfl hl (by decide) rfl (fun ls hl => ?_)
  refine lv_iload_n hx hb dX6_won_18 rfl (lv_at hl 0 rfl) ?_
  refine lv_if_ge (tgt := 24) hx hb dX6_won_19 (by decide) (fun c19_3 => ?_) (fun c19_3 => ?_)
  · exact absurd c19_3 (by decide)
  · refine lv_iconst (v := nI (0)) hx hb dX6_won_22 (by decide) ?_
    exact W.zret (v := nI (0)) hx hb hr (by decide) (fun tZ ht hW => ⟨⟨_, g, rfl, (by have hO : oWon Wt w ln u T t xa = none := (by unfold oWon; rw [slotW_no hxa]); show _ = (if (oWon Wt w ln u T t xa).isSome then 1 else 0) ∧ _; rw [hO]; exact ⟨rfl, hM, fun _ _ => rfl⟩), by rw [ht]; exact hP, va_K.moved hW.alike hK, va_Nw.warmM hW hN⟩, hS.F ht⟩) hS.2.2 dX6_won_23

theorem mX6_won (l : Launch) {D : va_G} {cI cJ cZ cW : ClassId} {ad : Nat → Nat} {A : Nat → Prop} (hD : ∀ g, va_D A (xw 81 ad g)) {g : Nat → va_E} {q Wt : Nat} {w : Nat → Nat} {ln : Nat → Nat} {u : Nat → Nat → Nat} {T : Nat} {t : Nat → Nat} {tp bt : Int64} (hM : ModI cI cJ ad g q Wt w ln u T t tp bt) (hs : SrcI q Wt w ln u T t) (xa : Int32) : Met l yX6_won wsX6_won ({ frames := 3, cells := 0, slots := 0, locals := 85 }) (va_Pc [.ref (ad (62)), .int xa] (xB D (xT cI cJ cZ cW) ad g)) (va_Qi (fun r g2 => r = (if (oWon Wt w ln u T t (xa)).isSome then 1 else 0) ∧ ModI cI cJ ad g2 q Wt w ln u T t (hTp (oWon Wt w ln u T t (xa)) tp) (hBt (oWon Wt w ln u T t (xa)) bt) ∧ ∀ j : Nat, j < 62 → g2 j = g j) (xB D (xT cI cJ cZ cW) ad) A) 0 0 A := by
  rcases slotW_cases ln xa with hxa | ⟨k1, hk1, rfl, hp1⟩
  · exact mX6_won_n l hD hM hs hxa
  · exact mX6_won_s l hD hM hs hk1 hp1
