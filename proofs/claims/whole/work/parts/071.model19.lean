theorem cwA_s {q Wt : Nat} {w : Nat → Nat} {k : Nat} (h : k + 1 ≤ 2 ^ q - 1) : cwA q Wt w (2 ^ q - 1 - k) = va_up (cwA q Wt w (2 ^ q - 2 - k)) k (cwN Wt w (cwA q Wt w (2 ^ q - 2 - k)) k q * Rat.divInt 1 (((Wt - wset w k q : Nat)) : Int)) := by
  rw [show 2 ^ q - 1 - k = (2 ^ q - 2 - k) + 1 by omega]
  show va_up _ (2 ^ q - 2 - (2 ^ q - 2 - k)) _ = _
  rw [show 2 ^ q - 2 - (2 ^ q - 2 - k) = k by omega]
theorem cw_up {fc fd : Nat → Int64} {F : Nat → Rat} {x : Rat} {k N : Nat} (h : ∀ s, k + 1 ≤ s → s < N → fc s = lZ (F s).num ∧ fd s = lZ ((F s).den : Int)) : ∀ s, k ≤ s → s < N → vp_updL fc k (lZ x.num) s = lZ (va_up F k x s).num ∧ vp_updL fd k (lZ (x.den : Int)) s = lZ ((va_up F k x s).den : Int) := fun s h1 h2 => by
  by_cases e : s = k
  · rw [e, pk_uLs, pk_uLs, va_up_self]; exact ⟨rfl, rfl⟩
  · rw [pk_uLn e, pk_uLn e, va_up_ne _ _ e]; exact h s (by omega) h2
set_option maxHeartbeats 4000000 in
set_option maxRecDepth 100000 in
theorem mX6_cover (l : Launch) {D : va_G} {cI cJ cZ cW : ClassId} {ad : Nat → Nat} {A : Nat → Prop} (hD : ∀ g, va_D A (xw 81 ad g)) {g : Nat → va_E} {q Wt : Nat} {w : Nat → Nat} {ln : Nat → Nat} {u : Nat → Nat → Nat} {T : Nat} {t : Nat → Nat} {tp bt : Int64}  (hM : ModI cI cJ ad g q Wt w ln u T t tp bt) (hs : SrcI q Wt w ln u T t) (hCv : cvOK q Wt w) : Met l yX6_cover wsX6_cover ({ frames := 3, cells := 0, slots := 0, locals := 87 }) (va_Pc [.ref (ad (62))] (xB D (xT cI cJ cZ cW) ad g)) (va_Qv (fun g2 => ModI cI cJ ad g2 q Wt w ln u T t (lZ (fCover q Wt w).num) (lZ ((fCover q Wt w).den : Int)) ∧ ∀ j : Nat, j < 62 → g2 j = g j) (xB D (xT cI cJ cZ cW) ad) A) 0 0 A := by
  refine Met.ofW (cc := cX6_cover) (maxL := 9) (ret := none) (by decide) rfl ?_
  intro p e s m args below meth c s₁ B hml hv
  obtain ⟨rfl, hP, hK, hN⟩ := hv
  have hx := B.exec
  have hb := B.bytes
  have hr := B.returns
  have hts := atoms_spec (ws := wsX6_cover) B.pre
  have hown : s.vm.findClass RX6 = some m.cls := findClass_of_methodNamed B.named
  have hlocks := B.notSynchronized
  have hS : va_S A s.heap s.heap [] := va_S.rf
  have hin6 : ∀ w ∈ wsX60, w ∈ wsX6_cover := by decide +kernel
  have hf7 := hts (.fieldLink RX6 7 "LettersByLotModel" "q" "I") (by decide +kernel)
  have hf13 := hts (.fieldLink RX6 13 "LettersByLotModel" "all" "I") (by decide +kernel)
  have hf16 := hts (.fieldLink RX6 16 "LettersByLotModel" "weight" "[I") (by decide +kernel)
  have hf64 := hts (.fieldLink RX6 64 "LettersByLotModel" "cn" "[J") (by decide +kernel)
  have hf67 := hts (.fieldLink RX6 67 "LettersByLotModel" "cd" "[J") (by decide +kernel)
  have hf106 := hts (.fieldLink RX6 106 "LettersByLotModel" "num" "J") (by decide +kernel)
  have hf109 := hts (.fieldLink RX6 109 "LettersByLotModel" "den" "J") (by decide +kernel)
  have hl := lv_entry ([.ref (ad (62))]) (n := 9) (Nat.le_of_ble_eq_true rfl)
  rw [lg_entry_eq]
  generalize (lg_sl ([.ref (ad (62))]) ++ List.replicate (9 - (lg_sl ([.ref (ad (62))])).length) Slot.unset).toArray = ls at hl ⊢
  have hl : lv_has ls 9 [(0, .ref (ad (62)))] := hl
  obtain ⟨hq2, hq4, hw1, hw0, hWs, hWt, hw, hln, hul, hT, ht⟩ := hs
  have hq16 : 4 ≤ 2 ^ q ∧ 2 ^ q ≤ 16 := ⟨Nat.pow_le_pow_right (n := 2) (by decide) hq2, Nat.le_trans (Nat.pow_le_pow_right (by decide) hq4) (by decide)⟩
  have hq15 : 2 ^ q - 1 < 16 := by omega
  obtain ⟨sq, nu, de, fw, fsz, fwd, ftx, fos, foz, fgo, frw, fan, fad, frn, frd, fen, fed, fcn, fcd, fnw, fth, fo62, fa63, fa64, fa65, fa66, fa67, fa68, fa69, fa70, fa71, fa72, fa73, fa74, fa75, fa76, fa77, fa78, fa79, fa80, hfw, hsz, hwl, htx⟩ := id hM
  have hWp : 1 ≤ Wt ∧ Wt ≤ 4 := by have h8 := hw1 0 (by omega); have h9 := wsum_mono (w := w) (show 1 ≤ q by omega); have h7 : wsum w 1 = 0 + w 0 := rfl; omega
  have hwA : ∀ k j, j < ln k → 1 ≤ w (u k j) := fun k j hj => hw1 _ (hul k j hj)
  have hwB : ∀ k j, j < ln k → w (u k j) ≤ 4 := fun k j hj => hw _ (Nat.lt_of_lt_of_le (hul k j hj) hq4)
  refine lv_iconst (v := nI (1)) hx hb dX6_cover_0 (by decide) ?_
  refine lv_aload_n hx hb dX6_cover_1 rfl (lv_at hl 0 rfl) ?_
  refine xw_get hx hb hts hin6 hown hK hP (by decide) fo62 rfl 0 (by decide) hf7 rfl rfl dX6_cover_2 ?_
  refine lv_ishl hx hb dX6_cover_5 ?_
  refine xtopi (y := nI (2 ^ q)) (nI_shl1 (by omega)) ?_
  refine lv_iconst (v := nI (1)) hx hb dX6_cover_6 (by decide) ?_
  refine xi_sub hx hb (by have h9 : 1 ≤ 2 ^ q := Nat.one_le_pow _ _ (by decide); omega) dX6_cover_7 ?_
  refine lv_istore_n (lv' := [(1, .int (nI ((2 ^ q) - 1))), (0, .ref (ad (62)))]) hx hb dX6_cover_8 rfl hl (by decide) rfl (fun ls hl => ?_)
  refine lv_aload_n hx hb dX6_cover_9 rfl (lv_at hl 1 rfl) ?_
  refine xw_get hx hb hts hin6 hown hK hP (by decide) fo62 rfl 22 (by decide) hf64 rfl rfl dX6_cover_10 ?_
  refine lv_iload_n hx hb dX6_cover_13 rfl (lv_at hl 0 rfl) ?_
  refine lv_lconst (v := lZ (0)) hx hb dX6_cover_14 (by decide) ?_
  refine xw_last hx hb hK hP hD hS (by decide) 1 fa77 rfl hq15 (by decide) dX6_cover_15 (fun g2 H locs eg2 hP hS => ?_)
  have fg2_0 : g2 (62) = .inr (6, [.int (nI (q)), .int (nI (Wt)), .ref (ad (63)), .ref (ad (64)), .ref (ad (65)), .ref (ad (66)), .int (nI (T)), .long (tp), .long (bt), .long (nu), .long (de), .int (sq), .ref (ad (67)), .ref (ad (68)), .ref (ad (69)), .ref (ad (70)), .ref (ad (71)), .ref (ad (72)), .ref (ad (73)), .ref (ad (74)), .ref (ad (75)), .ref (ad (76)), .ref (ad (77)), .ref (ad (78)), .ref (ad (79)), .ref (ad (80))]) := (congrFun eg2 (62)).trans ((va_up_ne _ _ (by decide)).trans fo62)
  have fg2_1 : g2 (63) = .inl (cI, 4, .inl (fw)) := (congrFun eg2 (63)).trans ((va_up_ne _ _ (by decide)).trans fa63)
  have fg2_2 : g2 (78) = .inl (cJ, 16, .inr (.inl (fcd))) := (congrFun eg2 (78)).trans ((va_up_ne _ _ (by decide)).trans fa78)
  have fg2_w : g2 (77) = .inl (cJ, 16, .inr (.inl (vp_updL (fcn) ((2 ^ q) - 1) (lZ (0))))) := (congrFun eg2 (77)).trans (va_up_self _ _ _)
  have hfrg2 : ∀ j : Nat, j ≠ 62 → j ≠ 77 → j ≠ 78 → g2 j = g j := fun j h0 h1 h2 => (congrFun eg2 j).trans ((va_up_ne _ _ h1).trans ((fun _ _ _ _ => rfl) j h0 h1 h2))
  refine lv_aload_n hx hb dX6_cover_16 rfl (lv_at hl 1 rfl) ?_
  refine xw_get hx hb hts hin6 hown hK hP (by decide) fg2_0 rfl 23 (by decide) hf67 rfl rfl dX6_cover_17 ?_
  refine lv_iload_n hx hb dX6_cover_20 rfl (lv_at hl 0 rfl) ?_
  refine lv_lconst (v := lZ (1)) hx hb dX6_cover_21 (by decide) ?_
  refine xw_last hx hb hK hP hD hS (by decide) 1 fg2_2 rfl hq15 (by decide) dX6_cover_22 (fun g3 H locs eg3 hP hS => ?_)
  have fg3_0 : g3 (62) = .inr (6, [.int (nI (q)), .int (nI (Wt)), .ref (ad (63)), .ref (ad (64)), .ref (ad (65)), .ref (ad (66)), .int (nI (T)), .long (tp), .long (bt), .long (nu), .long (de), .int (sq), .ref (ad (67)), .ref (ad (68)), .ref (ad (69)), .ref (ad (70)), .ref (ad (71)), .ref (ad (72)), .ref (ad (73)), .ref (ad (74)), .ref (ad (75)), .ref (ad (76)), .ref (ad (77)), .ref (ad (78)), .ref (ad (79)), .ref (ad (80))]) := (congrFun eg3 (62)).trans ((va_up_ne _ _ (by decide)).trans fg2_0)
  have fg3_1 : g3 (63) = .inl (cI, 4, .inl (fw)) := (congrFun eg3 (63)).trans ((va_up_ne _ _ (by decide)).trans fg2_1)
  have fg3_2 : g3 (77) = .inl (cJ, 16, .inr (.inl (vp_updL (fcn) ((2 ^ q) - 1) (lZ (0))))) := (congrFun eg3 (77)).trans ((va_up_ne _ _ (by decide)).trans fg2_w)
  have fg3_w : g3 (78) = .inl (cJ, 16, .inr (.inl (vp_updL (fcd) ((2 ^ q) - 1) (lZ (1))))) := (congrFun eg3 (78)).trans (va_up_self _ _ _)
  have hfrg3 : ∀ j : Nat, j ≠ 62 → j ≠ 77 → j ≠ 78 → g3 j = g j := fun j h0 h1 h2 => (congrFun eg3 j).trans ((va_up_ne _ _ h2).trans (hfrg2 j h0 h1 h2))
  refine lv_iload_n hx hb dX6_cover_23 rfl (lv_at hl 0 rfl) ?_
  refine lv_iconst (v := nI (1)) hx hb dX6_cover_24 (by decide) ?_
  refine xi_sub hx hb (by omega) dX6_cover_25 ?_
  refine xtopi (y := nI (2 ^ q - 1) - 1) (by rw [← pk_sub (show 1 ≤ 2 ^ q - 1 by omega)]; rfl) ?_
  refine lv_istore_n (lv' := [(2, .int (nI (2 ^ q - 1) - 1)), (1, .int (nI ((2 ^ q) - 1))), (0, .ref (ad (62)))]) hx hb dX6_cover_26 rfl hl (by decide) rfl (fun ls hl => ?_)
  refine xloopW (G := fun H locs fr => W p l e _ s m _ below meth c H locs _ _ _ fr) (σ := Nat × (Nat → Int64) × (Nat → Int64) × Int64 × Int64) (fun (j, fc, fd, nx, dx) ls => F0 m 27 ls []) (fun (j, fc, fd, nx, dx) gl27_4 H locs ls => (j ≤ 2 ^ q - 1) ∧ (∀ s, j ≤ s → s < 2 ^ q → fc s = lZ (cwA q Wt w (2 ^ q - 1 - j) s).num ∧ fd s = lZ ((cwA q Wt w (2 ^ q - 1 - j) s).den : Int)) ∧ gl27_4 (62) = .inr (6, [.int (nI (q)), .int (nI (Wt)), .ref (ad (63)), .ref (ad (64)), .ref (ad (65)), .ref (ad (66)), .int (nI (T)), .long (tp), .long (bt), .long (nx), .long (dx), .int (sq), .ref (ad (67)), .ref (ad (68)), .ref (ad (69)), .ref (ad (70)), .ref (ad (71)), .ref (ad (72)), .ref (ad (73)), .ref (ad (74)), .ref (ad (75)), .ref (ad (76)), .ref (ad (77)), .ref (ad (78)), .ref (ad (79)), .ref (ad (80))]) ∧ gl27_4 (63) = .inl (cI, 4, .inl (fw)) ∧ gl27_4 (77) = .inl (cJ, 16, .inr (.inl (fc))) ∧ gl27_4 (78) = .inl (cJ, 16, .inr (.inl (fd))) ∧ (∀ j : Nat, j ≠ 62 → j ≠ 77 → j ≠ 78 → gl27_4 j = g j) ∧ va_P D vwCl (xw 81 ad gl27_4) H ∧ va_S A s.heap H locs ∧ lv_has ls 9 [(0, .ref (ad (62))), (1, .int (nI (2 ^ q - 1))), (2, .int (nI j - 1))]) (fun (j, fc, fd, nx, dx) => j) ?_ (2 ^ q - 1, vp_updL (fcn) ((2 ^ q) - 1) (lZ (0)), vp_updL (fcd) ((2 ^ q) - 1) (lZ (1)), nu, de) g3 H locs ls ⟨(Nat.le_refl _), (fun s h1 h2 => by rw [show s = 2 ^ q - 1 by omega, pk_uLs, pk_uLs, Nat.sub_self]; exact ⟨rfl, rfl⟩), fg3_0, fg3_1, fg3_2, fg3_w, hfrg3, hP, hS, (lv_sub hl [2, 1, 0] rfl)⟩
  rintro ⟨j, fc, fd, nx, dx⟩ gl27_4 H locs ls ⟨hj, hcc, fo62, fa63, fa77, fa78, hfrgl27_4, hP, hS, hl⟩ ih27
  refine lv_iload_n hx hb dX6_cover_27 rfl (lv_at hl 2 rfl) ?_
  refine lv_if_lt (tgt := 189) hx hb dX6_cover_28 (by decide) (fun c28_5 => ?_) (fun c28_5 => ?_)
  · have hj0 : j = 0 := by rcases Nat.eq_zero_or_pos j with h | h; exact h; exact absurd c28_5 (by rw [show j = (j - 1) + 1 by omega, nI_pred]; exact nI_pos (by omega))
    subst hj0
    have hc0 := hcc 0 (Nat.le_refl 0) (by omega)
    rw [Nat.sub_zero] at hc0
    refine lv_aload_n hx hb dX6_cover_189 rfl (lv_at hl 0 rfl) ?_
    refine lv_aload_n hx hb dX6_cover_190 rfl (lv_at hl 0 rfl) ?_
    refine xw_get hx hb hts hin6 hown hK hP (by decide) fo62 rfl 22 (by decide) hf64 rfl rfl dX6_cover_191 ?_
    refine lv_iconst (v := nI (0)) hx hb dX6_cover_194 (by decide) ?_
    refine xw_lald hx hb hK hP (by decide) 1 fa77 rfl (by omega) (by decide) dX6_cover_195 ?_
    rw [hc0.1]
    refine lv_aload_n hx hb dX6_cover_196 rfl (lv_at hl 0 rfl) ?_
    refine xw_get hx hb hts hin6 hown hK hP (by decide) fo62 rfl 23 (by decide) hf67 rfl rfl dX6_cover_197 ?_
    refine lv_iconst (v := nI (0)) hx hb dX6_cover_200 (by decide) ?_
    refine xw_lald hx hb hK hP (by decide) 1 fa78 rfl (by omega) (by decide) dX6_cover_201 ?_
    rw [hc0.2]
    refine va_callv (va_runV (As := [.long (lZ ((cwA q Wt w (2 ^ q - 1) 0).num)), .long (lZ (((cwA q Wt w (2 ^ q - 1) 0).den : Int)))]) (rest := []) ⟨hx, hb, hml, hown, hts⟩ (mX6_atHand l hD (w := w) (ln := ln) (t := t) (u := u) (a := (cwA q Wt w (2 ^ q - 1) 0).num) (b := ((cwA q Wt w (2 ^ q - 1) 0).den : Int)) fo62 ⟨hCv.2.1.1, hCv.2.1.2.1⟩ ⟨by have h9 := (cwA q Wt w (2 ^ q - 1) 0).den_pos; omega, hCv.2.1.2.2⟩) (cwV 2 hts gX6_cover_X6_atHand rfl rfl rfl (by decide +kernel) ⟨Nat.le_of_ble_eq_true rfl, Nat.le_of_ble_eq_true rfl⟩) ⟨xB_blind, va_recv hK hP (ci := 6) rfl (xw_is (by decide) fo62), fun U hU hW => ⟨rfl, by rw [hU]; exact hP, va_K.moved hW.alike hK, va_Nw.warmM hW hN⟩⟩ rfl rfl hl.1 rfl (lv_room (Nat.le_of_ble_eq_true rfl)) dX6_cover_202 ⟨Nat.le_of_ble_eq_true rfl, Nat.le_of_ble_eq_true rfl⟩) hS (fun _ _ h => h) (fun _ h => h) (fun g6 tZ H locs ht hvm hwg6 hB hzZ hkZ hS => ?_)
    obtain ⟨hP, -⟩ := hB
    rw [ht] at hP
    obtain ⟨fg6_n0, hcg6⟩ := hwg6
    have fg6_k0 : g6 (63) = .inl (cI, 4, .inl (fw)) := (hcg6 (63) (by decide)).trans fa63
    have fg6_k1 : g6 (77) = .inl (cJ, 16, .inr (.inl (fc))) := (hcg6 (77) (by decide)).trans fa77
    have fg6_k2 : g6 (78) = .inl (cJ, 16, .inr (.inl (fd))) := (hcg6 (78) (by decide)).trans fa78
    have hfrg6 : ∀ j : Nat, j ≠ 62 → j ≠ 77 → j ≠ 78 → g6 j = g j := fun j h0 h1 h2 => (hcg6 j h0).trans (hfrgl27_4 j h0 h1 h2)
    rw [divInt_nd] at fg6_n0
    exact W.vret hx hb hr (fun tZ ht hW => ⟨⟨g6, rfl, (by rw [← hCv.2.2]; exact ⟨⟨_, _, _, _, _, _, _, _, _, _, _, _, _, _, _, _, _, _, _, _, _, fg6_n0, fg6_k0, ((hfrg6) 64 (by decide) (by decide) (by decide)).trans fa64, ((hfrg6) 65 (by decide) (by decide) (by decide)).trans fa65, ((hfrg6) 66 (by decide) (by decide) (by decide)).trans fa66, ((hfrg6) 67 (by decide) (by decide) (by decide)).trans fa67, ((hfrg6) 68 (by decide) (by decide) (by decide)).trans fa68, ((hfrg6) 69 (by decide) (by decide) (by decide)).trans fa69, ((hfrg6) 70 (by decide) (by decide) (by decide)).trans fa70, ((hfrg6) 71 (by decide) (by decide) (by decide)).trans fa71, ((hfrg6) 72 (by decide) (by decide) (by decide)).trans fa72, ((hfrg6) 73 (by decide) (by decide) (by decide)).trans fa73, ((hfrg6) 74 (by decide) (by decide) (by decide)).trans fa74, ((hfrg6) 75 (by decide) (by decide) (by decide)).trans fa75, ((hfrg6) 76 (by decide) (by decide) (by decide)).trans fa76, fg6_k1, fg6_k2, ((hfrg6) 79 (by decide) (by decide) (by decide)).trans fa79, ((hfrg6) 80 (by decide) (by decide) (by decide)).trans fa80, hfw, hsz, hwl, htx⟩, fun j hj => (hfrg6) j (by omega) (by omega) (by omega)⟩), by rw [ht]; exact hP, va_K.moved hW.alike hK, va_Nw.warmM hW hN⟩, hS.F ht⟩) hS.2.2 dX6_cover_205
  · obtain ⟨k, rfl⟩ : ∃ k, j = k + 1 := ⟨j - 1, by rcases Nat.eq_zero_or_pos j with h | h; exact absurd (show nI j - 1 < 0 by rw [h]; decide) c28_5; omega⟩
    rw [nI_pred] at hl
    rw [show 2 ^ q - 1 - (k + 1) = 2 ^ q - 2 - k by omega] at hcc
    have hkk : 2 ^ q - 2 - (2 ^ q - 2 - k) = k := by omega
    obtain ⟨hO1, hO2, hO3, hO4⟩ := hCv.1 (2 ^ q - 2 - k) (by omega)
    rw [hkk] at hO1 hO2 hO3 hO4
    refine lv_aload_n hx hb dX6_cover_31 rfl (lv_at hl 0 rfl) ?_
    refine xw_get hx hb hts hin6 hown hK hP (by decide) fo62 rfl 1 (by decide) hf13 rfl rfl dX6_cover_32 ?_
    refine xi_i2l hx hb (by omega) dX6_cover_35 ?_
    refine lv_lstore_n (lv' := [(3, .long (lZ (((Wt : Nat) : Int)))), (0, .ref (ad (62))), (1, .int (nI (2 ^ q - 1))), (2, .int (nI (k)))]) hx hb dX6_cover_36 rfl hl (by decide) rfl (fun ls hl => ?_)
    refine lv_lconst (v := lZ (1)) hx hb dX6_cover_37 (by decide) ?_
    refine lv_lstore (lv' := [(5, .long (lZ (1))), (3, .long (lZ (((Wt : Nat) : Int)))), (0, .ref (ad (62))), (1, .int (nI (2 ^ q - 1))), (2, .int (nI (k)))]) hx hb dX6_cover_38 hl (by decide) rfl (fun ls hl => ?_)
    refine lv_iconst (v := nI (0)) hx hb dX6_cover_40 (by decide) ?_
    refine lv_istore (lv' := [(7, .int (nI (0))), (5, .long (lZ (1))), (3, .long (lZ (((Wt : Nat) : Int)))), (0, .ref (ad (62))), (1, .int (nI (2 ^ q - 1))), (2, .int (nI (k)))]) hx hb dX6_cover_41 hl (by decide) rfl (fun ls hl => ?_)
    refine lv_iconst (v := nI (0)) hx hb dX6_cover_43 (by decide) ?_
    refine lv_istore (lv' := [(8, .int (nI (0))), (7, .int (nI (0))), (5, .long (lZ (1))), (3, .long (lZ (((Wt : Nat) : Int)))), (0, .ref (ad (62))), (1, .int (nI (2 ^ q - 1))), (2, .int (nI (k)))]) hx hb dX6_cover_44 hl (by decide) rfl (fun ls hl => ?_)
    refine xloopW (G := fun H locs fr => W p l e _ s m _ below meth c H locs _ _ _ fr) (σ := Nat × Int64 × Int64) (fun (d0, nx, dx) ls => F0 m 46 ls []) (fun (d0, nx, dx) gl46_8 H locs ls => (d0 ≤ q) ∧ gl46_8 (62) = .inr (6, [.int (nI (q)), .int (nI (Wt)), .ref (ad (63)), .ref (ad (64)), .ref (ad (65)), .ref (ad (66)), .int (nI (T)), .long (tp), .long (bt), .long (nx), .long (dx), .int (sq), .ref (ad (67)), .ref (ad (68)), .ref (ad (69)), .ref (ad (70)), .ref (ad (71)), .ref (ad (72)), .ref (ad (73)), .ref (ad (74)), .ref (ad (75)), .ref (ad (76)), .ref (ad (77)), .ref (ad (78)), .ref (ad (79)), .ref (ad (80))]) ∧ gl46_8 (63) = .inl (cI, 4, .inl (fw)) ∧ gl46_8 (77) = .inl (cJ, 16, .inr (.inl (fc))) ∧ gl46_8 (78) = .inl (cJ, 16, .inr (.inl (fd))) ∧ (∀ j : Nat, j ≠ 62 → j ≠ 77 → j ≠ 78 → gl46_8 j = g j) ∧ va_P D vwCl (xw 81 ad gl46_8) H ∧ va_S A s.heap H locs ∧ lv_has ls 9 [(0, .ref (ad (62))), (1, .int (nI (2 ^ q - 1))), (2, .int (nI (k))), (3, .long (lZ ((cwN Wt w (cwA q Wt w (2 ^ q - 2 - k)) k (d0)).num))), (5, .long (lZ (((cwN Wt w (cwA q Wt w (2 ^ q - 2 - k)) k (d0)).den : Int)))), (7, .int (nI (wset w k d0))), (8, .int (nI (d0)))]) (fun (d0, nx, dx) => q - d0) ?_ (0, nx, dx) gl27_4 H locs ls ⟨(Nat.zero_le _), fo62, fa63, fa77, fa78, hfrgl27_4, hP, hS, (by rw [show (cwN Wt w (cwA q Wt w (2 ^ q - 2 - k)) k (0)) = Rat.divInt ((Wt : Nat) : Int) 1 from rfl, divInt_1n.1, divInt_1n.2]; exact (lv_sub hl [4, 5, 6, 3, 2, 1, 0] rfl))⟩
    rintro ⟨d0, nx, dx⟩ gl46_8 H locs ls ⟨hd0, fo62, fa63, fa77, fa78, hfrgl46_8, hP, hS, hl⟩ ih46
    refine lv_iload hx hb dX6_cover_46 (lv_at hl 6 rfl) ?_
    refine lv_aload_n hx hb dX6_cover_48 rfl (lv_at hl 0 rfl) ?_
    refine xw_get hx hb hts hin6 hown hK hP (by decide) fo62 rfl 0 (by decide) hf7 rfl rfl dX6_cover_49 ?_
    refine xi_icmp_ge (tgt := 147) hx hb (by omega) (by omega) dX6_cover_52 (by decide) (fun c52_9 => ?_) (fun c52_9 => ?_)
    · have ed : d0 = q := by omega
      rw [ed] at hl
      refine lv_aload_n hx hb dX6_cover_147 rfl (lv_at hl 0 rfl) ?_
      refine lv_lload_n hx hb dX6_cover_148 rfl (lv_at hl 3 rfl) ?_
      refine lv_lload hx hb dX6_cover_149 (lv_at hl 4 rfl) ?_
      refine lv_lconst (v := lZ (1)) hx hb dX6_cover_151 (by decide) ?_
      refine lv_aload_n hx hb dX6_cover_152 rfl (lv_at hl 0 rfl) ?_
      refine xw_get hx hb hts hin6 hown hK hP (by decide) fo62 rfl 1 (by decide) hf13 rfl rfl dX6_cover_153 ?_
      refine lv_iload hx hb dX6_cover_156 (lv_at hl 5 rfl) ?_
      refine xi_sub hx hb (by omega) dX6_cover_158 ?_
      refine xi_i2l hx hb (by omega) dX6_cover_159 ?_
      refine va_callv (va_runV (As := [.long (lZ ((cwN Wt w (cwA q Wt w (2 ^ q - 2 - k)) k (q)).num)), .long (lZ (((cwN Wt w (cwA q Wt w (2 ^ q - 2 - k)) k (q)).den : Int))), .long (lZ (1)), .long (lZ (((Wt - (wset w k q) : Nat) : Int)))]) (rest := []) ⟨hx, hb, hml, hown, hts⟩ (mX6_times l hD (w := w) (ln := ln) (t := t) (u := u) (x := cwN Wt w (cwA q Wt w (2 ^ q - 2 - k)) k (q)) (y := Rat.divInt 1 (((Wt - wset w k q : Nat)) : Int)) fo62 rfl rfl (inv_n (by omega)).1 (inv_n (by omega)).2 (hO3 q (Nat.le_refl q)) (fitR_d (by omega) (by omega) (by decide) (by decide)) hO4) (cwV 4 hts gX6_cover_X6_times rfl rfl rfl (by decide +kernel) ⟨Nat.le_of_ble_eq_true rfl, Nat.le_of_ble_eq_true rfl⟩) ⟨xB_blind, va_recv hK hP (ci := 6) rfl (xw_is (by decide) fo62), fun U hU hW => ⟨rfl, by rw [hU]; exact hP, va_K.moved hW.alike hK, va_Nw.warmM hW hN⟩⟩ rfl rfl hl.1 rfl (lv_room (Nat.le_of_ble_eq_true rfl)) dX6_cover_160 ⟨Nat.le_of_ble_eq_true rfl, Nat.le_of_ble_eq_true rfl⟩) hS (fun _ _ h => h) (fun _ h => h) (fun g10 tZ H locs ht hvm hwg10 hB hzZ hkZ hS => ?_)
      obtain ⟨hP, -⟩ := hB
      rw [ht] at hP
      obtain ⟨fg10_n0, hcg10⟩ := hwg10
      have fg10_k0 : g10 (63) = .inl (cI, 4, .inl (fw)) := (hcg10 (63) (by decide)).trans fa63
      have fg10_k1 : g10 (77) = .inl (cJ, 16, .inr (.inl (fc))) := (hcg10 (77) (by decide)).trans fa77
      have fg10_k2 : g10 (78) = .inl (cJ, 16, .inr (.inl (fd))) := (hcg10 (78) (by decide)).trans fa78
      have hfrg10 : ∀ j : Nat, j ≠ 62 → j ≠ 77 → j ≠ 78 → g10 j = g j := fun j h0 h1 h2 => (hcg10 j h0).trans (hfrgl46_8 j h0 h1 h2)
      refine lv_aload_n hx hb dX6_cover_163 rfl (lv_at hl 0 rfl) ?_
      refine xw_get hx hb hts hin6 hown hK hP (by decide) fg10_n0 rfl 22 (by decide) hf64 rfl rfl dX6_cover_164 ?_
      refine lv_iload_n hx hb dX6_cover_167 rfl (lv_at hl 2 rfl) ?_
      refine lv_aload_n hx hb dX6_cover_168 rfl (lv_at hl 0 rfl) ?_
      refine xw_get hx hb hts hin6 hown hK hP (by decide) fg10_n0 rfl 9 (by decide) hf106 rfl rfl dX6_cover_169 ?_
      refine xw_last hx hb hK hP hD hS (by decide) 1 fg10_k1 rfl (by omega) (by decide) dX6_cover_172 (fun g12 H locs eg12 hP hS => ?_)
      have fg12_0 : g12 (62) = .inr (6, [.int (nI (q)), .int (nI (Wt)), .ref (ad (63)), .ref (ad (64)), .ref (ad (65)), .ref (ad (66)), .int (nI (T)), .long (tp), .long (bt), .long (lZ (((cwN Wt w (cwA q Wt w (2 ^ q - 2 - k)) k (q)) * (Rat.divInt 1 (((Wt - wset w k q : Nat)) : Int))).num)), .long (lZ ((((cwN Wt w (cwA q Wt w (2 ^ q - 2 - k)) k (q)) * (Rat.divInt 1 (((Wt - wset w k q : Nat)) : Int))).den : Int))), .int (sq), .ref (ad (67)), .ref (ad (68)), .ref (ad (69)), .ref (ad (70)), .ref (ad (71)), .ref (ad (72)), .ref (ad (73)), .ref (ad (74)), .ref (ad (75)), .ref (ad (76)), .ref (ad (77)), .ref (ad (78)), .ref (ad (79)), .ref (ad (80))]) := (congrFun eg12 (62)).trans ((va_up_ne _ _ (by decide)).trans fg10_n0)
      have fg12_1 : g12 (63) = .inl (cI, 4, .inl (fw)) := (congrFun eg12 (63)).trans ((va_up_ne _ _ (by decide)).trans fg10_k0)
      have fg12_2 : g12 (78) = .inl (cJ, 16, .inr (.inl (fd))) := (congrFun eg12 (78)).trans ((va_up_ne _ _ (by decide)).trans fg10_k2)
      have fg12_w : g12 (77) = .inl (cJ, 16, .inr (.inl (vp_updL (fc) (k) (lZ (((cwN Wt w (cwA q Wt w (2 ^ q - 2 - k)) k (q)) * (Rat.divInt 1 (((Wt - wset w k q : Nat)) : Int))).num))))) := (congrFun eg12 (77)).trans (va_up_self _ _ _)
      have hfrg12 : ∀ j : Nat, j ≠ 62 → j ≠ 77 → j ≠ 78 → g12 j = g j := fun j h0 h1 h2 => (congrFun eg12 j).trans ((va_up_ne _ _ h1).trans (hfrg10 j h0 h1 h2))
      refine lv_aload_n hx hb dX6_cover_173 rfl (lv_at hl 0 rfl) ?_
      refine xw_get hx hb hts hin6 hown hK hP (by decide) fg12_0 rfl 23 (by decide) hf67 rfl rfl dX6_cover_174 ?_
      refine lv_iload_n hx hb dX6_cover_177 rfl (lv_at hl 2 rfl) ?_
      refine lv_aload_n hx hb dX6_cover_178 rfl (lv_at hl 0 rfl) ?_
      refine xw_get hx hb hts hin6 hown hK hP (by decide) fg12_0 rfl 10 (by decide) hf109 rfl rfl dX6_cover_179 ?_
      refine xw_last hx hb hK hP hD hS (by decide) 1 fg12_2 rfl (by omega) (by decide) dX6_cover_182 (fun g13 H locs eg13 hP hS => ?_)
      have fg13_0 : g13 (62) = .inr (6, [.int (nI (q)), .int (nI (Wt)), .ref (ad (63)), .ref (ad (64)), .ref (ad (65)), .ref (ad (66)), .int (nI (T)), .long (tp), .long (bt), .long (lZ (((cwN Wt w (cwA q Wt w (2 ^ q - 2 - k)) k (q)) * (Rat.divInt 1 (((Wt - wset w k q : Nat)) : Int))).num)), .long (lZ ((((cwN Wt w (cwA q Wt w (2 ^ q - 2 - k)) k (q)) * (Rat.divInt 1 (((Wt - wset w k q : Nat)) : Int))).den : Int))), .int (sq), .ref (ad (67)), .ref (ad (68)), .ref (ad (69)), .ref (ad (70)), .ref (ad (71)), .ref (ad (72)), .ref (ad (73)), .ref (ad (74)), .ref (ad (75)), .ref (ad (76)), .ref (ad (77)), .ref (ad (78)), .ref (ad (79)), .ref (ad (80))]) := (congrFun eg13 (62)).trans ((va_up_ne _ _ (by decide)).trans fg12_0)
      have fg13_1 : g13 (63) = .inl (cI, 4, .inl (fw)) := (congrFun eg13 (63)).trans ((va_up_ne _ _ (by decide)).trans fg12_1)
      have fg13_2 : g13 (77) = .inl (cJ, 16, .inr (.inl (vp_updL (fc) (k) (lZ (((cwN Wt w (cwA q Wt w (2 ^ q - 2 - k)) k (q)) * (Rat.divInt 1 (((Wt - wset w k q : Nat)) : Int))).num))))) := (congrFun eg13 (77)).trans ((va_up_ne _ _ (by decide)).trans fg12_w)
      have fg13_w : g13 (78) = .inl (cJ, 16, .inr (.inl (vp_updL (fd) (k) (lZ ((((cwN Wt w (cwA q Wt w (2 ^ q - 2 - k)) k (q)) * (Rat.divInt 1 (((Wt - wset w k q : Nat)) : Int))).den : Int)))))) := (congrFun eg13 (78)).trans (va_up_self _ _ _)
      have hfrg13 : ∀ j : Nat, j ≠ 62 → j ≠ 77 → j ≠ 78 → g13 j = g j := fun j h0 h1 h2 => (congrFun eg13 j).trans ((va_up_ne _ _ h2).trans (hfrg12 j h0 h1 h2))
      refine lv_iinc (v := nI (k) - 1) (lv' := [(2, .int (nI (k) - 1)), (0, .ref (ad (62))), (1, .int (nI (2 ^ q - 1))), (3, .long (lZ ((cwN Wt w (cwA q Wt w (2 ^ q - 2 - k)) k (q)).num))), (5, .long (lZ (((cwN Wt w (cwA q Wt w (2 ^ q - 2 - k)) k (q)).den : Int)))), (7, .int (nI (wset w k q))), (8, .int (nI (q)))]) hx hb dX6_cover_183 hl (k := 2) rfl (by rw [Int32.sub_eq_add_neg]; rfl) (by decide) rfl (fun ls hl => ?_)
      refine lv_goto (tgt := 27) hx hb dX6_cover_186 (by decide) ?_
      exact ih27 (k, vp_updL (fc) (k) (lZ (((cwN Wt w (cwA q Wt w (2 ^ q - 2 - k)) k (q)) * (Rat.divInt 1 (((Wt - wset w k q : Nat)) : Int))).num)), vp_updL (fd) (k) (lZ ((((cwN Wt w (cwA q Wt w (2 ^ q - 2 - k)) k (q)) * (Rat.divInt 1 (((Wt - wset w k q : Nat)) : Int))).den : Int))), lZ (((cwN Wt w (cwA q Wt w (2 ^ q - 2 - k)) k (q)) * (Rat.divInt 1 (((Wt - wset w k q : Nat)) : Int))).num), lZ ((((cwN Wt w (cwA q Wt w (2 ^ q - 2 - k)) k (q)) * (Rat.divInt 1 (((Wt - wset w k q : Nat)) : Int))).den : Int))) g13 H locs ls ⟨(by omega), (by rw [cwA_s hj]; exact cw_up hcc), fg13_0, fg13_1, fg13_2, fg13_w, hfrg13, hP, hS, (lv_sub hl [1, 2, 0] rfl)⟩ (by first | omega | (dsimp only; omega))
    · refine lv_iload_n hx hb dX6_cover_55 rfl (lv_at hl 2 rfl) ?_
      refine lv_iload hx hb dX6_cover_56 (lv_at hl 6 rfl) ?_
      refine lv_ishr hx hb dX6_cover_58 ?_
      refine xtopi (y := nI (k / 2 ^ d0)) (nI_shr (by omega) (by omega)) ?_
      refine lv_iconst (v := nI (1)) hx hb dX6_cover_59 (by decide) ?_
      refine lv_iand hx hb dX6_cover_60 ?_
      refine xtopi (y := nI (k / 2 ^ d0 % 2)) (and1 _) ?_
      refine lv_iconst (v := nI (1)) hx hb dX6_cover_61 (by decide) ?_
      refine xi_icmp_ne (tgt := 80) hx hb (by omega) (by decide) dX6_cover_62 (by decide) (fun c62_16 => ?_) (fun c62_16 => ?_)
      · have hbt : ¬ k / 2 ^ d0 % 2 = 1 := by have h9 := c62_16; omega
        have hle : k + 1 ≤ k ||| 2 ^ d0 := or_ne k (by omega) d0 (by omega) hbt
        have hlt : k ||| 2 ^ d0 < 2 ^ q := or_lt q hq4 k (by omega) d0 (by omega)
        have hi6 : k ||| 2 ^ d0 < 16 := by omega
        obtain ⟨hP0, hP1, hP2⟩ := hO2 d0 (by omega) hbt
        refine lv_aload_n hx hb dX6_cover_80 rfl (lv_at hl 0 rfl) ?_
        refine lv_aload_n hx hb dX6_cover_81 rfl (lv_at hl 0 rfl) ?_
        refine xw_get hx hb hts hin6 hown hK hP (by decide) fo62 rfl 2 (by decide) hf16 rfl rfl dX6_cover_82 ?_
        refine lv_iload hx hb dX6_cover_85 (lv_at hl 6 rfl) ?_
        refine xw_iald hx hb hK hP (by decide) 0 fa63 rfl (by omega) (by decide) dX6_cover_87 ?_
        rw [hfw (d0) (by omega)]
        refine xi_i2l hx hb (by have h9 := hw d0 (by omega); omega) dX6_cover_88 ?_
        refine lv_lconst (v := lZ (1)) hx hb dX6_cover_89 (by decide) ?_
        refine lv_aload_n hx hb dX6_cover_90 rfl (lv_at hl 0 rfl) ?_
        refine xw_get hx hb hts hin6 hown hK hP (by decide) fo62 rfl 22 (by decide) hf64 rfl rfl dX6_cover_91 ?_
        refine lv_iload_n hx hb dX6_cover_94 rfl (lv_at hl 2 rfl) ?_
        refine lv_iconst (v := nI (1)) hx hb dX6_cover_95 (by decide) ?_
        refine lv_iload hx hb dX6_cover_96 (lv_at hl 6 rfl) ?_
        refine lv_ishl hx hb dX6_cover_98 ?_
        refine xtopi (y := nI (2 ^ d0)) (nI_shl1 (by omega)) ?_
        refine lv_ior hx hb dX6_cover_99 ?_
        refine xtopi (y := nI (k ||| 2 ^ d0)) (nI_or _ _) ?_
        refine xw_lald hx hb hK hP (by decide) 1 fa77 rfl hi6 (by decide) dX6_cover_100 ?_
        rw [(hcc (k ||| 2 ^ d0) hle hlt).1]
        refine lv_aload_n hx hb dX6_cover_101 rfl (lv_at hl 0 rfl) ?_
        refine xw_get hx hb hts hin6 hown hK hP (by decide) fo62 rfl 23 (by decide) hf67 rfl rfl dX6_cover_102 ?_
        refine lv_iload_n hx hb dX6_cover_105 rfl (lv_at hl 2 rfl) ?_
        refine lv_iconst (v := nI (1)) hx hb dX6_cover_106 (by decide) ?_
        refine lv_iload hx hb dX6_cover_107 (lv_at hl 6 rfl) ?_
        refine lv_ishl hx hb dX6_cover_109 ?_
        refine xtopi (y := nI (2 ^ d0)) (nI_shl1 (by omega)) ?_
        refine lv_ior hx hb dX6_cover_110 ?_
        refine xtopi (y := nI (k ||| 2 ^ d0)) (nI_or _ _) ?_
        refine xw_lald hx hb hK hP (by decide) 1 fa78 rfl hi6 (by decide) dX6_cover_111 ?_
        rw [(hcc (k ||| 2 ^ d0) hle hlt).2]
        refine va_callv (va_runV (As := [.long (lZ (((w (d0) : Nat) : Int))), .long (lZ (1)), .long (lZ ((cwA q Wt w (2 ^ q - 2 - k) (k ||| 2 ^ d0)).num)), .long (lZ (((cwA q Wt w (2 ^ q - 2 - k) (k ||| 2 ^ d0)).den : Int)))]) (rest := []) ⟨hx, hb, hml, hown, hts⟩ (mX6_times l hD (w := w) (ln := ln) (t := t) (u := u) (x := Rat.divInt ((w d0 : Nat) : Int) 1) (y := cwA q Wt w (2 ^ q - 2 - k) (k ||| 2 ^ d0)) fo62 divInt_1n.1.symm (by rw [divInt_1n.2]; rfl) rfl rfl (fitR_i (by have h9 := hw d0 (by omega); omega)) hP0 hP1) (cwV 4 hts gX6_cover_X6_times rfl rfl rfl (by decide +kernel) ⟨Nat.le_of_ble_eq_true rfl, Nat.le_of_ble_eq_true rfl⟩) ⟨xB_blind, va_recv hK hP (ci := 6) rfl (xw_is (by decide) fo62), fun U hU hW => ⟨rfl, by rw [hU]; exact hP, va_K.moved hW.alike hK, va_Nw.warmM hW hN⟩⟩ rfl rfl hl.1 rfl (lv_room (Nat.le_of_ble_eq_true rfl)) dX6_cover_112 ⟨Nat.le_of_ble_eq_true rfl, Nat.le_of_ble_eq_true rfl⟩) hS (fun _ _ h => h) (fun _ h => h) (fun g21 tZ H locs ht hvm hwg21 hB hzZ hkZ hS => ?_)
        obtain ⟨hP, -⟩ := hB
        rw [ht] at hP
        obtain ⟨fg21_n0, hcg21⟩ := hwg21
        have fg21_k0 : g21 (63) = .inl (cI, 4, .inl (fw)) := (hcg21 (63) (by decide)).trans fa63
        have fg21_k1 : g21 (77) = .inl (cJ, 16, .inr (.inl (fc))) := (hcg21 (77) (by decide)).trans fa77
        have fg21_k2 : g21 (78) = .inl (cJ, 16, .inr (.inl (fd))) := (hcg21 (78) (by decide)).trans fa78
        have hfrg21 : ∀ j : Nat, j ≠ 62 → j ≠ 77 → j ≠ 78 → g21 j = g j := fun j h0 h1 h2 => (hcg21 j h0).trans (hfrgl46_8 j h0 h1 h2)
        refine lv_aload_n hx hb dX6_cover_115 rfl (lv_at hl 0 rfl) ?_
        refine lv_lload_n hx hb dX6_cover_116 rfl (lv_at hl 3 rfl) ?_
        refine lv_lload hx hb dX6_cover_117 (lv_at hl 4 rfl) ?_
        refine lv_aload_n hx hb dX6_cover_119 rfl (lv_at hl 0 rfl) ?_
        refine xw_get hx hb hts hin6 hown hK hP (by decide) fg21_n0 rfl 9 (by decide) hf106 rfl rfl dX6_cover_120 ?_
        refine lv_aload_n hx hb dX6_cover_123 rfl (lv_at hl 0 rfl) ?_
        refine xw_get hx hb hts hin6 hown hK hP (by decide) fg21_n0 rfl 10 (by decide) hf109 rfl rfl dX6_cover_124 ?_
        refine va_callv (va_runV (As := [.long (lZ ((cwN Wt w (cwA q Wt w (2 ^ q - 2 - k)) k (d0)).num)), .long (lZ (((cwN Wt w (cwA q Wt w (2 ^ q - 2 - k)) k (d0)).den : Int))), .long (lZ (((Rat.divInt ((w d0 : Nat) : Int) 1) * (cwA q Wt w (2 ^ q - 2 - k) (k ||| 2 ^ d0))).num)), .long (lZ ((((Rat.divInt ((w d0 : Nat) : Int) 1) * (cwA q Wt w (2 ^ q - 2 - k) (k ||| 2 ^ d0))).den : Int)))]) (rest := []) ⟨hx, hb, hml, hown, hts⟩ (mX6_add l hD (w := w) (ln := ln) (t := t) (u := u) (x := cwN Wt w (cwA q Wt w (2 ^ q - 2 - k)) k (d0)) (y := (Rat.divInt ((w d0 : Nat) : Int) 1) * (cwA q Wt w (2 ^ q - 2 - k) (k ||| 2 ^ d0))) fg21_n0 rfl rfl rfl rfl (hO3 d0 (by omega)) hP1 hP2) (cwV 4 hts gX6_cover_X6_add rfl rfl rfl (by decide +kernel) ⟨Nat.le_of_ble_eq_true rfl, Nat.le_of_ble_eq_true rfl⟩) ⟨xB_blind, va_recv hK hP (ci := 6) rfl (xw_is (by decide) fg21_n0), fun U hU hW => ⟨rfl, by rw [hU]; exact hP, va_K.moved hW.alike hK, va_Nw.warmM hW hN⟩⟩ rfl rfl hl.1 rfl (lv_room (Nat.le_of_ble_eq_true rfl)) dX6_cover_127 ⟨Nat.le_of_ble_eq_true rfl, Nat.le_of_ble_eq_true rfl⟩) hS (fun _ _ h => h) (fun _ h => h) (fun g23 tZ H locs ht hvm hwg23 hB hzZ hkZ hS => ?_)
        obtain ⟨hP, -⟩ := hB
        rw [ht] at hP
        obtain ⟨fg23_n0, hcg23⟩ := hwg23
        have fg23_k0 : g23 (63) = .inl (cI, 4, .inl (fw)) := (hcg23 (63) (by decide)).trans fg21_k0
        have fg23_k1 : g23 (77) = .inl (cJ, 16, .inr (.inl (fc))) := (hcg23 (77) (by decide)).trans fg21_k1
        have fg23_k2 : g23 (78) = .inl (cJ, 16, .inr (.inl (fd))) := (hcg23 (78) (by decide)).trans fg21_k2
        have hfrg23 : ∀ j : Nat, j ≠ 62 → j ≠ 77 → j ≠ 78 → g23 j = g j := fun j h0 h1 h2 => (hcg23 j h0).trans (hfrg21 j h0 h1 h2)
        rw [show (cwN Wt w (cwA q Wt w (2 ^ q - 2 - k)) k (d0)) + ((Rat.divInt ((w d0 : Nat) : Int) 1) * (cwA q Wt w (2 ^ q - 2 - k) (k ||| 2 ^ d0))) = cwN Wt w (cwA q Wt w (2 ^ q - 2 - k)) k (d0 + 1) from cwN_y hbt] at fg23_n0
        refine lv_aload_n hx hb dX6_cover_130 rfl (lv_at hl 0 rfl) ?_
        refine xw_get hx hb hts hin6 hown hK hP (by decide) fg23_n0 rfl 9 (by decide) hf106 rfl rfl dX6_cover_131 ?_
        refine lv_lstore_n (lv' := [(3, .long (lZ ((cwN Wt w (cwA q Wt w (2 ^ q - 2 - k)) k (d0 + 1)).num))), (0, .ref (ad (62))), (1, .int (nI (2 ^ q - 1))), (2, .int (nI (k))), (5, .long (lZ (((cwN Wt w (cwA q Wt w (2 ^ q - 2 - k)) k (d0)).den : Int)))), (7, .int (nI (wset w k d0))), (8, .int (nI (d0)))]) hx hb dX6_cover_134 rfl hl (by decide) rfl (fun ls hl => ?_)
        refine lv_aload_n hx hb dX6_cover_135 rfl (lv_at hl 1 rfl) ?_
        refine xw_get hx hb hts hin6 hown hK hP (by decide) fg23_n0 rfl 10 (by decide) hf109 rfl rfl dX6_cover_136 ?_
        refine lv_lstore (lv' := [(5, .long (lZ (((cwN Wt w (cwA q Wt w (2 ^ q - 2 - k)) k (d0 + 1)).den : Int)))), (3, .long (lZ ((cwN Wt w (cwA q Wt w (2 ^ q - 2 - k)) k (d0 + 1)).num))), (0, .ref (ad (62))), (1, .int (nI (2 ^ q - 1))), (2, .int (nI (k))), (7, .int (nI (wset w k d0))), (8, .int (nI (d0)))]) hx hb dX6_cover_139 hl (by decide) rfl (fun ls hl => ?_)
        refine lv_iinc (v := nI (d0 + 1)) (lv' := [(8, .int (nI (d0 + 1))), (5, .long (lZ (((cwN Wt w (cwA q Wt w (2 ^ q - 2 - k)) k (d0 + 1)).den : Int)))), (3, .long (lZ ((cwN Wt w (cwA q Wt w (2 ^ q - 2 - k)) k (d0 + 1)).num))), (0, .ref (ad (62))), (1, .int (nI (2 ^ q - 1))), (2, .int (nI (k))), (7, .int (nI (wset w k d0)))]) hx hb dX6_cover_141 hl (k := 6) rfl (nI_add (d0) 1) (by decide) rfl (fun ls hl => ?_)
        refine lv_goto (tgt := 46) hx hb dX6_cover_144 (by decide) ?_
        exact ih46 (d0 + 1, lZ ((cwN Wt w (cwA q Wt w (2 ^ q - 2 - k)) k (d0 + 1)).num), lZ (((cwN Wt w (cwA q Wt w (2 ^ q - 2 - k)) k (d0 + 1)).den : Int))) g23 H locs ls ⟨(by omega), fg23_n0, fg23_k0, fg23_k1, fg23_k2, hfrg23, hP, hS, (by rw [show wset w k (d0 + 1) = wset w k d0 from (congrArg (wset w k d0 + ·) (if_neg (by have h9 := c62_16; omega))).trans (Nat.add_zero _)]; exact (lv_sub hl [3, 4, 5, 2, 1, 6, 0] rfl))⟩ (by first | omega | (dsimp only; omega))
      · refine lv_iload hx hb dX6_cover_65 (lv_at hl 5 rfl) ?_
        refine lv_aload_n hx hb dX6_cover_67 rfl (lv_at hl 0 rfl) ?_
        refine xw_get hx hb hts hin6 hown hK hP (by decide) fo62 rfl 2 (by decide) hf16 rfl rfl dX6_cover_68 ?_
        refine lv_iload hx hb dX6_cover_71 (lv_at hl 6 rfl) ?_
        refine xw_iald hx hb hK hP (by decide) 0 fa63 rfl (by omega) (by decide) dX6_cover_73 ?_
        rw [hfw (d0) (by omega)]
        refine xi_add hx hb dX6_cover_74 ?_
        refine lv_istore (lv' := [(7, .int (nI ((wset w k d0) + (w (d0))))), (0, .ref (ad (62))), (1, .int (nI (2 ^ q - 1))), (2, .int (nI (k))), (3, .long (lZ ((cwN Wt w (cwA q Wt w (2 ^ q - 2 - k)) k (d0)).num))), (5, .long (lZ (((cwN Wt w (cwA q Wt w (2 ^ q - 2 - k)) k (d0)).den : Int)))), (8, .int (nI (d0)))]) hx hb dX6_cover_75 hl (by decide) rfl (fun ls hl => ?_)
        refine lv_goto (tgt := 141) hx hb dX6_cover_77 (by decide) ?_
        refine lv_iinc (v := nI (d0 + 1)) (lv' := [(8, .int (nI (d0 + 1))), (7, .int (nI ((wset w k d0) + (w (d0))))), (0, .ref (ad (62))), (1, .int (nI (2 ^ q - 1))), (2, .int (nI (k))), (3, .long (lZ ((cwN Wt w (cwA q Wt w (2 ^ q - 2 - k)) k (d0)).num))), (5, .long (lZ (((cwN Wt w (cwA q Wt w (2 ^ q - 2 - k)) k (d0)).den : Int))))]) hx hb dX6_cover_141 hl (k := 6) rfl (nI_add (d0) 1) (by decide) rfl (fun ls hl => ?_)
        refine lv_goto (tgt := 46) hx hb dX6_cover_144 (by decide) ?_
        exact ih46 (d0 + 1, nx, dx) gl46_8 H locs ls ⟨(by omega), fo62, fa63, fa77, fa78, hfrgl46_8, hP, hS, (by rw [show wset w k (d0 + 1) = wset w k d0 + w d0 from congrArg (wset w k d0 + ·) (if_pos (by have h9 := c62_16; omega)), cwN_n (by have h9 := c62_16; omega)]; exact (lv_sub hl [2, 3, 4, 5, 6, 1, 0] rfl))⟩ (by first | omega | (dsimp only; omega))

set_option maxHeartbeats 4000000 in
set_option maxRecDepth 100000 in
theorem mX6_best_no (l : Launch) {D : va_G} {cI cJ cZ cW : ClassId} {ad : Nat → Nat} {A : Nat → Prop} (hD : ∀ g, va_D A (xw 81 ad g)) {g : Nat → va_E} {q Wt : Nat} {w : Nat → Nat} {ln : Nat → Nat} {u : Nat → Nat → Nat} {T : Nat} {t : Nat → Nat} {tp bt : Int64} {xa : Int32}  (hM : ModI cI cJ ad g q Wt w ln u T t tp bt) (hs : SrcI q Wt w ln u T t) (hxa : noW ln xa) : Met l yX6_best wsX6_best ({ frames := 6, cells := 0, slots := 0, locals := 166 }) (va_Pc [.ref (ad (62)), .int (xa)] (xB D (xT cI cJ cZ cW) ad g)) (va_Qi (fun r g2 => r = (match oBest q Wt w ln u (xa) with | some p => p.1 | none => -1) ∧ ModI cI cJ ad g2 q Wt w ln u T t (hTp ((oBest q Wt w ln u (xa)).map Prod.snd) tp) (hBt ((oBest q Wt w ln u (xa)).map Prod.snd) bt) ∧ ∀ j : Nat, j < 62 → g2 j = g j) (xB D (xT cI cJ cZ cW) ad) A) 0 0 A := by
  refine Met.ofW (cc := cX6_best) (maxL := 15) (ret := (some .int)) (by decide) rfl ?_
  intro p e s m args below meth c s₁ B hml hv
  obtain ⟨rfl, hP, hK, hN⟩ := hv
  have hx := B.exec
  have hb := B.bytes
  have hr := B.returns
  have hts := atoms_spec (ws := wsX6_best) B.pre
  have hown : s.vm.findClass RX6 = some m.cls := findClass_of_methodNamed B.named
  have hlocks := B.notSynchronized
  have hS : va_S A s.heap s.heap [] := va_S.rf
  have hl := lv_entry ([.ref (ad (62)), .int (xa)]) (n := 15) (Nat.le_of_ble_eq_true rfl)
  rw [lg_entry_eq]
  generalize (lg_sl ([.ref (ad (62)), .int (xa)]) ++ List.replicate (15 - (lg_sl ([.ref (ad (62)), .int (xa)])).length) Slot.unset).toArray = ls at hl ⊢
  have hl : lv_has ls 15 [(0, .ref (ad (62))), (1, .int (xa))] := hl
  obtain ⟨hq2, hq4, hw1, hw0, hWs, hWt, hw, hln, hul, hT, ht⟩ := hs
  obtain ⟨sq, nu, de, fw, fsz, fwd, ftx, fos, foz, fgo, frw, fan, fad, frn, frd, fen, fed, fcn, fcd, fnw, fth, fo62, fa63, fa64, fa65, fa66, fa67, fa68, fa69, fa70, fa71, fa72, fa73, fa74, fa75, fa76, fa77, fa78, fa79, fa80, hfw, hsz, hwl, htx⟩ := id hM
  have hWp : 1 ≤ Wt ∧ Wt ≤ 4 := by have h8 := hw1 0 (by omega); have h9 := wsum_mono (w := w) (show 1 ≤ q by omega); have h7 : wsum w 1 = 0 + w 0 := rfl; omega
  have hwA : ∀ k j, j < ln k → 1 ≤ w (u k j) := fun k j hj => hw1 _ (hul k j hj)
  have hwB : ∀ k j, j < ln k → w (u k j) ≤ 4 := fun k j hj => hw _ (Nat.lt_of_lt_of_le (hul k j hj) hq4)
  refine lv_aload_n hx hb dX6_best_0 rfl (lv_at hl 0 rfl) ?_
  refine lv_iload_n hx hb dX6_best_1 rfl (lv_at hl 1 rfl) ?_
  refine vp_callSi (va_Run.run (va_runV (As := [.int (xa)]) (rest := []) ⟨hx, hb, hml, hown, hts⟩ (mX6_isWord_no l (w := w) (ln := ln) (t := t) (u := u) fo62 fa64 hsz hxa) (cwV 1 hts gX6_best_X6_isWord rfl rfl rfl (by decide +kernel) ⟨Nat.le_of_ble_eq_true rfl, Nat.le_of_ble_eq_true rfl⟩) ⟨xB_blind, va_recv hK hP (ci := 6) rfl (xw_is (by decide) fo62), fun U hU hW => ⟨rfl, by rw [hU]; exact hP, va_K.moved hW.alike hK, va_Nw.warmM hW hN⟩⟩ rfl rfl hl.1 rfl (lv_room (Nat.le_of_ble_eq_true rfl)) dX6_best_2 ⟨Nat.le_of_ble_eq_true rfl, Nat.le_of_ble_eq_true rfl⟩)) (fun r1 er1 => ?_)
  subst er1
  refine xi_if_eq (tgt := 18) hx hb (by decide) dX6_best_5 (by decide) (fun _ => ?_) (fun c0 => absurd c0 (by decide))
  refine lv_iconst (v := (-1)) hx hb dX6_best_18 (by decide) ?_
  exact W.iret (v := (-1)) hx hb hr (fun tZ ht hW => ⟨⟨_, g, rfl, (by have hO : oBest q Wt w ln u xa = none := (by unfold oBest; rw [slotW_no hxa]); rw [hO]; exact ⟨rfl, hM, fun _ _ => rfl⟩), by rw [ht]; exact hP, va_K.moved hW.alike hK, va_Nw.warmM hW hN⟩, hS.F ht⟩) hS.2.2 dX6_best_19

set_option maxHeartbeats 4000000 in
set_option maxRecDepth 100000 in
theorem mX6_best_not (l : Launch) {D : va_G} {cI cJ cZ cW : ClassId} {ad : Nat → Nat} {A : Nat → Prop} (hD : ∀ g, va_D A (xw 81 ad g)) {g : Nat → va_E} {q Wt : Nat} {w : Nat → Nat} {ln : Nat → Nat} {u : Nat → Nat → Nat} {T : Nat} {t : Nat → Nat} {tp bt : Int64} {k1 : Nat}  (hM : ModI cI cJ ad g q Wt w ln u T t tp bt) (hs : SrcI q Wt w ln u T t) (hk1 : k1 < 8) (hp1 : 0 < ln k1) (hno : ¬ (∀ j, j < q → w j = w 0) ∨ ln k1 < 3) : Met l yX6_best wsX6_best ({ frames := 6, cells := 0, slots := 0, locals := 166 }) (va_Pc [.ref (ad (62)), .int (nI (k1))] (xB D (xT cI cJ cZ cW) ad g)) (va_Qi (fun r g2 => r = (match oBest q Wt w ln u (nI k1) with | some p => p.1 | none => -1) ∧ ModI cI cJ ad g2 q Wt w ln u T t (hTp ((oBest q Wt w ln u (nI k1)).map Prod.snd) tp) (hBt ((oBest q Wt w ln u (nI k1)).map Prod.snd) bt) ∧ ∀ j : Nat, j < 62 → g2 j = g j) (xB D (xT cI cJ cZ cW) ad) A) 0 0 A := by
  refine Met.ofW (cc := cX6_best) (maxL := 15) (ret := (some .int)) (by decide) rfl ?_
  intro p e s m args below meth c s₁ B hml hv
  obtain ⟨rfl, hP, hK, hN⟩ := hv
  have hx := B.exec
  have hb := B.bytes
  have hr := B.returns
  have hts := atoms_spec (ws := wsX6_best) B.pre
  have hown : s.vm.findClass RX6 = some m.cls := findClass_of_methodNamed B.named
  have hlocks := B.notSynchronized
  have hS : va_S A s.heap s.heap [] := va_S.rf
  have hin6 : ∀ w ∈ wsX60, w ∈ wsX6_best := by decide +kernel
  have hf7 := hts (.fieldLink RX6 7 "LettersByLotModel" "q" "I") (by decide +kernel)
  have hf16 := hts (.fieldLink RX6 16 "LettersByLotModel" "weight" "[I") (by decide +kernel)
  have hf20 := hts (.fieldLink RX6 20 "LettersByLotModel" "size" "[I") (by decide +kernel)
  have hl := lv_entry ([.ref (ad (62)), .int (nI (k1))]) (n := 15) (Nat.le_of_ble_eq_true rfl)
  rw [lg_entry_eq]
  generalize (lg_sl ([.ref (ad (62)), .int (nI (k1))]) ++ List.replicate (15 - (lg_sl ([.ref (ad (62)), .int (nI (k1))])).length) Slot.unset).toArray = ls at hl ⊢
  have hl : lv_has ls 15 [(0, .ref (ad (62))), (1, .int (nI (k1)))] := hl
  obtain ⟨hq2, hq4, hw1, hw0, hWs, hWt, hw, hln, hul, hT, ht⟩ := hs
  obtain ⟨sq, nu, de, fw, fsz, fwd, ftx, fos, foz, fgo, frw, fan, fad, frn, frd, fen, fed, fcn, fcd, fnw, fth, fo62, fa63, fa64, fa65, fa66, fa67, fa68, fa69, fa70, fa71, fa72, fa73, fa74, fa75, fa76, fa77, fa78, fa79, fa80, hfw, hsz, hwl, htx⟩ := id hM
  have hWp : 1 ≤ Wt ∧ Wt ≤ 4 := by have h8 := hw1 0 (by omega); have h9 := wsum_mono (w := w) (show 1 ≤ q by omega); have h7 : wsum w 1 = 0 + w 0 := rfl; omega
  have hwA : ∀ k j, j < ln k → 1 ≤ w (u k j) := fun k j hj => hw1 _ (hul k j hj)
  have hwB : ∀ k j, j < ln k → w (u k j) ≤ 4 := fun k j hj => hw _ (Nat.lt_of_lt_of_le (hul k j hj) hq4)
  refine lv_aload_n hx hb dX6_best_0 rfl (lv_at hl 0 rfl) ?_
  refine lv_iload_n hx hb dX6_best_1 rfl (lv_at hl 1 rfl) ?_
  refine vp_callSi (va_Run.run (va_runV (As := [.int (nI (k1))]) (rest := []) ⟨hx, hb, hml, hown, hts⟩ (mX6_isWord_yes l (w := w) (ln := ln) (t := t) (u := u) fo62 fa64 hsz hk1 hp1 (hln _)) (cwV 1 hts gX6_best_X6_isWord rfl rfl rfl (by decide +kernel) ⟨Nat.le_of_ble_eq_true rfl, Nat.le_of_ble_eq_true rfl⟩) ⟨xB_blind, va_recv hK hP (ci := 6) rfl (xw_is (by decide) fo62), fun U hU hW => ⟨rfl, by rw [hU]; exact hP, va_K.moved hW.alike hK, va_Nw.warmM hW hN⟩⟩ rfl rfl hl.1 rfl (lv_room (Nat.le_of_ble_eq_true rfl)) dX6_best_2 ⟨Nat.le_of_ble_eq_true rfl, Nat.le_of_ble_eq_true rfl⟩)) (fun r1 er1 => ?_)
  subst er1
  refine xi_if_eq (tgt := 18) hx hb (by decide) dX6_best_5 (by decide) (fun c0 => absurd c0 (by decide)) (fun _ => ?_)
  refine lv_aload_n hx hb dX6_best_8 rfl (lv_at hl 0 rfl) ?_
  refine xw_get hx hb hts hin6 hown hK hP (by decide) fo62 rfl 3 (by decide) hf20 rfl rfl dX6_best_9 ?_
  refine lv_iload_n hx hb dX6_best_12 rfl (lv_at hl 1 rfl) ?_
  refine xw_iald hx hb hK hP (by decide) 0 fa64 rfl (by omega) (by decide) dX6_best_13 ?_
  rw [hsz (k1) (by omega)]
  refine lv_iconst (v := nI (3)) hx hb dX6_best_14 (by decide) ?_
  refine xi_icmp_ge (tgt := 20) hx hb (by have h9 := hln k1; omega) (by decide) dX6_best_15 (by decide) (fun c15_3 => ?_) (fun c15_3 => ?_)
  · refine lv_iconst (v := nI (1)) hx hb dX6_best_20 (by decide) ?_
    refine lv_istore_n (lv' := [(2, .int (nI (1))), (0, .ref (ad (62))), (1, .int (nI (k1)))]) hx hb dX6_best_21 rfl hl (by decide) rfl (fun ls hl => ?_)
    refine xloop (G := fun fr => W p l e _ s m _ below meth c _ _ _ _ _ fr) (σ := Nat) (fun i ls => F0 m 22 ls []) (fun i ls => (1 ≤ i ∧ i ≤ q) ∧ (∀ j, j < i → w j = w 0) ∧ lv_has ls 15 [(0, .ref (ad (62))), (1, .int (nI (k1))), (2, .int (nI (i)))]) (fun i => q - i) ?_ (1) ls ⟨⟨Nat.le_refl 1, by omega⟩, (fun j hj => by rw [show j = 0 by omega]), (lv_sub hl [1, 2, 0] rfl)⟩
    rintro i ls ⟨hi, hei, hl⟩ ih22
    refine lv_iload_n hx hb dX6_best_22 rfl (lv_at hl 2 rfl) ?_
    refine lv_aload_n hx hb dX6_best_23 rfl (lv_at hl 0 rfl) ?_
    refine xw_get hx hb hts hin6 hown hK hP (by decide) fo62 rfl 0 (by decide) hf7 rfl rfl dX6_best_24 ?_
    refine xi_icmp_ge (tgt := 53) hx hb (by omega) (by omega) dX6_best_27 (by decide) (fun c27_4 => ?_) (fun c27_4 => ?_)
    · exact absurd hno (by rintro (h | h); exact h (fun j hj => hei j (by omega)); exact absurd c15_3 (by omega))
    · refine lv_aload_n hx hb dX6_best_30 rfl (lv_at hl 0 rfl) ?_
      refine xw_get hx hb hts hin6 hown hK hP (by decide) fo62 rfl 2 (by decide) hf16 rfl rfl dX6_best_31 ?_
      refine lv_iload_n hx hb dX6_best_34 rfl (lv_at hl 2 rfl) ?_
      refine xw_iald hx hb hK hP (by decide) 0 fa63 rfl (by omega) (by decide) dX6_best_35 ?_
      rw [hfw (i) (by omega)]
      refine lv_aload_n hx hb dX6_best_36 rfl (lv_at hl 0 rfl) ?_
      refine xw_get hx hb hts hin6 hown hK hP (by decide) fo62 rfl 2 (by decide) hf16 rfl rfl dX6_best_37 ?_
      refine lv_iconst (v := nI (0)) hx hb dX6_best_40 (by decide) ?_
      refine xw_iald hx hb hK hP (by decide) 0 fa63 rfl (by omega) (by decide) dX6_best_41 ?_
      rw [hfw (0) (by omega)]
      refine xi_icmp_eq (tgt := 47) hx hb (by have h9 := hw i (by omega); omega) (by have h9 := hw 0 (by omega); omega) dX6_best_42 (by decide) (fun c42_5 => ?_) (fun c42_5 => ?_)
      · refine lv_iinc (v := nI (i + 1)) (lv' := [(2, .int (nI (i + 1))), (0, .ref (ad (62))), (1, .int (nI (k1)))]) hx hb dX6_best_47 hl (k := 2) rfl (nI_add (i) 1) (by decide) rfl (fun ls hl => ?_)
        refine lv_goto (tgt := 22) hx hb dX6_best_50 (by decide) ?_
        exact ih22 (i + 1) ls ⟨(by omega), (fun j hj => if e : j = i then by rw [e]; exact c42_5 else hei j (by omega)), (lv_sub hl [1, 2, 0] rfl)⟩ (by first | omega | (dsimp only; omega))
      · refine lv_iconst (v := (-1)) hx hb dX6_best_45 (by decide) ?_
        exact W.iret (v := (-1)) hx hb hr (fun tZ ht hW => ⟨⟨_, g, rfl, (by have hO : oBest q Wt w ln u (nI k1) = none := (by unfold oBest; rw [slotW_yes hk1 hp1]; exact if_neg (fun h => hno.elim (fun h2 => h2 h.1) (fun h2 => by have := h.2; omega))); rw [hO]; exact ⟨rfl, hM, fun _ _ => rfl⟩), by rw [ht]; exact hP, va_K.moved hW.alike hK, va_Nw.warmM hW hN⟩, hS.F ht⟩) hS.2.2 dX6_best_46
  · refine lv_iconst (v := (-1)) hx hb dX6_best_18 (by decide) ?_
    exact W.iret (v := (-1)) hx hb hr (fun tZ ht hW => ⟨⟨_, g, rfl, (by have hO : oBest q Wt w ln u (nI k1) = none := (by unfold oBest; rw [slotW_yes hk1 hp1]; exact if_neg (fun h => hno.elim (fun h2 => h2 h.1) (fun h2 => by have := h.2; omega))); rw [hO]; exact ⟨rfl, hM, fun _ _ => rfl⟩), by rw [ht]; exact hP, va_K.moved hW.alike hK, va_Nw.warmM hW hN⟩, hS.F ht⟩) hS.2.2 dX6_best_19
