set_option maxHeartbeats 4000000 in
set_option maxRecDepth 100000 in
/-- enterList, of a set -/
theorem mX5_enterList_in (l : Launch) {D : va_G} {cI cJ cZ cW : ClassId} {ad : Nat → Nat} {A : Nat → Prop} (hD : ∀ g, va_D A (xw 81 ad g)) {g : Nat → va_E} {q Wt : Nat} {w : Nat → Nat} {ln : Nat → Nat} {u : Nat → Nat → Nat} {T : Nat} {t : Nat → Nat} {tp bt : Int64} {Lq : Nat}  (hC : ClsI cI cJ cZ cW ad g q Wt w ln u T t tp bt) (hs : SrcI q Wt w ln u T t) (hL1 : 1 ≤ Lq) (hL2 : Lq < 256) : Met l yX5_enterList wsX5_enterList ({ frames := 3, cells := 0, slots := 0, locals := 71 }) (va_Pc [.ref (ad (0)), .int (nI (Lq))] (xB D (xT cI cJ cZ cW) ad g)) (va_Qi (fun r g2 => (r = nI 1 ∧ ∃ (k0 : Nat) (sl : Nat → Nat) (f5 : Nat → Option Nat) (f6 f7 : Nat → Int64), ent ln u Lq 8 = some (k0, sl) ∧ (∀ i, i < k0 → f5 i = some (ad (17 + 5 * sl i))) ∧ (∀ i, i < 9 → f6 i = lZ (rM Wt w ln u k0 sl i)) ∧ (∀ i, i < 3 → f7 i = lZ (rK Wt w ln u k0 sl i)) ∧ g2 4 = .inr (2, [.ref (ad (5)), .ref (ad (6)), .ref (ad (7)), .int (nI (k0))]) ∧ g2 5 = .inl (cW, 3, .inr (.inr (.inr (.inr (f5))))) ∧ g2 6 = .inl (cJ, 9, .inr (.inl (f6))) ∧ g2 7 = .inl (cJ, 3, .inr (.inl (f7))) ∧ ∀ j : Nat, j ≠ 4 → j ≠ 5 → j ≠ 6 → j ≠ 7 → g2 j = g j) ∨ (r = nI 0 ∧ ent ln u Lq 8 = none ∧ RaceR cJ cW ad g2 ∧ ∀ j : Nat, j ≠ 4 → j ≠ 5 → j ≠ 6 → j ≠ 7 → g2 j = g j)) (xB D (xT cI cJ cZ cW) ad) A) 0 0 A := by
  refine Met.ofW (cc := cX5_enterList) (maxL := 4) (ret := (some .boolean)) (by decide) rfl ?_
  intro p e s m args below meth c s₁ B hml hv
  obtain ⟨rfl, hP, hK, hN⟩ := hv
  have hx := B.exec
  have hb := B.bytes
  have hr := B.returns
  have hts := atoms_spec (ws := wsX5_enterList) B.pre
  have hown : s.vm.findClass RX5 = some m.cls := findClass_of_methodNamed B.named
  have hlocks := B.notSynchronized
  have hS : va_S A s.heap s.heap [] := va_S.rf
  have hin5 : ∀ w ∈ wsX50, w ∈ wsX5_enterList := by decide +kernel
  have hf30 := hts (.fieldLink RX5 30 "LettersByLot" "race" "LLettersByLot$Race;") (by decide +kernel)
  have hl := lv_entry ([.ref (ad (0)), .int (nI (Lq))]) (n := 4) (Nat.le_of_ble_eq_true rfl)
  rw [lg_entry_eq]
  generalize (lg_sl ([.ref (ad (0)), .int (nI (Lq))]) ++ List.replicate (4 - (lg_sl ([.ref (ad (0)), .int (nI (Lq))])).length) Slot.unset).toArray = ls at hl ⊢
  have hl : lv_has ls 4 [(0, .ref (ad (0))), (1, .int (nI (Lq)))] := hl
  obtain ⟨hq2, hq4, hw1, hw0, hWs, hWt, hw, hln, hul, hT, ht⟩ := hs
  obtain ⟨fo_0, ⟨f2, fo_1, fa_2, h2⟩, ⟨f3, fa_3, h3⟩, hRace, hMach, ⟨f16, fo15, fa16, h16⟩, hwd, hcand⟩ := id hC
  have hWp : 1 ≤ Wt ∧ Wt ≤ 4 := by have h8 := hw1 0 (by omega); have h9 := wsum_mono (w := w) (show 1 ≤ q by omega); have h7 : wsum w 1 = 0 + w 0 := rfl; omega
  obtain ⟨f5r, f6r, f7r, szr, fo4, fa5, fa6, fa7⟩ := hRace
  refine lv_aload_n hx hb dX5_enterList_0 rfl (lv_at hl 0 rfl) ?_
  refine xw_get hx hb hts hin5 hown hK hP (by decide) fo_0 rfl 3 (by decide) hf30 rfl rfl dX5_enterList_1 ?_
  refine va_callv (va_runV (As := []) (rest := []) ⟨hx, hb, hml, hown, hts⟩ (mX2_clear l hD fo4 fa5 fa6 fa7) (cwV 0 hts gX5_enterList_X2_clear rfl rfl rfl (by decide +kernel) ⟨Nat.le_of_ble_eq_true rfl, Nat.le_of_ble_eq_true rfl⟩) ⟨xB_blind, va_recv hK hP (ci := 2) rfl (xw_is (by decide) fo4), fun U hU hW => ⟨rfl, by rw [hU]; exact hP, va_K.moved hW.alike hK, va_Nw.warmM hW hN⟩⟩ rfl rfl hl.1 rfl (lv_room (Nat.le_of_ble_eq_true rfl)) dX5_enterList_4 ⟨Nat.le_of_ble_eq_true rfl, Nat.le_of_ble_eq_true rfl⟩) hS (fun _ _ h => h) (fun _ h => h) (fun g1 tZ H locs ht hvm hwg1 hB hzZ hkZ hS => ?_)
  obtain ⟨hP, -⟩ := hB
  rw [ht] at hP
  obtain ⟨f5c, f6c, f7c, h5c, h6c, h7c, fg1_n0, fg1_n1, fg1_n2, fg1_n3, hcg1⟩ := hwg1
  have fg1_k0 : g1 (0) = .inr (5, [.ref (ad (1)), .ref (ad (3)), .ref (ad (57)), .ref (ad (4)), .ref (ad (8)), .ref (ad (15)), .long (tp), .long (bt)]) := (hcg1 (0) (by decide) (by decide) (by decide) (by decide)).trans fo_0
  have fg1_k1 : g1 (1) = .inr (0, [.ref (ad (2)), .int (nI (q)), .int (nI (Wt))]) := (hcg1 (1) (by decide) (by decide) (by decide) (by decide)).trans fo_1
  have fg1_k2 : g1 (2) = .inl (cI, 4, .inl (f2)) := (hcg1 (2) (by decide) (by decide) (by decide) (by decide)).trans fa_2
  have fg1_k3 : g1 (15) = .inr (3, [.ref (ad (16)), .int (nI (T))]) := (hcg1 (15) (by decide) (by decide) (by decide) (by decide)).trans fo15
  have fg1_k4 : g1 (16) = .inl (cI, 300, .inl (f16)) := (hcg1 (16) (by decide) (by decide) (by decide) (by decide)).trans fa16
  have fg1_k5 : g1 (3) = .inl (cW, 8, .inr (.inr (.inr (.inr (f3))))) := (hcg1 (3) (by decide) (by decide) (by decide) (by decide)).trans fa_3
  have hfrg1 : ∀ j : Nat, j ≠ 4 → j ≠ 5 → j ≠ 6 → j ≠ 7 → g1 j = g j := fun j h0 h1 h2 h3 => (hcg1 j h0 h1 h2 h3).trans ((fun _ _ _ _ _ => rfl) j h0 h1 h2 h3)
  refine lv_iload_n hx hb dX5_enterList_7 rfl (lv_at hl 1 rfl) ?_
  refine xi_if_eq (tgt := 19) hx hb (by omega) dX5_enterList_8 (by decide) (fun c8_3 => ?_) (fun c8_3 => ?_)
  · exact absurd c8_3 (by omega)
  · refine lv_iload_n hx hb dX5_enterList_11 rfl (lv_at hl 1 rfl) ?_
    refine lv_sipush (v := (-256)) hx hb dX5_enterList_12 (by decide) ?_
    refine lv_iand hx hb dX5_enterList_15 ?_
    refine xtopi (y := nI (0)) (and256 _ hL2) ?_
    refine xi_if_eq (tgt := 21) hx hb (by decide) dX5_enterList_16 (by decide) (fun _ => ?_) (fun c0 => absurd c0 (by decide))
    refine lv_iconst (v := nI (0)) hx hb dX5_enterList_21 (by decide) ?_
    refine lv_istore_n (lv' := [(2, .int (nI (0))), (0, .ref (ad (0))), (1, .int (nI (Lq)))]) hx hb dX5_enterList_22 rfl hl (by decide) rfl (fun ls hl => ?_)
    refine xloopW (G := fun H locs fr => W p l e _ s m _ below meth c H locs _ _ _ fr) (σ := Nat × Nat × (Nat → Nat) × (Nat → Option Nat) × (Nat → Int64) × (Nat → Int64)) (fun (s0, k0, sl, f5, f6, f7) ls => F0 m 23 ls []) (fun (s0, k0, sl, f5, f6, f7) gl23_6 H locs ls => (s0 ≤ 8) ∧ (ent ln u Lq s0 = some (k0, sl)) ∧ (∀ i, i < k0 → f5 i = some (ad (17 + 5 * sl i))) ∧ (∀ i, i < 9 → f6 i = lZ (rM Wt w ln u k0 sl i)) ∧ (∀ i, i < 3 → f7 i = lZ (rK Wt w ln u k0 sl i)) ∧ gl23_6 (0) = .inr (5, [.ref (ad (1)), .ref (ad (3)), .ref (ad (57)), .ref (ad (4)), .ref (ad (8)), .ref (ad (15)), .long (tp), .long (bt)]) ∧ gl23_6 (3) = .inl (cW, 8, .inr (.inr (.inr (.inr (f3))))) ∧ gl23_6 (4) = .inr (2, [.ref (ad (5)), .ref (ad (6)), .ref (ad (7)), .int (nI (k0))]) ∧ gl23_6 (5) = .inl (cW, 3, .inr (.inr (.inr (.inr (f5))))) ∧ gl23_6 (6) = .inl (cJ, 9, .inr (.inl (f6))) ∧ gl23_6 (7) = .inl (cJ, 3, .inr (.inl (f7))) ∧ (∀ j : Nat, j ≠ 4 → j ≠ 5 → j ≠ 6 → j ≠ 7 → gl23_6 j = g j) ∧ va_P D vwCl (xw 81 ad gl23_6) H ∧ va_S A s.heap H locs ∧ lv_has ls 4 [(0, .ref (ad (0))), (1, .int (nI (Lq))), (2, .int (nI (s0)))]) (fun (s0, k0, sl, f5, f6, f7) => 9 - s0) ?_ (0, 0, (fun _ => 0), f5c, f6c, f7c) g1 H locs ls ⟨(by omega), rfl, (fun i hi => absurd hi (by omega)), (fun i hi => by rw [h6c i hi]; rcases (show i = 0 ∨ i = 1 ∨ i = 2 ∨ i = 3 ∨ i = 4 ∨ i = 5 ∨ i = 6 ∨ i = 7 ∨ i = 8 by omega) with rfl | rfl | rfl | rfl | rfl | rfl | rfl | rfl | rfl <;> rfl), (fun i hi => by rw [h7c i hi]; rcases (show i = 0 ∨ i = 1 ∨ i = 2 by omega) with rfl | rfl | rfl <;> rfl), fg1_k0, fg1_k5, fg1_n0, fg1_n1, fg1_n2, fg1_n3, hfrg1, hP, hS, (lv_sub hl [1, 2, 0] rfl)⟩
    rintro ⟨s0, k0, sl, f5, f6, f7⟩ gl23_6 H locs ls ⟨hs8, hent, h5, h6, h7, fo_0, fa_3, fo4, fa5, fa6, fa7, hfrgl23_6, hP, hS, hl⟩ ih23
    refine lv_iload_n hx hb dX5_enterList_23 rfl (lv_at hl 2 rfl) ?_
    refine lv_bipush (v := nI (8)) hx hb dX5_enterList_24 (by decide) ?_
    refine xi_icmp_ge (tgt := 67) hx hb (by omega) (by decide) dX5_enterList_26 (by decide) (fun c26_7 => ?_) (fun c26_7 => ?_)
    · refine lv_iconst (v := nI (1)) hx hb dX5_enterList_67 (by decide) ?_
      exact W.zret (v := nI (1)) hx hb hr (by decide) (fun tZ ht hW => ⟨⟨_, gl23_6, rfl, Or.inl ⟨rfl, k0, sl, f5, f6, f7, (by rw [← hent]; congr 1; omega), h5, h6, h7, fo4, fa5, fa6, fa7, hfrgl23_6⟩, by rw [ht]; exact hP, va_K.moved hW.alike hK, va_Nw.warmM hW hN⟩, hS.F ht⟩) hS.2.2 dX5_enterList_68
    · refine lv_iload_n hx hb dX5_enterList_29 rfl (lv_at hl 1 rfl) ?_
      refine lv_iload_n hx hb dX5_enterList_30 rfl (lv_at hl 2 rfl) ?_
      refine lv_ishr hx hb dX5_enterList_31 ?_
      refine xtopi (y := nI (Lq / 2 ^ s0)) (nI_shr (by omega) (by omega)) ?_
      refine lv_iconst (v := nI (1)) hx hb dX5_enterList_32 (by decide) ?_
      refine lv_iand hx hb dX5_enterList_33 ?_
      refine xtopi (y := nI (Lq / 2 ^ s0 % 2)) (and1 _) ?_
      refine lv_iconst (v := nI (1)) hx hb dX5_enterList_34 (by decide) ?_
      refine xi_icmp_ne (tgt := 61) hx hb (by omega) (by decide) dX5_enterList_35 (by decide) (fun c35_10 => ?_) (fun c35_10 => ?_)
      · refine lv_iinc (v := nI (s0 + 1)) (lv' := [(2, .int (nI (s0 + 1))), (0, .ref (ad (0))), (1, .int (nI (Lq)))]) hx hb dX5_enterList_61 hl (k := 2) rfl (nI_add (s0) 1) (by decide) rfl (fun ls hl => ?_)
        refine lv_goto (tgt := 23) hx hb dX5_enterList_64 (by decide) ?_
        exact ih23 (s0 + 1, k0, sl, f5, f6, f7) gl23_6 H locs ls ⟨(by omega), (by rw [ent_s hent, if_neg c35_10]), h5, h6, h7, fo_0, fa_3, fo4, fa5, fa6, fa7, hfrgl23_6, hP, hS, (lv_sub hl [1, 2, 0] rfl)⟩ (by first | omega | (dsimp only; omega))
      · refine lv_aload_n hx hb dX5_enterList_38 rfl (lv_at hl 0 rfl) ?_
        refine lv_iload_n hx hb dX5_enterList_39 rfl (lv_at hl 2 rfl) ?_
        have hwdL : ∀ k, k < 8 → WordI cI cJ ad gl23_6 q Wt w (17 + 5 * k) (ln k) (u k) := fun k hk => (hwd k hk).to (fun j h1 h2 => hfrgl23_6 j (by omega) (by omega) (by omega) (by omega))
        rcases Nat.eq_zero_or_pos (ln s0) with h0 | h0
        · refine va_csq (va_Run.run (va_runV (As := [.int (nI (s0))]) (rest := []) ⟨hx, hb, hml, hown, hts⟩ (mX5_wordIn_no l fo_0 fa_3 h3 hwdL (Or.inr (Or.inr ⟨s0, by omega, rfl, h0⟩))) (cwV 1 hts gX5_enterList_X5_wordIn rfl rfl rfl (by decide +kernel) ⟨Nat.le_of_ble_eq_true rfl, Nat.le_of_ble_eq_true rfl⟩) ⟨xB_blind, va_recv hK hP (ci := 5) rfl (xw_is (by decide) fo_0), fun U hU hW => ⟨rfl, by rw [hU]; exact hP, va_K.moved hW.alike hK, va_Nw.warmM hW hN⟩⟩ rfl rfl hl.1 rfl (lv_room (Nat.le_of_ble_eq_true rfl)) dX5_enterList_40 ⟨Nat.le_of_ble_eq_true rfl, Nat.le_of_ble_eq_true rfl⟩)) (fun r11 er11 => ?_)
          subst er11
          refine W.eq (g2 := F0 m 43 ls (.null :: [])) rfl ?_
          refine lv_astore_nN (lv' := [(3, .null), (0, .ref (ad (0))), (1, .int (nI (Lq))), (2, .int (nI (s0)))]) hx hb dX5_enterList_43 rfl hl (by decide) rfl (fun ls hl => ?_)
          refine lv_aload_nN hx hb dX5_enterList_44 rfl (lv_at hl 0 rfl) ?_
          refine lv_ifnullN (tgt := 59) hx hb dX5_enterList_45 (by decide) ?_
          refine lv_iconst (v := nI (0)) hx hb dX5_enterList_59 (by decide) ?_
          exact W.zret (v := nI (0)) hx hb hr (by decide) (fun tZ ht hW => ⟨⟨_, gl23_6, rfl, Or.inr ⟨rfl, ent_8 (s := s0 + 1) (by omega) (by rw [ent_s hent, if_pos c35_10]; exact if_neg (fun h => absurd h.1 (by omega))), ⟨_, _, _, _, fo4, fa5, fa6, fa7⟩, hfrgl23_6⟩, by rw [ht]; exact hP, va_K.moved hW.alike hK, va_Nw.warmM hW hN⟩, hS.F ht⟩) hS.2.2 dX5_enterList_60
        · obtain ⟨fl1, fh1, ft1, fs1, fo1, fal1, fah1, fat1, fas1, hfl1, hfh1, hft1, hfs1⟩ := cw_pos hwdL (k := s0) (by omega) rfl rfl rfl rfl rfl h0
          refine va_csq (va_Run.run (va_runV (As := [.int (nI (s0))]) (rest := []) ⟨hx, hb, hml, hown, hts⟩ (mX5_wordIn_yes l fo_0 fa_3 fo1 h3 (by omega) rfl h0 (hln s0)) (cwV 1 hts gX5_enterList_X5_wordIn rfl rfl rfl (by decide +kernel) ⟨Nat.le_of_ble_eq_true rfl, Nat.le_of_ble_eq_true rfl⟩) ⟨xB_blind, va_recv hK hP (ci := 5) rfl (xw_is (by decide) fo_0), fun U hU hW => ⟨rfl, by rw [hU]; exact hP, va_K.moved hW.alike hK, va_Nw.warmM hW hN⟩⟩ rfl rfl hl.1 rfl (lv_room (Nat.le_of_ble_eq_true rfl)) dX5_enterList_40 ⟨Nat.le_of_ble_eq_true rfl, Nat.le_of_ble_eq_true rfl⟩)) (fun r12 er12 => ?_)
          subst er12
          refine W.eq (g2 := F0 m 43 ls (.ref (ad (17 + 5 * s0)) :: [])) rfl ?_
          refine lv_astore_n (lv' := [(3, .ref (ad (17 + 5 * s0))), (0, .ref (ad (0))), (1, .int (nI (Lq))), (2, .int (nI (s0)))]) hx hb dX5_enterList_43 rfl hl (by decide) rfl (fun ls hl => ?_)
          refine lv_aload_n hx hb dX5_enterList_44 rfl (lv_at hl 0 rfl) ?_
          refine lv_ifnull hx hb dX5_enterList_45 ?_
          refine lv_aload_n hx hb dX5_enterList_48 rfl (lv_at hl 1 rfl) ?_
          refine xw_get hx hb hts hin5 hown hK hP (by decide) fo_0 rfl 3 (by decide) hf30 rfl rfl dX5_enterList_49 ?_
          refine lv_aload_n hx hb dX5_enterList_52 rfl (lv_at hl 0 rfl) ?_
          obtain ⟨hk3, hsl⟩ := ent_inv hent
          rcases (show k0 = 0 ∨ k0 = 1 ∨ k0 = 2 ∨ k0 = 3 by omega) with rfl | rfl | rfl | rfl
          · refine va_calli (va_runV (As := [.ref (ad (17 + 5 * s0))]) (rest := []) ⟨hx, hb, hml, hown, hts⟩ (mX2_enter0 l hD (q := q) fo4 fa5 fa6 fa7 fo1 fal1 fah1 fat1 fas1  hq4 (by omega) (hln (s0)) (hul (s0)) hfl1 hfh1 hft1 hfs1 (by omega)  ) (cwV 1 hts gX5_enterList_X2_enter rfl rfl rfl (by decide +kernel) ⟨Nat.le_of_ble_eq_true rfl, Nat.le_of_ble_eq_true rfl⟩) ⟨xB_blind, va_recv hK hP (ci := 2) rfl (xw_is (by decide) fo4), fun U hU hW => ⟨rfl, by rw [hU]; exact hP, va_K.moved hW.alike hK, va_Nw.warmM hW hN⟩⟩ rfl rfl hl.1 rfl (lv_room (Nat.le_of_ble_eq_true rfl)) dX5_enterList_53 ⟨Nat.le_of_ble_eq_true rfl, Nat.le_of_ble_eq_true rfl⟩) hS (fun _ _ h => h) (fun _ h => h) (fun r1 ge13 tZ H locs ht1 hvm hwb hB hzZ hkZ hS => ?_)
            obtain ⟨hP, -⟩ := hB
            rw [ht1] at hP
            rcases hwb with ⟨er1, hli, fe4, fe5, fe6, fe7, hce⟩ | ⟨er1, hli, eg⟩
            · subst er1
              have fk0 : ge13 (0) = .inr (5, [.ref (ad (1)), .ref (ad (3)), .ref (ad (57)), .ref (ad (4)), .ref (ad (8)), .ref (ad (15)), .long (tp), .long (bt)]) := (hce (0) (by decide) (by decide) (by decide) (by decide)).trans fo_0
              have fk3 : ge13 (3) = .inl (cW, 8, .inr (.inr (.inr (.inr (f3))))) := (hce (3) (by decide) (by decide) (by decide) (by decide)).trans fa_3
              have hfrge13 : ∀ j : Nat, j ≠ 4 → j ≠ 5 → j ≠ 6 → j ≠ 7 → ge13 j = g j := fun j h0 h1 h2 h3 => (hce j h0 h1 h2 h3).trans (hfrgl23_6 j h0 h1 h2 h3)
              refine xi_if_ne (tgt := 61) hx hb (by decide) dX5_enterList_56 (by decide) (fun _ => ?_) (fun c0 => absurd c0 (by decide))
              refine lv_iinc (v := nI (s0 + 1)) (lv' := [(2, .int (nI (s0 + 1))), (3, .ref (ad (17 + 5 * s0))), (0, .ref (ad (0))), (1, .int (nI (Lq)))]) hx hb dX5_enterList_61 hl (k := 3) rfl (nI_add (s0) 1) (by decide) rfl (fun ls hl => ?_)
              refine lv_goto (tgt := 23) hx hb dX5_enterList_64 (by decide) ?_
              exact ih23 (s0 + 1, 1, va_up sl 0 s0, va_up (f5) (0) (some (ad (17 + 5 * s0))), vp_updL (vp_updL (f6) (0) (lZ ((lapS (shr Wt w (u (s0)) (ln (s0))) (u (s0)) (ln (s0)) (u (s0)) (ln (s0)) 5 : Int)))) (0) (lZ ((lapS (shr Wt w (u (s0)) (ln (s0))) (u (s0)) (ln (s0)) (u (s0)) (ln (s0)) 5 : Int))), vp_updL (f7) (0) (lZ ((shr Wt w (u s0) (ln s0) 0 : Int)))) ge13 H locs ls ⟨(by omega), (by rw [ent_s hent, if_pos c35_10, if_pos ⟨h0, by decide, (fun i hi => absurd hi (by omega))⟩]), (fun i hi => by rcases (show i = 0 by omega) with rfl <;> first | rfl | exact h5 _ (by decide)), (fun i hi => by rcases (show i = 0 ∨ i = 1 ∨ i = 2 ∨ i = 3 ∨ i = 4 ∨ i = 5 ∨ i = 6 ∨ i = 7 ∨ i = 8 by omega) with rfl | rfl | rfl | rfl | rfl | rfl | rfl | rfl | rfl <;> first | rfl | exact h6 _ (by decide)), (fun i hi => by rcases (show i = 0 ∨ i = 1 ∨ i = 2 by omega) with rfl | rfl | rfl <;> first | rfl | exact h7 _ (by decide)), fk0, fk3, fe4, fe5, fe6, fe7, hfrge13, hP, hS, (lv_sub hl [2, 3, 0] rfl)⟩ (by first | omega | (dsimp only; omega))
            · subst er1
              rw [eg] at hP
              refine xi_if_ne (tgt := 61) hx hb (by decide) dX5_enterList_56 (by decide) (fun c0 => absurd c0 (by decide)) (fun _ => ?_)
              refine lv_iconst (v := nI (0)) hx hb dX5_enterList_59 (by decide) ?_
              exact W.zret (v := nI (0)) hx hb hr (by decide) (fun tZ ht hW => ⟨⟨_, gl23_6, rfl, Or.inr ⟨rfl, ent_8 (s := s0 + 1) (by omega) (by exact absurd hli (fun h => h)), ⟨_, _, _, _, fo4, fa5, fa6, fa7⟩, hfrgl23_6⟩, by rw [ht]; exact hP, va_K.moved hW.alike hK, va_Nw.warmM hW hN⟩, hS.F ht⟩) hS.2.2 dX5_enterList_60
          · obtain ⟨fl2, fh2, ft2, fs2, fo2, fal2, fah2, fat2, fas2, hfl2, hfh2, hft2, hfs2⟩ := cw_pos hwdL (k := sl 0) (Nat.lt_of_lt_of_le (hsl 0 (by decide)).1 hs8) rfl rfl rfl rfl rfl (hsl 0 (by decide)).2
            have hsl80 : sl 0 < 8 := Nat.lt_of_lt_of_le (hsl 0 (by decide)).1 hs8
            refine va_calli (va_runV (As := [.ref (ad (17 + 5 * s0))]) (rest := []) ⟨hx, hb, hml, hown, hts⟩ (mX2_enter1 l hD (q := q) fo4 fa5 fa6 fa7 fo1 fal1 fah1 fat1 fas1 fo2 fal2 fah2 fat2 fas2 hq4 (by omega) (hln (s0)) (hul (s0)) hfl1 hfh1 hft1 hfs1 (by omega) (by omega) (hln (sl 0)) (hul (sl 0)) hfl2 hfh2 hft2 hfs2 (by omega) (h5 0 (by decide))) (cwV 1 hts gX5_enterList_X2_enter rfl rfl rfl (by decide +kernel) ⟨Nat.le_of_ble_eq_true rfl, Nat.le_of_ble_eq_true rfl⟩) ⟨xB_blind, va_recv hK hP (ci := 2) rfl (xw_is (by decide) fo4), fun U hU hW => ⟨rfl, by rw [hU]; exact hP, va_K.moved hW.alike hK, va_Nw.warmM hW hN⟩⟩ rfl rfl hl.1 rfl (lv_room (Nat.le_of_ble_eq_true rfl)) dX5_enterList_53 ⟨Nat.le_of_ble_eq_true rfl, Nat.le_of_ble_eq_true rfl⟩) hS (fun _ _ h => h) (fun _ h => h) (fun r1 ge16 tZ H locs ht1 hvm hwb hB hzZ hkZ hS => ?_)
            obtain ⟨hP, -⟩ := hB
            rw [ht1] at hP
            rcases hwb with ⟨er1, hli, fe4, fe5, fe6, fe7, hce⟩ | ⟨er1, hli, eg⟩
            · subst er1
              have fk0 : ge16 (0) = .inr (5, [.ref (ad (1)), .ref (ad (3)), .ref (ad (57)), .ref (ad (4)), .ref (ad (8)), .ref (ad (15)), .long (tp), .long (bt)]) := (hce (0) (by decide) (by decide) (by decide) (by decide)).trans fo_0
              have fk3 : ge16 (3) = .inl (cW, 8, .inr (.inr (.inr (.inr (f3))))) := (hce (3) (by decide) (by decide) (by decide) (by decide)).trans fa_3
              have hfrge16 : ∀ j : Nat, j ≠ 4 → j ≠ 5 → j ≠ 6 → j ≠ 7 → ge16 j = g j := fun j h0 h1 h2 h3 => (hce j h0 h1 h2 h3).trans (hfrgl23_6 j h0 h1 h2 h3)
              refine xi_if_ne (tgt := 61) hx hb (by decide) dX5_enterList_56 (by decide) (fun _ => ?_) (fun c0 => absurd c0 (by decide))
              refine lv_iinc (v := nI (s0 + 1)) (lv' := [(2, .int (nI (s0 + 1))), (3, .ref (ad (17 + 5 * s0))), (0, .ref (ad (0))), (1, .int (nI (Lq)))]) hx hb dX5_enterList_61 hl (k := 3) rfl (nI_add (s0) 1) (by decide) rfl (fun ls hl => ?_)
              refine lv_goto (tgt := 23) hx hb dX5_enterList_64 (by decide) ?_
              exact ih23 (s0 + 1, 2, va_up sl 1 s0, va_up (f5) (1) (some (ad (17 + 5 * s0))), vp_updL (vp_updL (vp_updL (vp_updL (f6) (3) (lZ ((lapS (shr Wt w (u (s0)) (ln (s0))) (u (sl 0)) (ln (sl 0)) (u (s0)) (ln (s0)) 5 : Int)))) (1) (lZ ((lapS (shr Wt w (u (sl 0)) (ln (sl 0))) (u (s0)) (ln (s0)) (u (sl 0)) (ln (sl 0)) 5 : Int)))) (4) (lZ ((lapS (shr Wt w (u (s0)) (ln (s0))) (u (s0)) (ln (s0)) (u (s0)) (ln (s0)) 5 : Int)))) (4) (lZ ((lapS (shr Wt w (u (s0)) (ln (s0))) (u (s0)) (ln (s0)) (u (s0)) (ln (s0)) 5 : Int))), vp_updL (f7) (1) (lZ ((shr Wt w (u s0) (ln s0) 0 : Int)))) ge16 H locs ls ⟨(by omega), (by rw [ent_s hent, if_pos c35_10, if_pos ⟨h0, by decide, (fun i hi => by rcases (show i = 0 by omega) with rfl; exact hli)⟩]), (fun i hi => by rcases (show i = 0 ∨ i = 1 by omega) with rfl | rfl <;> first | rfl | exact h5 _ (by decide)), (fun i hi => by rcases (show i = 0 ∨ i = 1 ∨ i = 2 ∨ i = 3 ∨ i = 4 ∨ i = 5 ∨ i = 6 ∨ i = 7 ∨ i = 8 by omega) with rfl | rfl | rfl | rfl | rfl | rfl | rfl | rfl | rfl <;> first | rfl | exact h6 _ (by decide)), (fun i hi => by rcases (show i = 0 ∨ i = 1 ∨ i = 2 by omega) with rfl | rfl | rfl <;> first | rfl | exact h7 _ (by decide)), fk0, fk3, fe4, fe5, fe6, fe7, hfrge16, hP, hS, (lv_sub hl [2, 3, 0] rfl)⟩ (by first | omega | (dsimp only; omega))
            · subst er1
              rw [eg] at hP
              refine xi_if_ne (tgt := 61) hx hb (by decide) dX5_enterList_56 (by decide) (fun c0 => absurd c0 (by decide)) (fun _ => ?_)
              refine lv_iconst (v := nI (0)) hx hb dX5_enterList_59 (by decide) ?_
              exact W.zret (v := nI (0)) hx hb hr (by decide) (fun tZ ht hW => ⟨⟨_, gl23_6, rfl, Or.inr ⟨rfl, ent_8 (s := s0 + 1) (by omega) (by rw [ent_s hent, if_pos c35_10]; exact if_neg (fun h => h.2.2 0 (by decide) hli)), ⟨_, _, _, _, fo4, fa5, fa6, fa7⟩, hfrgl23_6⟩, by rw [ht]; exact hP, va_K.moved hW.alike hK, va_Nw.warmM hW hN⟩, hS.F ht⟩) hS.2.2 dX5_enterList_60
          · obtain ⟨fl2, fh2, ft2, fs2, fo2, fal2, fah2, fat2, fas2, hfl2, hfh2, hft2, hfs2⟩ := cw_pos hwdL (k := sl 0) (Nat.lt_of_lt_of_le (hsl 0 (by decide)).1 hs8) rfl rfl rfl rfl rfl (hsl 0 (by decide)).2
            obtain ⟨fl3, fh3, ft3, fs3, fo3, fal3, fah3, fat3, fas3, hfl3, hfh3, hft3, hfs3⟩ := cw_pos hwdL (k := sl 1) (Nat.lt_of_lt_of_le (hsl 1 (by decide)).1 hs8) rfl rfl rfl rfl rfl (hsl 1 (by decide)).2
            have hsl80 : sl 0 < 8 := Nat.lt_of_lt_of_le (hsl 0 (by decide)).1 hs8
            have hsl81 : sl 1 < 8 := Nat.lt_of_lt_of_le (hsl 1 (by decide)).1 hs8
            refine va_calli (va_runV (As := [.ref (ad (17 + 5 * s0))]) (rest := []) ⟨hx, hb, hml, hown, hts⟩ (mX2_enter2 l hD (q := q) fo4 fa5 fa6 fa7 fo1 fal1 fah1 fat1 fas1 fo2 fal2 fah2 fat2 fas2 fo3 fal3 fah3 fat3 fas3 hq4 (by omega) (hln (s0)) (hul (s0)) hfl1 hfh1 hft1 hfs1 (by omega) (by omega) (hln (sl 0)) (hul (sl 0)) hfl2 hfh2 hft2 hfs2 (by omega) (by omega) (hln (sl 1)) (hul (sl 1)) hfl3 hfh3 hft3 hfs3 (by omega) (h5 0 (by decide)) (h5 1 (by decide))) (cwV 1 hts gX5_enterList_X2_enter rfl rfl rfl (by decide +kernel) ⟨Nat.le_of_ble_eq_true rfl, Nat.le_of_ble_eq_true rfl⟩) ⟨xB_blind, va_recv hK hP (ci := 2) rfl (xw_is (by decide) fo4), fun U hU hW => ⟨rfl, by rw [hU]; exact hP, va_K.moved hW.alike hK, va_Nw.warmM hW hN⟩⟩ rfl rfl hl.1 rfl (lv_room (Nat.le_of_ble_eq_true rfl)) dX5_enterList_53 ⟨Nat.le_of_ble_eq_true rfl, Nat.le_of_ble_eq_true rfl⟩) hS (fun _ _ h => h) (fun _ h => h) (fun r1 ge19 tZ H locs ht1 hvm hwb hB hzZ hkZ hS => ?_)
            obtain ⟨hP, -⟩ := hB
            rw [ht1] at hP
            rcases hwb with ⟨er1, hli, fe4, fe5, fe6, fe7, hce⟩ | ⟨er1, hli, eg⟩
            · subst er1
              have fk0 : ge19 (0) = .inr (5, [.ref (ad (1)), .ref (ad (3)), .ref (ad (57)), .ref (ad (4)), .ref (ad (8)), .ref (ad (15)), .long (tp), .long (bt)]) := (hce (0) (by decide) (by decide) (by decide) (by decide)).trans fo_0
              have fk3 : ge19 (3) = .inl (cW, 8, .inr (.inr (.inr (.inr (f3))))) := (hce (3) (by decide) (by decide) (by decide) (by decide)).trans fa_3
              have hfrge19 : ∀ j : Nat, j ≠ 4 → j ≠ 5 → j ≠ 6 → j ≠ 7 → ge19 j = g j := fun j h0 h1 h2 h3 => (hce j h0 h1 h2 h3).trans (hfrgl23_6 j h0 h1 h2 h3)
              refine xi_if_ne (tgt := 61) hx hb (by decide) dX5_enterList_56 (by decide) (fun _ => ?_) (fun c0 => absurd c0 (by decide))
              refine lv_iinc (v := nI (s0 + 1)) (lv' := [(2, .int (nI (s0 + 1))), (3, .ref (ad (17 + 5 * s0))), (0, .ref (ad (0))), (1, .int (nI (Lq)))]) hx hb dX5_enterList_61 hl (k := 3) rfl (nI_add (s0) 1) (by decide) rfl (fun ls hl => ?_)
              refine lv_goto (tgt := 23) hx hb dX5_enterList_64 (by decide) ?_
              exact ih23 (s0 + 1, 3, va_up sl 2 s0, va_up (f5) (2) (some (ad (17 + 5 * s0))), vp_updL (vp_updL (vp_updL (vp_updL (vp_updL (vp_updL (f6) (6) (lZ ((lapS (shr Wt w (u (s0)) (ln (s0))) (u (sl 0)) (ln (sl 0)) (u (s0)) (ln (s0)) 5 : Int)))) (2) (lZ ((lapS (shr Wt w (u (sl 0)) (ln (sl 0))) (u (s0)) (ln (s0)) (u (sl 0)) (ln (sl 0)) 5 : Int)))) (7) (lZ ((lapS (shr Wt w (u (s0)) (ln (s0))) (u (sl 1)) (ln (sl 1)) (u (s0)) (ln (s0)) 5 : Int)))) (5) (lZ ((lapS (shr Wt w (u (sl 1)) (ln (sl 1))) (u (s0)) (ln (s0)) (u (sl 1)) (ln (sl 1)) 5 : Int)))) (8) (lZ ((lapS (shr Wt w (u (s0)) (ln (s0))) (u (s0)) (ln (s0)) (u (s0)) (ln (s0)) 5 : Int)))) (8) (lZ ((lapS (shr Wt w (u (s0)) (ln (s0))) (u (s0)) (ln (s0)) (u (s0)) (ln (s0)) 5 : Int))), vp_updL (f7) (2) (lZ ((shr Wt w (u s0) (ln s0) 0 : Int)))) ge19 H locs ls ⟨(by omega), (by rw [ent_s hent, if_pos c35_10, if_pos ⟨h0, by decide, (fun i hi => by rcases (show i = 0 ∨ i = 1 by omega) with rfl | rfl; exact fun h => hli (Or.inl h); exact fun h => hli (Or.inr h))⟩]), (fun i hi => by rcases (show i = 0 ∨ i = 1 ∨ i = 2 by omega) with rfl | rfl | rfl <;> first | rfl | exact h5 _ (by decide)), (fun i hi => by rcases (show i = 0 ∨ i = 1 ∨ i = 2 ∨ i = 3 ∨ i = 4 ∨ i = 5 ∨ i = 6 ∨ i = 7 ∨ i = 8 by omega) with rfl | rfl | rfl | rfl | rfl | rfl | rfl | rfl | rfl <;> first | rfl | exact h6 _ (by decide)), (fun i hi => by rcases (show i = 0 ∨ i = 1 ∨ i = 2 by omega) with rfl | rfl | rfl <;> first | rfl | exact h7 _ (by decide)), fk0, fk3, fe4, fe5, fe6, fe7, hfrge19, hP, hS, (lv_sub hl [2, 3, 0] rfl)⟩ (by first | omega | (dsimp only; omega))
            · subst er1
              rw [eg] at hP
              refine xi_if_ne (tgt := 61) hx hb (by decide) dX5_enterList_56 (by decide) (fun c0 => absurd c0 (by decide)) (fun _ => ?_)
              refine lv_iconst (v := nI (0)) hx hb dX5_enterList_59 (by decide) ?_
              exact W.zret (v := nI (0)) hx hb hr (by decide) (fun tZ ht hW => ⟨⟨_, gl23_6, rfl, Or.inr ⟨rfl, ent_8 (s := s0 + 1) (by omega) (by rw [ent_s hent, if_pos c35_10]; exact if_neg (fun h => hli.elim (h.2.2 0 (by decide)) (h.2.2 1 (by decide)))), ⟨_, _, _, _, fo4, fa5, fa6, fa7⟩, hfrgl23_6⟩, by rw [ht]; exact hP, va_K.moved hW.alike hK, va_Nw.warmM hW hN⟩, hS.F ht⟩) hS.2.2 dX5_enterList_60
          · refine vp_callSi (va_Run.run (va_runV (As := [.ref (ad (17 + 5 * s0))]) (rest := []) ⟨hx, hb, hml, hown, hts⟩ (mX2_enter3 l fo4) (cwV 1 hts gX5_enterList_X2_enter rfl rfl rfl (by decide +kernel) ⟨Nat.le_of_ble_eq_true rfl, Nat.le_of_ble_eq_true rfl⟩) ⟨xB_blind, va_recv hK hP (ci := 2) rfl (xw_is (by decide) fo4), fun U hU hW => ⟨rfl, by rw [hU]; exact hP, va_K.moved hW.alike hK, va_Nw.warmM hW hN⟩⟩ rfl rfl hl.1 rfl (lv_room (Nat.le_of_ble_eq_true rfl)) dX5_enterList_53 ⟨Nat.le_of_ble_eq_true rfl, Nat.le_of_ble_eq_true rfl⟩)) (fun r22 er22 => ?_)
            subst er22
            refine xi_if_ne (tgt := 61) hx hb (by decide) dX5_enterList_56 (by decide) (fun c0 => absurd c0 (by decide)) (fun _ => ?_)
            refine lv_iconst (v := nI (0)) hx hb dX5_enterList_59 (by decide) ?_
            exact W.zret (v := nI (0)) hx hb hr (by decide) (fun tZ ht hW => ⟨⟨_, gl23_6, rfl, Or.inr ⟨rfl, ent_8 (s := s0 + 1) (by omega) (by rw [ent_s hent, if_pos c35_10]; exact if_neg (fun h => absurd h.2.1 (by decide))), ⟨_, _, _, _, fo4, fa5, fa6, fa7⟩, hfrgl23_6⟩, by rw [ht]; exact hP, va_K.moved hW.alike hK, va_Nw.warmM hW hN⟩, hS.F ht⟩) hS.2.2 dX5_enterList_60

set_option maxHeartbeats 4000000 in
set_option maxRecDepth 100000 in
/-- enterList, no set of SLOTS -/
theorem mX5_enterList_no (l : Launch) {D : va_G} {cI cJ cZ cW : ClassId} {ad : Nat → Nat} {A : Nat → Prop} (hD : ∀ g, va_D A (xw 81 ad g)) {g : Nat → va_E} {q Wt : Nat} {w : Nat → Nat} {ln : Nat → Nat} {u : Nat → Nat → Nat} {T : Nat} {t : Nat → Nat} {tp bt : Int64} {x0 : Int32}  (hC : ClsI cI cJ cZ cW ad g q Wt w ln u T t tp bt) (hs : SrcI q Wt w ln u T t) (hbad : x0 = 0 ∨ ¬ (x0 &&& (-256)) = 0) : Met l yX5_enterList wsX5_enterList ({ frames := 3, cells := 0, slots := 0, locals := 71 }) (va_Pc [.ref (ad (0)), .int (x0)] (xB D (xT cI cJ cZ cW) ad g)) (va_Qi (fun r g2 => r = nI 0 ∧ RaceR cJ cW ad g2 ∧ ∀ j : Nat, j ≠ 4 → j ≠ 5 → j ≠ 6 → j ≠ 7 → g2 j = g j) (xB D (xT cI cJ cZ cW) ad) A) 0 0 A := by
  refine Met.ofW (cc := cX5_enterList) (maxL := 4) (ret := (some .boolean)) (by decide) rfl ?_
  intro p e s m args below meth c s₁ B hml hv
  obtain ⟨rfl, hP, hK, hN⟩ := hv
  have hx := B.exec
  have hb := B.bytes
  have hr := B.returns
  have hts := atoms_spec (ws := wsX5_enterList) B.pre
  have hown : s.vm.findClass RX5 = some m.cls := findClass_of_methodNamed B.named
  have hlocks := B.notSynchronized
  have hS : va_S A s.heap s.heap [] := va_S.rf
  have hin5 : ∀ w ∈ wsX50, w ∈ wsX5_enterList := by decide +kernel
  have hf30 := hts (.fieldLink RX5 30 "LettersByLot" "race" "LLettersByLot$Race;") (by decide +kernel)
  have hl := lv_entry ([.ref (ad (0)), .int (x0)]) (n := 4) (Nat.le_of_ble_eq_true rfl)
  rw [lg_entry_eq]
  generalize (lg_sl ([.ref (ad (0)), .int (x0)]) ++ List.replicate (4 - (lg_sl ([.ref (ad (0)), .int (x0)])).length) Slot.unset).toArray = ls at hl ⊢
  have hl : lv_has ls 4 [(0, .ref (ad (0))), (1, .int (x0))] := hl
  obtain ⟨hq2, hq4, hw1, hw0, hWs, hWt, hw, hln, hul, hT, ht⟩ := hs
  obtain ⟨fo_0, ⟨f2, fo_1, fa_2, h2⟩, ⟨f3, fa_3, h3⟩, hRace, hMach, ⟨f16, fo15, fa16, h16⟩, hwd, hcand⟩ := id hC
  have hWp : 1 ≤ Wt ∧ Wt ≤ 4 := by have h8 := hw1 0 (by omega); have h9 := wsum_mono (w := w) (show 1 ≤ q by omega); have h7 : wsum w 1 = 0 + w 0 := rfl; omega
  obtain ⟨f5r, f6r, f7r, szr, fo4, fa5, fa6, fa7⟩ := hRace
  refine lv_aload_n hx hb dX5_enterList_0 rfl (lv_at hl 0 rfl) ?_
  refine xw_get hx hb hts hin5 hown hK hP (by decide) fo_0 rfl 3 (by decide) hf30 rfl rfl dX5_enterList_1 ?_
  refine va_callv (va_runV (As := []) (rest := []) ⟨hx, hb, hml, hown, hts⟩ (mX2_clear l hD fo4 fa5 fa6 fa7) (cwV 0 hts gX5_enterList_X2_clear rfl rfl rfl (by decide +kernel) ⟨Nat.le_of_ble_eq_true rfl, Nat.le_of_ble_eq_true rfl⟩) ⟨xB_blind, va_recv hK hP (ci := 2) rfl (xw_is (by decide) fo4), fun U hU hW => ⟨rfl, by rw [hU]; exact hP, va_K.moved hW.alike hK, va_Nw.warmM hW hN⟩⟩ rfl rfl hl.1 rfl (lv_room (Nat.le_of_ble_eq_true rfl)) dX5_enterList_4 ⟨Nat.le_of_ble_eq_true rfl, Nat.le_of_ble_eq_true rfl⟩) hS (fun _ _ h => h) (fun _ h => h) (fun g1 tZ H locs ht hvm hwg1 hB hzZ hkZ hS => ?_)
  obtain ⟨hP, -⟩ := hB
  rw [ht] at hP
  obtain ⟨f5c, f6c, f7c, h5c, h6c, h7c, fg1_n0, fg1_n1, fg1_n2, fg1_n3, hcg1⟩ := hwg1
  have fg1_k0 : g1 (0) = .inr (5, [.ref (ad (1)), .ref (ad (3)), .ref (ad (57)), .ref (ad (4)), .ref (ad (8)), .ref (ad (15)), .long (tp), .long (bt)]) := (hcg1 (0) (by decide) (by decide) (by decide) (by decide)).trans fo_0
  have fg1_k1 : g1 (1) = .inr (0, [.ref (ad (2)), .int (nI (q)), .int (nI (Wt))]) := (hcg1 (1) (by decide) (by decide) (by decide) (by decide)).trans fo_1
  have fg1_k2 : g1 (2) = .inl (cI, 4, .inl (f2)) := (hcg1 (2) (by decide) (by decide) (by decide) (by decide)).trans fa_2
  have fg1_k3 : g1 (15) = .inr (3, [.ref (ad (16)), .int (nI (T))]) := (hcg1 (15) (by decide) (by decide) (by decide) (by decide)).trans fo15
  have fg1_k4 : g1 (16) = .inl (cI, 300, .inl (f16)) := (hcg1 (16) (by decide) (by decide) (by decide) (by decide)).trans fa16
  have fg1_k5 : g1 (3) = .inl (cW, 8, .inr (.inr (.inr (.inr (f3))))) := (hcg1 (3) (by decide) (by decide) (by decide) (by decide)).trans fa_3
  have hfrg1 : ∀ j : Nat, j ≠ 4 → j ≠ 5 → j ≠ 6 → j ≠ 7 → g1 j = g j := fun j h0 h1 h2 h3 => (hcg1 j h0 h1 h2 h3).trans ((fun _ _ _ _ _ => rfl) j h0 h1 h2 h3)
  refine lv_iload_n hx hb dX5_enterList_7 rfl (lv_at hl 1 rfl) ?_
  refine lv_if_eq (tgt := 19) hx hb dX5_enterList_8 (by decide) (fun c8_3 => ?_) (fun c8_3 => ?_)
  · refine lv_iconst (v := nI (0)) hx hb dX5_enterList_19 (by decide) ?_
    exact W.zret (v := nI (0)) hx hb hr (by decide) (fun tZ ht hW => ⟨⟨_, g1, rfl, ⟨rfl, ⟨_, _, _, _, fg1_n0, fg1_n1, fg1_n2, fg1_n3⟩, hfrg1⟩, by rw [ht]; exact hP, va_K.moved hW.alike hK, va_Nw.warmM hW hN⟩, hS.F ht⟩) hS.2.2 dX5_enterList_20
  · refine lv_iload_n hx hb dX5_enterList_11 rfl (lv_at hl 1 rfl) ?_
    refine lv_sipush (v := (-256)) hx hb dX5_enterList_12 (by decide) ?_
    refine lv_iand hx hb dX5_enterList_15 ?_
    refine xtopi (y := x0 &&& (-256)) rfl ?_
    refine lv_if_eq (tgt := 21) hx hb dX5_enterList_16 (by decide) (fun c16_5 => ?_) (fun c16_5 => ?_)
    · exact absurd hbad (by rintro (h | h); exact c8_3 h; exact h c16_5)
    · refine lv_iconst (v := nI (0)) hx hb dX5_enterList_19 (by decide) ?_
      exact W.zret (v := nI (0)) hx hb hr (by decide) (fun tZ ht hW => ⟨⟨_, g1, rfl, ⟨rfl, ⟨_, _, _, _, fg1_n0, fg1_n1, fg1_n2, fg1_n3⟩, hfrg1⟩, by rw [ht]; exact hP, va_K.moved hW.alike hK, va_Nw.warmM hW hN⟩, hS.F ht⟩) hS.2.2 dX5_enterList_20
