theorem hf_add {s : Nat} {x : Int32} (h : x = nI (hf x)) : nI s + x = nI (s + hf x) := by
  have e : nI s + x = nI s + nI (hf x) := congrArg (nI s + ·) h
  rw [e, nI_add]
theorem lt_301 {x : Int32} (h : nI 300 < x) : nI 301 ≤ x := by
  rw [Int32.lt_iff_toInt_lt] at h
  rw [Int32.le_iff_toInt_le]
  have e1 : (nI 300).toInt = 300 := by decide
  have e2 : (nI 301).toInt = 301 := by decide
  omega
theorem sz8 {f : Nat → Int32} : ∀ k, k < 8 → upd (upd (upd (upd (upd (upd (upd (upd f 0 (nI 0)) 1 (nI 0)) 2 (nI 0)) 3 (nI 0)) 4 (nI 0)) 5 (nI 0)) 6 (nI 0)) 7 (nI 0) k = nI 0 := by
  intro k hk
  by_cases h7 : k = 7
  · rw [h7, pk_us]
  · rw [pk_un h7]
    by_cases h6 : k = 6
    · rw [h6, pk_us]
    · rw [pk_un h6]
      by_cases h5 : k = 5
      · rw [h5, pk_us]
      · rw [pk_un h5]
        by_cases h4 : k = 4
        · rw [h4, pk_us]
        · rw [pk_un h4]
          by_cases h3 : k = 3
          · rw [h3, pk_us]
          · rw [pk_un h3]
            by_cases h2 : k = 2
            · rw [h2, pk_us]
            · rw [pk_un h2]
              by_cases h1 : k = 1
              · rw [h1, pk_us]
              · rw [pk_un h1, show k = 0 by omega, pk_us]
theorem dg_st {q c n k : Nat} (hk : k + 1 ≤ n) : c / q ^ (n - (k + 1)) % q = dg q c n k := by
  show _ = c / q ^ (n - 1 - k) % q
  rw [show n - (k + 1) = n - 1 - k by omega]
theorem dg_rs {q c n k : Nat} (hk : k + 1 ≤ n) : c / q ^ (n - (k + 1)) / q = c / q ^ (n - k) := by
  rw [Nat.div_div_eq_div_mul, ← Nat.pow_succ, show (n - (k + 1)).succ = n - k by omega]
set_option maxHeartbeats 4000000 in
set_option maxRecDepth 100000 in
theorem mX6_word_in (l : Launch) {D : va_G} {cI cJ cZ cW : ClassId} {ad : Nat → Nat} {A : Nat → Prop} (hD : ∀ g, va_D A (xw 81 ad g)) {g : Nat → va_E} {q Wt : Nat} {w : Nat → Nat} {ln : Nat → Nat} {u : Nat → Nat → Nat} {T : Nat} {t : Nat → Nat} {tp bt : Int64} {k1 n1 cd : Nat}  (hM : ModI cI cJ ad g q Wt w ln u T t tp bt) (hs : SrcI q Wt w ln u T t) (hk1 : k1 < 8) (hn0 : 1 ≤ n1) (hn1 : n1 ≤ 5) (hcd : cd < q ^ n1) : Met l yX6_word wsX6_word ({ frames := 1, cells := 0, slots := 0, locals := 21 }) (va_Pc [.ref (ad (62)), .int (nI (k1)), .int (nI (n1)), .int (nI (cd))] (xB D (xT cI cJ cZ cW) ad g)) (va_Qi (fun r g2 => r = nI 1 ∧ ModI cI cJ ad g2 q Wt w (va_up ln k1 n1) (va_up u k1 (dg q cd n1)) T t tp bt ∧ ∀ j : Nat, j < 62 → g2 j = g j) (xB D (xT cI cJ cZ cW) ad) A) 0 0 A := by
  refine Met.ofW (cc := cX6_word) (maxL := 7) (ret := (some .boolean)) (by decide) rfl ?_
  intro p e s m args below meth c s₁ B hml hv
  obtain ⟨rfl, hP, hK, hN⟩ := hv
  have hx := B.exec
  have hb := B.bytes
  have hr := B.returns
  have hts := atoms_spec (ws := wsX6_word) B.pre
  have hown : s.vm.findClass RX6 = some m.cls := findClass_of_methodNamed B.named
  have hlocks := B.notSynchronized
  have hS : va_S A s.heap s.heap [] := va_S.rf
  have hin6 : ∀ w ∈ wsX60, w ∈ wsX6_word := by decide +kernel
  have hf7 := hts (.fieldLink RX6 7 "LettersByLotModel" "q" "I") (by decide +kernel)
  have hf20 := hts (.fieldLink RX6 20 "LettersByLotModel" "size" "[I") (by decide +kernel)
  have hf23 := hts (.fieldLink RX6 23 "LettersByLotModel" "word" "[I") (by decide +kernel)
  have hl := lv_entry ([.ref (ad (62)), .int (nI (k1)), .int (nI (n1)), .int (nI (cd))]) (n := 7) (Nat.le_of_ble_eq_true rfl)
  rw [lg_entry_eq]
  generalize (lg_sl ([.ref (ad (62)), .int (nI (k1)), .int (nI (n1)), .int (nI (cd))]) ++ List.replicate (7 - (lg_sl ([.ref (ad (62)), .int (nI (k1)), .int (nI (n1)), .int (nI (cd))])).length) Slot.unset).toArray = ls at hl ⊢
  have hl : lv_has ls 7 [(0, .ref (ad (62))), (1, .int (nI (k1))), (2, .int (nI (n1))), (3, .int (nI (cd)))] := hl
  obtain ⟨hq2, hq4, hw1, hw0, hWs, hWt, hw, hln, hul, hT, ht⟩ := hs
  obtain ⟨sq, nu, de, fw, fsz, fwd, ftx, fos, foz, fgo, frw, fan, fad, frn, frd, fen, fed, fcn, fcd, fnw, fth, fo62, fa63, fa64, fa65, fa66, fa67, fa68, fa69, fa70, fa71, fa72, fa73, fa74, fa75, fa76, fa77, fa78, fa79, fa80, hfw, hsz, hwl, htx⟩ := id hM
  refine lv_iload_n hx hb dX6_word_0 rfl (lv_at hl 1 rfl) ?_
  refine lv_bipush (v := nI (8)) hx hb dX6_word_1 (by decide) ?_
  refine vp_callSi (va_Run.run (va_runS (As := [.int (nI (k1)), .int (nI (8))]) (rest := []) ⟨hx, hb, hml, hown, hts⟩ (mX6_isIn_in l (by omega) (by omega)) (va_cwS 2 hts gX6_word_X6_isIn rfl rfl rfl (by decide +kernel) ⟨Nat.le_of_ble_eq_true rfl, Nat.le_of_ble_eq_true rfl⟩) ⟨xB_blind, fun U hU hW => ⟨rfl, by rw [hU]; exact hP, va_K.moved hW.alike hK, va_Nw.warmM hW hN⟩⟩ rfl rfl hl.1 rfl (lv_room (Nat.le_of_ble_eq_true rfl)) dX6_word_3 ⟨Nat.le_of_ble_eq_true rfl, Nat.le_of_ble_eq_true rfl⟩)) (fun r1 er1 => ?_)
  subst er1
  refine xi_if_eq (tgt := 23) hx hb (by decide) dX6_word_6 (by decide) (fun c0 => absurd c0 (by decide)) (fun _ => ?_)
  refine lv_iload_n hx hb dX6_word_9 rfl (lv_at hl 2 rfl) ?_
  refine lv_iconst (v := nI (1)) hx hb dX6_word_10 (by decide) ?_
  refine xi_icmp_lt (tgt := 23) hx hb (by omega) (by decide) dX6_word_11 (by decide) (fun c11_3 => ?_) (fun c11_3 => ?_)
  · exact absurd c11_3 (by omega)
  · refine lv_iload_n hx hb dX6_word_14 rfl (lv_at hl 2 rfl) ?_
    refine lv_iconst (v := nI (5)) hx hb dX6_word_15 (by decide) ?_
    refine xi_icmp_gt (tgt := 23) hx hb (by omega) (by decide) dX6_word_16 (by decide) (fun c16_4 => ?_) (fun c16_4 => ?_)
    · exact absurd c16_4 (by omega)
    · refine lv_iload_n hx hb dX6_word_19 rfl (lv_at hl 3 rfl) ?_
      refine xi_if_ge (tgt := 25) hx hb (by have h9 := pow_le5 hq4 hn1; omega) dX6_word_20 (by decide) ?_
      refine lv_iconst (v := nI (1)) hx hb dX6_word_25 (by decide) ?_
      refine lv_istore (lv' := [(4, .int (nI (1))), (0, .ref (ad (62))), (1, .int (nI (k1))), (2, .int (nI (n1))), (3, .int (nI (cd)))]) hx hb dX6_word_26 hl (by decide) rfl (fun ls hl => ?_)
      refine lv_iconst (v := nI (0)) hx hb dX6_word_28 (by decide) ?_
      refine lv_istore (lv' := [(5, .int (nI (0))), (4, .int (nI (1))), (0, .ref (ad (62))), (1, .int (nI (k1))), (2, .int (nI (n1))), (3, .int (nI (cd)))]) hx hb dX6_word_29 hl (by decide) rfl (fun ls hl => ?_)
      refine xloop (G := fun fr => W p l e _ s m _ below meth c _ _ _ _ _ fr) (σ := Nat) (fun i ls => F0 m 31 ls []) (fun i ls => (i ≤ n1) ∧ lv_has ls 7 [(0, .ref (ad (62))), (1, .int (nI (k1))), (2, .int (nI (n1))), (3, .int (nI (cd))), (4, .int (nI (q ^ i))), (5, .int (nI (i)))]) (fun i => n1 - i) ?_ (0) ls ⟨(Nat.zero_le _), (lv_sub hl [2, 3, 4, 5, 1, 0] rfl)⟩
      rintro i ls ⟨hi, hl⟩ ih31
      refine lv_iload hx hb dX6_word_31 (lv_at hl 5 rfl) ?_
      refine lv_iload_n hx hb dX6_word_33 rfl (lv_at hl 2 rfl) ?_
      refine xi_icmp_ge (tgt := 52) hx hb (by omega) (by omega) dX6_word_34 (by decide) (fun c34_6 => ?_) (fun c34_6 => ?_)
      · refine lv_iload_n hx hb dX6_word_52 rfl (lv_at hl 3 rfl) ?_
        refine lv_iload hx hb dX6_word_53 (lv_at hl 4 rfl) ?_
        refine xi_icmp_lt (tgt := 60) hx hb (by have h9 := pow_le5 hq4 hn1; omega) (by have h9 := pow_le5 hq4 hn1; rw [show i = n1 by omega]; omega) dX6_word_55 (by decide) (fun c55_7 => ?_) (fun c55_7 => ?_)
        · refine lv_aload_n hx hb dX6_word_60 rfl (lv_at hl 0 rfl) ?_
          refine xw_get hx hb hts hin6 hown hK hP (by decide) fo62 rfl 3 (by decide) hf20 rfl rfl dX6_word_61 ?_
          refine lv_iload_n hx hb dX6_word_64 rfl (lv_at hl 1 rfl) ?_
          refine lv_iload_n hx hb dX6_word_65 rfl (lv_at hl 2 rfl) ?_
          refine xw_iast hx hb hK hP hD hS (by decide) 0 fa64 rfl (by omega) (by decide) dX6_word_66 (fun g8 H locs eg8 hP hS => ?_)
          have fg8_0 : g8 (62) = .inr (6, [.int (nI (q)), .int (nI (Wt)), .ref (ad (63)), .ref (ad (64)), .ref (ad (65)), .ref (ad (66)), .int (nI (T)), .long (tp), .long (bt), .long (nu), .long (de), .int (sq), .ref (ad (67)), .ref (ad (68)), .ref (ad (69)), .ref (ad (70)), .ref (ad (71)), .ref (ad (72)), .ref (ad (73)), .ref (ad (74)), .ref (ad (75)), .ref (ad (76)), .ref (ad (77)), .ref (ad (78)), .ref (ad (79)), .ref (ad (80))]) := (congrFun eg8 (62)).trans ((va_up_ne _ _ (by decide)).trans fo62)
          have fg8_1 : g8 (65) = .inl (cI, 40, .inl (fwd)) := (congrFun eg8 (65)).trans ((va_up_ne _ _ (by decide)).trans fa65)
          have fg8_w : g8 (64) = .inl (cI, 8, .inl (upd (fsz) (k1) (nI (n1)))) := (congrFun eg8 (64)).trans (va_up_self _ _ _)
          have hfrg8 : ∀ j : Nat, j ≠ 64 → j ≠ 65 → g8 j = g j := fun j h0 h1 => (congrFun eg8 j).trans ((va_up_ne _ _ h0).trans ((fun _ _ _ => rfl) j h0 h1))
          refine lv_iload_n hx hb dX6_word_67 rfl (lv_at hl 3 rfl) ?_
          refine lv_istore (lv' := [(5, .int (nI (cd))), (0, .ref (ad (62))), (1, .int (nI (k1))), (2, .int (nI (n1))), (3, .int (nI (cd))), (4, .int (nI (q ^ i)))]) hx hb dX6_word_68 hl (by decide) rfl (fun ls hl => ?_)
          refine lv_iload_n hx hb dX6_word_70 rfl (lv_at hl 3 rfl) ?_
          refine lv_iconst (v := nI (1)) hx hb dX6_word_71 (by decide) ?_
          refine xi_sub hx hb (by omega) dX6_word_72 ?_
          refine xtopi (y := nI n1 - 1) (by rw [← pk_sub (show 1 ≤ n1 by omega)]; rfl) ?_
          refine lv_istore (lv' := [(6, .int (nI n1 - 1)), (5, .int (nI (cd))), (0, .ref (ad (62))), (1, .int (nI (k1))), (2, .int (nI (n1))), (3, .int (nI (cd))), (4, .int (nI (q ^ i)))]) hx hb dX6_word_73 hl (by decide) rfl (fun ls hl => ?_)
          refine xloopW (G := fun H locs fr => W p l e _ s m _ below meth c H locs _ _ _ fr) (σ := Nat × (Nat → Int32)) (fun (j, fx) ls => F0 m 75 ls []) (fun (j, fx) gl75_9 H locs ls => (j ≤ n1) ∧ (∀ x, j ≤ x → x < n1 → fx (5 * k1 + x) = nI (dg q cd n1 x)) ∧ (∀ x, (x < 5 * k1 ∨ 5 * k1 + 5 ≤ x) → fx x = fwd x) ∧ gl75_9 (62) = .inr (6, [.int (nI (q)), .int (nI (Wt)), .ref (ad (63)), .ref (ad (64)), .ref (ad (65)), .ref (ad (66)), .int (nI (T)), .long (tp), .long (bt), .long (nu), .long (de), .int (sq), .ref (ad (67)), .ref (ad (68)), .ref (ad (69)), .ref (ad (70)), .ref (ad (71)), .ref (ad (72)), .ref (ad (73)), .ref (ad (74)), .ref (ad (75)), .ref (ad (76)), .ref (ad (77)), .ref (ad (78)), .ref (ad (79)), .ref (ad (80))]) ∧ gl75_9 (64) = .inl (cI, 8, .inl (upd (fsz) (k1) (nI (n1)))) ∧ gl75_9 (65) = .inl (cI, 40, .inl (fx)) ∧ (∀ j : Nat, j ≠ 64 → j ≠ 65 → gl75_9 j = g j) ∧ va_P D vwCl (xw 81 ad gl75_9) H ∧ va_S A s.heap H locs ∧ lv_has ls 7 [(0, .ref (ad (62))), (1, .int (nI (k1))), (2, .int (nI (n1))), (5, .int (nI (cd / q ^ (n1 - j)))), (6, .int (nI j - 1))]) (fun (j, fx) => j) ?_ (n1, fwd) g8 H locs ls ⟨(Nat.le_refl _), (fun x h1 h2 => absurd h1 (by omega)), (fun _ _ => rfl), fg8_0, fg8_w, fg8_1, hfrg8, hP, hS, (by rw [show cd / q ^ (n1 - n1) = cd by rw [Nat.sub_self, Nat.pow_zero, Nat.div_one]]; exact (lv_sub hl [2, 3, 4, 1, 0] rfl))⟩
          rintro ⟨j, fx⟩ gl75_9 H locs ls ⟨hj, hfa, hfo, fo62, fa64, fa65, hfrgl75_9, hP, hS, hl⟩ ih75
          refine lv_iload hx hb dX6_word_75 (lv_at hl 4 rfl) ?_
          refine lv_if_lt (tgt := 113) hx hb dX6_word_77 (by decide) (fun c77_10 => ?_) (fun c77_10 => ?_)
          · have hj0 : j = 0 := by rcases Nat.eq_zero_or_pos j with h | h; exact h; exact absurd c77_10 (by rw [show j = (j - 1) + 1 by omega, nI_pred]; exact nI_pos (by omega))
            subst hj0
            refine lv_iconst (v := nI (1)) hx hb dX6_word_113 (by decide) ?_
            exact W.zret (v := nI (1)) hx hb hr (by decide) (fun tZ ht hW => ⟨⟨_, gl75_9, rfl, ⟨rfl, ⟨_, _, _, _, _, _, _, _, _, _, _, _, _, _, _, _, _, _, _, _, _, fo62, ((hfrgl75_9) 63 (by decide) (by decide)).trans fa63, fa64, fa65, ((hfrgl75_9) 66 (by decide) (by decide)).trans fa66, ((hfrgl75_9) 67 (by decide) (by decide)).trans fa67, ((hfrgl75_9) 68 (by decide) (by decide)).trans fa68, ((hfrgl75_9) 69 (by decide) (by decide)).trans fa69, ((hfrgl75_9) 70 (by decide) (by decide)).trans fa70, ((hfrgl75_9) 71 (by decide) (by decide)).trans fa71, ((hfrgl75_9) 72 (by decide) (by decide)).trans fa72, ((hfrgl75_9) 73 (by decide) (by decide)).trans fa73, ((hfrgl75_9) 74 (by decide) (by decide)).trans fa74, ((hfrgl75_9) 75 (by decide) (by decide)).trans fa75, ((hfrgl75_9) 76 (by decide) (by decide)).trans fa76, ((hfrgl75_9) 77 (by decide) (by decide)).trans fa77, ((hfrgl75_9) 78 (by decide) (by decide)).trans fa78, ((hfrgl75_9) 79 (by decide) (by decide)).trans fa79, ((hfrgl75_9) 80 (by decide) (by decide)).trans fa80, hfw, upd_nI hsz, (fun k j hk hj => by by_cases e : k = k1; subst e; rw [va_up_self] at hj ⊢; exact hfa j (Nat.zero_le _) hj; rw [va_up_ne _ _ e] at hj ⊢; have h9 := hln k; rw [hfo (5 * k + j) (by omega)]; exact hwl k j hk hj), htx⟩, fun j hj => (hfrgl75_9) j (by omega) (by omega)⟩, by rw [ht]; exact hP, va_K.moved hW.alike hK, va_Nw.warmM hW hN⟩, hS.F ht⟩) hS.2.2 dX6_word_114
          · obtain ⟨k, rfl⟩ : ∃ k, j = k + 1 := ⟨j - 1, by rcases Nat.eq_zero_or_pos j with h | h; exact absurd (show nI j - 1 < 0 by rw [h]; decide) c77_10; omega⟩
            rw [nI_pred] at hl
            have hrs : cd / q ^ (n1 - (k + 1)) ≤ cd := Nat.div_le_self _ _
            refine lv_aload_n hx hb dX6_word_80 rfl (lv_at hl 0 rfl) ?_
            refine xw_get hx hb hts hin6 hown hK hP (by decide) fo62 rfl 4 (by decide) hf23 rfl rfl dX6_word_81 ?_
            refine lv_iconst (v := nI (5)) hx hb dX6_word_84 (by decide) ?_
            refine lv_iload_n hx hb dX6_word_85 rfl (lv_at hl 1 rfl) ?_
            refine xi_mul hx hb dX6_word_86 ?_
            refine lv_iload hx hb dX6_word_87 (lv_at hl 4 rfl) ?_
            refine xi_add hx hb dX6_word_89 ?_
            refine lv_iload hx hb dX6_word_90 (lv_at hl 3 rfl) ?_
            refine lv_aload_n hx hb dX6_word_92 rfl (lv_at hl 0 rfl) ?_
            refine xw_get hx hb hts hin6 hown hK hP (by decide) fo62 rfl 0 (by decide) hf7 rfl rfl dX6_word_93 ?_
            refine xi_rem hx hb (by have h9 := pow_le5 hq4 hn1; omega) (by omega) (by omega) dX6_word_96 ?_
            refine xtopi (y := nI (dg q cd n1 k)) (congrArg nI (dg_st (by omega))) ?_
            refine xw_iast hx hb hK hP hD hS (by decide) 0 fa65 rfl (by omega) (by decide) dX6_word_97 (fun g11 H locs eg11 hP hS => ?_)
            have fg11_0 : g11 (62) = .inr (6, [.int (nI (q)), .int (nI (Wt)), .ref (ad (63)), .ref (ad (64)), .ref (ad (65)), .ref (ad (66)), .int (nI (T)), .long (tp), .long (bt), .long (nu), .long (de), .int (sq), .ref (ad (67)), .ref (ad (68)), .ref (ad (69)), .ref (ad (70)), .ref (ad (71)), .ref (ad (72)), .ref (ad (73)), .ref (ad (74)), .ref (ad (75)), .ref (ad (76)), .ref (ad (77)), .ref (ad (78)), .ref (ad (79)), .ref (ad (80))]) := (congrFun eg11 (62)).trans ((va_up_ne _ _ (by decide)).trans fo62)
            have fg11_1 : g11 (64) = .inl (cI, 8, .inl (upd (fsz) (k1) (nI (n1)))) := (congrFun eg11 (64)).trans ((va_up_ne _ _ (by decide)).trans fa64)
            have fg11_w : g11 (65) = .inl (cI, 40, .inl (upd (fx) ((5 * k1) + k) (nI (dg q cd n1 k)))) := (congrFun eg11 (65)).trans (va_up_self _ _ _)
            have hfrg11 : ∀ j : Nat, j ≠ 64 → j ≠ 65 → g11 j = g j := fun j h0 h1 => (congrFun eg11 j).trans ((va_up_ne _ _ h1).trans (hfrgl75_9 j h0 h1))
            refine lv_iload hx hb dX6_word_98 (lv_at hl 3 rfl) ?_
            refine lv_aload_n hx hb dX6_word_100 rfl (lv_at hl 0 rfl) ?_
            refine xw_get hx hb hts hin6 hown hK hP (by decide) fg11_0 rfl 0 (by decide) hf7 rfl rfl dX6_word_101 ?_
            refine xi_div hx hb (by have h9 := pow_le5 hq4 hn1; omega) (by omega) (by omega) dX6_word_104 ?_
            refine xtopi (y := nI (cd / q ^ (n1 - k))) (congrArg nI (dg_rs (by omega))) ?_
            refine lv_istore (lv' := [(5, .int (nI (cd / q ^ (n1 - k)))), (0, .ref (ad (62))), (1, .int (nI (k1))), (2, .int (nI (n1))), (6, .int (nI (k)))]) hx hb dX6_word_105 hl (by decide) rfl (fun ls hl => ?_)
            refine lv_iinc (v := nI (k) - 1) (lv' := [(6, .int (nI (k) - 1)), (5, .int (nI (cd / q ^ (n1 - k)))), (0, .ref (ad (62))), (1, .int (nI (k1))), (2, .int (nI (n1)))]) hx hb dX6_word_107 hl (k := 4) rfl (by rw [Int32.sub_eq_add_neg]; rfl) (by decide) rfl (fun ls hl => ?_)
            refine lv_goto (tgt := 75) hx hb dX6_word_110 (by decide) ?_
            exact ih75 (k, upd (fx) ((5 * k1) + k) (nI (dg q cd n1 k))) g11 H locs ls ⟨(by omega), (fun x h1 h2 => if e : x = k then by subst e; rw [pk_us] else by rw [pk_un (by omega)]; exact hfa x (by omega) h2), (fun x hx => by rw [pk_un (by omega)]; exact hfo x hx), fg11_0, fg11_1, fg11_w, hfrg11, hP, hS, (lv_sub hl [2, 3, 4, 1, 0] rfl)⟩ (by first | omega | (dsimp only; omega))
        · exact absurd hcd (by rw [show n1 = i by omega]; exact Nat.not_lt.mpr c55_7)
      · refine lv_iload hx hb dX6_word_37 (lv_at hl 4 rfl) ?_
        refine lv_aload_n hx hb dX6_word_39 rfl (lv_at hl 0 rfl) ?_
        refine xw_get hx hb hts hin6 hown hK hP (by decide) fo62 rfl 0 (by decide) hf7 rfl rfl dX6_word_40 ?_
        refine xi_mul hx hb dX6_word_43 ?_
        refine xtopi (y := nI (q ^ (i + 1))) (congrArg nI (Nat.pow_succ ..).symm) ?_
        refine lv_istore (lv' := [(4, .int (nI (q ^ (i + 1)))), (0, .ref (ad (62))), (1, .int (nI (k1))), (2, .int (nI (n1))), (3, .int (nI (cd))), (5, .int (nI (i)))]) hx hb dX6_word_44 hl (by decide) rfl (fun ls hl => ?_)
        refine lv_iinc (v := nI (i + 1)) (lv' := [(5, .int (nI (i + 1))), (4, .int (nI (q ^ (i + 1)))), (0, .ref (ad (62))), (1, .int (nI (k1))), (2, .int (nI (n1))), (3, .int (nI (cd)))]) hx hb dX6_word_46 hl (k := 5) rfl (nI_add (i) 1) (by decide) rfl (fun ls hl => ?_)
        refine lv_goto (tgt := 31) hx hb dX6_word_49 (by decide) ?_
        exact ih31 (i + 1) ls ⟨(by omega), (lv_sub hl [2, 3, 4, 5, 1, 0] rfl)⟩ (by first | omega | (dsimp only; omega))

set_option maxHeartbeats 4000000 in
set_option maxRecDepth 100000 in
theorem mX6_word_no (l : Launch) {D : va_G} {cI cJ cZ cW : ClassId} {ad : Nat → Nat} {A : Nat → Prop} (hD : ∀ g, va_D A (xw 81 ad g)) {g : Nat → va_E} {q Wt : Nat} {w : Nat → Nat} {ln : Nat → Nat} {u : Nat → Nat → Nat} {T : Nat} {t : Nat → Nat} {tp bt : Int64} {k1 : Nat} {n0 c0 : Int32}  (hM : ModI cI cJ ad g q Wt w ln u T t tp bt) (hs : SrcI q Wt w ln u T t) (hk1 : k1 < 8) (hbad : ∀ n c, n0 = nI n → c0 = nI c → 1 ≤ n → n ≤ 5 → c < 2 ^ 31 → q ^ n ≤ c) : Met l yX6_word wsX6_word ({ frames := 1, cells := 0, slots := 0, locals := 21 }) (va_Pc [.ref (ad (62)), .int (nI (k1)), .int (n0), .int (c0)] (xB D (xT cI cJ cZ cW) ad g)) (va_Qi (fun r g2 => r = nI 0 ∧ ModI cI cJ ad g2 q Wt w ln u T t tp bt ∧ ∀ j : Nat, j < 62 → g2 j = g j) (xB D (xT cI cJ cZ cW) ad) A) 0 0 A := by
  refine Met.ofW (cc := cX6_word) (maxL := 7) (ret := (some .boolean)) (by decide) rfl ?_
  intro p e s m args below meth c s₁ B hml hv
  obtain ⟨rfl, hP, hK, hN⟩ := hv
  have hx := B.exec
  have hb := B.bytes
  have hr := B.returns
  have hts := atoms_spec (ws := wsX6_word) B.pre
  have hown : s.vm.findClass RX6 = some m.cls := findClass_of_methodNamed B.named
  have hlocks := B.notSynchronized
  have hS : va_S A s.heap s.heap [] := va_S.rf
  have hin6 : ∀ w ∈ wsX60, w ∈ wsX6_word := by decide +kernel
  have hf7 := hts (.fieldLink RX6 7 "LettersByLotModel" "q" "I") (by decide +kernel)
  have hl := lv_entry ([.ref (ad (62)), .int (nI (k1)), .int (n0), .int (c0)]) (n := 7) (Nat.le_of_ble_eq_true rfl)
  rw [lg_entry_eq]
  generalize (lg_sl ([.ref (ad (62)), .int (nI (k1)), .int (n0), .int (c0)]) ++ List.replicate (7 - (lg_sl ([.ref (ad (62)), .int (nI (k1)), .int (n0), .int (c0)])).length) Slot.unset).toArray = ls at hl ⊢
  have hl : lv_has ls 7 [(0, .ref (ad (62))), (1, .int (nI (k1))), (2, .int (n0)), (3, .int (c0))] := hl
  obtain ⟨hq2, hq4, hw1, hw0, hWs, hWt, hw, hln, hul, hT, ht⟩ := hs
  obtain ⟨sq, nu, de, fw, fsz, fwd, ftx, fos, foz, fgo, frw, fan, fad, frn, frd, fen, fed, fcn, fcd, fnw, fth, fo62, fa63, fa64, fa65, fa66, fa67, fa68, fa69, fa70, fa71, fa72, fa73, fa74, fa75, fa76, fa77, fa78, fa79, fa80, hfw, hsz, hwl, htx⟩ := id hM
  refine lv_iload_n hx hb dX6_word_0 rfl (lv_at hl 1 rfl) ?_
  refine lv_bipush (v := nI (8)) hx hb dX6_word_1 (by decide) ?_
  refine vp_callSi (va_Run.run (va_runS (As := [.int (nI (k1)), .int (nI (8))]) (rest := []) ⟨hx, hb, hml, hown, hts⟩ (mX6_isIn_in l (by omega) (by omega)) (va_cwS 2 hts gX6_word_X6_isIn rfl rfl rfl (by decide +kernel) ⟨Nat.le_of_ble_eq_true rfl, Nat.le_of_ble_eq_true rfl⟩) ⟨xB_blind, fun U hU hW => ⟨rfl, by rw [hU]; exact hP, va_K.moved hW.alike hK, va_Nw.warmM hW hN⟩⟩ rfl rfl hl.1 rfl (lv_room (Nat.le_of_ble_eq_true rfl)) dX6_word_3 ⟨Nat.le_of_ble_eq_true rfl, Nat.le_of_ble_eq_true rfl⟩)) (fun r1 er1 => ?_)
  subst er1
  refine xi_if_eq (tgt := 23) hx hb (by decide) dX6_word_6 (by decide) (fun c0 => absurd c0 (by decide)) (fun _ => ?_)
  refine lv_iload_n hx hb dX6_word_9 rfl (lv_at hl 2 rfl) ?_
  refine lv_iconst (v := nI (1)) hx hb dX6_word_10 (by decide) ?_
  refine lv_icmp_lt (tgt := 23) hx hb dX6_word_11 (by decide) (fun c11_3 => ?_) (fun c11_3 => ?_)
  · refine lv_iconst (v := nI (0)) hx hb dX6_word_23 (by decide) ?_
    exact W.zret (v := nI (0)) hx hb hr (by decide) (fun tZ ht hW => ⟨⟨_, g, rfl, ⟨rfl, hM, fun _ _ => rfl⟩, by rw [ht]; exact hP, va_K.moved hW.alike hK, va_Nw.warmM hW hN⟩, hS.F ht⟩) hS.2.2 dX6_word_24
  · refine lv_iload_n hx hb dX6_word_14 rfl (lv_at hl 2 rfl) ?_
    refine lv_iconst (v := nI (5)) hx hb dX6_word_15 (by decide) ?_
    refine lv_icmp_gt (tgt := 23) hx hb dX6_word_16 (by decide) (fun c16_4 => ?_) (fun c16_4 => ?_)
    · refine lv_iconst (v := nI (0)) hx hb dX6_word_23 (by decide) ?_
      exact W.zret (v := nI (0)) hx hb hr (by decide) (fun tZ ht hW => ⟨⟨_, g, rfl, ⟨rfl, hM, fun _ _ => rfl⟩, by rw [ht]; exact hP, va_K.moved hW.alike hK, va_Nw.warmM hW hN⟩, hS.F ht⟩) hS.2.2 dX6_word_24
    · refine lv_iload_n hx hb dX6_word_19 rfl (lv_at hl 3 rfl) ?_
      refine lv_if_ge (tgt := 25) hx hb dX6_word_20 (by decide) (fun c20_5 => ?_) (fun c20_5 => ?_)
      · obtain ⟨nn, hnn1, hnn5, rfl⟩ := n15 c11_3 c16_4
        obtain ⟨cq, hcq, rfl⟩ := nI_of (x := c0) (by rw [Int32.not_lt]; exact c20_5)
        have hp5 : q ^ nn ≤ 1024 := pow_le5 hq4 hnn5
        refine lv_iconst (v := nI (1)) hx hb dX6_word_25 (by decide) ?_
        refine lv_istore (lv' := [(4, .int (nI (1))), (0, .ref (ad (62))), (1, .int (nI (k1))), (2, .int (nI (nn))), (3, .int (nI (cq)))]) hx hb dX6_word_26 hl (by decide) rfl (fun ls hl => ?_)
        refine lv_iconst (v := nI (0)) hx hb dX6_word_28 (by decide) ?_
        refine lv_istore (lv' := [(5, .int (nI (0))), (4, .int (nI (1))), (0, .ref (ad (62))), (1, .int (nI (k1))), (2, .int (nI (nn))), (3, .int (nI (cq)))]) hx hb dX6_word_29 hl (by decide) rfl (fun ls hl => ?_)
        refine xloop (G := fun fr => W p l e _ s m _ below meth c _ _ _ _ _ fr) (σ := Nat) (fun i ls => F0 m 31 ls []) (fun i ls => (i ≤ nn) ∧ lv_has ls 7 [(0, .ref (ad (62))), (1, .int (nI (k1))), (2, .int (nI (nn))), (3, .int (nI (cq))), (4, .int (nI (q ^ i))), (5, .int (nI (i)))]) (fun i => nn - i) ?_ (0) ls ⟨(Nat.zero_le _), (lv_sub hl [2, 3, 4, 5, 1, 0] rfl)⟩
        rintro i ls ⟨hi, hl⟩ ih31
        refine lv_iload hx hb dX6_word_31 (lv_at hl 5 rfl) ?_
        refine lv_iload_n hx hb dX6_word_33 rfl (lv_at hl 2 rfl) ?_
        refine xi_icmp_ge (tgt := 52) hx hb (by omega) (by omega) dX6_word_34 (by decide) (fun c34_6 => ?_) (fun c34_6 => ?_)
        · refine lv_iload_n hx hb dX6_word_52 rfl (lv_at hl 3 rfl) ?_
          refine lv_iload hx hb dX6_word_53 (lv_at hl 4 rfl) ?_
          refine xi_icmp_lt (tgt := 60) hx hb (by omega) (by rw [show i = nn by omega]; omega) dX6_word_55 (by decide) (fun c55_7 => ?_) (fun c55_7 => ?_)
          · exact absurd c55_7 (by have h := hbad nn cq rfl rfl hnn1 hnn5 hcq; rw [show i = nn by omega]; omega)
          · refine lv_iconst (v := nI (0)) hx hb dX6_word_58 (by decide) ?_
            exact W.zret (v := nI (0)) hx hb hr (by decide) (fun tZ ht hW => ⟨⟨_, g, rfl, ⟨rfl, hM, fun _ _ => rfl⟩, by rw [ht]; exact hP, va_K.moved hW.alike hK, va_Nw.warmM hW hN⟩, hS.F ht⟩) hS.2.2 dX6_word_59
        · refine lv_iload hx hb dX6_word_37 (lv_at hl 4 rfl) ?_
          refine lv_aload_n hx hb dX6_word_39 rfl (lv_at hl 0 rfl) ?_
          refine xw_get hx hb hts hin6 hown hK hP (by decide) fo62 rfl 0 (by decide) hf7 rfl rfl dX6_word_40 ?_
          refine xi_mul hx hb dX6_word_43 ?_
          refine xtopi (y := nI (q ^ (i + 1))) (congrArg nI (Nat.pow_succ ..).symm) ?_
          refine lv_istore (lv' := [(4, .int (nI (q ^ (i + 1)))), (0, .ref (ad (62))), (1, .int (nI (k1))), (2, .int (nI (nn))), (3, .int (nI (cq))), (5, .int (nI (i)))]) hx hb dX6_word_44 hl (by decide) rfl (fun ls hl => ?_)
          refine lv_iinc (v := nI (i + 1)) (lv' := [(5, .int (nI (i + 1))), (4, .int (nI (q ^ (i + 1)))), (0, .ref (ad (62))), (1, .int (nI (k1))), (2, .int (nI (nn))), (3, .int (nI (cq)))]) hx hb dX6_word_46 hl (k := 5) rfl (nI_add (i) 1) (by decide) rfl (fun ls hl => ?_)
          refine lv_goto (tgt := 31) hx hb dX6_word_49 (by decide) ?_
          exact ih31 (i + 1) ls ⟨(by omega), (lv_sub hl [2, 3, 4, 5, 1, 0] rfl)⟩ (by first | omega | (dsimp only; omega))
      · refine lv_iconst (v := nI (0)) hx hb dX6_word_23 (by decide) ?_
        exact W.zret (v := nI (0)) hx hb hr (by decide) (fun tZ ht hW => ⟨⟨_, g, rfl, ⟨rfl, hM, fun _ _ => rfl⟩, by rw [ht]; exact hP, va_K.moved hW.alike hK, va_Nw.warmM hW hN⟩, hS.F ht⟩) hS.2.2 dX6_word_24

set_option maxHeartbeats 4000000 in
set_option maxRecDepth 100000 in
theorem mX6_word_bad (l : Launch) {D : va_G} {cI cJ cZ cW : ClassId} {ad : Nat → Nat} {A : Nat → Prop} (hD : ∀ g, va_D A (xw 81 ad g)) {g : Nat → va_E} {q Wt : Nat} {w : Nat → Nat} {ln : Nat → Nat} {u : Nat → Nat → Nat} {T : Nat} {t : Nat → Nat} {tp bt : Int64} {x0 n0 c0 : Int32}  (hM : ModI cI cJ ad g q Wt w ln u T t tp bt) (hs : SrcI q Wt w ln u T t) (hx0 : x0 < 0 ∨ nI 8 ≤ x0) : Met l yX6_word wsX6_word ({ frames := 1, cells := 0, slots := 0, locals := 21 }) (va_Pc [.ref (ad (62)), .int (x0), .int (n0), .int (c0)] (xB D (xT cI cJ cZ cW) ad g)) (va_Qi (fun r g2 => r = nI 0 ∧ ModI cI cJ ad g2 q Wt w ln u T t tp bt ∧ ∀ j : Nat, j < 62 → g2 j = g j) (xB D (xT cI cJ cZ cW) ad) A) 0 0 A := by
  refine Met.ofW (cc := cX6_word) (maxL := 7) (ret := (some .boolean)) (by decide) rfl ?_
  intro p e s m args below meth c s₁ B hml hv
  obtain ⟨rfl, hP, hK, hN⟩ := hv
  have hx := B.exec
  have hb := B.bytes
  have hr := B.returns
  have hts := atoms_spec (ws := wsX6_word) B.pre
  have hown : s.vm.findClass RX6 = some m.cls := findClass_of_methodNamed B.named
  have hlocks := B.notSynchronized
  have hS : va_S A s.heap s.heap [] := va_S.rf
  have hl := lv_entry ([.ref (ad (62)), .int (x0), .int (n0), .int (c0)]) (n := 7) (Nat.le_of_ble_eq_true rfl)
  rw [lg_entry_eq]
  generalize (lg_sl ([.ref (ad (62)), .int (x0), .int (n0), .int (c0)]) ++ List.replicate (7 - (lg_sl ([.ref (ad (62)), .int (x0), .int (n0), .int (c0)])).length) Slot.unset).toArray = ls at hl ⊢
  have hl : lv_has ls 7 [(0, .ref (ad (62))), (1, .int (x0)), (2, .int (n0)), (3, .int (c0))] := hl
  obtain ⟨hq2, hq4, hw1, hw0, hWs, hWt, hw, hln, hul, hT, ht⟩ := hs
  obtain ⟨sq, nu, de, fw, fsz, fwd, ftx, fos, foz, fgo, frw, fan, fad, frn, frd, fen, fed, fcn, fcd, fnw, fth, fo62, fa63, fa64, fa65, fa66, fa67, fa68, fa69, fa70, fa71, fa72, fa73, fa74, fa75, fa76, fa77, fa78, fa79, fa80, hfw, hsz, hwl, htx⟩ := id hM
  refine lv_iload_n hx hb dX6_word_0 rfl (lv_at hl 1 rfl) ?_
  refine lv_bipush (v := nI (8)) hx hb dX6_word_1 (by decide) ?_
  refine vp_callSi (va_Run.run (va_runS (As := [.int (x0), .int (nI (8))]) (rest := []) ⟨hx, hb, hml, hown, hts⟩ (mX6_isIn_out l hx0) (va_cwS 2 hts gX6_word_X6_isIn rfl rfl rfl (by decide +kernel) ⟨Nat.le_of_ble_eq_true rfl, Nat.le_of_ble_eq_true rfl⟩) ⟨xB_blind, fun U hU hW => ⟨rfl, by rw [hU]; exact hP, va_K.moved hW.alike hK, va_Nw.warmM hW hN⟩⟩ rfl rfl hl.1 rfl (lv_room (Nat.le_of_ble_eq_true rfl)) dX6_word_3 ⟨Nat.le_of_ble_eq_true rfl, Nat.le_of_ble_eq_true rfl⟩)) (fun r1 er1 => ?_)
  subst er1
  refine xi_if_eq (tgt := 23) hx hb (by decide) dX6_word_6 (by decide) (fun _ => ?_) (fun c0 => absurd c0 (by decide))
  refine lv_iconst (v := nI (0)) hx hb dX6_word_23 (by decide) ?_
  exact W.zret (v := nI (0)) hx hb hr (by decide) (fun tZ ht hW => ⟨⟨_, g, rfl, ⟨rfl, hM, fun _ _ => rfl⟩, by rw [ht]; exact hP, va_K.moved hW.alike hK, va_Nw.warmM hW hN⟩, hS.F ht⟩) hS.2.2 dX6_word_24

set_option maxHeartbeats 4000000 in
set_option maxRecDepth 100000 in
theorem mX6_draw_in (l : Launch) {D : va_G} {cI cJ cZ cW : ClassId} {ad : Nat → Nat} {A : Nat → Prop} (hD : ∀ g, va_D A (xw 81 ad g)) {g : Nat → va_E} {q Wt : Nat} {w : Nat → Nat} {ln : Nat → Nat} {u : Nat → Nat → Nat} {T : Nat} {t : Nat → Nat} {tp bt : Int64} {n0 : Nat} {s0 : Int32}  (hM : ModI cI cJ ad g q Wt w ln u T t tp bt) (hs : SrcI q Wt w ln u T t) (hn0 : n0 ≤ 300) : Met l yX6_draw wsX6_draw ({ frames := 1, cells := 0, slots := 0, locals := 21 }) (va_Pc [.ref (ad (62)), .int (s0), .int (nI (n0))] (xB D (xT cI cJ cZ cW) ad g)) (va_Qi (fun r g2 => r = sdN s0 n0 ∧ ModI cI cJ ad g2 q Wt w ln u n0 (drw q Wt w s0) tp bt ∧ ∀ j : Nat, j < 62 → g2 j = g j) (xB D (xT cI cJ cZ cW) ad) A) 0 0 A := by
  refine Met.ofW (cc := cX6_draw) (maxL := 8) (ret := (some .int)) (by decide) rfl ?_
  intro p e s m args below meth c s₁ B hml hv
  obtain ⟨rfl, hP, hK, hN⟩ := hv
  have hx := B.exec
  have hb := B.bytes
  have hr := B.returns
  have hts := atoms_spec (ws := wsX6_draw) B.pre
  have hown : s.vm.findClass RX6 = some m.cls := findClass_of_methodNamed B.named
  have hlocks := B.notSynchronized
  have hS : va_S A s.heap s.heap [] := va_S.rf
  have hin6 : ∀ w ∈ wsX60, w ∈ wsX6_draw := by decide +kernel
  have hf13 := hts (.fieldLink RX6 13 "LettersByLotModel" "all" "I") (by decide +kernel)
  have hf16 := hts (.fieldLink RX6 16 "LettersByLotModel" "weight" "[I") (by decide +kernel)
  have hf26 := hts (.fieldLink RX6 26 "LettersByLotModel" "text" "[I") (by decide +kernel)
  have hf76 := hts (.fieldLink RX6 76 "LettersByLotModel" "written" "I") (by decide +kernel)
  have hl := lv_entry ([.ref (ad (62)), .int (s0), .int (nI (n0))]) (n := 8) (Nat.le_of_ble_eq_true rfl)
  rw [lg_entry_eq]
  generalize (lg_sl ([.ref (ad (62)), .int (s0), .int (nI (n0))]) ++ List.replicate (8 - (lg_sl ([.ref (ad (62)), .int (s0), .int (nI (n0))])).length) Slot.unset).toArray = ls at hl ⊢
  have hl : lv_has ls 8 [(0, .ref (ad (62))), (1, .int (s0)), (2, .int (nI (n0)))] := hl
  obtain ⟨hq2, hq4, hw1, hw0, hWs, hWt, hw, hln, hul, hT, ht⟩ := hs
  obtain ⟨sq, nu, de, fw, fsz, fwd, ftx, fos, foz, fgo, frw, fan, fad, frn, frd, fen, fed, fcn, fcd, fnw, fth, fo62, fa63, fa64, fa65, fa66, fa67, fa68, fa69, fa70, fa71, fa72, fa73, fa74, fa75, fa76, fa77, fa78, fa79, fa80, hfw, hsz, hwl, htx⟩ := id hM
  have hWp : 1 ≤ Wt ∧ Wt ≤ 4 := by have h8 := hw1 0 (by omega); have h9 := wsum_mono (w := w) (show 1 ≤ q by omega); have h7 : wsum w 1 = 0 + w 0 := rfl; omega
  refine lv_iload_n hx hb dX6_draw_0 rfl (lv_at hl 2 rfl) ?_
  refine lv_sipush (v := nI (301)) hx hb dX6_draw_1 (by decide) ?_
  refine vp_callSi (va_Run.run (va_runS (As := [.int (nI (n0)), .int (nI (301))]) (rest := []) ⟨hx, hb, hml, hown, hts⟩ (mX6_isIn_in l (by omega) (by omega)) (va_cwS 2 hts gX6_draw_X6_isIn rfl rfl rfl (by decide +kernel) ⟨Nat.le_of_ble_eq_true rfl, Nat.le_of_ble_eq_true rfl⟩) ⟨xB_blind, fun U hU hW => ⟨rfl, by rw [hU]; exact hP, va_K.moved hW.alike hK, va_Nw.warmM hW hN⟩⟩ rfl rfl hl.1 rfl (lv_room (Nat.le_of_ble_eq_true rfl)) dX6_draw_4 ⟨Nat.le_of_ble_eq_true rfl, Nat.le_of_ble_eq_true rfl⟩)) (fun r1 er1 => ?_)
  subst er1
  refine xi_if_ne (tgt := 12) hx hb (by decide) dX6_draw_7 (by decide) (fun _ => ?_) (fun c0 => absurd c0 (by decide))
  refine lv_iload_n hx hb dX6_draw_12 rfl (lv_at hl 1 rfl) ?_
  refine lv_istore_n (lv' := [(3, .int (s0)), (0, .ref (ad (62))), (1, .int (s0)), (2, .int (nI (n0)))]) hx hb dX6_draw_13 rfl hl (by decide) rfl (fun ls hl => ?_)
  refine lv_iconst (v := nI (0)) hx hb dX6_draw_14 (by decide) ?_
  refine lv_istore (lv' := [(4, .int (nI (0))), (3, .int (s0)), (0, .ref (ad (62))), (1, .int (s0)), (2, .int (nI (n0)))]) hx hb dX6_draw_15 hl (by decide) rfl (fun ls hl => ?_)
  refine xloopW (G := fun H locs fr => W p l e _ s m _ below meth c H locs _ _ _ fr) (σ := Nat × (Nat → Int32)) (fun (i, fx) ls => F0 m 17 ls []) (fun (i, fx) gl17_3 H locs ls => (i ≤ n0) ∧ (∀ j, j < i → fx j = nI (drw q Wt w s0 j)) ∧ gl17_3 (62) = .inr (6, [.int (nI (q)), .int (nI (Wt)), .ref (ad (63)), .ref (ad (64)), .ref (ad (65)), .ref (ad (66)), .int (nI (T)), .long (tp), .long (bt), .long (nu), .long (de), .int (sq), .ref (ad (67)), .ref (ad (68)), .ref (ad (69)), .ref (ad (70)), .ref (ad (71)), .ref (ad (72)), .ref (ad (73)), .ref (ad (74)), .ref (ad (75)), .ref (ad (76)), .ref (ad (77)), .ref (ad (78)), .ref (ad (79)), .ref (ad (80))]) ∧ gl17_3 (63) = .inl (cI, 4, .inl (fw)) ∧ gl17_3 (66) = .inl (cI, 300, .inl (fx)) ∧ (∀ j : Nat, j ≠ 62 → j ≠ 66 → gl17_3 j = g j) ∧ va_P D vwCl (xw 81 ad gl17_3) H ∧ va_S A s.heap H locs ∧ lv_has ls 8 [(0, .ref (ad (62))), (2, .int (nI (n0))), (3, .int (sdN s0 i)), (4, .int (nI (i)))]) (fun (i, fx) => 301 - i) ?_ (0, ftx) g s.heap [] ls ⟨(by omega), (fun j hj => absurd hj (by omega)), fo62, fa63, fa66, (fun _ _ _ => rfl), hP, hS, (lv_sub hl [2, 4, 1, 0] rfl)⟩
  rintro ⟨i, fx⟩ gl17_3 H locs ls ⟨hi, hfx, fo62, fa63, fa66, hfrgl17_3, hP, hS, hl⟩ ih17
  refine lv_iload hx hb dX6_draw_17 (lv_at hl 3 rfl) ?_
  refine lv_iload_n hx hb dX6_draw_19 rfl (lv_at hl 1 rfl) ?_
  refine xi_icmp_ge (tgt := 94) hx hb (by omega) (by omega) dX6_draw_20 (by decide) (fun c20_4 => ?_) (fun c20_4 => ?_)
  · refine lv_aload_n hx hb dX6_draw_94 rfl (lv_at hl 0 rfl) ?_
    refine lv_iload_n hx hb dX6_draw_95 rfl (lv_at hl 1 rfl) ?_
    refine xw_put hx hb hts hin6 tyX6 tyX6_ok nmX6 hown hK hP hD hS (by decide) fo62 rfl 6 (by decide) hf76 rfl rfl (ty := .int) (by decide +kernel) rfl rfl (Nat.le_of_ble_eq_true rfl) (fs' := [.int (nI (q)), .int (nI (Wt)), .ref (ad (63)), .ref (ad (64)), .ref (ad (65)), .ref (ad (66)), .int (nI (n0)), .long (tp), .long (bt), .long (nu), .long (de), .int (sq), .ref (ad (67)), .ref (ad (68)), .ref (ad (69)), .ref (ad (70)), .ref (ad (71)), .ref (ad (72)), .ref (ad (73)), .ref (ad (74)), .ref (ad (75)), .ref (ad (76)), .ref (ad (77)), .ref (ad (78)), .ref (ad (79)), .ref (ad (80))]) rfl dX6_draw_96 (fun g5 H locs eg5 hP hS => ?_)
    have fg5_0 : g5 (63) = .inl (cI, 4, .inl (fw)) := (congrFun eg5 (63)).trans ((va_up_ne _ _ (by decide)).trans fa63)
    have fg5_1 : g5 (66) = .inl (cI, 300, .inl (fx)) := (congrFun eg5 (66)).trans ((va_up_ne _ _ (by decide)).trans fa66)
    have fg5_w : g5 (62) = .inr (6, [.int (nI (q)), .int (nI (Wt)), .ref (ad (63)), .ref (ad (64)), .ref (ad (65)), .ref (ad (66)), .int (nI (n0)), .long (tp), .long (bt), .long (nu), .long (de), .int (sq), .ref (ad (67)), .ref (ad (68)), .ref (ad (69)), .ref (ad (70)), .ref (ad (71)), .ref (ad (72)), .ref (ad (73)), .ref (ad (74)), .ref (ad (75)), .ref (ad (76)), .ref (ad (77)), .ref (ad (78)), .ref (ad (79)), .ref (ad (80))]) := (congrFun eg5 (62)).trans (va_up_self _ _ _)
    have hfrg5 : ∀ j : Nat, j ≠ 62 → j ≠ 66 → g5 j = g j := fun j h0 h1 => (congrFun eg5 j).trans ((va_up_ne _ _ h0).trans (hfrgl17_3 j h0 h1))
    refine lv_iload_n hx hb dX6_draw_99 rfl (lv_at hl 2 rfl) ?_
    exact W.iret (v := sdN s0 i) hx hb hr (fun tZ ht hW => ⟨⟨_, g5, rfl, ⟨by rw [show n0 = i by omega], ⟨_, _, _, _, _, _, _, _, _, _, _, _, _, _, _, _, _, _, _, _, _, fg5_w, fg5_0, ((hfrg5) 64 (by decide) (by decide)).trans fa64, ((hfrg5) 65 (by decide) (by decide)).trans fa65, fg5_1, ((hfrg5) 67 (by decide) (by decide)).trans fa67, ((hfrg5) 68 (by decide) (by decide)).trans fa68, ((hfrg5) 69 (by decide) (by decide)).trans fa69, ((hfrg5) 70 (by decide) (by decide)).trans fa70, ((hfrg5) 71 (by decide) (by decide)).trans fa71, ((hfrg5) 72 (by decide) (by decide)).trans fa72, ((hfrg5) 73 (by decide) (by decide)).trans fa73, ((hfrg5) 74 (by decide) (by decide)).trans fa74, ((hfrg5) 75 (by decide) (by decide)).trans fa75, ((hfrg5) 76 (by decide) (by decide)).trans fa76, ((hfrg5) 77 (by decide) (by decide)).trans fa77, ((hfrg5) 78 (by decide) (by decide)).trans fa78, ((hfrg5) 79 (by decide) (by decide)).trans fa79, ((hfrg5) 80 (by decide) (by decide)).trans fa80, hfw, hsz, hwl, (fun j hj => hfx j (by omega))⟩, fun j hj => (hfrg5) j (by omega) (by omega)⟩, by rw [ht]; exact hP, va_K.moved hW.alike hK, va_Nw.warmM hW hN⟩, hS.F ht⟩) hS.2.2 dX6_draw_100
  · refine lv_iload_n hx hb dX6_draw_23 rfl (lv_at hl 2 rfl) ?_
    refine lv_ldc (v := nI (1103515245)) hx hb hown (hts (.constant RX6 199 (1103515245)) (by decide +kernel)) dX6_draw_24 ?_
    refine lv_imul hx hb dX6_draw_26 ?_
    refine xtopi (y := sdN s0 i * 1103515245) rfl ?_
    refine lv_sipush (v := nI (12345)) hx hb dX6_draw_27 (by decide) ?_
    refine lv_iadd hx hb dX6_draw_30 ?_
    refine xtopi (y := sdN s0 (i + 1)) rfl ?_
    refine lv_istore_n (lv' := [(3, .int (sdN s0 (i + 1))), (0, .ref (ad (62))), (2, .int (nI (n0))), (4, .int (nI (i)))]) hx hb dX6_draw_31 rfl hl (by decide) rfl (fun ls hl => ?_)
    refine lv_iload_n hx hb dX6_draw_32 rfl (lv_at hl 0 rfl) ?_
    refine lv_bipush (v := nI (16)) hx hb dX6_draw_33 (by decide) ?_
    refine lv_iushr hx hb dX6_draw_35 rfl ?_
    refine xtopi (y := nI (s16 (sdN s0 (i + 1)))) (s16_eq _) ?_
    refine lv_aload_n hx hb dX6_draw_36 rfl (lv_at hl 1 rfl) ?_
    refine xw_get hx hb hts hin6 hown hK hP (by decide) fo62 rfl 1 (by decide) hf13 rfl rfl dX6_draw_37 ?_
    refine xi_rem hx hb (Nat.lt_trans (s16_lt _) (by decide)) (by omega) (by omega) dX6_draw_40 ?_
    have hdl : s16 (sdN s0 (i + 1)) % Wt < Wt := Nat.mod_lt _ (by omega)
    refine lv_istore (lv' := [(5, .int (nI ((s16 (sdN s0 (i + 1))) % Wt))), (3, .int (sdN s0 (i + 1))), (0, .ref (ad (62))), (2, .int (nI (n0))), (4, .int (nI (i)))]) hx hb dX6_draw_41 hl (by decide) rfl (fun ls hl => ?_)
    refine lv_iconst (v := nI (0)) hx hb dX6_draw_43 (by decide) ?_
    refine lv_istore (lv' := [(6, .int (nI (0))), (5, .int (nI ((s16 (sdN s0 (i + 1))) % Wt))), (3, .int (sdN s0 (i + 1))), (0, .ref (ad (62))), (2, .int (nI (n0))), (4, .int (nI (i)))]) hx hb dX6_draw_44 hl (by decide) rfl (fun ls hl => ?_)
    refine lv_aload_n hx hb dX6_draw_46 rfl (lv_at hl 3 rfl) ?_
    refine xw_get hx hb hts hin6 hown hK hP (by decide) fo62 rfl 2 (by decide) hf16 rfl rfl dX6_draw_47 ?_
    refine lv_iconst (v := nI (0)) hx hb dX6_draw_50 (by decide) ?_
    refine xw_iald hx hb hK hP (by decide) 0 fa63 rfl (by omega) (by decide) dX6_draw_51 ?_
    rw [hfw (0) (by omega)]
    refine lv_istore (lv' := [(7, .int (nI (w (0)))), (6, .int (nI (0))), (5, .int (nI ((s16 (sdN s0 (i + 1))) % Wt))), (3, .int (sdN s0 (i + 1))), (0, .ref (ad (62))), (2, .int (nI (n0))), (4, .int (nI (i)))]) hx hb dX6_draw_52 hl (by decide) rfl (fun ls hl => ?_)
    refine xloop (G := fun fr => W p l e _ s m _ below meth c _ _ _ _ _ fr) (σ := Nat) (fun j ls => F0 m 54 ls []) (fun j ls => (j < q) ∧ (wsum w j ≤ s16 (sdN s0 (i + 1)) % Wt) ∧ lv_has ls 8 [(0, .ref (ad (62))), (2, .int (nI (n0))), (3, .int (sdN s0 (i + 1))), (4, .int (nI (i))), (5, .int (nI (s16 (sdN s0 (i + 1)) % Wt))), (6, .int (nI (j))), (7, .int (nI (wsum w (j + 1))))]) (fun j => q - j) ?_ (0) ls ⟨(by omega), (Nat.zero_le _), (by rw [show wsum w (0 + 1) = w 0 from Nat.zero_add _]; exact (lv_sub hl [4, 5, 3, 6, 2, 1, 0] rfl))⟩
    rintro j ls ⟨hj, hjd, hl⟩ ih54
    refine lv_iload hx hb dX6_draw_54 (lv_at hl 6 rfl) ?_
    refine lv_iload hx hb dX6_draw_56 (lv_at hl 4 rfl) ?_
    refine xi_icmp_gt (tgt := 79) hx hb (by have h9 := wsum_mono (w := w) (show j + 1 ≤ q by omega); omega) (by omega) dX6_draw_58 (by decide) (fun c58_9 => ?_) (fun c58_9 => ?_)
    · refine lv_aload_n hx hb dX6_draw_79 rfl (lv_at hl 0 rfl) ?_
      refine xw_get hx hb hts hin6 hown hK hP (by decide) fo62 rfl 5 (by decide) hf26 rfl rfl dX6_draw_80 ?_
      refine lv_iload hx hb dX6_draw_83 (lv_at hl 3 rfl) ?_
      refine lv_iload hx hb dX6_draw_85 (lv_at hl 5 rfl) ?_
      refine xw_iast hx hb hK hP hD hS (by decide) 0 fa66 rfl (by omega) (by decide) dX6_draw_87 (fun g10 H locs eg10 hP hS => ?_)
      have fg10_0 : g10 (62) = .inr (6, [.int (nI (q)), .int (nI (Wt)), .ref (ad (63)), .ref (ad (64)), .ref (ad (65)), .ref (ad (66)), .int (nI (T)), .long (tp), .long (bt), .long (nu), .long (de), .int (sq), .ref (ad (67)), .ref (ad (68)), .ref (ad (69)), .ref (ad (70)), .ref (ad (71)), .ref (ad (72)), .ref (ad (73)), .ref (ad (74)), .ref (ad (75)), .ref (ad (76)), .ref (ad (77)), .ref (ad (78)), .ref (ad (79)), .ref (ad (80))]) := (congrFun eg10 (62)).trans ((va_up_ne _ _ (by decide)).trans fo62)
      have fg10_1 : g10 (63) = .inl (cI, 4, .inl (fw)) := (congrFun eg10 (63)).trans ((va_up_ne _ _ (by decide)).trans fa63)
      have fg10_w : g10 (66) = .inl (cI, 300, .inl (upd (fx) (i) (nI (j)))) := (congrFun eg10 (66)).trans (va_up_self _ _ _)
      have hfrg10 : ∀ j : Nat, j ≠ 62 → j ≠ 66 → g10 j = g j := fun j h0 h1 => (congrFun eg10 j).trans ((va_up_ne _ _ h1).trans (hfrgl17_3 j h0 h1))
      refine lv_iinc (v := nI (i + 1)) (lv' := [(4, .int (nI (i + 1))), (0, .ref (ad (62))), (2, .int (nI (n0))), (3, .int (sdN s0 (i + 1))), (5, .int (nI (s16 (sdN s0 (i + 1)) % Wt))), (6, .int (nI (j))), (7, .int (nI (wsum w (j + 1))))]) hx hb dX6_draw_88 hl (k := 3) rfl (nI_add (i) 1) (by decide) rfl (fun ls hl => ?_)
      refine lv_goto (tgt := 17) hx hb dX6_draw_91 (by decide) ?_
      exact ih17 (i + 1, upd (fx) (i) (nI (j))) g10 H locs ls ⟨(by omega), (fun x hx => by by_cases e : x = i; subst e; rw [pk_us]; show nI j = nI (pick q w _); rw [pick_eq hj hjd c58_9]; rw [pk_un e]; exact hfx x (by omega)), fg10_0, fg10_1, fg10_w, hfrg10, hP, hS, (lv_sub hl [1, 2, 3, 0] rfl)⟩ (by first | omega | (dsimp only; omega))
    · have hj1 : j + 1 < q := Nat.lt_of_not_le (fun h => by have h9 := c58_9; rw [show j + 1 = q by omega, hWs] at h9; omega)
      refine lv_iinc (v := nI (j + 1)) (lv' := [(6, .int (nI (j + 1))), (0, .ref (ad (62))), (2, .int (nI (n0))), (3, .int (sdN s0 (i + 1))), (4, .int (nI (i))), (5, .int (nI (s16 (sdN s0 (i + 1)) % Wt))), (7, .int (nI (wsum w (j + 1))))]) hx hb dX6_draw_61 hl (k := 5) rfl (nI_add (j) 1) (by decide) rfl (fun ls hl => ?_)
      refine lv_iload hx hb dX6_draw_64 (lv_at hl 6 rfl) ?_
      refine lv_aload_n hx hb dX6_draw_66 rfl (lv_at hl 1 rfl) ?_
      refine xw_get hx hb hts hin6 hown hK hP (by decide) fo62 rfl 2 (by decide) hf16 rfl rfl dX6_draw_67 ?_
      refine lv_iload hx hb dX6_draw_70 (lv_at hl 0 rfl) ?_
      refine xw_iald hx hb hK hP (by decide) 0 fa63 rfl (by omega) (by decide) dX6_draw_72 ?_
      rw [hfw (j + 1) (by omega)]
      refine xi_add hx hb dX6_draw_73 ?_
      refine xtopi (y := nI (wsum w (j + 1 + 1))) rfl ?_
      refine lv_istore (lv' := [(7, .int (nI (wsum w (j + 1 + 1)))), (6, .int (nI (j + 1))), (0, .ref (ad (62))), (2, .int (nI (n0))), (3, .int (sdN s0 (i + 1))), (4, .int (nI (i))), (5, .int (nI (s16 (sdN s0 (i + 1)) % Wt)))]) hx hb dX6_draw_74 hl (by decide) rfl (fun ls hl => ?_)
      refine lv_goto (tgt := 54) hx hb dX6_draw_76 (by decide) ?_
      exact ih54 (j + 1) ls ⟨(Nat.lt_of_not_le (fun h => by have h9 := c58_9; rw [show j + 1 = q by omega, hWs] at h9; omega)), (by have h9 := c58_9; omega), (lv_sub hl [2, 3, 4, 5, 6, 1, 0] rfl)⟩ (by first | omega | (dsimp only; omega))

set_option maxHeartbeats 4000000 in
set_option maxRecDepth 100000 in
theorem mX6_draw_bad (l : Launch) {D : va_G} {cI cJ cZ cW : ClassId} {ad : Nat → Nat} {A : Nat → Prop} (hD : ∀ g, va_D A (xw 81 ad g)) {g : Nat → va_E} {q Wt : Nat} {w : Nat → Nat} {ln : Nat → Nat} {u : Nat → Nat → Nat} {T : Nat} {t : Nat → Nat} {tp bt : Int64} {s0 x0 : Int32}  (hM : ModI cI cJ ad g q Wt w ln u T t tp bt) (hs : SrcI q Wt w ln u T t) (hx0 : x0 < 0 ∨ nI 300 < x0) : Met l yX6_draw wsX6_draw ({ frames := 1, cells := 0, slots := 0, locals := 21 }) (va_Pc [.ref (ad (62)), .int (s0), .int (x0)] (xB D (xT cI cJ cZ cW) ad g)) (va_Qi (fun r g2 => r = 0 ∧ ModI cI cJ ad g2 q Wt w ln u T t tp bt ∧ ∀ j : Nat, j < 62 → g2 j = g j) (xB D (xT cI cJ cZ cW) ad) A) 0 0 A := by
  refine Met.ofW (cc := cX6_draw) (maxL := 8) (ret := (some .int)) (by decide) rfl ?_
  intro p e s m args below meth c s₁ B hml hv
  obtain ⟨rfl, hP, hK, hN⟩ := hv
  have hx := B.exec
  have hb := B.bytes
  have hr := B.returns
  have hts := atoms_spec (ws := wsX6_draw) B.pre
  have hown : s.vm.findClass RX6 = some m.cls := findClass_of_methodNamed B.named
  have hlocks := B.notSynchronized
  have hS : va_S A s.heap s.heap [] := va_S.rf
  have hl := lv_entry ([.ref (ad (62)), .int (s0), .int (x0)]) (n := 8) (Nat.le_of_ble_eq_true rfl)
  rw [lg_entry_eq]
  generalize (lg_sl ([.ref (ad (62)), .int (s0), .int (x0)]) ++ List.replicate (8 - (lg_sl ([.ref (ad (62)), .int (s0), .int (x0)])).length) Slot.unset).toArray = ls at hl ⊢
  have hl : lv_has ls 8 [(0, .ref (ad (62))), (1, .int (s0)), (2, .int (x0))] := hl
  obtain ⟨hq2, hq4, hw1, hw0, hWs, hWt, hw, hln, hul, hT, ht⟩ := hs
  obtain ⟨sq, nu, de, fw, fsz, fwd, ftx, fos, foz, fgo, frw, fan, fad, frn, frd, fen, fed, fcn, fcd, fnw, fth, fo62, fa63, fa64, fa65, fa66, fa67, fa68, fa69, fa70, fa71, fa72, fa73, fa74, fa75, fa76, fa77, fa78, fa79, fa80, hfw, hsz, hwl, htx⟩ := id hM
  have hWp : 1 ≤ Wt ∧ Wt ≤ 4 := by have h8 := hw1 0 (by omega); have h9 := wsum_mono (w := w) (show 1 ≤ q by omega); have h7 : wsum w 1 = 0 + w 0 := rfl; omega
  refine lv_iload_n hx hb dX6_draw_0 rfl (lv_at hl 2 rfl) ?_
  refine lv_sipush (v := nI (301)) hx hb dX6_draw_1 (by decide) ?_
  refine vp_callSi (va_Run.run (va_runS (As := [.int (x0), .int (nI (301))]) (rest := []) ⟨hx, hb, hml, hown, hts⟩ (mX6_isIn_out l (hx0.imp id lt_301)) (va_cwS 2 hts gX6_draw_X6_isIn rfl rfl rfl (by decide +kernel) ⟨Nat.le_of_ble_eq_true rfl, Nat.le_of_ble_eq_true rfl⟩) ⟨xB_blind, fun U hU hW => ⟨rfl, by rw [hU]; exact hP, va_K.moved hW.alike hK, va_Nw.warmM hW hN⟩⟩ rfl rfl hl.1 rfl (lv_room (Nat.le_of_ble_eq_true rfl)) dX6_draw_4 ⟨Nat.le_of_ble_eq_true rfl, Nat.le_of_ble_eq_true rfl⟩)) (fun r1 er1 => ?_)
  subst er1
  refine xi_if_ne (tgt := 12) hx hb (by decide) dX6_draw_7 (by decide) (fun c0 => absurd c0 (by decide)) (fun _ => ?_)
  refine lv_iconst (v := nI (0)) hx hb dX6_draw_10 (by decide) ?_
  exact W.iret (v := nI (0)) hx hb hr (fun tZ ht hW => ⟨⟨_, g, rfl, ⟨rfl, hM, fun _ _ => rfl⟩, by rw [ht]; exact hP, va_K.moved hW.alike hK, va_Nw.warmM hW hN⟩, hS.F ht⟩) hS.2.2 dX6_draw_11

set_option maxHeartbeats 4000000 in
set_option maxRecDepth 100000 in
theorem mX6_source2 (l : Launch) {D : va_G} {cI cJ cZ cW : ClassId} {ad : Nat → Nat} {A : Nat → Prop} (hD : ∀ g, va_D A (xw 81 ad g)) {g : Nat → va_E} {q Wt : Nat} {w : Nat → Nat} {ln : Nat → Nat} {u : Nat → Nat → Nat} {T : Nat} {t : Nat → Nat} {tp bt : Int64} {xa xb xc xd : Int32}  (hM : ModI cI cJ ad g q Wt w ln u T t tp bt) (hs : SrcI q Wt w ln u T t) : Met l yX6_source wsX6_source ({ frames := 0, cells := 0, slots := 0, locals := 0 }) (va_Pc [.ref (ad (62)), .int (nI (2)), .int (xa), .int (xb), .int (xc), .int (xd)] (xB D (xT cI cJ cZ cW) ad g)) (va_Qi (fun r g2 => (r = nI (hf xa + hf xb + 0 + 0) ∧ hf xa + hf xb + 0 + 0 ≤ 4 ∧ ModI cI cJ ad g2 2 (hf xa + hf xb + 0 + 0) (wt4 (hf xa) (hf xb) (0) (0)) (fun _ => 0) u 0 t tp bt ∧ ∀ j : Nat, j < 62 → g2 j = g j) ∨ (r = -1 ∧ 4 < hf xa + hf xb + 0 + 0 ∧ ModI cI cJ ad g2 q Wt w ln u T t tp bt ∧ ∀ j : Nat, j < 62 → g2 j = g j)) (xB D (xT cI cJ cZ cW) ad) A) 0 0 A := by
  refine Met.ofW (cc := cX6_source) (maxL := 9) (ret := (some .int)) (by decide) rfl ?_
  intro p e s m args below meth c s₁ B hml hv
  obtain ⟨rfl, hP, hK, hN⟩ := hv
  have hx := B.exec
  have hb := B.bytes
  have hr := B.returns
  have hts := atoms_spec (ws := wsX6_source) B.pre
  have hown : s.vm.findClass RX6 = some m.cls := findClass_of_methodNamed B.named
  have hlocks := B.notSynchronized
  have hS : va_S A s.heap s.heap [] := va_S.rf
  have hin6 : ∀ w ∈ wsX60, w ∈ wsX6_source := by decide +kernel
  have hf7 := hts (.fieldLink RX6 7 "LettersByLotModel" "q" "I") (by decide +kernel)
  have hf13 := hts (.fieldLink RX6 13 "LettersByLotModel" "all" "I") (by decide +kernel)
  have hf16 := hts (.fieldLink RX6 16 "LettersByLotModel" "weight" "[I") (by decide +kernel)
  have hf20 := hts (.fieldLink RX6 20 "LettersByLotModel" "size" "[I") (by decide +kernel)
  have hf76 := hts (.fieldLink RX6 76 "LettersByLotModel" "written" "I") (by decide +kernel)
  have hl := lv_entry ([.ref (ad (62)), .int (nI (2)), .int (xa), .int (xb), .int (xc), .int (xd)]) (n := 9) (Nat.le_of_ble_eq_true rfl)
  rw [lg_entry_eq]
  generalize (lg_sl ([.ref (ad (62)), .int (nI (2)), .int (xa), .int (xb), .int (xc), .int (xd)]) ++ List.replicate (9 - (lg_sl ([.ref (ad (62)), .int (nI (2)), .int (xa), .int (xb), .int (xc), .int (xd)])).length) Slot.unset).toArray = ls at hl ⊢
  have hl : lv_has ls 9 [(0, .ref (ad (62))), (1, .int (nI (2))), (2, .int (xa)), (3, .int (xb)), (4, .int (xc)), (5, .int (xd))] := hl
  obtain ⟨hq2, hq4, hw1, hw0, hWs, hWt, hw, hln, hul, hT, ht⟩ := hs
  obtain ⟨sq, nu, de, fw, fsz, fwd, ftx, fos, foz, fgo, frw, fan, fad, frn, frd, fen, fed, fcn, fcd, fnw, fth, fo62, fa63, fa64, fa65, fa66, fa67, fa68, fa69, fa70, fa71, fa72, fa73, fa74, fa75, fa76, fa77, fa78, fa79, fa80, hfw, hsz, hwl, htx⟩ := id hM
  have hWp : 1 ≤ Wt ∧ Wt ≤ 4 := by have h8 := hw1 0 (by omega); have h9 := wsum_mono (w := w) (show 1 ≤ q by omega); have h7 : wsum w 1 = 0 + w 0 := rfl; omega
  refine lv_iload_n hx hb dX6_source_0 rfl (lv_at hl 1 rfl) ?_
  refine lv_iconst (v := nI (2)) hx hb dX6_source_1 (by decide) ?_
  refine xi_icmp_lt (tgt := 10) hx hb (by decide) (by decide) dX6_source_2 (by decide) (fun c0 => absurd c0 (by decide)) (fun _ => ?_)
  refine lv_iload_n hx hb dX6_source_5 rfl (lv_at hl 1 rfl) ?_
  refine lv_iconst (v := nI (4)) hx hb dX6_source_6 (by decide) ?_
  refine xi_icmp_le (tgt := 12) hx hb (by decide) (by decide) dX6_source_7 (by decide) (fun _ => ?_) (fun c0 => absurd c0 (by decide))
  refine lv_iconst (v := nI (0)) hx hb dX6_source_12 (by decide) ?_
  refine lv_istore (lv' := [(6, .int (nI (0))), (0, .ref (ad (62))), (1, .int (nI (2))), (2, .int (xa)), (3, .int (xb)), (4, .int (xc)), (5, .int (xd))]) hx hb dX6_source_13 hl (by decide) rfl (fun ls hl => ?_)
  refine lv_iconst (v := nI (0)) hx hb dX6_source_15 (by decide) ?_
  refine lv_istore (lv' := [(7, .int (nI (0))), (6, .int (nI (0))), (0, .ref (ad (62))), (1, .int (nI (2))), (2, .int (xa)), (3, .int (xb)), (4, .int (xc)), (5, .int (xd))]) hx hb dX6_source_16 hl (by decide) rfl (fun ls hl => ?_)
  refine lv_iload hx hb dX6_source_18 (lv_at hl 0 rfl) ?_
  refine lv_iload_n hx hb dX6_source_20 rfl (lv_at hl 3 rfl) ?_
  refine xi_icmp_ge (tgt := 85) hx hb (by decide) (by decide) dX6_source_21 (by decide) (fun c0 => absurd c0 (by decide)) (fun _ => ?_)
  refine lv_iload hx hb dX6_source_24 (lv_at hl 0 rfl) ?_
  refine xi_if_ne (tgt := 33) hx hb (by decide) dX6_source_26 (by decide) (fun c0 => absurd c0 (by decide)) (fun _ => ?_)
  refine lv_iload_n hx hb dX6_source_29 rfl (lv_at hl 4 rfl) ?_
  refine lv_goto (tgt := 56) hx hb dX6_source_30 (by decide) ?_
  refine lv_istore (lv' := [(8, .int (xa)), (7, .int (nI (0))), (6, .int (nI (0))), (0, .ref (ad (62))), (1, .int (nI (2))), (2, .int (xa)), (3, .int (xb)), (4, .int (xc)), (5, .int (xd))]) hx hb dX6_source_56 hl (by decide) rfl (fun ls hl => ?_)
  refine lv_iload hx hb dX6_source_58 (lv_at hl 0 rfl) ?_
  refine lv_iconst (v := nI (1)) hx hb dX6_source_60 (by decide) ?_
  refine lv_icmp_lt (tgt := 70) hx hb dX6_source_61 (by decide) (fun c61_5 => ?_) (fun c61_5 => ?_)
  · refine lv_iconst (v := (-1)) hx hb dX6_source_70 (by decide) ?_
    exact W.iret (v := (-1)) hx hb hr (fun tZ ht hW => ⟨⟨_, g, rfl, Or.inr ⟨rfl, by have a1 := hf_1 xa; have a2 := hf_1 xb; have a3 := hf_1 xc; have a4 := hf_1 xd; have a5 := hf_no (x := xa) (Or.inl c61_5); omega, hM, fun _ _ => rfl⟩, by rw [ht]; exact hP, va_K.moved hW.alike hK, va_Nw.warmM hW hN⟩, hS.F ht⟩) hS.2.2 dX6_source_71
  · refine lv_iload hx hb dX6_source_64 (lv_at hl 0 rfl) ?_
    refine lv_iconst (v := nI (4)) hx hb dX6_source_66 (by decide) ?_
    refine lv_icmp_le (tgt := 72) hx hb dX6_source_67 (by decide) (fun c67_6 => ?_) (fun c67_6 => ?_)
    · have exa := hf_yes c61_5 (Int32.not_lt.mpr c67_6)
      refine lv_iload hx hb dX6_source_72 (lv_at hl 2 rfl) ?_
      refine lv_iload hx hb dX6_source_74 (lv_at hl 0 rfl) ?_
      refine lv_iadd hx hb dX6_source_76 ?_
      refine xtopi (y := nI (hf xa)) ((hf_add exa).trans (congrArg nI (Nat.zero_add _))) ?_
      refine lv_istore (lv' := [(6, .int (nI (hf xa))), (8, .int (xa)), (7, .int (nI (0))), (0, .ref (ad (62))), (1, .int (nI (2))), (2, .int (xa)), (3, .int (xb)), (4, .int (xc)), (5, .int (xd))]) hx hb dX6_source_77 hl (by decide) rfl (fun ls hl => ?_)
      refine lv_iinc (v := nI (1)) (lv' := [(7, .int (nI (1))), (6, .int (nI (hf xa))), (8, .int (xa)), (0, .ref (ad (62))), (1, .int (nI (2))), (2, .int (xa)), (3, .int (xb)), (4, .int (xc)), (5, .int (xd))]) hx hb dX6_source_79 hl (k := 2) rfl (nI_add (0) 1) (by decide) rfl (fun ls hl => ?_)
      refine lv_goto (tgt := 18) hx hb dX6_source_82 (by decide) ?_
      refine lv_iload hx hb dX6_source_18 (lv_at hl 0 rfl) ?_
      refine lv_iload_n hx hb dX6_source_20 rfl (lv_at hl 4 rfl) ?_
      refine xi_icmp_ge (tgt := 85) hx hb (by decide) (by decide) dX6_source_21 (by decide) (fun c0 => absurd c0 (by decide)) (fun _ => ?_)
      refine lv_iload hx hb dX6_source_24 (lv_at hl 0 rfl) ?_
      refine xi_if_ne (tgt := 33) hx hb (by decide) dX6_source_26 (by decide) (fun _ => ?_) (fun c0 => absurd c0 (by decide))
      refine lv_iload hx hb dX6_source_33 (lv_at hl 0 rfl) ?_
      refine lv_iconst (v := nI (1)) hx hb dX6_source_35 (by decide) ?_
      refine xi_icmp_ne (tgt := 43) hx hb (by decide) (by decide) dX6_source_36 (by decide) (fun c0 => absurd c0 (by decide)) (fun _ => ?_)
      refine lv_iload_n hx hb dX6_source_39 rfl (lv_at hl 6 rfl) ?_
      refine lv_goto (tgt := 56) hx hb dX6_source_40 (by decide) ?_
      refine lv_istore (lv' := [(8, .int (xb)), (7, .int (nI (1))), (6, .int (nI (hf xa))), (0, .ref (ad (62))), (1, .int (nI (2))), (2, .int (xa)), (3, .int (xb)), (4, .int (xc)), (5, .int (xd))]) hx hb dX6_source_56 hl (by decide) rfl (fun ls hl => ?_)
      refine lv_iload hx hb dX6_source_58 (lv_at hl 0 rfl) ?_
      refine lv_iconst (v := nI (1)) hx hb dX6_source_60 (by decide) ?_
      refine lv_icmp_lt (tgt := 70) hx hb dX6_source_61 (by decide) (fun c61_11 => ?_) (fun c61_11 => ?_)
      · refine lv_iconst (v := (-1)) hx hb dX6_source_70 (by decide) ?_
        exact W.iret (v := (-1)) hx hb hr (fun tZ ht hW => ⟨⟨_, g, rfl, Or.inr ⟨rfl, by have a1 := hf_1 xa; have a2 := hf_1 xb; have a3 := hf_1 xc; have a4 := hf_1 xd; have a5 := hf_no (x := xb) (Or.inl c61_11); omega, hM, fun _ _ => rfl⟩, by rw [ht]; exact hP, va_K.moved hW.alike hK, va_Nw.warmM hW hN⟩, hS.F ht⟩) hS.2.2 dX6_source_71
      · refine lv_iload hx hb dX6_source_64 (lv_at hl 0 rfl) ?_
        refine lv_iconst (v := nI (4)) hx hb dX6_source_66 (by decide) ?_
        refine lv_icmp_le (tgt := 72) hx hb dX6_source_67 (by decide) (fun c67_12 => ?_) (fun c67_12 => ?_)
        · have exb := hf_yes c61_11 (Int32.not_lt.mpr c67_12)
          refine lv_iload hx hb dX6_source_72 (lv_at hl 2 rfl) ?_
          refine lv_iload hx hb dX6_source_74 (lv_at hl 0 rfl) ?_
          refine lv_iadd hx hb dX6_source_76 ?_
          refine xtopi (y := nI (hf xa + hf xb + 0 + 0)) (hf_add exb) ?_
          refine lv_istore (lv' := [(6, .int (nI (hf xa + hf xb + 0 + 0))), (8, .int (xb)), (7, .int (nI (1))), (0, .ref (ad (62))), (1, .int (nI (2))), (2, .int (xa)), (3, .int (xb)), (4, .int (xc)), (5, .int (xd))]) hx hb dX6_source_77 hl (by decide) rfl (fun ls hl => ?_)
          refine lv_iinc (v := nI (2)) (lv' := [(7, .int (nI (2))), (6, .int (nI (hf xa + hf xb + 0 + 0))), (8, .int (xb)), (0, .ref (ad (62))), (1, .int (nI (2))), (2, .int (xa)), (3, .int (xb)), (4, .int (xc)), (5, .int (xd))]) hx hb dX6_source_79 hl (k := 2) rfl (nI_add (1) 1) (by decide) rfl (fun ls hl => ?_)
          refine lv_goto (tgt := 18) hx hb dX6_source_82 (by decide) ?_
          refine lv_iload hx hb dX6_source_18 (lv_at hl 0 rfl) ?_
          refine lv_iload_n hx hb dX6_source_20 rfl (lv_at hl 4 rfl) ?_
          refine xi_icmp_ge (tgt := 85) hx hb (by decide) (by decide) dX6_source_21 (by decide) (fun _ => ?_) (fun c0 => absurd c0 (by decide))
          refine lv_iload hx hb dX6_source_85 (lv_at hl 1 rfl) ?_
          refine lv_iconst (v := nI (4)) hx hb dX6_source_87 (by decide) ?_
          refine xi_icmp_le (tgt := 93) hx hb (by have := hf_le xa; have := hf_le xb; have := hf_le xc; have := hf_le xd; omega) (by decide) dX6_source_88 (by decide) (fun c88_15 => ?_) (fun c88_15 => ?_)
          · refine lv_aload_n hx hb dX6_source_93 rfl (lv_at hl 3 rfl) ?_
            refine lv_iload_n hx hb dX6_source_94 rfl (lv_at hl 4 rfl) ?_
            refine xw_put hx hb hts hin6 tyX6 tyX6_ok nmX6 hown hK hP hD hS (by decide) fo62 rfl 0 (by decide) hf7 rfl rfl (ty := .int) (by decide +kernel) rfl rfl (Nat.le_of_ble_eq_true rfl) (fs' := [.int (nI (2)), .int (nI (Wt)), .ref (ad (63)), .ref (ad (64)), .ref (ad (65)), .ref (ad (66)), .int (nI (T)), .long (tp), .long (bt), .long (nu), .long (de), .int (sq), .ref (ad (67)), .ref (ad (68)), .ref (ad (69)), .ref (ad (70)), .ref (ad (71)), .ref (ad (72)), .ref (ad (73)), .ref (ad (74)), .ref (ad (75)), .ref (ad (76)), .ref (ad (77)), .ref (ad (78)), .ref (ad (79)), .ref (ad (80))]) rfl dX6_source_95 (fun g16 H locs eg16 hP hS => ?_)
            have fg16_0 : g16 (63) = .inl (cI, 4, .inl (fw)) := (congrFun eg16 (63)).trans ((va_up_ne _ _ (by decide)).trans fa63)
            have fg16_1 : g16 (64) = .inl (cI, 8, .inl (fsz)) := (congrFun eg16 (64)).trans ((va_up_ne _ _ (by decide)).trans fa64)
            have fg16_w : g16 (62) = .inr (6, [.int (nI (2)), .int (nI (Wt)), .ref (ad (63)), .ref (ad (64)), .ref (ad (65)), .ref (ad (66)), .int (nI (T)), .long (tp), .long (bt), .long (nu), .long (de), .int (sq), .ref (ad (67)), .ref (ad (68)), .ref (ad (69)), .ref (ad (70)), .ref (ad (71)), .ref (ad (72)), .ref (ad (73)), .ref (ad (74)), .ref (ad (75)), .ref (ad (76)), .ref (ad (77)), .ref (ad (78)), .ref (ad (79)), .ref (ad (80))]) := (congrFun eg16 (62)).trans (va_up_self _ _ _)
            have hfrg16 : ∀ j : Nat, j ≠ 62 → j ≠ 63 → j ≠ 64 → g16 j = g j := fun j h0 h1 h2 => (congrFun eg16 j).trans ((va_up_ne _ _ h0).trans ((fun _ _ _ _ => rfl) j h0 h1 h2))
            refine lv_aload_n hx hb dX6_source_98 rfl (lv_at hl 3 rfl) ?_
            refine lv_iload hx hb dX6_source_99 (lv_at hl 1 rfl) ?_
            refine xw_put hx hb hts hin6 tyX6 tyX6_ok nmX6 hown hK hP hD hS (by decide) fg16_w rfl 1 (by decide) hf13 rfl rfl (ty := .int) (by decide +kernel) rfl rfl (Nat.le_of_ble_eq_true rfl) (fs' := [.int (nI (2)), .int (nI (hf xa + hf xb + 0 + 0)), .ref (ad (63)), .ref (ad (64)), .ref (ad (65)), .ref (ad (66)), .int (nI (T)), .long (tp), .long (bt), .long (nu), .long (de), .int (sq), .ref (ad (67)), .ref (ad (68)), .ref (ad (69)), .ref (ad (70)), .ref (ad (71)), .ref (ad (72)), .ref (ad (73)), .ref (ad (74)), .ref (ad (75)), .ref (ad (76)), .ref (ad (77)), .ref (ad (78)), .ref (ad (79)), .ref (ad (80))]) rfl dX6_source_101 (fun g17 H locs eg17 hP hS => ?_)
            have fg17_0 : g17 (63) = .inl (cI, 4, .inl (fw)) := (congrFun eg17 (63)).trans ((va_up_ne _ _ (by decide)).trans fg16_0)
            have fg17_1 : g17 (64) = .inl (cI, 8, .inl (fsz)) := (congrFun eg17 (64)).trans ((va_up_ne _ _ (by decide)).trans fg16_1)
            have fg17_w : g17 (62) = .inr (6, [.int (nI (2)), .int (nI (hf xa + hf xb + 0 + 0)), .ref (ad (63)), .ref (ad (64)), .ref (ad (65)), .ref (ad (66)), .int (nI (T)), .long (tp), .long (bt), .long (nu), .long (de), .int (sq), .ref (ad (67)), .ref (ad (68)), .ref (ad (69)), .ref (ad (70)), .ref (ad (71)), .ref (ad (72)), .ref (ad (73)), .ref (ad (74)), .ref (ad (75)), .ref (ad (76)), .ref (ad (77)), .ref (ad (78)), .ref (ad (79)), .ref (ad (80))]) := (congrFun eg17 (62)).trans (va_up_self _ _ _)
            have hfrg17 : ∀ j : Nat, j ≠ 62 → j ≠ 63 → j ≠ 64 → g17 j = g j := fun j h0 h1 h2 => (congrFun eg17 j).trans ((va_up_ne _ _ h0).trans (hfrg16 j h0 h1 h2))
            refine lv_iconst (v := nI (0)) hx hb dX6_source_104 (by decide) ?_
            refine lv_istore (lv' := [(7, .int (nI (0))), (6, .int (nI (hf xa + hf xb + 0 + 0))), (8, .int (xb)), (0, .ref (ad (62))), (1, .int (nI (2))), (2, .int (xa)), (3, .int (xb)), (4, .int (xc)), (5, .int (xd))]) hx hb dX6_source_105 hl (by decide) rfl (fun ls hl => ?_)
            refine lv_iload hx hb dX6_source_107 (lv_at hl 0 rfl) ?_
            refine lv_iconst (v := nI (4)) hx hb dX6_source_109 (by decide) ?_
            refine xi_icmp_ge (tgt := 168) hx hb (by decide) (by decide) dX6_source_110 (by decide) (fun c0 => absurd c0 (by decide)) (fun _ => ?_)
            refine lv_aload_n hx hb dX6_source_113 rfl (lv_at hl 3 rfl) ?_
            refine xw_get hx hb hts hin6 hown hK hP (by decide) fg17_w rfl 2 (by decide) hf16 rfl rfl dX6_source_114 ?_
            refine lv_iload hx hb dX6_source_117 (lv_at hl 0 rfl) ?_
            refine lv_iload hx hb dX6_source_119 (lv_at hl 0 rfl) ?_
            refine lv_iload_n hx hb dX6_source_121 rfl (lv_at hl 4 rfl) ?_
            refine xi_icmp_lt (tgt := 129) hx hb (by decide) (by decide) dX6_source_122 (by decide) (fun _ => ?_) (fun c0 => absurd c0 (by decide))
            refine lv_iload hx hb dX6_source_129 (lv_at hl 0 rfl) ?_
            refine xi_if_ne (tgt := 138) hx hb (by decide) dX6_source_131 (by decide) (fun c0 => absurd c0 (by decide)) (fun _ => ?_)
            refine lv_iload_n hx hb dX6_source_134 rfl (lv_at hl 5 rfl) ?_
            refine lv_goto (tgt := 161) hx hb dX6_source_135 (by decide) ?_
            refine xw_iast hx hb hK hP hD hS (by decide) 0 fg17_0 rfl (by omega) (by decide) dX6_source_161 (fun g21 H locs eg21 hP hS => ?_)
            have fg21_0 : g21 (64) = .inl (cI, 8, .inl (fsz)) := (congrFun eg21 (64)).trans ((va_up_ne _ _ (by decide)).trans fg17_1)
            have fg21_1 : g21 (62) = .inr (6, [.int (nI (2)), .int (nI (hf xa + hf xb + 0 + 0)), .ref (ad (63)), .ref (ad (64)), .ref (ad (65)), .ref (ad (66)), .int (nI (T)), .long (tp), .long (bt), .long (nu), .long (de), .int (sq), .ref (ad (67)), .ref (ad (68)), .ref (ad (69)), .ref (ad (70)), .ref (ad (71)), .ref (ad (72)), .ref (ad (73)), .ref (ad (74)), .ref (ad (75)), .ref (ad (76)), .ref (ad (77)), .ref (ad (78)), .ref (ad (79)), .ref (ad (80))]) := (congrFun eg21 (62)).trans ((va_up_ne _ _ (by decide)).trans fg17_w)
            have fg21_w : g21 (63) = .inl (cI, 4, .inl (upd (fw) (0) (xa))) := (congrFun eg21 (63)).trans (va_up_self _ _ _)
            have hfrg21 : ∀ j : Nat, j ≠ 62 → j ≠ 63 → j ≠ 64 → g21 j = g j := fun j h0 h1 h2 => (congrFun eg21 j).trans ((va_up_ne _ _ h1).trans (hfrg17 j h0 h1 h2))
            refine lv_iinc (v := nI (1)) (lv' := [(7, .int (nI (1))), (6, .int (nI (hf xa + hf xb + 0 + 0))), (8, .int (xb)), (0, .ref (ad (62))), (1, .int (nI (2))), (2, .int (xa)), (3, .int (xb)), (4, .int (xc)), (5, .int (xd))]) hx hb dX6_source_162 hl (k := 0) rfl (nI_add (0) 1) (by decide) rfl (fun ls hl => ?_)
            refine lv_goto (tgt := 107) hx hb dX6_source_165 (by decide) ?_
            refine lv_iload hx hb dX6_source_107 (lv_at hl 0 rfl) ?_
            refine lv_iconst (v := nI (4)) hx hb dX6_source_109 (by decide) ?_
            refine xi_icmp_ge (tgt := 168) hx hb (by decide) (by decide) dX6_source_110 (by decide) (fun c0 => absurd c0 (by decide)) (fun _ => ?_)
            refine lv_aload_n hx hb dX6_source_113 rfl (lv_at hl 3 rfl) ?_
            refine xw_get hx hb hts hin6 hown hK hP (by decide) fg21_1 rfl 2 (by decide) hf16 rfl rfl dX6_source_114 ?_
            refine lv_iload hx hb dX6_source_117 (lv_at hl 0 rfl) ?_
            refine lv_iload hx hb dX6_source_119 (lv_at hl 0 rfl) ?_
            refine lv_iload_n hx hb dX6_source_121 rfl (lv_at hl 4 rfl) ?_
            refine xi_icmp_lt (tgt := 129) hx hb (by decide) (by decide) dX6_source_122 (by decide) (fun _ => ?_) (fun c0 => absurd c0 (by decide))
            refine lv_iload hx hb dX6_source_129 (lv_at hl 0 rfl) ?_
            refine xi_if_ne (tgt := 138) hx hb (by decide) dX6_source_131 (by decide) (fun _ => ?_) (fun c0 => absurd c0 (by decide))
            refine lv_iload hx hb dX6_source_138 (lv_at hl 0 rfl) ?_
            refine lv_iconst (v := nI (1)) hx hb dX6_source_140 (by decide) ?_
            refine xi_icmp_ne (tgt := 148) hx hb (by decide) (by decide) dX6_source_141 (by decide) (fun c0 => absurd c0 (by decide)) (fun _ => ?_)
            refine lv_iload_n hx hb dX6_source_144 rfl (lv_at hl 6 rfl) ?_
            refine lv_goto (tgt := 161) hx hb dX6_source_145 (by decide) ?_
            refine xw_iast hx hb hK hP hD hS (by decide) 0 fg21_w rfl (by omega) (by decide) dX6_source_161 (fun g26 H locs eg26 hP hS => ?_)
            have fg26_0 : g26 (64) = .inl (cI, 8, .inl (fsz)) := (congrFun eg26 (64)).trans ((va_up_ne _ _ (by decide)).trans fg21_0)
            have fg26_1 : g26 (62) = .inr (6, [.int (nI (2)), .int (nI (hf xa + hf xb + 0 + 0)), .ref (ad (63)), .ref (ad (64)), .ref (ad (65)), .ref (ad (66)), .int (nI (T)), .long (tp), .long (bt), .long (nu), .long (de), .int (sq), .ref (ad (67)), .ref (ad (68)), .ref (ad (69)), .ref (ad (70)), .ref (ad (71)), .ref (ad (72)), .ref (ad (73)), .ref (ad (74)), .ref (ad (75)), .ref (ad (76)), .ref (ad (77)), .ref (ad (78)), .ref (ad (79)), .ref (ad (80))]) := (congrFun eg26 (62)).trans ((va_up_ne _ _ (by decide)).trans fg21_1)
            have fg26_w : g26 (63) = .inl (cI, 4, .inl (upd (upd (fw) (0) (xa)) (1) (xb))) := (congrFun eg26 (63)).trans (va_up_self _ _ _)
            have hfrg26 : ∀ j : Nat, j ≠ 62 → j ≠ 63 → j ≠ 64 → g26 j = g j := fun j h0 h1 h2 => (congrFun eg26 j).trans ((va_up_ne _ _ h1).trans (hfrg21 j h0 h1 h2))
            refine lv_iinc (v := nI (2)) (lv' := [(7, .int (nI (2))), (6, .int (nI (hf xa + hf xb + 0 + 0))), (8, .int (xb)), (0, .ref (ad (62))), (1, .int (nI (2))), (2, .int (xa)), (3, .int (xb)), (4, .int (xc)), (5, .int (xd))]) hx hb dX6_source_162 hl (k := 0) rfl (nI_add (1) 1) (by decide) rfl (fun ls hl => ?_)
            refine lv_goto (tgt := 107) hx hb dX6_source_165 (by decide) ?_
            refine lv_iload hx hb dX6_source_107 (lv_at hl 0 rfl) ?_
            refine lv_iconst (v := nI (4)) hx hb dX6_source_109 (by decide) ?_
            refine xi_icmp_ge (tgt := 168) hx hb (by decide) (by decide) dX6_source_110 (by decide) (fun c0 => absurd c0 (by decide)) (fun _ => ?_)
            refine lv_aload_n hx hb dX6_source_113 rfl (lv_at hl 3 rfl) ?_
            refine xw_get hx hb hts hin6 hown hK hP (by decide) fg26_1 rfl 2 (by decide) hf16 rfl rfl dX6_source_114 ?_
            refine lv_iload hx hb dX6_source_117 (lv_at hl 0 rfl) ?_
            refine lv_iload hx hb dX6_source_119 (lv_at hl 0 rfl) ?_
            refine lv_iload_n hx hb dX6_source_121 rfl (lv_at hl 4 rfl) ?_
            refine xi_icmp_lt (tgt := 129) hx hb (by decide) (by decide) dX6_source_122 (by decide) (fun c0 => absurd c0 (by decide)) (fun _ => ?_)
            refine lv_iconst (v := nI (0)) hx hb dX6_source_125 (by decide) ?_
            refine lv_goto (tgt := 161) hx hb dX6_source_126 (by decide) ?_
            refine xw_iast hx hb hK hP hD hS (by decide) 0 fg26_w rfl (by omega) (by decide) dX6_source_161 (fun g29 H locs eg29 hP hS => ?_)
            have fg29_0 : g29 (64) = .inl (cI, 8, .inl (fsz)) := (congrFun eg29 (64)).trans ((va_up_ne _ _ (by decide)).trans fg26_0)
            have fg29_1 : g29 (62) = .inr (6, [.int (nI (2)), .int (nI (hf xa + hf xb + 0 + 0)), .ref (ad (63)), .ref (ad (64)), .ref (ad (65)), .ref (ad (66)), .int (nI (T)), .long (tp), .long (bt), .long (nu), .long (de), .int (sq), .ref (ad (67)), .ref (ad (68)), .ref (ad (69)), .ref (ad (70)), .ref (ad (71)), .ref (ad (72)), .ref (ad (73)), .ref (ad (74)), .ref (ad (75)), .ref (ad (76)), .ref (ad (77)), .ref (ad (78)), .ref (ad (79)), .ref (ad (80))]) := (congrFun eg29 (62)).trans ((va_up_ne _ _ (by decide)).trans fg26_1)
            have fg29_w : g29 (63) = .inl (cI, 4, .inl (upd (upd (upd (fw) (0) (xa)) (1) (xb)) (2) (nI (0)))) := (congrFun eg29 (63)).trans (va_up_self _ _ _)
            have hfrg29 : ∀ j : Nat, j ≠ 62 → j ≠ 63 → j ≠ 64 → g29 j = g j := fun j h0 h1 h2 => (congrFun eg29 j).trans ((va_up_ne _ _ h1).trans (hfrg26 j h0 h1 h2))
            refine lv_iinc (v := nI (3)) (lv' := [(7, .int (nI (3))), (6, .int (nI (hf xa + hf xb + 0 + 0))), (8, .int (xb)), (0, .ref (ad (62))), (1, .int (nI (2))), (2, .int (xa)), (3, .int (xb)), (4, .int (xc)), (5, .int (xd))]) hx hb dX6_source_162 hl (k := 0) rfl (nI_add (2) 1) (by decide) rfl (fun ls hl => ?_)
            refine lv_goto (tgt := 107) hx hb dX6_source_165 (by decide) ?_
            refine lv_iload hx hb dX6_source_107 (lv_at hl 0 rfl) ?_
            refine lv_iconst (v := nI (4)) hx hb dX6_source_109 (by decide) ?_
            refine xi_icmp_ge (tgt := 168) hx hb (by decide) (by decide) dX6_source_110 (by decide) (fun c0 => absurd c0 (by decide)) (fun _ => ?_)
            refine lv_aload_n hx hb dX6_source_113 rfl (lv_at hl 3 rfl) ?_
            refine xw_get hx hb hts hin6 hown hK hP (by decide) fg29_1 rfl 2 (by decide) hf16 rfl rfl dX6_source_114 ?_
            refine lv_iload hx hb dX6_source_117 (lv_at hl 0 rfl) ?_
            refine lv_iload hx hb dX6_source_119 (lv_at hl 0 rfl) ?_
            refine lv_iload_n hx hb dX6_source_121 rfl (lv_at hl 4 rfl) ?_
            refine xi_icmp_lt (tgt := 129) hx hb (by decide) (by decide) dX6_source_122 (by decide) (fun c0 => absurd c0 (by decide)) (fun _ => ?_)
            refine lv_iconst (v := nI (0)) hx hb dX6_source_125 (by decide) ?_
            refine lv_goto (tgt := 161) hx hb dX6_source_126 (by decide) ?_
            refine xw_iast hx hb hK hP hD hS (by decide) 0 fg29_w rfl (by omega) (by decide) dX6_source_161 (fun g32 H locs eg32 hP hS => ?_)
            have fg32_0 : g32 (64) = .inl (cI, 8, .inl (fsz)) := (congrFun eg32 (64)).trans ((va_up_ne _ _ (by decide)).trans fg29_0)
            have fg32_1 : g32 (62) = .inr (6, [.int (nI (2)), .int (nI (hf xa + hf xb + 0 + 0)), .ref (ad (63)), .ref (ad (64)), .ref (ad (65)), .ref (ad (66)), .int (nI (T)), .long (tp), .long (bt), .long (nu), .long (de), .int (sq), .ref (ad (67)), .ref (ad (68)), .ref (ad (69)), .ref (ad (70)), .ref (ad (71)), .ref (ad (72)), .ref (ad (73)), .ref (ad (74)), .ref (ad (75)), .ref (ad (76)), .ref (ad (77)), .ref (ad (78)), .ref (ad (79)), .ref (ad (80))]) := (congrFun eg32 (62)).trans ((va_up_ne _ _ (by decide)).trans fg29_1)
            have fg32_w : g32 (63) = .inl (cI, 4, .inl (upd (upd (upd (upd (fw) (0) (xa)) (1) (xb)) (2) (nI (0))) (3) (nI (0)))) := (congrFun eg32 (63)).trans (va_up_self _ _ _)
            have hfrg32 : ∀ j : Nat, j ≠ 62 → j ≠ 63 → j ≠ 64 → g32 j = g j := fun j h0 h1 h2 => (congrFun eg32 j).trans ((va_up_ne _ _ h1).trans (hfrg29 j h0 h1 h2))
            refine lv_iinc (v := nI (4)) (lv' := [(7, .int (nI (4))), (6, .int (nI (hf xa + hf xb + 0 + 0))), (8, .int (xb)), (0, .ref (ad (62))), (1, .int (nI (2))), (2, .int (xa)), (3, .int (xb)), (4, .int (xc)), (5, .int (xd))]) hx hb dX6_source_162 hl (k := 0) rfl (nI_add (3) 1) (by decide) rfl (fun ls hl => ?_)
            refine lv_goto (tgt := 107) hx hb dX6_source_165 (by decide) ?_
            refine lv_iload hx hb dX6_source_107 (lv_at hl 0 rfl) ?_
            refine lv_iconst (v := nI (4)) hx hb dX6_source_109 (by decide) ?_
            refine xi_icmp_ge (tgt := 168) hx hb (by decide) (by decide) dX6_source_110 (by decide) (fun _ => ?_) (fun c0 => absurd c0 (by decide))
            refine lv_iconst (v := nI (0)) hx hb dX6_source_168 (by decide) ?_
            refine lv_istore (lv' := [(7, .int (nI (0))), (6, .int (nI (hf xa + hf xb + 0 + 0))), (8, .int (xb)), (0, .ref (ad (62))), (1, .int (nI (2))), (2, .int (xa)), (3, .int (xb)), (4, .int (xc)), (5, .int (xd))]) hx hb dX6_source_169 hl (by decide) rfl (fun ls hl => ?_)
            refine lv_iload hx hb dX6_source_171 (lv_at hl 0 rfl) ?_
            refine lv_bipush (v := nI (8)) hx hb dX6_source_173 (by decide) ?_
            refine xi_icmp_ge (tgt := 192) hx hb (by decide) (by decide) dX6_source_175 (by decide) (fun c0 => absurd c0 (by decide)) (fun _ => ?_)
            refine lv_aload_n hx hb dX6_source_178 rfl (lv_at hl 3 rfl) ?_
            refine xw_get hx hb hts hin6 hown hK hP (by decide) fg32_1 rfl 3 (by decide) hf20 rfl rfl dX6_source_179 ?_
            refine lv_iload hx hb dX6_source_182 (lv_at hl 0 rfl) ?_
            refine lv_iconst (v := nI (0)) hx hb dX6_source_184 (by decide) ?_
            refine xw_iast hx hb hK hP hD hS (by decide) 0 fg32_0 rfl (by omega) (by decide) dX6_source_185 (fun g35 H locs eg35 hP hS => ?_)
            have fg35_0 : g35 (62) = .inr (6, [.int (nI (2)), .int (nI (hf xa + hf xb + 0 + 0)), .ref (ad (63)), .ref (ad (64)), .ref (ad (65)), .ref (ad (66)), .int (nI (T)), .long (tp), .long (bt), .long (nu), .long (de), .int (sq), .ref (ad (67)), .ref (ad (68)), .ref (ad (69)), .ref (ad (70)), .ref (ad (71)), .ref (ad (72)), .ref (ad (73)), .ref (ad (74)), .ref (ad (75)), .ref (ad (76)), .ref (ad (77)), .ref (ad (78)), .ref (ad (79)), .ref (ad (80))]) := (congrFun eg35 (62)).trans ((va_up_ne _ _ (by decide)).trans fg32_1)
            have fg35_1 : g35 (63) = .inl (cI, 4, .inl (upd (upd (upd (upd (fw) (0) (xa)) (1) (xb)) (2) (nI (0))) (3) (nI (0)))) := (congrFun eg35 (63)).trans ((va_up_ne _ _ (by decide)).trans fg32_w)
            have fg35_w : g35 (64) = .inl (cI, 8, .inl (upd (fsz) (0) (nI (0)))) := (congrFun eg35 (64)).trans (va_up_self _ _ _)
            have hfrg35 : ∀ j : Nat, j ≠ 62 → j ≠ 63 → j ≠ 64 → g35 j = g j := fun j h0 h1 h2 => (congrFun eg35 j).trans ((va_up_ne _ _ h2).trans (hfrg32 j h0 h1 h2))
            refine lv_iinc (v := nI (1)) (lv' := [(7, .int (nI (1))), (6, .int (nI (hf xa + hf xb + 0 + 0))), (8, .int (xb)), (0, .ref (ad (62))), (1, .int (nI (2))), (2, .int (xa)), (3, .int (xb)), (4, .int (xc)), (5, .int (xd))]) hx hb dX6_source_186 hl (k := 0) rfl (nI_add (0) 1) (by decide) rfl (fun ls hl => ?_)
            refine lv_goto (tgt := 171) hx hb dX6_source_189 (by decide) ?_
            refine lv_iload hx hb dX6_source_171 (lv_at hl 0 rfl) ?_
            refine lv_bipush (v := nI (8)) hx hb dX6_source_173 (by decide) ?_
            refine xi_icmp_ge (tgt := 192) hx hb (by decide) (by decide) dX6_source_175 (by decide) (fun c0 => absurd c0 (by decide)) (fun _ => ?_)
            refine lv_aload_n hx hb dX6_source_178 rfl (lv_at hl 3 rfl) ?_
            refine xw_get hx hb hts hin6 hown hK hP (by decide) fg35_0 rfl 3 (by decide) hf20 rfl rfl dX6_source_179 ?_
            refine lv_iload hx hb dX6_source_182 (lv_at hl 0 rfl) ?_
            refine lv_iconst (v := nI (0)) hx hb dX6_source_184 (by decide) ?_
            refine xw_iast hx hb hK hP hD hS (by decide) 0 fg35_w rfl (by omega) (by decide) dX6_source_185 (fun g37 H locs eg37 hP hS => ?_)
            have fg37_0 : g37 (62) = .inr (6, [.int (nI (2)), .int (nI (hf xa + hf xb + 0 + 0)), .ref (ad (63)), .ref (ad (64)), .ref (ad (65)), .ref (ad (66)), .int (nI (T)), .long (tp), .long (bt), .long (nu), .long (de), .int (sq), .ref (ad (67)), .ref (ad (68)), .ref (ad (69)), .ref (ad (70)), .ref (ad (71)), .ref (ad (72)), .ref (ad (73)), .ref (ad (74)), .ref (ad (75)), .ref (ad (76)), .ref (ad (77)), .ref (ad (78)), .ref (ad (79)), .ref (ad (80))]) := (congrFun eg37 (62)).trans ((va_up_ne _ _ (by decide)).trans fg35_0)
            have fg37_1 : g37 (63) = .inl (cI, 4, .inl (upd (upd (upd (upd (fw) (0) (xa)) (1) (xb)) (2) (nI (0))) (3) (nI (0)))) := (congrFun eg37 (63)).trans ((va_up_ne _ _ (by decide)).trans fg35_1)
            have fg37_w : g37 (64) = .inl (cI, 8, .inl (upd (upd (fsz) (0) (nI (0))) (1) (nI (0)))) := (congrFun eg37 (64)).trans (va_up_self _ _ _)
            have hfrg37 : ∀ j : Nat, j ≠ 62 → j ≠ 63 → j ≠ 64 → g37 j = g j := fun j h0 h1 h2 => (congrFun eg37 j).trans ((va_up_ne _ _ h2).trans (hfrg35 j h0 h1 h2))
            refine lv_iinc (v := nI (2)) (lv' := [(7, .int (nI (2))), (6, .int (nI (hf xa + hf xb + 0 + 0))), (8, .int (xb)), (0, .ref (ad (62))), (1, .int (nI (2))), (2, .int (xa)), (3, .int (xb)), (4, .int (xc)), (5, .int (xd))]) hx hb dX6_source_186 hl (k := 0) rfl (nI_add (1) 1) (by decide) rfl (fun ls hl => ?_)
            refine lv_goto (tgt := 171) hx hb dX6_source_189 (by decide) ?_
            refine lv_iload hx hb dX6_source_171 (lv_at hl 0 rfl) ?_
            refine lv_bipush (v := nI (8)) hx hb dX6_source_173 (by decide) ?_
            refine xi_icmp_ge (tgt := 192) hx hb (by decide) (by decide) dX6_source_175 (by decide) (fun c0 => absurd c0 (by decide)) (fun _ => ?_)
            refine lv_aload_n hx hb dX6_source_178 rfl (lv_at hl 3 rfl) ?_
            refine xw_get hx hb hts hin6 hown hK hP (by decide) fg37_0 rfl 3 (by decide) hf20 rfl rfl dX6_source_179 ?_
            refine lv_iload hx hb dX6_source_182 (lv_at hl 0 rfl) ?_
            refine lv_iconst (v := nI (0)) hx hb dX6_source_184 (by decide) ?_
            refine xw_iast hx hb hK hP hD hS (by decide) 0 fg37_w rfl (by omega) (by decide) dX6_source_185 (fun g39 H locs eg39 hP hS => ?_)
            have fg39_0 : g39 (62) = .inr (6, [.int (nI (2)), .int (nI (hf xa + hf xb + 0 + 0)), .ref (ad (63)), .ref (ad (64)), .ref (ad (65)), .ref (ad (66)), .int (nI (T)), .long (tp), .long (bt), .long (nu), .long (de), .int (sq), .ref (ad (67)), .ref (ad (68)), .ref (ad (69)), .ref (ad (70)), .ref (ad (71)), .ref (ad (72)), .ref (ad (73)), .ref (ad (74)), .ref (ad (75)), .ref (ad (76)), .ref (ad (77)), .ref (ad (78)), .ref (ad (79)), .ref (ad (80))]) := (congrFun eg39 (62)).trans ((va_up_ne _ _ (by decide)).trans fg37_0)
            have fg39_1 : g39 (63) = .inl (cI, 4, .inl (upd (upd (upd (upd (fw) (0) (xa)) (1) (xb)) (2) (nI (0))) (3) (nI (0)))) := (congrFun eg39 (63)).trans ((va_up_ne _ _ (by decide)).trans fg37_1)
            have fg39_w : g39 (64) = .inl (cI, 8, .inl (upd (upd (upd (fsz) (0) (nI (0))) (1) (nI (0))) (2) (nI (0)))) := (congrFun eg39 (64)).trans (va_up_self _ _ _)
            have hfrg39 : ∀ j : Nat, j ≠ 62 → j ≠ 63 → j ≠ 64 → g39 j = g j := fun j h0 h1 h2 => (congrFun eg39 j).trans ((va_up_ne _ _ h2).trans (hfrg37 j h0 h1 h2))
            refine lv_iinc (v := nI (3)) (lv' := [(7, .int (nI (3))), (6, .int (nI (hf xa + hf xb + 0 + 0))), (8, .int (xb)), (0, .ref (ad (62))), (1, .int (nI (2))), (2, .int (xa)), (3, .int (xb)), (4, .int (xc)), (5, .int (xd))]) hx hb dX6_source_186 hl (k := 0) rfl (nI_add (2) 1) (by decide) rfl (fun ls hl => ?_)
            refine lv_goto (tgt := 171) hx hb dX6_source_189 (by decide) ?_
            refine lv_iload hx hb dX6_source_171 (lv_at hl 0 rfl) ?_
            refine lv_bipush (v := nI (8)) hx hb dX6_source_173 (by decide) ?_
            refine xi_icmp_ge (tgt := 192) hx hb (by decide) (by decide) dX6_source_175 (by decide) (fun c0 => absurd c0 (by decide)) (fun _ => ?_)
            refine lv_aload_n hx hb dX6_source_178 rfl (lv_at hl 3 rfl) ?_
            refine xw_get hx hb hts hin6 hown hK hP (by decide) fg39_0 rfl 3 (by decide) hf20 rfl rfl dX6_source_179 ?_
            refine lv_iload hx hb dX6_source_182 (lv_at hl 0 rfl) ?_
            refine lv_iconst (v := nI (0)) hx hb dX6_source_184 (by decide) ?_
            refine xw_iast hx hb hK hP hD hS (by decide) 0 fg39_w rfl (by omega) (by decide) dX6_source_185 (fun g41 H locs eg41 hP hS => ?_)
            have fg41_0 : g41 (62) = .inr (6, [.int (nI (2)), .int (nI (hf xa + hf xb + 0 + 0)), .ref (ad (63)), .ref (ad (64)), .ref (ad (65)), .ref (ad (66)), .int (nI (T)), .long (tp), .long (bt), .long (nu), .long (de), .int (sq), .ref (ad (67)), .ref (ad (68)), .ref (ad (69)), .ref (ad (70)), .ref (ad (71)), .ref (ad (72)), .ref (ad (73)), .ref (ad (74)), .ref (ad (75)), .ref (ad (76)), .ref (ad (77)), .ref (ad (78)), .ref (ad (79)), .ref (ad (80))]) := (congrFun eg41 (62)).trans ((va_up_ne _ _ (by decide)).trans fg39_0)
            have fg41_1 : g41 (63) = .inl (cI, 4, .inl (upd (upd (upd (upd (fw) (0) (xa)) (1) (xb)) (2) (nI (0))) (3) (nI (0)))) := (congrFun eg41 (63)).trans ((va_up_ne _ _ (by decide)).trans fg39_1)
            have fg41_w : g41 (64) = .inl (cI, 8, .inl (upd (upd (upd (upd (fsz) (0) (nI (0))) (1) (nI (0))) (2) (nI (0))) (3) (nI (0)))) := (congrFun eg41 (64)).trans (va_up_self _ _ _)
            have hfrg41 : ∀ j : Nat, j ≠ 62 → j ≠ 63 → j ≠ 64 → g41 j = g j := fun j h0 h1 h2 => (congrFun eg41 j).trans ((va_up_ne _ _ h2).trans (hfrg39 j h0 h1 h2))
            refine lv_iinc (v := nI (4)) (lv' := [(7, .int (nI (4))), (6, .int (nI (hf xa + hf xb + 0 + 0))), (8, .int (xb)), (0, .ref (ad (62))), (1, .int (nI (2))), (2, .int (xa)), (3, .int (xb)), (4, .int (xc)), (5, .int (xd))]) hx hb dX6_source_186 hl (k := 0) rfl (nI_add (3) 1) (by decide) rfl (fun ls hl => ?_)
            refine lv_goto (tgt := 171) hx hb dX6_source_189 (by decide) ?_
            refine lv_iload hx hb dX6_source_171 (lv_at hl 0 rfl) ?_
            refine lv_bipush (v := nI (8)) hx hb dX6_source_173 (by decide) ?_
            refine xi_icmp_ge (tgt := 192) hx hb (by decide) (by decide) dX6_source_175 (by decide) (fun c0 => absurd c0 (by decide)) (fun _ => ?_)
            refine lv_aload_n hx hb dX6_source_178 rfl (lv_at hl 3 rfl) ?_
            refine xw_get hx hb hts hin6 hown hK hP (by decide) fg41_0 rfl 3 (by decide) hf20 rfl rfl dX6_source_179 ?_
            refine lv_iload hx hb dX6_source_182 (lv_at hl 0 rfl) ?_
            refine lv_iconst (v := nI (0)) hx hb dX6_source_184 (by decide) ?_
            refine xw_iast hx hb hK hP hD hS (by decide) 0 fg41_w rfl (by omega) (by decide) dX6_source_185 (fun g43 H locs eg43 hP hS => ?_)
            have fg43_0 : g43 (62) = .inr (6, [.int (nI (2)), .int (nI (hf xa + hf xb + 0 + 0)), .ref (ad (63)), .ref (ad (64)), .ref (ad (65)), .ref (ad (66)), .int (nI (T)), .long (tp), .long (bt), .long (nu), .long (de), .int (sq), .ref (ad (67)), .ref (ad (68)), .ref (ad (69)), .ref (ad (70)), .ref (ad (71)), .ref (ad (72)), .ref (ad (73)), .ref (ad (74)), .ref (ad (75)), .ref (ad (76)), .ref (ad (77)), .ref (ad (78)), .ref (ad (79)), .ref (ad (80))]) := (congrFun eg43 (62)).trans ((va_up_ne _ _ (by decide)).trans fg41_0)
            have fg43_1 : g43 (63) = .inl (cI, 4, .inl (upd (upd (upd (upd (fw) (0) (xa)) (1) (xb)) (2) (nI (0))) (3) (nI (0)))) := (congrFun eg43 (63)).trans ((va_up_ne _ _ (by decide)).trans fg41_1)
            have fg43_w : g43 (64) = .inl (cI, 8, .inl (upd (upd (upd (upd (upd (fsz) (0) (nI (0))) (1) (nI (0))) (2) (nI (0))) (3) (nI (0))) (4) (nI (0)))) := (congrFun eg43 (64)).trans (va_up_self _ _ _)
            have hfrg43 : ∀ j : Nat, j ≠ 62 → j ≠ 63 → j ≠ 64 → g43 j = g j := fun j h0 h1 h2 => (congrFun eg43 j).trans ((va_up_ne _ _ h2).trans (hfrg41 j h0 h1 h2))
            refine lv_iinc (v := nI (5)) (lv' := [(7, .int (nI (5))), (6, .int (nI (hf xa + hf xb + 0 + 0))), (8, .int (xb)), (0, .ref (ad (62))), (1, .int (nI (2))), (2, .int (xa)), (3, .int (xb)), (4, .int (xc)), (5, .int (xd))]) hx hb dX6_source_186 hl (k := 0) rfl (nI_add (4) 1) (by decide) rfl (fun ls hl => ?_)
            refine lv_goto (tgt := 171) hx hb dX6_source_189 (by decide) ?_
            refine lv_iload hx hb dX6_source_171 (lv_at hl 0 rfl) ?_
            refine lv_bipush (v := nI (8)) hx hb dX6_source_173 (by decide) ?_
            refine xi_icmp_ge (tgt := 192) hx hb (by decide) (by decide) dX6_source_175 (by decide) (fun c0 => absurd c0 (by decide)) (fun _ => ?_)
            refine lv_aload_n hx hb dX6_source_178 rfl (lv_at hl 3 rfl) ?_
            refine xw_get hx hb hts hin6 hown hK hP (by decide) fg43_0 rfl 3 (by decide) hf20 rfl rfl dX6_source_179 ?_
            refine lv_iload hx hb dX6_source_182 (lv_at hl 0 rfl) ?_
            refine lv_iconst (v := nI (0)) hx hb dX6_source_184 (by decide) ?_
            refine xw_iast hx hb hK hP hD hS (by decide) 0 fg43_w rfl (by omega) (by decide) dX6_source_185 (fun g45 H locs eg45 hP hS => ?_)
            have fg45_0 : g45 (62) = .inr (6, [.int (nI (2)), .int (nI (hf xa + hf xb + 0 + 0)), .ref (ad (63)), .ref (ad (64)), .ref (ad (65)), .ref (ad (66)), .int (nI (T)), .long (tp), .long (bt), .long (nu), .long (de), .int (sq), .ref (ad (67)), .ref (ad (68)), .ref (ad (69)), .ref (ad (70)), .ref (ad (71)), .ref (ad (72)), .ref (ad (73)), .ref (ad (74)), .ref (ad (75)), .ref (ad (76)), .ref (ad (77)), .ref (ad (78)), .ref (ad (79)), .ref (ad (80))]) := (congrFun eg45 (62)).trans ((va_up_ne _ _ (by decide)).trans fg43_0)
            have fg45_1 : g45 (63) = .inl (cI, 4, .inl (upd (upd (upd (upd (fw) (0) (xa)) (1) (xb)) (2) (nI (0))) (3) (nI (0)))) := (congrFun eg45 (63)).trans ((va_up_ne _ _ (by decide)).trans fg43_1)
            have fg45_w : g45 (64) = .inl (cI, 8, .inl (upd (upd (upd (upd (upd (upd (fsz) (0) (nI (0))) (1) (nI (0))) (2) (nI (0))) (3) (nI (0))) (4) (nI (0))) (5) (nI (0)))) := (congrFun eg45 (64)).trans (va_up_self _ _ _)
            have hfrg45 : ∀ j : Nat, j ≠ 62 → j ≠ 63 → j ≠ 64 → g45 j = g j := fun j h0 h1 h2 => (congrFun eg45 j).trans ((va_up_ne _ _ h2).trans (hfrg43 j h0 h1 h2))
            refine lv_iinc (v := nI (6)) (lv' := [(7, .int (nI (6))), (6, .int (nI (hf xa + hf xb + 0 + 0))), (8, .int (xb)), (0, .ref (ad (62))), (1, .int (nI (2))), (2, .int (xa)), (3, .int (xb)), (4, .int (xc)), (5, .int (xd))]) hx hb dX6_source_186 hl (k := 0) rfl (nI_add (5) 1) (by decide) rfl (fun ls hl => ?_)
            refine lv_goto (tgt := 171) hx hb dX6_source_189 (by decide) ?_
            refine lv_iload hx hb dX6_source_171 (lv_at hl 0 rfl) ?_
            refine lv_bipush (v := nI (8)) hx hb dX6_source_173 (by decide) ?_
            refine xi_icmp_ge (tgt := 192) hx hb (by decide) (by decide) dX6_source_175 (by decide) (fun c0 => absurd c0 (by decide)) (fun _ => ?_)
            refine lv_aload_n hx hb dX6_source_178 rfl (lv_at hl 3 rfl) ?_
            refine xw_get hx hb hts hin6 hown hK hP (by decide) fg45_0 rfl 3 (by decide) hf20 rfl rfl dX6_source_179 ?_
            refine lv_iload hx hb dX6_source_182 (lv_at hl 0 rfl) ?_
            refine lv_iconst (v := nI (0)) hx hb dX6_source_184 (by decide) ?_
            refine xw_iast hx hb hK hP hD hS (by decide) 0 fg45_w rfl (by omega) (by decide) dX6_source_185 (fun g47 H locs eg47 hP hS => ?_)
            have fg47_0 : g47 (62) = .inr (6, [.int (nI (2)), .int (nI (hf xa + hf xb + 0 + 0)), .ref (ad (63)), .ref (ad (64)), .ref (ad (65)), .ref (ad (66)), .int (nI (T)), .long (tp), .long (bt), .long (nu), .long (de), .int (sq), .ref (ad (67)), .ref (ad (68)), .ref (ad (69)), .ref (ad (70)), .ref (ad (71)), .ref (ad (72)), .ref (ad (73)), .ref (ad (74)), .ref (ad (75)), .ref (ad (76)), .ref (ad (77)), .ref (ad (78)), .ref (ad (79)), .ref (ad (80))]) := (congrFun eg47 (62)).trans ((va_up_ne _ _ (by decide)).trans fg45_0)
            have fg47_1 : g47 (63) = .inl (cI, 4, .inl (upd (upd (upd (upd (fw) (0) (xa)) (1) (xb)) (2) (nI (0))) (3) (nI (0)))) := (congrFun eg47 (63)).trans ((va_up_ne _ _ (by decide)).trans fg45_1)
            have fg47_w : g47 (64) = .inl (cI, 8, .inl (upd (upd (upd (upd (upd (upd (upd (fsz) (0) (nI (0))) (1) (nI (0))) (2) (nI (0))) (3) (nI (0))) (4) (nI (0))) (5) (nI (0))) (6) (nI (0)))) := (congrFun eg47 (64)).trans (va_up_self _ _ _)
            have hfrg47 : ∀ j : Nat, j ≠ 62 → j ≠ 63 → j ≠ 64 → g47 j = g j := fun j h0 h1 h2 => (congrFun eg47 j).trans ((va_up_ne _ _ h2).trans (hfrg45 j h0 h1 h2))
            refine lv_iinc (v := nI (7)) (lv' := [(7, .int (nI (7))), (6, .int (nI (hf xa + hf xb + 0 + 0))), (8, .int (xb)), (0, .ref (ad (62))), (1, .int (nI (2))), (2, .int (xa)), (3, .int (xb)), (4, .int (xc)), (5, .int (xd))]) hx hb dX6_source_186 hl (k := 0) rfl (nI_add (6) 1) (by decide) rfl (fun ls hl => ?_)
            refine lv_goto (tgt := 171) hx hb dX6_source_189 (by decide) ?_
            refine lv_iload hx hb dX6_source_171 (lv_at hl 0 rfl) ?_
            refine lv_bipush (v := nI (8)) hx hb dX6_source_173 (by decide) ?_
            refine xi_icmp_ge (tgt := 192) hx hb (by decide) (by decide) dX6_source_175 (by decide) (fun c0 => absurd c0 (by decide)) (fun _ => ?_)
            refine lv_aload_n hx hb dX6_source_178 rfl (lv_at hl 3 rfl) ?_
            refine xw_get hx hb hts hin6 hown hK hP (by decide) fg47_0 rfl 3 (by decide) hf20 rfl rfl dX6_source_179 ?_
            refine lv_iload hx hb dX6_source_182 (lv_at hl 0 rfl) ?_
            refine lv_iconst (v := nI (0)) hx hb dX6_source_184 (by decide) ?_
            refine xw_iast hx hb hK hP hD hS (by decide) 0 fg47_w rfl (by omega) (by decide) dX6_source_185 (fun g49 H locs eg49 hP hS => ?_)
            have fg49_0 : g49 (62) = .inr (6, [.int (nI (2)), .int (nI (hf xa + hf xb + 0 + 0)), .ref (ad (63)), .ref (ad (64)), .ref (ad (65)), .ref (ad (66)), .int (nI (T)), .long (tp), .long (bt), .long (nu), .long (de), .int (sq), .ref (ad (67)), .ref (ad (68)), .ref (ad (69)), .ref (ad (70)), .ref (ad (71)), .ref (ad (72)), .ref (ad (73)), .ref (ad (74)), .ref (ad (75)), .ref (ad (76)), .ref (ad (77)), .ref (ad (78)), .ref (ad (79)), .ref (ad (80))]) := (congrFun eg49 (62)).trans ((va_up_ne _ _ (by decide)).trans fg47_0)
            have fg49_1 : g49 (63) = .inl (cI, 4, .inl (upd (upd (upd (upd (fw) (0) (xa)) (1) (xb)) (2) (nI (0))) (3) (nI (0)))) := (congrFun eg49 (63)).trans ((va_up_ne _ _ (by decide)).trans fg47_1)
            have fg49_w : g49 (64) = .inl (cI, 8, .inl (upd (upd (upd (upd (upd (upd (upd (upd (fsz) (0) (nI (0))) (1) (nI (0))) (2) (nI (0))) (3) (nI (0))) (4) (nI (0))) (5) (nI (0))) (6) (nI (0))) (7) (nI (0)))) := (congrFun eg49 (64)).trans (va_up_self _ _ _)
            have hfrg49 : ∀ j : Nat, j ≠ 62 → j ≠ 63 → j ≠ 64 → g49 j = g j := fun j h0 h1 h2 => (congrFun eg49 j).trans ((va_up_ne _ _ h2).trans (hfrg47 j h0 h1 h2))
            refine lv_iinc (v := nI (8)) (lv' := [(7, .int (nI (8))), (6, .int (nI (hf xa + hf xb + 0 + 0))), (8, .int (xb)), (0, .ref (ad (62))), (1, .int (nI (2))), (2, .int (xa)), (3, .int (xb)), (4, .int (xc)), (5, .int (xd))]) hx hb dX6_source_186 hl (k := 0) rfl (nI_add (7) 1) (by decide) rfl (fun ls hl => ?_)
            refine lv_goto (tgt := 171) hx hb dX6_source_189 (by decide) ?_
            refine lv_iload hx hb dX6_source_171 (lv_at hl 0 rfl) ?_
            refine lv_bipush (v := nI (8)) hx hb dX6_source_173 (by decide) ?_
            refine xi_icmp_ge (tgt := 192) hx hb (by decide) (by decide) dX6_source_175 (by decide) (fun _ => ?_) (fun c0 => absurd c0 (by decide))
            refine lv_aload_n hx hb dX6_source_192 rfl (lv_at hl 3 rfl) ?_
            refine lv_iconst (v := nI (0)) hx hb dX6_source_193 (by decide) ?_
            refine xw_put hx hb hts hin6 tyX6 tyX6_ok nmX6 hown hK hP hD hS (by decide) fg49_0 rfl 6 (by decide) hf76 rfl rfl (ty := .int) (by decide +kernel) rfl rfl (Nat.le_of_ble_eq_true rfl) (fs' := [.int (nI (2)), .int (nI (hf xa + hf xb + 0 + 0)), .ref (ad (63)), .ref (ad (64)), .ref (ad (65)), .ref (ad (66)), .int (nI (0)), .long (tp), .long (bt), .long (nu), .long (de), .int (sq), .ref (ad (67)), .ref (ad (68)), .ref (ad (69)), .ref (ad (70)), .ref (ad (71)), .ref (ad (72)), .ref (ad (73)), .ref (ad (74)), .ref (ad (75)), .ref (ad (76)), .ref (ad (77)), .ref (ad (78)), .ref (ad (79)), .ref (ad (80))]) rfl dX6_source_194 (fun g51 H locs eg51 hP hS => ?_)
            have fg51_0 : g51 (63) = .inl (cI, 4, .inl (upd (upd (upd (upd (fw) (0) (xa)) (1) (xb)) (2) (nI (0))) (3) (nI (0)))) := (congrFun eg51 (63)).trans ((va_up_ne _ _ (by decide)).trans fg49_1)
            have fg51_1 : g51 (64) = .inl (cI, 8, .inl (upd (upd (upd (upd (upd (upd (upd (upd (fsz) (0) (nI (0))) (1) (nI (0))) (2) (nI (0))) (3) (nI (0))) (4) (nI (0))) (5) (nI (0))) (6) (nI (0))) (7) (nI (0)))) := (congrFun eg51 (64)).trans ((va_up_ne _ _ (by decide)).trans fg49_w)
            have fg51_w : g51 (62) = .inr (6, [.int (nI (2)), .int (nI (hf xa + hf xb + 0 + 0)), .ref (ad (63)), .ref (ad (64)), .ref (ad (65)), .ref (ad (66)), .int (nI (0)), .long (tp), .long (bt), .long (nu), .long (de), .int (sq), .ref (ad (67)), .ref (ad (68)), .ref (ad (69)), .ref (ad (70)), .ref (ad (71)), .ref (ad (72)), .ref (ad (73)), .ref (ad (74)), .ref (ad (75)), .ref (ad (76)), .ref (ad (77)), .ref (ad (78)), .ref (ad (79)), .ref (ad (80))]) := (congrFun eg51 (62)).trans (va_up_self _ _ _)
            have hfrg51 : ∀ j : Nat, j ≠ 62 → j ≠ 63 → j ≠ 64 → g51 j = g j := fun j h0 h1 h2 => (congrFun eg51 j).trans ((va_up_ne _ _ h0).trans (hfrg49 j h0 h1 h2))
            refine lv_aload_n hx hb dX6_source_197 rfl (lv_at hl 3 rfl) ?_
            refine xw_get hx hb hts hin6 hown hK hP (by decide) fg51_w rfl 1 (by decide) hf13 rfl rfl dX6_source_198 ?_
            exact W.iret (v := nI (hf xa + hf xb + 0 + 0)) hx hb hr (fun tZ ht hW => ⟨⟨_, g51, rfl, Or.inl ⟨rfl, c88_15, ⟨_, _, _, _, _, _, _, _, _, _, _, _, _, _, _, _, _, _, _, _, _, fg51_w, fg51_0, fg51_1, ((hfrg51) 65 (by decide) (by decide) (by decide)).trans fa65, ((hfrg51) 66 (by decide) (by decide) (by decide)).trans fa66, ((hfrg51) 67 (by decide) (by decide) (by decide)).trans fa67, ((hfrg51) 68 (by decide) (by decide) (by decide)).trans fa68, ((hfrg51) 69 (by decide) (by decide) (by decide)).trans fa69, ((hfrg51) 70 (by decide) (by decide) (by decide)).trans fa70, ((hfrg51) 71 (by decide) (by decide) (by decide)).trans fa71, ((hfrg51) 72 (by decide) (by decide) (by decide)).trans fa72, ((hfrg51) 73 (by decide) (by decide) (by decide)).trans fa73, ((hfrg51) 74 (by decide) (by decide) (by decide)).trans fa74, ((hfrg51) 75 (by decide) (by decide) (by decide)).trans fa75, ((hfrg51) 76 (by decide) (by decide) (by decide)).trans fa76, ((hfrg51) 77 (by decide) (by decide) (by decide)).trans fa77, ((hfrg51) 78 (by decide) (by decide) (by decide)).trans fa78, ((hfrg51) 79 (by decide) (by decide) (by decide)).trans fa79, ((hfrg51) 80 (by decide) (by decide) (by decide)).trans fa80, (wt4_ok exa exb rfl rfl), sz8, (fun k j _ hj => absurd hj (Nat.not_lt_zero j)), (fun j hj => absurd hj (by omega))⟩, fun j hj => (hfrg51) j (by omega) (by omega) (by omega)⟩, by rw [ht]; exact hP, va_K.moved hW.alike hK, va_Nw.warmM hW hN⟩, hS.F ht⟩) hS.2.2 dX6_source_201
          · refine lv_iconst (v := (-1)) hx hb dX6_source_91 (by decide) ?_
            exact W.iret (v := (-1)) hx hb hr (fun tZ ht hW => ⟨⟨_, g, rfl, Or.inr ⟨rfl, by have h9 := c88_15; omega, hM, fun _ _ => rfl⟩, by rw [ht]; exact hP, va_K.moved hW.alike hK, va_Nw.warmM hW hN⟩, hS.F ht⟩) hS.2.2 dX6_source_92
        · refine lv_iconst (v := (-1)) hx hb dX6_source_70 (by decide) ?_
          exact W.iret (v := (-1)) hx hb hr (fun tZ ht hW => ⟨⟨_, g, rfl, Or.inr ⟨rfl, by have a1 := hf_1 xa; have a2 := hf_1 xb; have a3 := hf_1 xc; have a4 := hf_1 xd; have a5 := hf_no (x := xb) (Or.inr (Int32.not_le.mp c67_12)); omega, hM, fun _ _ => rfl⟩, by rw [ht]; exact hP, va_K.moved hW.alike hK, va_Nw.warmM hW hN⟩, hS.F ht⟩) hS.2.2 dX6_source_71
    · refine lv_iconst (v := (-1)) hx hb dX6_source_70 (by decide) ?_
      exact W.iret (v := (-1)) hx hb hr (fun tZ ht hW => ⟨⟨_, g, rfl, Or.inr ⟨rfl, by have a1 := hf_1 xa; have a2 := hf_1 xb; have a3 := hf_1 xc; have a4 := hf_1 xd; have a5 := hf_no (x := xa) (Or.inr (Int32.not_le.mp c67_6)); omega, hM, fun _ _ => rfl⟩, by rw [ht]; exact hP, va_K.moved hW.alike hK, va_Nw.warmM hW hN⟩, hS.F ht⟩) hS.2.2 dX6_source_71

set_option maxHeartbeats 4000000 in
set_option maxRecDepth 100000 in
theorem mX6_source3 (l : Launch) {D : va_G} {cI cJ cZ cW : ClassId} {ad : Nat → Nat} {A : Nat → Prop} (hD : ∀ g, va_D A (xw 81 ad g)) {g : Nat → va_E} {q Wt : Nat} {w : Nat → Nat} {ln : Nat → Nat} {u : Nat → Nat → Nat} {T : Nat} {t : Nat → Nat} {tp bt : Int64} {xa xb xc xd : Int32}  (hM : ModI cI cJ ad g q Wt w ln u T t tp bt) (hs : SrcI q Wt w ln u T t) : Met l yX6_source wsX6_source ({ frames := 0, cells := 0, slots := 0, locals := 0 }) (va_Pc [.ref (ad (62)), .int (nI (3)), .int (xa), .int (xb), .int (xc), .int (xd)] (xB D (xT cI cJ cZ cW) ad g)) (va_Qi (fun r g2 => (r = nI (hf xa + hf xb + hf xc + 0) ∧ hf xa + hf xb + hf xc + 0 ≤ 4 ∧ ModI cI cJ ad g2 3 (hf xa + hf xb + hf xc + 0) (wt4 (hf xa) (hf xb) (hf xc) (0)) (fun _ => 0) u 0 t tp bt ∧ ∀ j : Nat, j < 62 → g2 j = g j) ∨ (r = -1 ∧ 4 < hf xa + hf xb + hf xc + 0 ∧ ModI cI cJ ad g2 q Wt w ln u T t tp bt ∧ ∀ j : Nat, j < 62 → g2 j = g j)) (xB D (xT cI cJ cZ cW) ad) A) 0 0 A := by
  refine Met.ofW (cc := cX6_source) (maxL := 9) (ret := (some .int)) (by decide) rfl ?_
  intro p e s m args below meth c s₁ B hml hv
  obtain ⟨rfl, hP, hK, hN⟩ := hv
  have hx := B.exec
  have hb := B.bytes
  have hr := B.returns
  have hts := atoms_spec (ws := wsX6_source) B.pre
  have hown : s.vm.findClass RX6 = some m.cls := findClass_of_methodNamed B.named
  have hlocks := B.notSynchronized
  have hS : va_S A s.heap s.heap [] := va_S.rf
  have hin6 : ∀ w ∈ wsX60, w ∈ wsX6_source := by decide +kernel
  have hf7 := hts (.fieldLink RX6 7 "LettersByLotModel" "q" "I") (by decide +kernel)
  have hf13 := hts (.fieldLink RX6 13 "LettersByLotModel" "all" "I") (by decide +kernel)
  have hf16 := hts (.fieldLink RX6 16 "LettersByLotModel" "weight" "[I") (by decide +kernel)
  have hf20 := hts (.fieldLink RX6 20 "LettersByLotModel" "size" "[I") (by decide +kernel)
  have hf76 := hts (.fieldLink RX6 76 "LettersByLotModel" "written" "I") (by decide +kernel)
  have hl := lv_entry ([.ref (ad (62)), .int (nI (3)), .int (xa), .int (xb), .int (xc), .int (xd)]) (n := 9) (Nat.le_of_ble_eq_true rfl)
  rw [lg_entry_eq]
  generalize (lg_sl ([.ref (ad (62)), .int (nI (3)), .int (xa), .int (xb), .int (xc), .int (xd)]) ++ List.replicate (9 - (lg_sl ([.ref (ad (62)), .int (nI (3)), .int (xa), .int (xb), .int (xc), .int (xd)])).length) Slot.unset).toArray = ls at hl ⊢
  have hl : lv_has ls 9 [(0, .ref (ad (62))), (1, .int (nI (3))), (2, .int (xa)), (3, .int (xb)), (4, .int (xc)), (5, .int (xd))] := hl
  obtain ⟨hq2, hq4, hw1, hw0, hWs, hWt, hw, hln, hul, hT, ht⟩ := hs
  obtain ⟨sq, nu, de, fw, fsz, fwd, ftx, fos, foz, fgo, frw, fan, fad, frn, frd, fen, fed, fcn, fcd, fnw, fth, fo62, fa63, fa64, fa65, fa66, fa67, fa68, fa69, fa70, fa71, fa72, fa73, fa74, fa75, fa76, fa77, fa78, fa79, fa80, hfw, hsz, hwl, htx⟩ := id hM
  have hWp : 1 ≤ Wt ∧ Wt ≤ 4 := by have h8 := hw1 0 (by omega); have h9 := wsum_mono (w := w) (show 1 ≤ q by omega); have h7 : wsum w 1 = 0 + w 0 := rfl; omega
  refine lv_iload_n hx hb dX6_source_0 rfl (lv_at hl 1 rfl) ?_
  refine lv_iconst (v := nI (2)) hx hb dX6_source_1 (by decide) ?_
  refine xi_icmp_lt (tgt := 10) hx hb (by decide) (by decide) dX6_source_2 (by decide) (fun c0 => absurd c0 (by decide)) (fun _ => ?_)
  refine lv_iload_n hx hb dX6_source_5 rfl (lv_at hl 1 rfl) ?_
  refine lv_iconst (v := nI (4)) hx hb dX6_source_6 (by decide) ?_
  refine xi_icmp_le (tgt := 12) hx hb (by decide) (by decide) dX6_source_7 (by decide) (fun _ => ?_) (fun c0 => absurd c0 (by decide))
  refine lv_iconst (v := nI (0)) hx hb dX6_source_12 (by decide) ?_
  refine lv_istore (lv' := [(6, .int (nI (0))), (0, .ref (ad (62))), (1, .int (nI (3))), (2, .int (xa)), (3, .int (xb)), (4, .int (xc)), (5, .int (xd))]) hx hb dX6_source_13 hl (by decide) rfl (fun ls hl => ?_)
  refine lv_iconst (v := nI (0)) hx hb dX6_source_15 (by decide) ?_
  refine lv_istore (lv' := [(7, .int (nI (0))), (6, .int (nI (0))), (0, .ref (ad (62))), (1, .int (nI (3))), (2, .int (xa)), (3, .int (xb)), (4, .int (xc)), (5, .int (xd))]) hx hb dX6_source_16 hl (by decide) rfl (fun ls hl => ?_)
  refine lv_iload hx hb dX6_source_18 (lv_at hl 0 rfl) ?_
  refine lv_iload_n hx hb dX6_source_20 rfl (lv_at hl 3 rfl) ?_
  refine xi_icmp_ge (tgt := 85) hx hb (by decide) (by decide) dX6_source_21 (by decide) (fun c0 => absurd c0 (by decide)) (fun _ => ?_)
  refine lv_iload hx hb dX6_source_24 (lv_at hl 0 rfl) ?_
  refine xi_if_ne (tgt := 33) hx hb (by decide) dX6_source_26 (by decide) (fun c0 => absurd c0 (by decide)) (fun _ => ?_)
  refine lv_iload_n hx hb dX6_source_29 rfl (lv_at hl 4 rfl) ?_
  refine lv_goto (tgt := 56) hx hb dX6_source_30 (by decide) ?_
  refine lv_istore (lv' := [(8, .int (xa)), (7, .int (nI (0))), (6, .int (nI (0))), (0, .ref (ad (62))), (1, .int (nI (3))), (2, .int (xa)), (3, .int (xb)), (4, .int (xc)), (5, .int (xd))]) hx hb dX6_source_56 hl (by decide) rfl (fun ls hl => ?_)
  refine lv_iload hx hb dX6_source_58 (lv_at hl 0 rfl) ?_
  refine lv_iconst (v := nI (1)) hx hb dX6_source_60 (by decide) ?_
  refine lv_icmp_lt (tgt := 70) hx hb dX6_source_61 (by decide) (fun c61_5 => ?_) (fun c61_5 => ?_)
  · refine lv_iconst (v := (-1)) hx hb dX6_source_70 (by decide) ?_
    exact W.iret (v := (-1)) hx hb hr (fun tZ ht hW => ⟨⟨_, g, rfl, Or.inr ⟨rfl, by have a1 := hf_1 xa; have a2 := hf_1 xb; have a3 := hf_1 xc; have a4 := hf_1 xd; have a5 := hf_no (x := xa) (Or.inl c61_5); omega, hM, fun _ _ => rfl⟩, by rw [ht]; exact hP, va_K.moved hW.alike hK, va_Nw.warmM hW hN⟩, hS.F ht⟩) hS.2.2 dX6_source_71
  · refine lv_iload hx hb dX6_source_64 (lv_at hl 0 rfl) ?_
    refine lv_iconst (v := nI (4)) hx hb dX6_source_66 (by decide) ?_
    refine lv_icmp_le (tgt := 72) hx hb dX6_source_67 (by decide) (fun c67_6 => ?_) (fun c67_6 => ?_)
    · have exa := hf_yes c61_5 (Int32.not_lt.mpr c67_6)
      refine lv_iload hx hb dX6_source_72 (lv_at hl 2 rfl) ?_
      refine lv_iload hx hb dX6_source_74 (lv_at hl 0 rfl) ?_
      refine lv_iadd hx hb dX6_source_76 ?_
      refine xtopi (y := nI (hf xa)) ((hf_add exa).trans (congrArg nI (Nat.zero_add _))) ?_
      refine lv_istore (lv' := [(6, .int (nI (hf xa))), (8, .int (xa)), (7, .int (nI (0))), (0, .ref (ad (62))), (1, .int (nI (3))), (2, .int (xa)), (3, .int (xb)), (4, .int (xc)), (5, .int (xd))]) hx hb dX6_source_77 hl (by decide) rfl (fun ls hl => ?_)
      refine lv_iinc (v := nI (1)) (lv' := [(7, .int (nI (1))), (6, .int (nI (hf xa))), (8, .int (xa)), (0, .ref (ad (62))), (1, .int (nI (3))), (2, .int (xa)), (3, .int (xb)), (4, .int (xc)), (5, .int (xd))]) hx hb dX6_source_79 hl (k := 2) rfl (nI_add (0) 1) (by decide) rfl (fun ls hl => ?_)
      refine lv_goto (tgt := 18) hx hb dX6_source_82 (by decide) ?_
      refine lv_iload hx hb dX6_source_18 (lv_at hl 0 rfl) ?_
      refine lv_iload_n hx hb dX6_source_20 rfl (lv_at hl 4 rfl) ?_
      refine xi_icmp_ge (tgt := 85) hx hb (by decide) (by decide) dX6_source_21 (by decide) (fun c0 => absurd c0 (by decide)) (fun _ => ?_)
      refine lv_iload hx hb dX6_source_24 (lv_at hl 0 rfl) ?_
      refine xi_if_ne (tgt := 33) hx hb (by decide) dX6_source_26 (by decide) (fun _ => ?_) (fun c0 => absurd c0 (by decide))
      refine lv_iload hx hb dX6_source_33 (lv_at hl 0 rfl) ?_
      refine lv_iconst (v := nI (1)) hx hb dX6_source_35 (by decide) ?_
      refine xi_icmp_ne (tgt := 43) hx hb (by decide) (by decide) dX6_source_36 (by decide) (fun c0 => absurd c0 (by decide)) (fun _ => ?_)
      refine lv_iload_n hx hb dX6_source_39 rfl (lv_at hl 6 rfl) ?_
      refine lv_goto (tgt := 56) hx hb dX6_source_40 (by decide) ?_
      refine lv_istore (lv' := [(8, .int (xb)), (7, .int (nI (1))), (6, .int (nI (hf xa))), (0, .ref (ad (62))), (1, .int (nI (3))), (2, .int (xa)), (3, .int (xb)), (4, .int (xc)), (5, .int (xd))]) hx hb dX6_source_56 hl (by decide) rfl (fun ls hl => ?_)
      refine lv_iload hx hb dX6_source_58 (lv_at hl 0 rfl) ?_
      refine lv_iconst (v := nI (1)) hx hb dX6_source_60 (by decide) ?_
      refine lv_icmp_lt (tgt := 70) hx hb dX6_source_61 (by decide) (fun c61_11 => ?_) (fun c61_11 => ?_)
      · refine lv_iconst (v := (-1)) hx hb dX6_source_70 (by decide) ?_
        exact W.iret (v := (-1)) hx hb hr (fun tZ ht hW => ⟨⟨_, g, rfl, Or.inr ⟨rfl, by have a1 := hf_1 xa; have a2 := hf_1 xb; have a3 := hf_1 xc; have a4 := hf_1 xd; have a5 := hf_no (x := xb) (Or.inl c61_11); omega, hM, fun _ _ => rfl⟩, by rw [ht]; exact hP, va_K.moved hW.alike hK, va_Nw.warmM hW hN⟩, hS.F ht⟩) hS.2.2 dX6_source_71
      · refine lv_iload hx hb dX6_source_64 (lv_at hl 0 rfl) ?_
        refine lv_iconst (v := nI (4)) hx hb dX6_source_66 (by decide) ?_
        refine lv_icmp_le (tgt := 72) hx hb dX6_source_67 (by decide) (fun c67_12 => ?_) (fun c67_12 => ?_)
        · have exb := hf_yes c61_11 (Int32.not_lt.mpr c67_12)
          refine lv_iload hx hb dX6_source_72 (lv_at hl 2 rfl) ?_
          refine lv_iload hx hb dX6_source_74 (lv_at hl 0 rfl) ?_
          refine lv_iadd hx hb dX6_source_76 ?_
          refine xtopi (y := nI (hf xa + hf xb)) (hf_add exb) ?_
          refine lv_istore (lv' := [(6, .int (nI (hf xa + hf xb))), (8, .int (xb)), (7, .int (nI (1))), (0, .ref (ad (62))), (1, .int (nI (3))), (2, .int (xa)), (3, .int (xb)), (4, .int (xc)), (5, .int (xd))]) hx hb dX6_source_77 hl (by decide) rfl (fun ls hl => ?_)
          refine lv_iinc (v := nI (2)) (lv' := [(7, .int (nI (2))), (6, .int (nI (hf xa + hf xb))), (8, .int (xb)), (0, .ref (ad (62))), (1, .int (nI (3))), (2, .int (xa)), (3, .int (xb)), (4, .int (xc)), (5, .int (xd))]) hx hb dX6_source_79 hl (k := 2) rfl (nI_add (1) 1) (by decide) rfl (fun ls hl => ?_)
          refine lv_goto (tgt := 18) hx hb dX6_source_82 (by decide) ?_
          refine lv_iload hx hb dX6_source_18 (lv_at hl 0 rfl) ?_
          refine lv_iload_n hx hb dX6_source_20 rfl (lv_at hl 4 rfl) ?_
          refine xi_icmp_ge (tgt := 85) hx hb (by decide) (by decide) dX6_source_21 (by decide) (fun c0 => absurd c0 (by decide)) (fun _ => ?_)
          refine lv_iload hx hb dX6_source_24 (lv_at hl 0 rfl) ?_
          refine xi_if_ne (tgt := 33) hx hb (by decide) dX6_source_26 (by decide) (fun _ => ?_) (fun c0 => absurd c0 (by decide))
          refine lv_iload hx hb dX6_source_33 (lv_at hl 0 rfl) ?_
          refine lv_iconst (v := nI (1)) hx hb dX6_source_35 (by decide) ?_
          refine xi_icmp_ne (tgt := 43) hx hb (by decide) (by decide) dX6_source_36 (by decide) (fun _ => ?_) (fun c0 => absurd c0 (by decide))
          refine lv_iload hx hb dX6_source_43 (lv_at hl 0 rfl) ?_
          refine lv_iconst (v := nI (2)) hx hb dX6_source_45 (by decide) ?_
          refine xi_icmp_ne (tgt := 54) hx hb (by decide) (by decide) dX6_source_46 (by decide) (fun c0 => absurd c0 (by decide)) (fun _ => ?_)
          refine lv_iload hx hb dX6_source_49 (lv_at hl 7 rfl) ?_
          refine lv_goto (tgt := 56) hx hb dX6_source_51 (by decide) ?_
          refine lv_istore (lv' := [(8, .int (xc)), (7, .int (nI (2))), (6, .int (nI (hf xa + hf xb))), (0, .ref (ad (62))), (1, .int (nI (3))), (2, .int (xa)), (3, .int (xb)), (4, .int (xc)), (5, .int (xd))]) hx hb dX6_source_56 hl (by decide) rfl (fun ls hl => ?_)
          refine lv_iload hx hb dX6_source_58 (lv_at hl 0 rfl) ?_
          refine lv_iconst (v := nI (1)) hx hb dX6_source_60 (by decide) ?_
          refine lv_icmp_lt (tgt := 70) hx hb dX6_source_61 (by decide) (fun c61_18 => ?_) (fun c61_18 => ?_)
          · refine lv_iconst (v := (-1)) hx hb dX6_source_70 (by decide) ?_
            exact W.iret (v := (-1)) hx hb hr (fun tZ ht hW => ⟨⟨_, g, rfl, Or.inr ⟨rfl, by have a1 := hf_1 xa; have a2 := hf_1 xb; have a3 := hf_1 xc; have a4 := hf_1 xd; have a5 := hf_no (x := xc) (Or.inl c61_18); omega, hM, fun _ _ => rfl⟩, by rw [ht]; exact hP, va_K.moved hW.alike hK, va_Nw.warmM hW hN⟩, hS.F ht⟩) hS.2.2 dX6_source_71
          · refine lv_iload hx hb dX6_source_64 (lv_at hl 0 rfl) ?_
            refine lv_iconst (v := nI (4)) hx hb dX6_source_66 (by decide) ?_
            refine lv_icmp_le (tgt := 72) hx hb dX6_source_67 (by decide) (fun c67_19 => ?_) (fun c67_19 => ?_)
            · have exc := hf_yes c61_18 (Int32.not_lt.mpr c67_19)
              refine lv_iload hx hb dX6_source_72 (lv_at hl 2 rfl) ?_
              refine lv_iload hx hb dX6_source_74 (lv_at hl 0 rfl) ?_
              refine lv_iadd hx hb dX6_source_76 ?_
              refine xtopi (y := nI (hf xa + hf xb + hf xc + 0)) (hf_add exc) ?_
              refine lv_istore (lv' := [(6, .int (nI (hf xa + hf xb + hf xc + 0))), (8, .int (xc)), (7, .int (nI (2))), (0, .ref (ad (62))), (1, .int (nI (3))), (2, .int (xa)), (3, .int (xb)), (4, .int (xc)), (5, .int (xd))]) hx hb dX6_source_77 hl (by decide) rfl (fun ls hl => ?_)
              refine lv_iinc (v := nI (3)) (lv' := [(7, .int (nI (3))), (6, .int (nI (hf xa + hf xb + hf xc + 0))), (8, .int (xc)), (0, .ref (ad (62))), (1, .int (nI (3))), (2, .int (xa)), (3, .int (xb)), (4, .int (xc)), (5, .int (xd))]) hx hb dX6_source_79 hl (k := 2) rfl (nI_add (2) 1) (by decide) rfl (fun ls hl => ?_)
              refine lv_goto (tgt := 18) hx hb dX6_source_82 (by decide) ?_
              refine lv_iload hx hb dX6_source_18 (lv_at hl 0 rfl) ?_
              refine lv_iload_n hx hb dX6_source_20 rfl (lv_at hl 4 rfl) ?_
              refine xi_icmp_ge (tgt := 85) hx hb (by decide) (by decide) dX6_source_21 (by decide) (fun _ => ?_) (fun c0 => absurd c0 (by decide))
              refine lv_iload hx hb dX6_source_85 (lv_at hl 1 rfl) ?_
              refine lv_iconst (v := nI (4)) hx hb dX6_source_87 (by decide) ?_
              refine xi_icmp_le (tgt := 93) hx hb (by have := hf_le xa; have := hf_le xb; have := hf_le xc; have := hf_le xd; omega) (by decide) dX6_source_88 (by decide) (fun c88_22 => ?_) (fun c88_22 => ?_)
              · refine lv_aload_n hx hb dX6_source_93 rfl (lv_at hl 3 rfl) ?_
                refine lv_iload_n hx hb dX6_source_94 rfl (lv_at hl 4 rfl) ?_
                refine xw_put hx hb hts hin6 tyX6 tyX6_ok nmX6 hown hK hP hD hS (by decide) fo62 rfl 0 (by decide) hf7 rfl rfl (ty := .int) (by decide +kernel) rfl rfl (Nat.le_of_ble_eq_true rfl) (fs' := [.int (nI (3)), .int (nI (Wt)), .ref (ad (63)), .ref (ad (64)), .ref (ad (65)), .ref (ad (66)), .int (nI (T)), .long (tp), .long (bt), .long (nu), .long (de), .int (sq), .ref (ad (67)), .ref (ad (68)), .ref (ad (69)), .ref (ad (70)), .ref (ad (71)), .ref (ad (72)), .ref (ad (73)), .ref (ad (74)), .ref (ad (75)), .ref (ad (76)), .ref (ad (77)), .ref (ad (78)), .ref (ad (79)), .ref (ad (80))]) rfl dX6_source_95 (fun g23 H locs eg23 hP hS => ?_)
                have fg23_0 : g23 (63) = .inl (cI, 4, .inl (fw)) := (congrFun eg23 (63)).trans ((va_up_ne _ _ (by decide)).trans fa63)
                have fg23_1 : g23 (64) = .inl (cI, 8, .inl (fsz)) := (congrFun eg23 (64)).trans ((va_up_ne _ _ (by decide)).trans fa64)
                have fg23_w : g23 (62) = .inr (6, [.int (nI (3)), .int (nI (Wt)), .ref (ad (63)), .ref (ad (64)), .ref (ad (65)), .ref (ad (66)), .int (nI (T)), .long (tp), .long (bt), .long (nu), .long (de), .int (sq), .ref (ad (67)), .ref (ad (68)), .ref (ad (69)), .ref (ad (70)), .ref (ad (71)), .ref (ad (72)), .ref (ad (73)), .ref (ad (74)), .ref (ad (75)), .ref (ad (76)), .ref (ad (77)), .ref (ad (78)), .ref (ad (79)), .ref (ad (80))]) := (congrFun eg23 (62)).trans (va_up_self _ _ _)
                have hfrg23 : ∀ j : Nat, j ≠ 62 → j ≠ 63 → j ≠ 64 → g23 j = g j := fun j h0 h1 h2 => (congrFun eg23 j).trans ((va_up_ne _ _ h0).trans ((fun _ _ _ _ => rfl) j h0 h1 h2))
                refine lv_aload_n hx hb dX6_source_98 rfl (lv_at hl 3 rfl) ?_
                refine lv_iload hx hb dX6_source_99 (lv_at hl 1 rfl) ?_
                refine xw_put hx hb hts hin6 tyX6 tyX6_ok nmX6 hown hK hP hD hS (by decide) fg23_w rfl 1 (by decide) hf13 rfl rfl (ty := .int) (by decide +kernel) rfl rfl (Nat.le_of_ble_eq_true rfl) (fs' := [.int (nI (3)), .int (nI (hf xa + hf xb + hf xc + 0)), .ref (ad (63)), .ref (ad (64)), .ref (ad (65)), .ref (ad (66)), .int (nI (T)), .long (tp), .long (bt), .long (nu), .long (de), .int (sq), .ref (ad (67)), .ref (ad (68)), .ref (ad (69)), .ref (ad (70)), .ref (ad (71)), .ref (ad (72)), .ref (ad (73)), .ref (ad (74)), .ref (ad (75)), .ref (ad (76)), .ref (ad (77)), .ref (ad (78)), .ref (ad (79)), .ref (ad (80))]) rfl dX6_source_101 (fun g24 H locs eg24 hP hS => ?_)
                have fg24_0 : g24 (63) = .inl (cI, 4, .inl (fw)) := (congrFun eg24 (63)).trans ((va_up_ne _ _ (by decide)).trans fg23_0)
                have fg24_1 : g24 (64) = .inl (cI, 8, .inl (fsz)) := (congrFun eg24 (64)).trans ((va_up_ne _ _ (by decide)).trans fg23_1)
                have fg24_w : g24 (62) = .inr (6, [.int (nI (3)), .int (nI (hf xa + hf xb + hf xc + 0)), .ref (ad (63)), .ref (ad (64)), .ref (ad (65)), .ref (ad (66)), .int (nI (T)), .long (tp), .long (bt), .long (nu), .long (de), .int (sq), .ref (ad (67)), .ref (ad (68)), .ref (ad (69)), .ref (ad (70)), .ref (ad (71)), .ref (ad (72)), .ref (ad (73)), .ref (ad (74)), .ref (ad (75)), .ref (ad (76)), .ref (ad (77)), .ref (ad (78)), .ref (ad (79)), .ref (ad (80))]) := (congrFun eg24 (62)).trans (va_up_self _ _ _)
                have hfrg24 : ∀ j : Nat, j ≠ 62 → j ≠ 63 → j ≠ 64 → g24 j = g j := fun j h0 h1 h2 => (congrFun eg24 j).trans ((va_up_ne _ _ h0).trans (hfrg23 j h0 h1 h2))
                refine lv_iconst (v := nI (0)) hx hb dX6_source_104 (by decide) ?_
                refine lv_istore (lv' := [(7, .int (nI (0))), (6, .int (nI (hf xa + hf xb + hf xc + 0))), (8, .int (xc)), (0, .ref (ad (62))), (1, .int (nI (3))), (2, .int (xa)), (3, .int (xb)), (4, .int (xc)), (5, .int (xd))]) hx hb dX6_source_105 hl (by decide) rfl (fun ls hl => ?_)
                refine lv_iload hx hb dX6_source_107 (lv_at hl 0 rfl) ?_
                refine lv_iconst (v := nI (4)) hx hb dX6_source_109 (by decide) ?_
                refine xi_icmp_ge (tgt := 168) hx hb (by decide) (by decide) dX6_source_110 (by decide) (fun c0 => absurd c0 (by decide)) (fun _ => ?_)
                refine lv_aload_n hx hb dX6_source_113 rfl (lv_at hl 3 rfl) ?_
                refine xw_get hx hb hts hin6 hown hK hP (by decide) fg24_w rfl 2 (by decide) hf16 rfl rfl dX6_source_114 ?_
                refine lv_iload hx hb dX6_source_117 (lv_at hl 0 rfl) ?_
                refine lv_iload hx hb dX6_source_119 (lv_at hl 0 rfl) ?_
                refine lv_iload_n hx hb dX6_source_121 rfl (lv_at hl 4 rfl) ?_
                refine xi_icmp_lt (tgt := 129) hx hb (by decide) (by decide) dX6_source_122 (by decide) (fun _ => ?_) (fun c0 => absurd c0 (by decide))
                refine lv_iload hx hb dX6_source_129 (lv_at hl 0 rfl) ?_
                refine xi_if_ne (tgt := 138) hx hb (by decide) dX6_source_131 (by decide) (fun c0 => absurd c0 (by decide)) (fun _ => ?_)
                refine lv_iload_n hx hb dX6_source_134 rfl (lv_at hl 5 rfl) ?_
                refine lv_goto (tgt := 161) hx hb dX6_source_135 (by decide) ?_
                refine xw_iast hx hb hK hP hD hS (by decide) 0 fg24_0 rfl (by omega) (by decide) dX6_source_161 (fun g28 H locs eg28 hP hS => ?_)
                have fg28_0 : g28 (64) = .inl (cI, 8, .inl (fsz)) := (congrFun eg28 (64)).trans ((va_up_ne _ _ (by decide)).trans fg24_1)
                have fg28_1 : g28 (62) = .inr (6, [.int (nI (3)), .int (nI (hf xa + hf xb + hf xc + 0)), .ref (ad (63)), .ref (ad (64)), .ref (ad (65)), .ref (ad (66)), .int (nI (T)), .long (tp), .long (bt), .long (nu), .long (de), .int (sq), .ref (ad (67)), .ref (ad (68)), .ref (ad (69)), .ref (ad (70)), .ref (ad (71)), .ref (ad (72)), .ref (ad (73)), .ref (ad (74)), .ref (ad (75)), .ref (ad (76)), .ref (ad (77)), .ref (ad (78)), .ref (ad (79)), .ref (ad (80))]) := (congrFun eg28 (62)).trans ((va_up_ne _ _ (by decide)).trans fg24_w)
                have fg28_w : g28 (63) = .inl (cI, 4, .inl (upd (fw) (0) (xa))) := (congrFun eg28 (63)).trans (va_up_self _ _ _)
                have hfrg28 : ∀ j : Nat, j ≠ 62 → j ≠ 63 → j ≠ 64 → g28 j = g j := fun j h0 h1 h2 => (congrFun eg28 j).trans ((va_up_ne _ _ h1).trans (hfrg24 j h0 h1 h2))
                refine lv_iinc (v := nI (1)) (lv' := [(7, .int (nI (1))), (6, .int (nI (hf xa + hf xb + hf xc + 0))), (8, .int (xc)), (0, .ref (ad (62))), (1, .int (nI (3))), (2, .int (xa)), (3, .int (xb)), (4, .int (xc)), (5, .int (xd))]) hx hb dX6_source_162 hl (k := 0) rfl (nI_add (0) 1) (by decide) rfl (fun ls hl => ?_)
                refine lv_goto (tgt := 107) hx hb dX6_source_165 (by decide) ?_
                refine lv_iload hx hb dX6_source_107 (lv_at hl 0 rfl) ?_
                refine lv_iconst (v := nI (4)) hx hb dX6_source_109 (by decide) ?_
                refine xi_icmp_ge (tgt := 168) hx hb (by decide) (by decide) dX6_source_110 (by decide) (fun c0 => absurd c0 (by decide)) (fun _ => ?_)
                refine lv_aload_n hx hb dX6_source_113 rfl (lv_at hl 3 rfl) ?_
                refine xw_get hx hb hts hin6 hown hK hP (by decide) fg28_1 rfl 2 (by decide) hf16 rfl rfl dX6_source_114 ?_
                refine lv_iload hx hb dX6_source_117 (lv_at hl 0 rfl) ?_
                refine lv_iload hx hb dX6_source_119 (lv_at hl 0 rfl) ?_
                refine lv_iload_n hx hb dX6_source_121 rfl (lv_at hl 4 rfl) ?_
                refine xi_icmp_lt (tgt := 129) hx hb (by decide) (by decide) dX6_source_122 (by decide) (fun _ => ?_) (fun c0 => absurd c0 (by decide))
                refine lv_iload hx hb dX6_source_129 (lv_at hl 0 rfl) ?_
                refine xi_if_ne (tgt := 138) hx hb (by decide) dX6_source_131 (by decide) (fun _ => ?_) (fun c0 => absurd c0 (by decide))
                refine lv_iload hx hb dX6_source_138 (lv_at hl 0 rfl) ?_
                refine lv_iconst (v := nI (1)) hx hb dX6_source_140 (by decide) ?_
                refine xi_icmp_ne (tgt := 148) hx hb (by decide) (by decide) dX6_source_141 (by decide) (fun c0 => absurd c0 (by decide)) (fun _ => ?_)
                refine lv_iload_n hx hb dX6_source_144 rfl (lv_at hl 6 rfl) ?_
                refine lv_goto (tgt := 161) hx hb dX6_source_145 (by decide) ?_
                refine xw_iast hx hb hK hP hD hS (by decide) 0 fg28_w rfl (by omega) (by decide) dX6_source_161 (fun g33 H locs eg33 hP hS => ?_)
                have fg33_0 : g33 (64) = .inl (cI, 8, .inl (fsz)) := (congrFun eg33 (64)).trans ((va_up_ne _ _ (by decide)).trans fg28_0)
                have fg33_1 : g33 (62) = .inr (6, [.int (nI (3)), .int (nI (hf xa + hf xb + hf xc + 0)), .ref (ad (63)), .ref (ad (64)), .ref (ad (65)), .ref (ad (66)), .int (nI (T)), .long (tp), .long (bt), .long (nu), .long (de), .int (sq), .ref (ad (67)), .ref (ad (68)), .ref (ad (69)), .ref (ad (70)), .ref (ad (71)), .ref (ad (72)), .ref (ad (73)), .ref (ad (74)), .ref (ad (75)), .ref (ad (76)), .ref (ad (77)), .ref (ad (78)), .ref (ad (79)), .ref (ad (80))]) := (congrFun eg33 (62)).trans ((va_up_ne _ _ (by decide)).trans fg28_1)
                have fg33_w : g33 (63) = .inl (cI, 4, .inl (upd (upd (fw) (0) (xa)) (1) (xb))) := (congrFun eg33 (63)).trans (va_up_self _ _ _)
                have hfrg33 : ∀ j : Nat, j ≠ 62 → j ≠ 63 → j ≠ 64 → g33 j = g j := fun j h0 h1 h2 => (congrFun eg33 j).trans ((va_up_ne _ _ h1).trans (hfrg28 j h0 h1 h2))
                refine lv_iinc (v := nI (2)) (lv' := [(7, .int (nI (2))), (6, .int (nI (hf xa + hf xb + hf xc + 0))), (8, .int (xc)), (0, .ref (ad (62))), (1, .int (nI (3))), (2, .int (xa)), (3, .int (xb)), (4, .int (xc)), (5, .int (xd))]) hx hb dX6_source_162 hl (k := 0) rfl (nI_add (1) 1) (by decide) rfl (fun ls hl => ?_)
                refine lv_goto (tgt := 107) hx hb dX6_source_165 (by decide) ?_
                refine lv_iload hx hb dX6_source_107 (lv_at hl 0 rfl) ?_
                refine lv_iconst (v := nI (4)) hx hb dX6_source_109 (by decide) ?_
                refine xi_icmp_ge (tgt := 168) hx hb (by decide) (by decide) dX6_source_110 (by decide) (fun c0 => absurd c0 (by decide)) (fun _ => ?_)
                refine lv_aload_n hx hb dX6_source_113 rfl (lv_at hl 3 rfl) ?_
                refine xw_get hx hb hts hin6 hown hK hP (by decide) fg33_1 rfl 2 (by decide) hf16 rfl rfl dX6_source_114 ?_
                refine lv_iload hx hb dX6_source_117 (lv_at hl 0 rfl) ?_
                refine lv_iload hx hb dX6_source_119 (lv_at hl 0 rfl) ?_
                refine lv_iload_n hx hb dX6_source_121 rfl (lv_at hl 4 rfl) ?_
                refine xi_icmp_lt (tgt := 129) hx hb (by decide) (by decide) dX6_source_122 (by decide) (fun _ => ?_) (fun c0 => absurd c0 (by decide))
                refine lv_iload hx hb dX6_source_129 (lv_at hl 0 rfl) ?_
                refine xi_if_ne (tgt := 138) hx hb (by decide) dX6_source_131 (by decide) (fun _ => ?_) (fun c0 => absurd c0 (by decide))
                refine lv_iload hx hb dX6_source_138 (lv_at hl 0 rfl) ?_
                refine lv_iconst (v := nI (1)) hx hb dX6_source_140 (by decide) ?_
                refine xi_icmp_ne (tgt := 148) hx hb (by decide) (by decide) dX6_source_141 (by decide) (fun _ => ?_) (fun c0 => absurd c0 (by decide))
                refine lv_iload hx hb dX6_source_148 (lv_at hl 0 rfl) ?_
                refine lv_iconst (v := nI (2)) hx hb dX6_source_150 (by decide) ?_
                refine xi_icmp_ne (tgt := 159) hx hb (by decide) (by decide) dX6_source_151 (by decide) (fun c0 => absurd c0 (by decide)) (fun _ => ?_)
                refine lv_iload hx hb dX6_source_154 (lv_at hl 7 rfl) ?_
                refine lv_goto (tgt := 161) hx hb dX6_source_156 (by decide) ?_
                refine xw_iast hx hb hK hP hD hS (by decide) 0 fg33_w rfl (by omega) (by decide) dX6_source_161 (fun g39 H locs eg39 hP hS => ?_)
                have fg39_0 : g39 (64) = .inl (cI, 8, .inl (fsz)) := (congrFun eg39 (64)).trans ((va_up_ne _ _ (by decide)).trans fg33_0)
                have fg39_1 : g39 (62) = .inr (6, [.int (nI (3)), .int (nI (hf xa + hf xb + hf xc + 0)), .ref (ad (63)), .ref (ad (64)), .ref (ad (65)), .ref (ad (66)), .int (nI (T)), .long (tp), .long (bt), .long (nu), .long (de), .int (sq), .ref (ad (67)), .ref (ad (68)), .ref (ad (69)), .ref (ad (70)), .ref (ad (71)), .ref (ad (72)), .ref (ad (73)), .ref (ad (74)), .ref (ad (75)), .ref (ad (76)), .ref (ad (77)), .ref (ad (78)), .ref (ad (79)), .ref (ad (80))]) := (congrFun eg39 (62)).trans ((va_up_ne _ _ (by decide)).trans fg33_1)
                have fg39_w : g39 (63) = .inl (cI, 4, .inl (upd (upd (upd (fw) (0) (xa)) (1) (xb)) (2) (xc))) := (congrFun eg39 (63)).trans (va_up_self _ _ _)
                have hfrg39 : ∀ j : Nat, j ≠ 62 → j ≠ 63 → j ≠ 64 → g39 j = g j := fun j h0 h1 h2 => (congrFun eg39 j).trans ((va_up_ne _ _ h1).trans (hfrg33 j h0 h1 h2))
                refine lv_iinc (v := nI (3)) (lv' := [(7, .int (nI (3))), (6, .int (nI (hf xa + hf xb + hf xc + 0))), (8, .int (xc)), (0, .ref (ad (62))), (1, .int (nI (3))), (2, .int (xa)), (3, .int (xb)), (4, .int (xc)), (5, .int (xd))]) hx hb dX6_source_162 hl (k := 0) rfl (nI_add (2) 1) (by decide) rfl (fun ls hl => ?_)
                refine lv_goto (tgt := 107) hx hb dX6_source_165 (by decide) ?_
                refine lv_iload hx hb dX6_source_107 (lv_at hl 0 rfl) ?_
                refine lv_iconst (v := nI (4)) hx hb dX6_source_109 (by decide) ?_
                refine xi_icmp_ge (tgt := 168) hx hb (by decide) (by decide) dX6_source_110 (by decide) (fun c0 => absurd c0 (by decide)) (fun _ => ?_)
                refine lv_aload_n hx hb dX6_source_113 rfl (lv_at hl 3 rfl) ?_
                refine xw_get hx hb hts hin6 hown hK hP (by decide) fg39_1 rfl 2 (by decide) hf16 rfl rfl dX6_source_114 ?_
                refine lv_iload hx hb dX6_source_117 (lv_at hl 0 rfl) ?_
                refine lv_iload hx hb dX6_source_119 (lv_at hl 0 rfl) ?_
                refine lv_iload_n hx hb dX6_source_121 rfl (lv_at hl 4 rfl) ?_
                refine xi_icmp_lt (tgt := 129) hx hb (by decide) (by decide) dX6_source_122 (by decide) (fun c0 => absurd c0 (by decide)) (fun _ => ?_)
                refine lv_iconst (v := nI (0)) hx hb dX6_source_125 (by decide) ?_
                refine lv_goto (tgt := 161) hx hb dX6_source_126 (by decide) ?_
                refine xw_iast hx hb hK hP hD hS (by decide) 0 fg39_w rfl (by omega) (by decide) dX6_source_161 (fun g42 H locs eg42 hP hS => ?_)
                have fg42_0 : g42 (64) = .inl (cI, 8, .inl (fsz)) := (congrFun eg42 (64)).trans ((va_up_ne _ _ (by decide)).trans fg39_0)
                have fg42_1 : g42 (62) = .inr (6, [.int (nI (3)), .int (nI (hf xa + hf xb + hf xc + 0)), .ref (ad (63)), .ref (ad (64)), .ref (ad (65)), .ref (ad (66)), .int (nI (T)), .long (tp), .long (bt), .long (nu), .long (de), .int (sq), .ref (ad (67)), .ref (ad (68)), .ref (ad (69)), .ref (ad (70)), .ref (ad (71)), .ref (ad (72)), .ref (ad (73)), .ref (ad (74)), .ref (ad (75)), .ref (ad (76)), .ref (ad (77)), .ref (ad (78)), .ref (ad (79)), .ref (ad (80))]) := (congrFun eg42 (62)).trans ((va_up_ne _ _ (by decide)).trans fg39_1)
                have fg42_w : g42 (63) = .inl (cI, 4, .inl (upd (upd (upd (upd (fw) (0) (xa)) (1) (xb)) (2) (xc)) (3) (nI (0)))) := (congrFun eg42 (63)).trans (va_up_self _ _ _)
                have hfrg42 : ∀ j : Nat, j ≠ 62 → j ≠ 63 → j ≠ 64 → g42 j = g j := fun j h0 h1 h2 => (congrFun eg42 j).trans ((va_up_ne _ _ h1).trans (hfrg39 j h0 h1 h2))
                refine lv_iinc (v := nI (4)) (lv' := [(7, .int (nI (4))), (6, .int (nI (hf xa + hf xb + hf xc + 0))), (8, .int (xc)), (0, .ref (ad (62))), (1, .int (nI (3))), (2, .int (xa)), (3, .int (xb)), (4, .int (xc)), (5, .int (xd))]) hx hb dX6_source_162 hl (k := 0) rfl (nI_add (3) 1) (by decide) rfl (fun ls hl => ?_)
                refine lv_goto (tgt := 107) hx hb dX6_source_165 (by decide) ?_
                refine lv_iload hx hb dX6_source_107 (lv_at hl 0 rfl) ?_
                refine lv_iconst (v := nI (4)) hx hb dX6_source_109 (by decide) ?_
                refine xi_icmp_ge (tgt := 168) hx hb (by decide) (by decide) dX6_source_110 (by decide) (fun _ => ?_) (fun c0 => absurd c0 (by decide))
                refine lv_iconst (v := nI (0)) hx hb dX6_source_168 (by decide) ?_
                refine lv_istore (lv' := [(7, .int (nI (0))), (6, .int (nI (hf xa + hf xb + hf xc + 0))), (8, .int (xc)), (0, .ref (ad (62))), (1, .int (nI (3))), (2, .int (xa)), (3, .int (xb)), (4, .int (xc)), (5, .int (xd))]) hx hb dX6_source_169 hl (by decide) rfl (fun ls hl => ?_)
                refine lv_iload hx hb dX6_source_171 (lv_at hl 0 rfl) ?_
                refine lv_bipush (v := nI (8)) hx hb dX6_source_173 (by decide) ?_
                refine xi_icmp_ge (tgt := 192) hx hb (by decide) (by decide) dX6_source_175 (by decide) (fun c0 => absurd c0 (by decide)) (fun _ => ?_)
                refine lv_aload_n hx hb dX6_source_178 rfl (lv_at hl 3 rfl) ?_
                refine xw_get hx hb hts hin6 hown hK hP (by decide) fg42_1 rfl 3 (by decide) hf20 rfl rfl dX6_source_179 ?_
                refine lv_iload hx hb dX6_source_182 (lv_at hl 0 rfl) ?_
                refine lv_iconst (v := nI (0)) hx hb dX6_source_184 (by decide) ?_
                refine xw_iast hx hb hK hP hD hS (by decide) 0 fg42_0 rfl (by omega) (by decide) dX6_source_185 (fun g45 H locs eg45 hP hS => ?_)
                have fg45_0 : g45 (62) = .inr (6, [.int (nI (3)), .int (nI (hf xa + hf xb + hf xc + 0)), .ref (ad (63)), .ref (ad (64)), .ref (ad (65)), .ref (ad (66)), .int (nI (T)), .long (tp), .long (bt), .long (nu), .long (de), .int (sq), .ref (ad (67)), .ref (ad (68)), .ref (ad (69)), .ref (ad (70)), .ref (ad (71)), .ref (ad (72)), .ref (ad (73)), .ref (ad (74)), .ref (ad (75)), .ref (ad (76)), .ref (ad (77)), .ref (ad (78)), .ref (ad (79)), .ref (ad (80))]) := (congrFun eg45 (62)).trans ((va_up_ne _ _ (by decide)).trans fg42_1)
                have fg45_1 : g45 (63) = .inl (cI, 4, .inl (upd (upd (upd (upd (fw) (0) (xa)) (1) (xb)) (2) (xc)) (3) (nI (0)))) := (congrFun eg45 (63)).trans ((va_up_ne _ _ (by decide)).trans fg42_w)
                have fg45_w : g45 (64) = .inl (cI, 8, .inl (upd (fsz) (0) (nI (0)))) := (congrFun eg45 (64)).trans (va_up_self _ _ _)
                have hfrg45 : ∀ j : Nat, j ≠ 62 → j ≠ 63 → j ≠ 64 → g45 j = g j := fun j h0 h1 h2 => (congrFun eg45 j).trans ((va_up_ne _ _ h2).trans (hfrg42 j h0 h1 h2))
                refine lv_iinc (v := nI (1)) (lv' := [(7, .int (nI (1))), (6, .int (nI (hf xa + hf xb + hf xc + 0))), (8, .int (xc)), (0, .ref (ad (62))), (1, .int (nI (3))), (2, .int (xa)), (3, .int (xb)), (4, .int (xc)), (5, .int (xd))]) hx hb dX6_source_186 hl (k := 0) rfl (nI_add (0) 1) (by decide) rfl (fun ls hl => ?_)
                refine lv_goto (tgt := 171) hx hb dX6_source_189 (by decide) ?_
                refine lv_iload hx hb dX6_source_171 (lv_at hl 0 rfl) ?_
                refine lv_bipush (v := nI (8)) hx hb dX6_source_173 (by decide) ?_
                refine xi_icmp_ge (tgt := 192) hx hb (by decide) (by decide) dX6_source_175 (by decide) (fun c0 => absurd c0 (by decide)) (fun _ => ?_)
                refine lv_aload_n hx hb dX6_source_178 rfl (lv_at hl 3 rfl) ?_
                refine xw_get hx hb hts hin6 hown hK hP (by decide) fg45_0 rfl 3 (by decide) hf20 rfl rfl dX6_source_179 ?_
                refine lv_iload hx hb dX6_source_182 (lv_at hl 0 rfl) ?_
                refine lv_iconst (v := nI (0)) hx hb dX6_source_184 (by decide) ?_
                refine xw_iast hx hb hK hP hD hS (by decide) 0 fg45_w rfl (by omega) (by decide) dX6_source_185 (fun g47 H locs eg47 hP hS => ?_)
                have fg47_0 : g47 (62) = .inr (6, [.int (nI (3)), .int (nI (hf xa + hf xb + hf xc + 0)), .ref (ad (63)), .ref (ad (64)), .ref (ad (65)), .ref (ad (66)), .int (nI (T)), .long (tp), .long (bt), .long (nu), .long (de), .int (sq), .ref (ad (67)), .ref (ad (68)), .ref (ad (69)), .ref (ad (70)), .ref (ad (71)), .ref (ad (72)), .ref (ad (73)), .ref (ad (74)), .ref (ad (75)), .ref (ad (76)), .ref (ad (77)), .ref (ad (78)), .ref (ad (79)), .ref (ad (80))]) := (congrFun eg47 (62)).trans ((va_up_ne _ _ (by decide)).trans fg45_0)
                have fg47_1 : g47 (63) = .inl (cI, 4, .inl (upd (upd (upd (upd (fw) (0) (xa)) (1) (xb)) (2) (xc)) (3) (nI (0)))) := (congrFun eg47 (63)).trans ((va_up_ne _ _ (by decide)).trans fg45_1)
                have fg47_w : g47 (64) = .inl (cI, 8, .inl (upd (upd (fsz) (0) (nI (0))) (1) (nI (0)))) := (congrFun eg47 (64)).trans (va_up_self _ _ _)
                have hfrg47 : ∀ j : Nat, j ≠ 62 → j ≠ 63 → j ≠ 64 → g47 j = g j := fun j h0 h1 h2 => (congrFun eg47 j).trans ((va_up_ne _ _ h2).trans (hfrg45 j h0 h1 h2))
                refine lv_iinc (v := nI (2)) (lv' := [(7, .int (nI (2))), (6, .int (nI (hf xa + hf xb + hf xc + 0))), (8, .int (xc)), (0, .ref (ad (62))), (1, .int (nI (3))), (2, .int (xa)), (3, .int (xb)), (4, .int (xc)), (5, .int (xd))]) hx hb dX6_source_186 hl (k := 0) rfl (nI_add (1) 1) (by decide) rfl (fun ls hl => ?_)
                refine lv_goto (tgt := 171) hx hb dX6_source_189 (by decide) ?_
                refine lv_iload hx hb dX6_source_171 (lv_at hl 0 rfl) ?_
                refine lv_bipush (v := nI (8)) hx hb dX6_source_173 (by decide) ?_
                refine xi_icmp_ge (tgt := 192) hx hb (by decide) (by decide) dX6_source_175 (by decide) (fun c0 => absurd c0 (by decide)) (fun _ => ?_)
                refine lv_aload_n hx hb dX6_source_178 rfl (lv_at hl 3 rfl) ?_
                refine xw_get hx hb hts hin6 hown hK hP (by decide) fg47_0 rfl 3 (by decide) hf20 rfl rfl dX6_source_179 ?_
                refine lv_iload hx hb dX6_source_182 (lv_at hl 0 rfl) ?_
                refine lv_iconst (v := nI (0)) hx hb dX6_source_184 (by decide) ?_
                refine xw_iast hx hb hK hP hD hS (by decide) 0 fg47_w rfl (by omega) (by decide) dX6_source_185 (fun g49 H locs eg49 hP hS => ?_)
                have fg49_0 : g49 (62) = .inr (6, [.int (nI (3)), .int (nI (hf xa + hf xb + hf xc + 0)), .ref (ad (63)), .ref (ad (64)), .ref (ad (65)), .ref (ad (66)), .int (nI (T)), .long (tp), .long (bt), .long (nu), .long (de), .int (sq), .ref (ad (67)), .ref (ad (68)), .ref (ad (69)), .ref (ad (70)), .ref (ad (71)), .ref (ad (72)), .ref (ad (73)), .ref (ad (74)), .ref (ad (75)), .ref (ad (76)), .ref (ad (77)), .ref (ad (78)), .ref (ad (79)), .ref (ad (80))]) := (congrFun eg49 (62)).trans ((va_up_ne _ _ (by decide)).trans fg47_0)
                have fg49_1 : g49 (63) = .inl (cI, 4, .inl (upd (upd (upd (upd (fw) (0) (xa)) (1) (xb)) (2) (xc)) (3) (nI (0)))) := (congrFun eg49 (63)).trans ((va_up_ne _ _ (by decide)).trans fg47_1)
                have fg49_w : g49 (64) = .inl (cI, 8, .inl (upd (upd (upd (fsz) (0) (nI (0))) (1) (nI (0))) (2) (nI (0)))) := (congrFun eg49 (64)).trans (va_up_self _ _ _)
                have hfrg49 : ∀ j : Nat, j ≠ 62 → j ≠ 63 → j ≠ 64 → g49 j = g j := fun j h0 h1 h2 => (congrFun eg49 j).trans ((va_up_ne _ _ h2).trans (hfrg47 j h0 h1 h2))
                refine lv_iinc (v := nI (3)) (lv' := [(7, .int (nI (3))), (6, .int (nI (hf xa + hf xb + hf xc + 0))), (8, .int (xc)), (0, .ref (ad (62))), (1, .int (nI (3))), (2, .int (xa)), (3, .int (xb)), (4, .int (xc)), (5, .int (xd))]) hx hb dX6_source_186 hl (k := 0) rfl (nI_add (2) 1) (by decide) rfl (fun ls hl => ?_)
                refine lv_goto (tgt := 171) hx hb dX6_source_189 (by decide) ?_
                refine lv_iload hx hb dX6_source_171 (lv_at hl 0 rfl) ?_
                refine lv_bipush (v := nI (8)) hx hb dX6_source_173 (by decide) ?_
                refine xi_icmp_ge (tgt := 192) hx hb (by decide) (by decide) dX6_source_175 (by decide) (fun c0 => absurd c0 (by decide)) (fun _ => ?_)
                refine lv_aload_n hx hb dX6_source_178 rfl (lv_at hl 3 rfl) ?_
                refine xw_get hx hb hts hin6 hown hK hP (by decide) fg49_0 rfl 3 (by decide) hf20 rfl rfl dX6_source_179 ?_
                refine lv_iload hx hb dX6_source_182 (lv_at hl 0 rfl) ?_
                refine lv_iconst (v := nI (0)) hx hb dX6_source_184 (by decide) ?_
                refine xw_iast hx hb hK hP hD hS (by decide) 0 fg49_w rfl (by omega) (by decide) dX6_source_185 (fun g51 H locs eg51 hP hS => ?_)
                have fg51_0 : g51 (62) = .inr (6, [.int (nI (3)), .int (nI (hf xa + hf xb + hf xc + 0)), .ref (ad (63)), .ref (ad (64)), .ref (ad (65)), .ref (ad (66)), .int (nI (T)), .long (tp), .long (bt), .long (nu), .long (de), .int (sq), .ref (ad (67)), .ref (ad (68)), .ref (ad (69)), .ref (ad (70)), .ref (ad (71)), .ref (ad (72)), .ref (ad (73)), .ref (ad (74)), .ref (ad (75)), .ref (ad (76)), .ref (ad (77)), .ref (ad (78)), .ref (ad (79)), .ref (ad (80))]) := (congrFun eg51 (62)).trans ((va_up_ne _ _ (by decide)).trans fg49_0)
                have fg51_1 : g51 (63) = .inl (cI, 4, .inl (upd (upd (upd (upd (fw) (0) (xa)) (1) (xb)) (2) (xc)) (3) (nI (0)))) := (congrFun eg51 (63)).trans ((va_up_ne _ _ (by decide)).trans fg49_1)
                have fg51_w : g51 (64) = .inl (cI, 8, .inl (upd (upd (upd (upd (fsz) (0) (nI (0))) (1) (nI (0))) (2) (nI (0))) (3) (nI (0)))) := (congrFun eg51 (64)).trans (va_up_self _ _ _)
                have hfrg51 : ∀ j : Nat, j ≠ 62 → j ≠ 63 → j ≠ 64 → g51 j = g j := fun j h0 h1 h2 => (congrFun eg51 j).trans ((va_up_ne _ _ h2).trans (hfrg49 j h0 h1 h2))
                refine lv_iinc (v := nI (4)) (lv' := [(7, .int (nI (4))), (6, .int (nI (hf xa + hf xb + hf xc + 0))), (8, .int (xc)), (0, .ref (ad (62))), (1, .int (nI (3))), (2, .int (xa)), (3, .int (xb)), (4, .int (xc)), (5, .int (xd))]) hx hb dX6_source_186 hl (k := 0) rfl (nI_add (3) 1) (by decide) rfl (fun ls hl => ?_)
                refine lv_goto (tgt := 171) hx hb dX6_source_189 (by decide) ?_
                refine lv_iload hx hb dX6_source_171 (lv_at hl 0 rfl) ?_
                refine lv_bipush (v := nI (8)) hx hb dX6_source_173 (by decide) ?_
                refine xi_icmp_ge (tgt := 192) hx hb (by decide) (by decide) dX6_source_175 (by decide) (fun c0 => absurd c0 (by decide)) (fun _ => ?_)
                refine lv_aload_n hx hb dX6_source_178 rfl (lv_at hl 3 rfl) ?_
                refine xw_get hx hb hts hin6 hown hK hP (by decide) fg51_0 rfl 3 (by decide) hf20 rfl rfl dX6_source_179 ?_
                refine lv_iload hx hb dX6_source_182 (lv_at hl 0 rfl) ?_
                refine lv_iconst (v := nI (0)) hx hb dX6_source_184 (by decide) ?_
                refine xw_iast hx hb hK hP hD hS (by decide) 0 fg51_w rfl (by omega) (by decide) dX6_source_185 (fun g53 H locs eg53 hP hS => ?_)
                have fg53_0 : g53 (62) = .inr (6, [.int (nI (3)), .int (nI (hf xa + hf xb + hf xc + 0)), .ref (ad (63)), .ref (ad (64)), .ref (ad (65)), .ref (ad (66)), .int (nI (T)), .long (tp), .long (bt), .long (nu), .long (de), .int (sq), .ref (ad (67)), .ref (ad (68)), .ref (ad (69)), .ref (ad (70)), .ref (ad (71)), .ref (ad (72)), .ref (ad (73)), .ref (ad (74)), .ref (ad (75)), .ref (ad (76)), .ref (ad (77)), .ref (ad (78)), .ref (ad (79)), .ref (ad (80))]) := (congrFun eg53 (62)).trans ((va_up_ne _ _ (by decide)).trans fg51_0)
                have fg53_1 : g53 (63) = .inl (cI, 4, .inl (upd (upd (upd (upd (fw) (0) (xa)) (1) (xb)) (2) (xc)) (3) (nI (0)))) := (congrFun eg53 (63)).trans ((va_up_ne _ _ (by decide)).trans fg51_1)
                have fg53_w : g53 (64) = .inl (cI, 8, .inl (upd (upd (upd (upd (upd (fsz) (0) (nI (0))) (1) (nI (0))) (2) (nI (0))) (3) (nI (0))) (4) (nI (0)))) := (congrFun eg53 (64)).trans (va_up_self _ _ _)
                have hfrg53 : ∀ j : Nat, j ≠ 62 → j ≠ 63 → j ≠ 64 → g53 j = g j := fun j h0 h1 h2 => (congrFun eg53 j).trans ((va_up_ne _ _ h2).trans (hfrg51 j h0 h1 h2))
                refine lv_iinc (v := nI (5)) (lv' := [(7, .int (nI (5))), (6, .int (nI (hf xa + hf xb + hf xc + 0))), (8, .int (xc)), (0, .ref (ad (62))), (1, .int (nI (3))), (2, .int (xa)), (3, .int (xb)), (4, .int (xc)), (5, .int (xd))]) hx hb dX6_source_186 hl (k := 0) rfl (nI_add (4) 1) (by decide) rfl (fun ls hl => ?_)
                refine lv_goto (tgt := 171) hx hb dX6_source_189 (by decide) ?_
                refine lv_iload hx hb dX6_source_171 (lv_at hl 0 rfl) ?_
                refine lv_bipush (v := nI (8)) hx hb dX6_source_173 (by decide) ?_
                refine xi_icmp_ge (tgt := 192) hx hb (by decide) (by decide) dX6_source_175 (by decide) (fun c0 => absurd c0 (by decide)) (fun _ => ?_)
                refine lv_aload_n hx hb dX6_source_178 rfl (lv_at hl 3 rfl) ?_
                refine xw_get hx hb hts hin6 hown hK hP (by decide) fg53_0 rfl 3 (by decide) hf20 rfl rfl dX6_source_179 ?_
                refine lv_iload hx hb dX6_source_182 (lv_at hl 0 rfl) ?_
                refine lv_iconst (v := nI (0)) hx hb dX6_source_184 (by decide) ?_
                refine xw_iast hx hb hK hP hD hS (by decide) 0 fg53_w rfl (by omega) (by decide) dX6_source_185 (fun g55 H locs eg55 hP hS => ?_)
                have fg55_0 : g55 (62) = .inr (6, [.int (nI (3)), .int (nI (hf xa + hf xb + hf xc + 0)), .ref (ad (63)), .ref (ad (64)), .ref (ad (65)), .ref (ad (66)), .int (nI (T)), .long (tp), .long (bt), .long (nu), .long (de), .int (sq), .ref (ad (67)), .ref (ad (68)), .ref (ad (69)), .ref (ad (70)), .ref (ad (71)), .ref (ad (72)), .ref (ad (73)), .ref (ad (74)), .ref (ad (75)), .ref (ad (76)), .ref (ad (77)), .ref (ad (78)), .ref (ad (79)), .ref (ad (80))]) := (congrFun eg55 (62)).trans ((va_up_ne _ _ (by decide)).trans fg53_0)
                have fg55_1 : g55 (63) = .inl (cI, 4, .inl (upd (upd (upd (upd (fw) (0) (xa)) (1) (xb)) (2) (xc)) (3) (nI (0)))) := (congrFun eg55 (63)).trans ((va_up_ne _ _ (by decide)).trans fg53_1)
                have fg55_w : g55 (64) = .inl (cI, 8, .inl (upd (upd (upd (upd (upd (upd (fsz) (0) (nI (0))) (1) (nI (0))) (2) (nI (0))) (3) (nI (0))) (4) (nI (0))) (5) (nI (0)))) := (congrFun eg55 (64)).trans (va_up_self _ _ _)
                have hfrg55 : ∀ j : Nat, j ≠ 62 → j ≠ 63 → j ≠ 64 → g55 j = g j := fun j h0 h1 h2 => (congrFun eg55 j).trans ((va_up_ne _ _ h2).trans (hfrg53 j h0 h1 h2))
                refine lv_iinc (v := nI (6)) (lv' := [(7, .int (nI (6))), (6, .int (nI (hf xa + hf xb + hf xc + 0))), (8, .int (xc)), (0, .ref (ad (62))), (1, .int (nI (3))), (2, .int (xa)), (3, .int (xb)), (4, .int (xc)), (5, .int (xd))]) hx hb dX6_source_186 hl (k := 0) rfl (nI_add (5) 1) (by decide) rfl (fun ls hl => ?_)
                refine lv_goto (tgt := 171) hx hb dX6_source_189 (by decide) ?_
                refine lv_iload hx hb dX6_source_171 (lv_at hl 0 rfl) ?_
                refine lv_bipush (v := nI (8)) hx hb dX6_source_173 (by decide) ?_
                refine xi_icmp_ge (tgt := 192) hx hb (by decide) (by decide) dX6_source_175 (by decide) (fun c0 => absurd c0 (by decide)) (fun _ => ?_)
                refine lv_aload_n hx hb dX6_source_178 rfl (lv_at hl 3 rfl) ?_
                refine xw_get hx hb hts hin6 hown hK hP (by decide) fg55_0 rfl 3 (by decide) hf20 rfl rfl dX6_source_179 ?_
                refine lv_iload hx hb dX6_source_182 (lv_at hl 0 rfl) ?_
                refine lv_iconst (v := nI (0)) hx hb dX6_source_184 (by decide) ?_
                refine xw_iast hx hb hK hP hD hS (by decide) 0 fg55_w rfl (by omega) (by decide) dX6_source_185 (fun g57 H locs eg57 hP hS => ?_)
                have fg57_0 : g57 (62) = .inr (6, [.int (nI (3)), .int (nI (hf xa + hf xb + hf xc + 0)), .ref (ad (63)), .ref (ad (64)), .ref (ad (65)), .ref (ad (66)), .int (nI (T)), .long (tp), .long (bt), .long (nu), .long (de), .int (sq), .ref (ad (67)), .ref (ad (68)), .ref (ad (69)), .ref (ad (70)), .ref (ad (71)), .ref (ad (72)), .ref (ad (73)), .ref (ad (74)), .ref (ad (75)), .ref (ad (76)), .ref (ad (77)), .ref (ad (78)), .ref (ad (79)), .ref (ad (80))]) := (congrFun eg57 (62)).trans ((va_up_ne _ _ (by decide)).trans fg55_0)
                have fg57_1 : g57 (63) = .inl (cI, 4, .inl (upd (upd (upd (upd (fw) (0) (xa)) (1) (xb)) (2) (xc)) (3) (nI (0)))) := (congrFun eg57 (63)).trans ((va_up_ne _ _ (by decide)).trans fg55_1)
                have fg57_w : g57 (64) = .inl (cI, 8, .inl (upd (upd (upd (upd (upd (upd (upd (fsz) (0) (nI (0))) (1) (nI (0))) (2) (nI (0))) (3) (nI (0))) (4) (nI (0))) (5) (nI (0))) (6) (nI (0)))) := (congrFun eg57 (64)).trans (va_up_self _ _ _)
                have hfrg57 : ∀ j : Nat, j ≠ 62 → j ≠ 63 → j ≠ 64 → g57 j = g j := fun j h0 h1 h2 => (congrFun eg57 j).trans ((va_up_ne _ _ h2).trans (hfrg55 j h0 h1 h2))
                refine lv_iinc (v := nI (7)) (lv' := [(7, .int (nI (7))), (6, .int (nI (hf xa + hf xb + hf xc + 0))), (8, .int (xc)), (0, .ref (ad (62))), (1, .int (nI (3))), (2, .int (xa)), (3, .int (xb)), (4, .int (xc)), (5, .int (xd))]) hx hb dX6_source_186 hl (k := 0) rfl (nI_add (6) 1) (by decide) rfl (fun ls hl => ?_)
                refine lv_goto (tgt := 171) hx hb dX6_source_189 (by decide) ?_
                refine lv_iload hx hb dX6_source_171 (lv_at hl 0 rfl) ?_
                refine lv_bipush (v := nI (8)) hx hb dX6_source_173 (by decide) ?_
                refine xi_icmp_ge (tgt := 192) hx hb (by decide) (by decide) dX6_source_175 (by decide) (fun c0 => absurd c0 (by decide)) (fun _ => ?_)
                refine lv_aload_n hx hb dX6_source_178 rfl (lv_at hl 3 rfl) ?_
                refine xw_get hx hb hts hin6 hown hK hP (by decide) fg57_0 rfl 3 (by decide) hf20 rfl rfl dX6_source_179 ?_
                refine lv_iload hx hb dX6_source_182 (lv_at hl 0 rfl) ?_
                refine lv_iconst (v := nI (0)) hx hb dX6_source_184 (by decide) ?_
                refine xw_iast hx hb hK hP hD hS (by decide) 0 fg57_w rfl (by omega) (by decide) dX6_source_185 (fun g59 H locs eg59 hP hS => ?_)
                have fg59_0 : g59 (62) = .inr (6, [.int (nI (3)), .int (nI (hf xa + hf xb + hf xc + 0)), .ref (ad (63)), .ref (ad (64)), .ref (ad (65)), .ref (ad (66)), .int (nI (T)), .long (tp), .long (bt), .long (nu), .long (de), .int (sq), .ref (ad (67)), .ref (ad (68)), .ref (ad (69)), .ref (ad (70)), .ref (ad (71)), .ref (ad (72)), .ref (ad (73)), .ref (ad (74)), .ref (ad (75)), .ref (ad (76)), .ref (ad (77)), .ref (ad (78)), .ref (ad (79)), .ref (ad (80))]) := (congrFun eg59 (62)).trans ((va_up_ne _ _ (by decide)).trans fg57_0)
                have fg59_1 : g59 (63) = .inl (cI, 4, .inl (upd (upd (upd (upd (fw) (0) (xa)) (1) (xb)) (2) (xc)) (3) (nI (0)))) := (congrFun eg59 (63)).trans ((va_up_ne _ _ (by decide)).trans fg57_1)
                have fg59_w : g59 (64) = .inl (cI, 8, .inl (upd (upd (upd (upd (upd (upd (upd (upd (fsz) (0) (nI (0))) (1) (nI (0))) (2) (nI (0))) (3) (nI (0))) (4) (nI (0))) (5) (nI (0))) (6) (nI (0))) (7) (nI (0)))) := (congrFun eg59 (64)).trans (va_up_self _ _ _)
                have hfrg59 : ∀ j : Nat, j ≠ 62 → j ≠ 63 → j ≠ 64 → g59 j = g j := fun j h0 h1 h2 => (congrFun eg59 j).trans ((va_up_ne _ _ h2).trans (hfrg57 j h0 h1 h2))
                refine lv_iinc (v := nI (8)) (lv' := [(7, .int (nI (8))), (6, .int (nI (hf xa + hf xb + hf xc + 0))), (8, .int (xc)), (0, .ref (ad (62))), (1, .int (nI (3))), (2, .int (xa)), (3, .int (xb)), (4, .int (xc)), (5, .int (xd))]) hx hb dX6_source_186 hl (k := 0) rfl (nI_add (7) 1) (by decide) rfl (fun ls hl => ?_)
                refine lv_goto (tgt := 171) hx hb dX6_source_189 (by decide) ?_
                refine lv_iload hx hb dX6_source_171 (lv_at hl 0 rfl) ?_
                refine lv_bipush (v := nI (8)) hx hb dX6_source_173 (by decide) ?_
                refine xi_icmp_ge (tgt := 192) hx hb (by decide) (by decide) dX6_source_175 (by decide) (fun _ => ?_) (fun c0 => absurd c0 (by decide))
                refine lv_aload_n hx hb dX6_source_192 rfl (lv_at hl 3 rfl) ?_
                refine lv_iconst (v := nI (0)) hx hb dX6_source_193 (by decide) ?_
                refine xw_put hx hb hts hin6 tyX6 tyX6_ok nmX6 hown hK hP hD hS (by decide) fg59_0 rfl 6 (by decide) hf76 rfl rfl (ty := .int) (by decide +kernel) rfl rfl (Nat.le_of_ble_eq_true rfl) (fs' := [.int (nI (3)), .int (nI (hf xa + hf xb + hf xc + 0)), .ref (ad (63)), .ref (ad (64)), .ref (ad (65)), .ref (ad (66)), .int (nI (0)), .long (tp), .long (bt), .long (nu), .long (de), .int (sq), .ref (ad (67)), .ref (ad (68)), .ref (ad (69)), .ref (ad (70)), .ref (ad (71)), .ref (ad (72)), .ref (ad (73)), .ref (ad (74)), .ref (ad (75)), .ref (ad (76)), .ref (ad (77)), .ref (ad (78)), .ref (ad (79)), .ref (ad (80))]) rfl dX6_source_194 (fun g61 H locs eg61 hP hS => ?_)
                have fg61_0 : g61 (63) = .inl (cI, 4, .inl (upd (upd (upd (upd (fw) (0) (xa)) (1) (xb)) (2) (xc)) (3) (nI (0)))) := (congrFun eg61 (63)).trans ((va_up_ne _ _ (by decide)).trans fg59_1)
                have fg61_1 : g61 (64) = .inl (cI, 8, .inl (upd (upd (upd (upd (upd (upd (upd (upd (fsz) (0) (nI (0))) (1) (nI (0))) (2) (nI (0))) (3) (nI (0))) (4) (nI (0))) (5) (nI (0))) (6) (nI (0))) (7) (nI (0)))) := (congrFun eg61 (64)).trans ((va_up_ne _ _ (by decide)).trans fg59_w)
                have fg61_w : g61 (62) = .inr (6, [.int (nI (3)), .int (nI (hf xa + hf xb + hf xc + 0)), .ref (ad (63)), .ref (ad (64)), .ref (ad (65)), .ref (ad (66)), .int (nI (0)), .long (tp), .long (bt), .long (nu), .long (de), .int (sq), .ref (ad (67)), .ref (ad (68)), .ref (ad (69)), .ref (ad (70)), .ref (ad (71)), .ref (ad (72)), .ref (ad (73)), .ref (ad (74)), .ref (ad (75)), .ref (ad (76)), .ref (ad (77)), .ref (ad (78)), .ref (ad (79)), .ref (ad (80))]) := (congrFun eg61 (62)).trans (va_up_self _ _ _)
                have hfrg61 : ∀ j : Nat, j ≠ 62 → j ≠ 63 → j ≠ 64 → g61 j = g j := fun j h0 h1 h2 => (congrFun eg61 j).trans ((va_up_ne _ _ h0).trans (hfrg59 j h0 h1 h2))
                refine lv_aload_n hx hb dX6_source_197 rfl (lv_at hl 3 rfl) ?_
                refine xw_get hx hb hts hin6 hown hK hP (by decide) fg61_w rfl 1 (by decide) hf13 rfl rfl dX6_source_198 ?_
                exact W.iret (v := nI (hf xa + hf xb + hf xc + 0)) hx hb hr (fun tZ ht hW => ⟨⟨_, g61, rfl, Or.inl ⟨rfl, c88_22, ⟨_, _, _, _, _, _, _, _, _, _, _, _, _, _, _, _, _, _, _, _, _, fg61_w, fg61_0, fg61_1, ((hfrg61) 65 (by decide) (by decide) (by decide)).trans fa65, ((hfrg61) 66 (by decide) (by decide) (by decide)).trans fa66, ((hfrg61) 67 (by decide) (by decide) (by decide)).trans fa67, ((hfrg61) 68 (by decide) (by decide) (by decide)).trans fa68, ((hfrg61) 69 (by decide) (by decide) (by decide)).trans fa69, ((hfrg61) 70 (by decide) (by decide) (by decide)).trans fa70, ((hfrg61) 71 (by decide) (by decide) (by decide)).trans fa71, ((hfrg61) 72 (by decide) (by decide) (by decide)).trans fa72, ((hfrg61) 73 (by decide) (by decide) (by decide)).trans fa73, ((hfrg61) 74 (by decide) (by decide) (by decide)).trans fa74, ((hfrg61) 75 (by decide) (by decide) (by decide)).trans fa75, ((hfrg61) 76 (by decide) (by decide) (by decide)).trans fa76, ((hfrg61) 77 (by decide) (by decide) (by decide)).trans fa77, ((hfrg61) 78 (by decide) (by decide) (by decide)).trans fa78, ((hfrg61) 79 (by decide) (by decide) (by decide)).trans fa79, ((hfrg61) 80 (by decide) (by decide) (by decide)).trans fa80, (wt4_ok exa exb exc rfl), sz8, (fun k j _ hj => absurd hj (Nat.not_lt_zero j)), (fun j hj => absurd hj (by omega))⟩, fun j hj => (hfrg61) j (by omega) (by omega) (by omega)⟩, by rw [ht]; exact hP, va_K.moved hW.alike hK, va_Nw.warmM hW hN⟩, hS.F ht⟩) hS.2.2 dX6_source_201
              · refine lv_iconst (v := (-1)) hx hb dX6_source_91 (by decide) ?_
                exact W.iret (v := (-1)) hx hb hr (fun tZ ht hW => ⟨⟨_, g, rfl, Or.inr ⟨rfl, by have h9 := c88_22; omega, hM, fun _ _ => rfl⟩, by rw [ht]; exact hP, va_K.moved hW.alike hK, va_Nw.warmM hW hN⟩, hS.F ht⟩) hS.2.2 dX6_source_92
            · refine lv_iconst (v := (-1)) hx hb dX6_source_70 (by decide) ?_
              exact W.iret (v := (-1)) hx hb hr (fun tZ ht hW => ⟨⟨_, g, rfl, Or.inr ⟨rfl, by have a1 := hf_1 xa; have a2 := hf_1 xb; have a3 := hf_1 xc; have a4 := hf_1 xd; have a5 := hf_no (x := xc) (Or.inr (Int32.not_le.mp c67_19)); omega, hM, fun _ _ => rfl⟩, by rw [ht]; exact hP, va_K.moved hW.alike hK, va_Nw.warmM hW hN⟩, hS.F ht⟩) hS.2.2 dX6_source_71
        · refine lv_iconst (v := (-1)) hx hb dX6_source_70 (by decide) ?_
          exact W.iret (v := (-1)) hx hb hr (fun tZ ht hW => ⟨⟨_, g, rfl, Or.inr ⟨rfl, by have a1 := hf_1 xa; have a2 := hf_1 xb; have a3 := hf_1 xc; have a4 := hf_1 xd; have a5 := hf_no (x := xb) (Or.inr (Int32.not_le.mp c67_12)); omega, hM, fun _ _ => rfl⟩, by rw [ht]; exact hP, va_K.moved hW.alike hK, va_Nw.warmM hW hN⟩, hS.F ht⟩) hS.2.2 dX6_source_71
    · refine lv_iconst (v := (-1)) hx hb dX6_source_70 (by decide) ?_
      exact W.iret (v := (-1)) hx hb hr (fun tZ ht hW => ⟨⟨_, g, rfl, Or.inr ⟨rfl, by have a1 := hf_1 xa; have a2 := hf_1 xb; have a3 := hf_1 xc; have a4 := hf_1 xd; have a5 := hf_no (x := xa) (Or.inr (Int32.not_le.mp c67_6)); omega, hM, fun _ _ => rfl⟩, by rw [ht]; exact hP, va_K.moved hW.alike hK, va_Nw.warmM hW hN⟩, hS.F ht⟩) hS.2.2 dX6_source_71

set_option maxHeartbeats 4000000 in
set_option maxRecDepth 100000 in
theorem mX6_source4 (l : Launch) {D : va_G} {cI cJ cZ cW : ClassId} {ad : Nat → Nat} {A : Nat → Prop} (hD : ∀ g, va_D A (xw 81 ad g)) {g : Nat → va_E} {q Wt : Nat} {w : Nat → Nat} {ln : Nat → Nat} {u : Nat → Nat → Nat} {T : Nat} {t : Nat → Nat} {tp bt : Int64} {xa xb xc xd : Int32}  (hM : ModI cI cJ ad g q Wt w ln u T t tp bt) (hs : SrcI q Wt w ln u T t) : Met l yX6_source wsX6_source ({ frames := 0, cells := 0, slots := 0, locals := 0 }) (va_Pc [.ref (ad (62)), .int (nI (4)), .int (xa), .int (xb), .int (xc), .int (xd)] (xB D (xT cI cJ cZ cW) ad g)) (va_Qi (fun r g2 => (r = nI (hf xa + hf xb + hf xc + hf xd) ∧ hf xa + hf xb + hf xc + hf xd ≤ 4 ∧ ModI cI cJ ad g2 4 (hf xa + hf xb + hf xc + hf xd) (wt4 (hf xa) (hf xb) (hf xc) (hf xd)) (fun _ => 0) u 0 t tp bt ∧ ∀ j : Nat, j < 62 → g2 j = g j) ∨ (r = -1 ∧ 4 < hf xa + hf xb + hf xc + hf xd ∧ ModI cI cJ ad g2 q Wt w ln u T t tp bt ∧ ∀ j : Nat, j < 62 → g2 j = g j)) (xB D (xT cI cJ cZ cW) ad) A) 0 0 A := by
  refine Met.ofW (cc := cX6_source) (maxL := 9) (ret := (some .int)) (by decide) rfl ?_
  intro p e s m args below meth c s₁ B hml hv
  obtain ⟨rfl, hP, hK, hN⟩ := hv
  have hx := B.exec
  have hb := B.bytes
  have hr := B.returns
  have hts := atoms_spec (ws := wsX6_source) B.pre
  have hown : s.vm.findClass RX6 = some m.cls := findClass_of_methodNamed B.named
  have hlocks := B.notSynchronized
  have hS : va_S A s.heap s.heap [] := va_S.rf
  have hin6 : ∀ w ∈ wsX60, w ∈ wsX6_source := by decide +kernel
  have hf7 := hts (.fieldLink RX6 7 "LettersByLotModel" "q" "I") (by decide +kernel)
  have hf13 := hts (.fieldLink RX6 13 "LettersByLotModel" "all" "I") (by decide +kernel)
  have hf16 := hts (.fieldLink RX6 16 "LettersByLotModel" "weight" "[I") (by decide +kernel)
  have hf20 := hts (.fieldLink RX6 20 "LettersByLotModel" "size" "[I") (by decide +kernel)
  have hf76 := hts (.fieldLink RX6 76 "LettersByLotModel" "written" "I") (by decide +kernel)
  have hl := lv_entry ([.ref (ad (62)), .int (nI (4)), .int (xa), .int (xb), .int (xc), .int (xd)]) (n := 9) (Nat.le_of_ble_eq_true rfl)
  rw [lg_entry_eq]
  generalize (lg_sl ([.ref (ad (62)), .int (nI (4)), .int (xa), .int (xb), .int (xc), .int (xd)]) ++ List.replicate (9 - (lg_sl ([.ref (ad (62)), .int (nI (4)), .int (xa), .int (xb), .int (xc), .int (xd)])).length) Slot.unset).toArray = ls at hl ⊢
  have hl : lv_has ls 9 [(0, .ref (ad (62))), (1, .int (nI (4))), (2, .int (xa)), (3, .int (xb)), (4, .int (xc)), (5, .int (xd))] := hl
  obtain ⟨hq2, hq4, hw1, hw0, hWs, hWt, hw, hln, hul, hT, ht⟩ := hs
  obtain ⟨sq, nu, de, fw, fsz, fwd, ftx, fos, foz, fgo, frw, fan, fad, frn, frd, fen, fed, fcn, fcd, fnw, fth, fo62, fa63, fa64, fa65, fa66, fa67, fa68, fa69, fa70, fa71, fa72, fa73, fa74, fa75, fa76, fa77, fa78, fa79, fa80, hfw, hsz, hwl, htx⟩ := id hM
  have hWp : 1 ≤ Wt ∧ Wt ≤ 4 := by have h8 := hw1 0 (by omega); have h9 := wsum_mono (w := w) (show 1 ≤ q by omega); have h7 : wsum w 1 = 0 + w 0 := rfl; omega
  refine lv_iload_n hx hb dX6_source_0 rfl (lv_at hl 1 rfl) ?_
  refine lv_iconst (v := nI (2)) hx hb dX6_source_1 (by decide) ?_
  refine xi_icmp_lt (tgt := 10) hx hb (by decide) (by decide) dX6_source_2 (by decide) (fun c0 => absurd c0 (by decide)) (fun _ => ?_)
  refine lv_iload_n hx hb dX6_source_5 rfl (lv_at hl 1 rfl) ?_
  refine lv_iconst (v := nI (4)) hx hb dX6_source_6 (by decide) ?_
  refine xi_icmp_le (tgt := 12) hx hb (by decide) (by decide) dX6_source_7 (by decide) (fun _ => ?_) (fun c0 => absurd c0 (by decide))
  refine lv_iconst (v := nI (0)) hx hb dX6_source_12 (by decide) ?_
  refine lv_istore (lv' := [(6, .int (nI (0))), (0, .ref (ad (62))), (1, .int (nI (4))), (2, .int (xa)), (3, .int (xb)), (4, .int (xc)), (5, .int (xd))]) hx hb dX6_source_13 hl (by decide) rfl (fun ls hl => ?_)
  refine lv_iconst (v := nI (0)) hx hb dX6_source_15 (by decide) ?_
  refine lv_istore (lv' := [(7, .int (nI (0))), (6, .int (nI (0))), (0, .ref (ad (62))), (1, .int (nI (4))), (2, .int (xa)), (3, .int (xb)), (4, .int (xc)), (5, .int (xd))]) hx hb dX6_source_16 hl (by decide) rfl (fun ls hl => ?_)
  refine lv_iload hx hb dX6_source_18 (lv_at hl 0 rfl) ?_
  refine lv_iload_n hx hb dX6_source_20 rfl (lv_at hl 3 rfl) ?_
  refine xi_icmp_ge (tgt := 85) hx hb (by decide) (by decide) dX6_source_21 (by decide) (fun c0 => absurd c0 (by decide)) (fun _ => ?_)
  refine lv_iload hx hb dX6_source_24 (lv_at hl 0 rfl) ?_
  refine xi_if_ne (tgt := 33) hx hb (by decide) dX6_source_26 (by decide) (fun c0 => absurd c0 (by decide)) (fun _ => ?_)
  refine lv_iload_n hx hb dX6_source_29 rfl (lv_at hl 4 rfl) ?_
  refine lv_goto (tgt := 56) hx hb dX6_source_30 (by decide) ?_
  refine lv_istore (lv' := [(8, .int (xa)), (7, .int (nI (0))), (6, .int (nI (0))), (0, .ref (ad (62))), (1, .int (nI (4))), (2, .int (xa)), (3, .int (xb)), (4, .int (xc)), (5, .int (xd))]) hx hb dX6_source_56 hl (by decide) rfl (fun ls hl => ?_)
  refine lv_iload hx hb dX6_source_58 (lv_at hl 0 rfl) ?_
  refine lv_iconst (v := nI (1)) hx hb dX6_source_60 (by decide) ?_
  refine lv_icmp_lt (tgt := 70) hx hb dX6_source_61 (by decide) (fun c61_5 => ?_) (fun c61_5 => ?_)
  · refine lv_iconst (v := (-1)) hx hb dX6_source_70 (by decide) ?_
    exact W.iret (v := (-1)) hx hb hr (fun tZ ht hW => ⟨⟨_, g, rfl, Or.inr ⟨rfl, by have a1 := hf_1 xa; have a2 := hf_1 xb; have a3 := hf_1 xc; have a4 := hf_1 xd; have a5 := hf_no (x := xa) (Or.inl c61_5); omega, hM, fun _ _ => rfl⟩, by rw [ht]; exact hP, va_K.moved hW.alike hK, va_Nw.warmM hW hN⟩, hS.F ht⟩) hS.2.2 dX6_source_71
  · refine lv_iload hx hb dX6_source_64 (lv_at hl 0 rfl) ?_
    refine lv_iconst (v := nI (4)) hx hb dX6_source_66 (by decide) ?_
    refine lv_icmp_le (tgt := 72) hx hb dX6_source_67 (by decide) (fun c67_6 => ?_) (fun c67_6 => ?_)
    · have exa := hf_yes c61_5 (Int32.not_lt.mpr c67_6)
      refine lv_iload hx hb dX6_source_72 (lv_at hl 2 rfl) ?_
      refine lv_iload hx hb dX6_source_74 (lv_at hl 0 rfl) ?_
      refine lv_iadd hx hb dX6_source_76 ?_
      refine xtopi (y := nI (hf xa)) ((hf_add exa).trans (congrArg nI (Nat.zero_add _))) ?_
      refine lv_istore (lv' := [(6, .int (nI (hf xa))), (8, .int (xa)), (7, .int (nI (0))), (0, .ref (ad (62))), (1, .int (nI (4))), (2, .int (xa)), (3, .int (xb)), (4, .int (xc)), (5, .int (xd))]) hx hb dX6_source_77 hl (by decide) rfl (fun ls hl => ?_)
      refine lv_iinc (v := nI (1)) (lv' := [(7, .int (nI (1))), (6, .int (nI (hf xa))), (8, .int (xa)), (0, .ref (ad (62))), (1, .int (nI (4))), (2, .int (xa)), (3, .int (xb)), (4, .int (xc)), (5, .int (xd))]) hx hb dX6_source_79 hl (k := 2) rfl (nI_add (0) 1) (by decide) rfl (fun ls hl => ?_)
      refine lv_goto (tgt := 18) hx hb dX6_source_82 (by decide) ?_
      refine lv_iload hx hb dX6_source_18 (lv_at hl 0 rfl) ?_
      refine lv_iload_n hx hb dX6_source_20 rfl (lv_at hl 4 rfl) ?_
      refine xi_icmp_ge (tgt := 85) hx hb (by decide) (by decide) dX6_source_21 (by decide) (fun c0 => absurd c0 (by decide)) (fun _ => ?_)
      refine lv_iload hx hb dX6_source_24 (lv_at hl 0 rfl) ?_
      refine xi_if_ne (tgt := 33) hx hb (by decide) dX6_source_26 (by decide) (fun _ => ?_) (fun c0 => absurd c0 (by decide))
      refine lv_iload hx hb dX6_source_33 (lv_at hl 0 rfl) ?_
      refine lv_iconst (v := nI (1)) hx hb dX6_source_35 (by decide) ?_
      refine xi_icmp_ne (tgt := 43) hx hb (by decide) (by decide) dX6_source_36 (by decide) (fun c0 => absurd c0 (by decide)) (fun _ => ?_)
      refine lv_iload_n hx hb dX6_source_39 rfl (lv_at hl 6 rfl) ?_
      refine lv_goto (tgt := 56) hx hb dX6_source_40 (by decide) ?_
      refine lv_istore (lv' := [(8, .int (xb)), (7, .int (nI (1))), (6, .int (nI (hf xa))), (0, .ref (ad (62))), (1, .int (nI (4))), (2, .int (xa)), (3, .int (xb)), (4, .int (xc)), (5, .int (xd))]) hx hb dX6_source_56 hl (by decide) rfl (fun ls hl => ?_)
      refine lv_iload hx hb dX6_source_58 (lv_at hl 0 rfl) ?_
      refine lv_iconst (v := nI (1)) hx hb dX6_source_60 (by decide) ?_
      refine lv_icmp_lt (tgt := 70) hx hb dX6_source_61 (by decide) (fun c61_11 => ?_) (fun c61_11 => ?_)
      · refine lv_iconst (v := (-1)) hx hb dX6_source_70 (by decide) ?_
        exact W.iret (v := (-1)) hx hb hr (fun tZ ht hW => ⟨⟨_, g, rfl, Or.inr ⟨rfl, by have a1 := hf_1 xa; have a2 := hf_1 xb; have a3 := hf_1 xc; have a4 := hf_1 xd; have a5 := hf_no (x := xb) (Or.inl c61_11); omega, hM, fun _ _ => rfl⟩, by rw [ht]; exact hP, va_K.moved hW.alike hK, va_Nw.warmM hW hN⟩, hS.F ht⟩) hS.2.2 dX6_source_71
      · refine lv_iload hx hb dX6_source_64 (lv_at hl 0 rfl) ?_
        refine lv_iconst (v := nI (4)) hx hb dX6_source_66 (by decide) ?_
        refine lv_icmp_le (tgt := 72) hx hb dX6_source_67 (by decide) (fun c67_12 => ?_) (fun c67_12 => ?_)
        · have exb := hf_yes c61_11 (Int32.not_lt.mpr c67_12)
          refine lv_iload hx hb dX6_source_72 (lv_at hl 2 rfl) ?_
          refine lv_iload hx hb dX6_source_74 (lv_at hl 0 rfl) ?_
          refine lv_iadd hx hb dX6_source_76 ?_
          refine xtopi (y := nI (hf xa + hf xb)) (hf_add exb) ?_
          refine lv_istore (lv' := [(6, .int (nI (hf xa + hf xb))), (8, .int (xb)), (7, .int (nI (1))), (0, .ref (ad (62))), (1, .int (nI (4))), (2, .int (xa)), (3, .int (xb)), (4, .int (xc)), (5, .int (xd))]) hx hb dX6_source_77 hl (by decide) rfl (fun ls hl => ?_)
          refine lv_iinc (v := nI (2)) (lv' := [(7, .int (nI (2))), (6, .int (nI (hf xa + hf xb))), (8, .int (xb)), (0, .ref (ad (62))), (1, .int (nI (4))), (2, .int (xa)), (3, .int (xb)), (4, .int (xc)), (5, .int (xd))]) hx hb dX6_source_79 hl (k := 2) rfl (nI_add (1) 1) (by decide) rfl (fun ls hl => ?_)
          refine lv_goto (tgt := 18) hx hb dX6_source_82 (by decide) ?_
          refine lv_iload hx hb dX6_source_18 (lv_at hl 0 rfl) ?_
          refine lv_iload_n hx hb dX6_source_20 rfl (lv_at hl 4 rfl) ?_
          refine xi_icmp_ge (tgt := 85) hx hb (by decide) (by decide) dX6_source_21 (by decide) (fun c0 => absurd c0 (by decide)) (fun _ => ?_)
          refine lv_iload hx hb dX6_source_24 (lv_at hl 0 rfl) ?_
          refine xi_if_ne (tgt := 33) hx hb (by decide) dX6_source_26 (by decide) (fun _ => ?_) (fun c0 => absurd c0 (by decide))
          refine lv_iload hx hb dX6_source_33 (lv_at hl 0 rfl) ?_
          refine lv_iconst (v := nI (1)) hx hb dX6_source_35 (by decide) ?_
          refine xi_icmp_ne (tgt := 43) hx hb (by decide) (by decide) dX6_source_36 (by decide) (fun _ => ?_) (fun c0 => absurd c0 (by decide))
          refine lv_iload hx hb dX6_source_43 (lv_at hl 0 rfl) ?_
          refine lv_iconst (v := nI (2)) hx hb dX6_source_45 (by decide) ?_
          refine xi_icmp_ne (tgt := 54) hx hb (by decide) (by decide) dX6_source_46 (by decide) (fun c0 => absurd c0 (by decide)) (fun _ => ?_)
          refine lv_iload hx hb dX6_source_49 (lv_at hl 7 rfl) ?_
          refine lv_goto (tgt := 56) hx hb dX6_source_51 (by decide) ?_
          refine lv_istore (lv' := [(8, .int (xc)), (7, .int (nI (2))), (6, .int (nI (hf xa + hf xb))), (0, .ref (ad (62))), (1, .int (nI (4))), (2, .int (xa)), (3, .int (xb)), (4, .int (xc)), (5, .int (xd))]) hx hb dX6_source_56 hl (by decide) rfl (fun ls hl => ?_)
          refine lv_iload hx hb dX6_source_58 (lv_at hl 0 rfl) ?_
          refine lv_iconst (v := nI (1)) hx hb dX6_source_60 (by decide) ?_
          refine lv_icmp_lt (tgt := 70) hx hb dX6_source_61 (by decide) (fun c61_18 => ?_) (fun c61_18 => ?_)
          · refine lv_iconst (v := (-1)) hx hb dX6_source_70 (by decide) ?_
            exact W.iret (v := (-1)) hx hb hr (fun tZ ht hW => ⟨⟨_, g, rfl, Or.inr ⟨rfl, by have a1 := hf_1 xa; have a2 := hf_1 xb; have a3 := hf_1 xc; have a4 := hf_1 xd; have a5 := hf_no (x := xc) (Or.inl c61_18); omega, hM, fun _ _ => rfl⟩, by rw [ht]; exact hP, va_K.moved hW.alike hK, va_Nw.warmM hW hN⟩, hS.F ht⟩) hS.2.2 dX6_source_71
          · refine lv_iload hx hb dX6_source_64 (lv_at hl 0 rfl) ?_
            refine lv_iconst (v := nI (4)) hx hb dX6_source_66 (by decide) ?_
            refine lv_icmp_le (tgt := 72) hx hb dX6_source_67 (by decide) (fun c67_19 => ?_) (fun c67_19 => ?_)
            · have exc := hf_yes c61_18 (Int32.not_lt.mpr c67_19)
              refine lv_iload hx hb dX6_source_72 (lv_at hl 2 rfl) ?_
              refine lv_iload hx hb dX6_source_74 (lv_at hl 0 rfl) ?_
              refine lv_iadd hx hb dX6_source_76 ?_
              refine xtopi (y := nI (hf xa + hf xb + hf xc)) (hf_add exc) ?_
              refine lv_istore (lv' := [(6, .int (nI (hf xa + hf xb + hf xc))), (8, .int (xc)), (7, .int (nI (2))), (0, .ref (ad (62))), (1, .int (nI (4))), (2, .int (xa)), (3, .int (xb)), (4, .int (xc)), (5, .int (xd))]) hx hb dX6_source_77 hl (by decide) rfl (fun ls hl => ?_)
              refine lv_iinc (v := nI (3)) (lv' := [(7, .int (nI (3))), (6, .int (nI (hf xa + hf xb + hf xc))), (8, .int (xc)), (0, .ref (ad (62))), (1, .int (nI (4))), (2, .int (xa)), (3, .int (xb)), (4, .int (xc)), (5, .int (xd))]) hx hb dX6_source_79 hl (k := 2) rfl (nI_add (2) 1) (by decide) rfl (fun ls hl => ?_)
              refine lv_goto (tgt := 18) hx hb dX6_source_82 (by decide) ?_
              refine lv_iload hx hb dX6_source_18 (lv_at hl 0 rfl) ?_
              refine lv_iload_n hx hb dX6_source_20 rfl (lv_at hl 4 rfl) ?_
              refine xi_icmp_ge (tgt := 85) hx hb (by decide) (by decide) dX6_source_21 (by decide) (fun c0 => absurd c0 (by decide)) (fun _ => ?_)
              refine lv_iload hx hb dX6_source_24 (lv_at hl 0 rfl) ?_
              refine xi_if_ne (tgt := 33) hx hb (by decide) dX6_source_26 (by decide) (fun _ => ?_) (fun c0 => absurd c0 (by decide))
              refine lv_iload hx hb dX6_source_33 (lv_at hl 0 rfl) ?_
              refine lv_iconst (v := nI (1)) hx hb dX6_source_35 (by decide) ?_
              refine xi_icmp_ne (tgt := 43) hx hb (by decide) (by decide) dX6_source_36 (by decide) (fun _ => ?_) (fun c0 => absurd c0 (by decide))
              refine lv_iload hx hb dX6_source_43 (lv_at hl 0 rfl) ?_
              refine lv_iconst (v := nI (2)) hx hb dX6_source_45 (by decide) ?_
              refine xi_icmp_ne (tgt := 54) hx hb (by decide) (by decide) dX6_source_46 (by decide) (fun _ => ?_) (fun c0 => absurd c0 (by decide))
              refine lv_iload hx hb dX6_source_54 (lv_at hl 8 rfl) ?_
              refine lv_istore (lv' := [(8, .int (xd)), (7, .int (nI (3))), (6, .int (nI (hf xa + hf xb + hf xc))), (0, .ref (ad (62))), (1, .int (nI (4))), (2, .int (xa)), (3, .int (xb)), (4, .int (xc)), (5, .int (xd))]) hx hb dX6_source_56 hl (by decide) rfl (fun ls hl => ?_)
              refine lv_iload hx hb dX6_source_58 (lv_at hl 0 rfl) ?_
              refine lv_iconst (v := nI (1)) hx hb dX6_source_60 (by decide) ?_
              refine lv_icmp_lt (tgt := 70) hx hb dX6_source_61 (by decide) (fun c61_25 => ?_) (fun c61_25 => ?_)
              · refine lv_iconst (v := (-1)) hx hb dX6_source_70 (by decide) ?_
                exact W.iret (v := (-1)) hx hb hr (fun tZ ht hW => ⟨⟨_, g, rfl, Or.inr ⟨rfl, by have a1 := hf_1 xa; have a2 := hf_1 xb; have a3 := hf_1 xc; have a4 := hf_1 xd; have a5 := hf_no (x := xd) (Or.inl c61_25); omega, hM, fun _ _ => rfl⟩, by rw [ht]; exact hP, va_K.moved hW.alike hK, va_Nw.warmM hW hN⟩, hS.F ht⟩) hS.2.2 dX6_source_71
              · refine lv_iload hx hb dX6_source_64 (lv_at hl 0 rfl) ?_
                refine lv_iconst (v := nI (4)) hx hb dX6_source_66 (by decide) ?_
                refine lv_icmp_le (tgt := 72) hx hb dX6_source_67 (by decide) (fun c67_26 => ?_) (fun c67_26 => ?_)
                · have exd := hf_yes c61_25 (Int32.not_lt.mpr c67_26)
                  refine lv_iload hx hb dX6_source_72 (lv_at hl 2 rfl) ?_
                  refine lv_iload hx hb dX6_source_74 (lv_at hl 0 rfl) ?_
                  refine lv_iadd hx hb dX6_source_76 ?_
                  refine xtopi (y := nI (hf xa + hf xb + hf xc + hf xd)) (hf_add exd) ?_
                  refine lv_istore (lv' := [(6, .int (nI (hf xa + hf xb + hf xc + hf xd))), (8, .int (xd)), (7, .int (nI (3))), (0, .ref (ad (62))), (1, .int (nI (4))), (2, .int (xa)), (3, .int (xb)), (4, .int (xc)), (5, .int (xd))]) hx hb dX6_source_77 hl (by decide) rfl (fun ls hl => ?_)
                  refine lv_iinc (v := nI (4)) (lv' := [(7, .int (nI (4))), (6, .int (nI (hf xa + hf xb + hf xc + hf xd))), (8, .int (xd)), (0, .ref (ad (62))), (1, .int (nI (4))), (2, .int (xa)), (3, .int (xb)), (4, .int (xc)), (5, .int (xd))]) hx hb dX6_source_79 hl (k := 2) rfl (nI_add (3) 1) (by decide) rfl (fun ls hl => ?_)
                  refine lv_goto (tgt := 18) hx hb dX6_source_82 (by decide) ?_
                  refine lv_iload hx hb dX6_source_18 (lv_at hl 0 rfl) ?_
                  refine lv_iload_n hx hb dX6_source_20 rfl (lv_at hl 4 rfl) ?_
                  refine xi_icmp_ge (tgt := 85) hx hb (by decide) (by decide) dX6_source_21 (by decide) (fun _ => ?_) (fun c0 => absurd c0 (by decide))
                  refine lv_iload hx hb dX6_source_85 (lv_at hl 1 rfl) ?_
                  refine lv_iconst (v := nI (4)) hx hb dX6_source_87 (by decide) ?_
                  refine xi_icmp_le (tgt := 93) hx hb (by have := hf_le xa; have := hf_le xb; have := hf_le xc; have := hf_le xd; omega) (by decide) dX6_source_88 (by decide) (fun c88_29 => ?_) (fun c88_29 => ?_)
                  · refine lv_aload_n hx hb dX6_source_93 rfl (lv_at hl 3 rfl) ?_
                    refine lv_iload_n hx hb dX6_source_94 rfl (lv_at hl 4 rfl) ?_
                    refine xw_put hx hb hts hin6 tyX6 tyX6_ok nmX6 hown hK hP hD hS (by decide) fo62 rfl 0 (by decide) hf7 rfl rfl (ty := .int) (by decide +kernel) rfl rfl (Nat.le_of_ble_eq_true rfl) (fs' := [.int (nI (4)), .int (nI (Wt)), .ref (ad (63)), .ref (ad (64)), .ref (ad (65)), .ref (ad (66)), .int (nI (T)), .long (tp), .long (bt), .long (nu), .long (de), .int (sq), .ref (ad (67)), .ref (ad (68)), .ref (ad (69)), .ref (ad (70)), .ref (ad (71)), .ref (ad (72)), .ref (ad (73)), .ref (ad (74)), .ref (ad (75)), .ref (ad (76)), .ref (ad (77)), .ref (ad (78)), .ref (ad (79)), .ref (ad (80))]) rfl dX6_source_95 (fun g30 H locs eg30 hP hS => ?_)
                    have fg30_0 : g30 (63) = .inl (cI, 4, .inl (fw)) := (congrFun eg30 (63)).trans ((va_up_ne _ _ (by decide)).trans fa63)
                    have fg30_1 : g30 (64) = .inl (cI, 8, .inl (fsz)) := (congrFun eg30 (64)).trans ((va_up_ne _ _ (by decide)).trans fa64)
                    have fg30_w : g30 (62) = .inr (6, [.int (nI (4)), .int (nI (Wt)), .ref (ad (63)), .ref (ad (64)), .ref (ad (65)), .ref (ad (66)), .int (nI (T)), .long (tp), .long (bt), .long (nu), .long (de), .int (sq), .ref (ad (67)), .ref (ad (68)), .ref (ad (69)), .ref (ad (70)), .ref (ad (71)), .ref (ad (72)), .ref (ad (73)), .ref (ad (74)), .ref (ad (75)), .ref (ad (76)), .ref (ad (77)), .ref (ad (78)), .ref (ad (79)), .ref (ad (80))]) := (congrFun eg30 (62)).trans (va_up_self _ _ _)
                    have hfrg30 : ∀ j : Nat, j ≠ 62 → j ≠ 63 → j ≠ 64 → g30 j = g j := fun j h0 h1 h2 => (congrFun eg30 j).trans ((va_up_ne _ _ h0).trans ((fun _ _ _ _ => rfl) j h0 h1 h2))
                    refine lv_aload_n hx hb dX6_source_98 rfl (lv_at hl 3 rfl) ?_
                    refine lv_iload hx hb dX6_source_99 (lv_at hl 1 rfl) ?_
                    refine xw_put hx hb hts hin6 tyX6 tyX6_ok nmX6 hown hK hP hD hS (by decide) fg30_w rfl 1 (by decide) hf13 rfl rfl (ty := .int) (by decide +kernel) rfl rfl (Nat.le_of_ble_eq_true rfl) (fs' := [.int (nI (4)), .int (nI (hf xa + hf xb + hf xc + hf xd)), .ref (ad (63)), .ref (ad (64)), .ref (ad (65)), .ref (ad (66)), .int (nI (T)), .long (tp), .long (bt), .long (nu), .long (de), .int (sq), .ref (ad (67)), .ref (ad (68)), .ref (ad (69)), .ref (ad (70)), .ref (ad (71)), .ref (ad (72)), .ref (ad (73)), .ref (ad (74)), .ref (ad (75)), .ref (ad (76)), .ref (ad (77)), .ref (ad (78)), .ref (ad (79)), .ref (ad (80))]) rfl dX6_source_101 (fun g31 H locs eg31 hP hS => ?_)
                    have fg31_0 : g31 (63) = .inl (cI, 4, .inl (fw)) := (congrFun eg31 (63)).trans ((va_up_ne _ _ (by decide)).trans fg30_0)
                    have fg31_1 : g31 (64) = .inl (cI, 8, .inl (fsz)) := (congrFun eg31 (64)).trans ((va_up_ne _ _ (by decide)).trans fg30_1)
                    have fg31_w : g31 (62) = .inr (6, [.int (nI (4)), .int (nI (hf xa + hf xb + hf xc + hf xd)), .ref (ad (63)), .ref (ad (64)), .ref (ad (65)), .ref (ad (66)), .int (nI (T)), .long (tp), .long (bt), .long (nu), .long (de), .int (sq), .ref (ad (67)), .ref (ad (68)), .ref (ad (69)), .ref (ad (70)), .ref (ad (71)), .ref (ad (72)), .ref (ad (73)), .ref (ad (74)), .ref (ad (75)), .ref (ad (76)), .ref (ad (77)), .ref (ad (78)), .ref (ad (79)), .ref (ad (80))]) := (congrFun eg31 (62)).trans (va_up_self _ _ _)
                    have hfrg31 : ∀ j : Nat, j ≠ 62 → j ≠ 63 → j ≠ 64 → g31 j = g j := fun j h0 h1 h2 => (congrFun eg31 j).trans ((va_up_ne _ _ h0).trans (hfrg30 j h0 h1 h2))
                    refine lv_iconst (v := nI (0)) hx hb dX6_source_104 (by decide) ?_
                    refine lv_istore (lv' := [(7, .int (nI (0))), (6, .int (nI (hf xa + hf xb + hf xc + hf xd))), (8, .int (xd)), (0, .ref (ad (62))), (1, .int (nI (4))), (2, .int (xa)), (3, .int (xb)), (4, .int (xc)), (5, .int (xd))]) hx hb dX6_source_105 hl (by decide) rfl (fun ls hl => ?_)
                    refine lv_iload hx hb dX6_source_107 (lv_at hl 0 rfl) ?_
                    refine lv_iconst (v := nI (4)) hx hb dX6_source_109 (by decide) ?_
                    refine xi_icmp_ge (tgt := 168) hx hb (by decide) (by decide) dX6_source_110 (by decide) (fun c0 => absurd c0 (by decide)) (fun _ => ?_)
                    refine lv_aload_n hx hb dX6_source_113 rfl (lv_at hl 3 rfl) ?_
                    refine xw_get hx hb hts hin6 hown hK hP (by decide) fg31_w rfl 2 (by decide) hf16 rfl rfl dX6_source_114 ?_
                    refine lv_iload hx hb dX6_source_117 (lv_at hl 0 rfl) ?_
                    refine lv_iload hx hb dX6_source_119 (lv_at hl 0 rfl) ?_
                    refine lv_iload_n hx hb dX6_source_121 rfl (lv_at hl 4 rfl) ?_
                    refine xi_icmp_lt (tgt := 129) hx hb (by decide) (by decide) dX6_source_122 (by decide) (fun _ => ?_) (fun c0 => absurd c0 (by decide))
                    refine lv_iload hx hb dX6_source_129 (lv_at hl 0 rfl) ?_
                    refine xi_if_ne (tgt := 138) hx hb (by decide) dX6_source_131 (by decide) (fun c0 => absurd c0 (by decide)) (fun _ => ?_)
                    refine lv_iload_n hx hb dX6_source_134 rfl (lv_at hl 5 rfl) ?_
                    refine lv_goto (tgt := 161) hx hb dX6_source_135 (by decide) ?_
                    refine xw_iast hx hb hK hP hD hS (by decide) 0 fg31_0 rfl (by omega) (by decide) dX6_source_161 (fun g35 H locs eg35 hP hS => ?_)
                    have fg35_0 : g35 (64) = .inl (cI, 8, .inl (fsz)) := (congrFun eg35 (64)).trans ((va_up_ne _ _ (by decide)).trans fg31_1)
                    have fg35_1 : g35 (62) = .inr (6, [.int (nI (4)), .int (nI (hf xa + hf xb + hf xc + hf xd)), .ref (ad (63)), .ref (ad (64)), .ref (ad (65)), .ref (ad (66)), .int (nI (T)), .long (tp), .long (bt), .long (nu), .long (de), .int (sq), .ref (ad (67)), .ref (ad (68)), .ref (ad (69)), .ref (ad (70)), .ref (ad (71)), .ref (ad (72)), .ref (ad (73)), .ref (ad (74)), .ref (ad (75)), .ref (ad (76)), .ref (ad (77)), .ref (ad (78)), .ref (ad (79)), .ref (ad (80))]) := (congrFun eg35 (62)).trans ((va_up_ne _ _ (by decide)).trans fg31_w)
                    have fg35_w : g35 (63) = .inl (cI, 4, .inl (upd (fw) (0) (xa))) := (congrFun eg35 (63)).trans (va_up_self _ _ _)
                    have hfrg35 : ∀ j : Nat, j ≠ 62 → j ≠ 63 → j ≠ 64 → g35 j = g j := fun j h0 h1 h2 => (congrFun eg35 j).trans ((va_up_ne _ _ h1).trans (hfrg31 j h0 h1 h2))
                    refine lv_iinc (v := nI (1)) (lv' := [(7, .int (nI (1))), (6, .int (nI (hf xa + hf xb + hf xc + hf xd))), (8, .int (xd)), (0, .ref (ad (62))), (1, .int (nI (4))), (2, .int (xa)), (3, .int (xb)), (4, .int (xc)), (5, .int (xd))]) hx hb dX6_source_162 hl (k := 0) rfl (nI_add (0) 1) (by decide) rfl (fun ls hl => ?_)
                    refine lv_goto (tgt := 107) hx hb dX6_source_165 (by decide) ?_
                    refine lv_iload hx hb dX6_source_107 (lv_at hl 0 rfl) ?_
                    refine lv_iconst (v := nI (4)) hx hb dX6_source_109 (by decide) ?_
                    refine xi_icmp_ge (tgt := 168) hx hb (by decide) (by decide) dX6_source_110 (by decide) (fun c0 => absurd c0 (by decide)) (fun _ => ?_)
                    refine lv_aload_n hx hb dX6_source_113 rfl (lv_at hl 3 rfl) ?_
                    refine xw_get hx hb hts hin6 hown hK hP (by decide) fg35_1 rfl 2 (by decide) hf16 rfl rfl dX6_source_114 ?_
                    refine lv_iload hx hb dX6_source_117 (lv_at hl 0 rfl) ?_
                    refine lv_iload hx hb dX6_source_119 (lv_at hl 0 rfl) ?_
                    refine lv_iload_n hx hb dX6_source_121 rfl (lv_at hl 4 rfl) ?_
                    refine xi_icmp_lt (tgt := 129) hx hb (by decide) (by decide) dX6_source_122 (by decide) (fun _ => ?_) (fun c0 => absurd c0 (by decide))
                    refine lv_iload hx hb dX6_source_129 (lv_at hl 0 rfl) ?_
                    refine xi_if_ne (tgt := 138) hx hb (by decide) dX6_source_131 (by decide) (fun _ => ?_) (fun c0 => absurd c0 (by decide))
                    refine lv_iload hx hb dX6_source_138 (lv_at hl 0 rfl) ?_
                    refine lv_iconst (v := nI (1)) hx hb dX6_source_140 (by decide) ?_
                    refine xi_icmp_ne (tgt := 148) hx hb (by decide) (by decide) dX6_source_141 (by decide) (fun c0 => absurd c0 (by decide)) (fun _ => ?_)
                    refine lv_iload_n hx hb dX6_source_144 rfl (lv_at hl 6 rfl) ?_
                    refine lv_goto (tgt := 161) hx hb dX6_source_145 (by decide) ?_
                    refine xw_iast hx hb hK hP hD hS (by decide) 0 fg35_w rfl (by omega) (by decide) dX6_source_161 (fun g40 H locs eg40 hP hS => ?_)
                    have fg40_0 : g40 (64) = .inl (cI, 8, .inl (fsz)) := (congrFun eg40 (64)).trans ((va_up_ne _ _ (by decide)).trans fg35_0)
                    have fg40_1 : g40 (62) = .inr (6, [.int (nI (4)), .int (nI (hf xa + hf xb + hf xc + hf xd)), .ref (ad (63)), .ref (ad (64)), .ref (ad (65)), .ref (ad (66)), .int (nI (T)), .long (tp), .long (bt), .long (nu), .long (de), .int (sq), .ref (ad (67)), .ref (ad (68)), .ref (ad (69)), .ref (ad (70)), .ref (ad (71)), .ref (ad (72)), .ref (ad (73)), .ref (ad (74)), .ref (ad (75)), .ref (ad (76)), .ref (ad (77)), .ref (ad (78)), .ref (ad (79)), .ref (ad (80))]) := (congrFun eg40 (62)).trans ((va_up_ne _ _ (by decide)).trans fg35_1)
                    have fg40_w : g40 (63) = .inl (cI, 4, .inl (upd (upd (fw) (0) (xa)) (1) (xb))) := (congrFun eg40 (63)).trans (va_up_self _ _ _)
                    have hfrg40 : ∀ j : Nat, j ≠ 62 → j ≠ 63 → j ≠ 64 → g40 j = g j := fun j h0 h1 h2 => (congrFun eg40 j).trans ((va_up_ne _ _ h1).trans (hfrg35 j h0 h1 h2))
                    refine lv_iinc (v := nI (2)) (lv' := [(7, .int (nI (2))), (6, .int (nI (hf xa + hf xb + hf xc + hf xd))), (8, .int (xd)), (0, .ref (ad (62))), (1, .int (nI (4))), (2, .int (xa)), (3, .int (xb)), (4, .int (xc)), (5, .int (xd))]) hx hb dX6_source_162 hl (k := 0) rfl (nI_add (1) 1) (by decide) rfl (fun ls hl => ?_)
                    refine lv_goto (tgt := 107) hx hb dX6_source_165 (by decide) ?_
                    refine lv_iload hx hb dX6_source_107 (lv_at hl 0 rfl) ?_
                    refine lv_iconst (v := nI (4)) hx hb dX6_source_109 (by decide) ?_
                    refine xi_icmp_ge (tgt := 168) hx hb (by decide) (by decide) dX6_source_110 (by decide) (fun c0 => absurd c0 (by decide)) (fun _ => ?_)
                    refine lv_aload_n hx hb dX6_source_113 rfl (lv_at hl 3 rfl) ?_
                    refine xw_get hx hb hts hin6 hown hK hP (by decide) fg40_1 rfl 2 (by decide) hf16 rfl rfl dX6_source_114 ?_
                    refine lv_iload hx hb dX6_source_117 (lv_at hl 0 rfl) ?_
                    refine lv_iload hx hb dX6_source_119 (lv_at hl 0 rfl) ?_
                    refine lv_iload_n hx hb dX6_source_121 rfl (lv_at hl 4 rfl) ?_
                    refine xi_icmp_lt (tgt := 129) hx hb (by decide) (by decide) dX6_source_122 (by decide) (fun _ => ?_) (fun c0 => absurd c0 (by decide))
                    refine lv_iload hx hb dX6_source_129 (lv_at hl 0 rfl) ?_
                    refine xi_if_ne (tgt := 138) hx hb (by decide) dX6_source_131 (by decide) (fun _ => ?_) (fun c0 => absurd c0 (by decide))
                    refine lv_iload hx hb dX6_source_138 (lv_at hl 0 rfl) ?_
                    refine lv_iconst (v := nI (1)) hx hb dX6_source_140 (by decide) ?_
                    refine xi_icmp_ne (tgt := 148) hx hb (by decide) (by decide) dX6_source_141 (by decide) (fun _ => ?_) (fun c0 => absurd c0 (by decide))
                    refine lv_iload hx hb dX6_source_148 (lv_at hl 0 rfl) ?_
                    refine lv_iconst (v := nI (2)) hx hb dX6_source_150 (by decide) ?_
                    refine xi_icmp_ne (tgt := 159) hx hb (by decide) (by decide) dX6_source_151 (by decide) (fun c0 => absurd c0 (by decide)) (fun _ => ?_)
                    refine lv_iload hx hb dX6_source_154 (lv_at hl 7 rfl) ?_
                    refine lv_goto (tgt := 161) hx hb dX6_source_156 (by decide) ?_
                    refine xw_iast hx hb hK hP hD hS (by decide) 0 fg40_w rfl (by omega) (by decide) dX6_source_161 (fun g46 H locs eg46 hP hS => ?_)
                    have fg46_0 : g46 (64) = .inl (cI, 8, .inl (fsz)) := (congrFun eg46 (64)).trans ((va_up_ne _ _ (by decide)).trans fg40_0)
                    have fg46_1 : g46 (62) = .inr (6, [.int (nI (4)), .int (nI (hf xa + hf xb + hf xc + hf xd)), .ref (ad (63)), .ref (ad (64)), .ref (ad (65)), .ref (ad (66)), .int (nI (T)), .long (tp), .long (bt), .long (nu), .long (de), .int (sq), .ref (ad (67)), .ref (ad (68)), .ref (ad (69)), .ref (ad (70)), .ref (ad (71)), .ref (ad (72)), .ref (ad (73)), .ref (ad (74)), .ref (ad (75)), .ref (ad (76)), .ref (ad (77)), .ref (ad (78)), .ref (ad (79)), .ref (ad (80))]) := (congrFun eg46 (62)).trans ((va_up_ne _ _ (by decide)).trans fg40_1)
                    have fg46_w : g46 (63) = .inl (cI, 4, .inl (upd (upd (upd (fw) (0) (xa)) (1) (xb)) (2) (xc))) := (congrFun eg46 (63)).trans (va_up_self _ _ _)
                    have hfrg46 : ∀ j : Nat, j ≠ 62 → j ≠ 63 → j ≠ 64 → g46 j = g j := fun j h0 h1 h2 => (congrFun eg46 j).trans ((va_up_ne _ _ h1).trans (hfrg40 j h0 h1 h2))
                    refine lv_iinc (v := nI (3)) (lv' := [(7, .int (nI (3))), (6, .int (nI (hf xa + hf xb + hf xc + hf xd))), (8, .int (xd)), (0, .ref (ad (62))), (1, .int (nI (4))), (2, .int (xa)), (3, .int (xb)), (4, .int (xc)), (5, .int (xd))]) hx hb dX6_source_162 hl (k := 0) rfl (nI_add (2) 1) (by decide) rfl (fun ls hl => ?_)
                    refine lv_goto (tgt := 107) hx hb dX6_source_165 (by decide) ?_
                    refine lv_iload hx hb dX6_source_107 (lv_at hl 0 rfl) ?_
                    refine lv_iconst (v := nI (4)) hx hb dX6_source_109 (by decide) ?_
                    refine xi_icmp_ge (tgt := 168) hx hb (by decide) (by decide) dX6_source_110 (by decide) (fun c0 => absurd c0 (by decide)) (fun _ => ?_)
                    refine lv_aload_n hx hb dX6_source_113 rfl (lv_at hl 3 rfl) ?_
                    refine xw_get hx hb hts hin6 hown hK hP (by decide) fg46_1 rfl 2 (by decide) hf16 rfl rfl dX6_source_114 ?_
                    refine lv_iload hx hb dX6_source_117 (lv_at hl 0 rfl) ?_
                    refine lv_iload hx hb dX6_source_119 (lv_at hl 0 rfl) ?_
                    refine lv_iload_n hx hb dX6_source_121 rfl (lv_at hl 4 rfl) ?_
                    refine xi_icmp_lt (tgt := 129) hx hb (by decide) (by decide) dX6_source_122 (by decide) (fun _ => ?_) (fun c0 => absurd c0 (by decide))
                    refine lv_iload hx hb dX6_source_129 (lv_at hl 0 rfl) ?_
                    refine xi_if_ne (tgt := 138) hx hb (by decide) dX6_source_131 (by decide) (fun _ => ?_) (fun c0 => absurd c0 (by decide))
                    refine lv_iload hx hb dX6_source_138 (lv_at hl 0 rfl) ?_
                    refine lv_iconst (v := nI (1)) hx hb dX6_source_140 (by decide) ?_
                    refine xi_icmp_ne (tgt := 148) hx hb (by decide) (by decide) dX6_source_141 (by decide) (fun _ => ?_) (fun c0 => absurd c0 (by decide))
                    refine lv_iload hx hb dX6_source_148 (lv_at hl 0 rfl) ?_
                    refine lv_iconst (v := nI (2)) hx hb dX6_source_150 (by decide) ?_
                    refine xi_icmp_ne (tgt := 159) hx hb (by decide) (by decide) dX6_source_151 (by decide) (fun _ => ?_) (fun c0 => absurd c0 (by decide))
                    refine lv_iload hx hb dX6_source_159 (lv_at hl 8 rfl) ?_
                    refine xw_iast hx hb hK hP hD hS (by decide) 0 fg46_w rfl (by omega) (by decide) dX6_source_161 (fun g52 H locs eg52 hP hS => ?_)
                    have fg52_0 : g52 (64) = .inl (cI, 8, .inl (fsz)) := (congrFun eg52 (64)).trans ((va_up_ne _ _ (by decide)).trans fg46_0)
                    have fg52_1 : g52 (62) = .inr (6, [.int (nI (4)), .int (nI (hf xa + hf xb + hf xc + hf xd)), .ref (ad (63)), .ref (ad (64)), .ref (ad (65)), .ref (ad (66)), .int (nI (T)), .long (tp), .long (bt), .long (nu), .long (de), .int (sq), .ref (ad (67)), .ref (ad (68)), .ref (ad (69)), .ref (ad (70)), .ref (ad (71)), .ref (ad (72)), .ref (ad (73)), .ref (ad (74)), .ref (ad (75)), .ref (ad (76)), .ref (ad (77)), .ref (ad (78)), .ref (ad (79)), .ref (ad (80))]) := (congrFun eg52 (62)).trans ((va_up_ne _ _ (by decide)).trans fg46_1)
                    have fg52_w : g52 (63) = .inl (cI, 4, .inl (upd (upd (upd (upd (fw) (0) (xa)) (1) (xb)) (2) (xc)) (3) (xd))) := (congrFun eg52 (63)).trans (va_up_self _ _ _)
                    have hfrg52 : ∀ j : Nat, j ≠ 62 → j ≠ 63 → j ≠ 64 → g52 j = g j := fun j h0 h1 h2 => (congrFun eg52 j).trans ((va_up_ne _ _ h1).trans (hfrg46 j h0 h1 h2))
                    refine lv_iinc (v := nI (4)) (lv' := [(7, .int (nI (4))), (6, .int (nI (hf xa + hf xb + hf xc + hf xd))), (8, .int (xd)), (0, .ref (ad (62))), (1, .int (nI (4))), (2, .int (xa)), (3, .int (xb)), (4, .int (xc)), (5, .int (xd))]) hx hb dX6_source_162 hl (k := 0) rfl (nI_add (3) 1) (by decide) rfl (fun ls hl => ?_)
                    refine lv_goto (tgt := 107) hx hb dX6_source_165 (by decide) ?_
                    refine lv_iload hx hb dX6_source_107 (lv_at hl 0 rfl) ?_
                    refine lv_iconst (v := nI (4)) hx hb dX6_source_109 (by decide) ?_
                    refine xi_icmp_ge (tgt := 168) hx hb (by decide) (by decide) dX6_source_110 (by decide) (fun _ => ?_) (fun c0 => absurd c0 (by decide))
                    refine lv_iconst (v := nI (0)) hx hb dX6_source_168 (by decide) ?_
                    refine lv_istore (lv' := [(7, .int (nI (0))), (6, .int (nI (hf xa + hf xb + hf xc + hf xd))), (8, .int (xd)), (0, .ref (ad (62))), (1, .int (nI (4))), (2, .int (xa)), (3, .int (xb)), (4, .int (xc)), (5, .int (xd))]) hx hb dX6_source_169 hl (by decide) rfl (fun ls hl => ?_)
                    refine lv_iload hx hb dX6_source_171 (lv_at hl 0 rfl) ?_
                    refine lv_bipush (v := nI (8)) hx hb dX6_source_173 (by decide) ?_
                    refine xi_icmp_ge (tgt := 192) hx hb (by decide) (by decide) dX6_source_175 (by decide) (fun c0 => absurd c0 (by decide)) (fun _ => ?_)
                    refine lv_aload_n hx hb dX6_source_178 rfl (lv_at hl 3 rfl) ?_
                    refine xw_get hx hb hts hin6 hown hK hP (by decide) fg52_1 rfl 3 (by decide) hf20 rfl rfl dX6_source_179 ?_
                    refine lv_iload hx hb dX6_source_182 (lv_at hl 0 rfl) ?_
                    refine lv_iconst (v := nI (0)) hx hb dX6_source_184 (by decide) ?_
                    refine xw_iast hx hb hK hP hD hS (by decide) 0 fg52_0 rfl (by omega) (by decide) dX6_source_185 (fun g55 H locs eg55 hP hS => ?_)
                    have fg55_0 : g55 (62) = .inr (6, [.int (nI (4)), .int (nI (hf xa + hf xb + hf xc + hf xd)), .ref (ad (63)), .ref (ad (64)), .ref (ad (65)), .ref (ad (66)), .int (nI (T)), .long (tp), .long (bt), .long (nu), .long (de), .int (sq), .ref (ad (67)), .ref (ad (68)), .ref (ad (69)), .ref (ad (70)), .ref (ad (71)), .ref (ad (72)), .ref (ad (73)), .ref (ad (74)), .ref (ad (75)), .ref (ad (76)), .ref (ad (77)), .ref (ad (78)), .ref (ad (79)), .ref (ad (80))]) := (congrFun eg55 (62)).trans ((va_up_ne _ _ (by decide)).trans fg52_1)
                    have fg55_1 : g55 (63) = .inl (cI, 4, .inl (upd (upd (upd (upd (fw) (0) (xa)) (1) (xb)) (2) (xc)) (3) (xd))) := (congrFun eg55 (63)).trans ((va_up_ne _ _ (by decide)).trans fg52_w)
                    have fg55_w : g55 (64) = .inl (cI, 8, .inl (upd (fsz) (0) (nI (0)))) := (congrFun eg55 (64)).trans (va_up_self _ _ _)
                    have hfrg55 : ∀ j : Nat, j ≠ 62 → j ≠ 63 → j ≠ 64 → g55 j = g j := fun j h0 h1 h2 => (congrFun eg55 j).trans ((va_up_ne _ _ h2).trans (hfrg52 j h0 h1 h2))
                    refine lv_iinc (v := nI (1)) (lv' := [(7, .int (nI (1))), (6, .int (nI (hf xa + hf xb + hf xc + hf xd))), (8, .int (xd)), (0, .ref (ad (62))), (1, .int (nI (4))), (2, .int (xa)), (3, .int (xb)), (4, .int (xc)), (5, .int (xd))]) hx hb dX6_source_186 hl (k := 0) rfl (nI_add (0) 1) (by decide) rfl (fun ls hl => ?_)
                    refine lv_goto (tgt := 171) hx hb dX6_source_189 (by decide) ?_
                    refine lv_iload hx hb dX6_source_171 (lv_at hl 0 rfl) ?_
                    refine lv_bipush (v := nI (8)) hx hb dX6_source_173 (by decide) ?_
                    refine xi_icmp_ge (tgt := 192) hx hb (by decide) (by decide) dX6_source_175 (by decide) (fun c0 => absurd c0 (by decide)) (fun _ => ?_)
                    refine lv_aload_n hx hb dX6_source_178 rfl (lv_at hl 3 rfl) ?_
                    refine xw_get hx hb hts hin6 hown hK hP (by decide) fg55_0 rfl 3 (by decide) hf20 rfl rfl dX6_source_179 ?_
                    refine lv_iload hx hb dX6_source_182 (lv_at hl 0 rfl) ?_
                    refine lv_iconst (v := nI (0)) hx hb dX6_source_184 (by decide) ?_
                    refine xw_iast hx hb hK hP hD hS (by decide) 0 fg55_w rfl (by omega) (by decide) dX6_source_185 (fun g57 H locs eg57 hP hS => ?_)
                    have fg57_0 : g57 (62) = .inr (6, [.int (nI (4)), .int (nI (hf xa + hf xb + hf xc + hf xd)), .ref (ad (63)), .ref (ad (64)), .ref (ad (65)), .ref (ad (66)), .int (nI (T)), .long (tp), .long (bt), .long (nu), .long (de), .int (sq), .ref (ad (67)), .ref (ad (68)), .ref (ad (69)), .ref (ad (70)), .ref (ad (71)), .ref (ad (72)), .ref (ad (73)), .ref (ad (74)), .ref (ad (75)), .ref (ad (76)), .ref (ad (77)), .ref (ad (78)), .ref (ad (79)), .ref (ad (80))]) := (congrFun eg57 (62)).trans ((va_up_ne _ _ (by decide)).trans fg55_0)
                    have fg57_1 : g57 (63) = .inl (cI, 4, .inl (upd (upd (upd (upd (fw) (0) (xa)) (1) (xb)) (2) (xc)) (3) (xd))) := (congrFun eg57 (63)).trans ((va_up_ne _ _ (by decide)).trans fg55_1)
                    have fg57_w : g57 (64) = .inl (cI, 8, .inl (upd (upd (fsz) (0) (nI (0))) (1) (nI (0)))) := (congrFun eg57 (64)).trans (va_up_self _ _ _)
                    have hfrg57 : ∀ j : Nat, j ≠ 62 → j ≠ 63 → j ≠ 64 → g57 j = g j := fun j h0 h1 h2 => (congrFun eg57 j).trans ((va_up_ne _ _ h2).trans (hfrg55 j h0 h1 h2))
                    refine lv_iinc (v := nI (2)) (lv' := [(7, .int (nI (2))), (6, .int (nI (hf xa + hf xb + hf xc + hf xd))), (8, .int (xd)), (0, .ref (ad (62))), (1, .int (nI (4))), (2, .int (xa)), (3, .int (xb)), (4, .int (xc)), (5, .int (xd))]) hx hb dX6_source_186 hl (k := 0) rfl (nI_add (1) 1) (by decide) rfl (fun ls hl => ?_)
                    refine lv_goto (tgt := 171) hx hb dX6_source_189 (by decide) ?_
                    refine lv_iload hx hb dX6_source_171 (lv_at hl 0 rfl) ?_
                    refine lv_bipush (v := nI (8)) hx hb dX6_source_173 (by decide) ?_
                    refine xi_icmp_ge (tgt := 192) hx hb (by decide) (by decide) dX6_source_175 (by decide) (fun c0 => absurd c0 (by decide)) (fun _ => ?_)
                    refine lv_aload_n hx hb dX6_source_178 rfl (lv_at hl 3 rfl) ?_
                    refine xw_get hx hb hts hin6 hown hK hP (by decide) fg57_0 rfl 3 (by decide) hf20 rfl rfl dX6_source_179 ?_
                    refine lv_iload hx hb dX6_source_182 (lv_at hl 0 rfl) ?_
                    refine lv_iconst (v := nI (0)) hx hb dX6_source_184 (by decide) ?_
                    refine xw_iast hx hb hK hP hD hS (by decide) 0 fg57_w rfl (by omega) (by decide) dX6_source_185 (fun g59 H locs eg59 hP hS => ?_)
                    have fg59_0 : g59 (62) = .inr (6, [.int (nI (4)), .int (nI (hf xa + hf xb + hf xc + hf xd)), .ref (ad (63)), .ref (ad (64)), .ref (ad (65)), .ref (ad (66)), .int (nI (T)), .long (tp), .long (bt), .long (nu), .long (de), .int (sq), .ref (ad (67)), .ref (ad (68)), .ref (ad (69)), .ref (ad (70)), .ref (ad (71)), .ref (ad (72)), .ref (ad (73)), .ref (ad (74)), .ref (ad (75)), .ref (ad (76)), .ref (ad (77)), .ref (ad (78)), .ref (ad (79)), .ref (ad (80))]) := (congrFun eg59 (62)).trans ((va_up_ne _ _ (by decide)).trans fg57_0)
                    have fg59_1 : g59 (63) = .inl (cI, 4, .inl (upd (upd (upd (upd (fw) (0) (xa)) (1) (xb)) (2) (xc)) (3) (xd))) := (congrFun eg59 (63)).trans ((va_up_ne _ _ (by decide)).trans fg57_1)
                    have fg59_w : g59 (64) = .inl (cI, 8, .inl (upd (upd (upd (fsz) (0) (nI (0))) (1) (nI (0))) (2) (nI (0)))) := (congrFun eg59 (64)).trans (va_up_self _ _ _)
                    have hfrg59 : ∀ j : Nat, j ≠ 62 → j ≠ 63 → j ≠ 64 → g59 j = g j := fun j h0 h1 h2 => (congrFun eg59 j).trans ((va_up_ne _ _ h2).trans (hfrg57 j h0 h1 h2))
                    refine lv_iinc (v := nI (3)) (lv' := [(7, .int (nI (3))), (6, .int (nI (hf xa + hf xb + hf xc + hf xd))), (8, .int (xd)), (0, .ref (ad (62))), (1, .int (nI (4))), (2, .int (xa)), (3, .int (xb)), (4, .int (xc)), (5, .int (xd))]) hx hb dX6_source_186 hl (k := 0) rfl (nI_add (2) 1) (by decide) rfl (fun ls hl => ?_)
                    refine lv_goto (tgt := 171) hx hb dX6_source_189 (by decide) ?_
                    refine lv_iload hx hb dX6_source_171 (lv_at hl 0 rfl) ?_
                    refine lv_bipush (v := nI (8)) hx hb dX6_source_173 (by decide) ?_
                    refine xi_icmp_ge (tgt := 192) hx hb (by decide) (by decide) dX6_source_175 (by decide) (fun c0 => absurd c0 (by decide)) (fun _ => ?_)
                    refine lv_aload_n hx hb dX6_source_178 rfl (lv_at hl 3 rfl) ?_
                    refine xw_get hx hb hts hin6 hown hK hP (by decide) fg59_0 rfl 3 (by decide) hf20 rfl rfl dX6_source_179 ?_
                    refine lv_iload hx hb dX6_source_182 (lv_at hl 0 rfl) ?_
                    refine lv_iconst (v := nI (0)) hx hb dX6_source_184 (by decide) ?_
                    refine xw_iast hx hb hK hP hD hS (by decide) 0 fg59_w rfl (by omega) (by decide) dX6_source_185 (fun g61 H locs eg61 hP hS => ?_)
                    have fg61_0 : g61 (62) = .inr (6, [.int (nI (4)), .int (nI (hf xa + hf xb + hf xc + hf xd)), .ref (ad (63)), .ref (ad (64)), .ref (ad (65)), .ref (ad (66)), .int (nI (T)), .long (tp), .long (bt), .long (nu), .long (de), .int (sq), .ref (ad (67)), .ref (ad (68)), .ref (ad (69)), .ref (ad (70)), .ref (ad (71)), .ref (ad (72)), .ref (ad (73)), .ref (ad (74)), .ref (ad (75)), .ref (ad (76)), .ref (ad (77)), .ref (ad (78)), .ref (ad (79)), .ref (ad (80))]) := (congrFun eg61 (62)).trans ((va_up_ne _ _ (by decide)).trans fg59_0)
                    have fg61_1 : g61 (63) = .inl (cI, 4, .inl (upd (upd (upd (upd (fw) (0) (xa)) (1) (xb)) (2) (xc)) (3) (xd))) := (congrFun eg61 (63)).trans ((va_up_ne _ _ (by decide)).trans fg59_1)
                    have fg61_w : g61 (64) = .inl (cI, 8, .inl (upd (upd (upd (upd (fsz) (0) (nI (0))) (1) (nI (0))) (2) (nI (0))) (3) (nI (0)))) := (congrFun eg61 (64)).trans (va_up_self _ _ _)
                    have hfrg61 : ∀ j : Nat, j ≠ 62 → j ≠ 63 → j ≠ 64 → g61 j = g j := fun j h0 h1 h2 => (congrFun eg61 j).trans ((va_up_ne _ _ h2).trans (hfrg59 j h0 h1 h2))
                    refine lv_iinc (v := nI (4)) (lv' := [(7, .int (nI (4))), (6, .int (nI (hf xa + hf xb + hf xc + hf xd))), (8, .int (xd)), (0, .ref (ad (62))), (1, .int (nI (4))), (2, .int (xa)), (3, .int (xb)), (4, .int (xc)), (5, .int (xd))]) hx hb dX6_source_186 hl (k := 0) rfl (nI_add (3) 1) (by decide) rfl (fun ls hl => ?_)
                    refine lv_goto (tgt := 171) hx hb dX6_source_189 (by decide) ?_
                    refine lv_iload hx hb dX6_source_171 (lv_at hl 0 rfl) ?_
                    refine lv_bipush (v := nI (8)) hx hb dX6_source_173 (by decide) ?_
                    refine xi_icmp_ge (tgt := 192) hx hb (by decide) (by decide) dX6_source_175 (by decide) (fun c0 => absurd c0 (by decide)) (fun _ => ?_)
                    refine lv_aload_n hx hb dX6_source_178 rfl (lv_at hl 3 rfl) ?_
                    refine xw_get hx hb hts hin6 hown hK hP (by decide) fg61_0 rfl 3 (by decide) hf20 rfl rfl dX6_source_179 ?_
                    refine lv_iload hx hb dX6_source_182 (lv_at hl 0 rfl) ?_
                    refine lv_iconst (v := nI (0)) hx hb dX6_source_184 (by decide) ?_
                    refine xw_iast hx hb hK hP hD hS (by decide) 0 fg61_w rfl (by omega) (by decide) dX6_source_185 (fun g63 H locs eg63 hP hS => ?_)
                    have fg63_0 : g63 (62) = .inr (6, [.int (nI (4)), .int (nI (hf xa + hf xb + hf xc + hf xd)), .ref (ad (63)), .ref (ad (64)), .ref (ad (65)), .ref (ad (66)), .int (nI (T)), .long (tp), .long (bt), .long (nu), .long (de), .int (sq), .ref (ad (67)), .ref (ad (68)), .ref (ad (69)), .ref (ad (70)), .ref (ad (71)), .ref (ad (72)), .ref (ad (73)), .ref (ad (74)), .ref (ad (75)), .ref (ad (76)), .ref (ad (77)), .ref (ad (78)), .ref (ad (79)), .ref (ad (80))]) := (congrFun eg63 (62)).trans ((va_up_ne _ _ (by decide)).trans fg61_0)
                    have fg63_1 : g63 (63) = .inl (cI, 4, .inl (upd (upd (upd (upd (fw) (0) (xa)) (1) (xb)) (2) (xc)) (3) (xd))) := (congrFun eg63 (63)).trans ((va_up_ne _ _ (by decide)).trans fg61_1)
                    have fg63_w : g63 (64) = .inl (cI, 8, .inl (upd (upd (upd (upd (upd (fsz) (0) (nI (0))) (1) (nI (0))) (2) (nI (0))) (3) (nI (0))) (4) (nI (0)))) := (congrFun eg63 (64)).trans (va_up_self _ _ _)
                    have hfrg63 : ∀ j : Nat, j ≠ 62 → j ≠ 63 → j ≠ 64 → g63 j = g j := fun j h0 h1 h2 => (congrFun eg63 j).trans ((va_up_ne _ _ h2).trans (hfrg61 j h0 h1 h2))
                    refine lv_iinc (v := nI (5)) (lv' := [(7, .int (nI (5))), (6, .int (nI (hf xa + hf xb + hf xc + hf xd))), (8, .int (xd)), (0, .ref (ad (62))), (1, .int (nI (4))), (2, .int (xa)), (3, .int (xb)), (4, .int (xc)), (5, .int (xd))]) hx hb dX6_source_186 hl (k := 0) rfl (nI_add (4) 1) (by decide) rfl (fun ls hl => ?_)
                    refine lv_goto (tgt := 171) hx hb dX6_source_189 (by decide) ?_
                    refine lv_iload hx hb dX6_source_171 (lv_at hl 0 rfl) ?_
                    refine lv_bipush (v := nI (8)) hx hb dX6_source_173 (by decide) ?_
                    refine xi_icmp_ge (tgt := 192) hx hb (by decide) (by decide) dX6_source_175 (by decide) (fun c0 => absurd c0 (by decide)) (fun _ => ?_)
                    refine lv_aload_n hx hb dX6_source_178 rfl (lv_at hl 3 rfl) ?_
                    refine xw_get hx hb hts hin6 hown hK hP (by decide) fg63_0 rfl 3 (by decide) hf20 rfl rfl dX6_source_179 ?_
                    refine lv_iload hx hb dX6_source_182 (lv_at hl 0 rfl) ?_
                    refine lv_iconst (v := nI (0)) hx hb dX6_source_184 (by decide) ?_
                    refine xw_iast hx hb hK hP hD hS (by decide) 0 fg63_w rfl (by omega) (by decide) dX6_source_185 (fun g65 H locs eg65 hP hS => ?_)
                    have fg65_0 : g65 (62) = .inr (6, [.int (nI (4)), .int (nI (hf xa + hf xb + hf xc + hf xd)), .ref (ad (63)), .ref (ad (64)), .ref (ad (65)), .ref (ad (66)), .int (nI (T)), .long (tp), .long (bt), .long (nu), .long (de), .int (sq), .ref (ad (67)), .ref (ad (68)), .ref (ad (69)), .ref (ad (70)), .ref (ad (71)), .ref (ad (72)), .ref (ad (73)), .ref (ad (74)), .ref (ad (75)), .ref (ad (76)), .ref (ad (77)), .ref (ad (78)), .ref (ad (79)), .ref (ad (80))]) := (congrFun eg65 (62)).trans ((va_up_ne _ _ (by decide)).trans fg63_0)
                    have fg65_1 : g65 (63) = .inl (cI, 4, .inl (upd (upd (upd (upd (fw) (0) (xa)) (1) (xb)) (2) (xc)) (3) (xd))) := (congrFun eg65 (63)).trans ((va_up_ne _ _ (by decide)).trans fg63_1)
                    have fg65_w : g65 (64) = .inl (cI, 8, .inl (upd (upd (upd (upd (upd (upd (fsz) (0) (nI (0))) (1) (nI (0))) (2) (nI (0))) (3) (nI (0))) (4) (nI (0))) (5) (nI (0)))) := (congrFun eg65 (64)).trans (va_up_self _ _ _)
                    have hfrg65 : ∀ j : Nat, j ≠ 62 → j ≠ 63 → j ≠ 64 → g65 j = g j := fun j h0 h1 h2 => (congrFun eg65 j).trans ((va_up_ne _ _ h2).trans (hfrg63 j h0 h1 h2))
                    refine lv_iinc (v := nI (6)) (lv' := [(7, .int (nI (6))), (6, .int (nI (hf xa + hf xb + hf xc + hf xd))), (8, .int (xd)), (0, .ref (ad (62))), (1, .int (nI (4))), (2, .int (xa)), (3, .int (xb)), (4, .int (xc)), (5, .int (xd))]) hx hb dX6_source_186 hl (k := 0) rfl (nI_add (5) 1) (by decide) rfl (fun ls hl => ?_)
                    refine lv_goto (tgt := 171) hx hb dX6_source_189 (by decide) ?_
                    refine lv_iload hx hb dX6_source_171 (lv_at hl 0 rfl) ?_
                    refine lv_bipush (v := nI (8)) hx hb dX6_source_173 (by decide) ?_
                    refine xi_icmp_ge (tgt := 192) hx hb (by decide) (by decide) dX6_source_175 (by decide) (fun c0 => absurd c0 (by decide)) (fun _ => ?_)
                    refine lv_aload_n hx hb dX6_source_178 rfl (lv_at hl 3 rfl) ?_
                    refine xw_get hx hb hts hin6 hown hK hP (by decide) fg65_0 rfl 3 (by decide) hf20 rfl rfl dX6_source_179 ?_
                    refine lv_iload hx hb dX6_source_182 (lv_at hl 0 rfl) ?_
                    refine lv_iconst (v := nI (0)) hx hb dX6_source_184 (by decide) ?_
                    refine xw_iast hx hb hK hP hD hS (by decide) 0 fg65_w rfl (by omega) (by decide) dX6_source_185 (fun g67 H locs eg67 hP hS => ?_)
                    have fg67_0 : g67 (62) = .inr (6, [.int (nI (4)), .int (nI (hf xa + hf xb + hf xc + hf xd)), .ref (ad (63)), .ref (ad (64)), .ref (ad (65)), .ref (ad (66)), .int (nI (T)), .long (tp), .long (bt), .long (nu), .long (de), .int (sq), .ref (ad (67)), .ref (ad (68)), .ref (ad (69)), .ref (ad (70)), .ref (ad (71)), .ref (ad (72)), .ref (ad (73)), .ref (ad (74)), .ref (ad (75)), .ref (ad (76)), .ref (ad (77)), .ref (ad (78)), .ref (ad (79)), .ref (ad (80))]) := (congrFun eg67 (62)).trans ((va_up_ne _ _ (by decide)).trans fg65_0)
                    have fg67_1 : g67 (63) = .inl (cI, 4, .inl (upd (upd (upd (upd (fw) (0) (xa)) (1) (xb)) (2) (xc)) (3) (xd))) := (congrFun eg67 (63)).trans ((va_up_ne _ _ (by decide)).trans fg65_1)
                    have fg67_w : g67 (64) = .inl (cI, 8, .inl (upd (upd (upd (upd (upd (upd (upd (fsz) (0) (nI (0))) (1) (nI (0))) (2) (nI (0))) (3) (nI (0))) (4) (nI (0))) (5) (nI (0))) (6) (nI (0)))) := (congrFun eg67 (64)).trans (va_up_self _ _ _)
                    have hfrg67 : ∀ j : Nat, j ≠ 62 → j ≠ 63 → j ≠ 64 → g67 j = g j := fun j h0 h1 h2 => (congrFun eg67 j).trans ((va_up_ne _ _ h2).trans (hfrg65 j h0 h1 h2))
                    refine lv_iinc (v := nI (7)) (lv' := [(7, .int (nI (7))), (6, .int (nI (hf xa + hf xb + hf xc + hf xd))), (8, .int (xd)), (0, .ref (ad (62))), (1, .int (nI (4))), (2, .int (xa)), (3, .int (xb)), (4, .int (xc)), (5, .int (xd))]) hx hb dX6_source_186 hl (k := 0) rfl (nI_add (6) 1) (by decide) rfl (fun ls hl => ?_)
                    refine lv_goto (tgt := 171) hx hb dX6_source_189 (by decide) ?_
                    refine lv_iload hx hb dX6_source_171 (lv_at hl 0 rfl) ?_
                    refine lv_bipush (v := nI (8)) hx hb dX6_source_173 (by decide) ?_
                    refine xi_icmp_ge (tgt := 192) hx hb (by decide) (by decide) dX6_source_175 (by decide) (fun c0 => absurd c0 (by decide)) (fun _ => ?_)
                    refine lv_aload_n hx hb dX6_source_178 rfl (lv_at hl 3 rfl) ?_
                    refine xw_get hx hb hts hin6 hown hK hP (by decide) fg67_0 rfl 3 (by decide) hf20 rfl rfl dX6_source_179 ?_
                    refine lv_iload hx hb dX6_source_182 (lv_at hl 0 rfl) ?_
                    refine lv_iconst (v := nI (0)) hx hb dX6_source_184 (by decide) ?_
                    refine xw_iast hx hb hK hP hD hS (by decide) 0 fg67_w rfl (by omega) (by decide) dX6_source_185 (fun g69 H locs eg69 hP hS => ?_)
                    have fg69_0 : g69 (62) = .inr (6, [.int (nI (4)), .int (nI (hf xa + hf xb + hf xc + hf xd)), .ref (ad (63)), .ref (ad (64)), .ref (ad (65)), .ref (ad (66)), .int (nI (T)), .long (tp), .long (bt), .long (nu), .long (de), .int (sq), .ref (ad (67)), .ref (ad (68)), .ref (ad (69)), .ref (ad (70)), .ref (ad (71)), .ref (ad (72)), .ref (ad (73)), .ref (ad (74)), .ref (ad (75)), .ref (ad (76)), .ref (ad (77)), .ref (ad (78)), .ref (ad (79)), .ref (ad (80))]) := (congrFun eg69 (62)).trans ((va_up_ne _ _ (by decide)).trans fg67_0)
                    have fg69_1 : g69 (63) = .inl (cI, 4, .inl (upd (upd (upd (upd (fw) (0) (xa)) (1) (xb)) (2) (xc)) (3) (xd))) := (congrFun eg69 (63)).trans ((va_up_ne _ _ (by decide)).trans fg67_1)
                    have fg69_w : g69 (64) = .inl (cI, 8, .inl (upd (upd (upd (upd (upd (upd (upd (upd (fsz) (0) (nI (0))) (1) (nI (0))) (2) (nI (0))) (3) (nI (0))) (4) (nI (0))) (5) (nI (0))) (6) (nI (0))) (7) (nI (0)))) := (congrFun eg69 (64)).trans (va_up_self _ _ _)
                    have hfrg69 : ∀ j : Nat, j ≠ 62 → j ≠ 63 → j ≠ 64 → g69 j = g j := fun j h0 h1 h2 => (congrFun eg69 j).trans ((va_up_ne _ _ h2).trans (hfrg67 j h0 h1 h2))
                    refine lv_iinc (v := nI (8)) (lv' := [(7, .int (nI (8))), (6, .int (nI (hf xa + hf xb + hf xc + hf xd))), (8, .int (xd)), (0, .ref (ad (62))), (1, .int (nI (4))), (2, .int (xa)), (3, .int (xb)), (4, .int (xc)), (5, .int (xd))]) hx hb dX6_source_186 hl (k := 0) rfl (nI_add (7) 1) (by decide) rfl (fun ls hl => ?_)
                    refine lv_goto (tgt := 171) hx hb dX6_source_189 (by decide) ?_
                    refine lv_iload hx hb dX6_source_171 (lv_at hl 0 rfl) ?_
                    refine lv_bipush (v := nI (8)) hx hb dX6_source_173 (by decide) ?_
                    refine xi_icmp_ge (tgt := 192) hx hb (by decide) (by decide) dX6_source_175 (by decide) (fun _ => ?_) (fun c0 => absurd c0 (by decide))
                    refine lv_aload_n hx hb dX6_source_192 rfl (lv_at hl 3 rfl) ?_
                    refine lv_iconst (v := nI (0)) hx hb dX6_source_193 (by decide) ?_
                    refine xw_put hx hb hts hin6 tyX6 tyX6_ok nmX6 hown hK hP hD hS (by decide) fg69_0 rfl 6 (by decide) hf76 rfl rfl (ty := .int) (by decide +kernel) rfl rfl (Nat.le_of_ble_eq_true rfl) (fs' := [.int (nI (4)), .int (nI (hf xa + hf xb + hf xc + hf xd)), .ref (ad (63)), .ref (ad (64)), .ref (ad (65)), .ref (ad (66)), .int (nI (0)), .long (tp), .long (bt), .long (nu), .long (de), .int (sq), .ref (ad (67)), .ref (ad (68)), .ref (ad (69)), .ref (ad (70)), .ref (ad (71)), .ref (ad (72)), .ref (ad (73)), .ref (ad (74)), .ref (ad (75)), .ref (ad (76)), .ref (ad (77)), .ref (ad (78)), .ref (ad (79)), .ref (ad (80))]) rfl dX6_source_194 (fun g71 H locs eg71 hP hS => ?_)
                    have fg71_0 : g71 (63) = .inl (cI, 4, .inl (upd (upd (upd (upd (fw) (0) (xa)) (1) (xb)) (2) (xc)) (3) (xd))) := (congrFun eg71 (63)).trans ((va_up_ne _ _ (by decide)).trans fg69_1)
                    have fg71_1 : g71 (64) = .inl (cI, 8, .inl (upd (upd (upd (upd (upd (upd (upd (upd (fsz) (0) (nI (0))) (1) (nI (0))) (2) (nI (0))) (3) (nI (0))) (4) (nI (0))) (5) (nI (0))) (6) (nI (0))) (7) (nI (0)))) := (congrFun eg71 (64)).trans ((va_up_ne _ _ (by decide)).trans fg69_w)
                    have fg71_w : g71 (62) = .inr (6, [.int (nI (4)), .int (nI (hf xa + hf xb + hf xc + hf xd)), .ref (ad (63)), .ref (ad (64)), .ref (ad (65)), .ref (ad (66)), .int (nI (0)), .long (tp), .long (bt), .long (nu), .long (de), .int (sq), .ref (ad (67)), .ref (ad (68)), .ref (ad (69)), .ref (ad (70)), .ref (ad (71)), .ref (ad (72)), .ref (ad (73)), .ref (ad (74)), .ref (ad (75)), .ref (ad (76)), .ref (ad (77)), .ref (ad (78)), .ref (ad (79)), .ref (ad (80))]) := (congrFun eg71 (62)).trans (va_up_self _ _ _)
                    have hfrg71 : ∀ j : Nat, j ≠ 62 → j ≠ 63 → j ≠ 64 → g71 j = g j := fun j h0 h1 h2 => (congrFun eg71 j).trans ((va_up_ne _ _ h0).trans (hfrg69 j h0 h1 h2))
                    refine lv_aload_n hx hb dX6_source_197 rfl (lv_at hl 3 rfl) ?_
                    refine xw_get hx hb hts hin6 hown hK hP (by decide) fg71_w rfl 1 (by decide) hf13 rfl rfl dX6_source_198 ?_
                    exact W.iret (v := nI (hf xa + hf xb + hf xc + hf xd)) hx hb hr (fun tZ ht hW => ⟨⟨_, g71, rfl, Or.inl ⟨rfl, c88_29, ⟨_, _, _, _, _, _, _, _, _, _, _, _, _, _, _, _, _, _, _, _, _, fg71_w, fg71_0, fg71_1, ((hfrg71) 65 (by decide) (by decide) (by decide)).trans fa65, ((hfrg71) 66 (by decide) (by decide) (by decide)).trans fa66, ((hfrg71) 67 (by decide) (by decide) (by decide)).trans fa67, ((hfrg71) 68 (by decide) (by decide) (by decide)).trans fa68, ((hfrg71) 69 (by decide) (by decide) (by decide)).trans fa69, ((hfrg71) 70 (by decide) (by decide) (by decide)).trans fa70, ((hfrg71) 71 (by decide) (by decide) (by decide)).trans fa71, ((hfrg71) 72 (by decide) (by decide) (by decide)).trans fa72, ((hfrg71) 73 (by decide) (by decide) (by decide)).trans fa73, ((hfrg71) 74 (by decide) (by decide) (by decide)).trans fa74, ((hfrg71) 75 (by decide) (by decide) (by decide)).trans fa75, ((hfrg71) 76 (by decide) (by decide) (by decide)).trans fa76, ((hfrg71) 77 (by decide) (by decide) (by decide)).trans fa77, ((hfrg71) 78 (by decide) (by decide) (by decide)).trans fa78, ((hfrg71) 79 (by decide) (by decide) (by decide)).trans fa79, ((hfrg71) 80 (by decide) (by decide) (by decide)).trans fa80, (wt4_ok exa exb exc exd), sz8, (fun k j _ hj => absurd hj (Nat.not_lt_zero j)), (fun j hj => absurd hj (by omega))⟩, fun j hj => (hfrg71) j (by omega) (by omega) (by omega)⟩, by rw [ht]; exact hP, va_K.moved hW.alike hK, va_Nw.warmM hW hN⟩, hS.F ht⟩) hS.2.2 dX6_source_201
                  · refine lv_iconst (v := (-1)) hx hb dX6_source_91 (by decide) ?_
                    exact W.iret (v := (-1)) hx hb hr (fun tZ ht hW => ⟨⟨_, g, rfl, Or.inr ⟨rfl, by have h9 := c88_29; omega, hM, fun _ _ => rfl⟩, by rw [ht]; exact hP, va_K.moved hW.alike hK, va_Nw.warmM hW hN⟩, hS.F ht⟩) hS.2.2 dX6_source_92
                · refine lv_iconst (v := (-1)) hx hb dX6_source_70 (by decide) ?_
                  exact W.iret (v := (-1)) hx hb hr (fun tZ ht hW => ⟨⟨_, g, rfl, Or.inr ⟨rfl, by have a1 := hf_1 xa; have a2 := hf_1 xb; have a3 := hf_1 xc; have a4 := hf_1 xd; have a5 := hf_no (x := xd) (Or.inr (Int32.not_le.mp c67_26)); omega, hM, fun _ _ => rfl⟩, by rw [ht]; exact hP, va_K.moved hW.alike hK, va_Nw.warmM hW hN⟩, hS.F ht⟩) hS.2.2 dX6_source_71
            · refine lv_iconst (v := (-1)) hx hb dX6_source_70 (by decide) ?_
              exact W.iret (v := (-1)) hx hb hr (fun tZ ht hW => ⟨⟨_, g, rfl, Or.inr ⟨rfl, by have a1 := hf_1 xa; have a2 := hf_1 xb; have a3 := hf_1 xc; have a4 := hf_1 xd; have a5 := hf_no (x := xc) (Or.inr (Int32.not_le.mp c67_19)); omega, hM, fun _ _ => rfl⟩, by rw [ht]; exact hP, va_K.moved hW.alike hK, va_Nw.warmM hW hN⟩, hS.F ht⟩) hS.2.2 dX6_source_71
        · refine lv_iconst (v := (-1)) hx hb dX6_source_70 (by decide) ?_
          exact W.iret (v := (-1)) hx hb hr (fun tZ ht hW => ⟨⟨_, g, rfl, Or.inr ⟨rfl, by have a1 := hf_1 xa; have a2 := hf_1 xb; have a3 := hf_1 xc; have a4 := hf_1 xd; have a5 := hf_no (x := xb) (Or.inr (Int32.not_le.mp c67_12)); omega, hM, fun _ _ => rfl⟩, by rw [ht]; exact hP, va_K.moved hW.alike hK, va_Nw.warmM hW hN⟩, hS.F ht⟩) hS.2.2 dX6_source_71
    · refine lv_iconst (v := (-1)) hx hb dX6_source_70 (by decide) ?_
      exact W.iret (v := (-1)) hx hb hr (fun tZ ht hW => ⟨⟨_, g, rfl, Or.inr ⟨rfl, by have a1 := hf_1 xa; have a2 := hf_1 xb; have a3 := hf_1 xc; have a4 := hf_1 xd; have a5 := hf_no (x := xa) (Or.inr (Int32.not_le.mp c67_6)); omega, hM, fun _ _ => rfl⟩, by rw [ht]; exact hP, va_K.moved hW.alike hK, va_Nw.warmM hW hN⟩, hS.F ht⟩) hS.2.2 dX6_source_71

set_option maxHeartbeats 4000000 in
set_option maxRecDepth 100000 in
theorem mX6_source_no (l : Launch) {D : va_G} {cI cJ cZ cW : ClassId} {ad : Nat → Nat} {A : Nat → Prop} (hD : ∀ g, va_D A (xw 81 ad g)) {g : Nat → va_E} {q Wt : Nat} {w : Nat → Nat} {ln : Nat → Nat} {u : Nat → Nat → Nat} {T : Nat} {t : Nat → Nat} {tp bt : Int64} {x0 xa xb xc xd : Int32}  (hM : ModI cI cJ ad g q Wt w ln u T t tp bt) (hs : SrcI q Wt w ln u T t) (hx0 : x0 < nI 2 ∨ nI 4 < x0) : Met l yX6_source wsX6_source ({ frames := 0, cells := 0, slots := 0, locals := 0 }) (va_Pc [.ref (ad (62)), .int (x0), .int (xa), .int (xb), .int (xc), .int (xd)] (xB D (xT cI cJ cZ cW) ad g)) (va_Qi (fun r g2 => r = -1 ∧ ModI cI cJ ad g2 q Wt w ln u T t tp bt ∧ ∀ j : Nat, j < 62 → g2 j = g j) (xB D (xT cI cJ cZ cW) ad) A) 0 0 A := by
  refine Met.ofW (cc := cX6_source) (maxL := 9) (ret := (some .int)) (by decide) rfl ?_
  intro p e s m args below meth c s₁ B hml hv
  obtain ⟨rfl, hP, hK, hN⟩ := hv
  have hx := B.exec
  have hb := B.bytes
  have hr := B.returns
  have hts := atoms_spec (ws := wsX6_source) B.pre
  have hown : s.vm.findClass RX6 = some m.cls := findClass_of_methodNamed B.named
  have hlocks := B.notSynchronized
  have hS : va_S A s.heap s.heap [] := va_S.rf
  have hl := lv_entry ([.ref (ad (62)), .int (x0), .int (xa), .int (xb), .int (xc), .int (xd)]) (n := 9) (Nat.le_of_ble_eq_true rfl)
  rw [lg_entry_eq]
  generalize (lg_sl ([.ref (ad (62)), .int (x0), .int (xa), .int (xb), .int (xc), .int (xd)]) ++ List.replicate (9 - (lg_sl ([.ref (ad (62)), .int (x0), .int (xa), .int (xb), .int (xc), .int (xd)])).length) Slot.unset).toArray = ls at hl ⊢
  have hl : lv_has ls 9 [(0, .ref (ad (62))), (1, .int (x0)), (2, .int (xa)), (3, .int (xb)), (4, .int (xc)), (5, .int (xd))] := hl
  obtain ⟨hq2, hq4, hw1, hw0, hWs, hWt, hw, hln, hul, hT, ht⟩ := hs
  obtain ⟨sq, nu, de, fw, fsz, fwd, ftx, fos, foz, fgo, frw, fan, fad, frn, frd, fen, fed, fcn, fcd, fnw, fth, fo62, fa63, fa64, fa65, fa66, fa67, fa68, fa69, fa70, fa71, fa72, fa73, fa74, fa75, fa76, fa77, fa78, fa79, fa80, hfw, hsz, hwl, htx⟩ := id hM
  have hWp : 1 ≤ Wt ∧ Wt ≤ 4 := by have h8 := hw1 0 (by omega); have h9 := wsum_mono (w := w) (show 1 ≤ q by omega); have h7 : wsum w 1 = 0 + w 0 := rfl; omega
  refine lv_iload_n hx hb dX6_source_0 rfl (lv_at hl 1 rfl) ?_
  refine lv_iconst (v := nI (2)) hx hb dX6_source_1 (by decide) ?_
  refine lv_icmp_lt (tgt := 10) hx hb dX6_source_2 (by decide) (fun c2_1 => ?_) (fun c2_1 => ?_)
  · refine lv_iconst (v := (-1)) hx hb dX6_source_10 (by decide) ?_
    exact W.iret (v := (-1)) hx hb hr (fun tZ ht hW => ⟨⟨_, g, rfl, ⟨rfl, hM, fun _ _ => rfl⟩, by rw [ht]; exact hP, va_K.moved hW.alike hK, va_Nw.warmM hW hN⟩, hS.F ht⟩) hS.2.2 dX6_source_11
  · refine lv_iload_n hx hb dX6_source_5 rfl (lv_at hl 1 rfl) ?_
    refine lv_iconst (v := nI (4)) hx hb dX6_source_6 (by decide) ?_
    refine lv_icmp_le (tgt := 12) hx hb dX6_source_7 (by decide) (fun c7_2 => ?_) (fun c7_2 => ?_)
    · exact absurd hx0 (by rintro (h | h); exact c2_1 h; exact absurd c7_2 (by rw [Int32.not_le]; exact h))
    · refine lv_iconst (v := (-1)) hx hb dX6_source_10 (by decide) ?_
      exact W.iret (v := (-1)) hx hb hr (fun tZ ht hW => ⟨⟨_, g, rfl, ⟨rfl, hM, fun _ _ => rfl⟩, by rw [ht]; exact hP, va_K.moved hW.alike hK, va_Nw.warmM hW hN⟩, hS.F ht⟩) hS.2.2 dX6_source_11
