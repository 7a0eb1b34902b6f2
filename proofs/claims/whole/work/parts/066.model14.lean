theorem xjoin {G : JFrame → Prop} (a : JFrame) {b : JFrame} (h : G a) (k : G a → G b) : G b := k h
/-- the best chance of the codes below s -/
def bsX (q Wt : Nat) (w u : Nat → Nat) (n s : Nat) : Rat := Rat.divInt (bst q Wt w u n s).2.1 (bst q Wt w u n s).2.2
theorem bsX_0 {q Wt : Nat} {w u : Nat → Nat} {n : Nat} : bsX q Wt w u n 0 = 0 := Rat.zero_divInt 1
theorem bsX_e {q Wt : Nat} {w u : Nat → Nat} {n s : Nat} (h : bst q Wt w u n (s + 1) = bst q Wt w u n s) : bsX q Wt w u n (s + 1) = bsX q Wt w u n s := by unfold bsX; rw [h]
theorem SrcI.up {q Wt T : Nat} {w ln t : Nat → Nat} {u : Nat → Nat → Nat} (hs : SrcI q Wt w ln u T t) {k n : Nat} {v : Nat → Nat} (hn : n ≤ 5) (hv : ∀ j, j < n → v j < q) : SrcI q Wt w (va_up ln k n) (va_up u k v) T t := by
  obtain ⟨h1, h2, h3, h4, h5, h6, h7, h8, h9, h10, h11⟩ := hs
  refine ⟨h1, h2, h3, h4, h5, h6, h7, fun x => ?_, fun x j hj => ?_, h10, h11⟩
  · by_cases e : x = k
    · rw [e, va_up_self]; exact hn
    · rw [va_up_ne _ _ e]; exact h8 x
  · by_cases e : x = k
    · rw [e, va_up_self] at hj ⊢; exact hv j hj
    · rw [va_up_ne _ _ e] at hj ⊢; exact h9 x j hj
theorem ch_two {q : Nat} {ln : Nat → Nat} {a b : Nat} (ha : a < 8) (hb : b < 8) (h1 : 0 < ln a) (h2 : 0 < ln b) : ∀ s, s < 8 → btL (2 ^ a ||| 2 ^ b) s → 0 < ln s := fun s hs hsl => ((or_pow a ha b hb).2.2.2 s hs |>.mp hsl).elim (fun e => by rw [e]; exact h1) (fun e => by rw [e]; exact h2)
theorem cnt_two {a b : Nat} (ha : a < 8) (hb : b < 8) : cntS (fun s => decide (btL (2 ^ a ||| 2 ^ b) s)) 8 ≤ 3 := (or_pow a ha b hb).2.2.1
set_option maxHeartbeats 4000000 in
set_option maxRecDepth 100000 in
/-- word -/
theorem mX6_word_raw (l : Launch) {D : va_G} {cI cJ cZ cW : ClassId} {ad : Nat → Nat} {A : Nat → Prop} (hD : ∀ g, va_D A (xw 81 ad g)) {g : Nat → va_E} {q Wt T : Nat} {w ln t : Nat → Nat} {u : Nat → Nat → Nat} {tp bt : Int64} {k1 n1 cd : Nat} {sq : Int32} {nu de : Int64} {fsz : Nat → Int32} {fwd : Nat → Int32}  (fo62 : g (62) = .inr (6, [.int (nI (q)), .int (nI (Wt)), .ref (ad (63)), .ref (ad (64)), .ref (ad (65)), .ref (ad (66)), .int (nI (T)), .long (tp), .long (bt), .long (nu), .long (de), .int (sq), .ref (ad (67)), .ref (ad (68)), .ref (ad (69)), .ref (ad (70)), .ref (ad (71)), .ref (ad (72)), .ref (ad (73)), .ref (ad (74)), .ref (ad (75)), .ref (ad (76)), .ref (ad (77)), .ref (ad (78)), .ref (ad (79)), .ref (ad (80))])) (fa64 : g (64) = .inl (cI, 8, .inl (fsz))) (fa65 : g (65) = .inl (cI, 40, .inl (fwd)))  (hq2 : 2 ≤ q) (hq4 : q ≤ 4) (hk1 : k1 < 8) (hn0 : 1 ≤ n1) (hn1 : n1 ≤ 5) (hcd : cd < q ^ n1) : Met l yX6_word wsX6_word ({ frames := 1, cells := 0, slots := 0, locals := 21 }) (va_Pc [.ref (ad (62)), .int (nI (k1)), .int (nI (n1)), .int (nI (cd))] (xB D (xT cI cJ cZ cW) ad g)) (va_Qi (fun r g2 => r = nI 1 ∧ ∃ fx : Nat → Int32, (∀ x, x < n1 → fx (5 * k1 + x) = nI (dg q cd n1 x)) ∧ (∀ x, (x < 5 * k1 ∨ 5 * k1 + 5 ≤ x) → fx x = fwd x) ∧ g2 64 = .inl (cI, 8, .inl (upd (fsz) (k1) (nI (n1)))) ∧ g2 65 = .inl (cI, 40, .inl (fx)) ∧ ∀ j : Nat, j ≠ 64 → j ≠ 65 → g2 j = g j) (xB D (xT cI cJ cZ cW) ad) A) 0 0 A := by
  refine Met.ofW (cc := cX6_word) (maxL := 7) (ret := (some .boolean)) (by decide) rfl ?_
  intro p e s m args below meth c s₁ B hml hv
  obtain ⟨rfl, hP, hK, hN⟩ := hv
  have hx := B.exec
  have hb := B.bytes
  have hr := B.returns
  have hts := atoms_spec (ws := wsX6_word) B.pre
  have hown : s.vm.findClass RX6 = some m.cls := findClass_of_methodNamed B.named
  have hlocks := B.notSynchronized
  have hS : va_S A s.heap s.heap [] := va_S.rf
  have hin6 : ∀ w ∈ wsX60, w ∈ wsX6_word := by decide +kernel
  have hf7 := hts (.fieldLink RX6 7 "LettersByLotModel" "q" "I") (by decide +kernel)
  have hf20 := hts (.fieldLink RX6 20 "LettersByLotModel" "size" "[I") (by decide +kernel)
  have hf23 := hts (.fieldLink RX6 23 "LettersByLotModel" "word" "[I") (by decide +kernel)
  have hl := lv_entry ([.ref (ad (62)), .int (nI (k1)), .int (nI (n1)), .int (nI (cd))]) (n := 7) (Nat.le_of_ble_eq_true rfl)
  rw [lg_entry_eq]
  generalize (lg_sl ([.ref (ad (62)), .int (nI (k1)), .int (nI (n1)), .int (nI (cd))]) ++ List.replicate (7 - (lg_sl ([.ref (ad (62)), .int (nI (k1)), .int (nI (n1)), .int (nI (cd))])).length) Slot.unset).toArray = ls at hl ⊢
  have hl : lv_has ls 7 [(0, .ref (ad (62))), (1, .int (nI (k1))), (2, .int (nI (n1))), (3, .int (nI (cd)))] := hl
  refine lv_iload_n hx hb dX6_word_0 rfl (lv_at hl 1 rfl) ?_
  refine lv_bipush (v := nI (8)) hx hb dX6_word_1 (by decide) ?_
  refine vp_callSi (va_Run.run (va_runS (As := [.int (nI (k1)), .int (nI (8))]) (rest := []) ⟨hx, hb, hml, hown, hts⟩ (mX6_isIn_in l (by omega) (by omega)) (va_cwS 2 hts gX6_word_X6_isIn rfl rfl rfl (by decide +kernel) ⟨Nat.le_of_ble_eq_true rfl, Nat.le_of_ble_eq_true rfl⟩) ⟨xB_blind, fun U hU hW => ⟨rfl, by rw [hU]; exact hP, va_K.moved hW.alike hK, va_Nw.warmM hW hN⟩⟩ rfl rfl hl.1 rfl (lv_room (Nat.le_of_ble_eq_true rfl)) dX6_word_3 ⟨Nat.le_of_ble_eq_true rfl, Nat.le_of_ble_eq_true rfl⟩)) (fun r1 er1 => ?_)
  subst er1
  refine xi_if_eq (tgt := 23) hx hb (by decide) dX6_word_6 (by decide) (fun c0 => absurd c0 (by decide)) (fun _ => ?_)
  refine lv_iload_n hx hb dX6_word_9 rfl (lv_at hl 2 rfl) ?_
  refine lv_iconst (v := nI (1)) hx hb dX6_word_10 (by decide) ?_
  refine xi_icmp_lt (tgt := 23) hx hb (by omega) (by decide) dX6_word_11 (by decide) (fun c11_3 => ?_) (fun c11_3 => ?_)
  · exact absurd c11_3 (by omega)
  · refine lv_iload_n hx hb dX6_word_14 rfl (lv_at hl 2 rfl) ?_
    refine lv_iconst (v := nI (5)) hx hb dX6_word_15 (by decide) ?_
    refine xi_icmp_gt (tgt := 23) hx hb (by omega) (by decide) dX6_word_16 (by decide) (fun c16_4 => ?_) (fun c16_4 => ?_)
    · exact absurd c16_4 (by omega)
    · refine lv_iload_n hx hb dX6_word_19 rfl (lv_at hl 3 rfl) ?_
      refine xi_if_ge (tgt := 25) hx hb (by have h9 := pow_le5 hq4 hn1; omega) dX6_word_20 (by decide) ?_
      refine lv_iconst (v := nI (1)) hx hb dX6_word_25 (by decide) ?_
      refine lv_istore (lv' := [(4, .int (nI (1))), (0, .ref (ad (62))), (1, .int (nI (k1))), (2, .int (nI (n1))), (3, .int (nI (cd)))]) hx hb dX6_word_26 hl (by decide) rfl (fun ls hl => ?_)
      refine lv_iconst (v := nI (0)) hx hb dX6_word_28 (by decide) ?_
      refine lv_istore (lv' := [(5, .int (nI (0))), (4, .int (nI (1))), (0, .ref (ad (62))), (1, .int (nI (k1))), (2, .int (nI (n1))), (3, .int (nI (cd)))]) hx hb dX6_word_29 hl (by decide) rfl (fun ls hl => ?_)
      refine xloop (G := fun fr => W p l e _ s m _ below meth c _ _ _ _ _ fr) (σ := Nat) (fun i ls => F0 m 31 ls []) (fun i ls => (i ≤ n1) ∧ lv_has ls 7 [(0, .ref (ad (62))), (1, .int (nI (k1))), (2, .int (nI (n1))), (3, .int (nI (cd))), (4, .int (nI (q ^ i))), (5, .int (nI (i)))]) (fun i => n1 - i) ?_ (0) ls ⟨(Nat.zero_le _), (lv_sub hl [2, 3, 4, 5, 1, 0] rfl)⟩
      rintro i ls ⟨hi, hl⟩ ih31
      refine lv_iload hx hb dX6_word_31 (lv_at hl 5 rfl) ?_
      refine lv_iload_n hx hb dX6_word_33 rfl (lv_at hl 2 rfl) ?_
      refine xi_icmp_ge (tgt := 52) hx hb (by omega) (by omega) dX6_word_34 (by decide) (fun c34_6 => ?_) (fun c34_6 => ?_)
      · refine lv_iload_n hx hb dX6_word_52 rfl (lv_at hl 3 rfl) ?_
        refine lv_iload hx hb dX6_word_53 (lv_at hl 4 rfl) ?_
        refine xi_icmp_lt (tgt := 60) hx hb (by have h9 := pow_le5 hq4 hn1; omega) (by have h9 := pow_le5 hq4 hn1; rw [show i = n1 by omega]; omega) dX6_word_55 (by decide) (fun c55_7 => ?_) (fun c55_7 => ?_)
        · refine lv_aload_n hx hb dX6_word_60 rfl (lv_at hl 0 rfl) ?_
          refine xw_get hx hb hts hin6 hown hK hP (by decide) fo62 rfl 3 (by decide) hf20 rfl rfl dX6_word_61 ?_
          refine lv_iload_n hx hb dX6_word_64 rfl (lv_at hl 1 rfl) ?_
          refine lv_iload_n hx hb dX6_word_65 rfl (lv_at hl 2 rfl) ?_
          refine xw_iast hx hb hK hP hD hS (by decide) 0 fa64 rfl (by omega) (by decide) dX6_word_66 (fun g8 H locs eg8 hP hS => ?_)
          have fg8_0 : g8 (62) = .inr (6, [.int (nI (q)), .int (nI (Wt)), .ref (ad (63)), .ref (ad (64)), .ref (ad (65)), .ref (ad (66)), .int (nI (T)), .long (tp), .long (bt), .long (nu), .long (de), .int (sq), .ref (ad (67)), .ref (ad (68)), .ref (ad (69)), .ref (ad (70)), .ref (ad (71)), .ref (ad (72)), .ref (ad (73)), .ref (ad (74)), .ref (ad (75)), .ref (ad (76)), .ref (ad (77)), .ref (ad (78)), .ref (ad (79)), .ref (ad (80))]) := (congrFun eg8 (62)).trans ((va_up_ne _ _ (by decide)).trans fo62)
          have fg8_1 : g8 (65) = .inl (cI, 40, .inl (fwd)) := (congrFun eg8 (65)).trans ((va_up_ne _ _ (by decide)).trans fa65)
          have fg8_w : g8 (64) = .inl (cI, 8, .inl (upd (fsz) (k1) (nI (n1)))) := (congrFun eg8 (64)).trans (va_up_self _ _ _)
          have hfrg8 : ∀ j : Nat, j ≠ 64 → j ≠ 65 → g8 j = g j := fun j h0 h1 => (congrFun eg8 j).trans ((va_up_ne _ _ h0).trans ((fun _ _ _ => rfl) j h0 h1))
          refine lv_iload_n hx hb dX6_word_67 rfl (lv_at hl 3 rfl) ?_
          refine lv_istore (lv' := [(5, .int (nI (cd))), (0, .ref (ad (62))), (1, .int (nI (k1))), (2, .int (nI (n1))), (3, .int (nI (cd))), (4, .int (nI (q ^ i)))]) hx hb dX6_word_68 hl (by decide) rfl (fun ls hl => ?_)
          refine lv_iload_n hx hb dX6_word_70 rfl (lv_at hl 3 rfl) ?_
          refine lv_iconst (v := nI (1)) hx hb dX6_word_71 (by decide) ?_
          refine xi_sub hx hb (by omega) dX6_word_72 ?_
          refine xtopi (y := nI n1 - 1) (by rw [← pk_sub (show 1 ≤ n1 by omega)]; rfl) ?_
          refine lv_istore (lv' := [(6, .int (nI n1 - 1)), (5, .int (nI (cd))), (0, .ref (ad (62))), (1, .int (nI (k1))), (2, .int (nI (n1))), (3, .int (nI (cd))), (4, .int (nI (q ^ i)))]) hx hb dX6_word_73 hl (by decide) rfl (fun ls hl => ?_)
          refine xloopW (G := fun H locs fr => W p l e _ s m _ below meth c H locs _ _ _ fr) (σ := Nat × (Nat → Int32)) (fun (j, fx) ls => F0 m 75 ls []) (fun (j, fx) gl75_9 H locs ls => (j ≤ n1) ∧ (∀ x, j ≤ x → x < n1 → fx (5 * k1 + x) = nI (dg q cd n1 x)) ∧ (∀ x, (x < 5 * k1 ∨ 5 * k1 + 5 ≤ x) → fx x = fwd x) ∧ gl75_9 (62) = .inr (6, [.int (nI (q)), .int (nI (Wt)), .ref (ad (63)), .ref (ad (64)), .ref (ad (65)), .ref (ad (66)), .int (nI (T)), .long (tp), .long (bt), .long (nu), .long (de), .int (sq), .ref (ad (67)), .ref (ad (68)), .ref (ad (69)), .ref (ad (70)), .ref (ad (71)), .ref (ad (72)), .ref (ad (73)), .ref (ad (74)), .ref (ad (75)), .ref (ad (76)), .ref (ad (77)), .ref (ad (78)), .ref (ad (79)), .ref (ad (80))]) ∧ gl75_9 (64) = .inl (cI, 8, .inl (upd (fsz) (k1) (nI (n1)))) ∧ gl75_9 (65) = .inl (cI, 40, .inl (fx)) ∧ (∀ j : Nat, j ≠ 64 → j ≠ 65 → gl75_9 j = g j) ∧ va_P D vwCl (xw 81 ad gl75_9) H ∧ va_S A s.heap H locs ∧ lv_has ls 7 [(0, .ref (ad (62))), (1, .int (nI (k1))), (2, .int (nI (n1))), (5, .int (nI (cd / q ^ (n1 - j)))), (6, .int (nI j - 1))]) (fun (j, fx) => j) ?_ (n1, fwd) g8 H locs ls ⟨(Nat.le_refl _), (fun x h1 h2 => absurd h1 (by omega)), (fun _ _ => rfl), fg8_0, fg8_w, fg8_1, hfrg8, hP, hS, (by rw [show cd / q ^ (n1 - n1) = cd by rw [Nat.sub_self, Nat.pow_zero, Nat.div_one]]; exact (lv_sub hl [2, 3, 4, 1, 0] rfl))⟩
          rintro ⟨j, fx⟩ gl75_9 H locs ls ⟨hj, hfa, hfo, fo62, fa64, fa65, hfrgl75_9, hP, hS, hl⟩ ih75
          refine lv_iload hx hb dX6_word_75 (lv_at hl 4 rfl) ?_
          refine lv_if_lt (tgt := 113) hx hb dX6_word_77 (by decide) (fun c77_10 => ?_) (fun c77_10 => ?_)
          · have hj0 : j = 0 := by rcases Nat.eq_zero_or_pos j with h | h; exact h; exact absurd c77_10 (by rw [show j = (j - 1) + 1 by omega, nI_pred]; exact nI_pos (by omega))
            subst hj0
            refine lv_iconst (v := nI (1)) hx hb dX6_word_113 (by decide) ?_
            exact W.zret (v := nI (1)) hx hb hr (by decide) (fun tZ ht hW => ⟨⟨_, gl75_9, rfl, ⟨rfl, fx, fun x hx => hfa x (Nat.zero_le _) hx, hfo, fa64, fa65, hfrgl75_9⟩, by rw [ht]; exact hP, va_K.moved hW.alike hK, va_Nw.warmM hW hN⟩, hS.F ht⟩) hS.2.2 dX6_word_114
          · obtain ⟨k, rfl⟩ : ∃ k, j = k + 1 := ⟨j - 1, by rcases Nat.eq_zero_or_pos j with h | h; exact absurd (show nI j - 1 < 0 by rw [h]; decide) c77_10; omega⟩
            rw [nI_pred] at hl
            have hrs : cd / q ^ (n1 - (k + 1)) ≤ cd := Nat.div_le_self _ _
            refine lv_aload_n hx hb dX6_word_80 rfl (lv_at hl 0 rfl) ?_
            refine xw_get hx hb hts hin6 hown hK hP (by decide) fo62 rfl 4 (by decide) hf23 rfl rfl dX6_word_81 ?_
            refine lv_iconst (v := nI (5)) hx hb dX6_word_84 (by decide) ?_
            refine lv_iload_n hx hb dX6_word_85 rfl (lv_at hl 1 rfl) ?_
            refine xi_mul hx hb dX6_word_86 ?_
            refine lv_iload hx hb dX6_word_87 (lv_at hl 4 rfl) ?_
            refine xi_add hx hb dX6_word_89 ?_
            refine lv_iload hx hb dX6_word_90 (lv_at hl 3 rfl) ?_
            refine lv_aload_n hx hb dX6_word_92 rfl (lv_at hl 0 rfl) ?_
            refine xw_get hx hb hts hin6 hown hK hP (by decide) fo62 rfl 0 (by decide) hf7 rfl rfl dX6_word_93 ?_
            refine xi_rem hx hb (by have h9 := pow_le5 hq4 hn1; omega) (by omega) (by omega) dX6_word_96 ?_
            refine xtopi (y := nI (dg q cd n1 k)) (congrArg nI (dg_st (by omega))) ?_
            refine xw_iast hx hb hK hP hD hS (by decide) 0 fa65 rfl (by omega) (by decide) dX6_word_97 (fun g11 H locs eg11 hP hS => ?_)
            have fg11_0 : g11 (62) = .inr (6, [.int (nI (q)), .int (nI (Wt)), .ref (ad (63)), .ref (ad (64)), .ref (ad (65)), .ref (ad (66)), .int (nI (T)), .long (tp), .long (bt), .long (nu), .long (de), .int (sq), .ref (ad (67)), .ref (ad (68)), .ref (ad (69)), .ref (ad (70)), .ref (ad (71)), .ref (ad (72)), .ref (ad (73)), .ref (ad (74)), .ref (ad (75)), .ref (ad (76)), .ref (ad (77)), .ref (ad (78)), .ref (ad (79)), .ref (ad (80))]) := (congrFun eg11 (62)).trans ((va_up_ne _ _ (by decide)).trans fo62)
            have fg11_1 : g11 (64) = .inl (cI, 8, .inl (upd (fsz) (k1) (nI (n1)))) := (congrFun eg11 (64)).trans ((va_up_ne _ _ (by decide)).trans fa64)
            have fg11_w : g11 (65) = .inl (cI, 40, .inl (upd (fx) ((5 * k1) + k) (nI (dg q cd n1 k)))) := (congrFun eg11 (65)).trans (va_up_self _ _ _)
            have hfrg11 : ∀ j : Nat, j ≠ 64 → j ≠ 65 → g11 j = g j := fun j h0 h1 => (congrFun eg11 j).trans ((va_up_ne _ _ h1).trans (hfrgl75_9 j h0 h1))
            refine lv_iload hx hb dX6_word_98 (lv_at hl 3 rfl) ?_
            refine lv_aload_n hx hb dX6_word_100 rfl (lv_at hl 0 rfl) ?_
            refine xw_get hx hb hts hin6 hown hK hP (by decide) fg11_0 rfl 0 (by decide) hf7 rfl rfl dX6_word_101 ?_
            refine xi_div hx hb (by have h9 := pow_le5 hq4 hn1; omega) (by omega) (by omega) dX6_word_104 ?_
            refine xtopi (y := nI (cd / q ^ (n1 - k))) (congrArg nI (dg_rs (by omega))) ?_
            refine lv_istore (lv' := [(5, .int (nI (cd / q ^ (n1 - k)))), (0, .ref (ad (62))), (1, .int (nI (k1))), (2, .int (nI (n1))), (6, .int (nI (k)))]) hx hb dX6_word_105 hl (by decide) rfl (fun ls hl => ?_)
            refine lv_iinc (v := nI (k) - 1) (lv' := [(6, .int (nI (k) - 1)), (5, .int (nI (cd / q ^ (n1 - k)))), (0, .ref (ad (62))), (1, .int (nI (k1))), (2, .int (nI (n1)))]) hx hb dX6_word_107 hl (k := 4) rfl (by rw [Int32.sub_eq_add_neg]; rfl) (by decide) rfl (fun ls hl => ?_)
            refine lv_goto (tgt := 75) hx hb dX6_word_110 (by decide) ?_
            exact ih75 (k, upd (fx) ((5 * k1) + k) (nI (dg q cd n1 k))) g11 H locs ls ⟨(by omega), (fun x h1 h2 => if e : x = k then by subst e; rw [pk_us] else by rw [pk_un (by omega)]; exact hfa x (by omega) h2), (fun x hx => by rw [pk_un (by omega)]; exact hfo x hx), fg11_0, fg11_1, fg11_w, hfrg11, hP, hS, (lv_sub hl [2, 3, 4, 1, 0] rfl)⟩ (by first | omega | (dsimp only; omega))
        · exact absurd hcd (by rw [show n1 = i by omega]; exact Nat.not_lt.mpr c55_7)
      · refine lv_iload hx hb dX6_word_37 (lv_at hl 4 rfl) ?_
        refine lv_aload_n hx hb dX6_word_39 rfl (lv_at hl 0 rfl) ?_
        refine xw_get hx hb hts hin6 hown hK hP (by decide) fo62 rfl 0 (by decide) hf7 rfl rfl dX6_word_40 ?_
        refine xi_mul hx hb dX6_word_43 ?_
        refine xtopi (y := nI (q ^ (i + 1))) (congrArg nI (Nat.pow_succ ..).symm) ?_
        refine lv_istore (lv' := [(4, .int (nI (q ^ (i + 1)))), (0, .ref (ad (62))), (1, .int (nI (k1))), (2, .int (nI (n1))), (3, .int (nI (cd))), (5, .int (nI (i)))]) hx hb dX6_word_44 hl (by decide) rfl (fun ls hl => ?_)
        refine lv_iinc (v := nI (i + 1)) (lv' := [(5, .int (nI (i + 1))), (4, .int (nI (q ^ (i + 1)))), (0, .ref (ad (62))), (1, .int (nI (k1))), (2, .int (nI (n1))), (3, .int (nI (cd)))]) hx hb dX6_word_46 hl (k := 5) rfl (nI_add (i) 1) (by decide) rfl (fun ls hl => ?_)
        refine lv_goto (tgt := 31) hx hb dX6_word_49 (by decide) ?_
        exact ih31 (i + 1) ls ⟨(by omega), (lv_sub hl [2, 3, 4, 5, 1, 0] rfl)⟩ (by first | omega | (dsimp only; omega))

set_option maxHeartbeats 4000000 in
set_option maxRecDepth 100000 in
/-- best -/
theorem mX6_best_yes (l : Launch) {D : va_G} {cI cJ cZ cW : ClassId} {ad : Nat → Nat} {A : Nat → Prop} (hD : ∀ g, va_D A (xw 81 ad g)) {g : Nat → va_E} {q Wt : Nat} {w : Nat → Nat} {ln : Nat → Nat} {u : Nat → Nat → Nat} {T : Nat} {t : Nat → Nat} {tp bt : Int64} {k1 ot : Nat}  (hM : ModI cI cJ ad g q Wt w ln u T t tp bt) (hs : SrcI q Wt w ln u T t) (hk1 : k1 < 8) (hp1 : 0 < ln k1) (hot : (k1 = 0 ∧ ot = 1) ∨ (0 < k1 ∧ ot = 0)) (hev : ∀ j, j < q → w j = w 0) (hn3 : 3 ≤ ln k1) (hB : bsOK q Wt w ln u) : Met l yX6_best wsX6_best ({ frames := 6, cells := 0, slots := 0, locals := 166 }) (va_Pc [.ref (ad (62)), .int (nI (k1))] (xB D (xT cI cJ cZ cW) ad g)) (va_Qi (fun r g2 => r = (match oBest q Wt w ln u (nI k1) with | some p => p.1 | none => -1) ∧ ModI cI cJ ad g2 q Wt w ln u T t (hTp ((oBest q Wt w ln u (nI k1)).map Prod.snd) tp) (hBt ((oBest q Wt w ln u (nI k1)).map Prod.snd) bt) ∧ ∀ j : Nat, j < 62 → g2 j = g j) (xB D (xT cI cJ cZ cW) ad) A) 0 0 A := by
  refine Met.ofW (cc := cX6_best) (maxL := 15) (ret := (some .int)) (by decide) rfl ?_
  intro p e s m args below meth c s₁ B hml hv
  obtain ⟨rfl, hP, hK, hN⟩ := hv
  have hx := B.exec
  have hb := B.bytes
  have hr := B.returns
  have hts := atoms_spec (ws := wsX6_best) B.pre
  have hown : s.vm.findClass RX6 = some m.cls := findClass_of_methodNamed B.named
  have hlocks := B.notSynchronized
  have hS : va_S A s.heap s.heap [] := va_S.rf
  have hin6 : ∀ w ∈ wsX60, w ∈ wsX6_best := by decide +kernel
  have hf7 := hts (.fieldLink RX6 7 "LettersByLotModel" "q" "I") (by decide +kernel)
  have hf16 := hts (.fieldLink RX6 16 "LettersByLotModel" "weight" "[I") (by decide +kernel)
  have hf20 := hts (.fieldLink RX6 20 "LettersByLotModel" "size" "[I") (by decide +kernel)
  have hf106 := hts (.fieldLink RX6 106 "LettersByLotModel" "num" "J") (by decide +kernel)
  have hf109 := hts (.fieldLink RX6 109 "LettersByLotModel" "den" "J") (by decide +kernel)
  have hl := lv_entry ([.ref (ad (62)), .int (nI (k1))]) (n := 15) (Nat.le_of_ble_eq_true rfl)
  rw [lg_entry_eq]
  generalize (lg_sl ([.ref (ad (62)), .int (nI (k1))]) ++ List.replicate (15 - (lg_sl ([.ref (ad (62)), .int (nI (k1))])).length) Slot.unset).toArray = ls at hl ⊢
  have hl : lv_has ls 15 [(0, .ref (ad (62))), (1, .int (nI (k1)))] := hl
  have hs0 := hs
  obtain ⟨hq2, hq4, hw1, hw0, hWs, hWt, hw, hln, hul, hT, ht⟩ := hs
  obtain ⟨sq, nu, de, fw, fsz, fwd, ftx, fos, foz, fgo, frw, fan, fad, frn, frd, fen, fed, fcn, fcd, fnw, fth, fo62, fa63, fa64, fa65, fa66, fa67, fa68, fa69, fa70, fa71, fa72, fa73, fa74, fa75, fa76, fa77, fa78, fa79, fa80, hfw, hsz, hwl, htx⟩ := id hM
  have hWp : 1 ≤ Wt ∧ Wt ≤ 4 := by have h8 := hw1 0 (by omega); have h9 := wsum_mono (w := w) (show 1 ≤ q by omega); have h7 : wsum w 1 = 0 + w 0 := rfl; omega
  have hwA : ∀ k j, j < ln k → 1 ≤ w (u k j) := fun k j hj => hw1 _ (hul k j hj)
  have hwB : ∀ k j, j < ln k → w (u k j) ≤ 4 := fun k j hj => hw _ (Nat.lt_of_lt_of_le (hul k j hj) hq4)
  have htt := ht
  have hn1 := hln k1
  have hot8 : ot < 8 := by omega
  have hko : k1 ≠ ot := by omega
  have hno := hln ot
  have hpo : px q (u ot) (ln ot) < q ^ ln ot := px_lt (hul ot)
  have hpk : px q (u k1) (ln k1) < q ^ ln k1 := px_lt (hul k1)
  have hq5 := pow_le5 hq4 hn1
  have hq6 := pow_le5 hq4 hno
  refine lv_aload_n hx hb dX6_best_0 rfl (lv_at hl 0 rfl) ?_
  refine lv_iload_n hx hb dX6_best_1 rfl (lv_at hl 1 rfl) ?_
  refine vp_callSi (va_Run.run (va_runV (As := [.int (nI (k1))]) (rest := []) ⟨hx, hb, hml, hown, hts⟩ (mX6_isWord_yes l (w := w) (ln := ln) (t := t) (u := u) fo62 fa64 hsz hk1 hp1 (hln _)) (cwV 1 hts gX6_best_X6_isWord rfl rfl rfl (by decide +kernel) ⟨Nat.le_of_ble_eq_true rfl, Nat.le_of_ble_eq_true rfl⟩) ⟨xB_blind, va_recv hK hP (ci := 6) rfl (xw_is (by decide) fo62), fun U hU hW => ⟨rfl, by rw [hU]; exact hP, va_K.moved hW.alike hK, va_Nw.warmM hW hN⟩⟩ rfl rfl hl.1 rfl (lv_room (Nat.le_of_ble_eq_true rfl)) dX6_best_2 ⟨Nat.le_of_ble_eq_true rfl, Nat.le_of_ble_eq_true rfl⟩)) (fun r1 er1 => ?_)
  subst er1
  refine xi_if_eq (tgt := 18) hx hb (by decide) dX6_best_5 (by decide) (fun c0 => absurd c0 (by decide)) (fun _ => ?_)
  refine lv_aload_n hx hb dX6_best_8 rfl (lv_at hl 0 rfl) ?_
  refine xw_get hx hb hts hin6 hown hK hP (by decide) fo62 rfl 3 (by decide) hf20 rfl rfl dX6_best_9 ?_
  refine lv_iload_n hx hb dX6_best_12 rfl (lv_at hl 1 rfl) ?_
  refine xw_iald hx hb hK hP (by decide) 0 fa64 rfl (by omega) (by decide) dX6_best_13 ?_
  rw [hsz (k1) (by omega)]
  refine lv_iconst (v := nI (3)) hx hb dX6_best_14 (by decide) ?_
  refine xi_icmp_ge (tgt := 20) hx hb (by omega) (by decide) dX6_best_15 (by decide) (fun c15_3 => ?_) (fun c15_3 => ?_)
  · refine lv_iconst (v := nI (1)) hx hb dX6_best_20 (by decide) ?_
    refine lv_istore_n (lv' := [(2, .int (nI (1))), (0, .ref (ad (62))), (1, .int (nI (k1)))]) hx hb dX6_best_21 rfl hl (by decide) rfl (fun ls hl => ?_)
    refine xloop (G := fun fr => W p l e _ s m _ below meth c _ _ _ _ _ fr) (σ := Nat) (fun i ls => F0 m 22 ls []) (fun i ls => (1 ≤ i ∧ i ≤ q) ∧ (∀ j, j < i → w j = w 0) ∧ lv_has ls 15 [(0, .ref (ad (62))), (1, .int (nI (k1))), (2, .int (nI (i)))]) (fun i => q - i) ?_ (1) ls ⟨⟨Nat.le_refl 1, by omega⟩, (fun j hj => by rw [show j = 0 by omega]), (lv_sub hl [1, 2, 0] rfl)⟩
    rintro i ls ⟨hi, hei, hl⟩ ih22
    refine lv_iload_n hx hb dX6_best_22 rfl (lv_at hl 2 rfl) ?_
    refine lv_aload_n hx hb dX6_best_23 rfl (lv_at hl 0 rfl) ?_
    refine xw_get hx hb hts hin6 hown hK hP (by decide) fo62 rfl 0 (by decide) hf7 rfl rfl dX6_best_24 ?_
    refine xi_icmp_ge (tgt := 53) hx hb (by omega) (by omega) dX6_best_27 (by decide) (fun c27_4 => ?_) (fun c27_4 => ?_)
    · refine xjoin (G := fun fr => W p l e _ s m _ below meth c _ _ _ _ _ fr) (F0 m 62 ls [.int (nI (ot))]) ?_ (fun hJ => ?_)
      · refine lv_istore_n (lv' := [(2, .int (nI (ot))), (0, .ref (ad (62))), (1, .int (nI (k1)))]) hx hb dX6_best_62 rfl hl (by decide) rfl (fun ls hl => ?_)
        refine lv_aload_n hx hb dX6_best_63 rfl (lv_at hl 1 rfl) ?_
        refine xw_get hx hb hts hin6 hown hK hP (by decide) fo62 rfl 3 (by decide) hf20 rfl rfl dX6_best_64 ?_
        refine lv_iload_n hx hb dX6_best_67 rfl (lv_at hl 2 rfl) ?_
        refine xw_iald hx hb hK hP (by decide) 0 fa64 rfl (by omega) (by decide) dX6_best_68 ?_
        rw [hsz (k1) (by omega)]
        refine lv_istore_n (lv' := [(3, .int (nI (ln (k1)))), (2, .int (nI (ot))), (0, .ref (ad (62))), (1, .int (nI (k1)))]) hx hb dX6_best_69 rfl hl (by decide) rfl (fun ls hl => ?_)
        refine lv_aload_n hx hb dX6_best_70 rfl (lv_at hl 2 rfl) ?_
        refine xw_get hx hb hts hin6 hown hK hP (by decide) fo62 rfl 3 (by decide) hf20 rfl rfl dX6_best_71 ?_
        refine lv_iload_n hx hb dX6_best_74 rfl (lv_at hl 1 rfl) ?_
        refine xw_iald hx hb hK hP (by decide) 0 fa64 rfl (by omega) (by decide) dX6_best_75 ?_
        rw [hsz (ot) (by omega)]
        refine lv_istore (lv' := [(4, .int (nI (ln (ot)))), (3, .int (nI (ln (k1)))), (2, .int (nI (ot))), (0, .ref (ad (62))), (1, .int (nI (k1)))]) hx hb dX6_best_76 hl (by decide) rfl (fun ls hl => ?_)
        refine xjoin (G := fun fr => W p l e _ s m _ below meth c _ _ _ _ _ fr) (F0 m 92 ls [.int (nI (px q (u ot) (ln ot)))]) ?_ (fun hJ => ?_)
        · refine lv_istore (lv' := [(5, .int (nI (px q (u ot) (ln ot)))), (4, .int (nI (ln (ot)))), (3, .int (nI (ln (k1)))), (2, .int (nI (ot))), (0, .ref (ad (62))), (1, .int (nI (k1)))]) hx hb dX6_best_92 hl (by decide) rfl (fun ls hl => ?_)
          refine lv_aload_n hx hb dX6_best_94 rfl (lv_at hl 4 rfl) ?_
          refine lv_iload_n hx hb dX6_best_95 rfl (lv_at hl 5 rfl) ?_
          refine vp_callSi (va_Run.run (va_runV (As := [.int (nI (k1))]) (rest := []) ⟨hx, hb, hml, hown, hts⟩ (mX6_codeOf l (w := w) (ln := ln) (t := t) (u := u) fo62 fa64 fa65 hsz hwl hln (by omega)) (cwV 1 hts gX6_best_X6_codeOf rfl rfl rfl (by decide +kernel) ⟨Nat.le_of_ble_eq_true rfl, Nat.le_of_ble_eq_true rfl⟩) ⟨xB_blind, va_recv hK hP (ci := 6) rfl (xw_is (by decide) fo62), fun U hU hW => ⟨rfl, by rw [hU]; exact hP, va_K.moved hW.alike hK, va_Nw.warmM hW hN⟩⟩ rfl rfl hl.1 rfl (lv_room (Nat.le_of_ble_eq_true rfl)) dX6_best_96 ⟨Nat.le_of_ble_eq_true rfl, Nat.le_of_ble_eq_true rfl⟩)) (fun r5 er5 => ?_)
          subst er5
          refine lv_istore (lv' := [(6, .int (nI (px q (u (k1)) (ln (k1))))), (5, .int (nI (px q (u ot) (ln ot)))), (4, .int (nI (ln (ot)))), (3, .int (nI (ln (k1)))), (2, .int (nI (ot))), (0, .ref (ad (62))), (1, .int (nI (k1)))]) hx hb dX6_best_99 hl (by decide) rfl (fun ls hl => ?_)
          refine lv_iconst (v := nI (1)) hx hb dX6_best_101 (by decide) ?_
          refine lv_istore (lv' := [(7, .int (nI (1))), (6, .int (nI (px q (u (k1)) (ln (k1))))), (5, .int (nI (px q (u ot) (ln ot)))), (4, .int (nI (ln (ot)))), (3, .int (nI (ln (k1)))), (2, .int (nI (ot))), (0, .ref (ad (62))), (1, .int (nI (k1)))]) hx hb dX6_best_102 hl (by decide) rfl (fun ls hl => ?_)
          refine lv_iconst (v := nI (0)) hx hb dX6_best_104 (by decide) ?_
          refine lv_istore (lv' := [(8, .int (nI (0))), (7, .int (nI (1))), (6, .int (nI (px q (u (k1)) (ln (k1))))), (5, .int (nI (px q (u ot) (ln ot)))), (4, .int (nI (ln (ot)))), (3, .int (nI (ln (k1)))), (2, .int (nI (ot))), (0, .ref (ad (62))), (1, .int (nI (k1)))]) hx hb dX6_best_105 hl (by decide) rfl (fun ls hl => ?_)
          refine xloop (G := fun fr => W p l e _ s m _ below meth c _ _ _ _ _ fr) (σ := Nat) (fun i ls => F0 m 107 ls []) (fun i ls => (i ≤ ln k1) ∧ lv_has ls 15 [(0, .ref (ad (62))), (1, .int (nI (k1))), (2, .int (nI (ot))), (3, .int (nI (ln k1))), (4, .int (nI (ln ot))), (5, .int (nI (px q (u ot) (ln ot)))), (6, .int (nI (px q (u k1) (ln k1)))), (7, .int (nI (q ^ i))), (8, .int (nI (i)))]) (fun i => ln k1 - i) ?_ (0) ls ⟨(Nat.zero_le _), (lv_sub hl [7, 8, 6, 5, 4, 3, 2, 1, 0] rfl)⟩
          rintro i ls ⟨hi, hl⟩ ih107
          refine lv_iload hx hb dX6_best_107 (lv_at hl 8 rfl) ?_
          refine lv_iload_n hx hb dX6_best_109 rfl (lv_at hl 3 rfl) ?_
          refine xi_icmp_ge (tgt := 128) hx hb (by omega) (by omega) dX6_best_110 (by decide) (fun c110_6 => ?_) (fun c110_6 => ?_)
          · have ei : i = ln k1 := by omega
            subst ei
            refine lv_iconst (v := (-1)) hx hb dX6_best_128 (by decide) ?_
            refine lv_istore (lv' := [(8, .int ((-1))), (0, .ref (ad (62))), (1, .int (nI (k1))), (2, .int (nI (ot))), (3, .int (nI (ln k1))), (4, .int (nI (ln ot))), (5, .int (nI (px q (u ot) (ln ot)))), (6, .int (nI (px q (u k1) (ln k1)))), (7, .int (nI (q ^ ln k1)))]) hx hb dX6_best_129 hl (by decide) rfl (fun ls hl => ?_)
            refine lv_lconst (v := lZ (0)) hx hb dX6_best_131 (by decide) ?_
            refine lv_lstore (lv' := [(9, .long (lZ (0))), (8, .int ((-1))), (0, .ref (ad (62))), (1, .int (nI (k1))), (2, .int (nI (ot))), (3, .int (nI (ln k1))), (4, .int (nI (ln ot))), (5, .int (nI (px q (u ot) (ln ot)))), (6, .int (nI (px q (u k1) (ln k1)))), (7, .int (nI (q ^ ln k1)))]) hx hb dX6_best_132 hl (by decide) rfl (fun ls hl => ?_)
            refine lv_lconst (v := lZ (1)) hx hb dX6_best_134 (by decide) ?_
            refine lv_lstore (lv' := [(11, .long (lZ (1))), (9, .long (lZ (0))), (8, .int ((-1))), (0, .ref (ad (62))), (1, .int (nI (k1))), (2, .int (nI (ot))), (3, .int (nI (ln k1))), (4, .int (nI (ln ot))), (5, .int (nI (px q (u ot) (ln ot)))), (6, .int (nI (px q (u k1) (ln k1)))), (7, .int (nI (q ^ ln k1)))]) hx hb dX6_best_135 hl (by decide) rfl (fun ls hl => ?_)
            refine lv_iconst (v := nI (0)) hx hb dX6_best_137 (by decide) ?_
            refine lv_istore (lv' := [(13, .int (nI (0))), (11, .long (lZ (1))), (9, .long (lZ (0))), (8, .int ((-1))), (0, .ref (ad (62))), (1, .int (nI (k1))), (2, .int (nI (ot))), (3, .int (nI (ln k1))), (4, .int (nI (ln ot))), (5, .int (nI (px q (u ot) (ln ot)))), (6, .int (nI (px q (u k1) (ln k1)))), (7, .int (nI (q ^ ln k1)))]) hx hb dX6_best_138 hl (by decide) rfl (fun ls hl => ?_)
            refine xloopW (G := fun H locs fr => W p l e _ s m _ below meth c H locs _ _ _ fr) (σ := Nat × Int64 × Int64 × Int32 × (Nat → Int32) × (Nat → Int32) × (Nat → Int32) × (Nat → Int32) × (Nat → Int32) × (Nat → Int32) × (Nat → Int64) × (Nat → Int64) × (Nat → Int64) × (Nat → Int64)) (fun (i, nx, dx, sx, fs, fd, v7, v8, v9, v0, vA, vB, vC, vD) ls => F0 m 140 ls []) (fun (i, nx, dx, sx, fs, fd, v7, v8, v9, v0, vA, vB, vC, vD) gl140_7 H locs ls => (i ≤ q ^ ln k1) ∧ ((-5242880 ≤ (bst q Wt w (u k1) (ln k1) i).2.1 ∧ (bst q Wt w (u k1) (ln k1) i).2.1 ≤ 5242880) ∧ (bst q Wt w (u k1) (ln k1) i).2.2 ≤ 10485760) ∧ (∀ k, k < 8 → k ≠ ot → fs k = nI (ln k)) ∧ (∀ k j, k < 8 → k ≠ ot → j < ln k → fd (5 * k + j) = nI (u k j)) ∧ gl140_7 (62) = .inr (6, [.int (nI (q)), .int (nI (Wt)), .ref (ad (63)), .ref (ad (64)), .ref (ad (65)), .ref (ad (66)), .int (nI (T)), .long (tp), .long (bt), .long (nx), .long (dx), .int (sx), .ref (ad (67)), .ref (ad (68)), .ref (ad (69)), .ref (ad (70)), .ref (ad (71)), .ref (ad (72)), .ref (ad (73)), .ref (ad (74)), .ref (ad (75)), .ref (ad (76)), .ref (ad (77)), .ref (ad (78)), .ref (ad (79)), .ref (ad (80))]) ∧ gl140_7 (63) = .inl (cI, 4, .inl (fw)) ∧ gl140_7 (64) = .inl (cI, 8, .inl (fs)) ∧ gl140_7 (65) = .inl (cI, 40, .inl (fd)) ∧ gl140_7 (67) = .inl (cI, 13, .inl (v7)) ∧ gl140_7 (68) = .inl (cI, 13, .inl (v8)) ∧ gl140_7 (69) = .inl (cI, 52, .inl (v9)) ∧ gl140_7 (70) = .inl (cI, 6, .inl (v0)) ∧ gl140_7 (71) = .inl (cJ, 169, .inr (.inl (vA))) ∧ gl140_7 (72) = .inl (cJ, 169, .inr (.inl (vB))) ∧ gl140_7 (73) = .inl (cJ, 13, .inr (.inl (vC))) ∧ gl140_7 (74) = .inl (cJ, 13, .inr (.inl (vD))) ∧ (∀ j : Nat, j ≠ 62 → j ≠ 64 → j ≠ 65 → j ≠ 67 → j ≠ 68 → j ≠ 69 → j ≠ 70 → j ≠ 71 → j ≠ 72 → j ≠ 73 → j ≠ 74 → gl140_7 j = g j) ∧ va_P D vwCl (xw 81 ad gl140_7) H ∧ va_S A s.heap H locs ∧ lv_has ls 15 [(0, .ref (ad (62))), (1, .int (nI (k1))), (2, .int (nI (ot))), (3, .int (nI (ln k1))), (4, .int (nI (ln ot))), (5, .int (nI (px q (u ot) (ln ot)))), (6, .int (nI (px q (u k1) (ln k1)))), (7, .int (nI (q ^ ln k1))), (8, .int ((bst q Wt w (u k1) (ln k1) i).1)), (9, .long (lZ ((bsX q Wt w (u k1) (ln k1) i).num))), (11, .long (lZ (((bsX q Wt w (u k1) (ln k1) i).den : Int)))), (13, .int (nI (i)))]) (fun (i, nx, dx, sx, fs, fd, v7, v8, v9, v0, vA, vB, vC, vD) => q ^ ln k1 - i) ?_ (0, nu, de, sq, fsz, fwd, fos, foz, fgo, frw, fan, fad, frn, frd) g s.heap [] ls ⟨(Nat.zero_le _), (show ((-5242880 : Int) ≤ 0 ∧ (0 : Int) ≤ 5242880) ∧ (1 : Int) ≤ 10485760 by decide), (fun k hk _ => hsz k hk), (fun k j hk _ hj => hwl k j hk hj), fo62, fa63, fa64, fa65, fa67, fa68, fa69, fa70, fa71, fa72, fa73, fa74, (fun _ _ _ _ _ _ _ _ _ _ _ _ => rfl), hP, hS, (by rw [bsX_0]; exact (lv_sub hl [4, 5, 6, 7, 8, 9, 10, 11, 3, 2, 1, 0] rfl))⟩
            rintro ⟨i, nx, dx, sx, fs, fd, v7, v8, v9, v0, vA, vB, vC, vD⟩ gl140_7 H locs ls ⟨hi, hcb, hfs, hfd, fo62, fa63, fa64, fa65, fa67, fa68, fa69, fa70, fa71, fa72, fa73, fa74, hfrgl140_7, hP, hS, hl⟩ ih140
            obtain ⟨hb2, hb3⟩ := bst_inv (q := q) (Wt := Wt) (w := w) (u := u k1) (n := ln k1) (s := i) (fun cd h1 h2 => ⟨(hB k1 ot cd hk1 hot8 hko hn3 hev (by omega) h2).1, (hB k1 ot cd hk1 hot8 hko hn3 hev (by omega) h2).2.1⟩)
            have hndb : (-5242880 ≤ (bsX q Wt w (u k1) (ln k1) i).num ∧ (bsX q Wt w (u k1) (ln k1) i).num ≤ 5242880) ∧ (0 < ((bsX q Wt w (u k1) (ln k1) i).den : Int) ∧ ((bsX q Wt w (u k1) (ln k1) i).den : Int) ≤ 10485760) := nd_b hb2 hcb.1.1 hcb.1.2 hcb.2
            refine lv_iload hx hb dX6_best_140 (lv_at hl 11 rfl) ?_
            refine lv_iload hx hb dX6_best_142 (lv_at hl 7 rfl) ?_
            refine xi_icmp_ge (tgt := 227) hx hb (by omega) (by omega) dX6_best_144 (by decide) (fun c144_8 => ?_) (fun c144_8 => ?_)
            · have hiq : i = q ^ ln k1 := by omega
              rw [hiq] at hl hndb
              refine lv_aload_n hx hb dX6_best_227 rfl (lv_at hl 0 rfl) ?_
              refine xw_get hx hb hts hin6 hown hK hP (by decide) fo62 rfl 3 (by decide) hf20 rfl rfl dX6_best_228 ?_
              refine lv_iload_n hx hb dX6_best_231 rfl (lv_at hl 2 rfl) ?_
              refine lv_iload hx hb dX6_best_232 (lv_at hl 4 rfl) ?_
              refine xw_iast hx hb hK hP hD hS (by decide) 0 fa64 rfl (by omega) (by decide) dX6_best_234 (fun g9 H locs eg9 hP hS => ?_)
              have fg9_0 : g9 (62) = .inr (6, [.int (nI (q)), .int (nI (Wt)), .ref (ad (63)), .ref (ad (64)), .ref (ad (65)), .ref (ad (66)), .int (nI (T)), .long (tp), .long (bt), .long (nx), .long (dx), .int (sx), .ref (ad (67)), .ref (ad (68)), .ref (ad (69)), .ref (ad (70)), .ref (ad (71)), .ref (ad (72)), .ref (ad (73)), .ref (ad (74)), .ref (ad (75)), .ref (ad (76)), .ref (ad (77)), .ref (ad (78)), .ref (ad (79)), .ref (ad (80))]) := (congrFun eg9 (62)).trans ((va_up_ne _ _ (by decide)).trans fo62)
              have fg9_1 : g9 (63) = .inl (cI, 4, .inl (fw)) := (congrFun eg9 (63)).trans ((va_up_ne _ _ (by decide)).trans fa63)
              have fg9_2 : g9 (65) = .inl (cI, 40, .inl (fd)) := (congrFun eg9 (65)).trans ((va_up_ne _ _ (by decide)).trans fa65)
              have fg9_3 : g9 (67) = .inl (cI, 13, .inl (v7)) := (congrFun eg9 (67)).trans ((va_up_ne _ _ (by decide)).trans fa67)
              have fg9_4 : g9 (68) = .inl (cI, 13, .inl (v8)) := (congrFun eg9 (68)).trans ((va_up_ne _ _ (by decide)).trans fa68)
              have fg9_5 : g9 (69) = .inl (cI, 52, .inl (v9)) := (congrFun eg9 (69)).trans ((va_up_ne _ _ (by decide)).trans fa69)
              have fg9_6 : g9 (70) = .inl (cI, 6, .inl (v0)) := (congrFun eg9 (70)).trans ((va_up_ne _ _ (by decide)).trans fa70)
              have fg9_7 : g9 (71) = .inl (cJ, 169, .inr (.inl (vA))) := (congrFun eg9 (71)).trans ((va_up_ne _ _ (by decide)).trans fa71)
              have fg9_8 : g9 (72) = .inl (cJ, 169, .inr (.inl (vB))) := (congrFun eg9 (72)).trans ((va_up_ne _ _ (by decide)).trans fa72)
              have fg9_9 : g9 (73) = .inl (cJ, 13, .inr (.inl (vC))) := (congrFun eg9 (73)).trans ((va_up_ne _ _ (by decide)).trans fa73)
              have fg9_10 : g9 (74) = .inl (cJ, 13, .inr (.inl (vD))) := (congrFun eg9 (74)).trans ((va_up_ne _ _ (by decide)).trans fa74)
              have fg9_w : g9 (64) = .inl (cI, 8, .inl (upd (fs) (ot) (nI (ln ot)))) := (congrFun eg9 (64)).trans (va_up_self _ _ _)
              have hfrg9 : ∀ j : Nat, j ≠ 62 → j ≠ 64 → j ≠ 65 → j ≠ 67 → j ≠ 68 → j ≠ 69 → j ≠ 70 → j ≠ 71 → j ≠ 72 → j ≠ 73 → j ≠ 74 → g9 j = g j := fun j h0 h1 h2 h3 h4 h5 h6 h7 h8 h9 h10 => (congrFun eg9 j).trans ((va_up_ne _ _ h1).trans (hfrgl140_7 j h0 h1 h2 h3 h4 h5 h6 h7 h8 h9 h10))
              refine lv_iload hx hb dX6_best_235 (lv_at hl 4 rfl) ?_
              refine xi_if_le (tgt := 251) hx hb (by omega) dX6_best_237 (by decide) (fun c237_10 => ?_) (fun c237_10 => ?_)
              · refine lv_aload_n hx hb dX6_best_251 rfl (lv_at hl 0 rfl) ?_
                refine lv_lload hx hb dX6_best_252 (lv_at hl 9 rfl) ?_
                refine lv_lload hx hb dX6_best_254 (lv_at hl 10 rfl) ?_
                refine va_callv (va_runV (As := [.long (lZ ((bsX q Wt w (u k1) (ln k1) (q ^ ln k1)).num)), .long (lZ (((bsX q Wt w (u k1) (ln k1) (q ^ ln k1)).den : Int)))]) (rest := []) ⟨hx, hb, hml, hown, hts⟩ (mX6_atHand l hD (w := w) (ln := ln) (t := t) (u := u) (a := (bsX q Wt w (u k1) (ln k1) (q ^ ln k1)).num) (b := ((bsX q Wt w (u k1) (ln k1) (q ^ ln k1)).den : Int)) fg9_0 ⟨(show fitR (bsX q Wt w (u k1) (ln k1) (q ^ ln k1)) from ⟨by omega, by omega, by omega⟩).1, (show fitR (bsX q Wt w (u k1) (ln k1) (q ^ ln k1)) from ⟨by omega, by omega, by omega⟩).2.1⟩ ⟨by have h9 := (bsX q Wt w (u k1) (ln k1) (q ^ ln k1)).den_pos; omega, (show fitR (bsX q Wt w (u k1) (ln k1) (q ^ ln k1)) from ⟨by omega, by omega, by omega⟩).2.2⟩) (cwV 2 hts gX6_best_X6_atHand rfl rfl rfl (by decide +kernel) ⟨Nat.le_of_ble_eq_true rfl, Nat.le_of_ble_eq_true rfl⟩) ⟨xB_blind, va_recv hK hP (ci := 6) rfl (xw_is (by decide) fg9_0), fun U hU hW => ⟨rfl, by rw [hU]; exact hP, va_K.moved hW.alike hK, va_Nw.warmM hW hN⟩⟩ rfl rfl hl.1 rfl (lv_room (Nat.le_of_ble_eq_true rfl)) dX6_best_256 ⟨Nat.le_of_ble_eq_true rfl, Nat.le_of_ble_eq_true rfl⟩) hS (fun _ _ h => h) (fun _ h => h) (fun g11 tZ H locs ht hvm hwg11 hB hzZ hkZ hS => ?_)
                obtain ⟨hP, -⟩ := hB
                rw [ht] at hP
                obtain ⟨fg11_n0, hcg11⟩ := hwg11
                have fg11_k0 : g11 (63) = .inl (cI, 4, .inl (fw)) := (hcg11 (63) (by decide)).trans fg9_1
                have fg11_k1 : g11 (65) = .inl (cI, 40, .inl (fd)) := (hcg11 (65) (by decide)).trans fg9_2
                have fg11_k2 : g11 (67) = .inl (cI, 13, .inl (v7)) := (hcg11 (67) (by decide)).trans fg9_3
                have fg11_k3 : g11 (68) = .inl (cI, 13, .inl (v8)) := (hcg11 (68) (by decide)).trans fg9_4
                have fg11_k4 : g11 (69) = .inl (cI, 52, .inl (v9)) := (hcg11 (69) (by decide)).trans fg9_5
                have fg11_k5 : g11 (70) = .inl (cI, 6, .inl (v0)) := (hcg11 (70) (by decide)).trans fg9_6
                have fg11_k6 : g11 (71) = .inl (cJ, 169, .inr (.inl (vA))) := (hcg11 (71) (by decide)).trans fg9_7
                have fg11_k7 : g11 (72) = .inl (cJ, 169, .inr (.inl (vB))) := (hcg11 (72) (by decide)).trans fg9_8
                have fg11_k8 : g11 (73) = .inl (cJ, 13, .inr (.inl (vC))) := (hcg11 (73) (by decide)).trans fg9_9
                have fg11_k9 : g11 (74) = .inl (cJ, 13, .inr (.inl (vD))) := (hcg11 (74) (by decide)).trans fg9_10
                have fg11_k10 : g11 (64) = .inl (cI, 8, .inl (upd (fs) (ot) (nI (ln ot)))) := (hcg11 (64) (by decide)).trans fg9_w
                have hfrg11 : ∀ j : Nat, j ≠ 62 → j ≠ 64 → j ≠ 65 → j ≠ 67 → j ≠ 68 → j ≠ 69 → j ≠ 70 → j ≠ 71 → j ≠ 72 → j ≠ 73 → j ≠ 74 → g11 j = g j := fun j h0 h1 h2 h3 h4 h5 h6 h7 h8 h9 h10 => (hcg11 j h0).trans (hfrg9 j h0 h1 h2 h3 h4 h5 h6 h7 h8 h9 h10)
                rw [divInt_nd] at fg11_n0
                refine lv_iload hx hb dX6_best_259 (lv_at hl 8 rfl) ?_
                exact W.iret (v := (bst q Wt w (u k1) (ln k1) (q ^ ln k1)).1) hx hb hr (fun tZ ht hW => ⟨⟨_, g11, rfl, (by have hO : oBest q Wt w ln u (nI k1) = some ((bst q Wt w (u k1) (ln k1) (q ^ ln k1)).1, bsX q Wt w (u k1) (ln k1) (q ^ ln k1)) := (by unfold oBest; rw [slotW_yes hk1 hp1]; exact if_pos ⟨hev, hn3⟩); rw [hO]; exact ⟨rfl, ⟨_, _, _, _, _, _, _, _, _, _, _, _, _, _, _, _, _, _, _, _, _, fg11_n0, fg11_k0, fg11_k10, fg11_k1, ((hfrg11) 66 (by decide) (by decide) (by decide) (by decide) (by decide) (by decide) (by decide) (by decide) (by decide) (by decide) (by decide)).trans fa66, fg11_k2, fg11_k3, fg11_k4, fg11_k5, fg11_k6, fg11_k7, fg11_k8, fg11_k9, ((hfrg11) 75 (by decide) (by decide) (by decide) (by decide) (by decide) (by decide) (by decide) (by decide) (by decide) (by decide) (by decide)).trans fa75, ((hfrg11) 76 (by decide) (by decide) (by decide) (by decide) (by decide) (by decide) (by decide) (by decide) (by decide) (by decide) (by decide)).trans fa76, ((hfrg11) 77 (by decide) (by decide) (by decide) (by decide) (by decide) (by decide) (by decide) (by decide) (by decide) (by decide) (by decide)).trans fa77, ((hfrg11) 78 (by decide) (by decide) (by decide) (by decide) (by decide) (by decide) (by decide) (by decide) (by decide) (by decide) (by decide)).trans fa78, ((hfrg11) 79 (by decide) (by decide) (by decide) (by decide) (by decide) (by decide) (by decide) (by decide) (by decide) (by decide) (by decide)).trans fa79, ((hfrg11) 80 (by decide) (by decide) (by decide) (by decide) (by decide) (by decide) (by decide) (by decide) (by decide) (by decide) (by decide)).trans fa80, hfw, (fun k hk => by by_cases e : k = ot; (rw [e, pk_us]); rw [pk_un e]; exact hfs k hk e), (fun k j hk hj => by by_cases e : k = ot; (rw [e] at hj; exact absurd hj (by omega)); exact hfd k j hk e hj), htx⟩, fun j hj => (hfrg11) j (by omega) (by omega) (by omega) (by omega) (by omega) (by omega) (by omega) (by omega) (by omega) (by omega) (by omega)⟩), by rw [ht]; exact hP, va_K.moved hW.alike hK, va_Nw.warmM hW hN⟩, hS.F ht⟩) hS.2.2 dX6_best_261
              · refine lv_aload_n hx hb dX6_best_240 rfl (lv_at hl 0 rfl) ?_
                refine lv_iload_n hx hb dX6_best_241 rfl (lv_at hl 2 rfl) ?_
                refine lv_iload hx hb dX6_best_242 (lv_at hl 4 rfl) ?_
                refine lv_iload hx hb dX6_best_244 (lv_at hl 5 rfl) ?_
                refine va_calli (va_runV (As := [.int (nI (ot)), .int (nI (ln ot)), .int (nI (px q (u ot) (ln ot)))]) (rest := []) ⟨hx, hb, hml, hown, hts⟩ (mX6_word_raw l hD (w := w) (ln := ln) (t := t) (u := u) (k1 := ot) (n1 := ln ot) (cd := px q (u ot) (ln ot)) fg9_0 fg9_w fg9_2 hq2 hq4 hot8 (by omega) hno hpo) (cwV 3 hts gX6_best_X6_word rfl rfl rfl (by decide +kernel) ⟨Nat.le_of_ble_eq_true rfl, Nat.le_of_ble_eq_true rfl⟩) ⟨xB_blind, va_recv hK hP (ci := 6) rfl (xw_is (by decide) fg9_0), fun U hU hW => ⟨rfl, by rw [hU]; exact hP, va_K.moved hW.alike hK, va_Nw.warmM hW hN⟩⟩ rfl rfl hl.1 rfl (lv_room (Nat.le_of_ble_eq_true rfl)) dX6_best_246 ⟨Nat.le_of_ble_eq_true rfl, Nat.le_of_ble_eq_true rfl⟩) hS (fun _ _ h => h) (fun _ h => h) (fun r14 g13 tZ H locs ht hvm hwg13 hB hzZ hkZ hS => ?_)
                obtain ⟨hP, -⟩ := hB
                rw [ht] at hP
                obtain ⟨rfl, fy, hfya, hfyo, fg13_n0, fg13_n1, hcg13⟩ := hwg13
                have fg13_k0 : g13 (62) = .inr (6, [.int (nI (q)), .int (nI (Wt)), .ref (ad (63)), .ref (ad (64)), .ref (ad (65)), .ref (ad (66)), .int (nI (T)), .long (tp), .long (bt), .long (nx), .long (dx), .int (sx), .ref (ad (67)), .ref (ad (68)), .ref (ad (69)), .ref (ad (70)), .ref (ad (71)), .ref (ad (72)), .ref (ad (73)), .ref (ad (74)), .ref (ad (75)), .ref (ad (76)), .ref (ad (77)), .ref (ad (78)), .ref (ad (79)), .ref (ad (80))]) := (hcg13 (62) (by decide) (by decide)).trans fg9_0
                have fg13_k1 : g13 (63) = .inl (cI, 4, .inl (fw)) := (hcg13 (63) (by decide) (by decide)).trans fg9_1
                have fg13_k2 : g13 (67) = .inl (cI, 13, .inl (v7)) := (hcg13 (67) (by decide) (by decide)).trans fg9_3
                have fg13_k3 : g13 (68) = .inl (cI, 13, .inl (v8)) := (hcg13 (68) (by decide) (by decide)).trans fg9_4
                have fg13_k4 : g13 (69) = .inl (cI, 52, .inl (v9)) := (hcg13 (69) (by decide) (by decide)).trans fg9_5
                have fg13_k5 : g13 (70) = .inl (cI, 6, .inl (v0)) := (hcg13 (70) (by decide) (by decide)).trans fg9_6
                have fg13_k6 : g13 (71) = .inl (cJ, 169, .inr (.inl (vA))) := (hcg13 (71) (by decide) (by decide)).trans fg9_7
                have fg13_k7 : g13 (72) = .inl (cJ, 169, .inr (.inl (vB))) := (hcg13 (72) (by decide) (by decide)).trans fg9_8
                have fg13_k8 : g13 (73) = .inl (cJ, 13, .inr (.inl (vC))) := (hcg13 (73) (by decide) (by decide)).trans fg9_9
                have fg13_k9 : g13 (74) = .inl (cJ, 13, .inr (.inl (vD))) := (hcg13 (74) (by decide) (by decide)).trans fg9_10
                have hfrg13 : ∀ j : Nat, j ≠ 62 → j ≠ 64 → j ≠ 65 → j ≠ 67 → j ≠ 68 → j ≠ 69 → j ≠ 70 → j ≠ 71 → j ≠ 72 → j ≠ 73 → j ≠ 74 → g13 j = g j := fun j h0 h1 h2 h3 h4 h5 h6 h7 h8 h9 h10 => (hcg13 j h1 h2).trans (hfrg9 j h0 h1 h2 h3 h4 h5 h6 h7 h8 h9 h10)
                refine lv_istore (lv' := [(13, .int (nI (1))), (0, .ref (ad (62))), (1, .int (nI (k1))), (2, .int (nI (ot))), (3, .int (nI (ln k1))), (4, .int (nI (ln ot))), (5, .int (nI (px q (u ot) (ln ot)))), (6, .int (nI (px q (u k1) (ln k1)))), (7, .int (nI (q ^ ln k1))), (8, .int ((bst q Wt w (u k1) (ln k1) (q ^ ln k1)).1)), (9, .long (lZ ((bsX q Wt w (u k1) (ln k1) (q ^ ln k1)).num))), (11, .long (lZ (((bsX q Wt w (u k1) (ln k1) (q ^ ln k1)).den : Int))))]) hx hb dX6_best_249 hl (by decide) rfl (fun ls hl => ?_)
                refine lv_aload_n hx hb dX6_best_251 rfl (lv_at hl 1 rfl) ?_
                refine lv_lload hx hb dX6_best_252 (lv_at hl 10 rfl) ?_
                refine lv_lload hx hb dX6_best_254 (lv_at hl 11 rfl) ?_
                refine va_callv (va_runV (As := [.long (lZ ((bsX q Wt w (u k1) (ln k1) (q ^ ln k1)).num)), .long (lZ (((bsX q Wt w (u k1) (ln k1) (q ^ ln k1)).den : Int)))]) (rest := []) ⟨hx, hb, hml, hown, hts⟩ (mX6_atHand l hD (w := w) (ln := ln) (t := t) (u := u) (a := (bsX q Wt w (u k1) (ln k1) (q ^ ln k1)).num) (b := ((bsX q Wt w (u k1) (ln k1) (q ^ ln k1)).den : Int)) fg13_k0 ⟨(show fitR (bsX q Wt w (u k1) (ln k1) (q ^ ln k1)) from ⟨by omega, by omega, by omega⟩).1, (show fitR (bsX q Wt w (u k1) (ln k1) (q ^ ln k1)) from ⟨by omega, by omega, by omega⟩).2.1⟩ ⟨by have h9 := (bsX q Wt w (u k1) (ln k1) (q ^ ln k1)).den_pos; omega, (show fitR (bsX q Wt w (u k1) (ln k1) (q ^ ln k1)) from ⟨by omega, by omega, by omega⟩).2.2⟩) (cwV 2 hts gX6_best_X6_atHand rfl rfl rfl (by decide +kernel) ⟨Nat.le_of_ble_eq_true rfl, Nat.le_of_ble_eq_true rfl⟩) ⟨xB_blind, va_recv hK hP (ci := 6) rfl (xw_is (by decide) fg13_k0), fun U hU hW => ⟨rfl, by rw [hU]; exact hP, va_K.moved hW.alike hK, va_Nw.warmM hW hN⟩⟩ rfl rfl hl.1 rfl (lv_room (Nat.le_of_ble_eq_true rfl)) dX6_best_256 ⟨Nat.le_of_ble_eq_true rfl, Nat.le_of_ble_eq_true rfl⟩) hS (fun _ _ h => h) (fun _ h => h) (fun g15 tZ H locs ht hvm hwg15 hB hzZ hkZ hS => ?_)
                obtain ⟨hP, -⟩ := hB
                rw [ht] at hP
                obtain ⟨fg15_n0, hcg15⟩ := hwg15
                have fg15_k0 : g15 (64) = .inl (cI, 8, .inl (upd (upd (fs) (ot) (nI (ln ot))) (ot) (nI (ln ot)))) := (hcg15 (64) (by decide)).trans fg13_n0
                have fg15_k1 : g15 (65) = .inl (cI, 40, .inl (fy)) := (hcg15 (65) (by decide)).trans fg13_n1
                have fg15_k2 : g15 (63) = .inl (cI, 4, .inl (fw)) := (hcg15 (63) (by decide)).trans fg13_k1
                have fg15_k3 : g15 (67) = .inl (cI, 13, .inl (v7)) := (hcg15 (67) (by decide)).trans fg13_k2
                have fg15_k4 : g15 (68) = .inl (cI, 13, .inl (v8)) := (hcg15 (68) (by decide)).trans fg13_k3
                have fg15_k5 : g15 (69) = .inl (cI, 52, .inl (v9)) := (hcg15 (69) (by decide)).trans fg13_k4
                have fg15_k6 : g15 (70) = .inl (cI, 6, .inl (v0)) := (hcg15 (70) (by decide)).trans fg13_k5
                have fg15_k7 : g15 (71) = .inl (cJ, 169, .inr (.inl (vA))) := (hcg15 (71) (by decide)).trans fg13_k6
                have fg15_k8 : g15 (72) = .inl (cJ, 169, .inr (.inl (vB))) := (hcg15 (72) (by decide)).trans fg13_k7
                have fg15_k9 : g15 (73) = .inl (cJ, 13, .inr (.inl (vC))) := (hcg15 (73) (by decide)).trans fg13_k8
                have fg15_k10 : g15 (74) = .inl (cJ, 13, .inr (.inl (vD))) := (hcg15 (74) (by decide)).trans fg13_k9
                have hfrg15 : ∀ j : Nat, j ≠ 62 → j ≠ 64 → j ≠ 65 → j ≠ 67 → j ≠ 68 → j ≠ 69 → j ≠ 70 → j ≠ 71 → j ≠ 72 → j ≠ 73 → j ≠ 74 → g15 j = g j := fun j h0 h1 h2 h3 h4 h5 h6 h7 h8 h9 h10 => (hcg15 j h0).trans (hfrg13 j h0 h1 h2 h3 h4 h5 h6 h7 h8 h9 h10)
                rw [divInt_nd] at fg15_n0
                refine lv_iload hx hb dX6_best_259 (lv_at hl 9 rfl) ?_
                exact W.iret (v := (bst q Wt w (u k1) (ln k1) (q ^ ln k1)).1) hx hb hr (fun tZ ht hW => ⟨⟨_, g15, rfl, (by have hO : oBest q Wt w ln u (nI k1) = some ((bst q Wt w (u k1) (ln k1) (q ^ ln k1)).1, bsX q Wt w (u k1) (ln k1) (q ^ ln k1)) := (by unfold oBest; rw [slotW_yes hk1 hp1]; exact if_pos ⟨hev, hn3⟩); rw [hO]; exact ⟨rfl, ⟨_, _, _, _, _, _, _, _, _, _, _, _, _, _, _, _, _, _, _, _, _, fg15_n0, fg15_k2, fg15_k0, fg15_k1, ((hfrg15) 66 (by decide) (by decide) (by decide) (by decide) (by decide) (by decide) (by decide) (by decide) (by decide) (by decide) (by decide)).trans fa66, fg15_k3, fg15_k4, fg15_k5, fg15_k6, fg15_k7, fg15_k8, fg15_k9, fg15_k10, ((hfrg15) 75 (by decide) (by decide) (by decide) (by decide) (by decide) (by decide) (by decide) (by decide) (by decide) (by decide) (by decide)).trans fa75, ((hfrg15) 76 (by decide) (by decide) (by decide) (by decide) (by decide) (by decide) (by decide) (by decide) (by decide) (by decide) (by decide)).trans fa76, ((hfrg15) 77 (by decide) (by decide) (by decide) (by decide) (by decide) (by decide) (by decide) (by decide) (by decide) (by decide) (by decide)).trans fa77, ((hfrg15) 78 (by decide) (by decide) (by decide) (by decide) (by decide) (by decide) (by decide) (by decide) (by decide) (by decide) (by decide)).trans fa78, ((hfrg15) 79 (by decide) (by decide) (by decide) (by decide) (by decide) (by decide) (by decide) (by decide) (by decide) (by decide) (by decide)).trans fa79, ((hfrg15) 80 (by decide) (by decide) (by decide) (by decide) (by decide) (by decide) (by decide) (by decide) (by decide) (by decide) (by decide)).trans fa80, hfw, (fun k hk => by by_cases e : k = ot; (rw [e, pk_us]); rw [pk_un e, pk_un e]; exact hfs k hk e), (fun k j hk hj => by have h9 := hln k; by_cases e : k = ot; (rw [e] at hj ⊢; rw [hfya j hj]; exact congrArg nI (dg_px (by omega) (hul ot) j hj)); rw [hfyo (5 * k + j) (by omega)]; exact hfd k j hk e hj), htx⟩, fun j hj => (hfrg15) j (by omega) (by omega) (by omega) (by omega) (by omega) (by omega) (by omega) (by omega) (by omega) (by omega) (by omega)⟩), by rw [ht]; exact hP, va_K.moved hW.alike hK, va_Nw.warmM hW hN⟩, hS.F ht⟩) hS.2.2 dX6_best_261
            · refine lv_iload hx hb dX6_best_147 (lv_at hl 11 rfl) ?_
              refine lv_iload hx hb dX6_best_149 (lv_at hl 6 rfl) ?_
              refine xi_icmp_ne (tgt := 157) hx hb (by omega) (by omega) dX6_best_151 (by decide) (fun c151_17 => ?_) (fun c151_17 => ?_)
              · have hne : ¬ i = px q (u k1) (ln k1) := c151_17
                refine lv_aload_n hx hb dX6_best_157 rfl (lv_at hl 0 rfl) ?_
                refine lv_iload_n hx hb dX6_best_158 rfl (lv_at hl 2 rfl) ?_
                refine lv_iload_n hx hb dX6_best_159 rfl (lv_at hl 3 rfl) ?_
                refine lv_iload hx hb dX6_best_160 (lv_at hl 11 rfl) ?_
                refine va_calli (va_runV (As := [.int (nI (ot)), .int (nI (ln k1)), .int (nI (i))]) (rest := []) ⟨hx, hb, hml, hown, hts⟩ (mX6_word_raw l hD (w := w) (ln := ln) (t := t) (u := u) (k1 := ot) (n1 := ln k1) (cd := i) fo62 fa64 fa65 hq2 hq4 hot8 (by omega) hn1 (by omega)) (cwV 3 hts gX6_best_X6_word rfl rfl rfl (by decide +kernel) ⟨Nat.le_of_ble_eq_true rfl, Nat.le_of_ble_eq_true rfl⟩) ⟨xB_blind, va_recv hK hP (ci := 6) rfl (xw_is (by decide) fo62), fun U hU hW => ⟨rfl, by rw [hU]; exact hP, va_K.moved hW.alike hK, va_Nw.warmM hW hN⟩⟩ rfl rfl hl.1 rfl (lv_room (Nat.le_of_ble_eq_true rfl)) dX6_best_162 ⟨Nat.le_of_ble_eq_true rfl, Nat.le_of_ble_eq_true rfl⟩) hS (fun _ _ h => h) (fun _ h => h) (fun r19 g18 tZ H locs ht hvm hwg18 hB hzZ hkZ hS => ?_)
                obtain ⟨hP, -⟩ := hB
                rw [ht] at hP
                obtain ⟨rfl, fx, hfxa, hfxo, fg18_n0, fg18_n1, hcg18⟩ := hwg18
                have fg18_k0 : g18 (62) = .inr (6, [.int (nI (q)), .int (nI (Wt)), .ref (ad (63)), .ref (ad (64)), .ref (ad (65)), .ref (ad (66)), .int (nI (T)), .long (tp), .long (bt), .long (nx), .long (dx), .int (sx), .ref (ad (67)), .ref (ad (68)), .ref (ad (69)), .ref (ad (70)), .ref (ad (71)), .ref (ad (72)), .ref (ad (73)), .ref (ad (74)), .ref (ad (75)), .ref (ad (76)), .ref (ad (77)), .ref (ad (78)), .ref (ad (79)), .ref (ad (80))]) := (hcg18 (62) (by decide) (by decide)).trans fo62
                have fg18_k1 : g18 (63) = .inl (cI, 4, .inl (fw)) := (hcg18 (63) (by decide) (by decide)).trans fa63
                have fg18_k2 : g18 (67) = .inl (cI, 13, .inl (v7)) := (hcg18 (67) (by decide) (by decide)).trans fa67
                have fg18_k3 : g18 (68) = .inl (cI, 13, .inl (v8)) := (hcg18 (68) (by decide) (by decide)).trans fa68
                have fg18_k4 : g18 (69) = .inl (cI, 52, .inl (v9)) := (hcg18 (69) (by decide) (by decide)).trans fa69
                have fg18_k5 : g18 (70) = .inl (cI, 6, .inl (v0)) := (hcg18 (70) (by decide) (by decide)).trans fa70
                have fg18_k6 : g18 (71) = .inl (cJ, 169, .inr (.inl (vA))) := (hcg18 (71) (by decide) (by decide)).trans fa71
                have fg18_k7 : g18 (72) = .inl (cJ, 169, .inr (.inl (vB))) := (hcg18 (72) (by decide) (by decide)).trans fa72
                have fg18_k8 : g18 (73) = .inl (cJ, 13, .inr (.inl (vC))) := (hcg18 (73) (by decide) (by decide)).trans fa73
                have fg18_k9 : g18 (74) = .inl (cJ, 13, .inr (.inl (vD))) := (hcg18 (74) (by decide) (by decide)).trans fa74
                have hfrg18 : ∀ j : Nat, j ≠ 62 → j ≠ 64 → j ≠ 65 → j ≠ 67 → j ≠ 68 → j ≠ 69 → j ≠ 70 → j ≠ 71 → j ≠ 72 → j ≠ 73 → j ≠ 74 → g18 j = g j := fun j h0 h1 h2 h3 h4 h5 h6 h7 h8 h9 h10 => (hcg18 j h1 h2).trans (hfrgl140_7 j h0 h1 h2 h3 h4 h5 h6 h7 h8 h9 h10)
                have hs2 : SrcI q Wt w (va_up ln ot (ln k1)) (va_up u ot (dg q i (ln k1))) T t := hs0.up hn1 (fun j _ => dg_lt (by omega))
                obtain ⟨-, -, -, -, -, -, -, hln2, hul2, -, -⟩ := hs2
                have el1 : va_up ln ot (ln k1) k1 = ln k1 := va_up_ne _ _ hko
                have el2 : va_up ln ot (ln k1) ot = ln k1 := va_up_self _ _ _
                have hsz2 : ∀ k, k < 8 → upd fs ot (nI (ln k1)) k = nI (va_up ln ot (ln k1) k) := fun k hk => by by_cases e : k = ot; (rw [e, pk_us, va_up_self]); rw [pk_un e, va_up_ne _ _ e]; exact hfs k hk e
                have hwl2 : ∀ k j, k < 8 → j < va_up ln ot (ln k1) k → fx (5 * k + j) = nI (va_up u ot (dg q i (ln k1)) k j) := fun k j hk hj => by by_cases e : k = ot; (rw [e, va_up_self] at hj ⊢; exact hfxa j hj); rw [va_up_ne _ _ e] at hj ⊢; have h9 := hln k; rw [hfxo (5 * k + j) (by omega)]; exact hfd k j hk e hj
                refine lv_istore (lv' := [(14, .int (nI (1))), (0, .ref (ad (62))), (1, .int (nI (k1))), (2, .int (nI (ot))), (3, .int (nI (ln k1))), (4, .int (nI (ln ot))), (5, .int (nI (px q (u ot) (ln ot)))), (6, .int (nI (px q (u k1) (ln k1)))), (7, .int (nI (q ^ ln k1))), (8, .int ((bst q Wt w (u k1) (ln k1) i).1)), (9, .long (lZ ((bsX q Wt w (u k1) (ln k1) i).num))), (11, .long (lZ (((bsX q Wt w (u k1) (ln k1) i).den : Int)))), (13, .int (nI (i)))]) hx hb dX6_best_165 hl (by decide) rfl (fun ls hl => ?_)
                refine lv_aload_n hx hb dX6_best_167 rfl (lv_at hl 1 rfl) ?_
                refine lv_iconst (v := nI (1)) hx hb dX6_best_168 (by decide) ?_
                refine lv_iload_n hx hb dX6_best_169 rfl (lv_at hl 2 rfl) ?_
                refine lv_ishl hx hb dX6_best_170 ?_
                refine xtopi (y := nI (2 ^ k1)) (nI_shl1 (by omega)) ?_
                refine lv_iconst (v := nI (1)) hx hb dX6_best_171 (by decide) ?_
                refine lv_iload_n hx hb dX6_best_172 rfl (lv_at hl 3 rfl) ?_
                refine lv_ishl hx hb dX6_best_173 ?_
                refine xtopi (y := nI (2 ^ ot)) (nI_shl1 (by omega)) ?_
                refine lv_ior hx hb dX6_best_174 ?_
                refine xtopi (y := nI (2 ^ k1 ||| 2 ^ ot)) (nI_or _ _) ?_
                refine lv_iload_n hx hb dX6_best_175 rfl (lv_at hl 3 rfl) ?_
                refine va_callv (va_runV (As := [.int (nI (2 ^ k1 ||| 2 ^ ot)), .int (nI (ot))]) (rest := []) ⟨hx, hb, hml, hown, hts⟩ (mX6_chance l hD (w := w) (ln := va_up ln ot (ln k1)) (t := t) (u := va_up u ot (dg q i (ln k1))) (li := (2 ^ k1 ||| 2 ^ ot)) (s0 := ot) fg18_k0 fg18_k1 fg18_n0 fg18_n1 fg18_k2 fg18_k3 fg18_k4 fg18_k5 fg18_k6 fg18_k7 fg18_k8 fg18_k9 hfw hsz2 hwl2 hq2 hq4 hln2 hul2 hT htt hw1 hw hWt (or_pow k1 hk1 ot hot8).2.1 (ch_two (q := q) hk1 hot8 (by rw [el1]; omega) (by rw [el2]; omega)) (cnt_two hk1 hot8) (cn_ne0 _ (or_pow k1 hk1 ot hot8).2.1 (or_pow k1 hk1 ot hot8).1) hot8 (fun ns sl sz gof h => ((hB k1 ot i hk1 hot8 hko hn3 hev (by omega) hne).2.2 ns sl sz gof h).1)) (cwV 2 hts gX6_best_X6_chance rfl rfl rfl (by decide +kernel) ⟨Nat.le_of_ble_eq_true rfl, Nat.le_of_ble_eq_true rfl⟩) ⟨xB_blind, va_recv hK hP (ci := 6) rfl (xw_is (by decide) fg18_k0), fun U hU hW => ⟨rfl, by rw [hU]; exact hP, va_K.moved hW.alike hK, va_Nw.warmM hW hN⟩⟩ rfl rfl hl.1 rfl (lv_room (Nat.le_of_ble_eq_true rfl)) dX6_best_176 ⟨Nat.le_of_ble_eq_true rfl, Nat.le_of_ble_eq_true rfl⟩) hS (fun _ _ h => h) (fun _ h => h) (fun g23 tZ H locs ht hvm hwg23 hB hzZ hkZ hS => ?_)
                obtain ⟨hP, -⟩ := hB
                rw [ht] at hP
                obtain ⟨ns, sl, sz, gof, f7, f8, f9, f0, fA, fB, fC, fD, hCh, hgo, hSv, fg23_n0, fg23_n1, fg23_n2, fg23_n3, fg23_n4, fg23_n5, fg23_n6, fg23_n7, fg23_n8, hcg23⟩ := hwg23
                have fg23_k0 : g23 (64) = .inl (cI, 8, .inl (upd (fs) (ot) (nI (ln k1)))) := (hcg23 (64) (by decide) (by decide) (by decide) (by decide) (by decide) (by decide) (by decide) (by decide) (by decide)).trans fg18_n0
                have fg23_k1 : g23 (65) = .inl (cI, 40, .inl (fx)) := (hcg23 (65) (by decide) (by decide) (by decide) (by decide) (by decide) (by decide) (by decide) (by decide) (by decide)).trans fg18_n1
                have fg23_k2 : g23 (63) = .inl (cI, 4, .inl (fw)) := (hcg23 (63) (by decide) (by decide) (by decide) (by decide) (by decide) (by decide) (by decide) (by decide) (by decide)).trans fg18_k1
                have hfrg23 : ∀ j : Nat, j ≠ 62 → j ≠ 64 → j ≠ 65 → j ≠ 67 → j ≠ 68 → j ≠ 69 → j ≠ 70 → j ≠ 71 → j ≠ 72 → j ≠ 73 → j ≠ 74 → g23 j = g j := fun j h0 h1 h2 h3 h4 h5 h6 h7 h8 h9 h10 => (hcg23 j h0 h3 h4 h5 h6 h7 h8 h9 h10).trans (hfrg18 j h0 h1 h2 h3 h4 h5 h6 h7 h8 h9 h10)
                obtain ⟨hE1, hE2, hE3⟩ := (hB k1 ot i hk1 hot8 hko hn3 hev (by omega) hne)
                obtain ⟨hG1, hG2⟩ := hE3 ns sl sz gof hCh
                have hsd : ∀ k, k ≤ ln k1 → shr Wt w (dg q i (ln k1)) (ln k1) k ≤ 1024 := fun k hk => shr_le hWt (fun j hj => hw _ (Nat.lt_of_lt_of_le (dg_lt (by omega)) hq4)) hn1 hk
                have hsf : ∀ k, k ≤ ln k1 → shr Wt w (u k1) (ln k1) k ≤ 1024 := fun k hk => shr_le hWt (fun j hj => hwB k1 j hj) hn1 hk
                have hp1e := edg_B hsf hsd
                have hp2e := edg_B hsd hsf
                have hndf : (-5242880 ≤ (fM Wt w gof q ns ot 0).num ∧ (fM Wt w gof q ns ot 0).num ≤ 5242880) ∧ (0 < ((fM Wt w gof q ns ot 0).den : Int) ∧ ((fM Wt w gof q ns ot 0).den : Int) ≤ 10485760) := by rw [hG2]; exact nd_b (by omega) (by omega) (by omega) (by omega)
                refine lv_iload hx hb dX6_best_179 (lv_at hl 9 rfl) ?_
                refine lv_if_lt (tgt := 205) hx hb dX6_best_181 (by decide) (fun c181_25 => ?_) (fun c181_25 => ?_)
                · have hbs : bst q Wt w (u k1) (ln k1) (i + 1) = (nI i, edg Wt w (u k1) (ln k1) (dg q i (ln k1)) (ln k1), edg Wt w (u k1) (ln k1) (dg q i (ln k1)) (ln k1) + edg Wt w (dg q i (ln k1)) (ln k1) (u k1) (ln k1)) := bst_y hne (by rcases hb3 with ⟨h9, -⟩ | ⟨cd, h8, h9⟩; (rw [h9]; show (0 : Int) * _ < _ * 1; omega); exact absurd c181_25 (by rw [h9]; exact nI_pos (by have := pow_le5 hq4 hn1; omega)))
                  have hbx : bsX q Wt w (u k1) (ln k1) (i + 1) = fM Wt w gof q ns ot 0 := by rw [hG2]; unfold bsX; rw [hbs]
                  refine lv_iload hx hb dX6_best_205 (lv_at hl 12 rfl) ?_
                  refine lv_istore (lv' := [(8, .int (nI (i))), (14, .int (nI (1))), (0, .ref (ad (62))), (1, .int (nI (k1))), (2, .int (nI (ot))), (3, .int (nI (ln k1))), (4, .int (nI (ln ot))), (5, .int (nI (px q (u ot) (ln ot)))), (6, .int (nI (px q (u k1) (ln k1)))), (7, .int (nI (q ^ ln k1))), (9, .long (lZ ((bsX q Wt w (u k1) (ln k1) i).num))), (11, .long (lZ (((bsX q Wt w (u k1) (ln k1) i).den : Int)))), (13, .int (nI (i)))]) hx hb dX6_best_207 hl (by decide) rfl (fun ls hl => ?_)
                  refine lv_aload_n hx hb dX6_best_209 rfl (lv_at hl 2 rfl) ?_
                  refine xw_get hx hb hts hin6 hown hK hP (by decide) fg23_n0 rfl 9 (by decide) hf106 rfl rfl dX6_best_210 ?_
                  refine lv_lstore (lv' := [(9, .long (lZ ((fM Wt w gof q ns ot 0).num))), (8, .int (nI (i))), (14, .int (nI (1))), (0, .ref (ad (62))), (1, .int (nI (k1))), (2, .int (nI (ot))), (3, .int (nI (ln k1))), (4, .int (nI (ln ot))), (5, .int (nI (px q (u ot) (ln ot)))), (6, .int (nI (px q (u k1) (ln k1)))), (7, .int (nI (q ^ ln k1))), (11, .long (lZ (((bsX q Wt w (u k1) (ln k1) i).den : Int)))), (13, .int (nI (i)))]) hx hb dX6_best_213 hl (by decide) rfl (fun ls hl => ?_)
                  refine lv_aload_n hx hb dX6_best_215 rfl (lv_at hl 3 rfl) ?_
                  refine xw_get hx hb hts hin6 hown hK hP (by decide) fg23_n0 rfl 10 (by decide) hf109 rfl rfl dX6_best_216 ?_
                  refine lv_lstore (lv' := [(11, .long (lZ (((fM Wt w gof q ns ot 0).den : Int)))), (9, .long (lZ ((fM Wt w gof q ns ot 0).num))), (8, .int (nI (i))), (14, .int (nI (1))), (0, .ref (ad (62))), (1, .int (nI (k1))), (2, .int (nI (ot))), (3, .int (nI (ln k1))), (4, .int (nI (ln ot))), (5, .int (nI (px q (u ot) (ln ot)))), (6, .int (nI (px q (u k1) (ln k1)))), (7, .int (nI (q ^ ln k1))), (13, .int (nI (i)))]) hx hb dX6_best_219 hl (by decide) rfl (fun ls hl => ?_)
                  refine lv_iinc (v := nI (i + 1)) (lv' := [(13, .int (nI (i + 1))), (11, .long (lZ (((fM Wt w gof q ns ot 0).den : Int)))), (9, .long (lZ ((fM Wt w gof q ns ot 0).num))), (8, .int (nI (i))), (14, .int (nI (1))), (0, .ref (ad (62))), (1, .int (nI (k1))), (2, .int (nI (ot))), (3, .int (nI (ln k1))), (4, .int (nI (ln ot))), (5, .int (nI (px q (u ot) (ln ot)))), (6, .int (nI (px q (u k1) (ln k1)))), (7, .int (nI (q ^ ln k1)))]) hx hb dX6_best_221 hl (k := 12) rfl (nI_add (i) 1) (by decide) rfl (fun ls hl => ?_)
                  refine lv_goto (tgt := 140) hx hb dX6_best_224 (by decide) ?_
                  exact ih140 (i + 1, lZ ((fM Wt w gof q ns ot 0).num), lZ (((fM Wt w gof q ns ot 0).den : Int)), nI (ns), upd (fs) (ot) (nI (ln k1)), fx, f7, f8, f9, f0, fA, fB, fC, fD) g23 H locs ls ⟨(by omega), (by rw [hbs]; exact ⟨hp1e, (show edg Wt w (u k1) (ln k1) (dg q i (ln k1)) (ln k1) + edg Wt w (dg q i (ln k1)) (ln k1) (u k1) (ln k1) ≤ 10485760 by omega)⟩), (fun k hk hko => by rw [pk_un hko]; exact hfs k hk hko), (fun k j hk hko hj => by have h9 := hln k; rw [hfxo (5 * k + j) (by omega)]; exact hfd k j hk hko hj), fg23_n0, fg23_k2, fg23_k0, fg23_k1, fg23_n1, fg23_n2, fg23_n3, fg23_n4, fg23_n5, fg23_n6, fg23_n7, fg23_n8, hfrg23, hP, hS, (by rw [hbx, hbs]; exact (lv_sub hl [5, 6, 7, 8, 9, 10, 11, 12, 3, 2, 1, 0] rfl))⟩ (by first | omega | (dsimp only; omega))
                · refine lv_aload_n hx hb dX6_best_184 rfl (lv_at hl 1 rfl) ?_
                  refine xw_get hx hb hts hin6 hown hK hP (by decide) fg23_n0 rfl 9 (by decide) hf106 rfl rfl dX6_best_185 ?_
                  refine lv_lload hx hb dX6_best_188 (lv_at hl 11 rfl) ?_
                  refine xl_mul hx hb dX6_best_190 ?_
                  refine lv_lload hx hb dX6_best_191 (lv_at hl 10 rfl) ?_
                  refine lv_aload_n hx hb dX6_best_193 rfl (lv_at hl 1 rfl) ?_
                  refine xw_get hx hb hts hin6 hown hK hP (by decide) fg23_n0 rfl 10 (by decide) hf109 rfl rfl dX6_best_194 ?_
                  refine xl_mul hx hb dX6_best_197 ?_
                  refine xl_cmp_gt (tgt := 205) hx hb (by have h9 := mulB hndf.1 (show -10485760 ≤ ((bsX q Wt w (u k1) (ln k1) i).den : Int) ∧ ((bsX q Wt w (u k1) (ln k1) i).den : Int) ≤ 10485760 by omega); unfold fM at h9; omega) (by have h9 := mulB hndb.1 (show -10485760 ≤ ((fM Wt w gof q ns ot 0).den : Int) ∧ ((fM Wt w gof q ns ot 0).den : Int) ≤ 10485760 by omega); unfold fM at h9; omega) dX6_best_198 dX6_best_199 (by decide) (fun c198_26 => ?_) (fun c198_26 => ?_)
                  · have hbs : bst q Wt w (u k1) (ln k1) (i + 1) = (nI i, edg Wt w (u k1) (ln k1) (dg q i (ln k1)) (ln k1), edg Wt w (u k1) (ln k1) (dg q i (ln k1)) (ln k1) + edg Wt w (dg q i (ln k1)) (ln k1) (u k1) (ln k1)) := bst_y hne (by rw [← Int.not_le]; intro h9; have h8 := (fr_le (show 0 < edg Wt w (u k1) (ln k1) (dg q i (ln k1)) (ln k1) + edg Wt w (dg q i (ln k1)) (ln k1) (u k1) (ln k1) by omega) hb2).mpr h9; rw [← hG2] at h8; exact absurd h8 (Int.not_le.mpr c198_26))
                    have hbx : bsX q Wt w (u k1) (ln k1) (i + 1) = fM Wt w gof q ns ot 0 := by rw [hG2]; unfold bsX; rw [hbs]
                    refine lv_iload hx hb dX6_best_205 (lv_at hl 12 rfl) ?_
                    refine lv_istore (lv' := [(8, .int (nI (i))), (14, .int (nI (1))), (0, .ref (ad (62))), (1, .int (nI (k1))), (2, .int (nI (ot))), (3, .int (nI (ln k1))), (4, .int (nI (ln ot))), (5, .int (nI (px q (u ot) (ln ot)))), (6, .int (nI (px q (u k1) (ln k1)))), (7, .int (nI (q ^ ln k1))), (9, .long (lZ ((bsX q Wt w (u k1) (ln k1) i).num))), (11, .long (lZ (((bsX q Wt w (u k1) (ln k1) i).den : Int)))), (13, .int (nI (i)))]) hx hb dX6_best_207 hl (by decide) rfl (fun ls hl => ?_)
                    refine lv_aload_n hx hb dX6_best_209 rfl (lv_at hl 2 rfl) ?_
                    refine xw_get hx hb hts hin6 hown hK hP (by decide) fg23_n0 rfl 9 (by decide) hf106 rfl rfl dX6_best_210 ?_
                    refine lv_lstore (lv' := [(9, .long (lZ ((fM Wt w gof q ns ot 0).num))), (8, .int (nI (i))), (14, .int (nI (1))), (0, .ref (ad (62))), (1, .int (nI (k1))), (2, .int (nI (ot))), (3, .int (nI (ln k1))), (4, .int (nI (ln ot))), (5, .int (nI (px q (u ot) (ln ot)))), (6, .int (nI (px q (u k1) (ln k1)))), (7, .int (nI (q ^ ln k1))), (11, .long (lZ (((bsX q Wt w (u k1) (ln k1) i).den : Int)))), (13, .int (nI (i)))]) hx hb dX6_best_213 hl (by decide) rfl (fun ls hl => ?_)
                    refine lv_aload_n hx hb dX6_best_215 rfl (lv_at hl 3 rfl) ?_
                    refine xw_get hx hb hts hin6 hown hK hP (by decide) fg23_n0 rfl 10 (by decide) hf109 rfl rfl dX6_best_216 ?_
                    refine lv_lstore (lv' := [(11, .long (lZ (((fM Wt w gof q ns ot 0).den : Int)))), (9, .long (lZ ((fM Wt w gof q ns ot 0).num))), (8, .int (nI (i))), (14, .int (nI (1))), (0, .ref (ad (62))), (1, .int (nI (k1))), (2, .int (nI (ot))), (3, .int (nI (ln k1))), (4, .int (nI (ln ot))), (5, .int (nI (px q (u ot) (ln ot)))), (6, .int (nI (px q (u k1) (ln k1)))), (7, .int (nI (q ^ ln k1))), (13, .int (nI (i)))]) hx hb dX6_best_219 hl (by decide) rfl (fun ls hl => ?_)
                    refine lv_iinc (v := nI (i + 1)) (lv' := [(13, .int (nI (i + 1))), (11, .long (lZ (((fM Wt w gof q ns ot 0).den : Int)))), (9, .long (lZ ((fM Wt w gof q ns ot 0).num))), (8, .int (nI (i))), (14, .int (nI (1))), (0, .ref (ad (62))), (1, .int (nI (k1))), (2, .int (nI (ot))), (3, .int (nI (ln k1))), (4, .int (nI (ln ot))), (5, .int (nI (px q (u ot) (ln ot)))), (6, .int (nI (px q (u k1) (ln k1)))), (7, .int (nI (q ^ ln k1)))]) hx hb dX6_best_221 hl (k := 12) rfl (nI_add (i) 1) (by decide) rfl (fun ls hl => ?_)
                    refine lv_goto (tgt := 140) hx hb dX6_best_224 (by decide) ?_
                    exact ih140 (i + 1, lZ ((fM Wt w gof q ns ot 0).num), lZ (((fM Wt w gof q ns ot 0).den : Int)), nI (ns), upd (fs) (ot) (nI (ln k1)), fx, f7, f8, f9, f0, fA, fB, fC, fD) g23 H locs ls ⟨(by omega), (by rw [hbs]; exact ⟨hp1e, (show edg Wt w (u k1) (ln k1) (dg q i (ln k1)) (ln k1) + edg Wt w (dg q i (ln k1)) (ln k1) (u k1) (ln k1) ≤ 10485760 by omega)⟩), (fun k hk hko => by rw [pk_un hko]; exact hfs k hk hko), (fun k j hk hko hj => by have h9 := hln k; rw [hfxo (5 * k + j) (by omega)]; exact hfd k j hk hko hj), fg23_n0, fg23_k2, fg23_k0, fg23_k1, fg23_n1, fg23_n2, fg23_n3, fg23_n4, fg23_n5, fg23_n6, fg23_n7, fg23_n8, hfrg23, hP, hS, (by rw [hbx, hbs]; exact (lv_sub hl [5, 6, 7, 8, 9, 10, 11, 12, 3, 2, 1, 0] rfl))⟩ (by first | omega | (dsimp only; omega))
                  · have hbs : bst q Wt w (u k1) (ln k1) (i + 1) = bst q Wt w (u k1) (ln k1) i := bst_n hne (by rw [Int.not_lt]; exact (fr_le (show 0 < edg Wt w (u k1) (ln k1) (dg q i (ln k1)) (ln k1) + edg Wt w (dg q i (ln k1)) (ln k1) (u k1) (ln k1) by omega) hb2).mp (by rw [← hG2]; exact c198_26))
                    refine lv_goto (tgt := 221) hx hb dX6_best_202 (by decide) ?_
                    refine lv_iinc (v := nI (i + 1)) (lv' := [(13, .int (nI (i + 1))), (14, .int (nI (1))), (0, .ref (ad (62))), (1, .int (nI (k1))), (2, .int (nI (ot))), (3, .int (nI (ln k1))), (4, .int (nI (ln ot))), (5, .int (nI (px q (u ot) (ln ot)))), (6, .int (nI (px q (u k1) (ln k1)))), (7, .int (nI (q ^ ln k1))), (8, .int ((bst q Wt w (u k1) (ln k1) i).1)), (9, .long (lZ ((bsX q Wt w (u k1) (ln k1) i).num))), (11, .long (lZ (((bsX q Wt w (u k1) (ln k1) i).den : Int))))]) hx hb dX6_best_221 hl (k := 12) rfl (nI_add (i) 1) (by decide) rfl (fun ls hl => ?_)
                    refine lv_goto (tgt := 140) hx hb dX6_best_224 (by decide) ?_
                    exact ih140 (i + 1, lZ ((fM Wt w gof q ns ot 0).num), lZ (((fM Wt w gof q ns ot 0).den : Int)), nI (ns), upd (fs) (ot) (nI (ln k1)), fx, f7, f8, f9, f0, fA, fB, fC, fD) g23 H locs ls ⟨(by omega), (by rw [hbs]; exact hcb), (fun k hk hko => by rw [pk_un hko]; exact hfs k hk hko), (fun k j hk hko hj => by have h9 := hln k; rw [hfxo (5 * k + j) (by omega)]; exact hfd k j hk hko hj), fg23_n0, fg23_k2, fg23_k0, fg23_k1, fg23_n1, fg23_n2, fg23_n3, fg23_n4, fg23_n5, fg23_n6, fg23_n7, fg23_n8, hfrg23, hP, hS, (by rw [bsX_e hbs, hbs]; exact (lv_sub hl [2, 3, 4, 5, 6, 7, 8, 9, 10, 11, 12, 0] rfl))⟩ (by first | omega | (dsimp only; omega))
              · have hbs : bst q Wt w (u k1) (ln k1) (i + 1) = bst q Wt w (u k1) (ln k1) i := bst_own c151_17
                refine lv_goto (tgt := 221) hx hb dX6_best_154 (by decide) ?_
                refine lv_iinc (v := nI (i + 1)) (lv' := [(13, .int (nI (i + 1))), (0, .ref (ad (62))), (1, .int (nI (k1))), (2, .int (nI (ot))), (3, .int (nI (ln k1))), (4, .int (nI (ln ot))), (5, .int (nI (px q (u ot) (ln ot)))), (6, .int (nI (px q (u k1) (ln k1)))), (7, .int (nI (q ^ ln k1))), (8, .int ((bst q Wt w (u k1) (ln k1) i).1)), (9, .long (lZ ((bsX q Wt w (u k1) (ln k1) i).num))), (11, .long (lZ (((bsX q Wt w (u k1) (ln k1) i).den : Int))))]) hx hb dX6_best_221 hl (k := 11) rfl (nI_add (i) 1) (by decide) rfl (fun ls hl => ?_)
                refine lv_goto (tgt := 140) hx hb dX6_best_224 (by decide) ?_
                exact ih140 (i + 1, nx, dx, sx, fs, fd, v7, v8, v9, v0, vA, vB, vC, vD) gl140_7 H locs ls ⟨(by omega), (by rw [hbs]; exact hcb), hfs, hfd, fo62, fa63, fa64, fa65, fa67, fa68, fa69, fa70, fa71, fa72, fa73, fa74, hfrgl140_7, hP, hS, (by rw [bsX_e hbs, hbs]; exact (lv_sub hl [1, 2, 3, 4, 5, 6, 7, 8, 9, 10, 11, 0] rfl))⟩ (by first | omega | (dsimp only; omega))
          · refine lv_iload hx hb dX6_best_113 (lv_at hl 7 rfl) ?_
            refine lv_aload_n hx hb dX6_best_115 rfl (lv_at hl 0 rfl) ?_
            refine xw_get hx hb hts hin6 hown hK hP (by decide) fo62 rfl 0 (by decide) hf7 rfl rfl dX6_best_116 ?_
            refine xi_mul hx hb dX6_best_119 ?_
            refine xtopi (y := nI (q ^ (i + 1))) (congrArg nI (Nat.pow_succ ..).symm) ?_
            refine lv_istore (lv' := [(7, .int (nI (q ^ (i + 1)))), (0, .ref (ad (62))), (1, .int (nI (k1))), (2, .int (nI (ot))), (3, .int (nI (ln k1))), (4, .int (nI (ln ot))), (5, .int (nI (px q (u ot) (ln ot)))), (6, .int (nI (px q (u k1) (ln k1)))), (8, .int (nI (i)))]) hx hb dX6_best_120 hl (by decide) rfl (fun ls hl => ?_)
            refine lv_iinc (v := nI (i + 1)) (lv' := [(8, .int (nI (i + 1))), (7, .int (nI (q ^ (i + 1)))), (0, .ref (ad (62))), (1, .int (nI (k1))), (2, .int (nI (ot))), (3, .int (nI (ln k1))), (4, .int (nI (ln ot))), (5, .int (nI (px q (u ot) (ln ot)))), (6, .int (nI (px q (u k1) (ln k1))))]) hx hb dX6_best_122 hl (k := 8) rfl (nI_add (i) 1) (by decide) rfl (fun ls hl => ?_)
            refine lv_goto (tgt := 107) hx hb dX6_best_125 (by decide) ?_
            exact ih107 (i + 1) ls ⟨(by omega), (lv_sub hl [2, 3, 4, 5, 6, 7, 8, 1, 0] rfl)⟩ (by first | omega | (dsimp only; omega))
        · refine lv_iload hx hb dX6_best_78 (lv_at hl 0 rfl) ?_
          refine xi_if_le (tgt := 91) hx hb (by omega) dX6_best_80 (by decide) (fun c80_27 => ?_) (fun c80_27 => ?_)
          · refine lv_iconst (v := nI (0)) hx hb dX6_best_91 (by decide) ?_
            exact xtopi (congrArg nI (by rw [show ln ot = 0 by omega]; rfl)) hJ
          · refine lv_aload_n hx hb dX6_best_83 rfl (lv_at hl 3 rfl) ?_
            refine lv_iload_n hx hb dX6_best_84 rfl (lv_at hl 2 rfl) ?_
            refine vp_callSi (va_Run.run (va_runV (As := [.int (nI (ot))]) (rest := []) ⟨hx, hb, hml, hown, hts⟩ (mX6_codeOf l (w := w) (ln := ln) (t := t) (u := u) fo62 fa64 fa65 hsz hwl hln (by omega)) (cwV 1 hts gX6_best_X6_codeOf rfl rfl rfl (by decide +kernel) ⟨Nat.le_of_ble_eq_true rfl, Nat.le_of_ble_eq_true rfl⟩) ⟨xB_blind, va_recv hK hP (ci := 6) rfl (xw_is (by decide) fo62), fun U hU hW => ⟨rfl, by rw [hU]; exact hP, va_K.moved hW.alike hK, va_Nw.warmM hW hN⟩⟩ rfl rfl hl.1 rfl (lv_room (Nat.le_of_ble_eq_true rfl)) dX6_best_85 ⟨Nat.le_of_ble_eq_true rfl, Nat.le_of_ble_eq_true rfl⟩)) (fun r28 er28 => ?_)
            subst er28
            refine lv_goto (tgt := 92) hx hb dX6_best_88 (by decide) ?_
            exact hJ
      · refine lv_iload_n hx hb dX6_best_53 rfl (lv_at hl 1 rfl) ?_
        refine xi_if_ne (tgt := 61) hx hb (by omega) dX6_best_54 (by decide) (fun c54_29 => ?_) (fun c54_29 => ?_)
        · refine lv_iconst (v := nI (0)) hx hb dX6_best_61 (by decide) ?_
          exact xtopi (congrArg nI (by omega)) hJ
        · refine lv_iconst (v := nI (1)) hx hb dX6_best_57 (by decide) ?_
          refine lv_goto (tgt := 62) hx hb dX6_best_58 (by decide) ?_
          exact xtopi (congrArg nI (by omega)) hJ
    · refine lv_aload_n hx hb dX6_best_30 rfl (lv_at hl 0 rfl) ?_
      refine xw_get hx hb hts hin6 hown hK hP (by decide) fo62 rfl 2 (by decide) hf16 rfl rfl dX6_best_31 ?_
      refine lv_iload_n hx hb dX6_best_34 rfl (lv_at hl 2 rfl) ?_
      refine xw_iald hx hb hK hP (by decide) 0 fa63 rfl (by omega) (by decide) dX6_best_35 ?_
      rw [hfw (i) (by omega)]
      refine lv_aload_n hx hb dX6_best_36 rfl (lv_at hl 0 rfl) ?_
      refine xw_get hx hb hts hin6 hown hK hP (by decide) fo62 rfl 2 (by decide) hf16 rfl rfl dX6_best_37 ?_
      refine lv_iconst (v := nI (0)) hx hb dX6_best_40 (by decide) ?_
      refine xw_iald hx hb hK hP (by decide) 0 fa63 rfl (by omega) (by decide) dX6_best_41 ?_
      rw [hfw (0) (by omega)]
      refine xi_icmp_eq (tgt := 47) hx hb (by have h9 := hw i (by omega); omega) (by have h9 := hw 0 (by omega); omega) dX6_best_42 (by decide) (fun c42_30 => ?_) (fun c42_30 => ?_)
      · refine lv_iinc (v := nI (i + 1)) (lv' := [(2, .int (nI (i + 1))), (0, .ref (ad (62))), (1, .int (nI (k1)))]) hx hb dX6_best_47 hl (k := 2) rfl (nI_add (i) 1) (by decide) rfl (fun ls hl => ?_)
        refine lv_goto (tgt := 22) hx hb dX6_best_50 (by decide) ?_
        exact ih22 (i + 1) ls ⟨(by omega), (fun j hj => if e : j = i then by rw [e]; exact c42_30 else hei j (by omega)), (lv_sub hl [1, 2, 0] rfl)⟩ (by first | omega | (dsimp only; omega))
      · exact absurd (hev i (by omega)) c42_30
  · exact absurd c15_3 (by omega)
