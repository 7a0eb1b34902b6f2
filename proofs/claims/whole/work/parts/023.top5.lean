theorem n15 {x : Int32} (h1 : ¬ x < nI 1) (h2 : ¬ nI 5 < x) : ∃ n, 1 ≤ n ∧ n ≤ 5 ∧ x = nI n := by
  rcases pk_ix x (n := 6) (by decide) with h | h | ⟨j, hj, rfl⟩
  · exact absurd (show x < nI 1 from by rw [Int32.lt_iff_toInt_lt] at h ⊢; have e1 : (nI 1).toInt = 1 := (by decide); have e0 : (0 : Int32).toInt = 0 := (by decide); omega) h1
  · exact absurd (show nI 5 < x from by rw [Int32.le_iff_toInt_le] at h; rw [Int32.lt_iff_toInt_lt]; have e1 : (nI 5).toInt = 5 := (by decide); have e0 : (nI 6).toInt = 6 := (by decide); omega) h2
  · refine ⟨j, ?_, by omega, rfl⟩
    rcases Nat.eq_zero_or_pos j with h | h
    · rw [h] at h1; exact absurd (by decide) h1
    · exact h
/-- which WORD n letters and a CODE give -/
def okW (q : Nat) (x y : Int32) : Option (Nat × Nat) := if ¬ x < nI 1 ∧ ¬ nI 5 < x ∧ ¬ y < 0 ∧ y.toNatClampNeg < q ^ x.toNatClampNeg then some (x.toNatClampNeg, y.toNatClampNeg) else none
theorem okW_cases (q : Nat) (x y : Int32) : (∃ n c, 1 ≤ n ∧ n ≤ 5 ∧ c < q ^ n ∧ c < 2 ^ 31 ∧ x = nI n ∧ y = nI c ∧ okW q x y = some (n, c)) ∨ (okW q x y = none ∧ ∀ n c, x = nI n → y = nI c → 1 ≤ n → n ≤ 5 → c < 2 ^ 31 → q ^ n ≤ c) := by
  by_cases h : ¬ x < nI 1 ∧ ¬ nI 5 < x ∧ ¬ y < 0 ∧ y.toNatClampNeg < q ^ x.toNatClampNeg
  · obtain ⟨n, hn1, hn2, rfl⟩ := n15 h.1 h.2.1
    obtain ⟨c, hc, rfl⟩ := nI_of h.2.2.1
    have h4 := h.2.2.2
    have e : okW q (nI n) (nI c) = some ((nI n).toNatClampNeg, (nI c).toNatClampNeg) := if_pos h
    rw [nI_clamp hc, nI_clamp (by omega)] at h4
    rw [nI_clamp hc, nI_clamp (by omega)] at e
    exact Or.inl ⟨n, c, hn1, hn2, h4, hc, rfl, rfl, e⟩
  · refine Or.inr ⟨if_neg h, fun n c hx hy h1 h2 h3 => ?_⟩
    subst hx; subst hy
    rcases Nat.lt_or_ge c (q ^ n) with h5 | h5
    · exact absurd ⟨nI_nlt (by omega) (by omega), nI_nlt (by omega) (by omega), nI_pos h3, by rw [nI_clamp h3, nI_clamp (by omega)]; exact h5⟩ h
    · exact h5
set_option maxHeartbeats 4000000 in
set_option maxRecDepth 100000 in
/-- Word.spell, no such WORD -/
theorem mX4_spell_no (l : Launch) {D : va_G} {cI cJ cZ cW : ClassId} {ad : Nat → Nat} {g : Nat → va_E} {q Wt b1 : Nat} {n0 c0 : Int32}  (fo_1 : g (1) = .inr (0, [.ref (ad (2)), .int (nI (q)), .int (nI (Wt))])) (hq4 : q ≤ 4) (hq2 : 2 ≤ q) (hbad : ∀ n c, n0 = nI n → c0 = nI c → 1 ≤ n → n ≤ 5 → c < 2 ^ 31 → q ^ n ≤ c) : Met l yX4_spell wsX4_spell ({ frames := 2, cells := 0, slots := 0, locals := 47 }) (va_Pc [.ref (ad (b1)), .int (n0), .int (c0), .ref (ad (1))] (xB D (xT cI cJ cZ cW) ad g)) (vp_Si (fun r => r = nI 0)) 0 0 (fun _ => False) := by
  refine Met.ofW (cc := cX4_spell) (maxL := 9) (ret := (some .boolean)) (by decide) rfl ?_
  intro p e s m args below meth c s₁ B hml hv
  obtain ⟨rfl, hP, hK, hN⟩ := hv
  have hx := B.exec
  have hb := B.bytes
  have hr := B.returns
  have hts := atoms_spec (ws := wsX4_spell) B.pre
  have hown : s.vm.findClass RX4 = some m.cls := findClass_of_methodNamed B.named
  have hlocks := B.notSynchronized
  have hin0 : ∀ w ∈ wsX00, w ∈ wsX4_spell := by decide +kernel
  have hf29 := hts (.fieldLink RX4 29 "LettersByLot$Lot" "letters" "I") (by decide +kernel)
  have hl := lv_entry ([.ref (ad (b1)), .int (n0), .int (c0), .ref (ad (1))]) (n := 9) (Nat.le_of_ble_eq_true rfl)
  rw [lg_entry_eq]
  generalize (lg_sl ([.ref (ad (b1)), .int (n0), .int (c0), .ref (ad (1))]) ++ List.replicate (9 - (lg_sl ([.ref (ad (b1)), .int (n0), .int (c0), .ref (ad (1))])).length) Slot.unset).toArray = ls at hl ⊢
  have hl : lv_has ls 9 [(0, .ref (ad (b1))), (1, .int (n0)), (2, .int (c0)), (3, .ref (ad (1)))] := hl
  refine lv_aload_n hx hb dX4_spell_0 rfl (lv_at hl 3 rfl) ?_
  refine xw_get hx hb hts hin0 hown hK hP (by decide) fo_1 rfl 1 (by decide) hf29 rfl rfl dX4_spell_1 ?_
  refine lv_istore (lv' := [(4, .int (nI (q))), (0, .ref (ad (b1))), (1, .int (n0)), (2, .int (c0)), (3, .ref (ad (1)))]) hx hb dX4_spell_4 hl (by decide) rfl (fun ls hl => ?_)
  refine lv_iload hx hb dX4_spell_6 (lv_at hl 0 rfl) ?_
  refine lv_iconst (v := nI (2)) hx hb dX4_spell_8 (by decide) ?_
  refine xi_icmp_lt (tgt := 39) hx hb (by omega) (by decide) dX4_spell_9 (by decide) (fun c9_1 => ?_) (fun c9_1 => ?_)
  · exact absurd c9_1 (by omega)
  · refine lv_iload_n hx hb dX4_spell_12 rfl (lv_at hl 2 rfl) ?_
    refine lv_iconst (v := nI (1)) hx hb dX4_spell_13 (by decide) ?_
    refine lv_icmp_lt (tgt := 39) hx hb dX4_spell_14 (by decide) (fun c14_2 => ?_) (fun c14_2 => ?_)
    · refine lv_iconst (v := nI (0)) hx hb dX4_spell_39 (by decide) ?_
      exact W.zret (v := nI (0)) hx hb hr (by decide) (fun tZ ht _ => ⟨_, rfl, rfl, ht⟩) (fun q hq => by cases hq) dX4_spell_40
    · refine lv_iload_n hx hb dX4_spell_17 rfl (lv_at hl 2 rfl) ?_
      refine lv_iconst (v := nI (5)) hx hb dX4_spell_18 (by decide) ?_
      refine lv_icmp_gt (tgt := 39) hx hb dX4_spell_19 (by decide) (fun c19_3 => ?_) (fun c19_3 => ?_)
      · refine lv_iconst (v := nI (0)) hx hb dX4_spell_39 (by decide) ?_
        exact W.zret (v := nI (0)) hx hb hr (by decide) (fun tZ ht _ => ⟨_, rfl, rfl, ht⟩) (fun q hq => by cases hq) dX4_spell_40
      · refine lv_iload_n hx hb dX4_spell_22 rfl (lv_at hl 3 rfl) ?_
        refine lv_if_lt (tgt := 39) hx hb dX4_spell_23 (by decide) (fun c23_4 => ?_) (fun c23_4 => ?_)
        · refine lv_iconst (v := nI (0)) hx hb dX4_spell_39 (by decide) ?_
          exact W.zret (v := nI (0)) hx hb hr (by decide) (fun tZ ht _ => ⟨_, rfl, rfl, ht⟩) (fun q hq => by cases hq) dX4_spell_40
        · obtain ⟨nn, hnn1, hnn5, rfl⟩ := n15 c14_2 c19_3
          obtain ⟨cq, hcq, rfl⟩ := nI_of (x := c0) c23_4
          have hp5 : q ^ nn ≤ 1024 := pow_le5 hq4 hnn5
          refine lv_iload_n hx hb dX4_spell_26 rfl (lv_at hl 3 rfl) ?_
          refine xi_i2l hx hb (by omega) dX4_spell_27 ?_
          refine lv_iload hx hb dX4_spell_28 (lv_at hl 0 rfl) ?_
          refine xi_i2l hx hb (by omega) dX4_spell_30 ?_
          refine lv_iload_n hx hb dX4_spell_31 rfl (lv_at hl 2 rfl) ?_
          refine vp_callSl (va_Run.run (va_runSN (As := [.long (lZ (((q : Nat) : Int))), .int (nI (nn))]) (rest := [.long (lZ (((cq : Nat) : Int)))]) ⟨hx, hb, hml, hown, hts⟩ (mX5_power l (b0 := q) (e0 := nn) (by omega)) ⟨va_cnB 2 hts gX4_spell_X5_power_n33 rfl rfl rfl hN (hts (.initialized RX5) (by decide +kernel)) (by decide +kernel) ⟨Nat.le_of_ble_eq_true rfl, Nat.le_of_ble_eq_true rfl⟩, hts (.static yX5_power) (by decide +kernel), trivial⟩ ⟨xB_blind, fun U hU hW => ⟨rfl, by rw [hU]; exact hP, va_K.moved hW.alike hK, va_Nw.warmM hW hN⟩⟩ rfl rfl hl.1 rfl (lv_room (Nat.le_of_ble_eq_true rfl)) dX4_spell_32 ⟨Nat.le_of_ble_eq_true rfl, Nat.le_of_ble_eq_true rfl⟩)) (fun r5 er5 => ?_)
          subst er5
          refine xl_cmp_lt (tgt := 41) hx hb (by omega) (by omega) dX4_spell_35 dX4_spell_36 (by decide) (fun c35_6 => ?_) (fun c35_6 => ?_)
          · exact absurd c35_6 (by have h := hbad nn cq rfl rfl hnn1 hnn5 hcq; omega)
          · refine lv_iconst (v := nI (0)) hx hb dX4_spell_39 (by decide) ?_
            exact W.zret (v := nI (0)) hx hb hr (by decide) (fun tZ ht _ => ⟨_, rfl, rfl, ht⟩) (fun q hq => by cases hq) dX4_spell_40

set_option maxHeartbeats 4000000 in
set_option maxRecDepth 100000 in
theorem mX5_word_in (l : Launch) {D : va_G} {cI cJ cZ cW : ClassId} {ad : Nat → Nat} {A : Nat → Prop} (hD : ∀ g, va_D A (xw 81 ad g)) {g : Nat → va_E} {q Wt : Nat} {w : Nat → Nat} {ln : Nat → Nat} {u : Nat → Nat → Nat} {T : Nat} {t : Nat → Nat} {tp bt : Int64} {k1 b1 n1 cd : Nat}  (hC : ClsI cI cJ cZ cW ad g q Wt w ln u T t tp bt) (hs : SrcI q Wt w ln u T t) (hk1 : k1 < 8) (eb1 : 17 + 5 * k1 = b1) (hn0 : 1 ≤ n1) (hn1 : n1 ≤ 5) (hcd : cd < q ^ n1) : Met l yX5_word wsX5_word ({ frames := 3, cells := 0, slots := 0, locals := 75 }) (va_Pc [.ref (ad (0)), .int (nI (k1)), .int (nI (n1)), .int (nI (cd))] (xB D (xT cI cJ cZ cW) ad g)) (va_Qi (fun r g2 => r = nI 1 ∧ ClsI cI cJ cZ cW ad g2 q Wt w (va_up ln k1 n1) (va_up u k1 (dg q cd n1)) T t tp bt ∧ ∀ i : Nat, 62 ≤ i → g2 i = g i) (xB D (xT cI cJ cZ cW) ad) A) 0 0 A := by
  refine Met.ofW (cc := cX5_word) (maxL := 4) (ret := (some .boolean)) (by decide) rfl ?_
  intro p e s m args below meth c s₁ B hml hv
  obtain ⟨rfl, hP, hK, hN⟩ := hv
  have hx := B.exec
  have hb := B.bytes
  have hr := B.returns
  have hts := atoms_spec (ws := wsX5_word) B.pre
  have hown : s.vm.findClass RX5 = some m.cls := findClass_of_methodNamed B.named
  have hlocks := B.notSynchronized
  have hS : va_S A s.heap s.heap [] := va_S.rf
  have hin5 : ∀ w ∈ wsX50, w ∈ wsX5_word := by decide +kernel
  have hf12 := hts (.fieldLink RX5 12 "LettersByLot" "lot" "LLettersByLot$Lot;") (by decide +kernel)
  have hf18 := hts (.fieldLink RX5 18 "LettersByLot" "words" "[LLettersByLot$Word;") (by decide +kernel)
  have hl := lv_entry ([.ref (ad (0)), .int (nI (k1)), .int (nI (n1)), .int (nI (cd))]) (n := 4) (Nat.le_of_ble_eq_true rfl)
  rw [lg_entry_eq]
  generalize (lg_sl ([.ref (ad (0)), .int (nI (k1)), .int (nI (n1)), .int (nI (cd))]) ++ List.replicate (4 - (lg_sl ([.ref (ad (0)), .int (nI (k1)), .int (nI (n1)), .int (nI (cd))])).length) Slot.unset).toArray = ls at hl ⊢
  have hl : lv_has ls 4 [(0, .ref (ad (0))), (1, .int (nI (k1))), (2, .int (nI (n1))), (3, .int (nI (cd)))] := hl
  obtain ⟨hq2, hq4, hw1, hw0, hWs, hWt, hw, hln, hul, hT, ht⟩ := hs
  obtain ⟨fo_0, ⟨f2, fo_1, fa_2, h2⟩, ⟨f3, fa_3, h3⟩, hRace, hMach, ⟨f16, fo15, fa16, h16⟩, hwd, hcand⟩ := id hC
  have hWp : 1 ≤ Wt ∧ Wt ≤ 4 := by have h8 := hw1 0 (by omega); have h9 := wsum_mono (w := w) (show 1 ≤ q by omega); have h7 : wsum w 1 = 0 + w 0 := rfl; omega
  have hwb : WordI cI cJ ad g q Wt w b1 (ln k1) (u k1) := eb1 ▸ hwd k1 hk1
  obtain ⟨fl1, fh1, ft1, fs1, co1, ow1, fo1, fal1, fah1, fat1, fas1, hh0, ht0⟩ := hwb.raw
  have hb1 : b1 + 4 < 81 := by omega
  refine lv_iload_n hx hb dX5_word_0 rfl (lv_at hl 1 rfl) ?_
  refine vp_callSi (va_Run.run (va_runS (As := [.int (nI (k1))]) (rest := []) ⟨hx, hb, hml, hown, hts⟩ (mX5_isSlot_in l (by omega)) (va_cwS 1 hts gX5_word_X5_isSlot rfl rfl rfl (by decide +kernel) ⟨Nat.le_of_ble_eq_true rfl, Nat.le_of_ble_eq_true rfl⟩) ⟨xB_blind, fun U hU hW => ⟨rfl, by rw [hU]; exact hP, va_K.moved hW.alike hK, va_Nw.warmM hW hN⟩⟩ rfl rfl hl.1 rfl (lv_room (Nat.le_of_ble_eq_true rfl)) dX5_word_1 ⟨Nat.le_of_ble_eq_true rfl, Nat.le_of_ble_eq_true rfl⟩)) (fun r1 er1 => ?_)
  subst er1
  refine xi_if_eq (tgt := 29) hx hb (by decide) dX5_word_4 (by decide) (fun c0 => absurd c0 (by decide)) (fun _ => ?_)
  refine lv_aload_n hx hb dX5_word_7 rfl (lv_at hl 0 rfl) ?_
  refine xw_get hx hb hts hin5 hown hK hP (by decide) fo_0 rfl 1 (by decide) hf18 rfl rfl dX5_word_8 ?_
  refine lv_iload_n hx hb dX5_word_11 rfl (lv_at hl 1 rfl) ?_
  refine xw_aald hx hb hK hP (by decide) 3 fa_3 rfl (by omega) (by decide) (v := .ref (ad (b1))) (by rw [h3 k1 hk1, eb1]; rfl) dX5_word_12 ?_
  refine lv_iload_n hx hb dX5_word_13 rfl (lv_at hl 2 rfl) ?_
  refine lv_iload_n hx hb dX5_word_14 rfl (lv_at hl 3 rfl) ?_
  refine lv_aload_n hx hb dX5_word_15 rfl (lv_at hl 0 rfl) ?_
  refine xw_get hx hb hts hin5 hown hK hP (by decide) fo_0 rfl 0 (by decide) hf12 rfl rfl dX5_word_16 ?_
  refine va_calli (va_runV (As := [.int (nI (n1)), .int (nI (cd)), .ref (ad (1))]) (rest := []) ⟨hx, hb, hml, hown, hts⟩ (mX4_spell l hD (w := w) fo1 fal1 fah1 fat1 fas1 fo_1 fa_2 hq4 hq2 h2 hw hWt hb1 (by omega) hn0 hn1 hcd hh0 ht0) (cwV 3 hts gX5_word_X4_spell rfl rfl rfl (by decide +kernel) ⟨Nat.le_of_ble_eq_true rfl, Nat.le_of_ble_eq_true rfl⟩) ⟨xB_blind, va_recv hK hP (ci := 4) rfl (xw_is (by omega) fo1), fun U hU hW => ⟨rfl, by rw [hU]; exact hP, va_K.moved hW.alike hK, va_Nw.warmM hW hN⟩⟩ rfl rfl hl.1 rfl (lv_room (Nat.le_of_ble_eq_true rfl)) dX5_word_19 ⟨Nat.le_of_ble_eq_true rfl, Nat.le_of_ble_eq_true rfl⟩) hS (fun _ _ h => h) (fun _ h => h) (fun r4 g3 tZ H locs ht hvm hwg3 hB hzZ hkZ hS => ?_)
  obtain ⟨hP, -⟩ := hB
  rw [ht] at hP
  obtain ⟨er4, fln, fhn, ftn, fsn, hfln, hfhn, hftn, hfsn, hh0n, ht0n, fg3_n0, fg3_n1, fg3_n2, fg3_n3, fg3_n4, hcg3⟩ := hwg3
  subst er4
  have fg3_k0 : g3 (0) = .inr (5, [.ref (ad (1)), .ref (ad (3)), .ref (ad (57)), .ref (ad (4)), .ref (ad (8)), .ref (ad (15)), .long (tp), .long (bt)]) := (hcg3 (0) (by omega) (by omega) (by omega) (by omega) (by omega)).trans fo_0
  have fg3_k1 : g3 (1) = .inr (0, [.ref (ad (2)), .int (nI (q)), .int (nI (Wt))]) := (hcg3 (1) (by omega) (by omega) (by omega) (by omega) (by omega)).trans fo_1
  have fg3_k2 : g3 (2) = .inl (cI, 4, .inl (f2)) := (hcg3 (2) (by omega) (by omega) (by omega) (by omega) (by omega)).trans fa_2
  have fg3_k3 : g3 (15) = .inr (3, [.ref (ad (16)), .int (nI (T))]) := (hcg3 (15) (by omega) (by omega) (by omega) (by omega) (by omega)).trans fo15
  have fg3_k4 : g3 (16) = .inl (cI, 300, .inl (f16)) := (hcg3 (16) (by omega) (by omega) (by omega) (by omega) (by omega)).trans fa16
  have fg3_k5 : g3 (3) = .inl (cW, 8, .inr (.inr (.inr (.inr (f3))))) := (hcg3 (3) (by omega) (by omega) (by omega) (by omega) (by omega)).trans fa_3
  have hfrg3 : ∀ j : Nat, j ≠ b1 → j ≠ b1 + 1 → j ≠ b1 + 2 → j ≠ b1 + 3 → j ≠ b1 + 4 → g3 j = g j := fun j h0 h1 h2 h3 h4 => (hcg3 j h0 h1 h2 h3 h4).trans ((fun _ _ _ _ _ _ => rfl) j h0 h1 h2 h3 h4)
  refine xi_if_eq (tgt := 29) hx hb (by decide) dX5_word_22 (by decide) (fun c0 => absurd c0 (by decide)) (fun _ => ?_)
  refine lv_iconst (v := nI (1)) hx hb dX5_word_25 (by decide) ?_
  refine lv_goto (tgt := 30) hx hb dX5_word_26 (by decide) ?_
  exact W.zret (v := nI (1)) hx hb hr (by decide) (fun tZ ht hW => ⟨⟨_, g3, rfl, (by subst eb1; exact ⟨rfl, ClsI.word hk1 hC ⟨fln, fhn, ftn, fsn, _, _, fg3_n0, fg3_n1, fg3_n2, fg3_n3, fg3_n4, hh0n, ht0n, fun _ => ⟨by rw [px_dg (by omega) hcd (Nat.le_refl _), Nat.sub_self, Nat.pow_zero, Nat.div_one], rfl, hfln, hfhn, hftn, hfsn⟩⟩ (fun j hj => hfrg3 j (by omega) (by omega) (by omega) (by omega) (by omega)), fun j hj => hfrg3 j (by omega) (by omega) (by omega) (by omega) (by omega)⟩), by rw [ht]; exact hP, va_K.moved hW.alike hK, va_Nw.warmM hW hN⟩, hS.F ht⟩) hS.2.2 dX5_word_30

set_option maxHeartbeats 4000000 in
set_option maxRecDepth 100000 in
theorem mX5_word_no (l : Launch) {D : va_G} {cI cJ cZ cW : ClassId} {ad : Nat → Nat} {A : Nat → Prop} (hD : ∀ g, va_D A (xw 81 ad g)) {g : Nat → va_E} {q Wt : Nat} {w : Nat → Nat} {ln : Nat → Nat} {u : Nat → Nat → Nat} {T : Nat} {t : Nat → Nat} {tp bt : Int64} {k1 b1 : Nat} {n0 c0 : Int32}  (hC : ClsI cI cJ cZ cW ad g q Wt w ln u T t tp bt) (hs : SrcI q Wt w ln u T t) (hk1 : k1 < 8) (eb1 : 17 + 5 * k1 = b1) (hbad : ∀ n c, n0 = nI n → c0 = nI c → 1 ≤ n → n ≤ 5 → c < 2 ^ 31 → q ^ n ≤ c) : Met l yX5_word wsX5_word ({ frames := 3, cells := 0, slots := 0, locals := 75 }) (va_Pc [.ref (ad (0)), .int (nI (k1)), .int (n0), .int (c0)] (xB D (xT cI cJ cZ cW) ad g)) (va_Qi (fun r g2 => r = nI 0 ∧ ClsI cI cJ cZ cW ad g2 q Wt w ln u T t tp bt ∧ ∀ i : Nat, 62 ≤ i → g2 i = g i) (xB D (xT cI cJ cZ cW) ad) A) 0 0 A := by
  refine Met.ofW (cc := cX5_word) (maxL := 4) (ret := (some .boolean)) (by decide) rfl ?_
  intro p e s m args below meth c s₁ B hml hv
  obtain ⟨rfl, hP, hK, hN⟩ := hv
  have hx := B.exec
  have hb := B.bytes
  have hr := B.returns
  have hts := atoms_spec (ws := wsX5_word) B.pre
  have hown : s.vm.findClass RX5 = some m.cls := findClass_of_methodNamed B.named
  have hlocks := B.notSynchronized
  have hS : va_S A s.heap s.heap [] := va_S.rf
  have hin5 : ∀ w ∈ wsX50, w ∈ wsX5_word := by decide +kernel
  have hf12 := hts (.fieldLink RX5 12 "LettersByLot" "lot" "LLettersByLot$Lot;") (by decide +kernel)
  have hf18 := hts (.fieldLink RX5 18 "LettersByLot" "words" "[LLettersByLot$Word;") (by decide +kernel)
  have hl := lv_entry ([.ref (ad (0)), .int (nI (k1)), .int (n0), .int (c0)]) (n := 4) (Nat.le_of_ble_eq_true rfl)
  rw [lg_entry_eq]
  generalize (lg_sl ([.ref (ad (0)), .int (nI (k1)), .int (n0), .int (c0)]) ++ List.replicate (4 - (lg_sl ([.ref (ad (0)), .int (nI (k1)), .int (n0), .int (c0)])).length) Slot.unset).toArray = ls at hl ⊢
  have hl : lv_has ls 4 [(0, .ref (ad (0))), (1, .int (nI (k1))), (2, .int (n0)), (3, .int (c0))] := hl
  obtain ⟨hq2, hq4, hw1, hw0, hWs, hWt, hw, hln, hul, hT, ht⟩ := hs
  obtain ⟨fo_0, ⟨f2, fo_1, fa_2, h2⟩, ⟨f3, fa_3, h3⟩, hRace, hMach, ⟨f16, fo15, fa16, h16⟩, hwd, hcand⟩ := id hC
  have hWp : 1 ≤ Wt ∧ Wt ≤ 4 := by have h8 := hw1 0 (by omega); have h9 := wsum_mono (w := w) (show 1 ≤ q by omega); have h7 : wsum w 1 = 0 + w 0 := rfl; omega
  have hwb : WordI cI cJ ad g q Wt w b1 (ln k1) (u k1) := eb1 ▸ hwd k1 hk1
  obtain ⟨fl1, fh1, ft1, fs1, co1, ow1, fo1, fal1, fah1, fat1, fas1, hh0, ht0⟩ := hwb.raw
  have hb1 : b1 + 4 < 81 := by omega
  refine lv_iload_n hx hb dX5_word_0 rfl (lv_at hl 1 rfl) ?_
  refine vp_callSi (va_Run.run (va_runS (As := [.int (nI (k1))]) (rest := []) ⟨hx, hb, hml, hown, hts⟩ (mX5_isSlot_in l (by omega)) (va_cwS 1 hts gX5_word_X5_isSlot rfl rfl rfl (by decide +kernel) ⟨Nat.le_of_ble_eq_true rfl, Nat.le_of_ble_eq_true rfl⟩) ⟨xB_blind, fun U hU hW => ⟨rfl, by rw [hU]; exact hP, va_K.moved hW.alike hK, va_Nw.warmM hW hN⟩⟩ rfl rfl hl.1 rfl (lv_room (Nat.le_of_ble_eq_true rfl)) dX5_word_1 ⟨Nat.le_of_ble_eq_true rfl, Nat.le_of_ble_eq_true rfl⟩)) (fun r1 er1 => ?_)
  subst er1
  refine xi_if_eq (tgt := 29) hx hb (by decide) dX5_word_4 (by decide) (fun c0 => absurd c0 (by decide)) (fun _ => ?_)
  refine lv_aload_n hx hb dX5_word_7 rfl (lv_at hl 0 rfl) ?_
  refine xw_get hx hb hts hin5 hown hK hP (by decide) fo_0 rfl 1 (by decide) hf18 rfl rfl dX5_word_8 ?_
  refine lv_iload_n hx hb dX5_word_11 rfl (lv_at hl 1 rfl) ?_
  refine xw_aald hx hb hK hP (by decide) 3 fa_3 rfl (by omega) (by decide) (v := .ref (ad (b1))) (by rw [h3 k1 hk1, eb1]; rfl) dX5_word_12 ?_
  refine lv_iload_n hx hb dX5_word_13 rfl (lv_at hl 2 rfl) ?_
  refine lv_iload_n hx hb dX5_word_14 rfl (lv_at hl 3 rfl) ?_
  refine lv_aload_n hx hb dX5_word_15 rfl (lv_at hl 0 rfl) ?_
  refine xw_get hx hb hts hin5 hown hK hP (by decide) fo_0 rfl 0 (by decide) hf12 rfl rfl dX5_word_16 ?_
  refine vp_callSi (va_Run.run (va_runV (As := [.int (n0), .int (c0), .ref (ad (1))]) (rest := []) ⟨hx, hb, hml, hown, hts⟩ (mX4_spell_no l fo_1 hq4 hq2 hbad) (cwV 3 hts gX5_word_X4_spell rfl rfl rfl (by decide +kernel) ⟨Nat.le_of_ble_eq_true rfl, Nat.le_of_ble_eq_true rfl⟩) ⟨xB_blind, va_recv hK hP (ci := 4) rfl (xw_is (by omega) fo1), fun U hU hW => ⟨rfl, by rw [hU]; exact hP, va_K.moved hW.alike hK, va_Nw.warmM hW hN⟩⟩ rfl rfl hl.1 rfl (lv_room (Nat.le_of_ble_eq_true rfl)) dX5_word_19 ⟨Nat.le_of_ble_eq_true rfl, Nat.le_of_ble_eq_true rfl⟩)) (fun r3 er3 => ?_)
  subst er3
  refine xi_if_eq (tgt := 29) hx hb (by decide) dX5_word_22 (by decide) (fun _ => ?_) (fun c0 => absurd c0 (by decide))
  refine lv_iconst (v := nI (0)) hx hb dX5_word_29 (by decide) ?_
  exact W.zret (v := nI (0)) hx hb hr (by decide) (fun tZ ht hW => ⟨⟨_, g, rfl, ⟨rfl, hC, fun _ _ => rfl⟩, by rw [ht]; exact hP, va_K.moved hW.alike hK, va_Nw.warmM hW hN⟩, hS.F ht⟩) hS.2.2 dX5_word_30

set_option maxHeartbeats 4000000 in
set_option maxRecDepth 100000 in
theorem mX5_word_bad (l : Launch) {D : va_G} {cI cJ cZ cW : ClassId} {ad : Nat → Nat} {A : Nat → Prop} (hD : ∀ g, va_D A (xw 81 ad g)) {g : Nat → va_E} {q Wt : Nat} {w : Nat → Nat} {ln : Nat → Nat} {u : Nat → Nat → Nat} {T : Nat} {t : Nat → Nat} {tp bt : Int64} {x0 n0 c0 : Int32}  (hC : ClsI cI cJ cZ cW ad g q Wt w ln u T t tp bt) (hs : SrcI q Wt w ln u T t) (hx0 : x0 < 0 ∨ nI 8 ≤ x0) : Met l yX5_word wsX5_word ({ frames := 3, cells := 0, slots := 0, locals := 75 }) (va_Pc [.ref (ad (0)), .int (x0), .int (n0), .int (c0)] (xB D (xT cI cJ cZ cW) ad g)) (va_Qi (fun r g2 => r = nI 0 ∧ ClsI cI cJ cZ cW ad g2 q Wt w ln u T t tp bt ∧ ∀ i : Nat, 62 ≤ i → g2 i = g i) (xB D (xT cI cJ cZ cW) ad) A) 0 0 A := by
  refine Met.ofW (cc := cX5_word) (maxL := 4) (ret := (some .boolean)) (by decide) rfl ?_
  intro p e s m args below meth c s₁ B hml hv
  obtain ⟨rfl, hP, hK, hN⟩ := hv
  have hx := B.exec
  have hb := B.bytes
  have hr := B.returns
  have hts := atoms_spec (ws := wsX5_word) B.pre
  have hown : s.vm.findClass RX5 = some m.cls := findClass_of_methodNamed B.named
  have hlocks := B.notSynchronized
  have hS : va_S A s.heap s.heap [] := va_S.rf
  have hl := lv_entry ([.ref (ad (0)), .int (x0), .int (n0), .int (c0)]) (n := 4) (Nat.le_of_ble_eq_true rfl)
  rw [lg_entry_eq]
  generalize (lg_sl ([.ref (ad (0)), .int (x0), .int (n0), .int (c0)]) ++ List.replicate (4 - (lg_sl ([.ref (ad (0)), .int (x0), .int (n0), .int (c0)])).length) Slot.unset).toArray = ls at hl ⊢
  have hl : lv_has ls 4 [(0, .ref (ad (0))), (1, .int (x0)), (2, .int (n0)), (3, .int (c0))] := hl
  obtain ⟨hq2, hq4, hw1, hw0, hWs, hWt, hw, hln, hul, hT, ht⟩ := hs
  obtain ⟨fo_0, ⟨f2, fo_1, fa_2, h2⟩, ⟨f3, fa_3, h3⟩, hRace, hMach, ⟨f16, fo15, fa16, h16⟩, hwd, hcand⟩ := id hC
  have hWp : 1 ≤ Wt ∧ Wt ≤ 4 := by have h8 := hw1 0 (by omega); have h9 := wsum_mono (w := w) (show 1 ≤ q by omega); have h7 : wsum w 1 = 0 + w 0 := rfl; omega
  refine lv_iload_n hx hb dX5_word_0 rfl (lv_at hl 1 rfl) ?_
  refine vp_callSi (va_Run.run (va_runS (As := [.int (x0)]) (rest := []) ⟨hx, hb, hml, hown, hts⟩ (mX5_isSlot_out l hx0) (va_cwS 1 hts gX5_word_X5_isSlot rfl rfl rfl (by decide +kernel) ⟨Nat.le_of_ble_eq_true rfl, Nat.le_of_ble_eq_true rfl⟩) ⟨xB_blind, fun U hU hW => ⟨rfl, by rw [hU]; exact hP, va_K.moved hW.alike hK, va_Nw.warmM hW hN⟩⟩ rfl rfl hl.1 rfl (lv_room (Nat.le_of_ble_eq_true rfl)) dX5_word_1 ⟨Nat.le_of_ble_eq_true rfl, Nat.le_of_ble_eq_true rfl⟩)) (fun r1 er1 => ?_)
  subst er1
  refine xi_if_eq (tgt := 29) hx hb (by decide) dX5_word_4 (by decide) (fun _ => ?_) (fun c0 => absurd c0 (by decide))
  refine lv_iconst (v := nI (0)) hx hb dX5_word_29 (by decide) ?_
  exact W.zret (v := nI (0)) hx hb hr (by decide) (fun tZ ht hW => ⟨⟨_, g, rfl, ⟨rfl, hC, fun _ _ => rfl⟩, by rw [ht]; exact hP, va_K.moved hW.alike hK, va_Nw.warmM hW hN⟩, hS.F ht⟩) hS.2.2 dX5_word_30
