set_option maxHeartbeats 4000000 in
set_option maxRecDepth 100000 in
/-- stands -/
theorem mX6_stands (l : Launch) {D : va_G} {cI cJ cZ cW : ClassId} {ad : Nat → Nat} {g : Nat → va_E} {q Wt T : Nat} {w ln t : Nat → Nat} {u : Nat → Nat → Nat} {tp bt : Int64} {k1 e0 : Nat} {sq : Int32} {nu de : Int64} {fsz : Nat → Int32} {fwd : Nat → Int32} {ftx : Nat → Int32}  (fo62 : g (62) = .inr (6, [.int (nI (q)), .int (nI (Wt)), .ref (ad (63)), .ref (ad (64)), .ref (ad (65)), .ref (ad (66)), .int (nI (T)), .long (tp), .long (bt), .long (nu), .long (de), .int (sq), .ref (ad (67)), .ref (ad (68)), .ref (ad (69)), .ref (ad (70)), .ref (ad (71)), .ref (ad (72)), .ref (ad (73)), .ref (ad (74)), .ref (ad (75)), .ref (ad (76)), .ref (ad (77)), .ref (ad (78)), .ref (ad (79)), .ref (ad (80))])) (fa64 : g (64) = .inl (cI, 8, .inl (fsz))) (fa65 : g (65) = .inl (cI, 40, .inl (fwd))) (fa66 : g (66) = .inl (cI, 300, .inl (ftx)))  (hsz : ∀ k, k < 8 → fsz k = nI (ln k)) (hwl : ∀ k j, k < 8 → j < ln k → fwd (5 * k + j) = nI (u k j)) (htx : ∀ j, j < T → ftx j = nI (t j)) (hq2 : 2 ≤ q) (hq4 : q ≤ 4) (hln : ∀ k, ln k ≤ 5) (hul : ∀ k j, j < ln k → u k j < q) (hT : T ≤ 300) (ht : ∀ j, j < T → t j < q) (hk1 : k1 < 8) (he0 : e0 ≤ T) : Met l yX6_stands wsX6_stands ({ frames := 1, cells := 0, slots := 0, locals := 22 }) (va_Pc [.ref (ad (62)), .int (nI (k1)), .int (nI (e0))] (xB D (xT cI cJ cZ cW) ad g)) (vp_Si (fun r => r = if (ln k1 ≤ e0 ∧ stD t (e0 - ln k1) (u k1) (ln k1)) then 1 else 0)) 0 0 (fun _ => False) := by
  refine Met.ofW (cc := cX6_stands) (maxL := 5) (ret := (some .boolean)) (by decide) rfl ?_
  intro p e s m args below meth c s₁ B hml hv
  obtain ⟨rfl, hP, hK, hN⟩ := hv
  have hx := B.exec
  have hb := B.bytes
  have hr := B.returns
  have hts := atoms_spec (ws := wsX6_stands) B.pre
  have hown : s.vm.findClass RX6 = some m.cls := findClass_of_methodNamed B.named
  have hlocks := B.notSynchronized
  have hin6 : ∀ w ∈ wsX60, w ∈ wsX6_stands := by decide +kernel
  have hf20 := hts (.fieldLink RX6 20 "LettersByLotModel" "size" "[I") (by decide +kernel)
  have hf26 := hts (.fieldLink RX6 26 "LettersByLotModel" "text" "[I") (by decide +kernel)
  have hl := lv_entry ([.ref (ad (62)), .int (nI (k1)), .int (nI (e0))]) (n := 5) (Nat.le_of_ble_eq_true rfl)
  rw [lg_entry_eq]
  generalize (lg_sl ([.ref (ad (62)), .int (nI (k1)), .int (nI (e0))]) ++ List.replicate (5 - (lg_sl ([.ref (ad (62)), .int (nI (k1)), .int (nI (e0))])).length) Slot.unset).toArray = ls at hl ⊢
  have hl : lv_has ls 5 [(0, .ref (ad (62))), (1, .int (nI (k1))), (2, .int (nI (e0)))] := hl
  have hn1 := hln k1
  refine lv_iload_n hx hb dX6_stands_0 rfl (lv_at hl 2 rfl) ?_
  refine lv_aload_n hx hb dX6_stands_1 rfl (lv_at hl 0 rfl) ?_
  refine xw_get hx hb hts hin6 hown hK hP (by decide) fo62 rfl 3 (by decide) hf20 rfl rfl dX6_stands_2 ?_
  refine lv_iload_n hx hb dX6_stands_5 rfl (lv_at hl 1 rfl) ?_
  refine xw_iald hx hb hK hP (by decide) 0 fa64 rfl (by omega) (by decide) dX6_stands_6 ?_
  rw [hsz (k1) (by omega)]
  refine xi_icmp_lt (tgt := 14) hx hb (by omega) (by omega) dX6_stands_7 (by decide) (fun c7_1 => ?_) (fun c7_1 => ?_)
  · refine lv_iconst (v := nI (0)) hx hb dX6_stands_14 (by decide) ?_
    refine lv_istore_n (lv' := [(3, .int (nI (0))), (0, .ref (ad (62))), (1, .int (nI (k1))), (2, .int (nI (e0)))]) hx hb dX6_stands_15 rfl hl (by decide) rfl (fun ls hl => ?_)
    refine lv_iconst (v := nI (0)) hx hb dX6_stands_16 (by decide) ?_
    refine lv_istore (lv' := [(4, .int (nI (0))), (3, .int (nI (0))), (0, .ref (ad (62))), (1, .int (nI (k1))), (2, .int (nI (e0)))]) hx hb dX6_stands_17 hl (by decide) rfl (fun ls hl => ?_)
    refine xloop (G := fun fr => W p l e _ s m _ below meth c _ _ _ _ _ fr) (σ := Nat × Nat) (fun (i, b) ls => F0 m 19 ls []) (fun (i, b) ls => (i ≤ ln k1) ∧ ((b = 1 ∧ ln k1 ≤ e0 ∧ ∀ j, j < i → t (e0 - ln k1 + j) = u k1 j) ∨ (b = 0 ∧ ¬ (ln k1 ≤ e0 ∧ stD t (e0 - ln k1) (u k1) (ln k1)))) ∧ lv_has ls 5 [(0, .ref (ad (62))), (1, .int (nI (k1))), (2, .int (nI (e0))), (3, .int (nI (b))), (4, .int (nI (i)))]) (fun (i, b) => ln k1 - i) ?_ (0, 0) ls ⟨(Nat.zero_le _), (Or.inr ⟨rfl, fun h => by have h1 := h.1; omega⟩), (lv_sub hl [2, 3, 4, 1, 0] rfl)⟩
    rintro ⟨i, b⟩ ls ⟨hi, hbq, hl⟩ ih19
    refine lv_iload hx hb dX6_stands_19 (lv_at hl 4 rfl) ?_
    refine lv_aload_n hx hb dX6_stands_21 rfl (lv_at hl 0 rfl) ?_
    refine xw_get hx hb hts hin6 hown hK hP (by decide) fo62 rfl 3 (by decide) hf20 rfl rfl dX6_stands_22 ?_
    refine lv_iload_n hx hb dX6_stands_25 rfl (lv_at hl 1 rfl) ?_
    refine xw_iald hx hb hK hP (by decide) 0 fa64 rfl (by omega) (by decide) dX6_stands_26 ?_
    rw [hsz (k1) (by omega)]
    refine xi_icmp_ge (tgt := 72) hx hb (by omega) (by omega) dX6_stands_27 (by decide) (fun c27_2 => ?_) (fun c27_2 => ?_)
    · refine lv_iload_n hx hb dX6_stands_72 rfl (lv_at hl 3 rfl) ?_
      exact W.zret (v := nI b) hx hb hr (by rcases hbq with h | h; rw [h.1]; rfl; rw [h.1]; rfl) (fun tZ ht _ => ⟨_, rfl, (by show _ = (if (ln k1 ≤ e0 ∧ stD t (e0 - ln k1) (u k1) (ln k1)) then 1 else 0); rcases hbq with h | h; rw [h.1]; exact xb1 ⟨h.2.1, fun j hj => h.2.2 j (by omega)⟩; rw [h.1]; exact xb0 h.2), ht⟩) (fun q hq => by cases hq) dX6_stands_73
    · refine lv_iload_n hx hb dX6_stands_30 rfl (lv_at hl 3 rfl) ?_
      refine xi_if_eq (tgt := 72) hx hb (by rcases hbq with h | h <;> omega) dX6_stands_31 (by decide) (fun c31_3 => ?_) (fun c31_3 => ?_)
      · refine lv_iload_n hx hb dX6_stands_72 rfl (lv_at hl 3 rfl) ?_
        exact W.zret (v := nI b) hx hb hr (by rcases hbq with h | h; rw [h.1]; rfl; rw [h.1]; rfl) (fun tZ ht _ => ⟨_, rfl, (by show _ = (if (ln k1 ≤ e0 ∧ stD t (e0 - ln k1) (u k1) (ln k1)) then 1 else 0); rcases hbq with h | h; rw [h.1]; exact xb1 ⟨h.2.1, fun j hj => h.2.2 j (by have h5 := c31_3; omega)⟩; rw [h.1]; exact xb0 h.2), ht⟩) (fun q hq => by cases hq) dX6_stands_73
      · have hb1 := hbq.resolve_right (fun h => c31_3 h.1)
        have hb1l := hb1.2.1
        refine lv_aload_n hx hb dX6_stands_34 rfl (lv_at hl 0 rfl) ?_
        refine xw_get hx hb hts hin6 hown hK hP (by decide) fo62 rfl 5 (by decide) hf26 rfl rfl dX6_stands_35 ?_
        refine lv_iload_n hx hb dX6_stands_38 rfl (lv_at hl 2 rfl) ?_
        refine lv_aload_n hx hb dX6_stands_39 rfl (lv_at hl 0 rfl) ?_
        refine xw_get hx hb hts hin6 hown hK hP (by decide) fo62 rfl 3 (by decide) hf20 rfl rfl dX6_stands_40 ?_
        refine lv_iload_n hx hb dX6_stands_43 rfl (lv_at hl 1 rfl) ?_
        refine xw_iald hx hb hK hP (by decide) 0 fa64 rfl (by omega) (by decide) dX6_stands_44 ?_
        rw [hsz (k1) (by omega)]
        refine xi_sub hx hb (by omega) dX6_stands_45 ?_
        refine lv_iload hx hb dX6_stands_46 (lv_at hl 4 rfl) ?_
        refine xi_add hx hb dX6_stands_48 ?_
        refine xw_iald hx hb hK hP (by decide) 0 fa66 rfl (by omega) (by decide) dX6_stands_49 ?_
        rw [htx ((e0 - (ln (k1))) + i) (by omega)]
        refine lv_aload_n hx hb dX6_stands_50 rfl (lv_at hl 0 rfl) ?_
        refine lv_iload_n hx hb dX6_stands_51 rfl (lv_at hl 1 rfl) ?_
        refine lv_iload hx hb dX6_stands_52 (lv_at hl 4 rfl) ?_
        refine vp_callSi (va_Run.run (va_runV (As := [.int (nI (k1)), .int (nI (i))]) (rest := [.int (nI (t ((e0 - (ln (k1))) + i)))]) ⟨hx, hb, hml, hown, hts⟩ (mX6_letterOf l (w := w) (ln := ln) (t := t) (u := u) (s1 := k1) (j1 := i) (vv := u (k1) (i)) fo62 fa65 (by omega) (by have h9 := hln (k1); omega) (hwl (k1) (i) (by omega) (by omega))) (cwV 2 hts gX6_stands_X6_letterOf rfl rfl rfl (by decide +kernel) ⟨Nat.le_of_ble_eq_true rfl, Nat.le_of_ble_eq_true rfl⟩) ⟨xB_blind, va_recv hK hP (ci := 6) rfl (xw_is (by decide) fo62), fun U hU hW => ⟨rfl, by rw [hU]; exact hP, va_K.moved hW.alike hK, va_Nw.warmM hW hN⟩⟩ rfl rfl hl.1 rfl (lv_room (Nat.le_of_ble_eq_true rfl)) dX6_stands_54 ⟨Nat.le_of_ble_eq_true rfl, Nat.le_of_ble_eq_true rfl⟩)) (fun r4 er4 => ?_)
        subst er4
        refine xi_icmp_ne (tgt := 64) hx hb (Nat.lt_trans (ht _ (by omega)) (by omega)) (Nat.lt_trans (hul _ _ (by omega)) (by omega)) dX6_stands_57 (by decide) (fun c57_5 => ?_) (fun c57_5 => ?_)
        · refine lv_iconst (v := nI (0)) hx hb dX6_stands_64 (by decide) ?_
          refine lv_istore_n (lv' := [(3, .int (nI (0))), (0, .ref (ad (62))), (1, .int (nI (k1))), (2, .int (nI (e0))), (4, .int (nI (i)))]) hx hb dX6_stands_65 rfl hl (by decide) rfl (fun ls hl => ?_)
          refine lv_iinc (v := nI (i + 1)) (lv' := [(4, .int (nI (i + 1))), (3, .int (nI (0))), (0, .ref (ad (62))), (1, .int (nI (k1))), (2, .int (nI (e0)))]) hx hb dX6_stands_66 hl (k := 4) rfl (nI_add (i) 1) (by decide) rfl (fun ls hl => ?_)
          refine lv_goto (tgt := 19) hx hb dX6_stands_69 (by decide) ?_
          exact ih19 (i + 1, 0) ls ⟨(by omega), (Or.inr ⟨rfl, fun h => c57_5 (h.2 i (by omega))⟩), (lv_sub hl [2, 3, 4, 1, 0] rfl)⟩ (by first | omega | (dsimp only; omega))
        · refine lv_iconst (v := nI (1)) hx hb dX6_stands_60 (by decide) ?_
          refine lv_goto (tgt := 65) hx hb dX6_stands_61 (by decide) ?_
          refine lv_istore_n (lv' := [(3, .int (nI (1))), (0, .ref (ad (62))), (1, .int (nI (k1))), (2, .int (nI (e0))), (4, .int (nI (i)))]) hx hb dX6_stands_65 rfl hl (by decide) rfl (fun ls hl => ?_)
          refine lv_iinc (v := nI (i + 1)) (lv' := [(4, .int (nI (i + 1))), (3, .int (nI (1))), (0, .ref (ad (62))), (1, .int (nI (k1))), (2, .int (nI (e0)))]) hx hb dX6_stands_66 hl (k := 4) rfl (nI_add (i) 1) (by decide) rfl (fun ls hl => ?_)
          refine lv_goto (tgt := 19) hx hb dX6_stands_69 (by decide) ?_
          exact ih19 (i + 1, 1) ls ⟨(by omega), (Or.inl ⟨rfl, hb1.2.1, fun j hj => if e : j = i then by rw [e]; exact c57_5 else hb1.2.2 j (by omega)⟩), (lv_sub hl [2, 3, 4, 1, 0] rfl)⟩ (by first | omega | (dsimp only; omega))
  · refine lv_iconst (v := nI (1)) hx hb dX6_stands_10 (by decide) ?_
    refine lv_goto (tgt := 15) hx hb dX6_stands_11 (by decide) ?_
    refine lv_istore_n (lv' := [(3, .int (nI (1))), (0, .ref (ad (62))), (1, .int (nI (k1))), (2, .int (nI (e0)))]) hx hb dX6_stands_15 rfl hl (by decide) rfl (fun ls hl => ?_)
    refine lv_iconst (v := nI (0)) hx hb dX6_stands_16 (by decide) ?_
    refine lv_istore (lv' := [(4, .int (nI (0))), (3, .int (nI (1))), (0, .ref (ad (62))), (1, .int (nI (k1))), (2, .int (nI (e0)))]) hx hb dX6_stands_17 hl (by decide) rfl (fun ls hl => ?_)
    refine xloop (G := fun fr => W p l e _ s m _ below meth c _ _ _ _ _ fr) (σ := Nat × Nat) (fun (i, b) ls => F0 m 19 ls []) (fun (i, b) ls => (i ≤ ln k1) ∧ ((b = 1 ∧ ln k1 ≤ e0 ∧ ∀ j, j < i → t (e0 - ln k1 + j) = u k1 j) ∨ (b = 0 ∧ ¬ (ln k1 ≤ e0 ∧ stD t (e0 - ln k1) (u k1) (ln k1)))) ∧ lv_has ls 5 [(0, .ref (ad (62))), (1, .int (nI (k1))), (2, .int (nI (e0))), (3, .int (nI (b))), (4, .int (nI (i)))]) (fun (i, b) => ln k1 - i) ?_ (0, 1) ls ⟨(Nat.zero_le _), (Or.inl ⟨rfl, by omega, fun j hj => absurd hj (by omega)⟩), (lv_sub hl [2, 3, 4, 1, 0] rfl)⟩
    rintro ⟨i, b⟩ ls ⟨hi, hbq, hl⟩ ih19
    refine lv_iload hx hb dX6_stands_19 (lv_at hl 4 rfl) ?_
    refine lv_aload_n hx hb dX6_stands_21 rfl (lv_at hl 0 rfl) ?_
    refine xw_get hx hb hts hin6 hown hK hP (by decide) fo62 rfl 3 (by decide) hf20 rfl rfl dX6_stands_22 ?_
    refine lv_iload_n hx hb dX6_stands_25 rfl (lv_at hl 1 rfl) ?_
    refine xw_iald hx hb hK hP (by decide) 0 fa64 rfl (by omega) (by decide) dX6_stands_26 ?_
    rw [hsz (k1) (by omega)]
    refine xi_icmp_ge (tgt := 72) hx hb (by omega) (by omega) dX6_stands_27 (by decide) (fun c27_6 => ?_) (fun c27_6 => ?_)
    · refine lv_iload_n hx hb dX6_stands_72 rfl (lv_at hl 3 rfl) ?_
      exact W.zret (v := nI b) hx hb hr (by rcases hbq with h | h; rw [h.1]; rfl; rw [h.1]; rfl) (fun tZ ht _ => ⟨_, rfl, (by show _ = (if (ln k1 ≤ e0 ∧ stD t (e0 - ln k1) (u k1) (ln k1)) then 1 else 0); rcases hbq with h | h; rw [h.1]; exact xb1 ⟨h.2.1, fun j hj => h.2.2 j (by omega)⟩; rw [h.1]; exact xb0 h.2), ht⟩) (fun q hq => by cases hq) dX6_stands_73
    · refine lv_iload_n hx hb dX6_stands_30 rfl (lv_at hl 3 rfl) ?_
      refine xi_if_eq (tgt := 72) hx hb (by rcases hbq with h | h <;> omega) dX6_stands_31 (by decide) (fun c31_7 => ?_) (fun c31_7 => ?_)
      · refine lv_iload_n hx hb dX6_stands_72 rfl (lv_at hl 3 rfl) ?_
        exact W.zret (v := nI b) hx hb hr (by rcases hbq with h | h; rw [h.1]; rfl; rw [h.1]; rfl) (fun tZ ht _ => ⟨_, rfl, (by show _ = (if (ln k1 ≤ e0 ∧ stD t (e0 - ln k1) (u k1) (ln k1)) then 1 else 0); rcases hbq with h | h; rw [h.1]; exact xb1 ⟨h.2.1, fun j hj => h.2.2 j (by have h5 := c31_7; omega)⟩; rw [h.1]; exact xb0 h.2), ht⟩) (fun q hq => by cases hq) dX6_stands_73
      · have hb1 := hbq.resolve_right (fun h => c31_7 h.1)
        have hb1l := hb1.2.1
        refine lv_aload_n hx hb dX6_stands_34 rfl (lv_at hl 0 rfl) ?_
        refine xw_get hx hb hts hin6 hown hK hP (by decide) fo62 rfl 5 (by decide) hf26 rfl rfl dX6_stands_35 ?_
        refine lv_iload_n hx hb dX6_stands_38 rfl (lv_at hl 2 rfl) ?_
        refine lv_aload_n hx hb dX6_stands_39 rfl (lv_at hl 0 rfl) ?_
        refine xw_get hx hb hts hin6 hown hK hP (by decide) fo62 rfl 3 (by decide) hf20 rfl rfl dX6_stands_40 ?_
        refine lv_iload_n hx hb dX6_stands_43 rfl (lv_at hl 1 rfl) ?_
        refine xw_iald hx hb hK hP (by decide) 0 fa64 rfl (by omega) (by decide) dX6_stands_44 ?_
        rw [hsz (k1) (by omega)]
        refine xi_sub hx hb (by omega) dX6_stands_45 ?_
        refine lv_iload hx hb dX6_stands_46 (lv_at hl 4 rfl) ?_
        refine xi_add hx hb dX6_stands_48 ?_
        refine xw_iald hx hb hK hP (by decide) 0 fa66 rfl (by omega) (by decide) dX6_stands_49 ?_
        rw [htx ((e0 - (ln (k1))) + i) (by omega)]
        refine lv_aload_n hx hb dX6_stands_50 rfl (lv_at hl 0 rfl) ?_
        refine lv_iload_n hx hb dX6_stands_51 rfl (lv_at hl 1 rfl) ?_
        refine lv_iload hx hb dX6_stands_52 (lv_at hl 4 rfl) ?_
        refine vp_callSi (va_Run.run (va_runV (As := [.int (nI (k1)), .int (nI (i))]) (rest := [.int (nI (t ((e0 - (ln (k1))) + i)))]) ⟨hx, hb, hml, hown, hts⟩ (mX6_letterOf l (w := w) (ln := ln) (t := t) (u := u) (s1 := k1) (j1 := i) (vv := u (k1) (i)) fo62 fa65 (by omega) (by have h9 := hln (k1); omega) (hwl (k1) (i) (by omega) (by omega))) (cwV 2 hts gX6_stands_X6_letterOf rfl rfl rfl (by decide +kernel) ⟨Nat.le_of_ble_eq_true rfl, Nat.le_of_ble_eq_true rfl⟩) ⟨xB_blind, va_recv hK hP (ci := 6) rfl (xw_is (by decide) fo62), fun U hU hW => ⟨rfl, by rw [hU]; exact hP, va_K.moved hW.alike hK, va_Nw.warmM hW hN⟩⟩ rfl rfl hl.1 rfl (lv_room (Nat.le_of_ble_eq_true rfl)) dX6_stands_54 ⟨Nat.le_of_ble_eq_true rfl, Nat.le_of_ble_eq_true rfl⟩)) (fun r8 er8 => ?_)
        subst er8
        refine xi_icmp_ne (tgt := 64) hx hb (Nat.lt_trans (ht _ (by omega)) (by omega)) (Nat.lt_trans (hul _ _ (by omega)) (by omega)) dX6_stands_57 (by decide) (fun c57_9 => ?_) (fun c57_9 => ?_)
        · refine lv_iconst (v := nI (0)) hx hb dX6_stands_64 (by decide) ?_
          refine lv_istore_n (lv' := [(3, .int (nI (0))), (0, .ref (ad (62))), (1, .int (nI (k1))), (2, .int (nI (e0))), (4, .int (nI (i)))]) hx hb dX6_stands_65 rfl hl (by decide) rfl (fun ls hl => ?_)
          refine lv_iinc (v := nI (i + 1)) (lv' := [(4, .int (nI (i + 1))), (3, .int (nI (0))), (0, .ref (ad (62))), (1, .int (nI (k1))), (2, .int (nI (e0)))]) hx hb dX6_stands_66 hl (k := 4) rfl (nI_add (i) 1) (by decide) rfl (fun ls hl => ?_)
          refine lv_goto (tgt := 19) hx hb dX6_stands_69 (by decide) ?_
          exact ih19 (i + 1, 0) ls ⟨(by omega), (Or.inr ⟨rfl, fun h => c57_9 (h.2 i (by omega))⟩), (lv_sub hl [2, 3, 4, 1, 0] rfl)⟩ (by first | omega | (dsimp only; omega))
        · refine lv_iconst (v := nI (1)) hx hb dX6_stands_60 (by decide) ?_
          refine lv_goto (tgt := 65) hx hb dX6_stands_61 (by decide) ?_
          refine lv_istore_n (lv' := [(3, .int (nI (1))), (0, .ref (ad (62))), (1, .int (nI (k1))), (2, .int (nI (e0))), (4, .int (nI (i)))]) hx hb dX6_stands_65 rfl hl (by decide) rfl (fun ls hl => ?_)
          refine lv_iinc (v := nI (i + 1)) (lv' := [(4, .int (nI (i + 1))), (3, .int (nI (1))), (0, .ref (ad (62))), (1, .int (nI (k1))), (2, .int (nI (e0)))]) hx hb dX6_stands_66 hl (k := 4) rfl (nI_add (i) 1) (by decide) rfl (fun ls hl => ?_)
          refine lv_goto (tgt := 19) hx hb dX6_stands_69 (by decide) ?_
          exact ih19 (i + 1, 1) ls ⟨(by omega), (Or.inl ⟨rfl, hb1.2.1, fun j hj => if e : j = i then by rw [e]; exact c57_9 else hb1.2.2 j (by omega)⟩), (lv_sub hl [2, 3, 4, 1, 0] rfl)⟩ (by first | omega | (dsimp only; omega))

set_option maxHeartbeats 4000000 in
set_option maxRecDepth 100000 in
/-- firstOf -/
theorem mX6_firstOf (l : Launch) {D : va_G} {cI cJ cZ cW : ClassId} {ad : Nat → Nat} {g : Nat → va_E} {q Wt T : Nat} {w ln t : Nat → Nat} {u : Nat → Nat → Nat} {tp bt : Int64} {k1 : Nat} {sq : Int32} {nu de : Int64} {fsz : Nat → Int32} {fwd : Nat → Int32} {ftx : Nat → Int32}  (fo62 : g (62) = .inr (6, [.int (nI (q)), .int (nI (Wt)), .ref (ad (63)), .ref (ad (64)), .ref (ad (65)), .ref (ad (66)), .int (nI (T)), .long (tp), .long (bt), .long (nu), .long (de), .int (sq), .ref (ad (67)), .ref (ad (68)), .ref (ad (69)), .ref (ad (70)), .ref (ad (71)), .ref (ad (72)), .ref (ad (73)), .ref (ad (74)), .ref (ad (75)), .ref (ad (76)), .ref (ad (77)), .ref (ad (78)), .ref (ad (79)), .ref (ad (80))])) (fa64 : g (64) = .inl (cI, 8, .inl (fsz))) (fa65 : g (65) = .inl (cI, 40, .inl (fwd))) (fa66 : g (66) = .inl (cI, 300, .inl (ftx)))  (hsz : ∀ k, k < 8 → fsz k = nI (ln k)) (hwl : ∀ k j, k < 8 → j < ln k → fwd (5 * k + j) = nI (u k j)) (htx : ∀ j, j < T → ftx j = nI (t j)) (hq2 : 2 ≤ q) (hq4 : q ≤ 4) (hln : ∀ k, ln k ≤ 5) (hul : ∀ k j, j < ln k → u k j < q) (hT : T ≤ 300) (ht : ∀ j, j < T → t j < q) (hk1 : k1 < 8) (hp1 : 0 < ln k1) : Met l yX6_firstOf wsX6_firstOf ({ frames := 2, cells := 0, slots := 0, locals := 46 }) (va_Pc [.ref (ad (62)), .int (nI (k1))] (xB D (xT cI cJ cZ cW) ad g)) (vp_Si (fun r => (∃ a, r = nI (a + ln k1) ∧ a + ln k1 ≤ T ∧ stD t a (u k1) (ln k1) ∧ ∀ x, x < a → ¬ stD t x (u k1) (ln k1)) ∨ (r = -1 ∧ ∀ x, x + ln k1 ≤ T → ¬ stD t x (u k1) (ln k1)))) 0 0 (fun _ => False) := by
  refine Met.ofW (cc := cX6_firstOf) (maxL := 3) (ret := (some .int)) (by decide) rfl ?_
  intro p e s m args below meth c s₁ B hml hv
  obtain ⟨rfl, hP, hK, hN⟩ := hv
  have hx := B.exec
  have hb := B.bytes
  have hr := B.returns
  have hts := atoms_spec (ws := wsX6_firstOf) B.pre
  have hown : s.vm.findClass RX6 = some m.cls := findClass_of_methodNamed B.named
  have hlocks := B.notSynchronized
  have hin6 : ∀ w ∈ wsX60, w ∈ wsX6_firstOf := by decide +kernel
  have hf76 := hts (.fieldLink RX6 76 "LettersByLotModel" "written" "I") (by decide +kernel)
  have hl := lv_entry ([.ref (ad (62)), .int (nI (k1))]) (n := 3) (Nat.le_of_ble_eq_true rfl)
  rw [lg_entry_eq]
  generalize (lg_sl ([.ref (ad (62)), .int (nI (k1))]) ++ List.replicate (3 - (lg_sl ([.ref (ad (62)), .int (nI (k1))])).length) Slot.unset).toArray = ls at hl ⊢
  have hl : lv_has ls 3 [(0, .ref (ad (62))), (1, .int (nI (k1)))] := hl
  have hn1 := hln k1
  refine lv_iconst (v := nI (1)) hx hb dX6_firstOf_0 (by decide) ?_
  refine lv_istore_n (lv' := [(2, .int (nI (1))), (0, .ref (ad (62))), (1, .int (nI (k1)))]) hx hb dX6_firstOf_1 rfl hl (by decide) rfl (fun ls hl => ?_)
  refine xloop (G := fun fr => W p l e _ s m _ below meth c _ _ _ _ _ fr) (σ := Nat) (fun i ls => F0 m 2 ls []) (fun i ls => (i ≤ T) ∧ (∀ x, x + ln k1 ≤ i → ¬ stD t x (u k1) (ln k1)) ∧ lv_has ls 3 [(0, .ref (ad (62))), (1, .int (nI (k1))), (2, .int (nI (i + 1)))]) (fun i => T - i) ?_ (0) ls ⟨(Nat.zero_le _), (fun x hx => absurd hx (by omega)), (lv_sub hl [1, 2, 0] rfl)⟩
  rintro i ls ⟨hi, hno, hl⟩ ih2
  refine lv_iload_n hx hb dX6_firstOf_2 rfl (lv_at hl 2 rfl) ?_
  refine lv_aload_n hx hb dX6_firstOf_3 rfl (lv_at hl 0 rfl) ?_
  refine xw_get hx hb hts hin6 hown hK hP (by decide) fo62 rfl 6 (by decide) hf76 rfl rfl dX6_firstOf_4 ?_
  refine xi_icmp_gt (tgt := 27) hx hb (by omega) (by omega) dX6_firstOf_7 (by decide) (fun c7_1 => ?_) (fun c7_1 => ?_)
  · refine lv_iconst (v := (-1)) hx hb dX6_firstOf_27 (by decide) ?_
    exact W.iret (v := (-1)) hx hb hr (fun tZ ht _ => ⟨_, rfl, Or.inr ⟨rfl, fun x hx => hno x (by omega)⟩, ht⟩) (fun q hq => by cases hq) dX6_firstOf_28
  · refine lv_aload_n hx hb dX6_firstOf_10 rfl (lv_at hl 0 rfl) ?_
    refine lv_iload_n hx hb dX6_firstOf_11 rfl (lv_at hl 1 rfl) ?_
    refine lv_iload_n hx hb dX6_firstOf_12 rfl (lv_at hl 2 rfl) ?_
    refine vp_callSi (va_Run.run (va_runV (As := [.int (nI (k1)), .int (nI (i + 1))]) (rest := []) ⟨hx, hb, hml, hown, hts⟩ (mX6_stands l (w := w) (ln := ln) (t := t) (u := u) fo62 fa64 fa65 fa66 hsz hwl htx hq2 hq4 hln hul hT ht (by omega) (by omega)) (cwV 2 hts gX6_firstOf_X6_stands rfl rfl rfl (by decide +kernel) ⟨Nat.le_of_ble_eq_true rfl, Nat.le_of_ble_eq_true rfl⟩) ⟨xB_blind, va_recv hK hP (ci := 6) rfl (xw_is (by decide) fo62), fun U hU hW => ⟨rfl, by rw [hU]; exact hP, va_K.moved hW.alike hK, va_Nw.warmM hW hN⟩⟩ rfl rfl hl.1 rfl (lv_room (Nat.le_of_ble_eq_true rfl)) dX6_firstOf_13 ⟨Nat.le_of_ble_eq_true rfl, Nat.le_of_ble_eq_true rfl⟩)) (fun r2 er2 => ?_)
    subst er2
    refine xb_if_eq (tgt := 21) hx hb dX6_firstOf_16 (by decide) (fun c16_3 => ?_) (fun c16_3 => ?_)
    · refine lv_iinc (v := nI (i + 1 + 1)) (lv' := [(2, .int (nI (i + 1 + 1))), (0, .ref (ad (62))), (1, .int (nI (k1)))]) hx hb dX6_firstOf_21 hl (k := 2) rfl (nI_add (i + 1) 1) (by decide) rfl (fun ls hl => ?_)
      refine lv_goto (tgt := 2) hx hb dX6_firstOf_24 (by decide) ?_
      exact ih2 (i + 1) ls ⟨(by omega), (fun x hx => if e : x + ln k1 = i + 1 then fun h => c16_3 ⟨by omega, by rw [show i + 1 - ln k1 = x by omega]; exact h⟩ else hno x (by omega)), (lv_sub hl [1, 2, 0] rfl)⟩ (by first | omega | (dsimp only; omega))
    · refine lv_iload_n hx hb dX6_firstOf_19 rfl (lv_at hl 2 rfl) ?_
      exact W.iret (v := nI (i + 1)) hx hb hr (fun tZ ht _ => ⟨_, rfl, Or.inl ⟨i + 1 - ln k1, by have h1 := c16_3.1; rw [show i + 1 - ln k1 + ln k1 = i + 1 by omega], by have h1 := c16_3.1; omega, c16_3.2, fun x hx => hno x (by omega)⟩, ht⟩) (fun q hq => by cases hq) dX6_firstOf_20

set_option maxHeartbeats 4000000 in
set_option maxRecDepth 100000 in
theorem mX6_came0_s (l : Launch) {D : va_G} {cI cJ cZ cW : ClassId} {ad : Nat → Nat} {g : Nat → va_E} {q Wt : Nat} {w : Nat → Nat} {ln : Nat → Nat} {u : Nat → Nat → Nat} {T : Nat} {t : Nat → Nat} {tp bt : Int64} {k1 : Nat}  (hM : ModI cI cJ ad g q Wt w ln u T t tp bt) (hs : SrcI q Wt w ln u T t) (hk1 : k1 < 8) (hp1 : 0 < ln k1) : Met l yX6_came wsX6_came ({ frames := 3, cells := 0, slots := 0, locals := 68 }) (va_Pc [.ref (ad (62)), .int (nI (k1)), .int (nI (0))] (xB D (xT cI cJ cZ cW) ad g)) (vp_Si (fun r => r = aCame ln u T t (nI (k1)) (nI 0))) 0 0 (fun _ => False) := by
  refine Met.ofW (cc := cX6_came) (maxL := 5) (ret := (some .int)) (by decide) rfl ?_
  intro p e s m args below meth c s₁ B hml hv
  obtain ⟨rfl, hP, hK, hN⟩ := hv
  have hx := B.exec
  have hb := B.bytes
  have hr := B.returns
  have hts := atoms_spec (ws := wsX6_came) B.pre
  have hown : s.vm.findClass RX6 = some m.cls := findClass_of_methodNamed B.named
  have hlocks := B.notSynchronized
  have hl := lv_entry ([.ref (ad (62)), .int (nI (k1)), .int (nI (0))]) (n := 5) (Nat.le_of_ble_eq_true rfl)
  rw [lg_entry_eq]
  generalize (lg_sl ([.ref (ad (62)), .int (nI (k1)), .int (nI (0))]) ++ List.replicate (5 - (lg_sl ([.ref (ad (62)), .int (nI (k1)), .int (nI (0))])).length) Slot.unset).toArray = ls at hl ⊢
  have hl : lv_has ls 5 [(0, .ref (ad (62))), (1, .int (nI (k1))), (2, .int (nI (0)))] := hl
  obtain ⟨hq2, hq4, hw1, hw0, hWs, hWt, hw, hln, hul, hT, ht⟩ := hs
  obtain ⟨sq, nu, de, fw, fsz, fwd, ftx, fos, foz, fgo, frw, fan, fad, frn, frd, fen, fed, fcn, fcd, fnw, fth, fo62, fa63, fa64, fa65, fa66, fa67, fa68, fa69, fa70, fa71, fa72, fa73, fa74, fa75, fa76, fa77, fa78, fa79, fa80, hfw, hsz, hwl, htx⟩ := id hM
  have hn1 := hln k1
  refine lv_aload_n hx hb dX6_came_0 rfl (lv_at hl 0 rfl) ?_
  refine lv_iload_n hx hb dX6_came_1 rfl (lv_at hl 1 rfl) ?_
  refine vp_callSi (va_Run.run (va_runV (As := [.int (nI (k1))]) (rest := []) ⟨hx, hb, hml, hown, hts⟩ (mX6_isWord_yes l (w := w) (ln := ln) (t := t) (u := u) fo62 fa64 hsz hk1 hp1 (hln _)) (cwV 1 hts gX6_came_X6_isWord rfl rfl rfl (by decide +kernel) ⟨Nat.le_of_ble_eq_true rfl, Nat.le_of_ble_eq_true rfl⟩) ⟨xB_blind, va_recv hK hP (ci := 6) rfl (xw_is (by decide) fo62), fun U hU hW => ⟨rfl, by rw [hU]; exact hP, va_K.moved hW.alike hK, va_Nw.warmM hW hN⟩⟩ rfl rfl hl.1 rfl (lv_room (Nat.le_of_ble_eq_true rfl)) dX6_came_2 ⟨Nat.le_of_ble_eq_true rfl, Nat.le_of_ble_eq_true rfl⟩)) (fun r1 er1 => ?_)
  subst er1
  refine xi_if_eq (tgt := 16) hx hb (by decide) dX6_came_5 (by decide) (fun c0 => absurd c0 (by decide)) (fun _ => ?_)
  refine lv_iload_n hx hb dX6_came_8 rfl (lv_at hl 2 rfl) ?_
  refine lv_iconst (v := nI (2)) hx hb dX6_came_9 (by decide) ?_
  refine vp_callSi (va_Run.run (va_runS (As := [.int (nI (0)), .int (nI (2))]) (rest := []) ⟨hx, hb, hml, hown, hts⟩ (mX6_isIn_in l (by omega) (by omega)) (va_cwS 2 hts gX6_came_X6_isIn rfl rfl rfl (by decide +kernel) ⟨Nat.le_of_ble_eq_true rfl, Nat.le_of_ble_eq_true rfl⟩) ⟨xB_blind, fun U hU hW => ⟨rfl, by rw [hU]; exact hP, va_K.moved hW.alike hK, va_Nw.warmM hW hN⟩⟩ rfl rfl hl.1 rfl (lv_room (Nat.le_of_ble_eq_true rfl)) dX6_came_10 ⟨Nat.le_of_ble_eq_true rfl, Nat.le_of_ble_eq_true rfl⟩)) (fun r3 er3 => ?_)
  subst er3
  refine xi_if_ne (tgt := 18) hx hb (by decide) dX6_came_13 (by decide) (fun _ => ?_) (fun c0 => absurd c0 (by decide))
  refine lv_iload_n hx hb dX6_came_18 rfl (lv_at hl 2 rfl) ?_
  refine xi_if_ne (tgt := 28) hx hb (by decide) dX6_came_19 (by decide) (fun c0 => absurd c0 (by decide)) (fun _ => ?_)
  refine lv_aload_n hx hb dX6_came_22 rfl (lv_at hl 0 rfl) ?_
  refine lv_iload_n hx hb dX6_came_23 rfl (lv_at hl 1 rfl) ?_
  refine vp_callSi (va_Run.run (va_runV (As := [.int (nI (k1))]) (rest := []) ⟨hx, hb, hml, hown, hts⟩ (mX6_firstOf l (w := w) (ln := ln) (t := t) (u := u) fo62 fa64 fa65 fa66 hsz hwl htx hq2 hq4 hln hul hT ht (by omega) hp1) (cwV 1 hts gX6_came_X6_firstOf rfl rfl rfl (by decide +kernel) ⟨Nat.le_of_ble_eq_true rfl, Nat.le_of_ble_eq_true rfl⟩) ⟨xB_blind, va_recv hK hP (ci := 6) rfl (xw_is (by decide) fo62), fun U hU hW => ⟨rfl, by rw [hU]; exact hP, va_K.moved hW.alike hK, va_Nw.warmM hW hN⟩⟩ rfl rfl hl.1 rfl (lv_room (Nat.le_of_ble_eq_true rfl)) dX6_came_24 ⟨Nat.le_of_ble_eq_true rfl, Nat.le_of_ble_eq_true rfl⟩)) (fun r6 er6 => ?_)
  exact W.iret (v := r6) hx hb hr (fun tZ ht _ => ⟨_, rfl, (by show _ = aCame ln u T t _ _; unfold aCame; rw [slotW_yes hk1 hp1]; rcases er6 with ⟨a, e, h1, h2, h3⟩ | ⟨e, h⟩; rw [e]; show _ = (match fstT T t (u k1) (ln k1) with | some a => nI (a + ln k1) | none => -1); rw [fstT_some h1 h2 h3]; rw [e]; show _ = (match fstT T t (u k1) (ln k1) with | some a => nI (a + ln k1) | none => -1); rw [fstT_none h]), ht⟩) (fun q hq => by cases hq) dX6_came_27

set_option maxHeartbeats 4000000 in
set_option maxRecDepth 100000 in
theorem mX6_came0_n (l : Launch) {D : va_G} {cI cJ cZ cW : ClassId} {ad : Nat → Nat} {g : Nat → va_E} {q Wt : Nat} {w : Nat → Nat} {ln : Nat → Nat} {u : Nat → Nat → Nat} {T : Nat} {t : Nat → Nat} {tp bt : Int64} {xa : Int32}  (hM : ModI cI cJ ad g q Wt w ln u T t tp bt) (hs : SrcI q Wt w ln u T t) (hxa : noW ln xa) : Met l yX6_came wsX6_came ({ frames := 3, cells := 0, slots := 0, locals := 68 }) (va_Pc [.ref (ad (62)), .int (xa), .int (nI (0))] (xB D (xT cI cJ cZ cW) ad g)) (vp_Si (fun r => r = aCame ln u T t (xa) (nI 0))) 0 0 (fun _ => False) := by
  refine Met.ofW (cc := cX6_came) (maxL := 5) (ret := (some .int)) (by decide) rfl ?_
  intro p e s m args below meth c s₁ B hml hv
  obtain ⟨rfl, hP, hK, hN⟩ := hv
  have hx := B.exec
  have hb := B.bytes
  have hr := B.returns
  have hts := atoms_spec (ws := wsX6_came) B.pre
  have hown : s.vm.findClass RX6 = some m.cls := findClass_of_methodNamed B.named
  have hlocks := B.notSynchronized
  have hl := lv_entry ([.ref (ad (62)), .int (xa), .int (nI (0))]) (n := 5) (Nat.le_of_ble_eq_true rfl)
  rw [lg_entry_eq]
  generalize (lg_sl ([.ref (ad (62)), .int (xa), .int (nI (0))]) ++ List.replicate (5 - (lg_sl ([.ref (ad (62)), .int (xa), .int (nI (0))])).length) Slot.unset).toArray = ls at hl ⊢
  have hl : lv_has ls 5 [(0, .ref (ad (62))), (1, .int (xa)), (2, .int (nI (0)))] := hl
  obtain ⟨hq2, hq4, hw1, hw0, hWs, hWt, hw, hln, hul, hT, ht⟩ := hs
  obtain ⟨sq, nu, de, fw, fsz, fwd, ftx, fos, foz, fgo, frw, fan, fad, frn, frd, fen, fed, fcn, fcd, fnw, fth, fo62, fa63, fa64, fa65, fa66, fa67, fa68, fa69, fa70, fa71, fa72, fa73, fa74, fa75, fa76, fa77, fa78, fa79, fa80, hfw, hsz, hwl, htx⟩ := id hM
  refine lv_aload_n hx hb dX6_came_0 rfl (lv_at hl 0 rfl) ?_
  refine lv_iload_n hx hb dX6_came_1 rfl (lv_at hl 1 rfl) ?_
  refine vp_callSi (va_Run.run (va_runV (As := [.int (xa)]) (rest := []) ⟨hx, hb, hml, hown, hts⟩ (mX6_isWord_no l (w := w) (ln := ln) (t := t) (u := u) fo62 fa64 hsz hxa) (cwV 1 hts gX6_came_X6_isWord rfl rfl rfl (by decide +kernel) ⟨Nat.le_of_ble_eq_true rfl, Nat.le_of_ble_eq_true rfl⟩) ⟨xB_blind, va_recv hK hP (ci := 6) rfl (xw_is (by decide) fo62), fun U hU hW => ⟨rfl, by rw [hU]; exact hP, va_K.moved hW.alike hK, va_Nw.warmM hW hN⟩⟩ rfl rfl hl.1 rfl (lv_room (Nat.le_of_ble_eq_true rfl)) dX6_came_2 ⟨Nat.le_of_ble_eq_true rfl, Nat.le_of_ble_eq_true rfl⟩)) (fun r1 er1 => ?_)
  subst er1
  refine xi_if_eq (tgt := 16) hx hb (by decide) dX6_came_5 (by decide) (fun _ => ?_) (fun c0 => absurd c0 (by decide))
  refine lv_iconst (v := (-1)) hx hb dX6_came_16 (by decide) ?_
  exact W.iret (v := (-1)) hx hb hr (fun tZ ht _ => ⟨_, rfl, (by show _ = aCame ln u T t _ _; unfold aCame; rw [slotW_no hxa]), ht⟩) (fun q hq => by cases hq) dX6_came_17

theorem mX6_came0 (l : Launch) {D : va_G} {cI cJ cZ cW : ClassId} {ad : Nat → Nat} {g : Nat → va_E} {q Wt : Nat} {w : Nat → Nat} {ln : Nat → Nat} {u : Nat → Nat → Nat} {T : Nat} {t : Nat → Nat} {tp bt : Int64} (hM : ModI cI cJ ad g q Wt w ln u T t tp bt) (hs : SrcI q Wt w ln u T t) (xa : Int32) : Met l yX6_came wsX6_came ({ frames := 3, cells := 0, slots := 0, locals := 68 }) (va_Pc [.ref (ad (62)), .int xa, .int (nI (0))] (xB D (xT cI cJ cZ cW) ad g)) (vp_Si (fun r => r = aCame ln u T t (xa) (nI 0))) 0 0 (fun _ => False) := by
  rcases slotW_cases ln xa with hxa | ⟨k1, hk1, rfl, hp1⟩
  · exact mX6_came0_n l hM hs hxa
  · exact mX6_came0_s l hM hs hk1 hp1

set_option maxHeartbeats 4000000 in
set_option maxRecDepth 100000 in
theorem mX6_came1_s (l : Launch) {D : va_G} {cI cJ cZ cW : ClassId} {ad : Nat → Nat} {g : Nat → va_E} {q Wt : Nat} {w : Nat → Nat} {ln : Nat → Nat} {u : Nat → Nat → Nat} {T : Nat} {t : Nat → Nat} {tp bt : Int64} {k1 : Nat}  (hM : ModI cI cJ ad g q Wt w ln u T t tp bt) (hs : SrcI q Wt w ln u T t) (hk1 : k1 < 8) (hp1 : 0 < ln k1) : Met l yX6_came wsX6_came ({ frames := 2, cells := 0, slots := 0, locals := 46 }) (va_Pc [.ref (ad (62)), .int (nI (k1)), .int (nI (1))] (xB D (xT cI cJ cZ cW) ad g)) (vp_Si (fun r => r = aCame ln u T t (nI (k1)) (nI 1))) 0 0 (fun _ => False) := by
  refine Met.ofW (cc := cX6_came) (maxL := 5) (ret := (some .int)) (by decide) rfl ?_
  intro p e s m args below meth c s₁ B hml hv
  obtain ⟨rfl, hP, hK, hN⟩ := hv
  have hx := B.exec
  have hb := B.bytes
  have hr := B.returns
  have hts := atoms_spec (ws := wsX6_came) B.pre
  have hown : s.vm.findClass RX6 = some m.cls := findClass_of_methodNamed B.named
  have hlocks := B.notSynchronized
  have hin6 : ∀ w ∈ wsX60, w ∈ wsX6_came := by decide +kernel
  have hf76 := hts (.fieldLink RX6 76 "LettersByLotModel" "written" "I") (by decide +kernel)
  have hl := lv_entry ([.ref (ad (62)), .int (nI (k1)), .int (nI (1))]) (n := 5) (Nat.le_of_ble_eq_true rfl)
  rw [lg_entry_eq]
  generalize (lg_sl ([.ref (ad (62)), .int (nI (k1)), .int (nI (1))]) ++ List.replicate (5 - (lg_sl ([.ref (ad (62)), .int (nI (k1)), .int (nI (1))])).length) Slot.unset).toArray = ls at hl ⊢
  have hl : lv_has ls 5 [(0, .ref (ad (62))), (1, .int (nI (k1))), (2, .int (nI (1)))] := hl
  obtain ⟨hq2, hq4, hw1, hw0, hWs, hWt, hw, hln, hul, hT, ht⟩ := hs
  obtain ⟨sq, nu, de, fw, fsz, fwd, ftx, fos, foz, fgo, frw, fan, fad, frn, frd, fen, fed, fcn, fcd, fnw, fth, fo62, fa63, fa64, fa65, fa66, fa67, fa68, fa69, fa70, fa71, fa72, fa73, fa74, fa75, fa76, fa77, fa78, fa79, fa80, hfw, hsz, hwl, htx⟩ := id hM
  have hn1 := hln k1
  refine lv_aload_n hx hb dX6_came_0 rfl (lv_at hl 0 rfl) ?_
  refine lv_iload_n hx hb dX6_came_1 rfl (lv_at hl 1 rfl) ?_
  refine vp_callSi (va_Run.run (va_runV (As := [.int (nI (k1))]) (rest := []) ⟨hx, hb, hml, hown, hts⟩ (mX6_isWord_yes l (w := w) (ln := ln) (t := t) (u := u) fo62 fa64 hsz hk1 hp1 (hln _)) (cwV 1 hts gX6_came_X6_isWord rfl rfl rfl (by decide +kernel) ⟨Nat.le_of_ble_eq_true rfl, Nat.le_of_ble_eq_true rfl⟩) ⟨xB_blind, va_recv hK hP (ci := 6) rfl (xw_is (by decide) fo62), fun U hU hW => ⟨rfl, by rw [hU]; exact hP, va_K.moved hW.alike hK, va_Nw.warmM hW hN⟩⟩ rfl rfl hl.1 rfl (lv_room (Nat.le_of_ble_eq_true rfl)) dX6_came_2 ⟨Nat.le_of_ble_eq_true rfl, Nat.le_of_ble_eq_true rfl⟩)) (fun r1 er1 => ?_)
  subst er1
  refine xi_if_eq (tgt := 16) hx hb (by decide) dX6_came_5 (by decide) (fun c0 => absurd c0 (by decide)) (fun _ => ?_)
  refine lv_iload_n hx hb dX6_came_8 rfl (lv_at hl 2 rfl) ?_
  refine lv_iconst (v := nI (2)) hx hb dX6_came_9 (by decide) ?_
  refine vp_callSi (va_Run.run (va_runS (As := [.int (nI (1)), .int (nI (2))]) (rest := []) ⟨hx, hb, hml, hown, hts⟩ (mX6_isIn_in l (by omega) (by omega)) (va_cwS 2 hts gX6_came_X6_isIn rfl rfl rfl (by decide +kernel) ⟨Nat.le_of_ble_eq_true rfl, Nat.le_of_ble_eq_true rfl⟩) ⟨xB_blind, fun U hU hW => ⟨rfl, by rw [hU]; exact hP, va_K.moved hW.alike hK, va_Nw.warmM hW hN⟩⟩ rfl rfl hl.1 rfl (lv_room (Nat.le_of_ble_eq_true rfl)) dX6_came_10 ⟨Nat.le_of_ble_eq_true rfl, Nat.le_of_ble_eq_true rfl⟩)) (fun r3 er3 => ?_)
  subst er3
  refine xi_if_ne (tgt := 18) hx hb (by decide) dX6_came_13 (by decide) (fun _ => ?_) (fun c0 => absurd c0 (by decide))
  refine lv_iload_n hx hb dX6_came_18 rfl (lv_at hl 2 rfl) ?_
  refine xi_if_ne (tgt := 28) hx hb (by decide) dX6_came_19 (by decide) (fun _ => ?_) (fun c0 => absurd c0 (by decide))
  refine lv_iconst (v := nI (0)) hx hb dX6_came_28 (by decide) ?_
  refine lv_istore_n (lv' := [(3, .int (nI (0))), (0, .ref (ad (62))), (1, .int (nI (k1))), (2, .int (nI (1)))]) hx hb dX6_came_29 rfl hl (by decide) rfl (fun ls hl => ?_)
  refine lv_iconst (v := nI (1)) hx hb dX6_came_30 (by decide) ?_
  refine lv_istore (lv' := [(4, .int (nI (1))), (3, .int (nI (0))), (0, .ref (ad (62))), (1, .int (nI (k1))), (2, .int (nI (1)))]) hx hb dX6_came_31 hl (by decide) rfl (fun ls hl => ?_)
  refine xloop (G := fun fr => W p l e _ s m _ below meth c _ _ _ _ _ fr) (σ := Nat) (fun i ls => F0 m 33 ls []) (fun i ls => (i ≤ T) ∧ lv_has ls 5 [(0, .ref (ad (62))), (1, .int (nI (k1))), (3, .int (nI (cntS (fun a => decide (stD t a (u k1) (ln k1))) (i + 1 - ln k1)))), (4, .int (nI (i + 1)))]) (fun i => T - i) ?_ (0) ls ⟨(Nat.zero_le _), (by rw [show 0 + 1 - ln k1 = 0 by omega]; exact (lv_sub hl [2, 3, 1, 0] rfl))⟩
  rintro i ls ⟨hi, hl⟩ ih33
  refine lv_iload hx hb dX6_came_33 (lv_at hl 3 rfl) ?_
  refine lv_aload_n hx hb dX6_came_35 rfl (lv_at hl 0 rfl) ?_
  refine xw_get hx hb hts hin6 hown hK hP (by decide) fo62 rfl 6 (by decide) hf76 rfl rfl dX6_came_36 ?_
  refine xi_icmp_gt (tgt := 66) hx hb (by omega) (by omega) dX6_came_39 (by decide) (fun c39_6 => ?_) (fun c39_6 => ?_)
  · refine lv_iload_n hx hb dX6_came_66 rfl (lv_at hl 2 rfl) ?_
    exact W.iret (v := nI (cntS (fun a => decide (stD t a (u k1) (ln k1))) (i + 1 - ln k1))) hx hb hr (fun tZ ht _ => ⟨_, rfl, (by show _ = aCame ln u T t _ _; unfold aCame; rw [slotW_yes hk1 hp1]; show _ = nI (cntS (fun a => decide (stD t a (u k1) (ln k1))) (T + 1 - ln k1)); rw [show i = T by omega]), ht⟩) (fun q hq => by cases hq) dX6_came_67
  · refine lv_iload_n hx hb dX6_came_42 rfl (lv_at hl 2 rfl) ?_
    refine lv_aload_n hx hb dX6_came_43 rfl (lv_at hl 0 rfl) ?_
    refine lv_iload_n hx hb dX6_came_44 rfl (lv_at hl 1 rfl) ?_
    refine lv_iload hx hb dX6_came_45 (lv_at hl 3 rfl) ?_
    refine vp_callSi (va_Run.run (va_runV (As := [.int (nI (k1)), .int (nI (i + 1))]) (rest := [.int (nI (cntS (fun a => decide (stD t a (u k1) (ln k1))) (i + 1 - ln k1)))]) ⟨hx, hb, hml, hown, hts⟩ (mX6_stands l (w := w) (ln := ln) (t := t) (u := u) fo62 fa64 fa65 fa66 hsz hwl htx hq2 hq4 hln hul hT ht (by omega) (by omega)) (cwV 2 hts gX6_came_X6_stands rfl rfl rfl (by decide +kernel) ⟨Nat.le_of_ble_eq_true rfl, Nat.le_of_ble_eq_true rfl⟩) ⟨xB_blind, va_recv hK hP (ci := 6) rfl (xw_is (by decide) fo62), fun U hU hW => ⟨rfl, by rw [hU]; exact hP, va_K.moved hW.alike hK, va_Nw.warmM hW hN⟩⟩ rfl rfl hl.1 rfl (lv_room (Nat.le_of_ble_eq_true rfl)) dX6_came_47 ⟨Nat.le_of_ble_eq_true rfl, Nat.le_of_ble_eq_true rfl⟩)) (fun r7 er7 => ?_)
    subst er7
    refine xb_if_eq (tgt := 57) hx hb dX6_came_50 (by decide) (fun c50_8 => ?_) (fun c50_8 => ?_)
    · refine lv_iconst (v := nI (0)) hx hb dX6_came_57 (by decide) ?_
      refine xi_add hx hb dX6_came_58 ?_
      refine xtopi (y := nI (cntS (fun a => decide (stD t a (u k1) (ln k1))) (i + 1 + 1 - ln k1))) (congrArg nI (by rw [Nat.add_zero]; by_cases h1 : ln k1 ≤ i + 1; rw [show i + 1 + 1 - ln k1 = (i + 1 - ln k1) + 1 by omega, cntS_n (fun h => c50_8 ⟨h1, of_decide_eq_true h⟩)]; rw [show i + 1 + 1 - ln k1 = i + 1 - ln k1 by omega])) ?_
      refine lv_istore_n (lv' := [(3, .int (nI (cntS (fun a => decide (stD t a (u k1) (ln k1))) (i + 1 + 1 - ln k1)))), (0, .ref (ad (62))), (1, .int (nI (k1))), (4, .int (nI (i + 1)))]) hx hb dX6_came_59 rfl hl (by decide) rfl (fun ls hl => ?_)
      refine lv_iinc (v := nI (i + 1 + 1)) (lv' := [(4, .int (nI (i + 1 + 1))), (3, .int (nI (cntS (fun a => decide (stD t a (u k1) (ln k1))) (i + 1 + 1 - ln k1)))), (0, .ref (ad (62))), (1, .int (nI (k1)))]) hx hb dX6_came_60 hl (k := 3) rfl (nI_add (i + 1) 1) (by decide) rfl (fun ls hl => ?_)
      refine lv_goto (tgt := 33) hx hb dX6_came_63 (by decide) ?_
      exact ih33 (i + 1) ls ⟨(by omega), (lv_sub hl [2, 3, 1, 0] rfl)⟩ (by first | omega | (dsimp only; omega))
    · refine lv_iconst (v := nI (1)) hx hb dX6_came_53 (by decide) ?_
      refine lv_goto (tgt := 58) hx hb dX6_came_54 (by decide) ?_
      refine xi_add hx hb dX6_came_58 ?_
      refine xtopi (y := nI (cntS (fun a => decide (stD t a (u k1) (ln k1))) (i + 1 + 1 - ln k1))) (congrArg nI (by rw [show i + 1 + 1 - ln k1 = (i + 1 - ln k1) + 1 by have h1 := c50_8.1; omega, cntS_y (decide_eq_true c50_8.2)])) ?_
      refine lv_istore_n (lv' := [(3, .int (nI (cntS (fun a => decide (stD t a (u k1) (ln k1))) (i + 1 + 1 - ln k1)))), (0, .ref (ad (62))), (1, .int (nI (k1))), (4, .int (nI (i + 1)))]) hx hb dX6_came_59 rfl hl (by decide) rfl (fun ls hl => ?_)
      refine lv_iinc (v := nI (i + 1 + 1)) (lv' := [(4, .int (nI (i + 1 + 1))), (3, .int (nI (cntS (fun a => decide (stD t a (u k1) (ln k1))) (i + 1 + 1 - ln k1)))), (0, .ref (ad (62))), (1, .int (nI (k1)))]) hx hb dX6_came_60 hl (k := 3) rfl (nI_add (i + 1) 1) (by decide) rfl (fun ls hl => ?_)
      refine lv_goto (tgt := 33) hx hb dX6_came_63 (by decide) ?_
      exact ih33 (i + 1) ls ⟨(by omega), (lv_sub hl [2, 3, 1, 0] rfl)⟩ (by first | omega | (dsimp only; omega))

set_option maxHeartbeats 4000000 in
set_option maxRecDepth 100000 in
theorem mX6_came1_n (l : Launch) {D : va_G} {cI cJ cZ cW : ClassId} {ad : Nat → Nat} {g : Nat → va_E} {q Wt : Nat} {w : Nat → Nat} {ln : Nat → Nat} {u : Nat → Nat → Nat} {T : Nat} {t : Nat → Nat} {tp bt : Int64} {xa : Int32}  (hM : ModI cI cJ ad g q Wt w ln u T t tp bt) (hs : SrcI q Wt w ln u T t) (hxa : noW ln xa) : Met l yX6_came wsX6_came ({ frames := 2, cells := 0, slots := 0, locals := 46 }) (va_Pc [.ref (ad (62)), .int (xa), .int (nI (1))] (xB D (xT cI cJ cZ cW) ad g)) (vp_Si (fun r => r = aCame ln u T t (xa) (nI 1))) 0 0 (fun _ => False) := by
  refine Met.ofW (cc := cX6_came) (maxL := 5) (ret := (some .int)) (by decide) rfl ?_
  intro p e s m args below meth c s₁ B hml hv
  obtain ⟨rfl, hP, hK, hN⟩ := hv
  have hx := B.exec
  have hb := B.bytes
  have hr := B.returns
  have hts := atoms_spec (ws := wsX6_came) B.pre
  have hown : s.vm.findClass RX6 = some m.cls := findClass_of_methodNamed B.named
  have hlocks := B.notSynchronized
  have hl := lv_entry ([.ref (ad (62)), .int (xa), .int (nI (1))]) (n := 5) (Nat.le_of_ble_eq_true rfl)
  rw [lg_entry_eq]
  generalize (lg_sl ([.ref (ad (62)), .int (xa), .int (nI (1))]) ++ List.replicate (5 - (lg_sl ([.ref (ad (62)), .int (xa), .int (nI (1))])).length) Slot.unset).toArray = ls at hl ⊢
  have hl : lv_has ls 5 [(0, .ref (ad (62))), (1, .int (xa)), (2, .int (nI (1)))] := hl
  obtain ⟨hq2, hq4, hw1, hw0, hWs, hWt, hw, hln, hul, hT, ht⟩ := hs
  obtain ⟨sq, nu, de, fw, fsz, fwd, ftx, fos, foz, fgo, frw, fan, fad, frn, frd, fen, fed, fcn, fcd, fnw, fth, fo62, fa63, fa64, fa65, fa66, fa67, fa68, fa69, fa70, fa71, fa72, fa73, fa74, fa75, fa76, fa77, fa78, fa79, fa80, hfw, hsz, hwl, htx⟩ := id hM
  refine lv_aload_n hx hb dX6_came_0 rfl (lv_at hl 0 rfl) ?_
  refine lv_iload_n hx hb dX6_came_1 rfl (lv_at hl 1 rfl) ?_
  refine vp_callSi (va_Run.run (va_runV (As := [.int (xa)]) (rest := []) ⟨hx, hb, hml, hown, hts⟩ (mX6_isWord_no l (w := w) (ln := ln) (t := t) (u := u) fo62 fa64 hsz hxa) (cwV 1 hts gX6_came_X6_isWord rfl rfl rfl (by decide +kernel) ⟨Nat.le_of_ble_eq_true rfl, Nat.le_of_ble_eq_true rfl⟩) ⟨xB_blind, va_recv hK hP (ci := 6) rfl (xw_is (by decide) fo62), fun U hU hW => ⟨rfl, by rw [hU]; exact hP, va_K.moved hW.alike hK, va_Nw.warmM hW hN⟩⟩ rfl rfl hl.1 rfl (lv_room (Nat.le_of_ble_eq_true rfl)) dX6_came_2 ⟨Nat.le_of_ble_eq_true rfl, Nat.le_of_ble_eq_true rfl⟩)) (fun r1 er1 => ?_)
  subst er1
  refine xi_if_eq (tgt := 16) hx hb (by decide) dX6_came_5 (by decide) (fun _ => ?_) (fun c0 => absurd c0 (by decide))
  refine lv_iconst (v := (-1)) hx hb dX6_came_16 (by decide) ?_
  exact W.iret (v := (-1)) hx hb hr (fun tZ ht _ => ⟨_, rfl, (by show _ = aCame ln u T t _ _; unfold aCame; rw [slotW_no hxa]), ht⟩) (fun q hq => by cases hq) dX6_came_17

theorem mX6_came1 (l : Launch) {D : va_G} {cI cJ cZ cW : ClassId} {ad : Nat → Nat} {g : Nat → va_E} {q Wt : Nat} {w : Nat → Nat} {ln : Nat → Nat} {u : Nat → Nat → Nat} {T : Nat} {t : Nat → Nat} {tp bt : Int64} (hM : ModI cI cJ ad g q Wt w ln u T t tp bt) (hs : SrcI q Wt w ln u T t) (xa : Int32) : Met l yX6_came wsX6_came ({ frames := 2, cells := 0, slots := 0, locals := 46 }) (va_Pc [.ref (ad (62)), .int xa, .int (nI (1))] (xB D (xT cI cJ cZ cW) ad g)) (vp_Si (fun r => r = aCame ln u T t (xa) (nI 1))) 0 0 (fun _ => False) := by
  rcases slotW_cases ln xa with hxa | ⟨k1, hk1, rfl, hp1⟩
  · exact mX6_came1_n l hM hs hxa
  · exact mX6_came1_s l hM hs hk1 hp1

set_option maxHeartbeats 4000000 in
set_option maxRecDepth 100000 in
theorem mX6_camex_s (l : Launch) {D : va_G} {cI cJ cZ cW : ClassId} {ad : Nat → Nat} {g : Nat → va_E} {q Wt : Nat} {w : Nat → Nat} {ln : Nat → Nat} {u : Nat → Nat → Nat} {T : Nat} {t : Nat → Nat} {tp bt : Int64} {k1 : Nat} {y0 : Int32}  (hM : ModI cI cJ ad g q Wt w ln u T t tp bt) (hs : SrcI q Wt w ln u T t) (hk1 : k1 < 8) (hp1 : 0 < ln k1) (hy0 : y0 < 0 ∨ nI 2 ≤ y0) : Met l yX6_came wsX6_came ({ frames := 2, cells := 0, slots := 0, locals := 42 }) (va_Pc [.ref (ad (62)), .int (nI (k1)), .int (y0)] (xB D (xT cI cJ cZ cW) ad g)) (vp_Si (fun r => r = aCame ln u T t (nI (k1)) y0)) 0 0 (fun _ => False) := by
  refine Met.ofW (cc := cX6_came) (maxL := 5) (ret := (some .int)) (by decide) rfl ?_
  intro p e s m args below meth c s₁ B hml hv
  obtain ⟨rfl, hP, hK, hN⟩ := hv
  have hx := B.exec
  have hb := B.bytes
  have hr := B.returns
  have hts := atoms_spec (ws := wsX6_came) B.pre
  have hown : s.vm.findClass RX6 = some m.cls := findClass_of_methodNamed B.named
  have hlocks := B.notSynchronized
  have hl := lv_entry ([.ref (ad (62)), .int (nI (k1)), .int (y0)]) (n := 5) (Nat.le_of_ble_eq_true rfl)
  rw [lg_entry_eq]
  generalize (lg_sl ([.ref (ad (62)), .int (nI (k1)), .int (y0)]) ++ List.replicate (5 - (lg_sl ([.ref (ad (62)), .int (nI (k1)), .int (y0)])).length) Slot.unset).toArray = ls at hl ⊢
  have hl : lv_has ls 5 [(0, .ref (ad (62))), (1, .int (nI (k1))), (2, .int (y0))] := hl
  obtain ⟨hq2, hq4, hw1, hw0, hWs, hWt, hw, hln, hul, hT, ht⟩ := hs
  obtain ⟨sq, nu, de, fw, fsz, fwd, ftx, fos, foz, fgo, frw, fan, fad, frn, frd, fen, fed, fcn, fcd, fnw, fth, fo62, fa63, fa64, fa65, fa66, fa67, fa68, fa69, fa70, fa71, fa72, fa73, fa74, fa75, fa76, fa77, fa78, fa79, fa80, hfw, hsz, hwl, htx⟩ := id hM
  have hn1 := hln k1
  refine lv_aload_n hx hb dX6_came_0 rfl (lv_at hl 0 rfl) ?_
  refine lv_iload_n hx hb dX6_came_1 rfl (lv_at hl 1 rfl) ?_
  refine vp_callSi (va_Run.run (va_runV (As := [.int (nI (k1))]) (rest := []) ⟨hx, hb, hml, hown, hts⟩ (mX6_isWord_yes l (w := w) (ln := ln) (t := t) (u := u) fo62 fa64 hsz hk1 hp1 (hln _)) (cwV 1 hts gX6_came_X6_isWord rfl rfl rfl (by decide +kernel) ⟨Nat.le_of_ble_eq_true rfl, Nat.le_of_ble_eq_true rfl⟩) ⟨xB_blind, va_recv hK hP (ci := 6) rfl (xw_is (by decide) fo62), fun U hU hW => ⟨rfl, by rw [hU]; exact hP, va_K.moved hW.alike hK, va_Nw.warmM hW hN⟩⟩ rfl rfl hl.1 rfl (lv_room (Nat.le_of_ble_eq_true rfl)) dX6_came_2 ⟨Nat.le_of_ble_eq_true rfl, Nat.le_of_ble_eq_true rfl⟩)) (fun r1 er1 => ?_)
  subst er1
  refine xi_if_eq (tgt := 16) hx hb (by decide) dX6_came_5 (by decide) (fun c0 => absurd c0 (by decide)) (fun _ => ?_)
  refine lv_iload_n hx hb dX6_came_8 rfl (lv_at hl 2 rfl) ?_
  refine lv_iconst (v := nI (2)) hx hb dX6_came_9 (by decide) ?_
  refine vp_callSi (va_Run.run (va_runS (As := [.int (y0), .int (nI (2))]) (rest := []) ⟨hx, hb, hml, hown, hts⟩ (mX6_isIn_out l hy0) (va_cwS 2 hts gX6_came_X6_isIn rfl rfl rfl (by decide +kernel) ⟨Nat.le_of_ble_eq_true rfl, Nat.le_of_ble_eq_true rfl⟩) ⟨xB_blind, fun U hU hW => ⟨rfl, by rw [hU]; exact hP, va_K.moved hW.alike hK, va_Nw.warmM hW hN⟩⟩ rfl rfl hl.1 rfl (lv_room (Nat.le_of_ble_eq_true rfl)) dX6_came_10 ⟨Nat.le_of_ble_eq_true rfl, Nat.le_of_ble_eq_true rfl⟩)) (fun r3 er3 => ?_)
  subst er3
  refine xi_if_ne (tgt := 18) hx hb (by decide) dX6_came_13 (by decide) (fun c0 => absurd c0 (by decide)) (fun _ => ?_)
  refine lv_iconst (v := (-1)) hx hb dX6_came_16 (by decide) ?_
  exact W.iret (v := (-1)) hx hb hr (fun tZ ht _ => ⟨_, rfl, (by show _ = aCame ln u T t _ _; unfold aCame; rw [slotW_yes hk1 hp1]; show _ = (if y0 = 0 then _ else _); rw [if_neg (fun h => by rw [h] at hy0; exact absurd hy0 (by decide)), if_neg (fun h => by rw [h] at hy0; exact absurd hy0 (by decide))]), ht⟩) (fun q hq => by cases hq) dX6_came_17

set_option maxHeartbeats 4000000 in
set_option maxRecDepth 100000 in
theorem mX6_camex_n (l : Launch) {D : va_G} {cI cJ cZ cW : ClassId} {ad : Nat → Nat} {g : Nat → va_E} {q Wt : Nat} {w : Nat → Nat} {ln : Nat → Nat} {u : Nat → Nat → Nat} {T : Nat} {t : Nat → Nat} {tp bt : Int64} {xa : Int32} {y0 : Int32}  (hM : ModI cI cJ ad g q Wt w ln u T t tp bt) (hs : SrcI q Wt w ln u T t) (hxa : noW ln xa) (hy0 : y0 < 0 ∨ nI 2 ≤ y0) : Met l yX6_came wsX6_came ({ frames := 2, cells := 0, slots := 0, locals := 42 }) (va_Pc [.ref (ad (62)), .int (xa), .int (y0)] (xB D (xT cI cJ cZ cW) ad g)) (vp_Si (fun r => r = aCame ln u T t (xa) y0)) 0 0 (fun _ => False) := by
  refine Met.ofW (cc := cX6_came) (maxL := 5) (ret := (some .int)) (by decide) rfl ?_
  intro p e s m args below meth c s₁ B hml hv
  obtain ⟨rfl, hP, hK, hN⟩ := hv
  have hx := B.exec
  have hb := B.bytes
  have hr := B.returns
  have hts := atoms_spec (ws := wsX6_came) B.pre
  have hown : s.vm.findClass RX6 = some m.cls := findClass_of_methodNamed B.named
  have hlocks := B.notSynchronized
  have hl := lv_entry ([.ref (ad (62)), .int (xa), .int (y0)]) (n := 5) (Nat.le_of_ble_eq_true rfl)
  rw [lg_entry_eq]
  generalize (lg_sl ([.ref (ad (62)), .int (xa), .int (y0)]) ++ List.replicate (5 - (lg_sl ([.ref (ad (62)), .int (xa), .int (y0)])).length) Slot.unset).toArray = ls at hl ⊢
  have hl : lv_has ls 5 [(0, .ref (ad (62))), (1, .int (xa)), (2, .int (y0))] := hl
  obtain ⟨hq2, hq4, hw1, hw0, hWs, hWt, hw, hln, hul, hT, ht⟩ := hs
  obtain ⟨sq, nu, de, fw, fsz, fwd, ftx, fos, foz, fgo, frw, fan, fad, frn, frd, fen, fed, fcn, fcd, fnw, fth, fo62, fa63, fa64, fa65, fa66, fa67, fa68, fa69, fa70, fa71, fa72, fa73, fa74, fa75, fa76, fa77, fa78, fa79, fa80, hfw, hsz, hwl, htx⟩ := id hM
  refine lv_aload_n hx hb dX6_came_0 rfl (lv_at hl 0 rfl) ?_
  refine lv_iload_n hx hb dX6_came_1 rfl (lv_at hl 1 rfl) ?_
  refine vp_callSi (va_Run.run (va_runV (As := [.int (xa)]) (rest := []) ⟨hx, hb, hml, hown, hts⟩ (mX6_isWord_no l (w := w) (ln := ln) (t := t) (u := u) fo62 fa64 hsz hxa) (cwV 1 hts gX6_came_X6_isWord rfl rfl rfl (by decide +kernel) ⟨Nat.le_of_ble_eq_true rfl, Nat.le_of_ble_eq_true rfl⟩) ⟨xB_blind, va_recv hK hP (ci := 6) rfl (xw_is (by decide) fo62), fun U hU hW => ⟨rfl, by rw [hU]; exact hP, va_K.moved hW.alike hK, va_Nw.warmM hW hN⟩⟩ rfl rfl hl.1 rfl (lv_room (Nat.le_of_ble_eq_true rfl)) dX6_came_2 ⟨Nat.le_of_ble_eq_true rfl, Nat.le_of_ble_eq_true rfl⟩)) (fun r1 er1 => ?_)
  subst er1
  refine xi_if_eq (tgt := 16) hx hb (by decide) dX6_came_5 (by decide) (fun _ => ?_) (fun c0 => absurd c0 (by decide))
  refine lv_iconst (v := (-1)) hx hb dX6_came_16 (by decide) ?_
  exact W.iret (v := (-1)) hx hb hr (fun tZ ht _ => ⟨_, rfl, (by show _ = aCame ln u T t _ _; unfold aCame; rw [slotW_no hxa]), ht⟩) (fun q hq => by cases hq) dX6_came_17

theorem mX6_camex (l : Launch) {D : va_G} {cI cJ cZ cW : ClassId} {ad : Nat → Nat} {g : Nat → va_E} {q Wt : Nat} {w : Nat → Nat} {ln : Nat → Nat} {u : Nat → Nat → Nat} {T : Nat} {t : Nat → Nat} {tp bt : Int64} {y0 : Int32} (hM : ModI cI cJ ad g q Wt w ln u T t tp bt) (hs : SrcI q Wt w ln u T t) (hy0 : y0 < 0 ∨ nI 2 ≤ y0) (xa : Int32) : Met l yX6_came wsX6_came ({ frames := 2, cells := 0, slots := 0, locals := 42 }) (va_Pc [.ref (ad (62)), .int xa, .int (y0)] (xB D (xT cI cJ cZ cW) ad g)) (vp_Si (fun r => r = aCame ln u T t (xa) y0)) 0 0 (fun _ => False) := by
  rcases slotW_cases ln xa with hxa | ⟨k1, hk1, rfl, hp1⟩
  · exact mX6_camex_n l hM hs hxa hy0
  · exact mX6_camex_s l hM hs hk1 hp1 hy0

set_option maxHeartbeats 4000000 in
set_option maxRecDepth 100000 in
theorem mX6_drop_s (l : Launch) {D : va_G} {cI cJ cZ cW : ClassId} {ad : Nat → Nat} {A : Nat → Prop} (hD : ∀ g, va_D A (xw 81 ad g)) {g : Nat → va_E} {q Wt : Nat} {w : Nat → Nat} {ln : Nat → Nat} {u : Nat → Nat → Nat} {T : Nat} {t : Nat → Nat} {tp bt : Int64} {k1 : Nat}  (hM : ModI cI cJ ad g q Wt w ln u T t tp bt) (hs : SrcI q Wt w ln u T t) (hk1 : k1 < 8) (hp1 : 0 < ln k1) : Met l yX6_drop wsX6_drop ({ frames := 2, cells := 0, slots := 0, locals := 42 }) (va_Pc [.ref (ad (62)), .int (nI (k1))] (xB D (xT cI cJ cZ cW) ad g)) (va_Qi (fun r g2 => match slotW ln (nI (k1)) with | some k => r = nI 1 ∧ ModI cI cJ ad g2 q Wt w (va_up ln k 0) (va_up u k (u k)) T t tp bt ∧ ∀ j : Nat, j < 62 → g2 j = g j | none => r = nI 0 ∧ ModI cI cJ ad g2 q Wt w ln u T t tp bt ∧ ∀ j : Nat, j < 62 → g2 j = g j) (xB D (xT cI cJ cZ cW) ad) A) 0 0 A := by
  refine Met.ofW (cc := cX6_drop) (maxL := 2) (ret := (some .boolean)) (by decide) rfl ?_
  intro p e s m args below meth c s₁ B hml hv
  obtain ⟨rfl, hP, hK, hN⟩ := hv
  have hx := B.exec
  have hb := B.bytes
  have hr := B.returns
  have hts := atoms_spec (ws := wsX6_drop) B.pre
  have hown : s.vm.findClass RX6 = some m.cls := findClass_of_methodNamed B.named
  have hlocks := B.notSynchronized
  have hS : va_S A s.heap s.heap [] := va_S.rf
  have hin6 : ∀ w ∈ wsX60, w ∈ wsX6_drop := by decide +kernel
  have hf20 := hts (.fieldLink RX6 20 "LettersByLotModel" "size" "[I") (by decide +kernel)
  have hl := lv_entry ([.ref (ad (62)), .int (nI (k1))]) (n := 2) (Nat.le_of_ble_eq_true rfl)
  rw [lg_entry_eq]
  generalize (lg_sl ([.ref (ad (62)), .int (nI (k1))]) ++ List.replicate (2 - (lg_sl ([.ref (ad (62)), .int (nI (k1))])).length) Slot.unset).toArray = ls at hl ⊢
  have hl : lv_has ls 2 [(0, .ref (ad (62))), (1, .int (nI (k1)))] := hl
  obtain ⟨hq2, hq4, hw1, hw0, hWs, hWt, hw, hln, hul, hT, ht⟩ := hs
  obtain ⟨sq, nu, de, fw, fsz, fwd, ftx, fos, foz, fgo, frw, fan, fad, frn, frd, fen, fed, fcn, fcd, fnw, fth, fo62, fa63, fa64, fa65, fa66, fa67, fa68, fa69, fa70, fa71, fa72, fa73, fa74, fa75, fa76, fa77, fa78, fa79, fa80, hfw, hsz, hwl, htx⟩ := id hM
  have hn1 := hln k1
  refine lv_aload_n hx hb dX6_drop_0 rfl (lv_at hl 0 rfl) ?_
  refine lv_iload_n hx hb dX6_drop_1 rfl (lv_at hl 1 rfl) ?_
  refine vp_callSi (va_Run.run (va_runV (As := [.int (nI (k1))]) (rest := []) ⟨hx, hb, hml, hown, hts⟩ (mX6_isWord_yes l (w := w) (ln := ln) (t := t) (u := u) fo62 fa64 hsz hk1 hp1 (hln _)) (cwV 1 hts gX6_drop_X6_isWord rfl rfl rfl (by decide +kernel) ⟨Nat.le_of_ble_eq_true rfl, Nat.le_of_ble_eq_true rfl⟩) ⟨xB_blind, va_recv hK hP (ci := 6) rfl (xw_is (by decide) fo62), fun U hU hW => ⟨rfl, by rw [hU]; exact hP, va_K.moved hW.alike hK, va_Nw.warmM hW hN⟩⟩ rfl rfl hl.1 rfl (lv_room (Nat.le_of_ble_eq_true rfl)) dX6_drop_2 ⟨Nat.le_of_ble_eq_true rfl, Nat.le_of_ble_eq_true rfl⟩)) (fun r1 er1 => ?_)
  subst er1
  refine xi_if_ne (tgt := 10) hx hb (by decide) dX6_drop_5 (by decide) (fun _ => ?_) (fun c0 => absurd c0 (by decide))
  refine lv_aload_n hx hb dX6_drop_10 rfl (lv_at hl 0 rfl) ?_
  refine xw_get hx hb hts hin6 hown hK hP (by decide) fo62 rfl 3 (by decide) hf20 rfl rfl dX6_drop_11 ?_
  refine lv_iload_n hx hb dX6_drop_14 rfl (lv_at hl 1 rfl) ?_
  refine lv_iconst (v := nI (0)) hx hb dX6_drop_15 (by decide) ?_
  refine xw_iast hx hb hK hP hD hS (by decide) 0 fa64 rfl (by omega) (by decide) dX6_drop_16 (fun g3 H locs eg3 hP hS => ?_)
  have fg3_0 : g3 (62) = .inr (6, [.int (nI (q)), .int (nI (Wt)), .ref (ad (63)), .ref (ad (64)), .ref (ad (65)), .ref (ad (66)), .int (nI (T)), .long (tp), .long (bt), .long (nu), .long (de), .int (sq), .ref (ad (67)), .ref (ad (68)), .ref (ad (69)), .ref (ad (70)), .ref (ad (71)), .ref (ad (72)), .ref (ad (73)), .ref (ad (74)), .ref (ad (75)), .ref (ad (76)), .ref (ad (77)), .ref (ad (78)), .ref (ad (79)), .ref (ad (80))]) := (congrFun eg3 (62)).trans ((va_up_ne _ _ (by decide)).trans fo62)
  have fg3_w : g3 (64) = .inl (cI, 8, .inl (upd (fsz) (k1) (nI (0)))) := (congrFun eg3 (64)).trans (va_up_self _ _ _)
  have hfrg3 : ∀ j : Nat, j ≠ 64 → g3 j = g j := fun j h0 => (congrFun eg3 j).trans ((va_up_ne _ _ h0).trans ((fun _ _ => rfl) j h0))
  refine lv_iconst (v := nI (1)) hx hb dX6_drop_17 (by decide) ?_
  exact W.zret (v := nI (1)) hx hb hr (by decide) (fun tZ ht hW => ⟨⟨_, g3, rfl, (by have e : slotW ln (nI k1) = some k1 := slotW_yes hk1 hp1; rw [e]; exact ⟨rfl, ⟨_, _, _, _, _, _, _, _, _, _, _, _, _, _, _, _, _, _, _, _, _, fg3_0, ((hfrg3) 63 (by decide)).trans fa63, fg3_w, ((hfrg3) 65 (by decide)).trans fa65, ((hfrg3) 66 (by decide)).trans fa66, ((hfrg3) 67 (by decide)).trans fa67, ((hfrg3) 68 (by decide)).trans fa68, ((hfrg3) 69 (by decide)).trans fa69, ((hfrg3) 70 (by decide)).trans fa70, ((hfrg3) 71 (by decide)).trans fa71, ((hfrg3) 72 (by decide)).trans fa72, ((hfrg3) 73 (by decide)).trans fa73, ((hfrg3) 74 (by decide)).trans fa74, ((hfrg3) 75 (by decide)).trans fa75, ((hfrg3) 76 (by decide)).trans fa76, ((hfrg3) 77 (by decide)).trans fa77, ((hfrg3) 78 (by decide)).trans fa78, ((hfrg3) 79 (by decide)).trans fa79, ((hfrg3) 80 (by decide)).trans fa80, hfw, upd_nI hsz, (fun k j hk hj => by by_cases e : k = k1; subst e; rw [va_up_self] at hj; omega; rw [va_up_ne _ _ e] at hj ⊢; exact hwl k j hk hj), htx⟩, fun j hj => (hfrg3) j (by omega)⟩), by rw [ht]; exact hP, va_K.moved hW.alike hK, va_Nw.warmM hW hN⟩, hS.F ht⟩) hS.2.2 dX6_drop_18

set_option maxHeartbeats 4000000 in
set_option maxRecDepth 100000 in
theorem mX6_drop_n (l : Launch) {D : va_G} {cI cJ cZ cW : ClassId} {ad : Nat → Nat} {A : Nat → Prop} (hD : ∀ g, va_D A (xw 81 ad g)) {g : Nat → va_E} {q Wt : Nat} {w : Nat → Nat} {ln : Nat → Nat} {u : Nat → Nat → Nat} {T : Nat} {t : Nat → Nat} {tp bt : Int64} {xa : Int32}  (hM : ModI cI cJ ad g q Wt w ln u T t tp bt) (hs : SrcI q Wt w ln u T t) (hxa : noW ln xa) : Met l yX6_drop wsX6_drop ({ frames := 2, cells := 0, slots := 0, locals := 42 }) (va_Pc [.ref (ad (62)), .int (xa)] (xB D (xT cI cJ cZ cW) ad g)) (va_Qi (fun r g2 => match slotW ln (xa) with | some k => r = nI 1 ∧ ModI cI cJ ad g2 q Wt w (va_up ln k 0) (va_up u k (u k)) T t tp bt ∧ ∀ j : Nat, j < 62 → g2 j = g j | none => r = nI 0 ∧ ModI cI cJ ad g2 q Wt w ln u T t tp bt ∧ ∀ j : Nat, j < 62 → g2 j = g j) (xB D (xT cI cJ cZ cW) ad) A) 0 0 A := by
  refine Met.ofW (cc := cX6_drop) (maxL := 2) (ret := (some .boolean)) (by decide) rfl ?_
  intro p e s m args below meth c s₁ B hml hv
  obtain ⟨rfl, hP, hK, hN⟩ := hv
  have hx := B.exec
  have hb := B.bytes
  have hr := B.returns
  have hts := atoms_spec (ws := wsX6_drop) B.pre
  have hown : s.vm.findClass RX6 = some m.cls := findClass_of_methodNamed B.named
  have hlocks := B.notSynchronized
  have hS : va_S A s.heap s.heap [] := va_S.rf
  have hl := lv_entry ([.ref (ad (62)), .int (xa)]) (n := 2) (Nat.le_of_ble_eq_true rfl)
  rw [lg_entry_eq]
  generalize (lg_sl ([.ref (ad (62)), .int (xa)]) ++ List.replicate (2 - (lg_sl ([.ref (ad (62)), .int (xa)])).length) Slot.unset).toArray = ls at hl ⊢
  have hl : lv_has ls 2 [(0, .ref (ad (62))), (1, .int (xa))] := hl
  obtain ⟨hq2, hq4, hw1, hw0, hWs, hWt, hw, hln, hul, hT, ht⟩ := hs
  obtain ⟨sq, nu, de, fw, fsz, fwd, ftx, fos, foz, fgo, frw, fan, fad, frn, frd, fen, fed, fcn, fcd, fnw, fth, fo62, fa63, fa64, fa65, fa66, fa67, fa68, fa69, fa70, fa71, fa72, fa73, fa74, fa75, fa76, fa77, fa78, fa79, fa80, hfw, hsz, hwl, htx⟩ := id hM
  refine lv_aload_n hx hb dX6_drop_0 rfl (lv_at hl 0 rfl) ?_
  refine lv_iload_n hx hb dX6_drop_1 rfl (lv_at hl 1 rfl) ?_
  refine vp_callSi (va_Run.run (va_runV (As := [.int (xa)]) (rest := []) ⟨hx, hb, hml, hown, hts⟩ (mX6_isWord_no l (w := w) (ln := ln) (t := t) (u := u) fo62 fa64 hsz hxa) (cwV 1 hts gX6_drop_X6_isWord rfl rfl rfl (by decide +kernel) ⟨Nat.le_of_ble_eq_true rfl, Nat.le_of_ble_eq_true rfl⟩) ⟨xB_blind, va_recv hK hP (ci := 6) rfl (xw_is (by decide) fo62), fun U hU hW => ⟨rfl, by rw [hU]; exact hP, va_K.moved hW.alike hK, va_Nw.warmM hW hN⟩⟩ rfl rfl hl.1 rfl (lv_room (Nat.le_of_ble_eq_true rfl)) dX6_drop_2 ⟨Nat.le_of_ble_eq_true rfl, Nat.le_of_ble_eq_true rfl⟩)) (fun r1 er1 => ?_)
  subst er1
  refine xi_if_ne (tgt := 10) hx hb (by decide) dX6_drop_5 (by decide) (fun c0 => absurd c0 (by decide)) (fun _ => ?_)
  refine lv_iconst (v := nI (0)) hx hb dX6_drop_8 (by decide) ?_
  exact W.zret (v := nI (0)) hx hb hr (by decide) (fun tZ ht hW => ⟨⟨_, g, rfl, (by rw [slotW_no hxa]; exact ⟨rfl, hM, fun _ _ => rfl⟩), by rw [ht]; exact hP, va_K.moved hW.alike hK, va_Nw.warmM hW hN⟩, hS.F ht⟩) hS.2.2 dX6_drop_9

theorem mX6_drop (l : Launch) {D : va_G} {cI cJ cZ cW : ClassId} {ad : Nat → Nat} {A : Nat → Prop} (hD : ∀ g, va_D A (xw 81 ad g)) {g : Nat → va_E} {q Wt : Nat} {w : Nat → Nat} {ln : Nat → Nat} {u : Nat → Nat → Nat} {T : Nat} {t : Nat → Nat} {tp bt : Int64} (hM : ModI cI cJ ad g q Wt w ln u T t tp bt) (hs : SrcI q Wt w ln u T t) (xa : Int32) : Met l yX6_drop wsX6_drop ({ frames := 2, cells := 0, slots := 0, locals := 42 }) (va_Pc [.ref (ad (62)), .int xa] (xB D (xT cI cJ cZ cW) ad g)) (va_Qi (fun r g2 => match slotW ln (xa) with | some k => r = nI 1 ∧ ModI cI cJ ad g2 q Wt w (va_up ln k 0) (va_up u k (u k)) T t tp bt ∧ ∀ j : Nat, j < 62 → g2 j = g j | none => r = nI 0 ∧ ModI cI cJ ad g2 q Wt w ln u T t tp bt ∧ ∀ j : Nat, j < 62 → g2 j = g j) (xB D (xT cI cJ cZ cW) ad) A) 0 0 A := by
  rcases slotW_cases ln xa with hxa | ⟨k1, hk1, rfl, hp1⟩
  · exact mX6_drop_n l hD hM hs hxa
  · exact mX6_drop_s l hD hM hs hk1 hp1

set_option maxHeartbeats 4000000 in
set_option maxRecDepth 100000 in
theorem mX6_add_in (l : Launch) {D : va_G} {cI cJ cZ cW : ClassId} {ad : Nat → Nat} {A : Nat → Prop} (hD : ∀ g, va_D A (xw 81 ad g)) {g : Nat → va_E} {q Wt : Nat} {w : Nat → Nat} {ln : Nat → Nat} {u : Nat → Nat → Nat} {T : Nat} {t : Nat → Nat} {tp bt : Int64} {j : Nat}  (hM : ModI cI cJ ad g q Wt w ln u T t tp bt) (hs : SrcI q Wt w ln u T t) (hj : j < q) (hT3 : T < 300) : Met l yX6_add_ wsX6_add_ ({ frames := 1, cells := 0, slots := 0, locals := 21 }) (va_Pc [.ref (ad (62)), .int (nI (j))] (xB D (xT cI cJ cZ cW) ad g)) (va_Qi (fun r g2 => r = nI (T + 1) ∧ ModI cI cJ ad g2 q Wt w ln u (T + 1) (va_up t T j) tp bt ∧ ∀ j : Nat, j < 62 → g2 j = g j) (xB D (xT cI cJ cZ cW) ad) A) 0 0 A := by
  refine Met.ofW (cc := cX6_add_) (maxL := 2) (ret := (some .int)) (by decide) rfl ?_
  intro p e s m args below meth c s₁ B hml hv
  obtain ⟨rfl, hP, hK, hN⟩ := hv
  have hx := B.exec
  have hb := B.bytes
  have hr := B.returns
  have hts := atoms_spec (ws := wsX6_add_) B.pre
  have hown : s.vm.findClass RX6 = some m.cls := findClass_of_methodNamed B.named
  have hlocks := B.notSynchronized
  have hS : va_S A s.heap s.heap [] := va_S.rf
  have hin6 : ∀ w ∈ wsX60, w ∈ wsX6_add_ := by decide +kernel
  have hf7 := hts (.fieldLink RX6 7 "LettersByLotModel" "q" "I") (by decide +kernel)
  have hf26 := hts (.fieldLink RX6 26 "LettersByLotModel" "text" "[I") (by decide +kernel)
  have hf76 := hts (.fieldLink RX6 76 "LettersByLotModel" "written" "I") (by decide +kernel)
  have hl := lv_entry ([.ref (ad (62)), .int (nI (j))]) (n := 2) (Nat.le_of_ble_eq_true rfl)
  rw [lg_entry_eq]
  generalize (lg_sl ([.ref (ad (62)), .int (nI (j))]) ++ List.replicate (2 - (lg_sl ([.ref (ad (62)), .int (nI (j))])).length) Slot.unset).toArray = ls at hl ⊢
  have hl : lv_has ls 2 [(0, .ref (ad (62))), (1, .int (nI (j)))] := hl
  obtain ⟨hq2, hq4, hw1, hw0, hWs, hWt, hw, hln, hul, hT, ht⟩ := hs
  obtain ⟨sq, nu, de, fw, fsz, fwd, ftx, fos, foz, fgo, frw, fan, fad, frn, frd, fen, fed, fcn, fcd, fnw, fth, fo62, fa63, fa64, fa65, fa66, fa67, fa68, fa69, fa70, fa71, fa72, fa73, fa74, fa75, fa76, fa77, fa78, fa79, fa80, hfw, hsz, hwl, htx⟩ := id hM
  refine lv_iload_n hx hb dX6_add__0 rfl (lv_at hl 1 rfl) ?_
  refine lv_aload_n hx hb dX6_add__1 rfl (lv_at hl 0 rfl) ?_
  refine xw_get hx hb hts hin6 hown hK hP (by decide) fo62 rfl 0 (by decide) hf7 rfl rfl dX6_add__2 ?_
  refine vp_callSi (va_Run.run (va_runS (As := [.int (nI (j)), .int (nI (q))]) (rest := []) ⟨hx, hb, hml, hown, hts⟩ (mX6_isIn_in l (by omega) (by omega)) (va_cwS 2 hts gX6_add__X6_isIn rfl rfl rfl (by decide +kernel) ⟨Nat.le_of_ble_eq_true rfl, Nat.le_of_ble_eq_true rfl⟩) ⟨xB_blind, fun U hU hW => ⟨rfl, by rw [hU]; exact hP, va_K.moved hW.alike hK, va_Nw.warmM hW hN⟩⟩ rfl rfl hl.1 rfl (lv_room (Nat.le_of_ble_eq_true rfl)) dX6_add__5 ⟨Nat.le_of_ble_eq_true rfl, Nat.le_of_ble_eq_true rfl⟩)) (fun r1 er1 => ?_)
  subst er1
  refine xi_if_eq (tgt := 21) hx hb (by decide) dX6_add__8 (by decide) (fun c0 => absurd c0 (by decide)) (fun _ => ?_)
  refine lv_aload_n hx hb dX6_add__11 rfl (lv_at hl 0 rfl) ?_
  refine xw_get hx hb hts hin6 hown hK hP (by decide) fo62 rfl 6 (by decide) hf76 rfl rfl dX6_add__12 ?_
  refine lv_sipush (v := nI (300)) hx hb dX6_add__15 (by decide) ?_
  refine xi_icmp_ne (tgt := 23) hx hb (by omega) (by decide) dX6_add__18 (by decide) (fun c18_3 => ?_) (fun c18_3 => ?_)
  · refine lv_aload_n hx hb dX6_add__23 rfl (lv_at hl 0 rfl) ?_
    refine xw_get hx hb hts hin6 hown hK hP (by decide) fo62 rfl 5 (by decide) hf26 rfl rfl dX6_add__24 ?_
    refine lv_aload_n hx hb dX6_add__27 rfl (lv_at hl 0 rfl) ?_
    refine xw_get hx hb hts hin6 hown hK hP (by decide) fo62 rfl 6 (by decide) hf76 rfl rfl dX6_add__28 ?_
    refine lv_iload_n hx hb dX6_add__31 rfl (lv_at hl 1 rfl) ?_
    refine xw_iast hx hb hK hP hD hS (by decide) 0 fa66 rfl (by omega) (by decide) dX6_add__32 (fun g4 H locs eg4 hP hS => ?_)
    have fg4_0 : g4 (62) = .inr (6, [.int (nI (q)), .int (nI (Wt)), .ref (ad (63)), .ref (ad (64)), .ref (ad (65)), .ref (ad (66)), .int (nI (T)), .long (tp), .long (bt), .long (nu), .long (de), .int (sq), .ref (ad (67)), .ref (ad (68)), .ref (ad (69)), .ref (ad (70)), .ref (ad (71)), .ref (ad (72)), .ref (ad (73)), .ref (ad (74)), .ref (ad (75)), .ref (ad (76)), .ref (ad (77)), .ref (ad (78)), .ref (ad (79)), .ref (ad (80))]) := (congrFun eg4 (62)).trans ((va_up_ne _ _ (by decide)).trans fo62)
    have fg4_w : g4 (66) = .inl (cI, 300, .inl (upd (ftx) (T) (nI (j)))) := (congrFun eg4 (66)).trans (va_up_self _ _ _)
    have hfrg4 : ∀ j : Nat, j ≠ 62 → j ≠ 66 → g4 j = g j := fun j h0 h1 => (congrFun eg4 j).trans ((va_up_ne _ _ h1).trans ((fun _ _ _ => rfl) j h0 h1))
    refine lv_aload_n hx hb dX6_add__33 rfl (lv_at hl 0 rfl) ?_
    refine lv_dup hx hb dX6_add__34 rfl ?_
    refine xw_get hx hb hts hin6 hown hK hP (by decide) fg4_0 rfl 6 (by decide) hf76 rfl rfl dX6_add__35 ?_
    refine lv_iconst (v := nI (1)) hx hb dX6_add__38 (by decide) ?_
    refine xi_add hx hb dX6_add__39 ?_
    refine xw_put hx hb hts hin6 tyX6 tyX6_ok nmX6 hown hK hP hD hS (by decide) fg4_0 rfl 6 (by decide) hf76 rfl rfl (ty := .int) (by decide +kernel) rfl rfl (Nat.le_of_ble_eq_true rfl) (fs' := [.int (nI (q)), .int (nI (Wt)), .ref (ad (63)), .ref (ad (64)), .ref (ad (65)), .ref (ad (66)), .int (nI (T + 1)), .long (tp), .long (bt), .long (nu), .long (de), .int (sq), .ref (ad (67)), .ref (ad (68)), .ref (ad (69)), .ref (ad (70)), .ref (ad (71)), .ref (ad (72)), .ref (ad (73)), .ref (ad (74)), .ref (ad (75)), .ref (ad (76)), .ref (ad (77)), .ref (ad (78)), .ref (ad (79)), .ref (ad (80))]) rfl dX6_add__40 (fun g5 H locs eg5 hP hS => ?_)
    have fg5_0 : g5 (66) = .inl (cI, 300, .inl (upd (ftx) (T) (nI (j)))) := (congrFun eg5 (66)).trans ((va_up_ne _ _ (by decide)).trans fg4_w)
    have fg5_w : g5 (62) = .inr (6, [.int (nI (q)), .int (nI (Wt)), .ref (ad (63)), .ref (ad (64)), .ref (ad (65)), .ref (ad (66)), .int (nI (T + 1)), .long (tp), .long (bt), .long (nu), .long (de), .int (sq), .ref (ad (67)), .ref (ad (68)), .ref (ad (69)), .ref (ad (70)), .ref (ad (71)), .ref (ad (72)), .ref (ad (73)), .ref (ad (74)), .ref (ad (75)), .ref (ad (76)), .ref (ad (77)), .ref (ad (78)), .ref (ad (79)), .ref (ad (80))]) := (congrFun eg5 (62)).trans (va_up_self _ _ _)
    have hfrg5 : ∀ j : Nat, j ≠ 62 → j ≠ 66 → g5 j = g j := fun j h0 h1 => (congrFun eg5 j).trans ((va_up_ne _ _ h0).trans (hfrg4 j h0 h1))
    refine lv_aload_n hx hb dX6_add__43 rfl (lv_at hl 0 rfl) ?_
    refine xw_get hx hb hts hin6 hown hK hP (by decide) fg5_w rfl 6 (by decide) hf76 rfl rfl dX6_add__44 ?_
    exact W.iret (v := nI (T + 1)) hx hb hr (fun tZ ht hW => ⟨⟨_, g5, rfl, ⟨rfl, ⟨_, _, _, _, _, _, _, _, _, _, _, _, _, _, _, _, _, _, _, _, _, fg5_w, ((hfrg5) 63 (by decide) (by decide)).trans fa63, ((hfrg5) 64 (by decide) (by decide)).trans fa64, ((hfrg5) 65 (by decide) (by decide)).trans fa65, fg5_0, ((hfrg5) 67 (by decide) (by decide)).trans fa67, ((hfrg5) 68 (by decide) (by decide)).trans fa68, ((hfrg5) 69 (by decide) (by decide)).trans fa69, ((hfrg5) 70 (by decide) (by decide)).trans fa70, ((hfrg5) 71 (by decide) (by decide)).trans fa71, ((hfrg5) 72 (by decide) (by decide)).trans fa72, ((hfrg5) 73 (by decide) (by decide)).trans fa73, ((hfrg5) 74 (by decide) (by decide)).trans fa74, ((hfrg5) 75 (by decide) (by decide)).trans fa75, ((hfrg5) 76 (by decide) (by decide)).trans fa76, ((hfrg5) 77 (by decide) (by decide)).trans fa77, ((hfrg5) 78 (by decide) (by decide)).trans fa78, ((hfrg5) 79 (by decide) (by decide)).trans fa79, ((hfrg5) 80 (by decide) (by decide)).trans fa80, hfw, hsz, hwl, (fun i hi => by by_cases e : i = T; subst e; rw [pk_us, va_up_self]; rw [pk_un e, va_up_ne _ _ e]; exact htx i (by omega))⟩, fun j hj => (hfrg5) j (by omega) (by omega)⟩, by rw [ht]; exact hP, va_K.moved hW.alike hK, va_Nw.warmM hW hN⟩, hS.F ht⟩) hS.2.2 dX6_add__47
  · exact absurd c18_3 (by omega)

set_option maxHeartbeats 4000000 in
set_option maxRecDepth 100000 in
theorem mX6_add_full (l : Launch) {D : va_G} {cI cJ cZ cW : ClassId} {ad : Nat → Nat} {A : Nat → Prop} (hD : ∀ g, va_D A (xw 81 ad g)) {g : Nat → va_E} {q Wt : Nat} {w : Nat → Nat} {ln : Nat → Nat} {u : Nat → Nat → Nat} {T : Nat} {t : Nat → Nat} {tp bt : Int64} {j : Nat}  (hM : ModI cI cJ ad g q Wt w ln u T t tp bt) (hs : SrcI q Wt w ln u T t) (hj : j < q) (hT3 : T = 300) : Met l yX6_add_ wsX6_add_ ({ frames := 1, cells := 0, slots := 0, locals := 21 }) (va_Pc [.ref (ad (62)), .int (nI (j))] (xB D (xT cI cJ cZ cW) ad g)) (va_Qi (fun r g2 => r = -1 ∧ ModI cI cJ ad g2 q Wt w ln u T t tp bt ∧ ∀ j : Nat, j < 62 → g2 j = g j) (xB D (xT cI cJ cZ cW) ad) A) 0 0 A := by
  refine Met.ofW (cc := cX6_add_) (maxL := 2) (ret := (some .int)) (by decide) rfl ?_
  intro p e s m args below meth c s₁ B hml hv
  obtain ⟨rfl, hP, hK, hN⟩ := hv
  have hx := B.exec
  have hb := B.bytes
  have hr := B.returns
  have hts := atoms_spec (ws := wsX6_add_) B.pre
  have hown : s.vm.findClass RX6 = some m.cls := findClass_of_methodNamed B.named
  have hlocks := B.notSynchronized
  have hS : va_S A s.heap s.heap [] := va_S.rf
  have hin6 : ∀ w ∈ wsX60, w ∈ wsX6_add_ := by decide +kernel
  have hf7 := hts (.fieldLink RX6 7 "LettersByLotModel" "q" "I") (by decide +kernel)
  have hf76 := hts (.fieldLink RX6 76 "LettersByLotModel" "written" "I") (by decide +kernel)
  have hl := lv_entry ([.ref (ad (62)), .int (nI (j))]) (n := 2) (Nat.le_of_ble_eq_true rfl)
  rw [lg_entry_eq]
  generalize (lg_sl ([.ref (ad (62)), .int (nI (j))]) ++ List.replicate (2 - (lg_sl ([.ref (ad (62)), .int (nI (j))])).length) Slot.unset).toArray = ls at hl ⊢
  have hl : lv_has ls 2 [(0, .ref (ad (62))), (1, .int (nI (j)))] := hl
  obtain ⟨hq2, hq4, hw1, hw0, hWs, hWt, hw, hln, hul, hT, ht⟩ := hs
  obtain ⟨sq, nu, de, fw, fsz, fwd, ftx, fos, foz, fgo, frw, fan, fad, frn, frd, fen, fed, fcn, fcd, fnw, fth, fo62, fa63, fa64, fa65, fa66, fa67, fa68, fa69, fa70, fa71, fa72, fa73, fa74, fa75, fa76, fa77, fa78, fa79, fa80, hfw, hsz, hwl, htx⟩ := id hM
  refine lv_iload_n hx hb dX6_add__0 rfl (lv_at hl 1 rfl) ?_
  refine lv_aload_n hx hb dX6_add__1 rfl (lv_at hl 0 rfl) ?_
  refine xw_get hx hb hts hin6 hown hK hP (by decide) fo62 rfl 0 (by decide) hf7 rfl rfl dX6_add__2 ?_
  refine vp_callSi (va_Run.run (va_runS (As := [.int (nI (j)), .int (nI (q))]) (rest := []) ⟨hx, hb, hml, hown, hts⟩ (mX6_isIn_in l (by omega) (by omega)) (va_cwS 2 hts gX6_add__X6_isIn rfl rfl rfl (by decide +kernel) ⟨Nat.le_of_ble_eq_true rfl, Nat.le_of_ble_eq_true rfl⟩) ⟨xB_blind, fun U hU hW => ⟨rfl, by rw [hU]; exact hP, va_K.moved hW.alike hK, va_Nw.warmM hW hN⟩⟩ rfl rfl hl.1 rfl (lv_room (Nat.le_of_ble_eq_true rfl)) dX6_add__5 ⟨Nat.le_of_ble_eq_true rfl, Nat.le_of_ble_eq_true rfl⟩)) (fun r1 er1 => ?_)
  subst er1
  refine xi_if_eq (tgt := 21) hx hb (by decide) dX6_add__8 (by decide) (fun c0 => absurd c0 (by decide)) (fun _ => ?_)
  refine lv_aload_n hx hb dX6_add__11 rfl (lv_at hl 0 rfl) ?_
  refine xw_get hx hb hts hin6 hown hK hP (by decide) fo62 rfl 6 (by decide) hf76 rfl rfl dX6_add__12 ?_
  refine lv_sipush (v := nI (300)) hx hb dX6_add__15 (by decide) ?_
  refine xi_icmp_ne (tgt := 23) hx hb (by omega) (by decide) dX6_add__18 (by decide) (fun c18_3 => ?_) (fun c18_3 => ?_)
  · exact absurd hT3 c18_3
  · refine lv_iconst (v := (-1)) hx hb dX6_add__21 (by decide) ?_
    exact W.iret (v := (-1)) hx hb hr (fun tZ ht hW => ⟨⟨_, g, rfl, ⟨rfl, hM, fun _ _ => rfl⟩, by rw [ht]; exact hP, va_K.moved hW.alike hK, va_Nw.warmM hW hN⟩, hS.F ht⟩) hS.2.2 dX6_add__22

set_option maxHeartbeats 4000000 in
set_option maxRecDepth 100000 in
theorem mX6_add_bad (l : Launch) {D : va_G} {cI cJ cZ cW : ClassId} {ad : Nat → Nat} {A : Nat → Prop} (hD : ∀ g, va_D A (xw 81 ad g)) {g : Nat → va_E} {q Wt : Nat} {w : Nat → Nat} {ln : Nat → Nat} {u : Nat → Nat → Nat} {T : Nat} {t : Nat → Nat} {tp bt : Int64} {x0 : Int32}  (hM : ModI cI cJ ad g q Wt w ln u T t tp bt) (hs : SrcI q Wt w ln u T t) (hx0 : x0 < 0 ∨ nI q ≤ x0) : Met l yX6_add_ wsX6_add_ ({ frames := 1, cells := 0, slots := 0, locals := 21 }) (va_Pc [.ref (ad (62)), .int (x0)] (xB D (xT cI cJ cZ cW) ad g)) (va_Qi (fun r g2 => r = -1 ∧ ModI cI cJ ad g2 q Wt w ln u T t tp bt ∧ ∀ j : Nat, j < 62 → g2 j = g j) (xB D (xT cI cJ cZ cW) ad) A) 0 0 A := by
  refine Met.ofW (cc := cX6_add_) (maxL := 2) (ret := (some .int)) (by decide) rfl ?_
  intro p e s m args below meth c s₁ B hml hv
  obtain ⟨rfl, hP, hK, hN⟩ := hv
  have hx := B.exec
  have hb := B.bytes
  have hr := B.returns
  have hts := atoms_spec (ws := wsX6_add_) B.pre
  have hown : s.vm.findClass RX6 = some m.cls := findClass_of_methodNamed B.named
  have hlocks := B.notSynchronized
  have hS : va_S A s.heap s.heap [] := va_S.rf
  have hin6 : ∀ w ∈ wsX60, w ∈ wsX6_add_ := by decide +kernel
  have hf7 := hts (.fieldLink RX6 7 "LettersByLotModel" "q" "I") (by decide +kernel)
  have hl := lv_entry ([.ref (ad (62)), .int (x0)]) (n := 2) (Nat.le_of_ble_eq_true rfl)
  rw [lg_entry_eq]
  generalize (lg_sl ([.ref (ad (62)), .int (x0)]) ++ List.replicate (2 - (lg_sl ([.ref (ad (62)), .int (x0)])).length) Slot.unset).toArray = ls at hl ⊢
  have hl : lv_has ls 2 [(0, .ref (ad (62))), (1, .int (x0))] := hl
  obtain ⟨hq2, hq4, hw1, hw0, hWs, hWt, hw, hln, hul, hT, ht⟩ := hs
  obtain ⟨sq, nu, de, fw, fsz, fwd, ftx, fos, foz, fgo, frw, fan, fad, frn, frd, fen, fed, fcn, fcd, fnw, fth, fo62, fa63, fa64, fa65, fa66, fa67, fa68, fa69, fa70, fa71, fa72, fa73, fa74, fa75, fa76, fa77, fa78, fa79, fa80, hfw, hsz, hwl, htx⟩ := id hM
  refine lv_iload_n hx hb dX6_add__0 rfl (lv_at hl 1 rfl) ?_
  refine lv_aload_n hx hb dX6_add__1 rfl (lv_at hl 0 rfl) ?_
  refine xw_get hx hb hts hin6 hown hK hP (by decide) fo62 rfl 0 (by decide) hf7 rfl rfl dX6_add__2 ?_
  refine vp_callSi (va_Run.run (va_runS (As := [.int (x0), .int (nI (q))]) (rest := []) ⟨hx, hb, hml, hown, hts⟩ (mX6_isIn_out l hx0) (va_cwS 2 hts gX6_add__X6_isIn rfl rfl rfl (by decide +kernel) ⟨Nat.le_of_ble_eq_true rfl, Nat.le_of_ble_eq_true rfl⟩) ⟨xB_blind, fun U hU hW => ⟨rfl, by rw [hU]; exact hP, va_K.moved hW.alike hK, va_Nw.warmM hW hN⟩⟩ rfl rfl hl.1 rfl (lv_room (Nat.le_of_ble_eq_true rfl)) dX6_add__5 ⟨Nat.le_of_ble_eq_true rfl, Nat.le_of_ble_eq_true rfl⟩)) (fun r1 er1 => ?_)
  subst er1
  refine xi_if_eq (tgt := 21) hx hb (by decide) dX6_add__8 (by decide) (fun _ => ?_) (fun c0 => absurd c0 (by decide))
  refine lv_iconst (v := (-1)) hx hb dX6_add__21 (by decide) ?_
  exact W.iret (v := (-1)) hx hb hr (fun tZ ht hW => ⟨⟨_, g, rfl, ⟨rfl, hM, fun _ _ => rfl⟩, by rw [ht]; exact hP, va_K.moved hW.alike hK, va_Nw.warmM hW hN⟩, hS.F ht⟩) hS.2.2 dX6_add__22
