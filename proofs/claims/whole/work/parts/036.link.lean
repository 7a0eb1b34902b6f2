set_option maxHeartbeats 4000000 in
set_option maxRecDepth 100000 in
/-- Machine.link -/
theorem mX1_link (l : Launch) {D : va_G} {cI cJ cZ cW : ClassId} {ad : Nat → Nat} {A : Nat → Prop} (hD : ∀ g, va_D A (xw 81 ad g)) {g : Nat → va_E} {q Wt S na nb : Nat} {x0 : LkS} {f9 f10 f11 f12 : Nat → Int32}  (fo8 : g (8) = .inr (1, [.ref (ad (9)), .ref (ad (10)), .ref (ad (11)), .ref (ad (12)), .ref (ad (na)), .ref (ad (nb)), .int (nI (S))])) (fo_1 : g (1) = .inr (0, [.ref (ad (2)), .int (nI (q)), .int (nI (Wt))])) (fa9 : g (9) = .inl (cI, 164, .inl (f9))) (fa10 : g (10) = .inl (cI, 41, .inl (f10))) (fa11 : g (11) = .inl (cI, 41, .inl (f11))) (fa12 : g (12) = .inl (cZ, 41, .inl (f12))) (hq4 : q ≤ 4) (hxB : lkB x0) (hx1 : x0.2.2.2.2 = 1) (hx11 : x0.2.2.1 0 = 0) (h9 : ∀ j, j < 164 → f9 j = nI (x0.1 j)) (h10 : ∀ j, j < 41 → f10 j = nI (x0.2.1 j)) (h11 : ∀ j, 1 ≤ j → j < 41 → f11 j = nI (x0.2.2.1 j)) (h12 : ∀ j, j < 41 → f12 j = nI (x0.2.2.2.1 j)) : Met l yX1_link wsX1_link ({ frames := 0, cells := 0, slots := 0, locals := 0 }) (va_Pc [.ref (ad (8)), .ref (ad (1))] (xB D (xT cI cJ cZ cW) ad g)) (va_Qv (fun g2 => ∃ i : Nat, i ≤ 41 ∧ (∀ x, x < i → x < (lkO q x0 x).2.2.2.2) ∧ ((lkO q x0 i).2.2.2.2 ≤ i ∨ i = 41) ∧ ∃ g9 g10 g11 g12 : Nat → Int32, (∀ j, j < 164 → g9 j = nI ((lkO q x0 i).1 j)) ∧ (∀ j, j < 41 → g10 j = nI ((lkO q x0 i).2.1 j)) ∧ (∀ j, j < 41 → g11 j = nI ((lkO q x0 i).2.2.1 j)) ∧ (∀ j, j < 41 → g12 j = nI ((lkO q x0 i).2.2.2.1 j)) ∧ g2 9 = .inl (cI, 164, .inl (g9)) ∧ g2 10 = .inl (cI, 41, .inl (g10)) ∧ g2 11 = .inl (cI, 41, .inl (g11)) ∧ g2 12 = .inl (cZ, 41, .inl (g12)) ∧ ∀ j : Nat, j ≠ 9 → j ≠ 10 → j ≠ 11 → j ≠ 12 → g2 j = g j) (xB D (xT cI cJ cZ cW) ad) A) 0 0 A := by
  refine Met.ofW (cc := cX1_link) (maxL := 9) (ret := none) (by decide) rfl ?_
  intro p e s m args below meth c s₁ B hml hv
  obtain ⟨rfl, hP, hK, hN⟩ := hv
  have hx := B.exec
  have hb := B.bytes
  have hr := B.returns
  have hts := atoms_spec (ws := wsX1_link) B.pre
  have hown : s.vm.findClass RX1 = some m.cls := findClass_of_methodNamed B.named
  have hlocks := B.notSynchronized
  have hS : va_S A s.heap s.heap [] := va_S.rf
  have hin0 : ∀ w ∈ wsX00, w ∈ wsX1_link := by decide +kernel
  have hin1 : ∀ w ∈ wsX10, w ∈ wsX1_link := by decide +kernel
  have hf11 := hts (.fieldLink RX1 11 "LettersByLot$Machine" "next" "[I") (by decide +kernel)
  have hf15 := hts (.fieldLink RX1 15 "LettersByLot$Machine" "shorter" "[I") (by decide +kernel)
  have hf18 := hts (.fieldLink RX1 18 "LettersByLot$Machine" "order" "[I") (by decide +kernel)
  have hf21 := hts (.fieldLink RX1 21 "LettersByLot$Machine" "hit" "[Z") (by decide +kernel)
  have hf50 := hts (.fieldLink RX1 50 "LettersByLot$Lot" "letters" "I") (by decide +kernel)
  have hl := lv_entry ([.ref (ad (8)), .ref (ad (1))]) (n := 9) (Nat.le_of_ble_eq_true rfl)
  rw [lg_entry_eq]
  generalize (lg_sl ([.ref (ad (8)), .ref (ad (1))]) ++ List.replicate (9 - (lg_sl ([.ref (ad (8)), .ref (ad (1))])).length) Slot.unset).toArray = ls at hl ⊢
  have hl : lv_has ls 9 [(0, .ref (ad (8))), (1, .ref (ad (1)))] := hl
  refine lv_iconst (v := nI (1)) hx hb dX1_link_0 (by decide) ?_
  refine lv_istore_n (lv' := [(2, .int (nI (1))), (0, .ref (ad (8))), (1, .ref (ad (1)))]) hx hb dX1_link_1 rfl hl (by decide) rfl (fun ls hl => ?_)
  refine lv_aload_n hx hb dX1_link_2 rfl (lv_at hl 1 rfl) ?_
  refine xw_get hx hb hts hin1 hown hK hP (by decide) fo8 rfl 2 (by decide) hf18 rfl rfl dX1_link_3 ?_
  refine lv_iconst (v := nI (0)) hx hb dX1_link_6 (by decide) ?_
  refine lv_iconst (v := nI (0)) hx hb dX1_link_7 (by decide) ?_
  refine xw_iast hx hb hK hP hD hS (by decide) 0 fa11 rfl (by omega) (by decide) dX1_link_8 (fun g1 H locs eg1 hP hS => ?_)
  have fg1_0 : g1 (8) = .inr (1, [.ref (ad (9)), .ref (ad (10)), .ref (ad (11)), .ref (ad (12)), .ref (ad (na)), .ref (ad (nb)), .int (nI (S))]) := (congrFun eg1 (8)).trans ((va_up_ne _ _ (by decide)).trans fo8)
  have fg1_1 : g1 (1) = .inr (0, [.ref (ad (2)), .int (nI (q)), .int (nI (Wt))]) := (congrFun eg1 (1)).trans ((va_up_ne _ _ (by decide)).trans fo_1)
  have fg1_2 : g1 (9) = .inl (cI, 164, .inl (f9)) := (congrFun eg1 (9)).trans ((va_up_ne _ _ (by decide)).trans fa9)
  have fg1_3 : g1 (10) = .inl (cI, 41, .inl (f10)) := (congrFun eg1 (10)).trans ((va_up_ne _ _ (by decide)).trans fa10)
  have fg1_4 : g1 (12) = .inl (cZ, 41, .inl (f12)) := (congrFun eg1 (12)).trans ((va_up_ne _ _ (by decide)).trans fa12)
  have fg1_w : g1 (11) = .inl (cI, 41, .inl (upd (f11) (0) (nI (0)))) := (congrFun eg1 (11)).trans (va_up_self _ _ _)
  have hfrg1 : ∀ j : Nat, j ≠ 9 → j ≠ 10 → j ≠ 11 → j ≠ 12 → g1 j = g j := fun j h0 h1 h2 h3 => (congrFun eg1 j).trans ((va_up_ne _ _ h2).trans ((fun _ _ _ _ _ => rfl) j h0 h1 h2 h3))
  have h11z : ∀ j, j < 41 → upd (f11) (0) (nI (0)) j = nI (x0.2.2.1 j) := fun j hj => by by_cases e : j = 0; subst e; rw [pk_us, hx11]; rw [pk_un e]; exact h11 j (by omega) hj
  refine lv_iconst (v := nI (0)) hx hb dX1_link_9 (by decide) ?_
  refine lv_istore_n (lv' := [(3, .int (nI (0))), (2, .int (nI (1))), (0, .ref (ad (8))), (1, .ref (ad (1)))]) hx hb dX1_link_10 rfl hl (by decide) rfl (fun ls hl => ?_)
  refine xloopW (G := fun H locs fr => W p l e _ s m _ below meth c H locs _ _ _ fr) (σ := Nat × (Nat → Int32) × (Nat → Int32) × (Nat → Int32) × (Nat → Int32)) (fun (i, g9o, g10o, g11o, g12o) ls => F0 m 11 ls []) (fun (i, g9o, g10o, g11o, g12o) gl11_2 H locs ls => (i ≤ 41) ∧ (∀ x, x < i → x < (lkO q x0 x).2.2.2.2) ∧ (∀ j, j < 164 → g9o j = nI ((lkO q x0 i).1 j)) ∧ (∀ j, j < 41 → g10o j = nI ((lkO q x0 i).2.1 j)) ∧ (∀ j, j < 41 → g11o j = nI ((lkO q x0 i).2.2.1 j)) ∧ (∀ j, j < 41 → g12o j = nI ((lkO q x0 i).2.2.2.1 j)) ∧ gl11_2 (8) = .inr (1, [.ref (ad (9)), .ref (ad (10)), .ref (ad (11)), .ref (ad (12)), .ref (ad (na)), .ref (ad (nb)), .int (nI (S))]) ∧ gl11_2 (1) = .inr (0, [.ref (ad (2)), .int (nI (q)), .int (nI (Wt))]) ∧ gl11_2 (9) = .inl (cI, 164, .inl (g9o)) ∧ gl11_2 (10) = .inl (cI, 41, .inl (g10o)) ∧ gl11_2 (11) = .inl (cI, 41, .inl (g11o)) ∧ gl11_2 (12) = .inl (cZ, 41, .inl (g12o)) ∧ (∀ j : Nat, j ≠ 9 → j ≠ 10 → j ≠ 11 → j ≠ 12 → gl11_2 j = g j) ∧ va_P D vwCl (xw 81 ad gl11_2) H ∧ va_S A s.heap H locs ∧ lv_has ls 9 [(0, .ref (ad (8))), (1, .ref (ad (1))), (2, .int (nI ((lkO q x0 i).2.2.2.2))), (3, .int (nI (i)))]) (fun (i, g9o, g10o, g11o, g12o) => 41 - i) ?_ (0, f9, f10, upd (f11) (0) (nI (0)), f12) g1 H locs ls ⟨(by omega), (fun x hx => absurd hx (by omega)), h9, h10, h11z, h12, fg1_0, fg1_1, fg1_2, fg1_3, fg1_w, fg1_4, hfrg1, hP, hS, (by rw [show (lkO q x0 0).2.2.2.2 = 1 from hx1]; exact (lv_sub hl [2, 3, 1, 0] rfl))⟩
  rintro ⟨i, g9o, g10o, g11o, g12o⟩ gl11_2 H locs ls ⟨hi, hbf, k9o, k10o, k11o, k12o, fo8, fo_1, fa9, fa10, fa11, fa12, hfrgl11_2, hP, hS, hl⟩ ih11
  refine lv_iload_n hx hb dX1_link_11 rfl (lv_at hl 3 rfl) ?_
  obtain ⟨hb1, hb2, hb3, hb4, hb5⟩ := lkO_B (q := q) hxB i
  refine lv_iload_n hx hb dX1_link_12 rfl (lv_at hl 2 rfl) ?_
  refine xi_icmp_ge (tgt := 180) hx hb (by omega) (by omega) dX1_link_13 (by decide) (fun c13_3 => ?_) (fun c13_3 => ?_)
  · exact W.vret hx hb hr (fun tZ ht hW => ⟨⟨gl11_2, rfl, ⟨i, hi, hbf, Or.inl (by omega), g9o, g10o, g11o, g12o, k9o, k10o, k11o, k12o, fa9, fa10, fa11, fa12, hfrgl11_2⟩, by rw [ht]; exact hP, va_K.moved hW.alike hK, va_Nw.warmM hW hN⟩, hS.F ht⟩) hS.2.2 dX1_link_180
  · have hif : i < (lkO q x0 i).2.2.2.2 := c13_3
    refine lv_iload_n hx hb dX1_link_16 rfl (lv_at hl 3 rfl) ?_
    refine lv_bipush (v := nI (41)) hx hb dX1_link_17 (by decide) ?_
    refine xi_icmp_ge (tgt := 180) hx hb (by omega) (by decide) dX1_link_19 (by decide) (fun c19_4 => ?_) (fun c19_4 => ?_)
    · exact W.vret hx hb hr (fun tZ ht hW => ⟨⟨gl11_2, rfl, ⟨i, hi, hbf, Or.inr (by omega), g9o, g10o, g11o, g12o, k9o, k10o, k11o, k12o, fa9, fa10, fa11, fa12, hfrgl11_2⟩, by rw [ht]; exact hP, va_K.moved hW.alike hK, va_Nw.warmM hW hN⟩, hS.F ht⟩) hS.2.2 dX1_link_180
    · have hss : (lkO q x0 i).2.2.1 i < 41 := hb3 i
      have hb2s := hb2 ((lkO q x0 i).2.2.1 i)
      refine lv_aload_n hx hb dX1_link_22 rfl (lv_at hl 0 rfl) ?_
      refine xw_get hx hb hts hin1 hown hK hP (by decide) fo8 rfl 2 (by decide) hf18 rfl rfl dX1_link_23 ?_
      refine lv_iload_n hx hb dX1_link_26 rfl (lv_at hl 3 rfl) ?_
      refine xw_iald hx hb hK hP (by decide) 0 fa11 rfl (by omega) (by decide) dX1_link_27 ?_
      rw [k11o (i) (by omega)]
      refine lv_istore (lv' := [(4, .int (nI ((lkO q x0 i).2.2.1 (i)))), (0, .ref (ad (8))), (1, .ref (ad (1))), (2, .int (nI ((lkO q x0 i).2.2.2.2))), (3, .int (nI (i)))]) hx hb dX1_link_28 hl (by decide) rfl (fun ls hl => ?_)
      refine lv_aload_n hx hb dX1_link_30 rfl (lv_at hl 1 rfl) ?_
      refine xw_get hx hb hts hin1 hown hK hP (by decide) fo8 rfl 3 (by decide) hf21 rfl rfl dX1_link_31 ?_
      refine lv_iload hx hb dX1_link_34 (lv_at hl 0 rfl) ?_
      refine lv_aload_n hx hb dX1_link_36 rfl (lv_at hl 1 rfl) ?_
      refine xw_get hx hb hts hin1 hown hK hP (by decide) fo8 rfl 3 (by decide) hf21 rfl rfl dX1_link_37 ?_
      refine lv_iload hx hb dX1_link_40 (lv_at hl 0 rfl) ?_
      refine xw_zald hx hb hK hP (by decide) 2 fa12 rfl hss (by decide) dX1_link_42 ?_
      rw [k12o ((lkO q x0 i).2.2.1 (i)) (by omega)]
      refine xi_if_ne (tgt := 61) hx hb (by have h7 := hb4 ((lkO q x0 i).2.2.1 i); omega) dX1_link_43 (by decide) (fun c43_5 => ?_) (fun c43_5 => ?_)
      · refine lv_iconst (v := nI (1)) hx hb dX1_link_61 (by decide) ?_
        refine lv_goto (tgt := 66) hx hb dX1_link_62 (by decide) ?_
        have hval : nI 1 = nI (if ¬ (lkO q x0 i).2.2.2.1 ((lkO q x0 i).2.2.1 i) = 0 then 1 else if ¬ (lkO q x0 i).2.2.2.1 ((lkO q x0 i).2.1 ((lkO q x0 i).2.2.1 i)) = 0 then 1 else 0) := by rw [if_pos c43_5]
        refine xw_zast hx hb hK hP hD hS (by decide) 2 fa12 rfl hss (by decide) (by rfl) dX1_link_66 (fun g6 H locs eg6 hP hS => ?_)
        have fg6_0 : g6 (8) = .inr (1, [.ref (ad (9)), .ref (ad (10)), .ref (ad (11)), .ref (ad (12)), .ref (ad (na)), .ref (ad (nb)), .int (nI (S))]) := (congrFun eg6 (8)).trans ((va_up_ne _ _ (by decide)).trans fo8)
        have fg6_1 : g6 (1) = .inr (0, [.ref (ad (2)), .int (nI (q)), .int (nI (Wt))]) := (congrFun eg6 (1)).trans ((va_up_ne _ _ (by decide)).trans fo_1)
        have fg6_2 : g6 (9) = .inl (cI, 164, .inl (g9o)) := (congrFun eg6 (9)).trans ((va_up_ne _ _ (by decide)).trans fa9)
        have fg6_3 : g6 (10) = .inl (cI, 41, .inl (g10o)) := (congrFun eg6 (10)).trans ((va_up_ne _ _ (by decide)).trans fa10)
        have fg6_4 : g6 (11) = .inl (cI, 41, .inl (g11o)) := (congrFun eg6 (11)).trans ((va_up_ne _ _ (by decide)).trans fa11)
        have fg6_w : g6 (12) = .inl (cZ, 41, .inl (upd (g12o) ((lkO q x0 i).2.2.1 (i)) (nI (1)))) := (congrFun eg6 (12)).trans (va_up_self _ _ _)
        have hfrg6 : ∀ j : Nat, j ≠ 9 → j ≠ 10 → j ≠ 11 → j ≠ 12 → g6 j = g j := fun j h0 h1 h2 h3 => (congrFun eg6 j).trans ((va_up_ne _ _ h3).trans (hfrgl11_2 j h0 h1 h2 h3))
        have hk12 : ∀ j, j < 41 → upd (g12o) ((lkO q x0 i).2.2.1 (i)) (nI (1)) j = nI ((lkH ((lkO q x0 i).2.2.1 i) (lkO q x0 i)).2.2.2.1 j) := by rw [hval]; exact upd_nI k12o
        refine lv_iconst (v := nI (0)) hx hb dX1_link_67 (by decide) ?_
        refine lv_istore (lv' := [(5, .int (nI (0))), (4, .int (nI ((lkO q x0 i).2.2.1 (i)))), (0, .ref (ad (8))), (1, .ref (ad (1))), (2, .int (nI ((lkO q x0 i).2.2.2.2))), (3, .int (nI (i)))]) hx hb dX1_link_68 hl (by decide) rfl (fun ls hl => ?_)
        refine xloopW (G := fun H locs fr => W p l e _ s m _ below meth c H locs _ _ _ fr) (σ := Nat × (Nat → Int32) × (Nat → Int32) × (Nat → Int32) × (Nat → Int32)) (fun (c, g9n, g10n, g11n, g12n) ls => F0 m 70 ls []) (fun (c, g9n, g10n, g11n, g12n) gl70_7 H locs ls => (c ≤ q) ∧ (∀ j, j < 164 → g9n j = nI ((lkL ((lkO q x0 i).2.2.1 i) (lkH ((lkO q x0 i).2.2.1 i) (lkO q x0 i)) c).1 j)) ∧ (∀ j, j < 41 → g10n j = nI ((lkL ((lkO q x0 i).2.2.1 i) (lkH ((lkO q x0 i).2.2.1 i) (lkO q x0 i)) c).2.1 j)) ∧ (∀ j, j < 41 → g11n j = nI ((lkL ((lkO q x0 i).2.2.1 i) (lkH ((lkO q x0 i).2.2.1 i) (lkO q x0 i)) c).2.2.1 j)) ∧ (∀ j, j < 41 → g12n j = nI ((lkL ((lkO q x0 i).2.2.1 i) (lkH ((lkO q x0 i).2.2.1 i) (lkO q x0 i)) c).2.2.2.1 j)) ∧ gl70_7 (8) = .inr (1, [.ref (ad (9)), .ref (ad (10)), .ref (ad (11)), .ref (ad (12)), .ref (ad (na)), .ref (ad (nb)), .int (nI (S))]) ∧ gl70_7 (1) = .inr (0, [.ref (ad (2)), .int (nI (q)), .int (nI (Wt))]) ∧ gl70_7 (9) = .inl (cI, 164, .inl (g9n)) ∧ gl70_7 (10) = .inl (cI, 41, .inl (g10n)) ∧ gl70_7 (11) = .inl (cI, 41, .inl (g11n)) ∧ gl70_7 (12) = .inl (cZ, 41, .inl (g12n)) ∧ (∀ j : Nat, j ≠ 9 → j ≠ 10 → j ≠ 11 → j ≠ 12 → gl70_7 j = g j) ∧ va_P D vwCl (xw 81 ad gl70_7) H ∧ va_S A s.heap H locs ∧ lv_has ls 9 [(0, .ref (ad (8))), (1, .ref (ad (1))), (2, .int (nI ((lkL ((lkO q x0 i).2.2.1 i) (lkH ((lkO q x0 i).2.2.1 i) (lkO q x0 i)) c).2.2.2.2))), (3, .int (nI (i))), (4, .int (nI ((lkO q x0 i).2.2.1 i))), (5, .int (nI (c)))]) (fun (c, g9n, g10n, g11n, g12n) => q - c) ?_ (0, g9o, g10o, g11o, upd (g12o) ((lkO q x0 i).2.2.1 (i)) (nI (1))) g6 H locs ls ⟨(by omega), k9o, k10o, k11o, hk12, fg6_0, fg6_1, fg6_2, fg6_3, fg6_4, fg6_w, hfrg6, hP, hS, (lv_sub hl [2, 3, 4, 5, 1, 0] rfl)⟩
        rintro ⟨c, g9n, g10n, g11n, g12n⟩ gl70_7 H locs ls ⟨hc, k9n, k10n, k11n, k12n, fo8, fo_1, fa9, fa10, fa11, fa12, hfrgl70_7, hP, hS, hl⟩ ih70
        refine lv_iload hx hb dX1_link_70 (lv_at hl 5 rfl) ?_
        obtain ⟨hd1, hd2, hd3, hd4, hd5⟩ := lkL_B (s := (lkO q x0 i).2.2.1 i) (lkH_B (s := (lkO q x0 i).2.2.1 i) (lkO_B (q := q) hxB i)) c
        have hd2s := hd2 ((lkO q x0 i).2.2.1 i)
        refine lv_aload_n hx hb dX1_link_72 rfl (lv_at hl 1 rfl) ?_
        refine xw_get hx hb hts hin0 hown hK hP (by decide) fo_1 rfl 1 (by decide) hf50 rfl rfl dX1_link_73 ?_
        refine xi_icmp_ge (tgt := 174) hx hb (by omega) (by omega) dX1_link_76 (by decide) (fun c76_8 => ?_) (fun c76_8 => ?_)
        · have hce : c = q := by omega
          have hcq : (lkL ((lkO q x0 i).2.2.1 i) (lkH ((lkO q x0 i).2.2.1 i) (lkO q x0 i)) c) = lkO q x0 (i + 1) := by rw [hce]; rfl
          refine lv_iinc (v := nI (i + 1)) (lv' := [(3, .int (nI (i + 1))), (0, .ref (ad (8))), (1, .ref (ad (1))), (2, .int (nI ((lkL ((lkO q x0 i).2.2.1 i) (lkH ((lkO q x0 i).2.2.1 i) (lkO q x0 i)) c).2.2.2.2))), (4, .int (nI ((lkO q x0 i).2.2.1 i))), (5, .int (nI (c)))]) hx hb dX1_link_174 hl (k := 3) rfl (nI_add (i) 1) (by decide) rfl (fun ls hl => ?_)
          refine lv_goto (tgt := 11) hx hb dX1_link_177 (by decide) ?_
          exact ih11 (i + 1, g9n, g10n, g11n, g12n) gl70_7 H locs ls ⟨(by omega), (fun x hx => if e : x = i then by subst e; exact hif else hbf x (by omega)), (by rw [hcq] at k9n; exact k9n), (by rw [hcq] at k10n; exact k10n), (by rw [hcq] at k11n; exact k11n), (by rw [hcq] at k12n; exact k12n), fo8, fo_1, fa9, fa10, fa11, fa12, hfrgl70_7, hP, hS, (by rw [hcq] at hl; exact (lv_sub hl [1, 2, 3, 0] rfl))⟩ (by first | omega | (dsimp only; omega))
        · refine lv_iload hx hb dX1_link_79 (lv_at hl 4 rfl) ?_
          refine lv_iconst (v := nI (4)) hx hb dX1_link_81 (by decide) ?_
          refine xi_mul hx hb dX1_link_82 ?_
          refine lv_iload hx hb dX1_link_83 (lv_at hl 5 rfl) ?_
          refine xi_add hx hb dX1_link_85 ?_
          refine lv_istore (lv' := [(6, .int (nI ((((lkO q x0 i).2.2.1 i) * 4) + c))), (0, .ref (ad (8))), (1, .ref (ad (1))), (2, .int (nI ((lkL ((lkO q x0 i).2.2.1 i) (lkH ((lkO q x0 i).2.2.1 i) (lkO q x0 i)) c).2.2.2.2))), (3, .int (nI (i))), (4, .int (nI ((lkO q x0 i).2.2.1 i))), (5, .int (nI (c)))]) hx hb dX1_link_86 hl (by decide) rfl (fun ls hl => ?_)
          refine lv_aload_n hx hb dX1_link_88 rfl (lv_at hl 1 rfl) ?_
          refine xw_get hx hb hts hin1 hown hK hP (by decide) fo8 rfl 0 (by decide) hf11 rfl rfl dX1_link_89 ?_
          refine lv_iload hx hb dX1_link_92 (lv_at hl 0 rfl) ?_
          refine xw_iald hx hb hK hP (by decide) 0 fa9 rfl (by omega) (by decide) dX1_link_94 ?_
          rw [k9n ((((lkO q x0 i).2.2.1 i) * 4) + c) (by omega)]
          refine lv_istore (lv' := [(7, .int (nI ((lkL ((lkO q x0 i).2.2.1 i) (lkH ((lkO q x0 i).2.2.1 i) (lkO q x0 i)) c).1 ((((lkO q x0 i).2.2.1 i) * 4) + c)))), (6, .int (nI ((((lkO q x0 i).2.2.1 i) * 4) + c))), (0, .ref (ad (8))), (1, .ref (ad (1))), (2, .int (nI ((lkL ((lkO q x0 i).2.2.1 i) (lkH ((lkO q x0 i).2.2.1 i) (lkO q x0 i)) c).2.2.2.2))), (3, .int (nI (i))), (4, .int (nI ((lkO q x0 i).2.2.1 i))), (5, .int (nI (c)))]) hx hb dX1_link_95 hl (by decide) rfl (fun ls hl => ?_)
          refine lv_iload hx hb dX1_link_97 (lv_at hl 6 rfl) ?_
          refine xi_if_ne (tgt := 106) hx hb (by omega) dX1_link_99 (by decide) (fun c99_9 => ?_) (fun c99_9 => ?_)
          · refine lv_aload_n hx hb dX1_link_106 rfl (lv_at hl 2 rfl) ?_
            refine xw_get hx hb hts hin1 hown hK hP (by decide) fo8 rfl 0 (by decide) hf11 rfl rfl dX1_link_107 ?_
            refine lv_aload_n hx hb dX1_link_110 rfl (lv_at hl 2 rfl) ?_
            refine xw_get hx hb hts hin1 hown hK hP (by decide) fo8 rfl 1 (by decide) hf15 rfl rfl dX1_link_111 ?_
            refine lv_iload hx hb dX1_link_114 (lv_at hl 6 rfl) ?_
            refine xw_iald hx hb hK hP (by decide) 0 fa10 rfl hss (by decide) dX1_link_116 ?_
            rw [k10n ((lkO q x0 i).2.2.1 i) (by omega)]
            refine lv_iconst (v := nI (4)) hx hb dX1_link_117 (by decide) ?_
            refine xi_mul hx hb dX1_link_118 ?_
            refine lv_iload hx hb dX1_link_119 (lv_at hl 7 rfl) ?_
            refine xi_add hx hb dX1_link_121 ?_
            refine xw_iald hx hb hK hP (by decide) 0 fa9 rfl (by have h7 := hd2 ((lkO q x0 i).2.2.1 i); omega) (by decide) dX1_link_122 ?_
            rw [k9n ((((lkL ((lkO q x0 i).2.2.1 i) (lkH ((lkO q x0 i).2.2.1 i) (lkO q x0 i)) c).2.1 ((lkO q x0 i).2.2.1 i)) * 4) + c) (by omega)]
            refine xtopi (y := nI (if (lkO q x0 i).2.2.1 i = 0 then 0 else (lkL ((lkO q x0 i).2.2.1 i) (lkH ((lkO q x0 i).2.2.1 i) (lkO q x0 i)) c).1 ((lkL ((lkO q x0 i).2.2.1 i) (lkH ((lkO q x0 i).2.2.1 i) (lkO q x0 i)) c).2.1 ((lkO q x0 i).2.2.1 i) * 4 + c))) (by rw [if_neg c99_9]) ?_
            refine lv_istore (lv' := [(8, .int (nI (if (lkO q x0 i).2.2.1 i = 0 then 0 else (lkL ((lkO q x0 i).2.2.1 i) (lkH ((lkO q x0 i).2.2.1 i) (lkO q x0 i)) c).1 ((lkL ((lkO q x0 i).2.2.1 i) (lkH ((lkO q x0 i).2.2.1 i) (lkO q x0 i)) c).2.1 ((lkO q x0 i).2.2.1 i) * 4 + c)))), (7, .int (nI ((lkL ((lkO q x0 i).2.2.1 i) (lkH ((lkO q x0 i).2.2.1 i) (lkO q x0 i)) c).1 ((((lkO q x0 i).2.2.1 i) * 4) + c)))), (6, .int (nI ((((lkO q x0 i).2.2.1 i) * 4) + c))), (0, .ref (ad (8))), (1, .ref (ad (1))), (2, .int (nI ((lkL ((lkO q x0 i).2.2.1 i) (lkH ((lkO q x0 i).2.2.1 i) (lkO q x0 i)) c).2.2.2.2))), (3, .int (nI (i))), (4, .int (nI ((lkO q x0 i).2.2.1 i))), (5, .int (nI (c)))]) hx hb dX1_link_123 hl (by decide) rfl (fun ls hl => ?_)
            refine lv_iload hx hb dX1_link_125 (lv_at hl 1 rfl) ?_
            refine xi_if_ne (tgt := 142) hx hb (by have h7 := hd1 ((lkO q x0 i).2.2.1 i * 4 + c); omega) dX1_link_127 (by decide) (fun c127_10 => ?_) (fun c127_10 => ?_)
            · refine lv_iload_n hx hb dX1_link_142 rfl (lv_at hl 5 rfl) ?_
              refine lv_bipush (v := nI (41)) hx hb dX1_link_143 (by decide) ?_
              refine xi_icmp_ge (tgt := 168) hx hb (by omega) (by decide) dX1_link_145 (by decide) (fun c145_11 => ?_) (fun c145_11 => ?_)
              · have hlk : lkL ((lkO q x0 i).2.2.1 i) (lkH ((lkO q x0 i).2.2.1 i) (lkO q x0 i)) (c + 1) = _ := lkC_2 (s := (lkO q x0 i).2.2.1 i) (c := c) c127_10 (by omega)
                refine lv_iinc (v := nI (c + 1)) (lv' := [(5, .int (nI (c + 1))), (8, .int (nI (if (lkO q x0 i).2.2.1 i = 0 then 0 else (lkL ((lkO q x0 i).2.2.1 i) (lkH ((lkO q x0 i).2.2.1 i) (lkO q x0 i)) c).1 ((lkL ((lkO q x0 i).2.2.1 i) (lkH ((lkO q x0 i).2.2.1 i) (lkO q x0 i)) c).2.1 ((lkO q x0 i).2.2.1 i) * 4 + c)))), (7, .int (nI ((lkL ((lkO q x0 i).2.2.1 i) (lkH ((lkO q x0 i).2.2.1 i) (lkO q x0 i)) c).1 ((((lkO q x0 i).2.2.1 i) * 4) + c)))), (6, .int (nI ((((lkO q x0 i).2.2.1 i) * 4) + c))), (0, .ref (ad (8))), (1, .ref (ad (1))), (2, .int (nI ((lkL ((lkO q x0 i).2.2.1 i) (lkH ((lkO q x0 i).2.2.1 i) (lkO q x0 i)) c).2.2.2.2))), (3, .int (nI (i))), (4, .int (nI ((lkO q x0 i).2.2.1 i)))]) hx hb dX1_link_168 hl (k := 8) rfl (nI_add (c) 1) (by decide) rfl (fun ls hl => ?_)
                refine lv_goto (tgt := 70) hx hb dX1_link_171 (by decide) ?_
                exact ih70 (c + 1, g9n, g10n, g11n, g12n) gl70_7 H locs ls ⟨(by omega), (by rw [hlk]; exact k9n), (by rw [hlk]; exact k10n), (by rw [hlk]; exact k11n), (by rw [hlk]; exact k12n), fo8, fo_1, fa9, fa10, fa11, fa12, hfrgl70_7, hP, hS, (by rw [hlk]; exact (lv_sub hl [4, 5, 6, 7, 8, 0] rfl))⟩ (by first | omega | (dsimp only; omega))
              · have hlk : lkL ((lkO q x0 i).2.2.1 i) (lkH ((lkO q x0 i).2.2.1 i) (lkO q x0 i)) (c + 1) = _ := lkC_1 (s := (lkO q x0 i).2.2.1 i) (c := c) c127_10 c145_11
                refine lv_aload_n hx hb dX1_link_148 rfl (lv_at hl 3 rfl) ?_
                refine xw_get hx hb hts hin1 hown hK hP (by decide) fo8 rfl 1 (by decide) hf15 rfl rfl dX1_link_149 ?_
                refine lv_iload hx hb dX1_link_152 (lv_at hl 1 rfl) ?_
                refine lv_iload hx hb dX1_link_154 (lv_at hl 0 rfl) ?_
                refine xw_iast hx hb hK hP hD hS (by decide) 0 fa10 rfl (hd1 _) (by decide) dX1_link_156 (fun g12 H locs eg12 hP hS => ?_)
                have fg12_0 : g12 (8) = .inr (1, [.ref (ad (9)), .ref (ad (10)), .ref (ad (11)), .ref (ad (12)), .ref (ad (na)), .ref (ad (nb)), .int (nI (S))]) := (congrFun eg12 (8)).trans ((va_up_ne _ _ (by decide)).trans fo8)
                have fg12_1 : g12 (1) = .inr (0, [.ref (ad (2)), .int (nI (q)), .int (nI (Wt))]) := (congrFun eg12 (1)).trans ((va_up_ne _ _ (by decide)).trans fo_1)
                have fg12_2 : g12 (9) = .inl (cI, 164, .inl (g9n)) := (congrFun eg12 (9)).trans ((va_up_ne _ _ (by decide)).trans fa9)
                have fg12_3 : g12 (11) = .inl (cI, 41, .inl (g11n)) := (congrFun eg12 (11)).trans ((va_up_ne _ _ (by decide)).trans fa11)
                have fg12_4 : g12 (12) = .inl (cZ, 41, .inl (g12n)) := (congrFun eg12 (12)).trans ((va_up_ne _ _ (by decide)).trans fa12)
                have fg12_w : g12 (10) = .inl (cI, 41, .inl (upd (g10n) ((lkL ((lkO q x0 i).2.2.1 i) (lkH ((lkO q x0 i).2.2.1 i) (lkO q x0 i)) c).1 ((((lkO q x0 i).2.2.1 i) * 4) + c)) (nI (if (lkO q x0 i).2.2.1 i = 0 then 0 else (lkL ((lkO q x0 i).2.2.1 i) (lkH ((lkO q x0 i).2.2.1 i) (lkO q x0 i)) c).1 ((lkL ((lkO q x0 i).2.2.1 i) (lkH ((lkO q x0 i).2.2.1 i) (lkO q x0 i)) c).2.1 ((lkO q x0 i).2.2.1 i) * 4 + c))))) := (congrFun eg12 (10)).trans (va_up_self _ _ _)
                have hfrg12 : ∀ j : Nat, j ≠ 9 → j ≠ 10 → j ≠ 11 → j ≠ 12 → g12 j = g j := fun j h0 h1 h2 h3 => (congrFun eg12 j).trans ((va_up_ne _ _ h1).trans (hfrgl70_7 j h0 h1 h2 h3))
                refine lv_aload_n hx hb dX1_link_157 rfl (lv_at hl 3 rfl) ?_
                refine xw_get hx hb hts hin1 hown hK hP (by decide) fg12_0 rfl 2 (by decide) hf18 rfl rfl dX1_link_158 ?_
                refine lv_iload_n hx hb dX1_link_161 rfl (lv_at hl 5 rfl) ?_
                refine lv_iload hx hb dX1_link_162 (lv_at hl 1 rfl) ?_
                refine xw_iast hx hb hK hP hD hS (by decide) 0 fg12_3 rfl (by omega) (by decide) dX1_link_164 (fun g13 H locs eg13 hP hS => ?_)
                have fg13_0 : g13 (8) = .inr (1, [.ref (ad (9)), .ref (ad (10)), .ref (ad (11)), .ref (ad (12)), .ref (ad (na)), .ref (ad (nb)), .int (nI (S))]) := (congrFun eg13 (8)).trans ((va_up_ne _ _ (by decide)).trans fg12_0)
                have fg13_1 : g13 (1) = .inr (0, [.ref (ad (2)), .int (nI (q)), .int (nI (Wt))]) := (congrFun eg13 (1)).trans ((va_up_ne _ _ (by decide)).trans fg12_1)
                have fg13_2 : g13 (9) = .inl (cI, 164, .inl (g9n)) := (congrFun eg13 (9)).trans ((va_up_ne _ _ (by decide)).trans fg12_2)
                have fg13_3 : g13 (12) = .inl (cZ, 41, .inl (g12n)) := (congrFun eg13 (12)).trans ((va_up_ne _ _ (by decide)).trans fg12_4)
                have fg13_4 : g13 (10) = .inl (cI, 41, .inl (upd (g10n) ((lkL ((lkO q x0 i).2.2.1 i) (lkH ((lkO q x0 i).2.2.1 i) (lkO q x0 i)) c).1 ((((lkO q x0 i).2.2.1 i) * 4) + c)) (nI (if (lkO q x0 i).2.2.1 i = 0 then 0 else (lkL ((lkO q x0 i).2.2.1 i) (lkH ((lkO q x0 i).2.2.1 i) (lkO q x0 i)) c).1 ((lkL ((lkO q x0 i).2.2.1 i) (lkH ((lkO q x0 i).2.2.1 i) (lkO q x0 i)) c).2.1 ((lkO q x0 i).2.2.1 i) * 4 + c))))) := (congrFun eg13 (10)).trans ((va_up_ne _ _ (by decide)).trans fg12_w)
                have fg13_w : g13 (11) = .inl (cI, 41, .inl (upd (g11n) ((lkL ((lkO q x0 i).2.2.1 i) (lkH ((lkO q x0 i).2.2.1 i) (lkO q x0 i)) c).2.2.2.2) (nI ((lkL ((lkO q x0 i).2.2.1 i) (lkH ((lkO q x0 i).2.2.1 i) (lkO q x0 i)) c).1 ((((lkO q x0 i).2.2.1 i) * 4) + c))))) := (congrFun eg13 (11)).trans (va_up_self _ _ _)
                have hfrg13 : ∀ j : Nat, j ≠ 9 → j ≠ 10 → j ≠ 11 → j ≠ 12 → g13 j = g j := fun j h0 h1 h2 h3 => (congrFun eg13 j).trans ((va_up_ne _ _ h2).trans (hfrg12 j h0 h1 h2 h3))
                refine lv_iinc (v := nI ((lkL ((lkO q x0 i).2.2.1 i) (lkH ((lkO q x0 i).2.2.1 i) (lkO q x0 i)) c).2.2.2.2 + 1)) (lv' := [(2, .int (nI ((lkL ((lkO q x0 i).2.2.1 i) (lkH ((lkO q x0 i).2.2.1 i) (lkO q x0 i)) c).2.2.2.2 + 1))), (8, .int (nI (if (lkO q x0 i).2.2.1 i = 0 then 0 else (lkL ((lkO q x0 i).2.2.1 i) (lkH ((lkO q x0 i).2.2.1 i) (lkO q x0 i)) c).1 ((lkL ((lkO q x0 i).2.2.1 i) (lkH ((lkO q x0 i).2.2.1 i) (lkO q x0 i)) c).2.1 ((lkO q x0 i).2.2.1 i) * 4 + c)))), (7, .int (nI ((lkL ((lkO q x0 i).2.2.1 i) (lkH ((lkO q x0 i).2.2.1 i) (lkO q x0 i)) c).1 ((((lkO q x0 i).2.2.1 i) * 4) + c)))), (6, .int (nI ((((lkO q x0 i).2.2.1 i) * 4) + c))), (0, .ref (ad (8))), (1, .ref (ad (1))), (3, .int (nI (i))), (4, .int (nI ((lkO q x0 i).2.2.1 i))), (5, .int (nI (c)))]) hx hb dX1_link_165 hl (k := 5) rfl (nI_add ((lkL ((lkO q x0 i).2.2.1 i) (lkH ((lkO q x0 i).2.2.1 i) (lkO q x0 i)) c).2.2.2.2) 1) (by decide) rfl (fun ls hl => ?_)
                refine lv_iinc (v := nI (c + 1)) (lv' := [(5, .int (nI (c + 1))), (2, .int (nI ((lkL ((lkO q x0 i).2.2.1 i) (lkH ((lkO q x0 i).2.2.1 i) (lkO q x0 i)) c).2.2.2.2 + 1))), (8, .int (nI (if (lkO q x0 i).2.2.1 i = 0 then 0 else (lkL ((lkO q x0 i).2.2.1 i) (lkH ((lkO q x0 i).2.2.1 i) (lkO q x0 i)) c).1 ((lkL ((lkO q x0 i).2.2.1 i) (lkH ((lkO q x0 i).2.2.1 i) (lkO q x0 i)) c).2.1 ((lkO q x0 i).2.2.1 i) * 4 + c)))), (7, .int (nI ((lkL ((lkO q x0 i).2.2.1 i) (lkH ((lkO q x0 i).2.2.1 i) (lkO q x0 i)) c).1 ((((lkO q x0 i).2.2.1 i) * 4) + c)))), (6, .int (nI ((((lkO q x0 i).2.2.1 i) * 4) + c))), (0, .ref (ad (8))), (1, .ref (ad (1))), (3, .int (nI (i))), (4, .int (nI ((lkO q x0 i).2.2.1 i)))]) hx hb dX1_link_168 hl (k := 8) rfl (nI_add (c) 1) (by decide) rfl (fun ls hl => ?_)
                refine lv_goto (tgt := 70) hx hb dX1_link_171 (by decide) ?_
                exact ih70 (c + 1, g9n, upd (g10n) ((lkL ((lkO q x0 i).2.2.1 i) (lkH ((lkO q x0 i).2.2.1 i) (lkO q x0 i)) c).1 ((((lkO q x0 i).2.2.1 i) * 4) + c)) (nI (if (lkO q x0 i).2.2.1 i = 0 then 0 else (lkL ((lkO q x0 i).2.2.1 i) (lkH ((lkO q x0 i).2.2.1 i) (lkO q x0 i)) c).1 ((lkL ((lkO q x0 i).2.2.1 i) (lkH ((lkO q x0 i).2.2.1 i) (lkO q x0 i)) c).2.1 ((lkO q x0 i).2.2.1 i) * 4 + c))), upd (g11n) ((lkL ((lkO q x0 i).2.2.1 i) (lkH ((lkO q x0 i).2.2.1 i) (lkO q x0 i)) c).2.2.2.2) (nI ((lkL ((lkO q x0 i).2.2.1 i) (lkH ((lkO q x0 i).2.2.1 i) (lkO q x0 i)) c).1 ((((lkO q x0 i).2.2.1 i) * 4) + c))), g12n) g13 H locs ls ⟨(by omega), (by rw [hlk]; exact k9n), (by rw [hlk]; exact upd_nI k10n), (by rw [hlk]; exact upd_nI k11n), (by rw [hlk]; exact k12n), fg13_0, fg13_1, fg13_2, fg13_4, fg13_w, fg13_3, hfrg13, hP, hS, (by rw [hlk]; exact (lv_sub hl [5, 6, 1, 7, 8, 0] rfl))⟩ (by first | omega | (dsimp only; omega))
            · have hlk : lkL ((lkO q x0 i).2.2.1 i) (lkH ((lkO q x0 i).2.2.1 i) (lkO q x0 i)) (c + 1) = _ := lkC_0 (s := (lkO q x0 i).2.2.1 i) (c := c) c127_10
              refine lv_aload_n hx hb dX1_link_130 rfl (lv_at hl 3 rfl) ?_
              refine xw_get hx hb hts hin1 hown hK hP (by decide) fo8 rfl 0 (by decide) hf11 rfl rfl dX1_link_131 ?_
              refine lv_iload hx hb dX1_link_134 (lv_at hl 2 rfl) ?_
              refine lv_iload hx hb dX1_link_136 (lv_at hl 0 rfl) ?_
              refine xw_iast hx hb hK hP hD hS (by decide) 0 fa9 rfl (by omega) (by decide) dX1_link_138 (fun g14 H locs eg14 hP hS => ?_)
              have fg14_0 : g14 (8) = .inr (1, [.ref (ad (9)), .ref (ad (10)), .ref (ad (11)), .ref (ad (12)), .ref (ad (na)), .ref (ad (nb)), .int (nI (S))]) := (congrFun eg14 (8)).trans ((va_up_ne _ _ (by decide)).trans fo8)
              have fg14_1 : g14 (1) = .inr (0, [.ref (ad (2)), .int (nI (q)), .int (nI (Wt))]) := (congrFun eg14 (1)).trans ((va_up_ne _ _ (by decide)).trans fo_1)
              have fg14_2 : g14 (10) = .inl (cI, 41, .inl (g10n)) := (congrFun eg14 (10)).trans ((va_up_ne _ _ (by decide)).trans fa10)
              have fg14_3 : g14 (11) = .inl (cI, 41, .inl (g11n)) := (congrFun eg14 (11)).trans ((va_up_ne _ _ (by decide)).trans fa11)
              have fg14_4 : g14 (12) = .inl (cZ, 41, .inl (g12n)) := (congrFun eg14 (12)).trans ((va_up_ne _ _ (by decide)).trans fa12)
              have fg14_w : g14 (9) = .inl (cI, 164, .inl (upd (g9n) ((((lkO q x0 i).2.2.1 i) * 4) + c) (nI (if (lkO q x0 i).2.2.1 i = 0 then 0 else (lkL ((lkO q x0 i).2.2.1 i) (lkH ((lkO q x0 i).2.2.1 i) (lkO q x0 i)) c).1 ((lkL ((lkO q x0 i).2.2.1 i) (lkH ((lkO q x0 i).2.2.1 i) (lkO q x0 i)) c).2.1 ((lkO q x0 i).2.2.1 i) * 4 + c))))) := (congrFun eg14 (9)).trans (va_up_self _ _ _)
              have hfrg14 : ∀ j : Nat, j ≠ 9 → j ≠ 10 → j ≠ 11 → j ≠ 12 → g14 j = g j := fun j h0 h1 h2 h3 => (congrFun eg14 j).trans ((va_up_ne _ _ h0).trans (hfrgl70_7 j h0 h1 h2 h3))
              refine lv_goto (tgt := 168) hx hb dX1_link_139 (by decide) ?_
              refine lv_iinc (v := nI (c + 1)) (lv' := [(5, .int (nI (c + 1))), (8, .int (nI (if (lkO q x0 i).2.2.1 i = 0 then 0 else (lkL ((lkO q x0 i).2.2.1 i) (lkH ((lkO q x0 i).2.2.1 i) (lkO q x0 i)) c).1 ((lkL ((lkO q x0 i).2.2.1 i) (lkH ((lkO q x0 i).2.2.1 i) (lkO q x0 i)) c).2.1 ((lkO q x0 i).2.2.1 i) * 4 + c)))), (7, .int (nI ((lkL ((lkO q x0 i).2.2.1 i) (lkH ((lkO q x0 i).2.2.1 i) (lkO q x0 i)) c).1 ((((lkO q x0 i).2.2.1 i) * 4) + c)))), (6, .int (nI ((((lkO q x0 i).2.2.1 i) * 4) + c))), (0, .ref (ad (8))), (1, .ref (ad (1))), (2, .int (nI ((lkL ((lkO q x0 i).2.2.1 i) (lkH ((lkO q x0 i).2.2.1 i) (lkO q x0 i)) c).2.2.2.2))), (3, .int (nI (i))), (4, .int (nI ((lkO q x0 i).2.2.1 i)))]) hx hb dX1_link_168 hl (k := 8) rfl (nI_add (c) 1) (by decide) rfl (fun ls hl => ?_)
              refine lv_goto (tgt := 70) hx hb dX1_link_171 (by decide) ?_
              exact ih70 (c + 1, upd (g9n) ((((lkO q x0 i).2.2.1 i) * 4) + c) (nI (if (lkO q x0 i).2.2.1 i = 0 then 0 else (lkL ((lkO q x0 i).2.2.1 i) (lkH ((lkO q x0 i).2.2.1 i) (lkO q x0 i)) c).1 ((lkL ((lkO q x0 i).2.2.1 i) (lkH ((lkO q x0 i).2.2.1 i) (lkO q x0 i)) c).2.1 ((lkO q x0 i).2.2.1 i) * 4 + c))), g10n, g11n, g12n) g14 H locs ls ⟨(by omega), (by rw [hlk]; exact upd_nI k9n), (by rw [hlk]; exact k10n), (by rw [hlk]; exact k11n), (by rw [hlk]; exact k12n), fg14_0, fg14_1, fg14_w, fg14_2, fg14_3, fg14_4, hfrg14, hP, hS, (by rw [hlk]; exact (lv_sub hl [4, 5, 6, 7, 8, 0] rfl))⟩ (by first | omega | (dsimp only; omega))
          · refine lv_iconst (v := nI (0)) hx hb dX1_link_102 (by decide) ?_
            refine lv_goto (tgt := 123) hx hb dX1_link_103 (by decide) ?_
            refine xtopi (y := nI (if (lkO q x0 i).2.2.1 i = 0 then 0 else (lkL ((lkO q x0 i).2.2.1 i) (lkH ((lkO q x0 i).2.2.1 i) (lkO q x0 i)) c).1 ((lkL ((lkO q x0 i).2.2.1 i) (lkH ((lkO q x0 i).2.2.1 i) (lkO q x0 i)) c).2.1 ((lkO q x0 i).2.2.1 i) * 4 + c))) (by rw [if_pos c99_9]) ?_
            refine lv_istore (lv' := [(8, .int (nI (if (lkO q x0 i).2.2.1 i = 0 then 0 else (lkL ((lkO q x0 i).2.2.1 i) (lkH ((lkO q x0 i).2.2.1 i) (lkO q x0 i)) c).1 ((lkL ((lkO q x0 i).2.2.1 i) (lkH ((lkO q x0 i).2.2.1 i) (lkO q x0 i)) c).2.1 ((lkO q x0 i).2.2.1 i) * 4 + c)))), (7, .int (nI ((lkL ((lkO q x0 i).2.2.1 i) (lkH ((lkO q x0 i).2.2.1 i) (lkO q x0 i)) c).1 ((((lkO q x0 i).2.2.1 i) * 4) + c)))), (6, .int (nI ((((lkO q x0 i).2.2.1 i) * 4) + c))), (0, .ref (ad (8))), (1, .ref (ad (1))), (2, .int (nI ((lkL ((lkO q x0 i).2.2.1 i) (lkH ((lkO q x0 i).2.2.1 i) (lkO q x0 i)) c).2.2.2.2))), (3, .int (nI (i))), (4, .int (nI ((lkO q x0 i).2.2.1 i))), (5, .int (nI (c)))]) hx hb dX1_link_123 hl (by decide) rfl (fun ls hl => ?_)
            refine lv_iload hx hb dX1_link_125 (lv_at hl 1 rfl) ?_
            refine xi_if_ne (tgt := 142) hx hb (by have h7 := hd1 ((lkO q x0 i).2.2.1 i * 4 + c); omega) dX1_link_127 (by decide) (fun c127_15 => ?_) (fun c127_15 => ?_)
            · refine lv_iload_n hx hb dX1_link_142 rfl (lv_at hl 5 rfl) ?_
              refine lv_bipush (v := nI (41)) hx hb dX1_link_143 (by decide) ?_
              refine xi_icmp_ge (tgt := 168) hx hb (by omega) (by decide) dX1_link_145 (by decide) (fun c145_16 => ?_) (fun c145_16 => ?_)
              · have hlk : lkL ((lkO q x0 i).2.2.1 i) (lkH ((lkO q x0 i).2.2.1 i) (lkO q x0 i)) (c + 1) = _ := lkC_2 (s := (lkO q x0 i).2.2.1 i) (c := c) c127_15 (by omega)
                refine lv_iinc (v := nI (c + 1)) (lv' := [(5, .int (nI (c + 1))), (8, .int (nI (if (lkO q x0 i).2.2.1 i = 0 then 0 else (lkL ((lkO q x0 i).2.2.1 i) (lkH ((lkO q x0 i).2.2.1 i) (lkO q x0 i)) c).1 ((lkL ((lkO q x0 i).2.2.1 i) (lkH ((lkO q x0 i).2.2.1 i) (lkO q x0 i)) c).2.1 ((lkO q x0 i).2.2.1 i) * 4 + c)))), (7, .int (nI ((lkL ((lkO q x0 i).2.2.1 i) (lkH ((lkO q x0 i).2.2.1 i) (lkO q x0 i)) c).1 ((((lkO q x0 i).2.2.1 i) * 4) + c)))), (6, .int (nI ((((lkO q x0 i).2.2.1 i) * 4) + c))), (0, .ref (ad (8))), (1, .ref (ad (1))), (2, .int (nI ((lkL ((lkO q x0 i).2.2.1 i) (lkH ((lkO q x0 i).2.2.1 i) (lkO q x0 i)) c).2.2.2.2))), (3, .int (nI (i))), (4, .int (nI ((lkO q x0 i).2.2.1 i)))]) hx hb dX1_link_168 hl (k := 8) rfl (nI_add (c) 1) (by decide) rfl (fun ls hl => ?_)
                refine lv_goto (tgt := 70) hx hb dX1_link_171 (by decide) ?_
                exact ih70 (c + 1, g9n, g10n, g11n, g12n) gl70_7 H locs ls ⟨(by omega), (by rw [hlk]; exact k9n), (by rw [hlk]; exact k10n), (by rw [hlk]; exact k11n), (by rw [hlk]; exact k12n), fo8, fo_1, fa9, fa10, fa11, fa12, hfrgl70_7, hP, hS, (by rw [hlk]; exact (lv_sub hl [4, 5, 6, 7, 8, 0] rfl))⟩ (by first | omega | (dsimp only; omega))
              · have hlk : lkL ((lkO q x0 i).2.2.1 i) (lkH ((lkO q x0 i).2.2.1 i) (lkO q x0 i)) (c + 1) = _ := lkC_1 (s := (lkO q x0 i).2.2.1 i) (c := c) c127_15 c145_16
                refine lv_aload_n hx hb dX1_link_148 rfl (lv_at hl 3 rfl) ?_
                refine xw_get hx hb hts hin1 hown hK hP (by decide) fo8 rfl 1 (by decide) hf15 rfl rfl dX1_link_149 ?_
                refine lv_iload hx hb dX1_link_152 (lv_at hl 1 rfl) ?_
                refine lv_iload hx hb dX1_link_154 (lv_at hl 0 rfl) ?_
                refine xw_iast hx hb hK hP hD hS (by decide) 0 fa10 rfl (hd1 _) (by decide) dX1_link_156 (fun g17 H locs eg17 hP hS => ?_)
                have fg17_0 : g17 (8) = .inr (1, [.ref (ad (9)), .ref (ad (10)), .ref (ad (11)), .ref (ad (12)), .ref (ad (na)), .ref (ad (nb)), .int (nI (S))]) := (congrFun eg17 (8)).trans ((va_up_ne _ _ (by decide)).trans fo8)
                have fg17_1 : g17 (1) = .inr (0, [.ref (ad (2)), .int (nI (q)), .int (nI (Wt))]) := (congrFun eg17 (1)).trans ((va_up_ne _ _ (by decide)).trans fo_1)
                have fg17_2 : g17 (9) = .inl (cI, 164, .inl (g9n)) := (congrFun eg17 (9)).trans ((va_up_ne _ _ (by decide)).trans fa9)
                have fg17_3 : g17 (11) = .inl (cI, 41, .inl (g11n)) := (congrFun eg17 (11)).trans ((va_up_ne _ _ (by decide)).trans fa11)
                have fg17_4 : g17 (12) = .inl (cZ, 41, .inl (g12n)) := (congrFun eg17 (12)).trans ((va_up_ne _ _ (by decide)).trans fa12)
                have fg17_w : g17 (10) = .inl (cI, 41, .inl (upd (g10n) ((lkL ((lkO q x0 i).2.2.1 i) (lkH ((lkO q x0 i).2.2.1 i) (lkO q x0 i)) c).1 ((((lkO q x0 i).2.2.1 i) * 4) + c)) (nI (if (lkO q x0 i).2.2.1 i = 0 then 0 else (lkL ((lkO q x0 i).2.2.1 i) (lkH ((lkO q x0 i).2.2.1 i) (lkO q x0 i)) c).1 ((lkL ((lkO q x0 i).2.2.1 i) (lkH ((lkO q x0 i).2.2.1 i) (lkO q x0 i)) c).2.1 ((lkO q x0 i).2.2.1 i) * 4 + c))))) := (congrFun eg17 (10)).trans (va_up_self _ _ _)
                have hfrg17 : ∀ j : Nat, j ≠ 9 → j ≠ 10 → j ≠ 11 → j ≠ 12 → g17 j = g j := fun j h0 h1 h2 h3 => (congrFun eg17 j).trans ((va_up_ne _ _ h1).trans (hfrgl70_7 j h0 h1 h2 h3))
                refine lv_aload_n hx hb dX1_link_157 rfl (lv_at hl 3 rfl) ?_
                refine xw_get hx hb hts hin1 hown hK hP (by decide) fg17_0 rfl 2 (by decide) hf18 rfl rfl dX1_link_158 ?_
                refine lv_iload_n hx hb dX1_link_161 rfl (lv_at hl 5 rfl) ?_
                refine lv_iload hx hb dX1_link_162 (lv_at hl 1 rfl) ?_
                refine xw_iast hx hb hK hP hD hS (by decide) 0 fg17_3 rfl (by omega) (by decide) dX1_link_164 (fun g18 H locs eg18 hP hS => ?_)
                have fg18_0 : g18 (8) = .inr (1, [.ref (ad (9)), .ref (ad (10)), .ref (ad (11)), .ref (ad (12)), .ref (ad (na)), .ref (ad (nb)), .int (nI (S))]) := (congrFun eg18 (8)).trans ((va_up_ne _ _ (by decide)).trans fg17_0)
                have fg18_1 : g18 (1) = .inr (0, [.ref (ad (2)), .int (nI (q)), .int (nI (Wt))]) := (congrFun eg18 (1)).trans ((va_up_ne _ _ (by decide)).trans fg17_1)
                have fg18_2 : g18 (9) = .inl (cI, 164, .inl (g9n)) := (congrFun eg18 (9)).trans ((va_up_ne _ _ (by decide)).trans fg17_2)
                have fg18_3 : g18 (12) = .inl (cZ, 41, .inl (g12n)) := (congrFun eg18 (12)).trans ((va_up_ne _ _ (by decide)).trans fg17_4)
                have fg18_4 : g18 (10) = .inl (cI, 41, .inl (upd (g10n) ((lkL ((lkO q x0 i).2.2.1 i) (lkH ((lkO q x0 i).2.2.1 i) (lkO q x0 i)) c).1 ((((lkO q x0 i).2.2.1 i) * 4) + c)) (nI (if (lkO q x0 i).2.2.1 i = 0 then 0 else (lkL ((lkO q x0 i).2.2.1 i) (lkH ((lkO q x0 i).2.2.1 i) (lkO q x0 i)) c).1 ((lkL ((lkO q x0 i).2.2.1 i) (lkH ((lkO q x0 i).2.2.1 i) (lkO q x0 i)) c).2.1 ((lkO q x0 i).2.2.1 i) * 4 + c))))) := (congrFun eg18 (10)).trans ((va_up_ne _ _ (by decide)).trans fg17_w)
                have fg18_w : g18 (11) = .inl (cI, 41, .inl (upd (g11n) ((lkL ((lkO q x0 i).2.2.1 i) (lkH ((lkO q x0 i).2.2.1 i) (lkO q x0 i)) c).2.2.2.2) (nI ((lkL ((lkO q x0 i).2.2.1 i) (lkH ((lkO q x0 i).2.2.1 i) (lkO q x0 i)) c).1 ((((lkO q x0 i).2.2.1 i) * 4) + c))))) := (congrFun eg18 (11)).trans (va_up_self _ _ _)
                have hfrg18 : ∀ j : Nat, j ≠ 9 → j ≠ 10 → j ≠ 11 → j ≠ 12 → g18 j = g j := fun j h0 h1 h2 h3 => (congrFun eg18 j).trans ((va_up_ne _ _ h2).trans (hfrg17 j h0 h1 h2 h3))
                refine lv_iinc (v := nI ((lkL ((lkO q x0 i).2.2.1 i) (lkH ((lkO q x0 i).2.2.1 i) (lkO q x0 i)) c).2.2.2.2 + 1)) (lv' := [(2, .int (nI ((lkL ((lkO q x0 i).2.2.1 i) (lkH ((lkO q x0 i).2.2.1 i) (lkO q x0 i)) c).2.2.2.2 + 1))), (8, .int (nI (if (lkO q x0 i).2.2.1 i = 0 then 0 else (lkL ((lkO q x0 i).2.2.1 i) (lkH ((lkO q x0 i).2.2.1 i) (lkO q x0 i)) c).1 ((lkL ((lkO q x0 i).2.2.1 i) (lkH ((lkO q x0 i).2.2.1 i) (lkO q x0 i)) c).2.1 ((lkO q x0 i).2.2.1 i) * 4 + c)))), (7, .int (nI ((lkL ((lkO q x0 i).2.2.1 i) (lkH ((lkO q x0 i).2.2.1 i) (lkO q x0 i)) c).1 ((((lkO q x0 i).2.2.1 i) * 4) + c)))), (6, .int (nI ((((lkO q x0 i).2.2.1 i) * 4) + c))), (0, .ref (ad (8))), (1, .ref (ad (1))), (3, .int (nI (i))), (4, .int (nI ((lkO q x0 i).2.2.1 i))), (5, .int (nI (c)))]) hx hb dX1_link_165 hl (k := 5) rfl (nI_add ((lkL ((lkO q x0 i).2.2.1 i) (lkH ((lkO q x0 i).2.2.1 i) (lkO q x0 i)) c).2.2.2.2) 1) (by decide) rfl (fun ls hl => ?_)
                refine lv_iinc (v := nI (c + 1)) (lv' := [(5, .int (nI (c + 1))), (2, .int (nI ((lkL ((lkO q x0 i).2.2.1 i) (lkH ((lkO q x0 i).2.2.1 i) (lkO q x0 i)) c).2.2.2.2 + 1))), (8, .int (nI (if (lkO q x0 i).2.2.1 i = 0 then 0 else (lkL ((lkO q x0 i).2.2.1 i) (lkH ((lkO q x0 i).2.2.1 i) (lkO q x0 i)) c).1 ((lkL ((lkO q x0 i).2.2.1 i) (lkH ((lkO q x0 i).2.2.1 i) (lkO q x0 i)) c).2.1 ((lkO q x0 i).2.2.1 i) * 4 + c)))), (7, .int (nI ((lkL ((lkO q x0 i).2.2.1 i) (lkH ((lkO q x0 i).2.2.1 i) (lkO q x0 i)) c).1 ((((lkO q x0 i).2.2.1 i) * 4) + c)))), (6, .int (nI ((((lkO q x0 i).2.2.1 i) * 4) + c))), (0, .ref (ad (8))), (1, .ref (ad (1))), (3, .int (nI (i))), (4, .int (nI ((lkO q x0 i).2.2.1 i)))]) hx hb dX1_link_168 hl (k := 8) rfl (nI_add (c) 1) (by decide) rfl (fun ls hl => ?_)
                refine lv_goto (tgt := 70) hx hb dX1_link_171 (by decide) ?_
                exact ih70 (c + 1, g9n, upd (g10n) ((lkL ((lkO q x0 i).2.2.1 i) (lkH ((lkO q x0 i).2.2.1 i) (lkO q x0 i)) c).1 ((((lkO q x0 i).2.2.1 i) * 4) + c)) (nI (if (lkO q x0 i).2.2.1 i = 0 then 0 else (lkL ((lkO q x0 i).2.2.1 i) (lkH ((lkO q x0 i).2.2.1 i) (lkO q x0 i)) c).1 ((lkL ((lkO q x0 i).2.2.1 i) (lkH ((lkO q x0 i).2.2.1 i) (lkO q x0 i)) c).2.1 ((lkO q x0 i).2.2.1 i) * 4 + c))), upd (g11n) ((lkL ((lkO q x0 i).2.2.1 i) (lkH ((lkO q x0 i).2.2.1 i) (lkO q x0 i)) c).2.2.2.2) (nI ((lkL ((lkO q x0 i).2.2.1 i) (lkH ((lkO q x0 i).2.2.1 i) (lkO q x0 i)) c).1 ((((lkO q x0 i).2.2.1 i) * 4) + c))), g12n) g18 H locs ls ⟨(by omega), (by rw [hlk]; exact k9n), (by rw [hlk]; exact upd_nI k10n), (by rw [hlk]; exact upd_nI k11n), (by rw [hlk]; exact k12n), fg18_0, fg18_1, fg18_2, fg18_4, fg18_w, fg18_3, hfrg18, hP, hS, (by rw [hlk]; exact (lv_sub hl [5, 6, 1, 7, 8, 0] rfl))⟩ (by first | omega | (dsimp only; omega))
            · have hlk : lkL ((lkO q x0 i).2.2.1 i) (lkH ((lkO q x0 i).2.2.1 i) (lkO q x0 i)) (c + 1) = _ := lkC_0 (s := (lkO q x0 i).2.2.1 i) (c := c) c127_15
              refine lv_aload_n hx hb dX1_link_130 rfl (lv_at hl 3 rfl) ?_
              refine xw_get hx hb hts hin1 hown hK hP (by decide) fo8 rfl 0 (by decide) hf11 rfl rfl dX1_link_131 ?_
              refine lv_iload hx hb dX1_link_134 (lv_at hl 2 rfl) ?_
              refine lv_iload hx hb dX1_link_136 (lv_at hl 0 rfl) ?_
              refine xw_iast hx hb hK hP hD hS (by decide) 0 fa9 rfl (by omega) (by decide) dX1_link_138 (fun g19 H locs eg19 hP hS => ?_)
              have fg19_0 : g19 (8) = .inr (1, [.ref (ad (9)), .ref (ad (10)), .ref (ad (11)), .ref (ad (12)), .ref (ad (na)), .ref (ad (nb)), .int (nI (S))]) := (congrFun eg19 (8)).trans ((va_up_ne _ _ (by decide)).trans fo8)
              have fg19_1 : g19 (1) = .inr (0, [.ref (ad (2)), .int (nI (q)), .int (nI (Wt))]) := (congrFun eg19 (1)).trans ((va_up_ne _ _ (by decide)).trans fo_1)
              have fg19_2 : g19 (10) = .inl (cI, 41, .inl (g10n)) := (congrFun eg19 (10)).trans ((va_up_ne _ _ (by decide)).trans fa10)
              have fg19_3 : g19 (11) = .inl (cI, 41, .inl (g11n)) := (congrFun eg19 (11)).trans ((va_up_ne _ _ (by decide)).trans fa11)
              have fg19_4 : g19 (12) = .inl (cZ, 41, .inl (g12n)) := (congrFun eg19 (12)).trans ((va_up_ne _ _ (by decide)).trans fa12)
              have fg19_w : g19 (9) = .inl (cI, 164, .inl (upd (g9n) ((((lkO q x0 i).2.2.1 i) * 4) + c) (nI (if (lkO q x0 i).2.2.1 i = 0 then 0 else (lkL ((lkO q x0 i).2.2.1 i) (lkH ((lkO q x0 i).2.2.1 i) (lkO q x0 i)) c).1 ((lkL ((lkO q x0 i).2.2.1 i) (lkH ((lkO q x0 i).2.2.1 i) (lkO q x0 i)) c).2.1 ((lkO q x0 i).2.2.1 i) * 4 + c))))) := (congrFun eg19 (9)).trans (va_up_self _ _ _)
              have hfrg19 : ∀ j : Nat, j ≠ 9 → j ≠ 10 → j ≠ 11 → j ≠ 12 → g19 j = g j := fun j h0 h1 h2 h3 => (congrFun eg19 j).trans ((va_up_ne _ _ h0).trans (hfrgl70_7 j h0 h1 h2 h3))
              refine lv_goto (tgt := 168) hx hb dX1_link_139 (by decide) ?_
              refine lv_iinc (v := nI (c + 1)) (lv' := [(5, .int (nI (c + 1))), (8, .int (nI (if (lkO q x0 i).2.2.1 i = 0 then 0 else (lkL ((lkO q x0 i).2.2.1 i) (lkH ((lkO q x0 i).2.2.1 i) (lkO q x0 i)) c).1 ((lkL ((lkO q x0 i).2.2.1 i) (lkH ((lkO q x0 i).2.2.1 i) (lkO q x0 i)) c).2.1 ((lkO q x0 i).2.2.1 i) * 4 + c)))), (7, .int (nI ((lkL ((lkO q x0 i).2.2.1 i) (lkH ((lkO q x0 i).2.2.1 i) (lkO q x0 i)) c).1 ((((lkO q x0 i).2.2.1 i) * 4) + c)))), (6, .int (nI ((((lkO q x0 i).2.2.1 i) * 4) + c))), (0, .ref (ad (8))), (1, .ref (ad (1))), (2, .int (nI ((lkL ((lkO q x0 i).2.2.1 i) (lkH ((lkO q x0 i).2.2.1 i) (lkO q x0 i)) c).2.2.2.2))), (3, .int (nI (i))), (4, .int (nI ((lkO q x0 i).2.2.1 i)))]) hx hb dX1_link_168 hl (k := 8) rfl (nI_add (c) 1) (by decide) rfl (fun ls hl => ?_)
              refine lv_goto (tgt := 70) hx hb dX1_link_171 (by decide) ?_
              exact ih70 (c + 1, upd (g9n) ((((lkO q x0 i).2.2.1 i) * 4) + c) (nI (if (lkO q x0 i).2.2.1 i = 0 then 0 else (lkL ((lkO q x0 i).2.2.1 i) (lkH ((lkO q x0 i).2.2.1 i) (lkO q x0 i)) c).1 ((lkL ((lkO q x0 i).2.2.1 i) (lkH ((lkO q x0 i).2.2.1 i) (lkO q x0 i)) c).2.1 ((lkO q x0 i).2.2.1 i) * 4 + c))), g10n, g11n, g12n) g19 H locs ls ⟨(by omega), (by rw [hlk]; exact upd_nI k9n), (by rw [hlk]; exact k10n), (by rw [hlk]; exact k11n), (by rw [hlk]; exact k12n), fg19_0, fg19_1, fg19_w, fg19_2, fg19_3, fg19_4, hfrg19, hP, hS, (by rw [hlk]; exact (lv_sub hl [4, 5, 6, 7, 8, 0] rfl))⟩ (by first | omega | (dsimp only; omega))
      · refine lv_aload_n hx hb dX1_link_46 rfl (lv_at hl 1 rfl) ?_
        refine xw_get hx hb hts hin1 hown hK hP (by decide) fo8 rfl 3 (by decide) hf21 rfl rfl dX1_link_47 ?_
        refine lv_aload_n hx hb dX1_link_50 rfl (lv_at hl 1 rfl) ?_
        refine xw_get hx hb hts hin1 hown hK hP (by decide) fo8 rfl 1 (by decide) hf15 rfl rfl dX1_link_51 ?_
        refine lv_iload hx hb dX1_link_54 (lv_at hl 0 rfl) ?_
        refine xw_iald hx hb hK hP (by decide) 0 fa10 rfl hss (by decide) dX1_link_56 ?_
        rw [k10o ((lkO q x0 i).2.2.1 (i)) (by omega)]
        refine xw_zald hx hb hK hP (by decide) 2 fa12 rfl (hb2 _) (by decide) dX1_link_57 ?_
        rw [k12o ((lkO q x0 i).2.1 ((lkO q x0 i).2.2.1 (i))) (by omega)]
        refine xi_if_eq (tgt := 65) hx hb (by have h7 := hb4 ((lkO q x0 i).2.1 ((lkO q x0 i).2.2.1 i)); omega) dX1_link_58 (by decide) (fun c58_20 => ?_) (fun c58_20 => ?_)
        · refine lv_iconst (v := nI (0)) hx hb dX1_link_65 (by decide) ?_
          have hval : nI 0 = nI (if ¬ (lkO q x0 i).2.2.2.1 ((lkO q x0 i).2.2.1 i) = 0 then 1 else if ¬ (lkO q x0 i).2.2.2.1 ((lkO q x0 i).2.1 ((lkO q x0 i).2.2.1 i)) = 0 then 1 else 0) := by rw [if_neg (fun h => h c43_5), if_neg (fun h => h c58_20)]
          refine xw_zast hx hb hK hP hD hS (by decide) 2 fa12 rfl hss (by decide) (by rfl) dX1_link_66 (fun g21 H locs eg21 hP hS => ?_)
          have fg21_0 : g21 (8) = .inr (1, [.ref (ad (9)), .ref (ad (10)), .ref (ad (11)), .ref (ad (12)), .ref (ad (na)), .ref (ad (nb)), .int (nI (S))]) := (congrFun eg21 (8)).trans ((va_up_ne _ _ (by decide)).trans fo8)
          have fg21_1 : g21 (1) = .inr (0, [.ref (ad (2)), .int (nI (q)), .int (nI (Wt))]) := (congrFun eg21 (1)).trans ((va_up_ne _ _ (by decide)).trans fo_1)
          have fg21_2 : g21 (9) = .inl (cI, 164, .inl (g9o)) := (congrFun eg21 (9)).trans ((va_up_ne _ _ (by decide)).trans fa9)
          have fg21_3 : g21 (10) = .inl (cI, 41, .inl (g10o)) := (congrFun eg21 (10)).trans ((va_up_ne _ _ (by decide)).trans fa10)
          have fg21_4 : g21 (11) = .inl (cI, 41, .inl (g11o)) := (congrFun eg21 (11)).trans ((va_up_ne _ _ (by decide)).trans fa11)
          have fg21_w : g21 (12) = .inl (cZ, 41, .inl (upd (g12o) ((lkO q x0 i).2.2.1 (i)) (nI (0)))) := (congrFun eg21 (12)).trans (va_up_self _ _ _)
          have hfrg21 : ∀ j : Nat, j ≠ 9 → j ≠ 10 → j ≠ 11 → j ≠ 12 → g21 j = g j := fun j h0 h1 h2 h3 => (congrFun eg21 j).trans ((va_up_ne _ _ h3).trans (hfrgl11_2 j h0 h1 h2 h3))
          have hk12 : ∀ j, j < 41 → upd (g12o) ((lkO q x0 i).2.2.1 (i)) (nI (0)) j = nI ((lkH ((lkO q x0 i).2.2.1 i) (lkO q x0 i)).2.2.2.1 j) := by rw [hval]; exact upd_nI k12o
          refine lv_iconst (v := nI (0)) hx hb dX1_link_67 (by decide) ?_
          refine lv_istore (lv' := [(5, .int (nI (0))), (4, .int (nI ((lkO q x0 i).2.2.1 (i)))), (0, .ref (ad (8))), (1, .ref (ad (1))), (2, .int (nI ((lkO q x0 i).2.2.2.2))), (3, .int (nI (i)))]) hx hb dX1_link_68 hl (by decide) rfl (fun ls hl => ?_)
          refine xloopW (G := fun H locs fr => W p l e _ s m _ below meth c H locs _ _ _ fr) (σ := Nat × (Nat → Int32) × (Nat → Int32) × (Nat → Int32) × (Nat → Int32)) (fun (c, g9n, g10n, g11n, g12n) ls => F0 m 70 ls []) (fun (c, g9n, g10n, g11n, g12n) gl70_22 H locs ls => (c ≤ q) ∧ (∀ j, j < 164 → g9n j = nI ((lkL ((lkO q x0 i).2.2.1 i) (lkH ((lkO q x0 i).2.2.1 i) (lkO q x0 i)) c).1 j)) ∧ (∀ j, j < 41 → g10n j = nI ((lkL ((lkO q x0 i).2.2.1 i) (lkH ((lkO q x0 i).2.2.1 i) (lkO q x0 i)) c).2.1 j)) ∧ (∀ j, j < 41 → g11n j = nI ((lkL ((lkO q x0 i).2.2.1 i) (lkH ((lkO q x0 i).2.2.1 i) (lkO q x0 i)) c).2.2.1 j)) ∧ (∀ j, j < 41 → g12n j = nI ((lkL ((lkO q x0 i).2.2.1 i) (lkH ((lkO q x0 i).2.2.1 i) (lkO q x0 i)) c).2.2.2.1 j)) ∧ gl70_22 (8) = .inr (1, [.ref (ad (9)), .ref (ad (10)), .ref (ad (11)), .ref (ad (12)), .ref (ad (na)), .ref (ad (nb)), .int (nI (S))]) ∧ gl70_22 (1) = .inr (0, [.ref (ad (2)), .int (nI (q)), .int (nI (Wt))]) ∧ gl70_22 (9) = .inl (cI, 164, .inl (g9n)) ∧ gl70_22 (10) = .inl (cI, 41, .inl (g10n)) ∧ gl70_22 (11) = .inl (cI, 41, .inl (g11n)) ∧ gl70_22 (12) = .inl (cZ, 41, .inl (g12n)) ∧ (∀ j : Nat, j ≠ 9 → j ≠ 10 → j ≠ 11 → j ≠ 12 → gl70_22 j = g j) ∧ va_P D vwCl (xw 81 ad gl70_22) H ∧ va_S A s.heap H locs ∧ lv_has ls 9 [(0, .ref (ad (8))), (1, .ref (ad (1))), (2, .int (nI ((lkL ((lkO q x0 i).2.2.1 i) (lkH ((lkO q x0 i).2.2.1 i) (lkO q x0 i)) c).2.2.2.2))), (3, .int (nI (i))), (4, .int (nI ((lkO q x0 i).2.2.1 i))), (5, .int (nI (c)))]) (fun (c, g9n, g10n, g11n, g12n) => q - c) ?_ (0, g9o, g10o, g11o, upd (g12o) ((lkO q x0 i).2.2.1 (i)) (nI (0))) g21 H locs ls ⟨(by omega), k9o, k10o, k11o, hk12, fg21_0, fg21_1, fg21_2, fg21_3, fg21_4, fg21_w, hfrg21, hP, hS, (lv_sub hl [2, 3, 4, 5, 1, 0] rfl)⟩
          rintro ⟨c, g9n, g10n, g11n, g12n⟩ gl70_22 H locs ls ⟨hc, k9n, k10n, k11n, k12n, fo8, fo_1, fa9, fa10, fa11, fa12, hfrgl70_22, hP, hS, hl⟩ ih70
          refine lv_iload hx hb dX1_link_70 (lv_at hl 5 rfl) ?_
          obtain ⟨hd1, hd2, hd3, hd4, hd5⟩ := lkL_B (s := (lkO q x0 i).2.2.1 i) (lkH_B (s := (lkO q x0 i).2.2.1 i) (lkO_B (q := q) hxB i)) c
          have hd2s := hd2 ((lkO q x0 i).2.2.1 i)
          refine lv_aload_n hx hb dX1_link_72 rfl (lv_at hl 1 rfl) ?_
          refine xw_get hx hb hts hin0 hown hK hP (by decide) fo_1 rfl 1 (by decide) hf50 rfl rfl dX1_link_73 ?_
          refine xi_icmp_ge (tgt := 174) hx hb (by omega) (by omega) dX1_link_76 (by decide) (fun c76_23 => ?_) (fun c76_23 => ?_)
          · have hce : c = q := by omega
            have hcq : (lkL ((lkO q x0 i).2.2.1 i) (lkH ((lkO q x0 i).2.2.1 i) (lkO q x0 i)) c) = lkO q x0 (i + 1) := by rw [hce]; rfl
            refine lv_iinc (v := nI (i + 1)) (lv' := [(3, .int (nI (i + 1))), (0, .ref (ad (8))), (1, .ref (ad (1))), (2, .int (nI ((lkL ((lkO q x0 i).2.2.1 i) (lkH ((lkO q x0 i).2.2.1 i) (lkO q x0 i)) c).2.2.2.2))), (4, .int (nI ((lkO q x0 i).2.2.1 i))), (5, .int (nI (c)))]) hx hb dX1_link_174 hl (k := 3) rfl (nI_add (i) 1) (by decide) rfl (fun ls hl => ?_)
            refine lv_goto (tgt := 11) hx hb dX1_link_177 (by decide) ?_
            exact ih11 (i + 1, g9n, g10n, g11n, g12n) gl70_22 H locs ls ⟨(by omega), (fun x hx => if e : x = i then by subst e; exact hif else hbf x (by omega)), (by rw [hcq] at k9n; exact k9n), (by rw [hcq] at k10n; exact k10n), (by rw [hcq] at k11n; exact k11n), (by rw [hcq] at k12n; exact k12n), fo8, fo_1, fa9, fa10, fa11, fa12, hfrgl70_22, hP, hS, (by rw [hcq] at hl; exact (lv_sub hl [1, 2, 3, 0] rfl))⟩ (by first | omega | (dsimp only; omega))
          · refine lv_iload hx hb dX1_link_79 (lv_at hl 4 rfl) ?_
            refine lv_iconst (v := nI (4)) hx hb dX1_link_81 (by decide) ?_
            refine xi_mul hx hb dX1_link_82 ?_
            refine lv_iload hx hb dX1_link_83 (lv_at hl 5 rfl) ?_
            refine xi_add hx hb dX1_link_85 ?_
            refine lv_istore (lv' := [(6, .int (nI ((((lkO q x0 i).2.2.1 i) * 4) + c))), (0, .ref (ad (8))), (1, .ref (ad (1))), (2, .int (nI ((lkL ((lkO q x0 i).2.2.1 i) (lkH ((lkO q x0 i).2.2.1 i) (lkO q x0 i)) c).2.2.2.2))), (3, .int (nI (i))), (4, .int (nI ((lkO q x0 i).2.2.1 i))), (5, .int (nI (c)))]) hx hb dX1_link_86 hl (by decide) rfl (fun ls hl => ?_)
            refine lv_aload_n hx hb dX1_link_88 rfl (lv_at hl 1 rfl) ?_
            refine xw_get hx hb hts hin1 hown hK hP (by decide) fo8 rfl 0 (by decide) hf11 rfl rfl dX1_link_89 ?_
            refine lv_iload hx hb dX1_link_92 (lv_at hl 0 rfl) ?_
            refine xw_iald hx hb hK hP (by decide) 0 fa9 rfl (by omega) (by decide) dX1_link_94 ?_
            rw [k9n ((((lkO q x0 i).2.2.1 i) * 4) + c) (by omega)]
            refine lv_istore (lv' := [(7, .int (nI ((lkL ((lkO q x0 i).2.2.1 i) (lkH ((lkO q x0 i).2.2.1 i) (lkO q x0 i)) c).1 ((((lkO q x0 i).2.2.1 i) * 4) + c)))), (6, .int (nI ((((lkO q x0 i).2.2.1 i) * 4) + c))), (0, .ref (ad (8))), (1, .ref (ad (1))), (2, .int (nI ((lkL ((lkO q x0 i).2.2.1 i) (lkH ((lkO q x0 i).2.2.1 i) (lkO q x0 i)) c).2.2.2.2))), (3, .int (nI (i))), (4, .int (nI ((lkO q x0 i).2.2.1 i))), (5, .int (nI (c)))]) hx hb dX1_link_95 hl (by decide) rfl (fun ls hl => ?_)
            refine lv_iload hx hb dX1_link_97 (lv_at hl 6 rfl) ?_
            refine xi_if_ne (tgt := 106) hx hb (by omega) dX1_link_99 (by decide) (fun c99_24 => ?_) (fun c99_24 => ?_)
            · refine lv_aload_n hx hb dX1_link_106 rfl (lv_at hl 2 rfl) ?_
              refine xw_get hx hb hts hin1 hown hK hP (by decide) fo8 rfl 0 (by decide) hf11 rfl rfl dX1_link_107 ?_
              refine lv_aload_n hx hb dX1_link_110 rfl (lv_at hl 2 rfl) ?_
              refine xw_get hx hb hts hin1 hown hK hP (by decide) fo8 rfl 1 (by decide) hf15 rfl rfl dX1_link_111 ?_
              refine lv_iload hx hb dX1_link_114 (lv_at hl 6 rfl) ?_
              refine xw_iald hx hb hK hP (by decide) 0 fa10 rfl hss (by decide) dX1_link_116 ?_
              rw [k10n ((lkO q x0 i).2.2.1 i) (by omega)]
              refine lv_iconst (v := nI (4)) hx hb dX1_link_117 (by decide) ?_
              refine xi_mul hx hb dX1_link_118 ?_
              refine lv_iload hx hb dX1_link_119 (lv_at hl 7 rfl) ?_
              refine xi_add hx hb dX1_link_121 ?_
              refine xw_iald hx hb hK hP (by decide) 0 fa9 rfl (by have h7 := hd2 ((lkO q x0 i).2.2.1 i); omega) (by decide) dX1_link_122 ?_
              rw [k9n ((((lkL ((lkO q x0 i).2.2.1 i) (lkH ((lkO q x0 i).2.2.1 i) (lkO q x0 i)) c).2.1 ((lkO q x0 i).2.2.1 i)) * 4) + c) (by omega)]
              refine xtopi (y := nI (if (lkO q x0 i).2.2.1 i = 0 then 0 else (lkL ((lkO q x0 i).2.2.1 i) (lkH ((lkO q x0 i).2.2.1 i) (lkO q x0 i)) c).1 ((lkL ((lkO q x0 i).2.2.1 i) (lkH ((lkO q x0 i).2.2.1 i) (lkO q x0 i)) c).2.1 ((lkO q x0 i).2.2.1 i) * 4 + c))) (by rw [if_neg c99_24]) ?_
              refine lv_istore (lv' := [(8, .int (nI (if (lkO q x0 i).2.2.1 i = 0 then 0 else (lkL ((lkO q x0 i).2.2.1 i) (lkH ((lkO q x0 i).2.2.1 i) (lkO q x0 i)) c).1 ((lkL ((lkO q x0 i).2.2.1 i) (lkH ((lkO q x0 i).2.2.1 i) (lkO q x0 i)) c).2.1 ((lkO q x0 i).2.2.1 i) * 4 + c)))), (7, .int (nI ((lkL ((lkO q x0 i).2.2.1 i) (lkH ((lkO q x0 i).2.2.1 i) (lkO q x0 i)) c).1 ((((lkO q x0 i).2.2.1 i) * 4) + c)))), (6, .int (nI ((((lkO q x0 i).2.2.1 i) * 4) + c))), (0, .ref (ad (8))), (1, .ref (ad (1))), (2, .int (nI ((lkL ((lkO q x0 i).2.2.1 i) (lkH ((lkO q x0 i).2.2.1 i) (lkO q x0 i)) c).2.2.2.2))), (3, .int (nI (i))), (4, .int (nI ((lkO q x0 i).2.2.1 i))), (5, .int (nI (c)))]) hx hb dX1_link_123 hl (by decide) rfl (fun ls hl => ?_)
              refine lv_iload hx hb dX1_link_125 (lv_at hl 1 rfl) ?_
              refine xi_if_ne (tgt := 142) hx hb (by have h7 := hd1 ((lkO q x0 i).2.2.1 i * 4 + c); omega) dX1_link_127 (by decide) (fun c127_25 => ?_) (fun c127_25 => ?_)
              · refine lv_iload_n hx hb dX1_link_142 rfl (lv_at hl 5 rfl) ?_
                refine lv_bipush (v := nI (41)) hx hb dX1_link_143 (by decide) ?_
                refine xi_icmp_ge (tgt := 168) hx hb (by omega) (by decide) dX1_link_145 (by decide) (fun c145_26 => ?_) (fun c145_26 => ?_)
                · have hlk : lkL ((lkO q x0 i).2.2.1 i) (lkH ((lkO q x0 i).2.2.1 i) (lkO q x0 i)) (c + 1) = _ := lkC_2 (s := (lkO q x0 i).2.2.1 i) (c := c) c127_25 (by omega)
                  refine lv_iinc (v := nI (c + 1)) (lv' := [(5, .int (nI (c + 1))), (8, .int (nI (if (lkO q x0 i).2.2.1 i = 0 then 0 else (lkL ((lkO q x0 i).2.2.1 i) (lkH ((lkO q x0 i).2.2.1 i) (lkO q x0 i)) c).1 ((lkL ((lkO q x0 i).2.2.1 i) (lkH ((lkO q x0 i).2.2.1 i) (lkO q x0 i)) c).2.1 ((lkO q x0 i).2.2.1 i) * 4 + c)))), (7, .int (nI ((lkL ((lkO q x0 i).2.2.1 i) (lkH ((lkO q x0 i).2.2.1 i) (lkO q x0 i)) c).1 ((((lkO q x0 i).2.2.1 i) * 4) + c)))), (6, .int (nI ((((lkO q x0 i).2.2.1 i) * 4) + c))), (0, .ref (ad (8))), (1, .ref (ad (1))), (2, .int (nI ((lkL ((lkO q x0 i).2.2.1 i) (lkH ((lkO q x0 i).2.2.1 i) (lkO q x0 i)) c).2.2.2.2))), (3, .int (nI (i))), (4, .int (nI ((lkO q x0 i).2.2.1 i)))]) hx hb dX1_link_168 hl (k := 8) rfl (nI_add (c) 1) (by decide) rfl (fun ls hl => ?_)
                  refine lv_goto (tgt := 70) hx hb dX1_link_171 (by decide) ?_
                  exact ih70 (c + 1, g9n, g10n, g11n, g12n) gl70_22 H locs ls ⟨(by omega), (by rw [hlk]; exact k9n), (by rw [hlk]; exact k10n), (by rw [hlk]; exact k11n), (by rw [hlk]; exact k12n), fo8, fo_1, fa9, fa10, fa11, fa12, hfrgl70_22, hP, hS, (by rw [hlk]; exact (lv_sub hl [4, 5, 6, 7, 8, 0] rfl))⟩ (by first | omega | (dsimp only; omega))
                · have hlk : lkL ((lkO q x0 i).2.2.1 i) (lkH ((lkO q x0 i).2.2.1 i) (lkO q x0 i)) (c + 1) = _ := lkC_1 (s := (lkO q x0 i).2.2.1 i) (c := c) c127_25 c145_26
                  refine lv_aload_n hx hb dX1_link_148 rfl (lv_at hl 3 rfl) ?_
                  refine xw_get hx hb hts hin1 hown hK hP (by decide) fo8 rfl 1 (by decide) hf15 rfl rfl dX1_link_149 ?_
                  refine lv_iload hx hb dX1_link_152 (lv_at hl 1 rfl) ?_
                  refine lv_iload hx hb dX1_link_154 (lv_at hl 0 rfl) ?_
                  refine xw_iast hx hb hK hP hD hS (by decide) 0 fa10 rfl (hd1 _) (by decide) dX1_link_156 (fun g27 H locs eg27 hP hS => ?_)
                  have fg27_0 : g27 (8) = .inr (1, [.ref (ad (9)), .ref (ad (10)), .ref (ad (11)), .ref (ad (12)), .ref (ad (na)), .ref (ad (nb)), .int (nI (S))]) := (congrFun eg27 (8)).trans ((va_up_ne _ _ (by decide)).trans fo8)
                  have fg27_1 : g27 (1) = .inr (0, [.ref (ad (2)), .int (nI (q)), .int (nI (Wt))]) := (congrFun eg27 (1)).trans ((va_up_ne _ _ (by decide)).trans fo_1)
                  have fg27_2 : g27 (9) = .inl (cI, 164, .inl (g9n)) := (congrFun eg27 (9)).trans ((va_up_ne _ _ (by decide)).trans fa9)
                  have fg27_3 : g27 (11) = .inl (cI, 41, .inl (g11n)) := (congrFun eg27 (11)).trans ((va_up_ne _ _ (by decide)).trans fa11)
                  have fg27_4 : g27 (12) = .inl (cZ, 41, .inl (g12n)) := (congrFun eg27 (12)).trans ((va_up_ne _ _ (by decide)).trans fa12)
                  have fg27_w : g27 (10) = .inl (cI, 41, .inl (upd (g10n) ((lkL ((lkO q x0 i).2.2.1 i) (lkH ((lkO q x0 i).2.2.1 i) (lkO q x0 i)) c).1 ((((lkO q x0 i).2.2.1 i) * 4) + c)) (nI (if (lkO q x0 i).2.2.1 i = 0 then 0 else (lkL ((lkO q x0 i).2.2.1 i) (lkH ((lkO q x0 i).2.2.1 i) (lkO q x0 i)) c).1 ((lkL ((lkO q x0 i).2.2.1 i) (lkH ((lkO q x0 i).2.2.1 i) (lkO q x0 i)) c).2.1 ((lkO q x0 i).2.2.1 i) * 4 + c))))) := (congrFun eg27 (10)).trans (va_up_self _ _ _)
                  have hfrg27 : ∀ j : Nat, j ≠ 9 → j ≠ 10 → j ≠ 11 → j ≠ 12 → g27 j = g j := fun j h0 h1 h2 h3 => (congrFun eg27 j).trans ((va_up_ne _ _ h1).trans (hfrgl70_22 j h0 h1 h2 h3))
                  refine lv_aload_n hx hb dX1_link_157 rfl (lv_at hl 3 rfl) ?_
                  refine xw_get hx hb hts hin1 hown hK hP (by decide) fg27_0 rfl 2 (by decide) hf18 rfl rfl dX1_link_158 ?_
                  refine lv_iload_n hx hb dX1_link_161 rfl (lv_at hl 5 rfl) ?_
                  refine lv_iload hx hb dX1_link_162 (lv_at hl 1 rfl) ?_
                  refine xw_iast hx hb hK hP hD hS (by decide) 0 fg27_3 rfl (by omega) (by decide) dX1_link_164 (fun g28 H locs eg28 hP hS => ?_)
                  have fg28_0 : g28 (8) = .inr (1, [.ref (ad (9)), .ref (ad (10)), .ref (ad (11)), .ref (ad (12)), .ref (ad (na)), .ref (ad (nb)), .int (nI (S))]) := (congrFun eg28 (8)).trans ((va_up_ne _ _ (by decide)).trans fg27_0)
                  have fg28_1 : g28 (1) = .inr (0, [.ref (ad (2)), .int (nI (q)), .int (nI (Wt))]) := (congrFun eg28 (1)).trans ((va_up_ne _ _ (by decide)).trans fg27_1)
                  have fg28_2 : g28 (9) = .inl (cI, 164, .inl (g9n)) := (congrFun eg28 (9)).trans ((va_up_ne _ _ (by decide)).trans fg27_2)
                  have fg28_3 : g28 (12) = .inl (cZ, 41, .inl (g12n)) := (congrFun eg28 (12)).trans ((va_up_ne _ _ (by decide)).trans fg27_4)
                  have fg28_4 : g28 (10) = .inl (cI, 41, .inl (upd (g10n) ((lkL ((lkO q x0 i).2.2.1 i) (lkH ((lkO q x0 i).2.2.1 i) (lkO q x0 i)) c).1 ((((lkO q x0 i).2.2.1 i) * 4) + c)) (nI (if (lkO q x0 i).2.2.1 i = 0 then 0 else (lkL ((lkO q x0 i).2.2.1 i) (lkH ((lkO q x0 i).2.2.1 i) (lkO q x0 i)) c).1 ((lkL ((lkO q x0 i).2.2.1 i) (lkH ((lkO q x0 i).2.2.1 i) (lkO q x0 i)) c).2.1 ((lkO q x0 i).2.2.1 i) * 4 + c))))) := (congrFun eg28 (10)).trans ((va_up_ne _ _ (by decide)).trans fg27_w)
                  have fg28_w : g28 (11) = .inl (cI, 41, .inl (upd (g11n) ((lkL ((lkO q x0 i).2.2.1 i) (lkH ((lkO q x0 i).2.2.1 i) (lkO q x0 i)) c).2.2.2.2) (nI ((lkL ((lkO q x0 i).2.2.1 i) (lkH ((lkO q x0 i).2.2.1 i) (lkO q x0 i)) c).1 ((((lkO q x0 i).2.2.1 i) * 4) + c))))) := (congrFun eg28 (11)).trans (va_up_self _ _ _)
                  have hfrg28 : ∀ j : Nat, j ≠ 9 → j ≠ 10 → j ≠ 11 → j ≠ 12 → g28 j = g j := fun j h0 h1 h2 h3 => (congrFun eg28 j).trans ((va_up_ne _ _ h2).trans (hfrg27 j h0 h1 h2 h3))
                  refine lv_iinc (v := nI ((lkL ((lkO q x0 i).2.2.1 i) (lkH ((lkO q x0 i).2.2.1 i) (lkO q x0 i)) c).2.2.2.2 + 1)) (lv' := [(2, .int (nI ((lkL ((lkO q x0 i).2.2.1 i) (lkH ((lkO q x0 i).2.2.1 i) (lkO q x0 i)) c).2.2.2.2 + 1))), (8, .int (nI (if (lkO q x0 i).2.2.1 i = 0 then 0 else (lkL ((lkO q x0 i).2.2.1 i) (lkH ((lkO q x0 i).2.2.1 i) (lkO q x0 i)) c).1 ((lkL ((lkO q x0 i).2.2.1 i) (lkH ((lkO q x0 i).2.2.1 i) (lkO q x0 i)) c).2.1 ((lkO q x0 i).2.2.1 i) * 4 + c)))), (7, .int (nI ((lkL ((lkO q x0 i).2.2.1 i) (lkH ((lkO q x0 i).2.2.1 i) (lkO q x0 i)) c).1 ((((lkO q x0 i).2.2.1 i) * 4) + c)))), (6, .int (nI ((((lkO q x0 i).2.2.1 i) * 4) + c))), (0, .ref (ad (8))), (1, .ref (ad (1))), (3, .int (nI (i))), (4, .int (nI ((lkO q x0 i).2.2.1 i))), (5, .int (nI (c)))]) hx hb dX1_link_165 hl (k := 5) rfl (nI_add ((lkL ((lkO q x0 i).2.2.1 i) (lkH ((lkO q x0 i).2.2.1 i) (lkO q x0 i)) c).2.2.2.2) 1) (by decide) rfl (fun ls hl => ?_)
                  refine lv_iinc (v := nI (c + 1)) (lv' := [(5, .int (nI (c + 1))), (2, .int (nI ((lkL ((lkO q x0 i).2.2.1 i) (lkH ((lkO q x0 i).2.2.1 i) (lkO q x0 i)) c).2.2.2.2 + 1))), (8, .int (nI (if (lkO q x0 i).2.2.1 i = 0 then 0 else (lkL ((lkO q x0 i).2.2.1 i) (lkH ((lkO q x0 i).2.2.1 i) (lkO q x0 i)) c).1 ((lkL ((lkO q x0 i).2.2.1 i) (lkH ((lkO q x0 i).2.2.1 i) (lkO q x0 i)) c).2.1 ((lkO q x0 i).2.2.1 i) * 4 + c)))), (7, .int (nI ((lkL ((lkO q x0 i).2.2.1 i) (lkH ((lkO q x0 i).2.2.1 i) (lkO q x0 i)) c).1 ((((lkO q x0 i).2.2.1 i) * 4) + c)))), (6, .int (nI ((((lkO q x0 i).2.2.1 i) * 4) + c))), (0, .ref (ad (8))), (1, .ref (ad (1))), (3, .int (nI (i))), (4, .int (nI ((lkO q x0 i).2.2.1 i)))]) hx hb dX1_link_168 hl (k := 8) rfl (nI_add (c) 1) (by decide) rfl (fun ls hl => ?_)
                  refine lv_goto (tgt := 70) hx hb dX1_link_171 (by decide) ?_
                  exact ih70 (c + 1, g9n, upd (g10n) ((lkL ((lkO q x0 i).2.2.1 i) (lkH ((lkO q x0 i).2.2.1 i) (lkO q x0 i)) c).1 ((((lkO q x0 i).2.2.1 i) * 4) + c)) (nI (if (lkO q x0 i).2.2.1 i = 0 then 0 else (lkL ((lkO q x0 i).2.2.1 i) (lkH ((lkO q x0 i).2.2.1 i) (lkO q x0 i)) c).1 ((lkL ((lkO q x0 i).2.2.1 i) (lkH ((lkO q x0 i).2.2.1 i) (lkO q x0 i)) c).2.1 ((lkO q x0 i).2.2.1 i) * 4 + c))), upd (g11n) ((lkL ((lkO q x0 i).2.2.1 i) (lkH ((lkO q x0 i).2.2.1 i) (lkO q x0 i)) c).2.2.2.2) (nI ((lkL ((lkO q x0 i).2.2.1 i) (lkH ((lkO q x0 i).2.2.1 i) (lkO q x0 i)) c).1 ((((lkO q x0 i).2.2.1 i) * 4) + c))), g12n) g28 H locs ls ⟨(by omega), (by rw [hlk]; exact k9n), (by rw [hlk]; exact upd_nI k10n), (by rw [hlk]; exact upd_nI k11n), (by rw [hlk]; exact k12n), fg28_0, fg28_1, fg28_2, fg28_4, fg28_w, fg28_3, hfrg28, hP, hS, (by rw [hlk]; exact (lv_sub hl [5, 6, 1, 7, 8, 0] rfl))⟩ (by first | omega | (dsimp only; omega))
              · have hlk : lkL ((lkO q x0 i).2.2.1 i) (lkH ((lkO q x0 i).2.2.1 i) (lkO q x0 i)) (c + 1) = _ := lkC_0 (s := (lkO q x0 i).2.2.1 i) (c := c) c127_25
                refine lv_aload_n hx hb dX1_link_130 rfl (lv_at hl 3 rfl) ?_
                refine xw_get hx hb hts hin1 hown hK hP (by decide) fo8 rfl 0 (by decide) hf11 rfl rfl dX1_link_131 ?_
                refine lv_iload hx hb dX1_link_134 (lv_at hl 2 rfl) ?_
                refine lv_iload hx hb dX1_link_136 (lv_at hl 0 rfl) ?_
                refine xw_iast hx hb hK hP hD hS (by decide) 0 fa9 rfl (by omega) (by decide) dX1_link_138 (fun g29 H locs eg29 hP hS => ?_)
                have fg29_0 : g29 (8) = .inr (1, [.ref (ad (9)), .ref (ad (10)), .ref (ad (11)), .ref (ad (12)), .ref (ad (na)), .ref (ad (nb)), .int (nI (S))]) := (congrFun eg29 (8)).trans ((va_up_ne _ _ (by decide)).trans fo8)
                have fg29_1 : g29 (1) = .inr (0, [.ref (ad (2)), .int (nI (q)), .int (nI (Wt))]) := (congrFun eg29 (1)).trans ((va_up_ne _ _ (by decide)).trans fo_1)
                have fg29_2 : g29 (10) = .inl (cI, 41, .inl (g10n)) := (congrFun eg29 (10)).trans ((va_up_ne _ _ (by decide)).trans fa10)
                have fg29_3 : g29 (11) = .inl (cI, 41, .inl (g11n)) := (congrFun eg29 (11)).trans ((va_up_ne _ _ (by decide)).trans fa11)
                have fg29_4 : g29 (12) = .inl (cZ, 41, .inl (g12n)) := (congrFun eg29 (12)).trans ((va_up_ne _ _ (by decide)).trans fa12)
                have fg29_w : g29 (9) = .inl (cI, 164, .inl (upd (g9n) ((((lkO q x0 i).2.2.1 i) * 4) + c) (nI (if (lkO q x0 i).2.2.1 i = 0 then 0 else (lkL ((lkO q x0 i).2.2.1 i) (lkH ((lkO q x0 i).2.2.1 i) (lkO q x0 i)) c).1 ((lkL ((lkO q x0 i).2.2.1 i) (lkH ((lkO q x0 i).2.2.1 i) (lkO q x0 i)) c).2.1 ((lkO q x0 i).2.2.1 i) * 4 + c))))) := (congrFun eg29 (9)).trans (va_up_self _ _ _)
                have hfrg29 : ∀ j : Nat, j ≠ 9 → j ≠ 10 → j ≠ 11 → j ≠ 12 → g29 j = g j := fun j h0 h1 h2 h3 => (congrFun eg29 j).trans ((va_up_ne _ _ h0).trans (hfrgl70_22 j h0 h1 h2 h3))
                refine lv_goto (tgt := 168) hx hb dX1_link_139 (by decide) ?_
                refine lv_iinc (v := nI (c + 1)) (lv' := [(5, .int (nI (c + 1))), (8, .int (nI (if (lkO q x0 i).2.2.1 i = 0 then 0 else (lkL ((lkO q x0 i).2.2.1 i) (lkH ((lkO q x0 i).2.2.1 i) (lkO q x0 i)) c).1 ((lkL ((lkO q x0 i).2.2.1 i) (lkH ((lkO q x0 i).2.2.1 i) (lkO q x0 i)) c).2.1 ((lkO q x0 i).2.2.1 i) * 4 + c)))), (7, .int (nI ((lkL ((lkO q x0 i).2.2.1 i) (lkH ((lkO q x0 i).2.2.1 i) (lkO q x0 i)) c).1 ((((lkO q x0 i).2.2.1 i) * 4) + c)))), (6, .int (nI ((((lkO q x0 i).2.2.1 i) * 4) + c))), (0, .ref (ad (8))), (1, .ref (ad (1))), (2, .int (nI ((lkL ((lkO q x0 i).2.2.1 i) (lkH ((lkO q x0 i).2.2.1 i) (lkO q x0 i)) c).2.2.2.2))), (3, .int (nI (i))), (4, .int (nI ((lkO q x0 i).2.2.1 i)))]) hx hb dX1_link_168 hl (k := 8) rfl (nI_add (c) 1) (by decide) rfl (fun ls hl => ?_)
                refine lv_goto (tgt := 70) hx hb dX1_link_171 (by decide) ?_
                exact ih70 (c + 1, upd (g9n) ((((lkO q x0 i).2.2.1 i) * 4) + c) (nI (if (lkO q x0 i).2.2.1 i = 0 then 0 else (lkL ((lkO q x0 i).2.2.1 i) (lkH ((lkO q x0 i).2.2.1 i) (lkO q x0 i)) c).1 ((lkL ((lkO q x0 i).2.2.1 i) (lkH ((lkO q x0 i).2.2.1 i) (lkO q x0 i)) c).2.1 ((lkO q x0 i).2.2.1 i) * 4 + c))), g10n, g11n, g12n) g29 H locs ls ⟨(by omega), (by rw [hlk]; exact upd_nI k9n), (by rw [hlk]; exact k10n), (by rw [hlk]; exact k11n), (by rw [hlk]; exact k12n), fg29_0, fg29_1, fg29_w, fg29_2, fg29_3, fg29_4, hfrg29, hP, hS, (by rw [hlk]; exact (lv_sub hl [4, 5, 6, 7, 8, 0] rfl))⟩ (by first | omega | (dsimp only; omega))
            · refine lv_iconst (v := nI (0)) hx hb dX1_link_102 (by decide) ?_
              refine lv_goto (tgt := 123) hx hb dX1_link_103 (by decide) ?_
              refine xtopi (y := nI (if (lkO q x0 i).2.2.1 i = 0 then 0 else (lkL ((lkO q x0 i).2.2.1 i) (lkH ((lkO q x0 i).2.2.1 i) (lkO q x0 i)) c).1 ((lkL ((lkO q x0 i).2.2.1 i) (lkH ((lkO q x0 i).2.2.1 i) (lkO q x0 i)) c).2.1 ((lkO q x0 i).2.2.1 i) * 4 + c))) (by rw [if_pos c99_24]) ?_
              refine lv_istore (lv' := [(8, .int (nI (if (lkO q x0 i).2.2.1 i = 0 then 0 else (lkL ((lkO q x0 i).2.2.1 i) (lkH ((lkO q x0 i).2.2.1 i) (lkO q x0 i)) c).1 ((lkL ((lkO q x0 i).2.2.1 i) (lkH ((lkO q x0 i).2.2.1 i) (lkO q x0 i)) c).2.1 ((lkO q x0 i).2.2.1 i) * 4 + c)))), (7, .int (nI ((lkL ((lkO q x0 i).2.2.1 i) (lkH ((lkO q x0 i).2.2.1 i) (lkO q x0 i)) c).1 ((((lkO q x0 i).2.2.1 i) * 4) + c)))), (6, .int (nI ((((lkO q x0 i).2.2.1 i) * 4) + c))), (0, .ref (ad (8))), (1, .ref (ad (1))), (2, .int (nI ((lkL ((lkO q x0 i).2.2.1 i) (lkH ((lkO q x0 i).2.2.1 i) (lkO q x0 i)) c).2.2.2.2))), (3, .int (nI (i))), (4, .int (nI ((lkO q x0 i).2.2.1 i))), (5, .int (nI (c)))]) hx hb dX1_link_123 hl (by decide) rfl (fun ls hl => ?_)
              refine lv_iload hx hb dX1_link_125 (lv_at hl 1 rfl) ?_
              refine xi_if_ne (tgt := 142) hx hb (by have h7 := hd1 ((lkO q x0 i).2.2.1 i * 4 + c); omega) dX1_link_127 (by decide) (fun c127_30 => ?_) (fun c127_30 => ?_)
              · refine lv_iload_n hx hb dX1_link_142 rfl (lv_at hl 5 rfl) ?_
                refine lv_bipush (v := nI (41)) hx hb dX1_link_143 (by decide) ?_
                refine xi_icmp_ge (tgt := 168) hx hb (by omega) (by decide) dX1_link_145 (by decide) (fun c145_31 => ?_) (fun c145_31 => ?_)
                · have hlk : lkL ((lkO q x0 i).2.2.1 i) (lkH ((lkO q x0 i).2.2.1 i) (lkO q x0 i)) (c + 1) = _ := lkC_2 (s := (lkO q x0 i).2.2.1 i) (c := c) c127_30 (by omega)
                  refine lv_iinc (v := nI (c + 1)) (lv' := [(5, .int (nI (c + 1))), (8, .int (nI (if (lkO q x0 i).2.2.1 i = 0 then 0 else (lkL ((lkO q x0 i).2.2.1 i) (lkH ((lkO q x0 i).2.2.1 i) (lkO q x0 i)) c).1 ((lkL ((lkO q x0 i).2.2.1 i) (lkH ((lkO q x0 i).2.2.1 i) (lkO q x0 i)) c).2.1 ((lkO q x0 i).2.2.1 i) * 4 + c)))), (7, .int (nI ((lkL ((lkO q x0 i).2.2.1 i) (lkH ((lkO q x0 i).2.2.1 i) (lkO q x0 i)) c).1 ((((lkO q x0 i).2.2.1 i) * 4) + c)))), (6, .int (nI ((((lkO q x0 i).2.2.1 i) * 4) + c))), (0, .ref (ad (8))), (1, .ref (ad (1))), (2, .int (nI ((lkL ((lkO q x0 i).2.2.1 i) (lkH ((lkO q x0 i).2.2.1 i) (lkO q x0 i)) c).2.2.2.2))), (3, .int (nI (i))), (4, .int (nI ((lkO q x0 i).2.2.1 i)))]) hx hb dX1_link_168 hl (k := 8) rfl (nI_add (c) 1) (by decide) rfl (fun ls hl => ?_)
                  refine lv_goto (tgt := 70) hx hb dX1_link_171 (by decide) ?_
                  exact ih70 (c + 1, g9n, g10n, g11n, g12n) gl70_22 H locs ls ⟨(by omega), (by rw [hlk]; exact k9n), (by rw [hlk]; exact k10n), (by rw [hlk]; exact k11n), (by rw [hlk]; exact k12n), fo8, fo_1, fa9, fa10, fa11, fa12, hfrgl70_22, hP, hS, (by rw [hlk]; exact (lv_sub hl [4, 5, 6, 7, 8, 0] rfl))⟩ (by first | omega | (dsimp only; omega))
                · have hlk : lkL ((lkO q x0 i).2.2.1 i) (lkH ((lkO q x0 i).2.2.1 i) (lkO q x0 i)) (c + 1) = _ := lkC_1 (s := (lkO q x0 i).2.2.1 i) (c := c) c127_30 c145_31
                  refine lv_aload_n hx hb dX1_link_148 rfl (lv_at hl 3 rfl) ?_
                  refine xw_get hx hb hts hin1 hown hK hP (by decide) fo8 rfl 1 (by decide) hf15 rfl rfl dX1_link_149 ?_
                  refine lv_iload hx hb dX1_link_152 (lv_at hl 1 rfl) ?_
                  refine lv_iload hx hb dX1_link_154 (lv_at hl 0 rfl) ?_
                  refine xw_iast hx hb hK hP hD hS (by decide) 0 fa10 rfl (hd1 _) (by decide) dX1_link_156 (fun g32 H locs eg32 hP hS => ?_)
                  have fg32_0 : g32 (8) = .inr (1, [.ref (ad (9)), .ref (ad (10)), .ref (ad (11)), .ref (ad (12)), .ref (ad (na)), .ref (ad (nb)), .int (nI (S))]) := (congrFun eg32 (8)).trans ((va_up_ne _ _ (by decide)).trans fo8)
                  have fg32_1 : g32 (1) = .inr (0, [.ref (ad (2)), .int (nI (q)), .int (nI (Wt))]) := (congrFun eg32 (1)).trans ((va_up_ne _ _ (by decide)).trans fo_1)
                  have fg32_2 : g32 (9) = .inl (cI, 164, .inl (g9n)) := (congrFun eg32 (9)).trans ((va_up_ne _ _ (by decide)).trans fa9)
                  have fg32_3 : g32 (11) = .inl (cI, 41, .inl (g11n)) := (congrFun eg32 (11)).trans ((va_up_ne _ _ (by decide)).trans fa11)
                  have fg32_4 : g32 (12) = .inl (cZ, 41, .inl (g12n)) := (congrFun eg32 (12)).trans ((va_up_ne _ _ (by decide)).trans fa12)
                  have fg32_w : g32 (10) = .inl (cI, 41, .inl (upd (g10n) ((lkL ((lkO q x0 i).2.2.1 i) (lkH ((lkO q x0 i).2.2.1 i) (lkO q x0 i)) c).1 ((((lkO q x0 i).2.2.1 i) * 4) + c)) (nI (if (lkO q x0 i).2.2.1 i = 0 then 0 else (lkL ((lkO q x0 i).2.2.1 i) (lkH ((lkO q x0 i).2.2.1 i) (lkO q x0 i)) c).1 ((lkL ((lkO q x0 i).2.2.1 i) (lkH ((lkO q x0 i).2.2.1 i) (lkO q x0 i)) c).2.1 ((lkO q x0 i).2.2.1 i) * 4 + c))))) := (congrFun eg32 (10)).trans (va_up_self _ _ _)
                  have hfrg32 : ∀ j : Nat, j ≠ 9 → j ≠ 10 → j ≠ 11 → j ≠ 12 → g32 j = g j := fun j h0 h1 h2 h3 => (congrFun eg32 j).trans ((va_up_ne _ _ h1).trans (hfrgl70_22 j h0 h1 h2 h3))
                  refine lv_aload_n hx hb dX1_link_157 rfl (lv_at hl 3 rfl) ?_
                  refine xw_get hx hb hts hin1 hown hK hP (by decide) fg32_0 rfl 2 (by decide) hf18 rfl rfl dX1_link_158 ?_
                  refine lv_iload_n hx hb dX1_link_161 rfl (lv_at hl 5 rfl) ?_
                  refine lv_iload hx hb dX1_link_162 (lv_at hl 1 rfl) ?_
                  refine xw_iast hx hb hK hP hD hS (by decide) 0 fg32_3 rfl (by omega) (by decide) dX1_link_164 (fun g33 H locs eg33 hP hS => ?_)
                  have fg33_0 : g33 (8) = .inr (1, [.ref (ad (9)), .ref (ad (10)), .ref (ad (11)), .ref (ad (12)), .ref (ad (na)), .ref (ad (nb)), .int (nI (S))]) := (congrFun eg33 (8)).trans ((va_up_ne _ _ (by decide)).trans fg32_0)
                  have fg33_1 : g33 (1) = .inr (0, [.ref (ad (2)), .int (nI (q)), .int (nI (Wt))]) := (congrFun eg33 (1)).trans ((va_up_ne _ _ (by decide)).trans fg32_1)
                  have fg33_2 : g33 (9) = .inl (cI, 164, .inl (g9n)) := (congrFun eg33 (9)).trans ((va_up_ne _ _ (by decide)).trans fg32_2)
                  have fg33_3 : g33 (12) = .inl (cZ, 41, .inl (g12n)) := (congrFun eg33 (12)).trans ((va_up_ne _ _ (by decide)).trans fg32_4)
                  have fg33_4 : g33 (10) = .inl (cI, 41, .inl (upd (g10n) ((lkL ((lkO q x0 i).2.2.1 i) (lkH ((lkO q x0 i).2.2.1 i) (lkO q x0 i)) c).1 ((((lkO q x0 i).2.2.1 i) * 4) + c)) (nI (if (lkO q x0 i).2.2.1 i = 0 then 0 else (lkL ((lkO q x0 i).2.2.1 i) (lkH ((lkO q x0 i).2.2.1 i) (lkO q x0 i)) c).1 ((lkL ((lkO q x0 i).2.2.1 i) (lkH ((lkO q x0 i).2.2.1 i) (lkO q x0 i)) c).2.1 ((lkO q x0 i).2.2.1 i) * 4 + c))))) := (congrFun eg33 (10)).trans ((va_up_ne _ _ (by decide)).trans fg32_w)
                  have fg33_w : g33 (11) = .inl (cI, 41, .inl (upd (g11n) ((lkL ((lkO q x0 i).2.2.1 i) (lkH ((lkO q x0 i).2.2.1 i) (lkO q x0 i)) c).2.2.2.2) (nI ((lkL ((lkO q x0 i).2.2.1 i) (lkH ((lkO q x0 i).2.2.1 i) (lkO q x0 i)) c).1 ((((lkO q x0 i).2.2.1 i) * 4) + c))))) := (congrFun eg33 (11)).trans (va_up_self _ _ _)
                  have hfrg33 : ∀ j : Nat, j ≠ 9 → j ≠ 10 → j ≠ 11 → j ≠ 12 → g33 j = g j := fun j h0 h1 h2 h3 => (congrFun eg33 j).trans ((va_up_ne _ _ h2).trans (hfrg32 j h0 h1 h2 h3))
                  refine lv_iinc (v := nI ((lkL ((lkO q x0 i).2.2.1 i) (lkH ((lkO q x0 i).2.2.1 i) (lkO q x0 i)) c).2.2.2.2 + 1)) (lv' := [(2, .int (nI ((lkL ((lkO q x0 i).2.2.1 i) (lkH ((lkO q x0 i).2.2.1 i) (lkO q x0 i)) c).2.2.2.2 + 1))), (8, .int (nI (if (lkO q x0 i).2.2.1 i = 0 then 0 else (lkL ((lkO q x0 i).2.2.1 i) (lkH ((lkO q x0 i).2.2.1 i) (lkO q x0 i)) c).1 ((lkL ((lkO q x0 i).2.2.1 i) (lkH ((lkO q x0 i).2.2.1 i) (lkO q x0 i)) c).2.1 ((lkO q x0 i).2.2.1 i) * 4 + c)))), (7, .int (nI ((lkL ((lkO q x0 i).2.2.1 i) (lkH ((lkO q x0 i).2.2.1 i) (lkO q x0 i)) c).1 ((((lkO q x0 i).2.2.1 i) * 4) + c)))), (6, .int (nI ((((lkO q x0 i).2.2.1 i) * 4) + c))), (0, .ref (ad (8))), (1, .ref (ad (1))), (3, .int (nI (i))), (4, .int (nI ((lkO q x0 i).2.2.1 i))), (5, .int (nI (c)))]) hx hb dX1_link_165 hl (k := 5) rfl (nI_add ((lkL ((lkO q x0 i).2.2.1 i) (lkH ((lkO q x0 i).2.2.1 i) (lkO q x0 i)) c).2.2.2.2) 1) (by decide) rfl (fun ls hl => ?_)
                  refine lv_iinc (v := nI (c + 1)) (lv' := [(5, .int (nI (c + 1))), (2, .int (nI ((lkL ((lkO q x0 i).2.2.1 i) (lkH ((lkO q x0 i).2.2.1 i) (lkO q x0 i)) c).2.2.2.2 + 1))), (8, .int (nI (if (lkO q x0 i).2.2.1 i = 0 then 0 else (lkL ((lkO q x0 i).2.2.1 i) (lkH ((lkO q x0 i).2.2.1 i) (lkO q x0 i)) c).1 ((lkL ((lkO q x0 i).2.2.1 i) (lkH ((lkO q x0 i).2.2.1 i) (lkO q x0 i)) c).2.1 ((lkO q x0 i).2.2.1 i) * 4 + c)))), (7, .int (nI ((lkL ((lkO q x0 i).2.2.1 i) (lkH ((lkO q x0 i).2.2.1 i) (lkO q x0 i)) c).1 ((((lkO q x0 i).2.2.1 i) * 4) + c)))), (6, .int (nI ((((lkO q x0 i).2.2.1 i) * 4) + c))), (0, .ref (ad (8))), (1, .ref (ad (1))), (3, .int (nI (i))), (4, .int (nI ((lkO q x0 i).2.2.1 i)))]) hx hb dX1_link_168 hl (k := 8) rfl (nI_add (c) 1) (by decide) rfl (fun ls hl => ?_)
                  refine lv_goto (tgt := 70) hx hb dX1_link_171 (by decide) ?_
                  exact ih70 (c + 1, g9n, upd (g10n) ((lkL ((lkO q x0 i).2.2.1 i) (lkH ((lkO q x0 i).2.2.1 i) (lkO q x0 i)) c).1 ((((lkO q x0 i).2.2.1 i) * 4) + c)) (nI (if (lkO q x0 i).2.2.1 i = 0 then 0 else (lkL ((lkO q x0 i).2.2.1 i) (lkH ((lkO q x0 i).2.2.1 i) (lkO q x0 i)) c).1 ((lkL ((lkO q x0 i).2.2.1 i) (lkH ((lkO q x0 i).2.2.1 i) (lkO q x0 i)) c).2.1 ((lkO q x0 i).2.2.1 i) * 4 + c))), upd (g11n) ((lkL ((lkO q x0 i).2.2.1 i) (lkH ((lkO q x0 i).2.2.1 i) (lkO q x0 i)) c).2.2.2.2) (nI ((lkL ((lkO q x0 i).2.2.1 i) (lkH ((lkO q x0 i).2.2.1 i) (lkO q x0 i)) c).1 ((((lkO q x0 i).2.2.1 i) * 4) + c))), g12n) g33 H locs ls ⟨(by omega), (by rw [hlk]; exact k9n), (by rw [hlk]; exact upd_nI k10n), (by rw [hlk]; exact upd_nI k11n), (by rw [hlk]; exact k12n), fg33_0, fg33_1, fg33_2, fg33_4, fg33_w, fg33_3, hfrg33, hP, hS, (by rw [hlk]; exact (lv_sub hl [5, 6, 1, 7, 8, 0] rfl))⟩ (by first | omega | (dsimp only; omega))
              · have hlk : lkL ((lkO q x0 i).2.2.1 i) (lkH ((lkO q x0 i).2.2.1 i) (lkO q x0 i)) (c + 1) = _ := lkC_0 (s := (lkO q x0 i).2.2.1 i) (c := c) c127_30
                refine lv_aload_n hx hb dX1_link_130 rfl (lv_at hl 3 rfl) ?_
                refine xw_get hx hb hts hin1 hown hK hP (by decide) fo8 rfl 0 (by decide) hf11 rfl rfl dX1_link_131 ?_
                refine lv_iload hx hb dX1_link_134 (lv_at hl 2 rfl) ?_
                refine lv_iload hx hb dX1_link_136 (lv_at hl 0 rfl) ?_
                refine xw_iast hx hb hK hP hD hS (by decide) 0 fa9 rfl (by omega) (by decide) dX1_link_138 (fun g34 H locs eg34 hP hS => ?_)
                have fg34_0 : g34 (8) = .inr (1, [.ref (ad (9)), .ref (ad (10)), .ref (ad (11)), .ref (ad (12)), .ref (ad (na)), .ref (ad (nb)), .int (nI (S))]) := (congrFun eg34 (8)).trans ((va_up_ne _ _ (by decide)).trans fo8)
                have fg34_1 : g34 (1) = .inr (0, [.ref (ad (2)), .int (nI (q)), .int (nI (Wt))]) := (congrFun eg34 (1)).trans ((va_up_ne _ _ (by decide)).trans fo_1)
                have fg34_2 : g34 (10) = .inl (cI, 41, .inl (g10n)) := (congrFun eg34 (10)).trans ((va_up_ne _ _ (by decide)).trans fa10)
                have fg34_3 : g34 (11) = .inl (cI, 41, .inl (g11n)) := (congrFun eg34 (11)).trans ((va_up_ne _ _ (by decide)).trans fa11)
                have fg34_4 : g34 (12) = .inl (cZ, 41, .inl (g12n)) := (congrFun eg34 (12)).trans ((va_up_ne _ _ (by decide)).trans fa12)
                have fg34_w : g34 (9) = .inl (cI, 164, .inl (upd (g9n) ((((lkO q x0 i).2.2.1 i) * 4) + c) (nI (if (lkO q x0 i).2.2.1 i = 0 then 0 else (lkL ((lkO q x0 i).2.2.1 i) (lkH ((lkO q x0 i).2.2.1 i) (lkO q x0 i)) c).1 ((lkL ((lkO q x0 i).2.2.1 i) (lkH ((lkO q x0 i).2.2.1 i) (lkO q x0 i)) c).2.1 ((lkO q x0 i).2.2.1 i) * 4 + c))))) := (congrFun eg34 (9)).trans (va_up_self _ _ _)
                have hfrg34 : ∀ j : Nat, j ≠ 9 → j ≠ 10 → j ≠ 11 → j ≠ 12 → g34 j = g j := fun j h0 h1 h2 h3 => (congrFun eg34 j).trans ((va_up_ne _ _ h0).trans (hfrgl70_22 j h0 h1 h2 h3))
                refine lv_goto (tgt := 168) hx hb dX1_link_139 (by decide) ?_
                refine lv_iinc (v := nI (c + 1)) (lv' := [(5, .int (nI (c + 1))), (8, .int (nI (if (lkO q x0 i).2.2.1 i = 0 then 0 else (lkL ((lkO q x0 i).2.2.1 i) (lkH ((lkO q x0 i).2.2.1 i) (lkO q x0 i)) c).1 ((lkL ((lkO q x0 i).2.2.1 i) (lkH ((lkO q x0 i).2.2.1 i) (lkO q x0 i)) c).2.1 ((lkO q x0 i).2.2.1 i) * 4 + c)))), (7, .int (nI ((lkL ((lkO q x0 i).2.2.1 i) (lkH ((lkO q x0 i).2.2.1 i) (lkO q x0 i)) c).1 ((((lkO q x0 i).2.2.1 i) * 4) + c)))), (6, .int (nI ((((lkO q x0 i).2.2.1 i) * 4) + c))), (0, .ref (ad (8))), (1, .ref (ad (1))), (2, .int (nI ((lkL ((lkO q x0 i).2.2.1 i) (lkH ((lkO q x0 i).2.2.1 i) (lkO q x0 i)) c).2.2.2.2))), (3, .int (nI (i))), (4, .int (nI ((lkO q x0 i).2.2.1 i)))]) hx hb dX1_link_168 hl (k := 8) rfl (nI_add (c) 1) (by decide) rfl (fun ls hl => ?_)
                refine lv_goto (tgt := 70) hx hb dX1_link_171 (by decide) ?_
                exact ih70 (c + 1, upd (g9n) ((((lkO q x0 i).2.2.1 i) * 4) + c) (nI (if (lkO q x0 i).2.2.1 i = 0 then 0 else (lkL ((lkO q x0 i).2.2.1 i) (lkH ((lkO q x0 i).2.2.1 i) (lkO q x0 i)) c).1 ((lkL ((lkO q x0 i).2.2.1 i) (lkH ((lkO q x0 i).2.2.1 i) (lkO q x0 i)) c).2.1 ((lkO q x0 i).2.2.1 i) * 4 + c))), g10n, g11n, g12n) g34 H locs ls ⟨(by omega), (by rw [hlk]; exact upd_nI k9n), (by rw [hlk]; exact k10n), (by rw [hlk]; exact k11n), (by rw [hlk]; exact k12n), fg34_0, fg34_1, fg34_w, fg34_2, fg34_3, fg34_4, hfrg34, hP, hS, (by rw [hlk]; exact (lv_sub hl [4, 5, 6, 7, 8, 0] rfl))⟩ (by first | omega | (dsimp only; omega))
        · refine lv_iconst (v := nI (1)) hx hb dX1_link_61 (by decide) ?_
          refine lv_goto (tgt := 66) hx hb dX1_link_62 (by decide) ?_
          have hval : nI 1 = nI (if ¬ (lkO q x0 i).2.2.2.1 ((lkO q x0 i).2.2.1 i) = 0 then 1 else if ¬ (lkO q x0 i).2.2.2.1 ((lkO q x0 i).2.1 ((lkO q x0 i).2.2.1 i)) = 0 then 1 else 0) := by rw [if_neg (fun h => h c43_5), if_pos c58_20]
          refine xw_zast hx hb hK hP hD hS (by decide) 2 fa12 rfl hss (by decide) (by rfl) dX1_link_66 (fun g35 H locs eg35 hP hS => ?_)
          have fg35_0 : g35 (8) = .inr (1, [.ref (ad (9)), .ref (ad (10)), .ref (ad (11)), .ref (ad (12)), .ref (ad (na)), .ref (ad (nb)), .int (nI (S))]) := (congrFun eg35 (8)).trans ((va_up_ne _ _ (by decide)).trans fo8)
          have fg35_1 : g35 (1) = .inr (0, [.ref (ad (2)), .int (nI (q)), .int (nI (Wt))]) := (congrFun eg35 (1)).trans ((va_up_ne _ _ (by decide)).trans fo_1)
          have fg35_2 : g35 (9) = .inl (cI, 164, .inl (g9o)) := (congrFun eg35 (9)).trans ((va_up_ne _ _ (by decide)).trans fa9)
          have fg35_3 : g35 (10) = .inl (cI, 41, .inl (g10o)) := (congrFun eg35 (10)).trans ((va_up_ne _ _ (by decide)).trans fa10)
          have fg35_4 : g35 (11) = .inl (cI, 41, .inl (g11o)) := (congrFun eg35 (11)).trans ((va_up_ne _ _ (by decide)).trans fa11)
          have fg35_w : g35 (12) = .inl (cZ, 41, .inl (upd (g12o) ((lkO q x0 i).2.2.1 (i)) (nI (1)))) := (congrFun eg35 (12)).trans (va_up_self _ _ _)
          have hfrg35 : ∀ j : Nat, j ≠ 9 → j ≠ 10 → j ≠ 11 → j ≠ 12 → g35 j = g j := fun j h0 h1 h2 h3 => (congrFun eg35 j).trans ((va_up_ne _ _ h3).trans (hfrgl11_2 j h0 h1 h2 h3))
          have hk12 : ∀ j, j < 41 → upd (g12o) ((lkO q x0 i).2.2.1 (i)) (nI (1)) j = nI ((lkH ((lkO q x0 i).2.2.1 i) (lkO q x0 i)).2.2.2.1 j) := by rw [hval]; exact upd_nI k12o
          refine lv_iconst (v := nI (0)) hx hb dX1_link_67 (by decide) ?_
          refine lv_istore (lv' := [(5, .int (nI (0))), (4, .int (nI ((lkO q x0 i).2.2.1 (i)))), (0, .ref (ad (8))), (1, .ref (ad (1))), (2, .int (nI ((lkO q x0 i).2.2.2.2))), (3, .int (nI (i)))]) hx hb dX1_link_68 hl (by decide) rfl (fun ls hl => ?_)
          refine xloopW (G := fun H locs fr => W p l e _ s m _ below meth c H locs _ _ _ fr) (σ := Nat × (Nat → Int32) × (Nat → Int32) × (Nat → Int32) × (Nat → Int32)) (fun (c, g9n, g10n, g11n, g12n) ls => F0 m 70 ls []) (fun (c, g9n, g10n, g11n, g12n) gl70_36 H locs ls => (c ≤ q) ∧ (∀ j, j < 164 → g9n j = nI ((lkL ((lkO q x0 i).2.2.1 i) (lkH ((lkO q x0 i).2.2.1 i) (lkO q x0 i)) c).1 j)) ∧ (∀ j, j < 41 → g10n j = nI ((lkL ((lkO q x0 i).2.2.1 i) (lkH ((lkO q x0 i).2.2.1 i) (lkO q x0 i)) c).2.1 j)) ∧ (∀ j, j < 41 → g11n j = nI ((lkL ((lkO q x0 i).2.2.1 i) (lkH ((lkO q x0 i).2.2.1 i) (lkO q x0 i)) c).2.2.1 j)) ∧ (∀ j, j < 41 → g12n j = nI ((lkL ((lkO q x0 i).2.2.1 i) (lkH ((lkO q x0 i).2.2.1 i) (lkO q x0 i)) c).2.2.2.1 j)) ∧ gl70_36 (8) = .inr (1, [.ref (ad (9)), .ref (ad (10)), .ref (ad (11)), .ref (ad (12)), .ref (ad (na)), .ref (ad (nb)), .int (nI (S))]) ∧ gl70_36 (1) = .inr (0, [.ref (ad (2)), .int (nI (q)), .int (nI (Wt))]) ∧ gl70_36 (9) = .inl (cI, 164, .inl (g9n)) ∧ gl70_36 (10) = .inl (cI, 41, .inl (g10n)) ∧ gl70_36 (11) = .inl (cI, 41, .inl (g11n)) ∧ gl70_36 (12) = .inl (cZ, 41, .inl (g12n)) ∧ (∀ j : Nat, j ≠ 9 → j ≠ 10 → j ≠ 11 → j ≠ 12 → gl70_36 j = g j) ∧ va_P D vwCl (xw 81 ad gl70_36) H ∧ va_S A s.heap H locs ∧ lv_has ls 9 [(0, .ref (ad (8))), (1, .ref (ad (1))), (2, .int (nI ((lkL ((lkO q x0 i).2.2.1 i) (lkH ((lkO q x0 i).2.2.1 i) (lkO q x0 i)) c).2.2.2.2))), (3, .int (nI (i))), (4, .int (nI ((lkO q x0 i).2.2.1 i))), (5, .int (nI (c)))]) (fun (c, g9n, g10n, g11n, g12n) => q - c) ?_ (0, g9o, g10o, g11o, upd (g12o) ((lkO q x0 i).2.2.1 (i)) (nI (1))) g35 H locs ls ⟨(by omega), k9o, k10o, k11o, hk12, fg35_0, fg35_1, fg35_2, fg35_3, fg35_4, fg35_w, hfrg35, hP, hS, (lv_sub hl [2, 3, 4, 5, 1, 0] rfl)⟩
          rintro ⟨c, g9n, g10n, g11n, g12n⟩ gl70_36 H locs ls ⟨hc, k9n, k10n, k11n, k12n, fo8, fo_1, fa9, fa10, fa11, fa12, hfrgl70_36, hP, hS, hl⟩ ih70
          refine lv_iload hx hb dX1_link_70 (lv_at hl 5 rfl) ?_
          obtain ⟨hd1, hd2, hd3, hd4, hd5⟩ := lkL_B (s := (lkO q x0 i).2.2.1 i) (lkH_B (s := (lkO q x0 i).2.2.1 i) (lkO_B (q := q) hxB i)) c
          have hd2s := hd2 ((lkO q x0 i).2.2.1 i)
          refine lv_aload_n hx hb dX1_link_72 rfl (lv_at hl 1 rfl) ?_
          refine xw_get hx hb hts hin0 hown hK hP (by decide) fo_1 rfl 1 (by decide) hf50 rfl rfl dX1_link_73 ?_
          refine xi_icmp_ge (tgt := 174) hx hb (by omega) (by omega) dX1_link_76 (by decide) (fun c76_37 => ?_) (fun c76_37 => ?_)
          · have hce : c = q := by omega
            have hcq : (lkL ((lkO q x0 i).2.2.1 i) (lkH ((lkO q x0 i).2.2.1 i) (lkO q x0 i)) c) = lkO q x0 (i + 1) := by rw [hce]; rfl
            refine lv_iinc (v := nI (i + 1)) (lv' := [(3, .int (nI (i + 1))), (0, .ref (ad (8))), (1, .ref (ad (1))), (2, .int (nI ((lkL ((lkO q x0 i).2.2.1 i) (lkH ((lkO q x0 i).2.2.1 i) (lkO q x0 i)) c).2.2.2.2))), (4, .int (nI ((lkO q x0 i).2.2.1 i))), (5, .int (nI (c)))]) hx hb dX1_link_174 hl (k := 3) rfl (nI_add (i) 1) (by decide) rfl (fun ls hl => ?_)
            refine lv_goto (tgt := 11) hx hb dX1_link_177 (by decide) ?_
            exact ih11 (i + 1, g9n, g10n, g11n, g12n) gl70_36 H locs ls ⟨(by omega), (fun x hx => if e : x = i then by subst e; exact hif else hbf x (by omega)), (by rw [hcq] at k9n; exact k9n), (by rw [hcq] at k10n; exact k10n), (by rw [hcq] at k11n; exact k11n), (by rw [hcq] at k12n; exact k12n), fo8, fo_1, fa9, fa10, fa11, fa12, hfrgl70_36, hP, hS, (by rw [hcq] at hl; exact (lv_sub hl [1, 2, 3, 0] rfl))⟩ (by first | omega | (dsimp only; omega))
          · refine lv_iload hx hb dX1_link_79 (lv_at hl 4 rfl) ?_
            refine lv_iconst (v := nI (4)) hx hb dX1_link_81 (by decide) ?_
            refine xi_mul hx hb dX1_link_82 ?_
            refine lv_iload hx hb dX1_link_83 (lv_at hl 5 rfl) ?_
            refine xi_add hx hb dX1_link_85 ?_
            refine lv_istore (lv' := [(6, .int (nI ((((lkO q x0 i).2.2.1 i) * 4) + c))), (0, .ref (ad (8))), (1, .ref (ad (1))), (2, .int (nI ((lkL ((lkO q x0 i).2.2.1 i) (lkH ((lkO q x0 i).2.2.1 i) (lkO q x0 i)) c).2.2.2.2))), (3, .int (nI (i))), (4, .int (nI ((lkO q x0 i).2.2.1 i))), (5, .int (nI (c)))]) hx hb dX1_link_86 hl (by decide) rfl (fun ls hl => ?_)
            refine lv_aload_n hx hb dX1_link_88 rfl (lv_at hl 1 rfl) ?_
            refine xw_get hx hb hts hin1 hown hK hP (by decide) fo8 rfl 0 (by decide) hf11 rfl rfl dX1_link_89 ?_
            refine lv_iload hx hb dX1_link_92 (lv_at hl 0 rfl) ?_
            refine xw_iald hx hb hK hP (by decide) 0 fa9 rfl (by omega) (by decide) dX1_link_94 ?_
            rw [k9n ((((lkO q x0 i).2.2.1 i) * 4) + c) (by omega)]
            refine lv_istore (lv' := [(7, .int (nI ((lkL ((lkO q x0 i).2.2.1 i) (lkH ((lkO q x0 i).2.2.1 i) (lkO q x0 i)) c).1 ((((lkO q x0 i).2.2.1 i) * 4) + c)))), (6, .int (nI ((((lkO q x0 i).2.2.1 i) * 4) + c))), (0, .ref (ad (8))), (1, .ref (ad (1))), (2, .int (nI ((lkL ((lkO q x0 i).2.2.1 i) (lkH ((lkO q x0 i).2.2.1 i) (lkO q x0 i)) c).2.2.2.2))), (3, .int (nI (i))), (4, .int (nI ((lkO q x0 i).2.2.1 i))), (5, .int (nI (c)))]) hx hb dX1_link_95 hl (by decide) rfl (fun ls hl => ?_)
            refine lv_iload hx hb dX1_link_97 (lv_at hl 6 rfl) ?_
            refine xi_if_ne (tgt := 106) hx hb (by omega) dX1_link_99 (by decide) (fun c99_38 => ?_) (fun c99_38 => ?_)
            · refine lv_aload_n hx hb dX1_link_106 rfl (lv_at hl 2 rfl) ?_
              refine xw_get hx hb hts hin1 hown hK hP (by decide) fo8 rfl 0 (by decide) hf11 rfl rfl dX1_link_107 ?_
              refine lv_aload_n hx hb dX1_link_110 rfl (lv_at hl 2 rfl) ?_
              refine xw_get hx hb hts hin1 hown hK hP (by decide) fo8 rfl 1 (by decide) hf15 rfl rfl dX1_link_111 ?_
              refine lv_iload hx hb dX1_link_114 (lv_at hl 6 rfl) ?_
              refine xw_iald hx hb hK hP (by decide) 0 fa10 rfl hss (by decide) dX1_link_116 ?_
              rw [k10n ((lkO q x0 i).2.2.1 i) (by omega)]
              refine lv_iconst (v := nI (4)) hx hb dX1_link_117 (by decide) ?_
              refine xi_mul hx hb dX1_link_118 ?_
              refine lv_iload hx hb dX1_link_119 (lv_at hl 7 rfl) ?_
              refine xi_add hx hb dX1_link_121 ?_
              refine xw_iald hx hb hK hP (by decide) 0 fa9 rfl (by have h7 := hd2 ((lkO q x0 i).2.2.1 i); omega) (by decide) dX1_link_122 ?_
              rw [k9n ((((lkL ((lkO q x0 i).2.2.1 i) (lkH ((lkO q x0 i).2.2.1 i) (lkO q x0 i)) c).2.1 ((lkO q x0 i).2.2.1 i)) * 4) + c) (by omega)]
              refine xtopi (y := nI (if (lkO q x0 i).2.2.1 i = 0 then 0 else (lkL ((lkO q x0 i).2.2.1 i) (lkH ((lkO q x0 i).2.2.1 i) (lkO q x0 i)) c).1 ((lkL ((lkO q x0 i).2.2.1 i) (lkH ((lkO q x0 i).2.2.1 i) (lkO q x0 i)) c).2.1 ((lkO q x0 i).2.2.1 i) * 4 + c))) (by rw [if_neg c99_38]) ?_
              refine lv_istore (lv' := [(8, .int (nI (if (lkO q x0 i).2.2.1 i = 0 then 0 else (lkL ((lkO q x0 i).2.2.1 i) (lkH ((lkO q x0 i).2.2.1 i) (lkO q x0 i)) c).1 ((lkL ((lkO q x0 i).2.2.1 i) (lkH ((lkO q x0 i).2.2.1 i) (lkO q x0 i)) c).2.1 ((lkO q x0 i).2.2.1 i) * 4 + c)))), (7, .int (nI ((lkL ((lkO q x0 i).2.2.1 i) (lkH ((lkO q x0 i).2.2.1 i) (lkO q x0 i)) c).1 ((((lkO q x0 i).2.2.1 i) * 4) + c)))), (6, .int (nI ((((lkO q x0 i).2.2.1 i) * 4) + c))), (0, .ref (ad (8))), (1, .ref (ad (1))), (2, .int (nI ((lkL ((lkO q x0 i).2.2.1 i) (lkH ((lkO q x0 i).2.2.1 i) (lkO q x0 i)) c).2.2.2.2))), (3, .int (nI (i))), (4, .int (nI ((lkO q x0 i).2.2.1 i))), (5, .int (nI (c)))]) hx hb dX1_link_123 hl (by decide) rfl (fun ls hl => ?_)
              refine lv_iload hx hb dX1_link_125 (lv_at hl 1 rfl) ?_
              refine xi_if_ne (tgt := 142) hx hb (by have h7 := hd1 ((lkO q x0 i).2.2.1 i * 4 + c); omega) dX1_link_127 (by decide) (fun c127_39 => ?_) (fun c127_39 => ?_)
              · refine lv_iload_n hx hb dX1_link_142 rfl (lv_at hl 5 rfl) ?_
                refine lv_bipush (v := nI (41)) hx hb dX1_link_143 (by decide) ?_
                refine xi_icmp_ge (tgt := 168) hx hb (by omega) (by decide) dX1_link_145 (by decide) (fun c145_40 => ?_) (fun c145_40 => ?_)
                · have hlk : lkL ((lkO q x0 i).2.2.1 i) (lkH ((lkO q x0 i).2.2.1 i) (lkO q x0 i)) (c + 1) = _ := lkC_2 (s := (lkO q x0 i).2.2.1 i) (c := c) c127_39 (by omega)
                  refine lv_iinc (v := nI (c + 1)) (lv' := [(5, .int (nI (c + 1))), (8, .int (nI (if (lkO q x0 i).2.2.1 i = 0 then 0 else (lkL ((lkO q x0 i).2.2.1 i) (lkH ((lkO q x0 i).2.2.1 i) (lkO q x0 i)) c).1 ((lkL ((lkO q x0 i).2.2.1 i) (lkH ((lkO q x0 i).2.2.1 i) (lkO q x0 i)) c).2.1 ((lkO q x0 i).2.2.1 i) * 4 + c)))), (7, .int (nI ((lkL ((lkO q x0 i).2.2.1 i) (lkH ((lkO q x0 i).2.2.1 i) (lkO q x0 i)) c).1 ((((lkO q x0 i).2.2.1 i) * 4) + c)))), (6, .int (nI ((((lkO q x0 i).2.2.1 i) * 4) + c))), (0, .ref (ad (8))), (1, .ref (ad (1))), (2, .int (nI ((lkL ((lkO q x0 i).2.2.1 i) (lkH ((lkO q x0 i).2.2.1 i) (lkO q x0 i)) c).2.2.2.2))), (3, .int (nI (i))), (4, .int (nI ((lkO q x0 i).2.2.1 i)))]) hx hb dX1_link_168 hl (k := 8) rfl (nI_add (c) 1) (by decide) rfl (fun ls hl => ?_)
                  refine lv_goto (tgt := 70) hx hb dX1_link_171 (by decide) ?_
                  exact ih70 (c + 1, g9n, g10n, g11n, g12n) gl70_36 H locs ls ⟨(by omega), (by rw [hlk]; exact k9n), (by rw [hlk]; exact k10n), (by rw [hlk]; exact k11n), (by rw [hlk]; exact k12n), fo8, fo_1, fa9, fa10, fa11, fa12, hfrgl70_36, hP, hS, (by rw [hlk]; exact (lv_sub hl [4, 5, 6, 7, 8, 0] rfl))⟩ (by first | omega | (dsimp only; omega))
                · have hlk : lkL ((lkO q x0 i).2.2.1 i) (lkH ((lkO q x0 i).2.2.1 i) (lkO q x0 i)) (c + 1) = _ := lkC_1 (s := (lkO q x0 i).2.2.1 i) (c := c) c127_39 c145_40
                  refine lv_aload_n hx hb dX1_link_148 rfl (lv_at hl 3 rfl) ?_
                  refine xw_get hx hb hts hin1 hown hK hP (by decide) fo8 rfl 1 (by decide) hf15 rfl rfl dX1_link_149 ?_
                  refine lv_iload hx hb dX1_link_152 (lv_at hl 1 rfl) ?_
                  refine lv_iload hx hb dX1_link_154 (lv_at hl 0 rfl) ?_
                  refine xw_iast hx hb hK hP hD hS (by decide) 0 fa10 rfl (hd1 _) (by decide) dX1_link_156 (fun g41 H locs eg41 hP hS => ?_)
                  have fg41_0 : g41 (8) = .inr (1, [.ref (ad (9)), .ref (ad (10)), .ref (ad (11)), .ref (ad (12)), .ref (ad (na)), .ref (ad (nb)), .int (nI (S))]) := (congrFun eg41 (8)).trans ((va_up_ne _ _ (by decide)).trans fo8)
                  have fg41_1 : g41 (1) = .inr (0, [.ref (ad (2)), .int (nI (q)), .int (nI (Wt))]) := (congrFun eg41 (1)).trans ((va_up_ne _ _ (by decide)).trans fo_1)
                  have fg41_2 : g41 (9) = .inl (cI, 164, .inl (g9n)) := (congrFun eg41 (9)).trans ((va_up_ne _ _ (by decide)).trans fa9)
                  have fg41_3 : g41 (11) = .inl (cI, 41, .inl (g11n)) := (congrFun eg41 (11)).trans ((va_up_ne _ _ (by decide)).trans fa11)
                  have fg41_4 : g41 (12) = .inl (cZ, 41, .inl (g12n)) := (congrFun eg41 (12)).trans ((va_up_ne _ _ (by decide)).trans fa12)
                  have fg41_w : g41 (10) = .inl (cI, 41, .inl (upd (g10n) ((lkL ((lkO q x0 i).2.2.1 i) (lkH ((lkO q x0 i).2.2.1 i) (lkO q x0 i)) c).1 ((((lkO q x0 i).2.2.1 i) * 4) + c)) (nI (if (lkO q x0 i).2.2.1 i = 0 then 0 else (lkL ((lkO q x0 i).2.2.1 i) (lkH ((lkO q x0 i).2.2.1 i) (lkO q x0 i)) c).1 ((lkL ((lkO q x0 i).2.2.1 i) (lkH ((lkO q x0 i).2.2.1 i) (lkO q x0 i)) c).2.1 ((lkO q x0 i).2.2.1 i) * 4 + c))))) := (congrFun eg41 (10)).trans (va_up_self _ _ _)
                  have hfrg41 : ∀ j : Nat, j ≠ 9 → j ≠ 10 → j ≠ 11 → j ≠ 12 → g41 j = g j := fun j h0 h1 h2 h3 => (congrFun eg41 j).trans ((va_up_ne _ _ h1).trans (hfrgl70_36 j h0 h1 h2 h3))
                  refine lv_aload_n hx hb dX1_link_157 rfl (lv_at hl 3 rfl) ?_
                  refine xw_get hx hb hts hin1 hown hK hP (by decide) fg41_0 rfl 2 (by decide) hf18 rfl rfl dX1_link_158 ?_
                  refine lv_iload_n hx hb dX1_link_161 rfl (lv_at hl 5 rfl) ?_
                  refine lv_iload hx hb dX1_link_162 (lv_at hl 1 rfl) ?_
                  refine xw_iast hx hb hK hP hD hS (by decide) 0 fg41_3 rfl (by omega) (by decide) dX1_link_164 (fun g42 H locs eg42 hP hS => ?_)
                  have fg42_0 : g42 (8) = .inr (1, [.ref (ad (9)), .ref (ad (10)), .ref (ad (11)), .ref (ad (12)), .ref (ad (na)), .ref (ad (nb)), .int (nI (S))]) := (congrFun eg42 (8)).trans ((va_up_ne _ _ (by decide)).trans fg41_0)
                  have fg42_1 : g42 (1) = .inr (0, [.ref (ad (2)), .int (nI (q)), .int (nI (Wt))]) := (congrFun eg42 (1)).trans ((va_up_ne _ _ (by decide)).trans fg41_1)
                  have fg42_2 : g42 (9) = .inl (cI, 164, .inl (g9n)) := (congrFun eg42 (9)).trans ((va_up_ne _ _ (by decide)).trans fg41_2)
                  have fg42_3 : g42 (12) = .inl (cZ, 41, .inl (g12n)) := (congrFun eg42 (12)).trans ((va_up_ne _ _ (by decide)).trans fg41_4)
                  have fg42_4 : g42 (10) = .inl (cI, 41, .inl (upd (g10n) ((lkL ((lkO q x0 i).2.2.1 i) (lkH ((lkO q x0 i).2.2.1 i) (lkO q x0 i)) c).1 ((((lkO q x0 i).2.2.1 i) * 4) + c)) (nI (if (lkO q x0 i).2.2.1 i = 0 then 0 else (lkL ((lkO q x0 i).2.2.1 i) (lkH ((lkO q x0 i).2.2.1 i) (lkO q x0 i)) c).1 ((lkL ((lkO q x0 i).2.2.1 i) (lkH ((lkO q x0 i).2.2.1 i) (lkO q x0 i)) c).2.1 ((lkO q x0 i).2.2.1 i) * 4 + c))))) := (congrFun eg42 (10)).trans ((va_up_ne _ _ (by decide)).trans fg41_w)
                  have fg42_w : g42 (11) = .inl (cI, 41, .inl (upd (g11n) ((lkL ((lkO q x0 i).2.2.1 i) (lkH ((lkO q x0 i).2.2.1 i) (lkO q x0 i)) c).2.2.2.2) (nI ((lkL ((lkO q x0 i).2.2.1 i) (lkH ((lkO q x0 i).2.2.1 i) (lkO q x0 i)) c).1 ((((lkO q x0 i).2.2.1 i) * 4) + c))))) := (congrFun eg42 (11)).trans (va_up_self _ _ _)
                  have hfrg42 : ∀ j : Nat, j ≠ 9 → j ≠ 10 → j ≠ 11 → j ≠ 12 → g42 j = g j := fun j h0 h1 h2 h3 => (congrFun eg42 j).trans ((va_up_ne _ _ h2).trans (hfrg41 j h0 h1 h2 h3))
                  refine lv_iinc (v := nI ((lkL ((lkO q x0 i).2.2.1 i) (lkH ((lkO q x0 i).2.2.1 i) (lkO q x0 i)) c).2.2.2.2 + 1)) (lv' := [(2, .int (nI ((lkL ((lkO q x0 i).2.2.1 i) (lkH ((lkO q x0 i).2.2.1 i) (lkO q x0 i)) c).2.2.2.2 + 1))), (8, .int (nI (if (lkO q x0 i).2.2.1 i = 0 then 0 else (lkL ((lkO q x0 i).2.2.1 i) (lkH ((lkO q x0 i).2.2.1 i) (lkO q x0 i)) c).1 ((lkL ((lkO q x0 i).2.2.1 i) (lkH ((lkO q x0 i).2.2.1 i) (lkO q x0 i)) c).2.1 ((lkO q x0 i).2.2.1 i) * 4 + c)))), (7, .int (nI ((lkL ((lkO q x0 i).2.2.1 i) (lkH ((lkO q x0 i).2.2.1 i) (lkO q x0 i)) c).1 ((((lkO q x0 i).2.2.1 i) * 4) + c)))), (6, .int (nI ((((lkO q x0 i).2.2.1 i) * 4) + c))), (0, .ref (ad (8))), (1, .ref (ad (1))), (3, .int (nI (i))), (4, .int (nI ((lkO q x0 i).2.2.1 i))), (5, .int (nI (c)))]) hx hb dX1_link_165 hl (k := 5) rfl (nI_add ((lkL ((lkO q x0 i).2.2.1 i) (lkH ((lkO q x0 i).2.2.1 i) (lkO q x0 i)) c).2.2.2.2) 1) (by decide) rfl (fun ls hl => ?_)
                  refine lv_iinc (v := nI (c + 1)) (lv' := [(5, .int (nI (c + 1))), (2, .int (nI ((lkL ((lkO q x0 i).2.2.1 i) (lkH ((lkO q x0 i).2.2.1 i) (lkO q x0 i)) c).2.2.2.2 + 1))), (8, .int (nI (if (lkO q x0 i).2.2.1 i = 0 then 0 else (lkL ((lkO q x0 i).2.2.1 i) (lkH ((lkO q x0 i).2.2.1 i) (lkO q x0 i)) c).1 ((lkL ((lkO q x0 i).2.2.1 i) (lkH ((lkO q x0 i).2.2.1 i) (lkO q x0 i)) c).2.1 ((lkO q x0 i).2.2.1 i) * 4 + c)))), (7, .int (nI ((lkL ((lkO q x0 i).2.2.1 i) (lkH ((lkO q x0 i).2.2.1 i) (lkO q x0 i)) c).1 ((((lkO q x0 i).2.2.1 i) * 4) + c)))), (6, .int (nI ((((lkO q x0 i).2.2.1 i) * 4) + c))), (0, .ref (ad (8))), (1, .ref (ad (1))), (3, .int (nI (i))), (4, .int (nI ((lkO q x0 i).2.2.1 i)))]) hx hb dX1_link_168 hl (k := 8) rfl (nI_add (c) 1) (by decide) rfl (fun ls hl => ?_)
                  refine lv_goto (tgt := 70) hx hb dX1_link_171 (by decide) ?_
                  exact ih70 (c + 1, g9n, upd (g10n) ((lkL ((lkO q x0 i).2.2.1 i) (lkH ((lkO q x0 i).2.2.1 i) (lkO q x0 i)) c).1 ((((lkO q x0 i).2.2.1 i) * 4) + c)) (nI (if (lkO q x0 i).2.2.1 i = 0 then 0 else (lkL ((lkO q x0 i).2.2.1 i) (lkH ((lkO q x0 i).2.2.1 i) (lkO q x0 i)) c).1 ((lkL ((lkO q x0 i).2.2.1 i) (lkH ((lkO q x0 i).2.2.1 i) (lkO q x0 i)) c).2.1 ((lkO q x0 i).2.2.1 i) * 4 + c))), upd (g11n) ((lkL ((lkO q x0 i).2.2.1 i) (lkH ((lkO q x0 i).2.2.1 i) (lkO q x0 i)) c).2.2.2.2) (nI ((lkL ((lkO q x0 i).2.2.1 i) (lkH ((lkO q x0 i).2.2.1 i) (lkO q x0 i)) c).1 ((((lkO q x0 i).2.2.1 i) * 4) + c))), g12n) g42 H locs ls ⟨(by omega), (by rw [hlk]; exact k9n), (by rw [hlk]; exact upd_nI k10n), (by rw [hlk]; exact upd_nI k11n), (by rw [hlk]; exact k12n), fg42_0, fg42_1, fg42_2, fg42_4, fg42_w, fg42_3, hfrg42, hP, hS, (by rw [hlk]; exact (lv_sub hl [5, 6, 1, 7, 8, 0] rfl))⟩ (by first | omega | (dsimp only; omega))
              · have hlk : lkL ((lkO q x0 i).2.2.1 i) (lkH ((lkO q x0 i).2.2.1 i) (lkO q x0 i)) (c + 1) = _ := lkC_0 (s := (lkO q x0 i).2.2.1 i) (c := c) c127_39
                refine lv_aload_n hx hb dX1_link_130 rfl (lv_at hl 3 rfl) ?_
                refine xw_get hx hb hts hin1 hown hK hP (by decide) fo8 rfl 0 (by decide) hf11 rfl rfl dX1_link_131 ?_
                refine lv_iload hx hb dX1_link_134 (lv_at hl 2 rfl) ?_
                refine lv_iload hx hb dX1_link_136 (lv_at hl 0 rfl) ?_
                refine xw_iast hx hb hK hP hD hS (by decide) 0 fa9 rfl (by omega) (by decide) dX1_link_138 (fun g43 H locs eg43 hP hS => ?_)
                have fg43_0 : g43 (8) = .inr (1, [.ref (ad (9)), .ref (ad (10)), .ref (ad (11)), .ref (ad (12)), .ref (ad (na)), .ref (ad (nb)), .int (nI (S))]) := (congrFun eg43 (8)).trans ((va_up_ne _ _ (by decide)).trans fo8)
                have fg43_1 : g43 (1) = .inr (0, [.ref (ad (2)), .int (nI (q)), .int (nI (Wt))]) := (congrFun eg43 (1)).trans ((va_up_ne _ _ (by decide)).trans fo_1)
                have fg43_2 : g43 (10) = .inl (cI, 41, .inl (g10n)) := (congrFun eg43 (10)).trans ((va_up_ne _ _ (by decide)).trans fa10)
                have fg43_3 : g43 (11) = .inl (cI, 41, .inl (g11n)) := (congrFun eg43 (11)).trans ((va_up_ne _ _ (by decide)).trans fa11)
                have fg43_4 : g43 (12) = .inl (cZ, 41, .inl (g12n)) := (congrFun eg43 (12)).trans ((va_up_ne _ _ (by decide)).trans fa12)
                have fg43_w : g43 (9) = .inl (cI, 164, .inl (upd (g9n) ((((lkO q x0 i).2.2.1 i) * 4) + c) (nI (if (lkO q x0 i).2.2.1 i = 0 then 0 else (lkL ((lkO q x0 i).2.2.1 i) (lkH ((lkO q x0 i).2.2.1 i) (lkO q x0 i)) c).1 ((lkL ((lkO q x0 i).2.2.1 i) (lkH ((lkO q x0 i).2.2.1 i) (lkO q x0 i)) c).2.1 ((lkO q x0 i).2.2.1 i) * 4 + c))))) := (congrFun eg43 (9)).trans (va_up_self _ _ _)
                have hfrg43 : ∀ j : Nat, j ≠ 9 → j ≠ 10 → j ≠ 11 → j ≠ 12 → g43 j = g j := fun j h0 h1 h2 h3 => (congrFun eg43 j).trans ((va_up_ne _ _ h0).trans (hfrgl70_36 j h0 h1 h2 h3))
                refine lv_goto (tgt := 168) hx hb dX1_link_139 (by decide) ?_
                refine lv_iinc (v := nI (c + 1)) (lv' := [(5, .int (nI (c + 1))), (8, .int (nI (if (lkO q x0 i).2.2.1 i = 0 then 0 else (lkL ((lkO q x0 i).2.2.1 i) (lkH ((lkO q x0 i).2.2.1 i) (lkO q x0 i)) c).1 ((lkL ((lkO q x0 i).2.2.1 i) (lkH ((lkO q x0 i).2.2.1 i) (lkO q x0 i)) c).2.1 ((lkO q x0 i).2.2.1 i) * 4 + c)))), (7, .int (nI ((lkL ((lkO q x0 i).2.2.1 i) (lkH ((lkO q x0 i).2.2.1 i) (lkO q x0 i)) c).1 ((((lkO q x0 i).2.2.1 i) * 4) + c)))), (6, .int (nI ((((lkO q x0 i).2.2.1 i) * 4) + c))), (0, .ref (ad (8))), (1, .ref (ad (1))), (2, .int (nI ((lkL ((lkO q x0 i).2.2.1 i) (lkH ((lkO q x0 i).2.2.1 i) (lkO q x0 i)) c).2.2.2.2))), (3, .int (nI (i))), (4, .int (nI ((lkO q x0 i).2.2.1 i)))]) hx hb dX1_link_168 hl (k := 8) rfl (nI_add (c) 1) (by decide) rfl (fun ls hl => ?_)
                refine lv_goto (tgt := 70) hx hb dX1_link_171 (by decide) ?_
                exact ih70 (c + 1, upd (g9n) ((((lkO q x0 i).2.2.1 i) * 4) + c) (nI (if (lkO q x0 i).2.2.1 i = 0 then 0 else (lkL ((lkO q x0 i).2.2.1 i) (lkH ((lkO q x0 i).2.2.1 i) (lkO q x0 i)) c).1 ((lkL ((lkO q x0 i).2.2.1 i) (lkH ((lkO q x0 i).2.2.1 i) (lkO q x0 i)) c).2.1 ((lkO q x0 i).2.2.1 i) * 4 + c))), g10n, g11n, g12n) g43 H locs ls ⟨(by omega), (by rw [hlk]; exact upd_nI k9n), (by rw [hlk]; exact k10n), (by rw [hlk]; exact k11n), (by rw [hlk]; exact k12n), fg43_0, fg43_1, fg43_w, fg43_2, fg43_3, fg43_4, hfrg43, hP, hS, (by rw [hlk]; exact (lv_sub hl [4, 5, 6, 7, 8, 0] rfl))⟩ (by first | omega | (dsimp only; omega))
            · refine lv_iconst (v := nI (0)) hx hb dX1_link_102 (by decide) ?_
              refine lv_goto (tgt := 123) hx hb dX1_link_103 (by decide) ?_
              refine xtopi (y := nI (if (lkO q x0 i).2.2.1 i = 0 then 0 else (lkL ((lkO q x0 i).2.2.1 i) (lkH ((lkO q x0 i).2.2.1 i) (lkO q x0 i)) c).1 ((lkL ((lkO q x0 i).2.2.1 i) (lkH ((lkO q x0 i).2.2.1 i) (lkO q x0 i)) c).2.1 ((lkO q x0 i).2.2.1 i) * 4 + c))) (by rw [if_pos c99_38]) ?_
              refine lv_istore (lv' := [(8, .int (nI (if (lkO q x0 i).2.2.1 i = 0 then 0 else (lkL ((lkO q x0 i).2.2.1 i) (lkH ((lkO q x0 i).2.2.1 i) (lkO q x0 i)) c).1 ((lkL ((lkO q x0 i).2.2.1 i) (lkH ((lkO q x0 i).2.2.1 i) (lkO q x0 i)) c).2.1 ((lkO q x0 i).2.2.1 i) * 4 + c)))), (7, .int (nI ((lkL ((lkO q x0 i).2.2.1 i) (lkH ((lkO q x0 i).2.2.1 i) (lkO q x0 i)) c).1 ((((lkO q x0 i).2.2.1 i) * 4) + c)))), (6, .int (nI ((((lkO q x0 i).2.2.1 i) * 4) + c))), (0, .ref (ad (8))), (1, .ref (ad (1))), (2, .int (nI ((lkL ((lkO q x0 i).2.2.1 i) (lkH ((lkO q x0 i).2.2.1 i) (lkO q x0 i)) c).2.2.2.2))), (3, .int (nI (i))), (4, .int (nI ((lkO q x0 i).2.2.1 i))), (5, .int (nI (c)))]) hx hb dX1_link_123 hl (by decide) rfl (fun ls hl => ?_)
              refine lv_iload hx hb dX1_link_125 (lv_at hl 1 rfl) ?_
              refine xi_if_ne (tgt := 142) hx hb (by have h7 := hd1 ((lkO q x0 i).2.2.1 i * 4 + c); omega) dX1_link_127 (by decide) (fun c127_44 => ?_) (fun c127_44 => ?_)
              · refine lv_iload_n hx hb dX1_link_142 rfl (lv_at hl 5 rfl) ?_
                refine lv_bipush (v := nI (41)) hx hb dX1_link_143 (by decide) ?_
                refine xi_icmp_ge (tgt := 168) hx hb (by omega) (by decide) dX1_link_145 (by decide) (fun c145_45 => ?_) (fun c145_45 => ?_)
                · have hlk : lkL ((lkO q x0 i).2.2.1 i) (lkH ((lkO q x0 i).2.2.1 i) (lkO q x0 i)) (c + 1) = _ := lkC_2 (s := (lkO q x0 i).2.2.1 i) (c := c) c127_44 (by omega)
                  refine lv_iinc (v := nI (c + 1)) (lv' := [(5, .int (nI (c + 1))), (8, .int (nI (if (lkO q x0 i).2.2.1 i = 0 then 0 else (lkL ((lkO q x0 i).2.2.1 i) (lkH ((lkO q x0 i).2.2.1 i) (lkO q x0 i)) c).1 ((lkL ((lkO q x0 i).2.2.1 i) (lkH ((lkO q x0 i).2.2.1 i) (lkO q x0 i)) c).2.1 ((lkO q x0 i).2.2.1 i) * 4 + c)))), (7, .int (nI ((lkL ((lkO q x0 i).2.2.1 i) (lkH ((lkO q x0 i).2.2.1 i) (lkO q x0 i)) c).1 ((((lkO q x0 i).2.2.1 i) * 4) + c)))), (6, .int (nI ((((lkO q x0 i).2.2.1 i) * 4) + c))), (0, .ref (ad (8))), (1, .ref (ad (1))), (2, .int (nI ((lkL ((lkO q x0 i).2.2.1 i) (lkH ((lkO q x0 i).2.2.1 i) (lkO q x0 i)) c).2.2.2.2))), (3, .int (nI (i))), (4, .int (nI ((lkO q x0 i).2.2.1 i)))]) hx hb dX1_link_168 hl (k := 8) rfl (nI_add (c) 1) (by decide) rfl (fun ls hl => ?_)
                  refine lv_goto (tgt := 70) hx hb dX1_link_171 (by decide) ?_
                  exact ih70 (c + 1, g9n, g10n, g11n, g12n) gl70_36 H locs ls ⟨(by omega), (by rw [hlk]; exact k9n), (by rw [hlk]; exact k10n), (by rw [hlk]; exact k11n), (by rw [hlk]; exact k12n), fo8, fo_1, fa9, fa10, fa11, fa12, hfrgl70_36, hP, hS, (by rw [hlk]; exact (lv_sub hl [4, 5, 6, 7, 8, 0] rfl))⟩ (by first | omega | (dsimp only; omega))
                · have hlk : lkL ((lkO q x0 i).2.2.1 i) (lkH ((lkO q x0 i).2.2.1 i) (lkO q x0 i)) (c + 1) = _ := lkC_1 (s := (lkO q x0 i).2.2.1 i) (c := c) c127_44 c145_45
                  refine lv_aload_n hx hb dX1_link_148 rfl (lv_at hl 3 rfl) ?_
                  refine xw_get hx hb hts hin1 hown hK hP (by decide) fo8 rfl 1 (by decide) hf15 rfl rfl dX1_link_149 ?_
                  refine lv_iload hx hb dX1_link_152 (lv_at hl 1 rfl) ?_
                  refine lv_iload hx hb dX1_link_154 (lv_at hl 0 rfl) ?_
                  refine xw_iast hx hb hK hP hD hS (by decide) 0 fa10 rfl (hd1 _) (by decide) dX1_link_156 (fun g46 H locs eg46 hP hS => ?_)
                  have fg46_0 : g46 (8) = .inr (1, [.ref (ad (9)), .ref (ad (10)), .ref (ad (11)), .ref (ad (12)), .ref (ad (na)), .ref (ad (nb)), .int (nI (S))]) := (congrFun eg46 (8)).trans ((va_up_ne _ _ (by decide)).trans fo8)
                  have fg46_1 : g46 (1) = .inr (0, [.ref (ad (2)), .int (nI (q)), .int (nI (Wt))]) := (congrFun eg46 (1)).trans ((va_up_ne _ _ (by decide)).trans fo_1)
                  have fg46_2 : g46 (9) = .inl (cI, 164, .inl (g9n)) := (congrFun eg46 (9)).trans ((va_up_ne _ _ (by decide)).trans fa9)
                  have fg46_3 : g46 (11) = .inl (cI, 41, .inl (g11n)) := (congrFun eg46 (11)).trans ((va_up_ne _ _ (by decide)).trans fa11)
                  have fg46_4 : g46 (12) = .inl (cZ, 41, .inl (g12n)) := (congrFun eg46 (12)).trans ((va_up_ne _ _ (by decide)).trans fa12)
                  have fg46_w : g46 (10) = .inl (cI, 41, .inl (upd (g10n) ((lkL ((lkO q x0 i).2.2.1 i) (lkH ((lkO q x0 i).2.2.1 i) (lkO q x0 i)) c).1 ((((lkO q x0 i).2.2.1 i) * 4) + c)) (nI (if (lkO q x0 i).2.2.1 i = 0 then 0 else (lkL ((lkO q x0 i).2.2.1 i) (lkH ((lkO q x0 i).2.2.1 i) (lkO q x0 i)) c).1 ((lkL ((lkO q x0 i).2.2.1 i) (lkH ((lkO q x0 i).2.2.1 i) (lkO q x0 i)) c).2.1 ((lkO q x0 i).2.2.1 i) * 4 + c))))) := (congrFun eg46 (10)).trans (va_up_self _ _ _)
                  have hfrg46 : ∀ j : Nat, j ≠ 9 → j ≠ 10 → j ≠ 11 → j ≠ 12 → g46 j = g j := fun j h0 h1 h2 h3 => (congrFun eg46 j).trans ((va_up_ne _ _ h1).trans (hfrgl70_36 j h0 h1 h2 h3))
                  refine lv_aload_n hx hb dX1_link_157 rfl (lv_at hl 3 rfl) ?_
                  refine xw_get hx hb hts hin1 hown hK hP (by decide) fg46_0 rfl 2 (by decide) hf18 rfl rfl dX1_link_158 ?_
                  refine lv_iload_n hx hb dX1_link_161 rfl (lv_at hl 5 rfl) ?_
                  refine lv_iload hx hb dX1_link_162 (lv_at hl 1 rfl) ?_
                  refine xw_iast hx hb hK hP hD hS (by decide) 0 fg46_3 rfl (by omega) (by decide) dX1_link_164 (fun g47 H locs eg47 hP hS => ?_)
                  have fg47_0 : g47 (8) = .inr (1, [.ref (ad (9)), .ref (ad (10)), .ref (ad (11)), .ref (ad (12)), .ref (ad (na)), .ref (ad (nb)), .int (nI (S))]) := (congrFun eg47 (8)).trans ((va_up_ne _ _ (by decide)).trans fg46_0)
                  have fg47_1 : g47 (1) = .inr (0, [.ref (ad (2)), .int (nI (q)), .int (nI (Wt))]) := (congrFun eg47 (1)).trans ((va_up_ne _ _ (by decide)).trans fg46_1)
                  have fg47_2 : g47 (9) = .inl (cI, 164, .inl (g9n)) := (congrFun eg47 (9)).trans ((va_up_ne _ _ (by decide)).trans fg46_2)
                  have fg47_3 : g47 (12) = .inl (cZ, 41, .inl (g12n)) := (congrFun eg47 (12)).trans ((va_up_ne _ _ (by decide)).trans fg46_4)
                  have fg47_4 : g47 (10) = .inl (cI, 41, .inl (upd (g10n) ((lkL ((lkO q x0 i).2.2.1 i) (lkH ((lkO q x0 i).2.2.1 i) (lkO q x0 i)) c).1 ((((lkO q x0 i).2.2.1 i) * 4) + c)) (nI (if (lkO q x0 i).2.2.1 i = 0 then 0 else (lkL ((lkO q x0 i).2.2.1 i) (lkH ((lkO q x0 i).2.2.1 i) (lkO q x0 i)) c).1 ((lkL ((lkO q x0 i).2.2.1 i) (lkH ((lkO q x0 i).2.2.1 i) (lkO q x0 i)) c).2.1 ((lkO q x0 i).2.2.1 i) * 4 + c))))) := (congrFun eg47 (10)).trans ((va_up_ne _ _ (by decide)).trans fg46_w)
                  have fg47_w : g47 (11) = .inl (cI, 41, .inl (upd (g11n) ((lkL ((lkO q x0 i).2.2.1 i) (lkH ((lkO q x0 i).2.2.1 i) (lkO q x0 i)) c).2.2.2.2) (nI ((lkL ((lkO q x0 i).2.2.1 i) (lkH ((lkO q x0 i).2.2.1 i) (lkO q x0 i)) c).1 ((((lkO q x0 i).2.2.1 i) * 4) + c))))) := (congrFun eg47 (11)).trans (va_up_self _ _ _)
                  have hfrg47 : ∀ j : Nat, j ≠ 9 → j ≠ 10 → j ≠ 11 → j ≠ 12 → g47 j = g j := fun j h0 h1 h2 h3 => (congrFun eg47 j).trans ((va_up_ne _ _ h2).trans (hfrg46 j h0 h1 h2 h3))
                  refine lv_iinc (v := nI ((lkL ((lkO q x0 i).2.2.1 i) (lkH ((lkO q x0 i).2.2.1 i) (lkO q x0 i)) c).2.2.2.2 + 1)) (lv' := [(2, .int (nI ((lkL ((lkO q x0 i).2.2.1 i) (lkH ((lkO q x0 i).2.2.1 i) (lkO q x0 i)) c).2.2.2.2 + 1))), (8, .int (nI (if (lkO q x0 i).2.2.1 i = 0 then 0 else (lkL ((lkO q x0 i).2.2.1 i) (lkH ((lkO q x0 i).2.2.1 i) (lkO q x0 i)) c).1 ((lkL ((lkO q x0 i).2.2.1 i) (lkH ((lkO q x0 i).2.2.1 i) (lkO q x0 i)) c).2.1 ((lkO q x0 i).2.2.1 i) * 4 + c)))), (7, .int (nI ((lkL ((lkO q x0 i).2.2.1 i) (lkH ((lkO q x0 i).2.2.1 i) (lkO q x0 i)) c).1 ((((lkO q x0 i).2.2.1 i) * 4) + c)))), (6, .int (nI ((((lkO q x0 i).2.2.1 i) * 4) + c))), (0, .ref (ad (8))), (1, .ref (ad (1))), (3, .int (nI (i))), (4, .int (nI ((lkO q x0 i).2.2.1 i))), (5, .int (nI (c)))]) hx hb dX1_link_165 hl (k := 5) rfl (nI_add ((lkL ((lkO q x0 i).2.2.1 i) (lkH ((lkO q x0 i).2.2.1 i) (lkO q x0 i)) c).2.2.2.2) 1) (by decide) rfl (fun ls hl => ?_)
                  refine lv_iinc (v := nI (c + 1)) (lv' := [(5, .int (nI (c + 1))), (2, .int (nI ((lkL ((lkO q x0 i).2.2.1 i) (lkH ((lkO q x0 i).2.2.1 i) (lkO q x0 i)) c).2.2.2.2 + 1))), (8, .int (nI (if (lkO q x0 i).2.2.1 i = 0 then 0 else (lkL ((lkO q x0 i).2.2.1 i) (lkH ((lkO q x0 i).2.2.1 i) (lkO q x0 i)) c).1 ((lkL ((lkO q x0 i).2.2.1 i) (lkH ((lkO q x0 i).2.2.1 i) (lkO q x0 i)) c).2.1 ((lkO q x0 i).2.2.1 i) * 4 + c)))), (7, .int (nI ((lkL ((lkO q x0 i).2.2.1 i) (lkH ((lkO q x0 i).2.2.1 i) (lkO q x0 i)) c).1 ((((lkO q x0 i).2.2.1 i) * 4) + c)))), (6, .int (nI ((((lkO q x0 i).2.2.1 i) * 4) + c))), (0, .ref (ad (8))), (1, .ref (ad (1))), (3, .int (nI (i))), (4, .int (nI ((lkO q x0 i).2.2.1 i)))]) hx hb dX1_link_168 hl (k := 8) rfl (nI_add (c) 1) (by decide) rfl (fun ls hl => ?_)
                  refine lv_goto (tgt := 70) hx hb dX1_link_171 (by decide) ?_
                  exact ih70 (c + 1, g9n, upd (g10n) ((lkL ((lkO q x0 i).2.2.1 i) (lkH ((lkO q x0 i).2.2.1 i) (lkO q x0 i)) c).1 ((((lkO q x0 i).2.2.1 i) * 4) + c)) (nI (if (lkO q x0 i).2.2.1 i = 0 then 0 else (lkL ((lkO q x0 i).2.2.1 i) (lkH ((lkO q x0 i).2.2.1 i) (lkO q x0 i)) c).1 ((lkL ((lkO q x0 i).2.2.1 i) (lkH ((lkO q x0 i).2.2.1 i) (lkO q x0 i)) c).2.1 ((lkO q x0 i).2.2.1 i) * 4 + c))), upd (g11n) ((lkL ((lkO q x0 i).2.2.1 i) (lkH ((lkO q x0 i).2.2.1 i) (lkO q x0 i)) c).2.2.2.2) (nI ((lkL ((lkO q x0 i).2.2.1 i) (lkH ((lkO q x0 i).2.2.1 i) (lkO q x0 i)) c).1 ((((lkO q x0 i).2.2.1 i) * 4) + c))), g12n) g47 H locs ls ⟨(by omega), (by rw [hlk]; exact k9n), (by rw [hlk]; exact upd_nI k10n), (by rw [hlk]; exact upd_nI k11n), (by rw [hlk]; exact k12n), fg47_0, fg47_1, fg47_2, fg47_4, fg47_w, fg47_3, hfrg47, hP, hS, (by rw [hlk]; exact (lv_sub hl [5, 6, 1, 7, 8, 0] rfl))⟩ (by first | omega | (dsimp only; omega))
              · have hlk : lkL ((lkO q x0 i).2.2.1 i) (lkH ((lkO q x0 i).2.2.1 i) (lkO q x0 i)) (c + 1) = _ := lkC_0 (s := (lkO q x0 i).2.2.1 i) (c := c) c127_44
                refine lv_aload_n hx hb dX1_link_130 rfl (lv_at hl 3 rfl) ?_
                refine xw_get hx hb hts hin1 hown hK hP (by decide) fo8 rfl 0 (by decide) hf11 rfl rfl dX1_link_131 ?_
                refine lv_iload hx hb dX1_link_134 (lv_at hl 2 rfl) ?_
                refine lv_iload hx hb dX1_link_136 (lv_at hl 0 rfl) ?_
                refine xw_iast hx hb hK hP hD hS (by decide) 0 fa9 rfl (by omega) (by decide) dX1_link_138 (fun g48 H locs eg48 hP hS => ?_)
                have fg48_0 : g48 (8) = .inr (1, [.ref (ad (9)), .ref (ad (10)), .ref (ad (11)), .ref (ad (12)), .ref (ad (na)), .ref (ad (nb)), .int (nI (S))]) := (congrFun eg48 (8)).trans ((va_up_ne _ _ (by decide)).trans fo8)
                have fg48_1 : g48 (1) = .inr (0, [.ref (ad (2)), .int (nI (q)), .int (nI (Wt))]) := (congrFun eg48 (1)).trans ((va_up_ne _ _ (by decide)).trans fo_1)
                have fg48_2 : g48 (10) = .inl (cI, 41, .inl (g10n)) := (congrFun eg48 (10)).trans ((va_up_ne _ _ (by decide)).trans fa10)
                have fg48_3 : g48 (11) = .inl (cI, 41, .inl (g11n)) := (congrFun eg48 (11)).trans ((va_up_ne _ _ (by decide)).trans fa11)
                have fg48_4 : g48 (12) = .inl (cZ, 41, .inl (g12n)) := (congrFun eg48 (12)).trans ((va_up_ne _ _ (by decide)).trans fa12)
                have fg48_w : g48 (9) = .inl (cI, 164, .inl (upd (g9n) ((((lkO q x0 i).2.2.1 i) * 4) + c) (nI (if (lkO q x0 i).2.2.1 i = 0 then 0 else (lkL ((lkO q x0 i).2.2.1 i) (lkH ((lkO q x0 i).2.2.1 i) (lkO q x0 i)) c).1 ((lkL ((lkO q x0 i).2.2.1 i) (lkH ((lkO q x0 i).2.2.1 i) (lkO q x0 i)) c).2.1 ((lkO q x0 i).2.2.1 i) * 4 + c))))) := (congrFun eg48 (9)).trans (va_up_self _ _ _)
                have hfrg48 : ∀ j : Nat, j ≠ 9 → j ≠ 10 → j ≠ 11 → j ≠ 12 → g48 j = g j := fun j h0 h1 h2 h3 => (congrFun eg48 j).trans ((va_up_ne _ _ h0).trans (hfrgl70_36 j h0 h1 h2 h3))
                refine lv_goto (tgt := 168) hx hb dX1_link_139 (by decide) ?_
                refine lv_iinc (v := nI (c + 1)) (lv' := [(5, .int (nI (c + 1))), (8, .int (nI (if (lkO q x0 i).2.2.1 i = 0 then 0 else (lkL ((lkO q x0 i).2.2.1 i) (lkH ((lkO q x0 i).2.2.1 i) (lkO q x0 i)) c).1 ((lkL ((lkO q x0 i).2.2.1 i) (lkH ((lkO q x0 i).2.2.1 i) (lkO q x0 i)) c).2.1 ((lkO q x0 i).2.2.1 i) * 4 + c)))), (7, .int (nI ((lkL ((lkO q x0 i).2.2.1 i) (lkH ((lkO q x0 i).2.2.1 i) (lkO q x0 i)) c).1 ((((lkO q x0 i).2.2.1 i) * 4) + c)))), (6, .int (nI ((((lkO q x0 i).2.2.1 i) * 4) + c))), (0, .ref (ad (8))), (1, .ref (ad (1))), (2, .int (nI ((lkL ((lkO q x0 i).2.2.1 i) (lkH ((lkO q x0 i).2.2.1 i) (lkO q x0 i)) c).2.2.2.2))), (3, .int (nI (i))), (4, .int (nI ((lkO q x0 i).2.2.1 i)))]) hx hb dX1_link_168 hl (k := 8) rfl (nI_add (c) 1) (by decide) rfl (fun ls hl => ?_)
                refine lv_goto (tgt := 70) hx hb dX1_link_171 (by decide) ?_
                exact ih70 (c + 1, upd (g9n) ((((lkO q x0 i).2.2.1 i) * 4) + c) (nI (if (lkO q x0 i).2.2.1 i = 0 then 0 else (lkL ((lkO q x0 i).2.2.1 i) (lkH ((lkO q x0 i).2.2.1 i) (lkO q x0 i)) c).1 ((lkL ((lkO q x0 i).2.2.1 i) (lkH ((lkO q x0 i).2.2.1 i) (lkO q x0 i)) c).2.1 ((lkO q x0 i).2.2.1 i) * 4 + c))), g10n, g11n, g12n) g48 H locs ls ⟨(by omega), (by rw [hlk]; exact upd_nI k9n), (by rw [hlk]; exact k10n), (by rw [hlk]; exact k11n), (by rw [hlk]; exact k12n), fg48_0, fg48_1, fg48_w, fg48_2, fg48_3, fg48_4, hfrg48, hP, hS, (by rw [hlk]; exact (lv_sub hl [4, 5, 6, 7, 8, 0] rfl))⟩ (by first | omega | (dsimp only; omega))
