def idM (i : Nat) : Int := if i % 4 = 0 then 1 else 0
/-- a place of the matrix with column p replaced by K (p 3: none) -/
def enM (Mx Kx : Nat → Int) (p r c : Nat) : Int := if c = p then Kx r else Mx (r * 3 + c)
def mnM (Mx Kx : Nat → Int) (p a b : Nat) : Int := enM Mx Kx p 1 a * enM Mx Kx p 2 b - enM Mx Kx p 1 b * enM Mx Kx p 2 a
def dtM (Mx Kx : Nat → Int) (p : Nat) : Int := enM Mx Kx p 0 0 * mnM Mx Kx p 1 2 - enM Mx Kx p 0 1 * mnM Mx Kx p 0 2 + enM Mx Kx p 0 2 * mnM Mx Kx p 0 1
def ssM (Mx Kx : Nat → Int) : Nat → Int
  | 0 => 0
  | k + 1 => ssM Mx Kx k + dtM Mx Kx k
/-- the int that names a column, or none -/
def colI (p : Nat) : Int32 := if p = 3 then -1 else nI p
theorem colI_ne {p c : Nat} (hp : p ≤ 3) (hc : c < 3) : (nI c = colI p) ↔ c = p := by
  rcases (show c = 0 ∨ c = 1 ∨ c = 2 by omega) with rfl | rfl | rfl <;> rcases (show p = 0 ∨ p = 1 ∨ p = 2 ∨ p = 3 by omega) with rfl | rfl | rfl | rfl <;> decide
set_option maxHeartbeats 4000000 in
set_option maxRecDepth 100000 in
/-- Race.clear -/
theorem mX2_clear (l : Launch) {D : va_G} {cI cJ cZ cW : ClassId} {ad : Nat → Nat} {A : Nat → Prop} (hD : ∀ g, va_D A (xw 81 ad g)) {g : Nat → va_E} {sz : Int32} {f5 : Nat → Option Nat} {f6 f7 : Nat → Int64}  (fo4 : g (4) = .inr (2, [.ref (ad (5)), .ref (ad (6)), .ref (ad (7)), .int (sz)])) (fa5 : g (5) = .inl (cW, 3, .inr (.inr (.inr (.inr (f5)))))) (fa6 : g (6) = .inl (cJ, 9, .inr (.inl (f6)))) (fa7 : g (7) = .inl (cJ, 3, .inr (.inl (f7))))  : Met l yX2_clear wsX2_clear ({ frames := 0, cells := 0, slots := 0, locals := 0 }) (va_Pc [.ref (ad (4))] (xB D (xT cI cJ cZ cW) ad g)) (va_Qv (fun g2 => ∃ (f5 : Nat → Option Nat) (f6 f7 : Nat → Int64), (∀ i, i < 3 → f5 i = none) ∧ (∀ i, i < 9 → f6 i = lZ (idM i)) ∧ (∀ i, i < 3 → f7 i = lZ 0) ∧ g2 4 = .inr (2, [.ref (ad (5)), .ref (ad (6)), .ref (ad (7)), .int (nI (0))]) ∧ g2 5 = .inl (cW, 3, .inr (.inr (.inr (.inr (f5))))) ∧ g2 6 = .inl (cJ, 9, .inr (.inl (f6))) ∧ g2 7 = .inl (cJ, 3, .inr (.inl (f7))) ∧ ∀ j : Nat, j ≠ 4 → j ≠ 5 → j ≠ 6 → j ≠ 7 → g2 j = g j) (xB D (xT cI cJ cZ cW) ad) A) 0 0 A := by
  refine Met.ofW (cc := cX2_clear) (maxL := 3) (ret := none) (by decide) rfl ?_
  intro p e s m args below meth c s₁ B hml hv
  obtain ⟨rfl, hP, hK, hN⟩ := hv
  have hx := B.exec
  have hb := B.bytes
  have hr := B.returns
  have hts := atoms_spec (ws := wsX2_clear) B.pre
  have hown : s.vm.findClass RX2 = some m.cls := findClass_of_methodNamed B.named
  have hlocks := B.notSynchronized
  have hS : va_S A s.heap s.heap [] := va_S.rf
  have hin2 : ∀ w ∈ wsX20, w ∈ wsX2_clear := by decide +kernel
  have hf11 := hts (.fieldLink RX2 11 "LettersByLot$Race" "runners" "[LLettersByLot$Word;") (by decide +kernel)
  have hf17 := hts (.fieldLink RX2 17 "LettersByLot$Race" "leads" "[J") (by decide +kernel)
  have hf21 := hts (.fieldLink RX2 21 "LettersByLot$Race" "asked" "[J") (by decide +kernel)
  have hf27 := hts (.fieldLink RX2 27 "LettersByLot$Race" "size" "I") (by decide +kernel)
  have hl := lv_entry ([.ref (ad (4))]) (n := 3) (Nat.le_of_ble_eq_true rfl)
  rw [lg_entry_eq]
  generalize (lg_sl ([.ref (ad (4))]) ++ List.replicate (3 - (lg_sl ([.ref (ad (4))])).length) Slot.unset).toArray = ls at hl ⊢
  have hl : lv_has ls 3 [(0, .ref (ad (4)))] := hl
  refine lv_aload_n hx hb dX2_clear_0 rfl (lv_at hl 0 rfl) ?_
  refine lv_iconst (v := nI (0)) hx hb dX2_clear_1 (by decide) ?_
  refine xw_put hx hb hts hin2 tyX2 tyX2_ok nmX2 hown hK hP hD hS (by decide) fo4 rfl 3 (by decide) hf27 rfl rfl (ty := .int) (by decide +kernel) rfl rfl (Nat.le_of_ble_eq_true rfl) (fs' := [.ref (ad (5)), .ref (ad (6)), .ref (ad (7)), .int (nI (0))]) rfl dX2_clear_2 (fun g1 H locs eg1 hP hS => ?_)
  have fg1_0 : g1 (5) = .inl (cW, 3, .inr (.inr (.inr (.inr (f5))))) := (congrFun eg1 (5)).trans ((va_up_ne _ _ (by decide)).trans fa5)
  have fg1_1 : g1 (6) = .inl (cJ, 9, .inr (.inl (f6))) := (congrFun eg1 (6)).trans ((va_up_ne _ _ (by decide)).trans fa6)
  have fg1_2 : g1 (7) = .inl (cJ, 3, .inr (.inl (f7))) := (congrFun eg1 (7)).trans ((va_up_ne _ _ (by decide)).trans fa7)
  have fg1_w : g1 (4) = .inr (2, [.ref (ad (5)), .ref (ad (6)), .ref (ad (7)), .int (nI (0))]) := (congrFun eg1 (4)).trans (va_up_self _ _ _)
  have hfrg1 : ∀ j : Nat, j ≠ 4 → j ≠ 5 → j ≠ 6 → j ≠ 7 → g1 j = g j := fun j h0 h1 h2 h3 => (congrFun eg1 j).trans ((va_up_ne _ _ h0).trans ((fun _ _ _ _ _ => rfl) j h0 h1 h2 h3))
  refine lv_iconst (v := nI (0)) hx hb dX2_clear_5 (by decide) ?_
  refine lv_istore_n (lv' := [(1, .int (nI (0))), (0, .ref (ad (4)))]) hx hb dX2_clear_6 rfl hl (by decide) rfl (fun ls hl => ?_)
  refine lv_iload_n hx hb dX2_clear_7 rfl (lv_at hl 0 rfl) ?_
  refine lv_iconst (v := nI (3)) hx hb dX2_clear_8 (by decide) ?_
  refine xi_icmp_ge (tgt := 65) hx hb (by decide) (by decide) dX2_clear_9 (by decide) (fun c0 => absurd c0 (by decide)) (fun _ => ?_)
  refine lv_aload_n hx hb dX2_clear_12 rfl (lv_at hl 1 rfl) ?_
  refine xw_get hx hb hts hin2 hown hK hP (by decide) fg1_w rfl 0 (by decide) hf11 rfl rfl dX2_clear_13 ?_
  refine lv_iload_n hx hb dX2_clear_16 rfl (lv_at hl 0 rfl) ?_
  refine lv_null hx hb dX2_clear_17 ?_
  refine xw_aastN hx hb hK hP hD hS (by decide) 3 fg1_0 rfl (by omega) (by decide) dX2_clear_18 (fun g3 H locs eg3 hP hS => ?_)
  have fg3_0 : g3 (6) = .inl (cJ, 9, .inr (.inl (f6))) := (congrFun eg3 (6)).trans ((va_up_ne _ _ (by decide)).trans fg1_1)
  have fg3_1 : g3 (7) = .inl (cJ, 3, .inr (.inl (f7))) := (congrFun eg3 (7)).trans ((va_up_ne _ _ (by decide)).trans fg1_2)
  have fg3_2 : g3 (4) = .inr (2, [.ref (ad (5)), .ref (ad (6)), .ref (ad (7)), .int (nI (0))]) := (congrFun eg3 (4)).trans ((va_up_ne _ _ (by decide)).trans fg1_w)
  have fg3_w : g3 (5) = .inl (cW, 3, .inr (.inr (.inr (.inr (va_up (f5) (0) none))))) := (congrFun eg3 (5)).trans (va_up_self _ _ _)
  have hfrg3 : ∀ j : Nat, j ≠ 4 → j ≠ 5 → j ≠ 6 → j ≠ 7 → g3 j = g j := fun j h0 h1 h2 h3 => (congrFun eg3 j).trans ((va_up_ne _ _ h1).trans (hfrg1 j h0 h1 h2 h3))
  refine lv_aload_n hx hb dX2_clear_19 rfl (lv_at hl 1 rfl) ?_
  refine xw_get hx hb hts hin2 hown hK hP (by decide) fg3_2 rfl 2 (by decide) hf21 rfl rfl dX2_clear_20 ?_
  refine lv_iload_n hx hb dX2_clear_23 rfl (lv_at hl 0 rfl) ?_
  refine lv_lconst (v := lZ (0)) hx hb dX2_clear_24 (by decide) ?_
  refine xw_last hx hb hK hP hD hS (by decide) 1 fg3_1 rfl (by omega) (by decide) dX2_clear_25 (fun g4 H locs eg4 hP hS => ?_)
  have fg4_0 : g4 (6) = .inl (cJ, 9, .inr (.inl (f6))) := (congrFun eg4 (6)).trans ((va_up_ne _ _ (by decide)).trans fg3_0)
  have fg4_1 : g4 (4) = .inr (2, [.ref (ad (5)), .ref (ad (6)), .ref (ad (7)), .int (nI (0))]) := (congrFun eg4 (4)).trans ((va_up_ne _ _ (by decide)).trans fg3_2)
  have fg4_2 : g4 (5) = .inl (cW, 3, .inr (.inr (.inr (.inr (va_up (f5) (0) none))))) := (congrFun eg4 (5)).trans ((va_up_ne _ _ (by decide)).trans fg3_w)
  have fg4_w : g4 (7) = .inl (cJ, 3, .inr (.inl (vp_updL (f7) (0) (lZ (0))))) := (congrFun eg4 (7)).trans (va_up_self _ _ _)
  have hfrg4 : ∀ j : Nat, j ≠ 4 → j ≠ 5 → j ≠ 6 → j ≠ 7 → g4 j = g j := fun j h0 h1 h2 h3 => (congrFun eg4 j).trans ((va_up_ne _ _ h3).trans (hfrg3 j h0 h1 h2 h3))
  refine lv_iconst (v := nI (0)) hx hb dX2_clear_26 (by decide) ?_
  refine lv_istore_n (lv' := [(2, .int (nI (0))), (1, .int (nI (0))), (0, .ref (ad (4)))]) hx hb dX2_clear_27 rfl hl (by decide) rfl (fun ls hl => ?_)
  refine lv_iload_n hx hb dX2_clear_28 rfl (lv_at hl 0 rfl) ?_
  refine lv_iconst (v := nI (3)) hx hb dX2_clear_29 (by decide) ?_
  refine xi_icmp_ge (tgt := 59) hx hb (by decide) (by decide) dX2_clear_30 (by decide) (fun c0 => absurd c0 (by decide)) (fun _ => ?_)
  refine lv_aload_n hx hb dX2_clear_33 rfl (lv_at hl 2 rfl) ?_
  refine xw_get hx hb hts hin2 hown hK hP (by decide) fg4_1 rfl 1 (by decide) hf17 rfl rfl dX2_clear_34 ?_
  refine lv_iload_n hx hb dX2_clear_37 rfl (lv_at hl 1 rfl) ?_
  refine lv_iconst (v := nI (3)) hx hb dX2_clear_38 (by decide) ?_
  refine xi_mul hx hb dX2_clear_39 ?_
  refine lv_iload_n hx hb dX2_clear_40 rfl (lv_at hl 0 rfl) ?_
  refine xi_add hx hb dX2_clear_41 ?_
  refine lv_iload_n hx hb dX2_clear_42 rfl (lv_at hl 1 rfl) ?_
  refine lv_iload_n hx hb dX2_clear_43 rfl (lv_at hl 0 rfl) ?_
  refine xi_icmp_ne (tgt := 51) hx hb (by decide) (by decide) dX2_clear_44 (by decide) (fun c0 => absurd c0 (by decide)) (fun _ => ?_)
  refine lv_lconst (v := lZ (1)) hx hb dX2_clear_47 (by decide) ?_
  refine lv_goto (tgt := 52) hx hb dX2_clear_48 (by decide) ?_
  refine xw_last hx hb hK hP hD hS (by decide) 1 fg4_0 rfl (by omega) (by decide) dX2_clear_52 (fun g7 H locs eg7 hP hS => ?_)
  have fg7_0 : g7 (4) = .inr (2, [.ref (ad (5)), .ref (ad (6)), .ref (ad (7)), .int (nI (0))]) := (congrFun eg7 (4)).trans ((va_up_ne _ _ (by decide)).trans fg4_1)
  have fg7_1 : g7 (5) = .inl (cW, 3, .inr (.inr (.inr (.inr (va_up (f5) (0) none))))) := (congrFun eg7 (5)).trans ((va_up_ne _ _ (by decide)).trans fg4_2)
  have fg7_2 : g7 (7) = .inl (cJ, 3, .inr (.inl (vp_updL (f7) (0) (lZ (0))))) := (congrFun eg7 (7)).trans ((va_up_ne _ _ (by decide)).trans fg4_w)
  have fg7_w : g7 (6) = .inl (cJ, 9, .inr (.inl (vp_updL (f6) (0) (lZ (1))))) := (congrFun eg7 (6)).trans (va_up_self _ _ _)
  have hfrg7 : ∀ j : Nat, j ≠ 4 → j ≠ 5 → j ≠ 6 → j ≠ 7 → g7 j = g j := fun j h0 h1 h2 h3 => (congrFun eg7 j).trans ((va_up_ne _ _ h2).trans (hfrg4 j h0 h1 h2 h3))
  refine lv_iinc (v := nI (1)) (lv' := [(2, .int (nI (1))), (1, .int (nI (0))), (0, .ref (ad (4)))]) hx hb dX2_clear_53 hl (k := 0) rfl (nI_add (0) 1) (by decide) rfl (fun ls hl => ?_)
  refine lv_goto (tgt := 28) hx hb dX2_clear_56 (by decide) ?_
  refine lv_iload_n hx hb dX2_clear_28 rfl (lv_at hl 0 rfl) ?_
  refine lv_iconst (v := nI (3)) hx hb dX2_clear_29 (by decide) ?_
  refine xi_icmp_ge (tgt := 59) hx hb (by decide) (by decide) dX2_clear_30 (by decide) (fun c0 => absurd c0 (by decide)) (fun _ => ?_)
  refine lv_aload_n hx hb dX2_clear_33 rfl (lv_at hl 2 rfl) ?_
  refine xw_get hx hb hts hin2 hown hK hP (by decide) fg7_0 rfl 1 (by decide) hf17 rfl rfl dX2_clear_34 ?_
  refine lv_iload_n hx hb dX2_clear_37 rfl (lv_at hl 1 rfl) ?_
  refine lv_iconst (v := nI (3)) hx hb dX2_clear_38 (by decide) ?_
  refine xi_mul hx hb dX2_clear_39 ?_
  refine lv_iload_n hx hb dX2_clear_40 rfl (lv_at hl 0 rfl) ?_
  refine xi_add hx hb dX2_clear_41 ?_
  refine lv_iload_n hx hb dX2_clear_42 rfl (lv_at hl 1 rfl) ?_
  refine lv_iload_n hx hb dX2_clear_43 rfl (lv_at hl 0 rfl) ?_
  refine xi_icmp_ne (tgt := 51) hx hb (by decide) (by decide) dX2_clear_44 (by decide) (fun _ => ?_) (fun c0 => absurd c0 (by decide))
  refine lv_lconst (v := lZ (0)) hx hb dX2_clear_51 (by decide) ?_
  refine xw_last hx hb hK hP hD hS (by decide) 1 fg7_w rfl (by omega) (by decide) dX2_clear_52 (fun g10 H locs eg10 hP hS => ?_)
  have fg10_0 : g10 (4) = .inr (2, [.ref (ad (5)), .ref (ad (6)), .ref (ad (7)), .int (nI (0))]) := (congrFun eg10 (4)).trans ((va_up_ne _ _ (by decide)).trans fg7_0)
  have fg10_1 : g10 (5) = .inl (cW, 3, .inr (.inr (.inr (.inr (va_up (f5) (0) none))))) := (congrFun eg10 (5)).trans ((va_up_ne _ _ (by decide)).trans fg7_1)
  have fg10_2 : g10 (7) = .inl (cJ, 3, .inr (.inl (vp_updL (f7) (0) (lZ (0))))) := (congrFun eg10 (7)).trans ((va_up_ne _ _ (by decide)).trans fg7_2)
  have fg10_w : g10 (6) = .inl (cJ, 9, .inr (.inl (vp_updL (vp_updL (f6) (0) (lZ (1))) (1) (lZ (0))))) := (congrFun eg10 (6)).trans (va_up_self _ _ _)
  have hfrg10 : ∀ j : Nat, j ≠ 4 → j ≠ 5 → j ≠ 6 → j ≠ 7 → g10 j = g j := fun j h0 h1 h2 h3 => (congrFun eg10 j).trans ((va_up_ne _ _ h2).trans (hfrg7 j h0 h1 h2 h3))
  refine lv_iinc (v := nI (2)) (lv' := [(2, .int (nI (2))), (1, .int (nI (0))), (0, .ref (ad (4)))]) hx hb dX2_clear_53 hl (k := 0) rfl (nI_add (1) 1) (by decide) rfl (fun ls hl => ?_)
  refine lv_goto (tgt := 28) hx hb dX2_clear_56 (by decide) ?_
  refine lv_iload_n hx hb dX2_clear_28 rfl (lv_at hl 0 rfl) ?_
  refine lv_iconst (v := nI (3)) hx hb dX2_clear_29 (by decide) ?_
  refine xi_icmp_ge (tgt := 59) hx hb (by decide) (by decide) dX2_clear_30 (by decide) (fun c0 => absurd c0 (by decide)) (fun _ => ?_)
  refine lv_aload_n hx hb dX2_clear_33 rfl (lv_at hl 2 rfl) ?_
  refine xw_get hx hb hts hin2 hown hK hP (by decide) fg10_0 rfl 1 (by decide) hf17 rfl rfl dX2_clear_34 ?_
  refine lv_iload_n hx hb dX2_clear_37 rfl (lv_at hl 1 rfl) ?_
  refine lv_iconst (v := nI (3)) hx hb dX2_clear_38 (by decide) ?_
  refine xi_mul hx hb dX2_clear_39 ?_
  refine lv_iload_n hx hb dX2_clear_40 rfl (lv_at hl 0 rfl) ?_
  refine xi_add hx hb dX2_clear_41 ?_
  refine lv_iload_n hx hb dX2_clear_42 rfl (lv_at hl 1 rfl) ?_
  refine lv_iload_n hx hb dX2_clear_43 rfl (lv_at hl 0 rfl) ?_
  refine xi_icmp_ne (tgt := 51) hx hb (by decide) (by decide) dX2_clear_44 (by decide) (fun _ => ?_) (fun c0 => absurd c0 (by decide))
  refine lv_lconst (v := lZ (0)) hx hb dX2_clear_51 (by decide) ?_
  refine xw_last hx hb hK hP hD hS (by decide) 1 fg10_w rfl (by omega) (by decide) dX2_clear_52 (fun g13 H locs eg13 hP hS => ?_)
  have fg13_0 : g13 (4) = .inr (2, [.ref (ad (5)), .ref (ad (6)), .ref (ad (7)), .int (nI (0))]) := (congrFun eg13 (4)).trans ((va_up_ne _ _ (by decide)).trans fg10_0)
  have fg13_1 : g13 (5) = .inl (cW, 3, .inr (.inr (.inr (.inr (va_up (f5) (0) none))))) := (congrFun eg13 (5)).trans ((va_up_ne _ _ (by decide)).trans fg10_1)
  have fg13_2 : g13 (7) = .inl (cJ, 3, .inr (.inl (vp_updL (f7) (0) (lZ (0))))) := (congrFun eg13 (7)).trans ((va_up_ne _ _ (by decide)).trans fg10_2)
  have fg13_w : g13 (6) = .inl (cJ, 9, .inr (.inl (vp_updL (vp_updL (vp_updL (f6) (0) (lZ (1))) (1) (lZ (0))) (2) (lZ (0))))) := (congrFun eg13 (6)).trans (va_up_self _ _ _)
  have hfrg13 : ∀ j : Nat, j ≠ 4 → j ≠ 5 → j ≠ 6 → j ≠ 7 → g13 j = g j := fun j h0 h1 h2 h3 => (congrFun eg13 j).trans ((va_up_ne _ _ h2).trans (hfrg10 j h0 h1 h2 h3))
  refine lv_iinc (v := nI (3)) (lv' := [(2, .int (nI (3))), (1, .int (nI (0))), (0, .ref (ad (4)))]) hx hb dX2_clear_53 hl (k := 0) rfl (nI_add (2) 1) (by decide) rfl (fun ls hl => ?_)
  refine lv_goto (tgt := 28) hx hb dX2_clear_56 (by decide) ?_
  refine lv_iload_n hx hb dX2_clear_28 rfl (lv_at hl 0 rfl) ?_
  refine lv_iconst (v := nI (3)) hx hb dX2_clear_29 (by decide) ?_
  refine xi_icmp_ge (tgt := 59) hx hb (by decide) (by decide) dX2_clear_30 (by decide) (fun _ => ?_) (fun c0 => absurd c0 (by decide))
  refine lv_iinc (v := nI (1)) (lv' := [(1, .int (nI (1))), (2, .int (nI (3))), (0, .ref (ad (4)))]) hx hb dX2_clear_59 hl (k := 1) rfl (nI_add (0) 1) (by decide) rfl (fun ls hl => ?_)
  refine lv_goto (tgt := 7) hx hb dX2_clear_62 (by decide) ?_
  refine lv_iload_n hx hb dX2_clear_7 rfl (lv_at hl 0 rfl) ?_
  refine lv_iconst (v := nI (3)) hx hb dX2_clear_8 (by decide) ?_
  refine xi_icmp_ge (tgt := 65) hx hb (by decide) (by decide) dX2_clear_9 (by decide) (fun c0 => absurd c0 (by decide)) (fun _ => ?_)
  refine lv_aload_n hx hb dX2_clear_12 rfl (lv_at hl 2 rfl) ?_
  refine xw_get hx hb hts hin2 hown hK hP (by decide) fg13_0 rfl 0 (by decide) hf11 rfl rfl dX2_clear_13 ?_
  refine lv_iload_n hx hb dX2_clear_16 rfl (lv_at hl 0 rfl) ?_
  refine lv_null hx hb dX2_clear_17 ?_
  refine xw_aastN hx hb hK hP hD hS (by decide) 3 fg13_1 rfl (by omega) (by decide) dX2_clear_18 (fun g16 H locs eg16 hP hS => ?_)
  have fg16_0 : g16 (4) = .inr (2, [.ref (ad (5)), .ref (ad (6)), .ref (ad (7)), .int (nI (0))]) := (congrFun eg16 (4)).trans ((va_up_ne _ _ (by decide)).trans fg13_0)
  have fg16_1 : g16 (7) = .inl (cJ, 3, .inr (.inl (vp_updL (f7) (0) (lZ (0))))) := (congrFun eg16 (7)).trans ((va_up_ne _ _ (by decide)).trans fg13_2)
  have fg16_2 : g16 (6) = .inl (cJ, 9, .inr (.inl (vp_updL (vp_updL (vp_updL (f6) (0) (lZ (1))) (1) (lZ (0))) (2) (lZ (0))))) := (congrFun eg16 (6)).trans ((va_up_ne _ _ (by decide)).trans fg13_w)
  have fg16_w : g16 (5) = .inl (cW, 3, .inr (.inr (.inr (.inr (va_up (va_up (f5) (0) none) (1) none))))) := (congrFun eg16 (5)).trans (va_up_self _ _ _)
  have hfrg16 : ∀ j : Nat, j ≠ 4 → j ≠ 5 → j ≠ 6 → j ≠ 7 → g16 j = g j := fun j h0 h1 h2 h3 => (congrFun eg16 j).trans ((va_up_ne _ _ h1).trans (hfrg13 j h0 h1 h2 h3))
  refine lv_aload_n hx hb dX2_clear_19 rfl (lv_at hl 2 rfl) ?_
  refine xw_get hx hb hts hin2 hown hK hP (by decide) fg16_0 rfl 2 (by decide) hf21 rfl rfl dX2_clear_20 ?_
  refine lv_iload_n hx hb dX2_clear_23 rfl (lv_at hl 0 rfl) ?_
  refine lv_lconst (v := lZ (0)) hx hb dX2_clear_24 (by decide) ?_
  refine xw_last hx hb hK hP hD hS (by decide) 1 fg16_1 rfl (by omega) (by decide) dX2_clear_25 (fun g17 H locs eg17 hP hS => ?_)
  have fg17_0 : g17 (4) = .inr (2, [.ref (ad (5)), .ref (ad (6)), .ref (ad (7)), .int (nI (0))]) := (congrFun eg17 (4)).trans ((va_up_ne _ _ (by decide)).trans fg16_0)
  have fg17_1 : g17 (6) = .inl (cJ, 9, .inr (.inl (vp_updL (vp_updL (vp_updL (f6) (0) (lZ (1))) (1) (lZ (0))) (2) (lZ (0))))) := (congrFun eg17 (6)).trans ((va_up_ne _ _ (by decide)).trans fg16_2)
  have fg17_2 : g17 (5) = .inl (cW, 3, .inr (.inr (.inr (.inr (va_up (va_up (f5) (0) none) (1) none))))) := (congrFun eg17 (5)).trans ((va_up_ne _ _ (by decide)).trans fg16_w)
  have fg17_w : g17 (7) = .inl (cJ, 3, .inr (.inl (vp_updL (vp_updL (f7) (0) (lZ (0))) (1) (lZ (0))))) := (congrFun eg17 (7)).trans (va_up_self _ _ _)
  have hfrg17 : ∀ j : Nat, j ≠ 4 → j ≠ 5 → j ≠ 6 → j ≠ 7 → g17 j = g j := fun j h0 h1 h2 h3 => (congrFun eg17 j).trans ((va_up_ne _ _ h3).trans (hfrg16 j h0 h1 h2 h3))
  refine lv_iconst (v := nI (0)) hx hb dX2_clear_26 (by decide) ?_
  refine lv_istore_n (lv' := [(2, .int (nI (0))), (1, .int (nI (1))), (0, .ref (ad (4)))]) hx hb dX2_clear_27 rfl hl (by decide) rfl (fun ls hl => ?_)
  refine lv_iload_n hx hb dX2_clear_28 rfl (lv_at hl 0 rfl) ?_
  refine lv_iconst (v := nI (3)) hx hb dX2_clear_29 (by decide) ?_
  refine xi_icmp_ge (tgt := 59) hx hb (by decide) (by decide) dX2_clear_30 (by decide) (fun c0 => absurd c0 (by decide)) (fun _ => ?_)
  refine lv_aload_n hx hb dX2_clear_33 rfl (lv_at hl 2 rfl) ?_
  refine xw_get hx hb hts hin2 hown hK hP (by decide) fg17_0 rfl 1 (by decide) hf17 rfl rfl dX2_clear_34 ?_
  refine lv_iload_n hx hb dX2_clear_37 rfl (lv_at hl 1 rfl) ?_
  refine lv_iconst (v := nI (3)) hx hb dX2_clear_38 (by decide) ?_
  refine xi_mul hx hb dX2_clear_39 ?_
  refine lv_iload_n hx hb dX2_clear_40 rfl (lv_at hl 0 rfl) ?_
  refine xi_add hx hb dX2_clear_41 ?_
  refine lv_iload_n hx hb dX2_clear_42 rfl (lv_at hl 1 rfl) ?_
  refine lv_iload_n hx hb dX2_clear_43 rfl (lv_at hl 0 rfl) ?_
  refine xi_icmp_ne (tgt := 51) hx hb (by decide) (by decide) dX2_clear_44 (by decide) (fun _ => ?_) (fun c0 => absurd c0 (by decide))
  refine lv_lconst (v := lZ (0)) hx hb dX2_clear_51 (by decide) ?_
  refine xw_last hx hb hK hP hD hS (by decide) 1 fg17_1 rfl (by omega) (by decide) dX2_clear_52 (fun g20 H locs eg20 hP hS => ?_)
  have fg20_0 : g20 (4) = .inr (2, [.ref (ad (5)), .ref (ad (6)), .ref (ad (7)), .int (nI (0))]) := (congrFun eg20 (4)).trans ((va_up_ne _ _ (by decide)).trans fg17_0)
  have fg20_1 : g20 (5) = .inl (cW, 3, .inr (.inr (.inr (.inr (va_up (va_up (f5) (0) none) (1) none))))) := (congrFun eg20 (5)).trans ((va_up_ne _ _ (by decide)).trans fg17_2)
  have fg20_2 : g20 (7) = .inl (cJ, 3, .inr (.inl (vp_updL (vp_updL (f7) (0) (lZ (0))) (1) (lZ (0))))) := (congrFun eg20 (7)).trans ((va_up_ne _ _ (by decide)).trans fg17_w)
  have fg20_w : g20 (6) = .inl (cJ, 9, .inr (.inl (vp_updL (vp_updL (vp_updL (vp_updL (f6) (0) (lZ (1))) (1) (lZ (0))) (2) (lZ (0))) (3) (lZ (0))))) := (congrFun eg20 (6)).trans (va_up_self _ _ _)
  have hfrg20 : ∀ j : Nat, j ≠ 4 → j ≠ 5 → j ≠ 6 → j ≠ 7 → g20 j = g j := fun j h0 h1 h2 h3 => (congrFun eg20 j).trans ((va_up_ne _ _ h2).trans (hfrg17 j h0 h1 h2 h3))
  refine lv_iinc (v := nI (1)) (lv' := [(2, .int (nI (1))), (1, .int (nI (1))), (0, .ref (ad (4)))]) hx hb dX2_clear_53 hl (k := 0) rfl (nI_add (0) 1) (by decide) rfl (fun ls hl => ?_)
  refine lv_goto (tgt := 28) hx hb dX2_clear_56 (by decide) ?_
  refine lv_iload_n hx hb dX2_clear_28 rfl (lv_at hl 0 rfl) ?_
  refine lv_iconst (v := nI (3)) hx hb dX2_clear_29 (by decide) ?_
  refine xi_icmp_ge (tgt := 59) hx hb (by decide) (by decide) dX2_clear_30 (by decide) (fun c0 => absurd c0 (by decide)) (fun _ => ?_)
  refine lv_aload_n hx hb dX2_clear_33 rfl (lv_at hl 2 rfl) ?_
  refine xw_get hx hb hts hin2 hown hK hP (by decide) fg20_0 rfl 1 (by decide) hf17 rfl rfl dX2_clear_34 ?_
  refine lv_iload_n hx hb dX2_clear_37 rfl (lv_at hl 1 rfl) ?_
  refine lv_iconst (v := nI (3)) hx hb dX2_clear_38 (by decide) ?_
  refine xi_mul hx hb dX2_clear_39 ?_
  refine lv_iload_n hx hb dX2_clear_40 rfl (lv_at hl 0 rfl) ?_
  refine xi_add hx hb dX2_clear_41 ?_
  refine lv_iload_n hx hb dX2_clear_42 rfl (lv_at hl 1 rfl) ?_
  refine lv_iload_n hx hb dX2_clear_43 rfl (lv_at hl 0 rfl) ?_
  refine xi_icmp_ne (tgt := 51) hx hb (by decide) (by decide) dX2_clear_44 (by decide) (fun c0 => absurd c0 (by decide)) (fun _ => ?_)
  refine lv_lconst (v := lZ (1)) hx hb dX2_clear_47 (by decide) ?_
  refine lv_goto (tgt := 52) hx hb dX2_clear_48 (by decide) ?_
  refine xw_last hx hb hK hP hD hS (by decide) 1 fg20_w rfl (by omega) (by decide) dX2_clear_52 (fun g23 H locs eg23 hP hS => ?_)
  have fg23_0 : g23 (4) = .inr (2, [.ref (ad (5)), .ref (ad (6)), .ref (ad (7)), .int (nI (0))]) := (congrFun eg23 (4)).trans ((va_up_ne _ _ (by decide)).trans fg20_0)
  have fg23_1 : g23 (5) = .inl (cW, 3, .inr (.inr (.inr (.inr (va_up (va_up (f5) (0) none) (1) none))))) := (congrFun eg23 (5)).trans ((va_up_ne _ _ (by decide)).trans fg20_1)
  have fg23_2 : g23 (7) = .inl (cJ, 3, .inr (.inl (vp_updL (vp_updL (f7) (0) (lZ (0))) (1) (lZ (0))))) := (congrFun eg23 (7)).trans ((va_up_ne _ _ (by decide)).trans fg20_2)
  have fg23_w : g23 (6) = .inl (cJ, 9, .inr (.inl (vp_updL (vp_updL (vp_updL (vp_updL (vp_updL (f6) (0) (lZ (1))) (1) (lZ (0))) (2) (lZ (0))) (3) (lZ (0))) (4) (lZ (1))))) := (congrFun eg23 (6)).trans (va_up_self _ _ _)
  have hfrg23 : ∀ j : Nat, j ≠ 4 → j ≠ 5 → j ≠ 6 → j ≠ 7 → g23 j = g j := fun j h0 h1 h2 h3 => (congrFun eg23 j).trans ((va_up_ne _ _ h2).trans (hfrg20 j h0 h1 h2 h3))
  refine lv_iinc (v := nI (2)) (lv' := [(2, .int (nI (2))), (1, .int (nI (1))), (0, .ref (ad (4)))]) hx hb dX2_clear_53 hl (k := 0) rfl (nI_add (1) 1) (by decide) rfl (fun ls hl => ?_)
  refine lv_goto (tgt := 28) hx hb dX2_clear_56 (by decide) ?_
  refine lv_iload_n hx hb dX2_clear_28 rfl (lv_at hl 0 rfl) ?_
  refine lv_iconst (v := nI (3)) hx hb dX2_clear_29 (by decide) ?_
  refine xi_icmp_ge (tgt := 59) hx hb (by decide) (by decide) dX2_clear_30 (by decide) (fun c0 => absurd c0 (by decide)) (fun _ => ?_)
  refine lv_aload_n hx hb dX2_clear_33 rfl (lv_at hl 2 rfl) ?_
  refine xw_get hx hb hts hin2 hown hK hP (by decide) fg23_0 rfl 1 (by decide) hf17 rfl rfl dX2_clear_34 ?_
  refine lv_iload_n hx hb dX2_clear_37 rfl (lv_at hl 1 rfl) ?_
  refine lv_iconst (v := nI (3)) hx hb dX2_clear_38 (by decide) ?_
  refine xi_mul hx hb dX2_clear_39 ?_
  refine lv_iload_n hx hb dX2_clear_40 rfl (lv_at hl 0 rfl) ?_
  refine xi_add hx hb dX2_clear_41 ?_
  refine lv_iload_n hx hb dX2_clear_42 rfl (lv_at hl 1 rfl) ?_
  refine lv_iload_n hx hb dX2_clear_43 rfl (lv_at hl 0 rfl) ?_
  refine xi_icmp_ne (tgt := 51) hx hb (by decide) (by decide) dX2_clear_44 (by decide) (fun _ => ?_) (fun c0 => absurd c0 (by decide))
  refine lv_lconst (v := lZ (0)) hx hb dX2_clear_51 (by decide) ?_
  refine xw_last hx hb hK hP hD hS (by decide) 1 fg23_w rfl (by omega) (by decide) dX2_clear_52 (fun g26 H locs eg26 hP hS => ?_)
  have fg26_0 : g26 (4) = .inr (2, [.ref (ad (5)), .ref (ad (6)), .ref (ad (7)), .int (nI (0))]) := (congrFun eg26 (4)).trans ((va_up_ne _ _ (by decide)).trans fg23_0)
  have fg26_1 : g26 (5) = .inl (cW, 3, .inr (.inr (.inr (.inr (va_up (va_up (f5) (0) none) (1) none))))) := (congrFun eg26 (5)).trans ((va_up_ne _ _ (by decide)).trans fg23_1)
  have fg26_2 : g26 (7) = .inl (cJ, 3, .inr (.inl (vp_updL (vp_updL (f7) (0) (lZ (0))) (1) (lZ (0))))) := (congrFun eg26 (7)).trans ((va_up_ne _ _ (by decide)).trans fg23_2)
  have fg26_w : g26 (6) = .inl (cJ, 9, .inr (.inl (vp_updL (vp_updL (vp_updL (vp_updL (vp_updL (vp_updL (f6) (0) (lZ (1))) (1) (lZ (0))) (2) (lZ (0))) (3) (lZ (0))) (4) (lZ (1))) (5) (lZ (0))))) := (congrFun eg26 (6)).trans (va_up_self _ _ _)
  have hfrg26 : ∀ j : Nat, j ≠ 4 → j ≠ 5 → j ≠ 6 → j ≠ 7 → g26 j = g j := fun j h0 h1 h2 h3 => (congrFun eg26 j).trans ((va_up_ne _ _ h2).trans (hfrg23 j h0 h1 h2 h3))
  refine lv_iinc (v := nI (3)) (lv' := [(2, .int (nI (3))), (1, .int (nI (1))), (0, .ref (ad (4)))]) hx hb dX2_clear_53 hl (k := 0) rfl (nI_add (2) 1) (by decide) rfl (fun ls hl => ?_)
  refine lv_goto (tgt := 28) hx hb dX2_clear_56 (by decide) ?_
  refine lv_iload_n hx hb dX2_clear_28 rfl (lv_at hl 0 rfl) ?_
  refine lv_iconst (v := nI (3)) hx hb dX2_clear_29 (by decide) ?_
  refine xi_icmp_ge (tgt := 59) hx hb (by decide) (by decide) dX2_clear_30 (by decide) (fun _ => ?_) (fun c0 => absurd c0 (by decide))
  refine lv_iinc (v := nI (2)) (lv' := [(1, .int (nI (2))), (2, .int (nI (3))), (0, .ref (ad (4)))]) hx hb dX2_clear_59 hl (k := 1) rfl (nI_add (1) 1) (by decide) rfl (fun ls hl => ?_)
  refine lv_goto (tgt := 7) hx hb dX2_clear_62 (by decide) ?_
  refine lv_iload_n hx hb dX2_clear_7 rfl (lv_at hl 0 rfl) ?_
  refine lv_iconst (v := nI (3)) hx hb dX2_clear_8 (by decide) ?_
  refine xi_icmp_ge (tgt := 65) hx hb (by decide) (by decide) dX2_clear_9 (by decide) (fun c0 => absurd c0 (by decide)) (fun _ => ?_)
  refine lv_aload_n hx hb dX2_clear_12 rfl (lv_at hl 2 rfl) ?_
  refine xw_get hx hb hts hin2 hown hK hP (by decide) fg26_0 rfl 0 (by decide) hf11 rfl rfl dX2_clear_13 ?_
  refine lv_iload_n hx hb dX2_clear_16 rfl (lv_at hl 0 rfl) ?_
  refine lv_null hx hb dX2_clear_17 ?_
  refine xw_aastN hx hb hK hP hD hS (by decide) 3 fg26_1 rfl (by omega) (by decide) dX2_clear_18 (fun g29 H locs eg29 hP hS => ?_)
  have fg29_0 : g29 (4) = .inr (2, [.ref (ad (5)), .ref (ad (6)), .ref (ad (7)), .int (nI (0))]) := (congrFun eg29 (4)).trans ((va_up_ne _ _ (by decide)).trans fg26_0)
  have fg29_1 : g29 (7) = .inl (cJ, 3, .inr (.inl (vp_updL (vp_updL (f7) (0) (lZ (0))) (1) (lZ (0))))) := (congrFun eg29 (7)).trans ((va_up_ne _ _ (by decide)).trans fg26_2)
  have fg29_2 : g29 (6) = .inl (cJ, 9, .inr (.inl (vp_updL (vp_updL (vp_updL (vp_updL (vp_updL (vp_updL (f6) (0) (lZ (1))) (1) (lZ (0))) (2) (lZ (0))) (3) (lZ (0))) (4) (lZ (1))) (5) (lZ (0))))) := (congrFun eg29 (6)).trans ((va_up_ne _ _ (by decide)).trans fg26_w)
  have fg29_w : g29 (5) = .inl (cW, 3, .inr (.inr (.inr (.inr (va_up (va_up (va_up (f5) (0) none) (1) none) (2) none))))) := (congrFun eg29 (5)).trans (va_up_self _ _ _)
  have hfrg29 : ∀ j : Nat, j ≠ 4 → j ≠ 5 → j ≠ 6 → j ≠ 7 → g29 j = g j := fun j h0 h1 h2 h3 => (congrFun eg29 j).trans ((va_up_ne _ _ h1).trans (hfrg26 j h0 h1 h2 h3))
  refine lv_aload_n hx hb dX2_clear_19 rfl (lv_at hl 2 rfl) ?_
  refine xw_get hx hb hts hin2 hown hK hP (by decide) fg29_0 rfl 2 (by decide) hf21 rfl rfl dX2_clear_20 ?_
  refine lv_iload_n hx hb dX2_clear_23 rfl (lv_at hl 0 rfl) ?_
  refine lv_lconst (v := lZ (0)) hx hb dX2_clear_24 (by decide) ?_
  refine xw_last hx hb hK hP hD hS (by decide) 1 fg29_1 rfl (by omega) (by decide) dX2_clear_25 (fun g30 H locs eg30 hP hS => ?_)
  have fg30_0 : g30 (4) = .inr (2, [.ref (ad (5)), .ref (ad (6)), .ref (ad (7)), .int (nI (0))]) := (congrFun eg30 (4)).trans ((va_up_ne _ _ (by decide)).trans fg29_0)
  have fg30_1 : g30 (6) = .inl (cJ, 9, .inr (.inl (vp_updL (vp_updL (vp_updL (vp_updL (vp_updL (vp_updL (f6) (0) (lZ (1))) (1) (lZ (0))) (2) (lZ (0))) (3) (lZ (0))) (4) (lZ (1))) (5) (lZ (0))))) := (congrFun eg30 (6)).trans ((va_up_ne _ _ (by decide)).trans fg29_2)
  have fg30_2 : g30 (5) = .inl (cW, 3, .inr (.inr (.inr (.inr (va_up (va_up (va_up (f5) (0) none) (1) none) (2) none))))) := (congrFun eg30 (5)).trans ((va_up_ne _ _ (by decide)).trans fg29_w)
  have fg30_w : g30 (7) = .inl (cJ, 3, .inr (.inl (vp_updL (vp_updL (vp_updL (f7) (0) (lZ (0))) (1) (lZ (0))) (2) (lZ (0))))) := (congrFun eg30 (7)).trans (va_up_self _ _ _)
  have hfrg30 : ∀ j : Nat, j ≠ 4 → j ≠ 5 → j ≠ 6 → j ≠ 7 → g30 j = g j := fun j h0 h1 h2 h3 => (congrFun eg30 j).trans ((va_up_ne _ _ h3).trans (hfrg29 j h0 h1 h2 h3))
  refine lv_iconst (v := nI (0)) hx hb dX2_clear_26 (by decide) ?_
  refine lv_istore_n (lv' := [(2, .int (nI (0))), (1, .int (nI (2))), (0, .ref (ad (4)))]) hx hb dX2_clear_27 rfl hl (by decide) rfl (fun ls hl => ?_)
  refine lv_iload_n hx hb dX2_clear_28 rfl (lv_at hl 0 rfl) ?_
  refine lv_iconst (v := nI (3)) hx hb dX2_clear_29 (by decide) ?_
  refine xi_icmp_ge (tgt := 59) hx hb (by decide) (by decide) dX2_clear_30 (by decide) (fun c0 => absurd c0 (by decide)) (fun _ => ?_)
  refine lv_aload_n hx hb dX2_clear_33 rfl (lv_at hl 2 rfl) ?_
  refine xw_get hx hb hts hin2 hown hK hP (by decide) fg30_0 rfl 1 (by decide) hf17 rfl rfl dX2_clear_34 ?_
  refine lv_iload_n hx hb dX2_clear_37 rfl (lv_at hl 1 rfl) ?_
  refine lv_iconst (v := nI (3)) hx hb dX2_clear_38 (by decide) ?_
  refine xi_mul hx hb dX2_clear_39 ?_
  refine lv_iload_n hx hb dX2_clear_40 rfl (lv_at hl 0 rfl) ?_
  refine xi_add hx hb dX2_clear_41 ?_
  refine lv_iload_n hx hb dX2_clear_42 rfl (lv_at hl 1 rfl) ?_
  refine lv_iload_n hx hb dX2_clear_43 rfl (lv_at hl 0 rfl) ?_
  refine xi_icmp_ne (tgt := 51) hx hb (by decide) (by decide) dX2_clear_44 (by decide) (fun _ => ?_) (fun c0 => absurd c0 (by decide))
  refine lv_lconst (v := lZ (0)) hx hb dX2_clear_51 (by decide) ?_
  refine xw_last hx hb hK hP hD hS (by decide) 1 fg30_1 rfl (by omega) (by decide) dX2_clear_52 (fun g33 H locs eg33 hP hS => ?_)
  have fg33_0 : g33 (4) = .inr (2, [.ref (ad (5)), .ref (ad (6)), .ref (ad (7)), .int (nI (0))]) := (congrFun eg33 (4)).trans ((va_up_ne _ _ (by decide)).trans fg30_0)
  have fg33_1 : g33 (5) = .inl (cW, 3, .inr (.inr (.inr (.inr (va_up (va_up (va_up (f5) (0) none) (1) none) (2) none))))) := (congrFun eg33 (5)).trans ((va_up_ne _ _ (by decide)).trans fg30_2)
  have fg33_2 : g33 (7) = .inl (cJ, 3, .inr (.inl (vp_updL (vp_updL (vp_updL (f7) (0) (lZ (0))) (1) (lZ (0))) (2) (lZ (0))))) := (congrFun eg33 (7)).trans ((va_up_ne _ _ (by decide)).trans fg30_w)
  have fg33_w : g33 (6) = .inl (cJ, 9, .inr (.inl (vp_updL (vp_updL (vp_updL (vp_updL (vp_updL (vp_updL (vp_updL (f6) (0) (lZ (1))) (1) (lZ (0))) (2) (lZ (0))) (3) (lZ (0))) (4) (lZ (1))) (5) (lZ (0))) (6) (lZ (0))))) := (congrFun eg33 (6)).trans (va_up_self _ _ _)
  have hfrg33 : ∀ j : Nat, j ≠ 4 → j ≠ 5 → j ≠ 6 → j ≠ 7 → g33 j = g j := fun j h0 h1 h2 h3 => (congrFun eg33 j).trans ((va_up_ne _ _ h2).trans (hfrg30 j h0 h1 h2 h3))
  refine lv_iinc (v := nI (1)) (lv' := [(2, .int (nI (1))), (1, .int (nI (2))), (0, .ref (ad (4)))]) hx hb dX2_clear_53 hl (k := 0) rfl (nI_add (0) 1) (by decide) rfl (fun ls hl => ?_)
  refine lv_goto (tgt := 28) hx hb dX2_clear_56 (by decide) ?_
  refine lv_iload_n hx hb dX2_clear_28 rfl (lv_at hl 0 rfl) ?_
  refine lv_iconst (v := nI (3)) hx hb dX2_clear_29 (by decide) ?_
  refine xi_icmp_ge (tgt := 59) hx hb (by decide) (by decide) dX2_clear_30 (by decide) (fun c0 => absurd c0 (by decide)) (fun _ => ?_)
  refine lv_aload_n hx hb dX2_clear_33 rfl (lv_at hl 2 rfl) ?_
  refine xw_get hx hb hts hin2 hown hK hP (by decide) fg33_0 rfl 1 (by decide) hf17 rfl rfl dX2_clear_34 ?_
  refine lv_iload_n hx hb dX2_clear_37 rfl (lv_at hl 1 rfl) ?_
  refine lv_iconst (v := nI (3)) hx hb dX2_clear_38 (by decide) ?_
  refine xi_mul hx hb dX2_clear_39 ?_
  refine lv_iload_n hx hb dX2_clear_40 rfl (lv_at hl 0 rfl) ?_
  refine xi_add hx hb dX2_clear_41 ?_
  refine lv_iload_n hx hb dX2_clear_42 rfl (lv_at hl 1 rfl) ?_
  refine lv_iload_n hx hb dX2_clear_43 rfl (lv_at hl 0 rfl) ?_
  refine xi_icmp_ne (tgt := 51) hx hb (by decide) (by decide) dX2_clear_44 (by decide) (fun _ => ?_) (fun c0 => absurd c0 (by decide))
  refine lv_lconst (v := lZ (0)) hx hb dX2_clear_51 (by decide) ?_
  refine xw_last hx hb hK hP hD hS (by decide) 1 fg33_w rfl (by omega) (by decide) dX2_clear_52 (fun g36 H locs eg36 hP hS => ?_)
  have fg36_0 : g36 (4) = .inr (2, [.ref (ad (5)), .ref (ad (6)), .ref (ad (7)), .int (nI (0))]) := (congrFun eg36 (4)).trans ((va_up_ne _ _ (by decide)).trans fg33_0)
  have fg36_1 : g36 (5) = .inl (cW, 3, .inr (.inr (.inr (.inr (va_up (va_up (va_up (f5) (0) none) (1) none) (2) none))))) := (congrFun eg36 (5)).trans ((va_up_ne _ _ (by decide)).trans fg33_1)
  have fg36_2 : g36 (7) = .inl (cJ, 3, .inr (.inl (vp_updL (vp_updL (vp_updL (f7) (0) (lZ (0))) (1) (lZ (0))) (2) (lZ (0))))) := (congrFun eg36 (7)).trans ((va_up_ne _ _ (by decide)).trans fg33_2)
  have fg36_w : g36 (6) = .inl (cJ, 9, .inr (.inl (vp_updL (vp_updL (vp_updL (vp_updL (vp_updL (vp_updL (vp_updL (vp_updL (f6) (0) (lZ (1))) (1) (lZ (0))) (2) (lZ (0))) (3) (lZ (0))) (4) (lZ (1))) (5) (lZ (0))) (6) (lZ (0))) (7) (lZ (0))))) := (congrFun eg36 (6)).trans (va_up_self _ _ _)
  have hfrg36 : ∀ j : Nat, j ≠ 4 → j ≠ 5 → j ≠ 6 → j ≠ 7 → g36 j = g j := fun j h0 h1 h2 h3 => (congrFun eg36 j).trans ((va_up_ne _ _ h2).trans (hfrg33 j h0 h1 h2 h3))
  refine lv_iinc (v := nI (2)) (lv' := [(2, .int (nI (2))), (1, .int (nI (2))), (0, .ref (ad (4)))]) hx hb dX2_clear_53 hl (k := 0) rfl (nI_add (1) 1) (by decide) rfl (fun ls hl => ?_)
  refine lv_goto (tgt := 28) hx hb dX2_clear_56 (by decide) ?_
  refine lv_iload_n hx hb dX2_clear_28 rfl (lv_at hl 0 rfl) ?_
  refine lv_iconst (v := nI (3)) hx hb dX2_clear_29 (by decide) ?_
  refine xi_icmp_ge (tgt := 59) hx hb (by decide) (by decide) dX2_clear_30 (by decide) (fun c0 => absurd c0 (by decide)) (fun _ => ?_)
  refine lv_aload_n hx hb dX2_clear_33 rfl (lv_at hl 2 rfl) ?_
  refine xw_get hx hb hts hin2 hown hK hP (by decide) fg36_0 rfl 1 (by decide) hf17 rfl rfl dX2_clear_34 ?_
  refine lv_iload_n hx hb dX2_clear_37 rfl (lv_at hl 1 rfl) ?_
  refine lv_iconst (v := nI (3)) hx hb dX2_clear_38 (by decide) ?_
  refine xi_mul hx hb dX2_clear_39 ?_
  refine lv_iload_n hx hb dX2_clear_40 rfl (lv_at hl 0 rfl) ?_
  refine xi_add hx hb dX2_clear_41 ?_
  refine lv_iload_n hx hb dX2_clear_42 rfl (lv_at hl 1 rfl) ?_
  refine lv_iload_n hx hb dX2_clear_43 rfl (lv_at hl 0 rfl) ?_
  refine xi_icmp_ne (tgt := 51) hx hb (by decide) (by decide) dX2_clear_44 (by decide) (fun c0 => absurd c0 (by decide)) (fun _ => ?_)
  refine lv_lconst (v := lZ (1)) hx hb dX2_clear_47 (by decide) ?_
  refine lv_goto (tgt := 52) hx hb dX2_clear_48 (by decide) ?_
  refine xw_last hx hb hK hP hD hS (by decide) 1 fg36_w rfl (by omega) (by decide) dX2_clear_52 (fun g39 H locs eg39 hP hS => ?_)
  have fg39_0 : g39 (4) = .inr (2, [.ref (ad (5)), .ref (ad (6)), .ref (ad (7)), .int (nI (0))]) := (congrFun eg39 (4)).trans ((va_up_ne _ _ (by decide)).trans fg36_0)
  have fg39_1 : g39 (5) = .inl (cW, 3, .inr (.inr (.inr (.inr (va_up (va_up (va_up (f5) (0) none) (1) none) (2) none))))) := (congrFun eg39 (5)).trans ((va_up_ne _ _ (by decide)).trans fg36_1)
  have fg39_2 : g39 (7) = .inl (cJ, 3, .inr (.inl (vp_updL (vp_updL (vp_updL (f7) (0) (lZ (0))) (1) (lZ (0))) (2) (lZ (0))))) := (congrFun eg39 (7)).trans ((va_up_ne _ _ (by decide)).trans fg36_2)
  have fg39_w : g39 (6) = .inl (cJ, 9, .inr (.inl (vp_updL (vp_updL (vp_updL (vp_updL (vp_updL (vp_updL (vp_updL (vp_updL (vp_updL (f6) (0) (lZ (1))) (1) (lZ (0))) (2) (lZ (0))) (3) (lZ (0))) (4) (lZ (1))) (5) (lZ (0))) (6) (lZ (0))) (7) (lZ (0))) (8) (lZ (1))))) := (congrFun eg39 (6)).trans (va_up_self _ _ _)
  have hfrg39 : ∀ j : Nat, j ≠ 4 → j ≠ 5 → j ≠ 6 → j ≠ 7 → g39 j = g j := fun j h0 h1 h2 h3 => (congrFun eg39 j).trans ((va_up_ne _ _ h2).trans (hfrg36 j h0 h1 h2 h3))
  refine lv_iinc (v := nI (3)) (lv' := [(2, .int (nI (3))), (1, .int (nI (2))), (0, .ref (ad (4)))]) hx hb dX2_clear_53 hl (k := 0) rfl (nI_add (2) 1) (by decide) rfl (fun ls hl => ?_)
  refine lv_goto (tgt := 28) hx hb dX2_clear_56 (by decide) ?_
  refine lv_iload_n hx hb dX2_clear_28 rfl (lv_at hl 0 rfl) ?_
  refine lv_iconst (v := nI (3)) hx hb dX2_clear_29 (by decide) ?_
  refine xi_icmp_ge (tgt := 59) hx hb (by decide) (by decide) dX2_clear_30 (by decide) (fun _ => ?_) (fun c0 => absurd c0 (by decide))
  refine lv_iinc (v := nI (3)) (lv' := [(1, .int (nI (3))), (2, .int (nI (3))), (0, .ref (ad (4)))]) hx hb dX2_clear_59 hl (k := 1) rfl (nI_add (2) 1) (by decide) rfl (fun ls hl => ?_)
  refine lv_goto (tgt := 7) hx hb dX2_clear_62 (by decide) ?_
  refine lv_iload_n hx hb dX2_clear_7 rfl (lv_at hl 0 rfl) ?_
  refine lv_iconst (v := nI (3)) hx hb dX2_clear_8 (by decide) ?_
  refine xi_icmp_ge (tgt := 65) hx hb (by decide) (by decide) dX2_clear_9 (by decide) (fun _ => ?_) (fun c0 => absurd c0 (by decide))
  exact W.vret hx hb hr (fun tZ ht hW => ⟨⟨g39, rfl, ⟨_, _, _, (fun i hi => by rcases (show i = 0 ∨ i = 1 ∨ i = 2 by omega) with rfl | rfl | rfl <;> rfl), (fun i hi => by rcases (show i = 0 ∨ i = 1 ∨ i = 2 ∨ i = 3 ∨ i = 4 ∨ i = 5 ∨ i = 6 ∨ i = 7 ∨ i = 8 by omega) with rfl | rfl | rfl | rfl | rfl | rfl | rfl | rfl | rfl <;> rfl), (fun i hi => by rcases (show i = 0 ∨ i = 1 ∨ i = 2 by omega) with rfl | rfl | rfl <;> rfl), fg39_0, fg39_1, fg39_w, fg39_2, hfrg39⟩, by rw [ht]; exact hP, va_K.moved hW.alike hK, va_Nw.warmM hW hN⟩, hS.F ht⟩) hS.2.2 dX2_clear_65

set_option maxHeartbeats 4000000 in
set_option maxRecDepth 100000 in
/-- Race.enter, 0 runners -/
theorem mX2_enter0 (l : Launch) {D : va_G} {cI cJ cZ cW : ClassId} {ad : Nat → Nat} {A : Nat → Prop} (hD : ∀ g, va_D A (xw 81 ad g)) {g : Nat → va_E} {q : Nat} {f5 : Nat → Option Nat} {f6 f7 : Nat → Int64} {b1 n1 : Nat} {u1 : Nat → Nat} {co1 : Int32} {ow1 : Int64} {fl1 : Nat → Int32} {fh1 : Nat → Int32} {ft1 : Nat → Int32} {fs1 : Nat → Int64} {sf1 : Nat → Nat}  (fo4 : g (4) = .inr (2, [.ref (ad (5)), .ref (ad (6)), .ref (ad (7)), .int (nI (0))])) (fa5 : g (5) = .inl (cW, 3, .inr (.inr (.inr (.inr (f5)))))) (fa6 : g (6) = .inl (cJ, 9, .inr (.inl (f6)))) (fa7 : g (7) = .inl (cJ, 3, .inr (.inl (f7)))) (fo1 : g (b1) = .inr (4, [.ref (ad (b1 + 1)), .ref (ad (b1 + 2)), .ref (ad (b1 + 3)), .ref (ad (b1 + 4)), .int (nI (n1)), .int (co1), .long (ow1)])) (fal1 : g (b1 + 1) = .inl (cI, 5, .inl (fl1))) (fah1 : g (b1 + 2) = .inl (cI, 6, .inl (fh1))) (fat1 : g (b1 + 3) = .inl (cI, 6, .inl (ft1))) (fas1 : g (b1 + 4) = .inl (cJ, 6, .inr (.inl (fs1)))) (hq4 : q ≤ 4) (hb1 : b1 + 4 < 81) (hn1 : n1 ≤ 5) (hu1 : ∀ j, j < n1 → u1 j < q) (hfl1 : ∀ j, j < n1 → fl1 j = nI (u1 j)) (hfh1 : ∀ k, k ≤ n1 → fh1 k = nI (px q u1 k)) (hft1 : ∀ k, k ≤ n1 → ft1 k = nI (px q (fun j => u1 (n1 - k + j)) k)) (hfs1 : ∀ k, k ≤ n1 → fs1 k = lZ (sf1 k : Int)) (hb171 : 17 ≤ b1) : Met l yX2_enter wsX2_enter ({ frames := 2, cells := 0, slots := 0, locals := 47 }) (va_Pc [.ref (ad (4)), .ref (ad (b1))] (xB D (xT cI cJ cZ cW) ad g)) (va_Qi (fun r g2 => (r = nI 1 ∧ ¬ (False) ∧ g2 4 = .inr (2, [.ref (ad (5)), .ref (ad (6)), .ref (ad (7)), .int (nI (1))]) ∧ g2 5 = .inl (cW, 3, .inr (.inr (.inr (.inr (va_up (f5) (0) (some (ad (b1)))))))) ∧ g2 6 = .inl (cJ, 9, .inr (.inl (vp_updL (vp_updL (f6) (0) (lZ ((lapS sf1 u1 n1 u1 n1 5 : Int)))) (0) (lZ ((lapS sf1 u1 n1 u1 n1 5 : Int)))))) ∧ g2 7 = .inl (cJ, 3, .inr (.inl (vp_updL (f7) (0) (lZ ((sf1 0 : Int)))))) ∧ ∀ j : Nat, j ≠ 4 → j ≠ 5 → j ≠ 6 → j ≠ 7 → g2 j = g j) ∨ (r = nI 0 ∧ (False) ∧ g2 = g)) (xB D (xT cI cJ cZ cW) ad) A) 0 0 A := by
  refine Met.ofW (cc := cX2_enter) (maxL := 5) (ret := (some .boolean)) (by decide) rfl ?_
  intro p e s m args below meth c s₁ B hml hv
  obtain ⟨rfl, hP, hK, hN⟩ := hv
  have hx := B.exec
  have hb := B.bytes
  have hr := B.returns
  have hts := atoms_spec (ws := wsX2_enter) B.pre
  have hown : s.vm.findClass RX2 = some m.cls := findClass_of_methodNamed B.named
  have hlocks := B.notSynchronized
  have hS : va_S A s.heap s.heap [] := va_S.rf
  have hin2 : ∀ w ∈ wsX20, w ∈ wsX2_enter := by decide +kernel
  have hf11 := hts (.fieldLink RX2 11 "LettersByLot$Race" "runners" "[LLettersByLot$Word;") (by decide +kernel)
  have hf17 := hts (.fieldLink RX2 17 "LettersByLot$Race" "leads" "[J") (by decide +kernel)
  have hf21 := hts (.fieldLink RX2 21 "LettersByLot$Race" "asked" "[J") (by decide +kernel)
  have hf27 := hts (.fieldLink RX2 27 "LettersByLot$Race" "size" "I") (by decide +kernel)
  have hl := lv_entry ([.ref (ad (4)), .ref (ad (b1))]) (n := 5) (Nat.le_of_ble_eq_true rfl)
  rw [lg_entry_eq]
  generalize (lg_sl ([.ref (ad (4)), .ref (ad (b1))]) ++ List.replicate (5 - (lg_sl ([.ref (ad (4)), .ref (ad (b1))])).length) Slot.unset).toArray = ls at hl ⊢
  have hl : lv_has ls 5 [(0, .ref (ad (4))), (1, .ref (ad (b1)))] := hl
  refine lv_aload_n hx hb dX2_enter_0 rfl (lv_at hl 0 rfl) ?_
  refine xw_get hx hb hts hin2 hown hK hP (by decide) fo4 rfl 3 (by decide) hf27 rfl rfl dX2_enter_1 ?_
  refine lv_iconst (v := nI (3)) hx hb dX2_enter_4 (by decide) ?_
  refine xi_icmp_lt (tgt := 10) hx hb (by decide) (by decide) dX2_enter_5 (by decide) (fun _ => ?_) (fun c0 => absurd c0 (by decide))
  refine lv_iconst (v := nI (0)) hx hb dX2_enter_10 (by decide) ?_
  refine lv_istore_n (lv' := [(2, .int (nI (0))), (0, .ref (ad (4))), (1, .ref (ad (b1)))]) hx hb dX2_enter_11 rfl hl (by decide) rfl (fun ls hl => ?_)
  refine lv_iload_n hx hb dX2_enter_12 rfl (lv_at hl 0 rfl) ?_
  refine lv_aload_n hx hb dX2_enter_13 rfl (lv_at hl 1 rfl) ?_
  refine xw_get hx hb hts hin2 hown hK hP (by decide) fo4 rfl 3 (by decide) hf27 rfl rfl dX2_enter_14 ?_
  refine xi_icmp_ge (tgt := 55) hx hb (by decide) (by decide) dX2_enter_17 (by decide) (fun _ => ?_) (fun c0 => absurd c0 (by decide))
  refine lv_aload_n hx hb dX2_enter_55 rfl (lv_at hl 1 rfl) ?_
  refine xw_get hx hb hts hin2 hown hK hP (by decide) fo4 rfl 0 (by decide) hf11 rfl rfl dX2_enter_56 ?_
  refine lv_aload_n hx hb dX2_enter_59 rfl (lv_at hl 1 rfl) ?_
  refine xw_get hx hb hts hin2 hown hK hP (by decide) fo4 rfl 3 (by decide) hf27 rfl rfl dX2_enter_60 ?_
  refine lv_aload_n hx hb dX2_enter_63 rfl (lv_at hl 2 rfl) ?_
  refine xw_aast hx hb hK hP hD hS (by decide) 3 (by omega) 4 fa5 rfl fo1 rfl (by omega) (by decide) dX2_enter_64 (fun g3 H locs eg3 hP hS => ?_)
  have fg3_0 : g3 (4) = .inr (2, [.ref (ad (5)), .ref (ad (6)), .ref (ad (7)), .int (nI (0))]) := (congrFun eg3 (4)).trans ((va_up_ne _ _ (by decide)).trans fo4)
  have fg3_1 : g3 (6) = .inl (cJ, 9, .inr (.inl (f6))) := (congrFun eg3 (6)).trans ((va_up_ne _ _ (by decide)).trans fa6)
  have fg3_2 : g3 (7) = .inl (cJ, 3, .inr (.inl (f7))) := (congrFun eg3 (7)).trans ((va_up_ne _ _ (by decide)).trans fa7)
  have fg3_3 : g3 (b1) = .inr (4, [.ref (ad (b1 + 1)), .ref (ad (b1 + 2)), .ref (ad (b1 + 3)), .ref (ad (b1 + 4)), .int (nI (n1)), .int (co1), .long (ow1)]) := (congrFun eg3 (b1)).trans ((va_up_ne _ _ (by omega)).trans fo1)
  have fg3_4 : g3 (b1 + 1) = .inl (cI, 5, .inl (fl1)) := (congrFun eg3 (b1 + 1)).trans ((va_up_ne _ _ (by omega)).trans fal1)
  have fg3_5 : g3 (b1 + 2) = .inl (cI, 6, .inl (fh1)) := (congrFun eg3 (b1 + 2)).trans ((va_up_ne _ _ (by omega)).trans fah1)
  have fg3_6 : g3 (b1 + 3) = .inl (cI, 6, .inl (ft1)) := (congrFun eg3 (b1 + 3)).trans ((va_up_ne _ _ (by omega)).trans fat1)
  have fg3_7 : g3 (b1 + 4) = .inl (cJ, 6, .inr (.inl (fs1))) := (congrFun eg3 (b1 + 4)).trans ((va_up_ne _ _ (by omega)).trans fas1)
  have fg3_w : g3 (5) = .inl (cW, 3, .inr (.inr (.inr (.inr (va_up (f5) (0) (some (ad (b1)))))))) := (congrFun eg3 (5)).trans (va_up_self _ _ _)
  have hfrg3 : ∀ j : Nat, j ≠ 4 → j ≠ 5 → j ≠ 6 → j ≠ 7 → g3 j = g j := fun j h0 h1 h2 h3 => (congrFun eg3 j).trans ((va_up_ne _ _ h1).trans ((fun _ _ _ _ _ => rfl) j h0 h1 h2 h3))
  refine lv_aload_n hx hb dX2_enter_65 rfl (lv_at hl 1 rfl) ?_
  refine xw_get hx hb hts hin2 hown hK hP (by decide) fg3_0 rfl 2 (by decide) hf21 rfl rfl dX2_enter_66 ?_
  refine lv_aload_n hx hb dX2_enter_69 rfl (lv_at hl 1 rfl) ?_
  refine xw_get hx hb hts hin2 hown hK hP (by decide) fg3_0 rfl 3 (by decide) hf27 rfl rfl dX2_enter_70 ?_
  refine lv_aload_n hx hb dX2_enter_73 rfl (lv_at hl 2 rfl) ?_
  refine vp_callSl (va_Run.run (va_runV (As := []) (rest := [.int (nI (0)), .ref (ad (7))]) ⟨hx, hb, hml, hown, hts⟩ (mX4_leadBottom l (q := q) fg3_3 fg3_7 hb1 hn1 hu1 hfs1) (cwV 0 hts gX2_enter_X4_leadBottom rfl rfl rfl (by decide +kernel) ⟨Nat.le_of_ble_eq_true rfl, Nat.le_of_ble_eq_true rfl⟩) ⟨xB_blind, va_recv hK hP (ci := 4) rfl (xw_is (by omega) fg3_3), fun U hU hW => ⟨rfl, by rw [hU]; exact hP, va_K.moved hW.alike hK, va_Nw.warmM hW hN⟩⟩ rfl rfl hl.1 rfl (lv_room (Nat.le_of_ble_eq_true rfl)) dX2_enter_74 ⟨Nat.le_of_ble_eq_true rfl, Nat.le_of_ble_eq_true rfl⟩)) (fun r4 er4 => ?_)
  subst er4
  refine xw_last hx hb hK hP hD hS (by decide) 1 fg3_2 rfl (by omega) (by decide) dX2_enter_77 (fun g5 H locs eg5 hP hS => ?_)
  have fg5_0 : g5 (4) = .inr (2, [.ref (ad (5)), .ref (ad (6)), .ref (ad (7)), .int (nI (0))]) := (congrFun eg5 (4)).trans ((va_up_ne _ _ (by decide)).trans fg3_0)
  have fg5_1 : g5 (6) = .inl (cJ, 9, .inr (.inl (f6))) := (congrFun eg5 (6)).trans ((va_up_ne _ _ (by decide)).trans fg3_1)
  have fg5_2 : g5 (b1) = .inr (4, [.ref (ad (b1 + 1)), .ref (ad (b1 + 2)), .ref (ad (b1 + 3)), .ref (ad (b1 + 4)), .int (nI (n1)), .int (co1), .long (ow1)]) := (congrFun eg5 (b1)).trans ((va_up_ne _ _ (by omega)).trans fg3_3)
  have fg5_3 : g5 (b1 + 1) = .inl (cI, 5, .inl (fl1)) := (congrFun eg5 (b1 + 1)).trans ((va_up_ne _ _ (by omega)).trans fg3_4)
  have fg5_4 : g5 (b1 + 2) = .inl (cI, 6, .inl (fh1)) := (congrFun eg5 (b1 + 2)).trans ((va_up_ne _ _ (by omega)).trans fg3_5)
  have fg5_5 : g5 (b1 + 3) = .inl (cI, 6, .inl (ft1)) := (congrFun eg5 (b1 + 3)).trans ((va_up_ne _ _ (by omega)).trans fg3_6)
  have fg5_6 : g5 (b1 + 4) = .inl (cJ, 6, .inr (.inl (fs1))) := (congrFun eg5 (b1 + 4)).trans ((va_up_ne _ _ (by omega)).trans fg3_7)
  have fg5_7 : g5 (5) = .inl (cW, 3, .inr (.inr (.inr (.inr (va_up (f5) (0) (some (ad (b1)))))))) := (congrFun eg5 (5)).trans ((va_up_ne _ _ (by decide)).trans fg3_w)
  have fg5_w : g5 (7) = .inl (cJ, 3, .inr (.inl (vp_updL (f7) (0) (lZ ((sf1 0 : Int)))))) := (congrFun eg5 (7)).trans (va_up_self _ _ _)
  have hfrg5 : ∀ j : Nat, j ≠ 4 → j ≠ 5 → j ≠ 6 → j ≠ 7 → g5 j = g j := fun j h0 h1 h2 h3 => (congrFun eg5 j).trans ((va_up_ne _ _ h3).trans (hfrg3 j h0 h1 h2 h3))
  refine lv_aload_n hx hb dX2_enter_78 rfl (lv_at hl 1 rfl) ?_
  refine lv_dup hx hb dX2_enter_79 rfl ?_
  refine xw_get hx hb hts hin2 hown hK hP (by decide) fg5_0 rfl 3 (by decide) hf27 rfl rfl dX2_enter_80 ?_
  refine lv_iconst (v := nI (1)) hx hb dX2_enter_83 (by decide) ?_
  refine xi_add hx hb dX2_enter_84 ?_
  refine xw_put hx hb hts hin2 tyX2 tyX2_ok nmX2 hown hK hP hD hS (by decide) fg5_0 rfl 3 (by decide) hf27 rfl rfl (ty := .int) (by decide +kernel) rfl rfl (Nat.le_of_ble_eq_true rfl) (fs' := [.ref (ad (5)), .ref (ad (6)), .ref (ad (7)), .int (nI (1))]) rfl dX2_enter_85 (fun g6 H locs eg6 hP hS => ?_)
  have fg6_0 : g6 (6) = .inl (cJ, 9, .inr (.inl (f6))) := (congrFun eg6 (6)).trans ((va_up_ne _ _ (by decide)).trans fg5_1)
  have fg6_1 : g6 (b1) = .inr (4, [.ref (ad (b1 + 1)), .ref (ad (b1 + 2)), .ref (ad (b1 + 3)), .ref (ad (b1 + 4)), .int (nI (n1)), .int (co1), .long (ow1)]) := (congrFun eg6 (b1)).trans ((va_up_ne _ _ (by omega)).trans fg5_2)
  have fg6_2 : g6 (b1 + 1) = .inl (cI, 5, .inl (fl1)) := (congrFun eg6 (b1 + 1)).trans ((va_up_ne _ _ (by omega)).trans fg5_3)
  have fg6_3 : g6 (b1 + 2) = .inl (cI, 6, .inl (fh1)) := (congrFun eg6 (b1 + 2)).trans ((va_up_ne _ _ (by omega)).trans fg5_4)
  have fg6_4 : g6 (b1 + 3) = .inl (cI, 6, .inl (ft1)) := (congrFun eg6 (b1 + 3)).trans ((va_up_ne _ _ (by omega)).trans fg5_5)
  have fg6_5 : g6 (b1 + 4) = .inl (cJ, 6, .inr (.inl (fs1))) := (congrFun eg6 (b1 + 4)).trans ((va_up_ne _ _ (by omega)).trans fg5_6)
  have fg6_6 : g6 (5) = .inl (cW, 3, .inr (.inr (.inr (.inr (va_up (f5) (0) (some (ad (b1)))))))) := (congrFun eg6 (5)).trans ((va_up_ne _ _ (by decide)).trans fg5_7)
  have fg6_7 : g6 (7) = .inl (cJ, 3, .inr (.inl (vp_updL (f7) (0) (lZ ((sf1 0 : Int)))))) := (congrFun eg6 (7)).trans ((va_up_ne _ _ (by decide)).trans fg5_w)
  have fg6_w : g6 (4) = .inr (2, [.ref (ad (5)), .ref (ad (6)), .ref (ad (7)), .int (nI (1))]) := (congrFun eg6 (4)).trans (va_up_self _ _ _)
  have hfrg6 : ∀ j : Nat, j ≠ 4 → j ≠ 5 → j ≠ 6 → j ≠ 7 → g6 j = g j := fun j h0 h1 h2 h3 => (congrFun eg6 j).trans ((va_up_ne _ _ h0).trans (hfrg5 j h0 h1 h2 h3))
  refine lv_aload_n hx hb dX2_enter_88 rfl (lv_at hl 1 rfl) ?_
  refine xw_get hx hb hts hin2 hown hK hP (by decide) fg6_w rfl 3 (by decide) hf27 rfl rfl dX2_enter_89 ?_
  refine lv_iconst (v := nI (1)) hx hb dX2_enter_92 (by decide) ?_
  refine xi_sub hx hb (by omega) dX2_enter_93 ?_
  refine lv_istore_n (lv' := [(2, .int (nI (0))), (0, .ref (ad (4))), (1, .ref (ad (b1)))]) hx hb dX2_enter_94 rfl hl (by decide) rfl (fun ls hl => ?_)
  refine lv_iconst (v := nI (0)) hx hb dX2_enter_95 (by decide) ?_
  refine lv_istore_n (lv' := [(3, .int (nI (0))), (2, .int (nI (0))), (0, .ref (ad (4))), (1, .ref (ad (b1)))]) hx hb dX2_enter_96 rfl hl (by decide) rfl (fun ls hl => ?_)
  refine lv_iload_n hx hb dX2_enter_97 rfl (lv_at hl 0 rfl) ?_
  refine lv_aload_n hx hb dX2_enter_98 rfl (lv_at hl 2 rfl) ?_
  refine xw_get hx hb hts hin2 hown hK hP (by decide) fg6_w rfl 3 (by decide) hf27 rfl rfl dX2_enter_99 ?_
  refine xi_icmp_ge (tgt := 156) hx hb (by decide) (by decide) dX2_enter_102 (by decide) (fun c0 => absurd c0 (by decide)) (fun _ => ?_)
  refine lv_aload_n hx hb dX2_enter_105 rfl (lv_at hl 2 rfl) ?_
  refine xw_get hx hb hts hin2 hown hK hP (by decide) fg6_w rfl 0 (by decide) hf11 rfl rfl dX2_enter_106 ?_
  refine lv_iload_n hx hb dX2_enter_109 rfl (lv_at hl 0 rfl) ?_
  refine xw_aald hx hb hK hP (by decide) 3 fg6_6 rfl (by omega) (by decide) (v := .ref (ad (b1))) rfl dX2_enter_110 ?_
  refine lv_astore (lv' := [(4, .ref (ad (b1))), (3, .int (nI (0))), (2, .int (nI (0))), (0, .ref (ad (4))), (1, .ref (ad (b1)))]) hx hb dX2_enter_111 hl (by decide) rfl (fun ls hl => ?_)
  refine lv_aload hx hb dX2_enter_113 (lv_at hl 0 rfl) ?_
  refine lv_ifnull hx hb dX2_enter_115 ?_
  refine lv_aload_n hx hb dX2_enter_118 rfl (lv_at hl 3 rfl) ?_
  refine xw_get hx hb hts hin2 hown hK hP (by decide) fg6_w rfl 1 (by decide) hf17 rfl rfl dX2_enter_119 ?_
  refine lv_iload_n hx hb dX2_enter_122 rfl (lv_at hl 2 rfl) ?_
  refine lv_iconst (v := nI (3)) hx hb dX2_enter_123 (by decide) ?_
  refine xi_mul hx hb dX2_enter_124 ?_
  refine lv_iload_n hx hb dX2_enter_125 rfl (lv_at hl 1 rfl) ?_
  refine xi_add hx hb dX2_enter_126 ?_
  refine lv_aload hx hb dX2_enter_127 (lv_at hl 0 rfl) ?_
  refine lv_aload_n hx hb dX2_enter_129 rfl (lv_at hl 4 rfl) ?_
  refine vp_callSl (va_Run.run (va_runV (As := [.ref (ad (b1))]) (rest := [.int (nI (0)), .ref (ad (6))]) ⟨hx, hb, hml, hown, hts⟩ (mX4_leadOn l (q := q) fg6_1 fg6_4 fg6_1 fg6_3 fg6_5 hq4 hb1 hn1 hu1 hft1 hb1 hn1 hu1 hfh1 hfs1) (cwV 1 hts gX2_enter_X4_leadOn rfl rfl rfl (by decide +kernel) ⟨Nat.le_of_ble_eq_true rfl, Nat.le_of_ble_eq_true rfl⟩) ⟨xB_blind, va_recv hK hP (ci := 4) rfl (xw_is (by omega) fg6_1), fun U hU hW => ⟨rfl, by rw [hU]; exact hP, va_K.moved hW.alike hK, va_Nw.warmM hW hN⟩⟩ rfl rfl hl.1 rfl (lv_room (Nat.le_of_ble_eq_true rfl)) dX2_enter_130 ⟨Nat.le_of_ble_eq_true rfl, Nat.le_of_ble_eq_true rfl⟩)) (fun r8 er8 => ?_)
  subst er8
  refine xw_last hx hb hK hP hD hS (by decide) 1 fg6_0 rfl (by omega) (by decide) dX2_enter_133 (fun g9 H locs eg9 hP hS => ?_)
  have fg9_0 : g9 (b1) = .inr (4, [.ref (ad (b1 + 1)), .ref (ad (b1 + 2)), .ref (ad (b1 + 3)), .ref (ad (b1 + 4)), .int (nI (n1)), .int (co1), .long (ow1)]) := (congrFun eg9 (b1)).trans ((va_up_ne _ _ (by omega)).trans fg6_1)
  have fg9_1 : g9 (b1 + 1) = .inl (cI, 5, .inl (fl1)) := (congrFun eg9 (b1 + 1)).trans ((va_up_ne _ _ (by omega)).trans fg6_2)
  have fg9_2 : g9 (b1 + 2) = .inl (cI, 6, .inl (fh1)) := (congrFun eg9 (b1 + 2)).trans ((va_up_ne _ _ (by omega)).trans fg6_3)
  have fg9_3 : g9 (b1 + 3) = .inl (cI, 6, .inl (ft1)) := (congrFun eg9 (b1 + 3)).trans ((va_up_ne _ _ (by omega)).trans fg6_4)
  have fg9_4 : g9 (b1 + 4) = .inl (cJ, 6, .inr (.inl (fs1))) := (congrFun eg9 (b1 + 4)).trans ((va_up_ne _ _ (by omega)).trans fg6_5)
  have fg9_5 : g9 (5) = .inl (cW, 3, .inr (.inr (.inr (.inr (va_up (f5) (0) (some (ad (b1)))))))) := (congrFun eg9 (5)).trans ((va_up_ne _ _ (by decide)).trans fg6_6)
  have fg9_6 : g9 (7) = .inl (cJ, 3, .inr (.inl (vp_updL (f7) (0) (lZ ((sf1 0 : Int)))))) := (congrFun eg9 (7)).trans ((va_up_ne _ _ (by decide)).trans fg6_7)
  have fg9_7 : g9 (4) = .inr (2, [.ref (ad (5)), .ref (ad (6)), .ref (ad (7)), .int (nI (1))]) := (congrFun eg9 (4)).trans ((va_up_ne _ _ (by decide)).trans fg6_w)
  have fg9_w : g9 (6) = .inl (cJ, 9, .inr (.inl (vp_updL (f6) (0) (lZ ((lapS sf1 u1 n1 u1 n1 5 : Int)))))) := (congrFun eg9 (6)).trans (va_up_self _ _ _)
  have hfrg9 : ∀ j : Nat, j ≠ 4 → j ≠ 5 → j ≠ 6 → j ≠ 7 → g9 j = g j := fun j h0 h1 h2 h3 => (congrFun eg9 j).trans ((va_up_ne _ _ h2).trans (hfrg6 j h0 h1 h2 h3))
  refine lv_aload_n hx hb dX2_enter_134 rfl (lv_at hl 3 rfl) ?_
  refine xw_get hx hb hts hin2 hown hK hP (by decide) fg9_7 rfl 1 (by decide) hf17 rfl rfl dX2_enter_135 ?_
  refine lv_iload_n hx hb dX2_enter_138 rfl (lv_at hl 1 rfl) ?_
  refine lv_iconst (v := nI (3)) hx hb dX2_enter_139 (by decide) ?_
  refine xi_mul hx hb dX2_enter_140 ?_
  refine lv_iload_n hx hb dX2_enter_141 rfl (lv_at hl 2 rfl) ?_
  refine xi_add hx hb dX2_enter_142 ?_
  refine lv_aload_n hx hb dX2_enter_143 rfl (lv_at hl 4 rfl) ?_
  refine lv_aload hx hb dX2_enter_144 (lv_at hl 0 rfl) ?_
  refine vp_callSl (va_Run.run (va_runV (As := [.ref (ad (b1))]) (rest := [.int (nI (0)), .ref (ad (6))]) ⟨hx, hb, hml, hown, hts⟩ (mX4_leadOn l (q := q) fg9_0 fg9_3 fg9_0 fg9_2 fg9_4 hq4 hb1 hn1 hu1 hft1 hb1 hn1 hu1 hfh1 hfs1) (cwV 1 hts gX2_enter_X4_leadOn rfl rfl rfl (by decide +kernel) ⟨Nat.le_of_ble_eq_true rfl, Nat.le_of_ble_eq_true rfl⟩) ⟨xB_blind, va_recv hK hP (ci := 4) rfl (xw_is (by omega) fg9_0), fun U hU hW => ⟨rfl, by rw [hU]; exact hP, va_K.moved hW.alike hK, va_Nw.warmM hW hN⟩⟩ rfl rfl hl.1 rfl (lv_room (Nat.le_of_ble_eq_true rfl)) dX2_enter_146 ⟨Nat.le_of_ble_eq_true rfl, Nat.le_of_ble_eq_true rfl⟩)) (fun r10 er10 => ?_)
  subst er10
  refine xw_last hx hb hK hP hD hS (by decide) 1 fg9_w rfl (by omega) (by decide) dX2_enter_149 (fun g11 H locs eg11 hP hS => ?_)
  have fg11_0 : g11 (b1) = .inr (4, [.ref (ad (b1 + 1)), .ref (ad (b1 + 2)), .ref (ad (b1 + 3)), .ref (ad (b1 + 4)), .int (nI (n1)), .int (co1), .long (ow1)]) := (congrFun eg11 (b1)).trans ((va_up_ne _ _ (by omega)).trans fg9_0)
  have fg11_1 : g11 (b1 + 1) = .inl (cI, 5, .inl (fl1)) := (congrFun eg11 (b1 + 1)).trans ((va_up_ne _ _ (by omega)).trans fg9_1)
  have fg11_2 : g11 (b1 + 2) = .inl (cI, 6, .inl (fh1)) := (congrFun eg11 (b1 + 2)).trans ((va_up_ne _ _ (by omega)).trans fg9_2)
  have fg11_3 : g11 (b1 + 3) = .inl (cI, 6, .inl (ft1)) := (congrFun eg11 (b1 + 3)).trans ((va_up_ne _ _ (by omega)).trans fg9_3)
  have fg11_4 : g11 (b1 + 4) = .inl (cJ, 6, .inr (.inl (fs1))) := (congrFun eg11 (b1 + 4)).trans ((va_up_ne _ _ (by omega)).trans fg9_4)
  have fg11_5 : g11 (5) = .inl (cW, 3, .inr (.inr (.inr (.inr (va_up (f5) (0) (some (ad (b1)))))))) := (congrFun eg11 (5)).trans ((va_up_ne _ _ (by decide)).trans fg9_5)
  have fg11_6 : g11 (7) = .inl (cJ, 3, .inr (.inl (vp_updL (f7) (0) (lZ ((sf1 0 : Int)))))) := (congrFun eg11 (7)).trans ((va_up_ne _ _ (by decide)).trans fg9_6)
  have fg11_7 : g11 (4) = .inr (2, [.ref (ad (5)), .ref (ad (6)), .ref (ad (7)), .int (nI (1))]) := (congrFun eg11 (4)).trans ((va_up_ne _ _ (by decide)).trans fg9_7)
  have fg11_w : g11 (6) = .inl (cJ, 9, .inr (.inl (vp_updL (vp_updL (f6) (0) (lZ ((lapS sf1 u1 n1 u1 n1 5 : Int)))) (0) (lZ ((lapS sf1 u1 n1 u1 n1 5 : Int)))))) := (congrFun eg11 (6)).trans (va_up_self _ _ _)
  have hfrg11 : ∀ j : Nat, j ≠ 4 → j ≠ 5 → j ≠ 6 → j ≠ 7 → g11 j = g j := fun j h0 h1 h2 h3 => (congrFun eg11 j).trans ((va_up_ne _ _ h2).trans (hfrg9 j h0 h1 h2 h3))
  refine lv_iinc (v := nI (1)) (lv' := [(3, .int (nI (1))), (4, .ref (ad (b1))), (2, .int (nI (0))), (0, .ref (ad (4))), (1, .ref (ad (b1)))]) hx hb dX2_enter_150 hl (k := 1) rfl (nI_add (0) 1) (by decide) rfl (fun ls hl => ?_)
  refine lv_goto (tgt := 97) hx hb dX2_enter_153 (by decide) ?_
  refine lv_iload_n hx hb dX2_enter_97 rfl (lv_at hl 0 rfl) ?_
  refine lv_aload_n hx hb dX2_enter_98 rfl (lv_at hl 3 rfl) ?_
  refine xw_get hx hb hts hin2 hown hK hP (by decide) fg11_7 rfl 3 (by decide) hf27 rfl rfl dX2_enter_99 ?_
  refine xi_icmp_ge (tgt := 156) hx hb (by decide) (by decide) dX2_enter_102 (by decide) (fun _ => ?_) (fun c0 => absurd c0 (by decide))
  refine lv_iconst (v := nI (1)) hx hb dX2_enter_156 (by decide) ?_
  exact W.zret (v := nI (1)) hx hb hr (by decide) (fun tZ ht hW => ⟨⟨_, g11, rfl, Or.inl ⟨rfl, (fun h => h), fg11_7, fg11_5, fg11_w, fg11_6, hfrg11⟩, by rw [ht]; exact hP, va_K.moved hW.alike hK, va_Nw.warmM hW hN⟩, hS.F ht⟩) hS.2.2 dX2_enter_157

set_option maxHeartbeats 4000000 in
set_option maxRecDepth 100000 in
/-- Race.enter, 1 runners -/
theorem mX2_enter1 (l : Launch) {D : va_G} {cI cJ cZ cW : ClassId} {ad : Nat → Nat} {A : Nat → Prop} (hD : ∀ g, va_D A (xw 81 ad g)) {g : Nat → va_E} {q : Nat} {f5 : Nat → Option Nat} {f6 f7 : Nat → Int64} {b1 n1 : Nat} {u1 : Nat → Nat} {co1 : Int32} {ow1 : Int64} {fl1 : Nat → Int32} {fh1 : Nat → Int32} {ft1 : Nat → Int32} {fs1 : Nat → Int64} {sf1 : Nat → Nat} {b2 n2 : Nat} {u2 : Nat → Nat} {co2 : Int32} {ow2 : Int64} {fl2 : Nat → Int32} {fh2 : Nat → Int32} {ft2 : Nat → Int32} {fs2 : Nat → Int64} {sf2 : Nat → Nat}  (fo4 : g (4) = .inr (2, [.ref (ad (5)), .ref (ad (6)), .ref (ad (7)), .int (nI (1))])) (fa5 : g (5) = .inl (cW, 3, .inr (.inr (.inr (.inr (f5)))))) (fa6 : g (6) = .inl (cJ, 9, .inr (.inl (f6)))) (fa7 : g (7) = .inl (cJ, 3, .inr (.inl (f7)))) (fo1 : g (b1) = .inr (4, [.ref (ad (b1 + 1)), .ref (ad (b1 + 2)), .ref (ad (b1 + 3)), .ref (ad (b1 + 4)), .int (nI (n1)), .int (co1), .long (ow1)])) (fal1 : g (b1 + 1) = .inl (cI, 5, .inl (fl1))) (fah1 : g (b1 + 2) = .inl (cI, 6, .inl (fh1))) (fat1 : g (b1 + 3) = .inl (cI, 6, .inl (ft1))) (fas1 : g (b1 + 4) = .inl (cJ, 6, .inr (.inl (fs1)))) (fo2 : g (b2) = .inr (4, [.ref (ad (b2 + 1)), .ref (ad (b2 + 2)), .ref (ad (b2 + 3)), .ref (ad (b2 + 4)), .int (nI (n2)), .int (co2), .long (ow2)])) (fal2 : g (b2 + 1) = .inl (cI, 5, .inl (fl2))) (fah2 : g (b2 + 2) = .inl (cI, 6, .inl (fh2))) (fat2 : g (b2 + 3) = .inl (cI, 6, .inl (ft2))) (fas2 : g (b2 + 4) = .inl (cJ, 6, .inr (.inl (fs2)))) (hq4 : q ≤ 4) (hb1 : b1 + 4 < 81) (hn1 : n1 ≤ 5) (hu1 : ∀ j, j < n1 → u1 j < q) (hfl1 : ∀ j, j < n1 → fl1 j = nI (u1 j)) (hfh1 : ∀ k, k ≤ n1 → fh1 k = nI (px q u1 k)) (hft1 : ∀ k, k ≤ n1 → ft1 k = nI (px q (fun j => u1 (n1 - k + j)) k)) (hfs1 : ∀ k, k ≤ n1 → fs1 k = lZ (sf1 k : Int)) (hb171 : 17 ≤ b1) (hb2 : b2 + 4 < 81) (hn2 : n2 ≤ 5) (hu2 : ∀ j, j < n2 → u2 j < q) (hfl2 : ∀ j, j < n2 → fl2 j = nI (u2 j)) (hfh2 : ∀ k, k ≤ n2 → fh2 k = nI (px q u2 k)) (hft2 : ∀ k, k ≤ n2 → ft2 k = nI (px q (fun j => u2 (n2 - k + j)) k)) (hfs2 : ∀ k, k ≤ n2 → fs2 k = lZ (sf2 k : Int)) (hb172 : 17 ≤ b2) (hr0 : f5 0 = some (ad b2)) : Met l yX2_enter wsX2_enter ({ frames := 2, cells := 0, slots := 0, locals := 47 }) (va_Pc [.ref (ad (4)), .ref (ad (b1))] (xB D (xT cI cJ cZ cW) ad g)) (va_Qi (fun r g2 => (r = nI 1 ∧ ¬ ((liesW u1 n1 u2 n2 ∨ liesW u2 n2 u1 n1)) ∧ g2 4 = .inr (2, [.ref (ad (5)), .ref (ad (6)), .ref (ad (7)), .int (nI (2))]) ∧ g2 5 = .inl (cW, 3, .inr (.inr (.inr (.inr (va_up (f5) (1) (some (ad (b1)))))))) ∧ g2 6 = .inl (cJ, 9, .inr (.inl (vp_updL (vp_updL (vp_updL (vp_updL (f6) (3) (lZ ((lapS sf1 u2 n2 u1 n1 5 : Int)))) (1) (lZ ((lapS sf2 u1 n1 u2 n2 5 : Int)))) (4) (lZ ((lapS sf1 u1 n1 u1 n1 5 : Int)))) (4) (lZ ((lapS sf1 u1 n1 u1 n1 5 : Int)))))) ∧ g2 7 = .inl (cJ, 3, .inr (.inl (vp_updL (f7) (1) (lZ ((sf1 0 : Int)))))) ∧ ∀ j : Nat, j ≠ 4 → j ≠ 5 → j ≠ 6 → j ≠ 7 → g2 j = g j) ∨ (r = nI 0 ∧ ((liesW u1 n1 u2 n2 ∨ liesW u2 n2 u1 n1)) ∧ g2 = g)) (xB D (xT cI cJ cZ cW) ad) A) 0 0 A := by
  refine Met.ofW (cc := cX2_enter) (maxL := 5) (ret := (some .boolean)) (by decide) rfl ?_
  intro p e s m args below meth c s₁ B hml hv
  obtain ⟨rfl, hP, hK, hN⟩ := hv
  have hx := B.exec
  have hb := B.bytes
  have hr := B.returns
  have hts := atoms_spec (ws := wsX2_enter) B.pre
  have hown : s.vm.findClass RX2 = some m.cls := findClass_of_methodNamed B.named
  have hlocks := B.notSynchronized
  have hS : va_S A s.heap s.heap [] := va_S.rf
  have hin2 : ∀ w ∈ wsX20, w ∈ wsX2_enter := by decide +kernel
  have hf11 := hts (.fieldLink RX2 11 "LettersByLot$Race" "runners" "[LLettersByLot$Word;") (by decide +kernel)
  have hf17 := hts (.fieldLink RX2 17 "LettersByLot$Race" "leads" "[J") (by decide +kernel)
  have hf21 := hts (.fieldLink RX2 21 "LettersByLot$Race" "asked" "[J") (by decide +kernel)
  have hf27 := hts (.fieldLink RX2 27 "LettersByLot$Race" "size" "I") (by decide +kernel)
  have hl := lv_entry ([.ref (ad (4)), .ref (ad (b1))]) (n := 5) (Nat.le_of_ble_eq_true rfl)
  rw [lg_entry_eq]
  generalize (lg_sl ([.ref (ad (4)), .ref (ad (b1))]) ++ List.replicate (5 - (lg_sl ([.ref (ad (4)), .ref (ad (b1))])).length) Slot.unset).toArray = ls at hl ⊢
  have hl : lv_has ls 5 [(0, .ref (ad (4))), (1, .ref (ad (b1)))] := hl
  refine lv_aload_n hx hb dX2_enter_0 rfl (lv_at hl 0 rfl) ?_
  refine xw_get hx hb hts hin2 hown hK hP (by decide) fo4 rfl 3 (by decide) hf27 rfl rfl dX2_enter_1 ?_
  refine lv_iconst (v := nI (3)) hx hb dX2_enter_4 (by decide) ?_
  refine xi_icmp_lt (tgt := 10) hx hb (by decide) (by decide) dX2_enter_5 (by decide) (fun _ => ?_) (fun c0 => absurd c0 (by decide))
  refine lv_iconst (v := nI (0)) hx hb dX2_enter_10 (by decide) ?_
  refine lv_istore_n (lv' := [(2, .int (nI (0))), (0, .ref (ad (4))), (1, .ref (ad (b1)))]) hx hb dX2_enter_11 rfl hl (by decide) rfl (fun ls hl => ?_)
  refine lv_iload_n hx hb dX2_enter_12 rfl (lv_at hl 0 rfl) ?_
  refine lv_aload_n hx hb dX2_enter_13 rfl (lv_at hl 1 rfl) ?_
  refine xw_get hx hb hts hin2 hown hK hP (by decide) fo4 rfl 3 (by decide) hf27 rfl rfl dX2_enter_14 ?_
  refine xi_icmp_ge (tgt := 55) hx hb (by decide) (by decide) dX2_enter_17 (by decide) (fun c0 => absurd c0 (by decide)) (fun _ => ?_)
  refine lv_aload_n hx hb dX2_enter_20 rfl (lv_at hl 1 rfl) ?_
  refine xw_get hx hb hts hin2 hown hK hP (by decide) fo4 rfl 0 (by decide) hf11 rfl rfl dX2_enter_21 ?_
  refine lv_iload_n hx hb dX2_enter_24 rfl (lv_at hl 0 rfl) ?_
  refine xw_aald hx hb hK hP (by decide) 3 fa5 rfl (by omega) (by decide) (v := .ref (ad (b2))) (by rw [hr0]; rfl) dX2_enter_25 ?_
  refine lv_astore_n (lv' := [(3, .ref (ad (b2))), (2, .int (nI (0))), (0, .ref (ad (4))), (1, .ref (ad (b1)))]) hx hb dX2_enter_26 rfl hl (by decide) rfl (fun ls hl => ?_)
  refine lv_aload_n hx hb dX2_enter_27 rfl (lv_at hl 0 rfl) ?_
  refine lv_ifnull hx hb dX2_enter_28 ?_
  refine lv_aload_n hx hb dX2_enter_31 rfl (lv_at hl 3 rfl) ?_
  refine lv_aload_n hx hb dX2_enter_32 rfl (lv_at hl 0 rfl) ?_
  refine vp_callSi (va_Run.run (va_runV (As := [.ref (ad (b2))]) (rest := []) ⟨hx, hb, hml, hown, hts⟩ (mX4_liesWithin l (q := q) fo1 fal1 fo2 fal2 hq4 hb1 hn1 hu1 hfl1 hb2 hn2 hu2 hfl2) (cwV 1 hts gX2_enter_X4_liesWithin rfl rfl rfl (by decide +kernel) ⟨Nat.le_of_ble_eq_true rfl, Nat.le_of_ble_eq_true rfl⟩) ⟨xB_blind, va_recv hK hP (ci := 4) rfl (xw_is (by omega) fo1), fun U hU hW => ⟨rfl, by rw [hU]; exact hP, va_K.moved hW.alike hK, va_Nw.warmM hW hN⟩⟩ rfl rfl hl.1 rfl (lv_room (Nat.le_of_ble_eq_true rfl)) dX2_enter_33 ⟨Nat.le_of_ble_eq_true rfl, Nat.le_of_ble_eq_true rfl⟩)) (fun r3 er3 => ?_)
  subst er3
  refine xb_if_ne (tgt := 47) hx hb dX2_enter_36 (by decide) (fun c36_4 => ?_) (fun c36_4 => ?_)
  · refine lv_iconst (v := nI (0)) hx hb dX2_enter_47 (by decide) ?_
    exact W.zret (v := nI (0)) hx hb hr (by decide) (fun tZ ht hW => ⟨⟨_, g, rfl, Or.inr ⟨rfl, (Or.inl c36_4), rfl⟩, by rw [ht]; exact hP, va_K.moved hW.alike hK, va_Nw.warmM hW hN⟩, hS.F ht⟩) hS.2.2 dX2_enter_48
  · refine lv_aload_n hx hb dX2_enter_39 rfl (lv_at hl 0 rfl) ?_
    refine lv_aload_n hx hb dX2_enter_40 rfl (lv_at hl 3 rfl) ?_
    refine vp_callSi (va_Run.run (va_runV (As := [.ref (ad (b1))]) (rest := []) ⟨hx, hb, hml, hown, hts⟩ (mX4_liesWithin l (q := q) fo2 fal2 fo1 fal1 hq4 hb2 hn2 hu2 hfl2 hb1 hn1 hu1 hfl1) (cwV 1 hts gX2_enter_X4_liesWithin rfl rfl rfl (by decide +kernel) ⟨Nat.le_of_ble_eq_true rfl, Nat.le_of_ble_eq_true rfl⟩) ⟨xB_blind, va_recv hK hP (ci := 4) rfl (xw_is (by omega) fo2), fun U hU hW => ⟨rfl, by rw [hU]; exact hP, va_K.moved hW.alike hK, va_Nw.warmM hW hN⟩⟩ rfl rfl hl.1 rfl (lv_room (Nat.le_of_ble_eq_true rfl)) dX2_enter_41 ⟨Nat.le_of_ble_eq_true rfl, Nat.le_of_ble_eq_true rfl⟩)) (fun r5 er5 => ?_)
    subst er5
    refine xb_if_eq (tgt := 49) hx hb dX2_enter_44 (by decide) (fun c44_6 => ?_) (fun c44_6 => ?_)
    · refine lv_iinc (v := nI (1)) (lv' := [(2, .int (nI (1))), (3, .ref (ad (b2))), (0, .ref (ad (4))), (1, .ref (ad (b1)))]) hx hb dX2_enter_49 hl (k := 1) rfl (nI_add (0) 1) (by decide) rfl (fun ls hl => ?_)
      refine lv_goto (tgt := 12) hx hb dX2_enter_52 (by decide) ?_
      refine lv_iload_n hx hb dX2_enter_12 rfl (lv_at hl 0 rfl) ?_
      refine lv_aload_n hx hb dX2_enter_13 rfl (lv_at hl 2 rfl) ?_
      refine xw_get hx hb hts hin2 hown hK hP (by decide) fo4 rfl 3 (by decide) hf27 rfl rfl dX2_enter_14 ?_
      refine xi_icmp_ge (tgt := 55) hx hb (by decide) (by decide) dX2_enter_17 (by decide) (fun _ => ?_) (fun c0 => absurd c0 (by decide))
      refine lv_aload_n hx hb dX2_enter_55 rfl (lv_at hl 2 rfl) ?_
      refine xw_get hx hb hts hin2 hown hK hP (by decide) fo4 rfl 0 (by decide) hf11 rfl rfl dX2_enter_56 ?_
      refine lv_aload_n hx hb dX2_enter_59 rfl (lv_at hl 2 rfl) ?_
      refine xw_get hx hb hts hin2 hown hK hP (by decide) fo4 rfl 3 (by decide) hf27 rfl rfl dX2_enter_60 ?_
      refine lv_aload_n hx hb dX2_enter_63 rfl (lv_at hl 3 rfl) ?_
      refine xw_aast hx hb hK hP hD hS (by decide) 3 (by omega) 4 fa5 rfl fo1 rfl (by omega) (by decide) dX2_enter_64 (fun g8 H locs eg8 hP hS => ?_)
      have fg8_0 : g8 (4) = .inr (2, [.ref (ad (5)), .ref (ad (6)), .ref (ad (7)), .int (nI (1))]) := (congrFun eg8 (4)).trans ((va_up_ne _ _ (by decide)).trans fo4)
      have fg8_1 : g8 (6) = .inl (cJ, 9, .inr (.inl (f6))) := (congrFun eg8 (6)).trans ((va_up_ne _ _ (by decide)).trans fa6)
      have fg8_2 : g8 (7) = .inl (cJ, 3, .inr (.inl (f7))) := (congrFun eg8 (7)).trans ((va_up_ne _ _ (by decide)).trans fa7)
      have fg8_3 : g8 (b1) = .inr (4, [.ref (ad (b1 + 1)), .ref (ad (b1 + 2)), .ref (ad (b1 + 3)), .ref (ad (b1 + 4)), .int (nI (n1)), .int (co1), .long (ow1)]) := (congrFun eg8 (b1)).trans ((va_up_ne _ _ (by omega)).trans fo1)
      have fg8_4 : g8 (b1 + 1) = .inl (cI, 5, .inl (fl1)) := (congrFun eg8 (b1 + 1)).trans ((va_up_ne _ _ (by omega)).trans fal1)
      have fg8_5 : g8 (b1 + 2) = .inl (cI, 6, .inl (fh1)) := (congrFun eg8 (b1 + 2)).trans ((va_up_ne _ _ (by omega)).trans fah1)
      have fg8_6 : g8 (b1 + 3) = .inl (cI, 6, .inl (ft1)) := (congrFun eg8 (b1 + 3)).trans ((va_up_ne _ _ (by omega)).trans fat1)
      have fg8_7 : g8 (b1 + 4) = .inl (cJ, 6, .inr (.inl (fs1))) := (congrFun eg8 (b1 + 4)).trans ((va_up_ne _ _ (by omega)).trans fas1)
      have fg8_8 : g8 (b2) = .inr (4, [.ref (ad (b2 + 1)), .ref (ad (b2 + 2)), .ref (ad (b2 + 3)), .ref (ad (b2 + 4)), .int (nI (n2)), .int (co2), .long (ow2)]) := (congrFun eg8 (b2)).trans ((va_up_ne _ _ (by omega)).trans fo2)
      have fg8_9 : g8 (b2 + 1) = .inl (cI, 5, .inl (fl2)) := (congrFun eg8 (b2 + 1)).trans ((va_up_ne _ _ (by omega)).trans fal2)
      have fg8_10 : g8 (b2 + 2) = .inl (cI, 6, .inl (fh2)) := (congrFun eg8 (b2 + 2)).trans ((va_up_ne _ _ (by omega)).trans fah2)
      have fg8_11 : g8 (b2 + 3) = .inl (cI, 6, .inl (ft2)) := (congrFun eg8 (b2 + 3)).trans ((va_up_ne _ _ (by omega)).trans fat2)
      have fg8_12 : g8 (b2 + 4) = .inl (cJ, 6, .inr (.inl (fs2))) := (congrFun eg8 (b2 + 4)).trans ((va_up_ne _ _ (by omega)).trans fas2)
      have fg8_w : g8 (5) = .inl (cW, 3, .inr (.inr (.inr (.inr (va_up (f5) (1) (some (ad (b1)))))))) := (congrFun eg8 (5)).trans (va_up_self _ _ _)
      have hfrg8 : ∀ j : Nat, j ≠ 4 → j ≠ 5 → j ≠ 6 → j ≠ 7 → g8 j = g j := fun j h0 h1 h2 h3 => (congrFun eg8 j).trans ((va_up_ne _ _ h1).trans ((fun _ _ _ _ _ => rfl) j h0 h1 h2 h3))
      refine lv_aload_n hx hb dX2_enter_65 rfl (lv_at hl 2 rfl) ?_
      refine xw_get hx hb hts hin2 hown hK hP (by decide) fg8_0 rfl 2 (by decide) hf21 rfl rfl dX2_enter_66 ?_
      refine lv_aload_n hx hb dX2_enter_69 rfl (lv_at hl 2 rfl) ?_
      refine xw_get hx hb hts hin2 hown hK hP (by decide) fg8_0 rfl 3 (by decide) hf27 rfl rfl dX2_enter_70 ?_
      refine lv_aload_n hx hb dX2_enter_73 rfl (lv_at hl 3 rfl) ?_
      refine vp_callSl (va_Run.run (va_runV (As := []) (rest := [.int (nI (1)), .ref (ad (7))]) ⟨hx, hb, hml, hown, hts⟩ (mX4_leadBottom l (q := q) fg8_3 fg8_7 hb1 hn1 hu1 hfs1) (cwV 0 hts gX2_enter_X4_leadBottom rfl rfl rfl (by decide +kernel) ⟨Nat.le_of_ble_eq_true rfl, Nat.le_of_ble_eq_true rfl⟩) ⟨xB_blind, va_recv hK hP (ci := 4) rfl (xw_is (by omega) fg8_3), fun U hU hW => ⟨rfl, by rw [hU]; exact hP, va_K.moved hW.alike hK, va_Nw.warmM hW hN⟩⟩ rfl rfl hl.1 rfl (lv_room (Nat.le_of_ble_eq_true rfl)) dX2_enter_74 ⟨Nat.le_of_ble_eq_true rfl, Nat.le_of_ble_eq_true rfl⟩)) (fun r9 er9 => ?_)
      subst er9
      refine xw_last hx hb hK hP hD hS (by decide) 1 fg8_2 rfl (by omega) (by decide) dX2_enter_77 (fun g10 H locs eg10 hP hS => ?_)
      have fg10_0 : g10 (4) = .inr (2, [.ref (ad (5)), .ref (ad (6)), .ref (ad (7)), .int (nI (1))]) := (congrFun eg10 (4)).trans ((va_up_ne _ _ (by decide)).trans fg8_0)
      have fg10_1 : g10 (6) = .inl (cJ, 9, .inr (.inl (f6))) := (congrFun eg10 (6)).trans ((va_up_ne _ _ (by decide)).trans fg8_1)
      have fg10_2 : g10 (b1) = .inr (4, [.ref (ad (b1 + 1)), .ref (ad (b1 + 2)), .ref (ad (b1 + 3)), .ref (ad (b1 + 4)), .int (nI (n1)), .int (co1), .long (ow1)]) := (congrFun eg10 (b1)).trans ((va_up_ne _ _ (by omega)).trans fg8_3)
      have fg10_3 : g10 (b1 + 1) = .inl (cI, 5, .inl (fl1)) := (congrFun eg10 (b1 + 1)).trans ((va_up_ne _ _ (by omega)).trans fg8_4)
      have fg10_4 : g10 (b1 + 2) = .inl (cI, 6, .inl (fh1)) := (congrFun eg10 (b1 + 2)).trans ((va_up_ne _ _ (by omega)).trans fg8_5)
      have fg10_5 : g10 (b1 + 3) = .inl (cI, 6, .inl (ft1)) := (congrFun eg10 (b1 + 3)).trans ((va_up_ne _ _ (by omega)).trans fg8_6)
      have fg10_6 : g10 (b1 + 4) = .inl (cJ, 6, .inr (.inl (fs1))) := (congrFun eg10 (b1 + 4)).trans ((va_up_ne _ _ (by omega)).trans fg8_7)
      have fg10_7 : g10 (b2) = .inr (4, [.ref (ad (b2 + 1)), .ref (ad (b2 + 2)), .ref (ad (b2 + 3)), .ref (ad (b2 + 4)), .int (nI (n2)), .int (co2), .long (ow2)]) := (congrFun eg10 (b2)).trans ((va_up_ne _ _ (by omega)).trans fg8_8)
      have fg10_8 : g10 (b2 + 1) = .inl (cI, 5, .inl (fl2)) := (congrFun eg10 (b2 + 1)).trans ((va_up_ne _ _ (by omega)).trans fg8_9)
      have fg10_9 : g10 (b2 + 2) = .inl (cI, 6, .inl (fh2)) := (congrFun eg10 (b2 + 2)).trans ((va_up_ne _ _ (by omega)).trans fg8_10)
      have fg10_10 : g10 (b2 + 3) = .inl (cI, 6, .inl (ft2)) := (congrFun eg10 (b2 + 3)).trans ((va_up_ne _ _ (by omega)).trans fg8_11)
      have fg10_11 : g10 (b2 + 4) = .inl (cJ, 6, .inr (.inl (fs2))) := (congrFun eg10 (b2 + 4)).trans ((va_up_ne _ _ (by omega)).trans fg8_12)
      have fg10_12 : g10 (5) = .inl (cW, 3, .inr (.inr (.inr (.inr (va_up (f5) (1) (some (ad (b1)))))))) := (congrFun eg10 (5)).trans ((va_up_ne _ _ (by decide)).trans fg8_w)
      have fg10_w : g10 (7) = .inl (cJ, 3, .inr (.inl (vp_updL (f7) (1) (lZ ((sf1 0 : Int)))))) := (congrFun eg10 (7)).trans (va_up_self _ _ _)
      have hfrg10 : ∀ j : Nat, j ≠ 4 → j ≠ 5 → j ≠ 6 → j ≠ 7 → g10 j = g j := fun j h0 h1 h2 h3 => (congrFun eg10 j).trans ((va_up_ne _ _ h3).trans (hfrg8 j h0 h1 h2 h3))
      refine lv_aload_n hx hb dX2_enter_78 rfl (lv_at hl 2 rfl) ?_
      refine lv_dup hx hb dX2_enter_79 rfl ?_
      refine xw_get hx hb hts hin2 hown hK hP (by decide) fg10_0 rfl 3 (by decide) hf27 rfl rfl dX2_enter_80 ?_
      refine lv_iconst (v := nI (1)) hx hb dX2_enter_83 (by decide) ?_
      refine xi_add hx hb dX2_enter_84 ?_
      refine xw_put hx hb hts hin2 tyX2 tyX2_ok nmX2 hown hK hP hD hS (by decide) fg10_0 rfl 3 (by decide) hf27 rfl rfl (ty := .int) (by decide +kernel) rfl rfl (Nat.le_of_ble_eq_true rfl) (fs' := [.ref (ad (5)), .ref (ad (6)), .ref (ad (7)), .int (nI (2))]) rfl dX2_enter_85 (fun g11 H locs eg11 hP hS => ?_)
      have fg11_0 : g11 (6) = .inl (cJ, 9, .inr (.inl (f6))) := (congrFun eg11 (6)).trans ((va_up_ne _ _ (by decide)).trans fg10_1)
      have fg11_1 : g11 (b1) = .inr (4, [.ref (ad (b1 + 1)), .ref (ad (b1 + 2)), .ref (ad (b1 + 3)), .ref (ad (b1 + 4)), .int (nI (n1)), .int (co1), .long (ow1)]) := (congrFun eg11 (b1)).trans ((va_up_ne _ _ (by omega)).trans fg10_2)
      have fg11_2 : g11 (b1 + 1) = .inl (cI, 5, .inl (fl1)) := (congrFun eg11 (b1 + 1)).trans ((va_up_ne _ _ (by omega)).trans fg10_3)
      have fg11_3 : g11 (b1 + 2) = .inl (cI, 6, .inl (fh1)) := (congrFun eg11 (b1 + 2)).trans ((va_up_ne _ _ (by omega)).trans fg10_4)
      have fg11_4 : g11 (b1 + 3) = .inl (cI, 6, .inl (ft1)) := (congrFun eg11 (b1 + 3)).trans ((va_up_ne _ _ (by omega)).trans fg10_5)
      have fg11_5 : g11 (b1 + 4) = .inl (cJ, 6, .inr (.inl (fs1))) := (congrFun eg11 (b1 + 4)).trans ((va_up_ne _ _ (by omega)).trans fg10_6)
      have fg11_6 : g11 (b2) = .inr (4, [.ref (ad (b2 + 1)), .ref (ad (b2 + 2)), .ref (ad (b2 + 3)), .ref (ad (b2 + 4)), .int (nI (n2)), .int (co2), .long (ow2)]) := (congrFun eg11 (b2)).trans ((va_up_ne _ _ (by omega)).trans fg10_7)
      have fg11_7 : g11 (b2 + 1) = .inl (cI, 5, .inl (fl2)) := (congrFun eg11 (b2 + 1)).trans ((va_up_ne _ _ (by omega)).trans fg10_8)
      have fg11_8 : g11 (b2 + 2) = .inl (cI, 6, .inl (fh2)) := (congrFun eg11 (b2 + 2)).trans ((va_up_ne _ _ (by omega)).trans fg10_9)
      have fg11_9 : g11 (b2 + 3) = .inl (cI, 6, .inl (ft2)) := (congrFun eg11 (b2 + 3)).trans ((va_up_ne _ _ (by omega)).trans fg10_10)
      have fg11_10 : g11 (b2 + 4) = .inl (cJ, 6, .inr (.inl (fs2))) := (congrFun eg11 (b2 + 4)).trans ((va_up_ne _ _ (by omega)).trans fg10_11)
      have fg11_11 : g11 (5) = .inl (cW, 3, .inr (.inr (.inr (.inr (va_up (f5) (1) (some (ad (b1)))))))) := (congrFun eg11 (5)).trans ((va_up_ne _ _ (by decide)).trans fg10_12)
      have fg11_12 : g11 (7) = .inl (cJ, 3, .inr (.inl (vp_updL (f7) (1) (lZ ((sf1 0 : Int)))))) := (congrFun eg11 (7)).trans ((va_up_ne _ _ (by decide)).trans fg10_w)
      have fg11_w : g11 (4) = .inr (2, [.ref (ad (5)), .ref (ad (6)), .ref (ad (7)), .int (nI (2))]) := (congrFun eg11 (4)).trans (va_up_self _ _ _)
      have hfrg11 : ∀ j : Nat, j ≠ 4 → j ≠ 5 → j ≠ 6 → j ≠ 7 → g11 j = g j := fun j h0 h1 h2 h3 => (congrFun eg11 j).trans ((va_up_ne _ _ h0).trans (hfrg10 j h0 h1 h2 h3))
      refine lv_aload_n hx hb dX2_enter_88 rfl (lv_at hl 2 rfl) ?_
      refine xw_get hx hb hts hin2 hown hK hP (by decide) fg11_w rfl 3 (by decide) hf27 rfl rfl dX2_enter_89 ?_
      refine lv_iconst (v := nI (1)) hx hb dX2_enter_92 (by decide) ?_
      refine xi_sub hx hb (by omega) dX2_enter_93 ?_
      refine lv_istore_n (lv' := [(2, .int (nI (1))), (3, .ref (ad (b2))), (0, .ref (ad (4))), (1, .ref (ad (b1)))]) hx hb dX2_enter_94 rfl hl (by decide) rfl (fun ls hl => ?_)
      refine lv_iconst (v := nI (0)) hx hb dX2_enter_95 (by decide) ?_
      refine lv_istore_n (lv' := [(3, .int (nI (0))), (2, .int (nI (1))), (0, .ref (ad (4))), (1, .ref (ad (b1)))]) hx hb dX2_enter_96 rfl hl (by decide) rfl (fun ls hl => ?_)
      refine lv_iload_n hx hb dX2_enter_97 rfl (lv_at hl 0 rfl) ?_
      refine lv_aload_n hx hb dX2_enter_98 rfl (lv_at hl 2 rfl) ?_
      refine xw_get hx hb hts hin2 hown hK hP (by decide) fg11_w rfl 3 (by decide) hf27 rfl rfl dX2_enter_99 ?_
      refine xi_icmp_ge (tgt := 156) hx hb (by decide) (by decide) dX2_enter_102 (by decide) (fun c0 => absurd c0 (by decide)) (fun _ => ?_)
      refine lv_aload_n hx hb dX2_enter_105 rfl (lv_at hl 2 rfl) ?_
      refine xw_get hx hb hts hin2 hown hK hP (by decide) fg11_w rfl 0 (by decide) hf11 rfl rfl dX2_enter_106 ?_
      refine lv_iload_n hx hb dX2_enter_109 rfl (lv_at hl 0 rfl) ?_
      refine xw_aald hx hb hK hP (by decide) 3 fg11_11 rfl (by omega) (by decide) (v := .ref (ad (b2))) (show va_rf (f5 0) = _ by rw [hr0]; rfl) dX2_enter_110 ?_
      refine lv_astore (lv' := [(4, .ref (ad (b2))), (3, .int (nI (0))), (2, .int (nI (1))), (0, .ref (ad (4))), (1, .ref (ad (b1)))]) hx hb dX2_enter_111 hl (by decide) rfl (fun ls hl => ?_)
      refine lv_aload hx hb dX2_enter_113 (lv_at hl 0 rfl) ?_
      refine lv_ifnull hx hb dX2_enter_115 ?_
      refine lv_aload_n hx hb dX2_enter_118 rfl (lv_at hl 3 rfl) ?_
      refine xw_get hx hb hts hin2 hown hK hP (by decide) fg11_w rfl 1 (by decide) hf17 rfl rfl dX2_enter_119 ?_
      refine lv_iload_n hx hb dX2_enter_122 rfl (lv_at hl 2 rfl) ?_
      refine lv_iconst (v := nI (3)) hx hb dX2_enter_123 (by decide) ?_
      refine xi_mul hx hb dX2_enter_124 ?_
      refine lv_iload_n hx hb dX2_enter_125 rfl (lv_at hl 1 rfl) ?_
      refine xi_add hx hb dX2_enter_126 ?_
      refine lv_aload hx hb dX2_enter_127 (lv_at hl 0 rfl) ?_
      refine lv_aload_n hx hb dX2_enter_129 rfl (lv_at hl 4 rfl) ?_
      refine vp_callSl (va_Run.run (va_runV (As := [.ref (ad (b1))]) (rest := [.int (nI (3)), .ref (ad (6))]) ⟨hx, hb, hml, hown, hts⟩ (mX4_leadOn l (q := q) fg11_6 fg11_9 fg11_1 fg11_3 fg11_5 hq4 hb2 hn2 hu2 hft2 hb1 hn1 hu1 hfh1 hfs1) (cwV 1 hts gX2_enter_X4_leadOn rfl rfl rfl (by decide +kernel) ⟨Nat.le_of_ble_eq_true rfl, Nat.le_of_ble_eq_true rfl⟩) ⟨xB_blind, va_recv hK hP (ci := 4) rfl (xw_is (by omega) fg11_6), fun U hU hW => ⟨rfl, by rw [hU]; exact hP, va_K.moved hW.alike hK, va_Nw.warmM hW hN⟩⟩ rfl rfl hl.1 rfl (lv_room (Nat.le_of_ble_eq_true rfl)) dX2_enter_130 ⟨Nat.le_of_ble_eq_true rfl, Nat.le_of_ble_eq_true rfl⟩)) (fun r13 er13 => ?_)
      subst er13
      refine xw_last hx hb hK hP hD hS (by decide) 1 fg11_0 rfl (by omega) (by decide) dX2_enter_133 (fun g14 H locs eg14 hP hS => ?_)
      have fg14_0 : g14 (b1) = .inr (4, [.ref (ad (b1 + 1)), .ref (ad (b1 + 2)), .ref (ad (b1 + 3)), .ref (ad (b1 + 4)), .int (nI (n1)), .int (co1), .long (ow1)]) := (congrFun eg14 (b1)).trans ((va_up_ne _ _ (by omega)).trans fg11_1)
      have fg14_1 : g14 (b1 + 1) = .inl (cI, 5, .inl (fl1)) := (congrFun eg14 (b1 + 1)).trans ((va_up_ne _ _ (by omega)).trans fg11_2)
      have fg14_2 : g14 (b1 + 2) = .inl (cI, 6, .inl (fh1)) := (congrFun eg14 (b1 + 2)).trans ((va_up_ne _ _ (by omega)).trans fg11_3)
      have fg14_3 : g14 (b1 + 3) = .inl (cI, 6, .inl (ft1)) := (congrFun eg14 (b1 + 3)).trans ((va_up_ne _ _ (by omega)).trans fg11_4)
      have fg14_4 : g14 (b1 + 4) = .inl (cJ, 6, .inr (.inl (fs1))) := (congrFun eg14 (b1 + 4)).trans ((va_up_ne _ _ (by omega)).trans fg11_5)
      have fg14_5 : g14 (b2) = .inr (4, [.ref (ad (b2 + 1)), .ref (ad (b2 + 2)), .ref (ad (b2 + 3)), .ref (ad (b2 + 4)), .int (nI (n2)), .int (co2), .long (ow2)]) := (congrFun eg14 (b2)).trans ((va_up_ne _ _ (by omega)).trans fg11_6)
      have fg14_6 : g14 (b2 + 1) = .inl (cI, 5, .inl (fl2)) := (congrFun eg14 (b2 + 1)).trans ((va_up_ne _ _ (by omega)).trans fg11_7)
      have fg14_7 : g14 (b2 + 2) = .inl (cI, 6, .inl (fh2)) := (congrFun eg14 (b2 + 2)).trans ((va_up_ne _ _ (by omega)).trans fg11_8)
      have fg14_8 : g14 (b2 + 3) = .inl (cI, 6, .inl (ft2)) := (congrFun eg14 (b2 + 3)).trans ((va_up_ne _ _ (by omega)).trans fg11_9)
      have fg14_9 : g14 (b2 + 4) = .inl (cJ, 6, .inr (.inl (fs2))) := (congrFun eg14 (b2 + 4)).trans ((va_up_ne _ _ (by omega)).trans fg11_10)
      have fg14_10 : g14 (5) = .inl (cW, 3, .inr (.inr (.inr (.inr (va_up (f5) (1) (some (ad (b1)))))))) := (congrFun eg14 (5)).trans ((va_up_ne _ _ (by decide)).trans fg11_11)
      have fg14_11 : g14 (7) = .inl (cJ, 3, .inr (.inl (vp_updL (f7) (1) (lZ ((sf1 0 : Int)))))) := (congrFun eg14 (7)).trans ((va_up_ne _ _ (by decide)).trans fg11_12)
      have fg14_12 : g14 (4) = .inr (2, [.ref (ad (5)), .ref (ad (6)), .ref (ad (7)), .int (nI (2))]) := (congrFun eg14 (4)).trans ((va_up_ne _ _ (by decide)).trans fg11_w)
      have fg14_w : g14 (6) = .inl (cJ, 9, .inr (.inl (vp_updL (f6) (3) (lZ ((lapS sf1 u2 n2 u1 n1 5 : Int)))))) := (congrFun eg14 (6)).trans (va_up_self _ _ _)
      have hfrg14 : ∀ j : Nat, j ≠ 4 → j ≠ 5 → j ≠ 6 → j ≠ 7 → g14 j = g j := fun j h0 h1 h2 h3 => (congrFun eg14 j).trans ((va_up_ne _ _ h2).trans (hfrg11 j h0 h1 h2 h3))
      refine lv_aload_n hx hb dX2_enter_134 rfl (lv_at hl 3 rfl) ?_
      refine xw_get hx hb hts hin2 hown hK hP (by decide) fg14_12 rfl 1 (by decide) hf17 rfl rfl dX2_enter_135 ?_
      refine lv_iload_n hx hb dX2_enter_138 rfl (lv_at hl 1 rfl) ?_
      refine lv_iconst (v := nI (3)) hx hb dX2_enter_139 (by decide) ?_
      refine xi_mul hx hb dX2_enter_140 ?_
      refine lv_iload_n hx hb dX2_enter_141 rfl (lv_at hl 2 rfl) ?_
      refine xi_add hx hb dX2_enter_142 ?_
      refine lv_aload_n hx hb dX2_enter_143 rfl (lv_at hl 4 rfl) ?_
      refine lv_aload hx hb dX2_enter_144 (lv_at hl 0 rfl) ?_
      refine vp_callSl (va_Run.run (va_runV (As := [.ref (ad (b2))]) (rest := [.int (nI (1)), .ref (ad (6))]) ⟨hx, hb, hml, hown, hts⟩ (mX4_leadOn l (q := q) fg14_0 fg14_3 fg14_5 fg14_7 fg14_9 hq4 hb1 hn1 hu1 hft1 hb2 hn2 hu2 hfh2 hfs2) (cwV 1 hts gX2_enter_X4_leadOn rfl rfl rfl (by decide +kernel) ⟨Nat.le_of_ble_eq_true rfl, Nat.le_of_ble_eq_true rfl⟩) ⟨xB_blind, va_recv hK hP (ci := 4) rfl (xw_is (by omega) fg14_0), fun U hU hW => ⟨rfl, by rw [hU]; exact hP, va_K.moved hW.alike hK, va_Nw.warmM hW hN⟩⟩ rfl rfl hl.1 rfl (lv_room (Nat.le_of_ble_eq_true rfl)) dX2_enter_146 ⟨Nat.le_of_ble_eq_true rfl, Nat.le_of_ble_eq_true rfl⟩)) (fun r15 er15 => ?_)
      subst er15
      refine xw_last hx hb hK hP hD hS (by decide) 1 fg14_w rfl (by omega) (by decide) dX2_enter_149 (fun g16 H locs eg16 hP hS => ?_)
      have fg16_0 : g16 (b1) = .inr (4, [.ref (ad (b1 + 1)), .ref (ad (b1 + 2)), .ref (ad (b1 + 3)), .ref (ad (b1 + 4)), .int (nI (n1)), .int (co1), .long (ow1)]) := (congrFun eg16 (b1)).trans ((va_up_ne _ _ (by omega)).trans fg14_0)
      have fg16_1 : g16 (b1 + 1) = .inl (cI, 5, .inl (fl1)) := (congrFun eg16 (b1 + 1)).trans ((va_up_ne _ _ (by omega)).trans fg14_1)
      have fg16_2 : g16 (b1 + 2) = .inl (cI, 6, .inl (fh1)) := (congrFun eg16 (b1 + 2)).trans ((va_up_ne _ _ (by omega)).trans fg14_2)
      have fg16_3 : g16 (b1 + 3) = .inl (cI, 6, .inl (ft1)) := (congrFun eg16 (b1 + 3)).trans ((va_up_ne _ _ (by omega)).trans fg14_3)
      have fg16_4 : g16 (b1 + 4) = .inl (cJ, 6, .inr (.inl (fs1))) := (congrFun eg16 (b1 + 4)).trans ((va_up_ne _ _ (by omega)).trans fg14_4)
      have fg16_5 : g16 (b2) = .inr (4, [.ref (ad (b2 + 1)), .ref (ad (b2 + 2)), .ref (ad (b2 + 3)), .ref (ad (b2 + 4)), .int (nI (n2)), .int (co2), .long (ow2)]) := (congrFun eg16 (b2)).trans ((va_up_ne _ _ (by omega)).trans fg14_5)
      have fg16_6 : g16 (b2 + 1) = .inl (cI, 5, .inl (fl2)) := (congrFun eg16 (b2 + 1)).trans ((va_up_ne _ _ (by omega)).trans fg14_6)
      have fg16_7 : g16 (b2 + 2) = .inl (cI, 6, .inl (fh2)) := (congrFun eg16 (b2 + 2)).trans ((va_up_ne _ _ (by omega)).trans fg14_7)
      have fg16_8 : g16 (b2 + 3) = .inl (cI, 6, .inl (ft2)) := (congrFun eg16 (b2 + 3)).trans ((va_up_ne _ _ (by omega)).trans fg14_8)
      have fg16_9 : g16 (b2 + 4) = .inl (cJ, 6, .inr (.inl (fs2))) := (congrFun eg16 (b2 + 4)).trans ((va_up_ne _ _ (by omega)).trans fg14_9)
      have fg16_10 : g16 (5) = .inl (cW, 3, .inr (.inr (.inr (.inr (va_up (f5) (1) (some (ad (b1)))))))) := (congrFun eg16 (5)).trans ((va_up_ne _ _ (by decide)).trans fg14_10)
      have fg16_11 : g16 (7) = .inl (cJ, 3, .inr (.inl (vp_updL (f7) (1) (lZ ((sf1 0 : Int)))))) := (congrFun eg16 (7)).trans ((va_up_ne _ _ (by decide)).trans fg14_11)
      have fg16_12 : g16 (4) = .inr (2, [.ref (ad (5)), .ref (ad (6)), .ref (ad (7)), .int (nI (2))]) := (congrFun eg16 (4)).trans ((va_up_ne _ _ (by decide)).trans fg14_12)
      have fg16_w : g16 (6) = .inl (cJ, 9, .inr (.inl (vp_updL (vp_updL (f6) (3) (lZ ((lapS sf1 u2 n2 u1 n1 5 : Int)))) (1) (lZ ((lapS sf2 u1 n1 u2 n2 5 : Int)))))) := (congrFun eg16 (6)).trans (va_up_self _ _ _)
      have hfrg16 : ∀ j : Nat, j ≠ 4 → j ≠ 5 → j ≠ 6 → j ≠ 7 → g16 j = g j := fun j h0 h1 h2 h3 => (congrFun eg16 j).trans ((va_up_ne _ _ h2).trans (hfrg14 j h0 h1 h2 h3))
      refine lv_iinc (v := nI (1)) (lv' := [(3, .int (nI (1))), (4, .ref (ad (b2))), (2, .int (nI (1))), (0, .ref (ad (4))), (1, .ref (ad (b1)))]) hx hb dX2_enter_150 hl (k := 1) rfl (nI_add (0) 1) (by decide) rfl (fun ls hl => ?_)
      refine lv_goto (tgt := 97) hx hb dX2_enter_153 (by decide) ?_
      refine lv_iload_n hx hb dX2_enter_97 rfl (lv_at hl 0 rfl) ?_
      refine lv_aload_n hx hb dX2_enter_98 rfl (lv_at hl 3 rfl) ?_
      refine xw_get hx hb hts hin2 hown hK hP (by decide) fg16_12 rfl 3 (by decide) hf27 rfl rfl dX2_enter_99 ?_
      refine xi_icmp_ge (tgt := 156) hx hb (by decide) (by decide) dX2_enter_102 (by decide) (fun c0 => absurd c0 (by decide)) (fun _ => ?_)
      refine lv_aload_n hx hb dX2_enter_105 rfl (lv_at hl 3 rfl) ?_
      refine xw_get hx hb hts hin2 hown hK hP (by decide) fg16_12 rfl 0 (by decide) hf11 rfl rfl dX2_enter_106 ?_
      refine lv_iload_n hx hb dX2_enter_109 rfl (lv_at hl 0 rfl) ?_
      refine xw_aald hx hb hK hP (by decide) 3 fg16_10 rfl (by omega) (by decide) (v := .ref (ad (b1))) rfl dX2_enter_110 ?_
      refine lv_astore (lv' := [(4, .ref (ad (b1))), (3, .int (nI (1))), (2, .int (nI (1))), (0, .ref (ad (4))), (1, .ref (ad (b1)))]) hx hb dX2_enter_111 hl (by decide) rfl (fun ls hl => ?_)
      refine lv_aload hx hb dX2_enter_113 (lv_at hl 0 rfl) ?_
      refine lv_ifnull hx hb dX2_enter_115 ?_
      refine lv_aload_n hx hb dX2_enter_118 rfl (lv_at hl 3 rfl) ?_
      refine xw_get hx hb hts hin2 hown hK hP (by decide) fg16_12 rfl 1 (by decide) hf17 rfl rfl dX2_enter_119 ?_
      refine lv_iload_n hx hb dX2_enter_122 rfl (lv_at hl 2 rfl) ?_
      refine lv_iconst (v := nI (3)) hx hb dX2_enter_123 (by decide) ?_
      refine xi_mul hx hb dX2_enter_124 ?_
      refine lv_iload_n hx hb dX2_enter_125 rfl (lv_at hl 1 rfl) ?_
      refine xi_add hx hb dX2_enter_126 ?_
      refine lv_aload hx hb dX2_enter_127 (lv_at hl 0 rfl) ?_
      refine lv_aload_n hx hb dX2_enter_129 rfl (lv_at hl 4 rfl) ?_
      refine vp_callSl (va_Run.run (va_runV (As := [.ref (ad (b1))]) (rest := [.int (nI (4)), .ref (ad (6))]) ⟨hx, hb, hml, hown, hts⟩ (mX4_leadOn l (q := q) fg16_0 fg16_3 fg16_0 fg16_2 fg16_4 hq4 hb1 hn1 hu1 hft1 hb1 hn1 hu1 hfh1 hfs1) (cwV 1 hts gX2_enter_X4_leadOn rfl rfl rfl (by decide +kernel) ⟨Nat.le_of_ble_eq_true rfl, Nat.le_of_ble_eq_true rfl⟩) ⟨xB_blind, va_recv hK hP (ci := 4) rfl (xw_is (by omega) fg16_0), fun U hU hW => ⟨rfl, by rw [hU]; exact hP, va_K.moved hW.alike hK, va_Nw.warmM hW hN⟩⟩ rfl rfl hl.1 rfl (lv_room (Nat.le_of_ble_eq_true rfl)) dX2_enter_130 ⟨Nat.le_of_ble_eq_true rfl, Nat.le_of_ble_eq_true rfl⟩)) (fun r18 er18 => ?_)
      subst er18
      refine xw_last hx hb hK hP hD hS (by decide) 1 fg16_w rfl (by omega) (by decide) dX2_enter_133 (fun g19 H locs eg19 hP hS => ?_)
      have fg19_0 : g19 (b1) = .inr (4, [.ref (ad (b1 + 1)), .ref (ad (b1 + 2)), .ref (ad (b1 + 3)), .ref (ad (b1 + 4)), .int (nI (n1)), .int (co1), .long (ow1)]) := (congrFun eg19 (b1)).trans ((va_up_ne _ _ (by omega)).trans fg16_0)
      have fg19_1 : g19 (b1 + 1) = .inl (cI, 5, .inl (fl1)) := (congrFun eg19 (b1 + 1)).trans ((va_up_ne _ _ (by omega)).trans fg16_1)
      have fg19_2 : g19 (b1 + 2) = .inl (cI, 6, .inl (fh1)) := (congrFun eg19 (b1 + 2)).trans ((va_up_ne _ _ (by omega)).trans fg16_2)
      have fg19_3 : g19 (b1 + 3) = .inl (cI, 6, .inl (ft1)) := (congrFun eg19 (b1 + 3)).trans ((va_up_ne _ _ (by omega)).trans fg16_3)
      have fg19_4 : g19 (b1 + 4) = .inl (cJ, 6, .inr (.inl (fs1))) := (congrFun eg19 (b1 + 4)).trans ((va_up_ne _ _ (by omega)).trans fg16_4)
      have fg19_5 : g19 (b2) = .inr (4, [.ref (ad (b2 + 1)), .ref (ad (b2 + 2)), .ref (ad (b2 + 3)), .ref (ad (b2 + 4)), .int (nI (n2)), .int (co2), .long (ow2)]) := (congrFun eg19 (b2)).trans ((va_up_ne _ _ (by omega)).trans fg16_5)
      have fg19_6 : g19 (b2 + 1) = .inl (cI, 5, .inl (fl2)) := (congrFun eg19 (b2 + 1)).trans ((va_up_ne _ _ (by omega)).trans fg16_6)
      have fg19_7 : g19 (b2 + 2) = .inl (cI, 6, .inl (fh2)) := (congrFun eg19 (b2 + 2)).trans ((va_up_ne _ _ (by omega)).trans fg16_7)
      have fg19_8 : g19 (b2 + 3) = .inl (cI, 6, .inl (ft2)) := (congrFun eg19 (b2 + 3)).trans ((va_up_ne _ _ (by omega)).trans fg16_8)
      have fg19_9 : g19 (b2 + 4) = .inl (cJ, 6, .inr (.inl (fs2))) := (congrFun eg19 (b2 + 4)).trans ((va_up_ne _ _ (by omega)).trans fg16_9)
      have fg19_10 : g19 (5) = .inl (cW, 3, .inr (.inr (.inr (.inr (va_up (f5) (1) (some (ad (b1)))))))) := (congrFun eg19 (5)).trans ((va_up_ne _ _ (by decide)).trans fg16_10)
      have fg19_11 : g19 (7) = .inl (cJ, 3, .inr (.inl (vp_updL (f7) (1) (lZ ((sf1 0 : Int)))))) := (congrFun eg19 (7)).trans ((va_up_ne _ _ (by decide)).trans fg16_11)
      have fg19_12 : g19 (4) = .inr (2, [.ref (ad (5)), .ref (ad (6)), .ref (ad (7)), .int (nI (2))]) := (congrFun eg19 (4)).trans ((va_up_ne _ _ (by decide)).trans fg16_12)
      have fg19_w : g19 (6) = .inl (cJ, 9, .inr (.inl (vp_updL (vp_updL (vp_updL (f6) (3) (lZ ((lapS sf1 u2 n2 u1 n1 5 : Int)))) (1) (lZ ((lapS sf2 u1 n1 u2 n2 5 : Int)))) (4) (lZ ((lapS sf1 u1 n1 u1 n1 5 : Int)))))) := (congrFun eg19 (6)).trans (va_up_self _ _ _)
      have hfrg19 : ∀ j : Nat, j ≠ 4 → j ≠ 5 → j ≠ 6 → j ≠ 7 → g19 j = g j := fun j h0 h1 h2 h3 => (congrFun eg19 j).trans ((va_up_ne _ _ h2).trans (hfrg16 j h0 h1 h2 h3))
      refine lv_aload_n hx hb dX2_enter_134 rfl (lv_at hl 3 rfl) ?_
      refine xw_get hx hb hts hin2 hown hK hP (by decide) fg19_12 rfl 1 (by decide) hf17 rfl rfl dX2_enter_135 ?_
      refine lv_iload_n hx hb dX2_enter_138 rfl (lv_at hl 1 rfl) ?_
      refine lv_iconst (v := nI (3)) hx hb dX2_enter_139 (by decide) ?_
      refine xi_mul hx hb dX2_enter_140 ?_
      refine lv_iload_n hx hb dX2_enter_141 rfl (lv_at hl 2 rfl) ?_
      refine xi_add hx hb dX2_enter_142 ?_
      refine lv_aload_n hx hb dX2_enter_143 rfl (lv_at hl 4 rfl) ?_
      refine lv_aload hx hb dX2_enter_144 (lv_at hl 0 rfl) ?_
      refine vp_callSl (va_Run.run (va_runV (As := [.ref (ad (b1))]) (rest := [.int (nI (4)), .ref (ad (6))]) ⟨hx, hb, hml, hown, hts⟩ (mX4_leadOn l (q := q) fg19_0 fg19_3 fg19_0 fg19_2 fg19_4 hq4 hb1 hn1 hu1 hft1 hb1 hn1 hu1 hfh1 hfs1) (cwV 1 hts gX2_enter_X4_leadOn rfl rfl rfl (by decide +kernel) ⟨Nat.le_of_ble_eq_true rfl, Nat.le_of_ble_eq_true rfl⟩) ⟨xB_blind, va_recv hK hP (ci := 4) rfl (xw_is (by omega) fg19_0), fun U hU hW => ⟨rfl, by rw [hU]; exact hP, va_K.moved hW.alike hK, va_Nw.warmM hW hN⟩⟩ rfl rfl hl.1 rfl (lv_room (Nat.le_of_ble_eq_true rfl)) dX2_enter_146 ⟨Nat.le_of_ble_eq_true rfl, Nat.le_of_ble_eq_true rfl⟩)) (fun r20 er20 => ?_)
      subst er20
      refine xw_last hx hb hK hP hD hS (by decide) 1 fg19_w rfl (by omega) (by decide) dX2_enter_149 (fun g21 H locs eg21 hP hS => ?_)
      have fg21_0 : g21 (b1) = .inr (4, [.ref (ad (b1 + 1)), .ref (ad (b1 + 2)), .ref (ad (b1 + 3)), .ref (ad (b1 + 4)), .int (nI (n1)), .int (co1), .long (ow1)]) := (congrFun eg21 (b1)).trans ((va_up_ne _ _ (by omega)).trans fg19_0)
      have fg21_1 : g21 (b1 + 1) = .inl (cI, 5, .inl (fl1)) := (congrFun eg21 (b1 + 1)).trans ((va_up_ne _ _ (by omega)).trans fg19_1)
      have fg21_2 : g21 (b1 + 2) = .inl (cI, 6, .inl (fh1)) := (congrFun eg21 (b1 + 2)).trans ((va_up_ne _ _ (by omega)).trans fg19_2)
      have fg21_3 : g21 (b1 + 3) = .inl (cI, 6, .inl (ft1)) := (congrFun eg21 (b1 + 3)).trans ((va_up_ne _ _ (by omega)).trans fg19_3)
      have fg21_4 : g21 (b1 + 4) = .inl (cJ, 6, .inr (.inl (fs1))) := (congrFun eg21 (b1 + 4)).trans ((va_up_ne _ _ (by omega)).trans fg19_4)
      have fg21_5 : g21 (b2) = .inr (4, [.ref (ad (b2 + 1)), .ref (ad (b2 + 2)), .ref (ad (b2 + 3)), .ref (ad (b2 + 4)), .int (nI (n2)), .int (co2), .long (ow2)]) := (congrFun eg21 (b2)).trans ((va_up_ne _ _ (by omega)).trans fg19_5)
      have fg21_6 : g21 (b2 + 1) = .inl (cI, 5, .inl (fl2)) := (congrFun eg21 (b2 + 1)).trans ((va_up_ne _ _ (by omega)).trans fg19_6)
      have fg21_7 : g21 (b2 + 2) = .inl (cI, 6, .inl (fh2)) := (congrFun eg21 (b2 + 2)).trans ((va_up_ne _ _ (by omega)).trans fg19_7)
      have fg21_8 : g21 (b2 + 3) = .inl (cI, 6, .inl (ft2)) := (congrFun eg21 (b2 + 3)).trans ((va_up_ne _ _ (by omega)).trans fg19_8)
      have fg21_9 : g21 (b2 + 4) = .inl (cJ, 6, .inr (.inl (fs2))) := (congrFun eg21 (b2 + 4)).trans ((va_up_ne _ _ (by omega)).trans fg19_9)
      have fg21_10 : g21 (5) = .inl (cW, 3, .inr (.inr (.inr (.inr (va_up (f5) (1) (some (ad (b1)))))))) := (congrFun eg21 (5)).trans ((va_up_ne _ _ (by decide)).trans fg19_10)
      have fg21_11 : g21 (7) = .inl (cJ, 3, .inr (.inl (vp_updL (f7) (1) (lZ ((sf1 0 : Int)))))) := (congrFun eg21 (7)).trans ((va_up_ne _ _ (by decide)).trans fg19_11)
      have fg21_12 : g21 (4) = .inr (2, [.ref (ad (5)), .ref (ad (6)), .ref (ad (7)), .int (nI (2))]) := (congrFun eg21 (4)).trans ((va_up_ne _ _ (by decide)).trans fg19_12)
      have fg21_w : g21 (6) = .inl (cJ, 9, .inr (.inl (vp_updL (vp_updL (vp_updL (vp_updL (f6) (3) (lZ ((lapS sf1 u2 n2 u1 n1 5 : Int)))) (1) (lZ ((lapS sf2 u1 n1 u2 n2 5 : Int)))) (4) (lZ ((lapS sf1 u1 n1 u1 n1 5 : Int)))) (4) (lZ ((lapS sf1 u1 n1 u1 n1 5 : Int)))))) := (congrFun eg21 (6)).trans (va_up_self _ _ _)
      have hfrg21 : ∀ j : Nat, j ≠ 4 → j ≠ 5 → j ≠ 6 → j ≠ 7 → g21 j = g j := fun j h0 h1 h2 h3 => (congrFun eg21 j).trans ((va_up_ne _ _ h2).trans (hfrg19 j h0 h1 h2 h3))
      refine lv_iinc (v := nI (2)) (lv' := [(3, .int (nI (2))), (4, .ref (ad (b1))), (2, .int (nI (1))), (0, .ref (ad (4))), (1, .ref (ad (b1)))]) hx hb dX2_enter_150 hl (k := 1) rfl (nI_add (1) 1) (by decide) rfl (fun ls hl => ?_)
      refine lv_goto (tgt := 97) hx hb dX2_enter_153 (by decide) ?_
      refine lv_iload_n hx hb dX2_enter_97 rfl (lv_at hl 0 rfl) ?_
      refine lv_aload_n hx hb dX2_enter_98 rfl (lv_at hl 3 rfl) ?_
      refine xw_get hx hb hts hin2 hown hK hP (by decide) fg21_12 rfl 3 (by decide) hf27 rfl rfl dX2_enter_99 ?_
      refine xi_icmp_ge (tgt := 156) hx hb (by decide) (by decide) dX2_enter_102 (by decide) (fun _ => ?_) (fun c0 => absurd c0 (by decide))
      refine lv_iconst (v := nI (1)) hx hb dX2_enter_156 (by decide) ?_
      exact W.zret (v := nI (1)) hx hb hr (by decide) (fun tZ ht hW => ⟨⟨_, g21, rfl, Or.inl ⟨rfl, (fun h => h.elim c36_4 c44_6), fg21_12, fg21_10, fg21_w, fg21_11, hfrg21⟩, by rw [ht]; exact hP, va_K.moved hW.alike hK, va_Nw.warmM hW hN⟩, hS.F ht⟩) hS.2.2 dX2_enter_157
    · refine lv_iconst (v := nI (0)) hx hb dX2_enter_47 (by decide) ?_
      exact W.zret (v := nI (0)) hx hb hr (by decide) (fun tZ ht hW => ⟨⟨_, g, rfl, Or.inr ⟨rfl, (Or.inr c44_6), rfl⟩, by rw [ht]; exact hP, va_K.moved hW.alike hK, va_Nw.warmM hW hN⟩, hS.F ht⟩) hS.2.2 dX2_enter_48

set_option maxHeartbeats 4000000 in
set_option maxRecDepth 100000 in
/-- Race.enter, 2 runners -/
theorem mX2_enter2 (l : Launch) {D : va_G} {cI cJ cZ cW : ClassId} {ad : Nat → Nat} {A : Nat → Prop} (hD : ∀ g, va_D A (xw 81 ad g)) {g : Nat → va_E} {q : Nat} {f5 : Nat → Option Nat} {f6 f7 : Nat → Int64} {b1 n1 : Nat} {u1 : Nat → Nat} {co1 : Int32} {ow1 : Int64} {fl1 : Nat → Int32} {fh1 : Nat → Int32} {ft1 : Nat → Int32} {fs1 : Nat → Int64} {sf1 : Nat → Nat} {b2 n2 : Nat} {u2 : Nat → Nat} {co2 : Int32} {ow2 : Int64} {fl2 : Nat → Int32} {fh2 : Nat → Int32} {ft2 : Nat → Int32} {fs2 : Nat → Int64} {sf2 : Nat → Nat} {b3 n3 : Nat} {u3 : Nat → Nat} {co3 : Int32} {ow3 : Int64} {fl3 : Nat → Int32} {fh3 : Nat → Int32} {ft3 : Nat → Int32} {fs3 : Nat → Int64} {sf3 : Nat → Nat}  (fo4 : g (4) = .inr (2, [.ref (ad (5)), .ref (ad (6)), .ref (ad (7)), .int (nI (2))])) (fa5 : g (5) = .inl (cW, 3, .inr (.inr (.inr (.inr (f5)))))) (fa6 : g (6) = .inl (cJ, 9, .inr (.inl (f6)))) (fa7 : g (7) = .inl (cJ, 3, .inr (.inl (f7)))) (fo1 : g (b1) = .inr (4, [.ref (ad (b1 + 1)), .ref (ad (b1 + 2)), .ref (ad (b1 + 3)), .ref (ad (b1 + 4)), .int (nI (n1)), .int (co1), .long (ow1)])) (fal1 : g (b1 + 1) = .inl (cI, 5, .inl (fl1))) (fah1 : g (b1 + 2) = .inl (cI, 6, .inl (fh1))) (fat1 : g (b1 + 3) = .inl (cI, 6, .inl (ft1))) (fas1 : g (b1 + 4) = .inl (cJ, 6, .inr (.inl (fs1)))) (fo2 : g (b2) = .inr (4, [.ref (ad (b2 + 1)), .ref (ad (b2 + 2)), .ref (ad (b2 + 3)), .ref (ad (b2 + 4)), .int (nI (n2)), .int (co2), .long (ow2)])) (fal2 : g (b2 + 1) = .inl (cI, 5, .inl (fl2))) (fah2 : g (b2 + 2) = .inl (cI, 6, .inl (fh2))) (fat2 : g (b2 + 3) = .inl (cI, 6, .inl (ft2))) (fas2 : g (b2 + 4) = .inl (cJ, 6, .inr (.inl (fs2)))) (fo3 : g (b3) = .inr (4, [.ref (ad (b3 + 1)), .ref (ad (b3 + 2)), .ref (ad (b3 + 3)), .ref (ad (b3 + 4)), .int (nI (n3)), .int (co3), .long (ow3)])) (fal3 : g (b3 + 1) = .inl (cI, 5, .inl (fl3))) (fah3 : g (b3 + 2) = .inl (cI, 6, .inl (fh3))) (fat3 : g (b3 + 3) = .inl (cI, 6, .inl (ft3))) (fas3 : g (b3 + 4) = .inl (cJ, 6, .inr (.inl (fs3)))) (hq4 : q ≤ 4) (hb1 : b1 + 4 < 81) (hn1 : n1 ≤ 5) (hu1 : ∀ j, j < n1 → u1 j < q) (hfl1 : ∀ j, j < n1 → fl1 j = nI (u1 j)) (hfh1 : ∀ k, k ≤ n1 → fh1 k = nI (px q u1 k)) (hft1 : ∀ k, k ≤ n1 → ft1 k = nI (px q (fun j => u1 (n1 - k + j)) k)) (hfs1 : ∀ k, k ≤ n1 → fs1 k = lZ (sf1 k : Int)) (hb171 : 17 ≤ b1) (hb2 : b2 + 4 < 81) (hn2 : n2 ≤ 5) (hu2 : ∀ j, j < n2 → u2 j < q) (hfl2 : ∀ j, j < n2 → fl2 j = nI (u2 j)) (hfh2 : ∀ k, k ≤ n2 → fh2 k = nI (px q u2 k)) (hft2 : ∀ k, k ≤ n2 → ft2 k = nI (px q (fun j => u2 (n2 - k + j)) k)) (hfs2 : ∀ k, k ≤ n2 → fs2 k = lZ (sf2 k : Int)) (hb172 : 17 ≤ b2) (hb3 : b3 + 4 < 81) (hn3 : n3 ≤ 5) (hu3 : ∀ j, j < n3 → u3 j < q) (hfl3 : ∀ j, j < n3 → fl3 j = nI (u3 j)) (hfh3 : ∀ k, k ≤ n3 → fh3 k = nI (px q u3 k)) (hft3 : ∀ k, k ≤ n3 → ft3 k = nI (px q (fun j => u3 (n3 - k + j)) k)) (hfs3 : ∀ k, k ≤ n3 → fs3 k = lZ (sf3 k : Int)) (hb173 : 17 ≤ b3) (hr0 : f5 0 = some (ad b2)) (hr1 : f5 1 = some (ad b3)) : Met l yX2_enter wsX2_enter ({ frames := 2, cells := 0, slots := 0, locals := 47 }) (va_Pc [.ref (ad (4)), .ref (ad (b1))] (xB D (xT cI cJ cZ cW) ad g)) (va_Qi (fun r g2 => (r = nI 1 ∧ ¬ ((liesW u1 n1 u2 n2 ∨ liesW u2 n2 u1 n1) ∨ (liesW u1 n1 u3 n3 ∨ liesW u3 n3 u1 n1)) ∧ g2 4 = .inr (2, [.ref (ad (5)), .ref (ad (6)), .ref (ad (7)), .int (nI (3))]) ∧ g2 5 = .inl (cW, 3, .inr (.inr (.inr (.inr (va_up (f5) (2) (some (ad (b1)))))))) ∧ g2 6 = .inl (cJ, 9, .inr (.inl (vp_updL (vp_updL (vp_updL (vp_updL (vp_updL (vp_updL (f6) (6) (lZ ((lapS sf1 u2 n2 u1 n1 5 : Int)))) (2) (lZ ((lapS sf2 u1 n1 u2 n2 5 : Int)))) (7) (lZ ((lapS sf1 u3 n3 u1 n1 5 : Int)))) (5) (lZ ((lapS sf3 u1 n1 u3 n3 5 : Int)))) (8) (lZ ((lapS sf1 u1 n1 u1 n1 5 : Int)))) (8) (lZ ((lapS sf1 u1 n1 u1 n1 5 : Int)))))) ∧ g2 7 = .inl (cJ, 3, .inr (.inl (vp_updL (f7) (2) (lZ ((sf1 0 : Int)))))) ∧ ∀ j : Nat, j ≠ 4 → j ≠ 5 → j ≠ 6 → j ≠ 7 → g2 j = g j) ∨ (r = nI 0 ∧ ((liesW u1 n1 u2 n2 ∨ liesW u2 n2 u1 n1) ∨ (liesW u1 n1 u3 n3 ∨ liesW u3 n3 u1 n1)) ∧ g2 = g)) (xB D (xT cI cJ cZ cW) ad) A) 0 0 A := by
  refine Met.ofW (cc := cX2_enter) (maxL := 5) (ret := (some .boolean)) (by decide) rfl ?_
  intro p e s m args below meth c s₁ B hml hv
  obtain ⟨rfl, hP, hK, hN⟩ := hv
  have hx := B.exec
  have hb := B.bytes
  have hr := B.returns
  have hts := atoms_spec (ws := wsX2_enter) B.pre
  have hown : s.vm.findClass RX2 = some m.cls := findClass_of_methodNamed B.named
  have hlocks := B.notSynchronized
  have hS : va_S A s.heap s.heap [] := va_S.rf
  have hin2 : ∀ w ∈ wsX20, w ∈ wsX2_enter := by decide +kernel
  have hf11 := hts (.fieldLink RX2 11 "LettersByLot$Race" "runners" "[LLettersByLot$Word;") (by decide +kernel)
  have hf17 := hts (.fieldLink RX2 17 "LettersByLot$Race" "leads" "[J") (by decide +kernel)
  have hf21 := hts (.fieldLink RX2 21 "LettersByLot$Race" "asked" "[J") (by decide +kernel)
  have hf27 := hts (.fieldLink RX2 27 "LettersByLot$Race" "size" "I") (by decide +kernel)
  have hl := lv_entry ([.ref (ad (4)), .ref (ad (b1))]) (n := 5) (Nat.le_of_ble_eq_true rfl)
  rw [lg_entry_eq]
  generalize (lg_sl ([.ref (ad (4)), .ref (ad (b1))]) ++ List.replicate (5 - (lg_sl ([.ref (ad (4)), .ref (ad (b1))])).length) Slot.unset).toArray = ls at hl ⊢
  have hl : lv_has ls 5 [(0, .ref (ad (4))), (1, .ref (ad (b1)))] := hl
  refine lv_aload_n hx hb dX2_enter_0 rfl (lv_at hl 0 rfl) ?_
  refine xw_get hx hb hts hin2 hown hK hP (by decide) fo4 rfl 3 (by decide) hf27 rfl rfl dX2_enter_1 ?_
  refine lv_iconst (v := nI (3)) hx hb dX2_enter_4 (by decide) ?_
  refine xi_icmp_lt (tgt := 10) hx hb (by decide) (by decide) dX2_enter_5 (by decide) (fun _ => ?_) (fun c0 => absurd c0 (by decide))
  refine lv_iconst (v := nI (0)) hx hb dX2_enter_10 (by decide) ?_
  refine lv_istore_n (lv' := [(2, .int (nI (0))), (0, .ref (ad (4))), (1, .ref (ad (b1)))]) hx hb dX2_enter_11 rfl hl (by decide) rfl (fun ls hl => ?_)
  refine lv_iload_n hx hb dX2_enter_12 rfl (lv_at hl 0 rfl) ?_
  refine lv_aload_n hx hb dX2_enter_13 rfl (lv_at hl 1 rfl) ?_
  refine xw_get hx hb hts hin2 hown hK hP (by decide) fo4 rfl 3 (by decide) hf27 rfl rfl dX2_enter_14 ?_
  refine xi_icmp_ge (tgt := 55) hx hb (by decide) (by decide) dX2_enter_17 (by decide) (fun c0 => absurd c0 (by decide)) (fun _ => ?_)
  refine lv_aload_n hx hb dX2_enter_20 rfl (lv_at hl 1 rfl) ?_
  refine xw_get hx hb hts hin2 hown hK hP (by decide) fo4 rfl 0 (by decide) hf11 rfl rfl dX2_enter_21 ?_
  refine lv_iload_n hx hb dX2_enter_24 rfl (lv_at hl 0 rfl) ?_
  refine xw_aald hx hb hK hP (by decide) 3 fa5 rfl (by omega) (by decide) (v := .ref (ad (b2))) (by rw [hr0]; rfl) dX2_enter_25 ?_
  refine lv_astore_n (lv' := [(3, .ref (ad (b2))), (2, .int (nI (0))), (0, .ref (ad (4))), (1, .ref (ad (b1)))]) hx hb dX2_enter_26 rfl hl (by decide) rfl (fun ls hl => ?_)
  refine lv_aload_n hx hb dX2_enter_27 rfl (lv_at hl 0 rfl) ?_
  refine lv_ifnull hx hb dX2_enter_28 ?_
  refine lv_aload_n hx hb dX2_enter_31 rfl (lv_at hl 3 rfl) ?_
  refine lv_aload_n hx hb dX2_enter_32 rfl (lv_at hl 0 rfl) ?_
  refine vp_callSi (va_Run.run (va_runV (As := [.ref (ad (b2))]) (rest := []) ⟨hx, hb, hml, hown, hts⟩ (mX4_liesWithin l (q := q) fo1 fal1 fo2 fal2 hq4 hb1 hn1 hu1 hfl1 hb2 hn2 hu2 hfl2) (cwV 1 hts gX2_enter_X4_liesWithin rfl rfl rfl (by decide +kernel) ⟨Nat.le_of_ble_eq_true rfl, Nat.le_of_ble_eq_true rfl⟩) ⟨xB_blind, va_recv hK hP (ci := 4) rfl (xw_is (by omega) fo1), fun U hU hW => ⟨rfl, by rw [hU]; exact hP, va_K.moved hW.alike hK, va_Nw.warmM hW hN⟩⟩ rfl rfl hl.1 rfl (lv_room (Nat.le_of_ble_eq_true rfl)) dX2_enter_33 ⟨Nat.le_of_ble_eq_true rfl, Nat.le_of_ble_eq_true rfl⟩)) (fun r3 er3 => ?_)
  subst er3
  refine xb_if_ne (tgt := 47) hx hb dX2_enter_36 (by decide) (fun c36_4 => ?_) (fun c36_4 => ?_)
  · refine lv_iconst (v := nI (0)) hx hb dX2_enter_47 (by decide) ?_
    exact W.zret (v := nI (0)) hx hb hr (by decide) (fun tZ ht hW => ⟨⟨_, g, rfl, Or.inr ⟨rfl, (Or.inl (Or.inl c36_4)), rfl⟩, by rw [ht]; exact hP, va_K.moved hW.alike hK, va_Nw.warmM hW hN⟩, hS.F ht⟩) hS.2.2 dX2_enter_48
  · refine lv_aload_n hx hb dX2_enter_39 rfl (lv_at hl 0 rfl) ?_
    refine lv_aload_n hx hb dX2_enter_40 rfl (lv_at hl 3 rfl) ?_
    refine vp_callSi (va_Run.run (va_runV (As := [.ref (ad (b1))]) (rest := []) ⟨hx, hb, hml, hown, hts⟩ (mX4_liesWithin l (q := q) fo2 fal2 fo1 fal1 hq4 hb2 hn2 hu2 hfl2 hb1 hn1 hu1 hfl1) (cwV 1 hts gX2_enter_X4_liesWithin rfl rfl rfl (by decide +kernel) ⟨Nat.le_of_ble_eq_true rfl, Nat.le_of_ble_eq_true rfl⟩) ⟨xB_blind, va_recv hK hP (ci := 4) rfl (xw_is (by omega) fo2), fun U hU hW => ⟨rfl, by rw [hU]; exact hP, va_K.moved hW.alike hK, va_Nw.warmM hW hN⟩⟩ rfl rfl hl.1 rfl (lv_room (Nat.le_of_ble_eq_true rfl)) dX2_enter_41 ⟨Nat.le_of_ble_eq_true rfl, Nat.le_of_ble_eq_true rfl⟩)) (fun r5 er5 => ?_)
    subst er5
    refine xb_if_eq (tgt := 49) hx hb dX2_enter_44 (by decide) (fun c44_6 => ?_) (fun c44_6 => ?_)
    · refine lv_iinc (v := nI (1)) (lv' := [(2, .int (nI (1))), (3, .ref (ad (b2))), (0, .ref (ad (4))), (1, .ref (ad (b1)))]) hx hb dX2_enter_49 hl (k := 1) rfl (nI_add (0) 1) (by decide) rfl (fun ls hl => ?_)
      refine lv_goto (tgt := 12) hx hb dX2_enter_52 (by decide) ?_
      refine lv_iload_n hx hb dX2_enter_12 rfl (lv_at hl 0 rfl) ?_
      refine lv_aload_n hx hb dX2_enter_13 rfl (lv_at hl 2 rfl) ?_
      refine xw_get hx hb hts hin2 hown hK hP (by decide) fo4 rfl 3 (by decide) hf27 rfl rfl dX2_enter_14 ?_
      refine xi_icmp_ge (tgt := 55) hx hb (by decide) (by decide) dX2_enter_17 (by decide) (fun c0 => absurd c0 (by decide)) (fun _ => ?_)
      refine lv_aload_n hx hb dX2_enter_20 rfl (lv_at hl 2 rfl) ?_
      refine xw_get hx hb hts hin2 hown hK hP (by decide) fo4 rfl 0 (by decide) hf11 rfl rfl dX2_enter_21 ?_
      refine lv_iload_n hx hb dX2_enter_24 rfl (lv_at hl 0 rfl) ?_
      refine xw_aald hx hb hK hP (by decide) 3 fa5 rfl (by omega) (by decide) (v := .ref (ad (b3))) (by rw [hr1]; rfl) dX2_enter_25 ?_
      refine lv_astore_n (lv' := [(3, .ref (ad (b3))), (2, .int (nI (1))), (0, .ref (ad (4))), (1, .ref (ad (b1)))]) hx hb dX2_enter_26 rfl hl (by decide) rfl (fun ls hl => ?_)
      refine lv_aload_n hx hb dX2_enter_27 rfl (lv_at hl 0 rfl) ?_
      refine lv_ifnull hx hb dX2_enter_28 ?_
      refine lv_aload_n hx hb dX2_enter_31 rfl (lv_at hl 3 rfl) ?_
      refine lv_aload_n hx hb dX2_enter_32 rfl (lv_at hl 0 rfl) ?_
      refine vp_callSi (va_Run.run (va_runV (As := [.ref (ad (b3))]) (rest := []) ⟨hx, hb, hml, hown, hts⟩ (mX4_liesWithin l (q := q) fo1 fal1 fo3 fal3 hq4 hb1 hn1 hu1 hfl1 hb3 hn3 hu3 hfl3) (cwV 1 hts gX2_enter_X4_liesWithin rfl rfl rfl (by decide +kernel) ⟨Nat.le_of_ble_eq_true rfl, Nat.le_of_ble_eq_true rfl⟩) ⟨xB_blind, va_recv hK hP (ci := 4) rfl (xw_is (by omega) fo1), fun U hU hW => ⟨rfl, by rw [hU]; exact hP, va_K.moved hW.alike hK, va_Nw.warmM hW hN⟩⟩ rfl rfl hl.1 rfl (lv_room (Nat.le_of_ble_eq_true rfl)) dX2_enter_33 ⟨Nat.le_of_ble_eq_true rfl, Nat.le_of_ble_eq_true rfl⟩)) (fun r8 er8 => ?_)
      subst er8
      refine xb_if_ne (tgt := 47) hx hb dX2_enter_36 (by decide) (fun c36_9 => ?_) (fun c36_9 => ?_)
      · refine lv_iconst (v := nI (0)) hx hb dX2_enter_47 (by decide) ?_
        exact W.zret (v := nI (0)) hx hb hr (by decide) (fun tZ ht hW => ⟨⟨_, g, rfl, Or.inr ⟨rfl, (Or.inr (Or.inl c36_9)), rfl⟩, by rw [ht]; exact hP, va_K.moved hW.alike hK, va_Nw.warmM hW hN⟩, hS.F ht⟩) hS.2.2 dX2_enter_48
      · refine lv_aload_n hx hb dX2_enter_39 rfl (lv_at hl 0 rfl) ?_
        refine lv_aload_n hx hb dX2_enter_40 rfl (lv_at hl 3 rfl) ?_
        refine vp_callSi (va_Run.run (va_runV (As := [.ref (ad (b1))]) (rest := []) ⟨hx, hb, hml, hown, hts⟩ (mX4_liesWithin l (q := q) fo3 fal3 fo1 fal1 hq4 hb3 hn3 hu3 hfl3 hb1 hn1 hu1 hfl1) (cwV 1 hts gX2_enter_X4_liesWithin rfl rfl rfl (by decide +kernel) ⟨Nat.le_of_ble_eq_true rfl, Nat.le_of_ble_eq_true rfl⟩) ⟨xB_blind, va_recv hK hP (ci := 4) rfl (xw_is (by omega) fo3), fun U hU hW => ⟨rfl, by rw [hU]; exact hP, va_K.moved hW.alike hK, va_Nw.warmM hW hN⟩⟩ rfl rfl hl.1 rfl (lv_room (Nat.le_of_ble_eq_true rfl)) dX2_enter_41 ⟨Nat.le_of_ble_eq_true rfl, Nat.le_of_ble_eq_true rfl⟩)) (fun r10 er10 => ?_)
        subst er10
        refine xb_if_eq (tgt := 49) hx hb dX2_enter_44 (by decide) (fun c44_11 => ?_) (fun c44_11 => ?_)
        · refine lv_iinc (v := nI (2)) (lv' := [(2, .int (nI (2))), (3, .ref (ad (b3))), (0, .ref (ad (4))), (1, .ref (ad (b1)))]) hx hb dX2_enter_49 hl (k := 1) rfl (nI_add (1) 1) (by decide) rfl (fun ls hl => ?_)
          refine lv_goto (tgt := 12) hx hb dX2_enter_52 (by decide) ?_
          refine lv_iload_n hx hb dX2_enter_12 rfl (lv_at hl 0 rfl) ?_
          refine lv_aload_n hx hb dX2_enter_13 rfl (lv_at hl 2 rfl) ?_
          refine xw_get hx hb hts hin2 hown hK hP (by decide) fo4 rfl 3 (by decide) hf27 rfl rfl dX2_enter_14 ?_
          refine xi_icmp_ge (tgt := 55) hx hb (by decide) (by decide) dX2_enter_17 (by decide) (fun _ => ?_) (fun c0 => absurd c0 (by decide))
          refine lv_aload_n hx hb dX2_enter_55 rfl (lv_at hl 2 rfl) ?_
          refine xw_get hx hb hts hin2 hown hK hP (by decide) fo4 rfl 0 (by decide) hf11 rfl rfl dX2_enter_56 ?_
          refine lv_aload_n hx hb dX2_enter_59 rfl (lv_at hl 2 rfl) ?_
          refine xw_get hx hb hts hin2 hown hK hP (by decide) fo4 rfl 3 (by decide) hf27 rfl rfl dX2_enter_60 ?_
          refine lv_aload_n hx hb dX2_enter_63 rfl (lv_at hl 3 rfl) ?_
          refine xw_aast hx hb hK hP hD hS (by decide) 3 (by omega) 4 fa5 rfl fo1 rfl (by omega) (by decide) dX2_enter_64 (fun g13 H locs eg13 hP hS => ?_)
          have fg13_0 : g13 (4) = .inr (2, [.ref (ad (5)), .ref (ad (6)), .ref (ad (7)), .int (nI (2))]) := (congrFun eg13 (4)).trans ((va_up_ne _ _ (by decide)).trans fo4)
          have fg13_1 : g13 (6) = .inl (cJ, 9, .inr (.inl (f6))) := (congrFun eg13 (6)).trans ((va_up_ne _ _ (by decide)).trans fa6)
          have fg13_2 : g13 (7) = .inl (cJ, 3, .inr (.inl (f7))) := (congrFun eg13 (7)).trans ((va_up_ne _ _ (by decide)).trans fa7)
          have fg13_3 : g13 (b1) = .inr (4, [.ref (ad (b1 + 1)), .ref (ad (b1 + 2)), .ref (ad (b1 + 3)), .ref (ad (b1 + 4)), .int (nI (n1)), .int (co1), .long (ow1)]) := (congrFun eg13 (b1)).trans ((va_up_ne _ _ (by omega)).trans fo1)
          have fg13_4 : g13 (b1 + 1) = .inl (cI, 5, .inl (fl1)) := (congrFun eg13 (b1 + 1)).trans ((va_up_ne _ _ (by omega)).trans fal1)
          have fg13_5 : g13 (b1 + 2) = .inl (cI, 6, .inl (fh1)) := (congrFun eg13 (b1 + 2)).trans ((va_up_ne _ _ (by omega)).trans fah1)
          have fg13_6 : g13 (b1 + 3) = .inl (cI, 6, .inl (ft1)) := (congrFun eg13 (b1 + 3)).trans ((va_up_ne _ _ (by omega)).trans fat1)
          have fg13_7 : g13 (b1 + 4) = .inl (cJ, 6, .inr (.inl (fs1))) := (congrFun eg13 (b1 + 4)).trans ((va_up_ne _ _ (by omega)).trans fas1)
          have fg13_8 : g13 (b2) = .inr (4, [.ref (ad (b2 + 1)), .ref (ad (b2 + 2)), .ref (ad (b2 + 3)), .ref (ad (b2 + 4)), .int (nI (n2)), .int (co2), .long (ow2)]) := (congrFun eg13 (b2)).trans ((va_up_ne _ _ (by omega)).trans fo2)
          have fg13_9 : g13 (b2 + 1) = .inl (cI, 5, .inl (fl2)) := (congrFun eg13 (b2 + 1)).trans ((va_up_ne _ _ (by omega)).trans fal2)
          have fg13_10 : g13 (b2 + 2) = .inl (cI, 6, .inl (fh2)) := (congrFun eg13 (b2 + 2)).trans ((va_up_ne _ _ (by omega)).trans fah2)
          have fg13_11 : g13 (b2 + 3) = .inl (cI, 6, .inl (ft2)) := (congrFun eg13 (b2 + 3)).trans ((va_up_ne _ _ (by omega)).trans fat2)
          have fg13_12 : g13 (b2 + 4) = .inl (cJ, 6, .inr (.inl (fs2))) := (congrFun eg13 (b2 + 4)).trans ((va_up_ne _ _ (by omega)).trans fas2)
          have fg13_13 : g13 (b3) = .inr (4, [.ref (ad (b3 + 1)), .ref (ad (b3 + 2)), .ref (ad (b3 + 3)), .ref (ad (b3 + 4)), .int (nI (n3)), .int (co3), .long (ow3)]) := (congrFun eg13 (b3)).trans ((va_up_ne _ _ (by omega)).trans fo3)
          have fg13_14 : g13 (b3 + 1) = .inl (cI, 5, .inl (fl3)) := (congrFun eg13 (b3 + 1)).trans ((va_up_ne _ _ (by omega)).trans fal3)
          have fg13_15 : g13 (b3 + 2) = .inl (cI, 6, .inl (fh3)) := (congrFun eg13 (b3 + 2)).trans ((va_up_ne _ _ (by omega)).trans fah3)
          have fg13_16 : g13 (b3 + 3) = .inl (cI, 6, .inl (ft3)) := (congrFun eg13 (b3 + 3)).trans ((va_up_ne _ _ (by omega)).trans fat3)
          have fg13_17 : g13 (b3 + 4) = .inl (cJ, 6, .inr (.inl (fs3))) := (congrFun eg13 (b3 + 4)).trans ((va_up_ne _ _ (by omega)).trans fas3)
          have fg13_w : g13 (5) = .inl (cW, 3, .inr (.inr (.inr (.inr (va_up (f5) (2) (some (ad (b1)))))))) := (congrFun eg13 (5)).trans (va_up_self _ _ _)
          have hfrg13 : ∀ j : Nat, j ≠ 4 → j ≠ 5 → j ≠ 6 → j ≠ 7 → g13 j = g j := fun j h0 h1 h2 h3 => (congrFun eg13 j).trans ((va_up_ne _ _ h1).trans ((fun _ _ _ _ _ => rfl) j h0 h1 h2 h3))
          refine lv_aload_n hx hb dX2_enter_65 rfl (lv_at hl 2 rfl) ?_
          refine xw_get hx hb hts hin2 hown hK hP (by decide) fg13_0 rfl 2 (by decide) hf21 rfl rfl dX2_enter_66 ?_
          refine lv_aload_n hx hb dX2_enter_69 rfl (lv_at hl 2 rfl) ?_
          refine xw_get hx hb hts hin2 hown hK hP (by decide) fg13_0 rfl 3 (by decide) hf27 rfl rfl dX2_enter_70 ?_
          refine lv_aload_n hx hb dX2_enter_73 rfl (lv_at hl 3 rfl) ?_
          refine vp_callSl (va_Run.run (va_runV (As := []) (rest := [.int (nI (2)), .ref (ad (7))]) ⟨hx, hb, hml, hown, hts⟩ (mX4_leadBottom l (q := q) fg13_3 fg13_7 hb1 hn1 hu1 hfs1) (cwV 0 hts gX2_enter_X4_leadBottom rfl rfl rfl (by decide +kernel) ⟨Nat.le_of_ble_eq_true rfl, Nat.le_of_ble_eq_true rfl⟩) ⟨xB_blind, va_recv hK hP (ci := 4) rfl (xw_is (by omega) fg13_3), fun U hU hW => ⟨rfl, by rw [hU]; exact hP, va_K.moved hW.alike hK, va_Nw.warmM hW hN⟩⟩ rfl rfl hl.1 rfl (lv_room (Nat.le_of_ble_eq_true rfl)) dX2_enter_74 ⟨Nat.le_of_ble_eq_true rfl, Nat.le_of_ble_eq_true rfl⟩)) (fun r14 er14 => ?_)
          subst er14
          refine xw_last hx hb hK hP hD hS (by decide) 1 fg13_2 rfl (by omega) (by decide) dX2_enter_77 (fun g15 H locs eg15 hP hS => ?_)
          have fg15_0 : g15 (4) = .inr (2, [.ref (ad (5)), .ref (ad (6)), .ref (ad (7)), .int (nI (2))]) := (congrFun eg15 (4)).trans ((va_up_ne _ _ (by decide)).trans fg13_0)
          have fg15_1 : g15 (6) = .inl (cJ, 9, .inr (.inl (f6))) := (congrFun eg15 (6)).trans ((va_up_ne _ _ (by decide)).trans fg13_1)
          have fg15_2 : g15 (b1) = .inr (4, [.ref (ad (b1 + 1)), .ref (ad (b1 + 2)), .ref (ad (b1 + 3)), .ref (ad (b1 + 4)), .int (nI (n1)), .int (co1), .long (ow1)]) := (congrFun eg15 (b1)).trans ((va_up_ne _ _ (by omega)).trans fg13_3)
          have fg15_3 : g15 (b1 + 1) = .inl (cI, 5, .inl (fl1)) := (congrFun eg15 (b1 + 1)).trans ((va_up_ne _ _ (by omega)).trans fg13_4)
          have fg15_4 : g15 (b1 + 2) = .inl (cI, 6, .inl (fh1)) := (congrFun eg15 (b1 + 2)).trans ((va_up_ne _ _ (by omega)).trans fg13_5)
          have fg15_5 : g15 (b1 + 3) = .inl (cI, 6, .inl (ft1)) := (congrFun eg15 (b1 + 3)).trans ((va_up_ne _ _ (by omega)).trans fg13_6)
          have fg15_6 : g15 (b1 + 4) = .inl (cJ, 6, .inr (.inl (fs1))) := (congrFun eg15 (b1 + 4)).trans ((va_up_ne _ _ (by omega)).trans fg13_7)
          have fg15_7 : g15 (b2) = .inr (4, [.ref (ad (b2 + 1)), .ref (ad (b2 + 2)), .ref (ad (b2 + 3)), .ref (ad (b2 + 4)), .int (nI (n2)), .int (co2), .long (ow2)]) := (congrFun eg15 (b2)).trans ((va_up_ne _ _ (by omega)).trans fg13_8)
          have fg15_8 : g15 (b2 + 1) = .inl (cI, 5, .inl (fl2)) := (congrFun eg15 (b2 + 1)).trans ((va_up_ne _ _ (by omega)).trans fg13_9)
          have fg15_9 : g15 (b2 + 2) = .inl (cI, 6, .inl (fh2)) := (congrFun eg15 (b2 + 2)).trans ((va_up_ne _ _ (by omega)).trans fg13_10)
          have fg15_10 : g15 (b2 + 3) = .inl (cI, 6, .inl (ft2)) := (congrFun eg15 (b2 + 3)).trans ((va_up_ne _ _ (by omega)).trans fg13_11)
          have fg15_11 : g15 (b2 + 4) = .inl (cJ, 6, .inr (.inl (fs2))) := (congrFun eg15 (b2 + 4)).trans ((va_up_ne _ _ (by omega)).trans fg13_12)
          have fg15_12 : g15 (b3) = .inr (4, [.ref (ad (b3 + 1)), .ref (ad (b3 + 2)), .ref (ad (b3 + 3)), .ref (ad (b3 + 4)), .int (nI (n3)), .int (co3), .long (ow3)]) := (congrFun eg15 (b3)).trans ((va_up_ne _ _ (by omega)).trans fg13_13)
          have fg15_13 : g15 (b3 + 1) = .inl (cI, 5, .inl (fl3)) := (congrFun eg15 (b3 + 1)).trans ((va_up_ne _ _ (by omega)).trans fg13_14)
          have fg15_14 : g15 (b3 + 2) = .inl (cI, 6, .inl (fh3)) := (congrFun eg15 (b3 + 2)).trans ((va_up_ne _ _ (by omega)).trans fg13_15)
          have fg15_15 : g15 (b3 + 3) = .inl (cI, 6, .inl (ft3)) := (congrFun eg15 (b3 + 3)).trans ((va_up_ne _ _ (by omega)).trans fg13_16)
          have fg15_16 : g15 (b3 + 4) = .inl (cJ, 6, .inr (.inl (fs3))) := (congrFun eg15 (b3 + 4)).trans ((va_up_ne _ _ (by omega)).trans fg13_17)
          have fg15_17 : g15 (5) = .inl (cW, 3, .inr (.inr (.inr (.inr (va_up (f5) (2) (some (ad (b1)))))))) := (congrFun eg15 (5)).trans ((va_up_ne _ _ (by decide)).trans fg13_w)
          have fg15_w : g15 (7) = .inl (cJ, 3, .inr (.inl (vp_updL (f7) (2) (lZ ((sf1 0 : Int)))))) := (congrFun eg15 (7)).trans (va_up_self _ _ _)
          have hfrg15 : ∀ j : Nat, j ≠ 4 → j ≠ 5 → j ≠ 6 → j ≠ 7 → g15 j = g j := fun j h0 h1 h2 h3 => (congrFun eg15 j).trans ((va_up_ne _ _ h3).trans (hfrg13 j h0 h1 h2 h3))
          refine lv_aload_n hx hb dX2_enter_78 rfl (lv_at hl 2 rfl) ?_
          refine lv_dup hx hb dX2_enter_79 rfl ?_
          refine xw_get hx hb hts hin2 hown hK hP (by decide) fg15_0 rfl 3 (by decide) hf27 rfl rfl dX2_enter_80 ?_
          refine lv_iconst (v := nI (1)) hx hb dX2_enter_83 (by decide) ?_
          refine xi_add hx hb dX2_enter_84 ?_
          refine xw_put hx hb hts hin2 tyX2 tyX2_ok nmX2 hown hK hP hD hS (by decide) fg15_0 rfl 3 (by decide) hf27 rfl rfl (ty := .int) (by decide +kernel) rfl rfl (Nat.le_of_ble_eq_true rfl) (fs' := [.ref (ad (5)), .ref (ad (6)), .ref (ad (7)), .int (nI (3))]) rfl dX2_enter_85 (fun g16 H locs eg16 hP hS => ?_)
          have fg16_0 : g16 (6) = .inl (cJ, 9, .inr (.inl (f6))) := (congrFun eg16 (6)).trans ((va_up_ne _ _ (by decide)).trans fg15_1)
          have fg16_1 : g16 (b1) = .inr (4, [.ref (ad (b1 + 1)), .ref (ad (b1 + 2)), .ref (ad (b1 + 3)), .ref (ad (b1 + 4)), .int (nI (n1)), .int (co1), .long (ow1)]) := (congrFun eg16 (b1)).trans ((va_up_ne _ _ (by omega)).trans fg15_2)
          have fg16_2 : g16 (b1 + 1) = .inl (cI, 5, .inl (fl1)) := (congrFun eg16 (b1 + 1)).trans ((va_up_ne _ _ (by omega)).trans fg15_3)
          have fg16_3 : g16 (b1 + 2) = .inl (cI, 6, .inl (fh1)) := (congrFun eg16 (b1 + 2)).trans ((va_up_ne _ _ (by omega)).trans fg15_4)
          have fg16_4 : g16 (b1 + 3) = .inl (cI, 6, .inl (ft1)) := (congrFun eg16 (b1 + 3)).trans ((va_up_ne _ _ (by omega)).trans fg15_5)
          have fg16_5 : g16 (b1 + 4) = .inl (cJ, 6, .inr (.inl (fs1))) := (congrFun eg16 (b1 + 4)).trans ((va_up_ne _ _ (by omega)).trans fg15_6)
          have fg16_6 : g16 (b2) = .inr (4, [.ref (ad (b2 + 1)), .ref (ad (b2 + 2)), .ref (ad (b2 + 3)), .ref (ad (b2 + 4)), .int (nI (n2)), .int (co2), .long (ow2)]) := (congrFun eg16 (b2)).trans ((va_up_ne _ _ (by omega)).trans fg15_7)
          have fg16_7 : g16 (b2 + 1) = .inl (cI, 5, .inl (fl2)) := (congrFun eg16 (b2 + 1)).trans ((va_up_ne _ _ (by omega)).trans fg15_8)
          have fg16_8 : g16 (b2 + 2) = .inl (cI, 6, .inl (fh2)) := (congrFun eg16 (b2 + 2)).trans ((va_up_ne _ _ (by omega)).trans fg15_9)
          have fg16_9 : g16 (b2 + 3) = .inl (cI, 6, .inl (ft2)) := (congrFun eg16 (b2 + 3)).trans ((va_up_ne _ _ (by omega)).trans fg15_10)
          have fg16_10 : g16 (b2 + 4) = .inl (cJ, 6, .inr (.inl (fs2))) := (congrFun eg16 (b2 + 4)).trans ((va_up_ne _ _ (by omega)).trans fg15_11)
          have fg16_11 : g16 (b3) = .inr (4, [.ref (ad (b3 + 1)), .ref (ad (b3 + 2)), .ref (ad (b3 + 3)), .ref (ad (b3 + 4)), .int (nI (n3)), .int (co3), .long (ow3)]) := (congrFun eg16 (b3)).trans ((va_up_ne _ _ (by omega)).trans fg15_12)
          have fg16_12 : g16 (b3 + 1) = .inl (cI, 5, .inl (fl3)) := (congrFun eg16 (b3 + 1)).trans ((va_up_ne _ _ (by omega)).trans fg15_13)
          have fg16_13 : g16 (b3 + 2) = .inl (cI, 6, .inl (fh3)) := (congrFun eg16 (b3 + 2)).trans ((va_up_ne _ _ (by omega)).trans fg15_14)
          have fg16_14 : g16 (b3 + 3) = .inl (cI, 6, .inl (ft3)) := (congrFun eg16 (b3 + 3)).trans ((va_up_ne _ _ (by omega)).trans fg15_15)
          have fg16_15 : g16 (b3 + 4) = .inl (cJ, 6, .inr (.inl (fs3))) := (congrFun eg16 (b3 + 4)).trans ((va_up_ne _ _ (by omega)).trans fg15_16)
          have fg16_16 : g16 (5) = .inl (cW, 3, .inr (.inr (.inr (.inr (va_up (f5) (2) (some (ad (b1)))))))) := (congrFun eg16 (5)).trans ((va_up_ne _ _ (by decide)).trans fg15_17)
          have fg16_17 : g16 (7) = .inl (cJ, 3, .inr (.inl (vp_updL (f7) (2) (lZ ((sf1 0 : Int)))))) := (congrFun eg16 (7)).trans ((va_up_ne _ _ (by decide)).trans fg15_w)
          have fg16_w : g16 (4) = .inr (2, [.ref (ad (5)), .ref (ad (6)), .ref (ad (7)), .int (nI (3))]) := (congrFun eg16 (4)).trans (va_up_self _ _ _)
          have hfrg16 : ∀ j : Nat, j ≠ 4 → j ≠ 5 → j ≠ 6 → j ≠ 7 → g16 j = g j := fun j h0 h1 h2 h3 => (congrFun eg16 j).trans ((va_up_ne _ _ h0).trans (hfrg15 j h0 h1 h2 h3))
          refine lv_aload_n hx hb dX2_enter_88 rfl (lv_at hl 2 rfl) ?_
          refine xw_get hx hb hts hin2 hown hK hP (by decide) fg16_w rfl 3 (by decide) hf27 rfl rfl dX2_enter_89 ?_
          refine lv_iconst (v := nI (1)) hx hb dX2_enter_92 (by decide) ?_
          refine xi_sub hx hb (by omega) dX2_enter_93 ?_
          refine lv_istore_n (lv' := [(2, .int (nI (2))), (3, .ref (ad (b3))), (0, .ref (ad (4))), (1, .ref (ad (b1)))]) hx hb dX2_enter_94 rfl hl (by decide) rfl (fun ls hl => ?_)
          refine lv_iconst (v := nI (0)) hx hb dX2_enter_95 (by decide) ?_
          refine lv_istore_n (lv' := [(3, .int (nI (0))), (2, .int (nI (2))), (0, .ref (ad (4))), (1, .ref (ad (b1)))]) hx hb dX2_enter_96 rfl hl (by decide) rfl (fun ls hl => ?_)
          refine lv_iload_n hx hb dX2_enter_97 rfl (lv_at hl 0 rfl) ?_
          refine lv_aload_n hx hb dX2_enter_98 rfl (lv_at hl 2 rfl) ?_
          refine xw_get hx hb hts hin2 hown hK hP (by decide) fg16_w rfl 3 (by decide) hf27 rfl rfl dX2_enter_99 ?_
          refine xi_icmp_ge (tgt := 156) hx hb (by decide) (by decide) dX2_enter_102 (by decide) (fun c0 => absurd c0 (by decide)) (fun _ => ?_)
          refine lv_aload_n hx hb dX2_enter_105 rfl (lv_at hl 2 rfl) ?_
          refine xw_get hx hb hts hin2 hown hK hP (by decide) fg16_w rfl 0 (by decide) hf11 rfl rfl dX2_enter_106 ?_
          refine lv_iload_n hx hb dX2_enter_109 rfl (lv_at hl 0 rfl) ?_
          refine xw_aald hx hb hK hP (by decide) 3 fg16_16 rfl (by omega) (by decide) (v := .ref (ad (b2))) (show va_rf (f5 0) = _ by rw [hr0]; rfl) dX2_enter_110 ?_
          refine lv_astore (lv' := [(4, .ref (ad (b2))), (3, .int (nI (0))), (2, .int (nI (2))), (0, .ref (ad (4))), (1, .ref (ad (b1)))]) hx hb dX2_enter_111 hl (by decide) rfl (fun ls hl => ?_)
          refine lv_aload hx hb dX2_enter_113 (lv_at hl 0 rfl) ?_
          refine lv_ifnull hx hb dX2_enter_115 ?_
          refine lv_aload_n hx hb dX2_enter_118 rfl (lv_at hl 3 rfl) ?_
          refine xw_get hx hb hts hin2 hown hK hP (by decide) fg16_w rfl 1 (by decide) hf17 rfl rfl dX2_enter_119 ?_
          refine lv_iload_n hx hb dX2_enter_122 rfl (lv_at hl 2 rfl) ?_
          refine lv_iconst (v := nI (3)) hx hb dX2_enter_123 (by decide) ?_
          refine xi_mul hx hb dX2_enter_124 ?_
          refine lv_iload_n hx hb dX2_enter_125 rfl (lv_at hl 1 rfl) ?_
          refine xi_add hx hb dX2_enter_126 ?_
          refine lv_aload hx hb dX2_enter_127 (lv_at hl 0 rfl) ?_
          refine lv_aload_n hx hb dX2_enter_129 rfl (lv_at hl 4 rfl) ?_
          refine vp_callSl (va_Run.run (va_runV (As := [.ref (ad (b1))]) (rest := [.int (nI (6)), .ref (ad (6))]) ⟨hx, hb, hml, hown, hts⟩ (mX4_leadOn l (q := q) fg16_6 fg16_9 fg16_1 fg16_3 fg16_5 hq4 hb2 hn2 hu2 hft2 hb1 hn1 hu1 hfh1 hfs1) (cwV 1 hts gX2_enter_X4_leadOn rfl rfl rfl (by decide +kernel) ⟨Nat.le_of_ble_eq_true rfl, Nat.le_of_ble_eq_true rfl⟩) ⟨xB_blind, va_recv hK hP (ci := 4) rfl (xw_is (by omega) fg16_6), fun U hU hW => ⟨rfl, by rw [hU]; exact hP, va_K.moved hW.alike hK, va_Nw.warmM hW hN⟩⟩ rfl rfl hl.1 rfl (lv_room (Nat.le_of_ble_eq_true rfl)) dX2_enter_130 ⟨Nat.le_of_ble_eq_true rfl, Nat.le_of_ble_eq_true rfl⟩)) (fun r18 er18 => ?_)
          subst er18
          refine xw_last hx hb hK hP hD hS (by decide) 1 fg16_0 rfl (by omega) (by decide) dX2_enter_133 (fun g19 H locs eg19 hP hS => ?_)
          have fg19_0 : g19 (b1) = .inr (4, [.ref (ad (b1 + 1)), .ref (ad (b1 + 2)), .ref (ad (b1 + 3)), .ref (ad (b1 + 4)), .int (nI (n1)), .int (co1), .long (ow1)]) := (congrFun eg19 (b1)).trans ((va_up_ne _ _ (by omega)).trans fg16_1)
          have fg19_1 : g19 (b1 + 1) = .inl (cI, 5, .inl (fl1)) := (congrFun eg19 (b1 + 1)).trans ((va_up_ne _ _ (by omega)).trans fg16_2)
          have fg19_2 : g19 (b1 + 2) = .inl (cI, 6, .inl (fh1)) := (congrFun eg19 (b1 + 2)).trans ((va_up_ne _ _ (by omega)).trans fg16_3)
          have fg19_3 : g19 (b1 + 3) = .inl (cI, 6, .inl (ft1)) := (congrFun eg19 (b1 + 3)).trans ((va_up_ne _ _ (by omega)).trans fg16_4)
          have fg19_4 : g19 (b1 + 4) = .inl (cJ, 6, .inr (.inl (fs1))) := (congrFun eg19 (b1 + 4)).trans ((va_up_ne _ _ (by omega)).trans fg16_5)
          have fg19_5 : g19 (b2) = .inr (4, [.ref (ad (b2 + 1)), .ref (ad (b2 + 2)), .ref (ad (b2 + 3)), .ref (ad (b2 + 4)), .int (nI (n2)), .int (co2), .long (ow2)]) := (congrFun eg19 (b2)).trans ((va_up_ne _ _ (by omega)).trans fg16_6)
          have fg19_6 : g19 (b2 + 1) = .inl (cI, 5, .inl (fl2)) := (congrFun eg19 (b2 + 1)).trans ((va_up_ne _ _ (by omega)).trans fg16_7)
          have fg19_7 : g19 (b2 + 2) = .inl (cI, 6, .inl (fh2)) := (congrFun eg19 (b2 + 2)).trans ((va_up_ne _ _ (by omega)).trans fg16_8)
          have fg19_8 : g19 (b2 + 3) = .inl (cI, 6, .inl (ft2)) := (congrFun eg19 (b2 + 3)).trans ((va_up_ne _ _ (by omega)).trans fg16_9)
          have fg19_9 : g19 (b2 + 4) = .inl (cJ, 6, .inr (.inl (fs2))) := (congrFun eg19 (b2 + 4)).trans ((va_up_ne _ _ (by omega)).trans fg16_10)
          have fg19_10 : g19 (b3) = .inr (4, [.ref (ad (b3 + 1)), .ref (ad (b3 + 2)), .ref (ad (b3 + 3)), .ref (ad (b3 + 4)), .int (nI (n3)), .int (co3), .long (ow3)]) := (congrFun eg19 (b3)).trans ((va_up_ne _ _ (by omega)).trans fg16_11)
          have fg19_11 : g19 (b3 + 1) = .inl (cI, 5, .inl (fl3)) := (congrFun eg19 (b3 + 1)).trans ((va_up_ne _ _ (by omega)).trans fg16_12)
          have fg19_12 : g19 (b3 + 2) = .inl (cI, 6, .inl (fh3)) := (congrFun eg19 (b3 + 2)).trans ((va_up_ne _ _ (by omega)).trans fg16_13)
          have fg19_13 : g19 (b3 + 3) = .inl (cI, 6, .inl (ft3)) := (congrFun eg19 (b3 + 3)).trans ((va_up_ne _ _ (by omega)).trans fg16_14)
          have fg19_14 : g19 (b3 + 4) = .inl (cJ, 6, .inr (.inl (fs3))) := (congrFun eg19 (b3 + 4)).trans ((va_up_ne _ _ (by omega)).trans fg16_15)
          have fg19_15 : g19 (5) = .inl (cW, 3, .inr (.inr (.inr (.inr (va_up (f5) (2) (some (ad (b1)))))))) := (congrFun eg19 (5)).trans ((va_up_ne _ _ (by decide)).trans fg16_16)
          have fg19_16 : g19 (7) = .inl (cJ, 3, .inr (.inl (vp_updL (f7) (2) (lZ ((sf1 0 : Int)))))) := (congrFun eg19 (7)).trans ((va_up_ne _ _ (by decide)).trans fg16_17)
          have fg19_17 : g19 (4) = .inr (2, [.ref (ad (5)), .ref (ad (6)), .ref (ad (7)), .int (nI (3))]) := (congrFun eg19 (4)).trans ((va_up_ne _ _ (by decide)).trans fg16_w)
          have fg19_w : g19 (6) = .inl (cJ, 9, .inr (.inl (vp_updL (f6) (6) (lZ ((lapS sf1 u2 n2 u1 n1 5 : Int)))))) := (congrFun eg19 (6)).trans (va_up_self _ _ _)
          have hfrg19 : ∀ j : Nat, j ≠ 4 → j ≠ 5 → j ≠ 6 → j ≠ 7 → g19 j = g j := fun j h0 h1 h2 h3 => (congrFun eg19 j).trans ((va_up_ne _ _ h2).trans (hfrg16 j h0 h1 h2 h3))
          refine lv_aload_n hx hb dX2_enter_134 rfl (lv_at hl 3 rfl) ?_
          refine xw_get hx hb hts hin2 hown hK hP (by decide) fg19_17 rfl 1 (by decide) hf17 rfl rfl dX2_enter_135 ?_
          refine lv_iload_n hx hb dX2_enter_138 rfl (lv_at hl 1 rfl) ?_
          refine lv_iconst (v := nI (3)) hx hb dX2_enter_139 (by decide) ?_
          refine xi_mul hx hb dX2_enter_140 ?_
          refine lv_iload_n hx hb dX2_enter_141 rfl (lv_at hl 2 rfl) ?_
          refine xi_add hx hb dX2_enter_142 ?_
          refine lv_aload_n hx hb dX2_enter_143 rfl (lv_at hl 4 rfl) ?_
          refine lv_aload hx hb dX2_enter_144 (lv_at hl 0 rfl) ?_
          refine vp_callSl (va_Run.run (va_runV (As := [.ref (ad (b2))]) (rest := [.int (nI (2)), .ref (ad (6))]) ⟨hx, hb, hml, hown, hts⟩ (mX4_leadOn l (q := q) fg19_0 fg19_3 fg19_5 fg19_7 fg19_9 hq4 hb1 hn1 hu1 hft1 hb2 hn2 hu2 hfh2 hfs2) (cwV 1 hts gX2_enter_X4_leadOn rfl rfl rfl (by decide +kernel) ⟨Nat.le_of_ble_eq_true rfl, Nat.le_of_ble_eq_true rfl⟩) ⟨xB_blind, va_recv hK hP (ci := 4) rfl (xw_is (by omega) fg19_0), fun U hU hW => ⟨rfl, by rw [hU]; exact hP, va_K.moved hW.alike hK, va_Nw.warmM hW hN⟩⟩ rfl rfl hl.1 rfl (lv_room (Nat.le_of_ble_eq_true rfl)) dX2_enter_146 ⟨Nat.le_of_ble_eq_true rfl, Nat.le_of_ble_eq_true rfl⟩)) (fun r20 er20 => ?_)
          subst er20
          refine xw_last hx hb hK hP hD hS (by decide) 1 fg19_w rfl (by omega) (by decide) dX2_enter_149 (fun g21 H locs eg21 hP hS => ?_)
          have fg21_0 : g21 (b1) = .inr (4, [.ref (ad (b1 + 1)), .ref (ad (b1 + 2)), .ref (ad (b1 + 3)), .ref (ad (b1 + 4)), .int (nI (n1)), .int (co1), .long (ow1)]) := (congrFun eg21 (b1)).trans ((va_up_ne _ _ (by omega)).trans fg19_0)
          have fg21_1 : g21 (b1 + 1) = .inl (cI, 5, .inl (fl1)) := (congrFun eg21 (b1 + 1)).trans ((va_up_ne _ _ (by omega)).trans fg19_1)
          have fg21_2 : g21 (b1 + 2) = .inl (cI, 6, .inl (fh1)) := (congrFun eg21 (b1 + 2)).trans ((va_up_ne _ _ (by omega)).trans fg19_2)
          have fg21_3 : g21 (b1 + 3) = .inl (cI, 6, .inl (ft1)) := (congrFun eg21 (b1 + 3)).trans ((va_up_ne _ _ (by omega)).trans fg19_3)
          have fg21_4 : g21 (b1 + 4) = .inl (cJ, 6, .inr (.inl (fs1))) := (congrFun eg21 (b1 + 4)).trans ((va_up_ne _ _ (by omega)).trans fg19_4)
          have fg21_5 : g21 (b2) = .inr (4, [.ref (ad (b2 + 1)), .ref (ad (b2 + 2)), .ref (ad (b2 + 3)), .ref (ad (b2 + 4)), .int (nI (n2)), .int (co2), .long (ow2)]) := (congrFun eg21 (b2)).trans ((va_up_ne _ _ (by omega)).trans fg19_5)
          have fg21_6 : g21 (b2 + 1) = .inl (cI, 5, .inl (fl2)) := (congrFun eg21 (b2 + 1)).trans ((va_up_ne _ _ (by omega)).trans fg19_6)
          have fg21_7 : g21 (b2 + 2) = .inl (cI, 6, .inl (fh2)) := (congrFun eg21 (b2 + 2)).trans ((va_up_ne _ _ (by omega)).trans fg19_7)
          have fg21_8 : g21 (b2 + 3) = .inl (cI, 6, .inl (ft2)) := (congrFun eg21 (b2 + 3)).trans ((va_up_ne _ _ (by omega)).trans fg19_8)
          have fg21_9 : g21 (b2 + 4) = .inl (cJ, 6, .inr (.inl (fs2))) := (congrFun eg21 (b2 + 4)).trans ((va_up_ne _ _ (by omega)).trans fg19_9)
          have fg21_10 : g21 (b3) = .inr (4, [.ref (ad (b3 + 1)), .ref (ad (b3 + 2)), .ref (ad (b3 + 3)), .ref (ad (b3 + 4)), .int (nI (n3)), .int (co3), .long (ow3)]) := (congrFun eg21 (b3)).trans ((va_up_ne _ _ (by omega)).trans fg19_10)
          have fg21_11 : g21 (b3 + 1) = .inl (cI, 5, .inl (fl3)) := (congrFun eg21 (b3 + 1)).trans ((va_up_ne _ _ (by omega)).trans fg19_11)
          have fg21_12 : g21 (b3 + 2) = .inl (cI, 6, .inl (fh3)) := (congrFun eg21 (b3 + 2)).trans ((va_up_ne _ _ (by omega)).trans fg19_12)
          have fg21_13 : g21 (b3 + 3) = .inl (cI, 6, .inl (ft3)) := (congrFun eg21 (b3 + 3)).trans ((va_up_ne _ _ (by omega)).trans fg19_13)
          have fg21_14 : g21 (b3 + 4) = .inl (cJ, 6, .inr (.inl (fs3))) := (congrFun eg21 (b3 + 4)).trans ((va_up_ne _ _ (by omega)).trans fg19_14)
          have fg21_15 : g21 (5) = .inl (cW, 3, .inr (.inr (.inr (.inr (va_up (f5) (2) (some (ad (b1)))))))) := (congrFun eg21 (5)).trans ((va_up_ne _ _ (by decide)).trans fg19_15)
          have fg21_16 : g21 (7) = .inl (cJ, 3, .inr (.inl (vp_updL (f7) (2) (lZ ((sf1 0 : Int)))))) := (congrFun eg21 (7)).trans ((va_up_ne _ _ (by decide)).trans fg19_16)
          have fg21_17 : g21 (4) = .inr (2, [.ref (ad (5)), .ref (ad (6)), .ref (ad (7)), .int (nI (3))]) := (congrFun eg21 (4)).trans ((va_up_ne _ _ (by decide)).trans fg19_17)
          have fg21_w : g21 (6) = .inl (cJ, 9, .inr (.inl (vp_updL (vp_updL (f6) (6) (lZ ((lapS sf1 u2 n2 u1 n1 5 : Int)))) (2) (lZ ((lapS sf2 u1 n1 u2 n2 5 : Int)))))) := (congrFun eg21 (6)).trans (va_up_self _ _ _)
          have hfrg21 : ∀ j : Nat, j ≠ 4 → j ≠ 5 → j ≠ 6 → j ≠ 7 → g21 j = g j := fun j h0 h1 h2 h3 => (congrFun eg21 j).trans ((va_up_ne _ _ h2).trans (hfrg19 j h0 h1 h2 h3))
          refine lv_iinc (v := nI (1)) (lv' := [(3, .int (nI (1))), (4, .ref (ad (b2))), (2, .int (nI (2))), (0, .ref (ad (4))), (1, .ref (ad (b1)))]) hx hb dX2_enter_150 hl (k := 1) rfl (nI_add (0) 1) (by decide) rfl (fun ls hl => ?_)
          refine lv_goto (tgt := 97) hx hb dX2_enter_153 (by decide) ?_
          refine lv_iload_n hx hb dX2_enter_97 rfl (lv_at hl 0 rfl) ?_
          refine lv_aload_n hx hb dX2_enter_98 rfl (lv_at hl 3 rfl) ?_
          refine xw_get hx hb hts hin2 hown hK hP (by decide) fg21_17 rfl 3 (by decide) hf27 rfl rfl dX2_enter_99 ?_
          refine xi_icmp_ge (tgt := 156) hx hb (by decide) (by decide) dX2_enter_102 (by decide) (fun c0 => absurd c0 (by decide)) (fun _ => ?_)
          refine lv_aload_n hx hb dX2_enter_105 rfl (lv_at hl 3 rfl) ?_
          refine xw_get hx hb hts hin2 hown hK hP (by decide) fg21_17 rfl 0 (by decide) hf11 rfl rfl dX2_enter_106 ?_
          refine lv_iload_n hx hb dX2_enter_109 rfl (lv_at hl 0 rfl) ?_
          refine xw_aald hx hb hK hP (by decide) 3 fg21_15 rfl (by omega) (by decide) (v := .ref (ad (b3))) (show va_rf (f5 1) = _ by rw [hr1]; rfl) dX2_enter_110 ?_
          refine lv_astore (lv' := [(4, .ref (ad (b3))), (3, .int (nI (1))), (2, .int (nI (2))), (0, .ref (ad (4))), (1, .ref (ad (b1)))]) hx hb dX2_enter_111 hl (by decide) rfl (fun ls hl => ?_)
          refine lv_aload hx hb dX2_enter_113 (lv_at hl 0 rfl) ?_
          refine lv_ifnull hx hb dX2_enter_115 ?_
          refine lv_aload_n hx hb dX2_enter_118 rfl (lv_at hl 3 rfl) ?_
          refine xw_get hx hb hts hin2 hown hK hP (by decide) fg21_17 rfl 1 (by decide) hf17 rfl rfl dX2_enter_119 ?_
          refine lv_iload_n hx hb dX2_enter_122 rfl (lv_at hl 2 rfl) ?_
          refine lv_iconst (v := nI (3)) hx hb dX2_enter_123 (by decide) ?_
          refine xi_mul hx hb dX2_enter_124 ?_
          refine lv_iload_n hx hb dX2_enter_125 rfl (lv_at hl 1 rfl) ?_
          refine xi_add hx hb dX2_enter_126 ?_
          refine lv_aload hx hb dX2_enter_127 (lv_at hl 0 rfl) ?_
          refine lv_aload_n hx hb dX2_enter_129 rfl (lv_at hl 4 rfl) ?_
          refine vp_callSl (va_Run.run (va_runV (As := [.ref (ad (b1))]) (rest := [.int (nI (7)), .ref (ad (6))]) ⟨hx, hb, hml, hown, hts⟩ (mX4_leadOn l (q := q) fg21_10 fg21_13 fg21_0 fg21_2 fg21_4 hq4 hb3 hn3 hu3 hft3 hb1 hn1 hu1 hfh1 hfs1) (cwV 1 hts gX2_enter_X4_leadOn rfl rfl rfl (by decide +kernel) ⟨Nat.le_of_ble_eq_true rfl, Nat.le_of_ble_eq_true rfl⟩) ⟨xB_blind, va_recv hK hP (ci := 4) rfl (xw_is (by omega) fg21_10), fun U hU hW => ⟨rfl, by rw [hU]; exact hP, va_K.moved hW.alike hK, va_Nw.warmM hW hN⟩⟩ rfl rfl hl.1 rfl (lv_room (Nat.le_of_ble_eq_true rfl)) dX2_enter_130 ⟨Nat.le_of_ble_eq_true rfl, Nat.le_of_ble_eq_true rfl⟩)) (fun r23 er23 => ?_)
          subst er23
          refine xw_last hx hb hK hP hD hS (by decide) 1 fg21_w rfl (by omega) (by decide) dX2_enter_133 (fun g24 H locs eg24 hP hS => ?_)
          have fg24_0 : g24 (b1) = .inr (4, [.ref (ad (b1 + 1)), .ref (ad (b1 + 2)), .ref (ad (b1 + 3)), .ref (ad (b1 + 4)), .int (nI (n1)), .int (co1), .long (ow1)]) := (congrFun eg24 (b1)).trans ((va_up_ne _ _ (by omega)).trans fg21_0)
          have fg24_1 : g24 (b1 + 1) = .inl (cI, 5, .inl (fl1)) := (congrFun eg24 (b1 + 1)).trans ((va_up_ne _ _ (by omega)).trans fg21_1)
          have fg24_2 : g24 (b1 + 2) = .inl (cI, 6, .inl (fh1)) := (congrFun eg24 (b1 + 2)).trans ((va_up_ne _ _ (by omega)).trans fg21_2)
          have fg24_3 : g24 (b1 + 3) = .inl (cI, 6, .inl (ft1)) := (congrFun eg24 (b1 + 3)).trans ((va_up_ne _ _ (by omega)).trans fg21_3)
          have fg24_4 : g24 (b1 + 4) = .inl (cJ, 6, .inr (.inl (fs1))) := (congrFun eg24 (b1 + 4)).trans ((va_up_ne _ _ (by omega)).trans fg21_4)
          have fg24_5 : g24 (b2) = .inr (4, [.ref (ad (b2 + 1)), .ref (ad (b2 + 2)), .ref (ad (b2 + 3)), .ref (ad (b2 + 4)), .int (nI (n2)), .int (co2), .long (ow2)]) := (congrFun eg24 (b2)).trans ((va_up_ne _ _ (by omega)).trans fg21_5)
          have fg24_6 : g24 (b2 + 1) = .inl (cI, 5, .inl (fl2)) := (congrFun eg24 (b2 + 1)).trans ((va_up_ne _ _ (by omega)).trans fg21_6)
          have fg24_7 : g24 (b2 + 2) = .inl (cI, 6, .inl (fh2)) := (congrFun eg24 (b2 + 2)).trans ((va_up_ne _ _ (by omega)).trans fg21_7)
          have fg24_8 : g24 (b2 + 3) = .inl (cI, 6, .inl (ft2)) := (congrFun eg24 (b2 + 3)).trans ((va_up_ne _ _ (by omega)).trans fg21_8)
          have fg24_9 : g24 (b2 + 4) = .inl (cJ, 6, .inr (.inl (fs2))) := (congrFun eg24 (b2 + 4)).trans ((va_up_ne _ _ (by omega)).trans fg21_9)
          have fg24_10 : g24 (b3) = .inr (4, [.ref (ad (b3 + 1)), .ref (ad (b3 + 2)), .ref (ad (b3 + 3)), .ref (ad (b3 + 4)), .int (nI (n3)), .int (co3), .long (ow3)]) := (congrFun eg24 (b3)).trans ((va_up_ne _ _ (by omega)).trans fg21_10)
          have fg24_11 : g24 (b3 + 1) = .inl (cI, 5, .inl (fl3)) := (congrFun eg24 (b3 + 1)).trans ((va_up_ne _ _ (by omega)).trans fg21_11)
          have fg24_12 : g24 (b3 + 2) = .inl (cI, 6, .inl (fh3)) := (congrFun eg24 (b3 + 2)).trans ((va_up_ne _ _ (by omega)).trans fg21_12)
          have fg24_13 : g24 (b3 + 3) = .inl (cI, 6, .inl (ft3)) := (congrFun eg24 (b3 + 3)).trans ((va_up_ne _ _ (by omega)).trans fg21_13)
          have fg24_14 : g24 (b3 + 4) = .inl (cJ, 6, .inr (.inl (fs3))) := (congrFun eg24 (b3 + 4)).trans ((va_up_ne _ _ (by omega)).trans fg21_14)
          have fg24_15 : g24 (5) = .inl (cW, 3, .inr (.inr (.inr (.inr (va_up (f5) (2) (some (ad (b1)))))))) := (congrFun eg24 (5)).trans ((va_up_ne _ _ (by decide)).trans fg21_15)
          have fg24_16 : g24 (7) = .inl (cJ, 3, .inr (.inl (vp_updL (f7) (2) (lZ ((sf1 0 : Int)))))) := (congrFun eg24 (7)).trans ((va_up_ne _ _ (by decide)).trans fg21_16)
          have fg24_17 : g24 (4) = .inr (2, [.ref (ad (5)), .ref (ad (6)), .ref (ad (7)), .int (nI (3))]) := (congrFun eg24 (4)).trans ((va_up_ne _ _ (by decide)).trans fg21_17)
          have fg24_w : g24 (6) = .inl (cJ, 9, .inr (.inl (vp_updL (vp_updL (vp_updL (f6) (6) (lZ ((lapS sf1 u2 n2 u1 n1 5 : Int)))) (2) (lZ ((lapS sf2 u1 n1 u2 n2 5 : Int)))) (7) (lZ ((lapS sf1 u3 n3 u1 n1 5 : Int)))))) := (congrFun eg24 (6)).trans (va_up_self _ _ _)
          have hfrg24 : ∀ j : Nat, j ≠ 4 → j ≠ 5 → j ≠ 6 → j ≠ 7 → g24 j = g j := fun j h0 h1 h2 h3 => (congrFun eg24 j).trans ((va_up_ne _ _ h2).trans (hfrg21 j h0 h1 h2 h3))
          refine lv_aload_n hx hb dX2_enter_134 rfl (lv_at hl 3 rfl) ?_
          refine xw_get hx hb hts hin2 hown hK hP (by decide) fg24_17 rfl 1 (by decide) hf17 rfl rfl dX2_enter_135 ?_
          refine lv_iload_n hx hb dX2_enter_138 rfl (lv_at hl 1 rfl) ?_
          refine lv_iconst (v := nI (3)) hx hb dX2_enter_139 (by decide) ?_
          refine xi_mul hx hb dX2_enter_140 ?_
          refine lv_iload_n hx hb dX2_enter_141 rfl (lv_at hl 2 rfl) ?_
          refine xi_add hx hb dX2_enter_142 ?_
          refine lv_aload_n hx hb dX2_enter_143 rfl (lv_at hl 4 rfl) ?_
          refine lv_aload hx hb dX2_enter_144 (lv_at hl 0 rfl) ?_
          refine vp_callSl (va_Run.run (va_runV (As := [.ref (ad (b3))]) (rest := [.int (nI (5)), .ref (ad (6))]) ⟨hx, hb, hml, hown, hts⟩ (mX4_leadOn l (q := q) fg24_0 fg24_3 fg24_10 fg24_12 fg24_14 hq4 hb1 hn1 hu1 hft1 hb3 hn3 hu3 hfh3 hfs3) (cwV 1 hts gX2_enter_X4_leadOn rfl rfl rfl (by decide +kernel) ⟨Nat.le_of_ble_eq_true rfl, Nat.le_of_ble_eq_true rfl⟩) ⟨xB_blind, va_recv hK hP (ci := 4) rfl (xw_is (by omega) fg24_0), fun U hU hW => ⟨rfl, by rw [hU]; exact hP, va_K.moved hW.alike hK, va_Nw.warmM hW hN⟩⟩ rfl rfl hl.1 rfl (lv_room (Nat.le_of_ble_eq_true rfl)) dX2_enter_146 ⟨Nat.le_of_ble_eq_true rfl, Nat.le_of_ble_eq_true rfl⟩)) (fun r25 er25 => ?_)
          subst er25
          refine xw_last hx hb hK hP hD hS (by decide) 1 fg24_w rfl (by omega) (by decide) dX2_enter_149 (fun g26 H locs eg26 hP hS => ?_)
          have fg26_0 : g26 (b1) = .inr (4, [.ref (ad (b1 + 1)), .ref (ad (b1 + 2)), .ref (ad (b1 + 3)), .ref (ad (b1 + 4)), .int (nI (n1)), .int (co1), .long (ow1)]) := (congrFun eg26 (b1)).trans ((va_up_ne _ _ (by omega)).trans fg24_0)
          have fg26_1 : g26 (b1 + 1) = .inl (cI, 5, .inl (fl1)) := (congrFun eg26 (b1 + 1)).trans ((va_up_ne _ _ (by omega)).trans fg24_1)
          have fg26_2 : g26 (b1 + 2) = .inl (cI, 6, .inl (fh1)) := (congrFun eg26 (b1 + 2)).trans ((va_up_ne _ _ (by omega)).trans fg24_2)
          have fg26_3 : g26 (b1 + 3) = .inl (cI, 6, .inl (ft1)) := (congrFun eg26 (b1 + 3)).trans ((va_up_ne _ _ (by omega)).trans fg24_3)
          have fg26_4 : g26 (b1 + 4) = .inl (cJ, 6, .inr (.inl (fs1))) := (congrFun eg26 (b1 + 4)).trans ((va_up_ne _ _ (by omega)).trans fg24_4)
          have fg26_5 : g26 (b2) = .inr (4, [.ref (ad (b2 + 1)), .ref (ad (b2 + 2)), .ref (ad (b2 + 3)), .ref (ad (b2 + 4)), .int (nI (n2)), .int (co2), .long (ow2)]) := (congrFun eg26 (b2)).trans ((va_up_ne _ _ (by omega)).trans fg24_5)
          have fg26_6 : g26 (b2 + 1) = .inl (cI, 5, .inl (fl2)) := (congrFun eg26 (b2 + 1)).trans ((va_up_ne _ _ (by omega)).trans fg24_6)
          have fg26_7 : g26 (b2 + 2) = .inl (cI, 6, .inl (fh2)) := (congrFun eg26 (b2 + 2)).trans ((va_up_ne _ _ (by omega)).trans fg24_7)
          have fg26_8 : g26 (b2 + 3) = .inl (cI, 6, .inl (ft2)) := (congrFun eg26 (b2 + 3)).trans ((va_up_ne _ _ (by omega)).trans fg24_8)
          have fg26_9 : g26 (b2 + 4) = .inl (cJ, 6, .inr (.inl (fs2))) := (congrFun eg26 (b2 + 4)).trans ((va_up_ne _ _ (by omega)).trans fg24_9)
          have fg26_10 : g26 (b3) = .inr (4, [.ref (ad (b3 + 1)), .ref (ad (b3 + 2)), .ref (ad (b3 + 3)), .ref (ad (b3 + 4)), .int (nI (n3)), .int (co3), .long (ow3)]) := (congrFun eg26 (b3)).trans ((va_up_ne _ _ (by omega)).trans fg24_10)
          have fg26_11 : g26 (b3 + 1) = .inl (cI, 5, .inl (fl3)) := (congrFun eg26 (b3 + 1)).trans ((va_up_ne _ _ (by omega)).trans fg24_11)
          have fg26_12 : g26 (b3 + 2) = .inl (cI, 6, .inl (fh3)) := (congrFun eg26 (b3 + 2)).trans ((va_up_ne _ _ (by omega)).trans fg24_12)
          have fg26_13 : g26 (b3 + 3) = .inl (cI, 6, .inl (ft3)) := (congrFun eg26 (b3 + 3)).trans ((va_up_ne _ _ (by omega)).trans fg24_13)
          have fg26_14 : g26 (b3 + 4) = .inl (cJ, 6, .inr (.inl (fs3))) := (congrFun eg26 (b3 + 4)).trans ((va_up_ne _ _ (by omega)).trans fg24_14)
          have fg26_15 : g26 (5) = .inl (cW, 3, .inr (.inr (.inr (.inr (va_up (f5) (2) (some (ad (b1)))))))) := (congrFun eg26 (5)).trans ((va_up_ne _ _ (by decide)).trans fg24_15)
          have fg26_16 : g26 (7) = .inl (cJ, 3, .inr (.inl (vp_updL (f7) (2) (lZ ((sf1 0 : Int)))))) := (congrFun eg26 (7)).trans ((va_up_ne _ _ (by decide)).trans fg24_16)
          have fg26_17 : g26 (4) = .inr (2, [.ref (ad (5)), .ref (ad (6)), .ref (ad (7)), .int (nI (3))]) := (congrFun eg26 (4)).trans ((va_up_ne _ _ (by decide)).trans fg24_17)
          have fg26_w : g26 (6) = .inl (cJ, 9, .inr (.inl (vp_updL (vp_updL (vp_updL (vp_updL (f6) (6) (lZ ((lapS sf1 u2 n2 u1 n1 5 : Int)))) (2) (lZ ((lapS sf2 u1 n1 u2 n2 5 : Int)))) (7) (lZ ((lapS sf1 u3 n3 u1 n1 5 : Int)))) (5) (lZ ((lapS sf3 u1 n1 u3 n3 5 : Int)))))) := (congrFun eg26 (6)).trans (va_up_self _ _ _)
          have hfrg26 : ∀ j : Nat, j ≠ 4 → j ≠ 5 → j ≠ 6 → j ≠ 7 → g26 j = g j := fun j h0 h1 h2 h3 => (congrFun eg26 j).trans ((va_up_ne _ _ h2).trans (hfrg24 j h0 h1 h2 h3))
          refine lv_iinc (v := nI (2)) (lv' := [(3, .int (nI (2))), (4, .ref (ad (b3))), (2, .int (nI (2))), (0, .ref (ad (4))), (1, .ref (ad (b1)))]) hx hb dX2_enter_150 hl (k := 1) rfl (nI_add (1) 1) (by decide) rfl (fun ls hl => ?_)
          refine lv_goto (tgt := 97) hx hb dX2_enter_153 (by decide) ?_
          refine lv_iload_n hx hb dX2_enter_97 rfl (lv_at hl 0 rfl) ?_
          refine lv_aload_n hx hb dX2_enter_98 rfl (lv_at hl 3 rfl) ?_
          refine xw_get hx hb hts hin2 hown hK hP (by decide) fg26_17 rfl 3 (by decide) hf27 rfl rfl dX2_enter_99 ?_
          refine xi_icmp_ge (tgt := 156) hx hb (by decide) (by decide) dX2_enter_102 (by decide) (fun c0 => absurd c0 (by decide)) (fun _ => ?_)
          refine lv_aload_n hx hb dX2_enter_105 rfl (lv_at hl 3 rfl) ?_
          refine xw_get hx hb hts hin2 hown hK hP (by decide) fg26_17 rfl 0 (by decide) hf11 rfl rfl dX2_enter_106 ?_
          refine lv_iload_n hx hb dX2_enter_109 rfl (lv_at hl 0 rfl) ?_
          refine xw_aald hx hb hK hP (by decide) 3 fg26_15 rfl (by omega) (by decide) (v := .ref (ad (b1))) rfl dX2_enter_110 ?_
          refine lv_astore (lv' := [(4, .ref (ad (b1))), (3, .int (nI (2))), (2, .int (nI (2))), (0, .ref (ad (4))), (1, .ref (ad (b1)))]) hx hb dX2_enter_111 hl (by decide) rfl (fun ls hl => ?_)
          refine lv_aload hx hb dX2_enter_113 (lv_at hl 0 rfl) ?_
          refine lv_ifnull hx hb dX2_enter_115 ?_
          refine lv_aload_n hx hb dX2_enter_118 rfl (lv_at hl 3 rfl) ?_
          refine xw_get hx hb hts hin2 hown hK hP (by decide) fg26_17 rfl 1 (by decide) hf17 rfl rfl dX2_enter_119 ?_
          refine lv_iload_n hx hb dX2_enter_122 rfl (lv_at hl 2 rfl) ?_
          refine lv_iconst (v := nI (3)) hx hb dX2_enter_123 (by decide) ?_
          refine xi_mul hx hb dX2_enter_124 ?_
          refine lv_iload_n hx hb dX2_enter_125 rfl (lv_at hl 1 rfl) ?_
          refine xi_add hx hb dX2_enter_126 ?_
          refine lv_aload hx hb dX2_enter_127 (lv_at hl 0 rfl) ?_
          refine lv_aload_n hx hb dX2_enter_129 rfl (lv_at hl 4 rfl) ?_
          refine vp_callSl (va_Run.run (va_runV (As := [.ref (ad (b1))]) (rest := [.int (nI (8)), .ref (ad (6))]) ⟨hx, hb, hml, hown, hts⟩ (mX4_leadOn l (q := q) fg26_0 fg26_3 fg26_0 fg26_2 fg26_4 hq4 hb1 hn1 hu1 hft1 hb1 hn1 hu1 hfh1 hfs1) (cwV 1 hts gX2_enter_X4_leadOn rfl rfl rfl (by decide +kernel) ⟨Nat.le_of_ble_eq_true rfl, Nat.le_of_ble_eq_true rfl⟩) ⟨xB_blind, va_recv hK hP (ci := 4) rfl (xw_is (by omega) fg26_0), fun U hU hW => ⟨rfl, by rw [hU]; exact hP, va_K.moved hW.alike hK, va_Nw.warmM hW hN⟩⟩ rfl rfl hl.1 rfl (lv_room (Nat.le_of_ble_eq_true rfl)) dX2_enter_130 ⟨Nat.le_of_ble_eq_true rfl, Nat.le_of_ble_eq_true rfl⟩)) (fun r28 er28 => ?_)
          subst er28
          refine xw_last hx hb hK hP hD hS (by decide) 1 fg26_w rfl (by omega) (by decide) dX2_enter_133 (fun g29 H locs eg29 hP hS => ?_)
          have fg29_0 : g29 (b1) = .inr (4, [.ref (ad (b1 + 1)), .ref (ad (b1 + 2)), .ref (ad (b1 + 3)), .ref (ad (b1 + 4)), .int (nI (n1)), .int (co1), .long (ow1)]) := (congrFun eg29 (b1)).trans ((va_up_ne _ _ (by omega)).trans fg26_0)
          have fg29_1 : g29 (b1 + 1) = .inl (cI, 5, .inl (fl1)) := (congrFun eg29 (b1 + 1)).trans ((va_up_ne _ _ (by omega)).trans fg26_1)
          have fg29_2 : g29 (b1 + 2) = .inl (cI, 6, .inl (fh1)) := (congrFun eg29 (b1 + 2)).trans ((va_up_ne _ _ (by omega)).trans fg26_2)
          have fg29_3 : g29 (b1 + 3) = .inl (cI, 6, .inl (ft1)) := (congrFun eg29 (b1 + 3)).trans ((va_up_ne _ _ (by omega)).trans fg26_3)
          have fg29_4 : g29 (b1 + 4) = .inl (cJ, 6, .inr (.inl (fs1))) := (congrFun eg29 (b1 + 4)).trans ((va_up_ne _ _ (by omega)).trans fg26_4)
          have fg29_5 : g29 (b2) = .inr (4, [.ref (ad (b2 + 1)), .ref (ad (b2 + 2)), .ref (ad (b2 + 3)), .ref (ad (b2 + 4)), .int (nI (n2)), .int (co2), .long (ow2)]) := (congrFun eg29 (b2)).trans ((va_up_ne _ _ (by omega)).trans fg26_5)
          have fg29_6 : g29 (b2 + 1) = .inl (cI, 5, .inl (fl2)) := (congrFun eg29 (b2 + 1)).trans ((va_up_ne _ _ (by omega)).trans fg26_6)
          have fg29_7 : g29 (b2 + 2) = .inl (cI, 6, .inl (fh2)) := (congrFun eg29 (b2 + 2)).trans ((va_up_ne _ _ (by omega)).trans fg26_7)
          have fg29_8 : g29 (b2 + 3) = .inl (cI, 6, .inl (ft2)) := (congrFun eg29 (b2 + 3)).trans ((va_up_ne _ _ (by omega)).trans fg26_8)
          have fg29_9 : g29 (b2 + 4) = .inl (cJ, 6, .inr (.inl (fs2))) := (congrFun eg29 (b2 + 4)).trans ((va_up_ne _ _ (by omega)).trans fg26_9)
          have fg29_10 : g29 (b3) = .inr (4, [.ref (ad (b3 + 1)), .ref (ad (b3 + 2)), .ref (ad (b3 + 3)), .ref (ad (b3 + 4)), .int (nI (n3)), .int (co3), .long (ow3)]) := (congrFun eg29 (b3)).trans ((va_up_ne _ _ (by omega)).trans fg26_10)
          have fg29_11 : g29 (b3 + 1) = .inl (cI, 5, .inl (fl3)) := (congrFun eg29 (b3 + 1)).trans ((va_up_ne _ _ (by omega)).trans fg26_11)
          have fg29_12 : g29 (b3 + 2) = .inl (cI, 6, .inl (fh3)) := (congrFun eg29 (b3 + 2)).trans ((va_up_ne _ _ (by omega)).trans fg26_12)
          have fg29_13 : g29 (b3 + 3) = .inl (cI, 6, .inl (ft3)) := (congrFun eg29 (b3 + 3)).trans ((va_up_ne _ _ (by omega)).trans fg26_13)
          have fg29_14 : g29 (b3 + 4) = .inl (cJ, 6, .inr (.inl (fs3))) := (congrFun eg29 (b3 + 4)).trans ((va_up_ne _ _ (by omega)).trans fg26_14)
          have fg29_15 : g29 (5) = .inl (cW, 3, .inr (.inr (.inr (.inr (va_up (f5) (2) (some (ad (b1)))))))) := (congrFun eg29 (5)).trans ((va_up_ne _ _ (by decide)).trans fg26_15)
          have fg29_16 : g29 (7) = .inl (cJ, 3, .inr (.inl (vp_updL (f7) (2) (lZ ((sf1 0 : Int)))))) := (congrFun eg29 (7)).trans ((va_up_ne _ _ (by decide)).trans fg26_16)
          have fg29_17 : g29 (4) = .inr (2, [.ref (ad (5)), .ref (ad (6)), .ref (ad (7)), .int (nI (3))]) := (congrFun eg29 (4)).trans ((va_up_ne _ _ (by decide)).trans fg26_17)
          have fg29_w : g29 (6) = .inl (cJ, 9, .inr (.inl (vp_updL (vp_updL (vp_updL (vp_updL (vp_updL (f6) (6) (lZ ((lapS sf1 u2 n2 u1 n1 5 : Int)))) (2) (lZ ((lapS sf2 u1 n1 u2 n2 5 : Int)))) (7) (lZ ((lapS sf1 u3 n3 u1 n1 5 : Int)))) (5) (lZ ((lapS sf3 u1 n1 u3 n3 5 : Int)))) (8) (lZ ((lapS sf1 u1 n1 u1 n1 5 : Int)))))) := (congrFun eg29 (6)).trans (va_up_self _ _ _)
          have hfrg29 : ∀ j : Nat, j ≠ 4 → j ≠ 5 → j ≠ 6 → j ≠ 7 → g29 j = g j := fun j h0 h1 h2 h3 => (congrFun eg29 j).trans ((va_up_ne _ _ h2).trans (hfrg26 j h0 h1 h2 h3))
          refine lv_aload_n hx hb dX2_enter_134 rfl (lv_at hl 3 rfl) ?_
          refine xw_get hx hb hts hin2 hown hK hP (by decide) fg29_17 rfl 1 (by decide) hf17 rfl rfl dX2_enter_135 ?_
          refine lv_iload_n hx hb dX2_enter_138 rfl (lv_at hl 1 rfl) ?_
          refine lv_iconst (v := nI (3)) hx hb dX2_enter_139 (by decide) ?_
          refine xi_mul hx hb dX2_enter_140 ?_
          refine lv_iload_n hx hb dX2_enter_141 rfl (lv_at hl 2 rfl) ?_
          refine xi_add hx hb dX2_enter_142 ?_
          refine lv_aload_n hx hb dX2_enter_143 rfl (lv_at hl 4 rfl) ?_
          refine lv_aload hx hb dX2_enter_144 (lv_at hl 0 rfl) ?_
          refine vp_callSl (va_Run.run (va_runV (As := [.ref (ad (b1))]) (rest := [.int (nI (8)), .ref (ad (6))]) ⟨hx, hb, hml, hown, hts⟩ (mX4_leadOn l (q := q) fg29_0 fg29_3 fg29_0 fg29_2 fg29_4 hq4 hb1 hn1 hu1 hft1 hb1 hn1 hu1 hfh1 hfs1) (cwV 1 hts gX2_enter_X4_leadOn rfl rfl rfl (by decide +kernel) ⟨Nat.le_of_ble_eq_true rfl, Nat.le_of_ble_eq_true rfl⟩) ⟨xB_blind, va_recv hK hP (ci := 4) rfl (xw_is (by omega) fg29_0), fun U hU hW => ⟨rfl, by rw [hU]; exact hP, va_K.moved hW.alike hK, va_Nw.warmM hW hN⟩⟩ rfl rfl hl.1 rfl (lv_room (Nat.le_of_ble_eq_true rfl)) dX2_enter_146 ⟨Nat.le_of_ble_eq_true rfl, Nat.le_of_ble_eq_true rfl⟩)) (fun r30 er30 => ?_)
          subst er30
          refine xw_last hx hb hK hP hD hS (by decide) 1 fg29_w rfl (by omega) (by decide) dX2_enter_149 (fun g31 H locs eg31 hP hS => ?_)
          have fg31_0 : g31 (b1) = .inr (4, [.ref (ad (b1 + 1)), .ref (ad (b1 + 2)), .ref (ad (b1 + 3)), .ref (ad (b1 + 4)), .int (nI (n1)), .int (co1), .long (ow1)]) := (congrFun eg31 (b1)).trans ((va_up_ne _ _ (by omega)).trans fg29_0)
          have fg31_1 : g31 (b1 + 1) = .inl (cI, 5, .inl (fl1)) := (congrFun eg31 (b1 + 1)).trans ((va_up_ne _ _ (by omega)).trans fg29_1)
          have fg31_2 : g31 (b1 + 2) = .inl (cI, 6, .inl (fh1)) := (congrFun eg31 (b1 + 2)).trans ((va_up_ne _ _ (by omega)).trans fg29_2)
          have fg31_3 : g31 (b1 + 3) = .inl (cI, 6, .inl (ft1)) := (congrFun eg31 (b1 + 3)).trans ((va_up_ne _ _ (by omega)).trans fg29_3)
          have fg31_4 : g31 (b1 + 4) = .inl (cJ, 6, .inr (.inl (fs1))) := (congrFun eg31 (b1 + 4)).trans ((va_up_ne _ _ (by omega)).trans fg29_4)
          have fg31_5 : g31 (b2) = .inr (4, [.ref (ad (b2 + 1)), .ref (ad (b2 + 2)), .ref (ad (b2 + 3)), .ref (ad (b2 + 4)), .int (nI (n2)), .int (co2), .long (ow2)]) := (congrFun eg31 (b2)).trans ((va_up_ne _ _ (by omega)).trans fg29_5)
          have fg31_6 : g31 (b2 + 1) = .inl (cI, 5, .inl (fl2)) := (congrFun eg31 (b2 + 1)).trans ((va_up_ne _ _ (by omega)).trans fg29_6)
          have fg31_7 : g31 (b2 + 2) = .inl (cI, 6, .inl (fh2)) := (congrFun eg31 (b2 + 2)).trans ((va_up_ne _ _ (by omega)).trans fg29_7)
          have fg31_8 : g31 (b2 + 3) = .inl (cI, 6, .inl (ft2)) := (congrFun eg31 (b2 + 3)).trans ((va_up_ne _ _ (by omega)).trans fg29_8)
          have fg31_9 : g31 (b2 + 4) = .inl (cJ, 6, .inr (.inl (fs2))) := (congrFun eg31 (b2 + 4)).trans ((va_up_ne _ _ (by omega)).trans fg29_9)
          have fg31_10 : g31 (b3) = .inr (4, [.ref (ad (b3 + 1)), .ref (ad (b3 + 2)), .ref (ad (b3 + 3)), .ref (ad (b3 + 4)), .int (nI (n3)), .int (co3), .long (ow3)]) := (congrFun eg31 (b3)).trans ((va_up_ne _ _ (by omega)).trans fg29_10)
          have fg31_11 : g31 (b3 + 1) = .inl (cI, 5, .inl (fl3)) := (congrFun eg31 (b3 + 1)).trans ((va_up_ne _ _ (by omega)).trans fg29_11)
          have fg31_12 : g31 (b3 + 2) = .inl (cI, 6, .inl (fh3)) := (congrFun eg31 (b3 + 2)).trans ((va_up_ne _ _ (by omega)).trans fg29_12)
          have fg31_13 : g31 (b3 + 3) = .inl (cI, 6, .inl (ft3)) := (congrFun eg31 (b3 + 3)).trans ((va_up_ne _ _ (by omega)).trans fg29_13)
          have fg31_14 : g31 (b3 + 4) = .inl (cJ, 6, .inr (.inl (fs3))) := (congrFun eg31 (b3 + 4)).trans ((va_up_ne _ _ (by omega)).trans fg29_14)
          have fg31_15 : g31 (5) = .inl (cW, 3, .inr (.inr (.inr (.inr (va_up (f5) (2) (some (ad (b1)))))))) := (congrFun eg31 (5)).trans ((va_up_ne _ _ (by decide)).trans fg29_15)
          have fg31_16 : g31 (7) = .inl (cJ, 3, .inr (.inl (vp_updL (f7) (2) (lZ ((sf1 0 : Int)))))) := (congrFun eg31 (7)).trans ((va_up_ne _ _ (by decide)).trans fg29_16)
          have fg31_17 : g31 (4) = .inr (2, [.ref (ad (5)), .ref (ad (6)), .ref (ad (7)), .int (nI (3))]) := (congrFun eg31 (4)).trans ((va_up_ne _ _ (by decide)).trans fg29_17)
          have fg31_w : g31 (6) = .inl (cJ, 9, .inr (.inl (vp_updL (vp_updL (vp_updL (vp_updL (vp_updL (vp_updL (f6) (6) (lZ ((lapS sf1 u2 n2 u1 n1 5 : Int)))) (2) (lZ ((lapS sf2 u1 n1 u2 n2 5 : Int)))) (7) (lZ ((lapS sf1 u3 n3 u1 n1 5 : Int)))) (5) (lZ ((lapS sf3 u1 n1 u3 n3 5 : Int)))) (8) (lZ ((lapS sf1 u1 n1 u1 n1 5 : Int)))) (8) (lZ ((lapS sf1 u1 n1 u1 n1 5 : Int)))))) := (congrFun eg31 (6)).trans (va_up_self _ _ _)
          have hfrg31 : ∀ j : Nat, j ≠ 4 → j ≠ 5 → j ≠ 6 → j ≠ 7 → g31 j = g j := fun j h0 h1 h2 h3 => (congrFun eg31 j).trans ((va_up_ne _ _ h2).trans (hfrg29 j h0 h1 h2 h3))
          refine lv_iinc (v := nI (3)) (lv' := [(3, .int (nI (3))), (4, .ref (ad (b1))), (2, .int (nI (2))), (0, .ref (ad (4))), (1, .ref (ad (b1)))]) hx hb dX2_enter_150 hl (k := 1) rfl (nI_add (2) 1) (by decide) rfl (fun ls hl => ?_)
          refine lv_goto (tgt := 97) hx hb dX2_enter_153 (by decide) ?_
          refine lv_iload_n hx hb dX2_enter_97 rfl (lv_at hl 0 rfl) ?_
          refine lv_aload_n hx hb dX2_enter_98 rfl (lv_at hl 3 rfl) ?_
          refine xw_get hx hb hts hin2 hown hK hP (by decide) fg31_17 rfl 3 (by decide) hf27 rfl rfl dX2_enter_99 ?_
          refine xi_icmp_ge (tgt := 156) hx hb (by decide) (by decide) dX2_enter_102 (by decide) (fun _ => ?_) (fun c0 => absurd c0 (by decide))
          refine lv_iconst (v := nI (1)) hx hb dX2_enter_156 (by decide) ?_
          exact W.zret (v := nI (1)) hx hb hr (by decide) (fun tZ ht hW => ⟨⟨_, g31, rfl, Or.inl ⟨rfl, (fun h => h.elim (fun h => h.elim c36_4 c44_6) (fun h => h.elim c36_9 c44_11)), fg31_17, fg31_15, fg31_w, fg31_16, hfrg31⟩, by rw [ht]; exact hP, va_K.moved hW.alike hK, va_Nw.warmM hW hN⟩, hS.F ht⟩) hS.2.2 dX2_enter_157
        · refine lv_iconst (v := nI (0)) hx hb dX2_enter_47 (by decide) ?_
          exact W.zret (v := nI (0)) hx hb hr (by decide) (fun tZ ht hW => ⟨⟨_, g, rfl, Or.inr ⟨rfl, (Or.inr (Or.inr c44_11)), rfl⟩, by rw [ht]; exact hP, va_K.moved hW.alike hK, va_Nw.warmM hW hN⟩, hS.F ht⟩) hS.2.2 dX2_enter_48
    · refine lv_iconst (v := nI (0)) hx hb dX2_enter_47 (by decide) ?_
      exact W.zret (v := nI (0)) hx hb hr (by decide) (fun tZ ht hW => ⟨⟨_, g, rfl, Or.inr ⟨rfl, (Or.inl (Or.inr c44_6)), rfl⟩, by rw [ht]; exact hP, va_K.moved hW.alike hK, va_Nw.warmM hW hN⟩, hS.F ht⟩) hS.2.2 dX2_enter_48

set_option maxHeartbeats 4000000 in
set_option maxRecDepth 100000 in
/-- Race.enter, full -/
theorem mX2_enter3 (l : Launch) {D : va_G} {cI cJ cZ cW : ClassId} {ad : Nat → Nat} {g : Nat → va_E} {b1 : Nat}  (fo4 : g (4) = .inr (2, [.ref (ad (5)), .ref (ad (6)), .ref (ad (7)), .int (nI (3))]))  : Met l yX2_enter wsX2_enter ({ frames := 0, cells := 0, slots := 0, locals := 0 }) (va_Pc [.ref (ad (4)), .ref (ad (b1))] (xB D (xT cI cJ cZ cW) ad g)) (vp_Si (fun r => r = nI 0)) 0 0 (fun _ => False) := by
  refine Met.ofW (cc := cX2_enter) (maxL := 5) (ret := (some .boolean)) (by decide) rfl ?_
  intro p e s m args below meth c s₁ B hml hv
  obtain ⟨rfl, hP, hK, hN⟩ := hv
  have hx := B.exec
  have hb := B.bytes
  have hr := B.returns
  have hts := atoms_spec (ws := wsX2_enter) B.pre
  have hown : s.vm.findClass RX2 = some m.cls := findClass_of_methodNamed B.named
  have hlocks := B.notSynchronized
  have hin2 : ∀ w ∈ wsX20, w ∈ wsX2_enter := by decide +kernel
  have hf27 := hts (.fieldLink RX2 27 "LettersByLot$Race" "size" "I") (by decide +kernel)
  have hl := lv_entry ([.ref (ad (4)), .ref (ad (b1))]) (n := 5) (Nat.le_of_ble_eq_true rfl)
  rw [lg_entry_eq]
  generalize (lg_sl ([.ref (ad (4)), .ref (ad (b1))]) ++ List.replicate (5 - (lg_sl ([.ref (ad (4)), .ref (ad (b1))])).length) Slot.unset).toArray = ls at hl ⊢
  have hl : lv_has ls 5 [(0, .ref (ad (4))), (1, .ref (ad (b1)))] := hl
  refine lv_aload_n hx hb dX2_enter_0 rfl (lv_at hl 0 rfl) ?_
  refine xw_get hx hb hts hin2 hown hK hP (by decide) fo4 rfl 3 (by decide) hf27 rfl rfl dX2_enter_1 ?_
  refine lv_iconst (v := nI (3)) hx hb dX2_enter_4 (by decide) ?_
  refine xi_icmp_lt (tgt := 10) hx hb (by decide) (by decide) dX2_enter_5 (by decide) (fun c0 => absurd c0 (by decide)) (fun _ => ?_)
  refine lv_iconst (v := nI (0)) hx hb dX2_enter_8 (by decide) ?_
  exact W.zret (v := nI (0)) hx hb hr (by decide) (fun tZ ht _ => ⟨_, rfl, rfl, ht⟩) (fun q hq => by cases hq) dX2_enter_9

set_option maxHeartbeats 4000000 in
set_option maxRecDepth 100000 in
/-- Race.entry -/
theorem mX2_entry (l : Launch) {D : va_G} {cI cJ cZ cW : ClassId} {ad : Nat → Nat} {g : Nat → va_E} {r c0 rp : Nat} {sz : Nat} {f6 f7 : Nat → Int64} {Mx Kx : Nat → Int}  (fo4 : g (4) = .inr (2, [.ref (ad (5)), .ref (ad (6)), .ref (ad (7)), .int (nI (sz))])) (fa6 : g (6) = .inl (cJ, 9, .inr (.inl (f6)))) (fa7 : g (7) = .inl (cJ, 3, .inr (.inl (f7)))) (h6 : ∀ i, i < 9 → f6 i = lZ (Mx i)) (h7 : ∀ i, i < 3 → f7 i = lZ (Kx i)) (hr3 : r < 3) (hc : c0 < 3) (hrp : rp ≤ 3) : Met l yX2_entry wsX2_entry ({ frames := 0, cells := 0, slots := 0, locals := 0 }) (va_Pc [.ref (ad (4)), .int (nI (r)), .int (nI (c0)), .int (colI rp)] (xB D (xT cI cJ cZ cW) ad g)) (vp_Sl (fun r9 => r9 = lZ (enM Mx Kx rp r c0))) 0 0 (fun _ => False) := by
  refine Met.ofW (cc := cX2_entry) (maxL := 4) (ret := (some .long)) (by decide) rfl ?_
  intro p e s m args below meth c s₁ B hml hv
  obtain ⟨rfl, hP, hK, hN⟩ := hv
  have hx := B.exec
  have hb := B.bytes
  have hr := B.returns
  have hts := atoms_spec (ws := wsX2_entry) B.pre
  have hown : s.vm.findClass RX2 = some m.cls := findClass_of_methodNamed B.named
  have hlocks := B.notSynchronized
  have hin2 : ∀ w ∈ wsX20, w ∈ wsX2_entry := by decide +kernel
  have hf17 := hts (.fieldLink RX2 17 "LettersByLot$Race" "leads" "[J") (by decide +kernel)
  have hf21 := hts (.fieldLink RX2 21 "LettersByLot$Race" "asked" "[J") (by decide +kernel)
  have hl := lv_entry ([.ref (ad (4)), .int (nI (r)), .int (nI (c0)), .int (colI rp)]) (n := 4) (Nat.le_of_ble_eq_true rfl)
  rw [lg_entry_eq]
  generalize (lg_sl ([.ref (ad (4)), .int (nI (r)), .int (nI (c0)), .int (colI rp)]) ++ List.replicate (4 - (lg_sl ([.ref (ad (4)), .int (nI (r)), .int (nI (c0)), .int (colI rp)])).length) Slot.unset).toArray = ls at hl ⊢
  have hl : lv_has ls 4 [(0, .ref (ad (4))), (1, .int (nI (r))), (2, .int (nI (c0))), (3, .int (colI rp))] := hl
  refine lv_iload_n hx hb dX2_entry_0 rfl (lv_at hl 2 rfl) ?_
  refine lv_iload_n hx hb dX2_entry_1 rfl (lv_at hl 3 rfl) ?_
  refine lv_icmp_ne (tgt := 14) hx hb dX2_entry_2 (by decide) (fun c2_1 => ?_) (fun c2_1 => ?_)
  · refine lv_aload_n hx hb dX2_entry_14 rfl (lv_at hl 0 rfl) ?_
    refine xw_get hx hb hts hin2 hown hK hP (by decide) fo4 rfl 1 (by decide) hf17 rfl rfl dX2_entry_15 ?_
    refine lv_iload_n hx hb dX2_entry_18 rfl (lv_at hl 1 rfl) ?_
    refine lv_iconst (v := nI (3)) hx hb dX2_entry_19 (by decide) ?_
    refine xi_mul hx hb dX2_entry_20 ?_
    refine lv_iload_n hx hb dX2_entry_21 rfl (lv_at hl 2 rfl) ?_
    refine xi_add hx hb dX2_entry_22 ?_
    refine xw_lald hx hb hK hP (by decide) 1 fa6 rfl (by omega) (by decide) dX2_entry_23 ?_
    rw [h6 ((r * 3) + c0) (by omega)]
    exact W.lret (v := lZ (Mx ((r * 3) + c0))) hx hb hr (fun tZ ht _ => ⟨_, rfl, (by show _ = lZ (enM Mx Kx rp r c0); unfold enM; rw [if_neg (fun h => c2_1 ((colI_ne hrp hc).mpr h))]), ht⟩) (fun q hq => by cases hq) dX2_entry_24
  · refine lv_aload_n hx hb dX2_entry_5 rfl (lv_at hl 0 rfl) ?_
    refine xw_get hx hb hts hin2 hown hK hP (by decide) fo4 rfl 2 (by decide) hf21 rfl rfl dX2_entry_6 ?_
    refine lv_iload_n hx hb dX2_entry_9 rfl (lv_at hl 1 rfl) ?_
    refine xw_lald hx hb hK hP (by decide) 1 fa7 rfl (by omega) (by decide) dX2_entry_10 ?_
    rw [h7 (r) (by omega)]
    refine lv_goto (tgt := 24) hx hb dX2_entry_11 (by decide) ?_
    exact W.lret (v := lZ (Kx (r))) hx hb hr (fun tZ ht _ => ⟨_, rfl, (by show _ = lZ (enM Mx Kx rp r c0); unfold enM; rw [if_pos ((colI_ne hrp hc).mp c2_1)]), ht⟩) (fun q hq => by cases hq) dX2_entry_24

set_option maxHeartbeats 4000000 in
set_option maxRecDepth 100000 in
/-- Race.minor -/
theorem mX2_minor (l : Launch) {D : va_G} {cI cJ cZ cW : ClassId} {ad : Nat → Nat} {g : Nat → va_E} {a0 b0 rp : Nat} {sz : Nat} {f6 f7 : Nat → Int64} {Mx Kx : Nat → Int}  (fo4 : g (4) = .inr (2, [.ref (ad (5)), .ref (ad (6)), .ref (ad (7)), .int (nI (sz))])) (fa6 : g (6) = .inl (cJ, 9, .inr (.inl (f6)))) (fa7 : g (7) = .inl (cJ, 3, .inr (.inl (f7)))) (h6 : ∀ i, i < 9 → f6 i = lZ (Mx i)) (h7 : ∀ i, i < 3 → f7 i = lZ (Kx i)) (ha0 : a0 < 3) (hb0 : b0 < 3) (hrp : rp ≤ 3) : Met l yX2_minor wsX2_minor ({ frames := 1, cells := 0, slots := 0, locals := 23 }) (va_Pc [.ref (ad (4)), .int (nI (a0)), .int (nI (b0)), .int (colI rp)] (xB D (xT cI cJ cZ cW) ad g)) (vp_Sl (fun r9 => r9 = lZ (mnM Mx Kx rp a0 b0))) 0 0 (fun _ => False) := by
  refine Met.ofW (cc := cX2_minor) (maxL := 4) (ret := (some .long)) (by decide) rfl ?_
  intro p e s m args below meth c s₁ B hml hv
  obtain ⟨rfl, hP, hK, hN⟩ := hv
  have hx := B.exec
  have hb := B.bytes
  have hr := B.returns
  have hts := atoms_spec (ws := wsX2_minor) B.pre
  have hown : s.vm.findClass RX2 = some m.cls := findClass_of_methodNamed B.named
  have hlocks := B.notSynchronized
  have hl := lv_entry ([.ref (ad (4)), .int (nI (a0)), .int (nI (b0)), .int (colI rp)]) (n := 4) (Nat.le_of_ble_eq_true rfl)
  rw [lg_entry_eq]
  generalize (lg_sl ([.ref (ad (4)), .int (nI (a0)), .int (nI (b0)), .int (colI rp)]) ++ List.replicate (4 - (lg_sl ([.ref (ad (4)), .int (nI (a0)), .int (nI (b0)), .int (colI rp)])).length) Slot.unset).toArray = ls at hl ⊢
  have hl : lv_has ls 4 [(0, .ref (ad (4))), (1, .int (nI (a0))), (2, .int (nI (b0))), (3, .int (colI rp))] := hl
  refine lv_aload_n hx hb dX2_minor_0 rfl (lv_at hl 0 rfl) ?_
  refine lv_iconst (v := nI (1)) hx hb dX2_minor_1 (by decide) ?_
  refine lv_iload_n hx hb dX2_minor_2 rfl (lv_at hl 1 rfl) ?_
  refine lv_iload_n hx hb dX2_minor_3 rfl (lv_at hl 3 rfl) ?_
  refine vp_callSl (va_Run.run (va_runV (As := [.int (nI (1)), .int (nI (a0)), .int (colI rp)]) (rest := []) ⟨hx, hb, hml, hown, hts⟩ (mX2_entry l (rp := rp) fo4 fa6 fa7 h6 h7 (by omega) (by omega) (by omega)) (cwV 3 hts gX2_minor_X2_entry rfl rfl rfl (by decide +kernel) ⟨Nat.le_of_ble_eq_true rfl, Nat.le_of_ble_eq_true rfl⟩) ⟨xB_blind, va_recv hK hP (ci := 2) rfl (xw_is (by decide) fo4), fun U hU hW => ⟨rfl, by rw [hU]; exact hP, va_K.moved hW.alike hK, va_Nw.warmM hW hN⟩⟩ rfl rfl hl.1 rfl (lv_room (Nat.le_of_ble_eq_true rfl)) dX2_minor_4 ⟨Nat.le_of_ble_eq_true rfl, Nat.le_of_ble_eq_true rfl⟩)) (fun r1 er1 => ?_)
  subst er1
  refine lv_aload_n hx hb dX2_minor_7 rfl (lv_at hl 0 rfl) ?_
  refine lv_iconst (v := nI (2)) hx hb dX2_minor_8 (by decide) ?_
  refine lv_iload_n hx hb dX2_minor_9 rfl (lv_at hl 2 rfl) ?_
  refine lv_iload_n hx hb dX2_minor_10 rfl (lv_at hl 3 rfl) ?_
  refine vp_callSl (va_Run.run (va_runV (As := [.int (nI (2)), .int (nI (b0)), .int (colI rp)]) (rest := [.long (lZ (enM Mx Kx rp (1) (a0)))]) ⟨hx, hb, hml, hown, hts⟩ (mX2_entry l (rp := rp) fo4 fa6 fa7 h6 h7 (by omega) (by omega) (by omega)) (cwV 3 hts gX2_minor_X2_entry rfl rfl rfl (by decide +kernel) ⟨Nat.le_of_ble_eq_true rfl, Nat.le_of_ble_eq_true rfl⟩) ⟨xB_blind, va_recv hK hP (ci := 2) rfl (xw_is (by decide) fo4), fun U hU hW => ⟨rfl, by rw [hU]; exact hP, va_K.moved hW.alike hK, va_Nw.warmM hW hN⟩⟩ rfl rfl hl.1 rfl (lv_room (Nat.le_of_ble_eq_true rfl)) dX2_minor_11 ⟨Nat.le_of_ble_eq_true rfl, Nat.le_of_ble_eq_true rfl⟩)) (fun r2 er2 => ?_)
  subst er2
  refine xl_mul hx hb dX2_minor_14 ?_
  refine lv_aload_n hx hb dX2_minor_15 rfl (lv_at hl 0 rfl) ?_
  refine lv_iconst (v := nI (1)) hx hb dX2_minor_16 (by decide) ?_
  refine lv_iload_n hx hb dX2_minor_17 rfl (lv_at hl 2 rfl) ?_
  refine lv_iload_n hx hb dX2_minor_18 rfl (lv_at hl 3 rfl) ?_
  refine vp_callSl (va_Run.run (va_runV (As := [.int (nI (1)), .int (nI (b0)), .int (colI rp)]) (rest := [.long (lZ ((enM Mx Kx rp (1) (a0)) * (enM Mx Kx rp (2) (b0))))]) ⟨hx, hb, hml, hown, hts⟩ (mX2_entry l (rp := rp) fo4 fa6 fa7 h6 h7 (by omega) (by omega) (by omega)) (cwV 3 hts gX2_minor_X2_entry rfl rfl rfl (by decide +kernel) ⟨Nat.le_of_ble_eq_true rfl, Nat.le_of_ble_eq_true rfl⟩) ⟨xB_blind, va_recv hK hP (ci := 2) rfl (xw_is (by decide) fo4), fun U hU hW => ⟨rfl, by rw [hU]; exact hP, va_K.moved hW.alike hK, va_Nw.warmM hW hN⟩⟩ rfl rfl hl.1 rfl (lv_room (Nat.le_of_ble_eq_true rfl)) dX2_minor_19 ⟨Nat.le_of_ble_eq_true rfl, Nat.le_of_ble_eq_true rfl⟩)) (fun r3 er3 => ?_)
  subst er3
  refine lv_aload_n hx hb dX2_minor_22 rfl (lv_at hl 0 rfl) ?_
  refine lv_iconst (v := nI (2)) hx hb dX2_minor_23 (by decide) ?_
  refine lv_iload_n hx hb dX2_minor_24 rfl (lv_at hl 1 rfl) ?_
  refine lv_iload_n hx hb dX2_minor_25 rfl (lv_at hl 3 rfl) ?_
  refine vp_callSl (va_Run.run (va_runV (As := [.int (nI (2)), .int (nI (a0)), .int (colI rp)]) (rest := [.long (lZ (enM Mx Kx rp (1) (b0))), .long (lZ ((enM Mx Kx rp (1) (a0)) * (enM Mx Kx rp (2) (b0))))]) ⟨hx, hb, hml, hown, hts⟩ (mX2_entry l (rp := rp) fo4 fa6 fa7 h6 h7 (by omega) (by omega) (by omega)) (cwV 3 hts gX2_minor_X2_entry rfl rfl rfl (by decide +kernel) ⟨Nat.le_of_ble_eq_true rfl, Nat.le_of_ble_eq_true rfl⟩) ⟨xB_blind, va_recv hK hP (ci := 2) rfl (xw_is (by decide) fo4), fun U hU hW => ⟨rfl, by rw [hU]; exact hP, va_K.moved hW.alike hK, va_Nw.warmM hW hN⟩⟩ rfl rfl hl.1 rfl (lv_room (Nat.le_of_ble_eq_true rfl)) dX2_minor_26 ⟨Nat.le_of_ble_eq_true rfl, Nat.le_of_ble_eq_true rfl⟩)) (fun r4 er4 => ?_)
  subst er4
  refine xl_mul hx hb dX2_minor_29 ?_
  refine xl_sub hx hb dX2_minor_30 ?_
  exact W.lret (v := lZ (((enM Mx Kx rp (1) (a0)) * (enM Mx Kx rp (2) (b0))) - ((enM Mx Kx rp (1) (b0)) * (enM Mx Kx rp (2) (a0))))) hx hb hr (fun tZ ht _ => ⟨_, rfl, rfl, ht⟩) (fun q hq => by cases hq) dX2_minor_31

set_option maxHeartbeats 4000000 in
set_option maxRecDepth 100000 in
/-- Race.determinant -/
theorem mX2_determinant (l : Launch) {D : va_G} {cI cJ cZ cW : ClassId} {ad : Nat → Nat} {g : Nat → va_E} {rp : Nat} {sz : Nat} {f6 f7 : Nat → Int64} {Mx Kx : Nat → Int}  (fo4 : g (4) = .inr (2, [.ref (ad (5)), .ref (ad (6)), .ref (ad (7)), .int (nI (sz))])) (fa6 : g (6) = .inl (cJ, 9, .inr (.inl (f6)))) (fa7 : g (7) = .inl (cJ, 3, .inr (.inl (f7)))) (h6 : ∀ i, i < 9 → f6 i = lZ (Mx i)) (h7 : ∀ i, i < 3 → f7 i = lZ (Kx i)) (hrp : rp ≤ 3) : Met l yX2_determinant wsX2_determinant ({ frames := 2, cells := 0, slots := 0, locals := 46 }) (va_Pc [.ref (ad (4)), .int (colI rp)] (xB D (xT cI cJ cZ cW) ad g)) (vp_Sl (fun r9 => r9 = lZ (dtM Mx Kx rp))) 0 0 (fun _ => False) := by
  refine Met.ofW (cc := cX2_determinant) (maxL := 2) (ret := (some .long)) (by decide) rfl ?_
  intro p e s m args below meth c s₁ B hml hv
  obtain ⟨rfl, hP, hK, hN⟩ := hv
  have hx := B.exec
  have hb := B.bytes
  have hr := B.returns
  have hts := atoms_spec (ws := wsX2_determinant) B.pre
  have hown : s.vm.findClass RX2 = some m.cls := findClass_of_methodNamed B.named
  have hlocks := B.notSynchronized
  have hl := lv_entry ([.ref (ad (4)), .int (colI rp)]) (n := 2) (Nat.le_of_ble_eq_true rfl)
  rw [lg_entry_eq]
  generalize (lg_sl ([.ref (ad (4)), .int (colI rp)]) ++ List.replicate (2 - (lg_sl ([.ref (ad (4)), .int (colI rp)])).length) Slot.unset).toArray = ls at hl ⊢
  have hl : lv_has ls 2 [(0, .ref (ad (4))), (1, .int (colI rp))] := hl
  refine lv_aload_n hx hb dX2_determinant_0 rfl (lv_at hl 0 rfl) ?_
  refine lv_iconst (v := nI (0)) hx hb dX2_determinant_1 (by decide) ?_
  refine lv_iconst (v := nI (0)) hx hb dX2_determinant_2 (by decide) ?_
  refine lv_iload_n hx hb dX2_determinant_3 rfl (lv_at hl 1 rfl) ?_
  refine vp_callSl (va_Run.run (va_runV (As := [.int (nI (0)), .int (nI (0)), .int (colI rp)]) (rest := []) ⟨hx, hb, hml, hown, hts⟩ (mX2_entry l (rp := rp) fo4 fa6 fa7 h6 h7 (by omega) (by omega) (by omega)) (cwV 3 hts gX2_determinant_X2_entry rfl rfl rfl (by decide +kernel) ⟨Nat.le_of_ble_eq_true rfl, Nat.le_of_ble_eq_true rfl⟩) ⟨xB_blind, va_recv hK hP (ci := 2) rfl (xw_is (by decide) fo4), fun U hU hW => ⟨rfl, by rw [hU]; exact hP, va_K.moved hW.alike hK, va_Nw.warmM hW hN⟩⟩ rfl rfl hl.1 rfl (lv_room (Nat.le_of_ble_eq_true rfl)) dX2_determinant_4 ⟨Nat.le_of_ble_eq_true rfl, Nat.le_of_ble_eq_true rfl⟩)) (fun r1 er1 => ?_)
  subst er1
  refine lv_aload_n hx hb dX2_determinant_7 rfl (lv_at hl 0 rfl) ?_
  refine lv_iconst (v := nI (1)) hx hb dX2_determinant_8 (by decide) ?_
  refine lv_iconst (v := nI (2)) hx hb dX2_determinant_9 (by decide) ?_
  refine lv_iload_n hx hb dX2_determinant_10 rfl (lv_at hl 1 rfl) ?_
  refine vp_callSl (va_Run.run (va_runV (As := [.int (nI (1)), .int (nI (2)), .int (colI rp)]) (rest := [.long (lZ (enM Mx Kx rp (0) (0)))]) ⟨hx, hb, hml, hown, hts⟩ (mX2_minor l (rp := rp) fo4 fa6 fa7 h6 h7 (by omega) (by omega) (by omega)) (cwV 3 hts gX2_determinant_X2_minor rfl rfl rfl (by decide +kernel) ⟨Nat.le_of_ble_eq_true rfl, Nat.le_of_ble_eq_true rfl⟩) ⟨xB_blind, va_recv hK hP (ci := 2) rfl (xw_is (by decide) fo4), fun U hU hW => ⟨rfl, by rw [hU]; exact hP, va_K.moved hW.alike hK, va_Nw.warmM hW hN⟩⟩ rfl rfl hl.1 rfl (lv_room (Nat.le_of_ble_eq_true rfl)) dX2_determinant_11 ⟨Nat.le_of_ble_eq_true rfl, Nat.le_of_ble_eq_true rfl⟩)) (fun r2 er2 => ?_)
  subst er2
  refine xl_mul hx hb dX2_determinant_14 ?_
  refine lv_aload_n hx hb dX2_determinant_15 rfl (lv_at hl 0 rfl) ?_
  refine lv_iconst (v := nI (0)) hx hb dX2_determinant_16 (by decide) ?_
  refine lv_iconst (v := nI (1)) hx hb dX2_determinant_17 (by decide) ?_
  refine lv_iload_n hx hb dX2_determinant_18 rfl (lv_at hl 1 rfl) ?_
  refine vp_callSl (va_Run.run (va_runV (As := [.int (nI (0)), .int (nI (1)), .int (colI rp)]) (rest := [.long (lZ ((enM Mx Kx rp (0) (0)) * (mnM Mx Kx rp (1) (2))))]) ⟨hx, hb, hml, hown, hts⟩ (mX2_entry l (rp := rp) fo4 fa6 fa7 h6 h7 (by omega) (by omega) (by omega)) (cwV 3 hts gX2_determinant_X2_entry rfl rfl rfl (by decide +kernel) ⟨Nat.le_of_ble_eq_true rfl, Nat.le_of_ble_eq_true rfl⟩) ⟨xB_blind, va_recv hK hP (ci := 2) rfl (xw_is (by decide) fo4), fun U hU hW => ⟨rfl, by rw [hU]; exact hP, va_K.moved hW.alike hK, va_Nw.warmM hW hN⟩⟩ rfl rfl hl.1 rfl (lv_room (Nat.le_of_ble_eq_true rfl)) dX2_determinant_19 ⟨Nat.le_of_ble_eq_true rfl, Nat.le_of_ble_eq_true rfl⟩)) (fun r3 er3 => ?_)
  subst er3
  refine lv_aload_n hx hb dX2_determinant_22 rfl (lv_at hl 0 rfl) ?_
  refine lv_iconst (v := nI (0)) hx hb dX2_determinant_23 (by decide) ?_
  refine lv_iconst (v := nI (2)) hx hb dX2_determinant_24 (by decide) ?_
  refine lv_iload_n hx hb dX2_determinant_25 rfl (lv_at hl 1 rfl) ?_
  refine vp_callSl (va_Run.run (va_runV (As := [.int (nI (0)), .int (nI (2)), .int (colI rp)]) (rest := [.long (lZ (enM Mx Kx rp (0) (1))), .long (lZ ((enM Mx Kx rp (0) (0)) * (mnM Mx Kx rp (1) (2))))]) ⟨hx, hb, hml, hown, hts⟩ (mX2_minor l (rp := rp) fo4 fa6 fa7 h6 h7 (by omega) (by omega) (by omega)) (cwV 3 hts gX2_determinant_X2_minor rfl rfl rfl (by decide +kernel) ⟨Nat.le_of_ble_eq_true rfl, Nat.le_of_ble_eq_true rfl⟩) ⟨xB_blind, va_recv hK hP (ci := 2) rfl (xw_is (by decide) fo4), fun U hU hW => ⟨rfl, by rw [hU]; exact hP, va_K.moved hW.alike hK, va_Nw.warmM hW hN⟩⟩ rfl rfl hl.1 rfl (lv_room (Nat.le_of_ble_eq_true rfl)) dX2_determinant_26 ⟨Nat.le_of_ble_eq_true rfl, Nat.le_of_ble_eq_true rfl⟩)) (fun r4 er4 => ?_)
  subst er4
  refine xl_mul hx hb dX2_determinant_29 ?_
  refine xl_sub hx hb dX2_determinant_30 ?_
  refine lv_aload_n hx hb dX2_determinant_31 rfl (lv_at hl 0 rfl) ?_
  refine lv_iconst (v := nI (0)) hx hb dX2_determinant_32 (by decide) ?_
  refine lv_iconst (v := nI (2)) hx hb dX2_determinant_33 (by decide) ?_
  refine lv_iload_n hx hb dX2_determinant_34 rfl (lv_at hl 1 rfl) ?_
  refine vp_callSl (va_Run.run (va_runV (As := [.int (nI (0)), .int (nI (2)), .int (colI rp)]) (rest := [.long (lZ (((enM Mx Kx rp (0) (0)) * (mnM Mx Kx rp (1) (2))) - ((enM Mx Kx rp (0) (1)) * (mnM Mx Kx rp (0) (2)))))]) ⟨hx, hb, hml, hown, hts⟩ (mX2_entry l (rp := rp) fo4 fa6 fa7 h6 h7 (by omega) (by omega) (by omega)) (cwV 3 hts gX2_determinant_X2_entry rfl rfl rfl (by decide +kernel) ⟨Nat.le_of_ble_eq_true rfl, Nat.le_of_ble_eq_true rfl⟩) ⟨xB_blind, va_recv hK hP (ci := 2) rfl (xw_is (by decide) fo4), fun U hU hW => ⟨rfl, by rw [hU]; exact hP, va_K.moved hW.alike hK, va_Nw.warmM hW hN⟩⟩ rfl rfl hl.1 rfl (lv_room (Nat.le_of_ble_eq_true rfl)) dX2_determinant_35 ⟨Nat.le_of_ble_eq_true rfl, Nat.le_of_ble_eq_true rfl⟩)) (fun r5 er5 => ?_)
  subst er5
  refine lv_aload_n hx hb dX2_determinant_38 rfl (lv_at hl 0 rfl) ?_
  refine lv_iconst (v := nI (0)) hx hb dX2_determinant_39 (by decide) ?_
  refine lv_iconst (v := nI (1)) hx hb dX2_determinant_40 (by decide) ?_
  refine lv_iload_n hx hb dX2_determinant_41 rfl (lv_at hl 1 rfl) ?_
  refine vp_callSl (va_Run.run (va_runV (As := [.int (nI (0)), .int (nI (1)), .int (colI rp)]) (rest := [.long (lZ (enM Mx Kx rp (0) (2))), .long (lZ (((enM Mx Kx rp (0) (0)) * (mnM Mx Kx rp (1) (2))) - ((enM Mx Kx rp (0) (1)) * (mnM Mx Kx rp (0) (2)))))]) ⟨hx, hb, hml, hown, hts⟩ (mX2_minor l (rp := rp) fo4 fa6 fa7 h6 h7 (by omega) (by omega) (by omega)) (cwV 3 hts gX2_determinant_X2_minor rfl rfl rfl (by decide +kernel) ⟨Nat.le_of_ble_eq_true rfl, Nat.le_of_ble_eq_true rfl⟩) ⟨xB_blind, va_recv hK hP (ci := 2) rfl (xw_is (by decide) fo4), fun U hU hW => ⟨rfl, by rw [hU]; exact hP, va_K.moved hW.alike hK, va_Nw.warmM hW hN⟩⟩ rfl rfl hl.1 rfl (lv_room (Nat.le_of_ble_eq_true rfl)) dX2_determinant_42 ⟨Nat.le_of_ble_eq_true rfl, Nat.le_of_ble_eq_true rfl⟩)) (fun r6 er6 => ?_)
  subst er6
  refine xl_mul hx hb dX2_determinant_45 ?_
  refine xl_add hx hb dX2_determinant_46 ?_
  exact W.lret (v := lZ ((((enM Mx Kx rp (0) (0)) * (mnM Mx Kx rp (1) (2))) - ((enM Mx Kx rp (0) (1)) * (mnM Mx Kx rp (0) (2)))) + ((enM Mx Kx rp (0) (2)) * (mnM Mx Kx rp (0) (1))))) hx hb hr (fun tZ ht _ => ⟨_, rfl, rfl, ht⟩) (fun q hq => by cases hq) dX2_determinant_47

set_option maxHeartbeats 4000000 in
set_option maxRecDepth 100000 in
/-- Race.sumOfShares -/
theorem mX2_sumOfShares (l : Launch) {D : va_G} {cI cJ cZ cW : ClassId} {ad : Nat → Nat} {g : Nat → va_E} {sz : Nat} {f6 f7 : Nat → Int64} {Mx Kx : Nat → Int}  (fo4 : g (4) = .inr (2, [.ref (ad (5)), .ref (ad (6)), .ref (ad (7)), .int (nI (sz))])) (fa6 : g (6) = .inl (cJ, 9, .inr (.inl (f6)))) (fa7 : g (7) = .inl (cJ, 3, .inr (.inl (f7)))) (h6 : ∀ i, i < 9 → f6 i = lZ (Mx i)) (h7 : ∀ i, i < 3 → f7 i = lZ (Kx i)) (hsz : sz ≤ 3) : Met l yX2_sumOfShares wsX2_sumOfShares ({ frames := 3, cells := 0, slots := 0, locals := 67 }) (va_Pc [.ref (ad (4))] (xB D (xT cI cJ cZ cW) ad g)) (vp_Sl (fun r9 => r9 = lZ (ssM Mx Kx sz))) 0 0 (fun _ => False) := by
  refine Met.ofW (cc := cX2_sumOfShares) (maxL := 4) (ret := (some .long)) (by decide) rfl ?_
  intro p e s m args below meth c s₁ B hml hv
  obtain ⟨rfl, hP, hK, hN⟩ := hv
  have hx := B.exec
  have hb := B.bytes
  have hr := B.returns
  have hts := atoms_spec (ws := wsX2_sumOfShares) B.pre
  have hown : s.vm.findClass RX2 = some m.cls := findClass_of_methodNamed B.named
  have hlocks := B.notSynchronized
  have hin2 : ∀ w ∈ wsX20, w ∈ wsX2_sumOfShares := by decide +kernel
  have hf27 := hts (.fieldLink RX2 27 "LettersByLot$Race" "size" "I") (by decide +kernel)
  have hl := lv_entry ([.ref (ad (4))]) (n := 4) (Nat.le_of_ble_eq_true rfl)
  rw [lg_entry_eq]
  generalize (lg_sl ([.ref (ad (4))]) ++ List.replicate (4 - (lg_sl ([.ref (ad (4))])).length) Slot.unset).toArray = ls at hl ⊢
  have hl : lv_has ls 4 [(0, .ref (ad (4)))] := hl
  refine lv_lconst (v := lZ (0)) hx hb dX2_sumOfShares_0 (by decide) ?_
  refine lv_lstore_n (lv' := [(1, .long (lZ (0))), (0, .ref (ad (4)))]) hx hb dX2_sumOfShares_1 rfl hl (by decide) rfl (fun ls hl => ?_)
  refine lv_iconst (v := nI (0)) hx hb dX2_sumOfShares_2 (by decide) ?_
  refine lv_istore_n (lv' := [(3, .int (nI (0))), (1, .long (lZ (0))), (0, .ref (ad (4)))]) hx hb dX2_sumOfShares_3 rfl hl (by decide) rfl (fun ls hl => ?_)
  refine xloop (G := fun fr => W p l e _ s m _ below meth c _ _ _ _ _ fr) (σ := Nat) (fun i ls => F0 m 4 ls []) (fun i ls => (i ≤ sz) ∧ lv_has ls 4 [(0, .ref (ad (4))), (1, .long (lZ (ssM Mx Kx i))), (3, .int (nI (i)))]) (fun i => 4 - i) ?_ (0) ls ⟨(by omega), (lv_sub hl [2, 1, 0] rfl)⟩
  rintro i ls ⟨hi, hl⟩ ih4
  refine lv_iload_n hx hb dX2_sumOfShares_4 rfl (lv_at hl 2 rfl) ?_
  refine lv_aload_n hx hb dX2_sumOfShares_5 rfl (lv_at hl 0 rfl) ?_
  refine xw_get hx hb hts hin2 hown hK hP (by decide) fo4 rfl 3 (by decide) hf27 rfl rfl dX2_sumOfShares_6 ?_
  refine xi_icmp_ge (tgt := 26) hx hb (by omega) (by omega) dX2_sumOfShares_9 (by decide) (fun c9_1 => ?_) (fun c9_1 => ?_)
  · refine lv_lload_n hx hb dX2_sumOfShares_26 rfl (lv_at hl 1 rfl) ?_
    exact W.lret (v := lZ (ssM Mx Kx i)) hx hb hr (fun tZ ht _ => ⟨_, rfl, (by show _ = _; rw [show i = sz by omega]), ht⟩) (fun q hq => by cases hq) dX2_sumOfShares_27
  · refine lv_lload_n hx hb dX2_sumOfShares_12 rfl (lv_at hl 1 rfl) ?_
    refine lv_aload_n hx hb dX2_sumOfShares_13 rfl (lv_at hl 0 rfl) ?_
    refine lv_iload_n hx hb dX2_sumOfShares_14 rfl (lv_at hl 2 rfl) ?_
    refine xtopi (y := colI (i)) (by unfold colI; rw [if_neg (by omega)]) ?_
    refine vp_callSl (va_Run.run (va_runV (As := [.int (colI (i))]) (rest := [.long (lZ (ssM Mx Kx i))]) ⟨hx, hb, hml, hown, hts⟩ (mX2_determinant l (rp := i) fo4 fa6 fa7 h6 h7 (by omega)) (cwV 1 hts gX2_sumOfShares_X2_determinant rfl rfl rfl (by decide +kernel) ⟨Nat.le_of_ble_eq_true rfl, Nat.le_of_ble_eq_true rfl⟩) ⟨xB_blind, va_recv hK hP (ci := 2) rfl (xw_is (by decide) fo4), fun U hU hW => ⟨rfl, by rw [hU]; exact hP, va_K.moved hW.alike hK, va_Nw.warmM hW hN⟩⟩ rfl rfl hl.1 rfl (lv_room (Nat.le_of_ble_eq_true rfl)) dX2_sumOfShares_15 ⟨Nat.le_of_ble_eq_true rfl, Nat.le_of_ble_eq_true rfl⟩)) (fun r2 er2 => ?_)
    subst er2
    refine xl_add hx hb dX2_sumOfShares_18 ?_
    refine xtopl (y := lZ (ssM Mx Kx (i + 1))) rfl ?_
    refine lv_lstore_n (lv' := [(1, .long (lZ (ssM Mx Kx (i + 1)))), (0, .ref (ad (4))), (3, .int (nI (i)))]) hx hb dX2_sumOfShares_19 rfl hl (by decide) rfl (fun ls hl => ?_)
    refine lv_iinc (v := nI (i + 1)) (lv' := [(3, .int (nI (i + 1))), (1, .long (lZ (ssM Mx Kx (i + 1)))), (0, .ref (ad (4)))]) hx hb dX2_sumOfShares_20 hl (k := 2) rfl (nI_add (i) 1) (by decide) rfl (fun ls hl => ?_)
    refine lv_goto (tgt := 4) hx hb dX2_sumOfShares_23 (by decide) ?_
    exact ih4 (i + 1) ls ⟨(by omega), (lv_sub hl [2, 1, 0] rfl)⟩ (by first | omega | (dsimp only; omega))
