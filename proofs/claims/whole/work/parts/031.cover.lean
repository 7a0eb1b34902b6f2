theorem wset_le {w : Nat → Nat} (hw : ∀ j, j < 4 → w j ≤ 4) {s : Nat} : ∀ {i : Nat}, i ≤ 4 → wset w s i ≤ 4 * i
  | 0, _ => Nat.le_refl 0
  | i + 1, h => by
    have h1 := wset_le hw (s := s) (i := i) (by omega)
    have h2 := hw i (by omega)
    show wset w s i + (if s / 2 ^ i % 2 = 1 then w i else 0) ≤ _
    split <;> omega
theorem wset_0 {w : Nat → Nat} : ∀ {i : Nat}, wset w 0 i = 0
  | 0 => rfl
  | i + 1 => by
    show wset w 0 i + (if 0 / 2 ^ i % 2 = 1 then w i else 0) = 0
    rw [wset_0, Nat.zero_div]; rfl
theorem bc_q : ∀ q, q ≤ 4 → ∀ s, s < 2 ^ q → bcN s 8 ≤ q := by decide +kernel
/-- the sum over the sets of letters below s that covered has -/
def cvd (q : Nat) (w : Nat → Nat) (n : Nat) : Nat → Int
  | 0 => 0
  | s + 1 => cvd q w n s + (if (q - bcN s 8) % 2 = 0 then ((wset w s q ^ n : Nat) : Int) else -((wset w s q ^ n : Nat) : Int))
def cvT (q Wt : Nat) (w : Nat → Nat) (s : Nat) : Int := if wset w s q = 0 then 0 else if bcN s 8 % 2 = 1 then (Wt : Int) * ((12 / wset w s q : Nat) : Int) else -((Wt : Int) * ((12 / wset w s q : Nat) : Int))
/-- the sum over the sets of letters below s that cover has, times 12 -/
def cvr (q Wt : Nat) (w : Nat → Nat) : Nat → Int
  | 0 => 0
  | s + 1 => cvr q Wt w s + cvT q Wt w s
theorem cvT_B {q Wt : Nat} {w : Nat → Nat} (hW : Wt ≤ 4) (s : Nat) : -48 ≤ cvT q Wt w s ∧ cvT q Wt w s ≤ 48 := by
  have h := bnd_mul hW (Nat.div_le_self 12 (wset w s q))
  unfold cvT
  split
  · decide
  · split <;> omega
theorem cvr_B {q Wt : Nat} {w : Nat → Nat} (hW : Wt ≤ 4) : ∀ (s : Nat), -(48 * (s : Int)) ≤ cvr q Wt w s ∧ cvr q Wt w s ≤ 48 * (s : Int)
  | 0 => by simp [cvr]
  | s + 1 => by
    have h1 := cvr_B hW (q := q) (w := w) s
    have h2 := cvT_B hW (q := q) (w := w) s
    show -(48 * ((s + 1 : Nat) : Int)) ≤ cvr q Wt w s + cvT q Wt w s ∧ cvr q Wt w s + cvT q Wt w s ≤ 48 * ((s + 1 : Nat) : Int)
    omega
def fCover (q Wt : Nat) (w : Nat → Nat) : Rat := Rat.divInt (cvr q Wt w (2 ^ q)) 12
def aCovered (q : Nat) (w : Nat → Nat) (x : Int32) : Int64 := if ¬ x < 0 ∧ ¬ nI 30 < x then lZ (cvd q w x.toNatClampNeg (2 ^ q)) else -1
set_option maxHeartbeats 4000000 in
set_option maxRecDepth 100000 in
/-- covered -/
theorem mX5_covered_in (l : Launch) {D : va_G} {cI cJ cZ cW : ClassId} {ad : Nat → Nat} {g : Nat → va_E} {q Wt : Nat} {w : Nat → Nat} {ln : Nat → Nat} {u : Nat → Nat → Nat} {T : Nat} {t : Nat → Nat} {tp bt : Int64} {n0 : Nat}  (hC : ClsI cI cJ cZ cW ad g q Wt w ln u T t tp bt) (hs : SrcI q Wt w ln u T t) (hn0 : n0 ≤ 30) : Met l yX5_covered wsX5_covered ({ frames := 1, cells := 0, slots := 0, locals := 25 }) (va_Pc [.ref (ad (0)), .int (nI (n0))] (xB D (xT cI cJ cZ cW) ad g)) (vp_Sl (fun r => r = lZ (cvd q w n0 (2 ^ q)))) 0 0 (fun _ => False) := by
  refine Met.ofW (cc := cX5_covered) (maxL := 7) (ret := (some .long)) (by decide) rfl ?_
  intro p e s m args below meth c s₁ B hml hv
  obtain ⟨rfl, hP, hK, hN⟩ := hv
  have hx := B.exec
  have hb := B.bytes
  have hr := B.returns
  have hts := atoms_spec (ws := wsX5_covered) B.pre
  have hown : s.vm.findClass RX5 = some m.cls := findClass_of_methodNamed B.named
  have hlocks := B.notSynchronized
  have hin0 : ∀ w ∈ wsX00, w ∈ wsX5_covered := by decide +kernel
  have hin5 : ∀ w ∈ wsX50, w ∈ wsX5_covered := by decide +kernel
  have hf12 := hts (.fieldLink RX5 12 "LettersByLot" "lot" "LLettersByLot$Lot;") (by decide +kernel)
  have hf141 := hts (.fieldLink RX5 141 "LettersByLot$Lot" "letters" "I") (by decide +kernel)
  have hl := lv_entry ([.ref (ad (0)), .int (nI (n0))]) (n := 7) (Nat.le_of_ble_eq_true rfl)
  rw [lg_entry_eq]
  generalize (lg_sl ([.ref (ad (0)), .int (nI (n0))]) ++ List.replicate (7 - (lg_sl ([.ref (ad (0)), .int (nI (n0))])).length) Slot.unset).toArray = ls at hl ⊢
  have hl : lv_has ls 7 [(0, .ref (ad (0))), (1, .int (nI (n0)))] := hl
  obtain ⟨hq2, hq4, hw1, hw0, hWs, hWt, hw, hln, hul, hT, ht⟩ := hs
  obtain ⟨fo_0, ⟨f2, fo_1, fa_2, h2⟩, ⟨f3, fa_3, h3⟩, hRace, hMach, ⟨f16, fo15, fa16, h16⟩, hwd, hcand⟩ := id hC
  have hWp : 1 ≤ Wt ∧ Wt ≤ 4 := by have h8 := hw1 0 (by omega); have h9 := wsum_mono (w := w) (show 1 ≤ q by omega); have h7 : wsum w 1 = 0 + w 0 := rfl; omega
  obtain ⟨f5r, f6r, f7r, szr, fo4, fa5, fa6, fa7⟩ := hRace
  have hp16 : 2 ^ q ≤ 16 := Nat.le_trans (Nat.pow_le_pow_right (by decide) hq4) (by decide)
  refine lv_iload_n hx hb dX5_covered_0 rfl (lv_at hl 1 rfl) ?_
  refine vp_callSi (va_Run.run (va_runS (As := [.int (nI (n0))]) (rest := []) ⟨hx, hb, hml, hown, hts⟩ (mX5_isCounted_in l hn0) (va_cwS 1 hts gX5_covered_X5_isCounted rfl rfl rfl (by decide +kernel) ⟨Nat.le_of_ble_eq_true rfl, Nat.le_of_ble_eq_true rfl⟩) ⟨xB_blind, fun U hU hW => ⟨rfl, by rw [hU]; exact hP, va_K.moved hW.alike hK, va_Nw.warmM hW hN⟩⟩ rfl rfl hl.1 rfl (lv_room (Nat.le_of_ble_eq_true rfl)) dX5_covered_1 ⟨Nat.le_of_ble_eq_true rfl, Nat.le_of_ble_eq_true rfl⟩)) (fun r1 er1 => ?_)
  subst er1
  refine xi_if_ne (tgt := 11) hx hb (by decide) dX5_covered_4 (by decide) (fun _ => ?_) (fun c0 => absurd c0 (by decide))
  refine lv_lconst (v := lZ (0)) hx hb dX5_covered_11 (by decide) ?_
  refine lv_lstore_n (lv' := [(2, .long (lZ (0))), (0, .ref (ad (0))), (1, .int (nI (n0)))]) hx hb dX5_covered_12 rfl hl (by decide) rfl (fun ls hl => ?_)
  refine lv_iconst (v := nI (0)) hx hb dX5_covered_13 (by decide) ?_
  refine lv_istore (lv' := [(4, .int (nI (0))), (2, .long (lZ (0))), (0, .ref (ad (0))), (1, .int (nI (n0)))]) hx hb dX5_covered_14 hl (by decide) rfl (fun ls hl => ?_)
  refine xloop (G := fun fr => W p l e _ s m _ below meth c _ _ _ _ _ fr) (σ := Nat) (fun i ls => F0 m 16 ls []) (fun i ls => (i ≤ 2 ^ q) ∧ lv_has ls 7 [(0, .ref (ad (0))), (1, .int (nI (n0))), (2, .long (lZ (cvd q w n0 i))), (4, .int (nI (i)))]) (fun i => 2 ^ q - i) ?_ (0) ls ⟨(Nat.zero_le _), (lv_sub hl [2, 3, 1, 0] rfl)⟩
  rintro i ls ⟨hi, hl⟩ ih16
  refine lv_iload hx hb dX5_covered_16 (lv_at hl 3 rfl) ?_
  refine lv_iconst (v := nI (1)) hx hb dX5_covered_18 (by decide) ?_
  refine lv_aload_n hx hb dX5_covered_19 rfl (lv_at hl 0 rfl) ?_
  refine xw_get hx hb hts hin5 hown hK hP (by decide) fo_0 rfl 0 (by decide) hf12 rfl rfl dX5_covered_20 ?_
  refine xw_get hx hb hts hin0 hown hK hP (by decide) fo_1 rfl 1 (by decide) hf141 rfl rfl dX5_covered_23 ?_
  refine lv_ishl hx hb dX5_covered_26 ?_
  refine xtopi (y := nI (2 ^ q)) (nI_shl1 (by omega)) ?_
  refine xi_icmp_ge (tgt := 81) hx hb (by omega) (by omega) dX5_covered_27 (by decide) (fun c27_4 => ?_) (fun c27_4 => ?_)
  · refine lv_lload_n hx hb dX5_covered_81 rfl (lv_at hl 2 rfl) ?_
    exact W.lret (v := lZ (cvd q w n0 i)) hx hb hr (fun tZ ht _ => ⟨_, rfl, (by show _ = _; rw [show i = 2 ^ q by omega]), ht⟩) (fun q hq => by cases hq) dX5_covered_82
  · refine lv_aload_n hx hb dX5_covered_30 rfl (lv_at hl 0 rfl) ?_
    refine xw_get hx hb hts hin5 hown hK hP (by decide) fo_0 rfl 0 (by decide) hf12 rfl rfl dX5_covered_31 ?_
    refine lv_iload hx hb dX5_covered_34 (lv_at hl 3 rfl) ?_
    refine vp_callSi (va_Run.run (va_runV (As := [.int (nI (i))]) (rest := []) ⟨hx, hb, hml, hown, hts⟩ (mX0_weightOf l fo_1 fa_2 hq4 hq2 h2 hw (by omega)) (cwV 1 hts gX5_covered_X0_weightOf rfl rfl rfl (by decide +kernel) ⟨Nat.le_of_ble_eq_true rfl, Nat.le_of_ble_eq_true rfl⟩) ⟨xB_blind, va_recv hK hP (ci := 0) rfl (xw_is (by decide) fo_1), fun U hU hW => ⟨rfl, by rw [hU]; exact hP, va_K.moved hW.alike hK, va_Nw.warmM hW hN⟩⟩ rfl rfl hl.1 rfl (lv_room (Nat.le_of_ble_eq_true rfl)) dX5_covered_36 ⟨Nat.le_of_ble_eq_true rfl, Nat.le_of_ble_eq_true rfl⟩)) (fun r5 er5 => ?_)
    subst er5
    refine xi_i2l hx hb (by have h9 := wset_le hw (s := i) hq4; omega) dX5_covered_39 ?_
    refine lv_iload_n hx hb dX5_covered_40 rfl (lv_at hl 1 rfl) ?_
    refine vp_callSl (va_Run.run (va_runS (As := [.long (lZ (((wset w (i) q : Nat) : Int))), .int (nI (n0))]) (rest := []) ⟨hx, hb, hml, hown, hts⟩ (mX5_power l (b0 := wset w i q) (e0 := n0) (by omega)) (va_cwS 2 hts gX5_covered_X5_power rfl rfl rfl (by decide +kernel) ⟨Nat.le_of_ble_eq_true rfl, Nat.le_of_ble_eq_true rfl⟩) ⟨xB_blind, fun U hU hW => ⟨rfl, by rw [hU]; exact hP, va_K.moved hW.alike hK, va_Nw.warmM hW hN⟩⟩ rfl rfl hl.1 rfl (lv_room (Nat.le_of_ble_eq_true rfl)) dX5_covered_41 ⟨Nat.le_of_ble_eq_true rfl, Nat.le_of_ble_eq_true rfl⟩)) (fun r6 er6 => ?_)
    subst er6
    refine lv_lstore (lv' := [(5, .long (lZ (((wset w i q ^ n0 : Nat) : Int)))), (0, .ref (ad (0))), (1, .int (nI (n0))), (2, .long (lZ (cvd q w n0 i))), (4, .int (nI (i)))]) hx hb dX5_covered_44 hl (by decide) rfl (fun ls hl => ?_)
    refine lv_lload_n hx hb dX5_covered_46 rfl (lv_at hl 3 rfl) ?_
    refine lv_aload_n hx hb dX5_covered_47 rfl (lv_at hl 1 rfl) ?_
    refine xw_get hx hb hts hin5 hown hK hP (by decide) fo_0 rfl 0 (by decide) hf12 rfl rfl dX5_covered_48 ?_
    refine xw_get hx hb hts hin0 hown hK hP (by decide) fo_1 rfl 1 (by decide) hf141 rfl rfl dX5_covered_51 ?_
    refine lv_iload hx hb dX5_covered_54 (lv_at hl 4 rfl) ?_
    refine vp_callSi (va_Run.run (va_runS (As := [.int (nI (i))]) (rest := [.int (nI (q)), .long (lZ (cvd q w n0 i))]) ⟨hx, hb, hml, hown, hts⟩ (mJ6_bitCount l (n0 := i) (by omega)) (va_cwS 1 hts gX5_covered_J6_bitCount_0f7a4 rfl rfl rfl (by decide +kernel) ⟨Nat.le_of_ble_eq_true rfl, Nat.le_of_ble_eq_true rfl⟩) ⟨xB_blind, fun U hU hW => ⟨rfl, by rw [hU]; exact hP, va_K.moved hW.alike hK, va_Nw.warmM hW hN⟩⟩ rfl rfl hl.1 rfl (lv_room (Nat.le_of_ble_eq_true rfl)) dX5_covered_56 ⟨Nat.le_of_ble_eq_true rfl, Nat.le_of_ble_eq_true rfl⟩)) (fun r7 er7 => ?_)
    subst er7
    refine xi_sub hx hb (bc_q q hq4 i (by omega)) dX5_covered_59 ?_
    refine lv_iconst (v := nI (2)) hx hb dX5_covered_60 (by decide) ?_
    refine xi_rem hx hb (by omega) (by decide) (by decide) dX5_covered_61 ?_
    refine xi_if_ne (tgt := 70) hx hb (by omega) dX5_covered_62 (by decide) (fun c62_8 => ?_) (fun c62_8 => ?_)
    · refine lv_lload hx hb dX5_covered_70 (lv_at hl 0 rfl) ?_
      refine xl_neg hx hb dX5_covered_72 ?_
      refine xl_add hx hb dX5_covered_73 ?_
      refine xtopl (y := lZ (cvd q w n0 (i + 1))) (congrArg lZ (by show _ = cvd q w n0 i + (if _ then _ else _); rw [if_neg c62_8])) ?_
      refine lv_lstore_n (lv' := [(2, .long (lZ (cvd q w n0 (i + 1)))), (5, .long (lZ (((wset w i q ^ n0 : Nat) : Int)))), (0, .ref (ad (0))), (1, .int (nI (n0))), (4, .int (nI (i)))]) hx hb dX5_covered_74 rfl hl (by decide) rfl (fun ls hl => ?_)
      refine lv_iinc (v := nI (i + 1)) (lv' := [(4, .int (nI (i + 1))), (2, .long (lZ (cvd q w n0 (i + 1)))), (5, .long (lZ (((wset w i q ^ n0 : Nat) : Int)))), (0, .ref (ad (0))), (1, .int (nI (n0)))]) hx hb dX5_covered_75 hl (k := 4) rfl (nI_add (i) 1) (by decide) rfl (fun ls hl => ?_)
      refine lv_goto (tgt := 16) hx hb dX5_covered_78 (by decide) ?_
      exact ih16 (i + 1) ls ⟨(by omega), (lv_sub hl [3, 4, 1, 0] rfl)⟩ (by first | omega | (dsimp only; omega))
    · refine lv_lload hx hb dX5_covered_65 (lv_at hl 0 rfl) ?_
      refine lv_goto (tgt := 73) hx hb dX5_covered_67 (by decide) ?_
      refine xl_add hx hb dX5_covered_73 ?_
      refine xtopl (y := lZ (cvd q w n0 (i + 1))) (congrArg lZ (by show _ = cvd q w n0 i + (if _ then _ else _); rw [if_pos c62_8])) ?_
      refine lv_lstore_n (lv' := [(2, .long (lZ (cvd q w n0 (i + 1)))), (5, .long (lZ (((wset w i q ^ n0 : Nat) : Int)))), (0, .ref (ad (0))), (1, .int (nI (n0))), (4, .int (nI (i)))]) hx hb dX5_covered_74 rfl hl (by decide) rfl (fun ls hl => ?_)
      refine lv_iinc (v := nI (i + 1)) (lv' := [(4, .int (nI (i + 1))), (2, .long (lZ (cvd q w n0 (i + 1)))), (5, .long (lZ (((wset w i q ^ n0 : Nat) : Int)))), (0, .ref (ad (0))), (1, .int (nI (n0)))]) hx hb dX5_covered_75 hl (k := 4) rfl (nI_add (i) 1) (by decide) rfl (fun ls hl => ?_)
      refine lv_goto (tgt := 16) hx hb dX5_covered_78 (by decide) ?_
      exact ih16 (i + 1) ls ⟨(by omega), (lv_sub hl [3, 4, 1, 0] rfl)⟩ (by first | omega | (dsimp only; omega))

set_option maxHeartbeats 4000000 in
set_option maxRecDepth 100000 in
/-- covered, no such n -/
theorem mX5_covered_bad (l : Launch) {D : va_G} {cI cJ cZ cW : ClassId} {ad : Nat → Nat} {g : Nat → va_E} {q Wt : Nat} {w : Nat → Nat} {ln : Nat → Nat} {u : Nat → Nat → Nat} {T : Nat} {t : Nat → Nat} {tp bt : Int64} {x0 : Int32}  (hC : ClsI cI cJ cZ cW ad g q Wt w ln u T t tp bt) (hs : SrcI q Wt w ln u T t) (hx0 : x0 < 0 ∨ nI 30 < x0) : Met l yX5_covered wsX5_covered ({ frames := 1, cells := 0, slots := 0, locals := 25 }) (va_Pc [.ref (ad (0)), .int (x0)] (xB D (xT cI cJ cZ cW) ad g)) (vp_Sl (fun r => r = -1)) 0 0 (fun _ => False) := by
  refine Met.ofW (cc := cX5_covered) (maxL := 7) (ret := (some .long)) (by decide) rfl ?_
  intro p e s m args below meth c s₁ B hml hv
  obtain ⟨rfl, hP, hK, hN⟩ := hv
  have hx := B.exec
  have hb := B.bytes
  have hr := B.returns
  have hts := atoms_spec (ws := wsX5_covered) B.pre
  have hown : s.vm.findClass RX5 = some m.cls := findClass_of_methodNamed B.named
  have hlocks := B.notSynchronized
  have hl := lv_entry ([.ref (ad (0)), .int (x0)]) (n := 7) (Nat.le_of_ble_eq_true rfl)
  rw [lg_entry_eq]
  generalize (lg_sl ([.ref (ad (0)), .int (x0)]) ++ List.replicate (7 - (lg_sl ([.ref (ad (0)), .int (x0)])).length) Slot.unset).toArray = ls at hl ⊢
  have hl : lv_has ls 7 [(0, .ref (ad (0))), (1, .int (x0))] := hl
  obtain ⟨hq2, hq4, hw1, hw0, hWs, hWt, hw, hln, hul, hT, ht⟩ := hs
  obtain ⟨fo_0, ⟨f2, fo_1, fa_2, h2⟩, ⟨f3, fa_3, h3⟩, hRace, hMach, ⟨f16, fo15, fa16, h16⟩, hwd, hcand⟩ := id hC
  have hWp : 1 ≤ Wt ∧ Wt ≤ 4 := by have h8 := hw1 0 (by omega); have h9 := wsum_mono (w := w) (show 1 ≤ q by omega); have h7 : wsum w 1 = 0 + w 0 := rfl; omega
  obtain ⟨f5r, f6r, f7r, szr, fo4, fa5, fa6, fa7⟩ := hRace
  refine lv_iload_n hx hb dX5_covered_0 rfl (lv_at hl 1 rfl) ?_
  refine vp_callSi (va_Run.run (va_runS (As := [.int (x0)]) (rest := []) ⟨hx, hb, hml, hown, hts⟩ (mX5_isCounted_out l hx0) (va_cwS 1 hts gX5_covered_X5_isCounted rfl rfl rfl (by decide +kernel) ⟨Nat.le_of_ble_eq_true rfl, Nat.le_of_ble_eq_true rfl⟩) ⟨xB_blind, fun U hU hW => ⟨rfl, by rw [hU]; exact hP, va_K.moved hW.alike hK, va_Nw.warmM hW hN⟩⟩ rfl rfl hl.1 rfl (lv_room (Nat.le_of_ble_eq_true rfl)) dX5_covered_1 ⟨Nat.le_of_ble_eq_true rfl, Nat.le_of_ble_eq_true rfl⟩)) (fun r1 er1 => ?_)
  subst er1
  refine xi_if_ne (tgt := 11) hx hb (by decide) dX5_covered_4 (by decide) (fun c0 => absurd c0 (by decide)) (fun _ => ?_)
  refine lv_ldc2 (v := lZ (-1)) hx hb hown (hts (.constantLong RX5 159 (-1)) (by decide +kernel)) dX5_covered_7 ?_
  exact W.lret (v := lZ (-1)) hx hb hr (fun tZ ht _ => ⟨_, rfl, rfl, ht⟩) (fun q hq => by cases hq) dX5_covered_10

set_option maxHeartbeats 4000000 in
set_option maxRecDepth 100000 in
/-- cover -/
theorem mX5_cover (l : Launch) {D : va_G} {cI cJ cZ cW : ClassId} {ad : Nat → Nat} {A : Nat → Prop} (hD : ∀ g, va_D A (xw 81 ad g)) {g : Nat → va_E} {q Wt : Nat} {w : Nat → Nat} {ln : Nat → Nat} {u : Nat → Nat → Nat} {T : Nat} {t : Nat → Nat} {tp bt : Int64}  (hC : ClsI cI cJ cZ cW ad g q Wt w ln u T t tp bt) (hs : SrcI q Wt w ln u T t) : Met l yX5_cover wsX5_cover ({ frames := 2, cells := 0, slots := 0, locals := 58 }) (va_Pc [.ref (ad (0))] (xB D (xT cI cJ cZ cW) ad g)) (va_Qv (fun g2 => ClsI cI cJ cZ cW ad g2 q Wt w ln u T t (lZ (fCover q Wt w).num) (lZ ((fCover q Wt w).den : Int)) ∧ ∀ j : Nat, 62 ≤ j → g2 j = g j) (xB D (xT cI cJ cZ cW) ad) A) 0 0 A := by
  refine Met.ofW (cc := cX5_cover) (maxL := 7) (ret := none) (by decide) rfl ?_
  intro p e s m args below meth c s₁ B hml hv
  obtain ⟨rfl, hP, hK, hN⟩ := hv
  have hx := B.exec
  have hb := B.bytes
  have hr := B.returns
  have hts := atoms_spec (ws := wsX5_cover) B.pre
  have hown : s.vm.findClass RX5 = some m.cls := findClass_of_methodNamed B.named
  have hlocks := B.notSynchronized
  have hS : va_S A s.heap s.heap [] := va_S.rf
  have hin0 : ∀ w ∈ wsX00, w ∈ wsX5_cover := by decide +kernel
  have hin5 : ∀ w ∈ wsX50, w ∈ wsX5_cover := by decide +kernel
  have hf12 := hts (.fieldLink RX5 12 "LettersByLot" "lot" "LLettersByLot$Lot;") (by decide +kernel)
  have hf63 := hts (.fieldLink RX5 63 "LettersByLot$Lot" "total" "I") (by decide +kernel)
  have hf141 := hts (.fieldLink RX5 141 "LettersByLot$Lot" "letters" "I") (by decide +kernel)
  have hl := lv_entry ([.ref (ad (0))]) (n := 7) (Nat.le_of_ble_eq_true rfl)
  rw [lg_entry_eq]
  generalize (lg_sl ([.ref (ad (0))]) ++ List.replicate (7 - (lg_sl ([.ref (ad (0))])).length) Slot.unset).toArray = ls at hl ⊢
  have hl : lv_has ls 7 [(0, .ref (ad (0)))] := hl
  obtain ⟨hq2, hq4, hw1, hw0, hWs, hWt, hw, hln, hul, hT, ht⟩ := hs
  obtain ⟨fo_0, ⟨f2, fo_1, fa_2, h2⟩, ⟨f3, fa_3, h3⟩, hRace, hMach, ⟨f16, fo15, fa16, h16⟩, hwd, hcand⟩ := id hC
  have hWp : 1 ≤ Wt ∧ Wt ≤ 4 := by have h8 := hw1 0 (by omega); have h9 := wsum_mono (w := w) (show 1 ≤ q by omega); have h7 : wsum w 1 = 0 + w 0 := rfl; omega
  obtain ⟨f5r, f6r, f7r, szr, fo4, fa5, fa6, fa7⟩ := hRace
  have hp16 : 2 ^ q ≤ 16 := Nat.le_trans (Nat.pow_le_pow_right (by decide) hq4) (by decide)
  refine lv_lconst (v := lZ (0)) hx hb dX5_cover_0 (by decide) ?_
  refine lv_lstore_n (lv' := [(1, .long (lZ (0))), (0, .ref (ad (0)))]) hx hb dX5_cover_1 rfl hl (by decide) rfl (fun ls hl => ?_)
  refine lv_iconst (v := nI (1)) hx hb dX5_cover_2 (by decide) ?_
  refine lv_istore_n (lv' := [(3, .int (nI (1))), (1, .long (lZ (0))), (0, .ref (ad (0)))]) hx hb dX5_cover_3 rfl hl (by decide) rfl (fun ls hl => ?_)
  refine xloop (G := fun fr => W p l e _ s m _ below meth c _ _ _ _ _ fr) (σ := Nat) (fun i ls => F0 m 4 ls []) (fun i ls => (1 ≤ i ∧ i ≤ 2 ^ q) ∧ lv_has ls 7 [(0, .ref (ad (0))), (1, .long (lZ (cvr q Wt w i))), (3, .int (nI (i)))]) (fun i => 2 ^ q - i) ?_ (1) ls ⟨⟨by decide, Nat.one_le_two_pow⟩, (by rw [show cvr q Wt w 1 = 0 by show (0 : Int) + cvT q Wt w 0 = 0; unfold cvT; rw [if_pos wset_0]; rfl]; exact (lv_sub hl [2, 1, 0] rfl))⟩
  rintro i ls ⟨hi, hl⟩ ih4
  refine lv_iload_n hx hb dX5_cover_4 rfl (lv_at hl 2 rfl) ?_
  refine lv_iconst (v := nI (1)) hx hb dX5_cover_5 (by decide) ?_
  refine lv_aload_n hx hb dX5_cover_6 rfl (lv_at hl 0 rfl) ?_
  refine xw_get hx hb hts hin5 hown hK hP (by decide) fo_0 rfl 0 (by decide) hf12 rfl rfl dX5_cover_7 ?_
  refine xw_get hx hb hts hin0 hown hK hP (by decide) fo_1 rfl 1 (by decide) hf141 rfl rfl dX5_cover_10 ?_
  refine lv_ishl hx hb dX5_cover_13 ?_
  refine xtopi (y := nI (2 ^ q)) (nI_shl1 (by omega)) ?_
  refine xi_icmp_ge (tgt := 76) hx hb (by omega) (by omega) dX5_cover_14 (by decide) (fun c14_2 => ?_) (fun c14_2 => ?_)
  · refine lv_aload_n hx hb dX5_cover_76 rfl (lv_at hl 0 rfl) ?_
    refine lv_lload_n hx hb dX5_cover_77 rfl (lv_at hl 1 rfl) ?_
    refine lv_ldc2 (v := lZ (12)) hx hb hown (hts (.constantLong RX5 151 (12)) (by decide +kernel)) dX5_cover_78 ?_
    refine va_callv (va_runV (As := [.long (lZ (cvr q Wt w i)), .long (lZ (12))]) (rest := []) ⟨hx, hb, hml, hown, hts⟩ (mX5_hold l hD (a := cvr q Wt w i) (b := 12) fo_0 (by have h9 := cvr_B hWt (q := q) (w := w) i; omega) (by decide) (by decide)) (cwV 2 hts gX5_cover_X5_hold rfl rfl rfl (by decide +kernel) ⟨Nat.le_of_ble_eq_true rfl, Nat.le_of_ble_eq_true rfl⟩) ⟨xB_blind, va_recv hK hP (ci := 5) rfl (xw_is (by decide) fo_0), fun U hU hW => ⟨rfl, by rw [hU]; exact hP, va_K.moved hW.alike hK, va_Nw.warmM hW hN⟩⟩ rfl rfl hl.1 rfl (lv_room (Nat.le_of_ble_eq_true rfl)) dX5_cover_81 ⟨Nat.le_of_ble_eq_true rfl, Nat.le_of_ble_eq_true rfl⟩) hS (fun _ _ h => h) (fun _ h => h) (fun g3 tZ H locs ht hvm hwg3 hB hzZ hkZ hS => ?_)
    obtain ⟨hP, -⟩ := hB
    rw [ht] at hP
    obtain ⟨fg3_n0, hcg3⟩ := hwg3
    have fg3_k0 : g3 (1) = .inr (0, [.ref (ad (2)), .int (nI (q)), .int (nI (Wt))]) := (hcg3 (1) (by decide)).trans fo_1
    have fg3_k1 : g3 (2) = .inl (cI, 4, .inl (f2)) := (hcg3 (2) (by decide)).trans fa_2
    have fg3_k2 : g3 (15) = .inr (3, [.ref (ad (16)), .int (nI (T))]) := (hcg3 (15) (by decide)).trans fo15
    have fg3_k3 : g3 (16) = .inl (cI, 300, .inl (f16)) := (hcg3 (16) (by decide)).trans fa16
    have fg3_k4 : g3 (3) = .inl (cW, 8, .inr (.inr (.inr (.inr (f3))))) := (hcg3 (3) (by decide)).trans fa_3
    have fg3_k5 : g3 (4) = .inr (2, [.ref (ad (5)), .ref (ad (6)), .ref (ad (7)), .int (szr)]) := (hcg3 (4) (by decide)).trans fo4
    have fg3_k6 : g3 (5) = .inl (cW, 3, .inr (.inr (.inr (.inr (f5r))))) := (hcg3 (5) (by decide)).trans fa5
    have fg3_k7 : g3 (6) = .inl (cJ, 9, .inr (.inl (f6r))) := (hcg3 (6) (by decide)).trans fa6
    have fg3_k8 : g3 (7) = .inl (cJ, 3, .inr (.inl (f7r))) := (hcg3 (7) (by decide)).trans fa7
    have hfrg3 : ∀ j : Nat, j ≠ 0 → g3 j = g j := fun j h0 => (hcg3 j h0).trans ((fun _ _ => rfl) j h0)
    exact W.vret hx hb hr (fun tZ ht hW => ⟨⟨g3, rfl, (by have hiq : i = 2 ^ q := (by omega); subst hiq; exact ⟨hC.hand fg3_n0 hfrg3, fun j hj => hfrg3 j (by omega)⟩), by rw [ht]; exact hP, va_K.moved hW.alike hK, va_Nw.warmM hW hN⟩, hS.F ht⟩) hS.2.2 dX5_cover_84
  · refine lv_aload_n hx hb dX5_cover_17 rfl (lv_at hl 0 rfl) ?_
    refine xw_get hx hb hts hin5 hown hK hP (by decide) fo_0 rfl 0 (by decide) hf12 rfl rfl dX5_cover_18 ?_
    refine lv_iload_n hx hb dX5_cover_21 rfl (lv_at hl 2 rfl) ?_
    refine vp_callSi (va_Run.run (va_runV (As := [.int (nI (i))]) (rest := []) ⟨hx, hb, hml, hown, hts⟩ (mX0_weightOf l fo_1 fa_2 hq4 hq2 h2 hw (by omega)) (cwV 1 hts gX5_cover_X0_weightOf rfl rfl rfl (by decide +kernel) ⟨Nat.le_of_ble_eq_true rfl, Nat.le_of_ble_eq_true rfl⟩) ⟨xB_blind, va_recv hK hP (ci := 0) rfl (xw_is (by decide) fo_1), fun U hU hW => ⟨rfl, by rw [hU]; exact hP, va_K.moved hW.alike hK, va_Nw.warmM hW hN⟩⟩ rfl rfl hl.1 rfl (lv_room (Nat.le_of_ble_eq_true rfl)) dX5_cover_22 ⟨Nat.le_of_ble_eq_true rfl, Nat.le_of_ble_eq_true rfl⟩)) (fun r5 er5 => ?_)
    subst er5
    refine lv_istore (lv' := [(4, .int (nI (wset w (i) q))), (0, .ref (ad (0))), (1, .long (lZ (cvr q Wt w i))), (3, .int (nI (i)))]) hx hb dX5_cover_25 hl (by decide) rfl (fun ls hl => ?_)
    refine lv_iload hx hb dX5_cover_27 (lv_at hl 0 rfl) ?_
    refine xi_if_le (tgt := 70) hx hb (by have h9 := wset_le hw (s := i) hq4; omega) dX5_cover_29 (by decide) (fun c29_6 => ?_) (fun c29_6 => ?_)
    · rw [show cvr q Wt w i = cvr q Wt w (i + 1) by show _ = cvr q Wt w i + cvT q Wt w i; unfold cvT; rw [if_pos c29_6]; omega] at hl
      refine lv_iinc (v := nI (i + 1)) (lv' := [(3, .int (nI (i + 1))), (4, .int (nI (wset w (i) q))), (0, .ref (ad (0))), (1, .long (lZ (cvr q Wt w (i + 1))))]) hx hb dX5_cover_70 hl (k := 3) rfl (nI_add (i) 1) (by decide) rfl (fun ls hl => ?_)
      refine lv_goto (tgt := 4) hx hb dX5_cover_73 (by decide) ?_
      exact ih4 (i + 1) ls ⟨(by omega), (lv_sub hl [2, 3, 0] rfl)⟩ (by first | omega | (dsimp only; omega))
    · refine lv_aload_n hx hb dX5_cover_32 rfl (lv_at hl 1 rfl) ?_
      refine xw_get hx hb hts hin5 hown hK hP (by decide) fo_0 rfl 0 (by decide) hf12 rfl rfl dX5_cover_33 ?_
      refine xw_get hx hb hts hin0 hown hK hP (by decide) fo_1 rfl 2 (by decide) hf63 rfl rfl dX5_cover_36 ?_
      refine xi_i2l hx hb (by omega) dX5_cover_39 ?_
      refine lv_bipush (v := nI (12)) hx hb dX5_cover_40 (by decide) ?_
      refine lv_iload hx hb dX5_cover_42 (lv_at hl 0 rfl) ?_
      refine xi_div hx hb (by decide) (by omega) (by have h9 := wset_le hw (s := i) hq4; omega) dX5_cover_44 ?_
      refine xi_i2l hx hb (Nat.lt_of_le_of_lt (Nat.div_le_self _ _) (by decide)) dX5_cover_45 ?_
      refine xl_mul hx hb dX5_cover_46 ?_
      refine lv_lstore (lv' := [(5, .long (lZ ((((Wt : Nat) : Int)) * (((12 / (wset w (i) q) : Nat) : Int))))), (4, .int (nI (wset w (i) q))), (0, .ref (ad (0))), (1, .long (lZ (cvr q Wt w i))), (3, .int (nI (i)))]) hx hb dX5_cover_47 hl (by decide) rfl (fun ls hl => ?_)
      refine lv_lload_n hx hb dX5_cover_49 rfl (lv_at hl 3 rfl) ?_
      refine lv_iload_n hx hb dX5_cover_50 rfl (lv_at hl 4 rfl) ?_
      refine vp_callSi (va_Run.run (va_runS (As := [.int (nI (i))]) (rest := [.long (lZ (cvr q Wt w i))]) ⟨hx, hb, hml, hown, hts⟩ (mJ6_bitCount l (n0 := i) (by omega)) (va_cwS 1 hts gX5_cover_J6_bitCount_0f7a4 rfl rfl rfl (by decide +kernel) ⟨Nat.le_of_ble_eq_true rfl, Nat.le_of_ble_eq_true rfl⟩) ⟨xB_blind, fun U hU hW => ⟨rfl, by rw [hU]; exact hP, va_K.moved hW.alike hK, va_Nw.warmM hW hN⟩⟩ rfl rfl hl.1 rfl (lv_room (Nat.le_of_ble_eq_true rfl)) dX5_cover_51 ⟨Nat.le_of_ble_eq_true rfl, Nat.le_of_ble_eq_true rfl⟩)) (fun r7 er7 => ?_)
      subst er7
      refine lv_iconst (v := nI (2)) hx hb dX5_cover_54 (by decide) ?_
      refine xi_rem hx hb (by have h9 := bc_q q hq4 i (by omega); omega) (by decide) (by decide) dX5_cover_55 ?_
      refine lv_iconst (v := nI (1)) hx hb dX5_cover_56 (by decide) ?_
      refine xi_icmp_ne (tgt := 65) hx hb (by omega) (by decide) dX5_cover_57 (by decide) (fun c57_8 => ?_) (fun c57_8 => ?_)
      · refine lv_lload hx hb dX5_cover_65 (lv_at hl 0 rfl) ?_
        refine xl_neg hx hb dX5_cover_67 ?_
        refine xl_add hx hb dX5_cover_68 ?_
        refine xtopl (y := lZ (cvr q Wt w (i + 1))) (congrArg lZ (by show _ = cvr q Wt w i + cvT q Wt w i; unfold cvT; rw [if_neg (show ¬ wset w i q = 0 by omega), if_neg c57_8])) ?_
        refine lv_lstore_n (lv' := [(1, .long (lZ (cvr q Wt w (i + 1)))), (5, .long (lZ ((((Wt : Nat) : Int)) * (((12 / (wset w (i) q) : Nat) : Int))))), (4, .int (nI (wset w (i) q))), (0, .ref (ad (0))), (3, .int (nI (i)))]) hx hb dX5_cover_69 rfl hl (by decide) rfl (fun ls hl => ?_)
        refine lv_iinc (v := nI (i + 1)) (lv' := [(3, .int (nI (i + 1))), (1, .long (lZ (cvr q Wt w (i + 1)))), (5, .long (lZ ((((Wt : Nat) : Int)) * (((12 / (wset w (i) q) : Nat) : Int))))), (4, .int (nI (wset w (i) q))), (0, .ref (ad (0)))]) hx hb dX5_cover_70 hl (k := 4) rfl (nI_add (i) 1) (by decide) rfl (fun ls hl => ?_)
        refine lv_goto (tgt := 4) hx hb dX5_cover_73 (by decide) ?_
        exact ih4 (i + 1) ls ⟨(by omega), (lv_sub hl [4, 1, 0] rfl)⟩ (by first | omega | (dsimp only; omega))
      · refine lv_lload hx hb dX5_cover_60 (lv_at hl 0 rfl) ?_
        refine lv_goto (tgt := 68) hx hb dX5_cover_62 (by decide) ?_
        refine xl_add hx hb dX5_cover_68 ?_
        refine xtopl (y := lZ (cvr q Wt w (i + 1))) (congrArg lZ (by show _ = cvr q Wt w i + cvT q Wt w i; unfold cvT; rw [if_neg (show ¬ wset w i q = 0 by omega), if_pos c57_8])) ?_
        refine lv_lstore_n (lv' := [(1, .long (lZ (cvr q Wt w (i + 1)))), (5, .long (lZ ((((Wt : Nat) : Int)) * (((12 / (wset w (i) q) : Nat) : Int))))), (4, .int (nI (wset w (i) q))), (0, .ref (ad (0))), (3, .int (nI (i)))]) hx hb dX5_cover_69 rfl hl (by decide) rfl (fun ls hl => ?_)
        refine lv_iinc (v := nI (i + 1)) (lv' := [(3, .int (nI (i + 1))), (1, .long (lZ (cvr q Wt w (i + 1)))), (5, .long (lZ ((((Wt : Nat) : Int)) * (((12 / (wset w (i) q) : Nat) : Int))))), (4, .int (nI (wset w (i) q))), (0, .ref (ad (0)))]) hx hb dX5_cover_70 hl (k := 4) rfl (nI_add (i) 1) (by decide) rfl (fun ls hl => ?_)
        refine lv_goto (tgt := 4) hx hb dX5_cover_73 (by decide) ?_
        exact ih4 (i + 1) ls ⟨(by omega), (lv_sub hl [4, 1, 0] rfl)⟩ (by first | omega | (dsimp only; omega))
