set_option maxHeartbeats 4000000 in
set_option maxRecDepth 100000 in
/-- common -/
theorem mX6_common (l : Launch) {D : va_G} {cI cJ cZ cW : ClassId} {ad : Nat → Nat} {g : Nat → va_E} {a b : Int}  (ha : -(2 ^ 63 : Int) < a ∧ a < 2 ^ 63) (hb0 : 0 < b ∧ b < 2 ^ 63) : Met l yX6_common wsX6_common ({ frames := 0, cells := 0, slots := 0, locals := 0 }) (va_Pc [.long (lZ (a)), .long (lZ (b))] (xB D (xT cI cJ cZ cW) ad g)) (vp_Sl (fun r => r = lZ ((Nat.gcd (a).natAbs (b).natAbs : Nat) : Int))) 0 0 (fun _ => False) := by
  refine Met.ofW (cc := cX6_common) (maxL := 10) (ret := (some .long)) (by decide) rfl ?_
  intro p e s m args below meth c s₁ B hml hv
  obtain ⟨rfl, hP, hK, hN⟩ := hv
  have hx := B.exec
  have hb := B.bytes
  have hr := B.returns
  have hts := atoms_spec (ws := wsX6_common) B.pre
  have hown : s.vm.findClass RX6 = some m.cls := findClass_of_methodNamed B.named
  have hlocks := B.notSynchronized
  have hl := lv_entry ([.long (lZ (a)), .long (lZ (b))]) (n := 10) (Nat.le_of_ble_eq_true rfl)
  rw [lg_entry_eq]
  generalize (lg_sl ([.long (lZ (a)), .long (lZ (b))]) ++ List.replicate (10 - (lg_sl ([.long (lZ (a)), .long (lZ (b))])).length) Slot.unset).toArray = ls at hl ⊢
  have hl : lv_has ls 10 [(0, .long (lZ (a))), (2, .long (lZ (b)))] := hl
  refine lv_lload_n hx hb dX6_common_0 rfl (lv_at hl 0 rfl) ?_
  refine lv_lconst (v := lZ (0)) hx hb dX6_common_1 (by decide) ?_
  refine xl_cmp_ge (tgt := 11) hx hb (by omega) (by decide) dX6_common_2 dX6_common_3 (by decide) (fun c2_1 => ?_) (fun c2_1 => ?_)
  · refine lv_lload_n hx hb dX6_common_11 rfl (lv_at hl 0 rfl) ?_
    refine lv_lstore (lv' := [(4, .long (lZ (a))), (0, .long (lZ (a))), (2, .long (lZ (b)))]) hx hb dX6_common_12 hl (by decide) rfl (fun ls hl => ?_)
    refine lv_lload_n hx hb dX6_common_14 rfl (lv_at hl 2 rfl) ?_
    refine lv_lstore (lv' := [(6, .long (lZ (b))), (4, .long (lZ (a))), (0, .long (lZ (a))), (2, .long (lZ (b)))]) hx hb dX6_common_15 hl (by decide) rfl (fun ls hl => ?_)
    refine xloop (G := fun fr => W p l e _ s m _ below meth c _ _ _ _ _ fr) (σ := Nat × Nat) (fun (x, y) ls => F0 m 17 ls []) (fun (x, y) ls => (Nat.gcd x y = Nat.gcd (a).natAbs (b).natAbs) ∧ (x < 2 ^ 63) ∧ (y < 2 ^ 63) ∧ lv_has ls 10 [(4, .long (lZ ((x : Int)))), (6, .long (lZ ((y : Int))))]) (fun (x, y) => x) ?_ ((a).natAbs, (b).natAbs) ls ⟨rfl, (by omega), (by omega), (by rw [show (((a).natAbs : Nat) : Int) = a by omega, show (((b).natAbs : Nat) : Int) = b by omega]; exact (lv_sub hl [1, 0] rfl))⟩
    rintro ⟨x, y⟩ ls ⟨hxy, hxl, hyl, hl⟩ ih17
    refine lv_lload hx hb dX6_common_17 (lv_at hl 0 rfl) ?_
    refine lv_lconst (v := lZ (0)) hx hb dX6_common_19 (by decide) ?_
    refine xl_cmp_eq (tgt := 42) hx hb (by omega) (by decide) dX6_common_20 dX6_common_21 (by decide) (fun c20_2 => ?_) (fun c20_2 => ?_)
    · refine lv_lload hx hb dX6_common_42 (lv_at hl 1 rfl) ?_
      exact W.lret (v := lZ ((y : Int))) hx hb hr (fun tZ ht _ => ⟨_, rfl, (by show _ = _; rw [← hxy, show x = 0 by omega, Nat.gcd_zero_left]), ht⟩) (fun q hq => by cases hq) dX6_common_44
    · refine lv_lload hx hb dX6_common_24 (lv_at hl 1 rfl) ?_
      refine lv_lload hx hb dX6_common_26 (lv_at hl 0 rfl) ?_
      refine xl_rem hx hb (by omega) (by omega) (by omega) dX6_common_28 ?_
      refine xtopl (y := lZ (((y % x : Nat) : Int))) (congrArg lZ (Int.ofNat_tmod y x).symm) ?_
      refine lv_lstore (lv' := [(8, .long (lZ (((y % x : Nat) : Int)))), (4, .long (lZ ((x : Int)))), (6, .long (lZ ((y : Int))))]) hx hb dX6_common_29 hl (by decide) rfl (fun ls hl => ?_)
      refine lv_lload hx hb dX6_common_31 (lv_at hl 1 rfl) ?_
      refine lv_lstore (lv' := [(6, .long (lZ ((x : Int)))), (8, .long (lZ (((y % x : Nat) : Int)))), (4, .long (lZ ((x : Int))))]) hx hb dX6_common_33 hl (by decide) rfl (fun ls hl => ?_)
      refine lv_lload hx hb dX6_common_35 (lv_at hl 1 rfl) ?_
      refine lv_lstore (lv' := [(4, .long (lZ (((y % x : Nat) : Int)))), (6, .long (lZ ((x : Int)))), (8, .long (lZ (((y % x : Nat) : Int))))]) hx hb dX6_common_37 hl (by decide) rfl (fun ls hl => ?_)
      refine lv_goto (tgt := 17) hx hb dX6_common_39 (by decide) ?_
      exact ih17 (y % x, x) ls ⟨(by rw [← hxy]; exact (Nat.gcd_rec x y).symm), (Nat.lt_trans (Nat.mod_lt _ (by omega)) hxl), hxl, (lv_sub hl [0, 1] rfl)⟩ (Nat.mod_lt _ (by omega))
  · refine lv_lload_n hx hb dX6_common_6 rfl (lv_at hl 0 rfl) ?_
    refine xl_neg hx hb dX6_common_7 ?_
    refine lv_goto (tgt := 12) hx hb dX6_common_8 (by decide) ?_
    refine lv_lstore (lv' := [(4, .long (lZ (-a))), (0, .long (lZ (a))), (2, .long (lZ (b)))]) hx hb dX6_common_12 hl (by decide) rfl (fun ls hl => ?_)
    refine lv_lload_n hx hb dX6_common_14 rfl (lv_at hl 2 rfl) ?_
    refine lv_lstore (lv' := [(6, .long (lZ (b))), (4, .long (lZ (-a))), (0, .long (lZ (a))), (2, .long (lZ (b)))]) hx hb dX6_common_15 hl (by decide) rfl (fun ls hl => ?_)
    refine xloop (G := fun fr => W p l e _ s m _ below meth c _ _ _ _ _ fr) (σ := Nat × Nat) (fun (x, y) ls => F0 m 17 ls []) (fun (x, y) ls => (Nat.gcd x y = Nat.gcd (a).natAbs (b).natAbs) ∧ (x < 2 ^ 63) ∧ (y < 2 ^ 63) ∧ lv_has ls 10 [(4, .long (lZ ((x : Int)))), (6, .long (lZ ((y : Int))))]) (fun (x, y) => x) ?_ ((a).natAbs, (b).natAbs) ls ⟨rfl, (by omega), (by omega), (by rw [show (((a).natAbs : Nat) : Int) = -a by omega, show (((b).natAbs : Nat) : Int) = b by omega]; exact (lv_sub hl [1, 0] rfl))⟩
    rintro ⟨x, y⟩ ls ⟨hxy, hxl, hyl, hl⟩ ih17
    refine lv_lload hx hb dX6_common_17 (lv_at hl 0 rfl) ?_
    refine lv_lconst (v := lZ (0)) hx hb dX6_common_19 (by decide) ?_
    refine xl_cmp_eq (tgt := 42) hx hb (by omega) (by decide) dX6_common_20 dX6_common_21 (by decide) (fun c20_3 => ?_) (fun c20_3 => ?_)
    · refine lv_lload hx hb dX6_common_42 (lv_at hl 1 rfl) ?_
      exact W.lret (v := lZ ((y : Int))) hx hb hr (fun tZ ht _ => ⟨_, rfl, (by show _ = _; rw [← hxy, show x = 0 by omega, Nat.gcd_zero_left]), ht⟩) (fun q hq => by cases hq) dX6_common_44
    · refine lv_lload hx hb dX6_common_24 (lv_at hl 1 rfl) ?_
      refine lv_lload hx hb dX6_common_26 (lv_at hl 0 rfl) ?_
      refine xl_rem hx hb (by omega) (by omega) (by omega) dX6_common_28 ?_
      refine xtopl (y := lZ (((y % x : Nat) : Int))) (congrArg lZ (Int.ofNat_tmod y x).symm) ?_
      refine lv_lstore (lv' := [(8, .long (lZ (((y % x : Nat) : Int)))), (4, .long (lZ ((x : Int)))), (6, .long (lZ ((y : Int))))]) hx hb dX6_common_29 hl (by decide) rfl (fun ls hl => ?_)
      refine lv_lload hx hb dX6_common_31 (lv_at hl 1 rfl) ?_
      refine lv_lstore (lv' := [(6, .long (lZ ((x : Int)))), (8, .long (lZ (((y % x : Nat) : Int)))), (4, .long (lZ ((x : Int))))]) hx hb dX6_common_33 hl (by decide) rfl (fun ls hl => ?_)
      refine lv_lload hx hb dX6_common_35 (lv_at hl 1 rfl) ?_
      refine lv_lstore (lv' := [(4, .long (lZ (((y % x : Nat) : Int)))), (6, .long (lZ ((x : Int)))), (8, .long (lZ (((y % x : Nat) : Int))))]) hx hb dX6_common_37 hl (by decide) rfl (fun ls hl => ?_)
      refine lv_goto (tgt := 17) hx hb dX6_common_39 (by decide) ?_
      exact ih17 (y % x, x) ls ⟨(by rw [← hxy]; exact (Nat.gcd_rec x y).symm), (Nat.lt_trans (Nat.mod_lt _ (by omega)) hxl), hxl, (lv_sub hl [0, 1] rfl)⟩ (Nat.mod_lt _ (by omega))

set_option maxHeartbeats 4000000 in
set_option maxRecDepth 100000 in
/-- set -/
theorem mX6_set (l : Launch) {D : va_G} {cI cJ cZ cW : ClassId} {ad : Nat → Nat} {A : Nat → Prop} (hD : ∀ g, va_D A (xw 81 ad g)) {g : Nat → va_E} {q Wt T : Nat} {w ln t : Nat → Nat} {u : Nat → Nat → Nat} {tp bt : Int64} {sq : Int32} {nu de : Int64} {a b : Int}  (fo62 : g (62) = .inr (6, [.int (nI (q)), .int (nI (Wt)), .ref (ad (63)), .ref (ad (64)), .ref (ad (65)), .ref (ad (66)), .int (nI (T)), .long (tp), .long (bt), .long (nu), .long (de), .int (sq), .ref (ad (67)), .ref (ad (68)), .ref (ad (69)), .ref (ad (70)), .ref (ad (71)), .ref (ad (72)), .ref (ad (73)), .ref (ad (74)), .ref (ad (75)), .ref (ad (76)), .ref (ad (77)), .ref (ad (78)), .ref (ad (79)), .ref (ad (80))])) (ha : -(2 ^ 63 : Int) < a ∧ a < 2 ^ 63) (hb0 : 0 < b ∧ b < 2 ^ 63) : Met l yX6_set wsX6_set ({ frames := 1, cells := 0, slots := 0, locals := 29 }) (va_Pc [.ref (ad (62)), .long (lZ (a)), .long (lZ (b))] (xB D (xT cI cJ cZ cW) ad g)) (va_Qv (fun g2 => g2 62 = .inr (6, [.int (nI (q)), .int (nI (Wt)), .ref (ad (63)), .ref (ad (64)), .ref (ad (65)), .ref (ad (66)), .int (nI (T)), .long (tp), .long (bt), .long (lZ ((Rat.divInt (a) (b)).num)), .long (lZ (((Rat.divInt (a) (b)).den : Int))), .int (sq), .ref (ad (67)), .ref (ad (68)), .ref (ad (69)), .ref (ad (70)), .ref (ad (71)), .ref (ad (72)), .ref (ad (73)), .ref (ad (74)), .ref (ad (75)), .ref (ad (76)), .ref (ad (77)), .ref (ad (78)), .ref (ad (79)), .ref (ad (80))]) ∧ ∀ j : Nat, j ≠ 62 → g2 j = g j) (xB D (xT cI cJ cZ cW) ad) A) 0 0 A := by
  refine Met.ofW (cc := cX6_set) (maxL := 7) (ret := none) (by decide) rfl ?_
  intro p e s m args below meth c s₁ B hml hv
  obtain ⟨rfl, hP, hK, hN⟩ := hv
  have hx := B.exec
  have hb := B.bytes
  have hr := B.returns
  have hts := atoms_spec (ws := wsX6_set) B.pre
  have hown : s.vm.findClass RX6 = some m.cls := findClass_of_methodNamed B.named
  have hlocks := B.notSynchronized
  have hS : va_S A s.heap s.heap [] := va_S.rf
  have hin6 : ∀ w ∈ wsX60, w ∈ wsX6_set := by decide +kernel
  have hf106 := hts (.fieldLink RX6 106 "LettersByLotModel" "num" "J") (by decide +kernel)
  have hf109 := hts (.fieldLink RX6 109 "LettersByLotModel" "den" "J") (by decide +kernel)
  have hl := lv_entry ([.ref (ad (62)), .long (lZ (a)), .long (lZ (b))]) (n := 7) (Nat.le_of_ble_eq_true rfl)
  rw [lg_entry_eq]
  generalize (lg_sl ([.ref (ad (62)), .long (lZ (a)), .long (lZ (b))]) ++ List.replicate (7 - (lg_sl ([.ref (ad (62)), .long (lZ (a)), .long (lZ (b))])).length) Slot.unset).toArray = ls at hl ⊢
  have hl : lv_has ls 7 [(0, .ref (ad (62))), (1, .long (lZ (a))), (3, .long (lZ (b)))] := hl
  refine lv_lload_n hx hb dX6_set_0 rfl (lv_at hl 1 rfl) ?_
  refine lv_lload_n hx hb dX6_set_1 rfl (lv_at hl 2 rfl) ?_
  refine vp_callSl (va_Run.run (va_runS (As := [.long (lZ (a)), .long (lZ (b))]) (rest := []) ⟨hx, hb, hml, hown, hts⟩ (mX6_common l (a := a) (b := b) (by omega) (by omega)) (va_cwS 2 hts gX6_set_X6_common rfl rfl rfl (by decide +kernel) ⟨Nat.le_of_ble_eq_true rfl, Nat.le_of_ble_eq_true rfl⟩) ⟨xB_blind, fun U hU hW => ⟨rfl, by rw [hU]; exact hP, va_K.moved hW.alike hK, va_Nw.warmM hW hN⟩⟩ rfl rfl hl.1 rfl (lv_room (Nat.le_of_ble_eq_true rfl)) dX6_set_2 ⟨Nat.le_of_ble_eq_true rfl, Nat.le_of_ble_eq_true rfl⟩)) (fun r1 er1 => ?_)
  subst er1
  refine lv_lstore (lv' := [(5, .long (lZ (((Nat.gcd (a).natAbs (b).natAbs : Nat) : Int)))), (0, .ref (ad (62))), (1, .long (lZ (a))), (3, .long (lZ (b)))]) hx hb dX6_set_5 hl (by decide) rfl (fun ls hl => ?_)
  refine lv_aload_n hx hb dX6_set_7 rfl (lv_at hl 1 rfl) ?_
  refine lv_lload_n hx hb dX6_set_8 rfl (lv_at hl 2 rfl) ?_
  refine lv_lload hx hb dX6_set_9 (lv_at hl 0 rfl) ?_
  refine xl_div hx hb (by omega) (by have h9 := gcd_rg (a := a) hb0; omega) (by have h9 := gcd_rg (a := a) hb0; omega) dX6_set_11 ?_
  refine xtopl (y := lZ ((Rat.divInt (a) (b)).num)) (congrArg lZ (fr_np (by omega))) ?_
  refine xw_put hx hb hts hin6 tyX6 tyX6_ok nmX6 hown hK hP hD hS (by decide) fo62 rfl 9 (by decide) hf106 rfl rfl (ty := .long) (by decide +kernel) rfl rfl (Nat.le_of_ble_eq_true rfl) (fs' := [.int (nI (q)), .int (nI (Wt)), .ref (ad (63)), .ref (ad (64)), .ref (ad (65)), .ref (ad (66)), .int (nI (T)), .long (tp), .long (bt), .long (lZ ((Rat.divInt (a) (b)).num)), .long (de), .int (sq), .ref (ad (67)), .ref (ad (68)), .ref (ad (69)), .ref (ad (70)), .ref (ad (71)), .ref (ad (72)), .ref (ad (73)), .ref (ad (74)), .ref (ad (75)), .ref (ad (76)), .ref (ad (77)), .ref (ad (78)), .ref (ad (79)), .ref (ad (80))]) rfl dX6_set_12 (fun g2 H locs eg2 hP hS => ?_)
  have fg2_w : g2 (62) = .inr (6, [.int (nI (q)), .int (nI (Wt)), .ref (ad (63)), .ref (ad (64)), .ref (ad (65)), .ref (ad (66)), .int (nI (T)), .long (tp), .long (bt), .long (lZ ((Rat.divInt (a) (b)).num)), .long (de), .int (sq), .ref (ad (67)), .ref (ad (68)), .ref (ad (69)), .ref (ad (70)), .ref (ad (71)), .ref (ad (72)), .ref (ad (73)), .ref (ad (74)), .ref (ad (75)), .ref (ad (76)), .ref (ad (77)), .ref (ad (78)), .ref (ad (79)), .ref (ad (80))]) := (congrFun eg2 (62)).trans (va_up_self _ _ _)
  have hfrg2 : ∀ j : Nat, j ≠ 62 → g2 j = g j := fun j h0 => (congrFun eg2 j).trans ((va_up_ne _ _ h0).trans ((fun _ _ => rfl) j h0))
  refine lv_aload_n hx hb dX6_set_15 rfl (lv_at hl 1 rfl) ?_
  refine lv_lload_n hx hb dX6_set_16 rfl (lv_at hl 3 rfl) ?_
  refine lv_lload hx hb dX6_set_17 (lv_at hl 0 rfl) ?_
  refine xl_div hx hb (by omega) (by have h9 := gcd_rg (a := a) hb0; omega) (by have h9 := gcd_rg (a := a) hb0; omega) dX6_set_19 ?_
  refine xtopl (y := lZ (((Rat.divInt (a) (b)).den : Int))) (congrArg lZ (fr_dp (by omega))) ?_
  refine xw_put hx hb hts hin6 tyX6 tyX6_ok nmX6 hown hK hP hD hS (by decide) fg2_w rfl 10 (by decide) hf109 rfl rfl (ty := .long) (by decide +kernel) rfl rfl (Nat.le_of_ble_eq_true rfl) (fs' := [.int (nI (q)), .int (nI (Wt)), .ref (ad (63)), .ref (ad (64)), .ref (ad (65)), .ref (ad (66)), .int (nI (T)), .long (tp), .long (bt), .long (lZ ((Rat.divInt (a) (b)).num)), .long (lZ (((Rat.divInt (a) (b)).den : Int))), .int (sq), .ref (ad (67)), .ref (ad (68)), .ref (ad (69)), .ref (ad (70)), .ref (ad (71)), .ref (ad (72)), .ref (ad (73)), .ref (ad (74)), .ref (ad (75)), .ref (ad (76)), .ref (ad (77)), .ref (ad (78)), .ref (ad (79)), .ref (ad (80))]) rfl dX6_set_20 (fun g3 H locs eg3 hP hS => ?_)
  have fg3_w : g3 (62) = .inr (6, [.int (nI (q)), .int (nI (Wt)), .ref (ad (63)), .ref (ad (64)), .ref (ad (65)), .ref (ad (66)), .int (nI (T)), .long (tp), .long (bt), .long (lZ ((Rat.divInt (a) (b)).num)), .long (lZ (((Rat.divInt (a) (b)).den : Int))), .int (sq), .ref (ad (67)), .ref (ad (68)), .ref (ad (69)), .ref (ad (70)), .ref (ad (71)), .ref (ad (72)), .ref (ad (73)), .ref (ad (74)), .ref (ad (75)), .ref (ad (76)), .ref (ad (77)), .ref (ad (78)), .ref (ad (79)), .ref (ad (80))]) := (congrFun eg3 (62)).trans (va_up_self _ _ _)
  have hfrg3 : ∀ j : Nat, j ≠ 62 → g3 j = g j := fun j h0 => (congrFun eg3 j).trans ((va_up_ne _ _ h0).trans (hfrg2 j h0))
  exact W.vret hx hb hr (fun tZ ht hW => ⟨⟨g3, rfl, ⟨fg3_w, hfrg3⟩, by rw [ht]; exact hP, va_K.moved hW.alike hK, va_Nw.warmM hW hN⟩, hS.F ht⟩) hS.2.2 dX6_set_23

set_option maxHeartbeats 4000000 in
set_option maxRecDepth 100000 in
/-- add -/
theorem mX6_add (l : Launch) {D : va_G} {cI cJ cZ cW : ClassId} {ad : Nat → Nat} {A : Nat → Prop} (hD : ∀ g, va_D A (xw 81 ad g)) {g : Nat → va_E} {q Wt T : Nat} {w ln t : Nat → Nat} {u : Nat → Nat → Nat} {tp bt : Int64} {sq : Int32} {nu de : Int64} {z1 z2 z3 z4 : Int} {x y : Rat}  (fo62 : g (62) = .inr (6, [.int (nI (q)), .int (nI (Wt)), .ref (ad (63)), .ref (ad (64)), .ref (ad (65)), .ref (ad (66)), .int (nI (T)), .long (tp), .long (bt), .long (nu), .long (de), .int (sq), .ref (ad (67)), .ref (ad (68)), .ref (ad (69)), .ref (ad (70)), .ref (ad (71)), .ref (ad (72)), .ref (ad (73)), .ref (ad (74)), .ref (ad (75)), .ref (ad (76)), .ref (ad (77)), .ref (ad (78)), .ref (ad (79)), .ref (ad (80))])) (ha : z1 = x.num) (hbd : z2 = (x.den : Int)) (hc : z3 = y.num) (hd : z4 = (y.den : Int)) (hfx : fitR x) (hfy : fitR y) (hA : fitA x y) : Met l yX6_add wsX6_add ({ frames := 2, cells := 0, slots := 0, locals := 55 }) (va_Pc [.ref (ad (62)), .long (lZ (z1)), .long (lZ (z2)), .long (lZ (z3)), .long (lZ (z4))] (xB D (xT cI cJ cZ cW) ad g)) (va_Qv (fun g2 => g2 62 = .inr (6, [.int (nI (q)), .int (nI (Wt)), .ref (ad (63)), .ref (ad (64)), .ref (ad (65)), .ref (ad (66)), .int (nI (T)), .long (tp), .long (bt), .long (lZ ((x + y).num)), .long (lZ (((x + y).den : Int))), .int (sq), .ref (ad (67)), .ref (ad (68)), .ref (ad (69)), .ref (ad (70)), .ref (ad (71)), .ref (ad (72)), .ref (ad (73)), .ref (ad (74)), .ref (ad (75)), .ref (ad (76)), .ref (ad (77)), .ref (ad (78)), .ref (ad (79)), .ref (ad (80))]) ∧ ∀ j : Nat, j ≠ 62 → g2 j = g j) (xB D (xT cI cJ cZ cW) ad) A) 0 0 A := by
  refine Met.ofW (cc := cX6_add) (maxL := 11) (ret := none) (by decide) rfl ?_
  intro p e s m args below meth c s₁ B hml hv
  obtain ⟨rfl, hP, hK, hN⟩ := hv
  have hx := B.exec
  have hb := B.bytes
  have hr := B.returns
  have hts := atoms_spec (ws := wsX6_add) B.pre
  have hown : s.vm.findClass RX6 = some m.cls := findClass_of_methodNamed B.named
  have hlocks := B.notSynchronized
  have hS : va_S A s.heap s.heap [] := va_S.rf
  have hl := lv_entry ([.ref (ad (62)), .long (lZ (z1)), .long (lZ (z2)), .long (lZ (z3)), .long (lZ (z4))]) (n := 11) (Nat.le_of_ble_eq_true rfl)
  rw [lg_entry_eq]
  generalize (lg_sl ([.ref (ad (62)), .long (lZ (z1)), .long (lZ (z2)), .long (lZ (z3)), .long (lZ (z4))]) ++ List.replicate (11 - (lg_sl ([.ref (ad (62)), .long (lZ (z1)), .long (lZ (z2)), .long (lZ (z3)), .long (lZ (z4))])).length) Slot.unset).toArray = ls at hl ⊢
  have hl : lv_has ls 11 [(0, .ref (ad (62))), (1, .long (lZ (z1))), (3, .long (lZ (z2))), (5, .long (lZ (z3))), (7, .long (lZ (z4)))] := hl
  have hfx2 := hfx
  have hfy2 := hfy
  obtain ⟨hfx3, hfx4, hfx5⟩ := hfx2
  obtain ⟨hfy3, hfy4, hfy5⟩ := hfy2
  have hxd := x.den_pos
  have hyd := y.den_pos
  refine lv_lload_n hx hb dX6_add_0 rfl (lv_at hl 2 rfl) ?_
  refine lv_lload hx hb dX6_add_1 (lv_at hl 4 rfl) ?_
  refine vp_callSl (va_Run.run (va_runS (As := [.long (lZ (z2)), .long (lZ (z4))]) (rest := []) ⟨hx, hb, hml, hown, hts⟩ (mX6_common l (a := z2) (b := z4) (by omega) (by omega)) (va_cwS 2 hts gX6_add_X6_common rfl rfl rfl (by decide +kernel) ⟨Nat.le_of_ble_eq_true rfl, Nat.le_of_ble_eq_true rfl⟩) ⟨xB_blind, fun U hU hW => ⟨rfl, by rw [hU]; exact hP, va_K.moved hW.alike hK, va_Nw.warmM hW hN⟩⟩ rfl rfl hl.1 rfl (lv_room (Nat.le_of_ble_eq_true rfl)) dX6_add_3 ⟨Nat.le_of_ble_eq_true rfl, Nat.le_of_ble_eq_true rfl⟩)) (fun r1 er1 => ?_)
  subst er1
  refine lv_lstore (lv' := [(9, .long (lZ (((Nat.gcd (z2).natAbs (z4).natAbs : Nat) : Int)))), (0, .ref (ad (62))), (1, .long (lZ (z1))), (3, .long (lZ (z2))), (5, .long (lZ (z3))), (7, .long (lZ (z4)))]) hx hb dX6_add_6 hl (by decide) rfl (fun ls hl => ?_)
  refine lv_aload_n hx hb dX6_add_8 rfl (lv_at hl 1 rfl) ?_
  refine lv_lload_n hx hb dX6_add_9 rfl (lv_at hl 2 rfl) ?_
  refine lv_lload hx hb dX6_add_10 (lv_at hl 5 rfl) ?_
  refine lv_lload hx hb dX6_add_12 (lv_at hl 0 rfl) ?_
  refine xl_div hx hb (by omega) (by have h9 := gcd_rg (a := z2) (b := z4) (by omega); omega) (by have h9 := gcd_rg (a := z2) (b := z4) (by omega); omega) dX6_add_14 ?_
  refine xl_mul hx hb dX6_add_15 ?_
  refine lv_lload hx hb dX6_add_16 (lv_at hl 4 rfl) ?_
  refine lv_lload_n hx hb dX6_add_18 rfl (lv_at hl 3 rfl) ?_
  refine lv_lload hx hb dX6_add_19 (lv_at hl 0 rfl) ?_
  refine xl_div hx hb (by omega) (by have h9 := gcd_rg (a := z2) (b := z4) (by omega); omega) (by have h9 := gcd_rg (a := z2) (b := z4) (by omega); omega) dX6_add_21 ?_
  refine xl_mul hx hb dX6_add_22 ?_
  refine xl_add hx hb dX6_add_23 ?_
  refine xtopl (y := lZ (preN x y)) (congrArg lZ (add_n ha hbd hc hd)) ?_
  refine lv_lload_n hx hb dX6_add_24 rfl (lv_at hl 3 rfl) ?_
  refine lv_lload hx hb dX6_add_25 (lv_at hl 0 rfl) ?_
  refine xl_div hx hb (by omega) (by have h9 := gcd_rg (a := z2) (b := z4) (by omega); omega) (by have h9 := gcd_rg (a := z2) (b := z4) (by omega); omega) dX6_add_27 ?_
  refine lv_lload hx hb dX6_add_28 (lv_at hl 5 rfl) ?_
  refine xl_mul hx hb dX6_add_30 ?_
  refine xtopl (y := lZ (preD x y)) (congrArg lZ (add_d hbd hd)) ?_
  refine va_callv (va_runV (As := [.long (lZ (preN x y)), .long (lZ (preD x y))]) (rest := []) ⟨hx, hb, hml, hown, hts⟩ (mX6_set l hD (w := w) (ln := ln) (t := t) (u := u) (a := preN x y) (b := preD x y) fo62 ⟨hA.1, hA.2.1⟩ ⟨preD_pos x y, hA.2.2⟩) (cwV 2 hts gX6_add_X6_set rfl rfl rfl (by decide +kernel) ⟨Nat.le_of_ble_eq_true rfl, Nat.le_of_ble_eq_true rfl⟩) ⟨xB_blind, va_recv hK hP (ci := 6) rfl (xw_is (by decide) fo62), fun U hU hW => ⟨rfl, by rw [hU]; exact hP, va_K.moved hW.alike hK, va_Nw.warmM hW hN⟩⟩ rfl rfl hl.1 rfl (lv_room (Nat.le_of_ble_eq_true rfl)) dX6_add_31 ⟨Nat.le_of_ble_eq_true rfl, Nat.le_of_ble_eq_true rfl⟩) hS (fun _ _ h => h) (fun _ h => h) (fun g2 tZ H locs ht hvm hwg2 hB hzZ hkZ hS => ?_)
  obtain ⟨hP, -⟩ := hB
  rw [ht] at hP
  obtain ⟨fg2_n0, hcg2⟩ := hwg2
  have hfrg2 : ∀ j : Nat, j ≠ 62 → g2 j = g j := fun j h0 => (hcg2 j h0).trans ((fun _ _ => rfl) j h0)
  exact W.vret hx hb hr (fun tZ ht hW => ⟨⟨g2, rfl, (by have h9 := fg2_n0; rw [pre_add] at h9; exact ⟨h9, hfrg2⟩), by rw [ht]; exact hP, va_K.moved hW.alike hK, va_Nw.warmM hW hN⟩, hS.F ht⟩) hS.2.2 dX6_add_34

set_option maxHeartbeats 4000000 in
set_option maxRecDepth 100000 in
/-- times -/
theorem mX6_times (l : Launch) {D : va_G} {cI cJ cZ cW : ClassId} {ad : Nat → Nat} {A : Nat → Prop} (hD : ∀ g, va_D A (xw 81 ad g)) {g : Nat → va_E} {q Wt T : Nat} {w ln t : Nat → Nat} {u : Nat → Nat → Nat} {tp bt : Int64} {sq : Int32} {nu de : Int64} {z1 z2 z3 z4 : Int} {x y : Rat}  (fo62 : g (62) = .inr (6, [.int (nI (q)), .int (nI (Wt)), .ref (ad (63)), .ref (ad (64)), .ref (ad (65)), .ref (ad (66)), .int (nI (T)), .long (tp), .long (bt), .long (nu), .long (de), .int (sq), .ref (ad (67)), .ref (ad (68)), .ref (ad (69)), .ref (ad (70)), .ref (ad (71)), .ref (ad (72)), .ref (ad (73)), .ref (ad (74)), .ref (ad (75)), .ref (ad (76)), .ref (ad (77)), .ref (ad (78)), .ref (ad (79)), .ref (ad (80))])) (ha : z1 = x.num) (hbd : z2 = (x.den : Int)) (hc : z3 = y.num) (hd : z4 = (y.den : Int)) (hfx : fitR x) (hfy : fitR y) (hT1 : fitR (x * y)) : Met l yX6_times wsX6_times ({ frames := 2, cells := 0, slots := 0, locals := 55 }) (va_Pc [.ref (ad (62)), .long (lZ (z1)), .long (lZ (z2)), .long (lZ (z3)), .long (lZ (z4))] (xB D (xT cI cJ cZ cW) ad g)) (va_Qv (fun g2 => g2 62 = .inr (6, [.int (nI (q)), .int (nI (Wt)), .ref (ad (63)), .ref (ad (64)), .ref (ad (65)), .ref (ad (66)), .int (nI (T)), .long (tp), .long (bt), .long (lZ ((x * y).num)), .long (lZ (((x * y).den : Int))), .int (sq), .ref (ad (67)), .ref (ad (68)), .ref (ad (69)), .ref (ad (70)), .ref (ad (71)), .ref (ad (72)), .ref (ad (73)), .ref (ad (74)), .ref (ad (75)), .ref (ad (76)), .ref (ad (77)), .ref (ad (78)), .ref (ad (79)), .ref (ad (80))]) ∧ ∀ j : Nat, j ≠ 62 → g2 j = g j) (xB D (xT cI cJ cZ cW) ad) A) 0 0 A := by
  refine Met.ofW (cc := cX6_times) (maxL := 13) (ret := none) (by decide) rfl ?_
  intro p e s m args below meth c s₁ B hml hv
  obtain ⟨rfl, hP, hK, hN⟩ := hv
  have hx := B.exec
  have hb := B.bytes
  have hr := B.returns
  have hts := atoms_spec (ws := wsX6_times) B.pre
  have hown : s.vm.findClass RX6 = some m.cls := findClass_of_methodNamed B.named
  have hlocks := B.notSynchronized
  have hS : va_S A s.heap s.heap [] := va_S.rf
  have hl := lv_entry ([.ref (ad (62)), .long (lZ (z1)), .long (lZ (z2)), .long (lZ (z3)), .long (lZ (z4))]) (n := 13) (Nat.le_of_ble_eq_true rfl)
  rw [lg_entry_eq]
  generalize (lg_sl ([.ref (ad (62)), .long (lZ (z1)), .long (lZ (z2)), .long (lZ (z3)), .long (lZ (z4))]) ++ List.replicate (13 - (lg_sl ([.ref (ad (62)), .long (lZ (z1)), .long (lZ (z2)), .long (lZ (z3)), .long (lZ (z4))])).length) Slot.unset).toArray = ls at hl ⊢
  have hl : lv_has ls 13 [(0, .ref (ad (62))), (1, .long (lZ (z1))), (3, .long (lZ (z2))), (5, .long (lZ (z3))), (7, .long (lZ (z4)))] := hl
  have hfx2 := hfx
  have hfy2 := hfy
  obtain ⟨hfx3, hfx4, hfx5⟩ := hfx2
  obtain ⟨hfy3, hfy4, hfy5⟩ := hfy2
  have hxd := x.den_pos
  have hyd := y.den_pos
  have hpd := (x * y).den_pos
  refine lv_lload_n hx hb dX6_times_0 rfl (lv_at hl 1 rfl) ?_
  refine lv_lload hx hb dX6_times_1 (lv_at hl 4 rfl) ?_
  refine vp_callSl (va_Run.run (va_runS (As := [.long (lZ (z1)), .long (lZ (z4))]) (rest := []) ⟨hx, hb, hml, hown, hts⟩ (mX6_common l (a := z1) (b := z4) (by omega) (by omega)) (va_cwS 2 hts gX6_times_X6_common rfl rfl rfl (by decide +kernel) ⟨Nat.le_of_ble_eq_true rfl, Nat.le_of_ble_eq_true rfl⟩) ⟨xB_blind, fun U hU hW => ⟨rfl, by rw [hU]; exact hP, va_K.moved hW.alike hK, va_Nw.warmM hW hN⟩⟩ rfl rfl hl.1 rfl (lv_room (Nat.le_of_ble_eq_true rfl)) dX6_times_3 ⟨Nat.le_of_ble_eq_true rfl, Nat.le_of_ble_eq_true rfl⟩)) (fun r1 er1 => ?_)
  subst er1
  refine lv_lstore (lv' := [(9, .long (lZ (((Nat.gcd (z1).natAbs (z4).natAbs : Nat) : Int)))), (0, .ref (ad (62))), (1, .long (lZ (z1))), (3, .long (lZ (z2))), (5, .long (lZ (z3))), (7, .long (lZ (z4)))]) hx hb dX6_times_6 hl (by decide) rfl (fun ls hl => ?_)
  refine lv_lload hx hb dX6_times_8 (lv_at hl 4 rfl) ?_
  refine lv_lload_n hx hb dX6_times_10 rfl (lv_at hl 3 rfl) ?_
  refine vp_callSl (va_Run.run (va_runS (As := [.long (lZ (z3)), .long (lZ (z2))]) (rest := []) ⟨hx, hb, hml, hown, hts⟩ (mX6_common l (a := z3) (b := z2) (by omega) (by omega)) (va_cwS 2 hts gX6_times_X6_common rfl rfl rfl (by decide +kernel) ⟨Nat.le_of_ble_eq_true rfl, Nat.le_of_ble_eq_true rfl⟩) ⟨xB_blind, fun U hU hW => ⟨rfl, by rw [hU]; exact hP, va_K.moved hW.alike hK, va_Nw.warmM hW hN⟩⟩ rfl rfl hl.1 rfl (lv_room (Nat.le_of_ble_eq_true rfl)) dX6_times_11 ⟨Nat.le_of_ble_eq_true rfl, Nat.le_of_ble_eq_true rfl⟩)) (fun r2 er2 => ?_)
  subst er2
  refine lv_lstore (lv' := [(11, .long (lZ (((Nat.gcd (z3).natAbs (z2).natAbs : Nat) : Int)))), (9, .long (lZ (((Nat.gcd (z1).natAbs (z4).natAbs : Nat) : Int)))), (0, .ref (ad (62))), (1, .long (lZ (z1))), (3, .long (lZ (z2))), (5, .long (lZ (z3))), (7, .long (lZ (z4)))]) hx hb dX6_times_14 hl (by decide) rfl (fun ls hl => ?_)
  refine lv_aload_n hx hb dX6_times_16 rfl (lv_at hl 2 rfl) ?_
  refine lv_lload_n hx hb dX6_times_17 rfl (lv_at hl 3 rfl) ?_
  refine lv_lload hx hb dX6_times_18 (lv_at hl 1 rfl) ?_
  refine xl_div hx hb (by omega) (by have h9 := gcd_rg (a := z1) (b := z4) (by omega); omega) (by have h9 := gcd_rg (a := z1) (b := z4) (by omega); omega) dX6_times_20 ?_
  refine lv_lload hx hb dX6_times_21 (lv_at hl 5 rfl) ?_
  refine lv_lload hx hb dX6_times_23 (lv_at hl 0 rfl) ?_
  refine xl_div hx hb (by omega) (by have h9 := gcd_rg (a := z3) (b := z2) (by omega); omega) (by have h9 := gcd_rg (a := z3) (b := z2) (by omega); omega) dX6_times_25 ?_
  refine xl_mul hx hb dX6_times_26 ?_
  refine xtopl (y := lZ ((x * y).num)) (congrArg lZ (times_n ha hbd hc hd)) ?_
  refine lv_lload_n hx hb dX6_times_27 rfl (lv_at hl 4 rfl) ?_
  refine lv_lload hx hb dX6_times_28 (lv_at hl 0 rfl) ?_
  refine xl_div hx hb (by omega) (by have h9 := gcd_rg (a := z3) (b := z2) (by omega); omega) (by have h9 := gcd_rg (a := z3) (b := z2) (by omega); omega) dX6_times_30 ?_
  refine lv_lload hx hb dX6_times_31 (lv_at hl 6 rfl) ?_
  refine lv_lload hx hb dX6_times_33 (lv_at hl 1 rfl) ?_
  refine xl_div hx hb (by omega) (by have h9 := gcd_rg (a := z1) (b := z4) (by omega); omega) (by have h9 := gcd_rg (a := z1) (b := z4) (by omega); omega) dX6_times_35 ?_
  refine xl_mul hx hb dX6_times_36 ?_
  refine xtopl (y := lZ (((x * y).den : Int))) (congrArg lZ (times_d ha hbd hc hd)) ?_
  refine va_callv (va_runV (As := [.long (lZ ((x * y).num)), .long (lZ (((x * y).den : Int)))]) (rest := []) ⟨hx, hb, hml, hown, hts⟩ (mX6_set l hD (w := w) (ln := ln) (t := t) (u := u) (a := (x * y).num) (b := ((x * y).den : Int)) fo62 ⟨hT1.1, hT1.2.1⟩ ⟨by omega, hT1.2.2⟩) (cwV 2 hts gX6_times_X6_set rfl rfl rfl (by decide +kernel) ⟨Nat.le_of_ble_eq_true rfl, Nat.le_of_ble_eq_true rfl⟩) ⟨xB_blind, va_recv hK hP (ci := 6) rfl (xw_is (by decide) fo62), fun U hU hW => ⟨rfl, by rw [hU]; exact hP, va_K.moved hW.alike hK, va_Nw.warmM hW hN⟩⟩ rfl rfl hl.1 rfl (lv_room (Nat.le_of_ble_eq_true rfl)) dX6_times_37 ⟨Nat.le_of_ble_eq_true rfl, Nat.le_of_ble_eq_true rfl⟩) hS (fun _ _ h => h) (fun _ h => h) (fun g3 tZ H locs ht hvm hwg3 hB hzZ hkZ hS => ?_)
  obtain ⟨hP, -⟩ := hB
  rw [ht] at hP
  obtain ⟨fg3_n0, hcg3⟩ := hwg3
  have hfrg3 : ∀ j : Nat, j ≠ 62 → g3 j = g j := fun j h0 => (hcg3 j h0).trans ((fun _ _ => rfl) j h0)
  exact W.vret hx hb hr (fun tZ ht hW => ⟨⟨g3, rfl, (by have h9 := fg3_n0; rw [divInt_nd] at h9; exact ⟨h9, hfrg3⟩), by rw [ht]; exact hP, va_K.moved hW.alike hK, va_Nw.warmM hW hN⟩, hS.F ht⟩) hS.2.2 dX6_times_40

set_option maxHeartbeats 4000000 in
set_option maxRecDepth 100000 in
/-- atHand -/
theorem mX6_atHand (l : Launch) {D : va_G} {cI cJ cZ cW : ClassId} {ad : Nat → Nat} {A : Nat → Prop} (hD : ∀ g, va_D A (xw 81 ad g)) {g : Nat → va_E} {q Wt T : Nat} {w ln t : Nat → Nat} {u : Nat → Nat → Nat} {tp bt : Int64} {sq : Int32} {nu de : Int64} {a b : Int}  (fo62 : g (62) = .inr (6, [.int (nI (q)), .int (nI (Wt)), .ref (ad (63)), .ref (ad (64)), .ref (ad (65)), .ref (ad (66)), .int (nI (T)), .long (tp), .long (bt), .long (nu), .long (de), .int (sq), .ref (ad (67)), .ref (ad (68)), .ref (ad (69)), .ref (ad (70)), .ref (ad (71)), .ref (ad (72)), .ref (ad (73)), .ref (ad (74)), .ref (ad (75)), .ref (ad (76)), .ref (ad (77)), .ref (ad (78)), .ref (ad (79)), .ref (ad (80))])) (ha : -(2 ^ 63 : Int) < a ∧ a < 2 ^ 63) (hb0 : 0 < b ∧ b < 2 ^ 63) : Met l yX6_atHand wsX6_atHand ({ frames := 2, cells := 0, slots := 0, locals := 55 }) (va_Pc [.ref (ad (62)), .long (lZ (a)), .long (lZ (b))] (xB D (xT cI cJ cZ cW) ad g)) (va_Qv (fun g2 => g2 62 = .inr (6, [.int (nI (q)), .int (nI (Wt)), .ref (ad (63)), .ref (ad (64)), .ref (ad (65)), .ref (ad (66)), .int (nI (T)), .long (lZ ((Rat.divInt (a) (b)).num)), .long (lZ (((Rat.divInt (a) (b)).den : Int))), .long (lZ ((Rat.divInt (a) (b)).num)), .long (lZ (((Rat.divInt (a) (b)).den : Int))), .int (sq), .ref (ad (67)), .ref (ad (68)), .ref (ad (69)), .ref (ad (70)), .ref (ad (71)), .ref (ad (72)), .ref (ad (73)), .ref (ad (74)), .ref (ad (75)), .ref (ad (76)), .ref (ad (77)), .ref (ad (78)), .ref (ad (79)), .ref (ad (80))]) ∧ ∀ j : Nat, j ≠ 62 → g2 j = g j) (xB D (xT cI cJ cZ cW) ad) A) 0 0 A := by
  refine Met.ofW (cc := cX6_atHand) (maxL := 5) (ret := none) (by decide) rfl ?_
  intro p e s m args below meth c s₁ B hml hv
  obtain ⟨rfl, hP, hK, hN⟩ := hv
  have hx := B.exec
  have hb := B.bytes
  have hr := B.returns
  have hts := atoms_spec (ws := wsX6_atHand) B.pre
  have hown : s.vm.findClass RX6 = some m.cls := findClass_of_methodNamed B.named
  have hlocks := B.notSynchronized
  have hS : va_S A s.heap s.heap [] := va_S.rf
  have hin6 : ∀ w ∈ wsX60, w ∈ wsX6_atHand := by decide +kernel
  have hf29 := hts (.fieldLink RX6 29 "LettersByLotModel" "bottom" "J") (by decide +kernel)
  have hf106 := hts (.fieldLink RX6 106 "LettersByLotModel" "num" "J") (by decide +kernel)
  have hf109 := hts (.fieldLink RX6 109 "LettersByLotModel" "den" "J") (by decide +kernel)
  have hf116 := hts (.fieldLink RX6 116 "LettersByLotModel" "top" "J") (by decide +kernel)
  have hl := lv_entry ([.ref (ad (62)), .long (lZ (a)), .long (lZ (b))]) (n := 5) (Nat.le_of_ble_eq_true rfl)
  rw [lg_entry_eq]
  generalize (lg_sl ([.ref (ad (62)), .long (lZ (a)), .long (lZ (b))]) ++ List.replicate (5 - (lg_sl ([.ref (ad (62)), .long (lZ (a)), .long (lZ (b))])).length) Slot.unset).toArray = ls at hl ⊢
  have hl : lv_has ls 5 [(0, .ref (ad (62))), (1, .long (lZ (a))), (3, .long (lZ (b)))] := hl
  refine lv_aload_n hx hb dX6_atHand_0 rfl (lv_at hl 0 rfl) ?_
  refine lv_lload_n hx hb dX6_atHand_1 rfl (lv_at hl 1 rfl) ?_
  refine lv_lload_n hx hb dX6_atHand_2 rfl (lv_at hl 2 rfl) ?_
  refine va_callv (va_runV (As := [.long (lZ (a)), .long (lZ (b))]) (rest := []) ⟨hx, hb, hml, hown, hts⟩ (mX6_set l hD (w := w) (ln := ln) (t := t) (u := u) (a := a) (b := b) fo62 ha hb0) (cwV 2 hts gX6_atHand_X6_set rfl rfl rfl (by decide +kernel) ⟨Nat.le_of_ble_eq_true rfl, Nat.le_of_ble_eq_true rfl⟩) ⟨xB_blind, va_recv hK hP (ci := 6) rfl (xw_is (by decide) fo62), fun U hU hW => ⟨rfl, by rw [hU]; exact hP, va_K.moved hW.alike hK, va_Nw.warmM hW hN⟩⟩ rfl rfl hl.1 rfl (lv_room (Nat.le_of_ble_eq_true rfl)) dX6_atHand_3 ⟨Nat.le_of_ble_eq_true rfl, Nat.le_of_ble_eq_true rfl⟩) hS (fun _ _ h => h) (fun _ h => h) (fun g1 tZ H locs ht hvm hwg1 hB hzZ hkZ hS => ?_)
  obtain ⟨hP, -⟩ := hB
  rw [ht] at hP
  obtain ⟨fg1_n0, hcg1⟩ := hwg1
  have hfrg1 : ∀ j : Nat, j ≠ 62 → g1 j = g j := fun j h0 => (hcg1 j h0).trans ((fun _ _ => rfl) j h0)
  refine lv_aload_n hx hb dX6_atHand_6 rfl (lv_at hl 0 rfl) ?_
  refine lv_aload_n hx hb dX6_atHand_7 rfl (lv_at hl 0 rfl) ?_
  refine xw_get hx hb hts hin6 hown hK hP (by decide) fg1_n0 rfl 9 (by decide) hf106 rfl rfl dX6_atHand_8 ?_
  refine xw_put hx hb hts hin6 tyX6 tyX6_ok nmX6 hown hK hP hD hS (by decide) fg1_n0 rfl 7 (by decide) hf116 rfl rfl (ty := .long) (by decide +kernel) rfl rfl (Nat.le_of_ble_eq_true rfl) (fs' := [.int (nI (q)), .int (nI (Wt)), .ref (ad (63)), .ref (ad (64)), .ref (ad (65)), .ref (ad (66)), .int (nI (T)), .long (lZ ((Rat.divInt (a) (b)).num)), .long (bt), .long (lZ ((Rat.divInt (a) (b)).num)), .long (lZ (((Rat.divInt (a) (b)).den : Int))), .int (sq), .ref (ad (67)), .ref (ad (68)), .ref (ad (69)), .ref (ad (70)), .ref (ad (71)), .ref (ad (72)), .ref (ad (73)), .ref (ad (74)), .ref (ad (75)), .ref (ad (76)), .ref (ad (77)), .ref (ad (78)), .ref (ad (79)), .ref (ad (80))]) rfl dX6_atHand_11 (fun g3 H locs eg3 hP hS => ?_)
  have fg3_w : g3 (62) = .inr (6, [.int (nI (q)), .int (nI (Wt)), .ref (ad (63)), .ref (ad (64)), .ref (ad (65)), .ref (ad (66)), .int (nI (T)), .long (lZ ((Rat.divInt (a) (b)).num)), .long (bt), .long (lZ ((Rat.divInt (a) (b)).num)), .long (lZ (((Rat.divInt (a) (b)).den : Int))), .int (sq), .ref (ad (67)), .ref (ad (68)), .ref (ad (69)), .ref (ad (70)), .ref (ad (71)), .ref (ad (72)), .ref (ad (73)), .ref (ad (74)), .ref (ad (75)), .ref (ad (76)), .ref (ad (77)), .ref (ad (78)), .ref (ad (79)), .ref (ad (80))]) := (congrFun eg3 (62)).trans (va_up_self _ _ _)
  have hfrg3 : ∀ j : Nat, j ≠ 62 → g3 j = g j := fun j h0 => (congrFun eg3 j).trans ((va_up_ne _ _ h0).trans (hfrg1 j h0))
  refine lv_aload_n hx hb dX6_atHand_14 rfl (lv_at hl 0 rfl) ?_
  refine lv_aload_n hx hb dX6_atHand_15 rfl (lv_at hl 0 rfl) ?_
  refine xw_get hx hb hts hin6 hown hK hP (by decide) fg3_w rfl 10 (by decide) hf109 rfl rfl dX6_atHand_16 ?_
  refine xw_put hx hb hts hin6 tyX6 tyX6_ok nmX6 hown hK hP hD hS (by decide) fg3_w rfl 8 (by decide) hf29 rfl rfl (ty := .long) (by decide +kernel) rfl rfl (Nat.le_of_ble_eq_true rfl) (fs' := [.int (nI (q)), .int (nI (Wt)), .ref (ad (63)), .ref (ad (64)), .ref (ad (65)), .ref (ad (66)), .int (nI (T)), .long (lZ ((Rat.divInt (a) (b)).num)), .long (lZ (((Rat.divInt (a) (b)).den : Int))), .long (lZ ((Rat.divInt (a) (b)).num)), .long (lZ (((Rat.divInt (a) (b)).den : Int))), .int (sq), .ref (ad (67)), .ref (ad (68)), .ref (ad (69)), .ref (ad (70)), .ref (ad (71)), .ref (ad (72)), .ref (ad (73)), .ref (ad (74)), .ref (ad (75)), .ref (ad (76)), .ref (ad (77)), .ref (ad (78)), .ref (ad (79)), .ref (ad (80))]) rfl dX6_atHand_19 (fun g4 H locs eg4 hP hS => ?_)
  have fg4_w : g4 (62) = .inr (6, [.int (nI (q)), .int (nI (Wt)), .ref (ad (63)), .ref (ad (64)), .ref (ad (65)), .ref (ad (66)), .int (nI (T)), .long (lZ ((Rat.divInt (a) (b)).num)), .long (lZ (((Rat.divInt (a) (b)).den : Int))), .long (lZ ((Rat.divInt (a) (b)).num)), .long (lZ (((Rat.divInt (a) (b)).den : Int))), .int (sq), .ref (ad (67)), .ref (ad (68)), .ref (ad (69)), .ref (ad (70)), .ref (ad (71)), .ref (ad (72)), .ref (ad (73)), .ref (ad (74)), .ref (ad (75)), .ref (ad (76)), .ref (ad (77)), .ref (ad (78)), .ref (ad (79)), .ref (ad (80))]) := (congrFun eg4 (62)).trans (va_up_self _ _ _)
  have hfrg4 : ∀ j : Nat, j ≠ 62 → g4 j = g j := fun j h0 => (congrFun eg4 j).trans ((va_up_ne _ _ h0).trans (hfrg3 j h0))
  exact W.vret hx hb hr (fun tZ ht hW => ⟨⟨g4, rfl, ⟨fg4_w, hfrg4⟩, by rw [ht]; exact hP, va_K.moved hW.alike hK, va_Nw.warmM hW hN⟩, hS.F ht⟩) hS.2.2 dX6_atHand_22

set_option maxHeartbeats 4000000 in
set_option maxRecDepth 100000 in
/-- over -/
theorem mX6_over (l : Launch) {D : va_G} {cI cJ cZ cW : ClassId} {ad : Nat → Nat} {A : Nat → Prop} (hD : ∀ g, va_D A (xw 81 ad g)) {g : Nat → va_E} {q Wt T : Nat} {w ln t : Nat → Nat} {u : Nat → Nat → Nat} {tp bt : Int64} {k1 k : Nat} {sq : Int32} {nu de : Int64} {fw : Nat → Int32} {fwd : Nat → Int32}  (fo62 : g (62) = .inr (6, [.int (nI (q)), .int (nI (Wt)), .ref (ad (63)), .ref (ad (64)), .ref (ad (65)), .ref (ad (66)), .int (nI (T)), .long (tp), .long (bt), .long (nu), .long (de), .int (sq), .ref (ad (67)), .ref (ad (68)), .ref (ad (69)), .ref (ad (70)), .ref (ad (71)), .ref (ad (72)), .ref (ad (73)), .ref (ad (74)), .ref (ad (75)), .ref (ad (76)), .ref (ad (77)), .ref (ad (78)), .ref (ad (79)), .ref (ad (80))])) (fa63 : g (63) = .inl (cI, 4, .inl (fw))) (fa65 : g (65) = .inl (cI, 40, .inl (fwd)))  (hfw : ∀ j, j < 4 → fw j = nI (w j)) (hwl : ∀ k j, k < 8 → j < ln k → fwd (5 * k + j) = nI (u k j)) (hq2 : 2 ≤ q) (hq4 : q ≤ 4) (hln : ∀ k, ln k ≤ 5) (hul : ∀ k j, j < ln k → u k j < q) (hT : T ≤ 300) (ht : ∀ j, j < T → t j < q) (hw1 : ∀ j, j < q → 1 ≤ w j) (hw : ∀ j, j < 4 → w j ≤ 4) (hWt : Wt ≤ 4) (hk1 : k1 < 8) (hk : k ≤ ln k1) : Met l yX6_over wsX6_over ({ frames := 2, cells := 0, slots := 0, locals := 55 }) (va_Pc [.ref (ad (62)), .int (nI (k1)), .int (nI (k))] (xB D (xT cI cJ cZ cW) ad g)) (va_Qv (fun g2 => g2 62 = .inr (6, [.int (nI (q)), .int (nI (Wt)), .ref (ad (63)), .ref (ad (64)), .ref (ad (65)), .ref (ad (66)), .int (nI (T)), .long (tp), .long (bt), .long (lZ ((Rat.divInt ((Wt ^ (k) : Nat) : Int) ((wfr w (u (k1)) (k) : Nat) : Int)).num)), .long (lZ (((Rat.divInt ((Wt ^ (k) : Nat) : Int) ((wfr w (u (k1)) (k) : Nat) : Int)).den : Int))), .int (sq), .ref (ad (67)), .ref (ad (68)), .ref (ad (69)), .ref (ad (70)), .ref (ad (71)), .ref (ad (72)), .ref (ad (73)), .ref (ad (74)), .ref (ad (75)), .ref (ad (76)), .ref (ad (77)), .ref (ad (78)), .ref (ad (79)), .ref (ad (80))]) ∧ ∀ j : Nat, j ≠ 62 → g2 j = g j) (xB D (xT cI cJ cZ cW) ad) A) 0 0 A := by
  refine Met.ofW (cc := cX6_over) (maxL := 8) (ret := none) (by decide) rfl ?_
  intro p e s m args below meth c s₁ B hml hv
  obtain ⟨rfl, hP, hK, hN⟩ := hv
  have hx := B.exec
  have hb := B.bytes
  have hr := B.returns
  have hts := atoms_spec (ws := wsX6_over) B.pre
  have hown : s.vm.findClass RX6 = some m.cls := findClass_of_methodNamed B.named
  have hlocks := B.notSynchronized
  have hS : va_S A s.heap s.heap [] := va_S.rf
  have hin6 : ∀ w ∈ wsX60, w ∈ wsX6_over := by decide +kernel
  have hf13 := hts (.fieldLink RX6 13 "LettersByLotModel" "all" "I") (by decide +kernel)
  have hf16 := hts (.fieldLink RX6 16 "LettersByLotModel" "weight" "[I") (by decide +kernel)
  have hl := lv_entry ([.ref (ad (62)), .int (nI (k1)), .int (nI (k))]) (n := 8) (Nat.le_of_ble_eq_true rfl)
  rw [lg_entry_eq]
  generalize (lg_sl ([.ref (ad (62)), .int (nI (k1)), .int (nI (k))]) ++ List.replicate (8 - (lg_sl ([.ref (ad (62)), .int (nI (k1)), .int (nI (k))])).length) Slot.unset).toArray = ls at hl ⊢
  have hl : lv_has ls 8 [(0, .ref (ad (62))), (1, .int (nI (k1))), (2, .int (nI (k)))] := hl
  have hn1 := hln k1
  have hwf := wfr_pos (fun j hj => hw1 _ (hul k1 j hj)) hk
  have hwg := wfr_le (fun j hj => hw _ (Nat.lt_of_lt_of_le (hul k1 j hj) hq4)) hk
  have hwp := Nat.pow_le_pow_right (n := 4) (by decide) (show k ≤ 5 by omega)
  have hwq := pow_le5 hWt (show k ≤ 5 by omega)
  refine lv_lconst (v := lZ (1)) hx hb dX6_over_0 (by decide) ?_
  refine lv_lstore_n (lv' := [(3, .long (lZ (1))), (0, .ref (ad (62))), (1, .int (nI (k1))), (2, .int (nI (k)))]) hx hb dX6_over_1 rfl hl (by decide) rfl (fun ls hl => ?_)
  refine lv_lconst (v := lZ (1)) hx hb dX6_over_2 (by decide) ?_
  refine lv_lstore (lv' := [(5, .long (lZ (1))), (3, .long (lZ (1))), (0, .ref (ad (62))), (1, .int (nI (k1))), (2, .int (nI (k)))]) hx hb dX6_over_3 hl (by decide) rfl (fun ls hl => ?_)
  refine lv_iconst (v := nI (0)) hx hb dX6_over_5 (by decide) ?_
  refine lv_istore (lv' := [(7, .int (nI (0))), (5, .long (lZ (1))), (3, .long (lZ (1))), (0, .ref (ad (62))), (1, .int (nI (k1))), (2, .int (nI (k)))]) hx hb dX6_over_6 hl (by decide) rfl (fun ls hl => ?_)
  refine xloop (G := fun fr => W p l e _ s m _ below meth c _ _ _ _ _ fr) (σ := Nat) (fun i ls => F0 m 8 ls []) (fun i ls => (i ≤ k) ∧ lv_has ls 8 [(0, .ref (ad (62))), (1, .int (nI (k1))), (2, .int (nI (k))), (3, .long (lZ (((Wt ^ i : Nat) : Int)))), (5, .long (lZ (((wfr w (u k1) i : Nat) : Int)))), (7, .int (nI (i)))]) (fun i => k - i) ?_ (0) ls ⟨(Nat.zero_le _), (by rw [show Wt ^ 0 = 1 from rfl, show wfr w (u k1) 0 = 1 from rfl]; exact (lv_sub hl [3, 4, 5, 2, 1, 0] rfl))⟩
  rintro i ls ⟨hi, hl⟩ ih8
  refine lv_iload hx hb dX6_over_8 (lv_at hl 5 rfl) ?_
  refine lv_iload_n hx hb dX6_over_10 rfl (lv_at hl 2 rfl) ?_
  refine xi_icmp_ge (tgt := 46) hx hb (by omega) (by omega) dX6_over_11 (by decide) (fun c11_1 => ?_) (fun c11_1 => ?_)
  · refine lv_aload_n hx hb dX6_over_46 rfl (lv_at hl 0 rfl) ?_
    refine lv_lload_n hx hb dX6_over_47 rfl (lv_at hl 3 rfl) ?_
    refine lv_lload hx hb dX6_over_48 (lv_at hl 4 rfl) ?_
    have ei : i = k := by omega
    subst ei
    refine va_callv (va_runV (As := [.long (lZ (((Wt ^ i : Nat) : Int))), .long (lZ (((wfr w (u k1) i : Nat) : Int)))]) (rest := []) ⟨hx, hb, hml, hown, hts⟩ (mX6_set l hD (w := w) (ln := ln) (t := t) (u := u) (a := ((Wt ^ i : Nat) : Int)) (b := ((wfr w (u k1) i : Nat) : Int)) fo62 (by omega) (by omega)) (cwV 2 hts gX6_over_X6_set rfl rfl rfl (by decide +kernel) ⟨Nat.le_of_ble_eq_true rfl, Nat.le_of_ble_eq_true rfl⟩) ⟨xB_blind, va_recv hK hP (ci := 6) rfl (xw_is (by decide) fo62), fun U hU hW => ⟨rfl, by rw [hU]; exact hP, va_K.moved hW.alike hK, va_Nw.warmM hW hN⟩⟩ rfl rfl hl.1 rfl (lv_room (Nat.le_of_ble_eq_true rfl)) dX6_over_50 ⟨Nat.le_of_ble_eq_true rfl, Nat.le_of_ble_eq_true rfl⟩) hS (fun _ _ h => h) (fun _ h => h) (fun g2 tZ H locs ht hvm hwg2 hB hzZ hkZ hS => ?_)
    obtain ⟨hP, -⟩ := hB
    rw [ht] at hP
    obtain ⟨fg2_n0, hcg2⟩ := hwg2
    have fg2_k0 : g2 (63) = .inl (cI, 4, .inl (fw)) := (hcg2 (63) (by decide)).trans fa63
    have fg2_k1 : g2 (65) = .inl (cI, 40, .inl (fwd)) := (hcg2 (65) (by decide)).trans fa65
    have hfrg2 : ∀ j : Nat, j ≠ 62 → g2 j = g j := fun j h0 => (hcg2 j h0).trans ((fun _ _ => rfl) j h0)
    exact W.vret hx hb hr (fun tZ ht hW => ⟨⟨g2, rfl, ⟨fg2_n0, hfrg2⟩, by rw [ht]; exact hP, va_K.moved hW.alike hK, va_Nw.warmM hW hN⟩, hS.F ht⟩) hS.2.2 dX6_over_53
  · refine lv_lload_n hx hb dX6_over_14 rfl (lv_at hl 3 rfl) ?_
    refine lv_aload_n hx hb dX6_over_15 rfl (lv_at hl 0 rfl) ?_
    refine xw_get hx hb hts hin6 hown hK hP (by decide) fo62 rfl 1 (by decide) hf13 rfl rfl dX6_over_16 ?_
    refine xi_i2l hx hb (by omega) dX6_over_19 ?_
    refine xl_mul hx hb dX6_over_20 ?_
    refine xtopl (y := lZ (((Wt ^ (i + 1) : Nat) : Int))) (congrArg lZ (by rw [Nat.pow_succ, Int.natCast_mul])) ?_
    refine lv_lstore_n (lv' := [(3, .long (lZ (((Wt ^ (i + 1) : Nat) : Int)))), (0, .ref (ad (62))), (1, .int (nI (k1))), (2, .int (nI (k))), (5, .long (lZ (((wfr w (u k1) i : Nat) : Int)))), (7, .int (nI (i)))]) hx hb dX6_over_21 rfl hl (by decide) rfl (fun ls hl => ?_)
    refine lv_lload hx hb dX6_over_22 (lv_at hl 4 rfl) ?_
    refine lv_aload_n hx hb dX6_over_24 rfl (lv_at hl 1 rfl) ?_
    refine xw_get hx hb hts hin6 hown hK hP (by decide) fo62 rfl 2 (by decide) hf16 rfl rfl dX6_over_25 ?_
    refine lv_aload_n hx hb dX6_over_28 rfl (lv_at hl 1 rfl) ?_
    refine lv_iload_n hx hb dX6_over_29 rfl (lv_at hl 2 rfl) ?_
    refine lv_iload hx hb dX6_over_30 (lv_at hl 5 rfl) ?_
    refine vp_callSi (va_Run.run (va_runV (As := [.int (nI (k1)), .int (nI (i))]) (rest := [.ref (ad (63)), .long (lZ (((wfr w (u k1) i : Nat) : Int)))]) ⟨hx, hb, hml, hown, hts⟩ (mX6_letterOf l (w := w) (ln := ln) (t := t) (u := u) (s1 := k1) (j1 := i) (vv := u (k1) (i)) fo62 fa65 (by omega) (by have h9 := hln (k1); omega) (hwl (k1) (i) (by omega) (by omega))) (cwV 2 hts gX6_over_X6_letterOf rfl rfl rfl (by decide +kernel) ⟨Nat.le_of_ble_eq_true rfl, Nat.le_of_ble_eq_true rfl⟩) ⟨xB_blind, va_recv hK hP (ci := 6) rfl (xw_is (by decide) fo62), fun U hU hW => ⟨rfl, by rw [hU]; exact hP, va_K.moved hW.alike hK, va_Nw.warmM hW hN⟩⟩ rfl rfl hl.1 rfl (lv_room (Nat.le_of_ble_eq_true rfl)) dX6_over_32 ⟨Nat.le_of_ble_eq_true rfl, Nat.le_of_ble_eq_true rfl⟩)) (fun r4 er4 => ?_)
    subst er4
    refine xw_iald hx hb hK hP (by decide) 0 fa63 rfl (by have h9 := hul k1 i (by omega); omega) (by decide) dX6_over_35 ?_
    rw [hfw (u (k1) (i)) (by have h9 := hul k1 i (by omega); omega)]
    refine xi_i2l hx hb (by have h9 := hul k1 i (by omega); have h8 := hw (u k1 i) (by omega); omega) dX6_over_36 ?_
    refine xl_mul hx hb dX6_over_37 ?_
    refine xtopl (y := lZ (((wfr w (u k1) (i + 1) : Nat) : Int))) (congrArg lZ (Int.natCast_mul _ _).symm) ?_
    refine lv_lstore (lv' := [(5, .long (lZ (((wfr w (u k1) (i + 1) : Nat) : Int)))), (3, .long (lZ (((Wt ^ (i + 1) : Nat) : Int)))), (0, .ref (ad (62))), (1, .int (nI (k1))), (2, .int (nI (k))), (7, .int (nI (i)))]) hx hb dX6_over_38 hl (by decide) rfl (fun ls hl => ?_)
    refine lv_iinc (v := nI (i + 1)) (lv' := [(7, .int (nI (i + 1))), (5, .long (lZ (((wfr w (u k1) (i + 1) : Nat) : Int)))), (3, .long (lZ (((Wt ^ (i + 1) : Nat) : Int)))), (0, .ref (ad (62))), (1, .int (nI (k1))), (2, .int (nI (k)))]) hx hb dX6_over_40 hl (k := 5) rfl (nI_add (i) 1) (by decide) rfl (fun ls hl => ?_)
    refine lv_goto (tgt := 8) hx hb dX6_over_43 (by decide) ?_
    exact ih8 (i + 1) ls ⟨(by omega), (lv_sub hl [3, 4, 5, 2, 1, 0] rfl)⟩ (by first | omega | (dsimp only; omega))

set_option maxHeartbeats 4000000 in
set_option maxRecDepth 100000 in
theorem mX6_lead_ss (l : Launch) {D : va_G} {cI cJ cZ cW : ClassId} {ad : Nat → Nat} {A : Nat → Prop} (hD : ∀ g, va_D A (xw 81 ad g)) {g : Nat → va_E} {q Wt : Nat} {w : Nat → Nat} {ln : Nat → Nat} {u : Nat → Nat → Nat} {T : Nat} {t : Nat → Nat} {tp bt : Int64} {k1 : Nat} {k2 : Nat}  (hM : ModI cI cJ ad g q Wt w ln u T t tp bt) (hs : SrcI q Wt w ln u T t) (hk1 : k1 < 8) (hp1 : 0 < ln k1) (hk2 : k2 < 8) (hp2 : 0 < ln k2) : Met l yX6_lead wsX6_lead ({ frames := 3, cells := 0, slots := 0, locals := 85 }) (va_Pc [.ref (ad (62)), .int (nI (k1)), .int (nI (k2))] (xB D (xT cI cJ cZ cW) ad g)) (va_Qi (fun r g2 => r = (if (oLead Wt w ln u (nI (k1)) (nI (k2))).isSome then 1 else 0) ∧ ModI cI cJ ad g2 q Wt w ln u T t (hTp (oLead Wt w ln u (nI (k1)) (nI (k2))) tp) (hBt (oLead Wt w ln u (nI (k1)) (nI (k2))) bt) ∧ ∀ j : Nat, j < 62 → g2 j = g j) (xB D (xT cI cJ cZ cW) ad) A) 0 0 A := by
  refine Met.ofW (cc := cX6_lead) (maxL := 8) (ret := (some .boolean)) (by decide) rfl ?_
  intro p e s m args below meth c s₁ B hml hv
  obtain ⟨rfl, hP, hK, hN⟩ := hv
  have hx := B.exec
  have hb := B.bytes
  have hr := B.returns
  have hts := atoms_spec (ws := wsX6_lead) B.pre
  have hown : s.vm.findClass RX6 = some m.cls := findClass_of_methodNamed B.named
  have hlocks := B.notSynchronized
  have hS : va_S A s.heap s.heap [] := va_S.rf
  have hin6 : ∀ w ∈ wsX60, w ∈ wsX6_lead := by decide +kernel
  have hf106 := hts (.fieldLink RX6 106 "LettersByLotModel" "num" "J") (by decide +kernel)
  have hf109 := hts (.fieldLink RX6 109 "LettersByLotModel" "den" "J") (by decide +kernel)
  have hl := lv_entry ([.ref (ad (62)), .int (nI (k1)), .int (nI (k2))]) (n := 8) (Nat.le_of_ble_eq_true rfl)
  rw [lg_entry_eq]
  generalize (lg_sl ([.ref (ad (62)), .int (nI (k1)), .int (nI (k2))]) ++ List.replicate (8 - (lg_sl ([.ref (ad (62)), .int (nI (k1)), .int (nI (k2))])).length) Slot.unset).toArray = ls at hl ⊢
  have hl : lv_has ls 8 [(0, .ref (ad (62))), (1, .int (nI (k1))), (2, .int (nI (k2)))] := hl
  obtain ⟨hq2, hq4, hw1, hw0, hWs, hWt, hw, hln, hul, hT, ht⟩ := hs
  obtain ⟨sq, nu, de, fw, fsz, fwd, ftx, fos, foz, fgo, frw, fan, fad, frn, frd, fen, fed, fcn, fcd, fnw, fth, fo62, fa63, fa64, fa65, fa66, fa67, fa68, fa69, fa70, fa71, fa72, fa73, fa74, fa75, fa76, fa77, fa78, fa79, fa80, hfw, hsz, hwl, htx⟩ := id hM
  have hWp : 1 ≤ Wt ∧ Wt ≤ 4 := by have h8 := hw1 0 (by omega); have h9 := wsum_mono (w := w) (show 1 ≤ q by omega); have h7 : wsum w 1 = 0 + w 0 := rfl; omega
  have hwA : ∀ k j, j < ln k → 1 ≤ w (u k j) := fun k j hj => hw1 _ (hul k j hj)
  have hwB : ∀ k j, j < ln k → w (u k j) ≤ 4 := fun k j hj => hw _ (Nat.lt_of_lt_of_le (hul k j hj) hq4)
  have hn1 := hln k1
  have hn2 := hln k2
  refine lv_aload_n hx hb dX6_lead_0 rfl (lv_at hl 0 rfl) ?_
  refine lv_iload_n hx hb dX6_lead_1 rfl (lv_at hl 1 rfl) ?_
  refine vp_callSi (va_Run.run (va_runV (As := [.int (nI (k1))]) (rest := []) ⟨hx, hb, hml, hown, hts⟩ (mX6_isWord_yes l (w := w) (ln := ln) (t := t) (u := u) fo62 fa64 hsz hk1 hp1 (hln _)) (cwV 1 hts gX6_lead_X6_isWord rfl rfl rfl (by decide +kernel) ⟨Nat.le_of_ble_eq_true rfl, Nat.le_of_ble_eq_true rfl⟩) ⟨xB_blind, va_recv hK hP (ci := 6) rfl (xw_is (by decide) fo62), fun U hU hW => ⟨rfl, by rw [hU]; exact hP, va_K.moved hW.alike hK, va_Nw.warmM hW hN⟩⟩ rfl rfl hl.1 rfl (lv_room (Nat.le_of_ble_eq_true rfl)) dX6_lead_2 ⟨Nat.le_of_ble_eq_true rfl, Nat.le_of_ble_eq_true rfl⟩)) (fun r1 er1 => ?_)
  subst er1
  refine xi_if_eq (tgt := 16) hx hb (by decide) dX6_lead_5 (by decide) (fun c0 => absurd c0 (by decide)) (fun _ => ?_)
  refine lv_aload_n hx hb dX6_lead_8 rfl (lv_at hl 0 rfl) ?_
  refine lv_iload_n hx hb dX6_lead_9 rfl (lv_at hl 2 rfl) ?_
  refine vp_callSi (va_Run.run (va_runV (As := [.int (nI (k2))]) (rest := []) ⟨hx, hb, hml, hown, hts⟩ (mX6_isWord_yes l (w := w) (ln := ln) (t := t) (u := u) fo62 fa64 hsz hk2 hp2 (hln _)) (cwV 1 hts gX6_lead_X6_isWord rfl rfl rfl (by decide +kernel) ⟨Nat.le_of_ble_eq_true rfl, Nat.le_of_ble_eq_true rfl⟩) ⟨xB_blind, va_recv hK hP (ci := 6) rfl (xw_is (by decide) fo62), fun U hU hW => ⟨rfl, by rw [hU]; exact hP, va_K.moved hW.alike hK, va_Nw.warmM hW hN⟩⟩ rfl rfl hl.1 rfl (lv_room (Nat.le_of_ble_eq_true rfl)) dX6_lead_10 ⟨Nat.le_of_ble_eq_true rfl, Nat.le_of_ble_eq_true rfl⟩)) (fun r3 er3 => ?_)
  subst er3
  refine xi_if_ne (tgt := 18) hx hb (by decide) dX6_lead_13 (by decide) (fun _ => ?_) (fun c0 => absurd c0 (by decide))
  refine lv_lconst (v := lZ (0)) hx hb dX6_lead_18 (by decide) ?_
  refine lv_lstore_n (lv' := [(3, .long (lZ (0))), (0, .ref (ad (62))), (1, .int (nI (k1))), (2, .int (nI (k2)))]) hx hb dX6_lead_19 rfl hl (by decide) rfl (fun ls hl => ?_)
  refine lv_lconst (v := lZ (1)) hx hb dX6_lead_20 (by decide) ?_
  refine lv_lstore (lv' := [(5, .long (lZ (1))), (3, .long (lZ (0))), (0, .ref (ad (62))), (1, .int (nI (k1))), (2, .int (nI (k2)))]) hx hb dX6_lead_21 hl (by decide) rfl (fun ls hl => ?_)
  refine lv_iconst (v := nI (1)) hx hb dX6_lead_23 (by decide) ?_
  refine lv_istore (lv' := [(7, .int (nI (1))), (5, .long (lZ (1))), (3, .long (lZ (0))), (0, .ref (ad (62))), (1, .int (nI (k1))), (2, .int (nI (k2)))]) hx hb dX6_lead_24 hl (by decide) rfl (fun ls hl => ?_)
  refine xloopW (G := fun H locs fr => W p l e _ s m _ below meth c H locs _ _ _ fr) (σ := Nat × Int64 × Int64) (fun (i, nx, dx) ls => F0 m 26 ls []) (fun (i, nx, dx) gl26_5 H locs ls => (i ≤ 5) ∧ gl26_5 (62) = .inr (6, [.int (nI (q)), .int (nI (Wt)), .ref (ad (63)), .ref (ad (64)), .ref (ad (65)), .ref (ad (66)), .int (nI (T)), .long (tp), .long (bt), .long (nx), .long (dx), .int (sq), .ref (ad (67)), .ref (ad (68)), .ref (ad (69)), .ref (ad (70)), .ref (ad (71)), .ref (ad (72)), .ref (ad (73)), .ref (ad (74)), .ref (ad (75)), .ref (ad (76)), .ref (ad (77)), .ref (ad (78)), .ref (ad (79)), .ref (ad (80))]) ∧ gl26_5 (63) = .inl (cI, 4, .inl (fw)) ∧ gl26_5 (64) = .inl (cI, 8, .inl (fsz)) ∧ gl26_5 (65) = .inl (cI, 40, .inl (fwd)) ∧ (∀ j : Nat, j ≠ 62 → gl26_5 j = g j) ∧ va_P D vwCl (xw 81 ad gl26_5) H ∧ va_S A s.heap H locs ∧ lv_has ls 8 [(0, .ref (ad (62))), (1, .int (nI (k1))), (2, .int (nI (k2))), (3, .long (lZ ((pld Wt w ln u k1 k2 (i)).num))), (5, .long (lZ (((pld Wt w ln u k1 k2 (i)).den : Int)))), (7, .int (nI (i + 1)))]) (fun (i, nx, dx) => 5 - i) ?_ (0, nu, de) g s.heap [] ls ⟨(Nat.zero_le _), fo62, fa63, fa64, fa65, (fun _ _ => rfl), hP, hS, (by rw [pld_0]; exact (lv_sub hl [3, 4, 5, 2, 1, 0] rfl))⟩
  rintro ⟨i, nx, dx⟩ gl26_5 H locs ls ⟨hi, fo62, fa63, fa64, fa65, hfrgl26_5, hP, hS, hl⟩ ih26
  refine lv_iload hx hb dX6_lead_26 (lv_at hl 5 rfl) ?_
  refine lv_iconst (v := nI (5)) hx hb dX6_lead_28 (by decide) ?_
  refine xi_icmp_gt (tgt := 85) hx hb (by omega) (by decide) dX6_lead_29 (by decide) (fun c29_6 => ?_) (fun c29_6 => ?_)
  · have ei : i = 5 := by omega
    subst ei
    refine lv_aload_n hx hb dX6_lead_85 rfl (lv_at hl 0 rfl) ?_
    refine lv_lload_n hx hb dX6_lead_86 rfl (lv_at hl 3 rfl) ?_
    refine lv_lload hx hb dX6_lead_87 (lv_at hl 4 rfl) ?_
    refine va_callv (va_runV (As := [.long (lZ ((pld Wt w ln u k1 k2 (5)).num)), .long (lZ (((pld Wt w ln u k1 k2 (5)).den : Int)))]) (rest := []) ⟨hx, hb, hml, hown, hts⟩ (mX6_atHand l hD (w := w) (ln := ln) (t := t) (u := u) (a := (pld Wt w ln u k1 k2 (5)).num) (b := ((pld Wt w ln u k1 k2 (5)).den : Int)) fo62 ⟨(pld_fit (a := k1) (i := 5) (hwA k2) (hwB k2) hWt hn2 (by omega)).1, (pld_fit (a := k1) (i := 5) (hwA k2) (hwB k2) hWt hn2 (by omega)).2.1⟩ ⟨by have h9 := (pld Wt w ln u k1 k2 (5)).den_pos; omega, (pld_fit (a := k1) (i := 5) (hwA k2) (hwB k2) hWt hn2 (by omega)).2.2⟩) (cwV 2 hts gX6_lead_X6_atHand rfl rfl rfl (by decide +kernel) ⟨Nat.le_of_ble_eq_true rfl, Nat.le_of_ble_eq_true rfl⟩) ⟨xB_blind, va_recv hK hP (ci := 6) rfl (xw_is (by decide) fo62), fun U hU hW => ⟨rfl, by rw [hU]; exact hP, va_K.moved hW.alike hK, va_Nw.warmM hW hN⟩⟩ rfl rfl hl.1 rfl (lv_room (Nat.le_of_ble_eq_true rfl)) dX6_lead_89 ⟨Nat.le_of_ble_eq_true rfl, Nat.le_of_ble_eq_true rfl⟩) hS (fun _ _ h => h) (fun _ h => h) (fun g7 tZ H locs ht hvm hwg7 hB hzZ hkZ hS => ?_)
    obtain ⟨hP, -⟩ := hB
    rw [ht] at hP
    obtain ⟨fg7_n0, hcg7⟩ := hwg7
    have fg7_k0 : g7 (63) = .inl (cI, 4, .inl (fw)) := (hcg7 (63) (by decide)).trans fa63
    have fg7_k1 : g7 (64) = .inl (cI, 8, .inl (fsz)) := (hcg7 (64) (by decide)).trans fa64
    have fg7_k2 : g7 (65) = .inl (cI, 40, .inl (fwd)) := (hcg7 (65) (by decide)).trans fa65
    have hfrg7 : ∀ j : Nat, j ≠ 62 → g7 j = g j := fun j h0 => (hcg7 j h0).trans (hfrgl26_5 j h0)
    rw [divInt_nd] at fg7_n0
    refine lv_iconst (v := nI (1)) hx hb dX6_lead_92 (by decide) ?_
    exact W.zret (v := nI (1)) hx hb hr (by decide) (fun tZ ht hW => ⟨⟨_, g7, rfl, (by have hO : oLead Wt w ln u (nI k1) (nI k2) = some (pld Wt w ln u k1 k2 (5)) := (by unfold oLead; rw [slotW_yes hk1 hp1, slotW_yes hk2 hp2]; rfl); show _ = (if (oLead Wt w ln u (nI k1) (nI k2)).isSome then 1 else 0) ∧ _; rw [hO]; exact ⟨rfl, ⟨_, _, _, _, _, _, _, _, _, _, _, _, _, _, _, _, _, _, _, _, _, fg7_n0, fg7_k0, fg7_k1, fg7_k2, ((hfrg7) 66 (by decide)).trans fa66, ((hfrg7) 67 (by decide)).trans fa67, ((hfrg7) 68 (by decide)).trans fa68, ((hfrg7) 69 (by decide)).trans fa69, ((hfrg7) 70 (by decide)).trans fa70, ((hfrg7) 71 (by decide)).trans fa71, ((hfrg7) 72 (by decide)).trans fa72, ((hfrg7) 73 (by decide)).trans fa73, ((hfrg7) 74 (by decide)).trans fa74, ((hfrg7) 75 (by decide)).trans fa75, ((hfrg7) 76 (by decide)).trans fa76, ((hfrg7) 77 (by decide)).trans fa77, ((hfrg7) 78 (by decide)).trans fa78, ((hfrg7) 79 (by decide)).trans fa79, ((hfrg7) 80 (by decide)).trans fa80, hfw, hsz, hwl, htx⟩, fun j hj => (hfrg7) j (by omega)⟩), by rw [ht]; exact hP, va_K.moved hW.alike hK, va_Nw.warmM hW hN⟩, hS.F ht⟩) hS.2.2 dX6_lead_93
  · refine lv_aload_n hx hb dX6_lead_32 rfl (lv_at hl 0 rfl) ?_
    refine lv_iload_n hx hb dX6_lead_33 rfl (lv_at hl 1 rfl) ?_
    refine lv_iload_n hx hb dX6_lead_34 rfl (lv_at hl 2 rfl) ?_
    refine lv_iload hx hb dX6_lead_35 (lv_at hl 5 rfl) ?_
    refine vp_callSi (va_Run.run (va_runV (As := [.int (nI (k1)), .int (nI (k2)), .int (nI (i + 1))]) (rest := []) ⟨hx, hb, hml, hown, hts⟩ (mX6_isLap l (w := w) (ln := ln) (t := t) (u := u) fo62 fa64 fa65 hsz hwl hq2 hq4 hln hul hT ht (by omega) (by omega) (by omega)) (cwV 3 hts gX6_lead_X6_isLap rfl rfl rfl (by decide +kernel) ⟨Nat.le_of_ble_eq_true rfl, Nat.le_of_ble_eq_true rfl⟩) ⟨xB_blind, va_recv hK hP (ci := 6) rfl (xw_is (by decide) fo62), fun U hU hW => ⟨rfl, by rw [hU]; exact hP, va_K.moved hW.alike hK, va_Nw.warmM hW hN⟩⟩ rfl rfl hl.1 rfl (lv_room (Nat.le_of_ble_eq_true rfl)) dX6_lead_37 ⟨Nat.le_of_ble_eq_true rfl, Nat.le_of_ble_eq_true rfl⟩)) (fun r9 er9 => ?_)
    subst er9
    refine xb_if_ne (tgt := 46) hx hb dX6_lead_40 (by decide) (fun c40_10 => ?_) (fun c40_10 => ?_)
    · refine lv_aload_n hx hb dX6_lead_46 rfl (lv_at hl 0 rfl) ?_
      refine lv_iload_n hx hb dX6_lead_47 rfl (lv_at hl 2 rfl) ?_
      refine lv_iload hx hb dX6_lead_48 (lv_at hl 5 rfl) ?_
      refine va_callv (va_runV (As := [.int (nI (k2)), .int (nI (i + 1))]) (rest := []) ⟨hx, hb, hml, hown, hts⟩ (mX6_over l hD (w := w) (ln := ln) (t := t) (u := u) fo62 fa63 fa65 hfw hwl hq2 hq4 hln hul hT ht hw1 hw hWt (by omega) c40_10.2.1) (cwV 2 hts gX6_lead_X6_over rfl rfl rfl (by decide +kernel) ⟨Nat.le_of_ble_eq_true rfl, Nat.le_of_ble_eq_true rfl⟩) ⟨xB_blind, va_recv hK hP (ci := 6) rfl (xw_is (by decide) fo62), fun U hU hW => ⟨rfl, by rw [hU]; exact hP, va_K.moved hW.alike hK, va_Nw.warmM hW hN⟩⟩ rfl rfl hl.1 rfl (lv_room (Nat.le_of_ble_eq_true rfl)) dX6_lead_50 ⟨Nat.le_of_ble_eq_true rfl, Nat.le_of_ble_eq_true rfl⟩) hS (fun _ _ h => h) (fun _ h => h) (fun g11 tZ H locs ht hvm hwg11 hB hzZ hkZ hS => ?_)
      obtain ⟨hP, -⟩ := hB
      rw [ht] at hP
      obtain ⟨fg11_n0, hcg11⟩ := hwg11
      have fg11_k0 : g11 (63) = .inl (cI, 4, .inl (fw)) := (hcg11 (63) (by decide)).trans fa63
      have fg11_k1 : g11 (64) = .inl (cI, 8, .inl (fsz)) := (hcg11 (64) (by decide)).trans fa64
      have fg11_k2 : g11 (65) = .inl (cI, 40, .inl (fwd)) := (hcg11 (65) (by decide)).trans fa65
      have hfrg11 : ∀ j : Nat, j ≠ 62 → g11 j = g j := fun j h0 => (hcg11 j h0).trans (hfrgl26_5 j h0)
      refine lv_aload_n hx hb dX6_lead_53 rfl (lv_at hl 0 rfl) ?_
      refine lv_lload_n hx hb dX6_lead_54 rfl (lv_at hl 3 rfl) ?_
      refine lv_lload hx hb dX6_lead_55 (lv_at hl 4 rfl) ?_
      refine lv_aload_n hx hb dX6_lead_57 rfl (lv_at hl 0 rfl) ?_
      refine xw_get hx hb hts hin6 hown hK hP (by decide) fg11_n0 rfl 9 (by decide) hf106 rfl rfl dX6_lead_58 ?_
      refine lv_aload_n hx hb dX6_lead_61 rfl (lv_at hl 0 rfl) ?_
      refine xw_get hx hb hts hin6 hown hK hP (by decide) fg11_n0 rfl 10 (by decide) hf109 rfl rfl dX6_lead_62 ?_
      refine va_callv (va_runV (As := [.long (lZ ((pld Wt w ln u k1 k2 (i)).num)), .long (lZ (((pld Wt w ln u k1 k2 (i)).den : Int))), .long (lZ ((Rat.divInt ((Wt ^ (i + 1) : Nat) : Int) ((wfr w (u (k2)) (i + 1) : Nat) : Int)).num)), .long (lZ (((Rat.divInt ((Wt ^ (i + 1) : Nat) : Int) ((wfr w (u (k2)) (i + 1) : Nat) : Int)).den : Int)))]) (rest := []) ⟨hx, hb, hml, hown, hts⟩ (mX6_add l hD (w := w) (ln := ln) (t := t) (u := u) (x := pld Wt w ln u k1 k2 (i)) (y := Rat.divInt ((Wt ^ (i + 1) : Nat) : Int) ((wfr w (u (k2)) (i + 1) : Nat) : Int)) fg11_n0 rfl rfl rfl rfl (pld_fit (hwA k2) (hwB k2) hWt hn2 (by omega)) (over_fit (hwA k2) (hwB k2) hWt hn2 c40_10.2.1) (pld_fitA (hwA k2) (hwB k2) hWt hn2 (by omega) c40_10.2.1)) (cwV 4 hts gX6_lead_X6_add rfl rfl rfl (by decide +kernel) ⟨Nat.le_of_ble_eq_true rfl, Nat.le_of_ble_eq_true rfl⟩) ⟨xB_blind, va_recv hK hP (ci := 6) rfl (xw_is (by decide) fg11_n0), fun U hU hW => ⟨rfl, by rw [hU]; exact hP, va_K.moved hW.alike hK, va_Nw.warmM hW hN⟩⟩ rfl rfl hl.1 rfl (lv_room (Nat.le_of_ble_eq_true rfl)) dX6_lead_65 ⟨Nat.le_of_ble_eq_true rfl, Nat.le_of_ble_eq_true rfl⟩) hS (fun _ _ h => h) (fun _ h => h) (fun g13 tZ H locs ht hvm hwg13 hB hzZ hkZ hS => ?_)
      obtain ⟨hP, -⟩ := hB
      rw [ht] at hP
      obtain ⟨fg13_n0, hcg13⟩ := hwg13
      have fg13_k0 : g13 (63) = .inl (cI, 4, .inl (fw)) := (hcg13 (63) (by decide)).trans fg11_k0
      have fg13_k1 : g13 (64) = .inl (cI, 8, .inl (fsz)) := (hcg13 (64) (by decide)).trans fg11_k1
      have fg13_k2 : g13 (65) = .inl (cI, 40, .inl (fwd)) := (hcg13 (65) (by decide)).trans fg11_k2
      have hfrg13 : ∀ j : Nat, j ≠ 62 → g13 j = g j := fun j h0 => (hcg13 j h0).trans (hfrg11 j h0)
      rw [show (pld Wt w ln u k1 k2 (i)) + (Rat.divInt ((Wt ^ (i + 1) : Nat) : Int) ((wfr w (u (k2)) (i + 1) : Nat) : Int)) = pld Wt w ln u k1 k2 (i + 1) from pld_y (hwA k2) c40_10] at fg13_n0
      refine lv_aload_n hx hb dX6_lead_68 rfl (lv_at hl 0 rfl) ?_
      refine xw_get hx hb hts hin6 hown hK hP (by decide) fg13_n0 rfl 9 (by decide) hf106 rfl rfl dX6_lead_69 ?_
      refine lv_lstore_n (lv' := [(3, .long (lZ ((pld Wt w ln u k1 k2 (i + 1)).num))), (0, .ref (ad (62))), (1, .int (nI (k1))), (2, .int (nI (k2))), (5, .long (lZ (((pld Wt w ln u k1 k2 (i)).den : Int)))), (7, .int (nI (i + 1)))]) hx hb dX6_lead_72 rfl hl (by decide) rfl (fun ls hl => ?_)
      refine lv_aload_n hx hb dX6_lead_73 rfl (lv_at hl 1 rfl) ?_
      refine xw_get hx hb hts hin6 hown hK hP (by decide) fg13_n0 rfl 10 (by decide) hf109 rfl rfl dX6_lead_74 ?_
      refine lv_lstore (lv' := [(5, .long (lZ (((pld Wt w ln u k1 k2 (i + 1)).den : Int)))), (3, .long (lZ ((pld Wt w ln u k1 k2 (i + 1)).num))), (0, .ref (ad (62))), (1, .int (nI (k1))), (2, .int (nI (k2))), (7, .int (nI (i + 1)))]) hx hb dX6_lead_77 hl (by decide) rfl (fun ls hl => ?_)
      refine lv_iinc (v := nI (i + 1 + 1)) (lv' := [(7, .int (nI (i + 1 + 1))), (5, .long (lZ (((pld Wt w ln u k1 k2 (i + 1)).den : Int)))), (3, .long (lZ ((pld Wt w ln u k1 k2 (i + 1)).num))), (0, .ref (ad (62))), (1, .int (nI (k1))), (2, .int (nI (k2)))]) hx hb dX6_lead_79 hl (k := 5) rfl (nI_add (i + 1) 1) (by decide) rfl (fun ls hl => ?_)
      refine lv_goto (tgt := 26) hx hb dX6_lead_82 (by decide) ?_
      exact ih26 (i + 1, lZ ((pld Wt w ln u k1 k2 (i + 1)).num), lZ (((pld Wt w ln u k1 k2 (i + 1)).den : Int))) g13 H locs ls ⟨(by omega), fg13_n0, fg13_k0, fg13_k1, fg13_k2, hfrg13, hP, hS, (lv_sub hl [3, 4, 5, 2, 1, 0] rfl)⟩ (by first | omega | (dsimp only; omega))
    · refine lv_goto (tgt := 79) hx hb dX6_lead_43 (by decide) ?_
      refine lv_iinc (v := nI (i + 1 + 1)) (lv' := [(7, .int (nI (i + 1 + 1))), (0, .ref (ad (62))), (1, .int (nI (k1))), (2, .int (nI (k2))), (3, .long (lZ ((pld Wt w ln u k1 k2 (i)).num))), (5, .long (lZ (((pld Wt w ln u k1 k2 (i)).den : Int))))]) hx hb dX6_lead_79 hl (k := 5) rfl (nI_add (i + 1) 1) (by decide) rfl (fun ls hl => ?_)
      refine lv_goto (tgt := 26) hx hb dX6_lead_82 (by decide) ?_
      exact ih26 (i + 1, nx, dx) gl26_5 H locs ls ⟨(by omega), fo62, fa63, fa64, fa65, hfrgl26_5, hP, hS, (by rw [pld_n c40_10]; exact (lv_sub hl [1, 2, 3, 4, 5, 0] rfl))⟩ (by first | omega | (dsimp only; omega))

set_option maxHeartbeats 4000000 in
set_option maxRecDepth 100000 in
theorem mX6_lead_sn (l : Launch) {D : va_G} {cI cJ cZ cW : ClassId} {ad : Nat → Nat} {A : Nat → Prop} (hD : ∀ g, va_D A (xw 81 ad g)) {g : Nat → va_E} {q Wt : Nat} {w : Nat → Nat} {ln : Nat → Nat} {u : Nat → Nat → Nat} {T : Nat} {t : Nat → Nat} {tp bt : Int64} {k1 : Nat} {xb : Int32}  (hM : ModI cI cJ ad g q Wt w ln u T t tp bt) (hs : SrcI q Wt w ln u T t) (hk1 : k1 < 8) (hp1 : 0 < ln k1) (hxb : noW ln xb) : Met l yX6_lead wsX6_lead ({ frames := 3, cells := 0, slots := 0, locals := 85 }) (va_Pc [.ref (ad (62)), .int (nI (k1)), .int (xb)] (xB D (xT cI cJ cZ cW) ad g)) (va_Qi (fun r g2 => r = (if (oLead Wt w ln u (nI (k1)) (xb)).isSome then 1 else 0) ∧ ModI cI cJ ad g2 q Wt w ln u T t (hTp (oLead Wt w ln u (nI (k1)) (xb)) tp) (hBt (oLead Wt w ln u (nI (k1)) (xb)) bt) ∧ ∀ j : Nat, j < 62 → g2 j = g j) (xB D (xT cI cJ cZ cW) ad) A) 0 0 A := by
  refine Met.ofW (cc := cX6_lead) (maxL := 8) (ret := (some .boolean)) (by decide) rfl ?_
  intro p e s m args below meth c s₁ B hml hv
  obtain ⟨rfl, hP, hK, hN⟩ := hv
  have hx := B.exec
  have hb := B.bytes
  have hr := B.returns
  have hts := atoms_spec (ws := wsX6_lead) B.pre
  have hown : s.vm.findClass RX6 = some m.cls := findClass_of_methodNamed B.named
  have hlocks := B.notSynchronized
  have hS : va_S A s.heap s.heap [] := va_S.rf
  have hl := lv_entry ([.ref (ad (62)), .int (nI (k1)), .int (xb)]) (n := 8) (Nat.le_of_ble_eq_true rfl)
  rw [lg_entry_eq]
  generalize (lg_sl ([.ref (ad (62)), .int (nI (k1)), .int (xb)]) ++ List.replicate (8 - (lg_sl ([.ref (ad (62)), .int (nI (k1)), .int (xb)])).length) Slot.unset).toArray = ls at hl ⊢
  have hl : lv_has ls 8 [(0, .ref (ad (62))), (1, .int (nI (k1))), (2, .int (xb))] := hl
  obtain ⟨hq2, hq4, hw1, hw0, hWs, hWt, hw, hln, hul, hT, ht⟩ := hs
  obtain ⟨sq, nu, de, fw, fsz, fwd, ftx, fos, foz, fgo, frw, fan, fad, frn, frd, fen, fed, fcn, fcd, fnw, fth, fo62, fa63, fa64, fa65, fa66, fa67, fa68, fa69, fa70, fa71, fa72, fa73, fa74, fa75, fa76, fa77, fa78, fa79, fa80, hfw, hsz, hwl, htx⟩ := id hM
  have hWp : 1 ≤ Wt ∧ Wt ≤ 4 := by have h8 := hw1 0 (by omega); have h9 := wsum_mono (w := w) (show 1 ≤ q by omega); have h7 : wsum w 1 = 0 + w 0 := rfl; omega
  have hwA : ∀ k j, j < ln k → 1 ≤ w (u k j) := fun k j hj => hw1 _ (hul k j hj)
  have hwB : ∀ k j, j < ln k → w (u k j) ≤ 4 := fun k j hj => hw _ (Nat.lt_of_lt_of_le (hul k j hj) hq4)
  have hn1 := hln k1
  refine lv_aload_n hx hb dX6_lead_0 rfl (lv_at hl 0 rfl) ?_
  refine lv_iload_n hx hb dX6_lead_1 rfl (lv_at hl 1 rfl) ?_
  refine vp_callSi (va_Run.run (va_runV (As := [.int (nI (k1))]) (rest := []) ⟨hx, hb, hml, hown, hts⟩ (mX6_isWord_yes l (w := w) (ln := ln) (t := t) (u := u) fo62 fa64 hsz hk1 hp1 (hln _)) (cwV 1 hts gX6_lead_X6_isWord rfl rfl rfl (by decide +kernel) ⟨Nat.le_of_ble_eq_true rfl, Nat.le_of_ble_eq_true rfl⟩) ⟨xB_blind, va_recv hK hP (ci := 6) rfl (xw_is (by decide) fo62), fun U hU hW => ⟨rfl, by rw [hU]; exact hP, va_K.moved hW.alike hK, va_Nw.warmM hW hN⟩⟩ rfl rfl hl.1 rfl (lv_room (Nat.le_of_ble_eq_true rfl)) dX6_lead_2 ⟨Nat.le_of_ble_eq_true rfl, Nat.le_of_ble_eq_true rfl⟩)) (fun r1 er1 => ?_)
  subst er1
  refine xi_if_eq (tgt := 16) hx hb (by decide) dX6_lead_5 (by decide) (fun c0 => absurd c0 (by decide)) (fun _ => ?_)
  refine lv_aload_n hx hb dX6_lead_8 rfl (lv_at hl 0 rfl) ?_
  refine lv_iload_n hx hb dX6_lead_9 rfl (lv_at hl 2 rfl) ?_
  refine vp_callSi (va_Run.run (va_runV (As := [.int (xb)]) (rest := []) ⟨hx, hb, hml, hown, hts⟩ (mX6_isWord_no l (w := w) (ln := ln) (t := t) (u := u) fo62 fa64 hsz hxb) (cwV 1 hts gX6_lead_X6_isWord rfl rfl rfl (by decide +kernel) ⟨Nat.le_of_ble_eq_true rfl, Nat.le_of_ble_eq_true rfl⟩) ⟨xB_blind, va_recv hK hP (ci := 6) rfl (xw_is (by decide) fo62), fun U hU hW => ⟨rfl, by rw [hU]; exact hP, va_K.moved hW.alike hK, va_Nw.warmM hW hN⟩⟩ rfl rfl hl.1 rfl (lv_room (Nat.le_of_ble_eq_true rfl)) dX6_lead_10 ⟨Nat.le_of_ble_eq_true rfl, Nat.le_of_ble_eq_true rfl⟩)) (fun r3 er3 => ?_)
  subst er3
  refine xi_if_ne (tgt := 18) hx hb (by decide) dX6_lead_13 (by decide) (fun c0 => absurd c0 (by decide)) (fun _ => ?_)
  refine lv_iconst (v := nI (0)) hx hb dX6_lead_16 (by decide) ?_
  exact W.zret (v := nI (0)) hx hb hr (by decide) (fun tZ ht hW => ⟨⟨_, g, rfl, (by have hO : oLead Wt w ln u (nI k1) xb = none := (by exact slotW_2n hxb); show _ = (if (oLead Wt w ln u (nI k1) xb).isSome then 1 else 0) ∧ _; rw [hO]; exact ⟨rfl, hM, fun _ _ => rfl⟩), by rw [ht]; exact hP, va_K.moved hW.alike hK, va_Nw.warmM hW hN⟩, hS.F ht⟩) hS.2.2 dX6_lead_17

set_option maxHeartbeats 4000000 in
set_option maxRecDepth 100000 in
theorem mX6_lead_ns (l : Launch) {D : va_G} {cI cJ cZ cW : ClassId} {ad : Nat → Nat} {A : Nat → Prop} (hD : ∀ g, va_D A (xw 81 ad g)) {g : Nat → va_E} {q Wt : Nat} {w : Nat → Nat} {ln : Nat → Nat} {u : Nat → Nat → Nat} {T : Nat} {t : Nat → Nat} {tp bt : Int64} {xa : Int32} {k2 : Nat}  (hM : ModI cI cJ ad g q Wt w ln u T t tp bt) (hs : SrcI q Wt w ln u T t) (hxa : noW ln xa) (hk2 : k2 < 8) (hp2 : 0 < ln k2) : Met l yX6_lead wsX6_lead ({ frames := 3, cells := 0, slots := 0, locals := 85 }) (va_Pc [.ref (ad (62)), .int (xa), .int (nI (k2))] (xB D (xT cI cJ cZ cW) ad g)) (va_Qi (fun r g2 => r = (if (oLead Wt w ln u (xa) (nI (k2))).isSome then 1 else 0) ∧ ModI cI cJ ad g2 q Wt w ln u T t (hTp (oLead Wt w ln u (xa) (nI (k2))) tp) (hBt (oLead Wt w ln u (xa) (nI (k2))) bt) ∧ ∀ j : Nat, j < 62 → g2 j = g j) (xB D (xT cI cJ cZ cW) ad) A) 0 0 A := by
  refine Met.ofW (cc := cX6_lead) (maxL := 8) (ret := (some .boolean)) (by decide) rfl ?_
  intro p e s m args below meth c s₁ B hml hv
  obtain ⟨rfl, hP, hK, hN⟩ := hv
  have hx := B.exec
  have hb := B.bytes
  have hr := B.returns
  have hts := atoms_spec (ws := wsX6_lead) B.pre
  have hown : s.vm.findClass RX6 = some m.cls := findClass_of_methodNamed B.named
  have hlocks := B.notSynchronized
  have hS : va_S A s.heap s.heap [] := va_S.rf
  have hl := lv_entry ([.ref (ad (62)), .int (xa), .int (nI (k2))]) (n := 8) (Nat.le_of_ble_eq_true rfl)
  rw [lg_entry_eq]
  generalize (lg_sl ([.ref (ad (62)), .int (xa), .int (nI (k2))]) ++ List.replicate (8 - (lg_sl ([.ref (ad (62)), .int (xa), .int (nI (k2))])).length) Slot.unset).toArray = ls at hl ⊢
  have hl : lv_has ls 8 [(0, .ref (ad (62))), (1, .int (xa)), (2, .int (nI (k2)))] := hl
  obtain ⟨hq2, hq4, hw1, hw0, hWs, hWt, hw, hln, hul, hT, ht⟩ := hs
  obtain ⟨sq, nu, de, fw, fsz, fwd, ftx, fos, foz, fgo, frw, fan, fad, frn, frd, fen, fed, fcn, fcd, fnw, fth, fo62, fa63, fa64, fa65, fa66, fa67, fa68, fa69, fa70, fa71, fa72, fa73, fa74, fa75, fa76, fa77, fa78, fa79, fa80, hfw, hsz, hwl, htx⟩ := id hM
  have hWp : 1 ≤ Wt ∧ Wt ≤ 4 := by have h8 := hw1 0 (by omega); have h9 := wsum_mono (w := w) (show 1 ≤ q by omega); have h7 : wsum w 1 = 0 + w 0 := rfl; omega
  have hwA : ∀ k j, j < ln k → 1 ≤ w (u k j) := fun k j hj => hw1 _ (hul k j hj)
  have hwB : ∀ k j, j < ln k → w (u k j) ≤ 4 := fun k j hj => hw _ (Nat.lt_of_lt_of_le (hul k j hj) hq4)
  have hn2 := hln k2
  refine lv_aload_n hx hb dX6_lead_0 rfl (lv_at hl 0 rfl) ?_
  refine lv_iload_n hx hb dX6_lead_1 rfl (lv_at hl 1 rfl) ?_
  refine vp_callSi (va_Run.run (va_runV (As := [.int (xa)]) (rest := []) ⟨hx, hb, hml, hown, hts⟩ (mX6_isWord_no l (w := w) (ln := ln) (t := t) (u := u) fo62 fa64 hsz hxa) (cwV 1 hts gX6_lead_X6_isWord rfl rfl rfl (by decide +kernel) ⟨Nat.le_of_ble_eq_true rfl, Nat.le_of_ble_eq_true rfl⟩) ⟨xB_blind, va_recv hK hP (ci := 6) rfl (xw_is (by decide) fo62), fun U hU hW => ⟨rfl, by rw [hU]; exact hP, va_K.moved hW.alike hK, va_Nw.warmM hW hN⟩⟩ rfl rfl hl.1 rfl (lv_room (Nat.le_of_ble_eq_true rfl)) dX6_lead_2 ⟨Nat.le_of_ble_eq_true rfl, Nat.le_of_ble_eq_true rfl⟩)) (fun r1 er1 => ?_)
  subst er1
  refine xi_if_eq (tgt := 16) hx hb (by decide) dX6_lead_5 (by decide) (fun _ => ?_) (fun c0 => absurd c0 (by decide))
  refine lv_iconst (v := nI (0)) hx hb dX6_lead_16 (by decide) ?_
  exact W.zret (v := nI (0)) hx hb hr (by decide) (fun tZ ht hW => ⟨⟨_, g, rfl, (by have hO : oLead Wt w ln u xa (nI k2) = none := (by unfold oLead; rw [slotW_no hxa]); show _ = (if (oLead Wt w ln u xa (nI k2)).isSome then 1 else 0) ∧ _; rw [hO]; exact ⟨rfl, hM, fun _ _ => rfl⟩), by rw [ht]; exact hP, va_K.moved hW.alike hK, va_Nw.warmM hW hN⟩, hS.F ht⟩) hS.2.2 dX6_lead_17

set_option maxHeartbeats 4000000 in
set_option maxRecDepth 100000 in
theorem mX6_lead_nn (l : Launch) {D : va_G} {cI cJ cZ cW : ClassId} {ad : Nat → Nat} {A : Nat → Prop} (hD : ∀ g, va_D A (xw 81 ad g)) {g : Nat → va_E} {q Wt : Nat} {w : Nat → Nat} {ln : Nat → Nat} {u : Nat → Nat → Nat} {T : Nat} {t : Nat → Nat} {tp bt : Int64} {xa : Int32} {xb : Int32}  (hM : ModI cI cJ ad g q Wt w ln u T t tp bt) (hs : SrcI q Wt w ln u T t) (hxa : noW ln xa) (hxb : noW ln xb) : Met l yX6_lead wsX6_lead ({ frames := 3, cells := 0, slots := 0, locals := 85 }) (va_Pc [.ref (ad (62)), .int (xa), .int (xb)] (xB D (xT cI cJ cZ cW) ad g)) (va_Qi (fun r g2 => r = (if (oLead Wt w ln u (xa) (xb)).isSome then 1 else 0) ∧ ModI cI cJ ad g2 q Wt w ln u T t (hTp (oLead Wt w ln u (xa) (xb)) tp) (hBt (oLead Wt w ln u (xa) (xb)) bt) ∧ ∀ j : Nat, j < 62 → g2 j = g j) (xB D (xT cI cJ cZ cW) ad) A) 0 0 A := by
  refine Met.ofW (cc := cX6_lead) (maxL := 8) (ret := (some .boolean)) (by decide) rfl ?_
  intro p e s m args below meth c s₁ B hml hv
  obtain ⟨rfl, hP, hK, hN⟩ := hv
  have hx := B.exec
  have hb := B.bytes
  have hr := B.returns
  have hts := atoms_spec (ws := wsX6_lead) B.pre
  have hown : s.vm.findClass RX6 = some m.cls := findClass_of_methodNamed B.named
  have hlocks := B.notSynchronized
  have hS : va_S A s.heap s.heap [] := va_S.rf
  have hl := lv_entry ([.ref (ad (62)), .int (xa), .int (xb)]) (n := 8) (Nat.le_of_ble_eq_true rfl)
  rw [lg_entry_eq]
  generalize (lg_sl ([.ref (ad (62)), .int (xa), .int (xb)]) ++ List.replicate (8 - (lg_sl ([.ref (ad (62)), .int (xa), .int (xb)])).length) Slot.unset).toArray = ls at hl ⊢
  have hl : lv_has ls 8 [(0, .ref (ad (62))), (1, .int (xa)), (2, .int (xb))] := hl
  obtain ⟨hq2, hq4, hw1, hw0, hWs, hWt, hw, hln, hul, hT, ht⟩ := hs
  obtain ⟨sq, nu, de, fw, fsz, fwd, ftx, fos, foz, fgo, frw, fan, fad, frn, frd, fen, fed, fcn, fcd, fnw, fth, fo62, fa63, fa64, fa65, fa66, fa67, fa68, fa69, fa70, fa71, fa72, fa73, fa74, fa75, fa76, fa77, fa78, fa79, fa80, hfw, hsz, hwl, htx⟩ := id hM
  have hWp : 1 ≤ Wt ∧ Wt ≤ 4 := by have h8 := hw1 0 (by omega); have h9 := wsum_mono (w := w) (show 1 ≤ q by omega); have h7 : wsum w 1 = 0 + w 0 := rfl; omega
  have hwA : ∀ k j, j < ln k → 1 ≤ w (u k j) := fun k j hj => hw1 _ (hul k j hj)
  have hwB : ∀ k j, j < ln k → w (u k j) ≤ 4 := fun k j hj => hw _ (Nat.lt_of_lt_of_le (hul k j hj) hq4)
  refine lv_aload_n hx hb dX6_lead_0 rfl (lv_at hl 0 rfl) ?_
  refine lv_iload_n hx hb dX6_lead_1 rfl (lv_at hl 1 rfl) ?_
  refine vp_callSi (va_Run.run (va_runV (As := [.int (xa)]) (rest := []) ⟨hx, hb, hml, hown, hts⟩ (mX6_isWord_no l (w := w) (ln := ln) (t := t) (u := u) fo62 fa64 hsz hxa) (cwV 1 hts gX6_lead_X6_isWord rfl rfl rfl (by decide +kernel) ⟨Nat.le_of_ble_eq_true rfl, Nat.le_of_ble_eq_true rfl⟩) ⟨xB_blind, va_recv hK hP (ci := 6) rfl (xw_is (by decide) fo62), fun U hU hW => ⟨rfl, by rw [hU]; exact hP, va_K.moved hW.alike hK, va_Nw.warmM hW hN⟩⟩ rfl rfl hl.1 rfl (lv_room (Nat.le_of_ble_eq_true rfl)) dX6_lead_2 ⟨Nat.le_of_ble_eq_true rfl, Nat.le_of_ble_eq_true rfl⟩)) (fun r1 er1 => ?_)
  subst er1
  refine xi_if_eq (tgt := 16) hx hb (by decide) dX6_lead_5 (by decide) (fun _ => ?_) (fun c0 => absurd c0 (by decide))
  refine lv_iconst (v := nI (0)) hx hb dX6_lead_16 (by decide) ?_
  exact W.zret (v := nI (0)) hx hb hr (by decide) (fun tZ ht hW => ⟨⟨_, g, rfl, (by have hO : oLead Wt w ln u xa xb = none := (by exact slotW_2n hxb); show _ = (if (oLead Wt w ln u xa xb).isSome then 1 else 0) ∧ _; rw [hO]; exact ⟨rfl, hM, fun _ _ => rfl⟩), by rw [ht]; exact hP, va_K.moved hW.alike hK, va_Nw.warmM hW hN⟩, hS.F ht⟩) hS.2.2 dX6_lead_17

theorem mX6_lead (l : Launch) {D : va_G} {cI cJ cZ cW : ClassId} {ad : Nat → Nat} {A : Nat → Prop} (hD : ∀ g, va_D A (xw 81 ad g)) {g : Nat → va_E} {q Wt : Nat} {w : Nat → Nat} {ln : Nat → Nat} {u : Nat → Nat → Nat} {T : Nat} {t : Nat → Nat} {tp bt : Int64} (hM : ModI cI cJ ad g q Wt w ln u T t tp bt) (hs : SrcI q Wt w ln u T t) (xa xb : Int32) : Met l yX6_lead wsX6_lead ({ frames := 3, cells := 0, slots := 0, locals := 85 }) (va_Pc [.ref (ad (62)), .int xa, .int xb] (xB D (xT cI cJ cZ cW) ad g)) (va_Qi (fun r g2 => r = (if (oLead Wt w ln u (xa) (xb)).isSome then 1 else 0) ∧ ModI cI cJ ad g2 q Wt w ln u T t (hTp (oLead Wt w ln u (xa) (xb)) tp) (hBt (oLead Wt w ln u (xa) (xb)) bt) ∧ ∀ j : Nat, j < 62 → g2 j = g j) (xB D (xT cI cJ cZ cW) ad) A) 0 0 A := by
  rcases slotW_cases ln xa with hxa | ⟨k1, hk1, rfl, hp1⟩
  · rcases slotW_cases ln xb with hxb | ⟨k2, hk2, rfl, hp2⟩
    · exact mX6_lead_nn l hD hM hs hxa hxb
    · exact mX6_lead_ns l hD hM hs hxa hk2 hp2
  · rcases slotW_cases ln xb with hxb | ⟨k2, hk2, rfl, hp2⟩
    · exact mX6_lead_sn l hD hM hs hk1 hp1 hxb
    · exact mX6_lead_ss l hD hM hs hk1 hp1 hk2 hp2
