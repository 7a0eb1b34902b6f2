theorem lt0_le {x : Int32} (h : x < 0) : x ≤ nI 30 := by
  rw [Int32.lt_iff_toInt_lt] at h
  rw [Int32.le_iff_toInt_le]
  have e1 : (nI 30).toInt = 30 := by decide
  have e2 : (0 : Int32).toInt = 0 := by decide
  omega
/-- a set's weight, over the letters below c -/
def cgC (w : Nat → Nat) (s : Nat) (x : Int) (th : Nat → Int) : Nat → Nat → Int
  | 0 => th
  | d + 1 => va_up (cgC w s x th d) (s ||| 2 ^ d) (cgC w s x th d (s ||| 2 ^ d) + x * (w d : Int))
def cgT (q : Nat) (w : Nat → Nat) (nw : Nat → Int) : Nat → Nat → Int
  | 0 => fun _ => 0
  | s + 1 => cgC w s (nw s) (cgT q w nw s) q
/-- how much the texts of r letters weigh, by the set of their letters -/
def cgG (q : Nat) (w : Nat → Nat) : Nat → Nat → Int
  | 0 => fun s => if s = 0 then 1 else 0
  | r + 1 => cgT q w (cgG q w r) 16
theorem or16 : ∀ s, s < 16 → ∀ d, d < 4 → s ||| 2 ^ d < 16 := by decide +kernel
/-- what is waited for from a set, of the letters below c -/
def cwN (Wt : Nat) (w : Nat → Nat) (f : Nat → Rat) (s : Nat) : Nat → Rat
  | 0 => Rat.divInt ((Wt : Nat) : Int) 1
  | d + 1 => if s / 2 ^ d % 2 = 1 then cwN Wt w f s d else cwN Wt w f s d + Rat.divInt ((w d : Nat) : Int) 1 * f (s ||| 2 ^ d)
theorem cwN_y {Wt : Nat} {w : Nat → Nat} {f : Nat → Rat} {s d : Nat} (h : ¬ s / 2 ^ d % 2 = 1) : cwN Wt w f s d + Rat.divInt ((w d : Nat) : Int) 1 * f (s ||| 2 ^ d) = cwN Wt w f s (d + 1) := (if_neg h).symm
theorem cwN_n {Wt : Nat} {w : Nat → Nat} {f : Nat → Rat} {s d : Nat} (h : s / 2 ^ d % 2 = 1) : cwN Wt w f s (d + 1) = cwN Wt w f s d := if_pos h
/-- the mean waits, after the k largest sets but the whole -/
def cwA (q Wt : Nat) (w : Nat → Nat) : Nat → Nat → Rat
  | 0 => fun _ => 0
  | k + 1 => va_up (cwA q Wt w k) (2 ^ q - 2 - k) (cwN Wt w (cwA q Wt w k) (2 ^ q - 2 - k) q * Rat.divInt 1 (((Wt - wset w (2 ^ q - 2 - k) q : Nat)) : Int))
/-- what the model's way to cover needs, and what it gives -/
def cvOK (q Wt : Nat) (w : Nat → Nat) : Prop := (∀ k, k < 2 ^ q - 1 → wset w (2 ^ q - 2 - k) q < Wt ∧ (∀ d, d < q → ¬ (2 ^ q - 2 - k) / 2 ^ d % 2 = 1 → fitR (cwA q Wt w k ((2 ^ q - 2 - k) ||| 2 ^ d)) ∧ fitR (Rat.divInt ((w d : Nat) : Int) 1 * cwA q Wt w k ((2 ^ q - 2 - k) ||| 2 ^ d)) ∧ fitA (cwN Wt w (cwA q Wt w k) (2 ^ q - 2 - k) d) (Rat.divInt ((w d : Nat) : Int) 1 * cwA q Wt w k ((2 ^ q - 2 - k) ||| 2 ^ d))) ∧ (∀ d, d ≤ q → fitR (cwN Wt w (cwA q Wt w k) (2 ^ q - 2 - k) d)) ∧ fitR (cwN Wt w (cwA q Wt w k) (2 ^ q - 2 - k) q * Rat.divInt 1 (((Wt - wset w (2 ^ q - 2 - k) q : Nat)) : Int))) ∧ fitR (cwA q Wt w (2 ^ q - 1) 0) ∧ cwA q Wt w (2 ^ q - 1) 0 = fCover q Wt w
theorem or_le : ∀ s, s < 16 → ∀ d, d < 4 → s ≤ s ||| 2 ^ d := by decide +kernel
theorem or_lt : ∀ q, q ≤ 4 → ∀ s, s < 2 ^ q → ∀ d, d < q → s ||| 2 ^ d < 2 ^ q := by decide +kernel
theorem or_ne : ∀ s, s < 16 → ∀ d, d < 4 → ¬ s / 2 ^ d % 2 = 1 → s < s ||| 2 ^ d := by decide +kernel
theorem inv_n {D : Nat} (h : 0 < D) : (1 : Int) = (Rat.divInt 1 (D : Int)).num ∧ (D : Int) = ((Rat.divInt 1 (D : Int)).den : Int) := by
  have h1 : (0 : Rat) < (D : Rat) := natpos h
  have h2 := inv_nd h1
  have h3 : Rat.divInt 1 (D : Int) = (D : Rat)⁻¹ := by
    have h4 := divInt_D 1 h
    have h5 : (D : Rat) ≠ 0 := fun e => by rw [e] at h1; exact absurd h1 Rat.lt_irrefl
    have h6 : ((1 : Int) : Rat) = 1 := rfl
    rw [h6] at h4
    grind
  rw [h3]
  exact ⟨h2.1.symm, h2.2.symm⟩
theorem set0 {f : Nat → Int64} (h0 : f 0 = lZ 1) (h : ∀ j, 0 < j → j < 16 → f j = lZ 0) : ∀ j, j < 16 → f j = lZ (if j = 0 then 1 else 0) := fun j hj => by
  by_cases e : j = 0
  · rw [e, if_pos rfl]; exact h0
  · rw [if_neg e]; exact h j (by omega) hj
set_option maxHeartbeats 4000000 in
set_option maxRecDepth 100000 in
theorem mX6_times_badn (l : Launch) {D : va_G} {cI cJ cZ cW : ClassId} {ad : Nat → Nat} {A : Nat → Prop} (hD : ∀ g, va_D A (xw 81 ad g)) {g : Nat → va_E} {q Wt : Nat} {w : Nat → Nat} {ln : Nat → Nat} {u : Nat → Nat → Nat} {T : Nat} {t : Nat → Nat} {tp bt : Int64} {k1 : Nat} {x0 kk bb : Int32}  (hM : ModI cI cJ ad g q Wt w ln u T t tp bt) (hs : SrcI q Wt w ln u T t) (hk1 : k1 < 8) (hp1 : 0 < ln k1) (hx0 : x0 < 0 ∨ nI 31 ≤ x0) : Met l yX6_times_ wsX6_times_ ({ frames := 3, cells := 0, slots := 0, locals := 77 }) (va_Pc [.ref (ad (62)), .int (nI (k1)), .int (x0), .int (kk), .int (bb)] (xB D (xT cI cJ cZ cW) ad g)) (va_Ql (fun r g2 => r = -1 ∧ ModI cI cJ ad g2 q Wt w ln u T t tp bt ∧ ∀ j : Nat, j < 62 → g2 j = g j) (xB D (xT cI cJ cZ cW) ad) A) 0 0 A := by
  refine Met.ofW (cc := cX6_times_) (maxL := 8) (ret := (some .long)) (by decide) rfl ?_
  intro p e s m args below meth c s₁ B hml hv
  obtain ⟨rfl, hP, hK, hN⟩ := hv
  have hx := B.exec
  have hb := B.bytes
  have hr := B.returns
  have hts := atoms_spec (ws := wsX6_times_) B.pre
  have hown : s.vm.findClass RX6 = some m.cls := findClass_of_methodNamed B.named
  have hlocks := B.notSynchronized
  have hS : va_S A s.heap s.heap [] := va_S.rf
  have hl := lv_entry ([.ref (ad (62)), .int (nI (k1)), .int (x0), .int (kk), .int (bb)]) (n := 8) (Nat.le_of_ble_eq_true rfl)
  rw [lg_entry_eq]
  generalize (lg_sl ([.ref (ad (62)), .int (nI (k1)), .int (x0), .int (kk), .int (bb)]) ++ List.replicate (8 - (lg_sl ([.ref (ad (62)), .int (nI (k1)), .int (x0), .int (kk), .int (bb)])).length) Slot.unset).toArray = ls at hl ⊢
  have hl : lv_has ls 8 [(0, .ref (ad (62))), (1, .int (nI (k1))), (2, .int (x0)), (3, .int (kk)), (4, .int (bb))] := hl
  obtain ⟨hq2, hq4, hw1, hw0, hWs, hWt, hw, hln, hul, hT, ht⟩ := hs
  obtain ⟨sq, nu, de, fw, fsz, fwd, ftx, fos, foz, fgo, frw, fan, fad, frn, frd, fen, fed, fcn, fcd, fnw, fth, fo62, fa63, fa64, fa65, fa66, fa67, fa68, fa69, fa70, fa71, fa72, fa73, fa74, fa75, fa76, fa77, fa78, fa79, fa80, hfw, hsz, hwl, htx⟩ := id hM
  have hWp : 1 ≤ Wt ∧ Wt ≤ 4 := by have h8 := hw1 0 (by omega); have h9 := wsum_mono (w := w) (show 1 ≤ q by omega); have h7 : wsum w 1 = 0 + w 0 := rfl; omega
  have hwA : ∀ k j, j < ln k → 1 ≤ w (u k j) := fun k j hj => hw1 _ (hul k j hj)
  have hwB : ∀ k j, j < ln k → w (u k j) ≤ 4 := fun k j hj => hw _ (Nat.lt_of_lt_of_le (hul k j hj) hq4)
  refine lv_aload_n hx hb dX6_times__0 rfl (lv_at hl 0 rfl) ?_
  refine lv_iload_n hx hb dX6_times__1 rfl (lv_at hl 1 rfl) ?_
  refine vp_callSi (va_Run.run (va_runV (As := [.int (nI (k1))]) (rest := []) ⟨hx, hb, hml, hown, hts⟩ (mX6_isWord_yes l (w := w) (ln := ln) (t := t) (u := u) fo62 fa64 hsz hk1 hp1 (hln _)) (cwV 1 hts gX6_times__X6_isWord rfl rfl rfl (by decide +kernel) ⟨Nat.le_of_ble_eq_true rfl, Nat.le_of_ble_eq_true rfl⟩) ⟨xB_blind, va_recv hK hP (ci := 6) rfl (xw_is (by decide) fo62), fun U hU hW => ⟨rfl, by rw [hU]; exact hP, va_K.moved hW.alike hK, va_Nw.warmM hW hN⟩⟩ rfl rfl hl.1 rfl (lv_room (Nat.le_of_ble_eq_true rfl)) dX6_times__2 ⟨Nat.le_of_ble_eq_true rfl, Nat.le_of_ble_eq_true rfl⟩)) (fun r1 er1 => ?_)
  subst er1
  refine xi_if_eq (tgt := 17) hx hb (by decide) dX6_times__5 (by decide) (fun c0 => absurd c0 (by decide)) (fun _ => ?_)
  refine lv_iload_n hx hb dX6_times__8 rfl (lv_at hl 2 rfl) ?_
  refine lv_bipush (v := nI (31)) hx hb dX6_times__9 (by decide) ?_
  refine vp_callSi (va_Run.run (va_runS (As := [.int (x0), .int (nI (31))]) (rest := []) ⟨hx, hb, hml, hown, hts⟩ (mX6_isIn_out l hx0) (va_cwS 2 hts gX6_times__X6_isIn rfl rfl rfl (by decide +kernel) ⟨Nat.le_of_ble_eq_true rfl, Nat.le_of_ble_eq_true rfl⟩) ⟨xB_blind, fun U hU hW => ⟨rfl, by rw [hU]; exact hP, va_K.moved hW.alike hK, va_Nw.warmM hW hN⟩⟩ rfl rfl hl.1 rfl (lv_room (Nat.le_of_ble_eq_true rfl)) dX6_times__11 ⟨Nat.le_of_ble_eq_true rfl, Nat.le_of_ble_eq_true rfl⟩)) (fun r3 er3 => ?_)
  subst er3
  refine xi_if_ne (tgt := 21) hx hb (by decide) dX6_times__14 (by decide) (fun c0 => absurd c0 (by decide)) (fun _ => ?_)
  refine lv_ldc2 (v := lZ (-1)) hx hb hown (hts (.constantLong RX6 186 (-1)) (by decide +kernel)) dX6_times__17 ?_
  exact W.lret (v := lZ (-1)) hx hb hr (fun tZ ht hW => ⟨⟨_, g, rfl, ⟨rfl, hM, fun _ _ => rfl⟩, by rw [ht]; exact hP, va_K.moved hW.alike hK, va_Nw.warmM hW hN⟩, hS.F ht⟩) hS.2.2 dX6_times__20

set_option maxHeartbeats 4000000 in
set_option maxRecDepth 100000 in
theorem mX6_times_no (l : Launch) {D : va_G} {cI cJ cZ cW : ClassId} {ad : Nat → Nat} {A : Nat → Prop} (hD : ∀ g, va_D A (xw 81 ad g)) {g : Nat → va_E} {q Wt : Nat} {w : Nat → Nat} {ln : Nat → Nat} {u : Nat → Nat → Nat} {T : Nat} {t : Nat → Nat} {tp bt : Int64} {xa x0 kk bb : Int32}  (hM : ModI cI cJ ad g q Wt w ln u T t tp bt) (hs : SrcI q Wt w ln u T t) (hxa : noW ln xa) : Met l yX6_times_ wsX6_times_ ({ frames := 3, cells := 0, slots := 0, locals := 77 }) (va_Pc [.ref (ad (62)), .int (xa), .int (x0), .int (kk), .int (bb)] (xB D (xT cI cJ cZ cW) ad g)) (va_Ql (fun r g2 => r = -1 ∧ ModI cI cJ ad g2 q Wt w ln u T t tp bt ∧ ∀ j : Nat, j < 62 → g2 j = g j) (xB D (xT cI cJ cZ cW) ad) A) 0 0 A := by
  refine Met.ofW (cc := cX6_times_) (maxL := 8) (ret := (some .long)) (by decide) rfl ?_
  intro p e s m args below meth c s₁ B hml hv
  obtain ⟨rfl, hP, hK, hN⟩ := hv
  have hx := B.exec
  have hb := B.bytes
  have hr := B.returns
  have hts := atoms_spec (ws := wsX6_times_) B.pre
  have hown : s.vm.findClass RX6 = some m.cls := findClass_of_methodNamed B.named
  have hlocks := B.notSynchronized
  have hS : va_S A s.heap s.heap [] := va_S.rf
  have hl := lv_entry ([.ref (ad (62)), .int (xa), .int (x0), .int (kk), .int (bb)]) (n := 8) (Nat.le_of_ble_eq_true rfl)
  rw [lg_entry_eq]
  generalize (lg_sl ([.ref (ad (62)), .int (xa), .int (x0), .int (kk), .int (bb)]) ++ List.replicate (8 - (lg_sl ([.ref (ad (62)), .int (xa), .int (x0), .int (kk), .int (bb)])).length) Slot.unset).toArray = ls at hl ⊢
  have hl : lv_has ls 8 [(0, .ref (ad (62))), (1, .int (xa)), (2, .int (x0)), (3, .int (kk)), (4, .int (bb))] := hl
  obtain ⟨hq2, hq4, hw1, hw0, hWs, hWt, hw, hln, hul, hT, ht⟩ := hs
  obtain ⟨sq, nu, de, fw, fsz, fwd, ftx, fos, foz, fgo, frw, fan, fad, frn, frd, fen, fed, fcn, fcd, fnw, fth, fo62, fa63, fa64, fa65, fa66, fa67, fa68, fa69, fa70, fa71, fa72, fa73, fa74, fa75, fa76, fa77, fa78, fa79, fa80, hfw, hsz, hwl, htx⟩ := id hM
  have hWp : 1 ≤ Wt ∧ Wt ≤ 4 := by have h8 := hw1 0 (by omega); have h9 := wsum_mono (w := w) (show 1 ≤ q by omega); have h7 : wsum w 1 = 0 + w 0 := rfl; omega
  have hwA : ∀ k j, j < ln k → 1 ≤ w (u k j) := fun k j hj => hw1 _ (hul k j hj)
  have hwB : ∀ k j, j < ln k → w (u k j) ≤ 4 := fun k j hj => hw _ (Nat.lt_of_lt_of_le (hul k j hj) hq4)
  refine lv_aload_n hx hb dX6_times__0 rfl (lv_at hl 0 rfl) ?_
  refine lv_iload_n hx hb dX6_times__1 rfl (lv_at hl 1 rfl) ?_
  refine vp_callSi (va_Run.run (va_runV (As := [.int (xa)]) (rest := []) ⟨hx, hb, hml, hown, hts⟩ (mX6_isWord_no l (w := w) (ln := ln) (t := t) (u := u) fo62 fa64 hsz hxa) (cwV 1 hts gX6_times__X6_isWord rfl rfl rfl (by decide +kernel) ⟨Nat.le_of_ble_eq_true rfl, Nat.le_of_ble_eq_true rfl⟩) ⟨xB_blind, va_recv hK hP (ci := 6) rfl (xw_is (by decide) fo62), fun U hU hW => ⟨rfl, by rw [hU]; exact hP, va_K.moved hW.alike hK, va_Nw.warmM hW hN⟩⟩ rfl rfl hl.1 rfl (lv_room (Nat.le_of_ble_eq_true rfl)) dX6_times__2 ⟨Nat.le_of_ble_eq_true rfl, Nat.le_of_ble_eq_true rfl⟩)) (fun r1 er1 => ?_)
  subst er1
  refine xi_if_eq (tgt := 17) hx hb (by decide) dX6_times__5 (by decide) (fun _ => ?_) (fun c0 => absurd c0 (by decide))
  refine lv_ldc2 (v := lZ (-1)) hx hb hown (hts (.constantLong RX6 186 (-1)) (by decide +kernel)) dX6_times__17 ?_
  exact W.lret (v := lZ (-1)) hx hb hr (fun tZ ht hW => ⟨⟨_, g, rfl, ⟨rfl, hM, fun _ _ => rfl⟩, by rw [ht]; exact hP, va_K.moved hW.alike hK, va_Nw.warmM hW hN⟩, hS.F ht⟩) hS.2.2 dX6_times__20

set_option maxHeartbeats 4000000 in
set_option maxRecDepth 100000 in
theorem mX6_times_neg1 (l : Launch) {D : va_G} {cI cJ cZ cW : ClassId} {ad : Nat → Nat} {A : Nat → Prop} (hD : ∀ g, va_D A (xw 81 ad g)) {g : Nat → va_E} {q Wt : Nat} {w : Nat → Nat} {ln : Nat → Nat} {u : Nat → Nat → Nat} {T : Nat} {t : Nat → Nat} {tp bt : Int64} {k1 n0 : Nat} {kk : Int32}  (hM : ModI cI cJ ad g q Wt w ln u T t tp bt) (hs : SrcI q Wt w ln u T t) (hk1 : k1 < 8) (hp1 : 0 < ln k1) (hn0 : n0 ≤ 30) (hkk : kk < 0 ∨ nI 30 < kk) : Met l yX6_times_ wsX6_times_ ({ frames := 3, cells := 0, slots := 0, locals := 77 }) (va_Pc [.ref (ad (62)), .int (nI (k1)), .int (nI (n0)), .int (kk), .int (nI (1))] (xB D (xT cI cJ cZ cW) ad g)) (va_Ql (fun r g2 => r = lZ 0 ∧ ModI cI cJ ad g2 q Wt w ln u T t tp bt ∧ ∀ j : Nat, j < 62 → g2 j = g j) (xB D (xT cI cJ cZ cW) ad) A) 0 0 A := by
  refine Met.ofW (cc := cX6_times_) (maxL := 8) (ret := (some .long)) (by decide) rfl ?_
  intro p e s m args below meth c s₁ B hml hv
  obtain ⟨rfl, hP, hK, hN⟩ := hv
  have hx := B.exec
  have hb := B.bytes
  have hr := B.returns
  have hts := atoms_spec (ws := wsX6_times_) B.pre
  have hown : s.vm.findClass RX6 = some m.cls := findClass_of_methodNamed B.named
  have hlocks := B.notSynchronized
  have hS : va_S A s.heap s.heap [] := va_S.rf
  have hl := lv_entry ([.ref (ad (62)), .int (nI (k1)), .int (nI (n0)), .int (kk), .int (nI (1))]) (n := 8) (Nat.le_of_ble_eq_true rfl)
  rw [lg_entry_eq]
  generalize (lg_sl ([.ref (ad (62)), .int (nI (k1)), .int (nI (n0)), .int (kk), .int (nI (1))]) ++ List.replicate (8 - (lg_sl ([.ref (ad (62)), .int (nI (k1)), .int (nI (n0)), .int (kk), .int (nI (1))])).length) Slot.unset).toArray = ls at hl ⊢
  have hl : lv_has ls 8 [(0, .ref (ad (62))), (1, .int (nI (k1))), (2, .int (nI (n0))), (3, .int (kk)), (4, .int (nI (1)))] := hl
  obtain ⟨hq2, hq4, hw1, hw0, hWs, hWt, hw, hln, hul, hT, ht⟩ := hs
  obtain ⟨sq, nu, de, fw, fsz, fwd, ftx, fos, foz, fgo, frw, fan, fad, frn, frd, fen, fed, fcn, fcd, fnw, fth, fo62, fa63, fa64, fa65, fa66, fa67, fa68, fa69, fa70, fa71, fa72, fa73, fa74, fa75, fa76, fa77, fa78, fa79, fa80, hfw, hsz, hwl, htx⟩ := id hM
  have hWp : 1 ≤ Wt ∧ Wt ≤ 4 := by have h8 := hw1 0 (by omega); have h9 := wsum_mono (w := w) (show 1 ≤ q by omega); have h7 : wsum w 1 = 0 + w 0 := rfl; omega
  have hwA : ∀ k j, j < ln k → 1 ≤ w (u k j) := fun k j hj => hw1 _ (hul k j hj)
  have hwB : ∀ k j, j < ln k → w (u k j) ≤ 4 := fun k j hj => hw _ (Nat.lt_of_lt_of_le (hul k j hj) hq4)
  refine lv_aload_n hx hb dX6_times__0 rfl (lv_at hl 0 rfl) ?_
  refine lv_iload_n hx hb dX6_times__1 rfl (lv_at hl 1 rfl) ?_
  refine vp_callSi (va_Run.run (va_runV (As := [.int (nI (k1))]) (rest := []) ⟨hx, hb, hml, hown, hts⟩ (mX6_isWord_yes l (w := w) (ln := ln) (t := t) (u := u) fo62 fa64 hsz hk1 hp1 (hln _)) (cwV 1 hts gX6_times__X6_isWord rfl rfl rfl (by decide +kernel) ⟨Nat.le_of_ble_eq_true rfl, Nat.le_of_ble_eq_true rfl⟩) ⟨xB_blind, va_recv hK hP (ci := 6) rfl (xw_is (by decide) fo62), fun U hU hW => ⟨rfl, by rw [hU]; exact hP, va_K.moved hW.alike hK, va_Nw.warmM hW hN⟩⟩ rfl rfl hl.1 rfl (lv_room (Nat.le_of_ble_eq_true rfl)) dX6_times__2 ⟨Nat.le_of_ble_eq_true rfl, Nat.le_of_ble_eq_true rfl⟩)) (fun r1 er1 => ?_)
  subst er1
  refine xi_if_eq (tgt := 17) hx hb (by decide) dX6_times__5 (by decide) (fun c0 => absurd c0 (by decide)) (fun _ => ?_)
  refine lv_iload_n hx hb dX6_times__8 rfl (lv_at hl 2 rfl) ?_
  refine lv_bipush (v := nI (31)) hx hb dX6_times__9 (by decide) ?_
  refine vp_callSi (va_Run.run (va_runS (As := [.int (nI (n0)), .int (nI (31))]) (rest := []) ⟨hx, hb, hml, hown, hts⟩ (mX6_isIn_in l (by omega) (by omega)) (va_cwS 2 hts gX6_times__X6_isIn rfl rfl rfl (by decide +kernel) ⟨Nat.le_of_ble_eq_true rfl, Nat.le_of_ble_eq_true rfl⟩) ⟨xB_blind, fun U hU hW => ⟨rfl, by rw [hU]; exact hP, va_K.moved hW.alike hK, va_Nw.warmM hW hN⟩⟩ rfl rfl hl.1 rfl (lv_room (Nat.le_of_ble_eq_true rfl)) dX6_times__11 ⟨Nat.le_of_ble_eq_true rfl, Nat.le_of_ble_eq_true rfl⟩)) (fun r3 er3 => ?_)
  subst er3
  refine xi_if_ne (tgt := 21) hx hb (by decide) dX6_times__14 (by decide) (fun _ => ?_) (fun c0 => absurd c0 (by decide))
  refine lv_iload_n hx hb dX6_times__21 rfl (lv_at hl 3 rfl) ?_
  refine lv_if_lt (tgt := 31) hx hb dX6_times__22 (by decide) (fun c22_5 => ?_) (fun c22_5 => ?_)
  · refine lv_iload hx hb dX6_times__31 (lv_at hl 4 rfl) ?_
    refine xi_if_ne (tgt := 42) hx hb (by decide) dX6_times__33 (by decide) (fun _ => ?_) (fun c0 => absurd c0 (by decide))
    refine lv_lconst (v := lZ (0)) hx hb dX6_times__42 (by decide) ?_
    refine lv_goto (tgt := 51) hx hb dX6_times__43 (by decide) ?_
    exact W.lret (v := lZ (0)) hx hb hr (fun tZ ht hW => ⟨⟨_, g, rfl, ⟨rfl, hM, fun _ _ => rfl⟩, by rw [ht]; exact hP, va_K.moved hW.alike hK, va_Nw.warmM hW hN⟩, hS.F ht⟩) hS.2.2 dX6_times__51
  · refine lv_iload_n hx hb dX6_times__25 rfl (lv_at hl 3 rfl) ?_
    refine lv_bipush (v := nI (30)) hx hb dX6_times__26 (by decide) ?_
    refine lv_icmp_le (tgt := 52) hx hb dX6_times__28 (by decide) (fun c28_7 => ?_) (fun c28_7 => ?_)
    · exact absurd hkk (by rintro (h | h); exact c22_5 h; exact Int32.not_le.mpr h c28_7)
    · refine lv_iload hx hb dX6_times__31 (lv_at hl 4 rfl) ?_
      refine xi_if_ne (tgt := 42) hx hb (by decide) dX6_times__33 (by decide) (fun _ => ?_) (fun c0 => absurd c0 (by decide))
      refine lv_lconst (v := lZ (0)) hx hb dX6_times__42 (by decide) ?_
      refine lv_goto (tgt := 51) hx hb dX6_times__43 (by decide) ?_
      exact W.lret (v := lZ (0)) hx hb hr (fun tZ ht hW => ⟨⟨_, g, rfl, ⟨rfl, hM, fun _ _ => rfl⟩, by rw [ht]; exact hP, va_K.moved hW.alike hK, va_Nw.warmM hW hN⟩, hS.F ht⟩) hS.2.2 dX6_times__51

set_option maxHeartbeats 4000000 in
set_option maxRecDepth 100000 in
theorem mX6_times_gt0 (l : Launch) {D : va_G} {cI cJ cZ cW : ClassId} {ad : Nat → Nat} {A : Nat → Prop} (hD : ∀ g, va_D A (xw 81 ad g)) {g : Nat → va_E} {q Wt : Nat} {w : Nat → Nat} {ln : Nat → Nat} {u : Nat → Nat → Nat} {T : Nat} {t : Nat → Nat} {tp bt : Int64} {k1 n0 : Nat} {kk : Int32}  (hM : ModI cI cJ ad g q Wt w ln u T t tp bt) (hs : SrcI q Wt w ln u T t) (hk1 : k1 < 8) (hp1 : 0 < ln k1) (hn0 : n0 ≤ 30) (hkk : nI 30 < kk) : Met l yX6_times_ wsX6_times_ ({ frames := 3, cells := 0, slots := 0, locals := 77 }) (va_Pc [.ref (ad (62)), .int (nI (k1)), .int (nI (n0)), .int (kk), .int (nI (0))] (xB D (xT cI cJ cZ cW) ad g)) (va_Ql (fun r g2 => r = lZ 0 ∧ ModI cI cJ ad g2 q Wt w ln u T t tp bt ∧ ∀ j : Nat, j < 62 → g2 j = g j) (xB D (xT cI cJ cZ cW) ad) A) 0 0 A := by
  refine Met.ofW (cc := cX6_times_) (maxL := 8) (ret := (some .long)) (by decide) rfl ?_
  intro p e s m args below meth c s₁ B hml hv
  obtain ⟨rfl, hP, hK, hN⟩ := hv
  have hx := B.exec
  have hb := B.bytes
  have hr := B.returns
  have hts := atoms_spec (ws := wsX6_times_) B.pre
  have hown : s.vm.findClass RX6 = some m.cls := findClass_of_methodNamed B.named
  have hlocks := B.notSynchronized
  have hS : va_S A s.heap s.heap [] := va_S.rf
  have hl := lv_entry ([.ref (ad (62)), .int (nI (k1)), .int (nI (n0)), .int (kk), .int (nI (0))]) (n := 8) (Nat.le_of_ble_eq_true rfl)
  rw [lg_entry_eq]
  generalize (lg_sl ([.ref (ad (62)), .int (nI (k1)), .int (nI (n0)), .int (kk), .int (nI (0))]) ++ List.replicate (8 - (lg_sl ([.ref (ad (62)), .int (nI (k1)), .int (nI (n0)), .int (kk), .int (nI (0))])).length) Slot.unset).toArray = ls at hl ⊢
  have hl : lv_has ls 8 [(0, .ref (ad (62))), (1, .int (nI (k1))), (2, .int (nI (n0))), (3, .int (kk)), (4, .int (nI (0)))] := hl
  obtain ⟨hq2, hq4, hw1, hw0, hWs, hWt, hw, hln, hul, hT, ht⟩ := hs
  obtain ⟨sq, nu, de, fw, fsz, fwd, ftx, fos, foz, fgo, frw, fan, fad, frn, frd, fen, fed, fcn, fcd, fnw, fth, fo62, fa63, fa64, fa65, fa66, fa67, fa68, fa69, fa70, fa71, fa72, fa73, fa74, fa75, fa76, fa77, fa78, fa79, fa80, hfw, hsz, hwl, htx⟩ := id hM
  have hWp : 1 ≤ Wt ∧ Wt ≤ 4 := by have h8 := hw1 0 (by omega); have h9 := wsum_mono (w := w) (show 1 ≤ q by omega); have h7 : wsum w 1 = 0 + w 0 := rfl; omega
  have hwA : ∀ k j, j < ln k → 1 ≤ w (u k j) := fun k j hj => hw1 _ (hul k j hj)
  have hwB : ∀ k j, j < ln k → w (u k j) ≤ 4 := fun k j hj => hw _ (Nat.lt_of_lt_of_le (hul k j hj) hq4)
  refine lv_aload_n hx hb dX6_times__0 rfl (lv_at hl 0 rfl) ?_
  refine lv_iload_n hx hb dX6_times__1 rfl (lv_at hl 1 rfl) ?_
  refine vp_callSi (va_Run.run (va_runV (As := [.int (nI (k1))]) (rest := []) ⟨hx, hb, hml, hown, hts⟩ (mX6_isWord_yes l (w := w) (ln := ln) (t := t) (u := u) fo62 fa64 hsz hk1 hp1 (hln _)) (cwV 1 hts gX6_times__X6_isWord rfl rfl rfl (by decide +kernel) ⟨Nat.le_of_ble_eq_true rfl, Nat.le_of_ble_eq_true rfl⟩) ⟨xB_blind, va_recv hK hP (ci := 6) rfl (xw_is (by decide) fo62), fun U hU hW => ⟨rfl, by rw [hU]; exact hP, va_K.moved hW.alike hK, va_Nw.warmM hW hN⟩⟩ rfl rfl hl.1 rfl (lv_room (Nat.le_of_ble_eq_true rfl)) dX6_times__2 ⟨Nat.le_of_ble_eq_true rfl, Nat.le_of_ble_eq_true rfl⟩)) (fun r1 er1 => ?_)
  subst er1
  refine xi_if_eq (tgt := 17) hx hb (by decide) dX6_times__5 (by decide) (fun c0 => absurd c0 (by decide)) (fun _ => ?_)
  refine lv_iload_n hx hb dX6_times__8 rfl (lv_at hl 2 rfl) ?_
  refine lv_bipush (v := nI (31)) hx hb dX6_times__9 (by decide) ?_
  refine vp_callSi (va_Run.run (va_runS (As := [.int (nI (n0)), .int (nI (31))]) (rest := []) ⟨hx, hb, hml, hown, hts⟩ (mX6_isIn_in l (by omega) (by omega)) (va_cwS 2 hts gX6_times__X6_isIn rfl rfl rfl (by decide +kernel) ⟨Nat.le_of_ble_eq_true rfl, Nat.le_of_ble_eq_true rfl⟩) ⟨xB_blind, fun U hU hW => ⟨rfl, by rw [hU]; exact hP, va_K.moved hW.alike hK, va_Nw.warmM hW hN⟩⟩ rfl rfl hl.1 rfl (lv_room (Nat.le_of_ble_eq_true rfl)) dX6_times__11 ⟨Nat.le_of_ble_eq_true rfl, Nat.le_of_ble_eq_true rfl⟩)) (fun r3 er3 => ?_)
  subst er3
  refine xi_if_ne (tgt := 21) hx hb (by decide) dX6_times__14 (by decide) (fun _ => ?_) (fun c0 => absurd c0 (by decide))
  refine lv_iload_n hx hb dX6_times__21 rfl (lv_at hl 3 rfl) ?_
  refine lv_if_lt (tgt := 31) hx hb dX6_times__22 (by decide) (fun c22_5 => ?_) (fun c22_5 => ?_)
  · exact absurd (lt0_le c22_5) (Int32.not_le.mpr hkk)
  · refine lv_iload_n hx hb dX6_times__25 rfl (lv_at hl 3 rfl) ?_
    refine lv_bipush (v := nI (30)) hx hb dX6_times__26 (by decide) ?_
    refine lv_icmp_le (tgt := 52) hx hb dX6_times__28 (by decide) (fun c28_6 => ?_) (fun c28_6 => ?_)
    · exact absurd c28_6 (Int32.not_le.mpr hkk)
    · refine lv_iload hx hb dX6_times__31 (lv_at hl 4 rfl) ?_
      refine xi_if_ne (tgt := 42) hx hb (by decide) dX6_times__33 (by decide) (fun c0 => absurd c0 (by decide)) (fun _ => ?_)
      refine lv_iload_n hx hb dX6_times__36 rfl (lv_at hl 3 rfl) ?_
      refine lv_bipush (v := nI (30)) hx hb dX6_times__37 (by decide) ?_
      refine lv_icmp_le (tgt := 46) hx hb dX6_times__39 (by decide) (fun c39_8 => ?_) (fun c39_8 => ?_)
      · exact absurd c39_8 (Int32.not_le.mpr hkk)
      · refine lv_lconst (v := lZ (0)) hx hb dX6_times__42 (by decide) ?_
        refine lv_goto (tgt := 51) hx hb dX6_times__43 (by decide) ?_
        exact W.lret (v := lZ (0)) hx hb hr (fun tZ ht hW => ⟨⟨_, g, rfl, ⟨rfl, hM, fun _ _ => rfl⟩, by rw [ht]; exact hP, va_K.moved hW.alike hK, va_Nw.warmM hW hN⟩, hS.F ht⟩) hS.2.2 dX6_times__51

set_option maxHeartbeats 4000000 in
set_option maxRecDepth 100000 in
theorem mX6_times_neg0 (l : Launch) {D : va_G} {cI cJ cZ cW : ClassId} {ad : Nat → Nat} {A : Nat → Prop} (hD : ∀ g, va_D A (xw 81 ad g)) {g : Nat → va_E} {q Wt : Nat} {w : Nat → Nat} {ln : Nat → Nat} {u : Nat → Nat → Nat} {T : Nat} {t : Nat → Nat} {tp bt : Int64} {k1 n0 : Nat} {kk : Int32}  (hM : ModI cI cJ ad g q Wt w ln u T t tp bt) (hs : SrcI q Wt w ln u T t) (hk1 : k1 < 8) (hp1 : 0 < ln k1) (hn0 : n0 ≤ 30) (hkk : kk < 0) : Met l yX6_times_ wsX6_times_ ({ frames := 3, cells := 0, slots := 0, locals := 77 }) (va_Pc [.ref (ad (62)), .int (nI (k1)), .int (nI (n0)), .int (kk), .int (nI (0))] (xB D (xT cI cJ cZ cW) ad g)) (va_Ql (fun r g2 => r = lZ ((Wt ^ n0 : Nat) : Int) ∧ ModI cI cJ ad g2 q Wt w ln u T t tp bt ∧ ∀ j : Nat, j < 62 → g2 j = g j) (xB D (xT cI cJ cZ cW) ad) A) 0 0 A := by
  refine Met.ofW (cc := cX6_times_) (maxL := 8) (ret := (some .long)) (by decide) rfl ?_
  intro p e s m args below meth c s₁ B hml hv
  obtain ⟨rfl, hP, hK, hN⟩ := hv
  have hx := B.exec
  have hb := B.bytes
  have hr := B.returns
  have hts := atoms_spec (ws := wsX6_times_) B.pre
  have hown : s.vm.findClass RX6 = some m.cls := findClass_of_methodNamed B.named
  have hlocks := B.notSynchronized
  have hS : va_S A s.heap s.heap [] := va_S.rf
  have hl := lv_entry ([.ref (ad (62)), .int (nI (k1)), .int (nI (n0)), .int (kk), .int (nI (0))]) (n := 8) (Nat.le_of_ble_eq_true rfl)
  rw [lg_entry_eq]
  generalize (lg_sl ([.ref (ad (62)), .int (nI (k1)), .int (nI (n0)), .int (kk), .int (nI (0))]) ++ List.replicate (8 - (lg_sl ([.ref (ad (62)), .int (nI (k1)), .int (nI (n0)), .int (kk), .int (nI (0))])).length) Slot.unset).toArray = ls at hl ⊢
  have hl : lv_has ls 8 [(0, .ref (ad (62))), (1, .int (nI (k1))), (2, .int (nI (n0))), (3, .int (kk)), (4, .int (nI (0)))] := hl
  obtain ⟨hq2, hq4, hw1, hw0, hWs, hWt, hw, hln, hul, hT, ht⟩ := hs
  obtain ⟨sq, nu, de, fw, fsz, fwd, ftx, fos, foz, fgo, frw, fan, fad, frn, frd, fen, fed, fcn, fcd, fnw, fth, fo62, fa63, fa64, fa65, fa66, fa67, fa68, fa69, fa70, fa71, fa72, fa73, fa74, fa75, fa76, fa77, fa78, fa79, fa80, hfw, hsz, hwl, htx⟩ := id hM
  have hWp : 1 ≤ Wt ∧ Wt ≤ 4 := by have h8 := hw1 0 (by omega); have h9 := wsum_mono (w := w) (show 1 ≤ q by omega); have h7 : wsum w 1 = 0 + w 0 := rfl; omega
  have hwA : ∀ k j, j < ln k → 1 ≤ w (u k j) := fun k j hj => hw1 _ (hul k j hj)
  have hwB : ∀ k j, j < ln k → w (u k j) ≤ 4 := fun k j hj => hw _ (Nat.lt_of_lt_of_le (hul k j hj) hq4)
  refine lv_aload_n hx hb dX6_times__0 rfl (lv_at hl 0 rfl) ?_
  refine lv_iload_n hx hb dX6_times__1 rfl (lv_at hl 1 rfl) ?_
  refine vp_callSi (va_Run.run (va_runV (As := [.int (nI (k1))]) (rest := []) ⟨hx, hb, hml, hown, hts⟩ (mX6_isWord_yes l (w := w) (ln := ln) (t := t) (u := u) fo62 fa64 hsz hk1 hp1 (hln _)) (cwV 1 hts gX6_times__X6_isWord rfl rfl rfl (by decide +kernel) ⟨Nat.le_of_ble_eq_true rfl, Nat.le_of_ble_eq_true rfl⟩) ⟨xB_blind, va_recv hK hP (ci := 6) rfl (xw_is (by decide) fo62), fun U hU hW => ⟨rfl, by rw [hU]; exact hP, va_K.moved hW.alike hK, va_Nw.warmM hW hN⟩⟩ rfl rfl hl.1 rfl (lv_room (Nat.le_of_ble_eq_true rfl)) dX6_times__2 ⟨Nat.le_of_ble_eq_true rfl, Nat.le_of_ble_eq_true rfl⟩)) (fun r1 er1 => ?_)
  subst er1
  refine xi_if_eq (tgt := 17) hx hb (by decide) dX6_times__5 (by decide) (fun c0 => absurd c0 (by decide)) (fun _ => ?_)
  refine lv_iload_n hx hb dX6_times__8 rfl (lv_at hl 2 rfl) ?_
  refine lv_bipush (v := nI (31)) hx hb dX6_times__9 (by decide) ?_
  refine vp_callSi (va_Run.run (va_runS (As := [.int (nI (n0)), .int (nI (31))]) (rest := []) ⟨hx, hb, hml, hown, hts⟩ (mX6_isIn_in l (by omega) (by omega)) (va_cwS 2 hts gX6_times__X6_isIn rfl rfl rfl (by decide +kernel) ⟨Nat.le_of_ble_eq_true rfl, Nat.le_of_ble_eq_true rfl⟩) ⟨xB_blind, fun U hU hW => ⟨rfl, by rw [hU]; exact hP, va_K.moved hW.alike hK, va_Nw.warmM hW hN⟩⟩ rfl rfl hl.1 rfl (lv_room (Nat.le_of_ble_eq_true rfl)) dX6_times__11 ⟨Nat.le_of_ble_eq_true rfl, Nat.le_of_ble_eq_true rfl⟩)) (fun r3 er3 => ?_)
  subst er3
  refine xi_if_ne (tgt := 21) hx hb (by decide) dX6_times__14 (by decide) (fun _ => ?_) (fun c0 => absurd c0 (by decide))
  refine lv_iload_n hx hb dX6_times__21 rfl (lv_at hl 3 rfl) ?_
  refine lv_if_lt (tgt := 31) hx hb dX6_times__22 (by decide) (fun c22_5 => ?_) (fun c22_5 => ?_)
  · refine lv_iload hx hb dX6_times__31 (lv_at hl 4 rfl) ?_
    refine xi_if_ne (tgt := 42) hx hb (by decide) dX6_times__33 (by decide) (fun c0 => absurd c0 (by decide)) (fun _ => ?_)
    refine lv_iload_n hx hb dX6_times__36 rfl (lv_at hl 3 rfl) ?_
    refine lv_bipush (v := nI (30)) hx hb dX6_times__37 (by decide) ?_
    refine lv_icmp_le (tgt := 46) hx hb dX6_times__39 (by decide) (fun c39_7 => ?_) (fun c39_7 => ?_)
    · refine lv_aload_n hx hb dX6_times__46 rfl (lv_at hl 0 rfl) ?_
      refine lv_iload_n hx hb dX6_times__47 rfl (lv_at hl 2 rfl) ?_
      refine vp_callSl (va_Run.run (va_runV (As := [.int (nI (n0))]) (rest := []) ⟨hx, hb, hml, hown, hts⟩ (mX6_power l (w := w) (ln := ln) (t := t) (u := u) fo62 hn0 hWt) (cwV 1 hts gX6_times__X6_power rfl rfl rfl (by decide +kernel) ⟨Nat.le_of_ble_eq_true rfl, Nat.le_of_ble_eq_true rfl⟩) ⟨xB_blind, va_recv hK hP (ci := 6) rfl (xw_is (by decide) fo62), fun U hU hW => ⟨rfl, by rw [hU]; exact hP, va_K.moved hW.alike hK, va_Nw.warmM hW hN⟩⟩ rfl rfl hl.1 rfl (lv_room (Nat.le_of_ble_eq_true rfl)) dX6_times__48 ⟨Nat.le_of_ble_eq_true rfl, Nat.le_of_ble_eq_true rfl⟩)) (fun r8 er8 => ?_)
      subst er8
      exact W.lret (v := lZ (((Wt ^ n0 : Nat) : Int))) hx hb hr (fun tZ ht hW => ⟨⟨_, g, rfl, ⟨rfl, hM, fun _ _ => rfl⟩, by rw [ht]; exact hP, va_K.moved hW.alike hK, va_Nw.warmM hW hN⟩, hS.F ht⟩) hS.2.2 dX6_times__51
    · exact absurd (lt0_le hkk) c39_7
  · exact absurd hkk c22_5

set_option maxHeartbeats 4000000 in
set_option maxRecDepth 100000 in
theorem mX6_times_k1 (l : Launch) {D : va_G} {cI cJ cZ cW : ClassId} {ad : Nat → Nat} {A : Nat → Prop} (hD : ∀ g, va_D A (xw 81 ad g)) {g : Nat → va_E} {q Wt : Nat} {w : Nat → Nat} {ln : Nat → Nat} {u : Nat → Nat → Nat} {T : Nat} {t : Nat → Nat} {tp bt : Int64} {k1 n0 kq : Nat}  (hM : ModI cI cJ ad g q Wt w ln u T t tp bt) (hs : SrcI q Wt w ln u T t) (hk1 : k1 < 8) (hp1 : 0 < ln k1) (hn0 : n0 ≤ 30) (hkq : kq ≤ 30) : Met l yX6_times_ wsX6_times_ ({ frames := 3, cells := 0, slots := 0, locals := 77 }) (va_Pc [.ref (ad (62)), .int (nI (k1)), .int (nI (n0)), .int (nI (kq)), .int (nI (1))] (xB D (xT cI cJ cZ cW) ad g)) (va_Ql (fun r g2 => r = lZ (wpS (ctN q w (hsN ln u (2 ^ k1)) 0 n0) kq (1)) ∧ ModI cI cJ ad g2 q Wt w ln u T t tp bt ∧ ∀ j : Nat, j < 62 → g2 j = g j) (xB D (xT cI cJ cZ cW) ad) A) 0 0 A := by
  refine Met.ofW (cc := cX6_times_) (maxL := 8) (ret := (some .long)) (by decide) rfl ?_
  intro p e s m args below meth c s₁ B hml hv
  obtain ⟨rfl, hP, hK, hN⟩ := hv
  have hx := B.exec
  have hb := B.bytes
  have hr := B.returns
  have hts := atoms_spec (ws := wsX6_times_) B.pre
  have hown : s.vm.findClass RX6 = some m.cls := findClass_of_methodNamed B.named
  have hlocks := B.notSynchronized
  have hS : va_S A s.heap s.heap [] := va_S.rf
  have hl := lv_entry ([.ref (ad (62)), .int (nI (k1)), .int (nI (n0)), .int (nI (kq)), .int (nI (1))]) (n := 8) (Nat.le_of_ble_eq_true rfl)
  rw [lg_entry_eq]
  generalize (lg_sl ([.ref (ad (62)), .int (nI (k1)), .int (nI (n0)), .int (nI (kq)), .int (nI (1))]) ++ List.replicate (8 - (lg_sl ([.ref (ad (62)), .int (nI (k1)), .int (nI (n0)), .int (nI (kq)), .int (nI (1))])).length) Slot.unset).toArray = ls at hl ⊢
  have hl : lv_has ls 8 [(0, .ref (ad (62))), (1, .int (nI (k1))), (2, .int (nI (n0))), (3, .int (nI (kq))), (4, .int (nI (1)))] := hl
  obtain ⟨hq2, hq4, hw1, hw0, hWs, hWt, hw, hln, hul, hT, ht⟩ := hs
  obtain ⟨sq, nu, de, fw, fsz, fwd, ftx, fos, foz, fgo, frw, fan, fad, frn, frd, fen, fed, fcn, fcd, fnw, fth, fo62, fa63, fa64, fa65, fa66, fa67, fa68, fa69, fa70, fa71, fa72, fa73, fa74, fa75, fa76, fa77, fa78, fa79, fa80, hfw, hsz, hwl, htx⟩ := id hM
  have hWp : 1 ≤ Wt ∧ Wt ≤ 4 := by have h8 := hw1 0 (by omega); have h9 := wsum_mono (w := w) (show 1 ≤ q by omega); have h7 : wsum w 1 = 0 + w 0 := rfl; omega
  have hwA : ∀ k j, j < ln k → 1 ≤ w (u k j) := fun k j hj => hw1 _ (hul k j hj)
  have hwB : ∀ k j, j < ln k → w (u k j) ≤ 4 := fun k j hj => hw _ (Nat.lt_of_lt_of_le (hul k j hj) hq4)
  refine lv_aload_n hx hb dX6_times__0 rfl (lv_at hl 0 rfl) ?_
  refine lv_iload_n hx hb dX6_times__1 rfl (lv_at hl 1 rfl) ?_
  refine vp_callSi (va_Run.run (va_runV (As := [.int (nI (k1))]) (rest := []) ⟨hx, hb, hml, hown, hts⟩ (mX6_isWord_yes l (w := w) (ln := ln) (t := t) (u := u) fo62 fa64 hsz hk1 hp1 (hln _)) (cwV 1 hts gX6_times__X6_isWord rfl rfl rfl (by decide +kernel) ⟨Nat.le_of_ble_eq_true rfl, Nat.le_of_ble_eq_true rfl⟩) ⟨xB_blind, va_recv hK hP (ci := 6) rfl (xw_is (by decide) fo62), fun U hU hW => ⟨rfl, by rw [hU]; exact hP, va_K.moved hW.alike hK, va_Nw.warmM hW hN⟩⟩ rfl rfl hl.1 rfl (lv_room (Nat.le_of_ble_eq_true rfl)) dX6_times__2 ⟨Nat.le_of_ble_eq_true rfl, Nat.le_of_ble_eq_true rfl⟩)) (fun r1 er1 => ?_)
  subst er1
  refine xi_if_eq (tgt := 17) hx hb (by decide) dX6_times__5 (by decide) (fun c0 => absurd c0 (by decide)) (fun _ => ?_)
  refine lv_iload_n hx hb dX6_times__8 rfl (lv_at hl 2 rfl) ?_
  refine lv_bipush (v := nI (31)) hx hb dX6_times__9 (by decide) ?_
  refine vp_callSi (va_Run.run (va_runS (As := [.int (nI (n0)), .int (nI (31))]) (rest := []) ⟨hx, hb, hml, hown, hts⟩ (mX6_isIn_in l (by omega) (by omega)) (va_cwS 2 hts gX6_times__X6_isIn rfl rfl rfl (by decide +kernel) ⟨Nat.le_of_ble_eq_true rfl, Nat.le_of_ble_eq_true rfl⟩) ⟨xB_blind, fun U hU hW => ⟨rfl, by rw [hU]; exact hP, va_K.moved hW.alike hK, va_Nw.warmM hW hN⟩⟩ rfl rfl hl.1 rfl (lv_room (Nat.le_of_ble_eq_true rfl)) dX6_times__11 ⟨Nat.le_of_ble_eq_true rfl, Nat.le_of_ble_eq_true rfl⟩)) (fun r3 er3 => ?_)
  subst er3
  refine xi_if_ne (tgt := 21) hx hb (by decide) dX6_times__14 (by decide) (fun _ => ?_) (fun c0 => absurd c0 (by decide))
  refine lv_iload_n hx hb dX6_times__21 rfl (lv_at hl 3 rfl) ?_
  refine xi_if_lt (tgt := 31) hx hb (by omega) dX6_times__22 (by decide) ?_
  refine lv_iload_n hx hb dX6_times__25 rfl (lv_at hl 3 rfl) ?_
  refine lv_bipush (v := nI (30)) hx hb dX6_times__26 (by decide) ?_
  refine xi_icmp_le (tgt := 52) hx hb (by omega) (by decide) dX6_times__28 (by decide) (fun c28_6 => ?_) (fun c28_6 => ?_)
  · refine lv_aload_n hx hb dX6_times__52 rfl (lv_at hl 0 rfl) ?_
    refine lv_iconst (v := nI (1)) hx hb dX6_times__53 (by decide) ?_
    refine lv_iload_n hx hb dX6_times__54 rfl (lv_at hl 1 rfl) ?_
    refine lv_ishl hx hb dX6_times__55 ?_
    refine xtopi (y := nI (2 ^ k1)) (nI_shl1 (by omega)) ?_
    refine lv_iload_n hx hb dX6_times__56 rfl (lv_at hl 2 rfl) ?_
    refine lv_iconst (v := nI (0)) hx hb dX6_times__57 (by decide) ?_
    refine va_callv (va_runV (As := [.int (nI (2 ^ k1)), .int (nI (n0)), .int (nI (0))]) (rest := []) ⟨hx, hb, hml, hown, hts⟩ (mX6_counts l hD (w := w) (ln := ln) (t := t) (u := u) (B0 := 2 ^ k1) (n0 := n0) (nv := 0) fo62 fa63 fa64 fa65 fa79 fa80 hfw hsz hwl hq2 hq4 hln hul hT ht hw (by have h9 := pw_lt k1 hk1; omega) hn0 (by decide)) (cwV 3 hts gX6_times__X6_counts rfl rfl rfl (by decide +kernel) ⟨Nat.le_of_ble_eq_true rfl, Nat.le_of_ble_eq_true rfl⟩) ⟨xB_blind, va_recv hK hP (ci := 6) rfl (xw_is (by decide) fo62), fun U hU hW => ⟨rfl, by rw [hU]; exact hP, va_K.moved hW.alike hK, va_Nw.warmM hW hN⟩⟩ rfl rfl hl.1 rfl (lv_room (Nat.le_of_ble_eq_true rfl)) dX6_times__58 ⟨Nat.le_of_ble_eq_true rfl, Nat.le_of_ble_eq_true rfl⟩) hS (fun _ _ h => h) (fun _ h => h) (fun g8 tZ H locs ht hvm hwg8 hB hzZ hkZ hS => ?_)
    obtain ⟨hP, -⟩ := hB
    rw [ht] at hP
    obtain ⟨fz, fy, hfz, fg8_n0, fg8_n1, hcg8⟩ := hwg8
    have fg8_k0 : g8 (62) = .inr (6, [.int (nI (q)), .int (nI (Wt)), .ref (ad (63)), .ref (ad (64)), .ref (ad (65)), .ref (ad (66)), .int (nI (T)), .long (tp), .long (bt), .long (nu), .long (de), .int (sq), .ref (ad (67)), .ref (ad (68)), .ref (ad (69)), .ref (ad (70)), .ref (ad (71)), .ref (ad (72)), .ref (ad (73)), .ref (ad (74)), .ref (ad (75)), .ref (ad (76)), .ref (ad (77)), .ref (ad (78)), .ref (ad (79)), .ref (ad (80))]) := (hcg8 (62) (by decide) (by decide)).trans fo62
    have fg8_k1 : g8 (63) = .inl (cI, 4, .inl (fw)) := (hcg8 (63) (by decide) (by decide)).trans fa63
    have fg8_k2 : g8 (64) = .inl (cI, 8, .inl (fsz)) := (hcg8 (64) (by decide) (by decide)).trans fa64
    have fg8_k3 : g8 (65) = .inl (cI, 40, .inl (fwd)) := (hcg8 (65) (by decide) (by decide)).trans fa65
    have hfrg8 : ∀ j : Nat, j ≠ 79 → j ≠ 80 → g8 j = g j := fun j h0 h1 => (hcg8 j h0 h1).trans ((fun _ _ _ => rfl) j h0 h1)
    refine lv_lconst (v := lZ (0)) hx hb dX6_times__61 (by decide) ?_
    refine lv_lstore (lv' := [(5, .long (lZ (0))), (0, .ref (ad (62))), (1, .int (nI (k1))), (2, .int (nI (n0))), (3, .int (nI (kq))), (4, .int (nI (1)))]) hx hb dX6_times__62 hl (by decide) rfl (fun ls hl => ?_)
    refine lv_iload_n hx hb dX6_times__64 rfl (lv_at hl 4 rfl) ?_
    refine lv_istore (lv' := [(7, .int (nI (kq))), (5, .long (lZ (0))), (0, .ref (ad (62))), (1, .int (nI (k1))), (2, .int (nI (n0))), (3, .int (nI (kq))), (4, .int (nI (1)))]) hx hb dX6_times__65 hl (by decide) rfl (fun ls hl => ?_)
    refine xloop (G := fun fr => W p l e _ s m _ below meth c _ _ _ _ _ fr) (σ := Nat) (fun j ls => F0 m 67 ls []) (fun j ls => (j ≤ 1) ∧ lv_has ls 8 [(0, .ref (ad (62))), (1, .int (nI (k1))), (2, .int (nI (n0))), (3, .int (nI (kq))), (4, .int (nI (1))), (5, .long (lZ (wpS (ctN q w (hsN ln u (2 ^ k1)) 0 n0) kq j))), (7, .int (nI (kq + j)))]) (fun j => 1 - j) ?_ (0) ls ⟨(Nat.zero_le _), (lv_sub hl [2, 3, 4, 5, 6, 1, 0] rfl)⟩
    rintro j ls ⟨hj, hl⟩ ih67
    refine lv_iload hx hb dX6_times__67 (lv_at hl 6 rfl) ?_
    refine lv_iload hx hb dX6_times__69 (lv_at hl 4 rfl) ?_
    refine xi_if_eq (tgt := 80) hx hb (by decide) dX6_times__71 (by decide) (fun c0 => absurd c0 (by decide)) (fun _ => ?_)
    refine lv_iload_n hx hb dX6_times__74 rfl (lv_at hl 3 rfl) ?_
    refine lv_iconst (v := nI (1)) hx hb dX6_times__75 (by decide) ?_
    refine xi_add hx hb dX6_times__76 ?_
    refine lv_goto (tgt := 82) hx hb dX6_times__77 (by decide) ?_
    refine xi_icmp_ge (tgt := 102) hx hb (by omega) (by omega) dX6_times__82 (by decide) (fun c82_11 => ?_) (fun c82_11 => ?_)
    · refine lv_lload hx hb dX6_times__102 (lv_at hl 5 rfl) ?_
      exact W.lret (v := lZ (wpS (ctN q w (hsN ln u (2 ^ k1)) 0 n0) kq j)) hx hb hr (fun tZ ht hW => ⟨⟨_, g8, rfl, (by have ej : j = 1 := (by omega); subst ej; exact ⟨rfl, ⟨_, _, _, _, _, _, _, _, _, _, _, _, _, _, _, _, _, _, _, _, _, fg8_k0, fg8_k1, fg8_k2, fg8_k3, ((hfrg8) 66 (by decide) (by decide)).trans fa66, ((hfrg8) 67 (by decide) (by decide)).trans fa67, ((hfrg8) 68 (by decide) (by decide)).trans fa68, ((hfrg8) 69 (by decide) (by decide)).trans fa69, ((hfrg8) 70 (by decide) (by decide)).trans fa70, ((hfrg8) 71 (by decide) (by decide)).trans fa71, ((hfrg8) 72 (by decide) (by decide)).trans fa72, ((hfrg8) 73 (by decide) (by decide)).trans fa73, ((hfrg8) 74 (by decide) (by decide)).trans fa74, ((hfrg8) 75 (by decide) (by decide)).trans fa75, ((hfrg8) 76 (by decide) (by decide)).trans fa76, ((hfrg8) 77 (by decide) (by decide)).trans fa77, ((hfrg8) 78 (by decide) (by decide)).trans fa78, fg8_n0, fg8_n1, hfw, hsz, hwl, htx⟩, fun j hj => (hfrg8) j (by omega) (by omega)⟩), by rw [ht]; exact hP, va_K.moved hW.alike hK, va_Nw.warmM hW hN⟩, hS.F ht⟩) hS.2.2 dX6_times__104
    · refine lv_lload hx hb dX6_times__85 (lv_at hl 5 rfl) ?_
      refine lv_aload_n hx hb dX6_times__87 rfl (lv_at hl 0 rfl) ?_
      refine lv_iload hx hb dX6_times__88 (lv_at hl 6 rfl) ?_
      refine vp_callSl (va_Run.run (va_runV (As := [.int (nI (kq + j))]) (rest := [.long (lZ (wpS (ctN q w (hsN ln u (2 ^ k1)) 0 n0) kq j))]) ⟨hx, hb, hml, hown, hts⟩ (mX6_withPlaces l (w := w) (ln := ln) (t := t) (u := u) (nw := ctN q w (hsN ln u (2 ^ k1)) 0 n0) fg8_k0 fg8_n0 hfz (by omega)) (cwV 1 hts gX6_times__X6_withPlaces rfl rfl rfl (by decide +kernel) ⟨Nat.le_of_ble_eq_true rfl, Nat.le_of_ble_eq_true rfl⟩) ⟨xB_blind, va_recv hK hP (ci := 6) rfl (xw_is (by decide) fg8_k0), fun U hU hW => ⟨rfl, by rw [hU]; exact hP, va_K.moved hW.alike hK, va_Nw.warmM hW hN⟩⟩ rfl rfl hl.1 rfl (lv_room (Nat.le_of_ble_eq_true rfl)) dX6_times__90 ⟨Nat.le_of_ble_eq_true rfl, Nat.le_of_ble_eq_true rfl⟩)) (fun r12 er12 => ?_)
      subst er12
      refine xl_add hx hb dX6_times__93 ?_
      refine lv_lstore (lv' := [(5, .long (lZ ((wpS (ctN q w (hsN ln u (2 ^ k1)) 0 n0) kq j) + (sgm (ctN q w (hsN ln u (2 ^ k1)) 0 n0) (512 * (kq + j)) 512)))), (0, .ref (ad (62))), (1, .int (nI (k1))), (2, .int (nI (n0))), (3, .int (nI (kq))), (4, .int (nI (1))), (7, .int (nI (kq + j)))]) hx hb dX6_times__94 hl (by decide) rfl (fun ls hl => ?_)
      refine lv_iinc (v := nI (kq + j + 1)) (lv' := [(7, .int (nI (kq + j + 1))), (5, .long (lZ ((wpS (ctN q w (hsN ln u (2 ^ k1)) 0 n0) kq j) + (sgm (ctN q w (hsN ln u (2 ^ k1)) 0 n0) (512 * (kq + j)) 512)))), (0, .ref (ad (62))), (1, .int (nI (k1))), (2, .int (nI (n0))), (3, .int (nI (kq))), (4, .int (nI (1)))]) hx hb dX6_times__96 hl (k := 6) rfl (nI_add (kq + j) 1) (by decide) rfl (fun ls hl => ?_)
      refine lv_goto (tgt := 67) hx hb dX6_times__99 (by decide) ?_
      exact ih67 (j + 1) ls ⟨(by omega), (lv_sub hl [2, 3, 4, 5, 6, 1, 0] rfl)⟩ (by first | omega | (dsimp only; omega))
  · exact absurd c28_6 (by omega)

set_option maxHeartbeats 4000000 in
set_option maxRecDepth 100000 in
theorem mX6_times_k0 (l : Launch) {D : va_G} {cI cJ cZ cW : ClassId} {ad : Nat → Nat} {A : Nat → Prop} (hD : ∀ g, va_D A (xw 81 ad g)) {g : Nat → va_E} {q Wt : Nat} {w : Nat → Nat} {ln : Nat → Nat} {u : Nat → Nat → Nat} {T : Nat} {t : Nat → Nat} {tp bt : Int64} {k1 n0 kq : Nat}  (hM : ModI cI cJ ad g q Wt w ln u T t tp bt) (hs : SrcI q Wt w ln u T t) (hk1 : k1 < 8) (hp1 : 0 < ln k1) (hn0 : n0 ≤ 30) (hkq : kq ≤ 30) : Met l yX6_times_ wsX6_times_ ({ frames := 3, cells := 0, slots := 0, locals := 77 }) (va_Pc [.ref (ad (62)), .int (nI (k1)), .int (nI (n0)), .int (nI (kq)), .int (nI (0))] (xB D (xT cI cJ cZ cW) ad g)) (va_Ql (fun r g2 => r = lZ (wpS (ctN q w (hsN ln u (2 ^ k1)) 0 n0) kq (31 - kq)) ∧ ModI cI cJ ad g2 q Wt w ln u T t tp bt ∧ ∀ j : Nat, j < 62 → g2 j = g j) (xB D (xT cI cJ cZ cW) ad) A) 0 0 A := by
  refine Met.ofW (cc := cX6_times_) (maxL := 8) (ret := (some .long)) (by decide) rfl ?_
  intro p e s m args below meth c s₁ B hml hv
  obtain ⟨rfl, hP, hK, hN⟩ := hv
  have hx := B.exec
  have hb := B.bytes
  have hr := B.returns
  have hts := atoms_spec (ws := wsX6_times_) B.pre
  have hown : s.vm.findClass RX6 = some m.cls := findClass_of_methodNamed B.named
  have hlocks := B.notSynchronized
  have hS : va_S A s.heap s.heap [] := va_S.rf
  have hl := lv_entry ([.ref (ad (62)), .int (nI (k1)), .int (nI (n0)), .int (nI (kq)), .int (nI (0))]) (n := 8) (Nat.le_of_ble_eq_true rfl)
  rw [lg_entry_eq]
  generalize (lg_sl ([.ref (ad (62)), .int (nI (k1)), .int (nI (n0)), .int (nI (kq)), .int (nI (0))]) ++ List.replicate (8 - (lg_sl ([.ref (ad (62)), .int (nI (k1)), .int (nI (n0)), .int (nI (kq)), .int (nI (0))])).length) Slot.unset).toArray = ls at hl ⊢
  have hl : lv_has ls 8 [(0, .ref (ad (62))), (1, .int (nI (k1))), (2, .int (nI (n0))), (3, .int (nI (kq))), (4, .int (nI (0)))] := hl
  obtain ⟨hq2, hq4, hw1, hw0, hWs, hWt, hw, hln, hul, hT, ht⟩ := hs
  obtain ⟨sq, nu, de, fw, fsz, fwd, ftx, fos, foz, fgo, frw, fan, fad, frn, frd, fen, fed, fcn, fcd, fnw, fth, fo62, fa63, fa64, fa65, fa66, fa67, fa68, fa69, fa70, fa71, fa72, fa73, fa74, fa75, fa76, fa77, fa78, fa79, fa80, hfw, hsz, hwl, htx⟩ := id hM
  have hWp : 1 ≤ Wt ∧ Wt ≤ 4 := by have h8 := hw1 0 (by omega); have h9 := wsum_mono (w := w) (show 1 ≤ q by omega); have h7 : wsum w 1 = 0 + w 0 := rfl; omega
  have hwA : ∀ k j, j < ln k → 1 ≤ w (u k j) := fun k j hj => hw1 _ (hul k j hj)
  have hwB : ∀ k j, j < ln k → w (u k j) ≤ 4 := fun k j hj => hw _ (Nat.lt_of_lt_of_le (hul k j hj) hq4)
  refine lv_aload_n hx hb dX6_times__0 rfl (lv_at hl 0 rfl) ?_
  refine lv_iload_n hx hb dX6_times__1 rfl (lv_at hl 1 rfl) ?_
  refine vp_callSi (va_Run.run (va_runV (As := [.int (nI (k1))]) (rest := []) ⟨hx, hb, hml, hown, hts⟩ (mX6_isWord_yes l (w := w) (ln := ln) (t := t) (u := u) fo62 fa64 hsz hk1 hp1 (hln _)) (cwV 1 hts gX6_times__X6_isWord rfl rfl rfl (by decide +kernel) ⟨Nat.le_of_ble_eq_true rfl, Nat.le_of_ble_eq_true rfl⟩) ⟨xB_blind, va_recv hK hP (ci := 6) rfl (xw_is (by decide) fo62), fun U hU hW => ⟨rfl, by rw [hU]; exact hP, va_K.moved hW.alike hK, va_Nw.warmM hW hN⟩⟩ rfl rfl hl.1 rfl (lv_room (Nat.le_of_ble_eq_true rfl)) dX6_times__2 ⟨Nat.le_of_ble_eq_true rfl, Nat.le_of_ble_eq_true rfl⟩)) (fun r1 er1 => ?_)
  subst er1
  refine xi_if_eq (tgt := 17) hx hb (by decide) dX6_times__5 (by decide) (fun c0 => absurd c0 (by decide)) (fun _ => ?_)
  refine lv_iload_n hx hb dX6_times__8 rfl (lv_at hl 2 rfl) ?_
  refine lv_bipush (v := nI (31)) hx hb dX6_times__9 (by decide) ?_
  refine vp_callSi (va_Run.run (va_runS (As := [.int (nI (n0)), .int (nI (31))]) (rest := []) ⟨hx, hb, hml, hown, hts⟩ (mX6_isIn_in l (by omega) (by omega)) (va_cwS 2 hts gX6_times__X6_isIn rfl rfl rfl (by decide +kernel) ⟨Nat.le_of_ble_eq_true rfl, Nat.le_of_ble_eq_true rfl⟩) ⟨xB_blind, fun U hU hW => ⟨rfl, by rw [hU]; exact hP, va_K.moved hW.alike hK, va_Nw.warmM hW hN⟩⟩ rfl rfl hl.1 rfl (lv_room (Nat.le_of_ble_eq_true rfl)) dX6_times__11 ⟨Nat.le_of_ble_eq_true rfl, Nat.le_of_ble_eq_true rfl⟩)) (fun r3 er3 => ?_)
  subst er3
  refine xi_if_ne (tgt := 21) hx hb (by decide) dX6_times__14 (by decide) (fun _ => ?_) (fun c0 => absurd c0 (by decide))
  refine lv_iload_n hx hb dX6_times__21 rfl (lv_at hl 3 rfl) ?_
  refine xi_if_lt (tgt := 31) hx hb (by omega) dX6_times__22 (by decide) ?_
  refine lv_iload_n hx hb dX6_times__25 rfl (lv_at hl 3 rfl) ?_
  refine lv_bipush (v := nI (30)) hx hb dX6_times__26 (by decide) ?_
  refine xi_icmp_le (tgt := 52) hx hb (by omega) (by decide) dX6_times__28 (by decide) (fun c28_6 => ?_) (fun c28_6 => ?_)
  · refine lv_aload_n hx hb dX6_times__52 rfl (lv_at hl 0 rfl) ?_
    refine lv_iconst (v := nI (1)) hx hb dX6_times__53 (by decide) ?_
    refine lv_iload_n hx hb dX6_times__54 rfl (lv_at hl 1 rfl) ?_
    refine lv_ishl hx hb dX6_times__55 ?_
    refine xtopi (y := nI (2 ^ k1)) (nI_shl1 (by omega)) ?_
    refine lv_iload_n hx hb dX6_times__56 rfl (lv_at hl 2 rfl) ?_
    refine lv_iconst (v := nI (0)) hx hb dX6_times__57 (by decide) ?_
    refine va_callv (va_runV (As := [.int (nI (2 ^ k1)), .int (nI (n0)), .int (nI (0))]) (rest := []) ⟨hx, hb, hml, hown, hts⟩ (mX6_counts l hD (w := w) (ln := ln) (t := t) (u := u) (B0 := 2 ^ k1) (n0 := n0) (nv := 0) fo62 fa63 fa64 fa65 fa79 fa80 hfw hsz hwl hq2 hq4 hln hul hT ht hw (by have h9 := pw_lt k1 hk1; omega) hn0 (by decide)) (cwV 3 hts gX6_times__X6_counts rfl rfl rfl (by decide +kernel) ⟨Nat.le_of_ble_eq_true rfl, Nat.le_of_ble_eq_true rfl⟩) ⟨xB_blind, va_recv hK hP (ci := 6) rfl (xw_is (by decide) fo62), fun U hU hW => ⟨rfl, by rw [hU]; exact hP, va_K.moved hW.alike hK, va_Nw.warmM hW hN⟩⟩ rfl rfl hl.1 rfl (lv_room (Nat.le_of_ble_eq_true rfl)) dX6_times__58 ⟨Nat.le_of_ble_eq_true rfl, Nat.le_of_ble_eq_true rfl⟩) hS (fun _ _ h => h) (fun _ h => h) (fun g8 tZ H locs ht hvm hwg8 hB hzZ hkZ hS => ?_)
    obtain ⟨hP, -⟩ := hB
    rw [ht] at hP
    obtain ⟨fz, fy, hfz, fg8_n0, fg8_n1, hcg8⟩ := hwg8
    have fg8_k0 : g8 (62) = .inr (6, [.int (nI (q)), .int (nI (Wt)), .ref (ad (63)), .ref (ad (64)), .ref (ad (65)), .ref (ad (66)), .int (nI (T)), .long (tp), .long (bt), .long (nu), .long (de), .int (sq), .ref (ad (67)), .ref (ad (68)), .ref (ad (69)), .ref (ad (70)), .ref (ad (71)), .ref (ad (72)), .ref (ad (73)), .ref (ad (74)), .ref (ad (75)), .ref (ad (76)), .ref (ad (77)), .ref (ad (78)), .ref (ad (79)), .ref (ad (80))]) := (hcg8 (62) (by decide) (by decide)).trans fo62
    have fg8_k1 : g8 (63) = .inl (cI, 4, .inl (fw)) := (hcg8 (63) (by decide) (by decide)).trans fa63
    have fg8_k2 : g8 (64) = .inl (cI, 8, .inl (fsz)) := (hcg8 (64) (by decide) (by decide)).trans fa64
    have fg8_k3 : g8 (65) = .inl (cI, 40, .inl (fwd)) := (hcg8 (65) (by decide) (by decide)).trans fa65
    have hfrg8 : ∀ j : Nat, j ≠ 79 → j ≠ 80 → g8 j = g j := fun j h0 h1 => (hcg8 j h0 h1).trans ((fun _ _ _ => rfl) j h0 h1)
    refine lv_lconst (v := lZ (0)) hx hb dX6_times__61 (by decide) ?_
    refine lv_lstore (lv' := [(5, .long (lZ (0))), (0, .ref (ad (62))), (1, .int (nI (k1))), (2, .int (nI (n0))), (3, .int (nI (kq))), (4, .int (nI (0)))]) hx hb dX6_times__62 hl (by decide) rfl (fun ls hl => ?_)
    refine lv_iload_n hx hb dX6_times__64 rfl (lv_at hl 4 rfl) ?_
    refine lv_istore (lv' := [(7, .int (nI (kq))), (5, .long (lZ (0))), (0, .ref (ad (62))), (1, .int (nI (k1))), (2, .int (nI (n0))), (3, .int (nI (kq))), (4, .int (nI (0)))]) hx hb dX6_times__65 hl (by decide) rfl (fun ls hl => ?_)
    refine xloop (G := fun fr => W p l e _ s m _ below meth c _ _ _ _ _ fr) (σ := Nat) (fun j ls => F0 m 67 ls []) (fun j ls => (j ≤ 31 - kq) ∧ lv_has ls 8 [(0, .ref (ad (62))), (1, .int (nI (k1))), (2, .int (nI (n0))), (3, .int (nI (kq))), (4, .int (nI (0))), (5, .long (lZ (wpS (ctN q w (hsN ln u (2 ^ k1)) 0 n0) kq j))), (7, .int (nI (kq + j)))]) (fun j => 31 - kq - j) ?_ (0) ls ⟨(Nat.zero_le _), (lv_sub hl [2, 3, 4, 5, 6, 1, 0] rfl)⟩
    rintro j ls ⟨hj, hl⟩ ih67
    refine lv_iload hx hb dX6_times__67 (lv_at hl 6 rfl) ?_
    refine lv_iload hx hb dX6_times__69 (lv_at hl 4 rfl) ?_
    refine xi_if_eq (tgt := 80) hx hb (by decide) dX6_times__71 (by decide) (fun _ => ?_) (fun c0 => absurd c0 (by decide))
    refine lv_bipush (v := nI (31)) hx hb dX6_times__80 (by decide) ?_
    refine xi_icmp_ge (tgt := 102) hx hb (by omega) (by decide) dX6_times__82 (by decide) (fun c82_11 => ?_) (fun c82_11 => ?_)
    · refine lv_lload hx hb dX6_times__102 (lv_at hl 5 rfl) ?_
      exact W.lret (v := lZ (wpS (ctN q w (hsN ln u (2 ^ k1)) 0 n0) kq j)) hx hb hr (fun tZ ht hW => ⟨⟨_, g8, rfl, (by rw [show j = 31 - kq by omega]; exact ⟨rfl, ⟨_, _, _, _, _, _, _, _, _, _, _, _, _, _, _, _, _, _, _, _, _, fg8_k0, fg8_k1, fg8_k2, fg8_k3, ((hfrg8) 66 (by decide) (by decide)).trans fa66, ((hfrg8) 67 (by decide) (by decide)).trans fa67, ((hfrg8) 68 (by decide) (by decide)).trans fa68, ((hfrg8) 69 (by decide) (by decide)).trans fa69, ((hfrg8) 70 (by decide) (by decide)).trans fa70, ((hfrg8) 71 (by decide) (by decide)).trans fa71, ((hfrg8) 72 (by decide) (by decide)).trans fa72, ((hfrg8) 73 (by decide) (by decide)).trans fa73, ((hfrg8) 74 (by decide) (by decide)).trans fa74, ((hfrg8) 75 (by decide) (by decide)).trans fa75, ((hfrg8) 76 (by decide) (by decide)).trans fa76, ((hfrg8) 77 (by decide) (by decide)).trans fa77, ((hfrg8) 78 (by decide) (by decide)).trans fa78, fg8_n0, fg8_n1, hfw, hsz, hwl, htx⟩, fun j hj => (hfrg8) j (by omega) (by omega)⟩), by rw [ht]; exact hP, va_K.moved hW.alike hK, va_Nw.warmM hW hN⟩, hS.F ht⟩) hS.2.2 dX6_times__104
    · refine lv_lload hx hb dX6_times__85 (lv_at hl 5 rfl) ?_
      refine lv_aload_n hx hb dX6_times__87 rfl (lv_at hl 0 rfl) ?_
      refine lv_iload hx hb dX6_times__88 (lv_at hl 6 rfl) ?_
      refine vp_callSl (va_Run.run (va_runV (As := [.int (nI (kq + j))]) (rest := [.long (lZ (wpS (ctN q w (hsN ln u (2 ^ k1)) 0 n0) kq j))]) ⟨hx, hb, hml, hown, hts⟩ (mX6_withPlaces l (w := w) (ln := ln) (t := t) (u := u) (nw := ctN q w (hsN ln u (2 ^ k1)) 0 n0) fg8_k0 fg8_n0 hfz (by omega)) (cwV 1 hts gX6_times__X6_withPlaces rfl rfl rfl (by decide +kernel) ⟨Nat.le_of_ble_eq_true rfl, Nat.le_of_ble_eq_true rfl⟩) ⟨xB_blind, va_recv hK hP (ci := 6) rfl (xw_is (by decide) fg8_k0), fun U hU hW => ⟨rfl, by rw [hU]; exact hP, va_K.moved hW.alike hK, va_Nw.warmM hW hN⟩⟩ rfl rfl hl.1 rfl (lv_room (Nat.le_of_ble_eq_true rfl)) dX6_times__90 ⟨Nat.le_of_ble_eq_true rfl, Nat.le_of_ble_eq_true rfl⟩)) (fun r12 er12 => ?_)
      subst er12
      refine xl_add hx hb dX6_times__93 ?_
      refine lv_lstore (lv' := [(5, .long (lZ ((wpS (ctN q w (hsN ln u (2 ^ k1)) 0 n0) kq j) + (sgm (ctN q w (hsN ln u (2 ^ k1)) 0 n0) (512 * (kq + j)) 512)))), (0, .ref (ad (62))), (1, .int (nI (k1))), (2, .int (nI (n0))), (3, .int (nI (kq))), (4, .int (nI (0))), (7, .int (nI (kq + j)))]) hx hb dX6_times__94 hl (by decide) rfl (fun ls hl => ?_)
      refine lv_iinc (v := nI (kq + j + 1)) (lv' := [(7, .int (nI (kq + j + 1))), (5, .long (lZ ((wpS (ctN q w (hsN ln u (2 ^ k1)) 0 n0) kq j) + (sgm (ctN q w (hsN ln u (2 ^ k1)) 0 n0) (512 * (kq + j)) 512)))), (0, .ref (ad (62))), (1, .int (nI (k1))), (2, .int (nI (n0))), (3, .int (nI (kq))), (4, .int (nI (0)))]) hx hb dX6_times__96 hl (k := 6) rfl (nI_add (kq + j) 1) (by decide) rfl (fun ls hl => ?_)
      refine lv_goto (tgt := 67) hx hb dX6_times__99 (by decide) ?_
      exact ih67 (j + 1) ls ⟨(by omega), (lv_sub hl [2, 3, 4, 5, 6, 1, 0] rfl)⟩ (by first | omega | (dsimp only; omega))
  · exact absurd c28_6 (by omega)

set_option maxHeartbeats 4000000 in
set_option maxRecDepth 100000 in
theorem mX6_never_bad (l : Launch) {D : va_G} {cI cJ cZ cW : ClassId} {ad : Nat → Nat} {A : Nat → Prop} (hD : ∀ g, va_D A (xw 81 ad g)) {g : Nat → va_E} {q Wt : Nat} {w : Nat → Nat} {ln : Nat → Nat} {u : Nat → Nat → Nat} {T : Nat} {t : Nat → Nat} {tp bt : Int64} {xs x0 : Int32}  (hM : ModI cI cJ ad g q Wt w ln u T t tp bt) (hs : SrcI q Wt w ln u T t) (hx0 : x0 < 0 ∨ nI 31 ≤ x0) : Met l yX6_never wsX6_never ({ frames := 3, cells := 0, slots := 0, locals := 77 }) (va_Pc [.ref (ad (62)), .int (xs), .int (x0)] (xB D (xT cI cJ cZ cW) ad g)) (va_Ql (fun r g2 => r = -1 ∧ ModI cI cJ ad g2 q Wt w ln u T t tp bt ∧ ∀ j : Nat, j < 62 → g2 j = g j) (xB D (xT cI cJ cZ cW) ad) A) 0 0 A := by
  refine Met.ofW (cc := cX6_never) (maxL := 3) (ret := (some .long)) (by decide) rfl ?_
  intro p e s m args below meth c s₁ B hml hv
  obtain ⟨rfl, hP, hK, hN⟩ := hv
  have hx := B.exec
  have hb := B.bytes
  have hr := B.returns
  have hts := atoms_spec (ws := wsX6_never) B.pre
  have hown : s.vm.findClass RX6 = some m.cls := findClass_of_methodNamed B.named
  have hlocks := B.notSynchronized
  have hS : va_S A s.heap s.heap [] := va_S.rf
  have hl := lv_entry ([.ref (ad (62)), .int (xs), .int (x0)]) (n := 3) (Nat.le_of_ble_eq_true rfl)
  rw [lg_entry_eq]
  generalize (lg_sl ([.ref (ad (62)), .int (xs), .int (x0)]) ++ List.replicate (3 - (lg_sl ([.ref (ad (62)), .int (xs), .int (x0)])).length) Slot.unset).toArray = ls at hl ⊢
  have hl : lv_has ls 3 [(0, .ref (ad (62))), (1, .int (xs)), (2, .int (x0))] := hl
  obtain ⟨hq2, hq4, hw1, hw0, hWs, hWt, hw, hln, hul, hT, ht⟩ := hs
  obtain ⟨sq, nu, de, fw, fsz, fwd, ftx, fos, foz, fgo, frw, fan, fad, frn, frd, fen, fed, fcn, fcd, fnw, fth, fo62, fa63, fa64, fa65, fa66, fa67, fa68, fa69, fa70, fa71, fa72, fa73, fa74, fa75, fa76, fa77, fa78, fa79, fa80, hfw, hsz, hwl, htx⟩ := id hM
  have hWp : 1 ≤ Wt ∧ Wt ≤ 4 := by have h8 := hw1 0 (by omega); have h9 := wsum_mono (w := w) (show 1 ≤ q by omega); have h7 : wsum w 1 = 0 + w 0 := rfl; omega
  have hwA : ∀ k j, j < ln k → 1 ≤ w (u k j) := fun k j hj => hw1 _ (hul k j hj)
  have hwB : ∀ k j, j < ln k → w (u k j) ≤ 4 := fun k j hj => hw _ (Nat.lt_of_lt_of_le (hul k j hj) hq4)
  refine lv_iload_n hx hb dX6_never_0 rfl (lv_at hl 2 rfl) ?_
  refine lv_bipush (v := nI (31)) hx hb dX6_never_1 (by decide) ?_
  refine vp_callSi (va_Run.run (va_runS (As := [.int (x0), .int (nI (31))]) (rest := []) ⟨hx, hb, hml, hown, hts⟩ (mX6_isIn_out l hx0) (va_cwS 2 hts gX6_never_X6_isIn rfl rfl rfl (by decide +kernel) ⟨Nat.le_of_ble_eq_true rfl, Nat.le_of_ble_eq_true rfl⟩) ⟨xB_blind, fun U hU hW => ⟨rfl, by rw [hU]; exact hP, va_K.moved hW.alike hK, va_Nw.warmM hW hN⟩⟩ rfl rfl hl.1 rfl (lv_room (Nat.le_of_ble_eq_true rfl)) dX6_never_3 ⟨Nat.le_of_ble_eq_true rfl, Nat.le_of_ble_eq_true rfl⟩)) (fun r1 er1 => ?_)
  subst er1
  refine xi_if_ne (tgt := 13) hx hb (by decide) dX6_never_6 (by decide) (fun c0 => absurd c0 (by decide)) (fun _ => ?_)
  refine lv_ldc2 (v := lZ (-1)) hx hb hown (hts (.constantLong RX6 186 (-1)) (by decide +kernel)) dX6_never_9 ?_
  exact W.lret (v := lZ (-1)) hx hb hr (fun tZ ht hW => ⟨⟨_, g, rfl, ⟨rfl, hM, fun _ _ => rfl⟩, by rw [ht]; exact hP, va_K.moved hW.alike hK, va_Nw.warmM hW hN⟩, hS.F ht⟩) hS.2.2 dX6_never_12

set_option maxHeartbeats 4000000 in
set_option maxRecDepth 100000 in
theorem mX6_never_in (l : Launch) {D : va_G} {cI cJ cZ cW : ClassId} {ad : Nat → Nat} {A : Nat → Prop} (hD : ∀ g, va_D A (xw 81 ad g)) {g : Nat → va_E} {q Wt : Nat} {w : Nat → Nat} {ln : Nat → Nat} {u : Nat → Nat → Nat} {T : Nat} {t : Nat → Nat} {tp bt : Int64} {xs : Int32} {n0 : Nat}  (hM : ModI cI cJ ad g q Wt w ln u T t tp bt) (hs : SrcI q Wt w ln u T t) (hn0 : n0 ≤ 30) : Met l yX6_never wsX6_never ({ frames := 3, cells := 0, slots := 0, locals := 77 }) (va_Pc [.ref (ad (62)), .int (xs), .int (nI (n0))] (xB D (xT cI cJ cZ cW) ad g)) (va_Ql (fun r g2 => r = lZ (sgm (ctN q w (hsN ln u (set8 xs)) 1 n0) (512 * 0) 512) ∧ ModI cI cJ ad g2 q Wt w ln u T t tp bt ∧ ∀ j : Nat, j < 62 → g2 j = g j) (xB D (xT cI cJ cZ cW) ad) A) 0 0 A := by
  refine Met.ofW (cc := cX6_never) (maxL := 3) (ret := (some .long)) (by decide) rfl ?_
  intro p e s m args below meth c s₁ B hml hv
  obtain ⟨rfl, hP, hK, hN⟩ := hv
  have hx := B.exec
  have hb := B.bytes
  have hr := B.returns
  have hts := atoms_spec (ws := wsX6_never) B.pre
  have hown : s.vm.findClass RX6 = some m.cls := findClass_of_methodNamed B.named
  have hlocks := B.notSynchronized
  have hS : va_S A s.heap s.heap [] := va_S.rf
  have hl := lv_entry ([.ref (ad (62)), .int (xs), .int (nI (n0))]) (n := 3) (Nat.le_of_ble_eq_true rfl)
  rw [lg_entry_eq]
  generalize (lg_sl ([.ref (ad (62)), .int (xs), .int (nI (n0))]) ++ List.replicate (3 - (lg_sl ([.ref (ad (62)), .int (xs), .int (nI (n0))])).length) Slot.unset).toArray = ls at hl ⊢
  have hl : lv_has ls 3 [(0, .ref (ad (62))), (1, .int (xs)), (2, .int (nI (n0)))] := hl
  obtain ⟨hq2, hq4, hw1, hw0, hWs, hWt, hw, hln, hul, hT, ht⟩ := hs
  obtain ⟨sq, nu, de, fw, fsz, fwd, ftx, fos, foz, fgo, frw, fan, fad, frn, frd, fen, fed, fcn, fcd, fnw, fth, fo62, fa63, fa64, fa65, fa66, fa67, fa68, fa69, fa70, fa71, fa72, fa73, fa74, fa75, fa76, fa77, fa78, fa79, fa80, hfw, hsz, hwl, htx⟩ := id hM
  have hWp : 1 ≤ Wt ∧ Wt ≤ 4 := by have h8 := hw1 0 (by omega); have h9 := wsum_mono (w := w) (show 1 ≤ q by omega); have h7 : wsum w 1 = 0 + w 0 := rfl; omega
  have hwA : ∀ k j, j < ln k → 1 ≤ w (u k j) := fun k j hj => hw1 _ (hul k j hj)
  have hwB : ∀ k j, j < ln k → w (u k j) ≤ 4 := fun k j hj => hw _ (Nat.lt_of_lt_of_le (hul k j hj) hq4)
  refine lv_iload_n hx hb dX6_never_0 rfl (lv_at hl 2 rfl) ?_
  refine lv_bipush (v := nI (31)) hx hb dX6_never_1 (by decide) ?_
  refine vp_callSi (va_Run.run (va_runS (As := [.int (nI (n0)), .int (nI (31))]) (rest := []) ⟨hx, hb, hml, hown, hts⟩ (mX6_isIn_in l (by omega) (by omega)) (va_cwS 2 hts gX6_never_X6_isIn rfl rfl rfl (by decide +kernel) ⟨Nat.le_of_ble_eq_true rfl, Nat.le_of_ble_eq_true rfl⟩) ⟨xB_blind, fun U hU hW => ⟨rfl, by rw [hU]; exact hP, va_K.moved hW.alike hK, va_Nw.warmM hW hN⟩⟩ rfl rfl hl.1 rfl (lv_room (Nat.le_of_ble_eq_true rfl)) dX6_never_3 ⟨Nat.le_of_ble_eq_true rfl, Nat.le_of_ble_eq_true rfl⟩)) (fun r1 er1 => ?_)
  subst er1
  refine xi_if_ne (tgt := 13) hx hb (by decide) dX6_never_6 (by decide) (fun _ => ?_) (fun c0 => absurd c0 (by decide))
  refine lv_aload_n hx hb dX6_never_13 rfl (lv_at hl 0 rfl) ?_
  refine lv_iload_n hx hb dX6_never_14 rfl (lv_at hl 1 rfl) ?_
  refine lv_sipush (v := nI (255)) hx hb dX6_never_15 (by decide) ?_
  refine lv_iand hx hb dX6_never_18 ?_
  refine xtopi (y := nI (set8 xs)) (set8_eq xs).1 ?_
  refine lv_iload_n hx hb dX6_never_19 rfl (lv_at hl 2 rfl) ?_
  refine lv_iconst (v := nI (1)) hx hb dX6_never_20 (by decide) ?_
  refine va_callv (va_runV (As := [.int (nI (set8 xs)), .int (nI (n0)), .int (nI (1))]) (rest := []) ⟨hx, hb, hml, hown, hts⟩ (mX6_counts l hD (w := w) (ln := ln) (t := t) (u := u) (B0 := set8 xs) (n0 := n0) (nv := 1) fo62 fa63 fa64 fa65 fa79 fa80 hfw hsz hwl hq2 hq4 hln hul hT ht hw (set8_eq xs).2 hn0 (by decide)) (cwV 3 hts gX6_never_X6_counts rfl rfl rfl (by decide +kernel) ⟨Nat.le_of_ble_eq_true rfl, Nat.le_of_ble_eq_true rfl⟩) ⟨xB_blind, va_recv hK hP (ci := 6) rfl (xw_is (by decide) fo62), fun U hU hW => ⟨rfl, by rw [hU]; exact hP, va_K.moved hW.alike hK, va_Nw.warmM hW hN⟩⟩ rfl rfl hl.1 rfl (lv_room (Nat.le_of_ble_eq_true rfl)) dX6_never_21 ⟨Nat.le_of_ble_eq_true rfl, Nat.le_of_ble_eq_true rfl⟩) hS (fun _ _ h => h) (fun _ h => h) (fun g4 tZ H locs ht hvm hwg4 hB hzZ hkZ hS => ?_)
  obtain ⟨hP, -⟩ := hB
  rw [ht] at hP
  obtain ⟨fz, fy, hfz, fg4_n0, fg4_n1, hcg4⟩ := hwg4
  have fg4_k0 : g4 (62) = .inr (6, [.int (nI (q)), .int (nI (Wt)), .ref (ad (63)), .ref (ad (64)), .ref (ad (65)), .ref (ad (66)), .int (nI (T)), .long (tp), .long (bt), .long (nu), .long (de), .int (sq), .ref (ad (67)), .ref (ad (68)), .ref (ad (69)), .ref (ad (70)), .ref (ad (71)), .ref (ad (72)), .ref (ad (73)), .ref (ad (74)), .ref (ad (75)), .ref (ad (76)), .ref (ad (77)), .ref (ad (78)), .ref (ad (79)), .ref (ad (80))]) := (hcg4 (62) (by decide) (by decide)).trans fo62
  have fg4_k1 : g4 (63) = .inl (cI, 4, .inl (fw)) := (hcg4 (63) (by decide) (by decide)).trans fa63
  have fg4_k2 : g4 (64) = .inl (cI, 8, .inl (fsz)) := (hcg4 (64) (by decide) (by decide)).trans fa64
  have fg4_k3 : g4 (65) = .inl (cI, 40, .inl (fwd)) := (hcg4 (65) (by decide) (by decide)).trans fa65
  have hfrg4 : ∀ j : Nat, j ≠ 79 → j ≠ 80 → g4 j = g j := fun j h0 h1 => (hcg4 j h0 h1).trans ((fun _ _ _ => rfl) j h0 h1)
  refine lv_aload_n hx hb dX6_never_24 rfl (lv_at hl 0 rfl) ?_
  refine lv_iconst (v := nI (0)) hx hb dX6_never_25 (by decide) ?_
  refine vp_callSl (va_Run.run (va_runV (As := [.int (nI (0))]) (rest := []) ⟨hx, hb, hml, hown, hts⟩ (mX6_withPlaces l (w := w) (ln := ln) (t := t) (u := u) (nw := ctN q w (hsN ln u (set8 xs)) 1 n0) fg4_k0 fg4_n0 hfz (by omega)) (cwV 1 hts gX6_never_X6_withPlaces rfl rfl rfl (by decide +kernel) ⟨Nat.le_of_ble_eq_true rfl, Nat.le_of_ble_eq_true rfl⟩) ⟨xB_blind, va_recv hK hP (ci := 6) rfl (xw_is (by decide) fg4_k0), fun U hU hW => ⟨rfl, by rw [hU]; exact hP, va_K.moved hW.alike hK, va_Nw.warmM hW hN⟩⟩ rfl rfl hl.1 rfl (lv_room (Nat.le_of_ble_eq_true rfl)) dX6_never_26 ⟨Nat.le_of_ble_eq_true rfl, Nat.le_of_ble_eq_true rfl⟩)) (fun r6 er6 => ?_)
  subst er6
  exact W.lret (v := lZ (sgm (ctN q w (hsN ln u (set8 xs)) 1 n0) (512 * (0)) 512)) hx hb hr (fun tZ ht hW => ⟨⟨_, g4, rfl, ⟨rfl, ⟨_, _, _, _, _, _, _, _, _, _, _, _, _, _, _, _, _, _, _, _, _, fg4_k0, fg4_k1, fg4_k2, fg4_k3, ((hfrg4) 66 (by decide) (by decide)).trans fa66, ((hfrg4) 67 (by decide) (by decide)).trans fa67, ((hfrg4) 68 (by decide) (by decide)).trans fa68, ((hfrg4) 69 (by decide) (by decide)).trans fa69, ((hfrg4) 70 (by decide) (by decide)).trans fa70, ((hfrg4) 71 (by decide) (by decide)).trans fa71, ((hfrg4) 72 (by decide) (by decide)).trans fa72, ((hfrg4) 73 (by decide) (by decide)).trans fa73, ((hfrg4) 74 (by decide) (by decide)).trans fa74, ((hfrg4) 75 (by decide) (by decide)).trans fa75, ((hfrg4) 76 (by decide) (by decide)).trans fa76, ((hfrg4) 77 (by decide) (by decide)).trans fa77, ((hfrg4) 78 (by decide) (by decide)).trans fa78, fg4_n0, fg4_n1, hfw, hsz, hwl, htx⟩, fun j hj => (hfrg4) j (by omega) (by omega)⟩, by rw [ht]; exact hP, va_K.moved hW.alike hK, va_Nw.warmM hW hN⟩, hS.F ht⟩) hS.2.2 dX6_never_29
