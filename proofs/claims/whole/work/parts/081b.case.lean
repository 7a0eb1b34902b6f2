set_option maxHeartbeats 4000000 in
set_option maxRecDepth 100000 in
/-- lead -/
theorem lw_c6 {p : Program} {e : Env} {s : State} {m : MethodId} {below : List Frame} {meth : Method} {c : Code} (l : Launch) {b L : Nat} {xs : Nat → Int32} (hL : L ≤ 3072) (C0 : lw_At p s m meth c b L xs) {D : va_G} {cI cJ cZ cW : ClassId} {ad : Nat → Nat} (hK : va_K D vwCl (xT cI cJ cZ cW) s) (hN : va_Nw (.methodLinkNest RX4 33 yX5_power RX5) s) (hD : ∀ g, va_D (fun q : Nat => s.heap.size ≤ q) (xw 81 ad g)) {i : Nat} (hi : i + 6 ≤ L) {g : Nat → va_E} {q Wt : Nat} {w : Nat → Nat} {ln : Nat → Nat} {u : Nat → Nat → Nat} {T : Nat} {t : Nat → Nat} {tp bt : Int64} (hC : ClsI cI cJ cZ cW ad g q Wt w ln u T t tp bt) (hM : ModI cI cJ ad g q Wt w ln u T t tp bt) (hs : SrcI q Wt w ln u T t) {H : Heap} {locs : List Loc} (hP : va_P D vwCl (xw 81 ad g) H) (hS : va_S (fun q : Nat => s.heap.size ≤ q) s.heap H locs) {ls : Array Slot} (hl : lv_has ls 4 [(0, .ref b), (1, .ref (ad 0)), (2, .ref (ad 62)), (3, .int (nI (i)))]) (ih : ∀ (g : Nat → va_E) (q Wt : Nat) (w ln : Nat → Nat) (u : Nat → Nat → Nat) (T : Nat) (t : Nat → Nat) (tp bt : Int64) (H : Heap) (locs : List Loc) (ls : Array Slot), ClsI cI cJ cZ cW ad g q Wt w ln u T t tp bt → ModI cI cJ ad g q Wt w ln u T t tp bt → SrcI q Wt w ln u T t → va_P D vwCl (xw 81 ad g) H → va_S (fun q : Nat => s.heap.size ≤ q) s.heap H locs → lv_has ls 4 [(0, .ref b), (1, .ref (ad 0)), (2, .ref (ad 62)), (3, .int (nI (i + 6)))] → W p l e room_1 s m #[Value.ref b] below meth c H locs 81 34932 (lw_Z below #[Value.ref b] s) (F0 m 18 ls [])) : W p l e room_1 s m #[Value.ref b] below meth c H locs 81 34932 (lw_Z below #[Value.ref b] s) (F0 m 364 ls []) := by
  obtain ⟨hx, hb, hr, hml, hown, hts0, hX, hbl, hlocks, hgv⟩ := id C0
  have hts := fun w h => hts0 w (wsL_law_in w h)
  have hbA : ¬ (fun q : Nat => s.heap.size ≤ q) b := Nat.not_le.mpr hbl
  have hown : s.vm.findClass RL = some m.cls := hown
  have hL31 : L < 2 ^ 31 := by omega
  refine lv_aload_n hx hb dL_law_364 rfl (lv_at hl 1 rfl) ?_
  refine lv_aload_n hx hb dL_law_365 rfl (lv_at hl 0 rfl) ?_
  refine lv_iload_n hx hb dL_law_366 rfl (lv_at hl 3 rfl) ?_
  refine lv_iconst (v := nI (1)) hx hb dL_law_367 (by decide) ?_
  refine xi_add hx hb dL_law_368 ?_
  refine xs_ld hx hb hX hbl hbA hS (show i + 1 < L by omega) hL31 dL_law_369 ?_
  refine lv_aload_n hx hb dL_law_370 rfl (lv_at hl 0 rfl) ?_
  refine lv_iload_n hx hb dL_law_371 rfl (lv_at hl 3 rfl) ?_
  refine lv_iconst (v := nI (2)) hx hb dL_law_372 (by decide) ?_
  refine xi_add hx hb dL_law_373 ?_
  refine xs_ld hx hb hX hbl hbA hS (show i + 2 < L by omega) hL31 dL_law_374 ?_
  obtain ⟨r, q2, Wt2, w2, ln2, u2, T2, t2, tp2, bt2, hs2, hCc, hMm⟩ := pr_lead l hD hs (tp := tp) (bt := bt) (cI := cI) (cJ := cJ) (cZ := cZ) (cW := cW) (D := D) (xs (i + 1)) (xs (i + 2))
  refine va_calli (va_runV (As := [.int (xs (i + 1)), .int (xs (i + 2))]) (rest := []) ⟨hx, hb, hml, hown, hts⟩ (hCc g hC) (cwV 2 hts gL_law_X5_lead rfl rfl rfl (by decide +kernel) ⟨Nat.le_of_ble_eq_true rfl, Nat.le_of_ble_eq_true rfl⟩) ⟨xB_blind, va_recv hK hP (ci := 5) rfl (xw_is (by decide) hC.1), fun U hU hW => ⟨rfl, by rw [hU]; exact hP, va_K.moved hW.alike hK, va_Nw.warmM hW hN⟩⟩ rfl rfl hl.1 rfl (lv_room (Nat.le_of_ble_eq_true rfl)) dL_law_375 ⟨Nat.le_of_ble_eq_true rfl, Nat.le_of_ble_eq_true rfl⟩) hS (fun _ _ h => h) (fun _ h => h) (fun r9 g1 tZ H locs ht hvm hw hB hzZ hkZ hS => ?_)
  obtain ⟨hP, -⟩ := hB
  rw [ht] at hP
  obtain ⟨er, hC1, hf1⟩ := hw
  rw [er]
  have hM1 := hM.frame hf1
  refine lv_aload_n hx hb dL_law_378 rfl (lv_at hl 2 rfl) ?_
  refine lv_aload_n hx hb dL_law_379 rfl (lv_at hl 0 rfl) ?_
  refine lv_iload_n hx hb dL_law_380 rfl (lv_at hl 3 rfl) ?_
  refine lv_iconst (v := nI (1)) hx hb dL_law_381 (by decide) ?_
  refine xi_add hx hb dL_law_382 ?_
  refine xs_ld hx hb hX hbl hbA hS (show i + 1 < L by omega) hL31 dL_law_383 ?_
  refine lv_aload_n hx hb dL_law_384 rfl (lv_at hl 0 rfl) ?_
  refine lv_iload_n hx hb dL_law_385 rfl (lv_at hl 3 rfl) ?_
  refine lv_iconst (v := nI (2)) hx hb dL_law_386 (by decide) ?_
  refine xi_add hx hb dL_law_387 ?_
  refine xs_ld hx hb hX hbl hbA hS (show i + 2 < L by omega) hL31 dL_law_388 ?_
  obtain ⟨fs6, hfo⟩ := hM1.obj
  refine va_calli (va_runV (As := [.int (xs (i + 1)), .int (xs (i + 2))]) (rest := [.int r]) ⟨hx, hb, hml, hown, hts⟩ (hMm g1 hM1) (cwV 2 hts gL_law_X6_lead rfl rfl rfl (by decide +kernel) ⟨Nat.le_of_ble_eq_true rfl, Nat.le_of_ble_eq_true rfl⟩) ⟨xB_blind, va_recv hK hP (ci := 6) rfl (xw_is (by decide) hfo), fun U hU hW => ⟨rfl, by rw [hU]; exact hP, va_K.moved hW.alike hK, va_Nw.warmM hW hN⟩⟩ rfl rfl hl.1 rfl (lv_room (Nat.le_of_ble_eq_true rfl)) dL_law_389 ⟨Nat.le_of_ble_eq_true rfl, Nat.le_of_ble_eq_true rfl⟩) hS (fun _ _ h => h) (fun _ h => h) (fun r9 g2 tZ H locs ht hvm hw hB hzZ hkZ hS => ?_)
  obtain ⟨hP, -⟩ := hB
  rw [ht] at hP
  obtain ⟨er, hM2, hf2⟩ := hw
  rw [er]
  have hC2 := hC1.frame hf2
  refine lv_icmp_eq (tgt := 821) hx hb dL_law_392 (by decide) (fun _ => ?_) (fun c9 => absurd rfl c9)
  refine lv_iinc (v := nI (i + 6)) (lv' := [(3, .int (nI (i + 6))), (0, .ref b), (1, .ref (ad 0)), (2, .ref (ad 62))]) hx hb dL_law_821 hl (k := 3) rfl (nI_add i 6) (by decide) rfl (fun ls hl => ?_)
  refine lv_goto (tgt := 18) hx hb dL_law_824 (by decide) ?_
  exact ih g2 q2 Wt2 w2 ln2 u2 T2 t2 tp2 bt2 H locs ls hC2 hM2 hs2 hP hS (lv_sub hl [1, 2, 3, 0] rfl)

set_option maxHeartbeats 4000000 in
set_option maxRecDepth 100000 in
/-- wait -/
theorem lw_c7 {p : Program} {e : Env} {s : State} {m : MethodId} {below : List Frame} {meth : Method} {c : Code} (l : Launch) {b L : Nat} {xs : Nat → Int32} (hL : L ≤ 3072) (C0 : lw_At p s m meth c b L xs) {D : va_G} {cI cJ cZ cW : ClassId} {ad : Nat → Nat} (hK : va_K D vwCl (xT cI cJ cZ cW) s) (hN : va_Nw (.methodLinkNest RX4 33 yX5_power RX5) s) (hD : ∀ g, va_D (fun q : Nat => s.heap.size ≤ q) (xw 81 ad g)) {i : Nat} (hi : i + 6 ≤ L) {g : Nat → va_E} {q Wt : Nat} {w : Nat → Nat} {ln : Nat → Nat} {u : Nat → Nat → Nat} {T : Nat} {t : Nat → Nat} {tp bt : Int64} (hC : ClsI cI cJ cZ cW ad g q Wt w ln u T t tp bt) (hM : ModI cI cJ ad g q Wt w ln u T t tp bt) (hs : SrcI q Wt w ln u T t) {H : Heap} {locs : List Loc} (hP : va_P D vwCl (xw 81 ad g) H) (hS : va_S (fun q : Nat => s.heap.size ≤ q) s.heap H locs) {ls : Array Slot} (hl : lv_has ls 4 [(0, .ref b), (1, .ref (ad 0)), (2, .ref (ad 62)), (3, .int (nI (i)))]) (ih : ∀ (g : Nat → va_E) (q Wt : Nat) (w ln : Nat → Nat) (u : Nat → Nat → Nat) (T : Nat) (t : Nat → Nat) (tp bt : Int64) (H : Heap) (locs : List Loc) (ls : Array Slot), ClsI cI cJ cZ cW ad g q Wt w ln u T t tp bt → ModI cI cJ ad g q Wt w ln u T t tp bt → SrcI q Wt w ln u T t → va_P D vwCl (xw 81 ad g) H → va_S (fun q : Nat => s.heap.size ≤ q) s.heap H locs → lv_has ls 4 [(0, .ref b), (1, .ref (ad 0)), (2, .ref (ad 62)), (3, .int (nI (i + 6)))] → W p l e room_1 s m #[Value.ref b] below meth c H locs 81 34932 (lw_Z below #[Value.ref b] s) (F0 m 18 ls [])) : W p l e room_1 s m #[Value.ref b] below meth c H locs 81 34932 (lw_Z below #[Value.ref b] s) (F0 m 397 ls []) := by
  obtain ⟨hx, hb, hr, hml, hown, hts0, hX, hbl, hlocks, hgv⟩ := id C0
  have hts := fun w h => hts0 w (wsL_law_in w h)
  have hbA : ¬ (fun q : Nat => s.heap.size ≤ q) b := Nat.not_le.mpr hbl
  have hown : s.vm.findClass RL = some m.cls := hown
  have hL31 : L < 2 ^ 31 := by omega
  refine lv_aload_n hx hb dL_law_397 rfl (lv_at hl 1 rfl) ?_
  refine lv_aload_n hx hb dL_law_398 rfl (lv_at hl 0 rfl) ?_
  refine lv_iload_n hx hb dL_law_399 rfl (lv_at hl 3 rfl) ?_
  refine lv_iconst (v := nI (1)) hx hb dL_law_400 (by decide) ?_
  refine xi_add hx hb dL_law_401 ?_
  refine xs_ld hx hb hX hbl hbA hS (show i + 1 < L by omega) hL31 dL_law_402 ?_
  refine lv_aload_n hx hb dL_law_403 rfl (lv_at hl 0 rfl) ?_
  refine lv_iload_n hx hb dL_law_404 rfl (lv_at hl 3 rfl) ?_
  refine lv_iconst (v := nI (2)) hx hb dL_law_405 (by decide) ?_
  refine xi_add hx hb dL_law_406 ?_
  refine xs_ld hx hb hX hbl hbA hS (show i + 2 < L by omega) hL31 dL_law_407 ?_
  obtain ⟨r, q2, Wt2, w2, ln2, u2, T2, t2, tp2, bt2, hs2, hCc, hMm⟩ := pr_wait l hD hs (tp := tp) (bt := bt) (cI := cI) (cJ := cJ) (cZ := cZ) (cW := cW) (D := D) (xs (i + 1)) (xs (i + 2))
  refine va_calli (va_runV (As := [.int (xs (i + 1)), .int (xs (i + 2))]) (rest := []) ⟨hx, hb, hml, hown, hts⟩ (hCc g hC) (cwV 2 hts gL_law_X5_wait rfl rfl rfl (by decide +kernel) ⟨Nat.le_of_ble_eq_true rfl, Nat.le_of_ble_eq_true rfl⟩) ⟨xB_blind, va_recv hK hP (ci := 5) rfl (xw_is (by decide) hC.1), fun U hU hW => ⟨rfl, by rw [hU]; exact hP, va_K.moved hW.alike hK, va_Nw.warmM hW hN⟩⟩ rfl rfl hl.1 rfl (lv_room (Nat.le_of_ble_eq_true rfl)) dL_law_408 ⟨Nat.le_of_ble_eq_true rfl, Nat.le_of_ble_eq_true rfl⟩) hS (fun _ _ h => h) (fun _ h => h) (fun r9 g1 tZ H locs ht hvm hw hB hzZ hkZ hS => ?_)
  obtain ⟨hP, -⟩ := hB
  rw [ht] at hP
  obtain ⟨er, hC1, hf1⟩ := hw
  rw [er]
  have hM1 := hM.frame hf1
  refine lv_aload_n hx hb dL_law_411 rfl (lv_at hl 2 rfl) ?_
  refine lv_aload_n hx hb dL_law_412 rfl (lv_at hl 0 rfl) ?_
  refine lv_iload_n hx hb dL_law_413 rfl (lv_at hl 3 rfl) ?_
  refine lv_iconst (v := nI (1)) hx hb dL_law_414 (by decide) ?_
  refine xi_add hx hb dL_law_415 ?_
  refine xs_ld hx hb hX hbl hbA hS (show i + 1 < L by omega) hL31 dL_law_416 ?_
  refine lv_aload_n hx hb dL_law_417 rfl (lv_at hl 0 rfl) ?_
  refine lv_iload_n hx hb dL_law_418 rfl (lv_at hl 3 rfl) ?_
  refine lv_iconst (v := nI (2)) hx hb dL_law_419 (by decide) ?_
  refine xi_add hx hb dL_law_420 ?_
  refine xs_ld hx hb hX hbl hbA hS (show i + 2 < L by omega) hL31 dL_law_421 ?_
  obtain ⟨fs6, hfo⟩ := hM1.obj
  refine va_calli (va_runV (As := [.int (xs (i + 1)), .int (xs (i + 2))]) (rest := [.int r]) ⟨hx, hb, hml, hown, hts⟩ (hMm g1 hM1) (cwV 2 hts gL_law_X6_wait rfl rfl rfl (by decide +kernel) ⟨Nat.le_of_ble_eq_true rfl, Nat.le_of_ble_eq_true rfl⟩) ⟨xB_blind, va_recv hK hP (ci := 6) rfl (xw_is (by decide) hfo), fun U hU hW => ⟨rfl, by rw [hU]; exact hP, va_K.moved hW.alike hK, va_Nw.warmM hW hN⟩⟩ rfl rfl hl.1 rfl (lv_room (Nat.le_of_ble_eq_true rfl)) dL_law_422 ⟨Nat.le_of_ble_eq_true rfl, Nat.le_of_ble_eq_true rfl⟩) hS (fun _ _ h => h) (fun _ h => h) (fun r9 g2 tZ H locs ht hvm hw hB hzZ hkZ hS => ?_)
  obtain ⟨hP, -⟩ := hB
  rw [ht] at hP
  obtain ⟨er, hM2, hf2⟩ := hw
  rw [er]
  have hC2 := hC1.frame hf2
  refine lv_icmp_eq (tgt := 821) hx hb dL_law_425 (by decide) (fun _ => ?_) (fun c9 => absurd rfl c9)
  refine lv_iinc (v := nI (i + 6)) (lv' := [(3, .int (nI (i + 6))), (0, .ref b), (1, .ref (ad 0)), (2, .ref (ad 62))]) hx hb dL_law_821 hl (k := 3) rfl (nI_add i 6) (by decide) rfl (fun ls hl => ?_)
  refine lv_goto (tgt := 18) hx hb dL_law_824 (by decide) ?_
  exact ih g2 q2 Wt2 w2 ln2 u2 T2 t2 tp2 bt2 H locs ls hC2 hM2 hs2 hP hS (lv_sub hl [1, 2, 3, 0] rfl)

set_option maxHeartbeats 4000000 in
set_option maxRecDepth 100000 in
/-- first -/
theorem lw_c8 {p : Program} {e : Env} {s : State} {m : MethodId} {below : List Frame} {meth : Method} {c : Code} (l : Launch) {b L : Nat} {xs : Nat → Int32} (hL : L ≤ 3072) (C0 : lw_At p s m meth c b L xs) {D : va_G} {cI cJ cZ cW : ClassId} {ad : Nat → Nat} (hK : va_K D vwCl (xT cI cJ cZ cW) s) (hN : va_Nw (.methodLinkNest RX4 33 yX5_power RX5) s) (hD : ∀ g, va_D (fun q : Nat => s.heap.size ≤ q) (xw 81 ad g)) {i : Nat} (hi : i + 6 ≤ L) {g : Nat → va_E} {q Wt : Nat} {w : Nat → Nat} {ln : Nat → Nat} {u : Nat → Nat → Nat} {T : Nat} {t : Nat → Nat} {tp bt : Int64} (hC : ClsI cI cJ cZ cW ad g q Wt w ln u T t tp bt) (hM : ModI cI cJ ad g q Wt w ln u T t tp bt) (hs : SrcI q Wt w ln u T t) {H : Heap} {locs : List Loc} (hP : va_P D vwCl (xw 81 ad g) H) (hS : va_S (fun q : Nat => s.heap.size ≤ q) s.heap H locs) {ls : Array Slot} (hl : lv_has ls 4 [(0, .ref b), (1, .ref (ad 0)), (2, .ref (ad 62)), (3, .int (nI (i)))]) (ih : ∀ (g : Nat → va_E) (q Wt : Nat) (w ln : Nat → Nat) (u : Nat → Nat → Nat) (T : Nat) (t : Nat → Nat) (tp bt : Int64) (H : Heap) (locs : List Loc) (ls : Array Slot), ClsI cI cJ cZ cW ad g q Wt w ln u T t tp bt → ModI cI cJ ad g q Wt w ln u T t tp bt → SrcI q Wt w ln u T t → va_P D vwCl (xw 81 ad g) H → va_S (fun q : Nat => s.heap.size ≤ q) s.heap H locs → lv_has ls 4 [(0, .ref b), (1, .ref (ad 0)), (2, .ref (ad 62)), (3, .int (nI (i + 6)))] → W p l e room_1 s m #[Value.ref b] below meth c H locs 81 34932 (lw_Z below #[Value.ref b] s) (F0 m 18 ls [])) : W p l e room_1 s m #[Value.ref b] below meth c H locs 81 34932 (lw_Z below #[Value.ref b] s) (F0 m 430 ls []) := by
  obtain ⟨hx, hb, hr, hml, hown, hts0, hX, hbl, hlocks, hgv⟩ := id C0
  have hts := fun w h => hts0 w (wsL_law_in w h)
  have hbA : ¬ (fun q : Nat => s.heap.size ≤ q) b := Nat.not_le.mpr hbl
  have hown : s.vm.findClass RL = some m.cls := hown
  have hL31 : L < 2 ^ 31 := by omega
  refine lv_aload_n hx hb dL_law_430 rfl (lv_at hl 1 rfl) ?_
  refine lv_aload_n hx hb dL_law_431 rfl (lv_at hl 0 rfl) ?_
  refine lv_iload_n hx hb dL_law_432 rfl (lv_at hl 3 rfl) ?_
  refine lv_iconst (v := nI (1)) hx hb dL_law_433 (by decide) ?_
  refine xi_add hx hb dL_law_434 ?_
  refine xs_ld hx hb hX hbl hbA hS (show i + 1 < L by omega) hL31 dL_law_435 ?_
  refine lv_aload_n hx hb dL_law_436 rfl (lv_at hl 0 rfl) ?_
  refine lv_iload_n hx hb dL_law_437 rfl (lv_at hl 3 rfl) ?_
  refine lv_iconst (v := nI (2)) hx hb dL_law_438 (by decide) ?_
  refine xi_add hx hb dL_law_439 ?_
  refine xs_ld hx hb hX hbl hbA hS (show i + 2 < L by omega) hL31 dL_law_440 ?_
  obtain ⟨r, q2, Wt2, w2, ln2, u2, T2, t2, tp2, bt2, hs2, hCc, hMm⟩ := pr_first l hD hs (tp := tp) (bt := bt) (cI := cI) (cJ := cJ) (cZ := cZ) (cW := cW) (D := D) (xs (i + 1)) (xs (i + 2))
  refine va_calli (va_runV (As := [.int (xs (i + 1)), .int (xs (i + 2))]) (rest := []) ⟨hx, hb, hml, hown, hts⟩ (hCc g hC) (cwV 2 hts gL_law_X5_first rfl rfl rfl (by decide +kernel) ⟨Nat.le_of_ble_eq_true rfl, Nat.le_of_ble_eq_true rfl⟩) ⟨xB_blind, va_recv hK hP (ci := 5) rfl (xw_is (by decide) hC.1), fun U hU hW => ⟨rfl, by rw [hU]; exact hP, va_K.moved hW.alike hK, va_Nw.warmM hW hN⟩⟩ rfl rfl hl.1 rfl (lv_room (Nat.le_of_ble_eq_true rfl)) dL_law_441 ⟨Nat.le_of_ble_eq_true rfl, Nat.le_of_ble_eq_true rfl⟩) hS (fun _ _ h => h) (fun _ h => h) (fun r9 g1 tZ H locs ht hvm hw hB hzZ hkZ hS => ?_)
  obtain ⟨hP, -⟩ := hB
  rw [ht] at hP
  obtain ⟨er, hC1, hf1⟩ := hw
  rw [er]
  have hM1 := hM.frame hf1
  refine lv_aload_n hx hb dL_law_444 rfl (lv_at hl 2 rfl) ?_
  refine lv_aload_n hx hb dL_law_445 rfl (lv_at hl 0 rfl) ?_
  refine lv_iload_n hx hb dL_law_446 rfl (lv_at hl 3 rfl) ?_
  refine lv_iconst (v := nI (1)) hx hb dL_law_447 (by decide) ?_
  refine xi_add hx hb dL_law_448 ?_
  refine xs_ld hx hb hX hbl hbA hS (show i + 1 < L by omega) hL31 dL_law_449 ?_
  refine lv_aload_n hx hb dL_law_450 rfl (lv_at hl 0 rfl) ?_
  refine lv_iload_n hx hb dL_law_451 rfl (lv_at hl 3 rfl) ?_
  refine lv_iconst (v := nI (2)) hx hb dL_law_452 (by decide) ?_
  refine xi_add hx hb dL_law_453 ?_
  refine xs_ld hx hb hX hbl hbA hS (show i + 2 < L by omega) hL31 dL_law_454 ?_
  obtain ⟨fs6, hfo⟩ := hM1.obj
  refine va_calli (va_runV (As := [.int (xs (i + 1)), .int (xs (i + 2))]) (rest := [.int r]) ⟨hx, hb, hml, hown, hts⟩ (hMm g1 hM1) (cwV 2 hts gL_law_X6_first rfl rfl rfl (by decide +kernel) ⟨Nat.le_of_ble_eq_true rfl, Nat.le_of_ble_eq_true rfl⟩) ⟨xB_blind, va_recv hK hP (ci := 6) rfl (xw_is (by decide) hfo), fun U hU hW => ⟨rfl, by rw [hU]; exact hP, va_K.moved hW.alike hK, va_Nw.warmM hW hN⟩⟩ rfl rfl hl.1 rfl (lv_room (Nat.le_of_ble_eq_true rfl)) dL_law_455 ⟨Nat.le_of_ble_eq_true rfl, Nat.le_of_ble_eq_true rfl⟩) hS (fun _ _ h => h) (fun _ h => h) (fun r9 g2 tZ H locs ht hvm hw hB hzZ hkZ hS => ?_)
  obtain ⟨hP, -⟩ := hB
  rw [ht] at hP
  obtain ⟨er, hM2, hf2⟩ := hw
  rw [er]
  have hC2 := hC1.frame hf2
  refine lv_icmp_eq (tgt := 821) hx hb dL_law_458 (by decide) (fun _ => ?_) (fun c9 => absurd rfl c9)
  refine lv_iinc (v := nI (i + 6)) (lv' := [(3, .int (nI (i + 6))), (0, .ref b), (1, .ref (ad 0)), (2, .ref (ad 62))]) hx hb dL_law_821 hl (k := 3) rfl (nI_add i 6) (by decide) rfl (fun ls hl => ?_)
  refine lv_goto (tgt := 18) hx hb dL_law_824 (by decide) ?_
  exact ih g2 q2 Wt2 w2 ln2 u2 T2 t2 tp2 bt2 H locs ls hC2 hM2 hs2 hP hS (lv_sub hl [1, 2, 3, 0] rfl)

set_option maxHeartbeats 4000000 in
set_option maxRecDepth 100000 in
/-- odds -/
theorem lw_c9 {p : Program} {e : Env} {s : State} {m : MethodId} {below : List Frame} {meth : Method} {c : Code} (l : Launch) {b L : Nat} {xs : Nat → Int32} (hL : L ≤ 3072) (C0 : lw_At p s m meth c b L xs) {D : va_G} {cI cJ cZ cW : ClassId} {ad : Nat → Nat} (hK : va_K D vwCl (xT cI cJ cZ cW) s) (hN : va_Nw (.methodLinkNest RX4 33 yX5_power RX5) s) (hD : ∀ g, va_D (fun q : Nat => s.heap.size ≤ q) (xw 81 ad g)) {i : Nat} (hi : i + 6 ≤ L) {g : Nat → va_E} {q Wt : Nat} {w : Nat → Nat} {ln : Nat → Nat} {u : Nat → Nat → Nat} {T : Nat} {t : Nat → Nat} {tp bt : Int64} (hC : ClsI cI cJ cZ cW ad g q Wt w ln u T t tp bt) (hM : ModI cI cJ ad g q Wt w ln u T t tp bt) (hs : SrcI q Wt w ln u T t) {H : Heap} {locs : List Loc} (hP : va_P D vwCl (xw 81 ad g) H) (hS : va_S (fun q : Nat => s.heap.size ≤ q) s.heap H locs) {ls : Array Slot} (hl : lv_has ls 4 [(0, .ref b), (1, .ref (ad 0)), (2, .ref (ad 62)), (3, .int (nI (i)))]) (ih : ∀ (g : Nat → va_E) (q Wt : Nat) (w ln : Nat → Nat) (u : Nat → Nat → Nat) (T : Nat) (t : Nat → Nat) (tp bt : Int64) (H : Heap) (locs : List Loc) (ls : Array Slot), ClsI cI cJ cZ cW ad g q Wt w ln u T t tp bt → ModI cI cJ ad g q Wt w ln u T t tp bt → SrcI q Wt w ln u T t → va_P D vwCl (xw 81 ad g) H → va_S (fun q : Nat => s.heap.size ≤ q) s.heap H locs → lv_has ls 4 [(0, .ref b), (1, .ref (ad 0)), (2, .ref (ad 62)), (3, .int (nI (i + 6)))] → W p l e room_1 s m #[Value.ref b] below meth c H locs 81 34932 (lw_Z below #[Value.ref b] s) (F0 m 18 ls [])) : W p l e room_1 s m #[Value.ref b] below meth c H locs 81 34932 (lw_Z below #[Value.ref b] s) (F0 m 463 ls []) := by
  obtain ⟨hx, hb, hr, hml, hown, hts0, hX, hbl, hlocks, hgv⟩ := id C0
  have hts := fun w h => hts0 w (wsL_law_in w h)
  have hbA : ¬ (fun q : Nat => s.heap.size ≤ q) b := Nat.not_le.mpr hbl
  have hown : s.vm.findClass RL = some m.cls := hown
  have hL31 : L < 2 ^ 31 := by omega
  refine lv_aload_n hx hb dL_law_463 rfl (lv_at hl 1 rfl) ?_
  refine lv_aload_n hx hb dL_law_464 rfl (lv_at hl 0 rfl) ?_
  refine lv_iload_n hx hb dL_law_465 rfl (lv_at hl 3 rfl) ?_
  refine lv_iconst (v := nI (1)) hx hb dL_law_466 (by decide) ?_
  refine xi_add hx hb dL_law_467 ?_
  refine xs_ld hx hb hX hbl hbA hS (show i + 1 < L by omega) hL31 dL_law_468 ?_
  refine lv_aload_n hx hb dL_law_469 rfl (lv_at hl 0 rfl) ?_
  refine lv_iload_n hx hb dL_law_470 rfl (lv_at hl 3 rfl) ?_
  refine lv_iconst (v := nI (2)) hx hb dL_law_471 (by decide) ?_
  refine xi_add hx hb dL_law_472 ?_
  refine xs_ld hx hb hX hbl hbA hS (show i + 2 < L by omega) hL31 dL_law_473 ?_
  obtain ⟨r, q2, Wt2, w2, ln2, u2, T2, t2, tp2, bt2, hs2, hCc, hMm⟩ := pr_odds l hD hs (tp := tp) (bt := bt) (cI := cI) (cJ := cJ) (cZ := cZ) (cW := cW) (D := D) (xs (i + 1)) (xs (i + 2))
  refine va_calli (va_runV (As := [.int (xs (i + 1)), .int (xs (i + 2))]) (rest := []) ⟨hx, hb, hml, hown, hts⟩ (hCc g hC) (cwV 2 hts gL_law_X5_odds rfl rfl rfl (by decide +kernel) ⟨Nat.le_of_ble_eq_true rfl, Nat.le_of_ble_eq_true rfl⟩) ⟨xB_blind, va_recv hK hP (ci := 5) rfl (xw_is (by decide) hC.1), fun U hU hW => ⟨rfl, by rw [hU]; exact hP, va_K.moved hW.alike hK, va_Nw.warmM hW hN⟩⟩ rfl rfl hl.1 rfl (lv_room (Nat.le_of_ble_eq_true rfl)) dL_law_474 ⟨Nat.le_of_ble_eq_true rfl, Nat.le_of_ble_eq_true rfl⟩) hS (fun _ _ h => h) (fun _ h => h) (fun r9 g1 tZ H locs ht hvm hw hB hzZ hkZ hS => ?_)
  obtain ⟨hP, -⟩ := hB
  rw [ht] at hP
  obtain ⟨er, hC1, hf1⟩ := hw
  rw [er]
  have hM1 := hM.frame hf1
  refine lv_aload_n hx hb dL_law_477 rfl (lv_at hl 2 rfl) ?_
  refine lv_aload_n hx hb dL_law_478 rfl (lv_at hl 0 rfl) ?_
  refine lv_iload_n hx hb dL_law_479 rfl (lv_at hl 3 rfl) ?_
  refine lv_iconst (v := nI (1)) hx hb dL_law_480 (by decide) ?_
  refine xi_add hx hb dL_law_481 ?_
  refine xs_ld hx hb hX hbl hbA hS (show i + 1 < L by omega) hL31 dL_law_482 ?_
  refine lv_aload_n hx hb dL_law_483 rfl (lv_at hl 0 rfl) ?_
  refine lv_iload_n hx hb dL_law_484 rfl (lv_at hl 3 rfl) ?_
  refine lv_iconst (v := nI (2)) hx hb dL_law_485 (by decide) ?_
  refine xi_add hx hb dL_law_486 ?_
  refine xs_ld hx hb hX hbl hbA hS (show i + 2 < L by omega) hL31 dL_law_487 ?_
  obtain ⟨fs6, hfo⟩ := hM1.obj
  refine va_calli (va_runV (As := [.int (xs (i + 1)), .int (xs (i + 2))]) (rest := [.int r]) ⟨hx, hb, hml, hown, hts⟩ (hMm g1 hM1) (cwV 2 hts gL_law_X6_odds rfl rfl rfl (by decide +kernel) ⟨Nat.le_of_ble_eq_true rfl, Nat.le_of_ble_eq_true rfl⟩) ⟨xB_blind, va_recv hK hP (ci := 6) rfl (xw_is (by decide) hfo), fun U hU hW => ⟨rfl, by rw [hU]; exact hP, va_K.moved hW.alike hK, va_Nw.warmM hW hN⟩⟩ rfl rfl hl.1 rfl (lv_room (Nat.le_of_ble_eq_true rfl)) dL_law_488 ⟨Nat.le_of_ble_eq_true rfl, Nat.le_of_ble_eq_true rfl⟩) hS (fun _ _ h => h) (fun _ h => h) (fun r9 g2 tZ H locs ht hvm hw hB hzZ hkZ hS => ?_)
  obtain ⟨hP, -⟩ := hB
  rw [ht] at hP
  obtain ⟨er, hM2, hf2⟩ := hw
  rw [er]
  have hC2 := hC1.frame hf2
  refine lv_icmp_eq (tgt := 821) hx hb dL_law_491 (by decide) (fun _ => ?_) (fun c9 => absurd rfl c9)
  refine lv_iinc (v := nI (i + 6)) (lv' := [(3, .int (nI (i + 6))), (0, .ref b), (1, .ref (ad 0)), (2, .ref (ad 62))]) hx hb dL_law_821 hl (k := 3) rfl (nI_add i 6) (by decide) rfl (fun ls hl => ?_)
  refine lv_goto (tgt := 18) hx hb dL_law_824 (by decide) ?_
  exact ih g2 q2 Wt2 w2 ln2 u2 T2 t2 tp2 bt2 H locs ls hC2 hM2 hs2 hP hS (lv_sub hl [1, 2, 3, 0] rfl)

set_option maxHeartbeats 4000000 in
set_option maxRecDepth 100000 in
/-- best -/
theorem lw_c10 {p : Program} {e : Env} {s : State} {m : MethodId} {below : List Frame} {meth : Method} {c : Code} (l : Launch) {b L : Nat} {xs : Nat → Int32} (hL : L ≤ 3072) (C0 : lw_At p s m meth c b L xs) {D : va_G} {cI cJ cZ cW : ClassId} {ad : Nat → Nat} (hK : va_K D vwCl (xT cI cJ cZ cW) s) (hN : va_Nw (.methodLinkNest RX4 33 yX5_power RX5) s) (hD : ∀ g, va_D (fun q : Nat => s.heap.size ≤ q) (xw 81 ad g)) {i : Nat} (hi : i + 6 ≤ L) {g : Nat → va_E} {q Wt : Nat} {w : Nat → Nat} {ln : Nat → Nat} {u : Nat → Nat → Nat} {T : Nat} {t : Nat → Nat} {tp bt : Int64} (hC : ClsI cI cJ cZ cW ad g q Wt w ln u T t tp bt) (hM : ModI cI cJ ad g q Wt w ln u T t tp bt) (hs : SrcI q Wt w ln u T t) {H : Heap} {locs : List Loc} (hP : va_P D vwCl (xw 81 ad g) H) (hS : va_S (fun q : Nat => s.heap.size ≤ q) s.heap H locs) {ls : Array Slot} (hl : lv_has ls 4 [(0, .ref b), (1, .ref (ad 0)), (2, .ref (ad 62)), (3, .int (nI (i)))]) (ih : ∀ (g : Nat → va_E) (q Wt : Nat) (w ln : Nat → Nat) (u : Nat → Nat → Nat) (T : Nat) (t : Nat → Nat) (tp bt : Int64) (H : Heap) (locs : List Loc) (ls : Array Slot), ClsI cI cJ cZ cW ad g q Wt w ln u T t tp bt → ModI cI cJ ad g q Wt w ln u T t tp bt → SrcI q Wt w ln u T t → va_P D vwCl (xw 81 ad g) H → va_S (fun q : Nat => s.heap.size ≤ q) s.heap H locs → lv_has ls 4 [(0, .ref b), (1, .ref (ad 0)), (2, .ref (ad 62)), (3, .int (nI (i + 6)))] → W p l e room_1 s m #[Value.ref b] below meth c H locs 81 34932 (lw_Z below #[Value.ref b] s) (F0 m 18 ls [])) : W p l e room_1 s m #[Value.ref b] below meth c H locs 81 34932 (lw_Z below #[Value.ref b] s) (F0 m 496 ls []) := by
  obtain ⟨hx, hb, hr, hml, hown, hts0, hX, hbl, hlocks, hgv⟩ := id C0
  have hts := fun w h => hts0 w (wsL_law_in w h)
  have hbA : ¬ (fun q : Nat => s.heap.size ≤ q) b := Nat.not_le.mpr hbl
  have hown : s.vm.findClass RL = some m.cls := hown
  have hL31 : L < 2 ^ 31 := by omega
  refine lv_aload_n hx hb dL_law_496 rfl (lv_at hl 1 rfl) ?_
  refine lv_aload_n hx hb dL_law_497 rfl (lv_at hl 0 rfl) ?_
  refine lv_iload_n hx hb dL_law_498 rfl (lv_at hl 3 rfl) ?_
  refine lv_iconst (v := nI (1)) hx hb dL_law_499 (by decide) ?_
  refine xi_add hx hb dL_law_500 ?_
  refine xs_ld hx hb hX hbl hbA hS (show i + 1 < L by omega) hL31 dL_law_501 ?_
  obtain ⟨r, q2, Wt2, w2, ln2, u2, T2, t2, tp2, bt2, hs2, hCc, hMm⟩ := pr_best l hD hs (tp := tp) (bt := bt) (cI := cI) (cJ := cJ) (cZ := cZ) (cW := cW) (D := D) (xs (i + 1))
  refine va_calli (va_runV (As := [.int (xs (i + 1))]) (rest := []) ⟨hx, hb, hml, hown, hts⟩ (hCc g hC) (cwV 1 hts gL_law_X5_best rfl rfl rfl (by decide +kernel) ⟨Nat.le_of_ble_eq_true rfl, Nat.le_of_ble_eq_true rfl⟩) ⟨xB_blind, va_recv hK hP (ci := 5) rfl (xw_is (by decide) hC.1), fun U hU hW => ⟨rfl, by rw [hU]; exact hP, va_K.moved hW.alike hK, va_Nw.warmM hW hN⟩⟩ rfl rfl hl.1 rfl (lv_room (Nat.le_of_ble_eq_true rfl)) dL_law_502 ⟨Nat.le_of_ble_eq_true rfl, Nat.le_of_ble_eq_true rfl⟩) hS (fun _ _ h => h) (fun _ h => h) (fun r9 g1 tZ H locs ht hvm hw hB hzZ hkZ hS => ?_)
  obtain ⟨hP, -⟩ := hB
  rw [ht] at hP
  obtain ⟨er, hC1, hf1⟩ := hw
  rw [er]
  have hM1 := hM.frame hf1
  refine lv_aload_n hx hb dL_law_505 rfl (lv_at hl 2 rfl) ?_
  refine lv_aload_n hx hb dL_law_506 rfl (lv_at hl 0 rfl) ?_
  refine lv_iload_n hx hb dL_law_507 rfl (lv_at hl 3 rfl) ?_
  refine lv_iconst (v := nI (1)) hx hb dL_law_508 (by decide) ?_
  refine xi_add hx hb dL_law_509 ?_
  refine xs_ld hx hb hX hbl hbA hS (show i + 1 < L by omega) hL31 dL_law_510 ?_
  obtain ⟨fs6, hfo⟩ := hM1.obj
  refine va_calli (va_runV (As := [.int (xs (i + 1))]) (rest := [.int r]) ⟨hx, hb, hml, hown, hts⟩ (hMm g1 hM1) (cwV 1 hts gL_law_X6_best rfl rfl rfl (by decide +kernel) ⟨Nat.le_of_ble_eq_true rfl, Nat.le_of_ble_eq_true rfl⟩) ⟨xB_blind, va_recv hK hP (ci := 6) rfl (xw_is (by decide) hfo), fun U hU hW => ⟨rfl, by rw [hU]; exact hP, va_K.moved hW.alike hK, va_Nw.warmM hW hN⟩⟩ rfl rfl hl.1 rfl (lv_room (Nat.le_of_ble_eq_true rfl)) dL_law_511 ⟨Nat.le_of_ble_eq_true rfl, Nat.le_of_ble_eq_true rfl⟩) hS (fun _ _ h => h) (fun _ h => h) (fun r9 g2 tZ H locs ht hvm hw hB hzZ hkZ hS => ?_)
  obtain ⟨hP, -⟩ := hB
  rw [ht] at hP
  obtain ⟨er, hM2, hf2⟩ := hw
  rw [er]
  have hC2 := hC1.frame hf2
  refine lv_icmp_eq (tgt := 821) hx hb dL_law_514 (by decide) (fun _ => ?_) (fun c9 => absurd rfl c9)
  refine lv_iinc (v := nI (i + 6)) (lv' := [(3, .int (nI (i + 6))), (0, .ref b), (1, .ref (ad 0)), (2, .ref (ad 62))]) hx hb dL_law_821 hl (k := 3) rfl (nI_add i 6) (by decide) rfl (fun ls hl => ?_)
  refine lv_goto (tgt := 18) hx hb dL_law_824 (by decide) ?_
  exact ih g2 q2 Wt2 w2 ln2 u2 T2 t2 tp2 bt2 H locs ls hC2 hM2 hs2 hP hS (lv_sub hl [1, 2, 3, 0] rfl)

set_option maxHeartbeats 4000000 in
set_option maxRecDepth 100000 in
/-- cover -/
theorem lw_c11 {p : Program} {e : Env} {s : State} {m : MethodId} {below : List Frame} {meth : Method} {c : Code} (l : Launch) {b L : Nat} {xs : Nat → Int32} (hL : L ≤ 3072) (C0 : lw_At p s m meth c b L xs) {D : va_G} {cI cJ cZ cW : ClassId} {ad : Nat → Nat} (hK : va_K D vwCl (xT cI cJ cZ cW) s) (hN : va_Nw (.methodLinkNest RX4 33 yX5_power RX5) s) (hD : ∀ g, va_D (fun q : Nat => s.heap.size ≤ q) (xw 81 ad g)) {i : Nat} (hi : i + 6 ≤ L) {g : Nat → va_E} {q Wt : Nat} {w : Nat → Nat} {ln : Nat → Nat} {u : Nat → Nat → Nat} {T : Nat} {t : Nat → Nat} {tp bt : Int64} (hC : ClsI cI cJ cZ cW ad g q Wt w ln u T t tp bt) (hM : ModI cI cJ ad g q Wt w ln u T t tp bt) (hs : SrcI q Wt w ln u T t) {H : Heap} {locs : List Loc} (hP : va_P D vwCl (xw 81 ad g) H) (hS : va_S (fun q : Nat => s.heap.size ≤ q) s.heap H locs) {ls : Array Slot} (hl : lv_has ls 4 [(0, .ref b), (1, .ref (ad 0)), (2, .ref (ad 62)), (3, .int (nI (i)))]) (ih : ∀ (g : Nat → va_E) (q Wt : Nat) (w ln : Nat → Nat) (u : Nat → Nat → Nat) (T : Nat) (t : Nat → Nat) (tp bt : Int64) (H : Heap) (locs : List Loc) (ls : Array Slot), ClsI cI cJ cZ cW ad g q Wt w ln u T t tp bt → ModI cI cJ ad g q Wt w ln u T t tp bt → SrcI q Wt w ln u T t → va_P D vwCl (xw 81 ad g) H → va_S (fun q : Nat => s.heap.size ≤ q) s.heap H locs → lv_has ls 4 [(0, .ref b), (1, .ref (ad 0)), (2, .ref (ad 62)), (3, .int (nI (i + 6)))] → W p l e room_1 s m #[Value.ref b] below meth c H locs 81 34932 (lw_Z below #[Value.ref b] s) (F0 m 18 ls [])) : W p l e room_1 s m #[Value.ref b] below meth c H locs 81 34932 (lw_Z below #[Value.ref b] s) (F0 m 519 ls []) := by
  obtain ⟨hx, hb, hr, hml, hown, hts0, hX, hbl, hlocks, hgv⟩ := id C0
  have hts := fun w h => hts0 w (wsL_law_in w h)
  have hbA : ¬ (fun q : Nat => s.heap.size ≤ q) b := Nat.not_le.mpr hbl
  have hown : s.vm.findClass RL = some m.cls := hown
  have hL31 : L < 2 ^ 31 := by omega
  refine lv_aload_n hx hb dL_law_519 rfl (lv_at hl 1 rfl) ?_
  obtain ⟨q2, Wt2, w2, ln2, u2, T2, t2, tp2, bt2, hs2, hCc, hMm⟩ := pr_cover l hD hs (tp := tp) (bt := bt) (cI := cI) (cJ := cJ) (cZ := cZ) (cW := cW) (D := D) 
  refine va_callv (va_runV (As := []) (rest := []) ⟨hx, hb, hml, hown, hts⟩ (hCc g hC) (cwV 0 hts gL_law_X5_cover rfl rfl rfl (by decide +kernel) ⟨Nat.le_of_ble_eq_true rfl, Nat.le_of_ble_eq_true rfl⟩) ⟨xB_blind, va_recv hK hP (ci := 5) rfl (xw_is (by decide) hC.1), fun U hU hW => ⟨rfl, by rw [hU]; exact hP, va_K.moved hW.alike hK, va_Nw.warmM hW hN⟩⟩ rfl rfl hl.1 rfl (lv_room (Nat.le_of_ble_eq_true rfl)) dL_law_520 ⟨Nat.le_of_ble_eq_true rfl, Nat.le_of_ble_eq_true rfl⟩) hS (fun _ _ h => h) (fun _ h => h) (fun g1 tZ H locs ht hvm hw hB hzZ hkZ hS => ?_)
  obtain ⟨hP, -⟩ := hB
  rw [ht] at hP
  obtain ⟨hC1, hf1⟩ := hw
  have hM1 := hM.frame hf1
  refine lv_aload_n hx hb dL_law_523 rfl (lv_at hl 2 rfl) ?_
  obtain ⟨fs6, hfo⟩ := hM1.obj
  refine va_callv (va_runV (As := []) (rest := []) ⟨hx, hb, hml, hown, hts⟩ (hMm g1 hM1) (cwV 0 hts gL_law_X6_cover rfl rfl rfl (by decide +kernel) ⟨Nat.le_of_ble_eq_true rfl, Nat.le_of_ble_eq_true rfl⟩) ⟨xB_blind, va_recv hK hP (ci := 6) rfl (xw_is (by decide) hfo), fun U hU hW => ⟨rfl, by rw [hU]; exact hP, va_K.moved hW.alike hK, va_Nw.warmM hW hN⟩⟩ rfl rfl hl.1 rfl (lv_room (Nat.le_of_ble_eq_true rfl)) dL_law_524 ⟨Nat.le_of_ble_eq_true rfl, Nat.le_of_ble_eq_true rfl⟩) hS (fun _ _ h => h) (fun _ h => h) (fun g2 tZ H locs ht hvm hw hB hzZ hkZ hS => ?_)
  obtain ⟨hP, -⟩ := hB
  rw [ht] at hP
  obtain ⟨hM2, hf2⟩ := hw
  have hC2 := hC1.frame hf2
  refine lv_goto (tgt := 821) hx hb dL_law_527 (by decide) ?_
  refine lv_iinc (v := nI (i + 6)) (lv' := [(3, .int (nI (i + 6))), (0, .ref b), (1, .ref (ad 0)), (2, .ref (ad 62))]) hx hb dL_law_821 hl (k := 3) rfl (nI_add i 6) (by decide) rfl (fun ls hl => ?_)
  refine lv_goto (tgt := 18) hx hb dL_law_824 (by decide) ?_
  exact ih g2 q2 Wt2 w2 ln2 u2 T2 t2 tp2 bt2 H locs ls hC2 hM2 hs2 hP hS (lv_sub hl [1, 2, 3, 0] rfl)
