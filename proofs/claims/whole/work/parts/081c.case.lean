set_option maxHeartbeats 4000000 in
set_option maxRecDepth 100000 in
/-- won -/
theorem lw_c12 {p : Program} {e : Env} {s : State} {m : MethodId} {below : List Frame} {meth : Method} {c : Code} (l : Launch) {b L : Nat} {xs : Nat → Int32} (hL : L ≤ 3072) (C0 : lw_At p s m meth c b L xs) {D : va_G} {cI cJ cZ cW : ClassId} {ad : Nat → Nat} (hK : va_K D vwCl (xT cI cJ cZ cW) s) (hN : va_Nw (.methodLinkNest RX4 33 yX5_power RX5) s) (hD : ∀ g, va_D (fun q : Nat => s.heap.size ≤ q) (xw 81 ad g)) {i : Nat} (hi : i + 6 ≤ L) {g : Nat → va_E} {q Wt : Nat} {w : Nat → Nat} {ln : Nat → Nat} {u : Nat → Nat → Nat} {T : Nat} {t : Nat → Nat} {tp bt : Int64} (hC : ClsI cI cJ cZ cW ad g q Wt w ln u T t tp bt) (hM : ModI cI cJ ad g q Wt w ln u T t tp bt) (hs : SrcI q Wt w ln u T t) {H : Heap} {locs : List Loc} (hP : va_P D vwCl (xw 81 ad g) H) (hS : va_S (fun q : Nat => s.heap.size ≤ q) s.heap H locs) {ls : Array Slot} (hl : lv_has ls 4 [(0, .ref b), (1, .ref (ad 0)), (2, .ref (ad 62)), (3, .int (nI (i)))]) (ih : ∀ (g : Nat → va_E) (q Wt : Nat) (w ln : Nat → Nat) (u : Nat → Nat → Nat) (T : Nat) (t : Nat → Nat) (tp bt : Int64) (H : Heap) (locs : List Loc) (ls : Array Slot), ClsI cI cJ cZ cW ad g q Wt w ln u T t tp bt → ModI cI cJ ad g q Wt w ln u T t tp bt → SrcI q Wt w ln u T t → va_P D vwCl (xw 81 ad g) H → va_S (fun q : Nat => s.heap.size ≤ q) s.heap H locs → lv_has ls 4 [(0, .ref b), (1, .ref (ad 0)), (2, .ref (ad 62)), (3, .int (nI (i + 6)))] → W p l e room_1 s m #[Value.ref b] below meth c H locs 81 34932 (lw_Z below #[Value.ref b] s) (F0 m 18 ls [])) : W p l e room_1 s m #[Value.ref b] below meth c H locs 81 34932 (lw_Z below #[Value.ref b] s) (F0 m 530 ls []) := by
  obtain ⟨hx, hb, hr, hml, hown, hts0, hX, hbl, hlocks, hgv⟩ := id C0
  have hts := fun w h => hts0 w (wsL_law_in w h)
  have hbA : ¬ (fun q : Nat => s.heap.size ≤ q) b := Nat.not_le.mpr hbl
  have hown : s.vm.findClass RL = some m.cls := hown
  have hL31 : L < 2 ^ 31 := by omega
  refine lv_aload_n hx hb dL_law_530 rfl (lv_at hl 1 rfl) ?_
  refine lv_aload_n hx hb dL_law_531 rfl (lv_at hl 0 rfl) ?_
  refine lv_iload_n hx hb dL_law_532 rfl (lv_at hl 3 rfl) ?_
  refine lv_iconst (v := nI (1)) hx hb dL_law_533 (by decide) ?_
  refine xi_add hx hb dL_law_534 ?_
  refine xs_ld hx hb hX hbl hbA hS (show i + 1 < L by omega) hL31 dL_law_535 ?_
  obtain ⟨r, q2, Wt2, w2, ln2, u2, T2, t2, tp2, bt2, hs2, hCc, hMm⟩ := pr_won l hD hs (tp := tp) (bt := bt) (cI := cI) (cJ := cJ) (cZ := cZ) (cW := cW) (D := D) (xs (i + 1))
  refine va_calli (va_runV (As := [.int (xs (i + 1))]) (rest := []) ⟨hx, hb, hml, hown, hts⟩ (hCc g hC) (cwV 1 hts gL_law_X5_won rfl rfl rfl (by decide +kernel) ⟨Nat.le_of_ble_eq_true rfl, Nat.le_of_ble_eq_true rfl⟩) ⟨xB_blind, va_recv hK hP (ci := 5) rfl (xw_is (by decide) hC.1), fun U hU hW => ⟨rfl, by rw [hU]; exact hP, va_K.moved hW.alike hK, va_Nw.warmM hW hN⟩⟩ rfl rfl hl.1 rfl (lv_room (Nat.le_of_ble_eq_true rfl)) dL_law_536 ⟨Nat.le_of_ble_eq_true rfl, Nat.le_of_ble_eq_true rfl⟩) hS (fun _ _ h => h) (fun _ h => h) (fun r9 g1 tZ H locs ht hvm hw hB hzZ hkZ hS => ?_)
  obtain ⟨hP, -⟩ := hB
  rw [ht] at hP
  obtain ⟨er, hC1, hf1⟩ := hw
  rw [er]
  have hM1 := hM.frame hf1
  refine lv_aload_n hx hb dL_law_539 rfl (lv_at hl 2 rfl) ?_
  refine lv_aload_n hx hb dL_law_540 rfl (lv_at hl 0 rfl) ?_
  refine lv_iload_n hx hb dL_law_541 rfl (lv_at hl 3 rfl) ?_
  refine lv_iconst (v := nI (1)) hx hb dL_law_542 (by decide) ?_
  refine xi_add hx hb dL_law_543 ?_
  refine xs_ld hx hb hX hbl hbA hS (show i + 1 < L by omega) hL31 dL_law_544 ?_
  obtain ⟨fs6, hfo⟩ := hM1.obj
  refine va_calli (va_runV (As := [.int (xs (i + 1))]) (rest := [.int r]) ⟨hx, hb, hml, hown, hts⟩ (hMm g1 hM1) (cwV 1 hts gL_law_X6_won rfl rfl rfl (by decide +kernel) ⟨Nat.le_of_ble_eq_true rfl, Nat.le_of_ble_eq_true rfl⟩) ⟨xB_blind, va_recv hK hP (ci := 6) rfl (xw_is (by decide) hfo), fun U hU hW => ⟨rfl, by rw [hU]; exact hP, va_K.moved hW.alike hK, va_Nw.warmM hW hN⟩⟩ rfl rfl hl.1 rfl (lv_room (Nat.le_of_ble_eq_true rfl)) dL_law_545 ⟨Nat.le_of_ble_eq_true rfl, Nat.le_of_ble_eq_true rfl⟩) hS (fun _ _ h => h) (fun _ h => h) (fun r9 g2 tZ H locs ht hvm hw hB hzZ hkZ hS => ?_)
  obtain ⟨hP, -⟩ := hB
  rw [ht] at hP
  obtain ⟨er, hM2, hf2⟩ := hw
  rw [er]
  have hC2 := hC1.frame hf2
  refine lv_icmp_eq (tgt := 821) hx hb dL_law_548 (by decide) (fun _ => ?_) (fun c9 => absurd rfl c9)
  refine lv_iinc (v := nI (i + 6)) (lv' := [(3, .int (nI (i + 6))), (0, .ref b), (1, .ref (ad 0)), (2, .ref (ad 62))]) hx hb dL_law_821 hl (k := 3) rfl (nI_add i 6) (by decide) rfl (fun ls hl => ?_)
  refine lv_goto (tgt := 18) hx hb dL_law_824 (by decide) ?_
  exact ih g2 q2 Wt2 w2 ln2 u2 T2 t2 tp2 bt2 H locs ls hC2 hM2 hs2 hP hS (lv_sub hl [1, 2, 3, 0] rfl)

set_option maxHeartbeats 4000000 in
set_option maxRecDepth 100000 in
/-- top -/
theorem lw_c13 {p : Program} {e : Env} {s : State} {m : MethodId} {below : List Frame} {meth : Method} {c : Code} (l : Launch) {b L : Nat} {xs : Nat → Int32} (hL : L ≤ 3072) (C0 : lw_At p s m meth c b L xs) {D : va_G} {cI cJ cZ cW : ClassId} {ad : Nat → Nat} (hK : va_K D vwCl (xT cI cJ cZ cW) s) (hN : va_Nw (.methodLinkNest RX4 33 yX5_power RX5) s) (hD : ∀ g, va_D (fun q : Nat => s.heap.size ≤ q) (xw 81 ad g)) {i : Nat} (hi : i + 6 ≤ L) {g : Nat → va_E} {q Wt : Nat} {w : Nat → Nat} {ln : Nat → Nat} {u : Nat → Nat → Nat} {T : Nat} {t : Nat → Nat} {tp bt : Int64} (hC : ClsI cI cJ cZ cW ad g q Wt w ln u T t tp bt) (hM : ModI cI cJ ad g q Wt w ln u T t tp bt) (hs : SrcI q Wt w ln u T t) {H : Heap} {locs : List Loc} (hP : va_P D vwCl (xw 81 ad g) H) (hS : va_S (fun q : Nat => s.heap.size ≤ q) s.heap H locs) {ls : Array Slot} (hl : lv_has ls 4 [(0, .ref b), (1, .ref (ad 0)), (2, .ref (ad 62)), (3, .int (nI (i)))]) (ih : ∀ (g : Nat → va_E) (q Wt : Nat) (w ln : Nat → Nat) (u : Nat → Nat → Nat) (T : Nat) (t : Nat → Nat) (tp bt : Int64) (H : Heap) (locs : List Loc) (ls : Array Slot), ClsI cI cJ cZ cW ad g q Wt w ln u T t tp bt → ModI cI cJ ad g q Wt w ln u T t tp bt → SrcI q Wt w ln u T t → va_P D vwCl (xw 81 ad g) H → va_S (fun q : Nat => s.heap.size ≤ q) s.heap H locs → lv_has ls 4 [(0, .ref b), (1, .ref (ad 0)), (2, .ref (ad 62)), (3, .int (nI (i + 6)))] → W p l e room_1 s m #[Value.ref b] below meth c H locs 81 34932 (lw_Z below #[Value.ref b] s) (F0 m 18 ls [])) : W p l e room_1 s m #[Value.ref b] below meth c H locs 81 34932 (lw_Z below #[Value.ref b] s) (F0 m 553 ls []) := by
  obtain ⟨hx, hb, hr, hml, hown, hts0, hX, hbl, hlocks, hgv⟩ := id C0
  have hts := fun w h => hts0 w (wsL_law_in w h)
  have hbA : ¬ (fun q : Nat => s.heap.size ≤ q) b := Nat.not_le.mpr hbl
  have hown : s.vm.findClass RL = some m.cls := hown
  have hL31 : L < 2 ^ 31 := by omega
  refine lv_aload_n hx hb dL_law_553 rfl (lv_at hl 1 rfl) ?_
  obtain ⟨r, hCc, hMm⟩ := pr_top l hD hs (tp := tp) (bt := bt) (cI := cI) (cJ := cJ) (cZ := cZ) (cW := cW) (D := D) 
  refine vp_callSl (va_Run.run (va_runV (As := []) (rest := []) ⟨hx, hb, hml, hown, hts⟩ (hCc g hC) (cwV 0 hts gL_law_X5_top rfl rfl rfl (by decide +kernel) ⟨Nat.le_of_ble_eq_true rfl, Nat.le_of_ble_eq_true rfl⟩) ⟨xB_blind, va_recv hK hP (ci := 5) rfl (xw_is (by decide) hC.1), fun U hU hW => ⟨rfl, by rw [hU]; exact hP, va_K.moved hW.alike hK, va_Nw.warmM hW hN⟩⟩ rfl rfl hl.1 rfl (lv_room (Nat.le_of_ble_eq_true rfl)) dL_law_554 ⟨Nat.le_of_ble_eq_true rfl, Nat.le_of_ble_eq_true rfl⟩)) (fun r9 er9 => ?_)
  rw [er9]
  refine lv_aload_n hx hb dL_law_557 rfl (lv_at hl 2 rfl) ?_
  obtain ⟨fs6, hfo⟩ := hM.obj
  refine vp_callSl (va_Run.run (va_runV (As := []) (rest := [.long r]) ⟨hx, hb, hml, hown, hts⟩ (hMm g hM) (cwV 0 hts gL_law_X6_top rfl rfl rfl (by decide +kernel) ⟨Nat.le_of_ble_eq_true rfl, Nat.le_of_ble_eq_true rfl⟩) ⟨xB_blind, va_recv hK hP (ci := 6) rfl (xw_is (by decide) hfo), fun U hU hW => ⟨rfl, by rw [hU]; exact hP, va_K.moved hW.alike hK, va_Nw.warmM hW hN⟩⟩ rfl rfl hl.1 rfl (lv_room (Nat.le_of_ble_eq_true rfl)) dL_law_558 ⟨Nat.le_of_ble_eq_true rfl, Nat.le_of_ble_eq_true rfl⟩)) (fun r9 er9 => ?_)
  rw [er9]
  refine xr_cmp_eq (tgt := 821) hx hb dL_law_561 dL_law_562 (by decide) (fun _ => ?_) (fun c9 => absurd rfl c9)
  refine lv_iinc (v := nI (i + 6)) (lv' := [(3, .int (nI (i + 6))), (0, .ref b), (1, .ref (ad 0)), (2, .ref (ad 62))]) hx hb dL_law_821 hl (k := 3) rfl (nI_add i 6) (by decide) rfl (fun ls hl => ?_)
  refine lv_goto (tgt := 18) hx hb dL_law_824 (by decide) ?_
  exact ih g q Wt w ln u T t tp bt H locs ls hC hM hs hP hS (lv_sub hl [1, 2, 3, 0] rfl)

set_option maxHeartbeats 4000000 in
set_option maxRecDepth 100000 in
/-- bottom -/
theorem lw_c14 {p : Program} {e : Env} {s : State} {m : MethodId} {below : List Frame} {meth : Method} {c : Code} (l : Launch) {b L : Nat} {xs : Nat → Int32} (hL : L ≤ 3072) (C0 : lw_At p s m meth c b L xs) {D : va_G} {cI cJ cZ cW : ClassId} {ad : Nat → Nat} (hK : va_K D vwCl (xT cI cJ cZ cW) s) (hN : va_Nw (.methodLinkNest RX4 33 yX5_power RX5) s) (hD : ∀ g, va_D (fun q : Nat => s.heap.size ≤ q) (xw 81 ad g)) {i : Nat} (hi : i + 6 ≤ L) {g : Nat → va_E} {q Wt : Nat} {w : Nat → Nat} {ln : Nat → Nat} {u : Nat → Nat → Nat} {T : Nat} {t : Nat → Nat} {tp bt : Int64} (hC : ClsI cI cJ cZ cW ad g q Wt w ln u T t tp bt) (hM : ModI cI cJ ad g q Wt w ln u T t tp bt) (hs : SrcI q Wt w ln u T t) {H : Heap} {locs : List Loc} (hP : va_P D vwCl (xw 81 ad g) H) (hS : va_S (fun q : Nat => s.heap.size ≤ q) s.heap H locs) {ls : Array Slot} (hl : lv_has ls 4 [(0, .ref b), (1, .ref (ad 0)), (2, .ref (ad 62)), (3, .int (nI (i)))]) (ih : ∀ (g : Nat → va_E) (q Wt : Nat) (w ln : Nat → Nat) (u : Nat → Nat → Nat) (T : Nat) (t : Nat → Nat) (tp bt : Int64) (H : Heap) (locs : List Loc) (ls : Array Slot), ClsI cI cJ cZ cW ad g q Wt w ln u T t tp bt → ModI cI cJ ad g q Wt w ln u T t tp bt → SrcI q Wt w ln u T t → va_P D vwCl (xw 81 ad g) H → va_S (fun q : Nat => s.heap.size ≤ q) s.heap H locs → lv_has ls 4 [(0, .ref b), (1, .ref (ad 0)), (2, .ref (ad 62)), (3, .int (nI (i + 6)))] → W p l e room_1 s m #[Value.ref b] below meth c H locs 81 34932 (lw_Z below #[Value.ref b] s) (F0 m 18 ls [])) : W p l e room_1 s m #[Value.ref b] below meth c H locs 81 34932 (lw_Z below #[Value.ref b] s) (F0 m 567 ls []) := by
  obtain ⟨hx, hb, hr, hml, hown, hts0, hX, hbl, hlocks, hgv⟩ := id C0
  have hts := fun w h => hts0 w (wsL_law_in w h)
  have hbA : ¬ (fun q : Nat => s.heap.size ≤ q) b := Nat.not_le.mpr hbl
  have hown : s.vm.findClass RL = some m.cls := hown
  have hL31 : L < 2 ^ 31 := by omega
  refine lv_aload_n hx hb dL_law_567 rfl (lv_at hl 1 rfl) ?_
  obtain ⟨r, hCc, hMm⟩ := pr_bottom l hD hs (tp := tp) (bt := bt) (cI := cI) (cJ := cJ) (cZ := cZ) (cW := cW) (D := D) 
  refine vp_callSl (va_Run.run (va_runV (As := []) (rest := []) ⟨hx, hb, hml, hown, hts⟩ (hCc g hC) (cwV 0 hts gL_law_X5_bottom rfl rfl rfl (by decide +kernel) ⟨Nat.le_of_ble_eq_true rfl, Nat.le_of_ble_eq_true rfl⟩) ⟨xB_blind, va_recv hK hP (ci := 5) rfl (xw_is (by decide) hC.1), fun U hU hW => ⟨rfl, by rw [hU]; exact hP, va_K.moved hW.alike hK, va_Nw.warmM hW hN⟩⟩ rfl rfl hl.1 rfl (lv_room (Nat.le_of_ble_eq_true rfl)) dL_law_568 ⟨Nat.le_of_ble_eq_true rfl, Nat.le_of_ble_eq_true rfl⟩)) (fun r9 er9 => ?_)
  rw [er9]
  refine lv_aload_n hx hb dL_law_571 rfl (lv_at hl 2 rfl) ?_
  obtain ⟨fs6, hfo⟩ := hM.obj
  refine vp_callSl (va_Run.run (va_runV (As := []) (rest := [.long r]) ⟨hx, hb, hml, hown, hts⟩ (hMm g hM) (cwV 0 hts gL_law_X6_bottom rfl rfl rfl (by decide +kernel) ⟨Nat.le_of_ble_eq_true rfl, Nat.le_of_ble_eq_true rfl⟩) ⟨xB_blind, va_recv hK hP (ci := 6) rfl (xw_is (by decide) hfo), fun U hU hW => ⟨rfl, by rw [hU]; exact hP, va_K.moved hW.alike hK, va_Nw.warmM hW hN⟩⟩ rfl rfl hl.1 rfl (lv_room (Nat.le_of_ble_eq_true rfl)) dL_law_572 ⟨Nat.le_of_ble_eq_true rfl, Nat.le_of_ble_eq_true rfl⟩)) (fun r9 er9 => ?_)
  rw [er9]
  refine xr_cmp_eq (tgt := 821) hx hb dL_law_575 dL_law_576 (by decide) (fun _ => ?_) (fun c9 => absurd rfl c9)
  refine lv_iinc (v := nI (i + 6)) (lv' := [(3, .int (nI (i + 6))), (0, .ref b), (1, .ref (ad 0)), (2, .ref (ad 62))]) hx hb dL_law_821 hl (k := 3) rfl (nI_add i 6) (by decide) rfl (fun ls hl => ?_)
  refine lv_goto (tgt := 18) hx hb dL_law_824 (by decide) ?_
  exact ih g q Wt w ln u T t tp bt H locs ls hC hM hs hP hS (lv_sub hl [1, 2, 3, 0] rfl)

set_option maxHeartbeats 4000000 in
set_option maxRecDepth 100000 in
/-- times -/
theorem lw_c15 {p : Program} {e : Env} {s : State} {m : MethodId} {below : List Frame} {meth : Method} {c : Code} (l : Launch) {b L : Nat} {xs : Nat → Int32} (hL : L ≤ 3072) (C0 : lw_At p s m meth c b L xs) {D : va_G} {cI cJ cZ cW : ClassId} {ad : Nat → Nat} (hK : va_K D vwCl (xT cI cJ cZ cW) s) (hN : va_Nw (.methodLinkNest RX4 33 yX5_power RX5) s) (hD : ∀ g, va_D (fun q : Nat => s.heap.size ≤ q) (xw 81 ad g)) {i : Nat} (hi : i + 6 ≤ L) {g : Nat → va_E} {q Wt : Nat} {w : Nat → Nat} {ln : Nat → Nat} {u : Nat → Nat → Nat} {T : Nat} {t : Nat → Nat} {tp bt : Int64} (hC : ClsI cI cJ cZ cW ad g q Wt w ln u T t tp bt) (hM : ModI cI cJ ad g q Wt w ln u T t tp bt) (hs : SrcI q Wt w ln u T t) {H : Heap} {locs : List Loc} (hP : va_P D vwCl (xw 81 ad g) H) (hS : va_S (fun q : Nat => s.heap.size ≤ q) s.heap H locs) {ls : Array Slot} (hl : lv_has ls 4 [(0, .ref b), (1, .ref (ad 0)), (2, .ref (ad 62)), (3, .int (nI (i)))]) (ih : ∀ (g : Nat → va_E) (q Wt : Nat) (w ln : Nat → Nat) (u : Nat → Nat → Nat) (T : Nat) (t : Nat → Nat) (tp bt : Int64) (H : Heap) (locs : List Loc) (ls : Array Slot), ClsI cI cJ cZ cW ad g q Wt w ln u T t tp bt → ModI cI cJ ad g q Wt w ln u T t tp bt → SrcI q Wt w ln u T t → va_P D vwCl (xw 81 ad g) H → va_S (fun q : Nat => s.heap.size ≤ q) s.heap H locs → lv_has ls 4 [(0, .ref b), (1, .ref (ad 0)), (2, .ref (ad 62)), (3, .int (nI (i + 6)))] → W p l e room_1 s m #[Value.ref b] below meth c H locs 81 34932 (lw_Z below #[Value.ref b] s) (F0 m 18 ls [])) : W p l e room_1 s m #[Value.ref b] below meth c H locs 81 34932 (lw_Z below #[Value.ref b] s) (F0 m 581 ls []) := by
  obtain ⟨hx, hb, hr, hml, hown, hts0, hX, hbl, hlocks, hgv⟩ := id C0
  have hts := fun w h => hts0 w (wsL_law_in w h)
  have hbA : ¬ (fun q : Nat => s.heap.size ≤ q) b := Nat.not_le.mpr hbl
  have hown : s.vm.findClass RL = some m.cls := hown
  have hL31 : L < 2 ^ 31 := by omega
  refine lv_aload_n hx hb dL_law_581 rfl (lv_at hl 1 rfl) ?_
  refine lv_aload_n hx hb dL_law_582 rfl (lv_at hl 0 rfl) ?_
  refine lv_iload_n hx hb dL_law_583 rfl (lv_at hl 3 rfl) ?_
  refine lv_iconst (v := nI (1)) hx hb dL_law_584 (by decide) ?_
  refine xi_add hx hb dL_law_585 ?_
  refine xs_ld hx hb hX hbl hbA hS (show i + 1 < L by omega) hL31 dL_law_586 ?_
  refine lv_aload_n hx hb dL_law_587 rfl (lv_at hl 0 rfl) ?_
  refine lv_iload_n hx hb dL_law_588 rfl (lv_at hl 3 rfl) ?_
  refine lv_iconst (v := nI (2)) hx hb dL_law_589 (by decide) ?_
  refine xi_add hx hb dL_law_590 ?_
  refine xs_ld hx hb hX hbl hbA hS (show i + 2 < L by omega) hL31 dL_law_591 ?_
  refine lv_aload_n hx hb dL_law_592 rfl (lv_at hl 0 rfl) ?_
  refine lv_iload_n hx hb dL_law_593 rfl (lv_at hl 3 rfl) ?_
  refine lv_iconst (v := nI (3)) hx hb dL_law_594 (by decide) ?_
  refine xi_add hx hb dL_law_595 ?_
  refine xs_ld hx hb hX hbl hbA hS (show i + 3 < L by omega) hL31 dL_law_596 ?_
  refine lv_aload_n hx hb dL_law_597 rfl (lv_at hl 0 rfl) ?_
  refine lv_iload_n hx hb dL_law_598 rfl (lv_at hl 3 rfl) ?_
  refine lv_iconst (v := nI (4)) hx hb dL_law_599 (by decide) ?_
  refine xi_add hx hb dL_law_600 ?_
  refine xs_ld hx hb hX hbl hbA hS (show i + 4 < L by omega) hL31 dL_law_601 ?_
  refine lv_if_eq hx hb dL_law_602 (tgt := 609) (by decide) (fun c9 => ?_) (fun c9 => ?_)
  · refine lv_iconst (v := nI (0)) hx hb dL_law_609 (by decide) ?_
    obtain ⟨r, q2, Wt2, w2, ln2, u2, T2, t2, tp2, bt2, hs2, hCc, hMm⟩ := pr_times l hD hs (tp := tp) (bt := bt) (cI := cI) (cJ := cJ) (cZ := cZ) (cW := cW) (D := D) (xs (i + 1)) (xs (i + 2)) (xs (i + 3)) (b := 0) (by decide)
    refine va_calll (va_runV (As := [.int (xs (i + 1)), .int (xs (i + 2)), .int (xs (i + 3)), .int (nI 0)]) (rest := []) ⟨hx, hb, hml, hown, hts⟩ (hCc g hC) (cwV 4 hts gL_law_X5_times rfl rfl rfl (by decide +kernel) ⟨Nat.le_of_ble_eq_true rfl, Nat.le_of_ble_eq_true rfl⟩) ⟨xB_blind, va_recv hK hP (ci := 5) rfl (xw_is (by decide) hC.1), fun U hU hW => ⟨rfl, by rw [hU]; exact hP, va_K.moved hW.alike hK, va_Nw.warmM hW hN⟩⟩ rfl rfl hl.1 rfl (lv_room (Nat.le_of_ble_eq_true rfl)) dL_law_610 ⟨Nat.le_of_ble_eq_true rfl, Nat.le_of_ble_eq_true rfl⟩) hS (fun _ _ h => h) (fun _ h => h) (fun r9 g1 tZ H locs ht hvm hw hB hzZ hkZ hS => ?_)
    obtain ⟨hP, -⟩ := hB
    rw [ht] at hP
    obtain ⟨er, hC1, hf1⟩ := hw
    rw [er]
    have hM1 := hM.frame hf1
    refine lv_aload_n hx hb dL_law_613 rfl (lv_at hl 2 rfl) ?_
    refine lv_aload_n hx hb dL_law_614 rfl (lv_at hl 0 rfl) ?_
    refine lv_iload_n hx hb dL_law_615 rfl (lv_at hl 3 rfl) ?_
    refine lv_iconst (v := nI (1)) hx hb dL_law_616 (by decide) ?_
    refine xi_add hx hb dL_law_617 ?_
    refine xs_ld hx hb hX hbl hbA hS (show i + 1 < L by omega) hL31 dL_law_618 ?_
    refine lv_aload_n hx hb dL_law_619 rfl (lv_at hl 0 rfl) ?_
    refine lv_iload_n hx hb dL_law_620 rfl (lv_at hl 3 rfl) ?_
    refine lv_iconst (v := nI (2)) hx hb dL_law_621 (by decide) ?_
    refine xi_add hx hb dL_law_622 ?_
    refine xs_ld hx hb hX hbl hbA hS (show i + 2 < L by omega) hL31 dL_law_623 ?_
    refine lv_aload_n hx hb dL_law_624 rfl (lv_at hl 0 rfl) ?_
    refine lv_iload_n hx hb dL_law_625 rfl (lv_at hl 3 rfl) ?_
    refine lv_iconst (v := nI (3)) hx hb dL_law_626 (by decide) ?_
    refine xi_add hx hb dL_law_627 ?_
    refine xs_ld hx hb hX hbl hbA hS (show i + 3 < L by omega) hL31 dL_law_628 ?_
    refine lv_aload_n hx hb dL_law_629 rfl (lv_at hl 0 rfl) ?_
    refine lv_iload_n hx hb dL_law_630 rfl (lv_at hl 3 rfl) ?_
    refine lv_iconst (v := nI (4)) hx hb dL_law_631 (by decide) ?_
    refine xi_add hx hb dL_law_632 ?_
    refine xs_ld hx hb hX hbl hbA hS (show i + 4 < L by omega) hL31 dL_law_633 ?_
    refine lv_if_eq hx hb dL_law_634 (tgt := 641) (by decide) (fun _ => ?_) (fun c8 => absurd c9 c8)
    refine lv_iconst (v := nI (0)) hx hb dL_law_641 (by decide) ?_
    obtain ⟨fs6, hfo⟩ := hM1.obj
    refine va_calll (va_runV (As := [.int (xs (i + 1)), .int (xs (i + 2)), .int (xs (i + 3)), .int (nI 0)]) (rest := [.long r]) ⟨hx, hb, hml, hown, hts⟩ (hMm g1 hM1) (cwV 4 hts gL_law_X6_times_ rfl rfl rfl (by decide +kernel) ⟨Nat.le_of_ble_eq_true rfl, Nat.le_of_ble_eq_true rfl⟩) ⟨xB_blind, va_recv hK hP (ci := 6) rfl (xw_is (by decide) hfo), fun U hU hW => ⟨rfl, by rw [hU]; exact hP, va_K.moved hW.alike hK, va_Nw.warmM hW hN⟩⟩ rfl rfl hl.1 rfl (lv_room (Nat.le_of_ble_eq_true rfl)) dL_law_642 ⟨Nat.le_of_ble_eq_true rfl, Nat.le_of_ble_eq_true rfl⟩) hS (fun _ _ h => h) (fun _ h => h) (fun r9 g2 tZ H locs ht hvm hw hB hzZ hkZ hS => ?_)
    obtain ⟨hP, -⟩ := hB
    rw [ht] at hP
    obtain ⟨er, hM2, hf2⟩ := hw
    rw [er]
    have hC2 := hC1.frame hf2
    refine xr_cmp_eq (tgt := 821) hx hb dL_law_645 dL_law_646 (by decide) (fun _ => ?_) (fun c9 => absurd rfl c9)
    refine lv_iinc (v := nI (i + 6)) (lv' := [(3, .int (nI (i + 6))), (0, .ref b), (1, .ref (ad 0)), (2, .ref (ad 62))]) hx hb dL_law_821 hl (k := 3) rfl (nI_add i 6) (by decide) rfl (fun ls hl => ?_)
    refine lv_goto (tgt := 18) hx hb dL_law_824 (by decide) ?_
    exact ih g2 q2 Wt2 w2 ln2 u2 T2 t2 tp2 bt2 H locs ls hC2 hM2 hs2 hP hS (lv_sub hl [1, 2, 3, 0] rfl)
  · refine lv_iconst (v := nI (1)) hx hb dL_law_605 (by decide) ?_
    refine lv_goto (tgt := 610) hx hb dL_law_606 (by decide) ?_
    obtain ⟨r, q2, Wt2, w2, ln2, u2, T2, t2, tp2, bt2, hs2, hCc, hMm⟩ := pr_times l hD hs (tp := tp) (bt := bt) (cI := cI) (cJ := cJ) (cZ := cZ) (cW := cW) (D := D) (xs (i + 1)) (xs (i + 2)) (xs (i + 3)) (b := 1) (by decide)
    refine va_calll (va_runV (As := [.int (xs (i + 1)), .int (xs (i + 2)), .int (xs (i + 3)), .int (nI 1)]) (rest := []) ⟨hx, hb, hml, hown, hts⟩ (hCc g hC) (cwV 4 hts gL_law_X5_times rfl rfl rfl (by decide +kernel) ⟨Nat.le_of_ble_eq_true rfl, Nat.le_of_ble_eq_true rfl⟩) ⟨xB_blind, va_recv hK hP (ci := 5) rfl (xw_is (by decide) hC.1), fun U hU hW => ⟨rfl, by rw [hU]; exact hP, va_K.moved hW.alike hK, va_Nw.warmM hW hN⟩⟩ rfl rfl hl.1 rfl (lv_room (Nat.le_of_ble_eq_true rfl)) dL_law_610 ⟨Nat.le_of_ble_eq_true rfl, Nat.le_of_ble_eq_true rfl⟩) hS (fun _ _ h => h) (fun _ h => h) (fun r9 g1 tZ H locs ht hvm hw hB hzZ hkZ hS => ?_)
    obtain ⟨hP, -⟩ := hB
    rw [ht] at hP
    obtain ⟨er, hC1, hf1⟩ := hw
    rw [er]
    have hM1 := hM.frame hf1
    refine lv_aload_n hx hb dL_law_613 rfl (lv_at hl 2 rfl) ?_
    refine lv_aload_n hx hb dL_law_614 rfl (lv_at hl 0 rfl) ?_
    refine lv_iload_n hx hb dL_law_615 rfl (lv_at hl 3 rfl) ?_
    refine lv_iconst (v := nI (1)) hx hb dL_law_616 (by decide) ?_
    refine xi_add hx hb dL_law_617 ?_
    refine xs_ld hx hb hX hbl hbA hS (show i + 1 < L by omega) hL31 dL_law_618 ?_
    refine lv_aload_n hx hb dL_law_619 rfl (lv_at hl 0 rfl) ?_
    refine lv_iload_n hx hb dL_law_620 rfl (lv_at hl 3 rfl) ?_
    refine lv_iconst (v := nI (2)) hx hb dL_law_621 (by decide) ?_
    refine xi_add hx hb dL_law_622 ?_
    refine xs_ld hx hb hX hbl hbA hS (show i + 2 < L by omega) hL31 dL_law_623 ?_
    refine lv_aload_n hx hb dL_law_624 rfl (lv_at hl 0 rfl) ?_
    refine lv_iload_n hx hb dL_law_625 rfl (lv_at hl 3 rfl) ?_
    refine lv_iconst (v := nI (3)) hx hb dL_law_626 (by decide) ?_
    refine xi_add hx hb dL_law_627 ?_
    refine xs_ld hx hb hX hbl hbA hS (show i + 3 < L by omega) hL31 dL_law_628 ?_
    refine lv_aload_n hx hb dL_law_629 rfl (lv_at hl 0 rfl) ?_
    refine lv_iload_n hx hb dL_law_630 rfl (lv_at hl 3 rfl) ?_
    refine lv_iconst (v := nI (4)) hx hb dL_law_631 (by decide) ?_
    refine xi_add hx hb dL_law_632 ?_
    refine xs_ld hx hb hX hbl hbA hS (show i + 4 < L by omega) hL31 dL_law_633 ?_
    refine lv_if_eq hx hb dL_law_634 (tgt := 641) (by decide) (fun c8 => absurd c8 c9) (fun _ => ?_)
    refine lv_iconst (v := nI (1)) hx hb dL_law_637 (by decide) ?_
    refine lv_goto (tgt := 642) hx hb dL_law_638 (by decide) ?_
    obtain ⟨fs6, hfo⟩ := hM1.obj
    refine va_calll (va_runV (As := [.int (xs (i + 1)), .int (xs (i + 2)), .int (xs (i + 3)), .int (nI 1)]) (rest := [.long r]) ⟨hx, hb, hml, hown, hts⟩ (hMm g1 hM1) (cwV 4 hts gL_law_X6_times_ rfl rfl rfl (by decide +kernel) ⟨Nat.le_of_ble_eq_true rfl, Nat.le_of_ble_eq_true rfl⟩) ⟨xB_blind, va_recv hK hP (ci := 6) rfl (xw_is (by decide) hfo), fun U hU hW => ⟨rfl, by rw [hU]; exact hP, va_K.moved hW.alike hK, va_Nw.warmM hW hN⟩⟩ rfl rfl hl.1 rfl (lv_room (Nat.le_of_ble_eq_true rfl)) dL_law_642 ⟨Nat.le_of_ble_eq_true rfl, Nat.le_of_ble_eq_true rfl⟩) hS (fun _ _ h => h) (fun _ h => h) (fun r9 g2 tZ H locs ht hvm hw hB hzZ hkZ hS => ?_)
    obtain ⟨hP, -⟩ := hB
    rw [ht] at hP
    obtain ⟨er, hM2, hf2⟩ := hw
    rw [er]
    have hC2 := hC1.frame hf2
    refine xr_cmp_eq (tgt := 821) hx hb dL_law_645 dL_law_646 (by decide) (fun _ => ?_) (fun c9 => absurd rfl c9)
    refine lv_iinc (v := nI (i + 6)) (lv' := [(3, .int (nI (i + 6))), (0, .ref b), (1, .ref (ad 0)), (2, .ref (ad 62))]) hx hb dL_law_821 hl (k := 3) rfl (nI_add i 6) (by decide) rfl (fun ls hl => ?_)
    refine lv_goto (tgt := 18) hx hb dL_law_824 (by decide) ?_
    exact ih g2 q2 Wt2 w2 ln2 u2 T2 t2 tp2 bt2 H locs ls hC2 hM2 hs2 hP hS (lv_sub hl [1, 2, 3, 0] rfl)

set_option maxHeartbeats 4000000 in
set_option maxRecDepth 100000 in
/-- never -/
theorem lw_c16 {p : Program} {e : Env} {s : State} {m : MethodId} {below : List Frame} {meth : Method} {c : Code} (l : Launch) {b L : Nat} {xs : Nat → Int32} (hL : L ≤ 3072) (C0 : lw_At p s m meth c b L xs) {D : va_G} {cI cJ cZ cW : ClassId} {ad : Nat → Nat} (hK : va_K D vwCl (xT cI cJ cZ cW) s) (hN : va_Nw (.methodLinkNest RX4 33 yX5_power RX5) s) (hD : ∀ g, va_D (fun q : Nat => s.heap.size ≤ q) (xw 81 ad g)) {i : Nat} (hi : i + 6 ≤ L) {g : Nat → va_E} {q Wt : Nat} {w : Nat → Nat} {ln : Nat → Nat} {u : Nat → Nat → Nat} {T : Nat} {t : Nat → Nat} {tp bt : Int64} (hC : ClsI cI cJ cZ cW ad g q Wt w ln u T t tp bt) (hM : ModI cI cJ ad g q Wt w ln u T t tp bt) (hs : SrcI q Wt w ln u T t) {H : Heap} {locs : List Loc} (hP : va_P D vwCl (xw 81 ad g) H) (hS : va_S (fun q : Nat => s.heap.size ≤ q) s.heap H locs) {ls : Array Slot} (hl : lv_has ls 4 [(0, .ref b), (1, .ref (ad 0)), (2, .ref (ad 62)), (3, .int (nI (i)))]) (ih : ∀ (g : Nat → va_E) (q Wt : Nat) (w ln : Nat → Nat) (u : Nat → Nat → Nat) (T : Nat) (t : Nat → Nat) (tp bt : Int64) (H : Heap) (locs : List Loc) (ls : Array Slot), ClsI cI cJ cZ cW ad g q Wt w ln u T t tp bt → ModI cI cJ ad g q Wt w ln u T t tp bt → SrcI q Wt w ln u T t → va_P D vwCl (xw 81 ad g) H → va_S (fun q : Nat => s.heap.size ≤ q) s.heap H locs → lv_has ls 4 [(0, .ref b), (1, .ref (ad 0)), (2, .ref (ad 62)), (3, .int (nI (i + 6)))] → W p l e room_1 s m #[Value.ref b] below meth c H locs 81 34932 (lw_Z below #[Value.ref b] s) (F0 m 18 ls [])) : W p l e room_1 s m #[Value.ref b] below meth c H locs 81 34932 (lw_Z below #[Value.ref b] s) (F0 m 651 ls []) := by
  obtain ⟨hx, hb, hr, hml, hown, hts0, hX, hbl, hlocks, hgv⟩ := id C0
  have hts := fun w h => hts0 w (wsL_law_in w h)
  have hbA : ¬ (fun q : Nat => s.heap.size ≤ q) b := Nat.not_le.mpr hbl
  have hown : s.vm.findClass RL = some m.cls := hown
  have hL31 : L < 2 ^ 31 := by omega
  refine lv_aload_n hx hb dL_law_651 rfl (lv_at hl 1 rfl) ?_
  refine lv_aload_n hx hb dL_law_652 rfl (lv_at hl 0 rfl) ?_
  refine lv_iload_n hx hb dL_law_653 rfl (lv_at hl 3 rfl) ?_
  refine lv_iconst (v := nI (1)) hx hb dL_law_654 (by decide) ?_
  refine xi_add hx hb dL_law_655 ?_
  refine xs_ld hx hb hX hbl hbA hS (show i + 1 < L by omega) hL31 dL_law_656 ?_
  refine lv_aload_n hx hb dL_law_657 rfl (lv_at hl 0 rfl) ?_
  refine lv_iload_n hx hb dL_law_658 rfl (lv_at hl 3 rfl) ?_
  refine lv_iconst (v := nI (2)) hx hb dL_law_659 (by decide) ?_
  refine xi_add hx hb dL_law_660 ?_
  refine xs_ld hx hb hX hbl hbA hS (show i + 2 < L by omega) hL31 dL_law_661 ?_
  obtain ⟨r, q2, Wt2, w2, ln2, u2, T2, t2, tp2, bt2, hs2, hCc, hMm⟩ := pr_never l hD hs (tp := tp) (bt := bt) (cI := cI) (cJ := cJ) (cZ := cZ) (cW := cW) (D := D) (xs (i + 1)) (xs (i + 2))
  refine va_calll (va_runV (As := [.int (xs (i + 1)), .int (xs (i + 2))]) (rest := []) ⟨hx, hb, hml, hown, hts⟩ (hCc g hC) (cwV 2 hts gL_law_X5_never rfl rfl rfl (by decide +kernel) ⟨Nat.le_of_ble_eq_true rfl, Nat.le_of_ble_eq_true rfl⟩) ⟨xB_blind, va_recv hK hP (ci := 5) rfl (xw_is (by decide) hC.1), fun U hU hW => ⟨rfl, by rw [hU]; exact hP, va_K.moved hW.alike hK, va_Nw.warmM hW hN⟩⟩ rfl rfl hl.1 rfl (lv_room (Nat.le_of_ble_eq_true rfl)) dL_law_662 ⟨Nat.le_of_ble_eq_true rfl, Nat.le_of_ble_eq_true rfl⟩) hS (fun _ _ h => h) (fun _ h => h) (fun r9 g1 tZ H locs ht hvm hw hB hzZ hkZ hS => ?_)
  obtain ⟨hP, -⟩ := hB
  rw [ht] at hP
  obtain ⟨er, hC1, hf1⟩ := hw
  rw [er]
  have hM1 := hM.frame hf1
  refine lv_aload_n hx hb dL_law_665 rfl (lv_at hl 2 rfl) ?_
  refine lv_aload_n hx hb dL_law_666 rfl (lv_at hl 0 rfl) ?_
  refine lv_iload_n hx hb dL_law_667 rfl (lv_at hl 3 rfl) ?_
  refine lv_iconst (v := nI (1)) hx hb dL_law_668 (by decide) ?_
  refine xi_add hx hb dL_law_669 ?_
  refine xs_ld hx hb hX hbl hbA hS (show i + 1 < L by omega) hL31 dL_law_670 ?_
  refine lv_aload_n hx hb dL_law_671 rfl (lv_at hl 0 rfl) ?_
  refine lv_iload_n hx hb dL_law_672 rfl (lv_at hl 3 rfl) ?_
  refine lv_iconst (v := nI (2)) hx hb dL_law_673 (by decide) ?_
  refine xi_add hx hb dL_law_674 ?_
  refine xs_ld hx hb hX hbl hbA hS (show i + 2 < L by omega) hL31 dL_law_675 ?_
  obtain ⟨fs6, hfo⟩ := hM1.obj
  refine va_calll (va_runV (As := [.int (xs (i + 1)), .int (xs (i + 2))]) (rest := [.long r]) ⟨hx, hb, hml, hown, hts⟩ (hMm g1 hM1) (cwV 2 hts gL_law_X6_never rfl rfl rfl (by decide +kernel) ⟨Nat.le_of_ble_eq_true rfl, Nat.le_of_ble_eq_true rfl⟩) ⟨xB_blind, va_recv hK hP (ci := 6) rfl (xw_is (by decide) hfo), fun U hU hW => ⟨rfl, by rw [hU]; exact hP, va_K.moved hW.alike hK, va_Nw.warmM hW hN⟩⟩ rfl rfl hl.1 rfl (lv_room (Nat.le_of_ble_eq_true rfl)) dL_law_676 ⟨Nat.le_of_ble_eq_true rfl, Nat.le_of_ble_eq_true rfl⟩) hS (fun _ _ h => h) (fun _ h => h) (fun r9 g2 tZ H locs ht hvm hw hB hzZ hkZ hS => ?_)
  obtain ⟨hP, -⟩ := hB
  rw [ht] at hP
  obtain ⟨er, hM2, hf2⟩ := hw
  rw [er]
  have hC2 := hC1.frame hf2
  refine xr_cmp_eq (tgt := 821) hx hb dL_law_679 dL_law_680 (by decide) (fun _ => ?_) (fun c9 => absurd rfl c9)
  refine lv_iinc (v := nI (i + 6)) (lv' := [(3, .int (nI (i + 6))), (0, .ref b), (1, .ref (ad 0)), (2, .ref (ad 62))]) hx hb dL_law_821 hl (k := 3) rfl (nI_add i 6) (by decide) rfl (fun ls hl => ?_)
  refine lv_goto (tgt := 18) hx hb dL_law_824 (by decide) ?_
  exact ih g2 q2 Wt2 w2 ln2 u2 T2 t2 tp2 bt2 H locs ls hC2 hM2 hs2 hP hS (lv_sub hl [1, 2, 3, 0] rfl)

set_option maxHeartbeats 4000000 in
set_option maxRecDepth 100000 in
/-- covered -/
theorem lw_c17 {p : Program} {e : Env} {s : State} {m : MethodId} {below : List Frame} {meth : Method} {c : Code} (l : Launch) {b L : Nat} {xs : Nat → Int32} (hL : L ≤ 3072) (C0 : lw_At p s m meth c b L xs) {D : va_G} {cI cJ cZ cW : ClassId} {ad : Nat → Nat} (hK : va_K D vwCl (xT cI cJ cZ cW) s) (hN : va_Nw (.methodLinkNest RX4 33 yX5_power RX5) s) (hD : ∀ g, va_D (fun q : Nat => s.heap.size ≤ q) (xw 81 ad g)) {i : Nat} (hi : i + 6 ≤ L) {g : Nat → va_E} {q Wt : Nat} {w : Nat → Nat} {ln : Nat → Nat} {u : Nat → Nat → Nat} {T : Nat} {t : Nat → Nat} {tp bt : Int64} (hC : ClsI cI cJ cZ cW ad g q Wt w ln u T t tp bt) (hM : ModI cI cJ ad g q Wt w ln u T t tp bt) (hs : SrcI q Wt w ln u T t) {H : Heap} {locs : List Loc} (hP : va_P D vwCl (xw 81 ad g) H) (hS : va_S (fun q : Nat => s.heap.size ≤ q) s.heap H locs) {ls : Array Slot} (hl : lv_has ls 4 [(0, .ref b), (1, .ref (ad 0)), (2, .ref (ad 62)), (3, .int (nI (i)))]) (ih : ∀ (g : Nat → va_E) (q Wt : Nat) (w ln : Nat → Nat) (u : Nat → Nat → Nat) (T : Nat) (t : Nat → Nat) (tp bt : Int64) (H : Heap) (locs : List Loc) (ls : Array Slot), ClsI cI cJ cZ cW ad g q Wt w ln u T t tp bt → ModI cI cJ ad g q Wt w ln u T t tp bt → SrcI q Wt w ln u T t → va_P D vwCl (xw 81 ad g) H → va_S (fun q : Nat => s.heap.size ≤ q) s.heap H locs → lv_has ls 4 [(0, .ref b), (1, .ref (ad 0)), (2, .ref (ad 62)), (3, .int (nI (i + 6)))] → W p l e room_1 s m #[Value.ref b] below meth c H locs 81 34932 (lw_Z below #[Value.ref b] s) (F0 m 18 ls [])) : W p l e room_1 s m #[Value.ref b] below meth c H locs 81 34932 (lw_Z below #[Value.ref b] s) (F0 m 685 ls []) := by
  obtain ⟨hx, hb, hr, hml, hown, hts0, hX, hbl, hlocks, hgv⟩ := id C0
  have hts := fun w h => hts0 w (wsL_law_in w h)
  have hbA : ¬ (fun q : Nat => s.heap.size ≤ q) b := Nat.not_le.mpr hbl
  have hown : s.vm.findClass RL = some m.cls := hown
  have hL31 : L < 2 ^ 31 := by omega
  refine lv_aload_n hx hb dL_law_685 rfl (lv_at hl 1 rfl) ?_
  refine lv_aload_n hx hb dL_law_686 rfl (lv_at hl 0 rfl) ?_
  refine lv_iload_n hx hb dL_law_687 rfl (lv_at hl 3 rfl) ?_
  refine lv_iconst (v := nI (1)) hx hb dL_law_688 (by decide) ?_
  refine xi_add hx hb dL_law_689 ?_
  refine xs_ld hx hb hX hbl hbA hS (show i + 1 < L by omega) hL31 dL_law_690 ?_
  obtain ⟨r, hCc, hMm⟩ := pr_covered l hD hs (tp := tp) (bt := bt) (cI := cI) (cJ := cJ) (cZ := cZ) (cW := cW) (D := D) (xs (i + 1))
  refine vp_callSl (va_Run.run (va_runV (As := [.int (xs (i + 1))]) (rest := []) ⟨hx, hb, hml, hown, hts⟩ (hCc g hC) (cwV 1 hts gL_law_X5_covered rfl rfl rfl (by decide +kernel) ⟨Nat.le_of_ble_eq_true rfl, Nat.le_of_ble_eq_true rfl⟩) ⟨xB_blind, va_recv hK hP (ci := 5) rfl (xw_is (by decide) hC.1), fun U hU hW => ⟨rfl, by rw [hU]; exact hP, va_K.moved hW.alike hK, va_Nw.warmM hW hN⟩⟩ rfl rfl hl.1 rfl (lv_room (Nat.le_of_ble_eq_true rfl)) dL_law_691 ⟨Nat.le_of_ble_eq_true rfl, Nat.le_of_ble_eq_true rfl⟩)) (fun r9 er9 => ?_)
  rw [er9]
  refine lv_aload_n hx hb dL_law_694 rfl (lv_at hl 2 rfl) ?_
  refine lv_aload_n hx hb dL_law_695 rfl (lv_at hl 0 rfl) ?_
  refine lv_iload_n hx hb dL_law_696 rfl (lv_at hl 3 rfl) ?_
  refine lv_iconst (v := nI (1)) hx hb dL_law_697 (by decide) ?_
  refine xi_add hx hb dL_law_698 ?_
  refine xs_ld hx hb hX hbl hbA hS (show i + 1 < L by omega) hL31 dL_law_699 ?_
  obtain ⟨fs6, hfo⟩ := hM.obj
  refine va_calll (va_runV (As := [.int (xs (i + 1))]) (rest := [.long r]) ⟨hx, hb, hml, hown, hts⟩ (hMm g hM) (cwV 1 hts gL_law_X6_covered rfl rfl rfl (by decide +kernel) ⟨Nat.le_of_ble_eq_true rfl, Nat.le_of_ble_eq_true rfl⟩) ⟨xB_blind, va_recv hK hP (ci := 6) rfl (xw_is (by decide) hfo), fun U hU hW => ⟨rfl, by rw [hU]; exact hP, va_K.moved hW.alike hK, va_Nw.warmM hW hN⟩⟩ rfl rfl hl.1 rfl (lv_room (Nat.le_of_ble_eq_true rfl)) dL_law_700 ⟨Nat.le_of_ble_eq_true rfl, Nat.le_of_ble_eq_true rfl⟩) hS (fun _ _ h => h) (fun _ h => h) (fun r9 g2 tZ H locs ht hvm hw hB hzZ hkZ hS => ?_)
  obtain ⟨hP, -⟩ := hB
  rw [ht] at hP
  obtain ⟨er, hM2, hf2⟩ := hw
  rw [er]
  have hC2 := hC.frame hf2
  refine xr_cmp_eq (tgt := 821) hx hb dL_law_703 dL_law_704 (by decide) (fun _ => ?_) (fun c9 => absurd rfl c9)
  refine lv_iinc (v := nI (i + 6)) (lv' := [(3, .int (nI (i + 6))), (0, .ref b), (1, .ref (ad 0)), (2, .ref (ad 62))]) hx hb dL_law_821 hl (k := 3) rfl (nI_add i 6) (by decide) rfl (fun ls hl => ?_)
  refine lv_goto (tgt := 18) hx hb dL_law_824 (by decide) ?_
  exact ih g2 q Wt w ln u T t tp bt H locs ls hC2 hM2 hs hP hS (lv_sub hl [1, 2, 3, 0] rfl)
