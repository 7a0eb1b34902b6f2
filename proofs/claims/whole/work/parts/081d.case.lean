set_option maxHeartbeats 4000000 in
set_option maxRecDepth 100000 in
/-- draw -/
theorem lw_c18 {p : Program} {e : Env} {s : State} {m : MethodId} {below : List Frame} {meth : Method} {c : Code} (l : Launch) {b L : Nat} {xs : Nat → Int32} (hL : L ≤ 3072) (C0 : lw_At p s m meth c b L xs) {D : va_G} {cI cJ cZ cW : ClassId} {ad : Nat → Nat} (hK : va_K D vwCl (xT cI cJ cZ cW) s) (hN : va_Nw (.methodLinkNest RX4 33 yX5_power RX5) s) (hD : ∀ g, va_D (fun q : Nat => s.heap.size ≤ q) (xw 81 ad g)) {i : Nat} (hi : i + 6 ≤ L) {g : Nat → va_E} {q Wt : Nat} {w : Nat → Nat} {ln : Nat → Nat} {u : Nat → Nat → Nat} {T : Nat} {t : Nat → Nat} {tp bt : Int64} (hC : ClsI cI cJ cZ cW ad g q Wt w ln u T t tp bt) (hM : ModI cI cJ ad g q Wt w ln u T t tp bt) (hs : SrcI q Wt w ln u T t) {H : Heap} {locs : List Loc} (hP : va_P D vwCl (xw 81 ad g) H) (hS : va_S (fun q : Nat => s.heap.size ≤ q) s.heap H locs) {ls : Array Slot} (hl : lv_has ls 4 [(0, .ref b), (1, .ref (ad 0)), (2, .ref (ad 62)), (3, .int (nI (i)))]) (ih : ∀ (g : Nat → va_E) (q Wt : Nat) (w ln : Nat → Nat) (u : Nat → Nat → Nat) (T : Nat) (t : Nat → Nat) (tp bt : Int64) (H : Heap) (locs : List Loc) (ls : Array Slot), ClsI cI cJ cZ cW ad g q Wt w ln u T t tp bt → ModI cI cJ ad g q Wt w ln u T t tp bt → SrcI q Wt w ln u T t → va_P D vwCl (xw 81 ad g) H → va_S (fun q : Nat => s.heap.size ≤ q) s.heap H locs → lv_has ls 4 [(0, .ref b), (1, .ref (ad 0)), (2, .ref (ad 62)), (3, .int (nI (i + 6)))] → W p l e room_1 s m #[Value.ref b] below meth c H locs 81 34932 (lw_Z below #[Value.ref b] s) (F0 m 18 ls [])) : W p l e room_1 s m #[Value.ref b] below meth c H locs 81 34932 (lw_Z below #[Value.ref b] s) (F0 m 709 ls []) := by
  obtain ⟨hx, hb, hr, hml, hown, hts0, hX, hbl, hlocks, hgv⟩ := id C0
  have hts := fun w h => hts0 w (wsL_law_in w h)
  have hbA : ¬ (fun q : Nat => s.heap.size ≤ q) b := Nat.not_le.mpr hbl
  have hown : s.vm.findClass RL = some m.cls := hown
  have hL31 : L < 2 ^ 31 := by omega
  refine lv_aload_n hx hb dL_law_709 rfl (lv_at hl 1 rfl) ?_
  refine lv_aload_n hx hb dL_law_710 rfl (lv_at hl 0 rfl) ?_
  refine lv_iload_n hx hb dL_law_711 rfl (lv_at hl 3 rfl) ?_
  refine lv_iconst (v := nI (1)) hx hb dL_law_712 (by decide) ?_
  refine xi_add hx hb dL_law_713 ?_
  refine xs_ld hx hb hX hbl hbA hS (show i + 1 < L by omega) hL31 dL_law_714 ?_
  refine lv_aload_n hx hb dL_law_715 rfl (lv_at hl 0 rfl) ?_
  refine lv_iload_n hx hb dL_law_716 rfl (lv_at hl 3 rfl) ?_
  refine lv_iconst (v := nI (2)) hx hb dL_law_717 (by decide) ?_
  refine xi_add hx hb dL_law_718 ?_
  refine xs_ld hx hb hX hbl hbA hS (show i + 2 < L by omega) hL31 dL_law_719 ?_
  obtain ⟨r, q2, Wt2, w2, ln2, u2, T2, t2, tp2, bt2, hs2, hCc, hMm⟩ := pr_draw l hD hs (tp := tp) (bt := bt) (cI := cI) (cJ := cJ) (cZ := cZ) (cW := cW) (D := D) (xs (i + 1)) (xs (i + 2))
  refine va_calli (va_runV (As := [.int (xs (i + 1)), .int (xs (i + 2))]) (rest := []) ⟨hx, hb, hml, hown, hts⟩ (hCc g hC) (cwV 2 hts gL_law_X5_draw rfl rfl rfl (by decide +kernel) ⟨Nat.le_of_ble_eq_true rfl, Nat.le_of_ble_eq_true rfl⟩) ⟨xB_blind, va_recv hK hP (ci := 5) rfl (xw_is (by decide) hC.1), fun U hU hW => ⟨rfl, by rw [hU]; exact hP, va_K.moved hW.alike hK, va_Nw.warmM hW hN⟩⟩ rfl rfl hl.1 rfl (lv_room (Nat.le_of_ble_eq_true rfl)) dL_law_720 ⟨Nat.le_of_ble_eq_true rfl, Nat.le_of_ble_eq_true rfl⟩) hS (fun _ _ h => h) (fun _ h => h) (fun r9 g1 tZ H locs ht hvm hw hB hzZ hkZ hS => ?_)
  obtain ⟨hP, -⟩ := hB
  rw [ht] at hP
  obtain ⟨er, hC1, hf1⟩ := hw
  rw [er]
  have hM1 := hM.frame hf1
  refine lv_aload_n hx hb dL_law_723 rfl (lv_at hl 2 rfl) ?_
  refine lv_aload_n hx hb dL_law_724 rfl (lv_at hl 0 rfl) ?_
  refine lv_iload_n hx hb dL_law_725 rfl (lv_at hl 3 rfl) ?_
  refine lv_iconst (v := nI (1)) hx hb dL_law_726 (by decide) ?_
  refine xi_add hx hb dL_law_727 ?_
  refine xs_ld hx hb hX hbl hbA hS (show i + 1 < L by omega) hL31 dL_law_728 ?_
  refine lv_aload_n hx hb dL_law_729 rfl (lv_at hl 0 rfl) ?_
  refine lv_iload_n hx hb dL_law_730 rfl (lv_at hl 3 rfl) ?_
  refine lv_iconst (v := nI (2)) hx hb dL_law_731 (by decide) ?_
  refine xi_add hx hb dL_law_732 ?_
  refine xs_ld hx hb hX hbl hbA hS (show i + 2 < L by omega) hL31 dL_law_733 ?_
  obtain ⟨fs6, hfo⟩ := hM1.obj
  refine va_calli (va_runV (As := [.int (xs (i + 1)), .int (xs (i + 2))]) (rest := [.int r]) ⟨hx, hb, hml, hown, hts⟩ (hMm g1 hM1) (cwV 2 hts gL_law_X6_draw rfl rfl rfl (by decide +kernel) ⟨Nat.le_of_ble_eq_true rfl, Nat.le_of_ble_eq_true rfl⟩) ⟨xB_blind, va_recv hK hP (ci := 6) rfl (xw_is (by decide) hfo), fun U hU hW => ⟨rfl, by rw [hU]; exact hP, va_K.moved hW.alike hK, va_Nw.warmM hW hN⟩⟩ rfl rfl hl.1 rfl (lv_room (Nat.le_of_ble_eq_true rfl)) dL_law_734 ⟨Nat.le_of_ble_eq_true rfl, Nat.le_of_ble_eq_true rfl⟩) hS (fun _ _ h => h) (fun _ h => h) (fun r9 g2 tZ H locs ht hvm hw hB hzZ hkZ hS => ?_)
  obtain ⟨hP, -⟩ := hB
  rw [ht] at hP
  obtain ⟨er, hM2, hf2⟩ := hw
  rw [er]
  have hC2 := hC1.frame hf2
  refine lv_icmp_eq (tgt := 821) hx hb dL_law_737 (by decide) (fun _ => ?_) (fun c9 => absurd rfl c9)
  refine lv_iinc (v := nI (i + 6)) (lv' := [(3, .int (nI (i + 6))), (0, .ref b), (1, .ref (ad 0)), (2, .ref (ad 62))]) hx hb dL_law_821 hl (k := 3) rfl (nI_add i 6) (by decide) rfl (fun ls hl => ?_)
  refine lv_goto (tgt := 18) hx hb dL_law_824 (by decide) ?_
  exact ih g2 q2 Wt2 w2 ln2 u2 T2 t2 tp2 bt2 H locs ls hC2 hM2 hs2 hP hS (lv_sub hl [1, 2, 3, 0] rfl)

set_option maxHeartbeats 4000000 in
set_option maxRecDepth 100000 in
/-- add -/
theorem lw_c19 {p : Program} {e : Env} {s : State} {m : MethodId} {below : List Frame} {meth : Method} {c : Code} (l : Launch) {b L : Nat} {xs : Nat → Int32} (hL : L ≤ 3072) (C0 : lw_At p s m meth c b L xs) {D : va_G} {cI cJ cZ cW : ClassId} {ad : Nat → Nat} (hK : va_K D vwCl (xT cI cJ cZ cW) s) (hN : va_Nw (.methodLinkNest RX4 33 yX5_power RX5) s) (hD : ∀ g, va_D (fun q : Nat => s.heap.size ≤ q) (xw 81 ad g)) {i : Nat} (hi : i + 6 ≤ L) {g : Nat → va_E} {q Wt : Nat} {w : Nat → Nat} {ln : Nat → Nat} {u : Nat → Nat → Nat} {T : Nat} {t : Nat → Nat} {tp bt : Int64} (hC : ClsI cI cJ cZ cW ad g q Wt w ln u T t tp bt) (hM : ModI cI cJ ad g q Wt w ln u T t tp bt) (hs : SrcI q Wt w ln u T t) {H : Heap} {locs : List Loc} (hP : va_P D vwCl (xw 81 ad g) H) (hS : va_S (fun q : Nat => s.heap.size ≤ q) s.heap H locs) {ls : Array Slot} (hl : lv_has ls 4 [(0, .ref b), (1, .ref (ad 0)), (2, .ref (ad 62)), (3, .int (nI (i)))]) (ih : ∀ (g : Nat → va_E) (q Wt : Nat) (w ln : Nat → Nat) (u : Nat → Nat → Nat) (T : Nat) (t : Nat → Nat) (tp bt : Int64) (H : Heap) (locs : List Loc) (ls : Array Slot), ClsI cI cJ cZ cW ad g q Wt w ln u T t tp bt → ModI cI cJ ad g q Wt w ln u T t tp bt → SrcI q Wt w ln u T t → va_P D vwCl (xw 81 ad g) H → va_S (fun q : Nat => s.heap.size ≤ q) s.heap H locs → lv_has ls 4 [(0, .ref b), (1, .ref (ad 0)), (2, .ref (ad 62)), (3, .int (nI (i + 6)))] → W p l e room_1 s m #[Value.ref b] below meth c H locs 81 34932 (lw_Z below #[Value.ref b] s) (F0 m 18 ls [])) : W p l e room_1 s m #[Value.ref b] below meth c H locs 81 34932 (lw_Z below #[Value.ref b] s) (F0 m 742 ls []) := by
  obtain ⟨hx, hb, hr, hml, hown, hts0, hX, hbl, hlocks, hgv⟩ := id C0
  have hts := fun w h => hts0 w (wsL_law_in w h)
  have hbA : ¬ (fun q : Nat => s.heap.size ≤ q) b := Nat.not_le.mpr hbl
  have hown : s.vm.findClass RL = some m.cls := hown
  have hL31 : L < 2 ^ 31 := by omega
  refine lv_aload_n hx hb dL_law_742 rfl (lv_at hl 1 rfl) ?_
  refine lv_aload_n hx hb dL_law_743 rfl (lv_at hl 0 rfl) ?_
  refine lv_iload_n hx hb dL_law_744 rfl (lv_at hl 3 rfl) ?_
  refine lv_iconst (v := nI (1)) hx hb dL_law_745 (by decide) ?_
  refine xi_add hx hb dL_law_746 ?_
  refine xs_ld hx hb hX hbl hbA hS (show i + 1 < L by omega) hL31 dL_law_747 ?_
  obtain ⟨r, q2, Wt2, w2, ln2, u2, T2, t2, tp2, bt2, hs2, hCc, hMm⟩ := pr_add l hD hs (tp := tp) (bt := bt) (cI := cI) (cJ := cJ) (cZ := cZ) (cW := cW) (D := D) (xs (i + 1))
  refine va_calli (va_runV (As := [.int (xs (i + 1))]) (rest := []) ⟨hx, hb, hml, hown, hts⟩ (hCc g hC) (cwV 1 hts gL_law_X5_add rfl rfl rfl (by decide +kernel) ⟨Nat.le_of_ble_eq_true rfl, Nat.le_of_ble_eq_true rfl⟩) ⟨xB_blind, va_recv hK hP (ci := 5) rfl (xw_is (by decide) hC.1), fun U hU hW => ⟨rfl, by rw [hU]; exact hP, va_K.moved hW.alike hK, va_Nw.warmM hW hN⟩⟩ rfl rfl hl.1 rfl (lv_room (Nat.le_of_ble_eq_true rfl)) dL_law_748 ⟨Nat.le_of_ble_eq_true rfl, Nat.le_of_ble_eq_true rfl⟩) hS (fun _ _ h => h) (fun _ h => h) (fun r9 g1 tZ H locs ht hvm hw hB hzZ hkZ hS => ?_)
  obtain ⟨hP, -⟩ := hB
  rw [ht] at hP
  obtain ⟨er, hC1, hf1⟩ := hw
  rw [er]
  have hM1 := hM.frame hf1
  refine lv_aload_n hx hb dL_law_751 rfl (lv_at hl 2 rfl) ?_
  refine lv_aload_n hx hb dL_law_752 rfl (lv_at hl 0 rfl) ?_
  refine lv_iload_n hx hb dL_law_753 rfl (lv_at hl 3 rfl) ?_
  refine lv_iconst (v := nI (1)) hx hb dL_law_754 (by decide) ?_
  refine xi_add hx hb dL_law_755 ?_
  refine xs_ld hx hb hX hbl hbA hS (show i + 1 < L by omega) hL31 dL_law_756 ?_
  obtain ⟨fs6, hfo⟩ := hM1.obj
  refine va_calli (va_runV (As := [.int (xs (i + 1))]) (rest := [.int r]) ⟨hx, hb, hml, hown, hts⟩ (hMm g1 hM1) (cwV 1 hts gL_law_X6_add_ rfl rfl rfl (by decide +kernel) ⟨Nat.le_of_ble_eq_true rfl, Nat.le_of_ble_eq_true rfl⟩) ⟨xB_blind, va_recv hK hP (ci := 6) rfl (xw_is (by decide) hfo), fun U hU hW => ⟨rfl, by rw [hU]; exact hP, va_K.moved hW.alike hK, va_Nw.warmM hW hN⟩⟩ rfl rfl hl.1 rfl (lv_room (Nat.le_of_ble_eq_true rfl)) dL_law_757 ⟨Nat.le_of_ble_eq_true rfl, Nat.le_of_ble_eq_true rfl⟩) hS (fun _ _ h => h) (fun _ h => h) (fun r9 g2 tZ H locs ht hvm hw hB hzZ hkZ hS => ?_)
  obtain ⟨hP, -⟩ := hB
  rw [ht] at hP
  obtain ⟨er, hM2, hf2⟩ := hw
  rw [er]
  have hC2 := hC1.frame hf2
  refine lv_icmp_eq (tgt := 821) hx hb dL_law_760 (by decide) (fun _ => ?_) (fun c9 => absurd rfl c9)
  refine lv_iinc (v := nI (i + 6)) (lv' := [(3, .int (nI (i + 6))), (0, .ref b), (1, .ref (ad 0)), (2, .ref (ad 62))]) hx hb dL_law_821 hl (k := 3) rfl (nI_add i 6) (by decide) rfl (fun ls hl => ?_)
  refine lv_goto (tgt := 18) hx hb dL_law_824 (by decide) ?_
  exact ih g2 q2 Wt2 w2 ln2 u2 T2 t2 tp2 bt2 H locs ls hC2 hM2 hs2 hP hS (lv_sub hl [1, 2, 3, 0] rfl)

set_option maxHeartbeats 4000000 in
set_option maxRecDepth 100000 in
/-- letter -/
theorem lw_c20 {p : Program} {e : Env} {s : State} {m : MethodId} {below : List Frame} {meth : Method} {c : Code} (l : Launch) {b L : Nat} {xs : Nat → Int32} (hL : L ≤ 3072) (C0 : lw_At p s m meth c b L xs) {D : va_G} {cI cJ cZ cW : ClassId} {ad : Nat → Nat} (hK : va_K D vwCl (xT cI cJ cZ cW) s) (hN : va_Nw (.methodLinkNest RX4 33 yX5_power RX5) s) (hD : ∀ g, va_D (fun q : Nat => s.heap.size ≤ q) (xw 81 ad g)) {i : Nat} (hi : i + 6 ≤ L) {g : Nat → va_E} {q Wt : Nat} {w : Nat → Nat} {ln : Nat → Nat} {u : Nat → Nat → Nat} {T : Nat} {t : Nat → Nat} {tp bt : Int64} (hC : ClsI cI cJ cZ cW ad g q Wt w ln u T t tp bt) (hM : ModI cI cJ ad g q Wt w ln u T t tp bt) (hs : SrcI q Wt w ln u T t) {H : Heap} {locs : List Loc} (hP : va_P D vwCl (xw 81 ad g) H) (hS : va_S (fun q : Nat => s.heap.size ≤ q) s.heap H locs) {ls : Array Slot} (hl : lv_has ls 4 [(0, .ref b), (1, .ref (ad 0)), (2, .ref (ad 62)), (3, .int (nI (i)))]) (ih : ∀ (g : Nat → va_E) (q Wt : Nat) (w ln : Nat → Nat) (u : Nat → Nat → Nat) (T : Nat) (t : Nat → Nat) (tp bt : Int64) (H : Heap) (locs : List Loc) (ls : Array Slot), ClsI cI cJ cZ cW ad g q Wt w ln u T t tp bt → ModI cI cJ ad g q Wt w ln u T t tp bt → SrcI q Wt w ln u T t → va_P D vwCl (xw 81 ad g) H → va_S (fun q : Nat => s.heap.size ≤ q) s.heap H locs → lv_has ls 4 [(0, .ref b), (1, .ref (ad 0)), (2, .ref (ad 62)), (3, .int (nI (i + 6)))] → W p l e room_1 s m #[Value.ref b] below meth c H locs 81 34932 (lw_Z below #[Value.ref b] s) (F0 m 18 ls [])) : W p l e room_1 s m #[Value.ref b] below meth c H locs 81 34932 (lw_Z below #[Value.ref b] s) (F0 m 765 ls []) := by
  obtain ⟨hx, hb, hr, hml, hown, hts0, hX, hbl, hlocks, hgv⟩ := id C0
  have hts := fun w h => hts0 w (wsL_law_in w h)
  have hbA : ¬ (fun q : Nat => s.heap.size ≤ q) b := Nat.not_le.mpr hbl
  have hown : s.vm.findClass RL = some m.cls := hown
  have hL31 : L < 2 ^ 31 := by omega
  refine lv_aload_n hx hb dL_law_765 rfl (lv_at hl 1 rfl) ?_
  refine lv_aload_n hx hb dL_law_766 rfl (lv_at hl 0 rfl) ?_
  refine lv_iload_n hx hb dL_law_767 rfl (lv_at hl 3 rfl) ?_
  refine lv_iconst (v := nI (1)) hx hb dL_law_768 (by decide) ?_
  refine xi_add hx hb dL_law_769 ?_
  refine xs_ld hx hb hX hbl hbA hS (show i + 1 < L by omega) hL31 dL_law_770 ?_
  obtain ⟨r, hCc, hMm⟩ := pr_letter l hD hs (tp := tp) (bt := bt) (cI := cI) (cJ := cJ) (cZ := cZ) (cW := cW) (D := D) (xs (i + 1))
  refine vp_callSi (va_Run.run (va_runV (As := [.int (xs (i + 1))]) (rest := []) ⟨hx, hb, hml, hown, hts⟩ (hCc g hC) (cwV 1 hts gL_law_X5_letter rfl rfl rfl (by decide +kernel) ⟨Nat.le_of_ble_eq_true rfl, Nat.le_of_ble_eq_true rfl⟩) ⟨xB_blind, va_recv hK hP (ci := 5) rfl (xw_is (by decide) hC.1), fun U hU hW => ⟨rfl, by rw [hU]; exact hP, va_K.moved hW.alike hK, va_Nw.warmM hW hN⟩⟩ rfl rfl hl.1 rfl (lv_room (Nat.le_of_ble_eq_true rfl)) dL_law_771 ⟨Nat.le_of_ble_eq_true rfl, Nat.le_of_ble_eq_true rfl⟩)) (fun r9 er9 => ?_)
  rw [er9]
  refine lv_aload_n hx hb dL_law_774 rfl (lv_at hl 2 rfl) ?_
  refine lv_aload_n hx hb dL_law_775 rfl (lv_at hl 0 rfl) ?_
  refine lv_iload_n hx hb dL_law_776 rfl (lv_at hl 3 rfl) ?_
  refine lv_iconst (v := nI (1)) hx hb dL_law_777 (by decide) ?_
  refine xi_add hx hb dL_law_778 ?_
  refine xs_ld hx hb hX hbl hbA hS (show i + 1 < L by omega) hL31 dL_law_779 ?_
  obtain ⟨fs6, hfo⟩ := hM.obj
  refine vp_callSi (va_Run.run (va_runV (As := [.int (xs (i + 1))]) (rest := [.int r]) ⟨hx, hb, hml, hown, hts⟩ (hMm g hM) (cwV 1 hts gL_law_X6_letter rfl rfl rfl (by decide +kernel) ⟨Nat.le_of_ble_eq_true rfl, Nat.le_of_ble_eq_true rfl⟩) ⟨xB_blind, va_recv hK hP (ci := 6) rfl (xw_is (by decide) hfo), fun U hU hW => ⟨rfl, by rw [hU]; exact hP, va_K.moved hW.alike hK, va_Nw.warmM hW hN⟩⟩ rfl rfl hl.1 rfl (lv_room (Nat.le_of_ble_eq_true rfl)) dL_law_780 ⟨Nat.le_of_ble_eq_true rfl, Nat.le_of_ble_eq_true rfl⟩)) (fun r9 er9 => ?_)
  rw [er9]
  refine lv_icmp_eq (tgt := 821) hx hb dL_law_783 (by decide) (fun _ => ?_) (fun c9 => absurd rfl c9)
  refine lv_iinc (v := nI (i + 6)) (lv' := [(3, .int (nI (i + 6))), (0, .ref b), (1, .ref (ad 0)), (2, .ref (ad 62))]) hx hb dL_law_821 hl (k := 3) rfl (nI_add i 6) (by decide) rfl (fun ls hl => ?_)
  refine lv_goto (tgt := 18) hx hb dL_law_824 (by decide) ?_
  exact ih g q Wt w ln u T t tp bt H locs ls hC hM hs hP hS (lv_sub hl [1, 2, 3, 0] rfl)

set_option maxHeartbeats 4000000 in
set_option maxRecDepth 100000 in
/-- came -/
theorem lw_c21 {p : Program} {e : Env} {s : State} {m : MethodId} {below : List Frame} {meth : Method} {c : Code} (l : Launch) {b L : Nat} {xs : Nat → Int32} (hL : L ≤ 3072) (C0 : lw_At p s m meth c b L xs) {D : va_G} {cI cJ cZ cW : ClassId} {ad : Nat → Nat} (hK : va_K D vwCl (xT cI cJ cZ cW) s) (hN : va_Nw (.methodLinkNest RX4 33 yX5_power RX5) s) (hD : ∀ g, va_D (fun q : Nat => s.heap.size ≤ q) (xw 81 ad g)) {i : Nat} (hi : i + 6 ≤ L) {g : Nat → va_E} {q Wt : Nat} {w : Nat → Nat} {ln : Nat → Nat} {u : Nat → Nat → Nat} {T : Nat} {t : Nat → Nat} {tp bt : Int64} (hC : ClsI cI cJ cZ cW ad g q Wt w ln u T t tp bt) (hM : ModI cI cJ ad g q Wt w ln u T t tp bt) (hs : SrcI q Wt w ln u T t) {H : Heap} {locs : List Loc} (hP : va_P D vwCl (xw 81 ad g) H) (hS : va_S (fun q : Nat => s.heap.size ≤ q) s.heap H locs) {ls : Array Slot} (hl : lv_has ls 4 [(0, .ref b), (1, .ref (ad 0)), (2, .ref (ad 62)), (3, .int (nI (i)))]) (ih : ∀ (g : Nat → va_E) (q Wt : Nat) (w ln : Nat → Nat) (u : Nat → Nat → Nat) (T : Nat) (t : Nat → Nat) (tp bt : Int64) (H : Heap) (locs : List Loc) (ls : Array Slot), ClsI cI cJ cZ cW ad g q Wt w ln u T t tp bt → ModI cI cJ ad g q Wt w ln u T t tp bt → SrcI q Wt w ln u T t → va_P D vwCl (xw 81 ad g) H → va_S (fun q : Nat => s.heap.size ≤ q) s.heap H locs → lv_has ls 4 [(0, .ref b), (1, .ref (ad 0)), (2, .ref (ad 62)), (3, .int (nI (i + 6)))] → W p l e room_1 s m #[Value.ref b] below meth c H locs 81 34932 (lw_Z below #[Value.ref b] s) (F0 m 18 ls [])) : W p l e room_1 s m #[Value.ref b] below meth c H locs 81 34932 (lw_Z below #[Value.ref b] s) (F0 m 788 ls []) := by
  obtain ⟨hx, hb, hr, hml, hown, hts0, hX, hbl, hlocks, hgv⟩ := id C0
  have hts := fun w h => hts0 w (wsL_law_in w h)
  have hbA : ¬ (fun q : Nat => s.heap.size ≤ q) b := Nat.not_le.mpr hbl
  have hown : s.vm.findClass RL = some m.cls := hown
  have hL31 : L < 2 ^ 31 := by omega
  refine lv_aload_n hx hb dL_law_788 rfl (lv_at hl 1 rfl) ?_
  refine lv_aload_n hx hb dL_law_789 rfl (lv_at hl 0 rfl) ?_
  refine lv_iload_n hx hb dL_law_790 rfl (lv_at hl 3 rfl) ?_
  refine lv_iconst (v := nI (1)) hx hb dL_law_791 (by decide) ?_
  refine xi_add hx hb dL_law_792 ?_
  refine xs_ld hx hb hX hbl hbA hS (show i + 1 < L by omega) hL31 dL_law_793 ?_
  refine lv_aload_n hx hb dL_law_794 rfl (lv_at hl 0 rfl) ?_
  refine lv_iload_n hx hb dL_law_795 rfl (lv_at hl 3 rfl) ?_
  refine lv_iconst (v := nI (2)) hx hb dL_law_796 (by decide) ?_
  refine xi_add hx hb dL_law_797 ?_
  refine xs_ld hx hb hX hbl hbA hS (show i + 2 < L by omega) hL31 dL_law_798 ?_
  obtain ⟨r, hCc, hMm⟩ := pr_came l hD hs (tp := tp) (bt := bt) (cI := cI) (cJ := cJ) (cZ := cZ) (cW := cW) (D := D) (xs (i + 1)) (xs (i + 2))
  refine vp_callSi (va_Run.run (va_runV (As := [.int (xs (i + 1)), .int (xs (i + 2))]) (rest := []) ⟨hx, hb, hml, hown, hts⟩ (hCc g hC) (cwV 2 hts gL_law_X5_came rfl rfl rfl (by decide +kernel) ⟨Nat.le_of_ble_eq_true rfl, Nat.le_of_ble_eq_true rfl⟩) ⟨xB_blind, va_recv hK hP (ci := 5) rfl (xw_is (by decide) hC.1), fun U hU hW => ⟨rfl, by rw [hU]; exact hP, va_K.moved hW.alike hK, va_Nw.warmM hW hN⟩⟩ rfl rfl hl.1 rfl (lv_room (Nat.le_of_ble_eq_true rfl)) dL_law_799 ⟨Nat.le_of_ble_eq_true rfl, Nat.le_of_ble_eq_true rfl⟩)) (fun r9 er9 => ?_)
  rw [er9]
  refine lv_aload_n hx hb dL_law_802 rfl (lv_at hl 2 rfl) ?_
  refine lv_aload_n hx hb dL_law_803 rfl (lv_at hl 0 rfl) ?_
  refine lv_iload_n hx hb dL_law_804 rfl (lv_at hl 3 rfl) ?_
  refine lv_iconst (v := nI (1)) hx hb dL_law_805 (by decide) ?_
  refine xi_add hx hb dL_law_806 ?_
  refine xs_ld hx hb hX hbl hbA hS (show i + 1 < L by omega) hL31 dL_law_807 ?_
  refine lv_aload_n hx hb dL_law_808 rfl (lv_at hl 0 rfl) ?_
  refine lv_iload_n hx hb dL_law_809 rfl (lv_at hl 3 rfl) ?_
  refine lv_iconst (v := nI (2)) hx hb dL_law_810 (by decide) ?_
  refine xi_add hx hb dL_law_811 ?_
  refine xs_ld hx hb hX hbl hbA hS (show i + 2 < L by omega) hL31 dL_law_812 ?_
  obtain ⟨fs6, hfo⟩ := hM.obj
  refine vp_callSi (va_Run.run (va_runV (As := [.int (xs (i + 1)), .int (xs (i + 2))]) (rest := [.int r]) ⟨hx, hb, hml, hown, hts⟩ (hMm g hM) (cwV 2 hts gL_law_X6_came rfl rfl rfl (by decide +kernel) ⟨Nat.le_of_ble_eq_true rfl, Nat.le_of_ble_eq_true rfl⟩) ⟨xB_blind, va_recv hK hP (ci := 6) rfl (xw_is (by decide) hfo), fun U hU hW => ⟨rfl, by rw [hU]; exact hP, va_K.moved hW.alike hK, va_Nw.warmM hW hN⟩⟩ rfl rfl hl.1 rfl (lv_room (Nat.le_of_ble_eq_true rfl)) dL_law_813 ⟨Nat.le_of_ble_eq_true rfl, Nat.le_of_ble_eq_true rfl⟩)) (fun r9 er9 => ?_)
  rw [er9]
  refine lv_icmp_eq (tgt := 821) hx hb dL_law_816 (by decide) (fun _ => ?_) (fun c9 => absurd rfl c9)
  refine lv_iinc (v := nI (i + 6)) (lv' := [(3, .int (nI (i + 6))), (0, .ref b), (1, .ref (ad 0)), (2, .ref (ad 62))]) hx hb dL_law_821 hl (k := 3) rfl (nI_add i 6) (by decide) rfl (fun ls hl => ?_)
  refine lv_goto (tgt := 18) hx hb dL_law_824 (by decide) ?_
  exact ih g q Wt w ln u T t tp bt H locs ls hC hM hs hP hS (lv_sub hl [1, 2, 3, 0] rfl)
