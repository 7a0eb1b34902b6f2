set_option maxHeartbeats 4000000 in
set_option maxRecDepth 100000 in
/-- the loop -/
theorem law_loop {p : Program} {e : Env} {s : State} {m : MethodId} {below : List Frame} {meth : Method} {c : Code} (l : Launch) {b L : Nat} {xs : Nat → Int32} (hL : L ≤ 3072) (C0 : lw_At p s m meth c b L xs) {D : va_G} {cI cJ cZ cW : ClassId} {ad : Nat → Nat} (hK : va_K D vwCl (xT cI cJ cZ cW) s) (hN : va_Nw (.methodLinkNest RX4 33 yX5_power RX5) s) (hD : ∀ g, va_D (fun q : Nat => s.heap.size ≤ q) (xw 81 ad g)) : ∀ (n i : Nat), i ≤ L + 6 → L + 6 - i < n → ∀ (g : Nat → va_E) (q Wt : Nat) (w ln : Nat → Nat) (u : Nat → Nat → Nat) (T : Nat) (t : Nat → Nat) (tp bt : Int64) (H : Heap) (locs : List Loc) (ls : Array Slot), ClsI cI cJ cZ cW ad g q Wt w ln u T t tp bt → ModI cI cJ ad g q Wt w ln u T t tp bt → SrcI q Wt w ln u T t → va_P D vwCl (xw 81 ad g) H → va_S (fun q : Nat => s.heap.size ≤ q) s.heap H locs → lv_has ls 4 [(0, .ref b), (1, .ref (ad 0)), (2, .ref (ad 62)), (3, .int (nI (i)))] → W p l e room_1 s m #[Value.ref b] below meth c H locs 81 34932 (lw_Z below #[Value.ref b] s) (F0 m 18 ls [])
  | 0, i, _, h => absurd h (by omega)
  | n + 1, i, hiL, hn => by
    intro g q Wt w ln u T t tp bt H locs ls hC hM hs hP hS hl
    obtain ⟨hx, hb, hr, hml, hown, hts0, hX, hbl, hlocks, hgv⟩ := id C0
    have hts := fun w h => hts0 w (wsL_law_in w h)
    have hbA : ¬ (fun q : Nat => s.heap.size ≤ q) b := Nat.not_le.mpr hbl
    have hown : s.vm.findClass RL = some m.cls := hown
    have hL31 : L < 2 ^ 31 := by omega
    refine lv_iload_n hx hb dL_law_18 rfl (lv_at hl 3 rfl) ?_
    refine lv_aload_n hx hb dL_law_19 rfl (lv_at hl 0 rfl) ?_
    refine va_slen hx hb hX hbl hbA hS dL_law_20 ?_
    refine W.eq (g2 := F0 m 21 ls (.int (nI L) :: .int (nI i) :: [])) rfl ?_
    refine lv_bipush (v := nI (6)) hx hb dL_law_21 (by decide) ?_
    refine lv_isub hx hb dL_law_23 ?_
    refine lv_icmp_gt (tgt := 827) hx hb dL_law_24 (by decide) (fun c9 => ?_) (fun c9 => ?_)
    · refine lv_iconst (v := 1) hx hb dL_law_827 (by decide) ?_
      refine va_forget (fun q hq => hS.2.2 q hq) ?_
      refine W.widen (k := 600000) (n := 7302250) (Nat.le_of_ble_eq_true rfl) (Nat.le_of_ble_eq_true rfl) ?_
      exact lw_ret hx hb hr hlocks dL_law_828
    · have hi : i + 6 ≤ L := lw_go (by omega) (by omega) c9
      have ih := law_loop (e := e) (below := below) l hL C0 hK hN hD n (i + 6) (by omega) (by omega)
      refine lv_aload_n hx hb dL_law_27 rfl (lv_at hl 0 rfl) ?_
      refine lv_iload_n hx hb dL_law_28 rfl (lv_at hl 3 rfl) ?_
      refine xs_ld hx hb hX hbl hbA hS (show i < L by omega) hL31 dL_law_29 ?_
      refine lv_bipush (v := nI (31)) hx hb dL_law_30 (by decide) ?_
      refine lv_iand hx hb dL_law_32 ?_
      obtain ⟨v, hv, ev⟩ := and31 (xs i)
      rw [ev]
      rcases (show v = 0 ∨ v = 1 ∨ v = 2 ∨ v = 3 ∨ v = 4 ∨ v = 5 ∨ v = 6 ∨ v = 7 ∨ v = 8 ∨ v = 9 ∨ v = 10 ∨ v = 11 ∨ v = 12 ∨ v = 13 ∨ v = 14 ∨ v = 15 ∨ v = 16 ∨ v = 17 ∨ v = 18 ∨ v = 19 ∨ v = 20 ∨ v = 21 ∨ 22 ≤ v by omega) with rfl | rfl | rfl | rfl | rfl | rfl | rfl | rfl | rfl | rfl | rfl | rfl | rfl | rfl | rfl | rfl | rfl | rfl | rfl | rfl | rfl | rfl | hv2
      · refine lv_tableIn (tgt := 136) hx hb dL_law_33 (by decide) (by decide) rfl (by decide) ?_
        exact lw_c0 l hL C0 hK hN hD hi hC hM hs hP hS hl ih
      · refine lv_tableIn (tgt := 199) hx hb dL_law_33 (by decide) (by decide) rfl (by decide) ?_
        exact lw_c1 l hL C0 hK hN hD hi hC hM hs hP hS hl ih
      · refine lv_tableIn (tgt := 242) hx hb dL_law_33 (by decide) (by decide) rfl (by decide) ?_
        exact lw_c2 l hL C0 hK hN hD hi hC hM hs hP hS hl ih
      · refine lv_tableIn (tgt := 265) hx hb dL_law_33 (by decide) (by decide) rfl (by decide) ?_
        exact lw_c3 l hL C0 hK hN hD hi hC hM hs hP hS hl ih
      · refine lv_tableIn (tgt := 298) hx hb dL_law_33 (by decide) (by decide) rfl (by decide) ?_
        exact lw_c4 l hL C0 hK hN hD hi hC hM hs hP hS hl ih
      · refine lv_tableIn (tgt := 331) hx hb dL_law_33 (by decide) (by decide) rfl (by decide) ?_
        exact lw_c5 l hL C0 hK hN hD hi hC hM hs hP hS hl ih
      · refine lv_tableIn (tgt := 364) hx hb dL_law_33 (by decide) (by decide) rfl (by decide) ?_
        exact lw_c6 l hL C0 hK hN hD hi hC hM hs hP hS hl ih
      · refine lv_tableIn (tgt := 397) hx hb dL_law_33 (by decide) (by decide) rfl (by decide) ?_
        exact lw_c7 l hL C0 hK hN hD hi hC hM hs hP hS hl ih
      · refine lv_tableIn (tgt := 430) hx hb dL_law_33 (by decide) (by decide) rfl (by decide) ?_
        exact lw_c8 l hL C0 hK hN hD hi hC hM hs hP hS hl ih
      · refine lv_tableIn (tgt := 463) hx hb dL_law_33 (by decide) (by decide) rfl (by decide) ?_
        exact lw_c9 l hL C0 hK hN hD hi hC hM hs hP hS hl ih
      · refine lv_tableIn (tgt := 496) hx hb dL_law_33 (by decide) (by decide) rfl (by decide) ?_
        exact lw_c10 l hL C0 hK hN hD hi hC hM hs hP hS hl ih
      · refine lv_tableIn (tgt := 519) hx hb dL_law_33 (by decide) (by decide) rfl (by decide) ?_
        exact lw_c11 l hL C0 hK hN hD hi hC hM hs hP hS hl ih
      · refine lv_tableIn (tgt := 530) hx hb dL_law_33 (by decide) (by decide) rfl (by decide) ?_
        exact lw_c12 l hL C0 hK hN hD hi hC hM hs hP hS hl ih
      · refine lv_tableIn (tgt := 553) hx hb dL_law_33 (by decide) (by decide) rfl (by decide) ?_
        exact lw_c13 l hL C0 hK hN hD hi hC hM hs hP hS hl ih
      · refine lv_tableIn (tgt := 567) hx hb dL_law_33 (by decide) (by decide) rfl (by decide) ?_
        exact lw_c14 l hL C0 hK hN hD hi hC hM hs hP hS hl ih
      · refine lv_tableIn (tgt := 581) hx hb dL_law_33 (by decide) (by decide) rfl (by decide) ?_
        exact lw_c15 l hL C0 hK hN hD hi hC hM hs hP hS hl ih
      · refine lv_tableIn (tgt := 651) hx hb dL_law_33 (by decide) (by decide) rfl (by decide) ?_
        exact lw_c16 l hL C0 hK hN hD hi hC hM hs hP hS hl ih
      · refine lv_tableIn (tgt := 685) hx hb dL_law_33 (by decide) (by decide) rfl (by decide) ?_
        exact lw_c17 l hL C0 hK hN hD hi hC hM hs hP hS hl ih
      · refine lv_tableIn (tgt := 709) hx hb dL_law_33 (by decide) (by decide) rfl (by decide) ?_
        exact lw_c18 l hL C0 hK hN hD hi hC hM hs hP hS hl ih
      · refine lv_tableIn (tgt := 742) hx hb dL_law_33 (by decide) (by decide) rfl (by decide) ?_
        exact lw_c19 l hL C0 hK hN hD hi hC hM hs hP hS hl ih
      · refine lv_tableIn (tgt := 765) hx hb dL_law_33 (by decide) (by decide) rfl (by decide) ?_
        exact lw_c20 l hL C0 hK hN hD hi hC hM hs hP hS hl ih
      · refine lv_tableIn (tgt := 788) hx hb dL_law_33 (by decide) (by decide) rfl (by decide) ?_
        exact lw_c21 l hL C0 hK hN hD hi hC hM hs hP hS hl ih
      · have ev2 : (nI v).toInt = (v : Int) := nI_toInt (by omega)
        refine lv_tableOut (tgt := 821) hx hb dL_law_33 (Or.inr (by rw [ev2]; omega)) (by decide) ?_
        refine lv_iinc (v := nI (i + 6)) (lv' := [(3, .int (nI (i + 6))), (0, .ref b), (1, .ref (ad 0)), (2, .ref (ad 62))]) hx hb dL_law_821 hl (k := 3) rfl (nI_add i 6) (by decide) rfl (fun ls hl => ?_)
        refine lv_goto (tgt := 18) hx hb dL_law_824 (by decide) ?_
        exact ih g q Wt w ln u T t tp bt H locs ls hC hM hs hP hS (lv_sub hl [1, 2, 3, 0] rfl)
