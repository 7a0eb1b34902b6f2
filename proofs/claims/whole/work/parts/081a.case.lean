/-! THE LAW'S LOOP: a call of it -/
theorem ModI.obj {cI cJ : ClassId} {ad : Nat → Nat} {g : Nat → va_E} {q Wt T : Nat} {w ln t : Nat → Nat} {u : Nat → Nat → Nat} {tp bt : Int64} (h : ModI cI cJ ad g q Wt w ln u T t tp bt) : ∃ fs, g 62 = .inr (6, fs) := by
  obtain ⟨sq, nu, de, fw, fsz, fwd, ftx, fos, foz, fgo, frw, fan, fad, frn, frd, fen, fed, fcn, fcd, fnw, fth, fo62, fa63, fa64, fa65, fa66, fa67, fa68, fa69, fa70, fa71, fa72, fa73, fa74, fa75, fa76, fa77, fa78, fa79, fa80, hfw, hsz, hwl, htx⟩ := h
  exact ⟨_, fo62⟩
theorem ModI.frame {cI cJ : ClassId} {ad : Nat → Nat} {g g2 : Nat → va_E} {q Wt T : Nat} {w ln t : Nat → Nat} {u : Nat → Nat → Nat} {tp bt : Int64} (h : ModI cI cJ ad g q Wt w ln u T t tp bt) (hf : ∀ j : Nat, 62 ≤ j → g2 j = g j) : ModI cI cJ ad g2 q Wt w ln u T t tp bt := by
  obtain ⟨sq, nu, de, fw, fsz, fwd, ftx, fos, foz, fgo, frw, fan, fad, frn, frd, fen, fed, fcn, fcd, fnw, fth, fo62, fa63, fa64, fa65, fa66, fa67, fa68, fa69, fa70, fa71, fa72, fa73, fa74, fa75, fa76, fa77, fa78, fa79, fa80, hfw, hsz, hwl, htx⟩ := h
  exact ⟨sq, nu, de, fw, fsz, fwd, ftx, fos, foz, fgo, frw, fan, fad, frn, frd, fen, fed, fcn, fcd, fnw, fth, by rw [hf 62 (by decide)]; exact fo62, by rw [hf 63 (by decide)]; exact fa63, by rw [hf 64 (by decide)]; exact fa64, by rw [hf 65 (by decide)]; exact fa65, by rw [hf 66 (by decide)]; exact fa66, by rw [hf 67 (by decide)]; exact fa67, by rw [hf 68 (by decide)]; exact fa68, by rw [hf 69 (by decide)]; exact fa69, by rw [hf 70 (by decide)]; exact fa70, by rw [hf 71 (by decide)]; exact fa71, by rw [hf 72 (by decide)]; exact fa72, by rw [hf 73 (by decide)]; exact fa73, by rw [hf 74 (by decide)]; exact fa74, by rw [hf 75 (by decide)]; exact fa75, by rw [hf 76 (by decide)]; exact fa76, by rw [hf 77 (by decide)]; exact fa77, by rw [hf 78 (by decide)]; exact fa78, by rw [hf 79 (by decide)]; exact fa79, by rw [hf 80 (by decide)]; exact fa80, hfw, hsz, hwl, htx⟩
theorem ClsI.frame {cI cJ cZ cW : ClassId} {ad : Nat → Nat} {g g2 : Nat → va_E} {q Wt T : Nat} {w ln t : Nat → Nat} {u : Nat → Nat → Nat} {tp bt : Int64} (h : ClsI cI cJ cZ cW ad g q Wt w ln u T t tp bt) (hf : ∀ j : Nat, j < 62 → g2 j = g j) : ClsI cI cJ cZ cW ad g2 q Wt w ln u T t tp bt := by
  obtain ⟨h0, ⟨f2, a1, a2, a3⟩, ⟨f3, b1, b2⟩, ⟨r5, r6, r7, sz, c1, c2, c3, c4⟩, ⟨m9, m10, m11, m12, m13, m14, ma, mb, mst, d0, d1, d2, d3, d4, d5, d6, d7⟩, ⟨f16, e1, e2, e3⟩, hw, ⟨fl, fh, ft, fs, le, co, ow, w1, w2, w3, w4, w5, w6, w7⟩⟩ := h
  refine ⟨by rw [hf 0 (by decide)]; exact h0, ⟨f2, by rw [hf 1 (by decide)]; exact a1, by rw [hf 2 (by decide)]; exact a2, a3⟩, ⟨f3, by rw [hf 3 (by decide)]; exact b1, b2⟩, ⟨r5, r6, r7, sz, by rw [hf 4 (by decide)]; exact c1, by rw [hf 5 (by decide)]; exact c2, by rw [hf 6 (by decide)]; exact c3, by rw [hf 7 (by decide)]; exact c4⟩, ⟨m9, m10, m11, m12, m13, m14, ma, mb, mst, d0, by rw [hf 8 (by decide)]; exact d1, by rw [hf 9 (by decide)]; exact d2, by rw [hf 10 (by decide)]; exact d3, by rw [hf 11 (by decide)]; exact d4, by rw [hf 12 (by decide)]; exact d5, by rw [hf 13 (by decide)]; exact d6, by rw [hf 14 (by decide)]; exact d7⟩, ⟨f16, by rw [hf 15 (by decide)]; exact e1, by rw [hf 16 (by decide)]; exact e2, e3⟩, fun k hk => ?_, ⟨fl, fh, ft, fs, le, co, ow, by rw [hf 57 (by decide)]; exact w1, by rw [hf (57 + 1) (by decide)]; exact w2, by rw [hf (57 + 2) (by decide)]; exact w3, by rw [hf (57 + 3) (by decide)]; exact w4, by rw [hf (57 + 4) (by decide)]; exact w5, w6, w7⟩⟩
  obtain ⟨fl, fh, ft, fs, co, ow, w1, w2, w3, w4, w5, w6⟩ := hw k hk
  exact ⟨fl, fh, ft, fs, co, ow, by rw [hf _ (by omega)]; exact w1, by rw [hf _ (by omega)]; exact w2, by rw [hf _ (by omega)]; exact w3, by rw [hf _ (by omega)]; exact w4, by rw [hf _ (by omega)]; exact w5, w6⟩
theorem and31 (x : Int32) : ∃ v, v < 32 ∧ x &&& nI 31 = nI v := by
  obtain ⟨j, hj, e⟩ := pk_andE x (m := 31) 5 (by decide)
  exact ⟨j, hj, e⟩
section XS
variable {p : Program} {l : Launch} {e : Env} {R : Room} {s : State} {m : MethodId} {args : Array Value} {below : List Frame} {meth : Method} {c : Code} {H : Heap} {locs : List Loc} {cells slots : Nat} {Q : State → Prop}
variable {cc : ByteArray} {pc : Nat} {ls : Array Slot} {rest : List Value} {A : Nat → Prop} {H0 : Heap}
theorem xs_ld (hexec : p.tables.exec = Jvm.exec) (hb : c.code = cc) {b L : Nat} {xs : Nat → Int32} (hX : va_X b L xs s H0) (hbl : b < H0.size) (hbA : ¬ A b) (hS : va_S A H0 H locs) {j : Nat} (hj : j < L) (hL : L < 2 ^ 31) (hdg : decode cc pc = .ok (.iaload, 1))
    (kk : W p l e R s m args below meth c H locs cells slots Q (F0 m (pc + 1) ls (.int (xs j) :: rest))) : W p l e R s m args below meth c H locs cells slots Q (F0 m pc ls (.int (nI j) :: .ref b :: rest)) :=
  va_sld hexec hb hX hbl hbA hS (vp_in_nI hj hL) hdg (by rw [nI_clamp (Nat.lt_trans hj hL)]; exact kk)
end XS
theorem lw_go {i L : Nat} (hi : i < 2 ^ 20) (hL : L < 2 ^ 20) (h : ¬ nI L - nI 6 < nI i) : i + 6 ≤ L := by
  rcases Nat.lt_or_ge L 6 with h6 | h6
  · exfalso
    apply h
    rw [Int32.lt_iff_toInt_lt, nI_toInt (by omega), Int32.toInt_sub, nI_toInt (by omega), nI_toInt (by decide)]
    rw [Int.bmod_eq_of_le (by omega) (by omega)]
    omega
  · rw [pk_sub h6] at h
    rcases Nat.lt_or_ge (L - 6) i with h2 | h2
    · exact absurd (nI_lt h2 (by omega)) h
    · omega
set_option maxHeartbeats 4000000 in
set_option maxRecDepth 100000 in
/-- source -/
theorem lw_c0 {p : Program} {e : Env} {s : State} {m : MethodId} {below : List Frame} {meth : Method} {c : Code} (l : Launch) {b L : Nat} {xs : Nat → Int32} (hL : L ≤ 3072) (C0 : lw_At p s m meth c b L xs) {D : va_G} {cI cJ cZ cW : ClassId} {ad : Nat → Nat} (hK : va_K D vwCl (xT cI cJ cZ cW) s) (hN : va_Nw (.methodLinkNest RX4 33 yX5_power RX5) s) (hD : ∀ g, va_D (fun q : Nat => s.heap.size ≤ q) (xw 81 ad g)) {i : Nat} (hi : i + 6 ≤ L) {g : Nat → va_E} {q Wt : Nat} {w : Nat → Nat} {ln : Nat → Nat} {u : Nat → Nat → Nat} {T : Nat} {t : Nat → Nat} {tp bt : Int64} (hC : ClsI cI cJ cZ cW ad g q Wt w ln u T t tp bt) (hM : ModI cI cJ ad g q Wt w ln u T t tp bt) (hs : SrcI q Wt w ln u T t) {H : Heap} {locs : List Loc} (hP : va_P D vwCl (xw 81 ad g) H) (hS : va_S (fun q : Nat => s.heap.size ≤ q) s.heap H locs) {ls : Array Slot} (hl : lv_has ls 4 [(0, .ref b), (1, .ref (ad 0)), (2, .ref (ad 62)), (3, .int (nI (i)))]) (ih : ∀ (g : Nat → va_E) (q Wt : Nat) (w ln : Nat → Nat) (u : Nat → Nat → Nat) (T : Nat) (t : Nat → Nat) (tp bt : Int64) (H : Heap) (locs : List Loc) (ls : Array Slot), ClsI cI cJ cZ cW ad g q Wt w ln u T t tp bt → ModI cI cJ ad g q Wt w ln u T t tp bt → SrcI q Wt w ln u T t → va_P D vwCl (xw 81 ad g) H → va_S (fun q : Nat => s.heap.size ≤ q) s.heap H locs → lv_has ls 4 [(0, .ref b), (1, .ref (ad 0)), (2, .ref (ad 62)), (3, .int (nI (i + 6)))] → W p l e room_1 s m #[Value.ref b] below meth c H locs 81 34932 (lw_Z below #[Value.ref b] s) (F0 m 18 ls [])) : W p l e room_1 s m #[Value.ref b] below meth c H locs 81 34932 (lw_Z below #[Value.ref b] s) (F0 m 136 ls []) := by
  obtain ⟨hx, hb, hr, hml, hown, hts0, hX, hbl, hlocks, hgv⟩ := id C0
  have hts := fun w h => hts0 w (wsL_law_in w h)
  have hbA : ¬ (fun q : Nat => s.heap.size ≤ q) b := Nat.not_le.mpr hbl
  have hown : s.vm.findClass RL = some m.cls := hown
  have hL31 : L < 2 ^ 31 := by omega
  refine lv_aload_n hx hb dL_law_136 rfl (lv_at hl 1 rfl) ?_
  refine lv_aload_n hx hb dL_law_137 rfl (lv_at hl 0 rfl) ?_
  refine lv_iload_n hx hb dL_law_138 rfl (lv_at hl 3 rfl) ?_
  refine lv_iconst (v := nI (1)) hx hb dL_law_139 (by decide) ?_
  refine xi_add hx hb dL_law_140 ?_
  refine xs_ld hx hb hX hbl hbA hS (show i + 1 < L by omega) hL31 dL_law_141 ?_
  refine lv_aload_n hx hb dL_law_142 rfl (lv_at hl 0 rfl) ?_
  refine lv_iload_n hx hb dL_law_143 rfl (lv_at hl 3 rfl) ?_
  refine lv_iconst (v := nI (2)) hx hb dL_law_144 (by decide) ?_
  refine xi_add hx hb dL_law_145 ?_
  refine xs_ld hx hb hX hbl hbA hS (show i + 2 < L by omega) hL31 dL_law_146 ?_
  refine lv_aload_n hx hb dL_law_147 rfl (lv_at hl 0 rfl) ?_
  refine lv_iload_n hx hb dL_law_148 rfl (lv_at hl 3 rfl) ?_
  refine lv_iconst (v := nI (3)) hx hb dL_law_149 (by decide) ?_
  refine xi_add hx hb dL_law_150 ?_
  refine xs_ld hx hb hX hbl hbA hS (show i + 3 < L by omega) hL31 dL_law_151 ?_
  refine lv_aload_n hx hb dL_law_152 rfl (lv_at hl 0 rfl) ?_
  refine lv_iload_n hx hb dL_law_153 rfl (lv_at hl 3 rfl) ?_
  refine lv_iconst (v := nI (4)) hx hb dL_law_154 (by decide) ?_
  refine xi_add hx hb dL_law_155 ?_
  refine xs_ld hx hb hX hbl hbA hS (show i + 4 < L by omega) hL31 dL_law_156 ?_
  refine lv_aload_n hx hb dL_law_157 rfl (lv_at hl 0 rfl) ?_
  refine lv_iload_n hx hb dL_law_158 rfl (lv_at hl 3 rfl) ?_
  refine lv_iconst (v := nI (5)) hx hb dL_law_159 (by decide) ?_
  refine xi_add hx hb dL_law_160 ?_
  refine xs_ld hx hb hX hbl hbA hS (show i + 5 < L by omega) hL31 dL_law_161 ?_
  obtain ⟨r, q2, Wt2, w2, ln2, u2, T2, t2, tp2, bt2, hs2, hCc, hMm⟩ := pr_source l hD hs (tp := tp) (bt := bt) (cI := cI) (cJ := cJ) (cZ := cZ) (cW := cW) (D := D) (xs (i + 1)) (xs (i + 2)) (xs (i + 3)) (xs (i + 4)) (xs (i + 5))
  refine va_calli (va_runV (As := [.int (xs (i + 1)), .int (xs (i + 2)), .int (xs (i + 3)), .int (xs (i + 4)), .int (xs (i + 5))]) (rest := []) ⟨hx, hb, hml, hown, hts⟩ (hCc g hC) (cwV 5 hts gL_law_X5_source rfl rfl rfl (by decide +kernel) ⟨Nat.le_of_ble_eq_true rfl, Nat.le_of_ble_eq_true rfl⟩) ⟨xB_blind, va_recv hK hP (ci := 5) rfl (xw_is (by decide) hC.1), fun U hU hW => ⟨rfl, by rw [hU]; exact hP, va_K.moved hW.alike hK, va_Nw.warmM hW hN⟩⟩ rfl rfl hl.1 rfl (lv_room (Nat.le_of_ble_eq_true rfl)) dL_law_162 ⟨Nat.le_of_ble_eq_true rfl, Nat.le_of_ble_eq_true rfl⟩) hS (fun _ _ h => h) (fun _ h => h) (fun r9 g1 tZ H locs ht hvm hw hB hzZ hkZ hS => ?_)
  obtain ⟨hP, -⟩ := hB
  rw [ht] at hP
  obtain ⟨er, hC1, hf1⟩ := hw
  rw [er]
  have hM1 := hM.frame hf1
  refine lv_aload_n hx hb dL_law_165 rfl (lv_at hl 2 rfl) ?_
  refine lv_aload_n hx hb dL_law_166 rfl (lv_at hl 0 rfl) ?_
  refine lv_iload_n hx hb dL_law_167 rfl (lv_at hl 3 rfl) ?_
  refine lv_iconst (v := nI (1)) hx hb dL_law_168 (by decide) ?_
  refine xi_add hx hb dL_law_169 ?_
  refine xs_ld hx hb hX hbl hbA hS (show i + 1 < L by omega) hL31 dL_law_170 ?_
  refine lv_aload_n hx hb dL_law_171 rfl (lv_at hl 0 rfl) ?_
  refine lv_iload_n hx hb dL_law_172 rfl (lv_at hl 3 rfl) ?_
  refine lv_iconst (v := nI (2)) hx hb dL_law_173 (by decide) ?_
  refine xi_add hx hb dL_law_174 ?_
  refine xs_ld hx hb hX hbl hbA hS (show i + 2 < L by omega) hL31 dL_law_175 ?_
  refine lv_aload_n hx hb dL_law_176 rfl (lv_at hl 0 rfl) ?_
  refine lv_iload_n hx hb dL_law_177 rfl (lv_at hl 3 rfl) ?_
  refine lv_iconst (v := nI (3)) hx hb dL_law_178 (by decide) ?_
  refine xi_add hx hb dL_law_179 ?_
  refine xs_ld hx hb hX hbl hbA hS (show i + 3 < L by omega) hL31 dL_law_180 ?_
  refine lv_aload_n hx hb dL_law_181 rfl (lv_at hl 0 rfl) ?_
  refine lv_iload_n hx hb dL_law_182 rfl (lv_at hl 3 rfl) ?_
  refine lv_iconst (v := nI (4)) hx hb dL_law_183 (by decide) ?_
  refine xi_add hx hb dL_law_184 ?_
  refine xs_ld hx hb hX hbl hbA hS (show i + 4 < L by omega) hL31 dL_law_185 ?_
  refine lv_aload_n hx hb dL_law_186 rfl (lv_at hl 0 rfl) ?_
  refine lv_iload_n hx hb dL_law_187 rfl (lv_at hl 3 rfl) ?_
  refine lv_iconst (v := nI (5)) hx hb dL_law_188 (by decide) ?_
  refine xi_add hx hb dL_law_189 ?_
  refine xs_ld hx hb hX hbl hbA hS (show i + 5 < L by omega) hL31 dL_law_190 ?_
  obtain ⟨fs6, hfo⟩ := hM1.obj
  refine va_calli (va_runV (As := [.int (xs (i + 1)), .int (xs (i + 2)), .int (xs (i + 3)), .int (xs (i + 4)), .int (xs (i + 5))]) (rest := [.int r]) ⟨hx, hb, hml, hown, hts⟩ (hMm g1 hM1) (cwV 5 hts gL_law_X6_source rfl rfl rfl (by decide +kernel) ⟨Nat.le_of_ble_eq_true rfl, Nat.le_of_ble_eq_true rfl⟩) ⟨xB_blind, va_recv hK hP (ci := 6) rfl (xw_is (by decide) hfo), fun U hU hW => ⟨rfl, by rw [hU]; exact hP, va_K.moved hW.alike hK, va_Nw.warmM hW hN⟩⟩ rfl rfl hl.1 rfl (lv_room (Nat.le_of_ble_eq_true rfl)) dL_law_191 ⟨Nat.le_of_ble_eq_true rfl, Nat.le_of_ble_eq_true rfl⟩) hS (fun _ _ h => h) (fun _ h => h) (fun r9 g2 tZ H locs ht hvm hw hB hzZ hkZ hS => ?_)
  obtain ⟨hP, -⟩ := hB
  rw [ht] at hP
  obtain ⟨er, hM2, hf2⟩ := hw
  rw [er]
  have hC2 := hC1.frame hf2
  refine lv_icmp_eq (tgt := 821) hx hb dL_law_194 (by decide) (fun _ => ?_) (fun c9 => absurd rfl c9)
  refine lv_iinc (v := nI (i + 6)) (lv' := [(3, .int (nI (i + 6))), (0, .ref b), (1, .ref (ad 0)), (2, .ref (ad 62))]) hx hb dL_law_821 hl (k := 3) rfl (nI_add i 6) (by decide) rfl (fun ls hl => ?_)
  refine lv_goto (tgt := 18) hx hb dL_law_824 (by decide) ?_
  exact ih g2 q2 Wt2 w2 ln2 u2 T2 t2 tp2 bt2 H locs ls hC2 hM2 hs2 hP hS (lv_sub hl [1, 2, 3, 0] rfl)

set_option maxHeartbeats 4000000 in
set_option maxRecDepth 100000 in
/-- word -/
theorem lw_c1 {p : Program} {e : Env} {s : State} {m : MethodId} {below : List Frame} {meth : Method} {c : Code} (l : Launch) {b L : Nat} {xs : Nat → Int32} (hL : L ≤ 3072) (C0 : lw_At p s m meth c b L xs) {D : va_G} {cI cJ cZ cW : ClassId} {ad : Nat → Nat} (hK : va_K D vwCl (xT cI cJ cZ cW) s) (hN : va_Nw (.methodLinkNest RX4 33 yX5_power RX5) s) (hD : ∀ g, va_D (fun q : Nat => s.heap.size ≤ q) (xw 81 ad g)) {i : Nat} (hi : i + 6 ≤ L) {g : Nat → va_E} {q Wt : Nat} {w : Nat → Nat} {ln : Nat → Nat} {u : Nat → Nat → Nat} {T : Nat} {t : Nat → Nat} {tp bt : Int64} (hC : ClsI cI cJ cZ cW ad g q Wt w ln u T t tp bt) (hM : ModI cI cJ ad g q Wt w ln u T t tp bt) (hs : SrcI q Wt w ln u T t) {H : Heap} {locs : List Loc} (hP : va_P D vwCl (xw 81 ad g) H) (hS : va_S (fun q : Nat => s.heap.size ≤ q) s.heap H locs) {ls : Array Slot} (hl : lv_has ls 4 [(0, .ref b), (1, .ref (ad 0)), (2, .ref (ad 62)), (3, .int (nI (i)))]) (ih : ∀ (g : Nat → va_E) (q Wt : Nat) (w ln : Nat → Nat) (u : Nat → Nat → Nat) (T : Nat) (t : Nat → Nat) (tp bt : Int64) (H : Heap) (locs : List Loc) (ls : Array Slot), ClsI cI cJ cZ cW ad g q Wt w ln u T t tp bt → ModI cI cJ ad g q Wt w ln u T t tp bt → SrcI q Wt w ln u T t → va_P D vwCl (xw 81 ad g) H → va_S (fun q : Nat => s.heap.size ≤ q) s.heap H locs → lv_has ls 4 [(0, .ref b), (1, .ref (ad 0)), (2, .ref (ad 62)), (3, .int (nI (i + 6)))] → W p l e room_1 s m #[Value.ref b] below meth c H locs 81 34932 (lw_Z below #[Value.ref b] s) (F0 m 18 ls [])) : W p l e room_1 s m #[Value.ref b] below meth c H locs 81 34932 (lw_Z below #[Value.ref b] s) (F0 m 199 ls []) := by
  obtain ⟨hx, hb, hr, hml, hown, hts0, hX, hbl, hlocks, hgv⟩ := id C0
  have hts := fun w h => hts0 w (wsL_law_in w h)
  have hbA : ¬ (fun q : Nat => s.heap.size ≤ q) b := Nat.not_le.mpr hbl
  have hown : s.vm.findClass RL = some m.cls := hown
  have hL31 : L < 2 ^ 31 := by omega
  refine lv_aload_n hx hb dL_law_199 rfl (lv_at hl 1 rfl) ?_
  refine lv_aload_n hx hb dL_law_200 rfl (lv_at hl 0 rfl) ?_
  refine lv_iload_n hx hb dL_law_201 rfl (lv_at hl 3 rfl) ?_
  refine lv_iconst (v := nI (1)) hx hb dL_law_202 (by decide) ?_
  refine xi_add hx hb dL_law_203 ?_
  refine xs_ld hx hb hX hbl hbA hS (show i + 1 < L by omega) hL31 dL_law_204 ?_
  refine lv_aload_n hx hb dL_law_205 rfl (lv_at hl 0 rfl) ?_
  refine lv_iload_n hx hb dL_law_206 rfl (lv_at hl 3 rfl) ?_
  refine lv_iconst (v := nI (2)) hx hb dL_law_207 (by decide) ?_
  refine xi_add hx hb dL_law_208 ?_
  refine xs_ld hx hb hX hbl hbA hS (show i + 2 < L by omega) hL31 dL_law_209 ?_
  refine lv_aload_n hx hb dL_law_210 rfl (lv_at hl 0 rfl) ?_
  refine lv_iload_n hx hb dL_law_211 rfl (lv_at hl 3 rfl) ?_
  refine lv_iconst (v := nI (3)) hx hb dL_law_212 (by decide) ?_
  refine xi_add hx hb dL_law_213 ?_
  refine xs_ld hx hb hX hbl hbA hS (show i + 3 < L by omega) hL31 dL_law_214 ?_
  obtain ⟨r, q2, Wt2, w2, ln2, u2, T2, t2, tp2, bt2, hs2, hCc, hMm⟩ := pr_word l hD hs (tp := tp) (bt := bt) (cI := cI) (cJ := cJ) (cZ := cZ) (cW := cW) (D := D) (xs (i + 1)) (xs (i + 2)) (xs (i + 3))
  refine va_calli (va_runV (As := [.int (xs (i + 1)), .int (xs (i + 2)), .int (xs (i + 3))]) (rest := []) ⟨hx, hb, hml, hown, hts⟩ (hCc g hC) (cwV 3 hts gL_law_X5_word rfl rfl rfl (by decide +kernel) ⟨Nat.le_of_ble_eq_true rfl, Nat.le_of_ble_eq_true rfl⟩) ⟨xB_blind, va_recv hK hP (ci := 5) rfl (xw_is (by decide) hC.1), fun U hU hW => ⟨rfl, by rw [hU]; exact hP, va_K.moved hW.alike hK, va_Nw.warmM hW hN⟩⟩ rfl rfl hl.1 rfl (lv_room (Nat.le_of_ble_eq_true rfl)) dL_law_215 ⟨Nat.le_of_ble_eq_true rfl, Nat.le_of_ble_eq_true rfl⟩) hS (fun _ _ h => h) (fun _ h => h) (fun r9 g1 tZ H locs ht hvm hw hB hzZ hkZ hS => ?_)
  obtain ⟨hP, -⟩ := hB
  rw [ht] at hP
  obtain ⟨er, hC1, hf1⟩ := hw
  rw [er]
  have hM1 := hM.frame hf1
  refine lv_aload_n hx hb dL_law_218 rfl (lv_at hl 2 rfl) ?_
  refine lv_aload_n hx hb dL_law_219 rfl (lv_at hl 0 rfl) ?_
  refine lv_iload_n hx hb dL_law_220 rfl (lv_at hl 3 rfl) ?_
  refine lv_iconst (v := nI (1)) hx hb dL_law_221 (by decide) ?_
  refine xi_add hx hb dL_law_222 ?_
  refine xs_ld hx hb hX hbl hbA hS (show i + 1 < L by omega) hL31 dL_law_223 ?_
  refine lv_aload_n hx hb dL_law_224 rfl (lv_at hl 0 rfl) ?_
  refine lv_iload_n hx hb dL_law_225 rfl (lv_at hl 3 rfl) ?_
  refine lv_iconst (v := nI (2)) hx hb dL_law_226 (by decide) ?_
  refine xi_add hx hb dL_law_227 ?_
  refine xs_ld hx hb hX hbl hbA hS (show i + 2 < L by omega) hL31 dL_law_228 ?_
  refine lv_aload_n hx hb dL_law_229 rfl (lv_at hl 0 rfl) ?_
  refine lv_iload_n hx hb dL_law_230 rfl (lv_at hl 3 rfl) ?_
  refine lv_iconst (v := nI (3)) hx hb dL_law_231 (by decide) ?_
  refine xi_add hx hb dL_law_232 ?_
  refine xs_ld hx hb hX hbl hbA hS (show i + 3 < L by omega) hL31 dL_law_233 ?_
  obtain ⟨fs6, hfo⟩ := hM1.obj
  refine va_calli (va_runV (As := [.int (xs (i + 1)), .int (xs (i + 2)), .int (xs (i + 3))]) (rest := [.int r]) ⟨hx, hb, hml, hown, hts⟩ (hMm g1 hM1) (cwV 3 hts gL_law_X6_word rfl rfl rfl (by decide +kernel) ⟨Nat.le_of_ble_eq_true rfl, Nat.le_of_ble_eq_true rfl⟩) ⟨xB_blind, va_recv hK hP (ci := 6) rfl (xw_is (by decide) hfo), fun U hU hW => ⟨rfl, by rw [hU]; exact hP, va_K.moved hW.alike hK, va_Nw.warmM hW hN⟩⟩ rfl rfl hl.1 rfl (lv_room (Nat.le_of_ble_eq_true rfl)) dL_law_234 ⟨Nat.le_of_ble_eq_true rfl, Nat.le_of_ble_eq_true rfl⟩) hS (fun _ _ h => h) (fun _ h => h) (fun r9 g2 tZ H locs ht hvm hw hB hzZ hkZ hS => ?_)
  obtain ⟨hP, -⟩ := hB
  rw [ht] at hP
  obtain ⟨er, hM2, hf2⟩ := hw
  rw [er]
  have hC2 := hC1.frame hf2
  refine lv_icmp_eq (tgt := 821) hx hb dL_law_237 (by decide) (fun _ => ?_) (fun c9 => absurd rfl c9)
  refine lv_iinc (v := nI (i + 6)) (lv' := [(3, .int (nI (i + 6))), (0, .ref b), (1, .ref (ad 0)), (2, .ref (ad 62))]) hx hb dL_law_821 hl (k := 3) rfl (nI_add i 6) (by decide) rfl (fun ls hl => ?_)
  refine lv_goto (tgt := 18) hx hb dL_law_824 (by decide) ?_
  exact ih g2 q2 Wt2 w2 ln2 u2 T2 t2 tp2 bt2 H locs ls hC2 hM2 hs2 hP hS (lv_sub hl [1, 2, 3, 0] rfl)

set_option maxHeartbeats 4000000 in
set_option maxRecDepth 100000 in
/-- drop -/
theorem lw_c2 {p : Program} {e : Env} {s : State} {m : MethodId} {below : List Frame} {meth : Method} {c : Code} (l : Launch) {b L : Nat} {xs : Nat → Int32} (hL : L ≤ 3072) (C0 : lw_At p s m meth c b L xs) {D : va_G} {cI cJ cZ cW : ClassId} {ad : Nat → Nat} (hK : va_K D vwCl (xT cI cJ cZ cW) s) (hN : va_Nw (.methodLinkNest RX4 33 yX5_power RX5) s) (hD : ∀ g, va_D (fun q : Nat => s.heap.size ≤ q) (xw 81 ad g)) {i : Nat} (hi : i + 6 ≤ L) {g : Nat → va_E} {q Wt : Nat} {w : Nat → Nat} {ln : Nat → Nat} {u : Nat → Nat → Nat} {T : Nat} {t : Nat → Nat} {tp bt : Int64} (hC : ClsI cI cJ cZ cW ad g q Wt w ln u T t tp bt) (hM : ModI cI cJ ad g q Wt w ln u T t tp bt) (hs : SrcI q Wt w ln u T t) {H : Heap} {locs : List Loc} (hP : va_P D vwCl (xw 81 ad g) H) (hS : va_S (fun q : Nat => s.heap.size ≤ q) s.heap H locs) {ls : Array Slot} (hl : lv_has ls 4 [(0, .ref b), (1, .ref (ad 0)), (2, .ref (ad 62)), (3, .int (nI (i)))]) (ih : ∀ (g : Nat → va_E) (q Wt : Nat) (w ln : Nat → Nat) (u : Nat → Nat → Nat) (T : Nat) (t : Nat → Nat) (tp bt : Int64) (H : Heap) (locs : List Loc) (ls : Array Slot), ClsI cI cJ cZ cW ad g q Wt w ln u T t tp bt → ModI cI cJ ad g q Wt w ln u T t tp bt → SrcI q Wt w ln u T t → va_P D vwCl (xw 81 ad g) H → va_S (fun q : Nat => s.heap.size ≤ q) s.heap H locs → lv_has ls 4 [(0, .ref b), (1, .ref (ad 0)), (2, .ref (ad 62)), (3, .int (nI (i + 6)))] → W p l e room_1 s m #[Value.ref b] below meth c H locs 81 34932 (lw_Z below #[Value.ref b] s) (F0 m 18 ls [])) : W p l e room_1 s m #[Value.ref b] below meth c H locs 81 34932 (lw_Z below #[Value.ref b] s) (F0 m 242 ls []) := by
  obtain ⟨hx, hb, hr, hml, hown, hts0, hX, hbl, hlocks, hgv⟩ := id C0
  have hts := fun w h => hts0 w (wsL_law_in w h)
  have hbA : ¬ (fun q : Nat => s.heap.size ≤ q) b := Nat.not_le.mpr hbl
  have hown : s.vm.findClass RL = some m.cls := hown
  have hL31 : L < 2 ^ 31 := by omega
  refine lv_aload_n hx hb dL_law_242 rfl (lv_at hl 1 rfl) ?_
  refine lv_aload_n hx hb dL_law_243 rfl (lv_at hl 0 rfl) ?_
  refine lv_iload_n hx hb dL_law_244 rfl (lv_at hl 3 rfl) ?_
  refine lv_iconst (v := nI (1)) hx hb dL_law_245 (by decide) ?_
  refine xi_add hx hb dL_law_246 ?_
  refine xs_ld hx hb hX hbl hbA hS (show i + 1 < L by omega) hL31 dL_law_247 ?_
  obtain ⟨r, q2, Wt2, w2, ln2, u2, T2, t2, tp2, bt2, hs2, hCc, hMm⟩ := pr_drop l hD hs (tp := tp) (bt := bt) (cI := cI) (cJ := cJ) (cZ := cZ) (cW := cW) (D := D) (xs (i + 1))
  refine va_calli (va_runV (As := [.int (xs (i + 1))]) (rest := []) ⟨hx, hb, hml, hown, hts⟩ (hCc g hC) (cwV 1 hts gL_law_X5_drop rfl rfl rfl (by decide +kernel) ⟨Nat.le_of_ble_eq_true rfl, Nat.le_of_ble_eq_true rfl⟩) ⟨xB_blind, va_recv hK hP (ci := 5) rfl (xw_is (by decide) hC.1), fun U hU hW => ⟨rfl, by rw [hU]; exact hP, va_K.moved hW.alike hK, va_Nw.warmM hW hN⟩⟩ rfl rfl hl.1 rfl (lv_room (Nat.le_of_ble_eq_true rfl)) dL_law_248 ⟨Nat.le_of_ble_eq_true rfl, Nat.le_of_ble_eq_true rfl⟩) hS (fun _ _ h => h) (fun _ h => h) (fun r9 g1 tZ H locs ht hvm hw hB hzZ hkZ hS => ?_)
  obtain ⟨hP, -⟩ := hB
  rw [ht] at hP
  obtain ⟨er, hC1, hf1⟩ := hw
  rw [er]
  have hM1 := hM.frame hf1
  refine lv_aload_n hx hb dL_law_251 rfl (lv_at hl 2 rfl) ?_
  refine lv_aload_n hx hb dL_law_252 rfl (lv_at hl 0 rfl) ?_
  refine lv_iload_n hx hb dL_law_253 rfl (lv_at hl 3 rfl) ?_
  refine lv_iconst (v := nI (1)) hx hb dL_law_254 (by decide) ?_
  refine xi_add hx hb dL_law_255 ?_
  refine xs_ld hx hb hX hbl hbA hS (show i + 1 < L by omega) hL31 dL_law_256 ?_
  obtain ⟨fs6, hfo⟩ := hM1.obj
  refine va_calli (va_runV (As := [.int (xs (i + 1))]) (rest := [.int r]) ⟨hx, hb, hml, hown, hts⟩ (hMm g1 hM1) (cwV 1 hts gL_law_X6_drop rfl rfl rfl (by decide +kernel) ⟨Nat.le_of_ble_eq_true rfl, Nat.le_of_ble_eq_true rfl⟩) ⟨xB_blind, va_recv hK hP (ci := 6) rfl (xw_is (by decide) hfo), fun U hU hW => ⟨rfl, by rw [hU]; exact hP, va_K.moved hW.alike hK, va_Nw.warmM hW hN⟩⟩ rfl rfl hl.1 rfl (lv_room (Nat.le_of_ble_eq_true rfl)) dL_law_257 ⟨Nat.le_of_ble_eq_true rfl, Nat.le_of_ble_eq_true rfl⟩) hS (fun _ _ h => h) (fun _ h => h) (fun r9 g2 tZ H locs ht hvm hw hB hzZ hkZ hS => ?_)
  obtain ⟨hP, -⟩ := hB
  rw [ht] at hP
  obtain ⟨er, hM2, hf2⟩ := hw
  rw [er]
  have hC2 := hC1.frame hf2
  refine lv_icmp_eq (tgt := 821) hx hb dL_law_260 (by decide) (fun _ => ?_) (fun c9 => absurd rfl c9)
  refine lv_iinc (v := nI (i + 6)) (lv' := [(3, .int (nI (i + 6))), (0, .ref b), (1, .ref (ad 0)), (2, .ref (ad 62))]) hx hb dL_law_821 hl (k := 3) rfl (nI_add i 6) (by decide) rfl (fun ls hl => ?_)
  refine lv_goto (tgt := 18) hx hb dL_law_824 (by decide) ?_
  exact ih g2 q2 Wt2 w2 ln2 u2 T2 t2 tp2 bt2 H locs ls hC2 hM2 hs2 hP hS (lv_sub hl [1, 2, 3, 0] rfl)

set_option maxHeartbeats 4000000 in
set_option maxRecDepth 100000 in
/-- tell -/
theorem lw_c3 {p : Program} {e : Env} {s : State} {m : MethodId} {below : List Frame} {meth : Method} {c : Code} (l : Launch) {b L : Nat} {xs : Nat → Int32} (hL : L ≤ 3072) (C0 : lw_At p s m meth c b L xs) {D : va_G} {cI cJ cZ cW : ClassId} {ad : Nat → Nat} (hK : va_K D vwCl (xT cI cJ cZ cW) s) (hN : va_Nw (.methodLinkNest RX4 33 yX5_power RX5) s) (hD : ∀ g, va_D (fun q : Nat => s.heap.size ≤ q) (xw 81 ad g)) {i : Nat} (hi : i + 6 ≤ L) {g : Nat → va_E} {q Wt : Nat} {w : Nat → Nat} {ln : Nat → Nat} {u : Nat → Nat → Nat} {T : Nat} {t : Nat → Nat} {tp bt : Int64} (hC : ClsI cI cJ cZ cW ad g q Wt w ln u T t tp bt) (hM : ModI cI cJ ad g q Wt w ln u T t tp bt) (hs : SrcI q Wt w ln u T t) {H : Heap} {locs : List Loc} (hP : va_P D vwCl (xw 81 ad g) H) (hS : va_S (fun q : Nat => s.heap.size ≤ q) s.heap H locs) {ls : Array Slot} (hl : lv_has ls 4 [(0, .ref b), (1, .ref (ad 0)), (2, .ref (ad 62)), (3, .int (nI (i)))]) (ih : ∀ (g : Nat → va_E) (q Wt : Nat) (w ln : Nat → Nat) (u : Nat → Nat → Nat) (T : Nat) (t : Nat → Nat) (tp bt : Int64) (H : Heap) (locs : List Loc) (ls : Array Slot), ClsI cI cJ cZ cW ad g q Wt w ln u T t tp bt → ModI cI cJ ad g q Wt w ln u T t tp bt → SrcI q Wt w ln u T t → va_P D vwCl (xw 81 ad g) H → va_S (fun q : Nat => s.heap.size ≤ q) s.heap H locs → lv_has ls 4 [(0, .ref b), (1, .ref (ad 0)), (2, .ref (ad 62)), (3, .int (nI (i + 6)))] → W p l e room_1 s m #[Value.ref b] below meth c H locs 81 34932 (lw_Z below #[Value.ref b] s) (F0 m 18 ls [])) : W p l e room_1 s m #[Value.ref b] below meth c H locs 81 34932 (lw_Z below #[Value.ref b] s) (F0 m 265 ls []) := by
  obtain ⟨hx, hb, hr, hml, hown, hts0, hX, hbl, hlocks, hgv⟩ := id C0
  have hts := fun w h => hts0 w (wsL_law_in w h)
  have hbA : ¬ (fun q : Nat => s.heap.size ≤ q) b := Nat.not_le.mpr hbl
  have hown : s.vm.findClass RL = some m.cls := hown
  have hL31 : L < 2 ^ 31 := by omega
  refine lv_aload_n hx hb dL_law_265 rfl (lv_at hl 1 rfl) ?_
  refine lv_aload_n hx hb dL_law_266 rfl (lv_at hl 0 rfl) ?_
  refine lv_iload_n hx hb dL_law_267 rfl (lv_at hl 3 rfl) ?_
  refine lv_iconst (v := nI (1)) hx hb dL_law_268 (by decide) ?_
  refine xi_add hx hb dL_law_269 ?_
  refine xs_ld hx hb hX hbl hbA hS (show i + 1 < L by omega) hL31 dL_law_270 ?_
  refine lv_aload_n hx hb dL_law_271 rfl (lv_at hl 0 rfl) ?_
  refine lv_iload_n hx hb dL_law_272 rfl (lv_at hl 3 rfl) ?_
  refine lv_iconst (v := nI (2)) hx hb dL_law_273 (by decide) ?_
  refine xi_add hx hb dL_law_274 ?_
  refine xs_ld hx hb hX hbl hbA hS (show i + 2 < L by omega) hL31 dL_law_275 ?_
  obtain ⟨r, hCc, hMm⟩ := pr_tell l hD hs (tp := tp) (bt := bt) (cI := cI) (cJ := cJ) (cZ := cZ) (cW := cW) (D := D) (xs (i + 1)) (xs (i + 2))
  refine vp_callSi (va_Run.run (va_runV (As := [.int (xs (i + 1)), .int (xs (i + 2))]) (rest := []) ⟨hx, hb, hml, hown, hts⟩ (hCc g hC) (cwV 2 hts gL_law_X5_tell rfl rfl rfl (by decide +kernel) ⟨Nat.le_of_ble_eq_true rfl, Nat.le_of_ble_eq_true rfl⟩) ⟨xB_blind, va_recv hK hP (ci := 5) rfl (xw_is (by decide) hC.1), fun U hU hW => ⟨rfl, by rw [hU]; exact hP, va_K.moved hW.alike hK, va_Nw.warmM hW hN⟩⟩ rfl rfl hl.1 rfl (lv_room (Nat.le_of_ble_eq_true rfl)) dL_law_276 ⟨Nat.le_of_ble_eq_true rfl, Nat.le_of_ble_eq_true rfl⟩)) (fun r9 er9 => ?_)
  rw [er9]
  refine lv_aload_n hx hb dL_law_279 rfl (lv_at hl 2 rfl) ?_
  refine lv_aload_n hx hb dL_law_280 rfl (lv_at hl 0 rfl) ?_
  refine lv_iload_n hx hb dL_law_281 rfl (lv_at hl 3 rfl) ?_
  refine lv_iconst (v := nI (1)) hx hb dL_law_282 (by decide) ?_
  refine xi_add hx hb dL_law_283 ?_
  refine xs_ld hx hb hX hbl hbA hS (show i + 1 < L by omega) hL31 dL_law_284 ?_
  refine lv_aload_n hx hb dL_law_285 rfl (lv_at hl 0 rfl) ?_
  refine lv_iload_n hx hb dL_law_286 rfl (lv_at hl 3 rfl) ?_
  refine lv_iconst (v := nI (2)) hx hb dL_law_287 (by decide) ?_
  refine xi_add hx hb dL_law_288 ?_
  refine xs_ld hx hb hX hbl hbA hS (show i + 2 < L by omega) hL31 dL_law_289 ?_
  obtain ⟨fs6, hfo⟩ := hM.obj
  refine vp_callSi (va_Run.run (va_runV (As := [.int (xs (i + 1)), .int (xs (i + 2))]) (rest := [.int r]) ⟨hx, hb, hml, hown, hts⟩ (hMm g hM) (cwV 2 hts gL_law_X6_tell rfl rfl rfl (by decide +kernel) ⟨Nat.le_of_ble_eq_true rfl, Nat.le_of_ble_eq_true rfl⟩) ⟨xB_blind, va_recv hK hP (ci := 6) rfl (xw_is (by decide) hfo), fun U hU hW => ⟨rfl, by rw [hU]; exact hP, va_K.moved hW.alike hK, va_Nw.warmM hW hN⟩⟩ rfl rfl hl.1 rfl (lv_room (Nat.le_of_ble_eq_true rfl)) dL_law_290 ⟨Nat.le_of_ble_eq_true rfl, Nat.le_of_ble_eq_true rfl⟩)) (fun r9 er9 => ?_)
  rw [er9]
  refine lv_icmp_eq (tgt := 821) hx hb dL_law_293 (by decide) (fun _ => ?_) (fun c9 => absurd rfl c9)
  refine lv_iinc (v := nI (i + 6)) (lv' := [(3, .int (nI (i + 6))), (0, .ref b), (1, .ref (ad 0)), (2, .ref (ad 62))]) hx hb dL_law_821 hl (k := 3) rfl (nI_add i 6) (by decide) rfl (fun ls hl => ?_)
  refine lv_goto (tgt := 18) hx hb dL_law_824 (by decide) ?_
  exact ih g q Wt w ln u T t tp bt H locs ls hC hM hs hP hS (lv_sub hl [1, 2, 3, 0] rfl)

set_option maxHeartbeats 4000000 in
set_option maxRecDepth 100000 in
/-- laps -/
theorem lw_c4 {p : Program} {e : Env} {s : State} {m : MethodId} {below : List Frame} {meth : Method} {c : Code} (l : Launch) {b L : Nat} {xs : Nat → Int32} (hL : L ≤ 3072) (C0 : lw_At p s m meth c b L xs) {D : va_G} {cI cJ cZ cW : ClassId} {ad : Nat → Nat} (hK : va_K D vwCl (xT cI cJ cZ cW) s) (hN : va_Nw (.methodLinkNest RX4 33 yX5_power RX5) s) (hD : ∀ g, va_D (fun q : Nat => s.heap.size ≤ q) (xw 81 ad g)) {i : Nat} (hi : i + 6 ≤ L) {g : Nat → va_E} {q Wt : Nat} {w : Nat → Nat} {ln : Nat → Nat} {u : Nat → Nat → Nat} {T : Nat} {t : Nat → Nat} {tp bt : Int64} (hC : ClsI cI cJ cZ cW ad g q Wt w ln u T t tp bt) (hM : ModI cI cJ ad g q Wt w ln u T t tp bt) (hs : SrcI q Wt w ln u T t) {H : Heap} {locs : List Loc} (hP : va_P D vwCl (xw 81 ad g) H) (hS : va_S (fun q : Nat => s.heap.size ≤ q) s.heap H locs) {ls : Array Slot} (hl : lv_has ls 4 [(0, .ref b), (1, .ref (ad 0)), (2, .ref (ad 62)), (3, .int (nI (i)))]) (ih : ∀ (g : Nat → va_E) (q Wt : Nat) (w ln : Nat → Nat) (u : Nat → Nat → Nat) (T : Nat) (t : Nat → Nat) (tp bt : Int64) (H : Heap) (locs : List Loc) (ls : Array Slot), ClsI cI cJ cZ cW ad g q Wt w ln u T t tp bt → ModI cI cJ ad g q Wt w ln u T t tp bt → SrcI q Wt w ln u T t → va_P D vwCl (xw 81 ad g) H → va_S (fun q : Nat => s.heap.size ≤ q) s.heap H locs → lv_has ls 4 [(0, .ref b), (1, .ref (ad 0)), (2, .ref (ad 62)), (3, .int (nI (i + 6)))] → W p l e room_1 s m #[Value.ref b] below meth c H locs 81 34932 (lw_Z below #[Value.ref b] s) (F0 m 18 ls [])) : W p l e room_1 s m #[Value.ref b] below meth c H locs 81 34932 (lw_Z below #[Value.ref b] s) (F0 m 298 ls []) := by
  obtain ⟨hx, hb, hr, hml, hown, hts0, hX, hbl, hlocks, hgv⟩ := id C0
  have hts := fun w h => hts0 w (wsL_law_in w h)
  have hbA : ¬ (fun q : Nat => s.heap.size ≤ q) b := Nat.not_le.mpr hbl
  have hown : s.vm.findClass RL = some m.cls := hown
  have hL31 : L < 2 ^ 31 := by omega
  refine lv_aload_n hx hb dL_law_298 rfl (lv_at hl 1 rfl) ?_
  refine lv_aload_n hx hb dL_law_299 rfl (lv_at hl 0 rfl) ?_
  refine lv_iload_n hx hb dL_law_300 rfl (lv_at hl 3 rfl) ?_
  refine lv_iconst (v := nI (1)) hx hb dL_law_301 (by decide) ?_
  refine xi_add hx hb dL_law_302 ?_
  refine xs_ld hx hb hX hbl hbA hS (show i + 1 < L by omega) hL31 dL_law_303 ?_
  refine lv_aload_n hx hb dL_law_304 rfl (lv_at hl 0 rfl) ?_
  refine lv_iload_n hx hb dL_law_305 rfl (lv_at hl 3 rfl) ?_
  refine lv_iconst (v := nI (2)) hx hb dL_law_306 (by decide) ?_
  refine xi_add hx hb dL_law_307 ?_
  refine xs_ld hx hb hX hbl hbA hS (show i + 2 < L by omega) hL31 dL_law_308 ?_
  obtain ⟨r, hCc, hMm⟩ := pr_laps l hD hs (tp := tp) (bt := bt) (cI := cI) (cJ := cJ) (cZ := cZ) (cW := cW) (D := D) (xs (i + 1)) (xs (i + 2))
  refine vp_callSi (va_Run.run (va_runV (As := [.int (xs (i + 1)), .int (xs (i + 2))]) (rest := []) ⟨hx, hb, hml, hown, hts⟩ (hCc g hC) (cwV 2 hts gL_law_X5_laps rfl rfl rfl (by decide +kernel) ⟨Nat.le_of_ble_eq_true rfl, Nat.le_of_ble_eq_true rfl⟩) ⟨xB_blind, va_recv hK hP (ci := 5) rfl (xw_is (by decide) hC.1), fun U hU hW => ⟨rfl, by rw [hU]; exact hP, va_K.moved hW.alike hK, va_Nw.warmM hW hN⟩⟩ rfl rfl hl.1 rfl (lv_room (Nat.le_of_ble_eq_true rfl)) dL_law_309 ⟨Nat.le_of_ble_eq_true rfl, Nat.le_of_ble_eq_true rfl⟩)) (fun r9 er9 => ?_)
  rw [er9]
  refine lv_aload_n hx hb dL_law_312 rfl (lv_at hl 2 rfl) ?_
  refine lv_aload_n hx hb dL_law_313 rfl (lv_at hl 0 rfl) ?_
  refine lv_iload_n hx hb dL_law_314 rfl (lv_at hl 3 rfl) ?_
  refine lv_iconst (v := nI (1)) hx hb dL_law_315 (by decide) ?_
  refine xi_add hx hb dL_law_316 ?_
  refine xs_ld hx hb hX hbl hbA hS (show i + 1 < L by omega) hL31 dL_law_317 ?_
  refine lv_aload_n hx hb dL_law_318 rfl (lv_at hl 0 rfl) ?_
  refine lv_iload_n hx hb dL_law_319 rfl (lv_at hl 3 rfl) ?_
  refine lv_iconst (v := nI (2)) hx hb dL_law_320 (by decide) ?_
  refine xi_add hx hb dL_law_321 ?_
  refine xs_ld hx hb hX hbl hbA hS (show i + 2 < L by omega) hL31 dL_law_322 ?_
  obtain ⟨fs6, hfo⟩ := hM.obj
  refine vp_callSi (va_Run.run (va_runV (As := [.int (xs (i + 1)), .int (xs (i + 2))]) (rest := [.int r]) ⟨hx, hb, hml, hown, hts⟩ (hMm g hM) (cwV 2 hts gL_law_X6_laps rfl rfl rfl (by decide +kernel) ⟨Nat.le_of_ble_eq_true rfl, Nat.le_of_ble_eq_true rfl⟩) ⟨xB_blind, va_recv hK hP (ci := 6) rfl (xw_is (by decide) hfo), fun U hU hW => ⟨rfl, by rw [hU]; exact hP, va_K.moved hW.alike hK, va_Nw.warmM hW hN⟩⟩ rfl rfl hl.1 rfl (lv_room (Nat.le_of_ble_eq_true rfl)) dL_law_323 ⟨Nat.le_of_ble_eq_true rfl, Nat.le_of_ble_eq_true rfl⟩)) (fun r9 er9 => ?_)
  rw [er9]
  refine lv_icmp_eq (tgt := 821) hx hb dL_law_326 (by decide) (fun _ => ?_) (fun c9 => absurd rfl c9)
  refine lv_iinc (v := nI (i + 6)) (lv' := [(3, .int (nI (i + 6))), (0, .ref b), (1, .ref (ad 0)), (2, .ref (ad 62))]) hx hb dL_law_821 hl (k := 3) rfl (nI_add i 6) (by decide) rfl (fun ls hl => ?_)
  refine lv_goto (tgt := 18) hx hb dL_law_824 (by decide) ?_
  exact ih g q Wt w ln u T t tp bt H locs ls hC hM hs hP hS (lv_sub hl [1, 2, 3, 0] rfl)

set_option maxHeartbeats 4000000 in
set_option maxRecDepth 100000 in
/-- within -/
theorem lw_c5 {p : Program} {e : Env} {s : State} {m : MethodId} {below : List Frame} {meth : Method} {c : Code} (l : Launch) {b L : Nat} {xs : Nat → Int32} (hL : L ≤ 3072) (C0 : lw_At p s m meth c b L xs) {D : va_G} {cI cJ cZ cW : ClassId} {ad : Nat → Nat} (hK : va_K D vwCl (xT cI cJ cZ cW) s) (hN : va_Nw (.methodLinkNest RX4 33 yX5_power RX5) s) (hD : ∀ g, va_D (fun q : Nat => s.heap.size ≤ q) (xw 81 ad g)) {i : Nat} (hi : i + 6 ≤ L) {g : Nat → va_E} {q Wt : Nat} {w : Nat → Nat} {ln : Nat → Nat} {u : Nat → Nat → Nat} {T : Nat} {t : Nat → Nat} {tp bt : Int64} (hC : ClsI cI cJ cZ cW ad g q Wt w ln u T t tp bt) (hM : ModI cI cJ ad g q Wt w ln u T t tp bt) (hs : SrcI q Wt w ln u T t) {H : Heap} {locs : List Loc} (hP : va_P D vwCl (xw 81 ad g) H) (hS : va_S (fun q : Nat => s.heap.size ≤ q) s.heap H locs) {ls : Array Slot} (hl : lv_has ls 4 [(0, .ref b), (1, .ref (ad 0)), (2, .ref (ad 62)), (3, .int (nI (i)))]) (ih : ∀ (g : Nat → va_E) (q Wt : Nat) (w ln : Nat → Nat) (u : Nat → Nat → Nat) (T : Nat) (t : Nat → Nat) (tp bt : Int64) (H : Heap) (locs : List Loc) (ls : Array Slot), ClsI cI cJ cZ cW ad g q Wt w ln u T t tp bt → ModI cI cJ ad g q Wt w ln u T t tp bt → SrcI q Wt w ln u T t → va_P D vwCl (xw 81 ad g) H → va_S (fun q : Nat => s.heap.size ≤ q) s.heap H locs → lv_has ls 4 [(0, .ref b), (1, .ref (ad 0)), (2, .ref (ad 62)), (3, .int (nI (i + 6)))] → W p l e room_1 s m #[Value.ref b] below meth c H locs 81 34932 (lw_Z below #[Value.ref b] s) (F0 m 18 ls [])) : W p l e room_1 s m #[Value.ref b] below meth c H locs 81 34932 (lw_Z below #[Value.ref b] s) (F0 m 331 ls []) := by
  obtain ⟨hx, hb, hr, hml, hown, hts0, hX, hbl, hlocks, hgv⟩ := id C0
  have hts := fun w h => hts0 w (wsL_law_in w h)
  have hbA : ¬ (fun q : Nat => s.heap.size ≤ q) b := Nat.not_le.mpr hbl
  have hown : s.vm.findClass RL = some m.cls := hown
  have hL31 : L < 2 ^ 31 := by omega
  refine lv_aload_n hx hb dL_law_331 rfl (lv_at hl 1 rfl) ?_
  refine lv_aload_n hx hb dL_law_332 rfl (lv_at hl 0 rfl) ?_
  refine lv_iload_n hx hb dL_law_333 rfl (lv_at hl 3 rfl) ?_
  refine lv_iconst (v := nI (1)) hx hb dL_law_334 (by decide) ?_
  refine xi_add hx hb dL_law_335 ?_
  refine xs_ld hx hb hX hbl hbA hS (show i + 1 < L by omega) hL31 dL_law_336 ?_
  refine lv_aload_n hx hb dL_law_337 rfl (lv_at hl 0 rfl) ?_
  refine lv_iload_n hx hb dL_law_338 rfl (lv_at hl 3 rfl) ?_
  refine lv_iconst (v := nI (2)) hx hb dL_law_339 (by decide) ?_
  refine xi_add hx hb dL_law_340 ?_
  refine xs_ld hx hb hX hbl hbA hS (show i + 2 < L by omega) hL31 dL_law_341 ?_
  obtain ⟨r, hCc, hMm⟩ := pr_within l hD hs (tp := tp) (bt := bt) (cI := cI) (cJ := cJ) (cZ := cZ) (cW := cW) (D := D) (xs (i + 1)) (xs (i + 2))
  refine vp_callSi (va_Run.run (va_runV (As := [.int (xs (i + 1)), .int (xs (i + 2))]) (rest := []) ⟨hx, hb, hml, hown, hts⟩ (hCc g hC) (cwV 2 hts gL_law_X5_within rfl rfl rfl (by decide +kernel) ⟨Nat.le_of_ble_eq_true rfl, Nat.le_of_ble_eq_true rfl⟩) ⟨xB_blind, va_recv hK hP (ci := 5) rfl (xw_is (by decide) hC.1), fun U hU hW => ⟨rfl, by rw [hU]; exact hP, va_K.moved hW.alike hK, va_Nw.warmM hW hN⟩⟩ rfl rfl hl.1 rfl (lv_room (Nat.le_of_ble_eq_true rfl)) dL_law_342 ⟨Nat.le_of_ble_eq_true rfl, Nat.le_of_ble_eq_true rfl⟩)) (fun r9 er9 => ?_)
  rw [er9]
  refine lv_aload_n hx hb dL_law_345 rfl (lv_at hl 2 rfl) ?_
  refine lv_aload_n hx hb dL_law_346 rfl (lv_at hl 0 rfl) ?_
  refine lv_iload_n hx hb dL_law_347 rfl (lv_at hl 3 rfl) ?_
  refine lv_iconst (v := nI (1)) hx hb dL_law_348 (by decide) ?_
  refine xi_add hx hb dL_law_349 ?_
  refine xs_ld hx hb hX hbl hbA hS (show i + 1 < L by omega) hL31 dL_law_350 ?_
  refine lv_aload_n hx hb dL_law_351 rfl (lv_at hl 0 rfl) ?_
  refine lv_iload_n hx hb dL_law_352 rfl (lv_at hl 3 rfl) ?_
  refine lv_iconst (v := nI (2)) hx hb dL_law_353 (by decide) ?_
  refine xi_add hx hb dL_law_354 ?_
  refine xs_ld hx hb hX hbl hbA hS (show i + 2 < L by omega) hL31 dL_law_355 ?_
  obtain ⟨fs6, hfo⟩ := hM.obj
  refine vp_callSi (va_Run.run (va_runV (As := [.int (xs (i + 1)), .int (xs (i + 2))]) (rest := [.int r]) ⟨hx, hb, hml, hown, hts⟩ (hMm g hM) (cwV 2 hts gL_law_X6_within rfl rfl rfl (by decide +kernel) ⟨Nat.le_of_ble_eq_true rfl, Nat.le_of_ble_eq_true rfl⟩) ⟨xB_blind, va_recv hK hP (ci := 6) rfl (xw_is (by decide) hfo), fun U hU hW => ⟨rfl, by rw [hU]; exact hP, va_K.moved hW.alike hK, va_Nw.warmM hW hN⟩⟩ rfl rfl hl.1 rfl (lv_room (Nat.le_of_ble_eq_true rfl)) dL_law_356 ⟨Nat.le_of_ble_eq_true rfl, Nat.le_of_ble_eq_true rfl⟩)) (fun r9 er9 => ?_)
  rw [er9]
  refine lv_icmp_eq (tgt := 821) hx hb dL_law_359 (by decide) (fun _ => ?_) (fun c9 => absurd rfl c9)
  refine lv_iinc (v := nI (i + 6)) (lv' := [(3, .int (nI (i + 6))), (0, .ref b), (1, .ref (ad 0)), (2, .ref (ad 62))]) hx hb dL_law_821 hl (k := 3) rfl (nI_add i 6) (by decide) rfl (fun ls hl => ?_)
  refine lv_goto (tgt := 18) hx hb dL_law_824 (by decide) ?_
  exact ih g q Wt w ln u T t tp bt H locs ls hC hM hs hP hS (lv_sub hl [1, 2, 3, 0] rfl)
