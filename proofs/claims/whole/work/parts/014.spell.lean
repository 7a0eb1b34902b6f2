theorem updL_s {fs : Nat → Int64} {F : Nat → Int64} {i : Nat} {x : Int64} (h : ∀ j, j ≤ i → fs j = F j) (hx : x = F (i + 1)) : ∀ j, j ≤ i + 1 → vp_updL fs (i + 1) x j = F j := fun j hj => by
  by_cases e : j = i + 1
  · subst e; rw [pk_uLs, hx]
  · rw [pk_uLn e]; exact h j (by omega)
theorem upd_s {fs : Nat → Int32} {F : Nat → Int32} {i : Nat} {x : Int32} (h : ∀ j, j ≤ i → fs j = F j) (hx : x = F (i + 1)) : ∀ j, j ≤ i + 1 → upd fs (i + 1) x j = F j := fun j hj => by
  by_cases e : j = i + 1
  · subst e; rw [pk_us, hx]
  · rw [pk_un e]; exact h j (by omega)
theorem wbk_s {w u : Nat → Nat} {n k : Nat} (h : k < n) : wbk w u n (n - k) = wbk w u n (n - (k + 1)) * w (u k) := by
  rw [show n - k = (n - (k + 1)) + 1 by omega]
  show wbk w u n (n - (k + 1)) * w (u (n - 1 - (n - (k + 1)))) = _
  rw [show n - 1 - (n - (k + 1)) = k by omega]
/-- the letters of a code -/
def dg (q c n j : Nat) : Nat := c / q ^ (n - 1 - j) % q
theorem dg_lt {q c n j : Nat} (h : 0 < q) : dg q c n j < q := Nat.mod_lt _ h
theorem px_dg {q c n : Nat} (hq : 0 < q) (hc : c < q ^ n) : ∀ {k : Nat}, k ≤ n → px q (dg q c n) k = c / q ^ (n - k)
  | 0, _ => by rw [Nat.sub_zero, Nat.div_eq_of_lt hc]; rfl
  | k + 1, h => by
    show px q (dg q c n) k * q + c / q ^ (n - 1 - k) % q = _
    rw [px_dg hq hc (k := k) (by omega), show n - k = (n - (k + 1)) + 1 by omega, Nat.pow_succ, ← Nat.div_div_eq_div_mul, show n - 1 - k = n - (k + 1) by omega, Nat.mul_comm, Nat.div_add_mod]
theorem px_shift {q : Nat} {u : Nat → Nat} {a : Nat} : ∀ {k : Nat}, px q u (a + k) = px q u a * q ^ k + px q (fun j => u (a + j)) k
  | 0 => by simp [px]
  | k + 1 => by
    show px q u (a + k) * q + u (a + k) = px q u a * q ^ (k + 1) + (px q (fun j => u (a + j)) k * q + u (a + k))
    rw [px_shift (k := k), Nat.add_mul, Nat.pow_succ, Nat.mul_assoc, Nat.add_assoc]
theorem px_tl {q c n k : Nat} (hq : 0 < q) (hc : c < q ^ n) (hk : k ≤ n) : px q (fun j => dg q c n (n - k + j)) k = c % q ^ k := by
  have h1 := px_shift (q := q) (u := dg q c n) (a := n - k) (k := k)
  rw [show n - k + k = n by omega, px_dg hq hc (Nat.le_refl n), px_dg hq hc (by omega), show n - n = 0 by omega, show n - (n - k) = k by omega, Nat.pow_zero, Nat.div_one] at h1
  have h2 := Nat.div_add_mod c (q ^ k)
  rw [Nat.mul_comm] at h2
  omega
theorem mod_s {q c i : Nat} : c % q ^ i + c / q ^ i % q * q ^ i = c % q ^ (i + 1) := by
  rw [Nat.pow_succ, Nat.mod_mul, Nat.mul_comm (q ^ i)]
theorem pow_small {q i : Nat} (hq : q ≤ 4) (hi : i ≤ 5) : q ^ i < 2 ^ 31 := Nat.lt_of_le_of_lt (pow_le5 hq hi) (by decide)
set_option maxHeartbeats 4000000 in
set_option maxRecDepth 100000 in
/-- Word.share -/
theorem mX4_share (l : Launch) {D : va_G} {cI cJ cZ cW : ClassId} {ad : Nat → Nat} {A : Nat → Prop} (hD : ∀ g, va_D A (xw 81 ad g)) {g : Nat → va_E} {q Wt : Nat} {w : Nat → Nat} {f2 : Nat → Int32} {fs1 : Nat → Int64} {b1 n1 : Nat} {u1 : Nat → Nat} {co1 : Int32} {ow1 : Int64} {fl1 : Nat → Int32}  (fo1 : g (b1) = .inr (4, [.ref (ad (b1 + 1)), .ref (ad (b1 + 2)), .ref (ad (b1 + 3)), .ref (ad (b1 + 4)), .int (nI (n1)), .int (co1), .long (ow1)])) (fal1 : g (b1 + 1) = .inl (cI, 5, .inl (fl1))) (fo_1 : g (1) = .inr (0, [.ref (ad (2)), .int (nI (q)), .int (nI (Wt))])) (fa_2 : g (2) = .inl (cI, 4, .inl (f2))) (fas1 : g (b1 + 4) = .inl (cJ, 6, .inr (.inl (fs1))))  (hq4 : q ≤ 4) (h2 : ∀ j, j < 4 → f2 j = nI (w j)) (hw : ∀ j, j < 4 → w j ≤ 4) (hWt : Wt ≤ 4) (hb1 : b1 + 4 < 81) (hn1 : n1 ≤ 5) (hu1 : ∀ j, j < n1 → u1 j < q) (hfl1 : ∀ j, j < n1 → fl1 j = nI (u1 j)) (hb17 : 17 ≤ b1) (hn0 : 1 ≤ n1) : Met l yX4_share wsX4_share ({ frames := 0, cells := 0, slots := 0, locals := 0 }) (va_Pc [.ref (ad (b1)), .ref (ad (1))] (xB D (xT cI cJ cZ cW) ad g)) (va_Qv (fun g2 => ∃ fs : Nat → Int64, (∀ k, k ≤ n1 → fs k = lZ ((shr Wt w u1 n1 k : Nat) : Int)) ∧ g2 (b1 + 4) = .inl (cJ, 6, .inr (.inl (fs))) ∧ ∀ j : Nat, j ≠ b1 + 4 → g2 j = g j) (xB D (xT cI cJ cZ cW) ad) A) 0 0 A := by
  refine Met.ofW (cc := cX4_share) (maxL := 5) (ret := none) (by decide) rfl ?_
  intro p e s m args below meth c s₁ B hml hv
  obtain ⟨rfl, hP, hK, hN⟩ := hv
  have hx := B.exec
  have hb := B.bytes
  have hr := B.returns
  have hts := atoms_spec (ws := wsX4_share) B.pre
  have hown : s.vm.findClass RX4 = some m.cls := findClass_of_methodNamed B.named
  have hlocks := B.notSynchronized
  have hS : va_S A s.heap s.heap [] := va_S.rf
  have hin0 : ∀ w ∈ wsX00, w ∈ wsX4_share := by decide +kernel
  have hin4 : ∀ w ∈ wsX40, w ∈ wsX4_share := by decide +kernel
  have hf9 := hts (.fieldLink RX4 9 "LettersByLot$Word" "letters" "[I") (by decide +kernel)
  have hf21 := hts (.fieldLink RX4 21 "LettersByLot$Word" "shares" "[J") (by decide +kernel)
  have hf25 := hts (.fieldLink RX4 25 "LettersByLot$Word" "length" "I") (by decide +kernel)
  have hf52 := hts (.fieldLink RX4 52 "LettersByLot$Lot" "total" "I") (by decide +kernel)
  have hf55 := hts (.fieldLink RX4 55 "LettersByLot$Lot" "weights" "[I") (by decide +kernel)
  have hl := lv_entry ([.ref (ad (b1)), .ref (ad (1))]) (n := 5) (Nat.le_of_ble_eq_true rfl)
  rw [lg_entry_eq]
  generalize (lg_sl ([.ref (ad (b1)), .ref (ad (1))]) ++ List.replicate (5 - (lg_sl ([.ref (ad (b1)), .ref (ad (1))])).length) Slot.unset).toArray = ls at hl ⊢
  have hl : lv_has ls 5 [(0, .ref (ad (b1))), (1, .ref (ad (1)))] := hl
  refine lv_aload_n hx hb dX4_share_0 rfl (lv_at hl 0 rfl) ?_
  refine xw_get hx hb hts hin4 hown hK hP (by omega) fo1 rfl 3 (by decide) hf21 rfl rfl dX4_share_1 ?_
  refine lv_iconst (v := nI (0)) hx hb dX4_share_4 (by decide) ?_
  refine lv_lconst (v := lZ (1)) hx hb dX4_share_5 (by decide) ?_
  refine xw_last hx hb hK hP hD hS (by omega) 1 fas1 rfl (by omega) (by decide) dX4_share_6 (fun g1 H locs eg1 hP hS => ?_)
  have fg1_0 : g1 (b1) = .inr (4, [.ref (ad (b1 + 1)), .ref (ad (b1 + 2)), .ref (ad (b1 + 3)), .ref (ad (b1 + 4)), .int (nI (n1)), .int (co1), .long (ow1)]) := (congrFun eg1 (b1)).trans ((va_up_ne _ _ (by omega)).trans fo1)
  have fg1_1 : g1 (b1 + 1) = .inl (cI, 5, .inl (fl1)) := (congrFun eg1 (b1 + 1)).trans ((va_up_ne _ _ (by omega)).trans fal1)
  have fg1_2 : g1 (1) = .inr (0, [.ref (ad (2)), .int (nI (q)), .int (nI (Wt))]) := (congrFun eg1 (1)).trans ((va_up_ne _ _ (by omega)).trans fo_1)
  have fg1_3 : g1 (2) = .inl (cI, 4, .inl (f2)) := (congrFun eg1 (2)).trans ((va_up_ne _ _ (by omega)).trans fa_2)
  have fg1_w : g1 (b1 + 4) = .inl (cJ, 6, .inr (.inl (vp_updL (fs1) (0) (lZ (1))))) := (congrFun eg1 (b1 + 4)).trans (va_up_self _ _ _)
  have hfrg1 : ∀ j : Nat, j ≠ b1 + 4 → g1 j = g j := fun j h0 => (congrFun eg1 j).trans ((va_up_ne _ _ h0).trans ((fun _ _ => rfl) j h0))
  refine lv_iconst (v := nI (1)) hx hb dX4_share_7 (by decide) ?_
  refine lv_istore_n (lv' := [(2, .int (nI (1))), (0, .ref (ad (b1))), (1, .ref (ad (1)))]) hx hb dX4_share_8 rfl hl (by decide) rfl (fun ls hl => ?_)
  refine xloopW (G := fun H locs fr => W p l e _ s m _ below meth c H locs _ _ _ fr) (σ := Nat × (Nat → Int64)) (fun (i, fs) ls => F0 m 9 ls []) (fun (i, fs) gl9_2 H locs ls => (i ≤ n1) ∧ (∀ j, j ≤ i → fs j = lZ ((Wt ^ j : Nat) : Int)) ∧ gl9_2 (b1) = .inr (4, [.ref (ad (b1 + 1)), .ref (ad (b1 + 2)), .ref (ad (b1 + 3)), .ref (ad (b1 + 4)), .int (nI (n1)), .int (co1), .long (ow1)]) ∧ gl9_2 (b1 + 1) = .inl (cI, 5, .inl (fl1)) ∧ gl9_2 (1) = .inr (0, [.ref (ad (2)), .int (nI (q)), .int (nI (Wt))]) ∧ gl9_2 (2) = .inl (cI, 4, .inl (f2)) ∧ gl9_2 (b1 + 4) = .inl (cJ, 6, .inr (.inl (fs))) ∧ (∀ j : Nat, j ≠ b1 + 4 → gl9_2 j = g j) ∧ va_P D vwCl (xw 81 ad gl9_2) H ∧ va_S A s.heap H locs ∧ lv_has ls 5 [(0, .ref (ad (b1))), (1, .ref (ad (1))), (2, .int (nI (i + 1)))]) (fun (i, fs) => 6 - i) ?_ (0, vp_updL (fs1) (0) (lZ (1))) g1 H locs ls ⟨(by omega), (fun j hj => by rw [show j = 0 by omega, pk_uLs]; rfl), fg1_0, fg1_1, fg1_2, fg1_3, fg1_w, hfrg1, hP, hS, (lv_sub hl [1, 2, 0] rfl)⟩
  rintro ⟨i, fs⟩ gl9_2 H locs ls ⟨hi, hfs, fo1, fal1, fo_1, fa_2, fas1, hfrgl9_2, hP, hS, hl⟩ ih9
  refine lv_iload_n hx hb dX4_share_9 rfl (lv_at hl 2 rfl) ?_
  refine lv_aload_n hx hb dX4_share_10 rfl (lv_at hl 0 rfl) ?_
  refine xw_get hx hb hts hin4 hown hK hP (by omega) fo1 rfl 4 (by decide) hf25 rfl rfl dX4_share_11 ?_
  refine xi_icmp_gt (tgt := 43) hx hb (by omega) (by omega) dX4_share_14 (by decide) (fun c14_3 => ?_) (fun c14_3 => ?_)
  · refine lv_lconst (v := lZ (1)) hx hb dX4_share_43 (by decide) ?_
    refine lv_lstore_n (lv' := [(2, .long (lZ (1))), (0, .ref (ad (b1))), (1, .ref (ad (1)))]) hx hb dX4_share_44 rfl hl (by decide) rfl (fun ls hl => ?_)
    refine lv_aload_n hx hb dX4_share_45 rfl (lv_at hl 1 rfl) ?_
    refine xw_get hx hb hts hin4 hown hK hP (by omega) fo1 rfl 4 (by decide) hf25 rfl rfl dX4_share_46 ?_
    refine lv_iconst (v := nI (1)) hx hb dX4_share_49 (by decide) ?_
    refine xi_sub hx hb (by omega) dX4_share_50 ?_
    refine xtopi (y := nI n1 - 1) (by rw [← pk_sub (show 1 ≤ n1 by omega)]; rfl) ?_
    refine lv_istore (lv' := [(4, .int (nI n1 - 1)), (2, .long (lZ (1))), (0, .ref (ad (b1))), (1, .ref (ad (1)))]) hx hb dX4_share_51 hl (by decide) rfl (fun ls hl => ?_)
    refine xloopW (G := fun H locs fr => W p l e _ s m _ below meth c H locs _ _ _ fr) (σ := Nat × (Nat → Int64)) (fun (i, fs) ls => F0 m 53 ls []) (fun (i, fs) gl53_4 H locs ls => (i ≤ n1) ∧ (∀ j, j < i → fs j = lZ ((Wt ^ j : Nat) : Int)) ∧ (∀ j, i ≤ j → j ≤ n1 → fs j = lZ ((shr Wt w u1 n1 j : Nat) : Int)) ∧ gl53_4 (b1) = .inr (4, [.ref (ad (b1 + 1)), .ref (ad (b1 + 2)), .ref (ad (b1 + 3)), .ref (ad (b1 + 4)), .int (nI (n1)), .int (co1), .long (ow1)]) ∧ gl53_4 (b1 + 1) = .inl (cI, 5, .inl (fl1)) ∧ gl53_4 (1) = .inr (0, [.ref (ad (2)), .int (nI (q)), .int (nI (Wt))]) ∧ gl53_4 (2) = .inl (cI, 4, .inl (f2)) ∧ gl53_4 (b1 + 4) = .inl (cJ, 6, .inr (.inl (fs))) ∧ (∀ j : Nat, j ≠ b1 + 4 → gl53_4 j = g j) ∧ va_P D vwCl (xw 81 ad gl53_4) H ∧ va_S A s.heap H locs ∧ lv_has ls 5 [(0, .ref (ad (b1))), (1, .ref (ad (1))), (2, .long (lZ (((wbk w u1 n1 (n1 - i) : Nat) : Int)))), (4, .int (nI i - 1))]) (fun (i, fs) => i) ?_ (n1, fs) gl9_2 H locs ls ⟨(Nat.le_refl _), (fun j hj => hfs j (by omega)), (fun j h1 h2 => by have h3 : j = n1 := (by omega); rw [h3, hfs n1 (by omega)]; show _ = lZ ((Wt ^ n1 * wbk w u1 n1 (n1 - n1) : Nat) : Int); rw [show n1 - n1 = 0 by omega]; show _ = lZ ((Wt ^ n1 * 1 : Nat) : Int); rw [Nat.mul_one]), fo1, fal1, fo_1, fa_2, fas1, hfrgl9_2, hP, hS, (by rw [Nat.sub_self]; exact (lv_sub hl [2, 3, 1, 0] rfl))⟩
    rintro ⟨i, fs⟩ gl53_4 H locs ls ⟨hi, hfa, hfb, fo1, fal1, fo_1, fa_2, fas1, hfrgl53_4, hP, hS, hl⟩ ih53
    refine lv_iload hx hb dX4_share_53 (lv_at hl 3 rfl) ?_
    refine lv_if_lt (tgt := 91) hx hb dX4_share_55 (by decide) (fun c55_5 => ?_) (fun c55_5 => ?_)
    · have hi0 : i = 0 := by rcases Nat.eq_zero_or_pos i with h | h; exact h; exact absurd c55_5 (by rw [show i = (i - 1) + 1 by omega, nI_pred]; exact nI_pos (by omega))
      subst hi0
      exact W.vret hx hb hr (fun tZ ht hW => ⟨⟨gl53_4, rfl, ⟨fs, (fun j hj => hfb j (by omega) hj), fas1, hfrgl53_4⟩, by rw [ht]; exact hP, va_K.moved hW.alike hK, va_Nw.warmM hW hN⟩, hS.F ht⟩) hS.2.2 dX4_share_91
    · obtain ⟨k, rfl⟩ : ∃ k, i = k + 1 := ⟨i - 1, by rcases Nat.eq_zero_or_pos i with h | h; exact absurd (show nI i - 1 < 0 by rw [h]; decide) c55_5; omega⟩
      rw [nI_pred] at hl
      refine lv_lload_n hx hb dX4_share_58 rfl (lv_at hl 2 rfl) ?_
      refine lv_aload_n hx hb dX4_share_59 rfl (lv_at hl 1 rfl) ?_
      refine xw_get hx hb hts hin0 hown hK hP (by decide) fo_1 rfl 0 (by decide) hf55 rfl rfl dX4_share_60 ?_
      refine lv_aload_n hx hb dX4_share_63 rfl (lv_at hl 0 rfl) ?_
      refine xw_get hx hb hts hin4 hown hK hP (by omega) fo1 rfl 0 (by decide) hf9 rfl rfl dX4_share_64 ?_
      refine lv_iload hx hb dX4_share_67 (lv_at hl 3 rfl) ?_
      refine xw_iald hx hb hK hP (by omega) 0 fal1 rfl (by omega) (by decide) dX4_share_69 ?_
      rw [hfl1 (k) (by omega)]
      refine xw_iald hx hb hK hP (by decide) 0 fa_2 rfl (Nat.lt_of_lt_of_le (hu1 _ (by omega)) hq4) (by decide) dX4_share_70 ?_
      rw [h2 (u1 (k)) (Nat.lt_of_lt_of_le (hu1 _ (by omega)) hq4)]
      refine xi_i2l hx hb (Nat.lt_of_le_of_lt (hw _ (Nat.lt_of_lt_of_le (hu1 _ (by omega)) hq4)) (by decide)) dX4_share_71 ?_
      refine xl_mul hx hb dX4_share_72 ?_
      refine xtopl (y := lZ (((wbk w u1 n1 (n1 - k) : Nat) : Int))) (congrArg lZ (by rw [wbk_s (k := k) (by omega), Int.natCast_mul])) ?_
      refine lv_lstore_n (lv' := [(2, .long (lZ (((wbk w u1 n1 (n1 - k) : Nat) : Int)))), (0, .ref (ad (b1))), (1, .ref (ad (1))), (4, .int (nI (k)))]) hx hb dX4_share_73 rfl hl (by decide) rfl (fun ls hl => ?_)
      refine lv_aload_n hx hb dX4_share_74 rfl (lv_at hl 1 rfl) ?_
      refine xw_get hx hb hts hin4 hown hK hP (by omega) fo1 rfl 3 (by decide) hf21 rfl rfl dX4_share_75 ?_
      refine lv_iload hx hb dX4_share_78 (lv_at hl 3 rfl) ?_
      refine lv_dup2_11 hx hb dX4_share_80 rfl rfl ?_
      refine xw_lald hx hb hK hP (by omega) 1 fas1 rfl (by omega) (by decide) dX4_share_81 ?_
      rw [hfa (k) (by omega)]
      refine lv_lload_n hx hb dX4_share_82 rfl (lv_at hl 0 rfl) ?_
      refine xl_mul hx hb dX4_share_83 ?_
      refine xtopl (y := lZ (((shr Wt w u1 n1 k : Nat) : Int))) (congrArg lZ (by show _ = ((Wt ^ k * wbk w u1 n1 (n1 - k) : Nat) : Int); rw [Int.natCast_mul])) ?_
      refine xw_last hx hb hK hP hD hS (by omega) 1 fas1 rfl (by omega) (by decide) dX4_share_84 (fun g6 H locs eg6 hP hS => ?_)
      have fg6_0 : g6 (b1) = .inr (4, [.ref (ad (b1 + 1)), .ref (ad (b1 + 2)), .ref (ad (b1 + 3)), .ref (ad (b1 + 4)), .int (nI (n1)), .int (co1), .long (ow1)]) := (congrFun eg6 (b1)).trans ((va_up_ne _ _ (by omega)).trans fo1)
      have fg6_1 : g6 (b1 + 1) = .inl (cI, 5, .inl (fl1)) := (congrFun eg6 (b1 + 1)).trans ((va_up_ne _ _ (by omega)).trans fal1)
      have fg6_2 : g6 (1) = .inr (0, [.ref (ad (2)), .int (nI (q)), .int (nI (Wt))]) := (congrFun eg6 (1)).trans ((va_up_ne _ _ (by omega)).trans fo_1)
      have fg6_3 : g6 (2) = .inl (cI, 4, .inl (f2)) := (congrFun eg6 (2)).trans ((va_up_ne _ _ (by omega)).trans fa_2)
      have fg6_w : g6 (b1 + 4) = .inl (cJ, 6, .inr (.inl (vp_updL (fs) (k) (lZ (((shr Wt w u1 n1 k : Nat) : Int)))))) := (congrFun eg6 (b1 + 4)).trans (va_up_self _ _ _)
      have hfrg6 : ∀ j : Nat, j ≠ b1 + 4 → g6 j = g j := fun j h0 => (congrFun eg6 j).trans ((va_up_ne _ _ h0).trans (hfrgl53_4 j h0))
      refine lv_iinc (v := nI (k) - 1) (lv' := [(4, .int (nI (k) - 1)), (2, .long (lZ (((wbk w u1 n1 (n1 - k) : Nat) : Int)))), (0, .ref (ad (b1))), (1, .ref (ad (1)))]) hx hb dX4_share_85 hl (k := 3) rfl (by rw [Int32.sub_eq_add_neg]; rfl) (by decide) rfl (fun ls hl => ?_)
      refine lv_goto (tgt := 53) hx hb dX4_share_88 (by decide) ?_
      exact ih53 (k, vp_updL (fs) (k) (lZ (((shr Wt w u1 n1 k : Nat) : Int)))) g6 H locs ls ⟨(by omega), (fun j hj => by rw [pk_uLn (by omega)]; exact hfa j (by omega)), (fun j h1 h2 => if e : j = k then by subst e; rw [pk_uLs] else by rw [pk_uLn e]; exact hfb j (by omega) h2), fg6_0, fg6_1, fg6_2, fg6_3, fg6_w, hfrg6, hP, hS, (lv_sub hl [2, 3, 1, 0] rfl)⟩ (by first | omega | (dsimp only; omega))
  · refine lv_aload_n hx hb dX4_share_17 rfl (lv_at hl 0 rfl) ?_
    refine xw_get hx hb hts hin4 hown hK hP (by omega) fo1 rfl 3 (by decide) hf21 rfl rfl dX4_share_18 ?_
    refine lv_iload_n hx hb dX4_share_21 rfl (lv_at hl 2 rfl) ?_
    refine lv_aload_n hx hb dX4_share_22 rfl (lv_at hl 0 rfl) ?_
    refine xw_get hx hb hts hin4 hown hK hP (by omega) fo1 rfl 3 (by decide) hf21 rfl rfl dX4_share_23 ?_
    refine lv_iload_n hx hb dX4_share_26 rfl (lv_at hl 2 rfl) ?_
    refine lv_iconst (v := nI (1)) hx hb dX4_share_27 (by decide) ?_
    refine xi_sub hx hb (by omega) dX4_share_28 ?_
    refine xw_lald hx hb hK hP (by omega) 1 fas1 rfl (by omega) (by decide) dX4_share_29 ?_
    rw [hfs ((i + 1) - 1) (by omega)]
    refine lv_aload_n hx hb dX4_share_30 rfl (lv_at hl 1 rfl) ?_
    refine xw_get hx hb hts hin0 hown hK hP (by decide) fo_1 rfl 2 (by decide) hf52 rfl rfl dX4_share_31 ?_
    refine xi_i2l hx hb (by omega) dX4_share_34 ?_
    refine xl_mul hx hb dX4_share_35 ?_
    refine xtopl (y := lZ (((Wt ^ (i + 1) : Nat) : Int))) (congrArg lZ (by rw [Nat.add_sub_cancel, Nat.pow_succ, Int.natCast_mul])) ?_
    refine xw_last hx hb hK hP hD hS (by omega) 1 fas1 rfl (by omega) (by decide) dX4_share_36 (fun g7 H locs eg7 hP hS => ?_)
    have fg7_0 : g7 (b1) = .inr (4, [.ref (ad (b1 + 1)), .ref (ad (b1 + 2)), .ref (ad (b1 + 3)), .ref (ad (b1 + 4)), .int (nI (n1)), .int (co1), .long (ow1)]) := (congrFun eg7 (b1)).trans ((va_up_ne _ _ (by omega)).trans fo1)
    have fg7_1 : g7 (b1 + 1) = .inl (cI, 5, .inl (fl1)) := (congrFun eg7 (b1 + 1)).trans ((va_up_ne _ _ (by omega)).trans fal1)
    have fg7_2 : g7 (1) = .inr (0, [.ref (ad (2)), .int (nI (q)), .int (nI (Wt))]) := (congrFun eg7 (1)).trans ((va_up_ne _ _ (by omega)).trans fo_1)
    have fg7_3 : g7 (2) = .inl (cI, 4, .inl (f2)) := (congrFun eg7 (2)).trans ((va_up_ne _ _ (by omega)).trans fa_2)
    have fg7_w : g7 (b1 + 4) = .inl (cJ, 6, .inr (.inl (vp_updL (fs) (i + 1) (lZ (((Wt ^ (i + 1) : Nat) : Int)))))) := (congrFun eg7 (b1 + 4)).trans (va_up_self _ _ _)
    have hfrg7 : ∀ j : Nat, j ≠ b1 + 4 → g7 j = g j := fun j h0 => (congrFun eg7 j).trans ((va_up_ne _ _ h0).trans (hfrgl9_2 j h0))
    refine lv_iinc (v := nI (i + 1 + 1)) (lv' := [(2, .int (nI (i + 1 + 1))), (0, .ref (ad (b1))), (1, .ref (ad (1)))]) hx hb dX4_share_37 hl (k := 2) rfl (nI_add (i + 1) 1) (by decide) rfl (fun ls hl => ?_)
    refine lv_goto (tgt := 9) hx hb dX4_share_40 (by decide) ?_
    exact ih9 (i + 1, vp_updL (fs) (i + 1) (lZ (((Wt ^ (i + 1) : Nat) : Int)))) g7 H locs ls ⟨(by omega), (updL_s (F := fun j => lZ ((Wt ^ j : Nat) : Int)) hfs rfl), fg7_0, fg7_1, fg7_2, fg7_3, fg7_w, hfrg7, hP, hS, (lv_sub hl [1, 2, 0] rfl)⟩ (by first | omega | (dsimp only; omega))

set_option maxHeartbeats 4000000 in
set_option maxRecDepth 100000 in
/-- Word.spell -/
theorem mX4_spell (l : Launch) {D : va_G} {cI cJ cZ cW : ClassId} {ad : Nat → Nat} {A : Nat → Prop} (hD : ∀ g, va_D A (xw 81 ad g)) {g : Nat → va_E} {q Wt n1 cd : Nat} {w : Nat → Nat} {f2 : Nat → Int32} {b1 : Nat} {le1 co1 : Int32} {ow1 : Int64} {fl1 fh1 ft1 : Nat → Int32} {fs1 : Nat → Int64}  (fo1 : g (b1) = .inr (4, [.ref (ad (b1 + 1)), .ref (ad (b1 + 2)), .ref (ad (b1 + 3)), .ref (ad (b1 + 4)), .int (le1), .int (co1), .long (ow1)])) (fal1 : g (b1 + 1) = .inl (cI, 5, .inl (fl1))) (fah1 : g (b1 + 2) = .inl (cI, 6, .inl (fh1))) (fat1 : g (b1 + 3) = .inl (cI, 6, .inl (ft1))) (fas1 : g (b1 + 4) = .inl (cJ, 6, .inr (.inl (fs1)))) (fo_1 : g (1) = .inr (0, [.ref (ad (2)), .int (nI (q)), .int (nI (Wt))])) (fa_2 : g (2) = .inl (cI, 4, .inl (f2))) (hq4 : q ≤ 4) (hq2 : 2 ≤ q) (h2 : ∀ j, j < 4 → f2 j = nI (w j)) (hw : ∀ j, j < 4 → w j ≤ 4) (hWt : Wt ≤ 4) (hb1 : b1 + 4 < 81) (hb17 : 17 ≤ b1) (hn0 : 1 ≤ n1) (hn1 : n1 ≤ 5) (hcd : cd < q ^ n1) (hh0 : fh1 0 = nI 0) (ht0 : ft1 0 = nI 0) : Met l yX4_spell wsX4_spell ({ frames := 2, cells := 0, slots := 0, locals := 47 }) (va_Pc [.ref (ad (b1)), .int (nI (n1)), .int (nI (cd)), .ref (ad (1))] (xB D (xT cI cJ cZ cW) ad g)) (va_Qi (fun r g2 => r = nI 1 ∧ ∃ (fl fh ft : Nat → Int32) (fs : Nat → Int64), (∀ j, j < n1 → fl j = nI (dg q cd n1 j)) ∧ (∀ k, k ≤ n1 → fh k = nI (px q (dg q cd n1) k)) ∧ (∀ k, k ≤ n1 → ft k = nI (px q (fun j => dg q cd n1 (n1 - k + j)) k)) ∧ (∀ k, k ≤ n1 → fs k = lZ ((shr Wt w (dg q cd n1) n1 k : Nat) : Int)) ∧ fh 0 = nI 0 ∧ ft 0 = nI 0 ∧ g2 (b1) = .inr (4, [.ref (ad (b1 + 1)), .ref (ad (b1 + 2)), .ref (ad (b1 + 3)), .ref (ad (b1 + 4)), .int (nI (n1)), .int (nI (cd)), .long (lZ (((lapS (shr Wt w (dg q cd n1) n1) (dg q cd n1) n1 (dg q cd n1) n1 5 : Nat) : Int)))]) ∧ g2 (b1 + 1) = .inl (cI, 5, .inl (fl)) ∧ g2 (b1 + 2) = .inl (cI, 6, .inl (fh)) ∧ g2 (b1 + 3) = .inl (cI, 6, .inl (ft)) ∧ g2 (b1 + 4) = .inl (cJ, 6, .inr (.inl (fs))) ∧ ∀ j : Nat, j ≠ b1 → j ≠ b1 + 1 → j ≠ b1 + 2 → j ≠ b1 + 3 → j ≠ b1 + 4 → g2 j = g j) (xB D (xT cI cJ cZ cW) ad) A) 0 0 A := by
  refine Met.ofW (cc := cX4_spell) (maxL := 9) (ret := (some .boolean)) (by decide) rfl ?_
  intro p e s m args below meth c s₁ B hml hv
  obtain ⟨rfl, hP, hK, hN⟩ := hv
  have hx := B.exec
  have hb := B.bytes
  have hr := B.returns
  have hts := atoms_spec (ws := wsX4_spell) B.pre
  have hown : s.vm.findClass RX4 = some m.cls := findClass_of_methodNamed B.named
  have hlocks := B.notSynchronized
  have hS : va_S A s.heap s.heap [] := va_S.rf
  have hin0 : ∀ w ∈ wsX00, w ∈ wsX4_spell := by decide +kernel
  have hin4 : ∀ w ∈ wsX40, w ∈ wsX4_spell := by decide +kernel
  have hf9 := hts (.fieldLink RX4 9 "LettersByLot$Word" "letters" "[I") (by decide +kernel)
  have hf15 := hts (.fieldLink RX4 15 "LettersByLot$Word" "heads" "[I") (by decide +kernel)
  have hf18 := hts (.fieldLink RX4 18 "LettersByLot$Word" "tails" "[I") (by decide +kernel)
  have hf25 := hts (.fieldLink RX4 25 "LettersByLot$Word" "length" "I") (by decide +kernel)
  have hf29 := hts (.fieldLink RX4 29 "LettersByLot$Lot" "letters" "I") (by decide +kernel)
  have hf37 := hts (.fieldLink RX4 37 "LettersByLot$Word" "code" "I") (by decide +kernel)
  have hf48 := hts (.fieldLink RX4 48 "LettersByLot$Word" "ownLead" "J") (by decide +kernel)
  have hl := lv_entry ([.ref (ad (b1)), .int (nI (n1)), .int (nI (cd)), .ref (ad (1))]) (n := 9) (Nat.le_of_ble_eq_true rfl)
  rw [lg_entry_eq]
  generalize (lg_sl ([.ref (ad (b1)), .int (nI (n1)), .int (nI (cd)), .ref (ad (1))]) ++ List.replicate (9 - (lg_sl ([.ref (ad (b1)), .int (nI (n1)), .int (nI (cd)), .ref (ad (1))])).length) Slot.unset).toArray = ls at hl ⊢
  have hl : lv_has ls 9 [(0, .ref (ad (b1))), (1, .int (nI (n1))), (2, .int (nI (cd))), (3, .ref (ad (1)))] := hl
  have hp5 : q ^ n1 ≤ 1024 := pow_le5 hq4 hn1
  refine lv_aload_n hx hb dX4_spell_0 rfl (lv_at hl 3 rfl) ?_
  refine xw_get hx hb hts hin0 hown hK hP (by decide) fo_1 rfl 1 (by decide) hf29 rfl rfl dX4_spell_1 ?_
  refine lv_istore (lv' := [(4, .int (nI (q))), (0, .ref (ad (b1))), (1, .int (nI (n1))), (2, .int (nI (cd))), (3, .ref (ad (1)))]) hx hb dX4_spell_4 hl (by decide) rfl (fun ls hl => ?_)
  refine lv_iload hx hb dX4_spell_6 (lv_at hl 0 rfl) ?_
  refine lv_iconst (v := nI (2)) hx hb dX4_spell_8 (by decide) ?_
  refine xi_icmp_lt (tgt := 39) hx hb (by omega) (by decide) dX4_spell_9 (by decide) (fun c9_1 => ?_) (fun c9_1 => ?_)
  · exact absurd c9_1 (by omega)
  · refine lv_iload_n hx hb dX4_spell_12 rfl (lv_at hl 2 rfl) ?_
    refine lv_iconst (v := nI (1)) hx hb dX4_spell_13 (by decide) ?_
    refine xi_icmp_lt (tgt := 39) hx hb (by omega) (by decide) dX4_spell_14 (by decide) (fun c14_2 => ?_) (fun c14_2 => ?_)
    · exact absurd c14_2 (by omega)
    · refine lv_iload_n hx hb dX4_spell_17 rfl (lv_at hl 2 rfl) ?_
      refine lv_iconst (v := nI (5)) hx hb dX4_spell_18 (by decide) ?_
      refine xi_icmp_gt (tgt := 39) hx hb (by omega) (by decide) dX4_spell_19 (by decide) (fun c19_3 => ?_) (fun c19_3 => ?_)
      · exact absurd c19_3 (by omega)
      · refine lv_iload_n hx hb dX4_spell_22 rfl (lv_at hl 3 rfl) ?_
        refine xi_if_lt (tgt := 39) hx hb (by omega) dX4_spell_23 (by decide) ?_
        refine lv_iload_n hx hb dX4_spell_26 rfl (lv_at hl 3 rfl) ?_
        refine xi_i2l hx hb (by omega) dX4_spell_27 ?_
        refine lv_iload hx hb dX4_spell_28 (lv_at hl 0 rfl) ?_
        refine xi_i2l hx hb (by omega) dX4_spell_30 ?_
        refine lv_iload_n hx hb dX4_spell_31 rfl (lv_at hl 2 rfl) ?_
        refine vp_callSl (va_Run.run (va_runSN (As := [.long (lZ (((q : Nat) : Int))), .int (nI (n1))]) (rest := [.long (lZ (((cd : Nat) : Int)))]) ⟨hx, hb, hml, hown, hts⟩ (mX5_power l (b0 := q) (e0 := n1) (by omega)) ⟨va_cnB 2 hts gX4_spell_X5_power_n33 rfl rfl rfl hN (hts (.initialized RX5) (by decide +kernel)) (by decide +kernel) ⟨Nat.le_of_ble_eq_true rfl, Nat.le_of_ble_eq_true rfl⟩, hts (.static yX5_power) (by decide +kernel), trivial⟩ ⟨xB_blind, fun U hU hW => ⟨rfl, by rw [hU]; exact hP, va_K.moved hW.alike hK, va_Nw.warmM hW hN⟩⟩ rfl rfl hl.1 rfl (lv_room (Nat.le_of_ble_eq_true rfl)) dX4_spell_32 ⟨Nat.le_of_ble_eq_true rfl, Nat.le_of_ble_eq_true rfl⟩)) (fun r5 er5 => ?_)
        subst er5
        refine xl_cmp_lt (tgt := 41) hx hb (by omega) (by omega) dX4_spell_35 dX4_spell_36 (by decide) (fun c35_6 => ?_) (fun c35_6 => ?_)
        · refine lv_aload_n hx hb dX4_spell_41 rfl (lv_at hl 1 rfl) ?_
          refine lv_iload_n hx hb dX4_spell_42 rfl (lv_at hl 2 rfl) ?_
          refine xw_put hx hb hts hin4 tyX4 tyX4_ok nmX4 hown hK hP hD hS (by omega) fo1 rfl 4 (by decide) hf25 rfl rfl (ty := .int) (by decide +kernel) rfl rfl (Nat.le_of_ble_eq_true rfl) (fs' := [.ref (ad (b1 + 1)), .ref (ad (b1 + 2)), .ref (ad (b1 + 3)), .ref (ad (b1 + 4)), .int (nI (n1)), .int (co1), .long (ow1)]) rfl dX4_spell_43 (fun g7 H locs eg7 hP hS => ?_)
          have fg7_0 : g7 (b1 + 1) = .inl (cI, 5, .inl (fl1)) := (congrFun eg7 (b1 + 1)).trans ((va_up_ne _ _ (by omega)).trans fal1)
          have fg7_1 : g7 (b1 + 2) = .inl (cI, 6, .inl (fh1)) := (congrFun eg7 (b1 + 2)).trans ((va_up_ne _ _ (by omega)).trans fah1)
          have fg7_2 : g7 (b1 + 3) = .inl (cI, 6, .inl (ft1)) := (congrFun eg7 (b1 + 3)).trans ((va_up_ne _ _ (by omega)).trans fat1)
          have fg7_3 : g7 (b1 + 4) = .inl (cJ, 6, .inr (.inl (fs1))) := (congrFun eg7 (b1 + 4)).trans ((va_up_ne _ _ (by omega)).trans fas1)
          have fg7_4 : g7 (1) = .inr (0, [.ref (ad (2)), .int (nI (q)), .int (nI (Wt))]) := (congrFun eg7 (1)).trans ((va_up_ne _ _ (by omega)).trans fo_1)
          have fg7_5 : g7 (2) = .inl (cI, 4, .inl (f2)) := (congrFun eg7 (2)).trans ((va_up_ne _ _ (by omega)).trans fa_2)
          have fg7_w : g7 (b1) = .inr (4, [.ref (ad (b1 + 1)), .ref (ad (b1 + 2)), .ref (ad (b1 + 3)), .ref (ad (b1 + 4)), .int (nI (n1)), .int (co1), .long (ow1)]) := (congrFun eg7 (b1)).trans (va_up_self _ _ _)
          have hfrg7 : ∀ j : Nat, j ≠ b1 → j ≠ b1 + 1 → j ≠ b1 + 2 → j ≠ b1 + 3 → j ≠ b1 + 4 → g7 j = g j := fun j h0 h1 h2 h3 h4 => (congrFun eg7 j).trans ((va_up_ne _ _ h0).trans ((fun _ _ _ _ _ _ => rfl) j h0 h1 h2 h3 h4))
          refine lv_aload_n hx hb dX4_spell_46 rfl (lv_at hl 1 rfl) ?_
          refine lv_iload_n hx hb dX4_spell_47 rfl (lv_at hl 3 rfl) ?_
          refine xw_put hx hb hts hin4 tyX4 tyX4_ok nmX4 hown hK hP hD hS (by omega) fg7_w rfl 5 (by decide) hf37 rfl rfl (ty := .int) (by decide +kernel) rfl rfl (Nat.le_of_ble_eq_true rfl) (fs' := [.ref (ad (b1 + 1)), .ref (ad (b1 + 2)), .ref (ad (b1 + 3)), .ref (ad (b1 + 4)), .int (nI (n1)), .int (nI (cd)), .long (ow1)]) rfl dX4_spell_48 (fun g8 H locs eg8 hP hS => ?_)
          have fg8_0 : g8 (b1 + 1) = .inl (cI, 5, .inl (fl1)) := (congrFun eg8 (b1 + 1)).trans ((va_up_ne _ _ (by omega)).trans fg7_0)
          have fg8_1 : g8 (b1 + 2) = .inl (cI, 6, .inl (fh1)) := (congrFun eg8 (b1 + 2)).trans ((va_up_ne _ _ (by omega)).trans fg7_1)
          have fg8_2 : g8 (b1 + 3) = .inl (cI, 6, .inl (ft1)) := (congrFun eg8 (b1 + 3)).trans ((va_up_ne _ _ (by omega)).trans fg7_2)
          have fg8_3 : g8 (b1 + 4) = .inl (cJ, 6, .inr (.inl (fs1))) := (congrFun eg8 (b1 + 4)).trans ((va_up_ne _ _ (by omega)).trans fg7_3)
          have fg8_4 : g8 (1) = .inr (0, [.ref (ad (2)), .int (nI (q)), .int (nI (Wt))]) := (congrFun eg8 (1)).trans ((va_up_ne _ _ (by omega)).trans fg7_4)
          have fg8_5 : g8 (2) = .inl (cI, 4, .inl (f2)) := (congrFun eg8 (2)).trans ((va_up_ne _ _ (by omega)).trans fg7_5)
          have fg8_w : g8 (b1) = .inr (4, [.ref (ad (b1 + 1)), .ref (ad (b1 + 2)), .ref (ad (b1 + 3)), .ref (ad (b1 + 4)), .int (nI (n1)), .int (nI (cd)), .long (ow1)]) := (congrFun eg8 (b1)).trans (va_up_self _ _ _)
          have hfrg8 : ∀ j : Nat, j ≠ b1 → j ≠ b1 + 1 → j ≠ b1 + 2 → j ≠ b1 + 3 → j ≠ b1 + 4 → g8 j = g j := fun j h0 h1 h2 h3 h4 => (congrFun eg8 j).trans ((va_up_ne _ _ h0).trans (hfrg7 j h0 h1 h2 h3 h4))
          refine lv_iload_n hx hb dX4_spell_51 rfl (lv_at hl 3 rfl) ?_
          refine lv_istore (lv' := [(5, .int (nI (cd))), (4, .int (nI (q))), (0, .ref (ad (b1))), (1, .int (nI (n1))), (2, .int (nI (cd))), (3, .ref (ad (1)))]) hx hb dX4_spell_52 hl (by decide) rfl (fun ls hl => ?_)
          refine lv_iconst (v := nI (1)) hx hb dX4_spell_54 (by decide) ?_
          refine lv_istore (lv' := [(6, .int (nI (1))), (5, .int (nI (cd))), (4, .int (nI (q))), (0, .ref (ad (b1))), (1, .int (nI (n1))), (2, .int (nI (cd))), (3, .ref (ad (1)))]) hx hb dX4_spell_55 hl (by decide) rfl (fun ls hl => ?_)
          refine lv_iconst (v := nI (1)) hx hb dX4_spell_57 (by decide) ?_
          refine lv_istore (lv' := [(7, .int (nI (1))), (6, .int (nI (1))), (5, .int (nI (cd))), (4, .int (nI (q))), (0, .ref (ad (b1))), (1, .int (nI (n1))), (2, .int (nI (cd))), (3, .ref (ad (1)))]) hx hb dX4_spell_58 hl (by decide) rfl (fun ls hl => ?_)
          refine xloopW (G := fun H locs fr => W p l e _ s m _ below meth c H locs _ _ _ fr) (σ := Nat × (Nat → Int32) × (Nat → Int32)) (fun (i, fl, ft) ls => F0 m 60 ls []) (fun (i, fl, ft) gl60_9 H locs ls => (i ≤ n1) ∧ (∀ j, n1 - i ≤ j → j < n1 → fl j = nI (dg q cd n1 j)) ∧ (∀ j, j ≤ i → ft j = nI (cd % q ^ j)) ∧ gl60_9 (1) = .inr (0, [.ref (ad (2)), .int (nI (q)), .int (nI (Wt))]) ∧ gl60_9 (2) = .inl (cI, 4, .inl (f2)) ∧ gl60_9 (b1 + 4) = .inl (cJ, 6, .inr (.inl (fs1))) ∧ gl60_9 (b1) = .inr (4, [.ref (ad (b1 + 1)), .ref (ad (b1 + 2)), .ref (ad (b1 + 3)), .ref (ad (b1 + 4)), .int (nI (n1)), .int (nI (cd)), .long (ow1)]) ∧ gl60_9 (b1 + 1) = .inl (cI, 5, .inl (fl)) ∧ gl60_9 (b1 + 2) = .inl (cI, 6, .inl (fh1)) ∧ gl60_9 (b1 + 3) = .inl (cI, 6, .inl (ft)) ∧ (∀ j : Nat, j ≠ b1 → j ≠ b1 + 1 → j ≠ b1 + 2 → j ≠ b1 + 3 → j ≠ b1 + 4 → gl60_9 j = g j) ∧ va_P D vwCl (xw 81 ad gl60_9) H ∧ va_S A s.heap H locs ∧ lv_has ls 9 [(0, .ref (ad (b1))), (1, .int (nI (n1))), (2, .int (nI (cd))), (3, .ref (ad (1))), (4, .int (nI (q))), (5, .int (nI (cd / q ^ i))), (6, .int (nI (q ^ i))), (7, .int (nI (i + 1)))]) (fun (i, fl, ft) => 6 - i) ?_ (0, fl1, ft1) g8 H locs ls ⟨(by omega), (fun j h1 h2 => absurd h1 (by omega)), (fun j hj => by rw [show j = 0 by omega, ht0, Nat.pow_zero, Nat.mod_one]), fg8_4, fg8_5, fg8_3, fg8_w, fg8_0, fg8_1, fg8_2, hfrg8, hP, hS, (by rw [Nat.pow_zero, Nat.div_one]; exact (lv_sub hl [4, 5, 6, 7, 3, 2, 1, 0] rfl))⟩
          rintro ⟨i, fl, ft⟩ gl60_9 H locs ls ⟨hi, hfl, hft, fo_1, fa_2, fas1, fo1, fal1, fah1, fat1, hfrgl60_9, hP, hS, hl⟩ ih60
          refine lv_iload hx hb dX4_spell_60 (lv_at hl 7 rfl) ?_
          refine lv_iload_n hx hb dX4_spell_62 rfl (lv_at hl 1 rfl) ?_
          refine xi_icmp_gt (tgt := 126) hx hb (by omega) (by omega) dX4_spell_63 (by decide) (fun c63_10 => ?_) (fun c63_10 => ?_)
          · have hin1 : i = n1 := by omega
            have hflz : ∀ j, j < n1 → fl j = nI (dg q cd n1 j) := fun j hj => hfl j (by omega) hj
            have hftz : ∀ k, k ≤ n1 → ft k = nI (px q (fun j => dg q cd n1 (n1 - k + j)) k) := fun k hk => by rw [px_tl (by omega) hcd hk]; exact hft k (by omega)
            refine lv_iconst (v := nI (1)) hx hb dX4_spell_126 (by decide) ?_
            refine lv_istore (lv' := [(7, .int (nI (1))), (0, .ref (ad (b1))), (1, .int (nI (n1))), (2, .int (nI (cd))), (3, .ref (ad (1))), (4, .int (nI (q))), (5, .int (nI (cd / q ^ i))), (6, .int (nI (q ^ i)))]) hx hb dX4_spell_127 hl (by decide) rfl (fun ls hl => ?_)
            refine xloopW (G := fun H locs fr => W p l e _ s m _ below meth c H locs _ _ _ fr) (σ := Nat × (Nat → Int32)) (fun (i, fh) ls => F0 m 129 ls []) (fun (i, fh) gl129_11 H locs ls => (i ≤ n1) ∧ (∀ j, j ≤ i → fh j = nI (px q (dg q cd n1) j)) ∧ gl129_11 (1) = .inr (0, [.ref (ad (2)), .int (nI (q)), .int (nI (Wt))]) ∧ gl129_11 (2) = .inl (cI, 4, .inl (f2)) ∧ gl129_11 (b1 + 4) = .inl (cJ, 6, .inr (.inl (fs1))) ∧ gl129_11 (b1) = .inr (4, [.ref (ad (b1 + 1)), .ref (ad (b1 + 2)), .ref (ad (b1 + 3)), .ref (ad (b1 + 4)), .int (nI (n1)), .int (nI (cd)), .long (ow1)]) ∧ gl129_11 (b1 + 1) = .inl (cI, 5, .inl (fl)) ∧ gl129_11 (b1 + 2) = .inl (cI, 6, .inl (fh)) ∧ gl129_11 (b1 + 3) = .inl (cI, 6, .inl (ft)) ∧ (∀ j : Nat, j ≠ b1 → j ≠ b1 + 1 → j ≠ b1 + 2 → j ≠ b1 + 3 → j ≠ b1 + 4 → gl129_11 j = g j) ∧ va_P D vwCl (xw 81 ad gl129_11) H ∧ va_S A s.heap H locs ∧ lv_has ls 9 [(0, .ref (ad (b1))), (1, .int (nI (n1))), (2, .int (nI (cd))), (3, .ref (ad (1))), (4, .int (nI (q))), (7, .int (nI (i + 1)))]) (fun (i, fh) => 6 - i) ?_ (0, fh1) gl60_9 H locs ls ⟨(by omega), (fun j hj => by rw [show j = 0 by omega, hh0]; rfl), fo_1, fa_2, fas1, fo1, fal1, fah1, fat1, hfrgl60_9, hP, hS, (lv_sub hl [1, 2, 3, 4, 5, 0] rfl)⟩
            rintro ⟨i, fh⟩ gl129_11 H locs ls ⟨hi, hfh, fo_1, fa_2, fas1, fo1, fal1, fah1, fat1, hfrgl129_11, hP, hS, hl⟩ ih129
            refine lv_iload hx hb dX4_spell_129 (lv_at hl 5 rfl) ?_
            refine lv_iload_n hx hb dX4_spell_131 rfl (lv_at hl 1 rfl) ?_
            refine xi_icmp_gt (tgt := 170) hx hb (by omega) (by omega) dX4_spell_132 (by decide) (fun c132_12 => ?_) (fun c132_12 => ?_)
            · have hfhz : ∀ k, k ≤ n1 → fh k = nI (px q (dg q cd n1) k) := fun k hk => hfh k (by omega)
              refine lv_aload_n hx hb dX4_spell_170 rfl (lv_at hl 0 rfl) ?_
              refine lv_aload_n hx hb dX4_spell_171 rfl (lv_at hl 3 rfl) ?_
              refine va_callv (va_runV (As := [.ref (ad (1))]) (rest := []) ⟨hx, hb, hml, hown, hts⟩ (mX4_share l hD (q := q) (Wt := Wt) (w := w) (u1 := dg q cd n1) fo1 fal1 fo_1 fa_2 fas1 hq4 h2 hw hWt hb1 hn1 (fun j _ => dg_lt (by omega)) hflz hb17 (by omega)) (cwV 1 hts gX4_spell_X4_share rfl rfl rfl (by decide +kernel) ⟨Nat.le_of_ble_eq_true rfl, Nat.le_of_ble_eq_true rfl⟩) ⟨xB_blind, va_recv hK hP (ci := 4) rfl (xw_is (by omega) fo1), fun U hU hW => ⟨rfl, by rw [hU]; exact hP, va_K.moved hW.alike hK, va_Nw.warmM hW hN⟩⟩ rfl rfl hl.1 rfl (lv_room (Nat.le_of_ble_eq_true rfl)) dX4_spell_172 ⟨Nat.le_of_ble_eq_true rfl, Nat.le_of_ble_eq_true rfl⟩) hS (fun _ _ h => h) (fun _ h => h) (fun g13 tZ H locs ht hvm hwg13 hB hzZ hkZ hS => ?_)
              obtain ⟨hP, -⟩ := hB
              rw [ht] at hP
              obtain ⟨fsn, hfsn, fg13_n0, hcg13⟩ := hwg13
              have fg13_k0 : g13 (1) = .inr (0, [.ref (ad (2)), .int (nI (q)), .int (nI (Wt))]) := (hcg13 (1) (by omega)).trans fo_1
              have fg13_k1 : g13 (2) = .inl (cI, 4, .inl (f2)) := (hcg13 (2) (by omega)).trans fa_2
              have fg13_k2 : g13 (b1) = .inr (4, [.ref (ad (b1 + 1)), .ref (ad (b1 + 2)), .ref (ad (b1 + 3)), .ref (ad (b1 + 4)), .int (nI (n1)), .int (nI (cd)), .long (ow1)]) := (hcg13 (b1) (by omega)).trans fo1
              have fg13_k3 : g13 (b1 + 1) = .inl (cI, 5, .inl (fl)) := (hcg13 (b1 + 1) (by omega)).trans fal1
              have fg13_k4 : g13 (b1 + 2) = .inl (cI, 6, .inl (fh)) := (hcg13 (b1 + 2) (by omega)).trans fah1
              have fg13_k5 : g13 (b1 + 3) = .inl (cI, 6, .inl (ft)) := (hcg13 (b1 + 3) (by omega)).trans fat1
              have hfrg13 : ∀ j : Nat, j ≠ b1 → j ≠ b1 + 1 → j ≠ b1 + 2 → j ≠ b1 + 3 → j ≠ b1 + 4 → g13 j = g j := fun j h0 h1 h2 h3 h4 => (hcg13 j h4).trans (hfrgl129_11 j h0 h1 h2 h3 h4)
              refine lv_aload_n hx hb dX4_spell_175 rfl (lv_at hl 0 rfl) ?_
              refine lv_aload_n hx hb dX4_spell_176 rfl (lv_at hl 0 rfl) ?_
              refine lv_aload_n hx hb dX4_spell_177 rfl (lv_at hl 0 rfl) ?_
              refine vp_callSl (va_Run.run (va_runV (As := [.ref (ad (b1))]) (rest := [.ref (ad (b1))]) ⟨hx, hb, hml, hown, hts⟩ (mX4_leadOn l (q := q) (u1 := dg q cd n1) (u2 := dg q cd n1) (sf2 := shr Wt w (dg q cd n1) n1) fg13_k2 fg13_k5 fg13_k2 fg13_k4 fg13_n0 hq4 hb1 hn1 (fun j _ => dg_lt (by omega)) hftz hb1 hn1 (fun j _ => dg_lt (by omega)) hfhz hfsn) (cwV 1 hts gX4_spell_X4_leadOn rfl rfl rfl (by decide +kernel) ⟨Nat.le_of_ble_eq_true rfl, Nat.le_of_ble_eq_true rfl⟩) ⟨xB_blind, va_recv hK hP (ci := 4) rfl (xw_is (by omega) fg13_k2), fun U hU hW => ⟨rfl, by rw [hU]; exact hP, va_K.moved hW.alike hK, va_Nw.warmM hW hN⟩⟩ rfl rfl hl.1 rfl (lv_room (Nat.le_of_ble_eq_true rfl)) dX4_spell_178 ⟨Nat.le_of_ble_eq_true rfl, Nat.le_of_ble_eq_true rfl⟩)) (fun r15 er15 => ?_)
              subst er15
              refine xw_put hx hb hts hin4 tyX4 tyX4_ok nmX4 hown hK hP hD hS (by omega) fg13_k2 rfl 6 (by decide) hf48 rfl rfl (ty := .long) (by decide +kernel) rfl rfl (Nat.le_of_ble_eq_true rfl) (fs' := [.ref (ad (b1 + 1)), .ref (ad (b1 + 2)), .ref (ad (b1 + 3)), .ref (ad (b1 + 4)), .int (nI (n1)), .int (nI (cd)), .long (lZ (((lapS (shr Wt w (dg q cd n1) n1) (dg q cd n1) n1 (dg q cd n1) n1 5 : Nat) : Int)))]) rfl dX4_spell_181 (fun g16 H locs eg16 hP hS => ?_)
              have fg16_0 : g16 (b1 + 4) = .inl (cJ, 6, .inr (.inl (fsn))) := (congrFun eg16 (b1 + 4)).trans ((va_up_ne _ _ (by omega)).trans fg13_n0)
              have fg16_1 : g16 (1) = .inr (0, [.ref (ad (2)), .int (nI (q)), .int (nI (Wt))]) := (congrFun eg16 (1)).trans ((va_up_ne _ _ (by omega)).trans fg13_k0)
              have fg16_2 : g16 (2) = .inl (cI, 4, .inl (f2)) := (congrFun eg16 (2)).trans ((va_up_ne _ _ (by omega)).trans fg13_k1)
              have fg16_3 : g16 (b1 + 1) = .inl (cI, 5, .inl (fl)) := (congrFun eg16 (b1 + 1)).trans ((va_up_ne _ _ (by omega)).trans fg13_k3)
              have fg16_4 : g16 (b1 + 2) = .inl (cI, 6, .inl (fh)) := (congrFun eg16 (b1 + 2)).trans ((va_up_ne _ _ (by omega)).trans fg13_k4)
              have fg16_5 : g16 (b1 + 3) = .inl (cI, 6, .inl (ft)) := (congrFun eg16 (b1 + 3)).trans ((va_up_ne _ _ (by omega)).trans fg13_k5)
              have fg16_w : g16 (b1) = .inr (4, [.ref (ad (b1 + 1)), .ref (ad (b1 + 2)), .ref (ad (b1 + 3)), .ref (ad (b1 + 4)), .int (nI (n1)), .int (nI (cd)), .long (lZ (((lapS (shr Wt w (dg q cd n1) n1) (dg q cd n1) n1 (dg q cd n1) n1 5 : Nat) : Int)))]) := (congrFun eg16 (b1)).trans (va_up_self _ _ _)
              have hfrg16 : ∀ j : Nat, j ≠ b1 → j ≠ b1 + 1 → j ≠ b1 + 2 → j ≠ b1 + 3 → j ≠ b1 + 4 → g16 j = g j := fun j h0 h1 h2 h3 h4 => (congrFun eg16 j).trans ((va_up_ne _ _ h0).trans (hfrg13 j h0 h1 h2 h3 h4))
              refine lv_iconst (v := nI (1)) hx hb dX4_spell_184 (by decide) ?_
              exact W.zret (v := nI (1)) hx hb hr (by decide) (fun tZ ht hW => ⟨⟨_, g16, rfl, ⟨rfl, fl, fh, ft, fsn, hflz, hfhz, hftz, hfsn, (by rw [← hh0]; exact (hfh 0 (by omega)).trans hh0.symm), ((hft 0 (by omega)).trans (by rw [Nat.pow_zero, Nat.mod_one])), fg16_w, fg16_3, fg16_4, fg16_5, fg16_0, hfrg16⟩, by rw [ht]; exact hP, va_K.moved hW.alike hK, va_Nw.warmM hW hN⟩, hS.F ht⟩) hS.2.2 dX4_spell_185
            · refine lv_aload_n hx hb dX4_spell_135 rfl (lv_at hl 0 rfl) ?_
              refine xw_get hx hb hts hin4 hown hK hP (by omega) fo1 rfl 1 (by decide) hf15 rfl rfl dX4_spell_136 ?_
              refine lv_iload hx hb dX4_spell_139 (lv_at hl 5 rfl) ?_
              refine lv_aload_n hx hb dX4_spell_141 rfl (lv_at hl 0 rfl) ?_
              refine xw_get hx hb hts hin4 hown hK hP (by omega) fo1 rfl 1 (by decide) hf15 rfl rfl dX4_spell_142 ?_
              refine lv_iload hx hb dX4_spell_145 (lv_at hl 5 rfl) ?_
              refine lv_iconst (v := nI (1)) hx hb dX4_spell_147 (by decide) ?_
              refine xi_sub hx hb (by omega) dX4_spell_148 ?_
              refine xw_iald hx hb hK hP (by omega) 0 fah1 rfl (by omega) (by decide) dX4_spell_149 ?_
              rw [hfh ((i + 1) - 1) (by omega)]
              refine lv_iload hx hb dX4_spell_150 (lv_at hl 4 rfl) ?_
              refine xi_mul hx hb dX4_spell_152 ?_
              refine lv_aload_n hx hb dX4_spell_153 rfl (lv_at hl 0 rfl) ?_
              refine xw_get hx hb hts hin4 hown hK hP (by omega) fo1 rfl 0 (by decide) hf9 rfl rfl dX4_spell_154 ?_
              refine lv_iload hx hb dX4_spell_157 (lv_at hl 5 rfl) ?_
              refine lv_iconst (v := nI (1)) hx hb dX4_spell_159 (by decide) ?_
              refine xi_sub hx hb (by omega) dX4_spell_160 ?_
              refine xw_iald hx hb hK hP (by omega) 0 fal1 rfl (by omega) (by decide) dX4_spell_161 ?_
              rw [hfl ((i + 1) - 1) (by omega) (by omega)]
              refine xi_add hx hb dX4_spell_162 ?_
              refine xtopi (y := nI (px q (dg q cd n1) (i + 1))) (congrArg nI (by rw [Nat.add_sub_cancel]; rfl)) ?_
              refine xw_iast hx hb hK hP hD hS (by omega) 0 fah1 rfl (by omega) (by decide) dX4_spell_163 (fun g17 H locs eg17 hP hS => ?_)
              have fg17_0 : g17 (1) = .inr (0, [.ref (ad (2)), .int (nI (q)), .int (nI (Wt))]) := (congrFun eg17 (1)).trans ((va_up_ne _ _ (by omega)).trans fo_1)
              have fg17_1 : g17 (2) = .inl (cI, 4, .inl (f2)) := (congrFun eg17 (2)).trans ((va_up_ne _ _ (by omega)).trans fa_2)
              have fg17_2 : g17 (b1 + 4) = .inl (cJ, 6, .inr (.inl (fs1))) := (congrFun eg17 (b1 + 4)).trans ((va_up_ne _ _ (by omega)).trans fas1)
              have fg17_3 : g17 (b1) = .inr (4, [.ref (ad (b1 + 1)), .ref (ad (b1 + 2)), .ref (ad (b1 + 3)), .ref (ad (b1 + 4)), .int (nI (n1)), .int (nI (cd)), .long (ow1)]) := (congrFun eg17 (b1)).trans ((va_up_ne _ _ (by omega)).trans fo1)
              have fg17_4 : g17 (b1 + 1) = .inl (cI, 5, .inl (fl)) := (congrFun eg17 (b1 + 1)).trans ((va_up_ne _ _ (by omega)).trans fal1)
              have fg17_5 : g17 (b1 + 3) = .inl (cI, 6, .inl (ft)) := (congrFun eg17 (b1 + 3)).trans ((va_up_ne _ _ (by omega)).trans fat1)
              have fg17_w : g17 (b1 + 2) = .inl (cI, 6, .inl (upd (fh) (i + 1) (nI (px q (dg q cd n1) (i + 1))))) := (congrFun eg17 (b1 + 2)).trans (va_up_self _ _ _)
              have hfrg17 : ∀ j : Nat, j ≠ b1 → j ≠ b1 + 1 → j ≠ b1 + 2 → j ≠ b1 + 3 → j ≠ b1 + 4 → g17 j = g j := fun j h0 h1 h2 h3 h4 => (congrFun eg17 j).trans ((va_up_ne _ _ h2).trans (hfrgl129_11 j h0 h1 h2 h3 h4))
              refine lv_iinc (v := nI (i + 1 + 1)) (lv' := [(7, .int (nI (i + 1 + 1))), (0, .ref (ad (b1))), (1, .int (nI (n1))), (2, .int (nI (cd))), (3, .ref (ad (1))), (4, .int (nI (q)))]) hx hb dX4_spell_164 hl (k := 5) rfl (nI_add (i + 1) 1) (by decide) rfl (fun ls hl => ?_)
              refine lv_goto (tgt := 129) hx hb dX4_spell_167 (by decide) ?_
              exact ih129 (i + 1, upd (fh) (i + 1) (nI (px q (dg q cd n1) (i + 1)))) g17 H locs ls ⟨(by omega), (upd_s (F := fun j => nI (px q (dg q cd n1) j)) hfh rfl), fg17_0, fg17_1, fg17_2, fg17_3, fg17_4, fg17_w, fg17_5, hfrg17, hP, hS, (lv_sub hl [1, 2, 3, 4, 5, 0] rfl)⟩ (by first | omega | (dsimp only; omega))
          · refine lv_iload hx hb dX4_spell_66 (lv_at hl 5 rfl) ?_
            refine lv_iload hx hb dX4_spell_68 (lv_at hl 4 rfl) ?_
            refine xi_rem hx hb (Nat.lt_of_le_of_lt (Nat.div_le_self _ _) (by omega)) (by omega) (by omega) dX4_spell_70 ?_
            refine lv_istore (lv' := [(8, .int (nI ((cd / q ^ i) % q))), (0, .ref (ad (b1))), (1, .int (nI (n1))), (2, .int (nI (cd))), (3, .ref (ad (1))), (4, .int (nI (q))), (5, .int (nI (cd / q ^ i))), (6, .int (nI (q ^ i))), (7, .int (nI (i + 1)))]) hx hb dX4_spell_71 hl (by decide) rfl (fun ls hl => ?_)
            refine lv_aload_n hx hb dX4_spell_73 rfl (lv_at hl 1 rfl) ?_
            refine xw_get hx hb hts hin4 hown hK hP (by omega) fo1 rfl 0 (by decide) hf9 rfl rfl dX4_spell_74 ?_
            refine lv_iload_n hx hb dX4_spell_77 rfl (lv_at hl 2 rfl) ?_
            refine lv_iload hx hb dX4_spell_78 (lv_at hl 8 rfl) ?_
            refine xi_sub hx hb (by omega) dX4_spell_80 ?_
            refine lv_iload hx hb dX4_spell_81 (lv_at hl 0 rfl) ?_
            refine xw_iast hx hb hK hP hD hS (by omega) 0 fal1 rfl (by omega) (by decide) dX4_spell_83 (fun g18 H locs eg18 hP hS => ?_)
            have fg18_0 : g18 (1) = .inr (0, [.ref (ad (2)), .int (nI (q)), .int (nI (Wt))]) := (congrFun eg18 (1)).trans ((va_up_ne _ _ (by omega)).trans fo_1)
            have fg18_1 : g18 (2) = .inl (cI, 4, .inl (f2)) := (congrFun eg18 (2)).trans ((va_up_ne _ _ (by omega)).trans fa_2)
            have fg18_2 : g18 (b1 + 4) = .inl (cJ, 6, .inr (.inl (fs1))) := (congrFun eg18 (b1 + 4)).trans ((va_up_ne _ _ (by omega)).trans fas1)
            have fg18_3 : g18 (b1) = .inr (4, [.ref (ad (b1 + 1)), .ref (ad (b1 + 2)), .ref (ad (b1 + 3)), .ref (ad (b1 + 4)), .int (nI (n1)), .int (nI (cd)), .long (ow1)]) := (congrFun eg18 (b1)).trans ((va_up_ne _ _ (by omega)).trans fo1)
            have fg18_4 : g18 (b1 + 2) = .inl (cI, 6, .inl (fh1)) := (congrFun eg18 (b1 + 2)).trans ((va_up_ne _ _ (by omega)).trans fah1)
            have fg18_5 : g18 (b1 + 3) = .inl (cI, 6, .inl (ft)) := (congrFun eg18 (b1 + 3)).trans ((va_up_ne _ _ (by omega)).trans fat1)
            have fg18_w : g18 (b1 + 1) = .inl (cI, 5, .inl (upd (fl) (n1 - (i + 1)) (nI ((cd / q ^ i) % q)))) := (congrFun eg18 (b1 + 1)).trans (va_up_self _ _ _)
            have hfrg18 : ∀ j : Nat, j ≠ b1 → j ≠ b1 + 1 → j ≠ b1 + 2 → j ≠ b1 + 3 → j ≠ b1 + 4 → g18 j = g j := fun j h0 h1 h2 h3 h4 => (congrFun eg18 j).trans ((va_up_ne _ _ h1).trans (hfrgl60_9 j h0 h1 h2 h3 h4))
            refine lv_aload_n hx hb dX4_spell_84 rfl (lv_at hl 1 rfl) ?_
            refine xw_get hx hb hts hin4 hown hK hP (by omega) fg18_3 rfl 2 (by decide) hf18 rfl rfl dX4_spell_85 ?_
            refine lv_iload hx hb dX4_spell_88 (lv_at hl 8 rfl) ?_
            refine lv_aload_n hx hb dX4_spell_90 rfl (lv_at hl 1 rfl) ?_
            refine xw_get hx hb hts hin4 hown hK hP (by omega) fg18_3 rfl 2 (by decide) hf18 rfl rfl dX4_spell_91 ?_
            refine lv_iload hx hb dX4_spell_94 (lv_at hl 8 rfl) ?_
            refine lv_iconst (v := nI (1)) hx hb dX4_spell_96 (by decide) ?_
            refine xi_sub hx hb (by omega) dX4_spell_97 ?_
            refine xw_iald hx hb hK hP (by omega) 0 fg18_5 rfl (by omega) (by decide) dX4_spell_98 ?_
            rw [hft ((i + 1) - 1) (by omega)]
            refine lv_iload hx hb dX4_spell_99 (lv_at hl 0 rfl) ?_
            refine lv_iload hx hb dX4_spell_101 (lv_at hl 7 rfl) ?_
            refine xi_mul hx hb dX4_spell_103 ?_
            refine xi_add hx hb dX4_spell_104 ?_
            refine xtopi (y := nI (cd % q ^ (i + 1))) (congrArg nI (by rw [Nat.add_sub_cancel]; exact mod_s)) ?_
            refine xw_iast hx hb hK hP hD hS (by omega) 0 fg18_5 rfl (by omega) (by decide) dX4_spell_105 (fun g19 H locs eg19 hP hS => ?_)
            have fg19_0 : g19 (1) = .inr (0, [.ref (ad (2)), .int (nI (q)), .int (nI (Wt))]) := (congrFun eg19 (1)).trans ((va_up_ne _ _ (by omega)).trans fg18_0)
            have fg19_1 : g19 (2) = .inl (cI, 4, .inl (f2)) := (congrFun eg19 (2)).trans ((va_up_ne _ _ (by omega)).trans fg18_1)
            have fg19_2 : g19 (b1 + 4) = .inl (cJ, 6, .inr (.inl (fs1))) := (congrFun eg19 (b1 + 4)).trans ((va_up_ne _ _ (by omega)).trans fg18_2)
            have fg19_3 : g19 (b1) = .inr (4, [.ref (ad (b1 + 1)), .ref (ad (b1 + 2)), .ref (ad (b1 + 3)), .ref (ad (b1 + 4)), .int (nI (n1)), .int (nI (cd)), .long (ow1)]) := (congrFun eg19 (b1)).trans ((va_up_ne _ _ (by omega)).trans fg18_3)
            have fg19_4 : g19 (b1 + 2) = .inl (cI, 6, .inl (fh1)) := (congrFun eg19 (b1 + 2)).trans ((va_up_ne _ _ (by omega)).trans fg18_4)
            have fg19_5 : g19 (b1 + 1) = .inl (cI, 5, .inl (upd (fl) (n1 - (i + 1)) (nI ((cd / q ^ i) % q)))) := (congrFun eg19 (b1 + 1)).trans ((va_up_ne _ _ (by omega)).trans fg18_w)
            have fg19_w : g19 (b1 + 3) = .inl (cI, 6, .inl (upd (ft) (i + 1) (nI (cd % q ^ (i + 1))))) := (congrFun eg19 (b1 + 3)).trans (va_up_self _ _ _)
            have hfrg19 : ∀ j : Nat, j ≠ b1 → j ≠ b1 + 1 → j ≠ b1 + 2 → j ≠ b1 + 3 → j ≠ b1 + 4 → g19 j = g j := fun j h0 h1 h2 h3 h4 => (congrFun eg19 j).trans ((va_up_ne _ _ h3).trans (hfrg18 j h0 h1 h2 h3 h4))
            refine lv_iload hx hb dX4_spell_106 (lv_at hl 6 rfl) ?_
            refine lv_iload hx hb dX4_spell_108 (lv_at hl 5 rfl) ?_
            refine xi_div hx hb (Nat.lt_of_le_of_lt (Nat.div_le_self _ _) (by omega)) (by omega) (by omega) dX4_spell_110 ?_
            refine xtopi (y := nI (cd / q ^ (i + 1))) (congrArg nI (by rw [Nat.div_div_eq_div_mul, Nat.pow_succ])) ?_
            refine lv_istore (lv' := [(5, .int (nI (cd / q ^ (i + 1)))), (8, .int (nI ((cd / q ^ i) % q))), (0, .ref (ad (b1))), (1, .int (nI (n1))), (2, .int (nI (cd))), (3, .ref (ad (1))), (4, .int (nI (q))), (6, .int (nI (q ^ i))), (7, .int (nI (i + 1)))]) hx hb dX4_spell_111 hl (by decide) rfl (fun ls hl => ?_)
            refine lv_iload hx hb dX4_spell_113 (lv_at hl 7 rfl) ?_
            refine lv_iload hx hb dX4_spell_115 (lv_at hl 6 rfl) ?_
            refine xi_mul hx hb dX4_spell_117 ?_
            refine xtopi (y := nI (q ^ (i + 1))) (congrArg nI (by rw [Nat.pow_succ])) ?_
            refine lv_istore (lv' := [(6, .int (nI (q ^ (i + 1)))), (5, .int (nI (cd / q ^ (i + 1)))), (8, .int (nI ((cd / q ^ i) % q))), (0, .ref (ad (b1))), (1, .int (nI (n1))), (2, .int (nI (cd))), (3, .ref (ad (1))), (4, .int (nI (q))), (7, .int (nI (i + 1)))]) hx hb dX4_spell_118 hl (by decide) rfl (fun ls hl => ?_)
            refine lv_iinc (v := nI (i + 1 + 1)) (lv' := [(7, .int (nI (i + 1 + 1))), (6, .int (nI (q ^ (i + 1)))), (5, .int (nI (cd / q ^ (i + 1)))), (8, .int (nI ((cd / q ^ i) % q))), (0, .ref (ad (b1))), (1, .int (nI (n1))), (2, .int (nI (cd))), (3, .ref (ad (1))), (4, .int (nI (q)))]) hx hb dX4_spell_120 hl (k := 8) rfl (nI_add (i + 1) 1) (by decide) rfl (fun ls hl => ?_)
            refine lv_goto (tgt := 60) hx hb dX4_spell_123 (by decide) ?_
            exact ih60 (i + 1, upd (fl) (n1 - (i + 1)) (nI ((cd / q ^ i) % q)), upd (ft) (i + 1) (nI (cd % q ^ (i + 1)))) g19 H locs ls ⟨(by omega), (fun j h1 h2 => if e : j = n1 - (i + 1) then by subst e; rw [pk_us]; show nI _ = nI (cd / q ^ (n1 - 1 - (n1 - (i + 1))) % q); rw [show n1 - 1 - (n1 - (i + 1)) = i by omega] else by rw [pk_un e]; exact hfl j (by omega) h2), (upd_s (F := fun j => nI (cd % q ^ j)) hft rfl), fg19_0, fg19_1, fg19_2, fg19_3, fg19_5, fg19_4, fg19_w, hfrg19, hP, hS, (lv_sub hl [4, 5, 6, 7, 8, 2, 1, 0] rfl)⟩ (by first | omega | (dsimp only; omega))
        · exact absurd c35_6 (by have h := hcd; omega)
