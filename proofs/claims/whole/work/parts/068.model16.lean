set_option maxHeartbeats 4000000 in
set_option maxRecDepth 100000 in
/-- counts -/
theorem mX6_counts (l : Launch) {D : va_G} {cI cJ cZ cW : ClassId} {ad : Nat → Nat} {A : Nat → Prop} (hD : ∀ g, va_D A (xw 81 ad g)) {g : Nat → va_E} {q Wt T : Nat} {w ln t : Nat → Nat} {u : Nat → Nat → Nat} {tp bt : Int64} {B0 n0 nv : Nat} {sq : Int32} {nu de : Int64} {fw : Nat → Int32} {fsz : Nat → Int32} {fwd : Nat → Int32} {fnw : Nat → Int64} {fth : Nat → Int64}  (fo62 : g (62) = .inr (6, [.int (nI (q)), .int (nI (Wt)), .ref (ad (63)), .ref (ad (64)), .ref (ad (65)), .ref (ad (66)), .int (nI (T)), .long (tp), .long (bt), .long (nu), .long (de), .int (sq), .ref (ad (67)), .ref (ad (68)), .ref (ad (69)), .ref (ad (70)), .ref (ad (71)), .ref (ad (72)), .ref (ad (73)), .ref (ad (74)), .ref (ad (75)), .ref (ad (76)), .ref (ad (77)), .ref (ad (78)), .ref (ad (79)), .ref (ad (80))])) (fa63 : g (63) = .inl (cI, 4, .inl (fw))) (fa64 : g (64) = .inl (cI, 8, .inl (fsz))) (fa65 : g (65) = .inl (cI, 40, .inl (fwd))) (fa79 : g (79) = .inl (cJ, 16384, .inr (.inl (fnw)))) (fa80 : g (80) = .inl (cJ, 16384, .inr (.inl (fth))))  (hfw : ∀ j, j < 4 → fw j = nI (w j)) (hsz : ∀ k, k < 8 → fsz k = nI (ln k)) (hwl : ∀ k j, k < 8 → j < ln k → fwd (5 * k + j) = nI (u k j))   (hq2 : 2 ≤ q) (hq4 : q ≤ 4) (hln : ∀ k, ln k ≤ 5) (hul : ∀ k j, j < ln k → u k j < q) (hT : T ≤ 300) (ht : ∀ j, j < T → t j < q) (hw : ∀ j, j < 4 → w j ≤ 4) (hB0 : B0 < 256) (hn0 : n0 ≤ 30) (hnv : nv ≤ 1) : Met l yX6_counts wsX6_counts ({ frames := 2, cells := 0, slots := 0, locals := 48 }) (va_Pc [.ref (ad (62)), .int (nI (B0)), .int (nI (n0)), .int (nI (nv))] (xB D (xT cI cJ cZ cW) ad g)) (va_Qv (fun g2 => ∃ fz fy : Nat → Int64, (∀ j, j < 16384 → fz j = lZ (ctN q w (hsN ln u B0) nv (n0) j)) ∧ g2 79 = .inl (cJ, 16384, .inr (.inl (fz))) ∧ g2 80 = .inl (cJ, 16384, .inr (.inl (fy))) ∧ ∀ j : Nat, j ≠ 79 → j ≠ 80 → g2 j = g j) (xB D (xT cI cJ cZ cW) ad) A) 0 0 A := by
  refine Met.ofW (cc := cX6_counts) (maxL := 10) (ret := none) (by decide) rfl ?_
  intro p e s m args below meth c s₁ B hml hv
  obtain ⟨rfl, hP, hK, hN⟩ := hv
  have hx := B.exec
  have hb := B.bytes
  have hr := B.returns
  have hts := atoms_spec (ws := wsX6_counts) B.pre
  have hown : s.vm.findClass RX6 = some m.cls := findClass_of_methodNamed B.named
  have hlocks := B.notSynchronized
  have hS : va_S A s.heap s.heap [] := va_S.rf
  have hin6 : ∀ w ∈ wsX60, w ∈ wsX6_counts := by decide +kernel
  have hf7 := hts (.fieldLink RX6 7 "LettersByLotModel" "q" "I") (by decide +kernel)
  have hf16 := hts (.fieldLink RX6 16 "LettersByLotModel" "weight" "[I") (by decide +kernel)
  have hf20 := hts (.fieldLink RX6 20 "LettersByLotModel" "size" "[I") (by decide +kernel)
  have hf70 := hts (.fieldLink RX6 70 "LettersByLotModel" "now" "[J") (by decide +kernel)
  have hf73 := hts (.fieldLink RX6 73 "LettersByLotModel" "then" "[J") (by decide +kernel)
  have hl := lv_entry ([.ref (ad (62)), .int (nI (B0)), .int (nI (n0)), .int (nI (nv))]) (n := 10) (Nat.le_of_ble_eq_true rfl)
  rw [lg_entry_eq]
  generalize (lg_sl ([.ref (ad (62)), .int (nI (B0)), .int (nI (n0)), .int (nI (nv))]) ++ List.replicate (10 - (lg_sl ([.ref (ad (62)), .int (nI (B0)), .int (nI (n0)), .int (nI (nv))])).length) Slot.unset).toArray = ls at hl ⊢
  have hl : lv_has ls 10 [(0, .ref (ad (62))), (1, .int (nI (B0))), (2, .int (nI (n0))), (3, .int (nI (nv)))] := hl
  refine lv_iconst (v := nI (0)) hx hb dX6_counts_0 (by decide) ?_
  refine lv_istore (lv' := [(4, .int (nI (0))), (0, .ref (ad (62))), (1, .int (nI (B0))), (2, .int (nI (n0))), (3, .int (nI (nv)))]) hx hb dX6_counts_1 hl (by decide) rfl (fun ls hl => ?_)
  refine xloopW (G := fun H locs fr => W p l e _ s m _ below meth c H locs _ _ _ fr) (σ := Nat × (Nat → Int64)) (fun (i, fz) ls => F0 m 3 ls []) (fun (i, fz) gl3_1 H locs ls => (i ≤ 16384) ∧ (∀ j, j < i → fz j = lZ 0) ∧ gl3_1 (62) = .inr (6, [.int (nI (q)), .int (nI (Wt)), .ref (ad (63)), .ref (ad (64)), .ref (ad (65)), .ref (ad (66)), .int (nI (T)), .long (tp), .long (bt), .long (nu), .long (de), .int (sq), .ref (ad (67)), .ref (ad (68)), .ref (ad (69)), .ref (ad (70)), .ref (ad (71)), .ref (ad (72)), .ref (ad (73)), .ref (ad (74)), .ref (ad (75)), .ref (ad (76)), .ref (ad (77)), .ref (ad (78)), .ref (ad (79)), .ref (ad (80))]) ∧ gl3_1 (63) = .inl (cI, 4, .inl (fw)) ∧ gl3_1 (64) = .inl (cI, 8, .inl (fsz)) ∧ gl3_1 (65) = .inl (cI, 40, .inl (fwd)) ∧ gl3_1 (79) = .inl (cJ, 16384, .inr (.inl (fz))) ∧ gl3_1 (80) = .inl (cJ, 16384, .inr (.inl (fth))) ∧ (∀ j : Nat, j ≠ 79 → j ≠ 80 → gl3_1 j = g j) ∧ va_P D vwCl (xw 81 ad gl3_1) H ∧ va_S A s.heap H locs ∧ lv_has ls 10 [(0, .ref (ad (62))), (1, .int (nI (B0))), (2, .int (nI (n0))), (3, .int (nI (nv))), (4, .int (nI (i)))]) (fun (i, fz) => 16384 - i) ?_ (0, fnw) g s.heap [] ls ⟨(Nat.zero_le _), (fun j hj => absurd hj (by omega)), fo62, fa63, fa64, fa65, fa79, fa80, (fun _ _ _ => rfl), hP, hS, (lv_sub hl [1, 2, 3, 4, 0] rfl)⟩
  rintro ⟨i, fz⟩ gl3_1 H locs ls ⟨hi, hfz, fo62, fa63, fa64, fa65, fa79, fa80, hfrgl3_1, hP, hS, hl⟩ ih3
  refine lv_iload hx hb dX6_counts_3 (lv_at hl 4 rfl) ?_
  refine lv_sipush (v := nI (16384)) hx hb dX6_counts_5 (by decide) ?_
  refine xi_icmp_ge (tgt := 25) hx hb (by omega) (by decide) dX6_counts_8 (by decide) (fun c8_2 => ?_) (fun c8_2 => ?_)
  · refine lv_aload_n hx hb dX6_counts_25 rfl (lv_at hl 0 rfl) ?_
    refine xw_get hx hb hts hin6 hown hK hP (by decide) fo62 rfl 24 (by decide) hf70 rfl rfl dX6_counts_26 ?_
    refine lv_iconst (v := nI (1)) hx hb dX6_counts_29 (by decide) ?_
    refine lv_lconst (v := lZ (1)) hx hb dX6_counts_30 (by decide) ?_
    refine xw_last hx hb hK hP hD hS (by decide) 1 fa79 rfl (by omega) (by decide) dX6_counts_31 (fun g3 H locs eg3 hP hS => ?_)
    have fg3_0 : g3 (62) = .inr (6, [.int (nI (q)), .int (nI (Wt)), .ref (ad (63)), .ref (ad (64)), .ref (ad (65)), .ref (ad (66)), .int (nI (T)), .long (tp), .long (bt), .long (nu), .long (de), .int (sq), .ref (ad (67)), .ref (ad (68)), .ref (ad (69)), .ref (ad (70)), .ref (ad (71)), .ref (ad (72)), .ref (ad (73)), .ref (ad (74)), .ref (ad (75)), .ref (ad (76)), .ref (ad (77)), .ref (ad (78)), .ref (ad (79)), .ref (ad (80))]) := (congrFun eg3 (62)).trans ((va_up_ne _ _ (by decide)).trans fo62)
    have fg3_1 : g3 (63) = .inl (cI, 4, .inl (fw)) := (congrFun eg3 (63)).trans ((va_up_ne _ _ (by decide)).trans fa63)
    have fg3_2 : g3 (64) = .inl (cI, 8, .inl (fsz)) := (congrFun eg3 (64)).trans ((va_up_ne _ _ (by decide)).trans fa64)
    have fg3_3 : g3 (65) = .inl (cI, 40, .inl (fwd)) := (congrFun eg3 (65)).trans ((va_up_ne _ _ (by decide)).trans fa65)
    have fg3_4 : g3 (80) = .inl (cJ, 16384, .inr (.inl (fth))) := (congrFun eg3 (80)).trans ((va_up_ne _ _ (by decide)).trans fa80)
    have fg3_w : g3 (79) = .inl (cJ, 16384, .inr (.inl (vp_updL (fz) (1) (lZ (1))))) := (congrFun eg3 (79)).trans (va_up_self _ _ _)
    have hfrg3 : ∀ j : Nat, j ≠ 79 → j ≠ 80 → g3 j = g j := fun j h0 h1 => (congrFun eg3 j).trans ((va_up_ne _ _ h0).trans (hfrgl3_1 j h0 h1))
    refine lv_iconst (v := nI (0)) hx hb dX6_counts_32 (by decide) ?_
    refine lv_istore (lv' := [(4, .int (nI (0))), (0, .ref (ad (62))), (1, .int (nI (B0))), (2, .int (nI (n0))), (3, .int (nI (nv)))]) hx hb dX6_counts_33 hl (by decide) rfl (fun ls hl => ?_)
    refine xloopW (G := fun H locs fr => W p l e _ s m _ below meth c H locs _ _ _ fr) (σ := Nat × (Nat → Int64) × (Nat → Int64)) (fun (r, fz, fy) ls => F0 m 35 ls []) (fun (r, fz, fy) gl35_4 H locs ls => (r ≤ n0) ∧ (∀ j, j < 16384 → fz j = lZ (ctN q w (hsN ln u B0) nv (r) j)) ∧ gl35_4 (62) = .inr (6, [.int (nI (q)), .int (nI (Wt)), .ref (ad (63)), .ref (ad (64)), .ref (ad (65)), .ref (ad (66)), .int (nI (T)), .long (tp), .long (bt), .long (nu), .long (de), .int (sq), .ref (ad (67)), .ref (ad (68)), .ref (ad (69)), .ref (ad (70)), .ref (ad (71)), .ref (ad (72)), .ref (ad (73)), .ref (ad (74)), .ref (ad (75)), .ref (ad (76)), .ref (ad (77)), .ref (ad (78)), .ref (ad (79)), .ref (ad (80))]) ∧ gl35_4 (63) = .inl (cI, 4, .inl (fw)) ∧ gl35_4 (64) = .inl (cI, 8, .inl (fsz)) ∧ gl35_4 (65) = .inl (cI, 40, .inl (fwd)) ∧ gl35_4 (79) = .inl (cJ, 16384, .inr (.inl (fz))) ∧ gl35_4 (80) = .inl (cJ, 16384, .inr (.inl (fy))) ∧ (∀ j : Nat, j ≠ 79 → j ≠ 80 → gl35_4 j = g j) ∧ va_P D vwCl (xw 81 ad gl35_4) H ∧ va_S A s.heap H locs ∧ lv_has ls 10 [(0, .ref (ad (62))), (1, .int (nI (B0))), (2, .int (nI (n0))), (3, .int (nI (nv))), (4, .int (nI (r)))]) (fun (r, fz, fy) => n0 - r) ?_ (0, vp_updL (fz) (1) (lZ (1)), fth) g3 H locs ls ⟨(Nat.zero_le _), (one_at (fun j hj => hfz j (by omega))), fg3_0, fg3_1, fg3_2, fg3_3, fg3_w, fg3_4, hfrg3, hP, hS, (lv_sub hl [1, 2, 3, 4, 0] rfl)⟩
    rintro ⟨r, fz, fy⟩ gl35_4 H locs ls ⟨hr0, hfz, fo62, fa63, fa64, fa65, fa79, fa80, hfrgl35_4, hP, hS, hl⟩ ih35
    refine lv_iload hx hb dX6_counts_35 (lv_at hl 4 rfl) ?_
    refine lv_iload_n hx hb dX6_counts_37 rfl (lv_at hl 2 rfl) ?_
    refine xi_icmp_ge (tgt := 297) hx hb (by omega) (by omega) dX6_counts_38 (by decide) (fun c38_5 => ?_) (fun c38_5 => ?_)
    · exact W.vret hx hb hr (fun tZ ht hW => ⟨⟨gl35_4, rfl, (by have hrn : r = n0 := (by omega); subst hrn; exact ⟨fz, fy, hfz, fa79, fa80, hfrgl35_4⟩), by rw [ht]; exact hP, va_K.moved hW.alike hK, va_Nw.warmM hW hN⟩, hS.F ht⟩) hS.2.2 dX6_counts_297
    · refine lv_iconst (v := nI (0)) hx hb dX6_counts_41 (by decide) ?_
      refine lv_istore (lv' := [(5, .int (nI (0))), (0, .ref (ad (62))), (1, .int (nI (B0))), (2, .int (nI (n0))), (3, .int (nI (nv))), (4, .int (nI (r)))]) hx hb dX6_counts_42 hl (by decide) rfl (fun ls hl => ?_)
      refine xloopW (G := fun H locs fr => W p l e _ s m _ below meth c H locs _ _ _ fr) (σ := Nat × (Nat → Int64)) (fun (i, fx) ls => F0 m 44 ls []) (fun (i, fx) gl44_6 H locs ls => (i ≤ 16384) ∧ (∀ j, j < i → fx j = lZ 0) ∧ gl44_6 (62) = .inr (6, [.int (nI (q)), .int (nI (Wt)), .ref (ad (63)), .ref (ad (64)), .ref (ad (65)), .ref (ad (66)), .int (nI (T)), .long (tp), .long (bt), .long (nu), .long (de), .int (sq), .ref (ad (67)), .ref (ad (68)), .ref (ad (69)), .ref (ad (70)), .ref (ad (71)), .ref (ad (72)), .ref (ad (73)), .ref (ad (74)), .ref (ad (75)), .ref (ad (76)), .ref (ad (77)), .ref (ad (78)), .ref (ad (79)), .ref (ad (80))]) ∧ gl44_6 (63) = .inl (cI, 4, .inl (fw)) ∧ gl44_6 (64) = .inl (cI, 8, .inl (fsz)) ∧ gl44_6 (65) = .inl (cI, 40, .inl (fwd)) ∧ gl44_6 (79) = .inl (cJ, 16384, .inr (.inl (fz))) ∧ gl44_6 (80) = .inl (cJ, 16384, .inr (.inl (fx))) ∧ (∀ j : Nat, j ≠ 79 → j ≠ 80 → gl44_6 j = g j) ∧ va_P D vwCl (xw 81 ad gl44_6) H ∧ va_S A s.heap H locs ∧ lv_has ls 10 [(0, .ref (ad (62))), (1, .int (nI (B0))), (2, .int (nI (n0))), (3, .int (nI (nv))), (4, .int (nI (r))), (5, .int (nI (i)))]) (fun (i, fx) => 16384 - i) ?_ (0, fy) gl35_4 H locs ls ⟨(Nat.zero_le _), (fun j hj => absurd hj (by omega)), fo62, fa63, fa64, fa65, fa79, fa80, hfrgl35_4, hP, hS, (lv_sub hl [1, 2, 3, 4, 5, 0] rfl)⟩
      rintro ⟨i, fx⟩ gl44_6 H locs ls ⟨hi, hfx, fo62, fa63, fa64, fa65, fa79, fa80, hfrgl44_6, hP, hS, hl⟩ ih44
      refine lv_iload hx hb dX6_counts_44 (lv_at hl 5 rfl) ?_
      refine lv_sipush (v := nI (16384)) hx hb dX6_counts_46 (by decide) ?_
      refine xi_icmp_ge (tgt := 66) hx hb (by omega) (by decide) dX6_counts_49 (by decide) (fun c49_7 => ?_) (fun c49_7 => ?_)
      · refine lv_iconst (v := nI (0)) hx hb dX6_counts_66 (by decide) ?_
        refine lv_istore (lv' := [(5, .int (nI (0))), (0, .ref (ad (62))), (1, .int (nI (B0))), (2, .int (nI (n0))), (3, .int (nI (nv))), (4, .int (nI (r)))]) hx hb dX6_counts_67 hl (by decide) rfl (fun ls hl => ?_)
        refine xloopW (G := fun H locs fr => W p l e _ s m _ below meth c H locs _ _ _ fr) (σ := Nat × (Nat → Int64)) (fun (i, fx) ls => F0 m 69 ls []) (fun (i, fx) gl69_8 H locs ls => (i ≤ 16384) ∧ (∀ j, j < 16384 → fx j = lZ (ctI q w (hsN ln u B0) nv (ctN q w (hsN ln u B0) nv (r)) (i) j)) ∧ gl69_8 (62) = .inr (6, [.int (nI (q)), .int (nI (Wt)), .ref (ad (63)), .ref (ad (64)), .ref (ad (65)), .ref (ad (66)), .int (nI (T)), .long (tp), .long (bt), .long (nu), .long (de), .int (sq), .ref (ad (67)), .ref (ad (68)), .ref (ad (69)), .ref (ad (70)), .ref (ad (71)), .ref (ad (72)), .ref (ad (73)), .ref (ad (74)), .ref (ad (75)), .ref (ad (76)), .ref (ad (77)), .ref (ad (78)), .ref (ad (79)), .ref (ad (80))]) ∧ gl69_8 (63) = .inl (cI, 4, .inl (fw)) ∧ gl69_8 (64) = .inl (cI, 8, .inl (fsz)) ∧ gl69_8 (65) = .inl (cI, 40, .inl (fwd)) ∧ gl69_8 (79) = .inl (cJ, 16384, .inr (.inl (fz))) ∧ gl69_8 (80) = .inl (cJ, 16384, .inr (.inl (fx))) ∧ (∀ j : Nat, j ≠ 79 → j ≠ 80 → gl69_8 j = g j) ∧ va_P D vwCl (xw 81 ad gl69_8) H ∧ va_S A s.heap H locs ∧ lv_has ls 10 [(0, .ref (ad (62))), (1, .int (nI (B0))), (2, .int (nI (n0))), (3, .int (nI (nv))), (4, .int (nI (r))), (5, .int (nI (i)))]) (fun (i, fx) => 16384 - i) ?_ (0, fx) gl44_6 H locs ls ⟨(Nat.zero_le _), (fun j hj => hfx j (by omega)), fo62, fa63, fa64, fa65, fa79, fa80, hfrgl44_6, hP, hS, (lv_sub hl [1, 2, 3, 4, 5, 0] rfl)⟩
        rintro ⟨i, fx⟩ gl69_8 H locs ls ⟨hi, hfx, fo62, fa63, fa64, fa65, fa79, fa80, hfrgl69_8, hP, hS, hl⟩ ih69
        refine lv_iload hx hb dX6_counts_69 (lv_at hl 5 rfl) ?_
        refine lv_sipush (v := nI (16384)) hx hb dX6_counts_71 (by decide) ?_
        refine xi_icmp_ge (tgt := 260) hx hb (by omega) (by decide) dX6_counts_74 (by decide) (fun c74_9 => ?_) (fun c74_9 => ?_)
        · have hfx2 : ∀ j, j < 16384 → fx j = lZ (ctN q w (hsN ln u B0) nv (r + 1) j) := by have h9 := hfx; rw [show i = 16384 by omega] at h9; exact h9
          refine lv_iconst (v := nI (0)) hx hb dX6_counts_260 (by decide) ?_
          refine lv_istore (lv' := [(5, .int (nI (0))), (0, .ref (ad (62))), (1, .int (nI (B0))), (2, .int (nI (n0))), (3, .int (nI (nv))), (4, .int (nI (r)))]) hx hb dX6_counts_261 hl (by decide) rfl (fun ls hl => ?_)
          refine xloopW (G := fun H locs fr => W p l e _ s m _ below meth c H locs _ _ _ fr) (σ := Nat × (Nat → Int64)) (fun (i, fn) ls => F0 m 263 ls []) (fun (i, fn) gl263_10 H locs ls => (i ≤ 16384) ∧ (∀ j, j < i → fn j = lZ (ctN q w (hsN ln u B0) nv (r + 1) j)) ∧ gl263_10 (62) = .inr (6, [.int (nI (q)), .int (nI (Wt)), .ref (ad (63)), .ref (ad (64)), .ref (ad (65)), .ref (ad (66)), .int (nI (T)), .long (tp), .long (bt), .long (nu), .long (de), .int (sq), .ref (ad (67)), .ref (ad (68)), .ref (ad (69)), .ref (ad (70)), .ref (ad (71)), .ref (ad (72)), .ref (ad (73)), .ref (ad (74)), .ref (ad (75)), .ref (ad (76)), .ref (ad (77)), .ref (ad (78)), .ref (ad (79)), .ref (ad (80))]) ∧ gl263_10 (63) = .inl (cI, 4, .inl (fw)) ∧ gl263_10 (64) = .inl (cI, 8, .inl (fsz)) ∧ gl263_10 (65) = .inl (cI, 40, .inl (fwd)) ∧ gl263_10 (79) = .inl (cJ, 16384, .inr (.inl (fn))) ∧ gl263_10 (80) = .inl (cJ, 16384, .inr (.inl (fx))) ∧ (∀ j : Nat, j ≠ 79 → j ≠ 80 → gl263_10 j = g j) ∧ va_P D vwCl (xw 81 ad gl263_10) H ∧ va_S A s.heap H locs ∧ lv_has ls 10 [(0, .ref (ad (62))), (1, .int (nI (B0))), (2, .int (nI (n0))), (3, .int (nI (nv))), (4, .int (nI (r))), (5, .int (nI (i)))]) (fun (i, fn) => 16384 - i) ?_ (0, fz) gl69_8 H locs ls ⟨(Nat.zero_le _), (fun j hj => absurd hj (by omega)), fo62, fa63, fa64, fa65, fa79, fa80, hfrgl69_8, hP, hS, (lv_sub hl [1, 2, 3, 4, 5, 0] rfl)⟩
          rintro ⟨i, fn⟩ gl263_10 H locs ls ⟨hi, hfn, fo62, fa63, fa64, fa65, fa79, fa80, hfrgl263_10, hP, hS, hl⟩ ih263
          refine lv_iload hx hb dX6_counts_263 (lv_at hl 5 rfl) ?_
          refine lv_sipush (v := nI (16384)) hx hb dX6_counts_265 (by decide) ?_
          refine xi_icmp_ge (tgt := 291) hx hb (by omega) (by decide) dX6_counts_268 (by decide) (fun c268_11 => ?_) (fun c268_11 => ?_)
          · refine lv_iinc (v := nI (r + 1)) (lv' := [(4, .int (nI (r + 1))), (0, .ref (ad (62))), (1, .int (nI (B0))), (2, .int (nI (n0))), (3, .int (nI (nv))), (5, .int (nI (i)))]) hx hb dX6_counts_291 hl (k := 4) rfl (nI_add (r) 1) (by decide) rfl (fun ls hl => ?_)
            refine lv_goto (tgt := 35) hx hb dX6_counts_294 (by decide) ?_
            exact ih35 (r + 1, fn, fx) gl263_10 H locs ls ⟨(by omega), (fun j hj => hfn j (by omega)), fo62, fa63, fa64, fa65, fa79, fa80, hfrgl263_10, hP, hS, (lv_sub hl [1, 2, 3, 4, 0] rfl)⟩ (by first | omega | (dsimp only; omega))
          · refine lv_aload_n hx hb dX6_counts_271 rfl (lv_at hl 0 rfl) ?_
            refine xw_get hx hb hts hin6 hown hK hP (by decide) fo62 rfl 24 (by decide) hf70 rfl rfl dX6_counts_272 ?_
            refine lv_iload hx hb dX6_counts_275 (lv_at hl 5 rfl) ?_
            refine lv_aload_n hx hb dX6_counts_277 rfl (lv_at hl 0 rfl) ?_
            refine xw_get hx hb hts hin6 hown hK hP (by decide) fo62 rfl 25 (by decide) hf73 rfl rfl dX6_counts_278 ?_
            refine lv_iload hx hb dX6_counts_281 (lv_at hl 5 rfl) ?_
            refine xw_lald hx hb hK hP (by decide) 1 fa80 rfl (by omega) (by decide) dX6_counts_283 ?_
            rw [hfx2 (i) (by omega)]
            refine xw_last hx hb hK hP hD hS (by decide) 1 fa79 rfl (by omega) (by decide) dX6_counts_284 (fun g12 H locs eg12 hP hS => ?_)
            have fg12_0 : g12 (62) = .inr (6, [.int (nI (q)), .int (nI (Wt)), .ref (ad (63)), .ref (ad (64)), .ref (ad (65)), .ref (ad (66)), .int (nI (T)), .long (tp), .long (bt), .long (nu), .long (de), .int (sq), .ref (ad (67)), .ref (ad (68)), .ref (ad (69)), .ref (ad (70)), .ref (ad (71)), .ref (ad (72)), .ref (ad (73)), .ref (ad (74)), .ref (ad (75)), .ref (ad (76)), .ref (ad (77)), .ref (ad (78)), .ref (ad (79)), .ref (ad (80))]) := (congrFun eg12 (62)).trans ((va_up_ne _ _ (by decide)).trans fo62)
            have fg12_1 : g12 (63) = .inl (cI, 4, .inl (fw)) := (congrFun eg12 (63)).trans ((va_up_ne _ _ (by decide)).trans fa63)
            have fg12_2 : g12 (64) = .inl (cI, 8, .inl (fsz)) := (congrFun eg12 (64)).trans ((va_up_ne _ _ (by decide)).trans fa64)
            have fg12_3 : g12 (65) = .inl (cI, 40, .inl (fwd)) := (congrFun eg12 (65)).trans ((va_up_ne _ _ (by decide)).trans fa65)
            have fg12_4 : g12 (80) = .inl (cJ, 16384, .inr (.inl (fx))) := (congrFun eg12 (80)).trans ((va_up_ne _ _ (by decide)).trans fa80)
            have fg12_w : g12 (79) = .inl (cJ, 16384, .inr (.inl (vp_updL (fn) (i) (lZ (ctN q w (hsN ln u B0) nv (r + 1) (i)))))) := (congrFun eg12 (79)).trans (va_up_self _ _ _)
            have hfrg12 : ∀ j : Nat, j ≠ 79 → j ≠ 80 → g12 j = g j := fun j h0 h1 => (congrFun eg12 j).trans ((va_up_ne _ _ h0).trans (hfrgl263_10 j h0 h1))
            refine lv_iinc (v := nI (i + 1)) (lv' := [(5, .int (nI (i + 1))), (0, .ref (ad (62))), (1, .int (nI (B0))), (2, .int (nI (n0))), (3, .int (nI (nv))), (4, .int (nI (r)))]) hx hb dX6_counts_285 hl (k := 5) rfl (nI_add (i) 1) (by decide) rfl (fun ls hl => ?_)
            refine lv_goto (tgt := 263) hx hb dX6_counts_288 (by decide) ?_
            exact ih263 (i + 1, vp_updL (fn) (i) (lZ (ctN q w (hsN ln u B0) nv (r + 1) (i)))) g12 H locs ls ⟨(by omega), (fun j hj => if e : j = i then by rw [e, pk_uLs] else by rw [pk_uLn e]; exact hfn j (by omega)), fg12_0, fg12_1, fg12_2, fg12_3, fg12_w, fg12_4, hfrg12, hP, hS, (lv_sub hl [1, 2, 3, 4, 5, 0] rfl)⟩ (by first | omega | (dsimp only; omega))
        · refine lv_aload_n hx hb dX6_counts_77 rfl (lv_at hl 0 rfl) ?_
          refine xw_get hx hb hts hin6 hown hK hP (by decide) fo62 rfl 24 (by decide) hf70 rfl rfl dX6_counts_78 ?_
          refine lv_iload hx hb dX6_counts_81 (lv_at hl 5 rfl) ?_
          refine xw_lald hx hb hK hP (by decide) 1 fa79 rfl (by omega) (by decide) dX6_counts_83 ?_
          rw [hfz (i) (by omega)]
          refine lv_lconst (v := lZ (0)) hx hb dX6_counts_84 (by decide) ?_
          refine xr_cmp_ne (tgt := 92) hx hb dX6_counts_85 dX6_counts_86 (by decide) (fun hz => ?_) (fun hz => ?_)
          · have hnz : ctN q w (hsN ln u B0) nv (r) i ≠ 0 := fun h => hz (congrArg lZ h)
            obtain ⟨hz1, hz2⟩ := ctN_z hq4 (fun _ _ => hsN_le) r i hnz
            refine lv_iload hx hb dX6_counts_92 (lv_at hl 5 rfl) ?_
            refine lv_sipush (v := nI (512)) hx hb dX6_counts_94 (by decide) ?_
            refine xi_rem hx hb (by omega) (by decide) (by decide) dX6_counts_97 ?_
            refine lv_istore (lv' := [(6, .int (nI (i % 512))), (0, .ref (ad (62))), (1, .int (nI (B0))), (2, .int (nI (n0))), (3, .int (nI (nv))), (4, .int (nI (r))), (5, .int (nI (i)))]) hx hb dX6_counts_98 hl (by decide) rfl (fun ls hl => ?_)
            refine lv_iconst (v := nI (0)) hx hb dX6_counts_100 (by decide) ?_
            refine lv_istore (lv' := [(7, .int (nI (0))), (6, .int (nI (i % 512))), (0, .ref (ad (62))), (1, .int (nI (B0))), (2, .int (nI (n0))), (3, .int (nI (nv))), (4, .int (nI (r))), (5, .int (nI (i)))]) hx hb dX6_counts_101 hl (by decide) rfl (fun ls hl => ?_)
            refine xloopW (G := fun H locs fr => W p l e _ s m _ below meth c H locs _ _ _ fr) (σ := Nat × (Nat → Int64)) (fun (d0, fc) ls => F0 m 103 ls []) (fun (d0, fc) gl103_13 H locs ls => (d0 ≤ q) ∧ (∀ j, j < 16384 → fc j = lZ (ctC w (hsN ln u B0) nv i (ctN q w (hsN ln u B0) nv (r) i) (ctI q w (hsN ln u B0) nv (ctN q w (hsN ln u B0) nv (r)) (i)) (d0) j)) ∧ gl103_13 (62) = .inr (6, [.int (nI (q)), .int (nI (Wt)), .ref (ad (63)), .ref (ad (64)), .ref (ad (65)), .ref (ad (66)), .int (nI (T)), .long (tp), .long (bt), .long (nu), .long (de), .int (sq), .ref (ad (67)), .ref (ad (68)), .ref (ad (69)), .ref (ad (70)), .ref (ad (71)), .ref (ad (72)), .ref (ad (73)), .ref (ad (74)), .ref (ad (75)), .ref (ad (76)), .ref (ad (77)), .ref (ad (78)), .ref (ad (79)), .ref (ad (80))]) ∧ gl103_13 (63) = .inl (cI, 4, .inl (fw)) ∧ gl103_13 (64) = .inl (cI, 8, .inl (fsz)) ∧ gl103_13 (65) = .inl (cI, 40, .inl (fwd)) ∧ gl103_13 (79) = .inl (cJ, 16384, .inr (.inl (fz))) ∧ gl103_13 (80) = .inl (cJ, 16384, .inr (.inl (fc))) ∧ (∀ j : Nat, j ≠ 79 → j ≠ 80 → gl103_13 j = g j) ∧ va_P D vwCl (xw 81 ad gl103_13) H ∧ va_S A s.heap H locs ∧ lv_has ls 10 [(0, .ref (ad (62))), (1, .int (nI (B0))), (2, .int (nI (n0))), (3, .int (nI (nv))), (4, .int (nI (r))), (5, .int (nI (i))), (6, .int (nI (i % 512))), (7, .int (nI (d0)))]) (fun (d0, fc) => q - d0) ?_ (0, fx) gl69_8 H locs ls ⟨(Nat.zero_le _), hfx, fo62, fa63, fa64, fa65, fa79, fa80, hfrgl69_8, hP, hS, (lv_sub hl [2, 3, 4, 5, 6, 7, 1, 0] rfl)⟩
            rintro ⟨d0, fc⟩ gl103_13 H locs ls ⟨hd0, hfc, fo62, fa63, fa64, fa65, fa79, fa80, hfrgl103_13, hP, hS, hl⟩ ih103
            refine lv_iload hx hb dX6_counts_103 (lv_at hl 7 rfl) ?_
            refine lv_aload_n hx hb dX6_counts_105 rfl (lv_at hl 0 rfl) ?_
            refine xw_get hx hb hts hin6 hown hK hP (by decide) fo62 rfl 0 (by decide) hf7 rfl rfl dX6_counts_106 ?_
            refine xi_icmp_ge (tgt := 254) hx hb (by omega) (by omega) dX6_counts_109 (by decide) (fun c109_14 => ?_) (fun c109_14 => ?_)
            · refine lv_iinc (v := nI (i + 1)) (lv' := [(5, .int (nI (i + 1))), (0, .ref (ad (62))), (1, .int (nI (B0))), (2, .int (nI (n0))), (3, .int (nI (nv))), (4, .int (nI (r))), (6, .int (nI (i % 512))), (7, .int (nI (d0)))]) hx hb dX6_counts_254 hl (k := 5) rfl (nI_add (i) 1) (by decide) rfl (fun ls hl => ?_)
              refine lv_goto (tgt := 69) hx hb dX6_counts_257 (by decide) ?_
              exact ih69 (i + 1, fc) gl103_13 H locs ls ⟨(by omega), (show ∀ j, j < 16384 → fc j = lZ (ctC w (hsN ln u B0) nv i (ctN q w (hsN ln u B0) nv (r) i) (ctI q w (hsN ln u B0) nv (ctN q w (hsN ln u B0) nv (r)) (i)) (q) j) from (show d0 = q by omega) ▸ hfc), fo62, fa63, fa64, fa65, fa79, fa80, hfrgl103_13, hP, hS, (lv_sub hl [1, 2, 3, 4, 5, 0] rfl)⟩ (by first | omega | (dsimp only; omega))
            · refine lv_iconst (v := nI (0)) hx hb dX6_counts_112 (by decide) ?_
              refine lv_istore (lv' := [(8, .int (nI (0))), (0, .ref (ad (62))), (1, .int (nI (B0))), (2, .int (nI (n0))), (3, .int (nI (nv))), (4, .int (nI (r))), (5, .int (nI (i))), (6, .int (nI (i % 512))), (7, .int (nI (d0)))]) hx hb dX6_counts_113 hl (by decide) rfl (fun ls hl => ?_)
              refine lv_iconst (v := nI (0)) hx hb dX6_counts_115 (by decide) ?_
              refine lv_istore (lv' := [(9, .int (nI (0))), (8, .int (nI (0))), (0, .ref (ad (62))), (1, .int (nI (B0))), (2, .int (nI (n0))), (3, .int (nI (nv))), (4, .int (nI (r))), (5, .int (nI (i))), (6, .int (nI (i % 512))), (7, .int (nI (d0)))]) hx hb dX6_counts_116 hl (by decide) rfl (fun ls hl => ?_)
              refine xloop (G := fun fr => W p l e _ s m _ below meth c _ _ _ _ _ fr) (σ := Nat × Nat) (fun (s1, b) ls => F0 m 118 ls []) (fun (s1, b) ls => (s1 ≤ 8) ∧ ((b = 1 ∧ hsB ln u B0 (i % 512) d0 (s1) = true) ∨ (b = 0 ∧ ¬ hsB ln u B0 (i % 512) d0 (s1) = true)) ∧ lv_has ls 10 [(0, .ref (ad (62))), (1, .int (nI (B0))), (2, .int (nI (n0))), (3, .int (nI (nv))), (4, .int (nI (r))), (5, .int (nI (i))), (6, .int (nI (i % 512))), (7, .int (nI (d0))), (8, .int (nI (b))), (9, .int (nI (s1)))]) (fun (s1, b) => 8 - s1) ?_ (0, 0) ls ⟨(Nat.zero_le _), (Or.inr ⟨rfl, fun h => Bool.noConfusion h⟩), (lv_sub hl [2, 3, 4, 5, 6, 7, 8, 9, 1, 0] rfl)⟩
              rintro ⟨s1, b⟩ ls ⟨hs1, hbq, hl⟩ ih118
              refine lv_iload hx hb dX6_counts_118 (lv_at hl 9 rfl) ?_
              refine lv_bipush (v := nI (8)) hx hb dX6_counts_120 (by decide) ?_
              refine xi_icmp_ge (tgt := 176) hx hb (by omega) (by decide) dX6_counts_122 (by decide) (fun c122_15 => ?_) (fun c122_15 => ?_)
              · have eb : b = hsN ln u B0 (i % 512) d0 := by unfold hsN; rw [show s1 = 8 by omega] at hbq; rcases hbq with h | h; rw [h.1, if_pos h.2]; rw [h.1, if_neg h.2]
                have hh1 : hsN ln u B0 (i % 512) d0 ≤ 1 := hsN_le
                subst eb
                refine lv_iload hx hb dX6_counts_176 (lv_at hl 8 rfl) ?_
                refine xi_if_eq (tgt := 188) hx hb (by omega) dX6_counts_178 (by decide) (fun c178_16 => ?_) (fun c178_16 => ?_)
                · refine lv_iload hx hb dX6_counts_188 (lv_at hl 5 rfl) ?_
                  refine lv_sipush (v := nI (512)) hx hb dX6_counts_190 (by decide) ?_
                  refine xi_div hx hb (by omega) (by decide) (by decide) dX6_counts_193 ?_
                  refine lv_iload hx hb dX6_counts_194 (lv_at hl 8 rfl) ?_
                  refine xi_if_eq (tgt := 203) hx hb (by omega) dX6_counts_196 (by decide) (fun c196_17 => ?_) (fun c196_17 => ?_)
                  · refine lv_iconst (v := nI (0)) hx hb dX6_counts_203 (by decide) ?_
                    refine xtopi (y := nI (hsN ln u B0 (i % 512) d0)) (congrArg nI (by have h9 := c196_17; omega)) ?_
                    refine xi_add hx hb dX6_counts_204 ?_
                    refine lv_istore (lv' := [(9, .int (nI ((i / 512) + (hsN ln u B0 (i % 512) d0)))), (0, .ref (ad (62))), (1, .int (nI (B0))), (2, .int (nI (n0))), (3, .int (nI (nv))), (4, .int (nI (r))), (5, .int (nI (i))), (6, .int (nI (i % 512))), (7, .int (nI (d0))), (8, .int (nI (hsN ln u B0 (i % 512) d0)))]) hx hb dX6_counts_205 hl (by decide) rfl (fun ls hl => ?_)
                    have hsp := ctC_y (w := w) (hp := hsN ln u B0) (nv := nv) (i := i) (d := d0) (x := ctN q w (hsN ln u B0) nv (r) i) (th := ctI q w (hsN ln u B0) nv (ctN q w (hsN ln u B0) nv (r)) (i)) (fun h => h.1 c178_16)
                    have hv5 := vE_b (vE_s hz2 (show d0 < 4 by omega))
                    have hix : 512 * (i / 512 + hsN ln u B0 (i % 512) d0) + shE (4 * (i % 512) + d0) < 16384 := by omega
                    refine lv_aload_n hx hb dX6_counts_207 rfl (lv_at hl 1 rfl) ?_
                    refine xw_get hx hb hts hin6 hown hK hP (by decide) fo62 rfl 25 (by decide) hf73 rfl rfl dX6_counts_208 ?_
                    refine lv_sipush (v := nI (512)) hx hb dX6_counts_211 (by decide) ?_
                    refine lv_iload hx hb dX6_counts_214 (lv_at hl 0 rfl) ?_
                    refine xi_mul hx hb dX6_counts_216 ?_
                    refine lv_iconst (v := nI (4)) hx hb dX6_counts_217 (by decide) ?_
                    refine lv_iload hx hb dX6_counts_218 (lv_at hl 7 rfl) ?_
                    refine xi_mul hx hb dX6_counts_220 ?_
                    refine lv_iload hx hb dX6_counts_221 (lv_at hl 8 rfl) ?_
                    refine xi_add hx hb dX6_counts_223 ?_
                    refine vp_callSi (va_Run.run (va_runS (As := [.int (nI ((4 * (i % 512)) + d0))]) (rest := [.int (nI (512 * ((i / 512) + (hsN ln u B0 (i % 512) d0)))), .ref (ad (80))]) ⟨hx, hb, hml, hown, hts⟩ (mX6_shorter l (by omega)) (va_cwS 1 hts gX6_counts_X6_shorter rfl rfl rfl (by decide +kernel) ⟨Nat.le_of_ble_eq_true rfl, Nat.le_of_ble_eq_true rfl⟩) ⟨xB_blind, fun U hU hW => ⟨rfl, by rw [hU]; exact hP, va_K.moved hW.alike hK, va_Nw.warmM hW hN⟩⟩ rfl rfl hl.1 rfl (lv_room (Nat.le_of_ble_eq_true rfl)) dX6_counts_224 ⟨Nat.le_of_ble_eq_true rfl, Nat.le_of_ble_eq_true rfl⟩)) (fun r18 er18 => ?_)
                    subst er18
                    refine xi_add hx hb dX6_counts_227 ?_
                    refine lv_dup2_11 hx hb dX6_counts_228 rfl rfl ?_
                    refine xw_lald hx hb hK hP (by decide) 1 fa80 rfl hix (by decide) dX6_counts_229 ?_
                    rw [hfc ((512 * ((i / 512) + (hsN ln u B0 (i % 512) d0))) + (shE ((4 * (i % 512)) + d0))) hix]
                    refine lv_aload_n hx hb dX6_counts_230 rfl (lv_at hl 1 rfl) ?_
                    refine xw_get hx hb hts hin6 hown hK hP (by decide) fo62 rfl 24 (by decide) hf70 rfl rfl dX6_counts_231 ?_
                    refine lv_iload hx hb dX6_counts_234 (lv_at hl 6 rfl) ?_
                    refine xw_lald hx hb hK hP (by decide) 1 fa79 rfl (by omega) (by decide) dX6_counts_236 ?_
                    rw [hfz (i) (by omega)]
                    refine lv_aload_n hx hb dX6_counts_237 rfl (lv_at hl 1 rfl) ?_
                    refine xw_get hx hb hts hin6 hown hK hP (by decide) fo62 rfl 2 (by decide) hf16 rfl rfl dX6_counts_238 ?_
                    refine lv_iload hx hb dX6_counts_241 (lv_at hl 8 rfl) ?_
                    refine xw_iald hx hb hK hP (by decide) 0 fa63 rfl (by omega) (by decide) dX6_counts_243 ?_
                    rw [hfw (d0) (by omega)]
                    refine xi_i2l hx hb (Nat.lt_of_le_of_lt (hw _ (by omega)) (by decide)) dX6_counts_244 ?_
                    refine xl_mul hx hb dX6_counts_245 ?_
                    refine xl_add hx hb dX6_counts_246 ?_
                    refine xw_last hx hb hK hP hD hS (by decide) 1 fa80 rfl hix (by decide) dX6_counts_247 (fun g19 H locs eg19 hP hS => ?_)
                    have fg19_0 : g19 (62) = .inr (6, [.int (nI (q)), .int (nI (Wt)), .ref (ad (63)), .ref (ad (64)), .ref (ad (65)), .ref (ad (66)), .int (nI (T)), .long (tp), .long (bt), .long (nu), .long (de), .int (sq), .ref (ad (67)), .ref (ad (68)), .ref (ad (69)), .ref (ad (70)), .ref (ad (71)), .ref (ad (72)), .ref (ad (73)), .ref (ad (74)), .ref (ad (75)), .ref (ad (76)), .ref (ad (77)), .ref (ad (78)), .ref (ad (79)), .ref (ad (80))]) := (congrFun eg19 (62)).trans ((va_up_ne _ _ (by decide)).trans fo62)
                    have fg19_1 : g19 (63) = .inl (cI, 4, .inl (fw)) := (congrFun eg19 (63)).trans ((va_up_ne _ _ (by decide)).trans fa63)
                    have fg19_2 : g19 (64) = .inl (cI, 8, .inl (fsz)) := (congrFun eg19 (64)).trans ((va_up_ne _ _ (by decide)).trans fa64)
                    have fg19_3 : g19 (65) = .inl (cI, 40, .inl (fwd)) := (congrFun eg19 (65)).trans ((va_up_ne _ _ (by decide)).trans fa65)
                    have fg19_4 : g19 (79) = .inl (cJ, 16384, .inr (.inl (fz))) := (congrFun eg19 (79)).trans ((va_up_ne _ _ (by decide)).trans fa79)
                    have fg19_w : g19 (80) = .inl (cJ, 16384, .inr (.inl (vp_updL (fc) ((512 * ((i / 512) + (hsN ln u B0 (i % 512) d0))) + (shE ((4 * (i % 512)) + d0))) (lZ ((ctC w (hsN ln u B0) nv i (ctN q w (hsN ln u B0) nv (r) i) (ctI q w (hsN ln u B0) nv (ctN q w (hsN ln u B0) nv (r)) (i)) (d0) ((512 * ((i / 512) + (hsN ln u B0 (i % 512) d0))) + (shE ((4 * (i % 512)) + d0)))) + ((ctN q w (hsN ln u B0) nv (r) (i)) * (((w (d0) : Nat) : Int)))))))) := (congrFun eg19 (80)).trans (va_up_self _ _ _)
                    have hfrg19 : ∀ j : Nat, j ≠ 79 → j ≠ 80 → g19 j = g j := fun j h0 h1 => (congrFun eg19 j).trans ((va_up_ne _ _ h1).trans (hfrgl103_13 j h0 h1))
                    refine lv_iinc (v := nI (d0 + 1)) (lv' := [(7, .int (nI (d0 + 1))), (9, .int (nI ((i / 512) + (hsN ln u B0 (i % 512) d0)))), (0, .ref (ad (62))), (1, .int (nI (B0))), (2, .int (nI (n0))), (3, .int (nI (nv))), (4, .int (nI (r))), (5, .int (nI (i))), (6, .int (nI (i % 512))), (8, .int (nI (hsN ln u B0 (i % 512) d0)))]) hx hb dX6_counts_248 hl (k := 8) rfl (nI_add (d0) 1) (by decide) rfl (fun ls hl => ?_)
                    refine lv_goto (tgt := 103) hx hb dX6_counts_251 (by decide) ?_
                    exact ih103 (d0 + 1, vp_updL (fc) ((512 * ((i / 512) + (hsN ln u B0 (i % 512) d0))) + (shE ((4 * (i % 512)) + d0))) (lZ ((ctC w (hsN ln u B0) nv i (ctN q w (hsN ln u B0) nv (r) i) (ctI q w (hsN ln u B0) nv (ctN q w (hsN ln u B0) nv (r)) (i)) (d0) ((512 * ((i / 512) + (hsN ln u B0 (i % 512) d0))) + (shE ((4 * (i % 512)) + d0)))) + ((ctN q w (hsN ln u B0) nv (r) (i)) * (((w (d0) : Nat) : Int)))))) g19 H locs ls ⟨(by omega), (by rw [hsp]; exact updL_lZ hfc), fg19_0, fg19_1, fg19_2, fg19_3, fg19_4, fg19_w, hfrg19, hP, hS, (lv_sub hl [2, 3, 4, 5, 6, 7, 8, 0] rfl)⟩ (by first | omega | (dsimp only; omega))
                  · refine lv_iconst (v := nI (1)) hx hb dX6_counts_199 (by decide) ?_
                    refine lv_goto (tgt := 204) hx hb dX6_counts_200 (by decide) ?_
                    refine xtopi (y := nI (hsN ln u B0 (i % 512) d0)) (congrArg nI (by have h9 := c196_17; omega)) ?_
                    refine xi_add hx hb dX6_counts_204 ?_
                    refine lv_istore (lv' := [(9, .int (nI ((i / 512) + (hsN ln u B0 (i % 512) d0)))), (0, .ref (ad (62))), (1, .int (nI (B0))), (2, .int (nI (n0))), (3, .int (nI (nv))), (4, .int (nI (r))), (5, .int (nI (i))), (6, .int (nI (i % 512))), (7, .int (nI (d0))), (8, .int (nI (hsN ln u B0 (i % 512) d0)))]) hx hb dX6_counts_205 hl (by decide) rfl (fun ls hl => ?_)
                    have hsp := ctC_y (w := w) (hp := hsN ln u B0) (nv := nv) (i := i) (d := d0) (x := ctN q w (hsN ln u B0) nv (r) i) (th := ctI q w (hsN ln u B0) nv (ctN q w (hsN ln u B0) nv (r)) (i)) (fun h => h.1 c178_16)
                    have hv5 := vE_b (vE_s hz2 (show d0 < 4 by omega))
                    have hix : 512 * (i / 512 + hsN ln u B0 (i % 512) d0) + shE (4 * (i % 512) + d0) < 16384 := by omega
                    refine lv_aload_n hx hb dX6_counts_207 rfl (lv_at hl 1 rfl) ?_
                    refine xw_get hx hb hts hin6 hown hK hP (by decide) fo62 rfl 25 (by decide) hf73 rfl rfl dX6_counts_208 ?_
                    refine lv_sipush (v := nI (512)) hx hb dX6_counts_211 (by decide) ?_
                    refine lv_iload hx hb dX6_counts_214 (lv_at hl 0 rfl) ?_
                    refine xi_mul hx hb dX6_counts_216 ?_
                    refine lv_iconst (v := nI (4)) hx hb dX6_counts_217 (by decide) ?_
                    refine lv_iload hx hb dX6_counts_218 (lv_at hl 7 rfl) ?_
                    refine xi_mul hx hb dX6_counts_220 ?_
                    refine lv_iload hx hb dX6_counts_221 (lv_at hl 8 rfl) ?_
                    refine xi_add hx hb dX6_counts_223 ?_
                    refine vp_callSi (va_Run.run (va_runS (As := [.int (nI ((4 * (i % 512)) + d0))]) (rest := [.int (nI (512 * ((i / 512) + (hsN ln u B0 (i % 512) d0)))), .ref (ad (80))]) ⟨hx, hb, hml, hown, hts⟩ (mX6_shorter l (by omega)) (va_cwS 1 hts gX6_counts_X6_shorter rfl rfl rfl (by decide +kernel) ⟨Nat.le_of_ble_eq_true rfl, Nat.le_of_ble_eq_true rfl⟩) ⟨xB_blind, fun U hU hW => ⟨rfl, by rw [hU]; exact hP, va_K.moved hW.alike hK, va_Nw.warmM hW hN⟩⟩ rfl rfl hl.1 rfl (lv_room (Nat.le_of_ble_eq_true rfl)) dX6_counts_224 ⟨Nat.le_of_ble_eq_true rfl, Nat.le_of_ble_eq_true rfl⟩)) (fun r20 er20 => ?_)
                    subst er20
                    refine xi_add hx hb dX6_counts_227 ?_
                    refine lv_dup2_11 hx hb dX6_counts_228 rfl rfl ?_
                    refine xw_lald hx hb hK hP (by decide) 1 fa80 rfl hix (by decide) dX6_counts_229 ?_
                    rw [hfc ((512 * ((i / 512) + (hsN ln u B0 (i % 512) d0))) + (shE ((4 * (i % 512)) + d0))) hix]
                    refine lv_aload_n hx hb dX6_counts_230 rfl (lv_at hl 1 rfl) ?_
                    refine xw_get hx hb hts hin6 hown hK hP (by decide) fo62 rfl 24 (by decide) hf70 rfl rfl dX6_counts_231 ?_
                    refine lv_iload hx hb dX6_counts_234 (lv_at hl 6 rfl) ?_
                    refine xw_lald hx hb hK hP (by decide) 1 fa79 rfl (by omega) (by decide) dX6_counts_236 ?_
                    rw [hfz (i) (by omega)]
                    refine lv_aload_n hx hb dX6_counts_237 rfl (lv_at hl 1 rfl) ?_
                    refine xw_get hx hb hts hin6 hown hK hP (by decide) fo62 rfl 2 (by decide) hf16 rfl rfl dX6_counts_238 ?_
                    refine lv_iload hx hb dX6_counts_241 (lv_at hl 8 rfl) ?_
                    refine xw_iald hx hb hK hP (by decide) 0 fa63 rfl (by omega) (by decide) dX6_counts_243 ?_
                    rw [hfw (d0) (by omega)]
                    refine xi_i2l hx hb (Nat.lt_of_le_of_lt (hw _ (by omega)) (by decide)) dX6_counts_244 ?_
                    refine xl_mul hx hb dX6_counts_245 ?_
                    refine xl_add hx hb dX6_counts_246 ?_
                    refine xw_last hx hb hK hP hD hS (by decide) 1 fa80 rfl hix (by decide) dX6_counts_247 (fun g21 H locs eg21 hP hS => ?_)
                    have fg21_0 : g21 (62) = .inr (6, [.int (nI (q)), .int (nI (Wt)), .ref (ad (63)), .ref (ad (64)), .ref (ad (65)), .ref (ad (66)), .int (nI (T)), .long (tp), .long (bt), .long (nu), .long (de), .int (sq), .ref (ad (67)), .ref (ad (68)), .ref (ad (69)), .ref (ad (70)), .ref (ad (71)), .ref (ad (72)), .ref (ad (73)), .ref (ad (74)), .ref (ad (75)), .ref (ad (76)), .ref (ad (77)), .ref (ad (78)), .ref (ad (79)), .ref (ad (80))]) := (congrFun eg21 (62)).trans ((va_up_ne _ _ (by decide)).trans fo62)
                    have fg21_1 : g21 (63) = .inl (cI, 4, .inl (fw)) := (congrFun eg21 (63)).trans ((va_up_ne _ _ (by decide)).trans fa63)
                    have fg21_2 : g21 (64) = .inl (cI, 8, .inl (fsz)) := (congrFun eg21 (64)).trans ((va_up_ne _ _ (by decide)).trans fa64)
                    have fg21_3 : g21 (65) = .inl (cI, 40, .inl (fwd)) := (congrFun eg21 (65)).trans ((va_up_ne _ _ (by decide)).trans fa65)
                    have fg21_4 : g21 (79) = .inl (cJ, 16384, .inr (.inl (fz))) := (congrFun eg21 (79)).trans ((va_up_ne _ _ (by decide)).trans fa79)
                    have fg21_w : g21 (80) = .inl (cJ, 16384, .inr (.inl (vp_updL (fc) ((512 * ((i / 512) + (hsN ln u B0 (i % 512) d0))) + (shE ((4 * (i % 512)) + d0))) (lZ ((ctC w (hsN ln u B0) nv i (ctN q w (hsN ln u B0) nv (r) i) (ctI q w (hsN ln u B0) nv (ctN q w (hsN ln u B0) nv (r)) (i)) (d0) ((512 * ((i / 512) + (hsN ln u B0 (i % 512) d0))) + (shE ((4 * (i % 512)) + d0)))) + ((ctN q w (hsN ln u B0) nv (r) (i)) * (((w (d0) : Nat) : Int)))))))) := (congrFun eg21 (80)).trans (va_up_self _ _ _)
                    have hfrg21 : ∀ j : Nat, j ≠ 79 → j ≠ 80 → g21 j = g j := fun j h0 h1 => (congrFun eg21 j).trans ((va_up_ne _ _ h1).trans (hfrgl103_13 j h0 h1))
                    refine lv_iinc (v := nI (d0 + 1)) (lv' := [(7, .int (nI (d0 + 1))), (9, .int (nI ((i / 512) + (hsN ln u B0 (i % 512) d0)))), (0, .ref (ad (62))), (1, .int (nI (B0))), (2, .int (nI (n0))), (3, .int (nI (nv))), (4, .int (nI (r))), (5, .int (nI (i))), (6, .int (nI (i % 512))), (8, .int (nI (hsN ln u B0 (i % 512) d0)))]) hx hb dX6_counts_248 hl (k := 8) rfl (nI_add (d0) 1) (by decide) rfl (fun ls hl => ?_)
                    refine lv_goto (tgt := 103) hx hb dX6_counts_251 (by decide) ?_
                    exact ih103 (d0 + 1, vp_updL (fc) ((512 * ((i / 512) + (hsN ln u B0 (i % 512) d0))) + (shE ((4 * (i % 512)) + d0))) (lZ ((ctC w (hsN ln u B0) nv i (ctN q w (hsN ln u B0) nv (r) i) (ctI q w (hsN ln u B0) nv (ctN q w (hsN ln u B0) nv (r)) (i)) (d0) ((512 * ((i / 512) + (hsN ln u B0 (i % 512) d0))) + (shE ((4 * (i % 512)) + d0)))) + ((ctN q w (hsN ln u B0) nv (r) (i)) * (((w (d0) : Nat) : Int)))))) g21 H locs ls ⟨(by omega), (by rw [hsp]; exact updL_lZ hfc), fg21_0, fg21_1, fg21_2, fg21_3, fg21_4, fg21_w, hfrg21, hP, hS, (lv_sub hl [2, 3, 4, 5, 6, 7, 8, 0] rfl)⟩ (by first | omega | (dsimp only; omega))
                · refine lv_iload_n hx hb dX6_counts_181 rfl (lv_at hl 3 rfl) ?_
                  refine xi_if_eq (tgt := 188) hx hb (by omega) dX6_counts_182 (by decide) (fun c182_22 => ?_) (fun c182_22 => ?_)
                  · refine lv_iload hx hb dX6_counts_188 (lv_at hl 5 rfl) ?_
                    refine lv_sipush (v := nI (512)) hx hb dX6_counts_190 (by decide) ?_
                    refine xi_div hx hb (by omega) (by decide) (by decide) dX6_counts_193 ?_
                    refine lv_iload hx hb dX6_counts_194 (lv_at hl 8 rfl) ?_
                    refine xi_if_eq (tgt := 203) hx hb (by omega) dX6_counts_196 (by decide) (fun c196_23 => ?_) (fun c196_23 => ?_)
                    · refine lv_iconst (v := nI (0)) hx hb dX6_counts_203 (by decide) ?_
                      refine xtopi (y := nI (hsN ln u B0 (i % 512) d0)) (congrArg nI (by have h9 := c196_23; omega)) ?_
                      refine xi_add hx hb dX6_counts_204 ?_
                      refine lv_istore (lv' := [(9, .int (nI ((i / 512) + (hsN ln u B0 (i % 512) d0)))), (0, .ref (ad (62))), (1, .int (nI (B0))), (2, .int (nI (n0))), (3, .int (nI (nv))), (4, .int (nI (r))), (5, .int (nI (i))), (6, .int (nI (i % 512))), (7, .int (nI (d0))), (8, .int (nI (hsN ln u B0 (i % 512) d0)))]) hx hb dX6_counts_205 hl (by decide) rfl (fun ls hl => ?_)
                      have hsp := ctC_y (w := w) (hp := hsN ln u B0) (nv := nv) (i := i) (d := d0) (x := ctN q w (hsN ln u B0) nv (r) i) (th := ctI q w (hsN ln u B0) nv (ctN q w (hsN ln u B0) nv (r)) (i)) (fun h => h.2 c182_22)
                      have hv5 := vE_b (vE_s hz2 (show d0 < 4 by omega))
                      have hix : 512 * (i / 512 + hsN ln u B0 (i % 512) d0) + shE (4 * (i % 512) + d0) < 16384 := by omega
                      refine lv_aload_n hx hb dX6_counts_207 rfl (lv_at hl 1 rfl) ?_
                      refine xw_get hx hb hts hin6 hown hK hP (by decide) fo62 rfl 25 (by decide) hf73 rfl rfl dX6_counts_208 ?_
                      refine lv_sipush (v := nI (512)) hx hb dX6_counts_211 (by decide) ?_
                      refine lv_iload hx hb dX6_counts_214 (lv_at hl 0 rfl) ?_
                      refine xi_mul hx hb dX6_counts_216 ?_
                      refine lv_iconst (v := nI (4)) hx hb dX6_counts_217 (by decide) ?_
                      refine lv_iload hx hb dX6_counts_218 (lv_at hl 7 rfl) ?_
                      refine xi_mul hx hb dX6_counts_220 ?_
                      refine lv_iload hx hb dX6_counts_221 (lv_at hl 8 rfl) ?_
                      refine xi_add hx hb dX6_counts_223 ?_
                      refine vp_callSi (va_Run.run (va_runS (As := [.int (nI ((4 * (i % 512)) + d0))]) (rest := [.int (nI (512 * ((i / 512) + (hsN ln u B0 (i % 512) d0)))), .ref (ad (80))]) ⟨hx, hb, hml, hown, hts⟩ (mX6_shorter l (by omega)) (va_cwS 1 hts gX6_counts_X6_shorter rfl rfl rfl (by decide +kernel) ⟨Nat.le_of_ble_eq_true rfl, Nat.le_of_ble_eq_true rfl⟩) ⟨xB_blind, fun U hU hW => ⟨rfl, by rw [hU]; exact hP, va_K.moved hW.alike hK, va_Nw.warmM hW hN⟩⟩ rfl rfl hl.1 rfl (lv_room (Nat.le_of_ble_eq_true rfl)) dX6_counts_224 ⟨Nat.le_of_ble_eq_true rfl, Nat.le_of_ble_eq_true rfl⟩)) (fun r24 er24 => ?_)
                      subst er24
                      refine xi_add hx hb dX6_counts_227 ?_
                      refine lv_dup2_11 hx hb dX6_counts_228 rfl rfl ?_
                      refine xw_lald hx hb hK hP (by decide) 1 fa80 rfl hix (by decide) dX6_counts_229 ?_
                      rw [hfc ((512 * ((i / 512) + (hsN ln u B0 (i % 512) d0))) + (shE ((4 * (i % 512)) + d0))) hix]
                      refine lv_aload_n hx hb dX6_counts_230 rfl (lv_at hl 1 rfl) ?_
                      refine xw_get hx hb hts hin6 hown hK hP (by decide) fo62 rfl 24 (by decide) hf70 rfl rfl dX6_counts_231 ?_
                      refine lv_iload hx hb dX6_counts_234 (lv_at hl 6 rfl) ?_
                      refine xw_lald hx hb hK hP (by decide) 1 fa79 rfl (by omega) (by decide) dX6_counts_236 ?_
                      rw [hfz (i) (by omega)]
                      refine lv_aload_n hx hb dX6_counts_237 rfl (lv_at hl 1 rfl) ?_
                      refine xw_get hx hb hts hin6 hown hK hP (by decide) fo62 rfl 2 (by decide) hf16 rfl rfl dX6_counts_238 ?_
                      refine lv_iload hx hb dX6_counts_241 (lv_at hl 8 rfl) ?_
                      refine xw_iald hx hb hK hP (by decide) 0 fa63 rfl (by omega) (by decide) dX6_counts_243 ?_
                      rw [hfw (d0) (by omega)]
                      refine xi_i2l hx hb (Nat.lt_of_le_of_lt (hw _ (by omega)) (by decide)) dX6_counts_244 ?_
                      refine xl_mul hx hb dX6_counts_245 ?_
                      refine xl_add hx hb dX6_counts_246 ?_
                      refine xw_last hx hb hK hP hD hS (by decide) 1 fa80 rfl hix (by decide) dX6_counts_247 (fun g25 H locs eg25 hP hS => ?_)
                      have fg25_0 : g25 (62) = .inr (6, [.int (nI (q)), .int (nI (Wt)), .ref (ad (63)), .ref (ad (64)), .ref (ad (65)), .ref (ad (66)), .int (nI (T)), .long (tp), .long (bt), .long (nu), .long (de), .int (sq), .ref (ad (67)), .ref (ad (68)), .ref (ad (69)), .ref (ad (70)), .ref (ad (71)), .ref (ad (72)), .ref (ad (73)), .ref (ad (74)), .ref (ad (75)), .ref (ad (76)), .ref (ad (77)), .ref (ad (78)), .ref (ad (79)), .ref (ad (80))]) := (congrFun eg25 (62)).trans ((va_up_ne _ _ (by decide)).trans fo62)
                      have fg25_1 : g25 (63) = .inl (cI, 4, .inl (fw)) := (congrFun eg25 (63)).trans ((va_up_ne _ _ (by decide)).trans fa63)
                      have fg25_2 : g25 (64) = .inl (cI, 8, .inl (fsz)) := (congrFun eg25 (64)).trans ((va_up_ne _ _ (by decide)).trans fa64)
                      have fg25_3 : g25 (65) = .inl (cI, 40, .inl (fwd)) := (congrFun eg25 (65)).trans ((va_up_ne _ _ (by decide)).trans fa65)
                      have fg25_4 : g25 (79) = .inl (cJ, 16384, .inr (.inl (fz))) := (congrFun eg25 (79)).trans ((va_up_ne _ _ (by decide)).trans fa79)
                      have fg25_w : g25 (80) = .inl (cJ, 16384, .inr (.inl (vp_updL (fc) ((512 * ((i / 512) + (hsN ln u B0 (i % 512) d0))) + (shE ((4 * (i % 512)) + d0))) (lZ ((ctC w (hsN ln u B0) nv i (ctN q w (hsN ln u B0) nv (r) i) (ctI q w (hsN ln u B0) nv (ctN q w (hsN ln u B0) nv (r)) (i)) (d0) ((512 * ((i / 512) + (hsN ln u B0 (i % 512) d0))) + (shE ((4 * (i % 512)) + d0)))) + ((ctN q w (hsN ln u B0) nv (r) (i)) * (((w (d0) : Nat) : Int)))))))) := (congrFun eg25 (80)).trans (va_up_self _ _ _)
                      have hfrg25 : ∀ j : Nat, j ≠ 79 → j ≠ 80 → g25 j = g j := fun j h0 h1 => (congrFun eg25 j).trans ((va_up_ne _ _ h1).trans (hfrgl103_13 j h0 h1))
                      refine lv_iinc (v := nI (d0 + 1)) (lv' := [(7, .int (nI (d0 + 1))), (9, .int (nI ((i / 512) + (hsN ln u B0 (i % 512) d0)))), (0, .ref (ad (62))), (1, .int (nI (B0))), (2, .int (nI (n0))), (3, .int (nI (nv))), (4, .int (nI (r))), (5, .int (nI (i))), (6, .int (nI (i % 512))), (8, .int (nI (hsN ln u B0 (i % 512) d0)))]) hx hb dX6_counts_248 hl (k := 8) rfl (nI_add (d0) 1) (by decide) rfl (fun ls hl => ?_)
                      refine lv_goto (tgt := 103) hx hb dX6_counts_251 (by decide) ?_
                      exact ih103 (d0 + 1, vp_updL (fc) ((512 * ((i / 512) + (hsN ln u B0 (i % 512) d0))) + (shE ((4 * (i % 512)) + d0))) (lZ ((ctC w (hsN ln u B0) nv i (ctN q w (hsN ln u B0) nv (r) i) (ctI q w (hsN ln u B0) nv (ctN q w (hsN ln u B0) nv (r)) (i)) (d0) ((512 * ((i / 512) + (hsN ln u B0 (i % 512) d0))) + (shE ((4 * (i % 512)) + d0)))) + ((ctN q w (hsN ln u B0) nv (r) (i)) * (((w (d0) : Nat) : Int)))))) g25 H locs ls ⟨(by omega), (by rw [hsp]; exact updL_lZ hfc), fg25_0, fg25_1, fg25_2, fg25_3, fg25_4, fg25_w, hfrg25, hP, hS, (lv_sub hl [2, 3, 4, 5, 6, 7, 8, 0] rfl)⟩ (by first | omega | (dsimp only; omega))
                    · refine lv_iconst (v := nI (1)) hx hb dX6_counts_199 (by decide) ?_
                      refine lv_goto (tgt := 204) hx hb dX6_counts_200 (by decide) ?_
                      refine xtopi (y := nI (hsN ln u B0 (i % 512) d0)) (congrArg nI (by have h9 := c196_23; omega)) ?_
                      refine xi_add hx hb dX6_counts_204 ?_
                      refine lv_istore (lv' := [(9, .int (nI ((i / 512) + (hsN ln u B0 (i % 512) d0)))), (0, .ref (ad (62))), (1, .int (nI (B0))), (2, .int (nI (n0))), (3, .int (nI (nv))), (4, .int (nI (r))), (5, .int (nI (i))), (6, .int (nI (i % 512))), (7, .int (nI (d0))), (8, .int (nI (hsN ln u B0 (i % 512) d0)))]) hx hb dX6_counts_205 hl (by decide) rfl (fun ls hl => ?_)
                      have hsp := ctC_y (w := w) (hp := hsN ln u B0) (nv := nv) (i := i) (d := d0) (x := ctN q w (hsN ln u B0) nv (r) i) (th := ctI q w (hsN ln u B0) nv (ctN q w (hsN ln u B0) nv (r)) (i)) (fun h => h.2 c182_22)
                      have hv5 := vE_b (vE_s hz2 (show d0 < 4 by omega))
                      have hix : 512 * (i / 512 + hsN ln u B0 (i % 512) d0) + shE (4 * (i % 512) + d0) < 16384 := by omega
                      refine lv_aload_n hx hb dX6_counts_207 rfl (lv_at hl 1 rfl) ?_
                      refine xw_get hx hb hts hin6 hown hK hP (by decide) fo62 rfl 25 (by decide) hf73 rfl rfl dX6_counts_208 ?_
                      refine lv_sipush (v := nI (512)) hx hb dX6_counts_211 (by decide) ?_
                      refine lv_iload hx hb dX6_counts_214 (lv_at hl 0 rfl) ?_
                      refine xi_mul hx hb dX6_counts_216 ?_
                      refine lv_iconst (v := nI (4)) hx hb dX6_counts_217 (by decide) ?_
                      refine lv_iload hx hb dX6_counts_218 (lv_at hl 7 rfl) ?_
                      refine xi_mul hx hb dX6_counts_220 ?_
                      refine lv_iload hx hb dX6_counts_221 (lv_at hl 8 rfl) ?_
                      refine xi_add hx hb dX6_counts_223 ?_
                      refine vp_callSi (va_Run.run (va_runS (As := [.int (nI ((4 * (i % 512)) + d0))]) (rest := [.int (nI (512 * ((i / 512) + (hsN ln u B0 (i % 512) d0)))), .ref (ad (80))]) ⟨hx, hb, hml, hown, hts⟩ (mX6_shorter l (by omega)) (va_cwS 1 hts gX6_counts_X6_shorter rfl rfl rfl (by decide +kernel) ⟨Nat.le_of_ble_eq_true rfl, Nat.le_of_ble_eq_true rfl⟩) ⟨xB_blind, fun U hU hW => ⟨rfl, by rw [hU]; exact hP, va_K.moved hW.alike hK, va_Nw.warmM hW hN⟩⟩ rfl rfl hl.1 rfl (lv_room (Nat.le_of_ble_eq_true rfl)) dX6_counts_224 ⟨Nat.le_of_ble_eq_true rfl, Nat.le_of_ble_eq_true rfl⟩)) (fun r26 er26 => ?_)
                      subst er26
                      refine xi_add hx hb dX6_counts_227 ?_
                      refine lv_dup2_11 hx hb dX6_counts_228 rfl rfl ?_
                      refine xw_lald hx hb hK hP (by decide) 1 fa80 rfl hix (by decide) dX6_counts_229 ?_
                      rw [hfc ((512 * ((i / 512) + (hsN ln u B0 (i % 512) d0))) + (shE ((4 * (i % 512)) + d0))) hix]
                      refine lv_aload_n hx hb dX6_counts_230 rfl (lv_at hl 1 rfl) ?_
                      refine xw_get hx hb hts hin6 hown hK hP (by decide) fo62 rfl 24 (by decide) hf70 rfl rfl dX6_counts_231 ?_
                      refine lv_iload hx hb dX6_counts_234 (lv_at hl 6 rfl) ?_
                      refine xw_lald hx hb hK hP (by decide) 1 fa79 rfl (by omega) (by decide) dX6_counts_236 ?_
                      rw [hfz (i) (by omega)]
                      refine lv_aload_n hx hb dX6_counts_237 rfl (lv_at hl 1 rfl) ?_
                      refine xw_get hx hb hts hin6 hown hK hP (by decide) fo62 rfl 2 (by decide) hf16 rfl rfl dX6_counts_238 ?_
                      refine lv_iload hx hb dX6_counts_241 (lv_at hl 8 rfl) ?_
                      refine xw_iald hx hb hK hP (by decide) 0 fa63 rfl (by omega) (by decide) dX6_counts_243 ?_
                      rw [hfw (d0) (by omega)]
                      refine xi_i2l hx hb (Nat.lt_of_le_of_lt (hw _ (by omega)) (by decide)) dX6_counts_244 ?_
                      refine xl_mul hx hb dX6_counts_245 ?_
                      refine xl_add hx hb dX6_counts_246 ?_
                      refine xw_last hx hb hK hP hD hS (by decide) 1 fa80 rfl hix (by decide) dX6_counts_247 (fun g27 H locs eg27 hP hS => ?_)
                      have fg27_0 : g27 (62) = .inr (6, [.int (nI (q)), .int (nI (Wt)), .ref (ad (63)), .ref (ad (64)), .ref (ad (65)), .ref (ad (66)), .int (nI (T)), .long (tp), .long (bt), .long (nu), .long (de), .int (sq), .ref (ad (67)), .ref (ad (68)), .ref (ad (69)), .ref (ad (70)), .ref (ad (71)), .ref (ad (72)), .ref (ad (73)), .ref (ad (74)), .ref (ad (75)), .ref (ad (76)), .ref (ad (77)), .ref (ad (78)), .ref (ad (79)), .ref (ad (80))]) := (congrFun eg27 (62)).trans ((va_up_ne _ _ (by decide)).trans fo62)
                      have fg27_1 : g27 (63) = .inl (cI, 4, .inl (fw)) := (congrFun eg27 (63)).trans ((va_up_ne _ _ (by decide)).trans fa63)
                      have fg27_2 : g27 (64) = .inl (cI, 8, .inl (fsz)) := (congrFun eg27 (64)).trans ((va_up_ne _ _ (by decide)).trans fa64)
                      have fg27_3 : g27 (65) = .inl (cI, 40, .inl (fwd)) := (congrFun eg27 (65)).trans ((va_up_ne _ _ (by decide)).trans fa65)
                      have fg27_4 : g27 (79) = .inl (cJ, 16384, .inr (.inl (fz))) := (congrFun eg27 (79)).trans ((va_up_ne _ _ (by decide)).trans fa79)
                      have fg27_w : g27 (80) = .inl (cJ, 16384, .inr (.inl (vp_updL (fc) ((512 * ((i / 512) + (hsN ln u B0 (i % 512) d0))) + (shE ((4 * (i % 512)) + d0))) (lZ ((ctC w (hsN ln u B0) nv i (ctN q w (hsN ln u B0) nv (r) i) (ctI q w (hsN ln u B0) nv (ctN q w (hsN ln u B0) nv (r)) (i)) (d0) ((512 * ((i / 512) + (hsN ln u B0 (i % 512) d0))) + (shE ((4 * (i % 512)) + d0)))) + ((ctN q w (hsN ln u B0) nv (r) (i)) * (((w (d0) : Nat) : Int)))))))) := (congrFun eg27 (80)).trans (va_up_self _ _ _)
                      have hfrg27 : ∀ j : Nat, j ≠ 79 → j ≠ 80 → g27 j = g j := fun j h0 h1 => (congrFun eg27 j).trans ((va_up_ne _ _ h1).trans (hfrgl103_13 j h0 h1))
                      refine lv_iinc (v := nI (d0 + 1)) (lv' := [(7, .int (nI (d0 + 1))), (9, .int (nI ((i / 512) + (hsN ln u B0 (i % 512) d0)))), (0, .ref (ad (62))), (1, .int (nI (B0))), (2, .int (nI (n0))), (3, .int (nI (nv))), (4, .int (nI (r))), (5, .int (nI (i))), (6, .int (nI (i % 512))), (8, .int (nI (hsN ln u B0 (i % 512) d0)))]) hx hb dX6_counts_248 hl (k := 8) rfl (nI_add (d0) 1) (by decide) rfl (fun ls hl => ?_)
                      refine lv_goto (tgt := 103) hx hb dX6_counts_251 (by decide) ?_
                      exact ih103 (d0 + 1, vp_updL (fc) ((512 * ((i / 512) + (hsN ln u B0 (i % 512) d0))) + (shE ((4 * (i % 512)) + d0))) (lZ ((ctC w (hsN ln u B0) nv i (ctN q w (hsN ln u B0) nv (r) i) (ctI q w (hsN ln u B0) nv (ctN q w (hsN ln u B0) nv (r)) (i)) (d0) ((512 * ((i / 512) + (hsN ln u B0 (i % 512) d0))) + (shE ((4 * (i % 512)) + d0)))) + ((ctN q w (hsN ln u B0) nv (r) (i)) * (((w (d0) : Nat) : Int)))))) g27 H locs ls ⟨(by omega), (by rw [hsp]; exact updL_lZ hfc), fg27_0, fg27_1, fg27_2, fg27_3, fg27_4, fg27_w, hfrg27, hP, hS, (lv_sub hl [2, 3, 4, 5, 6, 7, 8, 0] rfl)⟩ (by first | omega | (dsimp only; omega))
                  · have hsp := ctC_n (w := w) (hp := hsN ln u B0) (nv := nv) (i := i) (d := d0) (x := ctN q w (hsN ln u B0) nv (r) i) (th := ctI q w (hsN ln u B0) nv (ctN q w (hsN ln u B0) nv (r)) (i)) ⟨c178_16, c182_22⟩
                    refine lv_goto (tgt := 248) hx hb dX6_counts_185 (by decide) ?_
                    refine lv_iinc (v := nI (d0 + 1)) (lv' := [(7, .int (nI (d0 + 1))), (0, .ref (ad (62))), (1, .int (nI (B0))), (2, .int (nI (n0))), (3, .int (nI (nv))), (4, .int (nI (r))), (5, .int (nI (i))), (6, .int (nI (i % 512))), (8, .int (nI (hsN ln u B0 (i % 512) d0))), (9, .int (nI (s1)))]) hx hb dX6_counts_248 hl (k := 7) rfl (nI_add (d0) 1) (by decide) rfl (fun ls hl => ?_)
                    refine lv_goto (tgt := 103) hx hb dX6_counts_251 (by decide) ?_
                    exact ih103 (d0 + 1, fc) gl103_13 H locs ls ⟨(by omega), (by rw [hsp]; exact hfc), fo62, fa63, fa64, fa65, fa79, fa80, hfrgl103_13, hP, hS, (lv_sub hl [1, 2, 3, 4, 5, 6, 7, 0] rfl)⟩ (by first | omega | (dsimp only; omega))
              · refine lv_iload hx hb dX6_counts_125 (lv_at hl 8 rfl) ?_
                refine xi_if_ne (tgt := 163) hx hb (by rcases hbq with h | h <;> omega) dX6_counts_127 (by decide) (fun c127_28 => ?_) (fun c127_28 => ?_)
                · refine lv_iconst (v := nI (1)) hx hb dX6_counts_163 (by decide) ?_
                  refine lv_goto (tgt := 168) hx hb dX6_counts_164 (by decide) ?_
                  refine lv_istore (lv' := [(8, .int (nI (1))), (0, .ref (ad (62))), (1, .int (nI (B0))), (2, .int (nI (n0))), (3, .int (nI (nv))), (4, .int (nI (r))), (5, .int (nI (i))), (6, .int (nI (i % 512))), (7, .int (nI (d0))), (9, .int (nI (s1)))]) hx hb dX6_counts_168 hl (by decide) rfl (fun ls hl => ?_)
                  refine lv_iinc (v := nI (s1 + 1)) (lv' := [(9, .int (nI (s1 + 1))), (8, .int (nI (1))), (0, .ref (ad (62))), (1, .int (nI (B0))), (2, .int (nI (n0))), (3, .int (nI (nv))), (4, .int (nI (r))), (5, .int (nI (i))), (6, .int (nI (i % 512))), (7, .int (nI (d0)))]) hx hb dX6_counts_170 hl (k := 9) rfl (nI_add (s1) 1) (by decide) rfl (fun ls hl => ?_)
                  refine lv_goto (tgt := 118) hx hb dX6_counts_173 (by decide) ?_
                  exact ih118 (s1 + 1, 1) ls ⟨(by omega), (hbq.elim (fun h => Or.inl ⟨rfl, hsB_1 h.2⟩) (fun h => absurd h.1 c127_28)), (lv_sub hl [2, 3, 4, 5, 6, 7, 8, 9, 1, 0] rfl)⟩ (by first | omega | (dsimp only; omega))
                · refine lv_iload_n hx hb dX6_counts_130 rfl (lv_at hl 1 rfl) ?_
                  refine lv_iload hx hb dX6_counts_131 (lv_at hl 9 rfl) ?_
                  refine lv_ishr hx hb dX6_counts_133 ?_
                  refine xtopi (y := nI (B0 / 2 ^ s1)) (nI_shr (by omega) (by omega)) ?_
                  refine lv_iconst (v := nI (1)) hx hb dX6_counts_134 (by decide) ?_
                  refine lv_iand hx hb dX6_counts_135 ?_
                  refine xtopi (y := nI (B0 / 2 ^ s1 % 2)) (and1 _) ?_
                  refine lv_iconst (v := nI (1)) hx hb dX6_counts_136 (by decide) ?_
                  refine xi_icmp_ne (tgt := 167) hx hb (by omega) (by decide) dX6_counts_137 (by decide) (fun c137_31 => ?_) (fun c137_31 => ?_)
                  · refine lv_iconst (v := nI (0)) hx hb dX6_counts_167 (by decide) ?_
                    refine lv_istore (lv' := [(8, .int (nI (0))), (0, .ref (ad (62))), (1, .int (nI (B0))), (2, .int (nI (n0))), (3, .int (nI (nv))), (4, .int (nI (r))), (5, .int (nI (i))), (6, .int (nI (i % 512))), (7, .int (nI (d0))), (9, .int (nI (s1)))]) hx hb dX6_counts_168 hl (by decide) rfl (fun ls hl => ?_)
                    refine lv_iinc (v := nI (s1 + 1)) (lv' := [(9, .int (nI (s1 + 1))), (8, .int (nI (0))), (0, .ref (ad (62))), (1, .int (nI (B0))), (2, .int (nI (n0))), (3, .int (nI (nv))), (4, .int (nI (r))), (5, .int (nI (i))), (6, .int (nI (i % 512))), (7, .int (nI (d0)))]) hx hb dX6_counts_170 hl (k := 9) rfl (nI_add (s1) 1) (by decide) rfl (fun ls hl => ?_)
                    refine lv_goto (tgt := 118) hx hb dX6_counts_173 (by decide) ?_
                    exact ih118 (s1 + 1, 0) ls ⟨(by omega), (hbq.elim (fun h => absurd c127_28 (by omega)) (fun h => Or.inr ⟨rfl, hsB_n h.2 (fun h => absurd h.1 (by have h9 := c137_31; show ¬ _ = 1; omega))⟩)), (lv_sub hl [2, 3, 4, 5, 6, 7, 8, 9, 1, 0] rfl)⟩ (by first | omega | (dsimp only; omega))
                  · refine lv_aload_n hx hb dX6_counts_140 rfl (lv_at hl 0 rfl) ?_
                    refine xw_get hx hb hts hin6 hown hK hP (by decide) fo62 rfl 3 (by decide) hf20 rfl rfl dX6_counts_141 ?_
                    refine lv_iload hx hb dX6_counts_144 (lv_at hl 9 rfl) ?_
                    refine xw_iald hx hb hK hP (by decide) 0 fa64 rfl (by omega) (by decide) dX6_counts_146 ?_
                    rw [hsz (s1) (by omega)]
                    refine xi_if_le (tgt := 167) hx hb (by have h9 := hln s1; omega) dX6_counts_147 (by decide) (fun c147_32 => ?_) (fun c147_32 => ?_)
                    · refine lv_iconst (v := nI (0)) hx hb dX6_counts_167 (by decide) ?_
                      refine lv_istore (lv' := [(8, .int (nI (0))), (0, .ref (ad (62))), (1, .int (nI (B0))), (2, .int (nI (n0))), (3, .int (nI (nv))), (4, .int (nI (r))), (5, .int (nI (i))), (6, .int (nI (i % 512))), (7, .int (nI (d0))), (9, .int (nI (s1)))]) hx hb dX6_counts_168 hl (by decide) rfl (fun ls hl => ?_)
                      refine lv_iinc (v := nI (s1 + 1)) (lv' := [(9, .int (nI (s1 + 1))), (8, .int (nI (0))), (0, .ref (ad (62))), (1, .int (nI (B0))), (2, .int (nI (n0))), (3, .int (nI (nv))), (4, .int (nI (r))), (5, .int (nI (i))), (6, .int (nI (i % 512))), (7, .int (nI (d0)))]) hx hb dX6_counts_170 hl (k := 9) rfl (nI_add (s1) 1) (by decide) rfl (fun ls hl => ?_)
                      refine lv_goto (tgt := 118) hx hb dX6_counts_173 (by decide) ?_
                      exact ih118 (s1 + 1, 0) ls ⟨(by omega), (hbq.elim (fun h => absurd c127_28 (by omega)) (fun h => Or.inr ⟨rfl, hsB_n h.2 (fun h => absurd h.2.1 (by have h9 := c147_32; omega))⟩)), (lv_sub hl [2, 3, 4, 5, 6, 7, 8, 9, 1, 0] rfl)⟩ (by first | omega | (dsimp only; omega))
                    · refine lv_aload_n hx hb dX6_counts_150 rfl (lv_at hl 0 rfl) ?_
                      refine lv_iload hx hb dX6_counts_151 (lv_at hl 6 rfl) ?_
                      refine lv_iload hx hb dX6_counts_153 (lv_at hl 7 rfl) ?_
                      refine lv_iload hx hb dX6_counts_155 (lv_at hl 9 rfl) ?_
                      refine vp_callSi (va_Run.run (va_runV (As := [.int (nI (i % 512)), .int (nI (d0)), .int (nI (s1))]) (rest := []) ⟨hx, hb, hml, hown, hts⟩ (mX6_comes l (w := w) (ln := ln) (t := t) (u := u) fo62 fa64 fa65 hsz hwl hq2 hq4 hln hul hT ht (by omega) (by have h9 := c147_32; omega) (by omega) (by omega)) (cwV 3 hts gX6_counts_X6_comes rfl rfl rfl (by decide +kernel) ⟨Nat.le_of_ble_eq_true rfl, Nat.le_of_ble_eq_true rfl⟩) ⟨xB_blind, va_recv hK hP (ci := 6) rfl (xw_is (by decide) fo62), fun U hU hW => ⟨rfl, by rw [hU]; exact hP, va_K.moved hW.alike hK, va_Nw.warmM hW hN⟩⟩ rfl rfl hl.1 rfl (lv_room (Nat.le_of_ble_eq_true rfl)) dX6_counts_157 ⟨Nat.le_of_ble_eq_true rfl, Nat.le_of_ble_eq_true rfl⟩)) (fun r33 er33 => ?_)
                      subst er33
                      refine xb_if_eq (tgt := 167) hx hb dX6_counts_160 (by decide) (fun c160_34 => ?_) (fun c160_34 => ?_)
                      · refine lv_iconst (v := nI (0)) hx hb dX6_counts_167 (by decide) ?_
                        refine lv_istore (lv' := [(8, .int (nI (0))), (0, .ref (ad (62))), (1, .int (nI (B0))), (2, .int (nI (n0))), (3, .int (nI (nv))), (4, .int (nI (r))), (5, .int (nI (i))), (6, .int (nI (i % 512))), (7, .int (nI (d0))), (9, .int (nI (s1)))]) hx hb dX6_counts_168 hl (by decide) rfl (fun ls hl => ?_)
                        refine lv_iinc (v := nI (s1 + 1)) (lv' := [(9, .int (nI (s1 + 1))), (8, .int (nI (0))), (0, .ref (ad (62))), (1, .int (nI (B0))), (2, .int (nI (n0))), (3, .int (nI (nv))), (4, .int (nI (r))), (5, .int (nI (i))), (6, .int (nI (i % 512))), (7, .int (nI (d0)))]) hx hb dX6_counts_170 hl (k := 9) rfl (nI_add (s1) 1) (by decide) rfl (fun ls hl => ?_)
                        refine lv_goto (tgt := 118) hx hb dX6_counts_173 (by decide) ?_
                        exact ih118 (s1 + 1, 0) ls ⟨(by omega), (hbq.elim (fun h => absurd c127_28 (by omega)) (fun h => Or.inr ⟨rfl, hsB_n h.2 (fun h => c160_34 h.2.2)⟩)), (lv_sub hl [2, 3, 4, 5, 6, 7, 8, 9, 1, 0] rfl)⟩ (by first | omega | (dsimp only; omega))
                      · refine lv_iconst (v := nI (1)) hx hb dX6_counts_163 (by decide) ?_
                        refine lv_goto (tgt := 168) hx hb dX6_counts_164 (by decide) ?_
                        refine lv_istore (lv' := [(8, .int (nI (1))), (0, .ref (ad (62))), (1, .int (nI (B0))), (2, .int (nI (n0))), (3, .int (nI (nv))), (4, .int (nI (r))), (5, .int (nI (i))), (6, .int (nI (i % 512))), (7, .int (nI (d0))), (9, .int (nI (s1)))]) hx hb dX6_counts_168 hl (by decide) rfl (fun ls hl => ?_)
                        refine lv_iinc (v := nI (s1 + 1)) (lv' := [(9, .int (nI (s1 + 1))), (8, .int (nI (1))), (0, .ref (ad (62))), (1, .int (nI (B0))), (2, .int (nI (n0))), (3, .int (nI (nv))), (4, .int (nI (r))), (5, .int (nI (i))), (6, .int (nI (i % 512))), (7, .int (nI (d0)))]) hx hb dX6_counts_170 hl (k := 9) rfl (nI_add (s1) 1) (by decide) rfl (fun ls hl => ?_)
                        refine lv_goto (tgt := 118) hx hb dX6_counts_173 (by decide) ?_
                        exact ih118 (s1 + 1, 1) ls ⟨(by omega), (Or.inl ⟨rfl, hsB_y (by have h9 := c137_31; show _ = 1; omega) (by have h9 := c147_32; omega) c160_34⟩), (lv_sub hl [2, 3, 4, 5, 6, 7, 8, 9, 1, 0] rfl)⟩ (by first | omega | (dsimp only; omega))
          · refine lv_goto (tgt := 254) hx hb dX6_counts_89 (by decide) ?_
            refine lv_iinc (v := nI (i + 1)) (lv' := [(5, .int (nI (i + 1))), (0, .ref (ad (62))), (1, .int (nI (B0))), (2, .int (nI (n0))), (3, .int (nI (nv))), (4, .int (nI (r)))]) hx hb dX6_counts_254 hl (k := 5) rfl (nI_add (i) 1) (by decide) rfl (fun ls hl => ?_)
            refine lv_goto (tgt := 69) hx hb dX6_counts_257 (by decide) ?_
            exact ih69 (i + 1, fx) gl69_8 H locs ls ⟨(by omega), (show ∀ j, j < 16384 → fx j = lZ (ctC w (hsN ln u B0) nv i (ctN q w (hsN ln u B0) nv (r) i) (ctI q w (hsN ln u B0) nv (ctN q w (hsN ln u B0) nv (r)) (i)) (q) j) from fun j hj => (hfx j hj).trans (ctC_0 hz q j).symm), fo62, fa63, fa64, fa65, fa79, fa80, hfrgl69_8, hP, hS, (lv_sub hl [1, 2, 3, 4, 5, 0] rfl)⟩ (by first | omega | (dsimp only; omega))
      · refine lv_aload_n hx hb dX6_counts_52 rfl (lv_at hl 0 rfl) ?_
        refine xw_get hx hb hts hin6 hown hK hP (by decide) fo62 rfl 25 (by decide) hf73 rfl rfl dX6_counts_53 ?_
        refine lv_iload hx hb dX6_counts_56 (lv_at hl 5 rfl) ?_
        refine lv_lconst (v := lZ (0)) hx hb dX6_counts_58 (by decide) ?_
        refine xw_last hx hb hK hP hD hS (by decide) 1 fa80 rfl (by omega) (by decide) dX6_counts_59 (fun g35 H locs eg35 hP hS => ?_)
        have fg35_0 : g35 (62) = .inr (6, [.int (nI (q)), .int (nI (Wt)), .ref (ad (63)), .ref (ad (64)), .ref (ad (65)), .ref (ad (66)), .int (nI (T)), .long (tp), .long (bt), .long (nu), .long (de), .int (sq), .ref (ad (67)), .ref (ad (68)), .ref (ad (69)), .ref (ad (70)), .ref (ad (71)), .ref (ad (72)), .ref (ad (73)), .ref (ad (74)), .ref (ad (75)), .ref (ad (76)), .ref (ad (77)), .ref (ad (78)), .ref (ad (79)), .ref (ad (80))]) := (congrFun eg35 (62)).trans ((va_up_ne _ _ (by decide)).trans fo62)
        have fg35_1 : g35 (63) = .inl (cI, 4, .inl (fw)) := (congrFun eg35 (63)).trans ((va_up_ne _ _ (by decide)).trans fa63)
        have fg35_2 : g35 (64) = .inl (cI, 8, .inl (fsz)) := (congrFun eg35 (64)).trans ((va_up_ne _ _ (by decide)).trans fa64)
        have fg35_3 : g35 (65) = .inl (cI, 40, .inl (fwd)) := (congrFun eg35 (65)).trans ((va_up_ne _ _ (by decide)).trans fa65)
        have fg35_4 : g35 (79) = .inl (cJ, 16384, .inr (.inl (fz))) := (congrFun eg35 (79)).trans ((va_up_ne _ _ (by decide)).trans fa79)
        have fg35_w : g35 (80) = .inl (cJ, 16384, .inr (.inl (vp_updL (fx) (i) (lZ (0))))) := (congrFun eg35 (80)).trans (va_up_self _ _ _)
        have hfrg35 : ∀ j : Nat, j ≠ 79 → j ≠ 80 → g35 j = g j := fun j h0 h1 => (congrFun eg35 j).trans ((va_up_ne _ _ h1).trans (hfrgl44_6 j h0 h1))
        refine lv_iinc (v := nI (i + 1)) (lv' := [(5, .int (nI (i + 1))), (0, .ref (ad (62))), (1, .int (nI (B0))), (2, .int (nI (n0))), (3, .int (nI (nv))), (4, .int (nI (r)))]) hx hb dX6_counts_60 hl (k := 5) rfl (nI_add (i) 1) (by decide) rfl (fun ls hl => ?_)
        refine lv_goto (tgt := 44) hx hb dX6_counts_63 (by decide) ?_
        exact ih44 (i + 1, vp_updL (fx) (i) (lZ (0))) g35 H locs ls ⟨(by omega), (fun j hj => if e : j = i then by rw [e, pk_uLs] else by rw [pk_uLn e]; exact hfx j (by omega)), fg35_0, fg35_1, fg35_2, fg35_3, fg35_4, fg35_w, hfrg35, hP, hS, (lv_sub hl [1, 2, 3, 4, 5, 0] rfl)⟩ (by first | omega | (dsimp only; omega))
  · refine lv_aload_n hx hb dX6_counts_11 rfl (lv_at hl 0 rfl) ?_
    refine xw_get hx hb hts hin6 hown hK hP (by decide) fo62 rfl 24 (by decide) hf70 rfl rfl dX6_counts_12 ?_
    refine lv_iload hx hb dX6_counts_15 (lv_at hl 4 rfl) ?_
    refine lv_lconst (v := lZ (0)) hx hb dX6_counts_17 (by decide) ?_
    refine xw_last hx hb hK hP hD hS (by decide) 1 fa79 rfl (by omega) (by decide) dX6_counts_18 (fun g36 H locs eg36 hP hS => ?_)
    have fg36_0 : g36 (62) = .inr (6, [.int (nI (q)), .int (nI (Wt)), .ref (ad (63)), .ref (ad (64)), .ref (ad (65)), .ref (ad (66)), .int (nI (T)), .long (tp), .long (bt), .long (nu), .long (de), .int (sq), .ref (ad (67)), .ref (ad (68)), .ref (ad (69)), .ref (ad (70)), .ref (ad (71)), .ref (ad (72)), .ref (ad (73)), .ref (ad (74)), .ref (ad (75)), .ref (ad (76)), .ref (ad (77)), .ref (ad (78)), .ref (ad (79)), .ref (ad (80))]) := (congrFun eg36 (62)).trans ((va_up_ne _ _ (by decide)).trans fo62)
    have fg36_1 : g36 (63) = .inl (cI, 4, .inl (fw)) := (congrFun eg36 (63)).trans ((va_up_ne _ _ (by decide)).trans fa63)
    have fg36_2 : g36 (64) = .inl (cI, 8, .inl (fsz)) := (congrFun eg36 (64)).trans ((va_up_ne _ _ (by decide)).trans fa64)
    have fg36_3 : g36 (65) = .inl (cI, 40, .inl (fwd)) := (congrFun eg36 (65)).trans ((va_up_ne _ _ (by decide)).trans fa65)
    have fg36_4 : g36 (80) = .inl (cJ, 16384, .inr (.inl (fth))) := (congrFun eg36 (80)).trans ((va_up_ne _ _ (by decide)).trans fa80)
    have fg36_w : g36 (79) = .inl (cJ, 16384, .inr (.inl (vp_updL (fz) (i) (lZ (0))))) := (congrFun eg36 (79)).trans (va_up_self _ _ _)
    have hfrg36 : ∀ j : Nat, j ≠ 79 → j ≠ 80 → g36 j = g j := fun j h0 h1 => (congrFun eg36 j).trans ((va_up_ne _ _ h0).trans (hfrgl3_1 j h0 h1))
    refine lv_iinc (v := nI (i + 1)) (lv' := [(4, .int (nI (i + 1))), (0, .ref (ad (62))), (1, .int (nI (B0))), (2, .int (nI (n0))), (3, .int (nI (nv)))]) hx hb dX6_counts_19 hl (k := 4) rfl (nI_add (i) 1) (by decide) rfl (fun ls hl => ?_)
    refine lv_goto (tgt := 3) hx hb dX6_counts_22 (by decide) ?_
    exact ih3 (i + 1, vp_updL (fz) (i) (lZ (0))) g36 H locs ls ⟨(by omega), (fun j hj => if e : j = i then by rw [e, pk_uLs] else by rw [pk_uLn e]; exact hfz j (by omega)), fg36_0, fg36_1, fg36_2, fg36_3, fg36_w, fg36_4, hfrg36, hP, hS, (lv_sub hl [1, 2, 3, 4, 0] rfl)⟩ (by first | omega | (dsimp only; omega))

set_option maxHeartbeats 4000000 in
set_option maxRecDepth 100000 in
/-- power -/
theorem mX6_power (l : Launch) {D : va_G} {cI cJ cZ cW : ClassId} {ad : Nat → Nat} {g : Nat → va_E} {q Wt T : Nat} {w ln t : Nat → Nat} {u : Nat → Nat → Nat} {tp bt : Int64} {n0 : Nat} {sq : Int32} {nu de : Int64}  (fo62 : g (62) = .inr (6, [.int (nI (q)), .int (nI (Wt)), .ref (ad (63)), .ref (ad (64)), .ref (ad (65)), .ref (ad (66)), .int (nI (T)), .long (tp), .long (bt), .long (nu), .long (de), .int (sq), .ref (ad (67)), .ref (ad (68)), .ref (ad (69)), .ref (ad (70)), .ref (ad (71)), .ref (ad (72)), .ref (ad (73)), .ref (ad (74)), .ref (ad (75)), .ref (ad (76)), .ref (ad (77)), .ref (ad (78)), .ref (ad (79)), .ref (ad (80))]))  (hn0 : n0 ≤ 30) (hWt : Wt ≤ 4) : Met l yX6_power wsX6_power ({ frames := 0, cells := 0, slots := 0, locals := 0 }) (va_Pc [.ref (ad (62)), .int (nI (n0))] (xB D (xT cI cJ cZ cW) ad g)) (vp_Sl (fun r => r = lZ ((Wt ^ n0 : Nat) : Int))) 0 0 (fun _ => False) := by
  refine Met.ofW (cc := cX6_power) (maxL := 5) (ret := (some .long)) (by decide) rfl ?_
  intro p e s m args below meth c s₁ B hml hv
  obtain ⟨rfl, hP, hK, hN⟩ := hv
  have hx := B.exec
  have hb := B.bytes
  have hr := B.returns
  have hts := atoms_spec (ws := wsX6_power) B.pre
  have hown : s.vm.findClass RX6 = some m.cls := findClass_of_methodNamed B.named
  have hlocks := B.notSynchronized
  have hin6 : ∀ w ∈ wsX60, w ∈ wsX6_power := by decide +kernel
  have hf13 := hts (.fieldLink RX6 13 "LettersByLotModel" "all" "I") (by decide +kernel)
  have hl := lv_entry ([.ref (ad (62)), .int (nI (n0))]) (n := 5) (Nat.le_of_ble_eq_true rfl)
  rw [lg_entry_eq]
  generalize (lg_sl ([.ref (ad (62)), .int (nI (n0))]) ++ List.replicate (5 - (lg_sl ([.ref (ad (62)), .int (nI (n0))])).length) Slot.unset).toArray = ls at hl ⊢
  have hl : lv_has ls 5 [(0, .ref (ad (62))), (1, .int (nI (n0)))] := hl
  refine lv_lconst (v := lZ (1)) hx hb dX6_power_0 (by decide) ?_
  refine lv_lstore_n (lv' := [(2, .long (lZ (1))), (0, .ref (ad (62))), (1, .int (nI (n0)))]) hx hb dX6_power_1 rfl hl (by decide) rfl (fun ls hl => ?_)
  refine lv_iconst (v := nI (0)) hx hb dX6_power_2 (by decide) ?_
  refine lv_istore (lv' := [(4, .int (nI (0))), (2, .long (lZ (1))), (0, .ref (ad (62))), (1, .int (nI (n0)))]) hx hb dX6_power_3 hl (by decide) rfl (fun ls hl => ?_)
  refine xloop (G := fun fr => W p l e _ s m _ below meth c _ _ _ _ _ fr) (σ := Nat) (fun i ls => F0 m 5 ls []) (fun i ls => (i ≤ n0) ∧ lv_has ls 5 [(0, .ref (ad (62))), (1, .int (nI (n0))), (2, .long (lZ (((Wt ^ i : Nat) : Int)))), (4, .int (nI (i)))]) (fun i => n0 - i) ?_ (0) ls ⟨(Nat.zero_le _), (by rw [show Wt ^ 0 = 1 from rfl]; exact (lv_sub hl [2, 3, 1, 0] rfl))⟩
  rintro i ls ⟨hi, hl⟩ ih5
  refine lv_iload hx hb dX6_power_5 (lv_at hl 3 rfl) ?_
  refine lv_iload_n hx hb dX6_power_7 rfl (lv_at hl 1 rfl) ?_
  refine xi_icmp_ge (tgt := 25) hx hb (by omega) (by omega) dX6_power_8 (by decide) (fun c8_1 => ?_) (fun c8_1 => ?_)
  · refine lv_lload_n hx hb dX6_power_25 rfl (lv_at hl 2 rfl) ?_
    exact W.lret (v := lZ (((Wt ^ i : Nat) : Int))) hx hb hr (fun tZ ht _ => ⟨_, rfl, (by show _ = _; rw [show i = n0 by omega]), ht⟩) (fun q hq => by cases hq) dX6_power_26
  · refine lv_lload_n hx hb dX6_power_11 rfl (lv_at hl 2 rfl) ?_
    refine lv_aload_n hx hb dX6_power_12 rfl (lv_at hl 0 rfl) ?_
    refine xw_get hx hb hts hin6 hown hK hP (by decide) fo62 rfl 1 (by decide) hf13 rfl rfl dX6_power_13 ?_
    refine xi_i2l hx hb (by omega) dX6_power_16 ?_
    refine xl_mul hx hb dX6_power_17 ?_
    refine xtopl (y := lZ (((Wt ^ (i + 1) : Nat) : Int))) (congrArg lZ (by rw [Nat.pow_succ, Int.natCast_mul])) ?_
    refine lv_lstore_n (lv' := [(2, .long (lZ (((Wt ^ (i + 1) : Nat) : Int)))), (0, .ref (ad (62))), (1, .int (nI (n0))), (4, .int (nI (i)))]) hx hb dX6_power_18 rfl hl (by decide) rfl (fun ls hl => ?_)
    refine lv_iinc (v := nI (i + 1)) (lv' := [(4, .int (nI (i + 1))), (2, .long (lZ (((Wt ^ (i + 1) : Nat) : Int)))), (0, .ref (ad (62))), (1, .int (nI (n0)))]) hx hb dX6_power_19 hl (k := 3) rfl (nI_add (i) 1) (by decide) rfl (fun ls hl => ?_)
    refine lv_goto (tgt := 5) hx hb dX6_power_22 (by decide) ?_
    exact ih5 (i + 1) ls ⟨(by omega), (lv_sub hl [2, 3, 1, 0] rfl)⟩ (by first | omega | (dsimp only; omega))

set_option maxHeartbeats 4000000 in
set_option maxRecDepth 100000 in
/-- withPlaces -/
theorem mX6_withPlaces (l : Launch) {D : va_G} {cI cJ cZ cW : ClassId} {ad : Nat → Nat} {g : Nat → va_E} {q Wt T : Nat} {w ln t : Nat → Nat} {u : Nat → Nat → Nat} {tp bt : Int64} {k0 : Nat} {nw : Nat → Int} {sq : Int32} {nu de : Int64} {fnw : Nat → Int64}  (fo62 : g (62) = .inr (6, [.int (nI (q)), .int (nI (Wt)), .ref (ad (63)), .ref (ad (64)), .ref (ad (65)), .ref (ad (66)), .int (nI (T)), .long (tp), .long (bt), .long (nu), .long (de), .int (sq), .ref (ad (67)), .ref (ad (68)), .ref (ad (69)), .ref (ad (70)), .ref (ad (71)), .ref (ad (72)), .ref (ad (73)), .ref (ad (74)), .ref (ad (75)), .ref (ad (76)), .ref (ad (77)), .ref (ad (78)), .ref (ad (79)), .ref (ad (80))])) (fa79 : g (79) = .inl (cJ, 16384, .inr (.inl (fnw))))  (hnw : ∀ j, j < 16384 → fnw j = lZ (nw j)) (hk0 : k0 ≤ 30) : Met l yX6_withPlaces wsX6_withPlaces ({ frames := 0, cells := 0, slots := 0, locals := 0 }) (va_Pc [.ref (ad (62)), .int (nI (k0))] (xB D (xT cI cJ cZ cW) ad g)) (vp_Sl (fun r => r = lZ (sgm nw (512 * k0) 512))) 0 0 (fun _ => False) := by
  refine Met.ofW (cc := cX6_withPlaces) (maxL := 5) (ret := (some .long)) (by decide) rfl ?_
  intro p e s m args below meth c s₁ B hml hv
  obtain ⟨rfl, hP, hK, hN⟩ := hv
  have hx := B.exec
  have hb := B.bytes
  have hr := B.returns
  have hts := atoms_spec (ws := wsX6_withPlaces) B.pre
  have hown : s.vm.findClass RX6 = some m.cls := findClass_of_methodNamed B.named
  have hlocks := B.notSynchronized
  have hin6 : ∀ w ∈ wsX60, w ∈ wsX6_withPlaces := by decide +kernel
  have hf70 := hts (.fieldLink RX6 70 "LettersByLotModel" "now" "[J") (by decide +kernel)
  have hl := lv_entry ([.ref (ad (62)), .int (nI (k0))]) (n := 5) (Nat.le_of_ble_eq_true rfl)
  rw [lg_entry_eq]
  generalize (lg_sl ([.ref (ad (62)), .int (nI (k0))]) ++ List.replicate (5 - (lg_sl ([.ref (ad (62)), .int (nI (k0))])).length) Slot.unset).toArray = ls at hl ⊢
  have hl : lv_has ls 5 [(0, .ref (ad (62))), (1, .int (nI (k0)))] := hl
  refine lv_lconst (v := lZ (0)) hx hb dX6_withPlaces_0 (by decide) ?_
  refine lv_lstore_n (lv' := [(2, .long (lZ (0))), (0, .ref (ad (62))), (1, .int (nI (k0)))]) hx hb dX6_withPlaces_1 rfl hl (by decide) rfl (fun ls hl => ?_)
  refine lv_iconst (v := nI (0)) hx hb dX6_withPlaces_2 (by decide) ?_
  refine lv_istore (lv' := [(4, .int (nI (0))), (2, .long (lZ (0))), (0, .ref (ad (62))), (1, .int (nI (k0)))]) hx hb dX6_withPlaces_3 hl (by decide) rfl (fun ls hl => ?_)
  refine xloop (G := fun fr => W p l e _ s m _ below meth c _ _ _ _ _ fr) (σ := Nat) (fun i ls => F0 m 5 ls []) (fun i ls => (i ≤ 512) ∧ lv_has ls 5 [(0, .ref (ad (62))), (1, .int (nI (k0))), (2, .long (lZ (sgm nw (512 * k0) i))), (4, .int (nI (i)))]) (fun i => 512 - i) ?_ (0) ls ⟨(Nat.zero_le _), (lv_sub hl [2, 3, 1, 0] rfl)⟩
  rintro i ls ⟨hi, hl⟩ ih5
  refine lv_iload hx hb dX6_withPlaces_5 (lv_at hl 3 rfl) ?_
  refine lv_sipush (v := nI (512)) hx hb dX6_withPlaces_7 (by decide) ?_
  refine xi_icmp_ge (tgt := 35) hx hb (by omega) (by decide) dX6_withPlaces_10 (by decide) (fun c10_1 => ?_) (fun c10_1 => ?_)
  · refine lv_lload_n hx hb dX6_withPlaces_35 rfl (lv_at hl 2 rfl) ?_
    exact W.lret (v := lZ (sgm nw (512 * k0) i)) hx hb hr (fun tZ ht _ => ⟨_, rfl, (by show _ = _; rw [show i = 512 by omega]), ht⟩) (fun q hq => by cases hq) dX6_withPlaces_36
  · refine lv_lload_n hx hb dX6_withPlaces_13 rfl (lv_at hl 2 rfl) ?_
    refine lv_aload_n hx hb dX6_withPlaces_14 rfl (lv_at hl 0 rfl) ?_
    refine xw_get hx hb hts hin6 hown hK hP (by decide) fo62 rfl 24 (by decide) hf70 rfl rfl dX6_withPlaces_15 ?_
    refine lv_sipush (v := nI (512)) hx hb dX6_withPlaces_18 (by decide) ?_
    refine lv_iload_n hx hb dX6_withPlaces_21 rfl (lv_at hl 1 rfl) ?_
    refine xi_mul hx hb dX6_withPlaces_22 ?_
    refine lv_iload hx hb dX6_withPlaces_23 (lv_at hl 3 rfl) ?_
    refine xi_add hx hb dX6_withPlaces_25 ?_
    refine xw_lald hx hb hK hP (by decide) 1 fa79 rfl (by omega) (by decide) dX6_withPlaces_26 ?_
    rw [hnw ((512 * k0) + i) (by omega)]
    refine xl_add hx hb dX6_withPlaces_27 ?_
    refine lv_lstore_n (lv' := [(2, .long (lZ ((sgm nw (512 * k0) i) + (nw ((512 * k0) + i))))), (0, .ref (ad (62))), (1, .int (nI (k0))), (4, .int (nI (i)))]) hx hb dX6_withPlaces_28 rfl hl (by decide) rfl (fun ls hl => ?_)
    refine lv_iinc (v := nI (i + 1)) (lv' := [(4, .int (nI (i + 1))), (2, .long (lZ ((sgm nw (512 * k0) i) + (nw ((512 * k0) + i))))), (0, .ref (ad (62))), (1, .int (nI (k0)))]) hx hb dX6_withPlaces_29 hl (k := 3) rfl (nI_add (i) 1) (by decide) rfl (fun ls hl => ?_)
    refine lv_goto (tgt := 5) hx hb dX6_withPlaces_32 (by decide) ?_
    exact ih5 (i + 1) ls ⟨(by omega), (lv_sub hl [2, 3, 1, 0] rfl)⟩ (by first | omega | (dsimp only; omega))
