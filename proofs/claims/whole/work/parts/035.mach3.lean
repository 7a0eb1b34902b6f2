/-- the weights after r letters -/
def wgh (q : Nat) (w nx hv : Nat → Nat) (S M : Nat) : Nat → Nat → Int
  | 0 => fun j => if j = 0 then 1 else 0
  | r + 1 => rdK q w nx hv S M (wgh q w nx hv S M r) (min r M + 1)
def sgm (nw : Nat → Int) (a : Nat) : Nat → Int
  | 0 => 0
  | c + 1 => sgm nw a c + nw (a + c)
theorem lkC_0 {s c : Nat} {x : LkS} (h : x.1 (s * 4 + c) = 0) : lkC s c x = (va_up x.1 (s * 4 + c) (if s = 0 then 0 else x.1 (x.2.1 s * 4 + c)), x.2.1, x.2.2.1, x.2.2.2.1, x.2.2.2.2) := by
  unfold lkC; rw [if_pos h]
theorem lkC_1 {s c : Nat} {x : LkS} (h : ¬ x.1 (s * 4 + c) = 0) (h2 : x.2.2.2.2 < 41) : lkC s c x = (x.1, va_up x.2.1 (x.1 (s * 4 + c)) (if s = 0 then 0 else x.1 (x.2.1 s * 4 + c)), va_up x.2.2.1 x.2.2.2.2 (x.1 (s * 4 + c)), x.2.2.2.1, x.2.2.2.2 + 1) := by
  unfold lkC; rw [if_neg h, if_pos h2]
theorem lkC_2 {s c : Nat} {x : LkS} (h : ¬ x.1 (s * 4 + c) = 0) (h2 : ¬ x.2.2.2.2 < 41) : lkC s c x = x := by
  unfold lkC; rw [if_neg h, if_neg h2]
set_option maxHeartbeats 4000000 in
set_option maxRecDepth 100000 in
/-- Machine.weigh -/
theorem mX1_weigh (l : Launch) {D : va_G} {cI cJ cZ cW : ClassId} {ad : Nat → Nat} {A : Nat → Prop} (hD : ∀ g, va_D A (xw 81 ad g)) {g : Nat → va_E} {q Wt S n0 a0 M1 na nb : Nat} {w nx hv : Nat → Nat} {f2 f9 f12 : Nat → Int32} {fa fb : Nat → Int64}  (fo8 : g (8) = .inr (1, [.ref (ad (9)), .ref (ad (10)), .ref (ad (11)), .ref (ad (12)), .ref (ad (na)), .ref (ad (nb)), .int (nI (S))])) (fa9 : g (9) = .inl (cI, 164, .inl (f9))) (fa12 : g (12) = .inl (cZ, 41, .inl (f12))) (fo_1 : g (1) = .inr (0, [.ref (ad (2)), .int (nI (q)), .int (nI (Wt))])) (fa_2 : g (2) = .inl (cI, 4, .inl (f2))) (faa : g (na) = .inl (cJ, 186, .inr (.inl (fa)))) (fab : g (nb) = .inl (cJ, 186, .inr (.inl (fb)))) (hq4 : q ≤ 4) (h2 : ∀ j, j < 4 → f2 j = nI (w j)) (hw : ∀ j, j < 4 → w j ≤ 4) (hab : (na = 13 ∧ nb = 14) ∨ (na = 14 ∧ nb = 13)) (hS41 : S ≤ 41) (hnx : ∀ e, nx e < S) (h9 : ∀ j, j < 164 → f9 j = nI (nx j)) (hht : ∀ s, hv s ≤ 1) (h12 : ∀ j, j < 41 → f12 j = nI (hv j)) (hn0 : n0 ≤ 30) (hM1 : M1 ≤ 30) (ha0 : a0 ≤ M1) (hSM : S * (M1 + 1) ≤ 186) : Met l yX1_weigh wsX1_weigh ({ frames := 2, cells := 0, slots := 0, locals := 56 }) (va_Pc [.ref (ad (8)), .ref (ad (1)), .int (nI (n0)), .int (nI (a0)), .int (nI (M1))] (xB D (xT cI cJ cZ cW) ad g)) (va_Ql (fun r g2 => r = lZ (sgm (wgh q w nx hv S M1 n0) (a0 * S) ((M1 + 1) * S - a0 * S)) ∧ (∃ (ca cb : Nat) (fx fy : Nat → Int64), ((ca = 13 ∧ cb = 14) ∨ (ca = 14 ∧ cb = 13)) ∧ g2 8 = .inr (1, [.ref (ad (9)), .ref (ad (10)), .ref (ad (11)), .ref (ad (12)), .ref (ad (ca)), .ref (ad (cb)), .int (nI (S))]) ∧ g2 (ca) = .inl (cJ, 186, .inr (.inl (fx))) ∧ g2 (cb) = .inl (cJ, 186, .inr (.inl (fy)))) ∧ ∀ j : Nat, j ≠ 8 → j ≠ 13 → j ≠ 14 → g2 j = g j) (xB D (xT cI cJ cZ cW) ad) A) 0 0 A := by
  refine Met.ofW (cc := cX1_weigh) (maxL := 8) (ret := (some .long)) (by decide) rfl ?_
  intro p e s m args below meth c s₁ B hml hv
  obtain ⟨rfl, hP, hK, hN⟩ := hv
  have hx := B.exec
  have hb := B.bytes
  have hr := B.returns
  have hts := atoms_spec (ws := wsX1_weigh) B.pre
  have hown : s.vm.findClass RX1 = some m.cls := findClass_of_methodNamed B.named
  have hlocks := B.notSynchronized
  have hS : va_S A s.heap s.heap [] := va_S.rf
  have hin1 : ∀ w ∈ wsX10, w ∈ wsX1_weigh := by decide +kernel
  have hf25 := hts (.fieldLink RX1 25 "LettersByLot$Machine" "now" "[J") (by decide +kernel)
  have hf32 := hts (.fieldLink RX1 32 "LettersByLot$Machine" "states" "I") (by decide +kernel)
  have hl := lv_entry ([.ref (ad (8)), .ref (ad (1)), .int (nI (n0)), .int (nI (a0)), .int (nI (M1))]) (n := 8) (Nat.le_of_ble_eq_true rfl)
  rw [lg_entry_eq]
  generalize (lg_sl ([.ref (ad (8)), .ref (ad (1)), .int (nI (n0)), .int (nI (a0)), .int (nI (M1))]) ++ List.replicate (8 - (lg_sl ([.ref (ad (8)), .ref (ad (1)), .int (nI (n0)), .int (nI (a0)), .int (nI (M1))])).length) Slot.unset).toArray = ls at hl ⊢
  have hl : lv_has ls 8 [(0, .ref (ad (8))), (1, .ref (ad (1))), (2, .int (nI (n0))), (3, .int (nI (a0))), (4, .int (nI (M1)))] := hl
  have hMS1 : S * (M1 + 1) < 2 ^ 31 := Nat.lt_of_le_of_lt hSM (by decide)
  refine lv_iload_n hx hb dX1_weigh_0 rfl (lv_at hl 3 rfl) ?_
  refine xi_if_lt (tgt := 32) hx hb (by omega) dX1_weigh_1 (by decide) ?_
  refine lv_iload hx hb dX1_weigh_4 (lv_at hl 4 rfl) ?_
  refine lv_iload_n hx hb dX1_weigh_6 rfl (lv_at hl 3 rfl) ?_
  refine xi_icmp_lt (tgt := 32) hx hb (by omega) (by omega) dX1_weigh_7 (by decide) (fun c7_2 => ?_) (fun c7_2 => ?_)
  · exact absurd c7_2 (by omega)
  · refine lv_iload hx hb dX1_weigh_10 (lv_at hl 4 rfl) ?_
    refine lv_bipush (v := nI (30)) hx hb dX1_weigh_12 (by decide) ?_
    refine xi_icmp_gt (tgt := 32) hx hb (by omega) (by decide) dX1_weigh_14 (by decide) (fun c14_3 => ?_) (fun c14_3 => ?_)
    · exact absurd c14_3 (by omega)
    · refine lv_aload_n hx hb dX1_weigh_17 rfl (lv_at hl 0 rfl) ?_
      refine xw_get hx hb hts hin1 hown hK hP (by decide) fo8 rfl 6 (by decide) hf32 rfl rfl dX1_weigh_18 ?_
      refine lv_iload hx hb dX1_weigh_21 (lv_at hl 4 rfl) ?_
      refine lv_iconst (v := nI (1)) hx hb dX1_weigh_23 (by decide) ?_
      refine xi_add hx hb dX1_weigh_24 ?_
      refine xi_mul hx hb dX1_weigh_25 ?_
      refine lv_sipush (v := nI (186)) hx hb dX1_weigh_26 (by decide) ?_
      refine xi_icmp_le (tgt := 34) hx hb hMS1 (by decide) dX1_weigh_29 (by decide) (fun c29_4 => ?_) (fun c29_4 => ?_)
      · refine lv_aload_n hx hb dX1_weigh_34 rfl (lv_at hl 0 rfl) ?_
        refine xw_get hx hb hts hin1 hown hK hP (by decide) fo8 rfl 4 (by decide) hf25 rfl rfl dX1_weigh_35 ?_
        refine lv_lconst (v := lZ (0)) hx hb dX1_weigh_38 (by decide) ?_
        refine va_callv (va_runS (As := [.ref (ad (na)), .long (lZ (0))]) (rest := []) ⟨hx, hb, hml, hown, hts⟩ (mJ7_fillJ l hD (xv := lZ 0) faa (by omega) (by decide)) (va_cwS 2 hts gX1_weigh_J7_fill_d0a16 rfl rfl rfl (by decide +kernel) ⟨Nat.le_of_ble_eq_true rfl, Nat.le_of_ble_eq_true rfl⟩) ⟨xB_blind, fun U hU hW => ⟨rfl, by rw [hU]; exact hP, va_K.moved hW.alike hK, va_Nw.warmM hW hN⟩⟩ rfl rfl hl.1 rfl (lv_room (Nat.le_of_ble_eq_true rfl)) dX1_weigh_39 ⟨Nat.le_of_ble_eq_true rfl, Nat.le_of_ble_eq_true rfl⟩) hS (fun _ _ h => h) (fun _ h => h) (fun g5 tZ H locs ht hvm hwg5 hB hzZ hkZ hS => ?_)
        obtain ⟨hP, -⟩ := hB
        rw [ht] at hP
        obtain ⟨f0c, h0c, fg5_n0, hcg5⟩ := hwg5
        have fg5_k0 : g5 (8) = .inr (1, [.ref (ad (9)), .ref (ad (10)), .ref (ad (11)), .ref (ad (12)), .ref (ad (na)), .ref (ad (nb)), .int (nI (S))]) := (hcg5 (8) (by omega)).trans fo8
        have fg5_k1 : g5 (9) = .inl (cI, 164, .inl (f9)) := (hcg5 (9) (by omega)).trans fa9
        have fg5_k2 : g5 (12) = .inl (cZ, 41, .inl (f12)) := (hcg5 (12) (by omega)).trans fa12
        have fg5_k3 : g5 (1) = .inr (0, [.ref (ad (2)), .int (nI (q)), .int (nI (Wt))]) := (hcg5 (1) (by omega)).trans fo_1
        have fg5_k4 : g5 (2) = .inl (cI, 4, .inl (f2)) := (hcg5 (2) (by omega)).trans fa_2
        have fg5_k5 : g5 (nb) = .inl (cJ, 186, .inr (.inl (fb))) := (hcg5 (nb) (by omega)).trans fab
        refine lv_aload_n hx hb dX1_weigh_42 rfl (lv_at hl 0 rfl) ?_
        refine xw_get hx hb hts hin1 hown hK hP (by decide) fg5_k0 rfl 4 (by decide) hf25 rfl rfl dX1_weigh_43 ?_
        refine lv_iconst (v := nI (0)) hx hb dX1_weigh_46 (by decide) ?_
        refine lv_lconst (v := lZ (1)) hx hb dX1_weigh_47 (by decide) ?_
        refine xw_last hx hb hK hP hD hS (by omega) 1 fg5_n0 rfl (by decide) (by decide) dX1_weigh_48 (fun g7 H locs eg7 hP hS => ?_)
        have fg7_0 : g7 (8) = .inr (1, [.ref (ad (9)), .ref (ad (10)), .ref (ad (11)), .ref (ad (12)), .ref (ad (na)), .ref (ad (nb)), .int (nI (S))]) := (congrFun eg7 (8)).trans ((va_up_ne _ _ (by omega)).trans fg5_k0)
        have fg7_1 : g7 (9) = .inl (cI, 164, .inl (f9)) := (congrFun eg7 (9)).trans ((va_up_ne _ _ (by omega)).trans fg5_k1)
        have fg7_2 : g7 (12) = .inl (cZ, 41, .inl (f12)) := (congrFun eg7 (12)).trans ((va_up_ne _ _ (by omega)).trans fg5_k2)
        have fg7_3 : g7 (1) = .inr (0, [.ref (ad (2)), .int (nI (q)), .int (nI (Wt))]) := (congrFun eg7 (1)).trans ((va_up_ne _ _ (by omega)).trans fg5_k3)
        have fg7_4 : g7 (2) = .inl (cI, 4, .inl (f2)) := (congrFun eg7 (2)).trans ((va_up_ne _ _ (by omega)).trans fg5_k4)
        have fg7_5 : g7 (nb) = .inl (cJ, 186, .inr (.inl (fb))) := (congrFun eg7 (nb)).trans ((va_up_ne _ _ (by omega)).trans fg5_k5)
        have fg7_w : g7 (na) = .inl (cJ, 186, .inr (.inl (vp_updL (f0c) (0) (lZ (1))))) := (congrFun eg7 (na)).trans (va_up_self _ _ _)
        refine lv_iconst (v := nI (0)) hx hb dX1_weigh_49 (by decide) ?_
        refine lv_istore (lv' := [(5, .int (nI (0))), (0, .ref (ad (8))), (1, .ref (ad (1))), (2, .int (nI (n0))), (3, .int (nI (a0))), (4, .int (nI (M1)))]) hx hb dX1_weigh_50 hl (by decide) rfl (fun ls hl => ?_)
        refine xloopW (G := fun H locs fr => W p l e _ s m _ below meth c H locs _ _ _ fr) (σ := Nat × Nat × Nat × (Nat → Int64) × (Nat → Int64)) (fun (r0, ca, cb, fx, fy) ls => F0 m 52 ls []) (fun (r0, ca, cb, fx, fy) gl52_8 H locs ls => (r0 ≤ n0) ∧ ((ca = 13 ∧ cb = 14) ∨ (ca = 14 ∧ cb = 13)) ∧ (∀ j, j < 186 → fx j = lZ (wgh q w nx hv S M1 r0 j)) ∧ (∀ j : Nat, j ≠ 8 → j ≠ 13 → j ≠ 14 → gl52_8 j = g j) ∧ gl52_8 (9) = .inl (cI, 164, .inl (f9)) ∧ gl52_8 (12) = .inl (cZ, 41, .inl (f12)) ∧ gl52_8 (1) = .inr (0, [.ref (ad (2)), .int (nI (q)), .int (nI (Wt))]) ∧ gl52_8 (2) = .inl (cI, 4, .inl (f2)) ∧ gl52_8 (8) = .inr (1, [.ref (ad (9)), .ref (ad (10)), .ref (ad (11)), .ref (ad (12)), .ref (ad (ca)), .ref (ad (cb)), .int (nI (S))]) ∧ gl52_8 (ca) = .inl (cJ, 186, .inr (.inl (fx))) ∧ gl52_8 (cb) = .inl (cJ, 186, .inr (.inl (fy))) ∧ va_P D vwCl (xw 81 ad gl52_8) H ∧ va_S A s.heap H locs ∧ lv_has ls 8 [(0, .ref (ad (8))), (1, .ref (ad (1))), (2, .int (nI (n0))), (3, .int (nI (a0))), (4, .int (nI (M1))), (5, .int (nI (r0)))]) (fun (r0, ca, cb, fx, fy) => n0 - r0) ?_ (0, na, nb, vp_updL (f0c) (0) (lZ (1)), fb) g7 H locs ls ⟨(by omega), hab, (fun j hj => by by_cases e : j = 0; subst e; rw [pk_uLs]; rfl; rw [pk_uLn e, h0c j hj]; show lZ 0 = lZ (if j = 0 then 1 else 0); rw [if_neg e]), (fun j h8 h13 h14 => (congrFun eg7 j).trans ((va_up_ne _ _ (by omega)).trans (hcg5 j (by omega)))), fg7_1, fg7_2, fg7_3, fg7_4, fg7_0, fg7_w, fg7_5, hP, hS, (lv_sub hl [1, 2, 3, 4, 5, 0] rfl)⟩
        rintro ⟨r0, ca, cb, fx, fy⟩ gl52_8 H locs ls ⟨hr0, hcab, hfx, hF, fa9, fa12, fo_1, fa_2, fo8, faa, fab, hP, hS, hl⟩ ih52
        refine lv_iload hx hb dX1_weigh_52 (lv_at hl 5 rfl) ?_
        refine lv_iload_n hx hb dX1_weigh_54 rfl (lv_at hl 2 rfl) ?_
        refine xi_icmp_ge (tgt := 78) hx hb (by omega) (by omega) dX1_weigh_55 (by decide) (fun c55_9 => ?_) (fun c55_9 => ?_)
        · have hre : r0 = n0 := by omega
          subst hre
          have hMS : (M1 + 1) * S ≤ 186 := by rw [Nat.mul_comm]; exact hSM
          refine lv_lconst (v := lZ (0)) hx hb dX1_weigh_78 (by decide) ?_
          refine lv_lstore (lv' := [(5, .long (lZ (0))), (0, .ref (ad (8))), (1, .ref (ad (1))), (2, .int (nI (r0))), (3, .int (nI (a0))), (4, .int (nI (M1)))]) hx hb dX1_weigh_79 hl (by decide) rfl (fun ls hl => ?_)
          refine lv_iload_n hx hb dX1_weigh_81 rfl (lv_at hl 4 rfl) ?_
          refine lv_aload_n hx hb dX1_weigh_82 rfl (lv_at hl 1 rfl) ?_
          refine xw_get hx hb hts hin1 hown hK hP (by decide) fo8 rfl 6 (by decide) hf32 rfl rfl dX1_weigh_83 ?_
          refine xi_mul hx hb dX1_weigh_86 ?_
          refine lv_istore (lv' := [(7, .int (nI (a0 * S))), (5, .long (lZ (0))), (0, .ref (ad (8))), (1, .ref (ad (1))), (2, .int (nI (r0))), (3, .int (nI (a0))), (4, .int (nI (M1)))]) hx hb dX1_weigh_87 hl (by decide) rfl (fun ls hl => ?_)
          refine xloop (G := fun fr => W p l e _ s m _ below meth c _ _ _ _ _ fr) (σ := Nat) (fun c0 ls => F0 m 89 ls []) (fun c0 ls => (a0 * S + c0 ≤ (M1 + 1) * S) ∧ lv_has ls 8 [(0, .ref (ad (8))), (4, .int (nI (M1))), (5, .long (lZ (sgm (wgh q w nx hv S M1 r0) (a0 * S) c0))), (7, .int (nI (a0 * S + c0)))]) (fun c0 => (M1 + 1) * S - a0 * S - c0) ?_ (0) ls ⟨(by rw [Nat.add_zero]; exact Nat.mul_le_mul_right S (by omega)), (by rw [Nat.add_zero]; exact (lv_sub hl [2, 6, 1, 0] rfl))⟩
          rintro c0 ls ⟨hc0, hl⟩ ih89
          refine lv_iload hx hb dX1_weigh_89 (lv_at hl 3 rfl) ?_
          refine lv_iload hx hb dX1_weigh_91 (lv_at hl 1 rfl) ?_
          refine lv_iconst (v := nI (1)) hx hb dX1_weigh_93 (by decide) ?_
          refine xi_add hx hb dX1_weigh_94 ?_
          refine lv_aload_n hx hb dX1_weigh_95 rfl (lv_at hl 0 rfl) ?_
          refine xw_get hx hb hts hin1 hown hK hP (by decide) fo8 rfl 6 (by decide) hf32 rfl rfl dX1_weigh_96 ?_
          refine xi_mul hx hb dX1_weigh_99 ?_
          refine xi_icmp_ge (tgt := 121) hx hb (by omega) (by omega) dX1_weigh_100 (by decide) (fun c100_10 => ?_) (fun c100_10 => ?_)
          · refine lv_lload hx hb dX1_weigh_121 (lv_at hl 2 rfl) ?_
            exact W.lret (v := lZ (sgm (wgh q w nx hv S M1 r0) (a0 * S) c0)) hx hb hr (fun tZ ht hW => ⟨⟨_, gl52_8, rfl, ⟨by rw [show (M1 + 1) * S - a0 * S = c0 by omega], ⟨ca, cb, fx, fy, hcab, fo8, faa, fab⟩, hF⟩, by rw [ht]; exact hP, va_K.moved hW.alike hK, va_Nw.warmM hW hN⟩, hS.F ht⟩) hS.2.2 dX1_weigh_123
          · refine lv_lload hx hb dX1_weigh_103 (lv_at hl 2 rfl) ?_
            refine lv_aload_n hx hb dX1_weigh_105 rfl (lv_at hl 0 rfl) ?_
            refine xw_get hx hb hts hin1 hown hK hP (by decide) fo8 rfl 4 (by decide) hf25 rfl rfl dX1_weigh_106 ?_
            refine lv_iload hx hb dX1_weigh_109 (lv_at hl 3 rfl) ?_
            refine xw_lald hx hb hK hP (by omega) 1 faa rfl (by omega) (by decide) dX1_weigh_111 ?_
            rw [hfx (a0 * S + c0) (by omega)]
            refine xl_add hx hb dX1_weigh_112 ?_
            refine xtopl (y := lZ (sgm (wgh q w nx hv S M1 r0) (a0 * S) (c0 + 1))) rfl ?_
            refine lv_lstore (lv' := [(5, .long (lZ (sgm (wgh q w nx hv S M1 r0) (a0 * S) (c0 + 1)))), (0, .ref (ad (8))), (4, .int (nI (M1))), (7, .int (nI (a0 * S + c0)))]) hx hb dX1_weigh_113 hl (by decide) rfl (fun ls hl => ?_)
            refine lv_iinc (v := nI (a0 * S + c0 + 1)) (lv' := [(7, .int (nI (a0 * S + c0 + 1))), (5, .long (lZ (sgm (wgh q w nx hv S M1 r0) (a0 * S) (c0 + 1)))), (0, .ref (ad (8))), (4, .int (nI (M1)))]) hx hb dX1_weigh_115 hl (k := 3) rfl (nI_add (a0 * S + c0) 1) (by decide) rfl (fun ls hl => ?_)
            refine lv_goto (tgt := 89) hx hb dX1_weigh_118 (by decide) ?_
            exact ih89 (c0 + 1) ls ⟨(by omega), (lv_sub hl [2, 3, 1, 0] rfl)⟩ (by first | omega | (dsimp only; omega))
        · refine lv_aload_n hx hb dX1_weigh_58 rfl (lv_at hl 0 rfl) ?_
          refine lv_aload_n hx hb dX1_weigh_59 rfl (lv_at hl 1 rfl) ?_
          refine lv_iload hx hb dX1_weigh_60 (lv_at hl 5 rfl) ?_
          refine lv_iload hx hb dX1_weigh_62 (lv_at hl 4 rfl) ?_
          refine va_mmin hx hb (hml.trans hl.1.symm) hown (hts (.methodLink RX1 57 Lib.Math.min.name) (by decide +kernel)) (hts (.static Lib.Math.min.name) (by decide +kernel)) (hts (.initialized "java/lang/Math") (by decide +kernel)) (hts (.code Lib.Math.min.name Lib.Math.min.code 2 (some .int)) (by decide +kernel)) (Nat.le_of_ble_eq_true rfl) (Nat.le_of_ble_eq_true rfl) (Nat.zero_le _) (Nat.zero_le _) dX1_weigh_64 ?_
          refine xtopi (y := nI (min (r0) (M1))) (nI_min (by omega) (by omega)) ?_
          refine lv_iload hx hb dX1_weigh_67 (lv_at hl 4 rfl) ?_
          refine va_callv (va_runV (As := [.ref (ad (1)), .int (nI (min r0 M1)), .int (nI (M1))]) (rest := []) ⟨hx, hb, hml, hown, hts⟩ (mX1_readLetter l hD (m0 := min r0 M1) fo8 fa9 fa12 fo_1 fa_2 faa fab hq4 h2 hw hcab hS41 hnx h9 hht h12 hM1 (by omega) hSM hfx) (cwV 3 hts gX1_weigh_X1_readLetter rfl rfl rfl (by decide +kernel) ⟨Nat.le_of_ble_eq_true rfl, Nat.le_of_ble_eq_true rfl⟩) ⟨xB_blind, va_recv hK hP (ci := 1) rfl (xw_is (by decide) fo8), fun U hU hW => ⟨rfl, by rw [hU]; exact hP, va_K.moved hW.alike hK, va_Nw.warmM hW hN⟩⟩ rfl rfl hl.1 rfl (lv_room (Nat.le_of_ble_eq_true rfl)) dX1_weigh_69 ⟨Nat.le_of_ble_eq_true rfl, Nat.le_of_ble_eq_true rfl⟩) hS (fun _ _ h => h) (fun _ h => h) (fun g11 tZ H locs ht hvm hwg11 hB hzZ hkZ hS => ?_)
          obtain ⟨hP, -⟩ := hB
          rw [ht] at hP
          obtain ⟨fz, hfz, fg11_n0, fg11_n1, hcg11⟩ := hwg11
          have fg11_k0 : g11 (9) = .inl (cI, 164, .inl (f9)) := (hcg11 (9) (by decide) (by omega)).trans fa9
          have fg11_k1 : g11 (12) = .inl (cZ, 41, .inl (f12)) := (hcg11 (12) (by decide) (by omega)).trans fa12
          have fg11_k2 : g11 (1) = .inr (0, [.ref (ad (2)), .int (nI (q)), .int (nI (Wt))]) := (hcg11 (1) (by decide) (by omega)).trans fo_1
          have fg11_k3 : g11 (2) = .inl (cI, 4, .inl (f2)) := (hcg11 (2) (by decide) (by omega)).trans fa_2
          have fg11_k4 : g11 (ca) = .inl (cJ, 186, .inr (.inl (fx))) := (hcg11 (ca) (by omega) (by omega)).trans faa
          refine lv_iinc (v := nI (r0 + 1)) (lv' := [(5, .int (nI (r0 + 1))), (0, .ref (ad (8))), (1, .ref (ad (1))), (2, .int (nI (n0))), (3, .int (nI (a0))), (4, .int (nI (M1)))]) hx hb dX1_weigh_72 hl (k := 5) rfl (nI_add (r0) 1) (by decide) rfl (fun ls hl => ?_)
          refine lv_goto (tgt := 52) hx hb dX1_weigh_75 (by decide) ?_
          exact ih52 (r0 + 1, cb, ca, fz, fx) g11 H locs ls ⟨(by omega), (by omega), hfz, (fun j h8 h13 h14 => (hcg11 j (by omega) (by omega)).trans (hF j h8 h13 h14)), fg11_k0, fg11_k1, fg11_k2, fg11_k3, fg11_n0, fg11_n1, fg11_k4, hP, hS, (lv_sub hl [1, 2, 3, 4, 5, 0] rfl)⟩ (by first | omega | (dsimp only; omega))
      · exact absurd c29_4 (by omega)
