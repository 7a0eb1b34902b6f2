section XR
variable {p : Program} {l : Launch} {e : Env} {R : Room} {s : State} {m : MethodId} {args : Array Value} {below : List Frame} {meth : Method} {c : Code} {H : Heap} {locs : List Loc} {cells slots : Nat} {Q : State → Prop} {cc : ByteArray} {pc : Nat} {ls : Array Slot} {rest : List Value}
theorem xr_cmp_eq (hexec : p.tables.exec = Jvm.exec) (hb : c.code = cc) {x y : Int64} {off : Int} {tgt : Nat} (hdg : decode cc pc = .ok (.lcmp, 1)) (hd2 : decode cc (pc + 1) = .ok (.ifCond .eq off, 3)) (ht : ((pc + 1 : Nat) : Int) + off = (tgt : Int)) (kt : x = y → W p l e R s m args below meth c H locs cells slots Q (F0 m tgt ls rest)) (kf : ¬ x = y → W p l e R s m args below meth c H locs cells slots Q (F0 m (pc + 1 + 3) ls rest)) : W p l e R s m args below meth c H locs cells slots Q (F0 m pc ls (.long y :: .long x :: rest)) := by
  refine W.lcmp hexec hb hdg ?_
  rcases lg_cmp3 x y with ⟨h1, h2⟩ | ⟨h1, h2⟩ | ⟨h1, h2⟩
  · rw [h2]; exact lv_if_eq hexec hb hd2 ht (fun c0 => absurd c0 (by decide)) (fun _ => kf (fun h => by rw [h] at h1; exact absurd h1 (by rw [Int64.lt_iff_toInt_lt]; omega)))
  · rw [h2]; exact lv_if_eq hexec hb hd2 ht (fun _ => kt h1) (fun c0 => absurd rfl c0)
  · rw [h2]; exact lv_if_eq hexec hb hd2 ht (fun c0 => absurd c0 (by decide)) (fun _ => kf (fun h => by rw [h] at h1; exact absurd h1 (by rw [Int64.lt_iff_toInt_lt]; omega)))
end XR
/-- after i letters of a word: next, how many states, the state -/
def lrn (u : Nat → Nat) (nx : Nat → Nat) (S : Nat) : Nat → (Nat → Nat) × Nat × Nat
  | 0 => (nx, S, 0)
  | i + 1 => if (lrn u nx S i).1 ((lrn u nx S i).2.2 * 4 + u i) = 0 then (va_up (lrn u nx S i).1 ((lrn u nx S i).2.2 * 4 + u i) (lrn u nx S i).2.1, (lrn u nx S i).2.1 + 1, (lrn u nx S i).2.1) else ((lrn u nx S i).1, (lrn u nx S i).2.1, (lrn u nx S i).1 ((lrn u nx S i).2.2 * 4 + u i))
theorem lrn_n {u nx : Nat → Nat} {S i : Nat} (h : (lrn u nx S i).1 ((lrn u nx S i).2.2 * 4 + u i) = 0) : lrn u nx S (i + 1) = (va_up (lrn u nx S i).1 ((lrn u nx S i).2.2 * 4 + u i) (lrn u nx S i).2.1, (lrn u nx S i).2.1 + 1, (lrn u nx S i).2.1) := by
  show (if _ then _ else _) = _
  rw [if_pos h]
theorem lrn_o {u nx : Nat → Nat} {S i : Nat} (h : ¬ (lrn u nx S i).1 ((lrn u nx S i).2.2 * 4 + u i) = 0) : lrn u nx S (i + 1) = ((lrn u nx S i).1, (lrn u nx S i).2.1, (lrn u nx S i).1 ((lrn u nx S i).2.2 * 4 + u i)) := by
  show (if _ then _ else _) = _
  rw [if_neg h]
theorem lrn_B {u nx : Nat → Nat} {S : Nat} (h1 : 1 ≤ S) (h2 : ∀ e, nx e < S) : ∀ i, S ≤ (lrn u nx S i).2.1 ∧ (lrn u nx S i).2.1 ≤ S + i ∧ (lrn u nx S i).2.2 < (lrn u nx S i).2.1 ∧ ∀ e, (lrn u nx S i).1 e < (lrn u nx S i).2.1
  | 0 => ⟨Nat.le_refl _, Nat.le_refl _, h1, h2⟩
  | i + 1 => by
    obtain ⟨a, b, c, d⟩ := lrn_B h1 h2 (u := u) i
    by_cases h : (lrn u nx S i).1 ((lrn u nx S i).2.2 * 4 + u i) = 0
    · rw [lrn_n h]
      refine ⟨by show S ≤ _ + 1; omega, by show _ + 1 ≤ _; omega, by show (lrn u nx S i).2.1 < (lrn u nx S i).2.1 + 1; omega, fun e => ?_⟩
      show va_up _ _ _ e < _ + 1
      by_cases he : e = (lrn u nx S i).2.2 * 4 + u i
      · rw [he, va_up_self]; omega
      · rw [va_up_ne _ _ he]; have := d e; omega
    · rw [lrn_o h]
      exact ⟨a, by show (lrn u nx S i).2.1 ≤ _; omega, d _, d⟩
theorem upd_nI {f : Nat → Int32} {g : Nat → Nat} {n k v : Nat} (h : ∀ j, j < n → f j = nI (g j)) : ∀ j, j < n → upd f k (nI v) j = nI (va_up g k v j) := fun j hj => by
  by_cases e : j = k
  · subst e; rw [pk_us, va_up_self]
  · rw [pk_un e, va_up_ne _ _ e]; exact h j hj
set_option maxHeartbeats 4000000 in
set_option maxRecDepth 100000 in
/-- Arrays.fill -/
theorem mJ7_fillI (l : Launch) {D : va_G} {cI cJ cZ cW : ClassId} {ad : Nat → Nat} {A : Nat → Prop} (hD : ∀ g, va_D A (xw 81 ad g)) {g : Nat → va_E} {cq nq : Nat} {xv : Int32} {fq : Nat → Int32}  (fac : g (cq) = .inl (cI, nq, .inl (fq))) (hcq : cq < 81) (hnq : nq < 2 ^ 31) : Met l yJ7_fill_53178 wsJ7_fill_53178 ({ frames := 0, cells := 0, slots := 0, locals := 0 }) (va_Pc [.ref (ad (cq)), .int (xv)] (xB D (xT cI cJ cZ cW) ad g)) (va_Qv (fun g2 => ∃ fz : Nat → Int32, (∀ j, j < nq → fz j = xv) ∧ g2 (cq) = .inl (cI, nq, .inl (fz)) ∧ ∀ j : Nat, j ≠ cq → g2 j = g j) (xB D (xT cI cJ cZ cW) ad) A) 0 0 A := by
  refine Met.ofW (cc := cJ7_fill_53178) (maxL := 4) (ret := none) (by decide) rfl ?_
  intro p e s m args below meth c s₁ B hml hv
  obtain ⟨rfl, hP, hK, hN⟩ := hv
  have hx := B.exec
  have hb := B.bytes
  have hr := B.returns
  have hts := atoms_spec (ws := wsJ7_fill_53178) B.pre
  have hown : s.vm.findClass RJ7 = some m.cls := findClass_of_methodNamed B.named
  have hlocks := B.notSynchronized
  have hS : va_S A s.heap s.heap [] := va_S.rf
  have hl := lv_entry ([.ref (ad (cq)), .int (xv)]) (n := 4) (Nat.le_of_ble_eq_true rfl)
  rw [lg_entry_eq]
  generalize (lg_sl ([.ref (ad (cq)), .int (xv)]) ++ List.replicate (4 - (lg_sl ([.ref (ad (cq)), .int (xv)])).length) Slot.unset).toArray = ls at hl ⊢
  have hl : lv_has ls 4 [(0, .ref (ad (cq))), (1, .int (xv))] := hl
  refine lv_iconst (v := nI (0)) hx hb dJ7_fill_53178_0 (by decide) ?_
  refine lv_istore_n (lv' := [(2, .int (nI (0))), (0, .ref (ad (cq))), (1, .int (xv))]) hx hb dJ7_fill_53178_1 rfl hl (by decide) rfl (fun ls hl => ?_)
  refine lv_aload_n hx hb dJ7_fill_53178_2 rfl (lv_at hl 1 rfl) ?_
  refine xw_alen hx hb hK hP (by omega) 0 fac rfl dJ7_fill_53178_3 ?_
  refine lv_istore_n (lv' := [(3, .int (nI (nq))), (2, .int (nI (0))), (0, .ref (ad (cq))), (1, .int (xv))]) hx hb dJ7_fill_53178_4 rfl hl (by decide) rfl (fun ls hl => ?_)
  refine xloopW (G := fun H locs fr => W p l e _ s m _ below meth c H locs _ _ _ fr) (σ := Nat × (Nat → Int32)) (fun (i, fz) ls => F0 m 5 ls []) (fun (i, fz) gl5_1 H locs ls => (i ≤ nq) ∧ (∀ j, j < i → fz j = xv) ∧ gl5_1 (cq) = .inl (cI, nq, .inl (fz)) ∧ (∀ j : Nat, j ≠ cq → gl5_1 j = g j) ∧ va_P D vwCl (xw 81 ad gl5_1) H ∧ va_S A s.heap H locs ∧ lv_has ls 4 [(0, .ref (ad (cq))), (1, .int (xv)), (2, .int (nI (i))), (3, .int (nI (nq)))]) (fun (i, fz) => nq - i) ?_ (0, fq) g s.heap [] ls ⟨(by omega), (fun j hj => absurd hj (by omega)), fac, (fun _ _ => rfl), hP, hS, (lv_sub hl [2, 3, 1, 0] rfl)⟩
  rintro ⟨i, fz⟩ gl5_1 H locs ls ⟨hi, hfz, fac, hfrgl5_1, hP, hS, hl⟩ ih5
  refine lv_iload_n hx hb dJ7_fill_53178_5 rfl (lv_at hl 2 rfl) ?_
  refine lv_iload_n hx hb dJ7_fill_53178_6 rfl (lv_at hl 3 rfl) ?_
  refine xi_icmp_ge (tgt := 20) hx hb (by omega) (by omega) dJ7_fill_53178_7 (by decide) (fun c7_2 => ?_) (fun c7_2 => ?_)
  · exact W.vret hx hb hr (fun tZ ht hW => ⟨⟨gl5_1, rfl, ⟨fz, (fun j hj => hfz j (by omega)), fac, hfrgl5_1⟩, by rw [ht]; exact hP, va_K.moved hW.alike hK, va_Nw.warmM hW hN⟩, hS.F ht⟩) hS.2.2 dJ7_fill_53178_20
  · refine lv_aload_n hx hb dJ7_fill_53178_10 rfl (lv_at hl 0 rfl) ?_
    refine lv_iload_n hx hb dJ7_fill_53178_11 rfl (lv_at hl 2 rfl) ?_
    refine lv_iload_n hx hb dJ7_fill_53178_12 rfl (lv_at hl 1 rfl) ?_
    refine xw_iast hx hb hK hP hD hS (by omega) 0 fac rfl (by omega) (by omega) dJ7_fill_53178_13 (fun g3 H locs eg3 hP hS => ?_)
    have fg3_w : g3 (cq) = .inl (cI, nq, .inl (upd (fz) (i) (xv))) := (congrFun eg3 (cq)).trans (va_up_self _ _ _)
    have hfrg3 : ∀ j : Nat, j ≠ cq → g3 j = g j := fun j h0 => (congrFun eg3 j).trans ((va_up_ne _ _ h0).trans (hfrgl5_1 j h0))
    refine lv_iinc (v := nI (i + 1)) (lv' := [(2, .int (nI (i + 1))), (0, .ref (ad (cq))), (1, .int (xv)), (3, .int (nI (nq)))]) hx hb dJ7_fill_53178_14 hl (k := 2) rfl (nI_add (i) 1) (by decide) rfl (fun ls hl => ?_)
    refine lv_goto (tgt := 5) hx hb dJ7_fill_53178_17 (by decide) ?_
    exact ih5 (i + 1, upd (fz) (i) (xv)) g3 H locs ls ⟨(by omega), (fun j hj => by by_cases e : j = i; subst e; rw [pk_us]; rw [pk_un e]; exact hfz j (by omega)), fg3_w, hfrg3, hP, hS, (lv_sub hl [1, 2, 0, 3] rfl)⟩ (by first | omega | (dsimp only; omega))

set_option maxHeartbeats 4000000 in
set_option maxRecDepth 100000 in
/-- Arrays.fill -/
theorem mJ7_fillJ (l : Launch) {D : va_G} {cI cJ cZ cW : ClassId} {ad : Nat → Nat} {A : Nat → Prop} (hD : ∀ g, va_D A (xw 81 ad g)) {g : Nat → va_E} {cq nq : Nat} {xv : Int64} {fq : Nat → Int64}  (fac : g (cq) = .inl (cJ, nq, .inr (.inl (fq)))) (hcq : cq < 81) (hnq : nq < 2 ^ 31) : Met l yJ7_fill_d0a16 wsJ7_fill_d0a16 ({ frames := 0, cells := 0, slots := 0, locals := 0 }) (va_Pc [.ref (ad (cq)), .long (xv)] (xB D (xT cI cJ cZ cW) ad g)) (va_Qv (fun g2 => ∃ fz : Nat → Int64, (∀ j, j < nq → fz j = xv) ∧ g2 (cq) = .inl (cJ, nq, .inr (.inl (fz))) ∧ ∀ j : Nat, j ≠ cq → g2 j = g j) (xB D (xT cI cJ cZ cW) ad) A) 0 0 A := by
  refine Met.ofW (cc := cJ7_fill_d0a16) (maxL := 5) (ret := none) (by decide) rfl ?_
  intro p e s m args below meth c s₁ B hml hv
  obtain ⟨rfl, hP, hK, hN⟩ := hv
  have hx := B.exec
  have hb := B.bytes
  have hr := B.returns
  have hts := atoms_spec (ws := wsJ7_fill_d0a16) B.pre
  have hown : s.vm.findClass RJ7 = some m.cls := findClass_of_methodNamed B.named
  have hlocks := B.notSynchronized
  have hS : va_S A s.heap s.heap [] := va_S.rf
  have hl := lv_entry ([.ref (ad (cq)), .long (xv)]) (n := 5) (Nat.le_of_ble_eq_true rfl)
  rw [lg_entry_eq]
  generalize (lg_sl ([.ref (ad (cq)), .long (xv)]) ++ List.replicate (5 - (lg_sl ([.ref (ad (cq)), .long (xv)])).length) Slot.unset).toArray = ls at hl ⊢
  have hl : lv_has ls 5 [(0, .ref (ad (cq))), (1, .long (xv))] := hl
  refine lv_iconst (v := nI (0)) hx hb dJ7_fill_d0a16_0 (by decide) ?_
  refine lv_istore_n (lv' := [(3, .int (nI (0))), (0, .ref (ad (cq))), (1, .long (xv))]) hx hb dJ7_fill_d0a16_1 rfl hl (by decide) rfl (fun ls hl => ?_)
  refine lv_aload_n hx hb dJ7_fill_d0a16_2 rfl (lv_at hl 1 rfl) ?_
  refine xw_alen hx hb hK hP (by omega) 1 fac rfl dJ7_fill_d0a16_3 ?_
  refine lv_istore (lv' := [(4, .int (nI (nq))), (3, .int (nI (0))), (0, .ref (ad (cq))), (1, .long (xv))]) hx hb dJ7_fill_d0a16_4 hl (by decide) rfl (fun ls hl => ?_)
  refine xloopW (G := fun H locs fr => W p l e _ s m _ below meth c H locs _ _ _ fr) (σ := Nat × (Nat → Int64)) (fun (i, fz) ls => F0 m 6 ls []) (fun (i, fz) gl6_1 H locs ls => (i ≤ nq) ∧ (∀ j, j < i → fz j = xv) ∧ gl6_1 (cq) = .inl (cJ, nq, .inr (.inl (fz))) ∧ (∀ j : Nat, j ≠ cq → gl6_1 j = g j) ∧ va_P D vwCl (xw 81 ad gl6_1) H ∧ va_S A s.heap H locs ∧ lv_has ls 5 [(0, .ref (ad (cq))), (1, .long (xv)), (3, .int (nI (i))), (4, .int (nI (nq)))]) (fun (i, fz) => nq - i) ?_ (0, fq) g s.heap [] ls ⟨(by omega), (fun j hj => absurd hj (by omega)), fac, (fun _ _ => rfl), hP, hS, (lv_sub hl [2, 3, 1, 0] rfl)⟩
  rintro ⟨i, fz⟩ gl6_1 H locs ls ⟨hi, hfz, fac, hfrgl6_1, hP, hS, hl⟩ ih6
  refine lv_iload_n hx hb dJ7_fill_d0a16_6 rfl (lv_at hl 2 rfl) ?_
  refine lv_iload hx hb dJ7_fill_d0a16_7 (lv_at hl 3 rfl) ?_
  refine xi_icmp_ge (tgt := 22) hx hb (by omega) (by omega) dJ7_fill_d0a16_9 (by decide) (fun c9_2 => ?_) (fun c9_2 => ?_)
  · exact W.vret hx hb hr (fun tZ ht hW => ⟨⟨gl6_1, rfl, ⟨fz, (fun j hj => hfz j (by omega)), fac, hfrgl6_1⟩, by rw [ht]; exact hP, va_K.moved hW.alike hK, va_Nw.warmM hW hN⟩, hS.F ht⟩) hS.2.2 dJ7_fill_d0a16_22
  · refine lv_aload_n hx hb dJ7_fill_d0a16_12 rfl (lv_at hl 0 rfl) ?_
    refine lv_iload_n hx hb dJ7_fill_d0a16_13 rfl (lv_at hl 2 rfl) ?_
    refine lv_lload_n hx hb dJ7_fill_d0a16_14 rfl (lv_at hl 1 rfl) ?_
    refine xw_last hx hb hK hP hD hS (by omega) 1 fac rfl (by omega) (by omega) dJ7_fill_d0a16_15 (fun g3 H locs eg3 hP hS => ?_)
    have fg3_w : g3 (cq) = .inl (cJ, nq, .inr (.inl (vp_updL (fz) (i) (xv)))) := (congrFun eg3 (cq)).trans (va_up_self _ _ _)
    have hfrg3 : ∀ j : Nat, j ≠ cq → g3 j = g j := fun j h0 => (congrFun eg3 j).trans ((va_up_ne _ _ h0).trans (hfrgl6_1 j h0))
    refine lv_iinc (v := nI (i + 1)) (lv' := [(3, .int (nI (i + 1))), (0, .ref (ad (cq))), (1, .long (xv)), (4, .int (nI (nq)))]) hx hb dJ7_fill_d0a16_16 hl (k := 2) rfl (nI_add (i) 1) (by decide) rfl (fun ls hl => ?_)
    refine lv_goto (tgt := 6) hx hb dJ7_fill_d0a16_19 (by decide) ?_
    exact ih6 (i + 1, vp_updL (fz) (i) (xv)) g3 H locs ls ⟨(by omega), (fun j hj => by by_cases e : j = i; subst e; rw [pk_uLs]; rw [pk_uLn e]; exact hfz j (by omega)), fg3_w, hfrg3, hP, hS, (lv_sub hl [1, 2, 0, 3] rfl)⟩ (by first | omega | (dsimp only; omega))

set_option maxHeartbeats 4000000 in
set_option maxRecDepth 100000 in
/-- Machine.clear -/
theorem mX1_clear (l : Launch) {D : va_G} {cI cJ cZ cW : ClassId} {ad : Nat → Nat} {A : Nat → Prop} (hD : ∀ g, va_D A (xw 81 ad g)) {g : Nat → va_E} {na nb : Nat} {stq : Int32} {f9 f10 f12 : Nat → Int32}  (fo8 : g (8) = .inr (1, [.ref (ad (9)), .ref (ad (10)), .ref (ad (11)), .ref (ad (12)), .ref (ad (na)), .ref (ad (nb)), .int (stq)])) (fa9 : g (9) = .inl (cI, 164, .inl (f9))) (fa10 : g (10) = .inl (cI, 41, .inl (f10))) (fa12 : g (12) = .inl (cZ, 41, .inl (f12)))  : Met l yX1_clear wsX1_clear ({ frames := 1, cells := 0, slots := 0, locals := 23 }) (va_Pc [.ref (ad (8))] (xB D (xT cI cJ cZ cW) ad g)) (va_Qv (fun g2 => ∃ f9c f10c fh : Nat → Int32, (∀ j, j < 164 → f9c j = nI 0) ∧ (∀ j, j < 41 → f10c j = nI 0) ∧ (∀ j, j < 41 → fh j = nI 0) ∧ g2 8 = .inr (1, [.ref (ad (9)), .ref (ad (10)), .ref (ad (11)), .ref (ad (12)), .ref (ad (na)), .ref (ad (nb)), .int (nI (1))]) ∧ g2 9 = .inl (cI, 164, .inl (f9c)) ∧ g2 10 = .inl (cI, 41, .inl (f10c)) ∧ g2 12 = .inl (cZ, 41, .inl (fh)) ∧ ∀ j : Nat, j ≠ 8 → j ≠ 9 → j ≠ 10 → j ≠ 12 → g2 j = g j) (xB D (xT cI cJ cZ cW) ad) A) 0 0 A := by
  refine Met.ofW (cc := cX1_clear) (maxL := 2) (ret := none) (by decide) rfl ?_
  intro p e s m args below meth c s₁ B hml hv
  obtain ⟨rfl, hP, hK, hN⟩ := hv
  have hx := B.exec
  have hb := B.bytes
  have hr := B.returns
  have hts := atoms_spec (ws := wsX1_clear) B.pre
  have hown : s.vm.findClass RX1 = some m.cls := findClass_of_methodNamed B.named
  have hlocks := B.notSynchronized
  have hS : va_S A s.heap s.heap [] := va_S.rf
  have hin1 : ∀ w ∈ wsX10, w ∈ wsX1_clear := by decide +kernel
  have hf11 := hts (.fieldLink RX1 11 "LettersByLot$Machine" "next" "[I") (by decide +kernel)
  have hf15 := hts (.fieldLink RX1 15 "LettersByLot$Machine" "shorter" "[I") (by decide +kernel)
  have hf21 := hts (.fieldLink RX1 21 "LettersByLot$Machine" "hit" "[Z") (by decide +kernel)
  have hf32 := hts (.fieldLink RX1 32 "LettersByLot$Machine" "states" "I") (by decide +kernel)
  have hl := lv_entry ([.ref (ad (8))]) (n := 2) (Nat.le_of_ble_eq_true rfl)
  rw [lg_entry_eq]
  generalize (lg_sl ([.ref (ad (8))]) ++ List.replicate (2 - (lg_sl ([.ref (ad (8))])).length) Slot.unset).toArray = ls at hl ⊢
  have hl : lv_has ls 2 [(0, .ref (ad (8)))] := hl
  refine lv_aload_n hx hb dX1_clear_0 rfl (lv_at hl 0 rfl) ?_
  refine xw_get hx hb hts hin1 hown hK hP (by decide) fo8 rfl 0 (by decide) hf11 rfl rfl dX1_clear_1 ?_
  refine lv_iconst (v := nI (0)) hx hb dX1_clear_4 (by decide) ?_
  refine va_callv (va_runS (As := [.ref (ad (9)), .int (nI (0))]) (rest := []) ⟨hx, hb, hml, hown, hts⟩ (mJ7_fillI l hD (xv := nI 0) fa9 (by omega) (by decide)) (va_cwS 2 hts gX1_clear_J7_fill_53178 rfl rfl rfl (by decide +kernel) ⟨Nat.le_of_ble_eq_true rfl, Nat.le_of_ble_eq_true rfl⟩) ⟨xB_blind, fun U hU hW => ⟨rfl, by rw [hU]; exact hP, va_K.moved hW.alike hK, va_Nw.warmM hW hN⟩⟩ rfl rfl hl.1 rfl (lv_room (Nat.le_of_ble_eq_true rfl)) dX1_clear_5 ⟨Nat.le_of_ble_eq_true rfl, Nat.le_of_ble_eq_true rfl⟩) hS (fun _ _ h => h) (fun _ h => h) (fun g1 tZ H locs ht hvm hwg1 hB hzZ hkZ hS => ?_)
  obtain ⟨hP, -⟩ := hB
  rw [ht] at hP
  obtain ⟨f9c, h9c, fg1_n0, hcg1⟩ := hwg1
  have fg1_k0 : g1 (8) = .inr (1, [.ref (ad (9)), .ref (ad (10)), .ref (ad (11)), .ref (ad (12)), .ref (ad (na)), .ref (ad (nb)), .int (stq)]) := (hcg1 (8) (by decide)).trans fo8
  have fg1_k1 : g1 (10) = .inl (cI, 41, .inl (f10)) := (hcg1 (10) (by decide)).trans fa10
  have fg1_k2 : g1 (12) = .inl (cZ, 41, .inl (f12)) := (hcg1 (12) (by decide)).trans fa12
  have hfrg1 : ∀ j : Nat, j ≠ 8 → j ≠ 9 → j ≠ 10 → j ≠ 12 → g1 j = g j := fun j h0 h1 h2 h3 => (hcg1 j h1).trans ((fun _ _ _ _ _ => rfl) j h0 h1 h2 h3)
  refine lv_aload_n hx hb dX1_clear_8 rfl (lv_at hl 0 rfl) ?_
  refine xw_get hx hb hts hin1 hown hK hP (by decide) fg1_k0 rfl 1 (by decide) hf15 rfl rfl dX1_clear_9 ?_
  refine lv_iconst (v := nI (0)) hx hb dX1_clear_12 (by decide) ?_
  refine va_callv (va_runS (As := [.ref (ad (10)), .int (nI (0))]) (rest := []) ⟨hx, hb, hml, hown, hts⟩ (mJ7_fillI l hD (xv := nI 0) fg1_k1 (by omega) (by decide)) (va_cwS 2 hts gX1_clear_J7_fill_53178 rfl rfl rfl (by decide +kernel) ⟨Nat.le_of_ble_eq_true rfl, Nat.le_of_ble_eq_true rfl⟩) ⟨xB_blind, fun U hU hW => ⟨rfl, by rw [hU]; exact hP, va_K.moved hW.alike hK, va_Nw.warmM hW hN⟩⟩ rfl rfl hl.1 rfl (lv_room (Nat.le_of_ble_eq_true rfl)) dX1_clear_13 ⟨Nat.le_of_ble_eq_true rfl, Nat.le_of_ble_eq_true rfl⟩) hS (fun _ _ h => h) (fun _ h => h) (fun g3 tZ H locs ht hvm hwg3 hB hzZ hkZ hS => ?_)
  obtain ⟨hP, -⟩ := hB
  rw [ht] at hP
  obtain ⟨f10c, h10c, fg3_n0, hcg3⟩ := hwg3
  have fg3_k0 : g3 (9) = .inl (cI, 164, .inl (f9c)) := (hcg3 (9) (by decide)).trans fg1_n0
  have fg3_k1 : g3 (8) = .inr (1, [.ref (ad (9)), .ref (ad (10)), .ref (ad (11)), .ref (ad (12)), .ref (ad (na)), .ref (ad (nb)), .int (stq)]) := (hcg3 (8) (by decide)).trans fg1_k0
  have fg3_k2 : g3 (12) = .inl (cZ, 41, .inl (f12)) := (hcg3 (12) (by decide)).trans fg1_k2
  have hfrg3 : ∀ j : Nat, j ≠ 8 → j ≠ 9 → j ≠ 10 → j ≠ 12 → g3 j = g j := fun j h0 h1 h2 h3 => (hcg3 j h2).trans (hfrg1 j h0 h1 h2 h3)
  refine lv_iconst (v := nI (0)) hx hb dX1_clear_16 (by decide) ?_
  refine lv_istore_n (lv' := [(1, .int (nI (0))), (0, .ref (ad (8)))]) hx hb dX1_clear_17 rfl hl (by decide) rfl (fun ls hl => ?_)
  refine xloopW (G := fun H locs fr => W p l e _ s m _ below meth c H locs _ _ _ fr) (σ := Nat × (Nat → Int32)) (fun (i, fh) ls => F0 m 18 ls []) (fun (i, fh) gl18_5 H locs ls => (i ≤ 41) ∧ (∀ j, j < i → fh j = nI 0) ∧ gl18_5 (8) = .inr (1, [.ref (ad (9)), .ref (ad (10)), .ref (ad (11)), .ref (ad (12)), .ref (ad (na)), .ref (ad (nb)), .int (stq)]) ∧ gl18_5 (9) = .inl (cI, 164, .inl (f9c)) ∧ gl18_5 (10) = .inl (cI, 41, .inl (f10c)) ∧ gl18_5 (12) = .inl (cZ, 41, .inl (fh)) ∧ (∀ j : Nat, j ≠ 8 → j ≠ 9 → j ≠ 10 → j ≠ 12 → gl18_5 j = g j) ∧ va_P D vwCl (xw 81 ad gl18_5) H ∧ va_S A s.heap H locs ∧ lv_has ls 2 [(0, .ref (ad (8))), (1, .int (nI (i)))]) (fun (i, fh) => 41 - i) ?_ (0, f12) g3 H locs ls ⟨(by omega), (fun j hj => absurd hj (by omega)), fg3_k1, fg3_k0, fg3_n0, fg3_k2, hfrg3, hP, hS, (lv_sub hl [1, 0] rfl)⟩
  rintro ⟨i, fh⟩ gl18_5 H locs ls ⟨hi, hfh, fo8, fa9, fa10, fa12, hfrgl18_5, hP, hS, hl⟩ ih18
  refine lv_iload_n hx hb dX1_clear_18 rfl (lv_at hl 1 rfl) ?_
  refine lv_bipush (v := nI (41)) hx hb dX1_clear_19 (by decide) ?_
  refine xi_icmp_ge (tgt := 37) hx hb (by omega) (by decide) dX1_clear_21 (by decide) (fun c21_6 => ?_) (fun c21_6 => ?_)
  · refine lv_aload_n hx hb dX1_clear_37 rfl (lv_at hl 0 rfl) ?_
    refine lv_iconst (v := nI (1)) hx hb dX1_clear_38 (by decide) ?_
    refine xw_put hx hb hts hin1 tyX1 tyX1_ok nmX1 hown hK hP hD hS (by decide) fo8 rfl 6 (by decide) hf32 rfl rfl (ty := .int) (by decide +kernel) rfl rfl (Nat.le_of_ble_eq_true rfl) (fs' := [.ref (ad (9)), .ref (ad (10)), .ref (ad (11)), .ref (ad (12)), .ref (ad (na)), .ref (ad (nb)), .int (nI (1))]) rfl dX1_clear_39 (fun g7 H locs eg7 hP hS => ?_)
    have fg7_0 : g7 (9) = .inl (cI, 164, .inl (f9c)) := (congrFun eg7 (9)).trans ((va_up_ne _ _ (by decide)).trans fa9)
    have fg7_1 : g7 (10) = .inl (cI, 41, .inl (f10c)) := (congrFun eg7 (10)).trans ((va_up_ne _ _ (by decide)).trans fa10)
    have fg7_2 : g7 (12) = .inl (cZ, 41, .inl (fh)) := (congrFun eg7 (12)).trans ((va_up_ne _ _ (by decide)).trans fa12)
    have fg7_w : g7 (8) = .inr (1, [.ref (ad (9)), .ref (ad (10)), .ref (ad (11)), .ref (ad (12)), .ref (ad (na)), .ref (ad (nb)), .int (nI (1))]) := (congrFun eg7 (8)).trans (va_up_self _ _ _)
    have hfrg7 : ∀ j : Nat, j ≠ 8 → j ≠ 9 → j ≠ 10 → j ≠ 12 → g7 j = g j := fun j h0 h1 h2 h3 => (congrFun eg7 j).trans ((va_up_ne _ _ h0).trans (hfrgl18_5 j h0 h1 h2 h3))
    exact W.vret hx hb hr (fun tZ ht hW => ⟨⟨g7, rfl, ⟨f9c, f10c, fh, h9c, h10c, (fun j hj => hfh j (by omega)), fg7_w, fg7_0, fg7_1, fg7_2, hfrg7⟩, by rw [ht]; exact hP, va_K.moved hW.alike hK, va_Nw.warmM hW hN⟩, hS.F ht⟩) hS.2.2 dX1_clear_42
  · refine lv_aload_n hx hb dX1_clear_24 rfl (lv_at hl 0 rfl) ?_
    refine xw_get hx hb hts hin1 hown hK hP (by decide) fo8 rfl 3 (by decide) hf21 rfl rfl dX1_clear_25 ?_
    refine lv_iload_n hx hb dX1_clear_28 rfl (lv_at hl 1 rfl) ?_
    refine lv_iconst (v := nI (0)) hx hb dX1_clear_29 (by decide) ?_
    refine xw_zast hx hb hK hP hD hS (by decide) 2 fa12 rfl (by omega) (by decide) (by rfl) dX1_clear_30 (fun g8 H locs eg8 hP hS => ?_)
    have fg8_0 : g8 (8) = .inr (1, [.ref (ad (9)), .ref (ad (10)), .ref (ad (11)), .ref (ad (12)), .ref (ad (na)), .ref (ad (nb)), .int (stq)]) := (congrFun eg8 (8)).trans ((va_up_ne _ _ (by decide)).trans fo8)
    have fg8_1 : g8 (9) = .inl (cI, 164, .inl (f9c)) := (congrFun eg8 (9)).trans ((va_up_ne _ _ (by decide)).trans fa9)
    have fg8_2 : g8 (10) = .inl (cI, 41, .inl (f10c)) := (congrFun eg8 (10)).trans ((va_up_ne _ _ (by decide)).trans fa10)
    have fg8_w : g8 (12) = .inl (cZ, 41, .inl (upd (fh) (i) (nI (0)))) := (congrFun eg8 (12)).trans (va_up_self _ _ _)
    have hfrg8 : ∀ j : Nat, j ≠ 8 → j ≠ 9 → j ≠ 10 → j ≠ 12 → g8 j = g j := fun j h0 h1 h2 h3 => (congrFun eg8 j).trans ((va_up_ne _ _ h3).trans (hfrgl18_5 j h0 h1 h2 h3))
    refine lv_iinc (v := nI (i + 1)) (lv' := [(1, .int (nI (i + 1))), (0, .ref (ad (8)))]) hx hb dX1_clear_31 hl (k := 1) rfl (nI_add (i) 1) (by decide) rfl (fun ls hl => ?_)
    refine lv_goto (tgt := 18) hx hb dX1_clear_34 (by decide) ?_
    exact ih18 (i + 1, upd (fh) (i) (nI (0))) g8 H locs ls ⟨(by omega), (fun j hj => by by_cases e : j = i; subst e; rw [pk_us]; rw [pk_un e]; exact hfh j (by omega)), fg8_0, fg8_1, fg8_2, fg8_w, hfrg8, hP, hS, (lv_sub hl [1, 0] rfl)⟩ (by first | omega | (dsimp only; omega))

set_option maxHeartbeats 4000000 in
set_option maxRecDepth 100000 in
/-- Machine.learn -/
theorem mX1_learn (l : Launch) {D : va_G} {cI cJ cZ cW : ClassId} {ad : Nat → Nat} {A : Nat → Prop} (hD : ∀ g, va_D A (xw 81 ad g)) {g : Nat → va_E} {q na nb S0 : Nat} {nx : Nat → Nat} {f9 f12 : Nat → Int32} {b1 n1 : Nat} {u1 : Nat → Nat} {co1 : Int32} {ow1 : Int64} {fl1 : Nat → Int32}  (fo8 : g (8) = .inr (1, [.ref (ad (9)), .ref (ad (10)), .ref (ad (11)), .ref (ad (12)), .ref (ad (na)), .ref (ad (nb)), .int (nI (S0))])) (fa9 : g (9) = .inl (cI, 164, .inl (f9))) (fa12 : g (12) = .inl (cZ, 41, .inl (f12))) (fo1 : g (b1) = .inr (4, [.ref (ad (b1 + 1)), .ref (ad (b1 + 2)), .ref (ad (b1 + 3)), .ref (ad (b1 + 4)), .int (nI (n1)), .int (co1), .long (ow1)])) (fal1 : g (b1 + 1) = .inl (cI, 5, .inl (fl1))) (hq4 : q ≤ 4) (hb1 : b1 + 4 < 81) (hn1 : n1 ≤ 5) (hu1 : ∀ j, j < n1 → u1 j < q) (hfl1 : ∀ j, j < n1 → fl1 j = nI (u1 j)) (hb17 : 17 ≤ b1) (hS1 : 1 ≤ S0) (hS41 : S0 + n1 ≤ 41) (hnx : ∀ e, nx e < S0) (h9 : ∀ j, j < 164 → f9 j = nI (nx j)) : Met l yX1_learn wsX1_learn ({ frames := 0, cells := 0, slots := 0, locals := 0 }) (va_Pc [.ref (ad (8)), .ref (ad (b1))] (xB D (xT cI cJ cZ cW) ad g)) (va_Qv (fun g2 => ∃ f9c : Nat → Int32, (∀ j, j < 164 → f9c j = nI ((lrn u1 nx S0 n1).1 j)) ∧ g2 8 = .inr (1, [.ref (ad (9)), .ref (ad (10)), .ref (ad (11)), .ref (ad (12)), .ref (ad (na)), .ref (ad (nb)), .int (nI ((lrn u1 nx S0 n1).2.1))]) ∧ g2 9 = .inl (cI, 164, .inl (f9c)) ∧ g2 12 = .inl (cZ, 41, .inl (upd (f12) ((lrn u1 nx S0 n1).2.2) (nI 1))) ∧ ∀ j : Nat, j ≠ 8 → j ≠ 9 → j ≠ 12 → g2 j = g j) (xB D (xT cI cJ cZ cW) ad) A) 0 0 A := by
  refine Met.ofW (cc := cX1_learn) (maxL := 5) (ret := none) (by decide) rfl ?_
  intro p e s m args below meth c s₁ B hml hv
  obtain ⟨rfl, hP, hK, hN⟩ := hv
  have hx := B.exec
  have hb := B.bytes
  have hr := B.returns
  have hts := atoms_spec (ws := wsX1_learn) B.pre
  have hown : s.vm.findClass RX1 = some m.cls := findClass_of_methodNamed B.named
  have hlocks := B.notSynchronized
  have hS : va_S A s.heap s.heap [] := va_S.rf
  have hin1 : ∀ w ∈ wsX10, w ∈ wsX1_learn := by decide +kernel
  have hin4 : ∀ w ∈ wsX40, w ∈ wsX1_learn := by decide +kernel
  have hf11 := hts (.fieldLink RX1 11 "LettersByLot$Machine" "next" "[I") (by decide +kernel)
  have hf21 := hts (.fieldLink RX1 21 "LettersByLot$Machine" "hit" "[Z") (by decide +kernel)
  have hf32 := hts (.fieldLink RX1 32 "LettersByLot$Machine" "states" "I") (by decide +kernel)
  have hf42 := hts (.fieldLink RX1 42 "LettersByLot$Word" "length" "I") (by decide +kernel)
  have hf47 := hts (.fieldLink RX1 47 "LettersByLot$Word" "letters" "[I") (by decide +kernel)
  have hl := lv_entry ([.ref (ad (8)), .ref (ad (b1))]) (n := 5) (Nat.le_of_ble_eq_true rfl)
  rw [lg_entry_eq]
  generalize (lg_sl ([.ref (ad (8)), .ref (ad (b1))]) ++ List.replicate (5 - (lg_sl ([.ref (ad (8)), .ref (ad (b1))])).length) Slot.unset).toArray = ls at hl ⊢
  have hl : lv_has ls 5 [(0, .ref (ad (8))), (1, .ref (ad (b1)))] := hl
  refine lv_iconst (v := nI (0)) hx hb dX1_learn_0 (by decide) ?_
  refine lv_istore_n (lv' := [(2, .int (nI (0))), (0, .ref (ad (8))), (1, .ref (ad (b1)))]) hx hb dX1_learn_1 rfl hl (by decide) rfl (fun ls hl => ?_)
  refine lv_iconst (v := nI (0)) hx hb dX1_learn_2 (by decide) ?_
  refine lv_istore_n (lv' := [(3, .int (nI (0))), (2, .int (nI (0))), (0, .ref (ad (8))), (1, .ref (ad (b1)))]) hx hb dX1_learn_3 rfl hl (by decide) rfl (fun ls hl => ?_)
  refine xloopW (G := fun H locs fr => W p l e _ s m _ below meth c H locs _ _ _ fr) (σ := Nat × (Nat → Int32)) (fun (i, fz) ls => F0 m 4 ls []) (fun (i, fz) gl4_1 H locs ls => (i ≤ n1) ∧ (∀ j, j < 164 → fz j = nI ((lrn u1 nx S0 i).1 j)) ∧ gl4_1 (8) = .inr (1, [.ref (ad (9)), .ref (ad (10)), .ref (ad (11)), .ref (ad (12)), .ref (ad (na)), .ref (ad (nb)), .int (nI ((lrn u1 nx S0 i).2.1))]) ∧ gl4_1 (9) = .inl (cI, 164, .inl (fz)) ∧ gl4_1 (b1) = .inr (4, [.ref (ad (b1 + 1)), .ref (ad (b1 + 2)), .ref (ad (b1 + 3)), .ref (ad (b1 + 4)), .int (nI (n1)), .int (co1), .long (ow1)]) ∧ gl4_1 (b1 + 1) = .inl (cI, 5, .inl (fl1)) ∧ gl4_1 (12) = .inl (cZ, 41, .inl (f12)) ∧ (∀ j : Nat, j ≠ 8 → j ≠ 9 → j ≠ 12 → gl4_1 j = g j) ∧ va_P D vwCl (xw 81 ad gl4_1) H ∧ va_S A s.heap H locs ∧ lv_has ls 5 [(0, .ref (ad (8))), (1, .ref (ad (b1))), (2, .int (nI ((lrn u1 nx S0 i).2.2))), (3, .int (nI (i)))]) (fun (i, fz) => n1 - i) ?_ (0, f9) g s.heap [] ls ⟨(by omega), h9, fo8, fa9, fo1, fal1, fa12, (fun _ _ _ _ => rfl), hP, hS, (lv_sub hl [2, 3, 1, 0] rfl)⟩
  rintro ⟨i, fz⟩ gl4_1 H locs ls ⟨hi, hfz, fo8, fa9, fo1, fal1, fa12, hfrgl4_1, hP, hS, hl⟩ ih4
  refine lv_iload_n hx hb dX1_learn_4 rfl (lv_at hl 3 rfl) ?_
  refine lv_aload_n hx hb dX1_learn_5 rfl (lv_at hl 1 rfl) ?_
  refine xw_get hx hb hts hin4 hown hK hP (by omega) fo1 rfl 4 (by decide) hf42 rfl rfl dX1_learn_6 ?_
  obtain ⟨hB1, hB2, hB3, hB4⟩ := lrn_B hS1 hnx (u := u1) i
  have hui : i < n1 → u1 i < q := fun h => hu1 i h
  refine xi_icmp_ge (tgt := 79) hx hb (by omega) (by omega) dX1_learn_9 (by decide) (fun c9_2 => ?_) (fun c9_2 => ?_)
  · refine lv_aload_n hx hb dX1_learn_79 rfl (lv_at hl 0 rfl) ?_
    refine xw_get hx hb hts hin1 hown hK hP (by decide) fo8 rfl 3 (by decide) hf21 rfl rfl dX1_learn_80 ?_
    refine lv_iload_n hx hb dX1_learn_83 rfl (lv_at hl 2 rfl) ?_
    refine lv_iconst (v := nI (1)) hx hb dX1_learn_84 (by decide) ?_
    refine xw_zast hx hb hK hP hD hS (by decide) 2 fa12 rfl (by omega) (by decide) (by rfl) dX1_learn_85 (fun g3 H locs eg3 hP hS => ?_)
    have fg3_0 : g3 (8) = .inr (1, [.ref (ad (9)), .ref (ad (10)), .ref (ad (11)), .ref (ad (12)), .ref (ad (na)), .ref (ad (nb)), .int (nI ((lrn u1 nx S0 i).2.1))]) := (congrFun eg3 (8)).trans ((va_up_ne _ _ (by decide)).trans fo8)
    have fg3_1 : g3 (9) = .inl (cI, 164, .inl (fz)) := (congrFun eg3 (9)).trans ((va_up_ne _ _ (by decide)).trans fa9)
    have fg3_2 : g3 (b1) = .inr (4, [.ref (ad (b1 + 1)), .ref (ad (b1 + 2)), .ref (ad (b1 + 3)), .ref (ad (b1 + 4)), .int (nI (n1)), .int (co1), .long (ow1)]) := (congrFun eg3 (b1)).trans ((va_up_ne _ _ (by omega)).trans fo1)
    have fg3_3 : g3 (b1 + 1) = .inl (cI, 5, .inl (fl1)) := (congrFun eg3 (b1 + 1)).trans ((va_up_ne _ _ (by omega)).trans fal1)
    have fg3_w : g3 (12) = .inl (cZ, 41, .inl (upd (f12) ((lrn u1 nx S0 i).2.2) (nI (1)))) := (congrFun eg3 (12)).trans (va_up_self _ _ _)
    have hfrg3 : ∀ j : Nat, j ≠ 8 → j ≠ 9 → j ≠ 12 → g3 j = g j := fun j h0 h1 h2 => (congrFun eg3 j).trans ((va_up_ne _ _ h2).trans (hfrgl4_1 j h0 h1 h2))
    exact W.vret hx hb hr (fun tZ ht hW => ⟨⟨g3, rfl, (by have hin1 : i = n1 := (by omega); subst hin1; exact ⟨fz, hfz, fg3_0, fg3_1, fg3_w, hfrg3⟩), by rw [ht]; exact hP, va_K.moved hW.alike hK, va_Nw.warmM hW hN⟩, hS.F ht⟩) hS.2.2 dX1_learn_86
  · refine lv_iload_n hx hb dX1_learn_12 rfl (lv_at hl 2 rfl) ?_
    refine lv_iconst (v := nI (4)) hx hb dX1_learn_13 (by decide) ?_
    refine xi_mul hx hb dX1_learn_14 ?_
    refine lv_aload_n hx hb dX1_learn_15 rfl (lv_at hl 1 rfl) ?_
    refine xw_get hx hb hts hin4 hown hK hP (by omega) fo1 rfl 0 (by decide) hf47 rfl rfl dX1_learn_16 ?_
    refine lv_iload_n hx hb dX1_learn_19 rfl (lv_at hl 3 rfl) ?_
    refine xw_iald hx hb hK hP (by omega) 0 fal1 rfl (by omega) (by decide) dX1_learn_20 ?_
    rw [hfl1 (i) (by omega)]
    refine xi_add hx hb dX1_learn_21 ?_
    refine lv_istore (lv' := [(4, .int (nI ((((lrn u1 nx S0 i).2.2) * 4) + (u1 (i))))), (0, .ref (ad (8))), (1, .ref (ad (b1))), (2, .int (nI ((lrn u1 nx S0 i).2.2))), (3, .int (nI (i)))]) hx hb dX1_learn_22 hl (by decide) rfl (fun ls hl => ?_)
    refine lv_aload_n hx hb dX1_learn_24 rfl (lv_at hl 1 rfl) ?_
    refine xw_get hx hb hts hin1 hown hK hP (by decide) fo8 rfl 0 (by decide) hf11 rfl rfl dX1_learn_25 ?_
    refine lv_iload hx hb dX1_learn_28 (lv_at hl 0 rfl) ?_
    refine xw_iald hx hb hK hP (by decide) 0 fa9 rfl (by omega) (by decide) dX1_learn_30 ?_
    rw [hfz ((((lrn u1 nx S0 i).2.2) * 4) + (u1 (i))) (by omega)]
    refine xi_if_ne (tgt := 65) hx hb (Nat.lt_trans (hB4 _) (by omega)) dX1_learn_31 (by decide) (fun c31_4 => ?_) (fun c31_4 => ?_)
    · have hlr := lrn_o (u := u1) (nx := nx) (S := S0) (i := i) c31_4
      refine lv_aload_n hx hb dX1_learn_65 rfl (lv_at hl 1 rfl) ?_
      refine xw_get hx hb hts hin1 hown hK hP (by decide) fo8 rfl 0 (by decide) hf11 rfl rfl dX1_learn_66 ?_
      refine lv_iload hx hb dX1_learn_69 (lv_at hl 0 rfl) ?_
      refine xw_iald hx hb hK hP (by decide) 0 fa9 rfl (by omega) (by decide) dX1_learn_71 ?_
      rw [hfz ((((lrn u1 nx S0 i).2.2) * 4) + (u1 (i))) (by omega)]
      refine lv_istore_n (lv' := [(2, .int (nI ((lrn u1 nx S0 i).1 ((((lrn u1 nx S0 i).2.2) * 4) + (u1 (i)))))), (4, .int (nI ((((lrn u1 nx S0 i).2.2) * 4) + (u1 (i))))), (0, .ref (ad (8))), (1, .ref (ad (b1))), (3, .int (nI (i)))]) hx hb dX1_learn_72 rfl hl (by decide) rfl (fun ls hl => ?_)
      refine lv_iinc (v := nI (i + 1)) (lv' := [(3, .int (nI (i + 1))), (2, .int (nI ((lrn u1 nx S0 i).1 ((((lrn u1 nx S0 i).2.2) * 4) + (u1 (i)))))), (4, .int (nI ((((lrn u1 nx S0 i).2.2) * 4) + (u1 (i))))), (0, .ref (ad (8))), (1, .ref (ad (b1)))]) hx hb dX1_learn_73 hl (k := 4) rfl (nI_add (i) 1) (by decide) rfl (fun ls hl => ?_)
      refine lv_goto (tgt := 4) hx hb dX1_learn_76 (by decide) ?_
      exact ih4 (i + 1, fz) gl4_1 H locs ls ⟨(by omega), (by rw [hlr]; exact hfz), (by rw [hlr]; exact fo8), fa9, fo1, fal1, fa12, hfrgl4_1, hP, hS, (by rw [hlr]; exact (lv_sub hl [3, 4, 1, 0] rfl))⟩ (by first | omega | (dsimp only; omega))
    · have hlr := lrn_n (u := u1) (nx := nx) (S := S0) (i := i) c31_4
      refine lv_aload_n hx hb dX1_learn_34 rfl (lv_at hl 1 rfl) ?_
      refine xw_get hx hb hts hin1 hown hK hP (by decide) fo8 rfl 6 (by decide) hf32 rfl rfl dX1_learn_35 ?_
      refine lv_bipush (v := nI (41)) hx hb dX1_learn_38 (by decide) ?_
      refine xi_icmp_lt (tgt := 44) hx hb (by omega) (by decide) dX1_learn_40 (by decide) (fun c40_5 => ?_) (fun c40_5 => ?_)
      · refine lv_aload_n hx hb dX1_learn_44 rfl (lv_at hl 1 rfl) ?_
        refine xw_get hx hb hts hin1 hown hK hP (by decide) fo8 rfl 0 (by decide) hf11 rfl rfl dX1_learn_45 ?_
        refine lv_iload hx hb dX1_learn_48 (lv_at hl 0 rfl) ?_
        refine lv_aload_n hx hb dX1_learn_50 rfl (lv_at hl 1 rfl) ?_
        refine xw_get hx hb hts hin1 hown hK hP (by decide) fo8 rfl 6 (by decide) hf32 rfl rfl dX1_learn_51 ?_
        refine xw_iast hx hb hK hP hD hS (by decide) 0 fa9 rfl (by omega) (by decide) dX1_learn_54 (fun g6 H locs eg6 hP hS => ?_)
        have fg6_0 : g6 (8) = .inr (1, [.ref (ad (9)), .ref (ad (10)), .ref (ad (11)), .ref (ad (12)), .ref (ad (na)), .ref (ad (nb)), .int (nI ((lrn u1 nx S0 i).2.1))]) := (congrFun eg6 (8)).trans ((va_up_ne _ _ (by decide)).trans fo8)
        have fg6_1 : g6 (b1) = .inr (4, [.ref (ad (b1 + 1)), .ref (ad (b1 + 2)), .ref (ad (b1 + 3)), .ref (ad (b1 + 4)), .int (nI (n1)), .int (co1), .long (ow1)]) := (congrFun eg6 (b1)).trans ((va_up_ne _ _ (by omega)).trans fo1)
        have fg6_2 : g6 (b1 + 1) = .inl (cI, 5, .inl (fl1)) := (congrFun eg6 (b1 + 1)).trans ((va_up_ne _ _ (by omega)).trans fal1)
        have fg6_3 : g6 (12) = .inl (cZ, 41, .inl (f12)) := (congrFun eg6 (12)).trans ((va_up_ne _ _ (by decide)).trans fa12)
        have fg6_w : g6 (9) = .inl (cI, 164, .inl (upd (fz) ((((lrn u1 nx S0 i).2.2) * 4) + (u1 (i))) (nI ((lrn u1 nx S0 i).2.1)))) := (congrFun eg6 (9)).trans (va_up_self _ _ _)
        have hfrg6 : ∀ j : Nat, j ≠ 8 → j ≠ 9 → j ≠ 12 → g6 j = g j := fun j h0 h1 h2 => (congrFun eg6 j).trans ((va_up_ne _ _ h1).trans (hfrgl4_1 j h0 h1 h2))
        refine lv_aload_n hx hb dX1_learn_55 rfl (lv_at hl 1 rfl) ?_
        refine lv_dup hx hb dX1_learn_56 rfl ?_
        refine xw_get hx hb hts hin1 hown hK hP (by decide) fg6_0 rfl 6 (by decide) hf32 rfl rfl dX1_learn_57 ?_
        refine lv_iconst (v := nI (1)) hx hb dX1_learn_60 (by decide) ?_
        refine xi_add hx hb dX1_learn_61 ?_
        refine xw_put hx hb hts hin1 tyX1 tyX1_ok nmX1 hown hK hP hD hS (by decide) fg6_0 rfl 6 (by decide) hf32 rfl rfl (ty := .int) (by decide +kernel) rfl rfl (Nat.le_of_ble_eq_true rfl) (fs' := [.ref (ad (9)), .ref (ad (10)), .ref (ad (11)), .ref (ad (12)), .ref (ad (na)), .ref (ad (nb)), .int (nI (((lrn u1 nx S0 i).2.1) + 1))]) rfl dX1_learn_62 (fun g7 H locs eg7 hP hS => ?_)
        have fg7_0 : g7 (b1) = .inr (4, [.ref (ad (b1 + 1)), .ref (ad (b1 + 2)), .ref (ad (b1 + 3)), .ref (ad (b1 + 4)), .int (nI (n1)), .int (co1), .long (ow1)]) := (congrFun eg7 (b1)).trans ((va_up_ne _ _ (by omega)).trans fg6_1)
        have fg7_1 : g7 (b1 + 1) = .inl (cI, 5, .inl (fl1)) := (congrFun eg7 (b1 + 1)).trans ((va_up_ne _ _ (by omega)).trans fg6_2)
        have fg7_2 : g7 (12) = .inl (cZ, 41, .inl (f12)) := (congrFun eg7 (12)).trans ((va_up_ne _ _ (by decide)).trans fg6_3)
        have fg7_3 : g7 (9) = .inl (cI, 164, .inl (upd (fz) ((((lrn u1 nx S0 i).2.2) * 4) + (u1 (i))) (nI ((lrn u1 nx S0 i).2.1)))) := (congrFun eg7 (9)).trans ((va_up_ne _ _ (by decide)).trans fg6_w)
        have fg7_w : g7 (8) = .inr (1, [.ref (ad (9)), .ref (ad (10)), .ref (ad (11)), .ref (ad (12)), .ref (ad (na)), .ref (ad (nb)), .int (nI (((lrn u1 nx S0 i).2.1) + 1))]) := (congrFun eg7 (8)).trans (va_up_self _ _ _)
        have hfrg7 : ∀ j : Nat, j ≠ 8 → j ≠ 9 → j ≠ 12 → g7 j = g j := fun j h0 h1 h2 => (congrFun eg7 j).trans ((va_up_ne _ _ h0).trans (hfrg6 j h0 h1 h2))
        refine lv_aload_n hx hb dX1_learn_65 rfl (lv_at hl 1 rfl) ?_
        refine xw_get hx hb hts hin1 hown hK hP (by decide) fg7_w rfl 0 (by decide) hf11 rfl rfl dX1_learn_66 ?_
        refine lv_iload hx hb dX1_learn_69 (lv_at hl 0 rfl) ?_
        refine xw_iald hx hb hK hP (by decide) 0 fg7_3 rfl (by omega) (by decide) dX1_learn_71 ?_
        rw [pk_us]
        refine lv_istore_n (lv' := [(2, .int (nI ((lrn u1 nx S0 i).2.1))), (4, .int (nI ((((lrn u1 nx S0 i).2.2) * 4) + (u1 (i))))), (0, .ref (ad (8))), (1, .ref (ad (b1))), (3, .int (nI (i)))]) hx hb dX1_learn_72 rfl hl (by decide) rfl (fun ls hl => ?_)
        refine lv_iinc (v := nI (i + 1)) (lv' := [(3, .int (nI (i + 1))), (2, .int (nI ((lrn u1 nx S0 i).2.1))), (4, .int (nI ((((lrn u1 nx S0 i).2.2) * 4) + (u1 (i))))), (0, .ref (ad (8))), (1, .ref (ad (b1)))]) hx hb dX1_learn_73 hl (k := 4) rfl (nI_add (i) 1) (by decide) rfl (fun ls hl => ?_)
        refine lv_goto (tgt := 4) hx hb dX1_learn_76 (by decide) ?_
        exact ih4 (i + 1, upd (fz) ((((lrn u1 nx S0 i).2.2) * 4) + (u1 (i))) (nI ((lrn u1 nx S0 i).2.1))) g7 H locs ls ⟨(by omega), (by rw [hlr]; exact upd_nI hfz), (by rw [hlr]; exact fg7_w), fg7_3, fg7_0, fg7_1, fg7_2, hfrg7, hP, hS, (by rw [hlr]; exact (lv_sub hl [3, 4, 1, 0] rfl))⟩ (by first | omega | (dsimp only; omega))
      · exact absurd c40_5 (by omega)
