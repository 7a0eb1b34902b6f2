/-- the first n letters of s are the first m of t -/
abbrev bgW (u : Nat → Nat → Nat) (s n t m : Nat) : Prop := n = m ∧ ∀ j, j < n → u s j = u t j
/-- bit s of a list -/
abbrev btL (li s : Nat) : Prop := li / 2 ^ s % 2 = 1
/-- a state's letters with one more -/
def rwW (u : Nat → Nat → Nat) (sl sz : Nat → Nat) (k c : Nat) : Nat → Nat := fun j => if j < sz k then u (sl k) j else c
/-- where R letters rw lead -/
def trS (u : Nat → Nat → Nat) (ln : Nat → Nat) (li ns : Nat) (sl sz : Nat → Nat) (R : Nat) (rw : Nat → Nat) (g : Nat) : Prop := ∃ m, m ≤ R ∧ (∀ m' s, m < m' → m' ≤ R → s < 8 → btL li s → m' ≤ ln s → ¬ lapD rw R (u s) m') ∧ ((g < ns ∧ sz g = m ∧ ∀ j, j < m → u (sl g) j = rw (R - m + j)) ∨ (∃ s, s < 8 ∧ btL li s ∧ g = 100 + s ∧ m = ln s ∧ lapD rw R (u s) m))
def ChI (q : Nat) (ln : Nat → Nat) (u : Nat → Nat → Nat) (li ns : Nat) (sl sz gof : Nat → Nat) : Prop := 1 ≤ ns ∧ ns ≤ 13 ∧ sz 0 = 0 ∧ (∀ k, k < ns → sl k < 8 ∧ btL li (sl k) ∧ sz k < ln (sl k)) ∧ (∀ k c, k < ns → c < q → trS u ln li ns sl sz (sz k + 1) (rwW u sl sz k c) (gof (4 * k + c))) ∧ ns ≤ 4 * cntS (fun s => decide (btL li s)) 8 + 1
theorem lapD_sub {U U' V : Nat → Nat} {n k : Nat} (h : ∀ j, j < n → U j = U' j) (hk : k ≤ n) (h2 : lapD U n V k) : lapD U' n V k := fun j hj => by rw [← h _ (by omega)]; exact h2 j hj
set_option maxHeartbeats 4000000 in
set_option maxRecDepth 100000 in
/-- isBeginning -/
theorem mX6_isBeginning (l : Launch) {D : va_G} {cI cJ cZ cW : ClassId} {ad : Nat → Nat} {g : Nat → va_E} {q Wt T : Nat} {w ln t : Nat → Nat} {u : Nat → Nat → Nat} {tp bt : Int64} {k1 n1 k2 n2 : Nat} {sq : Int32} {nu de : Int64} {fwd : Nat → Int32}  (fo62 : g (62) = .inr (6, [.int (nI (q)), .int (nI (Wt)), .ref (ad (63)), .ref (ad (64)), .ref (ad (65)), .ref (ad (66)), .int (nI (T)), .long (tp), .long (bt), .long (nu), .long (de), .int (sq), .ref (ad (67)), .ref (ad (68)), .ref (ad (69)), .ref (ad (70)), .ref (ad (71)), .ref (ad (72)), .ref (ad (73)), .ref (ad (74)), .ref (ad (75)), .ref (ad (76)), .ref (ad (77)), .ref (ad (78)), .ref (ad (79)), .ref (ad (80))])) (fa65 : g (65) = .inl (cI, 40, .inl (fwd)))  (hwl : ∀ k j, k < 8 → j < ln k → fwd (5 * k + j) = nI (u k j)) (hq2 : 2 ≤ q) (hq4 : q ≤ 4) (hln : ∀ k, ln k ≤ 5) (hul : ∀ k j, j < ln k → u k j < q) (hT : T ≤ 300) (ht : ∀ j, j < T → t j < q) (hk1 : k1 < 8) (hk2 : k2 < 8) (hn1 : n1 ≤ ln k1) (hn2 : n2 ≤ ln k2) : Met l yX6_isBeginning wsX6_isBeginning ({ frames := 1, cells := 0, slots := 0, locals := 22 }) (va_Pc [.ref (ad (62)), .int (nI (k1)), .int (nI (n1)), .int (nI (k2)), .int (nI (n2))] (xB D (xT cI cJ cZ cW) ad g)) (vp_Si (fun r => r = if bgW u k1 n1 k2 n2 then 1 else 0)) 0 0 (fun _ => False) := by
  refine Met.ofW (cc := cX6_isBeginning) (maxL := 7) (ret := (some .boolean)) (by decide) rfl ?_
  intro p e s m args below meth c s₁ B hml hv
  obtain ⟨rfl, hP, hK, hN⟩ := hv
  have hx := B.exec
  have hb := B.bytes
  have hr := B.returns
  have hts := atoms_spec (ws := wsX6_isBeginning) B.pre
  have hown : s.vm.findClass RX6 = some m.cls := findClass_of_methodNamed B.named
  have hlocks := B.notSynchronized
  have hl := lv_entry ([.ref (ad (62)), .int (nI (k1)), .int (nI (n1)), .int (nI (k2)), .int (nI (n2))]) (n := 7) (Nat.le_of_ble_eq_true rfl)
  rw [lg_entry_eq]
  generalize (lg_sl ([.ref (ad (62)), .int (nI (k1)), .int (nI (n1)), .int (nI (k2)), .int (nI (n2))]) ++ List.replicate (7 - (lg_sl ([.ref (ad (62)), .int (nI (k1)), .int (nI (n1)), .int (nI (k2)), .int (nI (n2))])).length) Slot.unset).toArray = ls at hl ⊢
  have hl : lv_has ls 7 [(0, .ref (ad (62))), (1, .int (nI (k1))), (2, .int (nI (n1))), (3, .int (nI (k2))), (4, .int (nI (n2)))] := hl
  have hm1 := hln k1
  have hm2 := hln k2
  refine lv_iload_n hx hb dX6_isBeginning_0 rfl (lv_at hl 2 rfl) ?_
  refine lv_iload hx hb dX6_isBeginning_1 (lv_at hl 4 rfl) ?_
  refine xi_icmp_ne (tgt := 10) hx hb (by omega) (by omega) dX6_isBeginning_3 (by decide) (fun c3_1 => ?_) (fun c3_1 => ?_)
  · refine lv_iconst (v := nI (0)) hx hb dX6_isBeginning_10 (by decide) ?_
    refine lv_istore (lv' := [(5, .int (nI (0))), (0, .ref (ad (62))), (1, .int (nI (k1))), (2, .int (nI (n1))), (3, .int (nI (k2))), (4, .int (nI (n2)))]) hx hb dX6_isBeginning_11 hl (by decide) rfl (fun ls hl => ?_)
    refine lv_iconst (v := nI (0)) hx hb dX6_isBeginning_13 (by decide) ?_
    refine lv_istore (lv' := [(6, .int (nI (0))), (5, .int (nI (0))), (0, .ref (ad (62))), (1, .int (nI (k1))), (2, .int (nI (n1))), (3, .int (nI (k2))), (4, .int (nI (n2)))]) hx hb dX6_isBeginning_14 hl (by decide) rfl (fun ls hl => ?_)
    refine xloop (G := fun fr => W p l e _ s m _ below meth c _ _ _ _ _ fr) (σ := Nat × Nat) (fun (i, b) ls => F0 m 16 ls []) (fun (i, b) ls => (i ≤ n1) ∧ ((b = 1 ∧ n1 = n2 ∧ ∀ j, j < i → u k1 j = u k2 j) ∨ (b = 0 ∧ ¬ bgW u k1 n1 k2 n2)) ∧ lv_has ls 7 [(0, .ref (ad (62))), (1, .int (nI (k1))), (2, .int (nI (n1))), (3, .int (nI (k2))), (5, .int (nI (b))), (6, .int (nI (i)))]) (fun (i, b) => n1 - i) ?_ (0, 0) ls ⟨(Nat.zero_le _), (Or.inr ⟨rfl, fun h => by have h1 := h.1; omega⟩), (lv_sub hl [2, 3, 4, 5, 1, 0] rfl)⟩
    rintro ⟨i, b⟩ ls ⟨hi, hbq, hl⟩ ih16
    refine lv_iload hx hb dX6_isBeginning_16 (lv_at hl 5 rfl) ?_
    refine lv_iload_n hx hb dX6_isBeginning_18 rfl (lv_at hl 2 rfl) ?_
    refine xi_icmp_ge (tgt := 57) hx hb (by omega) (by omega) dX6_isBeginning_19 (by decide) (fun c19_2 => ?_) (fun c19_2 => ?_)
    · refine lv_iload hx hb dX6_isBeginning_57 (lv_at hl 4 rfl) ?_
      exact W.zret (v := nI b) hx hb hr (by rcases hbq with h | h; rw [h.1]; rfl; rw [h.1]; rfl) (fun tZ ht _ => ⟨_, rfl, (by show _ = (if bgW u k1 n1 k2 n2 then 1 else 0); rcases hbq with h | h; rw [h.1]; exact xb1 ⟨h.2.1, fun j hj => h.2.2 j (by omega)⟩; rw [h.1]; exact xb0 h.2), ht⟩) (fun q hq => by cases hq) dX6_isBeginning_59
    · refine lv_iload hx hb dX6_isBeginning_22 (lv_at hl 4 rfl) ?_
      refine xi_if_eq (tgt := 57) hx hb (by rcases hbq with h | h <;> omega) dX6_isBeginning_24 (by decide) (fun c24_3 => ?_) (fun c24_3 => ?_)
      · refine lv_iload hx hb dX6_isBeginning_57 (lv_at hl 4 rfl) ?_
        exact W.zret (v := nI b) hx hb hr (by rcases hbq with h | h; rw [h.1]; rfl; rw [h.1]; rfl) (fun tZ ht _ => ⟨_, rfl, (by show _ = (if bgW u k1 n1 k2 n2 then 1 else 0); rcases hbq with h | h; rw [h.1]; exact xb1 ⟨h.2.1, fun j hj => h.2.2 j (by have h5 := c24_3; omega)⟩; rw [h.1]; exact xb0 h.2), ht⟩) (fun q hq => by cases hq) dX6_isBeginning_59
      · have hb1 := hbq.resolve_right (fun h => c24_3 h.1)
        have hb1l := hb1.2.1
        refine lv_aload_n hx hb dX6_isBeginning_27 rfl (lv_at hl 0 rfl) ?_
        refine lv_iload_n hx hb dX6_isBeginning_28 rfl (lv_at hl 1 rfl) ?_
        refine lv_iload hx hb dX6_isBeginning_29 (lv_at hl 5 rfl) ?_
        refine vp_callSi (va_Run.run (va_runV (As := [.int (nI (k1)), .int (nI (i))]) (rest := []) ⟨hx, hb, hml, hown, hts⟩ (mX6_letterOf l (w := w) (ln := ln) (t := t) (u := u) (s1 := k1) (j1 := i) (vv := u (k1) (i)) fo62 fa65 (by omega) (by have h9 := hln (k1); omega) (hwl (k1) (i) (by omega) (by omega))) (cwV 2 hts gX6_isBeginning_X6_letterOf rfl rfl rfl (by decide +kernel) ⟨Nat.le_of_ble_eq_true rfl, Nat.le_of_ble_eq_true rfl⟩) ⟨xB_blind, va_recv hK hP (ci := 6) rfl (xw_is (by decide) fo62), fun U hU hW => ⟨rfl, by rw [hU]; exact hP, va_K.moved hW.alike hK, va_Nw.warmM hW hN⟩⟩ rfl rfl hl.1 rfl (lv_room (Nat.le_of_ble_eq_true rfl)) dX6_isBeginning_31 ⟨Nat.le_of_ble_eq_true rfl, Nat.le_of_ble_eq_true rfl⟩)) (fun r4 er4 => ?_)
        subst er4
        refine lv_aload_n hx hb dX6_isBeginning_34 rfl (lv_at hl 0 rfl) ?_
        refine lv_iload_n hx hb dX6_isBeginning_35 rfl (lv_at hl 3 rfl) ?_
        refine lv_iload hx hb dX6_isBeginning_36 (lv_at hl 5 rfl) ?_
        refine vp_callSi (va_Run.run (va_runV (As := [.int (nI (k2)), .int (nI (i))]) (rest := [.int (nI (u (k1) (i)))]) ⟨hx, hb, hml, hown, hts⟩ (mX6_letterOf l (w := w) (ln := ln) (t := t) (u := u) (s1 := k2) (j1 := i) (vv := u (k2) (i)) fo62 fa65 (by omega) (by have h9 := hln (k2); omega) (hwl (k2) (i) (by omega) (by omega))) (cwV 2 hts gX6_isBeginning_X6_letterOf rfl rfl rfl (by decide +kernel) ⟨Nat.le_of_ble_eq_true rfl, Nat.le_of_ble_eq_true rfl⟩) ⟨xB_blind, va_recv hK hP (ci := 6) rfl (xw_is (by decide) fo62), fun U hU hW => ⟨rfl, by rw [hU]; exact hP, va_K.moved hW.alike hK, va_Nw.warmM hW hN⟩⟩ rfl rfl hl.1 rfl (lv_room (Nat.le_of_ble_eq_true rfl)) dX6_isBeginning_38 ⟨Nat.le_of_ble_eq_true rfl, Nat.le_of_ble_eq_true rfl⟩)) (fun r5 er5 => ?_)
        subst er5
        refine xi_icmp_ne (tgt := 48) hx hb (Nat.lt_trans (hul _ _ (by omega)) (by omega)) (Nat.lt_trans (hul _ _ (by omega)) (by omega)) dX6_isBeginning_41 (by decide) (fun c41_6 => ?_) (fun c41_6 => ?_)
        · refine lv_iconst (v := nI (0)) hx hb dX6_isBeginning_48 (by decide) ?_
          refine lv_istore (lv' := [(5, .int (nI (0))), (0, .ref (ad (62))), (1, .int (nI (k1))), (2, .int (nI (n1))), (3, .int (nI (k2))), (6, .int (nI (i)))]) hx hb dX6_isBeginning_49 hl (by decide) rfl (fun ls hl => ?_)
          refine lv_iinc (v := nI (i + 1)) (lv' := [(6, .int (nI (i + 1))), (5, .int (nI (0))), (0, .ref (ad (62))), (1, .int (nI (k1))), (2, .int (nI (n1))), (3, .int (nI (k2)))]) hx hb dX6_isBeginning_51 hl (k := 5) rfl (nI_add (i) 1) (by decide) rfl (fun ls hl => ?_)
          refine lv_goto (tgt := 16) hx hb dX6_isBeginning_54 (by decide) ?_
          exact ih16 (i + 1, 0) ls ⟨(by omega), (Or.inr ⟨rfl, fun h => c41_6 (h.2 i (by omega))⟩), (lv_sub hl [2, 3, 4, 5, 1, 0] rfl)⟩ (by first | omega | (dsimp only; omega))
        · refine lv_iconst (v := nI (1)) hx hb dX6_isBeginning_44 (by decide) ?_
          refine lv_goto (tgt := 49) hx hb dX6_isBeginning_45 (by decide) ?_
          refine lv_istore (lv' := [(5, .int (nI (1))), (0, .ref (ad (62))), (1, .int (nI (k1))), (2, .int (nI (n1))), (3, .int (nI (k2))), (6, .int (nI (i)))]) hx hb dX6_isBeginning_49 hl (by decide) rfl (fun ls hl => ?_)
          refine lv_iinc (v := nI (i + 1)) (lv' := [(6, .int (nI (i + 1))), (5, .int (nI (1))), (0, .ref (ad (62))), (1, .int (nI (k1))), (2, .int (nI (n1))), (3, .int (nI (k2)))]) hx hb dX6_isBeginning_51 hl (k := 5) rfl (nI_add (i) 1) (by decide) rfl (fun ls hl => ?_)
          refine lv_goto (tgt := 16) hx hb dX6_isBeginning_54 (by decide) ?_
          exact ih16 (i + 1, 1) ls ⟨(by omega), (Or.inl ⟨rfl, hb1.2.1, fun j hj => if e : j = i then by rw [e]; exact c41_6 else hb1.2.2 j (by omega)⟩), (lv_sub hl [2, 3, 4, 5, 1, 0] rfl)⟩ (by first | omega | (dsimp only; omega))
  · refine lv_iconst (v := nI (1)) hx hb dX6_isBeginning_6 (by decide) ?_
    refine lv_goto (tgt := 11) hx hb dX6_isBeginning_7 (by decide) ?_
    refine lv_istore (lv' := [(5, .int (nI (1))), (0, .ref (ad (62))), (1, .int (nI (k1))), (2, .int (nI (n1))), (3, .int (nI (k2))), (4, .int (nI (n2)))]) hx hb dX6_isBeginning_11 hl (by decide) rfl (fun ls hl => ?_)
    refine lv_iconst (v := nI (0)) hx hb dX6_isBeginning_13 (by decide) ?_
    refine lv_istore (lv' := [(6, .int (nI (0))), (5, .int (nI (1))), (0, .ref (ad (62))), (1, .int (nI (k1))), (2, .int (nI (n1))), (3, .int (nI (k2))), (4, .int (nI (n2)))]) hx hb dX6_isBeginning_14 hl (by decide) rfl (fun ls hl => ?_)
    refine xloop (G := fun fr => W p l e _ s m _ below meth c _ _ _ _ _ fr) (σ := Nat × Nat) (fun (i, b) ls => F0 m 16 ls []) (fun (i, b) ls => (i ≤ n1) ∧ ((b = 1 ∧ n1 = n2 ∧ ∀ j, j < i → u k1 j = u k2 j) ∨ (b = 0 ∧ ¬ bgW u k1 n1 k2 n2)) ∧ lv_has ls 7 [(0, .ref (ad (62))), (1, .int (nI (k1))), (2, .int (nI (n1))), (3, .int (nI (k2))), (5, .int (nI (b))), (6, .int (nI (i)))]) (fun (i, b) => n1 - i) ?_ (0, 1) ls ⟨(Nat.zero_le _), (Or.inl ⟨rfl, by omega, fun j hj => absurd hj (by omega)⟩), (lv_sub hl [2, 3, 4, 5, 1, 0] rfl)⟩
    rintro ⟨i, b⟩ ls ⟨hi, hbq, hl⟩ ih16
    refine lv_iload hx hb dX6_isBeginning_16 (lv_at hl 5 rfl) ?_
    refine lv_iload_n hx hb dX6_isBeginning_18 rfl (lv_at hl 2 rfl) ?_
    refine xi_icmp_ge (tgt := 57) hx hb (by omega) (by omega) dX6_isBeginning_19 (by decide) (fun c19_7 => ?_) (fun c19_7 => ?_)
    · refine lv_iload hx hb dX6_isBeginning_57 (lv_at hl 4 rfl) ?_
      exact W.zret (v := nI b) hx hb hr (by rcases hbq with h | h; rw [h.1]; rfl; rw [h.1]; rfl) (fun tZ ht _ => ⟨_, rfl, (by show _ = (if bgW u k1 n1 k2 n2 then 1 else 0); rcases hbq with h | h; rw [h.1]; exact xb1 ⟨h.2.1, fun j hj => h.2.2 j (by omega)⟩; rw [h.1]; exact xb0 h.2), ht⟩) (fun q hq => by cases hq) dX6_isBeginning_59
    · refine lv_iload hx hb dX6_isBeginning_22 (lv_at hl 4 rfl) ?_
      refine xi_if_eq (tgt := 57) hx hb (by rcases hbq with h | h <;> omega) dX6_isBeginning_24 (by decide) (fun c24_8 => ?_) (fun c24_8 => ?_)
      · refine lv_iload hx hb dX6_isBeginning_57 (lv_at hl 4 rfl) ?_
        exact W.zret (v := nI b) hx hb hr (by rcases hbq with h | h; rw [h.1]; rfl; rw [h.1]; rfl) (fun tZ ht _ => ⟨_, rfl, (by show _ = (if bgW u k1 n1 k2 n2 then 1 else 0); rcases hbq with h | h; rw [h.1]; exact xb1 ⟨h.2.1, fun j hj => h.2.2 j (by have h5 := c24_8; omega)⟩; rw [h.1]; exact xb0 h.2), ht⟩) (fun q hq => by cases hq) dX6_isBeginning_59
      · have hb1 := hbq.resolve_right (fun h => c24_8 h.1)
        have hb1l := hb1.2.1
        refine lv_aload_n hx hb dX6_isBeginning_27 rfl (lv_at hl 0 rfl) ?_
        refine lv_iload_n hx hb dX6_isBeginning_28 rfl (lv_at hl 1 rfl) ?_
        refine lv_iload hx hb dX6_isBeginning_29 (lv_at hl 5 rfl) ?_
        refine vp_callSi (va_Run.run (va_runV (As := [.int (nI (k1)), .int (nI (i))]) (rest := []) ⟨hx, hb, hml, hown, hts⟩ (mX6_letterOf l (w := w) (ln := ln) (t := t) (u := u) (s1 := k1) (j1 := i) (vv := u (k1) (i)) fo62 fa65 (by omega) (by have h9 := hln (k1); omega) (hwl (k1) (i) (by omega) (by omega))) (cwV 2 hts gX6_isBeginning_X6_letterOf rfl rfl rfl (by decide +kernel) ⟨Nat.le_of_ble_eq_true rfl, Nat.le_of_ble_eq_true rfl⟩) ⟨xB_blind, va_recv hK hP (ci := 6) rfl (xw_is (by decide) fo62), fun U hU hW => ⟨rfl, by rw [hU]; exact hP, va_K.moved hW.alike hK, va_Nw.warmM hW hN⟩⟩ rfl rfl hl.1 rfl (lv_room (Nat.le_of_ble_eq_true rfl)) dX6_isBeginning_31 ⟨Nat.le_of_ble_eq_true rfl, Nat.le_of_ble_eq_true rfl⟩)) (fun r9 er9 => ?_)
        subst er9
        refine lv_aload_n hx hb dX6_isBeginning_34 rfl (lv_at hl 0 rfl) ?_
        refine lv_iload_n hx hb dX6_isBeginning_35 rfl (lv_at hl 3 rfl) ?_
        refine lv_iload hx hb dX6_isBeginning_36 (lv_at hl 5 rfl) ?_
        refine vp_callSi (va_Run.run (va_runV (As := [.int (nI (k2)), .int (nI (i))]) (rest := [.int (nI (u (k1) (i)))]) ⟨hx, hb, hml, hown, hts⟩ (mX6_letterOf l (w := w) (ln := ln) (t := t) (u := u) (s1 := k2) (j1 := i) (vv := u (k2) (i)) fo62 fa65 (by omega) (by have h9 := hln (k2); omega) (hwl (k2) (i) (by omega) (by omega))) (cwV 2 hts gX6_isBeginning_X6_letterOf rfl rfl rfl (by decide +kernel) ⟨Nat.le_of_ble_eq_true rfl, Nat.le_of_ble_eq_true rfl⟩) ⟨xB_blind, va_recv hK hP (ci := 6) rfl (xw_is (by decide) fo62), fun U hU hW => ⟨rfl, by rw [hU]; exact hP, va_K.moved hW.alike hK, va_Nw.warmM hW hN⟩⟩ rfl rfl hl.1 rfl (lv_room (Nat.le_of_ble_eq_true rfl)) dX6_isBeginning_38 ⟨Nat.le_of_ble_eq_true rfl, Nat.le_of_ble_eq_true rfl⟩)) (fun r10 er10 => ?_)
        subst er10
        refine xi_icmp_ne (tgt := 48) hx hb (Nat.lt_trans (hul _ _ (by omega)) (by omega)) (Nat.lt_trans (hul _ _ (by omega)) (by omega)) dX6_isBeginning_41 (by decide) (fun c41_11 => ?_) (fun c41_11 => ?_)
        · refine lv_iconst (v := nI (0)) hx hb dX6_isBeginning_48 (by decide) ?_
          refine lv_istore (lv' := [(5, .int (nI (0))), (0, .ref (ad (62))), (1, .int (nI (k1))), (2, .int (nI (n1))), (3, .int (nI (k2))), (6, .int (nI (i)))]) hx hb dX6_isBeginning_49 hl (by decide) rfl (fun ls hl => ?_)
          refine lv_iinc (v := nI (i + 1)) (lv' := [(6, .int (nI (i + 1))), (5, .int (nI (0))), (0, .ref (ad (62))), (1, .int (nI (k1))), (2, .int (nI (n1))), (3, .int (nI (k2)))]) hx hb dX6_isBeginning_51 hl (k := 5) rfl (nI_add (i) 1) (by decide) rfl (fun ls hl => ?_)
          refine lv_goto (tgt := 16) hx hb dX6_isBeginning_54 (by decide) ?_
          exact ih16 (i + 1, 0) ls ⟨(by omega), (Or.inr ⟨rfl, fun h => c41_11 (h.2 i (by omega))⟩), (lv_sub hl [2, 3, 4, 5, 1, 0] rfl)⟩ (by first | omega | (dsimp only; omega))
        · refine lv_iconst (v := nI (1)) hx hb dX6_isBeginning_44 (by decide) ?_
          refine lv_goto (tgt := 49) hx hb dX6_isBeginning_45 (by decide) ?_
          refine lv_istore (lv' := [(5, .int (nI (1))), (0, .ref (ad (62))), (1, .int (nI (k1))), (2, .int (nI (n1))), (3, .int (nI (k2))), (6, .int (nI (i)))]) hx hb dX6_isBeginning_49 hl (by decide) rfl (fun ls hl => ?_)
          refine lv_iinc (v := nI (i + 1)) (lv' := [(6, .int (nI (i + 1))), (5, .int (nI (1))), (0, .ref (ad (62))), (1, .int (nI (k1))), (2, .int (nI (n1))), (3, .int (nI (k2)))]) hx hb dX6_isBeginning_51 hl (k := 5) rfl (nI_add (i) 1) (by decide) rfl (fun ls hl => ?_)
          refine lv_goto (tgt := 16) hx hb dX6_isBeginning_54 (by decide) ?_
          exact ih16 (i + 1, 1) ls ⟨(by omega), (Or.inl ⟨rfl, hb1.2.1, fun j hj => if e : j = i then by rw [e]; exact c41_11 else hb1.2.2 j (by omega)⟩), (lv_sub hl [2, 3, 4, 5, 1, 0] rfl)⟩ (by first | omega | (dsimp only; omega))

set_option maxHeartbeats 4000000 in
set_option maxRecDepth 100000 in
/-- stateOf -/
theorem mX6_stateOf (l : Launch) {D : va_G} {cI cJ cZ cW : ClassId} {ad : Nat → Nat} {g : Nat → va_E} {q Wt T : Nat} {w ln t : Nat → Nat} {u : Nat → Nat → Nat} {tp bt : Int64} {k1 n1 li : Nat} {ns : Nat} {sl sz : Nat → Nat} {nu de : Int64} {fwd : Nat → Int32} {fos : Nat → Int32} {foz : Nat → Int32}  (fo62 : g (62) = .inr (6, [.int (nI (q)), .int (nI (Wt)), .ref (ad (63)), .ref (ad (64)), .ref (ad (65)), .ref (ad (66)), .int (nI (T)), .long (tp), .long (bt), .long (nu), .long (de), .int (nI (ns)), .ref (ad (67)), .ref (ad (68)), .ref (ad (69)), .ref (ad (70)), .ref (ad (71)), .ref (ad (72)), .ref (ad (73)), .ref (ad (74)), .ref (ad (75)), .ref (ad (76)), .ref (ad (77)), .ref (ad (78)), .ref (ad (79)), .ref (ad (80))])) (fa65 : g (65) = .inl (cI, 40, .inl (fwd))) (fa67 : g (67) = .inl (cI, 13, .inl (fos))) (fa68 : g (68) = .inl (cI, 13, .inl (foz)))  (hwl : ∀ k j, k < 8 → j < ln k → fwd (5 * k + j) = nI (u k j)) (hos : ∀ k, k < ns → fos k = nI (sl k)) (hoz : ∀ k, k < ns → foz k = nI (sz k)) (hq2 : 2 ≤ q) (hq4 : q ≤ 4) (hln : ∀ k, ln k ≤ 5) (hul : ∀ k j, j < ln k → u k j < q) (hT : T ≤ 300) (ht : ∀ j, j < T → t j < q) (hns : ns ≤ 13) (hst : ∀ k, k < ns → sl k < 8 ∧ btL li (sl k) ∧ sz k < ln (sl k)) (hk1 : k1 < 8) (hn1 : n1 ≤ ln k1) : Met l yX6_stateOf wsX6_stateOf ({ frames := 2, cells := 0, slots := 0, locals := 48 }) (va_Pc [.ref (ad (62)), .int (nI (k1)), .int (nI (n1))] (xB D (xT cI cJ cZ cW) ad g)) (vp_Si (fun r => (∃ k, k < ns ∧ r = nI k ∧ bgW u k1 n1 (sl k) (sz k)) ∨ (r = -1 ∧ ∀ k, k < ns → ¬ bgW u k1 n1 (sl k) (sz k)))) 0 0 (fun _ => False) := by
  refine Met.ofW (cc := cX6_stateOf) (maxL := 5) (ret := (some .int)) (by decide) rfl ?_
  intro p e s m args below meth c s₁ B hml hv
  obtain ⟨rfl, hP, hK, hN⟩ := hv
  have hx := B.exec
  have hb := B.bytes
  have hr := B.returns
  have hts := atoms_spec (ws := wsX6_stateOf) B.pre
  have hown : s.vm.findClass RX6 = some m.cls := findClass_of_methodNamed B.named
  have hlocks := B.notSynchronized
  have hin6 : ∀ w ∈ wsX60, w ∈ wsX6_stateOf := by decide +kernel
  have hf33 := hts (.fieldLink RX6 33 "LettersByLotModel" "ofSlot" "[I") (by decide +kernel)
  have hf36 := hts (.fieldLink RX6 36 "LettersByLotModel" "ofSize" "[I") (by decide +kernel)
  have hf130 := hts (.fieldLink RX6 130 "LettersByLotModel" "states" "I") (by decide +kernel)
  have hl := lv_entry ([.ref (ad (62)), .int (nI (k1)), .int (nI (n1))]) (n := 5) (Nat.le_of_ble_eq_true rfl)
  rw [lg_entry_eq]
  generalize (lg_sl ([.ref (ad (62)), .int (nI (k1)), .int (nI (n1))]) ++ List.replicate (5 - (lg_sl ([.ref (ad (62)), .int (nI (k1)), .int (nI (n1))])).length) Slot.unset).toArray = ls at hl ⊢
  have hl : lv_has ls 5 [(0, .ref (ad (62))), (1, .int (nI (k1))), (2, .int (nI (n1)))] := hl
  have hm1 := hln k1
  refine lv_iconst (v := (-1)) hx hb dX6_stateOf_0 (by decide) ?_
  refine lv_istore_n (lv' := [(3, .int ((-1))), (0, .ref (ad (62))), (1, .int (nI (k1))), (2, .int (nI (n1)))]) hx hb dX6_stateOf_1 rfl hl (by decide) rfl (fun ls hl => ?_)
  refine lv_iconst (v := nI (0)) hx hb dX6_stateOf_2 (by decide) ?_
  refine lv_istore (lv' := [(4, .int (nI (0))), (3, .int ((-1))), (0, .ref (ad (62))), (1, .int (nI (k1))), (2, .int (nI (n1)))]) hx hb dX6_stateOf_3 hl (by decide) rfl (fun ls hl => ?_)
  refine xloop (G := fun fr => W p l e _ s m _ below meth c _ _ _ _ _ fr) (σ := Nat × Int32) (fun (i, rv) ls => F0 m 5 ls []) (fun (i, rv) ls => (i ≤ ns) ∧ ((∃ k, k < ns ∧ rv = nI k ∧ bgW u k1 n1 (sl k) (sz k)) ∨ (rv = -1 ∧ ∀ k, k < i → ¬ bgW u k1 n1 (sl k) (sz k))) ∧ lv_has ls 5 [(0, .ref (ad (62))), (1, .int (nI (k1))), (2, .int (nI (n1))), (3, .int (rv)), (4, .int (nI (i)))]) (fun (i, rv) => ns - i) ?_ (0, -1) ls ⟨(Nat.zero_le _), (Or.inr ⟨rfl, fun k hk => absurd hk (by omega)⟩), (lv_sub hl [2, 3, 4, 1, 0] rfl)⟩
  rintro ⟨i, rv⟩ ls ⟨hi, hrv, hl⟩ ih5
  refine lv_iload hx hb dX6_stateOf_5 (lv_at hl 4 rfl) ?_
  refine lv_aload_n hx hb dX6_stateOf_7 rfl (lv_at hl 0 rfl) ?_
  refine xw_get hx hb hts hin6 hown hK hP (by decide) fo62 rfl 11 (by decide) hf130 rfl rfl dX6_stateOf_8 ?_
  refine xi_icmp_ge (tgt := 46) hx hb (by omega) (by omega) dX6_stateOf_11 (by decide) (fun c11_1 => ?_) (fun c11_1 => ?_)
  · refine lv_iload_n hx hb dX6_stateOf_46 rfl (lv_at hl 3 rfl) ?_
    exact W.iret (v := rv) hx hb hr (fun tZ ht _ => ⟨_, rfl, (hrv.imp id (fun h => ⟨h.1, fun k hk => h.2 k (by omega)⟩)), ht⟩) (fun q hq => by cases hq) dX6_stateOf_47
  · refine lv_aload_n hx hb dX6_stateOf_14 rfl (lv_at hl 0 rfl) ?_
    refine lv_iload_n hx hb dX6_stateOf_15 rfl (lv_at hl 1 rfl) ?_
    refine lv_iload_n hx hb dX6_stateOf_16 rfl (lv_at hl 2 rfl) ?_
    refine lv_aload_n hx hb dX6_stateOf_17 rfl (lv_at hl 0 rfl) ?_
    refine xw_get hx hb hts hin6 hown hK hP (by decide) fo62 rfl 12 (by decide) hf33 rfl rfl dX6_stateOf_18 ?_
    refine lv_iload hx hb dX6_stateOf_21 (lv_at hl 4 rfl) ?_
    refine xw_iald hx hb hK hP (by decide) 0 fa67 rfl (by omega) (by decide) dX6_stateOf_23 ?_
    rw [hos (i) (by omega)]
    refine lv_aload_n hx hb dX6_stateOf_24 rfl (lv_at hl 0 rfl) ?_
    refine xw_get hx hb hts hin6 hown hK hP (by decide) fo62 rfl 13 (by decide) hf36 rfl rfl dX6_stateOf_25 ?_
    refine lv_iload hx hb dX6_stateOf_28 (lv_at hl 4 rfl) ?_
    refine xw_iald hx hb hK hP (by decide) 0 fa68 rfl (by omega) (by decide) dX6_stateOf_30 ?_
    rw [hoz (i) (by omega)]
    refine vp_callSi (va_Run.run (va_runV (As := [.int (nI (k1)), .int (nI (n1)), .int (nI (sl (i))), .int (nI (sz (i)))]) (rest := []) ⟨hx, hb, hml, hown, hts⟩ (mX6_isBeginning l (w := w) (ln := ln) (t := t) (u := u) (k1 := k1) (n1 := n1) (k2 := sl (i)) (n2 := sz (i)) fo62 fa65 hwl hq2 hq4 hln hul hT ht (by omega) (hst i (by omega)).1 (by omega) (by have h9 := (hst i (by omega)).2.2; omega)) (cwV 4 hts gX6_stateOf_X6_isBeginning rfl rfl rfl (by decide +kernel) ⟨Nat.le_of_ble_eq_true rfl, Nat.le_of_ble_eq_true rfl⟩) ⟨xB_blind, va_recv hK hP (ci := 6) rfl (xw_is (by decide) fo62), fun U hU hW => ⟨rfl, by rw [hU]; exact hP, va_K.moved hW.alike hK, va_Nw.warmM hW hN⟩⟩ rfl rfl hl.1 rfl (lv_room (Nat.le_of_ble_eq_true rfl)) dX6_stateOf_31 ⟨Nat.le_of_ble_eq_true rfl, Nat.le_of_ble_eq_true rfl⟩)) (fun r2 er2 => ?_)
    subst er2
    refine xb_if_eq (tgt := 40) hx hb dX6_stateOf_34 (by decide) (fun c34_3 => ?_) (fun c34_3 => ?_)
    · refine lv_iinc (v := nI (i + 1)) (lv' := [(4, .int (nI (i + 1))), (0, .ref (ad (62))), (1, .int (nI (k1))), (2, .int (nI (n1))), (3, .int (rv))]) hx hb dX6_stateOf_40 hl (k := 4) rfl (nI_add (i) 1) (by decide) rfl (fun ls hl => ?_)
      refine lv_goto (tgt := 5) hx hb dX6_stateOf_43 (by decide) ?_
      exact ih5 (i + 1, rv) ls ⟨(by omega), (hrv.imp id (fun h => ⟨h.1, fun k hk => if e : k = i then by rw [e]; exact c34_3 else h.2 k (by omega)⟩)), (lv_sub hl [1, 2, 3, 4, 0] rfl)⟩ (by first | omega | (dsimp only; omega))
    · refine lv_iload hx hb dX6_stateOf_37 (lv_at hl 4 rfl) ?_
      refine lv_istore_n (lv' := [(3, .int (nI (i))), (0, .ref (ad (62))), (1, .int (nI (k1))), (2, .int (nI (n1))), (4, .int (nI (i)))]) hx hb dX6_stateOf_39 rfl hl (by decide) rfl (fun ls hl => ?_)
      refine lv_iinc (v := nI (i + 1)) (lv' := [(4, .int (nI (i + 1))), (3, .int (nI (i))), (0, .ref (ad (62))), (1, .int (nI (k1))), (2, .int (nI (n1)))]) hx hb dX6_stateOf_40 hl (k := 4) rfl (nI_add (i) 1) (by decide) rfl (fun ls hl => ?_)
      refine lv_goto (tgt := 5) hx hb dX6_stateOf_43 (by decide) ?_
      exact ih5 (i + 1, nI (i)) ls ⟨(by omega), (Or.inl ⟨i, by omega, rfl, c34_3⟩), (lv_sub hl [2, 3, 4, 1, 0] rfl)⟩ (by first | omega | (dsimp only; omega))

set_option maxHeartbeats 4000000 in
set_option maxRecDepth 100000 in
/-- endsIn -/
theorem mX6_endsIn (l : Launch) {D : va_G} {cI cJ cZ cW : ClassId} {ad : Nat → Nat} {g : Nat → va_E} {q Wt T : Nat} {w ln t : Nat → Nat} {u : Nat → Nat → Nat} {tp bt : Int64} {R0 k1 k : Nat} {rw : Nat → Nat} {sq : Int32} {nu de : Int64} {fwd : Nat → Int32} {frw : Nat → Int32}  (fo62 : g (62) = .inr (6, [.int (nI (q)), .int (nI (Wt)), .ref (ad (63)), .ref (ad (64)), .ref (ad (65)), .ref (ad (66)), .int (nI (T)), .long (tp), .long (bt), .long (nu), .long (de), .int (sq), .ref (ad (67)), .ref (ad (68)), .ref (ad (69)), .ref (ad (70)), .ref (ad (71)), .ref (ad (72)), .ref (ad (73)), .ref (ad (74)), .ref (ad (75)), .ref (ad (76)), .ref (ad (77)), .ref (ad (78)), .ref (ad (79)), .ref (ad (80))])) (fa65 : g (65) = .inl (cI, 40, .inl (fwd))) (fa70 : g (70) = .inl (cI, 6, .inl (frw)))  (hwl : ∀ k j, k < 8 → j < ln k → fwd (5 * k + j) = nI (u k j)) (hrw : ∀ j, j < R0 → frw j = nI (rw j)) (hq2 : 2 ≤ q) (hq4 : q ≤ 4) (hln : ∀ k, ln k ≤ 5) (hul : ∀ k j, j < ln k → u k j < q) (hT : T ≤ 300) (ht : ∀ j, j < T → t j < q) (hR0 : R0 ≤ 6) (hrl : ∀ j, j < R0 → rw j < q) (hk1 : k1 < 8) (hk : k ≤ ln k1) : Met l yX6_endsIn wsX6_endsIn ({ frames := 1, cells := 0, slots := 0, locals := 22 }) (va_Pc [.ref (ad (62)), .int (nI (R0)), .int (nI (k1)), .int (nI (k))] (xB D (xT cI cJ cZ cW) ad g)) (vp_Si (fun r => r = if (k ≤ R0 ∧ lapD rw R0 (u k1) k) then 1 else 0)) 0 0 (fun _ => False) := by
  refine Met.ofW (cc := cX6_endsIn) (maxL := 6) (ret := (some .boolean)) (by decide) rfl ?_
  intro p e s m args below meth c s₁ B hml hv
  obtain ⟨rfl, hP, hK, hN⟩ := hv
  have hx := B.exec
  have hb := B.bytes
  have hr := B.returns
  have hts := atoms_spec (ws := wsX6_endsIn) B.pre
  have hown : s.vm.findClass RX6 = some m.cls := findClass_of_methodNamed B.named
  have hlocks := B.notSynchronized
  have hin6 : ∀ w ∈ wsX60, w ∈ wsX6_endsIn := by decide +kernel
  have hf42 := hts (.fieldLink RX6 42 "LettersByLotModel" "row" "[I") (by decide +kernel)
  have hl := lv_entry ([.ref (ad (62)), .int (nI (R0)), .int (nI (k1)), .int (nI (k))]) (n := 6) (Nat.le_of_ble_eq_true rfl)
  rw [lg_entry_eq]
  generalize (lg_sl ([.ref (ad (62)), .int (nI (R0)), .int (nI (k1)), .int (nI (k))]) ++ List.replicate (6 - (lg_sl ([.ref (ad (62)), .int (nI (R0)), .int (nI (k1)), .int (nI (k))])).length) Slot.unset).toArray = ls at hl ⊢
  have hl : lv_has ls 6 [(0, .ref (ad (62))), (1, .int (nI (R0))), (2, .int (nI (k1))), (3, .int (nI (k)))] := hl
  have hm1 := hln k1
  refine lv_iload_n hx hb dX6_endsIn_0 rfl (lv_at hl 3 rfl) ?_
  refine lv_iload_n hx hb dX6_endsIn_1 rfl (lv_at hl 1 rfl) ?_
  refine xi_icmp_gt (tgt := 9) hx hb (by omega) (by omega) dX6_endsIn_2 (by decide) (fun c2_1 => ?_) (fun c2_1 => ?_)
  · refine lv_iconst (v := nI (0)) hx hb dX6_endsIn_9 (by decide) ?_
    refine lv_istore (lv' := [(4, .int (nI (0))), (0, .ref (ad (62))), (1, .int (nI (R0))), (2, .int (nI (k1))), (3, .int (nI (k)))]) hx hb dX6_endsIn_10 hl (by decide) rfl (fun ls hl => ?_)
    refine lv_iconst (v := nI (0)) hx hb dX6_endsIn_12 (by decide) ?_
    refine lv_istore (lv' := [(5, .int (nI (0))), (4, .int (nI (0))), (0, .ref (ad (62))), (1, .int (nI (R0))), (2, .int (nI (k1))), (3, .int (nI (k)))]) hx hb dX6_endsIn_13 hl (by decide) rfl (fun ls hl => ?_)
    refine xloop (G := fun fr => W p l e _ s m _ below meth c _ _ _ _ _ fr) (σ := Nat × Nat) (fun (i, b) ls => F0 m 15 ls []) (fun (i, b) ls => (i ≤ k) ∧ ((b = 1 ∧ k ≤ R0 ∧ ∀ j, j < i → rw (R0 - k + j) = u k1 j) ∨ (b = 0 ∧ ¬ (k ≤ R0 ∧ lapD rw R0 (u k1) k))) ∧ lv_has ls 6 [(0, .ref (ad (62))), (1, .int (nI (R0))), (2, .int (nI (k1))), (3, .int (nI (k))), (4, .int (nI (b))), (5, .int (nI (i)))]) (fun (i, b) => k - i) ?_ (0, 0) ls ⟨(Nat.zero_le _), (Or.inr ⟨rfl, fun h => by have h1 := h.1; omega⟩), (lv_sub hl [2, 3, 4, 5, 1, 0] rfl)⟩
    rintro ⟨i, b⟩ ls ⟨hi, hbq, hl⟩ ih15
    refine lv_iload hx hb dX6_endsIn_15 (lv_at hl 5 rfl) ?_
    refine lv_iload_n hx hb dX6_endsIn_17 rfl (lv_at hl 3 rfl) ?_
    refine xi_icmp_ge (tgt := 60) hx hb (by omega) (by omega) dX6_endsIn_18 (by decide) (fun c18_2 => ?_) (fun c18_2 => ?_)
    · refine lv_iload hx hb dX6_endsIn_60 (lv_at hl 4 rfl) ?_
      exact W.zret (v := nI b) hx hb hr (by rcases hbq with h | h; rw [h.1]; rfl; rw [h.1]; rfl) (fun tZ ht _ => ⟨_, rfl, (by show _ = (if (k ≤ R0 ∧ lapD rw R0 (u k1) k) then 1 else 0); rcases hbq with h | h; rw [h.1]; exact xb1 ⟨h.2.1, fun j hj => h.2.2 j (by omega)⟩; rw [h.1]; exact xb0 h.2), ht⟩) (fun q hq => by cases hq) dX6_endsIn_62
    · refine lv_iload hx hb dX6_endsIn_21 (lv_at hl 4 rfl) ?_
      refine xi_if_eq (tgt := 60) hx hb (by rcases hbq with h | h <;> omega) dX6_endsIn_23 (by decide) (fun c23_3 => ?_) (fun c23_3 => ?_)
      · refine lv_iload hx hb dX6_endsIn_60 (lv_at hl 4 rfl) ?_
        exact W.zret (v := nI b) hx hb hr (by rcases hbq with h | h; rw [h.1]; rfl; rw [h.1]; rfl) (fun tZ ht _ => ⟨_, rfl, (by show _ = (if (k ≤ R0 ∧ lapD rw R0 (u k1) k) then 1 else 0); rcases hbq with h | h; rw [h.1]; exact xb1 ⟨h.2.1, fun j hj => h.2.2 j (by have h5 := c23_3; omega)⟩; rw [h.1]; exact xb0 h.2), ht⟩) (fun q hq => by cases hq) dX6_endsIn_62
      · have hb1 := hbq.resolve_right (fun h => c23_3 h.1)
        have hb1l := hb1.2.1
        refine lv_aload_n hx hb dX6_endsIn_26 rfl (lv_at hl 0 rfl) ?_
        refine xw_get hx hb hts hin6 hown hK hP (by decide) fo62 rfl 15 (by decide) hf42 rfl rfl dX6_endsIn_27 ?_
        refine lv_iload_n hx hb dX6_endsIn_30 rfl (lv_at hl 1 rfl) ?_
        refine lv_iload_n hx hb dX6_endsIn_31 rfl (lv_at hl 3 rfl) ?_
        refine xi_sub hx hb (by omega) dX6_endsIn_32 ?_
        refine lv_iload hx hb dX6_endsIn_33 (lv_at hl 5 rfl) ?_
        refine xi_add hx hb dX6_endsIn_35 ?_
        refine xw_iald hx hb hK hP (by decide) 0 fa70 rfl (by omega) (by decide) dX6_endsIn_36 ?_
        rw [hrw ((R0 - k) + i) (by omega)]
        refine lv_aload_n hx hb dX6_endsIn_37 rfl (lv_at hl 0 rfl) ?_
        refine lv_iload_n hx hb dX6_endsIn_38 rfl (lv_at hl 2 rfl) ?_
        refine lv_iload hx hb dX6_endsIn_39 (lv_at hl 5 rfl) ?_
        refine vp_callSi (va_Run.run (va_runV (As := [.int (nI (k1)), .int (nI (i))]) (rest := [.int (nI (rw ((R0 - k) + i)))]) ⟨hx, hb, hml, hown, hts⟩ (mX6_letterOf l (w := w) (ln := ln) (t := t) (u := u) (s1 := k1) (j1 := i) (vv := u (k1) (i)) fo62 fa65 (by omega) (by have h9 := hln (k1); omega) (hwl (k1) (i) (by omega) (by omega))) (cwV 2 hts gX6_endsIn_X6_letterOf rfl rfl rfl (by decide +kernel) ⟨Nat.le_of_ble_eq_true rfl, Nat.le_of_ble_eq_true rfl⟩) ⟨xB_blind, va_recv hK hP (ci := 6) rfl (xw_is (by decide) fo62), fun U hU hW => ⟨rfl, by rw [hU]; exact hP, va_K.moved hW.alike hK, va_Nw.warmM hW hN⟩⟩ rfl rfl hl.1 rfl (lv_room (Nat.le_of_ble_eq_true rfl)) dX6_endsIn_41 ⟨Nat.le_of_ble_eq_true rfl, Nat.le_of_ble_eq_true rfl⟩)) (fun r4 er4 => ?_)
        subst er4
        refine xi_icmp_ne (tgt := 51) hx hb (Nat.lt_trans (hrl _ (by omega)) (by omega)) (Nat.lt_trans (hul _ _ (by omega)) (by omega)) dX6_endsIn_44 (by decide) (fun c44_5 => ?_) (fun c44_5 => ?_)
        · refine lv_iconst (v := nI (0)) hx hb dX6_endsIn_51 (by decide) ?_
          refine lv_istore (lv' := [(4, .int (nI (0))), (0, .ref (ad (62))), (1, .int (nI (R0))), (2, .int (nI (k1))), (3, .int (nI (k))), (5, .int (nI (i)))]) hx hb dX6_endsIn_52 hl (by decide) rfl (fun ls hl => ?_)
          refine lv_iinc (v := nI (i + 1)) (lv' := [(5, .int (nI (i + 1))), (4, .int (nI (0))), (0, .ref (ad (62))), (1, .int (nI (R0))), (2, .int (nI (k1))), (3, .int (nI (k)))]) hx hb dX6_endsIn_54 hl (k := 5) rfl (nI_add (i) 1) (by decide) rfl (fun ls hl => ?_)
          refine lv_goto (tgt := 15) hx hb dX6_endsIn_57 (by decide) ?_
          exact ih15 (i + 1, 0) ls ⟨(by omega), (Or.inr ⟨rfl, fun h => c44_5 (h.2 i (by omega))⟩), (lv_sub hl [2, 3, 4, 5, 1, 0] rfl)⟩ (by first | omega | (dsimp only; omega))
        · refine lv_iconst (v := nI (1)) hx hb dX6_endsIn_47 (by decide) ?_
          refine lv_goto (tgt := 52) hx hb dX6_endsIn_48 (by decide) ?_
          refine lv_istore (lv' := [(4, .int (nI (1))), (0, .ref (ad (62))), (1, .int (nI (R0))), (2, .int (nI (k1))), (3, .int (nI (k))), (5, .int (nI (i)))]) hx hb dX6_endsIn_52 hl (by decide) rfl (fun ls hl => ?_)
          refine lv_iinc (v := nI (i + 1)) (lv' := [(5, .int (nI (i + 1))), (4, .int (nI (1))), (0, .ref (ad (62))), (1, .int (nI (R0))), (2, .int (nI (k1))), (3, .int (nI (k)))]) hx hb dX6_endsIn_54 hl (k := 5) rfl (nI_add (i) 1) (by decide) rfl (fun ls hl => ?_)
          refine lv_goto (tgt := 15) hx hb dX6_endsIn_57 (by decide) ?_
          exact ih15 (i + 1, 1) ls ⟨(by omega), (Or.inl ⟨rfl, hb1.2.1, fun j hj => if e : j = i then by rw [e]; exact c44_5 else hb1.2.2 j (by omega)⟩), (lv_sub hl [2, 3, 4, 5, 1, 0] rfl)⟩ (by first | omega | (dsimp only; omega))
  · refine lv_iconst (v := nI (1)) hx hb dX6_endsIn_5 (by decide) ?_
    refine lv_goto (tgt := 10) hx hb dX6_endsIn_6 (by decide) ?_
    refine lv_istore (lv' := [(4, .int (nI (1))), (0, .ref (ad (62))), (1, .int (nI (R0))), (2, .int (nI (k1))), (3, .int (nI (k)))]) hx hb dX6_endsIn_10 hl (by decide) rfl (fun ls hl => ?_)
    refine lv_iconst (v := nI (0)) hx hb dX6_endsIn_12 (by decide) ?_
    refine lv_istore (lv' := [(5, .int (nI (0))), (4, .int (nI (1))), (0, .ref (ad (62))), (1, .int (nI (R0))), (2, .int (nI (k1))), (3, .int (nI (k)))]) hx hb dX6_endsIn_13 hl (by decide) rfl (fun ls hl => ?_)
    refine xloop (G := fun fr => W p l e _ s m _ below meth c _ _ _ _ _ fr) (σ := Nat × Nat) (fun (i, b) ls => F0 m 15 ls []) (fun (i, b) ls => (i ≤ k) ∧ ((b = 1 ∧ k ≤ R0 ∧ ∀ j, j < i → rw (R0 - k + j) = u k1 j) ∨ (b = 0 ∧ ¬ (k ≤ R0 ∧ lapD rw R0 (u k1) k))) ∧ lv_has ls 6 [(0, .ref (ad (62))), (1, .int (nI (R0))), (2, .int (nI (k1))), (3, .int (nI (k))), (4, .int (nI (b))), (5, .int (nI (i)))]) (fun (i, b) => k - i) ?_ (0, 1) ls ⟨(Nat.zero_le _), (Or.inl ⟨rfl, by omega, fun j hj => absurd hj (by omega)⟩), (lv_sub hl [2, 3, 4, 5, 1, 0] rfl)⟩
    rintro ⟨i, b⟩ ls ⟨hi, hbq, hl⟩ ih15
    refine lv_iload hx hb dX6_endsIn_15 (lv_at hl 5 rfl) ?_
    refine lv_iload_n hx hb dX6_endsIn_17 rfl (lv_at hl 3 rfl) ?_
    refine xi_icmp_ge (tgt := 60) hx hb (by omega) (by omega) dX6_endsIn_18 (by decide) (fun c18_6 => ?_) (fun c18_6 => ?_)
    · refine lv_iload hx hb dX6_endsIn_60 (lv_at hl 4 rfl) ?_
      exact W.zret (v := nI b) hx hb hr (by rcases hbq with h | h; rw [h.1]; rfl; rw [h.1]; rfl) (fun tZ ht _ => ⟨_, rfl, (by show _ = (if (k ≤ R0 ∧ lapD rw R0 (u k1) k) then 1 else 0); rcases hbq with h | h; rw [h.1]; exact xb1 ⟨h.2.1, fun j hj => h.2.2 j (by omega)⟩; rw [h.1]; exact xb0 h.2), ht⟩) (fun q hq => by cases hq) dX6_endsIn_62
    · refine lv_iload hx hb dX6_endsIn_21 (lv_at hl 4 rfl) ?_
      refine xi_if_eq (tgt := 60) hx hb (by rcases hbq with h | h <;> omega) dX6_endsIn_23 (by decide) (fun c23_7 => ?_) (fun c23_7 => ?_)
      · refine lv_iload hx hb dX6_endsIn_60 (lv_at hl 4 rfl) ?_
        exact W.zret (v := nI b) hx hb hr (by rcases hbq with h | h; rw [h.1]; rfl; rw [h.1]; rfl) (fun tZ ht _ => ⟨_, rfl, (by show _ = (if (k ≤ R0 ∧ lapD rw R0 (u k1) k) then 1 else 0); rcases hbq with h | h; rw [h.1]; exact xb1 ⟨h.2.1, fun j hj => h.2.2 j (by have h5 := c23_7; omega)⟩; rw [h.1]; exact xb0 h.2), ht⟩) (fun q hq => by cases hq) dX6_endsIn_62
      · have hb1 := hbq.resolve_right (fun h => c23_7 h.1)
        have hb1l := hb1.2.1
        refine lv_aload_n hx hb dX6_endsIn_26 rfl (lv_at hl 0 rfl) ?_
        refine xw_get hx hb hts hin6 hown hK hP (by decide) fo62 rfl 15 (by decide) hf42 rfl rfl dX6_endsIn_27 ?_
        refine lv_iload_n hx hb dX6_endsIn_30 rfl (lv_at hl 1 rfl) ?_
        refine lv_iload_n hx hb dX6_endsIn_31 rfl (lv_at hl 3 rfl) ?_
        refine xi_sub hx hb (by omega) dX6_endsIn_32 ?_
        refine lv_iload hx hb dX6_endsIn_33 (lv_at hl 5 rfl) ?_
        refine xi_add hx hb dX6_endsIn_35 ?_
        refine xw_iald hx hb hK hP (by decide) 0 fa70 rfl (by omega) (by decide) dX6_endsIn_36 ?_
        rw [hrw ((R0 - k) + i) (by omega)]
        refine lv_aload_n hx hb dX6_endsIn_37 rfl (lv_at hl 0 rfl) ?_
        refine lv_iload_n hx hb dX6_endsIn_38 rfl (lv_at hl 2 rfl) ?_
        refine lv_iload hx hb dX6_endsIn_39 (lv_at hl 5 rfl) ?_
        refine vp_callSi (va_Run.run (va_runV (As := [.int (nI (k1)), .int (nI (i))]) (rest := [.int (nI (rw ((R0 - k) + i)))]) ⟨hx, hb, hml, hown, hts⟩ (mX6_letterOf l (w := w) (ln := ln) (t := t) (u := u) (s1 := k1) (j1 := i) (vv := u (k1) (i)) fo62 fa65 (by omega) (by have h9 := hln (k1); omega) (hwl (k1) (i) (by omega) (by omega))) (cwV 2 hts gX6_endsIn_X6_letterOf rfl rfl rfl (by decide +kernel) ⟨Nat.le_of_ble_eq_true rfl, Nat.le_of_ble_eq_true rfl⟩) ⟨xB_blind, va_recv hK hP (ci := 6) rfl (xw_is (by decide) fo62), fun U hU hW => ⟨rfl, by rw [hU]; exact hP, va_K.moved hW.alike hK, va_Nw.warmM hW hN⟩⟩ rfl rfl hl.1 rfl (lv_room (Nat.le_of_ble_eq_true rfl)) dX6_endsIn_41 ⟨Nat.le_of_ble_eq_true rfl, Nat.le_of_ble_eq_true rfl⟩)) (fun r8 er8 => ?_)
        subst er8
        refine xi_icmp_ne (tgt := 51) hx hb (Nat.lt_trans (hrl _ (by omega)) (by omega)) (Nat.lt_trans (hul _ _ (by omega)) (by omega)) dX6_endsIn_44 (by decide) (fun c44_9 => ?_) (fun c44_9 => ?_)
        · refine lv_iconst (v := nI (0)) hx hb dX6_endsIn_51 (by decide) ?_
          refine lv_istore (lv' := [(4, .int (nI (0))), (0, .ref (ad (62))), (1, .int (nI (R0))), (2, .int (nI (k1))), (3, .int (nI (k))), (5, .int (nI (i)))]) hx hb dX6_endsIn_52 hl (by decide) rfl (fun ls hl => ?_)
          refine lv_iinc (v := nI (i + 1)) (lv' := [(5, .int (nI (i + 1))), (4, .int (nI (0))), (0, .ref (ad (62))), (1, .int (nI (R0))), (2, .int (nI (k1))), (3, .int (nI (k)))]) hx hb dX6_endsIn_54 hl (k := 5) rfl (nI_add (i) 1) (by decide) rfl (fun ls hl => ?_)
          refine lv_goto (tgt := 15) hx hb dX6_endsIn_57 (by decide) ?_
          exact ih15 (i + 1, 0) ls ⟨(by omega), (Or.inr ⟨rfl, fun h => c44_9 (h.2 i (by omega))⟩), (lv_sub hl [2, 3, 4, 5, 1, 0] rfl)⟩ (by first | omega | (dsimp only; omega))
        · refine lv_iconst (v := nI (1)) hx hb dX6_endsIn_47 (by decide) ?_
          refine lv_goto (tgt := 52) hx hb dX6_endsIn_48 (by decide) ?_
          refine lv_istore (lv' := [(4, .int (nI (1))), (0, .ref (ad (62))), (1, .int (nI (R0))), (2, .int (nI (k1))), (3, .int (nI (k))), (5, .int (nI (i)))]) hx hb dX6_endsIn_52 hl (by decide) rfl (fun ls hl => ?_)
          refine lv_iinc (v := nI (i + 1)) (lv' := [(5, .int (nI (i + 1))), (4, .int (nI (1))), (0, .ref (ad (62))), (1, .int (nI (R0))), (2, .int (nI (k1))), (3, .int (nI (k)))]) hx hb dX6_endsIn_54 hl (k := 5) rfl (nI_add (i) 1) (by decide) rfl (fun ls hl => ?_)
          refine lv_goto (tgt := 15) hx hb dX6_endsIn_57 (by decide) ?_
          exact ih15 (i + 1, 1) ls ⟨(by omega), (Or.inl ⟨rfl, hb1.2.1, fun j hj => if e : j = i then by rw [e]; exact c44_9 else hb1.2.2 j (by omega)⟩), (lv_sub hl [2, 3, 4, 5, 1, 0] rfl)⟩ (by first | omega | (dsimp only; omega))

set_option maxHeartbeats 4000000 in
set_option maxRecDepth 100000 in
/-- next -/
theorem mX6_next (l : Launch) {D : va_G} {cI cJ cZ cW : ClassId} {ad : Nat → Nat} {A : Nat → Prop} (hD : ∀ g, va_D A (xw 81 ad g)) {g : Nat → va_E} {q Wt T : Nat} {w ln t : Nat → Nat} {u : Nat → Nat → Nat} {tp bt : Int64} {k0 c0 li : Nat} {ns : Nat} {sl sz : Nat → Nat} {nu de : Int64} {fsz : Nat → Int32} {fwd : Nat → Int32} {fos : Nat → Int32} {foz : Nat → Int32} {frw : Nat → Int32}  (fo62 : g (62) = .inr (6, [.int (nI (q)), .int (nI (Wt)), .ref (ad (63)), .ref (ad (64)), .ref (ad (65)), .ref (ad (66)), .int (nI (T)), .long (tp), .long (bt), .long (nu), .long (de), .int (nI (ns)), .ref (ad (67)), .ref (ad (68)), .ref (ad (69)), .ref (ad (70)), .ref (ad (71)), .ref (ad (72)), .ref (ad (73)), .ref (ad (74)), .ref (ad (75)), .ref (ad (76)), .ref (ad (77)), .ref (ad (78)), .ref (ad (79)), .ref (ad (80))])) (fa64 : g (64) = .inl (cI, 8, .inl (fsz))) (fa65 : g (65) = .inl (cI, 40, .inl (fwd))) (fa67 : g (67) = .inl (cI, 13, .inl (fos))) (fa68 : g (68) = .inl (cI, 13, .inl (foz))) (fa70 : g (70) = .inl (cI, 6, .inl (frw)))  (hsz : ∀ k, k < 8 → fsz k = nI (ln k)) (hwl : ∀ k j, k < 8 → j < ln k → fwd (5 * k + j) = nI (u k j)) (hos : ∀ k, k < ns → fos k = nI (sl k)) (hoz : ∀ k, k < ns → foz k = nI (sz k))  (hq2 : 2 ≤ q) (hq4 : q ≤ 4) (hln : ∀ k, ln k ≤ 5) (hul : ∀ k j, j < ln k → u k j < q) (hT : T ≤ 300) (ht : ∀ j, j < T → t j < q) (hns : ns ≤ 13) (hst : ∀ k, k < ns → sl k < 8 ∧ btL li (sl k) ∧ sz k < ln (sl k)) (hcm : ∀ s m, s < 8 → btL li s → m < ln s → ∃ k, k < ns ∧ bgW u s m (sl k) (sz k)) (hz0 : sz 0 = 0) (hli : li < 256) (hk0 : k0 < ns) (hc0 : c0 < q) : Met l yX6_next wsX6_next ({ frames := 3, cells := 0, slots := 0, locals := 72 }) (va_Pc [.ref (ad (62)), .int (nI (k0)), .int (nI (c0)), .int (nI (li))] (xB D (xT cI cJ cZ cW) ad g)) (va_Qi (fun r g2 => ∃ gv, r = nI gv ∧ trS u ln li ns sl sz (sz k0 + 1) (rwW u sl sz k0 c0)  gv ∧ ∃ fr2 : Nat → Int32, g2 70 = .inl (cI, 6, .inl (fr2)) ∧ ∀ j : Nat, j ≠ 70 → g2 j = g j) (xB D (xT cI cJ cZ cW) ad) A) 0 0 A := by
  refine Met.ofW (cc := cX6_next) (maxL := 7) (ret := (some .int)) (by decide) rfl ?_
  intro p e s m args below meth c s₁ B hml hv
  obtain ⟨rfl, hP, hK, hN⟩ := hv
  have hx := B.exec
  have hb := B.bytes
  have hr := B.returns
  have hts := atoms_spec (ws := wsX6_next) B.pre
  have hown : s.vm.findClass RX6 = some m.cls := findClass_of_methodNamed B.named
  have hlocks := B.notSynchronized
  have hS : va_S A s.heap s.heap [] := va_S.rf
  have hin6 : ∀ w ∈ wsX60, w ∈ wsX6_next := by decide +kernel
  have hf20 := hts (.fieldLink RX6 20 "LettersByLotModel" "size" "[I") (by decide +kernel)
  have hf33 := hts (.fieldLink RX6 33 "LettersByLotModel" "ofSlot" "[I") (by decide +kernel)
  have hf36 := hts (.fieldLink RX6 36 "LettersByLotModel" "ofSize" "[I") (by decide +kernel)
  have hf42 := hts (.fieldLink RX6 42 "LettersByLotModel" "row" "[I") (by decide +kernel)
  have hl := lv_entry ([.ref (ad (62)), .int (nI (k0)), .int (nI (c0)), .int (nI (li))]) (n := 7) (Nat.le_of_ble_eq_true rfl)
  rw [lg_entry_eq]
  generalize (lg_sl ([.ref (ad (62)), .int (nI (k0)), .int (nI (c0)), .int (nI (li))]) ++ List.replicate (7 - (lg_sl ([.ref (ad (62)), .int (nI (k0)), .int (nI (c0)), .int (nI (li))])).length) Slot.unset).toArray = ls at hl ⊢
  have hl : lv_has ls 7 [(0, .ref (ad (62))), (1, .int (nI (k0))), (2, .int (nI (c0))), (3, .int (nI (li)))] := hl
  have hk0s := hst k0 hk0
  have hk0a := hk0s.1
  have hk0b := hk0s.2.2
  have hk0c := hln (sl k0)
  have hrl : ∀ j, j < (sz k0 + 1) → rwW u sl sz k0 c0 j < q := fun j hj => by unfold rwW; by_cases e : j < sz k0; rw [if_pos e]; exact hul _ _ (by omega); rw [if_neg e]; exact hc0
  refine lv_aload_n hx hb dX6_next_0 rfl (lv_at hl 0 rfl) ?_
  refine xw_get hx hb hts hin6 hown hK hP (by decide) fo62 rfl 13 (by decide) hf36 rfl rfl dX6_next_1 ?_
  refine lv_iload_n hx hb dX6_next_4 rfl (lv_at hl 1 rfl) ?_
  refine xw_iald hx hb hK hP (by decide) 0 fa68 rfl (by omega) (by decide) dX6_next_5 ?_
  rw [hoz (k0) (by omega)]
  refine lv_istore (lv' := [(4, .int (nI (sz (k0)))), (0, .ref (ad (62))), (1, .int (nI (k0))), (2, .int (nI (c0))), (3, .int (nI (li)))]) hx hb dX6_next_6 hl (by decide) rfl (fun ls hl => ?_)
  refine lv_iconst (v := nI (0)) hx hb dX6_next_8 (by decide) ?_
  refine lv_istore (lv' := [(5, .int (nI (0))), (4, .int (nI (sz (k0)))), (0, .ref (ad (62))), (1, .int (nI (k0))), (2, .int (nI (c0))), (3, .int (nI (li)))]) hx hb dX6_next_9 hl (by decide) rfl (fun ls hl => ?_)
  refine xloopW (G := fun H locs fr => W p l e _ s m _ below meth c H locs _ _ _ fr) (σ := Nat × (Nat → Int32)) (fun (i, fx) ls => F0 m 11 ls []) (fun (i, fx) gl11_1 H locs ls => (i ≤ sz k0) ∧ (∀ j, j < i → fx j = nI (u (sl k0) j)) ∧ gl11_1 (62) = .inr (6, [.int (nI (q)), .int (nI (Wt)), .ref (ad (63)), .ref (ad (64)), .ref (ad (65)), .ref (ad (66)), .int (nI (T)), .long (tp), .long (bt), .long (nu), .long (de), .int (nI (ns)), .ref (ad (67)), .ref (ad (68)), .ref (ad (69)), .ref (ad (70)), .ref (ad (71)), .ref (ad (72)), .ref (ad (73)), .ref (ad (74)), .ref (ad (75)), .ref (ad (76)), .ref (ad (77)), .ref (ad (78)), .ref (ad (79)), .ref (ad (80))]) ∧ gl11_1 (64) = .inl (cI, 8, .inl (fsz)) ∧ gl11_1 (65) = .inl (cI, 40, .inl (fwd)) ∧ gl11_1 (67) = .inl (cI, 13, .inl (fos)) ∧ gl11_1 (68) = .inl (cI, 13, .inl (foz)) ∧ gl11_1 (70) = .inl (cI, 6, .inl (fx)) ∧ (∀ j : Nat, j ≠ 70 → gl11_1 j = g j) ∧ va_P D vwCl (xw 81 ad gl11_1) H ∧ va_S A s.heap H locs ∧ lv_has ls 7 [(0, .ref (ad (62))), (1, .int (nI (k0))), (2, .int (nI (c0))), (3, .int (nI (li))), (4, .int (nI (sz k0))), (5, .int (nI (i)))]) (fun (i, fx) => sz k0 - i) ?_ (0, frw) g s.heap [] ls ⟨(Nat.zero_le _), (fun j hj => absurd hj (by omega)), fo62, fa64, fa65, fa67, fa68, fa70, (fun _ _ => rfl), hP, hS, (lv_sub hl [2, 3, 4, 5, 1, 0] rfl)⟩
  rintro ⟨i, fx⟩ gl11_1 H locs ls ⟨hi, hfx, fo62, fa64, fa65, fa67, fa68, fa70, hfrgl11_1, hP, hS, hl⟩ ih11
  refine lv_iload hx hb dX6_next_11 (lv_at hl 5 rfl) ?_
  refine lv_iload hx hb dX6_next_13 (lv_at hl 4 rfl) ?_
  refine xi_icmp_ge (tgt := 43) hx hb (by omega) (by omega) dX6_next_15 (by decide) (fun c15_2 => ?_) (fun c15_2 => ?_)
  · refine lv_aload_n hx hb dX6_next_43 rfl (lv_at hl 0 rfl) ?_
    refine xw_get hx hb hts hin6 hown hK hP (by decide) fo62 rfl 15 (by decide) hf42 rfl rfl dX6_next_44 ?_
    refine lv_iload hx hb dX6_next_47 (lv_at hl 4 rfl) ?_
    refine lv_iload_n hx hb dX6_next_49 rfl (lv_at hl 2 rfl) ?_
    refine xw_iast hx hb hK hP hD hS (by decide) 0 fa70 rfl (by omega) (by decide) dX6_next_50 (fun g3 H locs eg3 hP hS => ?_)
    have fg3_0 : g3 (62) = .inr (6, [.int (nI (q)), .int (nI (Wt)), .ref (ad (63)), .ref (ad (64)), .ref (ad (65)), .ref (ad (66)), .int (nI (T)), .long (tp), .long (bt), .long (nu), .long (de), .int (nI (ns)), .ref (ad (67)), .ref (ad (68)), .ref (ad (69)), .ref (ad (70)), .ref (ad (71)), .ref (ad (72)), .ref (ad (73)), .ref (ad (74)), .ref (ad (75)), .ref (ad (76)), .ref (ad (77)), .ref (ad (78)), .ref (ad (79)), .ref (ad (80))]) := (congrFun eg3 (62)).trans ((va_up_ne _ _ (by decide)).trans fo62)
    have fg3_1 : g3 (64) = .inl (cI, 8, .inl (fsz)) := (congrFun eg3 (64)).trans ((va_up_ne _ _ (by decide)).trans fa64)
    have fg3_2 : g3 (65) = .inl (cI, 40, .inl (fwd)) := (congrFun eg3 (65)).trans ((va_up_ne _ _ (by decide)).trans fa65)
    have fg3_3 : g3 (67) = .inl (cI, 13, .inl (fos)) := (congrFun eg3 (67)).trans ((va_up_ne _ _ (by decide)).trans fa67)
    have fg3_4 : g3 (68) = .inl (cI, 13, .inl (foz)) := (congrFun eg3 (68)).trans ((va_up_ne _ _ (by decide)).trans fa68)
    have fg3_w : g3 (70) = .inl (cI, 6, .inl (upd (fx) (sz k0) (nI (c0)))) := (congrFun eg3 (70)).trans (va_up_self _ _ _)
    have hfrg3 : ∀ j : Nat, j ≠ 70 → g3 j = g j := fun j h0 => (congrFun eg3 j).trans ((va_up_ne _ _ h0).trans (hfrgl11_1 j h0))
    have ei : i = sz k0 := by omega
    have hrw : ∀ j, j < (sz k0 + 1) → upd (fx) (sz k0) (nI (c0)) j = nI (rwW u sl sz k0 c0 j) := fun j hj => by unfold rwW; by_cases e : j = sz k0; rw [e, pk_us, if_neg (by omega)]; rw [pk_un e, if_pos (by omega)]; exact hfx j (by omega)
    refine lv_iload hx hb dX6_next_51 (lv_at hl 4 rfl) ?_
    refine lv_iconst (v := nI (1)) hx hb dX6_next_53 (by decide) ?_
    refine xi_add hx hb dX6_next_54 ?_
    refine lv_istore (lv' := [(5, .int (nI ((sz k0) + 1))), (0, .ref (ad (62))), (1, .int (nI (k0))), (2, .int (nI (c0))), (3, .int (nI (li))), (4, .int (nI (sz k0)))]) hx hb dX6_next_55 hl (by decide) rfl (fun ls hl => ?_)
    refine xloop (G := fun fr => W p l e _ s m _ below meth c _ _ _ _ _ fr) (σ := Nat) (fun d ls => F0 m 57 ls []) (fun d ls => (d ≤ (sz k0 + 1)) ∧ (∀ m s, d < m → m ≤ (sz k0 + 1) → s < 8 → btL li s → m ≤ ln s → ¬ lapD (rwW u sl sz k0 c0) (sz k0 + 1) (u s) m) ∧ lv_has ls 7 [(0, .ref (ad (62))), (1, .int (nI (k0))), (2, .int (nI (c0))), (3, .int (nI (li))), (4, .int (nI (sz k0))), (5, .int (nI (d)))]) (fun d => d) ?_ ((sz k0 + 1)) ls ⟨(Nat.le_refl _), (fun m s h1 h2 => absurd h1 (by omega)), (lv_sub hl [1, 2, 3, 4, 5, 0] rfl)⟩
    rintro d ls ⟨hd, hnl, hl⟩ ih57
    refine lv_iload hx hb dX6_next_57 (lv_at hl 5 rfl) ?_
    refine xi_if_le (tgt := 152) hx hb (by omega) dX6_next_59 (by decide) (fun c59_4 => ?_) (fun c59_4 => ?_)
    · refine lv_iconst (v := nI (0)) hx hb dX6_next_152 (by decide) ?_
      exact W.iret (v := nI (0)) hx hb hr (fun tZ ht hW => ⟨⟨_, g3, rfl, ⟨0, rfl, ⟨0, Nat.zero_le _, fun m s h1 => hnl m s (by omega), Or.inl ⟨by omega, hz0, fun j hj => absurd hj (by omega)⟩⟩, upd (fx) (sz k0) (nI (c0)), fg3_w, hfrg3⟩, by rw [ht]; exact hP, va_K.moved hW.alike hK, va_Nw.warmM hW hN⟩, hS.F ht⟩) hS.2.2 dX6_next_153
    · refine lv_iconst (v := nI (0)) hx hb dX6_next_62 (by decide) ?_
      refine lv_istore (lv' := [(6, .int (nI (0))), (0, .ref (ad (62))), (1, .int (nI (k0))), (2, .int (nI (c0))), (3, .int (nI (li))), (4, .int (nI (sz k0))), (5, .int (nI (d)))]) hx hb dX6_next_63 hl (by decide) rfl (fun ls hl => ?_)
      refine xloop (G := fun fr => W p l e _ s m _ below meth c _ _ _ _ _ fr) (σ := Nat) (fun s0 ls => F0 m 65 ls []) (fun s0 ls => (s0 ≤ 8) ∧ (∀ s, s < s0 → btL li s → d ≤ ln s → ¬ lapD (rwW u sl sz k0 c0) (sz k0 + 1) (u s) d) ∧ lv_has ls 7 [(0, .ref (ad (62))), (1, .int (nI (k0))), (2, .int (nI (c0))), (3, .int (nI (li))), (4, .int (nI (sz k0))), (5, .int (nI (d))), (6, .int (nI (s0)))]) (fun s0 => 8 - s0) ?_ (0) ls ⟨(Nat.zero_le _), (fun s hs => absurd hs (by omega)), (lv_sub hl [1, 2, 3, 4, 5, 6, 0] rfl)⟩
      rintro s0 ls ⟨hs0, hns, hl⟩ ih65
      refine lv_iload hx hb dX6_next_65 (lv_at hl 6 rfl) ?_
      refine lv_bipush (v := nI (8)) hx hb dX6_next_67 (by decide) ?_
      refine xi_icmp_ge (tgt := 146) hx hb (by omega) (by decide) dX6_next_69 (by decide) (fun c69_5 => ?_) (fun c69_5 => ?_)
      · refine lv_iinc (v := nI (d - 1)) (lv' := [(5, .int (nI (d - 1))), (0, .ref (ad (62))), (1, .int (nI (k0))), (2, .int (nI (c0))), (3, .int (nI (li))), (4, .int (nI (sz k0))), (6, .int (nI (s0)))]) hx hb dX6_next_146 hl (k := 5) rfl (sb_m1 (by omega)) (by decide) rfl (fun ls hl => ?_)
        refine lv_goto (tgt := 57) hx hb dX6_next_149 (by decide) ?_
        exact ih57 (d - 1) ls ⟨(by omega), (fun m s h1 h2 h3 h4 h5 => if e : m = d then by rw [e] at h5 ⊢; exact hns s (by omega) h4 h5 else hnl m s (by omega) h2 h3 h4 h5), (lv_sub hl [1, 2, 3, 4, 5, 0] rfl)⟩ (by first | omega | (dsimp only; omega))
      · refine lv_iload_n hx hb dX6_next_72 rfl (lv_at hl 3 rfl) ?_
        refine lv_iload hx hb dX6_next_73 (lv_at hl 6 rfl) ?_
        refine lv_ishr hx hb dX6_next_75 ?_
        refine xtopi (y := nI (li / 2 ^ s0)) (nI_shr (by omega) (by omega)) ?_
        refine lv_iconst (v := nI (1)) hx hb dX6_next_76 (by decide) ?_
        refine lv_iand hx hb dX6_next_77 ?_
        refine xtopi (y := nI (li / 2 ^ s0 % 2)) (and1 _) ?_
        refine xi_if_eq (tgt := 140) hx hb (by omega) dX6_next_78 (by decide) (fun c78_8 => ?_) (fun c78_8 => ?_)
        · refine lv_iinc (v := nI (s0 + 1)) (lv' := [(6, .int (nI (s0 + 1))), (0, .ref (ad (62))), (1, .int (nI (k0))), (2, .int (nI (c0))), (3, .int (nI (li))), (4, .int (nI (sz k0))), (5, .int (nI (d)))]) hx hb dX6_next_140 hl (k := 6) rfl (nI_add (s0) 1) (by decide) rfl (fun ls hl => ?_)
          refine lv_goto (tgt := 65) hx hb dX6_next_143 (by decide) ?_
          exact ih65 (s0 + 1) ls ⟨(by omega), (fun s h1 h2 h3 => if e : s = s0 then by rw [e] at h2 h3 ⊢; exact absurd h2 (by have h9 := c78_8; omega) else hns s (by omega) h2 h3), (lv_sub hl [1, 2, 3, 4, 5, 6, 0] rfl)⟩ (by first | omega | (dsimp only; omega))
        · refine lv_iload hx hb dX6_next_81 (lv_at hl 5 rfl) ?_
          refine lv_aload_n hx hb dX6_next_83 rfl (lv_at hl 0 rfl) ?_
          refine xw_get hx hb hts hin6 hown hK hP (by decide) fg3_0 rfl 3 (by decide) hf20 rfl rfl dX6_next_84 ?_
          refine lv_iload hx hb dX6_next_87 (lv_at hl 6 rfl) ?_
          refine xw_iald hx hb hK hP (by decide) 0 fg3_1 rfl (by omega) (by decide) dX6_next_89 ?_
          rw [hsz (s0) (by omega)]
          refine xi_icmp_gt (tgt := 140) hx hb (by omega) (by have h9 := hln s0; omega) dX6_next_90 (by decide) (fun c90_9 => ?_) (fun c90_9 => ?_)
          · refine lv_iinc (v := nI (s0 + 1)) (lv' := [(6, .int (nI (s0 + 1))), (0, .ref (ad (62))), (1, .int (nI (k0))), (2, .int (nI (c0))), (3, .int (nI (li))), (4, .int (nI (sz k0))), (5, .int (nI (d)))]) hx hb dX6_next_140 hl (k := 6) rfl (nI_add (s0) 1) (by decide) rfl (fun ls hl => ?_)
            refine lv_goto (tgt := 65) hx hb dX6_next_143 (by decide) ?_
            exact ih65 (s0 + 1) ls ⟨(by omega), (fun s h1 h2 h3 => if e : s = s0 then by rw [e] at h2 h3 ⊢; exact absurd h3 (by omega) else hns s (by omega) h2 h3), (lv_sub hl [1, 2, 3, 4, 5, 6, 0] rfl)⟩ (by first | omega | (dsimp only; omega))
          · refine lv_aload_n hx hb dX6_next_93 rfl (lv_at hl 0 rfl) ?_
            refine lv_iload hx hb dX6_next_94 (lv_at hl 4 rfl) ?_
            refine lv_iconst (v := nI (1)) hx hb dX6_next_96 (by decide) ?_
            refine xi_add hx hb dX6_next_97 ?_
            refine lv_iload hx hb dX6_next_98 (lv_at hl 6 rfl) ?_
            refine lv_iload hx hb dX6_next_100 (lv_at hl 5 rfl) ?_
            refine vp_callSi (va_Run.run (va_runV (As := [.int (nI ((sz k0) + 1)), .int (nI (s0)), .int (nI (d))]) (rest := []) ⟨hx, hb, hml, hown, hts⟩ (mX6_endsIn l (w := w) (ln := ln) (t := t) (u := u) (R0 := sz k0 + 1) (rw := rwW u sl sz k0 c0) fg3_0 fg3_2 fg3_w hwl hrw hq2 hq4 hln hul hT ht (by omega) hrl (by omega) (by omega)) (cwV 3 hts gX6_next_X6_endsIn rfl rfl rfl (by decide +kernel) ⟨Nat.le_of_ble_eq_true rfl, Nat.le_of_ble_eq_true rfl⟩) ⟨xB_blind, va_recv hK hP (ci := 6) rfl (xw_is (by decide) fg3_0), fun U hU hW => ⟨rfl, by rw [hU]; exact hP, va_K.moved hW.alike hK, va_Nw.warmM hW hN⟩⟩ rfl rfl hl.1 rfl (lv_room (Nat.le_of_ble_eq_true rfl)) dX6_next_102 ⟨Nat.le_of_ble_eq_true rfl, Nat.le_of_ble_eq_true rfl⟩)) (fun r10 er10 => ?_)
            subst er10
            refine xb_if_ne (tgt := 111) hx hb dX6_next_105 (by decide) (fun c105_11 => ?_) (fun c105_11 => ?_)
            · refine lv_iload hx hb dX6_next_111 (lv_at hl 5 rfl) ?_
              refine lv_aload_n hx hb dX6_next_113 rfl (lv_at hl 0 rfl) ?_
              refine xw_get hx hb hts hin6 hown hK hP (by decide) fg3_0 rfl 3 (by decide) hf20 rfl rfl dX6_next_114 ?_
              refine lv_iload hx hb dX6_next_117 (lv_at hl 6 rfl) ?_
              refine xw_iald hx hb hK hP (by decide) 0 fg3_1 rfl (by omega) (by decide) dX6_next_119 ?_
              rw [hsz (s0) (by omega)]
              refine xi_icmp_ne (tgt := 131) hx hb (by omega) (by have h9 := hln s0; omega) dX6_next_120 (by decide) (fun c120_12 => ?_) (fun c120_12 => ?_)
              · refine lv_aload_n hx hb dX6_next_131 rfl (lv_at hl 0 rfl) ?_
                refine lv_iload hx hb dX6_next_132 (lv_at hl 6 rfl) ?_
                refine lv_iload hx hb dX6_next_134 (lv_at hl 5 rfl) ?_
                refine vp_callSi (va_Run.run (va_runV (As := [.int (nI (s0)), .int (nI (d))]) (rest := []) ⟨hx, hb, hml, hown, hts⟩ (mX6_stateOf l (w := w) (ln := ln) (t := t) (u := u) (k1 := s0) (n1 := d) (li := li) fg3_0 fg3_2 fg3_3 fg3_4 hwl hos hoz hq2 hq4 hln hul hT ht (by omega) hst (by omega) (by omega)) (cwV 2 hts gX6_next_X6_stateOf rfl rfl rfl (by decide +kernel) ⟨Nat.le_of_ble_eq_true rfl, Nat.le_of_ble_eq_true rfl⟩) ⟨xB_blind, va_recv hK hP (ci := 6) rfl (xw_is (by decide) fg3_0), fun U hU hW => ⟨rfl, by rw [hU]; exact hP, va_K.moved hW.alike hK, va_Nw.warmM hW hN⟩⟩ rfl rfl hl.1 rfl (lv_room (Nat.le_of_ble_eq_true rfl)) dX6_next_136 ⟨Nat.le_of_ble_eq_true rfl, Nat.le_of_ble_eq_true rfl⟩)) (fun r13 er13 => ?_)
                rcases er13 with ⟨gv, hgv1, rfl, hgv2⟩ | ⟨rfl, hno⟩
                · exact W.iret (v := nI (gv)) hx hb hr (fun tZ ht hW => ⟨⟨_, g3, rfl, ⟨gv, rfl, ⟨d, by omega, hnl, Or.inl ⟨hgv1, hgv2.1.symm, fun j hj => by rw [← hgv2.2 j hj]; exact (c105_11.2 j hj).symm⟩⟩, upd (fx) (sz k0) (nI (c0)), fg3_w, hfrg3⟩, by rw [ht]; exact hP, va_K.moved hW.alike hK, va_Nw.warmM hW hN⟩, hS.F ht⟩) hS.2.2 dX6_next_139
                · obtain ⟨k9, h8, h9⟩ := hcm s0 d (by omega) (by have h9 := c78_8; omega) (by omega)
                  exact absurd h9 (hno k9 h8)
              · refine lv_bipush (v := nI (100)) hx hb dX6_next_123 (by decide) ?_
                refine lv_iload hx hb dX6_next_125 (lv_at hl 6 rfl) ?_
                refine xi_add hx hb dX6_next_127 ?_
                refine lv_goto (tgt := 139) hx hb dX6_next_128 (by decide) ?_
                exact W.iret (v := nI (100 + s0)) hx hb hr (fun tZ ht hW => ⟨⟨_, g3, rfl, ⟨100 + s0, rfl, ⟨d, by omega, hnl, Or.inr ⟨s0, by omega, by have h9 := c78_8; omega, rfl, by omega, c105_11.2⟩⟩, upd (fx) (sz k0) (nI (c0)), fg3_w, hfrg3⟩, by rw [ht]; exact hP, va_K.moved hW.alike hK, va_Nw.warmM hW hN⟩, hS.F ht⟩) hS.2.2 dX6_next_139
            · refine lv_goto (tgt := 140) hx hb dX6_next_108 (by decide) ?_
              refine lv_iinc (v := nI (s0 + 1)) (lv' := [(6, .int (nI (s0 + 1))), (0, .ref (ad (62))), (1, .int (nI (k0))), (2, .int (nI (c0))), (3, .int (nI (li))), (4, .int (nI (sz k0))), (5, .int (nI (d)))]) hx hb dX6_next_140 hl (k := 6) rfl (nI_add (s0) 1) (by decide) rfl (fun ls hl => ?_)
              refine lv_goto (tgt := 65) hx hb dX6_next_143 (by decide) ?_
              exact ih65 (s0 + 1) ls ⟨(by omega), (fun s h1 h2 h3 => if e : s = s0 then by rw [e] at h2 h3 ⊢; exact fun h => c105_11 ⟨by omega, h⟩ else hns s (by omega) h2 h3), (lv_sub hl [1, 2, 3, 4, 5, 6, 0] rfl)⟩ (by first | omega | (dsimp only; omega))
  · refine lv_aload_n hx hb dX6_next_18 rfl (lv_at hl 0 rfl) ?_
    refine xw_get hx hb hts hin6 hown hK hP (by decide) fo62 rfl 15 (by decide) hf42 rfl rfl dX6_next_19 ?_
    refine lv_iload hx hb dX6_next_22 (lv_at hl 5 rfl) ?_
    refine lv_aload_n hx hb dX6_next_24 rfl (lv_at hl 0 rfl) ?_
    refine lv_aload_n hx hb dX6_next_25 rfl (lv_at hl 0 rfl) ?_
    refine xw_get hx hb hts hin6 hown hK hP (by decide) fo62 rfl 12 (by decide) hf33 rfl rfl dX6_next_26 ?_
    refine lv_iload_n hx hb dX6_next_29 rfl (lv_at hl 1 rfl) ?_
    refine xw_iald hx hb hK hP (by decide) 0 fa67 rfl (by omega) (by decide) dX6_next_30 ?_
    rw [hos (k0) (by omega)]
    refine lv_iload hx hb dX6_next_31 (lv_at hl 5 rfl) ?_
    refine vp_callSi (va_Run.run (va_runV (As := [.int (nI (sl (k0))), .int (nI (i))]) (rest := [.int (nI (i)), .ref (ad (70))]) ⟨hx, hb, hml, hown, hts⟩ (mX6_letterOf l (w := w) (ln := ln) (t := t) (u := u) (s1 := sl (k0)) (j1 := i) (vv := u (sl (k0)) (i)) fo62 fa65 (by omega) (by have h9 := hln (sl (k0)); omega) (hwl (sl (k0)) (i) (by omega) (by omega))) (cwV 2 hts gX6_next_X6_letterOf rfl rfl rfl (by decide +kernel) ⟨Nat.le_of_ble_eq_true rfl, Nat.le_of_ble_eq_true rfl⟩) ⟨xB_blind, va_recv hK hP (ci := 6) rfl (xw_is (by decide) fo62), fun U hU hW => ⟨rfl, by rw [hU]; exact hP, va_K.moved hW.alike hK, va_Nw.warmM hW hN⟩⟩ rfl rfl hl.1 rfl (lv_room (Nat.le_of_ble_eq_true rfl)) dX6_next_33 ⟨Nat.le_of_ble_eq_true rfl, Nat.le_of_ble_eq_true rfl⟩)) (fun r14 er14 => ?_)
    subst er14
    refine xw_iast hx hb hK hP hD hS (by decide) 0 fa70 rfl (by omega) (by decide) dX6_next_36 (fun g15 H locs eg15 hP hS => ?_)
    have fg15_0 : g15 (62) = .inr (6, [.int (nI (q)), .int (nI (Wt)), .ref (ad (63)), .ref (ad (64)), .ref (ad (65)), .ref (ad (66)), .int (nI (T)), .long (tp), .long (bt), .long (nu), .long (de), .int (nI (ns)), .ref (ad (67)), .ref (ad (68)), .ref (ad (69)), .ref (ad (70)), .ref (ad (71)), .ref (ad (72)), .ref (ad (73)), .ref (ad (74)), .ref (ad (75)), .ref (ad (76)), .ref (ad (77)), .ref (ad (78)), .ref (ad (79)), .ref (ad (80))]) := (congrFun eg15 (62)).trans ((va_up_ne _ _ (by decide)).trans fo62)
    have fg15_1 : g15 (64) = .inl (cI, 8, .inl (fsz)) := (congrFun eg15 (64)).trans ((va_up_ne _ _ (by decide)).trans fa64)
    have fg15_2 : g15 (65) = .inl (cI, 40, .inl (fwd)) := (congrFun eg15 (65)).trans ((va_up_ne _ _ (by decide)).trans fa65)
    have fg15_3 : g15 (67) = .inl (cI, 13, .inl (fos)) := (congrFun eg15 (67)).trans ((va_up_ne _ _ (by decide)).trans fa67)
    have fg15_4 : g15 (68) = .inl (cI, 13, .inl (foz)) := (congrFun eg15 (68)).trans ((va_up_ne _ _ (by decide)).trans fa68)
    have fg15_w : g15 (70) = .inl (cI, 6, .inl (upd (fx) (i) (nI (u (sl (k0)) (i))))) := (congrFun eg15 (70)).trans (va_up_self _ _ _)
    have hfrg15 : ∀ j : Nat, j ≠ 70 → g15 j = g j := fun j h0 => (congrFun eg15 j).trans ((va_up_ne _ _ h0).trans (hfrgl11_1 j h0))
    refine lv_iinc (v := nI (i + 1)) (lv' := [(5, .int (nI (i + 1))), (0, .ref (ad (62))), (1, .int (nI (k0))), (2, .int (nI (c0))), (3, .int (nI (li))), (4, .int (nI (sz k0)))]) hx hb dX6_next_37 hl (k := 5) rfl (nI_add (i) 1) (by decide) rfl (fun ls hl => ?_)
    refine lv_goto (tgt := 11) hx hb dX6_next_40 (by decide) ?_
    exact ih11 (i + 1, upd (fx) (i) (nI (u (sl (k0)) (i)))) g15 H locs ls ⟨(by omega), (fun j hj => by by_cases e : j = i; subst e; rw [pk_us]; rw [pk_un e]; exact hfx j (by omega)), fg15_0, fg15_1, fg15_2, fg15_3, fg15_4, fg15_w, hfrg15, hP, hS, (lv_sub hl [1, 2, 3, 4, 5, 0] rfl)⟩ (by first | omega | (dsimp only; omega))
