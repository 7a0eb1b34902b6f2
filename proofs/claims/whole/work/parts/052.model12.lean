/-- what a slot of a LIST keeps to -/
abbrev okL (ln : Nat → Nat) (u : Nat → Nat → Nat) (L a : Nat) : Prop := btL L a → 0 < ln a ∧ ∀ y, y < 8 → y ≠ a → btL L y → 0 < ln y ∧ ¬ liesW (u a) (ln a) (u y) (ln y)
def isLs (ln : Nat → Nat) (u : Nat → Nat → Nat) (L : Nat) : Prop := (∀ a, a < 8 → okL ln u L a) ∧ cntS (fun s => decide (btL L s)) 8 ≤ 3
theorem ls_bad {x : Int32} (h : x = 0 ∨ ¬ (x &&& (-256)) = 0) : x ≤ 0 ∨ nI 255 < x := by
  rcases Classical.em (x ≤ 0) with h1 | h1
  · exact Or.inl h1
  · right
    rw [Int32.not_le] at h1
    rcases pk_ix x (n := 256) (by decide) with h2 | h2 | ⟨j, hj, rfl⟩
    · rw [Int32.lt_iff_toInt_lt] at h1 h2; have e0 : (0 : Int32).toInt = 0 := (by decide); omega
    · rw [Int32.le_iff_toInt_le] at h2; rw [Int32.lt_iff_toInt_lt]
      have e1 : (nI 256).toInt = 256 := by decide
      have e2 : (nI 255).toInt = 255 := by decide
      omega
    · rcases h with h | h
      · rw [h] at h1; exact absurd h1 (by decide)
      · exact absurd (and256 j hj) h
set_option maxHeartbeats 4000000 in
set_option maxRecDepth 100000 in
/-- isList -/
theorem mX6_isList_in (l : Launch) {D : va_G} {cI cJ cZ cW : ClassId} {ad : Nat → Nat} {g : Nat → va_E} {q Wt T : Nat} {w ln t : Nat → Nat} {u : Nat → Nat → Nat} {tp bt : Int64} {Lq : Nat} {sq : Int32} {nu de : Int64} {fsz : Nat → Int32} {fwd : Nat → Int32}  (fo62 : g (62) = .inr (6, [.int (nI (q)), .int (nI (Wt)), .ref (ad (63)), .ref (ad (64)), .ref (ad (65)), .ref (ad (66)), .int (nI (T)), .long (tp), .long (bt), .long (nu), .long (de), .int (sq), .ref (ad (67)), .ref (ad (68)), .ref (ad (69)), .ref (ad (70)), .ref (ad (71)), .ref (ad (72)), .ref (ad (73)), .ref (ad (74)), .ref (ad (75)), .ref (ad (76)), .ref (ad (77)), .ref (ad (78)), .ref (ad (79)), .ref (ad (80))])) (fa64 : g (64) = .inl (cI, 8, .inl (fsz))) (fa65 : g (65) = .inl (cI, 40, .inl (fwd)))  (hsz : ∀ k, k < 8 → fsz k = nI (ln k)) (hwl : ∀ k j, k < 8 → j < ln k → fwd (5 * k + j) = nI (u k j)) (hq2 : 2 ≤ q) (hq4 : q ≤ 4) (hln : ∀ k, ln k ≤ 5) (hul : ∀ k j, j < ln k → u k j < q) (hT : T ≤ 300) (ht : ∀ j, j < T → t j < q) (hL1 : 1 ≤ Lq) (hL2 : Lq < 256) : Met l yX6_isList wsX6_isList ({ frames := 2, cells := 0, slots := 0, locals := 48 }) (va_Pc [.ref (ad (62)), .int (nI (Lq))] (xB D (xT cI cJ cZ cW) ad g)) (vp_Si (fun r => (r = nI 1 ∧ isLs ln u Lq) ∨ (r = nI 0 ∧ ¬ isLs ln u Lq))) 0 0 (fun _ => False) := by
  refine Met.ofW (cc := cX6_isList) (maxL := 6) (ret := (some .boolean)) (by decide) rfl ?_
  intro p e s m args below meth c s₁ B hml hv
  obtain ⟨rfl, hP, hK, hN⟩ := hv
  have hx := B.exec
  have hb := B.bytes
  have hr := B.returns
  have hts := atoms_spec (ws := wsX6_isList) B.pre
  have hown : s.vm.findClass RX6 = some m.cls := findClass_of_methodNamed B.named
  have hlocks := B.notSynchronized
  have hin6 : ∀ w ∈ wsX60, w ∈ wsX6_isList := by decide +kernel
  have hf20 := hts (.fieldLink RX6 20 "LettersByLotModel" "size" "[I") (by decide +kernel)
  have hl := lv_entry ([.ref (ad (62)), .int (nI (Lq))]) (n := 6) (Nat.le_of_ble_eq_true rfl)
  rw [lg_entry_eq]
  generalize (lg_sl ([.ref (ad (62)), .int (nI (Lq))]) ++ List.replicate (6 - (lg_sl ([.ref (ad (62)), .int (nI (Lq))])).length) Slot.unset).toArray = ls at hl ⊢
  have hl : lv_has ls 6 [(0, .ref (ad (62))), (1, .int (nI (Lq)))] := hl
  refine lv_iload_n hx hb dX6_isList_0 rfl (lv_at hl 1 rfl) ?_
  refine xi_if_le (tgt := 11) hx hb (by omega) dX6_isList_1 (by decide) (fun c1_1 => ?_) (fun c1_1 => ?_)
  · exact absurd c1_1 (by omega)
  · refine lv_iload_n hx hb dX6_isList_4 rfl (lv_at hl 1 rfl) ?_
    refine lv_sipush (v := nI (255)) hx hb dX6_isList_5 (by decide) ?_
    refine xi_icmp_le (tgt := 13) hx hb (by omega) (by decide) dX6_isList_8 (by decide) (fun c8_2 => ?_) (fun c8_2 => ?_)
    · refine lv_iconst (v := nI (0)) hx hb dX6_isList_13 (by decide) ?_
      refine lv_istore_n (lv' := [(2, .int (nI (0))), (0, .ref (ad (62))), (1, .int (nI (Lq)))]) hx hb dX6_isList_14 rfl hl (by decide) rfl (fun ls hl => ?_)
      refine lv_iconst (v := nI (1)) hx hb dX6_isList_15 (by decide) ?_
      refine lv_istore_n (lv' := [(3, .int (nI (1))), (2, .int (nI (0))), (0, .ref (ad (62))), (1, .int (nI (Lq)))]) hx hb dX6_isList_16 rfl hl (by decide) rfl (fun ls hl => ?_)
      refine lv_iconst (v := nI (0)) hx hb dX6_isList_17 (by decide) ?_
      refine lv_istore (lv' := [(4, .int (nI (0))), (3, .int (nI (1))), (2, .int (nI (0))), (0, .ref (ad (62))), (1, .int (nI (Lq)))]) hx hb dX6_isList_18 hl (by decide) rfl (fun ls hl => ?_)
      refine xloop (G := fun fr => W p l e _ s m _ below meth c _ _ _ _ _ fr) (σ := Nat × Nat) (fun (i, b) ls => F0 m 20 ls []) (fun (i, b) ls => (i ≤ 8) ∧ ((b = 1 ∧ ∀ a, a < i → okL ln u Lq a) ∨ (b = 0 ∧ ¬ (∀ a, a < 8 → okL ln u Lq a))) ∧ lv_has ls 6 [(0, .ref (ad (62))), (1, .int (nI (Lq))), (2, .int (nI (cntS (fun s => decide (btL Lq s)) (i)))), (3, .int (nI (b))), (4, .int (nI (i)))]) (fun (i, b) => 8 - i) ?_ (0, 1) ls ⟨(Nat.zero_le _), (Or.inl ⟨rfl, fun a ha => absurd ha (by omega)⟩), (lv_sub hl [3, 4, 2, 1, 0] rfl)⟩
      rintro ⟨i, b⟩ ls ⟨hi, hbo, hl⟩ ih20
      refine lv_iload hx hb dX6_isList_20 (lv_at hl 4 rfl) ?_
      refine lv_bipush (v := nI (8)) hx hb dX6_isList_22 (by decide) ?_
      refine xi_icmp_ge (tgt := 132) hx hb (by omega) (by decide) dX6_isList_24 (by decide) (fun c24_3 => ?_) (fun c24_3 => ?_)
      · refine lv_iload_n hx hb dX6_isList_132 rfl (lv_at hl 3 rfl) ?_
        refine xi_if_eq (tgt := 145) hx hb (by rcases hbo with h | h <;> omega) dX6_isList_133 (by decide) (fun c133_4 => ?_) (fun c133_4 => ?_)
        · refine lv_iconst (v := nI (0)) hx hb dX6_isList_145 (by decide) ?_
          exact W.zret (v := nI (0)) hx hb hr (by decide) (fun tZ ht _ => ⟨_, rfl, Or.inr ⟨rfl, fun h => (hbo.resolve_left (fun h => absurd h.1 (by have h9 := c133_4; omega))).2 h.1⟩, ht⟩) (fun q hq => by cases hq) dX6_isList_146
        · refine lv_iload_n hx hb dX6_isList_136 rfl (lv_at hl 2 rfl) ?_
          refine lv_iconst (v := nI (4)) hx hb dX6_isList_137 (by decide) ?_
          refine xi_icmp_ge (tgt := 145) hx hb (by have h9 := cntS_le (P := fun s => decide (btL Lq s)) i; omega) (by decide) dX6_isList_138 (by decide) (fun c138_5 => ?_) (fun c138_5 => ?_)
          · refine lv_iconst (v := nI (0)) hx hb dX6_isList_145 (by decide) ?_
            exact W.zret (v := nI (0)) hx hb hr (by decide) (fun tZ ht _ => ⟨_, rfl, Or.inr ⟨rfl, fun h => by have h8 := h.2; have h9 := c138_5; rw [show i = 8 by omega] at h9; omega⟩, ht⟩) (fun q hq => by cases hq) dX6_isList_146
          · refine lv_iconst (v := nI (1)) hx hb dX6_isList_141 (by decide) ?_
            refine lv_goto (tgt := 146) hx hb dX6_isList_142 (by decide) ?_
            exact W.zret (v := nI (1)) hx hb hr (by decide) (fun tZ ht _ => ⟨_, rfl, Or.inl ⟨rfl, fun a ha => (hbo.resolve_right (fun h => c133_4 h.1)).2 a (by omega), by have h9 := c138_5; rw [show i = 8 by omega] at h9; omega⟩, ht⟩) (fun q hq => by cases hq) dX6_isList_146
      · refine lv_iload_n hx hb dX6_isList_27 rfl (lv_at hl 1 rfl) ?_
        refine lv_iload hx hb dX6_isList_28 (lv_at hl 4 rfl) ?_
        refine lv_ishr hx hb dX6_isList_30 ?_
        refine xtopi (y := nI (Lq / 2 ^ i)) (nI_shr (by omega) (by omega)) ?_
        refine lv_iconst (v := nI (1)) hx hb dX6_isList_31 (by decide) ?_
        refine lv_iand hx hb dX6_isList_32 ?_
        refine xtopi (y := nI (Lq / 2 ^ i % 2)) (and1 _) ?_
        refine xi_if_ne (tgt := 39) hx hb (by omega) dX6_isList_33 (by decide) (fun c33_8 => ?_) (fun c33_8 => ?_)
        · have hbit : btL Lq i := by have h9 := c33_8; show _ = 1; omega
          refine lv_iinc (v := nI (cntS (fun s => decide (btL Lq s)) (i) + 1)) (lv' := [(2, .int (nI (cntS (fun s => decide (btL Lq s)) (i) + 1))), (0, .ref (ad (62))), (1, .int (nI (Lq))), (3, .int (nI (b))), (4, .int (nI (i)))]) hx hb dX6_isList_39 hl (k := 2) rfl (nI_add (cntS (fun s => decide (btL Lq s)) (i)) 1) (by decide) rfl (fun ls hl => ?_)
          refine lv_iload_n hx hb dX6_isList_42 rfl (lv_at hl 3 rfl) ?_
          refine xi_if_eq (tgt := 60) hx hb (by rcases hbo with h | h <;> omega) dX6_isList_43 (by decide) (fun c43_9 => ?_) (fun c43_9 => ?_)
          · refine lv_iconst (v := nI (0)) hx hb dX6_isList_60 (by decide) ?_
            refine lv_istore_n (lv' := [(3, .int (nI (0))), (2, .int (nI (cntS (fun s => decide (btL Lq s)) (i) + 1))), (0, .ref (ad (62))), (1, .int (nI (Lq))), (4, .int (nI (i)))]) hx hb dX6_isList_61 rfl hl (by decide) rfl (fun ls hl => ?_)
            refine lv_iconst (v := nI (0)) hx hb dX6_isList_62 (by decide) ?_
            refine lv_istore (lv' := [(5, .int (nI (0))), (3, .int (nI (0))), (2, .int (nI (cntS (fun s => decide (btL Lq s)) (i) + 1))), (0, .ref (ad (62))), (1, .int (nI (Lq))), (4, .int (nI (i)))]) hx hb dX6_isList_63 hl (by decide) rfl (fun ls hl => ?_)
            refine xloop (G := fun fr => W p l e _ s m _ below meth c _ _ _ _ _ fr) (σ := Nat × Nat) (fun (j, b2) ls => F0 m 65 ls []) (fun (j, b2) ls => (j ≤ 8) ∧ ((b2 = 1 ∧ (∀ a, a < i → okL ln u Lq a) ∧ 0 < ln i ∧ ∀ y, y < j → y ≠ i → btL Lq y → 0 < ln y ∧ ¬ liesW (u i) (ln i) (u y) (ln y)) ∨ (b2 = 0 ∧ ¬ (∀ a, a < 8 → okL ln u Lq a))) ∧ lv_has ls 6 [(0, .ref (ad (62))), (1, .int (nI (Lq))), (2, .int (nI (cntS (fun s => decide (btL Lq s)) (i) + 1))), (3, .int (nI (b2))), (4, .int (nI (i))), (5, .int (nI (j)))]) (fun (j, b2) => 8 - j) ?_ (0, 0) ls ⟨(Nat.zero_le _), (Or.inr ⟨rfl, (hbo.resolve_left (fun h => absurd h.1 (by have h9 := c43_9; omega))).2⟩), (lv_sub hl [3, 4, 2, 1, 5, 0] rfl)⟩
            rintro ⟨j, b2⟩ ls ⟨hj, hbi, hl⟩ ih65
            refine lv_iload hx hb dX6_isList_65 (lv_at hl 5 rfl) ?_
            refine lv_bipush (v := nI (8)) hx hb dX6_isList_67 (by decide) ?_
            refine xi_icmp_ge (tgt := 126) hx hb (by omega) (by decide) dX6_isList_69 (by decide) (fun c69_10 => ?_) (fun c69_10 => ?_)
            · refine lv_iinc (v := nI (i + 1)) (lv' := [(4, .int (nI (i + 1))), (0, .ref (ad (62))), (1, .int (nI (Lq))), (2, .int (nI (cntS (fun s => decide (btL Lq s)) (i) + 1))), (3, .int (nI (b2))), (5, .int (nI (j)))]) hx hb dX6_isList_126 hl (k := 4) rfl (nI_add (i) 1) (by decide) rfl (fun ls hl => ?_)
              refine lv_goto (tgt := 20) hx hb dX6_isList_129 (by decide) ?_
              exact ih20 (i + 1, b2) ls ⟨(by omega), (hbi.imp (fun h => ⟨h.1, fun a ha => if e : a = i then by rw [e]; exact fun _ => ⟨h.2.2.1, fun y h1 h2 h3 => h.2.2.2 y (by omega) h2 h3⟩ else h.2.1 a (by omega)⟩) id), (by rw [cntS_y (P := fun s => decide (btL Lq s)) (decide_eq_true hbit)]; exact (lv_sub hl [1, 2, 3, 4, 0] rfl))⟩ (by first | omega | (dsimp only; omega))
            · refine lv_iload_n hx hb dX6_isList_72 rfl (lv_at hl 3 rfl) ?_
              refine xi_if_eq (tgt := 126) hx hb (by rcases hbi with h | h <;> omega) dX6_isList_73 (by decide) (fun c73_11 => ?_) (fun c73_11 => ?_)
              · refine lv_iinc (v := nI (i + 1)) (lv' := [(4, .int (nI (i + 1))), (0, .ref (ad (62))), (1, .int (nI (Lq))), (2, .int (nI (cntS (fun s => decide (btL Lq s)) (i) + 1))), (3, .int (nI (b2))), (5, .int (nI (j)))]) hx hb dX6_isList_126 hl (k := 4) rfl (nI_add (i) 1) (by decide) rfl (fun ls hl => ?_)
                refine lv_goto (tgt := 20) hx hb dX6_isList_129 (by decide) ?_
                exact ih20 (i + 1, b2) ls ⟨(by omega), (Or.inr (hbi.resolve_left (fun h => absurd h.1 (by have h9 := c73_11; omega)))), (by rw [cntS_y (P := fun s => decide (btL Lq s)) (decide_eq_true hbit)]; exact (lv_sub hl [1, 2, 3, 4, 0] rfl))⟩ (by first | omega | (dsimp only; omega))
              · refine lv_iload hx hb dX6_isList_76 (lv_at hl 4 rfl) ?_
                refine lv_iload hx hb dX6_isList_78 (lv_at hl 5 rfl) ?_
                refine xi_icmp_eq (tgt := 120) hx hb (by omega) (by omega) dX6_isList_80 (by decide) (fun c80_12 => ?_) (fun c80_12 => ?_)
                · refine lv_iinc (v := nI (j + 1)) (lv' := [(5, .int (nI (j + 1))), (0, .ref (ad (62))), (1, .int (nI (Lq))), (2, .int (nI (cntS (fun s => decide (btL Lq s)) (i) + 1))), (3, .int (nI (b2))), (4, .int (nI (i)))]) hx hb dX6_isList_120 hl (k := 5) rfl (nI_add (j) 1) (by decide) rfl (fun ls hl => ?_)
                  refine lv_goto (tgt := 65) hx hb dX6_isList_123 (by decide) ?_
                  exact ih65 (j + 1, b2) ls ⟨(by omega), (Or.inl ⟨(hbi.resolve_right (fun h => c73_11 h.1)).1, (hbi.resolve_right (fun h => c73_11 h.1)).2.1, (hbi.resolve_right (fun h => c73_11 h.1)).2.2.1, fun y h1 h2 h3 => (hbi.resolve_right (fun h => c73_11 h.1)).2.2.2 y (by have h9 := c80_12; omega) h2 h3⟩), (lv_sub hl [1, 2, 3, 4, 5, 0] rfl)⟩ (by first | omega | (dsimp only; omega))
                · refine lv_iload_n hx hb dX6_isList_83 rfl (lv_at hl 1 rfl) ?_
                  refine lv_iload hx hb dX6_isList_84 (lv_at hl 5 rfl) ?_
                  refine lv_ishr hx hb dX6_isList_86 ?_
                  refine xtopi (y := nI (Lq / 2 ^ j)) (nI_shr (by omega) (by omega)) ?_
                  refine lv_iconst (v := nI (1)) hx hb dX6_isList_87 (by decide) ?_
                  refine lv_iand hx hb dX6_isList_88 ?_
                  refine xtopi (y := nI (Lq / 2 ^ j % 2)) (and1 _) ?_
                  refine lv_iconst (v := nI (1)) hx hb dX6_isList_89 (by decide) ?_
                  refine xi_icmp_ne (tgt := 120) hx hb (by omega) (by decide) dX6_isList_90 (by decide) (fun c90_15 => ?_) (fun c90_15 => ?_)
                  · refine lv_iinc (v := nI (j + 1)) (lv' := [(5, .int (nI (j + 1))), (0, .ref (ad (62))), (1, .int (nI (Lq))), (2, .int (nI (cntS (fun s => decide (btL Lq s)) (i) + 1))), (3, .int (nI (b2))), (4, .int (nI (i)))]) hx hb dX6_isList_120 hl (k := 5) rfl (nI_add (j) 1) (by decide) rfl (fun ls hl => ?_)
                    refine lv_goto (tgt := 65) hx hb dX6_isList_123 (by decide) ?_
                    exact ih65 (j + 1, b2) ls ⟨(by omega), (Or.inl ⟨(hbi.resolve_right (fun h => c73_11 h.1)).1, (hbi.resolve_right (fun h => c73_11 h.1)).2.1, (hbi.resolve_right (fun h => c73_11 h.1)).2.2.1, fun y h1 h2 h3 => if e : y = j then absurd h3 (by rw [e]; exact c90_15) else (hbi.resolve_right (fun h => c73_11 h.1)).2.2.2 y (by omega) h2 h3⟩), (lv_sub hl [1, 2, 3, 4, 5, 0] rfl)⟩ (by first | omega | (dsimp only; omega))
                  · refine lv_aload_n hx hb dX6_isList_93 rfl (lv_at hl 0 rfl) ?_
                    refine xw_get hx hb hts hin6 hown hK hP (by decide) fo62 rfl 3 (by decide) hf20 rfl rfl dX6_isList_94 ?_
                    refine lv_iload hx hb dX6_isList_97 (lv_at hl 5 rfl) ?_
                    refine xw_iald hx hb hK hP (by decide) 0 fa64 rfl (by omega) (by decide) dX6_isList_99 ?_
                    rw [hsz (j) (by omega)]
                    refine xi_if_le (tgt := 118) hx hb (by have h9 := hln j; omega) dX6_isList_100 (by decide) (fun c100_16 => ?_) (fun c100_16 => ?_)
                    · refine lv_iconst (v := nI (0)) hx hb dX6_isList_118 (by decide) ?_
                      refine lv_istore_n (lv' := [(3, .int (nI (0))), (0, .ref (ad (62))), (1, .int (nI (Lq))), (2, .int (nI (cntS (fun s => decide (btL Lq s)) (i) + 1))), (4, .int (nI (i))), (5, .int (nI (j)))]) hx hb dX6_isList_119 rfl hl (by decide) rfl (fun ls hl => ?_)
                      refine lv_iinc (v := nI (j + 1)) (lv' := [(5, .int (nI (j + 1))), (3, .int (nI (0))), (0, .ref (ad (62))), (1, .int (nI (Lq))), (2, .int (nI (cntS (fun s => decide (btL Lq s)) (i) + 1))), (4, .int (nI (i)))]) hx hb dX6_isList_120 hl (k := 5) rfl (nI_add (j) 1) (by decide) rfl (fun ls hl => ?_)
                      refine lv_goto (tgt := 65) hx hb dX6_isList_123 (by decide) ?_
                      exact ih65 (j + 1, 0) ls ⟨(by omega), (Or.inr ⟨rfl, fun h => absurd ((h i (by omega) hbit).2 j (by omega) (fun h => c80_12 h.symm) c90_15).1 (by omega)⟩), (lv_sub hl [2, 3, 4, 1, 5, 0] rfl)⟩ (by first | omega | (dsimp only; omega))
                    · refine lv_aload_n hx hb dX6_isList_103 rfl (lv_at hl 0 rfl) ?_
                      refine lv_iload hx hb dX6_isList_104 (lv_at hl 4 rfl) ?_
                      refine lv_iload hx hb dX6_isList_106 (lv_at hl 5 rfl) ?_
                      refine vp_callSi (va_Run.run (va_runV (As := [.int (nI (i)), .int (nI (j))]) (rest := []) ⟨hx, hb, hml, hown, hts⟩ (mX6_lies l (w := w) (ln := ln) (t := t) (u := u) fo62 fa64 fa65 hsz hwl hq2 hq4 hln hul hT ht (by omega) (by omega)) (cwV 2 hts gX6_isList_X6_lies rfl rfl rfl (by decide +kernel) ⟨Nat.le_of_ble_eq_true rfl, Nat.le_of_ble_eq_true rfl⟩) ⟨xB_blind, va_recv hK hP (ci := 6) rfl (xw_is (by decide) fo62), fun U hU hW => ⟨rfl, by rw [hU]; exact hP, va_K.moved hW.alike hK, va_Nw.warmM hW hN⟩⟩ rfl rfl hl.1 rfl (lv_room (Nat.le_of_ble_eq_true rfl)) dX6_isList_108 ⟨Nat.le_of_ble_eq_true rfl, Nat.le_of_ble_eq_true rfl⟩)) (fun r17 er17 => ?_)
                      subst er17
                      refine xb_if_ne (tgt := 118) hx hb dX6_isList_111 (by decide) (fun c111_18 => ?_) (fun c111_18 => ?_)
                      · refine lv_iconst (v := nI (0)) hx hb dX6_isList_118 (by decide) ?_
                        refine lv_istore_n (lv' := [(3, .int (nI (0))), (0, .ref (ad (62))), (1, .int (nI (Lq))), (2, .int (nI (cntS (fun s => decide (btL Lq s)) (i) + 1))), (4, .int (nI (i))), (5, .int (nI (j)))]) hx hb dX6_isList_119 rfl hl (by decide) rfl (fun ls hl => ?_)
                        refine lv_iinc (v := nI (j + 1)) (lv' := [(5, .int (nI (j + 1))), (3, .int (nI (0))), (0, .ref (ad (62))), (1, .int (nI (Lq))), (2, .int (nI (cntS (fun s => decide (btL Lq s)) (i) + 1))), (4, .int (nI (i)))]) hx hb dX6_isList_120 hl (k := 5) rfl (nI_add (j) 1) (by decide) rfl (fun ls hl => ?_)
                        refine lv_goto (tgt := 65) hx hb dX6_isList_123 (by decide) ?_
                        exact ih65 (j + 1, 0) ls ⟨(by omega), (Or.inr ⟨rfl, fun h => ((h i (by omega) hbit).2 j (by omega) (fun h => c80_12 h.symm) c90_15).2 c111_18⟩), (lv_sub hl [2, 3, 4, 1, 5, 0] rfl)⟩ (by first | omega | (dsimp only; omega))
                      · refine lv_iconst (v := nI (1)) hx hb dX6_isList_114 (by decide) ?_
                        refine lv_goto (tgt := 119) hx hb dX6_isList_115 (by decide) ?_
                        refine lv_istore_n (lv' := [(3, .int (nI (1))), (0, .ref (ad (62))), (1, .int (nI (Lq))), (2, .int (nI (cntS (fun s => decide (btL Lq s)) (i) + 1))), (4, .int (nI (i))), (5, .int (nI (j)))]) hx hb dX6_isList_119 rfl hl (by decide) rfl (fun ls hl => ?_)
                        refine lv_iinc (v := nI (j + 1)) (lv' := [(5, .int (nI (j + 1))), (3, .int (nI (1))), (0, .ref (ad (62))), (1, .int (nI (Lq))), (2, .int (nI (cntS (fun s => decide (btL Lq s)) (i) + 1))), (4, .int (nI (i)))]) hx hb dX6_isList_120 hl (k := 5) rfl (nI_add (j) 1) (by decide) rfl (fun ls hl => ?_)
                        refine lv_goto (tgt := 65) hx hb dX6_isList_123 (by decide) ?_
                        exact ih65 (j + 1, 1) ls ⟨(by omega), (Or.inl ⟨rfl, (hbi.resolve_right (fun h => c73_11 h.1)).2.1, (hbi.resolve_right (fun h => c73_11 h.1)).2.2.1, fun y h1 h2 h3 => if e : y = j then by rw [e]; exact ⟨by omega, c111_18⟩ else (hbi.resolve_right (fun h => c73_11 h.1)).2.2.2 y (by omega) h2 h3⟩), (lv_sub hl [2, 3, 4, 1, 5, 0] rfl)⟩ (by first | omega | (dsimp only; omega))
          · refine lv_aload_n hx hb dX6_isList_46 rfl (lv_at hl 1 rfl) ?_
            refine xw_get hx hb hts hin6 hown hK hP (by decide) fo62 rfl 3 (by decide) hf20 rfl rfl dX6_isList_47 ?_
            refine lv_iload hx hb dX6_isList_50 (lv_at hl 4 rfl) ?_
            refine xw_iald hx hb hK hP (by decide) 0 fa64 rfl (by omega) (by decide) dX6_isList_52 ?_
            rw [hsz (i) (by omega)]
            refine xi_if_le (tgt := 60) hx hb (by have h9 := hln i; omega) dX6_isList_53 (by decide) (fun c53_19 => ?_) (fun c53_19 => ?_)
            · refine lv_iconst (v := nI (0)) hx hb dX6_isList_60 (by decide) ?_
              refine lv_istore_n (lv' := [(3, .int (nI (0))), (2, .int (nI (cntS (fun s => decide (btL Lq s)) (i) + 1))), (0, .ref (ad (62))), (1, .int (nI (Lq))), (4, .int (nI (i)))]) hx hb dX6_isList_61 rfl hl (by decide) rfl (fun ls hl => ?_)
              refine lv_iconst (v := nI (0)) hx hb dX6_isList_62 (by decide) ?_
              refine lv_istore (lv' := [(5, .int (nI (0))), (3, .int (nI (0))), (2, .int (nI (cntS (fun s => decide (btL Lq s)) (i) + 1))), (0, .ref (ad (62))), (1, .int (nI (Lq))), (4, .int (nI (i)))]) hx hb dX6_isList_63 hl (by decide) rfl (fun ls hl => ?_)
              refine xloop (G := fun fr => W p l e _ s m _ below meth c _ _ _ _ _ fr) (σ := Nat × Nat) (fun (j, b2) ls => F0 m 65 ls []) (fun (j, b2) ls => (j ≤ 8) ∧ ((b2 = 1 ∧ (∀ a, a < i → okL ln u Lq a) ∧ 0 < ln i ∧ ∀ y, y < j → y ≠ i → btL Lq y → 0 < ln y ∧ ¬ liesW (u i) (ln i) (u y) (ln y)) ∨ (b2 = 0 ∧ ¬ (∀ a, a < 8 → okL ln u Lq a))) ∧ lv_has ls 6 [(0, .ref (ad (62))), (1, .int (nI (Lq))), (2, .int (nI (cntS (fun s => decide (btL Lq s)) (i) + 1))), (3, .int (nI (b2))), (4, .int (nI (i))), (5, .int (nI (j)))]) (fun (j, b2) => 8 - j) ?_ (0, 0) ls ⟨(Nat.zero_le _), (Or.inr ⟨rfl, fun h => absurd (h i (by omega) hbit).1 (by omega)⟩), (lv_sub hl [3, 4, 2, 1, 5, 0] rfl)⟩
              rintro ⟨j, b2⟩ ls ⟨hj, hbi, hl⟩ ih65
              refine lv_iload hx hb dX6_isList_65 (lv_at hl 5 rfl) ?_
              refine lv_bipush (v := nI (8)) hx hb dX6_isList_67 (by decide) ?_
              refine xi_icmp_ge (tgt := 126) hx hb (by omega) (by decide) dX6_isList_69 (by decide) (fun c69_20 => ?_) (fun c69_20 => ?_)
              · refine lv_iinc (v := nI (i + 1)) (lv' := [(4, .int (nI (i + 1))), (0, .ref (ad (62))), (1, .int (nI (Lq))), (2, .int (nI (cntS (fun s => decide (btL Lq s)) (i) + 1))), (3, .int (nI (b2))), (5, .int (nI (j)))]) hx hb dX6_isList_126 hl (k := 4) rfl (nI_add (i) 1) (by decide) rfl (fun ls hl => ?_)
                refine lv_goto (tgt := 20) hx hb dX6_isList_129 (by decide) ?_
                exact ih20 (i + 1, b2) ls ⟨(by omega), (hbi.imp (fun h => ⟨h.1, fun a ha => if e : a = i then by rw [e]; exact fun _ => ⟨h.2.2.1, fun y h1 h2 h3 => h.2.2.2 y (by omega) h2 h3⟩ else h.2.1 a (by omega)⟩) id), (by rw [cntS_y (P := fun s => decide (btL Lq s)) (decide_eq_true hbit)]; exact (lv_sub hl [1, 2, 3, 4, 0] rfl))⟩ (by first | omega | (dsimp only; omega))
              · refine lv_iload_n hx hb dX6_isList_72 rfl (lv_at hl 3 rfl) ?_
                refine xi_if_eq (tgt := 126) hx hb (by rcases hbi with h | h <;> omega) dX6_isList_73 (by decide) (fun c73_21 => ?_) (fun c73_21 => ?_)
                · refine lv_iinc (v := nI (i + 1)) (lv' := [(4, .int (nI (i + 1))), (0, .ref (ad (62))), (1, .int (nI (Lq))), (2, .int (nI (cntS (fun s => decide (btL Lq s)) (i) + 1))), (3, .int (nI (b2))), (5, .int (nI (j)))]) hx hb dX6_isList_126 hl (k := 4) rfl (nI_add (i) 1) (by decide) rfl (fun ls hl => ?_)
                  refine lv_goto (tgt := 20) hx hb dX6_isList_129 (by decide) ?_
                  exact ih20 (i + 1, b2) ls ⟨(by omega), (Or.inr (hbi.resolve_left (fun h => absurd h.1 (by have h9 := c73_21; omega)))), (by rw [cntS_y (P := fun s => decide (btL Lq s)) (decide_eq_true hbit)]; exact (lv_sub hl [1, 2, 3, 4, 0] rfl))⟩ (by first | omega | (dsimp only; omega))
                · refine lv_iload hx hb dX6_isList_76 (lv_at hl 4 rfl) ?_
                  refine lv_iload hx hb dX6_isList_78 (lv_at hl 5 rfl) ?_
                  refine xi_icmp_eq (tgt := 120) hx hb (by omega) (by omega) dX6_isList_80 (by decide) (fun c80_22 => ?_) (fun c80_22 => ?_)
                  · refine lv_iinc (v := nI (j + 1)) (lv' := [(5, .int (nI (j + 1))), (0, .ref (ad (62))), (1, .int (nI (Lq))), (2, .int (nI (cntS (fun s => decide (btL Lq s)) (i) + 1))), (3, .int (nI (b2))), (4, .int (nI (i)))]) hx hb dX6_isList_120 hl (k := 5) rfl (nI_add (j) 1) (by decide) rfl (fun ls hl => ?_)
                    refine lv_goto (tgt := 65) hx hb dX6_isList_123 (by decide) ?_
                    exact ih65 (j + 1, b2) ls ⟨(by omega), (Or.inl ⟨(hbi.resolve_right (fun h => c73_21 h.1)).1, (hbi.resolve_right (fun h => c73_21 h.1)).2.1, (hbi.resolve_right (fun h => c73_21 h.1)).2.2.1, fun y h1 h2 h3 => (hbi.resolve_right (fun h => c73_21 h.1)).2.2.2 y (by have h9 := c80_22; omega) h2 h3⟩), (lv_sub hl [1, 2, 3, 4, 5, 0] rfl)⟩ (by first | omega | (dsimp only; omega))
                  · refine lv_iload_n hx hb dX6_isList_83 rfl (lv_at hl 1 rfl) ?_
                    refine lv_iload hx hb dX6_isList_84 (lv_at hl 5 rfl) ?_
                    refine lv_ishr hx hb dX6_isList_86 ?_
                    refine xtopi (y := nI (Lq / 2 ^ j)) (nI_shr (by omega) (by omega)) ?_
                    refine lv_iconst (v := nI (1)) hx hb dX6_isList_87 (by decide) ?_
                    refine lv_iand hx hb dX6_isList_88 ?_
                    refine xtopi (y := nI (Lq / 2 ^ j % 2)) (and1 _) ?_
                    refine lv_iconst (v := nI (1)) hx hb dX6_isList_89 (by decide) ?_
                    refine xi_icmp_ne (tgt := 120) hx hb (by omega) (by decide) dX6_isList_90 (by decide) (fun c90_25 => ?_) (fun c90_25 => ?_)
                    · refine lv_iinc (v := nI (j + 1)) (lv' := [(5, .int (nI (j + 1))), (0, .ref (ad (62))), (1, .int (nI (Lq))), (2, .int (nI (cntS (fun s => decide (btL Lq s)) (i) + 1))), (3, .int (nI (b2))), (4, .int (nI (i)))]) hx hb dX6_isList_120 hl (k := 5) rfl (nI_add (j) 1) (by decide) rfl (fun ls hl => ?_)
                      refine lv_goto (tgt := 65) hx hb dX6_isList_123 (by decide) ?_
                      exact ih65 (j + 1, b2) ls ⟨(by omega), (Or.inl ⟨(hbi.resolve_right (fun h => c73_21 h.1)).1, (hbi.resolve_right (fun h => c73_21 h.1)).2.1, (hbi.resolve_right (fun h => c73_21 h.1)).2.2.1, fun y h1 h2 h3 => if e : y = j then absurd h3 (by rw [e]; exact c90_25) else (hbi.resolve_right (fun h => c73_21 h.1)).2.2.2 y (by omega) h2 h3⟩), (lv_sub hl [1, 2, 3, 4, 5, 0] rfl)⟩ (by first | omega | (dsimp only; omega))
                    · refine lv_aload_n hx hb dX6_isList_93 rfl (lv_at hl 0 rfl) ?_
                      refine xw_get hx hb hts hin6 hown hK hP (by decide) fo62 rfl 3 (by decide) hf20 rfl rfl dX6_isList_94 ?_
                      refine lv_iload hx hb dX6_isList_97 (lv_at hl 5 rfl) ?_
                      refine xw_iald hx hb hK hP (by decide) 0 fa64 rfl (by omega) (by decide) dX6_isList_99 ?_
                      rw [hsz (j) (by omega)]
                      refine xi_if_le (tgt := 118) hx hb (by have h9 := hln j; omega) dX6_isList_100 (by decide) (fun c100_26 => ?_) (fun c100_26 => ?_)
                      · refine lv_iconst (v := nI (0)) hx hb dX6_isList_118 (by decide) ?_
                        refine lv_istore_n (lv' := [(3, .int (nI (0))), (0, .ref (ad (62))), (1, .int (nI (Lq))), (2, .int (nI (cntS (fun s => decide (btL Lq s)) (i) + 1))), (4, .int (nI (i))), (5, .int (nI (j)))]) hx hb dX6_isList_119 rfl hl (by decide) rfl (fun ls hl => ?_)
                        refine lv_iinc (v := nI (j + 1)) (lv' := [(5, .int (nI (j + 1))), (3, .int (nI (0))), (0, .ref (ad (62))), (1, .int (nI (Lq))), (2, .int (nI (cntS (fun s => decide (btL Lq s)) (i) + 1))), (4, .int (nI (i)))]) hx hb dX6_isList_120 hl (k := 5) rfl (nI_add (j) 1) (by decide) rfl (fun ls hl => ?_)
                        refine lv_goto (tgt := 65) hx hb dX6_isList_123 (by decide) ?_
                        exact ih65 (j + 1, 0) ls ⟨(by omega), (Or.inr ⟨rfl, fun h => absurd ((h i (by omega) hbit).2 j (by omega) (fun h => c80_22 h.symm) c90_25).1 (by omega)⟩), (lv_sub hl [2, 3, 4, 1, 5, 0] rfl)⟩ (by first | omega | (dsimp only; omega))
                      · refine lv_aload_n hx hb dX6_isList_103 rfl (lv_at hl 0 rfl) ?_
                        refine lv_iload hx hb dX6_isList_104 (lv_at hl 4 rfl) ?_
                        refine lv_iload hx hb dX6_isList_106 (lv_at hl 5 rfl) ?_
                        refine vp_callSi (va_Run.run (va_runV (As := [.int (nI (i)), .int (nI (j))]) (rest := []) ⟨hx, hb, hml, hown, hts⟩ (mX6_lies l (w := w) (ln := ln) (t := t) (u := u) fo62 fa64 fa65 hsz hwl hq2 hq4 hln hul hT ht (by omega) (by omega)) (cwV 2 hts gX6_isList_X6_lies rfl rfl rfl (by decide +kernel) ⟨Nat.le_of_ble_eq_true rfl, Nat.le_of_ble_eq_true rfl⟩) ⟨xB_blind, va_recv hK hP (ci := 6) rfl (xw_is (by decide) fo62), fun U hU hW => ⟨rfl, by rw [hU]; exact hP, va_K.moved hW.alike hK, va_Nw.warmM hW hN⟩⟩ rfl rfl hl.1 rfl (lv_room (Nat.le_of_ble_eq_true rfl)) dX6_isList_108 ⟨Nat.le_of_ble_eq_true rfl, Nat.le_of_ble_eq_true rfl⟩)) (fun r27 er27 => ?_)
                        subst er27
                        refine xb_if_ne (tgt := 118) hx hb dX6_isList_111 (by decide) (fun c111_28 => ?_) (fun c111_28 => ?_)
                        · refine lv_iconst (v := nI (0)) hx hb dX6_isList_118 (by decide) ?_
                          refine lv_istore_n (lv' := [(3, .int (nI (0))), (0, .ref (ad (62))), (1, .int (nI (Lq))), (2, .int (nI (cntS (fun s => decide (btL Lq s)) (i) + 1))), (4, .int (nI (i))), (5, .int (nI (j)))]) hx hb dX6_isList_119 rfl hl (by decide) rfl (fun ls hl => ?_)
                          refine lv_iinc (v := nI (j + 1)) (lv' := [(5, .int (nI (j + 1))), (3, .int (nI (0))), (0, .ref (ad (62))), (1, .int (nI (Lq))), (2, .int (nI (cntS (fun s => decide (btL Lq s)) (i) + 1))), (4, .int (nI (i)))]) hx hb dX6_isList_120 hl (k := 5) rfl (nI_add (j) 1) (by decide) rfl (fun ls hl => ?_)
                          refine lv_goto (tgt := 65) hx hb dX6_isList_123 (by decide) ?_
                          exact ih65 (j + 1, 0) ls ⟨(by omega), (Or.inr ⟨rfl, fun h => ((h i (by omega) hbit).2 j (by omega) (fun h => c80_22 h.symm) c90_25).2 c111_28⟩), (lv_sub hl [2, 3, 4, 1, 5, 0] rfl)⟩ (by first | omega | (dsimp only; omega))
                        · refine lv_iconst (v := nI (1)) hx hb dX6_isList_114 (by decide) ?_
                          refine lv_goto (tgt := 119) hx hb dX6_isList_115 (by decide) ?_
                          refine lv_istore_n (lv' := [(3, .int (nI (1))), (0, .ref (ad (62))), (1, .int (nI (Lq))), (2, .int (nI (cntS (fun s => decide (btL Lq s)) (i) + 1))), (4, .int (nI (i))), (5, .int (nI (j)))]) hx hb dX6_isList_119 rfl hl (by decide) rfl (fun ls hl => ?_)
                          refine lv_iinc (v := nI (j + 1)) (lv' := [(5, .int (nI (j + 1))), (3, .int (nI (1))), (0, .ref (ad (62))), (1, .int (nI (Lq))), (2, .int (nI (cntS (fun s => decide (btL Lq s)) (i) + 1))), (4, .int (nI (i)))]) hx hb dX6_isList_120 hl (k := 5) rfl (nI_add (j) 1) (by decide) rfl (fun ls hl => ?_)
                          refine lv_goto (tgt := 65) hx hb dX6_isList_123 (by decide) ?_
                          exact ih65 (j + 1, 1) ls ⟨(by omega), (Or.inl ⟨rfl, (hbi.resolve_right (fun h => c73_21 h.1)).2.1, (hbi.resolve_right (fun h => c73_21 h.1)).2.2.1, fun y h1 h2 h3 => if e : y = j then by rw [e]; exact ⟨by omega, c111_28⟩ else (hbi.resolve_right (fun h => c73_21 h.1)).2.2.2 y (by omega) h2 h3⟩), (lv_sub hl [2, 3, 4, 1, 5, 0] rfl)⟩ (by first | omega | (dsimp only; omega))
            · refine lv_iconst (v := nI (1)) hx hb dX6_isList_56 (by decide) ?_
              refine lv_goto (tgt := 61) hx hb dX6_isList_57 (by decide) ?_
              refine lv_istore_n (lv' := [(3, .int (nI (1))), (2, .int (nI (cntS (fun s => decide (btL Lq s)) (i) + 1))), (0, .ref (ad (62))), (1, .int (nI (Lq))), (4, .int (nI (i)))]) hx hb dX6_isList_61 rfl hl (by decide) rfl (fun ls hl => ?_)
              refine lv_iconst (v := nI (0)) hx hb dX6_isList_62 (by decide) ?_
              refine lv_istore (lv' := [(5, .int (nI (0))), (3, .int (nI (1))), (2, .int (nI (cntS (fun s => decide (btL Lq s)) (i) + 1))), (0, .ref (ad (62))), (1, .int (nI (Lq))), (4, .int (nI (i)))]) hx hb dX6_isList_63 hl (by decide) rfl (fun ls hl => ?_)
              refine xloop (G := fun fr => W p l e _ s m _ below meth c _ _ _ _ _ fr) (σ := Nat × Nat) (fun (j, b2) ls => F0 m 65 ls []) (fun (j, b2) ls => (j ≤ 8) ∧ ((b2 = 1 ∧ (∀ a, a < i → okL ln u Lq a) ∧ 0 < ln i ∧ ∀ y, y < j → y ≠ i → btL Lq y → 0 < ln y ∧ ¬ liesW (u i) (ln i) (u y) (ln y)) ∨ (b2 = 0 ∧ ¬ (∀ a, a < 8 → okL ln u Lq a))) ∧ lv_has ls 6 [(0, .ref (ad (62))), (1, .int (nI (Lq))), (2, .int (nI (cntS (fun s => decide (btL Lq s)) (i) + 1))), (3, .int (nI (b2))), (4, .int (nI (i))), (5, .int (nI (j)))]) (fun (j, b2) => 8 - j) ?_ (0, 1) ls ⟨(Nat.zero_le _), (Or.inl ⟨rfl, (hbo.resolve_right (fun h => c43_9 h.1)).2, by omega, fun y hy => absurd hy (by omega)⟩), (lv_sub hl [3, 4, 2, 1, 5, 0] rfl)⟩
              rintro ⟨j, b2⟩ ls ⟨hj, hbi, hl⟩ ih65
              refine lv_iload hx hb dX6_isList_65 (lv_at hl 5 rfl) ?_
              refine lv_bipush (v := nI (8)) hx hb dX6_isList_67 (by decide) ?_
              refine xi_icmp_ge (tgt := 126) hx hb (by omega) (by decide) dX6_isList_69 (by decide) (fun c69_29 => ?_) (fun c69_29 => ?_)
              · refine lv_iinc (v := nI (i + 1)) (lv' := [(4, .int (nI (i + 1))), (0, .ref (ad (62))), (1, .int (nI (Lq))), (2, .int (nI (cntS (fun s => decide (btL Lq s)) (i) + 1))), (3, .int (nI (b2))), (5, .int (nI (j)))]) hx hb dX6_isList_126 hl (k := 4) rfl (nI_add (i) 1) (by decide) rfl (fun ls hl => ?_)
                refine lv_goto (tgt := 20) hx hb dX6_isList_129 (by decide) ?_
                exact ih20 (i + 1, b2) ls ⟨(by omega), (hbi.imp (fun h => ⟨h.1, fun a ha => if e : a = i then by rw [e]; exact fun _ => ⟨h.2.2.1, fun y h1 h2 h3 => h.2.2.2 y (by omega) h2 h3⟩ else h.2.1 a (by omega)⟩) id), (by rw [cntS_y (P := fun s => decide (btL Lq s)) (decide_eq_true hbit)]; exact (lv_sub hl [1, 2, 3, 4, 0] rfl))⟩ (by first | omega | (dsimp only; omega))
              · refine lv_iload_n hx hb dX6_isList_72 rfl (lv_at hl 3 rfl) ?_
                refine xi_if_eq (tgt := 126) hx hb (by rcases hbi with h | h <;> omega) dX6_isList_73 (by decide) (fun c73_30 => ?_) (fun c73_30 => ?_)
                · refine lv_iinc (v := nI (i + 1)) (lv' := [(4, .int (nI (i + 1))), (0, .ref (ad (62))), (1, .int (nI (Lq))), (2, .int (nI (cntS (fun s => decide (btL Lq s)) (i) + 1))), (3, .int (nI (b2))), (5, .int (nI (j)))]) hx hb dX6_isList_126 hl (k := 4) rfl (nI_add (i) 1) (by decide) rfl (fun ls hl => ?_)
                  refine lv_goto (tgt := 20) hx hb dX6_isList_129 (by decide) ?_
                  exact ih20 (i + 1, b2) ls ⟨(by omega), (Or.inr (hbi.resolve_left (fun h => absurd h.1 (by have h9 := c73_30; omega)))), (by rw [cntS_y (P := fun s => decide (btL Lq s)) (decide_eq_true hbit)]; exact (lv_sub hl [1, 2, 3, 4, 0] rfl))⟩ (by first | omega | (dsimp only; omega))
                · refine lv_iload hx hb dX6_isList_76 (lv_at hl 4 rfl) ?_
                  refine lv_iload hx hb dX6_isList_78 (lv_at hl 5 rfl) ?_
                  refine xi_icmp_eq (tgt := 120) hx hb (by omega) (by omega) dX6_isList_80 (by decide) (fun c80_31 => ?_) (fun c80_31 => ?_)
                  · refine lv_iinc (v := nI (j + 1)) (lv' := [(5, .int (nI (j + 1))), (0, .ref (ad (62))), (1, .int (nI (Lq))), (2, .int (nI (cntS (fun s => decide (btL Lq s)) (i) + 1))), (3, .int (nI (b2))), (4, .int (nI (i)))]) hx hb dX6_isList_120 hl (k := 5) rfl (nI_add (j) 1) (by decide) rfl (fun ls hl => ?_)
                    refine lv_goto (tgt := 65) hx hb dX6_isList_123 (by decide) ?_
                    exact ih65 (j + 1, b2) ls ⟨(by omega), (Or.inl ⟨(hbi.resolve_right (fun h => c73_30 h.1)).1, (hbi.resolve_right (fun h => c73_30 h.1)).2.1, (hbi.resolve_right (fun h => c73_30 h.1)).2.2.1, fun y h1 h2 h3 => (hbi.resolve_right (fun h => c73_30 h.1)).2.2.2 y (by have h9 := c80_31; omega) h2 h3⟩), (lv_sub hl [1, 2, 3, 4, 5, 0] rfl)⟩ (by first | omega | (dsimp only; omega))
                  · refine lv_iload_n hx hb dX6_isList_83 rfl (lv_at hl 1 rfl) ?_
                    refine lv_iload hx hb dX6_isList_84 (lv_at hl 5 rfl) ?_
                    refine lv_ishr hx hb dX6_isList_86 ?_
                    refine xtopi (y := nI (Lq / 2 ^ j)) (nI_shr (by omega) (by omega)) ?_
                    refine lv_iconst (v := nI (1)) hx hb dX6_isList_87 (by decide) ?_
                    refine lv_iand hx hb dX6_isList_88 ?_
                    refine xtopi (y := nI (Lq / 2 ^ j % 2)) (and1 _) ?_
                    refine lv_iconst (v := nI (1)) hx hb dX6_isList_89 (by decide) ?_
                    refine xi_icmp_ne (tgt := 120) hx hb (by omega) (by decide) dX6_isList_90 (by decide) (fun c90_34 => ?_) (fun c90_34 => ?_)
                    · refine lv_iinc (v := nI (j + 1)) (lv' := [(5, .int (nI (j + 1))), (0, .ref (ad (62))), (1, .int (nI (Lq))), (2, .int (nI (cntS (fun s => decide (btL Lq s)) (i) + 1))), (3, .int (nI (b2))), (4, .int (nI (i)))]) hx hb dX6_isList_120 hl (k := 5) rfl (nI_add (j) 1) (by decide) rfl (fun ls hl => ?_)
                      refine lv_goto (tgt := 65) hx hb dX6_isList_123 (by decide) ?_
                      exact ih65 (j + 1, b2) ls ⟨(by omega), (Or.inl ⟨(hbi.resolve_right (fun h => c73_30 h.1)).1, (hbi.resolve_right (fun h => c73_30 h.1)).2.1, (hbi.resolve_right (fun h => c73_30 h.1)).2.2.1, fun y h1 h2 h3 => if e : y = j then absurd h3 (by rw [e]; exact c90_34) else (hbi.resolve_right (fun h => c73_30 h.1)).2.2.2 y (by omega) h2 h3⟩), (lv_sub hl [1, 2, 3, 4, 5, 0] rfl)⟩ (by first | omega | (dsimp only; omega))
                    · refine lv_aload_n hx hb dX6_isList_93 rfl (lv_at hl 0 rfl) ?_
                      refine xw_get hx hb hts hin6 hown hK hP (by decide) fo62 rfl 3 (by decide) hf20 rfl rfl dX6_isList_94 ?_
                      refine lv_iload hx hb dX6_isList_97 (lv_at hl 5 rfl) ?_
                      refine xw_iald hx hb hK hP (by decide) 0 fa64 rfl (by omega) (by decide) dX6_isList_99 ?_
                      rw [hsz (j) (by omega)]
                      refine xi_if_le (tgt := 118) hx hb (by have h9 := hln j; omega) dX6_isList_100 (by decide) (fun c100_35 => ?_) (fun c100_35 => ?_)
                      · refine lv_iconst (v := nI (0)) hx hb dX6_isList_118 (by decide) ?_
                        refine lv_istore_n (lv' := [(3, .int (nI (0))), (0, .ref (ad (62))), (1, .int (nI (Lq))), (2, .int (nI (cntS (fun s => decide (btL Lq s)) (i) + 1))), (4, .int (nI (i))), (5, .int (nI (j)))]) hx hb dX6_isList_119 rfl hl (by decide) rfl (fun ls hl => ?_)
                        refine lv_iinc (v := nI (j + 1)) (lv' := [(5, .int (nI (j + 1))), (3, .int (nI (0))), (0, .ref (ad (62))), (1, .int (nI (Lq))), (2, .int (nI (cntS (fun s => decide (btL Lq s)) (i) + 1))), (4, .int (nI (i)))]) hx hb dX6_isList_120 hl (k := 5) rfl (nI_add (j) 1) (by decide) rfl (fun ls hl => ?_)
                        refine lv_goto (tgt := 65) hx hb dX6_isList_123 (by decide) ?_
                        exact ih65 (j + 1, 0) ls ⟨(by omega), (Or.inr ⟨rfl, fun h => absurd ((h i (by omega) hbit).2 j (by omega) (fun h => c80_31 h.symm) c90_34).1 (by omega)⟩), (lv_sub hl [2, 3, 4, 1, 5, 0] rfl)⟩ (by first | omega | (dsimp only; omega))
                      · refine lv_aload_n hx hb dX6_isList_103 rfl (lv_at hl 0 rfl) ?_
                        refine lv_iload hx hb dX6_isList_104 (lv_at hl 4 rfl) ?_
                        refine lv_iload hx hb dX6_isList_106 (lv_at hl 5 rfl) ?_
                        refine vp_callSi (va_Run.run (va_runV (As := [.int (nI (i)), .int (nI (j))]) (rest := []) ⟨hx, hb, hml, hown, hts⟩ (mX6_lies l (w := w) (ln := ln) (t := t) (u := u) fo62 fa64 fa65 hsz hwl hq2 hq4 hln hul hT ht (by omega) (by omega)) (cwV 2 hts gX6_isList_X6_lies rfl rfl rfl (by decide +kernel) ⟨Nat.le_of_ble_eq_true rfl, Nat.le_of_ble_eq_true rfl⟩) ⟨xB_blind, va_recv hK hP (ci := 6) rfl (xw_is (by decide) fo62), fun U hU hW => ⟨rfl, by rw [hU]; exact hP, va_K.moved hW.alike hK, va_Nw.warmM hW hN⟩⟩ rfl rfl hl.1 rfl (lv_room (Nat.le_of_ble_eq_true rfl)) dX6_isList_108 ⟨Nat.le_of_ble_eq_true rfl, Nat.le_of_ble_eq_true rfl⟩)) (fun r36 er36 => ?_)
                        subst er36
                        refine xb_if_ne (tgt := 118) hx hb dX6_isList_111 (by decide) (fun c111_37 => ?_) (fun c111_37 => ?_)
                        · refine lv_iconst (v := nI (0)) hx hb dX6_isList_118 (by decide) ?_
                          refine lv_istore_n (lv' := [(3, .int (nI (0))), (0, .ref (ad (62))), (1, .int (nI (Lq))), (2, .int (nI (cntS (fun s => decide (btL Lq s)) (i) + 1))), (4, .int (nI (i))), (5, .int (nI (j)))]) hx hb dX6_isList_119 rfl hl (by decide) rfl (fun ls hl => ?_)
                          refine lv_iinc (v := nI (j + 1)) (lv' := [(5, .int (nI (j + 1))), (3, .int (nI (0))), (0, .ref (ad (62))), (1, .int (nI (Lq))), (2, .int (nI (cntS (fun s => decide (btL Lq s)) (i) + 1))), (4, .int (nI (i)))]) hx hb dX6_isList_120 hl (k := 5) rfl (nI_add (j) 1) (by decide) rfl (fun ls hl => ?_)
                          refine lv_goto (tgt := 65) hx hb dX6_isList_123 (by decide) ?_
                          exact ih65 (j + 1, 0) ls ⟨(by omega), (Or.inr ⟨rfl, fun h => ((h i (by omega) hbit).2 j (by omega) (fun h => c80_31 h.symm) c90_34).2 c111_37⟩), (lv_sub hl [2, 3, 4, 1, 5, 0] rfl)⟩ (by first | omega | (dsimp only; omega))
                        · refine lv_iconst (v := nI (1)) hx hb dX6_isList_114 (by decide) ?_
                          refine lv_goto (tgt := 119) hx hb dX6_isList_115 (by decide) ?_
                          refine lv_istore_n (lv' := [(3, .int (nI (1))), (0, .ref (ad (62))), (1, .int (nI (Lq))), (2, .int (nI (cntS (fun s => decide (btL Lq s)) (i) + 1))), (4, .int (nI (i))), (5, .int (nI (j)))]) hx hb dX6_isList_119 rfl hl (by decide) rfl (fun ls hl => ?_)
                          refine lv_iinc (v := nI (j + 1)) (lv' := [(5, .int (nI (j + 1))), (3, .int (nI (1))), (0, .ref (ad (62))), (1, .int (nI (Lq))), (2, .int (nI (cntS (fun s => decide (btL Lq s)) (i) + 1))), (4, .int (nI (i)))]) hx hb dX6_isList_120 hl (k := 5) rfl (nI_add (j) 1) (by decide) rfl (fun ls hl => ?_)
                          refine lv_goto (tgt := 65) hx hb dX6_isList_123 (by decide) ?_
                          exact ih65 (j + 1, 1) ls ⟨(by omega), (Or.inl ⟨rfl, (hbi.resolve_right (fun h => c73_30 h.1)).2.1, (hbi.resolve_right (fun h => c73_30 h.1)).2.2.1, fun y h1 h2 h3 => if e : y = j then by rw [e]; exact ⟨by omega, c111_37⟩ else (hbi.resolve_right (fun h => c73_30 h.1)).2.2.2 y (by omega) h2 h3⟩), (lv_sub hl [2, 3, 4, 1, 5, 0] rfl)⟩ (by first | omega | (dsimp only; omega))
        · have hnb : ¬ btL Lq i := by have h9 := c33_8; show ¬ _ = 1; omega
          refine lv_goto (tgt := 126) hx hb dX6_isList_36 (by decide) ?_
          refine lv_iinc (v := nI (i + 1)) (lv' := [(4, .int (nI (i + 1))), (0, .ref (ad (62))), (1, .int (nI (Lq))), (2, .int (nI (cntS (fun s => decide (btL Lq s)) (i)))), (3, .int (nI (b)))]) hx hb dX6_isList_126 hl (k := 4) rfl (nI_add (i) 1) (by decide) rfl (fun ls hl => ?_)
          refine lv_goto (tgt := 20) hx hb dX6_isList_129 (by decide) ?_
          exact ih20 (i + 1, b) ls ⟨(by omega), (hbo.imp (fun h => ⟨h.1, fun a ha => if e : a = i then by rw [e]; exact fun h2 => absurd h2 hnb else h.2 a (by omega)⟩) id), (by rw [cntS_n (P := fun s => decide (btL Lq s)) (fun h => hnb (of_decide_eq_true h))]; exact (lv_sub hl [1, 2, 3, 4, 0] rfl))⟩ (by first | omega | (dsimp only; omega))
    · exact absurd c8_2 (by omega)

set_option maxHeartbeats 4000000 in
set_option maxRecDepth 100000 in
/-- isList, no set -/
theorem mX6_isList_no (l : Launch) {D : va_G} {cI cJ cZ cW : ClassId} {ad : Nat → Nat} {g : Nat → va_E} {x0 : Int32}  (hbad : x0 = 0 ∨ ¬ (x0 &&& (-256)) = 0) : Met l yX6_isList wsX6_isList ({ frames := 2, cells := 0, slots := 0, locals := 48 }) (va_Pc [.ref (ad (62)), .int (x0)] (xB D (xT cI cJ cZ cW) ad g)) (vp_Si (fun r => r = nI 0)) 0 0 (fun _ => False) := by
  refine Met.ofW (cc := cX6_isList) (maxL := 6) (ret := (some .boolean)) (by decide) rfl ?_
  intro p e s m args below meth c s₁ B hml hv
  obtain ⟨rfl, hP, hK, hN⟩ := hv
  have hx := B.exec
  have hb := B.bytes
  have hr := B.returns
  have hts := atoms_spec (ws := wsX6_isList) B.pre
  have hown : s.vm.findClass RX6 = some m.cls := findClass_of_methodNamed B.named
  have hlocks := B.notSynchronized
  have hl := lv_entry ([.ref (ad (62)), .int (x0)]) (n := 6) (Nat.le_of_ble_eq_true rfl)
  rw [lg_entry_eq]
  generalize (lg_sl ([.ref (ad (62)), .int (x0)]) ++ List.replicate (6 - (lg_sl ([.ref (ad (62)), .int (x0)])).length) Slot.unset).toArray = ls at hl ⊢
  have hl : lv_has ls 6 [(0, .ref (ad (62))), (1, .int (x0))] := hl
  refine lv_iload_n hx hb dX6_isList_0 rfl (lv_at hl 1 rfl) ?_
  refine lv_if_le (tgt := 11) hx hb dX6_isList_1 (by decide) (fun c1_1 => ?_) (fun c1_1 => ?_)
  · refine lv_iconst (v := nI (0)) hx hb dX6_isList_11 (by decide) ?_
    exact W.zret (v := nI (0)) hx hb hr (by decide) (fun tZ ht _ => ⟨_, rfl, rfl, ht⟩) (fun q hq => by cases hq) dX6_isList_12
  · refine lv_iload_n hx hb dX6_isList_4 rfl (lv_at hl 1 rfl) ?_
    refine lv_sipush (v := nI (255)) hx hb dX6_isList_5 (by decide) ?_
    refine lv_icmp_le (tgt := 13) hx hb dX6_isList_8 (by decide) (fun c8_2 => ?_) (fun c8_2 => ?_)
    · exact absurd (ls_bad hbad) (by rintro (h | h); exact c1_1 h; exact absurd c8_2 (by rw [Int32.not_le]; exact h))
    · refine lv_iconst (v := nI (0)) hx hb dX6_isList_11 (by decide) ?_
      exact W.zret (v := nI (0)) hx hb hr (by decide) (fun tZ ht _ => ⟨_, rfl, rfl, ht⟩) (fun q hq => by cases hq) dX6_isList_12
