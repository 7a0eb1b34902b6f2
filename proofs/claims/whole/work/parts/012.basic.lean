set_option maxHeartbeats 4000000 in
set_option maxRecDepth 100000 in
/-- power -/
theorem mX5_power (l : Launch) {D : va_G} {cI cJ cZ cW : ClassId} {ad : Nat → Nat} {g : Nat → va_E} {b0 e0 : Nat}  (he0 : e0 < 2 ^ 31) : Met l yX5_power wsX5_power ({ frames := 0, cells := 0, slots := 0, locals := 0 }) (va_Pc [.long (lZ ((b0 : Int))), .int (nI (e0))] (xB D (xT cI cJ cZ cW) ad g)) (vp_Sl (fun r => r = lZ ((b0 ^ e0 : Nat) : Int))) 0 0 (fun _ => False) := by
  refine Met.ofW (cc := cX5_power) (maxL := 6) (ret := (some .long)) (by decide) rfl ?_
  intro p e s m args below meth c s₁ B hml hv
  obtain ⟨rfl, hP, hK, hN⟩ := hv
  have hx := B.exec
  have hb := B.bytes
  have hr := B.returns
  have hts := atoms_spec (ws := wsX5_power) B.pre
  have hown : s.vm.findClass RX5 = some m.cls := findClass_of_methodNamed B.named
  have hlocks := B.notSynchronized
  have hl := lv_entry ([.long (lZ ((b0 : Int))), .int (nI (e0))]) (n := 6) (Nat.le_of_ble_eq_true rfl)
  rw [lg_entry_eq]
  generalize (lg_sl ([.long (lZ ((b0 : Int))), .int (nI (e0))]) ++ List.replicate (6 - (lg_sl ([.long (lZ ((b0 : Int))), .int (nI (e0))])).length) Slot.unset).toArray = ls at hl ⊢
  have hl : lv_has ls 6 [(0, .long (lZ ((b0 : Int)))), (2, .int (nI (e0)))] := hl
  refine lv_lconst (v := lZ (1)) hx hb dX5_power_0 (by decide) ?_
  refine lv_lstore_n (lv' := [(3, .long (lZ (1))), (0, .long (lZ ((b0 : Int)))), (2, .int (nI (e0)))]) hx hb dX5_power_1 rfl hl (by decide) rfl (fun ls hl => ?_)
  refine lv_iconst (v := nI (0)) hx hb dX5_power_2 (by decide) ?_
  refine lv_istore (lv' := [(5, .int (nI (0))), (3, .long (lZ (1))), (0, .long (lZ ((b0 : Int)))), (2, .int (nI (e0)))]) hx hb dX5_power_3 hl (by decide) rfl (fun ls hl => ?_)
  refine xloop (G := fun fr => W p l e _ s m _ below meth c _ _ _ _ _ fr) (σ := Nat) (fun i ls => F0 m 5 ls []) (fun i ls => (i ≤ e0) ∧ lv_has ls 6 [(0, .long (lZ ((b0 : Int)))), (2, .int (nI (e0))), (3, .long (lZ (((b0 ^ i : Nat) : Int)))), (5, .int (nI (i)))]) (fun i => e0 - i) ?_ (0) ls ⟨(by omega), (lv_sub hl [2, 3, 1, 0] rfl)⟩
  rintro i ls ⟨hi, hl⟩ ih5
  refine lv_iload hx hb dX5_power_5 (lv_at hl 3 rfl) ?_
  refine lv_iload_n hx hb dX5_power_7 rfl (lv_at hl 1 rfl) ?_
  refine xi_icmp_ge (tgt := 21) hx hb (by omega) (by omega) dX5_power_8 (by decide) (fun c8_1 => ?_) (fun c8_1 => ?_)
  · refine lv_lload_n hx hb dX5_power_21 rfl (lv_at hl 2 rfl) ?_
    exact W.lret (v := lZ (((b0 ^ i : Nat) : Int))) hx hb hr (fun tZ ht _ => ⟨_, rfl, (by show _ = _; rw [show i = e0 by omega]), ht⟩) (fun q hq => by cases hq) dX5_power_22
  · refine lv_lload_n hx hb dX5_power_11 rfl (lv_at hl 2 rfl) ?_
    refine lv_lload_n hx hb dX5_power_12 rfl (lv_at hl 0 rfl) ?_
    refine xl_mul hx hb dX5_power_13 ?_
    refine xtopl (y := lZ (((b0 ^ (i + 1) : Nat) : Int))) (congrArg lZ (by rw [Nat.pow_succ, Int.natCast_mul])) ?_
    refine lv_lstore_n (lv' := [(3, .long (lZ (((b0 ^ (i + 1) : Nat) : Int)))), (0, .long (lZ ((b0 : Int)))), (2, .int (nI (e0))), (5, .int (nI (i)))]) hx hb dX5_power_14 rfl hl (by decide) rfl (fun ls hl => ?_)
    refine lv_iinc (v := nI (i + 1)) (lv' := [(5, .int (nI (i + 1))), (3, .long (lZ (((b0 ^ (i + 1) : Nat) : Int)))), (0, .long (lZ ((b0 : Int)))), (2, .int (nI (e0)))]) hx hb dX5_power_15 hl (k := 3) rfl (nI_add (i) 1) (by decide) rfl (fun ls hl => ?_)
    refine lv_goto (tgt := 5) hx hb dX5_power_18 (by decide) ?_
    exact ih5 (i + 1) ls ⟨(by omega), (lv_sub hl [2, 3, 1, 0] rfl)⟩ (by first | omega | (dsimp only; omega))

set_option maxHeartbeats 4000000 in
set_option maxRecDepth 100000 in
/-- X5_isSlot yes -/
theorem mX5_isSlot_in (l : Launch) {D : va_G} {cI cJ cZ cW : ClassId} {ad : Nat → Nat} {g : Nat → va_E} {k : Nat}  (hk : k < 8) : Met l yX5_isSlot wsX5_isSlot ({ frames := 0, cells := 0, slots := 0, locals := 0 }) (va_Pc [.int (nI (k))] (xB D (xT cI cJ cZ cW) ad g)) (vp_Si (fun r => r = nI 1)) 0 0 (fun _ => False) := by
  refine Met.ofW (cc := cX5_isSlot) (maxL := 1) (ret := (some .boolean)) (by decide) rfl ?_
  intro p e s m args below meth c s₁ B hml hv
  obtain ⟨rfl, hP, hK, hN⟩ := hv
  have hx := B.exec
  have hb := B.bytes
  have hr := B.returns
  have hts := atoms_spec (ws := wsX5_isSlot) B.pre
  have hown : s.vm.findClass RX5 = some m.cls := findClass_of_methodNamed B.named
  have hlocks := B.notSynchronized
  have hl := lv_entry ([.int (nI (k))]) (n := 1) (Nat.le_of_ble_eq_true rfl)
  rw [lg_entry_eq]
  generalize (lg_sl ([.int (nI (k))]) ++ List.replicate (1 - (lg_sl ([.int (nI (k))])).length) Slot.unset).toArray = ls at hl ⊢
  have hl : lv_has ls 1 [(0, .int (nI (k)))] := hl
  refine lv_iload_n hx hb dX5_isSlot_0 rfl (lv_at hl 0 rfl) ?_
  refine xi_if_lt (tgt := 14) hx hb (by omega) dX5_isSlot_1 (by decide) ?_
  refine lv_iload_n hx hb dX5_isSlot_4 rfl (lv_at hl 0 rfl) ?_
  refine lv_bipush (v := nI (8)) hx hb dX5_isSlot_5 (by decide) ?_
  refine xi_icmp_ge (tgt := 14) hx hb (by omega) (by decide) dX5_isSlot_7 (by decide) (fun c7_2 => ?_) (fun c7_2 => ?_)
  · exact absurd c7_2 (by omega)
  · refine lv_iconst (v := nI (1)) hx hb dX5_isSlot_10 (by decide) ?_
    refine lv_goto (tgt := 15) hx hb dX5_isSlot_11 (by decide) ?_
    exact W.zret (v := nI (1)) hx hb hr (by decide) (fun tZ ht _ => ⟨_, rfl, rfl, ht⟩) (fun q hq => by cases hq) dX5_isSlot_15

set_option maxHeartbeats 4000000 in
set_option maxRecDepth 100000 in
/-- X5_isSlot no -/
theorem mX5_isSlot_out (l : Launch) {D : va_G} {cI cJ cZ cW : ClassId} {ad : Nat → Nat} {g : Nat → va_E} {x0 : Int32}  (hx0 : x0 < 0 ∨ nI 8 ≤ x0) : Met l yX5_isSlot wsX5_isSlot ({ frames := 0, cells := 0, slots := 0, locals := 0 }) (va_Pc [.int (x0)] (xB D (xT cI cJ cZ cW) ad g)) (vp_Si (fun r => r = nI 0)) 0 0 (fun _ => False) := by
  refine Met.ofW (cc := cX5_isSlot) (maxL := 1) (ret := (some .boolean)) (by decide) rfl ?_
  intro p e s m args below meth c s₁ B hml hv
  obtain ⟨rfl, hP, hK, hN⟩ := hv
  have hx := B.exec
  have hb := B.bytes
  have hr := B.returns
  have hts := atoms_spec (ws := wsX5_isSlot) B.pre
  have hown : s.vm.findClass RX5 = some m.cls := findClass_of_methodNamed B.named
  have hlocks := B.notSynchronized
  have hl := lv_entry ([.int (x0)]) (n := 1) (Nat.le_of_ble_eq_true rfl)
  rw [lg_entry_eq]
  generalize (lg_sl ([.int (x0)]) ++ List.replicate (1 - (lg_sl ([.int (x0)])).length) Slot.unset).toArray = ls at hl ⊢
  have hl : lv_has ls 1 [(0, .int (x0))] := hl
  refine lv_iload_n hx hb dX5_isSlot_0 rfl (lv_at hl 0 rfl) ?_
  refine lv_if_lt (tgt := 14) hx hb dX5_isSlot_1 (by decide) (fun c1_1 => ?_) (fun c1_1 => ?_)
  · refine lv_iconst (v := nI (0)) hx hb dX5_isSlot_14 (by decide) ?_
    exact W.zret (v := nI (0)) hx hb hr (by decide) (fun tZ ht _ => ⟨_, rfl, rfl, ht⟩) (fun q hq => by cases hq) dX5_isSlot_15
  · refine lv_iload_n hx hb dX5_isSlot_4 rfl (lv_at hl 0 rfl) ?_
    refine lv_bipush (v := nI (8)) hx hb dX5_isSlot_5 (by decide) ?_
    refine lv_icmp_ge (tgt := 14) hx hb dX5_isSlot_7 (by decide) (fun c7_2 => ?_) (fun c7_2 => ?_)
    · refine lv_iconst (v := nI (0)) hx hb dX5_isSlot_14 (by decide) ?_
      exact W.zret (v := nI (0)) hx hb hr (by decide) (fun tZ ht _ => ⟨_, rfl, rfl, ht⟩) (fun q hq => by cases hq) dX5_isSlot_15
    · exact absurd hx0 (by rintro (h | h); exact c1_1 h; exact c7_2 h)

set_option maxHeartbeats 4000000 in
set_option maxRecDepth 100000 in
/-- X5_isCounted yes -/
theorem mX5_isCounted_in (l : Launch) {D : va_G} {cI cJ cZ cW : ClassId} {ad : Nat → Nat} {g : Nat → va_E} {k : Nat}  (hk : k ≤ 30) : Met l yX5_isCounted wsX5_isCounted ({ frames := 0, cells := 0, slots := 0, locals := 0 }) (va_Pc [.int (nI (k))] (xB D (xT cI cJ cZ cW) ad g)) (vp_Si (fun r => r = nI 1)) 0 0 (fun _ => False) := by
  refine Met.ofW (cc := cX5_isCounted) (maxL := 1) (ret := (some .boolean)) (by decide) rfl ?_
  intro p e s m args below meth c s₁ B hml hv
  obtain ⟨rfl, hP, hK, hN⟩ := hv
  have hx := B.exec
  have hb := B.bytes
  have hr := B.returns
  have hts := atoms_spec (ws := wsX5_isCounted) B.pre
  have hown : s.vm.findClass RX5 = some m.cls := findClass_of_methodNamed B.named
  have hlocks := B.notSynchronized
  have hl := lv_entry ([.int (nI (k))]) (n := 1) (Nat.le_of_ble_eq_true rfl)
  rw [lg_entry_eq]
  generalize (lg_sl ([.int (nI (k))]) ++ List.replicate (1 - (lg_sl ([.int (nI (k))])).length) Slot.unset).toArray = ls at hl ⊢
  have hl : lv_has ls 1 [(0, .int (nI (k)))] := hl
  refine lv_iload_n hx hb dX5_isCounted_0 rfl (lv_at hl 0 rfl) ?_
  refine xi_if_lt (tgt := 14) hx hb (by omega) dX5_isCounted_1 (by decide) ?_
  refine lv_iload_n hx hb dX5_isCounted_4 rfl (lv_at hl 0 rfl) ?_
  refine lv_bipush (v := nI (30)) hx hb dX5_isCounted_5 (by decide) ?_
  refine xi_icmp_gt (tgt := 14) hx hb (by omega) (by decide) dX5_isCounted_7 (by decide) (fun c7_2 => ?_) (fun c7_2 => ?_)
  · exact absurd c7_2 (by omega)
  · refine lv_iconst (v := nI (1)) hx hb dX5_isCounted_10 (by decide) ?_
    refine lv_goto (tgt := 15) hx hb dX5_isCounted_11 (by decide) ?_
    exact W.zret (v := nI (1)) hx hb hr (by decide) (fun tZ ht _ => ⟨_, rfl, rfl, ht⟩) (fun q hq => by cases hq) dX5_isCounted_15

set_option maxHeartbeats 4000000 in
set_option maxRecDepth 100000 in
/-- X5_isCounted no -/
theorem mX5_isCounted_out (l : Launch) {D : va_G} {cI cJ cZ cW : ClassId} {ad : Nat → Nat} {g : Nat → va_E} {x0 : Int32}  (hx0 : x0 < 0 ∨ nI 30 < x0) : Met l yX5_isCounted wsX5_isCounted ({ frames := 0, cells := 0, slots := 0, locals := 0 }) (va_Pc [.int (x0)] (xB D (xT cI cJ cZ cW) ad g)) (vp_Si (fun r => r = nI 0)) 0 0 (fun _ => False) := by
  refine Met.ofW (cc := cX5_isCounted) (maxL := 1) (ret := (some .boolean)) (by decide) rfl ?_
  intro p e s m args below meth c s₁ B hml hv
  obtain ⟨rfl, hP, hK, hN⟩ := hv
  have hx := B.exec
  have hb := B.bytes
  have hr := B.returns
  have hts := atoms_spec (ws := wsX5_isCounted) B.pre
  have hown : s.vm.findClass RX5 = some m.cls := findClass_of_methodNamed B.named
  have hlocks := B.notSynchronized
  have hl := lv_entry ([.int (x0)]) (n := 1) (Nat.le_of_ble_eq_true rfl)
  rw [lg_entry_eq]
  generalize (lg_sl ([.int (x0)]) ++ List.replicate (1 - (lg_sl ([.int (x0)])).length) Slot.unset).toArray = ls at hl ⊢
  have hl : lv_has ls 1 [(0, .int (x0))] := hl
  refine lv_iload_n hx hb dX5_isCounted_0 rfl (lv_at hl 0 rfl) ?_
  refine lv_if_lt (tgt := 14) hx hb dX5_isCounted_1 (by decide) (fun c1_1 => ?_) (fun c1_1 => ?_)
  · refine lv_iconst (v := nI (0)) hx hb dX5_isCounted_14 (by decide) ?_
    exact W.zret (v := nI (0)) hx hb hr (by decide) (fun tZ ht _ => ⟨_, rfl, rfl, ht⟩) (fun q hq => by cases hq) dX5_isCounted_15
  · refine lv_iload_n hx hb dX5_isCounted_4 rfl (lv_at hl 0 rfl) ?_
    refine lv_bipush (v := nI (30)) hx hb dX5_isCounted_5 (by decide) ?_
    refine lv_icmp_gt (tgt := 14) hx hb dX5_isCounted_7 (by decide) (fun c7_2 => ?_) (fun c7_2 => ?_)
    · refine lv_iconst (v := nI (0)) hx hb dX5_isCounted_14 (by decide) ?_
      exact W.zret (v := nI (0)) hx hb hr (by decide) (fun tZ ht _ => ⟨_, rfl, rfl, ht⟩) (fun q hq => by cases hq) dX5_isCounted_15
    · exact absurd hx0 (by rintro (h | h); exact c1_1 h; exact c7_2 h)

set_option maxHeartbeats 4000000 in
set_option maxRecDepth 100000 in
/-- greatestDivisor -/
theorem mX5_greatestDivisor (l : Launch) {D : va_G} {cI cJ cZ cW : ClassId} {ad : Nat → Nat} {g : Nat → va_E} {a0 b0 : Nat}  (ha0 : a0 < 2 ^ 63) (hb0 : b0 < 2 ^ 63) : Met l yX5_greatestDivisor wsX5_greatestDivisor ({ frames := 0, cells := 0, slots := 0, locals := 0 }) (va_Pc [.long (lZ ((a0 : Int))), .long (lZ ((b0 : Int)))] (xB D (xT cI cJ cZ cW) ad g)) (vp_Sl (fun r => r = lZ ((Nat.gcd a0 b0 : Nat) : Int))) 0 0 (fun _ => False) := by
  refine Met.ofW (cc := cX5_greatestDivisor) (maxL := 11) (ret := (some .long)) (by decide) rfl ?_
  intro p e s m args below meth c s₁ B hml hv
  obtain ⟨rfl, hP, hK, hN⟩ := hv
  have hx := B.exec
  have hb := B.bytes
  have hr := B.returns
  have hts := atoms_spec (ws := wsX5_greatestDivisor) B.pre
  have hown : s.vm.findClass RX5 = some m.cls := findClass_of_methodNamed B.named
  have hlocks := B.notSynchronized
  have hl := lv_entry ([.long (lZ ((a0 : Int))), .long (lZ ((b0 : Int)))]) (n := 11) (Nat.le_of_ble_eq_true rfl)
  rw [lg_entry_eq]
  generalize (lg_sl ([.long (lZ ((a0 : Int))), .long (lZ ((b0 : Int)))]) ++ List.replicate (11 - (lg_sl ([.long (lZ ((a0 : Int))), .long (lZ ((b0 : Int)))])).length) Slot.unset).toArray = ls at hl ⊢
  have hl : lv_has ls 11 [(0, .long (lZ ((a0 : Int)))), (2, .long (lZ ((b0 : Int))))] := hl
  refine lv_lload_n hx hb dX5_greatestDivisor_0 rfl (lv_at hl 0 rfl) ?_
  refine lv_lstore (lv' := [(4, .long (lZ ((a0 : Int)))), (0, .long (lZ ((a0 : Int)))), (2, .long (lZ ((b0 : Int))))]) hx hb dX5_greatestDivisor_1 hl (by decide) rfl (fun ls hl => ?_)
  refine lv_lload_n hx hb dX5_greatestDivisor_3 rfl (lv_at hl 2 rfl) ?_
  refine lv_lstore (lv' := [(6, .long (lZ ((b0 : Int)))), (4, .long (lZ ((a0 : Int)))), (0, .long (lZ ((a0 : Int)))), (2, .long (lZ ((b0 : Int))))]) hx hb dX5_greatestDivisor_4 hl (by decide) rfl (fun ls hl => ?_)
  refine lv_iconst (v := nI (0)) hx hb dX5_greatestDivisor_6 (by decide) ?_
  refine lv_istore (lv' := [(8, .int (nI (0))), (6, .long (lZ ((b0 : Int)))), (4, .long (lZ ((a0 : Int)))), (0, .long (lZ ((a0 : Int)))), (2, .long (lZ ((b0 : Int))))]) hx hb dX5_greatestDivisor_7 hl (by decide) rfl (fun ls hl => ?_)
  refine xloop (G := fun fr => W p l e _ s m _ below meth c _ _ _ _ _ fr) (σ := Nat × Nat × Nat) (fun (x, y, i) ls => F0 m 9 ls []) (fun (x, y, i) ls => (i ≤ 100) ∧ (eu a0 b0 i x y) ∧ lv_has ls 11 [(4, .long (lZ ((x : Int)))), (6, .long (lZ ((y : Int)))), (8, .int (nI (i)))]) (fun (x, y, i) => 101 - i) ?_ (a0, b0, 0) ls ⟨(by omega), (eu_0 ha0 hb0), (lv_sub hl [2, 1, 0] rfl)⟩
  rintro ⟨x, y, i⟩ ls ⟨hi, hE, hl⟩ ih9
  refine lv_iload hx hb dX5_greatestDivisor_9 (lv_at hl 2 rfl) ?_
  refine lv_bipush (v := nI (100)) hx hb dX5_greatestDivisor_11 (by decide) ?_
  refine xi_icmp_ge (tgt := 44) hx hb (by omega) (by decide) dX5_greatestDivisor_13 (by decide) (fun c13_1 => ?_) (fun c13_1 => ?_)
  · exact absurd (show i = 100 by omega) (fun h => eu_100 hb0 (h ▸ hE))
  · refine lv_lload hx hb dX5_greatestDivisor_16 (lv_at hl 1 rfl) ?_
    refine lv_lconst (v := lZ (0)) hx hb dX5_greatestDivisor_18 (by decide) ?_
    refine xl_cmp_eq (tgt := 44) hx hb (by have := hE.2.1; omega) (by decide) dX5_greatestDivisor_19 dX5_greatestDivisor_20 (by decide) (fun c19_2 => ?_) (fun c19_2 => ?_)
    · refine lv_lload hx hb dX5_greatestDivisor_44 (lv_at hl 0 rfl) ?_
      exact W.lret (v := lZ ((x : Int))) hx hb hr (fun tZ ht _ => ⟨_, rfl, (by show _ = _; rw [eu_e (show eu a0 b0 i x 0 by have h : y = 0 := (by omega); rw [h] at hE; exact hE)]), ht⟩) (fun q hq => by cases hq) dX5_greatestDivisor_46
    · refine lv_lload hx hb dX5_greatestDivisor_23 (lv_at hl 0 rfl) ?_
      refine lv_lload hx hb dX5_greatestDivisor_25 (lv_at hl 1 rfl) ?_
      refine xl_rem hx hb (by have := hE.2.1; omega) (by have := hE.2.1; omega) (by omega) dX5_greatestDivisor_27 ?_
      refine xtopl (y := lZ (((x % y : Nat) : Int))) (congrArg lZ (Int.ofNat_tmod x y).symm) ?_
      refine lv_lstore (lv' := [(9, .long (lZ (((x % y : Nat) : Int)))), (4, .long (lZ ((x : Int)))), (6, .long (lZ ((y : Int)))), (8, .int (nI (i)))]) hx hb dX5_greatestDivisor_28 hl (by decide) rfl (fun ls hl => ?_)
      refine lv_lload hx hb dX5_greatestDivisor_30 (lv_at hl 2 rfl) ?_
      refine lv_lstore (lv' := [(4, .long (lZ ((y : Int)))), (9, .long (lZ (((x % y : Nat) : Int)))), (6, .long (lZ ((y : Int)))), (8, .int (nI (i)))]) hx hb dX5_greatestDivisor_32 hl (by decide) rfl (fun ls hl => ?_)
      refine lv_lload hx hb dX5_greatestDivisor_34 (lv_at hl 1 rfl) ?_
      refine lv_lstore (lv' := [(6, .long (lZ (((x % y : Nat) : Int)))), (4, .long (lZ ((y : Int)))), (9, .long (lZ (((x % y : Nat) : Int)))), (8, .int (nI (i)))]) hx hb dX5_greatestDivisor_36 hl (by decide) rfl (fun ls hl => ?_)
      refine lv_iinc (v := nI (i + 1)) (lv' := [(8, .int (nI (i + 1))), (6, .long (lZ (((x % y : Nat) : Int)))), (4, .long (lZ ((y : Int)))), (9, .long (lZ (((x % y : Nat) : Int))))]) hx hb dX5_greatestDivisor_38 hl (k := 3) rfl (nI_add (i) 1) (by decide) rfl (fun ls hl => ?_)
      refine lv_goto (tgt := 9) hx hb dX5_greatestDivisor_41 (by decide) ?_
      exact ih9 (y, x % y, i + 1) ls ⟨(by omega), (eu_s hE (fun h => c19_2 (by omega))), (lv_sub hl [2, 1, 0] rfl)⟩ (by first | omega | (dsimp only; omega))

set_option maxHeartbeats 4000000 in
set_option maxRecDepth 100000 in
/-- hold -/
theorem mX5_hold (l : Launch) {D : va_G} {cI cJ cZ cW : ClassId} {ad : Nat → Nat} {A : Nat → Prop} (hD : ∀ g, va_D A (xw 81 ad g)) {g : Nat → va_E} {a b : Int} {tp bt : Int64}  (fo_0 : g (0) = .inr (5, [.ref (ad (1)), .ref (ad (3)), .ref (ad (57)), .ref (ad (4)), .ref (ad (8)), .ref (ad (15)), .long (tp), .long (bt)])) (ha : -(2 ^ 63 : Int) < a ∧ a < 2 ^ 63) (hb : -(2 ^ 63 : Int) < b ∧ b < 2 ^ 63) (hb0 : b ≠ 0) : Met l yX5_hold wsX5_hold ({ frames := 1, cells := 0, slots := 0, locals := 30 }) (va_Pc [.ref (ad (0)), .long (lZ (a)), .long (lZ (b))] (xB D (xT cI cJ cZ cW) ad g)) (va_Qv (fun g2 => g2 0 = .inr (5, [.ref (ad (1)), .ref (ad (3)), .ref (ad (57)), .ref (ad (4)), .ref (ad (8)), .ref (ad (15)), .long (lZ ((Rat.divInt a b).num)), .long (lZ (((Rat.divInt a b).den : Int)))]) ∧ ∀ j : Nat, j ≠ 0 → g2 j = g j) (xB D (xT cI cJ cZ cW) ad) A) 0 0 A := by
  refine Met.ofW (cc := cX5_hold) (maxL := 9) (ret := none) (by decide) rfl ?_
  intro p e s m args below meth c s₁ B hml hv
  obtain ⟨rfl, hP, hK, hN⟩ := hv
  have hx := B.exec
  have hb := B.bytes
  have hr := B.returns
  have hts := atoms_spec (ws := wsX5_hold) B.pre
  have hown : s.vm.findClass RX5 = some m.cls := findClass_of_methodNamed B.named
  have hlocks := B.notSynchronized
  have hS : va_S A s.heap s.heap [] := va_S.rf
  have hin5 : ∀ w ∈ wsX50, w ∈ wsX5_hold := by decide +kernel
  have hf48 := hts (.fieldLink RX5 48 "LettersByLot" "topAtHand" "J") (by decide +kernel)
  have hf52 := hts (.fieldLink RX5 52 "LettersByLot" "bottomAtHand" "J") (by decide +kernel)
  have hl := lv_entry ([.ref (ad (0)), .long (lZ (a)), .long (lZ (b))]) (n := 9) (Nat.le_of_ble_eq_true rfl)
  rw [lg_entry_eq]
  generalize (lg_sl ([.ref (ad (0)), .long (lZ (a)), .long (lZ (b))]) ++ List.replicate (9 - (lg_sl ([.ref (ad (0)), .long (lZ (a)), .long (lZ (b))])).length) Slot.unset).toArray = ls at hl ⊢
  have hl : lv_has ls 9 [(0, .ref (ad (0))), (1, .long (lZ (a))), (3, .long (lZ (b)))] := hl
  refine lv_lload_n hx hb dX5_hold_0 rfl (lv_at hl 1 rfl) ?_
  refine va_mabs_long hx hb (hml.trans hl.1.symm) hown (hts (.methodLink RX5 186 Lib.MathLoose.abs_long.x) (by decide +kernel)) (hts (.static Lib.MathLoose.abs_long.x) (by decide +kernel)) (hts (.initialized "java/lang/Math") (by decide +kernel)) (hts (.code Lib.MathLoose.abs_long.x Lib.MathLoose.abs_long.code 2 (some .long)) (by decide +kernel)) (Nat.le_of_ble_eq_true rfl) (Nat.le_of_ble_eq_true rfl) (Nat.zero_le _) (Nat.zero_le _) dX5_hold_1 ?_
  refine xtopl (y := lZ (((a).natAbs : Nat) : Int)) (lZ_abs (by omega)) ?_
  refine lv_lload_n hx hb dX5_hold_4 rfl (lv_at hl 2 rfl) ?_
  refine va_mabs_long hx hb (hml.trans hl.1.symm) hown (hts (.methodLink RX5 186 Lib.MathLoose.abs_long.x) (by decide +kernel)) (hts (.static Lib.MathLoose.abs_long.x) (by decide +kernel)) (hts (.initialized "java/lang/Math") (by decide +kernel)) (hts (.code Lib.MathLoose.abs_long.x Lib.MathLoose.abs_long.code 2 (some .long)) (by decide +kernel)) (Nat.le_of_ble_eq_true rfl) (Nat.le_of_ble_eq_true rfl) (Nat.zero_le _) (Nat.zero_le _) dX5_hold_5 ?_
  refine xtopl (y := lZ (((b).natAbs : Nat) : Int)) (lZ_abs (by omega)) ?_
  refine vp_callSl (va_Run.run (va_runS (As := [.long (lZ ((((a).natAbs : Nat) : Int))), .long (lZ ((((b).natAbs : Nat) : Int)))]) (rest := []) ⟨hx, hb, hml, hown, hts⟩ (mX5_greatestDivisor l (a0 := ((a).natAbs)) (b0 := ((b).natAbs)) (by omega) (by omega)) (va_cwS 2 hts gX5_hold_X5_greatestDivisor rfl rfl rfl (by decide +kernel) ⟨Nat.le_of_ble_eq_true rfl, Nat.le_of_ble_eq_true rfl⟩) ⟨xB_blind, fun U hU hW => ⟨rfl, by rw [hU]; exact hP, va_K.moved hW.alike hK, va_Nw.warmM hW hN⟩⟩ rfl rfl hl.1 rfl (lv_room (Nat.le_of_ble_eq_true rfl)) dX5_hold_8 ⟨Nat.le_of_ble_eq_true rfl, Nat.le_of_ble_eq_true rfl⟩)) (fun r1 er1 => ?_)
  subst er1
  refine lv_lstore (lv' := [(5, .long (lZ (((Nat.gcd ((a).natAbs) ((b).natAbs) : Nat) : Int)))), (0, .ref (ad (0))), (1, .long (lZ (a))), (3, .long (lZ (b)))]) hx hb dX5_hold_11 hl (by decide) rfl (fun ls hl => ?_)
  refine lv_lload hx hb dX5_hold_13 (lv_at hl 0 rfl) ?_
  refine lv_lconst (v := lZ (0)) hx hb dX5_hold_15 (by decide) ?_
  refine xl_cmp_eq (tgt := 26) hx hb (by have h1 : Nat.gcd (a).natAbs (b).natAbs ≤ (b).natAbs := Nat.gcd_le_right _ (by omega); have h2 : 0 < Nat.gcd (a).natAbs (b).natAbs := Nat.gcd_pos_of_pos_right _ (by omega); omega) (by decide) dX5_hold_16 dX5_hold_17 (by decide) (fun c16_2 => ?_) (fun c16_2 => ?_)
  · exact absurd c16_2 (by have h1 : Nat.gcd (a).natAbs (b).natAbs ≠ 0 := (fun h => hb0 (by have h2 := Nat.eq_zero_of_gcd_eq_zero_right h; omega)); omega)
  · refine lv_lload_n hx hb dX5_hold_20 rfl (lv_at hl 3 rfl) ?_
    refine lv_lconst (v := lZ (0)) hx hb dX5_hold_21 (by decide) ?_
    refine xl_cmp_ne (tgt := 27) hx hb (by omega) (by decide) dX5_hold_22 dX5_hold_23 (by decide) (fun c22_3 => ?_) (fun c22_3 => ?_)
    · refine lv_lload_n hx hb dX5_hold_27 rfl (lv_at hl 3 rfl) ?_
      refine lv_lconst (v := lZ (0)) hx hb dX5_hold_28 (by decide) ?_
      refine xl_cmp_ge (tgt := 39) hx hb (by omega) (by decide) dX5_hold_29 dX5_hold_30 (by decide) (fun c29_4 => ?_) (fun c29_4 => ?_)
      · refine lv_lload hx hb dX5_hold_39 (lv_at hl 0 rfl) ?_
        refine lv_lstore (lv' := [(7, .long (lZ (((Nat.gcd ((a).natAbs) ((b).natAbs) : Nat) : Int)))), (5, .long (lZ (((Nat.gcd ((a).natAbs) ((b).natAbs) : Nat) : Int)))), (0, .ref (ad (0))), (1, .long (lZ (a))), (3, .long (lZ (b)))]) hx hb dX5_hold_41 hl (by decide) rfl (fun ls hl => ?_)
        refine lv_aload_n hx hb dX5_hold_43 rfl (lv_at hl 2 rfl) ?_
        refine lv_lload_n hx hb dX5_hold_44 rfl (lv_at hl 3 rfl) ?_
        refine lv_lload hx hb dX5_hold_45 (lv_at hl 0 rfl) ?_
        refine xl_div hx hb (by omega) (by have h1 : Nat.gcd (a).natAbs (b).natAbs ≤ (b).natAbs := Nat.gcd_le_right _ (by omega); have h2 : 0 < Nat.gcd (a).natAbs (b).natAbs := Nat.gcd_pos_of_pos_right _ (by omega); omega) (by have h1 : Nat.gcd (a).natAbs (b).natAbs ≤ (b).natAbs := Nat.gcd_le_right _ (by omega); have h2 : 0 < Nat.gcd (a).natAbs (b).natAbs := Nat.gcd_pos_of_pos_right _ (by omega); omega) dX5_hold_47 ?_
        refine xtopl (y := lZ ((Rat.divInt a b).num)) (congrArg lZ (fr_np (by omega))) ?_
        refine xw_put hx hb hts hin5 tyX5 tyX5_ok nmX5 hown hK hP hD hS (by decide) fo_0 rfl 6 (by decide) hf48 rfl rfl (ty := .long) (by decide +kernel) rfl rfl (Nat.le_of_ble_eq_true rfl) (fs' := [.ref (ad (1)), .ref (ad (3)), .ref (ad (57)), .ref (ad (4)), .ref (ad (8)), .ref (ad (15)), .long (lZ ((Rat.divInt a b).num)), .long (bt)]) rfl dX5_hold_48 (fun g5 H locs eg5 hP hS => ?_)
        have fg5_w : g5 (0) = .inr (5, [.ref (ad (1)), .ref (ad (3)), .ref (ad (57)), .ref (ad (4)), .ref (ad (8)), .ref (ad (15)), .long (lZ ((Rat.divInt a b).num)), .long (bt)]) := (congrFun eg5 (0)).trans (va_up_self _ _ _)
        have hfrg5 : ∀ j : Nat, j ≠ 0 → g5 j = g j := fun j h0 => (congrFun eg5 j).trans ((va_up_ne _ _ h0).trans ((fun _ _ => rfl) j h0))
        refine lv_aload_n hx hb dX5_hold_51 rfl (lv_at hl 2 rfl) ?_
        refine lv_lload_n hx hb dX5_hold_52 rfl (lv_at hl 4 rfl) ?_
        refine lv_lload hx hb dX5_hold_53 (lv_at hl 0 rfl) ?_
        refine xl_div hx hb (by omega) (by have h1 : Nat.gcd (a).natAbs (b).natAbs ≤ (b).natAbs := Nat.gcd_le_right _ (by omega); have h2 : 0 < Nat.gcd (a).natAbs (b).natAbs := Nat.gcd_pos_of_pos_right _ (by omega); omega) (by have h1 : Nat.gcd (a).natAbs (b).natAbs ≤ (b).natAbs := Nat.gcd_le_right _ (by omega); have h2 : 0 < Nat.gcd (a).natAbs (b).natAbs := Nat.gcd_pos_of_pos_right _ (by omega); omega) dX5_hold_55 ?_
        refine xtopl (y := lZ (((Rat.divInt a b).den : Int))) (congrArg lZ (fr_dp (by omega))) ?_
        refine xw_put hx hb hts hin5 tyX5 tyX5_ok nmX5 hown hK hP hD hS (by decide) fg5_w rfl 7 (by decide) hf52 rfl rfl (ty := .long) (by decide +kernel) rfl rfl (Nat.le_of_ble_eq_true rfl) (fs' := [.ref (ad (1)), .ref (ad (3)), .ref (ad (57)), .ref (ad (4)), .ref (ad (8)), .ref (ad (15)), .long (lZ ((Rat.divInt a b).num)), .long (lZ (((Rat.divInt a b).den : Int)))]) rfl dX5_hold_56 (fun g6 H locs eg6 hP hS => ?_)
        have fg6_w : g6 (0) = .inr (5, [.ref (ad (1)), .ref (ad (3)), .ref (ad (57)), .ref (ad (4)), .ref (ad (8)), .ref (ad (15)), .long (lZ ((Rat.divInt a b).num)), .long (lZ (((Rat.divInt a b).den : Int)))]) := (congrFun eg6 (0)).trans (va_up_self _ _ _)
        have hfrg6 : ∀ j : Nat, j ≠ 0 → g6 j = g j := fun j h0 => (congrFun eg6 j).trans ((va_up_ne _ _ h0).trans (hfrg5 j h0))
        exact W.vret hx hb hr (fun tZ ht hW => ⟨⟨g6, rfl, ⟨fg6_w, hfrg6⟩, by rw [ht]; exact hP, va_K.moved hW.alike hK, va_Nw.warmM hW hN⟩, hS.F ht⟩) hS.2.2 dX5_hold_59
      · refine lv_lload hx hb dX5_hold_33 (lv_at hl 0 rfl) ?_
        refine xl_neg hx hb dX5_hold_35 ?_
        refine lv_goto (tgt := 41) hx hb dX5_hold_36 (by decide) ?_
        refine lv_lstore (lv' := [(7, .long (lZ (-(((Nat.gcd ((a).natAbs) ((b).natAbs) : Nat) : Int))))), (5, .long (lZ (((Nat.gcd ((a).natAbs) ((b).natAbs) : Nat) : Int)))), (0, .ref (ad (0))), (1, .long (lZ (a))), (3, .long (lZ (b)))]) hx hb dX5_hold_41 hl (by decide) rfl (fun ls hl => ?_)
        refine lv_aload_n hx hb dX5_hold_43 rfl (lv_at hl 2 rfl) ?_
        refine lv_lload_n hx hb dX5_hold_44 rfl (lv_at hl 3 rfl) ?_
        refine lv_lload hx hb dX5_hold_45 (lv_at hl 0 rfl) ?_
        refine xl_div hx hb (by omega) (by have h1 : Nat.gcd (a).natAbs (b).natAbs ≤ (b).natAbs := Nat.gcd_le_right _ (by omega); have h2 : 0 < Nat.gcd (a).natAbs (b).natAbs := Nat.gcd_pos_of_pos_right _ (by omega); omega) (by have h1 : Nat.gcd (a).natAbs (b).natAbs ≤ (b).natAbs := Nat.gcd_le_right _ (by omega); have h2 : 0 < Nat.gcd (a).natAbs (b).natAbs := Nat.gcd_pos_of_pos_right _ (by omega); omega) dX5_hold_47 ?_
        refine xtopl (y := lZ ((Rat.divInt a b).num)) (congrArg lZ (fr_nn (by omega))) ?_
        refine xw_put hx hb hts hin5 tyX5 tyX5_ok nmX5 hown hK hP hD hS (by decide) fo_0 rfl 6 (by decide) hf48 rfl rfl (ty := .long) (by decide +kernel) rfl rfl (Nat.le_of_ble_eq_true rfl) (fs' := [.ref (ad (1)), .ref (ad (3)), .ref (ad (57)), .ref (ad (4)), .ref (ad (8)), .ref (ad (15)), .long (lZ ((Rat.divInt a b).num)), .long (bt)]) rfl dX5_hold_48 (fun g7 H locs eg7 hP hS => ?_)
        have fg7_w : g7 (0) = .inr (5, [.ref (ad (1)), .ref (ad (3)), .ref (ad (57)), .ref (ad (4)), .ref (ad (8)), .ref (ad (15)), .long (lZ ((Rat.divInt a b).num)), .long (bt)]) := (congrFun eg7 (0)).trans (va_up_self _ _ _)
        have hfrg7 : ∀ j : Nat, j ≠ 0 → g7 j = g j := fun j h0 => (congrFun eg7 j).trans ((va_up_ne _ _ h0).trans ((fun _ _ => rfl) j h0))
        refine lv_aload_n hx hb dX5_hold_51 rfl (lv_at hl 2 rfl) ?_
        refine lv_lload_n hx hb dX5_hold_52 rfl (lv_at hl 4 rfl) ?_
        refine lv_lload hx hb dX5_hold_53 (lv_at hl 0 rfl) ?_
        refine xl_div hx hb (by omega) (by have h1 : Nat.gcd (a).natAbs (b).natAbs ≤ (b).natAbs := Nat.gcd_le_right _ (by omega); have h2 : 0 < Nat.gcd (a).natAbs (b).natAbs := Nat.gcd_pos_of_pos_right _ (by omega); omega) (by have h1 : Nat.gcd (a).natAbs (b).natAbs ≤ (b).natAbs := Nat.gcd_le_right _ (by omega); have h2 : 0 < Nat.gcd (a).natAbs (b).natAbs := Nat.gcd_pos_of_pos_right _ (by omega); omega) dX5_hold_55 ?_
        refine xtopl (y := lZ (((Rat.divInt a b).den : Int))) (congrArg lZ (fr_dn (by omega))) ?_
        refine xw_put hx hb hts hin5 tyX5 tyX5_ok nmX5 hown hK hP hD hS (by decide) fg7_w rfl 7 (by decide) hf52 rfl rfl (ty := .long) (by decide +kernel) rfl rfl (Nat.le_of_ble_eq_true rfl) (fs' := [.ref (ad (1)), .ref (ad (3)), .ref (ad (57)), .ref (ad (4)), .ref (ad (8)), .ref (ad (15)), .long (lZ ((Rat.divInt a b).num)), .long (lZ (((Rat.divInt a b).den : Int)))]) rfl dX5_hold_56 (fun g8 H locs eg8 hP hS => ?_)
        have fg8_w : g8 (0) = .inr (5, [.ref (ad (1)), .ref (ad (3)), .ref (ad (57)), .ref (ad (4)), .ref (ad (8)), .ref (ad (15)), .long (lZ ((Rat.divInt a b).num)), .long (lZ (((Rat.divInt a b).den : Int)))]) := (congrFun eg8 (0)).trans (va_up_self _ _ _)
        have hfrg8 : ∀ j : Nat, j ≠ 0 → g8 j = g j := fun j h0 => (congrFun eg8 j).trans ((va_up_ne _ _ h0).trans (hfrg7 j h0))
        exact W.vret hx hb hr (fun tZ ht hW => ⟨⟨g8, rfl, ⟨fg8_w, hfrg8⟩, by rw [ht]; exact hP, va_K.moved hW.alike hK, va_Nw.warmM hW hN⟩, hS.F ht⟩) hS.2.2 dX5_hold_59
    · exact absurd c22_3 hb0
