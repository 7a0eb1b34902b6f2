theorem bc_mod : ∀ L, L < 256 → ∀ s, s ≤ 8 → bcN (L % 2 ^ s) 8 = bcN L s := by decide +kernel
theorem ent_k {ln : Nat → Nat} {u : Nat → Nat → Nat} {L : Nat} : ∀ {s k : Nat} {sl : Nat → Nat}, ent ln u L s = some (k, sl) → k = bcN L s ∧ ∀ j, j < s → L / 2 ^ j % 2 = 1 → sl (bcN L j) = j ∧ bcN L j < k
  | 0, k, sl, h => by
    obtain ⟨rfl, rfl⟩ := Prod.mk.inj (Option.some.inj h)
    exact ⟨rfl, fun j hj => absurd hj (by omega)⟩
  | s + 1, k, sl, h => by
    cases e : ent ln u L s with
    | none =>
      have h2 : ent ln u L (s + 1) = none := ent_none (d := 1) e
      rw [h2] at h; cases h
    | some p =>
      obtain ⟨k0, sl0⟩ := p
      obtain ⟨i1, i2⟩ := ent_k e
      rw [ent_s e] at h
      have hb9 : bcN L (s + 1) = bcN L s + L / 2 ^ s % 2 := rfl
      by_cases hb : L / 2 ^ s % 2 = 1
      · rw [if_pos hb] at h
        by_cases hc : 0 < ln s ∧ k0 < 3 ∧ (∀ i, i < k0 → ¬ (liesW (u s) (ln s) (u (sl0 i)) (ln (sl0 i)) ∨ liesW (u (sl0 i)) (ln (sl0 i)) (u s) (ln s)))
        · rw [if_pos hc] at h
          obtain ⟨rfl, rfl⟩ := Prod.mk.inj (Option.some.inj h)
          refine ⟨by omega, fun j hj hjb => ?_⟩
          by_cases hjs : j = s
          · subst hjs
            rw [i1, va_up_self]
            exact ⟨rfl, by omega⟩
          · have h5 := i2 j (by omega) hjb
            rw [va_up_ne _ _ (by omega)]
            exact ⟨h5.1, by omega⟩
        · rw [if_neg hc] at h; cases h
      · rw [if_neg hb] at h
        obtain ⟨rfl, rfl⟩ := Prod.mk.inj (Option.some.inj h)
        refine ⟨by omega, fun j hj hjb => ?_⟩
        by_cases hjs : j = s
        · subst hjs; exact absurd hjb hb
        · exact i2 j (by omega) hjb
def oFirst (Wt : Nat) (w : Nat → Nat) (ln : Nat → Nat) (u : Nat → Nat → Nat) (x y : Int32) : Option Rat := match lsN x with
  | none => none
  | some L => match ent ln u L 8 with
    | none => none
    | some (k, sl) => if y = -1 then some (Rat.divInt (dtM (rM Wt w ln u k sl) (rK Wt w ln u k sl) 3) (ssM (rM Wt w ln u k sl) (rK Wt w ln u k sl) k)) else if ¬ y < 0 ∧ ¬ nI 8 ≤ y ∧ L / 2 ^ y.toNatClampNeg % 2 = 1 then some (Rat.divInt (dtM (rM Wt w ln u k sl) (rK Wt w ln u k sl) (bcN L y.toNatClampNeg)) (ssM (rM Wt w ln u k sl) (rK Wt w ln u k sl) k)) else none
/-- the sum of the shares of a LIST isn't 0 -/
def ssNZ (Wt : Nat) (w : Nat → Nat) (ln : Nat → Nat) (u : Nat → Nat → Nat) : Prop := ∀ L k sl, 1 ≤ L → L < 256 → ent ln u L 8 = some (k, sl) → ssM (rM Wt w ln u k sl) (rK Wt w ln u k sl) k ≠ 0
theorem mulB {a b A B : Int} (ha : -A ≤ a ∧ a ≤ A) (hb : -B ≤ b ∧ b ≤ B) : -(A * B) ≤ a * b ∧ a * b ≤ A * B := by
  have h1 : a.natAbs ≤ A.natAbs := by omega
  have h2 : b.natAbs ≤ B.natAbs := by omega
  have h3 : (a * b).natAbs ≤ (A * B).natAbs := by rw [Int.natAbs_mul, Int.natAbs_mul]; exact Nat.mul_le_mul h1 h2
  have h4 : 0 ≤ A * B := Int.mul_nonneg (by omega) (by omega)
  omega
theorem enM_B {Mx Kx : Nat → Int} (hM : ∀ i, i < 9 → -5120 ≤ Mx i ∧ Mx i ≤ 5120) (hK : ∀ i, i < 3 → -5120 ≤ Kx i ∧ Kx i ≤ 5120) {p r c : Nat} (hr : r < 3) (hc : c < 3) : -5120 ≤ enM Mx Kx p r c ∧ enM Mx Kx p r c ≤ 5120 := by
  unfold enM
  split
  · exact hK r hr
  · exact hM _ (by omega)
theorem dtM_B {Mx Kx : Nat → Int} (hM : ∀ i, i < 9 → -5120 ≤ Mx i ∧ Mx i ≤ 5120) (hK : ∀ i, i < 3 → -5120 ≤ Kx i ∧ Kx i ≤ 5120) (p : Nat) : -805306368000 ≤ dtM Mx Kx p ∧ dtM Mx Kx p ≤ 805306368000 := by
  have m : ∀ a b, a < 3 → b < 3 → -52428800 ≤ mnM Mx Kx p a b ∧ mnM Mx Kx p a b ≤ 52428800 := by
    intro a b ha hb
    have h1 := mulB (enM_B hM hK (p := p) (r := 1) (c := a) (by decide) ha) (enM_B hM hK (p := p) (r := 2) (c := b) (by decide) hb)
    have h2 := mulB (enM_B hM hK (p := p) (r := 1) (c := b) (by decide) hb) (enM_B hM hK (p := p) (r := 2) (c := a) (by decide) ha)
    unfold mnM
    omega
  have h1 := mulB (enM_B hM hK (p := p) (r := 0) (c := 0) (by decide) (by decide)) (m 1 2 (by decide) (by decide))
  have h2 := mulB (enM_B hM hK (p := p) (r := 0) (c := 1) (by decide) (by decide)) (m 0 2 (by decide) (by decide))
  have h3 := mulB (enM_B hM hK (p := p) (r := 0) (c := 2) (by decide) (by decide)) (m 0 1 (by decide) (by decide))
  unfold dtM
  omega
theorem ssM_B {Mx Kx : Nat → Int} (hM : ∀ i, i < 9 → -5120 ≤ Mx i ∧ Mx i ≤ 5120) (hK : ∀ i, i < 3 → -5120 ≤ Kx i ∧ Kx i ≤ 5120) : ∀ (k : Nat), -(805306368000 * (k : Int)) ≤ ssM Mx Kx k ∧ ssM Mx Kx k ≤ 805306368000 * (k : Int)
  | 0 => by simp [ssM]
  | k + 1 => by
    have h1 := ssM_B hM hK k
    have h2 := dtM_B hM hK k
    show -(805306368000 * ((k + 1 : Nat) : Int)) ≤ ssM Mx Kx k + dtM Mx Kx k ∧ ssM Mx Kx k + dtM Mx Kx k ≤ 805306368000 * ((k + 1 : Nat) : Int)
    omega
theorem rM_B {Wt : Nat} {w : Nat → Nat} {ln : Nat → Nat} {u : Nat → Nat → Nat} {k : Nat} {sl : Nat → Nat} (h : ∀ s j, j ≤ ln s → shr Wt w (u s) (ln s) j ≤ 1024) (i : Nat) : -5120 ≤ rM Wt w ln u k sl i ∧ rM Wt w ln u k sl i ≤ 5120 := by
  unfold rM
  split
  · have := lapS_le (u := u (sl (i % 3))) (n := ln (sl (i % 3))) (v := u (sl (i / 3))) (h (sl (i / 3))) 5
    omega
  · unfold idM; split <;> decide
theorem rK_B {Wt : Nat} {w : Nat → Nat} {ln : Nat → Nat} {u : Nat → Nat → Nat} {k : Nat} {sl : Nat → Nat} (h : ∀ s j, j ≤ ln s → shr Wt w (u s) (ln s) j ≤ 1024) (i : Nat) : -5120 ≤ rK Wt w ln u k sl i ∧ rK Wt w ln u k sl i ≤ 5120 := by
  unfold rK
  split
  · have := h (sl i) 0 (Nat.zero_le _)
    omega
  · decide
set_option maxHeartbeats 4000000 in
set_option maxRecDepth 100000 in
theorem mX5_first_mean (l : Launch) {D : va_G} {cI cJ cZ cW : ClassId} {ad : Nat → Nat} {A : Nat → Prop} (hD : ∀ g, va_D A (xw 81 ad g)) {g : Nat → va_E} {q Wt : Nat} {w : Nat → Nat} {ln : Nat → Nat} {u : Nat → Nat → Nat} {T : Nat} {t : Nat → Nat} {tp bt : Int64} {Lq : Nat}  (hC : ClsI cI cJ cZ cW ad g q Wt w ln u T t tp bt) (hs : SrcI q Wt w ln u T t) (hL1 : 1 ≤ Lq) (hL2 : Lq < 256) (hLs : lsN (nI Lq) = some Lq) (hNZ : ssNZ Wt w ln u) : Met l yX5_first wsX5_first ({ frames := 4, cells := 0, slots := 0, locals := 94 }) (va_Pc [.ref (ad (0)), .int (nI (Lq)), .int ((-1))] (xB D (xT cI cJ cZ cW) ad g)) (va_Qi (fun r g2 => r = (if (oFirst Wt w ln u (nI (Lq)) (-1)).isSome then 1 else 0) ∧ ClsI cI cJ cZ cW ad g2 q Wt w ln u T t (hTp (oFirst Wt w ln u (nI (Lq)) (-1)) tp) (hBt (oFirst Wt w ln u (nI (Lq)) (-1)) bt) ∧ ∀ j : Nat, 62 ≤ j → g2 j = g j) (xB D (xT cI cJ cZ cW) ad) A) 0 0 A := by
  refine Met.ofW (cc := cX5_first) (maxL := 4) (ret := (some .boolean)) (by decide) rfl ?_
  intro p e s m args below meth c s₁ B hml hv
  obtain ⟨rfl, hP, hK, hN⟩ := hv
  have hx := B.exec
  have hb := B.bytes
  have hr := B.returns
  have hts := atoms_spec (ws := wsX5_first) B.pre
  have hown : s.vm.findClass RX5 = some m.cls := findClass_of_methodNamed B.named
  have hlocks := B.notSynchronized
  have hS : va_S A s.heap s.heap [] := va_S.rf
  have hin5 : ∀ w ∈ wsX50, w ∈ wsX5_first := by decide +kernel
  have hf30 := hts (.fieldLink RX5 30 "LettersByLot" "race" "LLettersByLot$Race;") (by decide +kernel)
  have hl := lv_entry ([.ref (ad (0)), .int (nI (Lq)), .int ((-1))]) (n := 4) (Nat.le_of_ble_eq_true rfl)
  rw [lg_entry_eq]
  generalize (lg_sl ([.ref (ad (0)), .int (nI (Lq)), .int ((-1))]) ++ List.replicate (4 - (lg_sl ([.ref (ad (0)), .int (nI (Lq)), .int ((-1))])).length) Slot.unset).toArray = ls at hl ⊢
  have hl : lv_has ls 4 [(0, .ref (ad (0))), (1, .int (nI (Lq))), (2, .int ((-1)))] := hl
  have hs9 := hs
  obtain ⟨hq2, hq4, hw1, hw0, hWs, hWt, hw, hln, hul, hT, ht⟩ := hs
  obtain ⟨fo_0, ⟨f2, fo_1, fa_2, h2⟩, ⟨f3, fa_3, h3⟩, hRace, hMach, ⟨f16, fo15, fa16, h16⟩, hwd, hcand⟩ := id hC
  have hWp : 1 ≤ Wt ∧ Wt ≤ 4 := by have h8 := hw1 0 (by omega); have h9 := wsum_mono (w := w) (show 1 ≤ q by omega); have h7 : wsum w 1 = 0 + w 0 := rfl; omega
  obtain ⟨f5r, f6r, f7r, szr, fo4, fa5, fa6, fa7⟩ := hRace
  refine lv_aload_n hx hb dX5_first_0 rfl (lv_at hl 0 rfl) ?_
  refine lv_iload_n hx hb dX5_first_1 rfl (lv_at hl 1 rfl) ?_
  refine va_calli (va_runV (As := [.int (nI (Lq))]) (rest := []) ⟨hx, hb, hml, hown, hts⟩ (mX5_enterList_in l hD hC hs9 hL1 hL2) (cwV 1 hts gX5_first_X5_enterList rfl rfl rfl (by decide +kernel) ⟨Nat.le_of_ble_eq_true rfl, Nat.le_of_ble_eq_true rfl⟩) ⟨xB_blind, va_recv hK hP (ci := 5) rfl (xw_is (by decide) fo_0), fun U hU hW => ⟨rfl, by rw [hU]; exact hP, va_K.moved hW.alike hK, va_Nw.warmM hW hN⟩⟩ rfl rfl hl.1 rfl (lv_room (Nat.le_of_ble_eq_true rfl)) dX5_first_2 ⟨Nat.le_of_ble_eq_true rfl, Nat.le_of_ble_eq_true rfl⟩) hS (fun _ _ h => h) (fun _ h => h) (fun r1 ge tZ H locs ht1 hvm hwb hB hzZ hkZ hS => ?_)
  obtain ⟨hP, -⟩ := hB
  rw [ht1] at hP
  rcases hwb with ⟨er1, k0, sl, f5, f6, f7, hent, h5, h6, h7, fe4, fe5, fe6, fe7, hce⟩ | ⟨er1, hent, hRe, hce⟩
  · subst er1
    have fk0 : ge (0) = .inr (5, [.ref (ad (1)), .ref (ad (3)), .ref (ad (57)), .ref (ad (4)), .ref (ad (8)), .ref (ad (15)), .long (tp), .long (bt)]) := (hce 0 (by decide) (by decide) (by decide) (by decide)).trans fo_0
    have hfrge : ∀ j : Nat, j ≠ 0 → j ≠ 4 → j ≠ 5 → j ≠ 6 → j ≠ 7 → ge j = g j := fun j h0 h1 h2 h3 h4 => hce j h1 h2 h3 h4
    obtain ⟨hk3, hsl⟩ := ent_inv hent
    have hshr : ∀ s j, j ≤ ln s → shr Wt w (u s) (ln s) j ≤ 1024 := fun s j hj => shr_le hWt (fun i hi => hw _ (Nat.lt_of_lt_of_le (hul s i hi) hq4)) (hln s) hj
    have hMB : ∀ i, i < 9 → -5120 ≤ rM Wt w ln u k0 sl i ∧ rM Wt w ln u k0 sl i ≤ 5120 := fun i _ => rM_B hshr i
    have hKB : ∀ i, i < 3 → -5120 ≤ rK Wt w ln u k0 sl i ∧ rK Wt w ln u k0 sl i ≤ 5120 := fun i _ => rK_B hshr i
    refine xi_if_ne (tgt := 10) hx hb (by decide) dX5_first_5 (by decide) (fun _ => ?_) (fun c0 => absurd c0 (by decide))
    refine lv_iload_n hx hb dX5_first_10 rfl (lv_at hl 2 rfl) ?_
    refine lv_iconst (v := (-1)) hx hb dX5_first_11 (by decide) ?_
    refine lv_icmp_ne (tgt := 36) hx hb dX5_first_12 (by decide) (fun c12_2 => ?_) (fun c12_2 => ?_)
    · exact absurd rfl c12_2
    · refine lv_aload_n hx hb dX5_first_15 rfl (lv_at hl 0 rfl) ?_
      refine lv_aload_n hx hb dX5_first_16 rfl (lv_at hl 0 rfl) ?_
      refine xw_get hx hb hts hin5 hown hK hP (by decide) fk0 rfl 3 (by decide) hf30 rfl rfl dX5_first_17 ?_
      refine lv_iconst (v := (-1)) hx hb dX5_first_20 (by decide) ?_
      refine vp_callSl (va_Run.run (va_runV (As := [.int (colI 3)]) (rest := [.ref (ad (0))]) ⟨hx, hb, hml, hown, hts⟩ (mX2_determinant l (rp := 3) (Mx := (rM Wt w ln u k0 sl)) (Kx := (rK Wt w ln u k0 sl)) fe4 fe6 fe7 h6 h7 (by omega)) (cwV 1 hts gX5_first_X2_determinant rfl rfl rfl (by decide +kernel) ⟨Nat.le_of_ble_eq_true rfl, Nat.le_of_ble_eq_true rfl⟩) ⟨xB_blind, va_recv hK hP (ci := 2) rfl (xw_is (by decide) fe4), fun U hU hW => ⟨rfl, by rw [hU]; exact hP, va_K.moved hW.alike hK, va_Nw.warmM hW hN⟩⟩ rfl rfl hl.1 rfl (lv_room (Nat.le_of_ble_eq_true rfl)) dX5_first_21 ⟨Nat.le_of_ble_eq_true rfl, Nat.le_of_ble_eq_true rfl⟩)) (fun r3 er3 => ?_)
      subst er3
      refine lv_aload_n hx hb dX5_first_24 rfl (lv_at hl 0 rfl) ?_
      refine xw_get hx hb hts hin5 hown hK hP (by decide) fk0 rfl 3 (by decide) hf30 rfl rfl dX5_first_25 ?_
      refine vp_callSl (va_Run.run (va_runV (As := []) (rest := [.long (lZ (dtM (rM Wt w ln u k0 sl) (rK Wt w ln u k0 sl) (3))), .ref (ad (0))]) ⟨hx, hb, hml, hown, hts⟩ (mX2_sumOfShares l (Mx := (rM Wt w ln u k0 sl)) (Kx := (rK Wt w ln u k0 sl)) fe4 fe6 fe7 h6 h7 hk3) (cwV 0 hts gX5_first_X2_sumOfShares rfl rfl rfl (by decide +kernel) ⟨Nat.le_of_ble_eq_true rfl, Nat.le_of_ble_eq_true rfl⟩) ⟨xB_blind, va_recv hK hP (ci := 2) rfl (xw_is (by decide) fe4), fun U hU hW => ⟨rfl, by rw [hU]; exact hP, va_K.moved hW.alike hK, va_Nw.warmM hW hN⟩⟩ rfl rfl hl.1 rfl (lv_room (Nat.le_of_ble_eq_true rfl)) dX5_first_28 ⟨Nat.le_of_ble_eq_true rfl, Nat.le_of_ble_eq_true rfl⟩)) (fun r4 er4 => ?_)
      subst er4
      refine va_callv (va_runV (As := [.long (lZ (dtM (rM Wt w ln u k0 sl) (rK Wt w ln u k0 sl) (3))), .long (lZ (ssM (rM Wt w ln u k0 sl) (rK Wt w ln u k0 sl) k0))]) (rest := []) ⟨hx, hb, hml, hown, hts⟩ (mX5_hold l hD (a := dtM (rM Wt w ln u k0 sl) (rK Wt w ln u k0 sl) (3)) (b := ssM (rM Wt w ln u k0 sl) (rK Wt w ln u k0 sl) k0) fk0 (by have h9 := dtM_B hMB hKB 3; omega) (by have h9 := ssM_B hMB hKB k0; omega) (hNZ Lq k0 sl hL1 hL2 hent)) (cwV 2 hts gX5_first_X5_hold rfl rfl rfl (by decide +kernel) ⟨Nat.le_of_ble_eq_true rfl, Nat.le_of_ble_eq_true rfl⟩) ⟨xB_blind, va_recv hK hP (ci := 5) rfl (xw_is (by decide) fk0), fun U hU hW => ⟨rfl, by rw [hU]; exact hP, va_K.moved hW.alike hK, va_Nw.warmM hW hN⟩⟩ rfl rfl hl.1 rfl (lv_room (Nat.le_of_ble_eq_true rfl)) dX5_first_31 ⟨Nat.le_of_ble_eq_true rfl, Nat.le_of_ble_eq_true rfl⟩) hS (fun _ _ h => h) (fun _ h => h) (fun g5 tZ H locs ht hvm hwg5 hB hzZ hkZ hS => ?_)
      obtain ⟨hP, -⟩ := hB
      rw [ht] at hP
      obtain ⟨fg5_n0, hcg5⟩ := hwg5
      have fg5_k0 : g5 (4) = .inr (2, [.ref (ad (5)), .ref (ad (6)), .ref (ad (7)), .int (nI (k0))]) := (hcg5 (4) (by decide)).trans fe4
      have fg5_k1 : g5 (5) = .inl (cW, 3, .inr (.inr (.inr (.inr (f5))))) := (hcg5 (5) (by decide)).trans fe5
      have fg5_k2 : g5 (6) = .inl (cJ, 9, .inr (.inl (f6))) := (hcg5 (6) (by decide)).trans fe6
      have fg5_k3 : g5 (7) = .inl (cJ, 3, .inr (.inl (f7))) := (hcg5 (7) (by decide)).trans fe7
      have hfrg5 : ∀ j : Nat, j ≠ 0 → j ≠ 4 → j ≠ 5 → j ≠ 6 → j ≠ 7 → g5 j = g j := fun j h0 h1 h2 h3 h4 => (hcg5 j h0).trans (hfrge j h0 h1 h2 h3 h4)
      refine lv_iconst (v := nI (1)) hx hb dX5_first_34 (by decide) ?_
      exact W.zret (v := nI (1)) hx hb hr (by decide) (fun tZ ht hW => ⟨⟨_, g5, rfl, (by have hO : oFirst Wt w ln u (nI Lq) (-1) = some (Rat.divInt (dtM (rM Wt w ln u k0 sl) (rK Wt w ln u k0 sl) 3) (ssM (rM Wt w ln u k0 sl) (rK Wt w ln u k0 sl) k0)) := (by unfold oFirst; rw [hLs]; show (match ent ln u Lq 8 with | none => none | some (k, sl) => _) = _; rw [hent]; exact if_pos rfl); show _ = (if (oFirst Wt w ln u (nI Lq) (-1)).isSome then 1 else 0) ∧ _; rw [hO]; exact ⟨rfl, hC.race fg5_n0 ⟨_, _, _, _, fg5_k0, fg5_k1, fg5_k2, fg5_k3⟩ hfrg5, (fun j hj => hfrg5 j (by omega) (by omega) (by omega) (by omega) (by omega))⟩), by rw [ht]; exact hP, va_K.moved hW.alike hK, va_Nw.warmM hW hN⟩, hS.F ht⟩) hS.2.2 dX5_first_35
  · subst er1
    have fk0 : ge (0) = .inr (5, [.ref (ad (1)), .ref (ad (3)), .ref (ad (57)), .ref (ad (4)), .ref (ad (8)), .ref (ad (15)), .long (tp), .long (bt)]) := (hce 0 (by decide) (by decide) (by decide) (by decide)).trans fo_0
    have hfrge : ∀ j : Nat, j ≠ 0 → j ≠ 4 → j ≠ 5 → j ≠ 6 → j ≠ 7 → ge j = g j := fun j h0 h1 h2 h3 h4 => hce j h1 h2 h3 h4
    refine xi_if_ne (tgt := 10) hx hb (by decide) dX5_first_5 (by decide) (fun c0 => absurd c0 (by decide)) (fun _ => ?_)
    refine lv_iconst (v := nI (0)) hx hb dX5_first_8 (by decide) ?_
    exact W.zret (v := nI (0)) hx hb hr (by decide) (fun tZ ht hW => ⟨⟨_, ge, rfl, (by have hO : oFirst Wt w ln u (nI Lq) (-1) = none := (by unfold oFirst; rw [hLs]; show (match ent ln u Lq 8 with | none => none | some (k, sl) => _) = none; rw [hent]); show _ = (if (oFirst Wt w ln u (nI Lq) (-1)).isSome then 1 else 0) ∧ _; rw [hO]; exact ⟨rfl, hC.race fk0 hRe hfrge, (fun j hj => hfrge j (by omega) (by omega) (by omega) (by omega) (by omega))⟩), by rw [ht]; exact hP, va_K.moved hW.alike hK, va_Nw.warmM hW hN⟩, hS.F ht⟩) hS.2.2 dX5_first_9

set_option maxHeartbeats 4000000 in
set_option maxRecDepth 100000 in
theorem mX5_first_bad (l : Launch) {D : va_G} {cI cJ cZ cW : ClassId} {ad : Nat → Nat} {A : Nat → Prop} (hD : ∀ g, va_D A (xw 81 ad g)) {g : Nat → va_E} {q Wt : Nat} {w : Nat → Nat} {ln : Nat → Nat} {u : Nat → Nat → Nat} {T : Nat} {t : Nat → Nat} {tp bt : Int64} {Lq : Nat} {y0 : Int32}  (hC : ClsI cI cJ cZ cW ad g q Wt w ln u T t tp bt) (hs : SrcI q Wt w ln u T t) (hL1 : 1 ≤ Lq) (hL2 : Lq < 256) (hLs : lsN (nI Lq) = some Lq) (hNZ : ssNZ Wt w ln u) (hy1 : ¬ y0 = -1) (hy0 : y0 < 0 ∨ nI 8 ≤ y0) : Met l yX5_first wsX5_first ({ frames := 4, cells := 0, slots := 0, locals := 94 }) (va_Pc [.ref (ad (0)), .int (nI (Lq)), .int (y0)] (xB D (xT cI cJ cZ cW) ad g)) (va_Qi (fun r g2 => r = (if (oFirst Wt w ln u (nI (Lq)) y0).isSome then 1 else 0) ∧ ClsI cI cJ cZ cW ad g2 q Wt w ln u T t (hTp (oFirst Wt w ln u (nI (Lq)) y0) tp) (hBt (oFirst Wt w ln u (nI (Lq)) y0) bt) ∧ ∀ j : Nat, 62 ≤ j → g2 j = g j) (xB D (xT cI cJ cZ cW) ad) A) 0 0 A := by
  refine Met.ofW (cc := cX5_first) (maxL := 4) (ret := (some .boolean)) (by decide) rfl ?_
  intro p e s m args below meth c s₁ B hml hv
  obtain ⟨rfl, hP, hK, hN⟩ := hv
  have hx := B.exec
  have hb := B.bytes
  have hr := B.returns
  have hts := atoms_spec (ws := wsX5_first) B.pre
  have hown : s.vm.findClass RX5 = some m.cls := findClass_of_methodNamed B.named
  have hlocks := B.notSynchronized
  have hS : va_S A s.heap s.heap [] := va_S.rf
  have hl := lv_entry ([.ref (ad (0)), .int (nI (Lq)), .int (y0)]) (n := 4) (Nat.le_of_ble_eq_true rfl)
  rw [lg_entry_eq]
  generalize (lg_sl ([.ref (ad (0)), .int (nI (Lq)), .int (y0)]) ++ List.replicate (4 - (lg_sl ([.ref (ad (0)), .int (nI (Lq)), .int (y0)])).length) Slot.unset).toArray = ls at hl ⊢
  have hl : lv_has ls 4 [(0, .ref (ad (0))), (1, .int (nI (Lq))), (2, .int (y0))] := hl
  have hs9 := hs
  obtain ⟨hq2, hq4, hw1, hw0, hWs, hWt, hw, hln, hul, hT, ht⟩ := hs
  obtain ⟨fo_0, ⟨f2, fo_1, fa_2, h2⟩, ⟨f3, fa_3, h3⟩, hRace, hMach, ⟨f16, fo15, fa16, h16⟩, hwd, hcand⟩ := id hC
  have hWp : 1 ≤ Wt ∧ Wt ≤ 4 := by have h8 := hw1 0 (by omega); have h9 := wsum_mono (w := w) (show 1 ≤ q by omega); have h7 : wsum w 1 = 0 + w 0 := rfl; omega
  obtain ⟨f5r, f6r, f7r, szr, fo4, fa5, fa6, fa7⟩ := hRace
  refine lv_aload_n hx hb dX5_first_0 rfl (lv_at hl 0 rfl) ?_
  refine lv_iload_n hx hb dX5_first_1 rfl (lv_at hl 1 rfl) ?_
  refine va_calli (va_runV (As := [.int (nI (Lq))]) (rest := []) ⟨hx, hb, hml, hown, hts⟩ (mX5_enterList_in l hD hC hs9 hL1 hL2) (cwV 1 hts gX5_first_X5_enterList rfl rfl rfl (by decide +kernel) ⟨Nat.le_of_ble_eq_true rfl, Nat.le_of_ble_eq_true rfl⟩) ⟨xB_blind, va_recv hK hP (ci := 5) rfl (xw_is (by decide) fo_0), fun U hU hW => ⟨rfl, by rw [hU]; exact hP, va_K.moved hW.alike hK, va_Nw.warmM hW hN⟩⟩ rfl rfl hl.1 rfl (lv_room (Nat.le_of_ble_eq_true rfl)) dX5_first_2 ⟨Nat.le_of_ble_eq_true rfl, Nat.le_of_ble_eq_true rfl⟩) hS (fun _ _ h => h) (fun _ h => h) (fun r1 ge tZ H locs ht1 hvm hwb hB hzZ hkZ hS => ?_)
  obtain ⟨hP, -⟩ := hB
  rw [ht1] at hP
  rcases hwb with ⟨er1, k0, sl, f5, f6, f7, hent, h5, h6, h7, fe4, fe5, fe6, fe7, hce⟩ | ⟨er1, hent, hRe, hce⟩
  · subst er1
    have fk0 : ge (0) = .inr (5, [.ref (ad (1)), .ref (ad (3)), .ref (ad (57)), .ref (ad (4)), .ref (ad (8)), .ref (ad (15)), .long (tp), .long (bt)]) := (hce 0 (by decide) (by decide) (by decide) (by decide)).trans fo_0
    have hfrge : ∀ j : Nat, j ≠ 0 → j ≠ 4 → j ≠ 5 → j ≠ 6 → j ≠ 7 → ge j = g j := fun j h0 h1 h2 h3 h4 => hce j h1 h2 h3 h4
    obtain ⟨hk3, hsl⟩ := ent_inv hent
    have hshr : ∀ s j, j ≤ ln s → shr Wt w (u s) (ln s) j ≤ 1024 := fun s j hj => shr_le hWt (fun i hi => hw _ (Nat.lt_of_lt_of_le (hul s i hi) hq4)) (hln s) hj
    have hMB : ∀ i, i < 9 → -5120 ≤ rM Wt w ln u k0 sl i ∧ rM Wt w ln u k0 sl i ≤ 5120 := fun i _ => rM_B hshr i
    have hKB : ∀ i, i < 3 → -5120 ≤ rK Wt w ln u k0 sl i ∧ rK Wt w ln u k0 sl i ≤ 5120 := fun i _ => rK_B hshr i
    refine xi_if_ne (tgt := 10) hx hb (by decide) dX5_first_5 (by decide) (fun _ => ?_) (fun c0 => absurd c0 (by decide))
    refine lv_iload_n hx hb dX5_first_10 rfl (lv_at hl 2 rfl) ?_
    refine lv_iconst (v := (-1)) hx hb dX5_first_11 (by decide) ?_
    refine lv_icmp_ne (tgt := 36) hx hb dX5_first_12 (by decide) (fun c12_2 => ?_) (fun c12_2 => ?_)
    · refine lv_iload_n hx hb dX5_first_36 rfl (lv_at hl 2 rfl) ?_
      refine vp_callSi (va_Run.run (va_runS (As := [.int (y0)]) (rest := []) ⟨hx, hb, hml, hown, hts⟩ (mX5_isSlot_out l hy0) (va_cwS 1 hts gX5_first_X5_isSlot rfl rfl rfl (by decide +kernel) ⟨Nat.le_of_ble_eq_true rfl, Nat.le_of_ble_eq_true rfl⟩) ⟨xB_blind, fun U hU hW => ⟨rfl, by rw [hU]; exact hP, va_K.moved hW.alike hK, va_Nw.warmM hW hN⟩⟩ rfl rfl hl.1 rfl (lv_room (Nat.le_of_ble_eq_true rfl)) dX5_first_37 ⟨Nat.le_of_ble_eq_true rfl, Nat.le_of_ble_eq_true rfl⟩)) (fun r3 er3 => ?_)
      subst er3
      refine xi_if_eq (tgt := 51) hx hb (by decide) dX5_first_40 (by decide) (fun _ => ?_) (fun c0 => absurd c0 (by decide))
      refine lv_iconst (v := nI (0)) hx hb dX5_first_51 (by decide) ?_
      exact W.zret (v := nI (0)) hx hb hr (by decide) (fun tZ ht hW => ⟨⟨_, ge, rfl, (by have hO : oFirst Wt w ln u (nI Lq) y0 = none := (by unfold oFirst; rw [hLs]; show (match ent ln u Lq 8 with | none => none | some (k, sl) => _) = _; rw [hent]; show (if y0 = -1 then _ else _) = none; rw [if_neg hy1, if_neg (fun h => hy0.elim h.1 h.2.1)]); show _ = (if (oFirst Wt w ln u (nI Lq) y0).isSome then 1 else 0) ∧ _; rw [hO]; exact ⟨rfl, hC.race fk0 ⟨_, _, _, _, fe4, fe5, fe6, fe7⟩ hfrge, (fun j hj => hfrge j (by omega) (by omega) (by omega) (by omega) (by omega))⟩), by rw [ht]; exact hP, va_K.moved hW.alike hK, va_Nw.warmM hW hN⟩, hS.F ht⟩) hS.2.2 dX5_first_52
    · exact absurd c12_2 hy1
  · subst er1
    have fk0 : ge (0) = .inr (5, [.ref (ad (1)), .ref (ad (3)), .ref (ad (57)), .ref (ad (4)), .ref (ad (8)), .ref (ad (15)), .long (tp), .long (bt)]) := (hce 0 (by decide) (by decide) (by decide) (by decide)).trans fo_0
    have hfrge : ∀ j : Nat, j ≠ 0 → j ≠ 4 → j ≠ 5 → j ≠ 6 → j ≠ 7 → ge j = g j := fun j h0 h1 h2 h3 h4 => hce j h1 h2 h3 h4
    refine xi_if_ne (tgt := 10) hx hb (by decide) dX5_first_5 (by decide) (fun c0 => absurd c0 (by decide)) (fun _ => ?_)
    refine lv_iconst (v := nI (0)) hx hb dX5_first_8 (by decide) ?_
    exact W.zret (v := nI (0)) hx hb hr (by decide) (fun tZ ht hW => ⟨⟨_, ge, rfl, (by have hO : oFirst Wt w ln u (nI Lq) y0 = none := (by unfold oFirst; rw [hLs]; show (match ent ln u Lq 8 with | none => none | some (k, sl) => _) = none; rw [hent]); show _ = (if (oFirst Wt w ln u (nI Lq) y0).isSome then 1 else 0) ∧ _; rw [hO]; exact ⟨rfl, hC.race fk0 hRe hfrge, (fun j hj => hfrge j (by omega) (by omega) (by omega) (by omega) (by omega))⟩), by rw [ht]; exact hP, va_K.moved hW.alike hK, va_Nw.warmM hW hN⟩, hS.F ht⟩) hS.2.2 dX5_first_9

set_option maxHeartbeats 4000000 in
set_option maxRecDepth 100000 in
theorem mX5_first_in (l : Launch) {D : va_G} {cI cJ cZ cW : ClassId} {ad : Nat → Nat} {A : Nat → Prop} (hD : ∀ g, va_D A (xw 81 ad g)) {g : Nat → va_E} {q Wt : Nat} {w : Nat → Nat} {ln : Nat → Nat} {u : Nat → Nat → Nat} {T : Nat} {t : Nat → Nat} {tp bt : Int64} {Lq s1 : Nat}  (hC : ClsI cI cJ cZ cW ad g q Wt w ln u T t tp bt) (hs : SrcI q Wt w ln u T t) (hL1 : 1 ≤ Lq) (hL2 : Lq < 256) (hLs : lsN (nI Lq) = some Lq) (hNZ : ssNZ Wt w ln u) (hs1 : s1 < 8) : Met l yX5_first wsX5_first ({ frames := 4, cells := 0, slots := 0, locals := 94 }) (va_Pc [.ref (ad (0)), .int (nI (Lq)), .int (nI (s1))] (xB D (xT cI cJ cZ cW) ad g)) (va_Qi (fun r g2 => r = (if (oFirst Wt w ln u (nI (Lq)) (nI s1)).isSome then 1 else 0) ∧ ClsI cI cJ cZ cW ad g2 q Wt w ln u T t (hTp (oFirst Wt w ln u (nI (Lq)) (nI s1)) tp) (hBt (oFirst Wt w ln u (nI (Lq)) (nI s1)) bt) ∧ ∀ j : Nat, 62 ≤ j → g2 j = g j) (xB D (xT cI cJ cZ cW) ad) A) 0 0 A := by
  refine Met.ofW (cc := cX5_first) (maxL := 4) (ret := (some .boolean)) (by decide) rfl ?_
  intro p e s m args below meth c s₁ B hml hv
  obtain ⟨rfl, hP, hK, hN⟩ := hv
  have hx := B.exec
  have hb := B.bytes
  have hr := B.returns
  have hts := atoms_spec (ws := wsX5_first) B.pre
  have hown : s.vm.findClass RX5 = some m.cls := findClass_of_methodNamed B.named
  have hlocks := B.notSynchronized
  have hS : va_S A s.heap s.heap [] := va_S.rf
  have hin5 : ∀ w ∈ wsX50, w ∈ wsX5_first := by decide +kernel
  have hf30 := hts (.fieldLink RX5 30 "LettersByLot" "race" "LLettersByLot$Race;") (by decide +kernel)
  have hl := lv_entry ([.ref (ad (0)), .int (nI (Lq)), .int (nI (s1))]) (n := 4) (Nat.le_of_ble_eq_true rfl)
  rw [lg_entry_eq]
  generalize (lg_sl ([.ref (ad (0)), .int (nI (Lq)), .int (nI (s1))]) ++ List.replicate (4 - (lg_sl ([.ref (ad (0)), .int (nI (Lq)), .int (nI (s1))])).length) Slot.unset).toArray = ls at hl ⊢
  have hl : lv_has ls 4 [(0, .ref (ad (0))), (1, .int (nI (Lq))), (2, .int (nI (s1)))] := hl
  have hs9 := hs
  obtain ⟨hq2, hq4, hw1, hw0, hWs, hWt, hw, hln, hul, hT, ht⟩ := hs
  obtain ⟨fo_0, ⟨f2, fo_1, fa_2, h2⟩, ⟨f3, fa_3, h3⟩, hRace, hMach, ⟨f16, fo15, fa16, h16⟩, hwd, hcand⟩ := id hC
  have hWp : 1 ≤ Wt ∧ Wt ≤ 4 := by have h8 := hw1 0 (by omega); have h9 := wsum_mono (w := w) (show 1 ≤ q by omega); have h7 : wsum w 1 = 0 + w 0 := rfl; omega
  obtain ⟨f5r, f6r, f7r, szr, fo4, fa5, fa6, fa7⟩ := hRace
  refine lv_aload_n hx hb dX5_first_0 rfl (lv_at hl 0 rfl) ?_
  refine lv_iload_n hx hb dX5_first_1 rfl (lv_at hl 1 rfl) ?_
  refine va_calli (va_runV (As := [.int (nI (Lq))]) (rest := []) ⟨hx, hb, hml, hown, hts⟩ (mX5_enterList_in l hD hC hs9 hL1 hL2) (cwV 1 hts gX5_first_X5_enterList rfl rfl rfl (by decide +kernel) ⟨Nat.le_of_ble_eq_true rfl, Nat.le_of_ble_eq_true rfl⟩) ⟨xB_blind, va_recv hK hP (ci := 5) rfl (xw_is (by decide) fo_0), fun U hU hW => ⟨rfl, by rw [hU]; exact hP, va_K.moved hW.alike hK, va_Nw.warmM hW hN⟩⟩ rfl rfl hl.1 rfl (lv_room (Nat.le_of_ble_eq_true rfl)) dX5_first_2 ⟨Nat.le_of_ble_eq_true rfl, Nat.le_of_ble_eq_true rfl⟩) hS (fun _ _ h => h) (fun _ h => h) (fun r1 ge tZ H locs ht1 hvm hwb hB hzZ hkZ hS => ?_)
  obtain ⟨hP, -⟩ := hB
  rw [ht1] at hP
  rcases hwb with ⟨er1, k0, sl, f5, f6, f7, hent, h5, h6, h7, fe4, fe5, fe6, fe7, hce⟩ | ⟨er1, hent, hRe, hce⟩
  · subst er1
    have fk0 : ge (0) = .inr (5, [.ref (ad (1)), .ref (ad (3)), .ref (ad (57)), .ref (ad (4)), .ref (ad (8)), .ref (ad (15)), .long (tp), .long (bt)]) := (hce 0 (by decide) (by decide) (by decide) (by decide)).trans fo_0
    have hfrge : ∀ j : Nat, j ≠ 0 → j ≠ 4 → j ≠ 5 → j ≠ 6 → j ≠ 7 → ge j = g j := fun j h0 h1 h2 h3 h4 => hce j h1 h2 h3 h4
    obtain ⟨hk3, hsl⟩ := ent_inv hent
    have hshr : ∀ s j, j ≤ ln s → shr Wt w (u s) (ln s) j ≤ 1024 := fun s j hj => shr_le hWt (fun i hi => hw _ (Nat.lt_of_lt_of_le (hul s i hi) hq4)) (hln s) hj
    have hMB : ∀ i, i < 9 → -5120 ≤ rM Wt w ln u k0 sl i ∧ rM Wt w ln u k0 sl i ≤ 5120 := fun i _ => rM_B hshr i
    have hKB : ∀ i, i < 3 → -5120 ≤ rK Wt w ln u k0 sl i ∧ rK Wt w ln u k0 sl i ≤ 5120 := fun i _ => rK_B hshr i
    refine xi_if_ne (tgt := 10) hx hb (by decide) dX5_first_5 (by decide) (fun _ => ?_) (fun c0 => absurd c0 (by decide))
    refine lv_iload_n hx hb dX5_first_10 rfl (lv_at hl 2 rfl) ?_
    refine lv_iconst (v := (-1)) hx hb dX5_first_11 (by decide) ?_
    refine lv_icmp_ne (tgt := 36) hx hb dX5_first_12 (by decide) (fun c12_2 => ?_) (fun c12_2 => ?_)
    · refine lv_iload_n hx hb dX5_first_36 rfl (lv_at hl 2 rfl) ?_
      refine vp_callSi (va_Run.run (va_runS (As := [.int (nI (s1))]) (rest := []) ⟨hx, hb, hml, hown, hts⟩ (mX5_isSlot_in l hs1) (va_cwS 1 hts gX5_first_X5_isSlot rfl rfl rfl (by decide +kernel) ⟨Nat.le_of_ble_eq_true rfl, Nat.le_of_ble_eq_true rfl⟩) ⟨xB_blind, fun U hU hW => ⟨rfl, by rw [hU]; exact hP, va_K.moved hW.alike hK, va_Nw.warmM hW hN⟩⟩ rfl rfl hl.1 rfl (lv_room (Nat.le_of_ble_eq_true rfl)) dX5_first_37 ⟨Nat.le_of_ble_eq_true rfl, Nat.le_of_ble_eq_true rfl⟩)) (fun r3 er3 => ?_)
      subst er3
      refine xi_if_eq (tgt := 51) hx hb (by decide) dX5_first_40 (by decide) (fun c0 => absurd c0 (by decide)) (fun _ => ?_)
      refine lv_iload_n hx hb dX5_first_43 rfl (lv_at hl 1 rfl) ?_
      refine lv_iload_n hx hb dX5_first_44 rfl (lv_at hl 2 rfl) ?_
      refine lv_ishr hx hb dX5_first_45 ?_
      refine xtopi (y := nI (Lq / 2 ^ s1)) (nI_shr (by omega) (by omega)) ?_
      refine lv_iconst (v := nI (1)) hx hb dX5_first_46 (by decide) ?_
      refine lv_iand hx hb dX5_first_47 ?_
      refine xtopi (y := nI (Lq / 2 ^ s1 % 2)) (and1 _) ?_
      refine xi_if_ne (tgt := 53) hx hb (by omega) dX5_first_48 (by decide) (fun c48_7 => ?_) (fun c48_7 => ?_)
      · refine lv_iload_n hx hb dX5_first_53 rfl (lv_at hl 1 rfl) ?_
        refine lv_iconst (v := nI (1)) hx hb dX5_first_54 (by decide) ?_
        refine lv_iload_n hx hb dX5_first_55 rfl (lv_at hl 2 rfl) ?_
        refine lv_ishl hx hb dX5_first_56 ?_
        refine xtopi (y := nI (2 ^ s1)) (nI_shl1 (by omega)) ?_
        refine lv_iconst (v := nI (1)) hx hb dX5_first_57 (by decide) ?_
        refine xi_sub hx hb (Nat.two_pow_pos s1) dX5_first_58 ?_
        refine lv_iand hx hb dX5_first_59 ?_
        refine xtopi (y := nI (Lq % 2 ^ s1)) (by rw [nI_and, Nat.and_two_pow_sub_one_eq_mod]) ?_
        refine vp_callSi (va_Run.run (va_runS (As := [.int (nI (Lq % 2 ^ s1))]) (rest := []) ⟨hx, hb, hml, hown, hts⟩ (mJ6_bitCount l (n0 := Lq % 2 ^ s1) (Nat.lt_of_le_of_lt (Nat.mod_le _ _) hL2)) (va_cwS 1 hts gX5_first_J6_bitCount_0f7a4 rfl rfl rfl (by decide +kernel) ⟨Nat.le_of_ble_eq_true rfl, Nat.le_of_ble_eq_true rfl⟩) ⟨xB_blind, fun U hU hW => ⟨rfl, by rw [hU]; exact hP, va_K.moved hW.alike hK, va_Nw.warmM hW hN⟩⟩ rfl rfl hl.1 rfl (lv_room (Nat.le_of_ble_eq_true rfl)) dX5_first_60 ⟨Nat.le_of_ble_eq_true rfl, Nat.le_of_ble_eq_true rfl⟩)) (fun r10 er10 => ?_)
        subst er10
        refine xtopi (y := nI (bcN Lq s1)) (by rw [bc_mod Lq hL2 s1 (by omega)]) ?_
        have hpl := ((ent_k hent).2 s1 hs1 (show Lq / 2 ^ s1 % 2 = 1 by have := c48_7; omega)).2
        refine lv_istore_n (lv' := [(3, .int (nI (bcN Lq s1))), (0, .ref (ad (0))), (1, .int (nI (Lq))), (2, .int (nI (s1)))]) hx hb dX5_first_63 rfl hl (by decide) rfl (fun ls hl => ?_)
        refine lv_aload_n hx hb dX5_first_64 rfl (lv_at hl 1 rfl) ?_
        refine lv_aload_n hx hb dX5_first_65 rfl (lv_at hl 1 rfl) ?_
        refine xw_get hx hb hts hin5 hown hK hP (by decide) fk0 rfl 3 (by decide) hf30 rfl rfl dX5_first_66 ?_
        refine lv_iload_n hx hb dX5_first_69 rfl (lv_at hl 0 rfl) ?_
        refine xtopi (y := colI (bcN Lq s1)) (by unfold colI; rw [if_neg (by omega)]) ?_
        refine vp_callSl (va_Run.run (va_runV (As := [.int (colI (bcN Lq s1))]) (rest := [.ref (ad (0))]) ⟨hx, hb, hml, hown, hts⟩ (mX2_determinant l (rp := bcN Lq s1) (Mx := (rM Wt w ln u k0 sl)) (Kx := (rK Wt w ln u k0 sl)) fe4 fe6 fe7 h6 h7 (by omega)) (cwV 1 hts gX5_first_X2_determinant rfl rfl rfl (by decide +kernel) ⟨Nat.le_of_ble_eq_true rfl, Nat.le_of_ble_eq_true rfl⟩) ⟨xB_blind, va_recv hK hP (ci := 2) rfl (xw_is (by decide) fe4), fun U hU hW => ⟨rfl, by rw [hU]; exact hP, va_K.moved hW.alike hK, va_Nw.warmM hW hN⟩⟩ rfl rfl hl.1 rfl (lv_room (Nat.le_of_ble_eq_true rfl)) dX5_first_70 ⟨Nat.le_of_ble_eq_true rfl, Nat.le_of_ble_eq_true rfl⟩)) (fun r11 er11 => ?_)
        subst er11
        refine lv_aload_n hx hb dX5_first_73 rfl (lv_at hl 1 rfl) ?_
        refine xw_get hx hb hts hin5 hown hK hP (by decide) fk0 rfl 3 (by decide) hf30 rfl rfl dX5_first_74 ?_
        refine vp_callSl (va_Run.run (va_runV (As := []) (rest := [.long (lZ (dtM (rM Wt w ln u k0 sl) (rK Wt w ln u k0 sl) (bcN Lq s1))), .ref (ad (0))]) ⟨hx, hb, hml, hown, hts⟩ (mX2_sumOfShares l (Mx := (rM Wt w ln u k0 sl)) (Kx := (rK Wt w ln u k0 sl)) fe4 fe6 fe7 h6 h7 hk3) (cwV 0 hts gX5_first_X2_sumOfShares rfl rfl rfl (by decide +kernel) ⟨Nat.le_of_ble_eq_true rfl, Nat.le_of_ble_eq_true rfl⟩) ⟨xB_blind, va_recv hK hP (ci := 2) rfl (xw_is (by decide) fe4), fun U hU hW => ⟨rfl, by rw [hU]; exact hP, va_K.moved hW.alike hK, va_Nw.warmM hW hN⟩⟩ rfl rfl hl.1 rfl (lv_room (Nat.le_of_ble_eq_true rfl)) dX5_first_77 ⟨Nat.le_of_ble_eq_true rfl, Nat.le_of_ble_eq_true rfl⟩)) (fun r12 er12 => ?_)
        subst er12
        refine va_callv (va_runV (As := [.long (lZ (dtM (rM Wt w ln u k0 sl) (rK Wt w ln u k0 sl) (bcN Lq s1))), .long (lZ (ssM (rM Wt w ln u k0 sl) (rK Wt w ln u k0 sl) k0))]) (rest := []) ⟨hx, hb, hml, hown, hts⟩ (mX5_hold l hD (a := dtM (rM Wt w ln u k0 sl) (rK Wt w ln u k0 sl) (bcN Lq s1)) (b := ssM (rM Wt w ln u k0 sl) (rK Wt w ln u k0 sl) k0) fk0 (by have h9 := dtM_B hMB hKB (bcN Lq s1); omega) (by have h9 := ssM_B hMB hKB k0; omega) (hNZ Lq k0 sl hL1 hL2 hent)) (cwV 2 hts gX5_first_X5_hold rfl rfl rfl (by decide +kernel) ⟨Nat.le_of_ble_eq_true rfl, Nat.le_of_ble_eq_true rfl⟩) ⟨xB_blind, va_recv hK hP (ci := 5) rfl (xw_is (by decide) fk0), fun U hU hW => ⟨rfl, by rw [hU]; exact hP, va_K.moved hW.alike hK, va_Nw.warmM hW hN⟩⟩ rfl rfl hl.1 rfl (lv_room (Nat.le_of_ble_eq_true rfl)) dX5_first_80 ⟨Nat.le_of_ble_eq_true rfl, Nat.le_of_ble_eq_true rfl⟩) hS (fun _ _ h => h) (fun _ h => h) (fun g13 tZ H locs ht hvm hwg13 hB hzZ hkZ hS => ?_)
        obtain ⟨hP, -⟩ := hB
        rw [ht] at hP
        obtain ⟨fg13_n0, hcg13⟩ := hwg13
        have fg13_k0 : g13 (4) = .inr (2, [.ref (ad (5)), .ref (ad (6)), .ref (ad (7)), .int (nI (k0))]) := (hcg13 (4) (by decide)).trans fe4
        have fg13_k1 : g13 (5) = .inl (cW, 3, .inr (.inr (.inr (.inr (f5))))) := (hcg13 (5) (by decide)).trans fe5
        have fg13_k2 : g13 (6) = .inl (cJ, 9, .inr (.inl (f6))) := (hcg13 (6) (by decide)).trans fe6
        have fg13_k3 : g13 (7) = .inl (cJ, 3, .inr (.inl (f7))) := (hcg13 (7) (by decide)).trans fe7
        have hfrg13 : ∀ j : Nat, j ≠ 0 → j ≠ 4 → j ≠ 5 → j ≠ 6 → j ≠ 7 → g13 j = g j := fun j h0 h1 h2 h3 h4 => (hcg13 j h0).trans (hfrge j h0 h1 h2 h3 h4)
        refine lv_iconst (v := nI (1)) hx hb dX5_first_83 (by decide) ?_
        exact W.zret (v := nI (1)) hx hb hr (by decide) (fun tZ ht hW => ⟨⟨_, g13, rfl, (by have hO : oFirst Wt w ln u (nI Lq) (nI s1) = some (Rat.divInt (dtM (rM Wt w ln u k0 sl) (rK Wt w ln u k0 sl) (bcN Lq s1)) (ssM (rM Wt w ln u k0 sl) (rK Wt w ln u k0 sl) k0)) := (by unfold oFirst; rw [hLs]; show (match ent ln u Lq 8 with | none => none | some (k, sl) => _) = _; rw [hent]; show (if nI s1 = -1 then _ else _) = _; rw [if_neg (nI_m1 (by omega)), nI_clamp (by omega)]; rw [if_pos ⟨nI_pos (by omega), nI_ge hs1 (by decide), (show Lq / 2 ^ s1 % 2 = 1 by omega)⟩]); show _ = (if (oFirst Wt w ln u (nI Lq) (nI s1)).isSome then 1 else 0) ∧ _; rw [hO]; exact ⟨rfl, hC.race fg13_n0 ⟨_, _, _, _, fg13_k0, fg13_k1, fg13_k2, fg13_k3⟩ hfrg13, (fun j hj => hfrg13 j (by omega) (by omega) (by omega) (by omega) (by omega))⟩), by rw [ht]; exact hP, va_K.moved hW.alike hK, va_Nw.warmM hW hN⟩, hS.F ht⟩) hS.2.2 dX5_first_84
      · refine lv_iconst (v := nI (0)) hx hb dX5_first_51 (by decide) ?_
        exact W.zret (v := nI (0)) hx hb hr (by decide) (fun tZ ht hW => ⟨⟨_, ge, rfl, (by have hO : oFirst Wt w ln u (nI Lq) (nI s1) = none := (by unfold oFirst; rw [hLs]; show (match ent ln u Lq 8 with | none => none | some (k, sl) => _) = _; rw [hent]; show (if nI s1 = -1 then _ else _) = _; rw [if_neg (nI_m1 (by omega)), nI_clamp (by omega)]; rw [if_neg (fun h => absurd h.2.2 (by omega))]); show _ = (if (oFirst Wt w ln u (nI Lq) (nI s1)).isSome then 1 else 0) ∧ _; rw [hO]; exact ⟨rfl, hC.race fk0 ⟨_, _, _, _, fe4, fe5, fe6, fe7⟩ hfrge, (fun j hj => hfrge j (by omega) (by omega) (by omega) (by omega) (by omega))⟩), by rw [ht]; exact hP, va_K.moved hW.alike hK, va_Nw.warmM hW hN⟩, hS.F ht⟩) hS.2.2 dX5_first_52
    · exact absurd c12_2 (nI_m1 (by omega))
  · subst er1
    have fk0 : ge (0) = .inr (5, [.ref (ad (1)), .ref (ad (3)), .ref (ad (57)), .ref (ad (4)), .ref (ad (8)), .ref (ad (15)), .long (tp), .long (bt)]) := (hce 0 (by decide) (by decide) (by decide) (by decide)).trans fo_0
    have hfrge : ∀ j : Nat, j ≠ 0 → j ≠ 4 → j ≠ 5 → j ≠ 6 → j ≠ 7 → ge j = g j := fun j h0 h1 h2 h3 h4 => hce j h1 h2 h3 h4
    refine xi_if_ne (tgt := 10) hx hb (by decide) dX5_first_5 (by decide) (fun c0 => absurd c0 (by decide)) (fun _ => ?_)
    refine lv_iconst (v := nI (0)) hx hb dX5_first_8 (by decide) ?_
    exact W.zret (v := nI (0)) hx hb hr (by decide) (fun tZ ht hW => ⟨⟨_, ge, rfl, (by have hO : oFirst Wt w ln u (nI Lq) (nI s1) = none := (by unfold oFirst; rw [hLs]; show (match ent ln u Lq 8 with | none => none | some (k, sl) => _) = none; rw [hent]); show _ = (if (oFirst Wt w ln u (nI Lq) (nI s1)).isSome then 1 else 0) ∧ _; rw [hO]; exact ⟨rfl, hC.race fk0 hRe hfrge, (fun j hj => hfrge j (by omega) (by omega) (by omega) (by omega) (by omega))⟩), by rw [ht]; exact hP, va_K.moved hW.alike hK, va_Nw.warmM hW hN⟩, hS.F ht⟩) hS.2.2 dX5_first_9

set_option maxHeartbeats 4000000 in
set_option maxRecDepth 100000 in
/-- first, no set -/
theorem mX5_first_no (l : Launch) {D : va_G} {cI cJ cZ cW : ClassId} {ad : Nat → Nat} {A : Nat → Prop} (hD : ∀ g, va_D A (xw 81 ad g)) {g : Nat → va_E} {q Wt : Nat} {w : Nat → Nat} {ln : Nat → Nat} {u : Nat → Nat → Nat} {T : Nat} {t : Nat → Nat} {tp bt : Int64} {x0 y0 : Int32}  (hC : ClsI cI cJ cZ cW ad g q Wt w ln u T t tp bt) (hs : SrcI q Wt w ln u T t) (hbad : x0 = 0 ∨ ¬ (x0 &&& (-256)) = 0) (hLs : lsN x0 = none) : Met l yX5_first wsX5_first ({ frames := 4, cells := 0, slots := 0, locals := 94 }) (va_Pc [.ref (ad (0)), .int (x0), .int (y0)] (xB D (xT cI cJ cZ cW) ad g)) (va_Qi (fun r g2 => r = (if (oFirst Wt w ln u x0 y0).isSome then 1 else 0) ∧ ClsI cI cJ cZ cW ad g2 q Wt w ln u T t (hTp (oFirst Wt w ln u x0 y0) tp) (hBt (oFirst Wt w ln u x0 y0) bt) ∧ ∀ j : Nat, 62 ≤ j → g2 j = g j) (xB D (xT cI cJ cZ cW) ad) A) 0 0 A := by
  refine Met.ofW (cc := cX5_first) (maxL := 4) (ret := (some .boolean)) (by decide) rfl ?_
  intro p e s m args below meth c s₁ B hml hv
  obtain ⟨rfl, hP, hK, hN⟩ := hv
  have hx := B.exec
  have hb := B.bytes
  have hr := B.returns
  have hts := atoms_spec (ws := wsX5_first) B.pre
  have hown : s.vm.findClass RX5 = some m.cls := findClass_of_methodNamed B.named
  have hlocks := B.notSynchronized
  have hS : va_S A s.heap s.heap [] := va_S.rf
  have hl := lv_entry ([.ref (ad (0)), .int (x0), .int (y0)]) (n := 4) (Nat.le_of_ble_eq_true rfl)
  rw [lg_entry_eq]
  generalize (lg_sl ([.ref (ad (0)), .int (x0), .int (y0)]) ++ List.replicate (4 - (lg_sl ([.ref (ad (0)), .int (x0), .int (y0)])).length) Slot.unset).toArray = ls at hl ⊢
  have hl : lv_has ls 4 [(0, .ref (ad (0))), (1, .int (x0)), (2, .int (y0))] := hl
  have hs9 := hs
  obtain ⟨hq2, hq4, hw1, hw0, hWs, hWt, hw, hln, hul, hT, ht⟩ := hs
  obtain ⟨fo_0, ⟨f2, fo_1, fa_2, h2⟩, ⟨f3, fa_3, h3⟩, hRace, hMach, ⟨f16, fo15, fa16, h16⟩, hwd, hcand⟩ := id hC
  have hWp : 1 ≤ Wt ∧ Wt ≤ 4 := by have h8 := hw1 0 (by omega); have h9 := wsum_mono (w := w) (show 1 ≤ q by omega); have h7 : wsum w 1 = 0 + w 0 := rfl; omega
  obtain ⟨f5r, f6r, f7r, szr, fo4, fa5, fa6, fa7⟩ := hRace
  refine lv_aload_n hx hb dX5_first_0 rfl (lv_at hl 0 rfl) ?_
  refine lv_iload_n hx hb dX5_first_1 rfl (lv_at hl 1 rfl) ?_
  refine va_calli (va_runV (As := [.int (x0)]) (rest := []) ⟨hx, hb, hml, hown, hts⟩ (mX5_enterList_no l hD hC hs9 hbad) (cwV 1 hts gX5_first_X5_enterList rfl rfl rfl (by decide +kernel) ⟨Nat.le_of_ble_eq_true rfl, Nat.le_of_ble_eq_true rfl⟩) ⟨xB_blind, va_recv hK hP (ci := 5) rfl (xw_is (by decide) fo_0), fun U hU hW => ⟨rfl, by rw [hU]; exact hP, va_K.moved hW.alike hK, va_Nw.warmM hW hN⟩⟩ rfl rfl hl.1 rfl (lv_room (Nat.le_of_ble_eq_true rfl)) dX5_first_2 ⟨Nat.le_of_ble_eq_true rfl, Nat.le_of_ble_eq_true rfl⟩) hS (fun _ _ h => h) (fun _ h => h) (fun r2 g1 tZ H locs ht hvm hwg1 hB hzZ hkZ hS => ?_)
  obtain ⟨hP, -⟩ := hB
  rw [ht] at hP
  obtain ⟨er2, hRe, hcg1⟩ := hwg1
  subst er2
  have fg1_k0 : g1 (0) = .inr (5, [.ref (ad (1)), .ref (ad (3)), .ref (ad (57)), .ref (ad (4)), .ref (ad (8)), .ref (ad (15)), .long (tp), .long (bt)]) := (hcg1 (0) (by decide) (by decide) (by decide) (by decide)).trans fo_0
  have hfrg1 : ∀ j : Nat, j ≠ 0 → j ≠ 4 → j ≠ 5 → j ≠ 6 → j ≠ 7 → g1 j = g j := fun j h0 h1 h2 h3 h4 => (hcg1 j h1 h2 h3 h4).trans ((fun _ _ _ _ _ _ => rfl) j h0 h1 h2 h3 h4)
  refine xi_if_ne (tgt := 10) hx hb (by decide) dX5_first_5 (by decide) (fun c0 => absurd c0 (by decide)) (fun _ => ?_)
  refine lv_iconst (v := nI (0)) hx hb dX5_first_8 (by decide) ?_
  exact W.zret (v := nI (0)) hx hb hr (by decide) (fun tZ ht hW => ⟨⟨_, g1, rfl, (by have hO : oFirst Wt w ln u x0 y0 = none := (by unfold oFirst; rw [hLs]); show _ = (if (oFirst Wt w ln u x0 y0).isSome then 1 else 0) ∧ _; rw [hO]; exact ⟨rfl, hC.race fg1_k0 hRe hfrg1, (fun j hj => hfrg1 j (by omega) (by omega) (by omega) (by omega) (by omega))⟩), by rw [ht]; exact hP, va_K.moved hW.alike hK, va_Nw.warmM hW hN⟩, hS.F ht⟩) hS.2.2 dX5_first_9
