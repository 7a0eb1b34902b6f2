theorem ent_c {ln : Nat → Nat} {u : Nat → Nat → Nat} {L : Nat} : ∀ {s k : Nat} {sl : Nat → Nat}, ent ln u L s = some (k, sl) → k = cntS (fun s => decide (btL L s)) s ∧ (∀ i, i < k → sl i < s ∧ btL L (sl i)) ∧ (∀ a, a < s → btL L a → 0 < ln a) ∧ ∀ a b, a < s → b < s → a ≠ b → btL L a → btL L b → ¬ liesW (u a) (ln a) (u b) (ln b)
  | 0, k, sl, h => by
    obtain ⟨rfl, rfl⟩ := Prod.mk.inj (Option.some.inj h)
    exact ⟨rfl, fun i hi => absurd hi (by omega), fun a ha => absurd ha (by omega), fun a b ha => absurd ha (by omega)⟩
  | s + 1, k, sl, h => by
    cases e : ent ln u L s with
    | none =>
      have h2 : ent ln u L (s + 1) = none := ent_none (d := 1) e
      rw [h2] at h; cases h
    | some p =>
      obtain ⟨k0, sl0⟩ := p
      obtain ⟨i1, i2, i3, i4⟩ := ent_c e
      obtain ⟨-, i5⟩ := ent_k e
      rw [ent_s e] at h
      by_cases hb : L / 2 ^ s % 2 = 1
      · rw [if_pos hb] at h
        by_cases hc : 0 < ln s ∧ k0 < 3 ∧ (∀ i, i < k0 → ¬ (liesW (u s) (ln s) (u (sl0 i)) (ln (sl0 i)) ∨ liesW (u (sl0 i)) (ln (sl0 i)) (u s) (ln s)))
        · rw [if_pos hc] at h
          obtain ⟨rfl, rfl⟩ := Prod.mk.inj (Option.some.inj h)
          refine ⟨by rw [cntS_y (P := fun s => decide (btL L s)) (decide_eq_true hb), ← i1], fun i hi => ?_, fun a ha hab => ?_, fun a b ha hb2 hab h1 h2 => ?_⟩
          · by_cases hik : i = k0
            · subst hik; rw [va_up_self]; exact ⟨by omega, hb⟩
            · rw [va_up_ne _ _ hik]
              have := i2 i (by omega)
              exact ⟨by omega, this.2⟩
          · by_cases e2 : a = s
            · subst e2; exact hc.1
            · exact i3 a (by omega) hab
          · by_cases e2 : a = s
            · subst e2
              obtain ⟨j1, j2⟩ := i5 b (by omega) h2
              have h9 := hc.2.2 _ j2
              rw [j1] at h9
              exact fun h => h9 (Or.inl h)
            · by_cases e3 : b = s
              · subst e3
                obtain ⟨j1, j2⟩ := i5 a (by omega) h1
                have h9 := hc.2.2 _ j2
                rw [j1] at h9
                exact fun h => h9 (Or.inr h)
              · exact i4 a b (by omega) (by omega) hab h1 h2
        · rw [if_neg hc] at h; cases h
      · rw [if_neg hb] at h
        obtain ⟨rfl, rfl⟩ := Prod.mk.inj (Option.some.inj h)
        refine ⟨by rw [cntS_n (P := fun s => decide (btL L s)) (fun h => hb (of_decide_eq_true h))]; exact i1, fun i hi => ?_, fun a ha hab => ?_, fun a b ha hb2 hab h1 h2 => ?_⟩
        · have := i2 i hi; exact ⟨by omega, this.2⟩
        · exact i3 a (by have : a ≠ s := (fun e => by subst e; exact hb hab); omega) hab
        · exact i4 a b (by have : a ≠ s := (fun e => by subst e; exact hb h1); omega) (by have : b ≠ s := (fun e => by subst e; exact hb h2); omega) hab h1 h2
theorem ent_ok {ln : Nat → Nat} {u : Nat → Nat → Nat} {L : Nat} (h : isLs ln u L) : ∀ {s : Nat}, s ≤ 8 → ∃ k sl, ent ln u L s = some (k, sl)
  | 0, _ => ⟨_, _, rfl⟩
  | s + 1, hs => by
    obtain ⟨k, sl, e⟩ := ent_ok h (s := s) (by omega)
    obtain ⟨i1, i2, i3, i4⟩ := ent_c e
    rw [ent_s e]
    by_cases hb : L / 2 ^ s % 2 = 1
    · rw [if_pos hb, if_pos]
      · exact ⟨_, _, rfl⟩
      · have h1 := h.1 s (by omega) hb
        have h2 := cntS_y (P := fun s => decide (btL L s)) (decide_eq_true hb)
        have h3 := cntS_mono (P := fun s => decide (btL L s)) (show s + 1 ≤ 8 by omega)
        have h4 := h.2
        refine ⟨h1.1, by omega, fun i hi => ?_⟩
        obtain ⟨j1, j2⟩ := i2 i hi
        rintro (h5 | h5)
        · exact (h1.2 (sl i) (by omega) (by omega) j2).2 h5
        · exact ((h.1 (sl i) (by omega) j2).2 s (by omega) (by omega) hb).2 h5
    · rw [if_neg hb]
      exact ⟨_, _, rfl⟩
theorem entL {ln : Nat → Nat} {u : Nat → Nat → Nat} {L k : Nat} {sl : Nat → Nat} (h : ent ln u L 8 = some (k, sl)) : isLs ln u L := by
  obtain ⟨i1, i2, i3, i4⟩ := ent_c h
  have := (ent_inv h).1
  exact ⟨fun a ha hab => ⟨i3 a ha hab, fun y h1 h2 h3 => ⟨i3 y h1 h3, i4 a y ha h1 (fun e => h2 e.symm) hab h3⟩⟩, by omega⟩
theorem ent_no {ln : Nat → Nat} {u : Nat → Nat → Nat} {L : Nat} (h : ¬ isLs ln u L) : ent ln u L 8 = none := by
  cases e : ent ln u L 8 with
  | none => rfl
  | some p => exact absurd (entL e) h
theorem cn_ne0 : ∀ L, L < 256 → 1 ≤ L → cntS (fun s => decide (btL L s)) 8 ≠ 0 := by decide +kernel
/-- the chance that WORD s comes first, from the states -/
def fM (Wt : Nat) (w gof : Nat → Nat) (q ns s : Nat) : Nat → Rat := fun i => gj (mkA Wt w gof q ns (fun x => Rat.divInt (hitZ w gof x s q) 1)) ns i ns
/-- what the model's way to a LIST's answers needs, and what it gives -/
def chOK (q Wt : Nat) (w : Nat → Nat) (ln : Nat → Nat) (u : Nat → Nat → Nat) : Prop := ∀ L k sl ns s2 sz gof, 1 ≤ L → L < 256 → ent ln u L 8 = some (k, sl) → ChI q ln u L ns s2 sz gof → gjFit (mkA Wt w gof q ns (fun _ => Rat.divInt ((Wt : Nat) : Int) 1)) ns ∧ eM Wt w gof q ns 0 = Rat.divInt (dtM (rM Wt w ln u k sl) (rK Wt w ln u k sl) 3) (ssM (rM Wt w ln u k sl) (rK Wt w ln u k sl) k) ∧ ∀ s, s < 8 → btL L s → gjFit (mkA Wt w gof q ns (fun x => Rat.divInt (hitZ w gof x s q) 1)) ns ∧ fM Wt w gof q ns s 0 = Rat.divInt (dtM (rM Wt w ln u k sl) (rK Wt w ln u k sl) (bcN L s)) (ssM (rM Wt w ln u k sl) (rK Wt w ln u k sl) k)
def odOK (q Wt : Nat) (w : Nat → Nat) (ln : Nat → Nat) (u : Nat → Nat → Nat) : Prop := ∀ a b ns sl sz gof, a < 8 → b < 8 → a ≠ b → 0 < ln a → 0 < ln b → ¬ (liesW (u b) (ln b) (u a) (ln a) ∨ liesW (u a) (ln a) (u b) (ln b)) → ChI q ln u (2 ^ a ||| 2 ^ b) ns sl sz gof → gjFit (mkA Wt w gof q ns (fun x => Rat.divInt (hitZ w gof x a q) 1)) ns ∧ 0 ≤ fM Wt w gof q ns a 0 ∧ (fM Wt w gof q ns a 0).num < ((fM Wt w gof q ns a 0).den : Int) ∧ Rat.divInt (fM Wt w gof q ns a 0).num (((fM Wt w gof q ns a 0).den : Int) - (fM Wt w gof q ns a 0).num) = Rat.divInt (edg Wt w (u b) (ln b) (u a) (ln a)) (edg Wt w (u a) (ln a) (u b) (ln b))
theorem or_pow : ∀ a, a < 8 → ∀ b, b < 8 → (1 ≤ 2 ^ a ||| 2 ^ b) ∧ (2 ^ a ||| 2 ^ b) < 256 ∧ cntS (fun s => decide (btL (2 ^ a ||| 2 ^ b) s)) 8 ≤ 3 ∧ (∀ s, s < 8 → (btL (2 ^ a ||| 2 ^ b) s ↔ s = a ∨ s = b)) := by decide +kernel
theorem ls_two {ln : Nat → Nat} {u : Nat → Nat → Nat} {a b : Nat} (ha : a < 8) (hb : b < 8) (hab : a ≠ b) (h1 : 0 < ln a) (h2 : 0 < ln b) : isLs ln u (2 ^ a ||| 2 ^ b) ↔ ¬ (liesW (u b) (ln b) (u a) (ln a) ∨ liesW (u a) (ln a) (u b) (ln b)) := by
  obtain ⟨-, -, h3, h4⟩ := or_pow a ha b hb
  constructor
  · rintro ⟨h, -⟩ (h5 | h5)
    · exact ((h b hb ((h4 b hb).mpr (Or.inr rfl))).2 a ha hab ((h4 a ha).mpr (Or.inl rfl))).2 h5
    · exact ((h a ha ((h4 a ha).mpr (Or.inl rfl))).2 b hb (fun e => hab e.symm) ((h4 b hb).mpr (Or.inr rfl))).2 h5
  · intro h
    refine ⟨fun x hx hxb => ?_, h3⟩
    rcases (h4 x hx).mp hxb with rfl | rfl
    · refine ⟨h1, fun y hy hyx hyb => ?_⟩
      rcases (h4 y hy).mp hyb with rfl | rfl
      · exact absurd rfl hyx
      · exact ⟨h2, fun h5 => h (Or.inr h5)⟩
    · refine ⟨h2, fun y hy hyx hyb => ?_⟩
      rcases (h4 y hy).mp hyb with rfl | rfl
      · exact ⟨h1, fun h5 => h (Or.inl h5)⟩
      · exact absurd rfl hyx
theorem lies_self {u : Nat → Nat} {n : Nat} (hn : n ≤ 5) : liesW u n u n := liesW_of (a := 0) hn (by omega) (fun j _ => by rw [Nat.zero_add])
set_option maxHeartbeats 4000000 in
set_option maxRecDepth 100000 in
theorem mX6_first_mean (l : Launch) {D : va_G} {cI cJ cZ cW : ClassId} {ad : Nat → Nat} {A : Nat → Prop} (hD : ∀ g, va_D A (xw 81 ad g)) {g : Nat → va_E} {q Wt : Nat} {w : Nat → Nat} {ln : Nat → Nat} {u : Nat → Nat → Nat} {T : Nat} {t : Nat → Nat} {tp bt : Int64} {Lq : Nat}  (hM : ModI cI cJ ad g q Wt w ln u T t tp bt) (hs : SrcI q Wt w ln u T t) (hL1 : 1 ≤ Lq) (hL2 : Lq < 256) (hLs : lsN (nI Lq) = some Lq) (hCk : chOK q Wt w ln u) : Met l yX6_first wsX6_first ({ frames := 6, cells := 0, slots := 0, locals := 166 }) (va_Pc [.ref (ad (62)), .int (nI (Lq)), .int ((-1))] (xB D (xT cI cJ cZ cW) ad g)) (va_Qi (fun r g2 => r = (if (oFirst Wt w ln u (nI Lq) (-1)).isSome then 1 else 0) ∧ ModI cI cJ ad g2 q Wt w ln u T t (hTp (oFirst Wt w ln u (nI Lq) (-1)) tp) (hBt (oFirst Wt w ln u (nI Lq) (-1)) bt) ∧ ∀ j : Nat, j < 62 → g2 j = g j) (xB D (xT cI cJ cZ cW) ad) A) 0 0 A := by
  refine Met.ofW (cc := cX6_first) (maxL := 3) (ret := (some .boolean)) (by decide) rfl ?_
  intro p e s m args below meth c s₁ B hml hv
  obtain ⟨rfl, hP, hK, hN⟩ := hv
  have hx := B.exec
  have hb := B.bytes
  have hr := B.returns
  have hts := atoms_spec (ws := wsX6_first) B.pre
  have hown : s.vm.findClass RX6 = some m.cls := findClass_of_methodNamed B.named
  have hlocks := B.notSynchronized
  have hS : va_S A s.heap s.heap [] := va_S.rf
  have hin6 : ∀ w ∈ wsX60, w ∈ wsX6_first := by decide +kernel
  have hf52 := hts (.fieldLink RX6 52 "LettersByLotModel" "rn" "[J") (by decide +kernel)
  have hf55 := hts (.fieldLink RX6 55 "LettersByLotModel" "rd" "[J") (by decide +kernel)
  have hl := lv_entry ([.ref (ad (62)), .int (nI (Lq)), .int ((-1))]) (n := 3) (Nat.le_of_ble_eq_true rfl)
  rw [lg_entry_eq]
  generalize (lg_sl ([.ref (ad (62)), .int (nI (Lq)), .int ((-1))]) ++ List.replicate (3 - (lg_sl ([.ref (ad (62)), .int (nI (Lq)), .int ((-1))])).length) Slot.unset).toArray = ls at hl ⊢
  have hl : lv_has ls 3 [(0, .ref (ad (62))), (1, .int (nI (Lq))), (2, .int ((-1)))] := hl
  obtain ⟨hq2, hq4, hw1, hw0, hWs, hWt, hw, hln, hul, hT, ht⟩ := hs
  obtain ⟨sq, nu, de, fw, fsz, fwd, ftx, fos, foz, fgo, frw, fan, fad, frn, frd, fen, fed, fcn, fcd, fnw, fth, fo62, fa63, fa64, fa65, fa66, fa67, fa68, fa69, fa70, fa71, fa72, fa73, fa74, fa75, fa76, fa77, fa78, fa79, fa80, hfw, hsz, hwl, htx⟩ := id hM
  have hWp : 1 ≤ Wt ∧ Wt ≤ 4 := by have h8 := hw1 0 (by omega); have h9 := wsum_mono (w := w) (show 1 ≤ q by omega); have h7 : wsum w 1 = 0 + w 0 := rfl; omega
  have hwA : ∀ k j, j < ln k → 1 ≤ w (u k j) := fun k j hj => hw1 _ (hul k j hj)
  have hwB : ∀ k j, j < ln k → w (u k j) ≤ 4 := fun k j hj => hw _ (Nat.lt_of_lt_of_le (hul k j hj) hq4)
  refine lv_aload_n hx hb dX6_first_0 rfl (lv_at hl 0 rfl) ?_
  refine lv_iload_n hx hb dX6_first_1 rfl (lv_at hl 1 rfl) ?_
  refine vp_callSi (va_Run.run (va_runV (As := [.int (nI (Lq))]) (rest := []) ⟨hx, hb, hml, hown, hts⟩ (mX6_isList_in l (w := w) (ln := ln) (t := t) (u := u) fo62 fa64 fa65 hsz hwl hq2 hq4 hln hul hT ht hL1 hL2) (cwV 1 hts gX6_first_X6_isList rfl rfl rfl (by decide +kernel) ⟨Nat.le_of_ble_eq_true rfl, Nat.le_of_ble_eq_true rfl⟩) ⟨xB_blind, va_recv hK hP (ci := 6) rfl (xw_is (by decide) fo62), fun U hU hW => ⟨rfl, by rw [hU]; exact hP, va_K.moved hW.alike hK, va_Nw.warmM hW hN⟩⟩ rfl rfl hl.1 rfl (lv_room (Nat.le_of_ble_eq_true rfl)) dX6_first_2 ⟨Nat.le_of_ble_eq_true rfl, Nat.le_of_ble_eq_true rfl⟩)) (fun r1 er1 => ?_)
  rcases er1 with ⟨rfl, hil⟩ | ⟨rfl, hil⟩
  · obtain ⟨kk, sl0, hent⟩ := ent_ok hil (Nat.le_refl 8)
    refine xi_if_eq (tgt := 30) hx hb (by decide) dX6_first_5 (by decide) (fun c0 => absurd c0 (by decide)) (fun _ => ?_)
    refine lv_iload_n hx hb dX6_first_8 rfl (lv_at hl 2 rfl) ?_
    refine lv_iconst (v := (-1)) hx hb dX6_first_9 (by decide) ?_
    refine lv_icmp_eq (tgt := 32) hx hb dX6_first_10 (by decide) (fun c10_3 => ?_) (fun c10_3 => ?_)
    · refine lv_iload_n hx hb dX6_first_32 rfl (lv_at hl 2 rfl) ?_
      refine lv_iconst (v := (-1)) hx hb dX6_first_33 (by decide) ?_
      refine lv_icmp_ne (tgt := 61) hx hb dX6_first_34 (by decide) (fun c34_4 => ?_) (fun c34_4 => ?_)
      · exact absurd rfl c34_4
      · refine lv_aload_n hx hb dX6_first_37 rfl (lv_at hl 0 rfl) ?_
        refine lv_iload_n hx hb dX6_first_38 rfl (lv_at hl 1 rfl) ?_
        refine va_callv (va_runV (As := [.int (nI (Lq))]) (rest := []) ⟨hx, hb, hml, hown, hts⟩ (mX6_means l hD (w := w) (ln := ln) (t := t) (u := u) (li := Lq) fo62 fa63 fa64 fa65 fa67 fa68 fa69 fa70 fa71 fa72 fa73 fa74 hfw hsz hwl hq2 hq4 hln hul hT ht hw1 hw hWt hL2 (fun s h1 h2 => (hil.1 s h1 h2).1) hil.2 (cn_ne0 Lq hL2 hL1) (fun ns sl sz gof h => (hCk Lq kk sl0 ns sl sz gof hL1 hL2 hent h).1)) (cwV 1 hts gX6_first_X6_means rfl rfl rfl (by decide +kernel) ⟨Nat.le_of_ble_eq_true rfl, Nat.le_of_ble_eq_true rfl⟩) ⟨xB_blind, va_recv hK hP (ci := 6) rfl (xw_is (by decide) fo62), fun U hU hW => ⟨rfl, by rw [hU]; exact hP, va_K.moved hW.alike hK, va_Nw.warmM hW hN⟩⟩ rfl rfl hl.1 rfl (lv_room (Nat.le_of_ble_eq_true rfl)) dX6_first_39 ⟨Nat.le_of_ble_eq_true rfl, Nat.le_of_ble_eq_true rfl⟩) hS (fun _ _ h => h) (fun _ h => h) (fun g5 tZ H locs ht hvm hwg5 hB hzZ hkZ hS => ?_)
        obtain ⟨hP, -⟩ := hB
        rw [ht] at hP
        obtain ⟨ns, sl, sz, gof, f7, f8, f9, f0, fA, fB, fC, fD, nx, dx, hCh, hgo, hSv, fg5_n0, fg5_n1, fg5_n2, fg5_n3, fg5_n4, fg5_n5, fg5_n6, fg5_n7, fg5_n8, hcg5⟩ := hwg5
        have fg5_k0 : g5 (63) = .inl (cI, 4, .inl (fw)) := (hcg5 (63) (by decide) (by decide) (by decide) (by decide) (by decide) (by decide) (by decide) (by decide) (by decide)).trans fa63
        have fg5_k1 : g5 (64) = .inl (cI, 8, .inl (fsz)) := (hcg5 (64) (by decide) (by decide) (by decide) (by decide) (by decide) (by decide) (by decide) (by decide) (by decide)).trans fa64
        have fg5_k2 : g5 (65) = .inl (cI, 40, .inl (fwd)) := (hcg5 (65) (by decide) (by decide) (by decide) (by decide) (by decide) (by decide) (by decide) (by decide) (by decide)).trans fa65
        have fg5_k3 : g5 (75) = .inl (cJ, 13, .inr (.inl (fen))) := (hcg5 (75) (by decide) (by decide) (by decide) (by decide) (by decide) (by decide) (by decide) (by decide) (by decide)).trans fa75
        have fg5_k4 : g5 (76) = .inl (cJ, 13, .inr (.inl (fed))) := (hcg5 (76) (by decide) (by decide) (by decide) (by decide) (by decide) (by decide) (by decide) (by decide) (by decide)).trans fa76
        have hfrg5 : ∀ j : Nat, j ≠ 62 → j ≠ 67 → j ≠ 68 → j ≠ 69 → j ≠ 70 → j ≠ 71 → j ≠ 72 → j ≠ 73 → j ≠ 74 → j ≠ 75 → j ≠ 76 → g5 j = g j := fun j h0 h1 h2 h3 h4 h5 h6 h7 h8 h9 h10 => (hcg5 j h0 h1 h2 h3 h4 h5 h6 h7 h8).trans ((fun _ _ _ _ _ _ _ _ _ _ _ _ => rfl) j h0 h1 h2 h3 h4 h5 h6 h7 h8 h9 h10)
        have hns := hCh.2.1
        have hns1 := hCh.1
        have hgb := hCh.gb
        obtain ⟨hF1, hF2, hF3⟩ := (hCk Lq kk sl0 ns sl sz gof hL1 hL2 hent hCh)
        refine lv_aload_n hx hb dX6_first_42 rfl (lv_at hl 0 rfl) ?_
        refine lv_aload_n hx hb dX6_first_43 rfl (lv_at hl 0 rfl) ?_
        refine xw_get hx hb hts hin6 hown hK hP (by decide) fg5_n0 rfl 18 (by decide) hf52 rfl rfl dX6_first_44 ?_
        refine lv_iconst (v := nI (0)) hx hb dX6_first_47 (by decide) ?_
        refine xw_lald hx hb hK hP (by decide) 1 fg5_n7 rfl (by omega) (by decide) dX6_first_48 ?_
        rw [(hSv (0) (by omega)).1]
        refine lv_aload_n hx hb dX6_first_49 rfl (lv_at hl 0 rfl) ?_
        refine xw_get hx hb hts hin6 hown hK hP (by decide) fg5_n0 rfl 19 (by decide) hf55 rfl rfl dX6_first_50 ?_
        refine lv_iconst (v := nI (0)) hx hb dX6_first_53 (by decide) ?_
        refine xw_lald hx hb hK hP (by decide) 1 fg5_n8 rfl (by omega) (by decide) dX6_first_54 ?_
        rw [(hSv (0) (by omega)).2]
        refine va_callv (va_runV (As := [.long (lZ ((eM Wt w gof q ns 0).num)), .long (lZ (((eM Wt w gof q ns 0).den : Int)))]) (rest := []) ⟨hx, hb, hml, hown, hts⟩ (mX6_atHand l hD (w := w) (ln := ln) (t := t) (u := u) (a := (eM Wt w gof q ns 0).num) (b := ((eM Wt w gof q ns 0).den : Int)) fg5_n0 ⟨(hF1.2 0 (by omega)).1, (hF1.2 0 (by omega)).2.1⟩ ⟨by have h9 := (eM Wt w gof q ns 0).den_pos; omega, (hF1.2 0 (by omega)).2.2⟩) (cwV 2 hts gX6_first_X6_atHand rfl rfl rfl (by decide +kernel) ⟨Nat.le_of_ble_eq_true rfl, Nat.le_of_ble_eq_true rfl⟩) ⟨xB_blind, va_recv hK hP (ci := 6) rfl (xw_is (by decide) fg5_n0), fun U hU hW => ⟨rfl, by rw [hU]; exact hP, va_K.moved hW.alike hK, va_Nw.warmM hW hN⟩⟩ rfl rfl hl.1 rfl (lv_room (Nat.le_of_ble_eq_true rfl)) dX6_first_55 ⟨Nat.le_of_ble_eq_true rfl, Nat.le_of_ble_eq_true rfl⟩) hS (fun _ _ h => h) (fun _ h => h) (fun g7 tZ H locs ht hvm hwg7 hB hzZ hkZ hS => ?_)
        obtain ⟨hP, -⟩ := hB
        rw [ht] at hP
        obtain ⟨fg7_n0, hcg7⟩ := hwg7
        have fg7_k0 : g7 (67) = .inl (cI, 13, .inl (f7)) := (hcg7 (67) (by decide)).trans fg5_n1
        have fg7_k1 : g7 (68) = .inl (cI, 13, .inl (f8)) := (hcg7 (68) (by decide)).trans fg5_n2
        have fg7_k2 : g7 (69) = .inl (cI, 52, .inl (f9)) := (hcg7 (69) (by decide)).trans fg5_n3
        have fg7_k3 : g7 (70) = .inl (cI, 6, .inl (f0)) := (hcg7 (70) (by decide)).trans fg5_n4
        have fg7_k4 : g7 (71) = .inl (cJ, 169, .inr (.inl (fA))) := (hcg7 (71) (by decide)).trans fg5_n5
        have fg7_k5 : g7 (72) = .inl (cJ, 169, .inr (.inl (fB))) := (hcg7 (72) (by decide)).trans fg5_n6
        have fg7_k6 : g7 (73) = .inl (cJ, 13, .inr (.inl (fC))) := (hcg7 (73) (by decide)).trans fg5_n7
        have fg7_k7 : g7 (74) = .inl (cJ, 13, .inr (.inl (fD))) := (hcg7 (74) (by decide)).trans fg5_n8
        have fg7_k8 : g7 (63) = .inl (cI, 4, .inl (fw)) := (hcg7 (63) (by decide)).trans fg5_k0
        have fg7_k9 : g7 (64) = .inl (cI, 8, .inl (fsz)) := (hcg7 (64) (by decide)).trans fg5_k1
        have fg7_k10 : g7 (65) = .inl (cI, 40, .inl (fwd)) := (hcg7 (65) (by decide)).trans fg5_k2
        have fg7_k11 : g7 (75) = .inl (cJ, 13, .inr (.inl (fen))) := (hcg7 (75) (by decide)).trans fg5_k3
        have fg7_k12 : g7 (76) = .inl (cJ, 13, .inr (.inl (fed))) := (hcg7 (76) (by decide)).trans fg5_k4
        have hfrg7 : ∀ j : Nat, j ≠ 62 → j ≠ 67 → j ≠ 68 → j ≠ 69 → j ≠ 70 → j ≠ 71 → j ≠ 72 → j ≠ 73 → j ≠ 74 → j ≠ 75 → j ≠ 76 → g7 j = g j := fun j h0 h1 h2 h3 h4 h5 h6 h7 h8 h9 h10 => (hcg7 j h0).trans (hfrg5 j h0 h1 h2 h3 h4 h5 h6 h7 h8 h9 h10)
        rw [divInt_nd] at fg7_n0
        refine lv_goto (tgt := 79) hx hb dX6_first_58 (by decide) ?_
        refine lv_iconst (v := nI (1)) hx hb dX6_first_79 (by decide) ?_
        exact W.zret (v := nI (1)) hx hb hr (by decide) (fun tZ ht hW => ⟨⟨_, g7, rfl, (by have hO : oFirst Wt w ln u (nI Lq) (-1) = some (eM Wt w gof q ns 0) := (by unfold oFirst; rw [hLs, hF2]; show (match ent ln u Lq 8 with | none => none | some (k, sl) => _) = _; rw [hent]; exact if_pos rfl); show _ = (if (oFirst Wt w ln u (nI Lq) (-1)).isSome then 1 else 0) ∧ _; rw [hO]; exact ⟨rfl, ⟨_, _, _, _, _, _, _, _, _, _, _, _, _, _, _, _, _, _, _, _, _, fg7_n0, fg7_k8, fg7_k9, fg7_k10, ((hfrg7) 66 (by decide) (by decide) (by decide) (by decide) (by decide) (by decide) (by decide) (by decide) (by decide) (by decide) (by decide)).trans fa66, fg7_k0, fg7_k1, fg7_k2, fg7_k3, fg7_k4, fg7_k5, fg7_k6, fg7_k7, fg7_k11, fg7_k12, ((hfrg7) 77 (by decide) (by decide) (by decide) (by decide) (by decide) (by decide) (by decide) (by decide) (by decide) (by decide) (by decide)).trans fa77, ((hfrg7) 78 (by decide) (by decide) (by decide) (by decide) (by decide) (by decide) (by decide) (by decide) (by decide) (by decide) (by decide)).trans fa78, ((hfrg7) 79 (by decide) (by decide) (by decide) (by decide) (by decide) (by decide) (by decide) (by decide) (by decide) (by decide) (by decide)).trans fa79, ((hfrg7) 80 (by decide) (by decide) (by decide) (by decide) (by decide) (by decide) (by decide) (by decide) (by decide) (by decide) (by decide)).trans fa80, hfw, hsz, hwl, htx⟩, fun j hj => (hfrg7) j (by omega) (by omega) (by omega) (by omega) (by omega) (by omega) (by omega) (by omega) (by omega) (by omega) (by omega)⟩), by rw [ht]; exact hP, va_K.moved hW.alike hK, va_Nw.warmM hW hN⟩, hS.F ht⟩) hS.2.2 dX6_first_80
    · exact absurd rfl c10_3
  · refine xi_if_eq (tgt := 30) hx hb (by decide) dX6_first_5 (by decide) (fun _ => ?_) (fun c0 => absurd c0 (by decide))
    refine lv_iconst (v := nI (0)) hx hb dX6_first_30 (by decide) ?_
    exact W.zret (v := nI (0)) hx hb hr (by decide) (fun tZ ht hW => ⟨⟨_, g, rfl, (by have hO : oFirst Wt w ln u (nI Lq) (-1) = none := (by unfold oFirst; rw [hLs]; show (match ent ln u Lq 8 with | none => none | some (k, sl) => _) = none; rw [ent_no hil]); show _ = (if (oFirst Wt w ln u (nI Lq) (-1)).isSome then 1 else 0) ∧ _; rw [hO]; exact ⟨rfl, hM, fun _ _ => rfl⟩), by rw [ht]; exact hP, va_K.moved hW.alike hK, va_Nw.warmM hW hN⟩, hS.F ht⟩) hS.2.2 dX6_first_31

set_option maxHeartbeats 4000000 in
set_option maxRecDepth 100000 in
theorem mX6_first_bad (l : Launch) {D : va_G} {cI cJ cZ cW : ClassId} {ad : Nat → Nat} {A : Nat → Prop} (hD : ∀ g, va_D A (xw 81 ad g)) {g : Nat → va_E} {q Wt : Nat} {w : Nat → Nat} {ln : Nat → Nat} {u : Nat → Nat → Nat} {T : Nat} {t : Nat → Nat} {tp bt : Int64} {Lq : Nat} {y0 : Int32}  (hM : ModI cI cJ ad g q Wt w ln u T t tp bt) (hs : SrcI q Wt w ln u T t) (hL1 : 1 ≤ Lq) (hL2 : Lq < 256) (hLs : lsN (nI Lq) = some Lq) (hCk : chOK q Wt w ln u) (hy1 : ¬ y0 = -1) (hy0 : y0 < 0 ∨ nI 8 ≤ y0) : Met l yX6_first wsX6_first ({ frames := 6, cells := 0, slots := 0, locals := 166 }) (va_Pc [.ref (ad (62)), .int (nI (Lq)), .int (y0)] (xB D (xT cI cJ cZ cW) ad g)) (va_Qi (fun r g2 => r = (if (oFirst Wt w ln u (nI Lq) y0).isSome then 1 else 0) ∧ ModI cI cJ ad g2 q Wt w ln u T t (hTp (oFirst Wt w ln u (nI Lq) y0) tp) (hBt (oFirst Wt w ln u (nI Lq) y0) bt) ∧ ∀ j : Nat, j < 62 → g2 j = g j) (xB D (xT cI cJ cZ cW) ad) A) 0 0 A := by
  refine Met.ofW (cc := cX6_first) (maxL := 3) (ret := (some .boolean)) (by decide) rfl ?_
  intro p e s m args below meth c s₁ B hml hv
  obtain ⟨rfl, hP, hK, hN⟩ := hv
  have hx := B.exec
  have hb := B.bytes
  have hr := B.returns
  have hts := atoms_spec (ws := wsX6_first) B.pre
  have hown : s.vm.findClass RX6 = some m.cls := findClass_of_methodNamed B.named
  have hlocks := B.notSynchronized
  have hS : va_S A s.heap s.heap [] := va_S.rf
  have hl := lv_entry ([.ref (ad (62)), .int (nI (Lq)), .int (y0)]) (n := 3) (Nat.le_of_ble_eq_true rfl)
  rw [lg_entry_eq]
  generalize (lg_sl ([.ref (ad (62)), .int (nI (Lq)), .int (y0)]) ++ List.replicate (3 - (lg_sl ([.ref (ad (62)), .int (nI (Lq)), .int (y0)])).length) Slot.unset).toArray = ls at hl ⊢
  have hl : lv_has ls 3 [(0, .ref (ad (62))), (1, .int (nI (Lq))), (2, .int (y0))] := hl
  obtain ⟨hq2, hq4, hw1, hw0, hWs, hWt, hw, hln, hul, hT, ht⟩ := hs
  obtain ⟨sq, nu, de, fw, fsz, fwd, ftx, fos, foz, fgo, frw, fan, fad, frn, frd, fen, fed, fcn, fcd, fnw, fth, fo62, fa63, fa64, fa65, fa66, fa67, fa68, fa69, fa70, fa71, fa72, fa73, fa74, fa75, fa76, fa77, fa78, fa79, fa80, hfw, hsz, hwl, htx⟩ := id hM
  have hWp : 1 ≤ Wt ∧ Wt ≤ 4 := by have h8 := hw1 0 (by omega); have h9 := wsum_mono (w := w) (show 1 ≤ q by omega); have h7 : wsum w 1 = 0 + w 0 := rfl; omega
  have hwA : ∀ k j, j < ln k → 1 ≤ w (u k j) := fun k j hj => hw1 _ (hul k j hj)
  have hwB : ∀ k j, j < ln k → w (u k j) ≤ 4 := fun k j hj => hw _ (Nat.lt_of_lt_of_le (hul k j hj) hq4)
  refine lv_aload_n hx hb dX6_first_0 rfl (lv_at hl 0 rfl) ?_
  refine lv_iload_n hx hb dX6_first_1 rfl (lv_at hl 1 rfl) ?_
  refine vp_callSi (va_Run.run (va_runV (As := [.int (nI (Lq))]) (rest := []) ⟨hx, hb, hml, hown, hts⟩ (mX6_isList_in l (w := w) (ln := ln) (t := t) (u := u) fo62 fa64 fa65 hsz hwl hq2 hq4 hln hul hT ht hL1 hL2) (cwV 1 hts gX6_first_X6_isList rfl rfl rfl (by decide +kernel) ⟨Nat.le_of_ble_eq_true rfl, Nat.le_of_ble_eq_true rfl⟩) ⟨xB_blind, va_recv hK hP (ci := 6) rfl (xw_is (by decide) fo62), fun U hU hW => ⟨rfl, by rw [hU]; exact hP, va_K.moved hW.alike hK, va_Nw.warmM hW hN⟩⟩ rfl rfl hl.1 rfl (lv_room (Nat.le_of_ble_eq_true rfl)) dX6_first_2 ⟨Nat.le_of_ble_eq_true rfl, Nat.le_of_ble_eq_true rfl⟩)) (fun r1 er1 => ?_)
  rcases er1 with ⟨rfl, hil⟩ | ⟨rfl, hil⟩
  · obtain ⟨kk, sl0, hent⟩ := ent_ok hil (Nat.le_refl 8)
    refine xi_if_eq (tgt := 30) hx hb (by decide) dX6_first_5 (by decide) (fun c0 => absurd c0 (by decide)) (fun _ => ?_)
    refine lv_iload_n hx hb dX6_first_8 rfl (lv_at hl 2 rfl) ?_
    refine lv_iconst (v := (-1)) hx hb dX6_first_9 (by decide) ?_
    refine lv_icmp_eq (tgt := 32) hx hb dX6_first_10 (by decide) (fun c10_3 => ?_) (fun c10_3 => ?_)
    · exact absurd c10_3 hy1
    · refine lv_iload_n hx hb dX6_first_13 rfl (lv_at hl 2 rfl) ?_
      refine lv_bipush (v := nI (8)) hx hb dX6_first_14 (by decide) ?_
      refine vp_callSi (va_Run.run (va_runS (As := [.int (y0), .int (nI (8))]) (rest := []) ⟨hx, hb, hml, hown, hts⟩ (mX6_isIn_out l hy0) (va_cwS 2 hts gX6_first_X6_isIn rfl rfl rfl (by decide +kernel) ⟨Nat.le_of_ble_eq_true rfl, Nat.le_of_ble_eq_true rfl⟩) ⟨xB_blind, fun U hU hW => ⟨rfl, by rw [hU]; exact hP, va_K.moved hW.alike hK, va_Nw.warmM hW hN⟩⟩ rfl rfl hl.1 rfl (lv_room (Nat.le_of_ble_eq_true rfl)) dX6_first_16 ⟨Nat.le_of_ble_eq_true rfl, Nat.le_of_ble_eq_true rfl⟩)) (fun r4 er4 => ?_)
      subst er4
      refine xi_if_eq (tgt := 30) hx hb (by decide) dX6_first_19 (by decide) (fun _ => ?_) (fun c0 => absurd c0 (by decide))
      refine lv_iconst (v := nI (0)) hx hb dX6_first_30 (by decide) ?_
      exact W.zret (v := nI (0)) hx hb hr (by decide) (fun tZ ht hW => ⟨⟨_, g, rfl, (by have hO : oFirst Wt w ln u (nI Lq) y0 = none := (by unfold oFirst; rw [hLs]; show (match ent ln u Lq 8 with | none => none | some (k, sl) => _) = none; rw [hent]; show (if y0 = -1 then _ else _) = none; rw [if_neg hy1, if_neg (fun h => hy0.elim h.1 h.2.1)]); show _ = (if (oFirst Wt w ln u (nI Lq) y0).isSome then 1 else 0) ∧ _; rw [hO]; exact ⟨rfl, hM, fun _ _ => rfl⟩), by rw [ht]; exact hP, va_K.moved hW.alike hK, va_Nw.warmM hW hN⟩, hS.F ht⟩) hS.2.2 dX6_first_31
  · refine xi_if_eq (tgt := 30) hx hb (by decide) dX6_first_5 (by decide) (fun _ => ?_) (fun c0 => absurd c0 (by decide))
    refine lv_iconst (v := nI (0)) hx hb dX6_first_30 (by decide) ?_
    exact W.zret (v := nI (0)) hx hb hr (by decide) (fun tZ ht hW => ⟨⟨_, g, rfl, (by have hO : oFirst Wt w ln u (nI Lq) y0 = none := (by unfold oFirst; rw [hLs]; show (match ent ln u Lq 8 with | none => none | some (k, sl) => _) = none; rw [ent_no hil]); show _ = (if (oFirst Wt w ln u (nI Lq) y0).isSome then 1 else 0) ∧ _; rw [hO]; exact ⟨rfl, hM, fun _ _ => rfl⟩), by rw [ht]; exact hP, va_K.moved hW.alike hK, va_Nw.warmM hW hN⟩, hS.F ht⟩) hS.2.2 dX6_first_31

set_option maxHeartbeats 4000000 in
set_option maxRecDepth 100000 in
theorem mX6_first_in (l : Launch) {D : va_G} {cI cJ cZ cW : ClassId} {ad : Nat → Nat} {A : Nat → Prop} (hD : ∀ g, va_D A (xw 81 ad g)) {g : Nat → va_E} {q Wt : Nat} {w : Nat → Nat} {ln : Nat → Nat} {u : Nat → Nat → Nat} {T : Nat} {t : Nat → Nat} {tp bt : Int64} {Lq s1 : Nat}  (hM : ModI cI cJ ad g q Wt w ln u T t tp bt) (hs : SrcI q Wt w ln u T t) (hL1 : 1 ≤ Lq) (hL2 : Lq < 256) (hLs : lsN (nI Lq) = some Lq) (hCk : chOK q Wt w ln u) (hs1 : s1 < 8) : Met l yX6_first wsX6_first ({ frames := 6, cells := 0, slots := 0, locals := 166 }) (va_Pc [.ref (ad (62)), .int (nI (Lq)), .int (nI (s1))] (xB D (xT cI cJ cZ cW) ad g)) (va_Qi (fun r g2 => r = (if (oFirst Wt w ln u (nI Lq) (nI s1)).isSome then 1 else 0) ∧ ModI cI cJ ad g2 q Wt w ln u T t (hTp (oFirst Wt w ln u (nI Lq) (nI s1)) tp) (hBt (oFirst Wt w ln u (nI Lq) (nI s1)) bt) ∧ ∀ j : Nat, j < 62 → g2 j = g j) (xB D (xT cI cJ cZ cW) ad) A) 0 0 A := by
  refine Met.ofW (cc := cX6_first) (maxL := 3) (ret := (some .boolean)) (by decide) rfl ?_
  intro p e s m args below meth c s₁ B hml hv
  obtain ⟨rfl, hP, hK, hN⟩ := hv
  have hx := B.exec
  have hb := B.bytes
  have hr := B.returns
  have hts := atoms_spec (ws := wsX6_first) B.pre
  have hown : s.vm.findClass RX6 = some m.cls := findClass_of_methodNamed B.named
  have hlocks := B.notSynchronized
  have hS : va_S A s.heap s.heap [] := va_S.rf
  have hin6 : ∀ w ∈ wsX60, w ∈ wsX6_first := by decide +kernel
  have hf106 := hts (.fieldLink RX6 106 "LettersByLotModel" "num" "J") (by decide +kernel)
  have hf109 := hts (.fieldLink RX6 109 "LettersByLotModel" "den" "J") (by decide +kernel)
  have hl := lv_entry ([.ref (ad (62)), .int (nI (Lq)), .int (nI (s1))]) (n := 3) (Nat.le_of_ble_eq_true rfl)
  rw [lg_entry_eq]
  generalize (lg_sl ([.ref (ad (62)), .int (nI (Lq)), .int (nI (s1))]) ++ List.replicate (3 - (lg_sl ([.ref (ad (62)), .int (nI (Lq)), .int (nI (s1))])).length) Slot.unset).toArray = ls at hl ⊢
  have hl : lv_has ls 3 [(0, .ref (ad (62))), (1, .int (nI (Lq))), (2, .int (nI (s1)))] := hl
  obtain ⟨hq2, hq4, hw1, hw0, hWs, hWt, hw, hln, hul, hT, ht⟩ := hs
  obtain ⟨sq, nu, de, fw, fsz, fwd, ftx, fos, foz, fgo, frw, fan, fad, frn, frd, fen, fed, fcn, fcd, fnw, fth, fo62, fa63, fa64, fa65, fa66, fa67, fa68, fa69, fa70, fa71, fa72, fa73, fa74, fa75, fa76, fa77, fa78, fa79, fa80, hfw, hsz, hwl, htx⟩ := id hM
  have hWp : 1 ≤ Wt ∧ Wt ≤ 4 := by have h8 := hw1 0 (by omega); have h9 := wsum_mono (w := w) (show 1 ≤ q by omega); have h7 : wsum w 1 = 0 + w 0 := rfl; omega
  have hwA : ∀ k j, j < ln k → 1 ≤ w (u k j) := fun k j hj => hw1 _ (hul k j hj)
  have hwB : ∀ k j, j < ln k → w (u k j) ≤ 4 := fun k j hj => hw _ (Nat.lt_of_lt_of_le (hul k j hj) hq4)
  refine lv_aload_n hx hb dX6_first_0 rfl (lv_at hl 0 rfl) ?_
  refine lv_iload_n hx hb dX6_first_1 rfl (lv_at hl 1 rfl) ?_
  refine vp_callSi (va_Run.run (va_runV (As := [.int (nI (Lq))]) (rest := []) ⟨hx, hb, hml, hown, hts⟩ (mX6_isList_in l (w := w) (ln := ln) (t := t) (u := u) fo62 fa64 fa65 hsz hwl hq2 hq4 hln hul hT ht hL1 hL2) (cwV 1 hts gX6_first_X6_isList rfl rfl rfl (by decide +kernel) ⟨Nat.le_of_ble_eq_true rfl, Nat.le_of_ble_eq_true rfl⟩) ⟨xB_blind, va_recv hK hP (ci := 6) rfl (xw_is (by decide) fo62), fun U hU hW => ⟨rfl, by rw [hU]; exact hP, va_K.moved hW.alike hK, va_Nw.warmM hW hN⟩⟩ rfl rfl hl.1 rfl (lv_room (Nat.le_of_ble_eq_true rfl)) dX6_first_2 ⟨Nat.le_of_ble_eq_true rfl, Nat.le_of_ble_eq_true rfl⟩)) (fun r1 er1 => ?_)
  rcases er1 with ⟨rfl, hil⟩ | ⟨rfl, hil⟩
  · obtain ⟨kk, sl0, hent⟩ := ent_ok hil (Nat.le_refl 8)
    refine xi_if_eq (tgt := 30) hx hb (by decide) dX6_first_5 (by decide) (fun c0 => absurd c0 (by decide)) (fun _ => ?_)
    refine lv_iload_n hx hb dX6_first_8 rfl (lv_at hl 2 rfl) ?_
    refine lv_iconst (v := (-1)) hx hb dX6_first_9 (by decide) ?_
    refine lv_icmp_eq (tgt := 32) hx hb dX6_first_10 (by decide) (fun c10_3 => ?_) (fun c10_3 => ?_)
    · exact absurd c10_3 (nI_m1 (by omega))
    · refine lv_iload_n hx hb dX6_first_13 rfl (lv_at hl 2 rfl) ?_
      refine lv_bipush (v := nI (8)) hx hb dX6_first_14 (by decide) ?_
      refine vp_callSi (va_Run.run (va_runS (As := [.int (nI (s1)), .int (nI (8))]) (rest := []) ⟨hx, hb, hml, hown, hts⟩ (mX6_isIn_in l (by omega) (by omega)) (va_cwS 2 hts gX6_first_X6_isIn rfl rfl rfl (by decide +kernel) ⟨Nat.le_of_ble_eq_true rfl, Nat.le_of_ble_eq_true rfl⟩) ⟨xB_blind, fun U hU hW => ⟨rfl, by rw [hU]; exact hP, va_K.moved hW.alike hK, va_Nw.warmM hW hN⟩⟩ rfl rfl hl.1 rfl (lv_room (Nat.le_of_ble_eq_true rfl)) dX6_first_16 ⟨Nat.le_of_ble_eq_true rfl, Nat.le_of_ble_eq_true rfl⟩)) (fun r4 er4 => ?_)
      subst er4
      refine xi_if_eq (tgt := 30) hx hb (by decide) dX6_first_19 (by decide) (fun c0 => absurd c0 (by decide)) (fun _ => ?_)
      refine lv_iload_n hx hb dX6_first_22 rfl (lv_at hl 1 rfl) ?_
      refine lv_iload_n hx hb dX6_first_23 rfl (lv_at hl 2 rfl) ?_
      refine lv_ishr hx hb dX6_first_24 ?_
      refine xtopi (y := nI (Lq / 2 ^ s1)) (nI_shr (by omega) (by omega)) ?_
      refine lv_iconst (v := nI (1)) hx hb dX6_first_25 (by decide) ?_
      refine lv_iand hx hb dX6_first_26 ?_
      refine xtopi (y := nI (Lq / 2 ^ s1 % 2)) (and1 _) ?_
      refine xi_if_ne (tgt := 32) hx hb (by omega) dX6_first_27 (by decide) (fun c27_8 => ?_) (fun c27_8 => ?_)
      · have hbs : btL Lq s1 := by have h9 := c27_8; show _ = 1; omega
        refine lv_iload_n hx hb dX6_first_32 rfl (lv_at hl 2 rfl) ?_
        refine lv_iconst (v := (-1)) hx hb dX6_first_33 (by decide) ?_
        refine lv_icmp_ne (tgt := 61) hx hb dX6_first_34 (by decide) (fun c34_9 => ?_) (fun c34_9 => ?_)
        · refine lv_aload_n hx hb dX6_first_61 rfl (lv_at hl 0 rfl) ?_
          refine lv_iload_n hx hb dX6_first_62 rfl (lv_at hl 1 rfl) ?_
          refine lv_iload_n hx hb dX6_first_63 rfl (lv_at hl 2 rfl) ?_
          refine va_callv (va_runV (As := [.int (nI (Lq)), .int (nI (s1))]) (rest := []) ⟨hx, hb, hml, hown, hts⟩ (mX6_chance l hD (w := w) (ln := ln) (t := t) (u := u) (li := Lq) (s0 := s1) fo62 fa63 fa64 fa65 fa67 fa68 fa69 fa70 fa71 fa72 fa73 fa74 hfw hsz hwl hq2 hq4 hln hul hT ht hw1 hw hWt hL2 (fun s h1 h2 => (hil.1 s h1 h2).1) hil.2 (cn_ne0 Lq hL2 hL1) hs1 (fun ns sl sz gof h => ((hCk Lq kk sl0 ns sl sz gof hL1 hL2 hent h).2.2 s1 hs1 hbs).1)) (cwV 2 hts gX6_first_X6_chance rfl rfl rfl (by decide +kernel) ⟨Nat.le_of_ble_eq_true rfl, Nat.le_of_ble_eq_true rfl⟩) ⟨xB_blind, va_recv hK hP (ci := 6) rfl (xw_is (by decide) fo62), fun U hU hW => ⟨rfl, by rw [hU]; exact hP, va_K.moved hW.alike hK, va_Nw.warmM hW hN⟩⟩ rfl rfl hl.1 rfl (lv_room (Nat.le_of_ble_eq_true rfl)) dX6_first_64 ⟨Nat.le_of_ble_eq_true rfl, Nat.le_of_ble_eq_true rfl⟩) hS (fun _ _ h => h) (fun _ h => h) (fun g10 tZ H locs ht hvm hwg10 hB hzZ hkZ hS => ?_)
          obtain ⟨hP, -⟩ := hB
          rw [ht] at hP
          obtain ⟨ns, sl, sz, gof, f7, f8, f9, f0, fA, fB, fC, fD, hCh, hgo, hSv, fg10_n0, fg10_n1, fg10_n2, fg10_n3, fg10_n4, fg10_n5, fg10_n6, fg10_n7, fg10_n8, hcg10⟩ := hwg10
          have fg10_k0 : g10 (63) = .inl (cI, 4, .inl (fw)) := (hcg10 (63) (by decide) (by decide) (by decide) (by decide) (by decide) (by decide) (by decide) (by decide) (by decide)).trans fa63
          have fg10_k1 : g10 (64) = .inl (cI, 8, .inl (fsz)) := (hcg10 (64) (by decide) (by decide) (by decide) (by decide) (by decide) (by decide) (by decide) (by decide) (by decide)).trans fa64
          have fg10_k2 : g10 (65) = .inl (cI, 40, .inl (fwd)) := (hcg10 (65) (by decide) (by decide) (by decide) (by decide) (by decide) (by decide) (by decide) (by decide) (by decide)).trans fa65
          have fg10_k3 : g10 (75) = .inl (cJ, 13, .inr (.inl (fen))) := (hcg10 (75) (by decide) (by decide) (by decide) (by decide) (by decide) (by decide) (by decide) (by decide) (by decide)).trans fa75
          have fg10_k4 : g10 (76) = .inl (cJ, 13, .inr (.inl (fed))) := (hcg10 (76) (by decide) (by decide) (by decide) (by decide) (by decide) (by decide) (by decide) (by decide) (by decide)).trans fa76
          have hfrg10 : ∀ j : Nat, j ≠ 62 → j ≠ 67 → j ≠ 68 → j ≠ 69 → j ≠ 70 → j ≠ 71 → j ≠ 72 → j ≠ 73 → j ≠ 74 → j ≠ 75 → j ≠ 76 → g10 j = g j := fun j h0 h1 h2 h3 h4 h5 h6 h7 h8 h9 h10 => (hcg10 j h0 h1 h2 h3 h4 h5 h6 h7 h8).trans ((fun _ _ _ _ _ _ _ _ _ _ _ _ => rfl) j h0 h1 h2 h3 h4 h5 h6 h7 h8 h9 h10)
          have hns := hCh.2.1
          have hns1 := hCh.1
          obtain ⟨hG1, hG2⟩ := (hCk Lq kk sl0 ns sl sz gof hL1 hL2 hent hCh).2.2 s1 hs1 hbs
          refine lv_aload_n hx hb dX6_first_67 rfl (lv_at hl 0 rfl) ?_
          refine lv_aload_n hx hb dX6_first_68 rfl (lv_at hl 0 rfl) ?_
          refine xw_get hx hb hts hin6 hown hK hP (by decide) fg10_n0 rfl 9 (by decide) hf106 rfl rfl dX6_first_69 ?_
          refine lv_aload_n hx hb dX6_first_72 rfl (lv_at hl 0 rfl) ?_
          refine xw_get hx hb hts hin6 hown hK hP (by decide) fg10_n0 rfl 10 (by decide) hf109 rfl rfl dX6_first_73 ?_
          refine va_callv (va_runV (As := [.long (lZ ((fM Wt w gof q ns s1 0).num)), .long (lZ (((fM Wt w gof q ns s1 0).den : Int)))]) (rest := []) ⟨hx, hb, hml, hown, hts⟩ (mX6_atHand l hD (w := w) (ln := ln) (t := t) (u := u) (a := (fM Wt w gof q ns s1 0).num) (b := ((fM Wt w gof q ns s1 0).den : Int)) fg10_n0 ⟨(hG1.2 0 (by omega)).1, (hG1.2 0 (by omega)).2.1⟩ ⟨by have h9 := (fM Wt w gof q ns s1 0).den_pos; omega, (hG1.2 0 (by omega)).2.2⟩) (cwV 2 hts gX6_first_X6_atHand rfl rfl rfl (by decide +kernel) ⟨Nat.le_of_ble_eq_true rfl, Nat.le_of_ble_eq_true rfl⟩) ⟨xB_blind, va_recv hK hP (ci := 6) rfl (xw_is (by decide) fg10_n0), fun U hU hW => ⟨rfl, by rw [hU]; exact hP, va_K.moved hW.alike hK, va_Nw.warmM hW hN⟩⟩ rfl rfl hl.1 rfl (lv_room (Nat.le_of_ble_eq_true rfl)) dX6_first_76 ⟨Nat.le_of_ble_eq_true rfl, Nat.le_of_ble_eq_true rfl⟩) hS (fun _ _ h => h) (fun _ h => h) (fun g12 tZ H locs ht hvm hwg12 hB hzZ hkZ hS => ?_)
          obtain ⟨hP, -⟩ := hB
          rw [ht] at hP
          obtain ⟨fg12_n0, hcg12⟩ := hwg12
          have fg12_k0 : g12 (67) = .inl (cI, 13, .inl (f7)) := (hcg12 (67) (by decide)).trans fg10_n1
          have fg12_k1 : g12 (68) = .inl (cI, 13, .inl (f8)) := (hcg12 (68) (by decide)).trans fg10_n2
          have fg12_k2 : g12 (69) = .inl (cI, 52, .inl (f9)) := (hcg12 (69) (by decide)).trans fg10_n3
          have fg12_k3 : g12 (70) = .inl (cI, 6, .inl (f0)) := (hcg12 (70) (by decide)).trans fg10_n4
          have fg12_k4 : g12 (71) = .inl (cJ, 169, .inr (.inl (fA))) := (hcg12 (71) (by decide)).trans fg10_n5
          have fg12_k5 : g12 (72) = .inl (cJ, 169, .inr (.inl (fB))) := (hcg12 (72) (by decide)).trans fg10_n6
          have fg12_k6 : g12 (73) = .inl (cJ, 13, .inr (.inl (fC))) := (hcg12 (73) (by decide)).trans fg10_n7
          have fg12_k7 : g12 (74) = .inl (cJ, 13, .inr (.inl (fD))) := (hcg12 (74) (by decide)).trans fg10_n8
          have fg12_k8 : g12 (63) = .inl (cI, 4, .inl (fw)) := (hcg12 (63) (by decide)).trans fg10_k0
          have fg12_k9 : g12 (64) = .inl (cI, 8, .inl (fsz)) := (hcg12 (64) (by decide)).trans fg10_k1
          have fg12_k10 : g12 (65) = .inl (cI, 40, .inl (fwd)) := (hcg12 (65) (by decide)).trans fg10_k2
          have fg12_k11 : g12 (75) = .inl (cJ, 13, .inr (.inl (fen))) := (hcg12 (75) (by decide)).trans fg10_k3
          have fg12_k12 : g12 (76) = .inl (cJ, 13, .inr (.inl (fed))) := (hcg12 (76) (by decide)).trans fg10_k4
          have hfrg12 : ∀ j : Nat, j ≠ 62 → j ≠ 67 → j ≠ 68 → j ≠ 69 → j ≠ 70 → j ≠ 71 → j ≠ 72 → j ≠ 73 → j ≠ 74 → j ≠ 75 → j ≠ 76 → g12 j = g j := fun j h0 h1 h2 h3 h4 h5 h6 h7 h8 h9 h10 => (hcg12 j h0).trans (hfrg10 j h0 h1 h2 h3 h4 h5 h6 h7 h8 h9 h10)
          rw [divInt_nd] at fg12_n0
          refine lv_iconst (v := nI (1)) hx hb dX6_first_79 (by decide) ?_
          exact W.zret (v := nI (1)) hx hb hr (by decide) (fun tZ ht hW => ⟨⟨_, g12, rfl, (by have hO : oFirst Wt w ln u (nI Lq) (nI s1) = some (fM Wt w gof q ns s1 0) := (by unfold oFirst; rw [hLs, hG2]; show (match ent ln u Lq 8 with | none => none | some (k, sl) => _) = _; rw [hent]; show (if nI s1 = -1 then _ else _) = _; rw [if_neg (nI_m1 (by omega)), nI_clamp (by omega)]; rw [if_pos ⟨nI_pos (by omega), nI_ge hs1 (by decide), hbs⟩]); show _ = (if (oFirst Wt w ln u (nI Lq) (nI s1)).isSome then 1 else 0) ∧ _; rw [hO]; exact ⟨rfl, ⟨_, _, _, _, _, _, _, _, _, _, _, _, _, _, _, _, _, _, _, _, _, fg12_n0, fg12_k8, fg12_k9, fg12_k10, ((hfrg12) 66 (by decide) (by decide) (by decide) (by decide) (by decide) (by decide) (by decide) (by decide) (by decide) (by decide) (by decide)).trans fa66, fg12_k0, fg12_k1, fg12_k2, fg12_k3, fg12_k4, fg12_k5, fg12_k6, fg12_k7, fg12_k11, fg12_k12, ((hfrg12) 77 (by decide) (by decide) (by decide) (by decide) (by decide) (by decide) (by decide) (by decide) (by decide) (by decide) (by decide)).trans fa77, ((hfrg12) 78 (by decide) (by decide) (by decide) (by decide) (by decide) (by decide) (by decide) (by decide) (by decide) (by decide) (by decide)).trans fa78, ((hfrg12) 79 (by decide) (by decide) (by decide) (by decide) (by decide) (by decide) (by decide) (by decide) (by decide) (by decide) (by decide)).trans fa79, ((hfrg12) 80 (by decide) (by decide) (by decide) (by decide) (by decide) (by decide) (by decide) (by decide) (by decide) (by decide) (by decide)).trans fa80, hfw, hsz, hwl, htx⟩, fun j hj => (hfrg12) j (by omega) (by omega) (by omega) (by omega) (by omega) (by omega) (by omega) (by omega) (by omega) (by omega) (by omega)⟩), by rw [ht]; exact hP, va_K.moved hW.alike hK, va_Nw.warmM hW hN⟩, hS.F ht⟩) hS.2.2 dX6_first_80
        · exact absurd c34_9 (nI_m1 (by omega))
      · have hnb : ¬ btL Lq s1 := by have h9 := c27_8; show ¬ _ = 1; omega
        refine lv_iconst (v := nI (0)) hx hb dX6_first_30 (by decide) ?_
        exact W.zret (v := nI (0)) hx hb hr (by decide) (fun tZ ht hW => ⟨⟨_, g, rfl, (by have hO : oFirst Wt w ln u (nI Lq) (nI s1) = none := (by unfold oFirst; rw [hLs]; show (match ent ln u Lq 8 with | none => none | some (k, sl) => _) = none; rw [hent]; show (if nI s1 = -1 then _ else _) = _; rw [if_neg (nI_m1 (by omega)), nI_clamp (by omega)]; rw [if_neg (fun h => hnb h.2.2)]); show _ = (if (oFirst Wt w ln u (nI Lq) (nI s1)).isSome then 1 else 0) ∧ _; rw [hO]; exact ⟨rfl, hM, fun _ _ => rfl⟩), by rw [ht]; exact hP, va_K.moved hW.alike hK, va_Nw.warmM hW hN⟩, hS.F ht⟩) hS.2.2 dX6_first_31
  · refine xi_if_eq (tgt := 30) hx hb (by decide) dX6_first_5 (by decide) (fun _ => ?_) (fun c0 => absurd c0 (by decide))
    refine lv_iconst (v := nI (0)) hx hb dX6_first_30 (by decide) ?_
    exact W.zret (v := nI (0)) hx hb hr (by decide) (fun tZ ht hW => ⟨⟨_, g, rfl, (by have hO : oFirst Wt w ln u (nI Lq) (nI s1) = none := (by unfold oFirst; rw [hLs]; show (match ent ln u Lq 8 with | none => none | some (k, sl) => _) = none; rw [ent_no hil]); show _ = (if (oFirst Wt w ln u (nI Lq) (nI s1)).isSome then 1 else 0) ∧ _; rw [hO]; exact ⟨rfl, hM, fun _ _ => rfl⟩), by rw [ht]; exact hP, va_K.moved hW.alike hK, va_Nw.warmM hW hN⟩, hS.F ht⟩) hS.2.2 dX6_first_31

set_option maxHeartbeats 4000000 in
set_option maxRecDepth 100000 in
theorem mX6_first_no (l : Launch) {D : va_G} {cI cJ cZ cW : ClassId} {ad : Nat → Nat} {A : Nat → Prop} (hD : ∀ g, va_D A (xw 81 ad g)) {g : Nat → va_E} {q Wt : Nat} {w : Nat → Nat} {ln : Nat → Nat} {u : Nat → Nat → Nat} {T : Nat} {t : Nat → Nat} {tp bt : Int64} {x0 y0 : Int32}  (hM : ModI cI cJ ad g q Wt w ln u T t tp bt) (hs : SrcI q Wt w ln u T t) (hbad : x0 = 0 ∨ ¬ (x0 &&& (-256)) = 0) (hLs : lsN x0 = none) : Met l yX6_first wsX6_first ({ frames := 6, cells := 0, slots := 0, locals := 166 }) (va_Pc [.ref (ad (62)), .int (x0), .int (y0)] (xB D (xT cI cJ cZ cW) ad g)) (va_Qi (fun r g2 => r = (if (oFirst Wt w ln u x0 y0).isSome then 1 else 0) ∧ ModI cI cJ ad g2 q Wt w ln u T t (hTp (oFirst Wt w ln u x0 y0) tp) (hBt (oFirst Wt w ln u x0 y0) bt) ∧ ∀ j : Nat, j < 62 → g2 j = g j) (xB D (xT cI cJ cZ cW) ad) A) 0 0 A := by
  refine Met.ofW (cc := cX6_first) (maxL := 3) (ret := (some .boolean)) (by decide) rfl ?_
  intro p e s m args below meth c s₁ B hml hv
  obtain ⟨rfl, hP, hK, hN⟩ := hv
  have hx := B.exec
  have hb := B.bytes
  have hr := B.returns
  have hts := atoms_spec (ws := wsX6_first) B.pre
  have hown : s.vm.findClass RX6 = some m.cls := findClass_of_methodNamed B.named
  have hlocks := B.notSynchronized
  have hS : va_S A s.heap s.heap [] := va_S.rf
  have hl := lv_entry ([.ref (ad (62)), .int (x0), .int (y0)]) (n := 3) (Nat.le_of_ble_eq_true rfl)
  rw [lg_entry_eq]
  generalize (lg_sl ([.ref (ad (62)), .int (x0), .int (y0)]) ++ List.replicate (3 - (lg_sl ([.ref (ad (62)), .int (x0), .int (y0)])).length) Slot.unset).toArray = ls at hl ⊢
  have hl : lv_has ls 3 [(0, .ref (ad (62))), (1, .int (x0)), (2, .int (y0))] := hl
  obtain ⟨hq2, hq4, hw1, hw0, hWs, hWt, hw, hln, hul, hT, ht⟩ := hs
  obtain ⟨sq, nu, de, fw, fsz, fwd, ftx, fos, foz, fgo, frw, fan, fad, frn, frd, fen, fed, fcn, fcd, fnw, fth, fo62, fa63, fa64, fa65, fa66, fa67, fa68, fa69, fa70, fa71, fa72, fa73, fa74, fa75, fa76, fa77, fa78, fa79, fa80, hfw, hsz, hwl, htx⟩ := id hM
  have hWp : 1 ≤ Wt ∧ Wt ≤ 4 := by have h8 := hw1 0 (by omega); have h9 := wsum_mono (w := w) (show 1 ≤ q by omega); have h7 : wsum w 1 = 0 + w 0 := rfl; omega
  have hwA : ∀ k j, j < ln k → 1 ≤ w (u k j) := fun k j hj => hw1 _ (hul k j hj)
  have hwB : ∀ k j, j < ln k → w (u k j) ≤ 4 := fun k j hj => hw _ (Nat.lt_of_lt_of_le (hul k j hj) hq4)
  refine lv_aload_n hx hb dX6_first_0 rfl (lv_at hl 0 rfl) ?_
  refine lv_iload_n hx hb dX6_first_1 rfl (lv_at hl 1 rfl) ?_
  refine vp_callSi (va_Run.run (va_runV (As := [.int (x0)]) (rest := []) ⟨hx, hb, hml, hown, hts⟩ (mX6_isList_no l hbad) (cwV 1 hts gX6_first_X6_isList rfl rfl rfl (by decide +kernel) ⟨Nat.le_of_ble_eq_true rfl, Nat.le_of_ble_eq_true rfl⟩) ⟨xB_blind, va_recv hK hP (ci := 6) rfl (xw_is (by decide) fo62), fun U hU hW => ⟨rfl, by rw [hU]; exact hP, va_K.moved hW.alike hK, va_Nw.warmM hW hN⟩⟩ rfl rfl hl.1 rfl (lv_room (Nat.le_of_ble_eq_true rfl)) dX6_first_2 ⟨Nat.le_of_ble_eq_true rfl, Nat.le_of_ble_eq_true rfl⟩)) (fun r1 er1 => ?_)
  subst er1
  refine xi_if_eq (tgt := 30) hx hb (by decide) dX6_first_5 (by decide) (fun _ => ?_) (fun c0 => absurd c0 (by decide))
  refine lv_iconst (v := nI (0)) hx hb dX6_first_30 (by decide) ?_
  exact W.zret (v := nI (0)) hx hb hr (by decide) (fun tZ ht hW => ⟨⟨_, g, rfl, (by have hO : oFirst Wt w ln u x0 y0 = none := (by unfold oFirst; rw [hLs]); show _ = (if (oFirst Wt w ln u x0 y0).isSome then 1 else 0) ∧ _; rw [hO]; exact ⟨rfl, hM, fun _ _ => rfl⟩), by rw [ht]; exact hP, va_K.moved hW.alike hK, va_Nw.warmM hW hN⟩, hS.F ht⟩) hS.2.2 dX6_first_31

set_option maxHeartbeats 4000000 in
set_option maxRecDepth 100000 in
theorem mX6_odds_ss (l : Launch) {D : va_G} {cI cJ cZ cW : ClassId} {ad : Nat → Nat} {A : Nat → Prop} (hD : ∀ g, va_D A (xw 81 ad g)) {g : Nat → va_E} {q Wt : Nat} {w : Nat → Nat} {ln : Nat → Nat} {u : Nat → Nat → Nat} {T : Nat} {t : Nat → Nat} {tp bt : Int64} {k1 : Nat} {k2 : Nat}  (hM : ModI cI cJ ad g q Wt w ln u T t tp bt) (hs : SrcI q Wt w ln u T t) (hk1 : k1 < 8) (hp1 : 0 < ln k1) (hk2 : k2 < 8) (hp2 : 0 < ln k2) (hOd : odOK q Wt w ln u) : Met l yX6_odds wsX6_odds ({ frames := 6, cells := 0, slots := 0, locals := 166 }) (va_Pc [.ref (ad (62)), .int (nI (k1)), .int (nI (k2))] (xB D (xT cI cJ cZ cW) ad g)) (va_Qi (fun r g2 => r = (if (oOdds Wt w ln u (nI (k1)) (nI (k2))).isSome then 1 else 0) ∧ ModI cI cJ ad g2 q Wt w ln u T t (hTp (oOdds Wt w ln u (nI (k1)) (nI (k2))) tp) (hBt (oOdds Wt w ln u (nI (k1)) (nI (k2))) bt) ∧ ∀ j : Nat, j < 62 → g2 j = g j) (xB D (xT cI cJ cZ cW) ad) A) 0 0 A := by
  refine Met.ofW (cc := cX6_odds) (maxL := 3) (ret := (some .boolean)) (by decide) rfl ?_
  intro p e s m args below meth c s₁ B hml hv
  obtain ⟨rfl, hP, hK, hN⟩ := hv
  have hx := B.exec
  have hb := B.bytes
  have hr := B.returns
  have hts := atoms_spec (ws := wsX6_odds) B.pre
  have hown : s.vm.findClass RX6 = some m.cls := findClass_of_methodNamed B.named
  have hlocks := B.notSynchronized
  have hS : va_S A s.heap s.heap [] := va_S.rf
  have hin6 : ∀ w ∈ wsX60, w ∈ wsX6_odds := by decide +kernel
  have hf106 := hts (.fieldLink RX6 106 "LettersByLotModel" "num" "J") (by decide +kernel)
  have hf109 := hts (.fieldLink RX6 109 "LettersByLotModel" "den" "J") (by decide +kernel)
  have hl := lv_entry ([.ref (ad (62)), .int (nI (k1)), .int (nI (k2))]) (n := 3) (Nat.le_of_ble_eq_true rfl)
  rw [lg_entry_eq]
  generalize (lg_sl ([.ref (ad (62)), .int (nI (k1)), .int (nI (k2))]) ++ List.replicate (3 - (lg_sl ([.ref (ad (62)), .int (nI (k1)), .int (nI (k2))])).length) Slot.unset).toArray = ls at hl ⊢
  have hl : lv_has ls 3 [(0, .ref (ad (62))), (1, .int (nI (k1))), (2, .int (nI (k2)))] := hl
  obtain ⟨hq2, hq4, hw1, hw0, hWs, hWt, hw, hln, hul, hT, ht⟩ := hs
  obtain ⟨sq, nu, de, fw, fsz, fwd, ftx, fos, foz, fgo, frw, fan, fad, frn, frd, fen, fed, fcn, fcd, fnw, fth, fo62, fa63, fa64, fa65, fa66, fa67, fa68, fa69, fa70, fa71, fa72, fa73, fa74, fa75, fa76, fa77, fa78, fa79, fa80, hfw, hsz, hwl, htx⟩ := id hM
  have hWp : 1 ≤ Wt ∧ Wt ≤ 4 := by have h8 := hw1 0 (by omega); have h9 := wsum_mono (w := w) (show 1 ≤ q by omega); have h7 : wsum w 1 = 0 + w 0 := rfl; omega
  have hwA : ∀ k j, j < ln k → 1 ≤ w (u k j) := fun k j hj => hw1 _ (hul k j hj)
  have hwB : ∀ k j, j < ln k → w (u k j) ≤ 4 := fun k j hj => hw _ (Nat.lt_of_lt_of_le (hul k j hj) hq4)
  have hn1 := hln k1
  have hn2 := hln k2
  refine lv_aload_n hx hb dX6_odds_0 rfl (lv_at hl 0 rfl) ?_
  refine lv_iload_n hx hb dX6_odds_1 rfl (lv_at hl 1 rfl) ?_
  refine vp_callSi (va_Run.run (va_runV (As := [.int (nI (k1))]) (rest := []) ⟨hx, hb, hml, hown, hts⟩ (mX6_isWord_yes l (w := w) (ln := ln) (t := t) (u := u) fo62 fa64 hsz hk1 hp1 (hln _)) (cwV 1 hts gX6_odds_X6_isWord rfl rfl rfl (by decide +kernel) ⟨Nat.le_of_ble_eq_true rfl, Nat.le_of_ble_eq_true rfl⟩) ⟨xB_blind, va_recv hK hP (ci := 6) rfl (xw_is (by decide) fo62), fun U hU hW => ⟨rfl, by rw [hU]; exact hP, va_K.moved hW.alike hK, va_Nw.warmM hW hN⟩⟩ rfl rfl hl.1 rfl (lv_room (Nat.le_of_ble_eq_true rfl)) dX6_odds_2 ⟨Nat.le_of_ble_eq_true rfl, Nat.le_of_ble_eq_true rfl⟩)) (fun r1 er1 => ?_)
  subst er1
  refine xi_if_eq (tgt := 35) hx hb (by decide) dX6_odds_5 (by decide) (fun c0 => absurd c0 (by decide)) (fun _ => ?_)
  refine lv_aload_n hx hb dX6_odds_8 rfl (lv_at hl 0 rfl) ?_
  refine lv_iload_n hx hb dX6_odds_9 rfl (lv_at hl 2 rfl) ?_
  refine vp_callSi (va_Run.run (va_runV (As := [.int (nI (k2))]) (rest := []) ⟨hx, hb, hml, hown, hts⟩ (mX6_isWord_yes l (w := w) (ln := ln) (t := t) (u := u) fo62 fa64 hsz hk2 hp2 (hln _)) (cwV 1 hts gX6_odds_X6_isWord rfl rfl rfl (by decide +kernel) ⟨Nat.le_of_ble_eq_true rfl, Nat.le_of_ble_eq_true rfl⟩) ⟨xB_blind, va_recv hK hP (ci := 6) rfl (xw_is (by decide) fo62), fun U hU hW => ⟨rfl, by rw [hU]; exact hP, va_K.moved hW.alike hK, va_Nw.warmM hW hN⟩⟩ rfl rfl hl.1 rfl (lv_room (Nat.le_of_ble_eq_true rfl)) dX6_odds_10 ⟨Nat.le_of_ble_eq_true rfl, Nat.le_of_ble_eq_true rfl⟩)) (fun r3 er3 => ?_)
  subst er3
  refine xi_if_eq (tgt := 35) hx hb (by decide) dX6_odds_13 (by decide) (fun c0 => absurd c0 (by decide)) (fun _ => ?_)
  refine lv_iload_n hx hb dX6_odds_16 rfl (lv_at hl 1 rfl) ?_
  refine lv_iload_n hx hb dX6_odds_17 rfl (lv_at hl 2 rfl) ?_
  refine xi_icmp_eq (tgt := 35) hx hb (by omega) (by omega) dX6_odds_18 (by decide) (fun c18_5 => ?_) (fun c18_5 => ?_)
  · refine lv_iconst (v := nI (0)) hx hb dX6_odds_35 (by decide) ?_
    exact W.zret (v := nI (0)) hx hb hr (by decide) (fun tZ ht hW => ⟨⟨_, g, rfl, (by have hO : oOdds Wt w ln u (nI k1) (nI k2) = none := (by unfold oOdds; rw [slotW_yes hk1 hp1, slotW_yes hk2 hp2]; exact if_pos (Or.inl (by rw [c18_5]; exact lies_self (hln _)))); show _ = (if (oOdds Wt w ln u (nI k1) (nI k2)).isSome then 1 else 0) ∧ _; rw [hO]; exact ⟨rfl, hM, fun _ _ => rfl⟩), by rw [ht]; exact hP, va_K.moved hW.alike hK, va_Nw.warmM hW hN⟩, hS.F ht⟩) hS.2.2 dX6_odds_36
  · have hne : k1 ≠ k2 := c18_5
    refine lv_aload_n hx hb dX6_odds_21 rfl (lv_at hl 0 rfl) ?_
    refine lv_iconst (v := nI (1)) hx hb dX6_odds_22 (by decide) ?_
    refine lv_iload_n hx hb dX6_odds_23 rfl (lv_at hl 1 rfl) ?_
    refine lv_ishl hx hb dX6_odds_24 ?_
    refine xtopi (y := nI (2 ^ k1)) (nI_shl1 (by omega)) ?_
    refine lv_iconst (v := nI (1)) hx hb dX6_odds_25 (by decide) ?_
    refine lv_iload_n hx hb dX6_odds_26 rfl (lv_at hl 2 rfl) ?_
    refine lv_ishl hx hb dX6_odds_27 ?_
    refine xtopi (y := nI (2 ^ k2)) (nI_shl1 (by omega)) ?_
    refine lv_ior hx hb dX6_odds_28 ?_
    refine xtopi (y := nI (2 ^ k1 ||| 2 ^ k2)) (nI_or _ _) ?_
    refine vp_callSi (va_Run.run (va_runV (As := [.int (nI (2 ^ k1 ||| 2 ^ k2))]) (rest := []) ⟨hx, hb, hml, hown, hts⟩ (mX6_isList_in l (w := w) (ln := ln) (t := t) (u := u) fo62 fa64 fa65 hsz hwl hq2 hq4 hln hul hT ht (or_pow k1 hk1 k2 hk2).1 (or_pow k1 hk1 k2 hk2).2.1) (cwV 1 hts gX6_odds_X6_isList rfl rfl rfl (by decide +kernel) ⟨Nat.le_of_ble_eq_true rfl, Nat.le_of_ble_eq_true rfl⟩) ⟨xB_blind, va_recv hK hP (ci := 6) rfl (xw_is (by decide) fo62), fun U hU hW => ⟨rfl, by rw [hU]; exact hP, va_K.moved hW.alike hK, va_Nw.warmM hW hN⟩⟩ rfl rfl hl.1 rfl (lv_room (Nat.le_of_ble_eq_true rfl)) dX6_odds_29 ⟨Nat.le_of_ble_eq_true rfl, Nat.le_of_ble_eq_true rfl⟩)) (fun r9 er9 => ?_)
    rcases er9 with ⟨rfl, hil⟩ | ⟨rfl, hil⟩
    · have hnl := (ls_two hk1 hk2 hne hp1 hp2).mp hil
      refine xi_if_ne (tgt := 37) hx hb (by decide) dX6_odds_32 (by decide) (fun _ => ?_) (fun c0 => absurd c0 (by decide))
      refine lv_aload_n hx hb dX6_odds_37 rfl (lv_at hl 0 rfl) ?_
      refine lv_iconst (v := nI (1)) hx hb dX6_odds_38 (by decide) ?_
      refine lv_iload_n hx hb dX6_odds_39 rfl (lv_at hl 1 rfl) ?_
      refine lv_ishl hx hb dX6_odds_40 ?_
      refine xtopi (y := nI (2 ^ k1)) (nI_shl1 (by omega)) ?_
      refine lv_iconst (v := nI (1)) hx hb dX6_odds_41 (by decide) ?_
      refine lv_iload_n hx hb dX6_odds_42 rfl (lv_at hl 2 rfl) ?_
      refine lv_ishl hx hb dX6_odds_43 ?_
      refine xtopi (y := nI (2 ^ k2)) (nI_shl1 (by omega)) ?_
      refine lv_ior hx hb dX6_odds_44 ?_
      refine xtopi (y := nI (2 ^ k1 ||| 2 ^ k2)) (nI_or _ _) ?_
      refine lv_iload_n hx hb dX6_odds_45 rfl (lv_at hl 1 rfl) ?_
      refine va_callv (va_runV (As := [.int (nI (2 ^ k1 ||| 2 ^ k2)), .int (nI (k1))]) (rest := []) ⟨hx, hb, hml, hown, hts⟩ (mX6_chance l hD (w := w) (ln := ln) (t := t) (u := u) (li := (2 ^ k1 ||| 2 ^ k2)) (s0 := k1) fo62 fa63 fa64 fa65 fa67 fa68 fa69 fa70 fa71 fa72 fa73 fa74 hfw hsz hwl hq2 hq4 hln hul hT ht hw1 hw hWt (or_pow k1 hk1 k2 hk2).2.1 (fun s h1 h2 => (hil.1 s h1 h2).1) hil.2 (cn_ne0 _ (or_pow k1 hk1 k2 hk2).2.1 (or_pow k1 hk1 k2 hk2).1) hk1 (fun ns sl sz gof h => (hOd k1 k2 ns sl sz gof hk1 hk2 hne hp1 hp2 hnl h).1)) (cwV 2 hts gX6_odds_X6_chance rfl rfl rfl (by decide +kernel) ⟨Nat.le_of_ble_eq_true rfl, Nat.le_of_ble_eq_true rfl⟩) ⟨xB_blind, va_recv hK hP (ci := 6) rfl (xw_is (by decide) fo62), fun U hU hW => ⟨rfl, by rw [hU]; exact hP, va_K.moved hW.alike hK, va_Nw.warmM hW hN⟩⟩ rfl rfl hl.1 rfl (lv_room (Nat.le_of_ble_eq_true rfl)) dX6_odds_46 ⟨Nat.le_of_ble_eq_true rfl, Nat.le_of_ble_eq_true rfl⟩) hS (fun _ _ h => h) (fun _ h => h) (fun g14 tZ H locs ht hvm hwg14 hB hzZ hkZ hS => ?_)
      obtain ⟨hP, -⟩ := hB
      rw [ht] at hP
      obtain ⟨ns, sl, sz, gof, f7, f8, f9, f0, fA, fB, fC, fD, hCh, hgo, hSv, fg14_n0, fg14_n1, fg14_n2, fg14_n3, fg14_n4, fg14_n5, fg14_n6, fg14_n7, fg14_n8, hcg14⟩ := hwg14
      have fg14_k0 : g14 (63) = .inl (cI, 4, .inl (fw)) := (hcg14 (63) (by decide) (by decide) (by decide) (by decide) (by decide) (by decide) (by decide) (by decide) (by decide)).trans fa63
      have fg14_k1 : g14 (64) = .inl (cI, 8, .inl (fsz)) := (hcg14 (64) (by decide) (by decide) (by decide) (by decide) (by decide) (by decide) (by decide) (by decide) (by decide)).trans fa64
      have fg14_k2 : g14 (65) = .inl (cI, 40, .inl (fwd)) := (hcg14 (65) (by decide) (by decide) (by decide) (by decide) (by decide) (by decide) (by decide) (by decide) (by decide)).trans fa65
      have fg14_k3 : g14 (75) = .inl (cJ, 13, .inr (.inl (fen))) := (hcg14 (75) (by decide) (by decide) (by decide) (by decide) (by decide) (by decide) (by decide) (by decide) (by decide)).trans fa75
      have fg14_k4 : g14 (76) = .inl (cJ, 13, .inr (.inl (fed))) := (hcg14 (76) (by decide) (by decide) (by decide) (by decide) (by decide) (by decide) (by decide) (by decide) (by decide)).trans fa76
      have hfrg14 : ∀ j : Nat, j ≠ 62 → j ≠ 67 → j ≠ 68 → j ≠ 69 → j ≠ 70 → j ≠ 71 → j ≠ 72 → j ≠ 73 → j ≠ 74 → j ≠ 75 → j ≠ 76 → g14 j = g j := fun j h0 h1 h2 h3 h4 h5 h6 h7 h8 h9 h10 => (hcg14 j h0 h1 h2 h3 h4 h5 h6 h7 h8).trans ((fun _ _ _ _ _ _ _ _ _ _ _ _ => rfl) j h0 h1 h2 h3 h4 h5 h6 h7 h8 h9 h10)
      have hns := hCh.2.1
      have hns1 := hCh.1
      obtain ⟨hG1, hG2, hG3, hG4⟩ := (hOd k1 k2 ns sl sz gof hk1 hk2 hne hp1 hp2 hnl hCh)
      refine lv_aload_n hx hb dX6_odds_49 rfl (lv_at hl 0 rfl) ?_
      refine lv_aload_n hx hb dX6_odds_50 rfl (lv_at hl 0 rfl) ?_
      refine xw_get hx hb hts hin6 hown hK hP (by decide) fg14_n0 rfl 9 (by decide) hf106 rfl rfl dX6_odds_51 ?_
      refine lv_aload_n hx hb dX6_odds_54 rfl (lv_at hl 0 rfl) ?_
      refine xw_get hx hb hts hin6 hown hK hP (by decide) fg14_n0 rfl 10 (by decide) hf109 rfl rfl dX6_odds_55 ?_
      refine lv_aload_n hx hb dX6_odds_58 rfl (lv_at hl 0 rfl) ?_
      refine xw_get hx hb hts hin6 hown hK hP (by decide) fg14_n0 rfl 9 (by decide) hf106 rfl rfl dX6_odds_59 ?_
      refine xl_sub hx hb dX6_odds_62 ?_
      have hnn := Rat.num_nonneg.mpr hG2
      have hff := hG1.2 0 (by omega)
      have hfd : fitR (fM Wt w gof q ns k1 0) := hff
      obtain ⟨hf1, hf2, hf3⟩ := hfd
      refine va_callv (va_runV (As := [.long (lZ ((fM Wt w gof q ns k1 0).num)), .long (lZ ((((fM Wt w gof q ns k1 0).den : Int)) - ((fM Wt w gof q ns k1 0).num)))]) (rest := []) ⟨hx, hb, hml, hown, hts⟩ (mX6_atHand l hD (w := w) (ln := ln) (t := t) (u := u) (a := (fM Wt w gof q ns k1 0).num) (b := (((fM Wt w gof q ns k1 0).den : Int) - (fM Wt w gof q ns k1 0).num)) fg14_n0 ⟨hf1, hf2⟩ ⟨by omega, by omega⟩) (cwV 2 hts gX6_odds_X6_atHand rfl rfl rfl (by decide +kernel) ⟨Nat.le_of_ble_eq_true rfl, Nat.le_of_ble_eq_true rfl⟩) ⟨xB_blind, va_recv hK hP (ci := 6) rfl (xw_is (by decide) fg14_n0), fun U hU hW => ⟨rfl, by rw [hU]; exact hP, va_K.moved hW.alike hK, va_Nw.warmM hW hN⟩⟩ rfl rfl hl.1 rfl (lv_room (Nat.le_of_ble_eq_true rfl)) dX6_odds_63 ⟨Nat.le_of_ble_eq_true rfl, Nat.le_of_ble_eq_true rfl⟩) hS (fun _ _ h => h) (fun _ h => h) (fun g16 tZ H locs ht hvm hwg16 hB hzZ hkZ hS => ?_)
      obtain ⟨hP, -⟩ := hB
      rw [ht] at hP
      obtain ⟨fg16_n0, hcg16⟩ := hwg16
      have fg16_k0 : g16 (67) = .inl (cI, 13, .inl (f7)) := (hcg16 (67) (by decide)).trans fg14_n1
      have fg16_k1 : g16 (68) = .inl (cI, 13, .inl (f8)) := (hcg16 (68) (by decide)).trans fg14_n2
      have fg16_k2 : g16 (69) = .inl (cI, 52, .inl (f9)) := (hcg16 (69) (by decide)).trans fg14_n3
      have fg16_k3 : g16 (70) = .inl (cI, 6, .inl (f0)) := (hcg16 (70) (by decide)).trans fg14_n4
      have fg16_k4 : g16 (71) = .inl (cJ, 169, .inr (.inl (fA))) := (hcg16 (71) (by decide)).trans fg14_n5
      have fg16_k5 : g16 (72) = .inl (cJ, 169, .inr (.inl (fB))) := (hcg16 (72) (by decide)).trans fg14_n6
      have fg16_k6 : g16 (73) = .inl (cJ, 13, .inr (.inl (fC))) := (hcg16 (73) (by decide)).trans fg14_n7
      have fg16_k7 : g16 (74) = .inl (cJ, 13, .inr (.inl (fD))) := (hcg16 (74) (by decide)).trans fg14_n8
      have fg16_k8 : g16 (63) = .inl (cI, 4, .inl (fw)) := (hcg16 (63) (by decide)).trans fg14_k0
      have fg16_k9 : g16 (64) = .inl (cI, 8, .inl (fsz)) := (hcg16 (64) (by decide)).trans fg14_k1
      have fg16_k10 : g16 (65) = .inl (cI, 40, .inl (fwd)) := (hcg16 (65) (by decide)).trans fg14_k2
      have fg16_k11 : g16 (75) = .inl (cJ, 13, .inr (.inl (fen))) := (hcg16 (75) (by decide)).trans fg14_k3
      have fg16_k12 : g16 (76) = .inl (cJ, 13, .inr (.inl (fed))) := (hcg16 (76) (by decide)).trans fg14_k4
      have hfrg16 : ∀ j : Nat, j ≠ 62 → j ≠ 67 → j ≠ 68 → j ≠ 69 → j ≠ 70 → j ≠ 71 → j ≠ 72 → j ≠ 73 → j ≠ 74 → j ≠ 75 → j ≠ 76 → g16 j = g j := fun j h0 h1 h2 h3 h4 h5 h6 h7 h8 h9 h10 => (hcg16 j h0).trans (hfrg14 j h0 h1 h2 h3 h4 h5 h6 h7 h8 h9 h10)
      refine lv_iconst (v := nI (1)) hx hb dX6_odds_66 (by decide) ?_
      exact W.zret (v := nI (1)) hx hb hr (by decide) (fun tZ ht hW => ⟨⟨_, g16, rfl, (by have hO : oOdds Wt w ln u (nI k1) (nI k2) = some (Rat.divInt ((fM Wt w gof q ns k1 0).num) ((((fM Wt w gof q ns k1 0).den : Int) - (fM Wt w gof q ns k1 0).num))) := (by unfold oOdds; rw [slotW_yes hk1 hp1, slotW_yes hk2 hp2, hG4]; exact if_neg hnl); show _ = (if (oOdds Wt w ln u (nI k1) (nI k2)).isSome then 1 else 0) ∧ _; rw [hO]; exact ⟨rfl, ⟨_, _, _, _, _, _, _, _, _, _, _, _, _, _, _, _, _, _, _, _, _, fg16_n0, fg16_k8, fg16_k9, fg16_k10, ((hfrg16) 66 (by decide) (by decide) (by decide) (by decide) (by decide) (by decide) (by decide) (by decide) (by decide) (by decide) (by decide)).trans fa66, fg16_k0, fg16_k1, fg16_k2, fg16_k3, fg16_k4, fg16_k5, fg16_k6, fg16_k7, fg16_k11, fg16_k12, ((hfrg16) 77 (by decide) (by decide) (by decide) (by decide) (by decide) (by decide) (by decide) (by decide) (by decide) (by decide) (by decide)).trans fa77, ((hfrg16) 78 (by decide) (by decide) (by decide) (by decide) (by decide) (by decide) (by decide) (by decide) (by decide) (by decide) (by decide)).trans fa78, ((hfrg16) 79 (by decide) (by decide) (by decide) (by decide) (by decide) (by decide) (by decide) (by decide) (by decide) (by decide) (by decide)).trans fa79, ((hfrg16) 80 (by decide) (by decide) (by decide) (by decide) (by decide) (by decide) (by decide) (by decide) (by decide) (by decide) (by decide)).trans fa80, hfw, hsz, hwl, htx⟩, fun j hj => (hfrg16) j (by omega) (by omega) (by omega) (by omega) (by omega) (by omega) (by omega) (by omega) (by omega) (by omega) (by omega)⟩), by rw [ht]; exact hP, va_K.moved hW.alike hK, va_Nw.warmM hW hN⟩, hS.F ht⟩) hS.2.2 dX6_odds_67
    · refine xi_if_ne (tgt := 37) hx hb (by decide) dX6_odds_32 (by decide) (fun c0 => absurd c0 (by decide)) (fun _ => ?_)
      refine lv_iconst (v := nI (0)) hx hb dX6_odds_35 (by decide) ?_
      exact W.zret (v := nI (0)) hx hb hr (by decide) (fun tZ ht hW => ⟨⟨_, g, rfl, (by have hO : oOdds Wt w ln u (nI k1) (nI k2) = none := (by unfold oOdds; rw [slotW_yes hk1 hp1, slotW_yes hk2 hp2]; exact if_pos (Classical.not_not.mp (fun h => hil ((ls_two hk1 hk2 hne hp1 hp2).mpr h)))); show _ = (if (oOdds Wt w ln u (nI k1) (nI k2)).isSome then 1 else 0) ∧ _; rw [hO]; exact ⟨rfl, hM, fun _ _ => rfl⟩), by rw [ht]; exact hP, va_K.moved hW.alike hK, va_Nw.warmM hW hN⟩, hS.F ht⟩) hS.2.2 dX6_odds_36

set_option maxHeartbeats 4000000 in
set_option maxRecDepth 100000 in
theorem mX6_odds_sn (l : Launch) {D : va_G} {cI cJ cZ cW : ClassId} {ad : Nat → Nat} {A : Nat → Prop} (hD : ∀ g, va_D A (xw 81 ad g)) {g : Nat → va_E} {q Wt : Nat} {w : Nat → Nat} {ln : Nat → Nat} {u : Nat → Nat → Nat} {T : Nat} {t : Nat → Nat} {tp bt : Int64} {k1 : Nat} {xb : Int32}  (hM : ModI cI cJ ad g q Wt w ln u T t tp bt) (hs : SrcI q Wt w ln u T t) (hk1 : k1 < 8) (hp1 : 0 < ln k1) (hxb : noW ln xb) (hOd : odOK q Wt w ln u) : Met l yX6_odds wsX6_odds ({ frames := 6, cells := 0, slots := 0, locals := 166 }) (va_Pc [.ref (ad (62)), .int (nI (k1)), .int (xb)] (xB D (xT cI cJ cZ cW) ad g)) (va_Qi (fun r g2 => r = (if (oOdds Wt w ln u (nI (k1)) (xb)).isSome then 1 else 0) ∧ ModI cI cJ ad g2 q Wt w ln u T t (hTp (oOdds Wt w ln u (nI (k1)) (xb)) tp) (hBt (oOdds Wt w ln u (nI (k1)) (xb)) bt) ∧ ∀ j : Nat, j < 62 → g2 j = g j) (xB D (xT cI cJ cZ cW) ad) A) 0 0 A := by
  refine Met.ofW (cc := cX6_odds) (maxL := 3) (ret := (some .boolean)) (by decide) rfl ?_
  intro p e s m args below meth c s₁ B hml hv
  obtain ⟨rfl, hP, hK, hN⟩ := hv
  have hx := B.exec
  have hb := B.bytes
  have hr := B.returns
  have hts := atoms_spec (ws := wsX6_odds) B.pre
  have hown : s.vm.findClass RX6 = some m.cls := findClass_of_methodNamed B.named
  have hlocks := B.notSynchronized
  have hS : va_S A s.heap s.heap [] := va_S.rf
  have hl := lv_entry ([.ref (ad (62)), .int (nI (k1)), .int (xb)]) (n := 3) (Nat.le_of_ble_eq_true rfl)
  rw [lg_entry_eq]
  generalize (lg_sl ([.ref (ad (62)), .int (nI (k1)), .int (xb)]) ++ List.replicate (3 - (lg_sl ([.ref (ad (62)), .int (nI (k1)), .int (xb)])).length) Slot.unset).toArray = ls at hl ⊢
  have hl : lv_has ls 3 [(0, .ref (ad (62))), (1, .int (nI (k1))), (2, .int (xb))] := hl
  obtain ⟨hq2, hq4, hw1, hw0, hWs, hWt, hw, hln, hul, hT, ht⟩ := hs
  obtain ⟨sq, nu, de, fw, fsz, fwd, ftx, fos, foz, fgo, frw, fan, fad, frn, frd, fen, fed, fcn, fcd, fnw, fth, fo62, fa63, fa64, fa65, fa66, fa67, fa68, fa69, fa70, fa71, fa72, fa73, fa74, fa75, fa76, fa77, fa78, fa79, fa80, hfw, hsz, hwl, htx⟩ := id hM
  have hWp : 1 ≤ Wt ∧ Wt ≤ 4 := by have h8 := hw1 0 (by omega); have h9 := wsum_mono (w := w) (show 1 ≤ q by omega); have h7 : wsum w 1 = 0 + w 0 := rfl; omega
  have hwA : ∀ k j, j < ln k → 1 ≤ w (u k j) := fun k j hj => hw1 _ (hul k j hj)
  have hwB : ∀ k j, j < ln k → w (u k j) ≤ 4 := fun k j hj => hw _ (Nat.lt_of_lt_of_le (hul k j hj) hq4)
  have hn1 := hln k1
  refine lv_aload_n hx hb dX6_odds_0 rfl (lv_at hl 0 rfl) ?_
  refine lv_iload_n hx hb dX6_odds_1 rfl (lv_at hl 1 rfl) ?_
  refine vp_callSi (va_Run.run (va_runV (As := [.int (nI (k1))]) (rest := []) ⟨hx, hb, hml, hown, hts⟩ (mX6_isWord_yes l (w := w) (ln := ln) (t := t) (u := u) fo62 fa64 hsz hk1 hp1 (hln _)) (cwV 1 hts gX6_odds_X6_isWord rfl rfl rfl (by decide +kernel) ⟨Nat.le_of_ble_eq_true rfl, Nat.le_of_ble_eq_true rfl⟩) ⟨xB_blind, va_recv hK hP (ci := 6) rfl (xw_is (by decide) fo62), fun U hU hW => ⟨rfl, by rw [hU]; exact hP, va_K.moved hW.alike hK, va_Nw.warmM hW hN⟩⟩ rfl rfl hl.1 rfl (lv_room (Nat.le_of_ble_eq_true rfl)) dX6_odds_2 ⟨Nat.le_of_ble_eq_true rfl, Nat.le_of_ble_eq_true rfl⟩)) (fun r1 er1 => ?_)
  subst er1
  refine xi_if_eq (tgt := 35) hx hb (by decide) dX6_odds_5 (by decide) (fun c0 => absurd c0 (by decide)) (fun _ => ?_)
  refine lv_aload_n hx hb dX6_odds_8 rfl (lv_at hl 0 rfl) ?_
  refine lv_iload_n hx hb dX6_odds_9 rfl (lv_at hl 2 rfl) ?_
  refine vp_callSi (va_Run.run (va_runV (As := [.int (xb)]) (rest := []) ⟨hx, hb, hml, hown, hts⟩ (mX6_isWord_no l (w := w) (ln := ln) (t := t) (u := u) fo62 fa64 hsz hxb) (cwV 1 hts gX6_odds_X6_isWord rfl rfl rfl (by decide +kernel) ⟨Nat.le_of_ble_eq_true rfl, Nat.le_of_ble_eq_true rfl⟩) ⟨xB_blind, va_recv hK hP (ci := 6) rfl (xw_is (by decide) fo62), fun U hU hW => ⟨rfl, by rw [hU]; exact hP, va_K.moved hW.alike hK, va_Nw.warmM hW hN⟩⟩ rfl rfl hl.1 rfl (lv_room (Nat.le_of_ble_eq_true rfl)) dX6_odds_10 ⟨Nat.le_of_ble_eq_true rfl, Nat.le_of_ble_eq_true rfl⟩)) (fun r3 er3 => ?_)
  subst er3
  refine xi_if_eq (tgt := 35) hx hb (by decide) dX6_odds_13 (by decide) (fun _ => ?_) (fun c0 => absurd c0 (by decide))
  refine lv_iconst (v := nI (0)) hx hb dX6_odds_35 (by decide) ?_
  exact W.zret (v := nI (0)) hx hb hr (by decide) (fun tZ ht hW => ⟨⟨_, g, rfl, (by have hO : oOdds Wt w ln u (nI k1) xb = none := (by exact slotW_2n hxb); show _ = (if (oOdds Wt w ln u (nI k1) xb).isSome then 1 else 0) ∧ _; rw [hO]; exact ⟨rfl, hM, fun _ _ => rfl⟩), by rw [ht]; exact hP, va_K.moved hW.alike hK, va_Nw.warmM hW hN⟩, hS.F ht⟩) hS.2.2 dX6_odds_36

set_option maxHeartbeats 4000000 in
set_option maxRecDepth 100000 in
theorem mX6_odds_ns (l : Launch) {D : va_G} {cI cJ cZ cW : ClassId} {ad : Nat → Nat} {A : Nat → Prop} (hD : ∀ g, va_D A (xw 81 ad g)) {g : Nat → va_E} {q Wt : Nat} {w : Nat → Nat} {ln : Nat → Nat} {u : Nat → Nat → Nat} {T : Nat} {t : Nat → Nat} {tp bt : Int64} {xa : Int32} {k2 : Nat}  (hM : ModI cI cJ ad g q Wt w ln u T t tp bt) (hs : SrcI q Wt w ln u T t) (hxa : noW ln xa) (hk2 : k2 < 8) (hp2 : 0 < ln k2) (hOd : odOK q Wt w ln u) : Met l yX6_odds wsX6_odds ({ frames := 6, cells := 0, slots := 0, locals := 166 }) (va_Pc [.ref (ad (62)), .int (xa), .int (nI (k2))] (xB D (xT cI cJ cZ cW) ad g)) (va_Qi (fun r g2 => r = (if (oOdds Wt w ln u (xa) (nI (k2))).isSome then 1 else 0) ∧ ModI cI cJ ad g2 q Wt w ln u T t (hTp (oOdds Wt w ln u (xa) (nI (k2))) tp) (hBt (oOdds Wt w ln u (xa) (nI (k2))) bt) ∧ ∀ j : Nat, j < 62 → g2 j = g j) (xB D (xT cI cJ cZ cW) ad) A) 0 0 A := by
  refine Met.ofW (cc := cX6_odds) (maxL := 3) (ret := (some .boolean)) (by decide) rfl ?_
  intro p e s m args below meth c s₁ B hml hv
  obtain ⟨rfl, hP, hK, hN⟩ := hv
  have hx := B.exec
  have hb := B.bytes
  have hr := B.returns
  have hts := atoms_spec (ws := wsX6_odds) B.pre
  have hown : s.vm.findClass RX6 = some m.cls := findClass_of_methodNamed B.named
  have hlocks := B.notSynchronized
  have hS : va_S A s.heap s.heap [] := va_S.rf
  have hl := lv_entry ([.ref (ad (62)), .int (xa), .int (nI (k2))]) (n := 3) (Nat.le_of_ble_eq_true rfl)
  rw [lg_entry_eq]
  generalize (lg_sl ([.ref (ad (62)), .int (xa), .int (nI (k2))]) ++ List.replicate (3 - (lg_sl ([.ref (ad (62)), .int (xa), .int (nI (k2))])).length) Slot.unset).toArray = ls at hl ⊢
  have hl : lv_has ls 3 [(0, .ref (ad (62))), (1, .int (xa)), (2, .int (nI (k2)))] := hl
  obtain ⟨hq2, hq4, hw1, hw0, hWs, hWt, hw, hln, hul, hT, ht⟩ := hs
  obtain ⟨sq, nu, de, fw, fsz, fwd, ftx, fos, foz, fgo, frw, fan, fad, frn, frd, fen, fed, fcn, fcd, fnw, fth, fo62, fa63, fa64, fa65, fa66, fa67, fa68, fa69, fa70, fa71, fa72, fa73, fa74, fa75, fa76, fa77, fa78, fa79, fa80, hfw, hsz, hwl, htx⟩ := id hM
  have hWp : 1 ≤ Wt ∧ Wt ≤ 4 := by have h8 := hw1 0 (by omega); have h9 := wsum_mono (w := w) (show 1 ≤ q by omega); have h7 : wsum w 1 = 0 + w 0 := rfl; omega
  have hwA : ∀ k j, j < ln k → 1 ≤ w (u k j) := fun k j hj => hw1 _ (hul k j hj)
  have hwB : ∀ k j, j < ln k → w (u k j) ≤ 4 := fun k j hj => hw _ (Nat.lt_of_lt_of_le (hul k j hj) hq4)
  have hn2 := hln k2
  refine lv_aload_n hx hb dX6_odds_0 rfl (lv_at hl 0 rfl) ?_
  refine lv_iload_n hx hb dX6_odds_1 rfl (lv_at hl 1 rfl) ?_
  refine vp_callSi (va_Run.run (va_runV (As := [.int (xa)]) (rest := []) ⟨hx, hb, hml, hown, hts⟩ (mX6_isWord_no l (w := w) (ln := ln) (t := t) (u := u) fo62 fa64 hsz hxa) (cwV 1 hts gX6_odds_X6_isWord rfl rfl rfl (by decide +kernel) ⟨Nat.le_of_ble_eq_true rfl, Nat.le_of_ble_eq_true rfl⟩) ⟨xB_blind, va_recv hK hP (ci := 6) rfl (xw_is (by decide) fo62), fun U hU hW => ⟨rfl, by rw [hU]; exact hP, va_K.moved hW.alike hK, va_Nw.warmM hW hN⟩⟩ rfl rfl hl.1 rfl (lv_room (Nat.le_of_ble_eq_true rfl)) dX6_odds_2 ⟨Nat.le_of_ble_eq_true rfl, Nat.le_of_ble_eq_true rfl⟩)) (fun r1 er1 => ?_)
  subst er1
  refine xi_if_eq (tgt := 35) hx hb (by decide) dX6_odds_5 (by decide) (fun _ => ?_) (fun c0 => absurd c0 (by decide))
  refine lv_iconst (v := nI (0)) hx hb dX6_odds_35 (by decide) ?_
  exact W.zret (v := nI (0)) hx hb hr (by decide) (fun tZ ht hW => ⟨⟨_, g, rfl, (by have hO : oOdds Wt w ln u xa (nI k2) = none := (by unfold oOdds; rw [slotW_no hxa]); show _ = (if (oOdds Wt w ln u xa (nI k2)).isSome then 1 else 0) ∧ _; rw [hO]; exact ⟨rfl, hM, fun _ _ => rfl⟩), by rw [ht]; exact hP, va_K.moved hW.alike hK, va_Nw.warmM hW hN⟩, hS.F ht⟩) hS.2.2 dX6_odds_36

set_option maxHeartbeats 4000000 in
set_option maxRecDepth 100000 in
theorem mX6_odds_nn (l : Launch) {D : va_G} {cI cJ cZ cW : ClassId} {ad : Nat → Nat} {A : Nat → Prop} (hD : ∀ g, va_D A (xw 81 ad g)) {g : Nat → va_E} {q Wt : Nat} {w : Nat → Nat} {ln : Nat → Nat} {u : Nat → Nat → Nat} {T : Nat} {t : Nat → Nat} {tp bt : Int64} {xa : Int32} {xb : Int32}  (hM : ModI cI cJ ad g q Wt w ln u T t tp bt) (hs : SrcI q Wt w ln u T t) (hxa : noW ln xa) (hxb : noW ln xb) (hOd : odOK q Wt w ln u) : Met l yX6_odds wsX6_odds ({ frames := 6, cells := 0, slots := 0, locals := 166 }) (va_Pc [.ref (ad (62)), .int (xa), .int (xb)] (xB D (xT cI cJ cZ cW) ad g)) (va_Qi (fun r g2 => r = (if (oOdds Wt w ln u (xa) (xb)).isSome then 1 else 0) ∧ ModI cI cJ ad g2 q Wt w ln u T t (hTp (oOdds Wt w ln u (xa) (xb)) tp) (hBt (oOdds Wt w ln u (xa) (xb)) bt) ∧ ∀ j : Nat, j < 62 → g2 j = g j) (xB D (xT cI cJ cZ cW) ad) A) 0 0 A := by
  refine Met.ofW (cc := cX6_odds) (maxL := 3) (ret := (some .boolean)) (by decide) rfl ?_
  intro p e s m args below meth c s₁ B hml hv
  obtain ⟨rfl, hP, hK, hN⟩ := hv
  have hx := B.exec
  have hb := B.bytes
  have hr := B.returns
  have hts := atoms_spec (ws := wsX6_odds) B.pre
  have hown : s.vm.findClass RX6 = some m.cls := findClass_of_methodNamed B.named
  have hlocks := B.notSynchronized
  have hS : va_S A s.heap s.heap [] := va_S.rf
  have hl := lv_entry ([.ref (ad (62)), .int (xa), .int (xb)]) (n := 3) (Nat.le_of_ble_eq_true rfl)
  rw [lg_entry_eq]
  generalize (lg_sl ([.ref (ad (62)), .int (xa), .int (xb)]) ++ List.replicate (3 - (lg_sl ([.ref (ad (62)), .int (xa), .int (xb)])).length) Slot.unset).toArray = ls at hl ⊢
  have hl : lv_has ls 3 [(0, .ref (ad (62))), (1, .int (xa)), (2, .int (xb))] := hl
  obtain ⟨hq2, hq4, hw1, hw0, hWs, hWt, hw, hln, hul, hT, ht⟩ := hs
  obtain ⟨sq, nu, de, fw, fsz, fwd, ftx, fos, foz, fgo, frw, fan, fad, frn, frd, fen, fed, fcn, fcd, fnw, fth, fo62, fa63, fa64, fa65, fa66, fa67, fa68, fa69, fa70, fa71, fa72, fa73, fa74, fa75, fa76, fa77, fa78, fa79, fa80, hfw, hsz, hwl, htx⟩ := id hM
  have hWp : 1 ≤ Wt ∧ Wt ≤ 4 := by have h8 := hw1 0 (by omega); have h9 := wsum_mono (w := w) (show 1 ≤ q by omega); have h7 : wsum w 1 = 0 + w 0 := rfl; omega
  have hwA : ∀ k j, j < ln k → 1 ≤ w (u k j) := fun k j hj => hw1 _ (hul k j hj)
  have hwB : ∀ k j, j < ln k → w (u k j) ≤ 4 := fun k j hj => hw _ (Nat.lt_of_lt_of_le (hul k j hj) hq4)
  refine lv_aload_n hx hb dX6_odds_0 rfl (lv_at hl 0 rfl) ?_
  refine lv_iload_n hx hb dX6_odds_1 rfl (lv_at hl 1 rfl) ?_
  refine vp_callSi (va_Run.run (va_runV (As := [.int (xa)]) (rest := []) ⟨hx, hb, hml, hown, hts⟩ (mX6_isWord_no l (w := w) (ln := ln) (t := t) (u := u) fo62 fa64 hsz hxa) (cwV 1 hts gX6_odds_X6_isWord rfl rfl rfl (by decide +kernel) ⟨Nat.le_of_ble_eq_true rfl, Nat.le_of_ble_eq_true rfl⟩) ⟨xB_blind, va_recv hK hP (ci := 6) rfl (xw_is (by decide) fo62), fun U hU hW => ⟨rfl, by rw [hU]; exact hP, va_K.moved hW.alike hK, va_Nw.warmM hW hN⟩⟩ rfl rfl hl.1 rfl (lv_room (Nat.le_of_ble_eq_true rfl)) dX6_odds_2 ⟨Nat.le_of_ble_eq_true rfl, Nat.le_of_ble_eq_true rfl⟩)) (fun r1 er1 => ?_)
  subst er1
  refine xi_if_eq (tgt := 35) hx hb (by decide) dX6_odds_5 (by decide) (fun _ => ?_) (fun c0 => absurd c0 (by decide))
  refine lv_iconst (v := nI (0)) hx hb dX6_odds_35 (by decide) ?_
  exact W.zret (v := nI (0)) hx hb hr (by decide) (fun tZ ht hW => ⟨⟨_, g, rfl, (by have hO : oOdds Wt w ln u xa xb = none := (by exact slotW_2n hxb); show _ = (if (oOdds Wt w ln u xa xb).isSome then 1 else 0) ∧ _; rw [hO]; exact ⟨rfl, hM, fun _ _ => rfl⟩), by rw [ht]; exact hP, va_K.moved hW.alike hK, va_Nw.warmM hW hN⟩, hS.F ht⟩) hS.2.2 dX6_odds_36

theorem mX6_odds (l : Launch) {D : va_G} {cI cJ cZ cW : ClassId} {ad : Nat → Nat} {A : Nat → Prop} (hD : ∀ g, va_D A (xw 81 ad g)) {g : Nat → va_E} {q Wt : Nat} {w : Nat → Nat} {ln : Nat → Nat} {u : Nat → Nat → Nat} {T : Nat} {t : Nat → Nat} {tp bt : Int64} (hM : ModI cI cJ ad g q Wt w ln u T t tp bt) (hs : SrcI q Wt w ln u T t) (hOd : odOK q Wt w ln u) (xa xb : Int32) : Met l yX6_odds wsX6_odds ({ frames := 6, cells := 0, slots := 0, locals := 166 }) (va_Pc [.ref (ad (62)), .int xa, .int xb] (xB D (xT cI cJ cZ cW) ad g)) (va_Qi (fun r g2 => r = (if (oOdds Wt w ln u (xa) (xb)).isSome then 1 else 0) ∧ ModI cI cJ ad g2 q Wt w ln u T t (hTp (oOdds Wt w ln u (xa) (xb)) tp) (hBt (oOdds Wt w ln u (xa) (xb)) bt) ∧ ∀ j : Nat, j < 62 → g2 j = g j) (xB D (xT cI cJ cZ cW) ad) A) 0 0 A := by
  rcases slotW_cases ln xa with hxa | ⟨k1, hk1, rfl, hp1⟩
  · rcases slotW_cases ln xb with hxb | ⟨k2, hk2, rfl, hp2⟩
    · exact mX6_odds_nn l hD hM hs hxa hxb hOd
    · exact mX6_odds_ns l hD hM hs hxa hk2 hp2 hOd
  · rcases slotW_cases ln xb with hxb | ⟨k2, hk2, rfl, hp2⟩
    · exact mX6_odds_sn l hD hM hs hk1 hp1 hxb hOd
    · exact mX6_odds_ss l hD hM hs hk1 hp1 hk2 hp2 hOd
