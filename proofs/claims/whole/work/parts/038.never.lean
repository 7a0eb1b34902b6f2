/-- the bits 0 .. 7 of a set -/
def set8 (x : Int32) : Nat := (x &&& 255).toNatClampNeg
theorem set8_eq (x : Int32) : x &&& 255 = nI (set8 x) ∧ set8 x < 256 := by
  obtain ⟨j, hj, e⟩ := pk_andE x (m := 255) 8 (by decide)
  unfold set8
  rw [e, nI_clamp (by omega)]
  exact ⟨rfl, hj⟩
theorem set8_bit (x : Int32) {s : Nat} (hs : s < 8) : (x >>> (nI s &&& 31)) &&& nI 1 = nI (set8 x / 2 ^ s % 2) := by
  have h1 : (x >>> (nI s &&& 31)) &&& nI 1 = ((x &&& 255) >>> (nI s &&& 31)) &&& nI 1 := by
    apply Int32.toBitVec_inj.1
    rw [Int32.toBitVec_and, Int32.toBitVec_and]
    show (x.toBitVec.sshiftRight ((nI s &&& 31).toBitVec.smod 32).toNat) &&& _ = ((x &&& 255).toBitVec.sshiftRight ((nI s &&& 31).toBitVec.smod 32).toNat) &&& _
    rw [nI_sl s (by omega), Int32.toBitVec_and]
    apply BitVec.eq_of_getLsbD_eq
    intro i hi
    have h5 : (nI 1).toBitVec.getLsbD i = decide (i = 0) := by
      have h7 : ∀ i, i < 32 → (nI 1).toBitVec.getLsbD i = decide (i = 0) := by decide +kernel
      exact h7 i hi
    have h6 : ∀ j, j < 8 → (255 : Int32).toBitVec.getLsbD j = true := by decide +kernel
    rw [BitVec.getLsbD_and, BitVec.getLsbD_and, h5, BitVec.getLsbD_sshiftRight, BitVec.getLsbD_sshiftRight]
    by_cases h0 : i = 0
    · subst h0
      have h8 : ¬ 32 ≤ 0 := by decide
      have h9 : s + 0 < 32 := by omega
      have h10 : (255#32).getLsbD s = true := h6 s hs
      rw [BitVec.getLsbD_eq_getElem (by omega)] at h10
      simp [BitVec.getLsbD_and, h9, h10, show s < 32 by omega]
    · simp [h0]
  obtain ⟨e, h8⟩ := set8_eq x
  rw [h1, e, nI_shr (by omega) (by omega), and1]
/-- the machine after the words of the SLOTS below s of a set: next, states, hit -/
def lrA (ln : Nat → Nat) (u : Nat → Nat → Nat) (B : Nat) : Nat → (Nat → Nat) × Nat × (Nat → Nat)
  | 0 => (fun _ => 0, 1, fun _ => 0)
  | s + 1 => if 0 < ln s ∧ B / 2 ^ s % 2 = 1 then ((lrn (u s) (lrA ln u B s).1 (lrA ln u B s).2.1 (ln s)).1, (lrn (u s) (lrA ln u B s).1 (lrA ln u B s).2.1 (ln s)).2.1, va_up (lrA ln u B s).2.2 (lrn (u s) (lrA ln u B s).1 (lrA ln u B s).2.1 (ln s)).2.2 1) else lrA ln u B s
theorem lrA_y {ln : Nat → Nat} {u : Nat → Nat → Nat} {B s : Nat} (h : 0 < ln s) (h2 : B / 2 ^ s % 2 = 1) : lrA ln u B (s + 1) = ((lrn (u s) (lrA ln u B s).1 (lrA ln u B s).2.1 (ln s)).1, (lrn (u s) (lrA ln u B s).1 (lrA ln u B s).2.1 (ln s)).2.1, va_up (lrA ln u B s).2.2 (lrn (u s) (lrA ln u B s).1 (lrA ln u B s).2.1 (ln s)).2.2 1) := by
  show (if _ then _ else _) = _
  rw [if_pos ⟨h, h2⟩]
theorem lrA_n {ln : Nat → Nat} {u : Nat → Nat → Nat} {B s : Nat} (h : ¬ (0 < ln s ∧ B / 2 ^ s % 2 = 1)) : lrA ln u B (s + 1) = lrA ln u B s := by
  show (if _ then _ else _) = _
  rw [if_neg h]
theorem lrA_B {ln : Nat → Nat} {u : Nat → Nat → Nat} {B : Nat} (hln : ∀ k, ln k ≤ 5) : ∀ s, 1 ≤ (lrA ln u B s).2.1 ∧ (lrA ln u B s).2.1 ≤ 1 + 5 * s ∧ (∀ e, (lrA ln u B s).1 e < (lrA ln u B s).2.1) ∧ ∀ e, (lrA ln u B s).2.2 e ≤ 1
  | 0 => ⟨Nat.le_refl 1, Nat.le_refl 1, fun _ => Nat.zero_lt_one, fun _ => Nat.zero_le 1⟩
  | s + 1 => by
    obtain ⟨a, b, c, d⟩ := lrA_B hln (u := u) (B := B) s
    by_cases h : 0 < ln s ∧ B / 2 ^ s % 2 = 1
    · rw [lrA_y h.1 h.2]
      obtain ⟨a1, a2, a3, a4⟩ := lrn_B (u := u s) a c (ln s)
      have := hln s
      refine ⟨by show 1 ≤ (lrn _ _ _ _).2.1; omega, by show (lrn _ _ _ _).2.1 ≤ _; omega, a4, fun e => ?_⟩
      show va_up _ _ 1 e ≤ 1
      by_cases he : e = (lrn (u s) (lrA ln u B s).1 (lrA ln u B s).2.1 (ln s)).2.2
      · rw [he, va_up_self]; exact Nat.le_refl 1
      · rw [va_up_ne _ _ he]; exact d e
    · rw [lrA_n h]
      exact ⟨a, by omega, c, d⟩
def lkA (ln : Nat → Nat) (u : Nat → Nat → Nat) (B : Nat) : LkS := ((lrA ln u B 8).1, fun _ => 0, fun _ => 0, (lrA ln u B 8).2.2, 1)
theorem lkA_B {ln : Nat → Nat} {u : Nat → Nat → Nat} {B : Nat} (hln : ∀ k, ln k ≤ 5) : lkB (lrA ln u B 8).2.1 (lkA ln u B) := by
  obtain ⟨a, b, c, d⟩ := lrA_B hln (u := u) (B := B) 8
  exact ⟨c, fun _ => by show 0 < _; omega, fun _ => by show 0 < _; omega, d, by show 1 ≤ 41; decide⟩
/-- how much the texts of N letters weigh in which no word of the set stands, as the machine counts them -/
def nvW (q : Nat) (w : Nat → Nat) (ln : Nat → Nat) (u : Nat → Nat → Nat) (B N : Nat) : Int := sgm (wgh q w (lkF q (lkA ln u B)).1 (lkF q (lkA ln u B)).2.2.2.1 (lrA ln u B 8).2.1 0 N) (0 * (lrA ln u B 8).2.1) ((0 + 1) * (lrA ln u B 8).2.1 - 0 * (lrA ln u B 8).2.1)
set_option maxHeartbeats 4000000 in
set_option maxRecDepth 100000 in
/-- never -/
theorem mX5_never_in (l : Launch) {D : va_G} {cI cJ cZ cW : ClassId} {ad : Nat → Nat} {A : Nat → Prop} (hD : ∀ g, va_D A (xw 81 ad g)) {g : Nat → va_E} {q Wt : Nat} {w : Nat → Nat} {ln : Nat → Nat} {u : Nat → Nat → Nat} {T : Nat} {t : Nat → Nat} {tp bt : Int64} {n0 : Nat} {xs : Int32}  (hC : ClsI cI cJ cZ cW ad g q Wt w ln u T t tp bt) (hs : SrcI q Wt w ln u T t) (hn0 : n0 ≤ 30) : Met l yX5_never wsX5_never ({ frames := 3, cells := 0, slots := 0, locals := 83 }) (va_Pc [.ref (ad (0)), .int (xs), .int (nI (n0))] (xB D (xT cI cJ cZ cW) ad g)) (va_Ql (fun r g2 => r = lZ (nvW q w ln u (set8 xs) n0) ∧ ClsI cI cJ cZ cW ad g2 q Wt w ln u T t tp bt ∧ ∀ i : Nat, 62 ≤ i → g2 i = g i) (xB D (xT cI cJ cZ cW) ad) A) 0 0 A := by
  refine Met.ofW (cc := cX5_never) (maxL := 5) (ret := (some .long)) (by decide) rfl ?_
  intro p e s m args below meth c s₁ B hml hv
  obtain ⟨rfl, hP, hK, hN⟩ := hv
  have hx := B.exec
  have hb := B.bytes
  have hr := B.returns
  have hts := atoms_spec (ws := wsX5_never) B.pre
  have hown : s.vm.findClass RX5 = some m.cls := findClass_of_methodNamed B.named
  have hlocks := B.notSynchronized
  have hS : va_S A s.heap s.heap [] := va_S.rf
  have hin5 : ∀ w ∈ wsX50, w ∈ wsX5_never := by decide +kernel
  have hf12 := hts (.fieldLink RX5 12 "LettersByLot" "lot" "LLettersByLot$Lot;") (by decide +kernel)
  have hf37 := hts (.fieldLink RX5 37 "LettersByLot" "machine" "LLettersByLot$Machine;") (by decide +kernel)
  have hl := lv_entry ([.ref (ad (0)), .int (xs), .int (nI (n0))]) (n := 5) (Nat.le_of_ble_eq_true rfl)
  rw [lg_entry_eq]
  generalize (lg_sl ([.ref (ad (0)), .int (xs), .int (nI (n0))]) ++ List.replicate (5 - (lg_sl ([.ref (ad (0)), .int (xs), .int (nI (n0))])).length) Slot.unset).toArray = ls at hl ⊢
  have hl : lv_has ls 5 [(0, .ref (ad (0))), (1, .int (xs)), (2, .int (nI (n0)))] := hl
  obtain ⟨hq2, hq4, hw1, hw0, hWs, hWt, hw, hln, hul, hT, ht⟩ := hs
  obtain ⟨fo_0, ⟨f2, fo_1, fa_2, h2⟩, ⟨f3, fa_3, h3⟩, hRace, hMach, ⟨f16, fo15, fa16, h16⟩, hwd, hcand⟩ := id hC
  have hWp : 1 ≤ Wt ∧ Wt ≤ 4 := by have h8 := hw1 0 (by omega); have h9 := wsum_mono (w := w) (show 1 ≤ q by omega); have h7 : wsum w 1 = 0 + w 0 := rfl; omega
  obtain ⟨f5r, f6r, f7r, szr, fo4, fa5, fa6, fa7⟩ := hRace
  obtain ⟨f9, f10, f11, f12, f13, f14, na, nb, stq, hab, fo8, fa9, fa10, fa11, fa12, fa13, fa14⟩ := id hMach
  have fana : ∃ fx : Nat → Int64, g na = .inl (cJ, 186, .inr (.inl fx)) := by rcases hab with ⟨rfl, rfl⟩ | ⟨rfl, rfl⟩; exact ⟨_, fa13⟩; exact ⟨_, fa14⟩
  have fanb : ∃ fx : Nat → Int64, g nb = .inl (cJ, 186, .inr (.inl fx)) := by rcases hab with ⟨rfl, rfl⟩ | ⟨rfl, rfl⟩; exact ⟨_, fa14⟩; exact ⟨_, fa13⟩
  obtain ⟨fna, fana⟩ := fana
  obtain ⟨fnb, fanb⟩ := fanb
  refine lv_iload_n hx hb dX5_never_0 rfl (lv_at hl 2 rfl) ?_
  refine vp_callSi (va_Run.run (va_runS (As := [.int (nI (n0))]) (rest := []) ⟨hx, hb, hml, hown, hts⟩ (mX5_isCounted_in l hn0) (va_cwS 1 hts gX5_never_X5_isCounted rfl rfl rfl (by decide +kernel) ⟨Nat.le_of_ble_eq_true rfl, Nat.le_of_ble_eq_true rfl⟩) ⟨xB_blind, fun U hU hW => ⟨rfl, by rw [hU]; exact hP, va_K.moved hW.alike hK, va_Nw.warmM hW hN⟩⟩ rfl rfl hl.1 rfl (lv_room (Nat.le_of_ble_eq_true rfl)) dX5_never_1 ⟨Nat.le_of_ble_eq_true rfl, Nat.le_of_ble_eq_true rfl⟩)) (fun r1 er1 => ?_)
  subst er1
  refine xi_if_ne (tgt := 11) hx hb (by decide) dX5_never_4 (by decide) (fun _ => ?_) (fun c0 => absurd c0 (by decide))
  refine lv_aload_n hx hb dX5_never_11 rfl (lv_at hl 0 rfl) ?_
  refine xw_get hx hb hts hin5 hown hK hP (by decide) fo_0 rfl 4 (by decide) hf37 rfl rfl dX5_never_12 ?_
  refine va_callv (va_runV (As := []) (rest := []) ⟨hx, hb, hml, hown, hts⟩ (mX1_clear l hD fo8 fa9 fa10 fa12) (cwV 0 hts gX5_never_X1_clear rfl rfl rfl (by decide +kernel) ⟨Nat.le_of_ble_eq_true rfl, Nat.le_of_ble_eq_true rfl⟩) ⟨xB_blind, va_recv hK hP (ci := 1) rfl (xw_is (by decide) fo8), fun U hU hW => ⟨rfl, by rw [hU]; exact hP, va_K.moved hW.alike hK, va_Nw.warmM hW hN⟩⟩ rfl rfl hl.1 rfl (lv_room (Nat.le_of_ble_eq_true rfl)) dX5_never_15 ⟨Nat.le_of_ble_eq_true rfl, Nat.le_of_ble_eq_true rfl⟩) hS (fun _ _ h => h) (fun _ h => h) (fun g3 tZ H locs ht hvm hwg3 hB hzZ hkZ hS => ?_)
  obtain ⟨hP, -⟩ := hB
  rw [ht] at hP
  obtain ⟨c9, c10, c12, hc9, hc10, hc12, fg3_n0, fg3_n1, fg3_n2, fg3_n3, hcg3⟩ := hwg3
  have fg3_k0 : g3 (0) = .inr (5, [.ref (ad (1)), .ref (ad (3)), .ref (ad (57)), .ref (ad (4)), .ref (ad (8)), .ref (ad (15)), .long (tp), .long (bt)]) := (hcg3 (0) (by decide) (by decide) (by decide) (by decide)).trans fo_0
  have fg3_k1 : g3 (1) = .inr (0, [.ref (ad (2)), .int (nI (q)), .int (nI (Wt))]) := (hcg3 (1) (by decide) (by decide) (by decide) (by decide)).trans fo_1
  have fg3_k2 : g3 (2) = .inl (cI, 4, .inl (f2)) := (hcg3 (2) (by decide) (by decide) (by decide) (by decide)).trans fa_2
  have fg3_k3 : g3 (3) = .inl (cW, 8, .inr (.inr (.inr (.inr (f3))))) := (hcg3 (3) (by decide) (by decide) (by decide) (by decide)).trans fa_3
  have fg3_k4 : g3 (11) = .inl (cI, 41, .inl (f11)) := (hcg3 (11) (by decide) (by decide) (by decide) (by decide)).trans fa11
  have fg3_k5 : g3 (na) = .inl (cJ, 186, .inr (.inl (fna))) := (hcg3 (na) (by omega) (by omega) (by omega) (by omega)).trans fana
  have fg3_k6 : g3 (nb) = .inl (cJ, 186, .inr (.inl (fnb))) := (hcg3 (nb) (by omega) (by omega) (by omega) (by omega)).trans fanb
  have hfrg3 : ∀ j : Nat, j ≠ 8 → j ≠ 9 → j ≠ 10 → j ≠ 11 → j ≠ 12 → j ≠ 13 → j ≠ 14 → g3 j = g j := fun j h0 h1 h2 h3 h4 h5 h6 => (hcg3 j h0 h1 h2 h4).trans ((fun _ _ _ _ _ _ _ _ => rfl) j h0 h1 h2 h3 h4 h5 h6)
  refine lv_iconst (v := nI (0)) hx hb dX5_never_18 (by decide) ?_
  refine lv_istore_n (lv' := [(3, .int (nI (0))), (0, .ref (ad (0))), (1, .int (xs)), (2, .int (nI (n0)))]) hx hb dX5_never_19 rfl hl (by decide) rfl (fun ls hl => ?_)
  refine xloopW (G := fun H locs fr => W p l e _ s m _ below meth c H locs _ _ _ fr) (σ := Nat × (Nat → Int32) × (Nat → Int32)) (fun (s0, e9q, e12q) ls => F0 m 20 ls []) (fun (s0, e9q, e12q) gl20_5 H locs ls => (s0 ≤ 8) ∧ (∀ j, j < 164 → e9q j = nI ((lrA ln u (set8 xs) s0).1 j)) ∧ (∀ j, j < 41 → e12q j = nI ((lrA ln u (set8 xs) s0).2.2 j)) ∧ gl20_5 (0) = .inr (5, [.ref (ad (1)), .ref (ad (3)), .ref (ad (57)), .ref (ad (4)), .ref (ad (8)), .ref (ad (15)), .long (tp), .long (bt)]) ∧ gl20_5 (1) = .inr (0, [.ref (ad (2)), .int (nI (q)), .int (nI (Wt))]) ∧ gl20_5 (2) = .inl (cI, 4, .inl (f2)) ∧ gl20_5 (3) = .inl (cW, 8, .inr (.inr (.inr (.inr (f3))))) ∧ gl20_5 (11) = .inl (cI, 41, .inl (f11)) ∧ gl20_5 (na) = .inl (cJ, 186, .inr (.inl (fna))) ∧ gl20_5 (nb) = .inl (cJ, 186, .inr (.inl (fnb))) ∧ gl20_5 (10) = .inl (cI, 41, .inl (c10)) ∧ gl20_5 (8) = .inr (1, [.ref (ad (9)), .ref (ad (10)), .ref (ad (11)), .ref (ad (12)), .ref (ad (na)), .ref (ad (nb)), .int (nI ((lrA ln u (set8 xs) s0).2.1))]) ∧ gl20_5 (9) = .inl (cI, 164, .inl (e9q)) ∧ gl20_5 (12) = .inl (cZ, 41, .inl (e12q)) ∧ (∀ j : Nat, j ≠ 8 → j ≠ 9 → j ≠ 10 → j ≠ 11 → j ≠ 12 → j ≠ 13 → j ≠ 14 → gl20_5 j = g j) ∧ va_P D vwCl (xw 81 ad gl20_5) H ∧ va_S A s.heap H locs ∧ lv_has ls 5 [(0, .ref (ad (0))), (1, .int (xs)), (2, .int (nI (n0))), (3, .int (nI (s0)))]) (fun (s0, e9q, e12q) => 8 - s0) ?_ (0, c9, c12) g3 H locs ls ⟨(by omega), hc9, hc12, fg3_k0, fg3_k1, fg3_k2, fg3_k3, fg3_k4, fg3_k5, fg3_k6, fg3_n2, fg3_n0, fg3_n1, fg3_n3, hfrg3, hP, hS, (lv_sub hl [1, 2, 3, 0] rfl)⟩
  rintro ⟨s0, e9q, e12q⟩ gl20_5 H locs ls ⟨hs8, hk9, hk12, fo_0, fo_1, fa_2, fa_3, fa11, fana, fanb, fa10, fo8, fa9, fa12, hfrgl20_5, hP, hS, hl⟩ ih20
  refine lv_iload_n hx hb dX5_never_20 rfl (lv_at hl 3 rfl) ?_
  refine lv_bipush (v := nI (8)) hx hb dX5_never_21 (by decide) ?_
  refine xi_icmp_ge (tgt := 62) hx hb (by omega) (by decide) dX5_never_23 (by decide) (fun c23_6 => ?_) (fun c23_6 => ?_)
  · have hse : s0 = 8 := by omega
    subst hse
    obtain ⟨hq1, hq2z, hq3, hq4z⟩ := lrA_B hln (u := u) (B := set8 xs) 8
    have hd9 := hk9
    have hxB := lkA_B (u := u) (B := set8 xs) hln
    refine lv_aload_n hx hb dX5_never_62 rfl (lv_at hl 0 rfl) ?_
    refine xw_get hx hb hts hin5 hown hK hP (by decide) fo_0 rfl 4 (by decide) hf37 rfl rfl dX5_never_63 ?_
    refine lv_aload_n hx hb dX5_never_66 rfl (lv_at hl 0 rfl) ?_
    refine xw_get hx hb hts hin5 hown hK hP (by decide) fo_0 rfl 0 (by decide) hf12 rfl rfl dX5_never_67 ?_
    refine va_callv (va_runV (As := [.ref (ad (1))]) (rest := []) ⟨hx, hb, hml, hown, hts⟩ (mX1_link l hD (x0 := lkA ln u (set8 xs)) fo8 fo_1 fa9 fa10 fa11 fa12 hq4 hxB (by omega) rfl rfl hd9 hc10 hk12) (cwV 1 hts gX5_never_X1_link rfl rfl rfl (by decide +kernel) ⟨Nat.le_of_ble_eq_true rfl, Nat.le_of_ble_eq_true rfl⟩) ⟨xB_blind, va_recv hK hP (ci := 1) rfl (xw_is (by decide) fo8), fun U hU hW => ⟨rfl, by rw [hU]; exact hP, va_K.moved hW.alike hK, va_Nw.warmM hW hN⟩⟩ rfl rfl hl.1 rfl (lv_room (Nat.le_of_ble_eq_true rfl)) dX5_never_70 ⟨Nat.le_of_ble_eq_true rfl, Nat.le_of_ble_eq_true rfl⟩) hS (fun _ _ h => h) (fun _ h => h) (fun g7 tZ H locs ht hvm hwg7 hB hzZ hkZ hS => ?_)
    obtain ⟨hP, -⟩ := hB
    rw [ht] at hP
    obtain ⟨il, hil1, hil2, hil3, e9, e10, e11, e12, he9, he10, he11, he12, fg7_n0, fg7_n1, fg7_n2, fg7_n3, hcg7⟩ := hwg7
    have fg7_k0 : g7 (0) = .inr (5, [.ref (ad (1)), .ref (ad (3)), .ref (ad (57)), .ref (ad (4)), .ref (ad (8)), .ref (ad (15)), .long (tp), .long (bt)]) := (hcg7 (0) (by decide) (by decide) (by decide) (by decide)).trans fo_0
    have fg7_k1 : g7 (1) = .inr (0, [.ref (ad (2)), .int (nI (q)), .int (nI (Wt))]) := (hcg7 (1) (by decide) (by decide) (by decide) (by decide)).trans fo_1
    have fg7_k2 : g7 (2) = .inl (cI, 4, .inl (f2)) := (hcg7 (2) (by decide) (by decide) (by decide) (by decide)).trans fa_2
    have fg7_k3 : g7 (3) = .inl (cW, 8, .inr (.inr (.inr (.inr (f3))))) := (hcg7 (3) (by decide) (by decide) (by decide) (by decide)).trans fa_3
    have fg7_k4 : g7 (na) = .inl (cJ, 186, .inr (.inl (fna))) := (hcg7 (na) (by omega) (by omega) (by omega) (by omega)).trans fana
    have fg7_k5 : g7 (nb) = .inl (cJ, 186, .inr (.inl (fnb))) := (hcg7 (nb) (by omega) (by omega) (by omega) (by omega)).trans fanb
    have fg7_k6 : g7 (8) = .inr (1, [.ref (ad (9)), .ref (ad (10)), .ref (ad (11)), .ref (ad (12)), .ref (ad (na)), .ref (ad (nb)), .int (nI ((lrA ln u (set8 xs) 8).2.1))]) := (hcg7 (8) (by decide) (by decide) (by decide) (by decide)).trans fo8
    have hfrg7 : ∀ j : Nat, j ≠ 8 → j ≠ 9 → j ≠ 10 → j ≠ 11 → j ≠ 12 → j ≠ 13 → j ≠ 14 → g7 j = g j := fun j h0 h1 h2 h3 h4 h5 h6 => (hcg7 j h1 h2 h3 h4).trans (hfrgl20_5 j h0 h1 h2 h3 h4 h5 h6)
    have hlF : lkO q (lkA ln u (set8 xs)) il = lkF q (lkA ln u (set8 xs)) := by unfold lkF; rw [lkI_eq hil1 hil2 hil3]
    rw [hlF] at he9 he10 he11 he12
    obtain ⟨hz1, hz2, hz3, hz4, hz5⟩ := lkF_B (q := q) hxB
    refine lv_aload_n hx hb dX5_never_73 rfl (lv_at hl 0 rfl) ?_
    refine xw_get hx hb hts hin5 hown hK hP (by decide) fg7_k0 rfl 4 (by decide) hf37 rfl rfl dX5_never_74 ?_
    refine lv_aload_n hx hb dX5_never_77 rfl (lv_at hl 0 rfl) ?_
    refine xw_get hx hb hts hin5 hown hK hP (by decide) fg7_k0 rfl 0 (by decide) hf12 rfl rfl dX5_never_78 ?_
    refine lv_iload_n hx hb dX5_never_81 rfl (lv_at hl 2 rfl) ?_
    refine lv_iconst (v := nI (0)) hx hb dX5_never_82 (by decide) ?_
    refine lv_iconst (v := nI (0)) hx hb dX5_never_83 (by decide) ?_
    refine va_calll (va_runV (As := [.ref (ad (1)), .int (nI (n0)), .int (nI (0)), .int (nI (0))]) (rest := []) ⟨hx, hb, hml, hown, hts⟩ (mX1_weigh l hD (nx := (lkF q (lkA ln u (set8 xs))).1) (hv := (lkF q (lkA ln u (set8 xs))).2.2.2.1) (S := (lrA ln u (set8 xs) 8).2.1) (n0 := n0) (a0 := 0) (M1 := 0) fg7_k6 fg7_n0 fg7_n3 fg7_k1 fg7_k2 fg7_k4 fg7_k5 hq4 h2 hw hab (by omega) hz1 he9 hz4 he12 hn0 (by omega) (by omega) (by omega)) (cwV 4 hts gX5_never_X1_weigh rfl rfl rfl (by decide +kernel) ⟨Nat.le_of_ble_eq_true rfl, Nat.le_of_ble_eq_true rfl⟩) ⟨xB_blind, va_recv hK hP (ci := 1) rfl (xw_is (by decide) fg7_k6), fun U hU hW => ⟨rfl, by rw [hU]; exact hP, va_K.moved hW.alike hK, va_Nw.warmM hW hN⟩⟩ rfl rfl hl.1 rfl (lv_room (Nat.le_of_ble_eq_true rfl)) dX5_never_84 ⟨Nat.le_of_ble_eq_true rfl, Nat.le_of_ble_eq_true rfl⟩) hS (fun _ _ h => h) (fun _ h => h) (fun r1 gw tZ H locs ht1 hvm hwb hB hzZ hkZ hS => ?_)
    obtain ⟨hP, -⟩ := hB
    rw [ht1] at hP
    obtain ⟨er1, ⟨ca, cb, fx9, fy9, hcab9, fw8, fwa, fwb⟩, hcw⟩ := hwb
    subst er1
    have hfrgw : ∀ j : Nat, j ≠ 8 → j ≠ 9 → j ≠ 10 → j ≠ 11 → j ≠ 12 → j ≠ 13 → j ≠ 14 → gw j = g j := fun j h0 h1 h2 h3 h4 h5 h6 => (hcw j h0 h5 h6).trans (hfrg7 j h0 h1 h2 h3 h4 h5 h6)
    have fw_9 : gw (9) = .inl (cI, 164, .inl (e9)) := (hcw (9) (by decide) (by decide) (by decide)).trans fg7_n0
    have fw_10 : gw (10) = .inl (cI, 41, .inl (e10)) := (hcw (10) (by decide) (by decide) (by decide)).trans fg7_n1
    have fw_11 : gw (11) = .inl (cI, 41, .inl (e11)) := (hcw (11) (by decide) (by decide) (by decide)).trans fg7_n2
    have fw_12 : gw (12) = .inl (cZ, 41, .inl (e12)) := (hcw (12) (by decide) (by decide) (by decide)).trans fg7_n3
    have fw_1 : gw (1) = .inr (0, [.ref (ad (2)), .int (nI (q)), .int (nI (Wt))]) := (hcw (1) (by decide) (by decide) (by decide)).trans fg7_k1
    have fw_0 : gw (0) = .inr (5, [.ref (ad (1)), .ref (ad (3)), .ref (ad (57)), .ref (ad (4)), .ref (ad (8)), .ref (ad (15)), .long (tp), .long (bt)]) := (hcw (0) (by decide) (by decide) (by decide)).trans fg7_k0
    exact W.lret (v := lZ (nvW q w ln u (set8 xs) n0)) hx hb hr (fun tZ ht hW => ⟨⟨_, gw, rfl, ⟨rfl, hC.mach (by rcases hcab9 with ⟨rfl, rfl⟩ | ⟨rfl, rfl⟩; exact ⟨_, _, _, _, _, _, 13, 14, _, Or.inl ⟨rfl, rfl⟩, fw8, fw_9, fw_10, fw_11, fw_12, fwa, fwb⟩; exact ⟨_, _, _, _, _, _, 14, 13, _, Or.inr ⟨rfl, rfl⟩, fw8, fw_9, fw_10, fw_11, fw_12, fwb, fwa⟩) (fun j hj => hfrgw j (by omega) (by omega) (by omega) (by omega) (by omega) (by omega) (by omega)), fun j hj => hfrgw j (by omega) (by omega) (by omega) (by omega) (by omega) (by omega) (by omega)⟩, by rw [ht]; exact hP, va_K.moved hW.alike hK, va_Nw.warmM hW hN⟩, hS.F ht⟩) hS.2.2 dX5_never_87
  · refine lv_aload_n hx hb dX5_never_26 rfl (lv_at hl 0 rfl) ?_
    refine lv_iload_n hx hb dX5_never_27 rfl (lv_at hl 3 rfl) ?_
    have hwdL : ∀ k, k < 8 → WordI cI cJ ad gl20_5 q Wt w (17 + 5 * k) (ln k) (u k) := fun k hk => (hwd k hk).to (fun j h1 h2 => hfrgl20_5 j (by omega) (by omega) (by omega) (by omega) (by omega) (by omega) (by omega))
    rcases Nat.eq_zero_or_pos (ln s0) with h0 | h0
    · refine va_csq (va_Run.run (va_runV (As := [.int (nI (s0))]) (rest := []) ⟨hx, hb, hml, hown, hts⟩ (mX5_wordIn_no l fo_0 fa_3 h3 hwdL (Or.inr (Or.inr ⟨s0, by omega, rfl, h0⟩))) (cwV 1 hts gX5_never_X5_wordIn rfl rfl rfl (by decide +kernel) ⟨Nat.le_of_ble_eq_true rfl, Nat.le_of_ble_eq_true rfl⟩) ⟨xB_blind, va_recv hK hP (ci := 5) rfl (xw_is (by decide) fo_0), fun U hU hW => ⟨rfl, by rw [hU]; exact hP, va_K.moved hW.alike hK, va_Nw.warmM hW hN⟩⟩ rfl rfl hl.1 rfl (lv_room (Nat.le_of_ble_eq_true rfl)) dX5_never_28 ⟨Nat.le_of_ble_eq_true rfl, Nat.le_of_ble_eq_true rfl⟩)) (fun r9 er9 => ?_)
      subst er9
      refine W.eq (g2 := F0 m 31 ls (.null :: [])) rfl ?_
      have hla : lrA ln u (set8 xs) (s0 + 1) = lrA ln u (set8 xs) s0 := lrA_n (fun h => absurd h.1 (by omega))
      refine lv_astoreN (lv' := [(4, .null), (0, .ref (ad (0))), (1, .int (xs)), (2, .int (nI (n0))), (3, .int (nI (s0)))]) hx hb dX5_never_31 hl (by decide) rfl (fun ls hl => ?_)
      refine lv_aloadN hx hb dX5_never_33 (lv_at hl 0 rfl) ?_
      refine lv_ifnullN (tgt := 56) hx hb dX5_never_35 (by decide) ?_
      refine lv_iinc (v := nI (s0 + 1)) (lv' := [(3, .int (nI (s0 + 1))), (4, .null), (0, .ref (ad (0))), (1, .int (xs)), (2, .int (nI (n0)))]) hx hb dX5_never_56 hl (k := 4) rfl (nI_add (s0) 1) (by decide) rfl (fun ls hl => ?_)
      refine lv_goto (tgt := 20) hx hb dX5_never_59 (by decide) ?_
      exact ih20 (s0 + 1, e9q, e12q) gl20_5 H locs ls ⟨(by omega), (by rw [hla]; exact hk9), (by rw [hla]; exact hk12), fo_0, fo_1, fa_2, fa_3, fa11, fana, fanb, fa10, (by rw [hla]; exact fo8), fa9, fa12, hfrgl20_5, hP, hS, (lv_sub hl [2, 3, 4, 0] rfl)⟩ (by first | omega | (dsimp only; omega))
    · obtain ⟨fl1, fh1, ft1, fs1, fo1, fal1, fah1, fat1, fas1, hfl1, hfh1, hft1, hfs1⟩ := cw_pos hwdL (k := s0) (by omega) rfl rfl rfl rfl rfl h0
      refine va_csq (va_Run.run (va_runV (As := [.int (nI (s0))]) (rest := []) ⟨hx, hb, hml, hown, hts⟩ (mX5_wordIn_yes l fo_0 fa_3 fo1 h3 (by omega) rfl h0 (hln s0)) (cwV 1 hts gX5_never_X5_wordIn rfl rfl rfl (by decide +kernel) ⟨Nat.le_of_ble_eq_true rfl, Nat.le_of_ble_eq_true rfl⟩) ⟨xB_blind, va_recv hK hP (ci := 5) rfl (xw_is (by decide) fo_0), fun U hU hW => ⟨rfl, by rw [hU]; exact hP, va_K.moved hW.alike hK, va_Nw.warmM hW hN⟩⟩ rfl rfl hl.1 rfl (lv_room (Nat.le_of_ble_eq_true rfl)) dX5_never_28 ⟨Nat.le_of_ble_eq_true rfl, Nat.le_of_ble_eq_true rfl⟩)) (fun r10 er10 => ?_)
      subst er10
      refine W.eq (g2 := F0 m 31 ls (.ref (ad (17 + 5 * s0)) :: [])) rfl ?_
      refine lv_astore (lv' := [(4, .ref (ad (17 + 5 * s0))), (0, .ref (ad (0))), (1, .int (xs)), (2, .int (nI (n0))), (3, .int (nI (s0)))]) hx hb dX5_never_31 hl (by decide) rfl (fun ls hl => ?_)
      refine lv_aload hx hb dX5_never_33 (lv_at hl 0 rfl) ?_
      refine lv_ifnull hx hb dX5_never_35 ?_
      refine lv_iload_n hx hb dX5_never_38 rfl (lv_at hl 2 rfl) ?_
      refine lv_iload_n hx hb dX5_never_39 rfl (lv_at hl 4 rfl) ?_
      refine lv_ishr hx hb dX5_never_40 ?_
      refine xtopi (y := xs >>> (nI s0 &&& 31)) rfl ?_
      refine lv_iconst (v := nI (1)) hx hb dX5_never_41 (by decide) ?_
      refine lv_iand hx hb dX5_never_42 ?_
      refine xtopi (y := nI (set8 xs / 2 ^ s0 % 2)) (set8_bit xs (by omega)) ?_
      refine lv_iconst (v := nI (1)) hx hb dX5_never_43 (by decide) ?_
      refine xi_icmp_ne (tgt := 56) hx hb (by omega) (by decide) dX5_never_44 (by decide) (fun c44_13 => ?_) (fun c44_13 => ?_)
      · have hla : lrA ln u (set8 xs) (s0 + 1) = lrA ln u (set8 xs) s0 := lrA_n (fun h => c44_13 h.2)
        refine lv_iinc (v := nI (s0 + 1)) (lv' := [(3, .int (nI (s0 + 1))), (4, .ref (ad (17 + 5 * s0))), (0, .ref (ad (0))), (1, .int (xs)), (2, .int (nI (n0)))]) hx hb dX5_never_56 hl (k := 4) rfl (nI_add (s0) 1) (by decide) rfl (fun ls hl => ?_)
        refine lv_goto (tgt := 20) hx hb dX5_never_59 (by decide) ?_
        exact ih20 (s0 + 1, e9q, e12q) gl20_5 H locs ls ⟨(by omega), (by rw [hla]; exact hk9), (by rw [hla]; exact hk12), fo_0, fo_1, fa_2, fa_3, fa11, fana, fanb, fa10, (by rw [hla]; exact fo8), fa9, fa12, hfrgl20_5, hP, hS, (lv_sub hl [2, 3, 4, 0] rfl)⟩ (by first | omega | (dsimp only; omega))
      · have hla := lrA_y (u := u) h0 c44_13
        refine lv_aload_n hx hb dX5_never_47 rfl (lv_at hl 1 rfl) ?_
        refine xw_get hx hb hts hin5 hown hK hP (by decide) fo_0 rfl 4 (by decide) hf37 rfl rfl dX5_never_48 ?_
        refine lv_aload hx hb dX5_never_51 (lv_at hl 0 rfl) ?_
        obtain ⟨hq1, hq2z, hq3, hq4z⟩ := lrA_B hln (u := u) (B := set8 xs) s0
        have hlns := hln s0
        refine va_callv (va_runV (As := [.ref (ad (17 + 5 * s0))]) (rest := []) ⟨hx, hb, hml, hown, hts⟩ (mX1_learn l hD (q := q) (nx := (lrA ln u (set8 xs) s0).1) (S0 := (lrA ln u (set8 xs) s0).2.1) fo8 fa9 fa12 fo1 fal1 hq4 (by omega) (hln s0) (hul s0) hfl1 (by omega) hq1 (by omega) hq3 hk9) (cwV 1 hts gX5_never_X1_learn rfl rfl rfl (by decide +kernel) ⟨Nat.le_of_ble_eq_true rfl, Nat.le_of_ble_eq_true rfl⟩) ⟨xB_blind, va_recv hK hP (ci := 1) rfl (xw_is (by decide) fo8), fun U hU hW => ⟨rfl, by rw [hU]; exact hP, va_K.moved hW.alike hK, va_Nw.warmM hW hN⟩⟩ rfl rfl hl.1 rfl (lv_room (Nat.le_of_ble_eq_true rfl)) dX5_never_53 ⟨Nat.le_of_ble_eq_true rfl, Nat.le_of_ble_eq_true rfl⟩) hS (fun _ _ h => h) (fun _ h => h) (fun g14 tZ H locs ht hvm hwg14 hB hzZ hkZ hS => ?_)
        obtain ⟨hP, -⟩ := hB
        rw [ht] at hP
        obtain ⟨d9, hd9, fg14_n0, fg14_n1, fg14_n2, hcg14⟩ := hwg14
        have fg14_k0 : g14 (0) = .inr (5, [.ref (ad (1)), .ref (ad (3)), .ref (ad (57)), .ref (ad (4)), .ref (ad (8)), .ref (ad (15)), .long (tp), .long (bt)]) := (hcg14 (0) (by decide) (by decide) (by decide)).trans fo_0
        have fg14_k1 : g14 (1) = .inr (0, [.ref (ad (2)), .int (nI (q)), .int (nI (Wt))]) := (hcg14 (1) (by decide) (by decide) (by decide)).trans fo_1
        have fg14_k2 : g14 (2) = .inl (cI, 4, .inl (f2)) := (hcg14 (2) (by decide) (by decide) (by decide)).trans fa_2
        have fg14_k3 : g14 (3) = .inl (cW, 8, .inr (.inr (.inr (.inr (f3))))) := (hcg14 (3) (by decide) (by decide) (by decide)).trans fa_3
        have fg14_k4 : g14 (11) = .inl (cI, 41, .inl (f11)) := (hcg14 (11) (by decide) (by decide) (by decide)).trans fa11
        have fg14_k5 : g14 (na) = .inl (cJ, 186, .inr (.inl (fna))) := (hcg14 (na) (by omega) (by omega) (by omega)).trans fana
        have fg14_k6 : g14 (nb) = .inl (cJ, 186, .inr (.inl (fnb))) := (hcg14 (nb) (by omega) (by omega) (by omega)).trans fanb
        have fg14_k7 : g14 (10) = .inl (cI, 41, .inl (c10)) := (hcg14 (10) (by decide) (by decide) (by decide)).trans fa10
        have fg14_k8 : g14 (17 + 5 * s0) = .inr (4, [.ref (ad (17 + 5 * s0 + 1)), .ref (ad (17 + 5 * s0 + 2)), .ref (ad (17 + 5 * s0 + 3)), .ref (ad (17 + 5 * s0 + 4)), .int (nI (ln s0)), .int (nI (px q (u s0) (ln s0))), .long (lZ (((ownL Wt w (u s0) (ln s0) : Nat) : Int)))]) := (hcg14 (17 + 5 * s0) (by omega) (by omega) (by omega)).trans fo1
        have hfrg14 : ∀ j : Nat, j ≠ 8 → j ≠ 9 → j ≠ 10 → j ≠ 11 → j ≠ 12 → j ≠ 13 → j ≠ 14 → g14 j = g j := fun j h0 h1 h2 h3 h4 h5 h6 => (hcg14 j h0 h1 h4).trans (hfrgl20_5 j h0 h1 h2 h3 h4 h5 h6)
        refine lv_iinc (v := nI (s0 + 1)) (lv' := [(3, .int (nI (s0 + 1))), (4, .ref (ad (17 + 5 * s0))), (0, .ref (ad (0))), (1, .int (xs)), (2, .int (nI (n0)))]) hx hb dX5_never_56 hl (k := 4) rfl (nI_add (s0) 1) (by decide) rfl (fun ls hl => ?_)
        refine lv_goto (tgt := 20) hx hb dX5_never_59 (by decide) ?_
        exact ih20 (s0 + 1, d9, upd (e12q) ((lrn (u s0) (lrA ln u (set8 xs) s0).1 (lrA ln u (set8 xs) s0).2.1 (ln s0)).2.2) (nI 1)) g14 H locs ls ⟨(by omega), (by rw [hla]; exact hd9), (by rw [hla]; exact upd_nI hk12), fg14_k0, fg14_k1, fg14_k2, fg14_k3, fg14_k4, fg14_k5, fg14_k6, fg14_k7, (by rw [hla]; exact fg14_n0), fg14_n1, fg14_n2, hfrg14, hP, hS, (lv_sub hl [2, 3, 4, 0] rfl)⟩ (by first | omega | (dsimp only; omega))

set_option maxHeartbeats 4000000 in
set_option maxRecDepth 100000 in
/-- never, no such n -/
theorem mX5_never_bad (l : Launch) {D : va_G} {cI cJ cZ cW : ClassId} {ad : Nat → Nat} {A : Nat → Prop} (hD : ∀ g, va_D A (xw 81 ad g)) {g : Nat → va_E} {q Wt : Nat} {w : Nat → Nat} {ln : Nat → Nat} {u : Nat → Nat → Nat} {T : Nat} {t : Nat → Nat} {tp bt : Int64} {xs x0 : Int32}  (hC : ClsI cI cJ cZ cW ad g q Wt w ln u T t tp bt) (hs : SrcI q Wt w ln u T t) (hx0 : x0 < 0 ∨ nI 30 < x0) : Met l yX5_never wsX5_never ({ frames := 3, cells := 0, slots := 0, locals := 83 }) (va_Pc [.ref (ad (0)), .int (xs), .int (x0)] (xB D (xT cI cJ cZ cW) ad g)) (va_Ql (fun r g2 => r = -1 ∧ ClsI cI cJ cZ cW ad g2 q Wt w ln u T t tp bt ∧ ∀ i : Nat, 62 ≤ i → g2 i = g i) (xB D (xT cI cJ cZ cW) ad) A) 0 0 A := by
  refine Met.ofW (cc := cX5_never) (maxL := 5) (ret := (some .long)) (by decide) rfl ?_
  intro p e s m args below meth c s₁ B hml hv
  obtain ⟨rfl, hP, hK, hN⟩ := hv
  have hx := B.exec
  have hb := B.bytes
  have hr := B.returns
  have hts := atoms_spec (ws := wsX5_never) B.pre
  have hown : s.vm.findClass RX5 = some m.cls := findClass_of_methodNamed B.named
  have hlocks := B.notSynchronized
  have hS : va_S A s.heap s.heap [] := va_S.rf
  have hl := lv_entry ([.ref (ad (0)), .int (xs), .int (x0)]) (n := 5) (Nat.le_of_ble_eq_true rfl)
  rw [lg_entry_eq]
  generalize (lg_sl ([.ref (ad (0)), .int (xs), .int (x0)]) ++ List.replicate (5 - (lg_sl ([.ref (ad (0)), .int (xs), .int (x0)])).length) Slot.unset).toArray = ls at hl ⊢
  have hl : lv_has ls 5 [(0, .ref (ad (0))), (1, .int (xs)), (2, .int (x0))] := hl
  obtain ⟨hq2, hq4, hw1, hw0, hWs, hWt, hw, hln, hul, hT, ht⟩ := hs
  obtain ⟨fo_0, ⟨f2, fo_1, fa_2, h2⟩, ⟨f3, fa_3, h3⟩, hRace, hMach, ⟨f16, fo15, fa16, h16⟩, hwd, hcand⟩ := id hC
  have hWp : 1 ≤ Wt ∧ Wt ≤ 4 := by have h8 := hw1 0 (by omega); have h9 := wsum_mono (w := w) (show 1 ≤ q by omega); have h7 : wsum w 1 = 0 + w 0 := rfl; omega
  obtain ⟨f5r, f6r, f7r, szr, fo4, fa5, fa6, fa7⟩ := hRace
  refine lv_iload_n hx hb dX5_never_0 rfl (lv_at hl 2 rfl) ?_
  refine vp_callSi (va_Run.run (va_runS (As := [.int (x0)]) (rest := []) ⟨hx, hb, hml, hown, hts⟩ (mX5_isCounted_out l hx0) (va_cwS 1 hts gX5_never_X5_isCounted rfl rfl rfl (by decide +kernel) ⟨Nat.le_of_ble_eq_true rfl, Nat.le_of_ble_eq_true rfl⟩) ⟨xB_blind, fun U hU hW => ⟨rfl, by rw [hU]; exact hP, va_K.moved hW.alike hK, va_Nw.warmM hW hN⟩⟩ rfl rfl hl.1 rfl (lv_room (Nat.le_of_ble_eq_true rfl)) dX5_never_1 ⟨Nat.le_of_ble_eq_true rfl, Nat.le_of_ble_eq_true rfl⟩)) (fun r1 er1 => ?_)
  subst er1
  refine xi_if_ne (tgt := 11) hx hb (by decide) dX5_never_4 (by decide) (fun c0 => absurd c0 (by decide)) (fun _ => ?_)
  refine lv_ldc2 (v := lZ (-1)) hx hb hown (hts (.constantLong RX5 159 (-1)) (by decide +kernel)) dX5_never_7 ?_
  exact W.lret (v := lZ (-1)) hx hb hr (fun tZ ht hW => ⟨⟨_, g, rfl, ⟨rfl, hC, fun _ _ => rfl⟩, by rw [ht]; exact hP, va_K.moved hW.alike hK, va_Nw.warmM hW hN⟩, hS.F ht⟩) hS.2.2 dX5_never_10
