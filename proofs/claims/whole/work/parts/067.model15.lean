section XR2
variable {p : Program} {l : Launch} {e : Env} {R : Room} {s : State} {m : MethodId} {args : Array Value} {below : List Frame} {meth : Method} {c : Code} {H : Heap} {locs : List Loc} {cells slots : Nat} {Q : State → Prop} {cc : ByteArray} {pc : Nat} {ls : Array Slot} {rest : List Value}
theorem xr_cmp_ne (hexec : p.tables.exec = Jvm.exec) (hb : c.code = cc) {x y : Int64} {off : Int} {tgt : Nat} (hdg : decode cc pc = .ok (.lcmp, 1)) (hd2 : decode cc (pc + 1) = .ok (.ifCond .ne off, 3)) (ht : ((pc + 1 : Nat) : Int) + off = (tgt : Int)) (kt : ¬ x = y → W p l e R s m args below meth c H locs cells slots Q (F0 m tgt ls rest)) (kf : x = y → W p l e R s m args below meth c H locs cells slots Q (F0 m (pc + 1 + 3) ls rest)) : W p l e R s m args below meth c H locs cells slots Q (F0 m pc ls (.long y :: .long x :: rest)) := by
  refine W.lcmp hexec hb hdg ?_
  rcases lg_cmp3 x y with ⟨h1, h2⟩ | ⟨h1, h2⟩ | ⟨h1, h2⟩
  · rw [h2]; exact lv_if_ne hexec hb hd2 ht (fun _ => kt (fun h => by rw [h] at h1; exact absurd h1 (by rw [Int64.lt_iff_toInt_lt]; omega))) (fun c0 => absurd c0 (by decide))
  · rw [h2]; exact lv_if_ne hexec hb hd2 ht (fun c0 => absurd rfl c0) (fun _ => kf h1)
  · rw [h2]; exact lv_if_ne hexec hb hd2 ht (fun _ => kt (fun h => by rw [h] at h1; exact absurd h1 (by rw [Int64.lt_iff_toInt_lt]; omega))) (fun c0 => absurd c0 (by decide))
end XR2
/-- do the n letters v end the text of which r is the code -/
def cmE (v : Nat → Nat) : Nat → Nat → Bool
  | 0, _ => true
  | i + 1, r => decide (1 < r ∧ r % 4 = v i ∧ 0 < r / 4) && cmE v i (r / 4)
theorem cmE_y {v : Nat → Nat} {i r : Nat} (h : 1 < r ∧ r % 4 = v i ∧ 0 < r / 4) : cmE v (i + 1) r = cmE v i (r / 4) := by
  show (decide _ && _) = _
  rw [decide_eq_true h, Bool.true_and]
theorem cmE_n {v : Nat → Nat} {i r : Nat} (h : ¬ (1 < r ∧ r % 4 = v i ∧ 0 < r / 4)) : cmE v (i + 1) r = false := by
  show (decide _ && _) = _
  rw [decide_eq_false h, Bool.false_and]
/-- the last four letters -/
def shE (e : Nat) : Nat := if e < 1024 then e else 256 + e % 256
/-- does a WORD of the SLOTS below s of a set end the text -/
def hsB (ln : Nat → Nat) (u : Nat → Nat → Nat) (B e d : Nat) : Nat → Bool
  | 0 => false
  | s + 1 => hsB ln u B e d s || (decide (btL B s ∧ 0 < ln s) && cmE (u s) (ln s) (4 * e + d))
theorem hsB_1 {ln : Nat → Nat} {u : Nat → Nat → Nat} {B e d s : Nat} (h : hsB ln u B e d s = true) : hsB ln u B e d (s + 1) = true := by
  show (_ || _) = true
  rw [h, Bool.true_or]
theorem hsB_y {ln : Nat → Nat} {u : Nat → Nat → Nat} {B e d s : Nat} (h1 : btL B s) (h2 : 0 < ln s) (h3 : cmE (u s) (ln s) (4 * e + d) = true) : hsB ln u B e d (s + 1) = true := by
  show (_ || (decide _ && _)) = true
  rw [decide_eq_true ⟨h1, h2⟩, h3, Bool.true_and, Bool.or_true]
theorem hsB_n {ln : Nat → Nat} {u : Nat → Nat → Nat} {B e d s : Nat} (h0 : ¬ hsB ln u B e d s = true) (h : ¬ (btL B s ∧ 0 < ln s ∧ cmE (u s) (ln s) (4 * e + d) = true)) : ¬ hsB ln u B e d (s + 1) = true := by
  show ¬ (_ || (decide _ && _)) = true
  rw [Bool.or_eq_true, Bool.and_eq_true]
  rintro (h1 | ⟨h1, h2⟩)
  · exact h0 h1
  · exact h ⟨(of_decide_eq_true h1).1, (of_decide_eq_true h1).2, h2⟩
def hsN (ln : Nat → Nat) (u : Nat → Nat → Nat) (B e d : Nat) : Nat := if hsB ln u B e d 8 = true then 1 else 0
theorem hsN_le {ln : Nat → Nat} {u : Nat → Nat → Nat} {B e d : Nat} : hsN ln u B e d ≤ 1 := by unfold hsN; split <;> decide
/-- one place's weight, over the letters below c -/
def ctC (w : Nat → Nat) (hp : Nat → Nat → Nat) (nv i : Nat) (x : Int) (th : Nat → Int) : Nat → Nat → Int
  | 0 => th
  | d + 1 => if ¬ hp (i % 512) d = 0 ∧ ¬ nv = 0 then ctC w hp nv i x th d else va_up (ctC w hp nv i x th d) (512 * (i / 512 + hp (i % 512) d) + shE (4 * (i % 512) + d)) (ctC w hp nv i x th d (512 * (i / 512 + hp (i % 512) d) + shE (4 * (i % 512) + d)) + x * (w d : Int))
theorem ctC_y {w : Nat → Nat} {hp : Nat → Nat → Nat} {nv i d : Nat} {x : Int} {th : Nat → Int} (h : ¬ (¬ hp (i % 512) d = 0 ∧ ¬ nv = 0)) : ctC w hp nv i x th (d + 1) = va_up (ctC w hp nv i x th d) (512 * (i / 512 + hp (i % 512) d) + shE (4 * (i % 512) + d)) (ctC w hp nv i x th d (512 * (i / 512 + hp (i % 512) d) + shE (4 * (i % 512) + d)) + x * (w d : Int)) := by
  show (if _ then _ else _) = _
  rw [if_neg h]
theorem ctC_n {w : Nat → Nat} {hp : Nat → Nat → Nat} {nv i d : Nat} {x : Int} {th : Nat → Int} (h : ¬ hp (i % 512) d = 0 ∧ ¬ nv = 0) : ctC w hp nv i x th (d + 1) = ctC w hp nv i x th d := by
  show (if _ then _ else _) = _
  rw [if_pos h]
theorem ctC_0 {w : Nat → Nat} {hp : Nat → Nat → Nat} {nv i : Nat} {x : Int} {th : Nat → Int} (hx : lZ x = 0) : ∀ (d j : Nat), lZ (ctC w hp nv i x th d j) = lZ (th j)
  | 0, _ => rfl
  | d + 1, j => by
    by_cases h : ¬ hp (i % 512) d = 0 ∧ ¬ nv = 0
    · rw [ctC_n h]; exact ctC_0 hx d j
    · rw [ctC_y h]
      by_cases e : j = 512 * (i / 512 + hp (i % 512) d) + shE (4 * (i % 512) + d)
      · rw [e, va_up_self, ← lZ_add, ← lZ_mul, hx, ctC_0 hx d, Int64.zero_mul, Int64.add_zero]
      · rw [va_up_ne _ _ e]; exact ctC_0 hx d j
def ctI (q : Nat) (w : Nat → Nat) (hp : Nat → Nat → Nat) (nv : Nat) (nw : Nat → Int) : Nat → Nat → Int
  | 0 => fun _ => 0
  | i + 1 => ctC w hp nv i (nw i) (ctI q w hp nv nw i) q
/-- the weights after r letters -/
def ctN (q : Nat) (w : Nat → Nat) (hp : Nat → Nat → Nat) (nv : Nat) : Nat → Nat → Int
  | 0 => fun i => if i = 1 then 1 else 0
  | r + 1 => ctI q w hp nv (ctN q w hp nv r) 16384
/-- the codes of at most four letters -/
def vE (e : Nat) : Prop := e = 1 ∨ (4 ≤ e ∧ e < 8) ∨ (16 ≤ e ∧ e < 32) ∨ (64 ≤ e ∧ e < 128) ∨ (256 ≤ e ∧ e < 512)
theorem vE_s {e d : Nat} (h : vE e) (hd : d < 4) : vE (shE (4 * e + d)) := by
  unfold vE shE at *
  split <;> omega
theorem vE_b {e : Nat} (h : vE e) : e < 512 := by unfold vE at h; omega
def zQ (r : Nat) (f : Nat → Int) : Prop := ∀ j, f j ≠ 0 → j / 512 ≤ r ∧ vE (j % 512)
theorem ctC_z {w : Nat → Nat} {hp : Nat → Nat → Nat} {nv i r : Nat} {x : Int} {th : Nat → Int} (hh : ∀ e d, hp e d ≤ 1) (hx : x ≠ 0 → i / 512 ≤ r ∧ vE (i % 512)) (ht : zQ (r + 1) th) : ∀ {d : Nat}, d ≤ 4 → zQ (r + 1) (ctC w hp nv i x th d)
  | 0, _ => ht
  | d + 1, hd => by
    have ih := ctC_z (w := w) (nv := nv) hh hx ht (d := d) (by omega)
    by_cases h : ¬ hp (i % 512) d = 0 ∧ ¬ nv = 0
    · rw [ctC_n h]; exact ih
    · rw [ctC_y h]
      intro j hj
      by_cases e : j = 512 * (i / 512 + hp (i % 512) d) + shE (4 * (i % 512) + d)
      · by_cases hx0 : x = 0
        · rw [e, va_up_self] at hj
          rw [e]; exact ih _ (fun h => hj (by rw [h, hx0, Int.zero_mul]; rfl))
        · obtain ⟨a, b⟩ := hx hx0
          have b2 := vE_s b (show d < 4 by omega)
          have b3 := vE_b b2
          have b4 := hh (i % 512) d
          rw [e, show (512 * (i / 512 + hp (i % 512) d) + shE (4 * (i % 512) + d)) % 512 = shE (4 * (i % 512) + d) by omega]
          exact ⟨by omega, b2⟩
      · rw [va_up_ne _ _ e] at hj; exact ih j hj
theorem ctI_z {q : Nat} {w : Nat → Nat} {hp : Nat → Nat → Nat} {nv r : Nat} {nw : Nat → Int} (hq : q ≤ 4) (hh : ∀ e d, hp e d ≤ 1) (hn : zQ r nw) : ∀ (i : Nat), zQ (r + 1) (ctI q w hp nv nw i)
  | 0 => fun j hj => absurd rfl hj
  | i + 1 => ctC_z hh (hn i) (ctI_z hq hh hn i) hq
theorem ctN_z {q : Nat} {w : Nat → Nat} {hp : Nat → Nat → Nat} {nv : Nat} (hq : q ≤ 4) (hh : ∀ e d, hp e d ≤ 1) : ∀ (r : Nat), zQ r (ctN q w hp nv r)
  | 0 => fun j hj => by
    by_cases e : j = 1
    · rw [e]; exact ⟨by decide, Or.inl rfl⟩
    · exact absurd (if_neg e) hj
  | r + 1 => ctI_z hq hh (ctN_z hq hh r) 16384
def wpS (nw : Nat → Int) (k : Nat) : Nat → Int
  | 0 => 0
  | j + 1 => wpS nw k j + sgm nw (512 * (k + j)) 512
theorem one_at {f : Nat → Int64} (h : ∀ j, j < 16384 → f j = lZ 0) : ∀ j, j < 16384 → vp_updL f 1 (lZ 1) j = lZ (if j = 1 then 1 else 0) := fun j hj => by
  by_cases e : j = 1
  · rw [e, pk_uLs]; rfl
  · rw [pk_uLn e, if_neg e]; exact h j hj
theorem dg_r4 {c n k : Nat} (hk : k + 1 ≤ n) : c / 4 ^ (n - (k + 1)) / 4 = c / 4 ^ (n - k) := by
  rw [Nat.div_div_eq_div_mul, ← Nat.pow_succ, show (n - (k + 1)).succ = n - k by omega]
set_option maxHeartbeats 4000000 in
set_option maxRecDepth 100000 in
/-- comes -/
theorem mX6_comes (l : Launch) {D : va_G} {cI cJ cZ cW : ClassId} {ad : Nat → Nat} {g : Nat → va_E} {q Wt T : Nat} {w ln t : Nat → Nat} {u : Nat → Nat → Nat} {tp bt : Int64} {k1 e0 d0 : Nat} {sq : Int32} {nu de : Int64} {fsz : Nat → Int32} {fwd : Nat → Int32}  (fo62 : g (62) = .inr (6, [.int (nI (q)), .int (nI (Wt)), .ref (ad (63)), .ref (ad (64)), .ref (ad (65)), .ref (ad (66)), .int (nI (T)), .long (tp), .long (bt), .long (nu), .long (de), .int (sq), .ref (ad (67)), .ref (ad (68)), .ref (ad (69)), .ref (ad (70)), .ref (ad (71)), .ref (ad (72)), .ref (ad (73)), .ref (ad (74)), .ref (ad (75)), .ref (ad (76)), .ref (ad (77)), .ref (ad (78)), .ref (ad (79)), .ref (ad (80))])) (fa64 : g (64) = .inl (cI, 8, .inl (fsz))) (fa65 : g (65) = .inl (cI, 40, .inl (fwd)))  (hsz : ∀ k, k < 8 → fsz k = nI (ln k)) (hwl : ∀ k j, k < 8 → j < ln k → fwd (5 * k + j) = nI (u k j)) (hq2 : 2 ≤ q) (hq4 : q ≤ 4) (hln : ∀ k, ln k ≤ 5) (hul : ∀ k j, j < ln k → u k j < q) (hT : T ≤ 300) (ht : ∀ j, j < T → t j < q) (hk1 : k1 < 8) (hp1 : 0 < ln k1) (he0 : e0 < 512) (hd0 : d0 < 4) : Met l yX6_comes wsX6_comes ({ frames := 1, cells := 0, slots := 0, locals := 22 }) (va_Pc [.ref (ad (62)), .int (nI (e0)), .int (nI (d0)), .int (nI (k1))] (xB D (xT cI cJ cZ cW) ad g)) (vp_Si (fun r => r = if cmE (u k1) (ln k1) (4 * e0 + d0) = true then 1 else 0)) 0 0 (fun _ => False) := by
  refine Met.ofW (cc := cX6_comes) (maxL := 7) (ret := (some .boolean)) (by decide) rfl ?_
  intro p e s m args below meth c s₁ B hml hv
  obtain ⟨rfl, hP, hK, hN⟩ := hv
  have hx := B.exec
  have hb := B.bytes
  have hr := B.returns
  have hts := atoms_spec (ws := wsX6_comes) B.pre
  have hown : s.vm.findClass RX6 = some m.cls := findClass_of_methodNamed B.named
  have hlocks := B.notSynchronized
  have hin6 : ∀ w ∈ wsX60, w ∈ wsX6_comes := by decide +kernel
  have hf20 := hts (.fieldLink RX6 20 "LettersByLotModel" "size" "[I") (by decide +kernel)
  have hl := lv_entry ([.ref (ad (62)), .int (nI (e0)), .int (nI (d0)), .int (nI (k1))]) (n := 7) (Nat.le_of_ble_eq_true rfl)
  rw [lg_entry_eq]
  generalize (lg_sl ([.ref (ad (62)), .int (nI (e0)), .int (nI (d0)), .int (nI (k1))]) ++ List.replicate (7 - (lg_sl ([.ref (ad (62)), .int (nI (e0)), .int (nI (d0)), .int (nI (k1))])).length) Slot.unset).toArray = ls at hl ⊢
  have hl : lv_has ls 7 [(0, .ref (ad (62))), (1, .int (nI (e0))), (2, .int (nI (d0))), (3, .int (nI (k1)))] := hl
  have hn1 := hln k1
  refine lv_iconst (v := nI (4)) hx hb dX6_comes_0 (by decide) ?_
  refine lv_iload_n hx hb dX6_comes_1 rfl (lv_at hl 1 rfl) ?_
  refine xi_mul hx hb dX6_comes_2 ?_
  refine lv_iload_n hx hb dX6_comes_3 rfl (lv_at hl 2 rfl) ?_
  refine xi_add hx hb dX6_comes_4 ?_
  refine lv_istore (lv' := [(4, .int (nI ((4 * e0) + d0))), (0, .ref (ad (62))), (1, .int (nI (e0))), (2, .int (nI (d0))), (3, .int (nI (k1)))]) hx hb dX6_comes_5 hl (by decide) rfl (fun ls hl => ?_)
  refine lv_iconst (v := nI (1)) hx hb dX6_comes_7 (by decide) ?_
  refine lv_istore (lv' := [(5, .int (nI (1))), (4, .int (nI ((4 * e0) + d0))), (0, .ref (ad (62))), (1, .int (nI (e0))), (2, .int (nI (d0))), (3, .int (nI (k1)))]) hx hb dX6_comes_8 hl (by decide) rfl (fun ls hl => ?_)
  refine lv_aload_n hx hb dX6_comes_10 rfl (lv_at hl 2 rfl) ?_
  refine xw_get hx hb hts hin6 hown hK hP (by decide) fo62 rfl 3 (by decide) hf20 rfl rfl dX6_comes_11 ?_
  refine lv_iload_n hx hb dX6_comes_14 rfl (lv_at hl 5 rfl) ?_
  refine xw_iald hx hb hK hP (by decide) 0 fa64 rfl (by omega) (by decide) dX6_comes_15 ?_
  rw [hsz (k1) (by omega)]
  refine lv_iconst (v := nI (1)) hx hb dX6_comes_16 (by decide) ?_
  refine xi_sub hx hb (by omega) dX6_comes_17 ?_
  refine xtopi (y := nI (ln k1) - 1) (by rw [← pk_sub (show 1 ≤ ln k1 by omega)]; rfl) ?_
  refine lv_istore (lv' := [(6, .int (nI (ln k1) - 1)), (5, .int (nI (1))), (4, .int (nI ((4 * e0) + d0))), (0, .ref (ad (62))), (1, .int (nI (e0))), (2, .int (nI (d0))), (3, .int (nI (k1)))]) hx hb dX6_comes_18 hl (by decide) rfl (fun ls hl => ?_)
  refine xloop (G := fun fr => W p l e _ s m _ below meth c _ _ _ _ _ fr) (σ := Nat × Nat) (fun (j, b) ls => F0 m 20 ls []) (fun (j, b) ls => (j ≤ ln k1) ∧ ((b = 1 ∧ cmE (u k1) (ln k1) (4 * e0 + d0) = cmE (u k1) j ((4 * e0 + d0) / 4 ^ (ln k1 - j))) ∨ (b = 0 ∧ ¬ cmE (u k1) (ln k1) (4 * e0 + d0) = true)) ∧ lv_has ls 7 [(0, .ref (ad (62))), (1, .int (nI (e0))), (2, .int (nI (d0))), (3, .int (nI (k1))), (4, .int (nI (((4 * e0 + d0) / 4 ^ (ln k1 - j))))), (5, .int (nI (b))), (6, .int (nI j - 1))]) (fun (j, b) => j) ?_ (ln k1, 1) ls ⟨(Nat.le_refl _), (Or.inl ⟨rfl, by rw [Nat.sub_self, Nat.pow_zero, Nat.div_one]⟩), (by rw [Nat.sub_self, Nat.pow_zero, Nat.div_one]; exact (lv_sub hl [3, 4, 5, 6, 2, 1, 0] rfl))⟩
  rintro ⟨j, b⟩ ls ⟨hj, hbq, hl⟩ ih20
  refine lv_iload hx hb dX6_comes_20 (lv_at hl 6 rfl) ?_
  refine lv_if_lt (tgt := 76) hx hb dX6_comes_22 (by decide) (fun c22_1 => ?_) (fun c22_1 => ?_)
  · have hj0 : j = 0 := by rcases Nat.eq_zero_or_pos j with h | h; exact h; exact absurd c22_1 (by rw [show j = (j - 1) + 1 by omega, nI_pred]; exact nI_pos (by omega))
    subst hj0
    refine lv_iload hx hb dX6_comes_76 (lv_at hl 5 rfl) ?_
    exact W.zret (v := nI b) hx hb hr (by rcases hbq with h | h; rw [h.1]; rfl; rw [h.1]; rfl) (fun tZ ht _ => ⟨_, rfl, (by show _ = (if cmE (u k1) (ln k1) (4 * e0 + d0) = true then 1 else 0); rcases hbq with h | h; (rw [h.1]; exact xb1 h.2); rw [h.1]; exact xb0 h.2), ht⟩) (fun q hq => by cases hq) dX6_comes_78
  · obtain ⟨k, rfl⟩ : ∃ k, j = k + 1 := ⟨j - 1, by rcases Nat.eq_zero_or_pos j with h | h; exact absurd (show nI j - 1 < 0 by rw [h]; decide) c22_1; omega⟩
    rw [nI_pred] at hl
    have hrs : (4 * e0 + d0) / 4 ^ (ln k1 - (k + 1)) ≤ 4 * e0 + d0 := Nat.div_le_self _ _
    refine lv_iload hx hb dX6_comes_25 (lv_at hl 5 rfl) ?_
    refine xi_if_eq (tgt := 76) hx hb (by rcases hbq with h | h <;> omega) dX6_comes_27 (by decide) (fun c27_2 => ?_) (fun c27_2 => ?_)
    · refine lv_iload hx hb dX6_comes_76 (lv_at hl 5 rfl) ?_
      exact W.zret (v := nI b) hx hb hr (by rcases hbq with h | h; rw [h.1]; rfl; rw [h.1]; rfl) (fun tZ ht _ => ⟨_, rfl, (by show _ = (if cmE (u k1) (ln k1) (4 * e0 + d0) = true then 1 else 0); rcases hbq with h | h; exact absurd c27_2 (by omega); rw [h.1]; exact xb0 h.2), ht⟩) (fun q hq => by cases hq) dX6_comes_78
    · have hb1 := hbq.resolve_right (fun h => c27_2 h.1)
      refine lv_iload hx hb dX6_comes_30 (lv_at hl 4 rfl) ?_
      refine lv_iconst (v := nI (1)) hx hb dX6_comes_32 (by decide) ?_
      refine xi_icmp_le (tgt := 61) hx hb (by omega) (by decide) dX6_comes_33 (by decide) (fun c33_3 => ?_) (fun c33_3 => ?_)
      · refine lv_iconst (v := nI (0)) hx hb dX6_comes_61 (by decide) ?_
        refine lv_istore (lv' := [(5, .int (nI (0))), (0, .ref (ad (62))), (1, .int (nI (e0))), (2, .int (nI (d0))), (3, .int (nI (k1))), (4, .int (nI (((4 * e0 + d0) / 4 ^ (ln k1 - (k + 1)))))), (6, .int (nI (k)))]) hx hb dX6_comes_62 hl (by decide) rfl (fun ls hl => ?_)
        refine lv_iload hx hb dX6_comes_64 (lv_at hl 5 rfl) ?_
        refine lv_iconst (v := nI (4)) hx hb dX6_comes_66 (by decide) ?_
        refine xi_div hx hb (by omega) (by decide) (by decide) dX6_comes_67 ?_
        refine lv_istore (lv' := [(4, .int (nI ((((4 * e0 + d0) / 4 ^ (ln k1 - (k + 1)))) / 4))), (5, .int (nI (0))), (0, .ref (ad (62))), (1, .int (nI (e0))), (2, .int (nI (d0))), (3, .int (nI (k1))), (6, .int (nI (k)))]) hx hb dX6_comes_68 hl (by decide) rfl (fun ls hl => ?_)
        refine lv_iinc (v := nI (k) - 1) (lv' := [(6, .int (nI (k) - 1)), (4, .int (nI ((((4 * e0 + d0) / 4 ^ (ln k1 - (k + 1)))) / 4))), (5, .int (nI (0))), (0, .ref (ad (62))), (1, .int (nI (e0))), (2, .int (nI (d0))), (3, .int (nI (k1)))]) hx hb dX6_comes_70 hl (k := 6) rfl (by rw [Int32.sub_eq_add_neg]; rfl) (by decide) rfl (fun ls hl => ?_)
        refine lv_goto (tgt := 20) hx hb dX6_comes_73 (by decide) ?_
        exact ih20 (k, 0) ls ⟨(by omega), (Or.inr ⟨rfl, by rw [hb1.2, cmE_n (fun h => absurd h.1 (by omega))]; decide⟩), (by rw [← dg_r4 (show k + 1 ≤ ln k1 by omega)]; exact (lv_sub hl [3, 4, 5, 6, 1, 2, 0] rfl))⟩ (by first | omega | (dsimp only; omega))
      · refine lv_iload hx hb dX6_comes_36 (lv_at hl 4 rfl) ?_
        refine lv_iconst (v := nI (4)) hx hb dX6_comes_38 (by decide) ?_
        refine xi_rem hx hb (by omega) (by decide) (by decide) dX6_comes_39 ?_
        refine lv_aload_n hx hb dX6_comes_40 rfl (lv_at hl 0 rfl) ?_
        refine lv_iload_n hx hb dX6_comes_41 rfl (lv_at hl 3 rfl) ?_
        refine lv_iload hx hb dX6_comes_42 (lv_at hl 6 rfl) ?_
        refine vp_callSi (va_Run.run (va_runV (As := [.int (nI (k1)), .int (nI (k))]) (rest := [.int (nI ((((4 * e0 + d0) / 4 ^ (ln k1 - (k + 1)))) % 4))]) ⟨hx, hb, hml, hown, hts⟩ (mX6_letterOf l (w := w) (ln := ln) (t := t) (u := u) (s1 := k1) (j1 := k) (vv := u (k1) (k)) fo62 fa65 (by omega) (by have h9 := hln (k1); omega) (hwl (k1) (k) (by omega) (by omega))) (cwV 2 hts gX6_comes_X6_letterOf rfl rfl rfl (by decide +kernel) ⟨Nat.le_of_ble_eq_true rfl, Nat.le_of_ble_eq_true rfl⟩) ⟨xB_blind, va_recv hK hP (ci := 6) rfl (xw_is (by decide) fo62), fun U hU hW => ⟨rfl, by rw [hU]; exact hP, va_K.moved hW.alike hK, va_Nw.warmM hW hN⟩⟩ rfl rfl hl.1 rfl (lv_room (Nat.le_of_ble_eq_true rfl)) dX6_comes_44 ⟨Nat.le_of_ble_eq_true rfl, Nat.le_of_ble_eq_true rfl⟩)) (fun r4 er4 => ?_)
        subst er4
        refine xi_icmp_ne (tgt := 61) hx hb (by omega) (Nat.lt_trans (hul _ _ (by omega)) (by omega)) dX6_comes_47 (by decide) (fun c47_5 => ?_) (fun c47_5 => ?_)
        · refine lv_iconst (v := nI (0)) hx hb dX6_comes_61 (by decide) ?_
          refine lv_istore (lv' := [(5, .int (nI (0))), (0, .ref (ad (62))), (1, .int (nI (e0))), (2, .int (nI (d0))), (3, .int (nI (k1))), (4, .int (nI (((4 * e0 + d0) / 4 ^ (ln k1 - (k + 1)))))), (6, .int (nI (k)))]) hx hb dX6_comes_62 hl (by decide) rfl (fun ls hl => ?_)
          refine lv_iload hx hb dX6_comes_64 (lv_at hl 5 rfl) ?_
          refine lv_iconst (v := nI (4)) hx hb dX6_comes_66 (by decide) ?_
          refine xi_div hx hb (by omega) (by decide) (by decide) dX6_comes_67 ?_
          refine lv_istore (lv' := [(4, .int (nI ((((4 * e0 + d0) / 4 ^ (ln k1 - (k + 1)))) / 4))), (5, .int (nI (0))), (0, .ref (ad (62))), (1, .int (nI (e0))), (2, .int (nI (d0))), (3, .int (nI (k1))), (6, .int (nI (k)))]) hx hb dX6_comes_68 hl (by decide) rfl (fun ls hl => ?_)
          refine lv_iinc (v := nI (k) - 1) (lv' := [(6, .int (nI (k) - 1)), (4, .int (nI ((((4 * e0 + d0) / 4 ^ (ln k1 - (k + 1)))) / 4))), (5, .int (nI (0))), (0, .ref (ad (62))), (1, .int (nI (e0))), (2, .int (nI (d0))), (3, .int (nI (k1)))]) hx hb dX6_comes_70 hl (k := 6) rfl (by rw [Int32.sub_eq_add_neg]; rfl) (by decide) rfl (fun ls hl => ?_)
          refine lv_goto (tgt := 20) hx hb dX6_comes_73 (by decide) ?_
          exact ih20 (k, 0) ls ⟨(by omega), (Or.inr ⟨rfl, by rw [hb1.2, cmE_n (fun h => c47_5 h.2.1)]; decide⟩), (by rw [← dg_r4 (show k + 1 ≤ ln k1 by omega)]; exact (lv_sub hl [3, 4, 5, 6, 1, 2, 0] rfl))⟩ (by first | omega | (dsimp only; omega))
        · refine lv_iload hx hb dX6_comes_50 (lv_at hl 4 rfl) ?_
          refine lv_iconst (v := nI (4)) hx hb dX6_comes_52 (by decide) ?_
          refine xi_div hx hb (by omega) (by decide) (by decide) dX6_comes_53 ?_
          refine xi_if_le (tgt := 61) hx hb (by omega) dX6_comes_54 (by decide) (fun c54_6 => ?_) (fun c54_6 => ?_)
          · refine lv_iconst (v := nI (0)) hx hb dX6_comes_61 (by decide) ?_
            refine lv_istore (lv' := [(5, .int (nI (0))), (0, .ref (ad (62))), (1, .int (nI (e0))), (2, .int (nI (d0))), (3, .int (nI (k1))), (4, .int (nI (((4 * e0 + d0) / 4 ^ (ln k1 - (k + 1)))))), (6, .int (nI (k)))]) hx hb dX6_comes_62 hl (by decide) rfl (fun ls hl => ?_)
            refine lv_iload hx hb dX6_comes_64 (lv_at hl 5 rfl) ?_
            refine lv_iconst (v := nI (4)) hx hb dX6_comes_66 (by decide) ?_
            refine xi_div hx hb (by omega) (by decide) (by decide) dX6_comes_67 ?_
            refine lv_istore (lv' := [(4, .int (nI ((((4 * e0 + d0) / 4 ^ (ln k1 - (k + 1)))) / 4))), (5, .int (nI (0))), (0, .ref (ad (62))), (1, .int (nI (e0))), (2, .int (nI (d0))), (3, .int (nI (k1))), (6, .int (nI (k)))]) hx hb dX6_comes_68 hl (by decide) rfl (fun ls hl => ?_)
            refine lv_iinc (v := nI (k) - 1) (lv' := [(6, .int (nI (k) - 1)), (4, .int (nI ((((4 * e0 + d0) / 4 ^ (ln k1 - (k + 1)))) / 4))), (5, .int (nI (0))), (0, .ref (ad (62))), (1, .int (nI (e0))), (2, .int (nI (d0))), (3, .int (nI (k1)))]) hx hb dX6_comes_70 hl (k := 6) rfl (by rw [Int32.sub_eq_add_neg]; rfl) (by decide) rfl (fun ls hl => ?_)
            refine lv_goto (tgt := 20) hx hb dX6_comes_73 (by decide) ?_
            exact ih20 (k, 0) ls ⟨(by omega), (Or.inr ⟨rfl, by rw [hb1.2, cmE_n (fun h => absurd h.2.2 (by omega))]; decide⟩), (by rw [← dg_r4 (show k + 1 ≤ ln k1 by omega)]; exact (lv_sub hl [3, 4, 5, 6, 1, 2, 0] rfl))⟩ (by first | omega | (dsimp only; omega))
          · refine lv_iconst (v := nI (1)) hx hb dX6_comes_57 (by decide) ?_
            refine lv_goto (tgt := 62) hx hb dX6_comes_58 (by decide) ?_
            refine lv_istore (lv' := [(5, .int (nI (1))), (0, .ref (ad (62))), (1, .int (nI (e0))), (2, .int (nI (d0))), (3, .int (nI (k1))), (4, .int (nI (((4 * e0 + d0) / 4 ^ (ln k1 - (k + 1)))))), (6, .int (nI (k)))]) hx hb dX6_comes_62 hl (by decide) rfl (fun ls hl => ?_)
            refine lv_iload hx hb dX6_comes_64 (lv_at hl 5 rfl) ?_
            refine lv_iconst (v := nI (4)) hx hb dX6_comes_66 (by decide) ?_
            refine xi_div hx hb (by omega) (by decide) (by decide) dX6_comes_67 ?_
            refine lv_istore (lv' := [(4, .int (nI ((((4 * e0 + d0) / 4 ^ (ln k1 - (k + 1)))) / 4))), (5, .int (nI (1))), (0, .ref (ad (62))), (1, .int (nI (e0))), (2, .int (nI (d0))), (3, .int (nI (k1))), (6, .int (nI (k)))]) hx hb dX6_comes_68 hl (by decide) rfl (fun ls hl => ?_)
            refine lv_iinc (v := nI (k) - 1) (lv' := [(6, .int (nI (k) - 1)), (4, .int (nI ((((4 * e0 + d0) / 4 ^ (ln k1 - (k + 1)))) / 4))), (5, .int (nI (1))), (0, .ref (ad (62))), (1, .int (nI (e0))), (2, .int (nI (d0))), (3, .int (nI (k1)))]) hx hb dX6_comes_70 hl (k := 6) rfl (by rw [Int32.sub_eq_add_neg]; rfl) (by decide) rfl (fun ls hl => ?_)
            refine lv_goto (tgt := 20) hx hb dX6_comes_73 (by decide) ?_
            exact ih20 (k, 1) ls ⟨(by omega), (Or.inl ⟨rfl, by rw [hb1.2, cmE_y ⟨c33_3, c47_5, c54_6⟩, dg_r4 (show k + 1 ≤ ln k1 by omega)]⟩), (by rw [← dg_r4 (show k + 1 ≤ ln k1 by omega)]; exact (lv_sub hl [3, 4, 5, 6, 1, 2, 0] rfl))⟩ (by first | omega | (dsimp only; omega))

set_option maxHeartbeats 4000000 in
set_option maxRecDepth 100000 in
/-- shorter -/
theorem mX6_shorter (l : Launch) {D : va_G} {cI cJ cZ cW : ClassId} {ad : Nat → Nat} {g : Nat → va_E} {x1 : Nat}  (hx1 : x1 < 2 ^ 31) : Met l yX6_shorter wsX6_shorter ({ frames := 0, cells := 0, slots := 0, locals := 0 }) (va_Pc [.int (nI (x1))] (xB D (xT cI cJ cZ cW) ad g)) (vp_Si (fun r => r = nI (shE x1))) 0 0 (fun _ => False) := by
  refine Met.ofW (cc := cX6_shorter) (maxL := 1) (ret := (some .int)) (by decide) rfl ?_
  intro p e s m args below meth c s₁ B hml hv
  obtain ⟨rfl, hP, hK, hN⟩ := hv
  have hx := B.exec
  have hb := B.bytes
  have hr := B.returns
  have hts := atoms_spec (ws := wsX6_shorter) B.pre
  have hown : s.vm.findClass RX6 = some m.cls := findClass_of_methodNamed B.named
  have hlocks := B.notSynchronized
  have hl := lv_entry ([.int (nI (x1))]) (n := 1) (Nat.le_of_ble_eq_true rfl)
  rw [lg_entry_eq]
  generalize (lg_sl ([.int (nI (x1))]) ++ List.replicate (1 - (lg_sl ([.int (nI (x1))])).length) Slot.unset).toArray = ls at hl ⊢
  have hl : lv_has ls 1 [(0, .int (nI (x1)))] := hl
  refine lv_iload_n hx hb dX6_shorter_0 rfl (lv_at hl 0 rfl) ?_
  refine lv_sipush (v := nI (1024)) hx hb dX6_shorter_1 (by decide) ?_
  refine xi_icmp_lt (tgt := 19) hx hb (by omega) (by decide) dX6_shorter_4 (by decide) (fun c4_1 => ?_) (fun c4_1 => ?_)
  · refine lv_iload_n hx hb dX6_shorter_19 rfl (lv_at hl 0 rfl) ?_
    exact W.iret (v := nI (x1)) hx hb hr (fun tZ ht _ => ⟨_, rfl, (congrArg nI (by unfold shE; rw [if_pos (by omega)])), ht⟩) (fun q hq => by cases hq) dX6_shorter_20
  · refine lv_sipush (v := nI (256)) hx hb dX6_shorter_7 (by decide) ?_
    refine lv_iload_n hx hb dX6_shorter_10 rfl (lv_at hl 0 rfl) ?_
    refine lv_sipush (v := nI (256)) hx hb dX6_shorter_11 (by decide) ?_
    refine xi_rem hx hb (by omega) (by decide) (by decide) dX6_shorter_14 ?_
    refine xi_add hx hb dX6_shorter_15 ?_
    refine lv_goto (tgt := 20) hx hb dX6_shorter_16 (by decide) ?_
    exact W.iret (v := nI (256 + (x1 % 256))) hx hb hr (fun tZ ht _ => ⟨_, rfl, (congrArg nI (by unfold shE; rw [if_neg (by omega)])), ht⟩) (fun q hq => by cases hq) dX6_shorter_20
