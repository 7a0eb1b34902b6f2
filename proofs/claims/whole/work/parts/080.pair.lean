/-! ONE ROOM for all calls of the law, and one answer of class and reference -/
def rmU : Room := { frames := 6, cells := 0, slots := 0, locals := 166 }
theorem met_up {l : Launch} {y : MethodName} {ws : List Cond} {rm : Room} {Pc : Array Value → State → Prop} {Qc : Array Value → State → Outcome → State → Prop} {mc ms : Nat} {free : Addr → Prop} (h : Met l y ws rm Pc Qc mc ms free) {Qc' : Array Value → State → Outcome → State → Prop} (hQ : ∀ a st o t, Qc a st o t → Qc' a st o t) (h1 : rm.frames ≤ rmU.frames) (h2 : rm.locals ≤ rmU.locals) (h3 : rm.cells ≤ rmU.cells) (h4 : rm.slots ≤ rmU.slots) : Met l y ws rmU Pc Qc' mc ms free := by
  intro p e ha hc hk s m args below hf happ hP hK
  obtain ⟨n, o, a1, a2, a3, a4⟩ := h p e ha hc hk s m args below hf (by
    unfold Spec.appliesLoose at happ ⊢
    rw [hf] at happ ⊢
    simp only [Bool.and_eq_true] at happ ⊢
    obtain ⟨⟨a, b⟩, d⟩ := happ
    refine ⟨⟨a, ?_⟩, d⟩
    have b' : s.hasRoom e.platform rmU = true := b
    show s.hasRoom e.platform rm = true
    unfold State.hasRoom at b' ⊢
    simp only [Bool.and_eq_true, decide_eq_true_eq] at b' ⊢
    obtain ⟨⟨⟨⟨c1, c2, c3, c4, c5, c6⟩, c7⟩, c8⟩, c9⟩ := b'
    exact ⟨⟨⟨⟨by omega, by omega, by omega, by omega, by omega, c6⟩, by omega⟩, by omega⟩, c9⟩) hP hK
  exact ⟨n, o, a1, a2, a3, hQ _ _ _ _ a4.1, a4.2⟩
theorem qi_to {S : Type} {post post' : Int32 → S → Prop} {B : S → State → Prop} {A : Nat → Prop} (h : ∀ r u, post r u → post' r u) : ∀ a st o t, va_Qi post B A a st o t → va_Qi post' B A a st o t := fun a st o t hq => by
  obtain ⟨⟨r, u, h1, h2, h3⟩, h4⟩ := hq
  exact ⟨⟨r, u, h1, h r u h2, h3⟩, h4⟩
theorem ql_to {S : Type} {post post' : Int64 → S → Prop} {B : S → State → Prop} {A : Nat → Prop} (h : ∀ r u, post r u → post' r u) : ∀ a st o t, va_Ql post B A a st o t → va_Ql post' B A a st o t := fun a st o t hq => by
  obtain ⟨⟨r, u, h1, h2, h3⟩, h4⟩ := hq
  exact ⟨⟨r, u, h1, h r u h2, h3⟩, h4⟩
theorem x31 {x : Int32} (h : nI 30 < x) : nI 31 ≤ x := by
  rw [Int32.lt_iff_toInt_lt] at h
  rw [Int32.le_iff_toInt_le]
  have e1 : (nI 30).toInt = 30 := by decide
  have e2 : (nI 31).toInt = 31 := by decide
  omega
theorem x02 {x : Int32} (h : nI 1 < x) : nI 2 ≤ x := by
  rw [Int32.lt_iff_toInt_lt] at h
  rw [Int32.le_iff_toInt_le]
  have e1 : (nI 1).toInt = 1 := by decide
  have e2 : (nI 2).toInt = 2 := by decide
  omega
/-- a small int, or none such -/
theorem xin (x : Int32) {n : Nat} (hn : n + 1 < 2 ^ 31) : (x < 0 ∨ nI n < x) ∨ ∃ j, j ≤ n ∧ x = nI j := by
  rcases pk_ix x (n := n + 1) hn with h | h | ⟨j, hj, rfl⟩
  · exact Or.inl (Or.inl h)
  · refine Or.inl (Or.inr ?_)
    rw [Int32.le_iff_toInt_le] at h
    rw [Int32.lt_iff_toInt_lt]
    have e1 : (nI n).toInt = n := nI_toInt (by omega)
    have e2 : (nI (n + 1)).toInt = (n + 1 : Nat) := nI_toInt (by omega)
    omega
  · exact Or.inr ⟨j, by omega, rfl⟩
theorem SrcI.clear {q Wt T : Nat} {w ln t : Nat → Nat} {u : Nat → Nat → Nat} (hs : SrcI q Wt w ln u T t) : SrcI q Wt w ln u 0 t := by
  obtain ⟨h1, h2, h3, h4, h5, h6, h7, h8, h9, h10, h11⟩ := hs
  exact ⟨h1, h2, h3, h4, h5, h6, h7, h8, h9, by omega, fun j hj => absurd hj (by omega)⟩
theorem SrcI.text {q Wt T T' : Nat} {w ln t t' : Nat → Nat} {u : Nat → Nat → Nat} (hs : SrcI q Wt w ln u T t) (h : T' ≤ 300) (h2 : ∀ j, j < T' → t' j < q) : SrcI q Wt w ln u T' t' := by
  obtain ⟨h1, h2', h3, h4, h5, h6, h7, h8, h9, h10, h11⟩ := hs
  exact ⟨h1, h2', h3, h4, h5, h6, h7, h8, h9, h, h2⟩
theorem SrcI.src {q a b e f : Nat} {t : Nat → Nat} {u : Nat → Nat → Nat} (hq2 : 2 ≤ q) (hq4 : q ≤ 4) (h1 : ∀ j, j < q → 1 ≤ wt4 a b e f j) (h0 : ∀ j, q ≤ j → wt4 a b e f j = 0) {S : Nat} (hS : wsum (wt4 a b e f) q = S) (h4 : S ≤ 4) (hw : ∀ j, j < 4 → wt4 a b e f j ≤ 4) : SrcI q S (wt4 a b e f) (fun _ => 0) u 0 t := ⟨hq2, hq4, h1, h0, hS, h4, hw, fun _ => Nat.zero_le 5, fun _ j hj => absurd hj (Nat.not_lt_zero j), by decide, fun j hj => absurd hj (by omega)⟩
theorem lt30 {n : Nat} {x : Int32} (hn : n ≤ 30) (h : nI 30 < x) : nI n < x := by
  rw [Int32.lt_iff_toInt_lt] at h ⊢
  have e1 : (nI 30).toInt = 30 := by decide
  have e2 : (nI n).toInt = n := nI_toInt (by omega)
  omega
theorem neg_n {n : Nat} {x : Int32} (h : x < 0) : ¬ nI n < x ∨ ¬ n ≤ 30 := by
  by_cases hn : n ≤ 30
  · refine Or.inl (fun h2 => ?_)
    rw [Int32.lt_iff_toInt_lt] at h h2
    have e2 : (nI n).toInt = n := nI_toInt (by omega)
    have e0 : (0 : Int32).toInt = 0 := by decide
    omega
  · exact Or.inr hn
theorem neg_0 {x : Int32} (h : x < 0) : ¬ 0 < x := fun h2 => by
  rw [Int32.lt_iff_toInt_lt] at h h2
  omega
theorem drw_lt {q Wt T j : Nat} {w ln t : Nat → Nat} {u : Nat → Nat → Nat} {s0 : Int32} (hs : SrcI q Wt w ln u T t) : drw q Wt w s0 j < q := by
  unfold drw pick
  have hq := hs.1
  rcases lsF_is (P := fun i => decide (s16 (sdN s0 (j + 1)) % Wt < wsum w (i + 1))) (k := q) with ⟨a, a1, -, -, a4⟩ | ⟨-, a4⟩
  · rw [a4]; exact a1
  · rw [a4]; show 0 < q; omega
theorem pr_lead (l : Launch) {D : va_G} {cI cJ cZ cW : ClassId} {ad : Nat → Nat} {A : Nat → Prop} (hD : ∀ g, va_D A (xw 81 ad g)) {q Wt : Nat} {w : Nat → Nat} {ln : Nat → Nat} {u : Nat → Nat → Nat} {T : Nat} {t : Nat → Nat} {tp bt : Int64} (hs : SrcI q Wt w ln u T t) (xa : Int32) (xb : Int32) : ∃ (r : Int32) (q' Wt' : Nat) (w' ln' : Nat → Nat) (u' : Nat → Nat → Nat) (T' : Nat) (t' : Nat → Nat) (tp' bt' : Int64), SrcI q' Wt' w' ln' u' T' t' ∧ (∀ g, ClsI cI cJ cZ cW ad g q Wt w ln u T t tp bt → Met l yX5_lead wsX5_lead rmU (va_Pc [.ref (ad 0), .int xa, .int xb] (xB D (xT cI cJ cZ cW) ad g)) (va_Qi (fun r1 g2 => r1 = r ∧ ClsI cI cJ cZ cW ad g2 q' Wt' w' ln' u' T' t' tp' bt' ∧ ∀ j : Nat, 62 ≤ j → g2 j = g j) (xB D (xT cI cJ cZ cW) ad) A) 0 0 A) ∧ (∀ g, ModI cI cJ ad g q Wt w ln u T t tp bt → Met l yX6_lead wsX6_lead rmU (va_Pc [.ref (ad 62), .int xa, .int xb] (xB D (xT cI cJ cZ cW) ad g)) (va_Qi (fun r1 g2 => r1 = r ∧ ModI cI cJ ad g2 q' Wt' w' ln' u' T' t' tp' bt' ∧ ∀ j : Nat, j < 62 → g2 j = g j) (xB D (xT cI cJ cZ cW) ad) A) 0 0 A) := by
  exact ⟨_, q, Wt, w, ln, u, T, t, _, _, hs, fun g hC => met_up (mX5_lead l hD hC hs xa xb) (fun _ _ _ _ h => h) (by decide) (by decide) (by decide) (by decide), fun g hM => met_up (mX6_lead l hD hM hs xa xb) (fun _ _ _ _ h => h) (by decide) (by decide) (by decide) (by decide)⟩

theorem pr_won (l : Launch) {D : va_G} {cI cJ cZ cW : ClassId} {ad : Nat → Nat} {A : Nat → Prop} (hD : ∀ g, va_D A (xw 81 ad g)) {q Wt : Nat} {w : Nat → Nat} {ln : Nat → Nat} {u : Nat → Nat → Nat} {T : Nat} {t : Nat → Nat} {tp bt : Int64} (hs : SrcI q Wt w ln u T t) (xa : Int32) : ∃ (r : Int32) (q' Wt' : Nat) (w' ln' : Nat → Nat) (u' : Nat → Nat → Nat) (T' : Nat) (t' : Nat → Nat) (tp' bt' : Int64), SrcI q' Wt' w' ln' u' T' t' ∧ (∀ g, ClsI cI cJ cZ cW ad g q Wt w ln u T t tp bt → Met l yX5_won wsX5_won rmU (va_Pc [.ref (ad 0), .int xa] (xB D (xT cI cJ cZ cW) ad g)) (va_Qi (fun r1 g2 => r1 = r ∧ ClsI cI cJ cZ cW ad g2 q' Wt' w' ln' u' T' t' tp' bt' ∧ ∀ j : Nat, 62 ≤ j → g2 j = g j) (xB D (xT cI cJ cZ cW) ad) A) 0 0 A) ∧ (∀ g, ModI cI cJ ad g q Wt w ln u T t tp bt → Met l yX6_won wsX6_won rmU (va_Pc [.ref (ad 62), .int xa] (xB D (xT cI cJ cZ cW) ad g)) (va_Qi (fun r1 g2 => r1 = r ∧ ModI cI cJ ad g2 q' Wt' w' ln' u' T' t' tp' bt' ∧ ∀ j : Nat, j < 62 → g2 j = g j) (xB D (xT cI cJ cZ cW) ad) A) 0 0 A) := by
  exact ⟨_, q, Wt, w, ln, u, T, t, _, _, hs, fun g hC => met_up (mX5_won l hD hC hs xa) (fun _ _ _ _ h => h) (by decide) (by decide) (by decide) (by decide), fun g hM => met_up (mX6_won l hD hM hs xa) (fun _ _ _ _ h => h) (by decide) (by decide) (by decide) (by decide)⟩

theorem pr_odds (l : Launch) {D : va_G} {cI cJ cZ cW : ClassId} {ad : Nat → Nat} {A : Nat → Prop} (hD : ∀ g, va_D A (xw 81 ad g)) {q Wt : Nat} {w : Nat → Nat} {ln : Nat → Nat} {u : Nat → Nat → Nat} {T : Nat} {t : Nat → Nat} {tp bt : Int64} (hs : SrcI q Wt w ln u T t) (xa : Int32) (xb : Int32) : ∃ (r : Int32) (q' Wt' : Nat) (w' ln' : Nat → Nat) (u' : Nat → Nat → Nat) (T' : Nat) (t' : Nat → Nat) (tp' bt' : Int64), SrcI q' Wt' w' ln' u' T' t' ∧ (∀ g, ClsI cI cJ cZ cW ad g q Wt w ln u T t tp bt → Met l yX5_odds wsX5_odds rmU (va_Pc [.ref (ad 0), .int xa, .int xb] (xB D (xT cI cJ cZ cW) ad g)) (va_Qi (fun r1 g2 => r1 = r ∧ ClsI cI cJ cZ cW ad g2 q' Wt' w' ln' u' T' t' tp' bt' ∧ ∀ j : Nat, 62 ≤ j → g2 j = g j) (xB D (xT cI cJ cZ cW) ad) A) 0 0 A) ∧ (∀ g, ModI cI cJ ad g q Wt w ln u T t tp bt → Met l yX6_odds wsX6_odds rmU (va_Pc [.ref (ad 62), .int xa, .int xb] (xB D (xT cI cJ cZ cW) ad g)) (va_Qi (fun r1 g2 => r1 = r ∧ ModI cI cJ ad g2 q' Wt' w' ln' u' T' t' tp' bt' ∧ ∀ j : Nat, j < 62 → g2 j = g j) (xB D (xT cI cJ cZ cW) ad) A) 0 0 A) := by
  exact ⟨_, q, Wt, w, ln, u, T, t, _, _, hs, fun g hC => met_up (mX5_odds l hD hC hs (edgNZ_of hs.toP) xa xb) (fun _ _ _ _ h => h) (by decide) (by decide) (by decide) (by decide), fun g hM => met_up (mX6_odds l hD hM hs (odOK_of hs.toP) xa xb) (fun _ _ _ _ h => h) (by decide) (by decide) (by decide) (by decide)⟩

theorem pr_cover (l : Launch) {D : va_G} {cI cJ cZ cW : ClassId} {ad : Nat → Nat} {A : Nat → Prop} (hD : ∀ g, va_D A (xw 81 ad g)) {q Wt : Nat} {w : Nat → Nat} {ln : Nat → Nat} {u : Nat → Nat → Nat} {T : Nat} {t : Nat → Nat} {tp bt : Int64} (hs : SrcI q Wt w ln u T t) : ∃ (q' Wt' : Nat) (w' ln' : Nat → Nat) (u' : Nat → Nat → Nat) (T' : Nat) (t' : Nat → Nat) (tp' bt' : Int64), SrcI q' Wt' w' ln' u' T' t' ∧ (∀ g, ClsI cI cJ cZ cW ad g q Wt w ln u T t tp bt → Met l yX5_cover wsX5_cover rmU (va_Pc [.ref (ad 0)] (xB D (xT cI cJ cZ cW) ad g)) (va_Qv (fun g2 => ClsI cI cJ cZ cW ad g2 q' Wt' w' ln' u' T' t' tp' bt' ∧ ∀ j : Nat, 62 ≤ j → g2 j = g j) (xB D (xT cI cJ cZ cW) ad) A) 0 0 A) ∧ (∀ g, ModI cI cJ ad g q Wt w ln u T t tp bt → Met l yX6_cover wsX6_cover rmU (va_Pc [.ref (ad 62)] (xB D (xT cI cJ cZ cW) ad g)) (va_Qv (fun g2 => ModI cI cJ ad g2 q' Wt' w' ln' u' T' t' tp' bt' ∧ ∀ j : Nat, j < 62 → g2 j = g j) (xB D (xT cI cJ cZ cW) ad) A) 0 0 A) := by
  have hCv := cvOK_of hs.1 hs.2.1 hs.2.2.1 hs.2.2.2.1 hs.2.2.2.2.1 hs.2.2.2.2.2.1
  exact ⟨q, Wt, w, ln, u, T, t, _, _, hs, fun g hC => met_up (mX5_cover l hD hC hs) (fun _ _ _ _ h => h) (by decide) (by decide) (by decide) (by decide), fun g hM => met_up (mX6_cover l hD hM hs hCv) (fun _ _ _ _ h => h) (by decide) (by decide) (by decide) (by decide)⟩

theorem pr_wait (l : Launch) {D : va_G} {cI cJ cZ cW : ClassId} {ad : Nat → Nat} {A : Nat → Prop} (hD : ∀ g, va_D A (xw 81 ad g)) {q Wt : Nat} {w : Nat → Nat} {ln : Nat → Nat} {u : Nat → Nat → Nat} {T : Nat} {t : Nat → Nat} {tp bt : Int64} (hs : SrcI q Wt w ln u T t) (xa : Int32) (y : Int32) : ∃ (r : Int32) (q' Wt' : Nat) (w' ln' : Nat → Nat) (u' : Nat → Nat → Nat) (T' : Nat) (t' : Nat → Nat) (tp' bt' : Int64), SrcI q' Wt' w' ln' u' T' t' ∧ (∀ g, ClsI cI cJ cZ cW ad g q Wt w ln u T t tp bt → Met l yX5_wait wsX5_wait rmU (va_Pc [.ref (ad 0), .int xa, .int y] (xB D (xT cI cJ cZ cW) ad g)) (va_Qi (fun r1 g2 => r1 = r ∧ ClsI cI cJ cZ cW ad g2 q' Wt' w' ln' u' T' t' tp' bt' ∧ ∀ j : Nat, 62 ≤ j → g2 j = g j) (xB D (xT cI cJ cZ cW) ad) A) 0 0 A) ∧ (∀ g, ModI cI cJ ad g q Wt w ln u T t tp bt → Met l yX6_wait wsX6_wait rmU (va_Pc [.ref (ad 62), .int xa, .int y] (xB D (xT cI cJ cZ cW) ad g)) (va_Qi (fun r1 g2 => r1 = r ∧ ModI cI cJ ad g2 q' Wt' w' ln' u' T' t' tp' bt' ∧ ∀ j : Nat, j < 62 → g2 j = g j) (xB D (xT cI cJ cZ cW) ad) A) 0 0 A) := by
  rcases xin y (n := 1) (by decide) with h | ⟨j, hj, rfl⟩
  · exact ⟨_, q, Wt, w, ln, u, T, t, _, _, hs, fun g hC => met_up (mX5_waitx l hD hC hs h xa) (fun _ _ _ _ h => h) (by decide) (by decide) (by decide) (by decide), fun g hM => met_up (mX6_waitx l hD hM hs (h.imp id x02) xa) (fun _ _ _ _ h => h) (by decide) (by decide) (by decide) (by decide)⟩
  · rcases (show j = 0 ∨ j = 1 by omega) with rfl | rfl
    · exact ⟨_, q, Wt, w, ln, u, T, t, _, _, hs, fun g hC => met_up (mX5_wait0 l hD hC hs xa) (fun _ _ _ _ h => h) (by decide) (by decide) (by decide) (by decide), fun g hM => met_up (mX6_wait0 l hD hM hs (waOK_of hs.toP) xa) (fun _ _ _ _ h => h) (by decide) (by decide) (by decide) (by decide)⟩
    · exact ⟨_, q, Wt, w, ln, u, T, t, _, _, hs, fun g hC => met_up (mX5_wait1 l hD hC hs xa) (fun _ _ _ _ h => h) (by decide) (by decide) (by decide) (by decide), fun g hM => met_up (mX6_wait1 l hD hM hs (waOK_of hs.toP) xa) (fun _ _ _ _ h => h) (by decide) (by decide) (by decide) (by decide)⟩

theorem pr_first (l : Launch) {D : va_G} {cI cJ cZ cW : ClassId} {ad : Nat → Nat} {A : Nat → Prop} (hD : ∀ g, va_D A (xw 81 ad g)) {q Wt : Nat} {w : Nat → Nat} {ln : Nat → Nat} {u : Nat → Nat → Nat} {T : Nat} {t : Nat → Nat} {tp bt : Int64} (hs : SrcI q Wt w ln u T t) (x : Int32) (y : Int32) : ∃ (r : Int32) (q' Wt' : Nat) (w' ln' : Nat → Nat) (u' : Nat → Nat → Nat) (T' : Nat) (t' : Nat → Nat) (tp' bt' : Int64), SrcI q' Wt' w' ln' u' T' t' ∧ (∀ g, ClsI cI cJ cZ cW ad g q Wt w ln u T t tp bt → Met l yX5_first wsX5_first rmU (va_Pc [.ref (ad 0), .int x, .int y] (xB D (xT cI cJ cZ cW) ad g)) (va_Qi (fun r1 g2 => r1 = r ∧ ClsI cI cJ cZ cW ad g2 q' Wt' w' ln' u' T' t' tp' bt' ∧ ∀ j : Nat, 62 ≤ j → g2 j = g j) (xB D (xT cI cJ cZ cW) ad) A) 0 0 A) ∧ (∀ g, ModI cI cJ ad g q Wt w ln u T t tp bt → Met l yX6_first wsX6_first rmU (va_Pc [.ref (ad 62), .int x, .int y] (xB D (xT cI cJ cZ cW) ad g)) (va_Qi (fun r1 g2 => r1 = r ∧ ModI cI cJ ad g2 q' Wt' w' ln' u' T' t' tp' bt' ∧ ∀ j : Nat, j < 62 → g2 j = g j) (xB D (xT cI cJ cZ cW) ad) A) 0 0 A) := by
  have h1 := ssNZ_of hs.toP
  have h2 := chOK_of hs.toP
  rcases lsN_cases x with ⟨hb, hn⟩ | ⟨Lq, hL1, hL2, rfl, hLs⟩
  · exact ⟨_, q, Wt, w, ln, u, T, t, _, _, hs, fun g hC => met_up (mX5_first_no l hD hC hs hb hn) (fun _ _ _ _ h => h) (by decide) (by decide) (by decide) (by decide), fun g hM => met_up (mX6_first_no l hD hM hs hb hn) (fun _ _ _ _ h => h) (by decide) (by decide) (by decide) (by decide)⟩
  · by_cases e : y = -1
    · subst e
      exact ⟨_, q, Wt, w, ln, u, T, t, _, _, hs, fun g hC => met_up (mX5_first_mean l hD hC hs hL1 hL2 hLs h1) (fun _ _ _ _ h => h) (by decide) (by decide) (by decide) (by decide), fun g hM => met_up (mX6_first_mean l hD hM hs hL1 hL2 hLs h2) (fun _ _ _ _ h => h) (by decide) (by decide) (by decide) (by decide)⟩
    · rcases pk_ix y (n := 8) (by decide) with h | h | ⟨j, hj, rfl⟩
      · exact ⟨_, q, Wt, w, ln, u, T, t, _, _, hs, fun g hC => met_up (mX5_first_bad l hD hC hs hL1 hL2 hLs h1 e (Or.inl h)) (fun _ _ _ _ h => h) (by decide) (by decide) (by decide) (by decide), fun g hM => met_up (mX6_first_bad l hD hM hs hL1 hL2 hLs h2 e (Or.inl h)) (fun _ _ _ _ h => h) (by decide) (by decide) (by decide) (by decide)⟩
      · exact ⟨_, q, Wt, w, ln, u, T, t, _, _, hs, fun g hC => met_up (mX5_first_bad l hD hC hs hL1 hL2 hLs h1 e (Or.inr h)) (fun _ _ _ _ h => h) (by decide) (by decide) (by decide) (by decide), fun g hM => met_up (mX6_first_bad l hD hM hs hL1 hL2 hLs h2 e (Or.inr h)) (fun _ _ _ _ h => h) (by decide) (by decide) (by decide) (by decide)⟩
      · exact ⟨_, q, Wt, w, ln, u, T, t, _, _, hs, fun g hC => met_up (mX5_first_in l hD hC hs hL1 hL2 hLs h1 hj) (fun _ _ _ _ h => h) (by decide) (by decide) (by decide) (by decide), fun g hM => met_up (mX6_first_in l hD hM hs hL1 hL2 hLs h2 hj) (fun _ _ _ _ h => h) (by decide) (by decide) (by decide) (by decide)⟩

theorem pr_best (l : Launch) {D : va_G} {cI cJ cZ cW : ClassId} {ad : Nat → Nat} {A : Nat → Prop} (hD : ∀ g, va_D A (xw 81 ad g)) {q Wt : Nat} {w : Nat → Nat} {ln : Nat → Nat} {u : Nat → Nat → Nat} {T : Nat} {t : Nat → Nat} {tp bt : Int64} (hs : SrcI q Wt w ln u T t) (xa : Int32) : ∃ (r : Int32) (q' Wt' : Nat) (w' ln' : Nat → Nat) (u' : Nat → Nat → Nat) (T' : Nat) (t' : Nat → Nat) (tp' bt' : Int64), SrcI q' Wt' w' ln' u' T' t' ∧ (∀ g, ClsI cI cJ cZ cW ad g q Wt w ln u T t tp bt → Met l yX5_best wsX5_best rmU (va_Pc [.ref (ad 0), .int xa] (xB D (xT cI cJ cZ cW) ad g)) (va_Qi (fun r1 g2 => r1 = r ∧ ClsI cI cJ cZ cW ad g2 q' Wt' w' ln' u' T' t' tp' bt' ∧ ∀ j : Nat, 62 ≤ j → g2 j = g j) (xB D (xT cI cJ cZ cW) ad) A) 0 0 A) ∧ (∀ g, ModI cI cJ ad g q Wt w ln u T t tp bt → Met l yX6_best wsX6_best rmU (va_Pc [.ref (ad 62), .int xa] (xB D (xT cI cJ cZ cW) ad g)) (va_Qi (fun r1 g2 => r1 = r ∧ ModI cI cJ ad g2 q' Wt' w' ln' u' T' t' tp' bt' ∧ ∀ j : Nat, j < 62 → g2 j = g j) (xB D (xT cI cJ cZ cW) ad) A) 0 0 A) := by
  rcases slotW_cases ln xa with h | ⟨k, hk, rfl, hp⟩
  · exact ⟨_, q, Wt, w, ln, u, T, t, _, _, hs, fun g hC => met_up (mX5_best_no l hD hC hs h) (fun _ _ _ _ h => h) (by decide) (by decide) (by decide) (by decide), fun g hM => met_up (mX6_best_no l hD hM hs h) (fun _ _ _ _ h => h) (by decide) (by decide) (by decide) (by decide)⟩
  · by_cases hy : (∀ j, j < q → w j = w 0) ∧ 3 ≤ ln k
    · obtain ⟨ot, hot⟩ : ∃ ot, (k = 0 ∧ ot = 1) ∨ (0 < k ∧ ot = 0) := ⟨if k = 0 then 1 else 0, by split <;> omega⟩
      exact ⟨_, q, Wt, w, ln, u, T, t, _, _, hs, fun g hC => met_up (mX5_best_yes l hD hC hs hk rfl rfl rfl rfl rfl hp hy.1 hy.2 (bstOK_of hs.toP)) (fun _ _ _ _ h => h) (by decide) (by decide) (by decide) (by decide), fun g hM => met_up (mX6_best_yes l hD hM hs hk hp hot hy.1 hy.2 (bsOK_of hs.toP)) (fun _ _ _ _ h => h) (by decide) (by decide) (by decide) (by decide)⟩
    · have hno : ¬ (∀ j, j < q → w j = w 0) ∨ ln k < 3 := by
        rcases Classical.em (∀ j, j < q → w j = w 0) with h | h
        · exact Or.inr (Nat.lt_of_not_le (fun h2 => hy ⟨h, h2⟩))
        · exact Or.inl h
      exact ⟨_, q, Wt, w, ln, u, T, t, _, _, hs, fun g hC => met_up (mX5_best_not l hD hC hs hk rfl rfl rfl rfl rfl hp hno) (fun _ _ _ _ h => h) (by decide) (by decide) (by decide) (by decide), fun g hM => met_up (mX6_best_not l hD hM hs hk hp hno) (fun _ _ _ _ h => h) (by decide) (by decide) (by decide) (by decide)⟩

theorem pr_word (l : Launch) {D : va_G} {cI cJ cZ cW : ClassId} {ad : Nat → Nat} {A : Nat → Prop} (hD : ∀ g, va_D A (xw 81 ad g)) {q Wt : Nat} {w : Nat → Nat} {ln : Nat → Nat} {u : Nat → Nat → Nat} {T : Nat} {t : Nat → Nat} {tp bt : Int64} (hs : SrcI q Wt w ln u T t) (x : Int32) (n : Int32) (y : Int32) : ∃ (r : Int32) (q' Wt' : Nat) (w' ln' : Nat → Nat) (u' : Nat → Nat → Nat) (T' : Nat) (t' : Nat → Nat) (tp' bt' : Int64), SrcI q' Wt' w' ln' u' T' t' ∧ (∀ g, ClsI cI cJ cZ cW ad g q Wt w ln u T t tp bt → Met l yX5_word wsX5_word rmU (va_Pc [.ref (ad 0), .int x, .int n, .int y] (xB D (xT cI cJ cZ cW) ad g)) (va_Qi (fun r1 g2 => r1 = r ∧ ClsI cI cJ cZ cW ad g2 q' Wt' w' ln' u' T' t' tp' bt' ∧ ∀ j : Nat, 62 ≤ j → g2 j = g j) (xB D (xT cI cJ cZ cW) ad) A) 0 0 A) ∧ (∀ g, ModI cI cJ ad g q Wt w ln u T t tp bt → Met l yX6_word wsX6_word rmU (va_Pc [.ref (ad 62), .int x, .int n, .int y] (xB D (xT cI cJ cZ cW) ad g)) (va_Qi (fun r1 g2 => r1 = r ∧ ModI cI cJ ad g2 q' Wt' w' ln' u' T' t' tp' bt' ∧ ∀ j : Nat, j < 62 → g2 j = g j) (xB D (xT cI cJ cZ cW) ad) A) 0 0 A) := by
  rcases pk_ix x (n := 8) (by decide) with h | h | ⟨k, hk, rfl⟩
  · exact ⟨_, q, Wt, w, ln, u, T, t, tp, bt, hs, fun g hC => met_up (mX5_word_bad l hD hC hs (Or.inl h)) (fun _ _ _ _ h => h) (by decide) (by decide) (by decide) (by decide), fun g hM => met_up (mX6_word_bad l hD hM hs (Or.inl h)) (fun _ _ _ _ h => h) (by decide) (by decide) (by decide) (by decide)⟩
  · exact ⟨_, q, Wt, w, ln, u, T, t, tp, bt, hs, fun g hC => met_up (mX5_word_bad l hD hC hs (Or.inr h)) (fun _ _ _ _ h => h) (by decide) (by decide) (by decide) (by decide), fun g hM => met_up (mX6_word_bad l hD hM hs (Or.inr h)) (fun _ _ _ _ h => h) (by decide) (by decide) (by decide) (by decide)⟩
  · rcases okW_cases q n y with ⟨n1, cd, h1, h2, h3, h4, rfl, rfl, -⟩ | ⟨-, hb⟩
    · exact ⟨_, q, Wt, w, va_up ln k n1, va_up u k (dg q cd n1), T, t, tp, bt, hs.up h2 (fun j _ => dg_lt (by have := hs.1; omega)), fun g hC => met_up (mX5_word_in l hD hC hs hk rfl h1 h2 h3) (fun _ _ _ _ h => h) (by decide) (by decide) (by decide) (by decide), fun g hM => met_up (mX6_word_in l hD hM hs hk h1 h2 h3) (fun _ _ _ _ h => h) (by decide) (by decide) (by decide) (by decide)⟩
    · exact ⟨_, q, Wt, w, ln, u, T, t, tp, bt, hs, fun g hC => met_up (mX5_word_no l hD hC hs hk rfl hb) (fun _ _ _ _ h => h) (by decide) (by decide) (by decide) (by decide), fun g hM => met_up (mX6_word_no l hD hM hs hk hb) (fun _ _ _ _ h => h) (by decide) (by decide) (by decide) (by decide)⟩

theorem pr_drop (l : Launch) {D : va_G} {cI cJ cZ cW : ClassId} {ad : Nat → Nat} {A : Nat → Prop} (hD : ∀ g, va_D A (xw 81 ad g)) {q Wt : Nat} {w : Nat → Nat} {ln : Nat → Nat} {u : Nat → Nat → Nat} {T : Nat} {t : Nat → Nat} {tp bt : Int64} (hs : SrcI q Wt w ln u T t) (xa : Int32) : ∃ (r : Int32) (q' Wt' : Nat) (w' ln' : Nat → Nat) (u' : Nat → Nat → Nat) (T' : Nat) (t' : Nat → Nat) (tp' bt' : Int64), SrcI q' Wt' w' ln' u' T' t' ∧ (∀ g, ClsI cI cJ cZ cW ad g q Wt w ln u T t tp bt → Met l yX5_drop wsX5_drop rmU (va_Pc [.ref (ad 0), .int xa] (xB D (xT cI cJ cZ cW) ad g)) (va_Qi (fun r1 g2 => r1 = r ∧ ClsI cI cJ cZ cW ad g2 q' Wt' w' ln' u' T' t' tp' bt' ∧ ∀ j : Nat, 62 ≤ j → g2 j = g j) (xB D (xT cI cJ cZ cW) ad) A) 0 0 A) ∧ (∀ g, ModI cI cJ ad g q Wt w ln u T t tp bt → Met l yX6_drop wsX6_drop rmU (va_Pc [.ref (ad 62), .int xa] (xB D (xT cI cJ cZ cW) ad g)) (va_Qi (fun r1 g2 => r1 = r ∧ ModI cI cJ ad g2 q' Wt' w' ln' u' T' t' tp' bt' ∧ ∀ j : Nat, j < 62 → g2 j = g j) (xB D (xT cI cJ cZ cW) ad) A) 0 0 A) := by
  have h1 := fun g hC => mX5_drop l hD (g := g) (tp := tp) (bt := bt) hC hs xa (cI := cI) (cJ := cJ) (cZ := cZ) (cW := cW) (D := D)
  have h2 := fun g hM => mX6_drop l hD (g := g) (tp := tp) (bt := bt) hM hs xa (cI := cI) (cJ := cJ) (cZ := cZ) (cW := cW) (D := D)
  cases e : slotW ln xa with
  | none =>
    simp only [e] at h1 h2
    exact ⟨_, q, Wt, w, ln, u, T, t, tp, bt, hs, fun g hC => met_up (h1 g hC) (fun _ _ _ _ h => h) (by decide) (by decide) (by decide) (by decide), fun g hM => met_up (h2 g hM) (fun _ _ _ _ h => h) (by decide) (by decide) (by decide) (by decide)⟩
  | some k =>
    simp only [e] at h1 h2
    exact ⟨_, q, Wt, w, va_up ln k 0, va_up u k (u k), T, t, tp, bt, hs.up (by decide) (fun j hj => absurd hj (by omega)), fun g hC => met_up (h1 g hC) (fun _ _ _ _ h => h) (by decide) (by decide) (by decide) (by decide), fun g hM => met_up (h2 g hM) (fun _ _ _ _ h => h) (by decide) (by decide) (by decide) (by decide)⟩

theorem pr_source (l : Launch) {D : va_G} {cI cJ cZ cW : ClassId} {ad : Nat → Nat} {A : Nat → Prop} (hD : ∀ g, va_D A (xw 81 ad g)) {q Wt : Nat} {w : Nat → Nat} {ln : Nat → Nat} {u : Nat → Nat → Nat} {T : Nat} {t : Nat → Nat} {tp bt : Int64} (hs : SrcI q Wt w ln u T t) (x : Int32) (xa : Int32) (xb : Int32) (xc : Int32) (xd : Int32) : ∃ (r : Int32) (q' Wt' : Nat) (w' ln' : Nat → Nat) (u' : Nat → Nat → Nat) (T' : Nat) (t' : Nat → Nat) (tp' bt' : Int64), SrcI q' Wt' w' ln' u' T' t' ∧ (∀ g, ClsI cI cJ cZ cW ad g q Wt w ln u T t tp bt → Met l yX5_source wsX5_source rmU (va_Pc [.ref (ad 0), .int x, .int xa, .int xb, .int xc, .int xd] (xB D (xT cI cJ cZ cW) ad g)) (va_Qi (fun r1 g2 => r1 = r ∧ ClsI cI cJ cZ cW ad g2 q' Wt' w' ln' u' T' t' tp' bt' ∧ ∀ j : Nat, 62 ≤ j → g2 j = g j) (xB D (xT cI cJ cZ cW) ad) A) 0 0 A) ∧ (∀ g, ModI cI cJ ad g q Wt w ln u T t tp bt → Met l yX6_source wsX6_source rmU (va_Pc [.ref (ad 62), .int x, .int xa, .int xb, .int xc, .int xd] (xB D (xT cI cJ cZ cW) ad g)) (va_Qi (fun r1 g2 => r1 = r ∧ ModI cI cJ ad g2 q' Wt' w' ln' u' T' t' tp' bt' ∧ ∀ j : Nat, j < 62 → g2 j = g j) (xB D (xT cI cJ cZ cW) ad) A) 0 0 A) := by
  have hc : (x < nI 2 ∨ nI 4 < x) ∨ x = nI 2 ∨ x = nI 3 ∨ x = nI 4 := by
    rcases xin x (n := 4) (by decide) with h | ⟨j, hj, rfl⟩
    · exact Or.inl (h.imp (fun h => by rw [Int32.lt_iff_toInt_lt] at h ⊢; have e1 : (nI 2).toInt = 2 := (by decide); have e0 : (0 : Int32).toInt = 0 := (by decide); omega) id)
    · rcases (show j = 0 ∨ j = 1 ∨ j = 2 ∨ j = 3 ∨ j = 4 by omega) with rfl | rfl | rfl | rfl | rfl
      · exact Or.inl (Or.inl (by decide))
      · exact Or.inl (Or.inl (by decide))
      · exact Or.inr (Or.inl rfl)
      · exact Or.inr (Or.inr (Or.inl rfl))
      · exact Or.inr (Or.inr (Or.inr rfl))
  rcases hc with h | rfl | rfl | rfl
  · exact ⟨_, q, Wt, w, ln, u, T, t, tp, bt, hs, fun g hC => met_up (mX5_source_no l hD hC hs h) (fun _ _ _ _ h => h) (by decide) (by decide) (by decide) (by decide), fun g hM => met_up (mX6_source_no l hD hM hs h) (fun _ _ _ _ h => h) (by decide) (by decide) (by decide) (by decide)⟩
  · by_cases hsum : hf xa + hf xb + 0 + 0 ≤ 4
    · have a1 := hf_1 xa; have a2 := hf_1 xb; have a3 := hf_1 xc; have a4 := hf_1 xd
      have hsr : SrcI 2 (hf xa + hf xb + 0 + 0) (wt4 (hf xa) (hf xb) (0) (0)) (fun _ => 0) u 0 t := SrcI.src (by decide) (by decide) (fun j hj => by
        rcases (show j = 0 ∨ j = 1 by omega) with rfl | rfl <;> (show 1 ≤ hf _; assumption)) (fun j hj => by
        unfold wt4
        (split; omega; split; omega; split; (first | omega | rfl); split <;> (first | omega | rfl))) (by show 0 + hf xa + hf xb = _; omega) hsum (fun j hj => by
        rcases (show j = 0 ∨ j = 1 ∨ j = 2 ∨ j = 3 by omega) with rfl | rfl | rfl | rfl
        · show hf xa ≤ 4; omega
        · show hf xb ≤ 4; omega
        · show 0 ≤ 4; omega
        · show 0 ≤ 4; omega)
      exact ⟨_, 2, _, wt4 (hf xa) (hf xb) (0) (0), fun _ => 0, u, 0, t, tp, bt, hsr, fun g hC => met_up (mX5_source2 l hD hC hs) (qi_to (fun r g2 h => h.elim (fun h => ⟨h.1, h.2.2⟩) (fun h => absurd hsum (by omega)))) (by decide) (by decide) (by decide) (by decide), fun g hM => met_up (mX6_source2 l hD hM hs) (qi_to (fun r g2 h => h.elim (fun h => ⟨h.1, h.2.2⟩) (fun h => absurd hsum (by omega)))) (by decide) (by decide) (by decide) (by decide)⟩
    · exact ⟨-1, q, Wt, w, ln, u, T, t, tp, bt, hs, fun g hC => met_up (mX5_source2 l hD hC hs) (qi_to (fun r g2 h => h.elim (fun h => absurd h.2.1 hsum) (fun h => ⟨h.1, h.2.2⟩))) (by decide) (by decide) (by decide) (by decide), fun g hM => met_up (mX6_source2 l hD hM hs) (qi_to (fun r g2 h => h.elim (fun h => absurd h.2.1 hsum) (fun h => ⟨h.1, h.2.2⟩))) (by decide) (by decide) (by decide) (by decide)⟩
  · by_cases hsum : hf xa + hf xb + hf xc + 0 ≤ 4
    · have a1 := hf_1 xa; have a2 := hf_1 xb; have a3 := hf_1 xc; have a4 := hf_1 xd
      have hsr : SrcI 3 (hf xa + hf xb + hf xc + 0) (wt4 (hf xa) (hf xb) (hf xc) (0)) (fun _ => 0) u 0 t := SrcI.src (by decide) (by decide) (fun j hj => by
        rcases (show j = 0 ∨ j = 1 ∨ j = 2 by omega) with rfl | rfl | rfl <;> (show 1 ≤ hf _; assumption)) (fun j hj => by
        unfold wt4
        (split; omega; split; omega; split; (first | omega | rfl); split <;> (first | omega | rfl))) (by show 0 + hf xa + hf xb + hf xc = _; omega) hsum (fun j hj => by
        rcases (show j = 0 ∨ j = 1 ∨ j = 2 ∨ j = 3 by omega) with rfl | rfl | rfl | rfl
        · show hf xa ≤ 4; omega
        · show hf xb ≤ 4; omega
        · show hf xc ≤ 4; omega
        · show 0 ≤ 4; omega)
      exact ⟨_, 3, _, wt4 (hf xa) (hf xb) (hf xc) (0), fun _ => 0, u, 0, t, tp, bt, hsr, fun g hC => met_up (mX5_source3 l hD hC hs) (qi_to (fun r g2 h => h.elim (fun h => ⟨h.1, h.2.2⟩) (fun h => absurd hsum (by omega)))) (by decide) (by decide) (by decide) (by decide), fun g hM => met_up (mX6_source3 l hD hM hs) (qi_to (fun r g2 h => h.elim (fun h => ⟨h.1, h.2.2⟩) (fun h => absurd hsum (by omega)))) (by decide) (by decide) (by decide) (by decide)⟩
    · exact ⟨-1, q, Wt, w, ln, u, T, t, tp, bt, hs, fun g hC => met_up (mX5_source3 l hD hC hs) (qi_to (fun r g2 h => h.elim (fun h => absurd h.2.1 hsum) (fun h => ⟨h.1, h.2.2⟩))) (by decide) (by decide) (by decide) (by decide), fun g hM => met_up (mX6_source3 l hD hM hs) (qi_to (fun r g2 h => h.elim (fun h => absurd h.2.1 hsum) (fun h => ⟨h.1, h.2.2⟩))) (by decide) (by decide) (by decide) (by decide)⟩
  · by_cases hsum : hf xa + hf xb + hf xc + hf xd ≤ 4
    · have a1 := hf_1 xa; have a2 := hf_1 xb; have a3 := hf_1 xc; have a4 := hf_1 xd
      have hsr : SrcI 4 (hf xa + hf xb + hf xc + hf xd) (wt4 (hf xa) (hf xb) (hf xc) (hf xd)) (fun _ => 0) u 0 t := SrcI.src (by decide) (by decide) (fun j hj => by
        rcases (show j = 0 ∨ j = 1 ∨ j = 2 ∨ j = 3 by omega) with rfl | rfl | rfl | rfl <;> (show 1 ≤ hf _; assumption)) (fun j hj => by
        unfold wt4
        (split; omega; split; omega; split; (first | omega | rfl); split <;> (first | omega | rfl))) (by show 0 + hf xa + hf xb + hf xc + hf xd = _; omega) hsum (fun j hj => by
        rcases (show j = 0 ∨ j = 1 ∨ j = 2 ∨ j = 3 by omega) with rfl | rfl | rfl | rfl
        · show hf xa ≤ 4; omega
        · show hf xb ≤ 4; omega
        · show hf xc ≤ 4; omega
        · show hf xd ≤ 4; omega)
      exact ⟨_, 4, _, wt4 (hf xa) (hf xb) (hf xc) (hf xd), fun _ => 0, u, 0, t, tp, bt, hsr, fun g hC => met_up (mX5_source4 l hD hC hs) (qi_to (fun r g2 h => h.elim (fun h => ⟨h.1, h.2.2⟩) (fun h => absurd hsum (by omega)))) (by decide) (by decide) (by decide) (by decide), fun g hM => met_up (mX6_source4 l hD hM hs) (qi_to (fun r g2 h => h.elim (fun h => ⟨h.1, h.2.2⟩) (fun h => absurd hsum (by omega)))) (by decide) (by decide) (by decide) (by decide)⟩
    · exact ⟨-1, q, Wt, w, ln, u, T, t, tp, bt, hs, fun g hC => met_up (mX5_source4 l hD hC hs) (qi_to (fun r g2 h => h.elim (fun h => absurd h.2.1 hsum) (fun h => ⟨h.1, h.2.2⟩))) (by decide) (by decide) (by decide) (by decide), fun g hM => met_up (mX6_source4 l hD hM hs) (qi_to (fun r g2 h => h.elim (fun h => absurd h.2.1 hsum) (fun h => ⟨h.1, h.2.2⟩))) (by decide) (by decide) (by decide) (by decide)⟩

theorem pr_draw (l : Launch) {D : va_G} {cI cJ cZ cW : ClassId} {ad : Nat → Nat} {A : Nat → Prop} (hD : ∀ g, va_D A (xw 81 ad g)) {q Wt : Nat} {w : Nat → Nat} {ln : Nat → Nat} {u : Nat → Nat → Nat} {T : Nat} {t : Nat → Nat} {tp bt : Int64} (hs : SrcI q Wt w ln u T t) (s0 : Int32) (x : Int32) : ∃ (r : Int32) (q' Wt' : Nat) (w' ln' : Nat → Nat) (u' : Nat → Nat → Nat) (T' : Nat) (t' : Nat → Nat) (tp' bt' : Int64), SrcI q' Wt' w' ln' u' T' t' ∧ (∀ g, ClsI cI cJ cZ cW ad g q Wt w ln u T t tp bt → Met l yX5_draw wsX5_draw rmU (va_Pc [.ref (ad 0), .int s0, .int x] (xB D (xT cI cJ cZ cW) ad g)) (va_Qi (fun r1 g2 => r1 = r ∧ ClsI cI cJ cZ cW ad g2 q' Wt' w' ln' u' T' t' tp' bt' ∧ ∀ j : Nat, 62 ≤ j → g2 j = g j) (xB D (xT cI cJ cZ cW) ad) A) 0 0 A) ∧ (∀ g, ModI cI cJ ad g q Wt w ln u T t tp bt → Met l yX6_draw wsX6_draw rmU (va_Pc [.ref (ad 62), .int s0, .int x] (xB D (xT cI cJ cZ cW) ad g)) (va_Qi (fun r1 g2 => r1 = r ∧ ModI cI cJ ad g2 q' Wt' w' ln' u' T' t' tp' bt' ∧ ∀ j : Nat, j < 62 → g2 j = g j) (xB D (xT cI cJ cZ cW) ad) A) 0 0 A) := by
  rcases xin x (n := 300) (by decide) with h | ⟨j, hj, rfl⟩
  · exact ⟨_, q, Wt, w, ln, u, T, t, tp, bt, hs, fun g hC => met_up (mX5_draw_bad l hD hC hs h) (fun _ _ _ _ h => h) (by decide) (by decide) (by decide) (by decide), fun g hM => met_up (mX6_draw_bad l hD hM hs h) (fun _ _ _ _ h => h) (by decide) (by decide) (by decide) (by decide)⟩
  · exact ⟨_, q, Wt, w, ln, u, j, drw q Wt w s0, tp, bt, hs.text hj (fun i _ => drw_lt hs), fun g hC => met_up (mX5_draw_in l hD hC hs hj) (fun _ _ _ _ h => h) (by decide) (by decide) (by decide) (by decide), fun g hM => met_up (mX6_draw_in l hD hM hs hj) (fun _ _ _ _ h => h) (by decide) (by decide) (by decide) (by decide)⟩

theorem pr_add (l : Launch) {D : va_G} {cI cJ cZ cW : ClassId} {ad : Nat → Nat} {A : Nat → Prop} (hD : ∀ g, va_D A (xw 81 ad g)) {q Wt : Nat} {w : Nat → Nat} {ln : Nat → Nat} {u : Nat → Nat → Nat} {T : Nat} {t : Nat → Nat} {tp bt : Int64} (hs : SrcI q Wt w ln u T t) (x : Int32) : ∃ (r : Int32) (q' Wt' : Nat) (w' ln' : Nat → Nat) (u' : Nat → Nat → Nat) (T' : Nat) (t' : Nat → Nat) (tp' bt' : Int64), SrcI q' Wt' w' ln' u' T' t' ∧ (∀ g, ClsI cI cJ cZ cW ad g q Wt w ln u T t tp bt → Met l yX5_add wsX5_add rmU (va_Pc [.ref (ad 0), .int x] (xB D (xT cI cJ cZ cW) ad g)) (va_Qi (fun r1 g2 => r1 = r ∧ ClsI cI cJ cZ cW ad g2 q' Wt' w' ln' u' T' t' tp' bt' ∧ ∀ j : Nat, 62 ≤ j → g2 j = g j) (xB D (xT cI cJ cZ cW) ad) A) 0 0 A) ∧ (∀ g, ModI cI cJ ad g q Wt w ln u T t tp bt → Met l yX6_add_ wsX6_add_ rmU (va_Pc [.ref (ad 62), .int x] (xB D (xT cI cJ cZ cW) ad g)) (va_Qi (fun r1 g2 => r1 = r ∧ ModI cI cJ ad g2 q' Wt' w' ln' u' T' t' tp' bt' ∧ ∀ j : Nat, j < 62 → g2 j = g j) (xB D (xT cI cJ cZ cW) ad) A) 0 0 A) := by
  have hq := hs.1
  have hq4 := hs.2.1
  have hT := hs.2.2.2.2.2.2.2.2.2.1
  rcases pk_ix x (n := q) (by omega) with h | h | ⟨j, hj, rfl⟩
  · exact ⟨_, q, Wt, w, ln, u, T, t, tp, bt, hs, fun g hC => met_up (mX5_add_bad l hD hC hs (Or.inl h)) (fun _ _ _ _ h => h) (by decide) (by decide) (by decide) (by decide), fun g hM => met_up (mX6_add_bad l hD hM hs (Or.inl h)) (fun _ _ _ _ h => h) (by decide) (by decide) (by decide) (by decide)⟩
  · exact ⟨_, q, Wt, w, ln, u, T, t, tp, bt, hs, fun g hC => met_up (mX5_add_bad l hD hC hs (Or.inr h)) (fun _ _ _ _ h => h) (by decide) (by decide) (by decide) (by decide), fun g hM => met_up (mX6_add_bad l hD hM hs (Or.inr h)) (fun _ _ _ _ h => h) (by decide) (by decide) (by decide) (by decide)⟩
  · rcases (show T < 300 ∨ T = 300 by omega) with h | h
    · exact ⟨_, q, Wt, w, ln, u, T + 1, va_up t T j, tp, bt, hs.text (by omega) (fun i hi => by by_cases e : i = T; (rw [e, va_up_self]; exact hj); rw [va_up_ne _ _ e]; exact hs.2.2.2.2.2.2.2.2.2.2 i (by omega)), fun g hC => met_up (mX5_add_in l hD hC hs hj h) (fun _ _ _ _ h => h) (by decide) (by decide) (by decide) (by decide), fun g hM => met_up (mX6_add_in l hD hM hs hj h) (fun _ _ _ _ h => h) (by decide) (by decide) (by decide) (by decide)⟩
    · exact ⟨_, q, Wt, w, ln, u, T, t, tp, bt, hs, fun g hC => met_up (mX5_add_full l hD hC hs hj h) (fun _ _ _ _ h => h) (by decide) (by decide) (by decide) (by decide), fun g hM => met_up (mX6_add_full l hD hM hs hj h) (fun _ _ _ _ h => h) (by decide) (by decide) (by decide) (by decide)⟩

theorem pr_tell (l : Launch) {D : va_G} {cI cJ cZ cW : ClassId} {ad : Nat → Nat} {A : Nat → Prop} (hD : ∀ g, va_D A (xw 81 ad g)) {q Wt : Nat} {w : Nat → Nat} {ln : Nat → Nat} {u : Nat → Nat → Nat} {T : Nat} {t : Nat → Nat} {tp bt : Int64} (hs : SrcI q Wt w ln u T t) (xa : Int32) (y : Int32) : ∃ r : Int32, (∀ g, ClsI cI cJ cZ cW ad g q Wt w ln u T t tp bt → Met l yX5_tell wsX5_tell rmU (va_Pc [.ref (ad 0), .int xa, .int y] (xB D (xT cI cJ cZ cW) ad g)) (vp_Si (fun x => x = r)) 0 0 (fun _ => False)) ∧ (∀ g, ModI cI cJ ad g q Wt w ln u T t tp bt → Met l yX6_tell wsX6_tell rmU (va_Pc [.ref (ad 62), .int xa, .int y] (xB D (xT cI cJ cZ cW) ad g)) (vp_Si (fun x => x = r)) 0 0 (fun _ => False)) := by
  exact ⟨_, fun g hC => met_up (mX5_tell l hC hs xa) (fun _ _ _ _ h => h) (by decide) (by decide) (by decide) (by decide), fun g hM => met_up (mX6_tell l hM hs xa) (fun _ _ _ _ h => h) (by decide) (by decide) (by decide) (by decide)⟩

theorem pr_laps (l : Launch) {D : va_G} {cI cJ cZ cW : ClassId} {ad : Nat → Nat} {A : Nat → Prop} (hD : ∀ g, va_D A (xw 81 ad g)) {q Wt : Nat} {w : Nat → Nat} {ln : Nat → Nat} {u : Nat → Nat → Nat} {T : Nat} {t : Nat → Nat} {tp bt : Int64} (hs : SrcI q Wt w ln u T t) (xa : Int32) (xb : Int32) : ∃ r : Int32, (∀ g, ClsI cI cJ cZ cW ad g q Wt w ln u T t tp bt → Met l yX5_laps wsX5_laps rmU (va_Pc [.ref (ad 0), .int xa, .int xb] (xB D (xT cI cJ cZ cW) ad g)) (vp_Si (fun x => x = r)) 0 0 (fun _ => False)) ∧ (∀ g, ModI cI cJ ad g q Wt w ln u T t tp bt → Met l yX6_laps wsX6_laps rmU (va_Pc [.ref (ad 62), .int xa, .int xb] (xB D (xT cI cJ cZ cW) ad g)) (vp_Si (fun x => x = r)) 0 0 (fun _ => False)) := by
  exact ⟨_, fun g hC => met_up (mX5_laps l hC hs xa xb) (fun _ _ _ _ h => h) (by decide) (by decide) (by decide) (by decide), fun g hM => met_up (mX6_laps l hM hs xa xb) (fun _ _ _ _ h => h) (by decide) (by decide) (by decide) (by decide)⟩

theorem pr_within (l : Launch) {D : va_G} {cI cJ cZ cW : ClassId} {ad : Nat → Nat} {A : Nat → Prop} (hD : ∀ g, va_D A (xw 81 ad g)) {q Wt : Nat} {w : Nat → Nat} {ln : Nat → Nat} {u : Nat → Nat → Nat} {T : Nat} {t : Nat → Nat} {tp bt : Int64} (hs : SrcI q Wt w ln u T t) (xa : Int32) (xb : Int32) : ∃ r : Int32, (∀ g, ClsI cI cJ cZ cW ad g q Wt w ln u T t tp bt → Met l yX5_within wsX5_within rmU (va_Pc [.ref (ad 0), .int xa, .int xb] (xB D (xT cI cJ cZ cW) ad g)) (vp_Si (fun x => x = r)) 0 0 (fun _ => False)) ∧ (∀ g, ModI cI cJ ad g q Wt w ln u T t tp bt → Met l yX6_within wsX6_within rmU (va_Pc [.ref (ad 62), .int xa, .int xb] (xB D (xT cI cJ cZ cW) ad g)) (vp_Si (fun x => x = r)) 0 0 (fun _ => False)) := by
  exact ⟨_, fun g hC => met_up (mX5_within l hC hs xa xb) (fun _ _ _ _ h => h) (by decide) (by decide) (by decide) (by decide), fun g hM => met_up (mX6_within l hM hs xa xb) (fun _ _ _ _ h => h) (by decide) (by decide) (by decide) (by decide)⟩

theorem pr_top (l : Launch) {D : va_G} {cI cJ cZ cW : ClassId} {ad : Nat → Nat} {A : Nat → Prop} (hD : ∀ g, va_D A (xw 81 ad g)) {q Wt : Nat} {w : Nat → Nat} {ln : Nat → Nat} {u : Nat → Nat → Nat} {T : Nat} {t : Nat → Nat} {tp bt : Int64} (hs : SrcI q Wt w ln u T t) : ∃ r : Int64, (∀ g, ClsI cI cJ cZ cW ad g q Wt w ln u T t tp bt → Met l yX5_top wsX5_top rmU (va_Pc [.ref (ad 0)] (xB D (xT cI cJ cZ cW) ad g)) (vp_Sl (fun x => x = r)) 0 0 (fun _ => False)) ∧ (∀ g, ModI cI cJ ad g q Wt w ln u T t tp bt → Met l yX6_top wsX6_top rmU (va_Pc [.ref (ad 62)] (xB D (xT cI cJ cZ cW) ad g)) (vp_Sl (fun x => x = r)) 0 0 (fun _ => False)) := by
  exact ⟨_, fun g hC => met_up (mX5_top l hC hs) (fun _ _ _ _ h => h) (by decide) (by decide) (by decide) (by decide), fun g hM => met_up (mX6_top l hM hs) (fun _ _ _ _ h => h) (by decide) (by decide) (by decide) (by decide)⟩

theorem pr_bottom (l : Launch) {D : va_G} {cI cJ cZ cW : ClassId} {ad : Nat → Nat} {A : Nat → Prop} (hD : ∀ g, va_D A (xw 81 ad g)) {q Wt : Nat} {w : Nat → Nat} {ln : Nat → Nat} {u : Nat → Nat → Nat} {T : Nat} {t : Nat → Nat} {tp bt : Int64} (hs : SrcI q Wt w ln u T t) : ∃ r : Int64, (∀ g, ClsI cI cJ cZ cW ad g q Wt w ln u T t tp bt → Met l yX5_bottom wsX5_bottom rmU (va_Pc [.ref (ad 0)] (xB D (xT cI cJ cZ cW) ad g)) (vp_Sl (fun x => x = r)) 0 0 (fun _ => False)) ∧ (∀ g, ModI cI cJ ad g q Wt w ln u T t tp bt → Met l yX6_bottom wsX6_bottom rmU (va_Pc [.ref (ad 62)] (xB D (xT cI cJ cZ cW) ad g)) (vp_Sl (fun x => x = r)) 0 0 (fun _ => False)) := by
  exact ⟨_, fun g hC => met_up (mX5_bottom l hC hs) (fun _ _ _ _ h => h) (by decide) (by decide) (by decide) (by decide), fun g hM => met_up (mX6_bottom l hM hs) (fun _ _ _ _ h => h) (by decide) (by decide) (by decide) (by decide)⟩

theorem pr_letter (l : Launch) {D : va_G} {cI cJ cZ cW : ClassId} {ad : Nat → Nat} {A : Nat → Prop} (hD : ∀ g, va_D A (xw 81 ad g)) {q Wt : Nat} {w : Nat → Nat} {ln : Nat → Nat} {u : Nat → Nat → Nat} {T : Nat} {t : Nat → Nat} {tp bt : Int64} (hs : SrcI q Wt w ln u T t) (x : Int32) : ∃ r : Int32, (∀ g, ClsI cI cJ cZ cW ad g q Wt w ln u T t tp bt → Met l yX5_letter wsX5_letter rmU (va_Pc [.ref (ad 0), .int x] (xB D (xT cI cJ cZ cW) ad g)) (vp_Si (fun x => x = r)) 0 0 (fun _ => False)) ∧ (∀ g, ModI cI cJ ad g q Wt w ln u T t tp bt → Met l yX6_letter wsX6_letter rmU (va_Pc [.ref (ad 62), .int x] (xB D (xT cI cJ cZ cW) ad g)) (vp_Si (fun x => x = r)) 0 0 (fun _ => False)) := by
  have hT := hs.2.2.2.2.2.2.2.2.2.1
  rcases pk_ix x (n := T) (by omega) with h | h | ⟨j, hj, rfl⟩
  · exact ⟨_, fun g hC => met_up (mX5_letter_out l hC hs (Or.inl h)) (fun _ _ _ _ h => h) (by decide) (by decide) (by decide) (by decide), fun g hM => met_up (mX6_letter_out l hM hs (Or.inl h)) (fun _ _ _ _ h => h) (by decide) (by decide) (by decide) (by decide)⟩
  · exact ⟨_, fun g hC => met_up (mX5_letter_out l hC hs (Or.inr h)) (fun _ _ _ _ h => h) (by decide) (by decide) (by decide) (by decide), fun g hM => met_up (mX6_letter_out l hM hs (Or.inr h)) (fun _ _ _ _ h => h) (by decide) (by decide) (by decide) (by decide)⟩
  · exact ⟨_, fun g hC => met_up (mX5_letter_in l hC hs hj) (fun _ _ _ _ h => h) (by decide) (by decide) (by decide) (by decide), fun g hM => met_up (mX6_letter_in l hM hs hj) (fun _ _ _ _ h => h) (by decide) (by decide) (by decide) (by decide)⟩

theorem pr_came (l : Launch) {D : va_G} {cI cJ cZ cW : ClassId} {ad : Nat → Nat} {A : Nat → Prop} (hD : ∀ g, va_D A (xw 81 ad g)) {q Wt : Nat} {w : Nat → Nat} {ln : Nat → Nat} {u : Nat → Nat → Nat} {T : Nat} {t : Nat → Nat} {tp bt : Int64} (hs : SrcI q Wt w ln u T t) (xa : Int32) (y : Int32) : ∃ r : Int32, (∀ g, ClsI cI cJ cZ cW ad g q Wt w ln u T t tp bt → Met l yX5_came wsX5_came rmU (va_Pc [.ref (ad 0), .int xa, .int y] (xB D (xT cI cJ cZ cW) ad g)) (vp_Si (fun x => x = r)) 0 0 (fun _ => False)) ∧ (∀ g, ModI cI cJ ad g q Wt w ln u T t tp bt → Met l yX6_came wsX6_came rmU (va_Pc [.ref (ad 62), .int xa, .int y] (xB D (xT cI cJ cZ cW) ad g)) (vp_Si (fun x => x = r)) 0 0 (fun _ => False)) := by
  rcases xin y (n := 1) (by decide) with h | ⟨j, hj, rfl⟩
  · exact ⟨_, fun g hC => met_up (mX5_camex l hC hs h xa) (fun _ _ _ _ h => h) (by decide) (by decide) (by decide) (by decide), fun g hM => met_up (mX6_camex l hM hs (h.imp id x02) xa) (fun _ _ _ _ h => h) (by decide) (by decide) (by decide) (by decide)⟩
  · rcases (show j = 0 ∨ j = 1 by omega) with rfl | rfl
    · exact ⟨_, fun g hC => met_up (mX5_came0 l hC hs xa) (fun _ _ _ _ h => h) (by decide) (by decide) (by decide) (by decide), fun g hM => met_up (mX6_came0 l hM hs xa) (fun _ _ _ _ h => h) (by decide) (by decide) (by decide) (by decide)⟩
    · exact ⟨_, fun g hC => met_up (mX5_came1 l hC hs xa) (fun _ _ _ _ h => h) (by decide) (by decide) (by decide) (by decide), fun g hM => met_up (mX6_came1 l hM hs xa) (fun _ _ _ _ h => h) (by decide) (by decide) (by decide) (by decide)⟩

theorem pr_covered (l : Launch) {D : va_G} {cI cJ cZ cW : ClassId} {ad : Nat → Nat} {A : Nat → Prop} (hD : ∀ g, va_D A (xw 81 ad g)) {q Wt : Nat} {w : Nat → Nat} {ln : Nat → Nat} {u : Nat → Nat → Nat} {T : Nat} {t : Nat → Nat} {tp bt : Int64} (hs : SrcI q Wt w ln u T t) (x : Int32) : ∃ r : Int64, (∀ g, ClsI cI cJ cZ cW ad g q Wt w ln u T t tp bt → Met l yX5_covered wsX5_covered rmU (va_Pc [.ref (ad 0), .int x] (xB D (xT cI cJ cZ cW) ad g)) (vp_Sl (fun x => x = r)) 0 0 (fun _ => False)) ∧ (∀ g, ModI cI cJ ad g q Wt w ln u T t tp bt → Met l yX6_covered wsX6_covered rmU (va_Pc [.ref (ad 62), .int x] (xB D (xT cI cJ cZ cW) ad g)) (va_Ql (fun r1 g2 => r1 = r ∧ ModI cI cJ ad g2 q Wt w ln u T t tp bt ∧ ∀ j : Nat, j < 62 → g2 j = g j) (xB D (xT cI cJ cZ cW) ad) A) 0 0 A) := by
  rcases xin x (n := 30) (by decide) with h | ⟨j, hj, rfl⟩
  · exact ⟨-1, fun g hC => met_up (mX5_covered_bad l hC hs h) (fun _ _ _ _ h => h) (by decide) (by decide) (by decide) (by decide), fun g hM => met_up (mX6_covered_bad l hD hM hs (h.imp id x31)) (fun _ _ _ _ h => h) (by decide) (by decide) (by decide) (by decide)⟩
  · have e := covered_eq (n := j) hs.2.1 (afOK_of hs.1 hs.2.1 hs.2.2.1 hs.2.2.2.1 hs.2.2.2.2.1 hs.2.2.2.2.2.1)
    refine ⟨_, fun g hC => met_up (mX5_covered_in l hC hs hj) (fun _ _ _ _ h => h) (by decide) (by decide) (by decide) (by decide), fun g hM => ?_⟩
    rw [← e]
    exact met_up (mX6_covered_in l hD hM hs hj) (fun _ _ _ _ h => h) (by decide) (by decide) (by decide) (by decide)

theorem pr_never (l : Launch) {D : va_G} {cI cJ cZ cW : ClassId} {ad : Nat → Nat} {A : Nat → Prop} (hD : ∀ g, va_D A (xw 81 ad g)) {q Wt : Nat} {w : Nat → Nat} {ln : Nat → Nat} {u : Nat → Nat → Nat} {T : Nat} {t : Nat → Nat} {tp bt : Int64} (hs : SrcI q Wt w ln u T t) (xs : Int32) (x : Int32) : ∃ (r : Int64) (q' Wt' : Nat) (w' ln' : Nat → Nat) (u' : Nat → Nat → Nat) (T' : Nat) (t' : Nat → Nat) (tp' bt' : Int64), SrcI q' Wt' w' ln' u' T' t' ∧ (∀ g, ClsI cI cJ cZ cW ad g q Wt w ln u T t tp bt → Met l yX5_never wsX5_never rmU (va_Pc [.ref (ad 0), .int xs, .int x] (xB D (xT cI cJ cZ cW) ad g)) (va_Ql (fun r1 g2 => r1 = r ∧ ClsI cI cJ cZ cW ad g2 q' Wt' w' ln' u' T' t' tp' bt' ∧ ∀ j : Nat, 62 ≤ j → g2 j = g j) (xB D (xT cI cJ cZ cW) ad) A) 0 0 A) ∧ (∀ g, ModI cI cJ ad g q Wt w ln u T t tp bt → Met l yX6_never wsX6_never rmU (va_Pc [.ref (ad 62), .int xs, .int x] (xB D (xT cI cJ cZ cW) ad g)) (va_Ql (fun r1 g2 => r1 = r ∧ ModI cI cJ ad g2 q' Wt' w' ln' u' T' t' tp' bt' ∧ ∀ j : Nat, j < 62 → g2 j = g j) (xB D (xT cI cJ cZ cW) ad) A) 0 0 A) := by
  rcases xin x (n := 30) (by decide) with h | ⟨j, hj, rfl⟩
  · exact ⟨_, q, Wt, w, ln, u, T, t, tp, bt, hs, fun g hC => met_up (mX5_never_bad l hD hC hs h) (fun _ _ _ _ h => h) (by decide) (by decide) (by decide) (by decide), fun g hM => met_up (mX6_never_bad l hD hM hs (h.imp id x31)) (fun _ _ _ _ h => h) (by decide) (by decide) (by decide) (by decide)⟩
  · have e := nv_eq (B := set8 xs) hs.toP hj
    refine ⟨_, q, Wt, w, ln, u, T, t, tp, bt, hs, fun g hC => met_up (mX5_never_in l hD hC hs hj) (fun _ _ _ _ h => h) (by decide) (by decide) (by decide) (by decide), fun g hM => ?_⟩
    rw [e]
    exact met_up (mX6_never_in l hD hM hs hj) (fun _ _ _ _ h => h) (by decide) (by decide) (by decide) (by decide)

theorem pr_times (l : Launch) {D : va_G} {cI cJ cZ cW : ClassId} {ad : Nat → Nat} {A : Nat → Prop} (hD : ∀ g, va_D A (xw 81 ad g)) {q Wt : Nat} {w : Nat → Nat} {ln : Nat → Nat} {u : Nat → Nat → Nat} {T : Nat} {t : Nat → Nat} {tp bt : Int64} (hs : SrcI q Wt w ln u T t) (xa : Int32) (x : Int32) (kk : Int32) {b : Nat} (hb : b ≤ 1) : ∃ (r : Int64) (q' Wt' : Nat) (w' ln' : Nat → Nat) (u' : Nat → Nat → Nat) (T' : Nat) (t' : Nat → Nat) (tp' bt' : Int64), SrcI q' Wt' w' ln' u' T' t' ∧ (∀ g, ClsI cI cJ cZ cW ad g q Wt w ln u T t tp bt → Met l yX5_times wsX5_times rmU (va_Pc [.ref (ad 0), .int xa, .int x, .int kk, .int (nI b)] (xB D (xT cI cJ cZ cW) ad g)) (va_Ql (fun r1 g2 => r1 = r ∧ ClsI cI cJ cZ cW ad g2 q' Wt' w' ln' u' T' t' tp' bt' ∧ ∀ j : Nat, 62 ≤ j → g2 j = g j) (xB D (xT cI cJ cZ cW) ad) A) 0 0 A) ∧ (∀ g, ModI cI cJ ad g q Wt w ln u T t tp bt → Met l yX6_times_ wsX6_times_ rmU (va_Pc [.ref (ad 62), .int xa, .int x, .int kk, .int (nI b)] (xB D (xT cI cJ cZ cW) ad g)) (va_Ql (fun r1 g2 => r1 = r ∧ ModI cI cJ ad g2 q' Wt' w' ln' u' T' t' tp' bt' ∧ ∀ j : Nat, j < 62 → g2 j = g j) (xB D (xT cI cJ cZ cW) ad) A) 0 0 A) := by
  rcases slotW_cases ln xa with h | ⟨k, hk, rfl, hp⟩
  · exact ⟨_, q, Wt, w, ln, u, T, t, tp, bt, hs, fun g hC => met_up (mX5_times_no l hD hC hs h) (fun _ _ _ _ h => h) (by decide) (by decide) (by decide) (by decide), fun g hM => met_up (mX6_times_no l hD hM hs h) (fun _ _ _ _ h => h) (by decide) (by decide) (by decide) (by decide)⟩
  · rcases xin x (n := 30) (by decide) with h | ⟨n0, hn0, rfl⟩
    · exact ⟨_, q, Wt, w, ln, u, T, t, tp, bt, hs, fun g hC => met_up (mX5_times_badn l hD hC hs hk rfl rfl rfl rfl rfl hp h) (fun _ _ _ _ h => h) (by decide) (by decide) (by decide) (by decide), fun g hM => met_up (mX6_times_badn l hD hM hs hk hp (h.imp id x31)) (fun _ _ _ _ h => h) (by decide) (by decide) (by decide) (by decide)⟩
    · have hP := hs.toP
      rcases (show b = 1 ∨ b = 0 by omega) with rfl | rfl
      · rcases xin kk (n := 30) (by decide) with h | ⟨kq, hkq, rfl⟩
        · rcases h with h | h
          · exact ⟨_, q, Wt, w, ln, u, T, t, tp, bt, hs, fun g hC => met_up (mX5_times_neg l hD hC hs hk rfl rfl rfl rfl rfl hp hn0 h) (fun _ _ _ _ h => h) (by decide) (by decide) (by decide) (by decide), fun g hM => met_up (mX6_times_neg1 l hD hM hs hk hp hn0 (Or.inl h)) (fun _ _ _ _ h => h) (by decide) (by decide) (by decide) (by decide)⟩
          · exact ⟨_, q, Wt, w, ln, u, T, t, tp, bt, hs, fun g hC => met_up (mX5_times_big l hD hC hs hk rfl rfl rfl rfl rfl hp hn0 (lt30 hn0 h)) (fun _ _ _ _ h => h) (by decide) (by decide) (by decide) (by decide), fun g hM => met_up (mX6_times_neg1 l hD hM hs hk hp hn0 (Or.inr h)) (fun _ _ _ _ h => h) (by decide) (by decide) (by decide) (by decide)⟩
        · by_cases hle : kq ≤ n0
          · have e := tm_exact hP hk hp hn0 hkq
            refine ⟨_, q, Wt, w, ln, u, T, t, tp, bt, hs, fun g hC => met_up (mX5_times_k l hD hC hs hk rfl rfl rfl rfl rfl hp hn0 hle) (fun _ _ _ _ h => h) (by decide) (by decide) (by decide) (by decide), fun g hM => ?_⟩
            rw [e]
            exact met_up (mX6_times_k1 l hD hM hs hk hp hn0 hkq) (fun _ _ _ _ h => h) (by decide) (by decide) (by decide) (by decide)
          · have e := tm_zero (B := 2 ^ k) (m := 1) hP (show n0 < kq by omega) (by omega)
            refine ⟨_, q, Wt, w, ln, u, T, t, tp, bt, hs, fun g hC => met_up (mX5_times_big l hD hC hs hk rfl rfl rfl rfl rfl hp hn0 (nI_lt (show n0 < kq by omega) (by omega))) (fun _ _ _ _ h => h) (by decide) (by decide) (by decide) (by decide), fun g hM => ?_⟩
            rw [← e]
            exact met_up (mX6_times_k1 l hD hM hs hk hp hn0 hkq) (fun _ _ _ _ h => h) (by decide) (by decide) (by decide) (by decide)
      · rcases xin kk (n := 30) (by decide) with h | ⟨kq, hkq, rfl⟩
        · rcases h with h | h
          · exact ⟨_, q, Wt, w, ln, u, T, t, tp, bt, hs, fun g hC => met_up (mX5_times_all l hD hC hs hk rfl rfl rfl rfl rfl hp hn0 ((neg_n h).resolve_right (fun h2 => h2 hn0)) (neg_0 h)) (fun _ _ _ _ h => h) (by decide) (by decide) (by decide) (by decide), fun g hM => met_up (mX6_times_neg0 l hD hM hs hk hp hn0 h) (fun _ _ _ _ h => h) (by decide) (by decide) (by decide) (by decide)⟩
          · exact ⟨_, q, Wt, w, ln, u, T, t, tp, bt, hs, fun g hC => met_up (mX5_times_big l hD hC hs hk rfl rfl rfl rfl rfl hp hn0 (lt30 hn0 h)) (fun _ _ _ _ h => h) (by decide) (by decide) (by decide) (by decide), fun g hM => met_up (mX6_times_gt0 l hD hM hs hk hp hn0 h) (fun _ _ _ _ h => h) (by decide) (by decide) (by decide) (by decide)⟩
        · by_cases hle : kq ≤ n0
          · by_cases h0 : kq = 0
            · subst h0
              have e := tm_all (k := k) hP hn0
              refine ⟨_, q, Wt, w, ln, u, T, t, tp, bt, hs, fun g hC => met_up (mX5_times_all l hD hC hs hk rfl rfl rfl rfl rfl hp hn0 (nI_nlt (by omega) (by omega)) (by decide)) (fun _ _ _ _ h => h) (by decide) (by decide) (by decide) (by decide), fun g hM => ?_⟩
              rw [← e]
              exact met_up (mX6_times_k0 l hD hM hs hk hp hn0 hkq) (fun _ _ _ _ h => h) (by decide) (by decide) (by decide) (by decide)
            · have e := tm_least hP hk hp hn0 hkq (show 1 ≤ kq by omega)
              refine ⟨_, q, Wt, w, ln, u, T, t, tp, bt, hs, fun g hC => met_up (mX5_times_m l hD hC hs hk rfl rfl rfl rfl rfl hp hn0 hle (by omega)) (fun _ _ _ _ h => h) (by decide) (by decide) (by decide) (by decide), fun g hM => ?_⟩
              rw [e]
              exact met_up (mX6_times_k0 l hD hM hs hk hp hn0 hkq) (fun _ _ _ _ h => h) (by decide) (by decide) (by decide) (by decide)
          · have e := tm_zero (B := 2 ^ k) (m := 31 - kq) hP (show n0 < kq by omega) (by omega)
            refine ⟨_, q, Wt, w, ln, u, T, t, tp, bt, hs, fun g hC => met_up (mX5_times_big l hD hC hs hk rfl rfl rfl rfl rfl hp hn0 (nI_lt (show n0 < kq by omega) (by omega))) (fun _ _ _ _ h => h) (by decide) (by decide) (by decide) (by decide), fun g hM => ?_⟩
            rw [← e]
            exact met_up (mX6_times_k0 l hD hM hs hk hp hn0 hkq) (fun _ _ _ _ h => h) (by decide) (by decide) (by decide) (by decide)
