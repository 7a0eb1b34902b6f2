section XV
variable {p : Program} {l : Launch} {e : Env} {R : Room} {s : State} {m : MethodId} {args : Array Value} {below : List Frame} {meth : Method} {c : Code} {H : Heap} {locs : List Loc} {cells slots : Nat} {Q : State → Prop}
variable {cc : ByteArray} {pc : Nat} {ls : Array Slot} {rest : List Value} {D : va_G} {A : Nat → Prop} {tys : List (ClassId × FieldType)} {ad : Nat → Nat} {g : Nat → va_E} {H0 : Heap}
variable {NN : Nat}
theorem xv_get (hexec : p.tables.exec = Jvm.exec) (hb : c.code = cc) {own ref C : String} {T : u_T} {N ci index : Nat} {Ts : List Cond} (hts : ∀ w ∈ Ts, w.before args s = true) (hin : ∀ w ∈ u_ws C T N, w ∈ Ts) (hown : s.vm.findClass own = some m.cls) (hK : va_K D vwCl tys s) (hP : va_P D vwCl (xw NN ad g) H) {q0 : Nat} (hq : q0 < NN) {fs : List Value} (he : g q0 = .inr (ci, fs)) (hc : vwCl[ci]? = some (C, T, N)) (k : Nat) (hk : k < N) (hlink : (Cond.fieldLink own index ref (T k).2.1 (T k).2.2.1).before args s = true) (href : (T k).1 = ref) {v : Value} (hv : fs[k]? = some v) (hdg : decode cc pc = .ok (.getfield index, 3))
    (kk : W p l e R s m args below meth c H locs cells slots Q (F0 m (pc + 3) ls (v :: rest))) : W p l e R s m args below meth c H locs cells slots Q (F0 m pc ls (.ref (ad q0) :: rest)) :=
  va_get hexec hb hts hin hown hK hP q0 (xw_is hq he) hc k hk hlink (by rw [href]; exact fun _ h => h) hv hdg kk
theorem xv_put (hexec : p.tables.exec = Jvm.exec) (hb : c.code = cc) {own ref C : String} {T : u_T} {N ci index : Nat} {Ts : List Cond} (hts : ∀ w ∈ Ts, w.before args s = true) (hin : ∀ w ∈ u_ws C T N, w ∈ Ts) (ty0 : Nat → FieldType) (hty : ∀ k, k < N → parseFieldDescriptor (T k).2.2.1 = some (ty0 k)) (hnm : ∀ a, a < N → ∀ b, b < N → a ≠ b → (T a).2.1 ≠ (T b).2.1) (hown : s.vm.findClass own = some m.cls) (hK : va_K D vwCl tys s) (hP : va_P D vwCl (xw NN ad g) H) (hD : ∀ g, va_D A (xw NN ad g)) (hS0 : va_S A H0 H locs) {q0 : Nat} (hq : q0 < NN) {fs : List Value} (he : g q0 = .inr (ci, fs)) (hc : vwCl[ci]? = some (C, T, N)) (k : Nat) (hk : k < N) (hlink : (Cond.fieldLink own index ref (T k).2.1 (T k).2.2.1).before args s = true) (href : (T k).1 = ref) (hfin : (T k).2.2.2 = false) {ty : FieldType} {v : Value} (hd : parseFieldDescriptor (T k).2.2.1 = some ty) (hn : narrow ty v = v) (hfit : fits ty v = true) (hl : k < fs.length) {fs' : List Value} (hfs : fs.set k v = fs')
    (hdg : decode cc pc = .ok (.putfield index, 3)) (kk : ∀ (g1 : Nat → va_E) (H1 : Heap) (locs1 : List Loc), g1 = va_up g q0 (.inr (ci, fs')) → va_P D vwCl (xw NN ad g1) H1 → va_S A H0 H1 locs1 → W p l e R s m args below meth c H1 locs1 cells slots Q (F0 m (pc + 3) ls rest)) : W p l e R s m args below meth c H locs cells slots Q (F0 m pc ls (v :: .ref (ad q0) :: rest)) := by
  subst hfs
  exact va_put hexec hb hts hin ty0 hty hnm hown hK hP (hD g) hS0 q0 (xw_is hq he) hc k hk hlink (by rw [href]; exact fun _ h => h) hfin hd hn hfit hl hdg (fun H1 locs1 h1 _ h3 => kk _ H1 locs1 rfl (by rw [xw_set] at h1; exact h1) h3)
theorem xv_iald (hexec : p.tables.exec = Jvm.exec) (hb : c.code = cc) (hK : va_K D vwCl tys s) (hP : va_P D vwCl (xw NN ad g) H) {q0 : Nat} (hq : q0 < NN) (t0 : Nat) {cA : ClassId} {n : Nat} {f : Nat → Int32} (he : g q0 = .inl (cA, n, .inl f)) (ht : tys[t0]? = some (cA, .int)) {i : Nat} (hi : i < n) (hn : n < 2 ^ 31) (hdg : decode cc pc = .ok (.iaload, 1))
    (kk : W p l e R s m args below meth c H locs cells slots Q (F0 m (pc + 1) ls (.int (f i) :: rest))) : W p l e R s m args below meth c H locs cells slots Q (F0 m pc ls (.int (nI i) :: .ref (ad q0) :: rest)) :=
  va_iald hexec hb hK hP q0 t0 (xw_is hq he) ht (vp_in_nI hi hn) hdg (by rw [nI_clamp (Nat.lt_trans hi hn)]; exact kk)
theorem xv_lald (hexec : p.tables.exec = Jvm.exec) (hb : c.code = cc) (hK : va_K D vwCl tys s) (hP : va_P D vwCl (xw NN ad g) H) {q0 : Nat} (hq : q0 < NN) (t0 : Nat) {cA : ClassId} {n : Nat} {f : Nat → Int64} (he : g q0 = .inl (cA, n, .inr (.inl f))) (ht : tys[t0]? = some (cA, .long)) {i : Nat} (hi : i < n) (hn : n < 2 ^ 31) (hdg : decode cc pc = .ok (.laload, 1))
    (kk : W p l e R s m args below meth c H locs cells slots Q (F0 m (pc + 1) ls (.long (f i) :: rest))) : W p l e R s m args below meth c H locs cells slots Q (F0 m pc ls (.int (nI i) :: .ref (ad q0) :: rest)) :=
  va_lald hexec hb hK hP q0 t0 (xw_is hq he) ht (vp_in_nI hi hn) hdg (by rw [nI_clamp (Nat.lt_trans hi hn)]; exact kk)
theorem xv_zald (hexec : p.tables.exec = Jvm.exec) (hb : c.code = cc) (hK : va_K D vwCl tys s) (hP : va_P D vwCl (xw NN ad g) H) {q0 : Nat} (hq : q0 < NN) (t0 : Nat) {cA : ClassId} {n : Nat} {f : Nat → Int32} (he : g q0 = .inl (cA, n, .inl f)) (ht : tys[t0]? = some (cA, .boolean)) {i : Nat} (hi : i < n) (hn : n < 2 ^ 31) (hdg : decode cc pc = .ok (.baload, 1))
    (kk : W p l e R s m args below meth c H locs cells slots Q (F0 m (pc + 1) ls (.int (f i) :: rest))) : W p l e R s m args below meth c H locs cells slots Q (F0 m pc ls (.int (nI i) :: .ref (ad q0) :: rest)) :=
  va_zald hexec hb hK hP q0 t0 (xw_is hq he) ht (vp_in_nI hi hn) hdg (by rw [nI_clamp (Nat.lt_trans hi hn)]; exact kk)
theorem xv_aald (hexec : p.tables.exec = Jvm.exec) (hb : c.code = cc) (hK : va_K D vwCl tys s) (hP : va_P D vwCl (xw NN ad g) H) {q0 : Nat} (hq : q0 < NN) (t0 : Nat) {cA : ClassId} {C : String} {n : Nat} {f : Nat → Option Nat} (he : g q0 = .inl (cA, n, .inr (.inr (.inr (.inr f))))) (ht : tys[t0]? = some (cA, .object C)) {i : Nat} (hi : i < n) (hn : n < 2 ^ 31) {v : Value} (hv : va_rf (f i) = v) (hdg : decode cc pc = .ok (.aaload, 1))
    (kk : W p l e R s m args below meth c H locs cells slots Q (F0 m (pc + 1) ls (v :: rest))) : W p l e R s m args below meth c H locs cells slots Q (F0 m pc ls (.int (nI i) :: .ref (ad q0) :: rest)) := by
  subst hv
  exact va_aldq hexec hb hK hP q0 t0 (xw_is hq he) ht (vp_in_nI hi hn) hdg (by rw [nI_clamp (Nat.lt_trans hi hn)]; exact kk)
theorem xv_iast (hexec : p.tables.exec = Jvm.exec) (hb : c.code = cc) (hK : va_K D vwCl tys s) (hP : va_P D vwCl (xw NN ad g) H) (hD : ∀ g, va_D A (xw NN ad g)) (hS : va_S A H0 H locs) {q0 : Nat} (hq : q0 < NN) (t0 : Nat) {cA : ClassId} {n : Nat} {f : Nat → Int32} (he : g q0 = .inl (cA, n, .inl f)) (ht : tys[t0]? = some (cA, .int)) {i : Nat} {x : Int32} (hi : i < n) (hn : n < 2 ^ 31) (hdg : decode cc pc = .ok (.iastore, 1))
    (kk : ∀ (g1 : Nat → va_E) (H1 : Heap) (locs1 : List Loc), g1 = va_up g q0 (.inl (cA, n, .inl (upd f i x))) → va_P D vwCl (xw NN ad g1) H1 → va_S A H0 H1 locs1 → W p l e R s m args below meth c H1 locs1 cells slots Q (F0 m (pc + 1) ls rest)) : W p l e R s m args below meth c H locs cells slots Q (F0 m pc ls (.int x :: .int (nI i) :: .ref (ad q0) :: rest)) :=
  va_iast hexec hb hK hP (hD g) hS q0 t0 (xw_is hq he) ht (vp_in_nI hi hn) hdg (fun H1 locs1 h1 _ h3 => kk _ H1 locs1 rfl (by rw [xw_set, nI_clamp (Nat.lt_trans hi hn)] at h1; exact h1) h3)
theorem xv_last (hexec : p.tables.exec = Jvm.exec) (hb : c.code = cc) (hK : va_K D vwCl tys s) (hP : va_P D vwCl (xw NN ad g) H) (hD : ∀ g, va_D A (xw NN ad g)) (hS : va_S A H0 H locs) {q0 : Nat} (hq : q0 < NN) (t0 : Nat) {cA : ClassId} {n : Nat} {f : Nat → Int64} (he : g q0 = .inl (cA, n, .inr (.inl f))) (ht : tys[t0]? = some (cA, .long)) {i : Nat} {x : Int64} (hi : i < n) (hn : n < 2 ^ 31) (hdg : decode cc pc = .ok (.lastore, 1))
    (kk : ∀ (g1 : Nat → va_E) (H1 : Heap) (locs1 : List Loc), g1 = va_up g q0 (.inl (cA, n, .inr (.inl (vp_updL f i x)))) → va_P D vwCl (xw NN ad g1) H1 → va_S A H0 H1 locs1 → W p l e R s m args below meth c H1 locs1 cells slots Q (F0 m (pc + 1) ls rest)) : W p l e R s m args below meth c H locs cells slots Q (F0 m pc ls (.long x :: .int (nI i) :: .ref (ad q0) :: rest)) :=
  va_last hexec hb hK hP (hD g) hS q0 t0 (xw_is hq he) ht (vp_in_nI hi hn) hdg (fun H1 locs1 h1 _ h3 => kk _ H1 locs1 rfl (by rw [xw_set, nI_clamp (Nat.lt_trans hi hn)] at h1; exact h1) h3)
theorem xv_zast (hexec : p.tables.exec = Jvm.exec) (hb : c.code = cc) (hK : va_K D vwCl tys s) (hP : va_P D vwCl (xw NN ad g) H) (hD : ∀ g, va_D A (xw NN ad g)) (hS : va_S A H0 H locs) {q0 : Nat} (hq : q0 < NN) (t0 : Nat) {cA : ClassId} {n : Nat} {f : Nat → Int32} (he : g q0 = .inl (cA, n, .inl f)) (ht : tys[t0]? = some (cA, .boolean)) {i : Nat} {x y : Int32} (hi : i < n) (hn : n < 2 ^ 31) (hx : vp_nar .boolean x = y) (hdg : decode cc pc = .ok (.bastore, 1))
    (kk : ∀ (g1 : Nat → va_E) (H1 : Heap) (locs1 : List Loc), g1 = va_up g q0 (.inl (cA, n, .inl (upd f i y))) → va_P D vwCl (xw NN ad g1) H1 → va_S A H0 H1 locs1 → W p l e R s m args below meth c H1 locs1 cells slots Q (F0 m (pc + 1) ls rest)) : W p l e R s m args below meth c H locs cells slots Q (F0 m pc ls (.int x :: .int (nI i) :: .ref (ad q0) :: rest)) :=
  va_zast hexec hb hK hP (hD g) hS q0 t0 (xw_is hq he) ht (vp_in_nI hi hn) hdg (fun H1 locs1 h1 _ h3 => kk _ H1 locs1 rfl (by rw [xw_set, nI_clamp (Nat.lt_trans hi hn), hx] at h1; exact h1) h3)
theorem xv_alen (hexec : p.tables.exec = Jvm.exec) (hb : c.code = cc) (hK : va_K D vwCl tys s) (hP : va_P D vwCl (xw NN ad g) H) {q0 : Nat} (hq : q0 < NN) (t0 : Nat) {cA : ClassId} {n : Nat} {x : (Nat → Int32) ⊕ (Nat → Int64) ⊕ (Nat → UInt32) ⊕ (Nat → UInt64) ⊕ (Nat → Option Nat)} (he : g q0 = .inl (cA, n, x)) {ty : FieldType} (ht : tys[t0]? = some (cA, ty)) (hdg : decode cc pc = .ok (.arraylength, 1))
    (kk : W p l e R s m args below meth c H locs cells slots Q (F0 m (pc + 1) ls (.int (nI n) :: rest))) : W p l e R s m args below meth c H locs cells slots Q (F0 m pc ls (.ref (ad q0) :: rest)) :=
  va_alen hexec hb hK hP q0 t0 (xw_is hq he) ht rfl hdg kk
theorem xv_aast (hexec : p.tables.exec = Jvm.exec) (hb : c.code = cc) (hK : va_K D vwCl tys s) (hP : va_P D vwCl (xw NN ad g) H) (hD : ∀ g, va_D A (xw NN ad g)) (hS : va_S A H0 H locs) {q0 : Nat} (hq : q0 < NN) (t0 : Nat) {qk : Nat} (hqk : qk < NN) (ci : Nat) {cA : ClassId} {r : vw_C} {n : Nat} {vs : List Value} {f : Nat → Option Nat} (he : g q0 = .inl (cA, n, .inr (.inr (.inr (.inr f))))) (ht : tys[t0]? = some (cA, .object r.1)) (hv : g qk = .inr (ci, vs)) (hc : vwCl[ci]? = some r) {i : Nat} (hi : i < n) (hn : n < 2 ^ 31) (hdg : decode cc pc = .ok (.aastore, 1))
    (kk : ∀ (g1 : Nat → va_E) (H1 : Heap) (locs1 : List Loc), g1 = va_up g q0 (.inl (cA, n, .inr (.inr (.inr (.inr (va_up f i (some (ad qk)))))))) → va_P D vwCl (xw NN ad g1) H1 → va_S A H0 H1 locs1 → W p l e R s m args below meth c H1 locs1 cells slots Q (F0 m (pc + 1) ls rest)) : W p l e R s m args below meth c H locs cells slots Q (F0 m pc ls (.ref (ad qk) :: .int (nI i) :: .ref (ad q0) :: rest)) :=
  va_astq hexec hb hK hP (hD g) hS q0 t0 qk ci (xw_is hq he) ht (xw_is hqk hv) hc (vp_in_nI hi hn) hdg (fun H1 locs1 h1 _ h3 => kk _ H1 locs1 rfl (by rw [xw_set, nI_clamp (Nat.lt_trans hi hn)] at h1; exact h1) h3)
theorem xv_aastN (hexec : p.tables.exec = Jvm.exec) (hb : c.code = cc) (hK : va_K D vwCl tys s) (hP : va_P D vwCl (xw NN ad g) H) (hD : ∀ g, va_D A (xw NN ad g)) (hS : va_S A H0 H locs) {q0 : Nat} (hq : q0 < NN) (t0 : Nat) {cA : ClassId} {C : String} {n : Nat} {f : Nat → Option Nat} (he : g q0 = .inl (cA, n, .inr (.inr (.inr (.inr f))))) (ht : tys[t0]? = some (cA, .object C)) {i : Nat} (hi : i < n) (hn : n < 2 ^ 31) (hdg : decode cc pc = .ok (.aastore, 1))
    (kk : ∀ (g1 : Nat → va_E) (H1 : Heap) (locs1 : List Loc), g1 = va_up g q0 (.inl (cA, n, .inr (.inr (.inr (.inr (va_up f i none)))))) → va_P D vwCl (xw NN ad g1) H1 → va_S A H0 H1 locs1 → W p l e R s m args below meth c H1 locs1 cells slots Q (F0 m (pc + 1) ls rest)) : W p l e R s m args below meth c H locs cells slots Q (F0 m pc ls (.null :: .int (nI i) :: .ref (ad q0) :: rest)) :=
  va_astqN hexec hb hK hP (hD g) hS q0 t0 (xw_is hq he) ht (vp_in_nI hi hn) hdg (fun H1 locs1 h1 _ h3 => kk _ H1 locs1 rfl (by rw [xw_set, nI_clamp (Nat.lt_trans hi hn)] at h1; exact h1) h3)
end XV
/-- the world of N cells -/
def xVB (N : Nat) (D : va_G) (ty : List (ClassId × FieldType)) (ad : Nat → Nat) (g : Nat → va_E) (U : State) : Prop := va_P D vwCl (xw N ad g) U.heap ∧ va_K D vwCl ty U ∧ va_Nw (.methodLinkNest RX4 33 yX5_power RX5) U
theorem xVB_blind {N : Nat} {D : va_G} {ty : List (ClassId × FieldType)} {ad : Nat → Nat} {g : Nat → va_E} {As : List Value} : FrameBlind (va_Pc As (xVB N D ty ad g)) := by
  intro a U f mk q
  obtain ⟨q0, qP, qK, qN⟩ := q
  exact ⟨q0, qP, va_K.moved (u := U) (U := U.calling f mk a) (Vm.Alike.refl U.vm) qK, va_Nw.same rfl rfl qN⟩
/-- where a constructor starts -/
def ccP (D : va_G) (ty : List (ClassId × FieldType)) (ws : va_W) (sz : Nat) (U : State) : Prop := U.heap.size = sz ∧ va_P D vwCl ws U.heap ∧ va_K D vwCl ty U ∧ va_D (fun _ => True) ws ∧ va_AO RX4 U ∧ va_Nw (.methodLinkNest RX4 33 yX5_power RX5) U
theorem cc_blind {D : va_G} {ty : List (ClassId × FieldType)} {ws : va_W} {sz : Nat} {As : List Value} : FrameBlind (va_Pc As (ccP D ty ws sz)) := by
  intro a U f mk q
  obtain ⟨q0, q1, qP, qK, qD, qO, qN⟩ := q
  exact ⟨q0, q1, qP, va_K.moved (u := U) (U := U.calling f mk a) (Vm.Alike.refl U.vm) qK, qD, va_AO.moved (u := U) (U := U.calling f mk a) (Vm.Alike.refl U.vm) qO, va_Nw.same rfl rfl qN⟩
theorem cc_D {A : Nat → Prop} {ws ws' : va_W} (h : va_D A ws) (e : ws.map Prod.fst = ws'.map Prod.fst) : va_D A ws' := by
  have key : ∀ (k : Nat) (q : Nat × va_E), ws'[k]? = some q → ∃ p, ws[k]? = some p ∧ p.1 = q.1 := fun k q hq => by
    have h1 : (ws'.map Prod.fst)[k]? = some q.1 := by rw [List.getElem?_map, hq]; rfl
    rw [← e, List.getElem?_map] at h1
    cases hw : ws[k]? with
    | none => rw [hw] at h1; cases h1
    | some p => rw [hw] at h1; exact ⟨p, rfl, Option.some.inj h1⟩
  refine ⟨fun i j p q h1 h2 h3 => ?_, fun k q hk => ?_⟩
  · obtain ⟨p', a1, a2⟩ := key i p h1
    obtain ⟨q', b1, b2⟩ := key j q h2
    exact h.1 i j p' q' a1 b1 (by rw [a2, b2, h3])
  · obtain ⟨p', a1, a2⟩ := key k q hk
    rw [← a2]; exact h.2 k p' a1
section XN
variable {p : Program} {l : Launch} {e : Env} {R : Room} {s : State} {m : MethodId} {args : Array Value} {below : List Frame} {meth : Method} {c : Code} {H : Heap} {locs : List Loc} {cells slots : Nat} {Q : State → Prop}
variable {cc : ByteArray} {pc : Nat} {ls : Array Slot} {rest : List Value} {D : va_G} {A : Nat → Prop} {ws : va_W} {H0 : Heap} {cI cJ cZ cW : ClassId}
theorem xl_newi (hexec : p.tables.exec = Jvm.exec) (hb : c.code = cc) (harr : (Cond.arrayClass .int).before args s = true) (hK : va_K D vwCl (xT cI cJ cZ cW) s) (hP : va_P D vwCl ws H) (hD : va_D A ws) (hS : va_S A H0 H locs) (hA : ∀ q, H0.size ≤ q → A q) {n : Int32} {N' : Nat} (hn : ¬ n < 0) (hN : n.toNatClampNeg = N') (hbytes : N' * componentBytes .int ≤ 536870912) (hcells : cells + 1 ≤ R.cells) (hslots : slots + N' ≤ R.slots) (hdg : decode cc pc = .ok (.newarray .int, 2))
    (kk : ∀ (q : Nat) (H1 : Heap), va_P D vwCl (ws ++ [(q, .inl (cI, N', .inl (fun _ => 0)))]) H1 → va_D A (ws ++ [(q, .inl (cI, N', .inl (fun _ => 0)))]) → va_S A H0 H1 locs → W p l e R s m args below meth c H1 locs (cells + 1) (slots + N') Q (F0 m (pc + 2) ls (.ref q :: rest))) : W p l e R s m args below meth c H locs cells slots Q (F0 m pc ls (.int n :: rest)) := by
  refine va_newa (atype := .int) (ty := .int) (a0 := (N', .inl (fun _ => 0))) hexec hb harr rfl hK hP hD hS hA (fun _ => rfl) hn hN hbytes hcells hslots hdg (fun q cA H1 hK1 hP1 hD1 hS1 => ?_)
  have e1 := va_nm_int (hK.2 0 _ rfl).2
  have e2 := va_nm_int (hK1.2 4 _ rfl).2
  rw [e1] at e2
  have e3 : cI = cA := Option.some.inj e2
  subst e3
  exact kk q H1 hP1 hD1 hS1
theorem xl_newj (hexec : p.tables.exec = Jvm.exec) (hb : c.code = cc) (harr : (Cond.arrayClass .long).before args s = true) (hK : va_K D vwCl (xT cI cJ cZ cW) s) (hP : va_P D vwCl ws H) (hD : va_D A ws) (hS : va_S A H0 H locs) (hA : ∀ q, H0.size ≤ q → A q) {n : Int32} {N' : Nat} (hn : ¬ n < 0) (hN : n.toNatClampNeg = N') (hbytes : N' * componentBytes .long ≤ 536870912) (hcells : cells + 1 ≤ R.cells) (hslots : slots + N' ≤ R.slots) (hdg : decode cc pc = .ok (.newarray .long, 2))
    (kk : ∀ (q : Nat) (H1 : Heap), va_P D vwCl (ws ++ [(q, .inl (cJ, N', .inr (.inl (fun _ => 0))))]) H1 → va_D A (ws ++ [(q, .inl (cJ, N', .inr (.inl (fun _ => 0))))]) → va_S A H0 H1 locs → W p l e R s m args below meth c H1 locs (cells + 1) (slots + N') Q (F0 m (pc + 2) ls (.ref q :: rest))) : W p l e R s m args below meth c H locs cells slots Q (F0 m pc ls (.int n :: rest)) := by
  refine va_newa (atype := .long) (ty := .long) (a0 := (N', .inr (.inl (fun _ => 0)))) hexec hb harr rfl hK hP hD hS hA (fun _ => rfl) hn hN hbytes hcells hslots hdg (fun q cA H1 hK1 hP1 hD1 hS1 => ?_)
  have e1 := va_nm_long (hK.2 1 _ rfl).2
  have e2 := va_nm_long (hK1.2 4 _ rfl).2
  rw [e1] at e2
  have e3 : cJ = cA := Option.some.inj e2
  subst e3
  exact kk q H1 hP1 hD1 hS1
theorem xl_newz (hexec : p.tables.exec = Jvm.exec) (hb : c.code = cc) (harr : (Cond.arrayClass .boolean).before args s = true) (hK : va_K D vwCl (xT cI cJ cZ cW) s) (hP : va_P D vwCl ws H) (hD : va_D A ws) (hS : va_S A H0 H locs) (hA : ∀ q, H0.size ≤ q → A q) {n : Int32} {N' : Nat} (hn : ¬ n < 0) (hN : n.toNatClampNeg = N') (hbytes : N' * componentBytes .boolean ≤ 536870912) (hcells : cells + 1 ≤ R.cells) (hslots : slots + N' ≤ R.slots) (hdg : decode cc pc = .ok (.newarray .boolean, 2))
    (kk : ∀ (q : Nat) (H1 : Heap), va_P D vwCl (ws ++ [(q, .inl (cZ, N', .inl (fun _ => 0)))]) H1 → va_D A (ws ++ [(q, .inl (cZ, N', .inl (fun _ => 0)))]) → va_S A H0 H1 locs → W p l e R s m args below meth c H1 locs (cells + 1) (slots + N') Q (F0 m (pc + 2) ls (.ref q :: rest))) : W p l e R s m args below meth c H locs cells slots Q (F0 m pc ls (.int n :: rest)) := by
  refine va_newa (atype := .boolean) (ty := .boolean) (a0 := (N', .inl (fun _ => 0))) hexec hb harr rfl hK hP hD hS hA (fun _ => rfl) hn hN hbytes hcells hslots hdg (fun q cA H1 hK1 hP1 hD1 hS1 => ?_)
  have e1 := va_nm_boolean (hK.2 2 _ rfl).2
  have e2 := va_nm_boolean (hK1.2 4 _ rfl).2
  rw [e1] at e2
  have e3 : cZ = cA := Option.some.inj e2
  subst e3
  exact kk q H1 hP1 hD1 hS1
theorem xl_neww (hexec : p.tables.exec = Jvm.exec) (hb : c.code = cc) {own : String} {index : Nat} (hown : s.vm.findClass own = some m.cls) (hclink : (Cond.classLink own index RX4).before args s = true) (hover : va_AO RX4 s) (hK : va_K D vwCl (xT cI cJ cZ cW) s) (hP : va_P D vwCl ws H) (hD : va_D A ws) (hS : va_S A H0 H locs) (hA : ∀ q, H0.size ≤ q → A q) {n : Int32} {N' : Nat} (hn : ¬ n < 0) (hN : n.toNatClampNeg = N') (hbytes : N' * 4 ≤ 536870912) (hcells : cells + 1 ≤ R.cells) (hslots : slots + N' ≤ R.slots) (hdg : decode cc pc = .ok (.anewarray index, 3))
    (kk : ∀ (q : Nat) (H1 : Heap), va_P D vwCl (ws ++ [(q, .inl (cW, N', .inr (.inr (.inr (.inr (fun _ => none))))))]) H1 → va_D A (ws ++ [(q, .inl (cW, N', .inr (.inr (.inr (.inr (fun _ => none))))))]) → va_S A H0 H1 locs → W p l e R s m args below meth c H1 locs (cells + 1) (slots + N') Q (F0 m (pc + 3) ls (.ref q :: rest))) : W p l e R s m args below meth c H locs cells slots Q (F0 m pc ls (.int n :: rest)) := by
  refine va_newq hexec hb hown hclink hover hK hP hD hS hA hn hN hbytes hcells hslots hdg (fun q cA H1 hK1 hP1 hD1 hS1 => ?_)
  have e1 := va_nmO (hK.2 3 _ rfl).2 rfl
  have e2 := va_nmO (hK1.2 4 _ rfl).2 rfl
  rw [e1] at e2
  have e3 : cW = cA := Option.some.inj e2
  subst e3
  exact kk q H1 hP1 hD1 hS1
end XN

set_option maxHeartbeats 4000000 in
set_option maxRecDepth 100000 in
/-- Race.clear, in its own world -/
theorem mX2_clear4 (l : Launch) {D : va_G} {cI cJ cZ cW : ClassId} {ad : Nat → Nat} {A : Nat → Prop} (hD : ∀ g, va_D A (xw 4 ad g)) {g : Nat → va_E} {sz : Int32} {f5 : Nat → Option Nat} {f6 f7 : Nat → Int64}  (fo4 : g (0) = .inr (2, [.ref (ad (1)), .ref (ad (2)), .ref (ad (3)), .int (sz)])) (fa5 : g (1) = .inl (cW, 3, .inr (.inr (.inr (.inr (f5)))))) (fa6 : g (2) = .inl (cJ, 9, .inr (.inl (f6)))) (fa7 : g (3) = .inl (cJ, 3, .inr (.inl (f7))))  : Met l yX2_clear wsX2_clear ({ frames := 0, cells := 0, slots := 0, locals := 0 }) (va_Pc [.ref (ad (0))] (xVB 4 D (xT cI cJ cZ cW) ad g)) (va_Qv (fun g2 => ∃ (f5 : Nat → Option Nat) (f6 f7 : Nat → Int64), (∀ i, i < 3 → f5 i = none) ∧ (∀ i, i < 9 → f6 i = lZ (idM i)) ∧ (∀ i, i < 3 → f7 i = lZ 0) ∧ g2 0 = .inr (2, [.ref (ad (1)), .ref (ad (2)), .ref (ad (3)), .int (nI (0))]) ∧ g2 1 = .inl (cW, 3, .inr (.inr (.inr (.inr (f5))))) ∧ g2 2 = .inl (cJ, 9, .inr (.inl (f6))) ∧ g2 3 = .inl (cJ, 3, .inr (.inl (f7))) ∧ ∀ j : Nat, j ≠ 0 → j ≠ 1 → j ≠ 2 → j ≠ 3 → g2 j = g j) (xVB 4 D (xT cI cJ cZ cW) ad) A) 0 0 A := by
  refine Met.ofW (cc := cX2_clear) (maxL := 3) (ret := none) (by decide) rfl ?_
  intro p e s m args below meth c s₁ B hml hv
  obtain ⟨rfl, hP, hK, hN⟩ := hv
  have hx := B.exec
  have hb := B.bytes
  have hr := B.returns
  have hts := atoms_spec (ws := wsX2_clear) B.pre
  have hown : s.vm.findClass RX2 = some m.cls := findClass_of_methodNamed B.named
  have hlocks := B.notSynchronized
  have hS : va_S A s.heap s.heap [] := va_S.rf
  have hin2 : ∀ w ∈ wsX20, w ∈ wsX2_clear := by decide +kernel
  have hf11 := hts (.fieldLink RX2 11 "LettersByLot$Race" "runners" "[LLettersByLot$Word;") (by decide +kernel)
  have hf17 := hts (.fieldLink RX2 17 "LettersByLot$Race" "leads" "[J") (by decide +kernel)
  have hf21 := hts (.fieldLink RX2 21 "LettersByLot$Race" "asked" "[J") (by decide +kernel)
  have hf27 := hts (.fieldLink RX2 27 "LettersByLot$Race" "size" "I") (by decide +kernel)
  have hl := lv_entry ([.ref (ad (0))]) (n := 3) (Nat.le_of_ble_eq_true rfl)
  rw [lg_entry_eq]
  generalize (lg_sl ([.ref (ad (0))]) ++ List.replicate (3 - (lg_sl ([.ref (ad (0))])).length) Slot.unset).toArray = ls at hl ⊢
  have hl : lv_has ls 3 [(0, .ref (ad (0)))] := hl
  refine lv_aload_n hx hb dX2_clear_0 rfl (lv_at hl 0 rfl) ?_
  refine lv_iconst (v := nI (0)) hx hb dX2_clear_1 (by decide) ?_
  refine xv_put hx hb hts hin2 tyX2 tyX2_ok nmX2 hown hK hP hD hS (by decide) fo4 rfl 3 (by decide) hf27 rfl rfl (ty := .int) (by decide +kernel) rfl rfl (Nat.le_of_ble_eq_true rfl) (fs' := [.ref (ad (1)), .ref (ad (2)), .ref (ad (3)), .int (nI (0))]) rfl dX2_clear_2 (fun g1 H locs eg1 hP hS => ?_)
  have fg1_0 : g1 (1) = .inl (cW, 3, .inr (.inr (.inr (.inr (f5))))) := (congrFun eg1 (1)).trans ((va_up_ne _ _ (by decide)).trans fa5)
  have fg1_1 : g1 (2) = .inl (cJ, 9, .inr (.inl (f6))) := (congrFun eg1 (2)).trans ((va_up_ne _ _ (by decide)).trans fa6)
  have fg1_2 : g1 (3) = .inl (cJ, 3, .inr (.inl (f7))) := (congrFun eg1 (3)).trans ((va_up_ne _ _ (by decide)).trans fa7)
  have fg1_w : g1 (0) = .inr (2, [.ref (ad (1)), .ref (ad (2)), .ref (ad (3)), .int (nI (0))]) := (congrFun eg1 (0)).trans (va_up_self _ _ _)
  have hfrg1 : ∀ j : Nat, j ≠ 0 → j ≠ 1 → j ≠ 2 → j ≠ 3 → g1 j = g j := fun j h0 h1 h2 h3 => (congrFun eg1 j).trans ((va_up_ne _ _ h0).trans ((fun _ _ _ _ _ => rfl) j h0 h1 h2 h3))
  refine lv_iconst (v := nI (0)) hx hb dX2_clear_5 (by decide) ?_
  refine lv_istore_n (lv' := [(1, .int (nI (0))), (0, .ref (ad (0)))]) hx hb dX2_clear_6 rfl hl (by decide) rfl (fun ls hl => ?_)
  refine lv_iload_n hx hb dX2_clear_7 rfl (lv_at hl 0 rfl) ?_
  refine lv_iconst (v := nI (3)) hx hb dX2_clear_8 (by decide) ?_
  refine xi_icmp_ge (tgt := 65) hx hb (by decide) (by decide) dX2_clear_9 (by decide) (fun c0 => absurd c0 (by decide)) (fun _ => ?_)
  refine lv_aload_n hx hb dX2_clear_12 rfl (lv_at hl 1 rfl) ?_
  refine xv_get hx hb hts hin2 hown hK hP (by decide) fg1_w rfl 0 (by decide) hf11 rfl rfl dX2_clear_13 ?_
  refine lv_iload_n hx hb dX2_clear_16 rfl (lv_at hl 0 rfl) ?_
  refine lv_null hx hb dX2_clear_17 ?_
  refine xv_aastN hx hb hK hP hD hS (by decide) 3 fg1_0 rfl (by omega) (by decide) dX2_clear_18 (fun g3 H locs eg3 hP hS => ?_)
  have fg3_0 : g3 (2) = .inl (cJ, 9, .inr (.inl (f6))) := (congrFun eg3 (2)).trans ((va_up_ne _ _ (by decide)).trans fg1_1)
  have fg3_1 : g3 (3) = .inl (cJ, 3, .inr (.inl (f7))) := (congrFun eg3 (3)).trans ((va_up_ne _ _ (by decide)).trans fg1_2)
  have fg3_2 : g3 (0) = .inr (2, [.ref (ad (1)), .ref (ad (2)), .ref (ad (3)), .int (nI (0))]) := (congrFun eg3 (0)).trans ((va_up_ne _ _ (by decide)).trans fg1_w)
  have fg3_w : g3 (1) = .inl (cW, 3, .inr (.inr (.inr (.inr (va_up (f5) (0) none))))) := (congrFun eg3 (1)).trans (va_up_self _ _ _)
  have hfrg3 : ∀ j : Nat, j ≠ 0 → j ≠ 1 → j ≠ 2 → j ≠ 3 → g3 j = g j := fun j h0 h1 h2 h3 => (congrFun eg3 j).trans ((va_up_ne _ _ h1).trans (hfrg1 j h0 h1 h2 h3))
  refine lv_aload_n hx hb dX2_clear_19 rfl (lv_at hl 1 rfl) ?_
  refine xv_get hx hb hts hin2 hown hK hP (by decide) fg3_2 rfl 2 (by decide) hf21 rfl rfl dX2_clear_20 ?_
  refine lv_iload_n hx hb dX2_clear_23 rfl (lv_at hl 0 rfl) ?_
  refine lv_lconst (v := lZ (0)) hx hb dX2_clear_24 (by decide) ?_
  refine xv_last hx hb hK hP hD hS (by decide) 1 fg3_1 rfl (by omega) (by decide) dX2_clear_25 (fun g4 H locs eg4 hP hS => ?_)
  have fg4_0 : g4 (2) = .inl (cJ, 9, .inr (.inl (f6))) := (congrFun eg4 (2)).trans ((va_up_ne _ _ (by decide)).trans fg3_0)
  have fg4_1 : g4 (0) = .inr (2, [.ref (ad (1)), .ref (ad (2)), .ref (ad (3)), .int (nI (0))]) := (congrFun eg4 (0)).trans ((va_up_ne _ _ (by decide)).trans fg3_2)
  have fg4_2 : g4 (1) = .inl (cW, 3, .inr (.inr (.inr (.inr (va_up (f5) (0) none))))) := (congrFun eg4 (1)).trans ((va_up_ne _ _ (by decide)).trans fg3_w)
  have fg4_w : g4 (3) = .inl (cJ, 3, .inr (.inl (vp_updL (f7) (0) (lZ (0))))) := (congrFun eg4 (3)).trans (va_up_self _ _ _)
  have hfrg4 : ∀ j : Nat, j ≠ 0 → j ≠ 1 → j ≠ 2 → j ≠ 3 → g4 j = g j := fun j h0 h1 h2 h3 => (congrFun eg4 j).trans ((va_up_ne _ _ h3).trans (hfrg3 j h0 h1 h2 h3))
  refine lv_iconst (v := nI (0)) hx hb dX2_clear_26 (by decide) ?_
  refine lv_istore_n (lv' := [(2, .int (nI (0))), (1, .int (nI (0))), (0, .ref (ad (0)))]) hx hb dX2_clear_27 rfl hl (by decide) rfl (fun ls hl => ?_)
  refine lv_iload_n hx hb dX2_clear_28 rfl (lv_at hl 0 rfl) ?_
  refine lv_iconst (v := nI (3)) hx hb dX2_clear_29 (by decide) ?_
  refine xi_icmp_ge (tgt := 59) hx hb (by decide) (by decide) dX2_clear_30 (by decide) (fun c0 => absurd c0 (by decide)) (fun _ => ?_)
  refine lv_aload_n hx hb dX2_clear_33 rfl (lv_at hl 2 rfl) ?_
  refine xv_get hx hb hts hin2 hown hK hP (by decide) fg4_1 rfl 1 (by decide) hf17 rfl rfl dX2_clear_34 ?_
  refine lv_iload_n hx hb dX2_clear_37 rfl (lv_at hl 1 rfl) ?_
  refine lv_iconst (v := nI (3)) hx hb dX2_clear_38 (by decide) ?_
  refine xi_mul hx hb dX2_clear_39 ?_
  refine lv_iload_n hx hb dX2_clear_40 rfl (lv_at hl 0 rfl) ?_
  refine xi_add hx hb dX2_clear_41 ?_
  refine lv_iload_n hx hb dX2_clear_42 rfl (lv_at hl 1 rfl) ?_
  refine lv_iload_n hx hb dX2_clear_43 rfl (lv_at hl 0 rfl) ?_
  refine xi_icmp_ne (tgt := 51) hx hb (by decide) (by decide) dX2_clear_44 (by decide) (fun c0 => absurd c0 (by decide)) (fun _ => ?_)
  refine lv_lconst (v := lZ (1)) hx hb dX2_clear_47 (by decide) ?_
  refine lv_goto (tgt := 52) hx hb dX2_clear_48 (by decide) ?_
  refine xv_last hx hb hK hP hD hS (by decide) 1 fg4_0 rfl (by omega) (by decide) dX2_clear_52 (fun g7 H locs eg7 hP hS => ?_)
  have fg7_0 : g7 (0) = .inr (2, [.ref (ad (1)), .ref (ad (2)), .ref (ad (3)), .int (nI (0))]) := (congrFun eg7 (0)).trans ((va_up_ne _ _ (by decide)).trans fg4_1)
  have fg7_1 : g7 (1) = .inl (cW, 3, .inr (.inr (.inr (.inr (va_up (f5) (0) none))))) := (congrFun eg7 (1)).trans ((va_up_ne _ _ (by decide)).trans fg4_2)
  have fg7_2 : g7 (3) = .inl (cJ, 3, .inr (.inl (vp_updL (f7) (0) (lZ (0))))) := (congrFun eg7 (3)).trans ((va_up_ne _ _ (by decide)).trans fg4_w)
  have fg7_w : g7 (2) = .inl (cJ, 9, .inr (.inl (vp_updL (f6) (0) (lZ (1))))) := (congrFun eg7 (2)).trans (va_up_self _ _ _)
  have hfrg7 : ∀ j : Nat, j ≠ 0 → j ≠ 1 → j ≠ 2 → j ≠ 3 → g7 j = g j := fun j h0 h1 h2 h3 => (congrFun eg7 j).trans ((va_up_ne _ _ h2).trans (hfrg4 j h0 h1 h2 h3))
  refine lv_iinc (v := nI (1)) (lv' := [(2, .int (nI (1))), (1, .int (nI (0))), (0, .ref (ad (0)))]) hx hb dX2_clear_53 hl (k := 0) rfl (nI_add (0) 1) (by decide) rfl (fun ls hl => ?_)
  refine lv_goto (tgt := 28) hx hb dX2_clear_56 (by decide) ?_
  refine lv_iload_n hx hb dX2_clear_28 rfl (lv_at hl 0 rfl) ?_
  refine lv_iconst (v := nI (3)) hx hb dX2_clear_29 (by decide) ?_
  refine xi_icmp_ge (tgt := 59) hx hb (by decide) (by decide) dX2_clear_30 (by decide) (fun c0 => absurd c0 (by decide)) (fun _ => ?_)
  refine lv_aload_n hx hb dX2_clear_33 rfl (lv_at hl 2 rfl) ?_
  refine xv_get hx hb hts hin2 hown hK hP (by decide) fg7_0 rfl 1 (by decide) hf17 rfl rfl dX2_clear_34 ?_
  refine lv_iload_n hx hb dX2_clear_37 rfl (lv_at hl 1 rfl) ?_
  refine lv_iconst (v := nI (3)) hx hb dX2_clear_38 (by decide) ?_
  refine xi_mul hx hb dX2_clear_39 ?_
  refine lv_iload_n hx hb dX2_clear_40 rfl (lv_at hl 0 rfl) ?_
  refine xi_add hx hb dX2_clear_41 ?_
  refine lv_iload_n hx hb dX2_clear_42 rfl (lv_at hl 1 rfl) ?_
  refine lv_iload_n hx hb dX2_clear_43 rfl (lv_at hl 0 rfl) ?_
  refine xi_icmp_ne (tgt := 51) hx hb (by decide) (by decide) dX2_clear_44 (by decide) (fun _ => ?_) (fun c0 => absurd c0 (by decide))
  refine lv_lconst (v := lZ (0)) hx hb dX2_clear_51 (by decide) ?_
  refine xv_last hx hb hK hP hD hS (by decide) 1 fg7_w rfl (by omega) (by decide) dX2_clear_52 (fun g10 H locs eg10 hP hS => ?_)
  have fg10_0 : g10 (0) = .inr (2, [.ref (ad (1)), .ref (ad (2)), .ref (ad (3)), .int (nI (0))]) := (congrFun eg10 (0)).trans ((va_up_ne _ _ (by decide)).trans fg7_0)
  have fg10_1 : g10 (1) = .inl (cW, 3, .inr (.inr (.inr (.inr (va_up (f5) (0) none))))) := (congrFun eg10 (1)).trans ((va_up_ne _ _ (by decide)).trans fg7_1)
  have fg10_2 : g10 (3) = .inl (cJ, 3, .inr (.inl (vp_updL (f7) (0) (lZ (0))))) := (congrFun eg10 (3)).trans ((va_up_ne _ _ (by decide)).trans fg7_2)
  have fg10_w : g10 (2) = .inl (cJ, 9, .inr (.inl (vp_updL (vp_updL (f6) (0) (lZ (1))) (1) (lZ (0))))) := (congrFun eg10 (2)).trans (va_up_self _ _ _)
  have hfrg10 : ∀ j : Nat, j ≠ 0 → j ≠ 1 → j ≠ 2 → j ≠ 3 → g10 j = g j := fun j h0 h1 h2 h3 => (congrFun eg10 j).trans ((va_up_ne _ _ h2).trans (hfrg7 j h0 h1 h2 h3))
  refine lv_iinc (v := nI (2)) (lv' := [(2, .int (nI (2))), (1, .int (nI (0))), (0, .ref (ad (0)))]) hx hb dX2_clear_53 hl (k := 0) rfl (nI_add (1) 1) (by decide) rfl (fun ls hl => ?_)
  refine lv_goto (tgt := 28) hx hb dX2_clear_56 (by decide) ?_
  refine lv_iload_n hx hb dX2_clear_28 rfl (lv_at hl 0 rfl) ?_
  refine lv_iconst (v := nI (3)) hx hb dX2_clear_29 (by decide) ?_
  refine xi_icmp_ge (tgt := 59) hx hb (by decide) (by decide) dX2_clear_30 (by decide) (fun c0 => absurd c0 (by decide)) (fun _ => ?_)
  refine lv_aload_n hx hb dX2_clear_33 rfl (lv_at hl 2 rfl) ?_
  refine xv_get hx hb hts hin2 hown hK hP (by decide) fg10_0 rfl 1 (by decide) hf17 rfl rfl dX2_clear_34 ?_
  refine lv_iload_n hx hb dX2_clear_37 rfl (lv_at hl 1 rfl) ?_
  refine lv_iconst (v := nI (3)) hx hb dX2_clear_38 (by decide) ?_
  refine xi_mul hx hb dX2_clear_39 ?_
  refine lv_iload_n hx hb dX2_clear_40 rfl (lv_at hl 0 rfl) ?_
  refine xi_add hx hb dX2_clear_41 ?_
  refine lv_iload_n hx hb dX2_clear_42 rfl (lv_at hl 1 rfl) ?_
  refine lv_iload_n hx hb dX2_clear_43 rfl (lv_at hl 0 rfl) ?_
  refine xi_icmp_ne (tgt := 51) hx hb (by decide) (by decide) dX2_clear_44 (by decide) (fun _ => ?_) (fun c0 => absurd c0 (by decide))
  refine lv_lconst (v := lZ (0)) hx hb dX2_clear_51 (by decide) ?_
  refine xv_last hx hb hK hP hD hS (by decide) 1 fg10_w rfl (by omega) (by decide) dX2_clear_52 (fun g13 H locs eg13 hP hS => ?_)
  have fg13_0 : g13 (0) = .inr (2, [.ref (ad (1)), .ref (ad (2)), .ref (ad (3)), .int (nI (0))]) := (congrFun eg13 (0)).trans ((va_up_ne _ _ (by decide)).trans fg10_0)
  have fg13_1 : g13 (1) = .inl (cW, 3, .inr (.inr (.inr (.inr (va_up (f5) (0) none))))) := (congrFun eg13 (1)).trans ((va_up_ne _ _ (by decide)).trans fg10_1)
  have fg13_2 : g13 (3) = .inl (cJ, 3, .inr (.inl (vp_updL (f7) (0) (lZ (0))))) := (congrFun eg13 (3)).trans ((va_up_ne _ _ (by decide)).trans fg10_2)
  have fg13_w : g13 (2) = .inl (cJ, 9, .inr (.inl (vp_updL (vp_updL (vp_updL (f6) (0) (lZ (1))) (1) (lZ (0))) (2) (lZ (0))))) := (congrFun eg13 (2)).trans (va_up_self _ _ _)
  have hfrg13 : ∀ j : Nat, j ≠ 0 → j ≠ 1 → j ≠ 2 → j ≠ 3 → g13 j = g j := fun j h0 h1 h2 h3 => (congrFun eg13 j).trans ((va_up_ne _ _ h2).trans (hfrg10 j h0 h1 h2 h3))
  refine lv_iinc (v := nI (3)) (lv' := [(2, .int (nI (3))), (1, .int (nI (0))), (0, .ref (ad (0)))]) hx hb dX2_clear_53 hl (k := 0) rfl (nI_add (2) 1) (by decide) rfl (fun ls hl => ?_)
  refine lv_goto (tgt := 28) hx hb dX2_clear_56 (by decide) ?_
  refine lv_iload_n hx hb dX2_clear_28 rfl (lv_at hl 0 rfl) ?_
  refine lv_iconst (v := nI (3)) hx hb dX2_clear_29 (by decide) ?_
  refine xi_icmp_ge (tgt := 59) hx hb (by decide) (by decide) dX2_clear_30 (by decide) (fun _ => ?_) (fun c0 => absurd c0 (by decide))
  refine lv_iinc (v := nI (1)) (lv' := [(1, .int (nI (1))), (2, .int (nI (3))), (0, .ref (ad (0)))]) hx hb dX2_clear_59 hl (k := 1) rfl (nI_add (0) 1) (by decide) rfl (fun ls hl => ?_)
  refine lv_goto (tgt := 7) hx hb dX2_clear_62 (by decide) ?_
  refine lv_iload_n hx hb dX2_clear_7 rfl (lv_at hl 0 rfl) ?_
  refine lv_iconst (v := nI (3)) hx hb dX2_clear_8 (by decide) ?_
  refine xi_icmp_ge (tgt := 65) hx hb (by decide) (by decide) dX2_clear_9 (by decide) (fun c0 => absurd c0 (by decide)) (fun _ => ?_)
  refine lv_aload_n hx hb dX2_clear_12 rfl (lv_at hl 2 rfl) ?_
  refine xv_get hx hb hts hin2 hown hK hP (by decide) fg13_0 rfl 0 (by decide) hf11 rfl rfl dX2_clear_13 ?_
  refine lv_iload_n hx hb dX2_clear_16 rfl (lv_at hl 0 rfl) ?_
  refine lv_null hx hb dX2_clear_17 ?_
  refine xv_aastN hx hb hK hP hD hS (by decide) 3 fg13_1 rfl (by omega) (by decide) dX2_clear_18 (fun g16 H locs eg16 hP hS => ?_)
  have fg16_0 : g16 (0) = .inr (2, [.ref (ad (1)), .ref (ad (2)), .ref (ad (3)), .int (nI (0))]) := (congrFun eg16 (0)).trans ((va_up_ne _ _ (by decide)).trans fg13_0)
  have fg16_1 : g16 (3) = .inl (cJ, 3, .inr (.inl (vp_updL (f7) (0) (lZ (0))))) := (congrFun eg16 (3)).trans ((va_up_ne _ _ (by decide)).trans fg13_2)
  have fg16_2 : g16 (2) = .inl (cJ, 9, .inr (.inl (vp_updL (vp_updL (vp_updL (f6) (0) (lZ (1))) (1) (lZ (0))) (2) (lZ (0))))) := (congrFun eg16 (2)).trans ((va_up_ne _ _ (by decide)).trans fg13_w)
  have fg16_w : g16 (1) = .inl (cW, 3, .inr (.inr (.inr (.inr (va_up (va_up (f5) (0) none) (1) none))))) := (congrFun eg16 (1)).trans (va_up_self _ _ _)
  have hfrg16 : ∀ j : Nat, j ≠ 0 → j ≠ 1 → j ≠ 2 → j ≠ 3 → g16 j = g j := fun j h0 h1 h2 h3 => (congrFun eg16 j).trans ((va_up_ne _ _ h1).trans (hfrg13 j h0 h1 h2 h3))
  refine lv_aload_n hx hb dX2_clear_19 rfl (lv_at hl 2 rfl) ?_
  refine xv_get hx hb hts hin2 hown hK hP (by decide) fg16_0 rfl 2 (by decide) hf21 rfl rfl dX2_clear_20 ?_
  refine lv_iload_n hx hb dX2_clear_23 rfl (lv_at hl 0 rfl) ?_
  refine lv_lconst (v := lZ (0)) hx hb dX2_clear_24 (by decide) ?_
  refine xv_last hx hb hK hP hD hS (by decide) 1 fg16_1 rfl (by omega) (by decide) dX2_clear_25 (fun g17 H locs eg17 hP hS => ?_)
  have fg17_0 : g17 (0) = .inr (2, [.ref (ad (1)), .ref (ad (2)), .ref (ad (3)), .int (nI (0))]) := (congrFun eg17 (0)).trans ((va_up_ne _ _ (by decide)).trans fg16_0)
  have fg17_1 : g17 (2) = .inl (cJ, 9, .inr (.inl (vp_updL (vp_updL (vp_updL (f6) (0) (lZ (1))) (1) (lZ (0))) (2) (lZ (0))))) := (congrFun eg17 (2)).trans ((va_up_ne _ _ (by decide)).trans fg16_2)
  have fg17_2 : g17 (1) = .inl (cW, 3, .inr (.inr (.inr (.inr (va_up (va_up (f5) (0) none) (1) none))))) := (congrFun eg17 (1)).trans ((va_up_ne _ _ (by decide)).trans fg16_w)
  have fg17_w : g17 (3) = .inl (cJ, 3, .inr (.inl (vp_updL (vp_updL (f7) (0) (lZ (0))) (1) (lZ (0))))) := (congrFun eg17 (3)).trans (va_up_self _ _ _)
  have hfrg17 : ∀ j : Nat, j ≠ 0 → j ≠ 1 → j ≠ 2 → j ≠ 3 → g17 j = g j := fun j h0 h1 h2 h3 => (congrFun eg17 j).trans ((va_up_ne _ _ h3).trans (hfrg16 j h0 h1 h2 h3))
  refine lv_iconst (v := nI (0)) hx hb dX2_clear_26 (by decide) ?_
  refine lv_istore_n (lv' := [(2, .int (nI (0))), (1, .int (nI (1))), (0, .ref (ad (0)))]) hx hb dX2_clear_27 rfl hl (by decide) rfl (fun ls hl => ?_)
  refine lv_iload_n hx hb dX2_clear_28 rfl (lv_at hl 0 rfl) ?_
  refine lv_iconst (v := nI (3)) hx hb dX2_clear_29 (by decide) ?_
  refine xi_icmp_ge (tgt := 59) hx hb (by decide) (by decide) dX2_clear_30 (by decide) (fun c0 => absurd c0 (by decide)) (fun _ => ?_)
  refine lv_aload_n hx hb dX2_clear_33 rfl (lv_at hl 2 rfl) ?_
  refine xv_get hx hb hts hin2 hown hK hP (by decide) fg17_0 rfl 1 (by decide) hf17 rfl rfl dX2_clear_34 ?_
  refine lv_iload_n hx hb dX2_clear_37 rfl (lv_at hl 1 rfl) ?_
  refine lv_iconst (v := nI (3)) hx hb dX2_clear_38 (by decide) ?_
  refine xi_mul hx hb dX2_clear_39 ?_
  refine lv_iload_n hx hb dX2_clear_40 rfl (lv_at hl 0 rfl) ?_
  refine xi_add hx hb dX2_clear_41 ?_
  refine lv_iload_n hx hb dX2_clear_42 rfl (lv_at hl 1 rfl) ?_
  refine lv_iload_n hx hb dX2_clear_43 rfl (lv_at hl 0 rfl) ?_
  refine xi_icmp_ne (tgt := 51) hx hb (by decide) (by decide) dX2_clear_44 (by decide) (fun _ => ?_) (fun c0 => absurd c0 (by decide))
  refine lv_lconst (v := lZ (0)) hx hb dX2_clear_51 (by decide) ?_
  refine xv_last hx hb hK hP hD hS (by decide) 1 fg17_1 rfl (by omega) (by decide) dX2_clear_52 (fun g20 H locs eg20 hP hS => ?_)
  have fg20_0 : g20 (0) = .inr (2, [.ref (ad (1)), .ref (ad (2)), .ref (ad (3)), .int (nI (0))]) := (congrFun eg20 (0)).trans ((va_up_ne _ _ (by decide)).trans fg17_0)
  have fg20_1 : g20 (1) = .inl (cW, 3, .inr (.inr (.inr (.inr (va_up (va_up (f5) (0) none) (1) none))))) := (congrFun eg20 (1)).trans ((va_up_ne _ _ (by decide)).trans fg17_2)
  have fg20_2 : g20 (3) = .inl (cJ, 3, .inr (.inl (vp_updL (vp_updL (f7) (0) (lZ (0))) (1) (lZ (0))))) := (congrFun eg20 (3)).trans ((va_up_ne _ _ (by decide)).trans fg17_w)
  have fg20_w : g20 (2) = .inl (cJ, 9, .inr (.inl (vp_updL (vp_updL (vp_updL (vp_updL (f6) (0) (lZ (1))) (1) (lZ (0))) (2) (lZ (0))) (3) (lZ (0))))) := (congrFun eg20 (2)).trans (va_up_self _ _ _)
  have hfrg20 : ∀ j : Nat, j ≠ 0 → j ≠ 1 → j ≠ 2 → j ≠ 3 → g20 j = g j := fun j h0 h1 h2 h3 => (congrFun eg20 j).trans ((va_up_ne _ _ h2).trans (hfrg17 j h0 h1 h2 h3))
  refine lv_iinc (v := nI (1)) (lv' := [(2, .int (nI (1))), (1, .int (nI (1))), (0, .ref (ad (0)))]) hx hb dX2_clear_53 hl (k := 0) rfl (nI_add (0) 1) (by decide) rfl (fun ls hl => ?_)
  refine lv_goto (tgt := 28) hx hb dX2_clear_56 (by decide) ?_
  refine lv_iload_n hx hb dX2_clear_28 rfl (lv_at hl 0 rfl) ?_
  refine lv_iconst (v := nI (3)) hx hb dX2_clear_29 (by decide) ?_
  refine xi_icmp_ge (tgt := 59) hx hb (by decide) (by decide) dX2_clear_30 (by decide) (fun c0 => absurd c0 (by decide)) (fun _ => ?_)
  refine lv_aload_n hx hb dX2_clear_33 rfl (lv_at hl 2 rfl) ?_
  refine xv_get hx hb hts hin2 hown hK hP (by decide) fg20_0 rfl 1 (by decide) hf17 rfl rfl dX2_clear_34 ?_
  refine lv_iload_n hx hb dX2_clear_37 rfl (lv_at hl 1 rfl) ?_
  refine lv_iconst (v := nI (3)) hx hb dX2_clear_38 (by decide) ?_
  refine xi_mul hx hb dX2_clear_39 ?_
  refine lv_iload_n hx hb dX2_clear_40 rfl (lv_at hl 0 rfl) ?_
  refine xi_add hx hb dX2_clear_41 ?_
  refine lv_iload_n hx hb dX2_clear_42 rfl (lv_at hl 1 rfl) ?_
  refine lv_iload_n hx hb dX2_clear_43 rfl (lv_at hl 0 rfl) ?_
  refine xi_icmp_ne (tgt := 51) hx hb (by decide) (by decide) dX2_clear_44 (by decide) (fun c0 => absurd c0 (by decide)) (fun _ => ?_)
  refine lv_lconst (v := lZ (1)) hx hb dX2_clear_47 (by decide) ?_
  refine lv_goto (tgt := 52) hx hb dX2_clear_48 (by decide) ?_
  refine xv_last hx hb hK hP hD hS (by decide) 1 fg20_w rfl (by omega) (by decide) dX2_clear_52 (fun g23 H locs eg23 hP hS => ?_)
  have fg23_0 : g23 (0) = .inr (2, [.ref (ad (1)), .ref (ad (2)), .ref (ad (3)), .int (nI (0))]) := (congrFun eg23 (0)).trans ((va_up_ne _ _ (by decide)).trans fg20_0)
  have fg23_1 : g23 (1) = .inl (cW, 3, .inr (.inr (.inr (.inr (va_up (va_up (f5) (0) none) (1) none))))) := (congrFun eg23 (1)).trans ((va_up_ne _ _ (by decide)).trans fg20_1)
  have fg23_2 : g23 (3) = .inl (cJ, 3, .inr (.inl (vp_updL (vp_updL (f7) (0) (lZ (0))) (1) (lZ (0))))) := (congrFun eg23 (3)).trans ((va_up_ne _ _ (by decide)).trans fg20_2)
  have fg23_w : g23 (2) = .inl (cJ, 9, .inr (.inl (vp_updL (vp_updL (vp_updL (vp_updL (vp_updL (f6) (0) (lZ (1))) (1) (lZ (0))) (2) (lZ (0))) (3) (lZ (0))) (4) (lZ (1))))) := (congrFun eg23 (2)).trans (va_up_self _ _ _)
  have hfrg23 : ∀ j : Nat, j ≠ 0 → j ≠ 1 → j ≠ 2 → j ≠ 3 → g23 j = g j := fun j h0 h1 h2 h3 => (congrFun eg23 j).trans ((va_up_ne _ _ h2).trans (hfrg20 j h0 h1 h2 h3))
  refine lv_iinc (v := nI (2)) (lv' := [(2, .int (nI (2))), (1, .int (nI (1))), (0, .ref (ad (0)))]) hx hb dX2_clear_53 hl (k := 0) rfl (nI_add (1) 1) (by decide) rfl (fun ls hl => ?_)
  refine lv_goto (tgt := 28) hx hb dX2_clear_56 (by decide) ?_
  refine lv_iload_n hx hb dX2_clear_28 rfl (lv_at hl 0 rfl) ?_
  refine lv_iconst (v := nI (3)) hx hb dX2_clear_29 (by decide) ?_
  refine xi_icmp_ge (tgt := 59) hx hb (by decide) (by decide) dX2_clear_30 (by decide) (fun c0 => absurd c0 (by decide)) (fun _ => ?_)
  refine lv_aload_n hx hb dX2_clear_33 rfl (lv_at hl 2 rfl) ?_
  refine xv_get hx hb hts hin2 hown hK hP (by decide) fg23_0 rfl 1 (by decide) hf17 rfl rfl dX2_clear_34 ?_
  refine lv_iload_n hx hb dX2_clear_37 rfl (lv_at hl 1 rfl) ?_
  refine lv_iconst (v := nI (3)) hx hb dX2_clear_38 (by decide) ?_
  refine xi_mul hx hb dX2_clear_39 ?_
  refine lv_iload_n hx hb dX2_clear_40 rfl (lv_at hl 0 rfl) ?_
  refine xi_add hx hb dX2_clear_41 ?_
  refine lv_iload_n hx hb dX2_clear_42 rfl (lv_at hl 1 rfl) ?_
  refine lv_iload_n hx hb dX2_clear_43 rfl (lv_at hl 0 rfl) ?_
  refine xi_icmp_ne (tgt := 51) hx hb (by decide) (by decide) dX2_clear_44 (by decide) (fun _ => ?_) (fun c0 => absurd c0 (by decide))
  refine lv_lconst (v := lZ (0)) hx hb dX2_clear_51 (by decide) ?_
  refine xv_last hx hb hK hP hD hS (by decide) 1 fg23_w rfl (by omega) (by decide) dX2_clear_52 (fun g26 H locs eg26 hP hS => ?_)
  have fg26_0 : g26 (0) = .inr (2, [.ref (ad (1)), .ref (ad (2)), .ref (ad (3)), .int (nI (0))]) := (congrFun eg26 (0)).trans ((va_up_ne _ _ (by decide)).trans fg23_0)
  have fg26_1 : g26 (1) = .inl (cW, 3, .inr (.inr (.inr (.inr (va_up (va_up (f5) (0) none) (1) none))))) := (congrFun eg26 (1)).trans ((va_up_ne _ _ (by decide)).trans fg23_1)
  have fg26_2 : g26 (3) = .inl (cJ, 3, .inr (.inl (vp_updL (vp_updL (f7) (0) (lZ (0))) (1) (lZ (0))))) := (congrFun eg26 (3)).trans ((va_up_ne _ _ (by decide)).trans fg23_2)
  have fg26_w : g26 (2) = .inl (cJ, 9, .inr (.inl (vp_updL (vp_updL (vp_updL (vp_updL (vp_updL (vp_updL (f6) (0) (lZ (1))) (1) (lZ (0))) (2) (lZ (0))) (3) (lZ (0))) (4) (lZ (1))) (5) (lZ (0))))) := (congrFun eg26 (2)).trans (va_up_self _ _ _)
  have hfrg26 : ∀ j : Nat, j ≠ 0 → j ≠ 1 → j ≠ 2 → j ≠ 3 → g26 j = g j := fun j h0 h1 h2 h3 => (congrFun eg26 j).trans ((va_up_ne _ _ h2).trans (hfrg23 j h0 h1 h2 h3))
  refine lv_iinc (v := nI (3)) (lv' := [(2, .int (nI (3))), (1, .int (nI (1))), (0, .ref (ad (0)))]) hx hb dX2_clear_53 hl (k := 0) rfl (nI_add (2) 1) (by decide) rfl (fun ls hl => ?_)
  refine lv_goto (tgt := 28) hx hb dX2_clear_56 (by decide) ?_
  refine lv_iload_n hx hb dX2_clear_28 rfl (lv_at hl 0 rfl) ?_
  refine lv_iconst (v := nI (3)) hx hb dX2_clear_29 (by decide) ?_
  refine xi_icmp_ge (tgt := 59) hx hb (by decide) (by decide) dX2_clear_30 (by decide) (fun _ => ?_) (fun c0 => absurd c0 (by decide))
  refine lv_iinc (v := nI (2)) (lv' := [(1, .int (nI (2))), (2, .int (nI (3))), (0, .ref (ad (0)))]) hx hb dX2_clear_59 hl (k := 1) rfl (nI_add (1) 1) (by decide) rfl (fun ls hl => ?_)
  refine lv_goto (tgt := 7) hx hb dX2_clear_62 (by decide) ?_
  refine lv_iload_n hx hb dX2_clear_7 rfl (lv_at hl 0 rfl) ?_
  refine lv_iconst (v := nI (3)) hx hb dX2_clear_8 (by decide) ?_
  refine xi_icmp_ge (tgt := 65) hx hb (by decide) (by decide) dX2_clear_9 (by decide) (fun c0 => absurd c0 (by decide)) (fun _ => ?_)
  refine lv_aload_n hx hb dX2_clear_12 rfl (lv_at hl 2 rfl) ?_
  refine xv_get hx hb hts hin2 hown hK hP (by decide) fg26_0 rfl 0 (by decide) hf11 rfl rfl dX2_clear_13 ?_
  refine lv_iload_n hx hb dX2_clear_16 rfl (lv_at hl 0 rfl) ?_
  refine lv_null hx hb dX2_clear_17 ?_
  refine xv_aastN hx hb hK hP hD hS (by decide) 3 fg26_1 rfl (by omega) (by decide) dX2_clear_18 (fun g29 H locs eg29 hP hS => ?_)
  have fg29_0 : g29 (0) = .inr (2, [.ref (ad (1)), .ref (ad (2)), .ref (ad (3)), .int (nI (0))]) := (congrFun eg29 (0)).trans ((va_up_ne _ _ (by decide)).trans fg26_0)
  have fg29_1 : g29 (3) = .inl (cJ, 3, .inr (.inl (vp_updL (vp_updL (f7) (0) (lZ (0))) (1) (lZ (0))))) := (congrFun eg29 (3)).trans ((va_up_ne _ _ (by decide)).trans fg26_2)
  have fg29_2 : g29 (2) = .inl (cJ, 9, .inr (.inl (vp_updL (vp_updL (vp_updL (vp_updL (vp_updL (vp_updL (f6) (0) (lZ (1))) (1) (lZ (0))) (2) (lZ (0))) (3) (lZ (0))) (4) (lZ (1))) (5) (lZ (0))))) := (congrFun eg29 (2)).trans ((va_up_ne _ _ (by decide)).trans fg26_w)
  have fg29_w : g29 (1) = .inl (cW, 3, .inr (.inr (.inr (.inr (va_up (va_up (va_up (f5) (0) none) (1) none) (2) none))))) := (congrFun eg29 (1)).trans (va_up_self _ _ _)
  have hfrg29 : ∀ j : Nat, j ≠ 0 → j ≠ 1 → j ≠ 2 → j ≠ 3 → g29 j = g j := fun j h0 h1 h2 h3 => (congrFun eg29 j).trans ((va_up_ne _ _ h1).trans (hfrg26 j h0 h1 h2 h3))
  refine lv_aload_n hx hb dX2_clear_19 rfl (lv_at hl 2 rfl) ?_
  refine xv_get hx hb hts hin2 hown hK hP (by decide) fg29_0 rfl 2 (by decide) hf21 rfl rfl dX2_clear_20 ?_
  refine lv_iload_n hx hb dX2_clear_23 rfl (lv_at hl 0 rfl) ?_
  refine lv_lconst (v := lZ (0)) hx hb dX2_clear_24 (by decide) ?_
  refine xv_last hx hb hK hP hD hS (by decide) 1 fg29_1 rfl (by omega) (by decide) dX2_clear_25 (fun g30 H locs eg30 hP hS => ?_)
  have fg30_0 : g30 (0) = .inr (2, [.ref (ad (1)), .ref (ad (2)), .ref (ad (3)), .int (nI (0))]) := (congrFun eg30 (0)).trans ((va_up_ne _ _ (by decide)).trans fg29_0)
  have fg30_1 : g30 (2) = .inl (cJ, 9, .inr (.inl (vp_updL (vp_updL (vp_updL (vp_updL (vp_updL (vp_updL (f6) (0) (lZ (1))) (1) (lZ (0))) (2) (lZ (0))) (3) (lZ (0))) (4) (lZ (1))) (5) (lZ (0))))) := (congrFun eg30 (2)).trans ((va_up_ne _ _ (by decide)).trans fg29_2)
  have fg30_2 : g30 (1) = .inl (cW, 3, .inr (.inr (.inr (.inr (va_up (va_up (va_up (f5) (0) none) (1) none) (2) none))))) := (congrFun eg30 (1)).trans ((va_up_ne _ _ (by decide)).trans fg29_w)
  have fg30_w : g30 (3) = .inl (cJ, 3, .inr (.inl (vp_updL (vp_updL (vp_updL (f7) (0) (lZ (0))) (1) (lZ (0))) (2) (lZ (0))))) := (congrFun eg30 (3)).trans (va_up_self _ _ _)
  have hfrg30 : ∀ j : Nat, j ≠ 0 → j ≠ 1 → j ≠ 2 → j ≠ 3 → g30 j = g j := fun j h0 h1 h2 h3 => (congrFun eg30 j).trans ((va_up_ne _ _ h3).trans (hfrg29 j h0 h1 h2 h3))
  refine lv_iconst (v := nI (0)) hx hb dX2_clear_26 (by decide) ?_
  refine lv_istore_n (lv' := [(2, .int (nI (0))), (1, .int (nI (2))), (0, .ref (ad (0)))]) hx hb dX2_clear_27 rfl hl (by decide) rfl (fun ls hl => ?_)
  refine lv_iload_n hx hb dX2_clear_28 rfl (lv_at hl 0 rfl) ?_
  refine lv_iconst (v := nI (3)) hx hb dX2_clear_29 (by decide) ?_
  refine xi_icmp_ge (tgt := 59) hx hb (by decide) (by decide) dX2_clear_30 (by decide) (fun c0 => absurd c0 (by decide)) (fun _ => ?_)
  refine lv_aload_n hx hb dX2_clear_33 rfl (lv_at hl 2 rfl) ?_
  refine xv_get hx hb hts hin2 hown hK hP (by decide) fg30_0 rfl 1 (by decide) hf17 rfl rfl dX2_clear_34 ?_
  refine lv_iload_n hx hb dX2_clear_37 rfl (lv_at hl 1 rfl) ?_
  refine lv_iconst (v := nI (3)) hx hb dX2_clear_38 (by decide) ?_
  refine xi_mul hx hb dX2_clear_39 ?_
  refine lv_iload_n hx hb dX2_clear_40 rfl (lv_at hl 0 rfl) ?_
  refine xi_add hx hb dX2_clear_41 ?_
  refine lv_iload_n hx hb dX2_clear_42 rfl (lv_at hl 1 rfl) ?_
  refine lv_iload_n hx hb dX2_clear_43 rfl (lv_at hl 0 rfl) ?_
  refine xi_icmp_ne (tgt := 51) hx hb (by decide) (by decide) dX2_clear_44 (by decide) (fun _ => ?_) (fun c0 => absurd c0 (by decide))
  refine lv_lconst (v := lZ (0)) hx hb dX2_clear_51 (by decide) ?_
  refine xv_last hx hb hK hP hD hS (by decide) 1 fg30_1 rfl (by omega) (by decide) dX2_clear_52 (fun g33 H locs eg33 hP hS => ?_)
  have fg33_0 : g33 (0) = .inr (2, [.ref (ad (1)), .ref (ad (2)), .ref (ad (3)), .int (nI (0))]) := (congrFun eg33 (0)).trans ((va_up_ne _ _ (by decide)).trans fg30_0)
  have fg33_1 : g33 (1) = .inl (cW, 3, .inr (.inr (.inr (.inr (va_up (va_up (va_up (f5) (0) none) (1) none) (2) none))))) := (congrFun eg33 (1)).trans ((va_up_ne _ _ (by decide)).trans fg30_2)
  have fg33_2 : g33 (3) = .inl (cJ, 3, .inr (.inl (vp_updL (vp_updL (vp_updL (f7) (0) (lZ (0))) (1) (lZ (0))) (2) (lZ (0))))) := (congrFun eg33 (3)).trans ((va_up_ne _ _ (by decide)).trans fg30_w)
  have fg33_w : g33 (2) = .inl (cJ, 9, .inr (.inl (vp_updL (vp_updL (vp_updL (vp_updL (vp_updL (vp_updL (vp_updL (f6) (0) (lZ (1))) (1) (lZ (0))) (2) (lZ (0))) (3) (lZ (0))) (4) (lZ (1))) (5) (lZ (0))) (6) (lZ (0))))) := (congrFun eg33 (2)).trans (va_up_self _ _ _)
  have hfrg33 : ∀ j : Nat, j ≠ 0 → j ≠ 1 → j ≠ 2 → j ≠ 3 → g33 j = g j := fun j h0 h1 h2 h3 => (congrFun eg33 j).trans ((va_up_ne _ _ h2).trans (hfrg30 j h0 h1 h2 h3))
  refine lv_iinc (v := nI (1)) (lv' := [(2, .int (nI (1))), (1, .int (nI (2))), (0, .ref (ad (0)))]) hx hb dX2_clear_53 hl (k := 0) rfl (nI_add (0) 1) (by decide) rfl (fun ls hl => ?_)
  refine lv_goto (tgt := 28) hx hb dX2_clear_56 (by decide) ?_
  refine lv_iload_n hx hb dX2_clear_28 rfl (lv_at hl 0 rfl) ?_
  refine lv_iconst (v := nI (3)) hx hb dX2_clear_29 (by decide) ?_
  refine xi_icmp_ge (tgt := 59) hx hb (by decide) (by decide) dX2_clear_30 (by decide) (fun c0 => absurd c0 (by decide)) (fun _ => ?_)
  refine lv_aload_n hx hb dX2_clear_33 rfl (lv_at hl 2 rfl) ?_
  refine xv_get hx hb hts hin2 hown hK hP (by decide) fg33_0 rfl 1 (by decide) hf17 rfl rfl dX2_clear_34 ?_
  refine lv_iload_n hx hb dX2_clear_37 rfl (lv_at hl 1 rfl) ?_
  refine lv_iconst (v := nI (3)) hx hb dX2_clear_38 (by decide) ?_
  refine xi_mul hx hb dX2_clear_39 ?_
  refine lv_iload_n hx hb dX2_clear_40 rfl (lv_at hl 0 rfl) ?_
  refine xi_add hx hb dX2_clear_41 ?_
  refine lv_iload_n hx hb dX2_clear_42 rfl (lv_at hl 1 rfl) ?_
  refine lv_iload_n hx hb dX2_clear_43 rfl (lv_at hl 0 rfl) ?_
  refine xi_icmp_ne (tgt := 51) hx hb (by decide) (by decide) dX2_clear_44 (by decide) (fun _ => ?_) (fun c0 => absurd c0 (by decide))
  refine lv_lconst (v := lZ (0)) hx hb dX2_clear_51 (by decide) ?_
  refine xv_last hx hb hK hP hD hS (by decide) 1 fg33_w rfl (by omega) (by decide) dX2_clear_52 (fun g36 H locs eg36 hP hS => ?_)
  have fg36_0 : g36 (0) = .inr (2, [.ref (ad (1)), .ref (ad (2)), .ref (ad (3)), .int (nI (0))]) := (congrFun eg36 (0)).trans ((va_up_ne _ _ (by decide)).trans fg33_0)
  have fg36_1 : g36 (1) = .inl (cW, 3, .inr (.inr (.inr (.inr (va_up (va_up (va_up (f5) (0) none) (1) none) (2) none))))) := (congrFun eg36 (1)).trans ((va_up_ne _ _ (by decide)).trans fg33_1)
  have fg36_2 : g36 (3) = .inl (cJ, 3, .inr (.inl (vp_updL (vp_updL (vp_updL (f7) (0) (lZ (0))) (1) (lZ (0))) (2) (lZ (0))))) := (congrFun eg36 (3)).trans ((va_up_ne _ _ (by decide)).trans fg33_2)
  have fg36_w : g36 (2) = .inl (cJ, 9, .inr (.inl (vp_updL (vp_updL (vp_updL (vp_updL (vp_updL (vp_updL (vp_updL (vp_updL (f6) (0) (lZ (1))) (1) (lZ (0))) (2) (lZ (0))) (3) (lZ (0))) (4) (lZ (1))) (5) (lZ (0))) (6) (lZ (0))) (7) (lZ (0))))) := (congrFun eg36 (2)).trans (va_up_self _ _ _)
  have hfrg36 : ∀ j : Nat, j ≠ 0 → j ≠ 1 → j ≠ 2 → j ≠ 3 → g36 j = g j := fun j h0 h1 h2 h3 => (congrFun eg36 j).trans ((va_up_ne _ _ h2).trans (hfrg33 j h0 h1 h2 h3))
  refine lv_iinc (v := nI (2)) (lv' := [(2, .int (nI (2))), (1, .int (nI (2))), (0, .ref (ad (0)))]) hx hb dX2_clear_53 hl (k := 0) rfl (nI_add (1) 1) (by decide) rfl (fun ls hl => ?_)
  refine lv_goto (tgt := 28) hx hb dX2_clear_56 (by decide) ?_
  refine lv_iload_n hx hb dX2_clear_28 rfl (lv_at hl 0 rfl) ?_
  refine lv_iconst (v := nI (3)) hx hb dX2_clear_29 (by decide) ?_
  refine xi_icmp_ge (tgt := 59) hx hb (by decide) (by decide) dX2_clear_30 (by decide) (fun c0 => absurd c0 (by decide)) (fun _ => ?_)
  refine lv_aload_n hx hb dX2_clear_33 rfl (lv_at hl 2 rfl) ?_
  refine xv_get hx hb hts hin2 hown hK hP (by decide) fg36_0 rfl 1 (by decide) hf17 rfl rfl dX2_clear_34 ?_
  refine lv_iload_n hx hb dX2_clear_37 rfl (lv_at hl 1 rfl) ?_
  refine lv_iconst (v := nI (3)) hx hb dX2_clear_38 (by decide) ?_
  refine xi_mul hx hb dX2_clear_39 ?_
  refine lv_iload_n hx hb dX2_clear_40 rfl (lv_at hl 0 rfl) ?_
  refine xi_add hx hb dX2_clear_41 ?_
  refine lv_iload_n hx hb dX2_clear_42 rfl (lv_at hl 1 rfl) ?_
  refine lv_iload_n hx hb dX2_clear_43 rfl (lv_at hl 0 rfl) ?_
  refine xi_icmp_ne (tgt := 51) hx hb (by decide) (by decide) dX2_clear_44 (by decide) (fun c0 => absurd c0 (by decide)) (fun _ => ?_)
  refine lv_lconst (v := lZ (1)) hx hb dX2_clear_47 (by decide) ?_
  refine lv_goto (tgt := 52) hx hb dX2_clear_48 (by decide) ?_
  refine xv_last hx hb hK hP hD hS (by decide) 1 fg36_w rfl (by omega) (by decide) dX2_clear_52 (fun g39 H locs eg39 hP hS => ?_)
  have fg39_0 : g39 (0) = .inr (2, [.ref (ad (1)), .ref (ad (2)), .ref (ad (3)), .int (nI (0))]) := (congrFun eg39 (0)).trans ((va_up_ne _ _ (by decide)).trans fg36_0)
  have fg39_1 : g39 (1) = .inl (cW, 3, .inr (.inr (.inr (.inr (va_up (va_up (va_up (f5) (0) none) (1) none) (2) none))))) := (congrFun eg39 (1)).trans ((va_up_ne _ _ (by decide)).trans fg36_1)
  have fg39_2 : g39 (3) = .inl (cJ, 3, .inr (.inl (vp_updL (vp_updL (vp_updL (f7) (0) (lZ (0))) (1) (lZ (0))) (2) (lZ (0))))) := (congrFun eg39 (3)).trans ((va_up_ne _ _ (by decide)).trans fg36_2)
  have fg39_w : g39 (2) = .inl (cJ, 9, .inr (.inl (vp_updL (vp_updL (vp_updL (vp_updL (vp_updL (vp_updL (vp_updL (vp_updL (vp_updL (f6) (0) (lZ (1))) (1) (lZ (0))) (2) (lZ (0))) (3) (lZ (0))) (4) (lZ (1))) (5) (lZ (0))) (6) (lZ (0))) (7) (lZ (0))) (8) (lZ (1))))) := (congrFun eg39 (2)).trans (va_up_self _ _ _)
  have hfrg39 : ∀ j : Nat, j ≠ 0 → j ≠ 1 → j ≠ 2 → j ≠ 3 → g39 j = g j := fun j h0 h1 h2 h3 => (congrFun eg39 j).trans ((va_up_ne _ _ h2).trans (hfrg36 j h0 h1 h2 h3))
  refine lv_iinc (v := nI (3)) (lv' := [(2, .int (nI (3))), (1, .int (nI (2))), (0, .ref (ad (0)))]) hx hb dX2_clear_53 hl (k := 0) rfl (nI_add (2) 1) (by decide) rfl (fun ls hl => ?_)
  refine lv_goto (tgt := 28) hx hb dX2_clear_56 (by decide) ?_
  refine lv_iload_n hx hb dX2_clear_28 rfl (lv_at hl 0 rfl) ?_
  refine lv_iconst (v := nI (3)) hx hb dX2_clear_29 (by decide) ?_
  refine xi_icmp_ge (tgt := 59) hx hb (by decide) (by decide) dX2_clear_30 (by decide) (fun _ => ?_) (fun c0 => absurd c0 (by decide))
  refine lv_iinc (v := nI (3)) (lv' := [(1, .int (nI (3))), (2, .int (nI (3))), (0, .ref (ad (0)))]) hx hb dX2_clear_59 hl (k := 1) rfl (nI_add (2) 1) (by decide) rfl (fun ls hl => ?_)
  refine lv_goto (tgt := 7) hx hb dX2_clear_62 (by decide) ?_
  refine lv_iload_n hx hb dX2_clear_7 rfl (lv_at hl 0 rfl) ?_
  refine lv_iconst (v := nI (3)) hx hb dX2_clear_8 (by decide) ?_
  refine xi_icmp_ge (tgt := 65) hx hb (by decide) (by decide) dX2_clear_9 (by decide) (fun _ => ?_) (fun c0 => absurd c0 (by decide))
  exact W.vret hx hb hr (fun tZ ht hW => ⟨⟨g39, rfl, ⟨_, _, _, (fun i hi => by rcases (show i = 0 ∨ i = 1 ∨ i = 2 by omega) with rfl | rfl | rfl <;> rfl), (fun i hi => by rcases (show i = 0 ∨ i = 1 ∨ i = 2 ∨ i = 3 ∨ i = 4 ∨ i = 5 ∨ i = 6 ∨ i = 7 ∨ i = 8 by omega) with rfl | rfl | rfl | rfl | rfl | rfl | rfl | rfl | rfl <;> rfl), (fun i hi => by rcases (show i = 0 ∨ i = 1 ∨ i = 2 by omega) with rfl | rfl | rfl <;> rfl), fg39_0, fg39_1, fg39_w, fg39_2, hfrg39⟩, by rw [ht]; exact hP, va_K.moved hW.alike hK, va_Nw.warmM hW hN⟩, hS.F ht⟩) hS.2.2 dX2_clear_65

set_option maxHeartbeats 4000000 in
set_option maxRecDepth 100000 in
/-- a constructor -/
theorem mX0_init (l : Launch) {D : va_G} {cI cJ cZ cW : ClassId} (h0 sz : Nat) : Met l yX0_init wsX0_init ({ frames := 1, cells := 1, slots := 4, locals := 12 }) (va_Pc [.ref h0] (ccP D (xT cI cJ cZ cW) [(h0, .inr (0, [.null, .int 0, .int 0]))] sz)) (va_Qv (fun _ : Unit => True) (fun _ t => ∃ (q1 : Nat), va_P D vwCl [(h0, .inr (0, [.ref q1, .int (nI (2)), .int (nI (2))])), (q1, .inl (cI, 4, .inl (upd (upd (fun _ => 0) (0) (nI (1))) (1) (nI (1)))))] t.heap ∧ va_K D vwCl (xT cI cJ cZ cW) t ∧ va_D (va_A [(h0, .inr (0, [.null, .int 0, .int 0]))] sz) [(h0, .inr (0, [.ref q1, .int (nI (2)), .int (nI (2))])), (q1, .inl (cI, 4, .inl (upd (upd (fun _ => 0) (0) (nI (1))) (1) (nI (1)))))]) (va_A [(h0, .inr (0, [.null, .int 0, .int 0]))] sz)) 1 4 (va_A [(h0, .inr (0, [.null, .int 0, .int 0]))] sz) := by
  refine Met.ofW (cc := cX0_init) (maxL := 1) (ret := none) (by decide) rfl ?_
  intro p e s m args below meth c s₁ B hml hv
  obtain ⟨rfl, hsz, hP, hK, hD0, hO, hN⟩ := hv
  have hx := B.exec
  have hb := B.bytes
  have hr := B.returns
  have hts := atoms_spec (ws := wsX0_init) B.pre
  have hown : s.vm.findClass RX0 = some m.cls := findClass_of_methodNamed B.named
  have hin : meth.name = "<init>" := (name_of_methodNamed B.named B.method).1
  have hin0 : ∀ w ∈ wsX00, w ∈ wsX0_init := by decide +kernel
  subst hsz
  have hD := hD0.self (sz := s.heap.size)
  generalize hAe : va_A [(h0, .inr (0, [.null, .int 0, .int 0]))] s.heap.size = A at hD ⊢
  have hA : ∀ q : Nat, s.heap.size ≤ q → A q := fun q h => by rw [← hAe]; exact Or.inr h
  have hS : va_S A s.heap s.heap [] := va_S.rf
  have hP : va_P D vwCl [(h0, .inr (0, [.null, .int 0, .int 0]))] s.heap := hP
  have hl := lv_entry ([.ref h0]) (n := 1) (Nat.le_of_ble_eq_true rfl)
  rw [lg_entry_eq]
  generalize (lg_sl ([.ref h0]) ++ List.replicate (1 - (lg_sl ([.ref h0])).length) Slot.unset).toArray = ls at hl ⊢
  have hl : lv_has ls 1 [(0, .ref h0)] := hl
  refine lv_aload_n hx hb dX0_init_0 rfl (lv_at hl 0 rfl) ?_
  refine W.objInit hx hb hown (hts (.methodLink RX0 3 objectInit) (by decide +kernel)) (hts (.instanceMethod objectInit) (by decide +kernel)) (hts _ (List.mem_of_getElem? (i := 3) rfl)) rfl (by rw [hml]; exact hl.1) rfl dX0_init_1 (Nat.le_of_ble_eq_true rfl) (Nat.le_of_ble_eq_true rfl) ?_
  refine W.eq (g2 := F0 m 4 ls []) rfl ?_
  refine lv_aload_n hx hb dX0_init_4 rfl (lv_at hl 0 rfl) ?_
  refine lv_iconst (v := nI (4)) hx hb dX0_init_5 (by decide) ?_
  refine xl_newi hx hb (hts (.arrayClass .int) (by decide +kernel)) hK hP hD hS hA (N' := 4) (by decide) (by decide) (by decide) (Nat.le_of_ble_eq_true rfl) (Nat.le_of_ble_eq_true rfl) dX0_init_6 (fun q1 H hP hD hS => ?_)
  have hP : va_P D vwCl [(h0, .inr (0, [.null, .int 0, .int 0])), (q1, .inl (cI, 4, .inl (fun _ => 0)))] H := hP
  have hD : va_D A [(h0, .inr (0, [.null, .int 0, .int 0])), (q1, .inl (cI, 4, .inl (fun _ => 0)))] := hD
  refine va_putF (D := D) (ci := 0) (v := .ref q1) (ty := .array .int) (C := RX0) (T := TX0) (N := 3) hx hb hts hin0 tyX0 tyX0_ok nmX0 hown hK hP hD hS 0 rfl rfl 0 (by decide) (hts (.fieldLink RX0 9 "LettersByLot$Lot" "weights" "[I") (by decide +kernel)) (fun _ h9 => h9) rfl hin rfl (by decide +kernel) rfl rfl (Nat.le_of_ble_eq_true rfl) dX0_init_8 (fun H locs hP hD hS => ?_)
  have hP : va_P D vwCl [(h0, .inr (0, [.ref q1, .int 0, .int 0])), (q1, .inl (cI, 4, .inl (fun _ => 0)))] H := hP
  have hD : va_D A [(h0, .inr (0, [.ref q1, .int 0, .int 0])), (q1, .inl (cI, 4, .inl (fun _ => 0)))] := hD
  refine lv_aload_n hx hb dX0_init_11 rfl (lv_at hl 0 rfl) ?_
  refine va_get (D := D) (ci := 0) (v := .ref q1) (C := RX0) (T := TX0) (N := 3) hx hb hts hin0 hown hK hP 0 rfl rfl 0 (by decide) (hts (.fieldLink RX0 9 "LettersByLot$Lot" "weights" "[I") (by decide +kernel)) (fun _ h9 => h9) rfl dX0_init_12 ?_
  refine lv_iconst (v := nI (0)) hx hb dX0_init_15 (by decide) ?_
  refine lv_iconst (v := nI (1)) hx hb dX0_init_16 (by decide) ?_
  refine va_iast hx hb hK hP hD hS 1 0 rfl rfl (vp_in_nI (show 0 < 4 by decide) (by decide)) dX0_init_17 (fun H locs hP hD hS => ?_)
  have hP : va_P D vwCl [(h0, .inr (0, [.ref q1, .int 0, .int 0])), (q1, .inl (cI, 4, .inl (upd (fun _ => 0) (0) (nI (1)))))] H := hP
  have hD : va_D A [(h0, .inr (0, [.ref q1, .int 0, .int 0])), (q1, .inl (cI, 4, .inl (upd (fun _ => 0) (0) (nI (1)))))] := hD
  refine lv_aload_n hx hb dX0_init_18 rfl (lv_at hl 0 rfl) ?_
  refine va_get (D := D) (ci := 0) (v := .ref q1) (C := RX0) (T := TX0) (N := 3) hx hb hts hin0 hown hK hP 0 rfl rfl 0 (by decide) (hts (.fieldLink RX0 9 "LettersByLot$Lot" "weights" "[I") (by decide +kernel)) (fun _ h9 => h9) rfl dX0_init_19 ?_
  refine lv_iconst (v := nI (1)) hx hb dX0_init_22 (by decide) ?_
  refine lv_iconst (v := nI (1)) hx hb dX0_init_23 (by decide) ?_
  refine va_iast hx hb hK hP hD hS 1 0 rfl rfl (vp_in_nI (show 1 < 4 by decide) (by decide)) dX0_init_24 (fun H locs hP hD hS => ?_)
  have hP : va_P D vwCl [(h0, .inr (0, [.ref q1, .int 0, .int 0])), (q1, .inl (cI, 4, .inl (upd (upd (fun _ => 0) (0) (nI (1))) (1) (nI (1)))))] H := hP
  have hD : va_D A [(h0, .inr (0, [.ref q1, .int 0, .int 0])), (q1, .inl (cI, 4, .inl (upd (upd (fun _ => 0) (0) (nI (1))) (1) (nI (1)))))] := hD
  refine lv_aload_n hx hb dX0_init_25 rfl (lv_at hl 0 rfl) ?_
  refine lv_iconst (v := nI (2)) hx hb dX0_init_26 (by decide) ?_
  refine va_put (D := D) (ci := 0) (v := .int (nI (2))) (ty := .int) (C := RX0) (T := TX0) (N := 3) hx hb hts hin0 tyX0 tyX0_ok nmX0 hown hK hP hD hS 0 rfl rfl 1 (by decide) (hts (.fieldLink RX0 15 "LettersByLot$Lot" "letters" "I") (by decide +kernel)) (fun _ h9 => h9) rfl (by decide +kernel) rfl rfl (Nat.le_of_ble_eq_true rfl) dX0_init_27 (fun H locs hP hD hS => ?_)
  have hP : va_P D vwCl [(h0, .inr (0, [.ref q1, .int (nI (2)), .int 0])), (q1, .inl (cI, 4, .inl (upd (upd (fun _ => 0) (0) (nI (1))) (1) (nI (1)))))] H := hP
  have hD : va_D A [(h0, .inr (0, [.ref q1, .int (nI (2)), .int 0])), (q1, .inl (cI, 4, .inl (upd (upd (fun _ => 0) (0) (nI (1))) (1) (nI (1)))))] := hD
  refine lv_aload_n hx hb dX0_init_30 rfl (lv_at hl 0 rfl) ?_
  refine lv_iconst (v := nI (2)) hx hb dX0_init_31 (by decide) ?_
  refine va_put (D := D) (ci := 0) (v := .int (nI (2))) (ty := .int) (C := RX0) (T := TX0) (N := 3) hx hb hts hin0 tyX0 tyX0_ok nmX0 hown hK hP hD hS 0 rfl rfl 2 (by decide) (hts (.fieldLink RX0 19 "LettersByLot$Lot" "total" "I") (by decide +kernel)) (fun _ h9 => h9) rfl (by decide +kernel) rfl rfl (Nat.le_of_ble_eq_true rfl) dX0_init_32 (fun H locs hP hD hS => ?_)
  have hP : va_P D vwCl [(h0, .inr (0, [.ref q1, .int (nI (2)), .int (nI (2))])), (q1, .inl (cI, 4, .inl (upd (upd (fun _ => 0) (0) (nI (1))) (1) (nI (1)))))] H := hP
  have hD : va_D A [(h0, .inr (0, [.ref q1, .int (nI (2)), .int (nI (2))])), (q1, .inl (cI, 4, .inl (upd (upd (fun _ => 0) (0) (nI (1))) (1) (nI (1)))))] := hD
  refine W.widen (k := 1) (n := 4) (Nat.le_of_ble_eq_true rfl) (Nat.le_of_ble_eq_true rfl) ?_
  exact W.vret hx hb hr (fun t ht hW => ⟨⟨(), rfl, trivial, q1, by rw [ht]; exact hP, va_K.moved hW.alike hK, hAe ▸ hD⟩, hS.F ht⟩) hS.2.2 dX0_init_35

set_option maxHeartbeats 4000000 in
set_option maxRecDepth 100000 in
/-- a constructor -/
theorem mX4_init (l : Launch) {D : va_G} {cI cJ cZ cW : ClassId} (h0 sz : Nat) : Met l yX4_init wsX4_init ({ frames := 1, cells := 4, slots := 23, locals := 12 }) (va_Pc [.ref h0] (ccP D (xT cI cJ cZ cW) [(h0, .inr (4, [.null, .null, .null, .null, .int 0, .int 0, .long 0]))] sz)) (va_Qv (fun _ : Unit => True) (fun _ t => ∃ (q1 q2 q3 q4 : Nat), va_P D vwCl [(h0, .inr (4, [.ref q1, .ref q2, .ref q3, .ref q4, .int 0, .int 0, .long 0])), (q1, .inl (cI, 5, .inl (fun _ => 0))), (q2, .inl (cI, 6, .inl (fun _ => 0))), (q3, .inl (cI, 6, .inl (fun _ => 0))), (q4, .inl (cJ, 6, .inr (.inl (fun _ => 0))))] t.heap ∧ va_K D vwCl (xT cI cJ cZ cW) t ∧ va_D (va_A [(h0, .inr (4, [.null, .null, .null, .null, .int 0, .int 0, .long 0]))] sz) [(h0, .inr (4, [.ref q1, .ref q2, .ref q3, .ref q4, .int 0, .int 0, .long 0])), (q1, .inl (cI, 5, .inl (fun _ => 0))), (q2, .inl (cI, 6, .inl (fun _ => 0))), (q3, .inl (cI, 6, .inl (fun _ => 0))), (q4, .inl (cJ, 6, .inr (.inl (fun _ => 0))))]) (va_A [(h0, .inr (4, [.null, .null, .null, .null, .int 0, .int 0, .long 0]))] sz)) 4 23 (va_A [(h0, .inr (4, [.null, .null, .null, .null, .int 0, .int 0, .long 0]))] sz) := by
  refine Met.ofW (cc := cX4_init) (maxL := 1) (ret := none) (by decide) rfl ?_
  intro p e s m args below meth c s₁ B hml hv
  obtain ⟨rfl, hsz, hP, hK, hD0, hO, hN⟩ := hv
  have hx := B.exec
  have hb := B.bytes
  have hr := B.returns
  have hts := atoms_spec (ws := wsX4_init) B.pre
  have hown : s.vm.findClass RX4 = some m.cls := findClass_of_methodNamed B.named
  have hin : meth.name = "<init>" := (name_of_methodNamed B.named B.method).1
  have hin4 : ∀ w ∈ wsX40, w ∈ wsX4_init := by decide +kernel
  subst hsz
  have hD := hD0.self (sz := s.heap.size)
  generalize hAe : va_A [(h0, .inr (4, [.null, .null, .null, .null, .int 0, .int 0, .long 0]))] s.heap.size = A at hD ⊢
  have hA : ∀ q : Nat, s.heap.size ≤ q → A q := fun q h => by rw [← hAe]; exact Or.inr h
  have hS : va_S A s.heap s.heap [] := va_S.rf
  have hP : va_P D vwCl [(h0, .inr (4, [.null, .null, .null, .null, .int 0, .int 0, .long 0]))] s.heap := hP
  have hl := lv_entry ([.ref h0]) (n := 1) (Nat.le_of_ble_eq_true rfl)
  rw [lg_entry_eq]
  generalize (lg_sl ([.ref h0]) ++ List.replicate (1 - (lg_sl ([.ref h0])).length) Slot.unset).toArray = ls at hl ⊢
  have hl : lv_has ls 1 [(0, .ref h0)] := hl
  refine lv_aload_n hx hb dX4_init_0 rfl (lv_at hl 0 rfl) ?_
  refine W.objInit hx hb hown (hts (.methodLink RX4 3 objectInit) (by decide +kernel)) (hts (.instanceMethod objectInit) (by decide +kernel)) (hts _ (List.mem_of_getElem? (i := 3) rfl)) rfl (by rw [hml]; exact hl.1) rfl dX4_init_1 (Nat.le_of_ble_eq_true rfl) (Nat.le_of_ble_eq_true rfl) ?_
  refine W.eq (g2 := F0 m 4 ls []) rfl ?_
  refine lv_aload_n hx hb dX4_init_4 rfl (lv_at hl 0 rfl) ?_
  refine lv_iconst (v := nI (5)) hx hb dX4_init_5 (by decide) ?_
  refine xl_newi hx hb (hts (.arrayClass .int) (by decide +kernel)) hK hP hD hS hA (N' := 5) (by decide) (by decide) (by decide) (Nat.le_of_ble_eq_true rfl) (Nat.le_of_ble_eq_true rfl) dX4_init_6 (fun q1 H hP hD hS => ?_)
  have hP : va_P D vwCl [(h0, .inr (4, [.null, .null, .null, .null, .int 0, .int 0, .long 0])), (q1, .inl (cI, 5, .inl (fun _ => 0)))] H := hP
  have hD : va_D A [(h0, .inr (4, [.null, .null, .null, .null, .int 0, .int 0, .long 0])), (q1, .inl (cI, 5, .inl (fun _ => 0)))] := hD
  refine va_putF (D := D) (ci := 4) (v := .ref q1) (ty := .array .int) (C := RX4) (T := TX4) (N := 7) hx hb hts hin4 tyX4 tyX4_ok nmX4 hown hK hP hD hS 0 rfl rfl 0 (by decide) (hts (.fieldLink RX4 9 "LettersByLot$Word" "letters" "[I") (by decide +kernel)) (fun _ h9 => h9) rfl hin rfl (by decide +kernel) rfl rfl (Nat.le_of_ble_eq_true rfl) dX4_init_8 (fun H locs hP hD hS => ?_)
  have hP : va_P D vwCl [(h0, .inr (4, [.ref q1, .null, .null, .null, .int 0, .int 0, .long 0])), (q1, .inl (cI, 5, .inl (fun _ => 0)))] H := hP
  have hD : va_D A [(h0, .inr (4, [.ref q1, .null, .null, .null, .int 0, .int 0, .long 0])), (q1, .inl (cI, 5, .inl (fun _ => 0)))] := hD
  refine lv_aload_n hx hb dX4_init_11 rfl (lv_at hl 0 rfl) ?_
  refine lv_bipush (v := nI (6)) hx hb dX4_init_12 (by decide) ?_
  refine xl_newi hx hb (hts (.arrayClass .int) (by decide +kernel)) hK hP hD hS hA (N' := 6) (by decide) (by decide) (by decide) (Nat.le_of_ble_eq_true rfl) (Nat.le_of_ble_eq_true rfl) dX4_init_14 (fun q2 H hP hD hS => ?_)
  have hP : va_P D vwCl [(h0, .inr (4, [.ref q1, .null, .null, .null, .int 0, .int 0, .long 0])), (q1, .inl (cI, 5, .inl (fun _ => 0))), (q2, .inl (cI, 6, .inl (fun _ => 0)))] H := hP
  have hD : va_D A [(h0, .inr (4, [.ref q1, .null, .null, .null, .int 0, .int 0, .long 0])), (q1, .inl (cI, 5, .inl (fun _ => 0))), (q2, .inl (cI, 6, .inl (fun _ => 0)))] := hD
  refine va_putF (D := D) (ci := 4) (v := .ref q2) (ty := .array .int) (C := RX4) (T := TX4) (N := 7) hx hb hts hin4 tyX4 tyX4_ok nmX4 hown hK hP hD hS 0 rfl rfl 1 (by decide) (hts (.fieldLink RX4 15 "LettersByLot$Word" "heads" "[I") (by decide +kernel)) (fun _ h9 => h9) rfl hin rfl (by decide +kernel) rfl rfl (Nat.le_of_ble_eq_true rfl) dX4_init_16 (fun H locs hP hD hS => ?_)
  have hP : va_P D vwCl [(h0, .inr (4, [.ref q1, .ref q2, .null, .null, .int 0, .int 0, .long 0])), (q1, .inl (cI, 5, .inl (fun _ => 0))), (q2, .inl (cI, 6, .inl (fun _ => 0)))] H := hP
  have hD : va_D A [(h0, .inr (4, [.ref q1, .ref q2, .null, .null, .int 0, .int 0, .long 0])), (q1, .inl (cI, 5, .inl (fun _ => 0))), (q2, .inl (cI, 6, .inl (fun _ => 0)))] := hD
  refine lv_aload_n hx hb dX4_init_19 rfl (lv_at hl 0 rfl) ?_
  refine lv_bipush (v := nI (6)) hx hb dX4_init_20 (by decide) ?_
  refine xl_newi hx hb (hts (.arrayClass .int) (by decide +kernel)) hK hP hD hS hA (N' := 6) (by decide) (by decide) (by decide) (Nat.le_of_ble_eq_true rfl) (Nat.le_of_ble_eq_true rfl) dX4_init_22 (fun q3 H hP hD hS => ?_)
  have hP : va_P D vwCl [(h0, .inr (4, [.ref q1, .ref q2, .null, .null, .int 0, .int 0, .long 0])), (q1, .inl (cI, 5, .inl (fun _ => 0))), (q2, .inl (cI, 6, .inl (fun _ => 0))), (q3, .inl (cI, 6, .inl (fun _ => 0)))] H := hP
  have hD : va_D A [(h0, .inr (4, [.ref q1, .ref q2, .null, .null, .int 0, .int 0, .long 0])), (q1, .inl (cI, 5, .inl (fun _ => 0))), (q2, .inl (cI, 6, .inl (fun _ => 0))), (q3, .inl (cI, 6, .inl (fun _ => 0)))] := hD
  refine va_putF (D := D) (ci := 4) (v := .ref q3) (ty := .array .int) (C := RX4) (T := TX4) (N := 7) hx hb hts hin4 tyX4 tyX4_ok nmX4 hown hK hP hD hS 0 rfl rfl 2 (by decide) (hts (.fieldLink RX4 18 "LettersByLot$Word" "tails" "[I") (by decide +kernel)) (fun _ h9 => h9) rfl hin rfl (by decide +kernel) rfl rfl (Nat.le_of_ble_eq_true rfl) dX4_init_24 (fun H locs hP hD hS => ?_)
  have hP : va_P D vwCl [(h0, .inr (4, [.ref q1, .ref q2, .ref q3, .null, .int 0, .int 0, .long 0])), (q1, .inl (cI, 5, .inl (fun _ => 0))), (q2, .inl (cI, 6, .inl (fun _ => 0))), (q3, .inl (cI, 6, .inl (fun _ => 0)))] H := hP
  have hD : va_D A [(h0, .inr (4, [.ref q1, .ref q2, .ref q3, .null, .int 0, .int 0, .long 0])), (q1, .inl (cI, 5, .inl (fun _ => 0))), (q2, .inl (cI, 6, .inl (fun _ => 0))), (q3, .inl (cI, 6, .inl (fun _ => 0)))] := hD
  refine lv_aload_n hx hb dX4_init_27 rfl (lv_at hl 0 rfl) ?_
  refine lv_bipush (v := nI (6)) hx hb dX4_init_28 (by decide) ?_
  refine xl_newj hx hb (hts (.arrayClass .long) (by decide +kernel)) hK hP hD hS hA (N' := 6) (by decide) (by decide) (by decide) (Nat.le_of_ble_eq_true rfl) (Nat.le_of_ble_eq_true rfl) dX4_init_30 (fun q4 H hP hD hS => ?_)
  have hP : va_P D vwCl [(h0, .inr (4, [.ref q1, .ref q2, .ref q3, .null, .int 0, .int 0, .long 0])), (q1, .inl (cI, 5, .inl (fun _ => 0))), (q2, .inl (cI, 6, .inl (fun _ => 0))), (q3, .inl (cI, 6, .inl (fun _ => 0))), (q4, .inl (cJ, 6, .inr (.inl (fun _ => 0))))] H := hP
  have hD : va_D A [(h0, .inr (4, [.ref q1, .ref q2, .ref q3, .null, .int 0, .int 0, .long 0])), (q1, .inl (cI, 5, .inl (fun _ => 0))), (q2, .inl (cI, 6, .inl (fun _ => 0))), (q3, .inl (cI, 6, .inl (fun _ => 0))), (q4, .inl (cJ, 6, .inr (.inl (fun _ => 0))))] := hD
  refine va_putF (D := D) (ci := 4) (v := .ref q4) (ty := .array .long) (C := RX4) (T := TX4) (N := 7) hx hb hts hin4 tyX4 tyX4_ok nmX4 hown hK hP hD hS 0 rfl rfl 3 (by decide) (hts (.fieldLink RX4 21 "LettersByLot$Word" "shares" "[J") (by decide +kernel)) (fun _ h9 => h9) rfl hin rfl (by decide +kernel) rfl rfl (Nat.le_of_ble_eq_true rfl) dX4_init_32 (fun H locs hP hD hS => ?_)
  have hP : va_P D vwCl [(h0, .inr (4, [.ref q1, .ref q2, .ref q3, .ref q4, .int 0, .int 0, .long 0])), (q1, .inl (cI, 5, .inl (fun _ => 0))), (q2, .inl (cI, 6, .inl (fun _ => 0))), (q3, .inl (cI, 6, .inl (fun _ => 0))), (q4, .inl (cJ, 6, .inr (.inl (fun _ => 0))))] H := hP
  have hD : va_D A [(h0, .inr (4, [.ref q1, .ref q2, .ref q3, .ref q4, .int 0, .int 0, .long 0])), (q1, .inl (cI, 5, .inl (fun _ => 0))), (q2, .inl (cI, 6, .inl (fun _ => 0))), (q3, .inl (cI, 6, .inl (fun _ => 0))), (q4, .inl (cJ, 6, .inr (.inl (fun _ => 0))))] := hD
  refine W.widen (k := 4) (n := 23) (Nat.le_of_ble_eq_true rfl) (Nat.le_of_ble_eq_true rfl) ?_
  exact W.vret hx hb hr (fun t ht hW => ⟨⟨(), rfl, trivial, q1, q2, q3, q4, by rw [ht]; exact hP, va_K.moved hW.alike hK, hAe ▸ hD⟩, hS.F ht⟩) hS.2.2 dX4_init_35

set_option maxHeartbeats 4000000 in
set_option maxRecDepth 100000 in
/-- a constructor -/
theorem mX2_init (l : Launch) {D : va_G} {cI cJ cZ cW : ClassId} (h0 sz : Nat) : Met l yX2_init wsX2_init ({ frames := 1, cells := 3, slots := 15, locals := 22 }) (va_Pc [.ref h0] (ccP D (xT cI cJ cZ cW) [(h0, .inr (2, [.null, .null, .null, .int 0]))] sz)) (va_Qv (fun _ : Unit => True) (fun _ t => ∃ (q1 q2 q3 : Nat) (f5 : Nat → Option Nat) (f6 : Nat → Int64) (f7 : Nat → Int64), va_P D vwCl [(h0, .inr (2, [.ref q1, .ref q2, .ref q3, .int (nI (0))])), (q1, .inl (cW, 3, .inr (.inr (.inr (.inr (f5)))))), (q2, .inl (cJ, 9, .inr (.inl (f6)))), (q3, .inl (cJ, 3, .inr (.inl (f7))))] t.heap ∧ va_K D vwCl (xT cI cJ cZ cW) t ∧ va_D (va_A [(h0, .inr (2, [.null, .null, .null, .int 0]))] sz) [(h0, .inr (2, [.ref q1, .ref q2, .ref q3, .int (nI (0))])), (q1, .inl (cW, 3, .inr (.inr (.inr (.inr (f5)))))), (q2, .inl (cJ, 9, .inr (.inl (f6)))), (q3, .inl (cJ, 3, .inr (.inl (f7))))]) (va_A [(h0, .inr (2, [.null, .null, .null, .int 0]))] sz)) 3 15 (va_A [(h0, .inr (2, [.null, .null, .null, .int 0]))] sz) := by
  refine Met.ofW (cc := cX2_init) (maxL := 1) (ret := none) (by decide) rfl ?_
  intro p e s m args below meth c s₁ B hml hv
  obtain ⟨rfl, hsz, hP, hK, hD0, hO, hN⟩ := hv
  have hx := B.exec
  have hb := B.bytes
  have hr := B.returns
  have hts := atoms_spec (ws := wsX2_init) B.pre
  have hown : s.vm.findClass RX2 = some m.cls := findClass_of_methodNamed B.named
  have hin : meth.name = "<init>" := (name_of_methodNamed B.named B.method).1
  have hin2 : ∀ w ∈ wsX20, w ∈ wsX2_init := by decide +kernel
  subst hsz
  have hD := hD0.self (sz := s.heap.size)
  generalize hAe : va_A [(h0, .inr (2, [.null, .null, .null, .int 0]))] s.heap.size = A at hD ⊢
  have hA : ∀ q : Nat, s.heap.size ≤ q → A q := fun q h => by rw [← hAe]; exact Or.inr h
  have hS : va_S A s.heap s.heap [] := va_S.rf
  have hP : va_P D vwCl [(h0, .inr (2, [.null, .null, .null, .int 0]))] s.heap := hP
  have hl := lv_entry ([.ref h0]) (n := 1) (Nat.le_of_ble_eq_true rfl)
  rw [lg_entry_eq]
  generalize (lg_sl ([.ref h0]) ++ List.replicate (1 - (lg_sl ([.ref h0])).length) Slot.unset).toArray = ls at hl ⊢
  have hl : lv_has ls 1 [(0, .ref h0)] := hl
  refine lv_aload_n hx hb dX2_init_0 rfl (lv_at hl 0 rfl) ?_
  refine W.objInit hx hb hown (hts (.methodLink RX2 3 objectInit) (by decide +kernel)) (hts (.instanceMethod objectInit) (by decide +kernel)) (hts _ (List.mem_of_getElem? (i := 3) rfl)) rfl (by rw [hml]; exact hl.1) rfl dX2_init_1 (Nat.le_of_ble_eq_true rfl) (Nat.le_of_ble_eq_true rfl) ?_
  refine W.eq (g2 := F0 m 4 ls []) rfl ?_
  refine lv_aload_n hx hb dX2_init_4 rfl (lv_at hl 0 rfl) ?_
  refine lv_iconst (v := nI (3)) hx hb dX2_init_5 (by decide) ?_
  refine xl_neww hx hb hown (hts (.classLink RX2 9 RX4) (by decide +kernel)) hO hK hP hD hS hA (N' := 3) (by decide) (by decide) (by decide) (Nat.le_of_ble_eq_true rfl) (Nat.le_of_ble_eq_true rfl) dX2_init_6 (fun q1 H hP hD hS => ?_)
  have hP : va_P D vwCl [(h0, .inr (2, [.null, .null, .null, .int 0])), (q1, .inl (cW, 3, .inr (.inr (.inr (.inr (fun _ => none))))))] H := hP
  have hD : va_D A [(h0, .inr (2, [.null, .null, .null, .int 0])), (q1, .inl (cW, 3, .inr (.inr (.inr (.inr (fun _ => none))))))] := hD
  refine va_putF (D := D) (ci := 2) (v := .ref q1) (ty := .array (.object "LettersByLot$Word")) (C := RX2) (T := TX2) (N := 4) hx hb hts hin2 tyX2 tyX2_ok nmX2 hown hK hP hD hS 0 rfl rfl 0 (by decide) (hts (.fieldLink RX2 11 "LettersByLot$Race" "runners" "[LLettersByLot$Word;") (by decide +kernel)) (fun _ h9 => h9) rfl hin rfl (by decide +kernel) rfl rfl (Nat.le_of_ble_eq_true rfl) dX2_init_9 (fun H locs hP hD hS => ?_)
  have hP : va_P D vwCl [(h0, .inr (2, [.ref q1, .null, .null, .int 0])), (q1, .inl (cW, 3, .inr (.inr (.inr (.inr (fun _ => none))))))] H := hP
  have hD : va_D A [(h0, .inr (2, [.ref q1, .null, .null, .int 0])), (q1, .inl (cW, 3, .inr (.inr (.inr (.inr (fun _ => none))))))] := hD
  refine lv_aload_n hx hb dX2_init_12 rfl (lv_at hl 0 rfl) ?_
  refine lv_bipush (v := nI (9)) hx hb dX2_init_13 (by decide) ?_
  refine xl_newj hx hb (hts (.arrayClass .long) (by decide +kernel)) hK hP hD hS hA (N' := 9) (by decide) (by decide) (by decide) (Nat.le_of_ble_eq_true rfl) (Nat.le_of_ble_eq_true rfl) dX2_init_15 (fun q2 H hP hD hS => ?_)
  have hP : va_P D vwCl [(h0, .inr (2, [.ref q1, .null, .null, .int 0])), (q1, .inl (cW, 3, .inr (.inr (.inr (.inr (fun _ => none)))))), (q2, .inl (cJ, 9, .inr (.inl (fun _ => 0))))] H := hP
  have hD : va_D A [(h0, .inr (2, [.ref q1, .null, .null, .int 0])), (q1, .inl (cW, 3, .inr (.inr (.inr (.inr (fun _ => none)))))), (q2, .inl (cJ, 9, .inr (.inl (fun _ => 0))))] := hD
  refine va_putF (D := D) (ci := 2) (v := .ref q2) (ty := .array .long) (C := RX2) (T := TX2) (N := 4) hx hb hts hin2 tyX2 tyX2_ok nmX2 hown hK hP hD hS 0 rfl rfl 1 (by decide) (hts (.fieldLink RX2 17 "LettersByLot$Race" "leads" "[J") (by decide +kernel)) (fun _ h9 => h9) rfl hin rfl (by decide +kernel) rfl rfl (Nat.le_of_ble_eq_true rfl) dX2_init_17 (fun H locs hP hD hS => ?_)
  have hP : va_P D vwCl [(h0, .inr (2, [.ref q1, .ref q2, .null, .int 0])), (q1, .inl (cW, 3, .inr (.inr (.inr (.inr (fun _ => none)))))), (q2, .inl (cJ, 9, .inr (.inl (fun _ => 0))))] H := hP
  have hD : va_D A [(h0, .inr (2, [.ref q1, .ref q2, .null, .int 0])), (q1, .inl (cW, 3, .inr (.inr (.inr (.inr (fun _ => none)))))), (q2, .inl (cJ, 9, .inr (.inl (fun _ => 0))))] := hD
  refine lv_aload_n hx hb dX2_init_20 rfl (lv_at hl 0 rfl) ?_
  refine lv_iconst (v := nI (3)) hx hb dX2_init_21 (by decide) ?_
  refine xl_newj hx hb (hts (.arrayClass .long) (by decide +kernel)) hK hP hD hS hA (N' := 3) (by decide) (by decide) (by decide) (Nat.le_of_ble_eq_true rfl) (Nat.le_of_ble_eq_true rfl) dX2_init_22 (fun q3 H hP hD hS => ?_)
  have hP : va_P D vwCl [(h0, .inr (2, [.ref q1, .ref q2, .null, .int 0])), (q1, .inl (cW, 3, .inr (.inr (.inr (.inr (fun _ => none)))))), (q2, .inl (cJ, 9, .inr (.inl (fun _ => 0)))), (q3, .inl (cJ, 3, .inr (.inl (fun _ => 0))))] H := hP
  have hD : va_D A [(h0, .inr (2, [.ref q1, .ref q2, .null, .int 0])), (q1, .inl (cW, 3, .inr (.inr (.inr (.inr (fun _ => none)))))), (q2, .inl (cJ, 9, .inr (.inl (fun _ => 0)))), (q3, .inl (cJ, 3, .inr (.inl (fun _ => 0))))] := hD
  refine va_putF (D := D) (ci := 2) (v := .ref q3) (ty := .array .long) (C := RX2) (T := TX2) (N := 4) hx hb hts hin2 tyX2 tyX2_ok nmX2 hown hK hP hD hS 0 rfl rfl 2 (by decide) (hts (.fieldLink RX2 21 "LettersByLot$Race" "asked" "[J") (by decide +kernel)) (fun _ h9 => h9) rfl hin rfl (by decide +kernel) rfl rfl (Nat.le_of_ble_eq_true rfl) dX2_init_24 (fun H locs hP hD hS => ?_)
  have hP : va_P D vwCl [(h0, .inr (2, [.ref q1, .ref q2, .ref q3, .int 0])), (q1, .inl (cW, 3, .inr (.inr (.inr (.inr (fun _ => none)))))), (q2, .inl (cJ, 9, .inr (.inl (fun _ => 0)))), (q3, .inl (cJ, 3, .inr (.inl (fun _ => 0))))] H := hP
  have hD : va_D A [(h0, .inr (2, [.ref q1, .ref q2, .ref q3, .int 0])), (q1, .inl (cW, 3, .inr (.inr (.inr (.inr (fun _ => none)))))), (q2, .inl (cJ, 9, .inr (.inl (fun _ => 0)))), (q3, .inl (cJ, 3, .inr (.inl (fun _ => 0))))] := hD
  refine lv_aload_n hx hb dX2_init_27 rfl (lv_at hl 0 rfl) ?_
  have hPx : va_P D vwCl (xw 4 (fun i : Nat => match i with | 0 => h0 | 1 => q1 | 2 => q2 | _ => q3) (fun i : Nat => match i with | 0 => .inr (2, [.ref q1, .ref q2, .ref q3, .int 0]) | 1 => .inl (cW, 3, .inr (.inr (.inr (.inr (fun _ => none))))) | 2 => .inl (cJ, 9, .inr (.inl (fun _ => 0))) | _ => .inl (cJ, 3, .inr (.inl (fun _ => 0))) : Nat → va_E)) H := hP
  have hDx : ∀ g, va_D A (xw 4 (fun i : Nat => match i with | 0 => h0 | 1 => q1 | 2 => q2 | _ => q3) g) := fun g => xw_D (show va_D A (xw 4 (fun i : Nat => match i with | 0 => h0 | 1 => q1 | 2 => q2 | _ => q3) (fun i : Nat => match i with | 0 => .inr (2, [.ref q1, .ref q2, .ref q3, .int 0]) | 1 => .inl (cW, 3, .inr (.inr (.inr (.inr (fun _ => none))))) | 2 => .inl (cJ, 9, .inr (.inl (fun _ => 0))) | _ => .inl (cJ, 3, .inr (.inl (fun _ => 0))) : Nat → va_E)) from hD) g
  refine va_callv (va_runV (As := []) (rest := []) ⟨hx, hb, hml, hown, hts⟩ (mX2_clear4 l hDx (sz := 0) (f5 := fun _ => none) (f6 := fun _ => 0) (f7 := fun _ => 0) rfl rfl rfl rfl) (cwV 0 hts gX2_init_X2_clear rfl rfl rfl (by decide +kernel) ⟨Nat.le_of_ble_eq_true rfl, Nat.le_of_ble_eq_true rfl⟩) ⟨xVB_blind, va_recv hK hPx (ci := 2) (q0 := 0) rfl rfl, fun U hU hW => ⟨rfl, by rw [hU]; exact hPx, va_K.moved hW.alike hK, va_Nw.warmM hW hN⟩⟩ rfl rfl hl.1 rfl (lv_room (Nat.le_of_ble_eq_true rfl)) dX2_init_28 ⟨Nat.le_of_ble_eq_true rfl, Nat.le_of_ble_eq_true rfl⟩) hS (fun _ _ h => h) (fun _ h => h) (fun g2 tZ H locs ht hvm hw hB hzZ hkZ hS => ?_)
  obtain ⟨hP, -⟩ := hB
  rw [ht] at hP
  obtain ⟨f5, f6, f7, -, -, -, e0, e1, e2, e3, -⟩ := hw
  have hP : va_P D vwCl [(h0, g2 0), (q1, g2 1), (q2, g2 2), (q3, g2 3)] H := hP
  rw [e0, e1, e2, e3] at hP
  have hD : va_D A [(h0, .inr (2, [.ref q1, .ref q2, .ref q3, .int (nI (0))])), (q1, .inl (cW, 3, .inr (.inr (.inr (.inr (f5)))))), (q2, .inl (cJ, 9, .inr (.inl (f6)))), (q3, .inl (cJ, 3, .inr (.inl (f7))))] := cc_D hD rfl
  have hP : va_P D vwCl [(h0, .inr (2, [.ref q1, .ref q2, .ref q3, .int (nI (0))])), (q1, .inl (cW, 3, .inr (.inr (.inr (.inr (f5)))))), (q2, .inl (cJ, 9, .inr (.inl (f6)))), (q3, .inl (cJ, 3, .inr (.inl (f7))))] H := hP
  refine W.widen (k := 3) (n := 15) (Nat.le_of_ble_eq_true rfl) (Nat.le_of_ble_eq_true rfl) ?_
  exact W.vret hx hb hr (fun t ht hW => ⟨⟨(), rfl, trivial, q1, q2, q3, f5, f6, f7, by rw [ht]; exact hP, va_K.moved hW.alike hK, hAe ▸ hD⟩, hS.F ht⟩) hS.2.2 dX2_init_31

set_option maxHeartbeats 4000000 in
set_option maxRecDepth 100000 in
/-- a constructor -/
theorem mX1_init (l : Launch) {D : va_G} {cI cJ cZ cW : ClassId} (h0 sz : Nat) : Met l yX1_init wsX1_init ({ frames := 1, cells := 6, slots := 659, locals := 12 }) (va_Pc [.ref h0] (ccP D (xT cI cJ cZ cW) [(h0, .inr (1, [.null, .null, .null, .null, .null, .null, .int 0]))] sz)) (va_Qv (fun _ : Unit => True) (fun _ t => ∃ (q1 q2 q3 q4 q5 q6 : Nat), va_P D vwCl [(h0, .inr (1, [.ref q1, .ref q2, .ref q3, .ref q4, .ref q5, .ref q6, .int (nI (1))])), (q1, .inl (cI, 164, .inl (fun _ => 0))), (q2, .inl (cI, 41, .inl (fun _ => 0))), (q3, .inl (cI, 41, .inl (fun _ => 0))), (q4, .inl (cZ, 41, .inl (fun _ => 0))), (q5, .inl (cJ, 186, .inr (.inl (fun _ => 0)))), (q6, .inl (cJ, 186, .inr (.inl (fun _ => 0))))] t.heap ∧ va_K D vwCl (xT cI cJ cZ cW) t ∧ va_D (va_A [(h0, .inr (1, [.null, .null, .null, .null, .null, .null, .int 0]))] sz) [(h0, .inr (1, [.ref q1, .ref q2, .ref q3, .ref q4, .ref q5, .ref q6, .int (nI (1))])), (q1, .inl (cI, 164, .inl (fun _ => 0))), (q2, .inl (cI, 41, .inl (fun _ => 0))), (q3, .inl (cI, 41, .inl (fun _ => 0))), (q4, .inl (cZ, 41, .inl (fun _ => 0))), (q5, .inl (cJ, 186, .inr (.inl (fun _ => 0)))), (q6, .inl (cJ, 186, .inr (.inl (fun _ => 0))))]) (va_A [(h0, .inr (1, [.null, .null, .null, .null, .null, .null, .int 0]))] sz)) 6 659 (va_A [(h0, .inr (1, [.null, .null, .null, .null, .null, .null, .int 0]))] sz) := by
  refine Met.ofW (cc := cX1_init) (maxL := 1) (ret := none) (by decide) rfl ?_
  intro p e s m args below meth c s₁ B hml hv
  obtain ⟨rfl, hsz, hP, hK, hD0, hO, hN⟩ := hv
  have hx := B.exec
  have hb := B.bytes
  have hr := B.returns
  have hts := atoms_spec (ws := wsX1_init) B.pre
  have hown : s.vm.findClass RX1 = some m.cls := findClass_of_methodNamed B.named
  have hin : meth.name = "<init>" := (name_of_methodNamed B.named B.method).1
  have hin1 : ∀ w ∈ wsX10, w ∈ wsX1_init := by decide +kernel
  subst hsz
  have hD := hD0.self (sz := s.heap.size)
  generalize hAe : va_A [(h0, .inr (1, [.null, .null, .null, .null, .null, .null, .int 0]))] s.heap.size = A at hD ⊢
  have hA : ∀ q : Nat, s.heap.size ≤ q → A q := fun q h => by rw [← hAe]; exact Or.inr h
  have hS : va_S A s.heap s.heap [] := va_S.rf
  have hP : va_P D vwCl [(h0, .inr (1, [.null, .null, .null, .null, .null, .null, .int 0]))] s.heap := hP
  have hl := lv_entry ([.ref h0]) (n := 1) (Nat.le_of_ble_eq_true rfl)
  rw [lg_entry_eq]
  generalize (lg_sl ([.ref h0]) ++ List.replicate (1 - (lg_sl ([.ref h0])).length) Slot.unset).toArray = ls at hl ⊢
  have hl : lv_has ls 1 [(0, .ref h0)] := hl
  refine lv_aload_n hx hb dX1_init_0 rfl (lv_at hl 0 rfl) ?_
  refine W.objInit hx hb hown (hts (.methodLink RX1 3 objectInit) (by decide +kernel)) (hts (.instanceMethod objectInit) (by decide +kernel)) (hts _ (List.mem_of_getElem? (i := 3) rfl)) rfl (by rw [hml]; exact hl.1) rfl dX1_init_1 (Nat.le_of_ble_eq_true rfl) (Nat.le_of_ble_eq_true rfl) ?_
  refine W.eq (g2 := F0 m 4 ls []) rfl ?_
  refine lv_aload_n hx hb dX1_init_4 rfl (lv_at hl 0 rfl) ?_
  refine lv_sipush (v := nI (164)) hx hb dX1_init_5 (by decide) ?_
  refine xl_newi hx hb (hts (.arrayClass .int) (by decide +kernel)) hK hP hD hS hA (N' := 164) (by decide) (by decide) (by decide) (Nat.le_of_ble_eq_true rfl) (Nat.le_of_ble_eq_true rfl) dX1_init_8 (fun q1 H hP hD hS => ?_)
  have hP : va_P D vwCl [(h0, .inr (1, [.null, .null, .null, .null, .null, .null, .int 0])), (q1, .inl (cI, 164, .inl (fun _ => 0)))] H := hP
  have hD : va_D A [(h0, .inr (1, [.null, .null, .null, .null, .null, .null, .int 0])), (q1, .inl (cI, 164, .inl (fun _ => 0)))] := hD
  refine va_putF (D := D) (ci := 1) (v := .ref q1) (ty := .array .int) (C := RX1) (T := TX1) (N := 7) hx hb hts hin1 tyX1 tyX1_ok nmX1 hown hK hP hD hS 0 rfl rfl 0 (by decide) (hts (.fieldLink RX1 11 "LettersByLot$Machine" "next" "[I") (by decide +kernel)) (fun _ h9 => h9) rfl hin rfl (by decide +kernel) rfl rfl (Nat.le_of_ble_eq_true rfl) dX1_init_10 (fun H locs hP hD hS => ?_)
  have hP : va_P D vwCl [(h0, .inr (1, [.ref q1, .null, .null, .null, .null, .null, .int 0])), (q1, .inl (cI, 164, .inl (fun _ => 0)))] H := hP
  have hD : va_D A [(h0, .inr (1, [.ref q1, .null, .null, .null, .null, .null, .int 0])), (q1, .inl (cI, 164, .inl (fun _ => 0)))] := hD
  refine lv_aload_n hx hb dX1_init_13 rfl (lv_at hl 0 rfl) ?_
  refine lv_bipush (v := nI (41)) hx hb dX1_init_14 (by decide) ?_
  refine xl_newi hx hb (hts (.arrayClass .int) (by decide +kernel)) hK hP hD hS hA (N' := 41) (by decide) (by decide) (by decide) (Nat.le_of_ble_eq_true rfl) (Nat.le_of_ble_eq_true rfl) dX1_init_16 (fun q2 H hP hD hS => ?_)
  have hP : va_P D vwCl [(h0, .inr (1, [.ref q1, .null, .null, .null, .null, .null, .int 0])), (q1, .inl (cI, 164, .inl (fun _ => 0))), (q2, .inl (cI, 41, .inl (fun _ => 0)))] H := hP
  have hD : va_D A [(h0, .inr (1, [.ref q1, .null, .null, .null, .null, .null, .int 0])), (q1, .inl (cI, 164, .inl (fun _ => 0))), (q2, .inl (cI, 41, .inl (fun _ => 0)))] := hD
  refine va_putF (D := D) (ci := 1) (v := .ref q2) (ty := .array .int) (C := RX1) (T := TX1) (N := 7) hx hb hts hin1 tyX1 tyX1_ok nmX1 hown hK hP hD hS 0 rfl rfl 1 (by decide) (hts (.fieldLink RX1 15 "LettersByLot$Machine" "shorter" "[I") (by decide +kernel)) (fun _ h9 => h9) rfl hin rfl (by decide +kernel) rfl rfl (Nat.le_of_ble_eq_true rfl) dX1_init_18 (fun H locs hP hD hS => ?_)
  have hP : va_P D vwCl [(h0, .inr (1, [.ref q1, .ref q2, .null, .null, .null, .null, .int 0])), (q1, .inl (cI, 164, .inl (fun _ => 0))), (q2, .inl (cI, 41, .inl (fun _ => 0)))] H := hP
  have hD : va_D A [(h0, .inr (1, [.ref q1, .ref q2, .null, .null, .null, .null, .int 0])), (q1, .inl (cI, 164, .inl (fun _ => 0))), (q2, .inl (cI, 41, .inl (fun _ => 0)))] := hD
  refine lv_aload_n hx hb dX1_init_21 rfl (lv_at hl 0 rfl) ?_
  refine lv_bipush (v := nI (41)) hx hb dX1_init_22 (by decide) ?_
  refine xl_newi hx hb (hts (.arrayClass .int) (by decide +kernel)) hK hP hD hS hA (N' := 41) (by decide) (by decide) (by decide) (Nat.le_of_ble_eq_true rfl) (Nat.le_of_ble_eq_true rfl) dX1_init_24 (fun q3 H hP hD hS => ?_)
  have hP : va_P D vwCl [(h0, .inr (1, [.ref q1, .ref q2, .null, .null, .null, .null, .int 0])), (q1, .inl (cI, 164, .inl (fun _ => 0))), (q2, .inl (cI, 41, .inl (fun _ => 0))), (q3, .inl (cI, 41, .inl (fun _ => 0)))] H := hP
  have hD : va_D A [(h0, .inr (1, [.ref q1, .ref q2, .null, .null, .null, .null, .int 0])), (q1, .inl (cI, 164, .inl (fun _ => 0))), (q2, .inl (cI, 41, .inl (fun _ => 0))), (q3, .inl (cI, 41, .inl (fun _ => 0)))] := hD
  refine va_putF (D := D) (ci := 1) (v := .ref q3) (ty := .array .int) (C := RX1) (T := TX1) (N := 7) hx hb hts hin1 tyX1 tyX1_ok nmX1 hown hK hP hD hS 0 rfl rfl 2 (by decide) (hts (.fieldLink RX1 18 "LettersByLot$Machine" "order" "[I") (by decide +kernel)) (fun _ h9 => h9) rfl hin rfl (by decide +kernel) rfl rfl (Nat.le_of_ble_eq_true rfl) dX1_init_26 (fun H locs hP hD hS => ?_)
  have hP : va_P D vwCl [(h0, .inr (1, [.ref q1, .ref q2, .ref q3, .null, .null, .null, .int 0])), (q1, .inl (cI, 164, .inl (fun _ => 0))), (q2, .inl (cI, 41, .inl (fun _ => 0))), (q3, .inl (cI, 41, .inl (fun _ => 0)))] H := hP
  have hD : va_D A [(h0, .inr (1, [.ref q1, .ref q2, .ref q3, .null, .null, .null, .int 0])), (q1, .inl (cI, 164, .inl (fun _ => 0))), (q2, .inl (cI, 41, .inl (fun _ => 0))), (q3, .inl (cI, 41, .inl (fun _ => 0)))] := hD
  refine lv_aload_n hx hb dX1_init_29 rfl (lv_at hl 0 rfl) ?_
  refine lv_bipush (v := nI (41)) hx hb dX1_init_30 (by decide) ?_
  refine xl_newz hx hb (hts (.arrayClass .boolean) (by decide +kernel)) hK hP hD hS hA (N' := 41) (by decide) (by decide) (by decide) (Nat.le_of_ble_eq_true rfl) (Nat.le_of_ble_eq_true rfl) dX1_init_32 (fun q4 H hP hD hS => ?_)
  have hP : va_P D vwCl [(h0, .inr (1, [.ref q1, .ref q2, .ref q3, .null, .null, .null, .int 0])), (q1, .inl (cI, 164, .inl (fun _ => 0))), (q2, .inl (cI, 41, .inl (fun _ => 0))), (q3, .inl (cI, 41, .inl (fun _ => 0))), (q4, .inl (cZ, 41, .inl (fun _ => 0)))] H := hP
  have hD : va_D A [(h0, .inr (1, [.ref q1, .ref q2, .ref q3, .null, .null, .null, .int 0])), (q1, .inl (cI, 164, .inl (fun _ => 0))), (q2, .inl (cI, 41, .inl (fun _ => 0))), (q3, .inl (cI, 41, .inl (fun _ => 0))), (q4, .inl (cZ, 41, .inl (fun _ => 0)))] := hD
  refine va_putF (D := D) (ci := 1) (v := .ref q4) (ty := .array .boolean) (C := RX1) (T := TX1) (N := 7) hx hb hts hin1 tyX1 tyX1_ok nmX1 hown hK hP hD hS 0 rfl rfl 3 (by decide) (hts (.fieldLink RX1 21 "LettersByLot$Machine" "hit" "[Z") (by decide +kernel)) (fun _ h9 => h9) rfl hin rfl (by decide +kernel) rfl rfl (Nat.le_of_ble_eq_true rfl) dX1_init_34 (fun H locs hP hD hS => ?_)
  have hP : va_P D vwCl [(h0, .inr (1, [.ref q1, .ref q2, .ref q3, .ref q4, .null, .null, .int 0])), (q1, .inl (cI, 164, .inl (fun _ => 0))), (q2, .inl (cI, 41, .inl (fun _ => 0))), (q3, .inl (cI, 41, .inl (fun _ => 0))), (q4, .inl (cZ, 41, .inl (fun _ => 0)))] H := hP
  have hD : va_D A [(h0, .inr (1, [.ref q1, .ref q2, .ref q3, .ref q4, .null, .null, .int 0])), (q1, .inl (cI, 164, .inl (fun _ => 0))), (q2, .inl (cI, 41, .inl (fun _ => 0))), (q3, .inl (cI, 41, .inl (fun _ => 0))), (q4, .inl (cZ, 41, .inl (fun _ => 0)))] := hD
  refine lv_aload_n hx hb dX1_init_37 rfl (lv_at hl 0 rfl) ?_
  refine lv_sipush (v := nI (186)) hx hb dX1_init_38 (by decide) ?_
  refine xl_newj hx hb (hts (.arrayClass .long) (by decide +kernel)) hK hP hD hS hA (N' := 186) (by decide) (by decide) (by decide) (Nat.le_of_ble_eq_true rfl) (Nat.le_of_ble_eq_true rfl) dX1_init_41 (fun q5 H hP hD hS => ?_)
  have hP : va_P D vwCl [(h0, .inr (1, [.ref q1, .ref q2, .ref q3, .ref q4, .null, .null, .int 0])), (q1, .inl (cI, 164, .inl (fun _ => 0))), (q2, .inl (cI, 41, .inl (fun _ => 0))), (q3, .inl (cI, 41, .inl (fun _ => 0))), (q4, .inl (cZ, 41, .inl (fun _ => 0))), (q5, .inl (cJ, 186, .inr (.inl (fun _ => 0))))] H := hP
  have hD : va_D A [(h0, .inr (1, [.ref q1, .ref q2, .ref q3, .ref q4, .null, .null, .int 0])), (q1, .inl (cI, 164, .inl (fun _ => 0))), (q2, .inl (cI, 41, .inl (fun _ => 0))), (q3, .inl (cI, 41, .inl (fun _ => 0))), (q4, .inl (cZ, 41, .inl (fun _ => 0))), (q5, .inl (cJ, 186, .inr (.inl (fun _ => 0))))] := hD
  refine va_put (D := D) (ci := 1) (v := .ref q5) (ty := .array .long) (C := RX1) (T := TX1) (N := 7) hx hb hts hin1 tyX1 tyX1_ok nmX1 hown hK hP hD hS 0 rfl rfl 4 (by decide) (hts (.fieldLink RX1 25 "LettersByLot$Machine" "now" "[J") (by decide +kernel)) (fun _ h9 => h9) rfl (by decide +kernel) rfl rfl (Nat.le_of_ble_eq_true rfl) dX1_init_43 (fun H locs hP hD hS => ?_)
  have hP : va_P D vwCl [(h0, .inr (1, [.ref q1, .ref q2, .ref q3, .ref q4, .ref q5, .null, .int 0])), (q1, .inl (cI, 164, .inl (fun _ => 0))), (q2, .inl (cI, 41, .inl (fun _ => 0))), (q3, .inl (cI, 41, .inl (fun _ => 0))), (q4, .inl (cZ, 41, .inl (fun _ => 0))), (q5, .inl (cJ, 186, .inr (.inl (fun _ => 0))))] H := hP
  have hD : va_D A [(h0, .inr (1, [.ref q1, .ref q2, .ref q3, .ref q4, .ref q5, .null, .int 0])), (q1, .inl (cI, 164, .inl (fun _ => 0))), (q2, .inl (cI, 41, .inl (fun _ => 0))), (q3, .inl (cI, 41, .inl (fun _ => 0))), (q4, .inl (cZ, 41, .inl (fun _ => 0))), (q5, .inl (cJ, 186, .inr (.inl (fun _ => 0))))] := hD
  refine lv_aload_n hx hb dX1_init_46 rfl (lv_at hl 0 rfl) ?_
  refine lv_sipush (v := nI (186)) hx hb dX1_init_47 (by decide) ?_
  refine xl_newj hx hb (hts (.arrayClass .long) (by decide +kernel)) hK hP hD hS hA (N' := 186) (by decide) (by decide) (by decide) (Nat.le_of_ble_eq_true rfl) (Nat.le_of_ble_eq_true rfl) dX1_init_50 (fun q6 H hP hD hS => ?_)
  have hP : va_P D vwCl [(h0, .inr (1, [.ref q1, .ref q2, .ref q3, .ref q4, .ref q5, .null, .int 0])), (q1, .inl (cI, 164, .inl (fun _ => 0))), (q2, .inl (cI, 41, .inl (fun _ => 0))), (q3, .inl (cI, 41, .inl (fun _ => 0))), (q4, .inl (cZ, 41, .inl (fun _ => 0))), (q5, .inl (cJ, 186, .inr (.inl (fun _ => 0)))), (q6, .inl (cJ, 186, .inr (.inl (fun _ => 0))))] H := hP
  have hD : va_D A [(h0, .inr (1, [.ref q1, .ref q2, .ref q3, .ref q4, .ref q5, .null, .int 0])), (q1, .inl (cI, 164, .inl (fun _ => 0))), (q2, .inl (cI, 41, .inl (fun _ => 0))), (q3, .inl (cI, 41, .inl (fun _ => 0))), (q4, .inl (cZ, 41, .inl (fun _ => 0))), (q5, .inl (cJ, 186, .inr (.inl (fun _ => 0)))), (q6, .inl (cJ, 186, .inr (.inl (fun _ => 0))))] := hD
  refine va_put (D := D) (ci := 1) (v := .ref q6) (ty := .array .long) (C := RX1) (T := TX1) (N := 7) hx hb hts hin1 tyX1 tyX1_ok nmX1 hown hK hP hD hS 0 rfl rfl 5 (by decide) (hts (.fieldLink RX1 29 "LettersByLot$Machine" "then" "[J") (by decide +kernel)) (fun _ h9 => h9) rfl (by decide +kernel) rfl rfl (Nat.le_of_ble_eq_true rfl) dX1_init_52 (fun H locs hP hD hS => ?_)
  have hP : va_P D vwCl [(h0, .inr (1, [.ref q1, .ref q2, .ref q3, .ref q4, .ref q5, .ref q6, .int 0])), (q1, .inl (cI, 164, .inl (fun _ => 0))), (q2, .inl (cI, 41, .inl (fun _ => 0))), (q3, .inl (cI, 41, .inl (fun _ => 0))), (q4, .inl (cZ, 41, .inl (fun _ => 0))), (q5, .inl (cJ, 186, .inr (.inl (fun _ => 0)))), (q6, .inl (cJ, 186, .inr (.inl (fun _ => 0))))] H := hP
  have hD : va_D A [(h0, .inr (1, [.ref q1, .ref q2, .ref q3, .ref q4, .ref q5, .ref q6, .int 0])), (q1, .inl (cI, 164, .inl (fun _ => 0))), (q2, .inl (cI, 41, .inl (fun _ => 0))), (q3, .inl (cI, 41, .inl (fun _ => 0))), (q4, .inl (cZ, 41, .inl (fun _ => 0))), (q5, .inl (cJ, 186, .inr (.inl (fun _ => 0)))), (q6, .inl (cJ, 186, .inr (.inl (fun _ => 0))))] := hD
  refine lv_aload_n hx hb dX1_init_55 rfl (lv_at hl 0 rfl) ?_
  refine lv_iconst (v := nI (1)) hx hb dX1_init_56 (by decide) ?_
  refine va_put (D := D) (ci := 1) (v := .int (nI (1))) (ty := .int) (C := RX1) (T := TX1) (N := 7) hx hb hts hin1 tyX1 tyX1_ok nmX1 hown hK hP hD hS 0 rfl rfl 6 (by decide) (hts (.fieldLink RX1 32 "LettersByLot$Machine" "states" "I") (by decide +kernel)) (fun _ h9 => h9) rfl (by decide +kernel) rfl rfl (Nat.le_of_ble_eq_true rfl) dX1_init_57 (fun H locs hP hD hS => ?_)
  have hP : va_P D vwCl [(h0, .inr (1, [.ref q1, .ref q2, .ref q3, .ref q4, .ref q5, .ref q6, .int (nI (1))])), (q1, .inl (cI, 164, .inl (fun _ => 0))), (q2, .inl (cI, 41, .inl (fun _ => 0))), (q3, .inl (cI, 41, .inl (fun _ => 0))), (q4, .inl (cZ, 41, .inl (fun _ => 0))), (q5, .inl (cJ, 186, .inr (.inl (fun _ => 0)))), (q6, .inl (cJ, 186, .inr (.inl (fun _ => 0))))] H := hP
  have hD : va_D A [(h0, .inr (1, [.ref q1, .ref q2, .ref q3, .ref q4, .ref q5, .ref q6, .int (nI (1))])), (q1, .inl (cI, 164, .inl (fun _ => 0))), (q2, .inl (cI, 41, .inl (fun _ => 0))), (q3, .inl (cI, 41, .inl (fun _ => 0))), (q4, .inl (cZ, 41, .inl (fun _ => 0))), (q5, .inl (cJ, 186, .inr (.inl (fun _ => 0)))), (q6, .inl (cJ, 186, .inr (.inl (fun _ => 0))))] := hD
  refine W.widen (k := 6) (n := 659) (Nat.le_of_ble_eq_true rfl) (Nat.le_of_ble_eq_true rfl) ?_
  exact W.vret hx hb hr (fun t ht hW => ⟨⟨(), rfl, trivial, q1, q2, q3, q4, q5, q6, by rw [ht]; exact hP, va_K.moved hW.alike hK, hAe ▸ hD⟩, hS.F ht⟩) hS.2.2 dX1_init_60

set_option maxHeartbeats 4000000 in
set_option maxRecDepth 100000 in
/-- a constructor -/
theorem mX3_init (l : Launch) {D : va_G} {cI cJ cZ cW : ClassId} (h0 sz : Nat) : Met l yX3_init wsX3_init ({ frames := 1, cells := 1, slots := 300, locals := 12 }) (va_Pc [.ref h0] (ccP D (xT cI cJ cZ cW) [(h0, .inr (3, [.null, .int 0]))] sz)) (va_Qv (fun _ : Unit => True) (fun _ t => ∃ (q1 : Nat), va_P D vwCl [(h0, .inr (3, [.ref q1, .int (nI (0))])), (q1, .inl (cI, 300, .inl (fun _ => 0)))] t.heap ∧ va_K D vwCl (xT cI cJ cZ cW) t ∧ va_D (va_A [(h0, .inr (3, [.null, .int 0]))] sz) [(h0, .inr (3, [.ref q1, .int (nI (0))])), (q1, .inl (cI, 300, .inl (fun _ => 0)))]) (va_A [(h0, .inr (3, [.null, .int 0]))] sz)) 1 300 (va_A [(h0, .inr (3, [.null, .int 0]))] sz) := by
  refine Met.ofW (cc := cX3_init) (maxL := 1) (ret := none) (by decide) rfl ?_
  intro p e s m args below meth c s₁ B hml hv
  obtain ⟨rfl, hsz, hP, hK, hD0, hO, hN⟩ := hv
  have hx := B.exec
  have hb := B.bytes
  have hr := B.returns
  have hts := atoms_spec (ws := wsX3_init) B.pre
  have hown : s.vm.findClass RX3 = some m.cls := findClass_of_methodNamed B.named
  have hin : meth.name = "<init>" := (name_of_methodNamed B.named B.method).1
  have hin3 : ∀ w ∈ wsX30, w ∈ wsX3_init := by decide +kernel
  subst hsz
  have hD := hD0.self (sz := s.heap.size)
  generalize hAe : va_A [(h0, .inr (3, [.null, .int 0]))] s.heap.size = A at hD ⊢
  have hA : ∀ q : Nat, s.heap.size ≤ q → A q := fun q h => by rw [← hAe]; exact Or.inr h
  have hS : va_S A s.heap s.heap [] := va_S.rf
  have hP : va_P D vwCl [(h0, .inr (3, [.null, .int 0]))] s.heap := hP
  have hl := lv_entry ([.ref h0]) (n := 1) (Nat.le_of_ble_eq_true rfl)
  rw [lg_entry_eq]
  generalize (lg_sl ([.ref h0]) ++ List.replicate (1 - (lg_sl ([.ref h0])).length) Slot.unset).toArray = ls at hl ⊢
  have hl : lv_has ls 1 [(0, .ref h0)] := hl
  refine lv_aload_n hx hb dX3_init_0 rfl (lv_at hl 0 rfl) ?_
  refine W.objInit hx hb hown (hts (.methodLink RX3 3 objectInit) (by decide +kernel)) (hts (.instanceMethod objectInit) (by decide +kernel)) (hts _ (List.mem_of_getElem? (i := 3) rfl)) rfl (by rw [hml]; exact hl.1) rfl dX3_init_1 (Nat.le_of_ble_eq_true rfl) (Nat.le_of_ble_eq_true rfl) ?_
  refine W.eq (g2 := F0 m 4 ls []) rfl ?_
  refine lv_aload_n hx hb dX3_init_4 rfl (lv_at hl 0 rfl) ?_
  refine lv_sipush (v := nI (300)) hx hb dX3_init_5 (by decide) ?_
  refine xl_newi hx hb (hts (.arrayClass .int) (by decide +kernel)) hK hP hD hS hA (N' := 300) (by decide) (by decide) (by decide) (Nat.le_of_ble_eq_true rfl) (Nat.le_of_ble_eq_true rfl) dX3_init_8 (fun q1 H hP hD hS => ?_)
  have hP : va_P D vwCl [(h0, .inr (3, [.null, .int 0])), (q1, .inl (cI, 300, .inl (fun _ => 0)))] H := hP
  have hD : va_D A [(h0, .inr (3, [.null, .int 0])), (q1, .inl (cI, 300, .inl (fun _ => 0)))] := hD
  refine va_putF (D := D) (ci := 3) (v := .ref q1) (ty := .array .int) (C := RX3) (T := TX3) (N := 2) hx hb hts hin3 tyX3 tyX3_ok nmX3 hown hK hP hD hS 0 rfl rfl 0 (by decide) (hts (.fieldLink RX3 9 "LettersByLot$Text" "letters" "[I") (by decide +kernel)) (fun _ h9 => h9) rfl hin rfl (by decide +kernel) rfl rfl (Nat.le_of_ble_eq_true rfl) dX3_init_10 (fun H locs hP hD hS => ?_)
  have hP : va_P D vwCl [(h0, .inr (3, [.ref q1, .int 0])), (q1, .inl (cI, 300, .inl (fun _ => 0)))] H := hP
  have hD : va_D A [(h0, .inr (3, [.ref q1, .int 0])), (q1, .inl (cI, 300, .inl (fun _ => 0)))] := hD
  refine lv_aload_n hx hb dX3_init_13 rfl (lv_at hl 0 rfl) ?_
  refine lv_iconst (v := nI (0)) hx hb dX3_init_14 (by decide) ?_
  refine va_put (D := D) (ci := 3) (v := .int (nI (0))) (ty := .int) (C := RX3) (T := TX3) (N := 2) hx hb hts hin3 tyX3 tyX3_ok nmX3 hown hK hP hD hS 0 rfl rfl 1 (by decide) (hts (.fieldLink RX3 15 "LettersByLot$Text" "length" "I") (by decide +kernel)) (fun _ h9 => h9) rfl (by decide +kernel) rfl rfl (Nat.le_of_ble_eq_true rfl) dX3_init_15 (fun H locs hP hD hS => ?_)
  have hP : va_P D vwCl [(h0, .inr (3, [.ref q1, .int (nI (0))])), (q1, .inl (cI, 300, .inl (fun _ => 0)))] H := hP
  have hD : va_D A [(h0, .inr (3, [.ref q1, .int (nI (0))])), (q1, .inl (cI, 300, .inl (fun _ => 0)))] := hD
  refine W.widen (k := 1) (n := 300) (Nat.le_of_ble_eq_true rfl) (Nat.le_of_ble_eq_true rfl) ?_
  exact W.vret hx hb hr (fun t ht hW => ⟨⟨(), rfl, trivial, q1, by rw [ht]; exact hP, va_K.moved hW.alike hK, hAe ▸ hD⟩, hS.F ht⟩) hS.2.2 dX3_init_18
