/-! OWN ROWS: one world for the whole run: 81 cells, the i-th at the address ad i, holding g i; numbers as nI of a Nat, longs as lZ of an Int -/
def xw (N : Nat) (ad : Nat → Nat) (g : Nat → va_E) : va_W := (List.range N).map (fun i => (ad i, g i))
theorem xw_is {N : Nat} {ad : Nat → Nat} {g : Nat → va_E} {i : Nat} {e : va_E} (h : i < N) (he : g i = e) : (xw N ad g)[i]? = some (ad i, e) := by
  subst he; simp [xw, h]
theorem xw_of {N : Nat} {ad : Nat → Nat} {g : Nat → va_E} {i : Nat} {q : Nat × va_E} (h : (xw N ad g)[i]? = some q) : i < N ∧ q = (ad i, g i) := by
  have hl : i < N := by
    have := (List.getElem?_eq_some_iff.mp h).1
    simpa [xw] using this
  rw [xw_is hl rfl] at h
  exact ⟨hl, (Option.some.inj h).symm⟩
theorem xw_no {N : Nat} {ad : Nat → Nat} {g : Nat → va_E} {j : Nat} (h : ¬ j < N) : (xw N ad g)[j]? = none := by
  rw [List.getElem?_eq_none_iff]; simp [xw]; omega
theorem xw_set {N : Nat} {ad : Nat → Nat} {g : Nat → va_E} {i : Nat} (e : va_E) : (xw N ad g).set i (ad i, e) = xw N ad (va_up g i e) := by
  apply List.ext_getElem?
  intro j
  by_cases hl : j < N
  · by_cases hj : j = i
    · subst hj
      rw [List.getElem?_set_self (by simp [xw, hl]), xw_is hl (va_up_self g j e)]
    · rw [List.getElem?_set_ne (Ne.symm hj), xw_is hl rfl, xw_is hl (va_up_ne g e hj)]
  · rw [xw_no hl, List.getElem?_eq_none_iff]; simp [xw]; omega
theorem xw_D {N : Nat} {ad : Nat → Nat} {g : Nat → va_E} {A : Nat → Prop} (h : va_D A (xw N ad g)) (g' : Nat → va_E) : va_D A (xw N ad g') := by
  refine ⟨fun i j p q hi hj hpq => ?_, fun k q hk => ?_⟩
  · obtain ⟨h1, rfl⟩ := xw_of hi
    obtain ⟨h2, rfl⟩ := xw_of hj
    exact h.1 i j _ _ (xw_is h1 rfl) (xw_is h2 rfl) hpq
  · obtain ⟨h1, rfl⟩ := xw_of hk
    exact h.2 k (ad k, g k) (xw_is h1 rfl)
def lZ (z : Int) : Int64 := Int64.ofInt z
theorem lZ_add (a b : Int) : lZ a + lZ b = lZ (a + b) := (Int64.ofInt_add a b).symm
theorem lZ_sub (a b : Int) : lZ a - lZ b = lZ (a - b) := (Int64.ofInt_sub a b).symm
theorem lZ_mul (a b : Int) : lZ a * lZ b = lZ (a * b) := (Int64.ofInt_mul a b).symm
theorem lZ_neg (a : Int) : -lZ a = lZ (-a) := (Int64.ofInt_neg a).symm
theorem lZ_toInt {z : Int} (h : -(2 ^ 63 : Int) ≤ z) (h2 : z < 2 ^ 63) : (lZ z).toInt = z := Int64.toInt_ofInt_of_le (by simpa using h) (by simpa using h2)
theorem lZ_lt {a b : Int} (ha : -(2 ^ 63 : Int) ≤ a ∧ a < 2 ^ 63) (hb : -(2 ^ 63 : Int) ≤ b ∧ b < 2 ^ 63) : lZ a < lZ b ↔ a < b := by
  rw [Int64.lt_iff_toInt_lt, lZ_toInt ha.1 ha.2, lZ_toInt hb.1 hb.2]
theorem lZ_le {a b : Int} (ha : -(2 ^ 63 : Int) ≤ a ∧ a < 2 ^ 63) (hb : -(2 ^ 63 : Int) ≤ b ∧ b < 2 ^ 63) : lZ a ≤ lZ b ↔ a ≤ b := by
  rw [Int64.le_iff_toInt_le, lZ_toInt ha.1 ha.2, lZ_toInt hb.1 hb.2]
theorem lZ_eq {a b : Int} (ha : -(2 ^ 63 : Int) ≤ a ∧ a < 2 ^ 63) (hb : -(2 ^ 63 : Int) ≤ b ∧ b < 2 ^ 63) : lZ a = lZ b ↔ a = b := by
  rw [← Int64.toInt_inj, lZ_toInt ha.1 ha.2, lZ_toInt hb.1 hb.2]
theorem lZ_div {a b : Int} (ha : -(2 ^ 63 : Int) ≤ a ∧ a < 2 ^ 63) (hb : -(2 ^ 63 : Int) ≤ b ∧ b < 2 ^ 63) : lZ a / lZ b = lZ (a.tdiv b) := by
  rw [← Int64.toInt_inj, Int64.toInt_div, lZ_toInt ha.1 ha.2, lZ_toInt hb.1 hb.2]
  exact (Int64.toInt_ofInt).symm
theorem lZ_nI {n : Nat} (h : n < 2 ^ 31) : (nI n).toInt64 = lZ n := by
  rw [nI_l h]; exact Int64.ofInt_eq_ofNat.symm
theorem lZ_0 : lZ 0 = 0 := rfl
theorem lZ_1 : lZ 1 = 1 := rfl
/-- a contract's world -/
abbrev xT (cI cJ cZ cW : ClassId) : List (ClassId × FieldType) := [(cI, .int), (cJ, .long), (cZ, .boolean), (cW, .object RX4)]
def xB (D : va_G) (ty : List (ClassId × FieldType)) (ad : Nat → Nat) (g : Nat → va_E) (U : State) : Prop := va_P D vwCl (xw 81 ad g) U.heap ∧ va_K D vwCl ty U ∧ va_Nw (.methodLinkNest RX4 33 yX5_power RX5) U
theorem xB_blind {D : va_G} {ty : List (ClassId × FieldType)} {ad : Nat → Nat} {g : Nat → va_E} {As : List Value} : FrameBlind (va_Pc As (xB D ty ad g)) := by
  intro a U f mk q
  obtain ⟨q0, qP, qK, qN⟩ := q
  exact ⟨q0, qP, va_K.moved (u := U) (U := U.calling f mk a) (Vm.Alike.refl U.vm) qK, va_Nw.same rfl rfl qN⟩
section XW
variable {p : Program} {l : Launch} {e : Env} {R : Room} {s : State} {m : MethodId} {args : Array Value} {below : List Frame} {meth : Method} {c : Code} {H : Heap} {locs : List Loc} {cells slots : Nat} {Q : State → Prop}
variable {cc : ByteArray} {pc : Nat} {ls : Array Slot} {rest : List Value} {D : va_G} {A : Nat → Prop} {tys : List (ClassId × FieldType)} {ad : Nat → Nat} {g : Nat → va_E} {H0 : Heap}
theorem xw_get (hexec : p.tables.exec = Jvm.exec) (hb : c.code = cc) {own ref C : String} {T : u_T} {N ci index : Nat} {Ts : List Cond} (hts : ∀ w ∈ Ts, w.before args s = true) (hin : ∀ w ∈ u_ws C T N, w ∈ Ts) (hown : s.vm.findClass own = some m.cls) (hK : va_K D vwCl tys s) (hP : va_P D vwCl (xw 81 ad g) H) {q0 : Nat} (hq : q0 < 81) {fs : List Value} (he : g q0 = .inr (ci, fs)) (hc : vwCl[ci]? = some (C, T, N)) (k : Nat) (hk : k < N) (hlink : (Cond.fieldLink own index ref (T k).2.1 (T k).2.2.1).before args s = true) (href : (T k).1 = ref) {v : Value} (hv : fs[k]? = some v) (hdg : decode cc pc = .ok (.getfield index, 3))
    (kk : W p l e R s m args below meth c H locs cells slots Q (F0 m (pc + 3) ls (v :: rest))) : W p l e R s m args below meth c H locs cells slots Q (F0 m pc ls (.ref (ad q0) :: rest)) :=
  va_get hexec hb hts hin hown hK hP q0 (xw_is hq he) hc k hk hlink (by rw [href]; exact fun _ h => h) hv hdg kk
theorem xw_put (hexec : p.tables.exec = Jvm.exec) (hb : c.code = cc) {own ref C : String} {T : u_T} {N ci index : Nat} {Ts : List Cond} (hts : ∀ w ∈ Ts, w.before args s = true) (hin : ∀ w ∈ u_ws C T N, w ∈ Ts) (ty0 : Nat → FieldType) (hty : ∀ k, k < N → parseFieldDescriptor (T k).2.2.1 = some (ty0 k)) (hnm : ∀ a, a < N → ∀ b, b < N → a ≠ b → (T a).2.1 ≠ (T b).2.1) (hown : s.vm.findClass own = some m.cls) (hK : va_K D vwCl tys s) (hP : va_P D vwCl (xw 81 ad g) H) (hD : ∀ g, va_D A (xw 81 ad g)) (hS0 : va_S A H0 H locs) {q0 : Nat} (hq : q0 < 81) {fs : List Value} (he : g q0 = .inr (ci, fs)) (hc : vwCl[ci]? = some (C, T, N)) (k : Nat) (hk : k < N) (hlink : (Cond.fieldLink own index ref (T k).2.1 (T k).2.2.1).before args s = true) (href : (T k).1 = ref) (hfin : (T k).2.2.2 = false) {ty : FieldType} {v : Value} (hd : parseFieldDescriptor (T k).2.2.1 = some ty) (hn : narrow ty v = v) (hfit : fits ty v = true) (hl : k < fs.length) {fs' : List Value} (hfs : fs.set k v = fs')
    (hdg : decode cc pc = .ok (.putfield index, 3)) (kk : ∀ (g1 : Nat → va_E) (H1 : Heap) (locs1 : List Loc), g1 = va_up g q0 (.inr (ci, fs')) → va_P D vwCl (xw 81 ad g1) H1 → va_S A H0 H1 locs1 → W p l e R s m args below meth c H1 locs1 cells slots Q (F0 m (pc + 3) ls rest)) : W p l e R s m args below meth c H locs cells slots Q (F0 m pc ls (v :: .ref (ad q0) :: rest)) := by
  subst hfs
  exact va_put hexec hb hts hin ty0 hty hnm hown hK hP (hD g) hS0 q0 (xw_is hq he) hc k hk hlink (by rw [href]; exact fun _ h => h) hfin hd hn hfit hl hdg (fun H1 locs1 h1 _ h3 => kk _ H1 locs1 rfl (by rw [xw_set] at h1; exact h1) h3)
theorem xw_iald (hexec : p.tables.exec = Jvm.exec) (hb : c.code = cc) (hK : va_K D vwCl tys s) (hP : va_P D vwCl (xw 81 ad g) H) {q0 : Nat} (hq : q0 < 81) (t0 : Nat) {cA : ClassId} {n : Nat} {f : Nat → Int32} (he : g q0 = .inl (cA, n, .inl f)) (ht : tys[t0]? = some (cA, .int)) {i : Nat} (hi : i < n) (hn : n < 2 ^ 31) (hdg : decode cc pc = .ok (.iaload, 1))
    (kk : W p l e R s m args below meth c H locs cells slots Q (F0 m (pc + 1) ls (.int (f i) :: rest))) : W p l e R s m args below meth c H locs cells slots Q (F0 m pc ls (.int (nI i) :: .ref (ad q0) :: rest)) :=
  va_iald hexec hb hK hP q0 t0 (xw_is hq he) ht (vp_in_nI hi hn) hdg (by rw [nI_clamp (Nat.lt_trans hi hn)]; exact kk)
theorem xw_lald (hexec : p.tables.exec = Jvm.exec) (hb : c.code = cc) (hK : va_K D vwCl tys s) (hP : va_P D vwCl (xw 81 ad g) H) {q0 : Nat} (hq : q0 < 81) (t0 : Nat) {cA : ClassId} {n : Nat} {f : Nat → Int64} (he : g q0 = .inl (cA, n, .inr (.inl f))) (ht : tys[t0]? = some (cA, .long)) {i : Nat} (hi : i < n) (hn : n < 2 ^ 31) (hdg : decode cc pc = .ok (.laload, 1))
    (kk : W p l e R s m args below meth c H locs cells slots Q (F0 m (pc + 1) ls (.long (f i) :: rest))) : W p l e R s m args below meth c H locs cells slots Q (F0 m pc ls (.int (nI i) :: .ref (ad q0) :: rest)) :=
  va_lald hexec hb hK hP q0 t0 (xw_is hq he) ht (vp_in_nI hi hn) hdg (by rw [nI_clamp (Nat.lt_trans hi hn)]; exact kk)
theorem xw_zald (hexec : p.tables.exec = Jvm.exec) (hb : c.code = cc) (hK : va_K D vwCl tys s) (hP : va_P D vwCl (xw 81 ad g) H) {q0 : Nat} (hq : q0 < 81) (t0 : Nat) {cA : ClassId} {n : Nat} {f : Nat → Int32} (he : g q0 = .inl (cA, n, .inl f)) (ht : tys[t0]? = some (cA, .boolean)) {i : Nat} (hi : i < n) (hn : n < 2 ^ 31) (hdg : decode cc pc = .ok (.baload, 1))
    (kk : W p l e R s m args below meth c H locs cells slots Q (F0 m (pc + 1) ls (.int (f i) :: rest))) : W p l e R s m args below meth c H locs cells slots Q (F0 m pc ls (.int (nI i) :: .ref (ad q0) :: rest)) :=
  va_zald hexec hb hK hP q0 t0 (xw_is hq he) ht (vp_in_nI hi hn) hdg (by rw [nI_clamp (Nat.lt_trans hi hn)]; exact kk)
theorem xw_aald (hexec : p.tables.exec = Jvm.exec) (hb : c.code = cc) (hK : va_K D vwCl tys s) (hP : va_P D vwCl (xw 81 ad g) H) {q0 : Nat} (hq : q0 < 81) (t0 : Nat) {cA : ClassId} {C : String} {n : Nat} {f : Nat → Option Nat} (he : g q0 = .inl (cA, n, .inr (.inr (.inr (.inr f))))) (ht : tys[t0]? = some (cA, .object C)) {i : Nat} (hi : i < n) (hn : n < 2 ^ 31) {v : Value} (hv : va_rf (f i) = v) (hdg : decode cc pc = .ok (.aaload, 1))
    (kk : W p l e R s m args below meth c H locs cells slots Q (F0 m (pc + 1) ls (v :: rest))) : W p l e R s m args below meth c H locs cells slots Q (F0 m pc ls (.int (nI i) :: .ref (ad q0) :: rest)) := by
  subst hv
  exact va_aldq hexec hb hK hP q0 t0 (xw_is hq he) ht (vp_in_nI hi hn) hdg (by rw [nI_clamp (Nat.lt_trans hi hn)]; exact kk)
theorem xw_iast (hexec : p.tables.exec = Jvm.exec) (hb : c.code = cc) (hK : va_K D vwCl tys s) (hP : va_P D vwCl (xw 81 ad g) H) (hD : ∀ g, va_D A (xw 81 ad g)) (hS : va_S A H0 H locs) {q0 : Nat} (hq : q0 < 81) (t0 : Nat) {cA : ClassId} {n : Nat} {f : Nat → Int32} (he : g q0 = .inl (cA, n, .inl f)) (ht : tys[t0]? = some (cA, .int)) {i : Nat} {x : Int32} (hi : i < n) (hn : n < 2 ^ 31) (hdg : decode cc pc = .ok (.iastore, 1))
    (kk : ∀ (g1 : Nat → va_E) (H1 : Heap) (locs1 : List Loc), g1 = va_up g q0 (.inl (cA, n, .inl (upd f i x))) → va_P D vwCl (xw 81 ad g1) H1 → va_S A H0 H1 locs1 → W p l e R s m args below meth c H1 locs1 cells slots Q (F0 m (pc + 1) ls rest)) : W p l e R s m args below meth c H locs cells slots Q (F0 m pc ls (.int x :: .int (nI i) :: .ref (ad q0) :: rest)) :=
  va_iast hexec hb hK hP (hD g) hS q0 t0 (xw_is hq he) ht (vp_in_nI hi hn) hdg (fun H1 locs1 h1 _ h3 => kk _ H1 locs1 rfl (by rw [xw_set, nI_clamp (Nat.lt_trans hi hn)] at h1; exact h1) h3)
theorem xw_last (hexec : p.tables.exec = Jvm.exec) (hb : c.code = cc) (hK : va_K D vwCl tys s) (hP : va_P D vwCl (xw 81 ad g) H) (hD : ∀ g, va_D A (xw 81 ad g)) (hS : va_S A H0 H locs) {q0 : Nat} (hq : q0 < 81) (t0 : Nat) {cA : ClassId} {n : Nat} {f : Nat → Int64} (he : g q0 = .inl (cA, n, .inr (.inl f))) (ht : tys[t0]? = some (cA, .long)) {i : Nat} {x : Int64} (hi : i < n) (hn : n < 2 ^ 31) (hdg : decode cc pc = .ok (.lastore, 1))
    (kk : ∀ (g1 : Nat → va_E) (H1 : Heap) (locs1 : List Loc), g1 = va_up g q0 (.inl (cA, n, .inr (.inl (vp_updL f i x)))) → va_P D vwCl (xw 81 ad g1) H1 → va_S A H0 H1 locs1 → W p l e R s m args below meth c H1 locs1 cells slots Q (F0 m (pc + 1) ls rest)) : W p l e R s m args below meth c H locs cells slots Q (F0 m pc ls (.long x :: .int (nI i) :: .ref (ad q0) :: rest)) :=
  va_last hexec hb hK hP (hD g) hS q0 t0 (xw_is hq he) ht (vp_in_nI hi hn) hdg (fun H1 locs1 h1 _ h3 => kk _ H1 locs1 rfl (by rw [xw_set, nI_clamp (Nat.lt_trans hi hn)] at h1; exact h1) h3)
theorem xw_zast (hexec : p.tables.exec = Jvm.exec) (hb : c.code = cc) (hK : va_K D vwCl tys s) (hP : va_P D vwCl (xw 81 ad g) H) (hD : ∀ g, va_D A (xw 81 ad g)) (hS : va_S A H0 H locs) {q0 : Nat} (hq : q0 < 81) (t0 : Nat) {cA : ClassId} {n : Nat} {f : Nat → Int32} (he : g q0 = .inl (cA, n, .inl f)) (ht : tys[t0]? = some (cA, .boolean)) {i : Nat} {x y : Int32} (hi : i < n) (hn : n < 2 ^ 31) (hx : vp_nar .boolean x = y) (hdg : decode cc pc = .ok (.bastore, 1))
    (kk : ∀ (g1 : Nat → va_E) (H1 : Heap) (locs1 : List Loc), g1 = va_up g q0 (.inl (cA, n, .inl (upd f i y))) → va_P D vwCl (xw 81 ad g1) H1 → va_S A H0 H1 locs1 → W p l e R s m args below meth c H1 locs1 cells slots Q (F0 m (pc + 1) ls rest)) : W p l e R s m args below meth c H locs cells slots Q (F0 m pc ls (.int x :: .int (nI i) :: .ref (ad q0) :: rest)) :=
  va_zast hexec hb hK hP (hD g) hS q0 t0 (xw_is hq he) ht (vp_in_nI hi hn) hdg (fun H1 locs1 h1 _ h3 => kk _ H1 locs1 rfl (by rw [xw_set, nI_clamp (Nat.lt_trans hi hn), hx] at h1; exact h1) h3)
theorem xl_div (hexec : p.tables.exec = Jvm.exec) (hb : c.code = cc) {a b : Int} (ha : -(2 ^ 63 : Int) ≤ a ∧ a < 2 ^ 63) (hbb : -(2 ^ 63 : Int) ≤ b ∧ b < 2 ^ 63) (h0 : b ≠ 0) (hdg : decode cc pc = .ok (.ldiv, 1)) (k : W p l e R s m args below meth c H locs cells slots Q (F0 m (pc + 1) ls (.long (lZ (a.tdiv b)) :: rest))) : W p l e R s m args below meth c H locs cells slots Q (F0 m pc ls (.long (lZ b) :: .long (lZ a) :: rest)) :=
  lv_ldiv hexec hb hdg (fun h => h0 ((lZ_eq hbb (by decide)).mp (h.trans lZ_0.symm))) (by rw [lZ_div ha hbb]; exact k)
theorem xl_rem (hexec : p.tables.exec = Jvm.exec) (hb : c.code = cc) {a b : Int} (ha : -(2 ^ 63 : Int) ≤ a ∧ a < 2 ^ 63) (hbb : -(2 ^ 63 : Int) ≤ b ∧ b < 2 ^ 63) (h0 : b ≠ 0) (hdg : decode cc pc = .ok (.lrem, 1)) (k : W p l e R s m args below meth c H locs cells slots Q (F0 m (pc + 1) ls (.long (lZ (a.tmod b)) :: rest))) : W p l e R s m args below meth c H locs cells slots Q (F0 m pc ls (.long (lZ b) :: .long (lZ a) :: rest)) :=
  lv_lrem hexec hb hdg (fun h => h0 ((lZ_eq hbb (by decide)).mp (h.trans lZ_0.symm))) (by rw [lZ_div ha hbb, lZ_mul, lZ_sub, show a - a.tdiv b * b = a.tmod b by rw [Int.tmod_def, Int.mul_comm]]; exact k)
theorem xw_alen (hexec : p.tables.exec = Jvm.exec) (hb : c.code = cc) (hK : va_K D vwCl tys s) (hP : va_P D vwCl (xw 81 ad g) H) {q0 : Nat} (hq : q0 < 81) (t0 : Nat) {cA : ClassId} {n : Nat} {x : (Nat → Int32) ⊕ (Nat → Int64) ⊕ (Nat → UInt32) ⊕ (Nat → UInt64) ⊕ (Nat → Option Nat)} (he : g q0 = .inl (cA, n, x)) {ty : FieldType} (ht : tys[t0]? = some (cA, ty)) (hdg : decode cc pc = .ok (.arraylength, 1))
    (kk : W p l e R s m args below meth c H locs cells slots Q (F0 m (pc + 1) ls (.int (nI n) :: rest))) : W p l e R s m args below meth c H locs cells slots Q (F0 m pc ls (.ref (ad q0) :: rest)) :=
  va_alen hexec hb hK hP q0 t0 (xw_is hq he) ht rfl hdg kk
theorem xw_aast (hexec : p.tables.exec = Jvm.exec) (hb : c.code = cc) (hK : va_K D vwCl tys s) (hP : va_P D vwCl (xw 81 ad g) H) (hD : ∀ g, va_D A (xw 81 ad g)) (hS : va_S A H0 H locs) {q0 : Nat} (hq : q0 < 81) (t0 : Nat) {qk : Nat} (hqk : qk < 81) (ci : Nat) {cA : ClassId} {r : vw_C} {n : Nat} {vs : List Value} {f : Nat → Option Nat} (he : g q0 = .inl (cA, n, .inr (.inr (.inr (.inr f))))) (ht : tys[t0]? = some (cA, .object r.1)) (hv : g qk = .inr (ci, vs)) (hc : vwCl[ci]? = some r) {i : Nat} (hi : i < n) (hn : n < 2 ^ 31) (hdg : decode cc pc = .ok (.aastore, 1))
    (kk : ∀ (g1 : Nat → va_E) (H1 : Heap) (locs1 : List Loc), g1 = va_up g q0 (.inl (cA, n, .inr (.inr (.inr (.inr (va_up f i (some (ad qk)))))))) → va_P D vwCl (xw 81 ad g1) H1 → va_S A H0 H1 locs1 → W p l e R s m args below meth c H1 locs1 cells slots Q (F0 m (pc + 1) ls rest)) : W p l e R s m args below meth c H locs cells slots Q (F0 m pc ls (.ref (ad qk) :: .int (nI i) :: .ref (ad q0) :: rest)) :=
  va_astq hexec hb hK hP (hD g) hS q0 t0 qk ci (xw_is hq he) ht (xw_is hqk hv) hc (vp_in_nI hi hn) hdg (fun H1 locs1 h1 _ h3 => kk _ H1 locs1 rfl (by rw [xw_set, nI_clamp (Nat.lt_trans hi hn)] at h1; exact h1) h3)
theorem xw_aastN (hexec : p.tables.exec = Jvm.exec) (hb : c.code = cc) (hK : va_K D vwCl tys s) (hP : va_P D vwCl (xw 81 ad g) H) (hD : ∀ g, va_D A (xw 81 ad g)) (hS : va_S A H0 H locs) {q0 : Nat} (hq : q0 < 81) (t0 : Nat) {cA : ClassId} {C : String} {n : Nat} {f : Nat → Option Nat} (he : g q0 = .inl (cA, n, .inr (.inr (.inr (.inr f))))) (ht : tys[t0]? = some (cA, .object C)) {i : Nat} (hi : i < n) (hn : n < 2 ^ 31) (hdg : decode cc pc = .ok (.aastore, 1))
    (kk : ∀ (g1 : Nat → va_E) (H1 : Heap) (locs1 : List Loc), g1 = va_up g q0 (.inl (cA, n, .inr (.inr (.inr (.inr (va_up f i none)))))) → va_P D vwCl (xw 81 ad g1) H1 → va_S A H0 H1 locs1 → W p l e R s m args below meth c H1 locs1 cells slots Q (F0 m (pc + 1) ls rest)) : W p l e R s m args below meth c H locs cells slots Q (F0 m pc ls (.null :: .int (nI i) :: .ref (ad q0) :: rest)) :=
  va_astqN hexec hb hK hP (hD g) hS q0 t0 (xw_is hq he) ht (vp_in_nI hi hn) hdg (fun H1 locs1 h1 _ h3 => kk _ H1 locs1 rfl (by rw [xw_set, nI_clamp (Nat.lt_trans hi hn)] at h1; exact h1) h3)
-- arithmetic on Nat-valued ints
theorem xi_add (hexec : p.tables.exec = Jvm.exec) (hb : c.code = cc) {a b : Nat} (hdg : decode cc pc = .ok (.iadd, 1)) (k : W p l e R s m args below meth c H locs cells slots Q (F0 m (pc + 1) ls (.int (nI (a + b)) :: rest))) : W p l e R s m args below meth c H locs cells slots Q (F0 m pc ls (.int (nI b) :: .int (nI a) :: rest)) :=
  lv_iadd hexec hb hdg (by rw [nI_add]; exact k)
theorem xi_sub (hexec : p.tables.exec = Jvm.exec) (hb : c.code = cc) {a b : Nat} (h : b ≤ a) (hdg : decode cc pc = .ok (.isub, 1)) (k : W p l e R s m args below meth c H locs cells slots Q (F0 m (pc + 1) ls (.int (nI (a - b)) :: rest))) : W p l e R s m args below meth c H locs cells slots Q (F0 m pc ls (.int (nI b) :: .int (nI a) :: rest)) :=
  lv_isub hexec hb hdg (by rw [pk_sub h]; exact k)
theorem xi_mul (hexec : p.tables.exec = Jvm.exec) (hb : c.code = cc) {a b : Nat} (hdg : decode cc pc = .ok (.imul, 1)) (k : W p l e R s m args below meth c H locs cells slots Q (F0 m (pc + 1) ls (.int (nI (a * b)) :: rest))) : W p l e R s m args below meth c H locs cells slots Q (F0 m pc ls (.int (nI b) :: .int (nI a) :: rest)) :=
  lv_imul hexec hb hdg (by rw [pk_mul]; exact k)
theorem xi_div (hexec : p.tables.exec = Jvm.exec) (hb : c.code = cc) {a b : Nat} (ha : a < 2 ^ 31) (h0 : 0 < b) (hbb : b < 2 ^ 31) (hdg : decode cc pc = .ok (.idiv, 1)) (k : W p l e R s m args below meth c H locs cells slots Q (F0 m (pc + 1) ls (.int (nI (a / b)) :: rest))) : W p l e R s m args below meth c H locs cells slots Q (F0 m pc ls (.int (nI b) :: .int (nI a) :: rest)) :=
  lv_idiv hexec hb hdg (nI_ne0 h0 hbb) (by rw [pk_div ha h0 hbb]; exact k)
theorem xi_rem (hexec : p.tables.exec = Jvm.exec) (hb : c.code = cc) {a b : Nat} (ha : a < 2 ^ 31) (h0 : 0 < b) (hbb : b < 2 ^ 31) (hdg : decode cc pc = .ok (.irem, 1)) (k : W p l e R s m args below meth c H locs cells slots Q (F0 m (pc + 1) ls (.int (nI (a % b)) :: rest))) : W p l e R s m args below meth c H locs cells slots Q (F0 m pc ls (.int (nI b) :: .int (nI a) :: rest)) :=
  lv_irem hexec hb hdg (nI_ne0 h0 hbb) (by rw [pk_rem ha h0 hbb]; exact k)
theorem xi_i2l (hexec : p.tables.exec = Jvm.exec) (hb : c.code = cc) {a : Nat} (h : a < 2 ^ 31) (hdg : decode cc pc = .ok (.i2l, 1)) (k : W p l e R s m args below meth c H locs cells slots Q (F0 m (pc + 1) ls (.long (lZ a) :: rest))) : W p l e R s m args below meth c H locs cells slots Q (F0 m pc ls (.int (nI a) :: rest)) :=
  lv_i2l hexec hb hdg (lZ_nI h) k
theorem xl_add (hexec : p.tables.exec = Jvm.exec) (hb : c.code = cc) {a b : Int} (hdg : decode cc pc = .ok (.ladd, 1)) (k : W p l e R s m args below meth c H locs cells slots Q (F0 m (pc + 1) ls (.long (lZ (a + b)) :: rest))) : W p l e R s m args below meth c H locs cells slots Q (F0 m pc ls (.long (lZ b) :: .long (lZ a) :: rest)) :=
  lv_ladd hexec hb hdg (by rw [lZ_add]; exact k)
theorem xl_sub (hexec : p.tables.exec = Jvm.exec) (hb : c.code = cc) {a b : Int} (hdg : decode cc pc = .ok (.lsub, 1)) (k : W p l e R s m args below meth c H locs cells slots Q (F0 m (pc + 1) ls (.long (lZ (a - b)) :: rest))) : W p l e R s m args below meth c H locs cells slots Q (F0 m pc ls (.long (lZ b) :: .long (lZ a) :: rest)) :=
  lv_lsub hexec hb hdg (by rw [lZ_sub]; exact k)
theorem xl_mul (hexec : p.tables.exec = Jvm.exec) (hb : c.code = cc) {a b : Int} (hdg : decode cc pc = .ok (.lmul, 1)) (k : W p l e R s m args below meth c H locs cells slots Q (F0 m (pc + 1) ls (.long (lZ (a * b)) :: rest))) : W p l e R s m args below meth c H locs cells slots Q (F0 m pc ls (.long (lZ b) :: .long (lZ a) :: rest)) :=
  lv_lmul hexec hb hdg (by rw [lZ_mul]; exact k)
theorem xl_neg (hexec : p.tables.exec = Jvm.exec) (hb : c.code = cc) {a : Int} (hdg : decode cc pc = .ok (.lneg, 1)) (k : W p l e R s m args below meth c H locs cells slots Q (F0 m (pc + 1) ls (.long (lZ (-a)) :: rest))) : W p l e R s m args below meth c H locs cells slots Q (F0 m pc ls (.long (lZ a) :: rest)) :=
  lv_lneg hexec hb hdg (by first | exact k | (rw [lZ_neg]; exact k) | (rw [show (0 : Int64) - lZ a = lZ (-a) by rw [← lZ_0, lZ_sub]; congr 1; omega]; exact k))
end XW
