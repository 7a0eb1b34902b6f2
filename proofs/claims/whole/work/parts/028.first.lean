def us32 (x y : Int32) : Int32 := (x.toUInt32 >>> (y.toUInt32 &&& Int32.toUInt32 31)).toInt32
def bcF (x : Int32) : Int32 :=
  let a := x - (us32 x (nI 1) &&& nI 1431655765)
  let b := (a &&& nI 858993459) + (us32 a (nI 2) &&& nI 858993459)
  let c := (b + us32 b (nI 4)) &&& nI 252645135
  let d := c + us32 c (nI 8)
  let e := d + us32 d (nI 16)
  e &&& nI 63
/-- how many of the bits below i are set -/
def bcN (n : Nat) : Nat → Nat
  | 0 => 0
  | i + 1 => bcN n i + n / 2 ^ i % 2
theorem bc_ok : ∀ n, n < 256 → bcF (nI n) = nI (bcN n 8) := by decide +kernel
theorem and256 : ∀ n, n < 256 → nI n &&& (-256) = nI 0 := by decide +kernel
theorem and_256 {x : Int32} (h : x &&& (-256) = 0) : ∃ n, n < 256 ∧ x = nI n := by
  obtain ⟨j, hj, e⟩ := pk_andE x (m := 255) 8 (by decide)
  refine ⟨j, hj, ?_⟩
  rw [← e]
  have h1 : x = (x &&& (-256)) ||| (x &&& 255) := by
    apply Int32.toBitVec_inj.1
    rw [Int32.toBitVec_or, Int32.toBitVec_and, Int32.toBitVec_and]
    have h2 : (-256 : Int32).toBitVec ||| (255 : Int32).toBitVec = BitVec.allOnes 32 := by decide +kernel
    rw [← BitVec.and_or_distrib_left, h2, BitVec.and_allOnes]
  rw [h] at h1
  apply Int32.toBitVec_inj.1
  have h3 := congrArg Int32.toBitVec h1
  rw [Int32.toBitVec_or] at h3
  have h4 : (0 : Int32).toBitVec = 0#32 := by decide
  rw [h4, BitVec.zero_or] at h3
  exact h3
/-- the list as a Nat, where it is one of bits 0 .. 7, one at least -/
def lsN (x : Int32) : Option Nat := if ¬ x = 0 ∧ x &&& (-256) = 0 then some x.toNatClampNeg else none
theorem lsN_cases (x : Int32) : ((x = 0 ∨ ¬ (x &&& (-256)) = 0) ∧ lsN x = none) ∨ ∃ L, 1 ≤ L ∧ L < 256 ∧ x = nI L ∧ lsN x = some L := by
  by_cases h : ¬ x = 0 ∧ x &&& (-256) = 0
  · obtain ⟨L, hL, rfl⟩ := and_256 h.2
    refine Or.inr ⟨L, ?_, hL, rfl, ?_⟩
    · rcases Nat.eq_zero_or_pos L with h0 | h0
      · exact absurd (by rw [h0]; rfl) h.1
      · exact h0
    · unfold lsN; rw [if_pos h, nI_clamp (by omega)]
  · refine Or.inl ⟨?_, if_neg h⟩
    rcases Classical.em (x = 0) with h1 | h1
    · exact Or.inl h1
    · exact Or.inr (fun h2 => h ⟨h1, h2⟩)
set_option maxHeartbeats 4000000 in
set_option maxRecDepth 100000 in
/-- Integer.bitCount of a small number -/
theorem mJ6_bitCount (l : Launch) {D : va_G} {cI cJ cZ cW : ClassId} {ad : Nat → Nat} {g : Nat → va_E} {n0 : Nat}  (hn0 : n0 < 256) : Met l yJ6_bitCount_0f7a4 wsJ6_bitCount_0f7a4 ({ frames := 0, cells := 0, slots := 0, locals := 0 }) (va_Pc [.int (nI (n0))] (xB D (xT cI cJ cZ cW) ad g)) (vp_Si (fun r => r = nI (bcN n0 8))) 0 0 (fun _ => False) := by
  refine Met.ofW (cc := cJ6_bitCount_0f7a4) (maxL := 1) (ret := (some .int)) (by decide) rfl ?_
  intro p e s m args below meth c s₁ B hml hv
  obtain ⟨rfl, hP, hK, hN⟩ := hv
  have hx := B.exec
  have hb := B.bytes
  have hr := B.returns
  have hts := atoms_spec (ws := wsJ6_bitCount_0f7a4) B.pre
  have hown : s.vm.findClass RJ6 = some m.cls := findClass_of_methodNamed B.named
  have hlocks := B.notSynchronized
  have hl := lv_entry ([.int (nI (n0))]) (n := 1) (Nat.le_of_ble_eq_true rfl)
  rw [lg_entry_eq]
  generalize (lg_sl ([.int (nI (n0))]) ++ List.replicate (1 - (lg_sl ([.int (nI (n0))])).length) Slot.unset).toArray = ls at hl ⊢
  have hl : lv_has ls 1 [(0, .int (nI (n0)))] := hl
  refine lv_iload_n hx hb dJ6_bitCount_0f7a4_0 rfl (lv_at hl 0 rfl) ?_
  refine lv_iload_n hx hb dJ6_bitCount_0f7a4_1 rfl (lv_at hl 0 rfl) ?_
  refine lv_iconst (v := nI (1)) hx hb dJ6_bitCount_0f7a4_2 (by decide) ?_
  refine lv_iushr hx hb dJ6_bitCount_0f7a4_3 rfl ?_
  refine lv_topi (fun x1 ex1 => ?_)
  refine lv_ldcw (v := nI (1431655765)) hx hb hown (hts (.constant RJ6 265 (1431655765)) (by decide +kernel)) dJ6_bitCount_0f7a4_4 ?_
  refine lv_iand hx hb dJ6_bitCount_0f7a4_7 ?_
  refine lv_topi (fun x2 ex2 => ?_)
  refine lv_isub hx hb dJ6_bitCount_0f7a4_8 ?_
  refine lv_topi (fun x3 ex3 => ?_)
  refine lv_istore_n (lv' := [(0, .int (x3))]) hx hb dJ6_bitCount_0f7a4_9 rfl hl (by decide) rfl (fun ls hl => ?_)
  refine lv_iload_n hx hb dJ6_bitCount_0f7a4_10 rfl (lv_at hl 0 rfl) ?_
  refine lv_ldcw (v := nI (858993459)) hx hb hown (hts (.constant RJ6 266 (858993459)) (by decide +kernel)) dJ6_bitCount_0f7a4_11 ?_
  refine lv_iand hx hb dJ6_bitCount_0f7a4_14 ?_
  refine lv_topi (fun x4 ex4 => ?_)
  refine lv_iload_n hx hb dJ6_bitCount_0f7a4_15 rfl (lv_at hl 0 rfl) ?_
  refine lv_iconst (v := nI (2)) hx hb dJ6_bitCount_0f7a4_16 (by decide) ?_
  refine lv_iushr hx hb dJ6_bitCount_0f7a4_17 rfl ?_
  refine lv_topi (fun x5 ex5 => ?_)
  refine lv_ldcw (v := nI (858993459)) hx hb hown (hts (.constant RJ6 266 (858993459)) (by decide +kernel)) dJ6_bitCount_0f7a4_18 ?_
  refine lv_iand hx hb dJ6_bitCount_0f7a4_21 ?_
  refine lv_topi (fun x6 ex6 => ?_)
  refine lv_iadd hx hb dJ6_bitCount_0f7a4_22 ?_
  refine lv_topi (fun x7 ex7 => ?_)
  refine lv_istore_n (lv' := [(0, .int (x7))]) hx hb dJ6_bitCount_0f7a4_23 rfl hl (by decide) rfl (fun ls hl => ?_)
  refine lv_iload_n hx hb dJ6_bitCount_0f7a4_24 rfl (lv_at hl 0 rfl) ?_
  refine lv_iload_n hx hb dJ6_bitCount_0f7a4_25 rfl (lv_at hl 0 rfl) ?_
  refine lv_iconst (v := nI (4)) hx hb dJ6_bitCount_0f7a4_26 (by decide) ?_
  refine lv_iushr hx hb dJ6_bitCount_0f7a4_27 rfl ?_
  refine lv_topi (fun x8 ex8 => ?_)
  refine lv_iadd hx hb dJ6_bitCount_0f7a4_28 ?_
  refine lv_topi (fun x9 ex9 => ?_)
  refine lv_ldcw (v := nI (252645135)) hx hb hown (hts (.constant RJ6 267 (252645135)) (by decide +kernel)) dJ6_bitCount_0f7a4_29 ?_
  refine lv_iand hx hb dJ6_bitCount_0f7a4_32 ?_
  refine lv_topi (fun x10 ex10 => ?_)
  refine lv_istore_n (lv' := [(0, .int (x10))]) hx hb dJ6_bitCount_0f7a4_33 rfl hl (by decide) rfl (fun ls hl => ?_)
  refine lv_iload_n hx hb dJ6_bitCount_0f7a4_34 rfl (lv_at hl 0 rfl) ?_
  refine lv_iload_n hx hb dJ6_bitCount_0f7a4_35 rfl (lv_at hl 0 rfl) ?_
  refine lv_bipush (v := nI (8)) hx hb dJ6_bitCount_0f7a4_36 (by decide) ?_
  refine lv_iushr hx hb dJ6_bitCount_0f7a4_38 rfl ?_
  refine lv_topi (fun x11 ex11 => ?_)
  refine lv_iadd hx hb dJ6_bitCount_0f7a4_39 ?_
  refine lv_topi (fun x12 ex12 => ?_)
  refine lv_istore_n (lv' := [(0, .int (x12))]) hx hb dJ6_bitCount_0f7a4_40 rfl hl (by decide) rfl (fun ls hl => ?_)
  refine lv_iload_n hx hb dJ6_bitCount_0f7a4_41 rfl (lv_at hl 0 rfl) ?_
  refine lv_iload_n hx hb dJ6_bitCount_0f7a4_42 rfl (lv_at hl 0 rfl) ?_
  refine lv_bipush (v := nI (16)) hx hb dJ6_bitCount_0f7a4_43 (by decide) ?_
  refine lv_iushr hx hb dJ6_bitCount_0f7a4_45 rfl ?_
  refine lv_topi (fun x13 ex13 => ?_)
  refine lv_iadd hx hb dJ6_bitCount_0f7a4_46 ?_
  refine lv_topi (fun x14 ex14 => ?_)
  refine lv_istore_n (lv' := [(0, .int (x14))]) hx hb dJ6_bitCount_0f7a4_47 rfl hl (by decide) rfl (fun ls hl => ?_)
  refine lv_iload_n hx hb dJ6_bitCount_0f7a4_48 rfl (lv_at hl 0 rfl) ?_
  refine lv_bipush (v := nI (63)) hx hb dJ6_bitCount_0f7a4_49 (by decide) ?_
  refine lv_iand hx hb dJ6_bitCount_0f7a4_51 ?_
  refine lv_topi (fun x15 ex15 => ?_)
  exact W.iret (v := x15) hx hb hr (fun tZ ht _ => ⟨_, rfl, (by show _ = _; rw [ex15, ex14, ex13, ex12, ex11, ex10, ex9, ex8, ex7, ex6, ex5, ex4, ex3, ex2, ex1]; exact bc_ok n0 hn0), ht⟩) (fun q hq => by cases hq) dJ6_bitCount_0f7a4_52
