section XC
variable {p : Program} {l : Launch} {e : Env} {R : Room} {s : State} {m : MethodId} {args : Array Value} {below : List Frame} {meth : Method} {c : Code} {H : Heap} {locs : List Loc} {cells slots : Nat} {Q : State → Prop}
variable {cc : ByteArray} {pc : Nat} {ls : Array Slot} {rest : List Value}

theorem xi_icmp_eq (hexec : p.tables.exec = Jvm.exec) (hb : c.code = cc) {a b : Nat} (ha : a < 2 ^ 31) (hb2 : b < 2 ^ 31) {off : Int} {tgt : Nat} (hdg : decode cc pc = .ok (.if_icmp .eq off, 3)) (ht : (pc : Int) + off = (tgt : Int)) (kt : a = b → W p l e R s m args below meth c H locs cells slots Q (F0 m tgt ls rest)) (kf : a ≠ b → W p l e R s m args below meth c H locs cells slots Q (F0 m (pc + 3) ls rest)) : W p l e R s m args below meth c H locs cells slots Q (F0 m pc ls (.int (nI b) :: .int (nI a) :: rest)) :=
  lv_icmp_eq hexec hb hdg ht (fun c0 => kt ((nI_eq ha hb2).mp c0)) (fun c0 => kf (fun h => c0 ((nI_eq ha hb2).mpr h)))
theorem xi_icmp_ne (hexec : p.tables.exec = Jvm.exec) (hb : c.code = cc) {a b : Nat} (ha : a < 2 ^ 31) (hb2 : b < 2 ^ 31) {off : Int} {tgt : Nat} (hdg : decode cc pc = .ok (.if_icmp .ne off, 3)) (ht : (pc : Int) + off = (tgt : Int)) (kt : a ≠ b → W p l e R s m args below meth c H locs cells slots Q (F0 m tgt ls rest)) (kf : a = b → W p l e R s m args below meth c H locs cells slots Q (F0 m (pc + 3) ls rest)) : W p l e R s m args below meth c H locs cells slots Q (F0 m pc ls (.int (nI b) :: .int (nI a) :: rest)) :=
  lv_icmp_ne hexec hb hdg ht (fun c0 => kt (fun h => c0 ((nI_eq ha hb2).mpr h))) (fun c0 => kf ((nI_eq ha hb2).mp c0))
theorem xi_icmp_lt (hexec : p.tables.exec = Jvm.exec) (hb : c.code = cc) {a b : Nat} (ha : a < 2 ^ 31) (hb2 : b < 2 ^ 31) {off : Int} {tgt : Nat} (hdg : decode cc pc = .ok (.if_icmp .lt off, 3)) (ht : (pc : Int) + off = (tgt : Int)) (kt : a < b → W p l e R s m args below meth c H locs cells slots Q (F0 m tgt ls rest)) (kf : b ≤ a → W p l e R s m args below meth c H locs cells slots Q (F0 m (pc + 3) ls rest)) : W p l e R s m args below meth c H locs cells slots Q (F0 m pc ls (.int (nI b) :: .int (nI a) :: rest)) :=
  lv_icmp_lt hexec hb hdg ht (fun c0 => kt ((nI_ltI ha hb2).mp c0)) (fun c0 => kf (Nat.not_lt.mp (fun h => c0 ((nI_ltI ha hb2).mpr h))))
theorem xi_icmp_ge (hexec : p.tables.exec = Jvm.exec) (hb : c.code = cc) {a b : Nat} (ha : a < 2 ^ 31) (hb2 : b < 2 ^ 31) {off : Int} {tgt : Nat} (hdg : decode cc pc = .ok (.if_icmp .ge off, 3)) (ht : (pc : Int) + off = (tgt : Int)) (kt : b ≤ a → W p l e R s m args below meth c H locs cells slots Q (F0 m tgt ls rest)) (kf : a < b → W p l e R s m args below meth c H locs cells slots Q (F0 m (pc + 3) ls rest)) : W p l e R s m args below meth c H locs cells slots Q (F0 m pc ls (.int (nI b) :: .int (nI a) :: rest)) :=
  lv_icmp_ge hexec hb hdg ht (fun c0 => kt ((nI_leI hb2 ha).mp c0)) (fun c0 => kf (Nat.not_le.mp (fun h => c0 ((nI_leI hb2 ha).mpr h))))
theorem xi_icmp_gt (hexec : p.tables.exec = Jvm.exec) (hb : c.code = cc) {a b : Nat} (ha : a < 2 ^ 31) (hb2 : b < 2 ^ 31) {off : Int} {tgt : Nat} (hdg : decode cc pc = .ok (.if_icmp .gt off, 3)) (ht : (pc : Int) + off = (tgt : Int)) (kt : b < a → W p l e R s m args below meth c H locs cells slots Q (F0 m tgt ls rest)) (kf : a ≤ b → W p l e R s m args below meth c H locs cells slots Q (F0 m (pc + 3) ls rest)) : W p l e R s m args below meth c H locs cells slots Q (F0 m pc ls (.int (nI b) :: .int (nI a) :: rest)) :=
  lv_icmp_gt hexec hb hdg ht (fun c0 => kt ((nI_ltI hb2 ha).mp c0)) (fun c0 => kf (Nat.not_lt.mp (fun h => c0 ((nI_ltI hb2 ha).mpr h))))
theorem xi_icmp_le (hexec : p.tables.exec = Jvm.exec) (hb : c.code = cc) {a b : Nat} (ha : a < 2 ^ 31) (hb2 : b < 2 ^ 31) {off : Int} {tgt : Nat} (hdg : decode cc pc = .ok (.if_icmp .le off, 3)) (ht : (pc : Int) + off = (tgt : Int)) (kt : a ≤ b → W p l e R s m args below meth c H locs cells slots Q (F0 m tgt ls rest)) (kf : b < a → W p l e R s m args below meth c H locs cells slots Q (F0 m (pc + 3) ls rest)) : W p l e R s m args below meth c H locs cells slots Q (F0 m pc ls (.int (nI b) :: .int (nI a) :: rest)) :=
  lv_icmp_le hexec hb hdg ht (fun c0 => kt ((nI_leI ha hb2).mp c0)) (fun c0 => kf (Nat.not_le.mp (fun h => c0 ((nI_leI ha hb2).mpr h))))
theorem xi_if_eq (hexec : p.tables.exec = Jvm.exec) (hb : c.code = cc) {a : Nat} (ha : a < 2 ^ 31) {off : Int} {tgt : Nat} (hdg : decode cc pc = .ok (.ifCond .eq off, 3)) (ht : (pc : Int) + off = (tgt : Int)) (kt : a = 0 → W p l e R s m args below meth c H locs cells slots Q (F0 m tgt ls rest)) (kf : a ≠ 0 → W p l e R s m args below meth c H locs cells slots Q (F0 m (pc + 3) ls rest)) : W p l e R s m args below meth c H locs cells slots Q (F0 m pc ls (.int (nI a) :: rest)) :=
  lv_if_eq hexec hb hdg ht (fun c0 => kt ((nI_eq ha (by decide)).mp (c0.trans nI_0.symm))) (fun c0 => kf (fun h => c0 (by rw [h]; exact nI_0)))
theorem xi_if_ne (hexec : p.tables.exec = Jvm.exec) (hb : c.code = cc) {a : Nat} (ha : a < 2 ^ 31) {off : Int} {tgt : Nat} (hdg : decode cc pc = .ok (.ifCond .ne off, 3)) (ht : (pc : Int) + off = (tgt : Int)) (kt : a ≠ 0 → W p l e R s m args below meth c H locs cells slots Q (F0 m tgt ls rest)) (kf : a = 0 → W p l e R s m args below meth c H locs cells slots Q (F0 m (pc + 3) ls rest)) : W p l e R s m args below meth c H locs cells slots Q (F0 m pc ls (.int (nI a) :: rest)) :=
  lv_if_ne hexec hb hdg ht (fun c0 => kt (fun h => c0 (by rw [h]; exact nI_0))) (fun c0 => kf ((nI_eq ha (by decide)).mp (c0.trans nI_0.symm)))
theorem xi_if_gt (hexec : p.tables.exec = Jvm.exec) (hb : c.code = cc) {a : Nat} (ha : a < 2 ^ 31) {off : Int} {tgt : Nat} (hdg : decode cc pc = .ok (.ifCond .gt off, 3)) (ht : (pc : Int) + off = (tgt : Int)) (kt : 0 < a → W p l e R s m args below meth c H locs cells slots Q (F0 m tgt ls rest)) (kf : a = 0 → W p l e R s m args below meth c H locs cells slots Q (F0 m (pc + 3) ls rest)) : W p l e R s m args below meth c H locs cells slots Q (F0 m pc ls (.int (nI a) :: rest)) :=
  lv_if_gt hexec hb hdg ht (fun c0 => kt (Nat.pos_of_ne_zero (fun h => by rw [h, nI_0] at c0; exact absurd c0 (by decide)))) (fun c0 => kf (Classical.byContradiction (fun h => c0 (by have h2 := nI_lt (Nat.pos_of_ne_zero h) ha; rw [nI_0] at h2; exact h2))))
theorem xi_if_le (hexec : p.tables.exec = Jvm.exec) (hb : c.code = cc) {a : Nat} (ha : a < 2 ^ 31) {off : Int} {tgt : Nat} (hdg : decode cc pc = .ok (.ifCond .le off, 3)) (ht : (pc : Int) + off = (tgt : Int)) (kt : a = 0 → W p l e R s m args below meth c H locs cells slots Q (F0 m tgt ls rest)) (kf : 0 < a → W p l e R s m args below meth c H locs cells slots Q (F0 m (pc + 3) ls rest)) : W p l e R s m args below meth c H locs cells slots Q (F0 m pc ls (.int (nI a) :: rest)) :=
  lv_if_le hexec hb hdg ht (fun c0 => kt (Classical.byContradiction (fun h => nI_nle (Nat.pos_of_ne_zero h) ha c0))) (fun c0 => kf (Nat.pos_of_ne_zero (fun h => c0 (by rw [h, nI_0]; decide))))
theorem xi_if_lt (hexec : p.tables.exec = Jvm.exec) (hb : c.code = cc) {a : Nat} (ha : a < 2 ^ 31) {off : Int} {tgt : Nat} (hdg : decode cc pc = .ok (.ifCond .lt off, 3)) (ht : (pc : Int) + off = (tgt : Int)) (kf : W p l e R s m args below meth c H locs cells slots Q (F0 m (pc + 3) ls rest)) : W p l e R s m args below meth c H locs cells slots Q (F0 m pc ls (.int (nI a) :: rest)) :=
  lv_if_lt hexec hb hdg ht (fun c0 => absurd c0 (nI_pos ha)) (fun _ => kf)
theorem xi_if_ge (hexec : p.tables.exec = Jvm.exec) (hb : c.code = cc) {a : Nat} (ha : a < 2 ^ 31) {off : Int} {tgt : Nat} (hdg : decode cc pc = .ok (.ifCond .ge off, 3)) (ht : (pc : Int) + off = (tgt : Int)) (kt : W p l e R s m args below meth c H locs cells slots Q (F0 m tgt ls rest)) : W p l e R s m args below meth c H locs cells slots Q (F0 m pc ls (.int (nI a) :: rest)) :=
  lv_if_ge hexec hb hdg ht (fun _ => kt) (fun c0 => absurd (nI_pos' ha) c0)
theorem lg_cmp3 (x y : Int64) : (x < y ∧ lg_cmp x y = -1) ∨ (x = y ∧ lg_cmp x y = 0) ∨ (y < x ∧ lg_cmp x y = 1) := by
  unfold lg_cmp
  by_cases h1 : x > y
  · exact Or.inr (Or.inr ⟨h1, if_pos h1⟩)
  · by_cases h2 : x = y
    · exact Or.inr (Or.inl ⟨h2, by rw [if_neg h1, if_pos h2]⟩)
    · refine Or.inl ⟨?_, by rw [if_neg h1, if_neg h2]⟩
      rw [gt_iff_lt, Int64.lt_iff_toInt_lt] at h1
      rw [← Int64.toInt_inj] at h2
      rw [Int64.lt_iff_toInt_lt]
      omega
theorem lg_cmpZ {a b : Int} (ha : -(2 ^ 63 : Int) ≤ a ∧ a < 2 ^ 63) (hb : -(2 ^ 63 : Int) ≤ b ∧ b < 2 ^ 63) : (a < b ∧ lg_cmp (lZ a) (lZ b) = -1) ∨ (a = b ∧ lg_cmp (lZ a) (lZ b) = 0) ∨ (b < a ∧ lg_cmp (lZ a) (lZ b) = 1) := by
  rcases lg_cmp3 (lZ a) (lZ b) with ⟨h, h2⟩ | ⟨h, h2⟩ | ⟨h, h2⟩
  · exact Or.inl ⟨(lZ_lt ha hb).mp h, h2⟩
  · exact Or.inr (Or.inl ⟨(lZ_eq ha hb).mp h, h2⟩)
  · exact Or.inr (Or.inr ⟨(lZ_lt hb ha).mp h, h2⟩)
theorem xl_cmp_eq (hexec : p.tables.exec = Jvm.exec) (hb : c.code = cc) {a b : Int} (ha : -(2 ^ 63 : Int) ≤ a ∧ a < 2 ^ 63) (hb2 : -(2 ^ 63 : Int) ≤ b ∧ b < 2 ^ 63) {off : Int} {tgt : Nat} (hdg : decode cc pc = .ok (.lcmp, 1)) (hd2 : decode cc (pc + 1) = .ok (.ifCond .eq off, 3)) (ht : ((pc + 1 : Nat) : Int) + off = (tgt : Int)) (kt : a = b → W p l e R s m args below meth c H locs cells slots Q (F0 m tgt ls rest)) (kf : a ≠ b → W p l e R s m args below meth c H locs cells slots Q (F0 m (pc + 1 + 3) ls rest)) : W p l e R s m args below meth c H locs cells slots Q (F0 m pc ls (.long (lZ b) :: .long (lZ a) :: rest)) := by
  refine W.lcmp hexec hb hdg ?_
  rcases lg_cmpZ ha hb2 with ⟨h1, h2⟩ | ⟨h1, h2⟩ | ⟨h1, h2⟩
  · rw [h2]; exact lv_if_eq hexec hb hd2 ht (fun c0 => absurd c0 (by decide)) (fun _ => kf (by omega))
  · rw [h2]; exact lv_if_eq hexec hb hd2 ht (fun _ => kt (by omega)) (fun c0 => absurd (by decide) c0)
  · rw [h2]; exact lv_if_eq hexec hb hd2 ht (fun c0 => absurd c0 (by decide)) (fun _ => kf (by omega))
theorem xl_cmp_ne (hexec : p.tables.exec = Jvm.exec) (hb : c.code = cc) {a b : Int} (ha : -(2 ^ 63 : Int) ≤ a ∧ a < 2 ^ 63) (hb2 : -(2 ^ 63 : Int) ≤ b ∧ b < 2 ^ 63) {off : Int} {tgt : Nat} (hdg : decode cc pc = .ok (.lcmp, 1)) (hd2 : decode cc (pc + 1) = .ok (.ifCond .ne off, 3)) (ht : ((pc + 1 : Nat) : Int) + off = (tgt : Int)) (kt : a ≠ b → W p l e R s m args below meth c H locs cells slots Q (F0 m tgt ls rest)) (kf : a = b → W p l e R s m args below meth c H locs cells slots Q (F0 m (pc + 1 + 3) ls rest)) : W p l e R s m args below meth c H locs cells slots Q (F0 m pc ls (.long (lZ b) :: .long (lZ a) :: rest)) := by
  refine W.lcmp hexec hb hdg ?_
  rcases lg_cmpZ ha hb2 with ⟨h1, h2⟩ | ⟨h1, h2⟩ | ⟨h1, h2⟩
  · rw [h2]; exact lv_if_ne hexec hb hd2 ht (fun _ => kt (by omega)) (fun c0 => absurd c0 (by decide))
  · rw [h2]; exact lv_if_ne hexec hb hd2 ht (fun c0 => absurd rfl c0) (fun _ => kf (by omega))
  · rw [h2]; exact lv_if_ne hexec hb hd2 ht (fun _ => kt (by omega)) (fun c0 => absurd c0 (by decide))
theorem xl_cmp_lt (hexec : p.tables.exec = Jvm.exec) (hb : c.code = cc) {a b : Int} (ha : -(2 ^ 63 : Int) ≤ a ∧ a < 2 ^ 63) (hb2 : -(2 ^ 63 : Int) ≤ b ∧ b < 2 ^ 63) {off : Int} {tgt : Nat} (hdg : decode cc pc = .ok (.lcmp, 1)) (hd2 : decode cc (pc + 1) = .ok (.ifCond .lt off, 3)) (ht : ((pc + 1 : Nat) : Int) + off = (tgt : Int)) (kt : a < b → W p l e R s m args below meth c H locs cells slots Q (F0 m tgt ls rest)) (kf : b ≤ a → W p l e R s m args below meth c H locs cells slots Q (F0 m (pc + 1 + 3) ls rest)) : W p l e R s m args below meth c H locs cells slots Q (F0 m pc ls (.long (lZ b) :: .long (lZ a) :: rest)) := by
  refine W.lcmp hexec hb hdg ?_
  rcases lg_cmpZ ha hb2 with ⟨h1, h2⟩ | ⟨h1, h2⟩ | ⟨h1, h2⟩
  · rw [h2]; exact lv_if_lt hexec hb hd2 ht (fun _ => kt (by omega)) (fun c0 => absurd (by decide) c0)
  · rw [h2]; exact lv_if_lt hexec hb hd2 ht (fun c0 => absurd c0 (by decide)) (fun _ => kf (by omega))
  · rw [h2]; exact lv_if_lt hexec hb hd2 ht (fun c0 => absurd c0 (by decide)) (fun _ => kf (by omega))
theorem xl_cmp_ge (hexec : p.tables.exec = Jvm.exec) (hb : c.code = cc) {a b : Int} (ha : -(2 ^ 63 : Int) ≤ a ∧ a < 2 ^ 63) (hb2 : -(2 ^ 63 : Int) ≤ b ∧ b < 2 ^ 63) {off : Int} {tgt : Nat} (hdg : decode cc pc = .ok (.lcmp, 1)) (hd2 : decode cc (pc + 1) = .ok (.ifCond .ge off, 3)) (ht : ((pc + 1 : Nat) : Int) + off = (tgt : Int)) (kt : b ≤ a → W p l e R s m args below meth c H locs cells slots Q (F0 m tgt ls rest)) (kf : a < b → W p l e R s m args below meth c H locs cells slots Q (F0 m (pc + 1 + 3) ls rest)) : W p l e R s m args below meth c H locs cells slots Q (F0 m pc ls (.long (lZ b) :: .long (lZ a) :: rest)) := by
  refine W.lcmp hexec hb hdg ?_
  rcases lg_cmpZ ha hb2 with ⟨h1, h2⟩ | ⟨h1, h2⟩ | ⟨h1, h2⟩
  · rw [h2]; exact lv_if_ge hexec hb hd2 ht (fun c0 => absurd c0 (by decide)) (fun _ => kf (by omega))
  · rw [h2]; exact lv_if_ge hexec hb hd2 ht (fun _ => kt (by omega)) (fun c0 => absurd (by decide) c0)
  · rw [h2]; exact lv_if_ge hexec hb hd2 ht (fun _ => kt (by omega)) (fun c0 => absurd (by decide) c0)
theorem xl_cmp_gt (hexec : p.tables.exec = Jvm.exec) (hb : c.code = cc) {a b : Int} (ha : -(2 ^ 63 : Int) ≤ a ∧ a < 2 ^ 63) (hb2 : -(2 ^ 63 : Int) ≤ b ∧ b < 2 ^ 63) {off : Int} {tgt : Nat} (hdg : decode cc pc = .ok (.lcmp, 1)) (hd2 : decode cc (pc + 1) = .ok (.ifCond .gt off, 3)) (ht : ((pc + 1 : Nat) : Int) + off = (tgt : Int)) (kt : b < a → W p l e R s m args below meth c H locs cells slots Q (F0 m tgt ls rest)) (kf : a ≤ b → W p l e R s m args below meth c H locs cells slots Q (F0 m (pc + 1 + 3) ls rest)) : W p l e R s m args below meth c H locs cells slots Q (F0 m pc ls (.long (lZ b) :: .long (lZ a) :: rest)) := by
  refine W.lcmp hexec hb hdg ?_
  rcases lg_cmpZ ha hb2 with ⟨h1, h2⟩ | ⟨h1, h2⟩ | ⟨h1, h2⟩
  · rw [h2]; exact lv_if_gt hexec hb hd2 ht (fun c0 => absurd c0 (by decide)) (fun _ => kf (by omega))
  · rw [h2]; exact lv_if_gt hexec hb hd2 ht (fun c0 => absurd c0 (by decide)) (fun _ => kf (by omega))
  · rw [h2]; exact lv_if_gt hexec hb hd2 ht (fun _ => kt (by omega)) (fun c0 => absurd (by decide) c0)
theorem xl_cmp_le (hexec : p.tables.exec = Jvm.exec) (hb : c.code = cc) {a b : Int} (ha : -(2 ^ 63 : Int) ≤ a ∧ a < 2 ^ 63) (hb2 : -(2 ^ 63 : Int) ≤ b ∧ b < 2 ^ 63) {off : Int} {tgt : Nat} (hdg : decode cc pc = .ok (.lcmp, 1)) (hd2 : decode cc (pc + 1) = .ok (.ifCond .le off, 3)) (ht : ((pc + 1 : Nat) : Int) + off = (tgt : Int)) (kt : a ≤ b → W p l e R s m args below meth c H locs cells slots Q (F0 m tgt ls rest)) (kf : b < a → W p l e R s m args below meth c H locs cells slots Q (F0 m (pc + 1 + 3) ls rest)) : W p l e R s m args below meth c H locs cells slots Q (F0 m pc ls (.long (lZ b) :: .long (lZ a) :: rest)) := by
  refine W.lcmp hexec hb hdg ?_
  rcases lg_cmpZ ha hb2 with ⟨h1, h2⟩ | ⟨h1, h2⟩ | ⟨h1, h2⟩
  · rw [h2]; exact lv_if_le hexec hb hd2 ht (fun _ => kt (by omega)) (fun c0 => absurd (by decide) c0)
  · rw [h2]; exact lv_if_le hexec hb hd2 ht (fun _ => kt (by omega)) (fun c0 => absurd (by decide) c0)
  · rw [h2]; exact lv_if_le hexec hb hd2 ht (fun c0 => absurd c0 (by decide)) (fun _ => kf (by omega))
theorem xb_if_eq (hexec : p.tables.exec = Jvm.exec) (hb : c.code = cc) {P : Prop} [Decidable P] {off : Int} {tgt : Nat} (hdg : decode cc pc = .ok (.ifCond .eq off, 3)) (ht : (pc : Int) + off = (tgt : Int)) (kt : ¬ P → W p l e R s m args below meth c H locs cells slots Q (F0 m tgt ls rest)) (kf : P → W p l e R s m args below meth c H locs cells slots Q (F0 m (pc + 3) ls rest)) : W p l e R s m args below meth c H locs cells slots Q (F0 m pc ls (.int (if P then 1 else 0) :: rest)) :=
  lv_if_eq hexec hb hdg ht (fun c0 => kt (fun h => by rw [if_pos h] at c0; exact absurd c0 (by decide))) (fun c0 => kf (Classical.byContradiction (fun h => c0 (by rw [if_neg h]))))
theorem xb_if_ne (hexec : p.tables.exec = Jvm.exec) (hb : c.code = cc) {P : Prop} [Decidable P] {off : Int} {tgt : Nat} (hdg : decode cc pc = .ok (.ifCond .ne off, 3)) (ht : (pc : Int) + off = (tgt : Int)) (kt : P → W p l e R s m args below meth c H locs cells slots Q (F0 m tgt ls rest)) (kf : ¬ P → W p l e R s m args below meth c H locs cells slots Q (F0 m (pc + 3) ls rest)) : W p l e R s m args below meth c H locs cells slots Q (F0 m pc ls (.int (if P then 1 else 0) :: rest)) :=
  lv_if_ne hexec hb hdg ht (fun c0 => kt (Classical.byContradiction (fun h => c0 (by rw [if_neg h])))) (fun c0 => kf (fun h => by rw [if_pos h] at c0; exact absurd c0 (by decide)))
end XC
theorem xloop {G : JFrame → Prop} {σ : Type} (fr : σ → Array Slot → JFrame) (I : σ → Array Slot → Prop) (μ : σ → Nat) (step : ∀ x ls, I x ls → (∀ y ls', I y ls' → μ y < μ x → G (fr y ls')) → G (fr x ls)) (x : σ) (ls : Array Slot) (h : I x ls) : G (fr x ls) := by
  have key : ∀ n x ls, μ x < n → I x ls → G (fr x ls) := by
    intro n
    induction n with
    | zero => intro x ls h; exact absurd h (Nat.not_lt_zero _)
    | succ n ih => intro x ls hn hI; exact step x ls hI (fun y ls' hy hm => ih y ls' (by omega) hy)
  exact key (μ x + 1) x ls (Nat.lt_succ_self _) h
theorem xloopW {G : Heap → List Loc → JFrame → Prop} {σ : Type} (fr : σ → Array Slot → JFrame) (I : σ → (Nat → va_E) → Heap → List Loc → Array Slot → Prop) (μ : σ → Nat) (step : ∀ x g H locs ls, I x g H locs ls → (∀ y g' H' locs' ls', I y g' H' locs' ls' → μ y < μ x → G H' locs' (fr y ls')) → G H locs (fr x ls)) (x : σ) (g : Nat → va_E) (H : Heap) (locs : List Loc) (ls : Array Slot) (h : I x g H locs ls) : G H locs (fr x ls) := by
  have key : ∀ n x g H locs ls, μ x < n → I x g H locs ls → G H locs (fr x ls) := by
    intro n
    induction n with
    | zero => intro x g H locs ls h; exact absurd h (Nat.not_lt_zero _)
    | succ n ih => intro x g H locs ls hn hI; exact step x g H locs ls hI (fun y g' H' locs' ls' hy hm => ih y g' H' locs' ls' (by omega) hy)
  exact key (μ x + 1) x g H locs ls (Nat.lt_succ_self _) h
