/-! THE MACHINE: a tree of beginnings; each state's path, its last letter first -/
/-- the first n letters, the last one first -/
def rvW (u : Nat → Nat) : Nat → List Nat
  | 0 => []
  | n + 1 => u n :: rvW u n
theorem rvW_len {u : Nat → Nat} : ∀ {n : Nat}, (rvW u n).length = n
  | 0 => rfl
  | n + 1 => by show (rvW u n).length + 1 = _; rw [rvW_len]
def TrI (q : Nat) (nx : Nat → Nat) (S : Nat) (pa : Nat → List Nat) : Prop := 1 ≤ S ∧ pa 0 = [] ∧ (∀ s d, s < S → d < 4 → nx (s * 4 + d) ≠ 0 → nx (s * 4 + d) < S ∧ pa (nx (s * 4 + d)) = d :: pa s) ∧ (∀ s t d, s < S → t < S → d < 4 → pa t = d :: pa s → nx (s * 4 + d) = t) ∧ (∀ s t, s < S → t < S → pa s = pa t → s = t) ∧ (∀ s, s < S → s ≠ 0 → ∃ p d, p < S ∧ d < q ∧ pa s = d :: pa p) ∧ (∀ s d, S ≤ s → d < 4 → nx (s * 4 + d) = 0)
theorem TrI0 {q : Nat} : TrI q (fun _ => 0) 1 (fun _ => []) := ⟨Nat.le_refl 1, rfl, fun s d _ _ h => absurd rfl h, fun s t d _ _ _ (h : ([] : List Nat) = d :: []) => absurd h (by simp), fun s t hs ht _ => by omega, fun s hs h => absurd (show s = 0 by omega) h, fun _ _ _ _ => rfl⟩
/-- a new state -/
theorem TrI.add {q : Nat} {nx : Nat → Nat} {S : Nat} {pa : Nat → List Nat} (h : TrI q nx S pa) (hq : q ≤ 4) {s d : Nat} (hs : s < S) (hd : d < q) (h0 : nx (s * 4 + d) = 0) : TrI q (va_up nx (s * 4 + d) S) (S + 1) (va_up pa S (d :: pa s)) := by
  obtain ⟨h1, h2, h3, h4, h5, h6, h7⟩ := h
  have old : ∀ t, t < S → va_up pa S (d :: pa s) t = pa t := fun t ht => va_up_ne _ _ (by omega)
  have new : va_up pa S (d :: pa s) S = d :: pa s := va_up_self _ _ _
  have nonode : ∀ t, t < S → pa t ≠ d :: pa s := fun t ht e => by
    have h8 := h4 s t d hs ht (by omega) e
    rw [h0] at h8
    subst h8
    rw [h2] at e; cases e
  refine ⟨by omega, by rw [old 0 (by omega)]; exact h2, fun a b ha hb hne => ?_, fun a t b ha ht hb he => ?_, fun a t ha ht he => ?_, fun a ha hne => ?_, fun a b ha hb => ?_⟩
  · by_cases e : a * 4 + b = s * 4 + d
    · rw [e, va_up_self] at hne ⊢
      have ea : a = s := by omega
      have eb : b = d := by omega
      rw [ea, eb, new, old s hs]
      exact ⟨by omega, rfl⟩
    · rw [va_up_ne _ _ e] at hne ⊢
      by_cases ea : a < S
      · obtain ⟨x1, x2⟩ := h3 a b ea hb hne
        rw [old _ x1, old a ea]; exact ⟨by omega, x2⟩
      · exact absurd (h7 a b (by omega) hb) hne
  · by_cases ea : a = S
    · subst ea
      rw [new] at he
      exfalso
      by_cases et : t = a
      · subst et
        rw [new] at he
        have := congrArg List.length he
        simp at this
      · rw [old t (by omega)] at he
        obtain ⟨p, x, x1, x2, x3⟩ := h6 t (by omega) (fun e => by subst e; rw [h2] at he; cases he)
        rw [x3] at he
        exact nonode p x1 (List.cons.inj he).2
    · rw [old a (by omega)] at he
      by_cases et : t = S
      · subst et
        rw [new] at he
        obtain ⟨e1, e2⟩ := List.cons.inj he
        have := h5 s a hs (by omega) e2
        subst this; subst e1
        exact va_up_self _ _ _
      · rw [old t (by omega)] at he
        have h8 := h4 a t b (by omega) (by omega) hb he
        rw [va_up_ne _ _ (fun e => ?_)]
        · exact h8
        · have ea2 : a = s := by omega
          have eb : b = d := by omega
          subst ea2; subst eb
          exact nonode t (by omega) he
  · by_cases ea : a = S <;> by_cases et : t = S
    · omega
    · exfalso; subst ea; rw [new, old t (by omega)] at he; exact nonode t (by omega) he.symm
    · exfalso; subst et; rw [new, old a (by omega)] at he; exact nonode a (by omega) he
    · rw [old a (by omega), old t (by omega)] at he; exact h5 a t (by omega) (by omega) he
  · by_cases ea : a = S
    · subst ea; exact ⟨s, d, by omega, hd, by rw [new, old s hs]⟩
    · obtain ⟨p, x, x1, x2, x3⟩ := h6 a (by omega) hne
      exact ⟨p, x, by omega, x2, by rw [old a (by omega), old p x1]; exact x3⟩
  · rw [va_up_ne _ _ (by omega)]; exact h7 a b (by omega) hb
/-- a WORD is learnt -/
theorem lrn_T {q : Nat} {u nx : Nat → Nat} {S : Nat} {pa : Nat → List Nat} (h : TrI q nx S pa) (hq : q ≤ 4) : ∀ {n : Nat}, (∀ j, j < n → u j < q) → ∃ pa', TrI q (lrn u nx S n).1 (lrn u nx S n).2.1 pa' ∧ S ≤ (lrn u nx S n).2.1 ∧ (∀ t, t < S → pa' t = pa t) ∧ (lrn u nx S n).2.2 < (lrn u nx S n).2.1 ∧ pa' (lrn u nx S n).2.2 = rvW u n
  | 0, _ => ⟨pa, h, Nat.le_refl _, fun _ _ => rfl, h.1, h.2.1⟩
  | n + 1, hu => by
    obtain ⟨pa', i1, i2, i3, i4, i5⟩ := lrn_T h hq (n := n) (fun j hj => hu j (by omega))
    have hd := hu n (by omega)
    by_cases e : (lrn u nx S n).1 ((lrn u nx S n).2.2 * 4 + u n) = 0
    · rw [lrn_n e]
      refine ⟨_, i1.add hq i4 hd e, by show S ≤ _ + 1; omega, fun t ht => ?_, Nat.lt_succ_self _, ?_⟩
      · rw [va_up_ne _ _ (by omega)]; exact i3 t ht
      · show va_up _ _ _ (lrn u nx S n).2.1 = _
        rw [va_up_self, i5]; rfl
    · rw [lrn_o e]
      obtain ⟨x1, x2⟩ := i1.2.2.1 _ _ i4 (by omega) e
      exact ⟨pa', i1, i2, i3, x1, by show pa' ((lrn u nx S n).1 _) = _; rw [x2, i5]; rfl⟩
/-- the WORDS of a set are learnt -/
theorem lrA_T {q : Nat} {ln : Nat → Nat} {u : Nat → Nat → Nat} {B : Nat} (hq : q ≤ 4) (hu : ∀ k j, j < ln k → u k j < q) : ∀ (s : Nat), ∃ pa, TrI q (lrA ln u B s).1 (lrA ln u B s).2.1 pa ∧ (∀ t, (lrA ln u B s).2.2 t = 1 ↔ t < (lrA ln u B s).2.1 ∧ ∃ k, k < s ∧ 0 < ln k ∧ btL B k ∧ pa t = rvW (u k) (ln k)) ∧ (∀ k, k < s → 0 < ln k → btL B k → ∃ y, y < (lrA ln u B s).2.1 ∧ pa y = rvW (u k) (ln k))
  | 0 => ⟨_, TrI0, fun t => ⟨fun h => absurd h (by show ¬ 0 = 1; decide), fun ⟨_, k, hk, _⟩ => absurd hk (by omega)⟩, fun k hk => absurd hk (by omega)⟩
  | s + 1 => by
    obtain ⟨pa, i1, i2, i3⟩ := lrA_T hq hu (B := B) s
    by_cases h : 0 < ln s ∧ B / 2 ^ s % 2 = 1
    · rw [lrA_y h.1 h.2]
      obtain ⟨pa', j1, j2, j3, j4, j5⟩ := lrn_T i1 hq (u := u s) (n := ln s) (hu s)
      refine ⟨pa', j1, fun t => ?_, fun k hk h1 h2 => ?_⟩
      · show va_up _ _ 1 t = 1 ↔ _
        by_cases e : t = (lrn (u s) (lrA ln u B s).1 (lrA ln u B s).2.1 (ln s)).2.2
        · rw [e, va_up_self]
          exact ⟨fun _ => ⟨j4, s, by omega, h.1, h.2, j5⟩, fun _ => rfl⟩
        · rw [va_up_ne _ _ e, i2 t]
          constructor
          · rintro ⟨a0, k, a, b1, b2, b3⟩
            exact ⟨by show t < (lrn _ _ _ _).2.1; omega, k, by omega, b1, b2, by rw [j3 t a0]; exact b3⟩
          · rintro ⟨a0, k, a, b1, b2, b3⟩
            by_cases ek : k = s
            · exfalso; subst ek
              exact e (j1.2.2.2.2.1 t _ a0 j4 (by rw [b3, j5]))
            · obtain ⟨y, y1, y2⟩ := i3 k (by omega) b1 b2
              have ey := j1.2.2.2.2.1 t y a0 (by omega) (by rw [b3, j3 y y1, y2])
              subst ey
              exact ⟨y1, k, by omega, b1, b2, y2⟩
      · by_cases ek : k = s
        · subst ek; exact ⟨_, j4, j5⟩
        · obtain ⟨y, y1, y2⟩ := i3 k (by omega) h1 h2
          exact ⟨y, by show y < (lrn _ _ _ _).2.1; omega, by rw [j3 y y1]; exact y2⟩
    · rw [lrA_n h]
      refine ⟨pa, i1, fun t => ?_, fun k hk h1 h2 => ?_⟩
      · rw [i2 t]
        constructor
        · rintro ⟨a0, k, a, b⟩; exact ⟨a0, k, by omega, b⟩
        · rintro ⟨a0, k, a, b1, b2, b3⟩
          by_cases ek : k = s
          · exact absurd ⟨by rw [← ek]; exact b1, by rw [← ek]; exact b2⟩ h
          · exact ⟨a0, k, by omega, b1, b2, b3⟩
      · by_cases ek : k = s
        · exact absurd ⟨by rw [← ek]; exact h1, by rw [← ek]; exact h2⟩ h
        · exact i3 k (by omega) h1 h2
/-! .. and it is linked, the shorter beginnings first -/
def isN (S : Nat) (pa : Nat → List Nat) (l : List Nat) : Prop := ∃ t, t < S ∧ pa t = l
/-- s is the longest beginning that ends the text l -/
def LSp (S : Nat) (pa : Nat → List Nat) (s : Nat) (l : List Nat) : Prop := s < S ∧ ∃ m, m ≤ l.length ∧ pa s = l.take m ∧ ∀ m', m < m' → m' ≤ l.length → ¬ isN S pa (l.take m')
section LK
variable {q S : Nat} {nx hv : Nat → Nat} {pa : Nat → List Nat}
theorem isN_tail (hT : TrI q nx S pa) {d : Nat} {l : List Nat} (h : isN S pa (d :: l)) : isN S pa l := by
  obtain ⟨t, ht, e⟩ := h
  obtain ⟨p, d', p1, p2, p3⟩ := hT.2.2.2.2.2.1 t ht (fun h0 => by subst h0; rw [hT.2.1] at e; cases e)
  rw [p3] at e
  exact ⟨p, p1, (List.cons.inj e).2⟩
theorem ls_self {t : Nat} (ht : t < S) : LSp S pa t (pa t) := ⟨ht, (pa t).length, Nat.le_refl _, List.take_length.symm, fun m' h1 h2 => absurd h1 (by omega)⟩
theorem ls_nil (hT : TrI q nx S pa) : LSp S pa 0 [] := by
  have h := ls_self (S := S) (pa := pa) (t := 0) hT.1
  rw [hT.2.1] at h; exact h
theorem ls_uniq (hT : TrI q nx S pa) {s t : Nat} {l : List Nat} (h1 : LSp S pa s l) (h2 : LSp S pa t l) : s = t := by
  obtain ⟨a1, m, a2, a3, a4⟩ := h1
  obtain ⟨b1, n, b2, b3, b4⟩ := h2
  have e : m = n := by
    rcases Nat.lt_trichotomy m n with h | h | h
    · exact absurd ⟨t, b1, b3⟩ (a4 n h b2)
    · exact h
    · exact absurd ⟨s, a1, a3⟩ (b4 m h a2)
  subst e
  exact hT.2.2.2.2.1 s t a1 b1 (by rw [a3, b3])
theorem ls_len {s : Nat} {l : List Nat} (h : LSp S pa s l) : (pa s).length ≤ l.length := by
  obtain ⟨a1, m, a2, a3, a4⟩ := h
  rw [a3, List.length_take]; omega
/-- one more letter -/
theorem ls_step (hT : TrI q nx S pa) {v g d : Nat} {l : List Nat} (h1 : LSp S pa v l) (h2 : LSp S pa g (d :: pa v)) : LSp S pa g (d :: l) := by
  obtain ⟨a1, m, a2, a3, a4⟩ := h1
  obtain ⟨b1, n, b2, b3, b4⟩ := h2
  have hlen : (pa v).length = m := by rw [a3, List.length_take]; omega
  have tk : ∀ k, k ≤ m + 1 → (d :: pa v).take k = (d :: l).take k := fun k hk => by
    cases k with
    | zero => rfl
    | succ k =>
      show d :: (pa v).take k = d :: l.take k
      rw [a3, List.take_take, show min k m = k by omega]
  have b2' : n ≤ m + 1 := by
    have : (d :: pa v).length = m + 1 := by show (pa v).length + 1 = _; omega
    omega
  refine ⟨b1, n, by show n ≤ l.length + 1; omega, by rw [b3]; exact tk n b2', fun m' h3 h4 h5 => ?_⟩
  have h4' : m' ≤ l.length + 1 := h4
  cases m' with
  | zero => omega
  | succ k =>
    have h6 : isN S pa (l.take k) := isN_tail hT h5
    have hk : k ≤ m := by
      refine Classical.byContradiction (fun hh => ?_)
      exact a4 k (by omega) (by omega) h6
    refine b4 (k + 1) h3 (by show k + 1 ≤ (pa v).length + 1; omega) ?_
    rw [tk (k + 1) (by omega)]; exact h5
/-- what isn't itself a beginning -/
theorem ls_drop {g d : Nat} {p : List Nat} (hn : ¬ isN S pa (d :: p)) (h : LSp S pa g ((d :: p).take p.length)) : LSp S pa g (d :: p) := by
  obtain ⟨b1, n, b2, b3, b4⟩ := h
  have hl : ((d :: p).take p.length).length = p.length := by rw [List.length_take]; show min p.length (p.length + 1) = _; omega
  rw [hl] at b2
  refine ⟨b1, n, by show n ≤ p.length + 1; omega, by rw [b3, List.take_take, show min n p.length = n by omega], fun m' h1 h2 h3 => ?_⟩
  have h2' : m' ≤ p.length + 1 := h2
  by_cases e : m' = p.length + 1
  · subst e
    rw [show (d :: p).take (p.length + 1) = d :: p from by show d :: p.take p.length = _; rw [List.take_length]] at h3
    exact hn h3
  · refine b4 m' h1 (by rw [hl]; omega) ?_
    rw [List.take_take, show min m' p.length = m' by omega]; exact h3
theorem pr_cons {d : Nat} {p : List Nat} (h : p ≠ []) : (d :: p).take p.length = d :: p.take (p.length - 1) := by
  have : p.length ≠ 0 := fun e => h (List.length_eq_zero_iff.mp e)
  obtain ⟨k, hk⟩ : ∃ k, p.length = k + 1 := ⟨p.length - 1, by omega⟩
  rw [hk]; rfl
/-- different numbers below S -/
theorem inj_le : ∀ {S n : Nat} {f : Nat → Nat}, (∀ j, j < n → f j < S) → (∀ j j', j < j' → j' < n → f j ≠ f j') → n ≤ S
  | 0, n, f, h1, _ => by
    rcases Nat.eq_zero_or_pos n with h | h
    · omega
    · exact absurd (h1 0 h) (by omega)
  | S + 1, n, f, h1, h2 => by
    by_cases e : ∃ j, j < n ∧ f j = S
    · obtain ⟨j0, hj0, e0⟩ := e
      have := inj_le (S := S) (n := n - 1) (f := fun j => if j < j0 then f j else f (j + 1)) (fun j hj => by
        show (if j < j0 then f j else f (j + 1)) < S
        by_cases c : j < j0
        · rw [if_pos c]
          have a := h1 j (by omega)
          have b := h2 j j0 c hj0
          omega
        · rw [if_neg c]
          have a := h1 (j + 1) (by omega)
          have b := h2 j0 (j + 1) (by omega) (by omega)
          omega) (fun j j' hjj hj' => by
        show (if j < j0 then f j else f (j + 1)) ≠ (if j' < j0 then f j' else f (j' + 1))
        by_cases c1 : j < j0 <;> by_cases c2 : j' < j0
        · rw [if_pos c1, if_pos c2]; exact h2 j j' hjj (by omega)
        · rw [if_pos c1, if_neg c2]; exact h2 j (j' + 1) (by omega) (by omega)
        · omega
        · rw [if_neg c1, if_neg c2]; exact h2 (j + 1) (j' + 1) (by omega) (by omega))
      omega
    · have := inj_le (S := S) (n := n) (f := f) (fun j hj => by
        have a := h1 j hj
        have b : f j ≠ S := fun h => e ⟨j, hj, h⟩
        omega) h2
      omega
/-- where link stands: i states done, and of the next one the letters below k -/
def lkJ (q S : Nat) (nx : Nat → Nat) (pa : Nat → List Nat) (i k : Nat) (x : LkS) : Prop := x.2.2.1 0 = 0 ∧ (∀ j, j < x.2.2.2.2 → x.2.2.1 j < S) ∧ (∀ j j', j < j' → j' < x.2.2.2.2 → x.2.2.1 j ≠ x.2.2.1 j' ∧ (pa (x.2.2.1 j)).length ≤ (pa (x.2.2.1 j')).length) ∧
  (∀ j d t, (j < i ∨ (j = i ∧ d < k)) → d < q → t < S → pa t = d :: pa (x.2.2.1 j) → ∃ j', j' < x.2.2.2.2 ∧ x.2.2.1 j' = t) ∧
  (∀ j, 1 ≤ j → j < x.2.2.2.2 → ∃ j' d, (j' < i ∨ (j' = i ∧ d < k)) ∧ d < q ∧ pa (x.2.2.1 j) = d :: pa (x.2.2.1 j')) ∧
  (∀ j d, (j < i ∨ (j = i ∧ d < k)) → d < q → LSp S pa (x.1 (x.2.2.1 j * 4 + d)) (d :: pa (x.2.2.1 j))) ∧
  (∀ t d, t < S → d < q → (∀ j, j < i → x.2.2.1 j ≠ t) → (t = x.2.2.1 i → k ≤ d) → x.1 (t * 4 + d) = nx (t * 4 + d)) ∧
  (∀ j, 1 ≤ j → j < x.2.2.2.2 → LSp S pa (x.2.1 (x.2.2.1 j)) ((pa (x.2.2.1 j)).take ((pa (x.2.2.1 j)).length - 1))) ∧ x.2.1 0 = 0
/-- a shorter beginning has been done -/
theorem lkJ_done (hT : TrI q nx S pa) {i k : Nat} {x : LkS} (h : lkJ q S nx pa i k x) (hi : i < x.2.2.2.2) : ∀ {n t : Nat}, t < S → (pa t).length = n → n < (pa (x.2.2.1 i)).length → ∃ j, j < i ∧ x.2.2.1 j = t
  | 0, t, ht, hn, hlt => by
    have e : t = 0 := hT.2.2.2.2.1 t 0 ht hT.1 (by rw [hT.2.1]; exact List.length_eq_zero_iff.mp hn)
    subst e
    refine ⟨0, ?_, h.1⟩
    rcases Nat.eq_zero_or_pos i with e | e
    · subst e; rw [h.1, hT.2.1] at hlt; exact absurd hlt (by decide)
    · exact e
  | n + 1, t, ht, hn, hlt => by
    obtain ⟨p, d, p1, p2, p3⟩ := hT.2.2.2.2.2.1 t ht (fun e => by subst e; rw [hT.2.1] at hn; cases hn)
    rw [p3] at hn
    have hn' : (pa p).length = n := by have : (pa p).length + 1 = n + 1 := hn; omega
    obtain ⟨j, hj, ej⟩ := lkJ_done hT h hi (n := n) p1 hn' (by omega)
    obtain ⟨j', hj', ej'⟩ := h.2.2.2.1 j d t (Or.inl hj) p2 ht (by rw [ej]; exact p3)
    refine ⟨j', ?_, ej'⟩
    refine Classical.byContradiction (fun hh => ?_)
    have hle : (pa (x.2.2.1 i)).length ≤ (pa (x.2.2.1 j')).length := by
      by_cases e : i = j'
      · rw [e]; exact Nat.le_refl _
      · exact (h.2.2.1 i j' (by omega) hj').2
    rw [ej', p3] at hle
    have : (d :: pa p).length = (pa p).length + 1 := rfl
    omega
theorem lkC_J (hT : TrI q nx S pa) (hq : q ≤ 4) (hS41 : S ≤ 41) {i k : Nat} {x : LkS} (h : lkJ q S nx pa i k x) (hi : i < x.2.2.2.2) (hk : k < q) : lkJ q S nx pa i (k + 1) (lkC (x.2.2.1 i) k x) ∧ (lkC (x.2.2.1 i) k x).2.2.2.1 = x.2.2.2.1 ∧ x.2.2.2.2 ≤ (lkC (x.2.2.1 i) k x).2.2.2.2 ∧ ∀ j, j < x.2.2.2.2 → (lkC (x.2.2.1 i) k x).2.2.1 j = x.2.2.1 j := by
  have hdone := fun (t : Nat) (ht : t < S) (hl : (pa t).length < (pa (x.2.2.1 i)).length) => lkJ_done hT h hi ht rfl hl
  obtain ⟨N, H, O, I, F⟩ := x
  obtain ⟨h1, h2, h3, h4, h5, h6, h7, h8, h9⟩ := h
  dsimp only at h1 h2 h3 h4 h5 h6 h7 h8 h9 hi hdone ⊢
  have hsS := h2 i hi
  have inj : ∀ a b, a < F → b < F → O a = O b → a = b := fun a b ha hb e => by
    rcases Nat.lt_trichotomy a b with g | g | g
    · exact absurd e (h3 a b g hb).1
    · exact g
    · exact absurd e.symm (h3 b a g ha).1
  have hnot : ∀ j, j < i → O j ≠ O i := fun j hj => (h3 j i hj hi).1
  have hcur : N (O i * 4 + k) = nx (O i * 4 + k) := h7 (O i) k hsS hk hnot (fun _ => Nat.le_refl k)
  -- the fallen one
  have hfall : LSp S pa (if O i = 0 then 0 else N (H (O i) * 4 + k)) ((k :: pa (O i)).take (pa (O i)).length) := by
    by_cases e : O i = 0
    · rw [if_pos e, e, hT.2.1]; exact ls_nil hT
    · rw [if_neg e]
      have i1 : 1 ≤ i := by
        rcases Nat.eq_zero_or_pos i with g | g
        · subst g; exact absurd h1 e
        · exact g
      have hv8 := h8 i i1 hi
      have hpne : pa (O i) ≠ [] := fun g => e (hT.2.2.2.2.1 (O i) 0 hsS hT.1 (by rw [g, hT.2.1]))
      have hlen0 : (pa (O i)).length ≠ 0 := fun g => hpne (List.length_eq_zero_iff.mp g)
      have hlv := ls_len hv8
      rw [List.length_take] at hlv
      obtain ⟨j, hj, ej⟩ := hdone (H (O i)) hv8.1 (by omega)
      have hg := h6 j k (Or.inl hj) hk
      rw [ej] at hg
      rw [pr_cons hpne]
      exact ls_step hT hv8 hg
  by_cases hc : N (O i * 4 + k) = 0
  · -- no such beginning
    have e : lkC (O i) k (N, H, O, I, F) = (va_up N (O i * 4 + k) (if O i = 0 then 0 else N (H (O i) * 4 + k)), H, O, I, F) := lkC_0 hc
    rw [e]
    unfold lkJ
    dsimp only
    have hnN : ¬ isN S pa (k :: pa (O i)) := by
      rintro ⟨t, ht, et⟩
      have := hT.2.2.2.1 (O i) t k hsS ht (by omega) et
      rw [← hcur, hc] at this
      subst this
      rw [hT.2.1] at et; cases et
    refine ⟨⟨h1, h2, h3, fun j d t hj hd ht et => ?_, fun j a b => ?_, fun j d hj hd => ?_, fun t d ht hd hn hle => ?_, h8, h9⟩, rfl, Nat.le_refl _, fun _ _ => rfl⟩
    · rcases hj with g | ⟨g, g2⟩
      · exact h4 j d t (Or.inl g) hd ht et
      · by_cases ed : d = k
        · subst ed; subst g; exact absurd ⟨t, ht, et⟩ hnN
        · exact h4 j d t (Or.inr ⟨g, by omega⟩) hd ht et
    · obtain ⟨j', d, g, g2, g3⟩ := h5 j a b
      exact ⟨j', d, by omega, g2, g3⟩
    · by_cases e2 : O j * 4 + d = O i * 4 + k
      · rw [e2, va_up_self]
        have ed : d = k := by omega
        have eo : O j = O i := by omega
        rw [ed, eo]
        exact ls_drop hnN hfall
      · show LSp S pa (va_up N _ _ (O j * 4 + d)) _
        rw [va_up_ne _ _ e2]
        refine h6 j d ?_ hd
        rcases hj with g | ⟨g, g2⟩
        · exact Or.inl g
        · refine Or.inr ⟨g, ?_⟩
          subst g
          omega
    · show va_up N _ _ (t * 4 + d) = _
      rw [va_up_ne _ _ (fun e2 => by
        have ed : d = k := by omega
        have eo : t = O i := by omega
        have := hle eo
        omega)]
      exact h7 t d ht hd hn (fun e2 => by have := hle e2; omega)
  · -- a child
    have hchild := hT.2.2.1 (O i) k hsS (by omega) (by rw [← hcur]; exact hc)
    rw [← hcur] at hchild
    obtain ⟨hc1, hc2⟩ := hchild
    have hnew : ∀ j, j < F → O j ≠ N (O i * 4 + k) := fun j hj e => by
      rcases Nat.eq_zero_or_pos j with g | g
      · subst g; rw [h1] at e; rw [← e, hT.2.1] at hc2; cases hc2
      · obtain ⟨j', d, g1, g2, g3⟩ := h5 j g hj
        rw [e, hc2] at g3
        obtain ⟨e1, e2⟩ := List.cons.inj g3
        have hj'F : j' < F := by omega
        have := inj i j' hi hj'F (hT.2.2.2.2.1 _ _ hsS (h2 j' hj'F) e2)
        omega
    have hF : F < 41 := by
      have := inj_le (S := S) (n := F + 1) (f := fun j => if j = F then N (O i * 4 + k) else O j) (fun j hj => by
        show (if j = F then N (O i * 4 + k) else O j) < S
        by_cases e : j = F
        · rw [if_pos e]; exact hc1
        · rw [if_neg e]; exact h2 j (by omega)) (fun j j' hjj hj' => by
        show (if j = F then N (O i * 4 + k) else O j) ≠ (if j' = F then N (O i * 4 + k) else O j')
        rw [if_neg (show ¬ j = F by omega)]
        by_cases e : j' = F
        · rw [if_pos e]; exact hnew j (by omega)
        · rw [if_neg e]; exact (h3 j j' hjj (by omega)).1)
      omega
    have e : lkC (O i) k (N, H, O, I, F) = (N, va_up H (N (O i * 4 + k)) (if O i = 0 then 0 else N (H (O i) * 4 + k)), va_up O F (N (O i * 4 + k)), I, F + 1) := lkC_1 hc hF
    rw [e]
    unfold lkJ
    dsimp only
    have oO : ∀ j, j < F → va_up O F (N (O i * 4 + k)) j = O j := fun j hj => va_up_ne _ _ (by omega)
    have oF : va_up O F (N (O i * 4 + k)) F = N (O i * 4 + k) := va_up_self _ _ _
    have hch : (pa (N (O i * 4 + k))).length = (pa (O i)).length + 1 := by rw [hc2]; rfl
    have hdep : ∀ j, j < F → (pa (O j)).length ≤ (pa (O i)).length + 1 := fun j hj => by
      rcases Nat.eq_zero_or_pos j with g | g
      · subst g; rw [h1, hT.2.1]; exact Nat.zero_le _
      · obtain ⟨j', d, g1, g2, g3⟩ := h5 j g hj
        rw [g3]
        show (pa (O j')).length + 1 ≤ _
        by_cases e2 : j' = i
        · rw [e2]; exact Nat.le_refl _
        · have := (h3 j' i (by omega) hi).2
          omega
    refine ⟨⟨by rw [oO 0 (by omega)]; exact h1, fun j hj => ?_, fun j j' hjj hj' => ?_, fun j d t hj hd ht et => ?_, fun j a b => ?_, fun j d hj hd => ?_, fun t d ht hd hn hle => ?_, fun j a b => ?_, ?_⟩, rfl, by omega, oO⟩
    · by_cases e2 : j = F
      · rw [e2, oF]; exact hc1
      · rw [oO j (by omega)]; exact h2 j (by omega)
    · rw [oO j (by omega)]
      by_cases e2 : j' = F
      · rw [e2, oF]
        exact ⟨hnew j (by omega), by rw [hch]; exact hdep j (by omega)⟩
      · rw [oO j' (by omega)]; exact h3 j j' hjj (by omega)
    · rw [oO j (by omega)] at et
      rcases (show (j < i ∨ (j = i ∧ d < k)) ∨ (j = i ∧ d = k) by omega) with g | ⟨g, g2⟩
      · obtain ⟨j', a, b⟩ := h4 j d t g hd ht et
        exact ⟨j', by omega, by rw [oO j' a]; exact b⟩
      · subst g; subst g2
        exact ⟨F, by omega, by rw [oF]; exact hT.2.2.2.2.1 _ _ hc1 ht (by rw [hc2, et])⟩
    · by_cases e2 : j = F
      · exact ⟨i, k, Or.inr ⟨rfl, by omega⟩, hk, by rw [e2, oF, oO i hi]; exact hc2⟩
      · obtain ⟨j', d, g1, g2, g3⟩ := h5 j a (by omega)
        exact ⟨j', d, by omega, g2, by rw [oO j (by omega), oO j' (by omega)]; exact g3⟩
    · rw [oO j (by omega)]
      rcases (show (j < i ∨ (j = i ∧ d < k)) ∨ (j = i ∧ d = k) by omega) with g | ⟨g, g2⟩
      · exact h6 j d g hd
      · subst g; subst g2
        have := ls_self (S := S) (pa := pa) hc1
        rw [hc2] at this
        exact this
    · refine h7 t d ht hd (fun j hj => ?_) (fun e2 => ?_)
      · have := hn j hj
        rw [oO j (by omega)] at this
        exact this
      · rw [oO i hi] at hle
        have := hle e2
        omega
    · by_cases e2 : j = F
      · rw [e2, oF, va_up_self, hc2]
        exact hfall
      · have hjF : j < F := by omega
        rw [oO j hjF, va_up_ne _ _ (hnew j hjF)]
        exact h8 j a hjF
    · rw [va_up_ne _ _ (fun e2 => by rw [← e2, hT.2.1] at hc2; cases hc2)]; exact h9
theorem lkL_J (hT : TrI q nx S pa) (hq : q ≤ 4) (hS41 : S ≤ 41) {i : Nat} {x : LkS} (h : lkJ q S nx pa i 0 x) (hi : i < x.2.2.2.2) : ∀ {k : Nat}, k ≤ q → lkJ q S nx pa i k (lkL (x.2.2.1 i) x k) ∧ (lkL (x.2.2.1 i) x k).2.2.2.1 = x.2.2.2.1 ∧ x.2.2.2.2 ≤ (lkL (x.2.2.1 i) x k).2.2.2.2 ∧ ∀ j, j < x.2.2.2.2 → (lkL (x.2.2.1 i) x k).2.2.1 j = x.2.2.1 j
  | 0, _ => ⟨h, rfl, Nat.le_refl _, fun _ _ => rfl⟩
  | k + 1, hk => by
    obtain ⟨a1, a2, a3, a4⟩ := lkL_J hT hq hS41 h hi (k := k) (by omega)
    have e := a4 i hi
    have := lkC_J hT hq hS41 a1 (by omega) (show k < q by omega)
    rw [e] at this
    obtain ⟨b1, b2, b3, b4⟩ := this
    exact ⟨b1, b2.trans a2, by show _ ≤ (lkC _ _ _).2.2.2.2; omega, fun j hj => (b4 j (by omega)).trans (a4 j hj)⟩
theorem lkJ_next {i : Nat} {x : LkS} (h : lkJ q S nx pa i q x) : lkJ q S nx pa (i + 1) 0 x := by
  obtain ⟨h1, h2, h3, h4, h5, h6, h7, h8, h9⟩ := h
  refine ⟨h1, h2, h3, fun j d t hj hd ht et => h4 j d t (by omega) hd ht et, fun j a b => ?_, fun j d hj hd => h6 j d (by omega) hd, fun t d ht hd hn _ => h7 t d ht hd (fun j hj => hn j (by omega)) (fun e => absurd e.symm (hn i (by omega))), h8, h9⟩
  obtain ⟨j', d, g1, g2, g3⟩ := h5 j a b
  exact ⟨j', d, by omega, g2, g3⟩
/-- does a learnt WORD end the text l -/
def htS (S : Nat) (hv : Nat → Nat) (pa : Nat → List Nat) (l : List Nat) : Prop := ∃ t, t < S ∧ hv t = 1 ∧ ∃ m, pa t = l.take m
def lkHI (S : Nat) (hv : Nat → Nat) (pa : Nat → List Nat) (i : Nat) (x : LkS) : Prop := (∀ j, j < i → (x.2.2.2.1 (x.2.2.1 j) = 1 ↔ htS S hv pa (pa (x.2.2.1 j)))) ∧ (∀ t, (∀ j, j < i → x.2.2.1 j ≠ t) → x.2.2.2.1 t = hv t) ∧ ∀ t, x.2.2.2.1 t ≤ 1
theorem lkH_I (hT : TrI q nx S pa) {i : Nat} {x : LkS} (hJ : lkJ q S nx pa i 0 x) (hi : i < x.2.2.2.2) (h : lkHI S hv pa i x) : lkHI S hv pa (i + 1) (lkH (x.2.2.1 i) x) := by
  have hdone := fun (t : Nat) (ht : t < S) (hl : (pa t).length < (pa (x.2.2.1 i)).length) => lkJ_done hT hJ hi ht rfl hl
  obtain ⟨N, H, O, I, F⟩ := x
  obtain ⟨h1, h2, h3, h4, h5, h6, h7, h8, h9⟩ := hJ
  obtain ⟨g1, g2, g3⟩ := h
  dsimp only at h1 h2 h3 h8 h9 hi g1 g2 g3 hdone
  have hsS := h2 i hi
  have hnot : ∀ j, j < i → O j ≠ O i := fun j hj => (h3 j i hj hi).1
  have hIs := g2 (O i) hnot
  show (∀ j, j < i + 1 → (va_up I (O i) (if ¬ I (O i) = 0 then 1 else if ¬ I (H (O i)) = 0 then 1 else 0) (O j) = 1 ↔ htS S hv pa (pa (O j)))) ∧ (∀ t, (∀ j, j < i + 1 → O j ≠ t) → va_up I (O i) (if ¬ I (O i) = 0 then 1 else if ¬ I (H (O i)) = 0 then 1 else 0) t = hv t) ∧ ∀ t, va_up I (O i) (if ¬ I (O i) = 0 then 1 else if ¬ I (H (O i)) = 0 then 1 else 0) t ≤ 1
  refine ⟨fun j hj => ?_, fun t ht => ?_, fun t => ?_⟩
  · by_cases e : j = i
    · subst e
      rw [va_up_self]
      -- the states that end this one
      have hself : hv (O j) = 1 → htS S hv pa (pa (O j)) := fun hh => ⟨O j, hsS, hh, _, List.take_length.symm⟩
      have hb := g3 (O j)
      by_cases c1 : I (O j) = 0
      · rw [if_neg (fun hh => hh c1)]
        have hv0 : hv (O j) = 0 := by rw [← hIs]; exact c1
        by_cases e0 : O j = 0
        · rw [e0, h9]
          rw [e0] at c1 hv0
          rw [if_neg (fun hh => hh c1)]
          constructor
          · intro hh; exact absurd hh (by decide)
          · rintro ⟨t, t1, t2, m, t3⟩
            rw [hT.2.1, List.take_nil] at t3
            have := hT.2.2.2.2.1 t 0 t1 hT.1 (by rw [t3, hT.2.1])
            rw [this, hv0] at t2
            exact absurd t2 (by decide)
        · have j1 : 1 ≤ j := by
            rcases Nat.eq_zero_or_pos j with g | g
            · subst g; exact absurd h1 e0
            · exact g
          have hv8 := h8 j j1 hi
          have hpne : pa (O j) ≠ [] := fun g => e0 (hT.2.2.2.2.1 (O j) 0 hsS hT.1 (by rw [g, hT.2.1]))
          have hlen0 : (pa (O j)).length ≠ 0 := fun g => hpne (List.length_eq_zero_iff.mp g)
          have hlv := ls_len hv8
          rw [List.length_take] at hlv
          obtain ⟨j', hj', ej'⟩ := hdone (H (O j)) hv8.1 (by omega)
          have hg := g1 j' hj'
          rw [ej'] at hg
          have hgb := g3 (H (O j))
          have key : htS S hv pa (pa (O j)) ↔ htS S hv pa (pa (H (O j))) := by
            obtain ⟨v1, m0, v2, v3, v4⟩ := hv8
            rw [List.length_take] at v2 v4
            have hm0 : (pa (H (O j))).length = m0 := by rw [v3, List.length_take, List.length_take]; omega
            constructor
            · rintro ⟨t, t1, t2, m, t3⟩
              have hml : m < (pa (O j)).length := by
                refine Classical.byContradiction (fun hh => ?_)
                rw [List.take_of_length_le (by omega)] at t3
                have := hT.2.2.2.2.1 t (O j) t1 hsS t3
                rw [this, hv0] at t2
                exact absurd t2 (by decide)
              have t3' : pa t = ((pa (O j)).take ((pa (O j)).length - 1)).take m := by rw [List.take_take, show min m ((pa (O j)).length - 1) = m by omega]; exact t3
              have hmm : m ≤ m0 := by
                refine Classical.byContradiction (fun hh => ?_)
                exact v4 m (by omega) (by omega) ⟨t, t1, t3'⟩
              refine ⟨t, t1, t2, m, ?_⟩
              rw [v3, List.take_take, show min m m0 = m by omega]; exact t3'
            · rintro ⟨t, t1, t2, m, t3⟩
              rw [v3, List.take_take, List.take_take] at t3
              exact ⟨t, t1, t2, _, t3⟩
          by_cases c2 : I (H (O j)) = 0
          · rw [if_neg (fun hh => hh c2)]
            constructor
            · intro hh; exact absurd hh (by decide)
            · intro hh
              have := hg.mpr (key.mp hh)
              omega
          · rw [if_pos c2]
            constructor
            · intro _; exact key.mpr (hg.mp (by omega))
            · intro _; rfl
      · rw [if_pos c1]
        constructor
        · intro _; exact hself (by rw [← hIs]; omega)
        · intro _; rfl
    · have hji : j < i := by omega
      rw [va_up_ne _ _ (hnot j hji)]
      exact g1 j hji
  · rw [va_up_ne _ _ (fun e => ht i (by omega) e.symm)]
    exact g2 t (fun j hj => ht j (by omega))
  · by_cases e : t = O i
    · rw [e, va_up_self]; split
      · exact Nat.le_refl 1
      · split <;> decide
    · rw [va_up_ne _ _ e]; exact g3 t
theorem lkO_I (hT : TrI q nx S pa) (hq : q ≤ 4) (hS41 : S ≤ 41) (hv1 : ∀ t, hv t ≤ 1) : ∀ {i : Nat}, (∀ j, j < i → j < (lkO q (nx, fun _ => 0, fun _ => 0, hv, 1) j).2.2.2.2) → lkJ q S nx pa i 0 (lkO q (nx, fun _ => 0, fun _ => 0, hv, 1) i) ∧ lkHI S hv pa i (lkO q (nx, fun _ => 0, fun _ => 0, hv, 1) i) ∧ i ≤ (lkO q (nx, fun _ => 0, fun _ => 0, hv, 1) i).2.2.2.2 ∧ 1 ≤ (lkO q (nx, fun _ => 0, fun _ => 0, hv, 1) i).2.2.2.2
  | 0, _ => by
    refine ⟨⟨rfl, fun j hj => hT.1, fun j j' a b => ?_, fun j d t a => ?_, fun j a b => ?_, fun j d a => ?_, fun t d _ _ _ _ => rfl, fun j a b => ?_, rfl⟩, ⟨fun j hj => absurd hj (by omega), fun t _ => rfl, hv1⟩, Nat.zero_le _, Nat.le_refl 1⟩
    · have : j' < 1 := b; omega
    · omega
    · have : j < 1 := b; omega
    · omega
    · have : j < 1 := b; omega
  | i + 1, h => by
    obtain ⟨a1, a2, a3, a4⟩ := lkO_I hT hq hS41 hv1 (i := i) (fun j hj => h j (by omega))
    have hi := h i (by omega)
    have b2 := lkH_I hT a1 hi a2
    have b1 : lkJ q S nx pa i 0 (lkH ((lkO q (nx, fun _ => 0, fun _ => 0, hv, 1) i).2.2.1 i) (lkO q (nx, fun _ => 0, fun _ => 0, hv, 1) i)) := a1
    have hL := lkL_J hT hq hS41 b1 hi (Nat.le_refl q)
    rw [show (lkH ((lkO q (nx, fun _ => 0, fun _ => 0, hv, 1) i).2.2.1 i) (lkO q (nx, fun _ => 0, fun _ => 0, hv, 1) i)).2.2.1 i = (lkO q (nx, fun _ => 0, fun _ => 0, hv, 1) i).2.2.1 i from rfl] at hL
    obtain ⟨c1, c2, c3, c4⟩ := hL
    have hi2 : i < (lkH ((lkO q (nx, fun _ => 0, fun _ => 0, hv, 1) i).2.2.1 i) (lkO q (nx, fun _ => 0, fun _ => 0, hv, 1) i)).2.2.2.2 := hi
    refine ⟨lkJ_next c1, ?_, ?_, ?_⟩
    · obtain ⟨d1, d2, d3⟩ := b2
      show (∀ j, j < i + 1 → ((lkL _ _ q).2.2.2.1 ((lkL _ _ q).2.2.1 j) = 1 ↔ htS S hv pa (pa ((lkL _ _ q).2.2.1 j)))) ∧ (∀ t, (∀ j, j < i + 1 → (lkL _ _ q).2.2.1 j ≠ t) → (lkL _ _ q).2.2.2.1 t = hv t) ∧ ∀ t, (lkL _ _ q).2.2.2.1 t ≤ 1
      refine ⟨fun j hj => ?_, fun t ht => ?_, fun t => ?_⟩
      · rw [c2, c4 j (by omega)]; exact d1 j hj
      · rw [c2]; exact d2 t (fun j hj => by have := ht j hj; rw [c4 j (by omega)] at this; exact this)
      · rw [c2]; exact d3 t
    · have := c3
      show i + 1 ≤ (lkL _ _ q).2.2.2.2
      omega
    · have := c3
      show 1 ≤ (lkL _ _ q).2.2.2.2
      omega
theorem lsF_is {P : Nat → Bool} : ∀ {k : Nat}, (∃ a, a < k ∧ P a = true ∧ (∀ x, x < a → ¬ P x = true) ∧ lsF P k = some a) ∨ ((∀ x, x < k → ¬ P x = true) ∧ lsF P k = none) := by
  intro k
  by_cases h : ∃ a, a < k ∧ P a = true
  · obtain ⟨a, ha, hp⟩ := h
    have : ∃ m, m ≤ a ∧ P m = true ∧ ∀ x, x < m → ¬ P x = true := by
      induction a using Nat.strongRecOn with
      | _ a ih =>
        by_cases e : ∃ x, x < a ∧ P x = true
        · obtain ⟨x, hx, hpx⟩ := e
          obtain ⟨m, m1, m2, m3⟩ := ih x hx (by omega) hpx
          exact ⟨m, by omega, m2, m3⟩
        · exact ⟨a, Nat.le_refl a, hp, fun x hx hpx => e ⟨x, hx, hpx⟩⟩
    obtain ⟨m, m1, m2, m3⟩ := this
    exact Or.inl ⟨m, by omega, m2, m3, lsF_some m2 m3 (by omega)⟩
  · exact Or.inr ⟨fun x hx hp => h ⟨x, hx, hp⟩, lsF_none (fun x hx hp => h ⟨x, hx, hp⟩)⟩
/-- all is linked -/
theorem lkF_all (hT : TrI q nx S pa) (hq : q ≤ 4) (hS41 : S ≤ 41) (hv1 : ∀ t, hv t ≤ 1) : (∀ s d, s < S → d < q → LSp S pa ((lkF q (nx, fun _ => 0, fun _ => 0, hv, 1)).1 (s * 4 + d)) (d :: pa s)) ∧ (∀ s, s < S → ((lkF q (nx, fun _ => 0, fun _ => 0, hv, 1)).2.2.2.1 s = 1 ↔ htS S hv pa (pa s))) ∧ (∀ s, (lkF q (nx, fun _ => 0, fun _ => 0, hv, 1)).2.2.2.1 s ≤ 1) := by
  obtain ⟨n, hn, hlt, hend⟩ : ∃ n, lkI q (nx, fun _ => 0, fun _ => 0, hv, 1) = n ∧ (∀ j, j < n → j < (lkO q (nx, fun _ => 0, fun _ => 0, hv, 1) j).2.2.2.2) ∧ ((lkO q (nx, fun _ => 0, fun _ => 0, hv, 1) n).2.2.2.2 ≤ n ∨ n = 41) := by
    rcases lsF_is (P := fun i => decide ((lkO q (nx, fun _ => 0, fun _ => 0, hv, 1) i).2.2.2.2 ≤ i)) (k := 41) with ⟨a, a1, a2, a3, a4⟩ | ⟨a1, a2⟩
    · refine ⟨a, by unfold lkI; rw [a4]; rfl, fun j hj => ?_, Or.inl (of_decide_eq_true a2)⟩
      have := a3 j hj
      rw [decide_eq_true_iff] at this
      omega
    · refine ⟨41, by unfold lkI; rw [a2]; rfl, fun j hj => ?_, Or.inr rfl⟩
      have := a1 j hj
      rw [decide_eq_true_iff] at this
      omega
  obtain ⟨b1, b2, b3, b4⟩ := lkO_I hT hq hS41 hv1 hlt
  have hF : (lkF q (nx, fun _ => 0, fun _ => 0, hv, 1)) = lkO q (nx, fun _ => 0, fun _ => 0, hv, 1) n := by unfold lkF; rw [hn]
  rw [hF]
  have hfS : (lkO q (nx, fun _ => 0, fun _ => 0, hv, 1) n).2.2.2.2 ≤ S := inj_le b1.2.1 (fun j j' a b => (b1.2.2.1 j j' a b).1)
  have hnF : (lkO q (nx, fun _ => 0, fun _ => 0, hv, 1) n).2.2.2.2 = n := by omega
  have all : ∀ m t, t < S → (pa t).length = m → ∃ j, j < n ∧ (lkO q (nx, fun _ => 0, fun _ => 0, hv, 1) n).2.2.1 j = t := by
    intro m
    induction m with
    | zero =>
      intro t ht hl
      have e : t = 0 := hT.2.2.2.2.1 t 0 ht hT.1 (by rw [hT.2.1]; exact List.length_eq_zero_iff.mp hl)
      exact ⟨0, by omega, by rw [e]; exact b1.1⟩
    | succ m ih =>
      intro t ht hl
      obtain ⟨p, d, p1, p2, p3⟩ := hT.2.2.2.2.2.1 t ht (fun e => by subst e; rw [hT.2.1] at hl; cases hl)
      rw [p3] at hl
      obtain ⟨j, hj, ej⟩ := ih p p1 (by have : (pa p).length + 1 = m + 1 := hl; omega)
      obtain ⟨j', hj', ej'⟩ := b1.2.2.2.1 j d t (Or.inl hj) p2 ht (by rw [ej]; exact p3)
      exact ⟨j', by omega, ej'⟩
  refine ⟨fun s d hs hd => ?_, fun s hs => ?_, b2.2.2⟩
  · obtain ⟨j, hj, ej⟩ := all _ s hs rfl
    have := b1.2.2.2.2.2.1 j d (Or.inl hj) hd
    rw [ej] at this; exact this
  · obtain ⟨j, hj, ej⟩ := all _ s hs rfl
    have := b2.1 j hj
    rw [ej] at this; exact this
end LK
