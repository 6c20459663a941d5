/-! ===== 465: sticks, the numbers ===== -/
def sm (D : Nat → Nat) (x : Nat) : Nat → Nat
  | 0 => 0
  | k + 1 => sm D x k + (if x.testBit k = true then D k else 0)
abbrev o1 : Nat → Nat := fun _ => 1
theorem sm_split {D : Nat → Nat} {x y t : Nat} (h : ∀ j, y.testBit j = (x.testBit j && decide (j ≠ t))) (ht : x.testBit t = true) : ∀ k, sm D x k = sm D y k + (if t < k then D t else 0)
  | 0 => by simp [sm]
  | k + 1 => by
    simp only [sm]
    rw [sm_split h ht k, h k]
    by_cases e : k = t
    · subst e
      rw [if_neg (Nat.lt_irrefl _), if_pos ht, if_pos (show k < k + 1 by omega)]
      simp
    · have e1 : (t < k + 1) = (t < k) := propext (by omega)
      simp only [e1, e, ne_eq, not_false_eq_true, decide_true, Bool.and_true]
      omega
theorem sm_one (x : Nat) : ∀ k, sm o1 x k = cn x.testBit k
  | 0 => rfl
  | k + 1 => by simp only [sm, cn, sm_one x k]
theorem sm_le {D : Nat → Nat} {m : Nat} (x : Nat) : ∀ k, (∀ j, j < k → D j ≤ m) → sm D x k ≤ k * m
  | 0, _ => by simp [sm]
  | k + 1, h => by
    have h1 := sm_le x k (fun j hj => h j (by omega))
    have h2 := h k (by omega)
    simp only [sm]
    rw [Nat.add_mul]
    split <;> omega
theorem sm_ge {D : Nat → Nat} (x : Nat) : ∀ k, (∀ j, j < k → 1 ≤ D j) → sm o1 x k ≤ sm D x k ∧ (sm o1 x k = 0 → sm D x k = 0)
  | 0, _ => by simp [sm]
  | k + 1, h => by
    have h1 := sm_ge x k (fun j hj => h j (by omega))
    have h2 := h k (by omega)
    have h3 : o1 k = 1 := rfl
    simp only [sm]
    by_cases e : x.testBit k = true
    · rw [if_pos e, if_pos e]
      omega
    · rw [if_neg e, if_neg e]
      omega
theorem cn_ext {P : Nat → Bool} {k : Nat} (h : ∀ j, k ≤ j → P j = false) : ∀ d, cn P (k + d) = cn P k
  | 0 => rfl
  | d + 1 => by
    show cn P (k + d) + (if P (k + d) = true then 1 else 0) = _
    rw [cn_ext h d, h (k + d) (by omega)]
    simp
theorem tb_big {x o j : Nat} (h : x < 2 ^ o) (hj : o ≤ j) : x.testBit j = false := Nat.testBit_lt_two_pow (Nat.lt_of_lt_of_le h (Nat.pow_le_pow_right (by omega) hj))
theorem sm_pc {x o : Nat} (h : x < 2 ^ o) (ho : o ≤ 8) : sm o1 x o = pcN x := by
  rw [sm_one, pc_cn]
  have := cn_ext (P := x.testBit) (k := o) (fun j hj => tb_big h hj) (9 - o)
  rw [show o + (9 - o) = 9 by omega] at this
  exact this.symm
theorem xor_tb {x t : Nat} (ht : x.testBit t = true) (j : Nat) : (x ^^^ 2 ^ t).testBit j = (x.testBit j && decide (j ≠ t)) := by
  rw [Nat.testBit_xor, Nat.testBit_two_pow]
  by_cases e : j = t
  · subst e
    simp [ht]
  · have e' : ¬ t = j := fun z => e z.symm
    simp [e, e']
def tzN (x : Nat) : Nat := ((List.range 8).find? (fun i => x.testBit i)).getD 0
theorem tz_all : ∀ x : Fin 256, 1 ≤ x.1 → x.1 ^^^ 2 ^ tzN x.1 = x.1 &&& (x.1 - 1) ∧ x.1.testBit (tzN x.1) = true ∧ tzN x.1 < 8 ∧ nI x.1 &&& -(nI x.1) = nI (2 ^ tzN x.1) ∧ pcN x.1 = pcN (x.1 ^^^ 2 ^ tzN x.1) + 1 ∧ pcN x.1 ≤ 8 := by decide +kernel
def tzO (x0 : Int32) : Option Int32 :=
  nm ((x0 ^^^ (-1 : Int32)) &&& (x0 - (1 : Int32))) fun x21 =>
  if 0 < x21 then
  (nm (fun (x22 : Int32) (x23 : Int32) =>
  nm (fun (x24 : Int32) (x25 : Int32) =>
  nm (fun (x26 : Int32) (x27 : Int32) =>
  nm (fun (x28 : Int32) (x29 : Int32) =>
  some (x29 + ((x28.toUInt32 >>> ((1 : Int32).toUInt32 &&& Int32.toUInt32 31)).toInt32))) fun j74 =>
  if x26 ≤ (4 : Int32) then
  (j74 x26 x27)
  else
  nm (x27 + (2 : Int32)) fun x30 =>
  nm ((x26.toUInt32 >>> ((2 : Int32).toUInt32 &&& Int32.toUInt32 31)).toInt32) fun x31 =>
  j74 x31 x30) fun j62 =>
  if x24 ≤ (16 : Int32) then
  (j62 x24 x25)
  else
  nm (x25 + (4 : Int32)) fun x33 =>
  nm ((x24.toUInt32 >>> ((4 : Int32).toUInt32 &&& Int32.toUInt32 31)).toInt32) fun x34 =>
  j62 x34 x33) fun j49 =>
  if x22 ≤ (256 : Int32) then
  (j49 x22 x23)
  else
  nm (x23 + (8 : Int32)) fun x36 =>
  nm ((x22.toUInt32 >>> ((8 : Int32).toUInt32 &&& Int32.toUInt32 31)).toInt32) fun x37 =>
  j49 x37 x36) fun j34 =>
  if x21 ≤ (65536 : Int32) then
  (j34 x21 (1 : Int32))
  else
  nm ((1 : Int32) + (16 : Int32)) fun x39 =>
  nm ((x21.toUInt32 >>> ((16 : Int32).toUInt32 &&& Int32.toUInt32 31)).toInt32) fun x40 =>
  j34 x40 x39)
  else
  some (x21 &&& (32 : Int32))
theorem e_tz0 (N : Nat) (S : pH) (x : Int32) : fJ6_numberOfTrailingZeros_0f7a4 N S x = tzO x := rfl
theorem tzO_all : ∀ x : Fin 256, 1 ≤ x.1 → tzO (nI x.1) = some (nI (tzN x.1)) := by decide +kernel
theorem e_tz {x : Nat} (h1 : 1 ≤ x) (h2 : x < 256) (N : Nat) (S : pH) : fJ6_numberOfTrailingZeros_0f7a4 N S (nI x) = some (nI (tzN x)) := (e_tz0 N S (nI x)).trans (tzO_all ⟨x, h2⟩ h1)
theorem and_bitA : ∀ p : Fin 256, ∀ t : Fin 8, ((nI p.1 &&& nI (2 ^ t.1)) = 0) ↔ ¬ p.1.testBit t.1 = true := by decide +kernel
theorem and_bit {p t : Nat} (hp : p < 256) (ht : t < 8) : (nI p &&& nI (2 ^ t)) = 0 ↔ ¬ p.testBit t = true := and_bitA ⟨p, hp⟩ ⟨t, ht⟩
theorem sb_iff {p s : Nat} : p &&& s = p ↔ ∀ j, p.testBit j = true → s.testBit j = true := by
  constructor
  · intro h j hj
    rw [← h, Nat.testBit_and, Bool.and_eq_true] at hj
    exact hj.2
  · intro h
    apply Nat.eq_of_testBit_eq
    intro j
    rw [Nat.testBit_and]
    cases hj : p.testBit j
    · rfl
    · rw [h j hj]; rfl
theorem xor_lt {p s : Nat} (h : p &&& s = p) (h0 : p ≠ 0) : s ^^^ p < s := by
  have e : s ^^^ p = s &&& (s ^^^ p) := by
    apply Nat.eq_of_testBit_eq
    intro j
    have := sb_iff.mp h j
    rw [Nat.testBit_and, Nat.testBit_xor]
    cases h1 : s.testBit j <;> cases h2 : p.testBit j <;> simp_all
  have h1 : s ^^^ p ≤ s := by rw [e]; exact Nat.and_le_left
  have h2 : s ^^^ p ≠ s := by
    intro z
    have : s ^^^ (s ^^^ p) = p := by rw [← Nat.xor_assoc, Nat.xor_self, Nat.zero_xor]
    rw [z, Nat.xor_self] at this
    exact h0 this.symm
  omega
theorem and_not {p s : Nat} (hs : s < 256) (h : p &&& s = p) : s &&& (p ^^^ (2 ^ 32 - 1)) = s ^^^ p := by
  apply Nat.eq_of_testBit_eq
  intro j
  have := sb_iff.mp h j
  by_cases hj : j < 32
  · have h2 : (2 ^ 32 - 1 : Nat).testBit j = true := by
      rw [Nat.testBit_two_pow_sub_one]
      exact decide_eq_true hj
    rw [Nat.testBit_and, Nat.testBit_xor, Nat.testBit_xor, h2]
    cases h1 : s.testBit j <;> cases h2 : p.testBit j <;> simp_all
  · have h1 : s.testBit j = false := tb_big (o := 8) hs (by omega)
    rw [Nat.testBit_and, Nat.testBit_xor, Nat.testBit_xor, h1]
    cases h2 : p.testBit j <;> simp_all
/-- a set is cut of k sticks -/
def Cv (ft : Nat → Bool) : Nat → Nat → Prop
  | 0, s => s = 0
  | k + 1, s => ∃ p, p ≠ 0 ∧ p &&& s = p ∧ ft p = true ∧ Cv ft k (s ^^^ p)
def Wp (ft : Nat → Bool) (s p j : Nat) : Prop := p ≠ 0 ∧ p &&& s = p ∧ ft p = true ∧ Cv ft j (s ^^^ p)
def mnK (ft : Nat → Bool) (s v : Nat) : Prop := Cv ft v s ∧ ∀ j, Cv ft j s → v ≤ j
theorem mnK_u {ft : Nat → Bool} {s v w : Nat} (h : mnK ft s v) (h' : mnK ft s w) : v = w := by
  have := h.2 w h'.1
  have := h'.2 v h.1
  omega
theorem mnK_0 (ft : Nat → Bool) : mnK ft 0 0 := ⟨rfl, fun j _ => Nat.zero_le j⟩
theorem Cv_pick {ft : Nat → Bool} : ∀ (j s t : Nat), Cv ft (j + 1) s → s.testBit t = true → ∃ p, p.testBit t = true ∧ Wp ft s p j
  | 0, s, t, ⟨p, h1, h2, h3, h4⟩, ht => by
    refine ⟨p, ?_, h1, h2, h3, h4⟩
    have h5 : s ^^^ p = 0 := h4
    have := congrArg (fun z => z.testBit t) h5
    simp only [Nat.testBit_xor, ht, Nat.zero_testBit] at this
    cases h : p.testBit t
    · rw [h] at this; exact absurd this (by decide)
    · rfl
  | j + 1, s, t, ⟨p, h1, h2, h3, h4⟩, ht => by
    by_cases hp : p.testBit t = true
    · exact ⟨p, hp, h1, h2, h3, h4⟩
    · have h5 : (s ^^^ p).testBit t = true := by rw [Nat.testBit_xor, ht, Bool.eq_false_iff.mpr hp]; rfl
      obtain ⟨p', q0, q1, q2, q3, q4⟩ := Cv_pick j (s ^^^ p) t h4 h5
      have a1 := sb_iff.mp h2
      have a2 := sb_iff.mp q2
      refine ⟨p', q0, q1, sb_iff.mpr (fun i hi => ?_), q3, p, h1, sb_iff.mpr (fun i hi => ?_), h3, ?_⟩
      · have := a2 i hi
        rw [Nat.testBit_xor] at this
        cases h6 : s.testBit i
        · cases h7 : p.testBit i
          · rw [h6, h7] at this; exact absurd this (by decide)
          · have := a1 i h7; rw [h6] at this; exact this
        · rfl
      · have b1 := a1 i hi
        have b2 : p'.testBit i = false := by
          cases h7 : p'.testBit i
          · rfl
          · have := a2 i h7
            rw [Nat.testBit_xor, b1, hi] at this
            exact absurd this (by decide)
        rw [Nat.testBit_xor, b1, b2]
        rfl
      · rw [Nat.xor_assoc, Nat.xor_comm p' p, ← Nat.xor_assoc]
        exact q4
theorem Cv_pos {ft : Nat → Bool} {j s : Nat} (h : Cv ft j s) (hs : s ≠ 0) : ∃ i, j = i + 1 := by
  cases j with
  | zero => exact absurd h hs
  | succ i => exact ⟨i, rfl⟩
def ftN (D : Nat → Nat) (s L o : Nat) (p : Nat) : Bool := decide (sm D p o + sm o1 p o * s ≤ L ∨ sm D p o + (sm o1 p o - 1) * s = L)
/-- of a set that goes into one stick each order does -/
theorem ft_one {D : Nat → Nat} {s L o p i : Nat} (hD : ∀ j, j < o → 1 ≤ D j) (hi : i < o) (hp : p.testBit i = true) (h : ftN D s L o p = true) : D i + 1 * s ≤ L ∨ D i + 0 * s = L := by
  have z := of_decide_eq_true h
  have e1 := sm_split (D := D) (xor_tb hp) hp o
  have e2 := sm_split (D := o1) (xor_tb hp) hp o
  rw [if_pos hi] at e1 e2
  have e3 : sm o1 p o = sm o1 (p ^^^ 2 ^ i) o + 1 := e2
  obtain ⟨g1, g2⟩ := sm_ge (D := D) (p ^^^ 2 ^ i) o hD
  rw [e1, e3] at z
  simp only [Nat.add_sub_cancel, Nat.add_mul] at z
  by_cases h0 : sm o1 (p ^^^ 2 ^ i) o = 0
  · rw [h0, g2 h0] at z
    omega
  · have : s ≤ sm o1 (p ^^^ 2 ^ i) o * s := Nat.le_mul_of_pos_left s (by omega)
    omega
/-- a set of orders that go singly goes -/
theorem Cv_single {ft : Nat → Bool} {o : Nat} (ho : o ≤ 8) (h : ∀ i, i < o → ft (2 ^ i) = true) : ∀ (m x : Nat), x ≤ m → x < 2 ^ o → Cv ft (pcN x) x := by
  intro m
  induction m with
  | zero =>
    intro x hx _
    have : x = 0 := by omega
    subst this
    rfl
  | succ m ih =>
    intro x hx hxo
    by_cases h0 : x = 0
    · subst h0; rfl
    · have h256 : x < 256 := Nat.lt_of_lt_of_le hxo (Nat.pow_le_pow_right (n := 2) (i := o) (j := 8) (by omega) ho)
      obtain ⟨t1, t2, t3, t4, t5, t6⟩ := tz_all ⟨x, h256⟩ (by show 1 ≤ x; omega)
      simp only at t1 t2 t3 t4 t5 t6
      have hto : tzN x < o := by
        apply Nat.lt_of_not_le
        intro z
        rw [tb_big hxo z] at t2
        exact absurd t2 (by decide)
      have hs : 2 ^ tzN x &&& x = 2 ^ tzN x := sb_iff.mpr (fun j hj => by
        rw [Nat.testBit_two_pow, decide_eq_true_eq] at hj
        rw [← hj]; exact t2)
      have h2 : (2 : Nat) ^ tzN x ≠ 0 := Nat.pos_iff_ne_zero.mp (Nat.pow_pos (by omega))
      have hlt := xor_lt hs h2
      rw [t5]
      exact ⟨2 ^ tzN x, h2, hs, h _ hto, ih _ (by omega) (by omega)⟩
