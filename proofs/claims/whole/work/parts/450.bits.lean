/-! ===== 450: bits and counts ===== -/
theorem sh31 : ∀ k : Fin 31, ((nI k.1 &&& (31 : Int32)).toBitVec.smod 32).toNat = k.1 := by decide
theorem sh_b {l k : Nat} (hl : l < 2 ^ 31) (hk : k < 31) : ((nI l >>> (nI k &&& 31)) &&& (1 : Int32)) = nI (l / 2 ^ k % 2) := by
  have h1 : l / 2 ^ k ≤ l := Nat.div_le_self _ _
  rw [pk_shrN hl _ k (sh31 ⟨k, hk⟩)]
  exact pk_andN (n := l / 2 ^ k) (by omega) 1 (by decide)
theorem sh_v {l k : Nat} (hl : l < 2 ^ 31) (hk : k < 31) : ((nI l >>> (nI k &&& 31)) &&& (1 : Int32)) = nI (if l.testBit k = true then 1 else 0) := by
  rw [sh_b hl hk]
  refine congrArg nI ?_
  rw [Nat.testBit_eq_decide_div_mod_eq]
  have := Nat.mod_lt (l / 2 ^ k) (show 0 < 2 by omega)
  by_cases h : l / 2 ^ k % 2 = 1
  · simp [h]
  · rw [if_neg (by simpa using h)]
    omega
theorem sh_t {l k : Nat} (hl : l < 2 ^ 31) (hk : k < 31) : (((nI l >>> (nI k &&& 31)) &&& (1 : Int32)) = 1) ↔ l.testBit k = true := by
  rw [sh_v hl hk]
  by_cases h : l.testBit k = true
  · rw [if_pos h]; exact ⟨fun _ => h, fun _ => rfl⟩
  · rw [if_neg h]; exact ⟨fun z => absurd z (by decide), fun z => absurd z h⟩
/-- how many below k -/
def cn (P : Nat → Bool) : Nat → Nat
  | 0 => 0
  | k + 1 => cn P k + (if P k = true then 1 else 0)
theorem cn_le (P : Nat → Bool) : ∀ k, cn P k ≤ k
  | 0 => Nat.le_refl _
  | k + 1 => by
    have := cn_le P k
    simp only [cn]
    split <;> omega
theorem cn_congr {P Q : Nat → Bool} : ∀ k, (∀ i, i < k → P i = Q i) → cn P k = cn Q k
  | 0, _ => rfl
  | k + 1, h => by
    simp only [cn]
    rw [cn_congr k (fun i hi => h i (by omega)), h k (by omega)]
theorem cn_pair (P : Nat → Bool) : ∀ d, cn P (2 * d) = cn (fun i => P (2 * i)) d + cn (fun i => P (2 * i + 1)) d
  | 0 => rfl
  | d + 1 => by
    show cn P (2 * d) + (if P (2 * d) = true then 1 else 0) + (if P (2 * d + 1) = true then 1 else 0) = _
    simp only [cn]
    rw [cn_pair P d]
    omega
theorem cn_len (P : Nat → Bool) : ∀ k, ((List.range k).filter P).length = cn P k
  | 0 => rfl
  | k + 1 => by
    rw [List.range_succ, List.filter_append, List.length_append, cn_len P k]
    simp only [cn, List.filter]
    cases P k <;> simp
theorem pc_cn (x : Nat) : pcN x = cn x.testBit 9 := cn_len _ 9
theorem cn3 {P Q R T : Nat → Bool} : ∀ k, (∀ i, i < k → (if P i = true then 1 else 0) + (if Q i = true then 1 else 0) + (if R i = true then 1 else 0) = (if T i = true then 1 else 0)) → cn P k + cn Q k + cn R k = cn T k
  | 0, _ => rfl
  | k + 1, h => by
    have h1 := cn3 k (fun i hi => h i (by omega))
    have h2 := h k (by omega)
    simp only [cn]
    omega
theorem cn_2 {P Q T : Nat → Bool} : ∀ k, (∀ i, i < k → (if P i = true then 1 else 0) + (if Q i = true then 1 else 0) ≤ (if T i = true then 1 else 0)) → cn P k + cn Q k ≤ cn T k
  | 0, _ => Nat.le_refl _
  | k + 1, h => by
    have h1 := cn_2 k (fun i hi => h i (by omega))
    have h2 := h k (by omega)
    simp only [cn]
    omega
theorem pc_le9 (x : Nat) : pcN x ≤ 9 := by rw [pc_cn]; exact cn_le _ 9
theorem pc_dis {h l r : Nat} (hd : l &&& r = 0) : pcN (h &&& l) + pcN (h &&& r) ≤ pcN h := by
  simp only [pc_cn]
  refine cn_2 9 (fun i _ => ?_)
  have hz : (l.testBit i && r.testBit i) = false := by rw [← Nat.testBit_and, hd, Nat.zero_testBit]
  simp only [Nat.testBit_and]
  cases h.testBit i <;> cases ha : l.testBit i <;> cases hb : r.testBit i <;> simp_all
/-- the greatest set below x inside m -/
theorem sub_pred : ∀ (m x r : Nat), x &&& m = x → r &&& m = r → r < x → r ≤ (x - 1) &&& m := by
  intro m
  induction m using Nat.strongRecOn with
  | ind m ih =>
    intro x r hx hr hlt
    by_cases hm : m = 0
    · subst hm
      rw [Nat.and_zero] at hx
      omega
    · have x2 : x / 2 &&& m / 2 = x / 2 := by rw [← Nat.and_div_two, hx]
      have r2 : r / 2 &&& m / 2 = r / 2 := by rw [← Nat.and_div_two, hr]
      have xm : x % 2 = 1 → m % 2 = 1 := fun h => by
        have := (Nat.and_mod_two_eq_one (a := x) (b := m)).mp (by rw [hx]; exact h)
        exact this.2
      have rm : r % 2 = 1 → m % 2 = 1 := fun h => by
        have := (Nat.and_mod_two_eq_one (a := r) (b := m)).mp (by rw [hr]; exact h)
        exact this.2
      have A2 : ((x - 1) &&& m) / 2 = (x - 1) / 2 &&& m / 2 := Nat.and_div_two
      have Am : ((x - 1) &&& m) % 2 = 1 ↔ (x - 1) % 2 = 1 ∧ m % 2 = 1 := Nat.and_mod_two_eq_one
      by_cases hb : x % 2 = 1
      · have e : (x - 1) / 2 = x / 2 := by omega
        rw [e, x2] at A2
        omega
      · have e : (x - 1) / 2 = x / 2 - 1 := by omega
        have := ih (m / 2) (by omega) (x / 2) (r / 2) x2 r2 (by omega)
        rw [e] at A2
        rw [← A2] at this
        have : m % 2 = 1 → ((x - 1) &&& m) % 2 = 1 := fun h => Am.mpr ⟨by omega, h⟩
        omega
theorem sub_in (x m : Nat) : (x - 1) &&& m &&& m = (x - 1) &&& m := by rw [Nat.and_assoc, Nat.and_self]
theorem sub_lt {x m : Nat} (h : 0 < x) : (x - 1) &&& m < x := Nat.lt_of_le_of_lt Nat.and_le_left (by omega)
theorem hcong {a a' c c' : Nat} (h1 : a = a') (h2 : c = c') : a + c = a' + c' := by rw [h1, h2]
theorem cn_s (P : Nat → Bool) (k : Nat) : cn P (k + 1) = cn P k + (if P k = true then 1 else 0) := rfl
