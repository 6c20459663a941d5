/-! ===== 220: leaves of the class and of the reference ===== -/
theorem e_isWithin (N : Nat) (S : pH) (x lo hi : Int32) : fX8_isWithin N S x lo hi = some (bI (lo ≤ x ∧ x ≤ hi)) := by
  unfold fX8_isWithin
  by_cases h1 : x < lo
  · have h2 : ¬ (lo ≤ x ∧ x ≤ hi) := fun q => Int32.lt_irrefl (Int32.lt_of_lt_of_le h1 q.1)
    simp [h1, bI_f h2]
  · have h1' : lo ≤ x := Int32.not_lt.mp h1
    by_cases h2 : hi < x
    · have h3 : ¬ (lo ≤ x ∧ x ≤ hi) := fun q => Int32.lt_irrefl (Int32.lt_of_lt_of_le h2 q.2)
      simp [h1, h2, bI_f h3]
    · have h3 : lo ≤ x ∧ x ≤ hi := ⟨h1', Int32.not_lt.mp h2⟩
      simp [h1, h2, bI_t h3]
theorem e_in (N : Nat) (S : pH) (x lo hi : Int32) : fX9_in N S x lo hi = some (bI (lo ≤ x ∧ x ≤ hi)) := by
  unfold fX9_in
  by_cases h1 : x < lo
  · have h2 : ¬ (lo ≤ x ∧ x ≤ hi) := fun q => Int32.lt_irrefl (Int32.lt_of_lt_of_le h1 q.1)
    simp [h1, bI_f h2]
  · have h1' : lo ≤ x := Int32.not_lt.mp h1
    by_cases h2 : hi < x
    · have h3 : ¬ (lo ≤ x ∧ x ≤ hi) := fun q => Int32.lt_irrefl (Int32.lt_of_lt_of_le h2 q.2)
      simp [h1, h2, bI_f h3]
    · have h3 : lo ≤ x ∧ x ≤ hi := ⟨h1', Int32.not_lt.mp h2⟩
      simp [h1, h2, bI_t h3]
theorem zr {ρ : Type} {q : Prop} [Decidable q] {z : Option ρ} : (if bI q = 0 ∨ bI q = 1 then z else none) = z := if_pos bI_01
theorem e_isGlass8 (N : Nat) (S : pH) (x : Int32) : fX8_isGlass N S x = some (bI (1 ≤ x ∧ x ≤ 8)) := by
  unfold fX8_isGlass
  simp only [e_isWithin, Option.bind_some, zr]
theorem e_isGlass9 (N : Nat) (S : pH) (x : Int32) : fX9_isGlass N S x = some (bI (1 ≤ x ∧ x ≤ 8)) := by
  unfold fX9_isGlass
  simp only [e_in, Option.bind_some, zr]
theorem nI1 : (1 : Int32) = nI 1 := rfl
/-- a row of cells from i on gets a value -/
def uR (F : mI) (k i m : Nat) (v : Int32) : mI := fun a j => if a = k ∧ i ≤ j ∧ j < m then v else F a j
theorem uR_0 (F : mI) (k m : Nat) (v : Int32) : uR F k m m v = F := by
  funext a j
  simp only [uR]
  rw [if_neg (by omega)]
theorem uR_s (F : mI) (k i m : Nat) (v : Int32) (h : i < m) : uR (u2 F k i v) k (i + 1) m v = uR F k i m v := by
  funext a j
  simp only [uR, u2]
  by_cases h1 : a = k ∧ i + 1 ≤ j ∧ j < m
  · rw [if_pos h1, if_pos (by omega)]
  · rw [if_neg h1]
    by_cases h2 : a = k ∧ j = i
    · rw [if_pos h2, if_pos (by omega)]
    · rw [if_neg h2, if_neg (by omega)]
theorem e_fillL {b : Nat} {G : mJ} {H : mR} {c k len : Nat} {v : Int32} (N : Nat) (hc : k < c) (hk : kd k = (0, len)) : ∀ (m i : Nat) (F : mI), i ≤ len → len - i < m → lJ7_fill_53178_5 N (some (b + k)) v (nI len) m (nI i) (mk b F G H c) = some (mk b (uR F k i len v) G H c) := by
  have hl : len < 2 ^ 31 := by have := kd_len k; rw [hk] at this; exact this
  intro m
  induction m with
  | zero => intro i F h1 h2; omega
  | succ m ih =>
    intro i F h1 h2
    rw [lJ7_fill_53178_5]
    by_cases h : len ≤ i
    · have e : i = len := by omega
      subst e
      rw [if_pos (nI_le (Nat.le_refl _) hl), uR_0]
    · rw [if_neg (nI_ge (by omega) hl), m_stI hc hk (by omega)]
      simp only [Option.bind_some, nm]
      rw [show nI i + (1 : Int32) = nI (i + 1) from nI_1 i, ih (i + 1) _ (by omega) (by omega), uR_s _ _ _ _ _ (by omega)]
theorem e_fill {b : Nat} {F : mI} {G : mJ} {H : mR} {c k len : Nat} {v : Int32} {N : Nat} (hN : 2000 ≤ N) (hc : k < c) (hk : kd k = (0, len)) (hl : len < 2000) : fJ7_fill_53178 N (mk b F G H c) (some (b + k)) v = some (mk b (uR F k 0 len v) G H c) := by
  unfold fJ7_fill_53178
  rw [m_lnI hc hk, Option.bind_some]
  have h := e_fillL (b := b) (G := G) (H := H) (v := v) N hc hk N 0 F (by omega) (by omega)
  rw [show nI 0 = (0 : Int32) from rfl] at h
  rw [h]
  rfl
theorem z01 : ¬ (0 : Int32) = 1 := by decide
theorem z10 : ¬ (1 : Int32) = 0 := by decide
theorem c00 : ((0 : Int32) ≤ 0 ∧ (0 : Int32) ≤ 1) = True := by decide
theorem c11 : ((0 : Int32) ≤ 1 ∧ (1 : Int32) ≤ 1) = True := by decide
theorem e_fillM {b : Nat} {F : mI} {G : mJ} {n k len : Nat} {sw : Bool} {v : Int32} {N : Nat} (hN : 2000 ≤ N) (hc : k < 56) (hk : kd k = (0, len)) (hl : len < 2000) : fJ7_fill_53178 N (M b F G n sw) (some (b + k)) v = some (M b (uR F k 0 len v) G n sw) := e_fill hN (by omega) hk hl
