/-! ===== 390: plan ===== -/
def bcI (x0 : Int32) : Int32 :=
  nm (x0 - (((x0.toUInt32 >>> ((1 : Int32).toUInt32 &&& Int32.toUInt32 31)).toInt32) &&& (1431655765 : Int32))) fun x21 =>
  nm ((x21 &&& (858993459 : Int32)) + (((x21.toUInt32 >>> ((2 : Int32).toUInt32 &&& Int32.toUInt32 31)).toInt32) &&& (858993459 : Int32))) fun x22 =>
  nm ((x22 + ((x22.toUInt32 >>> ((4 : Int32).toUInt32 &&& Int32.toUInt32 31)).toInt32)) &&& (252645135 : Int32)) fun x23 =>
  nm (x23 + ((x23.toUInt32 >>> ((8 : Int32).toUInt32 &&& Int32.toUInt32 31)).toInt32)) fun x24 =>
  nm (x24 + ((x24.toUInt32 >>> ((16 : Int32).toUInt32 &&& Int32.toUInt32 31)).toInt32)) fun x25 =>
  x25 &&& (63 : Int32)
theorem e_bc0 (N : Nat) (S : pH) (x : Int32) : fJ6_bitCount_0f7a4 N S x = some (bcI x) := rfl
theorem bc_pc {x : Nat} (h : x < 512) : bcI (nI x) = nI (pcN x) := by
  have q : ∀ k : Fin 512, bcI (nI k.1) = nI (pcN k.1) := by decide +kernel
  exact q ⟨x, h⟩
theorem e_bc {x : Nat} (h : x < 512) (N : Nat) (S : pH) : fJ6_bitCount_0f7a4 N S (nI x) = some (nI (pcN x)) := by rw [e_bc0, bc_pc h]
def plB (K s mm : Nat) : Bool := decide (¬ (nI s &&& nI (2 ^ K)) = 0 ∧ ¬ (nI s &&& 1) = 0 ∧ ¬ nI mm < bcI (nI s) - 1)
def belN (K s : Nat) : Int32 := srI (fun k => bI (s.testBit k = true ∧ 2 ^ k < 2 ^ K)) 0 4
theorem pl_bel : ∀ K : Fin 4, ∀ s : Fin 16, s.1 < 2 ^ (K.1 + 1) → ∀ mm : Fin 4, plB K.1 s.1 mm.1 = decide ((nI s.1 &&& 1) = 1 ∧ ¬ (nI s.1 &&& nI (2 ^ K.1)) = 0 ∧ ¬ nI mm.1 < belN K.1 s.1) := by decide +kernel
theorem pl_top : ∀ K : Fin 4, ∀ mm : Fin 4, 1 ≤ mm.1 → plB K.1 (2 ^ K.1 ||| 1) mm.1 = true := by decide +kernel
theorem tb_sh : ∀ s : Fin 16, ∀ k : Fin 4, (((nI s.1 >>> (nI k.1 &&& 31)) &&& (1 : Int32)) = 1) ↔ s.1.testBit k.1 = true := by decide +kernel
theorem tb_an : ∀ s : Fin 16, ∀ k : Fin 4, ((nI s.1 &&& nI (2 ^ k.1)) = 0) ↔ ¬ s.1.testBit k.1 = true := by decide +kernel
theorem lpS2 {ρ : Type} (L : Nat → Int32 → Int32 → Option ρ) (f : Nat → Int32) (c : Nat → Int32) (p : Nat) (R : Int32 → ρ) (hs : ∀ m i a, i < p → L (m + 1) a (c i) = L m (a + f i) (c (i + 1))) (he : ∀ m a, L (m + 1) a (c p) = some (R a)) : ∀ (N i : Nat) (a : Int32), i ≤ p → p - i < N → L N a (c i) = some (R (a + srI f i (p - i))) := by
  intro N
  induction N with
  | zero => intro i a h1 h2; omega
  | succ m ih =>
    intro i a h1 h2
    by_cases hi : i < p
    · rw [hs m i a hi, ih (i + 1) _ (by omega) (by omega), show p - i = (p - (i + 1)) + 1 by omega]
      simp only [srI, Int32.add_assoc]
    · have e : i = p := by omega
      subst e
      rw [he, Nat.sub_self]
      simp [srI]
def Bd (U : Nat → Int32) (K s : Nat) : Int32 := srI (fun k => if s.testBit k = true then U k else 0) 1 K
section PL
variable {b : Nat} {F : mI} {G : mJ} {n : Nat} {sw : Bool} {N : Nat}
def UU (f : Nat → Int32) (K k : Nat) : Int32 := unlN f (2 ^ K / 2 ^ k) (2 ^ k)
theorem p2le {k K : Nat} (h : k ≤ K) : 2 ^ k ≤ 2 ^ K := Nat.pow_le_pow_right (by omega) h
theorem p2_8 {K : Nat} (h : K ≤ 3) : 2 ^ K ≤ 8 := p2le (K := 3) h
theorem e_bun8 {K s : Nat} (hK : K ≤ 3) (q1 : F 14 1 = nI (2 ^ K)) (hs : s < 16) (hN : 100 ≤ N) : fX8_bundlesOf N (M b F G n sw) (some b) (nI s) = some (Bd (UU (F 15) K) K s) := by
  have hw := P_wish (b := b) (G := G) (n := n) (sw := sw) q1 (p2_8 hK)
  have h8 := p2_8 hK
  have e := lpS2 (fun m a c => lX8_bundlesOf_4 N (M b F G n sw) (some b) (nI s) m a c) (fun k => if s.testBit k = true then UU (F 15) K k else 0) (fun k => nI (2 ^ k)) (K + 1) id ?_ ?_ N 1 0 (by omega) (by omega)
  · rw [Int32.zero_add, show nI (2 ^ 1) = (2 : Int32) from rfl, show K + 1 - 1 = K by omega] at e
    unfold fX8_bundlesOf
    rw [K_0, e]
    rfl
  · intro m i a hi
    have h1 : 2 ^ i ≤ 2 ^ K := p2le (by omega)
    rw [lX8_bundlesOf_4]
    simp only [Option.bind_some, bI_0, Decidable.not_not, nm, b2, zr, e_isWithin, e_in, e_isGlass8, e_isGlass9, reduceIte, not_false_eq_true, not_true_eq_false, if_true, if_false, and_self, z01, z10, c00, c11, true_and, and_true, R_0_0, R_0_1, R_0_3, R_0_4, R_0_5, R_0_6, R_0_7, R_0_8, R_0_9, R_1_0, R_1_1, R_1_2, R_1_3, R_7_0, R_7_1, R_10_0, R_10_1, R_10_2, R_14_0, R_16_0, R_18_0, R_18_1, R_18_2, R_18_4, R_18_5, R_18_6, R_18_8, R_18_9, R_27_0, R_27_1, R_27_2, R_32_0, R_32_1, R_32_3, R_32_4, R_32_5, R_32_6, R_32_7, R_32_11, R_32_12, R_32_13, R_32_14, R_32_17, R_32_20, R_32_21, R_32_22, R_32_24, R_32_25, R_32_26, R_32_27, R_32_28, R_32_29, R_32_30, R_32_31, I_0_2, I_1_4, I_7_2, I_14_1, I_16_1, I_18_3, I_18_7, I_27_3, I_27_4, I_31_0, I_31_1, I_31_2, I_31_3, I_31_4, I_31_5, I_31_6, I_32_2, I_32_8, I_32_9, I_32_10, I_32_15, I_32_16, I_32_18, I_32_19, J_0_10, J_32_23, P_0_2, P_0_10, P_1_4, P_7_2, P_14_1, P_16_1, P_18_3, P_18_7, P_27_3, P_27_4, P_31_0, P_31_1, P_31_2, P_31_3, P_31_4, P_31_5, P_31_6, P_32_2, P_32_8, P_32_9, P_32_10, P_32_15, P_32_16, P_32_18, P_32_19, P_32_23, K_0, K_1, K_7, K_10, K_14, K_16, K_18, K_27, K_31, K_32, q1]
    rw [if_neg (nI_nlt h1 (by omega)), show nI (2 ^ i) * 2 = nI (2 ^ (i + 1)) from (pk_mul (2 ^ i) 2), e_unl8 hw (Nat.pow_pos (by omega)) h1 hN]
    have t := tb_an ⟨s, hs⟩ ⟨i, by omega⟩
    dsimp only at t
    by_cases c : s.testBit i = true
    · rw [if_neg (fun z => t.mp z c), if_pos c]
      rfl
    · rw [if_pos (t.mpr c), if_neg c, Int32.add_zero]
  · intro m a
    rw [lX8_bundlesOf_4]
    simp only [Option.bind_some, bI_0, Decidable.not_not, nm, b2, zr, e_isWithin, e_in, e_isGlass8, e_isGlass9, reduceIte, not_false_eq_true, not_true_eq_false, if_true, if_false, and_self, z01, z10, c00, c11, true_and, and_true, R_0_0, R_0_1, R_0_3, R_0_4, R_0_5, R_0_6, R_0_7, R_0_8, R_0_9, R_1_0, R_1_1, R_1_2, R_1_3, R_7_0, R_7_1, R_10_0, R_10_1, R_10_2, R_14_0, R_16_0, R_18_0, R_18_1, R_18_2, R_18_4, R_18_5, R_18_6, R_18_8, R_18_9, R_27_0, R_27_1, R_27_2, R_32_0, R_32_1, R_32_3, R_32_4, R_32_5, R_32_6, R_32_7, R_32_11, R_32_12, R_32_13, R_32_14, R_32_17, R_32_20, R_32_21, R_32_22, R_32_24, R_32_25, R_32_26, R_32_27, R_32_28, R_32_29, R_32_30, R_32_31, I_0_2, I_1_4, I_7_2, I_14_1, I_16_1, I_18_3, I_18_7, I_27_3, I_27_4, I_31_0, I_31_1, I_31_2, I_31_3, I_31_4, I_31_5, I_31_6, I_32_2, I_32_8, I_32_9, I_32_10, I_32_15, I_32_16, I_32_18, I_32_19, J_0_10, J_32_23, P_0_2, P_0_10, P_1_4, P_7_2, P_14_1, P_16_1, P_18_3, P_18_7, P_27_3, P_27_4, P_31_0, P_31_1, P_31_2, P_31_3, P_31_4, P_31_5, P_31_6, P_32_2, P_32_8, P_32_9, P_32_10, P_32_15, P_32_16, P_32_18, P_32_19, P_32_23, K_0, K_1, K_7, K_10, K_14, K_16, K_18, K_27, K_31, K_32, q1]
    rw [if_pos (nI_lt (Nat.pow_lt_pow_right (by omega) (by omega)) (by rw [Nat.pow_succ]; omega))]
    rfl
theorem e_isPlan {K s mm : Nat} (q1 : F 14 1 = nI (2 ^ K)) : fX8_isPlan N (M b F G n sw) (some b) (nI s) (nI mm) = some (bI (plB K s mm = true)) := by
  unfold fX8_isPlan
  simp only [Option.bind_some, bI_0, Decidable.not_not, nm, b2, zr, e_isWithin, e_in, e_isGlass8, e_isGlass9, reduceIte, not_false_eq_true, not_true_eq_false, if_true, if_false, and_self, z01, z10, c00, c11, true_and, and_true, R_0_0, R_0_1, R_0_3, R_0_4, R_0_5, R_0_6, R_0_7, R_0_8, R_0_9, R_1_0, R_1_1, R_1_2, R_1_3, R_7_0, R_7_1, R_10_0, R_10_1, R_10_2, R_14_0, R_16_0, R_18_0, R_18_1, R_18_2, R_18_4, R_18_5, R_18_6, R_18_8, R_18_9, R_27_0, R_27_1, R_27_2, R_32_0, R_32_1, R_32_3, R_32_4, R_32_5, R_32_6, R_32_7, R_32_11, R_32_12, R_32_13, R_32_14, R_32_17, R_32_20, R_32_21, R_32_22, R_32_24, R_32_25, R_32_26, R_32_27, R_32_28, R_32_29, R_32_30, R_32_31, I_0_2, I_1_4, I_7_2, I_14_1, I_16_1, I_18_3, I_18_7, I_27_3, I_27_4, I_31_0, I_31_1, I_31_2, I_31_3, I_31_4, I_31_5, I_31_6, I_32_2, I_32_8, I_32_9, I_32_10, I_32_15, I_32_16, I_32_18, I_32_19, J_0_10, J_32_23, P_0_2, P_0_10, P_1_4, P_7_2, P_14_1, P_16_1, P_18_3, P_18_7, P_27_3, P_27_4, P_31_0, P_31_1, P_31_2, P_31_3, P_31_4, P_31_5, P_31_6, P_32_2, P_32_8, P_32_9, P_32_10, P_32_15, P_32_16, P_32_18, P_32_19, P_32_23, K_0, K_1, K_7, K_10, K_14, K_16, K_18, K_27, K_31, K_32, q1, e_bc0]
  by_cases c1 : (nI s &&& nI (2 ^ K)) = 0
  · rw [if_pos c1, bI_f (fun z => (of_decide_eq_true z).1 c1)]
  · rw [if_neg c1]
    by_cases c2 : (nI s &&& 1) = 0
    · rw [if_pos c2, bI_f (fun z => (of_decide_eq_true z).2.1 c2)]
    · rw [if_neg c2]
      by_cases c3 : nI mm < bcI (nI s) - 1
      · rw [if_pos c3, bI_f (fun z => (of_decide_eq_true z).2.2 c3)]
      · rw [if_neg c3, bI_t (q := plB K s mm = true) (decide_eq_true ⟨c1, c2, c3⟩)]
theorem e_pl51 {K s : Nat} (hK : K ≤ 3) (q2 : F 32 8 = nI (2 ^ K)) (hf : ∀ x y, x < 2 ^ K → y < 2 ^ K → F 39 (1024 + 8 * y + x) = F 15 (8 * y + x)) (hs : s < 2 ^ (K + 1)) (hN : 100 ≤ N) (x1 x2 x3 x4 : Int32) : lX9_plan_51 N (M b F G n sw) (some (b + 32)) x1 x2 x3 x4 (nI s) N 0 0 0 = some (belN K s, Bd (UU (F 15) K) K s) := by
  have h8 := p2_8 hK
  have hs16 : s < 16 := Nat.lt_of_lt_of_le hs (p2le (K := 4) (by omega))
  have key : ∀ (m k : Nat) (a c : Int32), k ≤ 4 → 4 - k < m → lX9_plan_51 N (M b F G n sw) (some (b + 32)) x1 x2 x3 x4 (nI s) m a c (nI k) = some (a + srI (fun k => bI (s.testBit k = true ∧ 2 ^ k < 2 ^ K)) k (4 - k), c + srI (fun k => if s.testBit k = true ∧ 0 < k then UU (F 15) K k else 0) k (4 - k)) := by
    intro m
    induction m with
    | zero => intro k a c h1 h2; omega
    | succ m ih =>
      intro k a c h1 h2
      rw [lX9_plan_51]
      by_cases hk : k < 4
      · have t := tb_sh ⟨s, hs16⟩ ⟨k, hk⟩
        dsimp only at t
        rw [if_neg (show ¬ (4 : Int32) ≤ nI k from nI_ge (b := 4) hk (by decide)), show 4 - k = (4 - (k + 1)) + 1 by omega, nI_bit (show k < 31 by omega)]
        simp only [nm, R_0_0, R_0_1, R_0_3, R_0_4, R_0_5, R_0_6, R_0_7, R_0_8, R_0_9, R_1_0, R_1_1, R_1_2, R_1_3, R_7_0, R_7_1, R_10_0, R_10_1, R_10_2, R_14_0, R_16_0, R_18_0, R_18_1, R_18_2, R_18_4, R_18_5, R_18_6, R_18_8, R_18_9, R_27_0, R_27_1, R_27_2, R_32_0, R_32_1, R_32_3, R_32_4, R_32_5, R_32_6, R_32_7, R_32_11, R_32_12, R_32_13, R_32_14, R_32_17, R_32_20, R_32_21, R_32_22, R_32_24, R_32_25, R_32_26, R_32_27, R_32_28, R_32_29, R_32_30, R_32_31, I_0_2, I_1_4, I_7_2, I_14_1, I_16_1, I_18_3, I_18_7, I_27_3, I_27_4, I_31_0, I_31_1, I_31_2, I_31_3, I_31_4, I_31_5, I_31_6, I_32_2, I_32_8, I_32_9, I_32_10, I_32_15, I_32_16, I_32_18, I_32_19, J_0_10, J_32_23, P_0_2, P_0_10, P_1_4, P_7_2, P_14_1, P_16_1, P_18_3, P_18_7, P_27_3, P_27_4, P_31_0, P_31_1, P_31_2, P_31_3, P_31_4, P_31_5, P_31_6, P_32_2, P_32_8, P_32_9, P_32_10, P_32_15, P_32_16, P_32_18, P_32_19, P_32_23, K_0, K_1, K_7, K_10, K_14, K_16, K_18, K_27, K_31, K_32, Option.bind_some, q2, nI_1]
        by_cases c1 : s.testBit k = true
        · have hkK : k ≤ K := by
            apply Nat.le_of_not_lt
            intro z
            rw [Nat.testBit_lt_two_pow (Nat.lt_of_lt_of_le hs (p2le (by omega)))] at c1
            cases c1
          rw [if_neg (fun z => z (t.mpr c1)), if_neg (by decide)]
          have hb : bI (s.testBit k = true ∧ 2 ^ k < 2 ^ K) = bI (2 ^ k < 2 ^ K) := bI_c ⟨fun z => z.2, fun z => ⟨c1, z⟩⟩
          have hlt : 2 ^ k < 2 ^ 31 := Nat.pow_lt_pow_right (by omega) (by omega)
          by_cases c0 : k = 0
          · subst c0
            by_cases c2 : 2 ^ 0 < 2 ^ K
            · rw [if_neg (nI_ge c2 (by omega)), if_neg (by decide), if_pos (by decide), ih 1 _ _ (by omega) (by omega)]
              simp only [srI, hb, bI_t c2, Int32.add_assoc]
              simp
            · rw [if_pos (nI_le (by omega) (by omega)), if_neg (by decide), if_pos (by decide), ih 1 _ _ (by omega) (by omega)]
              simp only [srI, hb, bI_f c2, Int32.add_assoc]
              simp
          · have eu := e_unl9 (N := N) (b := b) (G := G) (n := n) (sw := sw) (p := 2 ^ k) h8 q2 hf (Nat.pow_pos (by omega)) (p2le hkK) hN
            by_cases c2 : 2 ^ k < 2 ^ K
            · rw [if_neg (nI_ge c2 (by omega)), if_neg (by decide), if_neg (nI_nle (by omega) (by omega)), eu]
              simp only [Option.bind_some]
              rw [ih (k + 1) _ _ (by omega) (by omega)]
              simp only [srI, hb, bI_t c2, if_pos (show s.testBit k = true ∧ 0 < k from ⟨c1, by omega⟩), Int32.add_assoc]
              rfl
            · rw [if_pos (nI_le (by omega) (by omega)), if_neg (by decide), if_neg (nI_nle (by omega) (by omega)), eu]
              simp only [Option.bind_some]
              rw [ih (k + 1) _ _ (by omega) (by omega)]
              simp only [srI, hb, bI_f c2, if_pos (show s.testBit k = true ∧ 0 < k from ⟨c1, by omega⟩), Int32.add_assoc]
              rfl
        · rw [if_pos (fun z => c1 (t.mp z)), if_pos trivial, if_pos trivial, ih (k + 1) _ _ (by omega) (by omega)]
          simp only [srI, bI_f (fun z : s.testBit k = true ∧ 2 ^ k < 2 ^ K => c1 z.1), if_neg (fun z : s.testBit k = true ∧ 0 < k => c1 z.1), Int32.add_assoc]
      · have e : k = 4 := by omega
        subst e
        rw [if_pos (by decide)]
        simp [srI]
  have k := key N 0 0 0 (by omega) (by omega)
  rw [show nI 0 = (0 : Int32) from rfl, Int32.zero_add, Int32.zero_add] at k
  rw [k]
  refine congrArg some (Prod.ext rfl ?_)
  show srI (fun k => if s.testBit k = true ∧ 0 < k then UU (F 15) K k else 0) 0 4 = Bd (UU (F 15) K) K s
  have z : ∀ k, K < k → s.testBit k = false := fun k hk => Nat.testBit_lt_two_pow (Nat.lt_of_lt_of_le hs (p2le (by omega)))
  unfold Bd
  rcases (show K = 0 ∨ K = 1 ∨ K = 2 ∨ K = 3 by omega) with rfl | rfl | rfl | rfl
  · simp [srI, z 1 (by omega), z 2 (by omega), z 3 (by omega)]
  · simp [srI, z 2 (by omega), z 3 (by omega)]
  · simp [srI, z 3 (by omega)]
  · simp [srI]
end PL
/-- the best of a set: least by B, then greatest -/
def optP (B : Nat → Int32) (T : Nat → Prop) (s : Nat) : Prop := T s ∧ ∀ x, T x → B s < B x ∨ (B s = B x ∧ x ≤ s)
theorem optP_u {B : Nat → Int32} {T : Nat → Prop} {s s' : Nat} (h : optP B T s) (h' : optP B T s') : s = s' := by
  have h1 := h.2 s' h'.1
  have h2 := h'.2 s h.1
  simp only [Int32.lt_iff_toInt_lt, ← Int32.toInt_inj] at h1 h2
  omega
theorem optP_e {B : Nat → Int32} {T T' : Nat → Prop} {s : Nat} (h : optP B T s) (e : ∀ x, T x ↔ T' x) : optP B T' s := ⟨(e s).mp h.1, fun x hx => h.2 x ((e x).mpr hx)⟩
/-- one more, below all of them -/
theorem optP_t {B : Nat → Int32} {T : Nat → Prop} {s x : Nat} (h : optP B T s) (hx : B x < B s ∨ (B x = B s ∧ s < x)) : optP B (fun z => T z ∨ z = x) x := by
  refine ⟨Or.inr rfl, fun z hz => ?_⟩
  rcases hz with hz | rfl
  · have h1 := h.2 z hz
    simp only [Int32.lt_iff_toInt_lt, ← Int32.toInt_inj] at *
    omega
  · exact Or.inr ⟨rfl, Nat.le_refl _⟩
theorem optP_k {B : Nat → Int32} {T : Nat → Prop} {s x : Nat} (h : optP B T s) (hx : ¬ (B x < B s ∨ (B x = B s ∧ s < x))) : optP B (fun z => T z ∨ z = x) s := by
  refine ⟨Or.inl h.1, fun z hz => ?_⟩
  rcases hz with hz | rfl
  · exact h.2 z hz
  · simp only [Int32.lt_iff_toInt_lt, ← Int32.toInt_inj] at *
    omega
theorem st_plan (b : Nat) : St_plan b (b + 32) (Inv b (b + 32)) := by
  rintro S ⟨-, F, G, n, sw, rfl, hR⟩ a1 a2
  obtain ⟨r1, r2, r3, r4, r5, r6, r7, r8, ⟨q, q0, q1, q2, q3⟩, r10, r11, r12, r13⟩ := id hR
  obtain ⟨K, hK, rfl⟩ : ∃ K, K ≤ 3 ∧ q = 2 ^ K := by
    rcases q0 with rfl | rfl | rfl | rfl
    · exact ⟨0, by omega, rfl⟩
    · exact ⟨1, by omega, rfl⟩
    · exact ⟨2, by omega, rfl⟩
    · exact ⟨3, by omega, rfl⟩
  have h8 := p2_8 hK
  have w3 : ∀ x y, x < 2 ^ K → y < 2 ^ K → F 39 (1024 + 8 * y + x) = F 15 (8 * y + x) := fun x y hx hy => (q3 x y hx hy).1.symm
  by_cases g1 : (1 : Int32) ≤ a1 ∧ a1 ≤ 3
  · by_cases g2 : (0 : Int32) ≤ a2 ∧ a2 ≤ 1
    · obtain ⟨mm, m1, m3, rfl⟩ := rng 1 3 rfl rfl (by decide) (by decide) g1
      have h16 : 2 ^ (K + 1) ≤ 16 := p2le (K := 4) (by omega)
      have top16 : 2 ^ K ||| 1 < 2 ^ (K + 1) := Nat.or_lt_two_pow (Nat.pow_lt_pow_right (by omega) (by omega)) (by rw [Nat.pow_succ]; have : 0 < 2 ^ K := Nat.pow_pos (by omega); omega)
      have ptop : plB K (2 ^ K ||| 1) mm = true := pl_top ⟨K, by omega⟩ ⟨mm, by omega⟩ m1
      have pos : 0 < 2 ^ K ||| 1 := by
        rcases (show K = 0 ∨ K = 1 ∨ K = 2 ∨ K = 3 by omega) with rfl | rfl | rfl | rfl <;> decide
      have c8 : ∀ (m s best : Nat), s < 2 ^ (K + 1) → s < m → best < 2 ^ (K + 1) → optP (Bd (UU (F 15) K) K) (fun x => x = (2 ^ K ||| 1) ∨ (s < x ∧ x < 2 ^ (K + 1) ∧ plB K x mm = true)) best → ∃ r, lX8_plan_50 NF (M b F G n sw) (some b) (nI mm) a2 m (nI best) (Bd (UU (F 15) K) K best) (nI s) = some (nI r, Bd (UU (F 15) K) K r) ∧ optP (Bd (UU (F 15) K) K) (fun x => 0 < x ∧ x < 2 ^ (K + 1) ∧ plB K x mm = true) r := by
        intro m
        induction m with
        | zero => intro s best h1 h2; omega
        | succ m ih =>
          intro s best h1 h2 h3 h4
          rw [lX8_plan_50]
          cases s with
          | zero =>
            rw [if_pos (by decide)]
            refine ⟨best, rfl, optP_e h4 (fun x => ⟨?_, fun z => Or.inr z⟩)⟩
            rintro (rfl | z)
            · exact ⟨pos, top16, ptop⟩
            · exact z
          | succ s =>
            rw [if_neg (show ¬ nI (s + 1) < (1 : Int32) from nI_nlt (b := 1) (by omega) (by omega)), e_isPlan q1]
            simp only [Option.bind_some, nm, bI_0, pk_m1]
            by_cases c : plB K (s + 1) mm = true
            · rw [if_neg (fun z => z c), e_bun8 (N := NF) hK q1 (show s + 1 < 16 by omega) (by decide)]
              simp only [Option.bind_some]
              have hle : (nI (s + 1) ≤ nI best) ↔ s + 1 ≤ best := nI_leI (by omega) (by omega)
              have te : ∀ x, ((x = (2 ^ K ||| 1) ∨ (s + 1 < x ∧ x < 2 ^ (K + 1) ∧ plB K x mm = true)) ∨ x = s + 1) ↔ (x = (2 ^ K ||| 1) ∨ (s < x ∧ x < 2 ^ (K + 1) ∧ plB K x mm = true)) := by
                intro x
                constructor
                · rintro ((z | z) | rfl)
                  · exact Or.inl z
                  · exact Or.inr ⟨by omega, z.2⟩
                  · exact Or.inr ⟨by omega, h1, c⟩
                · rintro (z | z)
                  · exact Or.inl (Or.inl z)
                  · by_cases e : x = s + 1
                    · exact Or.inr e
                    · exact Or.inl (Or.inr ⟨by omega, z.2⟩)
              by_cases d1 : Bd (UU (F 15) K) K (s + 1) < Bd (UU (F 15) K) K best
              · rw [if_pos d1]
                exact ih s (s + 1) (by omega) (by omega) h1 (optP_e (optP_t h4 (Or.inl d1)) te)
              · rw [if_neg d1]
                by_cases d2 : Bd (UU (F 15) K) K (s + 1) = Bd (UU (F 15) K) K best
                · rw [if_neg (fun z => z d2)]
                  by_cases d3 : s + 1 ≤ best
                  · rw [if_pos (hle.mpr d3)]
                    exact ih s best (by omega) (by omega) h3 (optP_e (optP_k h4 (fun z => z.elim d1 (fun y => by omega))) te)
                  · rw [if_neg (fun z => d3 (hle.mp z))]
                    exact ih s (s + 1) (by omega) (by omega) h1 (optP_e (optP_t h4 (Or.inr ⟨d2, by omega⟩)) te)
                · rw [if_pos d2]
                  exact ih s best (by omega) (by omega) h3 (optP_e (optP_k h4 (fun z => z.elim d1 (fun y => d2 y.1))) te)
            · rw [if_pos c]
              refine ih s best (by omega) (by omega) h3 (optP_e h4 (fun x => ⟨?_, ?_⟩))
              · rintro (z | z)
                · exact Or.inl z
                · exact Or.inr ⟨by omega, z.2⟩
              · rintro (z | z)
                · exact Or.inl z
                · refine Or.inr ⟨?_, z.2⟩
                  by_cases e : x = s + 1
                  · subst e; exact absurd z.2.2 c
                  · omega
      have c9 : ∀ (m s : Nat) (best least : Int32), s < 2 ^ (K + 1) → s < m → ((best = -9 ∧ ∀ x, s < x → x < 2 ^ (K + 1) → ¬ plB K x mm = true) ∨ ∃ r, r < 2 ^ (K + 1) ∧ best = nI r ∧ least = Bd (UU (F 15) K) K r ∧ optP (Bd (UU (F 15) K) K) (fun x => s < x ∧ x < 2 ^ (K + 1) ∧ plB K x mm = true) r) → ∃ r, lX9_plan_37 NF (M b F G n sw) (some (b + 32)) (nI mm) a2 m best least (nI s) = some (nI r, Bd (UU (F 15) K) K r) ∧ optP (Bd (UU (F 15) K) K) (fun x => 0 < x ∧ x < 2 ^ (K + 1) ∧ plB K x mm = true) r := by
        intro m
        induction m with
        | zero => intro s best least h1 h2; omega
        | succ m ih =>
          intro s best least h1 h2 h4
          rw [lX9_plan_37]
          cases s with
          | zero =>
            rw [if_pos (by decide)]
            rcases h4 with ⟨-, z⟩ | ⟨r, hr, e1, e2, e3⟩
            · exact absurd ptop (z _ pos top16)
            · exact ⟨r, by rw [e1, e2], e3⟩
          | succ s =>
            rw [if_neg (nI_nle (by omega) (by omega)), e_pl51 (N := NF) hK q2 w3 h1 (by decide)]
            simp only [b2, Option.bind_some, nm, R_0_0, R_0_1, R_0_3, R_0_4, R_0_5, R_0_6, R_0_7, R_0_8, R_0_9, R_1_0, R_1_1, R_1_2, R_1_3, R_7_0, R_7_1, R_10_0, R_10_1, R_10_2, R_14_0, R_16_0, R_18_0, R_18_1, R_18_2, R_18_4, R_18_5, R_18_6, R_18_8, R_18_9, R_27_0, R_27_1, R_27_2, R_32_0, R_32_1, R_32_3, R_32_4, R_32_5, R_32_6, R_32_7, R_32_11, R_32_12, R_32_13, R_32_14, R_32_17, R_32_20, R_32_21, R_32_22, R_32_24, R_32_25, R_32_26, R_32_27, R_32_28, R_32_29, R_32_30, R_32_31, I_0_2, I_1_4, I_7_2, I_14_1, I_16_1, I_18_3, I_18_7, I_27_3, I_27_4, I_31_0, I_31_1, I_31_2, I_31_3, I_31_4, I_31_5, I_31_6, I_32_2, I_32_8, I_32_9, I_32_10, I_32_15, I_32_16, I_32_18, I_32_19, J_0_10, J_32_23, P_0_2, P_0_10, P_1_4, P_7_2, P_14_1, P_16_1, P_18_3, P_18_7, P_27_3, P_27_4, P_31_0, P_31_1, P_31_2, P_31_3, P_31_4, P_31_5, P_31_6, P_32_2, P_32_8, P_32_9, P_32_10, P_32_15, P_32_16, P_32_18, P_32_19, P_32_23, K_0, K_1, K_7, K_10, K_14, K_16, K_18, K_27, K_31, K_32, q2, pk_m1]
            have pb := pl_bel ⟨K, by omega⟩ ⟨s + 1, by omega⟩ h1 ⟨mm, by omega⟩
            dsimp only at pb
            have no : ¬ plB K (s + 1) mm = true → ∃ r, lX9_plan_37 NF (M b F G n sw) (some (b + 32)) (nI mm) a2 m best least (nI s) = some (nI r, Bd (UU (F 15) K) K r) ∧ optP (Bd (UU (F 15) K) K) (fun x => 0 < x ∧ x < 2 ^ (K + 1) ∧ plB K x mm = true) r := by
              intro c
              refine ih s best least (by omega) (by omega) ?_
              rcases h4 with ⟨z, z2⟩ | ⟨r, hr, e1, e2, e3⟩
              · refine Or.inl ⟨z, fun x hx hx2 => ?_⟩
                by_cases e : x = s + 1
                · subst e; exact c
                · exact z2 x (by omega) hx2
              · refine Or.inr ⟨r, hr, e1, e2, optP_e e3 (fun x => ⟨fun z => ⟨by omega, z.2⟩, fun z => ⟨?_, z.2⟩⟩)⟩
                by_cases e : x = s + 1
                · subst e; exact absurd z.2.2 c
                · omega
            by_cases d1 : (nI (s + 1) &&& 1) = 1
            · rw [if_neg (fun z => z d1)]
              by_cases d2 : (nI (s + 1) &&& nI (2 ^ K)) = 0
              · rw [if_pos d2, if_pos trivial]
                exact no (by rw [pb]; intro z; exact (of_decide_eq_true z).2.1 d2)
              · rw [if_neg d2]
                by_cases d3 : nI mm < belN K (s + 1)
                · rw [if_pos d3, if_pos trivial]
                  exact no (by rw [pb]; intro z; exact (of_decide_eq_true z).2.2 d3)
                · rw [if_neg d3, if_neg (by decide)]
                  have c : plB K (s + 1) mm = true := by rw [pb]; exact decide_eq_true ⟨d1, d2, d3⟩
                  have te : ∀ x, ((s + 1 < x ∧ x < 2 ^ (K + 1) ∧ plB K x mm = true) ∨ x = s + 1) ↔ (s < x ∧ x < 2 ^ (K + 1) ∧ plB K x mm = true) := by
                    intro x
                    constructor
                    · rintro (z | rfl)
                      · exact ⟨by omega, z.2⟩
                      · exact ⟨by omega, h1, c⟩
                    · intro z
                      by_cases e : x = s + 1
                      · exact Or.inr e
                      · exact Or.inl ⟨by omega, z.2⟩
                  rcases h4 with ⟨z, z2⟩ | ⟨r, hr, e1, e2, e3⟩
                  · rw [if_pos z]
                    refine ih s _ _ (by omega) (by omega) (Or.inr ⟨s + 1, h1, rfl, rfl, ⟨by omega, h1, c⟩, fun x hx => ?_⟩)
                    by_cases e : x = s + 1
                    · subst e; exact Or.inr ⟨rfl, Nat.le_refl _⟩
                    · exact absurd hx.2.2 (z2 x (by omega) hx.2.1)
                  · subst e1
                    subst e2
                    rw [if_neg (m9ne r (by omega))]
                    have hr2 := e3.1.1
                    by_cases d4 : Bd (UU (F 15) K) K r ≤ Bd (UU (F 15) K) K (s + 1)
                    · rw [if_pos d4]
                      refine ih s _ _ (by omega) (by omega) (Or.inr ⟨r, hr, rfl, rfl, optP_e (optP_k e3 ?_) te⟩)
                      rintro (y | y)
                      · exact absurd y (Int32.not_lt.mpr d4)
                      · omega
                    · rw [if_neg d4]
                      exact ih s _ _ (by omega) (by omega) (Or.inr ⟨s + 1, h1, rfl, rfl, optP_e (optP_t e3 (Or.inl (Int32.not_le.mp d4))) te⟩)
            · rw [if_pos d1, if_pos trivial]
              exact no (by rw [pb]; intro z; exact d1 (of_decide_eq_true z).1)
      have hst : (2 : Int32) * nI (2 ^ K) - 1 = nI (2 ^ (K + 1) - 1) := by
        rw [show (2 : Int32) = nI 2 from rfl, pk_mul, show (1 : Int32) = nI 1 from rfl, pk_sub (by have : 0 < 2 ^ K := Nat.pow_pos (by omega); omega), Nat.pow_succ, Nat.mul_comm]
      obtain ⟨x, x1, x2⟩ := c8 NF (2 ^ (K + 1) - 1) (2 ^ K ||| 1) (by omega) (by show _ < 5000; omega) top16 ⟨Or.inl rfl, by
        rintro x (rfl | z)
        · exact Or.inr ⟨rfl, Nat.le_refl _⟩
        · omega⟩
      obtain ⟨y, y1, y2⟩ := c9 NF (2 ^ (K + 1) - 1) (-9) (-9) (by omega) (by show _ < 5000; omega) (Or.inl ⟨rfl, fun x h1 h2 => by omega⟩)
      have exy := optP_u x2 y2
      subst exy
      have hor : nI (2 ^ K) ||| 1 = nI (2 ^ K ||| 1) := nI_or (2 ^ K) 1
      refine ⟨if ¬ a2 = 0 then nI x else Bd (UU (F 15) K) K x, ?_, ?_⟩
      · unfold fX8_plan
        simp only [Option.bind_some, bI_0, Decidable.not_not, nm, b2, zr, e_isWithin, e_in, e_isGlass8, e_isGlass9, reduceIte, not_false_eq_true, not_true_eq_false, if_true, if_false, and_self, z01, z10, c00, c11, true_and, and_true, R_0_0, R_0_1, R_0_3, R_0_4, R_0_5, R_0_6, R_0_7, R_0_8, R_0_9, R_1_0, R_1_1, R_1_2, R_1_3, R_7_0, R_7_1, R_10_0, R_10_1, R_10_2, R_14_0, R_16_0, R_18_0, R_18_1, R_18_2, R_18_4, R_18_5, R_18_6, R_18_8, R_18_9, R_27_0, R_27_1, R_27_2, R_32_0, R_32_1, R_32_3, R_32_4, R_32_5, R_32_6, R_32_7, R_32_11, R_32_12, R_32_13, R_32_14, R_32_17, R_32_20, R_32_21, R_32_22, R_32_24, R_32_25, R_32_26, R_32_27, R_32_28, R_32_29, R_32_30, R_32_31, I_0_2, I_1_4, I_7_2, I_14_1, I_16_1, I_18_3, I_18_7, I_27_3, I_27_4, I_31_0, I_31_1, I_31_2, I_31_3, I_31_4, I_31_5, I_31_6, I_32_2, I_32_8, I_32_9, I_32_10, I_32_15, I_32_16, I_32_18, I_32_19, J_0_10, J_32_23, P_0_2, P_0_10, P_1_4, P_7_2, P_14_1, P_16_1, P_18_3, P_18_7, P_27_3, P_27_4, P_31_0, P_31_1, P_31_2, P_31_3, P_31_4, P_31_5, P_31_6, P_32_2, P_32_8, P_32_9, P_32_10, P_32_15, P_32_16, P_32_18, P_32_19, P_32_23, K_0, K_1, K_7, K_10, K_14, K_16, K_18, K_27, K_31, K_32, eq_true g1, eq_true g2, q1, hor, e_bun8 (N := NF) (b := b) (G := G) (n := n) (sw := sw) hK q1 (show (2 ^ K ||| 1) < 16 by omega) (by decide), hst, x1]
        by_cases z : a2 = 0
        · rw [if_neg (fun y => y z), if_neg (fun y => y z)]
        · rw [if_pos z, if_pos z]
      · unfold fX9_plan
        simp only [Option.bind_some, bI_0, Decidable.not_not, nm, b2, zr, e_isWithin, e_in, e_isGlass8, e_isGlass9, reduceIte, not_false_eq_true, not_true_eq_false, if_true, if_false, and_self, z01, z10, c00, c11, true_and, and_true, R_0_0, R_0_1, R_0_3, R_0_4, R_0_5, R_0_6, R_0_7, R_0_8, R_0_9, R_1_0, R_1_1, R_1_2, R_1_3, R_7_0, R_7_1, R_10_0, R_10_1, R_10_2, R_14_0, R_16_0, R_18_0, R_18_1, R_18_2, R_18_4, R_18_5, R_18_6, R_18_8, R_18_9, R_27_0, R_27_1, R_27_2, R_32_0, R_32_1, R_32_3, R_32_4, R_32_5, R_32_6, R_32_7, R_32_11, R_32_12, R_32_13, R_32_14, R_32_17, R_32_20, R_32_21, R_32_22, R_32_24, R_32_25, R_32_26, R_32_27, R_32_28, R_32_29, R_32_30, R_32_31, I_0_2, I_1_4, I_7_2, I_14_1, I_16_1, I_18_3, I_18_7, I_27_3, I_27_4, I_31_0, I_31_1, I_31_2, I_31_3, I_31_4, I_31_5, I_31_6, I_32_2, I_32_8, I_32_9, I_32_10, I_32_15, I_32_16, I_32_18, I_32_19, J_0_10, J_32_23, P_0_2, P_0_10, P_1_4, P_7_2, P_14_1, P_16_1, P_18_3, P_18_7, P_27_3, P_27_4, P_31_0, P_31_1, P_31_2, P_31_3, P_31_4, P_31_5, P_31_6, P_32_2, P_32_8, P_32_9, P_32_10, P_32_15, P_32_16, P_32_18, P_32_19, P_32_23, K_0, K_1, K_7, K_10, K_14, K_16, K_18, K_27, K_31, K_32, eq_true g1, eq_true g2, q2, hst, y1]
        by_cases z : a2 = 0
        · rw [if_neg (fun y => y z), if_neg (fun y => y z)]
        · rw [if_pos z, if_pos z]
    · refine ⟨-1, ?_, ?_⟩
      · unfold fX8_plan
        simp only [Option.bind_some, bI_0, Decidable.not_not, nm, b2, zr, e_isWithin, e_in, e_isGlass8, e_isGlass9, reduceIte, not_false_eq_true, not_true_eq_false, if_true, if_false, and_self, z01, z10, c00, c11, true_and, and_true, R_0_0, R_0_1, R_0_3, R_0_4, R_0_5, R_0_6, R_0_7, R_0_8, R_0_9, R_1_0, R_1_1, R_1_2, R_1_3, R_7_0, R_7_1, R_10_0, R_10_1, R_10_2, R_14_0, R_16_0, R_18_0, R_18_1, R_18_2, R_18_4, R_18_5, R_18_6, R_18_8, R_18_9, R_27_0, R_27_1, R_27_2, R_32_0, R_32_1, R_32_3, R_32_4, R_32_5, R_32_6, R_32_7, R_32_11, R_32_12, R_32_13, R_32_14, R_32_17, R_32_20, R_32_21, R_32_22, R_32_24, R_32_25, R_32_26, R_32_27, R_32_28, R_32_29, R_32_30, R_32_31, I_0_2, I_1_4, I_7_2, I_14_1, I_16_1, I_18_3, I_18_7, I_27_3, I_27_4, I_31_0, I_31_1, I_31_2, I_31_3, I_31_4, I_31_5, I_31_6, I_32_2, I_32_8, I_32_9, I_32_10, I_32_15, I_32_16, I_32_18, I_32_19, J_0_10, J_32_23, P_0_2, P_0_10, P_1_4, P_7_2, P_14_1, P_16_1, P_18_3, P_18_7, P_27_3, P_27_4, P_31_0, P_31_1, P_31_2, P_31_3, P_31_4, P_31_5, P_31_6, P_32_2, P_32_8, P_32_9, P_32_10, P_32_15, P_32_16, P_32_18, P_32_19, P_32_23, K_0, K_1, K_7, K_10, K_14, K_16, K_18, K_27, K_31, K_32, eq_true g1, eq_false g2]
      · unfold fX9_plan
        simp only [Option.bind_some, bI_0, Decidable.not_not, nm, b2, zr, e_isWithin, e_in, e_isGlass8, e_isGlass9, reduceIte, not_false_eq_true, not_true_eq_false, if_true, if_false, and_self, z01, z10, c00, c11, true_and, and_true, R_0_0, R_0_1, R_0_3, R_0_4, R_0_5, R_0_6, R_0_7, R_0_8, R_0_9, R_1_0, R_1_1, R_1_2, R_1_3, R_7_0, R_7_1, R_10_0, R_10_1, R_10_2, R_14_0, R_16_0, R_18_0, R_18_1, R_18_2, R_18_4, R_18_5, R_18_6, R_18_8, R_18_9, R_27_0, R_27_1, R_27_2, R_32_0, R_32_1, R_32_3, R_32_4, R_32_5, R_32_6, R_32_7, R_32_11, R_32_12, R_32_13, R_32_14, R_32_17, R_32_20, R_32_21, R_32_22, R_32_24, R_32_25, R_32_26, R_32_27, R_32_28, R_32_29, R_32_30, R_32_31, I_0_2, I_1_4, I_7_2, I_14_1, I_16_1, I_18_3, I_18_7, I_27_3, I_27_4, I_31_0, I_31_1, I_31_2, I_31_3, I_31_4, I_31_5, I_31_6, I_32_2, I_32_8, I_32_9, I_32_10, I_32_15, I_32_16, I_32_18, I_32_19, J_0_10, J_32_23, P_0_2, P_0_10, P_1_4, P_7_2, P_14_1, P_16_1, P_18_3, P_18_7, P_27_3, P_27_4, P_31_0, P_31_1, P_31_2, P_31_3, P_31_4, P_31_5, P_31_6, P_32_2, P_32_8, P_32_9, P_32_10, P_32_15, P_32_16, P_32_18, P_32_19, P_32_23, K_0, K_1, K_7, K_10, K_14, K_16, K_18, K_27, K_31, K_32, eq_true g1, eq_false g2]
  · refine ⟨-1, ?_, ?_⟩
    · unfold fX8_plan
      simp only [Option.bind_some, bI_0, Decidable.not_not, nm, b2, zr, e_isWithin, e_in, e_isGlass8, e_isGlass9, reduceIte, not_false_eq_true, not_true_eq_false, if_true, if_false, and_self, z01, z10, c00, c11, true_and, and_true, R_0_0, R_0_1, R_0_3, R_0_4, R_0_5, R_0_6, R_0_7, R_0_8, R_0_9, R_1_0, R_1_1, R_1_2, R_1_3, R_7_0, R_7_1, R_10_0, R_10_1, R_10_2, R_14_0, R_16_0, R_18_0, R_18_1, R_18_2, R_18_4, R_18_5, R_18_6, R_18_8, R_18_9, R_27_0, R_27_1, R_27_2, R_32_0, R_32_1, R_32_3, R_32_4, R_32_5, R_32_6, R_32_7, R_32_11, R_32_12, R_32_13, R_32_14, R_32_17, R_32_20, R_32_21, R_32_22, R_32_24, R_32_25, R_32_26, R_32_27, R_32_28, R_32_29, R_32_30, R_32_31, I_0_2, I_1_4, I_7_2, I_14_1, I_16_1, I_18_3, I_18_7, I_27_3, I_27_4, I_31_0, I_31_1, I_31_2, I_31_3, I_31_4, I_31_5, I_31_6, I_32_2, I_32_8, I_32_9, I_32_10, I_32_15, I_32_16, I_32_18, I_32_19, J_0_10, J_32_23, P_0_2, P_0_10, P_1_4, P_7_2, P_14_1, P_16_1, P_18_3, P_18_7, P_27_3, P_27_4, P_31_0, P_31_1, P_31_2, P_31_3, P_31_4, P_31_5, P_31_6, P_32_2, P_32_8, P_32_9, P_32_10, P_32_15, P_32_16, P_32_18, P_32_19, P_32_23, K_0, K_1, K_7, K_10, K_14, K_16, K_18, K_27, K_31, K_32, eq_false g1]
    · unfold fX9_plan
      simp only [Option.bind_some, bI_0, Decidable.not_not, nm, b2, zr, e_isWithin, e_in, e_isGlass8, e_isGlass9, reduceIte, not_false_eq_true, not_true_eq_false, if_true, if_false, and_self, z01, z10, c00, c11, true_and, and_true, R_0_0, R_0_1, R_0_3, R_0_4, R_0_5, R_0_6, R_0_7, R_0_8, R_0_9, R_1_0, R_1_1, R_1_2, R_1_3, R_7_0, R_7_1, R_10_0, R_10_1, R_10_2, R_14_0, R_16_0, R_18_0, R_18_1, R_18_2, R_18_4, R_18_5, R_18_6, R_18_8, R_18_9, R_27_0, R_27_1, R_27_2, R_32_0, R_32_1, R_32_3, R_32_4, R_32_5, R_32_6, R_32_7, R_32_11, R_32_12, R_32_13, R_32_14, R_32_17, R_32_20, R_32_21, R_32_22, R_32_24, R_32_25, R_32_26, R_32_27, R_32_28, R_32_29, R_32_30, R_32_31, I_0_2, I_1_4, I_7_2, I_14_1, I_16_1, I_18_3, I_18_7, I_27_3, I_27_4, I_31_0, I_31_1, I_31_2, I_31_3, I_31_4, I_31_5, I_31_6, I_32_2, I_32_8, I_32_9, I_32_10, I_32_15, I_32_16, I_32_18, I_32_19, J_0_10, J_32_23, P_0_2, P_0_10, P_1_4, P_7_2, P_14_1, P_16_1, P_18_3, P_18_7, P_27_3, P_27_4, P_31_0, P_31_1, P_31_2, P_31_3, P_31_4, P_31_5, P_31_6, P_32_2, P_32_8, P_32_9, P_32_10, P_32_15, P_32_16, P_32_18, P_32_19, P_32_23, K_0, K_1, K_7, K_10, K_14, K_16, K_18, K_27, K_31, K_32, eq_false g1]
