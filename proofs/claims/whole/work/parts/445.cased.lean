/-! ===== 445: cased, the reference's side; the step ===== -/
def isR (q j : Nat) : Bool := decide (j % 8 = 0 ∨ j / 8 = 0 ∨ j % 8 + 1 = q ∨ j / 8 + 1 = q)
def cnR (q T : Nat) : Nat := ((List.range 64).filter (fun j => decide (T ≤ j ∧ j % 8 < q ∧ j / 8 < q) && isR q j)).length
theorem cnR_s : ∀ q : Fin 9, ∀ y : Fin 8, ∀ x : Fin 8, x.1 < q.1 → y.1 < q.1 → cnR q.1 (8 * y.1 + x.1) = cnR q.1 (8 * y.1 + (x.1 + 1)) + (if isR q.1 (8 * y.1 + x.1) then 1 else 0) := by decide +kernel
theorem cnR_r : ∀ q : Fin 9, ∀ y : Fin 8, cnR q.1 (8 * y.1 + q.1) = cnR q.1 (8 * (y.1 + 1)) := by decide +kernel
theorem cnR_e : ∀ q : Fin 9, cnR q.1 (8 * q.1) = 0 := by decide +kernel
theorem cnR_0 : ∀ p : Fin 7, 1 ≤ p.1 → cnR (p.1 + 2) 0 = 4 * p.1 + 4 := by decide +kernel
/-- the reference's cells of picture c from place T on -/
def pT (c q T : Nat) (j : Nat) : Bool := decide (64 * c ≤ j ∧ j < 64 * c + 64 ∧ (j - 64 * c) % 8 < q ∧ (j - 64 * c) / 8 < q ∧ T ≤ j - 64 * c)
def vT (F : mI) (c q : Nat) (g : Int32) (j : Nat) : Int32 := if isR q (j - 64 * c) then g else F 39 (j - 9)
theorem rg4 {α : Type} {q x y : Nat} (A B : α) (hq : q ≤ 8) (hx : x < q) (hy : y < q) : (if nI x = 0 then A else if nI y = 0 then A else if nI x = nI q - 1 then A else if ¬ nI y = nI q - 1 then B else A) = if isR q (8 * y + x) = true then A else B := by
  have hs : nI q - 1 = nI (q - 1) := by rw [show q = (q - 1) + 1 by omega, nI_pred, Nat.add_sub_cancel]
  have e1 : nI x = 0 ↔ x = 0 := nI_eq (b := 0) (by omega) (by decide)
  have e2 : nI y = 0 ↔ y = 0 := nI_eq (b := 0) (by omega) (by decide)
  have e3 : nI x = nI (q - 1) ↔ x = q - 1 := nI_eq (by omega) (by omega)
  have e4 : nI y = nI (q - 1) ↔ y = q - 1 := nI_eq (by omega) (by omega)
  have er : isR q (8 * y + x) = true ↔ (x = 0 ∨ y = 0 ∨ x = q - 1 ∨ y = q - 1) := by
    unfold isR
    rw [decide_eq_true_eq]
    omega
  rw [hs]
  simp only [e1, e2, e3, e4, er]
  by_cases h1 : x = 0
  · simp [h1]
  by_cases h2 : y = 0
  · simp [h1, h2]
  by_cases h3 : x = q - 1
  · rw [if_neg h1, if_neg h2, if_pos h3, if_pos (by omega)]
  by_cases h4 : y = q - 1
  · rw [if_neg h1, if_neg h2, if_neg h3, if_neg (fun z => z h4), if_pos (by omega)]
  · rw [if_neg h1, if_neg h2, if_neg h3, if_pos h4, if_neg (by omega)]
theorem lN_s (c : Nat) (v : Int64) : lN c * v + v = lN (c + 1) * v := by
  rw [show lN (c + 1) = lN c + 1 from Int64.ofNat_add c 1, Int64.add_mul, Int64.one_mul]
section CT
variable {b : Nat} {F : mI} {G : mJ} {n : Nat} {sw : Bool} {N : Nat}
theorem u2_u2 {α : Type} (A : Nat → Nat → α) (k j : Nat) (v w : α) : u2 (u2 A k j v) k j w = u2 A k j w := by
  funext a i
  simp only [u2]
  by_cases h : a = k ∧ i = j
  · rw [if_pos h, if_pos h]
  · rw [if_neg h, if_neg h, if_neg h]
theorem e_cs66 {i q y g l f : Nat} (hi : i < 16) (hq : q ≤ 8) (hy : y < q) (g1 : 1 ≤ g) (g8 : g ≤ 8) (h36 : F 36 i = nI l) (h37 : F 37 i = nI f) (hf : 1 ≤ f) (hf2 : f < 2 ^ 31) (hN : 20 ≤ N) : lX9_cased_66 N (some (b + 32)) (nI i) (nI g) (nI q) (nI y) N (nI q - 1) (M b (sl F (pT i q (8 * (y + 1))) (vT F i q (nI g))) (u2 G 42 g (G 42 g + lN (cnR q (8 * (y + 1))) * ((nI l).toInt64 * ((4096 : Int32) / nI f).toInt64))) n sw) = some (M b (sl F (pT i q (8 * y)) (vT F i q (nI g))) (u2 G 42 g (G 42 g + lN (cnR q (8 * y)) * ((nI l).toInt64 * ((4096 : Int32) / nI f).toInt64))) n sw) := by
  have e := lpD (fun m c s => lX9_cased_66 N (some (b + 32)) (nI i) (nI g) (nI q) (nI y) m c s) (fun k => M b (sl F (pT i q (8 * y + k)) (vT F i q (nI g))) (u2 G 42 g (G 42 g + lN (cnR q (8 * y + k)) * ((nI l).toInt64 * ((4096 : Int32) / nI f).toInt64))) n sw) q (M b (sl F (pT i q (8 * y)) (vT F i q (nI g))) (u2 G 42 g (G 42 g + lN (cnR q (8 * y)) * ((nI l).toInt64 * ((4096 : Int32) / nI f).toInt64))) n sw) ?_ ?_ N q (Nat.le_refl _) (by omega)
  · rw [← e, cnR_r ⟨q, by omega⟩ ⟨y, by omega⟩, sl_e (P' := pT i q (8 * y + q)) (fun j => ?_)]
    unfold pT
    rw [Bool.eq_iff_iff]
    simp only [decide_eq_true_eq]
    omega
  · intro m x hx
    have hP : ∀ j, pT i q (8 * y + x) j = (pT i q (8 * y + (x + 1)) j || decide (j = 64 * i + 8 * y + x)) := by
      intro j
      unfold pT
      rw [Bool.eq_iff_iff]
      simp only [Bool.or_eq_true, decide_eq_true_eq]
      omega
    have hc := cnR_s ⟨q, by omega⟩ ⟨y, by omega⟩ ⟨x, by omega⟩ hx hy
    simp only at hc
    have hlt : 64 * i + 8 * y + x < 1152 := by omega
    show lX9_cased_66 N (some (b + 32)) (nI i) (nI g) (nI q) (nI y) (m + 1) (nI x) _ = lX9_cased_66 N (some (b + 32)) (nI i) (nI g) (nI q) (nI y) m (nI x + (-1)) _
    rw [lX9_cased_66, if_neg (nI_pos (by omega))]
    simp only [nm]
    rw [rg4 _ _ hq hx hy]
    by_cases hr : isR q (8 * y + x) = true
    · rw [if_pos hr]
      rw [if_pos hr] at hc
      have hv : nI g = vT F i q (nI g) (64 * i + 8 * y + x) := by
        unfold vT
        rw [show 64 * i + 8 * y + x - 64 * i = 8 * y + x by omega, if_pos hr]
      simp only [z10, if_false]
      rw [e_put9 hlt, sl_u hP hv]
      have k1 : sl F (pT i q (8 * y + x)) (vT F i q (nI g)) 36 i = nI l := by rw [sl_k (by omega)]; exact h36
      have k2 : sl F (pT i q (8 * y + x)) (vT F i q (nI g)) 37 i = nI f := by rw [sl_k (by omega)]; exact h37
      simp only [Option.bind_some, bI_0, Decidable.not_not, nm, b2, zr, e_isWithin, e_in, e_isGlass8, e_isGlass9, reduceIte, not_false_eq_true, not_true_eq_false, if_true, if_false, and_self, z01, z10, c00, c11, true_and, and_true, R_0_0, R_0_1, R_0_3, R_0_4, R_0_5, R_0_6, R_0_7, R_0_8, R_0_9, R_1_0, R_1_1, R_1_2, R_1_3, R_7_0, R_7_1, R_10_0, R_10_1, R_10_2, R_14_0, R_16_0, R_18_0, R_18_1, R_18_2, R_18_4, R_18_5, R_18_6, R_18_8, R_18_9, R_27_0, R_27_1, R_27_2, R_32_0, R_32_1, R_32_3, R_32_4, R_32_5, R_32_6, R_32_7, R_32_11, R_32_12, R_32_13, R_32_14, R_32_17, R_32_20, R_32_21, R_32_22, R_32_24, R_32_25, R_32_26, R_32_27, R_32_28, R_32_29, R_32_30, R_32_31, I_0_2, I_1_4, I_7_2, I_14_1, I_16_1, I_18_3, I_18_7, I_27_3, I_27_4, I_31_0, I_31_1, I_31_2, I_31_3, I_31_4, I_31_5, I_31_6, I_32_2, I_32_8, I_32_9, I_32_10, I_32_15, I_32_16, I_32_18, I_32_19, J_0_10, J_32_23, P_0_2, P_0_10, P_1_4, P_7_2, P_14_1, P_16_1, P_18_3, P_18_7, P_27_3, P_27_4, P_31_0, P_31_1, P_31_2, P_31_3, P_31_4, P_31_5, P_31_6, P_32_2, P_32_8, P_32_9, P_32_10, P_32_15, P_32_16, P_32_18, P_32_19, P_32_23, K_0, K_1, K_7, K_10, K_14, K_16, K_18, K_27, K_31, K_32, L_42 (show g < 9 by omega), L_36 hi, L_37 hi, k1, k2]
      rw [if_neg (ne0 hf hf2)]
      simp only [Option.bind_some, bI_0, Decidable.not_not, nm, b2, zr, e_isWithin, e_in, e_isGlass8, e_isGlass9, reduceIte, not_false_eq_true, not_true_eq_false, if_true, if_false, and_self, z01, z10, c00, c11, true_and, and_true, R_0_0, R_0_1, R_0_3, R_0_4, R_0_5, R_0_6, R_0_7, R_0_8, R_0_9, R_1_0, R_1_1, R_1_2, R_1_3, R_7_0, R_7_1, R_10_0, R_10_1, R_10_2, R_14_0, R_16_0, R_18_0, R_18_1, R_18_2, R_18_4, R_18_5, R_18_6, R_18_8, R_18_9, R_27_0, R_27_1, R_27_2, R_32_0, R_32_1, R_32_3, R_32_4, R_32_5, R_32_6, R_32_7, R_32_11, R_32_12, R_32_13, R_32_14, R_32_17, R_32_20, R_32_21, R_32_22, R_32_24, R_32_25, R_32_26, R_32_27, R_32_28, R_32_29, R_32_30, R_32_31, I_0_2, I_1_4, I_7_2, I_14_1, I_16_1, I_18_3, I_18_7, I_27_3, I_27_4, I_31_0, I_31_1, I_31_2, I_31_3, I_31_4, I_31_5, I_31_6, I_32_2, I_32_8, I_32_9, I_32_10, I_32_15, I_32_16, I_32_18, I_32_19, J_0_10, J_32_23, P_0_2, P_0_10, P_1_4, P_7_2, P_14_1, P_16_1, P_18_3, P_18_7, P_27_3, P_27_4, P_31_0, P_31_1, P_31_2, P_31_3, P_31_4, P_31_5, P_31_6, P_32_2, P_32_8, P_32_9, P_32_10, P_32_15, P_32_16, P_32_18, P_32_19, P_32_23, K_0, K_1, K_7, K_10, K_14, K_16, K_18, K_27, K_31, K_32, T_42 (show g < 9 by omega), u2_eq, u2_u2]
      rw [Int64.add_assoc, lN_s, ← hc]
    · rw [if_neg hr]
      rw [if_neg hr] at hc
      have hr' : ¬ (x = 0 ∨ y = 0) := by
        intro z
        apply hr
        unfold isR
        rw [decide_eq_true_eq]
        omega
      have s1 : nI x - 1 = nI (x - 1) := by rw [show x = (x - 1) + 1 by omega, nI_pred, Nat.add_sub_cancel]
      have s2 : nI y - 1 = nI (y - 1) := by rw [show y = (y - 1) + 1 by omega, nI_pred, Nat.add_sub_cancel]
      have hv : sl F (pT i q (8 * y + (x + 1))) (vT F i q (nI g)) 39 (64 * i + 8 * (y - 1) + (x - 1)) = vT F i q (nI g) (64 * i + 8 * y + x) := by
        rw [sl_k (by
          rintro ⟨-, z⟩
          have := of_decide_eq_true z
          omega)]
        unfold vT
        rw [show 64 * i + 8 * y + x - 64 * i = 8 * y + x by omega, if_neg hr, show 64 * i + 8 * y + x - 9 = 64 * i + 8 * (y - 1) + (x - 1) by omega]
      simp only [if_true]
      rw [s1, s2, e_at9 (by omega), hv]
      simp only [Option.bind_some]
      rw [e_put9 hlt, sl_u hP rfl]
      simp only [Option.bind_some, bI_0, Decidable.not_not, nm, b2, zr, e_isWithin, e_in, e_isGlass8, e_isGlass9, reduceIte, not_false_eq_true, not_true_eq_false, if_true, if_false, and_self, z01, z10, c00, c11, true_and, and_true, R_0_0, R_0_1, R_0_3, R_0_4, R_0_5, R_0_6, R_0_7, R_0_8, R_0_9, R_1_0, R_1_1, R_1_2, R_1_3, R_7_0, R_7_1, R_10_0, R_10_1, R_10_2, R_14_0, R_16_0, R_18_0, R_18_1, R_18_2, R_18_4, R_18_5, R_18_6, R_18_8, R_18_9, R_27_0, R_27_1, R_27_2, R_32_0, R_32_1, R_32_3, R_32_4, R_32_5, R_32_6, R_32_7, R_32_11, R_32_12, R_32_13, R_32_14, R_32_17, R_32_20, R_32_21, R_32_22, R_32_24, R_32_25, R_32_26, R_32_27, R_32_28, R_32_29, R_32_30, R_32_31, I_0_2, I_1_4, I_7_2, I_14_1, I_16_1, I_18_3, I_18_7, I_27_3, I_27_4, I_31_0, I_31_1, I_31_2, I_31_3, I_31_4, I_31_5, I_31_6, I_32_2, I_32_8, I_32_9, I_32_10, I_32_15, I_32_16, I_32_18, I_32_19, J_0_10, J_32_23, P_0_2, P_0_10, P_1_4, P_7_2, P_14_1, P_16_1, P_18_3, P_18_7, P_27_3, P_27_4, P_31_0, P_31_1, P_31_2, P_31_3, P_31_4, P_31_5, P_31_6, P_32_2, P_32_8, P_32_9, P_32_10, P_32_15, P_32_16, P_32_18, P_32_19, P_32_23, K_0, K_1, K_7, K_10, K_14, K_16, K_18, K_27, K_31, K_32, L_42 (show g < 9 by omega), T_42 (show g < 9 by omega), u2_eq, u2_u2, Int64.add_zero]
      rw [← Nat.add_zero (cnR q (8 * y + (x + 1))), ← hc]
  · intro m
    show lX9_cased_66 N (some (b + 32)) (nI i) (nI g) (nI q) (nI y) (m + 1) (-1) _ = _
    rw [lX9_cased_66, if_pos (by decide)]
    rfl
theorem e_cs56 {i q g l f : Nat} (hi : i < 16) (hq : q ≤ 8) (g1 : 1 ≤ g) (g8 : g ≤ 8) (h36 : F 36 i = nI l) (h37 : F 37 i = nI f) (hf : 1 ≤ f) (hf2 : f < 2 ^ 31) (hN : 20 ≤ N) : lX9_cased_56 N (some (b + 32)) (nI i) (nI g) (nI q) N (nI q - 1) (M b F G n sw) = some (M b (sl F (pT i q 0) (vT F i q (nI g))) (u2 G 42 g (G 42 g + lN (cnR q 0) * ((nI l).toInt64 * ((4096 : Int32) / nI f).toInt64))) n sw) := by
  have e := lpD (fun m c s => lX9_cased_56 N (some (b + 32)) (nI i) (nI g) (nI q) m c s) (fun k => M b (sl F (pT i q (8 * k)) (vT F i q (nI g))) (u2 G 42 g (G 42 g + lN (cnR q (8 * k)) * ((nI l).toInt64 * ((4096 : Int32) / nI f).toInt64))) n sw) q (M b (sl F (pT i q 0) (vT F i q (nI g))) (u2 G 42 g (G 42 g + lN (cnR q 0) * ((nI l).toInt64 * ((4096 : Int32) / nI f).toInt64))) n sw) ?_ ?_ N q (Nat.le_refl _) (by omega)
  · simp only [cnR_e ⟨q, by omega⟩, show lN 0 = (0 : Int64) from rfl, Int64.zero_mul, Int64.add_zero] at e
    rw [sl_0 (P := pT i q (8 * q)) (fun j => by unfold pT; rw [decide_eq_false_iff_not]; omega), show u2 G 42 g (G 42 g) = G from funext fun a => funext fun j => by
      simp only [u2]
      by_cases h : a = 42 ∧ j = g
      · rw [if_pos h, h.1, h.2]
      · rw [if_neg h]] at e
    exact e
  · intro m y hy
    show lX9_cased_56 N (some (b + 32)) (nI i) (nI g) (nI q) (m + 1) (nI y) _ = _
    rw [lX9_cased_56, if_neg (nI_pos (by omega))]
    simp only [nm]
    rw [e_cs66 hi hq hy g1 g8 h36 h37 hf hf2 hN]
    rfl
  · intro m
    show lX9_cased_56 N (some (b + 32)) (nI i) (nI g) (nI q) (m + 1) (-1) _ = _
    rw [lX9_cased_56, if_pos (by decide)]
end CT
theorem st_cased (b : Nat) : St_cased b (b + 32) (Inv b (b + 32)) := by
  rintro S ⟨-, F, G, n, sw, rfl, hR⟩ a1 a2
  obtain ⟨r1, r2, r3, r4, r5, r6, r7, r8, r9, r10, r11, r12, r13⟩ := id hR
  by_cases hx : rg n a1
  · obtain ⟨i, hi, rfl⟩ := (rg_iff (by omega)).mp hx
    obtain ⟨p, l, f, t, ⟨p1, p8, l9, ⟨e, e12, ef⟩, t40⟩, c1, c2, c3, c4, c5, c6, c7, c8, c9⟩ := r8 i hi
    have hi16 : i < 16 := by omega
    have f1 : 1 ≤ f := by rw [ef]; exact Nat.pow_pos (by omega)
    have f2 : f < 2 ^ 31 := by rw [ef]; exact Nat.pow_lt_pow_right (by omega) (by omega)
    by_cases hl : l = 0
    · subst hl
      refine ⟨-1, M b F G n sw, M b F G n sw, ?_, ?_, rfl, F, G, n, sw, rfl, hR⟩
      · unfold fX8_cased
        simp only [Option.bind_some, bI_0, Decidable.not_not, nm, b2, zr, e_isWithin, e_in, e_isGlass8, e_isGlass9, reduceIte, not_false_eq_true, not_true_eq_false, if_true, if_false, and_self, z01, z10, c00, c11, true_and, and_true, R_0_0, R_0_1, R_0_3, R_0_4, R_0_5, R_0_6, R_0_7, R_0_8, R_0_9, R_1_0, R_1_1, R_1_2, R_1_3, R_7_0, R_7_1, R_10_0, R_10_1, R_10_2, R_14_0, R_16_0, R_18_0, R_18_1, R_18_2, R_18_4, R_18_5, R_18_6, R_18_8, R_18_9, R_27_0, R_27_1, R_27_2, R_32_0, R_32_1, R_32_3, R_32_4, R_32_5, R_32_6, R_32_7, R_32_11, R_32_12, R_32_13, R_32_14, R_32_17, R_32_20, R_32_21, R_32_22, R_32_24, R_32_25, R_32_26, R_32_27, R_32_28, R_32_29, R_32_30, R_32_31, I_0_2, I_1_4, I_7_2, I_14_1, I_16_1, I_18_3, I_18_7, I_27_3, I_27_4, I_31_0, I_31_1, I_31_2, I_31_3, I_31_4, I_31_5, I_31_6, I_32_2, I_32_8, I_32_9, I_32_10, I_32_15, I_32_16, I_32_18, I_32_19, J_0_10, J_32_23, P_0_2, P_0_10, P_1_4, P_7_2, P_14_1, P_16_1, P_18_3, P_18_7, P_27_3, P_27_4, P_31_0, P_31_1, P_31_2, P_31_3, P_31_4, P_31_5, P_31_6, P_32_2, P_32_8, P_32_9, P_32_10, P_32_15, P_32_16, P_32_18, P_32_19, P_32_23, K_0, K_1, K_7, K_10, K_14, K_16, K_18, K_27, K_31, K_32, e_unused_0 r1 r2 hi c3]
      · unfold fX9_cased
        simp only [Option.bind_some, bI_0, Decidable.not_not, nm, b2, zr, e_isWithin, e_in, e_isGlass8, e_isGlass9, reduceIte, not_false_eq_true, not_true_eq_false, if_true, if_false, and_self, z01, z10, c00, c11, true_and, and_true, R_0_0, R_0_1, R_0_3, R_0_4, R_0_5, R_0_6, R_0_7, R_0_8, R_0_9, R_1_0, R_1_1, R_1_2, R_1_3, R_7_0, R_7_1, R_10_0, R_10_1, R_10_2, R_14_0, R_16_0, R_18_0, R_18_1, R_18_2, R_18_4, R_18_5, R_18_6, R_18_8, R_18_9, R_27_0, R_27_1, R_27_2, R_32_0, R_32_1, R_32_3, R_32_4, R_32_5, R_32_6, R_32_7, R_32_11, R_32_12, R_32_13, R_32_14, R_32_17, R_32_20, R_32_21, R_32_22, R_32_24, R_32_25, R_32_26, R_32_27, R_32_28, R_32_29, R_32_30, R_32_31, I_0_2, I_1_4, I_7_2, I_14_1, I_16_1, I_18_3, I_18_7, I_27_3, I_27_4, I_31_0, I_31_1, I_31_2, I_31_3, I_31_4, I_31_5, I_31_6, I_32_2, I_32_8, I_32_9, I_32_10, I_32_15, I_32_16, I_32_18, I_32_19, J_0_10, J_32_23, P_0_2, P_0_10, P_1_4, P_7_2, P_14_1, P_16_1, P_18_3, P_18_7, P_27_3, P_27_4, P_31_0, P_31_1, P_31_2, P_31_3, P_31_4, P_31_5, P_31_6, P_32_2, P_32_8, P_32_9, P_32_10, P_32_15, P_32_16, P_32_18, P_32_19, P_32_23, K_0, K_1, K_7, K_10, K_14, K_16, K_18, K_27, K_31, K_32, e_isWhole_0 r1 r3 hi c4]
    · by_cases hg : (1 : Int32) ≤ a2 ∧ a2 ≤ 8
      · obtain ⟨g, g1, g8, rfl⟩ := rng 1 8 rfl rfl (by decide) (by decide) hg
        have hp2 : nI p + 2 = nI (p + 2) := nI_add p 2
        by_cases hp : p ≤ 6
        · have hp' : ¬ (8 : Int32) < nI (p + 2) := nI_nlt (a := 8) (by omega) (by decide)
          by_cases ht : t = 0
          · subst ht
            have fr1 : ∀ k j, ¬ (k = 57 + 3 * i ∧ j = 1) → ¬ k = 58 + 3 * i → (sq (sq (u2 F (57 + 3 * i) 1 (nI (p + 2))) (58 + 3 * i) (sh p 0) (fun j => F (58 + 3 * i) (j - 9))) (58 + 3 * i) (rgP (p + 1) (p + 2)) (fun _ => nI g)) k j = F k j := by
              intro k j z1 z2
              rw [sq_k (fun z => z2 z.1), sq_k (fun z => z2 z.1), u2_ne _ _ _ _ z1]
            have k1 : (sq (sq (u2 F (57 + 3 * i) 1 (nI (p + 2))) (58 + 3 * i) (sh p 0) (fun j => F (58 + 3 * i) (j - 9))) (58 + 3 * i) (rgP (p + 1) (p + 2)) (fun _ => nI g)) (56 + 3 * i) 1 = nI l := by rw [fr1 _ _ (by omega) (by omega)]; exact c3
            have k2 : (sq (sq (u2 F (57 + 3 * i) 1 (nI (p + 2))) (58 + 3 * i) (sh p 0) (fun j => F (58 + 3 * i) (j - 9))) (58 + 3 * i) (rgP (p + 1) (p + 2)) (fun _ => nI g)) (56 + 3 * i) 2 = nI f := by rw [fr1 _ _ (by omega) (by omega)]; exact c5
            have k3 : (sq (sq (u2 F (57 + 3 * i) 1 (nI (p + 2))) (58 + 3 * i) (sh p 0) (fun j => F (58 + 3 * i) (j - 9))) (58 + 3 * i) (rgP (p + 1) (p + 2)) (fun _ => nI g)) (57 + 3 * i) 1 = nI (p + 2) := by rw [sq_k (by omega), sq_k (by omega), u2_eq]
            have k4 : (sq (sq (u2 F (57 + 3 * i) 1 (nI (p + 2))) (58 + 3 * i) (sh p 0) (fun j => F (58 + 3 * i) (j - 9))) (58 + 3 * i) (rgP (p + 1) (p + 2)) (fun _ => nI g)) 35 i = nI p := by rw [fr1 _ _ (by omega) (by omega)]; exact c2
            have k5 : (sq (sq (u2 F (57 + 3 * i) 1 (nI (p + 2))) (58 + 3 * i) (sh p 0) (fun j => F (58 + 3 * i) (j - 9))) (58 + 3 * i) (rgP (p + 1) (p + 2)) (fun _ => nI g)) 36 i = nI l := by rw [fr1 _ _ (by omega) (by omega)]; exact c4
            have k6 : (sq (sq (u2 F (57 + 3 * i) 1 (nI (p + 2))) (58 + 3 * i) (sh p 0) (fun j => F (58 + 3 * i) (j - 9))) (58 + 3 * i) (rgP (p + 1) (p + 2)) (fun _ => nI g)) 37 i = nI f := by rw [fr1 _ _ (by omega) (by omega)]; exact c6
            have k7 : (sq (sq (u2 F (57 + 3 * i) 1 (nI (p + 2))) (58 + 3 * i) (sh p 0) (fun j => F (58 + 3 * i) (j - 9))) (58 + 3 * i) (rgP (p + 1) (p + 2)) (fun _ => nI g)) 38 i = 0 := by rw [fr1 _ _ (by omega) (by omega)]; exact c8
            have k8 : (sq (sq (u2 F (57 + 3 * i) 1 (nI (p + 2))) (58 + 3 * i) (sh p 0) (fun j => F (58 + 3 * i) (j - 9))) (58 + 3 * i) (rgP (p + 1) (p + 2)) (fun _ => nI g)) 32 2 = nI n := by rw [fr1 _ _ (by omega) (by omega)]; exact r3
            have kc : fX3_bookCame NF (M b (sq (sq (u2 F (57 + 3 * i) 1 (nI (p + 2))) (58 + 3 * i) (sh p 0) (fun j => F (58 + 3 * i) (j - 9))) (58 + 3 * i) (rgP (p + 1) (p + 2)) (fun _ => nI g)) G n sw) (some (b + 1)) (nI g) ((nI (4 * p + 4)).toInt64 * ((nI l).toInt64 * ((4096 : Int32) / nI f).toInt64)) = some (M b (sq (sq (u2 F (57 + 3 * i) 1 (nI (p + 2))) (58 + 3 * i) (sh p 0) (fun j => F (58 + 3 * i) (j - 9))) (58 + 3 * i) (rgP (p + 1) (p + 2)) (fun _ => nI g)) (u2 G 4 g (G 4 g + (nI (4 * p + 4)).toInt64 * ((nI l).toInt64 * ((4096 : Int32) / nI f).toInt64))) n sw) := q_came Ag_M g1 g8
            have hm4 : (4 : Int32) * nI p + 4 = nI (4 * p + 4) := by
              rw [show (4 : Int32) = nI 4 from rfl, pk_mul, nI_add]
            refine ⟨nI (p + 2), M b (sq (sq (u2 F (57 + 3 * i) 1 (nI (p + 2))) (58 + 3 * i) (sh p 0) (fun j => F (58 + 3 * i) (j - 9))) (58 + 3 * i) (rgP (p + 1) (p + 2)) (fun _ => nI g)) (u2 G 4 g (G 4 g + (nI (4 * p + 4)).toInt64 * ((nI l).toInt64 * ((4096 : Int32) / nI f).toInt64))) n sw, M b (u2 (sl (sq (sq (u2 F (57 + 3 * i) 1 (nI (p + 2))) (58 + 3 * i) (sh p 0) (fun j => F (58 + 3 * i) (j - 9))) (58 + 3 * i) (rgP (p + 1) (p + 2)) (fun _ => nI g)) (pT i (p + 2) 0) (vT (sq (sq (u2 F (57 + 3 * i) 1 (nI (p + 2))) (58 + 3 * i) (sh p 0) (fun j => F (58 + 3 * i) (j - 9))) (58 + 3 * i) (rgP (p + 1) (p + 2)) (fun _ => nI g)) i (p + 2) (nI g))) 35 i (nI (p + 2))) (u2 (u2 G 4 g (G 4 g + (nI (4 * p + 4)).toInt64 * ((nI l).toInt64 * ((4096 : Int32) / nI f).toInt64))) 42 g ((u2 G 4 g (G 4 g + (nI (4 * p + 4)).toInt64 * ((nI l).toInt64 * ((4096 : Int32) / nI f).toInt64))) 42 g + lN (cnR (p + 2) 0) * ((nI l).toInt64 * ((4096 : Int32) / nI f).toInt64))) n sw, ?_, ?_, rfl, _, _, _, _, rfl, ?_⟩
            · unfold fX8_cased
              simp only [Option.bind_some, bI_0, Decidable.not_not, nm, b2, zr, e_isWithin, e_in, e_isGlass8, e_isGlass9, reduceIte, not_false_eq_true, not_true_eq_false, if_true, if_false, and_self, z01, z10, c00, c11, true_and, and_true, R_0_0, R_0_1, R_0_3, R_0_4, R_0_5, R_0_6, R_0_7, R_0_8, R_0_9, R_1_0, R_1_1, R_1_2, R_1_3, R_7_0, R_7_1, R_10_0, R_10_1, R_10_2, R_14_0, R_16_0, R_18_0, R_18_1, R_18_2, R_18_4, R_18_5, R_18_6, R_18_8, R_18_9, R_27_0, R_27_1, R_27_2, R_32_0, R_32_1, R_32_3, R_32_4, R_32_5, R_32_6, R_32_7, R_32_11, R_32_12, R_32_13, R_32_14, R_32_17, R_32_20, R_32_21, R_32_22, R_32_24, R_32_25, R_32_26, R_32_27, R_32_28, R_32_29, R_32_30, R_32_31, I_0_2, I_1_4, I_7_2, I_14_1, I_16_1, I_18_3, I_18_7, I_27_3, I_27_4, I_31_0, I_31_1, I_31_2, I_31_3, I_31_4, I_31_5, I_31_6, I_32_2, I_32_8, I_32_9, I_32_10, I_32_15, I_32_16, I_32_18, I_32_19, J_0_10, J_32_23, P_0_2, P_0_10, P_1_4, P_7_2, P_14_1, P_16_1, P_18_3, P_18_7, P_27_3, P_27_4, P_31_0, P_31_1, P_31_2, P_31_3, P_31_4, P_31_5, P_31_6, P_32_2, P_32_8, P_32_9, P_32_10, P_32_15, P_32_16, P_32_18, P_32_19, P_32_23, K_0, K_1, K_7, K_10, K_14, K_16, K_18, K_27, K_31, K_32, e_unused_y r1 r2 hi c3 (show 0 < l by omega) (show l < 2 ^ 31 by omega), eq_true hg, Rc_0 hi, Ip_1 hi, c1, hp2, eq_false hp', Ic_3 hi, c7, show nI 0 = (0 : Int32) from rfl, e_ring (N := NF) hi c1 hp (by decide), hm4, reduceCtorEq]
              rw [Ic_1 hi, k1]
              simp only [Option.bind_some]
              rw [e_vol hi k2 f1 f2]
              simp only [Option.bind_some]
              rw [kc]
              simp only [Option.bind_some, bI_0, Decidable.not_not, nm, b2, zr, e_isWithin, e_in, e_isGlass8, e_isGlass9, reduceIte, not_false_eq_true, not_true_eq_false, if_true, if_false, and_self, z01, z10, c00, c11, true_and, and_true, R_0_0, R_0_1, R_0_3, R_0_4, R_0_5, R_0_6, R_0_7, R_0_8, R_0_9, R_1_0, R_1_1, R_1_2, R_1_3, R_7_0, R_7_1, R_10_0, R_10_1, R_10_2, R_14_0, R_16_0, R_18_0, R_18_1, R_18_2, R_18_4, R_18_5, R_18_6, R_18_8, R_18_9, R_27_0, R_27_1, R_27_2, R_32_0, R_32_1, R_32_3, R_32_4, R_32_5, R_32_6, R_32_7, R_32_11, R_32_12, R_32_13, R_32_14, R_32_17, R_32_20, R_32_21, R_32_22, R_32_24, R_32_25, R_32_26, R_32_27, R_32_28, R_32_29, R_32_30, R_32_31, I_0_2, I_1_4, I_7_2, I_14_1, I_16_1, I_18_3, I_18_7, I_27_3, I_27_4, I_31_0, I_31_1, I_31_2, I_31_3, I_31_4, I_31_5, I_31_6, I_32_2, I_32_8, I_32_9, I_32_10, I_32_15, I_32_16, I_32_18, I_32_19, J_0_10, J_32_23, P_0_2, P_0_10, P_1_4, P_7_2, P_14_1, P_16_1, P_18_3, P_18_7, P_27_3, P_27_4, P_31_0, P_31_1, P_31_2, P_31_3, P_31_4, P_31_5, P_31_6, P_32_2, P_32_8, P_32_9, P_32_10, P_32_15, P_32_16, P_32_18, P_32_19, P_32_23, K_0, K_1, K_7, K_10, K_14, K_16, K_18, K_27, K_31, K_32, Rc_0 hi, Ip_1 hi, k3]
            · have e56 := e_cs56 (N := NF) (b := b) (F := (sq (sq (u2 F (57 + 3 * i) 1 (nI (p + 2))) (58 + 3 * i) (sh p 0) (fun j => F (58 + 3 * i) (j - 9))) (58 + 3 * i) (rgP (p + 1) (p + 2)) (fun _ => nI g))) (G := (u2 G 4 g (G 4 g + (nI (4 * p + 4)).toInt64 * ((nI l).toInt64 * ((4096 : Int32) / nI f).toInt64)))) (n := n) (sw := sw) (q := p + 2) hi16 (by omega) g1 g8 k5 k6 f1 f2 (by decide)
              unfold fX9_cased
              simp only [Option.bind_some, bI_0, Decidable.not_not, nm, b2, zr, e_isWithin, e_in, e_isGlass8, e_isGlass9, reduceIte, not_false_eq_true, not_true_eq_false, if_true, if_false, and_self, z01, z10, c00, c11, true_and, and_true, R_0_0, R_0_1, R_0_3, R_0_4, R_0_5, R_0_6, R_0_7, R_0_8, R_0_9, R_1_0, R_1_1, R_1_2, R_1_3, R_7_0, R_7_1, R_10_0, R_10_1, R_10_2, R_14_0, R_16_0, R_18_0, R_18_1, R_18_2, R_18_4, R_18_5, R_18_6, R_18_8, R_18_9, R_27_0, R_27_1, R_27_2, R_32_0, R_32_1, R_32_3, R_32_4, R_32_5, R_32_6, R_32_7, R_32_11, R_32_12, R_32_13, R_32_14, R_32_17, R_32_20, R_32_21, R_32_22, R_32_24, R_32_25, R_32_26, R_32_27, R_32_28, R_32_29, R_32_30, R_32_31, I_0_2, I_1_4, I_7_2, I_14_1, I_16_1, I_18_3, I_18_7, I_27_3, I_27_4, I_31_0, I_31_1, I_31_2, I_31_3, I_31_4, I_31_5, I_31_6, I_32_2, I_32_8, I_32_9, I_32_10, I_32_15, I_32_16, I_32_18, I_32_19, J_0_10, J_32_23, P_0_2, P_0_10, P_1_4, P_7_2, P_14_1, P_16_1, P_18_3, P_18_7, P_27_3, P_27_4, P_31_0, P_31_1, P_31_2, P_31_3, P_31_4, P_31_5, P_31_6, P_32_2, P_32_8, P_32_9, P_32_10, P_32_15, P_32_16, P_32_18, P_32_19, P_32_23, K_0, K_1, K_7, K_10, K_14, K_16, K_18, K_27, K_31, K_32, e_isWhole_y r1 k8 hi k5 (show 0 < l by omega) (show l < 2 ^ 31 by omega), eq_true hg, L_35 hi16, L_38 hi16, k4, hp2, eq_false hp', k7, show ((0 : Int32) ≤ 0) = True from eq_true (by decide), e56, T_35 hi16]
            · have fr : ∀ k j, ¬ (k = 57 + 3 * i ∧ j = 1) → ¬ k = 58 + 3 * i → ¬ (k = 39 ∧ 64 * i ≤ j ∧ j < 64 * i + 64) → ¬ (k = 35 ∧ j = i) → u2 (sl (sq (sq (u2 F (57 + 3 * i) 1 (nI (p + 2))) (58 + 3 * i) (sh p 0) (fun j => F (58 + 3 * i) (j - 9))) (58 + 3 * i) (rgP (p + 1) (p + 2)) (fun _ => nI g)) (pT i (p + 2) 0) (vT (sq (sq (u2 F (57 + 3 * i) 1 (nI (p + 2))) (58 + 3 * i) (sh p 0) (fun j => F (58 + 3 * i) (j - 9))) (58 + 3 * i) (rgP (p + 1) (p + 2)) (fun _ => nI g)) i (p + 2) (nI g))) 35 i (nI (p + 2)) k j = F k j := by
                intro k j z1 z2 z3 z4
                rw [u2_ne _ _ _ _ z4, sl_k (by
                  rintro ⟨y1, y2⟩
                  have := of_decide_eq_true y2
                  omega), fr1 _ _ z1 z2]
              have hgc : (u2 G 4 g (G 4 g + (nI (4 * p + 4)).toInt64 * ((nI l).toInt64 * ((4096 : Int32) / nI f).toInt64))) 42 g = G 42 g := u2_ne _ _ _ _ (by omega)
              have hcm : (nI (4 * p + 4)).toInt64 * ((nI l).toInt64 * ((4096 : Int32) / nI f).toInt64) = lN (cnR (p + 2) 0) * ((nI l).toInt64 * ((4096 : Int32) / nI f).toInt64) := by
                rw [cnR_0 ⟨p, by omega⟩ p1, nI_l (by omega)]
              refine ⟨r1, ?_, ?_, ?_, ?_, RTol_c (fun k j h => fr k j (by omega) (by omega) (by omega) (by omega)) r6, RTab_c (fun k j h => fr k j (by omega) (by omega) (by omega) (by omega)) r7, fun i' hi' => ?_, RWish_c (fun k j h => fr k j (by omega) (by omega) (by omega) (by omega)) r9, RSlice_c (fun k j h => fr k j (by omega) (by omega) (by omega) (by omega)) r10, ROrd_c (fun k j h => fr k j (by omega) (by omega) (by omega) (by omega)) r11, RWgh_c (fun k j h => fr k j (by omega) (by omega) (by omega) (by omega)) r12, RBest_c (fun k j h => fr k j (by omega) (by omega) (by omega) (by omega)) r13⟩
              · rw [fr _ _ (by omega) (by omega) (by omega) (by omega)]; exact r2
              · rw [fr _ _ (by omega) (by omega) (by omega) (by omega)]; exact r3
              · rw [u2_ne _ _ _ _ (by omega), u2_ne _ _ _ _ (by omega), u2_ne _ _ _ _ (by omega), u2_ne _ _ _ _ (by omega)]; exact r4
              · rw [hgc]
                exact gl_cm r5 (fun k j h => fr k j (by omega) (by omega) (by omega) (by omega)) g1 g8 hcm
              · by_cases e' : i' = i
                · rw [e']
                  refine ⟨p + 2, l, f, 0, ⟨by omega, by omega, l9, ⟨e, e12, ef⟩, by omega⟩, ?_, ?_, ?_, ?_, ?_, ?_, ?_, ?_, fun x y hx hy => ?_⟩
                  · rw [u2_ne _ _ _ _ (by omega), sl_k (by omega)]; exact k3
                  · rw [u2_eq]
                  · rw [fr _ _ (by omega) (by omega) (by omega) (by omega)]; exact c3
                  · rw [fr _ _ (by omega) (by omega) (by omega) (by omega)]; exact c4
                  · rw [fr _ _ (by omega) (by omega) (by omega) (by omega)]; exact c5
                  · rw [fr _ _ (by omega) (by omega) (by omega) (by omega)]; exact c6
                  · rw [fr _ _ (by omega) (by omega) (by omega) (by omega)]; exact c7
                  · rw [fr _ _ (by omega) (by omega) (by omega) (by omega)]; exact c8
                  · have hpt : pT i (p + 2) 0 (64 * i + 8 * y + x) = true := by
                      unfold pT
                      rw [decide_eq_true_eq]
                      omega
                    rw [u2_ne _ _ _ _ (by omega), u2_ne _ _ _ _ (by omega), sl_k (by omega), sl_y hpt]
                    unfold vT
                    rw [show 64 * i + 8 * y + x - 64 * i = 8 * y + x by omega]
                    by_cases hr : isR (p + 2) (8 * y + x) = true
                    · have hr' : rgP (p + 1) (p + 2) (8 * y + x) = true := by
                        have z := of_decide_eq_true hr
                        unfold rgP
                        rw [decide_eq_true_eq]
                        omega
                      rw [if_pos hr, sq_y hr']
                      exact ⟨rfl, g, g1, g8, rfl⟩
                    · have hr' : ¬ rgP (p + 1) (p + 2) (8 * y + x) = true := by
                        intro z
                        apply hr
                        have := of_decide_eq_true z
                        unfold isR
                        rw [decide_eq_true_eq]
                        omega
                      have hxy : 1 ≤ x ∧ 1 ≤ y ∧ x < p + 1 ∧ y < p + 1 := by
                        have z : ¬ (((8 * y + x) % 8 = 0 ∨ (8 * y + x) / 8 = 0 ∨ (8 * y + x) % 8 + 1 = p + 2 ∨ (8 * y + x) / 8 + 1 = p + 2)) := fun w => hr (decide_eq_true w)
                        omega
                      have hs : sh p 0 (8 * y + x) = true := by
                        unfold sh
                        rw [decide_eq_true_eq]
                        omega
                      rw [if_neg hr, sq_k (fun z => hr' z.2), sq_y hs, fr1 _ _ (by omega) (by omega), show 8 * y + x - 9 = 8 * (y - 1) + (x - 1) by omega, show 64 * i + 8 * y + x - 9 = 64 * i + 8 * (y - 1) + (x - 1) by omega]
                      exact c9 (x - 1) (y - 1) (by omega) (by omega)
                · exact RCane_c (fun k j h => fr k j (by omega) (by omega) (by omega) (by omega)) (r8 i' hi')
          · have ht' : ¬ nI t = 0 := ne0 (by omega) (by omega)
            have ht2 : ¬ nI t ≤ 0 := nI_nle (by omega) (by omega)
            refine ⟨-2, M b F G n sw, M b F G n sw, ?_, ?_, rfl, F, G, n, sw, rfl, hR⟩
            · unfold fX8_cased
              simp only [Option.bind_some, bI_0, Decidable.not_not, nm, b2, zr, e_isWithin, e_in, e_isGlass8, e_isGlass9, reduceIte, not_false_eq_true, not_true_eq_false, if_true, if_false, and_self, z01, z10, c00, c11, true_and, and_true, R_0_0, R_0_1, R_0_3, R_0_4, R_0_5, R_0_6, R_0_7, R_0_8, R_0_9, R_1_0, R_1_1, R_1_2, R_1_3, R_7_0, R_7_1, R_10_0, R_10_1, R_10_2, R_14_0, R_16_0, R_18_0, R_18_1, R_18_2, R_18_4, R_18_5, R_18_6, R_18_8, R_18_9, R_27_0, R_27_1, R_27_2, R_32_0, R_32_1, R_32_3, R_32_4, R_32_5, R_32_6, R_32_7, R_32_11, R_32_12, R_32_13, R_32_14, R_32_17, R_32_20, R_32_21, R_32_22, R_32_24, R_32_25, R_32_26, R_32_27, R_32_28, R_32_29, R_32_30, R_32_31, I_0_2, I_1_4, I_7_2, I_14_1, I_16_1, I_18_3, I_18_7, I_27_3, I_27_4, I_31_0, I_31_1, I_31_2, I_31_3, I_31_4, I_31_5, I_31_6, I_32_2, I_32_8, I_32_9, I_32_10, I_32_15, I_32_16, I_32_18, I_32_19, J_0_10, J_32_23, P_0_2, P_0_10, P_1_4, P_7_2, P_14_1, P_16_1, P_18_3, P_18_7, P_27_3, P_27_4, P_31_0, P_31_1, P_31_2, P_31_3, P_31_4, P_31_5, P_31_6, P_32_2, P_32_8, P_32_9, P_32_10, P_32_15, P_32_16, P_32_18, P_32_19, P_32_23, K_0, K_1, K_7, K_10, K_14, K_16, K_18, K_27, K_31, K_32, e_unused_y r1 r2 hi c3 (show 0 < l by omega) (show l < 2 ^ 31 by omega), eq_true hg, Rc_0 hi, Ip_1 hi, c1, hp2, eq_false hp', Ic_3 hi, c7, eq_false ht', reduceCtorEq]
            · unfold fX9_cased
              simp only [Option.bind_some, bI_0, Decidable.not_not, nm, b2, zr, e_isWithin, e_in, e_isGlass8, e_isGlass9, reduceIte, not_false_eq_true, not_true_eq_false, if_true, if_false, and_self, z01, z10, c00, c11, true_and, and_true, R_0_0, R_0_1, R_0_3, R_0_4, R_0_5, R_0_6, R_0_7, R_0_8, R_0_9, R_1_0, R_1_1, R_1_2, R_1_3, R_7_0, R_7_1, R_10_0, R_10_1, R_10_2, R_14_0, R_16_0, R_18_0, R_18_1, R_18_2, R_18_4, R_18_5, R_18_6, R_18_8, R_18_9, R_27_0, R_27_1, R_27_2, R_32_0, R_32_1, R_32_3, R_32_4, R_32_5, R_32_6, R_32_7, R_32_11, R_32_12, R_32_13, R_32_14, R_32_17, R_32_20, R_32_21, R_32_22, R_32_24, R_32_25, R_32_26, R_32_27, R_32_28, R_32_29, R_32_30, R_32_31, I_0_2, I_1_4, I_7_2, I_14_1, I_16_1, I_18_3, I_18_7, I_27_3, I_27_4, I_31_0, I_31_1, I_31_2, I_31_3, I_31_4, I_31_5, I_31_6, I_32_2, I_32_8, I_32_9, I_32_10, I_32_15, I_32_16, I_32_18, I_32_19, J_0_10, J_32_23, P_0_2, P_0_10, P_1_4, P_7_2, P_14_1, P_16_1, P_18_3, P_18_7, P_27_3, P_27_4, P_31_0, P_31_1, P_31_2, P_31_3, P_31_4, P_31_5, P_31_6, P_32_2, P_32_8, P_32_9, P_32_10, P_32_15, P_32_16, P_32_18, P_32_19, P_32_23, K_0, K_1, K_7, K_10, K_14, K_16, K_18, K_27, K_31, K_32, e_isWhole_y r1 r3 hi c4 (show 0 < l by omega) (show l < 2 ^ 31 by omega), eq_true hg, L_35 hi16, L_38 hi16, c2, hp2, eq_false hp', c8, eq_false ht2]
        · have hp' : (8 : Int32) < nI (p + 2) := nI_lt (a := 8) (by omega) (by omega)
          refine ⟨-2, M b F G n sw, M b F G n sw, ?_, ?_, rfl, F, G, n, sw, rfl, hR⟩
          · unfold fX8_cased
            simp only [Option.bind_some, bI_0, Decidable.not_not, nm, b2, zr, e_isWithin, e_in, e_isGlass8, e_isGlass9, reduceIte, not_false_eq_true, not_true_eq_false, if_true, if_false, and_self, z01, z10, c00, c11, true_and, and_true, R_0_0, R_0_1, R_0_3, R_0_4, R_0_5, R_0_6, R_0_7, R_0_8, R_0_9, R_1_0, R_1_1, R_1_2, R_1_3, R_7_0, R_7_1, R_10_0, R_10_1, R_10_2, R_14_0, R_16_0, R_18_0, R_18_1, R_18_2, R_18_4, R_18_5, R_18_6, R_18_8, R_18_9, R_27_0, R_27_1, R_27_2, R_32_0, R_32_1, R_32_3, R_32_4, R_32_5, R_32_6, R_32_7, R_32_11, R_32_12, R_32_13, R_32_14, R_32_17, R_32_20, R_32_21, R_32_22, R_32_24, R_32_25, R_32_26, R_32_27, R_32_28, R_32_29, R_32_30, R_32_31, I_0_2, I_1_4, I_7_2, I_14_1, I_16_1, I_18_3, I_18_7, I_27_3, I_27_4, I_31_0, I_31_1, I_31_2, I_31_3, I_31_4, I_31_5, I_31_6, I_32_2, I_32_8, I_32_9, I_32_10, I_32_15, I_32_16, I_32_18, I_32_19, J_0_10, J_32_23, P_0_2, P_0_10, P_1_4, P_7_2, P_14_1, P_16_1, P_18_3, P_18_7, P_27_3, P_27_4, P_31_0, P_31_1, P_31_2, P_31_3, P_31_4, P_31_5, P_31_6, P_32_2, P_32_8, P_32_9, P_32_10, P_32_15, P_32_16, P_32_18, P_32_19, P_32_23, K_0, K_1, K_7, K_10, K_14, K_16, K_18, K_27, K_31, K_32, e_unused_y r1 r2 hi c3 (show 0 < l by omega) (show l < 2 ^ 31 by omega), eq_true hg, Rc_0 hi, Ip_1 hi, c1, hp2, eq_true hp', reduceCtorEq]
          · unfold fX9_cased
            simp only [Option.bind_some, bI_0, Decidable.not_not, nm, b2, zr, e_isWithin, e_in, e_isGlass8, e_isGlass9, reduceIte, not_false_eq_true, not_true_eq_false, if_true, if_false, and_self, z01, z10, c00, c11, true_and, and_true, R_0_0, R_0_1, R_0_3, R_0_4, R_0_5, R_0_6, R_0_7, R_0_8, R_0_9, R_1_0, R_1_1, R_1_2, R_1_3, R_7_0, R_7_1, R_10_0, R_10_1, R_10_2, R_14_0, R_16_0, R_18_0, R_18_1, R_18_2, R_18_4, R_18_5, R_18_6, R_18_8, R_18_9, R_27_0, R_27_1, R_27_2, R_32_0, R_32_1, R_32_3, R_32_4, R_32_5, R_32_6, R_32_7, R_32_11, R_32_12, R_32_13, R_32_14, R_32_17, R_32_20, R_32_21, R_32_22, R_32_24, R_32_25, R_32_26, R_32_27, R_32_28, R_32_29, R_32_30, R_32_31, I_0_2, I_1_4, I_7_2, I_14_1, I_16_1, I_18_3, I_18_7, I_27_3, I_27_4, I_31_0, I_31_1, I_31_2, I_31_3, I_31_4, I_31_5, I_31_6, I_32_2, I_32_8, I_32_9, I_32_10, I_32_15, I_32_16, I_32_18, I_32_19, J_0_10, J_32_23, P_0_2, P_0_10, P_1_4, P_7_2, P_14_1, P_16_1, P_18_3, P_18_7, P_27_3, P_27_4, P_31_0, P_31_1, P_31_2, P_31_3, P_31_4, P_31_5, P_31_6, P_32_2, P_32_8, P_32_9, P_32_10, P_32_15, P_32_16, P_32_18, P_32_19, P_32_23, K_0, K_1, K_7, K_10, K_14, K_16, K_18, K_27, K_31, K_32, e_isWhole_y r1 r3 hi c4 (show 0 < l by omega) (show l < 2 ^ 31 by omega), eq_true hg, L_35 hi16, c2, hp2, eq_true hp']
      · refine ⟨-1, M b F G n sw, M b F G n sw, ?_, ?_, rfl, F, G, n, sw, rfl, hR⟩
        · unfold fX8_cased
          simp only [Option.bind_some, bI_0, Decidable.not_not, nm, b2, zr, e_isWithin, e_in, e_isGlass8, e_isGlass9, reduceIte, not_false_eq_true, not_true_eq_false, if_true, if_false, and_self, z01, z10, c00, c11, true_and, and_true, R_0_0, R_0_1, R_0_3, R_0_4, R_0_5, R_0_6, R_0_7, R_0_8, R_0_9, R_1_0, R_1_1, R_1_2, R_1_3, R_7_0, R_7_1, R_10_0, R_10_1, R_10_2, R_14_0, R_16_0, R_18_0, R_18_1, R_18_2, R_18_4, R_18_5, R_18_6, R_18_8, R_18_9, R_27_0, R_27_1, R_27_2, R_32_0, R_32_1, R_32_3, R_32_4, R_32_5, R_32_6, R_32_7, R_32_11, R_32_12, R_32_13, R_32_14, R_32_17, R_32_20, R_32_21, R_32_22, R_32_24, R_32_25, R_32_26, R_32_27, R_32_28, R_32_29, R_32_30, R_32_31, I_0_2, I_1_4, I_7_2, I_14_1, I_16_1, I_18_3, I_18_7, I_27_3, I_27_4, I_31_0, I_31_1, I_31_2, I_31_3, I_31_4, I_31_5, I_31_6, I_32_2, I_32_8, I_32_9, I_32_10, I_32_15, I_32_16, I_32_18, I_32_19, J_0_10, J_32_23, P_0_2, P_0_10, P_1_4, P_7_2, P_14_1, P_16_1, P_18_3, P_18_7, P_27_3, P_27_4, P_31_0, P_31_1, P_31_2, P_31_3, P_31_4, P_31_5, P_31_6, P_32_2, P_32_8, P_32_9, P_32_10, P_32_15, P_32_16, P_32_18, P_32_19, P_32_23, K_0, K_1, K_7, K_10, K_14, K_16, K_18, K_27, K_31, K_32, e_unused_y r1 r2 hi c3 (show 0 < l by omega) (show l < 2 ^ 31 by omega), eq_false hg, reduceCtorEq]
        · unfold fX9_cased
          simp only [Option.bind_some, bI_0, Decidable.not_not, nm, b2, zr, e_isWithin, e_in, e_isGlass8, e_isGlass9, reduceIte, not_false_eq_true, not_true_eq_false, if_true, if_false, and_self, z01, z10, c00, c11, true_and, and_true, R_0_0, R_0_1, R_0_3, R_0_4, R_0_5, R_0_6, R_0_7, R_0_8, R_0_9, R_1_0, R_1_1, R_1_2, R_1_3, R_7_0, R_7_1, R_10_0, R_10_1, R_10_2, R_14_0, R_16_0, R_18_0, R_18_1, R_18_2, R_18_4, R_18_5, R_18_6, R_18_8, R_18_9, R_27_0, R_27_1, R_27_2, R_32_0, R_32_1, R_32_3, R_32_4, R_32_5, R_32_6, R_32_7, R_32_11, R_32_12, R_32_13, R_32_14, R_32_17, R_32_20, R_32_21, R_32_22, R_32_24, R_32_25, R_32_26, R_32_27, R_32_28, R_32_29, R_32_30, R_32_31, I_0_2, I_1_4, I_7_2, I_14_1, I_16_1, I_18_3, I_18_7, I_27_3, I_27_4, I_31_0, I_31_1, I_31_2, I_31_3, I_31_4, I_31_5, I_31_6, I_32_2, I_32_8, I_32_9, I_32_10, I_32_15, I_32_16, I_32_18, I_32_19, J_0_10, J_32_23, P_0_2, P_0_10, P_1_4, P_7_2, P_14_1, P_16_1, P_18_3, P_18_7, P_27_3, P_27_4, P_31_0, P_31_1, P_31_2, P_31_3, P_31_4, P_31_5, P_31_6, P_32_2, P_32_8, P_32_9, P_32_10, P_32_15, P_32_16, P_32_18, P_32_19, P_32_23, K_0, K_1, K_7, K_10, K_14, K_16, K_18, K_27, K_31, K_32, e_isWhole_y r1 r3 hi c4 (show 0 < l by omega) (show l < 2 ^ 31 by omega), eq_false hg]
  · refine ⟨-1, M b F G n sw, M b F G n sw, ?_, ?_, rfl, F, G, n, sw, rfl, hR⟩
    · unfold fX8_cased
      simp only [Option.bind_some, bI_0, Decidable.not_not, nm, b2, zr, e_isWithin, e_in, e_isGlass8, e_isGlass9, reduceIte, not_false_eq_true, not_true_eq_false, if_true, if_false, and_self, z01, z10, c00, c11, true_and, and_true, R_0_0, R_0_1, R_0_3, R_0_4, R_0_5, R_0_6, R_0_7, R_0_8, R_0_9, R_1_0, R_1_1, R_1_2, R_1_3, R_7_0, R_7_1, R_10_0, R_10_1, R_10_2, R_14_0, R_16_0, R_18_0, R_18_1, R_18_2, R_18_4, R_18_5, R_18_6, R_18_8, R_18_9, R_27_0, R_27_1, R_27_2, R_32_0, R_32_1, R_32_3, R_32_4, R_32_5, R_32_6, R_32_7, R_32_11, R_32_12, R_32_13, R_32_14, R_32_17, R_32_20, R_32_21, R_32_22, R_32_24, R_32_25, R_32_26, R_32_27, R_32_28, R_32_29, R_32_30, R_32_31, I_0_2, I_1_4, I_7_2, I_14_1, I_16_1, I_18_3, I_18_7, I_27_3, I_27_4, I_31_0, I_31_1, I_31_2, I_31_3, I_31_4, I_31_5, I_31_6, I_32_2, I_32_8, I_32_9, I_32_10, I_32_15, I_32_16, I_32_18, I_32_19, J_0_10, J_32_23, P_0_2, P_0_10, P_1_4, P_7_2, P_14_1, P_16_1, P_18_3, P_18_7, P_27_3, P_27_4, P_31_0, P_31_1, P_31_2, P_31_3, P_31_4, P_31_5, P_31_6, P_32_2, P_32_8, P_32_9, P_32_10, P_32_15, P_32_16, P_32_18, P_32_19, P_32_23, K_0, K_1, K_7, K_10, K_14, K_16, K_18, K_27, K_31, K_32, e_unused_n r1 r2 hx]
    · unfold fX9_cased
      simp only [Option.bind_some, bI_0, Decidable.not_not, nm, b2, zr, e_isWithin, e_in, e_isGlass8, e_isGlass9, reduceIte, not_false_eq_true, not_true_eq_false, if_true, if_false, and_self, z01, z10, c00, c11, true_and, and_true, R_0_0, R_0_1, R_0_3, R_0_4, R_0_5, R_0_6, R_0_7, R_0_8, R_0_9, R_1_0, R_1_1, R_1_2, R_1_3, R_7_0, R_7_1, R_10_0, R_10_1, R_10_2, R_14_0, R_16_0, R_18_0, R_18_1, R_18_2, R_18_4, R_18_5, R_18_6, R_18_8, R_18_9, R_27_0, R_27_1, R_27_2, R_32_0, R_32_1, R_32_3, R_32_4, R_32_5, R_32_6, R_32_7, R_32_11, R_32_12, R_32_13, R_32_14, R_32_17, R_32_20, R_32_21, R_32_22, R_32_24, R_32_25, R_32_26, R_32_27, R_32_28, R_32_29, R_32_30, R_32_31, I_0_2, I_1_4, I_7_2, I_14_1, I_16_1, I_18_3, I_18_7, I_27_3, I_27_4, I_31_0, I_31_1, I_31_2, I_31_3, I_31_4, I_31_5, I_31_6, I_32_2, I_32_8, I_32_9, I_32_10, I_32_15, I_32_16, I_32_18, I_32_19, J_0_10, J_32_23, P_0_2, P_0_10, P_1_4, P_7_2, P_14_1, P_16_1, P_18_3, P_18_7, P_27_3, P_27_4, P_31_0, P_31_1, P_31_2, P_31_3, P_31_4, P_31_5, P_31_6, P_32_2, P_32_8, P_32_9, P_32_10, P_32_15, P_32_16, P_32_18, P_32_19, P_32_23, K_0, K_1, K_7, K_10, K_14, K_16, K_18, K_27, K_31, K_32, e_isWhole_n r1 r3 hx]
