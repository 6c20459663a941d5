/-! ===== 484: bundle, the step ===== -/
def RnI (F5 : mI) (n : Nat) (g : Nat → Int32) (D : Nat → Prop) (F' : mI) : Prop := (∀ k j, ¬ (k = 39 ∧ 64 * n ≤ j ∧ j < 64 * n + 64) → F' k j = F5 k j) ∧ ∀ j, D j → F' 39 (64 * n + j) = g j
theorem RnI_e {F5 F' : mI} {n : Nat} {g : Nat → Int32} {D D' : Nat → Prop} (h : RnI F5 n g D F') (e : ∀ j, D' j → D j) : RnI F5 n g D' F' := ⟨h.1, fun j hj => h.2 j (e j hj)⟩
section B5
variable {b : Nat} {G : mJ} {n n' : Nat} {sw : Bool} {N : Nat}
theorem e_bd53 {F F5 : mI} {p k : Nat} {l x2 : Int32} (hn : n < 16) (hk : k ≤ 4) (hp1 : 1 ≤ p) (hkp : k * p ≤ 8) (hT : TB F n k) (hno : ∀ y, y < k → ∀ x, x < k → ¬ F 40 (4 * y + x) = -9) (h10 : F5 32 10 = nI k) (h32 : F5 32 2 = nI n) (h40 : ∀ j, F5 40 j = F 40 j) (h41 : ∀ j, F5 41 j = F 41 j) (hval : ∀ c x y, c < n → x < p → y < p → (∃ y0 x0, y0 < k ∧ x0 < k ∧ c = cN F (4 * y0 + x0)) → F5 39 (64 * c + (8 * y + x)) = F (58 + 3 * c) (8 * y + x)) (hN : 20 ≤ N) : ∃ F'', lX9_bundle_53 N (some (b + 32)) l x2 (nI p) N 0 (M b F5 G n' sw) = some (M b F'' G n' sw) ∧ RnI F5 n (gB F p) (fun j => ∃ y x, y < k * p ∧ x < k * p ∧ j = 8 * y + x) F'' := by
  have hp8 : p ≤ 8 := by
    have : 1 * p ≤ k * p := Nat.mul_le_mul_right p (by have := hT.1; omega)
    omega
  have hdiv : ∀ x, x < k * p → x / p < k := fun x h => Nat.div_lt_of_lt_mul (by rw [Nat.mul_comm]; exact h)
  have hp0 : ¬ nI p = 0 := ne0 (by omega) (by omega)
  have inner : ∀ (y : Nat), y < k * p → ∀ (D : Nat → Prop) (m x : Nat) (F' : mI), x ≤ k * p → k * p - x < m → RnI F5 n (gB F p) (fun j => D j ∨ ∃ x', x' < x ∧ j = 8 * y + x') F' → ∃ F'', lX9_bundle_67 N (some (b + 32)) l x2 (nI p) (nI y) m (nI x) (M b F' G n' sw) = some (M b F'' G n' sw) ∧ RnI F5 n (gB F p) (fun j => D j ∨ ∃ x', x' < k * p ∧ j = 8 * y + x') F'' := by
    intro y hy D m
    induction m with
    | zero => intro x F' _ h; omega
    | succ m ih =>
      intro x F' hx hm hP
      have g10 : F' 32 10 = nI k := by rw [hP.1 _ _ (by omega)]; exact h10
      have g2 : F' 32 2 = nI n := by rw [hP.1 _ _ (by omega)]; exact h32
      rw [lX9_bundle_67, I_32_10, g10]
      simp only [Option.bind_some, pk_mul]
      by_cases hxk : x = k * p
      · subst hxk
        refine ⟨F', ?_, hP⟩
        rw [if_pos (nI_le (Nat.le_refl _) (by omega))]
      · have hx' : x < k * p := by omega
        have dx := hdiv x hx'
        have dy := hdiv y hy
        have mx : x % p < p := Nat.mod_lt _ (by omega)
        have my : y % p < p := Nat.mod_lt _ (by omega)
        have jl : 4 * (y / p) + x / p < 16 := by omega
        obtain ⟨d1, d2, -, -, d5, d6, -⟩ := TB_c (by omega) hT jl (hno _ dy _ dx)
        have g40 : F' 40 (4 * (y / p) + x / p) = nI (cN F (4 * (y / p) + x / p)) := by rw [hP.1 _ _ (by omega), h40]; exact d2
        have g41 : F' 41 (4 * (y / p) + x / p) = nI (tN F (4 * (y / p) + x / p)) := by rw [hP.1 _ _ (by omega), h41]; exact d5
        rw [if_neg (nI_ge hx' (by omega)), if_neg hp0, if_neg hp0]
        simp only [nm]
        rw [pk_div (show y < 2 ^ 31 by omega) (show 0 < p by omega) (by omega), pk_div (show x < 2 ^ 31 by omega) (show 0 < p by omega) (by omega), ix4', I_32_2, g2]
        simp only [Option.bind_some]
        rw [R_32_11]
        simp only [Option.bind_some]
        rw [L_40 jl, g40]
        simp only [Option.bind_some]
        rw [if_neg hp0, if_neg hp0, R_32_12]
        simp only [Option.bind_some]
        rw [L_41 jl, g41]
        simp only [Option.bind_some]
        rw [← pk_div (show y < 2 ^ 31 by omega) (show 0 < p by omega) (by omega), ← pk_div (show x < 2 ^ 31 by omega) (show 0 < p by omega) (by omega), pk_rem (show x < 2 ^ 31 by omega) (show 0 < p by omega) (by omega), pk_rem (show y < 2 ^ 31 by omega) (show 0 < p by omega) (by omega), e_shown (show 10 ≤ N by omega) (show cN F (4 * (y / p) + x / p) ≤ 17 by omega) hp8 mx my (show tN F (4 * (y / p) + x / p) < 2 ^ 31 by omega), Nat.mod_eq_of_lt d6]
        simp only [Option.bind_some]
        have hl := itr_lt (p := p) (tN F (4 * (y / p) + x / p)) (x % p) (y % p) mx my
        have hv : F' 39 (64 * cN F (4 * (y / p) + x / p) + 8 * (itr p (tN F (4 * (y / p) + x / p)) (x % p) (y % p)).2 + (itr p (tN F (4 * (y / p) + x / p)) (x % p) (y % p)).1) = gB F p (8 * y + x) := by
          rw [hP.1 _ _ (by omega), Nat.add_assoc, hval _ _ _ d1 hl.1 hl.2 ⟨y / p, x / p, dy, dx, rfl⟩]
          unfold gB
          rw [show (8 * y + x) / 8 = y by omega, show (8 * y + x) % 8 = x by omega]
          rfl
        rw [hv, e_put9 (show 64 * n + 8 * y + x < 1152 by omega)]
        simp only [Option.bind_some, nI_1]
        refine ih (x + 1) _ (by omega) (by omega) ⟨fun k' j hk' => ?_, fun j hj => ?_⟩
        · rw [u2_ne _ _ _ _ (by omega)]
          exact hP.1 k' j hk'
        · by_cases e : j = 8 * y + x
          · rw [e, show 64 * n + (8 * y + x) = 64 * n + 8 * y + x by omega, u2_eq]
          · rw [u2_ne _ _ _ _ (by omega)]
            apply hP.2
            rcases hj with hj | ⟨x', h1, h2⟩
            · exact Or.inl hj
            · refine Or.inr ⟨x', ?_, h2⟩
              have : x' ≠ x := fun z => e (z ▸ h2)
              omega
  have outer : ∀ (m y : Nat) (F' : mI), y ≤ k * p → k * p - y < m → RnI F5 n (gB F p) (fun j => ∃ y' x, y' < y ∧ x < k * p ∧ j = 8 * y' + x) F' → ∃ F'', lX9_bundle_53 N (some (b + 32)) l x2 (nI p) m (nI y) (M b F' G n' sw) = some (M b F'' G n' sw) ∧ RnI F5 n (gB F p) (fun j => ∃ y x, y < k * p ∧ x < k * p ∧ j = 8 * y + x) F'' := by
    intro m
    induction m with
    | zero => intro y F' _ h; omega
    | succ m ih =>
      intro y F' hy hm hP
      have g10 : F' 32 10 = nI k := by rw [hP.1 _ _ (by omega)]; exact h10
      rw [lX9_bundle_53, I_32_10, g10]
      simp only [Option.bind_some, pk_mul]
      by_cases hyk : y = k * p
      · subst hyk
        refine ⟨F', ?_, hP⟩
        rw [if_pos (nI_le (Nat.le_refl _) (by omega))]
      · obtain ⟨F'', e1, e2⟩ := inner y (by omega) (fun j => ∃ y' x, y' < y ∧ x < k * p ∧ j = 8 * y' + x) N 0 F' (by omega) (by omega) (RnI_e hP (fun j hj => by
          rcases hj with hj | ⟨x', h, -⟩
          · exact hj
          · omega))
        rw [show nI 0 = (0 : Int32) from rfl] at e1
        rw [if_neg (nI_ge (by omega) (by omega)), e1]
        simp only [Option.bind_some, nm, nI_1]
        refine ih (y + 1) F'' (by omega) (by omega) (RnI_e e2 (fun j hj => ?_))
        obtain ⟨y', x, z1, z2, z3⟩ := hj
        by_cases e : y' = y
        · subst e; exact Or.inr ⟨x, z2, z3⟩
        · exact Or.inl ⟨y', x, by omega, z2, z3⟩
  exact outer N 0 F5 (by omega) (by omega) ⟨fun _ _ _ => rfl, fun j hj => by
    obtain ⟨y', x, z1, -⟩ := hj
    omega⟩
/-- lengths are taken: the reference -/
theorem e_take9 {F F6 : mI} {k l : Nat} {x2 x3 : Int32} (hn : n ≤ 16) (h32 : F6 32 2 = nI n) (h10 : F6 32 10 = nI k) (h40 : ∀ j, F6 40 j = F 40 j) (hT : TB F n k) (hlen : ∀ i, i < n → ∃ q, q ≤ 9999 ∧ l * Pl F i ≤ q ∧ F6 36 i = nI q) (hN : 20 ≤ N) : ∃ F'', lX9_bundle_146 N (some (b + 32)) (nI l) x2 x3 N 0 (M b F6 G n' sw) = some (M b F'' G n' sw) ∧ (∀ k j, ¬ (k = 36 ∧ j < n) → F'' k j = F6 k j) ∧ ∀ i q, i < n → F6 36 i = nI q → l * Pl F i ≤ q → F'' 36 i = nI (q - l * Pl F i) := by
  have key : ∀ (m i : Nat) (F' : mI), i ≤ n → n - i < m → (∀ k j, ¬ (k = 36 ∧ j < i) → F' k j = F6 k j) → (∀ i' q, i' < i → F6 36 i' = nI q → l * Pl F i' ≤ q → F' 36 i' = nI (q - l * Pl F i')) → ∃ F'', lX9_bundle_146 N (some (b + 32)) (nI l) x2 x3 m (nI i) (M b F' G n' sw) = some (M b F'' G n' sw) ∧ (∀ k j, ¬ (k = 36 ∧ j < n) → F'' k j = F6 k j) ∧ ∀ i q, i < n → F6 36 i = nI q → l * Pl F i ≤ q → F'' 36 i = nI (q - l * Pl F i) := by
    intro m
    induction m with
    | zero => intro i F' _ h; omega
    | succ m ih =>
      intro i F' hi hm h1 h3
      have g2 : F' 32 2 = nI n := by rw [h1 _ _ (by omega)]; exact h32
      have g10 : F' 32 10 = nI k := by rw [h1 _ _ (by omega)]; exact h10
      rw [lX9_bundle_146, I_32_2, g2]
      simp only [Option.bind_some]
      by_cases hin : i = n
      · subst hin
        refine ⟨F', ?_, h1, h3⟩
        rw [if_pos (nI_le (Nat.le_refl _) (by omega))]
      · have hi' : i < n := by omega
        obtain ⟨q, q9, q1, q2⟩ := hlen i hi'
        have g1 : F' 36 i = nI q := by rw [h1 _ _ (by omega)]; exact q2
        have hpl : fX9_placesOf N (M b F' G n' sw) (some (b + 32)) (nI i) = some (nI (Pl F i)) := by
          rw [e_places9 hT.2.1 g10 hN, ← pl9 hT (by omega)]
          refine congrArg some (srI_congr k 0 (fun y _ _ => srI_congr k 0 (fun x _ _ => bI_c ?_)))
          rw [h1 _ _ (by omega), h40]
        rw [if_neg (nI_ge hi' (by omega)), R_32_4]
        simp only [Option.bind_some]
        rw [L_36 (show i < 16 by omega), g1]
        simp only [Option.bind_some, hpl]
        rw [pk_mul, Nat.mul_comm (Pl F i) l, pk_sub q1, T_36 (show i < 16 by omega)]
        simp only [Option.bind_some, nm, nI_1]
        refine ih (i + 1) _ (by omega) (by omega) (fun k j hk => ?_) (fun i' q' hi2 hq hle => ?_)
        · rw [u2_ne _ _ _ _ (by omega)]
          exact h1 k j (by omega)
        · by_cases e : i' = i
          · subst e
            rw [u2_eq]
            have e2 : nI q' = nI q := hq.symm.trans q2
            rw [← pk_sub q1, ← pk_sub hle, e2]
          · rw [u2_ne _ _ _ _ (by omega)]
            exact h3 i' q' (by omega) hq hle
  exact key N 0 F6 (by omega) (by omega) (fun _ _ _ => rfl) (fun i' q h => by omega)
end B5
theorem st_bundle (b : Nat) : St_bundle b (b + 32) (Inv b (b + 32)) := by
  rintro S ⟨-, F, G, n, sw, rfl, hR⟩ a1
  obtain ⟨r1, r2, r3, r4, r5, r6, ⟨k, k2, k4, t1, t2, t3⟩, r8, r9, r10, r11, r12, r13⟩ := id hR
  have hT : TB F n k := ⟨k2, k4, t1, t2, t3⟩
  have hC : CR F n := r8
  by_cases h : (1 : Int32) ≤ a1 ∧ a1 ≤ 9999
  rotate_left
  · refine ⟨-1, M b F G n sw, M b F G n sw, ?_, ?_, rfl, F, G, n, sw, rfl, hR⟩
    · unfold fX8_bundle
      simp only [Option.bind_some, bI_0, Decidable.not_not, nm, b2, zr, e_isWithin, e_in, e_isGlass8, e_isGlass9, reduceIte, not_false_eq_true, not_true_eq_false, if_true, if_false, and_self, z01, z10, c00, c11, true_and, and_true, R_0_0, R_0_1, R_0_3, R_0_4, R_0_5, R_0_6, R_0_7, R_0_8, R_0_9, R_1_0, R_1_1, R_1_2, R_1_3, R_7_0, R_7_1, R_10_0, R_10_1, R_10_2, R_14_0, R_16_0, R_18_0, R_18_1, R_18_2, R_18_4, R_18_5, R_18_6, R_18_8, R_18_9, R_27_0, R_27_1, R_27_2, R_32_0, R_32_1, R_32_3, R_32_4, R_32_5, R_32_6, R_32_7, R_32_11, R_32_12, R_32_13, R_32_14, R_32_17, R_32_20, R_32_21, R_32_22, R_32_24, R_32_25, R_32_26, R_32_27, R_32_28, R_32_29, R_32_30, R_32_31, I_0_2, I_1_4, I_7_2, I_14_1, I_16_1, I_18_3, I_18_7, I_27_3, I_27_4, I_31_0, I_31_1, I_31_2, I_31_3, I_31_4, I_31_5, I_31_6, I_32_2, I_32_8, I_32_9, I_32_10, I_32_15, I_32_16, I_32_18, I_32_19, J_0_10, J_32_23, P_0_2, P_0_10, P_1_4, P_7_2, P_14_1, P_16_1, P_18_3, P_18_7, P_27_3, P_27_4, P_31_0, P_31_1, P_31_2, P_31_3, P_31_4, P_31_5, P_31_6, P_32_2, P_32_8, P_32_9, P_32_10, P_32_15, P_32_16, P_32_18, P_32_19, P_32_23, K_0, K_1, K_7, K_10, K_14, K_16, K_18, K_27, K_31, K_32, eq_false h]
    · unfold fX9_bundle
      simp only [Option.bind_some, bI_0, Decidable.not_not, nm, b2, zr, e_isWithin, e_in, e_isGlass8, e_isGlass9, reduceIte, not_false_eq_true, not_true_eq_false, if_true, if_false, and_self, z01, z10, c00, c11, true_and, and_true, R_0_0, R_0_1, R_0_3, R_0_4, R_0_5, R_0_6, R_0_7, R_0_8, R_0_9, R_1_0, R_1_1, R_1_2, R_1_3, R_7_0, R_7_1, R_10_0, R_10_1, R_10_2, R_14_0, R_16_0, R_18_0, R_18_1, R_18_2, R_18_4, R_18_5, R_18_6, R_18_8, R_18_9, R_27_0, R_27_1, R_27_2, R_32_0, R_32_1, R_32_3, R_32_4, R_32_5, R_32_6, R_32_7, R_32_11, R_32_12, R_32_13, R_32_14, R_32_17, R_32_20, R_32_21, R_32_22, R_32_24, R_32_25, R_32_26, R_32_27, R_32_28, R_32_29, R_32_30, R_32_31, I_0_2, I_1_4, I_7_2, I_14_1, I_16_1, I_18_3, I_18_7, I_27_3, I_27_4, I_31_0, I_31_1, I_31_2, I_31_3, I_31_4, I_31_5, I_31_6, I_32_2, I_32_8, I_32_9, I_32_10, I_32_15, I_32_16, I_32_18, I_32_19, J_0_10, J_32_23, P_0_2, P_0_10, P_1_4, P_7_2, P_14_1, P_16_1, P_18_3, P_18_7, P_27_3, P_27_4, P_31_0, P_31_1, P_31_2, P_31_3, P_31_4, P_31_5, P_31_6, P_32_2, P_32_8, P_32_9, P_32_10, P_32_15, P_32_16, P_32_18, P_32_19, P_32_23, K_0, K_1, K_7, K_10, K_14, K_16, K_18, K_27, K_31, K_32, eq_false h]
  obtain ⟨l, l1, l9, rfl⟩ := rng 1 9999 rfl rfl (by decide) (by decide) h
  have hca : fX7_caneAt NF (M b F G n sw) (some (b + 7)) 0 0 = some (F 8 (4 * 0 + 0)) := e_caneAt (x := 0) (y := 0) k4 t1 (by omega) (by omega)
  have stt : fX8_bundle NF b (M b F G n sw) (some b) (nI l) = some (-2, M b F G n sw) → fX9_bundle NF (M b F G n sw) (some (b + 32)) (nI l) = some (-2, M b F G n sw) → ∃ (v : Int32) (S1 : pH) (S2 : pH), fX8_bundle NF b (M b F G n sw) (some b) (nI l) = some (v, S1) ∧ fX9_bundle NF S1 (some (b + 32)) (nI l) = some (v, S2) ∧ Inv b (b + 32) S2 := fun z1 z2 => ⟨-2, _, _, z1, z2, rfl, F, G, n, sw, rfl, hR⟩
  by_cases h9 : F 40 0 = -9
  · apply stt
    · have e8 : F 8 (4 * 0 + 0) = -9 := (t3 0 (by omega)).1.trans h9
      unfold fX8_bundle
      simp only [Option.bind_some, bI_0, Decidable.not_not, nm, b2, zr, e_isWithin, e_in, e_isGlass8, e_isGlass9, reduceIte, not_false_eq_true, not_true_eq_false, if_true, if_false, and_self, z01, z10, c00, c11, true_and, and_true, R_0_0, R_0_1, R_0_3, R_0_4, R_0_5, R_0_6, R_0_7, R_0_8, R_0_9, R_1_0, R_1_1, R_1_2, R_1_3, R_7_0, R_7_1, R_10_0, R_10_1, R_10_2, R_14_0, R_16_0, R_18_0, R_18_1, R_18_2, R_18_4, R_18_5, R_18_6, R_18_8, R_18_9, R_27_0, R_27_1, R_27_2, R_32_0, R_32_1, R_32_3, R_32_4, R_32_5, R_32_6, R_32_7, R_32_11, R_32_12, R_32_13, R_32_14, R_32_17, R_32_20, R_32_21, R_32_22, R_32_24, R_32_25, R_32_26, R_32_27, R_32_28, R_32_29, R_32_30, R_32_31, I_0_2, I_1_4, I_7_2, I_14_1, I_16_1, I_18_3, I_18_7, I_27_3, I_27_4, I_31_0, I_31_1, I_31_2, I_31_3, I_31_4, I_31_5, I_31_6, I_32_2, I_32_8, I_32_9, I_32_10, I_32_15, I_32_16, I_32_18, I_32_19, J_0_10, J_32_23, P_0_2, P_0_10, P_1_4, P_7_2, P_14_1, P_16_1, P_18_3, P_18_7, P_27_3, P_27_4, P_31_0, P_31_1, P_31_2, P_31_3, P_31_4, P_31_5, P_31_6, P_32_2, P_32_8, P_32_9, P_32_10, P_32_15, P_32_16, P_32_18, P_32_19, P_32_23, K_0, K_1, K_7, K_10, K_14, K_16, K_18, K_27, K_31, K_32, eq_true h, hca, e8, e_find_n r1 r2 (show ¬ rg n (-9) from fun z => absurd z.1 (by decide))]
    · unfold fX9_bundle
      simp only [Option.bind_some, bI_0, Decidable.not_not, nm, b2, zr, e_isWithin, e_in, e_isGlass8, e_isGlass9, reduceIte, not_false_eq_true, not_true_eq_false, if_true, if_false, and_self, z01, z10, c00, c11, true_and, and_true, R_0_0, R_0_1, R_0_3, R_0_4, R_0_5, R_0_6, R_0_7, R_0_8, R_0_9, R_1_0, R_1_1, R_1_2, R_1_3, R_7_0, R_7_1, R_10_0, R_10_1, R_10_2, R_14_0, R_16_0, R_18_0, R_18_1, R_18_2, R_18_4, R_18_5, R_18_6, R_18_8, R_18_9, R_27_0, R_27_1, R_27_2, R_32_0, R_32_1, R_32_3, R_32_4, R_32_5, R_32_6, R_32_7, R_32_11, R_32_12, R_32_13, R_32_14, R_32_17, R_32_20, R_32_21, R_32_22, R_32_24, R_32_25, R_32_26, R_32_27, R_32_28, R_32_29, R_32_30, R_32_31, I_0_2, I_1_4, I_7_2, I_14_1, I_16_1, I_18_3, I_18_7, I_27_3, I_27_4, I_31_0, I_31_1, I_31_2, I_31_3, I_31_4, I_31_5, I_31_6, I_32_2, I_32_8, I_32_9, I_32_10, I_32_15, I_32_16, I_32_18, I_32_19, J_0_10, J_32_23, P_0_2, P_0_10, P_1_4, P_7_2, P_14_1, P_16_1, P_18_3, P_18_7, P_27_3, P_27_4, P_31_0, P_31_1, P_31_2, P_31_3, P_31_4, P_31_5, P_31_6, P_32_2, P_32_8, P_32_9, P_32_10, P_32_15, P_32_16, P_32_18, P_32_19, P_32_23, K_0, K_1, K_7, K_10, K_14, K_16, K_18, K_27, K_31, K_32, eq_true h, e_cannot (N := NF) (l := l) hT (x := 0) (y := 0) (by omega) (by omega) h9 (by decide)]
  obtain ⟨d1, d2, d3, -⟩ := TB_c r1 hT (show 0 < 16 by omega) h9
  obtain ⟨p, l0, f, t0, ⟨p1, p8, -, ⟨e, e12, ef⟩, -⟩, c1, c2, -, -, c5, c6, -, -, -⟩ := r8 _ d1
  have f1 : 1 ≤ f := by rw [ef]; exact Nat.pow_pos (by omega)
  have f2 : f < 2 ^ 31 := by rw [ef]; exact Nat.pow_lt_pow_right (by omega) (by omega)
  have hal := e_alike (N := NF) (b := b) (G := G) (sw := sw) r1 r2 hT hC d1 c2 c6 p8 (by decide)
  have hlo := e_long (N := NF) (b := b) (G := G) (sw := sw) (l := l) r1 r2 hT hC l9 (by decide)
  have e8 : F 8 (4 * 0 + 0) = nI (cN F 0) := d3
  by_cases hno : ∀ y, y < k → ∀ x, x < k → ¬ F 40 (4 * y + x) = -9
  rotate_left
  · obtain ⟨y, x, hy, hx, hxy⟩ : ∃ y x, y < k ∧ x < k ∧ F 40 (4 * y + x) = -9 := by
      apply Classical.byContradiction
      intro z
      exact hno (fun y hy x hx w => z ⟨y, x, hy, hx, w⟩)
    have hna : ¬ (k * p ≤ 8 ∧ ∀ y, y < k → ∀ x, x < k → qB F p f x y = true) := fun z => (of_decide_eq_true (z.2 y hy x hx)).1 hxy
    apply stt
    · unfold fX8_bundle
      simp only [Option.bind_some, bI_0, Decidable.not_not, nm, b2, zr, e_isWithin, e_in, e_isGlass8, e_isGlass9, reduceIte, not_false_eq_true, not_true_eq_false, if_true, if_false, and_self, z01, z10, c00, c11, true_and, and_true, R_0_0, R_0_1, R_0_3, R_0_4, R_0_5, R_0_6, R_0_7, R_0_8, R_0_9, R_1_0, R_1_1, R_1_2, R_1_3, R_7_0, R_7_1, R_10_0, R_10_1, R_10_2, R_14_0, R_16_0, R_18_0, R_18_1, R_18_2, R_18_4, R_18_5, R_18_6, R_18_8, R_18_9, R_27_0, R_27_1, R_27_2, R_32_0, R_32_1, R_32_3, R_32_4, R_32_5, R_32_6, R_32_7, R_32_11, R_32_12, R_32_13, R_32_14, R_32_17, R_32_20, R_32_21, R_32_22, R_32_24, R_32_25, R_32_26, R_32_27, R_32_28, R_32_29, R_32_30, R_32_31, I_0_2, I_1_4, I_7_2, I_14_1, I_16_1, I_18_3, I_18_7, I_27_3, I_27_4, I_31_0, I_31_1, I_31_2, I_31_3, I_31_4, I_31_5, I_31_6, I_32_2, I_32_8, I_32_9, I_32_10, I_32_15, I_32_16, I_32_18, I_32_19, J_0_10, J_32_23, P_0_2, P_0_10, P_1_4, P_7_2, P_14_1, P_16_1, P_18_3, P_18_7, P_27_3, P_27_4, P_31_0, P_31_1, P_31_2, P_31_3, P_31_4, P_31_5, P_31_6, P_32_2, P_32_8, P_32_9, P_32_10, P_32_15, P_32_16, P_32_18, P_32_19, P_32_23, K_0, K_1, K_7, K_10, K_14, K_16, K_18, K_27, K_31, K_32, eq_true h, hca, e8, e_find_y r1 r2 d1, hal, eq_false hna, reduceCtorEq]
    · unfold fX9_bundle
      simp only [Option.bind_some, bI_0, Decidable.not_not, nm, b2, zr, e_isWithin, e_in, e_isGlass8, e_isGlass9, reduceIte, not_false_eq_true, not_true_eq_false, if_true, if_false, and_self, z01, z10, c00, c11, true_and, and_true, R_0_0, R_0_1, R_0_3, R_0_4, R_0_5, R_0_6, R_0_7, R_0_8, R_0_9, R_1_0, R_1_1, R_1_2, R_1_3, R_7_0, R_7_1, R_10_0, R_10_1, R_10_2, R_14_0, R_16_0, R_18_0, R_18_1, R_18_2, R_18_4, R_18_5, R_18_6, R_18_8, R_18_9, R_27_0, R_27_1, R_27_2, R_32_0, R_32_1, R_32_3, R_32_4, R_32_5, R_32_6, R_32_7, R_32_11, R_32_12, R_32_13, R_32_14, R_32_17, R_32_20, R_32_21, R_32_22, R_32_24, R_32_25, R_32_26, R_32_27, R_32_28, R_32_29, R_32_30, R_32_31, I_0_2, I_1_4, I_7_2, I_14_1, I_16_1, I_18_3, I_18_7, I_27_3, I_27_4, I_31_0, I_31_1, I_31_2, I_31_3, I_31_4, I_31_5, I_31_6, I_32_2, I_32_8, I_32_9, I_32_10, I_32_15, I_32_16, I_32_18, I_32_19, J_0_10, J_32_23, P_0_2, P_0_10, P_1_4, P_7_2, P_14_1, P_16_1, P_18_3, P_18_7, P_27_3, P_27_4, P_31_0, P_31_1, P_31_2, P_31_3, P_31_4, P_31_5, P_31_6, P_32_2, P_32_8, P_32_9, P_32_10, P_32_15, P_32_16, P_32_18, P_32_19, P_32_23, K_0, K_1, K_7, K_10, K_14, K_16, K_18, K_27, K_31, K_32, eq_true h, e_cannot (N := NF) (l := l) hT hx hy hxy (by decide)]
  have hC9 : ∀ i, i < n → ∃ l', l' ≤ 9999 ∧ F 36 i = nI l' := fun i hi => by
    obtain ⟨_, q, _, _, ⟨-, -, q9, -, -⟩, -, -, -, q4, -⟩ := r8 i hi
    exact ⟨q, q9, q4⟩
  by_cases hall : (k * p ≤ 8 ∧ ∀ y, y < k → ∀ x, x < k → qB F p f x y = true) ∧ ∀ i, i < n → lgB F l i = true
  rotate_left
  · have hb : ¬ (k * p ≤ 8 ∧ ∀ i, i < n → okB F p f l i = true) := fun z => by
      obtain ⟨w1, w2⟩ := (can_iff r1 hT hno).mpr z.2
      exact hall ⟨⟨z.1, w1⟩, w2⟩
    have ec := e_can (N := NF) (b := b) (G := G) (n' := n) (sw := sw) r1 r3 hT hC9 l9 h9 c2 c6 p8 hno (by decide)
    apply stt
    · unfold fX8_bundle
      by_cases ha : k * p ≤ 8 ∧ ∀ y, y < k → ∀ x, x < k → qB F p f x y = true
      · have hl : ¬ ∀ i, i < n → lgB F l i = true := fun z => hall ⟨ha, z⟩
        simp only [Option.bind_some, bI_0, Decidable.not_not, nm, b2, zr, e_isWithin, e_in, e_isGlass8, e_isGlass9, reduceIte, not_false_eq_true, not_true_eq_false, if_true, if_false, and_self, z01, z10, c00, c11, true_and, and_true, R_0_0, R_0_1, R_0_3, R_0_4, R_0_5, R_0_6, R_0_7, R_0_8, R_0_9, R_1_0, R_1_1, R_1_2, R_1_3, R_7_0, R_7_1, R_10_0, R_10_1, R_10_2, R_14_0, R_16_0, R_18_0, R_18_1, R_18_2, R_18_4, R_18_5, R_18_6, R_18_8, R_18_9, R_27_0, R_27_1, R_27_2, R_32_0, R_32_1, R_32_3, R_32_4, R_32_5, R_32_6, R_32_7, R_32_11, R_32_12, R_32_13, R_32_14, R_32_17, R_32_20, R_32_21, R_32_22, R_32_24, R_32_25, R_32_26, R_32_27, R_32_28, R_32_29, R_32_30, R_32_31, I_0_2, I_1_4, I_7_2, I_14_1, I_16_1, I_18_3, I_18_7, I_27_3, I_27_4, I_31_0, I_31_1, I_31_2, I_31_3, I_31_4, I_31_5, I_31_6, I_32_2, I_32_8, I_32_9, I_32_10, I_32_15, I_32_16, I_32_18, I_32_19, J_0_10, J_32_23, P_0_2, P_0_10, P_1_4, P_7_2, P_14_1, P_16_1, P_18_3, P_18_7, P_27_3, P_27_4, P_31_0, P_31_1, P_31_2, P_31_3, P_31_4, P_31_5, P_31_6, P_32_2, P_32_8, P_32_9, P_32_10, P_32_15, P_32_16, P_32_18, P_32_19, P_32_23, K_0, K_1, K_7, K_10, K_14, K_16, K_18, K_27, K_31, K_32, eq_true h, hca, e8, e_find_y r1 r2 d1, hal, eq_true ha, hlo, eq_false hl, reduceCtorEq]
      · simp only [Option.bind_some, bI_0, Decidable.not_not, nm, b2, zr, e_isWithin, e_in, e_isGlass8, e_isGlass9, reduceIte, not_false_eq_true, not_true_eq_false, if_true, if_false, and_self, z01, z10, c00, c11, true_and, and_true, R_0_0, R_0_1, R_0_3, R_0_4, R_0_5, R_0_6, R_0_7, R_0_8, R_0_9, R_1_0, R_1_1, R_1_2, R_1_3, R_7_0, R_7_1, R_10_0, R_10_1, R_10_2, R_14_0, R_16_0, R_18_0, R_18_1, R_18_2, R_18_4, R_18_5, R_18_6, R_18_8, R_18_9, R_27_0, R_27_1, R_27_2, R_32_0, R_32_1, R_32_3, R_32_4, R_32_5, R_32_6, R_32_7, R_32_11, R_32_12, R_32_13, R_32_14, R_32_17, R_32_20, R_32_21, R_32_22, R_32_24, R_32_25, R_32_26, R_32_27, R_32_28, R_32_29, R_32_30, R_32_31, I_0_2, I_1_4, I_7_2, I_14_1, I_16_1, I_18_3, I_18_7, I_27_3, I_27_4, I_31_0, I_31_1, I_31_2, I_31_3, I_31_4, I_31_5, I_31_6, I_32_2, I_32_8, I_32_9, I_32_10, I_32_15, I_32_16, I_32_18, I_32_19, J_0_10, J_32_23, P_0_2, P_0_10, P_1_4, P_7_2, P_14_1, P_16_1, P_18_3, P_18_7, P_27_3, P_27_4, P_31_0, P_31_1, P_31_2, P_31_3, P_31_4, P_31_5, P_31_6, P_32_2, P_32_8, P_32_9, P_32_10, P_32_15, P_32_16, P_32_18, P_32_19, P_32_23, K_0, K_1, K_7, K_10, K_14, K_16, K_18, K_27, K_31, K_32, eq_true h, hca, e8, e_find_y r1 r2 d1, hal, eq_false ha, reduceCtorEq]
    · unfold fX9_bundle
      simp only [Option.bind_some, bI_0, Decidable.not_not, nm, b2, zr, e_isWithin, e_in, e_isGlass8, e_isGlass9, reduceIte, not_false_eq_true, not_true_eq_false, if_true, if_false, and_self, z01, z10, c00, c11, true_and, and_true, R_0_0, R_0_1, R_0_3, R_0_4, R_0_5, R_0_6, R_0_7, R_0_8, R_0_9, R_1_0, R_1_1, R_1_2, R_1_3, R_7_0, R_7_1, R_10_0, R_10_1, R_10_2, R_14_0, R_16_0, R_18_0, R_18_1, R_18_2, R_18_4, R_18_5, R_18_6, R_18_8, R_18_9, R_27_0, R_27_1, R_27_2, R_32_0, R_32_1, R_32_3, R_32_4, R_32_5, R_32_6, R_32_7, R_32_11, R_32_12, R_32_13, R_32_14, R_32_17, R_32_20, R_32_21, R_32_22, R_32_24, R_32_25, R_32_26, R_32_27, R_32_28, R_32_29, R_32_30, R_32_31, I_0_2, I_1_4, I_7_2, I_14_1, I_16_1, I_18_3, I_18_7, I_27_3, I_27_4, I_31_0, I_31_1, I_31_2, I_31_3, I_31_4, I_31_5, I_31_6, I_32_2, I_32_8, I_32_9, I_32_10, I_32_15, I_32_16, I_32_18, I_32_19, J_0_10, J_32_23, P_0_2, P_0_10, P_1_4, P_7_2, P_14_1, P_16_1, P_18_3, P_18_7, P_27_3, P_27_4, P_31_0, P_31_1, P_31_2, P_31_3, P_31_4, P_31_5, P_31_6, P_32_2, P_32_8, P_32_9, P_32_10, P_32_15, P_32_16, P_32_18, P_32_19, P_32_23, K_0, K_1, K_7, K_10, K_14, K_16, K_18, K_27, K_31, K_32, eq_true h, ec, eq_false hb]
  obtain ⟨⟨hkp, hqB⟩, hlg⟩ := hall
  have hok : k * p ≤ 8 ∧ ∀ i, i < n → okB F p f l i = true := ⟨hkp, (can_iff r1 hT hno).mp ⟨hqB, hlg⟩⟩
  by_cases hn : n < 16
  rotate_left
  · have hn' : ¬ nI n < (16 : Int32) := nI_nlt (b := 16) (by omega) (by omega)
    have hn9 : nI n = (16 : Int32) := by rw [show n = 16 by omega]; rfl
    have ec := e_can (N := NF) (b := b) (G := G) (n' := n) (sw := sw) r1 r3 hT hC9 l9 h9 c2 c6 p8 hno (by decide)
    refine ⟨-3, M b F G n sw, M b F G n sw, ?_, ?_, rfl, F, G, n, sw, rfl, hR⟩
    · unfold fX8_bundle
      simp only [Option.bind_some, bI_0, Decidable.not_not, nm, b2, zr, e_isWithin, e_in, e_isGlass8, e_isGlass9, reduceIte, not_false_eq_true, not_true_eq_false, if_true, if_false, and_self, z01, z10, c00, c11, true_and, and_true, R_0_0, R_0_1, R_0_3, R_0_4, R_0_5, R_0_6, R_0_7, R_0_8, R_0_9, R_1_0, R_1_1, R_1_2, R_1_3, R_7_0, R_7_1, R_10_0, R_10_1, R_10_2, R_14_0, R_16_0, R_18_0, R_18_1, R_18_2, R_18_4, R_18_5, R_18_6, R_18_8, R_18_9, R_27_0, R_27_1, R_27_2, R_32_0, R_32_1, R_32_3, R_32_4, R_32_5, R_32_6, R_32_7, R_32_11, R_32_12, R_32_13, R_32_14, R_32_17, R_32_20, R_32_21, R_32_22, R_32_24, R_32_25, R_32_26, R_32_27, R_32_28, R_32_29, R_32_30, R_32_31, I_0_2, I_1_4, I_7_2, I_14_1, I_16_1, I_18_3, I_18_7, I_27_3, I_27_4, I_31_0, I_31_1, I_31_2, I_31_3, I_31_4, I_31_5, I_31_6, I_32_2, I_32_8, I_32_9, I_32_10, I_32_15, I_32_16, I_32_18, I_32_19, J_0_10, J_32_23, P_0_2, P_0_10, P_1_4, P_7_2, P_14_1, P_16_1, P_18_3, P_18_7, P_27_3, P_27_4, P_31_0, P_31_1, P_31_2, P_31_3, P_31_4, P_31_5, P_31_6, P_32_2, P_32_8, P_32_9, P_32_10, P_32_15, P_32_16, P_32_18, P_32_19, P_32_23, K_0, K_1, K_7, K_10, K_14, K_16, K_18, K_27, K_31, K_32, eq_true h, hca, e8, e_find_y r1 r2 d1, hal, show (k * p ≤ 8 ∧ ∀ y, y < k → ∀ x, x < k → qB F p f x y = true) = True from eq_true ⟨hkp, hqB⟩, hlo, eq_true hlg, r2, eq_false hn', reduceCtorEq]
    · unfold fX9_bundle
      simp only [Option.bind_some, bI_0, Decidable.not_not, nm, b2, zr, e_isWithin, e_in, e_isGlass8, e_isGlass9, reduceIte, not_false_eq_true, not_true_eq_false, if_true, if_false, and_self, z01, z10, c00, c11, true_and, and_true, R_0_0, R_0_1, R_0_3, R_0_4, R_0_5, R_0_6, R_0_7, R_0_8, R_0_9, R_1_0, R_1_1, R_1_2, R_1_3, R_7_0, R_7_1, R_10_0, R_10_1, R_10_2, R_14_0, R_16_0, R_18_0, R_18_1, R_18_2, R_18_4, R_18_5, R_18_6, R_18_8, R_18_9, R_27_0, R_27_1, R_27_2, R_32_0, R_32_1, R_32_3, R_32_4, R_32_5, R_32_6, R_32_7, R_32_11, R_32_12, R_32_13, R_32_14, R_32_17, R_32_20, R_32_21, R_32_22, R_32_24, R_32_25, R_32_26, R_32_27, R_32_28, R_32_29, R_32_30, R_32_31, I_0_2, I_1_4, I_7_2, I_14_1, I_16_1, I_18_3, I_18_7, I_27_3, I_27_4, I_31_0, I_31_1, I_31_2, I_31_3, I_31_4, I_31_5, I_31_6, I_32_2, I_32_8, I_32_9, I_32_10, I_32_15, I_32_16, I_32_18, I_32_19, J_0_10, J_32_23, P_0_2, P_0_10, P_1_4, P_7_2, P_14_1, P_16_1, P_18_3, P_18_7, P_27_3, P_27_4, P_31_0, P_31_1, P_31_2, P_31_3, P_31_4, P_31_5, P_31_6, P_32_2, P_32_8, P_32_9, P_32_10, P_32_15, P_32_16, P_32_18, P_32_19, P_32_23, K_0, K_1, K_7, K_10, K_14, K_16, K_18, K_27, K_31, K_32, eq_true h, ec, eq_true hok, r3, hn9]
  have hn' : nI n < (16 : Int32) := nI_lt (b := 16) hn (by decide)
  have hn9 : ¬ nI n = (16 : Int32) := fun z => by have := (nI_eq (b := 16) (by omega) (by decide)).mp z; omega
  have hkp1 : 1 ≤ k * p := Nat.mul_pos (by omega) p1
  have hs : ∀ y, y < k → ∀ x, x < k → F (57 + 3 * cN F (4 * y + x)) 1 = nI p := fun y hy x hx => by
    obtain ⟨q1, -⟩ := TB_c r1 hT (show 4 * y + x < 16 by omega) (hno y hy x hx)
    exact (CR_s hC q1).1.trans (of_decide_eq_true (hqB y hy x hx)).2.2.1
  have hlen : ∀ i, i < n → ∃ q, q ≤ 9999 ∧ l * Pl F i ≤ q ∧ F (56 + 3 * i) 1 = nI q ∧ F 36 i = nI q := fun i hi => by
    obtain ⟨_, q, _, _, ⟨-, -, q9, -, -⟩, -, -, q3, q4, -⟩ := r8 i hi
    have := of_decide_eq_true (hlg i hi)
    rw [q4, nI_clamp (by omega)] at this
    exact ⟨q, q9, this, q3, q4⟩
  have hA3 : Ag b n sw (u2 (Hst b n sw) (57 + 3 * n) 0 (some (b + (58 + 3 * n)))) (59 + 3 * n) := Ag_u (Ag_c Ag_M (by omega)) (by omega)
  have hA4 : Ag b n sw (u2 (u2 (Hst b n sw) (57 + 3 * n) 0 (some (b + (58 + 3 * n)))) (56 + 3 * n) 0 (some (b + (57 + 3 * n)))) (59 + 3 * n) := Ag_u hA3 (by omega)
  have hf3 : ∀ k' j, k' < 56 + 3 * n → (uR (u2 (zR (zR (zR F (56 + 3 * n)) (57 + 3 * n)) (58 + 3 * n)) (57 + 3 * n) 1 (nI (k * p))) (58 + 3 * n) 0 64 0) k' j = F k' j := fun k' j hk' => by
    simp only [u2, uR, zR]
    repeat rw [if_neg (by omega)]
  obtain ⟨Fp, g1, g2, g3⟩ := e_laid (N := NF) (b := b) (G := G) (n := n) (sw := sw) (F := F) (F3 := (uR (u2 (zR (zR (zR F (56 + 3 * n)) (57 + 3 * n)) (58 + 3 * n)) (57 + 3 * n) 1 (nI (k * p))) (58 + 3 * n) 0 64 0)) (H := (u2 (Hst b n sw) (57 + 3 * n) 0 (some (b + (58 + 3 * n))))) hA3 (u2_eq _ _ _ _) r1 k4 hkp p8 hf3 (by
    unfold uR
    rw [if_neg (by omega), u2_eq]) r2 t1 hT hno hs (by decide)
  have hf4 : ∀ k' j, k' < 56 + 3 * n → (u2 (u2 (u2 Fp (56 + 3 * n) 1 (nI l)) (56 + 3 * n) 2 (nI f)) (56 + 3 * n) 3 0) k' j = F k' j := fun k' j hk' => by
    rw [u2_ne _ _ _ _ (by omega), u2_ne _ _ _ _ (by omega), u2_ne _ _ _ _ (by omega), g2 _ _ (by omega), hf3 _ _ hk']
  obtain ⟨Fl, g4, g5, g6⟩ := e_take8 (N := NF) (b := b) (G := G) (n := n) (sw := sw) (F := F) (F4 := (u2 (u2 (u2 Fp (56 + 3 * n) 1 (nI l)) (56 + 3 * n) 2 (nI f)) (56 + 3 * n) 3 0)) (H := (u2 (u2 (Hst b n sw) (57 + 3 * n) 0 (some (b + (58 + 3 * n)))) (56 + 3 * n) 0 (some (b + (57 + 3 * n))))) (r3 := some (b + (56 + 3 * n))) hA4 r1 hf4 r2 hT l9 (fun i hi => by
    obtain ⟨q, q1, q2, q3, -⟩ := hlen i hi
    exact ⟨q, q1, q2, q3⟩) (by decide)
  have hfl : ∀ k' j, k' < 56 + 3 * n → (∀ i, i < n → ¬ (k' = 56 + 3 * i ∧ j = 1)) → Fl k' j = F k' j := fun k' j hk' hj => by rw [g5 _ _ hj, hf4 _ _ hk']
  have hfl' : ∀ k' j, k' < 56 → Fl k' j = F k' j := fun k' j hk' => hfl k' j (by omega) (fun i hi z => by omega)
  have hf5 : ∀ k' j, k' < 56 → ¬ (k' = 0 ∧ j = 2) → (u2 Fl 0 2 (nI (n + 1))) k' j = F k' j := fun k' j hk' hz => by rw [u2_ne _ _ _ _ hz]; exact hfl' k' j hk'
  obtain ⟨Fq, g7, g8, g9⟩ := e_bd53 (N := NF) (b := b) (G := G) (n := n) (n' := n + 1) (sw := sw) (F := F) (F5 := (u2 Fl 0 2 (nI (n + 1)))) (p := p) (k := k) (l := nI l) (x2 := nI (cN F 0)) hn k4 p1 hkp hT hno (by rw [hf5 _ _ (by omega) (by omega)]; exact t2) (by rw [hf5 _ _ (by omega) (by omega)]; exact r3) (fun j => hf5 _ _ (by omega) (by omega)) (fun j => hf5 _ _ (by omega) (by omega)) (fun c x y hc hx hy hex => by
    obtain ⟨y0, x0, hy0, hx0, ec⟩ := hex
    obtain ⟨p', _, _, _, ⟨-, hp', -⟩, z1, -, -, -, -, -, -, -, z9⟩ := r8 c hc
    have : p' = p := by
      have w := hs y0 hy0 x0 hx0
      rw [← ec, z1] at w
      exact (nI_eq (by omega) (by omega)).mp w
    subst this
    rw [hf5 _ _ (by omega) (by omega), ← Nat.add_assoc]
    exact (z9 x y hx hy).1.symm) (by decide)
  have hfq : ∀ k' j, k' < 56 → ¬ (k' = 0 ∧ j = 2) → ¬ (k' = 39 ∧ 64 * n ≤ j ∧ j < 64 * n + 64) → Fq k' j = F k' j := fun k' j z1 z2 z3 => by rw [g8 _ _ z3, hf5 _ _ z1 z2]
  obtain ⟨Fr, g10, g11, g12⟩ := e_take9 (N := NF) (b := b) (G := G) (n := n) (n' := n + 1) (sw := sw) (F := F) (F6 := Fq) (k := k) (l := l) (x2 := nI (cN F 0)) (x3 := nI p) r1 (by rw [hfq _ _ (by omega) (by omega) (by omega)]; exact r3) (by rw [hfq _ _ (by omega) (by omega) (by omega)]; exact t2) (fun j => hfq _ _ (by omega) (by omega) (by omega)) hT (fun i hi => by
    obtain ⟨q, q1, q2, -, q4⟩ := hlen i hi
    exact ⟨q, q1, q2, by rw [hfq _ _ (by omega) (by omega) (by omega)]; exact q4⟩) (by decide)
  have hfr : ∀ k' j, k' < 56 → ¬ (k' = 0 ∧ j = 2) → ¬ (k' = 39 ∧ 64 * n ≤ j ∧ j < 64 * n + 64) → ¬ (k' = 36 ∧ j < n) → Fr k' j = F k' j := fun k' j z1 z2 z3 z4 => by rw [g11 _ _ z4, hfq _ _ z1 z2 z3]
  have hfrc : ∀ k' j, 56 ≤ k' → Fr k' j = Fl k' j := fun k' j z1 => by rw [g11 _ _ (by omega), g8 _ _ (by omega), u2_ne _ _ _ _ (by omega)]
  have k35 : Fr 35 (cN F 0) = nI p := by rw [hfr _ _ (by omega) (by omega) (by omega) (by omega)]; exact c2
  have k37 : Fr 37 (cN F 0) = nI f := by rw [hfr _ _ (by omega) (by omega) (by omega) (by omega)]; exact c6
  have hp2 : ∀ {z : Nat}, nI k * nI z = nI (k * z) := fun {z} => pk_mul k z
  refine ⟨nI n, M b (u2 Fl 0 2 (nI (n + 1))) G (n + 1) sw, M b (u2 (u2 (u2 (u2 (u2 Fr 35 n (nI (k * p))) 36 n (nI l)) 37 n (nI f)) 38 n 0) 32 2 (nI (n + 1))) G (n + 1) sw, ?_, ?_, rfl, (u2 (u2 (u2 (u2 (u2 Fr 35 n (nI (k * p))) 36 n (nI l)) 37 n (nI f)) 38 n 0) 32 2 (nI (n + 1))), G, n + 1, sw, rfl, ?_⟩
  · have hM : M b F G n sw = mk b F G (Hst b n sw) (56 + 3 * n) := rfl
    have hci : 56 + 3 * cN F 0 < 59 + 3 * n := by omega
    have kz : zR F (56 + 3 * n) (57 + 3 * cN F 0) 1 = nI p := by
      simp only [zR]; rw [if_neg (by omega)]; exact c1
    have kz7 : zR (zR F (56 + 3 * n)) (57 + 3 * n) 7 2 = nI k := by
      simp only [zR]; rw [if_neg (by omega), if_neg (by omega)]; exact t1
    have kp2 : Fp (56 + 3 * cN F 0) 2 = nI f := by rw [g2 _ _ (by omega), hf3 _ _ (by omega)]; exact c5
    have kl0 : Fl 0 2 = nI n := by rw [hfl' _ _ (by omega)]; exact r2
    have elp : fX8_laidPicture NF b (mk b (zR F (56 + 3 * n)) G (Hst b n sw) (57 + 3 * n)) (some b) (nI p) = some (some (b + (57 + 3 * n)), mk b Fp G (u2 (Hst b n sw) (57 + 3 * n) 0 (some (b + (58 + 3 * n)))) (59 + 3 * n)) := by
      have hA1 : Ag b n sw (Hst b n sw) (57 + 3 * n) := Ag_c Ag_M (by omega)
      have hA2 : Ag b n sw (Hst b n sw) (58 + 3 * n) := Ag_c Ag_M (by omega)
      unfold fX8_laidPicture
      rw [q_K0 hA1]
      simp only [nm, mk_1, a_pic (Hst_new (show 56 + 3 * n ≤ 57 + 3 * n by omega))]
      rw [q_R03 hA2]
      simp only [Option.bind_some]
      rw [q_I (k := 7) hA2 (by omega) rfl rfl, kz7]
      simp only [Option.bind_some]
      rw [pk_mul, e_init5 hkp1 hkp (by decide)]
      simp only [Option.bind_some]
      rw [g1]
      rfl
    unfold fX8_bundle
    simp only [Option.bind_some, bI_0, Decidable.not_not, nm, b2, zr, e_isWithin, e_in, e_isGlass8, e_isGlass9, reduceIte, not_false_eq_true, not_true_eq_false, if_true, if_false, and_self, z01, z10, c00, c11, true_and, and_true, R_0_0, R_0_1, R_0_3, R_0_4, R_0_5, R_0_6, R_0_7, R_0_8, R_0_9, R_1_0, R_1_1, R_1_2, R_1_3, R_7_0, R_7_1, R_10_0, R_10_1, R_10_2, R_14_0, R_16_0, R_18_0, R_18_1, R_18_2, R_18_4, R_18_5, R_18_6, R_18_8, R_18_9, R_27_0, R_27_1, R_27_2, R_32_0, R_32_1, R_32_3, R_32_4, R_32_5, R_32_6, R_32_7, R_32_11, R_32_12, R_32_13, R_32_14, R_32_17, R_32_20, R_32_21, R_32_22, R_32_24, R_32_25, R_32_26, R_32_27, R_32_28, R_32_29, R_32_30, R_32_31, I_0_2, I_1_4, I_7_2, I_14_1, I_16_1, I_18_3, I_18_7, I_27_3, I_27_4, I_31_0, I_31_1, I_31_2, I_31_3, I_31_4, I_31_5, I_31_6, I_32_2, I_32_8, I_32_9, I_32_10, I_32_15, I_32_16, I_32_18, I_32_19, J_0_10, J_32_23, P_0_2, P_0_10, P_1_4, P_7_2, P_14_1, P_16_1, P_18_3, P_18_7, P_27_3, P_27_4, P_31_0, P_31_1, P_31_2, P_31_3, P_31_4, P_31_5, P_31_6, P_32_2, P_32_8, P_32_9, P_32_10, P_32_15, P_32_16, P_32_18, P_32_19, P_32_23, K_0, K_1, K_7, K_10, K_14, K_16, K_18, K_27, K_31, K_32, eq_true h, hca, e8, e_find_y r1 r2 d1, hal, show (k * p ≤ 8 ∧ ∀ y, y < k → ∀ x, x < k → qB F p f x y = true) = True from eq_true ⟨hkp, hqB⟩, hlo, eq_true hlg, r2, eq_true hn', reduceCtorEq]
    rw [hM]
    simp only [mk_1, a_cane Ag_M (Hst_new (Nat.le_refl _))]
    rw [q_c0 (Ag_c Ag_M (by omega)) d1]
    simp only [Option.bind_some]
    rw [q_I (Ag_c Ag_M (by omega)) (show 57 + 3 * cN F 0 < 56 + 3 * n by omega) (kdC1 _) rfl, kz]
    simp only [Option.bind_some]
    rw [elp]
    simp only [Option.bind_some]
    rw [m_gfI hci (kdC0 _) (show (fty 1)[2]? = some 0 from rfl), kp2]
    simp only [Option.bind_some]
    rw [e_init1 (show 56 + 3 * n < 59 + 3 * n by omega)]
    simp only [Option.bind_some]
    rw [g4]
    simp only [Option.bind_some]
    rw [e_keep hA4 (by omega) hn kl0]
    simp only [Option.bind_some]
    exact congrArg (fun z => some (nI n, z)) e_fin
  · have m3 : (u2 Fl 0 2 (nI (n + 1))) 32 2 = nI n := by rw [hf5 _ _ (by omega) (by omega)]; exact r3
    have hT5 : TB (u2 Fl 0 2 (nI (n + 1))) n k := by
      refine ⟨k2, k4, by rw [hf5 _ _ (by omega) (by omega)]; exact t1, by rw [hf5 _ _ (by omega) (by omega)]; exact t2, fun i hi => ?_⟩
      rw [hf5 8 _ (by omega) (by omega), hf5 40 _ (by omega) (by omega), hf5 9 _ (by omega) (by omega), hf5 41 _ (by omega) (by omega)]
      exact t3 i hi
    have hca9 : fX9_canBundle NF (M b (u2 Fl 0 2 (nI (n + 1))) G (n + 1) sw) (some (b + 32)) (nI l) = some 1 := by
      have c0 : cN (u2 Fl 0 2 (nI (n + 1))) 0 = cN F 0 := by unfold cN; rw [hf5 _ _ (by omega) (by omega)]
      have ec := e_can (N := NF) (b := b) (F := (u2 Fl 0 2 (nI (n + 1)))) (G := G) (n := n) (n' := n + 1) (sw := sw) (k := k) (l := l) (p := p) (f := f) r1 m3 hT5 (fun i hi => by
        rw [hf5 _ _ (by omega) (by omega)]
        exact hC9 i hi) l9 (by rw [hf5 _ _ (by omega) (by omega)]; exact h9) (by rw [c0, hf5 _ _ (by omega) (by omega)]; exact c2) (by rw [c0, hf5 _ _ (by omega) (by omega)]; exact c6) p8 (fun y hy x hx => by rw [hf5 _ _ (by omega) (by omega)]; exact hno y hy x hx) (by decide)
      rw [ec, bI_t]
      refine ⟨hkp, fun i hi => ?_⟩
      have := hok.2 i hi
      unfold okB Pl at this ⊢
      have x40 : ∀ j, (u2 Fl 0 2 (nI (n + 1))) 40 j = F 40 j := fun j => hf5 40 j (by omega) (by omega)
      have x35 : ∀ j, (u2 Fl 0 2 (nI (n + 1))) 35 j = F 35 j := fun j => hf5 35 j (by omega) (by omega)
      have x36 : ∀ j, (u2 Fl 0 2 (nI (n + 1))) 36 j = F 36 j := fun j => hf5 36 j (by omega) (by omega)
      have x37 : ∀ j, (u2 Fl 0 2 (nI (n + 1))) 37 j = F 37 j := fun j => hf5 37 j (by omega) (by omega)
      have x38 : ∀ j, (u2 Fl 0 2 (nI (n + 1))) 38 j = F 38 j := fun j => hf5 38 j (by omega) (by omega)
      simp only [x40, x35, x36, x37, x38]
      exact this
    have l40 : ∀ F' : mI, ldI (M b F' G (n + 1) sw) 0 (some (b + 40)) 0 = some (F' 40 0) := fun F' => L_40 (i := 0) (by omega)
    have m40 : (u2 Fl 0 2 (nI (n + 1))) 40 0 = nI (cN F 0) := by rw [hf5 _ _ (by omega) (by omega)]; exact d2
    have m35 : (u2 Fl 0 2 (nI (n + 1))) 35 (cN F 0) = nI p := by rw [hf5 _ _ (by omega) (by omega)]; exact c2
    have m10 : Fr 32 10 = nI k := by rw [hfr _ _ (by omega) (by omega) (by omega) (by omega)]; exact t2
    have m32 : Fr 32 2 = nI n := by rw [hfr _ _ (by omega) (by omega) (by omega) (by omega)]; exact r3
    unfold fX9_bundle
    simp only [Option.bind_some, bI_0, Decidable.not_not, nm, b2, zr, e_isWithin, e_in, e_isGlass8, e_isGlass9, reduceIte, not_false_eq_true, not_true_eq_false, if_true, if_false, and_self, z01, z10, c00, c11, true_and, and_true, R_0_0, R_0_1, R_0_3, R_0_4, R_0_5, R_0_6, R_0_7, R_0_8, R_0_9, R_1_0, R_1_1, R_1_2, R_1_3, R_7_0, R_7_1, R_10_0, R_10_1, R_10_2, R_14_0, R_16_0, R_18_0, R_18_1, R_18_2, R_18_4, R_18_5, R_18_6, R_18_8, R_18_9, R_27_0, R_27_1, R_27_2, R_32_0, R_32_1, R_32_3, R_32_4, R_32_5, R_32_6, R_32_7, R_32_11, R_32_12, R_32_13, R_32_14, R_32_17, R_32_20, R_32_21, R_32_22, R_32_24, R_32_25, R_32_26, R_32_27, R_32_28, R_32_29, R_32_30, R_32_31, I_0_2, I_1_4, I_7_2, I_14_1, I_16_1, I_18_3, I_18_7, I_27_3, I_27_4, I_31_0, I_31_1, I_31_2, I_31_3, I_31_4, I_31_5, I_31_6, I_32_2, I_32_8, I_32_9, I_32_10, I_32_15, I_32_16, I_32_18, I_32_19, J_0_10, J_32_23, P_0_2, P_0_10, P_1_4, P_7_2, P_14_1, P_16_1, P_18_3, P_18_7, P_27_3, P_27_4, P_31_0, P_31_1, P_31_2, P_31_3, P_31_4, P_31_5, P_31_6, P_32_2, P_32_8, P_32_9, P_32_10, P_32_15, P_32_16, P_32_18, P_32_19, P_32_23, K_0, K_1, K_7, K_10, K_14, K_16, K_18, K_27, K_31, K_32, eq_true h, hca9, m3, eq_false hn9, l40, m40, L_35 (show cN F 0 < 16 by omega), m35]
    rw [g7]
    simp only [Option.bind_some]
    rw [g10]
    simp only [Option.bind_some, bI_0, Decidable.not_not, nm, b2, zr, e_isWithin, e_in, e_isGlass8, e_isGlass9, reduceIte, not_false_eq_true, not_true_eq_false, if_true, if_false, and_self, z01, z10, c00, c11, true_and, and_true, R_0_0, R_0_1, R_0_3, R_0_4, R_0_5, R_0_6, R_0_7, R_0_8, R_0_9, R_1_0, R_1_1, R_1_2, R_1_3, R_7_0, R_7_1, R_10_0, R_10_1, R_10_2, R_14_0, R_16_0, R_18_0, R_18_1, R_18_2, R_18_4, R_18_5, R_18_6, R_18_8, R_18_9, R_27_0, R_27_1, R_27_2, R_32_0, R_32_1, R_32_3, R_32_4, R_32_5, R_32_6, R_32_7, R_32_11, R_32_12, R_32_13, R_32_14, R_32_17, R_32_20, R_32_21, R_32_22, R_32_24, R_32_25, R_32_26, R_32_27, R_32_28, R_32_29, R_32_30, R_32_31, I_0_2, I_1_4, I_7_2, I_14_1, I_16_1, I_18_3, I_18_7, I_27_3, I_27_4, I_31_0, I_31_1, I_31_2, I_31_3, I_31_4, I_31_5, I_31_6, I_32_2, I_32_8, I_32_9, I_32_10, I_32_15, I_32_16, I_32_18, I_32_19, J_0_10, J_32_23, P_0_2, P_0_10, P_1_4, P_7_2, P_14_1, P_16_1, P_18_3, P_18_7, P_27_3, P_27_4, P_31_0, P_31_1, P_31_2, P_31_3, P_31_4, P_31_5, P_31_6, P_32_2, P_32_8, P_32_9, P_32_10, P_32_15, P_32_16, P_32_18, P_32_19, P_32_23, K_0, K_1, K_7, K_10, K_14, K_16, K_18, K_27, K_31, K_32, m10, L_37 (show cN F 0 < 16 by omega), k37, pk_mul]
    rw [e_newCane hn m32]
    simp only [Option.bind_some]
  · have fr : ∀ k' j, k' < 56 → ¬ (k' = 0 ∧ j = 2) → ¬ (k' = 39 ∧ 64 * n ≤ j ∧ j < 64 * n + 64) → ¬ (k' = 36 ∧ j ≤ n) → ¬ (k' = 35 ∧ j = n) → ¬ (k' = 37 ∧ j = n) → ¬ (k' = 38 ∧ j = n) → ¬ (k' = 32 ∧ j = 2) → (u2 (u2 (u2 (u2 (u2 Fr 35 n (nI (k * p))) 36 n (nI l)) 37 n (nI f)) 38 n 0) 32 2 (nI (n + 1))) k' j = F k' j := by
      intro k' j z1 z2 z3 z4 z5 z6 z7 z8
      rw [u2_ne _ _ _ _ z8, u2_ne _ _ _ _ z7, u2_ne _ _ _ _ z6, u2_ne _ _ _ _ (by omega), u2_ne _ _ _ _ z5]
      exact hfr _ _ z1 z2 z3 (by omega)
    have frc : ∀ k' j, 56 ≤ k' → (u2 (u2 (u2 (u2 (u2 Fr 35 n (nI (k * p))) 36 n (nI l)) 37 n (nI f)) 38 n 0) 32 2 (nI (n + 1))) k' j = Fl k' j := by
      intro k' j z1
      rw [u2_ne _ _ _ _ (by omega), u2_ne _ _ _ _ (by omega), u2_ne _ _ _ _ (by omega), u2_ne _ _ _ _ (by omega), u2_ne _ _ _ _ (by omega)]
      exact hfrc _ _ z1
    have hz : (u2 (u2 (u2 (u2 (u2 Fr 35 n (nI (k * p))) 36 n (nI l)) 37 n (nI f)) 38 n 0) 32 2 (nI (n + 1))) 0 2 = nI (n + 1) := by
      rw [u2_ne _ _ _ _ (by omega), u2_ne _ _ _ _ (by omega), u2_ne _ _ _ _ (by omega), u2_ne _ _ _ _ (by omega), u2_ne _ _ _ _ (by omega), g11 _ _ (by omega), g8 _ _ (by omega), u2_eq]
    refine ⟨by omega, hz, by rw [u2_eq], r4, RGl_c (fun k' j h => fr k' j (by omega) (by omega) (by omega) (by omega) (by omega) (by omega) (by omega) (by omega)) (fun _ _ _ => rfl) r5, RTol_c (fun k' j h => fr k' j (by omega) (by omega) (by omega) (by omega) (by omega) (by omega) (by omega) (by omega)) r6, RTab_c (fun k' j h => fr k' j (by omega) (by omega) (by omega) (by omega) (by omega) (by omega) (by omega) (by omega)) (RTab_m ⟨k, k2, k4, t1, t2, t3⟩), fun i hi => ?_, RWish_c (fun k' j h => fr k' j (by omega) (by omega) (by omega) (by omega) (by omega) (by omega) (by omega) (by omega)) r9, RSlice_c (fun k' j h => fr k' j (by omega) (by omega) (by omega) (by omega) (by omega) (by omega) (by omega) (by omega)) r10, ROrd_c (fun k' j h => fr k' j (by omega) (by omega) (by omega) (by omega) (by omega) (by omega) (by omega) (by omega)) r11, RWgh_c (fun k' j h => fr k' j (by omega) (by omega) (by omega) (by omega) (by omega) (by omega) (by omega) (by omega)) r12, RBest_c (fun k' j h => fr k' j (by omega) (by omega) (by omega) (by omega) (by omega) (by omega) (by omega) (by omega)) r13⟩
    by_cases e' : i = n
    · rw [e']
      have gl : ∀ k' j, 56 + 3 * n ≤ k' → Fl k' j = (u2 (u2 (u2 Fp (56 + 3 * n) 1 (nI l)) (56 + 3 * n) 2 (nI f)) (56 + 3 * n) 3 0) k' j := fun k' j z => g5 _ _ (fun i' hi' w => by omega)
      refine ⟨k * p, l, f, 0, ⟨hkp1, hkp, l9, ⟨e, e12, ef⟩, by omega⟩, ?_, ?_, ?_, ?_, ?_, ?_, ?_, ?_, fun x y hx hy => ?_⟩
      · rw [frc _ _ (by omega), gl _ _ (by omega), u2_ne _ _ _ _ (by omega), u2_ne _ _ _ _ (by omega), u2_ne _ _ _ _ (by omega), g2 _ _ (by omega)]
        unfold uR
        rw [if_neg (by omega), u2_eq]
      · rw [u2_ne _ _ _ _ (by omega), u2_ne _ _ _ _ (by omega), u2_ne _ _ _ _ (by omega), u2_ne _ _ _ _ (by omega), u2_eq]
      · rw [frc _ _ (by omega), gl _ _ (by omega), u2_ne _ _ _ _ (by omega), u2_ne _ _ _ _ (by omega), u2_eq]
      · rw [u2_ne _ _ _ _ (by omega), u2_ne _ _ _ _ (by omega), u2_ne _ _ _ _ (by omega), u2_eq]
      · rw [frc _ _ (by omega), gl _ _ (by omega), u2_ne _ _ _ _ (by omega), u2_eq]
      · rw [u2_ne _ _ _ _ (by omega), u2_ne _ _ _ _ (by omega), u2_eq]
      · rw [frc _ _ (by omega), gl _ _ (by omega), u2_eq]; rfl
      · rw [u2_ne _ _ _ _ (by omega), u2_eq]; rfl
      · have dy : y / p < k := Nat.div_lt_of_lt_mul (by rw [Nat.mul_comm]; exact hy)
        have dx : x / p < k := Nat.div_lt_of_lt_mul (by rw [Nat.mul_comm]; exact hx)
        have my : y % p < p := Nat.mod_lt _ (by omega)
        have mx : x % p < p := Nat.mod_lt _ (by omega)
        have ey : y / p * p + y % p = y := by rw [Nat.mul_comm]; exact Nat.div_add_mod y p
        have ex : x / p * p + x % p = x := by rw [Nat.mul_comm]; exact Nat.div_add_mod x p
        have v8 : (u2 (u2 (u2 (u2 (u2 Fr 35 n (nI (k * p))) 36 n (nI l)) 37 n (nI f)) 38 n 0) 32 2 (nI (n + 1))) (58 + 3 * n) (8 * y + x) = gB F p (8 * y + x) := by
          rw [frc _ _ (by omega), gl _ _ (by omega), u2_ne _ _ _ _ (by omega), u2_ne _ _ _ _ (by omega), u2_ne _ _ _ _ (by omega)]
          exact g3 _ ⟨y / p, x / p, y % p, x % p, dy, dx, my, mx, by rw [ey, ex]⟩
        have v9 : (u2 (u2 (u2 (u2 (u2 Fr 35 n (nI (k * p))) 36 n (nI l)) 37 n (nI f)) 38 n 0) 32 2 (nI (n + 1))) 39 (64 * n + 8 * y + x) = gB F p (8 * y + x) := by
          rw [u2_ne _ _ _ _ (by omega), u2_ne _ _ _ _ (by omega), u2_ne _ _ _ _ (by omega), u2_ne _ _ _ _ (by omega), u2_ne _ _ _ _ (by omega), g11 _ _ (by omega), Nat.add_assoc]
          exact g9 _ ⟨y, x, hy, hx, rfl⟩
        rw [v8, v9]
        refine ⟨rfl, ?_⟩
        obtain ⟨q1, -, -, -, -, q6, -⟩ := TB_c r1 hT (show 4 * (y / p) + x / p < 16 by omega) (hno _ dy _ dx)
        obtain ⟨p', _, _, _, ⟨-, hp', -⟩, z1, -, -, -, -, -, -, -, z9⟩ := r8 _ q1
        have hpp : p' = p := by
          have w := hs _ dy _ dx
          rw [z1] at w
          exact (nI_eq (by omega) (by omega)).mp w
        subst hpp
        have hl := itr_lt (p := p') (tN F (4 * (y / p') + x / p')) (x % p') (y % p') mx my
        obtain ⟨w1, g, w2, w3, w4⟩ := z9 _ _ hl.1 hl.2
        refine ⟨g, w2, w3, ?_⟩
        unfold gB
        rw [show (8 * y + x) / 8 = y by omega, show (8 * y + x) % 8 = x by omega, ← w4, ← w1]
        rfl
    · have hi' : i < n := by omega
      obtain ⟨pi, li, fi, ti, ⟨b1, b2, b3, b4, b5⟩, s1, s2, s3, s4, s5, s6, s7, s8, s9⟩ := r8 i hi'
      obtain ⟨q, q9, q1, q2, q3⟩ := hlen i hi'
      have frn : ∀ k' j, 56 ≤ k' → k' < 56 + 3 * n → ¬ (k' % 3 = 2 ∧ j = 1) → (u2 (u2 (u2 (u2 (u2 Fr 35 n (nI (k * p))) 36 n (nI l)) 37 n (nI f)) 38 n 0) 32 2 (nI (n + 1))) k' j = F k' j := fun k' j z1 z2 z3 => by
        rw [frc _ _ z1, hfl _ _ z2 (fun i' _ w => by omega)]
      refine ⟨pi, q - l * Pl F i, fi, ti, ⟨b1, b2, by omega, b4, b5⟩, ?_, ?_, ?_, ?_, ?_, ?_, ?_, ?_, fun x y hx hy => ?_⟩
      · rw [frn _ _ (by omega) (by omega) (by omega)]; exact s1
      · rw [fr _ _ (by omega) (by omega) (by omega) (by omega) (by omega) (by omega) (by omega) (by omega)]; exact s2
      · rw [frc _ _ (by omega)]
        exact g6 i q hi' q2 q1
      · rw [u2_ne _ _ _ _ (by omega), u2_ne _ _ _ _ (by omega), u2_ne _ _ _ _ (by omega), u2_ne _ _ _ _ (by omega), u2_ne _ _ _ _ (by omega)]
        exact g12 i q hi' (by rw [hfq _ _ (by omega) (by omega) (by omega)]; exact q3) q1
      · rw [frn _ _ (by omega) (by omega) (by omega)]; exact s5
      · rw [fr _ _ (by omega) (by omega) (by omega) (by omega) (by omega) (by omega) (by omega) (by omega)]; exact s6
      · rw [frn _ _ (by omega) (by omega) (by omega)]; exact s7
      · rw [fr _ _ (by omega) (by omega) (by omega) (by omega) (by omega) (by omega) (by omega) (by omega)]; exact s8
      · rw [frn _ _ (by omega) (by omega) (by omega), fr _ _ (by omega) (by omega) (by omega) (by omega) (by omega) (by omega) (by omega) (by omega)]
        exact s9 x y hx hy
