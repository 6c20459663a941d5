/-! ===== 430: cut ===== -/
def cR (F : mI) (k k' : Nat) : mI := fun a j => if a = k ∧ j < 64 then F k' j else F a j
section CU
variable {b : Nat} {F : mI} {G : mJ} {H : mR} {c n : Nat} {sw : Bool} {N : Nat}
theorem q_cp {k k' : Nat} (hk : k < c) (hk' : k' < c) (h : kd k = (0, 64)) (h' : kd k' = (0, 64)) : cpI (mk b F G H c) (some (b + k)) 0 (some (b + k')) 0 64 = some (mk b (cR F k' k) G H c) := by
  unfold cpI
  rw [m_arI hk (by decide) h, m_arI hk' (by decide) h']
  simp only [Option.bind_some]
  rw [if_neg (by decide)]
  refine congrArg some (mk_up hk' ?_ (fun a ha => ?_) (fun _ _ => rfl) (fun _ _ => rfl))
  · rw [h']
    simp only [cellE, if_true]
    refine congrArg (pI 64) (funext fun j => ?_)
    by_cases hj : j < 64
    · rw [pk_cpy_in (by show 0 ≤ j; omega) (by show j < 0 + 64; omega)]
      simp only [cR, hj, and_self, if_true]
      show F k (0 + (j - 0)) = F k j
      rw [Nat.zero_add, Nat.sub_zero]
    · rw [pk_cpy_out (by right; show 0 + 64 ≤ j; omega)]
      simp [cR, hj]
  · funext j
    simp [cR, ha]
theorem Hst_c0 {i : Nat} (h : i < n) : Hst b n sw (56 + 3 * i) 0 = some (b + (57 + 3 * i)) := by
  unfold Hst
  rw [if_neg (by omega), if_neg (by omega), if_neg (by omega), if_neg (by omega), if_pos (by omega), show 56 + 3 * i + 1 = 57 + 3 * i by omega]
theorem Hst_c1 {i : Nat} (h : i < n) : Hst b n sw (57 + 3 * i) 0 = some (b + (58 + 3 * i)) := by
  unfold Hst
  rw [if_neg (by omega), if_neg (by omega), if_neg (by omega), if_neg (by omega), if_pos (by omega), show 57 + 3 * i + 1 = 58 + 3 * i by omega]
theorem q_c0 {i : Nat} (hA : Ag b n sw H c) (h : i < n) : gfR (mk b F G H c) 1 0 (some (b + (56 + 3 * i))) = some (some (b + (57 + 3 * i))) := by
  rw [q_R hA (by omega) (by omega) (kdC0 i) rfl, Hst_c0 h]
theorem q_c1 {i : Nat} (hA : Ag b n sw H c) (h : i < n) : gfR (mk b F G H c) 5 0 (some (b + (57 + 3 * i))) = some (some (b + (58 + 3 * i))) := by
  rw [q_R hA (by omega) (by omega) (kdC1 i) rfl, Hst_c1 h]
theorem e_copy {i p : Nat} (hi : i < n) (hp1 : 1 ≤ p) (hp8 : p ≤ 8) (h0 : F (57 + 3 * i) 1 = nI p) (hN : 2000 ≤ N) : fX5_copy N b (mk b F G (Hst b n sw) (57 + 3 * n)) (some (b + (57 + 3 * i))) = some (some (b + (57 + 3 * n)), mk b (cR (uR (u2 (zR (zR F (57 + 3 * n)) (58 + 3 * n)) (57 + 3 * n) 1 (nI p)) (58 + 3 * n) 0 64 0) (58 + 3 * n) (58 + 3 * i)) G (u2 (Hst b n sw) (57 + 3 * n) 0 (some (b + (58 + 3 * n)))) (59 + 3 * n)) := by
  have hA1 : Ag b n sw (Hst b n sw) (57 + 3 * n) := Ag_c Ag_M (by omega)
  have hA2 : Ag b n sw (Hst b n sw) (58 + 3 * n) := Ag_c Ag_M (by omega)
  have hA3 : Ag b n sw (u2 (Hst b n sw) (57 + 3 * n) 0 (some (b + (58 + 3 * n)))) (59 + 3 * n) := Ag_u (Ag_c Ag_M (by omega)) (by omega)
  unfold fX5_copy
  rw [q_K hA1 (by omega) (kdC1 i)]
  simp only [nm, mk_1, a_pic (Hst_new (show 56 + 3 * n ≤ 57 + 3 * n by omega))]
  rw [q_I hA2 (show 57 + 3 * i < 56 + 3 * n by omega) (kdC1 i) rfl]
  have e0 : zR F (57 + 3 * n) (57 + 3 * i) 1 = nI p := by
    simp only [zR]
    rw [if_neg (by omega)]
    exact h0
  rw [e0, Option.bind_some, e_init5 hp1 hp8 hN, Option.bind_some, q_c1 hA3 hi, Option.bind_some, m_gfR (show 57 + 3 * n < 59 + 3 * n by omega) (kdC1 n) rfl, Option.bind_some, u2_eq, q_cp (by omega) (by omega) (kdC2 i) (kdC2 n)]
  rfl
theorem q_twist {k l t z : Nat} (hk : k < c) (hkd : kd k = (4, 1)) (c3 : F k 1 = nI l) (c7 : F k 3 = nI t) (h0 : 0 < l) (hl : l ≤ 9999) (ht : t ≤ 40) (hz : z ≤ 9999) : fX1_twistUpTo N (mk b F G H c) (some (b + k)) (nI z) = some (nI (t * z / l)) := by
  unfold fX1_twistUpTo
  have h1 : t * z < 2 ^ 31 := Nat.lt_of_le_of_lt (Nat.mul_le_mul ht hz) (by decide)
  simp only [m_chk hk hkd, m_gfI hk hkd (show (fty 1)[1]? = some 0 from rfl), m_gfI hk hkd (show (fty 1)[3]? = some 0 from rfl), c3, c7, Option.bind_some]
  rw [if_pos (show (1 : Int32) ≤ nI l from nI_le (a := 1) h0 (by omega)), if_neg (ne0 h0 (by omega)), pk_mul, pk_div h1 h0 (by omega)]
end CU
/-- cells of the reference's pictures under P get what g says -/
def sl (F : mI) (P : Nat → Bool) (g : Nat → Int32) : mI := fun k j => if k = 39 ∧ P j = true then g j else F k j
theorem sl_u {F : mI} {P P' : Nat → Bool} {g : Nat → Int32} {j0 : Nat} {v : Int32} (h : ∀ j, P' j = (P j || decide (j = j0))) (hv : v = g j0) : u2 (sl F P g) 39 j0 v = sl F P' g := by
  funext k j
  simp only [u2, sl, h]
  by_cases hk : k = 39
  · by_cases hj : j = j0
    · subst hj
      simp [hk, hv]
    · simp [hk, hj]
  · simp [hk]
theorem sl_0 {F : mI} {P : Nat → Bool} {g : Nat → Int32} (h : ∀ j, P j = false) : sl F P g = F := by
  funext k j
  simp [sl, h]
theorem sl_e {F : mI} {P P' : Nat → Bool} {g : Nat → Int32} (h : ∀ j, P' j = P j) : sl F P g = sl F P' g := by
  have : P' = P := funext h
  rw [this]
theorem sl_k {F : mI} {P : Nat → Bool} {g : Nat → Int32} {k j : Nat} (h : ¬ (k = 39 ∧ P j = true)) : sl F P g k j = F k j := if_neg h
theorem sl_y {F : mI} {P : Nat → Bool} {g : Nat → Int32} {j : Nat} (h : P j = true) : sl F P g 39 j = g j := if_pos ⟨rfl, h⟩
/-- columns before x, and of column x the cells before y -/
def pc (d p x y : Nat) (j : Nat) : Bool := decide (64 * d ≤ j ∧ j < 64 * d + 64 ∧ (j - 64 * d) / 8 < p ∧ ((j - 64 * d) % 8 < x ∨ ((j - 64 * d) % 8 = x ∧ (j - 64 * d) / 8 < y)))
section CU2
variable {b : Nat} {F : mI} {G : mJ} {n n' : Nat} {sw : Bool} {N : Nat}
theorem e_cut71 {i p x : Nat} {l T : Int32} (hi : i < n) (hn : n < 16) (hp : p ≤ 8) (hx : x < p) (hs : F 35 i = nI p) (h2 : F 32 2 = nI n) (hN : 20 ≤ N) : lX9_cut_71 N (some (b + 32)) (nI i) l T (nI x) N 0 (M b (sl F (pc n p x 0) (fun j => F 39 (64 * i + (j - 64 * n)))) G n' sw) = some (M b (sl F (pc n p (x + 1) 0) (fun j => F 39 (64 * i + (j - 64 * n)))) G n' sw) := by
  have e := lpH (fun m q s => lX9_cut_71 N (some (b + 32)) (nI i) l T (nI x) m q s) (fun y => M b (sl F (pc n p x y) (fun j => F 39 (64 * i + (j - 64 * n)))) G n' sw) p (M b (sl F (pc n p (x + 1) 0) (fun j => F 39 (64 * i + (j - 64 * n)))) G n' sw) ?_ ?_ N 0 (by omega) (by omega)
  · exact e
  · intro m y hy
    have g1 : sl F (pc n p x y) (fun j => F 39 (64 * i + (j - 64 * n))) 35 i = nI p := by rw [sl_k (by omega)]; exact hs
    have g2 : sl F (pc n p x y) (fun j => F 39 (64 * i + (j - 64 * n))) 32 2 = nI n := by rw [sl_k (by omega)]; exact h2
    have g3 : sl F (pc n p x y) (fun j => F 39 (64 * i + (j - 64 * n))) 39 (64 * i + 8 * y + x) = F 39 (64 * i + 8 * y + x) := by
      rw [sl_k]
      rintro ⟨-, z⟩
      have := of_decide_eq_true z
      omega
    rw [lX9_cut_71]
    simp only [Option.bind_some, bI_0, Decidable.not_not, nm, b2, zr, e_isWithin, e_in, e_isGlass8, e_isGlass9, reduceIte, not_false_eq_true, not_true_eq_false, if_true, if_false, and_self, z01, z10, c00, c11, true_and, and_true, R_0_0, R_0_1, R_0_3, R_0_4, R_0_5, R_0_6, R_0_7, R_0_8, R_0_9, R_1_0, R_1_1, R_1_2, R_1_3, R_7_0, R_7_1, R_10_0, R_10_1, R_10_2, R_14_0, R_16_0, R_18_0, R_18_1, R_18_2, R_18_4, R_18_5, R_18_6, R_18_8, R_18_9, R_27_0, R_27_1, R_27_2, R_32_0, R_32_1, R_32_3, R_32_4, R_32_5, R_32_6, R_32_7, R_32_11, R_32_12, R_32_13, R_32_14, R_32_17, R_32_20, R_32_21, R_32_22, R_32_24, R_32_25, R_32_26, R_32_27, R_32_28, R_32_29, R_32_30, R_32_31, I_0_2, I_1_4, I_7_2, I_14_1, I_16_1, I_18_3, I_18_7, I_27_3, I_27_4, I_31_0, I_31_1, I_31_2, I_31_3, I_31_4, I_31_5, I_31_6, I_32_2, I_32_8, I_32_9, I_32_10, I_32_15, I_32_16, I_32_18, I_32_19, J_0_10, J_32_23, P_0_2, P_0_10, P_1_4, P_7_2, P_14_1, P_16_1, P_18_3, P_18_7, P_27_3, P_27_4, P_31_0, P_31_1, P_31_2, P_31_3, P_31_4, P_31_5, P_31_6, P_32_2, P_32_8, P_32_9, P_32_10, P_32_15, P_32_16, P_32_18, P_32_19, P_32_23, K_0, K_1, K_7, K_10, K_14, K_16, K_18, K_27, K_31, K_32, L_35 (show i < 16 by omega), g1, g2]
    rw [if_neg (nI_ge hy (by omega)), e_at9 (show 64 * i + 8 * y + x < 1152 by omega), g3]
    simp only [Option.bind_some]
    rw [e_put9 (show 64 * n + 8 * y + x < 1152 by omega)]
    simp only [Option.bind_some, nI_1]
    rw [sl_u (P' := pc n p x (y + 1)) (fun j => ?_) (by show _ = F 39 (64 * i + (64 * n + 8 * y + x - 64 * n)); rw [show 64 * i + (64 * n + 8 * y + x - 64 * n) = 64 * i + 8 * y + x by omega])]
    unfold pc
    rw [Bool.eq_iff_iff]
    simp only [Bool.or_eq_true, decide_eq_true_eq]
    omega
  · intro m
    have g1 : sl F (pc n p x p) (fun j => F 39 (64 * i + (j - 64 * n))) 35 i = nI p := by rw [sl_k (by omega)]; exact hs
    rw [lX9_cut_71]
    simp only [Option.bind_some, bI_0, Decidable.not_not, nm, b2, zr, e_isWithin, e_in, e_isGlass8, e_isGlass9, reduceIte, not_false_eq_true, not_true_eq_false, if_true, if_false, and_self, z01, z10, c00, c11, true_and, and_true, R_0_0, R_0_1, R_0_3, R_0_4, R_0_5, R_0_6, R_0_7, R_0_8, R_0_9, R_1_0, R_1_1, R_1_2, R_1_3, R_7_0, R_7_1, R_10_0, R_10_1, R_10_2, R_14_0, R_16_0, R_18_0, R_18_1, R_18_2, R_18_4, R_18_5, R_18_6, R_18_8, R_18_9, R_27_0, R_27_1, R_27_2, R_32_0, R_32_1, R_32_3, R_32_4, R_32_5, R_32_6, R_32_7, R_32_11, R_32_12, R_32_13, R_32_14, R_32_17, R_32_20, R_32_21, R_32_22, R_32_24, R_32_25, R_32_26, R_32_27, R_32_28, R_32_29, R_32_30, R_32_31, I_0_2, I_1_4, I_7_2, I_14_1, I_16_1, I_18_3, I_18_7, I_27_3, I_27_4, I_31_0, I_31_1, I_31_2, I_31_3, I_31_4, I_31_5, I_31_6, I_32_2, I_32_8, I_32_9, I_32_10, I_32_15, I_32_16, I_32_18, I_32_19, J_0_10, J_32_23, P_0_2, P_0_10, P_1_4, P_7_2, P_14_1, P_16_1, P_18_3, P_18_7, P_27_3, P_27_4, P_31_0, P_31_1, P_31_2, P_31_3, P_31_4, P_31_5, P_31_6, P_32_2, P_32_8, P_32_9, P_32_10, P_32_15, P_32_16, P_32_18, P_32_19, P_32_23, K_0, K_1, K_7, K_10, K_14, K_16, K_18, K_27, K_31, K_32, L_35 (show i < 16 by omega), g1]
    rw [if_pos (nI_le (Nat.le_refl _) (by omega))]
    refine congrArg (fun z => some (M b z G n' sw)) (sl_e (fun j => ?_))
    unfold pc
    rw [Bool.eq_iff_iff]
    simp only [decide_eq_true_eq]
    omega
theorem e_cut57 {i p : Nat} {l T : Int32} (hi : i < n) (hn : n < 16) (hp : p ≤ 8) (hs : F 35 i = nI p) (h2 : F 32 2 = nI n) (hN : 20 ≤ N) : lX9_cut_57 N (some (b + 32)) (nI i) l T N 0 (M b F G n' sw) = some (M b (sl F (pc n p p 0) (fun j => F 39 (64 * i + (j - 64 * n)))) G n' sw) := by
  have e := lpH (fun m q s => lX9_cut_57 N (some (b + 32)) (nI i) l T m q s) (fun x => M b (sl F (pc n p x 0) (fun j => F 39 (64 * i + (j - 64 * n)))) G n' sw) p (M b (sl F (pc n p p 0) (fun j => F 39 (64 * i + (j - 64 * n)))) G n' sw) ?_ ?_ N 0 (by omega) (by omega)
  · rw [sl_0 (fun j => by unfold pc; rw [decide_eq_false_iff_not]; omega)] at e
    exact e
  · intro m x hx
    have g1 : sl F (pc n p x 0) (fun j => F 39 (64 * i + (j - 64 * n))) 35 i = nI p := by rw [sl_k (by omega)]; exact hs
    rw [lX9_cut_57]
    simp only [Option.bind_some, bI_0, Decidable.not_not, nm, b2, zr, e_isWithin, e_in, e_isGlass8, e_isGlass9, reduceIte, not_false_eq_true, not_true_eq_false, if_true, if_false, and_self, z01, z10, c00, c11, true_and, and_true, R_0_0, R_0_1, R_0_3, R_0_4, R_0_5, R_0_6, R_0_7, R_0_8, R_0_9, R_1_0, R_1_1, R_1_2, R_1_3, R_7_0, R_7_1, R_10_0, R_10_1, R_10_2, R_14_0, R_16_0, R_18_0, R_18_1, R_18_2, R_18_4, R_18_5, R_18_6, R_18_8, R_18_9, R_27_0, R_27_1, R_27_2, R_32_0, R_32_1, R_32_3, R_32_4, R_32_5, R_32_6, R_32_7, R_32_11, R_32_12, R_32_13, R_32_14, R_32_17, R_32_20, R_32_21, R_32_22, R_32_24, R_32_25, R_32_26, R_32_27, R_32_28, R_32_29, R_32_30, R_32_31, I_0_2, I_1_4, I_7_2, I_14_1, I_16_1, I_18_3, I_18_7, I_27_3, I_27_4, I_31_0, I_31_1, I_31_2, I_31_3, I_31_4, I_31_5, I_31_6, I_32_2, I_32_8, I_32_9, I_32_10, I_32_15, I_32_16, I_32_18, I_32_19, J_0_10, J_32_23, P_0_2, P_0_10, P_1_4, P_7_2, P_14_1, P_16_1, P_18_3, P_18_7, P_27_3, P_27_4, P_31_0, P_31_1, P_31_2, P_31_3, P_31_4, P_31_5, P_31_6, P_32_2, P_32_8, P_32_9, P_32_10, P_32_15, P_32_16, P_32_18, P_32_19, P_32_23, K_0, K_1, K_7, K_10, K_14, K_16, K_18, K_27, K_31, K_32, L_35 (show i < 16 by omega), g1]
    rw [if_neg (nI_ge hx (by omega)), e_cut71 hi hn hp hx hs h2 hN]
    simp only [Option.bind_some, nI_1]
  · intro m
    have g1 : sl F (pc n p p 0) (fun j => F 39 (64 * i + (j - 64 * n))) 35 i = nI p := by rw [sl_k (by omega)]; exact hs
    rw [lX9_cut_57]
    simp only [Option.bind_some, bI_0, Decidable.not_not, nm, b2, zr, e_isWithin, e_in, e_isGlass8, e_isGlass9, reduceIte, not_false_eq_true, not_true_eq_false, if_true, if_false, and_self, z01, z10, c00, c11, true_and, and_true, R_0_0, R_0_1, R_0_3, R_0_4, R_0_5, R_0_6, R_0_7, R_0_8, R_0_9, R_1_0, R_1_1, R_1_2, R_1_3, R_7_0, R_7_1, R_10_0, R_10_1, R_10_2, R_14_0, R_16_0, R_18_0, R_18_1, R_18_2, R_18_4, R_18_5, R_18_6, R_18_8, R_18_9, R_27_0, R_27_1, R_27_2, R_32_0, R_32_1, R_32_3, R_32_4, R_32_5, R_32_6, R_32_7, R_32_11, R_32_12, R_32_13, R_32_14, R_32_17, R_32_20, R_32_21, R_32_22, R_32_24, R_32_25, R_32_26, R_32_27, R_32_28, R_32_29, R_32_30, R_32_31, I_0_2, I_1_4, I_7_2, I_14_1, I_16_1, I_18_3, I_18_7, I_27_3, I_27_4, I_31_0, I_31_1, I_31_2, I_31_3, I_31_4, I_31_5, I_31_6, I_32_2, I_32_8, I_32_9, I_32_10, I_32_15, I_32_16, I_32_18, I_32_19, J_0_10, J_32_23, P_0_2, P_0_10, P_1_4, P_7_2, P_14_1, P_16_1, P_18_3, P_18_7, P_27_3, P_27_4, P_31_0, P_31_1, P_31_2, P_31_3, P_31_4, P_31_5, P_31_6, P_32_2, P_32_8, P_32_9, P_32_10, P_32_15, P_32_16, P_32_18, P_32_19, P_32_23, K_0, K_1, K_7, K_10, K_14, K_16, K_18, K_27, K_31, K_32, L_35 (show i < 16 by omega), g1]
    rw [if_pos (nI_le (Nat.le_refl _) (by omega))]
end CU2
theorem st_cut (b : Nat) : St_cut b (b + 32) (Inv b (b + 32)) := by
  rintro S ⟨-, F, G, n, sw, rfl, hR⟩ a1 a2
  obtain ⟨r1, r2, r3, r4, r5, r6, r7, r8, r9, r10, r11, r12, r13⟩ := id hR
  by_cases hx : rg n a1
  · obtain ⟨i, hi, rfl⟩ := (rg_iff (by omega)).mp hx
    obtain ⟨p, l, f, t, ⟨p1, p8, l9, ⟨e, e12, ef⟩, t40⟩, c1, c2, c3, c4, c5, c6, c7, c8, c9⟩ := r8 i hi
    have hi16 : i < 16 := by omega
    by_cases hl : l = 0
    · subst hl
      refine ⟨-1, M b F G n sw, M b F G n sw, ?_, ?_, rfl, F, G, n, sw, rfl, hR⟩
      · unfold fX8_cut
        simp only [Option.bind_some, bI_0, Decidable.not_not, nm, b2, zr, e_isWithin, e_in, e_isGlass8, e_isGlass9, reduceIte, not_false_eq_true, not_true_eq_false, if_true, if_false, and_self, z01, z10, c00, c11, true_and, and_true, R_0_0, R_0_1, R_0_3, R_0_4, R_0_5, R_0_6, R_0_7, R_0_8, R_0_9, R_1_0, R_1_1, R_1_2, R_1_3, R_7_0, R_7_1, R_10_0, R_10_1, R_10_2, R_14_0, R_16_0, R_18_0, R_18_1, R_18_2, R_18_4, R_18_5, R_18_6, R_18_8, R_18_9, R_27_0, R_27_1, R_27_2, R_32_0, R_32_1, R_32_3, R_32_4, R_32_5, R_32_6, R_32_7, R_32_11, R_32_12, R_32_13, R_32_14, R_32_17, R_32_20, R_32_21, R_32_22, R_32_24, R_32_25, R_32_26, R_32_27, R_32_28, R_32_29, R_32_30, R_32_31, I_0_2, I_1_4, I_7_2, I_14_1, I_16_1, I_18_3, I_18_7, I_27_3, I_27_4, I_31_0, I_31_1, I_31_2, I_31_3, I_31_4, I_31_5, I_31_6, I_32_2, I_32_8, I_32_9, I_32_10, I_32_15, I_32_16, I_32_18, I_32_19, J_0_10, J_32_23, P_0_2, P_0_10, P_1_4, P_7_2, P_14_1, P_16_1, P_18_3, P_18_7, P_27_3, P_27_4, P_31_0, P_31_1, P_31_2, P_31_3, P_31_4, P_31_5, P_31_6, P_32_2, P_32_8, P_32_9, P_32_10, P_32_15, P_32_16, P_32_18, P_32_19, P_32_23, K_0, K_1, K_7, K_10, K_14, K_16, K_18, K_27, K_31, K_32, e_unused_0 r1 r2 hi c3]
      · unfold fX9_cut
        have h0 : ¬ ((1 : Int32) ≤ a2 ∧ a2 ≤ nI 0 - 1) := by
          rintro ⟨z1, z2⟩
          exact absurd (Int32.le_trans z1 z2) (by decide)
        simp only [Option.bind_some, bI_0, Decidable.not_not, nm, b2, zr, e_isWithin, e_in, e_isGlass8, e_isGlass9, reduceIte, not_false_eq_true, not_true_eq_false, if_true, if_false, and_self, z01, z10, c00, c11, true_and, and_true, R_0_0, R_0_1, R_0_3, R_0_4, R_0_5, R_0_6, R_0_7, R_0_8, R_0_9, R_1_0, R_1_1, R_1_2, R_1_3, R_7_0, R_7_1, R_10_0, R_10_1, R_10_2, R_14_0, R_16_0, R_18_0, R_18_1, R_18_2, R_18_4, R_18_5, R_18_6, R_18_8, R_18_9, R_27_0, R_27_1, R_27_2, R_32_0, R_32_1, R_32_3, R_32_4, R_32_5, R_32_6, R_32_7, R_32_11, R_32_12, R_32_13, R_32_14, R_32_17, R_32_20, R_32_21, R_32_22, R_32_24, R_32_25, R_32_26, R_32_27, R_32_28, R_32_29, R_32_30, R_32_31, I_0_2, I_1_4, I_7_2, I_14_1, I_16_1, I_18_3, I_18_7, I_27_3, I_27_4, I_31_0, I_31_1, I_31_2, I_31_3, I_31_4, I_31_5, I_31_6, I_32_2, I_32_8, I_32_9, I_32_10, I_32_15, I_32_16, I_32_18, I_32_19, J_0_10, J_32_23, P_0_2, P_0_10, P_1_4, P_7_2, P_14_1, P_16_1, P_18_3, P_18_7, P_27_3, P_27_4, P_31_0, P_31_1, P_31_2, P_31_3, P_31_4, P_31_5, P_31_6, P_32_2, P_32_8, P_32_9, P_32_10, P_32_15, P_32_16, P_32_18, P_32_19, P_32_23, K_0, K_1, K_7, K_10, K_14, K_16, K_18, K_27, K_31, K_32, e_isCane r1 r3, eq_true hx, L_36 hi16, c4, eq_false h0]
    · have hl1 : nI l - 1 = nI (l - 1) := by rw [show (1 : Int32) = nI 1 from rfl, pk_sub (by omega)]
      by_cases hd : (1 : Int32) ≤ a2 ∧ a2 ≤ nI (l - 1)
      · obtain ⟨d, d1, d2, rfl⟩ := rng 1 (l - 1) rfl rfl (by decide) (by omega) hd
        by_cases hn : n < 16
        · have hn' : nI n < (16 : Int32) := nI_lt (b := 16) hn (by decide)
          have hn9 : ¬ nI n = (16 : Int32) := fun z => by have := (nI_eq (b := 16) (by omega) (by decide)).mp z; omega
          have hT : t * d / l ≤ t := by
            apply Nat.div_le_of_le_mul
            rw [Nat.mul_comm l t]
            exact Nat.mul_le_mul_left t (by omega)
          have htd : t * d < 2 ^ 31 := Nat.lt_of_le_of_lt (Nat.mul_le_mul t40 (show d ≤ 9999 by omega)) (by decide)
          have hA4 : Ag b n sw (u2 (u2 (Hst b n sw) (57 + 3 * n) 0 (some (b + (58 + 3 * n)))) (56 + 3 * n) 0 (some (b + (57 + 3 * n)))) (59 + 3 * n) := Ag_u (Ag_u (Ag_c Ag_M (by omega)) (by omega)) (by omega)
          have hci : 56 + 3 * i < 59 + 3 * n := by omega
          have hcn : 56 + 3 * n < 59 + 3 * n := by omega
          have m1 : nI t - nI (t * d / l) = nI (t - t * d / l) := pk_sub hT
          have m2 : nI l - nI d = nI (l - d) := pk_sub (by omega)
          have k0 : (u2 (u2 (u2 (u2 (u2 (u2 (cR (uR (u2 (zR (zR (zR F (56 + 3 * n)) (57 + 3 * n)) (58 + 3 * n)) (57 + 3 * n) 1 (nI p)) (58 + 3 * n) 0 64 0) (58 + 3 * n) (58 + 3 * i)) (56 + 3 * n) 1 (nI d)) (56 + 3 * n) 2 (nI f)) (56 + 3 * n) 3 0) (56 + 3 * n) 3 (nI (t * d / l))) (56 + 3 * i) 3 (nI (t - t * d / l))) (56 + 3 * i) 1 (nI (l - d))) 0 2 = nI n := by
            simp only [u2, uR, zR, cR]; (repeat rw [if_neg (by omega)]); exact r2
          refine ⟨nI n, M b (u2 (u2 (u2 (u2 (u2 (u2 (u2 (cR (uR (u2 (zR (zR (zR F (56 + 3 * n)) (57 + 3 * n)) (58 + 3 * n)) (57 + 3 * n) 1 (nI p)) (58 + 3 * n) 0 64 0) (58 + 3 * n) (58 + 3 * i)) (56 + 3 * n) 1 (nI d)) (56 + 3 * n) 2 (nI f)) (56 + 3 * n) 3 0) (56 + 3 * n) 3 (nI (t * d / l))) (56 + 3 * i) 3 (nI (t - t * d / l))) (56 + 3 * i) 1 (nI (l - d))) 0 2 (nI (n + 1))) G (n + 1) sw, M b (u2 (u2 (u2 (u2 (u2 (u2 (u2 (sl (u2 (u2 (u2 (u2 (u2 (u2 (u2 (cR (uR (u2 (zR (zR (zR F (56 + 3 * n)) (57 + 3 * n)) (58 + 3 * n)) (57 + 3 * n) 1 (nI p)) (58 + 3 * n) 0 64 0) (58 + 3 * n) (58 + 3 * i)) (56 + 3 * n) 1 (nI d)) (56 + 3 * n) 2 (nI f)) (56 + 3 * n) 3 0) (56 + 3 * n) 3 (nI (t * d / l))) (56 + 3 * i) 3 (nI (t - t * d / l))) (56 + 3 * i) 1 (nI (l - d))) 0 2 (nI (n + 1))) (pc n p p 0) (fun j => (u2 (u2 (u2 (u2 (u2 (u2 (u2 (cR (uR (u2 (zR (zR (zR F (56 + 3 * n)) (57 + 3 * n)) (58 + 3 * n)) (57 + 3 * n) 1 (nI p)) (58 + 3 * n) 0 64 0) (58 + 3 * n) (58 + 3 * i)) (56 + 3 * n) 1 (nI d)) (56 + 3 * n) 2 (nI f)) (56 + 3 * n) 3 0) (56 + 3 * n) 3 (nI (t * d / l))) (56 + 3 * i) 3 (nI (t - t * d / l))) (56 + 3 * i) 1 (nI (l - d))) 0 2 (nI (n + 1))) 39 (64 * i + (j - 64 * n)))) 36 i (nI (l - d))) 38 i (nI (t - t * d / l))) 35 n (nI p)) 36 n (nI d)) 37 n (nI f)) 38 n (nI (t * d / l))) 32 2 (nI (n + 1))) G (n + 1) sw, ?_, ?_, rfl, _, _, _, _, rfl, ?_⟩
          · have hM : M b F G n sw = mk b F G (Hst b n sw) (56 + 3 * n) := rfl
            have k1 : zR F (56 + 3 * n) (57 + 3 * i) 1 = nI p := by
              simp only [zR]; rw [if_neg (by omega)]; exact c1
            have k2 : (cR (uR (u2 (zR (zR (zR F (56 + 3 * n)) (57 + 3 * n)) (58 + 3 * n)) (57 + 3 * n) 1 (nI p)) (58 + 3 * n) 0 64 0) (58 + 3 * n) (58 + 3 * i)) (56 + 3 * i) 2 = nI f := by
              simp only [u2, uR, zR, cR]; (repeat rw [if_neg (by omega)]); exact c5
            have k3 : (u2 (u2 (u2 (cR (uR (u2 (zR (zR (zR F (56 + 3 * n)) (57 + 3 * n)) (58 + 3 * n)) (57 + 3 * n) 1 (nI p)) (58 + 3 * n) 0 64 0) (58 + 3 * n) (58 + 3 * i)) (56 + 3 * n) 1 (nI d)) (56 + 3 * n) 2 (nI f)) (56 + 3 * n) 3 0) (56 + 3 * i) 1 = nI l := by
              simp only [u2, uR, zR, cR]; (repeat rw [if_neg (by omega)]); exact c3
            have k4 : (u2 (u2 (u2 (cR (uR (u2 (zR (zR (zR F (56 + 3 * n)) (57 + 3 * n)) (58 + 3 * n)) (57 + 3 * n) 1 (nI p)) (58 + 3 * n) 0 64 0) (58 + 3 * n) (58 + 3 * i)) (56 + 3 * n) 1 (nI d)) (56 + 3 * n) 2 (nI f)) (56 + 3 * n) 3 0) (56 + 3 * i) 3 = nI t := by
              simp only [u2, uR, zR, cR]; (repeat rw [if_neg (by omega)]); exact c7
            have k5 : (u2 (u2 (u2 (u2 (cR (uR (u2 (zR (zR (zR F (56 + 3 * n)) (57 + 3 * n)) (58 + 3 * n)) (57 + 3 * n) 1 (nI p)) (58 + 3 * n) 0 64 0) (58 + 3 * n) (58 + 3 * i)) (56 + 3 * n) 1 (nI d)) (56 + 3 * n) 2 (nI f)) (56 + 3 * n) 3 0) (56 + 3 * n) 3 (nI (t * d / l))) (56 + 3 * i) 3 = nI t := by
              rw [u2_ne _ _ _ _ (by omega)]; exact k4
            have k6 : (u2 (u2 (u2 (u2 (u2 (cR (uR (u2 (zR (zR (zR F (56 + 3 * n)) (57 + 3 * n)) (58 + 3 * n)) (57 + 3 * n) 1 (nI p)) (58 + 3 * n) 0 64 0) (58 + 3 * n) (58 + 3 * i)) (56 + 3 * n) 1 (nI d)) (56 + 3 * n) 2 (nI f)) (56 + 3 * n) 3 0) (56 + 3 * n) 3 (nI (t * d / l))) (56 + 3 * i) 3 (nI (t - t * d / l))) (56 + 3 * i) 1 = nI l := by
              rw [u2_ne _ _ _ _ (by omega), u2_ne _ _ _ _ (by omega)]; exact k3
            have hA3 : Ag b n sw (u2 (Hst b n sw) (57 + 3 * n) 0 (some (b + (58 + 3 * n)))) (59 + 3 * n) := Ag_u (Ag_c Ag_M (by omega)) (by omega)
            unfold fX8_cut
            simp only [Option.bind_some, bI_0, Decidable.not_not, nm, b2, zr, e_isWithin, e_in, e_isGlass8, e_isGlass9, reduceIte, not_false_eq_true, not_true_eq_false, if_true, if_false, and_self, z01, z10, c00, c11, true_and, and_true, R_0_0, R_0_1, R_0_3, R_0_4, R_0_5, R_0_6, R_0_7, R_0_8, R_0_9, R_1_0, R_1_1, R_1_2, R_1_3, R_7_0, R_7_1, R_10_0, R_10_1, R_10_2, R_14_0, R_16_0, R_18_0, R_18_1, R_18_2, R_18_4, R_18_5, R_18_6, R_18_8, R_18_9, R_27_0, R_27_1, R_27_2, R_32_0, R_32_1, R_32_3, R_32_4, R_32_5, R_32_6, R_32_7, R_32_11, R_32_12, R_32_13, R_32_14, R_32_17, R_32_20, R_32_21, R_32_22, R_32_24, R_32_25, R_32_26, R_32_27, R_32_28, R_32_29, R_32_30, R_32_31, I_0_2, I_1_4, I_7_2, I_14_1, I_16_1, I_18_3, I_18_7, I_27_3, I_27_4, I_31_0, I_31_1, I_31_2, I_31_3, I_31_4, I_31_5, I_31_6, I_32_2, I_32_8, I_32_9, I_32_10, I_32_15, I_32_16, I_32_18, I_32_19, J_0_10, J_32_23, P_0_2, P_0_10, P_1_4, P_7_2, P_14_1, P_16_1, P_18_3, P_18_7, P_27_3, P_27_4, P_31_0, P_31_1, P_31_2, P_31_3, P_31_4, P_31_5, P_31_6, P_32_2, P_32_8, P_32_9, P_32_10, P_32_15, P_32_16, P_32_18, P_32_19, P_32_23, K_0, K_1, K_7, K_10, K_14, K_16, K_18, K_27, K_31, K_32, e_unused_y r1 r2 hi c3 (show 0 < l by omega) (show l < 2 ^ 31 by omega), Ic_1 hi, c3, hl1, eq_true hd, r2, eq_true hn', reduceCtorEq]
            rw [hM]
            simp only [mk_1, a_cane Ag_M (Hst_new (Nat.le_refl _))]
            rw [q_c0 (Ag_c Ag_M (by omega)) hi]
            simp only [Option.bind_some]
            rw [e_copy hi p1 p8 k1 (by decide)]
            simp only [Option.bind_some]
            rw [m_gfI hci (kdC0 i) (show (fty 1)[2]? = some 0 from rfl), k2]
            simp only [Option.bind_some]
            rw [e_init1 hcn]
            simp only [Option.bind_some]
            rw [q_twist hci (kdC0 i) k3 k4 (by omega) l9 t40 (by omega)]
            simp only [Option.bind_some]
            rw [m_pfI hcn (kdC0 n) (show (fty 1)[3]? = some 0 from rfl)]
            simp only [Option.bind_some]
            rw [m_gfI hci (kdC0 i) (show (fty 1)[3]? = some 0 from rfl), k5]
            simp only [Option.bind_some]
            rw [m_gfI hcn (kdC0 n) (show (fty 1)[3]? = some 0 from rfl), u2_eq]
            simp only [Option.bind_some, m1]
            rw [m_pfI hci (kdC0 i) (show (fty 1)[3]? = some 0 from rfl)]
            simp only [Option.bind_some]
            rw [m_gfI hci (kdC0 i) (show (fty 1)[1]? = some 0 from rfl), k6]
            simp only [Option.bind_some, m2]
            rw [m_pfI hci (kdC0 i) (show (fty 1)[1]? = some 0 from rfl)]
            simp only [Option.bind_some]
            rw [e_keep hA4 hcn hn k0]
            simp only [Option.bind_some]
            exact congrArg (fun z => some (nI n, z)) e_fin
          · have g2 : (u2 (u2 (u2 (u2 (u2 (u2 (u2 (cR (uR (u2 (zR (zR (zR F (56 + 3 * n)) (57 + 3 * n)) (58 + 3 * n)) (57 + 3 * n) 1 (nI p)) (58 + 3 * n) 0 64 0) (58 + 3 * n) (58 + 3 * i)) (56 + 3 * n) 1 (nI d)) (56 + 3 * n) 2 (nI f)) (56 + 3 * n) 3 0) (56 + 3 * n) 3 (nI (t * d / l))) (56 + 3 * i) 3 (nI (t - t * d / l))) (56 + 3 * i) 1 (nI (l - d))) 0 2 (nI (n + 1))) 32 2 = nI n := by
              simp only [u2, uR, zR, cR]; (repeat rw [if_neg (by omega)]); exact r3
            have g3 : (u2 (u2 (u2 (u2 (u2 (u2 (u2 (cR (uR (u2 (zR (zR (zR F (56 + 3 * n)) (57 + 3 * n)) (58 + 3 * n)) (57 + 3 * n) 1 (nI p)) (58 + 3 * n) 0 64 0) (58 + 3 * n) (58 + 3 * i)) (56 + 3 * n) 1 (nI d)) (56 + 3 * n) 2 (nI f)) (56 + 3 * n) 3 0) (56 + 3 * n) 3 (nI (t * d / l))) (56 + 3 * i) 3 (nI (t - t * d / l))) (56 + 3 * i) 1 (nI (l - d))) 0 2 (nI (n + 1))) 36 i = nI l := by
              simp only [u2, uR, zR, cR]; (repeat rw [if_neg (by omega)]); exact c4
            have g4 : (u2 (u2 (u2 (u2 (u2 (u2 (u2 (cR (uR (u2 (zR (zR (zR F (56 + 3 * n)) (57 + 3 * n)) (58 + 3 * n)) (57 + 3 * n) 1 (nI p)) (58 + 3 * n) 0 64 0) (58 + 3 * n) (58 + 3 * i)) (56 + 3 * n) 1 (nI d)) (56 + 3 * n) 2 (nI f)) (56 + 3 * n) 3 0) (56 + 3 * n) 3 (nI (t * d / l))) (56 + 3 * i) 3 (nI (t - t * d / l))) (56 + 3 * i) 1 (nI (l - d))) 0 2 (nI (n + 1))) 38 i = nI t := by
              simp only [u2, uR, zR, cR]; (repeat rw [if_neg (by omega)]); exact c8
            have g5 : (u2 (u2 (u2 (u2 (u2 (u2 (u2 (cR (uR (u2 (zR (zR (zR F (56 + 3 * n)) (57 + 3 * n)) (58 + 3 * n)) (57 + 3 * n) 1 (nI p)) (58 + 3 * n) 0 64 0) (58 + 3 * n) (58 + 3 * i)) (56 + 3 * n) 1 (nI d)) (56 + 3 * n) 2 (nI f)) (56 + 3 * n) 3 0) (56 + 3 * n) 3 (nI (t * d / l))) (56 + 3 * i) 3 (nI (t - t * d / l))) (56 + 3 * i) 1 (nI (l - d))) 0 2 (nI (n + 1))) 35 i = nI p := by
              simp only [u2, uR, zR, cR]; (repeat rw [if_neg (by omega)]); exact c2
            have g6 : (sl (u2 (u2 (u2 (u2 (u2 (u2 (u2 (cR (uR (u2 (zR (zR (zR F (56 + 3 * n)) (57 + 3 * n)) (58 + 3 * n)) (57 + 3 * n) 1 (nI p)) (58 + 3 * n) 0 64 0) (58 + 3 * n) (58 + 3 * i)) (56 + 3 * n) 1 (nI d)) (56 + 3 * n) 2 (nI f)) (56 + 3 * n) 3 0) (56 + 3 * n) 3 (nI (t * d / l))) (56 + 3 * i) 3 (nI (t - t * d / l))) (56 + 3 * i) 1 (nI (l - d))) 0 2 (nI (n + 1))) (pc n p p 0) (fun j => (u2 (u2 (u2 (u2 (u2 (u2 (u2 (cR (uR (u2 (zR (zR (zR F (56 + 3 * n)) (57 + 3 * n)) (58 + 3 * n)) (57 + 3 * n) 1 (nI p)) (58 + 3 * n) 0 64 0) (58 + 3 * n) (58 + 3 * i)) (56 + 3 * n) 1 (nI d)) (56 + 3 * n) 2 (nI f)) (56 + 3 * n) 3 0) (56 + 3 * n) 3 (nI (t * d / l))) (56 + 3 * i) 3 (nI (t - t * d / l))) (56 + 3 * i) 1 (nI (l - d))) 0 2 (nI (n + 1))) 39 (64 * i + (j - 64 * n)))) 36 i = nI l := by rw [sl_k (by omega)]; exact g3
            have g7 : u2 (sl (u2 (u2 (u2 (u2 (u2 (u2 (u2 (cR (uR (u2 (zR (zR (zR F (56 + 3 * n)) (57 + 3 * n)) (58 + 3 * n)) (57 + 3 * n) 1 (nI p)) (58 + 3 * n) 0 64 0) (58 + 3 * n) (58 + 3 * i)) (56 + 3 * n) 1 (nI d)) (56 + 3 * n) 2 (nI f)) (56 + 3 * n) 3 0) (56 + 3 * n) 3 (nI (t * d / l))) (56 + 3 * i) 3 (nI (t - t * d / l))) (56 + 3 * i) 1 (nI (l - d))) 0 2 (nI (n + 1))) (pc n p p 0) (fun j => (u2 (u2 (u2 (u2 (u2 (u2 (u2 (cR (uR (u2 (zR (zR (zR F (56 + 3 * n)) (57 + 3 * n)) (58 + 3 * n)) (57 + 3 * n) 1 (nI p)) (58 + 3 * n) 0 64 0) (58 + 3 * n) (58 + 3 * i)) (56 + 3 * n) 1 (nI d)) (56 + 3 * n) 2 (nI f)) (56 + 3 * n) 3 0) (56 + 3 * n) 3 (nI (t * d / l))) (56 + 3 * i) 3 (nI (t - t * d / l))) (56 + 3 * i) 1 (nI (l - d))) 0 2 (nI (n + 1))) 39 (64 * i + (j - 64 * n)))) 36 i (nI (l - d)) 38 i = nI t := by rw [u2_ne _ _ _ _ (by omega), sl_k (by omega)]; exact g4
            have g8 : (u2 (u2 (sl (u2 (u2 (u2 (u2 (u2 (u2 (u2 (cR (uR (u2 (zR (zR (zR F (56 + 3 * n)) (57 + 3 * n)) (58 + 3 * n)) (57 + 3 * n) 1 (nI p)) (58 + 3 * n) 0 64 0) (58 + 3 * n) (58 + 3 * i)) (56 + 3 * n) 1 (nI d)) (56 + 3 * n) 2 (nI f)) (56 + 3 * n) 3 0) (56 + 3 * n) 3 (nI (t * d / l))) (56 + 3 * i) 3 (nI (t - t * d / l))) (56 + 3 * i) 1 (nI (l - d))) 0 2 (nI (n + 1))) (pc n p p 0) (fun j => (u2 (u2 (u2 (u2 (u2 (u2 (u2 (cR (uR (u2 (zR (zR (zR F (56 + 3 * n)) (57 + 3 * n)) (58 + 3 * n)) (57 + 3 * n) 1 (nI p)) (58 + 3 * n) 0 64 0) (58 + 3 * n) (58 + 3 * i)) (56 + 3 * n) 1 (nI d)) (56 + 3 * n) 2 (nI f)) (56 + 3 * n) 3 0) (56 + 3 * n) 3 (nI (t * d / l))) (56 + 3 * i) 3 (nI (t - t * d / l))) (56 + 3 * i) 1 (nI (l - d))) 0 2 (nI (n + 1))) 39 (64 * i + (j - 64 * n)))) 36 i (nI (l - d))) 38 i (nI (t - t * d / l))) 35 i = nI p := by rw [u2_ne _ _ _ _ (by omega), u2_ne _ _ _ _ (by omega), sl_k (by omega)]; exact g5
            have g9 : (u2 (u2 (sl (u2 (u2 (u2 (u2 (u2 (u2 (u2 (cR (uR (u2 (zR (zR (zR F (56 + 3 * n)) (57 + 3 * n)) (58 + 3 * n)) (57 + 3 * n) 1 (nI p)) (58 + 3 * n) 0 64 0) (58 + 3 * n) (58 + 3 * i)) (56 + 3 * n) 1 (nI d)) (56 + 3 * n) 2 (nI f)) (56 + 3 * n) 3 0) (56 + 3 * n) 3 (nI (t * d / l))) (56 + 3 * i) 3 (nI (t - t * d / l))) (56 + 3 * i) 1 (nI (l - d))) 0 2 (nI (n + 1))) (pc n p p 0) (fun j => (u2 (u2 (u2 (u2 (u2 (u2 (u2 (cR (uR (u2 (zR (zR (zR F (56 + 3 * n)) (57 + 3 * n)) (58 + 3 * n)) (57 + 3 * n) 1 (nI p)) (58 + 3 * n) 0 64 0) (58 + 3 * n) (58 + 3 * i)) (56 + 3 * n) 1 (nI d)) (56 + 3 * n) 2 (nI f)) (56 + 3 * n) 3 0) (56 + 3 * n) 3 (nI (t * d / l))) (56 + 3 * i) 3 (nI (t - t * d / l))) (56 + 3 * i) 1 (nI (l - d))) 0 2 (nI (n + 1))) 39 (64 * i + (j - 64 * n)))) 36 i (nI (l - d))) 38 i (nI (t - t * d / l))) 37 i = nI f := by
              rw [u2_ne _ _ _ _ (by omega), u2_ne _ _ _ _ (by omega), sl_k (by omega)]
              simp only [u2, uR, zR, cR]; (repeat rw [if_neg (by omega)]); exact c6
            have g10 : (u2 (u2 (sl (u2 (u2 (u2 (u2 (u2 (u2 (u2 (cR (uR (u2 (zR (zR (zR F (56 + 3 * n)) (57 + 3 * n)) (58 + 3 * n)) (57 + 3 * n) 1 (nI p)) (58 + 3 * n) 0 64 0) (58 + 3 * n) (58 + 3 * i)) (56 + 3 * n) 1 (nI d)) (56 + 3 * n) 2 (nI f)) (56 + 3 * n) 3 0) (56 + 3 * n) 3 (nI (t * d / l))) (56 + 3 * i) 3 (nI (t - t * d / l))) (56 + 3 * i) 1 (nI (l - d))) 0 2 (nI (n + 1))) (pc n p p 0) (fun j => (u2 (u2 (u2 (u2 (u2 (u2 (u2 (cR (uR (u2 (zR (zR (zR F (56 + 3 * n)) (57 + 3 * n)) (58 + 3 * n)) (57 + 3 * n) 1 (nI p)) (58 + 3 * n) 0 64 0) (58 + 3 * n) (58 + 3 * i)) (56 + 3 * n) 1 (nI d)) (56 + 3 * n) 2 (nI f)) (56 + 3 * n) 3 0) (56 + 3 * n) 3 (nI (t * d / l))) (56 + 3 * i) 3 (nI (t - t * d / l))) (56 + 3 * i) 1 (nI (l - d))) 0 2 (nI (n + 1))) 39 (64 * i + (j - 64 * n)))) 36 i (nI (l - d))) 38 i (nI (t - t * d / l))) 32 2 = nI n := by rw [u2_ne _ _ _ _ (by omega), u2_ne _ _ _ _ (by omega), sl_k (by omega)]; exact g2
            have e57 := e_cut57 (N := NF) (b := b) (F := (u2 (u2 (u2 (u2 (u2 (u2 (u2 (cR (uR (u2 (zR (zR (zR F (56 + 3 * n)) (57 + 3 * n)) (58 + 3 * n)) (57 + 3 * n) 1 (nI p)) (58 + 3 * n) 0 64 0) (58 + 3 * n) (58 + 3 * i)) (56 + 3 * n) 1 (nI d)) (56 + 3 * n) 2 (nI f)) (56 + 3 * n) 3 0) (56 + 3 * n) 3 (nI (t * d / l))) (56 + 3 * i) 3 (nI (t - t * d / l))) (56 + 3 * i) 1 (nI (l - d))) 0 2 (nI (n + 1)))) (G := G) (n := n) (n' := n + 1) (sw := sw) (i := i) (p := p) (l := nI d) (T := nI (t * d / l)) hi hn p8 g5 g2 (by decide)
            unfold fX9_cut
            simp only [Option.bind_some, bI_0, Decidable.not_not, nm, b2, zr, e_isWithin, e_in, e_isGlass8, e_isGlass9, reduceIte, not_false_eq_true, not_true_eq_false, if_true, if_false, and_self, z01, z10, c00, c11, true_and, and_true, R_0_0, R_0_1, R_0_3, R_0_4, R_0_5, R_0_6, R_0_7, R_0_8, R_0_9, R_1_0, R_1_1, R_1_2, R_1_3, R_7_0, R_7_1, R_10_0, R_10_1, R_10_2, R_14_0, R_16_0, R_18_0, R_18_1, R_18_2, R_18_4, R_18_5, R_18_6, R_18_8, R_18_9, R_27_0, R_27_1, R_27_2, R_32_0, R_32_1, R_32_3, R_32_4, R_32_5, R_32_6, R_32_7, R_32_11, R_32_12, R_32_13, R_32_14, R_32_17, R_32_20, R_32_21, R_32_22, R_32_24, R_32_25, R_32_26, R_32_27, R_32_28, R_32_29, R_32_30, R_32_31, I_0_2, I_1_4, I_7_2, I_14_1, I_16_1, I_18_3, I_18_7, I_27_3, I_27_4, I_31_0, I_31_1, I_31_2, I_31_3, I_31_4, I_31_5, I_31_6, I_32_2, I_32_8, I_32_9, I_32_10, I_32_15, I_32_16, I_32_18, I_32_19, J_0_10, J_32_23, P_0_2, P_0_10, P_1_4, P_7_2, P_14_1, P_16_1, P_18_3, P_18_7, P_27_3, P_27_4, P_31_0, P_31_1, P_31_2, P_31_3, P_31_4, P_31_5, P_31_6, P_32_2, P_32_8, P_32_9, P_32_10, P_32_15, P_32_16, P_32_18, P_32_19, P_32_23, K_0, K_1, K_7, K_10, K_14, K_16, K_18, K_27, K_31, K_32, e_isCaneG r1 g2, eq_true hx, L_36 hi16, L_38 hi16, g3, g4, hl1, eq_true hd, g2, eq_false hn9, eq_false (ne0 (show 0 < l by omega) (show l < 2 ^ 31 by omega)), pk_mul, pk_div htd (show 0 < l by omega) (show l < 2 ^ 31 by omega), e57]
            rw [g6, m2, T_36 hi16]
            simp only [Option.bind_some, bI_0, Decidable.not_not, nm, b2, zr, e_isWithin, e_in, e_isGlass8, e_isGlass9, reduceIte, not_false_eq_true, not_true_eq_false, if_true, if_false, and_self, z01, z10, c00, c11, true_and, and_true, R_0_0, R_0_1, R_0_3, R_0_4, R_0_5, R_0_6, R_0_7, R_0_8, R_0_9, R_1_0, R_1_1, R_1_2, R_1_3, R_7_0, R_7_1, R_10_0, R_10_1, R_10_2, R_14_0, R_16_0, R_18_0, R_18_1, R_18_2, R_18_4, R_18_5, R_18_6, R_18_8, R_18_9, R_27_0, R_27_1, R_27_2, R_32_0, R_32_1, R_32_3, R_32_4, R_32_5, R_32_6, R_32_7, R_32_11, R_32_12, R_32_13, R_32_14, R_32_17, R_32_20, R_32_21, R_32_22, R_32_24, R_32_25, R_32_26, R_32_27, R_32_28, R_32_29, R_32_30, R_32_31, I_0_2, I_1_4, I_7_2, I_14_1, I_16_1, I_18_3, I_18_7, I_27_3, I_27_4, I_31_0, I_31_1, I_31_2, I_31_3, I_31_4, I_31_5, I_31_6, I_32_2, I_32_8, I_32_9, I_32_10, I_32_15, I_32_16, I_32_18, I_32_19, J_0_10, J_32_23, P_0_2, P_0_10, P_1_4, P_7_2, P_14_1, P_16_1, P_18_3, P_18_7, P_27_3, P_27_4, P_31_0, P_31_1, P_31_2, P_31_3, P_31_4, P_31_5, P_31_6, P_32_2, P_32_8, P_32_9, P_32_10, P_32_15, P_32_16, P_32_18, P_32_19, P_32_23, K_0, K_1, K_7, K_10, K_14, K_16, K_18, K_27, K_31, K_32]
            rw [L_38 hi16, g7]
            simp only [Option.bind_some, bI_0, Decidable.not_not, nm, b2, zr, e_isWithin, e_in, e_isGlass8, e_isGlass9, reduceIte, not_false_eq_true, not_true_eq_false, if_true, if_false, and_self, z01, z10, c00, c11, true_and, and_true, R_0_0, R_0_1, R_0_3, R_0_4, R_0_5, R_0_6, R_0_7, R_0_8, R_0_9, R_1_0, R_1_1, R_1_2, R_1_3, R_7_0, R_7_1, R_10_0, R_10_1, R_10_2, R_14_0, R_16_0, R_18_0, R_18_1, R_18_2, R_18_4, R_18_5, R_18_6, R_18_8, R_18_9, R_27_0, R_27_1, R_27_2, R_32_0, R_32_1, R_32_3, R_32_4, R_32_5, R_32_6, R_32_7, R_32_11, R_32_12, R_32_13, R_32_14, R_32_17, R_32_20, R_32_21, R_32_22, R_32_24, R_32_25, R_32_26, R_32_27, R_32_28, R_32_29, R_32_30, R_32_31, I_0_2, I_1_4, I_7_2, I_14_1, I_16_1, I_18_3, I_18_7, I_27_3, I_27_4, I_31_0, I_31_1, I_31_2, I_31_3, I_31_4, I_31_5, I_31_6, I_32_2, I_32_8, I_32_9, I_32_10, I_32_15, I_32_16, I_32_18, I_32_19, J_0_10, J_32_23, P_0_2, P_0_10, P_1_4, P_7_2, P_14_1, P_16_1, P_18_3, P_18_7, P_27_3, P_27_4, P_31_0, P_31_1, P_31_2, P_31_3, P_31_4, P_31_5, P_31_6, P_32_2, P_32_8, P_32_9, P_32_10, P_32_15, P_32_16, P_32_18, P_32_19, P_32_23, K_0, K_1, K_7, K_10, K_14, K_16, K_18, K_27, K_31, K_32]
            rw [m1, T_38 hi16]
            simp only [Option.bind_some, bI_0, Decidable.not_not, nm, b2, zr, e_isWithin, e_in, e_isGlass8, e_isGlass9, reduceIte, not_false_eq_true, not_true_eq_false, if_true, if_false, and_self, z01, z10, c00, c11, true_and, and_true, R_0_0, R_0_1, R_0_3, R_0_4, R_0_5, R_0_6, R_0_7, R_0_8, R_0_9, R_1_0, R_1_1, R_1_2, R_1_3, R_7_0, R_7_1, R_10_0, R_10_1, R_10_2, R_14_0, R_16_0, R_18_0, R_18_1, R_18_2, R_18_4, R_18_5, R_18_6, R_18_8, R_18_9, R_27_0, R_27_1, R_27_2, R_32_0, R_32_1, R_32_3, R_32_4, R_32_5, R_32_6, R_32_7, R_32_11, R_32_12, R_32_13, R_32_14, R_32_17, R_32_20, R_32_21, R_32_22, R_32_24, R_32_25, R_32_26, R_32_27, R_32_28, R_32_29, R_32_30, R_32_31, I_0_2, I_1_4, I_7_2, I_14_1, I_16_1, I_18_3, I_18_7, I_27_3, I_27_4, I_31_0, I_31_1, I_31_2, I_31_3, I_31_4, I_31_5, I_31_6, I_32_2, I_32_8, I_32_9, I_32_10, I_32_15, I_32_16, I_32_18, I_32_19, J_0_10, J_32_23, P_0_2, P_0_10, P_1_4, P_7_2, P_14_1, P_16_1, P_18_3, P_18_7, P_27_3, P_27_4, P_31_0, P_31_1, P_31_2, P_31_3, P_31_4, P_31_5, P_31_6, P_32_2, P_32_8, P_32_9, P_32_10, P_32_15, P_32_16, P_32_18, P_32_19, P_32_23, K_0, K_1, K_7, K_10, K_14, K_16, K_18, K_27, K_31, K_32]
            rw [L_35 hi16, g8]
            simp only [Option.bind_some, bI_0, Decidable.not_not, nm, b2, zr, e_isWithin, e_in, e_isGlass8, e_isGlass9, reduceIte, not_false_eq_true, not_true_eq_false, if_true, if_false, and_self, z01, z10, c00, c11, true_and, and_true, R_0_0, R_0_1, R_0_3, R_0_4, R_0_5, R_0_6, R_0_7, R_0_8, R_0_9, R_1_0, R_1_1, R_1_2, R_1_3, R_7_0, R_7_1, R_10_0, R_10_1, R_10_2, R_14_0, R_16_0, R_18_0, R_18_1, R_18_2, R_18_4, R_18_5, R_18_6, R_18_8, R_18_9, R_27_0, R_27_1, R_27_2, R_32_0, R_32_1, R_32_3, R_32_4, R_32_5, R_32_6, R_32_7, R_32_11, R_32_12, R_32_13, R_32_14, R_32_17, R_32_20, R_32_21, R_32_22, R_32_24, R_32_25, R_32_26, R_32_27, R_32_28, R_32_29, R_32_30, R_32_31, I_0_2, I_1_4, I_7_2, I_14_1, I_16_1, I_18_3, I_18_7, I_27_3, I_27_4, I_31_0, I_31_1, I_31_2, I_31_3, I_31_4, I_31_5, I_31_6, I_32_2, I_32_8, I_32_9, I_32_10, I_32_15, I_32_16, I_32_18, I_32_19, J_0_10, J_32_23, P_0_2, P_0_10, P_1_4, P_7_2, P_14_1, P_16_1, P_18_3, P_18_7, P_27_3, P_27_4, P_31_0, P_31_1, P_31_2, P_31_3, P_31_4, P_31_5, P_31_6, P_32_2, P_32_8, P_32_9, P_32_10, P_32_15, P_32_16, P_32_18, P_32_19, P_32_23, K_0, K_1, K_7, K_10, K_14, K_16, K_18, K_27, K_31, K_32]
            rw [L_37 hi16, g9]
            simp only [Option.bind_some, bI_0, Decidable.not_not, nm, b2, zr, e_isWithin, e_in, e_isGlass8, e_isGlass9, reduceIte, not_false_eq_true, not_true_eq_false, if_true, if_false, and_self, z01, z10, c00, c11, true_and, and_true, R_0_0, R_0_1, R_0_3, R_0_4, R_0_5, R_0_6, R_0_7, R_0_8, R_0_9, R_1_0, R_1_1, R_1_2, R_1_3, R_7_0, R_7_1, R_10_0, R_10_1, R_10_2, R_14_0, R_16_0, R_18_0, R_18_1, R_18_2, R_18_4, R_18_5, R_18_6, R_18_8, R_18_9, R_27_0, R_27_1, R_27_2, R_32_0, R_32_1, R_32_3, R_32_4, R_32_5, R_32_6, R_32_7, R_32_11, R_32_12, R_32_13, R_32_14, R_32_17, R_32_20, R_32_21, R_32_22, R_32_24, R_32_25, R_32_26, R_32_27, R_32_28, R_32_29, R_32_30, R_32_31, I_0_2, I_1_4, I_7_2, I_14_1, I_16_1, I_18_3, I_18_7, I_27_3, I_27_4, I_31_0, I_31_1, I_31_2, I_31_3, I_31_4, I_31_5, I_31_6, I_32_2, I_32_8, I_32_9, I_32_10, I_32_15, I_32_16, I_32_18, I_32_19, J_0_10, J_32_23, P_0_2, P_0_10, P_1_4, P_7_2, P_14_1, P_16_1, P_18_3, P_18_7, P_27_3, P_27_4, P_31_0, P_31_1, P_31_2, P_31_3, P_31_4, P_31_5, P_31_6, P_32_2, P_32_8, P_32_9, P_32_10, P_32_15, P_32_16, P_32_18, P_32_19, P_32_23, K_0, K_1, K_7, K_10, K_14, K_16, K_18, K_27, K_31, K_32]
            rw [e_newCane hn g10]
            simp only [Option.bind_some, bI_0, Decidable.not_not, nm, b2, zr, e_isWithin, e_in, e_isGlass8, e_isGlass9, reduceIte, not_false_eq_true, not_true_eq_false, if_true, if_false, and_self, z01, z10, c00, c11, true_and, and_true, R_0_0, R_0_1, R_0_3, R_0_4, R_0_5, R_0_6, R_0_7, R_0_8, R_0_9, R_1_0, R_1_1, R_1_2, R_1_3, R_7_0, R_7_1, R_10_0, R_10_1, R_10_2, R_14_0, R_16_0, R_18_0, R_18_1, R_18_2, R_18_4, R_18_5, R_18_6, R_18_8, R_18_9, R_27_0, R_27_1, R_27_2, R_32_0, R_32_1, R_32_3, R_32_4, R_32_5, R_32_6, R_32_7, R_32_11, R_32_12, R_32_13, R_32_14, R_32_17, R_32_20, R_32_21, R_32_22, R_32_24, R_32_25, R_32_26, R_32_27, R_32_28, R_32_29, R_32_30, R_32_31, I_0_2, I_1_4, I_7_2, I_14_1, I_16_1, I_18_3, I_18_7, I_27_3, I_27_4, I_31_0, I_31_1, I_31_2, I_31_3, I_31_4, I_31_5, I_31_6, I_32_2, I_32_8, I_32_9, I_32_10, I_32_15, I_32_16, I_32_18, I_32_19, J_0_10, J_32_23, P_0_2, P_0_10, P_1_4, P_7_2, P_14_1, P_16_1, P_18_3, P_18_7, P_27_3, P_27_4, P_31_0, P_31_1, P_31_2, P_31_3, P_31_4, P_31_5, P_31_6, P_32_2, P_32_8, P_32_9, P_32_10, P_32_15, P_32_16, P_32_18, P_32_19, P_32_23, K_0, K_1, K_7, K_10, K_14, K_16, K_18, K_27, K_31, K_32]
          · have fr : ∀ k j, ¬ (k = 35 ∧ j = n) → ¬ (k = 36 ∧ (j = n ∨ j = i)) → ¬ (k = 37 ∧ j = n) → ¬ (k = 38 ∧ (j = n ∨ j = i)) → ¬ (k = 32 ∧ j = 2) → ¬ (k = 0 ∧ j = 2) → ¬ (k = 39 ∧ 64 * n ≤ j ∧ j < 64 * n + 64) → ¬ (56 + 3 * n ≤ k) → ¬ (k = 56 + 3 * i) → u2 (u2 (u2 (u2 (u2 (u2 (u2 (sl (u2 (u2 (u2 (u2 (u2 (u2 (u2 (cR (uR (u2 (zR (zR (zR F (56 + 3 * n)) (57 + 3 * n)) (58 + 3 * n)) (57 + 3 * n) 1 (nI p)) (58 + 3 * n) 0 64 0) (58 + 3 * n) (58 + 3 * i)) (56 + 3 * n) 1 (nI d)) (56 + 3 * n) 2 (nI f)) (56 + 3 * n) 3 0) (56 + 3 * n) 3 (nI (t * d / l))) (56 + 3 * i) 3 (nI (t - t * d / l))) (56 + 3 * i) 1 (nI (l - d))) 0 2 (nI (n + 1))) (pc n p p 0) (fun j => (u2 (u2 (u2 (u2 (u2 (u2 (u2 (cR (uR (u2 (zR (zR (zR F (56 + 3 * n)) (57 + 3 * n)) (58 + 3 * n)) (57 + 3 * n) 1 (nI p)) (58 + 3 * n) 0 64 0) (58 + 3 * n) (58 + 3 * i)) (56 + 3 * n) 1 (nI d)) (56 + 3 * n) 2 (nI f)) (56 + 3 * n) 3 0) (56 + 3 * n) 3 (nI (t * d / l))) (56 + 3 * i) 3 (nI (t - t * d / l))) (56 + 3 * i) 1 (nI (l - d))) 0 2 (nI (n + 1))) 39 (64 * i + (j - 64 * n)))) 36 i (nI (l - d))) 38 i (nI (t - t * d / l))) 35 n (nI p)) 36 n (nI d)) 37 n (nI f)) 38 n (nI (t * d / l))) 32 2 (nI (n + 1)) k j = F k j := by
              intro k j h1 h2 h3 h4 h5 h6 h7 h8 h9
              rw [u2_ne _ _ _ _ (by omega), u2_ne _ _ _ _ (by omega), u2_ne _ _ _ _ (by omega), u2_ne _ _ _ _ (by omega), u2_ne _ _ _ _ (by omega), u2_ne _ _ _ _ (by omega), u2_ne _ _ _ _ (by omega), sl_k (by
                rintro ⟨z1, z2⟩
                have := of_decide_eq_true z2
                omega)]
              simp only [u2, uR, zR, cR]
              (repeat rw [if_neg (by omega)])
            refine ⟨by omega, ?_, by rw [u2_eq], r4, RGl_c (fun k j h => fr k j (by omega) (by omega) (by omega) (by omega) (by omega) (by omega) (by omega) (by omega) (by omega)) (fun _ _ _ => rfl) r5, RTol_c (fun k j h => fr k j (by omega) (by omega) (by omega) (by omega) (by omega) (by omega) (by omega) (by omega) (by omega)) r6, RTab_c (fun k j h => fr k j (by omega) (by omega) (by omega) (by omega) (by omega) (by omega) (by omega) (by omega) (by omega)) (RTab_m r7), fun i' hi' => ?_, RWish_c (fun k j h => fr k j (by omega) (by omega) (by omega) (by omega) (by omega) (by omega) (by omega) (by omega) (by omega)) r9, RSlice_c (fun k j h => fr k j (by omega) (by omega) (by omega) (by omega) (by omega) (by omega) (by omega) (by omega) (by omega)) r10, ROrd_c (fun k j h => fr k j (by omega) (by omega) (by omega) (by omega) (by omega) (by omega) (by omega) (by omega) (by omega)) r11, RWgh_c (fun k j h => fr k j (by omega) (by omega) (by omega) (by omega) (by omega) (by omega) (by omega) (by omega) (by omega)) r12, RBest_c (fun k j h => fr k j (by omega) (by omega) (by omega) (by omega) (by omega) (by omega) (by omega) (by omega) (by omega)) r13⟩
            · rw [u2_ne _ _ _ _ (by omega), u2_ne _ _ _ _ (by omega), u2_ne _ _ _ _ (by omega), u2_ne _ _ _ _ (by omega), u2_ne _ _ _ _ (by omega), u2_ne _ _ _ _ (by omega), u2_ne _ _ _ _ (by omega), sl_k (by omega), u2_eq]
            · by_cases e' : i' = n
              · rw [e']
                refine ⟨p, d, f, t * d / l, ⟨p1, p8, by omega, ⟨e, e12, ef⟩, by omega⟩, ?_, ?_, ?_, ?_, ?_, ?_, ?_, ?_, fun x y hx hy => ?_⟩
                · simp only [u2, uR, zR, cR, sl, and_self, and_true, true_and, if_true]; (repeat (first | rw [if_neg (by omega)] | rw [if_pos (by omega)])); try rfl
                · simp only [u2, uR, zR, cR, sl, and_self, and_true, true_and, if_true]; (repeat (first | rw [if_neg (by omega)] | rw [if_pos (by omega)])); try rfl
                · simp only [u2, uR, zR, cR, sl, and_self, and_true, true_and, if_true]; (repeat (first | rw [if_neg (by omega)] | rw [if_pos (by omega)])); try rfl
                · simp only [u2, uR, zR, cR, sl, and_self, and_true, true_and, if_true]; (repeat (first | rw [if_neg (by omega)] | rw [if_pos (by omega)])); try rfl
                · simp only [u2, uR, zR, cR, sl, and_self, and_true, true_and, if_true]; (repeat (first | rw [if_neg (by omega)] | rw [if_pos (by omega)])); try rfl
                · simp only [u2, uR, zR, cR, sl, and_self, and_true, true_and, if_true]; (repeat (first | rw [if_neg (by omega)] | rw [if_pos (by omega)])); try rfl
                · simp only [u2, uR, zR, cR, sl, and_self, and_true, true_and, if_true]; (repeat (first | rw [if_neg (by omega)] | rw [if_pos (by omega)])); try rfl
                · simp only [u2, uR, zR, cR, sl, and_self, and_true, true_and, if_true]; (repeat (first | rw [if_neg (by omega)] | rw [if_pos (by omega)])); try rfl
                · have hpc : pc n p p 0 (64 * n + 8 * y + x) = true := by
                    unfold pc
                    rw [decide_eq_true_eq]
                    omega
                  have e1 : u2 (u2 (u2 (u2 (u2 (u2 (u2 (sl (u2 (u2 (u2 (u2 (u2 (u2 (u2 (cR (uR (u2 (zR (zR (zR F (56 + 3 * n)) (57 + 3 * n)) (58 + 3 * n)) (57 + 3 * n) 1 (nI p)) (58 + 3 * n) 0 64 0) (58 + 3 * n) (58 + 3 * i)) (56 + 3 * n) 1 (nI d)) (56 + 3 * n) 2 (nI f)) (56 + 3 * n) 3 0) (56 + 3 * n) 3 (nI (t * d / l))) (56 + 3 * i) 3 (nI (t - t * d / l))) (56 + 3 * i) 1 (nI (l - d))) 0 2 (nI (n + 1))) (pc n p p 0) (fun j => (u2 (u2 (u2 (u2 (u2 (u2 (u2 (cR (uR (u2 (zR (zR (zR F (56 + 3 * n)) (57 + 3 * n)) (58 + 3 * n)) (57 + 3 * n) 1 (nI p)) (58 + 3 * n) 0 64 0) (58 + 3 * n) (58 + 3 * i)) (56 + 3 * n) 1 (nI d)) (56 + 3 * n) 2 (nI f)) (56 + 3 * n) 3 0) (56 + 3 * n) 3 (nI (t * d / l))) (56 + 3 * i) 3 (nI (t - t * d / l))) (56 + 3 * i) 1 (nI (l - d))) 0 2 (nI (n + 1))) 39 (64 * i + (j - 64 * n)))) 36 i (nI (l - d))) 38 i (nI (t - t * d / l))) 35 n (nI p)) 36 n (nI d)) 37 n (nI f)) 38 n (nI (t * d / l))) 32 2 (nI (n + 1)) 39 (64 * n + 8 * y + x) = F 39 (64 * i + 8 * y + x) := by
                    rw [u2_ne _ _ _ _ (by omega), u2_ne _ _ _ _ (by omega), u2_ne _ _ _ _ (by omega), u2_ne _ _ _ _ (by omega), u2_ne _ _ _ _ (by omega), u2_ne _ _ _ _ (by omega), u2_ne _ _ _ _ (by omega), sl_y hpc]
                    simp only [u2, uR, zR, cR]
                    (repeat rw [if_neg (by omega)])
                    rw [show 64 * i + (64 * n + 8 * y + x - 64 * n) = 64 * i + 8 * y + x by omega]
                  have e2 : u2 (u2 (u2 (u2 (u2 (u2 (u2 (sl (u2 (u2 (u2 (u2 (u2 (u2 (u2 (cR (uR (u2 (zR (zR (zR F (56 + 3 * n)) (57 + 3 * n)) (58 + 3 * n)) (57 + 3 * n) 1 (nI p)) (58 + 3 * n) 0 64 0) (58 + 3 * n) (58 + 3 * i)) (56 + 3 * n) 1 (nI d)) (56 + 3 * n) 2 (nI f)) (56 + 3 * n) 3 0) (56 + 3 * n) 3 (nI (t * d / l))) (56 + 3 * i) 3 (nI (t - t * d / l))) (56 + 3 * i) 1 (nI (l - d))) 0 2 (nI (n + 1))) (pc n p p 0) (fun j => (u2 (u2 (u2 (u2 (u2 (u2 (u2 (cR (uR (u2 (zR (zR (zR F (56 + 3 * n)) (57 + 3 * n)) (58 + 3 * n)) (57 + 3 * n) 1 (nI p)) (58 + 3 * n) 0 64 0) (58 + 3 * n) (58 + 3 * i)) (56 + 3 * n) 1 (nI d)) (56 + 3 * n) 2 (nI f)) (56 + 3 * n) 3 0) (56 + 3 * n) 3 (nI (t * d / l))) (56 + 3 * i) 3 (nI (t - t * d / l))) (56 + 3 * i) 1 (nI (l - d))) 0 2 (nI (n + 1))) 39 (64 * i + (j - 64 * n)))) 36 i (nI (l - d))) 38 i (nI (t - t * d / l))) 35 n (nI p)) 36 n (nI d)) 37 n (nI f)) 38 n (nI (t * d / l))) 32 2 (nI (n + 1)) (58 + 3 * n) (8 * y + x) = F (58 + 3 * i) (8 * y + x) := by
                    rw [u2_ne _ _ _ _ (by omega), u2_ne _ _ _ _ (by omega), u2_ne _ _ _ _ (by omega), u2_ne _ _ _ _ (by omega), u2_ne _ _ _ _ (by omega), u2_ne _ _ _ _ (by omega), u2_ne _ _ _ _ (by omega), sl_k (by omega)]
                    rw [u2_ne _ _ _ _ (by omega), u2_ne _ _ _ _ (by omega), u2_ne _ _ _ _ (by omega), u2_ne _ _ _ _ (by omega), u2_ne _ _ _ _ (by omega), u2_ne _ _ _ _ (by omega), u2_ne _ _ _ _ (by omega)]
                    simp only [cR]
                    rw [if_pos ⟨trivial, by omega⟩]
                    simp only [u2, uR, zR]
                    (repeat rw [if_neg (by omega)])
                  rw [e1, e2]
                  exact c9 x y hx hy
              · by_cases e2 : i' = i
                · subst e2
                  refine ⟨p, l - d, f, t - t * d / l, ⟨p1, p8, by omega, ⟨e, e12, ef⟩, Nat.le_trans (Nat.sub_le _ _) t40⟩, ?_, ?_, ?_, ?_, ?_, ?_, ?_, ?_, fun x y hx hy => ?_⟩
                  · rw [fr _ _ (by omega) (by omega) (by omega) (by omega) (by omega) (by omega) (by omega) (by omega) (by omega)]; exact c1
                  · rw [fr _ _ (by omega) (by omega) (by omega) (by omega) (by omega) (by omega) (by omega) (by omega) (by omega)]; exact c2
                  · simp only [u2, uR, zR, cR, sl, and_self, and_true, true_and, if_true]; (repeat (first | rw [if_neg (by omega)] | rw [if_pos (by omega)])); try rfl
                  · simp only [u2, uR, zR, cR, sl, and_self, and_true, true_and, if_true]; (repeat (first | rw [if_neg (by omega)] | rw [if_pos (by omega)])); try rfl
                  · simp only [u2, uR, zR, cR, sl, and_self, and_true, true_and, if_true]; (repeat (first | rw [if_neg (by omega)] | rw [if_pos (by omega)])); try exact c5
                  · rw [fr _ _ (by omega) (by omega) (by omega) (by omega) (by omega) (by omega) (by omega) (by omega) (by omega)]; exact c6
                  · simp only [u2, uR, zR, cR, sl, and_self, and_true, true_and, if_true]; (repeat (first | rw [if_neg (by omega)] | rw [if_pos (by omega)])); try rfl
                  · simp only [u2, uR, zR, cR, sl, and_self, and_true, true_and, if_true]; (repeat (first | rw [if_neg (by omega)] | rw [if_pos (by omega)])); try rfl
                  · rw [fr _ _ (by omega) (by omega) (by omega) (by omega) (by omega) (by omega) (by omega) (by omega) (by omega), fr _ _ (by omega) (by omega) (by omega) (by omega) (by omega) (by omega) (by omega) (by omega) (by omega)]
                    exact c9 x y hx hy
                · exact RCane_c (fun k j h => fr k j (by omega) (by omega) (by omega) (by omega) (by omega) (by omega) (by omega) (by omega) (by omega)) (r8 i' (by omega))
        · have hn' : ¬ nI n < (16 : Int32) := nI_nlt (b := 16) (by omega) (by omega)
          have hn9 : nI n = (16 : Int32) := by rw [show n = 16 by omega]; rfl
          refine ⟨-3, M b F G n sw, M b F G n sw, ?_, ?_, rfl, F, G, n, sw, rfl, hR⟩
          · unfold fX8_cut
            simp only [Option.bind_some, bI_0, Decidable.not_not, nm, b2, zr, e_isWithin, e_in, e_isGlass8, e_isGlass9, reduceIte, not_false_eq_true, not_true_eq_false, if_true, if_false, and_self, z01, z10, c00, c11, true_and, and_true, R_0_0, R_0_1, R_0_3, R_0_4, R_0_5, R_0_6, R_0_7, R_0_8, R_0_9, R_1_0, R_1_1, R_1_2, R_1_3, R_7_0, R_7_1, R_10_0, R_10_1, R_10_2, R_14_0, R_16_0, R_18_0, R_18_1, R_18_2, R_18_4, R_18_5, R_18_6, R_18_8, R_18_9, R_27_0, R_27_1, R_27_2, R_32_0, R_32_1, R_32_3, R_32_4, R_32_5, R_32_6, R_32_7, R_32_11, R_32_12, R_32_13, R_32_14, R_32_17, R_32_20, R_32_21, R_32_22, R_32_24, R_32_25, R_32_26, R_32_27, R_32_28, R_32_29, R_32_30, R_32_31, I_0_2, I_1_4, I_7_2, I_14_1, I_16_1, I_18_3, I_18_7, I_27_3, I_27_4, I_31_0, I_31_1, I_31_2, I_31_3, I_31_4, I_31_5, I_31_6, I_32_2, I_32_8, I_32_9, I_32_10, I_32_15, I_32_16, I_32_18, I_32_19, J_0_10, J_32_23, P_0_2, P_0_10, P_1_4, P_7_2, P_14_1, P_16_1, P_18_3, P_18_7, P_27_3, P_27_4, P_31_0, P_31_1, P_31_2, P_31_3, P_31_4, P_31_5, P_31_6, P_32_2, P_32_8, P_32_9, P_32_10, P_32_15, P_32_16, P_32_18, P_32_19, P_32_23, K_0, K_1, K_7, K_10, K_14, K_16, K_18, K_27, K_31, K_32, e_unused_y r1 r2 hi c3 (show 0 < l by omega) (show l < 2 ^ 31 by omega), Ic_1 hi, c3, hl1, eq_true hd, r2, eq_false hn', reduceCtorEq]
          · unfold fX9_cut
            simp only [Option.bind_some, bI_0, Decidable.not_not, nm, b2, zr, e_isWithin, e_in, e_isGlass8, e_isGlass9, reduceIte, not_false_eq_true, not_true_eq_false, if_true, if_false, and_self, z01, z10, c00, c11, true_and, and_true, R_0_0, R_0_1, R_0_3, R_0_4, R_0_5, R_0_6, R_0_7, R_0_8, R_0_9, R_1_0, R_1_1, R_1_2, R_1_3, R_7_0, R_7_1, R_10_0, R_10_1, R_10_2, R_14_0, R_16_0, R_18_0, R_18_1, R_18_2, R_18_4, R_18_5, R_18_6, R_18_8, R_18_9, R_27_0, R_27_1, R_27_2, R_32_0, R_32_1, R_32_3, R_32_4, R_32_5, R_32_6, R_32_7, R_32_11, R_32_12, R_32_13, R_32_14, R_32_17, R_32_20, R_32_21, R_32_22, R_32_24, R_32_25, R_32_26, R_32_27, R_32_28, R_32_29, R_32_30, R_32_31, I_0_2, I_1_4, I_7_2, I_14_1, I_16_1, I_18_3, I_18_7, I_27_3, I_27_4, I_31_0, I_31_1, I_31_2, I_31_3, I_31_4, I_31_5, I_31_6, I_32_2, I_32_8, I_32_9, I_32_10, I_32_15, I_32_16, I_32_18, I_32_19, J_0_10, J_32_23, P_0_2, P_0_10, P_1_4, P_7_2, P_14_1, P_16_1, P_18_3, P_18_7, P_27_3, P_27_4, P_31_0, P_31_1, P_31_2, P_31_3, P_31_4, P_31_5, P_31_6, P_32_2, P_32_8, P_32_9, P_32_10, P_32_15, P_32_16, P_32_18, P_32_19, P_32_23, K_0, K_1, K_7, K_10, K_14, K_16, K_18, K_27, K_31, K_32, e_isCane r1 r3, eq_true hx, L_36 hi16, c4, hl1, eq_true hd, r3, hn9]
      · refine ⟨-1, M b F G n sw, M b F G n sw, ?_, ?_, rfl, F, G, n, sw, rfl, hR⟩
        · unfold fX8_cut
          simp only [Option.bind_some, bI_0, Decidable.not_not, nm, b2, zr, e_isWithin, e_in, e_isGlass8, e_isGlass9, reduceIte, not_false_eq_true, not_true_eq_false, if_true, if_false, and_self, z01, z10, c00, c11, true_and, and_true, R_0_0, R_0_1, R_0_3, R_0_4, R_0_5, R_0_6, R_0_7, R_0_8, R_0_9, R_1_0, R_1_1, R_1_2, R_1_3, R_7_0, R_7_1, R_10_0, R_10_1, R_10_2, R_14_0, R_16_0, R_18_0, R_18_1, R_18_2, R_18_4, R_18_5, R_18_6, R_18_8, R_18_9, R_27_0, R_27_1, R_27_2, R_32_0, R_32_1, R_32_3, R_32_4, R_32_5, R_32_6, R_32_7, R_32_11, R_32_12, R_32_13, R_32_14, R_32_17, R_32_20, R_32_21, R_32_22, R_32_24, R_32_25, R_32_26, R_32_27, R_32_28, R_32_29, R_32_30, R_32_31, I_0_2, I_1_4, I_7_2, I_14_1, I_16_1, I_18_3, I_18_7, I_27_3, I_27_4, I_31_0, I_31_1, I_31_2, I_31_3, I_31_4, I_31_5, I_31_6, I_32_2, I_32_8, I_32_9, I_32_10, I_32_15, I_32_16, I_32_18, I_32_19, J_0_10, J_32_23, P_0_2, P_0_10, P_1_4, P_7_2, P_14_1, P_16_1, P_18_3, P_18_7, P_27_3, P_27_4, P_31_0, P_31_1, P_31_2, P_31_3, P_31_4, P_31_5, P_31_6, P_32_2, P_32_8, P_32_9, P_32_10, P_32_15, P_32_16, P_32_18, P_32_19, P_32_23, K_0, K_1, K_7, K_10, K_14, K_16, K_18, K_27, K_31, K_32, e_unused_y r1 r2 hi c3 (show 0 < l by omega) (show l < 2 ^ 31 by omega), Ic_1 hi, c3, hl1, eq_false hd, reduceCtorEq]
        · unfold fX9_cut
          simp only [Option.bind_some, bI_0, Decidable.not_not, nm, b2, zr, e_isWithin, e_in, e_isGlass8, e_isGlass9, reduceIte, not_false_eq_true, not_true_eq_false, if_true, if_false, and_self, z01, z10, c00, c11, true_and, and_true, R_0_0, R_0_1, R_0_3, R_0_4, R_0_5, R_0_6, R_0_7, R_0_8, R_0_9, R_1_0, R_1_1, R_1_2, R_1_3, R_7_0, R_7_1, R_10_0, R_10_1, R_10_2, R_14_0, R_16_0, R_18_0, R_18_1, R_18_2, R_18_4, R_18_5, R_18_6, R_18_8, R_18_9, R_27_0, R_27_1, R_27_2, R_32_0, R_32_1, R_32_3, R_32_4, R_32_5, R_32_6, R_32_7, R_32_11, R_32_12, R_32_13, R_32_14, R_32_17, R_32_20, R_32_21, R_32_22, R_32_24, R_32_25, R_32_26, R_32_27, R_32_28, R_32_29, R_32_30, R_32_31, I_0_2, I_1_4, I_7_2, I_14_1, I_16_1, I_18_3, I_18_7, I_27_3, I_27_4, I_31_0, I_31_1, I_31_2, I_31_3, I_31_4, I_31_5, I_31_6, I_32_2, I_32_8, I_32_9, I_32_10, I_32_15, I_32_16, I_32_18, I_32_19, J_0_10, J_32_23, P_0_2, P_0_10, P_1_4, P_7_2, P_14_1, P_16_1, P_18_3, P_18_7, P_27_3, P_27_4, P_31_0, P_31_1, P_31_2, P_31_3, P_31_4, P_31_5, P_31_6, P_32_2, P_32_8, P_32_9, P_32_10, P_32_15, P_32_16, P_32_18, P_32_19, P_32_23, K_0, K_1, K_7, K_10, K_14, K_16, K_18, K_27, K_31, K_32, e_isCane r1 r3, eq_true hx, L_36 hi16, c4, hl1, eq_false hd]
  · refine ⟨-1, M b F G n sw, M b F G n sw, ?_, ?_, rfl, F, G, n, sw, rfl, hR⟩
    · unfold fX8_cut
      simp only [Option.bind_some, bI_0, Decidable.not_not, nm, b2, zr, e_isWithin, e_in, e_isGlass8, e_isGlass9, reduceIte, not_false_eq_true, not_true_eq_false, if_true, if_false, and_self, z01, z10, c00, c11, true_and, and_true, R_0_0, R_0_1, R_0_3, R_0_4, R_0_5, R_0_6, R_0_7, R_0_8, R_0_9, R_1_0, R_1_1, R_1_2, R_1_3, R_7_0, R_7_1, R_10_0, R_10_1, R_10_2, R_14_0, R_16_0, R_18_0, R_18_1, R_18_2, R_18_4, R_18_5, R_18_6, R_18_8, R_18_9, R_27_0, R_27_1, R_27_2, R_32_0, R_32_1, R_32_3, R_32_4, R_32_5, R_32_6, R_32_7, R_32_11, R_32_12, R_32_13, R_32_14, R_32_17, R_32_20, R_32_21, R_32_22, R_32_24, R_32_25, R_32_26, R_32_27, R_32_28, R_32_29, R_32_30, R_32_31, I_0_2, I_1_4, I_7_2, I_14_1, I_16_1, I_18_3, I_18_7, I_27_3, I_27_4, I_31_0, I_31_1, I_31_2, I_31_3, I_31_4, I_31_5, I_31_6, I_32_2, I_32_8, I_32_9, I_32_10, I_32_15, I_32_16, I_32_18, I_32_19, J_0_10, J_32_23, P_0_2, P_0_10, P_1_4, P_7_2, P_14_1, P_16_1, P_18_3, P_18_7, P_27_3, P_27_4, P_31_0, P_31_1, P_31_2, P_31_3, P_31_4, P_31_5, P_31_6, P_32_2, P_32_8, P_32_9, P_32_10, P_32_15, P_32_16, P_32_18, P_32_19, P_32_23, K_0, K_1, K_7, K_10, K_14, K_16, K_18, K_27, K_31, K_32, e_unused_n r1 r2 hx]
    · unfold fX9_cut
      simp only [Option.bind_some, bI_0, Decidable.not_not, nm, b2, zr, e_isWithin, e_in, e_isGlass8, e_isGlass9, reduceIte, not_false_eq_true, not_true_eq_false, if_true, if_false, and_self, z01, z10, c00, c11, true_and, and_true, R_0_0, R_0_1, R_0_3, R_0_4, R_0_5, R_0_6, R_0_7, R_0_8, R_0_9, R_1_0, R_1_1, R_1_2, R_1_3, R_7_0, R_7_1, R_10_0, R_10_1, R_10_2, R_14_0, R_16_0, R_18_0, R_18_1, R_18_2, R_18_4, R_18_5, R_18_6, R_18_8, R_18_9, R_27_0, R_27_1, R_27_2, R_32_0, R_32_1, R_32_3, R_32_4, R_32_5, R_32_6, R_32_7, R_32_11, R_32_12, R_32_13, R_32_14, R_32_17, R_32_20, R_32_21, R_32_22, R_32_24, R_32_25, R_32_26, R_32_27, R_32_28, R_32_29, R_32_30, R_32_31, I_0_2, I_1_4, I_7_2, I_14_1, I_16_1, I_18_3, I_18_7, I_27_3, I_27_4, I_31_0, I_31_1, I_31_2, I_31_3, I_31_4, I_31_5, I_31_6, I_32_2, I_32_8, I_32_9, I_32_10, I_32_15, I_32_16, I_32_18, I_32_19, J_0_10, J_32_23, P_0_2, P_0_10, P_1_4, P_7_2, P_14_1, P_16_1, P_18_3, P_18_7, P_27_3, P_27_4, P_31_0, P_31_1, P_31_2, P_31_3, P_31_4, P_31_5, P_31_6, P_32_2, P_32_8, P_32_9, P_32_10, P_32_15, P_32_16, P_32_18, P_32_19, P_32_23, K_0, K_1, K_7, K_10, K_14, K_16, K_18, K_27, K_31, K_32, e_isCane r1 r3, eq_false hx]
