/-! ===== 420: new canes; rod ===== -/
def zR (F : mI) (k : Nat) : mI := fun a j => if a = k then 0 else F a j
def Ag (b n : Nat) (sw : Bool) (H : mR) (c : Nat) : Prop := 56 + 3 * n ≤ c ∧ ∀ k j, k < 56 + 3 * n → (k = 6 → j < n) → H k j = Hst b n sw k j
theorem Hst_new {b n : Nat} {sw : Bool} {k j : Nat} (h : 56 + 3 * n ≤ k) : Hst b n sw k j = none := by
  unfold Hst
  rw [if_neg (by omega), if_neg (by omega), if_neg (by omega), if_neg (by omega), if_neg (by omega)]
section AG
variable {b : Nat} {F : mI} {G : mJ} {H : mR} {c n : Nat} {sw : Bool} {N : Nat}
theorem q_K {ρ : Type} {z : Option ρ} {k ci : Nat} (hA : Ag b n sw H c) (hk : k < 56 + 3 * n) (h : kd k = (4, ci)) : chk (mk b F G H c) ci (some (b + k)) z = z := m_chk (by have := hA.1; omega) h
theorem q_R {k ci j : Nat} (hA : Ag b n sw H c) (hk : k < 56 + 3 * n) (h6 : k ≠ 6) (h : kd k = (4, ci)) (hj : (fty ci)[j]? = some 2) : gfR (mk b F G H c) ci j (some (b + k)) = some (Hst b n sw k j) := by
  rw [m_gfR (by have := hA.1; omega) h hj, hA.2 k j hk (fun q => absurd q h6)]
theorem q_I {k ci j : Nat} (hA : Ag b n sw H c) (hk : k < 56 + 3 * n) (h : kd k = (4, ci)) (hj : (fty ci)[j]? = some 0) : gfI (mk b F G H c) ci j (some (b + k)) = some (F k j) := m_gfI (by have := hA.1; omega) h hj
theorem q_L {k len j : Nat} (hA : Ag b n sw H c) (hk : k < 56 + 3 * n) (h : kd k = (0, len)) (hj : j < len) : ldI (mk b F G H c) 0 (some (b + k)) (nI j) = some (F k j) := m_ldI (by have := hA.1; omega) h hj
theorem q_LJ {k len j : Nat} (hA : Ag b n sw H c) (hk : k < 56 + 3 * n) (h : kd k = (2, len)) (hj : j < len) : ldJ (mk b F G H c) (some (b + k)) (nI j) = some (G k j) := m_ldJ (by have := hA.1; omega) h hj
theorem q_TJ {k len j : Nat} {x : Int64} (hA : Ag b n sw H c) (hk : k < 56 + 3 * n) (h : kd k = (2, len)) (hj : j < len) : stJ (mk b F G H c) (some (b + k)) (nI j) x = some (mk b F (u2 G k j x) H c) := m_stJ (by have := hA.1; omega) h hj
theorem q_K0 {ρ : Type} {z : Option ρ} (hA : Ag b n sw H c) : chk (mk b F G H c) 8 (some b) z = z := q_K (k := 0) hA (by omega) rfl
theorem q_K1 {ρ : Type} {z : Option ρ} (hA : Ag b n sw H c) : chk (mk b F G H c) 3 (some (b + 1)) z = z := q_K (k := 1) hA (by omega) rfl
theorem q_R00 (hA : Ag b n sw H c) : gfR (mk b F G H c) 8 0 (some b) = some (some (b + 1)) := q_R (k := 0) hA (by omega) (by omega) rfl rfl
theorem q_R01 (hA : Ag b n sw H c) : gfR (mk b F G H c) 8 1 (some b) = some (some (b + 6)) := q_R (k := 0) hA (by omega) (by omega) rfl rfl
theorem q_R03 (hA : Ag b n sw H c) : gfR (mk b F G H c) 8 3 (some b) = some (some (b + 7)) := q_R (k := 0) hA (by omega) (by omega) rfl rfl
theorem q_R12 (hA : Ag b n sw H c) : gfR (mk b F G H c) 3 2 (some (b + 1)) = some (some (b + 4)) := q_R (k := 1) hA (by omega) (by omega) rfl rfl
theorem q_I02 (hA : Ag b n sw H c) : gfI (mk b F G H c) 8 2 (some b) = some (F 0 2) := q_I (k := 0) hA (by omega) rfl rfl
theorem Ag_M : Ag b n sw (Hst b n sw) (56 + 3 * n) := ⟨Nat.le_refl _, fun _ _ _ _ => rfl⟩
theorem Ag_c {c' : Nat} (hA : Ag b n sw H c) (h : c ≤ c') : Ag b n sw H c' := ⟨Nat.le_trans hA.1 h, hA.2⟩
theorem Ag_u {k j : Nat} {v : Option Nat} (hA : Ag b n sw H c) (h : 56 + 3 * n ≤ k) : Ag b n sw (u2 H k j v) c := ⟨hA.1, fun a i ha hi => by rw [u2_ne _ _ _ _ (by omega)]; exact hA.2 a i ha hi⟩
/-- a new cane's cell -/
theorem a_cane (hA : Ag b n sw H (56 + 3 * n)) (h0 : H (56 + 3 * n) 0 = none) : puS b (mk b F G H (56 + 3 * n)) (pO 1 [.null, .int 0, .int 0, .int 0]) = mk b (zR F (56 + 3 * n)) G H (57 + 3 * n) := by
  rw [show 57 + 3 * n = (56 + 3 * n) + 1 by omega]
  refine mk_pu ?_ (fun a ha => ?_) (fun _ _ => rfl) (fun _ _ => rfl)
  · rw [kdC0, cellE_O]
    simp only [fty, fl, tv, zR, h0, if_true]
    rfl
  · funext j
    simp [zR, ha]
/-- a new picture's cell -/
theorem a_pic (h0 : H (57 + 3 * n) 0 = none) : puS b (mk b F G H (57 + 3 * n)) (pO 5 [.null, .int 0]) = mk b (zR F (57 + 3 * n)) G H (58 + 3 * n) := by
  rw [show 58 + 3 * n = (57 + 3 * n) + 1 by omega]
  refine mk_pu ?_ (fun a ha => ?_) (fun _ _ => rfl) (fun _ _ => rfl)
  · rw [kdC1, cellE_O]
    simp only [fty, fl, tv, zR, h0, if_true]
    rfl
  · funext j
    simp [zR, ha]
theorem a_ints : puS b (mk b F G H (58 + 3 * n)) (pI 64 (fun _ => 0)) = mk b (zR F (58 + 3 * n)) G H (59 + 3 * n) := by
  rw [show 59 + 3 * n = (58 + 3 * n) + 1 by omega]
  refine mk_pu ?_ (fun a ha => ?_) (fun _ _ => rfl) (fun _ _ => rfl)
  · rw [kdC2]
    simp only [cellE, if_true]
    refine congrArg (pI 64) (funext fun j => ?_)
    simp [zR]
  · funext j
    simp [zR, ha]
theorem mm8 {p : Nat} (h1 : 1 ≤ p) (h8 : p ≤ 8) : mmax (1 : Int32) (mmin (nI p) (8 : Int32)) = nI p := by
  have q : ∀ k : Fin 9, 1 ≤ k.1 → mmax (1 : Int32) (mmin (nI k.1) (8 : Int32)) = nI k.1 := by decide
  exact q ⟨p, by omega⟩ h1
theorem e_init5 {p : Nat} {v : Int32} (h1 : 1 ≤ p) (h8 : p ≤ 8) (hN : 2000 ≤ N) : fX5_init N b (mk b F G H (58 + 3 * n)) (some (b + (57 + 3 * n))) (nI p) v = some (mk b (uR (u2 (zR F (58 + 3 * n)) (57 + 3 * n) 1 (nI p)) (58 + 3 * n) 0 64 v) G (u2 H (57 + 3 * n) 0 (some (b + (58 + 3 * n)))) (59 + 3 * n)) := by
  unfold fX5_init
  simp only [m_chk (show 57 + 3 * n < 58 + 3 * n by omega) (kdC1 n), nm, mk_1, a_ints, mm8 h1 h8]
  rw [m_pfR (show 57 + 3 * n < 59 + 3 * n by omega) (kdC1 n) rfl, Option.bind_some, m_pfI (show 57 + 3 * n < 59 + 3 * n by omega) (kdC1 n) rfl, Option.bind_some, m_gfR (show 57 + 3 * n < 59 + 3 * n by omega) (kdC1 n) rfl, Option.bind_some, u2_eq, e_fill hN (show 58 + 3 * n < 59 + 3 * n by omega) (kdC2 n) (by omega)]
  rfl
theorem e_init1 {l f : Int32} {r : Option Nat} (hc : 56 + 3 * n < c) : fX1_init N (mk b F G H c) (some (b + (56 + 3 * n))) r l f = some (mk b (u2 (u2 (u2 F (56 + 3 * n) 1 l) (56 + 3 * n) 2 f) (56 + 3 * n) 3 0) G (u2 H (56 + 3 * n) 0 r) c) := by
  unfold fX1_init
  rw [m_chk hc (kdC0 n), m_pfR hc (kdC0 n) rfl, Option.bind_some, m_pfI hc (kdC0 n) rfl, Option.bind_some, m_pfI hc (kdC0 n) rfl, Option.bind_some, m_pfI hc (kdC0 n) rfl, Option.bind_some]
theorem e_keep (hA : Ag b n sw H c) (hc : 56 + 3 * n < c) (hn : n < 16) (h2 : F 0 2 = nI n) : fX8_keep N (mk b F G H c) (some b) (some (b + (56 + 3 * n))) = some (nI n, mk b (u2 F 0 2 (nI (n + 1))) G (u2 H 6 n (some (b + (56 + 3 * n)))) c) := by
  unfold fX8_keep
  have hA' : 0 < c := by have := hA.1; omega
  simp only [q_K0 hA, q_I02 hA, q_R01 hA, h2, Option.bind_some]
  rw [if_neg (nI_pos (by omega)), if_pos (show nI n < (16 : Int32) from nI_lt (b := 16) hn (by decide)), m_stR (k := 6) (by have := hA.1; omega) rfl hn hc (kdC0 n)]
  simp only [Option.bind_some]
  have e1 : gfI (mk b F G (u2 H 6 n (some (b + (56 + 3 * n)))) c) 8 2 (some b) = some (F 0 2) := m_gfI (k := 0) hA' rfl rfl
  have e2 : ∀ v, pfV (mk b F G (u2 H 6 n (some (b + (56 + 3 * n)))) c) 8 2 (some b) (.int v) = some (mk b (u2 F 0 2 v) G (u2 H 6 n (some (b + (56 + 3 * n)))) c) := fun v => m_pfI (k := 0) hA' rfl rfl
  have e3 : ∀ F' : mI, gfI (mk b F' G (u2 H 6 n (some (b + (56 + 3 * n)))) c) 8 2 (some b) = some (F' 0 2) := fun F' => m_gfI (k := 0) hA' rfl rfl
  rw [e1, Option.bind_some, h2, nI_1, e2, Option.bind_some, e3, Option.bind_some, u2_eq, nI_pred]
theorem e_hst : u2 (u2 (u2 (Hst b n sw) (57 + 3 * n) 0 (some (b + (58 + 3 * n)))) (56 + 3 * n) 0 (some (b + (57 + 3 * n)))) 6 n (some (b + (56 + 3 * n))) = Hst b (n + 1) sw := by
  funext k j
  by_cases h6 : k = 6
  · subst h6
    by_cases hj : j = n
    · subst hj
      rw [u2_eq]
      unfold Hst
      rw [if_pos rfl, if_pos (by omega)]
    · rw [u2_ne _ _ _ _ (by omega), u2_ne _ _ _ _ (by omega), u2_ne _ _ _ _ (by omega)]
      unfold Hst
      rw [if_pos rfl, if_pos rfl]
      by_cases h : j < n
      · rw [if_pos h, if_pos (by omega)]
      · rw [if_neg h, if_neg (by omega)]
  · rw [u2_ne _ _ _ _ (by omega)]
    by_cases hk : k < 56 + 3 * n
    · rw [u2_ne _ _ _ _ (by omega), u2_ne _ _ _ _ (by omega)]
      unfold Hst
      rw [if_neg h6, if_neg h6]
      have e : (j = 0 ∧ k < 56 + 3 * n ∧ k % 3 ≠ 1) = (j = 0 ∧ k < 56 + 3 * (n + 1) ∧ k % 3 ≠ 1) := by
        apply propext
        omega
      simp only [e]
    · by_cases h1 : k = 56 + 3 * n ∧ j = 0
      · obtain ⟨rfl, rfl⟩ := h1
        rw [u2_eq]
        unfold Hst
        rw [if_neg (by omega), if_neg (by omega), if_neg (by omega), if_neg (by omega), if_pos (by omega), show 56 + 3 * n + 1 = 57 + 3 * n by omega]
      · rw [u2_ne _ _ _ _ h1]
        by_cases h2 : k = 57 + 3 * n ∧ j = 0
        · obtain ⟨rfl, rfl⟩ := h2
          rw [u2_eq]
          unfold Hst
          rw [if_neg (by omega), if_neg (by omega), if_neg (by omega), if_neg (by omega), if_pos (by omega), show 57 + 3 * n + 1 = 58 + 3 * n by omega]
        · rw [u2_ne _ _ _ _ h2, Hst_new (by omega)]
          unfold Hst
          rw [if_neg (by omega), if_neg (by omega), if_neg (by omega), if_neg (by omega), if_neg (by omega)]
theorem e_fin : mk b F G (u2 (u2 (u2 (Hst b n sw) (57 + 3 * n) 0 (some (b + (58 + 3 * n)))) (56 + 3 * n) 0 (some (b + (57 + 3 * n)))) 6 n (some (b + (56 + 3 * n)))) (59 + 3 * n) = M b F G (n + 1) sw := by
  rw [e_hst]
  unfold M
  rw [show 59 + 3 * n = 56 + 3 * (n + 1) by omega]
theorem e_isCaneG {n' : Nat} (hn : n ≤ 16) (h2 : F 32 2 = nI n) (x : Int32) : fX9_isCane N (M b F G n' sw) (some (b + 32)) x = some (bI (rg n x)) := by
  unfold fX9_isCane
  simp only [K_32, I_32_2, h2, Option.bind_some, e_in, zr]
  have h := rg_le (p := n) (x := x) (by omega)
  by_cases hx : rg n x
  · rw [bI_t hx, bI_t (h.mpr hx)]
  · rw [bI_f hx, bI_f (fun q => hx (h.mp q))]
theorem e_newCane {n' : Nat} {p l f t : Int32} (hn : n < 16) (h2 : F 32 2 = nI n) : fX9_newCane N (M b F G n' sw) (some (b + 32)) p l f t = some (nI n, M b (u2 (u2 (u2 (u2 (u2 F 35 n p) 36 n l) 37 n f) 38 n t) 32 2 (nI (n + 1))) G n' sw) := by
  unfold fX9_newCane
  have g1 : u2 F 35 n p 32 2 = nI n := by simp only [u2, uR]; (repeat rw [if_neg (by omega)]); exact h2
  have g2 : u2 (u2 F 35 n p) 36 n l 32 2 = nI n := by simp only [u2, uR]; (repeat rw [if_neg (by omega)]); exact h2
  have g3 : u2 (u2 (u2 F 35 n p) 36 n l) 37 n f 32 2 = nI n := by simp only [u2, uR]; (repeat rw [if_neg (by omega)]); exact h2
  have g4 : u2 (u2 (u2 (u2 F 35 n p) 36 n l) 37 n f) 38 n t 32 2 = nI n := by simp only [u2, uR]; (repeat rw [if_neg (by omega)]); exact h2
  simp only [Option.bind_some, bI_0, Decidable.not_not, nm, b2, zr, e_isWithin, e_in, e_isGlass8, e_isGlass9, reduceIte, not_false_eq_true, not_true_eq_false, if_true, if_false, and_self, z01, z10, c00, c11, true_and, and_true, R_0_0, R_0_1, R_0_3, R_0_4, R_0_5, R_0_6, R_0_7, R_0_8, R_0_9, R_1_0, R_1_1, R_1_2, R_1_3, R_7_0, R_7_1, R_10_0, R_10_1, R_10_2, R_14_0, R_16_0, R_18_0, R_18_1, R_18_2, R_18_4, R_18_5, R_18_6, R_18_8, R_18_9, R_27_0, R_27_1, R_27_2, R_32_0, R_32_1, R_32_3, R_32_4, R_32_5, R_32_6, R_32_7, R_32_11, R_32_12, R_32_13, R_32_14, R_32_17, R_32_20, R_32_21, R_32_22, R_32_24, R_32_25, R_32_26, R_32_27, R_32_28, R_32_29, R_32_30, R_32_31, I_0_2, I_1_4, I_7_2, I_14_1, I_16_1, I_18_3, I_18_7, I_27_3, I_27_4, I_31_0, I_31_1, I_31_2, I_31_3, I_31_4, I_31_5, I_31_6, I_32_2, I_32_8, I_32_9, I_32_10, I_32_15, I_32_16, I_32_18, I_32_19, J_0_10, J_32_23, P_0_2, P_0_10, P_1_4, P_7_2, P_14_1, P_16_1, P_18_3, P_18_7, P_27_3, P_27_4, P_31_0, P_31_1, P_31_2, P_31_3, P_31_4, P_31_5, P_31_6, P_32_2, P_32_8, P_32_9, P_32_10, P_32_15, P_32_16, P_32_18, P_32_19, P_32_23, K_0, K_1, K_7, K_10, K_14, K_16, K_18, K_27, K_31, K_32, h2, T_35 hn, g1, T_36 hn, g2, T_37 hn, g3, T_38 hn, g4, nI_1, u2_eq, nI_pred]
end AG
theorem RTab_m {F : mI} {n : Nat} (h : RTab F n) : RTab F (n + 1) := by
  obtain ⟨k, k2, k4, t1, t2, t3⟩ := h
  refine ⟨k, k2, k4, t1, t2, fun i hi => ?_⟩
  obtain ⟨a1, a2⟩ := t3 i hi
  refine ⟨a1, ?_⟩
  rcases a2 with a2 | ⟨b1, b2, ⟨c, c1, c2⟩, b4⟩
  · exact Or.inl a2
  · exact Or.inr ⟨b1, b2, ⟨c, by omega, c2⟩, b4⟩
theorem gl_cm {F F' : mI} {G : mJ} {g0 : Nat} {v v' : Int64} (h : RGl F G) (h1 : ∀ k j, (k = 2 ∨ k = 3 ∨ k = 33 ∨ k = 34) → F' k j = F k j) (g1 : 1 ≤ g0) (g8 : g0 ≤ 8) (hv : v = v') : RGl F' (u2 (u2 G 4 g0 (G 4 g0 + v)) 42 g0 (G 42 g0 + v')) := by
  intro g q1 q8
  obtain ⟨a1, a2, a3, a4, a5, a6⟩ := h g q1 q8
  rw [h1 2 g (by omega), h1 33 g (by omega), h1 3 g (by omega), h1 34 g (by omega)]
  refine ⟨a1, a2, a3, a4, ?_, ?_⟩
  · by_cases e : g = g0
    · subst e
      rw [u2_ne _ _ _ _ (by omega), u2_eq, u2_eq, a5, hv]
    · rw [u2_ne _ _ _ _ (by omega), u2_ne _ _ _ _ (by omega), u2_ne _ _ _ _ (by omega), u2_ne _ _ _ _ (by omega), a5]
  · rw [u2_ne _ _ _ _ (by omega), u2_ne _ _ _ _ (by omega), u2_ne _ _ _ _ (by omega), u2_ne _ _ _ _ (by omega), a6]
section RO
variable {b : Nat} {F : mI} {G : mJ} {H : mR} {c n : Nat} {sw : Bool} {N : Nat}
theorem q_came {g : Nat} {v : Int64} (hA : Ag b n sw H c) (g1 : 1 ≤ g) (g8 : g ≤ 8) : fX3_bookCame N (mk b F G H c) (some (b + 1)) (nI g) v = some (mk b F (u2 G 4 g (G 4 g + v)) H c) := by
  unfold fX3_bookCame
  have hgl : ((1 : Int32) ≤ nI g ∧ nI g ≤ 8) = True := eq_true (rngT (a := 1) (c := 8) (by omega) (by decide) g1 g8)
  have e1 : ldJ (mk b F G H c) (some (b + 4)) (nI g) = some (G 4 g) := q_LJ (k := 4) hA (by omega) rfl (show g < 9 by omega)
  have e2 : ∀ x, stJ (mk b F G H c) (some (b + 4)) (nI g) x = some (mk b F (u2 G 4 g x) H c) := fun x => q_TJ (k := 4) hA (by omega) rfl (show g < 9 by omega)
  simp only [q_K1 hA, Option.bind_some, bI_0, Decidable.not_not, nm, b2, zr, e_isWithin, e_in, e_isGlass8, e_isGlass9, reduceIte, not_false_eq_true, not_true_eq_false, if_true, if_false, and_self, z01, z10, c00, c11, true_and, and_true, hgl, q_R12 hA, e1, e2]
theorem q_vol {f : Nat} (hc : 56 + 3 * n < c) (h : F (56 + 3 * n) 2 = nI f) (hf : 1 ≤ f) (hf2 : f < 2 ^ 31) (l : Int32) : fX1_volumeOfCell N (mk b F G H c) (some (b + (56 + 3 * n))) l = some (l.toInt64 * ((4096 : Int32) / nI f).toInt64) := by
  unfold fX1_volumeOfCell
  simp only [m_chk hc (kdC0 n), m_gfI hc (kdC0 n) (show (fty 1)[2]? = some 0 from rfl), h, Option.bind_some]
  rw [if_pos (show (1 : Int32) ≤ nI f from nI_le (a := 1) hf hf2), if_neg (nI_ne0 hf hf2)]
end RO
theorem st_rod (b : Nat) : St_rod b (b + 32) (Inv b (b + 32)) := by
  rintro S ⟨-, F, G, n, sw, rfl, hR⟩ a1 a2
  obtain ⟨r1, r2, r3, r4, r5, r6, r7, r8, r9, r10, r11, r12, r13⟩ := id hR
  by_cases hg : (1 : Int32) ≤ a1 ∧ a1 ≤ 8
  · by_cases hl : (1 : Int32) ≤ a2 ∧ a2 ≤ 9999
    · obtain ⟨g, g1, g8, rfl⟩ := rng 1 8 rfl rfl (by decide) (by decide) hg
      obtain ⟨l, l1, l9, rfl⟩ := rng 1 9999 rfl rfl (by decide) (by decide) hl
      by_cases hn : n < 16
      · have hn' : nI n < (16 : Int32) := nI_lt (b := 16) hn (by decide)
        have hn9 : ¬ nI n = (16 : Int32) := fun z => by have := (nI_eq (b := 16) (by omega) (by decide)).mp z; omega
        have e5 := e_init5 (N := NF) (b := b) (F := zR (zR F (56 + 3 * n)) (57 + 3 * n)) (G := G) (H := Hst b n sw) (n := n) (p := 1) (v := nI g) (by omega) (by omega) (by decide)
        rw [show nI 1 = (1 : Int32) from rfl] at e5
        have hA4 : Ag b n sw (u2 (u2 (Hst b n sw) (57 + 3 * n) 0 (some (b + (58 + 3 * n)))) (56 + 3 * n) 0 (some (b + (57 + 3 * n)))) (59 + 3 * n) := Ag_u (Ag_u (Ag_c Ag_M (by omega)) (by omega)) (by omega)
        have e4 : (u2 (u2 (u2 (uR (u2 (zR (zR (zR F (56 + 3 * n)) (57 + 3 * n)) (58 + 3 * n)) (57 + 3 * n) 1 1) (58 + 3 * n) 0 64 (nI g)) (56 + 3 * n) 1 (nI l)) (56 + 3 * n) 2 1) (56 + 3 * n) 3 0) 0 2 = nI n := by simp only [u2, uR, zR]; (repeat rw [if_neg (by omega)]); exact r2
        have e42 : (u2 (u2 (u2 (uR (u2 (zR (zR (zR F (56 + 3 * n)) (57 + 3 * n)) (58 + 3 * n)) (57 + 3 * n) 1 1) (58 + 3 * n) 0 64 (nI g)) (56 + 3 * n) 1 (nI l)) (56 + 3 * n) 2 1) (56 + 3 * n) 3 0) (56 + 3 * n) 2 = nI 1 := by
          rw [u2_ne _ _ _ _ (by omega), u2_eq]
          rfl
        have hv : (nI l).toInt64 * ((4096 : Int32) / nI 1).toInt64 = (4096 : Int64) * (nI l).toInt64 := by
          rw [show ((4096 : Int32) / nI 1).toInt64 = (4096 : Int64) by decide, Int64.mul_comm]
        refine ⟨nI n, M b (u2 (u2 (u2 (u2 (uR (u2 (zR (zR (zR F (56 + 3 * n)) (57 + 3 * n)) (58 + 3 * n)) (57 + 3 * n) 1 1) (58 + 3 * n) 0 64 (nI g)) (56 + 3 * n) 1 (nI l)) (56 + 3 * n) 2 1) (56 + 3 * n) 3 0) 0 2 (nI (n + 1))) (u2 G 4 g (G 4 g + (nI l).toInt64 * ((4096 : Int32) / nI 1).toInt64)) (n + 1) sw, M b (u2 (u2 (u2 (u2 (u2 (u2 (u2 (u2 (u2 (u2 (uR (u2 (zR (zR (zR F (56 + 3 * n)) (57 + 3 * n)) (58 + 3 * n)) (57 + 3 * n) 1 1) (58 + 3 * n) 0 64 (nI g)) (56 + 3 * n) 1 (nI l)) (56 + 3 * n) 2 1) (56 + 3 * n) 3 0) 0 2 (nI (n + 1))) 39 (64 * n + 8 * 0 + 0) (nI g)) 35 n 1) 36 n (nI l)) 37 n 1) 38 n 0) 32 2 (nI (n + 1))) (u2 (u2 G 4 g (G 4 g + (nI l).toInt64 * ((4096 : Int32) / nI 1).toInt64)) 42 g (G 42 g + (4096 : Int64) * (nI l).toInt64)) (n + 1) sw, ?_, ?_, rfl, _, _, _, _, rfl, ?_⟩
        · have hM : M b F G n sw = mk b F G (Hst b n sw) (56 + 3 * n) := rfl
          unfold fX8_rod
          simp only [Option.bind_some, bI_0, Decidable.not_not, nm, b2, zr, e_isWithin, e_in, e_isGlass8, e_isGlass9, reduceIte, not_false_eq_true, not_true_eq_false, if_true, if_false, and_self, z01, z10, c00, c11, true_and, and_true, R_0_0, R_0_1, R_0_3, R_0_4, R_0_5, R_0_6, R_0_7, R_0_8, R_0_9, R_1_0, R_1_1, R_1_2, R_1_3, R_7_0, R_7_1, R_10_0, R_10_1, R_10_2, R_14_0, R_16_0, R_18_0, R_18_1, R_18_2, R_18_4, R_18_5, R_18_6, R_18_8, R_18_9, R_27_0, R_27_1, R_27_2, R_32_0, R_32_1, R_32_3, R_32_4, R_32_5, R_32_6, R_32_7, R_32_11, R_32_12, R_32_13, R_32_14, R_32_17, R_32_20, R_32_21, R_32_22, R_32_24, R_32_25, R_32_26, R_32_27, R_32_28, R_32_29, R_32_30, R_32_31, I_0_2, I_1_4, I_7_2, I_14_1, I_16_1, I_18_3, I_18_7, I_27_3, I_27_4, I_31_0, I_31_1, I_31_2, I_31_3, I_31_4, I_31_5, I_31_6, I_32_2, I_32_8, I_32_9, I_32_10, I_32_15, I_32_16, I_32_18, I_32_19, J_0_10, J_32_23, P_0_2, P_0_10, P_1_4, P_7_2, P_14_1, P_16_1, P_18_3, P_18_7, P_27_3, P_27_4, P_31_0, P_31_1, P_31_2, P_31_3, P_31_4, P_31_5, P_31_6, P_32_2, P_32_8, P_32_9, P_32_10, P_32_15, P_32_16, P_32_18, P_32_19, P_32_23, K_0, K_1, K_7, K_10, K_14, K_16, K_18, K_27, K_31, K_32, eq_true hg, eq_true hl, r2, eq_true hn']
          rw [hM]
          simp only [mk_1, a_cane Ag_M (Hst_new (Nat.le_refl _)), a_pic (Hst_new (show 56 + 3 * n ≤ 57 + 3 * n by omega)), e5, Option.bind_some]
          rw [e_init1 (show 56 + 3 * n < 59 + 3 * n by omega)]
          simp only [Option.bind_some]
          have k1 := q_R00 (F := (u2 (u2 (u2 (uR (u2 (zR (zR (zR F (56 + 3 * n)) (57 + 3 * n)) (58 + 3 * n)) (57 + 3 * n) 1 1) (58 + 3 * n) 0 64 (nI g)) (56 + 3 * n) 1 (nI l)) (56 + 3 * n) 2 1) (56 + 3 * n) 3 0)) (G := G) hA4
          have k2 := q_vol (N := NF) (b := b) (F := (u2 (u2 (u2 (uR (u2 (zR (zR (zR F (56 + 3 * n)) (57 + 3 * n)) (58 + 3 * n)) (57 + 3 * n) 1 1) (58 + 3 * n) 0 64 (nI g)) (56 + 3 * n) 1 (nI l)) (56 + 3 * n) 2 1) (56 + 3 * n) 3 0)) (G := G) (H := (u2 (u2 (Hst b n sw) (57 + 3 * n) 0 (some (b + (58 + 3 * n)))) (56 + 3 * n) 0 (some (b + (57 + 3 * n))))) (c := 59 + 3 * n) (n := n) (by omega) e42 (by omega) (by decide) (nI l)
          have k3 := q_came (N := NF) (F := (u2 (u2 (u2 (uR (u2 (zR (zR (zR F (56 + 3 * n)) (57 + 3 * n)) (58 + 3 * n)) (57 + 3 * n) 1 1) (58 + 3 * n) 0 64 (nI g)) (56 + 3 * n) 1 (nI l)) (56 + 3 * n) 2 1) (56 + 3 * n) 3 0)) (G := G) (g := g) (v := (nI l).toInt64 * ((4096 : Int32) / nI 1).toInt64) hA4 g1 g8
          have k4 := e_keep (N := NF) (F := (u2 (u2 (u2 (uR (u2 (zR (zR (zR F (56 + 3 * n)) (57 + 3 * n)) (58 + 3 * n)) (57 + 3 * n) 1 1) (58 + 3 * n) 0 64 (nI g)) (56 + 3 * n) 1 (nI l)) (56 + 3 * n) 2 1) (56 + 3 * n) 3 0)) (G := u2 G 4 g (G 4 g + (nI l).toInt64 * ((4096 : Int32) / nI 1).toInt64)) hA4 (by omega) hn e4
          have k5 := e_fin (b := b) (F := (u2 (u2 (u2 (u2 (uR (u2 (zR (zR (zR F (56 + 3 * n)) (57 + 3 * n)) (58 + 3 * n)) (57 + 3 * n) 1 1) (58 + 3 * n) 0 64 (nI g)) (56 + 3 * n) 1 (nI l)) (56 + 3 * n) 2 1) (56 + 3 * n) 3 0) 0 2 (nI (n + 1)))) (G := u2 G 4 g (G 4 g + (nI l).toInt64 * ((4096 : Int32) / nI 1).toInt64)) (n := n) (sw := sw)
          rw [k1, Option.bind_some, k2, Option.bind_some, k3, Option.bind_some, k4]
          simp only [Option.bind_some]
          exact congrArg (fun z => some (nI n, z)) k5
        · have g2 : (u2 (u2 (u2 (u2 (uR (u2 (zR (zR (zR F (56 + 3 * n)) (57 + 3 * n)) (58 + 3 * n)) (57 + 3 * n) 1 1) (58 + 3 * n) 0 64 (nI g)) (56 + 3 * n) 1 (nI l)) (56 + 3 * n) 2 1) (56 + 3 * n) 3 0) 0 2 (nI (n + 1))) 32 2 = nI n := by simp only [u2, uR, zR]; (repeat rw [if_neg (by omega)]); exact r3
          have g3 : u2 (u2 (u2 (u2 (u2 (uR (u2 (zR (zR (zR F (56 + 3 * n)) (57 + 3 * n)) (58 + 3 * n)) (57 + 3 * n) 1 1) (58 + 3 * n) 0 64 (nI g)) (56 + 3 * n) 1 (nI l)) (56 + 3 * n) 2 1) (56 + 3 * n) 3 0) 0 2 (nI (n + 1))) 39 (64 * n + 8 * 0 + 0) (nI g) 32 2 = nI n := by simp only [u2, uR, zR]; (repeat rw [if_neg (by omega)]); exact r3
          have g4 := e_put9 (N := NF) (b := b) (F := (u2 (u2 (u2 (u2 (uR (u2 (zR (zR (zR F (56 + 3 * n)) (57 + 3 * n)) (58 + 3 * n)) (57 + 3 * n) 1 1) (58 + 3 * n) 0 64 (nI g)) (56 + 3 * n) 1 (nI l)) (56 + 3 * n) 2 1) (56 + 3 * n) 3 0) 0 2 (nI (n + 1)))) (G := u2 G 4 g (G 4 g + (nI l).toInt64 * ((4096 : Int32) / nI 1).toInt64)) (n := n + 1) (sw := sw) (c := n) (x := 0) (y := 0) (v := nI g) (by omega)
          rw [show nI 0 = (0 : Int32) from rfl] at g4
          have g5 : u2 G 4 g (G 4 g + (nI l).toInt64 * ((4096 : Int32) / nI 1).toInt64) 42 g = G 42 g := u2_ne _ _ _ _ (by omega)
          unfold fX9_rod
          simp only [Option.bind_some, bI_0, Decidable.not_not, nm, b2, zr, e_isWithin, e_in, e_isGlass8, e_isGlass9, reduceIte, not_false_eq_true, not_true_eq_false, if_true, if_false, and_self, z01, z10, c00, c11, true_and, and_true, R_0_0, R_0_1, R_0_3, R_0_4, R_0_5, R_0_6, R_0_7, R_0_8, R_0_9, R_1_0, R_1_1, R_1_2, R_1_3, R_7_0, R_7_1, R_10_0, R_10_1, R_10_2, R_14_0, R_16_0, R_18_0, R_18_1, R_18_2, R_18_4, R_18_5, R_18_6, R_18_8, R_18_9, R_27_0, R_27_1, R_27_2, R_32_0, R_32_1, R_32_3, R_32_4, R_32_5, R_32_6, R_32_7, R_32_11, R_32_12, R_32_13, R_32_14, R_32_17, R_32_20, R_32_21, R_32_22, R_32_24, R_32_25, R_32_26, R_32_27, R_32_28, R_32_29, R_32_30, R_32_31, I_0_2, I_1_4, I_7_2, I_14_1, I_16_1, I_18_3, I_18_7, I_27_3, I_27_4, I_31_0, I_31_1, I_31_2, I_31_3, I_31_4, I_31_5, I_31_6, I_32_2, I_32_8, I_32_9, I_32_10, I_32_15, I_32_16, I_32_18, I_32_19, J_0_10, J_32_23, P_0_2, P_0_10, P_1_4, P_7_2, P_14_1, P_16_1, P_18_3, P_18_7, P_27_3, P_27_4, P_31_0, P_31_1, P_31_2, P_31_3, P_31_4, P_31_5, P_31_6, P_32_2, P_32_8, P_32_9, P_32_10, P_32_15, P_32_16, P_32_18, P_32_19, P_32_23, K_0, K_1, K_7, K_10, K_14, K_16, K_18, K_27, K_31, K_32, eq_true hg, eq_true hl, g2, eq_false hn9, g4, L_42 (show g < 9 by omega), T_42 (show g < 9 by omega), g5, e_newCane (N := NF) hn g3]
        · refine ⟨by omega, ?_, ?_, ?_, gl_cm r5 (fun k j h => by simp only [u2, uR, zR]; repeat rw [if_neg (by omega)]) g1 g8 hv, RTol_c (fun k j h => by simp only [u2, uR, zR]; repeat rw [if_neg (by omega)]) r6, RTab_c (fun k j h => by simp only [u2, uR, zR]; repeat rw [if_neg (by omega)]) (RTab_m r7), fun i' hi' => ?_, RWish_c (fun k j h => by simp only [u2, uR, zR]; repeat rw [if_neg (by omega)]) r9, RSlice_c (fun k j h => by simp only [u2, uR, zR]; repeat rw [if_neg (by omega)]) r10, ROrd_c (fun k j h => by simp only [u2, uR, zR]; repeat rw [if_neg (by omega)]) r11, RWgh_c (fun k j h => by simp only [u2, uR, zR]; repeat rw [if_neg (by omega)]) r12, RBest_c (fun k j h => by simp only [u2, uR, zR]; repeat rw [if_neg (by omega)]) r13⟩
          · show u2 _ _ _ _ 0 2 = _
            (simp only [u2, uR, zR, and_self, and_true, true_and, if_true]; (repeat (first | rw [if_neg (by omega)] | rw [if_pos (by omega)])); try rfl)
          · (simp only [u2, uR, zR, and_self, and_true, true_and, if_true]; (repeat (first | rw [if_neg (by omega)] | rw [if_pos (by omega)])); try rfl)
          · rw [u2_ne _ _ _ _ (by omega), u2_ne _ _ _ _ (by omega), u2_ne _ _ _ _ (by omega), u2_ne _ _ _ _ (by omega)]
            exact r4
          · by_cases e' : i' = n
            · subst e'
              refine ⟨1, l, 1, 0, ⟨by omega, by omega, l9, ⟨0, by omega, rfl⟩, by omega⟩, ?_, ?_, ?_, ?_, ?_, ?_, ?_, ?_, fun x y hx hy => ?_⟩
              · (simp only [u2, uR, zR, and_self, and_true, true_and, if_true]; (repeat (first | rw [if_neg (by omega)] | rw [if_pos (by omega)])); try rfl)
              · (simp only [u2, uR, zR, and_self, and_true, true_and, if_true]; (repeat (first | rw [if_neg (by omega)] | rw [if_pos (by omega)])); try rfl)
              · (simp only [u2, uR, zR, and_self, and_true, true_and, if_true]; (repeat (first | rw [if_neg (by omega)] | rw [if_pos (by omega)])); try rfl)
              · (simp only [u2, uR, zR, and_self, and_true, true_and, if_true]; (repeat (first | rw [if_neg (by omega)] | rw [if_pos (by omega)])); try rfl)
              · (simp only [u2, uR, zR, and_self, and_true, true_and, if_true]; (repeat (first | rw [if_neg (by omega)] | rw [if_pos (by omega)])); try rfl)
              · (simp only [u2, uR, zR, and_self, and_true, true_and, if_true]; (repeat (first | rw [if_neg (by omega)] | rw [if_pos (by omega)])); try rfl)
              · (simp only [u2, uR, zR, and_self, and_true, true_and, if_true]; (repeat (first | rw [if_neg (by omega)] | rw [if_pos (by omega)])); try rfl)
              · (simp only [u2, uR, zR, and_self, and_true, true_and, if_true]; (repeat (first | rw [if_neg (by omega)] | rw [if_pos (by omega)])); try rfl)
              · have hx0 : x = 0 := by omega
                have hy0 : y = 0 := by omega
                subst hx0
                subst hy0
                refine ⟨?_, g, g1, g8, ?_⟩
                · (simp only [u2, uR, zR, and_self, and_true, true_and, if_true]; (repeat (first | rw [if_neg (by omega)] | rw [if_pos (by omega)])); try rfl)
                · (simp only [u2, uR, zR, and_self, and_true, true_and, if_true]; (repeat (first | rw [if_neg (by omega)] | rw [if_pos (by omega)])); try rfl)
            · exact RCane_c (fun k j h => by simp only [u2, uR, zR]; repeat rw [if_neg (by omega)]) (r8 i' (by omega))
      · have hn' : ¬ nI n < (16 : Int32) := nI_nlt (b := 16) (by omega) (by omega)
        have hn9 : nI n = (16 : Int32) := by rw [show n = 16 by omega]; rfl
        refine ⟨-3, M b F G n sw, M b F G n sw, ?_, ?_, rfl, F, G, n, sw, rfl, hR⟩
        · unfold fX8_rod
          simp only [Option.bind_some, bI_0, Decidable.not_not, nm, b2, zr, e_isWithin, e_in, e_isGlass8, e_isGlass9, reduceIte, not_false_eq_true, not_true_eq_false, if_true, if_false, and_self, z01, z10, c00, c11, true_and, and_true, R_0_0, R_0_1, R_0_3, R_0_4, R_0_5, R_0_6, R_0_7, R_0_8, R_0_9, R_1_0, R_1_1, R_1_2, R_1_3, R_7_0, R_7_1, R_10_0, R_10_1, R_10_2, R_14_0, R_16_0, R_18_0, R_18_1, R_18_2, R_18_4, R_18_5, R_18_6, R_18_8, R_18_9, R_27_0, R_27_1, R_27_2, R_32_0, R_32_1, R_32_3, R_32_4, R_32_5, R_32_6, R_32_7, R_32_11, R_32_12, R_32_13, R_32_14, R_32_17, R_32_20, R_32_21, R_32_22, R_32_24, R_32_25, R_32_26, R_32_27, R_32_28, R_32_29, R_32_30, R_32_31, I_0_2, I_1_4, I_7_2, I_14_1, I_16_1, I_18_3, I_18_7, I_27_3, I_27_4, I_31_0, I_31_1, I_31_2, I_31_3, I_31_4, I_31_5, I_31_6, I_32_2, I_32_8, I_32_9, I_32_10, I_32_15, I_32_16, I_32_18, I_32_19, J_0_10, J_32_23, P_0_2, P_0_10, P_1_4, P_7_2, P_14_1, P_16_1, P_18_3, P_18_7, P_27_3, P_27_4, P_31_0, P_31_1, P_31_2, P_31_3, P_31_4, P_31_5, P_31_6, P_32_2, P_32_8, P_32_9, P_32_10, P_32_15, P_32_16, P_32_18, P_32_19, P_32_23, K_0, K_1, K_7, K_10, K_14, K_16, K_18, K_27, K_31, K_32, eq_true hg, eq_true hl, r2, eq_false hn']
        · unfold fX9_rod
          simp only [Option.bind_some, bI_0, Decidable.not_not, nm, b2, zr, e_isWithin, e_in, e_isGlass8, e_isGlass9, reduceIte, not_false_eq_true, not_true_eq_false, if_true, if_false, and_self, z01, z10, c00, c11, true_and, and_true, R_0_0, R_0_1, R_0_3, R_0_4, R_0_5, R_0_6, R_0_7, R_0_8, R_0_9, R_1_0, R_1_1, R_1_2, R_1_3, R_7_0, R_7_1, R_10_0, R_10_1, R_10_2, R_14_0, R_16_0, R_18_0, R_18_1, R_18_2, R_18_4, R_18_5, R_18_6, R_18_8, R_18_9, R_27_0, R_27_1, R_27_2, R_32_0, R_32_1, R_32_3, R_32_4, R_32_5, R_32_6, R_32_7, R_32_11, R_32_12, R_32_13, R_32_14, R_32_17, R_32_20, R_32_21, R_32_22, R_32_24, R_32_25, R_32_26, R_32_27, R_32_28, R_32_29, R_32_30, R_32_31, I_0_2, I_1_4, I_7_2, I_14_1, I_16_1, I_18_3, I_18_7, I_27_3, I_27_4, I_31_0, I_31_1, I_31_2, I_31_3, I_31_4, I_31_5, I_31_6, I_32_2, I_32_8, I_32_9, I_32_10, I_32_15, I_32_16, I_32_18, I_32_19, J_0_10, J_32_23, P_0_2, P_0_10, P_1_4, P_7_2, P_14_1, P_16_1, P_18_3, P_18_7, P_27_3, P_27_4, P_31_0, P_31_1, P_31_2, P_31_3, P_31_4, P_31_5, P_31_6, P_32_2, P_32_8, P_32_9, P_32_10, P_32_15, P_32_16, P_32_18, P_32_19, P_32_23, K_0, K_1, K_7, K_10, K_14, K_16, K_18, K_27, K_31, K_32, eq_true hg, eq_true hl, r3, hn9]
    · refine ⟨-1, M b F G n sw, M b F G n sw, ?_, ?_, rfl, F, G, n, sw, rfl, hR⟩
      · unfold fX8_rod
        simp only [Option.bind_some, bI_0, Decidable.not_not, nm, b2, zr, e_isWithin, e_in, e_isGlass8, e_isGlass9, reduceIte, not_false_eq_true, not_true_eq_false, if_true, if_false, and_self, z01, z10, c00, c11, true_and, and_true, R_0_0, R_0_1, R_0_3, R_0_4, R_0_5, R_0_6, R_0_7, R_0_8, R_0_9, R_1_0, R_1_1, R_1_2, R_1_3, R_7_0, R_7_1, R_10_0, R_10_1, R_10_2, R_14_0, R_16_0, R_18_0, R_18_1, R_18_2, R_18_4, R_18_5, R_18_6, R_18_8, R_18_9, R_27_0, R_27_1, R_27_2, R_32_0, R_32_1, R_32_3, R_32_4, R_32_5, R_32_6, R_32_7, R_32_11, R_32_12, R_32_13, R_32_14, R_32_17, R_32_20, R_32_21, R_32_22, R_32_24, R_32_25, R_32_26, R_32_27, R_32_28, R_32_29, R_32_30, R_32_31, I_0_2, I_1_4, I_7_2, I_14_1, I_16_1, I_18_3, I_18_7, I_27_3, I_27_4, I_31_0, I_31_1, I_31_2, I_31_3, I_31_4, I_31_5, I_31_6, I_32_2, I_32_8, I_32_9, I_32_10, I_32_15, I_32_16, I_32_18, I_32_19, J_0_10, J_32_23, P_0_2, P_0_10, P_1_4, P_7_2, P_14_1, P_16_1, P_18_3, P_18_7, P_27_3, P_27_4, P_31_0, P_31_1, P_31_2, P_31_3, P_31_4, P_31_5, P_31_6, P_32_2, P_32_8, P_32_9, P_32_10, P_32_15, P_32_16, P_32_18, P_32_19, P_32_23, K_0, K_1, K_7, K_10, K_14, K_16, K_18, K_27, K_31, K_32, eq_true hg, eq_false hl]
      · unfold fX9_rod
        simp only [Option.bind_some, bI_0, Decidable.not_not, nm, b2, zr, e_isWithin, e_in, e_isGlass8, e_isGlass9, reduceIte, not_false_eq_true, not_true_eq_false, if_true, if_false, and_self, z01, z10, c00, c11, true_and, and_true, R_0_0, R_0_1, R_0_3, R_0_4, R_0_5, R_0_6, R_0_7, R_0_8, R_0_9, R_1_0, R_1_1, R_1_2, R_1_3, R_7_0, R_7_1, R_10_0, R_10_1, R_10_2, R_14_0, R_16_0, R_18_0, R_18_1, R_18_2, R_18_4, R_18_5, R_18_6, R_18_8, R_18_9, R_27_0, R_27_1, R_27_2, R_32_0, R_32_1, R_32_3, R_32_4, R_32_5, R_32_6, R_32_7, R_32_11, R_32_12, R_32_13, R_32_14, R_32_17, R_32_20, R_32_21, R_32_22, R_32_24, R_32_25, R_32_26, R_32_27, R_32_28, R_32_29, R_32_30, R_32_31, I_0_2, I_1_4, I_7_2, I_14_1, I_16_1, I_18_3, I_18_7, I_27_3, I_27_4, I_31_0, I_31_1, I_31_2, I_31_3, I_31_4, I_31_5, I_31_6, I_32_2, I_32_8, I_32_9, I_32_10, I_32_15, I_32_16, I_32_18, I_32_19, J_0_10, J_32_23, P_0_2, P_0_10, P_1_4, P_7_2, P_14_1, P_16_1, P_18_3, P_18_7, P_27_3, P_27_4, P_31_0, P_31_1, P_31_2, P_31_3, P_31_4, P_31_5, P_31_6, P_32_2, P_32_8, P_32_9, P_32_10, P_32_15, P_32_16, P_32_18, P_32_19, P_32_23, K_0, K_1, K_7, K_10, K_14, K_16, K_18, K_27, K_31, K_32, eq_true hg, eq_false hl]
  · refine ⟨-1, M b F G n sw, M b F G n sw, ?_, ?_, rfl, F, G, n, sw, rfl, hR⟩
    · unfold fX8_rod
      simp only [Option.bind_some, bI_0, Decidable.not_not, nm, b2, zr, e_isWithin, e_in, e_isGlass8, e_isGlass9, reduceIte, not_false_eq_true, not_true_eq_false, if_true, if_false, and_self, z01, z10, c00, c11, true_and, and_true, R_0_0, R_0_1, R_0_3, R_0_4, R_0_5, R_0_6, R_0_7, R_0_8, R_0_9, R_1_0, R_1_1, R_1_2, R_1_3, R_7_0, R_7_1, R_10_0, R_10_1, R_10_2, R_14_0, R_16_0, R_18_0, R_18_1, R_18_2, R_18_4, R_18_5, R_18_6, R_18_8, R_18_9, R_27_0, R_27_1, R_27_2, R_32_0, R_32_1, R_32_3, R_32_4, R_32_5, R_32_6, R_32_7, R_32_11, R_32_12, R_32_13, R_32_14, R_32_17, R_32_20, R_32_21, R_32_22, R_32_24, R_32_25, R_32_26, R_32_27, R_32_28, R_32_29, R_32_30, R_32_31, I_0_2, I_1_4, I_7_2, I_14_1, I_16_1, I_18_3, I_18_7, I_27_3, I_27_4, I_31_0, I_31_1, I_31_2, I_31_3, I_31_4, I_31_5, I_31_6, I_32_2, I_32_8, I_32_9, I_32_10, I_32_15, I_32_16, I_32_18, I_32_19, J_0_10, J_32_23, P_0_2, P_0_10, P_1_4, P_7_2, P_14_1, P_16_1, P_18_3, P_18_7, P_27_3, P_27_4, P_31_0, P_31_1, P_31_2, P_31_3, P_31_4, P_31_5, P_31_6, P_32_2, P_32_8, P_32_9, P_32_10, P_32_15, P_32_16, P_32_18, P_32_19, P_32_23, K_0, K_1, K_7, K_10, K_14, K_16, K_18, K_27, K_31, K_32, eq_false hg]
    · unfold fX9_rod
      simp only [Option.bind_some, bI_0, Decidable.not_not, nm, b2, zr, e_isWithin, e_in, e_isGlass8, e_isGlass9, reduceIte, not_false_eq_true, not_true_eq_false, if_true, if_false, and_self, z01, z10, c00, c11, true_and, and_true, R_0_0, R_0_1, R_0_3, R_0_4, R_0_5, R_0_6, R_0_7, R_0_8, R_0_9, R_1_0, R_1_1, R_1_2, R_1_3, R_7_0, R_7_1, R_10_0, R_10_1, R_10_2, R_14_0, R_16_0, R_18_0, R_18_1, R_18_2, R_18_4, R_18_5, R_18_6, R_18_8, R_18_9, R_27_0, R_27_1, R_27_2, R_32_0, R_32_1, R_32_3, R_32_4, R_32_5, R_32_6, R_32_7, R_32_11, R_32_12, R_32_13, R_32_14, R_32_17, R_32_20, R_32_21, R_32_22, R_32_24, R_32_25, R_32_26, R_32_27, R_32_28, R_32_29, R_32_30, R_32_31, I_0_2, I_1_4, I_7_2, I_14_1, I_16_1, I_18_3, I_18_7, I_27_3, I_27_4, I_31_0, I_31_1, I_31_2, I_31_3, I_31_4, I_31_5, I_31_6, I_32_2, I_32_8, I_32_9, I_32_10, I_32_15, I_32_16, I_32_18, I_32_19, J_0_10, J_32_23, P_0_2, P_0_10, P_1_4, P_7_2, P_14_1, P_16_1, P_18_3, P_18_7, P_27_3, P_27_4, P_31_0, P_31_1, P_31_2, P_31_3, P_31_4, P_31_5, P_31_6, P_32_2, P_32_8, P_32_9, P_32_10, P_32_15, P_32_16, P_32_18, P_32_19, P_32_23, K_0, K_1, K_7, K_10, K_14, K_16, K_18, K_27, K_31, K_32, eq_false hg]
