/-! ===== 478: cracks, the step ===== -/
def okC (p j : Nat) : Prop := evC j ∧ inPc p j
def LoI (Ed : Nat → Nat → Prop) (p a c l : Nat) (e : Int32) (F0 F : mI) (j : Nat) : Prop := Fr3 a c l F0 F ∧ ∃ mt : Nat → Option Nat, (∀ k, k < 64 → F a k = enc e (mt k)) ∧ Vm Ed evC mt ∧ ∀ z, Sm evC mt z ↔ (AsC Ed (okC p) j).1 z
theorem EdC_c {F F0 : mI} {i p : Nat} (h : nbC F i p = nbC F0 i p) : EdC F i p = EdC F0 i p := by
  funext u w
  unfold EdC
  rw [h]
theorem Fr3_t {a c l : Nat} {F0 F F' : mI} (h : Fr3 a c l F0 F) (h' : Fr3 a c l F F') : Fr3 a c l F0 F' := fun k j h1 h2 h3 => (h' k j h1 h2 h3).trans (h k j h1 h2 h3)
theorem par2 {x y : Nat} (hx : x < 8) (hy : y < 8) : nI x + nI y - (nI x + nI y) / (2 : Int32) * (2 : Int32) = nI ((x + y) % 2) := by
  rw [nI_add]
  exact pk_rem (d := 2) (by omega) (by decide) (by decide)
theorem As_row {Ed : Nat → Nat → Prop} {p y : Nat} (hp : p ≤ 8) : AsC Ed (okC p) (8 * y + p) = AsC Ed (okC p) (8 * (y + 1)) := by
  have := As_sk (Ed := Ed) (ok := okC p) (j := 8 * y + p) (8 - p) (fun x h1 h2 z => by
    have := z.2.2.1
    omega)
  rw [show 8 * y + p + (8 - p) = 8 * (y + 1) by omega] at this
  exact this.symm
section LO
variable {b : Nat} {G : mJ} {n : Nat} {sw : Bool} {N : Nat} {i p : Nat}
theorem e_lo25 {F0 : mI} {y : Nat} (hi : i < n) (hK : CK F0 i p) (hy : y < p) (hN : 2000 ≤ N) : ∀ (m x : Nat) (F : mI), x ≤ p → p - x < m → LoI (EdC F0 i p) p 11 12 13 (-1) F0 F (8 * y + x) → ∃ F', lX2_leastOut_25 N (some (b + 10)) (some (b + (57 + 3 * i))) (some (b + 1)) (nI y) m (nI (AsC (EdC F0 i p) (okC p) (8 * y + x)).2) (nI x) (M b F G n sw) = some (nI (AsC (EdC F0 i p) (okC p) (8 * y + p)).2, M b F' G n sw) ∧ LoI (EdC F0 i p) p 11 12 13 (-1) F0 F' (8 * y + p) := by
  have hp8 := hK.1
  intro m
  induction m with
  | zero => intro x F _ h; omega
  | succ m ih =>
    intro x F hx hm hL
    obtain ⟨hF, mt, l1, l2, l3⟩ := id hL
    obtain ⟨c1, c2⟩ := CK_c (F := F) (fun k j h => hF k j (by omega) (by omega) (by omega)) hK
    have hEq := EdC_c c2
    rw [lX2_leastOut_25, Ip_1 hi, c1.2.1]
    simp only [Option.bind_some]
    by_cases hxp : x = p
    · subst hxp
      refine ⟨F, ?_, hL⟩
      rw [if_pos (nI_le (Nat.le_refl _) (by omega))]
    · rw [if_neg (nI_ge (by omega) (by omega)), par2 (by omega) (by omega)]
      simp only [nm, nI_1]
      by_cases hpar : (x + y) % 2 = 0
      · rw [hpar, if_neg (fun z => z rfl), ix8]
        have hv1 : evC (8 * y + x) := by unfold evC; omega
        have hv2 : inPc p (8 * y + x) := by unfold inPc; omega
        have hvn : mt (8 * y + x) = none := by
          cases hmv : mt (8 * y + x) with
          | none => rfl
          | some w =>
            have := (As_le (Ed := EdC F0 i p) (ok := okC p) (8 * y + x)).2 _ ((l3 (8 * y + x)).mp ⟨hv1, by rw [hmv]; exact smn⟩)
            omega
        obtain ⟨r, F', mt', q1, q2, q3, q4, q5⟩ := e_fp8 (N := N) (b := b) (G := G) (n := n) (sw := sw) hi c1 (by rw [hEq]; exact l2) hvn hv1 hv2 l1 hN
        rw [hEq] at q4 q5
        have hMb : Mb (EdC F0 i p) (fun u => Sm evC mt u ∨ u = 8 * y + x) ↔ Mb (EdC F0 i p) (fun u => (AsC (EdC F0 i p) (okC p) (8 * y + x)).1 u ∨ u = 8 * y + x) := ⟨fun z => Mb_e z (fun u => by rw [l3 u]), fun z => Mb_e z (fun u => by rw [l3 u])⟩
        rw [q1]
        simp only [b2, Option.bind_some]
        rcases q5 with ⟨rfl, q6, q7⟩ | ⟨rfl, q6, q7⟩
        · have e := As_y (Ed := EdC F0 i p) (ok := okC p) ⟨hv1, hv2⟩ (hMb.mp q6)
          rw [if_neg z10]
          have := ih (x + 1) F' (by omega) (by omega) ⟨Fr3_t hF q2, mt', q3, q4, fun z => by
            rw [show 8 * y + (x + 1) = 8 * y + x + 1 by omega, e, q7 z, l3 z]⟩
          rw [show 8 * y + (x + 1) = 8 * y + x + 1 by omega, e] at this
          exact this
        · have e := As_n (Ed := EdC F0 i p) (ok := okC p) (j := 8 * y + x) (fun z => q6 (hMb.mpr z.2))
          rw [if_pos rfl]
          have := ih (x + 1) F' (by omega) (by omega) ⟨Fr3_t hF q2, mt', q3, q4, fun z => by
            rw [show 8 * y + (x + 1) = 8 * y + x + 1 by omega, e, q7 z, l3 z]⟩
          rw [show 8 * y + (x + 1) = 8 * y + x + 1 by omega, e] at this
          exact this
      · have e := As_n (Ed := EdC F0 i p) (ok := okC p) (j := 8 * y + x) (fun z => by
          have := z.1.1
          unfold evC at this
          omega)
        rw [if_pos (ne0 (by omega) (by omega))]
        have := ih (x + 1) F (by omega) (by omega) ⟨hF, mt, l1, l2, fun z => by
          rw [show 8 * y + (x + 1) = 8 * y + x + 1 by omega, e, l3 z]⟩
        rw [show 8 * y + (x + 1) = 8 * y + x + 1 by omega, e] at this
        exact this
theorem e_lo13 {F0 : mI} (hi : i < n) (hK : CK F0 i p) (hN : 2000 ≤ N) : ∀ (m y : Nat) (F : mI), y ≤ p → p - y < m → LoI (EdC F0 i p) p 11 12 13 (-1) F0 F (8 * y) → ∃ F', lX2_leastOut_13 N (some (b + 10)) (some (b + (57 + 3 * i))) (some (b + 1)) m (nI (AsC (EdC F0 i p) (okC p) (8 * y)).2) (nI y) (M b F G n sw) = some (nI (AsC (EdC F0 i p) (okC p) (8 * p)).2, M b F' G n sw) ∧ LoI (EdC F0 i p) p 11 12 13 (-1) F0 F' (8 * p) := by
  have hp8 := hK.1
  intro m
  induction m with
  | zero => intro y F _ h; omega
  | succ m ih =>
    intro y F hy hm hL
    obtain ⟨c1, -⟩ := CK_c (F := F) (fun k j h => hL.1 k j (by omega) (by omega) (by omega)) hK
    rw [lX2_leastOut_13, Ip_1 hi, c1.2.1]
    simp only [Option.bind_some]
    by_cases hyp : y = p
    · subst hyp
      refine ⟨F, ?_, hL⟩
      rw [if_pos (nI_le (Nat.le_refl _) (by omega))]
    · rw [if_neg (nI_ge (by omega) (by omega))]
      obtain ⟨F', q1, q2⟩ := e_lo25 (N := N) (b := b) (G := G) (n := n) (sw := sw) hi hK (show y < p by omega) hN N 0 F (by omega) (by omega) hL
      rw [show nI 0 = (0 : Int32) from rfl, show 8 * y + 0 = 8 * y from rfl] at q1
      rw [q1]
      simp only [b2, Option.bind_some, nm, nI_1]
      unfold LoI at q2
      rw [As_row hp8] at q2 ⊢
      exact ih (y + 1) F' (by omega) (by omega) q2
theorem Lo_0 {Ed : Nat → Nat → Prop} {a c l : Nat} {e : Int32} {F0 F : mI} (h1 : Fr3 a c l F0 F) (h2 : ∀ k, k < 64 → F a k = e) : LoI Ed p a c l e F0 F (8 * 0) := by
  refine ⟨h1, fun _ => none, fun k hk => h2 k hk, ⟨fun u w _ h => (nsm h).elim, fun w u _ h => (nsm h).elim⟩, fun z => ?_⟩
  constructor
  · exact fun h => absurd rfl h.2
  · exact fun h => h.elim
theorem e_leastOut8 {F : mI} (hi : i < n) (hK : CK F i p) (hN : 2000 ≤ N) : ∃ F', fX2_leastOut N (M b F G n sw) (some (b + 10)) (some (b + (57 + 3 * i))) (some (b + 1)) = some (nI (AsC (EdC F i p) (okC p) (8 * p)).2, M b F' G n sw) ∧ Fr3 11 12 13 F F' := by
  have hp8 := hK.1
  have hfi : fJ7_fill_53178 N (M b F G n sw) (some (b + 11)) (-1) = some (M b (uR F 11 0 64 (-1)) G n sw) := e_fillM hN (by omega) rfl (by omega)
  obtain ⟨F', q1, q2⟩ := e_lo13 (N := N) (b := b) (G := G) (n := n) (sw := sw) hi hK hN N 0 (uR F 11 0 64 (-1)) (by omega) (by omega) (Lo_0 (fun k j h1 h2 h3 => if_neg (fun z => h1 z.1)) (fun k hk => if_pos ⟨rfl, by omega, hk⟩))
  refine ⟨F', ?_, q2.1⟩
  unfold fX2_leastOut
  rw [K_10, R_10_0]
  simp only [Option.bind_some, hfi]
  have e0 : nI (AsC (EdC F i p) (okC p) (8 * 0)).2 = 0 := rfl
  rw [e0, show nI 0 = (0 : Int32) from rfl] at q1
  rw [q1]
  rfl
theorem e_lo39 {F0 : mI} {y : Nat} (hi : i < 16) (hK : CK F0 i p) (hy : y < p) (hN : 2000 ≤ N) : ∀ (m x : Nat) (F : mI), x ≤ p → p - x < m → LoI (EdC F0 i p) p 48 49 50 (-9) F0 F (8 * y + x) → ∃ F', lX9_leastOut_39 N (some (b + 32)) (nI i) (nI y) m (nI (AsC (EdC F0 i p) (okC p) (8 * y + x)).2) (nI x) (M b F G n sw) = some (nI (AsC (EdC F0 i p) (okC p) (8 * y + p)).2, M b F' G n sw) ∧ LoI (EdC F0 i p) p 48 49 50 (-9) F0 F' (8 * y + p) := by
  have hp8 := hK.1
  intro m
  induction m with
  | zero => intro x F _ h; omega
  | succ m ih =>
    intro x F hx hm hL
    obtain ⟨hF, mt, l1, l2, l3⟩ := id hL
    obtain ⟨c1, c2⟩ := CK_c (F := F) (fun k j h => hF k j (by omega) (by omega) (by omega)) hK
    have hEq := EdC_c c2
    rw [lX9_leastOut_39, R_32_3]
    simp only [Option.bind_some]
    rw [L_35 hi, c1.2.2.1]
    simp only [Option.bind_some]
    by_cases hxp : x = p
    · subst hxp
      refine ⟨F, ?_, hL⟩
      rw [if_pos (nI_le (Nat.le_refl _) (by omega))]
    · rw [if_neg (nI_ge (by omega) (by omega)), par2 (by omega) (by omega)]
      simp only [nm, nI_1]
      by_cases hpar : (x + y) % 2 = 0
      · rw [hpar, if_neg (fun z => z rfl), ix8']
        have hv1 : evC (8 * y + x) := by unfold evC; omega
        have hv2 : inPc p (8 * y + x) := by unfold inPc; omega
        have hvn : mt (8 * y + x) = none := by
          cases hmv : mt (8 * y + x) with
          | none => rfl
          | some w =>
            have := (As_le (Ed := EdC F0 i p) (ok := okC p) (8 * y + x)).2 _ ((l3 (8 * y + x)).mp ⟨hv1, by rw [hmv]; exact smn⟩)
            omega
        obtain ⟨r, F', mt', q1, q2, q3, q4, q5⟩ := e_fp9 (N := N) (b := b) (G := G) (n := n) (sw := sw) hi c1 (by rw [hEq]; exact l2) hvn hv1 hv2 l1 hN
        rw [hEq] at q4 q5
        have hMb : Mb (EdC F0 i p) (fun u => Sm evC mt u ∨ u = 8 * y + x) ↔ Mb (EdC F0 i p) (fun u => (AsC (EdC F0 i p) (okC p) (8 * y + x)).1 u ∨ u = 8 * y + x) := ⟨fun z => Mb_e z (fun u => by rw [l3 u]), fun z => Mb_e z (fun u => by rw [l3 u])⟩
        rw [q1]
        simp only [b2, Option.bind_some]
        rcases q5 with ⟨rfl, q6, q7⟩ | ⟨rfl, q6, q7⟩
        · have e := As_y (Ed := EdC F0 i p) (ok := okC p) ⟨hv1, hv2⟩ (hMb.mp q6)
          rw [if_neg z10]
          have := ih (x + 1) F' (by omega) (by omega) ⟨Fr3_t hF q2, mt', q3, q4, fun z => by
            rw [show 8 * y + (x + 1) = 8 * y + x + 1 by omega, e, q7 z, l3 z]⟩
          rw [show 8 * y + (x + 1) = 8 * y + x + 1 by omega, e] at this
          exact this
        · have e := As_n (Ed := EdC F0 i p) (ok := okC p) (j := 8 * y + x) (fun z => q6 (hMb.mpr z.2))
          rw [if_pos rfl]
          have := ih (x + 1) F' (by omega) (by omega) ⟨Fr3_t hF q2, mt', q3, q4, fun z => by
            rw [show 8 * y + (x + 1) = 8 * y + x + 1 by omega, e, q7 z, l3 z]⟩
          rw [show 8 * y + (x + 1) = 8 * y + x + 1 by omega, e] at this
          exact this
      · have e := As_n (Ed := EdC F0 i p) (ok := okC p) (j := 8 * y + x) (fun z => by
          have := z.1.1
          unfold evC at this
          omega)
        rw [if_pos (ne0 (by omega) (by omega))]
        have := ih (x + 1) F (by omega) (by omega) ⟨hF, mt, l1, l2, fun z => by
          rw [show 8 * y + (x + 1) = 8 * y + x + 1 by omega, e, l3 z]⟩
        rw [show 8 * y + (x + 1) = 8 * y + x + 1 by omega, e] at this
        exact this
theorem e_lo26 {F0 : mI} (hi : i < 16) (hK : CK F0 i p) (hN : 2000 ≤ N) : ∀ (m y : Nat) (F : mI), y ≤ p → p - y < m → LoI (EdC F0 i p) p 48 49 50 (-9) F0 F (8 * y) → ∃ F', lX9_leastOut_26 N (some (b + 32)) (nI i) m (nI (AsC (EdC F0 i p) (okC p) (8 * y)).2) (nI y) (M b F G n sw) = some (nI (AsC (EdC F0 i p) (okC p) (8 * p)).2, M b F' G n sw) ∧ LoI (EdC F0 i p) p 48 49 50 (-9) F0 F' (8 * p) := by
  have hp8 := hK.1
  intro m
  induction m with
  | zero => intro y F _ h; omega
  | succ m ih =>
    intro y F hy hm hL
    obtain ⟨c1, -⟩ := CK_c (F := F) (fun k j h => hL.1 k j (by omega) (by omega) (by omega)) hK
    rw [lX9_leastOut_26, R_32_3]
    simp only [Option.bind_some]
    rw [L_35 hi, c1.2.2.1]
    simp only [Option.bind_some]
    by_cases hyp : y = p
    · subst hyp
      refine ⟨F, ?_, hL⟩
      rw [if_pos (nI_le (Nat.le_refl _) (by omega))]
    · rw [if_neg (nI_ge (by omega) (by omega))]
      obtain ⟨F', q1, q2⟩ := e_lo39 (N := N) (b := b) (G := G) (n := n) (sw := sw) hi hK (show y < p by omega) hN N 0 F (by omega) (by omega) hL
      rw [show nI 0 = (0 : Int32) from rfl, show 8 * y + 0 = 8 * y from rfl] at q1
      rw [q1]
      simp only [b2, Option.bind_some, nm, nI_1]
      unfold LoI at q2
      rw [As_row hp8] at q2 ⊢
      exact ih (y + 1) F' (by omega) (by omega) q2
theorem e_leastOut9 {F : mI} (hi : i < 16) (hK : CK F i p) (hN : 2000 ≤ N) : ∃ F', fX9_leastOut N (M b F G n sw) (some (b + 32)) (nI i) = some (nI (AsC (EdC F i p) (okC p) (8 * p)).2, M b F' G n sw) ∧ Fr3 48 49 50 F F' := by
  have hp8 := hK.1
  have hfi : lX9_leastOut_2 N (some (b + 32)) (nI i) N 0 (M b F G n sw) = some (M b (uR F 48 0 64 (-9)) G n sw) := e_lo2 N 0 F (by omega) (by omega)
  obtain ⟨F', q1, q2⟩ := e_lo26 (N := N) (b := b) (G := G) (n := n) (sw := sw) hi hK hN N 0 (uR F 48 0 64 (-9)) (by omega) (by omega) (Lo_0 (fun k j h1 h2 h3 => if_neg (fun z => h1 z.1)) (fun k hk => if_pos ⟨rfl, by omega, hk⟩))
  refine ⟨F', ?_, q2.1⟩
  unfold fX9_leastOut
  rw [K_32, hfi]
  simp only [Option.bind_some]
  have e0 : nI (AsC (EdC F i p) (okC p) (8 * 0)).2 = 0 := rfl
  rw [e0, show nI 0 = (0 : Int32) from rfl] at q1
  rw [q1]
  rfl
end LO
theorem st_cracks (b : Nat) : St_cracks b (b + 32) (Inv b (b + 32)) := by
  rintro S ⟨-, F, G, n, sw, rfl, hR⟩ a1 a2
  obtain ⟨r1, r2, r3, r4, r5, r6, r7, r8, r9, r10, r11, r12, r13⟩ := id hR
  by_cases hx : rg n a1
  · obtain ⟨i, hi, rfl⟩ := (rg_iff (by omega)).mp hx
    obtain ⟨p, l, f, t, ⟨p1, p8, l9, -, t40⟩, c1, c2, c3, c4, c5, c6, c7, c8, c9⟩ := r8 i hi
    have hi16 : i < 16 := by omega
    have hK : CK F i p := ⟨p8, c1, c2, c9, fun g g1 g8 => ⟨(r5 g g1 g8).1, (r5 g g1 g8).2.1⟩, r6⟩
    by_cases h : (0 : Int32) ≤ a2 ∧ a2 ≤ 1
    · obtain ⟨k, -, hk, rfl⟩ := rng 0 1 rfl rfl (by decide) (by decide) h
      rcases (show k = 0 ∨ k = 1 by omega) with rfl | rfl
      · rw [show nI 0 = (0 : Int32) from rfl] at h ⊢
        refine ⟨srI (fun y => srI (fun x => bI (x + 1 < p ∧ hC F i p x y = true) + bI (y + 1 < p ∧ vC F i p x y = true)) 0 p) 0 p, M b F G n sw, M b F G n sw, ?_, ?_, rfl, F, G, n, sw, rfl, hR⟩
        · unfold fX8_cracks
          simp only [Option.bind_some, bI_0, Decidable.not_not, nm, b2, zr, e_isWithin, e_in, e_isGlass8, e_isGlass9, reduceIte, not_false_eq_true, not_true_eq_false, if_true, if_false, and_self, z01, z10, c00, c11, true_and, and_true, R_0_0, R_0_1, R_0_3, R_0_4, R_0_5, R_0_6, R_0_7, R_0_8, R_0_9, R_1_0, R_1_1, R_1_2, R_1_3, R_7_0, R_7_1, R_10_0, R_10_1, R_10_2, R_14_0, R_16_0, R_18_0, R_18_1, R_18_2, R_18_4, R_18_5, R_18_6, R_18_8, R_18_9, R_27_0, R_27_1, R_27_2, R_32_0, R_32_1, R_32_3, R_32_4, R_32_5, R_32_6, R_32_7, R_32_11, R_32_12, R_32_13, R_32_14, R_32_17, R_32_20, R_32_21, R_32_22, R_32_24, R_32_25, R_32_26, R_32_27, R_32_28, R_32_29, R_32_30, R_32_31, I_0_2, I_1_4, I_7_2, I_14_1, I_16_1, I_18_3, I_18_7, I_27_3, I_27_4, I_31_0, I_31_1, I_31_2, I_31_3, I_31_4, I_31_5, I_31_6, I_32_2, I_32_8, I_32_9, I_32_10, I_32_15, I_32_16, I_32_18, I_32_19, J_0_10, J_32_23, P_0_2, P_0_10, P_1_4, P_7_2, P_14_1, P_16_1, P_18_3, P_18_7, P_27_3, P_27_4, P_31_0, P_31_1, P_31_2, P_31_3, P_31_4, P_31_5, P_31_6, P_32_2, P_32_8, P_32_9, P_32_10, P_32_15, P_32_16, P_32_18, P_32_19, P_32_23, K_0, K_1, K_7, K_10, K_14, K_16, K_18, K_27, K_31, K_32, e_find_y r1 r2 hi, eq_true h, Rc_0 hi, e_pairs (N := NF) hi hK (by decide), reduceCtorEq]
        · unfold fX9_cracks
          simp only [Option.bind_some, bI_0, Decidable.not_not, nm, b2, zr, e_isWithin, e_in, e_isGlass8, e_isGlass9, reduceIte, not_false_eq_true, not_true_eq_false, if_true, if_false, and_self, z01, z10, c00, c11, true_and, and_true, R_0_0, R_0_1, R_0_3, R_0_4, R_0_5, R_0_6, R_0_7, R_0_8, R_0_9, R_1_0, R_1_1, R_1_2, R_1_3, R_7_0, R_7_1, R_10_0, R_10_1, R_10_2, R_14_0, R_16_0, R_18_0, R_18_1, R_18_2, R_18_4, R_18_5, R_18_6, R_18_8, R_18_9, R_27_0, R_27_1, R_27_2, R_32_0, R_32_1, R_32_3, R_32_4, R_32_5, R_32_6, R_32_7, R_32_11, R_32_12, R_32_13, R_32_14, R_32_17, R_32_20, R_32_21, R_32_22, R_32_24, R_32_25, R_32_26, R_32_27, R_32_28, R_32_29, R_32_30, R_32_31, I_0_2, I_1_4, I_7_2, I_14_1, I_16_1, I_18_3, I_18_7, I_27_3, I_27_4, I_31_0, I_31_1, I_31_2, I_31_3, I_31_4, I_31_5, I_31_6, I_32_2, I_32_8, I_32_9, I_32_10, I_32_15, I_32_16, I_32_18, I_32_19, J_0_10, J_32_23, P_0_2, P_0_10, P_1_4, P_7_2, P_14_1, P_16_1, P_18_3, P_18_7, P_27_3, P_27_4, P_31_0, P_31_1, P_31_2, P_31_3, P_31_4, P_31_5, P_31_6, P_32_2, P_32_8, P_32_9, P_32_10, P_32_15, P_32_16, P_32_18, P_32_19, P_32_23, K_0, K_1, K_7, K_10, K_14, K_16, K_18, K_27, K_31, K_32, e_isCane r1 r3, eq_true hx, eq_true h, e_cracksOf (N := NF) hi16 hK (by decide), pair_eq]
      · rw [show nI 1 = (1 : Int32) from rfl] at h ⊢
        obtain ⟨F1, q1, q2⟩ := e_leastOut8 (N := NF) (b := b) (G := G) (n := n) (sw := sw) hi hK (by decide)
        obtain ⟨k1, k2⟩ := CK_c (F := F1) (fun k j h => q2 k j (by omega) (by omega) (by omega)) hK
        obtain ⟨F2, q3, q4⟩ := e_leastOut9 (N := NF) (b := b) (G := G) (n := n) (sw := sw) hi16 k1 (by decide)
        rw [EdC_c k2] at q3
        have g3 : F1 32 2 = nI n := (q2 _ _ (by omega) (by omega) (by omega)).trans r3
        have fr : ∀ k j, k ≠ 11 → k ≠ 12 → k ≠ 13 → k ≠ 48 → k ≠ 49 → k ≠ 50 → F2 k j = F k j := fun k j z1 z2 z3 z4 z5 z6 => (q4 k j z4 z5 z6).trans (q2 k j z1 z2 z3)
        refine ⟨nI (AsC (EdC F i p) (okC p) (8 * p)).2, M b F1 G n sw, M b F2 G n sw, ?_, ?_, rfl, F2, G, n, sw, rfl, ?_⟩
        · unfold fX8_cracks
          simp only [Option.bind_some, bI_0, Decidable.not_not, nm, b2, zr, e_isWithin, e_in, e_isGlass8, e_isGlass9, reduceIte, not_false_eq_true, not_true_eq_false, if_true, if_false, and_self, z01, z10, c00, c11, true_and, and_true, R_0_0, R_0_1, R_0_3, R_0_4, R_0_5, R_0_6, R_0_7, R_0_8, R_0_9, R_1_0, R_1_1, R_1_2, R_1_3, R_7_0, R_7_1, R_10_0, R_10_1, R_10_2, R_14_0, R_16_0, R_18_0, R_18_1, R_18_2, R_18_4, R_18_5, R_18_6, R_18_8, R_18_9, R_27_0, R_27_1, R_27_2, R_32_0, R_32_1, R_32_3, R_32_4, R_32_5, R_32_6, R_32_7, R_32_11, R_32_12, R_32_13, R_32_14, R_32_17, R_32_20, R_32_21, R_32_22, R_32_24, R_32_25, R_32_26, R_32_27, R_32_28, R_32_29, R_32_30, R_32_31, I_0_2, I_1_4, I_7_2, I_14_1, I_16_1, I_18_3, I_18_7, I_27_3, I_27_4, I_31_0, I_31_1, I_31_2, I_31_3, I_31_4, I_31_5, I_31_6, I_32_2, I_32_8, I_32_9, I_32_10, I_32_15, I_32_16, I_32_18, I_32_19, J_0_10, J_32_23, P_0_2, P_0_10, P_1_4, P_7_2, P_14_1, P_16_1, P_18_3, P_18_7, P_27_3, P_27_4, P_31_0, P_31_1, P_31_2, P_31_3, P_31_4, P_31_5, P_31_6, P_32_2, P_32_8, P_32_9, P_32_10, P_32_15, P_32_16, P_32_18, P_32_19, P_32_23, K_0, K_1, K_7, K_10, K_14, K_16, K_18, K_27, K_31, K_32, e_find_y r1 r2 hi, eq_true h, Rc_0 hi, q1, reduceCtorEq]
        · unfold fX9_cracks
          simp only [Option.bind_some, bI_0, Decidable.not_not, nm, b2, zr, e_isWithin, e_in, e_isGlass8, e_isGlass9, reduceIte, not_false_eq_true, not_true_eq_false, if_true, if_false, and_self, z01, z10, c00, c11, true_and, and_true, R_0_0, R_0_1, R_0_3, R_0_4, R_0_5, R_0_6, R_0_7, R_0_8, R_0_9, R_1_0, R_1_1, R_1_2, R_1_3, R_7_0, R_7_1, R_10_0, R_10_1, R_10_2, R_14_0, R_16_0, R_18_0, R_18_1, R_18_2, R_18_4, R_18_5, R_18_6, R_18_8, R_18_9, R_27_0, R_27_1, R_27_2, R_32_0, R_32_1, R_32_3, R_32_4, R_32_5, R_32_6, R_32_7, R_32_11, R_32_12, R_32_13, R_32_14, R_32_17, R_32_20, R_32_21, R_32_22, R_32_24, R_32_25, R_32_26, R_32_27, R_32_28, R_32_29, R_32_30, R_32_31, I_0_2, I_1_4, I_7_2, I_14_1, I_16_1, I_18_3, I_18_7, I_27_3, I_27_4, I_31_0, I_31_1, I_31_2, I_31_3, I_31_4, I_31_5, I_31_6, I_32_2, I_32_8, I_32_9, I_32_10, I_32_15, I_32_16, I_32_18, I_32_19, J_0_10, J_32_23, P_0_2, P_0_10, P_1_4, P_7_2, P_14_1, P_16_1, P_18_3, P_18_7, P_27_3, P_27_4, P_31_0, P_31_1, P_31_2, P_31_3, P_31_4, P_31_5, P_31_6, P_32_2, P_32_8, P_32_9, P_32_10, P_32_15, P_32_16, P_32_18, P_32_19, P_32_23, K_0, K_1, K_7, K_10, K_14, K_16, K_18, K_27, K_31, K_32, e_isCane r1 g3, eq_true hx, eq_true h, q3]
        · exact ⟨r1, by rw [fr _ _ (by omega) (by omega) (by omega) (by omega) (by omega) (by omega)]; exact r2, by rw [fr _ _ (by omega) (by omega) (by omega) (by omega) (by omega) (by omega)]; exact r3, r4, RGl_c (fun k j h => fr _ _ (by omega) (by omega) (by omega) (by omega) (by omega) (by omega)) (fun _ _ _ => rfl) r5, RTol_c (fun k j h => fr _ _ (by omega) (by omega) (by omega) (by omega) (by omega) (by omega)) r6, RTab_c (fun k j h => fr _ _ (by omega) (by omega) (by omega) (by omega) (by omega) (by omega)) r7, fun i' hi' => RCane_c (fun k j h => fr _ _ (by omega) (by omega) (by omega) (by omega) (by omega) (by omega)) (r8 i' hi'), RWish_c (fun k j h => fr _ _ (by omega) (by omega) (by omega) (by omega) (by omega) (by omega)) r9, RSlice_c (fun k j h => fr _ _ (by omega) (by omega) (by omega) (by omega) (by omega) (by omega)) r10, ROrd_c (fun k j h => fr _ _ (by omega) (by omega) (by omega) (by omega) (by omega) (by omega)) r11, RWgh_c (fun k j h => fr _ _ (by omega) (by omega) (by omega) (by omega) (by omega) (by omega)) r12, RBest_c (fun k j h => fr _ _ (by omega) (by omega) (by omega) (by omega) (by omega) (by omega)) r13⟩
    · refine ⟨-1, M b F G n sw, M b F G n sw, ?_, ?_, rfl, F, G, n, sw, rfl, hR⟩
      · unfold fX8_cracks
        simp only [Option.bind_some, bI_0, Decidable.not_not, nm, b2, zr, e_isWithin, e_in, e_isGlass8, e_isGlass9, reduceIte, not_false_eq_true, not_true_eq_false, if_true, if_false, and_self, z01, z10, c00, c11, true_and, and_true, R_0_0, R_0_1, R_0_3, R_0_4, R_0_5, R_0_6, R_0_7, R_0_8, R_0_9, R_1_0, R_1_1, R_1_2, R_1_3, R_7_0, R_7_1, R_10_0, R_10_1, R_10_2, R_14_0, R_16_0, R_18_0, R_18_1, R_18_2, R_18_4, R_18_5, R_18_6, R_18_8, R_18_9, R_27_0, R_27_1, R_27_2, R_32_0, R_32_1, R_32_3, R_32_4, R_32_5, R_32_6, R_32_7, R_32_11, R_32_12, R_32_13, R_32_14, R_32_17, R_32_20, R_32_21, R_32_22, R_32_24, R_32_25, R_32_26, R_32_27, R_32_28, R_32_29, R_32_30, R_32_31, I_0_2, I_1_4, I_7_2, I_14_1, I_16_1, I_18_3, I_18_7, I_27_3, I_27_4, I_31_0, I_31_1, I_31_2, I_31_3, I_31_4, I_31_5, I_31_6, I_32_2, I_32_8, I_32_9, I_32_10, I_32_15, I_32_16, I_32_18, I_32_19, J_0_10, J_32_23, P_0_2, P_0_10, P_1_4, P_7_2, P_14_1, P_16_1, P_18_3, P_18_7, P_27_3, P_27_4, P_31_0, P_31_1, P_31_2, P_31_3, P_31_4, P_31_5, P_31_6, P_32_2, P_32_8, P_32_9, P_32_10, P_32_15, P_32_16, P_32_18, P_32_19, P_32_23, K_0, K_1, K_7, K_10, K_14, K_16, K_18, K_27, K_31, K_32, e_find_y r1 r2 hi, eq_false h, reduceCtorEq]
      · unfold fX9_cracks
        simp only [Option.bind_some, bI_0, Decidable.not_not, nm, b2, zr, e_isWithin, e_in, e_isGlass8, e_isGlass9, reduceIte, not_false_eq_true, not_true_eq_false, if_true, if_false, and_self, z01, z10, c00, c11, true_and, and_true, R_0_0, R_0_1, R_0_3, R_0_4, R_0_5, R_0_6, R_0_7, R_0_8, R_0_9, R_1_0, R_1_1, R_1_2, R_1_3, R_7_0, R_7_1, R_10_0, R_10_1, R_10_2, R_14_0, R_16_0, R_18_0, R_18_1, R_18_2, R_18_4, R_18_5, R_18_6, R_18_8, R_18_9, R_27_0, R_27_1, R_27_2, R_32_0, R_32_1, R_32_3, R_32_4, R_32_5, R_32_6, R_32_7, R_32_11, R_32_12, R_32_13, R_32_14, R_32_17, R_32_20, R_32_21, R_32_22, R_32_24, R_32_25, R_32_26, R_32_27, R_32_28, R_32_29, R_32_30, R_32_31, I_0_2, I_1_4, I_7_2, I_14_1, I_16_1, I_18_3, I_18_7, I_27_3, I_27_4, I_31_0, I_31_1, I_31_2, I_31_3, I_31_4, I_31_5, I_31_6, I_32_2, I_32_8, I_32_9, I_32_10, I_32_15, I_32_16, I_32_18, I_32_19, J_0_10, J_32_23, P_0_2, P_0_10, P_1_4, P_7_2, P_14_1, P_16_1, P_18_3, P_18_7, P_27_3, P_27_4, P_31_0, P_31_1, P_31_2, P_31_3, P_31_4, P_31_5, P_31_6, P_32_2, P_32_8, P_32_9, P_32_10, P_32_15, P_32_16, P_32_18, P_32_19, P_32_23, K_0, K_1, K_7, K_10, K_14, K_16, K_18, K_27, K_31, K_32, e_isCane r1 r3, eq_true hx, eq_false h]
  · refine ⟨-1, M b F G n sw, M b F G n sw, ?_, ?_, rfl, F, G, n, sw, rfl, hR⟩
    · unfold fX8_cracks
      simp only [Option.bind_some, bI_0, Decidable.not_not, nm, b2, zr, e_isWithin, e_in, e_isGlass8, e_isGlass9, reduceIte, not_false_eq_true, not_true_eq_false, if_true, if_false, and_self, z01, z10, c00, c11, true_and, and_true, R_0_0, R_0_1, R_0_3, R_0_4, R_0_5, R_0_6, R_0_7, R_0_8, R_0_9, R_1_0, R_1_1, R_1_2, R_1_3, R_7_0, R_7_1, R_10_0, R_10_1, R_10_2, R_14_0, R_16_0, R_18_0, R_18_1, R_18_2, R_18_4, R_18_5, R_18_6, R_18_8, R_18_9, R_27_0, R_27_1, R_27_2, R_32_0, R_32_1, R_32_3, R_32_4, R_32_5, R_32_6, R_32_7, R_32_11, R_32_12, R_32_13, R_32_14, R_32_17, R_32_20, R_32_21, R_32_22, R_32_24, R_32_25, R_32_26, R_32_27, R_32_28, R_32_29, R_32_30, R_32_31, I_0_2, I_1_4, I_7_2, I_14_1, I_16_1, I_18_3, I_18_7, I_27_3, I_27_4, I_31_0, I_31_1, I_31_2, I_31_3, I_31_4, I_31_5, I_31_6, I_32_2, I_32_8, I_32_9, I_32_10, I_32_15, I_32_16, I_32_18, I_32_19, J_0_10, J_32_23, P_0_2, P_0_10, P_1_4, P_7_2, P_14_1, P_16_1, P_18_3, P_18_7, P_27_3, P_27_4, P_31_0, P_31_1, P_31_2, P_31_3, P_31_4, P_31_5, P_31_6, P_32_2, P_32_8, P_32_9, P_32_10, P_32_15, P_32_16, P_32_18, P_32_19, P_32_23, K_0, K_1, K_7, K_10, K_14, K_16, K_18, K_27, K_31, K_32, e_find_n r1 r2 hx]
    · unfold fX9_cracks
      simp only [Option.bind_some, bI_0, Decidable.not_not, nm, b2, zr, e_isWithin, e_in, e_isGlass8, e_isGlass9, reduceIte, not_false_eq_true, not_true_eq_false, if_true, if_false, and_self, z01, z10, c00, c11, true_and, and_true, R_0_0, R_0_1, R_0_3, R_0_4, R_0_5, R_0_6, R_0_7, R_0_8, R_0_9, R_1_0, R_1_1, R_1_2, R_1_3, R_7_0, R_7_1, R_10_0, R_10_1, R_10_2, R_14_0, R_16_0, R_18_0, R_18_1, R_18_2, R_18_4, R_18_5, R_18_6, R_18_8, R_18_9, R_27_0, R_27_1, R_27_2, R_32_0, R_32_1, R_32_3, R_32_4, R_32_5, R_32_6, R_32_7, R_32_11, R_32_12, R_32_13, R_32_14, R_32_17, R_32_20, R_32_21, R_32_22, R_32_24, R_32_25, R_32_26, R_32_27, R_32_28, R_32_29, R_32_30, R_32_31, I_0_2, I_1_4, I_7_2, I_14_1, I_16_1, I_18_3, I_18_7, I_27_3, I_27_4, I_31_0, I_31_1, I_31_2, I_31_3, I_31_4, I_31_5, I_31_6, I_32_2, I_32_8, I_32_9, I_32_10, I_32_15, I_32_16, I_32_18, I_32_19, J_0_10, J_32_23, P_0_2, P_0_10, P_1_4, P_7_2, P_14_1, P_16_1, P_18_3, P_18_7, P_27_3, P_27_4, P_31_0, P_31_1, P_31_2, P_31_3, P_31_4, P_31_5, P_31_6, P_32_2, P_32_8, P_32_9, P_32_10, P_32_15, P_32_16, P_32_18, P_32_19, P_32_23, K_0, K_1, K_7, K_10, K_14, K_16, K_18, K_27, K_31, K_32, e_isCane r1 r3, eq_false hx]
