/-! ===== 470: what cracks; pairs that crack ===== -/
def shN (F : mI) (a : Nat) : Nat := (F 33 a).toNatClampNeg
def tolN (F : mI) : Nat := (F 32 15).toNatClampNeg
def crN (F : mI) (a c : Nat) : Bool := decide (tolN F + shN F c < shN F a ∨ tolN F + shN F a < shN F c)
theorem cr_sym (F : mI) (a c : Nat) : crN F a c = crN F c a := by
  unfold crN
  rw [Bool.eq_iff_iff]
  simp only [decide_eq_true_eq]
  omega
def CK (F : mI) (i p : Nat) : Prop := p ≤ 8 ∧ F (57 + 3 * i) 1 = nI p ∧ F 35 i = nI p ∧ (∀ x y, x < p → y < p → F (58 + 3 * i) (8 * y + x) = F 39 (64 * i + 8 * y + x) ∧ ∃ g, 1 ≤ g ∧ g ≤ 8 ∧ F 39 (64 * i + 8 * y + x) = nI g) ∧ (∀ g, 1 ≤ g → g ≤ 8 → F 2 g = F 33 g ∧ ∃ s, s ≤ 99 ∧ F 33 g = nI s) ∧ RTol F
def glN (F : mI) (i j : Nat) : Nat := (F (58 + 3 * i) j).toNatClampNeg
theorem CK_g {F : mI} {i p x y : Nat} (h : CK F i p) (hx : x < p) (hy : y < p) : F (58 + 3 * i) (8 * y + x) = nI (glN F i (8 * y + x)) ∧ F 39 (64 * i + 8 * y + x) = nI (glN F i (8 * y + x)) ∧ 1 ≤ glN F i (8 * y + x) ∧ glN F i (8 * y + x) ≤ 8 := by
  obtain ⟨e, g, g1, g8, eg⟩ := h.2.2.2.1 x y hx hy
  have e2 : glN F i (8 * y + x) = g := by
    unfold glN
    rw [e, eg, nI_clamp (by omega)]
  rw [e2, e, eg]
  exact ⟨rfl, rfl, g1, g8⟩
theorem sub_lt_i {s t l : Nat} (hs : s ≤ 99) (ht : t ≤ 99) (hl : l ≤ 99) : (nI l < nI s - nI t ↔ l + t < s) ∧ (nI s - nI t ≤ nI l ↔ s ≤ l + t) ∧ (0 ≤ nI s - nI t ↔ t ≤ s) := by
  have h1 : (nI s - nI t).toInt = (s : Int) - t := pk_sub_toInt (by omega) (by omega)
  have h2 : (nI l).toInt = l := nI_toInt (by omega)
  rw [Int32.lt_iff_toInt_lt, Int32.le_iff_toInt_le, Int32.le_iff_toInt_le, h1, h2, show (0 : Int32).toInt = 0 from rfl]
  omega
section CR
variable {b : Nat} {F : mI} {G : mJ} {n : Nat} {sw : Bool} {N : Nat} {i p : Nat}
theorem e_crk9 {a c : Nat} (h : CK F i p) (a1 : 1 ≤ a) (a8 : a ≤ 8) (c1 : 1 ≤ c) (c8 : c ≤ 8) : fX9_doCrack N (M b F G n sw) (some (b + 32)) (nI a) (nI c) = some (bI (crN F a c = true)) := by
  obtain ⟨-, -, -, -, hg, -, tl, t9, et⟩ := h
  obtain ⟨-, s, s9, es⟩ := hg a a1 a8
  obtain ⟨-, t, u9, eu⟩ := hg c c1 c8
  obtain ⟨q1, -, -⟩ := sub_lt_i s9 u9 t9
  obtain ⟨-, q2, -⟩ := sub_lt_i u9 s9 t9
  have hc : crN F a c = true ↔ (tl + t < s ∨ tl + s < t) := by
    unfold crN tolN shN
    rw [es, eu, et, nI_clamp (by omega), nI_clamp (by omega), nI_clamp (by omega), decide_eq_true_eq]
  unfold fX9_doCrack
  simp only [K_32, R_32_0, Option.bind_some, L_33 (show a < 9 by omega), L_33 (show c < 9 by omega), es, eu, nm, I_32_15, et]
  rw [if_neg (nI_nle (by omega) (by omega)), if_neg (nI_nle (by omega) (by omega)), Int32.neg_sub]
  simp only [q1, q2]
  by_cases z1 : tl + t < s
  · rw [if_pos z1, bI_t (hc.mpr (Or.inl z1))]
  · rw [if_neg z1]
    by_cases z2 : t ≤ tl + s
    · rw [if_pos z2, bI_f (fun z => by have := hc.mp z; omega)]
    · rw [if_neg z2, bI_t (hc.mpr (Or.inr (by omega)))]
theorem e_crk8 {a c : Nat} (h : CK F i p) (a1 : 1 ≤ a) (a8 : a ≤ 8) (c1 : 1 ≤ c) (c8 : c ≤ 8) : fX3_crackEachOther N (M b F G n sw) (some (b + 1)) (nI a) (nI c) = some (bI (crN F a c = true)) := by
  obtain ⟨-, -, -, -, hg, ht, tl, t9, et⟩ := h
  obtain ⟨es', s, s9, es⟩ := hg a a1 a8
  obtain ⟨eu', t, u9, eu⟩ := hg c c1 c8
  obtain ⟨q1, q2, q3⟩ := sub_lt_i s9 u9 t9
  obtain ⟨-, q4, -⟩ := sub_lt_i u9 s9 t9
  have hc : crN F a c = true ↔ (tl + t < s ∨ tl + s < t) := by
    unfold crN tolN shN
    rw [es, eu, et, nI_clamp (by omega), nI_clamp (by omega), nI_clamp (by omega), decide_eq_true_eq]
  have ga : ((1 : Int32) ≤ nI a ∧ nI a ≤ 8) = True := eq_true (rngT (a := 1) (c := 8) (by omega) (by decide) a1 a8)
  have gc : ((1 : Int32) ≤ nI c ∧ nI c ≤ 8) = True := eq_true (rngT (a := 1) (c := 8) (by omega) (by decide) c1 c8)
  unfold fX3_crackEachOther
  simp only [Option.bind_some, bI_0, Decidable.not_not, nm, b2, zr, e_isWithin, e_in, e_isGlass8, e_isGlass9, reduceIte, not_false_eq_true, not_true_eq_false, if_true, if_false, and_self, z01, z10, c00, c11, true_and, and_true, K_1, ga, gc, R_1_0, L_2 (show a < 9 by omega), L_2 (show c < 9 by omega), es', eu', es, eu, I_1_4, ht, et]
  have hm : mabs (nI s - nI t) ≤ nI tl ↔ ¬ (tl + t < s ∨ tl + s < t) := by
    unfold mabs
    by_cases z : t ≤ s
    · rw [if_pos (q3.mpr z), q2]
      omega
    · rw [if_neg (fun w => z (q3.mp w)), Int32.zero_sub, Int32.neg_sub, q4]
      omega
  by_cases z : tl + t < s ∨ tl + s < t
  · rw [if_neg (fun w => (hm.mp w) z), bI_t (hc.mpr z)]
  · rw [if_pos (hm.mpr z), bI_f (fun w => z (hc.mp w))]
theorem e_crk0 {a : Nat} (a1 : 1 ≤ a) (a8 : a ≤ 8) : fX3_crackEachOther N (M b F G n sw) (some (b + 1)) (nI a) 0 = some 0 := by
  have ga : ((1 : Int32) ≤ nI a ∧ nI a ≤ 8) = True := eq_true (rngT (a := 1) (c := 8) (by omega) (by decide) a1 a8)
  unfold fX3_crackEachOther
  simp only [Option.bind_some, bI_0, Decidable.not_not, nm, b2, zr, e_isWithin, e_in, e_isGlass8, e_isGlass9, reduceIte, not_false_eq_true, not_true_eq_false, if_true, if_false, and_self, z01, z10, c00, c11, true_and, and_true, K_1, ga, show ((1 : Int32) ≤ 0 ∧ (0 : Int32) ≤ 8) = False from eq_false (by decide)]
theorem srI_last (f : Nat → Int32) : ∀ (d i : Nat), srI f i (d + 1) = srI f i d + f (i + d)
  | 0, i => by simp [srI]
  | d + 1, i => by
    show f i + srI f (i + 1) (d + 1) = f i + srI f (i + 1) d + f (i + (d + 1))
    rw [srI_last f d (i + 1), ← Int32.add_assoc, show i + 1 + d = i + (d + 1) by omega]
theorem srI_off (f : Nat → Int32) : ∀ (d i : Nat), srI f (i + 1) d = srI (fun j => f (j + 1)) i d
  | 0, i => rfl
  | d + 1, i => by
    show f (i + 1) + srI f (i + 1 + 1) d = f (i + 1) + srI (fun j => f (j + 1)) (i + 1) d
    rw [srI_off f d (i + 1)]
theorem sr_shift (c c' : Nat → Bool) (p : Nat) (h : ∀ x, x + 1 < p → c' (x + 1) = c x) : srI (fun x => bI (x + 1 < p ∧ c x = true)) 0 p = srI (fun x => bI (0 < x ∧ c' x = true)) 0 p := by
  cases p with
  | zero => rfl
  | succ p =>
    rw [srI_last]
    show srI (fun x => bI (x + 1 < p + 1 ∧ c x = true)) 0 p + bI (0 + p + 1 < p + 1 ∧ c (0 + p) = true) = bI (0 < 0 ∧ c' 0 = true) + srI (fun x => bI (0 < x ∧ c' x = true)) (0 + 1) p
    rw [srI_off, bI_f (fun z => by omega), bI_f (fun z => by omega), Int32.add_zero, Int32.zero_add]
    refine srI_congr p 0 (fun j _ hj => bI_c ?_)
    rw [h j (by omega)]
    constructor
    · exact fun z => ⟨by omega, z.2⟩
    · exact fun z => ⟨by omega, z.2⟩
def hC (F : mI) (i p x y : Nat) : Bool := crN F (glN F i (8 * y + x)) (glN F i (8 * y + (x + 1)))
def vC (F : mI) (i p x y : Nat) : Bool := crN F (glN F i (8 * y + x)) (glN F i (8 * (y + 1) + x))
def hR (F : mI) (i p x y : Nat) : Bool := crN F (glN F i (8 * y + x)) (glN F i (8 * y + (x - 1)))
def vR (F : mI) (i p x y : Nat) : Bool := crN F (glN F i (8 * y + x)) (glN F i (8 * (y - 1) + x))
theorem pair_eq (F : mI) (i p : Nat) : srI (fun y => srI (fun x => bI (x + 1 < p ∧ hC F i p x y = true) + bI (y + 1 < p ∧ vC F i p x y = true)) 0 p) 0 p = srI (fun y => srI (fun x => bI (0 < x ∧ hR F i p x y = true) + bI (0 < y ∧ vR F i p x y = true)) 0 p) 0 p := by
  have e1 : ∀ y, srI (fun x => bI (x + 1 < p ∧ hC F i p x y = true) + bI (y + 1 < p ∧ vC F i p x y = true)) 0 p = srI (fun x => bI (x + 1 < p ∧ hC F i p x y = true)) 0 p + srI (fun x => bI (y + 1 < p ∧ vC F i p x y = true)) 0 p := fun y => srI_add p 0
  have e2 : ∀ y, srI (fun x => bI (0 < x ∧ hR F i p x y = true) + bI (0 < y ∧ vR F i p x y = true)) 0 p = srI (fun x => bI (0 < x ∧ hR F i p x y = true)) 0 p + srI (fun x => bI (0 < y ∧ vR F i p x y = true)) 0 p := fun y => srI_add p 0
  simp only [e1, e2]
  rw [srI_add, srI_add]
  have e3 : srI (fun y => srI (fun x => bI (x + 1 < p ∧ hC F i p x y = true)) 0 p) 0 p = srI (fun y => srI (fun x => bI (0 < x ∧ hR F i p x y = true)) 0 p) 0 p := srI_congr p 0 (fun y _ _ => sr_shift (fun x => hC F i p x y) (fun x => hR F i p x y) p (fun x _ => by
    show crN F (glN F i (8 * y + (x + 1))) (glN F i (8 * y + (x + 1 - 1))) = crN F (glN F i (8 * y + x)) (glN F i (8 * y + (x + 1)))
    rw [cr_sym, Nat.add_sub_cancel]))
  have e4 : srI (fun y => srI (fun x => bI (y + 1 < p ∧ vC F i p x y = true)) 0 p) 0 p = srI (fun y => srI (fun x => bI (0 < y ∧ vR F i p x y = true)) 0 p) 0 p := by
    refine (srI_swap (f := fun x y => bI (y + 1 < p ∧ vC F i p x y = true)) 0 p p 0).trans (Eq.trans ?_ (srI_swap (f := fun x y => bI (0 < y ∧ vR F i p x y = true)) 0 p p 0).symm)
    exact srI_congr p 0 (fun x _ _ => sr_shift (fun y => vC F i p x y) (fun y => vR F i p x y) p (fun y _ => by
      show crN F (glN F i (8 * (y + 1) + x)) (glN F i (8 * (y + 1 - 1) + x)) = crN F (glN F i (8 * y + x)) (glN F i (8 * (y + 1) + x))
      rw [cr_sym, Nat.add_sub_cancel]))
  rw [e3, e4]
theorem e_atN {i p x y : Nat} (hi : i < n) (h : CK F i p) (hx : x < p) (hy : y < p) : fX5_at N (M b F G n sw) (some (b + (57 + 3 * i))) (nI x) (nI y) = some (nI (glN F i (8 * y + x))) := by
  rw [e_at_in (P_cane hi h.2.1 h.1) hx hy, (CK_g h hx hy).1]
theorem nrg {p : Nat} (hp : p < 2 ^ 31) : ¬ rg p (nI p) := fun z => absurd z.2 (nI_nlt (Nat.le_refl _) hp)
theorem e_p17 {y : Nat} (hi : i < n) (h : CK F i p) (hy : y < p) (hN : 20 ≤ N) (a : Int32) : lX2_pairs_17 N (M b F G n sw) (some (b + (57 + 3 * i))) (some (b + 1)) (nI y) N a 0 = some (a + srI (fun x => bI (x + 1 < p ∧ hC F i p x y = true) + bI (y + 1 < p ∧ vC F i p x y = true)) 0 p) := by
  have hp8 := h.1
  have e := lpS (fun m a c => lX2_pairs_17 N (M b F G n sw) (some (b + (57 + 3 * i))) (some (b + 1)) (nI y) m a c) (fun x => bI (x + 1 < p ∧ hC F i p x y = true) + bI (y + 1 < p ∧ vC F i p x y = true)) p (fun a => a) ?_ ?_ N 0 a (by omega) (by omega)
  · exact e
  · intro m x a hx
    obtain ⟨-, -, g1, g8⟩ := CK_g h hx hy
    have k1 : ∃ q, fX5_at N (M b F G n sw) (some (b + (57 + 3 * i))) (nI (x + 1)) (nI y) = some q ∧ fX3_crackEachOther N (M b F G n sw) (some (b + 1)) (nI (glN F i (8 * y + x))) q = some (bI (x + 1 < p ∧ hC F i p x y = true)) := by
      by_cases z : x + 1 < p
      · obtain ⟨-, -, d1, d8⟩ := CK_g h z hy
        refine ⟨_, e_atN hi h z hy, ?_⟩
        rw [e_crk8 h g1 g8 d1 d8]
        exact congrArg some (bI_c ⟨fun w => ⟨z, w⟩, fun w => w.2⟩)
      · refine ⟨0, e_at_out (P_cane hi h.2.1 h.1) (fun w => ?_), ?_⟩
        · rw [show x + 1 = p by omega] at w
          exact nrg (by omega) w.1
        · rw [e_crk0 g1 g8, bI_f (fun w => z w.1)]
    have k2 : ∃ q, fX5_at N (M b F G n sw) (some (b + (57 + 3 * i))) (nI x) (nI (y + 1)) = some q ∧ fX3_crackEachOther N (M b F G n sw) (some (b + 1)) (nI (glN F i (8 * y + x))) q = some (bI (y + 1 < p ∧ vC F i p x y = true)) := by
      by_cases z : y + 1 < p
      · obtain ⟨-, -, d1, d8⟩ := CK_g h hx z
        refine ⟨_, e_atN hi h hx z, ?_⟩
        rw [e_crk8 h g1 g8 d1 d8]
        exact congrArg some (bI_c ⟨fun w => ⟨z, w⟩, fun w => w.2⟩)
      · refine ⟨0, e_at_out (P_cane hi h.2.1 h.1) (fun w => ?_), ?_⟩
        · rw [show y + 1 = p by omega] at w
          exact nrg (by omega) w.2
        · rw [e_crk0 g1 g8, bI_f (fun w => z w.1)]
    obtain ⟨q1, k1, k1'⟩ := k1
    obtain ⟨q2, k2, k2'⟩ := k2
    show lX2_pairs_17 N (M b F G n sw) (some (b + (57 + 3 * i))) (some (b + 1)) (nI y) (m + 1) a (nI x) = _
    rw [lX2_pairs_17, Ip_1 hi, h.2.1]
    simp only [Option.bind_some]
    rw [if_neg (nI_ge hx (by omega)), e_atN hi h hx hy]
    simp only [Option.bind_some, nI_1, k1, k1', k2, k2', nm]
    by_cases z1 : x + 1 < p ∧ hC F i p x y = true
    · by_cases z2 : y + 1 < p ∧ vC F i p x y = true
      · rw [bI_t z1, bI_t z2, if_neg z10, if_neg z10, Int32.add_assoc]
      · rw [bI_t z1, bI_f z2, if_neg z10, if_pos rfl, Int32.add_zero]
    · by_cases z2 : y + 1 < p ∧ vC F i p x y = true
      · rw [bI_f z1, bI_t z2, if_pos rfl, if_neg z10, Int32.zero_add]
      · rw [bI_f z1, bI_f z2, if_pos rfl, if_pos rfl, Int32.add_zero, Int32.add_zero]
  · intro m a
    show lX2_pairs_17 N (M b F G n sw) (some (b + (57 + 3 * i))) (some (b + 1)) (nI y) (m + 1) a (nI p) = _
    rw [lX2_pairs_17, Ip_1 hi, h.2.1]
    simp only [Option.bind_some]
    rw [if_pos (nI_le (Nat.le_refl _) (by omega))]
theorem e_pairs (hi : i < n) (h : CK F i p) (hN : 20 ≤ N) : fX2_pairs N (M b F G n sw) (some (b + 10)) (some (b + (57 + 3 * i))) (some (b + 1)) = some (srI (fun y => srI (fun x => bI (x + 1 < p ∧ hC F i p x y = true) + bI (y + 1 < p ∧ vC F i p x y = true)) 0 p) 0 p) := by
  have hp8 := h.1
  have e := lpS (fun m a c => lX2_pairs_5 N (M b F G n sw) (some (b + (57 + 3 * i))) (some (b + 1)) m a c) (fun y => srI (fun x => bI (x + 1 < p ∧ hC F i p x y = true) + bI (y + 1 < p ∧ vC F i p x y = true)) 0 p) p (fun a => a) ?_ ?_ N 0 0 (by omega) (by omega)
  · unfold fX2_pairs
    rw [K_10, show (0 : Int32) = nI 0 from rfl]
    rw [show (0 : Int32) = nI 0 from rfl] at e
    rw [e]
    simp only [Option.bind_some, Nat.sub_zero]
    rw [show nI 0 = (0 : Int32) from rfl, Int32.zero_add]
  · intro m y a hy
    show lX2_pairs_5 N (M b F G n sw) (some (b + (57 + 3 * i))) (some (b + 1)) (m + 1) a (nI y) = _
    rw [lX2_pairs_5, Ip_1 hi, h.2.1]
    simp only [Option.bind_some]
    rw [if_neg (nI_ge hy (by omega)), e_p17 hi h hy hN]
    simp only [Option.bind_some, nm, nI_1]
  · intro m a
    show lX2_pairs_5 N (M b F G n sw) (some (b + (57 + 3 * i))) (some (b + 1)) (m + 1) a (nI p) = _
    rw [lX2_pairs_5, Ip_1 hi, h.2.1]
    simp only [Option.bind_some]
    rw [if_pos (nI_le (Nat.le_refl _) (by omega))]
theorem e_at9N {x y : Nat} (hi : i < 16) (h : CK F i p) (hx : x < p) (hy : y < p) : fX9_at N (M b F G n sw) (some (b + 32)) (nI i) (nI x) (nI y) = some (nI (glN F i (8 * y + x))) := by
  have := h.1
  rw [e_at9 (by omega), (CK_g h hx hy).2.1]
theorem e_c17 {y : Nat} (hi : i < 16) (h : CK F i p) (hy : y < p) (hN : 20 ≤ N) (a : Int32) : lX9_cracksOf_17 N (M b F G n sw) (some (b + 32)) (nI i) (nI y) N a 0 = some (a + srI (fun x => bI (0 < x ∧ hR F i p x y = true) + bI (0 < y ∧ vR F i p x y = true)) 0 p) := by
  have hp8 := h.1
  have e := lpS (fun m a c => lX9_cracksOf_17 N (M b F G n sw) (some (b + 32)) (nI i) (nI y) m a c) (fun x => bI (0 < x ∧ hR F i p x y = true) + bI (0 < y ∧ vR F i p x y = true)) p (fun a => a) ?_ ?_ N 0 a (by omega) (by omega)
  · exact e
  · intro m x a hx
    obtain ⟨-, -, g1, g8⟩ := CK_g h hx hy
    show lX9_cracksOf_17 N (M b F G n sw) (some (b + 32)) (nI i) (nI y) (m + 1) a (nI x) = _
    rw [lX9_cracksOf_17]
    simp only [R_32_3, Option.bind_some, L_35 hi, h.2.2.1]
    rw [if_neg (nI_ge hx (by omega))]
    simp only [nm, nI_1]
    have key : ∀ (L : Int32 → Option Int32), (if nI y ≤ 0 then L (a + bI (0 < x ∧ hR F i p x y = true) + 0) else (fX9_at N (M b F G n sw) (some (b + 32)) (nI i) (nI x) (nI y)).bind fun x37 => (fX9_at N (M b F G n sw) (some (b + 32)) (nI i) (nI x) (nI y - 1)).bind fun x38 => (fX9_doCrack N (M b F G n sw) (some (b + 32)) x37 x38).bind fun x39 => if x39 = 0 then L (a + bI (0 < x ∧ hR F i p x y = true) + 0) else L (a + bI (0 < x ∧ hR F i p x y = true) + 1)) = L (a + (bI (0 < x ∧ hR F i p x y = true) + bI (0 < y ∧ vR F i p x y = true))) := by
      intro L
      by_cases z : 0 < y
      · obtain ⟨-, -, d1, d8⟩ := CK_g h hx (show y - 1 < p by omega)
        rw [if_neg (nI_nle z (by omega)), e_at9N hi h hx hy, show nI y - 1 = nI (y - 1) from pk_sub (b := 1) z, e_at9N hi h hx (show y - 1 < p by omega)]
        simp only [Option.bind_some, e_crk9 h g1 g8 d1 d8]
        by_cases w : vR F i p x y = true
        · have w' : crN F (glN F i (8 * y + x)) (glN F i (8 * (y - 1) + x)) = true := w
          rw [bI_t w', if_neg z10, bI_t (show 0 < y ∧ vR F i p x y = true from ⟨z, w⟩), Int32.add_assoc]
        · have w' : ¬ crN F (glN F i (8 * y + x)) (glN F i (8 * (y - 1) + x)) = true := w
          rw [bI_f w', if_pos rfl, bI_f (q := 0 < y ∧ vR F i p x y = true) (fun q => w q.2), Int32.add_assoc]
      · rw [if_pos (by rw [show y = 0 by omega]; decide), bI_f (q := 0 < y ∧ vR F i p x y = true) (fun q => z q.1), Int32.add_assoc]
    by_cases z : 0 < x
    · obtain ⟨-, -, d1, d8⟩ := CK_g h (show x - 1 < p by omega) hy
      rw [if_neg (nI_nle z (by omega)), e_at9N hi h hx hy, show nI x - 1 = nI (x - 1) from pk_sub (b := 1) z, e_at9N hi h (show x - 1 < p by omega) hy]
      simp only [Option.bind_some, e_crk9 h g1 g8 d1 d8]
      by_cases w : hR F i p x y = true
      · have w' : crN F (glN F i (8 * y + x)) (glN F i (8 * y + (x - 1))) = true := w
        rw [bI_t w', if_neg z10]
        have := key (fun q => lX9_cracksOf_17 N (M b F G n sw) (some (b + 32)) (nI i) (nI y) m q (nI (x + 1)))
        rw [bI_t (show 0 < x ∧ hR F i p x y = true from ⟨z, w⟩), e_at9N hi h hx hy] at this
        simp only [Option.bind_some] at this
        rw [bI_t (show 0 < x ∧ hR F i p x y = true from ⟨z, w⟩)]
        exact this
      · have w' : ¬ crN F (glN F i (8 * y + x)) (glN F i (8 * y + (x - 1))) = true := w
        rw [bI_f w', if_pos rfl]
        have := key (fun q => lX9_cracksOf_17 N (M b F G n sw) (some (b + 32)) (nI i) (nI y) m q (nI (x + 1)))
        rw [bI_f (q := 0 < x ∧ hR F i p x y = true) (fun q => w q.2), e_at9N hi h hx hy] at this
        simp only [Option.bind_some] at this
        rw [bI_f (q := 0 < x ∧ hR F i p x y = true) (fun q => w q.2)]
        exact this
    · rw [if_pos (by rw [show x = 0 by omega]; decide)]
      have := key (fun q => lX9_cracksOf_17 N (M b F G n sw) (some (b + 32)) (nI i) (nI y) m q (nI (x + 1)))
      rw [bI_f (q := 0 < x ∧ hR F i p x y = true) (fun q => z q.1)] at this
      rw [bI_f (q := 0 < x ∧ hR F i p x y = true) (fun q => z q.1)]
      exact this
  · intro m a
    show lX9_cracksOf_17 N (M b F G n sw) (some (b + 32)) (nI i) (nI y) (m + 1) a (nI p) = _
    rw [lX9_cracksOf_17]
    simp only [R_32_3, Option.bind_some, L_35 hi, h.2.2.1]
    rw [if_pos (nI_le (Nat.le_refl _) (by omega))]
theorem e_cracksOf (hi : i < 16) (h : CK F i p) (hN : 20 ≤ N) : fX9_cracksOf N (M b F G n sw) (some (b + 32)) (nI i) = some (srI (fun y => srI (fun x => bI (0 < x ∧ hR F i p x y = true) + bI (0 < y ∧ vR F i p x y = true)) 0 p) 0 p) := by
  have hp8 := h.1
  have e := lpS (fun m a c => lX9_cracksOf_4 N (M b F G n sw) (some (b + 32)) (nI i) m a c) (fun y => srI (fun x => bI (0 < x ∧ hR F i p x y = true) + bI (0 < y ∧ vR F i p x y = true)) 0 p) p (fun a => a) ?_ ?_ N 0 0 (by omega) (by omega)
  · unfold fX9_cracksOf
    rw [K_32, show (0 : Int32) = nI 0 from rfl]
    rw [show (0 : Int32) = nI 0 from rfl] at e
    rw [e]
    simp only [Option.bind_some, Nat.sub_zero]
    rw [show nI 0 = (0 : Int32) from rfl, Int32.zero_add]
  · intro m y a hy
    show lX9_cracksOf_4 N (M b F G n sw) (some (b + 32)) (nI i) (m + 1) a (nI y) = _
    rw [lX9_cracksOf_4]
    simp only [R_32_3, Option.bind_some, L_35 hi, h.2.2.1]
    rw [if_neg (nI_ge hy (by omega)), e_c17 hi h hy hN]
    simp only [Option.bind_some, nm, nI_1]
  · intro m a
    show lX9_cracksOf_4 N (M b F G n sw) (some (b + 32)) (nI i) (m + 1) a (nI p) = _
    rw [lX9_cracksOf_4]
    simp only [R_32_3, Option.bind_some, L_35 hi, h.2.2.1]
    rw [if_pos (nI_le (Nat.le_refl _) (by omega))]
end CR
