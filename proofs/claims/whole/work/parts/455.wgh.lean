/-! ===== 455: cases that are left; weigh, bad ===== -/
def cs (hv lt one : Nat) : Bool := if one % 2 = 0 then hv.testBit (one / 2) else lt.testBit (one / 2)
def RW9 (F : mI) (w hv lt : Nat) : Prop := w ≤ 6 ∧ F 32 19 = nI w ∧ (∀ k, k < w → ∃ l q, l < 512 ∧ q < 512 ∧ F 45 k = nI l ∧ F 46 k = nI q ∧ (F 47 k = -1 ∨ F 47 k = 0 ∨ F 47 k = 1)) ∧ (∀ r, r < 9 → (hv.testBit r = true ↔ lftN F w r true) ∧ (lt.testBit r = true ↔ lftN F w r false))
section WG
variable {b : Nat} {F : mI} {G : mJ} {n : Nat} {sw : Bool} {N : Nat}
theorem e_goes {S : pH} {one l q : Nat} (h : one < 18) (hl : l < 512) (hq : q < 512) : fX9_goes N S (nI one) (nI l) (nI q) = some (goN l q (one / 2) (decide (one % 2 = 0))) := by
  unfold fX9_goes
  have h2 : nI one / (2 : Int32) = nI (one / 2) := pk_div (d := 2) (by omega) (by decide) (by decide)
  have h3 : nI one - nI one / (2 : Int32) * (2 : Int32) = nI (one % 2) := pk_rem (d := 2) (by omega) (by decide) (by decide)
  have t1 := sh_t (l := l) (k := one / 2) (by omega) (by omega)
  have t2 := sh_t (l := q) (k := one / 2) (by omega) (by omega)
  simp only [nm]
  rw [h3, h2]
  simp only [t1, t2]
  unfold goN
  by_cases ho : one % 2 = 0
  · rw [if_neg (by rw [ho]; exact fun z => z rfl)]
    cases l.testBit (one / 2) <;> cases q.testBit (one / 2) <;> simp [ho]
  · rw [if_pos (ne0 (by omega) (by omega))]
    cases l.testBit (one / 2) <;> cases q.testBit (one / 2) <;> simp [ho]
theorem e_isLeft {w hv lt one : Nat} (hW : RW9 F w hv lt) (h : one < 18) (hN : 20 ≤ N) : fX9_isLeft N (M b F G n sw) (some (b + 32)) (nI one) = some (bI (cs hv lt one = true)) := by
  obtain ⟨w6, w1, w2, w3⟩ := hW
  have e := lpB (fun m a c => lX9_isLeft_4 N (M b F G n sw) (some (b + 32)) (nI one) m a c) (fun k => goN (F 45 k).toNatClampNeg (F 46 k).toNatClampNeg (one / 2) (decide (one % 2 = 0)) = F 47 k) 0 w (fun a => a) ?_ ?_ N True (by omega) (by omega)
  · rw [show bI True = (1 : Int32) from rfl, show nI 0 = (0 : Int32) from rfl] at e
    unfold fX9_isLeft
    rw [K_32, e]
    simp only [Option.bind_some, zr]
    refine congrArg some (bI_c ?_)
    have hl : ∀ hb, lftN F w (one / 2) hb ↔ ∀ k, k < w → goN (F 45 k).toNatClampNeg (F 46 k).toNatClampNeg (one / 2) hb = F 47 k := by
      intro hb
      constructor
      · intro z k hk
        obtain ⟨l, q, l5, q5, z1, z2, z3⟩ := z k hk
        rw [z1, z2, z3, nI_clamp (by omega), nI_clamp (by omega)]
      · intro z k hk
        obtain ⟨l, q, l5, q5, z1, z2, -⟩ := w2 k hk
        have := z k hk
        rw [z1, z2, nI_clamp (by omega), nI_clamp (by omega)] at this
        exact ⟨l, q, l5, q5, z1, z2, this.symm⟩
    unfold cs
    by_cases ho : one % 2 = 0
    · rw [if_pos ho, (w3 (one / 2) (by omega)).1, hl, decide_eq_true ho]
      exact ⟨fun z k hk => z.2 k hk (by omega), fun z => ⟨trivial, fun k hk _ => z k hk⟩⟩
    · rw [if_neg ho, (w3 (one / 2) (by omega)).2, hl, decide_eq_false ho]
      exact ⟨fun z k hk => z.2 k hk (by omega), fun z => ⟨trivial, fun k hk _ => z k hk⟩⟩
  · intro m k q _ _ hk
    obtain ⟨l, q', l5, q5, z1, z2, -⟩ := w2 k hk
    show lX9_isLeft_4 N (M b F G n sw) (some (b + 32)) (nI one) (m + 1) (bI q) (nI k) = _
    rw [lX9_isLeft_4]
    simp only [Option.bind_some, bI_0, Decidable.not_not, nm, b2, zr, e_isWithin, e_in, e_isGlass8, e_isGlass9, reduceIte, not_false_eq_true, not_true_eq_false, if_true, if_false, and_self, z01, z10, c00, c11, true_and, and_true, R_0_0, R_0_1, R_0_3, R_0_4, R_0_5, R_0_6, R_0_7, R_0_8, R_0_9, R_1_0, R_1_1, R_1_2, R_1_3, R_7_0, R_7_1, R_10_0, R_10_1, R_10_2, R_14_0, R_16_0, R_18_0, R_18_1, R_18_2, R_18_4, R_18_5, R_18_6, R_18_8, R_18_9, R_27_0, R_27_1, R_27_2, R_32_0, R_32_1, R_32_3, R_32_4, R_32_5, R_32_6, R_32_7, R_32_11, R_32_12, R_32_13, R_32_14, R_32_17, R_32_20, R_32_21, R_32_22, R_32_24, R_32_25, R_32_26, R_32_27, R_32_28, R_32_29, R_32_30, R_32_31, I_0_2, I_1_4, I_7_2, I_14_1, I_16_1, I_18_3, I_18_7, I_27_3, I_27_4, I_31_0, I_31_1, I_31_2, I_31_3, I_31_4, I_31_5, I_31_6, I_32_2, I_32_8, I_32_9, I_32_10, I_32_15, I_32_16, I_32_18, I_32_19, J_0_10, J_32_23, P_0_2, P_0_10, P_1_4, P_7_2, P_14_1, P_16_1, P_18_3, P_18_7, P_27_3, P_27_4, P_31_0, P_31_1, P_31_2, P_31_3, P_31_4, P_31_5, P_31_6, P_32_2, P_32_8, P_32_9, P_32_10, P_32_15, P_32_16, P_32_18, P_32_19, P_32_23, K_0, K_1, K_7, K_10, K_14, K_16, K_18, K_27, K_31, K_32, w1]
    rw [if_neg (nI_ge hk (by omega))]
    simp only [L_45 (show k < 6 by omega), L_46 (show k < 6 by omega), L_47 (show k < 6 by omega), z1, z2, Option.bind_some, e_goes h l5 q5, nI_clamp (show l < 2 ^ 31 by omega), nI_clamp (show q' < 2 ^ 31 by omega), nI_1]
    by_cases hq : q
    · by_cases hg : goN l q' (one / 2) (decide (one % 2 = 0)) = F 47 k
      · rw [if_neg (fun z => z hq), if_neg (fun z => z hg), bI_t (show q ∧ goN l q' (one / 2) (decide (one % 2 = 0)) = F 47 k from ⟨hq, hg⟩)]
      · rw [if_neg (fun z => z hq), if_pos hg, bI_f (fun z => hg z.2)]
    · rw [if_pos hq, bI_f (fun z => hq z.1)]
  · intro m a
    show lX9_isLeft_4 N (M b F G n sw) (some (b + 32)) (nI one) (m + 1) a (nI w) = _
    rw [lX9_isLeft_4]
    simp only [Option.bind_some, bI_0, Decidable.not_not, nm, b2, zr, e_isWithin, e_in, e_isGlass8, e_isGlass9, reduceIte, not_false_eq_true, not_true_eq_false, if_true, if_false, and_self, z01, z10, c00, c11, true_and, and_true, R_0_0, R_0_1, R_0_3, R_0_4, R_0_5, R_0_6, R_0_7, R_0_8, R_0_9, R_1_0, R_1_1, R_1_2, R_1_3, R_7_0, R_7_1, R_10_0, R_10_1, R_10_2, R_14_0, R_16_0, R_18_0, R_18_1, R_18_2, R_18_4, R_18_5, R_18_6, R_18_8, R_18_9, R_27_0, R_27_1, R_27_2, R_32_0, R_32_1, R_32_3, R_32_4, R_32_5, R_32_6, R_32_7, R_32_11, R_32_12, R_32_13, R_32_14, R_32_17, R_32_20, R_32_21, R_32_22, R_32_24, R_32_25, R_32_26, R_32_27, R_32_28, R_32_29, R_32_30, R_32_31, I_0_2, I_1_4, I_7_2, I_14_1, I_16_1, I_18_3, I_18_7, I_27_3, I_27_4, I_31_0, I_31_1, I_31_2, I_31_3, I_31_4, I_31_5, I_31_6, I_32_2, I_32_8, I_32_9, I_32_10, I_32_15, I_32_16, I_32_18, I_32_19, J_0_10, J_32_23, P_0_2, P_0_10, P_1_4, P_7_2, P_14_1, P_16_1, P_18_3, P_18_7, P_27_3, P_27_4, P_31_0, P_31_1, P_31_2, P_31_3, P_31_4, P_31_5, P_31_6, P_32_2, P_32_8, P_32_9, P_32_10, P_32_15, P_32_16, P_32_18, P_32_19, P_32_23, K_0, K_1, K_7, K_10, K_14, K_16, K_18, K_27, K_31, K_32, w1]
    rw [if_pos (nI_le (Nat.le_refl _) (by omega))]
theorem cs18 (hv lt : Nat) : cn (cs hv lt) 18 = pcN hv + pcN lt := by
  rw [show 18 = 2 * 9 from rfl, cn_pair, pc_cn, pc_cn]
  refine hcong ?_ ?_
  · refine cn_congr 9 (fun i _ => ?_)
    unfold cs
    rw [if_pos (by omega), show 2 * i / 2 = i by omega]
  · refine cn_congr 9 (fun i _ => ?_)
    unfold cs
    rw [if_neg (by omega), show (2 * i + 1) / 2 = i by omega]
theorem e_leftMany {w hv lt : Nat} (hW : RW9 F w hv lt) (hN : 20 ≤ N) : fX9_leftMany N (M b F G n sw) (some (b + 32)) = some (nI (pcN hv + pcN lt)) := by
  have e := lpE (fun m a c => lX9_leftMany_4 N (M b F G n sw) (some (b + 32)) m a c) (fun k => nI (cn (cs hv lt) k)) 18 (nI (pcN hv + pcN lt)) ?_ ?_ N 0 (by omega) (by omega)
  · unfold fX9_leftMany
    rw [K_32]
    rw [show nI (cn (cs hv lt) 0) = (0 : Int32) from rfl, show nI 0 = (0 : Int32) from rfl] at e
    rw [e]
    rfl
  · intro m i hi
    show lX9_leftMany_4 N (M b F G n sw) (some (b + 32)) (m + 1) (nI (cn (cs hv lt) i)) (nI i) = _
    rw [lX9_leftMany_4, if_neg (show ¬ (18 : Int32) ≤ nI i from nI_ge (b := 18) hi (by decide)), e_isLeft hW hi hN]
    simp only [Option.bind_some, nm, nI_1]
    by_cases hc : cs hv lt i = true
    · rw [bI_t hc, if_neg z10]
      simp only [cn, hc, if_true]
    · rw [bI_f hc, if_pos rfl, Int32.add_zero]
      simp only [cn, hc]
      rfl
  · intro m
    show lX9_leftMany_4 N (M b F G n sw) (some (b + 32)) (m + 1) (nI (cn (cs hv lt) 18)) (nI 18) = _
    rw [lX9_leftMany_4, if_pos (by decide), cs18]
theorem e_bitsIn {S : pH} {x : Nat} (hx : x < 512) (hN : 20 ≤ N) : fX9_bitsIn N S (nI x) = some (nI (pcN x)) := by
  have e := lpE (fun m a c => lX9_bitsIn_4 N S (nI x) m a c) (fun k => nI (cn x.testBit k)) 9 (nI (pcN x)) ?_ ?_ N 0 (by omega) (by omega)
  · unfold fX9_bitsIn
    rw [show nI (cn x.testBit 0) = (0 : Int32) from rfl, show nI 0 = (0 : Int32) from rfl] at e
    rw [e]
    rfl
  · intro m i hi
    show lX9_bitsIn_4 N S (nI x) (m + 1) (nI (cn x.testBit i)) (nI i) = _
    rw [lX9_bitsIn_4, if_neg (show ¬ (9 : Int32) ≤ nI i from nI_ge (b := 9) hi (by decide)), sh_v (by omega) (by omega)]
    simp only [nm, nI_add, nI_1, cn]
  · intro m
    show lX9_bitsIn_4 N S (nI x) (m + 1) (nI (cn x.testBit 9)) (nI 9) = _
    rw [lX9_bitsIn_4, if_pos (by decide), pc_cn]
theorem e_cases {hv lt : Nat} (h1 : F 31 0 = nI hv) (h2 : F 31 1 = nI lt) (hv5 : hv < 512) (lt5 : lt < 512) : fX6_casesLeft N (M b F G n sw) (some (b + 31)) = some (nI (pcN hv + pcN lt)) := by
  unfold fX6_casesLeft
  simp only [Option.bind_some, bI_0, Decidable.not_not, nm, b2, zr, e_isWithin, e_in, e_isGlass8, e_isGlass9, reduceIte, not_false_eq_true, not_true_eq_false, if_true, if_false, and_self, z01, z10, c00, c11, true_and, and_true, R_0_0, R_0_1, R_0_3, R_0_4, R_0_5, R_0_6, R_0_7, R_0_8, R_0_9, R_1_0, R_1_1, R_1_2, R_1_3, R_7_0, R_7_1, R_10_0, R_10_1, R_10_2, R_14_0, R_16_0, R_18_0, R_18_1, R_18_2, R_18_4, R_18_5, R_18_6, R_18_8, R_18_9, R_27_0, R_27_1, R_27_2, R_32_0, R_32_1, R_32_3, R_32_4, R_32_5, R_32_6, R_32_7, R_32_11, R_32_12, R_32_13, R_32_14, R_32_17, R_32_20, R_32_21, R_32_22, R_32_24, R_32_25, R_32_26, R_32_27, R_32_28, R_32_29, R_32_30, R_32_31, I_0_2, I_1_4, I_7_2, I_14_1, I_16_1, I_18_3, I_18_7, I_27_3, I_27_4, I_31_0, I_31_1, I_31_2, I_31_3, I_31_4, I_31_5, I_31_6, I_32_2, I_32_8, I_32_9, I_32_10, I_32_15, I_32_16, I_32_18, I_32_19, J_0_10, J_32_23, P_0_2, P_0_10, P_1_4, P_7_2, P_14_1, P_16_1, P_18_3, P_18_7, P_27_3, P_27_4, P_31_0, P_31_1, P_31_2, P_31_3, P_31_4, P_31_5, P_31_6, P_32_2, P_32_8, P_32_9, P_32_10, P_32_15, P_32_16, P_32_18, P_32_19, P_32_23, K_0, K_1, K_7, K_10, K_14, K_16, K_18, K_27, K_31, K_32, h1, h2, e_bc hv5, e_bc lt5, nI_add]
end WG
/-- the rods not on the scale -/
def asN (l q : Nat) : Nat := 511 &&& ((l ||| q) ^^^ (2 ^ 32 - 1))
theorem as_tb {l q r : Nat} (hr : r < 9) : (asN l q).testBit r = (!(l.testBit r) && !(q.testBit r)) := by
  unfold asN
  have h1 : (511 : Nat).testBit r = true := by
    have : ∀ r, r < 9 → (511 : Nat).testBit r = true := by decide
    exact this r hr
  have h2 : (2 ^ 32 - 1 : Nat).testBit r = true := by
    rw [Nat.testBit_two_pow_sub_one]
    exact decide_eq_true (by omega)
  rw [Nat.testBit_and, Nat.testBit_xor, Nat.testBit_or, h1, h2]
  cases l.testBit r <;> cases q.testBit r <;> rfl
theorem as_e (l q : Nat) : (511 : Int32) &&& ((nI l ||| nI q) ^^^ (-1 : Int32)) = nI (asN l q) := by
  rw [nI_or, nI_m1, nI_xor, show (511 : Int32) = nI 511 from rfl, nI_and]
  rfl
/-- what a weighing leaves of the heavy (true) or of the light -/
def kpN (l q : Nat) (o : Int32) (hb : Bool) : Nat := if o = 0 then asN l q else if o = 1 then (if hb then l else q) else (if hb then q else l)
theorem kp_tb {l q r : Nat} {o : Int32} (hd : l &&& q = 0) (ho : o = -1 ∨ o = 0 ∨ o = 1) (hr : r < 9) (hb : Bool) : (kpN l q o hb).testBit r = true ↔ o = goN l q r hb := by
  have hz : (l.testBit r && q.testBit r) = false := by rw [← Nat.testBit_and, hd, Nat.zero_testBit]
  have ha := as_tb (l := l) (q := q) hr
  unfold kpN goN
  rcases ho with rfl | rfl | rfl
  · rw [if_neg (by decide), if_neg (by decide)]
    cases hb <;> cases h1 : l.testBit r <;> cases h2 : q.testBit r <;> simp_all
  · rw [if_pos rfl, ha]
    cases hb <;> cases h1 : l.testBit r <;> cases h2 : q.testBit r <;> simp_all
  · rw [if_neg (by decide), if_pos rfl]
    cases hb <;> cases h1 : l.testBit r <;> cases h2 : q.testBit r <;> simp_all
theorem lft_s {F F' : mI} {w l q r : Nat} {o : Int32} {hb : Bool} (hl : l < 512) (hq : q < 512) (h : ∀ k j, (k = 45 ∨ k = 46 ∨ k = 47) → j < w → F' k j = F k j) (h1 : F' 45 w = nI l) (h2 : F' 46 w = nI q) (h3 : F' 47 w = o) : lftN F' (w + 1) r hb ↔ (lftN F w r hb ∧ o = goN l q r hb) := by
  constructor
  · intro z
    constructor
    · intro k hk
      have := z k (by omega)
      rw [h 45 k (by omega) hk, h 46 k (by omega) hk, h 47 k (by omega) hk] at this
      exact this
    · obtain ⟨l', q', a1, a2, a3, a4, a5⟩ := z w (by omega)
      rw [h1] at a3
      rw [h2] at a4
      rw [h3] at a5
      have e1 := (nI_eq (by omega) (by omega)).mp a3
      have e2 := (nI_eq (by omega) (by omega)).mp a4
      rw [a5, e1, e2]
  · rintro ⟨z1, z2⟩ k hk
    by_cases e : k = w
    · subst e
      exact ⟨l, q, hl, hq, h1, h2, by rw [h3, z2]⟩
    · have hk' : k < w := by omega
      rw [h 45 k (by omega) hk', h 46 k (by omega) hk', h 47 k (by omega) hk']
      exact z1 k hk'
theorem st_weigh (b : Nat) : St_weigh b (b + 32) (Inv b (b + 32)) := by
  rintro S ⟨-, F, G, n, sw, rfl, hR⟩ a1 a2 a3
  obtain ⟨r1, r2, r3, r4, r5, r6, r7, r8, r9, r10, r11, ⟨w, hv, lt, w0, w1, w2, w3, w4, w5, w6, w7, w8⟩, r13⟩ := id hR
  have bad : fX8_weigh NF (M b F G n sw) (some b) a1 a2 a3 = some (-1, M b F G n sw) → fX9_weigh NF (M b F G n sw) (some (b + 32)) a1 a2 a3 = some (-1, M b F G n sw) → ∃ (v : Int32) (S1 : pH) (S2 : pH), fX8_weigh NF (M b F G n sw) (some b) a1 a2 a3 = some (v, S1) ∧ fX9_weigh NF S1 (some (b + 32)) a1 a2 a3 = some (v, S2) ∧ Inv b (b + 32) S2 := fun z1 z2 => ⟨-1, _, _, z1, z2, rfl, F, G, n, sw, rfl, hR⟩
  by_cases hl : (1 : Int32) ≤ a1 ∧ a1 ≤ 511
  rotate_left
  · apply bad
    · unfold fX8_weigh
      simp only [Option.bind_some, bI_0, Decidable.not_not, nm, b2, zr, e_isWithin, e_in, e_isGlass8, e_isGlass9, reduceIte, not_false_eq_true, not_true_eq_false, if_true, if_false, and_self, z01, z10, c00, c11, true_and, and_true, R_0_0, R_0_1, R_0_3, R_0_4, R_0_5, R_0_6, R_0_7, R_0_8, R_0_9, R_1_0, R_1_1, R_1_2, R_1_3, R_7_0, R_7_1, R_10_0, R_10_1, R_10_2, R_14_0, R_16_0, R_18_0, R_18_1, R_18_2, R_18_4, R_18_5, R_18_6, R_18_8, R_18_9, R_27_0, R_27_1, R_27_2, R_32_0, R_32_1, R_32_3, R_32_4, R_32_5, R_32_6, R_32_7, R_32_11, R_32_12, R_32_13, R_32_14, R_32_17, R_32_20, R_32_21, R_32_22, R_32_24, R_32_25, R_32_26, R_32_27, R_32_28, R_32_29, R_32_30, R_32_31, I_0_2, I_1_4, I_7_2, I_14_1, I_16_1, I_18_3, I_18_7, I_27_3, I_27_4, I_31_0, I_31_1, I_31_2, I_31_3, I_31_4, I_31_5, I_31_6, I_32_2, I_32_8, I_32_9, I_32_10, I_32_15, I_32_16, I_32_18, I_32_19, J_0_10, J_32_23, P_0_2, P_0_10, P_1_4, P_7_2, P_14_1, P_16_1, P_18_3, P_18_7, P_27_3, P_27_4, P_31_0, P_31_1, P_31_2, P_31_3, P_31_4, P_31_5, P_31_6, P_32_2, P_32_8, P_32_9, P_32_10, P_32_15, P_32_16, P_32_18, P_32_19, P_32_23, K_0, K_1, K_7, K_10, K_14, K_16, K_18, K_27, K_31, K_32, eq_false hl]
    · unfold fX9_weigh fX9_isWeighing
      simp only [Option.bind_some, bI_0, Decidable.not_not, nm, b2, zr, e_isWithin, e_in, e_isGlass8, e_isGlass9, reduceIte, not_false_eq_true, not_true_eq_false, if_true, if_false, and_self, z01, z10, c00, c11, true_and, and_true, R_0_0, R_0_1, R_0_3, R_0_4, R_0_5, R_0_6, R_0_7, R_0_8, R_0_9, R_1_0, R_1_1, R_1_2, R_1_3, R_7_0, R_7_1, R_10_0, R_10_1, R_10_2, R_14_0, R_16_0, R_18_0, R_18_1, R_18_2, R_18_4, R_18_5, R_18_6, R_18_8, R_18_9, R_27_0, R_27_1, R_27_2, R_32_0, R_32_1, R_32_3, R_32_4, R_32_5, R_32_6, R_32_7, R_32_11, R_32_12, R_32_13, R_32_14, R_32_17, R_32_20, R_32_21, R_32_22, R_32_24, R_32_25, R_32_26, R_32_27, R_32_28, R_32_29, R_32_30, R_32_31, I_0_2, I_1_4, I_7_2, I_14_1, I_16_1, I_18_3, I_18_7, I_27_3, I_27_4, I_31_0, I_31_1, I_31_2, I_31_3, I_31_4, I_31_5, I_31_6, I_32_2, I_32_8, I_32_9, I_32_10, I_32_15, I_32_16, I_32_18, I_32_19, J_0_10, J_32_23, P_0_2, P_0_10, P_1_4, P_7_2, P_14_1, P_16_1, P_18_3, P_18_7, P_27_3, P_27_4, P_31_0, P_31_1, P_31_2, P_31_3, P_31_4, P_31_5, P_31_6, P_32_2, P_32_8, P_32_9, P_32_10, P_32_15, P_32_16, P_32_18, P_32_19, P_32_23, K_0, K_1, K_7, K_10, K_14, K_16, K_18, K_27, K_31, K_32, eq_false hl]
  by_cases hr : (1 : Int32) ≤ a2 ∧ a2 ≤ 511
  rotate_left
  · apply bad
    · unfold fX8_weigh
      simp only [Option.bind_some, bI_0, Decidable.not_not, nm, b2, zr, e_isWithin, e_in, e_isGlass8, e_isGlass9, reduceIte, not_false_eq_true, not_true_eq_false, if_true, if_false, and_self, z01, z10, c00, c11, true_and, and_true, R_0_0, R_0_1, R_0_3, R_0_4, R_0_5, R_0_6, R_0_7, R_0_8, R_0_9, R_1_0, R_1_1, R_1_2, R_1_3, R_7_0, R_7_1, R_10_0, R_10_1, R_10_2, R_14_0, R_16_0, R_18_0, R_18_1, R_18_2, R_18_4, R_18_5, R_18_6, R_18_8, R_18_9, R_27_0, R_27_1, R_27_2, R_32_0, R_32_1, R_32_3, R_32_4, R_32_5, R_32_6, R_32_7, R_32_11, R_32_12, R_32_13, R_32_14, R_32_17, R_32_20, R_32_21, R_32_22, R_32_24, R_32_25, R_32_26, R_32_27, R_32_28, R_32_29, R_32_30, R_32_31, I_0_2, I_1_4, I_7_2, I_14_1, I_16_1, I_18_3, I_18_7, I_27_3, I_27_4, I_31_0, I_31_1, I_31_2, I_31_3, I_31_4, I_31_5, I_31_6, I_32_2, I_32_8, I_32_9, I_32_10, I_32_15, I_32_16, I_32_18, I_32_19, J_0_10, J_32_23, P_0_2, P_0_10, P_1_4, P_7_2, P_14_1, P_16_1, P_18_3, P_18_7, P_27_3, P_27_4, P_31_0, P_31_1, P_31_2, P_31_3, P_31_4, P_31_5, P_31_6, P_32_2, P_32_8, P_32_9, P_32_10, P_32_15, P_32_16, P_32_18, P_32_19, P_32_23, K_0, K_1, K_7, K_10, K_14, K_16, K_18, K_27, K_31, K_32, eq_true hl, eq_false hr]
    · unfold fX9_weigh fX9_isWeighing
      simp only [Option.bind_some, bI_0, Decidable.not_not, nm, b2, zr, e_isWithin, e_in, e_isGlass8, e_isGlass9, reduceIte, not_false_eq_true, not_true_eq_false, if_true, if_false, and_self, z01, z10, c00, c11, true_and, and_true, R_0_0, R_0_1, R_0_3, R_0_4, R_0_5, R_0_6, R_0_7, R_0_8, R_0_9, R_1_0, R_1_1, R_1_2, R_1_3, R_7_0, R_7_1, R_10_0, R_10_1, R_10_2, R_14_0, R_16_0, R_18_0, R_18_1, R_18_2, R_18_4, R_18_5, R_18_6, R_18_8, R_18_9, R_27_0, R_27_1, R_27_2, R_32_0, R_32_1, R_32_3, R_32_4, R_32_5, R_32_6, R_32_7, R_32_11, R_32_12, R_32_13, R_32_14, R_32_17, R_32_20, R_32_21, R_32_22, R_32_24, R_32_25, R_32_26, R_32_27, R_32_28, R_32_29, R_32_30, R_32_31, I_0_2, I_1_4, I_7_2, I_14_1, I_16_1, I_18_3, I_18_7, I_27_3, I_27_4, I_31_0, I_31_1, I_31_2, I_31_3, I_31_4, I_31_5, I_31_6, I_32_2, I_32_8, I_32_9, I_32_10, I_32_15, I_32_16, I_32_18, I_32_19, J_0_10, J_32_23, P_0_2, P_0_10, P_1_4, P_7_2, P_14_1, P_16_1, P_18_3, P_18_7, P_27_3, P_27_4, P_31_0, P_31_1, P_31_2, P_31_3, P_31_4, P_31_5, P_31_6, P_32_2, P_32_8, P_32_9, P_32_10, P_32_15, P_32_16, P_32_18, P_32_19, P_32_23, K_0, K_1, K_7, K_10, K_14, K_16, K_18, K_27, K_31, K_32, eq_true hl, eq_false hr]
  obtain ⟨l, l1, l5, rfl⟩ := rng 1 511 rfl rfl (by decide) (by decide) hl
  obtain ⟨q, q1, q5, rfl⟩ := rng 1 511 rfl rfl (by decide) (by decide) hr
  have bl := e_bc (x := l) (by omega) NF
  have bq := e_bc (x := q) (by omega) NF
  have cl : ∀ S, fX9_bitsIn NF S (nI l) = some (nI (pcN l)) := fun S => e_bitsIn (by omega) (by decide)
  have cq : ∀ S, fX9_bitsIn NF S (nI q) = some (nI (pcN q)) := fun S => e_bitsIn (by omega) (by decide)
  by_cases hd : (nI l &&& nI q) = 0
  rotate_left
  · by_cases ho : (-1 : Int32) ≤ a3 ∧ a3 ≤ 1
    · apply bad
      · unfold fX8_weigh
        simp only [Option.bind_some, bI_0, Decidable.not_not, nm, b2, zr, e_isWithin, e_in, e_isGlass8, e_isGlass9, reduceIte, not_false_eq_true, not_true_eq_false, if_true, if_false, and_self, z01, z10, c00, c11, true_and, and_true, R_0_0, R_0_1, R_0_3, R_0_4, R_0_5, R_0_6, R_0_7, R_0_8, R_0_9, R_1_0, R_1_1, R_1_2, R_1_3, R_7_0, R_7_1, R_10_0, R_10_1, R_10_2, R_14_0, R_16_0, R_18_0, R_18_1, R_18_2, R_18_4, R_18_5, R_18_6, R_18_8, R_18_9, R_27_0, R_27_1, R_27_2, R_32_0, R_32_1, R_32_3, R_32_4, R_32_5, R_32_6, R_32_7, R_32_11, R_32_12, R_32_13, R_32_14, R_32_17, R_32_20, R_32_21, R_32_22, R_32_24, R_32_25, R_32_26, R_32_27, R_32_28, R_32_29, R_32_30, R_32_31, I_0_2, I_1_4, I_7_2, I_14_1, I_16_1, I_18_3, I_18_7, I_27_3, I_27_4, I_31_0, I_31_1, I_31_2, I_31_3, I_31_4, I_31_5, I_31_6, I_32_2, I_32_8, I_32_9, I_32_10, I_32_15, I_32_16, I_32_18, I_32_19, J_0_10, J_32_23, P_0_2, P_0_10, P_1_4, P_7_2, P_14_1, P_16_1, P_18_3, P_18_7, P_27_3, P_27_4, P_31_0, P_31_1, P_31_2, P_31_3, P_31_4, P_31_5, P_31_6, P_32_2, P_32_8, P_32_9, P_32_10, P_32_15, P_32_16, P_32_18, P_32_19, P_32_23, K_0, K_1, K_7, K_10, K_14, K_16, K_18, K_27, K_31, K_32, eq_true hl, eq_true hr, eq_true ho, eq_false hd]
      · unfold fX9_weigh fX9_isWeighing
        simp only [Option.bind_some, bI_0, Decidable.not_not, nm, b2, zr, e_isWithin, e_in, e_isGlass8, e_isGlass9, reduceIte, not_false_eq_true, not_true_eq_false, if_true, if_false, and_self, z01, z10, c00, c11, true_and, and_true, R_0_0, R_0_1, R_0_3, R_0_4, R_0_5, R_0_6, R_0_7, R_0_8, R_0_9, R_1_0, R_1_1, R_1_2, R_1_3, R_7_0, R_7_1, R_10_0, R_10_1, R_10_2, R_14_0, R_16_0, R_18_0, R_18_1, R_18_2, R_18_4, R_18_5, R_18_6, R_18_8, R_18_9, R_27_0, R_27_1, R_27_2, R_32_0, R_32_1, R_32_3, R_32_4, R_32_5, R_32_6, R_32_7, R_32_11, R_32_12, R_32_13, R_32_14, R_32_17, R_32_20, R_32_21, R_32_22, R_32_24, R_32_25, R_32_26, R_32_27, R_32_28, R_32_29, R_32_30, R_32_31, I_0_2, I_1_4, I_7_2, I_14_1, I_16_1, I_18_3, I_18_7, I_27_3, I_27_4, I_31_0, I_31_1, I_31_2, I_31_3, I_31_4, I_31_5, I_31_6, I_32_2, I_32_8, I_32_9, I_32_10, I_32_15, I_32_16, I_32_18, I_32_19, J_0_10, J_32_23, P_0_2, P_0_10, P_1_4, P_7_2, P_14_1, P_16_1, P_18_3, P_18_7, P_27_3, P_27_4, P_31_0, P_31_1, P_31_2, P_31_3, P_31_4, P_31_5, P_31_6, P_32_2, P_32_8, P_32_9, P_32_10, P_32_15, P_32_16, P_32_18, P_32_19, P_32_23, K_0, K_1, K_7, K_10, K_14, K_16, K_18, K_27, K_31, K_32, eq_true hl, eq_true hr, eq_false hd]
    · apply bad
      · unfold fX8_weigh
        simp only [Option.bind_some, bI_0, Decidable.not_not, nm, b2, zr, e_isWithin, e_in, e_isGlass8, e_isGlass9, reduceIte, not_false_eq_true, not_true_eq_false, if_true, if_false, and_self, z01, z10, c00, c11, true_and, and_true, R_0_0, R_0_1, R_0_3, R_0_4, R_0_5, R_0_6, R_0_7, R_0_8, R_0_9, R_1_0, R_1_1, R_1_2, R_1_3, R_7_0, R_7_1, R_10_0, R_10_1, R_10_2, R_14_0, R_16_0, R_18_0, R_18_1, R_18_2, R_18_4, R_18_5, R_18_6, R_18_8, R_18_9, R_27_0, R_27_1, R_27_2, R_32_0, R_32_1, R_32_3, R_32_4, R_32_5, R_32_6, R_32_7, R_32_11, R_32_12, R_32_13, R_32_14, R_32_17, R_32_20, R_32_21, R_32_22, R_32_24, R_32_25, R_32_26, R_32_27, R_32_28, R_32_29, R_32_30, R_32_31, I_0_2, I_1_4, I_7_2, I_14_1, I_16_1, I_18_3, I_18_7, I_27_3, I_27_4, I_31_0, I_31_1, I_31_2, I_31_3, I_31_4, I_31_5, I_31_6, I_32_2, I_32_8, I_32_9, I_32_10, I_32_15, I_32_16, I_32_18, I_32_19, J_0_10, J_32_23, P_0_2, P_0_10, P_1_4, P_7_2, P_14_1, P_16_1, P_18_3, P_18_7, P_27_3, P_27_4, P_31_0, P_31_1, P_31_2, P_31_3, P_31_4, P_31_5, P_31_6, P_32_2, P_32_8, P_32_9, P_32_10, P_32_15, P_32_16, P_32_18, P_32_19, P_32_23, K_0, K_1, K_7, K_10, K_14, K_16, K_18, K_27, K_31, K_32, eq_true hl, eq_true hr, eq_false ho]
      · unfold fX9_weigh fX9_isWeighing
        simp only [Option.bind_some, bI_0, Decidable.not_not, nm, b2, zr, e_isWithin, e_in, e_isGlass8, e_isGlass9, reduceIte, not_false_eq_true, not_true_eq_false, if_true, if_false, and_self, z01, z10, c00, c11, true_and, and_true, R_0_0, R_0_1, R_0_3, R_0_4, R_0_5, R_0_6, R_0_7, R_0_8, R_0_9, R_1_0, R_1_1, R_1_2, R_1_3, R_7_0, R_7_1, R_10_0, R_10_1, R_10_2, R_14_0, R_16_0, R_18_0, R_18_1, R_18_2, R_18_4, R_18_5, R_18_6, R_18_8, R_18_9, R_27_0, R_27_1, R_27_2, R_32_0, R_32_1, R_32_3, R_32_4, R_32_5, R_32_6, R_32_7, R_32_11, R_32_12, R_32_13, R_32_14, R_32_17, R_32_20, R_32_21, R_32_22, R_32_24, R_32_25, R_32_26, R_32_27, R_32_28, R_32_29, R_32_30, R_32_31, I_0_2, I_1_4, I_7_2, I_14_1, I_16_1, I_18_3, I_18_7, I_27_3, I_27_4, I_31_0, I_31_1, I_31_2, I_31_3, I_31_4, I_31_5, I_31_6, I_32_2, I_32_8, I_32_9, I_32_10, I_32_15, I_32_16, I_32_18, I_32_19, J_0_10, J_32_23, P_0_2, P_0_10, P_1_4, P_7_2, P_14_1, P_16_1, P_18_3, P_18_7, P_27_3, P_27_4, P_31_0, P_31_1, P_31_2, P_31_3, P_31_4, P_31_5, P_31_6, P_32_2, P_32_8, P_32_9, P_32_10, P_32_15, P_32_16, P_32_18, P_32_19, P_32_23, K_0, K_1, K_7, K_10, K_14, K_16, K_18, K_27, K_31, K_32, eq_true hl, eq_true hr, eq_false hd]
  by_cases hb : nI (pcN l) = nI (pcN q)
  rotate_left
  · by_cases ho : (-1 : Int32) ≤ a3 ∧ a3 ≤ 1
    · apply bad
      · unfold fX8_weigh
        simp only [Option.bind_some, bI_0, Decidable.not_not, nm, b2, zr, e_isWithin, e_in, e_isGlass8, e_isGlass9, reduceIte, not_false_eq_true, not_true_eq_false, if_true, if_false, and_self, z01, z10, c00, c11, true_and, and_true, R_0_0, R_0_1, R_0_3, R_0_4, R_0_5, R_0_6, R_0_7, R_0_8, R_0_9, R_1_0, R_1_1, R_1_2, R_1_3, R_7_0, R_7_1, R_10_0, R_10_1, R_10_2, R_14_0, R_16_0, R_18_0, R_18_1, R_18_2, R_18_4, R_18_5, R_18_6, R_18_8, R_18_9, R_27_0, R_27_1, R_27_2, R_32_0, R_32_1, R_32_3, R_32_4, R_32_5, R_32_6, R_32_7, R_32_11, R_32_12, R_32_13, R_32_14, R_32_17, R_32_20, R_32_21, R_32_22, R_32_24, R_32_25, R_32_26, R_32_27, R_32_28, R_32_29, R_32_30, R_32_31, I_0_2, I_1_4, I_7_2, I_14_1, I_16_1, I_18_3, I_18_7, I_27_3, I_27_4, I_31_0, I_31_1, I_31_2, I_31_3, I_31_4, I_31_5, I_31_6, I_32_2, I_32_8, I_32_9, I_32_10, I_32_15, I_32_16, I_32_18, I_32_19, J_0_10, J_32_23, P_0_2, P_0_10, P_1_4, P_7_2, P_14_1, P_16_1, P_18_3, P_18_7, P_27_3, P_27_4, P_31_0, P_31_1, P_31_2, P_31_3, P_31_4, P_31_5, P_31_6, P_32_2, P_32_8, P_32_9, P_32_10, P_32_15, P_32_16, P_32_18, P_32_19, P_32_23, K_0, K_1, K_7, K_10, K_14, K_16, K_18, K_27, K_31, K_32, eq_true hl, eq_true hr, eq_true ho, eq_true hd, bl, bq, eq_false hb]
      · unfold fX9_weigh fX9_isWeighing
        simp only [Option.bind_some, bI_0, Decidable.not_not, nm, b2, zr, e_isWithin, e_in, e_isGlass8, e_isGlass9, reduceIte, not_false_eq_true, not_true_eq_false, if_true, if_false, and_self, z01, z10, c00, c11, true_and, and_true, R_0_0, R_0_1, R_0_3, R_0_4, R_0_5, R_0_6, R_0_7, R_0_8, R_0_9, R_1_0, R_1_1, R_1_2, R_1_3, R_7_0, R_7_1, R_10_0, R_10_1, R_10_2, R_14_0, R_16_0, R_18_0, R_18_1, R_18_2, R_18_4, R_18_5, R_18_6, R_18_8, R_18_9, R_27_0, R_27_1, R_27_2, R_32_0, R_32_1, R_32_3, R_32_4, R_32_5, R_32_6, R_32_7, R_32_11, R_32_12, R_32_13, R_32_14, R_32_17, R_32_20, R_32_21, R_32_22, R_32_24, R_32_25, R_32_26, R_32_27, R_32_28, R_32_29, R_32_30, R_32_31, I_0_2, I_1_4, I_7_2, I_14_1, I_16_1, I_18_3, I_18_7, I_27_3, I_27_4, I_31_0, I_31_1, I_31_2, I_31_3, I_31_4, I_31_5, I_31_6, I_32_2, I_32_8, I_32_9, I_32_10, I_32_15, I_32_16, I_32_18, I_32_19, J_0_10, J_32_23, P_0_2, P_0_10, P_1_4, P_7_2, P_14_1, P_16_1, P_18_3, P_18_7, P_27_3, P_27_4, P_31_0, P_31_1, P_31_2, P_31_3, P_31_4, P_31_5, P_31_6, P_32_2, P_32_8, P_32_9, P_32_10, P_32_15, P_32_16, P_32_18, P_32_19, P_32_23, K_0, K_1, K_7, K_10, K_14, K_16, K_18, K_27, K_31, K_32, eq_true hl, eq_true hr, eq_true hd, cl, cq, eq_false hb]
    · apply bad
      · unfold fX8_weigh
        simp only [Option.bind_some, bI_0, Decidable.not_not, nm, b2, zr, e_isWithin, e_in, e_isGlass8, e_isGlass9, reduceIte, not_false_eq_true, not_true_eq_false, if_true, if_false, and_self, z01, z10, c00, c11, true_and, and_true, R_0_0, R_0_1, R_0_3, R_0_4, R_0_5, R_0_6, R_0_7, R_0_8, R_0_9, R_1_0, R_1_1, R_1_2, R_1_3, R_7_0, R_7_1, R_10_0, R_10_1, R_10_2, R_14_0, R_16_0, R_18_0, R_18_1, R_18_2, R_18_4, R_18_5, R_18_6, R_18_8, R_18_9, R_27_0, R_27_1, R_27_2, R_32_0, R_32_1, R_32_3, R_32_4, R_32_5, R_32_6, R_32_7, R_32_11, R_32_12, R_32_13, R_32_14, R_32_17, R_32_20, R_32_21, R_32_22, R_32_24, R_32_25, R_32_26, R_32_27, R_32_28, R_32_29, R_32_30, R_32_31, I_0_2, I_1_4, I_7_2, I_14_1, I_16_1, I_18_3, I_18_7, I_27_3, I_27_4, I_31_0, I_31_1, I_31_2, I_31_3, I_31_4, I_31_5, I_31_6, I_32_2, I_32_8, I_32_9, I_32_10, I_32_15, I_32_16, I_32_18, I_32_19, J_0_10, J_32_23, P_0_2, P_0_10, P_1_4, P_7_2, P_14_1, P_16_1, P_18_3, P_18_7, P_27_3, P_27_4, P_31_0, P_31_1, P_31_2, P_31_3, P_31_4, P_31_5, P_31_6, P_32_2, P_32_8, P_32_9, P_32_10, P_32_15, P_32_16, P_32_18, P_32_19, P_32_23, K_0, K_1, K_7, K_10, K_14, K_16, K_18, K_27, K_31, K_32, eq_true hl, eq_true hr, eq_false ho]
      · unfold fX9_weigh fX9_isWeighing
        simp only [Option.bind_some, bI_0, Decidable.not_not, nm, b2, zr, e_isWithin, e_in, e_isGlass8, e_isGlass9, reduceIte, not_false_eq_true, not_true_eq_false, if_true, if_false, and_self, z01, z10, c00, c11, true_and, and_true, R_0_0, R_0_1, R_0_3, R_0_4, R_0_5, R_0_6, R_0_7, R_0_8, R_0_9, R_1_0, R_1_1, R_1_2, R_1_3, R_7_0, R_7_1, R_10_0, R_10_1, R_10_2, R_14_0, R_16_0, R_18_0, R_18_1, R_18_2, R_18_4, R_18_5, R_18_6, R_18_8, R_18_9, R_27_0, R_27_1, R_27_2, R_32_0, R_32_1, R_32_3, R_32_4, R_32_5, R_32_6, R_32_7, R_32_11, R_32_12, R_32_13, R_32_14, R_32_17, R_32_20, R_32_21, R_32_22, R_32_24, R_32_25, R_32_26, R_32_27, R_32_28, R_32_29, R_32_30, R_32_31, I_0_2, I_1_4, I_7_2, I_14_1, I_16_1, I_18_3, I_18_7, I_27_3, I_27_4, I_31_0, I_31_1, I_31_2, I_31_3, I_31_4, I_31_5, I_31_6, I_32_2, I_32_8, I_32_9, I_32_10, I_32_15, I_32_16, I_32_18, I_32_19, J_0_10, J_32_23, P_0_2, P_0_10, P_1_4, P_7_2, P_14_1, P_16_1, P_18_3, P_18_7, P_27_3, P_27_4, P_31_0, P_31_1, P_31_2, P_31_3, P_31_4, P_31_5, P_31_6, P_32_2, P_32_8, P_32_9, P_32_10, P_32_15, P_32_16, P_32_18, P_32_19, P_32_23, K_0, K_1, K_7, K_10, K_14, K_16, K_18, K_27, K_31, K_32, eq_true hl, eq_true hr, eq_true hd, cl, cq, eq_false hb]
  by_cases ho : (-1 : Int32) ≤ a3 ∧ a3 ≤ 1
  rotate_left
  · apply bad
    · unfold fX8_weigh
      simp only [Option.bind_some, bI_0, Decidable.not_not, nm, b2, zr, e_isWithin, e_in, e_isGlass8, e_isGlass9, reduceIte, not_false_eq_true, not_true_eq_false, if_true, if_false, and_self, z01, z10, c00, c11, true_and, and_true, R_0_0, R_0_1, R_0_3, R_0_4, R_0_5, R_0_6, R_0_7, R_0_8, R_0_9, R_1_0, R_1_1, R_1_2, R_1_3, R_7_0, R_7_1, R_10_0, R_10_1, R_10_2, R_14_0, R_16_0, R_18_0, R_18_1, R_18_2, R_18_4, R_18_5, R_18_6, R_18_8, R_18_9, R_27_0, R_27_1, R_27_2, R_32_0, R_32_1, R_32_3, R_32_4, R_32_5, R_32_6, R_32_7, R_32_11, R_32_12, R_32_13, R_32_14, R_32_17, R_32_20, R_32_21, R_32_22, R_32_24, R_32_25, R_32_26, R_32_27, R_32_28, R_32_29, R_32_30, R_32_31, I_0_2, I_1_4, I_7_2, I_14_1, I_16_1, I_18_3, I_18_7, I_27_3, I_27_4, I_31_0, I_31_1, I_31_2, I_31_3, I_31_4, I_31_5, I_31_6, I_32_2, I_32_8, I_32_9, I_32_10, I_32_15, I_32_16, I_32_18, I_32_19, J_0_10, J_32_23, P_0_2, P_0_10, P_1_4, P_7_2, P_14_1, P_16_1, P_18_3, P_18_7, P_27_3, P_27_4, P_31_0, P_31_1, P_31_2, P_31_3, P_31_4, P_31_5, P_31_6, P_32_2, P_32_8, P_32_9, P_32_10, P_32_15, P_32_16, P_32_18, P_32_19, P_32_23, K_0, K_1, K_7, K_10, K_14, K_16, K_18, K_27, K_31, K_32, eq_true hl, eq_true hr, eq_false ho]
    · unfold fX9_weigh fX9_isWeighing
      simp only [Option.bind_some, bI_0, Decidable.not_not, nm, b2, zr, e_isWithin, e_in, e_isGlass8, e_isGlass9, reduceIte, not_false_eq_true, not_true_eq_false, if_true, if_false, and_self, z01, z10, c00, c11, true_and, and_true, R_0_0, R_0_1, R_0_3, R_0_4, R_0_5, R_0_6, R_0_7, R_0_8, R_0_9, R_1_0, R_1_1, R_1_2, R_1_3, R_7_0, R_7_1, R_10_0, R_10_1, R_10_2, R_14_0, R_16_0, R_18_0, R_18_1, R_18_2, R_18_4, R_18_5, R_18_6, R_18_8, R_18_9, R_27_0, R_27_1, R_27_2, R_32_0, R_32_1, R_32_3, R_32_4, R_32_5, R_32_6, R_32_7, R_32_11, R_32_12, R_32_13, R_32_14, R_32_17, R_32_20, R_32_21, R_32_22, R_32_24, R_32_25, R_32_26, R_32_27, R_32_28, R_32_29, R_32_30, R_32_31, I_0_2, I_1_4, I_7_2, I_14_1, I_16_1, I_18_3, I_18_7, I_27_3, I_27_4, I_31_0, I_31_1, I_31_2, I_31_3, I_31_4, I_31_5, I_31_6, I_32_2, I_32_8, I_32_9, I_32_10, I_32_15, I_32_16, I_32_18, I_32_19, J_0_10, J_32_23, P_0_2, P_0_10, P_1_4, P_7_2, P_14_1, P_16_1, P_18_3, P_18_7, P_27_3, P_27_4, P_31_0, P_31_1, P_31_2, P_31_3, P_31_4, P_31_5, P_31_6, P_32_2, P_32_8, P_32_9, P_32_10, P_32_15, P_32_16, P_32_18, P_32_19, P_32_23, K_0, K_1, K_7, K_10, K_14, K_16, K_18, K_27, K_31, K_32, eq_true hl, eq_true hr, eq_true hd, cl, cq, eq_true hb, eq_false ho]
  have hd' : l &&& q = 0 := by
    rw [nI_and] at hd
    exact (nI_eq (b := 0) (Nat.lt_of_le_of_lt Nat.and_le_left (by omega)) (by decide)).mp hd
  have ho3 : a3 = -1 ∨ a3 = 0 ∨ a3 = 1 := by
    have h1 := Int32.le_iff_toInt_le.mp ho.1
    have h2 := Int32.le_iff_toInt_le.mp ho.2
    rw [show (-1 : Int32).toInt = -1 from rfl] at h1
    rw [show (1 : Int32).toInt = 1 from rfl] at h2
    rcases (show a3.toInt = -1 ∨ a3.toInt = 0 ∨ a3.toInt = 1 by omega) with z | z | z
    · exact Or.inl (Int32.toInt_inj.mp z)
    · exact Or.inr (Or.inl (Int32.toInt_inj.mp z))
    · exact Or.inr (Or.inr (Int32.toInt_inj.mp z))
  by_cases h6 : w < 6
  · have h6' : nI w < (6 : Int32) := nI_lt (b := 6) h6 (by decide)
    have h6e : ¬ nI w = (6 : Int32) := fun z => by
      have := (nI_eq (b := 6) (by omega) (by decide)).mp z
      omega
    have hv5 : (hv &&& kpN l q a3 true) < 512 := Nat.lt_of_le_of_lt Nat.and_le_left w1
    have lt5 : (lt &&& kpN l q a3 false) < 512 := Nat.lt_of_le_of_lt Nat.and_le_left w2
    have hW : RW9 (u2 (u2 (u2 (u2 (u2 (u2 (u2 (u2 F 31 0 (nI (hv &&& kpN l q a3 true))) 31 1 (nI (lt &&& kpN l q a3 false))) 31 2 (nI (w + 1))) 31 3 0) 45 w (nI l)) 46 w (nI q)) 47 w a3) 32 19 (nI (w + 1))) (w + 1) (hv &&& kpN l q a3 true) (lt &&& kpN l q a3 false) := by
      have g1 : (u2 (u2 (u2 (u2 (u2 (u2 (u2 (u2 F 31 0 (nI (hv &&& kpN l q a3 true))) 31 1 (nI (lt &&& kpN l q a3 false))) 31 2 (nI (w + 1))) 31 3 0) 45 w (nI l)) 46 w (nI q)) 47 w a3) 32 19 (nI (w + 1))) 45 w = nI l := by simp [u2]
      have g2 : (u2 (u2 (u2 (u2 (u2 (u2 (u2 (u2 F 31 0 (nI (hv &&& kpN l q a3 true))) 31 1 (nI (lt &&& kpN l q a3 false))) 31 2 (nI (w + 1))) 31 3 0) 45 w (nI l)) 46 w (nI q)) 47 w a3) 32 19 (nI (w + 1))) 46 w = nI q := by simp [u2]
      have g3 : (u2 (u2 (u2 (u2 (u2 (u2 (u2 (u2 F 31 0 (nI (hv &&& kpN l q a3 true))) 31 1 (nI (lt &&& kpN l q a3 false))) 31 2 (nI (w + 1))) 31 3 0) 45 w (nI l)) 46 w (nI q)) 47 w a3) 32 19 (nI (w + 1))) 47 w = a3 := by simp [u2]
      have g0 : ∀ k j, (k = 45 ∨ k = 46 ∨ k = 47) → j < w → (u2 (u2 (u2 (u2 (u2 (u2 (u2 (u2 F 31 0 (nI (hv &&& kpN l q a3 true))) 31 1 (nI (lt &&& kpN l q a3 false))) 31 2 (nI (w + 1))) 31 3 0) 45 w (nI l)) 46 w (nI q)) 47 w a3) 32 19 (nI (w + 1))) k j = F k j := by
        intro k j hk hj
        simp only [u2]
        repeat rw [if_neg (by omega)]
      refine ⟨by omega, by simp [u2], fun k hk => ?_, fun r hr => ?_⟩
      · by_cases e : k = w
        · subst e
          exact ⟨l, q, by omega, by omega, g1, g2, by rw [g3]; exact ho3⟩
        · have hk' : k < w := by omega
          rw [g0 45 k (by omega) hk', g0 46 k (by omega) hk', g0 47 k (by omega) hk']
          exact w7 k hk'
      · rw [lft_s (by omega) (by omega) g0 g1 g2 g3, lft_s (by omega) (by omega) g0 g1 g2 g3, Nat.testBit_and, Nat.testBit_and, Bool.and_eq_true, Bool.and_eq_true, kp_tb hd' ho3 hr, kp_tb hd' ho3 hr, (w8 r hr).1, (w8 r hr).2]
        exact ⟨Iff.rfl, Iff.rfl⟩
    refine ⟨nI (pcN (hv &&& kpN l q a3 true) + pcN (lt &&& kpN l q a3 false)), M b (u2 (u2 (u2 (u2 F 31 0 (nI (hv &&& kpN l q a3 true))) 31 1 (nI (lt &&& kpN l q a3 false))) 31 2 (nI (w + 1))) 31 3 0) G n sw, M b (u2 (u2 (u2 (u2 (u2 (u2 (u2 (u2 F 31 0 (nI (hv &&& kpN l q a3 true))) 31 1 (nI (lt &&& kpN l q a3 false))) 31 2 (nI (w + 1))) 31 3 0) 45 w (nI l)) 46 w (nI q)) 47 w a3) 32 19 (nI (w + 1))) G n sw, ?_, ?_, rfl, _, _, _, _, rfl, ?_⟩
    · have ec := e_cases (N := NF) (b := b) (F := (u2 (u2 (u2 (u2 F 31 0 (nI (hv &&& kpN l q a3 true))) 31 1 (nI (lt &&& kpN l q a3 false))) 31 2 (nI (w + 1))) 31 3 0)) (G := G) (n := n) (sw := sw) (hv := (hv &&& kpN l q a3 true)) (lt := (lt &&& kpN l q a3 false)) (by simp [u2]) (by simp [u2]) hv5 lt5
      have k1 : (u2 F 31 0 (nI (hv &&& kpN l q a3 true))) 31 1 = nI lt := by rw [u2_ne _ _ _ _ (by omega)]; exact w6
      have k2 : (u2 (u2 F 31 0 (nI (hv &&& kpN l q a3 true))) 31 1 (nI (lt &&& kpN l q a3 false))) 31 2 = nI w := by rw [u2_ne _ _ _ _ (by omega), u2_ne _ _ _ _ (by omega)]; exact w3
      unfold fX8_weigh fX6_tell
      simp only [Option.bind_some, bI_0, Decidable.not_not, nm, b2, zr, e_isWithin, e_in, e_isGlass8, e_isGlass9, reduceIte, not_false_eq_true, not_true_eq_false, if_true, if_false, and_self, z01, z10, c00, c11, true_and, and_true, R_0_0, R_0_1, R_0_3, R_0_4, R_0_5, R_0_6, R_0_7, R_0_8, R_0_9, R_1_0, R_1_1, R_1_2, R_1_3, R_7_0, R_7_1, R_10_0, R_10_1, R_10_2, R_14_0, R_16_0, R_18_0, R_18_1, R_18_2, R_18_4, R_18_5, R_18_6, R_18_8, R_18_9, R_27_0, R_27_1, R_27_2, R_32_0, R_32_1, R_32_3, R_32_4, R_32_5, R_32_6, R_32_7, R_32_11, R_32_12, R_32_13, R_32_14, R_32_17, R_32_20, R_32_21, R_32_22, R_32_24, R_32_25, R_32_26, R_32_27, R_32_28, R_32_29, R_32_30, R_32_31, I_0_2, I_1_4, I_7_2, I_14_1, I_16_1, I_18_3, I_18_7, I_27_3, I_27_4, I_31_0, I_31_1, I_31_2, I_31_3, I_31_4, I_31_5, I_31_6, I_32_2, I_32_8, I_32_9, I_32_10, I_32_15, I_32_16, I_32_18, I_32_19, J_0_10, J_32_23, P_0_2, P_0_10, P_1_4, P_7_2, P_14_1, P_16_1, P_18_3, P_18_7, P_27_3, P_27_4, P_31_0, P_31_1, P_31_2, P_31_3, P_31_4, P_31_5, P_31_6, P_32_2, P_32_8, P_32_9, P_32_10, P_32_15, P_32_16, P_32_18, P_32_19, P_32_23, K_0, K_1, K_7, K_10, K_14, K_16, K_18, K_27, K_31, K_32, eq_true hl, eq_true hr, eq_true ho, eq_true hd, bl, bq, eq_true hb, w3, eq_true h6', as_e, w5]
      rcases ho3 with rfl | rfl | rfl
      · simp only [show ((-1 : Int32) = 0) = False from eq_false (by decide), show ((-1 : Int32) ≤ 0) = True from eq_true (by decide), Option.bind_some, bI_0, Decidable.not_not, nm, b2, zr, e_isWithin, e_in, e_isGlass8, e_isGlass9, reduceIte, not_false_eq_true, not_true_eq_false, if_true, if_false, and_self, z01, z10, c00, c11, true_and, and_true, nI_and]
        simp only [kpN, show ((-1 : Int32) = 0) = False from eq_false (by decide), show ((-1 : Int32) = 1) = False from eq_false (by decide), if_false, if_true, Bool.false_eq_true] at k1 k2 ec ⊢
        simp only [Option.bind_some, bI_0, Decidable.not_not, nm, b2, zr, e_isWithin, e_in, e_isGlass8, e_isGlass9, reduceIte, not_false_eq_true, not_true_eq_false, if_true, if_false, and_self, z01, z10, c00, c11, true_and, and_true, R_0_0, R_0_1, R_0_3, R_0_4, R_0_5, R_0_6, R_0_7, R_0_8, R_0_9, R_1_0, R_1_1, R_1_2, R_1_3, R_7_0, R_7_1, R_10_0, R_10_1, R_10_2, R_14_0, R_16_0, R_18_0, R_18_1, R_18_2, R_18_4, R_18_5, R_18_6, R_18_8, R_18_9, R_27_0, R_27_1, R_27_2, R_32_0, R_32_1, R_32_3, R_32_4, R_32_5, R_32_6, R_32_7, R_32_11, R_32_12, R_32_13, R_32_14, R_32_17, R_32_20, R_32_21, R_32_22, R_32_24, R_32_25, R_32_26, R_32_27, R_32_28, R_32_29, R_32_30, R_32_31, I_0_2, I_1_4, I_7_2, I_14_1, I_16_1, I_18_3, I_18_7, I_27_3, I_27_4, I_31_0, I_31_1, I_31_2, I_31_3, I_31_4, I_31_5, I_31_6, I_32_2, I_32_8, I_32_9, I_32_10, I_32_15, I_32_16, I_32_18, I_32_19, J_0_10, J_32_23, P_0_2, P_0_10, P_1_4, P_7_2, P_14_1, P_16_1, P_18_3, P_18_7, P_27_3, P_27_4, P_31_0, P_31_1, P_31_2, P_31_3, P_31_4, P_31_5, P_31_6, P_32_2, P_32_8, P_32_9, P_32_10, P_32_15, P_32_16, P_32_18, P_32_19, P_32_23, K_0, K_1, K_7, K_10, K_14, K_16, K_18, K_27, K_31, K_32, k1, k2, nI_and, nI_1, ec]
      · simp only [Option.bind_some, bI_0, Decidable.not_not, nm, b2, zr, e_isWithin, e_in, e_isGlass8, e_isGlass9, reduceIte, not_false_eq_true, not_true_eq_false, if_true, if_false, and_self, z01, z10, c00, c11, true_and, and_true, nI_and]
        simp only [kpN, if_true] at k1 k2 ec ⊢
        simp only [Option.bind_some, bI_0, Decidable.not_not, nm, b2, zr, e_isWithin, e_in, e_isGlass8, e_isGlass9, reduceIte, not_false_eq_true, not_true_eq_false, if_true, if_false, and_self, z01, z10, c00, c11, true_and, and_true, R_0_0, R_0_1, R_0_3, R_0_4, R_0_5, R_0_6, R_0_7, R_0_8, R_0_9, R_1_0, R_1_1, R_1_2, R_1_3, R_7_0, R_7_1, R_10_0, R_10_1, R_10_2, R_14_0, R_16_0, R_18_0, R_18_1, R_18_2, R_18_4, R_18_5, R_18_6, R_18_8, R_18_9, R_27_0, R_27_1, R_27_2, R_32_0, R_32_1, R_32_3, R_32_4, R_32_5, R_32_6, R_32_7, R_32_11, R_32_12, R_32_13, R_32_14, R_32_17, R_32_20, R_32_21, R_32_22, R_32_24, R_32_25, R_32_26, R_32_27, R_32_28, R_32_29, R_32_30, R_32_31, I_0_2, I_1_4, I_7_2, I_14_1, I_16_1, I_18_3, I_18_7, I_27_3, I_27_4, I_31_0, I_31_1, I_31_2, I_31_3, I_31_4, I_31_5, I_31_6, I_32_2, I_32_8, I_32_9, I_32_10, I_32_15, I_32_16, I_32_18, I_32_19, J_0_10, J_32_23, P_0_2, P_0_10, P_1_4, P_7_2, P_14_1, P_16_1, P_18_3, P_18_7, P_27_3, P_27_4, P_31_0, P_31_1, P_31_2, P_31_3, P_31_4, P_31_5, P_31_6, P_32_2, P_32_8, P_32_9, P_32_10, P_32_15, P_32_16, P_32_18, P_32_19, P_32_23, K_0, K_1, K_7, K_10, K_14, K_16, K_18, K_27, K_31, K_32, k1, k2, nI_and, nI_1, ec]
      · simp only [show ((1 : Int32) ≤ 0) = False from eq_false (by decide), Option.bind_some, bI_0, Decidable.not_not, nm, b2, zr, e_isWithin, e_in, e_isGlass8, e_isGlass9, reduceIte, not_false_eq_true, not_true_eq_false, if_true, if_false, and_self, z01, z10, c00, c11, true_and, and_true, nI_and]
        simp only [kpN, z10, if_false, if_true, Bool.false_eq_true] at k1 k2 ec ⊢
        simp only [Option.bind_some, bI_0, Decidable.not_not, nm, b2, zr, e_isWithin, e_in, e_isGlass8, e_isGlass9, reduceIte, not_false_eq_true, not_true_eq_false, if_true, if_false, and_self, z01, z10, c00, c11, true_and, and_true, R_0_0, R_0_1, R_0_3, R_0_4, R_0_5, R_0_6, R_0_7, R_0_8, R_0_9, R_1_0, R_1_1, R_1_2, R_1_3, R_7_0, R_7_1, R_10_0, R_10_1, R_10_2, R_14_0, R_16_0, R_18_0, R_18_1, R_18_2, R_18_4, R_18_5, R_18_6, R_18_8, R_18_9, R_27_0, R_27_1, R_27_2, R_32_0, R_32_1, R_32_3, R_32_4, R_32_5, R_32_6, R_32_7, R_32_11, R_32_12, R_32_13, R_32_14, R_32_17, R_32_20, R_32_21, R_32_22, R_32_24, R_32_25, R_32_26, R_32_27, R_32_28, R_32_29, R_32_30, R_32_31, I_0_2, I_1_4, I_7_2, I_14_1, I_16_1, I_18_3, I_18_7, I_27_3, I_27_4, I_31_0, I_31_1, I_31_2, I_31_3, I_31_4, I_31_5, I_31_6, I_32_2, I_32_8, I_32_9, I_32_10, I_32_15, I_32_16, I_32_18, I_32_19, J_0_10, J_32_23, P_0_2, P_0_10, P_1_4, P_7_2, P_14_1, P_16_1, P_18_3, P_18_7, P_27_3, P_27_4, P_31_0, P_31_1, P_31_2, P_31_3, P_31_4, P_31_5, P_31_6, P_32_2, P_32_8, P_32_9, P_32_10, P_32_15, P_32_16, P_32_18, P_32_19, P_32_23, K_0, K_1, K_7, K_10, K_14, K_16, K_18, K_27, K_31, K_32, k1, k2, nI_and, nI_1, ec]
    · have k1 : (u2 (u2 (u2 (u2 F 31 0 (nI (hv &&& kpN l q a3 true))) 31 1 (nI (lt &&& kpN l q a3 false))) 31 2 (nI (w + 1))) 31 3 0) 32 19 = nI w := by simp only [u2, uR]; (repeat rw [if_neg (by omega)]); exact w4
      have k2 : u2 (u2 (u2 (u2 (u2 F 31 0 (nI (hv &&& kpN l q a3 true))) 31 1 (nI (lt &&& kpN l q a3 false))) 31 2 (nI (w + 1))) 31 3 0) 45 w (nI l) 32 19 = nI w := by simp only [u2, uR]; (repeat rw [if_neg (by omega)]); exact w4
      have k3 : u2 (u2 (u2 (u2 (u2 (u2 F 31 0 (nI (hv &&& kpN l q a3 true))) 31 1 (nI (lt &&& kpN l q a3 false))) 31 2 (nI (w + 1))) 31 3 0) 45 w (nI l)) 46 w (nI q) 32 19 = nI w := by simp only [u2, uR]; (repeat rw [if_neg (by omega)]); exact w4
      have k4 : u2 (u2 (u2 (u2 (u2 (u2 (u2 F 31 0 (nI (hv &&& kpN l q a3 true))) 31 1 (nI (lt &&& kpN l q a3 false))) 31 2 (nI (w + 1))) 31 3 0) 45 w (nI l)) 46 w (nI q)) 47 w a3 32 19 = nI w := by simp only [u2, uR]; (repeat rw [if_neg (by omega)]); exact w4
      unfold fX9_weigh fX9_isWeighing
      simp only [Option.bind_some, bI_0, Decidable.not_not, nm, b2, zr, e_isWithin, e_in, e_isGlass8, e_isGlass9, reduceIte, not_false_eq_true, not_true_eq_false, if_true, if_false, and_self, z01, z10, c00, c11, true_and, and_true, R_0_0, R_0_1, R_0_3, R_0_4, R_0_5, R_0_6, R_0_7, R_0_8, R_0_9, R_1_0, R_1_1, R_1_2, R_1_3, R_7_0, R_7_1, R_10_0, R_10_1, R_10_2, R_14_0, R_16_0, R_18_0, R_18_1, R_18_2, R_18_4, R_18_5, R_18_6, R_18_8, R_18_9, R_27_0, R_27_1, R_27_2, R_32_0, R_32_1, R_32_3, R_32_4, R_32_5, R_32_6, R_32_7, R_32_11, R_32_12, R_32_13, R_32_14, R_32_17, R_32_20, R_32_21, R_32_22, R_32_24, R_32_25, R_32_26, R_32_27, R_32_28, R_32_29, R_32_30, R_32_31, I_0_2, I_1_4, I_7_2, I_14_1, I_16_1, I_18_3, I_18_7, I_27_3, I_27_4, I_31_0, I_31_1, I_31_2, I_31_3, I_31_4, I_31_5, I_31_6, I_32_2, I_32_8, I_32_9, I_32_10, I_32_15, I_32_16, I_32_18, I_32_19, J_0_10, J_32_23, P_0_2, P_0_10, P_1_4, P_7_2, P_14_1, P_16_1, P_18_3, P_18_7, P_27_3, P_27_4, P_31_0, P_31_1, P_31_2, P_31_3, P_31_4, P_31_5, P_31_6, P_32_2, P_32_8, P_32_9, P_32_10, P_32_15, P_32_16, P_32_18, P_32_19, P_32_23, K_0, K_1, K_7, K_10, K_14, K_16, K_18, K_27, K_31, K_32, eq_true hl, eq_true hr, eq_true hd, cl, cq, eq_true hb, eq_true ho, k1, eq_false h6e, T_45 h6, k2, T_46 h6, k3, T_47 h6, k4, nI_1, e_leftMany hW (show 20 ≤ NF by decide)]
    · refine ⟨r1, by simp only [u2, uR]; (repeat rw [if_neg (by omega)]); exact r2, by simp only [u2, uR]; (repeat rw [if_neg (by omega)]); exact r3, r4, RGl_c (fun k j h => by simp only [u2, uR]; repeat rw [if_neg (by omega)]) (fun _ _ _ => rfl) r5, RTol_c (fun k j h => by simp only [u2, uR]; repeat rw [if_neg (by omega)]) r6, RTab_c (fun k j h => by simp only [u2, uR]; repeat rw [if_neg (by omega)]) r7, fun i hi => RCane_c (fun k j h => by simp only [u2, uR]; repeat rw [if_neg (by omega)]) (r8 i hi), RWish_c (fun k j h => by simp only [u2, uR]; repeat rw [if_neg (by omega)]) r9, RSlice_c (fun k j h => by simp only [u2, uR]; repeat rw [if_neg (by omega)]) r10, ROrd_c (fun k j h => by simp only [u2, uR]; repeat rw [if_neg (by omega)]) r11, ⟨w + 1, (hv &&& kpN l q a3 true), (lt &&& kpN l q a3 false), by omega, hv5, lt5, by simp [u2], by simp [u2], by simp [u2], by simp [u2], hW.2.2.1, hW.2.2.2⟩, Or.inl (by simp [u2])⟩
  · have h6' : ¬ nI w < (6 : Int32) := nI_nlt (b := 6) (by omega) (by omega)
    have h6e : nI w = (6 : Int32) := by rw [show w = 6 by omega]; rfl
    refine ⟨-3, M b F G n sw, M b F G n sw, ?_, ?_, rfl, F, G, n, sw, rfl, hR⟩
    · unfold fX8_weigh
      simp only [Option.bind_some, bI_0, Decidable.not_not, nm, b2, zr, e_isWithin, e_in, e_isGlass8, e_isGlass9, reduceIte, not_false_eq_true, not_true_eq_false, if_true, if_false, and_self, z01, z10, c00, c11, true_and, and_true, R_0_0, R_0_1, R_0_3, R_0_4, R_0_5, R_0_6, R_0_7, R_0_8, R_0_9, R_1_0, R_1_1, R_1_2, R_1_3, R_7_0, R_7_1, R_10_0, R_10_1, R_10_2, R_14_0, R_16_0, R_18_0, R_18_1, R_18_2, R_18_4, R_18_5, R_18_6, R_18_8, R_18_9, R_27_0, R_27_1, R_27_2, R_32_0, R_32_1, R_32_3, R_32_4, R_32_5, R_32_6, R_32_7, R_32_11, R_32_12, R_32_13, R_32_14, R_32_17, R_32_20, R_32_21, R_32_22, R_32_24, R_32_25, R_32_26, R_32_27, R_32_28, R_32_29, R_32_30, R_32_31, I_0_2, I_1_4, I_7_2, I_14_1, I_16_1, I_18_3, I_18_7, I_27_3, I_27_4, I_31_0, I_31_1, I_31_2, I_31_3, I_31_4, I_31_5, I_31_6, I_32_2, I_32_8, I_32_9, I_32_10, I_32_15, I_32_16, I_32_18, I_32_19, J_0_10, J_32_23, P_0_2, P_0_10, P_1_4, P_7_2, P_14_1, P_16_1, P_18_3, P_18_7, P_27_3, P_27_4, P_31_0, P_31_1, P_31_2, P_31_3, P_31_4, P_31_5, P_31_6, P_32_2, P_32_8, P_32_9, P_32_10, P_32_15, P_32_16, P_32_18, P_32_19, P_32_23, K_0, K_1, K_7, K_10, K_14, K_16, K_18, K_27, K_31, K_32, eq_true hl, eq_true hr, eq_true ho, eq_true hd, bl, bq, eq_true hb, w3, eq_false h6']
    · unfold fX9_weigh fX9_isWeighing
      simp only [Option.bind_some, bI_0, Decidable.not_not, nm, b2, zr, e_isWithin, e_in, e_isGlass8, e_isGlass9, reduceIte, not_false_eq_true, not_true_eq_false, if_true, if_false, and_self, z01, z10, c00, c11, true_and, and_true, R_0_0, R_0_1, R_0_3, R_0_4, R_0_5, R_0_6, R_0_7, R_0_8, R_0_9, R_1_0, R_1_1, R_1_2, R_1_3, R_7_0, R_7_1, R_10_0, R_10_1, R_10_2, R_14_0, R_16_0, R_18_0, R_18_1, R_18_2, R_18_4, R_18_5, R_18_6, R_18_8, R_18_9, R_27_0, R_27_1, R_27_2, R_32_0, R_32_1, R_32_3, R_32_4, R_32_5, R_32_6, R_32_7, R_32_11, R_32_12, R_32_13, R_32_14, R_32_17, R_32_20, R_32_21, R_32_22, R_32_24, R_32_25, R_32_26, R_32_27, R_32_28, R_32_29, R_32_30, R_32_31, I_0_2, I_1_4, I_7_2, I_14_1, I_16_1, I_18_3, I_18_7, I_27_3, I_27_4, I_31_0, I_31_1, I_31_2, I_31_3, I_31_4, I_31_5, I_31_6, I_32_2, I_32_8, I_32_9, I_32_10, I_32_15, I_32_16, I_32_18, I_32_19, J_0_10, J_32_23, P_0_2, P_0_10, P_1_4, P_7_2, P_14_1, P_16_1, P_18_3, P_18_7, P_27_3, P_27_4, P_31_0, P_31_1, P_31_2, P_31_3, P_31_4, P_31_5, P_31_6, P_32_2, P_32_8, P_32_9, P_32_10, P_32_15, P_32_16, P_32_18, P_32_19, P_32_23, K_0, K_1, K_7, K_10, K_14, K_16, K_18, K_27, K_31, K_32, eq_true hl, eq_true hr, eq_true hd, cl, cq, eq_true hb, eq_true ho, w4, h6e]
section BD
variable {b : Nat} {F : mI} {G : mJ} {n : Nat} {sw : Bool} {N : Nat}
theorem nI_2 (a : Nat) : nI a + 2 = nI (a + 2) := nI_add a 2
theorem e_bad26 {w hv lt : Nat} {X d : Nat} (hW : RW9 F w hv lt) (hd : d < 2) (hX : X = if d = 0 then hv else lt) (hX5 : X < 512) (hN : 20 ≤ N) : lX9_bad_26 N (M b F G n sw) (some (b + 32)) N 0 (nI d) = some (nI X) := by
  have hc : ∀ i, cs hv lt (2 * i + d) = X.testBit i := by
    intro i
    unfold cs
    rw [show (2 * i + d) / 2 = i by omega]
    rcases (show d = 0 ∨ d = 1 by omega) with rfl | rfl
    · rw [if_pos (by omega), hX, if_pos rfl]
    · rw [if_neg (by omega), hX, if_neg (by omega)]
  have hbe : bN X.testBit 9 = X := by
    apply Nat.eq_of_testBit_eq
    intro j
    rw [bN_tb]
    by_cases hj : j < 9
    · simp [hj]
    · have : X.testBit j = false := Nat.testBit_lt_two_pow (Nat.lt_of_lt_of_le (show X < 2 ^ 9 from hX5) (Nat.pow_le_pow_right (by omega) (by omega)))
      simp [this]
  have key : ∀ (m i : Nat), i ≤ 9 → 9 - i < m → lX9_bad_26 N (M b F G n sw) (some (b + 32)) m (nI (bN X.testBit i)) (nI (2 * i + d)) = some (nI X) := by
    intro m
    induction m with
    | zero => intro i h1 h2; omega
    | succ m ih =>
      intro i h1 h2
      by_cases hi : i < 9
      · have hs : (1 : Int32) <<< (nI (2 * i + d) / (2 : Int32) &&& 31) = nI (2 ^ i) := by
          rw [show nI (2 * i + d) / (2 : Int32) = nI ((2 * i + d) / 2) from pk_div (d := 2) (by omega) (by decide) (by decide), show (2 * i + d) / 2 = i by omega, nI_bit (by omega)]
        rw [lX9_bad_26, if_neg (show ¬ (18 : Int32) ≤ nI (2 * i + d) from nI_ge (b := 18) (by omega) (by decide)), e_isLeft hW (by omega) hN, hc i]
        simp only [Option.bind_some, nm, nI_2, show 2 * i + d + 2 = 2 * (i + 1) + d by omega, hs]
        by_cases hb : X.testBit i = true
        · rw [bI_t hb, if_neg z10, nI_or]
          have : bN X.testBit i ||| 2 ^ i = bN X.testBit (i + 1) := by simp only [bN, hb, if_true]
          rw [this]
          exact ih (i + 1) (by omega) (by omega)
        · rw [bI_f hb, if_pos rfl, show (0 : Int32) = nI 0 from rfl, nI_or]
          have : bN X.testBit i ||| 0 = bN X.testBit (i + 1) := by simp only [bN, hb]; rfl
          rw [this]
          exact ih (i + 1) (by omega) (by omega)
      · have e : i = 9 := by omega
        subst e
        rw [lX9_bad_26, if_pos (show (18 : Int32) ≤ nI (2 * 9 + d) from nI_le (a := 18) (by omega) (by omega)), hbe]
  have := key N 0 (by omega) (by omega)
  rw [Nat.mul_zero, Nat.zero_add] at this
  exact this
end BD
theorem st_bad (b : Nat) : St_bad b (b + 32) (Inv b (b + 32)) := by
  rintro S ⟨-, F, G, n, sw, rfl, hR⟩ a1
  obtain ⟨r1, r2, r3, r4, r5, r6, r7, r8, r9, r10, r11, ⟨w, hv, lt, w0, w1, w2, w3, w4, w5, w6, w7, w8⟩, r13⟩ := id hR
  have hW : RW9 F w hv lt := ⟨w0, w4, w7, w8⟩
  by_cases h : (0 : Int32) ≤ a1 ∧ a1 ≤ 2
  · obtain ⟨k, -, hk, rfl⟩ := rng 0 2 rfl rfl (by decide) (by decide) h
    rcases (show k = 0 ∨ k = 1 ∨ k = 2 by omega) with rfl | rfl | rfl
    · refine ⟨nI (pcN hv + pcN lt), ?_, ?_⟩
      · unfold fX8_bad
        simp only [Option.bind_some, bI_0, Decidable.not_not, nm, b2, zr, e_isWithin, e_in, e_isGlass8, e_isGlass9, reduceIte, not_false_eq_true, not_true_eq_false, if_true, if_false, and_self, z01, z10, c00, c11, true_and, and_true, R_0_0, R_0_1, R_0_3, R_0_4, R_0_5, R_0_6, R_0_7, R_0_8, R_0_9, R_1_0, R_1_1, R_1_2, R_1_3, R_7_0, R_7_1, R_10_0, R_10_1, R_10_2, R_14_0, R_16_0, R_18_0, R_18_1, R_18_2, R_18_4, R_18_5, R_18_6, R_18_8, R_18_9, R_27_0, R_27_1, R_27_2, R_32_0, R_32_1, R_32_3, R_32_4, R_32_5, R_32_6, R_32_7, R_32_11, R_32_12, R_32_13, R_32_14, R_32_17, R_32_20, R_32_21, R_32_22, R_32_24, R_32_25, R_32_26, R_32_27, R_32_28, R_32_29, R_32_30, R_32_31, I_0_2, I_1_4, I_7_2, I_14_1, I_16_1, I_18_3, I_18_7, I_27_3, I_27_4, I_31_0, I_31_1, I_31_2, I_31_3, I_31_4, I_31_5, I_31_6, I_32_2, I_32_8, I_32_9, I_32_10, I_32_15, I_32_16, I_32_18, I_32_19, J_0_10, J_32_23, P_0_2, P_0_10, P_1_4, P_7_2, P_14_1, P_16_1, P_18_3, P_18_7, P_27_3, P_27_4, P_31_0, P_31_1, P_31_2, P_31_3, P_31_4, P_31_5, P_31_6, P_32_2, P_32_8, P_32_9, P_32_10, P_32_15, P_32_16, P_32_18, P_32_19, P_32_23, K_0, K_1, K_7, K_10, K_14, K_16, K_18, K_27, K_31, K_32, show nI 0 = (0 : Int32) from rfl, e_cases w5 w6 w1 w2]
      · unfold fX9_bad
        simp only [Option.bind_some, bI_0, Decidable.not_not, nm, b2, zr, e_isWithin, e_in, e_isGlass8, e_isGlass9, reduceIte, not_false_eq_true, not_true_eq_false, if_true, if_false, and_self, z01, z10, c00, c11, true_and, and_true, R_0_0, R_0_1, R_0_3, R_0_4, R_0_5, R_0_6, R_0_7, R_0_8, R_0_9, R_1_0, R_1_1, R_1_2, R_1_3, R_7_0, R_7_1, R_10_0, R_10_1, R_10_2, R_14_0, R_16_0, R_18_0, R_18_1, R_18_2, R_18_4, R_18_5, R_18_6, R_18_8, R_18_9, R_27_0, R_27_1, R_27_2, R_32_0, R_32_1, R_32_3, R_32_4, R_32_5, R_32_6, R_32_7, R_32_11, R_32_12, R_32_13, R_32_14, R_32_17, R_32_20, R_32_21, R_32_22, R_32_24, R_32_25, R_32_26, R_32_27, R_32_28, R_32_29, R_32_30, R_32_31, I_0_2, I_1_4, I_7_2, I_14_1, I_16_1, I_18_3, I_18_7, I_27_3, I_27_4, I_31_0, I_31_1, I_31_2, I_31_3, I_31_4, I_31_5, I_31_6, I_32_2, I_32_8, I_32_9, I_32_10, I_32_15, I_32_16, I_32_18, I_32_19, J_0_10, J_32_23, P_0_2, P_0_10, P_1_4, P_7_2, P_14_1, P_16_1, P_18_3, P_18_7, P_27_3, P_27_4, P_31_0, P_31_1, P_31_2, P_31_3, P_31_4, P_31_5, P_31_6, P_32_2, P_32_8, P_32_9, P_32_10, P_32_15, P_32_16, P_32_18, P_32_19, P_32_23, K_0, K_1, K_7, K_10, K_14, K_16, K_18, K_27, K_31, K_32, eq_true h, show nI 0 = (0 : Int32) from rfl, e_leftMany hW (show 20 ≤ NF by decide)]
        rw [show nI 0 = (0 : Int32) from rfl] at h
        simp only [eq_true h, Option.bind_some, bI_0, Decidable.not_not, nm, b2, zr, e_isWithin, e_in, e_isGlass8, e_isGlass9, reduceIte, not_false_eq_true, not_true_eq_false, if_true, if_false, and_self, z01, z10, c00, c11, true_and, and_true]
    · have e := e_bad26 (N := NF) (b := b) (G := G) (n := n) (sw := sw) (X := hv) (d := 0) hW (by omega) rfl w1 (by decide)
      rw [show nI 0 = (0 : Int32) from rfl] at e
      rw [show nI 1 = (1 : Int32) from rfl] at h ⊢
      refine ⟨nI hv, ?_, ?_⟩
      · unfold fX8_bad
        simp only [Option.bind_some, bI_0, Decidable.not_not, nm, b2, zr, e_isWithin, e_in, e_isGlass8, e_isGlass9, reduceIte, not_false_eq_true, not_true_eq_false, if_true, if_false, and_self, z01, z10, c00, c11, true_and, and_true, R_0_0, R_0_1, R_0_3, R_0_4, R_0_5, R_0_6, R_0_7, R_0_8, R_0_9, R_1_0, R_1_1, R_1_2, R_1_3, R_7_0, R_7_1, R_10_0, R_10_1, R_10_2, R_14_0, R_16_0, R_18_0, R_18_1, R_18_2, R_18_4, R_18_5, R_18_6, R_18_8, R_18_9, R_27_0, R_27_1, R_27_2, R_32_0, R_32_1, R_32_3, R_32_4, R_32_5, R_32_6, R_32_7, R_32_11, R_32_12, R_32_13, R_32_14, R_32_17, R_32_20, R_32_21, R_32_22, R_32_24, R_32_25, R_32_26, R_32_27, R_32_28, R_32_29, R_32_30, R_32_31, I_0_2, I_1_4, I_7_2, I_14_1, I_16_1, I_18_3, I_18_7, I_27_3, I_27_4, I_31_0, I_31_1, I_31_2, I_31_3, I_31_4, I_31_5, I_31_6, I_32_2, I_32_8, I_32_9, I_32_10, I_32_15, I_32_16, I_32_18, I_32_19, J_0_10, J_32_23, P_0_2, P_0_10, P_1_4, P_7_2, P_14_1, P_16_1, P_18_3, P_18_7, P_27_3, P_27_4, P_31_0, P_31_1, P_31_2, P_31_3, P_31_4, P_31_5, P_31_6, P_32_2, P_32_8, P_32_9, P_32_10, P_32_15, P_32_16, P_32_18, P_32_19, P_32_23, K_0, K_1, K_7, K_10, K_14, K_16, K_18, K_27, K_31, K_32, w5]
      · unfold fX9_bad
        simp only [Option.bind_some, bI_0, Decidable.not_not, nm, b2, zr, e_isWithin, e_in, e_isGlass8, e_isGlass9, reduceIte, not_false_eq_true, not_true_eq_false, if_true, if_false, and_self, z01, z10, c00, c11, true_and, and_true, R_0_0, R_0_1, R_0_3, R_0_4, R_0_5, R_0_6, R_0_7, R_0_8, R_0_9, R_1_0, R_1_1, R_1_2, R_1_3, R_7_0, R_7_1, R_10_0, R_10_1, R_10_2, R_14_0, R_16_0, R_18_0, R_18_1, R_18_2, R_18_4, R_18_5, R_18_6, R_18_8, R_18_9, R_27_0, R_27_1, R_27_2, R_32_0, R_32_1, R_32_3, R_32_4, R_32_5, R_32_6, R_32_7, R_32_11, R_32_12, R_32_13, R_32_14, R_32_17, R_32_20, R_32_21, R_32_22, R_32_24, R_32_25, R_32_26, R_32_27, R_32_28, R_32_29, R_32_30, R_32_31, I_0_2, I_1_4, I_7_2, I_14_1, I_16_1, I_18_3, I_18_7, I_27_3, I_27_4, I_31_0, I_31_1, I_31_2, I_31_3, I_31_4, I_31_5, I_31_6, I_32_2, I_32_8, I_32_9, I_32_10, I_32_15, I_32_16, I_32_18, I_32_19, J_0_10, J_32_23, P_0_2, P_0_10, P_1_4, P_7_2, P_14_1, P_16_1, P_18_3, P_18_7, P_27_3, P_27_4, P_31_0, P_31_1, P_31_2, P_31_3, P_31_4, P_31_5, P_31_6, P_32_2, P_32_8, P_32_9, P_32_10, P_32_15, P_32_16, P_32_18, P_32_19, P_32_23, K_0, K_1, K_7, K_10, K_14, K_16, K_18, K_27, K_31, K_32, eq_true h, show (1 : Int32) - 1 = 0 from rfl, e]
    · have e := e_bad26 (N := NF) (b := b) (G := G) (n := n) (sw := sw) (X := lt) (d := 1) hW (by omega) rfl w2 (by decide)
      rw [show nI 1 = (1 : Int32) from rfl] at e
      rw [show nI 2 = (2 : Int32) from rfl] at h ⊢
      refine ⟨nI lt, ?_, ?_⟩
      · unfold fX8_bad
        simp only [Option.bind_some, bI_0, Decidable.not_not, nm, b2, zr, e_isWithin, e_in, e_isGlass8, e_isGlass9, reduceIte, not_false_eq_true, not_true_eq_false, if_true, if_false, and_self, z01, z10, c00, c11, true_and, and_true, R_0_0, R_0_1, R_0_3, R_0_4, R_0_5, R_0_6, R_0_7, R_0_8, R_0_9, R_1_0, R_1_1, R_1_2, R_1_3, R_7_0, R_7_1, R_10_0, R_10_1, R_10_2, R_14_0, R_16_0, R_18_0, R_18_1, R_18_2, R_18_4, R_18_5, R_18_6, R_18_8, R_18_9, R_27_0, R_27_1, R_27_2, R_32_0, R_32_1, R_32_3, R_32_4, R_32_5, R_32_6, R_32_7, R_32_11, R_32_12, R_32_13, R_32_14, R_32_17, R_32_20, R_32_21, R_32_22, R_32_24, R_32_25, R_32_26, R_32_27, R_32_28, R_32_29, R_32_30, R_32_31, I_0_2, I_1_4, I_7_2, I_14_1, I_16_1, I_18_3, I_18_7, I_27_3, I_27_4, I_31_0, I_31_1, I_31_2, I_31_3, I_31_4, I_31_5, I_31_6, I_32_2, I_32_8, I_32_9, I_32_10, I_32_15, I_32_16, I_32_18, I_32_19, J_0_10, J_32_23, P_0_2, P_0_10, P_1_4, P_7_2, P_14_1, P_16_1, P_18_3, P_18_7, P_27_3, P_27_4, P_31_0, P_31_1, P_31_2, P_31_3, P_31_4, P_31_5, P_31_6, P_32_2, P_32_8, P_32_9, P_32_10, P_32_15, P_32_16, P_32_18, P_32_19, P_32_23, K_0, K_1, K_7, K_10, K_14, K_16, K_18, K_27, K_31, K_32, w6, show ((2 : Int32) = 0) = False from eq_false (by decide), show ((2 : Int32) = 1) = False from eq_false (by decide)]
      · unfold fX9_bad
        simp only [Option.bind_some, bI_0, Decidable.not_not, nm, b2, zr, e_isWithin, e_in, e_isGlass8, e_isGlass9, reduceIte, not_false_eq_true, not_true_eq_false, if_true, if_false, and_self, z01, z10, c00, c11, true_and, and_true, R_0_0, R_0_1, R_0_3, R_0_4, R_0_5, R_0_6, R_0_7, R_0_8, R_0_9, R_1_0, R_1_1, R_1_2, R_1_3, R_7_0, R_7_1, R_10_0, R_10_1, R_10_2, R_14_0, R_16_0, R_18_0, R_18_1, R_18_2, R_18_4, R_18_5, R_18_6, R_18_8, R_18_9, R_27_0, R_27_1, R_27_2, R_32_0, R_32_1, R_32_3, R_32_4, R_32_5, R_32_6, R_32_7, R_32_11, R_32_12, R_32_13, R_32_14, R_32_17, R_32_20, R_32_21, R_32_22, R_32_24, R_32_25, R_32_26, R_32_27, R_32_28, R_32_29, R_32_30, R_32_31, I_0_2, I_1_4, I_7_2, I_14_1, I_16_1, I_18_3, I_18_7, I_27_3, I_27_4, I_31_0, I_31_1, I_31_2, I_31_3, I_31_4, I_31_5, I_31_6, I_32_2, I_32_8, I_32_9, I_32_10, I_32_15, I_32_16, I_32_18, I_32_19, J_0_10, J_32_23, P_0_2, P_0_10, P_1_4, P_7_2, P_14_1, P_16_1, P_18_3, P_18_7, P_27_3, P_27_4, P_31_0, P_31_1, P_31_2, P_31_3, P_31_4, P_31_5, P_31_6, P_32_2, P_32_8, P_32_9, P_32_10, P_32_15, P_32_16, P_32_18, P_32_19, P_32_23, K_0, K_1, K_7, K_10, K_14, K_16, K_18, K_27, K_31, K_32, eq_true h, show ((2 : Int32) = 0) = False from eq_false (by decide), show (2 : Int32) - 1 = 1 from rfl, e]
  · have n0 : ¬ a1 = 0 := fun z => h (by rw [z]; decide)
    have n1 : ¬ a1 = 1 := fun z => h (by rw [z]; decide)
    have n2 : ¬ a1 = 2 := fun z => h (by rw [z]; decide)
    refine ⟨-1, ?_, ?_⟩
    · unfold fX8_bad
      simp only [Option.bind_some, bI_0, Decidable.not_not, nm, b2, zr, e_isWithin, e_in, e_isGlass8, e_isGlass9, reduceIte, not_false_eq_true, not_true_eq_false, if_true, if_false, and_self, z01, z10, c00, c11, true_and, and_true, R_0_0, R_0_1, R_0_3, R_0_4, R_0_5, R_0_6, R_0_7, R_0_8, R_0_9, R_1_0, R_1_1, R_1_2, R_1_3, R_7_0, R_7_1, R_10_0, R_10_1, R_10_2, R_14_0, R_16_0, R_18_0, R_18_1, R_18_2, R_18_4, R_18_5, R_18_6, R_18_8, R_18_9, R_27_0, R_27_1, R_27_2, R_32_0, R_32_1, R_32_3, R_32_4, R_32_5, R_32_6, R_32_7, R_32_11, R_32_12, R_32_13, R_32_14, R_32_17, R_32_20, R_32_21, R_32_22, R_32_24, R_32_25, R_32_26, R_32_27, R_32_28, R_32_29, R_32_30, R_32_31, I_0_2, I_1_4, I_7_2, I_14_1, I_16_1, I_18_3, I_18_7, I_27_3, I_27_4, I_31_0, I_31_1, I_31_2, I_31_3, I_31_4, I_31_5, I_31_6, I_32_2, I_32_8, I_32_9, I_32_10, I_32_15, I_32_16, I_32_18, I_32_19, J_0_10, J_32_23, P_0_2, P_0_10, P_1_4, P_7_2, P_14_1, P_16_1, P_18_3, P_18_7, P_27_3, P_27_4, P_31_0, P_31_1, P_31_2, P_31_3, P_31_4, P_31_5, P_31_6, P_32_2, P_32_8, P_32_9, P_32_10, P_32_15, P_32_16, P_32_18, P_32_19, P_32_23, K_0, K_1, K_7, K_10, K_14, K_16, K_18, K_27, K_31, K_32, eq_false n0, eq_false n1, eq_false n2]
    · unfold fX9_bad
      simp only [Option.bind_some, bI_0, Decidable.not_not, nm, b2, zr, e_isWithin, e_in, e_isGlass8, e_isGlass9, reduceIte, not_false_eq_true, not_true_eq_false, if_true, if_false, and_self, z01, z10, c00, c11, true_and, and_true, R_0_0, R_0_1, R_0_3, R_0_4, R_0_5, R_0_6, R_0_7, R_0_8, R_0_9, R_1_0, R_1_1, R_1_2, R_1_3, R_7_0, R_7_1, R_10_0, R_10_1, R_10_2, R_14_0, R_16_0, R_18_0, R_18_1, R_18_2, R_18_4, R_18_5, R_18_6, R_18_8, R_18_9, R_27_0, R_27_1, R_27_2, R_32_0, R_32_1, R_32_3, R_32_4, R_32_5, R_32_6, R_32_7, R_32_11, R_32_12, R_32_13, R_32_14, R_32_17, R_32_20, R_32_21, R_32_22, R_32_24, R_32_25, R_32_26, R_32_27, R_32_28, R_32_29, R_32_30, R_32_31, I_0_2, I_1_4, I_7_2, I_14_1, I_16_1, I_18_3, I_18_7, I_27_3, I_27_4, I_31_0, I_31_1, I_31_2, I_31_3, I_31_4, I_31_5, I_31_6, I_32_2, I_32_8, I_32_9, I_32_10, I_32_15, I_32_16, I_32_18, I_32_19, J_0_10, J_32_23, P_0_2, P_0_10, P_1_4, P_7_2, P_14_1, P_16_1, P_18_3, P_18_7, P_27_3, P_27_4, P_31_0, P_31_1, P_31_2, P_31_3, P_31_4, P_31_5, P_31_6, P_32_2, P_32_8, P_32_9, P_32_10, P_32_15, P_32_16, P_32_18, P_32_19, P_32_23, K_0, K_1, K_7, K_10, K_14, K_16, K_18, K_27, K_31, K_32, eq_false h]
