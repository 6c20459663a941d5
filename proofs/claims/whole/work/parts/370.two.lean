/-! ===== 370: bits; two ===== -/
theorem nI_and (a c : Nat) : nI a &&& nI c = nI (a &&& c) := by
  apply Int32.toBitVec_inj.mp
  show BitVec.ofNat 32 a &&& BitVec.ofNat 32 c = BitVec.ofNat 32 (a &&& c)
  rw [BitVec.ofNat_and]
theorem nI_or (a c : Nat) : nI a ||| nI c = nI (a ||| c) := by
  apply Int32.toBitVec_inj.mp
  show BitVec.ofNat 32 a ||| BitVec.ofNat 32 c = BitVec.ofNat 32 (a ||| c)
  rw [BitVec.ofNat_or]
theorem nI_xor (a c : Nat) : nI a ^^^ nI c = nI (a ^^^ c) := by
  apply Int32.toBitVec_inj.mp
  show BitVec.ofNat 32 a ^^^ BitVec.ofNat 32 c = BitVec.ofNat 32 (a ^^^ c)
  rw [BitVec.ofNat_xor]
theorem nI_bit {k : Nat} (h : k < 31) : (1 : Int32) <<< (nI k &&& 31) = nI (2 ^ k) := by
  have q : ∀ k : Fin 31, (1 : Int32) <<< (nI k.1 &&& 31) = nI (2 ^ k.1) := by decide
  exact q ⟨k, h⟩
theorem nI_m1 : (-1 : Int32) = nI (2 ^ 32 - 1) := by decide
def bN (a : Nat → Bool) : Nat → Nat
  | 0 => 0
  | i + 1 => bN a i ||| (if a i then 2 ^ i else 0)
theorem bN_tb (a : Nat → Bool) (j : Nat) : ∀ p, (bN a p).testBit j = (decide (j < p) && a j)
  | 0 => by simp [bN]
  | p + 1 => by
    simp only [bN, Nat.testBit_or, bN_tb a j p]
    by_cases h : j = p
    · subst h
      cases a j <;> simp
    · have h1 : (if a p = true then 2 ^ p else 0).testBit j = false := by
        cases a p
        · simp
        · simp only [if_true, Nat.testBit_two_pow]
          simp; omega
      rw [h1]
      have h2 : (j < p + 1) = (j < p) := by
        apply propext; omega
      simp [h2]
theorem bN_lt (a : Nat → Bool) : ∀ p, bN a p < 2 ^ p
  | 0 => by simp [bN]
  | p + 1 => by
    simp only [bN]
    refine Nat.or_lt_two_pow ?_ ?_
    · exact Nat.lt_of_lt_of_le (bN_lt a p) (Nat.pow_le_pow_right (by omega) (by omega))
    · split
      · exact Nat.pow_lt_pow_right (by omega) (by omega)
      · exact Nat.pow_pos (by omega)
theorem w8_bN (a : Nat → Bool) : ∀ p, p ≤ 31 → w8 a p = nI (bN a p)
  | 0, _ => rfl
  | p + 1, h => by
    simp only [w8, bN, w8_bN a p (by omega), nI_bit (show p < 31 by omega)]
    split
    · rw [nI_or]
    · rw [show (0 : Int32) = nI 0 from rfl, nI_or]
theorem subN {X Y : Nat} (hX : X < 2 ^ 31) (hY : Y < 2 ^ 31) : (nI X &&& nI Y = nI Y) ↔ ∀ j, Y.testBit j = true → X.testBit j = true := by
  rw [nI_and, nI_eq (Nat.lt_of_le_of_lt Nat.and_le_right hY) hY]
  constructor
  · intro h j hj
    have := congrArg (fun z => z.testBit j) h
    simp only [Nat.testBit_and, hj, Bool.and_true] at this
    exact this
  · intro h
    apply Nat.eq_of_testBit_eq
    intro j
    rw [Nat.testBit_and]
    cases e : Y.testBit j
    · simp
    · simp [h j e]
theorem lpE {ρ : Type} (L : Nat → Int32 → Int32 → Option ρ) (acc : Nat → Int32) (p : Nat) (r : ρ) (hs : ∀ m i, i < p → L (m + 1) (acc i) (nI i) = L m (acc (i + 1)) (nI (i + 1))) (he : ∀ m, L (m + 1) (acc p) (nI p) = some r) : ∀ (N i : Nat), i ≤ p → p - i < N → L N (acc i) (nI i) = some r := by
  intro N
  induction N with
  | zero => intro i h1 h2; omega
  | succ m ih =>
    intro i h1 h2
    by_cases hi : i < p
    · rw [hs m i hi]
      exact ih (i + 1) (by omega) (by omega)
    · have e : i = p := by omega
      subst e
      exact he m
abbrev colP (w f : Nat → Int32) (p t x : Nat) : Prop := ∀ y, y < p → okc w f p t false x y
theorem e_colI {N : Nat} {S : pH} {r r' : Option Nat} {p : Nat} {f w : Nat → Int32} (h : Pic S r p f) (h' : Pic S r' p w) {t x : Nat} (ht : t < 4) (hx : x < p) (hN : 20 ≤ N) (x3 : Int32) : lX5_columnsThatShow_20 N S r r' (nI t) x3 (nI x) N 1 0 = some (bI (colP w f p t x)) := by
  have hp := h.2.2.1
  have e := lpB (fun m a i => lX5_columnsThatShow_20 N S r r' (nI t) x3 (nI x) m a i) (fun y => okc w f p t false x y) 0 p id ?_ ?_ N True (by omega) (by omega)
  · rw [bI_t trivial, show nI 0 = (0 : Int32) from rfl] at e
    refine e.trans (congrArg some (bI_c ?_))
    exact ⟨fun h y hy => h.2 y hy (by omega), fun h => ⟨trivial, fun y hy _ => h y hy⟩⟩
  · intro m i q _ _ hi
    rw [lX5_columnsThatShow_20, h.2.1]
    simp only [Option.bind_some]
    rw [if_neg (nI_ge hi (by omega)), e_at_in h' hx hi]
    simp only [Option.bind_some, nm, nI_1, bI_0, e_atT h hx hi ht]
    by_cases hq : q
    · rw [if_neg (fun z => z hq)]
      by_cases h9 : w (8 * i + x) = -9
      · rw [if_pos h9, bI_t ⟨hq, Or.inl h9⟩]
      · rw [if_neg h9]
        by_cases hv : w (8 * i + x) = f (tq p t false x i)
        · rw [if_neg (fun z => z hv), bI_t ⟨hq, Or.inr hv⟩]
        · rw [if_pos hv, bI_f (fun z => z.2.elim h9 hv)]
    · rw [if_pos hq, bI_f (fun z => hq z.1)]
  · intro m a
    rw [lX5_columnsThatShow_20, h.2.1]
    simp only [Option.bind_some]
    rw [if_pos (nI_le (Nat.le_refl _) (by omega))]
    rfl
theorem e_cols {N : Nat} {S : pH} {r r' : Option Nat} {p : Nat} {f w : Nat → Int32} (h : Pic S r p f) (h' : Pic S r' p w) {t : Nat} (ht : t < 4) (hN : 20 ≤ N) : fX5_columnsThatShow N S r r' (nI t) = some (nI (bN (fun x => decide (colP w f p t x)) p)) := by
  have hp := h.2.2.1
  have e := lpE (fun m a i => lX5_columnsThatShow_5 N S r r' (nI t) m a i) (w8 (fun x => decide (colP w f p t x))) p (w8 (fun x => decide (colP w f p t x)) p) ?_ ?_ N 0 (by omega) (by omega)
  · obtain ⟨fs, h1⟩ := h.1
    rw [show nI 0 = (0 : Int32) from rfl, show w8 (fun x => decide (colP w f p t x)) 0 = 0 from rfl, w8_bN _ _ (by omega)] at e
    unfold fX5_columnsThatShow
    rw [chk_of h1, e]
    rfl
  · intro m i hi
    rw [lX5_columnsThatShow_5, h.2.1]
    simp only [Option.bind_some]
    rw [if_neg (nI_ge hi (by omega)), e_colI h h' ht hi hN]
    simp only [Option.bind_some, nm, nI_1, bI_0, w8]
    by_cases q : colP w f p t i
    · rw [if_neg (fun z => z q), if_pos (decide_eq_true q)]
    · rw [if_pos q, if_neg (fun z => q (of_decide_eq_true z)), Int32.or_zero]
  · intro m
    rw [lX5_columnsThatShow_5, h.2.1]
    simp only [Option.bind_some]
    rw [if_pos (nI_le (Nat.le_refl _) (by omega))]
abbrev seamP (A B : Nat → Prop) (p m : Nat) : Prop := (∀ x, x < m → A x) ∧ (∀ x, x < p → m ≤ x → B x)
theorem e_seams {N : Nat} {S : pH} {p : Nat} (A B : Nat → Prop) [DecidablePred A] [DecidablePred B] (hp : p ≤ 8) (h1 : 1 ≤ p) (hN : 20 ≤ N) : fX8_seams N S (nI (bN (fun x => decide (A x)) p)) (nI (bN (fun x => decide (B x)) p)) (nI p) = some (srI (fun m => bI (seamP A B p m)) 1 (p - 1)) := by
  unfold fX8_seams
  simp only [nm]
  have hb : ∀ k, k ≤ 8 → (1 : Int32) <<< (nI k &&& 31) - 1 = nI (2 ^ k - 1) := by
    intro k hk
    rw [nI_bit (by omega), show (1 : Int32) = nI 1 from rfl, pk_sub (Nat.pow_pos (by omega))]
  have hl : ∀ k, k ≤ 8 → 2 ^ k - 1 < 2 ^ 31 := fun k hk => by
    have : 2 ^ k ≤ 2 ^ 8 := Nat.pow_le_pow_right (by omega) hk
    omega
  have hbl : ∀ a, bN a p < 2 ^ 31 := fun a => Nat.lt_of_lt_of_le (bN_lt a p) (Nat.pow_le_pow_right (by omega) (by omega))
  rw [hb p hp]
  have e := lpS (fun m a i => lX8_seams_12 N S (nI (bN (fun x => decide (A x)) p)) (nI (bN (fun x => decide (B x)) p)) (nI p) (nI (2 ^ p - 1)) m a i) (fun m => bI (seamP A B p m)) p id ?_ ?_ N 1 0 h1 (by omega)
  · rw [Int32.zero_add, show nI 1 = (1 : Int32) from rfl] at e
    rw [e]
    rfl
  · intro m i a hi
    rw [lX8_seams_12, if_neg (nI_ge hi (by omega))]
    simp only [nm]
    rw [hb i (by omega), nI_m1, nI_xor, nI_and (2 ^ p - 1)]
    have ho : (2 ^ p - 1 &&& ((2 ^ i - 1) ^^^ (2 ^ 32 - 1))) < 2 ^ 31 := Nat.lt_of_le_of_lt Nat.and_le_left (hl p hp)
    have s1 : (nI (bN (fun x => decide (A x)) p) &&& nI (2 ^ i - 1) = nI (2 ^ i - 1)) ↔ ∀ x, x < i → A x := by
      rw [subN (hbl _) (hl i (by omega))]
      simp only [bN_tb, Nat.testBit_two_pow_sub_one, Bool.and_eq_true, decide_eq_true_eq]
      exact ⟨fun z x hx => (z x hx).2, fun z x hx => ⟨by omega, z x hx⟩⟩
    have s2 : (nI (bN (fun x => decide (B x)) p) &&& nI (2 ^ p - 1 &&& ((2 ^ i - 1) ^^^ (2 ^ 32 - 1))) = nI (2 ^ p - 1 &&& ((2 ^ i - 1) ^^^ (2 ^ 32 - 1)))) ↔ ∀ x, x < p → i ≤ x → B x := by
      rw [subN (hbl _) ho]
      simp only [bN_tb, Nat.testBit_and, Nat.testBit_xor, Nat.testBit_two_pow_sub_one, Bool.and_eq_true, decide_eq_true_eq]
      constructor
      · intro z x hx hix
        exact (z x ⟨hx, by simp [show ¬ x < i by omega, show x < 32 by omega]⟩).2
      · intro z x hx
        refine ⟨hx.1, z x hx.1 ?_⟩
        have h2 := hx.2
        by_cases q : x < i
        · simp [q, show x < 32 by omega] at h2
        · omega
    by_cases hA : ∀ x, x < i → A x
    · rw [if_neg (fun z => z (s1.mpr hA))]
      by_cases hB : ∀ x, x < p → i ≤ x → B x
      · rw [if_neg (fun z => z (s2.mpr hB)), bI_t ⟨hA, hB⟩, nI_1]
      · rw [if_pos (fun z => hB (s2.mp z)), bI_f (fun z => hB z.2), Int32.add_zero, nI_1]
    · rw [if_pos (fun z => hA (s1.mp z)), bI_f (fun z => hA z.1), Int32.add_zero, nI_1]
  · intro m a
    rw [lX8_seams_12, if_pos (nI_le (Nat.le_refl _) (by omega))]
    rfl
section TW
variable {b : Nat} {F : mI} {G : mJ} {n : Nat} {sw : Bool} {N : Nat}
theorem e_hc9I {c p t x : Nat} {f w : Nat → Int32} (hN : 20 ≤ N) (hc : c ≤ 17) (hp : p ≤ 8) (ht : t < 4) (hx : x < p) (h9 : F 32 9 = nI p) (hw : ∀ x y, x < p → y < p → F 39 (1088 + 8 * y + x) = w (8 * y + x)) (hf : ∀ x y, x < p → y < p → F 39 (64 * c + 8 * y + x) = f (8 * y + x)) (x4 : Int32) (q : Prop) [Decidable q] : lX9_hasColumns_16 N (M b F G n sw) (some (b + 32)) (nI c) (nI t) x4 (nI x) N (bI q) 0 = some (bI (q ∧ colP w f p t x)) := by
  have e := lpB (fun m a i => lX9_hasColumns_16 N (M b F G n sw) (some (b + 32)) (nI c) (nI t) x4 (nI x) m a i) (fun y => okc w f p t false x y) 0 p id ?_ ?_ N q (by omega) (by omega)
  · refine e.trans (congrArg some (bI_c ?_))
    exact ⟨fun h => ⟨h.1, fun x hx => h.2 x hx (by omega)⟩, fun h => ⟨h.1, fun x hx _ => h.2 x hx⟩⟩
  · intro m i q _ _ hi
    have es := e_shown (N := N) (b := b) (F := F) (G := G) (n := n) (sw := sw) (c := c) (p := p) (x := x) (y := i) (T := t) (by omega) hc hp hx hi (by omega)
    have hl := itr_lt (p := p) (t % 4) x i hx hi
    rw [hf _ _ hl.1 hl.2, show t % 4 = t by omega] at es
    have ea := e_at9 (N := N) (b := b) (F := F) (G := G) (n := n) (sw := sw) (c := 17) (x := x) (y := i) (by omega)
    rw [show nI 17 = (17 : Int32) from rfl, show 64 * 17 + 8 * i + x = 1088 + 8 * i + x by omega, hw x i hx hi] at ea
    rw [lX9_hasColumns_16]
    simp only [R_0_0, R_0_1, R_0_3, R_0_4, R_0_5, R_0_6, R_0_7, R_0_8, R_0_9, R_1_0, R_1_1, R_1_2, R_1_3, R_7_0, R_7_1, R_10_0, R_10_1, R_10_2, R_14_0, R_16_0, R_18_0, R_18_1, R_18_2, R_18_4, R_18_5, R_18_6, R_18_8, R_18_9, R_27_0, R_27_1, R_27_2, R_32_0, R_32_1, R_32_3, R_32_4, R_32_5, R_32_6, R_32_7, R_32_11, R_32_12, R_32_13, R_32_14, R_32_17, R_32_20, R_32_21, R_32_22, R_32_24, R_32_25, R_32_26, R_32_27, R_32_28, R_32_29, R_32_30, R_32_31, I_0_2, I_1_4, I_7_2, I_14_1, I_16_1, I_18_3, I_18_7, I_27_3, I_27_4, I_31_0, I_31_1, I_31_2, I_31_3, I_31_4, I_31_5, I_31_6, I_32_2, I_32_8, I_32_9, I_32_10, I_32_15, I_32_16, I_32_18, I_32_19, J_0_10, J_32_23, P_0_2, P_0_10, P_1_4, P_7_2, P_14_1, P_16_1, P_18_3, P_18_7, P_27_3, P_27_4, P_31_0, P_31_1, P_31_2, P_31_3, P_31_4, P_31_5, P_31_6, P_32_2, P_32_8, P_32_9, P_32_10, P_32_15, P_32_16, P_32_18, P_32_19, P_32_23, K_0, K_1, K_7, K_10, K_14, K_16, K_18, K_27, K_31, K_32, h9, Option.bind_some]
    rw [if_neg (nI_ge hi (by omega)), ea]
    simp only [Option.bind_some, nm, nI_1, bI_0]
    by_cases hq : q
    · rw [if_neg (fun z => z hq)]
      by_cases h9 : w (8 * i + x) = -9
      · rw [if_pos h9, bI_t ⟨hq, Or.inl h9⟩]
      · rw [if_neg h9, es]
        simp only [Option.bind_some]
        by_cases hv : w (8 * i + x) = f (8 * (itr p t x i).2 + (itr p t x i).1)
        · rw [if_neg (fun z => z hv), bI_t ⟨hq, Or.inr hv⟩]
        · rw [if_pos hv, bI_f (fun z => z.2.elim h9 hv)]
    · rw [if_pos hq, bI_f (fun z => hq z.1)]
  · intro m a
    rw [lX9_hasColumns_16]
    simp only [R_0_0, R_0_1, R_0_3, R_0_4, R_0_5, R_0_6, R_0_7, R_0_8, R_0_9, R_1_0, R_1_1, R_1_2, R_1_3, R_7_0, R_7_1, R_10_0, R_10_1, R_10_2, R_14_0, R_16_0, R_18_0, R_18_1, R_18_2, R_18_4, R_18_5, R_18_6, R_18_8, R_18_9, R_27_0, R_27_1, R_27_2, R_32_0, R_32_1, R_32_3, R_32_4, R_32_5, R_32_6, R_32_7, R_32_11, R_32_12, R_32_13, R_32_14, R_32_17, R_32_20, R_32_21, R_32_22, R_32_24, R_32_25, R_32_26, R_32_27, R_32_28, R_32_29, R_32_30, R_32_31, I_0_2, I_1_4, I_7_2, I_14_1, I_16_1, I_18_3, I_18_7, I_27_3, I_27_4, I_31_0, I_31_1, I_31_2, I_31_3, I_31_4, I_31_5, I_31_6, I_32_2, I_32_8, I_32_9, I_32_10, I_32_15, I_32_16, I_32_18, I_32_19, J_0_10, J_32_23, P_0_2, P_0_10, P_1_4, P_7_2, P_14_1, P_16_1, P_18_3, P_18_7, P_27_3, P_27_4, P_31_0, P_31_1, P_31_2, P_31_3, P_31_4, P_31_5, P_31_6, P_32_2, P_32_8, P_32_9, P_32_10, P_32_15, P_32_16, P_32_18, P_32_19, P_32_23, K_0, K_1, K_7, K_10, K_14, K_16, K_18, K_27, K_31, K_32, h9, Option.bind_some]
    rw [if_pos (nI_le (Nat.le_refl _) (by omega))]
    rfl
theorem e_hc9 {c p t u v : Nat} {f w : Nat → Int32} (hN : 20 ≤ N) (hc : c ≤ 17) (hp : p ≤ 8) (ht : t < 4) (huv : u ≤ v) (hv : v ≤ p) (h9 : F 32 9 = nI p) (hw : ∀ x y, x < p → y < p → F 39 (1088 + 8 * y + x) = w (8 * y + x)) (hf : ∀ x y, x < p → y < p → F 39 (64 * c + 8 * y + x) = f (8 * y + x)) : fX9_hasColumns N (M b F G n sw) (some (b + 32)) (nI c) (nI t) (nI u) (nI v) = some (bI (∀ x, x < v → u ≤ x → colP w f p t x)) := by
  have e := lpB (fun m a i => lX9_hasColumns_6 N (M b F G n sw) (some (b + 32)) (nI c) (nI t) (nI v) m a i) (fun x => colP w f p t x) u v id ?_ ?_ N True huv (by omega)
  · rw [bI_t trivial] at e
    unfold fX9_hasColumns
    rw [K_32, e]
    simp only [Option.bind_some, id]
    rw [if_pos bI_01]
    exact congrArg some (bI_c ⟨fun z => z.2, fun z => ⟨trivial, z⟩⟩)
  · intro m i q _ _ hi
    rw [lX9_hasColumns_6, if_neg (nI_ge hi (by omega)), e_hc9I hN hc hp ht (show i < p by omega) h9 hw hf]
    simp only [Option.bind_some, nm, nI_1]
  · intro m a
    rw [lX9_hasColumns_6, if_pos (nI_le (Nat.le_refl _) (by omega))]
    rfl
end TW
theorem st_two (b : Nat) : St_two b (b + 32) (Inv b (b + 32)) := by
  rintro S ⟨-, F, G, n, sw, rfl, hR⟩ a1 a2
  obtain ⟨r1, r2, r3, r4, r5, r6, r7, r8, r9, ⟨q, q0, hq, q1, q2, q3⟩, r11, r12, r13⟩ := id hR
  by_cases hx : rg n a1
  · by_cases hy : rg n a2
    · obtain ⟨i, hi, rfl⟩ := (rg_iff (by omega)).mp hx
      obtain ⟨j, hj, rfl⟩ := (rg_iff (by omega)).mp hy
      obtain ⟨p, -, -, -, ⟨p1, p8, -, -, -⟩, c1, c2, -, -, -, -, -, -, c9⟩ := r8 i hi
      obtain ⟨p', -, -, -, ⟨p1', p8', -, -, -⟩, d1, d2, -, -, -, -, -, -, d9⟩ := r8 j hj
      have hA := P_cane (b := b) (G := G) (sw := sw) hi c1 p8
      have hB := P_cane (b := b) (G := G) (sw := sw) hj d1 p8'
      have hw := P_seen (b := b) (G := G) (n := n) (sw := sw) q1 hq
      by_cases e1 : p = q
      · by_cases e2 : p' = q
        · subst e1
          subst e2
          have w3 : ∀ x y, x < p' → y < p' → F 39 (1088 + 8 * y + x) = F 17 (8 * y + x) := fun x y hx hy => (q3 x y hx hy).1.symm
          have f3 : ∀ x y, x < p' → y < p' → F 39 (64 * i + 8 * y + x) = F (58 + 3 * i) (8 * y + x) := fun x y hx hy => (c9 x y hx hy).1.symm
          have g3 : ∀ x y, x < p' → y < p' → F 39 (64 * j + 8 * y + x) = F (58 + 3 * j) (8 * y + x) := fun x y hx hy => (d9 x y hx hy).1.symm
          let fA := colP (F 17) (F (58 + 3 * i)) p'
          let fB := colP (F 17) (F (58 + 3 * j)) p'
          refine ⟨srI (fun s => srI (fun t => srI (fun m => bI (seamP (colP (F 17) (F (58 + 3 * i)) p' s) (colP (F 17) (F (58 + 3 * j)) p' t) p' m)) 1 (p' - 1)) 0 4) 0 4, ?_, ?_⟩
          · have eI : ∀ s a, s < 4 → lX8_two_91 NF (M b F G n sw) (some b) (some (b + (56 + 3 * i))) (some (b + (56 + 3 * j))) (nI s) (nI (bN (fun x => decide (colP (F 17) (F (58 + 3 * i)) p' s x)) p')) NF a 0 = some (a + srI (fun t => srI (fun m => bI (seamP (colP (F 17) (F (58 + 3 * i)) p' s) (colP (F 17) (F (58 + 3 * j)) p' t) p' m)) 1 (p' - 1)) 0 4) := by
              intro s a hs
              refine lpS (fun m a c => lX8_two_91 NF (M b F G n sw) (some b) (some (b + (56 + 3 * i))) (some (b + (56 + 3 * j))) (nI s) (nI (bN (fun x => decide (colP (F 17) (F (58 + 3 * i)) p' s x)) p')) m a c) (fun t => srI (fun m => bI (seamP (colP (F 17) (F (58 + 3 * i)) p' s) (colP (F 17) (F (58 + 3 * j)) p' t) p' m)) 1 (p' - 1)) 4 id ?_ ?_ NF 0 a (by omega) (by decide)
              · intro m t a ht
                rw [lX8_two_91, if_neg (show ¬ (4 : Int32) ≤ nI t from nI_ge (b := 4) ht (by decide)), Rc_0 hj]
                simp only [Option.bind_some, bI_0, Decidable.not_not, nm, b2, zr, e_isWithin, e_in, e_isGlass8, e_isGlass9, reduceIte, not_false_eq_true, not_true_eq_false, if_true, if_false, and_self, z01, z10, c00, c11, true_and, and_true, R_0_0, R_0_1, R_0_3, R_0_4, R_0_5, R_0_6, R_0_7, R_0_8, R_0_9, R_1_0, R_1_1, R_1_2, R_1_3, R_7_0, R_7_1, R_10_0, R_10_1, R_10_2, R_14_0, R_16_0, R_18_0, R_18_1, R_18_2, R_18_4, R_18_5, R_18_6, R_18_8, R_18_9, R_27_0, R_27_1, R_27_2, R_32_0, R_32_1, R_32_3, R_32_4, R_32_5, R_32_6, R_32_7, R_32_11, R_32_12, R_32_13, R_32_14, R_32_17, R_32_20, R_32_21, R_32_22, R_32_24, R_32_25, R_32_26, R_32_27, R_32_28, R_32_29, R_32_30, R_32_31, I_0_2, I_1_4, I_7_2, I_14_1, I_16_1, I_18_3, I_18_7, I_27_3, I_27_4, I_31_0, I_31_1, I_31_2, I_31_3, I_31_4, I_31_5, I_31_6, I_32_2, I_32_8, I_32_9, I_32_10, I_32_15, I_32_16, I_32_18, I_32_19, J_0_10, J_32_23, P_0_2, P_0_10, P_1_4, P_7_2, P_14_1, P_16_1, P_18_3, P_18_7, P_27_3, P_27_4, P_31_0, P_31_1, P_31_2, P_31_3, P_31_4, P_31_5, P_31_6, P_32_2, P_32_8, P_32_9, P_32_10, P_32_15, P_32_16, P_32_18, P_32_19, P_32_23, K_0, K_1, K_7, K_10, K_14, K_16, K_18, K_27, K_31, K_32, e_cols (N := NF) hB hw ht (by decide), q1]
                rw [e_seams (N := NF) (colP (F 17) (F (58 + 3 * i)) p' s) (colP (F 17) (F (58 + 3 * j)) p' t) p8' p1' (by decide)]
                simp only [Option.bind_some, nI_1]
              · intro m a
                rw [lX8_two_91, if_pos (by decide)]
                rfl
            have eO := lpS (fun m a c => lX8_two_67 NF (M b F G n sw) (some b) (some (b + (56 + 3 * i))) (some (b + (56 + 3 * j))) m a c) (fun s => srI (fun t => srI (fun m => bI (seamP (colP (F 17) (F (58 + 3 * i)) p' s) (colP (F 17) (F (58 + 3 * j)) p' t) p' m)) 1 (p' - 1)) 0 4) 4 id ?_ ?_ NF 0 0 (by omega) (by decide)
            · rw [show nI 0 = (0 : Int32) from rfl, Int32.zero_add] at eO
              unfold fX8_two
              simp only [Option.bind_some, bI_0, Decidable.not_not, nm, b2, zr, e_isWithin, e_in, e_isGlass8, e_isGlass9, reduceIte, not_false_eq_true, not_true_eq_false, if_true, if_false, and_self, z01, z10, c00, c11, true_and, and_true, R_0_0, R_0_1, R_0_3, R_0_4, R_0_5, R_0_6, R_0_7, R_0_8, R_0_9, R_1_0, R_1_1, R_1_2, R_1_3, R_7_0, R_7_1, R_10_0, R_10_1, R_10_2, R_14_0, R_16_0, R_18_0, R_18_1, R_18_2, R_18_4, R_18_5, R_18_6, R_18_8, R_18_9, R_27_0, R_27_1, R_27_2, R_32_0, R_32_1, R_32_3, R_32_4, R_32_5, R_32_6, R_32_7, R_32_11, R_32_12, R_32_13, R_32_14, R_32_17, R_32_20, R_32_21, R_32_22, R_32_24, R_32_25, R_32_26, R_32_27, R_32_28, R_32_29, R_32_30, R_32_31, I_0_2, I_1_4, I_7_2, I_14_1, I_16_1, I_18_3, I_18_7, I_27_3, I_27_4, I_31_0, I_31_1, I_31_2, I_31_3, I_31_4, I_31_5, I_31_6, I_32_2, I_32_8, I_32_9, I_32_10, I_32_15, I_32_16, I_32_18, I_32_19, J_0_10, J_32_23, P_0_2, P_0_10, P_1_4, P_7_2, P_14_1, P_16_1, P_18_3, P_18_7, P_27_3, P_27_4, P_31_0, P_31_1, P_31_2, P_31_3, P_31_4, P_31_5, P_31_6, P_32_2, P_32_8, P_32_9, P_32_10, P_32_15, P_32_16, P_32_18, P_32_19, P_32_23, K_0, K_1, K_7, K_10, K_14, K_16, K_18, K_27, K_31, K_32, e_find_y r1 r2 hi, e_find_y r1 r2 hj, reduceCtorEq, Rc_0 hi, Rc_0 hj, Ip_1 hi, Ip_1 hj, c1, d1, q1, eO]
              rfl
            · intro m s a hs
              rw [lX8_two_67, if_neg (show ¬ (4 : Int32) ≤ nI s from nI_ge (b := 4) hs (by decide)), Rc_0 hi]
              simp only [Option.bind_some, bI_0, Decidable.not_not, nm, b2, zr, e_isWithin, e_in, e_isGlass8, e_isGlass9, reduceIte, not_false_eq_true, not_true_eq_false, if_true, if_false, and_self, z01, z10, c00, c11, true_and, and_true, R_0_0, R_0_1, R_0_3, R_0_4, R_0_5, R_0_6, R_0_7, R_0_8, R_0_9, R_1_0, R_1_1, R_1_2, R_1_3, R_7_0, R_7_1, R_10_0, R_10_1, R_10_2, R_14_0, R_16_0, R_18_0, R_18_1, R_18_2, R_18_4, R_18_5, R_18_6, R_18_8, R_18_9, R_27_0, R_27_1, R_27_2, R_32_0, R_32_1, R_32_3, R_32_4, R_32_5, R_32_6, R_32_7, R_32_11, R_32_12, R_32_13, R_32_14, R_32_17, R_32_20, R_32_21, R_32_22, R_32_24, R_32_25, R_32_26, R_32_27, R_32_28, R_32_29, R_32_30, R_32_31, I_0_2, I_1_4, I_7_2, I_14_1, I_16_1, I_18_3, I_18_7, I_27_3, I_27_4, I_31_0, I_31_1, I_31_2, I_31_3, I_31_4, I_31_5, I_31_6, I_32_2, I_32_8, I_32_9, I_32_10, I_32_15, I_32_16, I_32_18, I_32_19, J_0_10, J_32_23, P_0_2, P_0_10, P_1_4, P_7_2, P_14_1, P_16_1, P_18_3, P_18_7, P_27_3, P_27_4, P_31_0, P_31_1, P_31_2, P_31_3, P_31_4, P_31_5, P_31_6, P_32_2, P_32_8, P_32_9, P_32_10, P_32_15, P_32_16, P_32_18, P_32_19, P_32_23, K_0, K_1, K_7, K_10, K_14, K_16, K_18, K_27, K_31, K_32, e_cols (N := NF) hA hw hs (by decide)]
              rw [eI s a hs]
              simp only [Option.bind_some, nI_1]
            · intro m a
              rw [lX8_two_67, if_pos (by decide)]
              rfl
          · have e16 : ∀ f : Nat → Nat → Int32, srI (fun k => f (k / 4) (k % 4)) 0 16 = srI (fun s => srI (fun t => f s t) 0 4) 0 4 := by
              intro f
              simp only [srI, Int32.add_assoc, Int32.add_zero, Int32.zero_add]
            have eI : ∀ m' a, m' < p' → lX9_two_63 NF (M b F G n sw) (some (b + 32)) (nI i) (nI j) (nI m') NF a 0 = some (a + srI (fun s => srI (fun t => bI (seamP (colP (F 17) (F (58 + 3 * i)) p' s) (colP (F 17) (F (58 + 3 * j)) p' t) p' m')) 0 4) 0 4) := by
              intro m' a hm'
              rw [← e16 (fun s t => bI (seamP (colP (F 17) (F (58 + 3 * i)) p' s) (colP (F 17) (F (58 + 3 * j)) p' t) p' m'))]
              refine lpS (fun m a c => lX9_two_63 NF (M b F G n sw) (some (b + 32)) (nI i) (nI j) (nI m') m a c) (fun k => bI (seamP (colP (F 17) (F (58 + 3 * i)) p' (k / 4)) (colP (F 17) (F (58 + 3 * j)) p' (k % 4)) p' m')) 16 id ?_ ?_ NF 0 a (by omega) (by decide)
              · intro m k a hk
                have h1 := e_hc9 (N := NF) (b := b) (G := G) (n := n) (sw := sw) (c := i) (p := p') (t := k / 4) (u := 0) (v := m') (by decide) (by omega) p8' (by omega) (by omega) (by omega) q2 w3 f3
                have h2 := e_hc9 (N := NF) (b := b) (G := G) (n := n) (sw := sw) (c := j) (p := p') (t := k % 4) (u := m') (v := p') (by decide) (by omega) p8' (by omega) (by omega) (by omega) q2 w3 g3
                rw [show nI 0 = (0 : Int32) from rfl] at h1
                rw [lX9_two_63, if_neg (show ¬ (16 : Int32) ≤ nI k from nI_ge (b := 16) hk (by decide)), show nI k / (4 : Int32) = nI (k / 4) from pk_div (d := 4) (by omega) (by decide) (by decide), h1]
                have hm : nI k - nI (k / 4) * 4 = nI (k % 4) := by
                  rw [← show nI k / (4 : Int32) = nI (k / 4) from pk_div (d := 4) (by omega) (by decide) (by decide)]
                  exact m4 (by omega)
                simp only [Option.bind_some, bI_0, Decidable.not_not, nm, b2, zr, e_isWithin, e_in, e_isGlass8, e_isGlass9, reduceIte, not_false_eq_true, not_true_eq_false, if_true, if_false, and_self, z01, z10, c00, c11, true_and, and_true, R_0_0, R_0_1, R_0_3, R_0_4, R_0_5, R_0_6, R_0_7, R_0_8, R_0_9, R_1_0, R_1_1, R_1_2, R_1_3, R_7_0, R_7_1, R_10_0, R_10_1, R_10_2, R_14_0, R_16_0, R_18_0, R_18_1, R_18_2, R_18_4, R_18_5, R_18_6, R_18_8, R_18_9, R_27_0, R_27_1, R_27_2, R_32_0, R_32_1, R_32_3, R_32_4, R_32_5, R_32_6, R_32_7, R_32_11, R_32_12, R_32_13, R_32_14, R_32_17, R_32_20, R_32_21, R_32_22, R_32_24, R_32_25, R_32_26, R_32_27, R_32_28, R_32_29, R_32_30, R_32_31, I_0_2, I_1_4, I_7_2, I_14_1, I_16_1, I_18_3, I_18_7, I_27_3, I_27_4, I_31_0, I_31_1, I_31_2, I_31_3, I_31_4, I_31_5, I_31_6, I_32_2, I_32_8, I_32_9, I_32_10, I_32_15, I_32_16, I_32_18, I_32_19, J_0_10, J_32_23, P_0_2, P_0_10, P_1_4, P_7_2, P_14_1, P_16_1, P_18_3, P_18_7, P_27_3, P_27_4, P_31_0, P_31_1, P_31_2, P_31_3, P_31_4, P_31_5, P_31_6, P_32_2, P_32_8, P_32_9, P_32_10, P_32_15, P_32_16, P_32_18, P_32_19, P_32_23, K_0, K_1, K_7, K_10, K_14, K_16, K_18, K_27, K_31, K_32, q2, hm, h2, nI_1]
                by_cases z1 : ∀ x, x < m' → 0 ≤ x → colP (F 17) (F (58 + 3 * i)) p' (k / 4) x
                · rw [if_neg (fun z => z z1)]
                  by_cases z2 : ∀ x, x < p' → m' ≤ x → colP (F 17) (F (58 + 3 * j)) p' (k % 4) x
                  · rw [if_neg (fun z => z z2), bI_t ⟨fun x hx => z1 x hx (by omega), z2⟩]
                  · rw [if_pos z2, bI_f (fun z => z2 z.2)]
                · rw [if_pos z1, bI_f (fun z => z1 (fun x hx _ => z.1 x hx))]
              · intro m a
                rw [lX9_two_63, if_pos (by decide)]
                rfl
            have eO := lpS (fun m a c => lX9_two_51 NF (M b F G n sw) (some (b + 32)) (nI i) (nI j) m a c) (fun m' => srI (fun s => srI (fun t => bI (seamP (colP (F 17) (F (58 + 3 * i)) p' s) (colP (F 17) (F (58 + 3 * j)) p' t) p' m')) 0 4) 0 4) p' id ?_ ?_ NF 1 0 (by omega) (by show p' - 1 < 5000; omega)
            · rw [show nI 1 = (1 : Int32) from rfl, Int32.zero_add] at eO
              unfold fX9_two
              simp only [Option.bind_some, bI_0, Decidable.not_not, nm, b2, zr, e_isWithin, e_in, e_isGlass8, e_isGlass9, reduceIte, not_false_eq_true, not_true_eq_false, if_true, if_false, and_self, z01, z10, c00, c11, true_and, and_true, R_0_0, R_0_1, R_0_3, R_0_4, R_0_5, R_0_6, R_0_7, R_0_8, R_0_9, R_1_0, R_1_1, R_1_2, R_1_3, R_7_0, R_7_1, R_10_0, R_10_1, R_10_2, R_14_0, R_16_0, R_18_0, R_18_1, R_18_2, R_18_4, R_18_5, R_18_6, R_18_8, R_18_9, R_27_0, R_27_1, R_27_2, R_32_0, R_32_1, R_32_3, R_32_4, R_32_5, R_32_6, R_32_7, R_32_11, R_32_12, R_32_13, R_32_14, R_32_17, R_32_20, R_32_21, R_32_22, R_32_24, R_32_25, R_32_26, R_32_27, R_32_28, R_32_29, R_32_30, R_32_31, I_0_2, I_1_4, I_7_2, I_14_1, I_16_1, I_18_3, I_18_7, I_27_3, I_27_4, I_31_0, I_31_1, I_31_2, I_31_3, I_31_4, I_31_5, I_31_6, I_32_2, I_32_8, I_32_9, I_32_10, I_32_15, I_32_16, I_32_18, I_32_19, J_0_10, J_32_23, P_0_2, P_0_10, P_1_4, P_7_2, P_14_1, P_16_1, P_18_3, P_18_7, P_27_3, P_27_4, P_31_0, P_31_1, P_31_2, P_31_3, P_31_4, P_31_5, P_31_6, P_32_2, P_32_8, P_32_9, P_32_10, P_32_15, P_32_16, P_32_18, P_32_19, P_32_23, K_0, K_1, K_7, K_10, K_14, K_16, K_18, K_27, K_31, K_32, e_isCane r1 r3, eq_true hx, eq_true hy, L_35 (show i < 16 by omega), L_35 (show j < 16 by omega), c2, d2, q2, eO, id]
              refine congrArg some ?_
              rw [srI_swap]
              refine srI_congr _ _ (fun s _ _ => ?_)
              rw [srI_swap]
            · intro m s a hs
              rw [lX9_two_51]
              simp only [Option.bind_some, bI_0, Decidable.not_not, nm, b2, zr, e_isWithin, e_in, e_isGlass8, e_isGlass9, reduceIte, not_false_eq_true, not_true_eq_false, if_true, if_false, and_self, z01, z10, c00, c11, true_and, and_true, R_0_0, R_0_1, R_0_3, R_0_4, R_0_5, R_0_6, R_0_7, R_0_8, R_0_9, R_1_0, R_1_1, R_1_2, R_1_3, R_7_0, R_7_1, R_10_0, R_10_1, R_10_2, R_14_0, R_16_0, R_18_0, R_18_1, R_18_2, R_18_4, R_18_5, R_18_6, R_18_8, R_18_9, R_27_0, R_27_1, R_27_2, R_32_0, R_32_1, R_32_3, R_32_4, R_32_5, R_32_6, R_32_7, R_32_11, R_32_12, R_32_13, R_32_14, R_32_17, R_32_20, R_32_21, R_32_22, R_32_24, R_32_25, R_32_26, R_32_27, R_32_28, R_32_29, R_32_30, R_32_31, I_0_2, I_1_4, I_7_2, I_14_1, I_16_1, I_18_3, I_18_7, I_27_3, I_27_4, I_31_0, I_31_1, I_31_2, I_31_3, I_31_4, I_31_5, I_31_6, I_32_2, I_32_8, I_32_9, I_32_10, I_32_15, I_32_16, I_32_18, I_32_19, J_0_10, J_32_23, P_0_2, P_0_10, P_1_4, P_7_2, P_14_1, P_16_1, P_18_3, P_18_7, P_27_3, P_27_4, P_31_0, P_31_1, P_31_2, P_31_3, P_31_4, P_31_5, P_31_6, P_32_2, P_32_8, P_32_9, P_32_10, P_32_15, P_32_16, P_32_18, P_32_19, P_32_23, K_0, K_1, K_7, K_10, K_14, K_16, K_18, K_27, K_31, K_32, q2]
              rw [if_neg (nI_ge hs (by omega)), eI s a hs]
              simp only [Option.bind_some, nI_1]
            · intro m a
              rw [lX9_two_51]
              simp only [Option.bind_some, bI_0, Decidable.not_not, nm, b2, zr, e_isWithin, e_in, e_isGlass8, e_isGlass9, reduceIte, not_false_eq_true, not_true_eq_false, if_true, if_false, and_self, z01, z10, c00, c11, true_and, and_true, R_0_0, R_0_1, R_0_3, R_0_4, R_0_5, R_0_6, R_0_7, R_0_8, R_0_9, R_1_0, R_1_1, R_1_2, R_1_3, R_7_0, R_7_1, R_10_0, R_10_1, R_10_2, R_14_0, R_16_0, R_18_0, R_18_1, R_18_2, R_18_4, R_18_5, R_18_6, R_18_8, R_18_9, R_27_0, R_27_1, R_27_2, R_32_0, R_32_1, R_32_3, R_32_4, R_32_5, R_32_6, R_32_7, R_32_11, R_32_12, R_32_13, R_32_14, R_32_17, R_32_20, R_32_21, R_32_22, R_32_24, R_32_25, R_32_26, R_32_27, R_32_28, R_32_29, R_32_30, R_32_31, I_0_2, I_1_4, I_7_2, I_14_1, I_16_1, I_18_3, I_18_7, I_27_3, I_27_4, I_31_0, I_31_1, I_31_2, I_31_3, I_31_4, I_31_5, I_31_6, I_32_2, I_32_8, I_32_9, I_32_10, I_32_15, I_32_16, I_32_18, I_32_19, J_0_10, J_32_23, P_0_2, P_0_10, P_1_4, P_7_2, P_14_1, P_16_1, P_18_3, P_18_7, P_27_3, P_27_4, P_31_0, P_31_1, P_31_2, P_31_3, P_31_4, P_31_5, P_31_6, P_32_2, P_32_8, P_32_9, P_32_10, P_32_15, P_32_16, P_32_18, P_32_19, P_32_23, K_0, K_1, K_7, K_10, K_14, K_16, K_18, K_27, K_31, K_32, q2]
              rw [if_pos (nI_le (Nat.le_refl _) (by omega))]
              rfl
        · subst e1
          have hne : ¬ nI p' = nI p := fun z => e2 ((nI_eq (by omega) (by omega)).mp z)
          refine ⟨0, ?_, ?_⟩
          · unfold fX8_two
            simp only [Option.bind_some, bI_0, Decidable.not_not, nm, b2, zr, e_isWithin, e_in, e_isGlass8, e_isGlass9, reduceIte, not_false_eq_true, not_true_eq_false, if_true, if_false, and_self, z01, z10, c00, c11, true_and, and_true, R_0_0, R_0_1, R_0_3, R_0_4, R_0_5, R_0_6, R_0_7, R_0_8, R_0_9, R_1_0, R_1_1, R_1_2, R_1_3, R_7_0, R_7_1, R_10_0, R_10_1, R_10_2, R_14_0, R_16_0, R_18_0, R_18_1, R_18_2, R_18_4, R_18_5, R_18_6, R_18_8, R_18_9, R_27_0, R_27_1, R_27_2, R_32_0, R_32_1, R_32_3, R_32_4, R_32_5, R_32_6, R_32_7, R_32_11, R_32_12, R_32_13, R_32_14, R_32_17, R_32_20, R_32_21, R_32_22, R_32_24, R_32_25, R_32_26, R_32_27, R_32_28, R_32_29, R_32_30, R_32_31, I_0_2, I_1_4, I_7_2, I_14_1, I_16_1, I_18_3, I_18_7, I_27_3, I_27_4, I_31_0, I_31_1, I_31_2, I_31_3, I_31_4, I_31_5, I_31_6, I_32_2, I_32_8, I_32_9, I_32_10, I_32_15, I_32_16, I_32_18, I_32_19, J_0_10, J_32_23, P_0_2, P_0_10, P_1_4, P_7_2, P_14_1, P_16_1, P_18_3, P_18_7, P_27_3, P_27_4, P_31_0, P_31_1, P_31_2, P_31_3, P_31_4, P_31_5, P_31_6, P_32_2, P_32_8, P_32_9, P_32_10, P_32_15, P_32_16, P_32_18, P_32_19, P_32_23, K_0, K_1, K_7, K_10, K_14, K_16, K_18, K_27, K_31, K_32, e_find_y r1 r2 hi, e_find_y r1 r2 hj, reduceCtorEq, Rc_0 hi, Rc_0 hj, Ip_1 hi, Ip_1 hj, c1, d1, q1, hne]
          · unfold fX9_two
            simp only [Option.bind_some, bI_0, Decidable.not_not, nm, b2, zr, e_isWithin, e_in, e_isGlass8, e_isGlass9, reduceIte, not_false_eq_true, not_true_eq_false, if_true, if_false, and_self, z01, z10, c00, c11, true_and, and_true, R_0_0, R_0_1, R_0_3, R_0_4, R_0_5, R_0_6, R_0_7, R_0_8, R_0_9, R_1_0, R_1_1, R_1_2, R_1_3, R_7_0, R_7_1, R_10_0, R_10_1, R_10_2, R_14_0, R_16_0, R_18_0, R_18_1, R_18_2, R_18_4, R_18_5, R_18_6, R_18_8, R_18_9, R_27_0, R_27_1, R_27_2, R_32_0, R_32_1, R_32_3, R_32_4, R_32_5, R_32_6, R_32_7, R_32_11, R_32_12, R_32_13, R_32_14, R_32_17, R_32_20, R_32_21, R_32_22, R_32_24, R_32_25, R_32_26, R_32_27, R_32_28, R_32_29, R_32_30, R_32_31, I_0_2, I_1_4, I_7_2, I_14_1, I_16_1, I_18_3, I_18_7, I_27_3, I_27_4, I_31_0, I_31_1, I_31_2, I_31_3, I_31_4, I_31_5, I_31_6, I_32_2, I_32_8, I_32_9, I_32_10, I_32_15, I_32_16, I_32_18, I_32_19, J_0_10, J_32_23, P_0_2, P_0_10, P_1_4, P_7_2, P_14_1, P_16_1, P_18_3, P_18_7, P_27_3, P_27_4, P_31_0, P_31_1, P_31_2, P_31_3, P_31_4, P_31_5, P_31_6, P_32_2, P_32_8, P_32_9, P_32_10, P_32_15, P_32_16, P_32_18, P_32_19, P_32_23, K_0, K_1, K_7, K_10, K_14, K_16, K_18, K_27, K_31, K_32, e_isCane r1 r3, eq_true hx, eq_true hy, L_35 (show i < 16 by omega), L_35 (show j < 16 by omega), c2, d2, q2, hne]
      · have hne : ¬ nI p = nI q := fun z => e1 ((nI_eq (by omega) (by omega)).mp z)
        refine ⟨0, ?_, ?_⟩
        · unfold fX8_two
          simp only [Option.bind_some, bI_0, Decidable.not_not, nm, b2, zr, e_isWithin, e_in, e_isGlass8, e_isGlass9, reduceIte, not_false_eq_true, not_true_eq_false, if_true, if_false, and_self, z01, z10, c00, c11, true_and, and_true, R_0_0, R_0_1, R_0_3, R_0_4, R_0_5, R_0_6, R_0_7, R_0_8, R_0_9, R_1_0, R_1_1, R_1_2, R_1_3, R_7_0, R_7_1, R_10_0, R_10_1, R_10_2, R_14_0, R_16_0, R_18_0, R_18_1, R_18_2, R_18_4, R_18_5, R_18_6, R_18_8, R_18_9, R_27_0, R_27_1, R_27_2, R_32_0, R_32_1, R_32_3, R_32_4, R_32_5, R_32_6, R_32_7, R_32_11, R_32_12, R_32_13, R_32_14, R_32_17, R_32_20, R_32_21, R_32_22, R_32_24, R_32_25, R_32_26, R_32_27, R_32_28, R_32_29, R_32_30, R_32_31, I_0_2, I_1_4, I_7_2, I_14_1, I_16_1, I_18_3, I_18_7, I_27_3, I_27_4, I_31_0, I_31_1, I_31_2, I_31_3, I_31_4, I_31_5, I_31_6, I_32_2, I_32_8, I_32_9, I_32_10, I_32_15, I_32_16, I_32_18, I_32_19, J_0_10, J_32_23, P_0_2, P_0_10, P_1_4, P_7_2, P_14_1, P_16_1, P_18_3, P_18_7, P_27_3, P_27_4, P_31_0, P_31_1, P_31_2, P_31_3, P_31_4, P_31_5, P_31_6, P_32_2, P_32_8, P_32_9, P_32_10, P_32_15, P_32_16, P_32_18, P_32_19, P_32_23, K_0, K_1, K_7, K_10, K_14, K_16, K_18, K_27, K_31, K_32, e_find_y r1 r2 hi, e_find_y r1 r2 hj, reduceCtorEq, Rc_0 hi, Ip_1 hi, c1, q1, hne]
        · unfold fX9_two
          simp only [Option.bind_some, bI_0, Decidable.not_not, nm, b2, zr, e_isWithin, e_in, e_isGlass8, e_isGlass9, reduceIte, not_false_eq_true, not_true_eq_false, if_true, if_false, and_self, z01, z10, c00, c11, true_and, and_true, R_0_0, R_0_1, R_0_3, R_0_4, R_0_5, R_0_6, R_0_7, R_0_8, R_0_9, R_1_0, R_1_1, R_1_2, R_1_3, R_7_0, R_7_1, R_10_0, R_10_1, R_10_2, R_14_0, R_16_0, R_18_0, R_18_1, R_18_2, R_18_4, R_18_5, R_18_6, R_18_8, R_18_9, R_27_0, R_27_1, R_27_2, R_32_0, R_32_1, R_32_3, R_32_4, R_32_5, R_32_6, R_32_7, R_32_11, R_32_12, R_32_13, R_32_14, R_32_17, R_32_20, R_32_21, R_32_22, R_32_24, R_32_25, R_32_26, R_32_27, R_32_28, R_32_29, R_32_30, R_32_31, I_0_2, I_1_4, I_7_2, I_14_1, I_16_1, I_18_3, I_18_7, I_27_3, I_27_4, I_31_0, I_31_1, I_31_2, I_31_3, I_31_4, I_31_5, I_31_6, I_32_2, I_32_8, I_32_9, I_32_10, I_32_15, I_32_16, I_32_18, I_32_19, J_0_10, J_32_23, P_0_2, P_0_10, P_1_4, P_7_2, P_14_1, P_16_1, P_18_3, P_18_7, P_27_3, P_27_4, P_31_0, P_31_1, P_31_2, P_31_3, P_31_4, P_31_5, P_31_6, P_32_2, P_32_8, P_32_9, P_32_10, P_32_15, P_32_16, P_32_18, P_32_19, P_32_23, K_0, K_1, K_7, K_10, K_14, K_16, K_18, K_27, K_31, K_32, e_isCane r1 r3, eq_true hx, eq_true hy, L_35 (show i < 16 by omega), c2, q2, hne]
    · obtain ⟨i, hi, rfl⟩ := (rg_iff (by omega)).mp hx
      refine ⟨-1, ?_, ?_⟩
      · unfold fX8_two
        simp only [Option.bind_some, bI_0, Decidable.not_not, nm, b2, zr, e_isWithin, e_in, e_isGlass8, e_isGlass9, reduceIte, not_false_eq_true, not_true_eq_false, if_true, if_false, and_self, z01, z10, c00, c11, true_and, and_true, R_0_0, R_0_1, R_0_3, R_0_4, R_0_5, R_0_6, R_0_7, R_0_8, R_0_9, R_1_0, R_1_1, R_1_2, R_1_3, R_7_0, R_7_1, R_10_0, R_10_1, R_10_2, R_14_0, R_16_0, R_18_0, R_18_1, R_18_2, R_18_4, R_18_5, R_18_6, R_18_8, R_18_9, R_27_0, R_27_1, R_27_2, R_32_0, R_32_1, R_32_3, R_32_4, R_32_5, R_32_6, R_32_7, R_32_11, R_32_12, R_32_13, R_32_14, R_32_17, R_32_20, R_32_21, R_32_22, R_32_24, R_32_25, R_32_26, R_32_27, R_32_28, R_32_29, R_32_30, R_32_31, I_0_2, I_1_4, I_7_2, I_14_1, I_16_1, I_18_3, I_18_7, I_27_3, I_27_4, I_31_0, I_31_1, I_31_2, I_31_3, I_31_4, I_31_5, I_31_6, I_32_2, I_32_8, I_32_9, I_32_10, I_32_15, I_32_16, I_32_18, I_32_19, J_0_10, J_32_23, P_0_2, P_0_10, P_1_4, P_7_2, P_14_1, P_16_1, P_18_3, P_18_7, P_27_3, P_27_4, P_31_0, P_31_1, P_31_2, P_31_3, P_31_4, P_31_5, P_31_6, P_32_2, P_32_8, P_32_9, P_32_10, P_32_15, P_32_16, P_32_18, P_32_19, P_32_23, K_0, K_1, K_7, K_10, K_14, K_16, K_18, K_27, K_31, K_32, e_find_n r1 r2 hy, e_find_y r1 r2 hi, reduceCtorEq]
      · unfold fX9_two
        simp only [Option.bind_some, bI_0, Decidable.not_not, nm, b2, zr, e_isWithin, e_in, e_isGlass8, e_isGlass9, reduceIte, not_false_eq_true, not_true_eq_false, if_true, if_false, and_self, z01, z10, c00, c11, true_and, and_true, R_0_0, R_0_1, R_0_3, R_0_4, R_0_5, R_0_6, R_0_7, R_0_8, R_0_9, R_1_0, R_1_1, R_1_2, R_1_3, R_7_0, R_7_1, R_10_0, R_10_1, R_10_2, R_14_0, R_16_0, R_18_0, R_18_1, R_18_2, R_18_4, R_18_5, R_18_6, R_18_8, R_18_9, R_27_0, R_27_1, R_27_2, R_32_0, R_32_1, R_32_3, R_32_4, R_32_5, R_32_6, R_32_7, R_32_11, R_32_12, R_32_13, R_32_14, R_32_17, R_32_20, R_32_21, R_32_22, R_32_24, R_32_25, R_32_26, R_32_27, R_32_28, R_32_29, R_32_30, R_32_31, I_0_2, I_1_4, I_7_2, I_14_1, I_16_1, I_18_3, I_18_7, I_27_3, I_27_4, I_31_0, I_31_1, I_31_2, I_31_3, I_31_4, I_31_5, I_31_6, I_32_2, I_32_8, I_32_9, I_32_10, I_32_15, I_32_16, I_32_18, I_32_19, J_0_10, J_32_23, P_0_2, P_0_10, P_1_4, P_7_2, P_14_1, P_16_1, P_18_3, P_18_7, P_27_3, P_27_4, P_31_0, P_31_1, P_31_2, P_31_3, P_31_4, P_31_5, P_31_6, P_32_2, P_32_8, P_32_9, P_32_10, P_32_15, P_32_16, P_32_18, P_32_19, P_32_23, K_0, K_1, K_7, K_10, K_14, K_16, K_18, K_27, K_31, K_32, e_isCane r1 r3, eq_true hx, eq_false hy]
  · by_cases hy : rg n a2
    · obtain ⟨i, hi, rfl⟩ := (rg_iff (by omega)).mp hy
      refine ⟨-1, ?_, ?_⟩
      · unfold fX8_two
        simp only [Option.bind_some, bI_0, Decidable.not_not, nm, b2, zr, e_isWithin, e_in, e_isGlass8, e_isGlass9, reduceIte, not_false_eq_true, not_true_eq_false, if_true, if_false, and_self, z01, z10, c00, c11, true_and, and_true, R_0_0, R_0_1, R_0_3, R_0_4, R_0_5, R_0_6, R_0_7, R_0_8, R_0_9, R_1_0, R_1_1, R_1_2, R_1_3, R_7_0, R_7_1, R_10_0, R_10_1, R_10_2, R_14_0, R_16_0, R_18_0, R_18_1, R_18_2, R_18_4, R_18_5, R_18_6, R_18_8, R_18_9, R_27_0, R_27_1, R_27_2, R_32_0, R_32_1, R_32_3, R_32_4, R_32_5, R_32_6, R_32_7, R_32_11, R_32_12, R_32_13, R_32_14, R_32_17, R_32_20, R_32_21, R_32_22, R_32_24, R_32_25, R_32_26, R_32_27, R_32_28, R_32_29, R_32_30, R_32_31, I_0_2, I_1_4, I_7_2, I_14_1, I_16_1, I_18_3, I_18_7, I_27_3, I_27_4, I_31_0, I_31_1, I_31_2, I_31_3, I_31_4, I_31_5, I_31_6, I_32_2, I_32_8, I_32_9, I_32_10, I_32_15, I_32_16, I_32_18, I_32_19, J_0_10, J_32_23, P_0_2, P_0_10, P_1_4, P_7_2, P_14_1, P_16_1, P_18_3, P_18_7, P_27_3, P_27_4, P_31_0, P_31_1, P_31_2, P_31_3, P_31_4, P_31_5, P_31_6, P_32_2, P_32_8, P_32_9, P_32_10, P_32_15, P_32_16, P_32_18, P_32_19, P_32_23, K_0, K_1, K_7, K_10, K_14, K_16, K_18, K_27, K_31, K_32, e_find_n r1 r2 hx, e_find_y r1 r2 hi]
      · unfold fX9_two
        simp only [Option.bind_some, bI_0, Decidable.not_not, nm, b2, zr, e_isWithin, e_in, e_isGlass8, e_isGlass9, reduceIte, not_false_eq_true, not_true_eq_false, if_true, if_false, and_self, z01, z10, c00, c11, true_and, and_true, R_0_0, R_0_1, R_0_3, R_0_4, R_0_5, R_0_6, R_0_7, R_0_8, R_0_9, R_1_0, R_1_1, R_1_2, R_1_3, R_7_0, R_7_1, R_10_0, R_10_1, R_10_2, R_14_0, R_16_0, R_18_0, R_18_1, R_18_2, R_18_4, R_18_5, R_18_6, R_18_8, R_18_9, R_27_0, R_27_1, R_27_2, R_32_0, R_32_1, R_32_3, R_32_4, R_32_5, R_32_6, R_32_7, R_32_11, R_32_12, R_32_13, R_32_14, R_32_17, R_32_20, R_32_21, R_32_22, R_32_24, R_32_25, R_32_26, R_32_27, R_32_28, R_32_29, R_32_30, R_32_31, I_0_2, I_1_4, I_7_2, I_14_1, I_16_1, I_18_3, I_18_7, I_27_3, I_27_4, I_31_0, I_31_1, I_31_2, I_31_3, I_31_4, I_31_5, I_31_6, I_32_2, I_32_8, I_32_9, I_32_10, I_32_15, I_32_16, I_32_18, I_32_19, J_0_10, J_32_23, P_0_2, P_0_10, P_1_4, P_7_2, P_14_1, P_16_1, P_18_3, P_18_7, P_27_3, P_27_4, P_31_0, P_31_1, P_31_2, P_31_3, P_31_4, P_31_5, P_31_6, P_32_2, P_32_8, P_32_9, P_32_10, P_32_15, P_32_16, P_32_18, P_32_19, P_32_23, K_0, K_1, K_7, K_10, K_14, K_16, K_18, K_27, K_31, K_32, e_isCane r1 r3, eq_false hx]
    · refine ⟨-1, ?_, ?_⟩
      · unfold fX8_two
        simp only [Option.bind_some, bI_0, Decidable.not_not, nm, b2, zr, e_isWithin, e_in, e_isGlass8, e_isGlass9, reduceIte, not_false_eq_true, not_true_eq_false, if_true, if_false, and_self, z01, z10, c00, c11, true_and, and_true, R_0_0, R_0_1, R_0_3, R_0_4, R_0_5, R_0_6, R_0_7, R_0_8, R_0_9, R_1_0, R_1_1, R_1_2, R_1_3, R_7_0, R_7_1, R_10_0, R_10_1, R_10_2, R_14_0, R_16_0, R_18_0, R_18_1, R_18_2, R_18_4, R_18_5, R_18_6, R_18_8, R_18_9, R_27_0, R_27_1, R_27_2, R_32_0, R_32_1, R_32_3, R_32_4, R_32_5, R_32_6, R_32_7, R_32_11, R_32_12, R_32_13, R_32_14, R_32_17, R_32_20, R_32_21, R_32_22, R_32_24, R_32_25, R_32_26, R_32_27, R_32_28, R_32_29, R_32_30, R_32_31, I_0_2, I_1_4, I_7_2, I_14_1, I_16_1, I_18_3, I_18_7, I_27_3, I_27_4, I_31_0, I_31_1, I_31_2, I_31_3, I_31_4, I_31_5, I_31_6, I_32_2, I_32_8, I_32_9, I_32_10, I_32_15, I_32_16, I_32_18, I_32_19, J_0_10, J_32_23, P_0_2, P_0_10, P_1_4, P_7_2, P_14_1, P_16_1, P_18_3, P_18_7, P_27_3, P_27_4, P_31_0, P_31_1, P_31_2, P_31_3, P_31_4, P_31_5, P_31_6, P_32_2, P_32_8, P_32_9, P_32_10, P_32_15, P_32_16, P_32_18, P_32_19, P_32_23, K_0, K_1, K_7, K_10, K_14, K_16, K_18, K_27, K_31, K_32, e_find_n r1 r2 hx, e_find_n r1 r2 hy]
      · unfold fX9_two
        simp only [Option.bind_some, bI_0, Decidable.not_not, nm, b2, zr, e_isWithin, e_in, e_isGlass8, e_isGlass9, reduceIte, not_false_eq_true, not_true_eq_false, if_true, if_false, and_self, z01, z10, c00, c11, true_and, and_true, R_0_0, R_0_1, R_0_3, R_0_4, R_0_5, R_0_6, R_0_7, R_0_8, R_0_9, R_1_0, R_1_1, R_1_2, R_1_3, R_7_0, R_7_1, R_10_0, R_10_1, R_10_2, R_14_0, R_16_0, R_18_0, R_18_1, R_18_2, R_18_4, R_18_5, R_18_6, R_18_8, R_18_9, R_27_0, R_27_1, R_27_2, R_32_0, R_32_1, R_32_3, R_32_4, R_32_5, R_32_6, R_32_7, R_32_11, R_32_12, R_32_13, R_32_14, R_32_17, R_32_20, R_32_21, R_32_22, R_32_24, R_32_25, R_32_26, R_32_27, R_32_28, R_32_29, R_32_30, R_32_31, I_0_2, I_1_4, I_7_2, I_14_1, I_16_1, I_18_3, I_18_7, I_27_3, I_27_4, I_31_0, I_31_1, I_31_2, I_31_3, I_31_4, I_31_5, I_31_6, I_32_2, I_32_8, I_32_9, I_32_10, I_32_15, I_32_16, I_32_18, I_32_19, J_0_10, J_32_23, P_0_2, P_0_10, P_1_4, P_7_2, P_14_1, P_16_1, P_18_3, P_18_7, P_27_3, P_27_4, P_31_0, P_31_1, P_31_2, P_31_3, P_31_4, P_31_5, P_31_6, P_32_2, P_32_8, P_32_9, P_32_10, P_32_15, P_32_16, P_32_18, P_32_19, P_32_23, K_0, K_1, K_7, K_10, K_14, K_16, K_18, K_27, K_31, K_32, e_isCane r1 r3, eq_false hx]
