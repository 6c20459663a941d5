/-! ===== 496: the reference's walks ===== -/
def jW (v : Nat) : Int64 := lN (v % 1000000007)
def jC : Option Nat → Int64
  | none => -1
  | some v => lN v
def jnB (F : mI) (n p i j : Nat) : Bool := decide (isSl F n p i = true ∧ isSl F n p j = true ∧ ∀ y, y < p → lcN F p i y = fcN F p j y)
def RfR (F0 F : mI) : Prop := ∀ k j, (k = 32 ∨ k = 34 ∨ k = 35 ∨ k = 36 ∨ k = 39) → F k j = F0 k j
theorem jC_neg {v : Option Nat} {K : Nat} (h : bdC K v) (hK : K < 2 ^ 30) : (lg_cmp (jC v) 0 < 0) ↔ v = none := by
  rw [lg_cmp_lt]
  cases v with
  | none => exact ⟨fun _ => rfl, fun _ => by decide⟩
  | some w =>
    have := h w rfl
    refine ⟨fun z => ?_, fun z => (smn z).elim⟩
    have z' : lN w < lN 0 := z
    rw [lN_lt (by omega) (by omega)] at z'
    omega
theorem stJ_W {u w : Nat} : jW u + jW w - (jW u + jW w) / (1000000007 : Int64) * (1000000007 : Int64) = jW (u + w) := by
  unfold jW
  have h1 := Nat.mod_lt u (show 0 < 1000000007 by omega)
  have h2 := Nat.mod_lt w (show 0 < 1000000007 by omega)
  rw [lN_add]
  refine (pk_lRem (b := 1000000007) (by omega) (by omega) (by omega)).trans (congrArg lN ?_)
  exact (Nat.add_mod u w 1000000007).symm
theorem ix64' (i j : Nat) : (64 : Int32) * nI i + nI j = nI (64 * i + j) := by
  rw [show (64 : Int32) = nI 64 from rfl, pk_mul, nI_add]
section RR
variable {b : Nat} {G : mJ} {n n' : Nat} {sw : Bool} {N : Nat}
theorem e_isSlice {F0 F : mI} {k p : Nat} (hF : RfR F0 F) (hn : n ≤ 16) (h2 : F0 32 2 = nI n) (hC : CR F0 n) (hk : k < 64) : fX9_isSlice N (M b F G n' sw) (some (b + 32)) (nI k) (nI p) = some (bI (isSl F0 n p k = true)) := by
  unfold fX9_isSlice
  have g2 : F 32 2 = nI n := by rw [hF _ _ (by omega)]; exact h2
  have hd : nI k / (4 : Int32) = nI (k / 4) := pk_div (d := 4) (by omega) (by decide) (by decide)
  rw [K_32, I_32_2, g2]
  simp only [Option.bind_some]
  rw [show (4 : Int32) * nI n = nI (4 * n) from pk_mul 4 n, hd]
  by_cases h4 : k < 4 * n
  · obtain ⟨q, l, f, t, ⟨-, -, l9, -, -⟩, -, -, -, c4, -⟩ := hC (k / 4) (by omega)
    have g36 : F 36 (k / 4) = nI l := by rw [hF _ _ (by omega)]; exact c4
    have g35 : F 35 (k / 4) = F0 35 (k / 4) := hF _ _ (by omega)
    rw [if_neg (nI_ge h4 (by omega)), R_32_4]
    simp only [Option.bind_some]
    rw [L_36 (show k / 4 < 16 by omega), g36]
    simp only [Option.bind_some]
    by_cases hl : l = 0
    · rw [hl, if_pos (by decide), bI_f (fun z => (of_decide_eq_true z).2.1 (by rw [c4, hl]; rfl))]
    · rw [if_neg (nI_nle (by omega) (by omega)), R_32_3]
      simp only [Option.bind_some]
      rw [L_35 (show k / 4 < 16 by omega), g35]
      simp only [Option.bind_some]
      by_cases hq : F0 35 (k / 4) = nI p
      · rw [if_neg (fun z => z hq), bI_t (show isSl F0 n p k = true from decide_eq_true ⟨h4, by rw [c4]; exact ne0 (by omega) (by omega), hq⟩)]
      · rw [if_pos hq, bI_f (fun z => hq (of_decide_eq_true z).2.2)]
  · rw [if_pos (nI_le (by omega) (by omega)), bI_f (fun z => h4 (of_decide_eq_true z).1)]
theorem e_shN {F0 F : mI} {k p x y : Nat} (hF : RfR F0 F) (hn : n ≤ 16) (hC : CR F0 n) (hp8 : p ≤ 8) (hS : isSl F0 n p k = true) (hx : x < p) (hy : y < p) (hN : 20 ≤ N) : fX9_shown N (M b F G n' sw) (some (b + 32)) (nI k / (4 : Int32)) (nI p) (nI x) (nI y) (nI k - nI k / (4 : Int32) * (4 : Int32)) 0 = some (nI (F0 (58 + 3 * (k / 4)) (tq p (k % 4) false x y)).toNatClampNeg) := by
  obtain ⟨s1, s2, s3⟩ := of_decide_eq_true hS
  obtain ⟨q, l, f, t, ⟨-, q8, -⟩, -, c2, -, -, -, -, -, -, c9⟩ := hC (k / 4) (by omega)
  have hq : q = p := (nI_eq (by omega) (by omega)).mp (c2.symm.trans s3)
  subst hq
  have hl := itr_lt (p := q) (k % 4) x y hx hy
  obtain ⟨w1, g, w2, w3, w4⟩ := c9 _ _ hl.1 hl.2
  have e1 : F0 (58 + 3 * (k / 4)) (tq q (k % 4) false x y) = nI g := w1.trans w4
  rw [show nI k / (4 : Int32) = nI (k / 4) from pk_div (d := 4) (by omega) (by decide) (by decide)]
  have hr : nI k - nI (k / 4) * (4 : Int32) = nI (k % 4) := by
    rw [← show nI k / (4 : Int32) = nI (k / 4) from pk_div (d := 4) (by omega) (by decide) (by decide)]
    exact m4 (by omega)
  rw [hr, e_shown (show 10 ≤ N by omega) (show k / 4 ≤ 17 by omega) hp8 hx hy (show k % 4 < 2 ^ 31 by omega), Nat.mod_eq_of_lt (show k % 4 < 4 by omega), hF _ _ (by omega), w4, e1, nI_clamp (by omega)]
theorem e_fj44 {F0 F : mI} {i j p : Nat} (hF : RfR F0 F) (hn : n ≤ 16) (hC : CR F0 n) (hp1 : 1 ≤ p) (hp8 : p ≤ 8) (hi : isSl F0 n p i = true) (hj : isSl F0 n p j = true) (hK : Kok F0 n p) (hi6 : i < 64) (hj6 : j < 64) (hN : 20 ≤ N) : lX9_findJoins_44 N (M b F G n' sw) (some (b + 32)) (nI p) (nI i) (nI j) N 1 0 = some (bI (∀ y, y < p → lcN F0 p i y = fcN F0 p j y)) := by
  have key : ∀ (m y : Nat), y ≤ p → p - y + 1 < m → (∀ y', y' < y → lcN F0 p i y' = fcN F0 p j y') → lX9_findJoins_44 N (M b F G n' sw) (some (b + 32)) (nI p) (nI i) (nI j) m 1 (nI y) = some (bI (∀ y, y < p → lcN F0 p i y = fcN F0 p j y)) := by
    intro m
    induction m with
    | zero => intro y _ h; omega
    | succ m ih =>
      intro y hy hm hall
      rw [lX9_findJoins_44]
      by_cases e : y = p
      · subst e
        rw [if_pos (nI_le (Nat.le_refl _) (by omega)), bI_t hall]
      · have hy' : y < p := by omega
        have s1 := e_shN (N := N) (b := b) (G := G) (n' := n') (sw := sw) (x := p - 1) hF hn hC hp8 hi (by omega) hy' hN
        have s2 := e_shN (N := N) (b := b) (G := G) (n' := n') (sw := sw) (x := 0) hF hn hC hp8 hj (by omega) hy' hN
        rw [show nI 0 = (0 : Int32) from rfl] at s2
        rw [if_neg (nI_ge hy' (by omega)), if_neg z10, show nI p - 1 = nI (p - 1) from pk_sub (b := 1) hp1, s1]
        simp only [Option.bind_some]
        rw [s2]
        simp only [Option.bind_some, nm, nI_1]
        have b1 := (hK i hi6 hi).2.1 y hy'
        have b2 := (hK j hj6 hj).1 y hy'
        by_cases z : lcN F0 p i y = fcN F0 p j y
        · have z' : nI (F0 (58 + 3 * (i / 4)) (tq p (i % 4) false (p - 1) y)).toNatClampNeg = nI (F0 (58 + 3 * (j / 4)) (tq p (j % 4) false 0 y)).toNatClampNeg := congrArg nI z
          rw [if_neg (fun w => w z')]
          refine ih (y + 1) (by omega) (by omega) (fun y' hy2 => ?_)
          by_cases e2 : y' = y
          · rw [e2]; exact z
          · exact hall y' (by omega)
        · have z' : ¬ nI (F0 (58 + 3 * (i / 4)) (tq p (i % 4) false (p - 1) y)).toNatClampNeg = nI (F0 (58 + 3 * (j / 4)) (tq p (j % 4) false 0 y)).toNatClampNeg := fun w => z ((nI_eq (a := lcN F0 p i y) (b := fcN F0 p j y) (by omega) (by omega)).mp w)
          rw [if_pos z', bI_f (fun w => z (w y hy'))]
          obtain ⟨m', rfl⟩ : ∃ m', m = m' + 1 := ⟨m - 1, by omega⟩
          rw [lX9_findJoins_44]
          by_cases e3 : nI p ≤ nI (y + 1)
          · rw [if_pos e3]
          · rw [if_neg e3, if_pos rfl]
  exact key N 0 (by omega) (by omega) (fun y' h => by omega)
theorem e_fj44n {F : mI} {x2 x3 : Int32} {p : Nat} (hp1 : 1 ≤ p) (hp8 : p ≤ 8) (hN : 20 ≤ N) : lX9_findJoins_44 N (M b F G n' sw) (some (b + 32)) (nI p) x2 x3 N 0 0 = some 0 := by
  obtain ⟨m', rfl⟩ : ∃ m', N = m' + 1 := ⟨N - 1, by omega⟩
  rw [lX9_findJoins_44, if_neg (nI_nle (by omega) (by omega)), if_pos rfl]
def JnM (F0 F1 F : mI) (n p K : Nat) : Prop := (∀ k j, k ≠ 51 → F k j = F1 k j) ∧ ∀ q, q < K → F 51 q = bI (jnB F0 n p (q / 64) (q % 64) = true)
theorem e_fj10 {F0 F1 : mI} {i p : Nat} (hF : RfR F0 F1) (hn : n ≤ 16) (h2 : F0 32 2 = nI n) (hC : CR F0 n) (hp1 : 1 ≤ p) (hp8 : p ≤ 8) (hK : Kok F0 n p) (hi : i < 64) (hN : 100 ≤ N) : ∀ (m j : Nat) (F : mI), j ≤ 64 → 64 - j < m → JnM F0 F1 F n p (64 * i + j) → ∃ F', lX9_findJoins_10 N (some (b + 32)) (nI p) (nI i) m (nI j) (M b F G n' sw) = some (M b F' G n' sw) ∧ JnM F0 F1 F' n p (64 * i + 64) := by
  intro m
  induction m with
  | zero => intro j F _ h; omega
  | succ m ih =>
    intro j F hj hm hJ
    have hF' : RfR F0 F := fun k j h => by rw [hJ.1 _ _ (by omega)]; exact hF k j h
    rw [lX9_findJoins_10]
    by_cases e : j = 64
    · subst e
      refine ⟨F, ?_, hJ⟩
      rw [if_pos (by decide)]
    · have hj6 : j < 64 := by omega
      have next : ∀ v : Int32, (v = bI (jnB F0 n p i j = true)) → ∃ F', ((gfR (M b F G n' sw) 9 27 (some (b + 32))).bind fun r37 => (stZ (M b F G n' sw) r37 (((64 : Int32) * nI i) + nI j) v).bind fun S38 => lX9_findJoins_10 N (some (b + 32)) (nI p) (nI i) m (nI (j + 1)) S38) = some (M b F' G n' sw) ∧ JnM F0 F1 F' n p (64 * i + 64) := by
        intro v hv
        rw [R_32_27]
        simp only [Option.bind_some]
        rw [ix64', T_51 (show 64 * i + j < 4096 by omega), hv, bI_and]
        simp only [Option.bind_some]
        refine ih (j + 1) _ (by omega) (by omega) ⟨fun k j hk => ?_, fun q hq => ?_⟩
        · rw [u2_ne _ _ _ _ (fun z => hk z.1)]; exact hJ.1 k j hk
        · by_cases e2 : q = 64 * i + j
          · rw [e2, u2_eq, show (64 * i + j) / 64 = i by omega, show (64 * i + j) % 64 = j by omega]
          · rw [u2_ne _ _ _ _ (fun z => e2 z.2)]; exact hJ.2 q (by omega)
      rw [if_neg (show ¬ (64 : Int32) ≤ nI j from nI_ge (b := 64) hj6 (by decide)), e_isSlice hF' hn h2 hC hi]
      simp only [Option.bind_some, nm, nI_1]
      by_cases si : isSl F0 n p i = true
      · rw [bI_t si, if_neg z10, e_isSlice hF' hn h2 hC hj6]
        simp only [Option.bind_some]
        by_cases sj : isSl F0 n p j = true
        · rw [bI_t sj, if_neg z10, e_fj44 hF' hn hC hp1 hp8 si sj hK hi hj6 (by omega)]
          simp only [Option.bind_some]
          exact next _ (bI_c ⟨fun w => decide_eq_true ⟨si, sj, w⟩, fun w => (of_decide_eq_true w).2.2⟩)
        · rw [bI_f sj, if_pos rfl, e_fj44n hp1 hp8 (by omega)]
          simp only [Option.bind_some]
          exact next 0 (bI_f (fun w => sj (of_decide_eq_true w).2.1)).symm
      · rw [bI_f si, if_pos rfl, e_fj44n hp1 hp8 (by omega)]
        simp only [Option.bind_some]
        exact next 0 (bI_f (fun w => si (of_decide_eq_true w).1)).symm
theorem e_fj {F0 F1 : mI} {p : Nat} (hF : RfR F0 F1) (hn : n ≤ 16) (h2 : F0 32 2 = nI n) (hC : CR F0 n) (hp1 : 1 ≤ p) (hp8 : p ≤ 8) (hK : Kok F0 n p) (hN : 100 ≤ N) : ∃ F', fX9_findJoins N (M b F1 G n' sw) (some (b + 32)) (nI p) = some (M b F' G n' sw) ∧ JnM F0 F1 F' n p 4096 := by
  have key : ∀ (m i : Nat) (F : mI), i ≤ 64 → 64 - i < m → JnM F0 F1 F n p (64 * i) → ∃ F', lX9_findJoins_2 N (some (b + 32)) (nI p) m (nI i) (M b F G n' sw) = some (M b F' G n' sw) ∧ JnM F0 F1 F' n p 4096 := by
    intro m
    induction m with
    | zero => intro i F _ h; omega
    | succ m ih =>
      intro i F hi hm hJ
      rw [lX9_findJoins_2]
      by_cases e : i = 64
      · subst e
        refine ⟨F, ?_, hJ⟩
        rw [if_pos (by decide)]
      · obtain ⟨F', e1, e2⟩ := e_fj10 (N := N) (b := b) (G := G) (n' := n') (sw := sw) hF hn h2 hC hp1 hp8 hK (show i < 64 by omega) hN N 0 F (by omega) (by omega) hJ
        rw [show nI 0 = (0 : Int32) from rfl] at e1
        rw [if_neg (show ¬ (64 : Int32) ≤ nI i from nI_ge (b := 64) (by omega) (by decide)), e1]
        simp only [Option.bind_some, nm, nI_1]
        exact ih (i + 1) F' (by omega) (by omega) e2
  obtain ⟨F', e1, e2⟩ := key N 0 F1 (by omega) (by omega) ⟨fun _ _ _ => rfl, fun q hq => by omega⟩
  refine ⟨F', ?_, e2⟩
  unfold fX9_findJoins
  rw [K_32, show (0 : Int32) = nI 0 from rfl, e1]
  rfl
def G2 (G0 G : mJ) : Prop := ∀ k j, k ≠ 52 → k ≠ 53 → G k j = G0 k j
theorem e_costK {F0 F : mI} {k p : Nat} (hF : RfR F0 F) (hn : n ≤ 16) (hC : CR F0 n) (hG : GlC F0) (hp8 : p ≤ 8) (hS : isSl F0 n p k = true) (hN : 20 ≤ N) : fX9_costs N (M b F G n' sw) (some (b + 32)) (nI k / (4 : Int32)) = some (nI (csN F0 p k)) ∧ csN F0 p k ≤ 576 := by
  obtain ⟨s1, s2, s3⟩ := of_decide_eq_true hS
  obtain ⟨q, l, f, t, ⟨-, q8, -⟩, -, c2, -, -, -, -, -, -, c9⟩ := hC (k / 4) (by omega)
  have hq : q = p := (nI_eq (by omega) (by omega)).mp (c2.symm.trans s3)
  subst hq
  have hall : allG (F0 (58 + 3 * (k / 4))) q := fun x y hx hy => by
    obtain ⟨w1, w2⟩ := c9 x y hx hy
    rw [w1]; exact w2
  obtain ⟨c, c5, ec⟩ := csum_bd (h := F0 3) (f := F0 (58 + 3 * (k / 4))) q8 hall (fun g g1 g8 => by
    obtain ⟨w1, w2⟩ := hG g g1 g8
    rw [w1]; exact w2)
  have e1 : csN F0 q k = c := by unfold csN; rw [ec, nI_clamp (by omega)]
  rw [show nI k / (4 : Int32) = nI (k / 4) from pk_div (d := 4) (by omega) (by decide) (by decide), e1]
  refine ⟨?_, c5⟩
  rw [← ec]
  exact e_costs9 hN (by omega) q8 (by rw [hF _ _ (by omega)]; exact c2) (fun x y hx hy => by
    rw [hF _ _ (by omega)]
    exact c9 x y hx hy) (fun g g1 g8 => by rw [hF _ _ (by omega)]; exact (hG g g1 g8).1)

theorem e_copy9 {F : mI} (G1 : mJ) : ∀ (m j : Nat) (G : mJ), j ≤ 64 → 64 - j < m → (∀ k q, k ≠ 52 → G k q = G1 k q) → (∀ q, q < j → G 52 q = G1 53 q) → ∃ G', lX9_stepOn_165 N (some (b + 32)) m (nI j) (M b F G n' sw) = some (M b F G' n' sw) ∧ (∀ k q, k ≠ 52 → G' k q = G1 k q) ∧ ∀ q, q < 64 → G' 52 q = G1 53 q := by
  intro m
  induction m with
  | zero => intro j G _ h; omega
  | succ m ih =>
    intro j G hj hm h1 h2
    rw [lX9_stepOn_165]
    by_cases e : j = 64
    · subst e
      refine ⟨G, ?_, h1, h2⟩
      rw [if_pos (by decide)]
    · have hj6 : j < 64 := by omega
      rw [if_neg (show ¬ (64 : Int32) ≤ nI j from nI_ge (b := 64) hj6 (by decide)), R_32_28]
      simp only [Option.bind_some]
      rw [R_32_29]
      simp only [Option.bind_some]
      rw [L_53 hj6]
      simp only [Option.bind_some]
      rw [T_52 hj6]
      simp only [Option.bind_some, nm, nI_1]
      refine ih (j + 1) _ (by omega) (by omega) (fun k q hk => ?_) (fun q hq => ?_)
      · rw [u2_ne _ _ _ _ (fun z => hk z.1)]; exact h1 k q hk
      · by_cases e2 : q = j
        · rw [e2, u2_eq]; exact h1 53 j (by omega)
        · rw [u2_ne _ _ _ _ (fun z => e2 z.2)]; exact h2 q (by omega)

theorem e_s28W {F0 F : mI} {p j K : Nat} {v : Nat → Nat} (hF : RfR F0 F) (hn : n ≤ 16) (hC : CR F0 n) (hG : GlC F0) (hp8 : p ≤ 8) (h51 : ∀ q, q < 4096 → F 51 q = bI (jnB F0 n p (q / 64) (q % 64) = true)) (hj : j < 64) (hK : K ≤ 7000) (hB : ∀ i, i < 64 → bdW K (v i)) (hN : 100 ≤ N) : ∀ (m i : Nat) (G : mJ), i ≤ 64 → 64 - i < m → (∀ i, i < 64 → G 52 i = jW (v i)) → G 53 j = jW (bs (fun a c : Nat => a + c) 0 (fun i => if jnB F0 n p i j = true then (fun (_ : Nat) (v : Nat) => v) j (v i) else 0) i) → ∃ G', lX9_stepOn_28 N (some (b + 32)) 0 (nI j) m (nI i) (M b F G n' sw) = some (M b F G' n' sw) ∧ (∀ k q, ¬ (k = 53 ∧ q = j) → G' k q = G k q) ∧ G' 53 j = jW (Ast (fun a c : Nat => a + c) 0 (fun (_ : Nat) (v : Nat) => v) (jnB F0 n p) v j) := by
  intro m
  induction m with
  | zero => intro i G _ h; omega
  | succ m ih =>
    intro i G hi hm hnow hth
    rw [lX9_stepOn_28]
    by_cases e : i = 64
    · subst e
      refine ⟨G, ?_, fun _ _ _ => rfl, hth⟩
      rw [if_pos (by decide)]
    · have hi6 : i < 64 := by omega
      have hjn : F 51 (64 * i + j) = bI (jnB F0 n p i j = true) := by
        rw [h51 _ (by omega), show (64 * i + j) / 64 = i by omega, show (64 * i + j) % 64 = j by omega]
      have keep : G 53 j = jW (bs (fun a c : Nat => a + c) 0 (fun i => if jnB F0 n p i j = true then (fun (_ : Nat) (v : Nat) => v) j (v i) else 0) (i + 1)) → ∃ G', lX9_stepOn_28 N (some (b + 32)) 0 (nI j) m (nI (i + 1)) (M b F G n' sw) = some (M b F G' n' sw) ∧ (∀ k q, ¬ (k = 53 ∧ q = j) → G' k q = G k q) ∧ G' 53 j = jW (Ast (fun a c : Nat => a + c) 0 (fun (_ : Nat) (v : Nat) => v) (jnB F0 n p) v j) := fun h => ih (i + 1) G (by omega) (by omega) hnow h
      have put : ∀ x, x = jW (bs (fun a c : Nat => a + c) 0 (fun i => if jnB F0 n p i j = true then (fun (_ : Nat) (v : Nat) => v) j (v i) else 0) (i + 1)) → ∃ G', lX9_stepOn_28 N (some (b + 32)) 0 (nI j) m (nI (i + 1)) (M b F (u2 G 53 j x) n' sw) = some (M b F G' n' sw) ∧ (∀ k q, ¬ (k = 53 ∧ q = j) → G' k q = G k q) ∧ G' 53 j = jW (Ast (fun a c : Nat => a + c) 0 (fun (_ : Nat) (v : Nat) => v) (jnB F0 n p) v j) := fun x h => by
        obtain ⟨G', e1, e2, e3⟩ := ih (i + 1) (u2 G 53 j x) (by omega) (by omega) (fun i hi => by rw [u2_ne _ _ _ _ (by omega)]; exact hnow i hi) (by rw [u2_eq]; exact h)
        exact ⟨G', e1, fun k q z => by rw [e2 k q z, u2_ne _ _ _ _ z], e3⟩
      have hsucc : bs (fun a c : Nat => a + c) 0 (fun i => if jnB F0 n p i j = true then (fun (_ : Nat) (v : Nat) => v) j (v i) else 0) (i + 1) = (fun a c : Nat => a + c) (bs (fun a c : Nat => a + c) 0 (fun i => if jnB F0 n p i j = true then (fun (_ : Nat) (v : Nat) => v) j (v i) else 0) i) (if jnB F0 n p i j = true then (fun (_ : Nat) (v : Nat) => v) j (v i) else 0) := rfl
      rw [if_neg (show ¬ (64 : Int32) ≤ nI i from nI_ge (b := 64) hi6 (by decide)), R_32_27]
      simp only [Option.bind_some]
      rw [ix64', L_51 (show 64 * i + j < 4096 by omega), hjn]
      simp only [Option.bind_some, nm, nI_1]
      by_cases hj1 : jnB F0 n p i j = true
      · rw [if_pos hj1] at hsucc
        rw [bI_t hj1, if_neg z10]
        rw [if_neg (fun z => z trivial), R_32_29]
        simp only [Option.bind_some]
        rw [L_53 hj, hth]
        simp only [Option.bind_some]
        rw [R_32_28]
        simp only [Option.bind_some]
        rw [L_52 hi6, hnow i hi6]
        simp only [Option.bind_some]
        rw [stJ_W, T_53 hj]
        simp only [Option.bind_some]
        exact put _ (by rw [hsucc])
      · rw [if_neg hj1, CM_z CM_W] at hsucc
        rw [bI_f hj1, if_pos rfl]
        exact keep (by rw [hsucc]; exact hth)

theorem e_s28C {F0 F : mI} {p j K : Nat} {v : Nat → (Option Nat)} (hF : RfR F0 F) (hn : n ≤ 16) (hC : CR F0 n) (hG : GlC F0) (hp8 : p ≤ 8) (h51 : ∀ q, q < 4096 → F 51 q = bI (jnB F0 n p (q / 64) (q % 64) = true)) (hj : j < 64) (hK : K ≤ 7000) (hB : ∀ i, i < 64 → bdC K (v i)) (hN : 100 ≤ N) : ∀ (m i : Nat) (G : mJ), i ≤ 64 → 64 - i < m → (∀ i, i < 64 → G 52 i = jC (v i)) → G 53 j = jC (bs omin none (fun i => if jnB F0 n p i j = true then (fun (j : Nat) (v : Option Nat) => oadd (csN F0 p j) v) j (v i) else none) i) → ∃ G', lX9_stepOn_28 N (some (b + 32)) 1 (nI j) m (nI i) (M b F G n' sw) = some (M b F G' n' sw) ∧ (∀ k q, ¬ (k = 53 ∧ q = j) → G' k q = G k q) ∧ G' 53 j = jC (Ast omin none (fun (j : Nat) (v : Option Nat) => oadd (csN F0 p j) v) (jnB F0 n p) v j) := by
  intro m
  induction m with
  | zero => intro i G _ h; omega
  | succ m ih =>
    intro i G hi hm hnow hth
    rw [lX9_stepOn_28]
    by_cases e : i = 64
    · subst e
      refine ⟨G, ?_, fun _ _ _ => rfl, hth⟩
      rw [if_pos (by decide)]
    · have hi6 : i < 64 := by omega
      have hjn : F 51 (64 * i + j) = bI (jnB F0 n p i j = true) := by
        rw [h51 _ (by omega), show (64 * i + j) / 64 = i by omega, show (64 * i + j) % 64 = j by omega]
      have keep : G 53 j = jC (bs omin none (fun i => if jnB F0 n p i j = true then (fun (j : Nat) (v : Option Nat) => oadd (csN F0 p j) v) j (v i) else none) (i + 1)) → ∃ G', lX9_stepOn_28 N (some (b + 32)) 1 (nI j) m (nI (i + 1)) (M b F G n' sw) = some (M b F G' n' sw) ∧ (∀ k q, ¬ (k = 53 ∧ q = j) → G' k q = G k q) ∧ G' 53 j = jC (Ast omin none (fun (j : Nat) (v : Option Nat) => oadd (csN F0 p j) v) (jnB F0 n p) v j) := fun h => ih (i + 1) G (by omega) (by omega) hnow h
      have put : ∀ x, x = jC (bs omin none (fun i => if jnB F0 n p i j = true then (fun (j : Nat) (v : Option Nat) => oadd (csN F0 p j) v) j (v i) else none) (i + 1)) → ∃ G', lX9_stepOn_28 N (some (b + 32)) 1 (nI j) m (nI (i + 1)) (M b F (u2 G 53 j x) n' sw) = some (M b F G' n' sw) ∧ (∀ k q, ¬ (k = 53 ∧ q = j) → G' k q = G k q) ∧ G' 53 j = jC (Ast omin none (fun (j : Nat) (v : Option Nat) => oadd (csN F0 p j) v) (jnB F0 n p) v j) := fun x h => by
        obtain ⟨G', e1, e2, e3⟩ := ih (i + 1) (u2 G 53 j x) (by omega) (by omega) (fun i hi => by rw [u2_ne _ _ _ _ (by omega)]; exact hnow i hi) (by rw [u2_eq]; exact h)
        exact ⟨G', e1, fun k q z => by rw [e2 k q z, u2_ne _ _ _ _ z], e3⟩
      have hsucc : bs omin none (fun i => if jnB F0 n p i j = true then (fun (j : Nat) (v : Option Nat) => oadd (csN F0 p j) v) j (v i) else none) (i + 1) = omin (bs omin none (fun i => if jnB F0 n p i j = true then (fun (j : Nat) (v : Option Nat) => oadd (csN F0 p j) v) j (v i) else none) i) (if jnB F0 n p i j = true then (fun (j : Nat) (v : Option Nat) => oadd (csN F0 p j) v) j (v i) else none) := rfl
      rw [if_neg (show ¬ (64 : Int32) ≤ nI i from nI_ge (b := 64) hi6 (by decide)), R_32_27]
      simp only [Option.bind_some]
      rw [ix64', L_51 (show 64 * i + j < 4096 by omega), hjn]
      simp only [Option.bind_some, nm, nI_1]
      by_cases hj1 : jnB F0 n p i j = true
      · rw [if_pos hj1] at hsucc
        rw [bI_t hj1, if_neg z10]
        have sj : isSl F0 n p j = true := (of_decide_eq_true hj1).2.1
        obtain ⟨hco, hc5⟩ := e_costK (N := N) (b := b) (G := G) (n' := n') (sw := sw) hF hn hC hG hp8 sj (by omega)
        have hbT : bdC (K + 576) (bs omin none (fun i => if jnB F0 n p i j = true then (fun (j : Nat) (v : Option Nat) => oadd (csN F0 p j) v) j (v i) else none) i) := bd_bs i (fun i' hi' => by
          by_cases z : jnB F0 n p i' j = true
          · rw [if_pos z]; exact bd_add (hB i' (by omega)) hc5
          · rw [if_neg z]; exact bd_no _)
        rw [if_pos z10, R_32_28]
        simp only [Option.bind_some]
        rw [L_52 hi6, hnow i hi6]
        simp only [Option.bind_some]
        have hneg := jC_neg (hB i hi6) (by omega)
        cases hvi : v i with
        | none =>
          rw [hvi] at hneg hsucc
          rw [if_pos (hneg.mpr rfl)]
          exact keep (by rw [hsucc, show (fun (j : Nat) (v : Option Nat) => oadd (csN F0 p j) v) j none = none from rfl, CM_z CM_C]; exact hth)
        | some w =>
          have hw := hB i hi6 w hvi
          rw [hvi] at hneg hsucc
          rw [if_neg (fun z => smn (hneg.mp z)), hco]
          simp only [Option.bind_some, R_32_29]
          rw [L_53 hj, hth]
          simp only [Option.bind_some]
          rw [nI_l (show csN F0 p j < 2 ^ 31 by omega), show jC (some w) = lN w from rfl, lN_add, T_53 hj]
          simp only [Option.bind_some]
          have hneg2 := jC_neg hbT (by omega)
          generalize hT : bs omin none (fun i => if jnB F0 n p i j = true then (fun (j : Nat) (v : Option Nat) => oadd (csN F0 p j) v) j (v i) else none) i = T at hbT hneg2 hsucc hth ⊢
          cases T with
          | none =>
            rw [if_pos (hneg2.mpr rfl)]
            exact put _ (by rw [hsucc]; rfl)
          | some t =>
            have ht := hbT t rfl
            rw [if_neg (fun z => smn (hneg2.mp z))]
            have hcmp : (0 ≤ lg_cmp (lN (w + csN F0 p j)) (jC (some t))) ↔ t ≤ w + csN F0 p j := by
              rw [lg_cmp_ge]
              exact lN_le (by omega) (by omega)
            by_cases z : t ≤ w + csN F0 p j
            · rw [if_pos (hcmp.mpr z), T_53 hj]
              simp only [Option.bind_some]
              exact put _ (by
                rw [hsucc]
                show lN t = lN (min t (w + csN F0 p j))
                rw [Nat.min_eq_left z])
            · rw [if_neg (fun q => z (hcmp.mp q))]
              exact put _ (by
                rw [hsucc]
                show lN (w + csN F0 p j) = lN (min t (w + csN F0 p j))
                rw [Nat.min_eq_right (by omega)])
      · rw [if_neg hj1, CM_z CM_C] at hsucc
        rw [bI_f hj1, if_pos rfl]
        exact keep (by rw [hsucc]; exact hth)

theorem e_stepW {F0 F : mI} {p K : Nat} {v : Nat → Nat} (hF : RfR F0 F) (hn : n ≤ 16) (hC : CR F0 n) (hG : GlC F0) (hp8 : p ≤ 8) (h51 : ∀ q, q < 4096 → F 51 q = bI (jnB F0 n p (q / 64) (q % 64) = true)) (hK : K ≤ 7000) (hB : ∀ i, i < 64 → bdW K (v i)) (hnow : ∀ i, i < 64 → G 52 i = jW (v i)) (hN : 100 ≤ N) {x1 : Int32} : ∃ G', fX9_stepOn N (M b F G n' sw) (some (b + 32)) x1 0 = some (M b F G' n' sw) ∧ G2 G G' ∧ ∀ j, j < 64 → G' 52 j = jW (Ast (fun a c : Nat => a + c) 0 (fun (_ : Nat) (v : Nat) => v) (jnB F0 n p) v j) := by
  have key : ∀ (m j : Nat) (G' : mJ), j ≤ 64 → 64 - j < m → (∀ k q, k ≠ 53 → G' k q = G k q) → (∀ q, q < j → G' 53 q = jW (Ast (fun a c : Nat => a + c) 0 (fun (_ : Nat) (v : Nat) => v) (jnB F0 n p) v q)) → ∃ G'', lX9_stepOn_2 N (some (b + 32)) 0 m (nI j) (M b F G' n' sw) = some (M b F G'' n' sw) ∧ (∀ k q, k ≠ 53 → G'' k q = G k q) ∧ ∀ q, q < 64 → G'' 53 q = jW (Ast (fun a c : Nat => a + c) 0 (fun (_ : Nat) (v : Nat) => v) (jnB F0 n p) v q) := by
    intro m
    induction m with
    | zero => intro j G' _ h; omega
    | succ m ih =>
      intro j G' hj hm h1 h2
      rw [lX9_stepOn_2]
      by_cases e : j = 64
      · subst e
        refine ⟨G', ?_, h1, h2⟩
        rw [if_pos (by decide)]
      · have hj6 : j < 64 := by omega
        obtain ⟨G'', e1, e2, e3⟩ := e_s28W (N := N) (b := b) (n' := n') (sw := sw) hF hn hC hG hp8 h51 hj6 hK hB hN N 0 (u2 G' 53 j 0) (by omega) (by omega) (fun i hi => by rw [u2_ne _ _ _ _ (by omega), h1 _ _ (by omega)]; exact hnow i hi) (by rw [u2_eq]; rfl)
        rw [show nI 0 = (0 : Int32) from rfl] at e1
        rw [if_neg (show ¬ (64 : Int32) ≤ nI j from nI_ge (b := 64) hj6 (by decide)), R_32_29]
        simp only [Option.bind_some, nm, nI_1]
        rw [if_pos trivial, T_53 hj6]
        simp only [Option.bind_some]
        rw [e1]
        simp only [Option.bind_some]
        refine ih (j + 1) G'' (by omega) (by omega) (fun k q hk => ?_) (fun q hq => ?_)
        · rw [e2 k q (fun z => hk z.1), u2_ne _ _ _ _ (fun z => hk z.1)]
          exact h1 k q hk
        · by_cases e4 : q = j
          · rw [e4]; exact e3
          · rw [e2 53 q (fun z => e4 z.2), u2_ne _ _ _ _ (fun z => e4 z.2)]
            exact h2 q (by omega)
  obtain ⟨G1, e1, e2, e3⟩ := key N 0 G (by omega) (by omega) (fun _ _ _ => rfl) (fun q h => by omega)
  obtain ⟨G3, f1, f2, f3⟩ := e_copy9 (N := N) (b := b) (F := F) (n' := n') (sw := sw) G1 N 0 G1 (by omega) (by omega) (fun _ _ _ => rfl) (fun q h => by omega)
  rw [show nI 0 = (0 : Int32) from rfl] at e1 f1
  refine ⟨G3, ?_, fun k q h1 h2 => by rw [f2 k q h1, e2 k q h2], fun j hj => by rw [f3 j hj, e3 j hj]⟩
  unfold fX9_stepOn
  rw [K_32, e1]
  simp only [Option.bind_some]
  rw [f1]
  rfl
theorem e_b153W {F0 F : mI} {p nn first : Nat} {x7 : Int32} {j5 : Int64} {G0 : mJ} (hF : RfR F0 F) (hn : n ≤ 16) (hC : CR F0 n) (hG : GlC F0) (hp8 : p ≤ 8) (h51 : ∀ q, q < 4096 → F 51 q = bI (jnB F0 n p (q / 64) (q % 64) = true)) (hnn : nn ≤ 12) (hcost : ∀ j, j < 64 → isSl F0 n p j = true → csN F0 p j ≤ 576) (hN : 100 ≤ N) {x2 : Int32} : ∀ (m st : Nat) (G : mJ), st ≤ nn → nn - st < m → G2 G0 G → (∀ j, j < 64 → G 52 j = jW (itB (Ast (fun a c : Nat => a + c) 0 (fun (_ : Nat) (v : Nat) => v) (jnB F0 n p)) st (ev1 1 0 first) j)) → (∀ j, j < 64 → bdW (576 * st) (itB (Ast (fun a c : Nat => a + c) 0 (fun (_ : Nat) (v : Nat) => v) (jnB F0 n p)) st (ev1 1 0 first) j)) → ∃ G', lX9_bowl_153 N (some (b + 32)) (nI nn) x2 0 j5 x7 m (nI st) (M b F G n' sw) = some (M b F G' n' sw) ∧ G2 G0 G' ∧ ∀ j, j < 64 → G' 52 j = jW (itB (Ast (fun a c : Nat => a + c) 0 (fun (_ : Nat) (v : Nat) => v) (jnB F0 n p)) nn (ev1 1 0 first) j) ∧ bdW (576 * nn) (itB (Ast (fun a c : Nat => a + c) 0 (fun (_ : Nat) (v : Nat) => v) (jnB F0 n p)) nn (ev1 1 0 first) j) := by
  intro m
  induction m with
  | zero => intro st G _ h; omega
  | succ m ih =>
    intro st G hst hm hG0 hnow hb
    rw [lX9_bowl_153]
    by_cases e : st = nn
    · subst e
      refine ⟨G, ?_, hG0, fun j hj => ⟨hnow j hj, hb j hj⟩⟩
      rw [if_pos (nI_le (Nat.le_refl _) (by omega))]
    · obtain ⟨G', e1, e2, e3⟩ := e_stepW (N := N) (b := b) (G := G) (n' := n') (sw := sw) (K := 576 * st) (x1 := x2) hF hn hC hG hp8 h51 (by omega) hb hnow hN
      rw [if_neg (nI_ge (by omega) (by omega)), e1]
      simp only [Option.bind_some, nm, nI_1]
      refine ih (st + 1) G' (by omega) (by omega) (fun k q h1 h2 => by rw [e2 k q h1 h2]; exact hG0 k q h1 h2) e3 (fun j hj => ?_)
      exact trivial
theorem e_b85W {F : mI} {first : Nat} {x1 x2 : Int32} {j5 : Int64} (G0 : mJ) (hf : first < 64) : ∀ (m j : Nat) (G : mJ), j ≤ 64 → 64 - j < m → G2 G0 G → (∀ q, q < j → G 52 q = jW (ev1 1 0 first q)) → ∃ G', lX9_bowl_85 N (some (b + 32)) x1 x2 0 j5 (nI first) m (nI j) (M b F G n' sw) = some (M b F G' n' sw) ∧ G2 G0 G' ∧ ∀ q, q < 64 → G' 52 q = jW (ev1 1 0 first q) := by
  intro m
  induction m with
  | zero => intro j G _ h; omega
  | succ m ih =>
    intro j G hj hm hG0 hnow
    rw [lX9_bowl_85]
    by_cases e : j = 64
    · subst e
      refine ⟨G, ?_, hG0, hnow⟩
      rw [if_pos (by decide)]
    · have hj6 : j < 64 := by omega
      have fin : ∀ a c : Int64, c = jW (ev1 1 0 first j) → ∃ G', lX9_bowl_85 N (some (b + 32)) x1 x2 0 j5 (nI first) m (nI (j + 1)) (M b F (u2 (u2 G 52 j a) 52 j c) n' sw) = some (M b F G' n' sw) ∧ G2 G0 G' ∧ ∀ q, q < 64 → G' 52 q = jW (ev1 1 0 first q) := fun a c hc => ih (j + 1) _ (by omega) (by omega) (fun k q h1 h2 => by rw [u2_ne _ _ _ _ (fun z => h1 z.1), u2_ne _ _ _ _ (fun z => h1 z.1)]; exact hG0 k q h1 h2) (fun q hq => by
        by_cases e2 : q = j
        · rw [e2, u2_eq]; exact hc
        · rw [u2_ne _ _ _ _ (fun z => e2 z.2), u2_ne _ _ _ _ (fun z => e2 z.2)]; exact hnow q (by omega))
      rw [if_neg (show ¬ (64 : Int32) ≤ nI j from nI_ge (b := 64) hj6 (by decide)), R_32_28]
      simp only [Option.bind_some, nm, nI_1, R_32_28]
      by_cases e2 : j = first
      · have hev : ev1 1 0 first j = 1 := if_pos e2
        rw [if_neg (fun z => z (by rw [e2])), T_52 hj6]
        simp only [Option.bind_some, R_32_28]
        rw [if_pos trivial, L_52 hj6, u2_eq]
        simp only [Option.bind_some]
        rw [T_52 hj6]
        simp only [Option.bind_some]
        exact fin _ _ (by rw [hev]; rfl)
      · have hev : ev1 1 0 first j = 0 := if_neg e2
        rw [if_pos (fun z => e2 ((nI_eq (by omega) (by omega)).mp z)), T_52 hj6]
        simp only [Option.bind_some, R_32_28]
        rw [if_pos trivial, L_52 hj6, u2_eq]
        simp only [Option.bind_some]
        rw [T_52 hj6]
        simp only [Option.bind_some]
        exact fin _ _ (by rw [hev]; rfl)
theorem e_b65W {F0 F : mI} {p nn : Nat} {G0 : mJ} (hF : RfR F0 F) (hn : n ≤ 16) (h2 : F0 32 2 = nI n) (hC : CR F0 n) (hG : GlC F0) (hp8 : p ≤ 8) (h51 : ∀ q, q < 4096 → F 51 q = bI (jnB F0 n p (q / 64) (q % 64) = true)) (hnn : nn ≤ 12) (hcost : ∀ j, j < 64 → isSl F0 n p j = true → csN F0 p j ≤ 576) (hN : 100 ≤ N) : ∀ (m f : Nat) (G : mJ), f ≤ 64 → 64 - f < m → G2 G0 G → bdW 7000 (bs (fun a c : Nat => a + c) 0 (fun f => if isSl F0 n p f = true then itB (Ast (fun a c : Nat => a + c) 0 (fun (_ : Nat) (v : Nat) => v) (jnB F0 n p)) nn (ev1 1 0 f) f else 0) f) → ∃ G', lX9_bowl_65 N (some (b + 32)) (nI nn) (nI p) 0 m (jW (bs (fun a c : Nat => a + c) 0 (fun f => if isSl F0 n p f = true then itB (Ast (fun a c : Nat => a + c) 0 (fun (_ : Nat) (v : Nat) => v) (jnB F0 n p)) nn (ev1 1 0 f) f else 0) f)) (nI f) (M b F G n' sw) = some (jW (bs (fun a c : Nat => a + c) 0 (fun f => if isSl F0 n p f = true then itB (Ast (fun a c : Nat => a + c) 0 (fun (_ : Nat) (v : Nat) => v) (jnB F0 n p)) nn (ev1 1 0 f) f else 0) 64), M b F G' n' sw) ∧ G2 G0 G' ∧ bdW 7000 (bs (fun a c : Nat => a + c) 0 (fun f => if isSl F0 n p f = true then itB (Ast (fun a c : Nat => a + c) 0 (fun (_ : Nat) (v : Nat) => v) (jnB F0 n p)) nn (ev1 1 0 f) f else 0) 64) := by
  intro m
  induction m with
  | zero => intro f G _ h; omega
  | succ m ih =>
    intro f G hf hm hG0 hbT
    rw [lX9_bowl_65]
    by_cases e : f = 64
    · subst e
      refine ⟨G, ?_, hG0, hbT⟩
      rw [if_pos (by decide)]
    · have hf6 : f < 64 := by omega
      have hsucc : bs (fun a c : Nat => a + c) 0 (fun f => if isSl F0 n p f = true then itB (Ast (fun a c : Nat => a + c) 0 (fun (_ : Nat) (v : Nat) => v) (jnB F0 n p)) nn (ev1 1 0 f) f else 0) (f + 1) = (fun a c : Nat => a + c) (bs (fun a c : Nat => a + c) 0 (fun f => if isSl F0 n p f = true then itB (Ast (fun a c : Nat => a + c) 0 (fun (_ : Nat) (v : Nat) => v) (jnB F0 n p)) nn (ev1 1 0 f) f else 0) f) (if isSl F0 n p f = true then itB (Ast (fun a c : Nat => a + c) 0 (fun (_ : Nat) (v : Nat) => v) (jnB F0 n p)) nn (ev1 1 0 f) f else 0) := rfl
      rw [if_neg (show ¬ (64 : Int32) ≤ nI f from nI_ge (b := 64) hf6 (by decide)), e_isSlice hF hn h2 hC hf6]
      simp only [Option.bind_some, nm, nI_1]
      by_cases hS : isSl F0 n p f = true
      · rw [if_pos hS] at hsucc
        obtain ⟨G1, e1, e2, e3⟩ := e_b85W (N := N) (b := b) (F := F) (n' := n') (sw := sw) (x1 := nI nn) (x2 := nI p) (j5 := jW (bs (fun a c : Nat => a + c) 0 (fun f => if isSl F0 n p f = true then itB (Ast (fun a c : Nat => a + c) 0 (fun (_ : Nat) (v : Nat) => v) (jnB F0 n p)) nn (ev1 1 0 f) f else 0) f)) G0 hf6 N 0 G (by omega) (by omega) hG0 (fun q h => by omega)
        obtain ⟨G3, f1, f2, f3⟩ := e_b153W (N := N) (b := b) (n' := n') (sw := sw) (first := f) (x7 := nI f) (x2 := nI p) (j5 := jW (bs (fun a c : Nat => a + c) 0 (fun f => if isSl F0 n p f = true then itB (Ast (fun a c : Nat => a + c) 0 (fun (_ : Nat) (v : Nat) => v) (jnB F0 n p)) nn (ev1 1 0 f) f else 0) f)) hF hn hC hG hp8 h51 hnn hcost hN N 0 G1 (by omega) (by omega) e2 e3 (fun j hj => trivial)
        rw [show nI 0 = (0 : Int32) from rfl] at e1 f1
        obtain ⟨f4, f5⟩ := f3 f hf6
        rw [bI_t hS, if_neg z10, e1]
        simp only [Option.bind_some]
        rw [f1]
        simp only [Option.bind_some, R_32_28]
        rw [if_neg (fun z => z trivial), L_52 hf6, f4]
        simp only [Option.bind_some]
        rw [stJ_W]
        have := ih (f + 1) G3 (by omega) (by omega) f2 trivial
        rw [hsucc] at this
        exact this
      · rw [if_neg hS, CM_z CM_W] at hsucc
        rw [bI_f hS, if_pos rfl]
        have := ih (f + 1) G (by omega) (by omega) hG0 (by rw [hsucc]; exact hbT)
        rw [hsucc] at this
        exact this

theorem e_stepC {F0 F : mI} {p K : Nat} {v : Nat → (Option Nat)} (hF : RfR F0 F) (hn : n ≤ 16) (hC : CR F0 n) (hG : GlC F0) (hp8 : p ≤ 8) (h51 : ∀ q, q < 4096 → F 51 q = bI (jnB F0 n p (q / 64) (q % 64) = true)) (hK : K ≤ 7000) (hB : ∀ i, i < 64 → bdC K (v i)) (hnow : ∀ i, i < 64 → G 52 i = jC (v i)) (hN : 100 ≤ N) {x1 : Int32} : ∃ G', fX9_stepOn N (M b F G n' sw) (some (b + 32)) x1 1 = some (M b F G' n' sw) ∧ G2 G G' ∧ ∀ j, j < 64 → G' 52 j = jC (Ast omin none (fun (j : Nat) (v : Option Nat) => oadd (csN F0 p j) v) (jnB F0 n p) v j) := by
  have key : ∀ (m j : Nat) (G' : mJ), j ≤ 64 → 64 - j < m → (∀ k q, k ≠ 53 → G' k q = G k q) → (∀ q, q < j → G' 53 q = jC (Ast omin none (fun (j : Nat) (v : Option Nat) => oadd (csN F0 p j) v) (jnB F0 n p) v q)) → ∃ G'', lX9_stepOn_2 N (some (b + 32)) 1 m (nI j) (M b F G' n' sw) = some (M b F G'' n' sw) ∧ (∀ k q, k ≠ 53 → G'' k q = G k q) ∧ ∀ q, q < 64 → G'' 53 q = jC (Ast omin none (fun (j : Nat) (v : Option Nat) => oadd (csN F0 p j) v) (jnB F0 n p) v q) := by
    intro m
    induction m with
    | zero => intro j G' _ h; omega
    | succ m ih =>
      intro j G' hj hm h1 h2
      rw [lX9_stepOn_2]
      by_cases e : j = 64
      · subst e
        refine ⟨G', ?_, h1, h2⟩
        rw [if_pos (by decide)]
      · have hj6 : j < 64 := by omega
        obtain ⟨G'', e1, e2, e3⟩ := e_s28C (N := N) (b := b) (n' := n') (sw := sw) hF hn hC hG hp8 h51 hj6 hK hB hN N 0 (u2 G' 53 j (-1)) (by omega) (by omega) (fun i hi => by rw [u2_ne _ _ _ _ (by omega), h1 _ _ (by omega)]; exact hnow i hi) (by rw [u2_eq]; rfl)
        rw [show nI 0 = (0 : Int32) from rfl] at e1
        rw [if_neg (show ¬ (64 : Int32) ≤ nI j from nI_ge (b := 64) hj6 (by decide)), R_32_29]
        simp only [Option.bind_some, nm, nI_1]
        rw [if_neg z10, T_53 hj6]
        simp only [Option.bind_some]
        rw [e1]
        simp only [Option.bind_some]
        refine ih (j + 1) G'' (by omega) (by omega) (fun k q hk => ?_) (fun q hq => ?_)
        · rw [e2 k q (fun z => hk z.1), u2_ne _ _ _ _ (fun z => hk z.1)]
          exact h1 k q hk
        · by_cases e4 : q = j
          · rw [e4]; exact e3
          · rw [e2 53 q (fun z => e4 z.2), u2_ne _ _ _ _ (fun z => e4 z.2)]
            exact h2 q (by omega)
  obtain ⟨G1, e1, e2, e3⟩ := key N 0 G (by omega) (by omega) (fun _ _ _ => rfl) (fun q h => by omega)
  obtain ⟨G3, f1, f2, f3⟩ := e_copy9 (N := N) (b := b) (F := F) (n' := n') (sw := sw) G1 N 0 G1 (by omega) (by omega) (fun _ _ _ => rfl) (fun q h => by omega)
  rw [show nI 0 = (0 : Int32) from rfl] at e1 f1
  refine ⟨G3, ?_, fun k q h1 h2 => by rw [f2 k q h1, e2 k q h2], fun j hj => by rw [f3 j hj, e3 j hj]⟩
  unfold fX9_stepOn
  rw [K_32, e1]
  simp only [Option.bind_some]
  rw [f1]
  rfl
theorem e_b153C {F0 F : mI} {p nn first : Nat} {x7 : Int32} {j5 : Int64} {G0 : mJ} (hF : RfR F0 F) (hn : n ≤ 16) (hC : CR F0 n) (hG : GlC F0) (hp8 : p ≤ 8) (h51 : ∀ q, q < 4096 → F 51 q = bI (jnB F0 n p (q / 64) (q % 64) = true)) (hnn : nn ≤ 12) (hcost : ∀ j, j < 64 → isSl F0 n p j = true → csN F0 p j ≤ 576) (hN : 100 ≤ N) {x2 : Int32} : ∀ (m st : Nat) (G : mJ), st ≤ nn → nn - st < m → G2 G0 G → (∀ j, j < 64 → G 52 j = jC (itB (Ast omin none (fun (j : Nat) (v : Option Nat) => oadd (csN F0 p j) v) (jnB F0 n p)) st (ev1 (some 0) none first) j)) → (∀ j, j < 64 → bdC (576 * st) (itB (Ast omin none (fun (j : Nat) (v : Option Nat) => oadd (csN F0 p j) v) (jnB F0 n p)) st (ev1 (some 0) none first) j)) → ∃ G', lX9_bowl_153 N (some (b + 32)) (nI nn) x2 1 j5 x7 m (nI st) (M b F G n' sw) = some (M b F G' n' sw) ∧ G2 G0 G' ∧ ∀ j, j < 64 → G' 52 j = jC (itB (Ast omin none (fun (j : Nat) (v : Option Nat) => oadd (csN F0 p j) v) (jnB F0 n p)) nn (ev1 (some 0) none first) j) ∧ bdC (576 * nn) (itB (Ast omin none (fun (j : Nat) (v : Option Nat) => oadd (csN F0 p j) v) (jnB F0 n p)) nn (ev1 (some 0) none first) j) := by
  intro m
  induction m with
  | zero => intro st G _ h; omega
  | succ m ih =>
    intro st G hst hm hG0 hnow hb
    rw [lX9_bowl_153]
    by_cases e : st = nn
    · subst e
      refine ⟨G, ?_, hG0, fun j hj => ⟨hnow j hj, hb j hj⟩⟩
      rw [if_pos (nI_le (Nat.le_refl _) (by omega))]
    · obtain ⟨G', e1, e2, e3⟩ := e_stepC (N := N) (b := b) (G := G) (n' := n') (sw := sw) (K := 576 * st) (x1 := x2) hF hn hC hG hp8 h51 (by omega) hb hnow hN
      rw [if_neg (nI_ge (by omega) (by omega)), e1]
      simp only [Option.bind_some, nm, nI_1]
      refine ih (st + 1) G' (by omega) (by omega) (fun k q h1 h2 => by rw [e2 k q h1 h2]; exact hG0 k q h1 h2) e3 (fun j hj => ?_)
      rw [show 576 * (st + 1) = 576 * st + 576 by omega]
      exact bd_bs 64 (fun i hi => by
        by_cases z : jnB F0 n p i j = true
        · rw [if_pos z]; exact bd_add (hb i hi) (hcost j hj (of_decide_eq_true z).2.1)
        · rw [if_neg z]; exact bd_no _)
theorem e_b85C {F : mI} {first : Nat} {x1 x2 : Int32} {j5 : Int64} (G0 : mJ) (hf : first < 64) : ∀ (m j : Nat) (G : mJ), j ≤ 64 → 64 - j < m → G2 G0 G → (∀ q, q < j → G 52 q = jC (ev1 (some 0) none first q)) → ∃ G', lX9_bowl_85 N (some (b + 32)) x1 x2 1 j5 (nI first) m (nI j) (M b F G n' sw) = some (M b F G' n' sw) ∧ G2 G0 G' ∧ ∀ q, q < 64 → G' 52 q = jC (ev1 (some 0) none first q) := by
  intro m
  induction m with
  | zero => intro j G _ h; omega
  | succ m ih =>
    intro j G hj hm hG0 hnow
    rw [lX9_bowl_85]
    by_cases e : j = 64
    · subst e
      refine ⟨G, ?_, hG0, hnow⟩
      rw [if_pos (by decide)]
    · have hj6 : j < 64 := by omega
      have fin : ∀ a c : Int64, c = jC (ev1 (some 0) none first j) → ∃ G', lX9_bowl_85 N (some (b + 32)) x1 x2 1 j5 (nI first) m (nI (j + 1)) (M b F (u2 (u2 G 52 j a) 52 j c) n' sw) = some (M b F G' n' sw) ∧ G2 G0 G' ∧ ∀ q, q < 64 → G' 52 q = jC (ev1 (some 0) none first q) := fun a c hc => ih (j + 1) _ (by omega) (by omega) (fun k q h1 h2 => by rw [u2_ne _ _ _ _ (fun z => h1 z.1), u2_ne _ _ _ _ (fun z => h1 z.1)]; exact hG0 k q h1 h2) (fun q hq => by
        by_cases e2 : q = j
        · rw [e2, u2_eq]; exact hc
        · rw [u2_ne _ _ _ _ (fun z => e2 z.2), u2_ne _ _ _ _ (fun z => e2 z.2)]; exact hnow q (by omega))
      rw [if_neg (show ¬ (64 : Int32) ≤ nI j from nI_ge (b := 64) hj6 (by decide)), R_32_28]
      simp only [Option.bind_some, nm, nI_1, R_32_28]
      by_cases e2 : j = first
      · have hev : ev1 (some 0) none first j = (some 0) := if_pos e2
        rw [if_neg (fun z => z (by rw [e2])), T_52 hj6]
        simp only [Option.bind_some, R_32_28]
        rw [if_neg z10, L_52 hj6, u2_eq]
        simp only [Option.bind_some]
        rw [T_52 hj6]
        simp only [Option.bind_some]
        exact fin _ _ (by rw [hev]; rfl)
      · have hev : ev1 (some 0) none first j = none := if_neg e2
        rw [if_pos (fun z => e2 ((nI_eq (by omega) (by omega)).mp z)), T_52 hj6]
        simp only [Option.bind_some, R_32_28]
        rw [if_neg z10, L_52 hj6, u2_eq]
        simp only [Option.bind_some]
        rw [T_52 hj6]
        simp only [Option.bind_some]
        exact fin _ _ (by rw [hev]; rfl)
theorem e_b65C {F0 F : mI} {p nn : Nat} {G0 : mJ} (hF : RfR F0 F) (hn : n ≤ 16) (h2 : F0 32 2 = nI n) (hC : CR F0 n) (hG : GlC F0) (hp8 : p ≤ 8) (h51 : ∀ q, q < 4096 → F 51 q = bI (jnB F0 n p (q / 64) (q % 64) = true)) (hnn : nn ≤ 12) (hcost : ∀ j, j < 64 → isSl F0 n p j = true → csN F0 p j ≤ 576) (hN : 100 ≤ N) : ∀ (m f : Nat) (G : mJ), f ≤ 64 → 64 - f < m → G2 G0 G → bdC 7000 (bs omin none (fun f => if isSl F0 n p f = true then itB (Ast omin none (fun (j : Nat) (v : Option Nat) => oadd (csN F0 p j) v) (jnB F0 n p)) nn (ev1 (some 0) none f) f else none) f) → ∃ G', lX9_bowl_65 N (some (b + 32)) (nI nn) (nI p) 1 m (jC (bs omin none (fun f => if isSl F0 n p f = true then itB (Ast omin none (fun (j : Nat) (v : Option Nat) => oadd (csN F0 p j) v) (jnB F0 n p)) nn (ev1 (some 0) none f) f else none) f)) (nI f) (M b F G n' sw) = some (jC (bs omin none (fun f => if isSl F0 n p f = true then itB (Ast omin none (fun (j : Nat) (v : Option Nat) => oadd (csN F0 p j) v) (jnB F0 n p)) nn (ev1 (some 0) none f) f else none) 64), M b F G' n' sw) ∧ G2 G0 G' ∧ bdC 7000 (bs omin none (fun f => if isSl F0 n p f = true then itB (Ast omin none (fun (j : Nat) (v : Option Nat) => oadd (csN F0 p j) v) (jnB F0 n p)) nn (ev1 (some 0) none f) f else none) 64) := by
  intro m
  induction m with
  | zero => intro f G _ h; omega
  | succ m ih =>
    intro f G hf hm hG0 hbT
    rw [lX9_bowl_65]
    by_cases e : f = 64
    · subst e
      refine ⟨G, ?_, hG0, hbT⟩
      rw [if_pos (by decide)]
    · have hf6 : f < 64 := by omega
      have hsucc : bs omin none (fun f => if isSl F0 n p f = true then itB (Ast omin none (fun (j : Nat) (v : Option Nat) => oadd (csN F0 p j) v) (jnB F0 n p)) nn (ev1 (some 0) none f) f else none) (f + 1) = omin (bs omin none (fun f => if isSl F0 n p f = true then itB (Ast omin none (fun (j : Nat) (v : Option Nat) => oadd (csN F0 p j) v) (jnB F0 n p)) nn (ev1 (some 0) none f) f else none) f) (if isSl F0 n p f = true then itB (Ast omin none (fun (j : Nat) (v : Option Nat) => oadd (csN F0 p j) v) (jnB F0 n p)) nn (ev1 (some 0) none f) f else none) := rfl
      rw [if_neg (show ¬ (64 : Int32) ≤ nI f from nI_ge (b := 64) hf6 (by decide)), e_isSlice hF hn h2 hC hf6]
      simp only [Option.bind_some, nm, nI_1]
      by_cases hS : isSl F0 n p f = true
      · rw [if_pos hS] at hsucc
        obtain ⟨G1, e1, e2, e3⟩ := e_b85C (N := N) (b := b) (F := F) (n' := n') (sw := sw) (x1 := nI nn) (x2 := nI p) (j5 := jC (bs omin none (fun f => if isSl F0 n p f = true then itB (Ast omin none (fun (j : Nat) (v : Option Nat) => oadd (csN F0 p j) v) (jnB F0 n p)) nn (ev1 (some 0) none f) f else none) f)) G0 hf6 N 0 G (by omega) (by omega) hG0 (fun q h => by omega)
        obtain ⟨G3, f1, f2, f3⟩ := e_b153C (N := N) (b := b) (n' := n') (sw := sw) (first := f) (x7 := nI f) (x2 := nI p) (j5 := jC (bs omin none (fun f => if isSl F0 n p f = true then itB (Ast omin none (fun (j : Nat) (v : Option Nat) => oadd (csN F0 p j) v) (jnB F0 n p)) nn (ev1 (some 0) none f) f else none) f)) hF hn hC hG hp8 h51 hnn hcost hN N 0 G1 (by omega) (by omega) e2 e3 (fun j hj => fun w hw => by
          have hw : (if j = f then some 0 else none) = some w := hw
          by_cases e : j = f
          · rw [if_pos e] at hw
            have := Option.some.inj hw
            omega
          · rw [if_neg e] at hw
            exact (nsm hw).elim)
        rw [show nI 0 = (0 : Int32) from rfl] at e1 f1
        obtain ⟨f4, f5⟩ := f3 f hf6
        rw [bI_t hS, if_neg z10, e1]
        simp only [Option.bind_some]
        rw [f1]
        simp only [Option.bind_some, R_32_28]
        rw [if_pos z10, L_52 hf6, f4]
        simp only [Option.bind_some]
        have f5' : bdC 7000 (itB (Ast omin none (fun (j : Nat) (v : Option Nat) => oadd (csN F0 p j) v) (jnB F0 n p)) nn (ev1 (some 0) none f) f) := fun w hw => Nat.le_trans (f5 w hw) (by omega)
        have hn1 := jC_neg f5' (by omega)
        have hn2 := jC_neg hbT (by omega)
        have go := ih (f + 1) G3 (by omega) (by omega) f2 (by rw [hsucc]; exact bd_op hbT f5')
        rw [hsucc] at go
        generalize hX : itB (Ast omin none (fun (j : Nat) (v : Option Nat) => oadd (csN F0 p j) v) (jnB F0 n p)) nn (ev1 (some 0) none f) f = X at *
        generalize hT : bs omin none (fun f => if isSl F0 n p f = true then itB (Ast omin none (fun (j : Nat) (v : Option Nat) => oadd (csN F0 p j) v) (jnB F0 n p)) nn (ev1 (some 0) none f) f else none) f = T at *
        cases X with
        | none =>
          rw [if_pos (hn1.mpr rfl)]
          rw [CM_z CM_C] at go
          exact go
        | some x =>
          have hx := f5' x rfl
          rw [if_neg (fun z => smn (hn1.mp z))]
          cases T with
          | none =>
            rw [if_pos (hn2.mpr rfl)]
            exact go
          | some t =>
            have ht := hbT t rfl
            rw [if_neg (fun z => smn (hn2.mp z))]
            have hcmp : (0 ≤ lg_cmp (jC (some x)) (jC (some t))) ↔ t ≤ x := by
              rw [lg_cmp_ge]
              exact lN_le (by omega) (by omega)
            by_cases z : t ≤ x
            · rw [if_pos (hcmp.mpr z)]
              have e9 : omin (some t) (some x) = some t := by show some (min t x) = some t; rw [Nat.min_eq_left z]
              rw [e9] at go
              exact go
            · rw [if_neg (fun q => z (hcmp.mp q))]
              have e9 : omin (some t) (some x) = some x := by show some (min t x) = some x; rw [Nat.min_eq_right (by omega)]
              rw [e9] at go
              exact go
      · rw [if_neg hS, CM_z CM_C] at hsucc
        rw [bI_f hS, if_pos rfl]
        have := ih (f + 1) G (by omega) (by omega) hG0 (by rw [hsucc]; exact hbT)
        rw [hsucc] at this
        exact this
end RR
