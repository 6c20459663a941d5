/-! ===== 488: slices and their keys ===== -/
theorem cn_flat {P : Nat → Bool} {a : Nat} : ∀ d, (∀ j, a ≤ j → j < a + d → P j = false) → cn P (a + d) = cn P a
  | 0, _ => rfl
  | d + 1, h => by
    rw [show a + (d + 1) = (a + d) + 1 by omega, cn_s, h (a + d) (by omega) (by omega)]
    have := cn_flat d (fun j h1 h2 => h j h1 (by omega))
    rw [this]
    rfl
def Kn (f : Nat → Nat) : Nat → Nat
  | 0 => 0
  | y + 1 => Kn f y * 16 + f y
theorem Kn_lt {f : Nat → Nat} : ∀ y, (∀ j, j < y → f j < 16) → Kn f y < 16 ^ y
  | 0, _ => by simp [Kn]
  | y + 1, h => by
    have := Kn_lt y (fun j hj => h j (by omega))
    have := h y (by omega)
    rw [Nat.pow_succ]
    simp only [Kn]
    omega
theorem Kn_inj {f g : Nat → Nat} : ∀ y, (∀ j, j < y → f j < 16) → (∀ j, j < y → g j < 16) → (Kn f y = Kn g y ↔ ∀ j, j < y → f j = g j)
  | 0, _, _ => ⟨fun _ j hj => by omega, fun _ => rfl⟩
  | y + 1, hf, hg => by
    have ih := Kn_inj y (fun j hj => hf j (by omega)) (fun j hj => hg j (by omega))
    have a1 := hf y (by omega)
    have a2 := hg y (by omega)
    simp only [Kn]
    constructor
    · intro h j hj
      have h1 : Kn f y = Kn g y := by omega
      by_cases e : j = y
      · rw [e]; omega
      · exact ih.mp h1 j (by omega)
    · intro h
      rw [ih.mpr (fun j hj => h j (by omega)), h y (by omega)]
theorem nI_inj32 {a c : Nat} (ha : a < 2 ^ 32) (hc : c < 2 ^ 32) : nI a = nI c ↔ a = c := by
  constructor
  · intro h
    have this : (nI a).toBitVec.toNat = (nI c).toBitVec.toNat := congrArg (fun z : Int32 => z.toBitVec.toNat) h
    rw [pk_tn ha, pk_tn hc] at this
    exact this
  · intro h; rw [h]
theorem sh4 : (((4 : Int32) &&& 31).toBitVec.smod 32).toNat = 4 := by decide
theorem key_s {a g : Nat} (ha : a * 16 < 2 ^ 32) (hg : g < 16) : (nI a <<< ((4 : Int32) &&& 31)) ||| nI g = nI (a * 16 + g) := by
  rw [pk_shlN ((4 : Int32) &&& 31) 4 sh4 ha, nI_or]
  refine congrArg nI ?_
  rw [show a * 2 ^ 4 = 2 ^ 4 * a from Nat.mul_comm _ _, ← Nat.two_pow_add_eq_or_of_lt (show g < 2 ^ 4 from hg), Nat.mul_comm]
theorem e_key {N : Nat} {S : pH} {r : Option Nat} {p x t : Nat} {f : Nat → Int32} (h : Pic S r p f) (hg : allG f p) (hx : x < p) (ht : t < 4) (hN : 20 ≤ N) : fX5_columnKey N S r (nI x) (nI t) = some (nI (Kn (fun y => (f (tq p t false x y)).toNatClampNeg) p)) := by
  have hp8 := h.2.2.1
  obtain ⟨fs, h1⟩ := h.1
  have hv : ∀ y, y < p → ∃ g, 1 ≤ g ∧ g ≤ 8 ∧ f (tq p t false x y) = nI g := fun y hy => by
    have hl := itr_lt (p := p) t x y hx hy
    exact hg _ _ hl.1 hl.2
  have hv2 : ∀ y, y < p → (f (tq p t false x y)).toNatClampNeg < 16 ∧ f (tq p t false x y) = nI (f (tq p t false x y)).toNatClampNeg := fun y hy => by
    obtain ⟨g, g1, g8, eg⟩ := hv y hy
    rw [eg, nI_clamp (by omega)]
    exact ⟨by omega, rfl⟩
  have key : ∀ (m y : Nat), y ≤ p → p - y < m → lX5_columnKey_5 N S r (nI x) (nI t) m (nI (Kn (fun y => (f (tq p t false x y)).toNatClampNeg) y)) (nI y) = some (nI (Kn (fun y => (f (tq p t false x y)).toNatClampNeg) p)) := by
    intro m
    induction m with
    | zero => intro y h1 h2; omega
    | succ m ih =>
      intro y hy hm
      rw [lX5_columnKey_5, h.2.1]
      simp only [Option.bind_some]
      by_cases e : y = p
      · subst e
        rw [if_pos (nI_le (Nat.le_refl _) (by omega))]
      · have hy' : y < p := by omega
        have hb := Kn_lt (f := fun y => (f (tq p t false x y)).toNatClampNeg) y (fun j hj => (hv2 j (by omega)).1)
        have hb2 : 16 ^ y ≤ 16 ^ 7 := Nat.pow_le_pow_right (by omega) (by omega)
        have hb3 : (16 : Nat) ^ 7 = 268435456 := by decide
        rw [if_neg (nI_ge hy' (by omega)), e_atT h hx hy' ht]
        simp only [Option.bind_some, nm, nI_1]
        rw [(hv2 y hy').2, key_s (by omega) (hv2 y hy').1]
        exact ih (y + 1) (by omega) (by omega)
  unfold fX5_columnKey
  rw [chk_of h1, show (0 : Int32) = nI (Kn (fun y => (f (tq p t false x y)).toNatClampNeg) 0) from rfl]
  have := key N 0 (by omega) (by omega)
  rw [show nI 0 = nI (Kn (fun y => (f (tq p t false x y)).toNatClampNeg) 0) from rfl] at this
  rw [this]
  rfl
theorem sr_bd {f : Nat → Int32} {m : Nat} : ∀ (d i : Nat), (∀ j, i ≤ j → j < i + d → ∃ c, c ≤ m ∧ f j = nI c) → ∃ c, c ≤ d * m ∧ srI f i d = nI c
  | 0, i, _ => ⟨0, by omega, rfl⟩
  | d + 1, i, h => by
    obtain ⟨c, c1, c2⟩ := sr_bd d (i + 1) (fun j h1 h2 => h j (by omega) (by omega))
    obtain ⟨e, e1, e2⟩ := h i (by omega) (by omega)
    refine ⟨e + c, ?_, ?_⟩
    · rw [Nat.add_mul]; omega
    · show f i + srI f (i + 1) d = _
      rw [e2, c2, nI_add]
theorem csum_bd {h f : Nat → Int32} {p : Nat} (hp : p ≤ 8) (hg : allG f p) (hh : ∀ g, 1 ≤ g → g ≤ 8 → ∃ c, 1 ≤ c ∧ c ≤ 9 ∧ h g = nI c) : ∃ c, c ≤ 576 ∧ csum h f p = nI c := by
  obtain ⟨c, c1, c2⟩ := sr_bd (f := fun y => srI (fun x => h (f (8 * y + x)).toNatClampNeg) 0 p) (m := 72) p 0 (fun y _ hy => by
    obtain ⟨e, e1, e2⟩ := sr_bd (f := fun x => h (f (8 * y + x)).toNatClampNeg) (m := 9) p 0 (fun x _ hx => by
      obtain ⟨g, g1, g8, eg⟩ := hg x y (by omega) (by omega)
      rw [eg, nI_clamp (by omega)]
      obtain ⟨c, -, c9, ec⟩ := hh g g1 g8
      exact ⟨c, c9, ec⟩)
    exact ⟨e, by omega, e2⟩)
  exact ⟨c, by omega, c2⟩
/-- the data of slice k -/
def isSl (F : mI) (n p k : Nat) : Bool := decide (k < 4 * n ∧ ¬ F 36 (k / 4) = 0 ∧ F 35 (k / 4) = nI p)
def fcN (F : mI) (p k y : Nat) : Nat := (F (58 + 3 * (k / 4)) (tq p (k % 4) false 0 y)).toNatClampNeg
def lcN (F : mI) (p k y : Nat) : Nat := (F (58 + 3 * (k / 4)) (tq p (k % 4) false (p - 1) y)).toNatClampNeg
def csN (F : mI) (p k : Nat) : Nat := (csum (F 3) (F (58 + 3 * (k / 4))) p).toNatClampNeg
def SlM (F0 F : mI) (n p K : Nat) : Prop := (∀ k j, k ≠ 19 → k ≠ 20 → k ≠ 21 → ¬ (k = 18 ∧ j = 3) → F k j = F0 k j) ∧ F 18 3 = nI (cn (isSl F0 n p) K) ∧ ∀ k, k < K → isSl F0 n p k = true → F 19 (cn (isSl F0 n p) k) = nI (Kn (fcN F0 p k) p) ∧ F 20 (cn (isSl F0 n p) k) = nI (Kn (lcN F0 p k) p) ∧ F 21 (cn (isSl F0 n p) k) = nI (csN F0 p k)
section OF
variable {b : Nat} {G : mJ} {n : Nat} {sw : Bool} {N : Nat}
theorem e_offer {F0 : mI} {i p c : Nat} (hi : i < n) (hn : n ≤ 16) (hp1 : 1 ≤ p) (hp8 : p ≤ 8) (h1 : F0 (57 + 3 * i) 1 = nI p) (hg : allG (F0 (58 + 3 * i)) p) (hS : ∀ t, t < 4 → isSl F0 n p (4 * i + t) = true) (hc : ∀ t, t < 4 → csN F0 p (4 * i + t) = c) (hN : 20 ≤ N) : ∀ (m t : Nat) (F : mI), t ≤ 4 → 4 - t < m → SlM F0 F n p (4 * i + t) → ∃ F', lX0_offer_2 N (some (b + 18)) (some (b + (57 + 3 * i))) (nI c) m (nI t) (M b F G n sw) = some (M b F' G n sw) ∧ SlM F0 F' n p (4 * i + 4) := by
  intro m
  induction m with
  | zero => intro t F _ h; omega
  | succ m ih =>
    intro t F ht hm hM
    rw [lX0_offer_2]
    by_cases e : t = 4
    · subst e
      refine ⟨F, ?_, hM⟩
      rw [if_pos (by decide)]
    · obtain ⟨f1, f2, f3⟩ := id hM
      have hle := cn_le (isSl F0 n p) (4 * i + t)
      have h64 : cn (isSl F0 n p) (4 * i + t) < 64 := by omega
      have hfd : ∀ F' : mI, (∀ k j, k ≠ 19 → k ≠ 20 → k ≠ 21 → ¬ (k = 18 ∧ j = 3) → F' k j = F0 k j) → Pic (M b F' G n sw) (some (b + (57 + 3 * i))) p (F0 (58 + 3 * i)) := fun F' h => by
        have e1 : F' (58 + 3 * i) = F0 (58 + 3 * i) := funext fun j => h _ _ (by omega) (by omega) (by omega) (by omega)
        rw [← e1]
        exact P_cane hi (by rw [h _ _ (by omega) (by omega) (by omega) (by omega)]; exact h1) hp8
      have kq : ∀ (F' : mI) x, (∀ k j, k ≠ 19 → k ≠ 20 → k ≠ 21 → ¬ (k = 18 ∧ j = 3) → F' k j = F0 k j) → x < p → fX5_columnKey N (M b F' G n sw) (some (b + (57 + 3 * i))) (nI x) (nI t) = some (nI (Kn (fun y => (F0 (58 + 3 * i) (tq p t false x y)).toNatClampNeg) p)) := fun F' x h hx => e_key (hfd F' h) hg hx (by omega) hN
      have kf : (fun y => (F0 (58 + 3 * i) (tq p t false 0 y)).toNatClampNeg) = fcN F0 p (4 * i + t) := funext fun y => by
        unfold fcN
        rw [show (4 * i + t) / 4 = i by omega, show (4 * i + t) % 4 = t by omega]
      have kl : (fun y => (F0 (58 + 3 * i) (tq p t false (p - 1) y)).toNatClampNeg) = lcN F0 p (4 * i + t) := funext fun y => by
        unfold lcN
        rw [show (4 * i + t) / 4 = i by omega, show (4 * i + t) % 4 = t by omega]
      have k0 := kq F 0 f1 (by omega)
      rw [kf, show nI 0 = (0 : Int32) from rfl] at k0
      have g1 : ∀ k j, k ≠ 19 → k ≠ 20 → k ≠ 21 → ¬ (k = 18 ∧ j = 3) → (u2 F 19 (cn (isSl F0 n p) (4 * i + t)) (nI (Kn (fcN F0 p (4 * i + t)) p))) k j = F0 k j := fun k j z1 z2 z3 z4 => by rw [u2_ne _ _ _ _ (fun w => z1 w.1)]; exact f1 k j z1 z2 z3 z4
      have k1 := kq (u2 F 19 (cn (isSl F0 n p) (4 * i + t)) (nI (Kn (fcN F0 p (4 * i + t)) p))) (p - 1) g1 (by omega)
      rw [kl] at k1
      have s1 : (u2 F 19 (cn (isSl F0 n p) (4 * i + t)) (nI (Kn (fcN F0 p (4 * i + t)) p))) 18 3 = nI (cn (isSl F0 n p) (4 * i + t)) := by rw [u2_ne _ _ _ _ (by omega)]; exact f2
      have s2 : (u2 (u2 F 19 (cn (isSl F0 n p) (4 * i + t)) (nI (Kn (fcN F0 p (4 * i + t)) p))) 20 (cn (isSl F0 n p) (4 * i + t)) (nI (Kn (lcN F0 p (4 * i + t)) p))) 18 3 = nI (cn (isSl F0 n p) (4 * i + t)) := by rw [u2_ne _ _ _ _ (by omega)]; exact s1
      have s3 : (u2 (u2 (u2 F 19 (cn (isSl F0 n p) (4 * i + t)) (nI (Kn (fcN F0 p (4 * i + t)) p))) 20 (cn (isSl F0 n p) (4 * i + t)) (nI (Kn (lcN F0 p (4 * i + t)) p))) 21 (cn (isSl F0 n p) (4 * i + t)) (nI c)) 18 3 = nI (cn (isSl F0 n p) (4 * i + t)) := by rw [u2_ne _ _ _ _ (by omega)]; exact s2
      have sp : (u2 F 19 (cn (isSl F0 n p) (4 * i + t)) (nI (Kn (fcN F0 p (4 * i + t)) p))) (57 + 3 * i) 1 = nI p := by rw [g1 _ _ (by omega) (by omega) (by omega) (by omega)]; exact h1
      rw [if_neg (show ¬ (4 : Int32) ≤ nI t from nI_ge (b := 4) (by omega) (by decide)), I_18_3, f2]
      simp only [Option.bind_some]
      rw [if_neg (show ¬ (64 : Int32) ≤ nI (cn (isSl F0 n p) (4 * i + t)) from nI_ge (b := 64) h64 (by decide)), R_18_0]
      simp only [Option.bind_some, k0]
      rw [T_19 h64]
      simp only [Option.bind_some, R_18_1, I_18_3, s1]
      rw [Ip_1 hi, sp]
      simp only [Option.bind_some]
      rw [show nI p - 1 = nI (p - 1) from pk_sub (b := 1) hp1, k1]
      simp only [Option.bind_some]
      rw [T_20 h64]
      simp only [Option.bind_some, R_18_2, I_18_3, s2]
      rw [T_21 h64]
      simp only [Option.bind_some, I_18_3, s3, nI_1, P_18_3, nm]
      have hcn : cn (isSl F0 n p) (4 * i + (t + 1)) = (cn (isSl F0 n p) (4 * i + t)) + 1 := by
        rw [show 4 * i + (t + 1) = 4 * i + t + 1 by omega, cn_s, if_pos (hS t (by omega))]
      refine ih (t + 1) _ (by omega) (by omega) ⟨fun k j z1 z2 z3 z4 => ?_, by rw [u2_eq, hcn], fun k hk hkS => ?_⟩
      · rw [u2_ne _ _ _ _ z4, u2_ne _ _ _ _ (fun w => z3 w.1), u2_ne _ _ _ _ (fun w => z2 w.1)]
        exact g1 k j z1 z2 z3 z4
      · by_cases e2 : k = 4 * i + t
        · rw [e2]
          refine ⟨?_, ?_, ?_⟩
          · rw [u2_ne _ _ _ _ (by omega), u2_ne _ _ _ _ (by omega), u2_ne _ _ _ _ (by omega), u2_eq]
          · rw [u2_ne _ _ _ _ (by omega), u2_ne _ _ _ _ (by omega), u2_eq]
          · rw [u2_ne _ _ _ _ (by omega), u2_eq, hc t (by omega)]
        · have hlt := cn_lt (P := isSl F0 n p) (show k < 4 * i + t by omega) hkS
          obtain ⟨q1, q2, q3⟩ := f3 k (by omega) hkS
          refine ⟨?_, ?_, ?_⟩
          · rw [u2_ne _ _ _ _ (by omega), u2_ne _ _ _ _ (by omega), u2_ne _ _ _ _ (by omega), u2_ne _ _ _ _ (by omega)]; exact q1
          · rw [u2_ne _ _ _ _ (by omega), u2_ne _ _ _ _ (by omega), u2_ne _ _ _ _ (by omega), u2_ne _ _ _ _ (by omega)]; exact q2
          · rw [u2_ne _ _ _ _ (by omega), u2_ne _ _ _ _ (by omega), u2_ne _ _ _ _ (by omega), u2_ne _ _ _ _ (by omega)]; exact q3
def GlC (F : mI) : Prop := ∀ g, 1 ≤ g → g ≤ 8 → F 3 g = F 34 g ∧ ∃ c, 1 ≤ c ∧ c ≤ 9 ∧ F 34 g = nI c
theorem e_bowl41 {F0 : mI} {p : Nat} {x1 x3 : Int32} (hn : n ≤ 16) (hp1 : 1 ≤ p) (hp8 : p ≤ 8) (h2 : F0 0 2 = nI n) (hC : CR F0 n) (hG : GlC F0) (hN : 20 ≤ N) : ∀ (m i : Nat) (F : mI), i ≤ n → n - i < m → SlM F0 F n p (4 * i) → ∃ F', lX8_bowl_41 N (some b) x1 (nI p) x3 m (nI i) (M b F G n sw) = some (M b F' G n sw) ∧ SlM F0 F' n p (4 * n) := by
  intro m
  induction m with
  | zero => intro i F _ h; omega
  | succ m ih =>
    intro i F hi hm hM
    obtain ⟨f1, f2, f3⟩ := id hM
    have g2 : F 0 2 = nI n := by rw [f1 _ _ (by omega) (by omega) (by omega) (by omega)]; exact h2
    rw [lX8_bowl_41, I_0_2, g2]
    simp only [Option.bind_some]
    by_cases hin : i = n
    · subst hin
      refine ⟨F, ?_, hM⟩
      rw [if_pos (nI_le (Nat.le_refl _) (by omega))]
    · have hi' : i < n := by omega
      obtain ⟨q, l, f, t, ⟨q1, q8, l9, -, -⟩, c1, c2, c3, c4, -, -, -, -, c9⟩ := hC i hi'
      have g3 : F (56 + 3 * i) 1 = nI l := by rw [f1 _ _ (by omega) (by omega) (by omega) (by omega)]; exact c3
      have gq : F (57 + 3 * i) 1 = nI q := by rw [f1 _ _ (by omega) (by omega) (by omega) (by omega)]; exact c1
      have hall : allG (F0 (58 + 3 * i)) q := fun x y hx hy => by
        obtain ⟨w1, w2⟩ := c9 x y hx hy
        rw [w1]; exact w2
      rw [if_neg (nI_ge hi' (by omega))]
      have skip : (∀ t, t < 4 → isSl F0 n p (4 * i + t) = false) → ∃ F', lX8_bowl_41 N (some b) x1 (nI p) x3 m (nI (i + 1)) (M b F G n sw) = some (M b F' G n sw) ∧ SlM F0 F' n p (4 * n) := by
        intro hz
        have hcn : cn (isSl F0 n p) (4 * (i + 1)) = cn (isSl F0 n p) (4 * i) := by
          rw [show 4 * (i + 1) = 4 * i + 4 by omega]
          exact cn_flat 4 (fun j h1 h2 => by
            have := hz (j - 4 * i) (by omega)
            rw [show 4 * i + (j - 4 * i) = j by omega] at this
            exact this)
        refine ih (i + 1) F (by omega) (by omega) ⟨f1, by rw [hcn]; exact f2, fun k hk hkS => f3 k ?_ hkS⟩
        apply Nat.lt_of_not_le
        intro z
        have := hz (k - 4 * i) (by omega)
        rw [show 4 * i + (k - 4 * i) = k by omega, hkS] at this
        exact absurd this (by decide)
      by_cases hl : l = 0
      · subst hl
        rw [e_unused_0 hn g2 hi' g3]
        simp only [Option.bind_some, nm, if_true, nI_1]
        exact skip (fun t ht => decide_eq_false (fun w => w.2.1 (by rw [show (4 * i + t) / 4 = i by omega]; exact c4)))
      · rw [e_unused_y hn g2 hi' g3 (by omega) (by omega)]
        simp only [Option.bind_some, nm, nI_1]
        rw [if_neg (by simp), Rc_0 hi']
        simp only [Option.bind_some]
        rw [Ip_1 hi', gq]
        simp only [Option.bind_some]
        by_cases hqp : q = p
        · subst hqp
          rw [if_neg (fun z => z rfl), R_0_7]
          simp only [Option.bind_some, R_0_0]
          have e58 : F (58 + 3 * i) = F0 (58 + 3 * i) := funext fun j => f1 _ _ (by omega) (by omega) (by omega) (by omega)
          have hco : fX3_costOf N (M b F G n sw) (some (b + 1)) (some (b + (57 + 3 * i))) = some (csum (F 3) (F (58 + 3 * i)) q) := e_costOf hN (P_cane hi' gq q8) (by rw [e58]; exact hall)
          obtain ⟨c, c5, ec⟩ := csum_bd (h := F0 3) (f := F0 (58 + 3 * i)) q8 hall (fun g g1 g8 => by
            obtain ⟨w1, w2⟩ := hG g g1 g8
            rw [w1]; exact w2)
          have e3 : F 3 = F0 3 := funext fun j => f1 _ _ (by omega) (by omega) (by omega) (by omega)
          rw [hco, e3, e58, ec]
          simp only [Option.bind_some]
          have hcs : ∀ t, t < 4 → csN F0 q (4 * i + t) = c := fun t ht => by
            unfold csN
            rw [show (4 * i + t) / 4 = i by omega, ec, nI_clamp (by omega)]
          obtain ⟨F', e1, e2⟩ := e_offer (N := N) (b := b) (G := G) (n := n) (sw := sw) hi' hn q1 q8 c1 hall (fun t ht => decide_eq_true ⟨by omega, by rw [show (4 * i + t) / 4 = i by omega, c4]; exact ne0 (by omega) (by omega), by rw [show (4 * i + t) / 4 = i by omega]; exact c2⟩) hcs hN N 0 F (by omega) (by omega) hM
          have e3 : fX0_offer N (M b F G n sw) (some (b + 18)) (some (b + (57 + 3 * i))) (nI c) = some (M b F' G n sw) := by
            unfold fX0_offer
            rw [K_18, show (0 : Int32) = nI 0 from rfl, e1]
            rfl
          rw [e3]
          simp only [Option.bind_some]
          exact ih (i + 1) F' (by omega) (by omega) e2
        · rw [if_pos (fun z => hqp ((nI_eq (by omega) (by omega)).mp z))]
          exact skip (fun t ht => decide_eq_false (fun w => hqp ((nI_eq (by omega) (by omega)).mp (by
            have := w.2.2
            rw [show (4 * i + t) / 4 = i by omega, c2] at this
            exact this))))
end OF
