/-! ===== 467: sticks, the step ===== -/
/-- the class's search among parts above c -/
def ClI (ft : Nat → Bool) (s t c v : Nat) : Prop := v ≤ 8 ∧ (v = 8 ∨ ∃ p j, v = j + 1 ∧ Wp ft s p j) ∧ ∀ p j, c < p → p.testBit t = true → Wp ft s p j → v ≤ j + 1
/-- the reference's search among parts above c -/
def RfI (ft : Nat → Bool) (s c : Nat) (x : Int32) : Prop := (x = -9 ∧ ∀ p j, c < p → ¬ Wp ft s p j) ∨ ∃ v, x = nI v ∧ v ≤ s ∧ (∃ p j, v = j + 1 ∧ Wp ft s p j) ∧ ∀ p j, c < p → Wp ft s p j → v ≤ j + 1
def RfO (ft : Nat → Bool) (s : Nat) (x : Int32) : Prop := (x = -9 ∧ ∀ j, ¬ Cv ft j s) ∨ ∃ v, x = nI v ∧ v ≤ s ∧ mnK ft s v
section SK
variable {b : Nat} {F : mI} {G : mJ} {n : Nat} {sw : Bool} {N : Nat} {D : Nat → Nat} {s L o : Nat}
theorem gi_e {S P : Nat} (hS : S ≤ 2000) (hP1 : 1 ≤ P) (hP : P ≤ 9) (hs : s ≤ 3) (hL : L ≤ 300) : (nI S + nI s * nI P ≤ nI L ↔ S + P * s ≤ L) ∧ (nI S + nI s * (nI P - 1) = nI L ↔ S + (P - 1) * s = L) ∧ (nI S + nI P * nI s ≤ nI L ↔ S + P * s ≤ L) ∧ (nI S + (nI P - 1) * nI s = nI L ↔ S + (P - 1) * s = L) := by
  have h1 : P * s ≤ 9 * 3 := Nat.mul_le_mul hP hs
  have h2 : (P - 1) * s ≤ 9 * 3 := Nat.mul_le_mul (by omega) hs
  have e1 : nI P - 1 = nI (P - 1) := pk_sub (b := 1) hP1
  rw [e1, pk_mul, pk_mul, pk_mul, pk_mul, nI_add, nI_add, nI_add, nI_add, Nat.mul_comm s P, Nat.mul_comm s (P - 1), nI_leI (by omega) (by omega), nI_eq (by omega) (by omega)]
  exact ⟨Iff.rfl, Iff.rfl, Iff.rfl, Iff.rfl⟩
theorem e_gi8 {S P : Nat} (h4 : F 27 4 = nI s) (hS : S ≤ 2000) (hP1 : 1 ≤ P) (hP : P ≤ 9) (hs : s ≤ 3) (hL : L ≤ 300) : fX4_goIntoOne N (M b F G n sw) (some (b + 27)) (nI S) (nI P) (nI L) = some (bI (S + P * s ≤ L ∨ S + (P - 1) * s = L)) := by
  obtain ⟨g1, g2, -, -⟩ := gi_e (s := s) (L := L) hS hP1 hP hs hL
  unfold fX4_goIntoOne
  simp only [K_27, I_27_4, h4, Option.bind_some, nm, g1, g2]
  by_cases a1 : S + P * s ≤ L
  · rw [if_pos a1, bI_t (Or.inl a1)]
  · rw [if_neg a1]
    by_cases a2 : S + (P - 1) * s = L
    · rw [if_neg (fun z => z a2), bI_t (Or.inr a2)]
    · rw [if_pos a2, bI_f (fun z => z.elim a1 a2)]
theorem e_ff12 {x t : Nat} (h4 : F 27 4 = nI s) (hs : s ≤ 3) (hL : L ≤ 300) (ho : o ≤ 8) (hD : ∀ j, j < o → 1 ≤ D j ∧ D j ≤ 99) (hx : x < 2 ^ o) (ht : t < 8) (h29 : ∀ y, y ≤ x → F 29 y = nI (sm D y o)) (h30 : ∀ y, y < x → ∃ u, u ≤ 8 ∧ F 30 y = nI u ∧ mnK (ftN D s L o) y u) : ∀ (m c v : Nat), c ≤ x → c &&& x = c → c < m → ClI (ftN D s L o) x t c v → ∃ w, lX4_fewestFor_12 N (M b F G n sw) (some (b + 27)) (nI x) (nI L) (nI (2 ^ t)) m (nI v) (nI c) = some (nI w) ∧ ClI (ftN D s L o) x t 0 w := by
  have hx256 : x < 256 := Nat.lt_of_lt_of_le hx (Nat.pow_le_pow_right (n := 2) (i := o) (j := 8) (by omega) ho)
  intro m
  induction m with
  | zero => intro c v _ _ h; omega
  | succ m ih =>
    intro c v hcx hsub hm hI
    by_cases hc0 : c = 0
    · subst hc0
      refine ⟨v, ?_, hI⟩
      rw [lX4_fewestFor_12, if_pos (by decide)]
    · have hs1 : nI c - 1 = nI (c - 1) := pk_sub (b := 1) (by omega)
      have hlt : (c - 1) &&& x < c := sub_lt (by omega)
      have nxt : ∀ p, p &&& x = p → ((c - 1) &&& x < p ↔ c ≤ p) := by
        intro p hp
        constructor
        · intro z
          apply Nat.le_of_not_lt
          intro z2
          have := sub_pred x c p hsub hp z2
          omega
        · intro z; omega
      have skip : (∀ j, c.testBit t = true → Wp (ftN D s L o) x c j → v ≤ j + 1) → ∃ w, lX4_fewestFor_12 N (M b F G n sw) (some (b + 27)) (nI x) (nI L) (nI (2 ^ t)) m (nI v) (nI ((c - 1) &&& x)) = some (nI w) ∧ ClI (ftN D s L o) x t 0 w := by
        intro hk
        refine ih _ v (by omega) (sub_in _ _) (by omega) ⟨hI.1, hI.2.1, fun p j hp hpt hw => ?_⟩
        have := (nxt p hw.2.1).mp hp
        by_cases e : p = c
        · subst e; exact hk j hpt hw
        · exact hI.2.2 p j (by omega) hpt hw
      rw [lX4_fewestFor_12, if_neg (nI_nle (by omega) (by omega)), hs1]
      simp only [nm, nI_and]
      by_cases hbt : c.testBit t = true
      · have hb0 : ¬ nI (c &&& 2 ^ t) = 0 := by
          rw [← nI_and]
          exact fun z => (and_bit (by omega) ht).mp z hbt
        rw [if_neg hb0]
        have hco : c < 2 ^ o := by omega
        have hP : sm o1 c o = pcN c := sm_pc hco ho
        have hP1 : 1 ≤ pcN c := pc_pos (by omega) (by omega)
        have hP9 := pc_le9 c
        have hSb : sm D c o ≤ 2000 := by
          have := sm_le (D := D) (m := 99) c o (fun j hj => (hD j hj).2)
          omega
        have hfit : ∀ q : Prop, (sm D c o + pcN c * s ≤ L ∨ sm D c o + (pcN c - 1) * s = L) ↔ ftN D s L o c = true := by
          intro _
          unfold ftN
          rw [hP, decide_eq_true_eq]
        simp only [R_27_1, R_27_2, Option.bind_some, L_29 (show c < 256 by omega), h29 c hcx, e_bc (show c < 512 by omega), e_gi8 h4 hSb hP1 hP9 hs hL]
        by_cases hft : ftN D s L o c = true
        · have hz := (hfit True).mpr hft
          have hxc : x ^^^ c < x := xor_lt hsub hc0
          obtain ⟨u, u8, u1, u2⟩ := h30 _ hxc
          rw [bI_t hz, if_neg z10, nI_xor, L_30 (show x ^^^ c < 256 by omega), u1]
          simp only [Option.bind_some, nI_1]
          have hmin : mmin (nI v) (nI (u + 1)) = nI (min v (u + 1)) := by
            unfold mmin
            have := hI.1
            by_cases h : u + 1 < v
            · rw [if_pos (nI_lt h (by omega)), Nat.min_eq_right (by omega)]
            · rw [if_neg (nI_nlt (by omega) (by omega)), Nat.min_eq_left (by omega)]
          rw [hmin]
          refine ih _ _ (by omega) (sub_in _ _) (by omega) ⟨?_, ?_, fun p j hp hpt hw => ?_⟩
          · have := hI.1; omega
          · by_cases h : u + 1 < v
            · exact Or.inr ⟨c, u, by omega, hc0, hsub, hft, u2.1⟩
            · rw [Nat.min_eq_left (by omega)]
              exact hI.2.1
          · have := (nxt p hw.2.1).mp hp
            by_cases e : p = c
            · subst e
              have := u2.2 j hw.2.2.2
              omega
            · have := hI.2.2 p j (by omega) hpt hw
              omega
        · rw [bI_f (fun z => hft ((hfit True).mp z)), if_pos rfl]
          exact skip (fun j _ hw => absurd hw.2.2.1 hft)
      · rw [if_pos (by rw [← nI_and]; exact (and_bit (by omega) ht).mpr hbt)]
        exact skip (fun j z _ => absurd z hbt)
theorem e_ff {x : Nat} (h4 : F 27 4 = nI s) (hs : s ≤ 3) (hL : L ≤ 300) (ho : o ≤ 8) (hD : ∀ j, j < o → 1 ≤ D j ∧ D j ≤ 99) (hsg : ∀ i, i < o → ftN D s L o (2 ^ i) = true) (hx1 : 1 ≤ x) (hx : x < 2 ^ o) (h29 : ∀ y, y ≤ x → F 29 y = nI (sm D y o)) (h30 : ∀ y, y < x → ∃ u, u ≤ 8 ∧ F 30 y = nI u ∧ mnK (ftN D s L o) y u) (hN : 300 ≤ N) : ∃ w, fX4_fewestFor N (M b F G n sw) (some (b + 27)) (nI x) (nI L) = some (nI w) ∧ w ≤ 8 ∧ mnK (ftN D s L o) x w := by
  have hx256 : x < 256 := Nat.lt_of_lt_of_le hx (Nat.pow_le_pow_right (n := 2) (i := o) (j := 8) (by omega) ho)
  obtain ⟨t1, t2, t3, t4, t5, t6⟩ := tz_all ⟨x, hx256⟩ hx1
  simp only at t1 t2 t3 t4 t5 t6
  obtain ⟨w, e1, e2, e3, e4⟩ := e_ff12 (N := N) (b := b) (G := G) (n := n) (sw := sw) h4 hs hL ho hD hx t3 h29 h30 N x 8 (Nat.le_refl _) (Nat.and_self _) (by omega) ⟨Nat.le_refl _, Or.inl rfl, fun p j hp _ hw => absurd (show p ≤ x from by rw [← hw.2.1]; exact Nat.and_le_right) (by omega)⟩
  have hall : ∀ j, Cv (ftN D s L o) j x → w ≤ j := by
    intro j hj
    obtain ⟨i, rfl⟩ := Cv_pos hj (by omega)
    obtain ⟨p, p1, p2⟩ := Cv_pick i x (tzN x) hj t2
    exact e4 p i (Nat.pos_of_ne_zero p2.1) p1 p2
  refine ⟨w, ?_, e2, ?_, hall⟩
  · unfold fX4_fewestFor
    rw [K_27]
    simp only [nm, t4]
    rw [show (8 : Int32) = nI 8 from rfl, e1]
    rfl
  · rcases e3 with rfl | ⟨p, j, rfl, hw⟩
    · have hc := Cv_single (ft := ftN D s L o) ho hsg x x (Nat.le_refl _) hx
      have := hall _ hc
      have h8 : pcN x = 8 := by omega
      rw [h8] at hc
      exact hc
    · exact ⟨p, hw⟩
/-- the class's rows hold what is told of the sets below x -/
def SkC (ft : Nat → Bool) (D : Nat → Nat) (o : Nat) (F0 F : mI) (x : Nat) : Prop := (∀ k j, k ≠ 29 → k ≠ 30 → F k j = F0 k j) ∧ (∀ y, y < x → F 29 y = nI (sm D y o)) ∧ ∀ y, y < x → ∃ u, u ≤ 8 ∧ F 30 y = nI u ∧ mnK ft y u
theorem e_fs59 {F0 : mI} (h4 : F0 27 4 = nI s) (hs : s ≤ 3) (hL : L ≤ 300) (ho : o ≤ 8) (hD : ∀ j, j < o → 1 ≤ D j ∧ D j ≤ 99) (h28 : ∀ j, j < o → F0 28 j = nI (D j)) (hsg : ∀ i, i < o → ftN D s L o (2 ^ i) = true) (hN : 300 ≤ N) : ∀ (m x : Nat) (F : mI), 1 ≤ x → x ≤ 2 ^ o → 2 ^ o - x < m → SkC (ftN D s L o) D o F0 F x → ∃ F', lX4_fewestSticks_59 N (some (b + 27)) (nI L) (nI (2 ^ o - 1)) m (nI x) (M b F G n sw) = some (M b F' G n sw) ∧ SkC (ftN D s L o) D o F0 F' (2 ^ o) := by
  have h2o : 2 ^ o ≤ 256 := Nat.pow_le_pow_right (n := 2) (i := o) (j := 8) (by omega) ho
  intro m
  induction m with
  | zero => intro x F _ _ h; omega
  | succ m ih =>
    intro x F x1 xo hm hS
    by_cases hx : x = 2 ^ o
    · subst hx
      refine ⟨F, ?_, hS⟩
      rw [lX4_fewestSticks_59, if_pos (nI_lt (by omega) (by omega))]
    · obtain ⟨s1, s2, s3⟩ := id hS
      have hx256 : x < 256 := by omega
      obtain ⟨t1, t2, t3, t4, t5, t6⟩ := tz_all ⟨x, hx256⟩ x1
      simp only at t1 t2 t3 t4 t5 t6
      have hto : tzN x < o := by
        apply Nat.lt_of_not_le
        intro z
        rw [tb_big (show x < 2 ^ o by omega) z] at t2
        exact absurd t2 (by decide)
      have hlt : x &&& (x - 1) < x := Nat.lt_of_le_of_lt Nat.and_le_right (by omega)
      have hsum : sm D (x &&& (x - 1)) o + D (tzN x) = sm D x o := by
        have := sm_split (D := D) (xor_tb t2) t2 o
        rw [if_pos hto, t1] at this
        exact this.symm
      have k4 : (u2 F 29 x (nI (sm D x o))) 27 4 = nI s := by rw [u2_ne _ _ _ _ (by omega), s1 _ _ (by omega) (by omega)]; exact h4
      have k29 : ∀ y, y ≤ x → (u2 F 29 x (nI (sm D x o))) 29 y = nI (sm D y o) := by
        intro y hy
        by_cases e : y = x
        · subst e; rw [u2_eq]
        · rw [u2_ne _ _ _ _ (by omega)]; exact s2 y (by omega)
      have k30 : ∀ y, y < x → ∃ u, u ≤ 8 ∧ (u2 F 29 x (nI (sm D x o))) 30 y = nI u ∧ mnK (ftN D s L o) y u := by
        intro y hy
        rw [u2_ne _ _ _ _ (by omega)]
        exact s3 y hy
      obtain ⟨w, w1, w2, w3⟩ := e_ff (N := N) (b := b) (F := (u2 F 29 x (nI (sm D x o)))) (G := G) (n := n) (sw := sw) k4 hs hL ho hD hsg x1 (show x < 2 ^ o by omega) k29 k30 hN
      rw [lX4_fewestSticks_59, if_neg (nI_nlt (by omega) (by omega)), e_tz x1 hx256]
      simp only [Option.bind_some, R_27_1, R_27_0, R_27_2]
      rw [show nI x - 1 = nI (x - 1) from pk_sub (b := 1) x1, nI_and, L_29 (show x &&& (x - 1) < 256 by omega)]
      simp only [Option.bind_some]
      rw [L_28 (show tzN x < 8 by omega), s1 _ _ (by omega) (by omega), h28 _ hto, s2 _ hlt]
      simp only [Option.bind_some]
      rw [nI_add, hsum, T_29 hx256]
      simp only [Option.bind_some, R_27_2, w1]
      rw [T_30 hx256]
      simp only [Option.bind_some, nm, nI_1]
      refine ih (x + 1) _ (by omega) (by omega) (by omega) ⟨fun k j h1 h2 => ?_, fun y hy => ?_, fun y hy => ?_⟩
      · rw [u2_ne _ _ _ _ (by omega), u2_ne _ _ _ _ (by omega)]
        exact s1 k j h1 h2
      · rw [u2_ne _ _ _ _ (by omega)]
        exact k29 y (by omega)
      · by_cases e : y = x
        · subst e
          exact ⟨w, w2, u2_eq _ _ _ _, w3⟩
        · rw [u2_ne _ _ _ _ (by omega)]
          exact k30 y (by omega)
/-! the reference -/
theorem e_os8 {x : Nat} {l : Int32} (h16 : F 32 16 = nI o) (ho : o ≤ 8) (h44 : ∀ j, j < o → F 44 j = nI (D j)) (hx : x < 256) (hN : 20 ≤ N) : lX9_isOneStick_8 N (M b F G n sw) (some (b + 32)) (nI x) l N 0 0 0 = some (nI (sm D x o), nI (sm o1 x o)) := by
  have key : ∀ (m i : Nat), i ≤ o → o - i < m → lX9_isOneStick_8 N (M b F G n sw) (some (b + 32)) (nI x) l m (nI (sm D x i)) (nI (sm o1 x i)) (nI i) = some (nI (sm D x o), nI (sm o1 x o)) := by
    intro m
    induction m with
    | zero => intro i h1 h2; omega
    | succ m ih =>
      intro i h1 h2
      rw [lX9_isOneStick_8]
      simp only [I_32_16, h16, Option.bind_some]
      by_cases hi : i < o
      · have hn := ih (i + 1) (by omega) (by omega)
        rw [if_neg (nI_ge hi (by omega))]
        simp only [nm, sh_v (show x < 2 ^ 31 by omega) (show i < 31 by omega), R_32_17, Option.bind_some, L_44 (show i < 8 by omega), h44 i hi, nI_1, nI_add]
        simp only [sm] at hn
        by_cases hb : x.testBit i = true
        · simp only [hb, if_true] at hn ⊢
          rw [if_neg (fun z => z rfl)]
          exact hn
        · simp only [hb, if_false, Nat.add_zero] at hn ⊢
          rw [if_pos (by decide), Int32.add_zero]
          exact hn
      · have e : i = o := by omega
        subst e
        rw [if_pos (nI_le (Nat.le_refl _) (by omega))]
  exact key N 0 (by omega) (by omega)
theorem e_os {x : Nat} (h16 : F 32 16 = nI o) (ho : o ≤ 8) (h18 : F 32 18 = nI s) (hs : s ≤ 3) (hL : L ≤ 300) (hD : ∀ j, j < o → 1 ≤ D j ∧ D j ≤ 99) (h44 : ∀ j, j < o → F 44 j = nI (D j)) (hx1 : 1 ≤ x) (hx : x < 2 ^ o) (hN : 20 ≤ N) : fX9_isOneStick N (M b F G n sw) (some (b + 32)) (nI x) (nI L) = some (bI (ftN D s L o x = true)) := by
  have hx256 : x < 256 := Nat.lt_of_lt_of_le hx (Nat.pow_le_pow_right (n := 2) (i := o) (j := 8) (by omega) ho)
  have hP : sm o1 x o = pcN x := sm_pc hx ho
  have hP1 : 1 ≤ pcN x := pc_pos hx1 (by omega)
  have hP9 := pc_le9 x
  have hSb : sm D x o ≤ 2000 := by
    have := sm_le (D := D) (m := 99) x o (fun j hj => (hD j hj).2)
    omega
  obtain ⟨-, -, g1, g2⟩ := gi_e (S := sm D x o) (P := sm o1 x o) (s := s) (L := L) hSb (by omega) (by omega) hs hL
  unfold fX9_isOneStick
  rw [K_32, e_os8 h16 ho h44 hx256 hN]
  simp only [b2, Option.bind_some, I_32_18, h18, nm, g1, g2]
  unfold ftN
  by_cases a1 : sm D x o + sm o1 x o * s ≤ L
  · rw [if_pos a1, bI_t (decide_eq_true (Or.inl a1))]
  · rw [if_neg a1]
    by_cases a2 : sm D x o + (sm o1 x o - 1) * s = L
    · rw [if_neg (fun z => z a2), bI_t (decide_eq_true (Or.inr a2))]
    · rw [if_pos a2, bI_f (fun z => (of_decide_eq_true z).elim a1 a2)]
/-- the reference's rows hold what is told of the sets below x -/
def SkR (ft : Nat → Bool) (F0 F : mI) (x : Nat) : Prop := (∀ k j, k ≠ 54 → F k j = F0 k j) ∧ ∀ y, y < x → RfO ft y (F 54 y)
theorem e_st42 {F0 : mI} {x : Nat} (h16 : F0 32 16 = nI o) (ho : o ≤ 8) (h18 : F0 32 18 = nI s) (hs : s ≤ 3) (hL : L ≤ 300) (hD : ∀ j, j < o → 1 ≤ D j ∧ D j ≤ 99) (h44 : ∀ j, j < o → F0 44 j = nI (D j)) (hx1 : 1 ≤ x) (hx : x < 2 ^ o) (hN : 300 ≤ N) : ∀ (m c : Nat) (F : mI), c ≤ x → c &&& x = c → c < m → SkR (ftN D s L o) F0 F x → RfI (ftN D s L o) x c (F 54 x) → ∃ F', lX9_sticks_42 N (some (b + 32)) (nI L) (nI x) m (nI c) (M b F G n sw) = some (M b F' G n sw) ∧ SkR (ftN D s L o) F0 F' x ∧ RfI (ftN D s L o) x 0 (F' 54 x) := by
  have hx256 : x < 256 := Nat.lt_of_lt_of_le hx (Nat.pow_le_pow_right (n := 2) (i := o) (j := 8) (by omega) ho)
  intro m
  induction m with
  | zero => intro c F _ _ h; omega
  | succ m ih =>
    intro c F hcx hsub hm hS hI
    by_cases hc0 : c = 0
    · subst hc0
      refine ⟨F, ?_, hS, hI⟩
      rw [lX9_sticks_42, if_pos (by decide)]
    · have hs1 : nI c - 1 = nI (c - 1) := pk_sub (b := 1) (by omega)
      have hlt : (c - 1) &&& x < c := sub_lt (by omega)
      have nxt : ∀ p, p &&& x = p → ((c - 1) &&& x < p ↔ c ≤ p) := by
        intro p hp
        constructor
        · intro z
          apply Nat.le_of_not_lt
          intro z2
          have := sub_pred x c p hsub hp z2
          omega
        · intro z; omega
      have hxc : x ^^^ c < x := xor_lt hsub hc0
      obtain ⟨s1, s2⟩ := id hS
      have g16 : F 32 16 = nI o := by rw [s1 _ _ (by omega)]; exact h16
      have g18 : F 32 18 = nI s := by rw [s1 _ _ (by omega)]; exact h18
      have g44 : ∀ j, j < o → F 44 j = nI (D j) := fun j hj => by rw [s1 _ _ (by omega)]; exact h44 j hj
      have skip : (∀ j, Wp (ftN D s L o) x c j → (∃ v, F 54 x = nI v ∧ v ≤ j + 1 ∧ v < 2 ^ 31)) → ∃ F', lX9_sticks_42 N (some (b + 32)) (nI L) (nI x) m (nI ((c - 1) &&& x)) (M b F G n sw) = some (M b F' G n sw) ∧ SkR (ftN D s L o) F0 F' x ∧ RfI (ftN D s L o) x 0 (F' 54 x) := by
        intro hk
        refine ih _ F (by omega) (sub_in _ _) (by omega) hS ?_
        rcases hI with ⟨i1, i2⟩ | ⟨v, i1, i2, i3, i4⟩
        · refine Or.inl ⟨i1, fun p j hp hw => ?_⟩
          have := (nxt p hw.2.1).mp hp
          by_cases e : p = c
          · subst e
            obtain ⟨v, v1, v2, v3⟩ := hk j hw
            exact m9ne v v3 (v1.symm.trans i1)
          · exact i2 p j (by omega) hw
        · refine Or.inr ⟨v, i1, i2, i3, fun p j hp hw => ?_⟩
          have := (nxt p hw.2.1).mp hp
          by_cases e : p = c
          · subst e
            obtain ⟨v', v1, v2, v3⟩ := hk j hw
            have := (nI_eq (by omega) v3).mp (i1.symm.trans v1)
            omega
          · exact i4 p j (by omega) hw
      rw [lX9_sticks_42, if_neg (nI_nle (by omega) (by omega)), hs1]
      simp only [R_32_30, Option.bind_some, nm, nI_and]
      rw [nI_m1, nI_xor, nI_and, and_not hx256 hsub, L_54 (show x ^^^ c < 256 by omega)]
      simp only [Option.bind_some, L_54 hx256]
      rcases s2 _ hxc with ⟨r1, r2⟩ | ⟨u, r1, r2, r3⟩
      · rw [if_pos r1]
        exact skip (fun j hw => absurd hw.2.2.2 (r2 j))
      · rw [r1, if_neg (m9ne u (by omega)), e_os g16 ho g18 hs hL hD g44 (by omega) (by omega) (by omega)]
        simp only [Option.bind_some, nI_1]
        have take : (ftN D s L o c = true) → (∀ p j, c < p → Wp (ftN D s L o) x p j → u + 1 ≤ j + 1) → ∃ F', lX9_sticks_42 N (some (b + 32)) (nI L) (nI x) m (nI ((c - 1) &&& x)) (M b (u2 F 54 x (nI (u + 1))) G n sw) = some (M b F' G n sw) ∧ SkR (ftN D s L o) F0 F' x ∧ RfI (ftN D s L o) x 0 (F' 54 x) := by
          intro hft hall
          refine ih _ _ (by omega) (sub_in _ _) (by omega) ⟨fun k j hk => ?_, fun y hy => ?_⟩ ?_
          · rw [u2_ne _ _ _ _ (by omega)]; exact s1 k j hk
          · rw [u2_ne _ _ _ _ (by omega)]; exact s2 y hy
          · rw [u2_eq]
            refine Or.inr ⟨u + 1, rfl, by omega, ⟨c, u, rfl, hc0, hsub, hft, r3.1⟩, fun p j hp hw => ?_⟩
            have := (nxt p hw.2.1).mp hp
            by_cases e : p = c
            · subst e
              have := r3.2 j hw.2.2.2
              omega
            · exact hall p j (by omega) hw
        rcases id hI with ⟨i1, i2⟩ | ⟨v, i1, i2, i3, i4⟩
        · rw [if_pos i1]
          by_cases hft : ftN D s L o c = true
          · rw [bI_t hft, if_neg z10, T_54 hx256]
            simp only [Option.bind_some]
            exact take hft (fun p j hp hw => absurd hw (i2 p j hp))
          · rw [bI_f hft, if_pos rfl]
            exact skip (fun j hw => absurd hw.2.2.1 hft)
        · rw [i1, if_neg (m9ne v (by omega))]
          by_cases hv : v ≤ u + 1
          · rw [if_pos (nI_le hv (by omega))]
            exact skip (fun j hw => ⟨v, i1, by have := r3.2 j hw.2.2.2; omega, by omega⟩)
          · rw [if_neg (nI_ge (by omega) (by omega))]
            by_cases hft : ftN D s L o c = true
            · rw [bI_t hft, if_neg z10, T_54 hx256]
              simp only [Option.bind_some]
              exact take hft (fun p j hp hw => by have := i4 p j hp hw; omega)
            · rw [bI_f hft, if_pos rfl]
              exact skip (fun j hw => absurd hw.2.2.1 hft)
theorem e_st22 {F0 : mI} (h16 : F0 32 16 = nI o) (ho : o ≤ 8) (h18 : F0 32 18 = nI s) (hs : s ≤ 3) (hL : L ≤ 300) (hD : ∀ j, j < o → 1 ≤ D j ∧ D j ≤ 99) (h44 : ∀ j, j < o → F0 44 j = nI (D j)) (hN : 300 ≤ N) : ∀ (m x : Nat) (F : mI), 1 ≤ x → x ≤ 2 ^ o → 2 ^ o - x < m → SkR (ftN D s L o) F0 F x → ∃ F', lX9_sticks_22 N (some (b + 32)) (nI L) m (nI x) (M b F G n sw) = some (M b F' G n sw) ∧ SkR (ftN D s L o) F0 F' (2 ^ o) := by
  have h2o : 2 ^ o ≤ 256 := Nat.pow_le_pow_right (n := 2) (i := o) (j := 8) (by omega) ho
  intro m
  induction m with
  | zero => intro x F _ _ h; omega
  | succ m ih =>
    intro x F x1 xo hm hS
    have g16 : F 32 16 = nI o := by rw [hS.1 _ _ (by omega)]; exact h16
    rw [lX9_sticks_22]
    simp only [I_32_16, g16, Option.bind_some]
    rw [nI_bit (show o < 31 by omega)]
    by_cases hx : x = 2 ^ o
    · subst hx
      refine ⟨F, ?_, hS⟩
      rw [if_pos (nI_le (Nat.le_refl _) (by omega))]
    · have hx256 : x < 256 := by omega
      rw [if_neg (nI_ge (by omega) (by omega))]
      simp only [R_32_30, Option.bind_some]
      rw [T_54 hx256]
      simp only [Option.bind_some]
      obtain ⟨F', e1, e2, e3⟩ := e_st42 (N := N) (b := b) (G := G) (n := n) (sw := sw) h16 ho h18 hs hL hD h44 x1 (show x < 2 ^ o by omega) hN N x (u2 F 54 x (-9)) (Nat.le_refl _) (Nat.and_self _) (by omega) ⟨fun k j hk => by rw [u2_ne _ _ _ _ (by omega)]; exact hS.1 k j hk, fun y hy => by rw [u2_ne _ _ _ _ (by omega)]; exact hS.2 y hy⟩ (Or.inl ⟨u2_eq _ _ _ _, fun p j hp hw => absurd (show p ≤ x from by rw [← hw.2.1]; exact Nat.and_le_right) (by omega)⟩)
      rw [e1]
      simp only [Option.bind_some, nm, nI_1]
      refine ih (x + 1) F' (by omega) (by omega) (by omega) ⟨e2.1, fun y hy => ?_⟩
      by_cases e : y = x
      · subst e
        rcases e3 with ⟨i1, i2⟩ | ⟨v, i1, i2, ⟨p, j, rfl, hw⟩, i4⟩
        · refine Or.inl ⟨i1, fun j hj => ?_⟩
          obtain ⟨i, rfl⟩ := Cv_pos hj (by omega)
          obtain ⟨p, hp⟩ := hj
          exact i2 p i (Nat.pos_of_ne_zero hp.1) hp
        · refine Or.inr ⟨j + 1, i1, i2, ⟨p, hw⟩, fun j' hj => ?_⟩
          obtain ⟨i, rfl⟩ := Cv_pos hj (by omega)
          obtain ⟨p', hp'⟩ := hj
          exact i4 p' i (Nat.pos_of_ne_zero hp'.1) hp'
      · exact e2.2 y (by omega)
end SK
theorem e_fs2 {b : Nat} {F : mI} {G : mJ} {n : Nat} {sw : Bool} {N : Nat} {D : Nat → Nat} {s L o : Nat} (h3 : F 27 3 = nI o) (h4 : F 27 4 = nI s) (hs : s ≤ 3) (hL : L ≤ 300) (ho : o ≤ 8) (hD : ∀ j, j < o → 1 ≤ D j ∧ D j ≤ 99) (h28 : ∀ j, j < o → F 28 j = nI (D j)) (hN : 20 ≤ N) : lX4_fewestSticks_2 N (M b F G n sw) (some (b + 27)) (nI L) N 0 = some (if ∀ i, i < o → (D i + 1 * s ≤ L ∨ D i + 0 * s = L) then .inl () else .inr (-9, M b F G n sw)) := by
  have e := lpA (fun m c => lX4_fewestSticks_2 N (M b F G n sw) (some (b + 27)) (nI L) m c) (fun i => D i + 1 * s ≤ L ∨ D i + 0 * s = L) o (Sum.inl ()) (Sum.inr (-9, M b F G n sw)) ?_ ?_ ?_ N (by omega)
  · exact e
  · intro m i hi hp
    have hg := e_gi8 (N := N) (b := b) (F := F) (G := G) (n := n) (sw := sw) (S := D i) (P := 1) (L := L) h4 (by have := (hD i hi).2; omega) (by omega) (by omega) hs hL
    rw [show nI 1 = (1 : Int32) from rfl] at hg
    show lX4_fewestSticks_2 N (M b F G n sw) (some (b + 27)) (nI L) (m + 1) (nI i) = _
    rw [lX4_fewestSticks_2]
    simp only [I_27_3, h3, Option.bind_some]
    rw [if_neg (nI_ge hi (by omega))]
    simp only [R_27_0, Option.bind_some, L_28 (show i < 8 by omega), h28 i hi, hg, nm, nI_1]
    rw [bI_t hp, if_pos z10]
  · intro m i hi hp
    have hg := e_gi8 (N := N) (b := b) (F := F) (G := G) (n := n) (sw := sw) (S := D i) (P := 1) (L := L) h4 (by have := (hD i hi).2; omega) (by omega) (by omega) hs hL
    rw [show nI 1 = (1 : Int32) from rfl] at hg
    show lX4_fewestSticks_2 N (M b F G n sw) (some (b + 27)) (nI L) (m + 1) (nI i) = _
    rw [lX4_fewestSticks_2]
    simp only [I_27_3, h3, Option.bind_some]
    rw [if_neg (nI_ge hi (by omega))]
    simp only [R_27_0, Option.bind_some, L_28 (show i < 8 by omega), h28 i hi, hg, nm, nI_1]
    rw [bI_f hp, if_neg (fun z => z rfl)]
  · intro m
    show lX4_fewestSticks_2 N (M b F G n sw) (some (b + 27)) (nI L) (m + 1) (nI o) = _
    rw [lX4_fewestSticks_2]
    simp only [I_27_3, h3, Option.bind_some]
    rw [if_pos (nI_le (Nat.le_refl _) (by omega))]
theorem st_sticks (b : Nat) : St_sticks b (b + 32) (Inv b (b + 32)) := by
  rintro S ⟨-, F, G, n, sw, rfl, hR⟩ a1
  obtain ⟨r1, r2, r3, r4, r5, r6, r7, r8, r9, r10, ⟨o, q1, q2, q3, q4, q5, s, q6, q7⟩, r12, r13⟩ := id hR
  by_cases h : (1 : Int32) ≤ a1 ∧ a1 ≤ 300
  rotate_left
  · refine ⟨-1, M b F G n sw, M b F G n sw, ?_, ?_, rfl, F, G, n, sw, rfl, hR⟩
    · unfold fX8_sticks
      simp only [Option.bind_some, bI_0, Decidable.not_not, nm, b2, zr, e_isWithin, e_in, e_isGlass8, e_isGlass9, reduceIte, not_false_eq_true, not_true_eq_false, if_true, if_false, and_self, z01, z10, c00, c11, true_and, and_true, R_0_0, R_0_1, R_0_3, R_0_4, R_0_5, R_0_6, R_0_7, R_0_8, R_0_9, R_1_0, R_1_1, R_1_2, R_1_3, R_7_0, R_7_1, R_10_0, R_10_1, R_10_2, R_14_0, R_16_0, R_18_0, R_18_1, R_18_2, R_18_4, R_18_5, R_18_6, R_18_8, R_18_9, R_27_0, R_27_1, R_27_2, R_32_0, R_32_1, R_32_3, R_32_4, R_32_5, R_32_6, R_32_7, R_32_11, R_32_12, R_32_13, R_32_14, R_32_17, R_32_20, R_32_21, R_32_22, R_32_24, R_32_25, R_32_26, R_32_27, R_32_28, R_32_29, R_32_30, R_32_31, I_0_2, I_1_4, I_7_2, I_14_1, I_16_1, I_18_3, I_18_7, I_27_3, I_27_4, I_31_0, I_31_1, I_31_2, I_31_3, I_31_4, I_31_5, I_31_6, I_32_2, I_32_8, I_32_9, I_32_10, I_32_15, I_32_16, I_32_18, I_32_19, J_0_10, J_32_23, P_0_2, P_0_10, P_1_4, P_7_2, P_14_1, P_16_1, P_18_3, P_18_7, P_27_3, P_27_4, P_31_0, P_31_1, P_31_2, P_31_3, P_31_4, P_31_5, P_31_6, P_32_2, P_32_8, P_32_9, P_32_10, P_32_15, P_32_16, P_32_18, P_32_19, P_32_23, K_0, K_1, K_7, K_10, K_14, K_16, K_18, K_27, K_31, K_32, eq_false h]
    · unfold fX9_sticks
      simp only [Option.bind_some, bI_0, Decidable.not_not, nm, b2, zr, e_isWithin, e_in, e_isGlass8, e_isGlass9, reduceIte, not_false_eq_true, not_true_eq_false, if_true, if_false, and_self, z01, z10, c00, c11, true_and, and_true, R_0_0, R_0_1, R_0_3, R_0_4, R_0_5, R_0_6, R_0_7, R_0_8, R_0_9, R_1_0, R_1_1, R_1_2, R_1_3, R_7_0, R_7_1, R_10_0, R_10_1, R_10_2, R_14_0, R_16_0, R_18_0, R_18_1, R_18_2, R_18_4, R_18_5, R_18_6, R_18_8, R_18_9, R_27_0, R_27_1, R_27_2, R_32_0, R_32_1, R_32_3, R_32_4, R_32_5, R_32_6, R_32_7, R_32_11, R_32_12, R_32_13, R_32_14, R_32_17, R_32_20, R_32_21, R_32_22, R_32_24, R_32_25, R_32_26, R_32_27, R_32_28, R_32_29, R_32_30, R_32_31, I_0_2, I_1_4, I_7_2, I_14_1, I_16_1, I_18_3, I_18_7, I_27_3, I_27_4, I_31_0, I_31_1, I_31_2, I_31_3, I_31_4, I_31_5, I_31_6, I_32_2, I_32_8, I_32_9, I_32_10, I_32_15, I_32_16, I_32_18, I_32_19, J_0_10, J_32_23, P_0_2, P_0_10, P_1_4, P_7_2, P_14_1, P_16_1, P_18_3, P_18_7, P_27_3, P_27_4, P_31_0, P_31_1, P_31_2, P_31_3, P_31_4, P_31_5, P_31_6, P_32_2, P_32_8, P_32_9, P_32_10, P_32_15, P_32_16, P_32_18, P_32_19, P_32_23, K_0, K_1, K_7, K_10, K_14, K_16, K_18, K_27, K_31, K_32, eq_false h]
  obtain ⟨L, L1, L3, rfl⟩ := rng 1 300 rfl rfl (by decide) (by decide) h
  have h2o : 2 ^ o ≤ 256 := Nat.pow_le_pow_right (n := 2) (i := o) (j := 8) (by omega) q1
  have h2p : 1 ≤ 2 ^ o := Nat.pow_pos (by omega)
  have hD : ∀ j, j < o → 1 ≤ (fun j => (F 44 j).toNatClampNeg) j ∧ (fun j => (F 44 j).toNatClampNeg) j ≤ 99 := by
    intro j hj
    obtain ⟨-, d, d1, d9, d2⟩ := q4 j hj
    show 1 ≤ (F 44 j).toNatClampNeg ∧ (F 44 j).toNatClampNeg ≤ 99
    rw [d2, nI_clamp (by omega)]
    omega
  have h44 : ∀ j, j < o → F 44 j = nI ((fun j => (F 44 j).toNatClampNeg) j) := by
    intro j hj
    obtain ⟨-, d, d1, d9, d2⟩ := q4 j hj
    show F 44 j = nI ((F 44 j).toNatClampNeg)
    rw [d2, nI_clamp (by omega)]
  have h28 : ∀ j, j < o → F 28 j = nI ((fun j => (F 44 j).toNatClampNeg) j) := fun j hj => (q4 j hj).1.trans (h44 j hj)
  have h4 : F 27 4 = nI s := q5.trans q7
  have hbit : (1 : Int32) <<< (nI o &&& 31) - 1 = nI (2 ^ o - 1) := by
    rw [nI_bit (by omega)]
    exact pk_sub (b := 1) h2p
  have e2 := e_fs2 (N := NF) (b := b) (F := F) (G := G) (n := n) (sw := sw) (L := L) q2 h4 q6 (by omega) q1 hD h28 (by decide)
  have hfit1 : ∀ i, i < o → (ftN (fun j => (F 44 j).toNatClampNeg) s L o (2 ^ i) = true ↔ ((fun j => (F 44 j).toNatClampNeg) i + 1 * s ≤ L ∨ (fun j => (F 44 j).toNatClampNeg) i + 0 * s = L)) := by
    intro i hi
    have hb : (2 ^ i : Nat).testBit i = true := by rw [Nat.testBit_two_pow]; simp
    have z1 := sm_split (D := (fun j => (F 44 j).toNatClampNeg)) (xor_tb hb) hb o
    have z2 := sm_split (D := o1) (xor_tb hb) hb o
    have z0 : ∀ (E : Nat → Nat) k, sm E 0 k = 0 := by
      intro E k
      induction k with
      | zero => rfl
      | succ k ih => simp [sm, ih]
    rw [Nat.xor_self, z0, if_pos hi] at z1 z2
    unfold ftN
    rw [z1, z2, decide_eq_true_eq]
    simp only [Nat.zero_add, Nat.sub_self]
  by_cases hall : ∀ i, i < o → ((fun j => (F 44 j).toNatClampNeg) i + 1 * s ≤ L ∨ (fun j => (F 44 j).toNatClampNeg) i + 0 * s = L)
  · rw [if_pos hall] at e2
    obtain ⟨F1, c1, c2, c3, c4⟩ := e_fs59 (N := NF) (b := b) (G := G) (n := n) (sw := sw) (F0 := F) h4 q6 (show L ≤ 300 by omega) q1 hD h28 (fun i hi => (hfit1 i hi).mpr (hall i hi)) (by decide) NF 1 (u2 (u2 F 30 0 0) 29 0 0) (by omega) h2p (Nat.lt_of_lt_of_le (show 2 ^ o - 1 < 256 by omega) (by decide)) ⟨fun k j h1 h2 => by rw [u2_ne _ _ _ _ (by omega), u2_ne _ _ _ _ (by omega)], fun y hy => by
      rw [show y = 0 by omega, u2_eq]
      have z0 : ∀ (E : Nat → Nat) k, sm E 0 k = 0 := by
        intro E k
        induction k with
        | zero => rfl
        | succ k ih => simp [sm, ih]
      rw [z0]; rfl, fun y hy => by
      rw [show y = 0 by omega, u2_ne _ _ _ _ (by omega), u2_eq]
      exact ⟨0, by omega, rfl, mnK_0 _⟩⟩
    obtain ⟨v, v8, v1, v2⟩ := c4 (2 ^ o - 1) (by omega)
    obtain ⟨F2, d1, d2, d3⟩ := e_st22 (N := NF) (b := b) (G := G) (n := n) (sw := sw) (F0 := F1) (by rw [c2 _ _ (by omega) (by omega)]; exact q3) q1 (by rw [c2 _ _ (by omega) (by omega)]; exact q7) q6 (show L ≤ 300 by omega) hD (fun j hj => by rw [c2 _ _ (by omega) (by omega)]; exact h44 j hj) (by decide) NF 1 (u2 F1 54 0 0) (by omega) h2p (Nat.lt_of_lt_of_le (show 2 ^ o - 1 < 256 by omega) (by decide)) ⟨fun k j h1 => by rw [u2_ne _ _ _ _ (by omega)], fun y hy => by
      rw [show y = 0 by omega, u2_eq]
      exact Or.inr ⟨0, rfl, by omega, mnK_0 _⟩⟩
    have hans : F2 54 (2 ^ o - 1) = nI v := by
      rcases d3 (2 ^ o - 1) (by omega) with ⟨-, z⟩ | ⟨u, z1, -, z2⟩
      · exact absurd v2.1 (z v)
      · rw [z1, mnK_u z2 v2]
    refine ⟨nI v, M b F1 G n sw, M b F2 G n sw, ?_, ?_, rfl, F2, G, n, sw, rfl, ?_⟩
    · unfold fX8_sticks fX4_fewestSticks
      simp only [Option.bind_some, bI_0, Decidable.not_not, nm, b2, zr, e_isWithin, e_in, e_isGlass8, e_isGlass9, reduceIte, not_false_eq_true, not_true_eq_false, if_true, if_false, and_self, z01, z10, c00, c11, true_and, and_true, R_0_0, R_0_1, R_0_3, R_0_4, R_0_5, R_0_6, R_0_7, R_0_8, R_0_9, R_1_0, R_1_1, R_1_2, R_1_3, R_7_0, R_7_1, R_10_0, R_10_1, R_10_2, R_14_0, R_16_0, R_18_0, R_18_1, R_18_2, R_18_4, R_18_5, R_18_6, R_18_8, R_18_9, R_27_0, R_27_1, R_27_2, R_32_0, R_32_1, R_32_3, R_32_4, R_32_5, R_32_6, R_32_7, R_32_11, R_32_12, R_32_13, R_32_14, R_32_17, R_32_20, R_32_21, R_32_22, R_32_24, R_32_25, R_32_26, R_32_27, R_32_28, R_32_29, R_32_30, R_32_31, I_0_2, I_1_4, I_7_2, I_14_1, I_16_1, I_18_3, I_18_7, I_27_3, I_27_4, I_31_0, I_31_1, I_31_2, I_31_3, I_31_4, I_31_5, I_31_6, I_32_2, I_32_8, I_32_9, I_32_10, I_32_15, I_32_16, I_32_18, I_32_19, J_0_10, J_32_23, P_0_2, P_0_10, P_1_4, P_7_2, P_14_1, P_16_1, P_18_3, P_18_7, P_27_3, P_27_4, P_31_0, P_31_1, P_31_2, P_31_3, P_31_4, P_31_5, P_31_6, P_32_2, P_32_8, P_32_9, P_32_10, P_32_15, P_32_16, P_32_18, P_32_19, P_32_23, K_0, K_1, K_7, K_10, K_14, K_16, K_18, K_27, K_31, K_32, eq_true h, e2, bS1]
      have x30 : stI (M b F G n sw) (some (b + 30)) 0 0 = some (M b (u2 F 30 0 0) G n sw) := T_30 (i := 0) (by omega)
      have x29 : stI (M b (u2 F 30 0 0) G n sw) (some (b + 29)) 0 0 = some (M b (u2 (u2 F 30 0 0) 29 0 0) G n sw) := T_29 (i := 0) (by omega)
      rw [x30]
      simp only [Option.bind_some, bI_0, Decidable.not_not, nm, b2, zr, e_isWithin, e_in, e_isGlass8, e_isGlass9, reduceIte, not_false_eq_true, not_true_eq_false, if_true, if_false, and_self, z01, z10, c00, c11, true_and, and_true, R_0_0, R_0_1, R_0_3, R_0_4, R_0_5, R_0_6, R_0_7, R_0_8, R_0_9, R_1_0, R_1_1, R_1_2, R_1_3, R_7_0, R_7_1, R_10_0, R_10_1, R_10_2, R_14_0, R_16_0, R_18_0, R_18_1, R_18_2, R_18_4, R_18_5, R_18_6, R_18_8, R_18_9, R_27_0, R_27_1, R_27_2, R_32_0, R_32_1, R_32_3, R_32_4, R_32_5, R_32_6, R_32_7, R_32_11, R_32_12, R_32_13, R_32_14, R_32_17, R_32_20, R_32_21, R_32_22, R_32_24, R_32_25, R_32_26, R_32_27, R_32_28, R_32_29, R_32_30, R_32_31, I_0_2, I_1_4, I_7_2, I_14_1, I_16_1, I_18_3, I_18_7, I_27_3, I_27_4, I_31_0, I_31_1, I_31_2, I_31_3, I_31_4, I_31_5, I_31_6, I_32_2, I_32_8, I_32_9, I_32_10, I_32_15, I_32_16, I_32_18, I_32_19, J_0_10, J_32_23, P_0_2, P_0_10, P_1_4, P_7_2, P_14_1, P_16_1, P_18_3, P_18_7, P_27_3, P_27_4, P_31_0, P_31_1, P_31_2, P_31_3, P_31_4, P_31_5, P_31_6, P_32_2, P_32_8, P_32_9, P_32_10, P_32_15, P_32_16, P_32_18, P_32_19, P_32_23, K_0, K_1, K_7, K_10, K_14, K_16, K_18, K_27, K_31, K_32]
      rw [x29]
      simp only [Option.bind_some, bI_0, Decidable.not_not, nm, b2, zr, e_isWithin, e_in, e_isGlass8, e_isGlass9, reduceIte, not_false_eq_true, not_true_eq_false, if_true, if_false, and_self, z01, z10, c00, c11, true_and, and_true, R_0_0, R_0_1, R_0_3, R_0_4, R_0_5, R_0_6, R_0_7, R_0_8, R_0_9, R_1_0, R_1_1, R_1_2, R_1_3, R_7_0, R_7_1, R_10_0, R_10_1, R_10_2, R_14_0, R_16_0, R_18_0, R_18_1, R_18_2, R_18_4, R_18_5, R_18_6, R_18_8, R_18_9, R_27_0, R_27_1, R_27_2, R_32_0, R_32_1, R_32_3, R_32_4, R_32_5, R_32_6, R_32_7, R_32_11, R_32_12, R_32_13, R_32_14, R_32_17, R_32_20, R_32_21, R_32_22, R_32_24, R_32_25, R_32_26, R_32_27, R_32_28, R_32_29, R_32_30, R_32_31, I_0_2, I_1_4, I_7_2, I_14_1, I_16_1, I_18_3, I_18_7, I_27_3, I_27_4, I_31_0, I_31_1, I_31_2, I_31_3, I_31_4, I_31_5, I_31_6, I_32_2, I_32_8, I_32_9, I_32_10, I_32_15, I_32_16, I_32_18, I_32_19, J_0_10, J_32_23, P_0_2, P_0_10, P_1_4, P_7_2, P_14_1, P_16_1, P_18_3, P_18_7, P_27_3, P_27_4, P_31_0, P_31_1, P_31_2, P_31_3, P_31_4, P_31_5, P_31_6, P_32_2, P_32_8, P_32_9, P_32_10, P_32_15, P_32_16, P_32_18, P_32_19, P_32_23, K_0, K_1, K_7, K_10, K_14, K_16, K_18, K_27, K_31, K_32]
      rw [u2_ne _ _ _ _ (by omega), u2_ne _ _ _ _ (by omega), q2, hbit]
      rw [show nI 1 = (1 : Int32) from rfl] at c1
      rw [c1]
      simp only [Option.bind_some, bI_0, Decidable.not_not, nm, b2, zr, e_isWithin, e_in, e_isGlass8, e_isGlass9, reduceIte, not_false_eq_true, not_true_eq_false, if_true, if_false, and_self, z01, z10, c00, c11, true_and, and_true, R_0_0, R_0_1, R_0_3, R_0_4, R_0_5, R_0_6, R_0_7, R_0_8, R_0_9, R_1_0, R_1_1, R_1_2, R_1_3, R_7_0, R_7_1, R_10_0, R_10_1, R_10_2, R_14_0, R_16_0, R_18_0, R_18_1, R_18_2, R_18_4, R_18_5, R_18_6, R_18_8, R_18_9, R_27_0, R_27_1, R_27_2, R_32_0, R_32_1, R_32_3, R_32_4, R_32_5, R_32_6, R_32_7, R_32_11, R_32_12, R_32_13, R_32_14, R_32_17, R_32_20, R_32_21, R_32_22, R_32_24, R_32_25, R_32_26, R_32_27, R_32_28, R_32_29, R_32_30, R_32_31, I_0_2, I_1_4, I_7_2, I_14_1, I_16_1, I_18_3, I_18_7, I_27_3, I_27_4, I_31_0, I_31_1, I_31_2, I_31_3, I_31_4, I_31_5, I_31_6, I_32_2, I_32_8, I_32_9, I_32_10, I_32_15, I_32_16, I_32_18, I_32_19, J_0_10, J_32_23, P_0_2, P_0_10, P_1_4, P_7_2, P_14_1, P_16_1, P_18_3, P_18_7, P_27_3, P_27_4, P_31_0, P_31_1, P_31_2, P_31_3, P_31_4, P_31_5, P_31_6, P_32_2, P_32_8, P_32_9, P_32_10, P_32_15, P_32_16, P_32_18, P_32_19, P_32_23, K_0, K_1, K_7, K_10, K_14, K_16, K_18, K_27, K_31, K_32]
      rw [L_30 (show 2 ^ o - 1 < 256 by omega), v1]
      rfl
    · have g16 : F2 32 16 = nI o := by rw [d2 _ _ (by omega), c2 _ _ (by omega) (by omega)]; exact q3
      unfold fX9_sticks
      simp only [Option.bind_some, bI_0, Decidable.not_not, nm, b2, zr, e_isWithin, e_in, e_isGlass8, e_isGlass9, reduceIte, not_false_eq_true, not_true_eq_false, if_true, if_false, and_self, z01, z10, c00, c11, true_and, and_true, R_0_0, R_0_1, R_0_3, R_0_4, R_0_5, R_0_6, R_0_7, R_0_8, R_0_9, R_1_0, R_1_1, R_1_2, R_1_3, R_7_0, R_7_1, R_10_0, R_10_1, R_10_2, R_14_0, R_16_0, R_18_0, R_18_1, R_18_2, R_18_4, R_18_5, R_18_6, R_18_8, R_18_9, R_27_0, R_27_1, R_27_2, R_32_0, R_32_1, R_32_3, R_32_4, R_32_5, R_32_6, R_32_7, R_32_11, R_32_12, R_32_13, R_32_14, R_32_17, R_32_20, R_32_21, R_32_22, R_32_24, R_32_25, R_32_26, R_32_27, R_32_28, R_32_29, R_32_30, R_32_31, I_0_2, I_1_4, I_7_2, I_14_1, I_16_1, I_18_3, I_18_7, I_27_3, I_27_4, I_31_0, I_31_1, I_31_2, I_31_3, I_31_4, I_31_5, I_31_6, I_32_2, I_32_8, I_32_9, I_32_10, I_32_15, I_32_16, I_32_18, I_32_19, J_0_10, J_32_23, P_0_2, P_0_10, P_1_4, P_7_2, P_14_1, P_16_1, P_18_3, P_18_7, P_27_3, P_27_4, P_31_0, P_31_1, P_31_2, P_31_3, P_31_4, P_31_5, P_31_6, P_32_2, P_32_8, P_32_9, P_32_10, P_32_15, P_32_16, P_32_18, P_32_19, P_32_23, K_0, K_1, K_7, K_10, K_14, K_16, K_18, K_27, K_31, K_32, eq_true h]
      have x54 : ∀ F' : mI, stI (M b F' G n sw) (some (b + 54)) 0 0 = some (M b (u2 F' 54 0 0) G n sw) := fun F' => T_54 (i := 0) (by omega)
      rw [x54]
      simp only [Option.bind_some, bI_0, Decidable.not_not, nm, b2, zr, e_isWithin, e_in, e_isGlass8, e_isGlass9, reduceIte, not_false_eq_true, not_true_eq_false, if_true, if_false, and_self, z01, z10, c00, c11, true_and, and_true, R_0_0, R_0_1, R_0_3, R_0_4, R_0_5, R_0_6, R_0_7, R_0_8, R_0_9, R_1_0, R_1_1, R_1_2, R_1_3, R_7_0, R_7_1, R_10_0, R_10_1, R_10_2, R_14_0, R_16_0, R_18_0, R_18_1, R_18_2, R_18_4, R_18_5, R_18_6, R_18_8, R_18_9, R_27_0, R_27_1, R_27_2, R_32_0, R_32_1, R_32_3, R_32_4, R_32_5, R_32_6, R_32_7, R_32_11, R_32_12, R_32_13, R_32_14, R_32_17, R_32_20, R_32_21, R_32_22, R_32_24, R_32_25, R_32_26, R_32_27, R_32_28, R_32_29, R_32_30, R_32_31, I_0_2, I_1_4, I_7_2, I_14_1, I_16_1, I_18_3, I_18_7, I_27_3, I_27_4, I_31_0, I_31_1, I_31_2, I_31_3, I_31_4, I_31_5, I_31_6, I_32_2, I_32_8, I_32_9, I_32_10, I_32_15, I_32_16, I_32_18, I_32_19, J_0_10, J_32_23, P_0_2, P_0_10, P_1_4, P_7_2, P_14_1, P_16_1, P_18_3, P_18_7, P_27_3, P_27_4, P_31_0, P_31_1, P_31_2, P_31_3, P_31_4, P_31_5, P_31_6, P_32_2, P_32_8, P_32_9, P_32_10, P_32_15, P_32_16, P_32_18, P_32_19, P_32_23, K_0, K_1, K_7, K_10, K_14, K_16, K_18, K_27, K_31, K_32]
      rw [show nI 1 = (1 : Int32) from rfl] at d1
      rw [d1]
      simp only [Option.bind_some, bI_0, Decidable.not_not, nm, b2, zr, e_isWithin, e_in, e_isGlass8, e_isGlass9, reduceIte, not_false_eq_true, not_true_eq_false, if_true, if_false, and_self, z01, z10, c00, c11, true_and, and_true, R_0_0, R_0_1, R_0_3, R_0_4, R_0_5, R_0_6, R_0_7, R_0_8, R_0_9, R_1_0, R_1_1, R_1_2, R_1_3, R_7_0, R_7_1, R_10_0, R_10_1, R_10_2, R_14_0, R_16_0, R_18_0, R_18_1, R_18_2, R_18_4, R_18_5, R_18_6, R_18_8, R_18_9, R_27_0, R_27_1, R_27_2, R_32_0, R_32_1, R_32_3, R_32_4, R_32_5, R_32_6, R_32_7, R_32_11, R_32_12, R_32_13, R_32_14, R_32_17, R_32_20, R_32_21, R_32_22, R_32_24, R_32_25, R_32_26, R_32_27, R_32_28, R_32_29, R_32_30, R_32_31, I_0_2, I_1_4, I_7_2, I_14_1, I_16_1, I_18_3, I_18_7, I_27_3, I_27_4, I_31_0, I_31_1, I_31_2, I_31_3, I_31_4, I_31_5, I_31_6, I_32_2, I_32_8, I_32_9, I_32_10, I_32_15, I_32_16, I_32_18, I_32_19, J_0_10, J_32_23, P_0_2, P_0_10, P_1_4, P_7_2, P_14_1, P_16_1, P_18_3, P_18_7, P_27_3, P_27_4, P_31_0, P_31_1, P_31_2, P_31_3, P_31_4, P_31_5, P_31_6, P_32_2, P_32_8, P_32_9, P_32_10, P_32_15, P_32_16, P_32_18, P_32_19, P_32_23, K_0, K_1, K_7, K_10, K_14, K_16, K_18, K_27, K_31, K_32, g16, hbit]
      rw [L_54 (show 2 ^ o - 1 < 256 by omega), hans]
      rfl
    · have fr : ∀ k j, k ≠ 29 → k ≠ 30 → k ≠ 54 → F2 k j = F k j := fun k j z1 z2 z3 => by rw [d2 _ _ z3, c2 _ _ z1 z2]
      exact ⟨r1, by rw [fr _ _ (by omega) (by omega) (by omega)]; exact r2, by rw [fr _ _ (by omega) (by omega) (by omega)]; exact r3, r4, RGl_c (fun k j h => fr _ _ (by omega) (by omega) (by omega)) (fun _ _ _ => rfl) r5, RTol_c (fun k j h => fr _ _ (by omega) (by omega) (by omega)) r6, RTab_c (fun k j h => fr _ _ (by omega) (by omega) (by omega)) r7, fun i hi => RCane_c (fun k j h => fr _ _ (by omega) (by omega) (by omega)) (r8 i hi), RWish_c (fun k j h => fr _ _ (by omega) (by omega) (by omega)) r9, RSlice_c (fun k j h => fr _ _ (by omega) (by omega) (by omega)) r10, ROrd_c (fun k j h => fr _ _ (by omega) (by omega) (by omega)) ⟨o, q1, q2, q3, q4, q5, s, q6, q7⟩, RWgh_c (fun k j h => fr _ _ (by omega) (by omega) (by omega)) r12, RBest_c (fun k j h => fr _ _ (by omega) (by omega) (by omega)) r13⟩
  · rw [if_neg hall] at e2
    obtain ⟨F2, d1, d2, d3⟩ := e_st22 (N := NF) (b := b) (G := G) (n := n) (sw := sw) (F0 := F) q3 q1 q7 q6 (show L ≤ 300 by omega) hD h44 (by decide) NF 1 (u2 F 54 0 0) (by omega) h2p (Nat.lt_of_lt_of_le (show 2 ^ o - 1 < 256 by omega) (by decide)) ⟨fun k j h1 => by rw [u2_ne _ _ _ _ (by omega)], fun y hy => by
      rw [show y = 0 by omega, u2_eq]
      exact Or.inr ⟨0, rfl, by omega, mnK_0 _⟩⟩
    have hans : F2 54 (2 ^ o - 1) = -9 := by
      rcases d3 (2 ^ o - 1) (by omega) with ⟨z, -⟩ | ⟨u, z1, -, z2⟩
      · exact z
      · exfalso
        apply hall
        intro i hi
        have hb : (2 ^ o - 1).testBit i = true := by
          rw [Nat.testBit_two_pow_sub_one]
          exact decide_eq_true hi
        obtain ⟨j, rfl⟩ := Cv_pos z2.1 (fun z => by rw [z, Nat.zero_testBit] at hb; exact absurd hb (by decide))
        obtain ⟨p, p1, p2⟩ := Cv_pick j _ i z2.1 hb
        exact ft_one (fun j hj => (hD j hj).1) hi p1 p2.2.2.1
    refine ⟨-9, M b F G n sw, M b F2 G n sw, ?_, ?_, rfl, F2, G, n, sw, rfl, ?_⟩
    · unfold fX8_sticks fX4_fewestSticks
      simp only [Option.bind_some, bI_0, Decidable.not_not, nm, b2, zr, e_isWithin, e_in, e_isGlass8, e_isGlass9, reduceIte, not_false_eq_true, not_true_eq_false, if_true, if_false, and_self, z01, z10, c00, c11, true_and, and_true, R_0_0, R_0_1, R_0_3, R_0_4, R_0_5, R_0_6, R_0_7, R_0_8, R_0_9, R_1_0, R_1_1, R_1_2, R_1_3, R_7_0, R_7_1, R_10_0, R_10_1, R_10_2, R_14_0, R_16_0, R_18_0, R_18_1, R_18_2, R_18_4, R_18_5, R_18_6, R_18_8, R_18_9, R_27_0, R_27_1, R_27_2, R_32_0, R_32_1, R_32_3, R_32_4, R_32_5, R_32_6, R_32_7, R_32_11, R_32_12, R_32_13, R_32_14, R_32_17, R_32_20, R_32_21, R_32_22, R_32_24, R_32_25, R_32_26, R_32_27, R_32_28, R_32_29, R_32_30, R_32_31, I_0_2, I_1_4, I_7_2, I_14_1, I_16_1, I_18_3, I_18_7, I_27_3, I_27_4, I_31_0, I_31_1, I_31_2, I_31_3, I_31_4, I_31_5, I_31_6, I_32_2, I_32_8, I_32_9, I_32_10, I_32_15, I_32_16, I_32_18, I_32_19, J_0_10, J_32_23, P_0_2, P_0_10, P_1_4, P_7_2, P_14_1, P_16_1, P_18_3, P_18_7, P_27_3, P_27_4, P_31_0, P_31_1, P_31_2, P_31_3, P_31_4, P_31_5, P_31_6, P_32_2, P_32_8, P_32_9, P_32_10, P_32_15, P_32_16, P_32_18, P_32_19, P_32_23, K_0, K_1, K_7, K_10, K_14, K_16, K_18, K_27, K_31, K_32, eq_true h, e2, bS1]
    · have g16 : F2 32 16 = nI o := by rw [d2 _ _ (by omega)]; exact q3
      unfold fX9_sticks
      simp only [Option.bind_some, bI_0, Decidable.not_not, nm, b2, zr, e_isWithin, e_in, e_isGlass8, e_isGlass9, reduceIte, not_false_eq_true, not_true_eq_false, if_true, if_false, and_self, z01, z10, c00, c11, true_and, and_true, R_0_0, R_0_1, R_0_3, R_0_4, R_0_5, R_0_6, R_0_7, R_0_8, R_0_9, R_1_0, R_1_1, R_1_2, R_1_3, R_7_0, R_7_1, R_10_0, R_10_1, R_10_2, R_14_0, R_16_0, R_18_0, R_18_1, R_18_2, R_18_4, R_18_5, R_18_6, R_18_8, R_18_9, R_27_0, R_27_1, R_27_2, R_32_0, R_32_1, R_32_3, R_32_4, R_32_5, R_32_6, R_32_7, R_32_11, R_32_12, R_32_13, R_32_14, R_32_17, R_32_20, R_32_21, R_32_22, R_32_24, R_32_25, R_32_26, R_32_27, R_32_28, R_32_29, R_32_30, R_32_31, I_0_2, I_1_4, I_7_2, I_14_1, I_16_1, I_18_3, I_18_7, I_27_3, I_27_4, I_31_0, I_31_1, I_31_2, I_31_3, I_31_4, I_31_5, I_31_6, I_32_2, I_32_8, I_32_9, I_32_10, I_32_15, I_32_16, I_32_18, I_32_19, J_0_10, J_32_23, P_0_2, P_0_10, P_1_4, P_7_2, P_14_1, P_16_1, P_18_3, P_18_7, P_27_3, P_27_4, P_31_0, P_31_1, P_31_2, P_31_3, P_31_4, P_31_5, P_31_6, P_32_2, P_32_8, P_32_9, P_32_10, P_32_15, P_32_16, P_32_18, P_32_19, P_32_23, K_0, K_1, K_7, K_10, K_14, K_16, K_18, K_27, K_31, K_32, eq_true h]
      have x54 : ∀ F' : mI, stI (M b F' G n sw) (some (b + 54)) 0 0 = some (M b (u2 F' 54 0 0) G n sw) := fun F' => T_54 (i := 0) (by omega)
      rw [x54]
      simp only [Option.bind_some, bI_0, Decidable.not_not, nm, b2, zr, e_isWithin, e_in, e_isGlass8, e_isGlass9, reduceIte, not_false_eq_true, not_true_eq_false, if_true, if_false, and_self, z01, z10, c00, c11, true_and, and_true, R_0_0, R_0_1, R_0_3, R_0_4, R_0_5, R_0_6, R_0_7, R_0_8, R_0_9, R_1_0, R_1_1, R_1_2, R_1_3, R_7_0, R_7_1, R_10_0, R_10_1, R_10_2, R_14_0, R_16_0, R_18_0, R_18_1, R_18_2, R_18_4, R_18_5, R_18_6, R_18_8, R_18_9, R_27_0, R_27_1, R_27_2, R_32_0, R_32_1, R_32_3, R_32_4, R_32_5, R_32_6, R_32_7, R_32_11, R_32_12, R_32_13, R_32_14, R_32_17, R_32_20, R_32_21, R_32_22, R_32_24, R_32_25, R_32_26, R_32_27, R_32_28, R_32_29, R_32_30, R_32_31, I_0_2, I_1_4, I_7_2, I_14_1, I_16_1, I_18_3, I_18_7, I_27_3, I_27_4, I_31_0, I_31_1, I_31_2, I_31_3, I_31_4, I_31_5, I_31_6, I_32_2, I_32_8, I_32_9, I_32_10, I_32_15, I_32_16, I_32_18, I_32_19, J_0_10, J_32_23, P_0_2, P_0_10, P_1_4, P_7_2, P_14_1, P_16_1, P_18_3, P_18_7, P_27_3, P_27_4, P_31_0, P_31_1, P_31_2, P_31_3, P_31_4, P_31_5, P_31_6, P_32_2, P_32_8, P_32_9, P_32_10, P_32_15, P_32_16, P_32_18, P_32_19, P_32_23, K_0, K_1, K_7, K_10, K_14, K_16, K_18, K_27, K_31, K_32]
      rw [show nI 1 = (1 : Int32) from rfl] at d1
      rw [d1]
      simp only [Option.bind_some, bI_0, Decidable.not_not, nm, b2, zr, e_isWithin, e_in, e_isGlass8, e_isGlass9, reduceIte, not_false_eq_true, not_true_eq_false, if_true, if_false, and_self, z01, z10, c00, c11, true_and, and_true, R_0_0, R_0_1, R_0_3, R_0_4, R_0_5, R_0_6, R_0_7, R_0_8, R_0_9, R_1_0, R_1_1, R_1_2, R_1_3, R_7_0, R_7_1, R_10_0, R_10_1, R_10_2, R_14_0, R_16_0, R_18_0, R_18_1, R_18_2, R_18_4, R_18_5, R_18_6, R_18_8, R_18_9, R_27_0, R_27_1, R_27_2, R_32_0, R_32_1, R_32_3, R_32_4, R_32_5, R_32_6, R_32_7, R_32_11, R_32_12, R_32_13, R_32_14, R_32_17, R_32_20, R_32_21, R_32_22, R_32_24, R_32_25, R_32_26, R_32_27, R_32_28, R_32_29, R_32_30, R_32_31, I_0_2, I_1_4, I_7_2, I_14_1, I_16_1, I_18_3, I_18_7, I_27_3, I_27_4, I_31_0, I_31_1, I_31_2, I_31_3, I_31_4, I_31_5, I_31_6, I_32_2, I_32_8, I_32_9, I_32_10, I_32_15, I_32_16, I_32_18, I_32_19, J_0_10, J_32_23, P_0_2, P_0_10, P_1_4, P_7_2, P_14_1, P_16_1, P_18_3, P_18_7, P_27_3, P_27_4, P_31_0, P_31_1, P_31_2, P_31_3, P_31_4, P_31_5, P_31_6, P_32_2, P_32_8, P_32_9, P_32_10, P_32_15, P_32_16, P_32_18, P_32_19, P_32_23, K_0, K_1, K_7, K_10, K_14, K_16, K_18, K_27, K_31, K_32, g16, hbit]
      rw [L_54 (show 2 ^ o - 1 < 256 by omega), hans]
      rfl
    · have fr : ∀ k j, k ≠ 54 → F2 k j = F k j := fun k j z3 => d2 _ _ z3
      exact ⟨r1, by rw [fr _ _ (by omega)]; exact r2, by rw [fr _ _ (by omega)]; exact r3, r4, RGl_c (fun k j h => fr _ _ (by omega)) (fun _ _ _ => rfl) r5, RTol_c (fun k j h => fr _ _ (by omega)) r6, RTab_c (fun k j h => fr _ _ (by omega)) r7, fun i hi => RCane_c (fun k j h => fr _ _ (by omega)) (r8 i hi), RWish_c (fun k j h => fr _ _ (by omega)) r9, RSlice_c (fun k j h => fr _ _ (by omega)) r10, ROrd_c (fun k j h => fr _ _ (by omega)) ⟨o, q1, q2, q3, q4, q5, s, q6, q7⟩, RWgh_c (fun k j h => fr _ _ (by omega)) r12, RBest_c (fun k j h => fr _ _ (by omega)) r13⟩
