/-! ===== 482: the bundle's picture ===== -/
def gB (F : mI) (p : Nat) (j : Nat) : Int32 := F (58 + 3 * cN F (4 * (j / 8 / p) + j % 8 / p)) (tq p (tN F (4 * (j / 8 / p) + j % 8 / p)) false (j % 8 % p) (j / 8 % p))
theorem dv {p x0 x : Nat} (hp : 0 < p) (hx : x < p) : (x0 * p + x) / p = x0 ∧ (x0 * p + x) % p = x := by
  rw [Nat.mul_comm x0 p]
  constructor
  · rw [Nat.mul_add_div hp, Nat.div_eq_of_lt hx, Nat.add_zero]
  · rw [Nat.mul_add_mod, Nat.mod_eq_of_lt hx]
theorem gB_v {F : mI} {p x0 y0 x y : Nat} (hx : x < p) (hy : y < p) (h8 : x0 * p + x < 8) : gB F p (8 * (y0 * p + y) + (x0 * p + x)) = F (58 + 3 * cN F (4 * y0 + x0)) (tq p (tN F (4 * y0 + x0)) false x y) := by
  obtain ⟨a1, a2⟩ := dv (x0 := x0) (show 0 < p by omega) hx
  obtain ⟨b1, b2⟩ := dv (x0 := y0) (show 0 < p by omega) hy
  unfold gB
  rw [show (8 * (y0 * p + y) + (x0 * p + x)) / 8 = y0 * p + y by omega, show (8 * (y0 * p + y) + (x0 * p + x)) % 8 = x0 * p + x by omega, a1, a2, b1, b2]
def PnI (F3 : mI) (n : Nat) (g : Nat → Int32) (D : Nat → Prop) (F' : mI) : Prop := (∀ k j, k ≠ 58 + 3 * n → F' k j = F3 k j) ∧ ∀ j, D j → F' (58 + 3 * n) j = g j
theorem PnI_e {F3 F' : mI} {n : Nat} {g : Nat → Int32} {D D' : Nat → Prop} (h : PnI F3 n g D F') (e : ∀ j, D' j → D j) : PnI F3 n g D' F' := ⟨h.1, fun j hj => h.2 j (e j hj)⟩
section PT
variable {b : Nat} {G : mJ} {n : Nat} {sw : Bool} {N : Nat}
theorem P_caneG {F : mI} {H : mR} {c i p : Nat} (hA : Ag b n sw H c) (hi : i < n) (h : F (57 + 3 * i) 1 = nI p) (hp : p ≤ 8) : Pic (mk b F G H c) (some (b + (57 + 3 * i))) p (F (58 + 3 * i)) := ⟨⟨_, m_obj (by have := hA.1; omega) (kdC1 i)⟩, by rw [q_I hA (show 57 + 3 * i < 56 + 3 * n by omega) (kdC1 i) rfl, h], hp, _, q_c1 hA hi, fun j hj => q_L hA (by omega) (kdC2 i) hj⟩
theorem P_new {F : mI} {H : mR} {q : Nat} (hH : H (57 + 3 * n) 0 = some (b + (58 + 3 * n))) (h : F (57 + 3 * n) 1 = nI q) (hq : q ≤ 8) : Pic (mk b F G H (59 + 3 * n)) (some (b + (57 + 3 * n))) q (F (58 + 3 * n)) := ⟨⟨_, m_obj (by omega) (kdC1 n)⟩, by rw [m_gfI (show 57 + 3 * n < 59 + 3 * n by omega) (kdC1 n) rfl, h], hq, some (b + (58 + 3 * n)), by rw [m_gfR (show 57 + 3 * n < 59 + 3 * n by omega) (kdC1 n) rfl, hH], fun j hj => m_ldI (by omega) (kdC2 n) hj⟩
theorem e_pt15 {F3 : mI} {H : mR} {g : Nat → Int32} {D : Nat → Prop} {p q c t x0 y0 y : Nat} (hA : Ag b n sw H (59 + 3 * n)) (hH : H (57 + 3 * n) 0 = some (b + (58 + 3 * n))) (hc : c < n) (h1 : F3 (57 + 3 * c) 1 = nI p) (hp : p ≤ 8) (hq3 : F3 (57 + 3 * n) 1 = nI q) (hq : q ≤ 8) (hx0 : x0 * p + p ≤ q) (hy0 : y0 * p + p ≤ q) (ht : t < 4) (hy : y < p) (hval : ∀ x y, x < p → y < p → F3 (58 + 3 * c) (tq p t false x y) = g (8 * (y0 * p + y) + (x0 * p + x))) : ∀ (m x : Nat) (F' : mI), x ≤ p → p - x < m → PnI F3 n g (fun j => D j ∨ ∃ x', x' < x ∧ j = 8 * (y0 * p + y) + (x0 * p + x')) F' → ∃ F'', lX5_paint_15 N (some (b + (57 + 3 * n))) (nI (x0 * p)) (nI (y0 * p)) (some (b + (57 + 3 * c))) (nI t) (nI y) m (nI x) (mk b F' G H (59 + 3 * n)) = some (mk b F'' G H (59 + 3 * n)) ∧ PnI F3 n g (fun j => D j ∨ ∃ x', x' < p ∧ j = 8 * (y0 * p + y) + (x0 * p + x')) F'' := by
  intro m
  induction m with
  | zero => intro x F' _ h; omega
  | succ m ih =>
    intro x F' hx hm hP
    have k1 : F' (57 + 3 * c) 1 = nI p := by rw [hP.1 _ _ (by omega)]; exact h1
    have k2 : F' (57 + 3 * n) 1 = nI q := by rw [hP.1 _ _ (by omega)]; exact hq3
    have hPc := P_caneG (G := G) hA hc k1 hp
    have hPn := P_new (b := b) (G := G) (F := F') hH k2 hq
    rw [lX5_paint_15, hPc.2.1]
    simp only [Option.bind_some]
    by_cases hxp : x = p
    · subst hxp
      refine ⟨F', ?_, hP⟩
      rw [if_pos (nI_le (Nat.le_refl _) (by omega))]
    · rw [if_neg (nI_ge (by omega) (by omega)), e_atT hPc (show x < p by omega) hy ht]
      simp only [Option.bind_some, nI_add]
      have k3 : F' (58 + 3 * c) (tq p t false x y) = g (8 * (y0 * p + y) + (x0 * p + x)) := by rw [hP.1 _ _ (by omega)]; exact hval x y (by omega) hy
      have hst : stI (mk b F' G H (59 + 3 * n)) (some (b + (58 + 3 * n))) (nI (8 * (y0 * p + y) + (x0 * p + x))) (F' (58 + 3 * c) (tq p t false x y)) = some (mk b (u2 F' (58 + 3 * n) (8 * (y0 * p + y) + (x0 * p + x)) (F' (58 + 3 * c) (tq p t false x y))) G H (59 + 3 * n)) := m_stI (by omega) (kdC2 n) (by omega)
      rw [e_put_in hPn (by rw [m_gfR (show 57 + 3 * n < 59 + 3 * n by omega) (kdC1 n) rfl, hH]) (show x0 * p + x < q by omega) (show y0 * p + y < q by omega) hst]
      simp only [b2, Option.bind_some, nm, nI_1]
      refine ih (x + 1) _ (by omega) (by omega) ⟨fun k j hk => ?_, fun j hj => ?_⟩
      · rw [u2_ne _ _ _ _ (fun z => hk z.1)]
        exact hP.1 k j hk
      · by_cases e : j = 8 * (y0 * p + y) + (x0 * p + x)
        · rw [e, u2_eq]
          exact k3
        · rw [u2_ne _ _ _ _ (fun z => e z.2)]
          apply hP.2
          rcases hj with hj | ⟨x', h1, h2⟩
          · exact Or.inl hj
          · refine Or.inr ⟨x', ?_, h2⟩
            have : x' ≠ x := fun z => e (z ▸ h2)
            omega
theorem e_paint {F3 : mI} {H : mR} {g : Nat → Int32} {D : Nat → Prop} {p q c t x0 y0 : Nat} {F' : mI} (hA : Ag b n sw H (59 + 3 * n)) (hH : H (57 + 3 * n) 0 = some (b + (58 + 3 * n))) (hc : c < n) (h1 : F3 (57 + 3 * c) 1 = nI p) (hp : p ≤ 8) (hq3 : F3 (57 + 3 * n) 1 = nI q) (hq : q ≤ 8) (hx0 : x0 * p + p ≤ q) (hy0 : y0 * p + p ≤ q) (ht : t < 4) (hval : ∀ x y, x < p → y < p → F3 (58 + 3 * c) (tq p t false x y) = g (8 * (y0 * p + y) + (x0 * p + x))) (hN : 20 ≤ N) (hP : PnI F3 n g D F') : ∃ F'', fX5_paint N (mk b F' G H (59 + 3 * n)) (some (b + (57 + 3 * n))) (nI (x0 * p)) (nI (y0 * p)) (some (b + (57 + 3 * c))) (nI t) = some (mk b F'' G H (59 + 3 * n)) ∧ PnI F3 n g (fun j => D j ∨ ∃ y' x', y' < p ∧ x' < p ∧ j = 8 * (y0 * p + y') + (x0 * p + x')) F'' := by
  have key : ∀ (m y : Nat) (F' : mI), y ≤ p → p - y < m → PnI F3 n g (fun j => D j ∨ ∃ y' x', y' < y ∧ x' < p ∧ j = 8 * (y0 * p + y') + (x0 * p + x')) F' → ∃ F'', lX5_paint_3 N (some (b + (57 + 3 * n))) (nI (x0 * p)) (nI (y0 * p)) (some (b + (57 + 3 * c))) (nI t) m (nI y) (mk b F' G H (59 + 3 * n)) = some (mk b F'' G H (59 + 3 * n)) ∧ PnI F3 n g (fun j => D j ∨ ∃ y' x', y' < p ∧ x' < p ∧ j = 8 * (y0 * p + y') + (x0 * p + x')) F'' := by
    intro m
    induction m with
    | zero => intro y F' _ h; omega
    | succ m ih =>
      intro y F' hy hm hP
      have k1 : F' (57 + 3 * c) 1 = nI p := by rw [hP.1 _ _ (by omega)]; exact h1
      have hPc := P_caneG (G := G) hA hc k1 hp
      rw [lX5_paint_3, hPc.2.1]
      simp only [Option.bind_some]
      by_cases hyp : y = p
      · subst hyp
        refine ⟨F', ?_, hP⟩
        rw [if_pos (nI_le (Nat.le_refl _) (by omega))]
      · obtain ⟨F'', e1, e2⟩ := e_pt15 (N := N) (b := b) (G := G) (n := n) (sw := sw) (D := fun j => D j ∨ ∃ y' x', y' < y ∧ x' < p ∧ j = 8 * (y0 * p + y') + (x0 * p + x')) hA hH hc h1 hp hq3 hq hx0 hy0 ht (show y < p by omega) hval N 0 F' (by omega) (by omega) (PnI_e hP (fun j hj => by
          rcases hj with hj | ⟨x', h, -⟩
          · exact hj
          · omega))
        rw [show nI 0 = (0 : Int32) from rfl] at e1
        rw [if_neg (nI_ge (by omega) (by omega)), e1]
        simp only [Option.bind_some, nm, nI_1]
        refine ih (y + 1) F'' (by omega) (by omega) (PnI_e e2 (fun j hj => ?_))
        rcases hj with hj | ⟨y', x', z1, z2, z3⟩
        · exact Or.inl (Or.inl hj)
        · by_cases e : y' = y
          · subst e; exact Or.inr ⟨x', z2, z3⟩
          · exact Or.inl (Or.inr ⟨y', x', by omega, z2, z3⟩)
  obtain ⟨F'', e1, e2⟩ := key N 0 F' (by omega) (by omega) (PnI_e hP (fun j hj => by
    rcases hj with hj | ⟨y', x', h, -⟩
    · exact hj
    · omega))
  rw [show nI 0 = (0 : Int32) from rfl] at e1
  refine ⟨F'', ?_, e2⟩
  unfold fX5_paint
  rw [m_chk (show 57 + 3 * n < 59 + 3 * n by omega) (kdC1 n), e1]
  rfl
/-- the loops over the places -/
theorem e_laid {F F3 : mI} {H : mR} {p k : Nat} (hA : Ag b n sw H (59 + 3 * n)) (hH : H (57 + 3 * n) 0 = some (b + (58 + 3 * n))) (hn : n ≤ 16) (hk : k ≤ 4) (hkp : k * p ≤ 8) (hp : p ≤ 8) (hf : ∀ k j, k < 56 + 3 * n → F3 k j = F k j) (hq3 : F3 (57 + 3 * n) 1 = nI (k * p)) (h2 : F 0 2 = nI n) (h7 : F 7 2 = nI k) (hT : TB F n k) (hno : ∀ y, y < k → ∀ x, x < k → ¬ F 40 (4 * y + x) = -9) (hs : ∀ y, y < k → ∀ x, x < k → F (57 + 3 * cN F (4 * y + x)) 1 = nI p) (hN : 20 ≤ N) : ∃ F'', lX8_laidPicture_20 N (some b) (nI p) (some (b + (57 + 3 * n))) N 0 (mk b F3 G H (59 + 3 * n)) = some (mk b F'' G H (59 + 3 * n)) ∧ PnI F3 n (gB F p) (fun j => ∃ y0 x0 y x, y0 < k ∧ x0 < k ∧ y < p ∧ x < p ∧ j = 8 * (y0 * p + y) + (x0 * p + x)) F'' := by
  have hle : ∀ x0, x0 < k → x0 * p + p ≤ k * p := fun x0 h => by
    have : (x0 + 1) * p ≤ k * p := Nat.mul_le_mul_right p h
    rw [Nat.add_mul, Nat.one_mul] at this
    exact this
  have kR : ∀ F' : mI, gfR (mk b F' G H (59 + 3 * n)) 8 3 (some b) = some (some (b + 7)) := fun F' => q_R03 hA
  have kI : ∀ F' : mI, PnI F3 n (gB F p) (fun _ => False) F' → gfI (mk b F' G H (59 + 3 * n)) 7 2 (some (b + 7)) = some (nI k) := fun F' hP => by
    rw [q_I (k := 7) hA (by omega) rfl rfl, hP.1 _ _ (by omega), hf _ _ (by omega), h7]
  have inner : ∀ (y0 : Nat), y0 < k → ∀ (D : Nat → Prop) (m x0 : Nat) (F' : mI), x0 ≤ k → k - x0 < m → PnI F3 n (gB F p) (fun j => D j ∨ ∃ x0' y x, x0' < x0 ∧ y < p ∧ x < p ∧ j = 8 * (y0 * p + y) + (x0' * p + x)) F' → ∃ F'', lX8_laidPicture_34 N (some b) (nI p) (some (b + (57 + 3 * n))) (nI y0) m (nI x0) (mk b F' G H (59 + 3 * n)) = some (mk b F'' G H (59 + 3 * n)) ∧ PnI F3 n (gB F p) (fun j => D j ∨ ∃ x0' y x, x0' < k ∧ y < p ∧ x < p ∧ j = 8 * (y0 * p + y) + (x0' * p + x)) F'' := by
    intro y0 hy0 D m
    induction m with
    | zero => intro x0 F' _ h; omega
    | succ m ih =>
      intro x0 F' hx0 hm hP
      rw [lX8_laidPicture_34, kR]
      simp only [Option.bind_some]
      rw [kI F' ⟨hP.1, fun j hj => hj.elim⟩]
      simp only [Option.bind_some]
      by_cases hxk : x0 = k
      · subst hxk
        refine ⟨F', ?_, hP⟩
        rw [if_pos (nI_le (Nat.le_refl _) (by omega))]
      · have hx0k : x0 < k := by omega
        obtain ⟨d1, d2, d3, d4, -, d6, -⟩ := TB_c hn hT (show 4 * y0 + x0 < 16 by omega) (hno y0 hy0 x0 hx0k)
        have g7 : F' 7 2 = nI k := by rw [hP.1 _ _ (by omega), hf _ _ (by omega)]; exact h7
        have g8 : F' 8 (4 * y0 + x0) = nI (cN F (4 * y0 + x0)) := by rw [hP.1 _ _ (by omega), hf _ _ (by omega)]; exact d3
        have g9 : F' 9 (4 * y0 + x0) = nI (tN F (4 * y0 + x0)) := by rw [hP.1 _ _ (by omega), hf _ _ (by omega)]; exact d4
        have g0 : F' 0 2 = nI n := by rw [hP.1 _ _ (by omega), hf _ _ (by omega)]; exact h2
        have gs : F3 (57 + 3 * cN F (4 * y0 + x0)) 1 = nI p := by rw [hf _ _ (by omega)]; exact hs y0 hy0 x0 hx0k
        have lx := hle x0 hx0k
        have ly := hle y0 hy0
        obtain ⟨F'', e1, e2⟩ := e_paint (N := N) (b := b) (G := G) (n := n) (sw := sw) (F' := F') (x0 := x0) (y0 := y0) hA hH d1 gs hp hq3 hkp lx ly d6 (fun x y hx hy => by
          rw [gB_v hx hy (by omega), hf _ _ (by omega)]) hN hP
        rw [if_neg (nI_ge hx0k (by omega)), q_caneAt hA hk g7 hx0k hy0, g8]
        simp only [Option.bind_some]
        rw [q_find_y hA hn g0 d1]
        simp only [Option.bind_some, nm]
        rw [if_neg (by simp), q_c0 hA d1]
        simp only [Option.bind_some]
        rw [q_turnAt hA hk g7 hx0k hy0, g9]
        simp only [Option.bind_some, pk_mul]
        rw [e1]
        simp only [Option.bind_some, nI_1]
        refine ih (x0 + 1) F'' (by omega) (by omega) (PnI_e e2 (fun j hj => ?_))
        rcases hj with hj | ⟨x0', y, x, z1, z2, z3, z4⟩
        · exact Or.inl (Or.inl hj)
        · by_cases e : x0' = x0
          · subst e; exact Or.inr ⟨y, x, z2, z3, z4⟩
          · exact Or.inl (Or.inr ⟨x0', y, x, by omega, z2, z3, z4⟩)
  have outer : ∀ (m y0 : Nat) (F' : mI), y0 ≤ k → k - y0 < m → PnI F3 n (gB F p) (fun j => ∃ y0' x0 y x, y0' < y0 ∧ x0 < k ∧ y < p ∧ x < p ∧ j = 8 * (y0' * p + y) + (x0 * p + x)) F' → ∃ F'', lX8_laidPicture_20 N (some b) (nI p) (some (b + (57 + 3 * n))) m (nI y0) (mk b F' G H (59 + 3 * n)) = some (mk b F'' G H (59 + 3 * n)) ∧ PnI F3 n (gB F p) (fun j => ∃ y0 x0 y x, y0 < k ∧ x0 < k ∧ y < p ∧ x < p ∧ j = 8 * (y0 * p + y) + (x0 * p + x)) F'' := by
    intro m
    induction m with
    | zero => intro y0 F' _ h; omega
    | succ m ih =>
      intro y0 F' hy0 hm hP
      rw [lX8_laidPicture_20, kR]
      simp only [Option.bind_some]
      rw [kI F' ⟨hP.1, fun j hj => hj.elim⟩]
      simp only [Option.bind_some]
      by_cases hyk : y0 = k
      · subst hyk
        refine ⟨F', ?_, hP⟩
        rw [if_pos (nI_le (Nat.le_refl _) (by omega))]
      · obtain ⟨F'', e1, e2⟩ := inner y0 (by omega) (fun j => ∃ y0' x0 y x, y0' < y0 ∧ x0 < k ∧ y < p ∧ x < p ∧ j = 8 * (y0' * p + y) + (x0 * p + x)) N 0 F' (by omega) (by omega) (PnI_e hP (fun j hj => by
          rcases hj with hj | ⟨x0', y, x, h, -⟩
          · exact hj
          · omega))
        rw [show nI 0 = (0 : Int32) from rfl] at e1
        rw [if_neg (nI_ge (by omega) (by omega)), e1]
        simp only [Option.bind_some, nm, nI_1]
        refine ih (y0 + 1) F'' (by omega) (by omega) (PnI_e e2 (fun j hj => ?_))
        obtain ⟨y0', x0, y, x, z1, z2, z3, z4, z5⟩ := hj
        by_cases e : y0' = y0
        · subst e; exact Or.inr ⟨x0, y, x, z2, z3, z4, z5⟩
        · exact Or.inl ⟨y0', x0, y, x, by omega, z2, z3, z4, z5⟩
  exact outer N 0 F3 (by omega) (by omega) ⟨fun _ _ _ => rfl, fun j hj => by
    obtain ⟨y0', x0, y, x, z1, -⟩ := hj
    omega⟩
/-- lengths are taken: the class -/
theorem e_take8 {F F4 : mI} {H : mR} {k l : Nat} {r3 : Option Nat} (hA : Ag b n sw H (59 + 3 * n)) (hn : n ≤ 16) (hf : ∀ k j, k < 56 + 3 * n → F4 k j = F k j) (h2 : F 0 2 = nI n) (hT : TB F n k) (hl : l ≤ 9999) (hlen : ∀ i, i < n → ∃ q, q ≤ 9999 ∧ l * Pl F i ≤ q ∧ F (56 + 3 * i) 1 = nI q) (hN : 20 ≤ N) : ∃ F'', lX8_bundle_89 N (some b) (nI l) r3 N 0 (mk b F4 G H (59 + 3 * n)) = some (mk b F'' G H (59 + 3 * n)) ∧ (∀ k j, (∀ i, i < n → ¬ (k = 56 + 3 * i ∧ j = 1)) → F'' k j = F4 k j) ∧ ∀ i q, i < n → F (56 + 3 * i) 1 = nI q → l * Pl F i ≤ q → F'' (56 + 3 * i) 1 = nI (q - l * Pl F i) := by
  have key : ∀ (m i : Nat) (F' : mI), i ≤ n → n - i < m → (∀ k j, (∀ i', i' < i → ¬ (k = 56 + 3 * i' ∧ j = 1)) → F' k j = F4 k j) → (∀ i' q, i' < i → F (56 + 3 * i') 1 = nI q → l * Pl F i' ≤ q → F' (56 + 3 * i') 1 = nI (q - l * Pl F i')) → ∃ F'', lX8_bundle_89 N (some b) (nI l) r3 m (nI i) (mk b F' G H (59 + 3 * n)) = some (mk b F'' G H (59 + 3 * n)) ∧ (∀ k j, (∀ i, i < n → ¬ (k = 56 + 3 * i ∧ j = 1)) → F'' k j = F4 k j) ∧ ∀ i q, i < n → F (56 + 3 * i) 1 = nI q → l * Pl F i ≤ q → F'' (56 + 3 * i) 1 = nI (q - l * Pl F i) := by
    intro m
    induction m with
    | zero => intro i F' _ h; omega
    | succ m ih =>
      intro i F' hi hm h1 h3
      have g0 : F' 0 2 = nI n := by rw [h1 _ _ (fun i' _ z => by omega), hf _ _ (by omega)]; exact h2
      rw [lX8_bundle_89, q_I02 hA, g0]
      simp only [Option.bind_some]
      by_cases hin : i = n
      · subst hin
        refine ⟨F', ?_, h1, h3⟩
        rw [if_pos (nI_le (Nat.le_refl _) (by omega))]
      · have hi' : i < n := by omega
        obtain ⟨q, q9, q1, q2⟩ := hlen i hi'
        have g1 : F' (56 + 3 * i) 1 = nI q := by rw [h1 _ _ (fun i' _ z => by omega), hf _ _ (by omega)]; exact q2
        have hpl : fX7_placesOf N (mk b F' G H (59 + 3 * n)) (some (b + 7)) (nI i) = some (nI (Pl F i)) := by
          rw [q_places hA hN, ← pl8 hT]
          refine congrArg some (srI_congr 16 0 (fun j _ _ => bI_c ?_))
          rw [h1 _ _ (fun i' _ z => by omega), hf _ _ (by omega)]
        rw [if_neg (nI_ge hi' (by omega)), q_find_y hA hn g0 hi']
        simp only [Option.bind_some, nm]
        rw [if_neg (by simp), q_I hA (show 56 + 3 * i < 56 + 3 * n by omega) (kdC0 i) rfl, g1]
        simp only [Option.bind_some]
        rw [q_R03 hA]
        simp only [Option.bind_some, hpl]
        rw [pk_mul, pk_sub q1, m_pfI (show 56 + 3 * i < 59 + 3 * n by omega) (kdC0 i) rfl]
        simp only [Option.bind_some, nI_1]
        refine ih (i + 1) _ (by omega) (by omega) (fun k j hk => ?_) (fun i' q' hi2 hq hle => ?_)
        · rw [u2_ne _ _ _ _ (hk i (by omega))]
          exact h1 k j (fun i' h => hk i' (by omega))
        · by_cases e : i' = i
          · subst e
            have : q' < 2 ^ 31 ∨ 2 ^ 31 ≤ q' := by omega
            rw [u2_eq]
            have e2 : nI q' = nI q := hq.symm.trans q2
            rw [← pk_sub q1, ← pk_sub hle, e2]
          · rw [u2_ne _ _ _ _ (by omega)]
            exact h3 i' q' (by omega) hq hle
  exact key N 0 F4 (by omega) (by omega) (fun _ _ _ => rfl) (fun i' q h => by omega)
end PT
