/-! ===== 494: from arrows to slices ===== -/
theorem cn_sur {P : Nat → Bool} {a : Nat} : ∀ K, a < cn P K → ∃ s, s < K ∧ P s = true ∧ cn P s = a
  | 0, h => by exact absurd h (by simp [cn])
  | K + 1, h => by
    rw [cn_s] at h
    by_cases e : a < cn P K
    · obtain ⟨s, h1, h2, h3⟩ := cn_sur K e
      exact ⟨s, by omega, h2, h3⟩
    · by_cases hp : P K = true
      · rw [if_pos hp] at h
        exact ⟨K, by omega, hp, by omega⟩
      · rw [if_neg hp] at h
        omega
def fkN (F : mI) (p k : Nat) : Nat := Kn (fcN F p k) p
def lkN (F : mI) (p k : Nat) : Nat := Kn (lcN F p k) p
def frK (F : mI) (n p k : Nat) : Nat := (lst (fun k' => isSl F n p k' && decide (fkN F p k' = fkN F p k)) 64).getD 0
def toK (F : mI) (n p k : Nat) : Option Nat := lst (fun k' => isSl F n p k' && decide (fkN F p k' = lkN F p k)) 64
theorem frK_e {F : mI} {n p k : Nat} (hk : k < 64) (hS : isSl F n p k = true) : lst (fun k' => isSl F n p k' && decide (fkN F p k' = fkN F p k)) 64 = some (frK F n p k) ∧ frK F n p k < 64 ∧ isSl F n p (frK F n p k) = true ∧ fkN F p (frK F n p k) = fkN F p k := by
  obtain ⟨c, hc⟩ := lst_ex (P := fun k' => isSl F n p k' && decide (fkN F p k' = fkN F p k)) hk (by simp [hS])
  obtain ⟨c1, c2, -⟩ := lst_some hc
  rw [Bool.and_eq_true] at c2
  unfold frK
  rw [hc]
  exact ⟨rfl, c1, c2.1, of_decide_eq_true c2.2⟩
theorem toK_e {F : mI} {n p k c : Nat} (h : toK F n p k = some c) : c < 64 ∧ isSl F n p c = true ∧ fkN F p c = lkN F p k ∧ frK F n p c = c := by
  obtain ⟨c1, c2, c3⟩ := lst_some h
  rw [Bool.and_eq_true] at c2
  have e := of_decide_eq_true c2.2
  refine ⟨c1, c2.1, e, ?_⟩
  unfold frK
  rw [e]
  unfold toK at h
  rw [h]
  rfl
/-- the keys of slices stand for columns -/
def Kok (F : mI) (n p : Nat) : Prop := ∀ k, k < 64 → isSl F n p k = true → (∀ y, y < p → fcN F p k y < 16) ∧ (∀ y, y < p → lcN F p k y < 16) ∧ fkN F p k < 2 ^ 32 ∧ lkN F p k < 2 ^ 32
theorem Kok_o {F : mI} {n p : Nat} (hn : n ≤ 16) (hp1 : 1 ≤ p) (hp8 : p ≤ 8) (hC : CR F n) : Kok F n p := by
  intro k hk hS
  obtain ⟨s1, s2, s3⟩ := of_decide_eq_true hS
  obtain ⟨q, l, f, t, ⟨q1, q8, -⟩, -, c2, -, -, -, -, -, -, c9⟩ := hC (k / 4) (by omega)
  have hq : q = p := (nI_eq (by omega) (by omega)).mp (c2.symm.trans s3)
  subst hq
  have hv : ∀ x y, x < q → y < q → (F (58 + 3 * (k / 4)) (tq q (k % 4) false x y)).toNatClampNeg < 16 := fun x y hx hy => by
    have hl := itr_lt (p := q) (k % 4) x y hx hy
    obtain ⟨w1, g, w2, w3, w4⟩ := c9 _ _ hl.1 hl.2
    have e : F (58 + 3 * (k / 4)) (tq q (k % 4) false x y) = nI g := w1.trans w4
    rw [e, nI_clamp (by omega)]
    omega
  have a1 : ∀ y, y < q → fcN F q k y < 16 := fun y hy => hv 0 y (by omega) hy
  have a2 : ∀ y, y < q → lcN F q k y < 16 := fun y hy => hv (q - 1) y (by omega) hy
  have hb : (16 : Nat) ^ q ≤ 16 ^ 8 := Nat.pow_le_pow_right (by omega) q8
  have hb2 : (16 : Nat) ^ 8 = 2 ^ 32 := by decide
  have b1 := Kn_lt q a1
  have b2 := Kn_lt q a2
  unfold fkN lkN
  exact ⟨a1, a2, by omega, by omega⟩
theorem jn_iff {F : mI} {n p i j : Nat} (hK : Kok F n p) (hi : i < 64) (hj : j < 64) : (isSl F n p i = true ∧ isSl F n p j = true ∧ ∀ y, y < p → lcN F p i y = fcN F p j y) ↔ (isSl F n p i = true ∧ isSl F n p j = true ∧ toK F n p i = some (frK F n p j)) := by
  constructor
  · rintro ⟨h1, h2, h3⟩
    refine ⟨h1, h2, ?_⟩
    have e : lkN F p i = fkN F p j := (Kn_inj p (hK i hi h1).2.1 (hK j hj h2).1).mpr h3
    unfold toK
    rw [e]
    exact (frK_e hj h2).1
  · rintro ⟨h1, h2, h3⟩
    refine ⟨h1, h2, ?_⟩
    obtain ⟨-, -, e1, -⟩ := toK_e h3
    have e2 := (frK_e hj h2).2.2.2
    have e : lkN F p i = fkN F p j := e1.symm.trans e2
    exact (Kn_inj p (hK i hi h1).2.1 (hK j hj h2).1).mp e
/-- the class's rows of slices against the slices -/
theorem lst_k {F0 F1 : mI} {n p x : Nat} (hK : Kok F0 n p) (h19 : ∀ k, k < 64 → isSl F0 n p k = true → F1 19 (cn (isSl F0 n p) k) = nI (fkN F0 p k)) (hx : x < 2 ^ 32) : lst (fun s => decide (F1 19 s = nI x)) (cn (isSl F0 n p) 64) = (lst (fun k' => isSl F0 n p k' && decide (fkN F0 p k' = x)) 64).map (cn (isSl F0 n p)) := by
  refine lst_cn (R := fun k' => decide (fkN F0 p k' = x)) 64 (fun k hk hS => ?_)
  show decide (F1 19 (cn (isSl F0 n p) k) = nI x) = decide (fkN F0 p k = x)
  rw [h19 k hk hS, Bool.eq_iff_iff, decide_eq_true_eq, decide_eq_true_eq]
  exact nI_inj32 (hK k hk hS).2.2.1 hx
section TT
variable {F0 F1 : mI} {n p : Nat} {V : Type} {op : V → V → V} {z one : V} {aA aK : Nat → V → V} {fa ta : Nat → Nat}
theorem frS_k (hK : Kok F0 n p) (h19 : ∀ k, k < 64 → isSl F0 n p k = true → F1 19 (cn (isSl F0 n p) k) = nI (fkN F0 p k)) {k : Nat} (hk : k < 64) (hS : isSl F0 n p k = true) : frS F1 (cn (isSl F0 n p) 64) (cn (isSl F0 n p) k) = cn (isSl F0 n p) (frK F0 n p k) := by
  unfold frS
  rw [h19 k hk hS, lst_k hK h19 (hK k hk hS).2.2.1, (frK_e hk hS).1]
  rfl
theorem toS_k (hK : Kok F0 n p) (h19 : ∀ k, k < 64 → isSl F0 n p k = true → F1 19 (cn (isSl F0 n p) k) = nI (fkN F0 p k)) (h20 : ∀ k, k < 64 → isSl F0 n p k = true → F1 20 (cn (isSl F0 n p) k) = nI (lkN F0 p k)) {k : Nat} (hk : k < 64) (hS : isSl F0 n p k = true) : toS F1 (cn (isSl F0 n p) 64) (cn (isSl F0 n p) k) = (toK F0 n p k).map (cn (isSl F0 n p)) := by
  unfold toS
  rw [h20 k hk hS, lst_k hK h19 (hK k hk hS).2.2.2]
  rfl
theorem BA_k (h : CM op z) (hK : Kok F0 n p) (h19 : ∀ k, k < 64 → isSl F0 n p k = true → F1 19 (cn (isSl F0 n p) k) = nI (fkN F0 p k)) (h20 : ∀ k, k < 64 → isSl F0 n p k = true → F1 20 (cn (isSl F0 n p) k) = nI (lkN F0 p k)) (hfa : ∀ s, s < cn (isSl F0 n p) 64 → Q2 F1 (cn (isSl F0 n p) 64) s = true → fa (cn (Q2 F1 (cn (isSl F0 n p) 64)) s) = frS F1 (cn (isSl F0 n p) 64) s ∧ ta (cn (Q2 F1 (cn (isSl F0 n p) 64)) s) = (toS F1 (cn (isSl F0 n p) 64) s).getD 0) (ha : ∀ k, k < 64 → isSl F0 n p k = true → Q2 F1 (cn (isSl F0 n p) 64) (cn (isSl F0 n p) k) = true → aA (cn (Q2 F1 (cn (isSl F0 n p) 64)) (cn (isSl F0 n p) k)) = aK k) {c : Nat} (hc : c < 64) (hcS : isSl F0 n p c = true) : ∀ m d, d < 64 → isSl F0 n p d = true → itB (BA op z aA fa ta (cn (Q2 F1 (cn (isSl F0 n p) 64)) (cn (isSl F0 n p) 64))) m (ev1 one z (cn (isSl F0 n p) c)) (cn (isSl F0 n p) d) = itB (Bst op z aK (isSl F0 n p) (frK F0 n p) (toK F0 n p)) m (ev1 one z c) d
  | 0, d, hd, hdS => by
    show ev1 one z (cn (isSl F0 n p) c) (cn (isSl F0 n p) d) = ev1 one z c d
    unfold ev1
    by_cases e : d = c
    · rw [e, if_pos rfl, if_pos rfl]
    · rw [if_neg e, if_neg (fun w => e (cn_inj hdS hcS w))]
  | m + 1, d, hd, hdS => by
    have ih := BA_k h hK h19 h20 hfa ha hc hcS m
    show BA op z aA fa ta _ (itB (BA op z aA fa ta _) m (ev1 one z (cn (isSl F0 n p) c))) (cn (isSl F0 n p) d) = Bst op z aK (isSl F0 n p) (frK F0 n p) (toK F0 n p) (itB (Bst op z aK (isSl F0 n p) (frK F0 n p) (toK F0 n p)) m (ev1 one z c)) d
    generalize hv : itB (BA op z aA fa ta (cn (Q2 F1 (cn (isSl F0 n p) 64)) (cn (isSl F0 n p) 64))) m (ev1 one z (cn (isSl F0 n p) c)) = v at ih ⊢
    generalize itB (Bst op z aK (isSl F0 n p) (frK F0 n p) (toK F0 n p)) m (ev1 one z c) = v' at ih ⊢
    unfold BA Bst
    rw [bs_cn h (P := Q2 F1 (cn (isSl F0 n p) 64)) (g := fun s => if (toS F1 (cn (isSl F0 n p) 64) s).getD 0 = cn (isSl F0 n p) d then aA (cn (Q2 F1 (cn (isSl F0 n p) 64)) s) (v (frS F1 (cn (isSl F0 n p) 64) s)) else z) _ (fun s hs hq => by
      obtain ⟨w1, w2⟩ := hfa s hs hq
      rw [w1, w2])]
    rw [bs_cn h (P := isSl F0 n p) (g := fun k => if toK F0 n p k = some d then aK k (v (cn (isSl F0 n p) (frK F0 n p k))) else z) 64 (fun k hk hS => by
      have t1 := toS_k hK h19 h20 hk hS
      have t2 := frS_k hK h19 hk hS
      have t3 : Q2 F1 (cn (isSl F0 n p) 64) (cn (isSl F0 n p) k) = (toK F0 n p k).isSome := by
        unfold Q2
        rw [t1]
        cases toK F0 n p k <;> rfl
      show (if Q2 F1 (cn (isSl F0 n p) 64) (cn (isSl F0 n p) k) = true then (if (toS F1 (cn (isSl F0 n p) 64) (cn (isSl F0 n p) k)).getD 0 = cn (isSl F0 n p) d then aA (cn (Q2 F1 (cn (isSl F0 n p) 64)) (cn (isSl F0 n p) k)) (v (frS F1 (cn (isSl F0 n p) 64) (cn (isSl F0 n p) k))) else z) else z) = _
      cases hto : toK F0 n p k with
      | none =>
        rw [t3, hto, if_neg (by simp), if_neg (fun w => nsm w)]
      | some e =>
        have hq : Q2 F1 (cn (isSl F0 n p) 64) (cn (isSl F0 n p) k) = true := by rw [t3, hto]; rfl
        obtain ⟨e1, e2, -⟩ := toK_e hto
        rw [if_pos hq, t1, hto, t2, ha k hk hS hq]
        show (if cn (isSl F0 n p) e = cn (isSl F0 n p) d then _ else z) = _
        by_cases ed : e = d
        · rw [ed, if_pos rfl, if_pos rfl]
        · rw [if_neg (fun w => ed (cn_inj e2 hdS w)), if_neg (fun w => ed (Option.some.inj w))])]
    refine bs_congr 64 (fun k hk => ?_)
    by_cases hS : isSl F0 n p k = true
    · rw [if_pos hS]
      by_cases ht : toK F0 n p k = some d
      · obtain ⟨-, f2, f3, -⟩ := frK_e hk hS
        rw [if_pos ht, if_pos ⟨hS, ht⟩, ih _ f2 f3]
      · rw [if_neg ht, if_neg (fun w => ht w.2)]
    · rw [if_neg hS, if_neg (fun w => hS w.1)]
theorem tot_k (h : CM op z) (hK : Kok F0 n p) (h19 : ∀ k, k < 64 → isSl F0 n p k = true → F1 19 (cn (isSl F0 n p) k) = nI (fkN F0 p k)) (h20 : ∀ k, k < 64 → isSl F0 n p k = true → F1 20 (cn (isSl F0 n p) k) = nI (lkN F0 p k)) (hfa : ∀ s, s < cn (isSl F0 n p) 64 → Q2 F1 (cn (isSl F0 n p) 64) s = true → fa (cn (Q2 F1 (cn (isSl F0 n p) 64)) s) = frS F1 (cn (isSl F0 n p) 64) s ∧ ta (cn (Q2 F1 (cn (isSl F0 n p) 64)) s) = (toS F1 (cn (isSl F0 n p) 64) s).getD 0) (ha : ∀ k, k < 64 → isSl F0 n p k = true → Q2 F1 (cn (isSl F0 n p) 64) (cn (isSl F0 n p) k) = true → aA (cn (Q2 F1 (cn (isSl F0 n p) 64)) (cn (isSl F0 n p) k)) = aK k) (m : Nat) : bs op z (fun s => if frS F1 (cn (isSl F0 n p) 64) s = s then itB (BA op z aA fa ta (cn (Q2 F1 (cn (isSl F0 n p) 64)) (cn (isSl F0 n p) 64))) m (ev1 one z s) s else z) (cn (isSl F0 n p) 64) = bs op z (fun c => if isSl F0 n p c = true ∧ frK F0 n p c = c then itB (Bst op z aK (isSl F0 n p) (frK F0 n p) (toK F0 n p)) m (ev1 one z c) c else z) 64 := by
  rw [bs_cn h (P := isSl F0 n p) (g := fun c => if frK F0 n p c = c then itB (Bst op z aK (isSl F0 n p) (frK F0 n p) (toK F0 n p)) m (ev1 one z c) c else z) 64 (fun k hk hS => by
    have t2 := frS_k hK h19 hk hS
    obtain ⟨-, -, f3, -⟩ := frK_e hk hS
    show (if frS F1 (cn (isSl F0 n p) 64) (cn (isSl F0 n p) k) = cn (isSl F0 n p) k then _ else z) = _
    rw [t2]
    by_cases e : frK F0 n p k = k
    · rw [if_pos (by rw [e]), if_pos e]
      exact BA_k h hK h19 h20 hfa ha hk hS m k hk hS
    · rw [if_neg (fun w => e (cn_inj f3 hS w)), if_neg e])]
  refine bs_congr 64 (fun k hk => ?_)
  by_cases hS : isSl F0 n p k = true
  · rw [if_pos hS]
    by_cases e : frK F0 n p k = k
    · rw [if_pos e, if_pos ⟨hS, e⟩]
    · rw [if_neg e, if_neg (fun w => e w.2)]
  · rw [if_neg hS, if_neg (fun w => hS w.1)]
end TT
