/-! ===== 440: cased ===== -/
def sq (F : mI) (K : Nat) (P : Nat → Bool) (g : Nat → Int32) : mI := fun k j => if k = K ∧ P j = true then g j else F k j
theorem sq_u {F : mI} {K : Nat} {P P' : Nat → Bool} {g : Nat → Int32} {j0 : Nat} {v : Int32} (h : ∀ j, P' j = (P j || decide (j = j0))) (hv : v = g j0) : u2 (sq F K P g) K j0 v = sq F K P' g := by
  funext k j
  simp only [u2, sq, h]
  by_cases hk : k = K
  · by_cases hj : j = j0
    · subst hj
      simp [hk, hv]
    · simp [hk, hj]
  · simp [hk]
theorem sq_0 {F : mI} {K : Nat} {P : Nat → Bool} {g : Nat → Int32} (h : ∀ j, P j = false) : sq F K P g = F := by
  funext k j
  simp [sq, h]
theorem sq_e {F : mI} {K : Nat} {P P' : Nat → Bool} {g : Nat → Int32} (h : ∀ j, P' j = P j) : sq F K P g = sq F K P' g := by
  have : P' = P := funext h
  rw [this]
theorem sq_k {F : mI} {K : Nat} {P : Nat → Bool} {g : Nat → Int32} {k j : Nat} (h : ¬ (k = K ∧ P j = true)) : sq F K P g k j = F k j := if_neg h
theorem sq_y {F : mI} {K : Nat} {P : Nat → Bool} {g : Nat → Int32} {j : Nat} (h : P j = true) : sq F K P g K j = g j := if_pos ⟨rfl, h⟩
theorem lpD {σ ρ : Type} (L : Nat → Int32 → σ → Option ρ) (st : Nat → σ) (p : Nat) (r : ρ) (hs : ∀ m k, k < p → L (m + 1) (nI k) (st (k + 1)) = L m (nI k + (-1)) (st k)) (he : ∀ m, L (m + 1) (-1) (st 0) = some r) : ∀ (N k : Nat), k ≤ p → k < N → L N (nI k - 1) (st k) = some r := by
  intro N
  induction N with
  | zero => intro k h1 h2; omega
  | succ m ih =>
    intro k h1 h2
    cases k with
    | zero => exact he m
    | succ k =>
      rw [nI_pred, hs m k (by omega)]
      have := ih k (by omega) (by omega)
      rw [Int32.sub_eq_add_neg] at this
      exact this
/-- a picture of a cane gets a cell -/
theorem e_put5 {b : Nat} {F : mI} {G : mJ} {n : Nat} {sw : Bool} {N : Nat} {i p x y : Nat} {v : Int32} (hi : i < n) (h : F (57 + 3 * i) 1 = nI p) (hp : p ≤ 8) (hx : x < p) (hy : y < p) : fX5_put N (M b F G n sw) (some (b + (57 + 3 * i))) (nI x) (nI y) v = some (F (58 + 3 * i) (8 * y + x), M b (u2 F (58 + 3 * i) (8 * y + x) v) G n sw) := by
  have hP := P_cane (b := b) (G := G) (sw := sw) hi h hp
  unfold fX5_put
  rw [Kc1 hi, e_has hP, bI_t ⟨rg_in (by omega) hx, rg_in (by omega) hy⟩]
  simp only [Option.bind_some]
  rw [if_pos (by decide), Rp_0 hi]
  simp only [Option.bind_some]
  rw [ix8, Lp hi (by omega), Option.bind_some, Tp hi (by omega)]
  rfl
def sh (p T : Nat) (j : Nat) : Bool := decide (9 ≤ j ∧ (j - 9) % 8 < p ∧ (j - 9) / 8 < p ∧ T ≤ j - 9)
def rgP (q i : Nat) (j : Nat) : Bool := decide (j < 64 ∧ ((j / 8 = 0 ∧ j % 8 < i) ∨ (j / 8 = q ∧ j % 8 < i) ∨ (j % 8 = 0 ∧ j / 8 < i) ∨ (j % 8 = q ∧ j / 8 < i)))
section CS
variable {b : Nat} {F : mI} {G : mJ} {n : Nat} {sw : Bool} {N : Nat}
theorem e_ring40 {i p y : Nat} {g x2 : Int32} (hi : i < n) (h : F (57 + 3 * i) 1 = nI (p + 2)) (hp : p ≤ 6) (hy : y < p) (hN : 20 ≤ N) : lX5_addRing_40 N (some (b + (57 + 3 * i))) g x2 (nI y) N (nI p - 1) (M b (sq F (58 + 3 * i) (sh p (8 * (y + 1))) (fun j => F (58 + 3 * i) (j - 9))) G n sw) = some (M b (sq F (58 + 3 * i) (sh p (8 * y)) (fun j => F (58 + 3 * i) (j - 9))) G n sw) := by
  have e := lpD (fun m c s => lX5_addRing_40 N (some (b + (57 + 3 * i))) g x2 (nI y) m c s) (fun k => M b (sq F (58 + 3 * i) (sh p (8 * y + k)) (fun j => F (58 + 3 * i) (j - 9))) G n sw) p (M b (sq F (58 + 3 * i) (sh p (8 * y)) (fun j => F (58 + 3 * i) (j - 9))) G n sw) ?_ ?_ N p (Nat.le_refl _) (by omega)
  · rw [← e, sq_e (P' := sh p (8 * y + p)) (fun j => ?_)]
    unfold sh
    rw [Bool.eq_iff_iff]
    simp only [decide_eq_true_eq]
    omega
  · intro m x hx
    have h' : (sq F (58 + 3 * i) (sh p (8 * y + (x + 1))) (fun j => F (58 + 3 * i) (j - 9))) (57 + 3 * i) 1 = nI (p + 2) := by rw [sq_k (by omega)]; exact h
    have hP := P_cane (b := b) (G := G) (sw := sw) hi h' (by omega)
    have hv : (sq F (58 + 3 * i) (sh p (8 * y + (x + 1))) (fun j => F (58 + 3 * i) (j - 9))) (58 + 3 * i) (8 * y + x) = F (58 + 3 * i) (8 * y + x) := by
      rw [sq_k]
      rintro ⟨-, z⟩
      have := of_decide_eq_true z
      omega
    rw [lX5_addRing_40, if_neg (nI_pos (by omega)), e_at_in hP (show x < p + 2 by omega) (show y < p + 2 by omega), hv]
    simp only [Option.bind_some, nI_1]
    rw [e_put5 hi h' (by omega) (show x + 1 < p + 2 by omega) (show y + 1 < p + 2 by omega)]
    simp only [b2, Option.bind_some, nm]
    rw [sq_u (P' := sh p (8 * y + x)) (fun j => ?_) (by show _ = F (58 + 3 * i) (8 * (y + 1) + (x + 1) - 9); rw [show 8 * (y + 1) + (x + 1) - 9 = 8 * y + x by omega])]
    unfold sh
    rw [Bool.eq_iff_iff]
    simp only [Bool.or_eq_true, decide_eq_true_eq]
    omega
  · intro m
    rw [lX5_addRing_40, if_pos (by decide)]
    rfl
theorem e_ring31 {i p : Nat} {g : Int32} (hi : i < n) (h : F (57 + 3 * i) 1 = nI (p + 2)) (hp : p ≤ 6) (hN : 20 ≤ N) : lX5_addRing_31 N (some (b + (57 + 3 * i))) g (nI p) N (nI p - 1) (M b F G n sw) = some (M b (sq F (58 + 3 * i) (sh p 0) (fun j => F (58 + 3 * i) (j - 9))) G n sw) := by
  have e := lpD (fun m c s => lX5_addRing_31 N (some (b + (57 + 3 * i))) g (nI p) m c s) (fun k => M b (sq F (58 + 3 * i) (sh p (8 * k)) (fun j => F (58 + 3 * i) (j - 9))) G n sw) p (M b (sq F (58 + 3 * i) (sh p 0) (fun j => F (58 + 3 * i) (j - 9))) G n sw) ?_ ?_ N p (Nat.le_refl _) (by omega)
  · rw [sq_0 (P := sh p (8 * p)) (fun j => by unfold sh; rw [decide_eq_false_iff_not]; omega)] at e
    exact e
  · intro m y hy
    rw [lX5_addRing_31, if_neg (nI_pos (by omega))]
    simp only [nm]
    rw [e_ring40 hi h hp hy hN]
    rfl
  · intro m
    rw [lX5_addRing_31, if_pos (by decide)]
theorem e_ring78 {i p : Nat} {g : Int32} (hi : i < n) (h : F (57 + 3 * i) 1 = nI (p + 2)) (hp : p ≤ 6) (hN : 20 ≤ N) : lX5_addRing_78 N (some (b + (57 + 3 * i))) g N 0 (M b F G n sw) = some (M b (sq F (58 + 3 * i) (rgP (p + 1) (p + 2)) (fun _ => g)) G n sw) := by
  have e := lpH (fun m c s => lX5_addRing_78 N (some (b + (57 + 3 * i))) g m c s) (fun k => M b (sq F (58 + 3 * i) (rgP (p + 1) k) (fun _ => g)) G n sw) (p + 2) (M b (sq F (58 + 3 * i) (rgP (p + 1) (p + 2)) (fun _ => g)) G n sw) ?_ ?_ N 0 (by omega) (by omega)
  · rw [sq_0 (P := rgP (p + 1) 0) (fun j => by unfold rgP; rw [decide_eq_false_iff_not]; omega)] at e
    exact e
  · intro m k hk
    have h0 : (sq F (58 + 3 * i) (rgP (p + 1) k) (fun _ => g)) (57 + 3 * i) 1 = nI (p + 2) := by rw [sq_k (by omega)]; exact h
    have hs1 : nI (p + 2) - 1 = nI (p + 1) := nI_pred (p + 1)
    have p1 := e_put5 (N := N) (b := b) (G := G) (sw := sw) (v := g) (y := 0) hi h0 (by omega) hk (by omega)
    have h1 : (u2 (sq F (58 + 3 * i) (rgP (p + 1) k) (fun _ => g)) (58 + 3 * i) (8 * 0 + k) g) (57 + 3 * i) 1 = nI (p + 2) := by rw [u2_ne _ _ _ _ (by omega)]; exact h0
    have p2 := e_put5 (N := N) (b := b) (G := G) (sw := sw) (v := g) (y := p + 1) hi h1 (by omega) hk (by omega)
    have h2 : (u2 (u2 (sq F (58 + 3 * i) (rgP (p + 1) k) (fun _ => g)) (58 + 3 * i) (8 * 0 + k) g) (58 + 3 * i) (8 * (p + 1) + k) g) (57 + 3 * i) 1 = nI (p + 2) := by rw [u2_ne _ _ _ _ (by omega)]; exact h1
    have p3 := e_put5 (N := N) (b := b) (G := G) (sw := sw) (v := g) (x := 0) (y := k) hi h2 (by omega) (by omega) hk
    have h3 : (u2 (u2 (u2 (sq F (58 + 3 * i) (rgP (p + 1) k) (fun _ => g)) (58 + 3 * i) (8 * 0 + k) g) (58 + 3 * i) (8 * (p + 1) + k) g) (58 + 3 * i) (8 * k + 0) g) (57 + 3 * i) 1 = nI (p + 2) := by rw [u2_ne _ _ _ _ (by omega)]; exact h2
    have p4 := e_put5 (N := N) (b := b) (G := G) (sw := sw) (v := g) (x := p + 1) (y := k) hi h3 (by omega) (by omega) hk
    rw [show nI 0 = (0 : Int32) from rfl] at p1 p3
    rw [lX5_addRing_78, Ip_1 hi, h0]
    simp only [Option.bind_some]
    rw [if_neg (nI_ge hk (by omega)), p1]
    simp only [b2, Option.bind_some]
    rw [Ip_1 hi, h1]
    simp only [Option.bind_some]
    rw [hs1, p2]
    simp only [Option.bind_some]
    rw [p3]
    simp only [Option.bind_some]
    rw [Ip_1 hi, h3]
    simp only [Option.bind_some]
    rw [hs1, p4]
    simp only [Option.bind_some, nm, nI_1]
    rw [sq_u (P' := fun j => (rgP (p + 1) k j || decide (j = 8 * 0 + k))) (fun j => rfl) rfl, sq_u (P' := fun j => ((rgP (p + 1) k j || decide (j = 8 * 0 + k)) || decide (j = 8 * (p + 1) + k))) (fun j => rfl) rfl, sq_u (P' := fun j => (((rgP (p + 1) k j || decide (j = 8 * 0 + k)) || decide (j = 8 * (p + 1) + k)) || decide (j = 8 * k + 0))) (fun j => rfl) rfl, sq_u (P' := rgP (p + 1) (k + 1)) (fun j => ?_) rfl]
    unfold rgP
    rw [Bool.eq_iff_iff]
    simp only [Bool.or_eq_true, decide_eq_true_eq]
    omega
  · intro m
    have h0 : (sq F (58 + 3 * i) (rgP (p + 1) (p + 2)) (fun _ => g)) (57 + 3 * i) 1 = nI (p + 2) := by rw [sq_k (by omega)]; exact h
    rw [lX5_addRing_78, Ip_1 hi, h0]
    simp only [Option.bind_some]
    rw [if_pos (nI_le (Nat.le_refl _) (by omega))]
theorem e_ring {i p : Nat} {g : Int32} (hi : i < n) (h : F (57 + 3 * i) 1 = nI p) (hp : p ≤ 6) (hN : 20 ≤ N) : fX5_addRing N (M b F G n sw) (some (b + (57 + 3 * i))) g = some (M b (sq (sq (u2 F (57 + 3 * i) 1 (nI (p + 2))) (58 + 3 * i) (sh p 0) (fun j => F (58 + 3 * i) (j - 9))) (58 + 3 * i) (rgP (p + 1) (p + 2)) (fun _ => g)) G n sw) := by
  unfold fX5_addRing
  rw [Kc1 hi, Ip_1 hi, h]
  simp only [Option.bind_some]
  rw [show nI p + 2 = nI (p + 2) from nI_add p 2, if_pos (show nI (p + 2) ≤ (8 : Int32) from nI_le (b := 8) (by omega) (by decide)), Pp_1 hi]
  simp only [Option.bind_some, nm]
  have e1 := e_ring31 (N := N) (b := b) (F := u2 F (57 + 3 * i) 1 (nI (p + 2))) (G := G) (sw := sw) (g := g) hi (u2_eq _ _ _ _) hp hN
  have e0 : (u2 F (57 + 3 * i) 1 (nI (p + 2))) (58 + 3 * i) = F (58 + 3 * i) := u2_row _ _ _ _ (by omega)
  rw [e0] at e1
  rw [e1]
  simp only [Option.bind_some]
  rw [e_ring78 hi (by rw [sq_k (by omega), u2_eq]) hp hN]
  rfl
end CS
