/-! ===== 300: the invariant ===== -/
def RGl (F : mI) (G : mJ) : Prop := ∀ g, 1 ≤ g → g ≤ 8 → F 2 g = F 33 g ∧ (∃ s, s ≤ 99 ∧ F 33 g = nI s) ∧ F 3 g = F 34 g ∧ (∃ c, 1 ≤ c ∧ c ≤ 9 ∧ F 34 g = nI c) ∧ G 4 g = G 42 g ∧ G 5 g = G 43 g
def RTol (F : mI) : Prop := F 1 4 = F 32 15 ∧ ∃ t, t ≤ 99 ∧ F 32 15 = nI t
def RTab (F : mI) (n : Nat) : Prop := ∃ k, 2 ≤ k ∧ k ≤ 4 ∧ F 7 2 = nI k ∧ F 32 10 = nI k ∧ ∀ i, i < 16 → F 8 i = F 40 i ∧ (F 40 i = -9 ∨ (i % 4 < k ∧ i / 4 < k ∧ (∃ c, c < n ∧ F 40 i = nI c) ∧ F 9 i = F 41 i ∧ ∃ t, t < 4 ∧ F 41 i = nI t))
def RCane (F : mI) (i : Nat) : Prop := ∃ p l f t, (1 ≤ p ∧ p ≤ 8 ∧ l ≤ 9999 ∧ (∃ e, e ≤ 12 ∧ f = 2 ^ e) ∧ t ≤ 40) ∧ F (57 + 3 * i) 1 = nI p ∧ F 35 i = nI p ∧ F (56 + 3 * i) 1 = nI l ∧ F 36 i = nI l ∧ F (56 + 3 * i) 2 = nI f ∧ F 37 i = nI f ∧ F (56 + 3 * i) 3 = nI t ∧ F 38 i = nI t ∧ ∀ x y, x < p → y < p → F (58 + 3 * i) (8 * y + x) = F 39 (64 * i + 8 * y + x) ∧ ∃ g, 1 ≤ g ∧ g ≤ 8 ∧ F 39 (64 * i + 8 * y + x) = nI g
def RWish (F : mI) : Prop := ∃ p, (p = 1 ∨ p = 2 ∨ p = 4 ∨ p = 8) ∧ F 14 1 = nI p ∧ F 32 8 = nI p ∧ ∀ x y, x < p → y < p → F 15 (8 * y + x) = F 39 (1024 + 8 * y + x) ∧ ∃ g, g ≤ 8 ∧ F 39 (1024 + 8 * y + x) = nI g
def RSlice (F : mI) : Prop := ∃ p, 1 ≤ p ∧ p ≤ 8 ∧ F 16 1 = nI p ∧ F 32 9 = nI p ∧ ∀ x y, x < p → y < p → F 17 (8 * y + x) = F 39 (1088 + 8 * y + x) ∧ (F 39 (1088 + 8 * y + x) = -9 ∨ ∃ g, g ≤ 8 ∧ F 39 (1088 + 8 * y + x) = nI g)
def ROrd (F : mI) : Prop := ∃ o, o ≤ 8 ∧ F 27 3 = nI o ∧ F 32 16 = nI o ∧ (∀ i, i < o → F 28 i = F 44 i ∧ ∃ d, 1 ≤ d ∧ d ≤ 99 ∧ F 44 i = nI d) ∧ F 27 4 = F 32 18 ∧ ∃ s, s ≤ 3 ∧ F 32 18 = nI s
/-- how a rod's case goes: rod r, too heavy (hv) or too light, with sets l and r on the scale, as the machine's number -/
def goN (l q r : Nat) (hv : Bool) : Int32 := if l.testBit r then (if hv then 1 else -1) else if q.testBit r then (if hv then -1 else 1) else 0
/-- the cases that are left, by the weighings that the reference holds -/
def lftN (F : mI) (w r : Nat) (hv : Bool) : Prop := ∀ k, k < w → ∃ l q, l < 512 ∧ q < 512 ∧ F 45 k = nI l ∧ F 46 k = nI q ∧ F 47 k = goN l q r hv
def RWgh (F : mI) : Prop := ∃ w hv lt, w ≤ 6 ∧ hv < 512 ∧ lt < 512 ∧ F 31 2 = nI w ∧ F 32 19 = nI w ∧ F 31 0 = nI hv ∧ F 31 1 = nI lt ∧ (∀ k, k < w → ∃ l q, l < 512 ∧ q < 512 ∧ F 45 k = nI l ∧ F 46 k = nI q ∧ (F 47 k = -1 ∨ F 47 k = 0 ∨ F 47 k = 1)) ∧ (∀ r, r < 9 → (hv.testBit r = true ↔ lftN F w r true) ∧ (lt.testBit r = true ↔ lftN F w r false))
def pcN (x : Nat) : Nat := ((List.range 9).filter (fun i => x.testBit i)).length
def wstN (hv lt l r : Nat) : Nat := max (max (pcN (hv &&& l) + pcN (lt &&& r)) (pcN (hv &&& r) + pcN (lt &&& l))) (pcN hv + pcN lt - (pcN (hv &&& l) + pcN (lt &&& r)) - (pcN (hv &&& r) + pcN (lt &&& l)))
def isWN (l r : Nat) : Prop := 1 ≤ l ∧ l < 512 ∧ 1 ≤ r ∧ r < 512 ∧ l &&& r = 0 ∧ pcN l = pcN r
def leW (hv lt l r l' r' : Nat) : Prop := wstN hv lt l r < wstN hv lt l' r' ∨ (wstN hv lt l r = wstN hv lt l' r' ∧ (pcN l < pcN l' ∨ (pcN l = pcN l' ∧ (l < l' ∨ (l = l' ∧ r ≤ r')))))
def bestN (hv lt l r : Nat) : Prop := isWN l r ∧ ∀ l' r', isWN l' r' → leW hv lt l r l' r'
def RBest (F : mI) : Prop := F 31 3 = 0 ∨ (F 31 3 = 1 ∧ ∃ hv lt l r, hv < 512 ∧ lt < 512 ∧ F 31 0 = nI hv ∧ F 31 1 = nI lt ∧ bestN hv lt l r ∧ F 31 4 = nI l ∧ F 31 5 = nI r ∧ F 31 6 = nI (wstN hv lt l r))
theorem RGl_c {F F' : mI} {G G' : mJ} (h : ∀ k j, (k = 2 ∨ k = 3 ∨ k = 33 ∨ k = 34) → F' k j = F k j) (h' : ∀ k j, (k = 4 ∨ k = 5 ∨ k = 42 ∨ k = 43) → G' k j = G k j) (H : RGl F G) : RGl F' G' := by
  intro g h1 h2
  rw [h 2 g (by omega), h 33 g (by omega), h 3 g (by omega), h 34 g (by omega), h' 4 g (by omega), h' 42 g (by omega), h' 5 g (by omega), h' 43 g (by omega)]
  exact H g h1 h2
theorem RTol_c {F F' : mI} (h : ∀ k j, (k = 1 ∨ (k = 32 ∧ j = 15)) → F' k j = F k j) (H : RTol F) : RTol F' := by
  unfold RTol
  rw [h 1 4 (by omega), h 32 15 (by omega)]
  exact H
theorem RTab_c {F F' : mI} {n : Nat} (h : ∀ k j, (k = 7 ∨ k = 8 ∨ k = 9 ∨ k = 40 ∨ k = 41 ∨ (k = 32 ∧ j = 10)) → F' k j = F k j) (H : RTab F n) : RTab F' n := by
  obtain ⟨k, h1, h2, h3, h4, h5⟩ := H
  refine ⟨k, h1, h2, by rw [h 7 2 (by omega)]; exact h3, by rw [h 32 10 (by omega)]; exact h4, fun i hi => ?_⟩
  rw [h 8 i (by omega), h 40 i (by omega), h 9 i (by omega), h 41 i (by omega)]
  exact h5 i hi
theorem RCane_c {F F' : mI} {i : Nat} (h : ∀ k j, (k = 56 + 3 * i ∨ k = 57 + 3 * i ∨ k = 58 + 3 * i ∨ ((k = 35 ∨ k = 36 ∨ k = 37 ∨ k = 38) ∧ j = i) ∨ (k = 39 ∧ 64 * i ≤ j ∧ j < 64 * i + 64)) → F' k j = F k j) (H : RCane F i) : RCane F' i := by
  obtain ⟨p, l, f, t, h0, h1, h2, h3, h4, h5, h6, h7, h8, h9⟩ := H
  refine ⟨p, l, f, t, h0, by rw [h (57 + 3 * i) 1 (by omega)]; exact h1, by rw [h 35 i (by omega)]; exact h2, by rw [h (56 + 3 * i) 1 (by omega)]; exact h3, by rw [h 36 i (by omega)]; exact h4, by rw [h (56 + 3 * i) 2 (by omega)]; exact h5, by rw [h 37 i (by omega)]; exact h6, by rw [h (56 + 3 * i) 3 (by omega)]; exact h7, by rw [h 38 i (by omega)]; exact h8, fun x y hx hy => ?_⟩
  have hp := h0.2.1
  rw [h (58 + 3 * i) _ (by omega), h 39 _ (by omega)]
  exact h9 x y hx hy
theorem RWish_c {F F' : mI} (h : ∀ k j, (k = 14 ∨ k = 15 ∨ (k = 32 ∧ j = 8) ∨ (k = 39 ∧ 1024 ≤ j ∧ j < 1088)) → F' k j = F k j) (H : RWish F) : RWish F' := by
  obtain ⟨p, h0, h1, h2, h3⟩ := H
  refine ⟨p, h0, by rw [h 14 1 (by omega)]; exact h1, by rw [h 32 8 (by omega)]; exact h2, fun x y hx hy => ?_⟩
  rw [h 15 _ (by omega), h 39 _ (by omega)]
  exact h3 x y hx hy
theorem RSlice_c {F F' : mI} (h : ∀ k j, (k = 16 ∨ k = 17 ∨ (k = 32 ∧ j = 9) ∨ (k = 39 ∧ 1088 ≤ j ∧ j < 1152)) → F' k j = F k j) (H : RSlice F) : RSlice F' := by
  obtain ⟨p, h0, h0', h1, h2, h3⟩ := H
  refine ⟨p, h0, h0', by rw [h 16 1 (by omega)]; exact h1, by rw [h 32 9 (by omega)]; exact h2, fun x y hx hy => ?_⟩
  rw [h 17 _ (by omega), h 39 _ (by omega)]
  exact h3 x y hx hy
theorem ROrd_c {F F' : mI} (h : ∀ k j, ((k = 27 ∧ 3 ≤ j) ∨ k = 28 ∨ k = 44 ∨ (k = 32 ∧ (j = 16 ∨ j = 18))) → F' k j = F k j) (H : ROrd F) : ROrd F' := by
  obtain ⟨o, h0, h1, h2, h3, h4⟩ := H
  refine ⟨o, h0, by rw [h 27 3 (by omega)]; exact h1, by rw [h 32 16 (by omega)]; exact h2, fun i hi => ?_, ?_⟩
  · rw [h 28 i (by omega), h 44 i (by omega)]
    exact h3 i hi
  · rw [h 27 4 (by omega), h 32 18 (by omega)]
    exact h4
theorem lft_c {F F' : mI} {w r : Nat} {q : Bool} (h : ∀ k j, (k = 45 ∨ k = 46 ∨ k = 47) → F' k j = F k j) : lftN F' w r q ↔ lftN F w r q := by
  unfold lftN
  constructor
  · intro H k hk
    have := H k hk
    rw [h 45 k (by omega), h 46 k (by omega), h 47 k (by omega)] at this
    exact this
  · intro H k hk
    rw [h 45 k (by omega), h 46 k (by omega), h 47 k (by omega)]
    exact H k hk
theorem RWgh_c {F F' : mI} (h : ∀ k j, ((k = 31 ∧ j < 3) ∨ k = 45 ∨ k = 46 ∨ k = 47 ∨ (k = 32 ∧ j = 19)) → F' k j = F k j) (H : RWgh F) : RWgh F' := by
  obtain ⟨w, hv, lt, h0, h1, h2, h3, h4, h5, h6, h7, h8⟩ := H
  refine ⟨w, hv, lt, h0, h1, h2, by rw [h 31 2 (by omega)]; exact h3, by rw [h 32 19 (by omega)]; exact h4, by rw [h 31 0 (by omega)]; exact h5, by rw [h 31 1 (by omega)]; exact h6, fun k hk => ?_, fun r hr => ?_⟩
  · rw [h 45 k (by omega), h 46 k (by omega), h 47 k (by omega)]
    exact h7 k hk
  · rw [lft_c (fun k j q => h k j (by omega)), lft_c (fun k j q => h k j (by omega))]
    exact h8 r hr
theorem RBest_c {F F' : mI} (h : ∀ k j, k = 31 → F' k j = F k j) (H : RBest F) : RBest F' := by
  unfold RBest
  simp only [h 31 _ rfl]
  exact H
/-- what holds between the class's cells and the reference's -/
def Rel (F : mI) (G : mJ) (n : Nat) : Prop := n ≤ 16 ∧ F 0 2 = nI n ∧ F 32 2 = nI n ∧ G 0 10 = G 32 23 ∧ RGl F G ∧ RTol F ∧ RTab F n ∧ (∀ i, i < n → RCane F i) ∧ RWish F ∧ RSlice F ∧ ROrd F ∧ RWgh F ∧ RBest F
def Inv (b hm : Nat) (S : pH) : Prop := hm = b + 32 ∧ ∃ F G n sw, S = M b F G n sw ∧ Rel F G n
