/-! ===== 380: unlike, plan ===== -/
theorem lpO {ρ : Type} (L : Nat → Int32 → Int32 → Option ρ) (P : Nat → Prop) [DecidablePred P] (p : Nat) (R : Int32 → ρ) (hs : ∀ m i (q : Prop) [Decidable q], i < p → L (m + 1) (bI q) (nI i) = L m (bI (q ∨ P i)) (nI (i + 1))) (he : ∀ m a, L (m + 1) a (nI p) = some (R a)) : ∀ (N : Nat), p < N → L N 0 0 = some (R (bI (¬ ∀ i, i < p → ¬ P i))) := by
  have key : ∀ (N i : Nat) (q : Prop) [Decidable q], i ≤ p → p - i < N → L N (bI q) (nI i) = some (R (bI (q ∨ ¬ ∀ j, j < p → i ≤ j → ¬ P j))) := by
    intro N
    induction N with
    | zero => intro i q _ h1 h2; omega
    | succ m ih =>
      intro i q _ h1 h2
      by_cases hi : i < p
      · rw [hs m i q hi, ih (i + 1) (q ∨ P i) (by omega) (by omega)]
        refine congrArg (fun z => some (R z)) (bI_c ?_)
        constructor
        · rintro ((a | a) | a)
          · exact Or.inl a
          · exact Or.inr (fun z => z i hi (by omega) a)
          · exact Or.inr (fun z => a (fun j hj hij => z j hj (by omega)))
        · rintro (a | a)
          · exact Or.inl (Or.inl a)
          · by_cases c : P i
            · exact Or.inl (Or.inr c)
            · refine Or.inr (fun z => a (fun j hj hij => ?_))
              by_cases e : j = i
              · subst e; exact c
              · exact z j hj (by omega)
      · have e : i = p := by omega
        subst e
        rw [he]
        refine congrArg (fun z => some (R z)) (bI_c ⟨fun z => Or.inl z, ?_⟩)
        rintro (a | a)
        · exact a
        · exact absurd (fun j h1 h2 => by omega) a
  intro N hN
  have k := key N 0 False (by omega) (by omega)
  rw [bI_f (fun z => z), show nI 0 = (0 : Int32) from rfl] at k
  rw [k]
  refine congrArg (fun z => some (R z)) (bI_c ⟨?_, fun z => Or.inr (fun y => z (fun i hi => y i hi (by omega)))⟩)
  rintro (a | a)
  · exact a.elim
  · exact fun y => a (fun i hi _ => y i hi)
theorem mulLt {a n p x : Nat} (h : a < n) (hx : x < p) : a * p + x < n * p := by
  have h1 : (a + 1) * p ≤ n * p := Nat.mul_le_mul_right p h
  rw [Nat.add_mul] at h1
  omega
abbrev ptE (f : Nat → Int32) (n p i j t : Nat) : Prop := ∀ y, y < p → ∀ x, x < p → f (8 * (i / n * p + y) + (i % n * p + x)) = f (8 * (j / n * p + (itr p t x y).2) + (j % n * p + (itr p t x y).1))
def ptB (f : Nat → Int32) (n p i j t : Nat) : Bool := decide (ptE f n p i j t)
theorem e_samePart {N : Nat} {S : pH} {r : Option Nat} {W : Nat} {f : Nat → Int32} (h : Pic S r W f) {n p i j t : Nat} (hn : 1 ≤ n) (hp : 1 ≤ p) (hnp : n * p ≤ W) (hi : i < n * n) (hj : j < n * n) (ht : t < 4) (hN : 20 ≤ N) : fX5_samePart N S r (nI i) (nI j) (nI n) (nI p) (nI t) = some (bI (ptB f n p i j t = true)) := by
  have hW := h.2.2.1
  have hn8 : n ≤ 8 := Nat.le_trans (Nat.le_mul_of_pos_right n hp) (by omega)
  have hp8 : p ≤ 8 := Nat.le_trans (Nat.le_mul_of_pos_left p hn) (by omega)
  have hnn : n * n ≤ 64 := Nat.mul_le_mul hn8 hn8
  have d1 : ∀ k, k < n * n → k / n < n := fun k hk => Nat.div_lt_of_lt_mul hk
  have d2 : ∀ k, k % n < n := fun k => Nat.mod_lt _ hn
  have eI : ∀ y, y < p → lX5_samePart_52 N S r (nI p) (nI t) (nI (i % n * p)) (nI (i / n * p)) (nI (j % n * p)) (nI (j / n * p)) (nI y) N 0 = some (if ∀ x, x < p → f (8 * (i / n * p + y) + (i % n * p + x)) = f (8 * (j / n * p + (itr p t x y).2) + (j % n * p + (itr p t x y).1)) then .inl () else .inr 0) := by
    intro y hy
    refine lpA (fun m c => lX5_samePart_52 N S r (nI p) (nI t) (nI (i % n * p)) (nI (i / n * p)) (nI (j % n * p)) (nI (j / n * p)) (nI y) m c) (fun x => f (8 * (i / n * p + y) + (i % n * p + x)) = f (8 * (j / n * p + (itr p t x y).2) + (j % n * p + (itr p t x y).1))) p _ _ ?_ ?_ ?_ N (by omega)
    · intro m x hx hP
      have et := e_tX N S hp8 hx hy ht
      have hl := itr_lt (p := p) t x y hx hy
      rw [lX5_samePart_52, if_neg (nI_ge hx (by omega)), et.1, et.2]
      simp only [Option.bind_some, nI_add]
      rw [e_at_in h (Nat.lt_of_lt_of_le (mulLt (d2 i) hx) hnp) (Nat.lt_of_lt_of_le (mulLt (d1 i hi) hy) hnp), e_at_in h (Nat.lt_of_lt_of_le (mulLt (d2 j) hl.1) hnp) (Nat.lt_of_lt_of_le (mulLt (d1 j hj) hl.2) hnp)]
      simp only [Option.bind_some, nm, nI_1]
      rw [if_pos hP]
    · intro m x hx hP
      have et := e_tX N S hp8 hx hy ht
      have hl := itr_lt (p := p) t x y hx hy
      rw [lX5_samePart_52, if_neg (nI_ge hx (by omega)), et.1, et.2]
      simp only [Option.bind_some, nI_add]
      rw [e_at_in h (Nat.lt_of_lt_of_le (mulLt (d2 i) hx) hnp) (Nat.lt_of_lt_of_le (mulLt (d1 i hi) hy) hnp), e_at_in h (Nat.lt_of_lt_of_le (mulLt (d2 j) hl.1) hnp) (Nat.lt_of_lt_of_le (mulLt (d1 j hj) hl.2) hnp)]
      simp only [Option.bind_some, nm, nI_1]
      rw [if_neg hP]
    · intro m
      rw [lX5_samePart_52, if_pos (nI_le (Nat.le_refl _) (by omega))]
  have eO : lX5_samePart_42 N S r (nI p) (nI t) (nI (i % n * p)) (nI (i / n * p)) (nI (j % n * p)) (nI (j / n * p)) N 0 = some (if ptE f n p i j t then .inl () else .inr 0) := by
    refine lpA (fun m c => lX5_samePart_42 N S r (nI p) (nI t) (nI (i % n * p)) (nI (i / n * p)) (nI (j % n * p)) (nI (j / n * p)) m c) (fun y => ∀ x, x < p → f (8 * (i / n * p + y) + (i % n * p + x)) = f (8 * (j / n * p + (itr p t x y).2) + (j % n * p + (itr p t x y).1))) p _ _ ?_ ?_ ?_ N (by omega)
    · intro m y hy hP
      rw [lX5_samePart_42, if_neg (nI_ge hy (by omega)), eI y hy, if_pos hP]
      simp only [bS1, Option.bind_some, nm, nI_1]
    · intro m y hy hP
      rw [lX5_samePart_42, if_neg (nI_ge hy (by omega)), eI y hy, if_neg hP]
      simp only [bS1, Option.bind_some]
    · intro m
      rw [lX5_samePart_42, if_pos (nI_le (Nat.le_refl _) (by omega))]
  obtain ⟨fs, h1⟩ := h.1
  unfold fX5_samePart
  rw [chk_of h1, if_pos (show (1 : Int32) ≤ nI n from nI_le (a := 1) hn (by omega))]
  have n0 : ¬ nI n = 0 := nI_ne0 hn (by omega)
  simp only [n0, if_false, nm]
  rw [pk_rem (a := i) (d := n) (by omega) hn (by omega), pk_rem (a := j) (d := n) (by omega) hn (by omega), pk_div (a := i) (d := n) (by omega) hn (by omega), pk_div (a := j) (d := n) (by omega) hn (by omega), pk_mul, pk_mul, pk_mul, pk_mul, eO]
  by_cases q : ptE f n p i j t
  · rw [if_pos q, bI_t (q := ptB f n p i j t = true) (decide_eq_true q)]
    simp only [bS1, Option.bind_some]
  · rw [if_neg q, bI_f (q := ptB f n p i j t = true) (fun z => q (of_decide_eq_true z))]
    simp only [bS1, Option.bind_some]
abbrev anyT (f : Nat → Int32) (n p i j : Nat) : Prop := ¬ ∀ t : Nat, t < 4 → ¬ ptB f n p i j t = true
abbrev metN (f : Nat → Int32) (n p i : Nat) : Prop := ¬ ∀ j, j < i → ¬ anyT f n p i j
def unlN (f : Nat → Int32) (n p : Nat) : Int32 := srI (fun i => bI (¬ metN f n p i)) 0 (n * n)
theorem e_stands {N : Nat} {S : pH} {r : Option Nat} {W : Nat} {f : Nat → Int32} (h : Pic S r W f) {n p i : Nat} (hn : 1 ≤ n) (hp : 1 ≤ p) (hnp : n * p ≤ W) (hi : i < n * n) (hN : 100 ≤ N) : fX5_standsBefore N S r (nI i) (nI n) (nI p) = some (bI (metN f n p i)) := by
  have hW := h.2.2.1
  have hn8 : n ≤ 8 := Nat.le_trans (Nat.le_mul_of_pos_right n hp) (by omega)
  have hnn : n * n ≤ 64 := Nat.mul_le_mul hn8 hn8
  have eI : ∀ j, j < i → lX5_standsBefore_12 N S r (nI i) (nI n) (nI p) (nI j) N 0 = some (if ∀ t : Nat, t < 4 → ¬ ptB f n p i j t = true then .inl () else .inr 1) := by
    intro j hj
    refine lpA (fun m c => lX5_standsBefore_12 N S r (nI i) (nI n) (nI p) (nI j) m c) (fun t => ¬ ptB f n p i j t = true) 4 _ _ ?_ ?_ ?_ N (by omega)
    · intro m t ht hP
      rw [lX5_standsBefore_12, if_neg (show ¬ (4 : Int32) ≤ nI t from nI_ge (b := 4) ht (by decide)), e_samePart h hn hp hnp hi (by omega) ht (by omega)]
      simp only [Option.bind_some, nm, nI_1, bI_0]
      rw [if_pos hP]
    · intro m t ht hP
      rw [lX5_standsBefore_12, if_neg (show ¬ (4 : Int32) ≤ nI t from nI_ge (b := 4) ht (by decide)), e_samePart h hn hp hnp hi (by omega) ht (by omega)]
      simp only [Option.bind_some, nm, nI_1, bI_0]
      rw [if_neg hP]
    · intro m
      rw [lX5_standsBefore_12, if_pos (by decide)]
  have eO : lX5_standsBefore_3 N S r (nI i) (nI n) (nI p) N 0 = some (if ∀ j, j < i → ¬ anyT f n p i j then .inl () else .inr 1) := by
    refine lpA (fun m c => lX5_standsBefore_3 N S r (nI i) (nI n) (nI p) m c) (fun j => ¬ anyT f n p i j) i _ _ ?_ ?_ ?_ N (by omega)
    · intro m y hy hP
      rw [lX5_standsBefore_3, if_neg (nI_ge hy (by omega)), eI y hy, if_pos (Decidable.not_not.mp hP)]
      simp only [bS1, Option.bind_some, nm, nI_1]
    · intro m y hy hP
      rw [lX5_standsBefore_3, if_neg (nI_ge hy (by omega)), eI y hy, if_neg (fun z => hP (fun y => y z))]
      simp only [bS1, Option.bind_some]
    · intro m
      rw [lX5_standsBefore_3, if_pos (nI_le (Nat.le_refl _) (by omega))]
  obtain ⟨fs, h1⟩ := h.1
  unfold fX5_standsBefore
  rw [chk_of h1, eO]
  by_cases q : ∀ j, j < i → ¬ anyT f n p i j
  · rw [if_pos q, bI_f (fun z => z q)]
    simp only [bS1, Option.bind_some]
  · rw [if_neg q, bI_t q]
    simp only [bS1, Option.bind_some]
theorem e_unl8 {N : Nat} {S : pH} {r : Option Nat} {W : Nat} {f : Nat → Int32} (h : Pic S r W f) {p : Nat} (hp : 1 ≤ p) (hpW : p ≤ W) (hN : 100 ≤ N) : fX5_unlikeParts N S r (nI p) = some (unlN f (W / p) p) := by
  have hW := h.2.2.1
  have hn : 1 ≤ W / p := Nat.div_pos hpW hp
  have hnp : W / p * p ≤ W := Nat.div_mul_le_self W p
  have hn8 : W / p ≤ 8 := Nat.le_trans (Nat.div_le_self _ _) hW
  have hnn : W / p * (W / p) ≤ 64 := Nat.mul_le_mul hn8 hn8
  obtain ⟨fs, h1⟩ := h.1
  have e := lpS (fun m a c => lX5_unlikeParts_19 N S r (nI p) (nI (W / p)) m a c) (fun i => bI (¬ metN f (W / p) p i)) (W / p * (W / p)) id ?_ ?_ N 0 0 (by omega) (by omega)
  · rw [show nI 0 = (0 : Int32) from rfl, Int32.zero_add, Nat.sub_zero] at e
    unfold fX5_unlikeParts
    rw [chk_of h1, if_pos (show (1 : Int32) ≤ nI p from nI_le (a := 1) hp (by omega)), h.2.1]
    simp only [Option.bind_some, nm]
    rw [if_neg (nI_ne0 hp (by omega)), pk_div (by omega) hp (by omega), e]
    rfl
  · intro m i a hi
    rw [lX5_unlikeParts_19, pk_mul, if_neg (nI_ge hi (by omega)), e_stands h hn hp hnp hi hN]
    simp only [Option.bind_some, nm, nI_1, bI_0]
    by_cases q : metN f (W / p) p i
    · rw [if_pos (fun z => z q), bI_f (fun z => z q), Int32.add_zero]
    · rw [if_neg (fun z => z q), bI_t q]
  · intro m a
    rw [lX5_unlikeParts_19, pk_mul, if_pos (nI_le (Nat.le_refl _) (by omega))]
    rfl
section UN
variable {b : Nat} {F : mI} {G : mJ} {n : Nat} {sw : Bool} {N : Nat}
theorem e_it49 {S : pH} {r0 : Option Nat} {x2 x3 x4 x6 x7 x8 : Int32} {p t : Nat} (ht : t < 4) : ∀ (m k a c : Nat), t - k < m → k ≤ t → a < p → c < p → lX9_isTurned_49 N S r0 (nI p) x2 x3 x4 (nI t) x6 x7 x8 m (nI a) (nI c) (nI k) = some (nI (itr p (t - k) a c).1, nI (itr p (t - k) a c).2) := by
  intro m
  induction m with
  | zero => intro k a c h1; omega
  | succ m ih =>
    intro k a c h1 h2 ha hc
    rw [lX9_isTurned_49]
    by_cases h : t ≤ k
    · have e : t - k = 0 := by omega
      rw [if_pos (nI_le h (by omega)), e]
      rfl
    · rw [if_neg (nI_ge (by omega) (by omega))]
      simp only [nm]
      rw [sub1 ha, nI_1, ih (k + 1) c (p - 1 - a) (by omega) (by omega) hc (by omega), show t - k = (t - (k + 1)) + 1 by omega]
      rfl
theorem e_turned9 {W k p i j : Nat} {f : Nat → Int32} (hW : W ≤ 8) (h8 : F 32 8 = nI W) (hf : ∀ x y, x < W → y < W → F 39 (1024 + 8 * y + x) = f (8 * y + x)) (hk : 1 ≤ k) (hkW : W / p = k) (hp : 1 ≤ p) (hnp : k * p ≤ W) (hi : i < k * k) (hj : j < k * k) (hN : 20 ≤ N) : fX9_isTurned N (M b F G n sw) (some (b + 32)) (nI p) (nI i) (nI j) = some (bI (anyT f k p i j)) := by
  have hn8 : k ≤ 8 := Nat.le_trans (Nat.le_mul_of_pos_right k hp) (by omega)
  have hp8 : p ≤ 8 := Nat.le_trans (Nat.le_mul_of_pos_left p hk) (by omega)
  have hnn : k * k ≤ 64 := Nat.mul_le_mul hn8 hn8
  have d1 : ∀ i, i < k * k → i / k < k := fun i hk => Nat.div_lt_of_lt_mul hk
  have d2 : ∀ i, i % k < k := fun i => Nat.mod_lt _ hk
  have n0 : ¬ nI k = 0 := nI_ne0 hk (by omega)
  have ea : ∀ X Y, X < W → Y < W → fX9_at N (M b F G n sw) (some (b + 32)) 16 (nI X) (nI Y) = some (f (8 * Y + X)) := by
    intro X Y hX hY
    have e := e_at9 (N := N) (b := b) (F := F) (G := G) (n := n) (sw := sw) (c := 16) (x := X) (y := Y) (by omega)
    rw [show nI 16 = (16 : Int32) from rfl, show 64 * 16 + 8 * Y + X = 1024 + 8 * Y + X by omega, hf X Y hX hY] at e
    exact e
  have eX : ∀ t : Nat, t < 4 → ∀ y, y < p → ∀ (q : Prop) [Decidable q], lX9_isTurned_32 N (M b F G n sw) (some (b + 32)) (nI p) (nI i) (nI j) (nI k) (nI t) (nI y) N (bI q) 0 = some (bI (q ∧ ∀ x, x < p → 0 ≤ x → f (8 * (i / k * p + y) + (i % k * p + x)) = f (8 * (j / k * p + (itr p t x y).2) + (j % k * p + (itr p t x y).1)))) := by
    intro t ht y hy q _
    refine lpB (fun m a c => lX9_isTurned_32 N (M b F G n sw) (some (b + 32)) (nI p) (nI i) (nI j) (nI k) (nI t) (nI y) m a c) (fun x => f (8 * (i / k * p + y) + (i % k * p + x)) = f (8 * (j / k * p + (itr p t x y).2) + (j % k * p + (itr p t x y).1))) 0 p id ?_ ?_ N q (by omega) (by omega)
    · intro m x q _ _ hx
      have hl := itr_lt (p := p) t x y hx hy
      rw [lX9_isTurned_32, if_neg (nI_ge hx (by omega))]
      have e49 := e_it49 (N := N) (S := M b F G n sw) (r0 := some (b + 32)) (x2 := nI i) (x3 := nI j) (x4 := nI k) (x6 := bI q) (x7 := nI y) (x8 := nI x) (p := p) ht N 0 x y (by omega) (by omega) hx hy
      rw [show nI 0 = (0 : Int32) from rfl, Nat.sub_zero] at e49
      rw [e49]
      simp only [b2, Option.bind_some, nm, bI_0, n0, if_false, nI_1]
      by_cases hq : q
      · rw [if_neg (fun z => z hq), pk_rem (a := i) (d := k) (by omega) hk (by omega), pk_rem (a := j) (d := k) (by omega) hk (by omega), pk_div (a := i) (d := k) (by omega) hk (by omega), pk_div (a := j) (d := k) (by omega) hk (by omega), pk_mul, pk_mul, pk_mul, pk_mul, nI_add, nI_add, nI_add, nI_add]
        rw [ea _ _ (Nat.lt_of_lt_of_le (mulLt (d2 i) hx) hnp) (Nat.lt_of_lt_of_le (mulLt (d1 i hi) hy) hnp), ea _ _ (Nat.lt_of_lt_of_le (mulLt (d2 j) hl.1) hnp) (Nat.lt_of_lt_of_le (mulLt (d1 j hj) hl.2) hnp)]
        simp only [Option.bind_some]
        by_cases hv : f (8 * (i / k * p + y) + (i % k * p + x)) = f (8 * (j / k * p + (itr p t x y).2) + (j % k * p + (itr p t x y).1))
        · rw [if_neg (fun z => z hv), bI_t ⟨hq, hv⟩]
        · rw [if_pos hv, bI_f (fun z => hv z.2)]
      · rw [if_pos hq, bI_f (fun z => hq z.1)]
    · intro m a
      rw [lX9_isTurned_32, if_pos (nI_le (Nat.le_refl _) (by omega))]
      rfl
  have eY : ∀ t : Nat, t < 4 → lX9_isTurned_23 N (M b F G n sw) (some (b + 32)) (nI p) (nI i) (nI j) (nI k) (nI t) N 1 0 = some (bI (ptB f k p i j t = true)) := by
    intro t ht
    have e := lpB (fun m a c => lX9_isTurned_23 N (M b F G n sw) (some (b + 32)) (nI p) (nI i) (nI j) (nI k) (nI t) m a c) (fun y => ∀ x, x < p → 0 ≤ x → f (8 * (i / k * p + y) + (i % k * p + x)) = f (8 * (j / k * p + (itr p t x y).2) + (j % k * p + (itr p t x y).1))) 0 p id ?_ ?_ N True (by omega) (by omega)
    · rw [bI_t trivial, show nI 0 = (0 : Int32) from rfl] at e
      rw [e]
      exact congrArg some (bI_c ⟨fun z => decide_eq_true (fun y hy x hx => z.2 y hy (by omega) x hx (by omega)), fun z => ⟨trivial, fun y hy _ x hx _ => (of_decide_eq_true z : ptE f k p i j t) y hy x hx⟩⟩)
    · intro m y q _ _ hy
      rw [lX9_isTurned_23, if_neg (nI_ge hy (by omega)), eX t ht y hy q]
      simp only [Option.bind_some, nm, nI_1]
    · intro m a
      rw [lX9_isTurned_23, if_pos (nI_le (Nat.le_refl _) (by omega))]
      rfl
  have eT : lX9_isTurned_11 N (M b F G n sw) (some (b + 32)) (nI p) (nI i) (nI j) (nI k) N 0 = some (if ∀ t : Nat, t < 4 → ¬ ptB f k p i j t = true then .inl () else .inr 1) := by
    refine lpA (fun m c => lX9_isTurned_11 N (M b F G n sw) (some (b + 32)) (nI p) (nI i) (nI j) (nI k) m c) (fun t => ¬ ptB f k p i j t = true) 4 _ _ ?_ ?_ ?_ N (by omega)
    · intro m t ht hP
      rw [lX9_isTurned_11, if_neg (show ¬ (4 : Int32) ≤ nI t from nI_ge (b := 4) ht (by decide)), eY t ht]
      simp only [Option.bind_some, nm, nI_1, bI_0]
      rw [if_pos hP]
    · intro m t ht hP
      rw [lX9_isTurned_11, if_neg (show ¬ (4 : Int32) ≤ nI t from nI_ge (b := 4) ht (by decide)), eY t ht]
      simp only [Option.bind_some, nm, nI_1, bI_0]
      rw [if_neg hP]
    · intro m
      rw [lX9_isTurned_11, if_pos (by decide)]
  unfold fX9_isTurned
  simp only [Option.bind_some, bI_0, Decidable.not_not, nm, b2, zr, e_isWithin, e_in, e_isGlass8, e_isGlass9, reduceIte, not_false_eq_true, not_true_eq_false, if_true, if_false, and_self, z01, z10, c00, c11, true_and, and_true, R_0_0, R_0_1, R_0_3, R_0_4, R_0_5, R_0_6, R_0_7, R_0_8, R_0_9, R_1_0, R_1_1, R_1_2, R_1_3, R_7_0, R_7_1, R_10_0, R_10_1, R_10_2, R_14_0, R_16_0, R_18_0, R_18_1, R_18_2, R_18_4, R_18_5, R_18_6, R_18_8, R_18_9, R_27_0, R_27_1, R_27_2, R_32_0, R_32_1, R_32_3, R_32_4, R_32_5, R_32_6, R_32_7, R_32_11, R_32_12, R_32_13, R_32_14, R_32_17, R_32_20, R_32_21, R_32_22, R_32_24, R_32_25, R_32_26, R_32_27, R_32_28, R_32_29, R_32_30, R_32_31, I_0_2, I_1_4, I_7_2, I_14_1, I_16_1, I_18_3, I_18_7, I_27_3, I_27_4, I_31_0, I_31_1, I_31_2, I_31_3, I_31_4, I_31_5, I_31_6, I_32_2, I_32_8, I_32_9, I_32_10, I_32_15, I_32_16, I_32_18, I_32_19, J_0_10, J_32_23, P_0_2, P_0_10, P_1_4, P_7_2, P_14_1, P_16_1, P_18_3, P_18_7, P_27_3, P_27_4, P_31_0, P_31_1, P_31_2, P_31_3, P_31_4, P_31_5, P_31_6, P_32_2, P_32_8, P_32_9, P_32_10, P_32_15, P_32_16, P_32_18, P_32_19, P_32_23, K_0, K_1, K_7, K_10, K_14, K_16, K_18, K_27, K_31, K_32, h8]
  rw [if_neg (nI_ne0 hp (by omega)), pk_div (by omega) hp (by omega), hkW, eT]
  by_cases q : ∀ t : Nat, t < 4 → ¬ ptB f k p i j t = true
  · rw [if_pos q, bI_f (fun z => z q)]
    simp only [bS1, Option.bind_some]
  · rw [if_neg q, bI_t q]
    simp only [bS1, Option.bind_some]
theorem e_unl9 {W p : Nat} {f : Nat → Int32} (hW : W ≤ 8) (h8 : F 32 8 = nI W) (hf : ∀ x y, x < W → y < W → F 39 (1024 + 8 * y + x) = f (8 * y + x)) (hp : 1 ≤ p) (hpW : p ≤ W) (hN : 100 ≤ N) : fX9_unlikeOf N (M b F G n sw) (some (b + 32)) (nI p) = some (unlN f (W / p) p) := by
  have hn : 1 ≤ W / p := Nat.div_pos hpW hp
  have hnp : W / p * p ≤ W := Nat.div_mul_le_self W p
  have hn8 : W / p ≤ 8 := Nat.le_trans (Nat.div_le_self _ _) hW
  have hnn : W / p * (W / p) ≤ 64 := Nat.mul_le_mul hn8 hn8
  have eI : ∀ i, i < W / p * (W / p) → ∀ x3, lX9_unlikeOf_26 N (M b F G n sw) (some (b + 32)) (nI p) (nI (W / p)) x3 (nI i) N 0 0 = some (bI (metN f (W / p) p i)) := by
    intro i hi x3
    refine lpO (fun m a c => lX9_unlikeOf_26 N (M b F G n sw) (some (b + 32)) (nI p) (nI (W / p)) x3 (nI i) m a c) (fun j => anyT f (W / p) p i j) i id ?_ ?_ N (by omega)
    · intro m j q _ hj
      rw [lX9_unlikeOf_26, if_neg (nI_ge hj (by omega))]
      simp only [nm, nI_1, bI_0]
      by_cases hq : q
      · rw [if_pos (fun z => z hq), bI_t (Or.inl hq)]
      · rw [if_neg (fun z => z hq), e_turned9 hW h8 hf hn rfl hp hnp hi (show j < W / p * (W / p) by omega) (by omega)]
        simp only [Option.bind_some, bI_0]
        by_cases c : anyT f (W / p) p i j
        · rw [if_neg (fun z => z c), bI_t (Or.inr c)]
        · rw [if_pos c, bI_f (fun z => z.elim hq c)]
    · intro m a
      rw [lX9_unlikeOf_26, if_pos (nI_le (Nat.le_refl _) (by omega))]
      rfl
  have e := lpS (fun m a c => lX9_unlikeOf_12 N (M b F G n sw) (some (b + 32)) (nI p) (nI (W / p)) m a c) (fun i => bI (¬ metN f (W / p) p i)) (W / p * (W / p)) id ?_ ?_ N 0 0 (by omega) (by omega)
  · rw [show nI 0 = (0 : Int32) from rfl, Int32.zero_add, Nat.sub_zero] at e
    unfold fX9_unlikeOf
    simp only [Option.bind_some, bI_0, Decidable.not_not, nm, b2, zr, e_isWithin, e_in, e_isGlass8, e_isGlass9, reduceIte, not_false_eq_true, not_true_eq_false, if_true, if_false, and_self, z01, z10, c00, c11, true_and, and_true, R_0_0, R_0_1, R_0_3, R_0_4, R_0_5, R_0_6, R_0_7, R_0_8, R_0_9, R_1_0, R_1_1, R_1_2, R_1_3, R_7_0, R_7_1, R_10_0, R_10_1, R_10_2, R_14_0, R_16_0, R_18_0, R_18_1, R_18_2, R_18_4, R_18_5, R_18_6, R_18_8, R_18_9, R_27_0, R_27_1, R_27_2, R_32_0, R_32_1, R_32_3, R_32_4, R_32_5, R_32_6, R_32_7, R_32_11, R_32_12, R_32_13, R_32_14, R_32_17, R_32_20, R_32_21, R_32_22, R_32_24, R_32_25, R_32_26, R_32_27, R_32_28, R_32_29, R_32_30, R_32_31, I_0_2, I_1_4, I_7_2, I_14_1, I_16_1, I_18_3, I_18_7, I_27_3, I_27_4, I_31_0, I_31_1, I_31_2, I_31_3, I_31_4, I_31_5, I_31_6, I_32_2, I_32_8, I_32_9, I_32_10, I_32_15, I_32_16, I_32_18, I_32_19, J_0_10, J_32_23, P_0_2, P_0_10, P_1_4, P_7_2, P_14_1, P_16_1, P_18_3, P_18_7, P_27_3, P_27_4, P_31_0, P_31_1, P_31_2, P_31_3, P_31_4, P_31_5, P_31_6, P_32_2, P_32_8, P_32_9, P_32_10, P_32_15, P_32_16, P_32_18, P_32_19, P_32_23, K_0, K_1, K_7, K_10, K_14, K_16, K_18, K_27, K_31, K_32, h8]
    rw [if_neg (nI_ne0 hp (by omega)), pk_div (by omega) hp (by omega), e]
    rfl
  · intro m i a hi
    rw [lX9_unlikeOf_12, pk_mul, if_neg (nI_ge hi (by omega)), eI i hi]
    simp only [Option.bind_some, nm, nI_1, bI_0]
    by_cases q : metN f (W / p) p i
    · rw [if_neg (fun z => z q), bI_f (fun z => z q)]
    · rw [if_pos q, bI_t q]
  · intro m a
    rw [lX9_unlikeOf_12, pk_mul, if_pos (nI_le (Nat.le_refl _) (by omega))]
    rfl
end UN
theorem st_unlike (b : Nat) : St_unlike b (b + 32) (Inv b (b + 32)) := by
  rintro S ⟨-, F, G, n, sw, rfl, hR⟩ a1
  obtain ⟨r1, r2, r3, r4, r5, r6, r7, r8, ⟨q, q0, q1, q2, q3⟩, r10, r11, r12, r13⟩ := id hR
  have hq : q ≤ 8 := by omega
  have hw := P_wish (b := b) (G := G) (n := n) (sw := sw) q1 hq
  have w3 : ∀ x y, x < q → y < q → F 39 (1024 + 8 * y + x) = F 15 (8 * y + x) := fun x y hx hy => (q3 x y hx hy).1.symm
  have go : ∀ p, p = 1 ∨ p = 2 ∨ p = 4 ∨ p = 8 → ∃ v, fX8_unlike NF (M b F G n sw) (some b) (nI p) = some v ∧ fX9_unlike NF (M b F G n sw) (some (b + 32)) (nI p) = some v := by
    intro p hp
    have e8 : fX8_isWishSide NF (M b F G n sw) (nI p) = some 1 := by
      rcases hp with rfl | rfl | rfl | rfl <;> rfl
    have e9 : fX9_isPower NF (M b F G n sw) (nI p) = some 1 := by
      rcases hp with rfl | rfl | rfl | rfl <;> rfl
    by_cases hl : p ≤ q
    · refine ⟨unlN (F 15) (q / p) p, ?_, ?_⟩
      · unfold fX8_unlike
        simp only [Option.bind_some, bI_0, Decidable.not_not, nm, b2, zr, e_isWithin, e_in, e_isGlass8, e_isGlass9, reduceIte, not_false_eq_true, not_true_eq_false, if_true, if_false, and_self, z01, z10, c00, c11, true_and, and_true, R_0_0, R_0_1, R_0_3, R_0_4, R_0_5, R_0_6, R_0_7, R_0_8, R_0_9, R_1_0, R_1_1, R_1_2, R_1_3, R_7_0, R_7_1, R_10_0, R_10_1, R_10_2, R_14_0, R_16_0, R_18_0, R_18_1, R_18_2, R_18_4, R_18_5, R_18_6, R_18_8, R_18_9, R_27_0, R_27_1, R_27_2, R_32_0, R_32_1, R_32_3, R_32_4, R_32_5, R_32_6, R_32_7, R_32_11, R_32_12, R_32_13, R_32_14, R_32_17, R_32_20, R_32_21, R_32_22, R_32_24, R_32_25, R_32_26, R_32_27, R_32_28, R_32_29, R_32_30, R_32_31, I_0_2, I_1_4, I_7_2, I_14_1, I_16_1, I_18_3, I_18_7, I_27_3, I_27_4, I_31_0, I_31_1, I_31_2, I_31_3, I_31_4, I_31_5, I_31_6, I_32_2, I_32_8, I_32_9, I_32_10, I_32_15, I_32_16, I_32_18, I_32_19, J_0_10, J_32_23, P_0_2, P_0_10, P_1_4, P_7_2, P_14_1, P_16_1, P_18_3, P_18_7, P_27_3, P_27_4, P_31_0, P_31_1, P_31_2, P_31_3, P_31_4, P_31_5, P_31_6, P_32_2, P_32_8, P_32_9, P_32_10, P_32_15, P_32_16, P_32_18, P_32_19, P_32_23, K_0, K_1, K_7, K_10, K_14, K_16, K_18, K_27, K_31, K_32, e8, q1, e_unl8 (N := NF) hw (show 1 ≤ p by omega) hl (by decide), eq_true (nI_le hl (show q < 2 ^ 31 by omega))]
      · unfold fX9_unlike
        simp only [Option.bind_some, bI_0, Decidable.not_not, nm, b2, zr, e_isWithin, e_in, e_isGlass8, e_isGlass9, reduceIte, not_false_eq_true, not_true_eq_false, if_true, if_false, and_self, z01, z10, c00, c11, true_and, and_true, R_0_0, R_0_1, R_0_3, R_0_4, R_0_5, R_0_6, R_0_7, R_0_8, R_0_9, R_1_0, R_1_1, R_1_2, R_1_3, R_7_0, R_7_1, R_10_0, R_10_1, R_10_2, R_14_0, R_16_0, R_18_0, R_18_1, R_18_2, R_18_4, R_18_5, R_18_6, R_18_8, R_18_9, R_27_0, R_27_1, R_27_2, R_32_0, R_32_1, R_32_3, R_32_4, R_32_5, R_32_6, R_32_7, R_32_11, R_32_12, R_32_13, R_32_14, R_32_17, R_32_20, R_32_21, R_32_22, R_32_24, R_32_25, R_32_26, R_32_27, R_32_28, R_32_29, R_32_30, R_32_31, I_0_2, I_1_4, I_7_2, I_14_1, I_16_1, I_18_3, I_18_7, I_27_3, I_27_4, I_31_0, I_31_1, I_31_2, I_31_3, I_31_4, I_31_5, I_31_6, I_32_2, I_32_8, I_32_9, I_32_10, I_32_15, I_32_16, I_32_18, I_32_19, J_0_10, J_32_23, P_0_2, P_0_10, P_1_4, P_7_2, P_14_1, P_16_1, P_18_3, P_18_7, P_27_3, P_27_4, P_31_0, P_31_1, P_31_2, P_31_3, P_31_4, P_31_5, P_31_6, P_32_2, P_32_8, P_32_9, P_32_10, P_32_15, P_32_16, P_32_18, P_32_19, P_32_23, K_0, K_1, K_7, K_10, K_14, K_16, K_18, K_27, K_31, K_32, e9, q2, e_unl9 (N := NF) (b := b) (G := G) (n := n) (sw := sw) hq q2 w3 (show 1 ≤ p by omega) hl (by decide), eq_false (nI_nlt hl (show q < 2 ^ 31 by omega))]
    · refine ⟨-1, ?_, ?_⟩
      · unfold fX8_unlike
        simp only [Option.bind_some, bI_0, Decidable.not_not, nm, b2, zr, e_isWithin, e_in, e_isGlass8, e_isGlass9, reduceIte, not_false_eq_true, not_true_eq_false, if_true, if_false, and_self, z01, z10, c00, c11, true_and, and_true, R_0_0, R_0_1, R_0_3, R_0_4, R_0_5, R_0_6, R_0_7, R_0_8, R_0_9, R_1_0, R_1_1, R_1_2, R_1_3, R_7_0, R_7_1, R_10_0, R_10_1, R_10_2, R_14_0, R_16_0, R_18_0, R_18_1, R_18_2, R_18_4, R_18_5, R_18_6, R_18_8, R_18_9, R_27_0, R_27_1, R_27_2, R_32_0, R_32_1, R_32_3, R_32_4, R_32_5, R_32_6, R_32_7, R_32_11, R_32_12, R_32_13, R_32_14, R_32_17, R_32_20, R_32_21, R_32_22, R_32_24, R_32_25, R_32_26, R_32_27, R_32_28, R_32_29, R_32_30, R_32_31, I_0_2, I_1_4, I_7_2, I_14_1, I_16_1, I_18_3, I_18_7, I_27_3, I_27_4, I_31_0, I_31_1, I_31_2, I_31_3, I_31_4, I_31_5, I_31_6, I_32_2, I_32_8, I_32_9, I_32_10, I_32_15, I_32_16, I_32_18, I_32_19, J_0_10, J_32_23, P_0_2, P_0_10, P_1_4, P_7_2, P_14_1, P_16_1, P_18_3, P_18_7, P_27_3, P_27_4, P_31_0, P_31_1, P_31_2, P_31_3, P_31_4, P_31_5, P_31_6, P_32_2, P_32_8, P_32_9, P_32_10, P_32_15, P_32_16, P_32_18, P_32_19, P_32_23, K_0, K_1, K_7, K_10, K_14, K_16, K_18, K_27, K_31, K_32, e8, q1, eq_false (nI_ge (show q < p by omega) (show p < 2 ^ 31 by omega))]
      · unfold fX9_unlike
        simp only [Option.bind_some, bI_0, Decidable.not_not, nm, b2, zr, e_isWithin, e_in, e_isGlass8, e_isGlass9, reduceIte, not_false_eq_true, not_true_eq_false, if_true, if_false, and_self, z01, z10, c00, c11, true_and, and_true, R_0_0, R_0_1, R_0_3, R_0_4, R_0_5, R_0_6, R_0_7, R_0_8, R_0_9, R_1_0, R_1_1, R_1_2, R_1_3, R_7_0, R_7_1, R_10_0, R_10_1, R_10_2, R_14_0, R_16_0, R_18_0, R_18_1, R_18_2, R_18_4, R_18_5, R_18_6, R_18_8, R_18_9, R_27_0, R_27_1, R_27_2, R_32_0, R_32_1, R_32_3, R_32_4, R_32_5, R_32_6, R_32_7, R_32_11, R_32_12, R_32_13, R_32_14, R_32_17, R_32_20, R_32_21, R_32_22, R_32_24, R_32_25, R_32_26, R_32_27, R_32_28, R_32_29, R_32_30, R_32_31, I_0_2, I_1_4, I_7_2, I_14_1, I_16_1, I_18_3, I_18_7, I_27_3, I_27_4, I_31_0, I_31_1, I_31_2, I_31_3, I_31_4, I_31_5, I_31_6, I_32_2, I_32_8, I_32_9, I_32_10, I_32_15, I_32_16, I_32_18, I_32_19, J_0_10, J_32_23, P_0_2, P_0_10, P_1_4, P_7_2, P_14_1, P_16_1, P_18_3, P_18_7, P_27_3, P_27_4, P_31_0, P_31_1, P_31_2, P_31_3, P_31_4, P_31_5, P_31_6, P_32_2, P_32_8, P_32_9, P_32_10, P_32_15, P_32_16, P_32_18, P_32_19, P_32_23, K_0, K_1, K_7, K_10, K_14, K_16, K_18, K_27, K_31, K_32, e9, q2, eq_true (nI_lt (show q < p by omega) (show p < 2 ^ 31 by omega))]
  by_cases k1 : a1 = 1
  · subst k1; exact go 1 (by omega)
  by_cases k2 : a1 = 2
  · subst k2; exact go 2 (by omega)
  by_cases k4 : a1 = 4
  · subst k4; exact go 4 (by omega)
  by_cases k8 : a1 = 8
  · subst k8; exact go 8 (by omega)
  refine ⟨-1, ?_, ?_⟩
  · unfold fX8_unlike fX8_isWishSide
    simp only [Option.bind_some, bI_0, Decidable.not_not, nm, b2, zr, e_isWithin, e_in, e_isGlass8, e_isGlass9, reduceIte, not_false_eq_true, not_true_eq_false, if_true, if_false, and_self, z01, z10, c00, c11, true_and, and_true, R_0_0, R_0_1, R_0_3, R_0_4, R_0_5, R_0_6, R_0_7, R_0_8, R_0_9, R_1_0, R_1_1, R_1_2, R_1_3, R_7_0, R_7_1, R_10_0, R_10_1, R_10_2, R_14_0, R_16_0, R_18_0, R_18_1, R_18_2, R_18_4, R_18_5, R_18_6, R_18_8, R_18_9, R_27_0, R_27_1, R_27_2, R_32_0, R_32_1, R_32_3, R_32_4, R_32_5, R_32_6, R_32_7, R_32_11, R_32_12, R_32_13, R_32_14, R_32_17, R_32_20, R_32_21, R_32_22, R_32_24, R_32_25, R_32_26, R_32_27, R_32_28, R_32_29, R_32_30, R_32_31, I_0_2, I_1_4, I_7_2, I_14_1, I_16_1, I_18_3, I_18_7, I_27_3, I_27_4, I_31_0, I_31_1, I_31_2, I_31_3, I_31_4, I_31_5, I_31_6, I_32_2, I_32_8, I_32_9, I_32_10, I_32_15, I_32_16, I_32_18, I_32_19, J_0_10, J_32_23, P_0_2, P_0_10, P_1_4, P_7_2, P_14_1, P_16_1, P_18_3, P_18_7, P_27_3, P_27_4, P_31_0, P_31_1, P_31_2, P_31_3, P_31_4, P_31_5, P_31_6, P_32_2, P_32_8, P_32_9, P_32_10, P_32_15, P_32_16, P_32_18, P_32_19, P_32_23, K_0, K_1, K_7, K_10, K_14, K_16, K_18, K_27, K_31, K_32, k1, k2, k4, k8]
  · unfold fX9_unlike fX9_isPower
    simp only [Option.bind_some, bI_0, Decidable.not_not, nm, b2, zr, e_isWithin, e_in, e_isGlass8, e_isGlass9, reduceIte, not_false_eq_true, not_true_eq_false, if_true, if_false, and_self, z01, z10, c00, c11, true_and, and_true, R_0_0, R_0_1, R_0_3, R_0_4, R_0_5, R_0_6, R_0_7, R_0_8, R_0_9, R_1_0, R_1_1, R_1_2, R_1_3, R_7_0, R_7_1, R_10_0, R_10_1, R_10_2, R_14_0, R_16_0, R_18_0, R_18_1, R_18_2, R_18_4, R_18_5, R_18_6, R_18_8, R_18_9, R_27_0, R_27_1, R_27_2, R_32_0, R_32_1, R_32_3, R_32_4, R_32_5, R_32_6, R_32_7, R_32_11, R_32_12, R_32_13, R_32_14, R_32_17, R_32_20, R_32_21, R_32_22, R_32_24, R_32_25, R_32_26, R_32_27, R_32_28, R_32_29, R_32_30, R_32_31, I_0_2, I_1_4, I_7_2, I_14_1, I_16_1, I_18_3, I_18_7, I_27_3, I_27_4, I_31_0, I_31_1, I_31_2, I_31_3, I_31_4, I_31_5, I_31_6, I_32_2, I_32_8, I_32_9, I_32_10, I_32_15, I_32_16, I_32_18, I_32_19, J_0_10, J_32_23, P_0_2, P_0_10, P_1_4, P_7_2, P_14_1, P_16_1, P_18_3, P_18_7, P_27_3, P_27_4, P_31_0, P_31_1, P_31_2, P_31_3, P_31_4, P_31_5, P_31_6, P_32_2, P_32_8, P_32_9, P_32_10, P_32_15, P_32_16, P_32_18, P_32_19, P_32_23, K_0, K_1, K_7, K_10, K_14, K_16, K_18, K_27, K_31, K_32, k1, k2, k4, k8]
