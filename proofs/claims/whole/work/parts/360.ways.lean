/-! ===== 360: loops in general; ways; fits, made, whose, two ===== -/
theorem lpS {ρ : Type} (L : Nat → Int32 → Int32 → Option ρ) (f : Nat → Int32) (p : Nat) (R : Int32 → ρ) (hs : ∀ m i a, i < p → L (m + 1) a (nI i) = L m (a + f i) (nI (i + 1))) (he : ∀ m a, L (m + 1) a (nI p) = some (R a)) : ∀ (N i : Nat) (a : Int32), i ≤ p → p - i < N → L N a (nI i) = some (R (a + srI f i (p - i))) := by
  intro N
  induction N with
  | zero => intro i a h1 h2; omega
  | succ m ih =>
    intro i a h1 h2
    by_cases hi : i < p
    · rw [hs m i a hi, ih (i + 1) _ (by omega) (by omega), show p - i = (p - (i + 1)) + 1 by omega]
      simp only [srI, Int32.add_assoc]
    · have e : i = p := by omega
      subst e
      rw [he, Nat.sub_self]
      simp [srI]
theorem lpA {ρ : Type} (L : Nat → Int32 → Option ρ) (P : Nat → Prop) [DecidablePred P] (p : Nat) (R1 R0 : ρ) (hs : ∀ m i, i < p → P i → L (m + 1) (nI i) = L m (nI (i + 1))) (hf : ∀ m i, i < p → ¬ P i → L (m + 1) (nI i) = some R0) (he : ∀ m, L (m + 1) (nI p) = some R1) : ∀ (N : Nat), p < N → L N (nI 0) = some (if ∀ i, i < p → P i then R1 else R0) := by
  have key : ∀ (N i : Nat), i ≤ p → p - i < N → (∀ j, j < i → P j) → L N (nI i) = some (if ∀ i, i < p → P i then R1 else R0) := by
    intro N
    induction N with
    | zero => intro i h1 h2; omega
    | succ m ih =>
      intro i h1 h2 h3
      by_cases hi : i < p
      · by_cases hp : P i
        · rw [hs m i hi hp]
          exact ih (i + 1) (by omega) (by omega) (fun j hj => by
            by_cases e : j = i
            · subst e; exact hp
            · exact h3 j (by omega))
        · rw [hf m i hi hp, if_neg (fun q => hp (q i hi))]
      · have e : i = p := by omega
        subst e
        rw [he, if_pos h3]
  intro N hN
  exact key N 0 (by omega) (by omega) (fun j hj => by omega)
theorem lpB {ρ : Type} (L : Nat → Int32 → Int32 → Option ρ) (P : Nat → Prop) [DecidablePred P] (i0 p : Nat) (R : Int32 → ρ) (hs : ∀ m i (q : Prop) [Decidable q], i0 ≤ i → i < p → L (m + 1) (bI q) (nI i) = L m (bI (q ∧ P i)) (nI (i + 1))) (he : ∀ m a, L (m + 1) a (nI p) = some (R a)) : ∀ (N : Nat) (q : Prop) [Decidable q], i0 ≤ p → p - i0 < N → L N (bI q) (nI i0) = some (R (bI (q ∧ ∀ i, i < p → i0 ≤ i → P i))) := by
  have key : ∀ (N i : Nat) (q : Prop) [Decidable q], i ≤ p → i0 ≤ i → p - i < N → L N (bI q) (nI i) = some (R (bI (q ∧ ∀ j, j < p → i ≤ j → P j))) := by
    intro N
    induction N with
    | zero => intro i q _ h1 h2 h3; omega
    | succ m ih =>
      intro i q _ h1 h2 h3
      by_cases hi : i < p
      · rw [hs m i q h2 hi, ih (i + 1) (q ∧ P i) (by omega) (by omega) (by omega)]
        refine congrArg (fun z => some (R z)) ?_
        have : ((q ∧ P i) ∧ ∀ j, j < p → i + 1 ≤ j → P j) ↔ (q ∧ ∀ j, j < p → i ≤ j → P j) := by
          constructor
          · rintro ⟨⟨a, c⟩, d⟩
            refine ⟨a, fun j hj h => ?_⟩
            by_cases e : j = i
            · subst e; exact c
            · exact d j hj (by omega)
          · rintro ⟨a, d⟩
            exact ⟨⟨a, d i hi (by omega)⟩, fun j hj h => d j hj (by omega)⟩
        unfold bI
        simp only [this]
      · have e : i = p := by omega
        subst e
        rw [he]
        refine congrArg (fun z => some (R z)) ?_
        have : (q ∧ ∀ j, j < i → i ≤ j → P j) ↔ q := ⟨fun h => h.1, fun h => ⟨h, fun j h1 h2 => by omega⟩⟩
        unfold bI
        simp only [this]
  intro N q _ h1 h2
  exact key N i0 q h1 (Nat.le_refl _) h2
def fo {σ : Type} (f : Nat → σ → σ) (i : Nat) : Nat → σ → σ
  | 0, s => s
  | d + 1, s => fo f (i + 1) d (f i s)
theorem lpF {σ ρ : Type} (L : Nat → Nat → σ → Option ρ) (I : Nat → σ → Prop) (f : Nat → σ → σ) (p : Nat) (R : σ → ρ) (hs : ∀ m i s, i < p → I i s → L (m + 1) i s = L m (i + 1) (f i s) ∧ I (i + 1) (f i s)) (he : ∀ m s, I p s → L (m + 1) p s = some (R s)) : ∀ (N i : Nat) (s : σ), i ≤ p → p - i < N → I i s → L N i s = some (R (fo f i (p - i) s)) ∧ I p (fo f i (p - i) s) := by
  intro N
  induction N with
  | zero => intro i s h1 h2; omega
  | succ m ih =>
    intro i s h1 h2 hI
    by_cases hi : i < p
    · obtain ⟨h3, h4⟩ := hs m i s hi hI
      rw [h3, show p - i = (p - (i + 1)) + 1 by omega]
      exact ih (i + 1) (f i s) (by omega) (by omega) h4
    · have e : i = p := by omega
      subst e
      rw [Nat.sub_self]
      exact ⟨he m s hI, hI⟩
/-- a walk by an invariant alone -/
theorem lpI {σ ρ : Type} (L : Nat → σ → Option ρ) (I : Nat → σ → Prop) (p : Nat) (Q : ρ → Prop) (h : ∀ m i s, I i s → i ≤ p → (∃ r, L (m + 1) s = some r ∧ Q r) ∨ (i < p ∧ ∃ s', I (i + 1) s' ∧ L (m + 1) s = L m s')) : ∀ (N i : Nat) (s : σ), I i s → i ≤ p → p - i < N → ∃ r, L N s = some r ∧ Q r := by
  intro N
  induction N with
  | zero => intro i s _ h1 h2; omega
  | succ m ih =>
    intro i s hI h1 h2
    rcases h m i s hI h1 with h3 | ⟨h3, s', h4, h5⟩
    · exact h3
    · rw [h5]
      exact ih (i + 1) s' h4 (by omega) (by omega)
theorem bI_c {q r : Prop} [Decidable q] [Decidable r] (h : q ↔ r) : bI q = bI r := by
  unfold bI
  simp only [h]
def tq (p t : Nat) (mir : Bool) (x y : Nat) : Nat := 8 * (itr p t x y).2 + (if mir then p - 1 - (itr p t x y).1 else (itr p t x y).1)
abbrev okc (w f : Nat → Int32) (p t : Nat) (mir : Bool) (x y : Nat) : Prop := w (8 * y + x) = -9 ∨ w (8 * y + x) = f (tq p t mir x y)
abbrev shw (w f : Nat → Int32) (p t : Nat) (mir : Bool) : Prop := ∀ y, y < p → ∀ x, x < p → okc w f p t mir x y
theorem e_atT {N : Nat} {S : pH} {r : Option Nat} {p : Nat} {f : Nat → Int32} (h : Pic S r p f) {x y t : Nat} (hx : x < p) (hy : y < p) (ht : t < 4) : fX5_atTurned N S r (nI x) (nI y) (nI t) = some (f (tq p t false x y)) := by
  have e := e_tX N S h.2.2.1 hx hy ht
  have hl := itr_lt (p := p) t x y hx hy
  obtain ⟨fs, h1⟩ := h.1
  unfold fX5_atTurned
  simp only [chk_of h1, h.2.1, Option.bind_some, e.1, e.2, e_at_in h hl.1 hl.2]
  rfl
theorem e_atMT {N : Nat} {S : pH} {r : Option Nat} {p : Nat} {f : Nat → Int32} (h : Pic S r p f) {x y t : Nat} (hx : x < p) (hy : y < p) (ht : t < 4) : fX5_atMirroredTurned N S r (nI x) (nI y) (nI t) = some (f (tq p t true x y)) := by
  have e := e_tX N S h.2.2.1 hx hy ht
  have hl := itr_lt (p := p) t x y hx hy
  obtain ⟨fs, h1⟩ := h.1
  unfold fX5_atMirroredTurned
  simp only [chk_of h1, h.2.1, Option.bind_some, e.1, e.2, sub1 hl.1, e_at_in h (show p - 1 - (itr p t x y).1 < p by omega) hl.2]
  rfl
theorem e_showsI {N : Nat} {S : pH} {r r' : Option Nat} {p : Nat} {f w : Nat → Int32} (h : Pic S r p f) (h' : Pic S r' p w) {t y : Nat} (ht : t < 4) (hy : y < p) (mir : Bool) (hN : 20 ≤ N) : lX5_shows_15 N S r r' (nI t) (bI (mir = true)) (nI y) N 0 = some (if ∀ x, x < p → okc w f p t mir x y then .inl () else .inr 0) := by
  have hp := h.2.2.1
  refine lpA (fun m c => lX5_shows_15 N S r r' (nI t) (bI (mir = true)) (nI y) m c) (fun x => okc w f p t mir x y) p _ _ ?_ ?_ ?_ N (by omega)
  · intro m i hi hP
    rw [lX5_shows_15, h.2.1]
    simp only [Option.bind_some]
    rw [if_neg (nI_ge hi (by omega)), e_at_in h' hi hy]
    cases mir
    · simp only [Option.bind_some, nm, bI_0, reduceCtorEq, not_false_eq_true, if_true, e_atT h hi hy ht, nI_1]
      rcases hP with q | q
      · rw [if_pos q]
      · rw [if_pos q, ite_self]
    · simp only [Option.bind_some, nm, bI_0, not_true_eq_false, if_false, e_atMT h hi hy ht, nI_1]
      rcases hP with q | q
      · rw [if_pos q]
      · rw [if_pos q, ite_self]
  · intro m i hi hP
    have q1 : ¬ w (8 * y + i) = -9 := fun q => hP (Or.inl q)
    have q2 : ¬ w (8 * y + i) = f (tq p t mir i y) := fun q => hP (Or.inr q)
    rw [lX5_shows_15, h.2.1]
    simp only [Option.bind_some]
    rw [if_neg (nI_ge hi (by omega)), e_at_in h' hi hy]
    cases mir
    · simp only [Option.bind_some, nm, bI_0, reduceCtorEq, not_false_eq_true, if_true, e_atT h hi hy ht, q1, q2, if_false]
    · simp only [Option.bind_some, nm, bI_0, not_true_eq_false, if_false, e_atMT h hi hy ht, q1, q2]
  · intro m
    rw [lX5_shows_15, h.2.1]
    simp only [Option.bind_some]
    rw [if_pos (nI_le (Nat.le_refl _) (by omega))]
theorem e_shows {N : Nat} {S : pH} {r r' : Option Nat} {p : Nat} {f w : Nat → Int32} (h : Pic S r p f) (h' : Pic S r' p w) {t : Nat} (ht : t < 4) (mir : Bool) (hN : 20 ≤ N) : fX5_shows N S r r' (nI t) (bI (mir = true)) = some (bI (shw w f p t mir)) := by
  have hp := h.2.2.1
  have e : lX5_shows_3 N S r r' (nI t) (bI (mir = true)) N 0 = some (if shw w f p t mir then .inl () else .inr 0) := by
    refine lpA (fun m c => lX5_shows_3 N S r r' (nI t) (bI (mir = true)) m c) (fun y => ∀ x, x < p → okc w f p t mir x y) p _ _ ?_ ?_ ?_ N (by omega)
    · intro m i hi hP
      rw [lX5_shows_3, h.2.1]
      simp only [Option.bind_some]
      rw [if_neg (nI_ge hi (by omega)), e_showsI h h' ht hi mir hN, if_pos hP]
      simp only [bS1, Option.bind_some, nm, nI_1]
    · intro m i hi hP
      rw [lX5_shows_3, h.2.1]
      simp only [Option.bind_some]
      rw [if_neg (nI_ge hi (by omega)), e_showsI h h' ht hi mir hN, if_neg hP]
      simp only [bS1, Option.bind_some]
    · intro m
      rw [lX5_shows_3, h.2.1]
      simp only [Option.bind_some]
      rw [if_pos (nI_le (Nat.le_refl _) (by omega))]
  obtain ⟨fs, h1⟩ := h.1
  unfold fX5_shows
  rw [chk_of h1, e]
  by_cases q : shw w f p t mir
  · rw [if_pos q, bI_t q]
    simp only [bS1, Option.bind_some]
  · rw [if_neg q, bI_f q]
    simp only [bS1, Option.bind_some]
theorem f_b0 : (0 : Int32) = bI (false = true) := rfl
theorem f_b1 : (1 : Int32) = bI (true = true) := rfl
/-- eight truths as a row of bits -/
def w8 (a : Nat → Bool) : Nat → Int32
  | 0 => 0
  | i + 1 => w8 a i ||| (if a i then (1 : Int32) <<< (nI i &&& 31) else 0)
def w4 (a c : Nat → Bool) : Nat → Int32
  | 0 => 0
  | i + 1 => (w4 a c i ||| (if a i then (1 : Int32) <<< (nI i &&& 31) else 0)) ||| (if c i then (1 : Int32) <<< ((4 + nI i) &&& 31) else 0)
theorem w48 (a : Nat → Bool) : w4 a (fun i => a (4 + i)) 4 = w8 a 8 := by
  have h : ∀ a0 a1 a2 a3 a4 a5 a6 a7 : Bool, ((((((((0 ||| (if a0 then (1 : Int32) <<< (nI 0 &&& 31) else 0)) ||| (if a4 then (1 : Int32) <<< ((4 + nI 0) &&& 31) else 0)) ||| (if a1 then (1 : Int32) <<< (nI 1 &&& 31) else 0)) ||| (if a5 then (1 : Int32) <<< ((4 + nI 1) &&& 31) else 0)) ||| (if a2 then (1 : Int32) <<< (nI 2 &&& 31) else 0)) ||| (if a6 then (1 : Int32) <<< ((4 + nI 2) &&& 31) else 0)) ||| (if a3 then (1 : Int32) <<< (nI 3 &&& 31) else 0)) ||| (if a7 then (1 : Int32) <<< ((4 + nI 3) &&& 31) else 0)) = ((((((((0 ||| (if a0 then (1 : Int32) <<< (nI 0 &&& 31) else 0)) ||| (if a1 then (1 : Int32) <<< (nI 1 &&& 31) else 0)) ||| (if a2 then (1 : Int32) <<< (nI 2 &&& 31) else 0)) ||| (if a3 then (1 : Int32) <<< (nI 3 &&& 31) else 0)) ||| (if a4 then (1 : Int32) <<< (nI 4 &&& 31) else 0)) ||| (if a5 then (1 : Int32) <<< (nI 5 &&& 31) else 0)) ||| (if a6 then (1 : Int32) <<< (nI 6 &&& 31) else 0)) ||| (if a7 then (1 : Int32) <<< (nI 7 &&& 31) else 0)) := by decide
  exact h (a 0) (a 1) (a 2) (a 3) (a 4) (a 5) (a 6) (a 7)
/-- the eight ways in which f may show w -/
def wys (w f : Nat → Int32) (p : Nat) (i : Nat) : Bool := decide (shw w f p (i % 4) (decide (3 < i)))
theorem e_ways8 {N : Nat} {S : pH} {r r' : Option Nat} {p p' : Nat} {f w : Nat → Int32} (h : Pic S r p f) (h' : Pic S r' p' w) (hN : 20 ≤ N) : fX5_waysToShow N S r r' = some (if p = p' then w8 (wys w f p) 8 else 0) := by
  have hp := h.2.2.1
  have hp' := h'.2.2.1
  obtain ⟨fs, h1⟩ := h.1
  unfold fX5_waysToShow
  rw [chk_of h1, h.2.1, h'.2.1]
  simp only [Option.bind_some, nI_eq (show p' < 2 ^ 31 by omega) (show p < 2 ^ 31 by omega)]
  by_cases e : p' = p
  · subst e
    rw [if_pos rfl, if_pos rfl]
    have key : ∀ (m i : Nat), i ≤ 4 → 4 - i < m → lX5_waysToShow_17 N S r r' m (w4 (wys w f p') (fun i => wys w f p' (4 + i)) i) (nI i) = some (w4 (wys w f p') (fun i => wys w f p' (4 + i)) 4) := by
      intro m
      induction m with
      | zero => intro i h1 h2; omega
      | succ m ih =>
        intro i h1 h2
        by_cases hi : i < 4
        · have e1 := e_shows h h' hi false hN
          have e2 := e_shows h h' hi true hN
          rw [← f_b0] at e1
          rw [← f_b1] at e2
          have d1 : wys w f p' i = decide (shw w f p' i false) := by
            unfold wys
            rw [show i % 4 = i by omega, show decide (3 < i) = false by simp; omega]
          have d2 : wys w f p' (4 + i) = decide (shw w f p' i true) := by
            unfold wys
            rw [show (4 + i) % 4 = i by omega, show decide (3 < 4 + i) = true by simp; omega]
          rw [bI_c (r := wys w f p' i = true) (by rw [d1, decide_eq_true_iff])] at e1
          rw [bI_c (r := wys w f p' (4 + i) = true) (by rw [d2, decide_eq_true_iff])] at e2
          rw [lX5_waysToShow_17, if_neg (show ¬ (4 : Int32) ≤ nI i from nI_ge (b := 4) hi (by decide)), e1, e2]
          rw [← ih (i + 1) (by omega) (by omega)]
          simp only [Option.bind_some, nm, nI_1, bI_0, w4]
          by_cases z1 : wys w f p' i = true <;> by_cases z2 : wys w f p' (4 + i) = true <;> simp [z1, z2]
        · have e : i = 4 := by omega
          subst e
          rw [lX5_waysToShow_17, if_pos (by decide)]
    have k0 := key N 0 (by omega) (by omega)
    rw [w48, show w4 (wys w f p') (fun i => wys w f p' (4 + i)) 0 = 0 from rfl, show nI 0 = (0 : Int32) from rfl] at k0
    rw [k0]
    rfl
  · rw [if_neg e, if_neg (fun q => e q.symm)]
section WY
variable {b : Nat} {F : mI} {G : mJ} {n : Nat} {sw : Bool} {N : Nat}
theorem e_w9I {c o p x5 y : Nat} {f w : Nat → Int32} (hN : 20 ≤ N) (hc : c ≤ 17) (ho : o ≤ 17) (hp : p ≤ 8) (h5 : x5 < 8) (hy : y < p) (hw : ∀ x y, x < p → y < p → F 39 (64 * o + 8 * y + x) = w (8 * y + x)) (hf : ∀ x y, x < p → y < p → F 39 (64 * c + 8 * y + x) = f (8 * y + x)) (x4 : Int32) (q : Prop) [Decidable q] : lX9_ways_47 N (M b F G n sw) (some (b + 32)) (nI c) (nI o) (nI p) x4 (nI x5) (nI y) N (bI q) 0 = some (bI (q ∧ ∀ x, x < p → okc w f p (x5 % 4) (decide (3 < x5)) x y)) := by
  have e := lpB (fun m a i => lX9_ways_47 N (M b F G n sw) (some (b + 32)) (nI c) (nI o) (nI p) x4 (nI x5) (nI y) m a i) (fun x => okc w f p (x5 % 4) (decide (3 < x5)) x y) 0 p id ?_ ?_ N q (by omega) (by omega)
  · refine e.trans (congrArg some (bI_c ?_))
    exact ⟨fun h => ⟨h.1, fun x hx => h.2 x hx (by omega)⟩, fun h => ⟨h.1, fun x hx _ => h.2 x hx⟩⟩
  · intro m i q _ _ hi
    have es := e_shown (N := N) (b := b) (F := F) (G := G) (n := n) (sw := sw) (c := c) (p := p) (x := i) (y := y) (T := x5) (by omega) hc hp hi hy (by omega)
    have em := e_shownM (N := N) (b := b) (F := F) (G := G) (n := n) (sw := sw) (c := c) (p := p) (x := i) (y := y) (T := x5) (by omega) hc hp hi hy (by omega)
    have hl := itr_lt (p := p) (x5 % 4) i y hi hy
    rw [hf _ _ hl.1 hl.2] at es
    rw [hf _ _ (show p - 1 - (itr p (x5 % 4) i y).1 < p by omega) hl.2] at em
    rw [lX9_ways_47, if_neg (nI_ge hi (by omega)), e_at9 (show 64 * o + 8 * y + i < 1152 by omega), hw i y hi hy]
    simp only [Option.bind_some, nm, nI_1, bI_0]
    by_cases hq : q
    · rw [if_neg (fun z => z hq)]
      by_cases h9 : w (8 * y + i) = -9
      · rw [if_pos h9, bI_t ⟨hq, Or.inl h9⟩]
      · rw [if_neg h9]
        by_cases h3 : x5 ≤ 3
        · rw [if_pos (show nI x5 ≤ (3 : Int32) from nI_le (b := 3) h3 (by decide)), es]
          have hd : decide (3 < x5) = false := by simp; omega
          simp only [Option.bind_some, hd]
          by_cases hv : w (8 * y + i) = f (8 * (itr p (x5 % 4) i y).2 + (itr p (x5 % 4) i y).1)
          · rw [if_neg (fun z => z hv), bI_t ⟨hq, Or.inr hv⟩]
          · rw [if_pos hv, bI_f (fun z => z.2.elim h9 hv)]
        · rw [if_neg (show ¬ nI x5 ≤ (3 : Int32) from nI_ge (a := 3) (by omega) (by omega)), em]
          have hd : decide (3 < x5) = true := by simp; omega
          simp only [Option.bind_some, hd]
          by_cases hv : w (8 * y + i) = f (8 * (itr p (x5 % 4) i y).2 + (p - 1 - (itr p (x5 % 4) i y).1))
          · rw [if_neg (fun z => z hv), bI_t ⟨hq, Or.inr hv⟩]
          · rw [if_pos hv, bI_f (fun z => z.2.elim h9 hv)]
    · rw [if_pos hq, bI_f (fun z => hq z.1)]
  · intro m a
    rw [lX9_ways_47, if_pos (nI_le (Nat.le_refl _) (by omega))]
    rfl
theorem e_w9O {c o p x5 : Nat} {f w : Nat → Int32} (hN : 20 ≤ N) (hc : c ≤ 17) (ho : o ≤ 17) (hp : p ≤ 8) (h5 : x5 < 8) (hw : ∀ x y, x < p → y < p → F 39 (64 * o + 8 * y + x) = w (8 * y + x)) (hf : ∀ x y, x < p → y < p → F 39 (64 * c + 8 * y + x) = f (8 * y + x)) (x4 : Int32) : lX9_ways_33 N (M b F G n sw) (some (b + 32)) (nI c) (nI o) (nI p) x4 (nI x5) N 1 0 = some (bI (wys w f p x5 = true)) := by
  have key : ∀ (m i : Nat) (q : Prop) [Decidable q], i ≤ p → p - i < m → lX9_ways_33 N (M b F G n sw) (some (b + 32)) (nI c) (nI o) (nI p) x4 (nI x5) m (bI q) (nI i) = some (bI (q ∧ ∀ y, y < p → i ≤ y → ∀ x, x < p → okc w f p (x5 % 4) (decide (3 < x5)) x y)) := by
    intro m
    induction m with
    | zero => intro i q _ h1 h2; omega
    | succ m ih =>
      intro i q _ h1 h2
      rw [lX9_ways_33]
      by_cases hi : i < p
      · rw [if_neg (nI_ge hi (by omega))]
        by_cases hq : q
        · rw [if_neg (fun z => (bI_0.mp z) hq), e_w9I hN hc ho hp h5 hi hw hf x4 q]
          simp only [Option.bind_some, nm, nI_1]
          rw [ih (i + 1) _ (by omega) (by omega)]
          refine congrArg some (bI_c ⟨fun z => ⟨hq, fun y hy hiy => ?_⟩, fun z => ⟨⟨hq, z.2 i hi (by omega)⟩, fun y hy hiy => z.2 y hy (by omega)⟩⟩)
          by_cases e : y = i
          · subst e; exact z.1.2
          · exact z.2 y hy (by omega)
        · rw [bI_f hq, if_pos rfl, bI_f (fun z => hq z.1)]
      · rw [if_pos (nI_le (by omega) (by omega))]
        exact congrArg some (bI_c ⟨fun z => ⟨z, fun y hy hiy => by omega⟩, fun z => z.1⟩)
  have k := key N 0 True (by omega) (by omega)
  rw [bI_t trivial, show nI 0 = (0 : Int32) from rfl] at k
  rw [k]
  refine congrArg some (bI_c ?_)
  unfold wys
  rw [decide_eq_true_iff]
  exact ⟨fun z y hy x hx => z.2 y hy (by omega) x hx, fun z => ⟨trivial, fun y hy _ x hx => z y hy x hx⟩⟩
theorem e_w9F {c o p x5 : Nat} (hp : p ≤ 8) (x4 : Int32) (hN : 20 ≤ N) (S : pH) : lX9_ways_33 N S (some (b + 32)) (nI c) (nI o) (nI p) x4 (nI x5) N 0 0 = some 0 := by
  cases N with
  | zero => omega
  | succ m =>
    rw [lX9_ways_33, if_pos rfl, ite_self]
theorem e_ways9 {c o p p' : Nat} {f w : Nat → Int32} (hN : 20 ≤ N) (hc : c < 16) (ho : o ≤ 17) (hp : p ≤ 8) (hp' : p' ≤ 8) (hs : F 35 c = nI p') (hw : ∀ x y, x < p → y < p → F 39 (64 * o + 8 * y + x) = w (8 * y + x)) (hf : ∀ x y, x < p' → y < p' → F 39 (64 * c + 8 * y + x) = f (8 * y + x)) : fX9_ways N (M b F G n sw) (some (b + 32)) (nI c) (nI o) (nI p) = some (if p' = p then w8 (wys w f p') 8 else 0) := by
  have key : ∀ (m i : Nat), i ≤ 8 → 8 - i < m → lX9_ways_6 N (M b F G n sw) (some (b + 32)) (nI c) (nI o) (nI p) m (if p' = p then w8 (wys w f p') i else 0) (nI i) = some (if p' = p then w8 (wys w f p') 8 else 0) := by
    intro m
    induction m with
    | zero => intro i h1 h2; omega
    | succ m ih =>
      intro i h1 h2
      by_cases hi : i < 8
      · rw [lX9_ways_6, if_neg (show ¬ (8 : Int32) ≤ nI i from nI_ge (b := 8) hi (by decide)), R_32_3]
        simp only [Option.bind_some, L_35 hc, hs, nm]
        rw [← ih (i + 1) (by omega) (by omega)]
        by_cases e : p' = p
        · subst e
          rw [if_neg (fun z => z rfl), if_pos rfl, if_pos rfl, e_w9O hN (by omega) ho hp hi hw hf]
          simp only [Option.bind_some, bI_0, nI_1, w8]
          cases wys w f p' i <;> simp
        · rw [if_pos (fun z => e ((nI_eq (by omega) (by omega)).mp z)), e_w9F hp _ hN, if_neg e, if_neg e]
          simp [nI_1]
      · have e : i = 8 := by omega
        subst e
        rw [lX9_ways_6, if_pos (by decide)]
  have k := key N 0 (by omega) (by omega)
  rw [show w8 (wys w f p') 0 = 0 from rfl, ite_self, show nI 0 = (0 : Int32) from rfl] at k
  unfold fX9_ways
  rw [K_32, k]
  rfl
end WY
theorem st_made (b : Nat) : St_made b (b + 32) (Inv b (b + 32)) := by
  rintro S ⟨-, F, G, n, sw, rfl, hR⟩ a1
  obtain ⟨r1, r2, r3, r4, r5, r6, r7, r8, ⟨q, q0, q1, q2, q3⟩, r10, r11, r12, r13⟩ := id hR
  by_cases hx : rg n a1
  · obtain ⟨i, hi, rfl⟩ := (rg_iff (by omega)).mp hx
    obtain ⟨p, l, f, t, ⟨p1, p8, -, -, -⟩, c1, c2, -, -, -, -, -, -, c9⟩ := r8 i hi
    have hq : q ≤ 8 := by omega
    have hp := P_cane (b := b) (G := G) (sw := sw) hi c1 p8
    have hw := P_wish (b := b) (G := G) (n := n) (sw := sw) q1 hq
    refine ⟨if p = q then w8 (wys (F 15) (F (58 + 3 * i)) p) 8 else 0, ?_, ?_⟩
    · unfold fX8_made
      simp only [Option.bind_some, bI_0, Decidable.not_not, nm, b2, zr, e_isWithin, e_in, e_isGlass8, e_isGlass9, reduceIte, not_false_eq_true, not_true_eq_false, if_true, if_false, and_self, z01, z10, c00, c11, true_and, and_true, R_0_0, R_0_1, R_0_3, R_0_4, R_0_5, R_0_6, R_0_7, R_0_8, R_0_9, R_1_0, R_1_1, R_1_2, R_1_3, R_7_0, R_7_1, R_10_0, R_10_1, R_10_2, R_14_0, R_16_0, R_18_0, R_18_1, R_18_2, R_18_4, R_18_5, R_18_6, R_18_8, R_18_9, R_27_0, R_27_1, R_27_2, R_32_0, R_32_1, R_32_3, R_32_4, R_32_5, R_32_6, R_32_7, R_32_11, R_32_12, R_32_13, R_32_14, R_32_17, R_32_20, R_32_21, R_32_22, R_32_24, R_32_25, R_32_26, R_32_27, R_32_28, R_32_29, R_32_30, R_32_31, I_0_2, I_1_4, I_7_2, I_14_1, I_16_1, I_18_3, I_18_7, I_27_3, I_27_4, I_31_0, I_31_1, I_31_2, I_31_3, I_31_4, I_31_5, I_31_6, I_32_2, I_32_8, I_32_9, I_32_10, I_32_15, I_32_16, I_32_18, I_32_19, J_0_10, J_32_23, P_0_2, P_0_10, P_1_4, P_7_2, P_14_1, P_16_1, P_18_3, P_18_7, P_27_3, P_27_4, P_31_0, P_31_1, P_31_2, P_31_3, P_31_4, P_31_5, P_31_6, P_32_2, P_32_8, P_32_9, P_32_10, P_32_15, P_32_16, P_32_18, P_32_19, P_32_23, K_0, K_1, K_7, K_10, K_14, K_16, K_18, K_27, K_31, K_32, e_find_y r1 r2 hi, reduceCtorEq, Rc_0 hi, e_ways8 (N := NF) hp hw (by decide)]
    · unfold fX9_made
      have e := e_ways9 (N := NF) (b := b) (G := G) (n := n) (sw := sw) (c := i) (o := 16) (w := F 15) (f := F (58 + 3 * i)) (by decide) (by omega) (by omega) hq p8 c2 (fun x y hx hy => (q3 x y hx hy).1.symm) (fun x y hx hy => (c9 x y hx hy).1.symm)
      rw [show nI 16 = (16 : Int32) from rfl] at e
      simp only [Option.bind_some, bI_0, Decidable.not_not, nm, b2, zr, e_isWithin, e_in, e_isGlass8, e_isGlass9, reduceIte, not_false_eq_true, not_true_eq_false, if_true, if_false, and_self, z01, z10, c00, c11, true_and, and_true, R_0_0, R_0_1, R_0_3, R_0_4, R_0_5, R_0_6, R_0_7, R_0_8, R_0_9, R_1_0, R_1_1, R_1_2, R_1_3, R_7_0, R_7_1, R_10_0, R_10_1, R_10_2, R_14_0, R_16_0, R_18_0, R_18_1, R_18_2, R_18_4, R_18_5, R_18_6, R_18_8, R_18_9, R_27_0, R_27_1, R_27_2, R_32_0, R_32_1, R_32_3, R_32_4, R_32_5, R_32_6, R_32_7, R_32_11, R_32_12, R_32_13, R_32_14, R_32_17, R_32_20, R_32_21, R_32_22, R_32_24, R_32_25, R_32_26, R_32_27, R_32_28, R_32_29, R_32_30, R_32_31, I_0_2, I_1_4, I_7_2, I_14_1, I_16_1, I_18_3, I_18_7, I_27_3, I_27_4, I_31_0, I_31_1, I_31_2, I_31_3, I_31_4, I_31_5, I_31_6, I_32_2, I_32_8, I_32_9, I_32_10, I_32_15, I_32_16, I_32_18, I_32_19, J_0_10, J_32_23, P_0_2, P_0_10, P_1_4, P_7_2, P_14_1, P_16_1, P_18_3, P_18_7, P_27_3, P_27_4, P_31_0, P_31_1, P_31_2, P_31_3, P_31_4, P_31_5, P_31_6, P_32_2, P_32_8, P_32_9, P_32_10, P_32_15, P_32_16, P_32_18, P_32_19, P_32_23, K_0, K_1, K_7, K_10, K_14, K_16, K_18, K_27, K_31, K_32, e_isCane r1 r3, eq_true hx, q2, e]
  · refine ⟨-1, ?_, ?_⟩
    · unfold fX8_made
      simp only [Option.bind_some, bI_0, Decidable.not_not, nm, b2, zr, e_isWithin, e_in, e_isGlass8, e_isGlass9, reduceIte, not_false_eq_true, not_true_eq_false, if_true, if_false, and_self, z01, z10, c00, c11, true_and, and_true, R_0_0, R_0_1, R_0_3, R_0_4, R_0_5, R_0_6, R_0_7, R_0_8, R_0_9, R_1_0, R_1_1, R_1_2, R_1_3, R_7_0, R_7_1, R_10_0, R_10_1, R_10_2, R_14_0, R_16_0, R_18_0, R_18_1, R_18_2, R_18_4, R_18_5, R_18_6, R_18_8, R_18_9, R_27_0, R_27_1, R_27_2, R_32_0, R_32_1, R_32_3, R_32_4, R_32_5, R_32_6, R_32_7, R_32_11, R_32_12, R_32_13, R_32_14, R_32_17, R_32_20, R_32_21, R_32_22, R_32_24, R_32_25, R_32_26, R_32_27, R_32_28, R_32_29, R_32_30, R_32_31, I_0_2, I_1_4, I_7_2, I_14_1, I_16_1, I_18_3, I_18_7, I_27_3, I_27_4, I_31_0, I_31_1, I_31_2, I_31_3, I_31_4, I_31_5, I_31_6, I_32_2, I_32_8, I_32_9, I_32_10, I_32_15, I_32_16, I_32_18, I_32_19, J_0_10, J_32_23, P_0_2, P_0_10, P_1_4, P_7_2, P_14_1, P_16_1, P_18_3, P_18_7, P_27_3, P_27_4, P_31_0, P_31_1, P_31_2, P_31_3, P_31_4, P_31_5, P_31_6, P_32_2, P_32_8, P_32_9, P_32_10, P_32_15, P_32_16, P_32_18, P_32_19, P_32_23, K_0, K_1, K_7, K_10, K_14, K_16, K_18, K_27, K_31, K_32, e_find_n r1 r2 hx]
    · unfold fX9_made
      simp only [Option.bind_some, bI_0, Decidable.not_not, nm, b2, zr, e_isWithin, e_in, e_isGlass8, e_isGlass9, reduceIte, not_false_eq_true, not_true_eq_false, if_true, if_false, and_self, z01, z10, c00, c11, true_and, and_true, R_0_0, R_0_1, R_0_3, R_0_4, R_0_5, R_0_6, R_0_7, R_0_8, R_0_9, R_1_0, R_1_1, R_1_2, R_1_3, R_7_0, R_7_1, R_10_0, R_10_1, R_10_2, R_14_0, R_16_0, R_18_0, R_18_1, R_18_2, R_18_4, R_18_5, R_18_6, R_18_8, R_18_9, R_27_0, R_27_1, R_27_2, R_32_0, R_32_1, R_32_3, R_32_4, R_32_5, R_32_6, R_32_7, R_32_11, R_32_12, R_32_13, R_32_14, R_32_17, R_32_20, R_32_21, R_32_22, R_32_24, R_32_25, R_32_26, R_32_27, R_32_28, R_32_29, R_32_30, R_32_31, I_0_2, I_1_4, I_7_2, I_14_1, I_16_1, I_18_3, I_18_7, I_27_3, I_27_4, I_31_0, I_31_1, I_31_2, I_31_3, I_31_4, I_31_5, I_31_6, I_32_2, I_32_8, I_32_9, I_32_10, I_32_15, I_32_16, I_32_18, I_32_19, J_0_10, J_32_23, P_0_2, P_0_10, P_1_4, P_7_2, P_14_1, P_16_1, P_18_3, P_18_7, P_27_3, P_27_4, P_31_0, P_31_1, P_31_2, P_31_3, P_31_4, P_31_5, P_31_6, P_32_2, P_32_8, P_32_9, P_32_10, P_32_15, P_32_16, P_32_18, P_32_19, P_32_23, K_0, K_1, K_7, K_10, K_14, K_16, K_18, K_27, K_31, K_32, e_isCane r1 r3, eq_false hx]
theorem st_fits (b : Nat) : St_fits b (b + 32) (Inv b (b + 32)) := by
  rintro S ⟨-, F, G, n, sw, rfl, hR⟩ a1
  obtain ⟨r1, r2, r3, r4, r5, r6, r7, r8, r9, ⟨q, q0, hq, q1, q2, q3⟩, r11, r12, r13⟩ := id hR
  by_cases hx : rg n a1
  · obtain ⟨i, hi, rfl⟩ := (rg_iff (by omega)).mp hx
    obtain ⟨p, l, f, t, ⟨p1, p8, -, -, -⟩, c1, c2, -, -, -, -, -, -, c9⟩ := r8 i hi
    have hp := P_cane (b := b) (G := G) (sw := sw) hi c1 p8
    have hw := P_seen (b := b) (G := G) (n := n) (sw := sw) q1 hq
    refine ⟨if p = q then w8 (wys (F 17) (F (58 + 3 * i)) p) 8 else 0, ?_, ?_⟩
    · unfold fX8_fits
      simp only [Option.bind_some, bI_0, Decidable.not_not, nm, b2, zr, e_isWithin, e_in, e_isGlass8, e_isGlass9, reduceIte, not_false_eq_true, not_true_eq_false, if_true, if_false, and_self, z01, z10, c00, c11, true_and, and_true, R_0_0, R_0_1, R_0_3, R_0_4, R_0_5, R_0_6, R_0_7, R_0_8, R_0_9, R_1_0, R_1_1, R_1_2, R_1_3, R_7_0, R_7_1, R_10_0, R_10_1, R_10_2, R_14_0, R_16_0, R_18_0, R_18_1, R_18_2, R_18_4, R_18_5, R_18_6, R_18_8, R_18_9, R_27_0, R_27_1, R_27_2, R_32_0, R_32_1, R_32_3, R_32_4, R_32_5, R_32_6, R_32_7, R_32_11, R_32_12, R_32_13, R_32_14, R_32_17, R_32_20, R_32_21, R_32_22, R_32_24, R_32_25, R_32_26, R_32_27, R_32_28, R_32_29, R_32_30, R_32_31, I_0_2, I_1_4, I_7_2, I_14_1, I_16_1, I_18_3, I_18_7, I_27_3, I_27_4, I_31_0, I_31_1, I_31_2, I_31_3, I_31_4, I_31_5, I_31_6, I_32_2, I_32_8, I_32_9, I_32_10, I_32_15, I_32_16, I_32_18, I_32_19, J_0_10, J_32_23, P_0_2, P_0_10, P_1_4, P_7_2, P_14_1, P_16_1, P_18_3, P_18_7, P_27_3, P_27_4, P_31_0, P_31_1, P_31_2, P_31_3, P_31_4, P_31_5, P_31_6, P_32_2, P_32_8, P_32_9, P_32_10, P_32_15, P_32_16, P_32_18, P_32_19, P_32_23, K_0, K_1, K_7, K_10, K_14, K_16, K_18, K_27, K_31, K_32, e_find_y r1 r2 hi, reduceCtorEq, Rc_0 hi, e_ways8 (N := NF) hp hw (by decide)]
    · unfold fX9_fits
      have e := e_ways9 (N := NF) (b := b) (G := G) (n := n) (sw := sw) (c := i) (o := 17) (w := F 17) (f := F (58 + 3 * i)) (by decide) (by omega) (by omega) hq p8 c2 (fun x y hx hy => (q3 x y hx hy).1.symm) (fun x y hx hy => (c9 x y hx hy).1.symm)
      rw [show nI 17 = (17 : Int32) from rfl] at e
      simp only [Option.bind_some, bI_0, Decidable.not_not, nm, b2, zr, e_isWithin, e_in, e_isGlass8, e_isGlass9, reduceIte, not_false_eq_true, not_true_eq_false, if_true, if_false, and_self, z01, z10, c00, c11, true_and, and_true, R_0_0, R_0_1, R_0_3, R_0_4, R_0_5, R_0_6, R_0_7, R_0_8, R_0_9, R_1_0, R_1_1, R_1_2, R_1_3, R_7_0, R_7_1, R_10_0, R_10_1, R_10_2, R_14_0, R_16_0, R_18_0, R_18_1, R_18_2, R_18_4, R_18_5, R_18_6, R_18_8, R_18_9, R_27_0, R_27_1, R_27_2, R_32_0, R_32_1, R_32_3, R_32_4, R_32_5, R_32_6, R_32_7, R_32_11, R_32_12, R_32_13, R_32_14, R_32_17, R_32_20, R_32_21, R_32_22, R_32_24, R_32_25, R_32_26, R_32_27, R_32_28, R_32_29, R_32_30, R_32_31, I_0_2, I_1_4, I_7_2, I_14_1, I_16_1, I_18_3, I_18_7, I_27_3, I_27_4, I_31_0, I_31_1, I_31_2, I_31_3, I_31_4, I_31_5, I_31_6, I_32_2, I_32_8, I_32_9, I_32_10, I_32_15, I_32_16, I_32_18, I_32_19, J_0_10, J_32_23, P_0_2, P_0_10, P_1_4, P_7_2, P_14_1, P_16_1, P_18_3, P_18_7, P_27_3, P_27_4, P_31_0, P_31_1, P_31_2, P_31_3, P_31_4, P_31_5, P_31_6, P_32_2, P_32_8, P_32_9, P_32_10, P_32_15, P_32_16, P_32_18, P_32_19, P_32_23, K_0, K_1, K_7, K_10, K_14, K_16, K_18, K_27, K_31, K_32, e_isCane r1 r3, eq_true hx, q2, e]
  · refine ⟨-1, ?_, ?_⟩
    · unfold fX8_fits
      simp only [Option.bind_some, bI_0, Decidable.not_not, nm, b2, zr, e_isWithin, e_in, e_isGlass8, e_isGlass9, reduceIte, not_false_eq_true, not_true_eq_false, if_true, if_false, and_self, z01, z10, c00, c11, true_and, and_true, R_0_0, R_0_1, R_0_3, R_0_4, R_0_5, R_0_6, R_0_7, R_0_8, R_0_9, R_1_0, R_1_1, R_1_2, R_1_3, R_7_0, R_7_1, R_10_0, R_10_1, R_10_2, R_14_0, R_16_0, R_18_0, R_18_1, R_18_2, R_18_4, R_18_5, R_18_6, R_18_8, R_18_9, R_27_0, R_27_1, R_27_2, R_32_0, R_32_1, R_32_3, R_32_4, R_32_5, R_32_6, R_32_7, R_32_11, R_32_12, R_32_13, R_32_14, R_32_17, R_32_20, R_32_21, R_32_22, R_32_24, R_32_25, R_32_26, R_32_27, R_32_28, R_32_29, R_32_30, R_32_31, I_0_2, I_1_4, I_7_2, I_14_1, I_16_1, I_18_3, I_18_7, I_27_3, I_27_4, I_31_0, I_31_1, I_31_2, I_31_3, I_31_4, I_31_5, I_31_6, I_32_2, I_32_8, I_32_9, I_32_10, I_32_15, I_32_16, I_32_18, I_32_19, J_0_10, J_32_23, P_0_2, P_0_10, P_1_4, P_7_2, P_14_1, P_16_1, P_18_3, P_18_7, P_27_3, P_27_4, P_31_0, P_31_1, P_31_2, P_31_3, P_31_4, P_31_5, P_31_6, P_32_2, P_32_8, P_32_9, P_32_10, P_32_15, P_32_16, P_32_18, P_32_19, P_32_23, K_0, K_1, K_7, K_10, K_14, K_16, K_18, K_27, K_31, K_32, e_find_n r1 r2 hx]
    · unfold fX9_fits
      simp only [Option.bind_some, bI_0, Decidable.not_not, nm, b2, zr, e_isWithin, e_in, e_isGlass8, e_isGlass9, reduceIte, not_false_eq_true, not_true_eq_false, if_true, if_false, and_self, z01, z10, c00, c11, true_and, and_true, R_0_0, R_0_1, R_0_3, R_0_4, R_0_5, R_0_6, R_0_7, R_0_8, R_0_9, R_1_0, R_1_1, R_1_2, R_1_3, R_7_0, R_7_1, R_10_0, R_10_1, R_10_2, R_14_0, R_16_0, R_18_0, R_18_1, R_18_2, R_18_4, R_18_5, R_18_6, R_18_8, R_18_9, R_27_0, R_27_1, R_27_2, R_32_0, R_32_1, R_32_3, R_32_4, R_32_5, R_32_6, R_32_7, R_32_11, R_32_12, R_32_13, R_32_14, R_32_17, R_32_20, R_32_21, R_32_22, R_32_24, R_32_25, R_32_26, R_32_27, R_32_28, R_32_29, R_32_30, R_32_31, I_0_2, I_1_4, I_7_2, I_14_1, I_16_1, I_18_3, I_18_7, I_27_3, I_27_4, I_31_0, I_31_1, I_31_2, I_31_3, I_31_4, I_31_5, I_31_6, I_32_2, I_32_8, I_32_9, I_32_10, I_32_15, I_32_16, I_32_18, I_32_19, J_0_10, J_32_23, P_0_2, P_0_10, P_1_4, P_7_2, P_14_1, P_16_1, P_18_3, P_18_7, P_27_3, P_27_4, P_31_0, P_31_1, P_31_2, P_31_3, P_31_4, P_31_5, P_31_6, P_32_2, P_32_8, P_32_9, P_32_10, P_32_15, P_32_16, P_32_18, P_32_19, P_32_23, K_0, K_1, K_7, K_10, K_14, K_16, K_18, K_27, K_31, K_32, e_isCane r1 r3, eq_false hx]
theorem st_whose (b : Nat) : St_whose b (b + 32) (Inv b (b + 32)) := by
  rintro S ⟨-, F, G, n, sw, rfl, hR⟩
  obtain ⟨r1, r2, r3, r4, r5, r6, r7, r8, r9, ⟨q, q0, hq, q1, q2, q3⟩, r11, r12, r13⟩ := id hR
  have key : ∀ (m m' i : Nat) (acc : Int32), i ≤ n → n - i < m → n - i < m' → ∃ v, lX8_whose_4 NF (M b F G n sw) (some b) m acc (nI i) = some v ∧ lX9_whose_4 NF (M b F G n sw) (some (b + 32)) m' acc (nI i) = some v := by
    intro m
    induction m with
    | zero => intro m' i acc h1 h2; omega
    | succ m ih =>
      intro m' i acc h1 h2 h3
      cases m' with
      | zero => omega
      | succ m' =>
        rw [lX8_whose_4, lX9_whose_4]
        simp only [Option.bind_some, bI_0, Decidable.not_not, nm, b2, zr, e_isWithin, e_in, e_isGlass8, e_isGlass9, reduceIte, not_false_eq_true, not_true_eq_false, if_true, if_false, and_self, z01, z10, c00, c11, true_and, and_true, R_0_0, R_0_1, R_0_3, R_0_4, R_0_5, R_0_6, R_0_7, R_0_8, R_0_9, R_1_0, R_1_1, R_1_2, R_1_3, R_7_0, R_7_1, R_10_0, R_10_1, R_10_2, R_14_0, R_16_0, R_18_0, R_18_1, R_18_2, R_18_4, R_18_5, R_18_6, R_18_8, R_18_9, R_27_0, R_27_1, R_27_2, R_32_0, R_32_1, R_32_3, R_32_4, R_32_5, R_32_6, R_32_7, R_32_11, R_32_12, R_32_13, R_32_14, R_32_17, R_32_20, R_32_21, R_32_22, R_32_24, R_32_25, R_32_26, R_32_27, R_32_28, R_32_29, R_32_30, R_32_31, I_0_2, I_1_4, I_7_2, I_14_1, I_16_1, I_18_3, I_18_7, I_27_3, I_27_4, I_31_0, I_31_1, I_31_2, I_31_3, I_31_4, I_31_5, I_31_6, I_32_2, I_32_8, I_32_9, I_32_10, I_32_15, I_32_16, I_32_18, I_32_19, J_0_10, J_32_23, P_0_2, P_0_10, P_1_4, P_7_2, P_14_1, P_16_1, P_18_3, P_18_7, P_27_3, P_27_4, P_31_0, P_31_1, P_31_2, P_31_3, P_31_4, P_31_5, P_31_6, P_32_2, P_32_8, P_32_9, P_32_10, P_32_15, P_32_16, P_32_18, P_32_19, P_32_23, K_0, K_1, K_7, K_10, K_14, K_16, K_18, K_27, K_31, K_32, r2, r3]
        by_cases hi : n ≤ i
        · rw [if_pos (nI_le hi (by omega)), if_pos (nI_le hi (by omega))]
          exact ⟨acc, rfl, rfl⟩
        · have hi' : i < n := by omega
          obtain ⟨p, l, f, t, ⟨p1, p8, -, -, -⟩, c1, c2, -, -, -, -, -, -, c9⟩ := r8 i hi'
          have hp := P_cane (b := b) (G := G) (sw := sw) hi' c1 p8
          have hw := P_seen (b := b) (G := G) (n := n) (sw := sw) q1 hq
          have e := e_ways9 (N := NF) (b := b) (G := G) (n := n) (sw := sw) (c := i) (o := 17) (w := F 17) (f := F (58 + 3 * i)) (by decide) (by omega) (by omega) hq p8 c2 (fun x y hx hy => (q3 x y hx hy).1.symm) (fun x y hx hy => (c9 x y hx hy).1.symm)
          rw [show nI 17 = (17 : Int32) from rfl] at e
          rw [if_neg (nI_ge hi' (by omega)), if_neg (nI_ge hi' (by omega)), e_find_y r1 r2 hi']
          simp only [Option.bind_some, bI_0, Decidable.not_not, nm, b2, zr, e_isWithin, e_in, e_isGlass8, e_isGlass9, reduceIte, not_false_eq_true, not_true_eq_false, if_true, if_false, and_self, z01, z10, c00, c11, true_and, and_true, R_0_0, R_0_1, R_0_3, R_0_4, R_0_5, R_0_6, R_0_7, R_0_8, R_0_9, R_1_0, R_1_1, R_1_2, R_1_3, R_7_0, R_7_1, R_10_0, R_10_1, R_10_2, R_14_0, R_16_0, R_18_0, R_18_1, R_18_2, R_18_4, R_18_5, R_18_6, R_18_8, R_18_9, R_27_0, R_27_1, R_27_2, R_32_0, R_32_1, R_32_3, R_32_4, R_32_5, R_32_6, R_32_7, R_32_11, R_32_12, R_32_13, R_32_14, R_32_17, R_32_20, R_32_21, R_32_22, R_32_24, R_32_25, R_32_26, R_32_27, R_32_28, R_32_29, R_32_30, R_32_31, I_0_2, I_1_4, I_7_2, I_14_1, I_16_1, I_18_3, I_18_7, I_27_3, I_27_4, I_31_0, I_31_1, I_31_2, I_31_3, I_31_4, I_31_5, I_31_6, I_32_2, I_32_8, I_32_9, I_32_10, I_32_15, I_32_16, I_32_18, I_32_19, J_0_10, J_32_23, P_0_2, P_0_10, P_1_4, P_7_2, P_14_1, P_16_1, P_18_3, P_18_7, P_27_3, P_27_4, P_31_0, P_31_1, P_31_2, P_31_3, P_31_4, P_31_5, P_31_6, P_32_2, P_32_8, P_32_9, P_32_10, P_32_15, P_32_16, P_32_18, P_32_19, P_32_23, K_0, K_1, K_7, K_10, K_14, K_16, K_18, K_27, K_31, K_32, q2, e, reduceCtorEq, Rc_0 hi', e_ways8 (N := NF) hp hw (by decide), nI_1]
          by_cases z : (if p = q then w8 (wys (F 17) (F (58 + 3 * i)) p) 8 else 0) = 0
          · rw [if_pos z, if_pos z, Int32.or_zero]
            exact ih m' (i + 1) acc (by omega) (by omega) (by omega)
          · rw [if_neg z, if_neg z]
            exact ih m' (i + 1) _ (by omega) (by omega) (by omega)
  obtain ⟨v, h1, h2⟩ := key NF NF 0 0 (by omega) (by show n - 0 < 5000; omega) (by show n - 0 < 5000; omega)
  rw [show nI 0 = (0 : Int32) from rfl] at h1 h2
  refine ⟨v, ?_, ?_⟩
  · unfold fX8_whose
    simp only [Option.bind_some, bI_0, Decidable.not_not, nm, b2, zr, e_isWithin, e_in, e_isGlass8, e_isGlass9, reduceIte, not_false_eq_true, not_true_eq_false, if_true, if_false, and_self, z01, z10, c00, c11, true_and, and_true, R_0_0, R_0_1, R_0_3, R_0_4, R_0_5, R_0_6, R_0_7, R_0_8, R_0_9, R_1_0, R_1_1, R_1_2, R_1_3, R_7_0, R_7_1, R_10_0, R_10_1, R_10_2, R_14_0, R_16_0, R_18_0, R_18_1, R_18_2, R_18_4, R_18_5, R_18_6, R_18_8, R_18_9, R_27_0, R_27_1, R_27_2, R_32_0, R_32_1, R_32_3, R_32_4, R_32_5, R_32_6, R_32_7, R_32_11, R_32_12, R_32_13, R_32_14, R_32_17, R_32_20, R_32_21, R_32_22, R_32_24, R_32_25, R_32_26, R_32_27, R_32_28, R_32_29, R_32_30, R_32_31, I_0_2, I_1_4, I_7_2, I_14_1, I_16_1, I_18_3, I_18_7, I_27_3, I_27_4, I_31_0, I_31_1, I_31_2, I_31_3, I_31_4, I_31_5, I_31_6, I_32_2, I_32_8, I_32_9, I_32_10, I_32_15, I_32_16, I_32_18, I_32_19, J_0_10, J_32_23, P_0_2, P_0_10, P_1_4, P_7_2, P_14_1, P_16_1, P_18_3, P_18_7, P_27_3, P_27_4, P_31_0, P_31_1, P_31_2, P_31_3, P_31_4, P_31_5, P_31_6, P_32_2, P_32_8, P_32_9, P_32_10, P_32_15, P_32_16, P_32_18, P_32_19, P_32_23, K_0, K_1, K_7, K_10, K_14, K_16, K_18, K_27, K_31, K_32, h1]
  · unfold fX9_whose
    simp only [Option.bind_some, bI_0, Decidable.not_not, nm, b2, zr, e_isWithin, e_in, e_isGlass8, e_isGlass9, reduceIte, not_false_eq_true, not_true_eq_false, if_true, if_false, and_self, z01, z10, c00, c11, true_and, and_true, R_0_0, R_0_1, R_0_3, R_0_4, R_0_5, R_0_6, R_0_7, R_0_8, R_0_9, R_1_0, R_1_1, R_1_2, R_1_3, R_7_0, R_7_1, R_10_0, R_10_1, R_10_2, R_14_0, R_16_0, R_18_0, R_18_1, R_18_2, R_18_4, R_18_5, R_18_6, R_18_8, R_18_9, R_27_0, R_27_1, R_27_2, R_32_0, R_32_1, R_32_3, R_32_4, R_32_5, R_32_6, R_32_7, R_32_11, R_32_12, R_32_13, R_32_14, R_32_17, R_32_20, R_32_21, R_32_22, R_32_24, R_32_25, R_32_26, R_32_27, R_32_28, R_32_29, R_32_30, R_32_31, I_0_2, I_1_4, I_7_2, I_14_1, I_16_1, I_18_3, I_18_7, I_27_3, I_27_4, I_31_0, I_31_1, I_31_2, I_31_3, I_31_4, I_31_5, I_31_6, I_32_2, I_32_8, I_32_9, I_32_10, I_32_15, I_32_16, I_32_18, I_32_19, J_0_10, J_32_23, P_0_2, P_0_10, P_1_4, P_7_2, P_14_1, P_16_1, P_18_3, P_18_7, P_27_3, P_27_4, P_31_0, P_31_1, P_31_2, P_31_3, P_31_4, P_31_5, P_31_6, P_32_2, P_32_8, P_32_9, P_32_10, P_32_15, P_32_16, P_32_18, P_32_19, P_32_23, K_0, K_1, K_7, K_10, K_14, K_16, K_18, K_27, K_31, K_32, h2]
