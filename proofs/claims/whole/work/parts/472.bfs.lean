/-! ===== 472: pairs without a common cell; the search ===== -/
def upA {α : Type} (f : Nat → α) (k : Nat) (v : α) : Nat → α := fun x => if x = k then v else f x
theorem upA_eq {α : Type} (f : Nat → α) (k : Nat) (v : α) : upA f k v k = v := if_pos rfl
theorem upA_ne {α : Type} (f : Nat → α) {k x : Nat} (v : α) (h : x ≠ k) : upA f k v x = f x := if_neg h
theorem nsm {α : Type} {a : α} (h : none = some a) : False := by cases h
theorem smn {α : Type} {a : α} (h : some a = none) : False := by cases h
theorem cn_rm {Q : Nat → Bool} {a : Nat} (ha : Q a = true) : ∀ K, cn Q K = cn (fun x => Q x && decide (x ≠ a)) K + (if a < K then 1 else 0)
  | 0 => by simp [cn]
  | K + 1 => by
    simp only [cn]
    rw [cn_rm ha K]
    by_cases e : K = a
    · subst e
      rw [if_neg (Nat.lt_irrefl _), if_pos ha, if_pos (show K < K + 1 by omega)]
      simp
    · have e1 : (a < K + 1) = (a < K) := propext (by omega)
      simp only [e1, e, ne_eq, not_false_eq_true, decide_true, Bool.and_true]
      omega
theorem cn_ad {P P' : Nat → Bool} {a : Nat} (ha : P a = false) (h : ∀ x, P' x = (P x || decide (x = a))) (K : Nat) (hK : a < K) : cn P' K = cn P K + 1 := by
  have h1 : P' a = true := by rw [h a]; simp
  rw [cn_rm h1 K, if_pos hK]
  refine congrArg (fun z => z + 1) (cn_congr K (fun x _ => ?_))
  rw [h x]
  by_cases e : x = a
  · subst e; simp [ha]
  · simp [e]
theorem cn_miss {P : Nat → Bool} {a : Nat} (ha : P a = false) : ∀ K, cn P K + (if a < K then 1 else 0) ≤ K
  | 0 => by simp [cn]
  | K + 1 => by
    have := cn_miss ha K
    simp only [cn]
    by_cases e : K = a
    · subst e
      rw [if_neg (Nat.lt_irrefl _)] at this
      rw [ha, if_pos (show K < K + 1 by omega)]
      simp
      omega
    · have e1 : (a < K + 1) = (a < K) := propext (by omega)
      simp only [e1]
      split <;> omega
theorem pig (h : Nat → Nat) (K : Nat) : ∀ (k : Nat) (P Q : Nat → Bool), (∀ x, x < k → P x = true → Q (h x) = true ∧ h x < K) → (∀ x y, x < k → y < k → P x = true → P y = true → h x = h y → x = y) → cn P k ≤ cn Q K
  | 0, P, Q, _, _ => Nat.zero_le _
  | k + 1, P, Q, h1, h2 => by
    simp only [cn]
    by_cases hp : P k = true
    · obtain ⟨a1, a2⟩ := h1 k (by omega) hp
      have := pig h K k P (fun x => Q x && decide (x ≠ h k)) (fun x hx px => by
        obtain ⟨c1, c2⟩ := h1 x (by omega) px
        refine ⟨?_, c2⟩
        have : h x ≠ h k := fun e => by
          have := h2 x k (by omega) (by omega) px hp e
          omega
        simp [c1, this]) (fun x y hx hy => h2 x y (by omega) (by omega))
      have e := cn_rm a1 K
      rw [if_pos a2] at e
      rw [if_pos hp]
      omega
    · rw [if_neg hp]
      have := pig h K k P Q (fun x hx => h1 x (by omega)) (fun x y hx hy => h2 x y (by omega) (by omega))
      omega
def Vm (Ed : Nat → Nat → Prop) (ev : Nat → Prop) (mt : Nat → Option Nat) : Prop := (∀ u w, ev u → mt u = some w → mt w = some u ∧ Ed u w) ∧ (∀ w u, ¬ ev w → mt w = some u → mt u = some w ∧ Ed u w)
def Sm (ev : Nat → Prop) (mt : Nat → Option Nat) (u : Nat) : Prop := ev u ∧ mt u ≠ none
def Mb (Ed : Nat → Nat → Prop) (T : Nat → Prop) : Prop := ∃ f : Nat → Nat, (∀ u, T u → Ed u (f u)) ∧ ∀ u u', T u → T u' → f u = f u' → u = u'
def EdOk (Ed : Nat → Nat → Prop) (ev inP : Nat → Prop) : Prop := ∀ u w, Ed u w → ev u ∧ inP u ∧ u < 64 ∧ ¬ ev w ∧ w < 64
def BI (Ed : Nat → Nat → Prop) (ev inP : Nat → Prop) (mt : Nat → Option Nat) (v : Nat) (cb : Nat → Option Nat) (ln : Nat → Nat) (en : Nat) (rk : Nat → Nat) : Prop :=
  (ln 0 = v ∧ 1 ≤ en) ∧ en = 1 + cn (fun w => (cb w).isSome) 64 ∧ (∀ w u, cb w = some u → Ed u w ∧ (u = v ∨ ∃ w', mt u = some w' ∧ cb w' ≠ none ∧ rk w' < rk w) ∧ rk w < en ∧ ∃ k, k < en ∧ mt w = some (ln k)) ∧ (∀ k, 1 ≤ k → k < en → ∃ w', mt (ln k) = some w' ∧ cb w' ≠ none) ∧ ∀ k, k < en → ev (ln k) ∧ inP (ln k) ∧ ln k < 64
section BF
variable {Ed : Nat → Nat → Prop} {ev inP : Nat → Prop} {mt cb : Nat → Option Nat} {v en : Nat} {ln rk : Nat → Nat}
theorem BI_0 (h1 : ev v) (h2 : inP v) (h3 : v < 64) : BI Ed ev inP mt v (fun _ => none) (fun _ => v) 1 (fun _ => 0) := by
  refine ⟨⟨rfl, Nat.le_refl _⟩, ?_, fun w u h => (nsm h).elim, fun k a c => by omega, fun k _ => ⟨h1, h2, h3⟩⟩
  have : ∀ K, cn (fun w : Nat => (none : Option Nat).isSome) K = 0 := by
    intro K
    induction K with
    | zero => rfl
    | succ K ih => rw [cn_s, ih]; rfl
  rw [this]
theorem BI_en (hE : EdOk Ed ev inP) (h : BI Ed ev inP mt v cb ln en rk) {i w : Nat} (hi : i < en) (hEd : Ed (ln i) w) (hc : cb w = none) : en < 64 ∧ en + 1 = 1 + cn (fun x => (upA cb w (some (ln i)) x).isSome) 64 := by
  obtain ⟨⟨h1, h1'⟩, h2, h3, h4, h5⟩ := h
  have hv : ev v ∧ inP v ∧ v < 64 := by rw [← h1]; exact h5 0 (by omega)
  have hw := hE _ _ hEd
  have hvw : v ≠ w := fun e => hw.2.2.2.1 (e ▸ hv.1)
  have e1 := cn_ad (P := fun x => (cb x).isSome) (P' := fun x => (upA cb w (some (ln i)) x).isSome) (a := w) (by simp [hc]) (fun x => by
    by_cases e : x = w
    · subst e; simp [upA]
    · simp [upA, e]) 64 hw.2.2.2.2
  have hvn : (upA cb w (some (ln i)) v).isSome = false := by
    rw [upA_ne _ _ hvw]
    cases hcv : cb v with
    | none => rfl
    | some u => exact absurd hv.1 (hE _ _ (h3 v u hcv).1).2.2.2.1
  have e2 := cn_miss (P := fun x => (upA cb w (some (ln i)) x).isSome) (a := v) hvn 64
  rw [if_pos hv.2.2] at e2
  omega
theorem BI_v (hV : Vm Ed ev mt) (hE : EdOk Ed ev inP) (h : BI Ed ev inP mt v cb ln en rk) {i w u' : Nat} (hi : i < en) (hEd : Ed (ln i) w) (hc : cb w = none) (hm : mt w = some u') : BI Ed ev inP mt v (upA cb w (some (ln i))) (upA ln en u') (en + 1) (upA rk w en) := by
  have hen := (BI_en hE h hi hEd hc).2
  obtain ⟨⟨h1, h1'⟩, h2, h3, h4, h5⟩ := h
  have hw := hE _ _ hEd
  have hu' := hV.2 w u' hw.2.2.2.1 hm
  refine ⟨⟨?_, by omega⟩, hen, ?_, ?_, ?_⟩
  · rw [upA_ne _ _ (by omega)]; exact h1
  · intro x u hx
    by_cases e : x = w
    · subst e
      rw [upA_eq] at hx
      have hu : ln i = u := Option.some.inj hx
      subst hu
      refine ⟨hEd, ?_, by rw [upA_eq]; omega, en, by omega, by rw [upA_eq]; exact hm⟩
      by_cases hi0 : i = 0
      · left; rw [hi0]; exact h1
      · right
        obtain ⟨w', a1, a2⟩ := h4 i (by omega) hi
        have hne : w' ≠ x := fun e => a2 (e ▸ hc)
        cases hcw : cb w' with
        | none => exact absurd hcw a2
        | some u2 =>
          refine ⟨w', a1, by rw [upA_ne _ _ hne, hcw]; exact smn, ?_⟩
          rw [upA_ne _ _ hne, upA_eq]
          exact (h3 w' u2 hcw).2.2.1
    · rw [upA_ne _ _ e] at hx
      obtain ⟨a1, a2, a3, k, a4, a5⟩ := h3 x u hx
      refine ⟨a1, ?_, by rw [upA_ne _ _ e]; omega, k, by omega, by rw [upA_ne _ _ (by omega)]; exact a5⟩
      rcases a2 with a2 | ⟨w', c1, c2, c3⟩
      · exact Or.inl a2
      · have hne : w' ≠ w := fun e => c2 (e ▸ hc)
        exact Or.inr ⟨w', c1, by rw [upA_ne _ _ hne]; exact c2, by rw [upA_ne _ _ hne, upA_ne _ _ e]; exact c3⟩
  · intro k k1 k2
    by_cases e : k = en
    · subst e
      rw [upA_eq]
      exact ⟨w, hu'.1, by rw [upA_eq]; exact smn⟩
    · rw [upA_ne _ _ e]
      obtain ⟨w', c1, c2⟩ := h4 k k1 (by omega)
      have hne : w' ≠ w := fun e => c2 (e ▸ hc)
      exact ⟨w', c1, by rw [upA_ne _ _ hne]; exact c2⟩
  · intro k k2
    by_cases e : k = en
    · subst e
      rw [upA_eq]
      have := hE _ _ hu'.2
      exact ⟨this.1, this.2.1, this.2.2.1⟩
    · rw [upA_ne _ _ e]
      exact h5 k (by omega)
/-- the last cell: its road back -/
def Rd (Ed : Nat → Nat → Prop) (mt : Nat → Option Nat) (v : Nat) (cb : Nat → Option Nat) (rk : Nat → Nat) : Prop := ∀ w u, cb w = some u → Ed u w ∧ (u = v ∨ ∃ w', mt u = some w' ∧ cb w' ≠ none ∧ rk w' < rk w)
theorem BI_l (h : BI Ed ev inP mt v cb ln en rk) {i w : Nat} (hi : i < en) (hEd : Ed (ln i) w) (hc : cb w = none) : Rd Ed mt v (upA cb w (some (ln i))) (upA rk w en) := by
  obtain ⟨⟨h1, h1'⟩, h2, h3, h4, h5⟩ := h
  intro x u hx
  by_cases e : x = w
  · subst e
    rw [upA_eq] at hx
    have hu : ln i = u := Option.some.inj hx
    subst hu
    refine ⟨hEd, ?_⟩
    by_cases hi0 : i = 0
    · left; rw [hi0]; exact h1
    · right
      obtain ⟨w', a1, a2⟩ := h4 i (by omega) hi
      have hne : w' ≠ x := fun e => a2 (e ▸ hc)
      cases hcw : cb w' with
      | none => exact absurd hcw a2
      | some u2 =>
        refine ⟨w', a1, by rw [upA_ne _ _ hne, hcw]; exact smn, ?_⟩
        rw [upA_ne _ _ hne, upA_eq]
        exact (h3 w' u2 hcw).2.2.1
  · rw [upA_ne _ _ e] at hx
    obtain ⟨a1, a2, -, -⟩ := h3 x u hx
    refine ⟨a1, ?_⟩
    rcases a2 with a2 | ⟨w', c1, c2, c3⟩
    · exact Or.inl a2
    · have hne : w' ≠ w := fun e => c2 (e ▸ hc)
      exact Or.inr ⟨w', c1, by rw [upA_ne _ _ hne]; exact c2, by rw [upA_ne _ _ hne, upA_ne _ _ e]; exact c3⟩
def FI (Ed : Nat → Nat → Prop) (ev : Nat → Prop) (mt : Nat → Option Nat) (v : Nat) (cb : Nat → Option Nat) (rk : Nat → Nat) (w : Nat) (cur : Nat → Option Nat) : Prop :=
  (∀ j k, j ≠ w → cur j = some k → k ≠ w ∧ cur k = some j ∧ (ev j → Ed j k) ∧ (¬ ev j → Ed k j)) ∧ (∀ x, cb x ≠ none → rk x < rk w → cur x = mt x ∧ ∀ u, mt x = some u → cur u = some x) ∧ cur v = none ∧ ∀ u, ev u → (cur u ≠ none ↔ mt u ≠ none)
def fl2 (cur : Nat → Option Nat) (w u : Nat) : Nat → Option Nat := fun x => if x = w then some u else if x = u then some w else cur x
theorem FI_0 (hV : Vm Ed ev mt) (hvn : mt v = none) {w : Nat} (hm : mt w = none) (hR : ∀ x, cb x ≠ none → ¬ ev x) : FI Ed ev mt v cb rk w mt := by
  refine ⟨fun j k hj hk => ?_, fun x hx _ => ⟨rfl, fun u hu => (hV.2 x u (hR x hx) hu).1⟩, hvn, fun u _ => Iff.rfl⟩
  by_cases e : ev j
  · obtain ⟨a1, a2⟩ := hV.1 j k e hk
    exact ⟨fun z => by rw [z, hm] at a1; exact (nsm a1), a1, fun _ => a2, fun z => absurd e z⟩
  · obtain ⟨a1, a2⟩ := hV.2 j k e hk
    exact ⟨fun z => by rw [z, hm] at a1; exact (nsm a1), a1, fun z => absurd z e, fun _ => a2⟩
theorem FI_end (hE : EdOk Ed ev inP) {cur : Nat → Option Nat} {w : Nat} (h : FI Ed ev mt v cb rk w cur) (hEd : Ed v w) : Vm Ed ev (fl2 cur w v) ∧ ∀ z, Sm ev (fl2 cur w v) z ↔ (Sm ev mt z ∨ z = v) := by
  obtain ⟨h1, h2, h3, h4⟩ := h
  have hw := hE _ _ hEd
  have hvw : v ≠ w := fun e => hw.2.2.2.1 (e ▸ hw.1)
  have base : ∀ j k, j ≠ w → j ≠ v → fl2 cur w v j = some k → fl2 cur w v k = some j ∧ (ev j → Ed j k) ∧ (¬ ev j → Ed k j) := by
    intro j k a1 a2 hk
    unfold fl2 at hk
    rw [if_neg a1, if_neg a2] at hk
    obtain ⟨b1, b2, b3, b4⟩ := h1 j k a1 hk
    have b5 : k ≠ v := fun e => by rw [e, h3] at b2; exact (nsm b2)
    refine ⟨?_, b3, b4⟩
    unfold fl2
    rw [if_neg b1, if_neg b5]
    exact b2
  have fw : fl2 cur w v w = some v := by unfold fl2; rw [if_pos rfl]
  have fv : fl2 cur w v v = some w := by unfold fl2; rw [if_neg hvw, if_pos rfl]
  refine ⟨⟨fun u k hu hk => ?_, fun k u hk hu => ?_⟩, fun z => ?_⟩
  · by_cases e : u = v
    · subst e
      rw [fv] at hk
      have := Option.some.inj hk
      subst this
      exact ⟨fw, hEd⟩
    · have e2 : u ≠ w := fun z => hw.2.2.2.1 (z ▸ hu)
      obtain ⟨b1, b2, -⟩ := base u k e2 e hk
      exact ⟨b1, b2 hu⟩
  · by_cases e : k = w
    · subst e
      rw [fw] at hu
      have := Option.some.inj hu
      subst this
      exact ⟨fv, hEd⟩
    · have e2 : k ≠ v := fun z => hk (z ▸ hw.1)
      obtain ⟨b1, -, b2⟩ := base k u e e2 hu
      exact ⟨b1, b2 hk⟩
  · unfold Sm
    by_cases e : z = v
    · subst e
      rw [fv]
      exact ⟨fun _ => Or.inr rfl, fun _ => ⟨hw.1, smn⟩⟩
    · constructor
      · rintro ⟨a1, a2⟩
        have e2 : z ≠ w := fun q => hw.2.2.2.1 (q ▸ a1)
        unfold fl2 at a2
        rw [if_neg e2, if_neg e] at a2
        exact Or.inl ⟨a1, (h4 z a1).mp a2⟩
      · rintro (⟨a1, a2⟩ | a1)
        · have e2 : z ≠ w := fun q => hw.2.2.2.1 (q ▸ a1)
          refine ⟨a1, ?_⟩
          unfold fl2
          rw [if_neg e2, if_neg e]
          exact (h4 z a1).mpr a2
        · exact absurd a1 e
theorem FI_s (hev : ev v) (hV : Vm Ed ev mt) (hE : EdOk Ed ev inP) (hRd : Rd Ed mt v cb rk) {cur : Nat → Option Nat} {w u : Nat} (h : FI Ed ev mt v cb rk w cur) (hc : cb w = some u) (huv : u ≠ v) : ∃ w', cur u = some w' ∧ cb w' ≠ none ∧ rk w' < rk w ∧ FI Ed ev mt v cb rk w' (fl2 cur w u) := by
  obtain ⟨h1, h2, h3, h4⟩ := h
  obtain ⟨hEd, hr⟩ := hRd w u hc
  rcases hr with hr | ⟨w', m1, m2, m3⟩
  · exact absurd hr huv
  have hw := hE _ _ hEd
  have e1 := hV.1 u w' hw.1 m1
  have hw' := hE _ _ e1.2
  obtain ⟨a1, a2⟩ := h2 w' m2 m3
  have cu : cur u = some w' := a2 u e1.1
  have huw : u ≠ w := fun e => hw.2.2.2.1 (e ▸ hw.1)
  have hww : w' ≠ w := fun e => by rw [e] at m3; omega
  have huw' : u ≠ w' := fun e => hw'.2.2.2.1 (e ▸ hw.1)
  have fw : fl2 cur w u w = some u := by unfold fl2; rw [if_pos rfl]
  have fu : fl2 cur w u u = some w := by unfold fl2; rw [if_neg huw, if_pos rfl]
  have fo : ∀ x, x ≠ w → x ≠ u → fl2 cur w u x = cur x := fun x z1 z2 => by unfold fl2; rw [if_neg z1, if_neg z2]
  refine ⟨w', cu, m2, m3, ?_, ?_, ?_, ?_⟩
  · intro j k hj hk
    by_cases e : j = w
    · subst e
      rw [fw] at hk
      have := Option.some.inj hk
      subst this
      exact ⟨huw', fu, fun z => absurd z hw.2.2.2.1, fun _ => hEd⟩
    · by_cases e2 : j = u
      · subst e2
        rw [fu] at hk
        have := Option.some.inj hk
        subst this
        exact ⟨fun z => hww z.symm, fw, fun _ => hEd, fun z => absurd hw.1 z⟩
      · rw [fo j e e2] at hk
        obtain ⟨b1, b2, b3, b4⟩ := h1 j k e hk
        have b5 : k ≠ u := fun z => by
          rw [z, cu] at b2
          exact hj (Option.some.inj b2).symm
        refine ⟨fun z => ?_, ?_, b3, b4⟩
        · rw [z, a1, e1.1] at b2
          exact e2 (Option.some.inj b2).symm
        · rw [fo k b1 b5]
          exact b2
  · intro x hx hrx
    have hxu : x ≠ u := fun z => by
      cases hcx : cb x with
      | none => exact hx hcx
      | some q => exact (hE _ _ (hRd x q hcx).1).2.2.2.1 (z ▸ hw.1)
    have hxw : x ≠ w := fun z => by rw [z] at hrx; omega
    obtain ⟨c1, c2⟩ := h2 x hx (by omega)
    refine ⟨by rw [fo x hxw hxu]; exact c1, fun u2 hu2 => ?_⟩
    have hx' : ¬ ev x := by
      cases hcx : cb x with
      | none => exact absurd hcx hx
      | some q => exact (hE _ _ (hRd x q hcx).1).2.2.2.1
    obtain ⟨d1, d2⟩ := hV.2 x u2 hx' hu2
    have g1 : u2 ≠ u := fun z => by
      rw [z, m1] at d1
      have := Option.some.inj d1
      rw [this] at hrx
      omega
    have g2 : u2 ≠ w := fun z => hw.2.2.2.1 (z ▸ (hE _ _ d2).1)
    rw [fo u2 g2 g1]
    exact c2 u2 hu2
  · have g2 : v ≠ w := fun z => hw.2.2.2.1 (z ▸ hev)
    rw [fo v g2 (fun z => huv z.symm)]
    exact h3
  · intro z hz
    have g2 : z ≠ w := fun q => hw.2.2.2.1 (q ▸ hz)
    by_cases e : z = u
    · subst e
      rw [fu, m1]
      exact ⟨fun _ => smn, fun _ => smn⟩
    · rw [fo z g2 e]
      exact h4 z hz
theorem BI_no (hV : Vm Ed ev mt) (hE : EdOk Ed ev inP) (hvn : mt v = none) (h : BI Ed ev inP mt v cb ln en rk) (hd : ∀ k, k < en → ∀ w, Ed (ln k) w → cb w ≠ none) : ¬ Mb Ed (fun u => Sm ev mt u ∨ u = v) := by
  rintro ⟨f, f1, f2⟩
  obtain ⟨⟨h1, h1'⟩, h2, h3, h4, h5⟩ := h
  have key : ∀ w u, cb w = some u → ∃ k, k < en ∧ mt w = some (ln k) ∧ mt (ln k) = some w ∧ Sm ev mt (ln k) := by
    intro w u hw
    obtain ⟨a1, -, -, k, a4, a5⟩ := h3 w u hw
    have hw' := hE _ _ a1
    obtain ⟨b1, b2⟩ := hV.2 w (ln k) hw'.2.2.2.1 a5
    exact ⟨k, a4, a5, b1, (hE _ _ b2).1, fun z => by rw [b1] at z; exact smn z⟩
  have some_of : ∀ w, (cb w).isSome = true → ∃ u, cb w = some u := fun w hw => Option.isSome_iff_exists.mp hw
  have ne_of : ∀ w, cb w ≠ none → (cb w).isSome = true := fun w hw => by
    cases hc : cb w with
    | none => exact absurd hc hw
    | some u => rfl
  have fvE : Ed v (f v) := f1 v (Or.inr rfl)
  have fvc : cb (f v) ≠ none := hd 0 (by omega) (f v) (by rw [h1]; exact fvE)
  have hp := pig (fun w => f ((mt w).getD 0)) 64 64 (fun w => (cb w).isSome) (fun x => (cb x).isSome && decide (x ≠ f v)) (fun w _ hw => by
    obtain ⟨u, hu⟩ := some_of w hw
    obtain ⟨k, k1, k2, k3, k4⟩ := key w u hu
    have e : (mt w).getD 0 = ln k := by rw [k2]; rfl
    have hEd := f1 (ln k) (Or.inl k4)
    have h6 : f (ln k) ≠ f v := fun z => by
      have := f2 (ln k) v (Or.inl k4) (Or.inr rfl) z
      rw [this, hvn] at k3
      exact (nsm k3)
    show ((cb (f ((mt w).getD 0))).isSome && decide (f ((mt w).getD 0) ≠ f v)) = true ∧ f ((mt w).getD 0) < 64
    rw [e]
    refine ⟨?_, (hE _ _ hEd).2.2.2.2⟩
    rw [ne_of _ (hd k k1 _ hEd), decide_eq_true h6]
    rfl) (fun w w' _ _ hw hw' he => by
    obtain ⟨u, hu⟩ := some_of w hw
    obtain ⟨u', hu'⟩ := some_of w' hw'
    obtain ⟨k, k1, k2, k3, k4⟩ := key w u hu
    obtain ⟨l, l1, l2, l3, l4⟩ := key w' u' hu'
    have he' : f ((mt w).getD 0) = f ((mt w').getD 0) := he
    rw [k2, l2] at he'
    have := f2 (ln k) (ln l) (Or.inl k4) (Or.inl l4) he'
    rw [this, l3] at k3
    exact (Option.some.inj k3).symm)
  have e := cn_rm (Q := fun x => (cb x).isSome) (a := f v) (ne_of _ fvc) 64
  rw [if_pos (hE _ _ fvE).2.2.2.2] at e
  omega
theorem Mb_of (hV : Vm Ed ev mt) : Mb Ed (Sm ev mt) := by
  refine ⟨fun u => (mt u).getD 0, ?_, ?_⟩
  · rintro u ⟨h1, h2⟩
    cases hm : mt u with
    | none => exact absurd hm h2
    | some w =>
      show Ed u ((mt u).getD 0)
      rw [hm]
      exact (hV.1 u w h1 hm).2
  · rintro u u' ⟨h1, h2⟩ ⟨h3, h4⟩ he
    cases hm : mt u with
    | none => exact absurd hm h2
    | some w =>
      cases hm' : mt u' with
      | none => exact absurd hm' h4
      | some w' =>
        have he' : (mt u).getD 0 = (mt u').getD 0 := he
        rw [hm, hm'] at he'
        have he2 : w = w' := he'
        have a1 := (hV.1 u w h1 hm).1
        have a2 := (hV.1 u' w' h3 hm').1
        rw [he2, a2] at a1
        exact (Option.some.inj a1).symm
theorem Mb_e {T T' : Nat → Prop} (h : Mb Ed T) (e : ∀ u, T u ↔ T' u) : Mb Ed T' := by
  have : T = T' := funext fun u => propext (e u)
  rw [← this]
  exact h
/-- the cells taken among those below j, and how many -/
noncomputable def AsC (Ed : Nat → Nat → Prop) (ok : Nat → Prop) : Nat → (Nat → Prop) × Nat
  | 0 => (fun _ => False, 0)
  | j + 1 => @ite _ (ok j ∧ Mb Ed (fun u => (AsC Ed ok j).1 u ∨ u = j)) (Classical.propDecidable _) ((fun u => (AsC Ed ok j).1 u ∨ u = j), (AsC Ed ok j).2 + 1) (AsC Ed ok j)
theorem As_y {ok : Nat → Prop} {j : Nat} (h : ok j) (h2 : Mb Ed (fun u => (AsC Ed ok j).1 u ∨ u = j)) : AsC Ed ok (j + 1) = ((fun u => (AsC Ed ok j).1 u ∨ u = j), (AsC Ed ok j).2 + 1) := if_pos ⟨h, h2⟩
theorem As_n {ok : Nat → Prop} {j : Nat} (h : ¬ (ok j ∧ Mb Ed (fun u => (AsC Ed ok j).1 u ∨ u = j))) : AsC Ed ok (j + 1) = AsC Ed ok j := if_neg h
theorem As_sk {ok : Nat → Prop} {j : Nat} : ∀ d, (∀ x, j ≤ x → x < j + d → ¬ ok x) → AsC Ed ok (j + d) = AsC Ed ok j
  | 0, _ => rfl
  | d + 1, h => by
    rw [show j + (d + 1) = (j + d) + 1 by omega, As_n (fun z => h (j + d) (by omega) (by omega) z.1)]
    exact As_sk d (fun x h1 h2 => h x h1 (by omega))
theorem As_le {ok : Nat → Prop} : ∀ j, (AsC Ed ok j).2 ≤ j ∧ ∀ u, (AsC Ed ok j).1 u → u < j
  | 0 => ⟨Nat.le_refl _, fun u h => h.elim⟩
  | j + 1 => by
    have h := As_le (ok := ok) j
    by_cases z : ok j ∧ Mb Ed (fun u => (AsC Ed ok j).1 u ∨ u = j)
    · rw [As_y z.1 z.2]
      refine ⟨by have := h.1; show (AsC Ed ok j).2 + 1 ≤ j + 1; omega, fun u hu => ?_⟩
      rcases hu with hu | hu
      · have := h.2 u hu; omega
      · omega
    · rw [As_n z]
      exact ⟨by have := h.1; omega, fun u hu => by have := h.2 u hu; omega⟩
end BF
