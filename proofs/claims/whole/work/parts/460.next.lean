/-! ===== 460: the best weighing; next ===== -/
theorem nI_max {a c : Nat} (ha : a < 2 ^ 31) (hc : c < 2 ^ 31) : mmax (nI a) (nI c) = nI (max a c) := by
  unfold mmax
  by_cases h : a < c
  · rw [if_pos (nI_lt h hc), Nat.max_eq_right (by omega)]
  · rw [if_neg (nI_nlt (by omega) ha), Nat.max_eq_left (by omega)]
theorem and_lt5 {a c : Nat} (h : a < 512) : a &&& c < 512 := Nat.lt_of_le_of_lt Nat.and_le_left h
theorem wst_b {hv lt l r : Nat} (hd : l &&& r = 0) : (pcN (hv &&& l) + pcN (lt &&& r)) + (pcN (hv &&& r) + pcN (lt &&& l)) ≤ pcN hv + pcN lt := by
  have h1 := pc_dis (h := hv) hd
  have h2 := pc_dis (h := lt) hd
  omega
theorem wst_le {hv lt l r : Nat} (hd : l &&& r = 0) : wstN hv lt l r ≤ pcN hv + pcN lt := by
  have := wst_b (hv := hv) (lt := lt) hd
  unfold wstN
  omega
theorem isW_z {l r : Nat} (h : isWN l r) : l &&& r = 0 := h.2.2.2.2.1
theorem pc_pos {x : Nat} (h1 : 1 ≤ x) (h5 : x < 512) : 1 ≤ pcN x := by
  have q : ∀ k : Fin 512, 1 ≤ k.1 → 1 ≤ pcN k.1 := by decide +kernel
  exact q ⟨x, h5⟩ h1
theorem a511 {x : Nat} (h : x < 512) : 511 &&& x = x := by
  rw [Nat.and_comm, show 511 = 2 ^ 9 - 1 from rfl, Nat.and_two_pow_sub_one_eq_mod, Nat.mod_eq_of_lt h]
theorem pc_4 {l r : Nat} (h : isWN l r) : pcN l ≤ 4 := by
  have h1 := pc_dis (h := 511) (isW_z h)
  rw [a511 h.2.1, a511 h.2.2.2.1, show pcN 511 = 9 by decide, ← h.2.2.2.2.2] at h1
  omega
theorem leW_r (hv lt l r : Nat) : leW hv lt l r l r := by unfold leW; omega
theorem leW_t {hv lt l r l' r' l2 r2 : Nat} (h1 : leW hv lt l r l' r') (h2 : leW hv lt l' r' l2 r2) : leW hv lt l r l2 r2 := by unfold leW at *; omega
theorem best_u {hv lt l r l' r' : Nat} (h : bestN hv lt l r) (h' : bestN hv lt l' r') : l = l' ∧ r = r' := by
  have h1 := h.2 l' r' h'.1
  have h2 := h'.2 l r h.1
  unfold leW at *
  omega
/-- the best of those tried -/
def bsT (hv lt : Nat) (T : Nat → Nat → Prop) (l r : Nat) : Prop := T l r ∧ ∀ l' r', T l' r' → leW hv lt l r l' r'
def CI (hv lt : Nat) (F : mI) (T : Nat → Nat → Prop) : Prop := ((∀ l r, ¬ T l r) ∧ F 31 6 = nI (pcN hv + pcN lt + 1)) ∨ ∃ l r, bsT hv lt T l r ∧ l < 512 ∧ wstN hv lt l r ≤ 18 ∧ F 31 4 = nI l ∧ F 31 5 = nI r ∧ F 31 6 = nI (wstN hv lt l r)
theorem CI_e {hv lt : Nat} {F : mI} {T T' : Nat → Nat → Prop} (h : CI hv lt F T) (e : ∀ l r, T l r ↔ T' l r) : CI hv lt F T' := by
  have : T = T' := funext fun l => funext fun r => propext (e l r)
  rw [← this]
  exact h
def frN (F F' : mI) : Prop := ∀ k j, ¬ (k = 31 ∧ (j = 4 ∨ j = 5 ∨ j = 6)) → F' k j = F k j
def TC (ρ lm c : Nat) (l r : Nat) : Prop := isWN l r ∧ (pcN l < ρ ∨ (pcN l = ρ ∧ (l < lm ∨ (l = lm ∧ c < r))))
def TL (ρ lm : Nat) (l r : Nat) : Prop := isWN l r ∧ (pcN l < ρ ∨ (pcN l = ρ ∧ l < lm))
def otN (l : Nat) : Nat := 511 &&& (l ^^^ (2 ^ 32 - 1))
theorem ot_tb {l r : Nat} (hr : r < 9) : (otN l).testBit r = !(l.testBit r) := by
  have := as_tb (l := l) (q := 0) hr
  unfold asN at this
  rw [Nat.or_zero] at this
  unfold otN
  rw [this, Nat.zero_testBit]
  simp
theorem ot_lt (l : Nat) : otN l < 512 := Nat.lt_of_le_of_lt Nat.and_le_left (by omega)
theorem tb_9 {x j : Nat} (h : x < 512) (hj : ¬ j < 9) : x.testBit j = false := Nat.testBit_lt_two_pow (Nat.lt_of_lt_of_le (show x < 2 ^ 9 from h) (Nat.pow_le_pow_right (by omega) (by omega)))
theorem ot_sub {l r : Nat} (h : r < 512) : r &&& otN l = r ↔ l &&& r = 0 := by
  constructor
  · intro z
    apply Nat.eq_of_testBit_eq
    intro j
    rw [Nat.testBit_and, Nat.zero_testBit]
    by_cases hj : j < 9
    · have := congrArg (fun w => w.testBit j) z
      simp only [Nat.testBit_and, ot_tb hj] at this
      cases h1 : l.testBit j <;> cases h2 : r.testBit j <;> simp_all
    · rw [tb_9 h hj, Bool.and_false]
  · intro z
    apply Nat.eq_of_testBit_eq
    intro j
    rw [Nat.testBit_and]
    by_cases hj : j < 9
    · have := congrArg (fun w => w.testBit j) z
      simp only [Nat.testBit_and, Nat.zero_testBit] at this
      rw [ot_tb hj]
      cases h1 : l.testBit j <;> cases h2 : r.testBit j <;> simp_all
    · rw [tb_9 h hj, Bool.false_and]
theorem ot_e (l : Nat) : (511 : Int32) &&& (nI l ^^^ (-1 : Int32)) = nI (otN l) := by
  rw [nI_m1, nI_xor, show (511 : Int32) = nI 511 from rfl, nI_and]
  rfl
theorem wo_g {A B T : Nat} (h : A + B ≤ T) (hT : T ≤ 9 + 9) : mmax (mmax (nI A) (nI B)) (nI T - nI A - nI B) = nI (max (max A B) (T - A - B)) := by
  rw [nI_max (by omega) (by omega), pk_sub (by omega), pk_sub (by omega), nI_max (by omega) (by omega)]
theorem wst_d {hv lt l r : Nat} : wstN hv lt l r = max (max (pcN (hv &&& l) + pcN (lt &&& r)) (pcN (hv &&& r) + pcN (lt &&& l))) (pcN hv + pcN lt - (pcN (hv &&& l) + pcN (lt &&& r)) - (pcN (hv &&& r) + pcN (lt &&& l))) := by unfold wstN; rfl
theorem ob {α β : Type} {o : Option α} {v : α} {f : α → Option β} (h : o = some v) : o.bind f = f v := by
  subst h
  rfl
theorem nm_q {α β : Type} (v : α) (f : α → β) : nm v f = f v := rfl
theorem wo_h {N : Nat} {S : pH} {r0 : Option Nat} {x1 x2 a c x22 x24 x27 x29 x31 : Int32} (hk : ∀ z : Option Int32, chk S 6 r0 z = z) (h0 : gfI S 6 0 r0 = some a) (h1 : gfI S 6 1 r0 = some c) (e1 : fJ6_bitCount_0f7a4 N S (a &&& x1) = some x22) (e2 : fJ6_bitCount_0f7a4 N S (c &&& x2) = some x24) (e3 : fJ6_bitCount_0f7a4 N S (a &&& x2) = some x27) (e4 : fJ6_bitCount_0f7a4 N S (c &&& x1) = some x29) (e5 : fX6_casesLeft N S r0 = some x31) : fX6_worstOutcome N S r0 x1 x2 = some (mmax (mmax (x22 + x24) (x27 + x29)) (x31 - (x22 + x24) - (x27 + x29))) := by
  unfold fX6_worstOutcome
  rw [hk, ob h0, ob e1, ob h1, ob e2, nm_q, ob h0, ob e3, ob h1, ob e4, nm_q, ob e5]
section NX
variable {b : Nat} {G : mJ} {n : Nat} {sw : Bool} {N : Nat} {hv lt : Nat}
theorem e_worst8 {F : mI} {l r : Nat} (h0 : F 31 0 = nI hv) (h1 : F 31 1 = nI lt) (hv5 : hv < 512) (lt5 : lt < 512) (hd : l &&& r = 0) : fX6_worstOutcome N (M b F G n sw) (some (b + 31)) (nI l) (nI r) = some (nI (wstN hv lt l r)) := by
  have hb := wst_b (hv := hv) (lt := lt) hd
  have p1 := pc_le9 hv
  have p2 := pc_le9 lt
  have b1 : ∀ S, fJ6_bitCount_0f7a4 N S (nI (hv &&& l)) = some (nI (pcN (hv &&& l))) := e_bc (and_lt5 hv5) N
  have b2 : ∀ S, fJ6_bitCount_0f7a4 N S (nI (lt &&& r)) = some (nI (pcN (lt &&& r))) := e_bc (and_lt5 lt5) N
  have b3 : ∀ S, fJ6_bitCount_0f7a4 N S (nI (hv &&& r)) = some (nI (pcN (hv &&& r))) := e_bc (and_lt5 hv5) N
  have b4 : ∀ S, fJ6_bitCount_0f7a4 N S (nI (lt &&& l)) = some (nI (pcN (lt &&& l))) := e_bc (and_lt5 lt5) N
  have b5 := wo_g hb (Nat.add_le_add p1 p2)
  have b6 := wo_h (N := N) (S := M b F G n sw) (r0 := some (b + 31)) (x1 := nI l) (x2 := nI r) (fun z => K_31) (I_31_0.trans (congrArg some h0)) (I_31_1.trans (congrArg some h1)) ((congrArg _ (nI_and hv l)).trans (b1 _)) ((congrArg _ (nI_and lt r)).trans (b2 _)) ((congrArg _ (nI_and hv r)).trans (b3 _)) ((congrArg _ (nI_and lt l)).trans (b4 _)) (e_cases h0 h1 hv5 lt5)
  rw [nI_add, nI_add, b5, ← wst_d] at b6
  exact b6
theorem e_try {F0 : mI} {ρ lm : Nat} (h0 : F0 31 0 = nI hv) (h1 : F0 31 1 = nI lt) (hv5 : hv < 512) (lt5 : lt < 512) (l1 : 1 ≤ lm) (l5 : lm < 512) (hρ : pcN lm = ρ) : ∀ (m x : Nat) (F : mI), x < 512 → x &&& otN lm = x → x < m → frN F0 F → CI hv lt F (TC ρ lm x) → ∃ F', lX6_tryRights_11 N (some (b + 31)) (nI lm) (nI ρ) (nI (otN lm)) m (nI x) (M b F G n sw) = some (M b F' G n sw) ∧ frN F0 F' ∧ CI hv lt F' (TC ρ lm 0) := by
  have p1 := pc_le9 hv
  have p2 := pc_le9 lt
  have p3 := pc_le9 lm
  intro m
  induction m with
  | zero => intro x F _ _ h; omega
  | succ m ih =>
    intro x F hx5 hxo hm hfr hC
    by_cases hx0 : x = 0
    · subst hx0
      refine ⟨F, ?_, hfr, hC⟩
      rw [lX6_tryRights_11, if_pos (by decide)]
    · have g0 : F 31 0 = nI hv := by rw [hfr 31 0 (by omega)]; exact h0
      have g1 : F 31 1 = nI lt := by rw [hfr 31 1 (by omega)]; exact h1
      have hd : lm &&& x = 0 := (ot_sub hx5).mp hxo
      have hs1 : nI x - 1 = nI (x - 1) := by rw [show x = (x - 1) + 1 by omega, nI_pred, Nat.add_sub_cancel]
      have hx' : (x - 1) &&& otN lm < x := sub_lt (by omega)
      have nxt : ∀ r, r < 512 → lm &&& r = 0 → ((x - 1) &&& otN lm < r ↔ x ≤ r) := by
        intro r r5 rd
        constructor
        · intro z
          apply Nat.le_of_not_lt
          intro z2
          have := sub_pred (otN lm) x r hxo ((ot_sub r5).mpr rd) z2
          omega
        · intro z
          omega
      rw [lX6_tryRights_11, if_neg (nI_nle (by omega) (by omega)), e_bc hx5]
      simp only [Option.bind_some, nm, hs1, nI_and]
      by_cases hp : pcN x = ρ
      · have hw : isWN lm x := ⟨l1, l5, by omega, hx5, hd, by omega⟩
        have hwl := wst_le (hv := hv) (lt := lt) hd
        rw [if_neg (fun z => z (by rw [hp])), e_worst8 g0 g1 hv5 lt5 hd]
        simp only [Option.bind_some, I_31_6, I_31_4, P_31_6, P_31_4, P_31_5]
        have hT : ∀ l r, (TC ρ lm x l r ∨ (l = lm ∧ r = x)) ↔ TC ρ lm ((x - 1) &&& otN lm) l r := by
          intro l r
          unfold TC
          constructor
          · rintro (⟨z1, z2⟩ | ⟨rfl, rfl⟩)
            · refine ⟨z1, ?_⟩
              rcases z2 with z2 | ⟨z2, z3 | ⟨rfl, z3⟩⟩
              · exact Or.inl z2
              · exact Or.inr ⟨z2, Or.inl z3⟩
              · exact Or.inr ⟨z2, Or.inr ⟨rfl, by omega⟩⟩
            · exact ⟨hw, Or.inr ⟨hρ, Or.inr ⟨rfl, hx'⟩⟩⟩
          · rintro ⟨z1, z2⟩
            rcases z2 with z2 | ⟨z2, z3 | ⟨rfl, z3⟩⟩
            · exact Or.inl ⟨z1, Or.inl z2⟩
            · exact Or.inl ⟨z1, Or.inr ⟨z2, Or.inl z3⟩⟩
            · have := (nxt r z1.2.2.2.1 (isW_z z1)).mp z3
              by_cases e : r = x
              · exact Or.inr ⟨rfl, e⟩
              · exact Or.inl ⟨z1, Or.inr ⟨z2, Or.inr ⟨rfl, by omega⟩⟩⟩
        have take : (∀ l r, TC ρ lm x l r → leW hv lt lm x l r) → ∃ F', lX6_tryRights_11 N (some (b + 31)) (nI lm) (nI ρ) (nI (otN lm)) m (nI ((x - 1) &&& otN lm)) (M b (u2 (u2 (u2 F 31 6 (nI (wstN hv lt lm x))) 31 4 (nI lm)) 31 5 (nI x)) G n sw) = some (M b F' G n sw) ∧ frN F0 F' ∧ CI hv lt F' (TC ρ lm 0) := by
          intro hall
          refine ih _ _ (by omega) (sub_in _ _) (by omega) ?_ (CI_e (T := fun l r => TC ρ lm x l r ∨ (l = lm ∧ r = x)) (Or.inr ⟨lm, x, ⟨Or.inr ⟨rfl, rfl⟩, ?_⟩, l5, by omega, by simp [u2], by simp [u2], by simp [u2]⟩) hT)
          · intro k j hk
            rw [u2_ne _ _ _ _ (by omega), u2_ne _ _ _ _ (by omega), u2_ne _ _ _ _ (by omega)]
            exact hfr k j hk
          · rintro l' r' (z | ⟨rfl, rfl⟩)
            · exact hall _ _ z
            · exact leW_r _ _ _ _
        rcases hC with ⟨c1, c2⟩ | ⟨l, r, ⟨c1, c2⟩, c3, c4, c5, c6, c7⟩
        · rw [c2, if_pos (nI_lt (by omega) (by omega))]
          exact take (fun l r z => absurd z (c1 l r))
        · have ho : pcN l < pcN lm ∨ (pcN l = pcN lm ∧ (l < lm ∨ (l = lm ∧ x < r))) := by
            have := c1.2
            rw [hρ]
            exact this
          have keep : leW hv lt l r lm x → ∃ F', lX6_tryRights_11 N (some (b + 31)) (nI lm) (nI ρ) (nI (otN lm)) m (nI ((x - 1) &&& otN lm)) (M b F G n sw) = some (M b F' G n sw) ∧ frN F0 F' ∧ CI hv lt F' (TC ρ lm 0) := by
            intro hle
            refine ih _ _ (by omega) (sub_in _ _) (by omega) hfr (CI_e (T := fun l r => TC ρ lm x l r ∨ (l = lm ∧ r = x)) (Or.inr ⟨l, r, ⟨Or.inl c1, ?_⟩, c3, c4, c5, c6, c7⟩) hT)
            rintro l' r' (z | ⟨rfl, rfl⟩)
            · exact c2 _ _ z
            · exact hle
          rw [c7]
          by_cases hlt : wstN hv lt lm x < wstN hv lt l r
          · rw [if_pos (nI_lt hlt (by omega))]
            exact take (fun l' r' z => leW_t (by unfold leW; omega) (c2 _ _ z))
          · rw [if_neg (nI_nlt (by omega) (by omega))]
            by_cases heq : wstN hv lt lm x = wstN hv lt l r
            · rw [if_neg (fun z => z (by rw [heq])), c5]
              by_cases hll : lm = l
              · rw [if_neg (fun z => z (by rw [hll]))]
                exact take (fun l' r' z => leW_t (by unfold leW; subst hll; omega) (c2 _ _ z))
              · rw [if_pos (fun z => hll ((nI_eq (by omega) (by omega)).mp z))]
                exact keep (by unfold leW; omega)
            · rw [if_pos (fun z => heq ((nI_eq (by omega) (by omega)).mp z))]
              exact keep (by unfold leW; omega)
      · have p4 := pc_le9 x
        rw [if_pos (fun z => hp ((nI_eq (by omega) (by omega)).mp z))]
        refine ih _ _ (by omega) (sub_in _ _) (by omega) hfr (CI_e hC ?_)
        intro l r
        unfold TC
        constructor
        · rintro ⟨z1, z2⟩
          refine ⟨z1, ?_⟩
          rcases z2 with z2 | ⟨z2, z3 | ⟨rfl, z3⟩⟩
          · exact Or.inl z2
          · exact Or.inr ⟨z2, Or.inl z3⟩
          · exact Or.inr ⟨z2, Or.inr ⟨rfl, by omega⟩⟩
        · rintro ⟨z1, z2⟩
          refine ⟨z1, ?_⟩
          rcases z2 with z2 | ⟨z2, z3 | ⟨rfl, z3⟩⟩
          · exact Or.inl z2
          · exact Or.inr ⟨z2, Or.inl z3⟩
          · have := (nxt r z1.2.2.2.1 (isW_z z1)).mp z3
            have hne : r ≠ x := fun e => hp (by rw [← e, ← z1.2.2.2.2.2]; exact z2)
            exact Or.inr ⟨z2, Or.inr ⟨rfl, by omega⟩⟩
theorem e_fb27 {F0 : mI} {ρ : Nat} (h0 : F0 31 0 = nI hv) (h1 : F0 31 1 = nI lt) (hv5 : hv < 512) (lt5 : lt < 512) (hρ : ρ ≤ 4) (hN : 1000 ≤ N) : ∀ (m x : Nat) (F : mI), 1 ≤ x → x ≤ 512 → 512 - x < m → frN F0 F → CI hv lt F (TL ρ x) → ∃ F', lX6_findBest_27 N (some (b + 31)) (nI ρ) m (nI x) (M b F G n sw) = some (M b F' G n sw) ∧ frN F0 F' ∧ CI hv lt F' (TL ρ 512) := by
  intro m
  induction m with
  | zero => intro x F _ _ h; omega
  | succ m ih =>
    intro x F x1 x5 hm hfr hC
    by_cases hx : x = 512
    · subst hx
      refine ⟨F, ?_, hfr, hC⟩
      rw [lX6_findBest_27, if_pos (by decide)]
    · have hx5 : x < 512 := by omega
      have p1 := pc_le9 x
      rw [lX6_findBest_27, if_neg (show ¬ (511 : Int32) < nI x from nI_nlt (a := 511) (by omega) (by decide)), e_bc hx5]
      simp only [Option.bind_some, nm, nI_1]
      by_cases hp : pcN x = ρ
      · rw [if_neg (fun z => z (by rw [hp]))]
        have hC1 : CI hv lt F (TC ρ x (otN x)) := CI_e hC (fun l r => by
          unfold TL TC
          constructor
          · rintro ⟨z1, z2⟩
            exact ⟨z1, by omega⟩
          · rintro ⟨z1, z2⟩
            refine ⟨z1, ?_⟩
            rcases z2 with z2 | ⟨z2, z3 | ⟨rfl, z3⟩⟩
            · exact Or.inl z2
            · exact Or.inr ⟨z2, z3⟩
            · have h1 := (ot_sub z1.2.2.2.1).mpr (isW_z z1)
              have h2 : r &&& otN l ≤ otN l := Nat.and_le_right
              omega)
        obtain ⟨F', e1, e2, e3⟩ := e_try (N := N) (b := b) (G := G) (n := n) (sw := sw) h0 h1 hv5 lt5 x1 hx5 hp N (otN x) F (ot_lt x) (Nat.and_self _) (by have := ot_lt x; omega) hfr hC1
        have et : fX6_tryRights N (M b F G n sw) (some (b + 31)) (nI x) (nI ρ) = some (M b F' G n sw) := by
          unfold fX6_tryRights
          simp only [K_31, nm, ot_e, e1, Option.bind_some]
        rw [et]
        simp only [Option.bind_some]
        refine ih (x + 1) F' (by omega) (by omega) (by omega) e2 (CI_e e3 (fun l r => ?_))
        unfold TL TC
        constructor
        · rintro ⟨z1, z2⟩
          exact ⟨z1, by omega⟩
        · rintro ⟨z1, z2⟩
          have := z1.2.2.1
          exact ⟨z1, by omega⟩
      · rw [if_pos (fun z => hp ((nI_eq (by omega) (by omega)).mp z))]
        refine ih (x + 1) F (by omega) (by omega) (by omega) hfr (CI_e hC (fun l r => ?_))
        unfold TL
        constructor
        · rintro ⟨z1, z2⟩
          exact ⟨z1, by omega⟩
        · rintro ⟨z1, z2⟩
          refine ⟨z1, ?_⟩
          rcases z2 with z2 | ⟨z2, z3⟩
          · exact Or.inl z2
          · have : l ≠ x := fun e => hp (by rw [← e]; exact z2)
            exact Or.inr ⟨z2, by omega⟩
theorem e_fb20 {F0 : mI} (h0 : F0 31 0 = nI hv) (h1 : F0 31 1 = nI lt) (hv5 : hv < 512) (lt5 : lt < 512) (hN : 1000 ≤ N) : ∀ (m x : Nat) (F : mI), 1 ≤ x → x ≤ 5 → 5 - x < m → frN F0 F → CI hv lt F (TL x 1) → ∃ F', lX6_findBest_20 N (some (b + 31)) m (nI x) (M b F G n sw) = some (M b F' G n sw) ∧ frN F0 F' ∧ CI hv lt F' (TL 5 1) := by
  intro m
  induction m with
  | zero => intro x F _ _ h; omega
  | succ m ih =>
    intro x F x1 x5 hm hfr hC
    by_cases hx : x = 5
    · subst hx
      refine ⟨F, ?_, hfr, hC⟩
      rw [lX6_findBest_20, if_pos (by decide)]
    · rw [lX6_findBest_20, if_neg (show ¬ (4 : Int32) < nI x from nI_nlt (a := 4) (by omega) (by decide))]
      obtain ⟨F', e1, e2, e3⟩ := e_fb27 (N := N) (b := b) (G := G) (n := n) (sw := sw) h0 h1 hv5 lt5 (show x ≤ 4 by omega) hN N 1 F (by omega) (by omega) (by omega) hfr hC
      rw [show nI 1 = (1 : Int32) from rfl] at e1
      rw [e1]
      simp only [Option.bind_some, nm, nI_1]
      refine ih (x + 1) F' (by omega) (by omega) (by omega) e2 (CI_e e3 (fun l r => ?_))
      unfold TL
      constructor
      · rintro ⟨z1, z2⟩
        exact ⟨z1, by omega⟩
      · rintro ⟨z1, z2⟩
        have := z1.1
        have := z1.2.1
        exact ⟨z1, by omega⟩
theorem isW12 : isWN 1 2 := by unfold isWN; decide
theorem e_find0 {F : mI} (h0 : F 31 0 = nI hv) (h1 : F 31 1 = nI lt) (hv5 : hv < 512) (lt5 : lt < 512) (h3 : F 31 3 = 0) (hN : 1000 ≤ N) : ∃ F' l r, fX6_findBest N (M b F G n sw) (some (b + 31)) = some (M b F' G n sw) ∧ (∀ k j, ¬ (k = 31 ∧ (j = 3 ∨ j = 4 ∨ j = 5 ∨ j = 6)) → F' k j = F k j) ∧ F' 31 3 = 1 ∧ bestN hv lt l r ∧ F' 31 4 = nI l ∧ F' 31 5 = nI r ∧ F' 31 6 = nI (wstN hv lt l r) := by
  have hT0 : ∀ l r, ¬ TL 1 1 l r := by
    rintro l r ⟨z1, z2⟩
    have := pc_pos z1.1 z1.2.1
    have := z1.1
    omega
  obtain ⟨F', e1, e2, e3⟩ := e_fb20 (N := N) (b := b) (G := G) (n := n) (sw := sw) (F0 := u2 F 31 6 (nI (pcN hv + pcN lt + 1))) (hv := hv) (lt := lt) (by rw [u2_ne _ _ _ _ (by omega)]; exact h0) (by rw [u2_ne _ _ _ _ (by omega)]; exact h1) hv5 lt5 hN N 1 (u2 F 31 6 (nI (pcN hv + pcN lt + 1))) (by omega) (by omega) (by omega) (fun _ _ _ => rfl) (Or.inl ⟨hT0, u2_eq _ _ _ _⟩)
  have hall : ∀ l r, isWN l r → TL 5 1 l r := fun l r z => ⟨z, Or.inl (by have := pc_4 z; omega)⟩
  rcases e3 with ⟨c1, -⟩ | ⟨l, r, ⟨c1, c2⟩, c3, c4, c5, c6, c7⟩
  · exact absurd (hall 1 2 isW12) (c1 1 2)
  · refine ⟨u2 F' 31 3 1, l, r, ?_, ?_, u2_eq _ _ _ _, ⟨c1.1, fun l' r' z => c2 _ _ (hall _ _ z)⟩, ?_, ?_, ?_⟩
    · rw [show nI 1 = (1 : Int32) from rfl] at e1
      unfold fX6_findBest
      simp only [Option.bind_some, bI_0, Decidable.not_not, nm, b2, zr, e_isWithin, e_in, e_isGlass8, e_isGlass9, reduceIte, not_false_eq_true, not_true_eq_false, if_true, if_false, and_self, z01, z10, c00, c11, true_and, and_true, R_0_0, R_0_1, R_0_3, R_0_4, R_0_5, R_0_6, R_0_7, R_0_8, R_0_9, R_1_0, R_1_1, R_1_2, R_1_3, R_7_0, R_7_1, R_10_0, R_10_1, R_10_2, R_14_0, R_16_0, R_18_0, R_18_1, R_18_2, R_18_4, R_18_5, R_18_6, R_18_8, R_18_9, R_27_0, R_27_1, R_27_2, R_32_0, R_32_1, R_32_3, R_32_4, R_32_5, R_32_6, R_32_7, R_32_11, R_32_12, R_32_13, R_32_14, R_32_17, R_32_20, R_32_21, R_32_22, R_32_24, R_32_25, R_32_26, R_32_27, R_32_28, R_32_29, R_32_30, R_32_31, I_0_2, I_1_4, I_7_2, I_14_1, I_16_1, I_18_3, I_18_7, I_27_3, I_27_4, I_31_0, I_31_1, I_31_2, I_31_3, I_31_4, I_31_5, I_31_6, I_32_2, I_32_8, I_32_9, I_32_10, I_32_15, I_32_16, I_32_18, I_32_19, J_0_10, J_32_23, P_0_2, P_0_10, P_1_4, P_7_2, P_14_1, P_16_1, P_18_3, P_18_7, P_27_3, P_27_4, P_31_0, P_31_1, P_31_2, P_31_3, P_31_4, P_31_5, P_31_6, P_32_2, P_32_8, P_32_9, P_32_10, P_32_15, P_32_16, P_32_18, P_32_19, P_32_23, K_0, K_1, K_7, K_10, K_14, K_16, K_18, K_27, K_31, K_32, h3, e_cases h0 h1 hv5 lt5, nI_1, e1]
    · intro k j hk
      rw [u2_ne _ _ _ _ (by omega), e2 k j (by omega), u2_ne _ _ _ _ (by omega)]
    · rw [u2_ne _ _ _ _ (by omega)]; exact c5
    · rw [u2_ne _ _ _ _ (by omega)]; exact c6
    · rw [u2_ne _ _ _ _ (by omega)]; exact c7
/-! the reference -/
def opF (F : mI) (hv lt i : Nat) : mI := fun k j => if k = 55 ∧ j < i then bI (cs hv lt j = true) else F k j
theorem RW9_o {F : mI} {w i : Nat} (h : RW9 F w hv lt) : RW9 (opF F hv lt i) w hv lt := by
  obtain ⟨w0, w1, w2, w3⟩ := h
  have e : ∀ k j, k ≠ 55 → opF F hv lt i k j = F k j := fun k j hk => if_neg (fun z => hk z.1)
  refine ⟨w0, by rw [e _ _ (by omega)]; exact w1, fun k hk => ?_, fun r hr => ?_⟩
  · rw [e _ _ (by omega), e _ _ (by omega), e _ _ (by omega)]
    exact w2 k hk
  · rw [lft_c (fun k j q => e k j (by omega)), lft_c (fun k j q => e k j (by omega))]
    exact w3 r hr
theorem bI_and {q : Prop} [Decidable q] : bI q &&& 1 = bI q := by
  by_cases h : q
  · rw [bI_t h]; rfl
  · rw [bI_f h]; rfl
theorem e_nx15 {F : mI} {w : Nat} {a1 : Int32} (hW : RW9 F w hv lt) (hN : 20 ≤ N) : lX9_next_15 N (some (b + 32)) a1 N 0 0 (M b F G n sw) = some (nI (pcN hv + pcN lt), M b (opF F hv lt 18) G n sw) := by
  have key : ∀ (m i : Nat), i ≤ 18 → 18 - i < m → lX9_next_15 N (some (b + 32)) a1 m (nI (cn (cs hv lt) i)) (nI i) (M b (opF F hv lt i) G n sw) = some (nI (pcN hv + pcN lt), M b (opF F hv lt 18) G n sw) := by
    intro m
    induction m with
    | zero => intro i h1 h2; omega
    | succ m ih =>
      intro i h1 h2
      by_cases hi : i < 18
      · have hu : u2 (opF F hv lt i) 55 i (bI (cs hv lt i = true)) = opF F hv lt (i + 1) := by
          funext k j
          simp only [u2, opF]
          by_cases hk : k = 55 ∧ j = i
          · rw [if_pos hk, if_pos (by omega), hk.2]
          · rw [if_neg hk]
            by_cases hj : k = 55 ∧ j < i
            · rw [if_pos hj, if_pos (by omega)]
            · rw [if_neg hj, if_neg (by omega)]
        have hv' : opF F hv lt (i + 1) 55 i = bI (cs hv lt i = true) := if_pos (by omega)
        rw [lX9_next_15, if_neg (show ¬ (18 : Int32) ≤ nI i from nI_ge (b := 18) hi (by decide))]
        simp only [R_32_31, Option.bind_some, e_isLeft (RW9_o hW) hi hN]
        rw [T_55 hi]
        simp only [Option.bind_some, bI_and, hu, R_32_31, L_55 hi, hv', nm, nI_1]
        by_cases hc : cs hv lt i = true
        · rw [bI_t hc, if_neg z10]
          have : cn (cs hv lt) i + 1 = cn (cs hv lt) (i + 1) := by simp only [cn, hc, if_true]
          rw [this]
          exact ih (i + 1) (by omega) (by omega)
        · rw [bI_f hc, if_pos rfl, Int32.add_zero]
          have : cn (cs hv lt) i = cn (cs hv lt) (i + 1) := by simp only [cn, hc]; rfl
          rw [this]
          exact ih (i + 1) (by omega) (by omega)
      · have e : i = 18 := by omega
        subst e
        rw [lX9_next_15, if_pos (by decide), cs18]
  have h := key N 0 (by omega) (by omega)
  rw [show opF F hv lt 0 = F from funext fun k => funext fun j => if_neg (by omega)] at h
  exact h
theorem go_s (l q r : Nat) (hb : Bool) : goN l q r hb = -1 ∨ goN l q r hb = 0 ∨ goN l q r hb = 1 := by
  unfold goN
  cases l.testBit r <;> cases q.testBit r <;> cases hb <;> simp
def gP (hv lt l q : Nat) (v : Int32) (one : Nat) : Bool := cs hv lt one && decide (goN l q (one / 2) (decide (one % 2 = 0)) = v)
theorem g_less {l q : Nat} (hd : l &&& q = 0) : cn (gP hv lt l q (-1)) 18 = pcN (hv &&& q) + pcN (lt &&& l) := by
  rw [show 18 = 2 * 9 from rfl, cn_pair, pc_cn, pc_cn]
  refine hcong ?_ ?_
  · refine cn_congr 9 (fun i _ => ?_)
    have hz : (l.testBit i && q.testBit i) = false := by rw [← Nat.testBit_and, hd, Nat.zero_testBit]
    unfold gP cs goN
    rw [if_pos (by omega), show 2 * i / 2 = i by omega, Nat.testBit_and, show decide (2 * i % 2 = 0) = true from decide_eq_true (by omega)]
    cases h0 : hv.testBit i <;> cases h1 : l.testBit i <;> cases h2 : q.testBit i <;> simp_all
  · refine cn_congr 9 (fun i _ => ?_)
    have hz : (l.testBit i && q.testBit i) = false := by rw [← Nat.testBit_and, hd, Nat.zero_testBit]
    unfold gP cs goN
    rw [if_neg (by omega), show (2 * i + 1) / 2 = i by omega, Nat.testBit_and, show decide ((2 * i + 1) % 2 = 0) = false from decide_eq_false (by omega)]
    cases h0 : lt.testBit i <;> cases h1 : l.testBit i <;> cases h2 : q.testBit i <;> simp_all
theorem g_more {l q : Nat} (hd : l &&& q = 0) : cn (gP hv lt l q 1) 18 = pcN (hv &&& l) + pcN (lt &&& q) := by
  rw [show 18 = 2 * 9 from rfl, cn_pair, pc_cn, pc_cn]
  refine hcong ?_ ?_
  · refine cn_congr 9 (fun i _ => ?_)
    have hz : (l.testBit i && q.testBit i) = false := by rw [← Nat.testBit_and, hd, Nat.zero_testBit]
    unfold gP cs goN
    rw [if_pos (by omega), show 2 * i / 2 = i by omega, Nat.testBit_and, show decide (2 * i % 2 = 0) = true from decide_eq_true (by omega)]
    cases h0 : hv.testBit i <;> cases h1 : l.testBit i <;> cases h2 : q.testBit i <;> simp_all
  · refine cn_congr 9 (fun i _ => ?_)
    have hz : (l.testBit i && q.testBit i) = false := by rw [← Nat.testBit_and, hd, Nat.zero_testBit]
    unfold gP cs goN
    rw [if_neg (by omega), show (2 * i + 1) / 2 = i by omega, Nat.testBit_and, show decide ((2 * i + 1) % 2 = 0) = false from decide_eq_false (by omega)]
    cases h0 : lt.testBit i <;> cases h1 : l.testBit i <;> cases h2 : q.testBit i <;> simp_all
theorem g_sum (l q : Nat) : cn (gP hv lt l q (-1)) 18 + cn (gP hv lt l q 0) 18 + cn (gP hv lt l q 1) 18 = pcN hv + pcN lt := by
  rw [← cs18]
  refine cn3 18 (fun i _ => ?_)
  unfold gP
  rcases go_s l q (i / 2) (decide (i % 2 = 0)) with z | z | z <;> rw [z] <;> cases cs hv lt i <;> decide
theorem e_wo11 {F : mI} {l q : Nat} (ho : ∀ j, j < 18 → F 55 j = bI (cs hv lt j = true)) (hl : l < 512) (hq : q < 512) (hN : 20 ≤ N) : lX9_worst_11 N (M b F G n sw) (some (b + 32)) (nI l) (nI q) N 0 0 0 0 = some (nI (cn (gP hv lt l q (-1)) 18), nI (cn (gP hv lt l q 0) 18), nI (cn (gP hv lt l q 1) 18)) := by
  have key : ∀ (m i : Nat), i ≤ 18 → 18 - i < m → lX9_worst_11 N (M b F G n sw) (some (b + 32)) (nI l) (nI q) m (nI (cn (gP hv lt l q (-1)) i)) (nI (cn (gP hv lt l q 0) i)) (nI (cn (gP hv lt l q 1) i)) (nI i) = some (nI (cn (gP hv lt l q (-1)) 18), nI (cn (gP hv lt l q 0) 18), nI (cn (gP hv lt l q 1) 18)) := by
    intro m
    induction m with
    | zero => intro i h1 h2; omega
    | succ m ih =>
      intro i h1 h2
      by_cases hi : i < 18
      · have := ih (i + 1) (by omega) (by omega)
        rw [cn_s (gP hv lt l q (-1)) i, cn_s (gP hv lt l q 0) i, cn_s (gP hv lt l q 1) i] at this
        rw [lX9_worst_11, if_neg (show ¬ (18 : Int32) ≤ nI i from nI_ge (b := 18) hi (by decide))]
        simp only [R_32_31, Option.bind_some, L_55 hi, ho i hi, e_goes hi hl hq, nm, nI_1]
        by_cases hc : cs hv lt i = true
        · rw [bI_t hc, if_neg z10]
          rcases go_s l q (i / 2) (decide (i % 2 = 0)) with z | z | z
          · have a1 : gP hv lt l q (-1) i = true := by unfold gP; rw [hc, z]; rfl
            have a2 : gP hv lt l q 0 i = false := by unfold gP; rw [hc, z]; rfl
            have a3 : gP hv lt l q 1 i = false := by unfold gP; rw [hc, z]; rfl
            simp only [a1, a2, a3, if_true, Bool.false_eq_true, if_false, Nat.add_zero] at this
            rw [z, if_neg (by decide), if_pos (by decide), if_pos (by decide), Int32.add_zero, Int32.add_zero]
            exact this
          · have a1 : gP hv lt l q (-1) i = false := by unfold gP; rw [hc, z]; rfl
            have a2 : gP hv lt l q 0 i = true := by unfold gP; rw [hc, z]; rfl
            have a3 : gP hv lt l q 1 i = false := by unfold gP; rw [hc, z]; rfl
            simp only [a1, a2, a3, if_true, Bool.false_eq_true, if_false, Nat.add_zero] at this
            rw [z, if_pos (by decide), if_neg (by decide), if_pos (by decide), Int32.add_zero, Int32.add_zero]
            exact this
          · have a1 : gP hv lt l q (-1) i = false := by unfold gP; rw [hc, z]; rfl
            have a2 : gP hv lt l q 0 i = false := by unfold gP; rw [hc, z]; rfl
            have a3 : gP hv lt l q 1 i = true := by unfold gP; rw [hc, z]; rfl
            simp only [a1, a2, a3, if_true, Bool.false_eq_true, if_false, Nat.add_zero] at this
            rw [z, if_pos (by decide), if_pos (by decide), if_neg (by decide), Int32.add_zero, Int32.add_zero]
            exact this
        · have a1 : ∀ v, gP hv lt l q v i = false := fun v => by unfold gP; rw [Bool.eq_false_iff.mpr hc]; rfl
          rw [bI_f hc, if_pos rfl]
          simp only [a1, Bool.false_eq_true, if_false, Nat.add_zero] at this
          exact this
      · have e : i = 18 := by omega
        subst e
        rw [lX9_worst_11, if_pos (by decide)]
  exact key N 0 (by omega) (by omega)
theorem e_worst9 {F : mI} {l q : Nat} (ho : ∀ j, j < 18 → F 55 j = bI (cs hv lt j = true)) (hl : l < 512) (hq : q < 512) (hd : l &&& q = 0) (hN : 20 ≤ N) : fX9_worst N (M b F G n sw) (some (b + 32)) (nI l) (nI q) = some (nI (wstN hv lt l q)) := by
  have s := g_sum (hv := hv) (lt := lt) l q
  have e1 := g_less (hv := hv) (lt := lt) hd
  have e2 := g_more (hv := hv) (lt := lt) hd
  have p1 := pc_le9 hv
  have p2 := pc_le9 lt
  unfold fX9_worst
  simp only [K_32, e_wo11 ho hl hq hN, b3, Option.bind_some, nm]
  have hw : wstN hv lt l q = max (max (cn (gP hv lt l q 1) 18) (cn (gP hv lt l q (-1)) 18)) (cn (gP hv lt l q 0) 18) := by
    unfold wstN
    rw [← e1, ← e2, ← s]
    omega
  rw [hw]
  by_cases h1 : cn (gP hv lt l q (-1)) 18 ≤ cn (gP hv lt l q 1) 18
  · rw [if_pos (nI_le h1 (by omega))]
    by_cases h2 : cn (gP hv lt l q 0) 18 ≤ cn (gP hv lt l q 1) 18
    · rw [if_pos (nI_le h2 (by omega))]
      exact congrArg (fun z => some (nI z)) (by omega)
    · rw [if_neg (nI_ge (by omega) (by omega))]
      exact congrArg (fun z => some (nI z)) (by omega)
  · rw [if_neg (nI_ge (by omega) (by omega))]
    by_cases h2 : cn (gP hv lt l q 0) 18 ≤ cn (gP hv lt l q (-1)) 18
    · rw [if_pos (nI_le h2 (by omega))]
      exact congrArg (fun z => some (nI z)) (by omega)
    · rw [if_neg (nI_ge (by omega) (by omega))]
      exact congrArg (fun z => some (nI z)) (by omega)
def RI (hv lt : Nat) (T : Nat → Nat → Prop) (x y z : Int32) : Prop := ((∀ l r, ¬ T l r) ∧ z = -9) ∨ ∃ l r, bsT hv lt T l r ∧ l < 512 ∧ wstN hv lt l r ≤ 18 ∧ x = nI l ∧ y = nI r ∧ z = nI (wstN hv lt l r)
theorem RI_e {T T' : Nat → Nat → Prop} {x y z : Int32} (h : RI hv lt T x y z) (e : ∀ l r, T l r ↔ T' l r) : RI hv lt T' x y z := by
  have : T = T' := funext fun l => funext fun r => propext (e l r)
  rw [← this]
  exact h
def TR (lm c : Nat) (l r : Nat) : Prop := isWN l r ∧ (l < lm ∨ (l = lm ∧ r < c))
theorem nrest {lm x : Nat} (hx : x < 512) : (nI x &&& (nI (otN lm) ^^^ (-1 : Int32))) = 0 ↔ lm &&& x = 0 := by
  have hlt : x &&& (otN lm ^^^ (2 ^ 32 - 1)) < 512 := and_lt5 hx
  rw [nI_m1, nI_xor, nI_and, show (0 : Int32) = nI 0 from rfl, nI_eq (by omega) (by omega)]
  have hb : ∀ j, (x &&& (otN lm ^^^ (2 ^ 32 - 1))).testBit j = (lm &&& x).testBit j := by
    intro j
    by_cases hj : j < 9
    · have h2 : (2 ^ 32 - 1 : Nat).testBit j = true := by
        rw [Nat.testBit_two_pow_sub_one]
        exact decide_eq_true (by omega)
      rw [Nat.testBit_and, Nat.testBit_xor, ot_tb hj, h2, Nat.testBit_and]
      cases x.testBit j <;> cases lm.testBit j <;> rfl
    · rw [Nat.testBit_and, Nat.testBit_and, tb_9 hx hj, Bool.false_and, Bool.and_false]
  rw [Nat.eq_of_testBit_eq hb]
theorem e_nx97 {F : mI} {lm : Nat} {a1 : Int32} (ho : ∀ j, j < 18 → F 55 j = bI (cs hv lt j = true)) (l1 : 1 ≤ lm) (l5 : lm < 512) (hN : 20 ≤ N) : ∀ (m c : Nat) (x y z : Int32), 1 ≤ c → c ≤ 512 → 512 - c < m → RI hv lt (TR lm c) x y z → ∃ x' y' z', lX9_next_97 N (M b F G n sw) (some (b + 32)) a1 (nI lm) (nI (otN lm)) m x y z (nI c) = some (x', y', z') ∧ RI hv lt (TR lm 512) x' y' z' := by
  have p1 := pc_le9 hv
  have p2 := pc_le9 lt
  have p3 := pc_le9 lm
  intro m
  induction m with
  | zero => intro c x y z _ _ h; omega
  | succ m ih =>
    intro c x y z c1 c5 hm hC
    by_cases hc : c = 512
    · subst hc
      refine ⟨x, y, z, ?_, hC⟩
      rw [lX9_next_97, if_pos (by decide)]
    · have hc5 : c < 512 := by omega
      have p4 := pc_le9 c
      rw [lX9_next_97, if_neg (show ¬ (512 : Int32) ≤ nI c from nI_ge (b := 512) hc5 (by decide))]
      simp only [nm, nI_1, nrest hc5, e_bitsIn l5 hN, e_bitsIn hc5 hN, Option.bind_some]
      have skip : ¬ isWN lm c → ∃ x' y' z', lX9_next_97 N (M b F G n sw) (some (b + 32)) a1 (nI lm) (nI (otN lm)) m x y z (nI (c + 1)) = some (x', y', z') ∧ RI hv lt (TR lm 512) x' y' z' := by
        intro hn
        refine ih (c + 1) x y z (by omega) (by omega) (by omega) (RI_e hC (fun l r => ?_))
        unfold TR
        constructor
        · rintro ⟨z1, z2⟩
          exact ⟨z1, by omega⟩
        · rintro ⟨z1, z2⟩
          refine ⟨z1, ?_⟩
          rcases z2 with z2 | ⟨rfl, z3⟩
          · exact Or.inl z2
          · have : r ≠ c := fun e => hn (e ▸ z1)
            exact Or.inr ⟨rfl, by omega⟩
      by_cases hd : lm &&& c = 0
      · rw [if_neg (fun z => z hd)]
        by_cases hp : pcN lm = pcN c
        · have hw : isWN lm c := ⟨l1, l5, c1, hc5, hd, hp⟩
          have hwl := wst_le (hv := hv) (lt := lt) hd
          rw [if_neg (fun z => z (by rw [hp])), e_worst9 ho l5 hc5 hd hN]
          simp only [Option.bind_some]
          have hT : ∀ l r, (TR lm c l r ∨ (l = lm ∧ r = c)) ↔ TR lm (c + 1) l r := by
            intro l r
            unfold TR
            constructor
            · rintro (⟨z1, z2⟩ | ⟨rfl, rfl⟩)
              · exact ⟨z1, by omega⟩
              · exact ⟨hw, by omega⟩
            · rintro ⟨z1, z2⟩
              rcases z2 with z2 | ⟨rfl, z3⟩
              · exact Or.inl ⟨z1, Or.inl z2⟩
              · by_cases e : r = c
                · exact Or.inr ⟨rfl, e⟩
                · exact Or.inl ⟨z1, Or.inr ⟨rfl, by omega⟩⟩
          have take : (∀ l r, TR lm c l r → leW hv lt lm c l r) → ∃ x' y' z', lX9_next_97 N (M b F G n sw) (some (b + 32)) a1 (nI lm) (nI (otN lm)) m (nI lm) (nI c) (nI (wstN hv lt lm c)) (nI (c + 1)) = some (x', y', z') ∧ RI hv lt (TR lm 512) x' y' z' := by
            intro hall
            refine ih (c + 1) _ _ _ (by omega) (by omega) (by omega) (RI_e (T := fun l r => TR lm c l r ∨ (l = lm ∧ r = c)) (Or.inr ⟨lm, c, ⟨Or.inr ⟨rfl, rfl⟩, ?_⟩, l5, by omega, rfl, rfl, rfl⟩) hT)
            rintro l' r' (z | ⟨rfl, rfl⟩)
            · exact hall _ _ z
            · exact leW_r _ _ _ _
          rcases hC with ⟨c1', c2⟩ | ⟨l, r, ⟨c1', c2⟩, c3, c4, rfl, rfl, rfl⟩
          · rw [c2, if_pos rfl]
            exact take (fun l r z => absurd z (c1' l r))
          · have hord := c1'.2
            have keep : leW hv lt l r lm c → ∃ x' y' z', lX9_next_97 N (M b F G n sw) (some (b + 32)) a1 (nI lm) (nI (otN lm)) m (nI l) (nI r) (nI (wstN hv lt l r)) (nI (c + 1)) = some (x', y', z') ∧ RI hv lt (TR lm 512) x' y' z' := by
              intro hle
              refine ih (c + 1) _ _ _ (by omega) (by omega) (by omega) (RI_e (T := fun l r => TR lm c l r ∨ (l = lm ∧ r = c)) (Or.inr ⟨l, r, ⟨Or.inl c1', ?_⟩, c3, c4, rfl, rfl, rfl⟩) hT)
              rintro l' r' (z | ⟨rfl, rfl⟩)
              · exact c2 _ _ z
              · exact hle
            rw [if_neg (m9ne _ (by omega))]
            by_cases hlt : wstN hv lt lm c < wstN hv lt l r
            · rw [if_pos (nI_lt hlt (by omega))]
              exact take (fun l' r' z => leW_t (by unfold leW; omega) (c2 _ _ z))
            · rw [if_neg (nI_nlt (by omega) (by omega))]
              by_cases heq : wstN hv lt lm c = wstN hv lt l r
              · have p5 := pc_le9 l
                rw [if_neg (fun z => z (by rw [heq])), e_bitsIn c3 hN]
                simp only [Option.bind_some]
                by_cases hpl : pcN l ≤ pcN lm
                · rw [if_pos (nI_le hpl (by omega))]
                  exact keep (by unfold leW; omega)
                · rw [if_neg (nI_ge (by omega) (by omega))]
                  exact take (fun l' r' z => leW_t (by unfold leW; omega) (c2 _ _ z))
              · rw [if_pos (fun z => heq ((nI_eq (by omega) (by omega)).mp z))]
                exact keep (by unfold leW; omega)
        · rw [if_pos (fun z => hp ((nI_eq (by omega) (by omega)).mp z))]
          exact skip (fun z => hp z.2.2.2.2.2)
      · rw [if_pos hd]
        exact skip (fun z => hd (isW_z z))
theorem e_nx76 {F : mI} {a1 : Int32} (ho : ∀ j, j < 18 → F 55 j = bI (cs hv lt j = true)) (hN : 1000 ≤ N) : ∀ (m c : Nat) (x y z : Int32), 1 ≤ c → c ≤ 512 → 512 - c < m → RI hv lt (TR c 0) x y z → ∃ x' y' z', lX9_next_76 N (M b F G n sw) (some (b + 32)) a1 m x y z (nI c) = some (x', y', z') ∧ RI hv lt (TR 512 0) x' y' z' := by
  intro m
  induction m with
  | zero => intro c x y z _ _ h; omega
  | succ m ih =>
    intro c x y z c1 c5 hm hC
    by_cases hc : c = 512
    · subst hc
      refine ⟨x, y, z, ?_, hC⟩
      rw [lX9_next_76, if_pos (by decide)]
    · rw [lX9_next_76, if_neg (show ¬ (512 : Int32) ≤ nI c from nI_ge (b := 512) (by omega) (by decide))]
      obtain ⟨x', y', z', e1, e2⟩ := e_nx97 (N := N) (b := b) (G := G) (n := n) (sw := sw) (a1 := a1) ho c1 (show c < 512 by omega) (by omega) N 1 x y z (by omega) (by omega) (by omega) (RI_e hC (fun l r => by
        unfold TR
        constructor
        · rintro ⟨z1, z2⟩
          exact ⟨z1, by omega⟩
        · rintro ⟨z1, z2⟩
          have := z1.2.2.1
          exact ⟨z1, by omega⟩))
      rw [show nI 1 = (1 : Int32) from rfl] at e1
      simp only [nm, ot_e, e1, b3, Option.bind_some, nI_1]
      refine ih (c + 1) x' y' z' (by omega) (by omega) (by omega) (RI_e e2 (fun l r => ?_))
      unfold TR
      constructor
      · rintro ⟨z1, z2⟩
        exact ⟨z1, by omega⟩
      · rintro ⟨z1, z2⟩
        have := z1.2.2.2.1
        exact ⟨z1, by omega⟩
theorem e_nx9 {F : mI} {a1 : Int32} (ho : ∀ j, j < 18 → F 55 j = bI (cs hv lt j = true)) (hN : 1000 ≤ N) : ∃ l r, lX9_next_76 N (M b F G n sw) (some (b + 32)) a1 N (-9) (-9) (-9) 1 = some (nI l, nI r, nI (wstN hv lt l r)) ∧ bestN hv lt l r := by
  obtain ⟨x', y', z', e1, e2⟩ := e_nx76 (N := N) (b := b) (G := G) (n := n) (sw := sw) (a1 := a1) ho hN N 1 (-9) (-9) (-9) (by omega) (by omega) (by omega) (Or.inl ⟨by
    rintro l r ⟨z1, z2⟩
    have := z1.1
    omega, rfl⟩)
  rcases e2 with ⟨c1, -⟩ | ⟨l, r, ⟨c1, c2⟩, c3, c4, rfl, rfl, rfl⟩
  · exact absurd ⟨isW12, by omega⟩ (c1 1 2)
  · exact ⟨l, r, e1, c1.1, fun l' r' z => c2 _ _ ⟨z, Or.inl z.2.1⟩⟩
end NX
theorem st_next (b : Nat) : St_next b (b + 32) (Inv b (b + 32)) := by
  rintro S ⟨-, F, G, n, sw, rfl, hR⟩ a1
  obtain ⟨r1, r2, r3, r4, r5, r6, r7, r8, r9, r10, r11, ⟨w, hv, lt, w0, w1, w2, w3, w4, w5, w6, w7, w8⟩, r13⟩ := id hR
  have hW : RW9 F w hv lt := ⟨w0, w4, w7, w8⟩
  have p1 := pc_le9 hv
  have p2 := pc_le9 lt
  by_cases h : (0 : Int32) ≤ a1 ∧ a1 ≤ 2
  rotate_left
  · refine ⟨-1, M b F G n sw, M b F G n sw, ?_, ?_, rfl, F, G, n, sw, rfl, hR⟩
    · unfold fX8_next
      simp only [Option.bind_some, bI_0, Decidable.not_not, nm, b2, zr, e_isWithin, e_in, e_isGlass8, e_isGlass9, reduceIte, not_false_eq_true, not_true_eq_false, if_true, if_false, and_self, z01, z10, c00, c11, true_and, and_true, R_0_0, R_0_1, R_0_3, R_0_4, R_0_5, R_0_6, R_0_7, R_0_8, R_0_9, R_1_0, R_1_1, R_1_2, R_1_3, R_7_0, R_7_1, R_10_0, R_10_1, R_10_2, R_14_0, R_16_0, R_18_0, R_18_1, R_18_2, R_18_4, R_18_5, R_18_6, R_18_8, R_18_9, R_27_0, R_27_1, R_27_2, R_32_0, R_32_1, R_32_3, R_32_4, R_32_5, R_32_6, R_32_7, R_32_11, R_32_12, R_32_13, R_32_14, R_32_17, R_32_20, R_32_21, R_32_22, R_32_24, R_32_25, R_32_26, R_32_27, R_32_28, R_32_29, R_32_30, R_32_31, I_0_2, I_1_4, I_7_2, I_14_1, I_16_1, I_18_3, I_18_7, I_27_3, I_27_4, I_31_0, I_31_1, I_31_2, I_31_3, I_31_4, I_31_5, I_31_6, I_32_2, I_32_8, I_32_9, I_32_10, I_32_15, I_32_16, I_32_18, I_32_19, J_0_10, J_32_23, P_0_2, P_0_10, P_1_4, P_7_2, P_14_1, P_16_1, P_18_3, P_18_7, P_27_3, P_27_4, P_31_0, P_31_1, P_31_2, P_31_3, P_31_4, P_31_5, P_31_6, P_32_2, P_32_8, P_32_9, P_32_10, P_32_15, P_32_16, P_32_18, P_32_19, P_32_23, K_0, K_1, K_7, K_10, K_14, K_16, K_18, K_27, K_31, K_32, eq_false h]
    · unfold fX9_next
      simp only [Option.bind_some, bI_0, Decidable.not_not, nm, b2, zr, e_isWithin, e_in, e_isGlass8, e_isGlass9, reduceIte, not_false_eq_true, not_true_eq_false, if_true, if_false, and_self, z01, z10, c00, c11, true_and, and_true, R_0_0, R_0_1, R_0_3, R_0_4, R_0_5, R_0_6, R_0_7, R_0_8, R_0_9, R_1_0, R_1_1, R_1_2, R_1_3, R_7_0, R_7_1, R_10_0, R_10_1, R_10_2, R_14_0, R_16_0, R_18_0, R_18_1, R_18_2, R_18_4, R_18_5, R_18_6, R_18_8, R_18_9, R_27_0, R_27_1, R_27_2, R_32_0, R_32_1, R_32_3, R_32_4, R_32_5, R_32_6, R_32_7, R_32_11, R_32_12, R_32_13, R_32_14, R_32_17, R_32_20, R_32_21, R_32_22, R_32_24, R_32_25, R_32_26, R_32_27, R_32_28, R_32_29, R_32_30, R_32_31, I_0_2, I_1_4, I_7_2, I_14_1, I_16_1, I_18_3, I_18_7, I_27_3, I_27_4, I_31_0, I_31_1, I_31_2, I_31_3, I_31_4, I_31_5, I_31_6, I_32_2, I_32_8, I_32_9, I_32_10, I_32_15, I_32_16, I_32_18, I_32_19, J_0_10, J_32_23, P_0_2, P_0_10, P_1_4, P_7_2, P_14_1, P_16_1, P_18_3, P_18_7, P_27_3, P_27_4, P_31_0, P_31_1, P_31_2, P_31_3, P_31_4, P_31_5, P_31_6, P_32_2, P_32_8, P_32_9, P_32_10, P_32_15, P_32_16, P_32_18, P_32_19, P_32_23, K_0, K_1, K_7, K_10, K_14, K_16, K_18, K_27, K_31, K_32, eq_false h]
  have fo : ∀ (F : mI) k j, k ≠ 55 → opF F hv lt 18 k j = F k j := fun F k j hk => if_neg (fun z => hk z.1)
  by_cases h0 : pcN hv + pcN lt = 0
  · refine ⟨-2, M b F G n sw, M b (opF F hv lt 18) G n sw, ?_, ?_, rfl, opF F hv lt 18, G, n, sw, rfl, ?_⟩
    · unfold fX8_next
      simp only [Option.bind_some, bI_0, Decidable.not_not, nm, b2, zr, e_isWithin, e_in, e_isGlass8, e_isGlass9, reduceIte, not_false_eq_true, not_true_eq_false, if_true, if_false, and_self, z01, z10, c00, c11, true_and, and_true, R_0_0, R_0_1, R_0_3, R_0_4, R_0_5, R_0_6, R_0_7, R_0_8, R_0_9, R_1_0, R_1_1, R_1_2, R_1_3, R_7_0, R_7_1, R_10_0, R_10_1, R_10_2, R_14_0, R_16_0, R_18_0, R_18_1, R_18_2, R_18_4, R_18_5, R_18_6, R_18_8, R_18_9, R_27_0, R_27_1, R_27_2, R_32_0, R_32_1, R_32_3, R_32_4, R_32_5, R_32_6, R_32_7, R_32_11, R_32_12, R_32_13, R_32_14, R_32_17, R_32_20, R_32_21, R_32_22, R_32_24, R_32_25, R_32_26, R_32_27, R_32_28, R_32_29, R_32_30, R_32_31, I_0_2, I_1_4, I_7_2, I_14_1, I_16_1, I_18_3, I_18_7, I_27_3, I_27_4, I_31_0, I_31_1, I_31_2, I_31_3, I_31_4, I_31_5, I_31_6, I_32_2, I_32_8, I_32_9, I_32_10, I_32_15, I_32_16, I_32_18, I_32_19, J_0_10, J_32_23, P_0_2, P_0_10, P_1_4, P_7_2, P_14_1, P_16_1, P_18_3, P_18_7, P_27_3, P_27_4, P_31_0, P_31_1, P_31_2, P_31_3, P_31_4, P_31_5, P_31_6, P_32_2, P_32_8, P_32_9, P_32_10, P_32_15, P_32_16, P_32_18, P_32_19, P_32_23, K_0, K_1, K_7, K_10, K_14, K_16, K_18, K_27, K_31, K_32, eq_true h, e_cases w5 w6 w1 w2, h0, show nI 0 = (0 : Int32) from rfl]
    · unfold fX9_next
      simp only [Option.bind_some, bI_0, Decidable.not_not, nm, b2, zr, e_isWithin, e_in, e_isGlass8, e_isGlass9, reduceIte, not_false_eq_true, not_true_eq_false, if_true, if_false, and_self, z01, z10, c00, c11, true_and, and_true, R_0_0, R_0_1, R_0_3, R_0_4, R_0_5, R_0_6, R_0_7, R_0_8, R_0_9, R_1_0, R_1_1, R_1_2, R_1_3, R_7_0, R_7_1, R_10_0, R_10_1, R_10_2, R_14_0, R_16_0, R_18_0, R_18_1, R_18_2, R_18_4, R_18_5, R_18_6, R_18_8, R_18_9, R_27_0, R_27_1, R_27_2, R_32_0, R_32_1, R_32_3, R_32_4, R_32_5, R_32_6, R_32_7, R_32_11, R_32_12, R_32_13, R_32_14, R_32_17, R_32_20, R_32_21, R_32_22, R_32_24, R_32_25, R_32_26, R_32_27, R_32_28, R_32_29, R_32_30, R_32_31, I_0_2, I_1_4, I_7_2, I_14_1, I_16_1, I_18_3, I_18_7, I_27_3, I_27_4, I_31_0, I_31_1, I_31_2, I_31_3, I_31_4, I_31_5, I_31_6, I_32_2, I_32_8, I_32_9, I_32_10, I_32_15, I_32_16, I_32_18, I_32_19, J_0_10, J_32_23, P_0_2, P_0_10, P_1_4, P_7_2, P_14_1, P_16_1, P_18_3, P_18_7, P_27_3, P_27_4, P_31_0, P_31_1, P_31_2, P_31_3, P_31_4, P_31_5, P_31_6, P_32_2, P_32_8, P_32_9, P_32_10, P_32_15, P_32_16, P_32_18, P_32_19, P_32_23, K_0, K_1, K_7, K_10, K_14, K_16, K_18, K_27, K_31, K_32, eq_true h, e_nx15 hW (show 20 ≤ NF by decide), h0, show nI 0 = (0 : Int32) from rfl]
    · exact ⟨r1, by rw [fo _ _ _ (by omega)]; exact r2, by rw [fo _ _ _ (by omega)]; exact r3, r4, RGl_c (fun k j h => fo _ _ _ (by omega)) (fun _ _ _ => rfl) r5, RTol_c (fun k j h => fo _ _ _ (by omega)) r6, RTab_c (fun k j h => fo _ _ _ (by omega)) r7, fun i hi => RCane_c (fun k j h => fo _ _ _ (by omega)) (r8 i hi), RWish_c (fun k j h => fo _ _ _ (by omega)) r9, RSlice_c (fun k j h => fo _ _ _ (by omega)) r10, ROrd_c (fun k j h => fo _ _ _ (by omega)) r11, RWgh_c (fun k j h => fo _ _ _ (by omega)) ⟨w, hv, lt, w0, w1, w2, w3, w4, w5, w6, w7, w8⟩, RBest_c (fun k j h => fo _ _ _ (by omega)) r13⟩
  · have h0' : ¬ nI (pcN hv + pcN lt) = 0 := ne0 (by omega) (by omega)
    obtain ⟨F1, l, r, e1, e2, e3, e4, e5, e6, e7⟩ : ∃ F1 l r, fX6_findBest NF (M b F G n sw) (some (b + 31)) = some (M b F1 G n sw) ∧ (∀ k j, ¬ (k = 31 ∧ (j = 3 ∨ j = 4 ∨ j = 5 ∨ j = 6)) → F1 k j = F k j) ∧ F1 31 3 = 1 ∧ bestN hv lt l r ∧ F1 31 4 = nI l ∧ F1 31 5 = nI r ∧ F1 31 6 = nI (wstN hv lt l r) := by
      rcases id r13 with z | ⟨z1, hv', lt', l, r, z2, z3, z4, z5, z6, z7, z8, z9⟩
      · exact e_find0 w5 w6 w1 w2 z (by decide)
      · have q1 : hv' = hv := (nI_eq (by omega) (by omega)).mp (z4.symm.trans w5)
        have q2 : lt' = lt := (nI_eq (by omega) (by omega)).mp (z5.symm.trans w6)
        subst q1 q2
        refine ⟨F, l, r, ?_, fun _ _ _ => rfl, z1, z6, z7, z8, z9⟩
        unfold fX6_findBest
        simp only [Option.bind_some, bI_0, Decidable.not_not, nm, b2, zr, e_isWithin, e_in, e_isGlass8, e_isGlass9, reduceIte, not_false_eq_true, not_true_eq_false, if_true, if_false, and_self, z01, z10, c00, c11, true_and, and_true, R_0_0, R_0_1, R_0_3, R_0_4, R_0_5, R_0_6, R_0_7, R_0_8, R_0_9, R_1_0, R_1_1, R_1_2, R_1_3, R_7_0, R_7_1, R_10_0, R_10_1, R_10_2, R_14_0, R_16_0, R_18_0, R_18_1, R_18_2, R_18_4, R_18_5, R_18_6, R_18_8, R_18_9, R_27_0, R_27_1, R_27_2, R_32_0, R_32_1, R_32_3, R_32_4, R_32_5, R_32_6, R_32_7, R_32_11, R_32_12, R_32_13, R_32_14, R_32_17, R_32_20, R_32_21, R_32_22, R_32_24, R_32_25, R_32_26, R_32_27, R_32_28, R_32_29, R_32_30, R_32_31, I_0_2, I_1_4, I_7_2, I_14_1, I_16_1, I_18_3, I_18_7, I_27_3, I_27_4, I_31_0, I_31_1, I_31_2, I_31_3, I_31_4, I_31_5, I_31_6, I_32_2, I_32_8, I_32_9, I_32_10, I_32_15, I_32_16, I_32_18, I_32_19, J_0_10, J_32_23, P_0_2, P_0_10, P_1_4, P_7_2, P_14_1, P_16_1, P_18_3, P_18_7, P_27_3, P_27_4, P_31_0, P_31_1, P_31_2, P_31_3, P_31_4, P_31_5, P_31_6, P_32_2, P_32_8, P_32_9, P_32_10, P_32_15, P_32_16, P_32_18, P_32_19, P_32_23, K_0, K_1, K_7, K_10, K_14, K_16, K_18, K_27, K_31, K_32, z1]
    have hW1 : RW9 F1 w hv lt := by
      refine ⟨w0, by rw [e2 _ _ (by omega)]; exact w4, fun k hk => ?_, fun r hr => ?_⟩
      · rw [e2 _ _ (by omega), e2 _ _ (by omega), e2 _ _ (by omega)]
        exact w7 k hk
      · rw [lft_c (fun k j q => e2 k j (by omega)), lft_c (fun k j q => e2 k j (by omega))]
        exact w8 r hr
    obtain ⟨l', r', f1, f2⟩ := e_nx9 (N := NF) (b := b) (F := opF F1 hv lt 18) (G := G) (n := n) (sw := sw) (hv := hv) (lt := lt) (a1 := a1) (fun j hj => if_pos ⟨rfl, hj⟩) (by decide)
    obtain ⟨rfl, rfl⟩ := best_u e4 f2
    have fr : ∀ k j, k ≠ 55 → ¬ (k = 31 ∧ (j = 3 ∨ j = 4 ∨ j = 5 ∨ j = 6)) → opF F1 hv lt 18 k j = F k j := fun k j k1 k2 => by rw [fo _ _ _ k1, e2 k j k2]
    have fin : Inv b (b + 32) (M b (opF F1 hv lt 18) G n sw) := by
      refine ⟨rfl, opF F1 hv lt 18, G, n, sw, rfl, r1, by rw [fr _ _ (by omega) (by omega)]; exact r2, by rw [fr _ _ (by omega) (by omega)]; exact r3, r4, RGl_c (fun k j h => fr _ _ (by omega) (by omega)) (fun _ _ _ => rfl) r5, RTol_c (fun k j h => fr _ _ (by omega) (by omega)) r6, RTab_c (fun k j h => fr _ _ (by omega) (by omega)) r7, fun i hi => RCane_c (fun k j h => fr _ _ (by omega) (by omega)) (r8 i hi), RWish_c (fun k j h => fr _ _ (by omega) (by omega)) r9, RSlice_c (fun k j h => fr _ _ (by omega) (by omega)) r10, ROrd_c (fun k j h => fr _ _ (by omega) (by omega)) r11, RWgh_c (fun k j h => fr _ _ (by omega) (by omega)) ⟨w, hv, lt, w0, w1, w2, w3, w4, w5, w6, w7, w8⟩, Or.inr ⟨by rw [fo _ _ _ (by omega)]; exact e3, hv, lt, l, r, w1, w2, by rw [fr _ _ (by omega) (by omega)]; exact w5, by rw [fr _ _ (by omega) (by omega)]; exact w6, e4, by rw [fo _ _ _ (by omega)]; exact e5, by rw [fo _ _ _ (by omega)]; exact e6, by rw [fo _ _ _ (by omega)]; exact e7⟩⟩
    obtain ⟨k, -, hk, rfl⟩ := rng 0 2 rfl rfl (by decide) (by decide) h
    rcases (show k = 0 ∨ k = 1 ∨ k = 2 by omega) with rfl | rfl | rfl
    · rw [show nI 0 = (0 : Int32) from rfl] at h f1 ⊢
      refine ⟨nI l, M b F1 G n sw, M b (opF F1 hv lt 18) G n sw, ?_, ?_, fin⟩
      · unfold fX8_next
        simp only [Option.bind_some, bI_0, Decidable.not_not, nm, b2, zr, e_isWithin, e_in, e_isGlass8, e_isGlass9, reduceIte, not_false_eq_true, not_true_eq_false, if_true, if_false, and_self, z01, z10, c00, c11, true_and, and_true, R_0_0, R_0_1, R_0_3, R_0_4, R_0_5, R_0_6, R_0_7, R_0_8, R_0_9, R_1_0, R_1_1, R_1_2, R_1_3, R_7_0, R_7_1, R_10_0, R_10_1, R_10_2, R_14_0, R_16_0, R_18_0, R_18_1, R_18_2, R_18_4, R_18_5, R_18_6, R_18_8, R_18_9, R_27_0, R_27_1, R_27_2, R_32_0, R_32_1, R_32_3, R_32_4, R_32_5, R_32_6, R_32_7, R_32_11, R_32_12, R_32_13, R_32_14, R_32_17, R_32_20, R_32_21, R_32_22, R_32_24, R_32_25, R_32_26, R_32_27, R_32_28, R_32_29, R_32_30, R_32_31, I_0_2, I_1_4, I_7_2, I_14_1, I_16_1, I_18_3, I_18_7, I_27_3, I_27_4, I_31_0, I_31_1, I_31_2, I_31_3, I_31_4, I_31_5, I_31_6, I_32_2, I_32_8, I_32_9, I_32_10, I_32_15, I_32_16, I_32_18, I_32_19, J_0_10, J_32_23, P_0_2, P_0_10, P_1_4, P_7_2, P_14_1, P_16_1, P_18_3, P_18_7, P_27_3, P_27_4, P_31_0, P_31_1, P_31_2, P_31_3, P_31_4, P_31_5, P_31_6, P_32_2, P_32_8, P_32_9, P_32_10, P_32_15, P_32_16, P_32_18, P_32_19, P_32_23, K_0, K_1, K_7, K_10, K_14, K_16, K_18, K_27, K_31, K_32, eq_true h, e_cases w5 w6 w1 w2, eq_false h0', e1, e5]
      · unfold fX9_next
        simp only [Option.bind_some, bI_0, Decidable.not_not, nm, b2, zr, e_isWithin, e_in, e_isGlass8, e_isGlass9, reduceIte, not_false_eq_true, not_true_eq_false, if_true, if_false, and_self, z01, z10, c00, c11, true_and, and_true, R_0_0, R_0_1, R_0_3, R_0_4, R_0_5, R_0_6, R_0_7, R_0_8, R_0_9, R_1_0, R_1_1, R_1_2, R_1_3, R_7_0, R_7_1, R_10_0, R_10_1, R_10_2, R_14_0, R_16_0, R_18_0, R_18_1, R_18_2, R_18_4, R_18_5, R_18_6, R_18_8, R_18_9, R_27_0, R_27_1, R_27_2, R_32_0, R_32_1, R_32_3, R_32_4, R_32_5, R_32_6, R_32_7, R_32_11, R_32_12, R_32_13, R_32_14, R_32_17, R_32_20, R_32_21, R_32_22, R_32_24, R_32_25, R_32_26, R_32_27, R_32_28, R_32_29, R_32_30, R_32_31, I_0_2, I_1_4, I_7_2, I_14_1, I_16_1, I_18_3, I_18_7, I_27_3, I_27_4, I_31_0, I_31_1, I_31_2, I_31_3, I_31_4, I_31_5, I_31_6, I_32_2, I_32_8, I_32_9, I_32_10, I_32_15, I_32_16, I_32_18, I_32_19, J_0_10, J_32_23, P_0_2, P_0_10, P_1_4, P_7_2, P_14_1, P_16_1, P_18_3, P_18_7, P_27_3, P_27_4, P_31_0, P_31_1, P_31_2, P_31_3, P_31_4, P_31_5, P_31_6, P_32_2, P_32_8, P_32_9, P_32_10, P_32_15, P_32_16, P_32_18, P_32_19, P_32_23, K_0, K_1, K_7, K_10, K_14, K_16, K_18, K_27, K_31, K_32, b3, eq_true h, e_nx15 hW1 (show 20 ≤ NF by decide), eq_false h0', f1]
    · rw [show nI 1 = (1 : Int32) from rfl] at h f1 ⊢
      refine ⟨nI r, M b F1 G n sw, M b (opF F1 hv lt 18) G n sw, ?_, ?_, fin⟩
      · unfold fX8_next
        simp only [Option.bind_some, bI_0, Decidable.not_not, nm, b2, zr, e_isWithin, e_in, e_isGlass8, e_isGlass9, reduceIte, not_false_eq_true, not_true_eq_false, if_true, if_false, and_self, z01, z10, c00, c11, true_and, and_true, R_0_0, R_0_1, R_0_3, R_0_4, R_0_5, R_0_6, R_0_7, R_0_8, R_0_9, R_1_0, R_1_1, R_1_2, R_1_3, R_7_0, R_7_1, R_10_0, R_10_1, R_10_2, R_14_0, R_16_0, R_18_0, R_18_1, R_18_2, R_18_4, R_18_5, R_18_6, R_18_8, R_18_9, R_27_0, R_27_1, R_27_2, R_32_0, R_32_1, R_32_3, R_32_4, R_32_5, R_32_6, R_32_7, R_32_11, R_32_12, R_32_13, R_32_14, R_32_17, R_32_20, R_32_21, R_32_22, R_32_24, R_32_25, R_32_26, R_32_27, R_32_28, R_32_29, R_32_30, R_32_31, I_0_2, I_1_4, I_7_2, I_14_1, I_16_1, I_18_3, I_18_7, I_27_3, I_27_4, I_31_0, I_31_1, I_31_2, I_31_3, I_31_4, I_31_5, I_31_6, I_32_2, I_32_8, I_32_9, I_32_10, I_32_15, I_32_16, I_32_18, I_32_19, J_0_10, J_32_23, P_0_2, P_0_10, P_1_4, P_7_2, P_14_1, P_16_1, P_18_3, P_18_7, P_27_3, P_27_4, P_31_0, P_31_1, P_31_2, P_31_3, P_31_4, P_31_5, P_31_6, P_32_2, P_32_8, P_32_9, P_32_10, P_32_15, P_32_16, P_32_18, P_32_19, P_32_23, K_0, K_1, K_7, K_10, K_14, K_16, K_18, K_27, K_31, K_32, eq_true h, e_cases w5 w6 w1 w2, eq_false h0', e1, e6]
      · unfold fX9_next
        simp only [Option.bind_some, bI_0, Decidable.not_not, nm, b2, zr, e_isWithin, e_in, e_isGlass8, e_isGlass9, reduceIte, not_false_eq_true, not_true_eq_false, if_true, if_false, and_self, z01, z10, c00, c11, true_and, and_true, R_0_0, R_0_1, R_0_3, R_0_4, R_0_5, R_0_6, R_0_7, R_0_8, R_0_9, R_1_0, R_1_1, R_1_2, R_1_3, R_7_0, R_7_1, R_10_0, R_10_1, R_10_2, R_14_0, R_16_0, R_18_0, R_18_1, R_18_2, R_18_4, R_18_5, R_18_6, R_18_8, R_18_9, R_27_0, R_27_1, R_27_2, R_32_0, R_32_1, R_32_3, R_32_4, R_32_5, R_32_6, R_32_7, R_32_11, R_32_12, R_32_13, R_32_14, R_32_17, R_32_20, R_32_21, R_32_22, R_32_24, R_32_25, R_32_26, R_32_27, R_32_28, R_32_29, R_32_30, R_32_31, I_0_2, I_1_4, I_7_2, I_14_1, I_16_1, I_18_3, I_18_7, I_27_3, I_27_4, I_31_0, I_31_1, I_31_2, I_31_3, I_31_4, I_31_5, I_31_6, I_32_2, I_32_8, I_32_9, I_32_10, I_32_15, I_32_16, I_32_18, I_32_19, J_0_10, J_32_23, P_0_2, P_0_10, P_1_4, P_7_2, P_14_1, P_16_1, P_18_3, P_18_7, P_27_3, P_27_4, P_31_0, P_31_1, P_31_2, P_31_3, P_31_4, P_31_5, P_31_6, P_32_2, P_32_8, P_32_9, P_32_10, P_32_15, P_32_16, P_32_18, P_32_19, P_32_23, K_0, K_1, K_7, K_10, K_14, K_16, K_18, K_27, K_31, K_32, b3, eq_true h, e_nx15 hW1 (show 20 ≤ NF by decide), eq_false h0', f1]
    · rw [show nI 2 = (2 : Int32) from rfl] at h f1 ⊢
      refine ⟨nI (wstN hv lt l r), M b F1 G n sw, M b (opF F1 hv lt 18) G n sw, ?_, ?_, fin⟩
      · unfold fX8_next
        simp only [Option.bind_some, bI_0, Decidable.not_not, nm, b2, zr, e_isWithin, e_in, e_isGlass8, e_isGlass9, reduceIte, not_false_eq_true, not_true_eq_false, if_true, if_false, and_self, z01, z10, c00, c11, true_and, and_true, R_0_0, R_0_1, R_0_3, R_0_4, R_0_5, R_0_6, R_0_7, R_0_8, R_0_9, R_1_0, R_1_1, R_1_2, R_1_3, R_7_0, R_7_1, R_10_0, R_10_1, R_10_2, R_14_0, R_16_0, R_18_0, R_18_1, R_18_2, R_18_4, R_18_5, R_18_6, R_18_8, R_18_9, R_27_0, R_27_1, R_27_2, R_32_0, R_32_1, R_32_3, R_32_4, R_32_5, R_32_6, R_32_7, R_32_11, R_32_12, R_32_13, R_32_14, R_32_17, R_32_20, R_32_21, R_32_22, R_32_24, R_32_25, R_32_26, R_32_27, R_32_28, R_32_29, R_32_30, R_32_31, I_0_2, I_1_4, I_7_2, I_14_1, I_16_1, I_18_3, I_18_7, I_27_3, I_27_4, I_31_0, I_31_1, I_31_2, I_31_3, I_31_4, I_31_5, I_31_6, I_32_2, I_32_8, I_32_9, I_32_10, I_32_15, I_32_16, I_32_18, I_32_19, J_0_10, J_32_23, P_0_2, P_0_10, P_1_4, P_7_2, P_14_1, P_16_1, P_18_3, P_18_7, P_27_3, P_27_4, P_31_0, P_31_1, P_31_2, P_31_3, P_31_4, P_31_5, P_31_6, P_32_2, P_32_8, P_32_9, P_32_10, P_32_15, P_32_16, P_32_18, P_32_19, P_32_23, K_0, K_1, K_7, K_10, K_14, K_16, K_18, K_27, K_31, K_32, eq_true h, e_cases w5 w6 w1 w2, eq_false h0', e1, e7, show ((2 : Int32) = 0) = False from eq_false (by decide), show ((2 : Int32) = 1) = False from eq_false (by decide)]
      · unfold fX9_next
        simp only [Option.bind_some, bI_0, Decidable.not_not, nm, b2, zr, e_isWithin, e_in, e_isGlass8, e_isGlass9, reduceIte, not_false_eq_true, not_true_eq_false, if_true, if_false, and_self, z01, z10, c00, c11, true_and, and_true, R_0_0, R_0_1, R_0_3, R_0_4, R_0_5, R_0_6, R_0_7, R_0_8, R_0_9, R_1_0, R_1_1, R_1_2, R_1_3, R_7_0, R_7_1, R_10_0, R_10_1, R_10_2, R_14_0, R_16_0, R_18_0, R_18_1, R_18_2, R_18_4, R_18_5, R_18_6, R_18_8, R_18_9, R_27_0, R_27_1, R_27_2, R_32_0, R_32_1, R_32_3, R_32_4, R_32_5, R_32_6, R_32_7, R_32_11, R_32_12, R_32_13, R_32_14, R_32_17, R_32_20, R_32_21, R_32_22, R_32_24, R_32_25, R_32_26, R_32_27, R_32_28, R_32_29, R_32_30, R_32_31, I_0_2, I_1_4, I_7_2, I_14_1, I_16_1, I_18_3, I_18_7, I_27_3, I_27_4, I_31_0, I_31_1, I_31_2, I_31_3, I_31_4, I_31_5, I_31_6, I_32_2, I_32_8, I_32_9, I_32_10, I_32_15, I_32_16, I_32_18, I_32_19, J_0_10, J_32_23, P_0_2, P_0_10, P_1_4, P_7_2, P_14_1, P_16_1, P_18_3, P_18_7, P_27_3, P_27_4, P_31_0, P_31_1, P_31_2, P_31_3, P_31_4, P_31_5, P_31_6, P_32_2, P_32_8, P_32_9, P_32_10, P_32_15, P_32_16, P_32_18, P_32_19, P_32_23, K_0, K_1, K_7, K_10, K_14, K_16, K_18, K_27, K_31, K_32, b3, eq_true h, e_nx15 hW1 (show 20 ≤ NF by decide), eq_false h0', f1, show ((2 : Int32) = 0) = False from eq_false (by decide), show ((2 : Int32) = 1) = False from eq_false (by decide)]
