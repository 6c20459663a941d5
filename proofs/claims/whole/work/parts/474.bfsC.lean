/-! ===== 474: the class's search ===== -/
def enc (e : Int32) : Option Nat → Int32
  | none => e
  | some j => nI j
def evC (u : Nat) : Prop := (u % 8 + u / 8) % 2 = 0
def inPc (p u : Nat) : Prop := u < 64 ∧ u % 8 < p ∧ u / 8 < p
def nbQ (p u d : Nat) : Option Nat := if d = 0 then (if 1 ≤ u % 8 then some (u - 1) else none) else if d = 1 then (if u % 8 + 1 < p then some (u + 1) else none) else if d = 2 then (if 1 ≤ u / 8 then some (u - 8) else none) else (if u / 8 + 1 < p then some (u + 8) else none)
def nbC (F : mI) (i p u d : Nat) : Option Nat := (nbQ p u d).bind fun w => if crN F (glN F i u) (glN F i w) = true then some w else none
def EdC (F : mI) (i p : Nat) (u w : Nat) : Prop := inPc p u ∧ evC u ∧ ∃ d, d < 4 ∧ nbC F i p u d = some w
theorem nbC_q {F : mI} {i p u d w : Nat} (h : nbC F i p u d = some w) : nbQ p u d = some w := by
  unfold nbC at h
  cases hq : nbQ p u d with
  | none => rw [hq] at h; exact (nsm h).elim
  | some z =>
    rw [hq, Option.bind_some] at h
    by_cases e : crN F (glN F i u) (glN F i z) = true
    · rw [if_pos e] at h; exact h
    · rw [if_neg e] at h; exact (nsm h).elim
theorem nb_fin {p u w w' : Nat} (hu : u < 64 ∧ u % 8 < p ∧ u / 8 < p) (h : w' = w) (h2 : w' < 64 ∧ w' % 8 < p ∧ w' / 8 < p ∧ ((w' % 8 = u % 8 ∧ (w' / 8 + 1 = u / 8 ∨ w' / 8 = u / 8 + 1)) ∨ (w' / 8 = u / 8 ∧ (w' % 8 + 1 = u % 8 ∨ w' % 8 = u % 8 + 1)))) : w < 64 ∧ w % 8 < p ∧ w / 8 < p ∧ (evC u → ¬ evC w) := by
  subst h
  refine ⟨h2.1, h2.2.1, h2.2.2.1, ?_⟩
  unfold evC
  have := h2.2.2.2
  generalize w' % 8 = a at *
  generalize w' / 8 = c at *
  generalize u % 8 = a2 at *
  generalize u / 8 = c2 at *
  omega
theorem nbQ_w {p u d w : Nat} (hp : p ≤ 8) (hu : inPc p u) (h : nbQ p u d = some w) : w < 64 ∧ w % 8 < p ∧ w / 8 < p ∧ (evC u → ¬ evC w) := by
  unfold inPc at hu
  unfold nbQ at h
  by_cases d0 : d = 0
  · rw [if_pos d0] at h
    by_cases z : 1 ≤ u % 8
    · rw [if_pos z] at h; exact nb_fin hu (Option.some.inj h) (by omega)
    · rw [if_neg z] at h; exact (nsm h).elim
  · rw [if_neg d0] at h
    by_cases d1 : d = 1
    · rw [if_pos d1] at h
      by_cases z : u % 8 + 1 < p
      · rw [if_pos z] at h; exact nb_fin hu (Option.some.inj h) (by omega)
      · rw [if_neg z] at h; exact (nsm h).elim
    · rw [if_neg d1] at h
      by_cases d2 : d = 2
      · rw [if_pos d2] at h
        by_cases z : 1 ≤ u / 8
        · rw [if_pos z] at h; exact nb_fin hu (Option.some.inj h) (by omega)
        · rw [if_neg z] at h; exact (nsm h).elim
      · rw [if_neg d2] at h
        by_cases z : u / 8 + 1 < p
        · rw [if_pos z] at h; exact nb_fin hu (Option.some.inj h) (by omega)
        · rw [if_neg z] at h; exact (nsm h).elim
theorem EdC_ok {F : mI} {i p : Nat} (hp : p ≤ 8) : EdOk (EdC F i p) evC (inPc p) := by
  rintro u w ⟨h1, h2, d, -, h3⟩
  obtain ⟨a1, -, -, a2⟩ := nbQ_w hp h1 (nbC_q h3)
  exact ⟨h2, h1, h1.1, a2 h2, a1⟩
theorem BI_le {Ed : Nat → Nat → Prop} {ev inP : Nat → Prop} {mt cb : Nat → Option Nat} {v en : Nat} {ln rk : Nat → Nat} (hE : EdOk Ed ev inP) (h : BI Ed ev inP mt v cb ln en rk) : en ≤ 64 := by
  obtain ⟨⟨h1, h1'⟩, h2, h3, h4, h5⟩ := h
  have hv : ev v ∧ inP v ∧ v < 64 := by rw [← h1]; exact h5 0 (by omega)
  have hvn : (cb v).isSome = false := by
    cases hcv : cb v with
    | none => rfl
    | some u => exact absurd hv.1 (hE _ _ (h3 v u hcv).1).2.2.2.1
  have := cn_miss (P := fun x => (cb x).isSome) (a := v) hvn 64
  rw [if_pos hv.2.2] at this
  omega
theorem CK_c {F0 F : mI} {i p : Nat} (h : ∀ k j, (k = 57 + 3 * i ∨ k = 58 + 3 * i ∨ k = 35 ∨ k = 39 ∨ k = 2 ∨ k = 33 ∨ k = 1 ∨ k = 32) → F k j = F0 k j) (H : CK F0 i p) : CK F i p ∧ nbC F i p = nbC F0 i p := by
  obtain ⟨h1, h2, h3, h4, h5, h6⟩ := H
  refine ⟨⟨h1, by rw [h _ _ (by omega)]; exact h2, by rw [h _ _ (by omega)]; exact h3, fun x y hx hy => ?_, fun g g1 g8 => ?_, ?_⟩, ?_⟩
  · rw [h (58 + 3 * i) _ (by omega), h 39 _ (by omega)]
    exact h4 x y hx hy
  · rw [h 2 _ (by omega), h 33 _ (by omega)]
    exact h5 g g1 g8
  · unfold RTol
    rw [h 1 4 (by omega), h 32 15 (by omega)]
    exact h6
  · funext u d
    unfold nbC crN glN shN tolN
    simp only [h 33 _ (show _ by omega), h 32 15 (by omega), h (58 + 3 * i) _ (by omega)]
def Rp (a c l : Nat) (e : Int32) (F : mI) (mt cb : Nat → Option Nat) (ln : Nat → Nat) (en : Nat) : Prop := (∀ j, j < 64 → F a j = enc e (mt j)) ∧ (∀ j, j < 64 → F c j = enc e (cb j)) ∧ ∀ k, k < en → F l k = nI (ln k)
def Fr3 (a c l : Nat) (F0 F : mI) : Prop := ∀ k j, k ≠ a → k ≠ c → k ≠ l → F k j = F0 k j
theorem enc_ne {e : Int32} (he : ∀ j, j < 64 → ¬ nI j = e) {o : Option Nat} (ho : ∀ j, o = some j → j < 64) : enc e o = e ↔ o = none := by
  cases o with
  | none => exact ⟨fun _ => rfl, fun _ => rfl⟩
  | some j => exact ⟨fun z => absurd z (he j (ho j rfl)), fun z => (smn z).elim⟩
theorem fl2_rep {a w u : Nat} {e : Int32} {F : mI} {cur : Nat → Option Nat} (h : ∀ j, j < 64 → F a j = enc e (cur j)) (huw : u ≠ w) : (∀ j, j < 64 → u2 (u2 F a w (nI u)) a u (nI w) a j = enc e (fl2 cur w u j)) ∧ (∀ j, j < 64 → u2 (u2 F a u (nI w)) a w (nI u) a j = enc e (fl2 cur w u j)) := by
  constructor
  · intro j hj
    unfold fl2
    by_cases e1 : j = w
    · subst e1
      rw [u2_ne _ _ _ _ (fun z => huw z.2.symm), u2_eq, if_pos rfl]
      rfl
    · rw [if_neg e1]
      by_cases e2 : j = u
      · subst e2
        rw [u2_eq, if_pos rfl]
        rfl
      · rw [if_neg e2, u2_ne _ _ _ _ (fun z => e2 z.2), u2_ne _ _ _ _ (fun z => e1 z.2)]
        exact h j hj
  · intro j hj
    unfold fl2
    by_cases e1 : j = w
    · subst e1
      rw [u2_eq, if_pos rfl]
      rfl
    · rw [if_neg e1, u2_ne _ _ _ _ (fun z => e1 z.2)]
      by_cases e2 : j = u
      · subst e2
        rw [u2_eq, if_pos rfl]
        rfl
      · rw [if_neg e2, u2_ne _ _ _ _ (fun z => e2 z.2)]
        exact h j hj
theorem m1ne (j : Nat) (h : j < 64) : ¬ nI j = -1 := by
  have q : ∀ k : Fin 64, ¬ nI k.1 = -1 := by decide
  exact q ⟨j, h⟩
section B8
variable {b : Nat} {G : mJ} {n : Nat} {sw : Bool} {N : Nat} {i p : Nat}
theorem e_isCell_y {S : pH} {j : Nat} (h : j < 64) : fX2_isCell N S (nI j) = some 1 := by
  unfold fX2_isCell
  rw [if_neg (nI_pos (by omega)), if_neg (show ¬ (64 : Int32) ≤ nI j from nI_ge (b := 64) h (by decide))]
theorem e_isCell_n {S : pH} : fX2_isCell N S (-1) = some 0 := by
  unfold fX2_isCell
  rw [if_pos (by decide)]
theorem cby_in {F : mI} {u x' y' : Nat} (hi : i < n) (h : CK F i p) (hu : inPc p u) (hx : x' < p) (hy : y' < p) : ((fX5_at N (M b F G n sw) (some (b + (57 + 3 * i))) (nI (u % 8)) (nI (u / 8))).bind fun x25 => (fX5_at N (M b F G n sw) (some (b + (57 + 3 * i))) (nI x') (nI y')).bind fun x26 => (fX3_crackEachOther N (M b F G n sw) (some (b + 1)) x25 x26).bind fun x27 => if ¬ x27 = 0 then (some ((nI y' * (8 : Int32)) + nI x')) else some (-1 : Int32)) = some (enc (-1) (if crN F (glN F i u) (glN F i (8 * y' + x')) = true then some (8 * y' + x') else none)) := by
  obtain ⟨-, -, g1, g8⟩ := CK_g h hu.2.1 hu.2.2
  obtain ⟨-, -, d1, d8⟩ := CK_g h hx hy
  have eu : 8 * (u / 8) + u % 8 = u := by omega
  rw [e_atN hi h hu.2.1 hu.2.2, eu]
  rw [eu] at g1 g8
  simp only [Option.bind_some, e_atN hi h hx hy, e_crk8 h g1 g8 d1 d8, ix8]
  by_cases z : crN F (glN F i u) (glN F i (8 * y' + x')) = true
  · rw [bI_t z, if_pos z10, if_pos z]
    rfl
  · rw [bI_f z, if_neg (fun w => w rfl), if_neg z]
    rfl
theorem cby_out {F : mI} {u : Nat} {X Y : Int32} (hi : i < n) (h : CK F i p) (hu : inPc p u) (hX : ¬ (rg p X ∧ rg p Y)) : ((fX5_at N (M b F G n sw) (some (b + (57 + 3 * i))) (nI (u % 8)) (nI (u / 8))).bind fun x25 => (fX5_at N (M b F G n sw) (some (b + (57 + 3 * i))) X Y).bind fun x26 => (fX3_crackEachOther N (M b F G n sw) (some (b + 1)) x25 x26).bind fun x27 => if ¬ x27 = 0 then (some ((Y * (8 : Int32)) + X)) else some (-1 : Int32)) = some (enc (-1) none) := by
  obtain ⟨-, -, g1, g8⟩ := CK_g h hu.2.1 hu.2.2
  rw [e_atN hi h hu.2.1 hu.2.2]
  simp only [Option.bind_some, e_at_out (P_cane hi h.2.1 h.1) hX, e_crk0 g1 g8]
  rw [if_neg (fun w => w trivial)]
  rfl
theorem rgm1 (q : Nat) : ¬ rg q (-1) := fun z => absurd z.1 (by decide)
theorem e_cby {F : mI} {u d : Nat} (hi : i < n) (h : CK F i p) (hu : inPc p u) (hd : d < 4) : fX2_crackedBy N (M b F G n sw) (nI u) (nI d) (some (b + (57 + 3 * i))) (some (b + 1)) = some (enc (-1) (nbC F i p u d)) := by
  have hu6 := hu.1
  have hp8 := h.1
  have h3 : nI u - nI u / (8 : Int32) * (8 : Int32) = nI (u % 8) := pk_rem (d := 8) (by omega) (by decide) (by decide)
  have h2 : nI u / (8 : Int32) = nI (u / 8) := pk_div (d := 8) (by omega) (by decide) (by decide)
  unfold fX2_crackedBy
  rw [h3, h2]
  simp only [nm]
  unfold nbC nbQ
  rcases (show d = 0 ∨ d = 1 ∨ d = 2 ∨ d = 3 by omega) with rfl | rfl | rfl | rfl
  · rw [if_neg (show ¬ ¬ nI 0 = (0 : Int32) from fun z => z rfl), if_pos (show ¬ nI 0 = (2 : Int32) by decide), if_pos (show ¬ nI 0 = (3 : Int32) by decide), if_pos rfl]
    by_cases z : 1 ≤ u % 8
    · rw [show nI (u % 8) - 1 = nI (u % 8 - 1) from pk_sub (b := 1) z, cby_in hi h hu (show u % 8 - 1 < p by have := hu.2.1; omega) hu.2.2, if_pos z, show 8 * (u / 8) + (u % 8 - 1) = u - 1 by omega]
      rfl
    · rw [if_neg z, cby_out hi h hu (fun w => ?_)]
      · rfl
      · rw [show u % 8 = 0 by omega] at w
        exact rgm1 p w.1
  · rw [if_pos (show ¬ nI 1 = (0 : Int32) by decide), if_neg (show ¬ ¬ nI 1 = (1 : Int32) from fun z => z rfl), if_pos (show ¬ nI 1 = (2 : Int32) by decide), if_pos (show ¬ nI 1 = (3 : Int32) by decide), if_neg (by omega), if_pos rfl, nI_1]
    by_cases z : u % 8 + 1 < p
    · rw [cby_in hi h hu z hu.2.2, if_pos z, show 8 * (u / 8) + (u % 8 + 1) = u + 1 by omega]
      rfl
    · rw [if_neg z, cby_out hi h hu (fun w => ?_)]
      · rfl
      · rw [show u % 8 + 1 = p by have := hu.2.1; omega] at w
        exact nrg (by omega) w.1
  · rw [if_pos (show ¬ nI 2 = (0 : Int32) by decide), if_pos (show ¬ nI 2 = (1 : Int32) by decide), if_neg (show ¬ ¬ nI 2 = (2 : Int32) from fun z => z rfl), if_neg (by omega), if_neg (by omega), if_pos rfl]
    by_cases z : 1 ≤ u / 8
    · rw [show nI (u / 8) - 1 = nI (u / 8 - 1) from pk_sub (b := 1) z, cby_in hi h hu hu.2.1 (show u / 8 - 1 < p by have := hu.2.2; omega), if_pos z, show 8 * (u / 8 - 1) + u % 8 = u - 8 by omega]
      rfl
    · rw [if_neg z, cby_out hi h hu (fun w => ?_)]
      · rfl
      · rw [show u / 8 = 0 by omega] at w
        exact rgm1 p w.2
  · rw [if_pos (show ¬ nI 3 = (0 : Int32) by decide), if_pos (show ¬ nI 3 = (1 : Int32) by decide), if_pos (show ¬ nI 3 = (2 : Int32) by decide), if_neg (show ¬ ¬ nI 3 = (3 : Int32) from fun z => z rfl), if_neg (by omega), if_neg (by omega), if_neg (by omega), nI_1]
    by_cases z : u / 8 + 1 < p
    · rw [cby_in hi h hu hu.2.1 z, if_pos z, show 8 * (u / 8 + 1) + u % 8 = u + 8 by omega]
      rfl
    · rw [if_neg z, cby_out hi h hu (fun w => ?_)]
      · rfl
      · rw [show u / 8 + 1 = p by have := hu.2.2; omega] at w
        exact nrg (by omega) w.2
theorem e_flip8 {Ed : Nat → Nat → Prop} {ev inP : Nat → Prop} {mt cb : Nat → Option Nat} {v : Nat} {rk : Nat → Nat} (hE : EdOk Ed ev inP) (hV : Vm Ed ev mt) (hev : ev v) (hRd : Rd Ed mt v cb rk) : ∀ (m w t : Nat) (cur : Nat → Option Nat) (F : mI), FI Ed ev mt v cb rk w cur → (∀ j, j < 64 → F 11 j = enc (-1) (cur j)) → (∀ j, j < 64 → F 12 j = enc (-1) (cb j)) → cb w ≠ none → t + rk w < 64 → rk w + 1 < m → ∃ F' cur', (lX2_changePairs_4 N (some (b + 10)) m (nI w) (nI t) (M b F G n sw) = some (.inl (M b F' G n sw))) ∧ (∀ k j, k ≠ 11 → F' k j = F k j) ∧ (∀ j, j < 64 → F' 11 j = enc (-1) (cur' j)) ∧ Vm Ed ev cur' ∧ ∀ z, Sm ev cur' z ↔ (Sm ev mt z ∨ z = v) := by
  intro m
  induction m with
  | zero => intro w t cur F _ _ _ _ _ h; omega
  | succ m ih =>
    intro w t cur F hF h11 h12 hc ht hm
    cases hcw : cb w with
    | none => exact absurd hcw hc
    | some u =>
      have hEd := (hRd w u hcw).1
      have hw := hE _ _ hEd
      have huw : u ≠ w := fun e => hw.2.2.2.1 (e ▸ hw.1)
      have f12 : F 12 w = nI u := by rw [h12 w hw.2.2.2.2, hcw]; rfl
      rw [lX2_changePairs_4, if_neg (show ¬ (64 : Int32) ≤ nI t from nI_ge (b := 64) (by omega) (by decide)), e_isCell_y hw.2.2.2.2]
      simp only [Option.bind_some]
      rw [if_neg z10, R_10_1]
      simp only [Option.bind_some]
      rw [L_12 hw.2.2.2.2, f12]
      simp only [Option.bind_some]
      rw [e_isCell_y hw.2.2.1]
      simp only [Option.bind_some]
      rw [if_pos z10, R_10_0]
      simp only [Option.bind_some]
      rw [L_11 hw.2.2.1, h11 u hw.2.2.1]
      simp only [Option.bind_some]
      rw [T_11 hw.2.2.2.2]
      simp only [Option.bind_some, R_10_0]
      rw [T_11 hw.2.2.1]
      simp only [Option.bind_some, nm, nI_1]
      have rep := (fl2_rep h11 huw).1
      by_cases huv : u = v
      · subst huv
        have hcv : cur u = none := hF.2.2.1
        rw [hcv]
        show ∃ F' cur', (lX2_changePairs_4 N (some (b + 10)) m (-1) (nI (t + 1)) (M b (u2 (u2 F 11 w (nI u)) 11 u (nI w)) G n sw) = some (.inl (M b F' G n sw))) ∧ _
        obtain ⟨q1, q2⟩ := FI_end hE hF hEd
        refine ⟨u2 (u2 F 11 w (nI u)) 11 u (nI w), fl2 cur w u, ?_, fun k j hk => by rw [u2_ne _ _ _ _ (fun z => hk z.1), u2_ne _ _ _ _ (fun z => hk z.1)], rep, q1, q2⟩
        obtain ⟨m', rfl⟩ : ∃ m', m = m' + 1 := ⟨m - 1, by omega⟩
        rw [lX2_changePairs_4]
        by_cases h64 : (64 : Int32) ≤ nI (t + 1)
        · rw [if_pos h64]
        · rw [if_neg h64, e_isCell_n]
          rfl
      · obtain ⟨w', a1, a2, a3, a4⟩ := FI_s hev hV hE hRd hF hcw huv
        rw [a1]
        obtain ⟨F', cur', q1, q2, q3, q4, q5⟩ := ih w' (t + 1) (fl2 cur w u) (u2 (u2 F 11 w (nI u)) 11 u (nI w)) a4 rep (fun j hj => by rw [u2_ne _ _ _ _ (by omega), u2_ne _ _ _ _ (by omega)]; exact h12 j hj) a2 (by omega) (by omega)
        exact ⟨F', cur', q1, fun k j hk => by rw [q2 k j hk, u2_ne _ _ _ _ (fun z => hk z.1), u2_ne _ _ _ _ (fun z => hk z.1)], q3, q4, q5⟩
/-- what a search that found leaves -/
def Fnd (Ed : Nat → Nat → Prop) (ev : Nat → Prop) (a c l : Nat) (e : Int32) (F0 : mI) (mt : Nat → Option Nat) (v : Nat) (F' : mI) : Prop := Fr3 a c l F0 F' ∧ ∃ mt', (∀ j, j < 64 → F' a j = enc e (mt' j)) ∧ Vm Ed ev mt' ∧ ∀ z, Sm ev mt' z ↔ (Sm ev mt z ∨ z = v)
theorem e_d8 {F0 : mI} {mt : Nat → Option Nat} {v k : Nat} (hi : i < n) (hK : CK F0 i p) (hV : Vm (EdC F0 i p) evC mt) (hvn : mt v = none) (hN : 300 ≤ N) : ∀ (m d en : Nat) (cb : Nat → Option Nat) (ln rk : Nat → Nat) (F : mI), d ≤ 4 → 4 - d < m → k < en → BI (EdC F0 i p) evC (inPc p) mt v cb ln en rk → Rp 11 12 13 (-1) F mt cb ln en → Fr3 11 12 13 F0 F → (∀ k', k' < k → ∀ w, EdC F0 i p (ln k') w → cb w ≠ none) → (∀ d', d' < d → ∀ w, nbC F0 i p (ln k) d' = some w → cb w ≠ none) →
    (∃ en' cb' ln' rk' F', lX2_findsPartner_56 N (some (b + 10)) (some (b + (57 + 3 * i))) (some (b + 1)) (nI k) (nI (ln k)) m (nI en) (nI d) (M b F G n sw) = some (.inl (nI en', M b F' G n sw)) ∧ k < en' ∧ BI (EdC F0 i p) evC (inPc p) mt v cb' ln' en' rk' ∧ Rp 11 12 13 (-1) F' mt cb' ln' en' ∧ Fr3 11 12 13 F0 F' ∧ ∀ k', k' < k + 1 → ∀ w, EdC F0 i p (ln' k') w → cb' w ≠ none) ∨ (∃ F', lX2_findsPartner_56 N (some (b + 10)) (some (b + (57 + 3 * i))) (some (b + 1)) (nI k) (nI (ln k)) m (nI en) (nI d) (M b F G n sw) = some (.inr (1, M b F' G n sw)) ∧ Fnd (EdC F0 i p) evC 11 12 13 (-1) F0 mt v F') := by
  have hE : EdOk (EdC F0 i p) evC (inPc p) := EdC_ok hK.1
  intro m
  induction m with
  | zero => intro d en cb ln rk F _ h; omega
  | succ m ih =>
    intro d en cb ln rk F hd hm hk hB hR hF hk' hd'
    obtain ⟨c1, c2⟩ := CK_c (F := F) (fun k j h => hF k j (by omega) (by omega) (by omega)) hK
    obtain ⟨b1, b2, b3, b4, b5⟩ := id hB
    obtain ⟨hu1, hu2, hu3⟩ := b5 k hk
    by_cases hd4 : d = 4
    · left
      refine ⟨en, cb, ln, rk, F, ?_, hk, hB, hR, hF, fun k' hk1 w hw => ?_⟩
      · rw [lX2_findsPartner_56, if_pos (by rw [hd4]; decide)]
      · by_cases e : k' = k
        · subst e
          obtain ⟨-, -, d', q1, q2⟩ := hw
          exact hd' d' (by omega) w q2
        · exact hk' k' (by omega) w hw
    · have hsk : ∀ w, nbC F0 i p (ln k) d = some w → cb w ≠ none → ∀ d', d' < d + 1 → ∀ w, nbC F0 i p (ln k) d' = some w → cb w ≠ none := by
        intro w0 h0 h1 d' q w hw
        by_cases e : d' = d
        · rw [e, h0] at hw
          rw [← Option.some.inj hw]
          exact h1
        · exact hd' d' (by omega) w hw
      have hsn : nbC F0 i p (ln k) d = none → ∀ d', d' < d + 1 → ∀ w, nbC F0 i p (ln k) d' = some w → cb w ≠ none := by
        intro h0 d' q w hw
        by_cases e : d' = d
        · rw [e, h0] at hw
          exact (nsm hw).elim
        · exact hd' d' (by omega) w hw
      rw [lX2_findsPartner_56, if_neg (show ¬ (4 : Int32) ≤ nI d from nI_ge (b := 4) (by omega) (by decide)), e_cby hi c1 hu2 (by omega), c2]
      simp only [Option.bind_some]
      cases hnb : nbC F0 i p (ln k) d with
      | none =>
        rw [show enc (-1) (none : Option Nat) = -1 from rfl, e_isCell_n]
        simp only [Option.bind_some, nm, if_true, nI_1]
        exact ih (d + 1) en cb ln rk F (by omega) (by omega) hk hB hR hF hk' (hsn hnb)
      | some w =>
        have hEd : EdC F0 i p (ln k) w := ⟨hu2, hu1, d, by omega, hnb⟩
        have hw := hE _ _ hEd
        have hw6 : w < 64 := hw.2.2.2.2
        have hne := enc_ne (e := -1) (o := cb w) m1ne (fun j hj => (hE _ _ (b3 w j hj).1).2.2.1)
        rw [show enc (-1) (some w) = nI w from rfl, e_isCell_y hw6]
        simp only [Option.bind_some, nm, R_10_1, nI_1]
        rw [if_neg z10, L_12 hw6, hR.2.1 w hw6]
        simp only [Option.bind_some]
        by_cases hcw : cb w = none
        · rw [if_neg (fun z => z (hne.mpr hcw)), T_12 hw6]
          simp only [Option.bind_some, R_10_0, R_10_2]
          have f11 : u2 F 12 w (nI (ln k)) 11 w = enc (-1) (mt w) := by rw [u2_ne _ _ _ _ (by omega)]; exact hR.1 w hw6
          rw [L_11 hw6, f11]
          simp only [Option.bind_some]
          cases hmw : mt w with
          | none =>
            right
            rw [show enc (-1) (none : Option Nat) = -1 from rfl, if_neg (fun z => z rfl)]
            have hen := (BI_en hE hB hk hEd hcw).1
            have hRd := BI_l hB hk hEd hcw
            have h0 : FI (EdC F0 i p) evC mt v (upA cb w (some (ln k))) (upA rk w en) w mt := FI_0 hV hvn hmw (fun x hx => by
              cases hcx : upA cb w (some (ln k)) x with
              | none => exact absurd hcx hx
              | some q => exact (hE _ _ (hRd x q hcx).1).2.2.2.1)
            have hvv : evC v := by
              have := (b5 0 (by omega)).1
              rw [b1.1] at this
              exact this
            obtain ⟨F', cur', q1, q2, q3, q4, q5⟩ := e_flip8 (N := N) (b := b) (G := G) (n := n) (sw := sw) hE hV hvv hRd N w 0 mt (u2 F 12 w (nI (ln k))) h0 (fun j hj => by rw [u2_ne _ _ _ _ (by omega)]; exact hR.1 j hj) (fun j hj => by
              by_cases e : j = w
              · subst e; rw [u2_eq, upA_eq]; rfl
              · rw [u2_ne _ _ _ _ (by omega), upA_ne _ _ e]; exact hR.2.1 j hj) (by rw [upA_eq]; exact smn) (by rw [upA_eq]; omega) (by rw [upA_eq]; omega)
            refine ⟨F', ?_, ⟨fun k j h1 h2 h3 => ?_, cur', q3, q4, q5⟩⟩
            · have e1 : fX2_changePairs N (M b (u2 F 12 w (nI (ln k))) G n sw) (some (b + 10)) (nI w) = some (M b F' G n sw) := by
                unfold fX2_changePairs
                rw [K_10, show (0 : Int32) = nI 0 from rfl, q1]
                rfl
              rw [e1]
              rfl
            · rw [q2 k j h1, u2_ne _ _ _ _ (fun z => h2 z.1)]
              exact hF k j h1 h2 h3
          | some u' =>
            have hu' := hV.2 w u' hw.2.2.2.1 hmw
            have hu6 := (hE _ _ hu'.2).2.2.1
            have hen := BI_en hE hB hk hEd hcw
            rw [show enc (-1) (some u') = nI u' from rfl, if_pos (m1ne u' hu6), if_neg (show ¬ (64 : Int32) ≤ nI en from nI_ge (b := 64) hen.1 (by decide)), T_13 hen.1]
            simp only [Option.bind_some, nI_1]
            have hB' := BI_v hV hE hB hk hEd hcw hmw
            have hln : ∀ k', k' < en → upA ln en u' k' = ln k' := fun k' h => upA_ne _ _ (by omega)
            have hcb : ∀ x, cb x ≠ none → upA cb w (some (ln k)) x ≠ none := fun x hx => by
              by_cases e : x = w
              · rw [e, upA_eq]; exact smn
              · rw [upA_ne _ _ e]; exact hx
            have := ih (d + 1) (en + 1) (upA cb w (some (ln k))) (upA ln en u') (upA rk w en) (u2 (u2 F 12 w (nI (ln k))) 13 en (nI u')) (by omega) (by omega) (by omega) hB' ⟨fun j hj => by rw [u2_ne _ _ _ _ (by omega), u2_ne _ _ _ _ (by omega)]; exact hR.1 j hj, fun j hj => by
              rw [u2_ne _ _ _ _ (by omega)]
              by_cases e : j = w
              · subst e; rw [u2_eq, upA_eq]; rfl
              · rw [u2_ne _ _ _ _ (by omega), upA_ne _ _ e]; exact hR.2.1 j hj, fun k' hk' => by
              by_cases e : k' = en
              · subst e; rw [u2_eq, upA_eq]
              · rw [u2_ne _ _ _ _ (by omega), u2_ne _ _ _ _ (by omega), upA_ne _ _ e]; exact hR.2.2 k' (by omega)⟩ (fun k j h1 h2 h3 => by rw [u2_ne _ _ _ _ (fun z => h3 z.1), u2_ne _ _ _ _ (fun z => h2 z.1)]; exact hF k j h1 h2 h3) (fun k' h1 x hx => by
              rw [hln k' (by omega)] at hx
              exact hcb x (hk' k' h1 x hx)) (fun d' h1 x hx => by
              rw [hln k hk] at hx
              by_cases e : d' = d
              · rw [e, hnb] at hx
                rw [← Option.some.inj hx, upA_eq]
                exact smn
              · exact hcb x (hd' d' (by omega) x hx))
            rw [hln k hk] at this
            exact this
        · rw [if_pos (fun z => hcw (hne.mp z))]
          exact ih (d + 1) en cb ln rk F (by omega) (by omega) hk hB hR hF hk' (hsk w hnb hcw)
theorem e_o8 {F0 : mI} {mt : Nat → Option Nat} {v : Nat} (hi : i < n) (hK : CK F0 i p) (hV : Vm (EdC F0 i p) evC mt) (hvn : mt v = none) (hN : 300 ≤ N) : ∀ (m k en : Nat) (cb : Nat → Option Nat) (ln rk : Nat → Nat) (F : mI), k ≤ en → 64 - k < m → BI (EdC F0 i p) evC (inPc p) mt v cb ln en rk → Rp 11 12 13 (-1) F mt cb ln en → Fr3 11 12 13 F0 F → (∀ k', k' < k → ∀ w, EdC F0 i p (ln k') w → cb w ≠ none) →
    (∃ F', lX2_findsPartner_30 N (some (b + 10)) (some (b + (57 + 3 * i))) (some (b + 1)) m (nI en) (nI k) (M b F G n sw) = some (.inl (M b F' G n sw)) ∧ Fr3 11 12 13 F0 F' ∧ (∀ j, j < 64 → F' 11 j = enc (-1) (mt j)) ∧ ¬ Mb (EdC F0 i p) (fun u => Sm evC mt u ∨ u = v)) ∨ (∃ F', lX2_findsPartner_30 N (some (b + 10)) (some (b + (57 + 3 * i))) (some (b + 1)) m (nI en) (nI k) (M b F G n sw) = some (.inr (1, M b F' G n sw)) ∧ Fnd (EdC F0 i p) evC 11 12 13 (-1) F0 mt v F') := by
  have hE : EdOk (EdC F0 i p) evC (inPc p) := EdC_ok hK.1
  intro m
  induction m with
  | zero => intro k en cb ln rk F _ h; omega
  | succ m ih =>
    intro k en cb ln rk F hk hm hB hR hF hk'
    have hen := BI_le hE hB
    rw [lX2_findsPartner_30]
    by_cases he : k = en
    · left
      subst he
      refine ⟨F, ?_, hF, hR.1, BI_no hV hE hvn hB hk'⟩
      rw [if_pos (nI_le (Nat.le_refl _) (by omega))]
    · rw [if_neg (nI_ge (by omega) (by omega)), if_neg (show ¬ (64 : Int32) ≤ nI k from nI_ge (b := 64) (by omega) (by decide)), R_10_2]
      simp only [Option.bind_some]
      rw [L_13 (show k < 64 by omega), hR.2.2 k (by omega)]
      simp only [Option.bind_some]
      rcases e_d8 (N := N) (b := b) (G := G) (n := n) (sw := sw) hi hK hV hvn hN N 0 en cb ln rk F (by omega) (by omega) (show k < en by omega) hB hR hF hk' (fun d' h => by omega) with ⟨en', cb', ln', rk', F', q1, q2, q3, q4, q5, q6⟩ | ⟨F', q1, q2⟩
      · rw [show nI 0 = (0 : Int32) from rfl] at q1
        rw [q1]
        simp only [bS2, Option.bind_some, nm, nI_1]
        exact ih (k + 1) en' cb' ln' rk' F' (by omega) (by omega) q3 q4 q5 q6
      · right
        rw [show nI 0 = (0 : Int32) from rfl] at q1
        rw [q1]
        exact ⟨F', rfl, q2⟩
theorem e_fp8 {F : mI} {mt : Nat → Option Nat} {v : Nat} (hi : i < n) (hK : CK F i p) (hV : Vm (EdC F i p) evC mt) (hvn : mt v = none) (hv1 : evC v) (hv2 : inPc p v) (h11 : ∀ j, j < 64 → F 11 j = enc (-1) (mt j)) (hN : 2000 ≤ N) : ∃ r F' mt', fX2_findsPartner N (M b F G n sw) (some (b + 10)) (nI v) (some (b + (57 + 3 * i))) (some (b + 1)) = some (r, M b F' G n sw) ∧ Fr3 11 12 13 F F' ∧ (∀ j, j < 64 → F' 11 j = enc (-1) (mt' j)) ∧ Vm (EdC F i p) evC mt' ∧ ((r = 1 ∧ Mb (EdC F i p) (fun u => Sm evC mt u ∨ u = v) ∧ ∀ z, Sm evC mt' z ↔ (Sm evC mt z ∨ z = v)) ∨ (r = 0 ∧ ¬ Mb (EdC F i p) (fun u => Sm evC mt u ∨ u = v) ∧ ∀ z, Sm evC mt' z ↔ Sm evC mt z)) := by
  have hB : BI (EdC F i p) evC (inPc p) mt v (fun _ => none) (fun _ => v) 1 (fun _ => 0) := BI_0 hv1 hv2 hv2.1
  have hFr : Fr3 11 12 13 F (u2 (uR F 12 0 64 (-1)) 13 0 (nI v)) := fun k j h1 h2 h3 => by
    rw [u2_ne _ _ _ _ (fun z => h3 z.1)]
    unfold uR
    rw [if_neg (fun z => h2 z.1)]
  have hRp : Rp 11 12 13 (-1) (u2 (uR F 12 0 64 (-1)) 13 0 (nI v)) mt (fun _ => none) (fun _ => v) 1 := by
    refine ⟨fun j hj => ?_, fun j hj => ?_, fun k hk => ?_⟩
    · rw [u2_ne _ _ _ _ (by omega)]
      unfold uR
      rw [if_neg (by omega)]
      exact h11 j hj
    · rw [u2_ne _ _ _ _ (by omega)]
      unfold uR
      rw [if_pos (by omega)]
      rfl
    · rw [show k = 0 by omega, u2_eq]
  have hst : ∀ F' : mI, stI (M b F' G n sw) (some (b + 13)) 0 (nI v) = some (M b (u2 F' 13 0 (nI v)) G n sw) := fun F' => T_13 (i := 0) (by omega)
  have hfi : fJ7_fill_53178 N (M b F G n sw) (some (b + 12)) (-1) = some (M b (uR F 12 0 64 (-1)) G n sw) := e_fillM hN (by omega) rfl (by omega)
  unfold fX2_findsPartner
  rw [K_10, e_isCell_y hv2.1]
  simp only [Option.bind_some]
  rw [if_pos z10, R_10_1]
  simp only [Option.bind_some, hfi, R_10_2, hst]
  rcases e_o8 (N := N) (b := b) (G := G) (n := n) (sw := sw) hi hK hV hvn (by omega) N 0 1 (fun _ => none) (fun _ => v) (fun _ => 0) _ (by omega) (by omega) hB hRp hFr (fun k' h => by omega) with ⟨F', q1, q2, q3, q4⟩ | ⟨F', q1, q2, mt', q3, q4, q5⟩
  · rw [show nI 1 = (1 : Int32) from rfl, show nI 0 = (0 : Int32) from rfl] at q1
    refine ⟨0, F', mt, by rw [q1]; rfl, q2, q3, hV, Or.inr ⟨rfl, q4, fun z => Iff.rfl⟩⟩
  · rw [show nI 1 = (1 : Int32) from rfl, show nI 0 = (0 : Int32) from rfl] at q1
    refine ⟨1, F', mt', by rw [q1]; rfl, q2, q3, q4, Or.inl ⟨rfl, Mb_e (Mb_of q4) q5, q5⟩⟩
end B8
