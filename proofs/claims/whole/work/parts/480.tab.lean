/-! ===== 480: the table; who can be bundled ===== -/
theorem sr_cn {p : Nat → Prop} [DecidablePred p] : ∀ d, srI (fun j => bI (p j)) 0 d = nI (cn (fun j => decide (p j)) d)
  | 0 => rfl
  | d + 1 => by
    rw [srI_last, sr_cn d, Nat.zero_add, cn_s]
    by_cases h : p d
    · rw [bI_t h, if_pos (decide_eq_true h), nI_1]
    · rw [bI_f h, if_neg (fun z => h (of_decide_eq_true z)), Int32.add_zero, Nat.add_zero]
theorem sr_cut {h : Nat → Int32} {k : Nat} : ∀ d, (∀ j, k ≤ j → j < k + d → h j = 0) → srI h 0 (k + d) = srI h 0 k
  | 0, _ => rfl
  | d + 1, hz => by
    rw [show k + (d + 1) = (k + d) + 1 by omega, srI_last, Nat.zero_add, hz (k + d) (by omega) (by omega), Int32.add_zero]
    exact sr_cut d (fun j h1 h2 => hz j h1 (by omega))
theorem sr16 (g : Nat → Int32) : srI g 0 16 = srI (fun y => srI (fun x => g (4 * y + x)) 0 4) 0 4 := by
  simp [srI, Int32.add_assoc]
theorem sr_4k {g : Nat → Int32} {k : Nat} (hk : k ≤ 4) (hz : ∀ i, i < 16 → ¬ (i % 4 < k ∧ i / 4 < k) → g i = 0) : srI g 0 16 = srI (fun y => srI (fun x => g (4 * y + x)) 0 k) 0 k := by
  have hin : ∀ y, y < 4 → srI (fun x => g (4 * y + x)) 0 4 = srI (fun x => g (4 * y + x)) 0 k := by
    intro y hy
    have := sr_cut (h := fun x => g (4 * y + x)) (k := k) (4 - k) (fun j h1 h2 => hz _ (by omega) (by omega))
    rw [show k + (4 - k) = 4 by omega] at this
    exact this
  have hout := sr_cut (h := fun y => srI (fun x => g (4 * y + x)) 0 k) (k := k) (4 - k) (fun y h1 h2 => by
    show srI (fun x => g (4 * y + x)) 0 k = 0
    rw [srI_congr (g := fun _ => (0 : Int32)) k 0 (fun x _ hx => hz (4 * y + x) (by omega) (by omega)), srI_zero])
  rw [show k + (4 - k) = 4 by omega] at hout
  rw [sr16, ← hout]
  exact srI_congr 4 0 (fun y _ hy => hin y (by omega))
def TB (F : mI) (n k : Nat) : Prop := 2 ≤ k ∧ k ≤ 4 ∧ F 7 2 = nI k ∧ F 32 10 = nI k ∧ ∀ i, i < 16 → F 8 i = F 40 i ∧ (F 40 i = -9 ∨ (i % 4 < k ∧ i / 4 < k ∧ (∃ c, c < n ∧ F 40 i = nI c) ∧ F 9 i = F 41 i ∧ ∃ t, t < 4 ∧ F 41 i = nI t))
def cN (F : mI) (j : Nat) : Nat := (F 40 j).toNatClampNeg
def tN (F : mI) (j : Nat) : Nat := (F 41 j).toNatClampNeg
theorem TB_c {F : mI} {n k j : Nat} (hn : n ≤ 16) (h : TB F n k) (hj : j < 16) (h9 : ¬ F 40 j = -9) : cN F j < n ∧ F 40 j = nI (cN F j) ∧ F 8 j = nI (cN F j) ∧ F 9 j = nI (tN F j) ∧ F 41 j = nI (tN F j) ∧ tN F j < 4 ∧ j % 4 < k ∧ j / 4 < k := by
  obtain ⟨a1, a2⟩ := h.2.2.2.2 j hj
  rcases a2 with a2 | ⟨b1, b2, ⟨c, c1, c2⟩, b4, t, t1, t2⟩
  · exact absurd a2 h9
  · have e1 : cN F j = c := by unfold cN; rw [c2, nI_clamp (by omega)]
    have e2 : tN F j = t := by unfold tN; rw [t2, nI_clamp (by omega)]
    rw [e1, e2, a1, b4, c2, t2]
    exact ⟨c1, rfl, rfl, rfl, rfl, t1, b1, b2⟩
def Pl (F : mI) (c : Nat) : Nat := cn (fun i => decide (F 40 i = nI c)) 16
theorem pl8 {F : mI} {n k c : Nat} (h : TB F n k) : srI (fun i => bI (F 8 i = nI c)) 0 16 = nI (Pl F c) := by
  rw [srI_congr (g := fun i => bI (F 40 i = nI c)) 16 0 (fun j _ hj => bI_c (by rw [(h.2.2.2.2 j (by omega)).1])), sr_cn]
  rfl
theorem pl9 {F : mI} {n k c : Nat} (h : TB F n k) (hc : c < 2 ^ 31) : srI (fun y => srI (fun x => bI (F 40 (4 * y + x) = nI c)) 0 k) 0 k = nI (Pl F c) := by
  rw [← sr_4k (g := fun i => bI (F 40 i = nI c)) h.2.1 (fun i hi hz => ?_), sr_cn]
  · rfl
  · obtain ⟨-, a2⟩ := h.2.2.2.2 i hi
    rcases a2 with a2 | ⟨b1, b2, -⟩
    · exact bI_f (fun z => m9ne c hc (z.symm.trans a2))
    · exact absurd ⟨b1, b2⟩ hz
theorem cn_pos {P : Nat → Bool} : ∀ K, cn P K ≠ 0 ↔ ∃ j, j < K ∧ P j = true
  | 0 => ⟨fun z => absurd rfl z, fun ⟨j, h, _⟩ => by omega⟩
  | K + 1 => by
    rw [cn_s]
    by_cases h : P K = true
    · rw [if_pos h]
      exact ⟨fun _ => ⟨K, by omega, h⟩, fun _ => by omega⟩
    · rw [if_neg h, Nat.add_zero, cn_pos K]
      constructor
      · rintro ⟨j, h1, h2⟩; exact ⟨j, by omega, h2⟩
      · rintro ⟨j, h1, h2⟩
        have : j ≠ K := fun e => h (e ▸ h2)
        exact ⟨j, by omega, h2⟩
theorem Pl_le (F : mI) (c : Nat) : Pl F c ≤ 16 := cn_le _ 16
section TA
variable {b : Nat} {F : mI} {G : mJ} {H : mR} {c n : Nat} {sw : Bool} {N : Nat}
theorem q_has7 {k : Nat} (hA : Ag b n sw H c) (hk : k ≤ 4) (h : F 7 2 = nI k) (x y : Int32) : fX7_has N (mk b F G H c) (some (b + 7)) x y = some (bI (rg k x ∧ rg k y)) := by
  have k1 : ∀ z : Option Int32, chk (mk b F G H c) 7 (some (b + 7)) z = z := fun z => q_K (k := 7) hA (by omega) rfl
  have k2 : gfI (mk b F G H c) 7 2 (some (b + 7)) = some (F 7 2) := q_I (k := 7) hA (by omega) rfl rfl
  unfold fX7_has
  simp only [k1, k2, h, Option.bind_some]
  by_cases a1 : x < 0
  · rw [if_pos a1, bI_f (fun q => absurd a1 (Int32.not_lt.mpr q.1.1))]
  rw [if_neg a1]
  by_cases a2 : nI k ≤ x
  · rw [if_pos a2, bI_f (fun q => absurd q.1.2 (Int32.not_lt.mpr a2))]
  rw [if_neg a2]
  by_cases a3 : y < 0
  · rw [if_pos a3, bI_f (fun q => absurd a3 (Int32.not_lt.mpr q.2.1))]
  rw [if_neg a3]
  by_cases a4 : nI k ≤ y
  · rw [if_pos a4, bI_f (fun q => absurd q.2.2 (Int32.not_lt.mpr a4))]
  rw [if_neg a4, bI_t ⟨⟨Int32.not_lt.mp a1, Int32.not_le.mp a2⟩, Int32.not_lt.mp a3, Int32.not_le.mp a4⟩]
theorem q_caneAt {k x y : Nat} (hA : Ag b n sw H c) (hk : k ≤ 4) (h : F 7 2 = nI k) (hx : x < k) (hy : y < k) : fX7_caneAt N (mk b F G H c) (some (b + 7)) (nI x) (nI y) = some (F 8 (4 * y + x)) := by
  have k1 : ∀ z : Option Int32, chk (mk b F G H c) 7 (some (b + 7)) z = z := fun z => q_K (k := 7) hA (by omega) rfl
  have k2 : gfR (mk b F G H c) 7 0 (some (b + 7)) = some (some (b + 8)) := q_R (k := 7) hA (by omega) (by omega) rfl rfl
  have k3 : ldI (mk b F G H c) 0 (some (b + 8)) (nI (4 * y + x)) = some (F 8 (4 * y + x)) := q_L (k := 8) hA (by omega) rfl (show 4 * y + x < 16 by omega)
  unfold fX7_caneAt
  rw [k1, q_has7 hA hk h, bI_t ⟨rg_in (by omega) hx, rg_in (by omega) hy⟩]
  simp only [Option.bind_some]
  rw [if_neg z10, k2]
  simp only [Option.bind_some]
  rw [ix4, k3]
  rfl
theorem q_turnAt {k x y : Nat} (hA : Ag b n sw H c) (hk : k ≤ 4) (h : F 7 2 = nI k) (hx : x < k) (hy : y < k) : fX7_turnAt N (mk b F G H c) (some (b + 7)) (nI x) (nI y) = some (F 9 (4 * y + x)) := by
  have k1 : ∀ z : Option Int32, chk (mk b F G H c) 7 (some (b + 7)) z = z := fun z => q_K (k := 7) hA (by omega) rfl
  have k2 : gfR (mk b F G H c) 7 1 (some (b + 7)) = some (some (b + 9)) := q_R (k := 7) hA (by omega) (by omega) rfl rfl
  have k3 : ldI (mk b F G H c) 0 (some (b + 9)) (nI (4 * y + x)) = some (F 9 (4 * y + x)) := q_L (k := 9) hA (by omega) rfl (show 4 * y + x < 16 by omega)
  unfold fX7_turnAt
  rw [k1, q_has7 hA hk h, bI_t ⟨rg_in (by omega) hx, rg_in (by omega) hy⟩]
  simp only [Option.bind_some]
  rw [if_neg z10, k2]
  simp only [Option.bind_some]
  rw [ix4, k3]
  rfl
theorem q_places {v : Int32} (hA : Ag b n sw H c) (hN : 20 ≤ N) : fX7_placesOf N (mk b F G H c) (some (b + 7)) v = some (srI (fun i => bI (F 8 i = v)) 0 16) := by
  have k1 : ∀ z : Option Int32, chk (mk b F G H c) 7 (some (b + 7)) z = z := fun z => q_K (k := 7) hA (by omega) rfl
  have k2 : gfR (mk b F G H c) 7 0 (some (b + 7)) = some (some (b + 8)) := q_R (k := 7) hA (by omega) (by omega) rfl rfl
  have k4 : lnI (mk b F G H c) (some (b + 8)) = some (nI 16) := m_lnI (k := 8) (by have := hA.1; omega) rfl
  have e := lpS (fun m a i => lX7_placesOf_4 N (mk b F G H c) (some (b + 7)) v m a i) (fun i => bI (F 8 i = v)) 16 (fun a => a) ?_ ?_ N 0 0 (by omega) (by omega)
  · unfold fX7_placesOf
    rw [k1]
    rw [show nI 0 = (0 : Int32) from rfl, Int32.zero_add] at e
    rw [e]
    rfl
  · intro m i a hi
    have k3 : ldI (mk b F G H c) 0 (some (b + 8)) (nI i) = some (F 8 i) := q_L (k := 8) hA (by omega) rfl hi
    show lX7_placesOf_4 N (mk b F G H c) (some (b + 7)) v (m + 1) a (nI i) = _
    rw [lX7_placesOf_4]
    simp only [k2, k4, Option.bind_some]
    rw [if_neg (nI_ge hi (by omega)), k3]
    simp only [Option.bind_some, nm, nI_1]
    by_cases z : F 8 i = v
    · rw [if_neg (fun w => w z), bI_t z]
    · rw [if_pos z, bI_f z, Int32.add_zero]
  · intro m a
    show lX7_placesOf_4 N (mk b F G H c) (some (b + 7)) v (m + 1) a (nI 16) = _
    rw [lX7_placesOf_4]
    simp only [k2, k4, Option.bind_some]
    rw [if_pos (nI_le (Nat.le_refl _) (by omega))]
theorem q_find_y {k : Nat} (hA : Ag b n sw H c) (hn : n ≤ 16) (h2 : F 0 2 = nI n) (hk : k < n) : fX8_find N (mk b F G H c) (some b) (nI k) = some (some (b + (56 + 3 * k))) := by
  have k3 : ldR (mk b F G H c) (some (b + 6)) (nI k) = some (H 6 k) := m_ldR (k := 6) (by have := hA.1; omega) rfl (show k < 16 by omega)
  have k4 : H 6 k = some (b + (56 + 3 * k)) := by
    rw [hA.2 6 k (by omega) (fun _ => hk)]
    unfold Hst
    rw [if_pos rfl, if_pos hk]
  unfold fX8_find
  simp only [q_K0 hA, q_I02 hA, q_R01 hA, h2, Option.bind_some]
  rw [if_neg (nI_pos (by omega)), if_neg (nI_ge hk (by omega)), if_pos (show nI k < (16 : Int32) from nI_lt (b := 16) (by omega) (by decide)), k3, k4]
  rfl
theorem e_places9 {n' k : Nat} {v : Int32} (hk : k ≤ 4) (h : F 32 10 = nI k) (hN : 20 ≤ N) : fX9_placesOf N (M b F G n' sw) (some (b + 32)) v = some (srI (fun y => srI (fun x => bI (F 40 (4 * y + x) = v)) 0 k) 0 k) := by
  have inner : ∀ y, y < k → ∀ a, lX9_placesOf_15 N (M b F G n' sw) (some (b + 32)) v (nI y) N a 0 = some (a + srI (fun x => bI (F 40 (4 * y + x) = v)) 0 k) := by
    intro y hy a
    have e := lpS (fun m a i => lX9_placesOf_15 N (M b F G n' sw) (some (b + 32)) v (nI y) m a i) (fun x => bI (F 40 (4 * y + x) = v)) k (fun a => a) ?_ ?_ N 0 a (by omega) (by omega)
    · exact e
    · intro m x a hx
      show lX9_placesOf_15 N (M b F G n' sw) (some (b + 32)) v (nI y) (m + 1) a (nI x) = _
      rw [lX9_placesOf_15]
      simp only [I_32_10, h, Option.bind_some]
      rw [if_neg (nI_ge hx (by omega)), R_32_11]
      simp only [Option.bind_some]
      rw [ix4', L_40 (show 4 * y + x < 16 by omega)]
      simp only [Option.bind_some, nm, nI_1]
      by_cases z : F 40 (4 * y + x) = v
      · rw [if_neg (fun w => w z), bI_t z]
      · rw [if_pos z, bI_f z]
    · intro m a
      show lX9_placesOf_15 N (M b F G n' sw) (some (b + 32)) v (nI y) (m + 1) a (nI k) = _
      rw [lX9_placesOf_15]
      simp only [I_32_10, h, Option.bind_some]
      rw [if_pos (nI_le (Nat.le_refl _) (by omega))]
  have e := lpS (fun m a i => lX9_placesOf_4 N (M b F G n' sw) (some (b + 32)) v m a i) (fun y => srI (fun x => bI (F 40 (4 * y + x) = v)) 0 k) k (fun a => a) ?_ ?_ N 0 0 (by omega) (by omega)
  · unfold fX9_placesOf
    rw [K_32]
    rw [show nI 0 = (0 : Int32) from rfl, Int32.zero_add] at e
    rw [e]
    rfl
  · intro m y a hy
    show lX9_placesOf_4 N (M b F G n' sw) (some (b + 32)) v (m + 1) a (nI y) = _
    rw [lX9_placesOf_4]
    simp only [I_32_10, h, Option.bind_some]
    rw [if_neg (nI_ge hy (by omega)), inner y hy]
    simp only [Option.bind_some, nm, nI_1]
  · intro m a
    show lX9_placesOf_4 N (M b F G n' sw) (some (b + 32)) v (m + 1) a (nI k) = _
    rw [lX9_placesOf_4]
    simp only [I_32_10, h, Option.bind_some]
    rw [if_pos (nI_le (Nat.le_refl _) (by omega))]
end TA
/-- the cane at place j can lie with one of side p, fineness f -/
def qB (F : mI) (p f : Nat) (x y : Nat) : Bool := decide (¬ F 40 (4 * y + x) = -9 ∧ F 38 (cN F (4 * y + x)) = 0 ∧ F 35 (cN F (4 * y + x)) = nI p ∧ F 37 (cN F (4 * y + x)) = nI f)
def CR (F : mI) (n : Nat) : Prop := ∀ i, i < n → RCane F i
theorem CR_s {F : mI} {n i : Nat} (h : CR F n) (hi : i < n) : F (57 + 3 * i) 1 = F 35 i ∧ F (56 + 3 * i) 1 = F 36 i ∧ F (56 + 3 * i) 2 = F 37 i ∧ F (56 + 3 * i) 3 = F 38 i := by
  obtain ⟨p, l, f, t, -, c1, c2, c3, c4, c5, c6, c7, c8, -⟩ := h i hi
  rw [c1, c2, c3, c4, c5, c6, c7, c8]
  exact ⟨rfl, rfl, rfl, rfl⟩
section TC
variable {b : Nat} {F : mI} {G : mJ} {n : Nat} {sw : Bool} {N : Nat}
theorem e_caneAt {k x y : Nat} (hk : k ≤ 4) (h : F 7 2 = nI k) (hx : x < k) (hy : y < k) : fX7_caneAt N (M b F G n sw) (some (b + 7)) (nI x) (nI y) = some (F 8 (4 * y + x)) := q_caneAt Ag_M hk h hx hy
theorem e_alike {k p f c0 : Nat} (hn : n ≤ 16) (h2 : F 0 2 = nI n) (hT : TB F n k) (hC : CR F n) (hc0 : c0 < n) (hp : F 35 c0 = nI p) (hf : F 37 c0 = nI f) (hp8 : p ≤ 8) (hN : 20 ≤ N) : fX8_allAlike N (M b F G n sw) (some b) (some (b + (56 + 3 * c0))) = some (bI (k * p ≤ 8 ∧ ∀ y, y < k → ∀ x, x < k → qB F p f x y = true)) := by
  obtain ⟨t2, t4, t7, t32, tj⟩ := id hT
  have s0 := CR_s hC hc0
  have g1 : F (57 + 3 * c0) 1 = nI p := s0.1.trans hp
  have g2 : F (56 + 3 * c0) 2 = nI f := s0.2.2.1.trans hf
  have hin : ∀ y, y < k → lX8_allAlike_37 N (M b F G n sw) (some b) (some (b + (56 + 3 * c0))) (nI y) N 0 = some (if ∀ x, x < k → qB F p f x y = true then .inl () else .inr 0) := by
    intro y hy
    have step : ∀ m x, x < k → lX8_allAlike_37 N (M b F G n sw) (some b) (some (b + (56 + 3 * c0))) (nI y) (m + 1) (nI x) = if qB F p f x y = true then lX8_allAlike_37 N (M b F G n sw) (some b) (some (b + (56 + 3 * c0))) (nI y) m (nI (x + 1)) else some (.inr 0) := by
      intro m x hx
      rw [lX8_allAlike_37]
      simp only [R_0_3, I_7_2, t7, Option.bind_some]
      rw [if_neg (nI_ge hx (by omega)), e_caneAt t4 t7 hx hy]
      simp only [Option.bind_some]
      by_cases h9 : F 40 (4 * y + x) = -9
      · have hq : ¬ qB F p f x y = true := fun z => (of_decide_eq_true z).1 h9
        rw [(tj _ (by omega)).1, h9, e_find_n hn h2 (fun z => absurd z.1 (by decide)), if_neg hq]
        rfl
      · obtain ⟨d1, d2, d3, -⟩ := TB_c hn hT (show 4 * y + x < 16 by omega) h9
        obtain ⟨s1, -, s3, s4⟩ := CR_s hC d1
        rw [d3, e_find_y hn h2 d1]
        simp only [Option.bind_some]
        rw [if_neg (by simp)]
        simp only [Ic_3 d1, Rc_0 d1, Ip_1 d1, Ic_2 d1, Rc_0 hc0, Ip_1 hc0, Ic_2 hc0, g1, g2, s1, s3, s4, Option.bind_some, nm, nI_1]
        by_cases a1 : F 38 (cN F (4 * y + x)) = 0
        · rw [if_neg (fun z => z a1)]
          by_cases a2 : F 35 (cN F (4 * y + x)) = nI p
          · rw [if_neg (fun z => z a2)]
            by_cases a3 : F 37 (cN F (4 * y + x)) = nI f
            · rw [if_pos a3, if_pos (show qB F p f x y = true from decide_eq_true ⟨h9, a1, a2, a3⟩)]
            · rw [if_neg a3, if_neg (fun z => a3 (of_decide_eq_true z).2.2.2)]
          · rw [if_pos a2, if_neg (fun z => a2 (of_decide_eq_true z).2.2.1)]
        · rw [if_pos a1, if_neg (fun z => a1 (of_decide_eq_true z).2.1)]
    exact lpA (fun m x => lX8_allAlike_37 N (M b F G n sw) (some b) (some (b + (56 + 3 * c0))) (nI y) m x) (fun x => qB F p f x y = true) k (.inl ()) (.inr 0) (fun m x hx hq => by
      show lX8_allAlike_37 N (M b F G n sw) (some b) (some (b + (56 + 3 * c0))) (nI y) (m + 1) (nI x) = _
      rw [step m x hx, if_pos hq]) (fun m x hx hq => by
      show lX8_allAlike_37 N (M b F G n sw) (some b) (some (b + (56 + 3 * c0))) (nI y) (m + 1) (nI x) = _
      rw [step m x hx, if_neg hq]) (fun m => by
      show lX8_allAlike_37 N (M b F G n sw) (some b) (some (b + (56 + 3 * c0))) (nI y) (m + 1) (nI k) = _
      rw [lX8_allAlike_37]
      simp only [R_0_3, I_7_2, t7, Option.bind_some]
      rw [if_pos (nI_le (Nat.le_refl _) (by omega))]) N (by omega)
  have hout : lX8_allAlike_24 N (M b F G n sw) (some b) (some (b + (56 + 3 * c0))) N 0 = some (if ∀ y, y < k → ∀ x, x < k → qB F p f x y = true then .inl () else .inr 0) := by
    exact lpA (fun m y => lX8_allAlike_24 N (M b F G n sw) (some b) (some (b + (56 + 3 * c0))) m y) (fun y => ∀ x, x < k → qB F p f x y = true) k (.inl ()) (.inr 0) (fun m y hy hq => by
      show lX8_allAlike_24 N (M b F G n sw) (some b) (some (b + (56 + 3 * c0))) (m + 1) (nI y) = _
      rw [lX8_allAlike_24]
      simp only [R_0_3, I_7_2, t7, Option.bind_some]
      rw [if_neg (nI_ge hy (by omega)), hin y hy, if_pos hq]
      simp only [bS1, Option.bind_some, nm, nI_1]) (fun m y hy hq => by
      show lX8_allAlike_24 N (M b F G n sw) (some b) (some (b + (56 + 3 * c0))) (m + 1) (nI y) = _
      rw [lX8_allAlike_24]
      simp only [R_0_3, I_7_2, t7, Option.bind_some]
      rw [if_neg (nI_ge hy (by omega)), hin y hy, if_neg hq]
      rfl) (fun m => by
      show lX8_allAlike_24 N (M b F G n sw) (some b) (some (b + (56 + 3 * c0))) (m + 1) (nI k) = _
      rw [lX8_allAlike_24]
      simp only [R_0_3, I_7_2, t7, Option.bind_some]
      rw [if_pos (nI_le (Nat.le_refl _) (by omega))]) N (by omega)
  have hkp : k * p ≤ 4 * 8 := Nat.mul_le_mul t4 hp8
  unfold fX8_allAlike
  simp only [K_0, R_0_3, I_7_2, t7, Rc_0 hc0, Ip_1 hc0, g1, Option.bind_some, pk_mul]
  by_cases hkp8 : k * p ≤ 8
  · rw [if_pos (show nI (k * p) ≤ (8 : Int32) from nI_le (b := 8) hkp8 (by decide)), hout]
    by_cases hq : ∀ y, y < k → ∀ x, x < k → qB F p f x y = true
    · rw [if_pos hq, bI_t ⟨hkp8, hq⟩]
      rfl
    · rw [if_neg hq, bI_f (fun z => hq z.2)]
      rfl
  · rw [if_neg (show ¬ nI (k * p) ≤ (8 : Int32) from nI_ge (a := 8) (by omega) (by omega)), bI_f (fun z => hkp8 z.1)]
def lgB (F : mI) (l : Nat) (i : Nat) : Bool := decide (l * Pl F i ≤ (F 36 i).toNatClampNeg)
theorem e_long {k l : Nat} (hn : n ≤ 16) (h2 : F 0 2 = nI n) (hT : TB F n k) (hC : CR F n) (hl : l ≤ 9999) (hN : 20 ≤ N) : fX8_allLongEnough N (M b F G n sw) (some b) (nI l) = some (bI (∀ i, i < n → lgB F l i = true)) := by
  have step : ∀ m i, i < n → lX8_allLongEnough_2 N (M b F G n sw) (some b) (nI l) (m + 1) (nI i) = if lgB F l i = true then lX8_allLongEnough_2 N (M b F G n sw) (some b) (nI l) m (nI (i + 1)) else some (.inr 0) := by
    intro m i hi
    obtain ⟨p, l', f, t, ⟨-, -, l9, -, -⟩, -, -, c3, c4, -⟩ := hC i hi
    have hpl : fX7_placesOf N (M b F G n sw) (some (b + 7)) (nI i) = some (nI (Pl F i)) := by
      rw [← pl8 hT]
      exact q_places Ag_M hN
    have hP := Pl_le F i
    have hlP : l * Pl F i ≤ 9999 * 16 := Nat.mul_le_mul hl hP
    have hb : lgB F l i = true ↔ l * Pl F i ≤ l' := by
      unfold lgB
      rw [c4, nI_clamp (by omega), decide_eq_true_eq]
    rw [lX8_allLongEnough_2]
    simp only [I_0_2, h2, Option.bind_some]
    rw [if_neg (nI_ge hi (by omega)), e_find_y hn h2 hi]
    simp only [Option.bind_some, nm]
    rw [if_neg (by simp)]
    simp only [Ic_1 hi, c3, R_0_3, hpl, Option.bind_some, pk_mul, nI_1]
    by_cases z : l * Pl F i ≤ l'
    · rw [if_pos (nI_le z (by omega)), if_pos (hb.mpr z)]
    · rw [if_neg (nI_ge (by omega) (by omega)), if_neg (fun w => z (hb.mp w))]
  have e := lpA (fun m i => lX8_allLongEnough_2 N (M b F G n sw) (some b) (nI l) m i) (fun i => lgB F l i = true) n (Sum.inl ()) (Sum.inr (0 : Int32)) (fun m i hi hq => by
    show lX8_allLongEnough_2 N (M b F G n sw) (some b) (nI l) (m + 1) (nI i) = _
    rw [step m i hi, if_pos hq]) (fun m i hi hq => by
    show lX8_allLongEnough_2 N (M b F G n sw) (some b) (nI l) (m + 1) (nI i) = _
    rw [step m i hi, if_neg hq]) (fun m => by
    show lX8_allLongEnough_2 N (M b F G n sw) (some b) (nI l) (m + 1) (nI n) = _
    rw [lX8_allLongEnough_2]
    simp only [I_0_2, h2, Option.bind_some]
    rw [if_pos (nI_le (Nat.le_refl _) (by omega))]) N (by omega)
  unfold fX8_allLongEnough
  rw [K_0]
  rw [show nI 0 = (0 : Int32) from rfl] at e
  rw [e]
  by_cases hq : ∀ i, i < n → lgB F l i = true
  · rw [if_pos hq, bI_t hq]; rfl
  · rw [if_neg hq, bI_f hq]; rfl
/-- the reference's word on a cane -/
def okB (F : mI) (p f l : Nat) (i : Nat) : Bool := decide (Pl F i = 0 ∨ (F 35 i = nI p ∧ F 37 i = nI f ∧ F 38 i = 0 ∧ Pl F i * l ≤ (F 36 i).toNatClampNeg))
theorem e_can {n' k l p f : Nat} (hn : n ≤ 16) (h2 : F 32 2 = nI n) (hT : TB F n k) (hC : ∀ i, i < n → ∃ l', l' ≤ 9999 ∧ F 36 i = nI l') (hl : l ≤ 9999) (h9 : ¬ F 40 0 = -9) (hp : F 35 (cN F 0) = nI p) (hf : F 37 (cN F 0) = nI f) (hp8 : p ≤ 8) (hno : ∀ y, y < k → ∀ x, x < k → ¬ F 40 (4 * y + x) = -9) (hN : 20 ≤ N) : fX9_canBundle N (M b F G n' sw) (some (b + 32)) (nI l) = some (bI (k * p ≤ 8 ∧ ∀ i, i < n → okB F p f l i = true)) := by
  obtain ⟨t2, t4, t7, t32, tj⟩ := id hT
  obtain ⟨d1, d2, d3, -⟩ := TB_c hn hT (show 0 < 16 by omega) h9
  have hz : fX9_placesOf N (M b F G n' sw) (some (b + 32)) (-9) = some 0 := by
    rw [e_places9 t4 t32 hN]
    refine congrArg some ?_
    rw [srI_congr (g := fun _ => (0 : Int32)) k 0 (fun y _ hy => ?_), srI_zero]
    rw [srI_congr (g := fun _ => (0 : Int32)) k 0 (fun x _ hx => bI_f (hno y (by omega) x (by omega))), srI_zero]
  have hkp : k * p ≤ 4 * 8 := Nat.mul_le_mul t4 hp8
  have key : ∀ (q : Prop) [Decidable q], lX9_canBundle_43 N (M b F G n' sw) (some (b + 32)) (nI l) (nI (cN F 0)) N (bI q) 0 = some (bI (q ∧ ∀ i, i < n → 0 ≤ i → okB F p f l i = true)) := by
    intro q _
    exact lpB (fun m a i => lX9_canBundle_43 N (M b F G n' sw) (some (b + 32)) (nI l) (nI (cN F 0)) m a i) (fun i => okB F p f l i = true) 0 n (fun a => a) (fun m i q _ _ hi => by
      obtain ⟨l', l9, c4⟩ := hC i hi
      have hpl : fX9_placesOf N (M b F G n' sw) (some (b + 32)) (nI i) = some (nI (Pl F i)) := by
        rw [← pl9 hT (by omega)]
        exact e_places9 t4 t32 hN
      have hP := Pl_le F i
      have hlP : Pl F i * l ≤ 16 * 9999 := Nat.mul_le_mul hP hl
      have hb : okB F p f l i = true ↔ (Pl F i = 0 ∨ (F 35 i = nI p ∧ F 37 i = nI f ∧ F 38 i = 0 ∧ Pl F i * l ≤ l')) := by
        unfold okB
        rw [c4, nI_clamp (by omega), decide_eq_true_eq]
      show lX9_canBundle_43 N (M b F G n' sw) (some (b + 32)) (nI l) (nI (cN F 0)) (m + 1) (bI q) (nI i) = _
      rw [lX9_canBundle_43]
      simp only [I_32_2, h2, Option.bind_some]
      rw [if_neg (nI_ge hi (by omega)), hpl]
      simp only [Option.bind_some, nm, nI_1, R_32_3, R_32_4, R_32_5, R_32_6, L_35 (show i < 16 by omega), L_35 (show cN F 0 < 16 by omega), L_37 (show i < 16 by omega), L_37 (show cN F 0 < 16 by omega), L_38 (show i < 16 by omega), L_36 (show i < 16 by omega), hp, hf, c4, pk_mul]
      by_cases hq : q
      · rw [bI_t hq, if_neg z10]
        by_cases a0 : Pl F i = 0
        · rw [a0, if_pos (show nI 0 = (0 : Int32) from rfl), bI_t (show q ∧ okB F p f l i = true from ⟨hq, hb.mpr (Or.inl a0)⟩)]
        · rw [if_neg (ne0 (by omega) (by omega))]
          by_cases a1 : F 35 i = nI p
          · rw [if_neg (fun z => z a1)]
            by_cases a2 : F 37 i = nI f
            · rw [if_neg (fun z => z a2)]
              by_cases a3 : F 38 i = 0
              · rw [if_neg (fun z => z a3)]
                by_cases a4 : Pl F i * l ≤ l'
                · rw [if_neg (nI_nlt a4 (by omega)), bI_t (show q ∧ okB F p f l i = true from ⟨hq, hb.mpr (Or.inr ⟨a1, a2, a3, a4⟩)⟩)]
                · rw [if_pos (nI_lt (by omega) (by omega)), bI_f (fun z => by
                    rcases hb.mp z.2 with w | w
                    · exact a0 w
                    · exact a4 w.2.2.2)]
              · rw [if_pos a3, bI_f (fun z => by
                  rcases hb.mp z.2 with w | w
                  · exact a0 w
                  · exact a3 w.2.2.1)]
            · rw [if_pos a2, bI_f (fun z => by
                rcases hb.mp z.2 with w | w
                · exact a0 w
                · exact a2 w.2.1)]
          · rw [if_pos a1, bI_f (fun z => by
              rcases hb.mp z.2 with w | w
              · exact a0 w
              · exact a1 w.1)]
      · rw [bI_f hq, if_pos rfl, bI_f (fun z => hq z.1)]) (fun m a => by
      show lX9_canBundle_43 N (M b F G n' sw) (some (b + 32)) (nI l) (nI (cN F 0)) (m + 1) a (nI n) = _
      rw [lX9_canBundle_43]
      simp only [I_32_2, h2, Option.bind_some]
      rw [if_pos (nI_le (Nat.le_refl _) (by omega))]) N q (by omega) (by omega)
  have l40 : ldI (M b F G n' sw) 0 (some (b + 40)) 0 = some (F 40 0) := L_40 (i := 0) (by omega)
  unfold fX9_canBundle
  rw [K_32, hz]
  simp only [Option.bind_some]
  rw [if_pos (by decide), R_32_11]
  simp only [Option.bind_some]
  rw [l40, d2]
  simp only [Option.bind_some, I_32_10, t32, R_32_3]
  rw [L_35 (show cN F 0 < 16 by omega), hp]
  simp only [Option.bind_some, nm, pk_mul]
  by_cases hkp8 : k * p ≤ 8
  · have := key (k * p ≤ 8)
    rw [bI_t hkp8] at this
    rw [if_neg (show ¬ (8 : Int32) < nI (k * p) from nI_nlt (a := 8) hkp8 (by decide)), this]
    simp only [Option.bind_some, zr]
    refine congrArg some (bI_c ?_)
    exact ⟨fun z => ⟨z.1, fun i hi => z.2 i hi (by omega)⟩, fun z => ⟨z.1, fun i hi _ => z.2 i hi⟩⟩
  · have := key (k * p ≤ 8)
    rw [bI_f hkp8] at this
    rw [if_pos (show (8 : Int32) < nI (k * p) from nI_lt (a := 8) (by omega) (by omega)), this]
    simp only [Option.bind_some, zr]
    refine congrArg some (bI_c ?_)
    exact ⟨fun z => ⟨z.1, fun i hi => z.2 i hi (by omega)⟩, fun z => ⟨z.1, fun i hi _ => z.2 i hi⟩⟩
theorem e_cannot {k l : Nat} (hT : TB F n k) {x y : Nat} (hx : x < k) (hy : y < k) (h9 : F 40 (4 * y + x) = -9) (hN : 20 ≤ N) : fX9_canBundle N (M b F G n sw) (some (b + 32)) (nI l) = some 0 := by
  obtain ⟨t2, t4, t7, t32, tj⟩ := id hT
  have e1 : srI (fun y => srI (fun x => bI (F 40 (4 * y + x) = -9)) 0 k) 0 k = srI (fun i => bI (i % 4 < k ∧ i / 4 < k ∧ F 40 i = -9)) 0 16 := by
    rw [sr_4k (g := fun i => bI (i % 4 < k ∧ i / 4 < k ∧ F 40 i = -9)) t4 (fun i hi hz => bI_f (fun z => hz ⟨z.1, z.2.1⟩))]
    exact srI_congr k 0 (fun y _ hy => srI_congr k 0 (fun x _ hx => bI_c ⟨fun z => ⟨by omega, by omega, z⟩, fun z => z.2.2⟩))
  have hpos : cn (fun i => decide (i % 4 < k ∧ i / 4 < k ∧ F 40 i = -9)) 16 ≠ 0 := (cn_pos 16).mpr ⟨4 * y + x, by omega, decide_eq_true ⟨by omega, by omega, h9⟩⟩
  have hle := cn_le (fun i => decide (i % 4 < k ∧ i / 4 < k ∧ F 40 i = -9)) 16
  unfold fX9_canBundle
  rw [K_32, e_places9 t4 t32 hN, e1, sr_cn]
  simp only [Option.bind_some]
  rw [if_neg (nI_nle (by omega) (by omega))]
end TC
/-- class and reference mean the same -/
theorem can_iff {F : mI} {n k p f l : Nat} (hn : n ≤ 16) (hT : TB F n k) (hno : ∀ y, y < k → ∀ x, x < k → ¬ F 40 (4 * y + x) = -9) : ((∀ y, y < k → ∀ x, x < k → qB F p f x y = true) ∧ ∀ i, i < n → lgB F l i = true) ↔ ∀ i, i < n → okB F p f l i = true := by
  have hP : ∀ i, Pl F i ≠ 0 ↔ ∃ j, j < 16 ∧ F 40 j = nI i := by
    intro i
    unfold Pl
    rw [cn_pos]
    exact ⟨fun ⟨j, h1, h2⟩ => ⟨j, h1, of_decide_eq_true h2⟩, fun ⟨j, h1, h2⟩ => ⟨j, h1, decide_eq_true h2⟩⟩
  constructor
  · rintro ⟨h1, h2⟩ i hi
    unfold okB
    rw [decide_eq_true_eq]
    by_cases h0 : Pl F i = 0
    · exact Or.inl h0
    · right
      obtain ⟨j, j1, j2⟩ := (hP i).mp h0
      have h9 : ¬ F 40 j = -9 := fun z => m9ne i (by omega) (j2.symm.trans z)
      obtain ⟨d1, d2, -, -, -, -, d7, d8⟩ := TB_c hn hT j1 h9
      have e : cN F j = i := (nI_eq (by omega) (by omega)).mp (d2.symm.trans j2)
      have := of_decide_eq_true (h1 (j / 4) d8 (j % 4) d7)
      rw [show 4 * (j / 4) + j % 4 = j by omega, e] at this
      have hl := of_decide_eq_true (h2 i hi)
      rw [Nat.mul_comm] at hl
      exact ⟨this.2.2.1, this.2.2.2, this.2.1, hl⟩
  · intro h
    constructor
    · intro y hy x hx
      have h9 := hno y hy x hx
      have hk := hT.2.1
      obtain ⟨d1, d2, -⟩ := TB_c hn hT (show 4 * y + x < 16 by omega) h9
      have hp0 : Pl F (cN F (4 * y + x)) ≠ 0 := (hP _).mpr ⟨4 * y + x, by omega, d2⟩
      rcases of_decide_eq_true (h _ d1) with z | z
      · exact absurd z hp0
      · exact decide_eq_true ⟨h9, z.2.2.1, z.1, z.2.1⟩
    · intro i hi
      unfold lgB
      rw [decide_eq_true_eq]
      rcases of_decide_eq_true (h i hi) with z | z
      · rw [z, Nat.mul_zero]; exact Nat.zero_le _
      · rw [Nat.mul_comm]; exact z.2.2.2
