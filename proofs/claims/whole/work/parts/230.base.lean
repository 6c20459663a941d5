/-! ===== 230: ranges, pictures, the reference's picture, canes by number ===== -/
abbrev rg (p : Nat) (x : Int32) : Prop := 0 ≤ x ∧ x < nI p
theorem rg_iff {p : Nat} {x : Int32} (hp : p < 2 ^ 31) : rg p x ↔ ∃ k, k < p ∧ x = nI k := by
  constructor
  · intro h
    obtain ⟨j, hj, rfl⟩ := nI_of (Int32.not_lt.mpr h.1)
    exact ⟨j, (nI_ltI hj hp).mp h.2, rfl⟩
  · rintro ⟨k, hk, rfl⟩
    exact ⟨nI_pos' (by omega), nI_lt hk hp⟩
theorem rg_in {p k : Nat} (hp : p < 2 ^ 31) (hk : k < p) : rg p (nI k) := (rg_iff hp).mpr ⟨k, hk, rfl⟩
theorem rg_le {p : Nat} {x : Int32} (hp : p < 2 ^ 30) : (0 ≤ x ∧ x ≤ nI p - 1) ↔ rg p x := by
  have h1 : (nI p - 1).toInt = (p : Int) - 1 := pk_sub_toInt (a := p) (b := 1) hp (by decide)
  have h2 : (nI p).toInt = p := nI_toInt (by omega)
  unfold rg
  rw [Int32.le_iff_toInt_le (y := nI p - 1), Int32.lt_iff_toInt_lt (y := nI p), h1, h2]
  constructor <;> intro h <;> exact ⟨h.1, by have := h.2; omega⟩
theorem chk_of {ρ : Type} {S : pH} {ci : Nat} {r : Option Nat} {fs : List Value} {z : Option ρ} (h : obj S ci r = some fs) : chk S ci r z = z := by
  unfold chk
  rw [h]
  rfl
/-- at r lies a picture of side p with cells f -/
def Pic (S : pH) (r : Option Nat) (p : Nat) (f : Nat → Int32) : Prop := (∃ fs, obj S 5 r = some fs) ∧ gfI S 5 1 r = some (nI p) ∧ p ≤ 8 ∧ ∃ a, gfR S 5 0 r = some a ∧ ∀ j, j < 64 → ldI S 0 a (nI j) = some (f j)
theorem e_has {N : Nat} {S : pH} {r : Option Nat} {p : Nat} {f : Nat → Int32} (h : Pic S r p f) (x y : Int32) : fX5_has N S r x y = some (bI (rg p x ∧ rg p y)) := by
  obtain ⟨⟨fs, h1⟩, h2, h3, -⟩ := h
  unfold fX5_has
  simp only [chk_of h1, h2, Option.bind_some]
  by_cases a1 : x < 0
  · rw [if_pos a1, bI_f (fun q => absurd a1 (Int32.not_lt.mpr q.1.1))]
  rw [if_neg a1]
  by_cases a2 : nI p ≤ x
  · rw [if_pos a2, bI_f (fun q => absurd q.1.2 (Int32.not_lt.mpr a2))]
  rw [if_neg a2]
  by_cases a3 : y < 0
  · rw [if_pos a3, bI_f (fun q => absurd a3 (Int32.not_lt.mpr q.2.1))]
  rw [if_neg a3]
  by_cases a4 : nI p ≤ y
  · rw [if_pos a4, bI_f (fun q => absurd q.2.2 (Int32.not_lt.mpr a4))]
  rw [if_neg a4, bI_t ⟨⟨Int32.not_lt.mp a1, Int32.not_le.mp a2⟩, Int32.not_lt.mp a3, Int32.not_le.mp a4⟩]
theorem ix8 (x y : Nat) : nI y * (8 : Int32) + nI x = nI (8 * y + x) := by
  rw [show (8 : Int32) = nI 8 from rfl, pk_mul, nI_add, Nat.mul_comm]
theorem e_at_in {N : Nat} {S : pH} {r : Option Nat} {p : Nat} {f : Nat → Int32} (h : Pic S r p f) {x y : Nat} (hx : x < p) (hy : y < p) : fX5_at N S r (nI x) (nI y) = some (f (8 * y + x)) := by
  have hh := e_has (N := N) h (nI x) (nI y)
  obtain ⟨⟨fs, h1⟩, h2, h3, a, h4, h5⟩ := h
  unfold fX5_at
  rw [chk_of h1, hh, bI_t ⟨rg_in (by omega) hx, rg_in (by omega) hy⟩]
  simp only [Option.bind_some]
  rw [if_neg (by decide), h4]
  simp only [Option.bind_some]
  rw [ix8, h5 _ (by omega)]
  rfl
theorem e_at_out {N : Nat} {S : pH} {r : Option Nat} {p : Nat} {f : Nat → Int32} (h : Pic S r p f) {x y : Int32} (hx : ¬ (rg p x ∧ rg p y)) : fX5_at N S r x y = some 0 := by
  have hh := e_has (N := N) h x y
  obtain ⟨⟨fs, h1⟩, h2, h3, a, h4, h5⟩ := h
  unfold fX5_at
  rw [chk_of h1, hh, bI_f hx]
  simp only [Option.bind_some, if_true]
section PI
variable {b : Nat} {F : mI} {G : mJ} {n : Nat} {sw : Bool} {N : Nat}
theorem M_obj {k ci : Nat} (h : k < 56 + 3 * n) (hk : kd k = (4, ci)) : obj (M b F G n sw) ci (some (b + k)) = some (fl (F k) (G k) (Hst b n sw k) 0 (fty ci)) := m_obj h hk
theorem P_wish {p : Nat} (h : F 14 1 = nI p) (hp : p ≤ 8) : Pic (M b F G n sw) (some (b + 14)) p (F 15) := ⟨⟨_, M_obj (by omega) rfl⟩, by rw [I_14_1, h], hp, _, R_14_0, fun j hj => L_15 hj⟩
theorem P_seen {p : Nat} (h : F 16 1 = nI p) (hp : p ≤ 8) : Pic (M b F G n sw) (some (b + 16)) p (F 17) := ⟨⟨_, M_obj (by omega) rfl⟩, by rw [I_16_1, h], hp, _, R_16_0, fun j hj => L_17 hj⟩
theorem P_cane {i p : Nat} (hi : i < n) (h : F (57 + 3 * i) 1 = nI p) (hp : p ≤ 8) : Pic (M b F G n sw) (some (b + (57 + 3 * i))) p (F (58 + 3 * i)) := ⟨⟨_, M_obj (by omega) (kdC1 i)⟩, by rw [Ip_1 hi, h], hp, _, Rp_0 hi, fun j hj => Lp hi hj⟩
theorem ix64 (c x y : Nat) : (64 : Int32) * nI c + (8 : Int32) * nI y + nI x = nI (64 * c + 8 * y + x) := by
  rw [show (64 : Int32) = nI 64 from rfl, show (8 : Int32) = nI 8 from rfl, pk_mul, pk_mul, nI_add, nI_add]
theorem e_at9 {c x y : Nat} (h : 64 * c + 8 * y + x < 1152) : fX9_at N (M b F G n sw) (some (b + 32)) (nI c) (nI x) (nI y) = some (F 39 (64 * c + 8 * y + x)) := by
  unfold fX9_at
  rw [K_32, R_32_7, Option.bind_some, ix64, L_39 h]
  rfl
theorem e_put9 {c x y : Nat} {v : Int32} (h : 64 * c + 8 * y + x < 1152) : fX9_put N (M b F G n sw) (some (b + 32)) (nI c) (nI x) (nI y) v = some (M b (u2 F 39 (64 * c + 8 * y + x) v) G n sw) := by
  unfold fX9_put
  rw [K_32, R_32_7, Option.bind_some, ix64, T_39 h]
  rfl
/-- the number of a cane -/
theorem e_find_y (hn : n ≤ 16) (h2 : F 0 2 = nI n) {k : Nat} (hk : k < n) : fX8_find N (M b F G n sw) (some b) (nI k) = some (some (b + (56 + 3 * k))) := by
  unfold fX8_find
  simp only [K_0, I_0_2, R_0_1, h2, Option.bind_some]
  rw [if_neg (nI_pos (by omega)), if_neg (nI_ge hk (by omega)), if_pos (show nI k < (16 : Int32) from nI_lt (b := 16) (by omega) (by decide)), L_6 (by omega), if_pos hk]
  rfl
theorem e_find_n (hn : n ≤ 16) (h2 : F 0 2 = nI n) {x : Int32} (hx : ¬ rg n x) : fX8_find N (M b F G n sw) (some b) x = some none := by
  unfold fX8_find
  simp only [K_0, I_0_2, R_0_1, h2, Option.bind_some]
  by_cases a1 : x < 0
  · rw [if_pos a1]
  · have a2 : nI n ≤ x := Int32.not_lt.mp (fun q => hx ⟨Int32.not_lt.mp a1, q⟩)
    rw [if_neg a1, if_pos a2]
theorem e_isCane (hn : n ≤ 16) (h2 : F 32 2 = nI n) (x : Int32) : fX9_isCane N (M b F G n sw) (some (b + 32)) x = some (bI (rg n x)) := by
  unfold fX9_isCane
  simp only [K_32, I_32_2, h2, Option.bind_some, e_in, zr]
  have h := rg_le (p := n) (x := x) (by omega)
  by_cases hx : rg n x
  · rw [bI_t hx, bI_t (h.mpr hx)]
  · rw [bI_f hx, bI_f (fun q => hx (h.mp q))]
theorem e_unused_y (hn : n ≤ 16) (h2 : F 0 2 = nI n) {k l : Nat} (hk : k < n) (hl : F (56 + 3 * k) 1 = nI l) (h0 : 0 < l) (hl2 : l < 2 ^ 31) : fX8_unused N (M b F G n sw) (some b) (nI k) = some (some (b + (56 + 3 * k))) := by
  unfold fX8_unused
  simp only [K_0, e_find_y hn h2 hk, Option.bind_some, nm, Ic_1 hk, hl]
  rw [if_neg (by simp), if_pos (show (1 : Int32) ≤ nI l from nI_le (a := 1) h0 hl2)]
theorem e_unused_0 (hn : n ≤ 16) (h2 : F 0 2 = nI n) {k : Nat} (hk : k < n) (hl : F (56 + 3 * k) 1 = 0) : fX8_unused N (M b F G n sw) (some b) (nI k) = some none := by
  unfold fX8_unused
  simp only [K_0, e_find_y hn h2 hk, Option.bind_some, nm, Ic_1 hk, hl]
  rw [if_neg (by simp), if_neg (by decide)]
theorem e_unused_n (hn : n ≤ 16) (h2 : F 0 2 = nI n) {x : Int32} (hx : ¬ rg n x) : fX8_unused N (M b F G n sw) (some b) x = some none := by
  unfold fX8_unused
  simp only [K_0, e_find_n hn h2 hx, Option.bind_some, nm, if_true]
theorem e_isWhole_y (hn : n ≤ 16) (h2 : F 32 2 = nI n) {k l : Nat} (hk : k < n) (hl : F 36 k = nI l) (h0 : 0 < l) (hl2 : l < 2 ^ 31) : fX9_isWhole N (M b F G n sw) (some (b + 32)) (nI k) = some 1 := by
  unfold fX9_isWhole
  simp only [K_32, e_isCane hn h2, Option.bind_some, R_32_4]
  rw [bI_t (rg_in (by omega) hk), if_neg (by decide), L_36 (by omega)]
  simp only [Option.bind_some, hl]
  rw [if_neg (nI_nle h0 hl2)]
theorem e_isWhole_0 (hn : n ≤ 16) (h2 : F 32 2 = nI n) {k : Nat} (hk : k < n) (hl : F 36 k = 0) : fX9_isWhole N (M b F G n sw) (some (b + 32)) (nI k) = some 0 := by
  unfold fX9_isWhole
  simp only [K_32, e_isCane hn h2, Option.bind_some, R_32_4]
  rw [bI_t (rg_in (by omega) hk), if_neg (by decide), L_36 (by omega)]
  simp only [Option.bind_some, hl]
  rw [if_pos (by decide)]
theorem e_isWhole_n (hn : n ≤ 16) (h2 : F 32 2 = nI n) {x : Int32} (hx : ¬ rg n x) : fX9_isWhole N (M b F G n sw) (some (b + 32)) x = some 0 := by
  unfold fX9_isWhole
  simp only [K_32, e_isCane hn h2, Option.bind_some]
  rw [bI_f hx, if_pos rfl]
end PI
