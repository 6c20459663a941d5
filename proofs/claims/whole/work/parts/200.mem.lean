/-! ===== 200: the pure heap as a memory of ints, longs, references by (cell, place) ===== -/
/-- the kind of each cell: 0 ints, 1 booleans, 2 longs, 3 references (with the length), 4 an object (with the class) -/
def kdL : List (Nat × Nat) := [(4, 8), (4, 3), (0, 9), (0, 9), (2, 9), (2, 9), (3, 16), (4, 7), (0, 16), (0, 16), (4, 2), (0, 64), (0, 64), (0, 64), (4, 5), (0, 64), (4, 5), (0, 64), (4, 0), (0, 64), (0, 64), (0, 64), (0, 64), (0, 64), (0, 64), (0, 64), (0, 64), (4, 4), (0, 8), (0, 256), (0, 256), (4, 6), (4, 9), (0, 9), (0, 9), (0, 16), (0, 16), (0, 16), (0, 16), (0, 1152), (0, 16), (0, 16), (2, 9), (2, 9), (0, 8), (0, 6), (0, 6), (0, 6), (0, 64), (0, 64), (0, 64), (1, 4096), (2, 64), (2, 64), (0, 256), (1, 18)]
def kd (k : Nat) : Nat × Nat := if k < 56 then kdL.getD k (9, 0) else if k % 3 = 2 then (4, 1) else if k % 3 = 0 then (4, 5) else (0, 64)
/-- the kinds of a class's fields: 0 int, 1 long, 2 reference -/
def fty : Nat → List Nat
  | 0 => [2, 2, 2, 0, 2, 2, 2, 0, 2, 2]
  | 1 => [2, 0, 0, 0]
  | 2 => [2, 2, 2]
  | 3 => [2, 2, 2, 2, 0]
  | 4 => [2, 2, 2, 0, 0]
  | 5 => [2, 0]
  | 6 => [0, 0, 0, 0, 0, 0, 0]
  | 7 => [2, 2, 0]
  | 8 => [2, 2, 0, 2, 2, 2, 2, 2, 2, 2, 1]
  | 9 => [2, 2, 0, 2, 2, 2, 2, 2, 0, 0, 0, 2, 2, 2, 2, 0, 0, 2, 0, 0, 2, 2, 2, 1, 2, 2, 2, 2, 2, 2, 2, 2]
  | _ => []
def tv (f : Nat → Int32) (g : Nat → Int64) (h : Nat → Option Nat) (j t : Nat) : Value := if t = 0 then .int (f j) else if t = 1 then .long (g j) else va_rf (h j)
def fl (f : Nat → Int32) (g : Nat → Int64) (h : Nat → Option Nat) : Nat → List Nat → List Value
  | _, [] => []
  | j, t :: ts => tv f g h j t :: fl f g h (j + 1) ts
def cellE (q : Nat × Nat) (f : Nat → Int32) (g : Nat → Int64) (h : Nat → Option Nat) : pE :=
  if q.1 = 0 then pI q.2 f else if q.1 = 1 then pZ q.2 f else if q.1 = 2 then pJ q.2 g else if q.1 = 3 then pR q.2 h else pO q.2 (fl f g h 0 (fty q.2))
abbrev mI : Type := Nat → Nat → Int32
abbrev mJ : Type := Nat → Nat → Int64
abbrev mR : Type := Nat → Nat → Option Nat
def mk (b : Nat) (F : mI) (G : mJ) (H : mR) (c : Nat) : pH := (c, fun a => if b ≤ a ∧ a < b + c then cellE (kd (a - b)) (F (a - b)) (G (a - b)) (H (a - b)) else pNo)
def u2 {α : Type} (F : Nat → Nat → α) (k j : Nat) (v : α) : Nat → Nat → α := fun a i => if a = k ∧ i = j then v else F a i
theorem u2_eq {α : Type} (F : Nat → Nat → α) (k j : Nat) (v : α) : u2 F k j v k j = v := by simp [u2]
theorem u2_row {α : Type} (F : Nat → Nat → α) (k j : Nat) (v : α) {a : Nat} (h : a ≠ k) : u2 F k j v a = F a := by funext i; simp [u2, h]
theorem u2_ne {α : Type} (F : Nat → Nat → α) (k j : Nat) (v : α) {a i : Nat} (h : ¬ (a = k ∧ i = j)) : u2 F k j v a i = F a i := by simp [u2, h]
theorem mk_1 (b : Nat) (F : mI) (G : mJ) (H : mR) (c : Nat) : (mk b F G H c).1 = c := rfl
theorem mk_at {b : Nat} {F : mI} {G : mJ} {H : mR} {c k : Nat} (h : k < c) : (mk b F G H c).2 (b + k) = cellE (kd k) (F k) (G k) (H k) := by
  unfold mk
  simp [h]
theorem mk_up {b : Nat} {F F' : mI} {G G' : mJ} {H H' : mR} {c k : Nat} {x : pE} (h : k < c) (hx : x = cellE (kd k) (F' k) (G' k) (H' k)) (hF : ∀ a, a ≠ k → F' a = F a) (hG : ∀ a, a ≠ k → G' a = G a) (hH : ∀ a, a ≠ k → H' a = H a) : upS (mk b F G H c) (b + k) x = mk b F' G' H' c := by
  unfold upS mk
  refine Prod.ext rfl ?_
  funext a
  show va_up _ (b + k) x a = _
  by_cases ha : a = b + k
  · subst ha
    simp [va_up, h, hx]
  · simp only [va_up, if_neg ha]
    by_cases hb : b ≤ a ∧ a < b + c
    · rw [if_pos hb, if_pos hb]
      have hne : a - b ≠ k := by omega
      rw [hF _ hne, hG _ hne, hH _ hne]
    · rw [if_neg hb, if_neg hb]
theorem mk_pu {b : Nat} {F : mI} {G : mJ} {H : mR} {c : Nat} {F' : mI} {G' : mJ} {H' : mR} {x : pE} (hx : x = cellE (kd c) (F' c) (G' c) (H' c)) (hF : ∀ a, a ≠ c → F' a = F a) (hG : ∀ a, a ≠ c → G' a = G a) (hH : ∀ a, a ≠ c → H' a = H a) : puS b (mk b F G H c) x = mk b F' G' H' (c + 1) := by
  unfold puS mk
  refine Prod.ext rfl ?_
  funext a
  show va_up _ (b + c) x a = _
  by_cases ha : a = b + c
  · subst ha
    simp [va_up, hx]
  · simp only [va_up, if_neg ha]
    by_cases hb : b ≤ a ∧ a < b + c
    · rw [if_pos hb, if_pos (by omega)]
      have hne : a - b ≠ c := by omega
      rw [hF _ hne, hG _ hne, hH _ hne]
    · rw [if_neg hb, if_neg (by omega)]
theorem fl_get (f : Nat → Int32) (g : Nat → Int64) (h : Nat → Option Nat) : ∀ (ts : List Nat) (j0 j : Nat), (fl f g h j0 ts)[j]? = (ts[j]?).map (fun t => tv f g h (j0 + j) t)
  | [], j0, j => by simp [fl]
  | t :: ts, j0, 0 => by simp [fl]
  | t :: ts, j0, j + 1 => by
    simp only [fl, List.getElem?_cons_succ]
    rw [fl_get f g h ts (j0 + 1) j, show j0 + 1 + j = j0 + (j + 1) by omega]
theorem fl_len (f : Nat → Int32) (g : Nat → Int64) (h : Nat → Option Nat) : ∀ (ts : List Nat) (j0 : Nat), (fl f g h j0 ts).length = ts.length
  | [], j0 => rfl
  | t :: ts, j0 => by simp [fl, fl_len f g h ts (j0 + 1)]
theorem fl_set {f f' : Nat → Int32} {g g' : Nat → Int64} {h h' : Nat → Option Nat} {ts : List Nat} {j t : Nat} {v : Value} (ht : ts[j]? = some t) (hv : v = tv f' g' h' j t) (hf : ∀ i, i ≠ j → f' i = f i) (hg : ∀ i, i ≠ j → g' i = g i) (hh : ∀ i, i ≠ j → h' i = h i) : (fl f g h 0 ts).set j v = fl f' g' h' 0 ts := by
  have hj : j < ts.length := (List.getElem?_eq_some_iff.mp ht).1
  apply List.ext_getElem?
  intro k
  rw [fl_get, Nat.zero_add]
  by_cases hk : k = j
  · subst hk
    rw [List.getElem?_set_self (by rw [fl_len]; exact hj), ht, hv]
    rfl
  · rw [List.getElem?_set_ne (Ne.symm hk), fl_get, Nat.zero_add]
    cases ts[k]? with
    | none => rfl
    | some t => simp only [Option.map_some, tv, hf k hk, hg k hk, hh k hk]
theorem cellE_O {ci : Nat} (f : Nat → Int32) (g : Nat → Int64) (h : Nat → Option Nat) : cellE (4, ci) f g h = pO ci (fl f g h 0 (fty ci)) := by simp [cellE]
section MEM
variable {b : Nat} {F : mI} {G : mJ} {H : mR} {c k : Nat}
theorem m_obj {ci : Nat} (h : k < c) (hk : kd k = (4, ci)) : obj (mk b F G H c) ci (some (b + k)) = some (fl (F k) (G k) (H k) 0 (fty ci)) := by
  unfold obj
  simp only [mk_at h, hk, cellE_O]
  simp
theorem m_chk {ρ : Type} {ci : Nat} {z : Option ρ} (h : k < c) (hk : kd k = (4, ci)) : chk (mk b F G H c) ci (some (b + k)) z = z := by
  unfold chk
  rw [m_obj h hk]
  rfl
theorem m_gfI {ci j : Nat} (h : k < c) (hk : kd k = (4, ci)) (hj : (fty ci)[j]? = some 0) : gfI (mk b F G H c) ci j (some (b + k)) = some (F k j) := by
  unfold gfI
  rw [m_obj h hk, Option.bind_some, fl_get, hj, Nat.zero_add]
  rfl
theorem m_gfJ {ci j : Nat} (h : k < c) (hk : kd k = (4, ci)) (hj : (fty ci)[j]? = some 1) : gfJ (mk b F G H c) ci j (some (b + k)) = some (G k j) := by
  unfold gfJ
  rw [m_obj h hk, Option.bind_some, fl_get, hj, Nat.zero_add]
  rfl
theorem m_gfR {ci j : Nat} (h : k < c) (hk : kd k = (4, ci)) (hj : (fty ci)[j]? = some 2) : gfR (mk b F G H c) ci j (some (b + k)) = some (H k j) := by
  unfold gfR
  rw [m_obj h hk, Option.bind_some, fl_get, hj, Nat.zero_add]
  simp only [Option.map_some, Option.bind_some, tv]
  simp only [show ¬ (2 : Nat) = 0 by decide, show ¬ (2 : Nat) = 1 by decide, if_false]
  cases H k j <;> rfl
theorem m_pf {ci j t : Nat} {v : Value} {F' : mI} {G' : mJ} {H' : mR} (h : k < c) (hk : kd k = (4, ci)) (hj : (fty ci)[j]? = some t) (hv : v = tv (F' k) (G' k) (H' k) j t) (hF : ∀ a i, ¬ (a = k ∧ i = j) → F' a i = F a i) (hG : ∀ a i, ¬ (a = k ∧ i = j) → G' a i = G a i) (hH : ∀ a i, ¬ (a = k ∧ i = j) → H' a i = H a i) : pfV (mk b F G H c) ci j (some (b + k)) v = some (mk b F' G' H' c) := by
  unfold pfV
  rw [m_obj h hk, Option.bind_some]
  have hl : j < (fl (F k) (G k) (H k) 0 (fty ci)).length := by rw [fl_len]; exact (List.getElem?_eq_some_iff.mp hj).1
  rw [if_pos hl]
  refine congrArg some (mk_up h ?_ (fun a ha => funext fun i => hF a i (fun q => ha q.1)) (fun a ha => funext fun i => hG a i (fun q => ha q.1)) (fun a ha => funext fun i => hH a i (fun q => ha q.1)))
  rw [hk, cellE_O, fl_set hj hv (fun i hi => hF k i (fun q => hi q.2)) (fun i hi => hG k i (fun q => hi q.2)) (fun i hi => hH k i (fun q => hi q.2))]
theorem m_pfI {ci j : Nat} {v : Int32} (h : k < c) (hk : kd k = (4, ci)) (hj : (fty ci)[j]? = some 0) : pfV (mk b F G H c) ci j (some (b + k)) (.int v) = some (mk b (u2 F k j v) G H c) :=
  m_pf h hk hj (by simp [tv, u2]) (fun a i q => u2_ne _ _ _ _ q) (fun _ _ _ => rfl) (fun _ _ _ => rfl)
theorem m_pfJ {ci j : Nat} {v : Int64} (h : k < c) (hk : kd k = (4, ci)) (hj : (fty ci)[j]? = some 1) : pfV (mk b F G H c) ci j (some (b + k)) (.long v) = some (mk b F (u2 G k j v) H c) :=
  m_pf h hk hj (by simp [tv, u2]) (fun _ _ _ => rfl) (fun a i q => u2_ne _ _ _ _ q) (fun _ _ _ => rfl)
theorem m_pfR {ci j : Nat} {v : Option Nat} (h : k < c) (hk : kd k = (4, ci)) (hj : (fty ci)[j]? = some 2) : pfV (mk b F G H c) ci j (some (b + k)) (va_rf v) = some (mk b F G (u2 H k j v) c) :=
  m_pf h hk hj (by simp [tv, u2]) (fun _ _ _ => rfl) (fun _ _ _ => rfl) (fun a i q => u2_ne _ _ _ _ q)
theorem m_arI {d len : Nat} (h : k < c) (hd : d < 2) (hk : kd k = (d, len)) : arI (mk b F G H c) d (some (b + k)) = some (len, F k) := by
  unfold arI
  simp only [mk_at h, hk, cellE]
  rcases (show d = 0 ∨ d = 1 by omega) with rfl | rfl <;> simp
theorem m_arJ {len : Nat} (h : k < c) (hk : kd k = (2, len)) : arJ (mk b F G H c) (some (b + k)) = some (len, G k) := by
  unfold arJ
  simp only [mk_at h, hk, cellE]
  simp
theorem m_arR {len : Nat} (h : k < c) (hk : kd k = (3, len)) : arR (mk b F G H c) (some (b + k)) = some (len, H k) := by
  unfold arR
  simp only [mk_at h, hk, cellE]
  simp
theorem m_ix {len j : Nat} (hj : j < len) (hl : len < 2 ^ 31) : ¬ (nI j < 0 ∨ len ≤ (nI j).toNatClampNeg) := nI_in hj hl
theorem kd_len (k : Nat) : (kd k).2 < 2 ^ 31 := by
  unfold kd
  split
  · have h : ∀ i, i < 56 → (kdL.getD i (9, 0)).2 < 2 ^ 31 := by decide
    exact h k (by assumption)
  · split
    · decide
    · split <;> decide
theorem m_ldI {len j : Nat} (h : k < c) (hk : kd k = (0, len)) (hj : j < len) : ldI (mk b F G H c) 0 (some (b + k)) (nI j) = some (F k j) := by
  have hl : len < 2 ^ 31 := by have := kd_len k; rw [hk] at this; exact this
  unfold ldI
  rw [m_arI h (by decide) hk, Option.bind_some, if_neg (m_ix hj hl), nI_clamp (by omega)]
theorem m_ldZ {len j : Nat} (h : k < c) (hk : kd k = (1, len)) (hj : j < len) : ldI (mk b F G H c) 1 (some (b + k)) (nI j) = some (F k j) := by
  have hl : len < 2 ^ 31 := by have := kd_len k; rw [hk] at this; exact this
  unfold ldI
  rw [m_arI h (by decide) hk, Option.bind_some, if_neg (m_ix hj hl), nI_clamp (by omega)]
theorem m_ldJ {len j : Nat} (h : k < c) (hk : kd k = (2, len)) (hj : j < len) : ldJ (mk b F G H c) (some (b + k)) (nI j) = some (G k j) := by
  have hl : len < 2 ^ 31 := by have := kd_len k; rw [hk] at this; exact this
  unfold ldJ
  rw [m_arJ h hk, Option.bind_some, if_neg (m_ix hj hl), nI_clamp (by omega)]
theorem m_ldR {len j : Nat} (h : k < c) (hk : kd k = (3, len)) (hj : j < len) : ldR (mk b F G H c) (some (b + k)) (nI j) = some (H k j) := by
  have hl : len < 2 ^ 31 := by have := kd_len k; rw [hk] at this; exact this
  unfold ldR
  rw [m_arR h hk, Option.bind_some, if_neg (m_ix hj hl), nI_clamp (by omega)]
theorem m_lnI {len : Nat} (h : k < c) (hk : kd k = (0, len)) : lnI (mk b F G H c) (some (b + k)) = some (nI len) := by
  unfold lnI
  rw [m_arI h (by decide) hk]
  rfl
theorem m_stI {len j : Nat} {x : Int32} (h : k < c) (hk : kd k = (0, len)) (hj : j < len) : stI (mk b F G H c) (some (b + k)) (nI j) x = some (mk b (u2 F k j x) G H c) := by
  have hl : len < 2 ^ 31 := by have := kd_len k; rw [hk] at this; exact this
  unfold stI
  rw [m_arI h (by decide) hk, Option.bind_some, if_neg (m_ix hj hl), nI_clamp (by omega)]
  refine congrArg some (mk_up h ?_ (fun a ha => u2_row _ _ _ _ ha) (fun _ _ => rfl) (fun _ _ => rfl))
  rw [hk]
  simp only [cellE, if_true]
  refine congrArg (pI len) (funext fun i => ?_)
  simp [upd, u2]
theorem m_stZ {len j : Nat} {x : Int32} (h : k < c) (hk : kd k = (1, len)) (hj : j < len) : stZ (mk b F G H c) (some (b + k)) (nI j) x = some (mk b (u2 F k j (x &&& 1)) G H c) := by
  have hl : len < 2 ^ 31 := by have := kd_len k; rw [hk] at this; exact this
  unfold stZ
  rw [m_arI h (by decide) hk, Option.bind_some, if_neg (m_ix hj hl), nI_clamp (by omega)]
  refine congrArg some (mk_up h ?_ (fun a ha => u2_row _ _ _ _ ha) (fun _ _ => rfl) (fun _ _ => rfl))
  rw [hk]
  simp only [cellE, show ¬ (1 : Nat) = 0 by decide, if_true, if_false]
  refine congrArg (pZ len) (funext fun i => ?_)
  simp [upd, u2]
theorem m_stJ {len j : Nat} {x : Int64} (h : k < c) (hk : kd k = (2, len)) (hj : j < len) : stJ (mk b F G H c) (some (b + k)) (nI j) x = some (mk b F (u2 G k j x) H c) := by
  have hl : len < 2 ^ 31 := by have := kd_len k; rw [hk] at this; exact this
  unfold stJ
  rw [m_arJ h hk, Option.bind_some, if_neg (m_ix hj hl), nI_clamp (by omega)]
  refine congrArg some (mk_up h ?_ (fun _ _ => rfl) (fun a ha => u2_row _ _ _ _ ha) (fun _ _ => rfl))
  rw [hk]
  simp only [cellE, show ¬ (2 : Nat) = 0 by decide, show ¬ (2 : Nat) = 1 by decide, if_true, if_false]
  refine congrArg (pJ len) (funext fun i => ?_)
  simp [vp_updL, u2]
theorem m_stR {len j m : Nat} (h : k < c) (hk : kd k = (3, len)) (hj : j < len) (hm : m < c) (hkm : kd m = (4, 1)) : stR (mk b F G H c) (some (b + k)) (nI j) (some (b + m)) = some (mk b F G (u2 H k j (some (b + m))) c) := by
  have hl : len < 2 ^ 31 := by have := kd_len k; rw [hk] at this; exact this
  unfold stR
  rw [m_arR h hk, Option.bind_some, m_obj hm hkm, Option.bind_some, if_neg (m_ix hj hl), nI_clamp (by omega)]
  refine congrArg some (mk_up h ?_ (fun _ _ => rfl) (fun _ _ => rfl) (fun a ha => u2_row _ _ _ _ ha))
  rw [hk]
  simp only [cellE, show ¬ (3 : Nat) = 0 by decide, show ¬ (3 : Nat) = 1 by decide, show ¬ (3 : Nat) = 2 by decide, if_true, if_false]
  refine congrArg (pR len) (funext fun i => ?_)
  simp [va_up, u2]
end MEM
theorem kdC0 (i : Nat) : kd (56 + 3 * i) = (4, 1) := by
  unfold kd
  rw [if_neg (by omega), if_pos (by omega)]
theorem kdC1 (i : Nat) : kd (57 + 3 * i) = (4, 5) := by
  unfold kd
  rw [if_neg (by omega), if_neg (by omega), if_pos (by omega)]
theorem kdC2 (i : Nat) : kd (58 + 3 * i) = (0, 64) := by
  unfold kd
  rw [if_neg (by omega), if_neg (by omega), if_neg (by omega)]
/-- a truth as the machine has it -/
def bI (q : Prop) [Decidable q] : Int32 := if q then 1 else 0
theorem bI_0 {q : Prop} [Decidable q] : bI q = 0 ↔ ¬ q := by
  unfold bI
  by_cases h : q <;> simp [h]
theorem bI_01 {q : Prop} [Decidable q] : bI q = 0 ∨ bI q = 1 := by
  unfold bI
  by_cases h : q <;> simp [h]
theorem bI_t {q : Prop} [Decidable q] (h : q) : bI q = 1 := if_pos h
theorem bI_f {q : Prop} [Decidable q] (h : ¬ q) : bI q = 0 := if_neg h
