/-! ===== 04: reads and writes of the pure heap, and their rows ===== -/
def asI : Value → Option Int32
  | .int x => some x
  | _ => none
def asJ : Value → Option Int64
  | .long x => some x
  | _ => none
def asR : Value → Option (Option Nat)
  | .null => some none
  | .ref a => some (some a)
  | _ => none
theorem asI_spec {v : Value} {x : Int32} (h : asI v = some x) : v = .int x := by cases v <;> simp [asI] at h; rw [h]
theorem asJ_spec {v : Value} {x : Int64} (h : asJ v = some x) : v = .long x := by cases v <;> simp [asJ] at h; rw [h]
theorem asR_spec {v : Value} {x : Option Nat} (h : asR v = some x) : v = va_rf x := by
  cases v <;> simp [asR] at h <;> subst h <;> rfl
/-- the fields of an object of class ci -/
def obj (S : pH) (ci : Nat) (r : Option Nat) : Option (List Value) := match r with
  | none => none
  | some a => match S.2 a with
    | .inr (.inr (.inr q)) => if q.1 = ci then some q.2 else none
    | _ => none
def arI (S : pH) (kd : Nat) (r : Option Nat) : Option (Nat × (Nat → Int32)) := match r with
  | none => none
  | some a => match S.2 a with
    | .inl q => if q.1 = kd then some q.2 else none
    | _ => none
def arJ (S : pH) (r : Option Nat) : Option (Nat × (Nat → Int64)) := match r with
  | none => none
  | some a => match S.2 a with
    | .inr (.inl q) => some q
    | _ => none
def arR (S : pH) (r : Option Nat) : Option (Nat × (Nat → Option Nat)) := match r with
  | none => none
  | some a => match S.2 a with
    | .inr (.inr (.inl q)) => some q
    | _ => none
theorem obj_spec {S : pH} {ci : Nat} {r : Option Nat} {fs : List Value} (h : obj S ci r = some fs) : ∃ a, r = some a ∧ S.2 a = pO ci fs := by
  unfold obj at h
  split at h
  · cases h
  · rename_i a
    split at h
    · rename_i q hq
      split at h
      · rename_i hc
        refine ⟨a, rfl, ?_⟩
        rw [hq, ← hc, ← Option.some.inj h]
      · cases h
    · cases h
theorem arI_spec {S : pH} {kd : Nat} {r : Option Nat} {q : Nat × (Nat → Int32)} (h : arI S kd r = some q) : ∃ a, r = some a ∧ S.2 a = .inl (kd, q) := by
  unfold arI at h
  split at h
  · cases h
  · rename_i a
    split at h
    · rename_i q' hq
      split at h
      · rename_i hc
        refine ⟨a, rfl, ?_⟩
        rw [hq, ← hc, ← Option.some.inj h]
      · cases h
    · cases h
theorem arJ_spec {S : pH} {r : Option Nat} {q : Nat × (Nat → Int64)} (h : arJ S r = some q) : ∃ a, r = some a ∧ S.2 a = .inr (.inl q) := by
  unfold arJ at h
  split at h
  · cases h
  · rename_i a
    split at h
    · rename_i q' hq
      exact ⟨a, rfl, by rw [hq, Option.some.inj h]⟩
    · cases h
theorem arR_spec {S : pH} {r : Option Nat} {q : Nat × (Nat → Option Nat)} (h : arR S r = some q) : ∃ a, r = some a ∧ S.2 a = .inr (.inr (.inl q)) := by
  unfold arR at h
  split at h
  · cases h
  · rename_i a
    split at h
    · rename_i q' hq
      exact ⟨a, rfl, by rw [hq, Option.some.inj h]⟩
    · cases h
def gfI (S : pH) (ci k : Nat) (r : Option Nat) : Option Int32 := (obj S ci r).bind fun fs => (fs[k]?).bind asI
def gfJ (S : pH) (ci k : Nat) (r : Option Nat) : Option Int64 := (obj S ci r).bind fun fs => (fs[k]?).bind asJ
def gfR (S : pH) (ci k : Nat) (r : Option Nat) : Option (Option Nat) := (obj S ci r).bind fun fs => (fs[k]?).bind asR
def pfV (S : pH) (ci k : Nat) (r : Option Nat) (v : Value) : Option pH := (obj S ci r).bind fun fs => if k < fs.length then some (upS S (r.getD 0) (pO ci (fs.set k v))) else none
def ldI (S : pH) (kd : Nat) (r : Option Nat) (i : Int32) : Option Int32 := (arI S kd r).bind fun q => if i < 0 ∨ q.1 ≤ i.toNatClampNeg then none else some (q.2 i.toNatClampNeg)
def ldJ (S : pH) (r : Option Nat) (i : Int32) : Option Int64 := (arJ S r).bind fun q => if i < 0 ∨ q.1 ≤ i.toNatClampNeg then none else some (q.2 i.toNatClampNeg)
def ldR (S : pH) (r : Option Nat) (i : Int32) : Option (Option Nat) := (arR S r).bind fun q => if i < 0 ∨ q.1 ≤ i.toNatClampNeg then none else some (q.2 i.toNatClampNeg)
def stI (S : pH) (r : Option Nat) (i x : Int32) : Option pH := (arI S 0 r).bind fun q => if i < 0 ∨ q.1 ≤ i.toNatClampNeg then none else some (upS S (r.getD 0) (pI q.1 (upd q.2 i.toNatClampNeg x)))
def stZ (S : pH) (r : Option Nat) (i x : Int32) : Option pH := (arI S 1 r).bind fun q => if i < 0 ∨ q.1 ≤ i.toNatClampNeg then none else some (upS S (r.getD 0) (pZ q.1 (upd q.2 i.toNatClampNeg (x &&& 1))))
def stJ (S : pH) (r : Option Nat) (i : Int32) (x : Int64) : Option pH := (arJ S r).bind fun q => if i < 0 ∨ q.1 ≤ i.toNatClampNeg then none else some (upS S (r.getD 0) (pJ q.1 (vp_updL q.2 i.toNatClampNeg x)))
def stR (S : pH) (r : Option Nat) (i : Int32) (x : Option Nat) : Option pH := (arR S r).bind fun q => (obj S 1 x).bind fun _ => if i < 0 ∨ q.1 ≤ i.toNatClampNeg then none else some (upS S (r.getD 0) (pR q.1 (va_up q.2 i.toNatClampNeg x)))
def lnI (S : pH) (r : Option Nat) : Option Int32 := (arI S 0 r).bind fun q => some (Int32.ofNat q.1)
def cpI (S : pH) (r0 : Option Nat) (sp : Int32) (r1 : Option Nat) (dp n : Int32) : Option pH := (arI S 0 r0).bind fun q0 => (arI S 0 r1).bind fun q1 => if sp < 0 ∨ dp < 0 ∨ n < 0 ∨ ¬ sp.toNatClampNeg + n.toNatClampNeg ≤ q0.1 ∨ ¬ dp.toNatClampNeg + n.toNatClampNeg ≤ q1.1 then none else some (upS S (r1.getD 0) (pI q1.1 (va_cpy q0.2 q1.2 sp.toNatClampNeg dp.toNatClampNeg n.toNatClampNeg)))
/-- a name for a value, a place where two ways join, a result with a heap -/
def nm {α β : Type} (v : α) (f : α → β) : β := f v
def b2 {α β ρ : Type} (q : Option (α × β)) (f : α → β → Option ρ) : Option ρ := q.bind fun z => f z.1 z.2
theorem onm {α β : Type} {v : α} {f : α → β} {r : β} (h : nm v f = r) : ∃ x, x = v ∧ f x = r := ⟨v, rfl, h⟩
theorem obn {α ρ : Type} {q : Option α} {f : α → Option ρ} {r : ρ} (h : q.bind f = some r) : ∃ x, q = some x ∧ f x = some r := Option.bind_eq_some_iff.mp h
theorem ob2 {α β ρ : Type} {q : Option (α × β)} {f : α → β → Option ρ} {r : ρ} (h : b2 q f = some r) : ∃ x z, q = some (x, z) ∧ f x z = some r := by
  obtain ⟨⟨x, z⟩, h1, h2⟩ := Option.bind_eq_some_iff.mp h
  exact ⟨x, z, h1, h2⟩
theorem ifp {ρ : Type} {c : Prop} [Decidable c] {a b : Option ρ} {r : ρ} (h : (if c then a else b) = some r) (hc : c) : a = some r := by rwa [if_pos hc] at h
theorem ifn {ρ : Type} {c : Prop} [Decidable c] {a b : Option ρ} {r : ρ} (h : (if c then a else b) = some r) (hc : ¬ c) : b = some r := by rwa [if_neg hc] at h
theorem if0 {ρ : Type} {c : Prop} [Decidable c] {a : Option ρ} {r : ρ} (h : (if c then a else none) = some r) : c ∧ a = some r := by
  by_cases hc : c
  · exact ⟨hc, ifp h hc⟩
  · exact absurd (ifn h hc) (by simp)
theorem wsO_of {w : VW} {S : pH} {H : Heap} {a : Nat} {x : pE} (hH : hp w S H) (hx : S.2 a = x) (hne : x ≠ pNo) : ∃ i, i < S.1 ∧ a = w.2.2 + i ∧ (wsO w.2.2 w.2.1 S)[i]? = some (a, emb w.2.1 x) := by
  by_cases hb : w.2.2 ≤ a ∧ a < w.2.2 + S.1
  · refine ⟨a - w.2.2, by omega, by omega, ?_⟩
    rw [wsO_at (by omega), show w.2.2 + (a - w.2.2) = a by omega, hx]
  · exact absurd (hx.symm.trans (hH.2.2 a hb)) hne
theorem hp_up {w : VW} {S : pH} {H H1 : Heap} {i : Nat} {x : pE} (hH : hp w S H) (hi : i < S.1) (hz : H1.size = H.size) (hP : va_P w.1 vwCl ((wsO w.2.2 w.2.1 S).set i (w.2.2 + i, emb w.2.1 x)) H1) : hp w (upS S (w.2.2 + i) x) H1 := by
  refine ⟨hz.trans hH.1, by rw [wsO_up hi]; exact hP, fun a ha => ?_⟩
  have h1 : ¬ a = w.2.2 + i := fun q => ha (by subst q; exact ⟨by omega, by show _ < _ + S.1; omega⟩)
  show va_up S.2 (w.2.2 + i) x a = pNo
  rw [show va_up S.2 (w.2.2 + i) x a = S.2 a by simp [va_up, h1]]
  exact hH.2.2 a ha
theorem hp_pu {w : VW} {S : pH} {H H1 : Heap} {x : pE} (hH : hp w S H) (hz : H1.size = H.size + 1) (hP : va_P w.1 vwCl (wsO w.2.2 w.2.1 S ++ [(w.2.2 + S.1, emb w.2.1 x)]) H1) : hp w (puS w.2.2 S x) H1 := by
  refine ⟨by rw [hz, hH.1]; rfl, by rw [wsO_pu]; exact hP, fun a ha => ?_⟩
  have h1 : ¬ (w.2.2 ≤ a ∧ a < w.2.2 + S.1) := fun q => ha ⟨q.1, by show a < w.2.2 + (S.1 + 1); omega⟩
  have h2 : ¬ a = w.2.2 + S.1 := fun q => ha ⟨by omega, by show a < w.2.2 + (S.1 + 1); omega⟩
  show va_up S.2 (w.2.2 + S.1) x a = pNo
  rw [show va_up S.2 (w.2.2 + S.1) x a = S.2 a by simp [va_up, h2]]
  exact hH.2.2 a h1
theorem pO_ne {ci : Nat} {fs : List Value} (h : ci ≠ 99) : pO ci fs ≠ pNo := by
  intro q
  injection q with q
  injection q with q
  injection q with q
  exact h (congrArg Prod.fst q)
abbrev mmax (x y : Int32) : Int32 := if x < y then y else x
abbrev mmin (x y : Int32) : Int32 := if y < x then y else x
abbrev mabs (x : Int32) : Int32 := if 0 ≤ x then x else 0 - x
theorem cat_i (x : Int32) : (Value.int x).category = 1 := rfl
theorem cat_j (x : Int64) : (Value.long x).category = 2 := rfl
theorem cat2 (l : List Value) : (l.map fun v => v.category).sum ≤ 2 * l.length := by
  induction l with
  | nil => simp
  | cons v l ih => rcases lv_cat v with hv | hv <;> simp [hv] <;> omega
def chk {ρ : Type} (S : pH) (ci : Nat) (r : Option Nat) (k : Option ρ) : Option ρ := (obj S ci r).bind fun _ => k
theorem chk_spec {ρ : Type} {S : pH} {ci : Nat} {r : Option Nat} {k : Option ρ} {z : ρ} (h : chk S ci r k = some z) : (∃ fs, obj S ci r = some fs) ∧ k = some z := by
  obtain ⟨fs, h1, h2⟩ := obn h
  exact ⟨⟨fs, h1⟩, h2⟩
theorem chk_ne {S : pH} {ci : Nat} {r : Option Nat} (h : ∃ fs, obj S ci r = some fs) : ¬ r = none := by
  obtain ⟨fs, h⟩ := h
  obtain ⟨a, rfl, -⟩ := obj_spec h
  exact fun q => by cases q
theorem sp1 {α : Type} {a c : α} (h : some a = some c) : c = a := (Option.some.inj h).symm
theorem sp2 {α β : Type} {a c : α} {b d : β} (h : some (a, b) = some (c, d)) : c = a ∧ d = b := by cases h; exact ⟨rfl, rfl⟩
theorem catL {l : List Value} (h : l.length ≤ 4) : (l.map fun v => v.category).sum ≤ 8 := by
  have key : (l.map fun v => v.category).sum ≤ 2 * l.length := by
    clear h
    induction l with
    | nil => simp
    | cons v l ih => rcases lv_cat v with hv | hv <;> simp [hv] <;> omega
  omega
def b3 {α0 α1 α2 ρ : Type} (q : Option (α0 × α1 × α2)) (f : α0 → α1 → α2 → Option ρ) : Option ρ := q.bind fun z => f z.1 z.2.1 z.2.2
theorem ob3 {α0 α1 α2 ρ : Type} {q : Option (α0 × α1 × α2)} {f : α0 → α1 → α2 → Option ρ} {r : ρ} (h : b3 q f = some r) : ∃ a0 a1 a2, q = some (a0, a1, a2) ∧ f a0 a1 a2 = some r := by
  obtain ⟨⟨a0, a1, a2⟩, h1, h2⟩ := Option.bind_eq_some_iff.mp h
  exact ⟨a0, a1, a2, h1, h2⟩
def b4 {α0 α1 α2 α3 ρ : Type} (q : Option (α0 × α1 × α2 × α3)) (f : α0 → α1 → α2 → α3 → Option ρ) : Option ρ := q.bind fun z => f z.1 z.2.1 z.2.2.1 z.2.2.2
theorem ob4 {α0 α1 α2 α3 ρ : Type} {q : Option (α0 × α1 × α2 × α3)} {f : α0 → α1 → α2 → α3 → Option ρ} {r : ρ} (h : b4 q f = some r) : ∃ a0 a1 a2 a3, q = some (a0, a1, a2, a3) ∧ f a0 a1 a2 a3 = some r := by
  obtain ⟨⟨a0, a1, a2, a3⟩, h1, h2⟩ := Option.bind_eq_some_iff.mp h
  exact ⟨a0, a1, a2, a3, h1, h2⟩
def b5 {α0 α1 α2 α3 α4 ρ : Type} (q : Option (α0 × α1 × α2 × α3 × α4)) (f : α0 → α1 → α2 → α3 → α4 → Option ρ) : Option ρ := q.bind fun z => f z.1 z.2.1 z.2.2.1 z.2.2.2.1 z.2.2.2.2
theorem ob5 {α0 α1 α2 α3 α4 ρ : Type} {q : Option (α0 × α1 × α2 × α3 × α4)} {f : α0 → α1 → α2 → α3 → α4 → Option ρ} {r : ρ} (h : b5 q f = some r) : ∃ a0 a1 a2 a3 a4, q = some (a0, a1, a2, a3, a4) ∧ f a0 a1 a2 a3 a4 = some r := by
  obtain ⟨⟨a0, a1, a2, a3, a4⟩, h1, h2⟩ := Option.bind_eq_some_iff.mp h
  exact ⟨a0, a1, a2, a3, a4, h1, h2⟩
def b6 {α0 α1 α2 α3 α4 α5 ρ : Type} (q : Option (α0 × α1 × α2 × α3 × α4 × α5)) (f : α0 → α1 → α2 → α3 → α4 → α5 → Option ρ) : Option ρ := q.bind fun z => f z.1 z.2.1 z.2.2.1 z.2.2.2.1 z.2.2.2.2.1 z.2.2.2.2.2
theorem ob6 {α0 α1 α2 α3 α4 α5 ρ : Type} {q : Option (α0 × α1 × α2 × α3 × α4 × α5)} {f : α0 → α1 → α2 → α3 → α4 → α5 → Option ρ} {r : ρ} (h : b6 q f = some r) : ∃ a0 a1 a2 a3 a4 a5, q = some (a0, a1, a2, a3, a4, a5) ∧ f a0 a1 a2 a3 a4 a5 = some r := by
  obtain ⟨⟨a0, a1, a2, a3, a4, a5⟩, h1, h2⟩ := Option.bind_eq_some_iff.mp h
  exact ⟨a0, a1, a2, a3, a4, a5, h1, h2⟩
def b7 {α0 α1 α2 α3 α4 α5 α6 ρ : Type} (q : Option (α0 × α1 × α2 × α3 × α4 × α5 × α6)) (f : α0 → α1 → α2 → α3 → α4 → α5 → α6 → Option ρ) : Option ρ := q.bind fun z => f z.1 z.2.1 z.2.2.1 z.2.2.2.1 z.2.2.2.2.1 z.2.2.2.2.2.1 z.2.2.2.2.2.2
theorem ob7 {α0 α1 α2 α3 α4 α5 α6 ρ : Type} {q : Option (α0 × α1 × α2 × α3 × α4 × α5 × α6)} {f : α0 → α1 → α2 → α3 → α4 → α5 → α6 → Option ρ} {r : ρ} (h : b7 q f = some r) : ∃ a0 a1 a2 a3 a4 a5 a6, q = some (a0, a1, a2, a3, a4, a5, a6) ∧ f a0 a1 a2 a3 a4 a5 a6 = some r := by
  obtain ⟨⟨a0, a1, a2, a3, a4, a5, a6⟩, h1, h2⟩ := Option.bind_eq_some_iff.mp h
  exact ⟨a0, a1, a2, a3, a4, a5, a6, h1, h2⟩
def b8 {α0 α1 α2 α3 α4 α5 α6 α7 ρ : Type} (q : Option (α0 × α1 × α2 × α3 × α4 × α5 × α6 × α7)) (f : α0 → α1 → α2 → α3 → α4 → α5 → α6 → α7 → Option ρ) : Option ρ := q.bind fun z => f z.1 z.2.1 z.2.2.1 z.2.2.2.1 z.2.2.2.2.1 z.2.2.2.2.2.1 z.2.2.2.2.2.2.1 z.2.2.2.2.2.2.2
theorem ob8 {α0 α1 α2 α3 α4 α5 α6 α7 ρ : Type} {q : Option (α0 × α1 × α2 × α3 × α4 × α5 × α6 × α7)} {f : α0 → α1 → α2 → α3 → α4 → α5 → α6 → α7 → Option ρ} {r : ρ} (h : b8 q f = some r) : ∃ a0 a1 a2 a3 a4 a5 a6 a7, q = some (a0, a1, a2, a3, a4, a5, a6, a7) ∧ f a0 a1 a2 a3 a4 a5 a6 a7 = some r := by
  obtain ⟨⟨a0, a1, a2, a3, a4, a5, a6, a7⟩, h1, h2⟩ := Option.bind_eq_some_iff.mp h
  exact ⟨a0, a1, a2, a3, a4, a5, a6, a7, h1, h2⟩
def bS1 {α0 σ ρ : Type} (q : Option (Sum (α0) σ)) (k : σ → Option ρ) (f : α0 → Option ρ) : Option ρ := q.bind fun s => match s with
  | .inl z => f z
  | .inr r => k r
theorem obS1 {α0 σ ρ : Type} {q : Option (Sum (α0) σ)} {k : σ → Option ρ} {f : α0 → Option ρ} {r : ρ} (h : bS1 q k f = some r) : (∃ a0, q = some (.inl a0) ∧ f a0 = some r) ∨ (∃ s, q = some (.inr s) ∧ k s = some r) := by
  obtain ⟨s, h1, h2⟩ := Option.bind_eq_some_iff.mp h
  cases s with
  | inl z => exact Or.inl ⟨z, h1, h2⟩
  | inr s => exact Or.inr ⟨s, h1, h2⟩
def bS2 {α0 α1 σ ρ : Type} (q : Option (Sum (α0 × α1) σ)) (k : σ → Option ρ) (f : α0 → α1 → Option ρ) : Option ρ := q.bind fun s => match s with
  | .inl z => f z.1 z.2
  | .inr r => k r
theorem obS2 {α0 α1 σ ρ : Type} {q : Option (Sum (α0 × α1) σ)} {k : σ → Option ρ} {f : α0 → α1 → Option ρ} {r : ρ} (h : bS2 q k f = some r) : (∃ a0 a1, q = some (.inl (a0, a1)) ∧ f a0 a1 = some r) ∨ (∃ s, q = some (.inr s) ∧ k s = some r) := by
  obtain ⟨s, h1, h2⟩ := Option.bind_eq_some_iff.mp h
  cases s with
  | inl z =>
    obtain ⟨a0, a1⟩ := z
    exact Or.inl ⟨a0, a1, h1, h2⟩
  | inr s => exact Or.inr ⟨s, h1, h2⟩
def bS3 {α0 α1 α2 σ ρ : Type} (q : Option (Sum (α0 × α1 × α2) σ)) (k : σ → Option ρ) (f : α0 → α1 → α2 → Option ρ) : Option ρ := q.bind fun s => match s with
  | .inl z => f z.1 z.2.1 z.2.2
  | .inr r => k r
theorem obS3 {α0 α1 α2 σ ρ : Type} {q : Option (Sum (α0 × α1 × α2) σ)} {k : σ → Option ρ} {f : α0 → α1 → α2 → Option ρ} {r : ρ} (h : bS3 q k f = some r) : (∃ a0 a1 a2, q = some (.inl (a0, a1, a2)) ∧ f a0 a1 a2 = some r) ∨ (∃ s, q = some (.inr s) ∧ k s = some r) := by
  obtain ⟨s, h1, h2⟩ := Option.bind_eq_some_iff.mp h
  cases s with
  | inl z =>
    obtain ⟨a0, a1, a2⟩ := z
    exact Or.inl ⟨a0, a1, a2, h1, h2⟩
  | inr s => exact Or.inr ⟨s, h1, h2⟩
def bS4 {α0 α1 α2 α3 σ ρ : Type} (q : Option (Sum (α0 × α1 × α2 × α3) σ)) (k : σ → Option ρ) (f : α0 → α1 → α2 → α3 → Option ρ) : Option ρ := q.bind fun s => match s with
  | .inl z => f z.1 z.2.1 z.2.2.1 z.2.2.2
  | .inr r => k r
theorem obS4 {α0 α1 α2 α3 σ ρ : Type} {q : Option (Sum (α0 × α1 × α2 × α3) σ)} {k : σ → Option ρ} {f : α0 → α1 → α2 → α3 → Option ρ} {r : ρ} (h : bS4 q k f = some r) : (∃ a0 a1 a2 a3, q = some (.inl (a0, a1, a2, a3)) ∧ f a0 a1 a2 a3 = some r) ∨ (∃ s, q = some (.inr s) ∧ k s = some r) := by
  obtain ⟨s, h1, h2⟩ := Option.bind_eq_some_iff.mp h
  cases s with
  | inl z =>
    obtain ⟨a0, a1, a2, a3⟩ := z
    exact Or.inl ⟨a0, a1, a2, a3, h1, h2⟩
  | inr s => exact Or.inr ⟨s, h1, h2⟩
def bS5 {α0 α1 α2 α3 α4 σ ρ : Type} (q : Option (Sum (α0 × α1 × α2 × α3 × α4) σ)) (k : σ → Option ρ) (f : α0 → α1 → α2 → α3 → α4 → Option ρ) : Option ρ := q.bind fun s => match s with
  | .inl z => f z.1 z.2.1 z.2.2.1 z.2.2.2.1 z.2.2.2.2
  | .inr r => k r
theorem obS5 {α0 α1 α2 α3 α4 σ ρ : Type} {q : Option (Sum (α0 × α1 × α2 × α3 × α4) σ)} {k : σ → Option ρ} {f : α0 → α1 → α2 → α3 → α4 → Option ρ} {r : ρ} (h : bS5 q k f = some r) : (∃ a0 a1 a2 a3 a4, q = some (.inl (a0, a1, a2, a3, a4)) ∧ f a0 a1 a2 a3 a4 = some r) ∨ (∃ s, q = some (.inr s) ∧ k s = some r) := by
  obtain ⟨s, h1, h2⟩ := Option.bind_eq_some_iff.mp h
  cases s with
  | inl z =>
    obtain ⟨a0, a1, a2, a3, a4⟩ := z
    exact Or.inl ⟨a0, a1, a2, a3, a4, h1, h2⟩
  | inr s => exact Or.inr ⟨s, h1, h2⟩
def bS6 {α0 α1 α2 α3 α4 α5 σ ρ : Type} (q : Option (Sum (α0 × α1 × α2 × α3 × α4 × α5) σ)) (k : σ → Option ρ) (f : α0 → α1 → α2 → α3 → α4 → α5 → Option ρ) : Option ρ := q.bind fun s => match s with
  | .inl z => f z.1 z.2.1 z.2.2.1 z.2.2.2.1 z.2.2.2.2.1 z.2.2.2.2.2
  | .inr r => k r
theorem obS6 {α0 α1 α2 α3 α4 α5 σ ρ : Type} {q : Option (Sum (α0 × α1 × α2 × α3 × α4 × α5) σ)} {k : σ → Option ρ} {f : α0 → α1 → α2 → α3 → α4 → α5 → Option ρ} {r : ρ} (h : bS6 q k f = some r) : (∃ a0 a1 a2 a3 a4 a5, q = some (.inl (a0, a1, a2, a3, a4, a5)) ∧ f a0 a1 a2 a3 a4 a5 = some r) ∨ (∃ s, q = some (.inr s) ∧ k s = some r) := by
  obtain ⟨s, h1, h2⟩ := Option.bind_eq_some_iff.mp h
  cases s with
  | inl z =>
    obtain ⟨a0, a1, a2, a3, a4, a5⟩ := z
    exact Or.inl ⟨a0, a1, a2, a3, a4, a5, h1, h2⟩
  | inr s => exact Or.inr ⟨s, h1, h2⟩
def bS7 {α0 α1 α2 α3 α4 α5 α6 σ ρ : Type} (q : Option (Sum (α0 × α1 × α2 × α3 × α4 × α5 × α6) σ)) (k : σ → Option ρ) (f : α0 → α1 → α2 → α3 → α4 → α5 → α6 → Option ρ) : Option ρ := q.bind fun s => match s with
  | .inl z => f z.1 z.2.1 z.2.2.1 z.2.2.2.1 z.2.2.2.2.1 z.2.2.2.2.2.1 z.2.2.2.2.2.2
  | .inr r => k r
theorem obS7 {α0 α1 α2 α3 α4 α5 α6 σ ρ : Type} {q : Option (Sum (α0 × α1 × α2 × α3 × α4 × α5 × α6) σ)} {k : σ → Option ρ} {f : α0 → α1 → α2 → α3 → α4 → α5 → α6 → Option ρ} {r : ρ} (h : bS7 q k f = some r) : (∃ a0 a1 a2 a3 a4 a5 a6, q = some (.inl (a0, a1, a2, a3, a4, a5, a6)) ∧ f a0 a1 a2 a3 a4 a5 a6 = some r) ∨ (∃ s, q = some (.inr s) ∧ k s = some r) := by
  obtain ⟨s, h1, h2⟩ := Option.bind_eq_some_iff.mp h
  cases s with
  | inl z =>
    obtain ⟨a0, a1, a2, a3, a4, a5, a6⟩ := z
    exact Or.inl ⟨a0, a1, a2, a3, a4, a5, a6, h1, h2⟩
  | inr s => exact Or.inr ⟨s, h1, h2⟩
def bS8 {α0 α1 α2 α3 α4 α5 α6 α7 σ ρ : Type} (q : Option (Sum (α0 × α1 × α2 × α3 × α4 × α5 × α6 × α7) σ)) (k : σ → Option ρ) (f : α0 → α1 → α2 → α3 → α4 → α5 → α6 → α7 → Option ρ) : Option ρ := q.bind fun s => match s with
  | .inl z => f z.1 z.2.1 z.2.2.1 z.2.2.2.1 z.2.2.2.2.1 z.2.2.2.2.2.1 z.2.2.2.2.2.2.1 z.2.2.2.2.2.2.2
  | .inr r => k r
theorem obS8 {α0 α1 α2 α3 α4 α5 α6 α7 σ ρ : Type} {q : Option (Sum (α0 × α1 × α2 × α3 × α4 × α5 × α6 × α7) σ)} {k : σ → Option ρ} {f : α0 → α1 → α2 → α3 → α4 → α5 → α6 → α7 → Option ρ} {r : ρ} (h : bS8 q k f = some r) : (∃ a0 a1 a2 a3 a4 a5 a6 a7, q = some (.inl (a0, a1, a2, a3, a4, a5, a6, a7)) ∧ f a0 a1 a2 a3 a4 a5 a6 a7 = some r) ∨ (∃ s, q = some (.inr s) ∧ k s = some r) := by
  obtain ⟨s, h1, h2⟩ := Option.bind_eq_some_iff.mp h
  cases s with
  | inl z =>
    obtain ⟨a0, a1, a2, a3, a4, a5, a6, a7⟩ := z
    exact Or.inl ⟨a0, a1, a2, a3, a4, a5, a6, a7, h1, h2⟩
  | inr s => exact Or.inr ⟨s, h1, h2⟩
theorem jb1 {α0 ρ : Type} {f k : α0 → Option ρ} (e : f = k) {a0 : α0} {r : ρ} (h : f a0 = some r) : k a0 = some r := by rw [← e]; exact h
theorem jb2 {α0 α1 ρ : Type} {f k : α0 → α1 → Option ρ} (e : f = k) {a0 : α0} {a1 : α1} {r : ρ} (h : f a0 a1 = some r) : k a0 a1 = some r := by rw [← e]; exact h
theorem jb3 {α0 α1 α2 ρ : Type} {f k : α0 → α1 → α2 → Option ρ} (e : f = k) {a0 : α0} {a1 : α1} {a2 : α2} {r : ρ} (h : f a0 a1 a2 = some r) : k a0 a1 a2 = some r := by rw [← e]; exact h
theorem jb4 {α0 α1 α2 α3 ρ : Type} {f k : α0 → α1 → α2 → α3 → Option ρ} (e : f = k) {a0 : α0} {a1 : α1} {a2 : α2} {a3 : α3} {r : ρ} (h : f a0 a1 a2 a3 = some r) : k a0 a1 a2 a3 = some r := by rw [← e]; exact h
theorem jb5 {α0 α1 α2 α3 α4 ρ : Type} {f k : α0 → α1 → α2 → α3 → α4 → Option ρ} (e : f = k) {a0 : α0} {a1 : α1} {a2 : α2} {a3 : α3} {a4 : α4} {r : ρ} (h : f a0 a1 a2 a3 a4 = some r) : k a0 a1 a2 a3 a4 = some r := by rw [← e]; exact h
theorem jb6 {α0 α1 α2 α3 α4 α5 ρ : Type} {f k : α0 → α1 → α2 → α3 → α4 → α5 → Option ρ} (e : f = k) {a0 : α0} {a1 : α1} {a2 : α2} {a3 : α3} {a4 : α4} {a5 : α5} {r : ρ} (h : f a0 a1 a2 a3 a4 a5 = some r) : k a0 a1 a2 a3 a4 a5 = some r := by rw [← e]; exact h
theorem jb7 {α0 α1 α2 α3 α4 α5 α6 ρ : Type} {f k : α0 → α1 → α2 → α3 → α4 → α5 → α6 → Option ρ} (e : f = k) {a0 : α0} {a1 : α1} {a2 : α2} {a3 : α3} {a4 : α4} {a5 : α5} {a6 : α6} {r : ρ} (h : f a0 a1 a2 a3 a4 a5 a6 = some r) : k a0 a1 a2 a3 a4 a5 a6 = some r := by rw [← e]; exact h
theorem jb8 {α0 α1 α2 α3 α4 α5 α6 α7 ρ : Type} {f k : α0 → α1 → α2 → α3 → α4 → α5 → α6 → α7 → Option ρ} (e : f = k) {a0 : α0} {a1 : α1} {a2 : α2} {a3 : α3} {a4 : α4} {a5 : α5} {a6 : α6} {a7 : α7} {r : ρ} (h : f a0 a1 a2 a3 a4 a5 a6 a7 = some r) : k a0 a1 a2 a3 a4 a5 a6 a7 = some r := by rw [← e]; exact h
theorem jb9 {α0 α1 α2 α3 α4 α5 α6 α7 α8 ρ : Type} {f k : α0 → α1 → α2 → α3 → α4 → α5 → α6 → α7 → α8 → Option ρ} (e : f = k) {a0 : α0} {a1 : α1} {a2 : α2} {a3 : α3} {a4 : α4} {a5 : α5} {a6 : α6} {a7 : α7} {a8 : α8} {r : ρ} (h : f a0 a1 a2 a3 a4 a5 a6 a7 a8 = some r) : k a0 a1 a2 a3 a4 a5 a6 a7 a8 = some r := by rw [← e]; exact h
section VH
variable {g : VG} {w : VW} {nL : Nat} {Q : State → Prop} {S : pH} {kc ks : Nat} {lv : List (Nat × Value)} {st : List Value} {y : MethodName} {cc : ByteArray} {rt : Option FieldType} {rm : Room}
theorem v_get (hC : Cx g y cc nL rt rm w) {ci k N idx : Nat} {C : String} {T : u_T} {r : Option Nat} {fs : List Value} {v : Value} (pc : Nat) (hc : vwCl[ci]? = some (C, T, N)) (h9 : ci ≠ 99) (hin : ∀ q ∈ u_ws C T N, q ∈ tblG) (hk : k < N) (hl : Cond.fieldLink y.cls idx (T k).1 (T k).2.1 (T k).2.2.1 ∈ tblG) (ho : obj S ci r = some fs) (hv : fs[k]? = some v) (d : decode cc pc = .ok (.getfield idx, 3)) (K : V g w nL Q S kc ks (pc + 3) lv (v :: st)) : V g w nL Q S kc ks pc lv (va_rf r :: st) := by
  intro H locs ls hH hS hh
  obtain ⟨a, rfl, ha⟩ := obj_spec ho
  obtain ⟨i, hi, -, hw⟩ := wsO_of hH ha (pO_ne h9)
  exact va_get hC.1.1 hC.1.2.1 hC.2.1 hin hC.1.2.2.2.2.1 hC.2.2.2.1 hH.2.1 i hw hc k hk (hC.2.1 _ hl) (fun _ q => q) hv d (K H locs ls hH hS hh)
theorem v_getN (hC : Cx g y cc nL rt rm w) {ci k N idx : Nat} {C host : String} {T : u_T} {r : Option Nat} {fs : List Value} {v : Value} (pc : Nat) (hc : vwCl[ci]? = some (C, T, N)) (h9 : ci ≠ 99) (hin : ∀ q ∈ u_ws C T N, q ∈ tblG) (hk : k < N) (hl : Cond.fieldLinkNest y.cls idx (T k).1 (T k).2.1 (T k).2.2.1 host ∈ tblN) (ho : obj S ci r = some fs) (hv : fs[k]? = some v) (d : decode cc pc = .ok (.getfield idx, 3)) (K : V g w nL Q S kc ks (pc + 3) lv (v :: st)) : V g w nL Q S kc ks pc lv (va_rf r :: st) := by
  intro H locs ls hH hS hh
  obtain ⟨a, rfl, ha⟩ := obj_spec ho
  obtain ⟨i, hi, -, hw⟩ := wsO_of hH ha (pO_ne h9)
  exact va_getN hC.1.1 hC.1.2.1 hC.2.1 hin hC.1.2.2.2.2.1 hC.2.2.2.1 hH.2.1 i hw hc k hk (va_Nw.use rfl (hC.2.2.1.1 _ hl)) (fun _ q => q) hv d (K H locs ls hH hS hh)
theorem gfI_spec {ci k : Nat} {r : Option Nat} {x : Int32} (h : gfI S ci k r = some x) : ∃ fs, obj S ci r = some fs ∧ fs[k]? = some (.int x) := by
  obtain ⟨fs, h1, h2⟩ := obn h
  obtain ⟨v, h3, h4⟩ := obn h2
  exact ⟨fs, h1, by rw [h3, asI_spec h4]⟩
theorem gfJ_spec {ci k : Nat} {r : Option Nat} {x : Int64} (h : gfJ S ci k r = some x) : ∃ fs, obj S ci r = some fs ∧ fs[k]? = some (.long x) := by
  obtain ⟨fs, h1, h2⟩ := obn h
  obtain ⟨v, h3, h4⟩ := obn h2
  exact ⟨fs, h1, by rw [h3, asJ_spec h4]⟩
theorem gfR_spec {ci k : Nat} {r : Option Nat} {x : Option Nat} (h : gfR S ci k r = some x) : ∃ fs, obj S ci r = some fs ∧ fs[k]? = some (va_rf x) := by
  obtain ⟨fs, h1, h2⟩ := obn h
  obtain ⟨v, h3, h4⟩ := obn h2
  exact ⟨fs, h1, by rw [h3, asR_spec h4]⟩
theorem pfV_spec {ci k : Nat} {r : Option Nat} {v : Value} {S1 : pH} (h : pfV S ci k r v = some S1) : ∃ a fs, r = some a ∧ obj S ci (some a) = some fs ∧ S.2 a = pO ci fs ∧ k < fs.length ∧ S1 = upS S a (pO ci (fs.set k v)) := by
  obtain ⟨fs, h1, h2⟩ := obn h
  obtain ⟨h3, h4⟩ := if0 h2
  obtain ⟨a, rfl, h5⟩ := obj_spec h1
  exact ⟨a, fs, rfl, h1, h5, h3, (Option.some.inj h4).symm⟩
theorem v_put (hC : Cx g y cc nL rt rm w) {ci k N idx : Nat} {C : String} {T : u_T} {r : Option Nat} {v : Value} {ty : FieldType} {S1 : pH} (pc : Nat) (hc : vwCl[ci]? = some (C, T, N)) (h9 : ci ≠ 99) (hin : ∀ q ∈ u_ws C T N, q ∈ tblG) (ty0 : Nat → FieldType) (hty : ∀ k, k < N → parseFieldDescriptor (T k).2.2.1 = some (ty0 k)) (hnm : ∀ a, a < N → ∀ b, b < N → a ≠ b → (T a).2.1 ≠ (T b).2.1) (hk : k < N) (hl : Cond.fieldLink y.cls idx (T k).1 (T k).2.1 (T k).2.2.1 ∈ tblG) (hfin : (T k).2.2.2 = false) (hd : parseFieldDescriptor (T k).2.2.1 = some ty) (hn : narrow ty v = v) (hfit : fits ty v = true) (ho : pfV S ci k r v = some S1) (d : decode cc pc = .ok (.putfield idx, 3)) (K : V g w nL Q S1 kc ks (pc + 3) lv st) : V g w nL Q S kc ks pc lv (v :: va_rf r :: st) := by
  intro H locs ls hH hS0 hh
  obtain ⟨a, fs, rfl, ho1, ha, hkl, rfl⟩ := pfV_spec ho
  obtain ⟨i, hi, rfl, he⟩ := wsO_of hH ha (pO_ne h9)
  have hts := hC.2.1
  have hK := hC.2.2.2.1
  have hap := va_apart (own := y.cls) hts hin ty0 hty hnm hK hc
  obtain ⟨r, h1, cell, q1, q2, q3, q4⟩ := hH.2.1 i _ he
  have hr : r = (C, T, N) := Option.some.inj (h1.symm.trans hc)
  subst hr
  obtain ⟨hS, hfc, kC, hkC, hkind⟩ := hK.1 ci _ hc
  obtain ⟨cf, kf, fi, f, hi', hsl⟩ := hS k hk
  have hlay := hts _ (hin _ (u_in_lay hk))
  unfold u_lay at hlay
  rw [if_neg (by rw [hfin]; decide)] at hlay
  have hst := (u_facts hfc hkC (u_lays hts hin hk) hi').1
  have h6 := u_store hfc hkC hkind hlay hi' hd hn hfit
  refine W.putK hC.1.1 hC.1.2.1 (f := f) ⟨hC.1.2.2.2.2.1, hC.2.1 _ hl, ⟨_, _, _, hi'⟩, hst⟩ (by rw [q2]; exact h6) q1 q3 (by rw [hsl]; exact k2_hasslot (q4 k hk)) rfl rfl d fun H' e1 e2 e3 => ?_
  rw [hsl] at e1 ⊢
  exact K H' _ ls (hp_up hH hi e2 (hH.2.1.set wsO_D he ⟨_, hc, t_OB.to (V := updV (vp_V fs) k v) ⟨_, e1, q2, q3, t_set q4 hap hk v⟩ (fun j _ => vp_updV_set hkl v j)⟩ e3)) (hS0.put e2 e3 (Nat.le_add_right _ _)) hh
theorem v_putN (hC : Cx g y cc nL rt rm w) {ci k N idx : Nat} {C host : String} {T : u_T} {r : Option Nat} {v : Value} {ty : FieldType} {S1 : pH} (pc : Nat) (hc : vwCl[ci]? = some (C, T, N)) (h9 : ci ≠ 99) (hin : ∀ q ∈ u_ws C T N, q ∈ tblG) (ty0 : Nat → FieldType) (hty : ∀ k, k < N → parseFieldDescriptor (T k).2.2.1 = some (ty0 k)) (hnm : ∀ a, a < N → ∀ b, b < N → a ≠ b → (T a).2.1 ≠ (T b).2.1) (hk : k < N) (hl : Cond.fieldLinkNest y.cls idx (T k).1 (T k).2.1 (T k).2.2.1 host ∈ tblN) (hfin : (T k).2.2.2 = false) (hd : parseFieldDescriptor (T k).2.2.1 = some ty) (hn : narrow ty v = v) (hfit : fits ty v = true) (ho : pfV S ci k r v = some S1) (d : decode cc pc = .ok (.putfield idx, 3)) (K : V g w nL Q S1 kc ks (pc + 3) lv st) : V g w nL Q S kc ks pc lv (v :: va_rf r :: st) := by
  intro H locs ls hH hS0 hh
  obtain ⟨a, fs, rfl, ho1, ha, hkl, rfl⟩ := pfV_spec ho
  obtain ⟨i, hi, rfl, he⟩ := wsO_of hH ha (pO_ne h9)
  have hts := hC.2.1
  have hK := hC.2.2.2.1
  have hap := va_apart (own := y.cls) hts hin ty0 hty hnm hK hc
  obtain ⟨r, h1, cell, q1, q2, q3, q4⟩ := hH.2.1 i _ he
  have hr : r = (C, T, N) := Option.some.inj (h1.symm.trans hc)
  subst hr
  obtain ⟨hS, hfc, kC, hkC, hkind⟩ := hK.1 ci _ hc
  obtain ⟨cf, kf, fi, f, hi', hsl⟩ := hS k hk
  have hlay := hts _ (hin _ (u_in_lay hk))
  unfold u_lay at hlay
  rw [if_neg (by rw [hfin]; decide)] at hlay
  have hst := (u_facts hfc hkC (u_lays hts hin hk) hi').1
  have h6 := u_store hfc hkC hkind hlay hi' hd hn hfit
  refine va_WputK hC.1.1 hC.1.2.1 (f := f) hC.1.2.2.2.2.1 (va_Nw.use rfl (hC.2.2.1.1 _ hl)) hi' hst (by rw [q2]; exact h6) q1 q3 (by rw [hsl]; exact k2_hasslot (q4 k hk)) rfl rfl d fun H' e1 e2 e3 => ?_
  rw [hsl] at e1 ⊢
  exact K H' _ ls (hp_up hH hi e2 (hH.2.1.set wsO_D he ⟨_, hc, t_OB.to (V := updV (vp_V fs) k v) ⟨_, e1, q2, q3, t_set q4 hap hk v⟩ (fun j _ => vp_updV_set hkl v j)⟩ e3)) (hS0.put e2 e3 (Nat.le_add_right _ _)) hh
theorem v_putF (hC : Cx g y cc nL rt rm w) {ci k N idx : Nat} {C : String} {T : u_T} {r : Option Nat} {v : Value} {ty : FieldType} {S1 : pH} (pc : Nat) (hc : vwCl[ci]? = some (C, T, N)) (h9 : ci ≠ 99) (hin : ∀ q ∈ u_ws C T N, q ∈ tblG) (ty0 : Nat → FieldType) (hty : ∀ k, k < N → parseFieldDescriptor (T k).2.2.1 = some (ty0 k)) (hnm : ∀ a, a < N → ∀ b, b < N → a ≠ b → (T a).2.1 ≠ (T b).2.1) (hk : k < N) (hl : Cond.fieldLink y.cls idx (T k).1 (T k).2.1 (T k).2.2.1 ∈ tblG) (hfin : (T k).2.2.2 = true) (hyn : y.name = "<init>") (hdecl : (T k).1 = y.cls) (hd : parseFieldDescriptor (T k).2.2.1 = some ty) (hn : narrow ty v = v) (hfit : fits ty v = true) (ho : pfV S ci k r v = some S1) (d : decode cc pc = .ok (.putfield idx, 3)) (K : V g w nL Q S1 kc ks (pc + 3) lv st) : V g w nL Q S kc ks pc lv (v :: va_rf r :: st) := by
  intro H locs ls hH hS0 hh
  obtain ⟨a, fs, rfl, ho1, ha, hkl, rfl⟩ := pfV_spec ho
  obtain ⟨i, hi, rfl, he⟩ := wsO_of hH ha (pO_ne h9)
  have hts := hC.2.1
  have hK := hC.2.2.2.1
  have hap := va_apart (own := y.cls) hts hin ty0 hty hnm hK hc
  obtain ⟨r, h1, cell, q1, q2, q3, q4⟩ := hH.2.1 i _ he
  have hr : r = (C, T, N) := Option.some.inj (h1.symm.trans hc)
  subst hr
  obtain ⟨hS, hfc, kC, hkC, hkind⟩ := hK.1 ci _ hc
  obtain ⟨cf, kf, fi, f, hi', hsl⟩ := hS k hk
  have hlay := hts _ (hin _ (u_in_lay hk))
  unfold u_lay at hlay
  rw [if_pos hfin] at hlay
  have hst := (u_facts hfc hkC (u_lays hts hin hk) hi').1
  have hcf : g.2.2.2.2.2.1.cls = cf := by
    obtain ⟨_, _, c', _, _, _, -, -, hf', -, -, -, hown2, -⟩ := Cond.laysFinal_spec hlay
    have e1 : c' = cf := by have := hi'.symm.trans hf'; simp at this; exact this.1.symm
    rw [hdecl] at hown2
    rw [← e1]; exact Option.some.inj (hC.1.2.2.2.2.1.symm.trans hown2)
  have h6 := u_fits hfc hkC hkind (Or.inr hlay) hi' hd hn hfit
  refine W.putFinK hC.1.1 hC.1.2.1 hC.1.2.2.2.2.1 (hC.2.1 _ hl) hi' hst hcf (by rw [← hyn]; exact hC.1.2.2.2.2.2.2.1) (by rw [q2]; exact h6) q1 q3 (by rw [hsl]; exact k2_hasslot (q4 k hk)) rfl rfl d fun H' e1 e2 e3 => ?_
  rw [hsl] at e1 ⊢
  exact K H' _ ls (hp_up hH hi e2 (hH.2.1.set wsO_D he ⟨_, hc, t_OB.to (V := updV (vp_V fs) k v) ⟨_, e1, q2, q3, t_set q4 hap hk v⟩ (fun j _ => vp_updV_set hkl v j)⟩ e3)) (hS0.put e2 e3 (Nat.le_add_right _ _)) hh
theorem v_iald (hC : Cx g y cc nL rt rm w) {r : Option Nat} {i x : Int32} (pc : Nat) (ho : ldI S 0 r i = some x) (d : decode cc pc = .ok (.iaload, 1)) (K : V g w nL Q S kc ks (pc + 1) lv (.int x :: st)) : V g w nL Q S kc ks pc lv (.int i :: va_rf r :: st) := by
  intro H locs ls hH hS hh
  obtain ⟨q, h1, h2⟩ := obn ho
  obtain ⟨a, rfl, ha⟩ := arI_spec h1
  obtain ⟨j, hj, -, hw⟩ := wsO_of hH ha (by simp)
  by_cases hin : i < 0 ∨ q.1 ≤ i.toNatClampNeg
  · rw [if_pos hin] at h2; cases h2
  · rw [if_neg hin] at h2
    have e := Option.some.inj h2
    subst e
    exact va_iald hC.1.1 hC.1.2.1 hC.2.2.2.1 hH.2.1 j 0 hw rfl hin d (K H locs ls hH hS hh)
theorem v_zald (hC : Cx g y cc nL rt rm w) {r : Option Nat} {i x : Int32} (pc : Nat) (ho : ldI S 1 r i = some x) (d : decode cc pc = .ok (.baload, 1)) (K : V g w nL Q S kc ks (pc + 1) lv (.int x :: st)) : V g w nL Q S kc ks pc lv (.int i :: va_rf r :: st) := by
  intro H locs ls hH hS hh
  obtain ⟨q, h1, h2⟩ := obn ho
  obtain ⟨a, rfl, ha⟩ := arI_spec h1
  obtain ⟨j, hj, -, hw⟩ := wsO_of hH ha (by simp)
  by_cases hin : i < 0 ∨ q.1 ≤ i.toNatClampNeg
  · rw [if_pos hin] at h2; cases h2
  · rw [if_neg hin] at h2
    have e := Option.some.inj h2
    subst e
    exact va_zald hC.1.1 hC.1.2.1 hC.2.2.2.1 hH.2.1 j 1 hw rfl hin d (K H locs ls hH hS hh)
theorem v_lald (hC : Cx g y cc nL rt rm w) {r : Option Nat} {i : Int32} {x : Int64} (pc : Nat) (ho : ldJ S r i = some x) (d : decode cc pc = .ok (.laload, 1)) (K : V g w nL Q S kc ks (pc + 1) lv (.long x :: st)) : V g w nL Q S kc ks pc lv (.int i :: va_rf r :: st) := by
  intro H locs ls hH hS hh
  obtain ⟨q, h1, h2⟩ := obn ho
  obtain ⟨a, rfl, ha⟩ := arJ_spec h1
  obtain ⟨j, hj, -, hw⟩ := wsO_of hH ha (by simp)
  by_cases hin : i < 0 ∨ q.1 ≤ i.toNatClampNeg
  · rw [if_pos hin] at h2; cases h2
  · rw [if_neg hin] at h2
    have e := Option.some.inj h2
    subst e
    exact va_lald hC.1.1 hC.1.2.1 hC.2.2.2.1 hH.2.1 j 2 hw rfl hin d (K H locs ls hH hS hh)
theorem v_aald (hC : Cx g y cc nL rt rm w) {r : Option Nat} {i : Int32} {x : Option Nat} (pc : Nat) (ho : ldR S r i = some x) (d : decode cc pc = .ok (.aaload, 1)) (K : V g w nL Q S kc ks (pc + 1) lv (va_rf x :: st)) : V g w nL Q S kc ks pc lv (.int i :: va_rf r :: st) := by
  intro H locs ls hH hS hh
  obtain ⟨q, h1, h2⟩ := obn ho
  obtain ⟨a, rfl, ha⟩ := arR_spec h1
  obtain ⟨j, hj, -, hw⟩ := wsO_of hH ha (by simp)
  by_cases hin : i < 0 ∨ q.1 ≤ i.toNatClampNeg
  · rw [if_pos hin] at h2; cases h2
  · rw [if_neg hin] at h2
    have e := Option.some.inj h2
    subst e
    exact va_aldq hC.1.1 hC.1.2.1 hC.2.2.2.1 hH.2.1 j 3 hw rfl hin d (K H locs ls hH hS hh)
theorem v_alen (hC : Cx g y cc nL rt rm w) {r : Option Nat} {x : Int32} (pc : Nat) (ho : lnI S r = some x) (d : decode cc pc = .ok (.arraylength, 1)) (K : V g w nL Q S kc ks (pc + 1) lv (.int x :: st)) : V g w nL Q S kc ks pc lv (va_rf r :: st) := by
  intro H locs ls hH hS hh
  obtain ⟨q, h1, h2⟩ := obn ho
  obtain ⟨a, rfl, ha⟩ := arI_spec h1
  obtain ⟨j, hj, -, hw⟩ := wsO_of hH ha (by simp)
  exact va_alen hC.1.1 hC.1.2.1 hC.2.2.2.1 hH.2.1 j 0 hw rfl (Option.some.inj h2) d (K H locs ls hH hS hh)
theorem v_iast (hC : Cx g y cc nL rt rm w) {r : Option Nat} {i x : Int32} {S1 : pH} (pc : Nat) (ho : stI S r i x = some S1) (d : decode cc pc = .ok (.iastore, 1)) (K : V g w nL Q S1 kc ks (pc + 1) lv st) : V g w nL Q S kc ks pc lv (.int x :: .int i :: va_rf r :: st) := by
  intro H locs ls hH hS hh
  obtain ⟨q, h1, h2⟩ := obn ho
  obtain ⟨a, rfl, ha⟩ := arI_spec h1
  obtain ⟨j, hj, rfl, hw⟩ := wsO_of hH ha (by simp)
  by_cases hin : i < 0 ∨ q.1 ≤ i.toNatClampNeg
  · rw [if_pos hin] at h2; cases h2
  · rw [if_neg hin] at h2
    have e := Option.some.inj h2
    subst e
    refine W.iast hC.1.1 hC.1.2.1 (hH.2.1 j _ hw) ((hC.2.2.2.1.2 0 _ rfl).1 q.1 (fun j => .int (q.2 j))) (fun q => by cases q) (by show ¬ (i < 0 ∨ (arrV _ _ _).slots.size ≤ _); rw [arrV_size]; exact hin) rfl rfl d fun H1 e z oq => ?_
    refine K H1 _ ls (hp_up hH hj z (hH.2.1.set wsO_D hw ?_ oq)) (hS.put z oq (Nat.le_add_right _ _)) hh
    show H1[_]? = some (vp_cell _ _)
    rw [e]
    rw [vp_cell_i, vp_cell_i, arrV_store]
    congr 2
    funext q
    by_cases hq : q = i.toNatClampNeg
    · subst hq
      simp [updV, upd]
    · simp [updV, upd, hq]
theorem v_zast (hC : Cx g y cc nL rt rm w) {r : Option Nat} {i x : Int32} {S1 : pH} (pc : Nat) (ho : stZ S r i x = some S1) (d : decode cc pc = .ok (.bastore, 1)) (K : V g w nL Q S1 kc ks (pc + 1) lv st) : V g w nL Q S kc ks pc lv (.int x :: .int i :: va_rf r :: st) := by
  intro H locs ls hH hS hh
  obtain ⟨q, h1, h2⟩ := obn ho
  obtain ⟨a, rfl, ha⟩ := arI_spec h1
  obtain ⟨j, hj, rfl, hw⟩ := wsO_of hH ha (by simp)
  by_cases hin : i < 0 ∨ q.1 ≤ i.toNatClampNeg
  · rw [if_pos hin] at h2; cases h2
  · rw [if_neg hin] at h2
    have e := Option.some.inj h2
    subst e
    refine W.zast hC.1.1 hC.1.2.1 (hH.2.1 j _ hw) ((hC.2.2.2.1.2 1 _ rfl).1 q.1 (fun j => .int (q.2 j))) (fun q => by cases q) (by show ¬ (i < 0 ∨ (arrV _ _ _).slots.size ≤ _); rw [arrV_size]; exact hin) rfl rfl d fun H1 e z oq => ?_
    refine K H1 _ ls (hp_up hH hj z (hH.2.1.set wsO_D hw ?_ oq)) (hS.put z oq (Nat.le_add_right _ _)) hh
    show H1[_]? = some (vp_cell _ _)
    rw [e]
    rw [vp_cell_i, vp_cell_i, arrV_store]
    congr 2
    funext q
    by_cases hq : q = i.toNatClampNeg
    · subst hq
      simp [updV, upd, narrow]
    · simp [updV, upd, hq]
theorem v_last (hC : Cx g y cc nL rt rm w) {r : Option Nat} {i : Int32} {x : Int64} {S1 : pH} (pc : Nat) (ho : stJ S r i x = some S1) (d : decode cc pc = .ok (.lastore, 1)) (K : V g w nL Q S1 kc ks (pc + 1) lv st) : V g w nL Q S kc ks pc lv (.long x :: .int i :: va_rf r :: st) := by
  intro H locs ls hH hS hh
  obtain ⟨q, h1, h2⟩ := obn ho
  obtain ⟨a, rfl, ha⟩ := arJ_spec h1
  obtain ⟨j, hj, rfl, hw⟩ := wsO_of hH ha (by simp)
  by_cases hin : i < 0 ∨ q.1 ≤ i.toNatClampNeg
  · rw [if_pos hin] at h2; cases h2
  · rw [if_neg hin] at h2
    have e := Option.some.inj h2
    subst e
    refine W.last hC.1.1 hC.1.2.1 (hH.2.1 j _ hw) ((hC.2.2.2.1.2 2 _ rfl).1 q.1 (fun j => .long (q.2 j))) (fun q => by cases q) (by show ¬ (i < 0 ∨ (arrV _ _ _).slots.size ≤ _); rw [arrV_size]; exact hin) rfl rfl d fun H1 e z oq => ?_
    refine K H1 _ ls (hp_up hH hj z (hH.2.1.set wsO_D hw ?_ oq)) (hS.put z oq (Nat.le_add_right _ _)) hh
    show H1[_]? = some (vp_cell _ _)
    rw [e]
    rw [vp_cell_l, vp_cell_l, arrV_store]
    congr 2
    funext q
    by_cases hq : q = i.toNatClampNeg
    · subst hq
      simp [updV, vp_updL]
    · simp [updV, vp_updL, hq]
theorem v_aast (hC : Cx g y cc nL rt rm w) {r x : Option Nat} {i : Int32} {S1 : pH} (pc : Nat) (ho : stR S r i x = some S1) (d : decode cc pc = .ok (.aastore, 1)) (K : V g w nL Q S1 kc ks (pc + 1) lv st) : V g w nL Q S kc ks pc lv (va_rf x :: .int i :: va_rf r :: st) := by
  intro H locs ls hH hS hh
  obtain ⟨q, h1, h2⟩ := obn ho
  obtain ⟨fs, h3, h2⟩ := obn h2
  obtain ⟨a, rfl, ha⟩ := arR_spec h1
  obtain ⟨v, rfl, hv⟩ := obj_spec h3
  obtain ⟨j, hj, rfl, hw⟩ := wsO_of hH ha (by simp)
  obtain ⟨j2, hj2, rfl, hw2⟩ := wsO_of hH hv (pO_ne (by decide))
  by_cases hin : i < 0 ∨ q.1 ≤ i.toNatClampNeg
  · rw [if_pos hin] at h2; cases h2
  · rw [if_neg hin] at h2
    have e := Option.some.inj h2
    subst e
    have hK := hC.2.2.2.1
    have hlt : i.toNatClampNeg < q.1 := Nat.not_le.mp fun z => hin (Or.inr z)
    have h0 : ¬ i < 0 := fun z => hin (Or.inl z)
    obtain ⟨r', hr', cellV, g1, g2, g3, -⟩ := hH.2.1 j2 _ hw2
    have hcls := (hK.1 1 (RX1, TX1, 4) rfl).2
    obtain ⟨kA, comp, k1, k2, k3, -⟩ := (hK.2 3 _ rfl).2
    have hcomp : comp = w.1.1 1 := Option.some.inj (k3.symm.trans hcls.1)
    subst hcomp
    obtain ⟨kC, hkC, -⟩ := hcls.2
    refine W.aast hC.1.1 hC.1.2.1 (hH.2.1 j _ hw) (fun q h => by cases h) (fun h => by cases h) k1 k2 rfl hkC ⟨h0, by show _ < (arrV _ _ _).slots.size; rw [arrV_size]; exact hlt⟩ g1 (fun q h => by rw [g3] at h; cases h) (by rw [g2]; exact hkC) (by rw [g2]; exact va_assign hcls) rfl rfl d fun H1 e z oq => ?_
    refine K H1 _ ls (hp_up hH hj z (hH.2.1.set wsO_D hw ?_ oq)) (hS.put z oq (Nat.le_add_right _ _)) hh
    show H1[_]? = some (vp_cell _ _)
    rw [e]
    rw [vp_cell_q, vp_cell_q, arrV_store]
    congr 2
    funext q
    by_cases hq : q = i.toNatClampNeg
    · subst hq
      simp [updV, va_up, va_rf]
    · simp [updV, va_up, hq]
theorem v_pushed {H H1 : Heap} {locs : List Loc} (hS : va_S (fun q => w.2.2 ≤ q) g.2.2.2.2.1.heap H locs) (z1 : H1.size = H.size + 1) (o1 : ∀ q : Nat, q < H.size → H1[q]? = H[q]?) : va_S (fun q => w.2.2 ≤ q) g.2.2.2.2.1.heap H1 locs :=
  ⟨Nat.le_trans hS.1 (by omega), fun x h1 h2 => (o1 x (Nat.lt_of_lt_of_le h1 hS.1)).trans (hS.2.1 x h1 h2), hS.2.2⟩
theorem v_grown {H H1 : Heap} {x : pE} (hH : hp w S H) (z1 : H1.size = H.size + 1) (o1 : ∀ q : Nat, q < H.size → H1[q]? = H[q]?) (hx : va_at w.1 vwCl (w.2.2 + S.1, emb w.2.1 x) H1) : hp w (puS w.2.2 S x) H1 := by
  refine hp_pu hH z1 ((hH.2.1.kept (fun k q hq => o1 q.1 ((hH.2.1 k q hq).lt))).app (fun k q hq => ?_))
  have hz : k < 1 := (List.getElem?_eq_some_iff.mp hq).1
  rw [show k = 0 by omega] at hq
  cases hq
  exact hx
theorem v_new (hC : Cx g y cc nL rt rm w) {ci N idx : Nat} {C : String} {T : u_T} (fs : List Value) (pc : Nat) (hc : vwCl[ci]? = some (C, T, N)) (hin : ∀ q ∈ u_ws C T N, q ∈ tblG) (ty0 : Nat → FieldType) (hty : ∀ k, k < N → parseFieldDescriptor (T k).2.2.1 = some (ty0 k)) (hl : Cond.classLink y.cls idx C ∈ tblG) (hi : Cond.instantiable C N ∈ tblG) (hn : Cond.initialized C ∈ tblG) (hfs : ∀ j, j < N → defaultValue (ty0 j) = vp_V fs j) (h1 : kc + 1 ≤ rm.cells) (h2 : ks + N ≤ rm.slots) (d : decode cc pc = .ok (.new idx, 3)) (K : V g w nL Q (puS w.2.2 S (pO ci fs)) (kc + 1) (ks + N) (pc + 3) lv (va_rf (some (w.2.2 + S.1)) :: st)) : V g w nL Q S kc ks pc lv st := by
  intro H locs ls hH hS hh
  have hKn := hC.2.2.2.1.1 ci _ hc
  have hR := hC.1.2.2.2.2.2.2.2
  refine W.newcK hC.1.1 hC.1.2.1 hC.1.2.2.2.2.1 (hC.2.1 _ hl) (hC.2.1 _ hi) (hC.2.1 _ hn) rfl d (by rw [hR]; exact h1) (by rw [hR]; exact h2) hKn.2.1 hH.1 fun H1 kC hkC e1 z1 o1 => ?_
  rw [← hH.1] at o1 z1
  exact K H1 locs ls (v_grown hH z1 o1 ⟨_, hc, (u_born ty0 hC.2.1 hin hKn hkC e1 hty).to hfs⟩) (v_pushed hS z1 o1) hh
theorem v_newI (hC : Cx g y cc nL rt rm w) (N : Nat) {n : Int32} (pc : Nat) (hw : Cond.arrayClass .int ∈ tblG) (hn : ¬ n < 0) (hN : n.toNatClampNeg = N) (hb : N * 4 ≤ 536870912) (h1 : kc + 1 ≤ rm.cells) (h2 : ks + N ≤ rm.slots) (d : decode cc pc = .ok (.newarray .int, 2)) (K : V g w nL Q (puS w.2.2 S (pI N (fun _ => 0))) (kc + 1) (ks + N) (pc + 2) lv (va_rf (some (w.2.2 + S.1)) :: st)) : V g w nL Q S kc ks pc lv (.int n :: st) := by
  intro H locs ls hH hS hh
  have hR := hC.1.2.2.2.2.2.2.2
  refine va_newaK hC.1.1 hC.1.2.1 (atype := .int) (hC.2.1 _ hw) rfl d rfl hn hN hb (by rw [hR]; exact h1) (by rw [hR]; exact h2) hH.1 fun H1 cA e1 z1 o1 hAr hNm => ?_
  have hcA : cA = w.2.1 0 := Option.some.inj (hNm.symm.trans (hC.2.2.2.1.2 0 _ rfl).2)
  subst hcA
  rw [← hH.1] at o1 z1
  exact K H1 locs ls (v_grown hH z1 o1 e1) (v_pushed hS z1 o1) hh
theorem v_newZ (hC : Cx g y cc nL rt rm w) (N : Nat) {n : Int32} (pc : Nat) (hw : Cond.arrayClass .boolean ∈ tblG) (hn : ¬ n < 0) (hN : n.toNatClampNeg = N) (hb : N * 1 ≤ 536870912) (h1 : kc + 1 ≤ rm.cells) (h2 : ks + N ≤ rm.slots) (d : decode cc pc = .ok (.newarray .boolean, 2)) (K : V g w nL Q (puS w.2.2 S (pZ N (fun _ => 0))) (kc + 1) (ks + N) (pc + 2) lv (va_rf (some (w.2.2 + S.1)) :: st)) : V g w nL Q S kc ks pc lv (.int n :: st) := by
  intro H locs ls hH hS hh
  have hR := hC.1.2.2.2.2.2.2.2
  refine va_newaK hC.1.1 hC.1.2.1 (atype := .boolean) (hC.2.1 _ hw) rfl d rfl hn hN hb (by rw [hR]; exact h1) (by rw [hR]; exact h2) hH.1 fun H1 cA e1 z1 o1 hAr hNm => ?_
  have hcA : cA = w.2.1 1 := Option.some.inj (hNm.symm.trans (hC.2.2.2.1.2 1 _ rfl).2)
  subst hcA
  rw [← hH.1] at o1 z1
  exact K H1 locs ls (v_grown hH z1 o1 e1) (v_pushed hS z1 o1) hh
theorem v_newJ (hC : Cx g y cc nL rt rm w) (N : Nat) {n : Int32} (pc : Nat) (hw : Cond.arrayClass .long ∈ tblG) (hn : ¬ n < 0) (hN : n.toNatClampNeg = N) (hb : N * 8 ≤ 536870912) (h1 : kc + 1 ≤ rm.cells) (h2 : ks + N ≤ rm.slots) (d : decode cc pc = .ok (.newarray .long, 2)) (K : V g w nL Q (puS w.2.2 S (pJ N (fun _ => 0))) (kc + 1) (ks + N) (pc + 2) lv (va_rf (some (w.2.2 + S.1)) :: st)) : V g w nL Q S kc ks pc lv (.int n :: st) := by
  intro H locs ls hH hS hh
  have hR := hC.1.2.2.2.2.2.2.2
  refine va_newaK hC.1.1 hC.1.2.1 (atype := .long) (hC.2.1 _ hw) rfl d rfl hn hN hb (by rw [hR]; exact h1) (by rw [hR]; exact h2) hH.1 fun H1 cA e1 z1 o1 hAr hNm => ?_
  have hcA : cA = w.2.1 2 := Option.some.inj (hNm.symm.trans (hC.2.2.2.1.2 2 _ rfl).2)
  subst hcA
  rw [← hH.1] at o1 z1
  exact K H1 locs ls (v_grown hH z1 o1 e1) (v_pushed hS z1 o1) hh
theorem v_newR (hC : Cx g y cc nL rt rm w) (N : Nat) {n : Int32} {idx : Nat} (pc : Nat) (hl : Cond.classLink y.cls idx "CaneHouse$Cane" ∈ tblG) (hn : ¬ n < 0) (hN : n.toNatClampNeg = N) (hb : N * 4 ≤ 536870912) (h1 : kc + 1 ≤ rm.cells) (h2 : ks + N ≤ rm.slots) (d : decode cc pc = .ok (.anewarray idx, 3)) (K : V g w nL Q (puS w.2.2 S (pR N (fun _ => none))) (kc + 1) (ks + N) (pc + 3) lv (va_rf (some (w.2.2 + S.1)) :: st)) : V g w nL Q S kc ks pc lv (.int n :: st) := by
  intro H locs ls hH hS hh
  have hR := hC.1.2.2.2.2.2.2.2
  subst hN
  refine W.anew hC.1.1 hC.1.2.1 hC.1.2.2.2.2.1 (hC.2.1 _ hl) (va_AO.use hC.2.2.1.2) rfl d rfl hn hb (by rw [hR]; exact h1) (by rw [hR]; exact h2) fun cA kA comp f1 f2 f3 f4 => ?_
  obtain ⟨_, _, -, -, -, f5⟩ := (hC.2.2.2.1.2 3 _ rfl).2
  have hcA : cA = w.2.1 3 := Option.some.inj (f1.symm.trans f5)
  subst hcA
  generalize hH1 : H.push ({ cls := w.2.1 3, slots := Array.replicate n.toNatClampNeg .null, vm := .none } : Cell) = H1
  have z1 : H1.size = H.size + 1 := by rw [← hH1, Array.size_push]
  have e1 : H1[H.size]? = some (arrV (w.2.1 3) n.toNatClampNeg (fun _ => .null)) := by rw [← hH1, Array.getElem?_push_size, ← arrV_new]
  have o1 : ∀ q : Nat, q < H.size → H1[q]? = H[q]? := fun q hq => by rw [← hH1, Array.getElem?_push, if_neg (Nat.ne_of_lt hq)]
  have e2 := e1
  rw [hH.1] at e2 ⊢
  exact K H1 locs ls (v_grown hH z1 o1 e2) (v_pushed hS z1 o1) hh
theorem v_objInit (hC : Cx g y cc nL rt rm w) {idx : Nat} {r : Option Nat} (pc : Nat) (hl : Cond.methodLink y.cls idx Lib.objectInit ∈ tblG) (hi : Cond.instanceMethod Lib.objectInit ∈ tblG) (hc : Cond.code Lib.objectInit ⟨#[0xb1]⟩ 1 none ∈ tblG) (hr : ¬ r = none) (hf : 1 ≤ rm.frames) (hlo : (st.map fun v => v.category).sum + 12 ≤ rm.locals) (d : decode cc pc = .ok (.invokespecial idx, 3)) (K : V g w nL Q S kc ks (pc + 3) lv st) : V g w nL Q S kc ks pc lv (va_rf r :: st) := by
  intro H locs ls hH hS hh
  have hR := hC.1.2.2.2.2.2.2.2
  cases r with
  | none => exact absurd rfl hr
  | some a => exact W.objInit hC.1.1 hC.1.2.1 hC.1.2.2.2.2.1 (hC.2.1 _ hl) (hC.2.1 _ hi) (hC.2.1 _ hc) rfl (by rw [hC.1.2.2.2.1]; exact hh.1) rfl d (by rw [hR]; exact hf) (by rw [hR]; show 2 * 0 + _ + 12 ≤ _; omega) (K H locs ls hH hS hh)
/-- behind a call -/
theorem v_run {pc mc ms : Nat} {st0 rest : List Value} {S1 : pH} {rv : Option Value} {aa : Array Value} (hr : ∀ (H : Heap) (locs : List Loc) (ls : Array Slot), hp w S H → va_S (fun q => w.2.2 ≤ q) g.2.2.2.2.1.heap H locs → lv_has ls nL lv → va_Run g.1 g.2.1 g.2.2.1 g.2.2.2.1 g.2.2.2.2.1 g.2.2.2.2.2.1 g.2.2.2.2.2.2.1 g.2.2.2.2.2.2.2.1 g.2.2.2.2.2.2.2.2.1 g.2.2.2.2.2.2.2.2.2 H locs kc ks mc ms (F0 g.2.2.2.2.2.1 pc ls st0) rest (qr w rv S1 aa) (fun q => w.2.2 ≤ q)) (K : V g w nL Q S1 (kc + mc) (ks + ms) (pc + 3) lv (rv.toList ++ rest)) : V g w nL Q S kc ks pc lv st0 := by
  intro H locs ls hH hS hh T hT X
  obtain ⟨v, st₀, t, T', L, h0, X', hL, e1, e2, ⟨hv, hh1, hz, hk⟩, step⟩ := hr H locs ls hH hS hh T hT X
  have hv := Outcome.returned.inj hv
  subst hv
  rw [h0] at hz hk
  obtain ⟨t2, a1, b1⟩ := K T'.heap (locs ++ L) ls (by rw [e1]; exact hh1) ⟨Nat.le_trans hS.1 (by rw [e1]; exact hz), fun q h1 h2 => by
      rw [e1, hk q (Nat.lt_of_lt_of_le h1 hS.1) h2]; exact hS.2.1 q h1 h2, fun q hq => by
      rcases List.mem_append.mp hq with h | h
      · exact hS.2.2 q h
      · exact hL q h⟩ hh T' rfl X'
  exact ⟨t2, step t2 a1, b1⟩
theorem v_preS (hC : Cx g y cc nL rt rm w) {H : Heap} {locs : List Loc} {As : List Value} (hH : hp w S H) (hS : va_S (fun q => w.2.2 ≤ q) g.2.2.2.2.1.heap H locs) : PreS g.2.2.2.2.1 H (va_Pc As (pr w S)) As :=
  ⟨pr.blind, fun U hU hW => ⟨rfl, by rw [hU]; exact Nat.le_trans hC.2.2.2.2 hS.1, by rw [hU]; exact hH, va_K.moved hW.alike hC.2.2.2.1, hC.2.2.1.moved hW⟩⟩
theorem v_callS (hC : Cx g y cc nL rt rm w) {idx n nL' : Nat} {y' : MethodName} {cc' : ByteArray} {rt' : Option FieldType} {rm' : Room} {As rest : List Value} {S1 : pH} {rv : Option Value} (pc : Nat) (hM : CT g.2.1 w y' cc' nL' rt' rm' As S rv S1) (hco : Cond.code y' cc' nL' rt' ∈ tblG) (hl : Cond.methodLink y.cls idx y' ∈ tblG) (hs : Cond.static y' ∈ tblG) (hi : Cond.initialized y'.cls ∈ tblG) (hd : y'.cls ≠ "java/lang/invoke/MethodHandle" ∧ y'.cls ≠ "java/lang/invoke/VarHandle" ∧ (parseMethodDescriptor y'.desc).map (fun d => d.parameters.length) = some n) (hn : As.length = n) (hR : rm'.frames + 1 ≤ rm.frames ∧ 8 + (nL' + 11) + rm'.locals ≤ rm.locals) (hst : (rest.map fun v => v.category).sum ≤ 8) (hf : kc + rm'.cells ≤ rm.cells ∧ ks + rm'.slots ≤ rm.slots) (d : decode cc pc = .ok (.invokestatic idx, 3)) (K : V g w nL Q S1 (kc + rm'.cells) (ks + rm'.slots) (pc + 3) lv (rv.toList ++ rest)) : V g w nL Q S kc ks pc lv (As.reverse ++ rest) := by
  have hRr := hC.1.2.2.2.2.2.2.2
  refine v_run (fun H locs ls hH hS hh => va_runS (As := As) (rest := rest) ⟨hC.1.1, hC.1.2.1, hC.1.2.2.2.1, hC.1.2.2.2.2.1, hC.2.1⟩ hM ⟨callB_of n hC.2.1 (gIn (ws := []) hco) rfl rfl rfl (hC.2.1 _ hi) (hC.2.1 _ hl) hd (by rw [hRr]; exact hR), hC.2.1 _ hs⟩ (v_preS hC hH hS) rfl hn hh.1 rfl (lv_room hst) d (by rw [hRr]; exact hf)) K
theorem v_callSN (hC : Cx g y cc nL rt rm w) {idx n nL' : Nat} {host : String} {y' : MethodName} {cc' : ByteArray} {rt' : Option FieldType} {rm' : Room} {As rest : List Value} {S1 : pH} {rv : Option Value} (pc : Nat) (hM : CT g.2.1 w y' cc' nL' rt' rm' As S rv S1) (hco : Cond.code y' cc' nL' rt' ∈ tblG) (hl : Cond.methodLinkNest y.cls idx y' host ∈ tblN) (hs : Cond.static y' ∈ tblG) (hi : Cond.initialized y'.cls ∈ tblG) (hd : y'.cls ≠ "java/lang/invoke/MethodHandle" ∧ y'.cls ≠ "java/lang/invoke/VarHandle" ∧ (parseMethodDescriptor y'.desc).map (fun d => d.parameters.length) = some n) (hn : As.length = n) (hR : rm'.frames + 1 ≤ rm.frames ∧ 8 + (nL' + 11) + rm'.locals ≤ rm.locals) (hst : (rest.map fun v => v.category).sum ≤ 8) (hf : kc + rm'.cells ≤ rm.cells ∧ ks + rm'.slots ≤ rm.slots) (d : decode cc pc = .ok (.invokestatic idx, 3)) (K : V g w nL Q S1 (kc + rm'.cells) (ks + rm'.slots) (pc + 3) lv (rv.toList ++ rest)) : V g w nL Q S kc ks pc lv (As.reverse ++ rest) := by
  have hRr := hC.1.2.2.2.2.2.2.2
  refine v_run (fun H locs ls hH hS hh => va_runSN (As := As) (rest := rest) ⟨hC.1.1, hC.1.2.1, hC.1.2.2.2.1, hC.1.2.2.2.2.1, hC.2.1⟩ hM ⟨va_cnB n hC.2.1 (gIn (ws := []) hco) rfl rfl rfl (hC.2.2.1.1 _ hl) (hC.2.1 _ hi) hd (by rw [hRr]; exact hR), hC.2.1 _ hs, trivial⟩ (v_preS hC hH hS) rfl hn hh.1 rfl (lv_room hst) d (by rw [hRr]; exact hf)) K
theorem v_callV (hC : Cx g y cc nL rt rm w) {idx n nL' ci N : Nat} {r : Option Nat} {C : String} {T : u_T} {fs : List Value} {y' : MethodName} {cc' : ByteArray} {rt' : Option FieldType} {rm' : Room} {As rest : List Value} {S1 : pH} {rv : Option Value} (pc : Nat) (hM : CT g.2.1 w y' cc' nL' rt' rm' (va_rf r :: As) S rv S1) (hc : vwCl[ci]? = some (C, T, N)) (h9 : ci ≠ 99) (ho : obj S ci r = some fs) (hco : Cond.code y' cc' nL' rt' ∈ tblG) (hl : Cond.methodLink y.cls idx y' ∈ tblG) (hs : Cond.instanceMethod y' ∈ tblG) (hse : Cond.selects C y' y' ∈ tblG) (hi : Cond.initialized y'.cls ∈ tblG) (hd : y'.cls ≠ "java/lang/invoke/MethodHandle" ∧ y'.cls ≠ "java/lang/invoke/VarHandle" ∧ (parseMethodDescriptor y'.desc).map (fun d => d.parameters.length) = some n) (hn : As.length = n) (hR : rm'.frames + 1 ≤ rm.frames ∧ 8 + (nL' + 11) + rm'.locals ≤ rm.locals) (hst : (rest.map fun v => v.category).sum ≤ 8) (hf : kc + rm'.cells ≤ rm.cells ∧ ks + rm'.slots ≤ rm.slots) (d : decode cc pc = .ok (.invokevirtual idx, 3)) (K : V g w nL Q S1 (kc + rm'.cells) (ks + rm'.slots) (pc + 3) lv (rv.toList ++ rest)) : V g w nL Q S kc ks pc lv (As.reverse ++ va_rf r :: rest) := by
  have hRr := hC.1.2.2.2.2.2.2.2
  obtain ⟨a, rfl, ha⟩ := obj_spec ho
  refine v_run (aa := (Value.ref a :: As).toArray) (fun H locs ls hH hS hh => ?_) K
  obtain ⟨i, hi', -, hw⟩ := wsO_of hH ha (pO_ne h9)
  exact va_runV (As := As) (rest := rest) ⟨hC.1.1, hC.1.2.1, hC.1.2.2.2.1, hC.1.2.2.2.2.1, hC.2.1⟩ hM ⟨callB_of n hC.2.1 (gIn (ws := []) hco) rfl rfl rfl (hC.2.1 _ hi) (hC.2.1 _ hl) hd (by rw [hRr]; exact hR), hC.2.1 _ hs, hC.2.1 _ hse⟩ ⟨pr.blind, va_recv hC.2.2.2.1 hH.2.1 hc hw, (v_preS hC hH hS).2⟩ rfl hn hh.1 rfl (lv_room hst) d (by rw [hRr]; exact hf)
theorem v_callI (hC : Cx g y cc nL rt rm w) {idx n nL' ci : Nat} {r : Option Nat} {fs : List Value} {y' : MethodName} {cc' : ByteArray} {rm' : Room} {As rest : List Value} {S1 : pH} {rv : Option Value} (pc : Nat) (hM : CT g.2.1 w y' cc' nL' none rm' (va_rf r :: As) S rv S1) (ho : obj S ci r = some fs) (hco : Cond.code y' cc' nL' none ∈ tblG) (hl : Cond.methodLink y.cls idx y' ∈ tblG) (hs : Cond.instanceMethod y' ∈ tblG) (hi : Cond.initialized y'.cls ∈ tblG) (hyn : y'.name = "<init>") (hd : y'.cls ≠ "java/lang/invoke/MethodHandle" ∧ y'.cls ≠ "java/lang/invoke/VarHandle" ∧ (parseMethodDescriptor y'.desc).map (fun d => d.parameters.length) = some n) (hn : As.length = n) (hR : rm'.frames + 1 ≤ rm.frames ∧ 8 + (nL' + 11) + rm'.locals ≤ rm.locals) (hst : (rest.map fun v => v.category).sum ≤ 8) (hf : kc + rm'.cells ≤ rm.cells ∧ ks + rm'.slots ≤ rm.slots) (d : decode cc pc = .ok (.invokespecial idx, 3)) (K : V g w nL Q S1 (kc + rm'.cells) (ks + rm'.slots) (pc + 3) lv (rv.toList ++ rest)) : V g w nL Q S kc ks pc lv (As.reverse ++ va_rf r :: rest) := by
  have hRr := hC.1.2.2.2.2.2.2.2
  obtain ⟨a, rfl, ha⟩ := obj_spec ho
  exact v_run (fun H locs ls hH hS hh => va_runI (As := As) (rest := rest) ⟨hC.1.1, hC.1.2.1, hC.1.2.2.2.1, hC.1.2.2.2.2.1, hC.2.1⟩ hM ⟨callB_of n hC.2.1 (gIn (ws := []) hco) rfl rfl rfl (hC.2.1 _ hi) (hC.2.1 _ hl) hd (by rw [hRr]; exact hR), hyn, hC.2.1 _ hs⟩ (v_preS hC hH hS) rfl hn hh.1 rfl (lv_room hst) d (by rw [hRr]; exact hf)) K
theorem v_ldcw (hC : Cx g y cc nL rt rm w) {i : Nat} {v : Int32} (pc : Nat) (hw : Cond.constant y.cls i v ∈ tblG) (d : decode cc pc = .ok (.ldc_w i, 3)) (K : V g w nL Q S kc ks (pc + 3) lv (.int v :: st)) : V g w nL Q S kc ks pc lv st := fun H locs ls hH hS hl => lv_ldcw hC.1.1 hC.1.2.1 hC.1.2.2.2.2.1 (hC.2.1 _ hw) d (K H locs ls hH hS hl)
theorem v_topr {pc : Nat} {x : Option Nat} (z : Option Nat) (h : z = x) (K : V g w nL Q S kc ks pc lv (va_rf z :: st)) : V g w nL Q S kc ks pc lv (va_rf x :: st) := h ▸ K
theorem v_nw {q a pc : Nat} {S1 S2 : pH} (hq : q = a) (hS : S2 = S1) (K : V g w nL Q S2 kc ks pc lv (va_rf (some q) :: st)) : V g w nL Q S1 kc ks pc lv (va_rf (some a) :: st) := by
  subst hq; subst hS; exact K
theorem v_acopy (hC : Cx g y cc nL rt rm w) {idx : Nat} {r0 r1 : Option Nat} {sp dp n : Int32} {S1 : pH} (pc : Nat) (hl : Cond.methodLink y.cls idx arraycopyName ∈ tblG) (hnat : Cond.native arraycopyName ∈ tblG) (hs : Cond.static arraycopyName ∈ tblG) (hi : Cond.initialized "java/lang/System" ∈ tblG) (ho : cpI S r0 sp r1 dp n = some S1) (hf : 1 ≤ rm.frames) (hlo : 2 * st.length + (nativeFrameWords "java/lang/System" "arraycopy" 5 + 11) ≤ rm.locals) (d : decode cc pc = .ok (.invokestatic idx, 3)) (K : V g w nL Q S1 kc ks (pc + 3) lv st) : V g w nL Q S kc ks pc lv (.int n :: .int dp :: va_rf r1 :: .int sp :: va_rf r0 :: st) := by
  intro H locs ls hH hS hh
  have hRr := hC.1.2.2.2.2.2.2.2
  obtain ⟨q0, g1, g2⟩ := obn ho
  obtain ⟨q1, g3, g4⟩ := obn g2
  obtain ⟨a0, rfl, ha0⟩ := arI_spec g1
  obtain ⟨a1, rfl, ha1⟩ := arI_spec g3
  obtain ⟨i0, hi0, -, hw0⟩ := wsO_of hH ha0 (by simp)
  obtain ⟨i1, hi1, rfl, hw1⟩ := wsO_of hH ha1 (by simp)
  by_cases hbad : sp < 0 ∨ dp < 0 ∨ n < 0 ∨ ¬ sp.toNatClampNeg + n.toNatClampNeg ≤ q0.1 ∨ ¬ dp.toNatClampNeg + n.toNatClampNeg ≤ q1.1
  · rw [if_pos hbad] at g4; cases g4
  rw [if_neg hbad] at g4
  have e := Option.some.inj g4
  subst e
  have h1 : ¬ sp < 0 := fun q => hbad (Or.inl q)
  have h2 : ¬ dp < 0 := fun q => hbad (Or.inr (Or.inl q))
  have h3 : ¬ n < 0 := fun q => hbad (Or.inr (Or.inr (Or.inl q)))
  have h4 : sp.toNatClampNeg + n.toNatClampNeg ≤ q0.1 := Decidable.not_not.mp fun q => hbad (Or.inr (Or.inr (Or.inr (Or.inl q))))
  have h5 : dp.toNatClampNeg + n.toNatClampNeg ≤ q1.1 := Decidable.not_not.mp fun q => hbad (Or.inr (Or.inr (Or.inr (Or.inr q))))
  have nn : ∀ z : Int32, ¬ z < 0 → z.toInt = (z.toNatClampNeg : Int) := by
    intro z hz
    have hz0 : (0 : Int) ≤ z.toInt := by
      have := Int32.not_lt.mp hz
      simpa using Int32.le_iff_toInt_le.mp this
    show z.toInt = ((z.toInt.toNat : Nat) : Int)
    omega
  have hK := hC.2.2.2.1
  have hst : (st.map fun v => v.category).sum ≤ 2 * st.length := by
    clear hlo K
    induction st with
    | nil => simp
    | cons v l ih =>
      rcases lv_cat v with hv | hv <;> simp [hv] <;> omega
  intro T hT X
  have hc0 : H[a0]? = some (vp_cell (w.2.1 0) (q0.1, .inl q0.2)) := hH.2.1 i0 _ hw0
  have hc1 : H[w.2.2 + i1]? = some (vp_cell (w.2.1 0) (q1.1, .inl q1.2)) := hH.2.1 i1 _ hw1
  obtain ⟨-, k0, hk0, cm0, hkk0⟩ := (hK.2 0 _ rfl).1 q0.1 (fun j => .int (q0.2 j))
  obtain ⟨-, k1, hk1, cm1, hkk1⟩ := (hK.2 0 _ rfl).1 q1.1 (fun j => .int (q1.2 j))
  obtain ⟨vm', X', step⟩ := X.arraycopy hC.1.1 hC.1.2.2.2.2.1 (hC.2.1 _ hl) (hC.2.1 _ hnat) (hC.2.1 _ hs) (hC.2.1 _ hi) (src := a0) (dst := w.2.2 + i1) (cs := vp_cell (w.2.1 0) (q0.1, .inl q0.2)) (cd := vp_cell (w.2.1 0) (q1.1, .inl q1.2)) (srcPos := sp) (destPos := dp) (n := n) (by rw [hT]; exact hc0) (by rw [hT]; exact hc1)
    (fun _ h => by cases h) (fun _ h => by cases h) (fun h => by cases h) (fun h => by cases h) hk0 hk1 hkk0 hkk1 (by simp [refKind]) h1 h2 h3
    (by rw [nn sp h1, nn n h3]; show ¬ _ > ((arrV (w.2.1 0) q0.1 (fun j => .int (q0.2 j))).slots.size : Int); rw [arrV_size]; omega)
    (by rw [nn dp h2, nn n h3]; show ¬ _ > ((arrV (w.2.1 0) q1.1 (fun j => .int (q1.2 j))).slots.size : Int); rw [arrV_size]; omega)
    (fun vm₁ _ i hi => by
      have e : (vp_cell (w.2.1 0) (q0.1, .inl q0.2)).slots.getD (sp.toNatClampNeg + i) .null = .int (q0.2 (sp.toNatClampNeg + i)) := by
        show (arrV (w.2.1 0) q0.1 (fun j => .int (q0.2 j))).slots.getD _ _ = _
        rw [Array.getD_eq_getD_getElem?, arrV_read _ _ (by omega)]
        rfl
      refine ⟨?_, ?_⟩
      · rw [e]
        rfl
      · rw [e]
        exact trivial)
    (g := F0 g.2.2.2.2.2.1 pc ls (.int n :: .int dp :: .ref (w.2.2 + i1) :: .int sp :: .ref a0 :: st)) rfl (by rw [hC.1.2.2.2.1]; exact hh.1) (rest := st) rfl (by rw [hC.1.2.1]; exact d) (by rw [hRr]; exact hf) (by rw [hRr]; show 2 * 0 + _ + _ ≤ _; omega)
  have e1 : copied (vp_cell (w.2.1 0) (q0.1, .inl q0.2)) (vp_cell (w.2.1 0) (q1.1, .inl q1.2)) sp dp n = vp_cell (w.2.1 0) (q1.1, .inl (va_cpy q0.2 q1.2 sp.toNatClampNeg dp.toNatClampNeg n.toNatClampNeg)) := va_copied (fun z => .int z) (w.2.1 0) (w.2.1 0) q0.2 q1.2 h4
  rw [e1] at X' step
  have hl1 : w.2.2 + i1 < H.size := (Array.getElem?_eq_some_iff.mp hc1).1
  generalize hcell : vp_cell (w.2.1 0) (q1.1, .inl (va_cpy q0.2 q1.2 sp.toNatClampNeg dp.toNatClampNeg n.toNatClampNeg)) = cell1 at X' step
  have hheap : ((T.setVm vm').setCell (w.2.2 + i1) cell1).heap = H.setIfInBounds (w.2.2 + i1) cell1 := by rw [← hT]; rfl
  have oq : ∀ q : Nat, q ≠ w.2.2 + i1 → (H.setIfInBounds (w.2.2 + i1) cell1)[q]? = H[q]? := fun q hq => by simp [Array.getElem?_setIfInBounds, Ne.symm hq]
  have hz : (H.setIfInBounds (w.2.2 + i1) cell1).size = H.size := by simp
  obtain ⟨t, b1, b2⟩ := K _ _ ls (hp_up hH hi1 hz (hH.2.1.set wsO_D hw1 (show (H.setIfInBounds (w.2.2 + i1) cell1)[w.2.2 + i1]? = some (vp_cell _ _) by rw [hcell]; simp [Array.getElem?_setIfInBounds, hl1]) oq)) ⟨by rw [hz]; exact hS.1, fun q g1 g2 => by
      rw [oq q (fun e => g2 (by rw [e]; exact Nat.le_add_right _ _))]
      exact hS.2.1 q g1 g2, fun q hq => by
      rcases List.mem_append.mp hq with h | h
      · exact hS.2.2 q h
      · obtain ⟨z, -, hz⟩ := List.mem_map.mp h
        rw [← hz]
        exact Nat.le_add_right _ _⟩ hh _ hheap X'
  exact ⟨t, step t b1, b2⟩
theorem v_mmax (hC : Cx g y cc nL rt rm w) {idx : Nat} {x y' : Int32} (pc : Nat) (hl : Cond.methodLink y.cls idx Lib.Math.max.name ∈ tblG) (hs : Cond.static Lib.Math.max.name ∈ tblG) (hi : Cond.initialized "java/lang/Math" ∈ tblG) (hc : Cond.code Lib.Math.max.name Lib.Math.max.code 2 (some .int) ∈ tblG) (hf : 1 ≤ rm.frames) (hlo : 2 * st.length + 13 ≤ rm.locals) (h1 : kc ≤ rm.cells) (h2 : ks ≤ rm.slots) (d : decode cc pc = .ok (.invokestatic idx, 3)) (K : V g w nL Q S kc ks (pc + 3) lv (.int (mmax x y') :: st)) : V g w nL Q S kc ks pc lv (.int y' :: .int x :: st) := by
  intro H locs ls hH hS hh
  have hR := hC.1.2.2.2.2.2.2.2
  have hc2 := cat2 st
  exact va_mmax hC.1.1 hC.1.2.1 (by rw [hC.1.2.2.2.1]; exact hh.1.symm) hC.1.2.2.2.2.1 (hC.2.1 _ hl) (hC.2.1 _ hs) (hC.2.1 _ hi) (hC.2.1 _ hc) (by rw [hR]; exact hf) (by rw [hR]; omega) (by rw [hR]; exact h1) (by rw [hR]; exact h2) d (K H locs ls hH hS hh)
theorem v_mmin (hC : Cx g y cc nL rt rm w) {idx : Nat} {x y' : Int32} (pc : Nat) (hl : Cond.methodLink y.cls idx Lib.Math.min.name ∈ tblG) (hs : Cond.static Lib.Math.min.name ∈ tblG) (hi : Cond.initialized "java/lang/Math" ∈ tblG) (hc : Cond.code Lib.Math.min.name Lib.Math.min.code 2 (some .int) ∈ tblG) (hf : 1 ≤ rm.frames) (hlo : 2 * st.length + 13 ≤ rm.locals) (h1 : kc ≤ rm.cells) (h2 : ks ≤ rm.slots) (d : decode cc pc = .ok (.invokestatic idx, 3)) (K : V g w nL Q S kc ks (pc + 3) lv (.int (mmin x y') :: st)) : V g w nL Q S kc ks pc lv (.int y' :: .int x :: st) := by
  intro H locs ls hH hS hh
  have hR := hC.1.2.2.2.2.2.2.2
  have hc2 := cat2 st
  exact va_mmin hC.1.1 hC.1.2.1 (by rw [hC.1.2.2.2.1]; exact hh.1.symm) hC.1.2.2.2.2.1 (hC.2.1 _ hl) (hC.2.1 _ hs) (hC.2.1 _ hi) (hC.2.1 _ hc) (by rw [hR]; exact hf) (by rw [hR]; omega) (by rw [hR]; exact h1) (by rw [hR]; exact h2) d (K H locs ls hH hS hh)
theorem v_mabs (hC : Cx g y cc nL rt rm w) {idx : Nat} {x : Int32} (pc : Nat) (hl : Cond.methodLink y.cls idx Lib.Math.abs.name ∈ tblG) (hs : Cond.static Lib.Math.abs.name ∈ tblG) (hi : Cond.initialized "java/lang/Math" ∈ tblG) (hc : Cond.code Lib.Math.abs.name Lib.Math.abs.code 1 (some .int) ∈ tblG) (hf : 1 ≤ rm.frames) (hlo : 2 * st.length + 13 ≤ rm.locals) (h1 : kc ≤ rm.cells) (h2 : ks ≤ rm.slots) (d : decode cc pc = .ok (.invokestatic idx, 3)) (K : V g w nL Q S kc ks (pc + 3) lv (.int (mabs x) :: st)) : V g w nL Q S kc ks pc lv (.int x :: st) := by
  intro H locs ls hH hS hh
  have hR := hC.1.2.2.2.2.2.2.2
  have hc2 := cat2 st
  exact va_mabs hC.1.1 hC.1.2.1 (by rw [hC.1.2.2.2.1]; exact hh.1.symm) hC.1.2.2.2.2.1 (hC.2.1 _ hl) (hC.2.1 _ hs) (hC.2.1 _ hi) (hC.2.1 _ hc) (by rw [hR]; exact hf) (by rw [hR]; omega) (by rw [hR]; exact h1) (by rw [hR]; exact h2) d (K H locs ls hH hS hh)
end VH
