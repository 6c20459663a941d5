/-! ===== 486: sums in any order; walks round ===== -/
def CM {V : Type} (op : V → V → V) (z : V) : Prop := (∀ a c, op a c = op c a) ∧ (∀ a c d, op (op a c) d = op a (op c d)) ∧ ∀ a, op z a = a
def bs {V : Type} (op : V → V → V) (z : V) (f : Nat → V) : Nat → V
  | 0 => z
  | k + 1 => op (bs op z f k) (f k)
section BS
variable {V : Type} {op : V → V → V} {z : V}
theorem bs_congr {f g : Nat → V} : ∀ k, (∀ i, i < k → f i = g i) → bs op z f k = bs op z g k
  | 0, _ => rfl
  | k + 1, h => by
    show op (bs op z f k) (f k) = op (bs op z g k) (g k)
    rw [bs_congr k (fun i hi => h i (by omega)), h k (by omega)]
theorem CM_z (h : CM op z) (a : V) : op a z = a := by rw [h.1, h.2.2]
theorem bs_z (h : CM op z) {f : Nat → V} : ∀ k, (∀ i, i < k → f i = z) → bs op z f k = z
  | 0, _ => rfl
  | k + 1, hf => by
    show op (bs op z f k) (f k) = z
    rw [bs_z h k (fun i hi => hf i (by omega)), hf k (by omega), h.2.2]
theorem bs_op (h : CM op z) (f g : Nat → V) : ∀ k, bs op z (fun i => op (f i) (g i)) k = op (bs op z f k) (bs op z g k)
  | 0 => (h.2.2 z).symm
  | k + 1 => by
    show op (bs op z (fun i => op (f i) (g i)) k) (op (f k) (g k)) = op (op (bs op z f k) (f k)) (op (bs op z g k) (g k))
    rw [bs_op h f g k, h.2.1, h.2.1, ← h.2.1 (bs op z g k) (f k) (g k), h.1 (bs op z g k) (f k), h.2.1]
theorem bs_swap (h : CM op z) (f : Nat → Nat → V) (m : Nat) : ∀ k, bs op z (fun i => bs op z (fun j => f i j) m) k = bs op z (fun j => bs op z (fun i => f i j) k) m
  | 0 => (bs_z h m (fun _ _ => rfl)).symm
  | k + 1 => by
    show op (bs op z (fun i => bs op z (fun j => f i j) m) k) (bs op z (fun j => f k j) m) = _
    rw [bs_swap h f m k, ← bs_op h]
    rfl
theorem bs_one (h : CM op z) {f : Nat → V} {i0 : Nat} : ∀ k, i0 < k → (∀ i, i < k → i ≠ i0 → f i = z) → bs op z f k = f i0
  | 0, h0, _ => by omega
  | k + 1, h0, hf => by
    show op (bs op z f k) (f k) = f i0
    by_cases e : k = i0
    · subst e
      rw [bs_z h k (fun i hi => hf i (by omega) (by omega)), h.2.2]
    · rw [bs_one h k (by omega) (fun i hi hne => hf i (by omega) hne), hf k (by omega) e, CM_z h]
theorem bs_act {act : V → V} (h1 : ∀ a c, act (op a c) = op (act a) (act c)) (h2 : act z = z) (f : Nat → V) : ∀ k, act (bs op z f k) = bs op z (fun i => act (f i)) k
  | 0 => h2
  | k + 1 => by
    show act (op (bs op z f k) (f k)) = op (bs op z (fun i => act (f i)) k) (act (f k))
    rw [h1, bs_act h1 h2 f k]
theorem bs_cn (h : CM op z) {P : Nat → Bool} {f g : Nat → V} : ∀ K, (∀ k, k < K → P k = true → f (cn P k) = g k) → bs op z f (cn P K) = bs op z (fun k => if P k = true then g k else z) K
  | 0, _ => rfl
  | K + 1, hf => by
    have ih := bs_cn h K (fun k hk => hf k (by omega))
    show bs op z f (cn P K + (if P K = true then 1 else 0)) = op (bs op z (fun k => if P k = true then g k else z) K) (if P K = true then g K else z)
    by_cases e : P K = true
    · rw [if_pos e, if_pos e]
      show op (bs op z f (cn P K)) (f (cn P K)) = _
      rw [ih, hf K (by omega) e]
    · rw [if_neg e, if_neg e, CM_z h]
      exact ih
end BS
def itB {V : Type} (st : (Nat → V) → Nat → V) : Nat → (Nat → V) → Nat → V
  | 0, v => v
  | n + 1, v => st (itB st n v)
def ev1 {V : Type} (one z : V) (c : Nat) : Nat → V := fun j => if j = c then one else z
def Bst {V : Type} (op : V → V → V) (z : V) (act : Nat → V → V) (isS : Nat → Bool) (fr : Nat → Nat) (to : Nat → Option Nat) (v : Nat → V) (c : Nat) : V := bs op z (fun k => if isS k = true ∧ to k = some c then act k (v (fr k)) else z) 64
def Ast {V : Type} (op : V → V → V) (z : V) (act : Nat → V → V) (jn : Nat → Nat → Bool) (v : Nat → V) (j : Nat) : V := bs op z (fun i => if jn i j = true then act j (v i) else z) 64
section MN
variable {V : Type} {op : V → V → V} {z one : V} {act : Nat → V → V} {isS : Nat → Bool} {fr : Nat → Nat} {to : Nat → Option Nat} {jn : Nat → Nat → Bool}
theorem wk_A (h : CM op z) (h1 : ∀ k a c, act k (op a c) = op (act k a) (act k c)) (h2 : ∀ k, act k z = z) (hj : ∀ i j, i < 64 → j < 64 → (jn i j = true ↔ (isS i = true ∧ isS j = true ∧ to i = some (fr j)))) {f c : Nat} (hf : f < 64) (hS : isS f = true) (hc : to f = some c) : ∀ n j, j < 64 → isS j = true → itB (Ast op z act jn) (n + 1) (ev1 one z f) j = act j (itB (Bst op z act isS fr to) n (ev1 one z c) (fr j))
  | 0, j, hj64, hSj => by
    show Ast op z act jn (ev1 one z f) j = act j (ev1 one z c (fr j))
    unfold Ast
    rw [bs_one h (i0 := f) 64 hf (fun i hi hne => ?_)]
    · unfold ev1
      rw [if_pos rfl]
      by_cases e : fr j = c
      · rw [if_pos e, if_pos ((hj f j hf hj64).mpr ⟨hS, hSj, by rw [hc, e]⟩)]
      · rw [if_neg e, h2, if_neg (fun w => e (by
          have := ((hj f j hf hj64).mp w).2.2
          rw [hc] at this
          exact (Option.some.inj this).symm))]
    · unfold ev1
      rw [if_neg hne, h2]
      split <;> rfl
  | n + 1, j, hj64, hSj => by
    show Ast op z act jn (itB (Ast op z act jn) (n + 1) (ev1 one z f)) j = act j (Bst op z act isS fr to (itB (Bst op z act isS fr to) n (ev1 one z c)) (fr j))
    unfold Ast Bst
    rw [bs_act (h1 j) (h2 j)]
    refine bs_congr 64 (fun i hi => ?_)
    by_cases e : jn i j = true
    · obtain ⟨w1, -, w3⟩ := (hj i j hi hj64).mp e
      rw [if_pos e, if_pos ⟨w1, w3⟩]
      exact congrArg (act j) (wk_A h h1 h2 hj hf hS hc n i hi w1)
    · rw [if_neg e, if_neg (fun w => e ((hj i j hi hj64).mpr ⟨w.1, hSj, w.2⟩)), h2]
theorem wk_N (h : CM op z) (h2 : ∀ k, act k z = z) (hj : ∀ i j, i < 64 → j < 64 → (jn i j = true ↔ (isS i = true ∧ isS j = true ∧ to i = some (fr j)))) {f : Nat} (hc : to f = none) : ∀ n j, j < 64 → itB (Ast op z act jn) (n + 1) (ev1 one z f) j = z
  | 0, j, hj64 => by
    show Ast op z act jn (ev1 one z f) j = z
    unfold Ast
    refine bs_z h 64 (fun i hi => ?_)
    by_cases e : jn i j = true
    · rw [if_pos e]
      unfold ev1
      rw [if_neg (fun w => by
        have := ((hj i j hi hj64).mp e).2.2
        rw [w, hc] at this
        exact nsm this), h2]
    · rw [if_neg e]
  | n + 1, j, hj64 => by
    show Ast op z act jn (itB (Ast op z act jn) (n + 1) (ev1 one z f)) j = z
    unfold Ast
    refine bs_z h 64 (fun i hi => ?_)
    by_cases e : jn i j = true
    · rw [if_pos e]
      have := wk_N h h2 hj hc n i hi
      unfold Ast at this
      rw [this, h2]
    · rw [if_neg e]
/-- closed walks: by columns, or by slices -/
theorem wk_main (h : CM op z) (h1 : ∀ k a c, act k (op a c) = op (act k a) (act k c)) (h2 : ∀ k, act k z = z) (hj : ∀ i j, i < 64 → j < 64 → (jn i j = true ↔ (isS i = true ∧ isS j = true ∧ to i = some (fr j)))) (ht : ∀ k c, k < 64 → isS k = true → to k = some c → c < 64 ∧ isS c = true ∧ fr c = c) (n : Nat) : bs op z (fun c => if isS c = true ∧ fr c = c then itB (Bst op z act isS fr to) (n + 1) (ev1 one z c) c else z) 64 = bs op z (fun f => if isS f = true then itB (Ast op z act jn) (n + 1) (ev1 one z f) f else z) 64 := by
  have e1 : bs op z (fun c => if isS c = true ∧ fr c = c then itB (Bst op z act isS fr to) (n + 1) (ev1 one z c) c else z) 64 = bs op z (fun c => bs op z (fun k => if (isS c = true ∧ fr c = c) ∧ isS k = true ∧ to k = some c then act k (itB (Bst op z act isS fr to) n (ev1 one z c) (fr k)) else z) 64) 64 := by
    refine bs_congr 64 (fun c hc => ?_)
    by_cases e : isS c = true ∧ fr c = c
    · rw [if_pos e]
      show Bst op z act isS fr to (itB (Bst op z act isS fr to) n (ev1 one z c)) c = _
      unfold Bst
      refine bs_congr 64 (fun k hk => ?_)
      by_cases e2 : isS k = true ∧ to k = some c
      · rw [if_pos e2, if_pos ⟨e, e2⟩]
      · rw [if_neg e2, if_neg (fun w => e2 w.2)]
    · rw [if_neg e, bs_z h 64 (fun k hk => if_neg (fun w => e w.1))]
  rw [e1, bs_swap h]
  refine bs_congr 64 (fun k hk => ?_)
  by_cases e : isS k = true
  · rw [if_pos e]
    cases hc : to k with
    | none =>
      rw [wk_N h h2 hj hc n k hk]
      exact bs_z h 64 (fun c _ => if_neg (fun w => nsm w.2.2))
    | some c =>
      obtain ⟨c1, c2, c3⟩ := ht k c hk e hc
      rw [bs_one h (i0 := c) 64 c1 (fun i hi hne => if_neg (fun w => hne (Option.some.inj w.2.2).symm)), if_pos ⟨⟨c2, c3⟩, e, rfl⟩, wk_A h h1 h2 hj hk e hc n k hk e]
  · rw [if_neg e]
    exact bs_z h 64 (fun c _ => if_neg (fun w => e w.2.1))
end MN
/-- the least below k -/
def lst (P : Nat → Bool) : Nat → Option Nat
  | 0 => none
  | k + 1 => match lst P k with
    | some c => some c
    | none => if P k = true then some k else none
theorem lst_s (P : Nat → Bool) (k : Nat) : lst P (k + 1) = (match lst P k with | some c => some c | none => if P k = true then some k else none) := rfl
theorem lst_none {P : Nat → Bool} : ∀ {k : Nat}, lst P k = none → ∀ j, j < k → P j = false
  | 0, _, j, hj => by omega
  | k + 1, h, j, hj => by
    rw [lst_s] at h
    cases hl : lst P k with
    | some d => rw [hl] at h; exact (smn h).elim
    | none =>
      rw [hl] at h
      have h' : (if P k = true then some k else none) = none := h
      by_cases e : P k = true
      · rw [if_pos e] at h'; exact (smn h').elim
      · by_cases e2 : j = k
        · rw [e2]; exact Bool.eq_false_iff.mpr e
        · exact lst_none hl j (by omega)
theorem lst_some {P : Nat → Bool} : ∀ {k c : Nat}, lst P k = some c → c < k ∧ P c = true ∧ ∀ j, j < c → P j = false
  | 0, c, h => (nsm h).elim
  | k + 1, c, h => by
    rw [lst_s] at h
    cases hl : lst P k with
    | some d =>
      rw [hl] at h
      have e : d = c := Option.some.inj h
      subst e
      obtain ⟨a1, a2, a3⟩ := lst_some hl
      exact ⟨by omega, a2, a3⟩
    | none =>
      rw [hl] at h
      have h' : (if P k = true then some k else none) = some c := h
      by_cases e : P k = true
      · rw [if_pos e] at h'
        have e2 : k = c := Option.some.inj h'
        rw [← e2]
        exact ⟨by omega, e, fun j hj => lst_none hl j hj⟩
      · rw [if_neg e] at h'
        exact (nsm h').elim
theorem lst_ex {P : Nat → Bool} {k j : Nat} (hj : j < k) (h : P j = true) : ∃ c, lst P k = some c := by
  cases hl : lst P k with
  | some c => exact ⟨c, rfl⟩
  | none =>
    have := lst_none hl j hj
    rw [h] at this
    exact absurd this (by decide)
theorem lst_eq {P : Nat → Bool} {k c : Nat} (h1 : c < k) (h2 : P c = true) (h3 : ∀ j, j < c → P j = false) : lst P k = some c := by
  obtain ⟨d, hd⟩ := lst_ex h1 h2
  obtain ⟨a1, a2, a3⟩ := lst_some hd
  have : ¬ d < c := fun z => by rw [h3 d z] at a2; exact absurd a2 (by decide)
  have : ¬ c < d := fun z => by rw [a3 c z] at h2; exact absurd h2 (by decide)
  rw [hd, show d = c by omega]
theorem lst_cn {P Q R : Nat → Bool} : ∀ K, (∀ k, k < K → P k = true → Q (cn P k) = R k) → lst Q (cn P K) = (lst (fun k => P k && R k) K).map (cn P)
  | 0, _ => rfl
  | K + 1, h => by
    have ih := lst_cn K (fun k hk => h k (by omega))
    rw [lst_s, cn_s]
    by_cases e : P K = true
    · rw [if_pos e, lst_s, ih, h K (by omega) e]
      cases hl : lst (fun k => P k && R k) K with
      | some c => rfl
      | none =>
        show (if R K = true then some (cn P K) else none) = Option.map (cn P) (if (P K && R K) = true then some K else none)
        rw [e, Bool.true_and]
        by_cases e2 : R K = true
        · rw [if_pos e2, if_pos e2]; rfl
        · rw [if_neg e2, if_neg e2]; rfl
    · rw [if_neg e, Nat.add_zero, ih]
      cases hl : lst (fun k => P k && R k) K with
      | some c => rfl
      | none =>
        show none = Option.map (cn P) (if (P K && R K) = true then some K else none)
        rw [Bool.eq_false_iff.mpr e, Bool.false_and]
        rfl
theorem cn_lt {P : Nat → Bool} {k K : Nat} (h : k < K) (hp : P k = true) : cn P k < cn P K := by
  induction K with
  | zero => omega
  | succ K ih =>
    rw [cn_s]
    by_cases e : k = K
    · subst e; rw [if_pos hp]; omega
    · have := ih (by omega)
      omega
theorem cn_inj {P : Nat → Bool} {k k' : Nat} (hp : P k = true) (hp' : P k' = true) (h : cn P k = cn P k') : k = k' := by
  rcases Nat.lt_trichotomy k k' with z | z | z
  · have := cn_lt z hp; omega
  · exact z
  · have := cn_lt z hp'; omega
