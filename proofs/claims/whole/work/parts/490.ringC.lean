/-! ===== 490: the class's walks ===== -/
def encO : Option Nat → Int32
  | none => -9
  | some c => nI c
abbrev nr (sw : Bool) : Nat := if sw then 26 else 25
abbrev tr (sw : Bool) : Nat := if sw then 25 else 26
section RC
variable {b : Nat} {F : mI} {G : mJ} {n : Nat} {sw : Bool} {N : Nat}
theorem L_nr {i : Nat} (h : i < 64) : ldI (M b F G n sw) 0 (some (b + if sw then 26 else 25)) (nI i) = some (F (nr sw) i) := by
  cases sw
  · exact L_25 h
  · exact L_26 h
theorem L_tr {i : Nat} (h : i < 64) : ldI (M b F G n sw) 0 (some (b + if sw then 25 else 26)) (nI i) = some (F (tr sw) i) := by
  cases sw
  · exact L_26 h
  · exact L_25 h
theorem T_nr {i : Nat} {x : Int32} (h : i < 64) : stI (M b F G n sw) (some (b + if sw then 26 else 25)) (nI i) x = some (M b (u2 F (nr sw) i x) G n sw) := by
  cases sw
  · exact T_25 h
  · exact T_26 h
theorem T_tr {i : Nat} {x : Int32} (h : i < 64) : stI (M b F G n sw) (some (b + if sw then 25 else 26)) (nI i) x = some (M b (u2 F (tr sw) i x) G n sw) := by
  cases sw
  · exact T_26 h
  · exact T_25 h
theorem f_nr {v : Int32} (hN : 2000 ≤ N) : fJ7_fill_53178 N (M b F G n sw) (some (b + if sw then 26 else 25)) v = some (M b (uR F (nr sw) 0 64 v) G n sw) := by
  cases sw
  · exact e_fillM hN (by decide) rfl (by decide)
  · exact e_fillM hN (by decide) rfl (by decide)
theorem f_tr {v : Int32} (hN : 2000 ≤ N) : fJ7_fill_53178 N (M b F G n sw) (some (b + if sw then 25 else 26)) v = some (M b (uR F (tr sw) 0 64 v) G n sw) := by
  cases sw
  · exact e_fillM hN (by decide) rfl (by decide)
  · exact e_fillM hN (by decide) rfl (by decide)
theorem nr_tr : nr sw ≠ tr sw ∧ (nr sw = 25 ∨ nr sw = 26) ∧ (tr sw = 25 ∨ tr sw = 26) := by cases sw <;> decide
theorem nr_not : nr (!sw) = tr sw := by cases sw <;> rfl
theorem Hst_sw : u2 (u2 (Hst b n sw) 18 8 (some (b + if sw then 25 else 26))) 18 9 (some (b + if sw then 26 else 25)) = Hst b n (!sw) := by
  funext k j
  by_cases h1 : k = 18 ∧ j = 9
  · obtain ⟨rfl, rfl⟩ := h1
    rw [u2_eq]
    unfold Hst
    cases sw <;> rfl
  · rw [u2_ne _ _ _ _ h1]
    by_cases h2 : k = 18 ∧ j = 8
    · obtain ⟨rfl, rfl⟩ := h2
      rw [u2_eq]
      unfold Hst
      cases sw <;> rfl
    · rw [u2_ne _ _ _ _ h2]
      unfold Hst
      by_cases h6 : k = 6
      · rw [if_pos h6, if_pos h6]
      · rw [if_neg h6, if_neg h6, if_neg h2, if_neg h1, if_neg h2, if_neg h1]
theorem e_swap : fX0_swapRows N (M b F G n sw) (some (b + 18)) = some (M b F G n (!sw)) := by
  have h1 : pfV (M b F G n sw) 0 8 (some (b + 18)) (va_rf (some (b + if sw then 25 else 26))) = some (mk b F G (u2 (Hst b n sw) 18 8 (some (b + if sw then 25 else 26))) (56 + 3 * n)) := m_pfR (k := 18) (by omega) rfl rfl
  have h2 : pfV (mk b F G (u2 (Hst b n sw) 18 8 (some (b + if sw then 25 else 26))) (56 + 3 * n)) 0 9 (some (b + 18)) (va_rf (some (b + if sw then 26 else 25))) = some (mk b F G (u2 (u2 (Hst b n sw) 18 8 (some (b + if sw then 25 else 26))) 18 9 (some (b + if sw then 26 else 25))) (56 + 3 * n)) := m_pfR (k := 18) (by omega) rfl rfl
  unfold fX0_swapRows
  rw [K_18, R_18_8]
  simp only [Option.bind_some]
  rw [R_18_9]
  simp only [Option.bind_some]
  rw [h1]
  simp only [Option.bind_some]
  rw [h2, Hst_sw]
  rfl
theorem e_col {off : Nat} {x : Int32} (h3 : F 18 3 = nI off) (ho : off ≤ 64) (hN : 100 ≤ N) : fX0_columnOf N (M b F G n sw) (some (b + 18)) x = some (encO (lst (fun s => decide (F 19 s = x)) off)) := by
  have key : ∀ (m s : Nat), s ≤ off → off - s < m → lst (fun s => decide (F 19 s = x)) s = none → lX0_columnOf_2 N (M b F G n sw) (some (b + 18)) x m (nI s) = some (match lst (fun s => decide (F 19 s = x)) off with | some c => .inr (nI c) | none => .inl ()) := by
    intro m
    induction m with
    | zero => intro s _ h; omega
    | succ m ih =>
      intro s hs hm hl
      rw [lX0_columnOf_2, I_18_3, h3]
      simp only [Option.bind_some]
      by_cases e : s = off
      · subst e
        rw [if_pos (nI_le (Nat.le_refl _) (by omega)), hl]
      · rw [if_neg (nI_ge (by omega) (by omega)), R_18_0]
        simp only [Option.bind_some]
        rw [L_19 (show s < 64 by omega)]
        simp only [Option.bind_some, nm, nI_1]
        by_cases hx : F 19 s = x
        · rw [if_neg (fun z => z hx), lst_eq (c := s) (show s < off by omega) (decide_eq_true hx) (fun j hj => lst_none hl j hj)]
        · rw [if_pos hx]
          refine ih (s + 1) (by omega) (by omega) ?_
          rw [lst_s, hl]
          show (if decide (F 19 s = x) = true then some s else none) = none
          rw [if_neg (fun z => hx (of_decide_eq_true z))]
  have := key N 0 (by omega) (by omega) rfl
  unfold fX0_columnOf
  rw [K_18, show (0 : Int32) = nI 0 from rfl, this]
  cases lst (fun s => decide (F 19 s = x)) off <;> rfl
end RC
/-- columns by the first slice that begins with them -/
def frS (F : mI) (off s : Nat) : Nat := (lst (fun s' => decide (F 19 s' = F 19 s)) off).getD 0
def toS (F : mI) (off s : Nat) : Option Nat := lst (fun s' => decide (F 19 s' = F 20 s)) off
theorem frS_e {F : mI} {off s : Nat} (h : s < off) : lst (fun s' => decide (F 19 s' = F 19 s)) off = some (frS F off s) ∧ frS F off s < off := by
  obtain ⟨c, hc⟩ := lst_ex (P := fun s' => decide (F 19 s' = F 19 s)) h (decide_eq_true rfl)
  unfold frS
  rw [hc]
  exact ⟨rfl, (lst_some hc).1⟩
def Q2 (F : mI) (off s : Nat) : Bool := (toS F off s).isSome
/-- the arrows lie in their rows -/
def ArM (F1 F : mI) (off K : Nat) : Prop := (∀ k j, k ≠ 22 → k ≠ 23 → k ≠ 24 → ¬ (k = 18 ∧ j = 7) → F k j = F1 k j) ∧ F 18 7 = nI (cn (Q2 F1 off) K) ∧ ∀ s, s < K → Q2 F1 off s = true → F 22 (cn (Q2 F1 off) s) = nI (frS F1 off s) ∧ F 23 (cn (Q2 F1 off) s) = nI ((toS F1 off s).getD 0) ∧ F 24 (cn (Q2 F1 off) s) = F1 21 s
section RJ
variable {b : Nat} {G : mJ} {n : Nat} {sw : Bool} {N : Nat}
theorem e_join {F1 : mI} {off : Nat} (h3 : F1 18 3 = nI off) (ho : off ≤ 64) (hN : 100 ≤ N) : ∃ F', fX0_joinArrows N (M b F1 G n sw) (some (b + 18)) = some (M b F' G n sw) ∧ ArM F1 F' off off := by
  have key : ∀ (m s : Nat) (F : mI), s ≤ off → off - s < m → ArM F1 F off s → ∃ F', lX0_joinArrows_7 N (some (b + 18)) m (nI s) (M b F G n sw) = some (M b F' G n sw) ∧ ArM F1 F' off off := by
    intro m
    induction m with
    | zero => intro s F _ h; omega
    | succ m ih =>
      intro s F hs hm hA
      obtain ⟨a1, a2, a3⟩ := id hA
      have g3 : F 18 3 = nI off := by rw [a1 _ _ (by omega) (by omega) (by omega) (by omega)]; exact h3
      have e19 : ∀ j, F 19 j = F1 19 j := fun j => a1 _ _ (by omega) (by omega) (by omega) (by omega)
      have e20 : ∀ j, F 20 j = F1 20 j := fun j => a1 _ _ (by omega) (by omega) (by omega) (by omega)
      have e21 : ∀ j, F 21 j = F1 21 j := fun j => a1 _ _ (by omega) (by omega) (by omega) (by omega)
      have hcol : ∀ x, fX0_columnOf N (M b F G n sw) (some (b + 18)) x = some (encO (lst (fun s => decide (F1 19 s = x)) off)) := fun x => by
        rw [e_col g3 ho hN]
        simp only [e19]
      rw [lX0_joinArrows_7, I_18_3, g3]
      simp only [Option.bind_some]
      by_cases e : s = off
      · subst e
        refine ⟨F, ?_, hA⟩
        rw [if_pos (nI_le (Nat.le_refl _) (by omega))]
      · have hs' : s < off := by omega
        obtain ⟨q1, q2⟩ := frS_e (F := F1) hs'
        have hle := cn_le (Q2 F1 off) s
        rw [if_neg (nI_ge hs' (by omega)), R_18_0]
        simp only [Option.bind_some]
        rw [L_19 (show s < 64 by omega), e19]
        simp only [Option.bind_some, hcol, q1, R_18_1]
        rw [L_20 (show s < 64 by omega), e20]
        simp only [Option.bind_some, hcol]
        simp only [nm, nI_1]
        rw [show encO (some (frS F1 off s)) = nI (frS F1 off s) from rfl, if_neg (m9ne _ (by omega))]
        cases ht : lst (fun s_1 => decide (F1 19 s_1 = F1 20 s)) off with
        | none =>
          have hq : Q2 F1 off s = false := by unfold Q2 toS; rw [ht]; rfl
          rw [show encO (none : Option Nat) = -9 from rfl, if_pos rfl]
          have hcn : cn (Q2 F1 off) (s + 1) = cn (Q2 F1 off) s := by rw [cn_s, hq]; rfl
          refine ih (s + 1) F (by omega) (by omega) ⟨a1, by rw [hcn]; exact a2, fun s' hs2 hq' => a3 s' ?_ hq'⟩
          have : s' ≠ s := fun z => by rw [z, hq] at hq'; exact absurd hq' (by decide)
          omega
        | some d =>
          have hq : Q2 F1 off s = true := by unfold Q2 toS; rw [ht]; rfl
          have hd : (toS F1 off s).getD 0 = d := by unfold toS; rw [ht]; rfl
          have hd6 := (lst_some ht).1
          have hC : cn (Q2 F1 off) s < 64 := by omega
          rw [show encO (some d) = nI d from rfl, if_neg (m9ne _ (by omega)), I_18_7, a2]
          simp only [Option.bind_some]
          rw [if_neg (show ¬ (64 : Int32) ≤ nI (cn (Q2 F1 off) s) from nI_ge (b := 64) hC (by decide)), R_18_4]
          simp only [Option.bind_some]
          rw [T_22 hC]
          have s1 : (u2 F 22 (cn (Q2 F1 off) s) (nI (frS F1 off s))) 18 7 = nI (cn (Q2 F1 off) s) := by rw [u2_ne _ _ _ _ (by omega)]; exact a2
          have s2 : (u2 (u2 F 22 (cn (Q2 F1 off) s) (nI (frS F1 off s))) 23 (cn (Q2 F1 off) s) (nI d)) 18 7 = nI (cn (Q2 F1 off) s) := by rw [u2_ne _ _ _ _ (by omega)]; exact s1
          have s3 : (u2 (u2 (u2 F 22 (cn (Q2 F1 off) s) (nI (frS F1 off s))) 23 (cn (Q2 F1 off) s) (nI d)) 24 (cn (Q2 F1 off) s) (F1 21 s)) 18 7 = nI (cn (Q2 F1 off) s) := by rw [u2_ne _ _ _ _ (by omega)]; exact s2
          have s21 : (u2 (u2 F 22 (cn (Q2 F1 off) s) (nI (frS F1 off s))) 23 (cn (Q2 F1 off) s) (nI d)) 21 s = F1 21 s := by rw [u2_ne _ _ _ _ (by omega), u2_ne _ _ _ _ (by omega)]; exact e21 s
          simp only [Option.bind_some, R_18_5, I_18_7, s1]
          rw [T_23 hC]
          simp only [Option.bind_some, R_18_6, I_18_7, s2, R_18_2]
          rw [L_21 (show s < 64 by omega), s21]
          simp only [Option.bind_some]
          rw [T_24 hC]
          simp only [Option.bind_some, I_18_7, s3, nI_1, P_18_7]
          have hcn : cn (Q2 F1 off) (s + 1) = cn (Q2 F1 off) s + 1 := by rw [cn_s, if_pos hq]
          refine ih (s + 1) _ (by omega) (by omega) ⟨fun k j z1 z2 z3 z4 => ?_, by rw [u2_eq, hcn], fun s' hs2 hq' => ?_⟩
          · rw [u2_ne _ _ _ _ z4, u2_ne _ _ _ _ (fun w => z3 w.1), u2_ne _ _ _ _ (fun w => z2 w.1), u2_ne _ _ _ _ (fun w => z1 w.1)]
            exact a1 k j z1 z2 z3 z4
          · by_cases e2 : s' = s
            · rw [e2]
              refine ⟨?_, ?_, ?_⟩
              · rw [u2_ne _ _ _ _ (by omega), u2_ne _ _ _ _ (by omega), u2_ne _ _ _ _ (by omega), u2_eq]
              · rw [u2_ne _ _ _ _ (by omega), u2_ne _ _ _ _ (by omega), u2_eq, hd]
              · rw [u2_ne _ _ _ _ (by omega), u2_eq]
            · have hlt := cn_lt (P := Q2 F1 off) (show s' < s by omega) hq'
              obtain ⟨w1, w2, w3⟩ := a3 s' (by omega) hq'
              refine ⟨?_, ?_, ?_⟩
              · rw [u2_ne _ _ _ _ (by omega), u2_ne _ _ _ _ (by omega), u2_ne _ _ _ _ (by omega), u2_ne _ _ _ _ (by omega)]; exact w1
              · rw [u2_ne _ _ _ _ (by omega), u2_ne _ _ _ _ (by omega), u2_ne _ _ _ _ (by omega), u2_ne _ _ _ _ (by omega)]; exact w2
              · rw [u2_ne _ _ _ _ (by omega), u2_ne _ _ _ _ (by omega), u2_ne _ _ _ _ (by omega), u2_ne _ _ _ _ (by omega)]; exact w3
  obtain ⟨F', e1, e2⟩ := key N 0 (u2 F1 18 7 0) (by omega) (by omega) ⟨fun k j _ _ _ z => u2_ne _ _ _ _ z, u2_eq _ _ _ _, fun s hs => by omega⟩
  refine ⟨F', ?_, e2⟩
  unfold fX0_joinArrows
  rw [K_18, P_18_7]
  simp only [Option.bind_some]
  rw [show nI 0 = (0 : Int32) from rfl] at e1
  rw [e1]
  rfl
end RJ
