/-! ===== 500: the beginning ===== -/
def hL (b : Nat) (L : List (Nat × Nat)) : mR := fun k j => if (k, j) ∈ L then Hst b 0 false k j else none
def Zr (F : mI) (G : mJ) (L : List (Nat × Nat)) (c : Nat) : Prop := (∀ k j, c ≤ k → F k j = 0) ∧ (∀ k j, c ≤ k → G k j = 0) ∧ ∀ k j, c ≤ k → (k, j) ∉ L
section IN
variable {b : Nat} {F : mI} {G : mJ} {L : List (Nat × Nat)} {c : Nat} {N : Nat}
theorem hL_n (h : Zr F G L c) (j : Nat) : hL b L c j = none := if_neg (h.2.2 c j (Nat.le_refl _))
theorem al_I {len : Nat} (h : Zr F G L c) (hk : kd c = (0, len)) : puS b (mk b F G (hL b L) c) (pI len (fun _ => 0)) = mk b F G (hL b L) (c + 1) := by
  refine mk_pu ?_ (fun _ _ => rfl) (fun _ _ => rfl) (fun _ _ => rfl)
  rw [hk]
  simp only [cellE, if_true]
  exact congrArg (pI len) (funext fun j => (h.1 c j (Nat.le_refl _)).symm)
theorem al_Z {len : Nat} (h : Zr F G L c) (hk : kd c = (1, len)) : puS b (mk b F G (hL b L) c) (pZ len (fun _ => 0)) = mk b F G (hL b L) (c + 1) := by
  refine mk_pu ?_ (fun _ _ => rfl) (fun _ _ => rfl) (fun _ _ => rfl)
  rw [hk]
  simp only [cellE, show ¬ (1 : Nat) = 0 by decide, if_true, if_false]
  exact congrArg (pZ len) (funext fun j => (h.1 c j (Nat.le_refl _)).symm)
theorem al_J {len : Nat} (h : Zr F G L c) (hk : kd c = (2, len)) : puS b (mk b F G (hL b L) c) (pJ len (fun _ => 0)) = mk b F G (hL b L) (c + 1) := by
  refine mk_pu ?_ (fun _ _ => rfl) (fun _ _ => rfl) (fun _ _ => rfl)
  rw [hk]
  simp only [cellE, show ¬ (2 : Nat) = 0 by decide, show ¬ (2 : Nat) = 1 by decide, if_true, if_false]
  exact congrArg (pJ len) (funext fun j => (h.2.1 c j (Nat.le_refl _)).symm)
theorem al_R {len : Nat} (h : Zr F G L c) (hk : kd c = (3, len)) : puS b (mk b F G (hL b L) c) (pR len (fun _ => none)) = mk b F G (hL b L) (c + 1) := by
  refine mk_pu ?_ (fun _ _ => rfl) (fun _ _ => rfl) (fun _ _ => rfl)
  rw [hk]
  simp only [cellE, show ¬ (3 : Nat) = 0 by decide, show ¬ (3 : Nat) = 1 by decide, show ¬ (3 : Nat) = 2 by decide, if_true, if_false]
  exact congrArg (pR len) (funext fun j => (hL_n h j).symm)
theorem al_O {ci : Nat} (l : List Value) (h : Zr F G L c) (hk : kd c = (4, ci)) (hl : l = fl (fun _ => 0) (fun _ => 0) (fun _ => none) 0 (fty ci)) : puS b (mk b F G (hL b L) c) (pO ci l) = mk b F G (hL b L) (c + 1) := by
  refine mk_pu ?_ (fun _ _ => rfl) (fun _ _ => rfl) (fun _ _ => rfl)
  rw [hk, cellE_O, hl]
  have e1 : F c = fun _ => 0 := funext fun j => h.1 c j (Nat.le_refl _)
  have e2 : G c = fun _ => 0 := funext fun j => h.2.1 c j (Nat.le_refl _)
  have e3 : hL b L c = fun _ => none := funext fun j => hL_n h j
  rw [e1, e2, e3]
theorem Zr_s (h : Zr F G L c) : Zr F G L (c + 1) := ⟨fun k j hk => h.1 k j (by omega), fun k j hk => h.2.1 k j (by omega), fun k j hk => h.2.2 k j (by omega)⟩
theorem Zr_F {k j : Nat} {v : Int32} (h : Zr F G L c) (hk : k < c) : Zr (u2 F k j v) G L c := ⟨fun a i ha => by rw [u2_ne _ _ _ _ (by omega)]; exact h.1 a i ha, h.2.1, h.2.2⟩
theorem Zr_G {k j : Nat} {v : Int64} (h : Zr F G L c) (hk : k < c) : Zr F (u2 G k j v) L c := ⟨h.1, fun a i ha => by rw [u2_ne _ _ _ _ (by omega)]; exact h.2.1 a i ha, h.2.2⟩
theorem Zr_U {k i m : Nat} {v : Int32} (h : Zr F G L c) (hk : k < c) : Zr (uR F k i m v) G L c := ⟨fun a j ha => by
  unfold uR
  rw [if_neg (by omega)]
  exact h.1 a j ha, h.2.1, h.2.2⟩
theorem Zr_L {k j : Nat} (h : Zr F G L c) (hk : k < c) : Zr F G ((k, j) :: L) c := ⟨h.1, h.2.1, fun a i ha z => by
  rcases List.mem_cons.mp z with w | w
  · have := congrArg Prod.fst w
    simp only at this
    omega
  · exact h.2.2 a i ha w⟩
theorem pRf {k ci j t : Nat} (hc : k < c) (hk : kd k = (4, ci)) (hj : (fty ci)[j]? = some 2) (ht : Hst b 0 false k j = some (b + t)) : pfV (mk b F G (hL b L) c) ci j (some (b + k)) (va_rf (some (b + t))) = some (mk b F G (hL b ((k, j) :: L)) c) := by
  rw [m_pfR hc hk hj]
  refine congrArg (fun z => some (mk b F G z c)) ?_
  funext a i
  unfold hL
  by_cases e : a = k ∧ i = j
  · obtain ⟨rfl, rfl⟩ := e
    rw [u2_eq, if_pos (List.mem_cons_self), ht]
  · rw [u2_ne _ _ _ _ e]
    have e2 : ((a, i) ∈ (k, j) :: L) = ((a, i) ∈ L) := propext ⟨fun z => by
      rcases List.mem_cons.mp z with w | w
      · exact absurd ⟨congrArg Prod.fst w, congrArg Prod.snd w⟩ e
      · exact w, fun z => List.mem_cons_of_mem _ z⟩
    simp only [e2]
theorem gRf {k ci j t : Nat} (hc : k < c) (hk : kd k = (4, ci)) (hj : (fty ci)[j]? = some 2) (hm : (k, j) ∈ L) (ht : Hst b 0 false k j = some (b + t)) : gfR (mk b F G (hL b L) c) ci j (some (b + k)) = some (some (b + t)) := by
  rw [m_gfR hc hk hj]
  unfold hL
  rw [if_pos hm, ht]
theorem e_i44 (hc : 6 ≤ c) (h0 : (1, 0) ∈ L) (h1 : (1, 1) ∈ L) : ∀ (m g : Nat) (F : mI), g ≤ 9 → 9 - g < m → ∃ F', lX3_init_44 N (some (b + 1)) m (nI g) (mk b F G (hL b L) c) = some (mk b F' G (hL b L) c) ∧ (∀ k j, ¬ ((k = 2 ∨ k = 3) ∧ g ≤ j ∧ j < 9) → F' k j = F k j) ∧ ∀ j, g ≤ j → j < 9 → F' 2 j = nI (10 * j) ∧ F' 3 j = 1 := by
  intro m
  induction m with
  | zero => intro g F _ h; omega
  | succ m ih =>
    intro g F hg hm
    rw [lX3_init_44]
    by_cases e : g = 9
    · subst e
      refine ⟨F, ?_, fun _ _ _ => rfl, fun j h1 h2 => by omega⟩
      rw [if_pos (by decide)]
    · obtain ⟨F', e1, e2, e3⟩ := ih (g + 1) (u2 (u2 F 2 g (nI (10 * g))) 3 g 1) (by omega) (by omega)
      rw [if_neg (show ¬ (8 : Int32) < nI g from nI_nlt (a := 8) (by omega) (by decide)), ob (gRf (t := 2) (by omega) rfl rfl h0 rfl), show (10 : Int32) * nI g = nI (10 * g) from pk_mul 10 g, ob (m_stI (k := 2) (len := 9) (by omega) rfl (by omega)), ob (gRf (t := 3) (by omega) rfl rfl h1 rfl), ob (m_stI (k := 3) (len := 9) (by omega) rfl (by omega)), nm_q, nI_1, e1]
      refine ⟨F', rfl, fun k j h => ?_, fun j h1 h2 => ?_⟩
      · rw [e2 k j (by omega), u2_ne _ _ _ _ (by omega), u2_ne _ _ _ _ (by omega)]
      · by_cases e4 : j = g
        · rw [e4, e2 2 g (by omega), e2 3 g (by omega), u2_ne _ _ _ _ (by omega), u2_eq, u2_eq]
          exact ⟨rfl, rfl⟩
        · exact e3 j (by omega) h2
theorem e_i219 (hc : 56 ≤ c) (h0 : (32, 0) ∈ L) (h1 : (32, 1) ∈ L) : ∀ (m g : Nat) (F : mI), g ≤ 9 → 9 - g < m → ∃ F', lX9_init_219 N (some (b + 32)) m (nI g) (mk b F G (hL b L) c) = some (mk b F' G (hL b L) c) ∧ (∀ k j, ¬ ((k = 33 ∨ k = 34) ∧ g ≤ j ∧ j < 9) → F' k j = F k j) ∧ ∀ j, g ≤ j → j < 9 → F' 33 j = nI (10 * j) ∧ F' 34 j = 1 := by
  intro m
  induction m with
  | zero => intro g F _ h; omega
  | succ m ih =>
    intro g F hg hm
    rw [lX9_init_219]
    by_cases e : g = 9
    · subst e
      refine ⟨F, ?_, fun _ _ _ => rfl, fun j h1 h2 => by omega⟩
      rw [if_pos (by decide)]
    · obtain ⟨F', e1, e2, e3⟩ := ih (g + 1) (u2 (u2 F 33 g (nI (10 * g))) 34 g 1) (by omega) (by omega)
      rw [if_neg (show ¬ (9 : Int32) ≤ nI g from nI_ge (b := 9) (by omega) (by decide)), ob (gRf (t := 33) (by omega) rfl rfl h0 rfl), show (10 : Int32) * nI g = nI (10 * g) from pk_mul 10 g, ob (m_stI (k := 33) (len := 9) (by omega) rfl (by omega)), ob (gRf (t := 34) (by omega) rfl rfl h1 rfl), ob (m_stI (k := 34) (len := 9) (by omega) rfl (by omega)), nm_q, nI_1, e1]
      refine ⟨F', rfl, fun k j h => ?_, fun j h1 h2 => ?_⟩
      · rw [e2 k j (by omega), u2_ne _ _ _ _ (by omega), u2_ne _ _ _ _ (by omega)]
      · by_cases e4 : j = g
        · rw [e4, e2 33 g (by omega), e2 34 g (by omega), u2_ne _ _ _ _ (by omega), u2_eq, u2_eq]
          exact ⟨rfl, rfl⟩
        · exact e3 j (by omega) h2
theorem e_i250 (hc : 56 ≤ c) (h0 : (32, 11) ∈ L) : ∀ (m g : Nat) (F : mI), g ≤ 16 → 16 - g < m → lX9_init_250 N (some (b + 32)) m (nI g) (mk b F G (hL b L) c) = some (mk b (uR F 40 g 16 (-9)) G (hL b L) c) := by
  intro m
  induction m with
  | zero => intro g F _ h; omega
  | succ m ih =>
    intro g F hg hm
    rw [lX9_init_250]
    by_cases e : g = 16
    · subst e
      rw [if_pos (by decide), uR_0]
    · rw [if_neg (show ¬ (16 : Int32) ≤ nI g from nI_ge (b := 16) (by omega) (by decide)), ob (gRf (t := 40) (by omega) rfl rfl h0 rfl), ob (m_stI (k := 40) (len := 16) (by omega) rfl (by omega)), nm_q, nI_1, ih (g + 1) _ (by omega) (by omega), uR_s _ _ _ _ _ (by omega)]
theorem i_X7 (hN : 2000 ≤ N) (z0 : Zr F G L 8) : fX7_init N b (mk b F G (hL b L) 8) (some (b + 7)) = some (mk b (uR (u2 F 7 2 2) 8 0 16 (-9)) G (hL b ((7, 1) :: ((7, 0) :: L))) 10) := by
  have z1 : Zr F G L 9 := Zr_s z0
  have z2 : Zr F G ((7, 0) :: L) 9 := Zr_L z1 (by omega)
  have z3 : Zr F G ((7, 0) :: L) 10 := Zr_s z2
  have z4 : Zr F G ((7, 1) :: ((7, 0) :: L)) 10 := Zr_L z3 (by omega)
  have z5 : Zr (u2 F 7 2 2) G ((7, 1) :: ((7, 0) :: L)) 10 := Zr_F z4 (by omega)
  unfold fX7_init
  rw [m_chk (k := 7) (by omega) (show kd 7 = (4, 7) from rfl)]
  rw [nm_q]
  rw [mk_1]
  rw [nm_q]
  rw [al_I (b := b) (len := 16) z0 rfl]
  rw [ob (pRf (b := b) (F := F) (G := G) (L := L) (c := 9) (k := 7) (ci := 7) (j := 0) (t := 8) (by omega) rfl rfl rfl)]
  rw [nm_q]
  rw [mk_1]
  rw [nm_q]
  rw [al_I (b := b) (len := 16) z2 rfl]
  rw [ob (pRf (b := b) (F := F) (G := G) (L := ((7, 0) :: L)) (c := 10) (k := 7) (ci := 7) (j := 1) (t := 9) (by omega) rfl rfl rfl)]
  rw [ob (m_pfI (k := 7) (by omega) (show kd 7 = (4, 7) from rfl) rfl)]
  rw [ob (gRf (t := 8) (by omega) (show kd 7 = (4, 7) from rfl) rfl (by simp) rfl)]
  rw [ob (e_fill hN (show 8 < 10 by omega) (show kd 8 = (0, 16) from rfl) (by omega))]
theorem i_X2 (hN : 2000 ≤ N) (z0 : Zr F G L 11) : fX2_init N b (mk b F G (hL b L) 11) (some (b + 10)) = some (mk b F G (hL b ((10, 2) :: ((10, 1) :: ((10, 0) :: L)))) 14) := by
  have z1 : Zr F G L 12 := Zr_s z0
  have z2 : Zr F G ((10, 0) :: L) 12 := Zr_L z1 (by omega)
  have z3 : Zr F G ((10, 0) :: L) 13 := Zr_s z2
  have z4 : Zr F G ((10, 1) :: ((10, 0) :: L)) 13 := Zr_L z3 (by omega)
  have z5 : Zr F G ((10, 1) :: ((10, 0) :: L)) 14 := Zr_s z4
  have z6 : Zr F G ((10, 2) :: ((10, 1) :: ((10, 0) :: L))) 14 := Zr_L z5 (by omega)
  unfold fX2_init
  rw [m_chk (k := 10) (by omega) (show kd 10 = (4, 2) from rfl)]
  rw [nm_q]
  rw [mk_1]
  rw [nm_q]
  rw [al_I (b := b) (len := 64) z0 rfl]
  rw [ob (pRf (b := b) (F := F) (G := G) (L := L) (c := 12) (k := 10) (ci := 2) (j := 0) (t := 11) (by omega) rfl rfl rfl)]
  rw [nm_q]
  rw [mk_1]
  rw [nm_q]
  rw [al_I (b := b) (len := 64) z2 rfl]
  rw [ob (pRf (b := b) (F := F) (G := G) (L := ((10, 0) :: L)) (c := 13) (k := 10) (ci := 2) (j := 1) (t := 12) (by omega) rfl rfl rfl)]
  rw [nm_q]
  rw [mk_1]
  rw [nm_q]
  rw [al_I (b := b) (len := 64) z4 rfl]
  rw [ob (pRf (b := b) (F := F) (G := G) (L := ((10, 1) :: ((10, 0) :: L))) (c := 14) (k := 10) (ci := 2) (j := 2) (t := 13) (by omega) rfl rfl rfl)]
theorem i_X5a (hN : 2000 ≤ N) (z0 : Zr F G L 15) : fX5_init N b (mk b F G (hL b L) 15) (some (b + 14)) 1 0 = some (mk b (uR (u2 F 14 1 1) 15 0 64 0) G (hL b ((14, 0) :: L)) 16) := by
  have z1 : Zr F G L 16 := Zr_s z0
  have z2 : Zr F G ((14, 0) :: L) 16 := Zr_L z1 (by omega)
  have z3 : Zr (u2 F 14 1 1) G ((14, 0) :: L) 16 := Zr_F z2 (by omega)
  unfold fX5_init
  rw [m_chk (k := 14) (by omega) (show kd 14 = (4, 5) from rfl)]
  rw [nm_q]
  rw [mk_1]
  rw [nm_q]
  rw [al_I (b := b) (len := 64) z0 rfl]
  rw [ob (pRf (b := b) (F := F) (G := G) (L := L) (c := 16) (k := 14) (ci := 5) (j := 0) (t := 15) (by omega) rfl rfl rfl)]
  rw [show mmax (1 : Int32) (mmin (1 : Int32) (8 : Int32)) = 1 by decide]
  rw [ob (m_pfI (k := 14) (by omega) (show kd 14 = (4, 5) from rfl) rfl)]
  rw [ob (gRf (t := 15) (by omega) (show kd 14 = (4, 5) from rfl) rfl (by simp) rfl)]
  rw [ob (e_fill hN (show 15 < 16 by omega) (show kd 15 = (0, 64) from rfl) (by omega))]
theorem i_X5b (hN : 2000 ≤ N) (z0 : Zr F G L 17) : fX5_init N b (mk b F G (hL b L) 17) (some (b + 16)) 1 (-9) = some (mk b (uR (u2 F 16 1 1) 17 0 64 (-9)) G (hL b ((16, 0) :: L)) 18) := by
  have z1 : Zr F G L 18 := Zr_s z0
  have z2 : Zr F G ((16, 0) :: L) 18 := Zr_L z1 (by omega)
  have z3 : Zr (u2 F 16 1 1) G ((16, 0) :: L) 18 := Zr_F z2 (by omega)
  unfold fX5_init
  rw [m_chk (k := 16) (by omega) (show kd 16 = (4, 5) from rfl)]
  rw [nm_q]
  rw [mk_1]
  rw [nm_q]
  rw [al_I (b := b) (len := 64) z0 rfl]
  rw [ob (pRf (b := b) (F := F) (G := G) (L := L) (c := 18) (k := 16) (ci := 5) (j := 0) (t := 17) (by omega) rfl rfl rfl)]
  rw [show mmax (1 : Int32) (mmin (1 : Int32) (8 : Int32)) = 1 by decide]
  rw [ob (m_pfI (k := 16) (by omega) (show kd 16 = (4, 5) from rfl) rfl)]
  rw [ob (gRf (t := 17) (by omega) (show kd 16 = (4, 5) from rfl) rfl (by simp) rfl)]
  rw [ob (e_fill hN (show 17 < 18 by omega) (show kd 17 = (0, 64) from rfl) (by omega))]
theorem i_X0 (hN : 2000 ≤ N) (z0 : Zr F G L 19) : fX0_init N b (mk b F G (hL b L) 19) (some (b + 18)) = some (mk b (u2 (u2 F 18 3 0) 18 7 0) G (hL b ((18, 9) :: ((18, 8) :: ((18, 6) :: ((18, 5) :: ((18, 4) :: ((18, 2) :: ((18, 1) :: ((18, 0) :: L))))))))) 27) := by
  have z1 : Zr F G L 20 := Zr_s z0
  have z2 : Zr F G ((18, 0) :: L) 20 := Zr_L z1 (by omega)
  have z3 : Zr F G ((18, 0) :: L) 21 := Zr_s z2
  have z4 : Zr F G ((18, 1) :: ((18, 0) :: L)) 21 := Zr_L z3 (by omega)
  have z5 : Zr F G ((18, 1) :: ((18, 0) :: L)) 22 := Zr_s z4
  have z6 : Zr F G ((18, 2) :: ((18, 1) :: ((18, 0) :: L))) 22 := Zr_L z5 (by omega)
  have z7 : Zr (u2 F 18 3 0) G ((18, 2) :: ((18, 1) :: ((18, 0) :: L))) 22 := Zr_F z6 (by omega)
  have z8 : Zr (u2 F 18 3 0) G ((18, 2) :: ((18, 1) :: ((18, 0) :: L))) 23 := Zr_s z7
  have z9 : Zr (u2 F 18 3 0) G ((18, 4) :: ((18, 2) :: ((18, 1) :: ((18, 0) :: L)))) 23 := Zr_L z8 (by omega)
  have z10 : Zr (u2 F 18 3 0) G ((18, 4) :: ((18, 2) :: ((18, 1) :: ((18, 0) :: L)))) 24 := Zr_s z9
  have z11 : Zr (u2 F 18 3 0) G ((18, 5) :: ((18, 4) :: ((18, 2) :: ((18, 1) :: ((18, 0) :: L))))) 24 := Zr_L z10 (by omega)
  have z12 : Zr (u2 F 18 3 0) G ((18, 5) :: ((18, 4) :: ((18, 2) :: ((18, 1) :: ((18, 0) :: L))))) 25 := Zr_s z11
  have z13 : Zr (u2 F 18 3 0) G ((18, 6) :: ((18, 5) :: ((18, 4) :: ((18, 2) :: ((18, 1) :: ((18, 0) :: L)))))) 25 := Zr_L z12 (by omega)
  have z14 : Zr (u2 (u2 F 18 3 0) 18 7 0) G ((18, 6) :: ((18, 5) :: ((18, 4) :: ((18, 2) :: ((18, 1) :: ((18, 0) :: L)))))) 25 := Zr_F z13 (by omega)
  have z15 : Zr (u2 (u2 F 18 3 0) 18 7 0) G ((18, 6) :: ((18, 5) :: ((18, 4) :: ((18, 2) :: ((18, 1) :: ((18, 0) :: L)))))) 26 := Zr_s z14
  have z16 : Zr (u2 (u2 F 18 3 0) 18 7 0) G ((18, 8) :: ((18, 6) :: ((18, 5) :: ((18, 4) :: ((18, 2) :: ((18, 1) :: ((18, 0) :: L))))))) 26 := Zr_L z15 (by omega)
  have z17 : Zr (u2 (u2 F 18 3 0) 18 7 0) G ((18, 8) :: ((18, 6) :: ((18, 5) :: ((18, 4) :: ((18, 2) :: ((18, 1) :: ((18, 0) :: L))))))) 27 := Zr_s z16
  have z18 : Zr (u2 (u2 F 18 3 0) 18 7 0) G ((18, 9) :: ((18, 8) :: ((18, 6) :: ((18, 5) :: ((18, 4) :: ((18, 2) :: ((18, 1) :: ((18, 0) :: L)))))))) 27 := Zr_L z17 (by omega)
  unfold fX0_init
  rw [m_chk (k := 18) (by omega) (show kd 18 = (4, 0) from rfl)]
  rw [nm_q]
  rw [mk_1]
  rw [nm_q]
  rw [al_I (b := b) (len := 64) z0 rfl]
  rw [ob (pRf (b := b) (F := F) (G := G) (L := L) (c := 20) (k := 18) (ci := 0) (j := 0) (t := 19) (by omega) rfl rfl rfl)]
  rw [nm_q]
  rw [mk_1]
  rw [nm_q]
  rw [al_I (b := b) (len := 64) z2 rfl]
  rw [ob (pRf (b := b) (F := F) (G := G) (L := ((18, 0) :: L)) (c := 21) (k := 18) (ci := 0) (j := 1) (t := 20) (by omega) rfl rfl rfl)]
  rw [nm_q]
  rw [mk_1]
  rw [nm_q]
  rw [al_I (b := b) (len := 64) z4 rfl]
  rw [ob (pRf (b := b) (F := F) (G := G) (L := ((18, 1) :: ((18, 0) :: L))) (c := 22) (k := 18) (ci := 0) (j := 2) (t := 21) (by omega) rfl rfl rfl)]
  rw [ob (m_pfI (k := 18) (by omega) (show kd 18 = (4, 0) from rfl) rfl)]
  rw [nm_q]
  rw [mk_1]
  rw [nm_q]
  rw [al_I (b := b) (len := 64) z7 rfl]
  rw [ob (pRf (b := b) (F := (u2 F 18 3 0)) (G := G) (L := ((18, 2) :: ((18, 1) :: ((18, 0) :: L)))) (c := 23) (k := 18) (ci := 0) (j := 4) (t := 22) (by omega) rfl rfl rfl)]
  rw [nm_q]
  rw [mk_1]
  rw [nm_q]
  rw [al_I (b := b) (len := 64) z9 rfl]
  rw [ob (pRf (b := b) (F := (u2 F 18 3 0)) (G := G) (L := ((18, 4) :: ((18, 2) :: ((18, 1) :: ((18, 0) :: L))))) (c := 24) (k := 18) (ci := 0) (j := 5) (t := 23) (by omega) rfl rfl rfl)]
  rw [nm_q]
  rw [mk_1]
  rw [nm_q]
  rw [al_I (b := b) (len := 64) z11 rfl]
  rw [ob (pRf (b := b) (F := (u2 F 18 3 0)) (G := G) (L := ((18, 5) :: ((18, 4) :: ((18, 2) :: ((18, 1) :: ((18, 0) :: L)))))) (c := 25) (k := 18) (ci := 0) (j := 6) (t := 24) (by omega) rfl rfl rfl)]
  rw [ob (m_pfI (k := 18) (by omega) (show kd 18 = (4, 0) from rfl) rfl)]
  rw [nm_q]
  rw [mk_1]
  rw [nm_q]
  rw [al_I (b := b) (len := 64) z14 rfl]
  rw [ob (pRf (b := b) (F := (u2 (u2 F 18 3 0) 18 7 0)) (G := G) (L := ((18, 6) :: ((18, 5) :: ((18, 4) :: ((18, 2) :: ((18, 1) :: ((18, 0) :: L))))))) (c := 26) (k := 18) (ci := 0) (j := 8) (t := 25) (by omega) rfl rfl rfl)]
  rw [nm_q]
  rw [mk_1]
  rw [nm_q]
  rw [al_I (b := b) (len := 64) z16 rfl]
  rw [ob (pRf (b := b) (F := (u2 (u2 F 18 3 0) 18 7 0)) (G := G) (L := ((18, 8) :: ((18, 6) :: ((18, 5) :: ((18, 4) :: ((18, 2) :: ((18, 1) :: ((18, 0) :: L)))))))) (c := 27) (k := 18) (ci := 0) (j := 9) (t := 26) (by omega) rfl rfl rfl)]
theorem i_X4 (hN : 2000 ≤ N) (z0 : Zr F G L 28) : fX4_init N b (mk b F G (hL b L) 28) (some (b + 27)) = some (mk b (u2 (u2 F 27 3 0) 27 4 1) G (hL b ((27, 2) :: ((27, 1) :: ((27, 0) :: L)))) 31) := by
  have z1 : Zr F G L 29 := Zr_s z0
  have z2 : Zr F G ((27, 0) :: L) 29 := Zr_L z1 (by omega)
  have z3 : Zr F G ((27, 0) :: L) 30 := Zr_s z2
  have z4 : Zr F G ((27, 1) :: ((27, 0) :: L)) 30 := Zr_L z3 (by omega)
  have z5 : Zr F G ((27, 1) :: ((27, 0) :: L)) 31 := Zr_s z4
  have z6 : Zr F G ((27, 2) :: ((27, 1) :: ((27, 0) :: L))) 31 := Zr_L z5 (by omega)
  have z7 : Zr (u2 F 27 3 0) G ((27, 2) :: ((27, 1) :: ((27, 0) :: L))) 31 := Zr_F z6 (by omega)
  have z8 : Zr (u2 (u2 F 27 3 0) 27 4 1) G ((27, 2) :: ((27, 1) :: ((27, 0) :: L))) 31 := Zr_F z7 (by omega)
  unfold fX4_init
  rw [m_chk (k := 27) (by omega) (show kd 27 = (4, 4) from rfl)]
  rw [nm_q]
  rw [mk_1]
  rw [nm_q]
  rw [al_I (b := b) (len := 8) z0 rfl]
  rw [ob (pRf (b := b) (F := F) (G := G) (L := L) (c := 29) (k := 27) (ci := 4) (j := 0) (t := 28) (by omega) rfl rfl rfl)]
  rw [nm_q]
  rw [mk_1]
  rw [nm_q]
  rw [al_I (b := b) (len := 256) z2 rfl]
  rw [ob (pRf (b := b) (F := F) (G := G) (L := ((27, 0) :: L)) (c := 30) (k := 27) (ci := 4) (j := 1) (t := 29) (by omega) rfl rfl rfl)]
  rw [nm_q]
  rw [mk_1]
  rw [nm_q]
  rw [al_I (b := b) (len := 256) z4 rfl]
  rw [ob (pRf (b := b) (F := F) (G := G) (L := ((27, 1) :: ((27, 0) :: L))) (c := 31) (k := 27) (ci := 4) (j := 2) (t := 30) (by omega) rfl rfl rfl)]
  rw [ob (m_pfI (k := 27) (by omega) (show kd 27 = (4, 4) from rfl) rfl)]
  rw [ob (m_pfI (k := 27) (by omega) (show kd 27 = (4, 4) from rfl) rfl)]
theorem i_X6 (hN : 2000 ≤ N) (z0 : Zr F G L 32) : fX6_init N (mk b F G (hL b L) 32) (some (b + 31)) = some (mk b (u2 (u2 (u2 (u2 (u2 (u2 (u2 F 31 0 511) 31 1 511) 31 2 0) 31 3 0) 31 4 0) 31 5 0) 31 6 0) G (hL b L) 32) := by
  have z1 : Zr (u2 F 31 0 511) G L 32 := Zr_F z0 (by omega)
  have z2 : Zr (u2 (u2 F 31 0 511) 31 1 511) G L 32 := Zr_F z1 (by omega)
  have z3 : Zr (u2 (u2 (u2 F 31 0 511) 31 1 511) 31 2 0) G L 32 := Zr_F z2 (by omega)
  have z4 : Zr (u2 (u2 (u2 (u2 F 31 0 511) 31 1 511) 31 2 0) 31 3 0) G L 32 := Zr_F z3 (by omega)
  have z5 : Zr (u2 (u2 (u2 (u2 (u2 F 31 0 511) 31 1 511) 31 2 0) 31 3 0) 31 4 0) G L 32 := Zr_F z4 (by omega)
  have z6 : Zr (u2 (u2 (u2 (u2 (u2 (u2 F 31 0 511) 31 1 511) 31 2 0) 31 3 0) 31 4 0) 31 5 0) G L 32 := Zr_F z5 (by omega)
  have z7 : Zr (u2 (u2 (u2 (u2 (u2 (u2 (u2 F 31 0 511) 31 1 511) 31 2 0) 31 3 0) 31 4 0) 31 5 0) 31 6 0) G L 32 := Zr_F z6 (by omega)
  unfold fX6_init
  rw [m_chk (k := 31) (by omega) (show kd 31 = (4, 6) from rfl)]
  rw [ob (m_pfI (k := 31) (by omega) (show kd 31 = (4, 6) from rfl) rfl)]
  rw [ob (m_pfI (k := 31) (by omega) (show kd 31 = (4, 6) from rfl) rfl)]
  rw [ob (m_pfI (k := 31) (by omega) (show kd 31 = (4, 6) from rfl) rfl)]
  rw [ob (m_pfI (k := 31) (by omega) (show kd 31 = (4, 6) from rfl) rfl)]
  rw [ob (m_pfI (k := 31) (by omega) (show kd 31 = (4, 6) from rfl) rfl)]
  rw [ob (m_pfI (k := 31) (by omega) (show kd 31 = (4, 6) from rfl) rfl)]
  rw [ob (m_pfI (k := 31) (by omega) (show kd 31 = (4, 6) from rfl) rfl)]
theorem i_X3 (hN : 2000 ≤ N) (z0 : Zr F G L 2) : ∃ F', fX3_init N b (mk b F G (hL b L) 2) (some (b + 1)) = some (mk b F' G (hL b ((1, 3) :: ((1, 2) :: ((1, 1) :: ((1, 0) :: L))))) 6) ∧ Zr F' G ((1, 3) :: ((1, 2) :: ((1, 1) :: ((1, 0) :: L)))) 6 ∧ (∀ k j, ¬ (k = 2 ∨ k = 3) → F' k j = u2 F 1 4 15 k j) ∧ ∀ j, 1 ≤ j → j < 9 → F' 2 j = nI (10 * j) ∧ F' 3 j = 1 := by
  have z1 : Zr F G L 3 := Zr_s z0
  have z2 : Zr F G ((1, 0) :: L) 3 := Zr_L z1 (by omega)
  have z3 : Zr F G ((1, 0) :: L) 4 := Zr_s z2
  have z4 : Zr F G ((1, 1) :: ((1, 0) :: L)) 4 := Zr_L z3 (by omega)
  have z5 : Zr F G ((1, 1) :: ((1, 0) :: L)) 5 := Zr_s z4
  have z6 : Zr F G ((1, 2) :: ((1, 1) :: ((1, 0) :: L))) 5 := Zr_L z5 (by omega)
  have z7 : Zr F G ((1, 2) :: ((1, 1) :: ((1, 0) :: L))) 6 := Zr_s z6
  have z8 : Zr F G ((1, 3) :: ((1, 2) :: ((1, 1) :: ((1, 0) :: L)))) 6 := Zr_L z7 (by omega)
  have z9 : Zr (u2 F 1 4 15) G ((1, 3) :: ((1, 2) :: ((1, 1) :: ((1, 0) :: L)))) 6 := Zr_F z8 (by omega)
  obtain ⟨F', e1, e2, e3⟩ := e_i44 (N := N) (b := b) (G := G) (L := ((1, 3) :: ((1, 2) :: ((1, 1) :: ((1, 0) :: L))))) (c := 6) (by omega) (by simp) (by simp) N 1 (u2 F 1 4 15) (by omega) (by omega)
  refine ⟨F', ?_, ⟨fun k j hk => by rw [e2 k j (by omega)]; exact z9.1 k j hk, z9.2.1, z9.2.2⟩, fun k j hk => e2 k j (fun z => hk z.1), e3⟩
  unfold fX3_init
  rw [m_chk (k := 1) (by omega) (show kd 1 = (4, 3) from rfl)]
  rw [nm_q]
  rw [mk_1]
  rw [nm_q]
  rw [al_I (b := b) (len := 9) z0 rfl]
  rw [ob (pRf (b := b) (F := F) (G := G) (L := L) (c := 3) (k := 1) (ci := 3) (j := 0) (t := 2) (by omega) rfl rfl rfl)]
  rw [nm_q]
  rw [mk_1]
  rw [nm_q]
  rw [al_I (b := b) (len := 9) z2 rfl]
  rw [ob (pRf (b := b) (F := F) (G := G) (L := ((1, 0) :: L)) (c := 4) (k := 1) (ci := 3) (j := 1) (t := 3) (by omega) rfl rfl rfl)]
  rw [nm_q]
  rw [mk_1]
  rw [nm_q]
  rw [al_J (b := b) (len := 9) z4 rfl]
  rw [ob (pRf (b := b) (F := F) (G := G) (L := ((1, 1) :: ((1, 0) :: L))) (c := 5) (k := 1) (ci := 3) (j := 2) (t := 4) (by omega) rfl rfl rfl)]
  rw [nm_q]
  rw [mk_1]
  rw [nm_q]
  rw [al_J (b := b) (len := 9) z6 rfl]
  rw [ob (pRf (b := b) (F := F) (G := G) (L := ((1, 2) :: ((1, 1) :: ((1, 0) :: L)))) (c := 6) (k := 1) (ci := 3) (j := 3) (t := 5) (by omega) rfl rfl rfl)]
  rw [ob (m_pfI (k := 1) (by omega) (show kd 1 = (4, 3) from rfl) rfl)]
  rw [show nI 1 = (1 : Int32) from rfl] at e1
  rw [e1]
  rfl
end IN
