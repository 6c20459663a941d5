/-! ===== 476: the reference's search ===== -/
def sg (d : Nat) : Nat := if d = 0 then 1 else if d = 1 then 0 else if d = 2 then 3 else 2
theorem sg_lt {d : Nat} (h : d < 4) : sg d < 4 := by
  unfold sg
  split <;> (try split) <;> (try split) <;> omega
theorem sg_sg {d : Nat} (h : d < 4) : sg (sg d) = d := by
  have q : ∀ d : Fin 4, sg (sg d.1) = d.1 := by decide
  exact q ⟨d, h⟩
theorem ix8' (x y : Nat) : (8 : Int32) * nI y + nI x = nI (8 * y + x) := by
  rw [show (8 : Int32) = nI 8 from rfl, pk_mul, nI_add]
theorem m9n6 (j : Nat) (h : j < 64) : ¬ nI j = -9 := m9ne j (by omega)
section B9
variable {b : Nat} {G : mJ} {n : Nat} {sw : Bool} {N : Nat} {i p : Nat}
theorem e_bes {F : mI} {u d : Nat} (hi : i < 16) (h : CK F i p) (hu : inPc p u) (hd : d < 4) : fX9_beside N (M b F G n sw) (some (b + 32)) (nI i) (nI u) (nI d) = some (enc (-9) (nbC F i p u (sg d))) := by
  have hu6 := hu.1
  have hux := hu.2.1
  have huy := hu.2.2
  have hp8 := h.1
  have h3 : nI u - nI u / (8 : Int32) * (8 : Int32) = nI (u % 8) := pk_rem (d := 8) (by omega) (by decide) (by decide)
  have h2 : nI u / (8 : Int32) = nI (u / 8) := pk_div (d := 8) (by omega) (by decide) (by decide)
  have eu : 8 * (u / 8) + u % 8 = u := by omega
  have hin : ∀ X : Int32, (0 ≤ X ∧ X ≤ nI p - 1) ↔ rg p X := fun X => rg_le (by omega)
  have hbi : ∀ X : Int32, bI (0 ≤ X ∧ X ≤ nI p - 1) = bI (rg p X) := fun X => bI_c (hin X)
  have tin : ∀ x' y', x' < p → y' < p → bI (rg p (nI x')) = 1 ∧ bI (rg p (nI y')) = 1 := fun x' y' q1 q2 => ⟨bI_t (rg_in (by omega) q1), bI_t (rg_in (by omega) q2)⟩
  obtain ⟨-, -, g1, g8⟩ := CK_g h hux huy
  have ea := e_at9N (N := N) (b := b) (G := G) (n := n) (sw := sw) hi h hux huy
  rw [eu] at g1 g8 ea
  have fin : ∀ x' y', x' < p → y' < p → ∃ q : Int32, (fX9_at N (M b F G n sw) (some (b + 32)) (nI i) (nI x') (nI y')) = some q ∧ fX9_doCrack N (M b F G n sw) (some (b + 32)) (nI (glN F i u)) q = some (bI (crN F (glN F i u) (glN F i (8 * y' + x')) = true)) := by
    intro x' y' q1 q2
    obtain ⟨-, -, d1, d8⟩ := CK_g h q1 q2
    exact ⟨_, e_at9N hi h q1 q2, e_crk9 h g1 g8 d1 d8⟩
  have el : ldI (M b F G n sw) 0 (some (b + 35)) (nI i) = some (nI p) := (L_35 hi).trans (congrArg some h.2.2.1)
  have ei : ∀ X : Int32, fX9_in N (M b F G n sw) X 0 (nI p - 1) = some (bI (rg p X)) := fun X => (e_in N _ X 0 _).trans (congrArg some (hbi X))
  unfold fX9_beside
  rw [K_32, h3, h2]
  unfold nbC nbQ
  rcases (show d = 0 ∨ d = 1 ∨ d = 2 ∨ d = 3 by omega) with rfl | rfl | rfl | rfl
  · rw [show sg 0 = 1 from rfl, if_neg (by omega), if_pos rfl]
    rw [nm_q, if_neg (show ¬ ¬ nI 0 = (0 : Int32) from fun z => z rfl)]
    dsimp only
    rw [nm_q, nm_q, if_pos (show ¬ nI 0 = (2 : Int32) by decide), if_pos (show ¬ nI 0 = (3 : Int32) by decide)]
    dsimp only
    rw [nm_q, nI_1, Int32.add_zero]
    by_cases z : u % 8 + 1 < p
    · obtain ⟨t1, t2⟩ := tin (u % 8 + 1) (u / 8) z huy
      obtain ⟨q, f1, f2⟩ := fin (u % 8 + 1) (u / 8) z huy
      rw [if_pos z, ob R_32_3, ob el, ob (ei _), t1, nm_q, nm_q, if_neg z10, ob R_32_3, ob el, ob (ei _), t2, if_neg z10]
      dsimp only
      rw [if_neg z10, ob ea, ob f1, ob f2, ix8', show 8 * (u / 8) + (u % 8 + 1) = u + 1 by omega]
      by_cases w : crN F (glN F i u) (glN F i (u + 1)) = true
      · rw [bI_t w, if_neg z10]
        show _ = some (enc (-9) (if crN F (glN F i u) (glN F i (u + 1)) = true then some (u + 1) else none))
        rw [if_pos w]; rfl
      · rw [bI_f w, if_pos rfl]
        show _ = some (enc (-9) (if crN F (glN F i u) (glN F i (u + 1)) = true then some (u + 1) else none))
        rw [if_neg w]; rfl
    · rw [if_neg z, show u % 8 + 1 = p by omega, ob R_32_3, ob el, ob (ei _), bI_f (nrg (by omega)), nm_q, nm_q, if_pos rfl]
      dsimp only
      rw [if_pos rfl]
      rfl
  · rw [show sg 1 = 0 from rfl, if_pos rfl]
    rw [nm_q, if_pos (show ¬ nI 1 = (0 : Int32) by decide), if_neg (show ¬ ¬ nI 1 = (1 : Int32) from fun z => z rfl)]
    dsimp only
    rw [nm_q, nm_q, if_pos (show ¬ nI 1 = (2 : Int32) by decide), if_pos (show ¬ nI 1 = (3 : Int32) by decide)]
    dsimp only
    rw [nm_q, Int32.add_zero, ← Int32.sub_eq_add_neg]
    by_cases z : 1 ≤ u % 8
    · obtain ⟨t1, t2⟩ := tin (u % 8 - 1) (u / 8) (by omega) huy
      obtain ⟨q, f1, f2⟩ := fin (u % 8 - 1) (u / 8) (by omega) huy
      rw [show nI (u % 8) - 1 = nI (u % 8 - 1) from pk_sub (b := 1) z, if_pos z, ob R_32_3, ob el, ob (ei _), t1, nm_q, nm_q, if_neg z10, ob R_32_3, ob el, ob (ei _), t2, if_neg z10]
      dsimp only
      rw [if_neg z10, ob ea, ob f1, ob f2, ix8', show 8 * (u / 8) + (u % 8 - 1) = u - 1 by omega]
      by_cases w : crN F (glN F i u) (glN F i (u - 1)) = true
      · rw [bI_t w, if_neg z10]
        show _ = some (enc (-9) (if crN F (glN F i u) (glN F i (u - 1)) = true then some (u - 1) else none))
        rw [if_pos w]; rfl
      · rw [bI_f w, if_pos rfl]
        show _ = some (enc (-9) (if crN F (glN F i u) (glN F i (u - 1)) = true then some (u - 1) else none))
        rw [if_neg w]; rfl
    · rw [if_neg z, show u % 8 = 0 by omega, ob R_32_3, ob el, ob (ei _), bI_f (show ¬ rg p (nI 0 - 1) from rgm1 p), nm_q, nm_q, if_pos rfl]
      dsimp only
      rw [if_pos rfl]
      rfl
  · rw [show sg 2 = 3 from rfl, if_neg (by omega), if_neg (by omega), if_neg (by omega)]
    rw [nm_q, if_pos (show ¬ nI 2 = (0 : Int32) by decide), if_pos (show ¬ nI 2 = (1 : Int32) by decide)]
    dsimp only
    rw [nm_q, nm_q, if_neg (show ¬ ¬ nI 2 = (2 : Int32) from fun z => z rfl)]
    dsimp only
    rw [nm_q, nI_1, Int32.add_zero]
    by_cases z : u / 8 + 1 < p
    · obtain ⟨t1, t2⟩ := tin (u % 8) (u / 8 + 1) hux z
      obtain ⟨q, f1, f2⟩ := fin (u % 8) (u / 8 + 1) hux z
      rw [if_pos z, ob R_32_3, ob el, ob (ei _), t1, nm_q, nm_q, if_neg z10, ob R_32_3, ob el, ob (ei _), t2, if_neg z10]
      dsimp only
      rw [if_neg z10, ob ea, ob f1, ob f2, ix8', show 8 * (u / 8 + 1) + (u % 8) = u + 8 by omega]
      by_cases w : crN F (glN F i u) (glN F i (u + 8)) = true
      · rw [bI_t w, if_neg z10]
        show _ = some (enc (-9) (if crN F (glN F i u) (glN F i (u + 8)) = true then some (u + 8) else none))
        rw [if_pos w]; rfl
      · rw [bI_f w, if_pos rfl]
        show _ = some (enc (-9) (if crN F (glN F i u) (glN F i (u + 8)) = true then some (u + 8) else none))
        rw [if_neg w]; rfl
    · obtain ⟨t1, -⟩ := tin _ _ hux hux
      rw [if_neg z, show u / 8 + 1 = p by omega, ob R_32_3, ob el, ob (ei _), t1, nm_q, nm_q, if_neg z10, ob R_32_3, ob el, ob (ei _), bI_f (nrg (by omega)), if_pos rfl]
      dsimp only
      rw [if_pos rfl]
      rfl
  · rw [show sg 3 = 2 from rfl, if_neg (by omega), if_neg (by omega), if_pos rfl]
    rw [nm_q, if_pos (show ¬ nI 3 = (0 : Int32) by decide), if_pos (show ¬ nI 3 = (1 : Int32) by decide)]
    dsimp only
    rw [nm_q, nm_q, if_pos (show ¬ nI 3 = (2 : Int32) by decide), if_neg (show ¬ ¬ nI 3 = (3 : Int32) from fun z => z rfl)]
    dsimp only
    rw [nm_q, Int32.add_zero, ← Int32.sub_eq_add_neg]
    by_cases z : 1 ≤ u / 8
    · obtain ⟨t1, t2⟩ := tin (u % 8) (u / 8 - 1) hux (by omega)
      obtain ⟨q, f1, f2⟩ := fin (u % 8) (u / 8 - 1) hux (by omega)
      rw [show nI (u / 8) - 1 = nI (u / 8 - 1) from pk_sub (b := 1) z, if_pos z, ob R_32_3, ob el, ob (ei _), t1, nm_q, nm_q, if_neg z10, ob R_32_3, ob el, ob (ei _), t2, if_neg z10]
      dsimp only
      rw [if_neg z10, ob ea, ob f1, ob f2, ix8', show 8 * (u / 8 - 1) + (u % 8) = u - 8 by omega]
      by_cases w : crN F (glN F i u) (glN F i (u - 8)) = true
      · rw [bI_t w, if_neg z10]
        show _ = some (enc (-9) (if crN F (glN F i u) (glN F i (u - 8)) = true then some (u - 8) else none))
        rw [if_pos w]; rfl
      · rw [bI_f w, if_pos rfl]
        show _ = some (enc (-9) (if crN F (glN F i u) (glN F i (u - 8)) = true then some (u - 8) else none))
        rw [if_neg w]; rfl
    · obtain ⟨t1, -⟩ := tin _ _ hux hux
      rw [if_neg z, show u / 8 = 0 by omega, ob R_32_3, ob el, ob (ei _), t1, nm_q, nm_q, if_neg z10, ob R_32_3, ob el, ob (ei _), bI_f (show ¬ rg p (nI 0 - 1) from rgm1 p), if_pos rfl]
      dsimp only
      rw [if_pos rfl]
      rfl
theorem e_flip9 {Ed : Nat → Nat → Prop} {ev inP : Nat → Prop} {mt cb : Nat → Option Nat} {v : Nat} {rk : Nat → Nat} (hE : EdOk Ed ev inP) (hV : Vm Ed ev mt) (hev : ev v) (hv6 : v < 64) (hRd : Rd Ed mt v cb rk) : ∀ (m w : Nat) (cur : Nat → Option Nat) (F : mI), FI Ed ev mt v cb rk w cur → (∀ j, j < 64 → F 48 j = enc (-9) (cur j)) → (∀ j, j < 64 → F 49 j = enc (-9) (cb j)) → cb w ≠ none → rk w + 1 < m → ∃ F' cur', (lX9_grows_114 N (some (b + 32)) (nI v) m (nI w) (M b F G n sw) = some (M b F' G n sw)) ∧ (∀ k j, k ≠ 48 → F' k j = F k j) ∧ (∀ j, j < 64 → F' 48 j = enc (-9) (cur' j)) ∧ Vm Ed ev cur' ∧ ∀ z, Sm ev cur' z ↔ (Sm ev mt z ∨ z = v) := by
  intro m
  induction m with
  | zero => intro w cur F _ _ _ _ h; omega
  | succ m ih =>
    intro w cur F hF h11 h12 hc hm
    cases hcw : cb w with
    | none => exact absurd hcw hc
    | some u =>
      have hEd := (hRd w u hcw).1
      have hw := hE _ _ hEd
      have huw : u ≠ w := fun e => hw.2.2.2.1 (e ▸ hw.1)
      have f12 : F 49 w = nI u := by rw [h12 w hw.2.2.2.2, hcw]; rfl
      rw [lX9_grows_114, if_neg (m9n6 w hw.2.2.2.2), R_32_25]
      simp only [Option.bind_some]
      rw [L_49 hw.2.2.2.2, f12]
      simp only [Option.bind_some]
      rw [R_32_24]
      simp only [Option.bind_some]
      rw [L_48 hw.2.2.1, h11 u hw.2.2.1]
      simp only [Option.bind_some]
      rw [T_48 hw.2.2.1]
      simp only [Option.bind_some, R_32_24]
      rw [T_48 hw.2.2.2.2]
      simp only [Option.bind_some, nm]
      have rep := (fl2_rep h11 huw).2
      by_cases huv : u = v
      · subst huv
        rw [if_neg (fun z => z rfl)]
        obtain ⟨q1, q2⟩ := FI_end hE hF hEd
        refine ⟨u2 (u2 F 48 u (nI w)) 48 w (nI u), fl2 cur w u, ?_, fun k j hk => by rw [u2_ne _ _ _ _ (fun z => hk z.1), u2_ne _ _ _ _ (fun z => hk z.1)], rep, q1, q2⟩
        obtain ⟨m', rfl⟩ : ∃ m', m = m' + 1 := ⟨m - 1, by omega⟩
        rw [lX9_grows_114, if_pos rfl]
      · obtain ⟨w', a1, a2, a3, a4⟩ := FI_s hev hV hE hRd hF hcw huv
        rw [if_pos (fun z => huv ((nI_eq (by omega) (by omega)).mp z)), a1]
        obtain ⟨F', cur', q1, q2, q3, q4, q5⟩ := ih w' (fl2 cur w u) (u2 (u2 F 48 u (nI w)) 48 w (nI u)) a4 rep (fun j hj => by rw [u2_ne _ _ _ _ (by omega), u2_ne _ _ _ _ (by omega)]; exact h12 j hj) a2 (by omega)
        exact ⟨F', cur', q1, fun k j hk => by rw [q2 k j hk, u2_ne _ _ _ _ (fun z => hk z.1), u2_ne _ _ _ _ (fun z => hk z.1)], q3, q4, q5⟩
theorem e_d9 {F0 : mI} {mt : Nat → Option Nat} {v k : Nat} (hi : i < 16) (hK : CK F0 i p) (hV : Vm (EdC F0 i p) evC mt) (hvn : mt v = none) (hN : 300 ≤ N) : ∀ (m d en : Nat) (cb : Nat → Option Nat) (ln rk : Nat → Nat) (F : mI), d ≤ 4 → 4 - d < m → k < en → BI (EdC F0 i p) evC (inPc p) mt v cb ln en rk → Rp 48 49 50 (-9) F mt cb ln en → Fr3 48 49 50 F0 F → (∀ k', k' < k → ∀ w, EdC F0 i p (ln k') w → cb w ≠ none) → (∀ d', d' < d → ∀ w, nbC F0 i p (ln k) (sg d') = some w → cb w ≠ none) →
    (∃ en' cb' ln' rk' F', lX9_grows_43 N (some (b + 32)) (nI i) (nI v) (nI k) m (nI en) (nI d) (M b F G n sw) = some (.inl (nI en', M b F' G n sw)) ∧ k < en' ∧ BI (EdC F0 i p) evC (inPc p) mt v cb' ln' en' rk' ∧ Rp 48 49 50 (-9) F' mt cb' ln' en' ∧ Fr3 48 49 50 F0 F' ∧ ∀ k', k' < k + 1 → ∀ w, EdC F0 i p (ln' k') w → cb' w ≠ none) ∨ (∃ F', lX9_grows_43 N (some (b + 32)) (nI i) (nI v) (nI k) m (nI en) (nI d) (M b F G n sw) = some (.inr (1, M b F' G n sw)) ∧ Fnd (EdC F0 i p) evC 48 49 50 (-9) F0 mt v F') := by
  have hE : EdOk (EdC F0 i p) evC (inPc p) := EdC_ok hK.1
  intro m
  induction m with
  | zero => intro d en cb ln rk F _ h; omega
  | succ m ih =>
    intro d en cb ln rk F hd hm hk hB hR hF hk' hd'
    obtain ⟨c1, c2⟩ := CK_c (F := F) (fun k j h => hF k j (by omega) (by omega) (by omega)) hK
    obtain ⟨b1, b2, b3, b4, b5⟩ := id hB
    obtain ⟨hu1, hu2, hu3⟩ := b5 k hk
    have hle := BI_le hE hB
    by_cases hd4 : d = 4
    · left
      refine ⟨en, cb, ln, rk, F, ?_, hk, hB, hR, hF, fun k' hk1 w hw => ?_⟩
      · rw [lX9_grows_43, if_pos (by rw [hd4]; decide)]
      · by_cases e : k' = k
        · subst e
          obtain ⟨-, -, d', q1, q2⟩ := hw
          exact hd' (sg d') (by have := sg_lt q1; omega) w (by rw [sg_sg q1]; exact q2)
        · exact hk' k' (by omega) w hw
    · have hsk : ∀ w, nbC F0 i p (ln k) (sg d) = some w → cb w ≠ none → ∀ d', d' < d + 1 → ∀ w, nbC F0 i p (ln k) (sg d') = some w → cb w ≠ none := by
        intro w0 h0 h1 d' q w hw
        by_cases e : d' = d
        · rw [e, h0] at hw
          rw [← Option.some.inj hw]
          exact h1
        · exact hd' d' (by omega) w hw
      have hsn : nbC F0 i p (ln k) (sg d) = none → ∀ d', d' < d + 1 → ∀ w, nbC F0 i p (ln k) (sg d') = some w → cb w ≠ none := by
        intro h0 d' q w hw
        by_cases e : d' = d
        · rw [e, h0] at hw
          exact (nsm hw).elim
        · exact hd' d' (by omega) w hw
      have f50 : F 50 k = nI (ln k) := hR.2.2 k hk
      rw [lX9_grows_43, if_neg (show ¬ (4 : Int32) ≤ nI d from nI_ge (b := 4) (by omega) (by decide)), R_32_26]
      simp only [Option.bind_some]
      rw [L_50 (show k < 64 by omega), f50]
      simp only [Option.bind_some]
      rw [e_bes hi c1 hu2 (by omega), c2]
      simp only [Option.bind_some]
      cases hnb : nbC F0 i p (ln k) (sg d) with
      | none =>
        rw [show enc (-9) (none : Option Nat) = -9 from rfl]
        simp only [nm, if_true, nI_1]
        exact ih (d + 1) en cb ln rk F (by omega) (by omega) hk hB hR hF hk' (hsn hnb)
      | some w =>
        have hEd : EdC F0 i p (ln k) w := ⟨hu2, hu1, sg d, sg_lt (by omega), hnb⟩
        have hw := hE _ _ hEd
        have hw6 : w < 64 := hw.2.2.2.2
        have hne := enc_ne (e := -9) (o := cb w) m9n6 (fun j hj => (hE _ _ (b3 w j hj).1).2.2.1)
        rw [show enc (-9) (some w) = nI w from rfl]
        simp only [nm, R_32_25, nI_1, Option.bind_some]
        rw [if_neg (m9n6 w hw6), L_49 hw6, hR.2.1 w hw6]
        simp only [Option.bind_some]
        by_cases hcw : cb w = none
        · rw [if_neg (fun z => z (hne.mpr hcw)), T_49 hw6]
          simp only [Option.bind_some, R_32_24, R_32_26]
          have f11 : u2 F 49 w (nI (ln k)) 48 w = enc (-9) (mt w) := by rw [u2_ne _ _ _ _ (by omega)]; exact hR.1 w hw6
          rw [L_48 hw6, f11]
          simp only [Option.bind_some]
          cases hmw : mt w with
          | none =>
            right
            rw [show enc (-9) (none : Option Nat) = -9 from rfl, if_neg (fun z => z rfl)]
            have hen := (BI_en hE hB hk hEd hcw).1
            have hRd := BI_l hB hk hEd hcw
            have h0 : FI (EdC F0 i p) evC mt v (upA cb w (some (ln k))) (upA rk w en) w mt := FI_0 hV hvn hmw (fun x hx => by
              cases hcx : upA cb w (some (ln k)) x with
              | none => exact absurd hcx hx
              | some q => exact (hE _ _ (hRd x q hcx).1).2.2.2.1)
            have hvv : evC v ∧ v < 64 := by
              have := b5 0 (by omega)
              rw [b1.1] at this
              exact ⟨this.1, this.2.2⟩
            obtain ⟨F', cur', q1, q2, q3, q4, q5⟩ := e_flip9 (N := N) (b := b) (G := G) (n := n) (sw := sw) hE hV hvv.1 hvv.2 hRd N w mt (u2 F 49 w (nI (ln k))) h0 (fun j hj => by rw [u2_ne _ _ _ _ (by omega)]; exact hR.1 j hj) (fun j hj => by
              by_cases e : j = w
              · subst e; rw [u2_eq, upA_eq]; rfl
              · rw [u2_ne _ _ _ _ (by omega), upA_ne _ _ e]; exact hR.2.1 j hj) (by rw [upA_eq]; exact smn) (by rw [upA_eq]; omega)
            refine ⟨F', ?_, ⟨fun k j h1 h2 h3 => ?_, cur', q3, q4, q5⟩⟩
            · rw [q1]
              rfl
            · rw [q2 k j h1, u2_ne _ _ _ _ (fun z => h2 z.1)]
              exact hF k j h1 h2 h3
          | some u' =>
            have hu' := hV.2 w u' hw.2.2.2.1 hmw
            have hu6 := (hE _ _ hu'.2).2.2.1
            have hen := BI_en hE hB hk hEd hcw
            rw [show enc (-9) (some u') = nI u' from rfl, if_pos (m9n6 u' hu6), T_50 hen.1]
            simp only [Option.bind_some, nI_1]
            have hB' := BI_v hV hE hB hk hEd hcw hmw
            have hln : ∀ k', k' < en → upA ln en u' k' = ln k' := fun k' h => upA_ne _ _ (by omega)
            have hcb : ∀ x, cb x ≠ none → upA cb w (some (ln k)) x ≠ none := fun x hx => by
              by_cases e : x = w
              · rw [e, upA_eq]; exact smn
              · rw [upA_ne _ _ e]; exact hx
            exact ih (d + 1) (en + 1) (upA cb w (some (ln k))) (upA ln en u') (upA rk w en) (u2 (u2 F 49 w (nI (ln k))) 50 en (nI u')) (by omega) (by omega) (by omega) hB' ⟨fun j hj => by rw [u2_ne _ _ _ _ (by omega), u2_ne _ _ _ _ (by omega)]; exact hR.1 j hj, fun j hj => by
              rw [u2_ne _ _ _ _ (by omega)]
              by_cases e : j = w
              · subst e; rw [u2_eq, upA_eq]; rfl
              · rw [u2_ne _ _ _ _ (by omega), upA_ne _ _ e]; exact hR.2.1 j hj, fun k' hk' => by
              by_cases e : k' = en
              · subst e; rw [u2_eq, upA_eq]
              · rw [u2_ne _ _ _ _ (by omega), u2_ne _ _ _ _ (by omega), upA_ne _ _ e]; exact hR.2.2 k' (by omega)⟩ (fun k j h1 h2 h3 => by rw [u2_ne _ _ _ _ (fun z => h3 z.1), u2_ne _ _ _ _ (fun z => h2 z.1)]; exact hF k j h1 h2 h3) (fun k' h1 x hx => by
              rw [hln k' (by omega)] at hx
              exact hcb x (hk' k' h1 x hx)) (fun d' h1 x hx => by
              rw [hln k hk] at hx
              by_cases e : d' = d
              · rw [e, hnb] at hx
                rw [← Option.some.inj hx, upA_eq]
                exact smn
              · exact hcb x (hd' d' (by omega) x hx))
        · rw [if_pos (fun z => hcw (hne.mp z))]
          exact ih (d + 1) en cb ln rk F (by omega) (by omega) hk hB hR hF hk' (hsk w hnb hcw)
theorem e_o9 {F0 : mI} {mt : Nat → Option Nat} {v : Nat} (hi : i < 16) (hK : CK F0 i p) (hV : Vm (EdC F0 i p) evC mt) (hvn : mt v = none) (hN : 300 ≤ N) : ∀ (m k en : Nat) (cb : Nat → Option Nat) (ln rk : Nat → Nat) (F : mI), k ≤ en → 64 - k < m → BI (EdC F0 i p) evC (inPc p) mt v cb ln en rk → Rp 48 49 50 (-9) F mt cb ln en → Fr3 48 49 50 F0 F → (∀ k', k' < k → ∀ w, EdC F0 i p (ln k') w → cb w ≠ none) →
    (∃ F', lX9_grows_34 N (some (b + 32)) (nI i) (nI v) m (nI en) (nI k) (M b F G n sw) = some (.inl (M b F' G n sw)) ∧ Fr3 48 49 50 F0 F' ∧ (∀ j, j < 64 → F' 48 j = enc (-9) (mt j)) ∧ ¬ Mb (EdC F0 i p) (fun u => Sm evC mt u ∨ u = v)) ∨ (∃ F', lX9_grows_34 N (some (b + 32)) (nI i) (nI v) m (nI en) (nI k) (M b F G n sw) = some (.inr (1, M b F' G n sw)) ∧ Fnd (EdC F0 i p) evC 48 49 50 (-9) F0 mt v F') := by
  have hE : EdOk (EdC F0 i p) evC (inPc p) := EdC_ok hK.1
  intro m
  induction m with
  | zero => intro k en cb ln rk F _ h; omega
  | succ m ih =>
    intro k en cb ln rk F hk hm hB hR hF hk'
    have hen := BI_le hE hB
    rw [lX9_grows_34]
    by_cases he : k = en
    · left
      subst he
      refine ⟨F, ?_, hF, hR.1, BI_no hV hE hvn hB hk'⟩
      rw [if_pos (nI_le (Nat.le_refl _) (by omega))]
    · rw [if_neg (nI_ge (by omega) (by omega))]
      rcases e_d9 (N := N) (b := b) (G := G) (n := n) (sw := sw) hi hK hV hvn hN N 0 en cb ln rk F (by omega) (by omega) (show k < en by omega) hB hR hF hk' (fun d' h => by omega) with ⟨en', cb', ln', rk', F', q1, q2, q3, q4, q5, q6⟩ | ⟨F', q1, q2⟩
      · rw [show nI 0 = (0 : Int32) from rfl] at q1
        rw [q1]
        simp only [bS2, Option.bind_some, nm, nI_1]
        exact ih (k + 1) en' cb' ln' rk' F' (by omega) (by omega) q3 q4 q5 q6
      · right
        rw [show nI 0 = (0 : Int32) from rfl] at q1
        rw [q1]
        exact ⟨F', rfl, q2⟩
theorem e_gr2 {x1 x2 : Int32} : ∀ (m j : Nat) (F : mI), j ≤ 64 → 64 - j < m → lX9_grows_2 N (some (b + 32)) x1 x2 m (nI j) (M b F G n sw) = some (M b (uR F 49 j 64 (-9)) G n sw) := by
  intro m
  induction m with
  | zero => intro j F h1 h2; omega
  | succ m ih =>
    intro j F h1 h2
    rw [lX9_grows_2]
    by_cases h : j = 64
    · subst h
      rw [if_pos (by decide), uR_0]
    · rw [if_neg (show ¬ (64 : Int32) ≤ nI j from nI_ge (b := 64) (by omega) (by decide)), R_32_25]
      simp only [Option.bind_some]
      rw [T_49 (show j < 64 by omega)]
      simp only [Option.bind_some, nm, nI_1]
      rw [ih (j + 1) _ (by omega) (by omega), uR_s _ _ _ _ _ (by omega)]
theorem e_lo2 {x1 : Int32} : ∀ (m j : Nat) (F : mI), j ≤ 64 → 64 - j < m → lX9_leastOut_2 N (some (b + 32)) x1 m (nI j) (M b F G n sw) = some (M b (uR F 48 j 64 (-9)) G n sw) := by
  intro m
  induction m with
  | zero => intro j F h1 h2; omega
  | succ m ih =>
    intro j F h1 h2
    rw [lX9_leastOut_2]
    by_cases h : j = 64
    · subst h
      rw [if_pos (by decide), uR_0]
    · rw [if_neg (show ¬ (64 : Int32) ≤ nI j from nI_ge (b := 64) (by omega) (by decide)), R_32_24]
      simp only [Option.bind_some]
      rw [T_48 (show j < 64 by omega)]
      simp only [Option.bind_some, nm, nI_1]
      rw [ih (j + 1) _ (by omega) (by omega), uR_s _ _ _ _ _ (by omega)]
theorem e_fp9 {F : mI} {mt : Nat → Option Nat} {v : Nat} (hi : i < 16) (hK : CK F i p) (hV : Vm (EdC F i p) evC mt) (hvn : mt v = none) (hv1 : evC v) (hv2 : inPc p v) (h11 : ∀ j, j < 64 → F 48 j = enc (-9) (mt j)) (hN : 2000 ≤ N) : ∃ r F' mt', fX9_grows N (M b F G n sw) (some (b + 32)) (nI i) (nI v) = some (r, M b F' G n sw) ∧ Fr3 48 49 50 F F' ∧ (∀ j, j < 64 → F' 48 j = enc (-9) (mt' j)) ∧ Vm (EdC F i p) evC mt' ∧ ((r = 1 ∧ Mb (EdC F i p) (fun u => Sm evC mt u ∨ u = v) ∧ ∀ z, Sm evC mt' z ↔ (Sm evC mt z ∨ z = v)) ∨ (r = 0 ∧ ¬ Mb (EdC F i p) (fun u => Sm evC mt u ∨ u = v) ∧ ∀ z, Sm evC mt' z ↔ Sm evC mt z)) := by
  have hB : BI (EdC F i p) evC (inPc p) mt v (fun _ => none) (fun _ => v) 1 (fun _ => 0) := BI_0 hv1 hv2 hv2.1
  have hFr : Fr3 48 49 50 F (u2 (uR F 49 0 64 (-9)) 50 0 (nI v)) := fun k j h1 h2 h3 => by
    rw [u2_ne _ _ _ _ (fun z => h3 z.1)]
    unfold uR
    rw [if_neg (fun z => h2 z.1)]
  have hRp : Rp 48 49 50 (-9) (u2 (uR F 49 0 64 (-9)) 50 0 (nI v)) mt (fun _ => none) (fun _ => v) 1 := by
    refine ⟨fun j hj => ?_, fun j hj => ?_, fun k hk => ?_⟩
    · rw [u2_ne _ _ _ _ (by omega)]
      unfold uR
      rw [if_neg (by omega)]
      exact h11 j hj
    · rw [u2_ne _ _ _ _ (by omega)]
      unfold uR
      rw [if_pos (by omega)]
      rfl
    · rw [show k = 0 by omega, u2_eq]
  have hst : ∀ F' : mI, stI (M b F' G n sw) (some (b + 50)) 0 (nI v) = some (M b (u2 F' 50 0 (nI v)) G n sw) := fun F' => T_50 (i := 0) (by omega)
  have hfi : lX9_grows_2 N (some (b + 32)) (nI i) (nI v) N 0 (M b F G n sw) = some (M b (uR F 49 0 64 (-9)) G n sw) := e_gr2 N 0 F (by omega) (by omega)
  unfold fX9_grows
  rw [K_32, hfi]
  simp only [Option.bind_some, R_32_26, hst]
  rcases e_o9 (N := N) (b := b) (G := G) (n := n) (sw := sw) hi hK hV hvn (by omega) N 0 1 (fun _ => none) (fun _ => v) (fun _ => 0) _ (by omega) (by omega) hB hRp hFr (fun k' h => by omega) with ⟨F', q1, q2, q3, q4⟩ | ⟨F', q1, q2, mt', q3, q4, q5⟩
  · rw [show nI 1 = (1 : Int32) from rfl, show nI 0 = (0 : Int32) from rfl] at q1
    refine ⟨0, F', mt, by rw [q1]; rfl, q2, q3, hV, Or.inr ⟨rfl, q4, fun z => Iff.rfl⟩⟩
  · rw [show nI 1 = (1 : Int32) from rfl, show nI 0 = (0 : Int32) from rfl] at q1
    refine ⟨1, F', mt', by rw [q1]; rfl, q2, q3, q4, Or.inl ⟨rfl, Mb_e (Mb_of q4) q5, q5⟩⟩
end B9
