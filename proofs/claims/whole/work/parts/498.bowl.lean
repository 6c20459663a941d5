/-! ===== 498: bowl, the step ===== -/
theorem isSl_64 {F : mI} {n p : Nat} (hn : n ≤ 16) : cn (isSl F n p) (4 * n) = cn (isSl F n p) 64 := by
  have := cn_flat (P := isSl F n p) (a := 4 * n) (64 - 4 * n) (fun j h1 h2 => decide_eq_false (fun w => by have := w.1; omega))
  rw [show 4 * n + (64 - 4 * n) = 64 by omega] at this
  exact this.symm
theorem csN_le {F : mI} {n p k : Nat} (hC : CR F n) (hG : GlC F) (hp8 : p ≤ 8) (hS : isSl F n p k = true) : csN F p k ≤ 576 := by
  obtain ⟨s1, s2, s3⟩ := of_decide_eq_true hS
  obtain ⟨q, l, f, t, ⟨-, q8, -⟩, -, c2, -, -, -, -, -, -, c9⟩ := hC (k / 4) (by omega)
  have hq : q = p := (nI_eq (by omega) (by omega)).mp (c2.symm.trans s3)
  subst hq
  have hall : allG (F (58 + 3 * (k / 4))) q := fun x y hx hy => by
    obtain ⟨w1, w2⟩ := c9 x y hx hy
    rw [w1]; exact w2
  obtain ⟨c, c5, ec⟩ := csum_bd (h := F 3) (f := F (58 + 3 * (k / 4))) q8 hall (fun g g1 g8 => by
    obtain ⟨w1, w2⟩ := hG g g1 g8
    rw [w1]; exact w2)
  unfold csN
  rw [ec, nI_clamp (by omega)]
  exact c5
theorem bd_BA {fa ta ca : Nat → Nat} {ar s : Nat} (hA : ∀ a, a < ar → ca a ≤ 576) : ∀ m j, bdC (576 * m) (itB (BA omin none (fun (a : Nat) (v : Option Nat) => oadd (ca a) v) fa ta ar) m (ev1 (some 0) none s) j)
  | 0, j => by
    intro w hw
    have hw' : (if j = s then some 0 else none) = some w := hw
    by_cases e : j = s
    · rw [if_pos e] at hw'
      have := Option.some.inj hw'
      omega
    · rw [if_neg e] at hw'
      exact (nsm hw').elim
  | m + 1, j => by
    rw [show 576 * (m + 1) = 576 * m + 576 by omega]
    exact bd_bs ar (fun a ha => by
      by_cases z : ta a = j
      · rw [if_pos z]; exact bd_add (bd_BA hA m _) (hA a ha)
      · rw [if_neg z]; exact bd_no _)
theorem jW0 (f : Nat → Nat) : jW (bs (fun a c : Nat => a + c) 0 f 0) = 0 := rfl
theorem eW0 (f : Nat → Nat) : eW (bs (fun a c : Nat => a + c) 0 f 0) = 0 := rfl
theorem jC0 (f : Nat → Option Nat) : jC (bs omin none f 0) = -1 := rfl
theorem eC0 (f : Nat → Option Nat) : eC (bs omin none f 0) = 1000000000 := rfl
theorem jWe (v : Nat) : (jW v).toInt32 = eW v := lN_i _
theorem jWp (v : Nat) : 0 ≤ lg_cmp (jW v) 0 := by
  rw [lg_cmp_ge]
  have hm := Nat.mod_lt v (show 0 < 1000000007 by omega)
  exact (lN_le (a := 0) (by omega) (by omega)).mpr (Nat.zero_le _)
theorem jCf {S : pH} {T : Option Nat} (h : bdC 7000 T) : (if 0 ≤ lg_cmp (jC T) 0 then some ((jC T).toInt32, S) else some ((-9 : Int32), S)) = some (encO T, S) := by
  cases T with
  | none =>
    have hz : ¬ 0 ≤ lg_cmp (jC none) 0 := by decide
    rw [if_neg hz]
    rfl
  | some v =>
    have := h v rfl
    have hz : 0 ≤ lg_cmp (jC (some v)) 0 := by
      rw [lg_cmp_ge]
      exact (lN_le (a := 0) (by omega) (by omega)).mpr (Nat.zero_le _)
    rw [if_pos hz]
    exact congrArg (fun z => some (z, S)) (lN_i v)
theorem b2_e {α β ρ : Type} {q : Option (α × β)} {f : α → β → Option ρ} {a : α} {c : β} (h : q = some (a, c)) : b2 q f = f a c := by
  subst h
  rfl
theorem r_bowl0 {N : Nat} {S S1 S2 : pH} {r0 : Option Nat} {x1 x2 : Int32} {j : Int64} (hk : ∀ z : Option (Int32 × pH), chk S 9 r0 z = z) (e1 : fX9_in N S x1 2 12 = some 1) (e2 : fX9_in N S x2 1 8 = some 1) (e3 : fX9_in N S 0 0 1 = some 1) (e4 : fX9_findJoins N S r0 x2 = some S1) (e5 : lX9_bowl_65 N r0 x1 x2 0 N 0 0 S1 = some (j, S2)) : fX9_bowl N S r0 x1 x2 0 = if 0 ≤ lg_cmp j 0 then some (j.toInt32, S2) else some (-9, S2) := by
  unfold fX9_bowl
  rw [hk, ob e1, if_neg z10, ob e2, if_neg z10, ob e3, if_pos z10, ob e4, nm_q, if_pos z01]
  dsimp only
  rw [nm_q, if_pos rfl]
  dsimp only
  rw [b2_e e5]
theorem r_bowl1 {N : Nat} {S S1 S2 : pH} {r0 : Option Nat} {x1 x2 : Int32} {j : Int64} (hk : ∀ z : Option (Int32 × pH), chk S 9 r0 z = z) (e1 : fX9_in N S x1 2 12 = some 1) (e2 : fX9_in N S x2 1 8 = some 1) (e3 : fX9_in N S 1 0 1 = some 1) (e4 : fX9_findJoins N S r0 x2 = some S1) (e5 : lX9_bowl_65 N r0 x1 x2 1 N (-1) 0 S1 = some (j, S2)) : fX9_bowl N S r0 x1 x2 1 = if 0 ≤ lg_cmp j 0 then some (j.toInt32, S2) else some (-9, S2) := by
  unfold fX9_bowl
  rw [hk, ob e1, if_neg z10, ob e2, if_neg z10, ob e3, if_pos z10, ob e4, nm_q, if_neg (fun z => z rfl)]
  dsimp only
  rw [nm_q, if_neg z10]
  dsimp only
  rw [b2_e e5]
theorem c_bowl0 {N : Nat} {S S1 S2 S3 : pH} {r0 r7 : Option Nat} {x1 x2 v : Int32} (hk : ∀ z : Option (Int32 × pH), chk S 8 r0 z = z) (e1 : fX8_isWithin N S x1 2 12 = some 1) (e2 : fX8_isWithin N S x2 1 8 = some 1) (e3 : fX8_isWithin N S 0 0 1 = some 1) (e4 : gfR S 8 7 r0 = some r7) (e5 : fX0_forget N S r7 = some S1) (e6 : lX8_bowl_41 N r0 x1 x2 0 N 0 S1 = some S2) (e7 : gfR S2 8 7 r0 = some r7) (e8 : fX0_ways N S2 r7 x1 = some (v, S3)) : fX8_bowl N S r0 x1 x2 0 = some (v, S3) := by
  unfold fX8_bowl
  rw [hk, ob e1, if_neg z10, ob e2, if_neg z10, ob e3, if_pos z10, ob e4, ob e5, ob e6, if_neg (fun z => z rfl), ob e7, b2_e e8]
theorem c_bowl1 {N : Nat} {S S1 S2 S3 : pH} {r0 r7 : Option Nat} {x1 x2 v : Int32} (hk : ∀ z : Option (Int32 × pH), chk S 8 r0 z = z) (e1 : fX8_isWithin N S x1 2 12 = some 1) (e2 : fX8_isWithin N S x2 1 8 = some 1) (e3 : fX8_isWithin N S 1 0 1 = some 1) (e4 : gfR S 8 7 r0 = some r7) (e5 : fX0_forget N S r7 = some S1) (e6 : lX8_bowl_41 N r0 x1 x2 1 N 0 S1 = some S2) (e7 : gfR S2 8 7 r0 = some r7) (e8 : fX0_cheapest N S2 r7 x1 = some (v, S3)) : fX8_bowl N S r0 x1 x2 1 = some (v, S3) := by
  unfold fX8_bowl
  rw [hk, ob e1, if_neg z10, ob e2, if_neg z10, ob e3, if_pos z10, ob e4, ob e5, ob e6, if_pos z10, ob e7, b2_e e8]
theorem w_1 {N : Nat} {S : pH} {x lo hi : Int32} (h : lo ≤ x ∧ x ≤ hi) : fX8_isWithin N S x lo hi = some 1 := by rw [e_isWithin, bI_t h]
theorem i_1 {N : Nat} {S : pH} {x lo hi : Int32} (h : lo ≤ x ∧ x ≤ hi) : fX9_in N S x lo hi = some 1 := by rw [e_in, bI_t h]
section BW
variable {b : Nat} {G : mJ} {n : Nat} {sw : Bool} {N : Nat}
/-- what the class knows when the arrows are joined -/
theorem e_arr {F0 F1 : mI} {p : Nat} (hn : n ≤ 16) (hp8 : p ≤ 8) (hC : CR F0 n) (hG : GlC F0) (hS : SlM F0 F1 n p (4 * n)) (hN : 100 ≤ N) : ∃ F2 fa ta ca, fX0_joinArrows N (M b F1 G n sw) (some (b + 18)) = some (M b F2 G n sw) ∧ (∀ k j, k ≠ 22 → k ≠ 23 → k ≠ 24 → ¬ (k = 18 ∧ j = 7) → F2 k j = F1 k j) ∧ ArR F2 fa ta ca (cn (Q2 F1 (cn (isSl F0 n p) 64)) (cn (isSl F0 n p) 64)) ∧ F1 18 3 = nI (cn (isSl F0 n p) 64) ∧ (∀ k, k < 64 → isSl F0 n p k = true → F1 19 (cn (isSl F0 n p) k) = nI (fkN F0 p k)) ∧ (∀ k, k < 64 → isSl F0 n p k = true → F1 20 (cn (isSl F0 n p) k) = nI (lkN F0 p k)) ∧ (∀ s, s < cn (isSl F0 n p) 64 → Q2 F1 (cn (isSl F0 n p) 64) s = true → fa (cn (Q2 F1 (cn (isSl F0 n p) 64)) s) = frS F1 (cn (isSl F0 n p) 64) s ∧ ta (cn (Q2 F1 (cn (isSl F0 n p) 64)) s) = (toS F1 (cn (isSl F0 n p) 64) s).getD 0) ∧ (∀ k, k < 64 → isSl F0 n p k = true → Q2 F1 (cn (isSl F0 n p) 64) (cn (isSl F0 n p) k) = true → ca (cn (Q2 F1 (cn (isSl F0 n p) 64)) (cn (isSl F0 n p) k)) = csN F0 p k) := by
  obtain ⟨s1, s2, s3⟩ := hS
  have h64 : ∀ k, k < 64 → isSl F0 n p k = true → k < 4 * n := fun k _ h => (of_decide_eq_true h).1
  have hoff := cn_le (isSl F0 n p) 64
  have h3 : F1 18 3 = nI (cn (isSl F0 n p) 64) := by rw [s2, isSl_64 hn]
  have h19 : ∀ k, k < 64 → isSl F0 n p k = true → F1 19 (cn (isSl F0 n p) k) = nI (fkN F0 p k) := fun k hk h => (s3 k (h64 k hk h) h).1
  have h20 : ∀ k, k < 64 → isSl F0 n p k = true → F1 20 (cn (isSl F0 n p) k) = nI (lkN F0 p k) := fun k hk h => (s3 k (h64 k hk h) h).2.1
  have h21 : ∀ k, k < 64 → isSl F0 n p k = true → F1 21 (cn (isSl F0 n p) k) = nI (csN F0 p k) := fun k hk h => (s3 k (h64 k hk h) h).2.2
  obtain ⟨F2, e1, a1, a2, a3⟩ := e_join (N := N) (b := b) (G := G) (n := n) (sw := sw) h3 hoff hN
  have hq : ∀ s, s < cn (isSl F0 n p) 64 → Q2 F1 (cn (isSl F0 n p) 64) s = true → ∃ d, toS F1 (cn (isSl F0 n p) 64) s = some d ∧ d < cn (isSl F0 n p) 64 := fun s hs h => by
    obtain ⟨d, hd⟩ := Option.isSome_iff_exists.mp h
    exact ⟨d, hd, (lst_some hd).1⟩
  have c21 : ∀ s, s < cn (isSl F0 n p) 64 → ∃ c, c ≤ 576 ∧ F1 21 s = nI c := fun s hs => by
    obtain ⟨k, k1, k2, k3⟩ := cn_sur 64 hs
    rw [← k3]
    exact ⟨_, csN_le hC hG hp8 k2, h21 k k1 k2⟩
  refine ⟨F2, fun a => (F2 22 a).toNatClampNeg, fun a => (F2 23 a).toNatClampNeg, fun a => (F2 24 a).toNatClampNeg, e1, a1, ⟨Nat.le_trans (cn_le _ _) hoff, a2, fun a ha => ?_⟩, h3, h19, h20, fun s hs hq2 => ?_, fun k hk hkS hq2 => ?_⟩
  · obtain ⟨s, hs, hq2, rfl⟩ := cn_sur _ ha
    obtain ⟨w1, w2, w3⟩ := a3 s hs hq2
    obtain ⟨d, d1, d2⟩ := hq s hs hq2
    obtain ⟨c, c1, c2⟩ := c21 s hs
    have hfr := (frS_e (F := F1) hs).2
    have hd : (toS F1 (cn (isSl F0 n p) 64) s).getD 0 = d := by rw [d1]; rfl
    simp only [w1, w2, w3, c2, hd]
    rw [nI_clamp (by omega), nI_clamp (by omega), nI_clamp (by omega)]
    exact ⟨by omega, by omega, c1, rfl, rfl, rfl⟩
  · obtain ⟨w1, w2, w3⟩ := a3 s hs hq2
    obtain ⟨d, d1, d2⟩ := hq s hs hq2
    have hfr := (frS_e (F := F1) hs).2
    have hd : (toS F1 (cn (isSl F0 n p) 64) s).getD 0 = d := by rw [d1]; rfl
    show (F2 22 _).toNatClampNeg = _ ∧ (F2 23 _).toNatClampNeg = _
    rw [w1, w2, hd, nI_clamp (by omega), nI_clamp (by omega)]
    exact ⟨rfl, rfl⟩
  · obtain ⟨w1, w2, w3⟩ := a3 _ (cn_lt hk hkS) hq2
    show (F2 24 _).toNatClampNeg = _
    have := csN_le hC hG hp8 hkS
    rw [w3, h21 k hk hkS, nI_clamp (by omega)]
def TW (F : mI) (n p m : Nat) : Nat := bs (fun a c : Nat => a + c) 0 (fun f => if isSl F n p f = true then itB (Ast (fun a c : Nat => a + c) 0 (fun (_ : Nat) (v : Nat) => v) (jnB F n p)) m (ev1 1 0 f) f else 0) 64
def TC9 (F : mI) (n p m : Nat) : Option Nat := bs omin none (fun f => if isSl F n p f = true then itB (Ast omin none (fun (j : Nat) (v : Option Nat) => oadd (csN F p j) v) (jnB F n p)) m (ev1 (some 0) none f) f else none) 64
theorem jn_ok {F : mI} {n p : Nat} (hK : Kok F n p) : ∀ i j, i < 64 → j < 64 → (jnB F n p i j = true ↔ (isSl F n p i = true ∧ isSl F n p j = true ∧ toK F n p i = some (frK F n p j))) := fun i j hi hj => by
  rw [← jn_iff hK hi hj]
  exact ⟨fun z => of_decide_eq_true z, fun z => decide_eq_true z⟩
theorem to_ok {F : mI} {n p : Nat} : ∀ k c, k < 64 → isSl F n p k = true → toK F n p k = some c → c < 64 ∧ isSl F n p c = true ∧ frK F n p c = c := fun k c _ _ h => by
  obtain ⟨c1, c2, -, c4⟩ := toK_e h
  exact ⟨c1, c2, c4⟩
theorem e_waysB {F0 F1 : mI} {p m : Nat} (hn : n ≤ 16) (hp1 : 1 ≤ p) (hp8 : p ≤ 8) (hC : CR F0 n) (hG : GlC F0) (hS : SlM F0 F1 n p (4 * n)) (hm : m + 1 ≤ 12) (hN : 2000 ≤ N) : ∃ F' sw', fX0_ways N (M b F1 G n sw) (some (b + 18)) (nI (m + 1)) = some (eW (TW F0 n p (m + 1)), M b F' G n sw') ∧ ∀ k j, k ≠ 22 → k ≠ 23 → k ≠ 24 → k ≠ 25 → k ≠ 26 → ¬ (k = 18 ∧ j = 7) → F' k j = F1 k j := by
  have hK := Kok_o hn hp1 hp8 hC
  have hoff := cn_le (isSl F0 n p) 64
  obtain ⟨F2, fa, ta, ca, e1, f2, hA, h3, h19, h20, hfa, hca⟩ := e_arr (N := N) (b := b) (G := G) (sw := sw) hn hp8 hC hG hS (by omega)
  have g3 : F2 18 3 = nI (cn (isSl F0 n p) 64) := by rw [f2 _ _ (by omega) (by omega) (by omega) (by omega)]; exact h3
  have g19 : ∀ j, F2 19 j = F1 19 j := fun j => f2 _ _ (by omega) (by omega) (by omega) (by omega)
  have efr : ∀ s, frS F2 (cn (isSl F0 n p) 64) s = frS F1 (cn (isSl F0 n p) 64) s := fun s => by unfold frS; simp only [g19]
  obtain ⟨F', sw', e2, e3⟩ := e_lpW (N := N) (b := b) (G := G) (n := n) hA hm g3 hoff hN N 0 sw F2 (by omega) (by omega) (fun _ _ _ _ => rfl)
  simp only [efr] at e2
  rw [tot_k CM_W hK h19 h20 hfa (fun _ _ _ _ => rfl), wk_main CM_W (fun _ _ _ => rfl) (fun _ => rfl) (jn_ok hK) to_ok m] at e2
  refine ⟨F', sw', ?_, fun k j z1 z2 z3 z4 z5 z6 => by rw [e3 k j z4 z5, f2 k j z1 z2 z3 z6]⟩
  unfold fX0_ways
  rw [K_18, e1]
  simp only [Option.bind_some]
  rw [eW0, show nI 0 = (0 : Int32) from rfl] at e2
  unfold TW
  rw [e2]
  rfl
theorem e_cheap8 {F0 F1 : mI} {p m : Nat} (hn : n ≤ 16) (hp1 : 1 ≤ p) (hp8 : p ≤ 8) (hC : CR F0 n) (hG : GlC F0) (hS : SlM F0 F1 n p (4 * n)) (hm : m + 1 ≤ 12) (hN : 2000 ≤ N) : ∃ F' sw', fX0_cheapest N (M b F1 G n sw) (some (b + 18)) (nI (m + 1)) = some (encO (TC9 F0 n p (m + 1)), M b F' G n sw') ∧ bdC 7000 (TC9 F0 n p (m + 1)) ∧ ∀ k j, k ≠ 22 → k ≠ 23 → k ≠ 24 → k ≠ 25 → k ≠ 26 → ¬ (k = 18 ∧ j = 7) → F' k j = F1 k j := by
  have hK := Kok_o hn hp1 hp8 hC
  have hoff := cn_le (isSl F0 n p) 64
  obtain ⟨F2, fa, ta, ca, e1, f2, hA, h3, h19, h20, hfa, hca⟩ := e_arr (N := N) (b := b) (G := G) (sw := sw) hn hp8 hC hG hS (by omega)
  have g3 : F2 18 3 = nI (cn (isSl F0 n p) 64) := by rw [f2 _ _ (by omega) (by omega) (by omega) (by omega)]; exact h3
  have g19 : ∀ j, F2 19 j = F1 19 j := fun j => f2 _ _ (by omega) (by omega) (by omega) (by omega)
  have efr : ∀ s, frS F2 (cn (isSl F0 n p) 64) s = frS F1 (cn (isSl F0 n p) 64) s := fun s => by unfold frS; simp only [g19]
  have hbd : ∀ s, s < cn (isSl F0 n p) 64 → bdC 7000 (if frS F2 (cn (isSl F0 n p) 64) s = s then itB (BA omin none (fun (a : Nat) (v : Option Nat) => oadd (ca a) v) fa ta (cn (Q2 F1 (cn (isSl F0 n p) 64)) (cn (isSl F0 n p) 64))) (m + 1) (ev1 (some 0) none s) s else none) := fun s hs => by
    by_cases z : frS F2 (cn (isSl F0 n p) 64) s = s
    · rw [if_pos z]
      exact fun w hw => Nat.le_trans (bd_BA (fun a ha => (hA.2.2 a ha).2.2.1) (m + 1) s w hw) (by omega)
    · rw [if_neg z]; exact bd_no _
  have hbt := bd_bs (cn (isSl F0 n p) 64) hbd
  obtain ⟨F', sw', e2, e3⟩ := e_lpC (N := N) (b := b) (G := G) (n := n) hA hm g3 hoff hbd hN N 0 sw F2 (by omega) (by omega) (fun _ _ _ _ => rfl)
  simp only [efr] at e2 hbt
  have hwk := (tot_k (one := some 0) (aA := fun (a : Nat) (v : Option Nat) => oadd (ca a) v) (aK := fun (j : Nat) (v : Option Nat) => oadd (csN F0 p j) v) CM_C hK h19 h20 hfa (fun k hk hkS hq => by
    funext v
    show oadd (ca _) v = oadd (csN F0 p k) v
    rw [hca k hk hkS hq]) (m + 1)).trans (wk_main (one := some 0) (act := fun (j : Nat) (v : Option Nat) => oadd (csN F0 p j) v) CM_C (fun k a c => oadd_op _ a c) (fun _ => rfl) (jn_ok hK) to_ok m)
  rw [hwk] at e2 hbt
  refine ⟨F', sw', ?_, hbt, fun k j z1 z2 z3 z4 z5 z6 => by rw [e3 k j z4 z5, f2 k j z1 z2 z3 z6]⟩
  unfold fX0_cheapest
  rw [K_18, e1]
  simp only [Option.bind_some]
  rw [eC0, show nI 0 = (0 : Int32) from rfl] at e2
  unfold TC9
  rw [e2]
  simp only [b2, Option.bind_some]
  generalize bs omin none (fun f => if isSl F0 n p f = true then itB (Ast omin none (fun (j : Nat) (v : Option Nat) => oadd (csN F0 p j) v) (jnB F0 n p)) (m + 1) (ev1 (some 0) none f) f else none) 64 = T at hbt ⊢
  cases T with
  | none =>
    rw [if_pos (show (1000000000 : Int32) ≤ eC none from by decide)]
    rfl
  | some v =>
    have := hbt v rfl
    rw [if_neg (show ¬ (1000000000 : Int32) ≤ eC (some v) from nI_ge (b := 1000000000) (by omega) (by decide))]
    rfl
end BW
theorem st_bowl (b : Nat) : St_bowl b (b + 32) (Inv b (b + 32)) := by
  rintro S ⟨-, F, G, n, sw, rfl, hR⟩ a1 a2 a3
  obtain ⟨r1, r2, r3, r4, r5, r6, r7, r8, r9, r10, r11, r12, r13⟩ := id hR
  have bad : fX8_bowl NF (M b F G n sw) (some b) a1 a2 a3 = some (-1, M b F G n sw) → fX9_bowl NF (M b F G n sw) (some (b + 32)) a1 a2 a3 = some (-1, M b F G n sw) → ∃ (v : Int32) (S1 : pH) (S2 : pH), fX8_bowl NF (M b F G n sw) (some b) a1 a2 a3 = some (v, S1) ∧ fX9_bowl NF S1 (some (b + 32)) a1 a2 a3 = some (v, S2) ∧ Inv b (b + 32) S2 := fun z1 z2 => ⟨-1, _, _, z1, z2, rfl, F, G, n, sw, rfl, hR⟩
  by_cases h1 : (2 : Int32) ≤ a1 ∧ a1 ≤ 12
  rotate_left
  · apply bad
    · unfold fX8_bowl
      simp only [Option.bind_some, bI_0, Decidable.not_not, nm, b2, zr, e_isWithin, e_in, e_isGlass8, e_isGlass9, reduceIte, not_false_eq_true, not_true_eq_false, if_true, if_false, and_self, z01, z10, c00, c11, true_and, and_true, R_0_0, R_0_1, R_0_3, R_0_4, R_0_5, R_0_6, R_0_7, R_0_8, R_0_9, R_1_0, R_1_1, R_1_2, R_1_3, R_7_0, R_7_1, R_10_0, R_10_1, R_10_2, R_14_0, R_16_0, R_18_0, R_18_1, R_18_2, R_18_4, R_18_5, R_18_6, R_18_8, R_18_9, R_27_0, R_27_1, R_27_2, R_32_0, R_32_1, R_32_3, R_32_4, R_32_5, R_32_6, R_32_7, R_32_11, R_32_12, R_32_13, R_32_14, R_32_17, R_32_20, R_32_21, R_32_22, R_32_24, R_32_25, R_32_26, R_32_27, R_32_28, R_32_29, R_32_30, R_32_31, I_0_2, I_1_4, I_7_2, I_14_1, I_16_1, I_18_3, I_18_7, I_27_3, I_27_4, I_31_0, I_31_1, I_31_2, I_31_3, I_31_4, I_31_5, I_31_6, I_32_2, I_32_8, I_32_9, I_32_10, I_32_15, I_32_16, I_32_18, I_32_19, J_0_10, J_32_23, P_0_2, P_0_10, P_1_4, P_7_2, P_14_1, P_16_1, P_18_3, P_18_7, P_27_3, P_27_4, P_31_0, P_31_1, P_31_2, P_31_3, P_31_4, P_31_5, P_31_6, P_32_2, P_32_8, P_32_9, P_32_10, P_32_15, P_32_16, P_32_18, P_32_19, P_32_23, K_0, K_1, K_7, K_10, K_14, K_16, K_18, K_27, K_31, K_32, eq_false h1]
    · unfold fX9_bowl
      simp only [Option.bind_some, bI_0, Decidable.not_not, nm, b2, zr, e_isWithin, e_in, e_isGlass8, e_isGlass9, reduceIte, not_false_eq_true, not_true_eq_false, if_true, if_false, and_self, z01, z10, c00, c11, true_and, and_true, R_0_0, R_0_1, R_0_3, R_0_4, R_0_5, R_0_6, R_0_7, R_0_8, R_0_9, R_1_0, R_1_1, R_1_2, R_1_3, R_7_0, R_7_1, R_10_0, R_10_1, R_10_2, R_14_0, R_16_0, R_18_0, R_18_1, R_18_2, R_18_4, R_18_5, R_18_6, R_18_8, R_18_9, R_27_0, R_27_1, R_27_2, R_32_0, R_32_1, R_32_3, R_32_4, R_32_5, R_32_6, R_32_7, R_32_11, R_32_12, R_32_13, R_32_14, R_32_17, R_32_20, R_32_21, R_32_22, R_32_24, R_32_25, R_32_26, R_32_27, R_32_28, R_32_29, R_32_30, R_32_31, I_0_2, I_1_4, I_7_2, I_14_1, I_16_1, I_18_3, I_18_7, I_27_3, I_27_4, I_31_0, I_31_1, I_31_2, I_31_3, I_31_4, I_31_5, I_31_6, I_32_2, I_32_8, I_32_9, I_32_10, I_32_15, I_32_16, I_32_18, I_32_19, J_0_10, J_32_23, P_0_2, P_0_10, P_1_4, P_7_2, P_14_1, P_16_1, P_18_3, P_18_7, P_27_3, P_27_4, P_31_0, P_31_1, P_31_2, P_31_3, P_31_4, P_31_5, P_31_6, P_32_2, P_32_8, P_32_9, P_32_10, P_32_15, P_32_16, P_32_18, P_32_19, P_32_23, K_0, K_1, K_7, K_10, K_14, K_16, K_18, K_27, K_31, K_32, eq_false h1]
  by_cases h2 : (1 : Int32) ≤ a2 ∧ a2 ≤ 8
  rotate_left
  · apply bad
    · unfold fX8_bowl
      simp only [Option.bind_some, bI_0, Decidable.not_not, nm, b2, zr, e_isWithin, e_in, e_isGlass8, e_isGlass9, reduceIte, not_false_eq_true, not_true_eq_false, if_true, if_false, and_self, z01, z10, c00, c11, true_and, and_true, R_0_0, R_0_1, R_0_3, R_0_4, R_0_5, R_0_6, R_0_7, R_0_8, R_0_9, R_1_0, R_1_1, R_1_2, R_1_3, R_7_0, R_7_1, R_10_0, R_10_1, R_10_2, R_14_0, R_16_0, R_18_0, R_18_1, R_18_2, R_18_4, R_18_5, R_18_6, R_18_8, R_18_9, R_27_0, R_27_1, R_27_2, R_32_0, R_32_1, R_32_3, R_32_4, R_32_5, R_32_6, R_32_7, R_32_11, R_32_12, R_32_13, R_32_14, R_32_17, R_32_20, R_32_21, R_32_22, R_32_24, R_32_25, R_32_26, R_32_27, R_32_28, R_32_29, R_32_30, R_32_31, I_0_2, I_1_4, I_7_2, I_14_1, I_16_1, I_18_3, I_18_7, I_27_3, I_27_4, I_31_0, I_31_1, I_31_2, I_31_3, I_31_4, I_31_5, I_31_6, I_32_2, I_32_8, I_32_9, I_32_10, I_32_15, I_32_16, I_32_18, I_32_19, J_0_10, J_32_23, P_0_2, P_0_10, P_1_4, P_7_2, P_14_1, P_16_1, P_18_3, P_18_7, P_27_3, P_27_4, P_31_0, P_31_1, P_31_2, P_31_3, P_31_4, P_31_5, P_31_6, P_32_2, P_32_8, P_32_9, P_32_10, P_32_15, P_32_16, P_32_18, P_32_19, P_32_23, K_0, K_1, K_7, K_10, K_14, K_16, K_18, K_27, K_31, K_32, eq_true h1, eq_false h2]
    · unfold fX9_bowl
      simp only [Option.bind_some, bI_0, Decidable.not_not, nm, b2, zr, e_isWithin, e_in, e_isGlass8, e_isGlass9, reduceIte, not_false_eq_true, not_true_eq_false, if_true, if_false, and_self, z01, z10, c00, c11, true_and, and_true, R_0_0, R_0_1, R_0_3, R_0_4, R_0_5, R_0_6, R_0_7, R_0_8, R_0_9, R_1_0, R_1_1, R_1_2, R_1_3, R_7_0, R_7_1, R_10_0, R_10_1, R_10_2, R_14_0, R_16_0, R_18_0, R_18_1, R_18_2, R_18_4, R_18_5, R_18_6, R_18_8, R_18_9, R_27_0, R_27_1, R_27_2, R_32_0, R_32_1, R_32_3, R_32_4, R_32_5, R_32_6, R_32_7, R_32_11, R_32_12, R_32_13, R_32_14, R_32_17, R_32_20, R_32_21, R_32_22, R_32_24, R_32_25, R_32_26, R_32_27, R_32_28, R_32_29, R_32_30, R_32_31, I_0_2, I_1_4, I_7_2, I_14_1, I_16_1, I_18_3, I_18_7, I_27_3, I_27_4, I_31_0, I_31_1, I_31_2, I_31_3, I_31_4, I_31_5, I_31_6, I_32_2, I_32_8, I_32_9, I_32_10, I_32_15, I_32_16, I_32_18, I_32_19, J_0_10, J_32_23, P_0_2, P_0_10, P_1_4, P_7_2, P_14_1, P_16_1, P_18_3, P_18_7, P_27_3, P_27_4, P_31_0, P_31_1, P_31_2, P_31_3, P_31_4, P_31_5, P_31_6, P_32_2, P_32_8, P_32_9, P_32_10, P_32_15, P_32_16, P_32_18, P_32_19, P_32_23, K_0, K_1, K_7, K_10, K_14, K_16, K_18, K_27, K_31, K_32, eq_true h1, eq_false h2]
  by_cases h3 : (0 : Int32) ≤ a3 ∧ a3 ≤ 1
  rotate_left
  · apply bad
    · unfold fX8_bowl
      simp only [Option.bind_some, bI_0, Decidable.not_not, nm, b2, zr, e_isWithin, e_in, e_isGlass8, e_isGlass9, reduceIte, not_false_eq_true, not_true_eq_false, if_true, if_false, and_self, z01, z10, c00, c11, true_and, and_true, R_0_0, R_0_1, R_0_3, R_0_4, R_0_5, R_0_6, R_0_7, R_0_8, R_0_9, R_1_0, R_1_1, R_1_2, R_1_3, R_7_0, R_7_1, R_10_0, R_10_1, R_10_2, R_14_0, R_16_0, R_18_0, R_18_1, R_18_2, R_18_4, R_18_5, R_18_6, R_18_8, R_18_9, R_27_0, R_27_1, R_27_2, R_32_0, R_32_1, R_32_3, R_32_4, R_32_5, R_32_6, R_32_7, R_32_11, R_32_12, R_32_13, R_32_14, R_32_17, R_32_20, R_32_21, R_32_22, R_32_24, R_32_25, R_32_26, R_32_27, R_32_28, R_32_29, R_32_30, R_32_31, I_0_2, I_1_4, I_7_2, I_14_1, I_16_1, I_18_3, I_18_7, I_27_3, I_27_4, I_31_0, I_31_1, I_31_2, I_31_3, I_31_4, I_31_5, I_31_6, I_32_2, I_32_8, I_32_9, I_32_10, I_32_15, I_32_16, I_32_18, I_32_19, J_0_10, J_32_23, P_0_2, P_0_10, P_1_4, P_7_2, P_14_1, P_16_1, P_18_3, P_18_7, P_27_3, P_27_4, P_31_0, P_31_1, P_31_2, P_31_3, P_31_4, P_31_5, P_31_6, P_32_2, P_32_8, P_32_9, P_32_10, P_32_15, P_32_16, P_32_18, P_32_19, P_32_23, K_0, K_1, K_7, K_10, K_14, K_16, K_18, K_27, K_31, K_32, eq_true h1, eq_true h2, eq_false h3]
    · unfold fX9_bowl
      simp only [Option.bind_some, bI_0, Decidable.not_not, nm, b2, zr, e_isWithin, e_in, e_isGlass8, e_isGlass9, reduceIte, not_false_eq_true, not_true_eq_false, if_true, if_false, and_self, z01, z10, c00, c11, true_and, and_true, R_0_0, R_0_1, R_0_3, R_0_4, R_0_5, R_0_6, R_0_7, R_0_8, R_0_9, R_1_0, R_1_1, R_1_2, R_1_3, R_7_0, R_7_1, R_10_0, R_10_1, R_10_2, R_14_0, R_16_0, R_18_0, R_18_1, R_18_2, R_18_4, R_18_5, R_18_6, R_18_8, R_18_9, R_27_0, R_27_1, R_27_2, R_32_0, R_32_1, R_32_3, R_32_4, R_32_5, R_32_6, R_32_7, R_32_11, R_32_12, R_32_13, R_32_14, R_32_17, R_32_20, R_32_21, R_32_22, R_32_24, R_32_25, R_32_26, R_32_27, R_32_28, R_32_29, R_32_30, R_32_31, I_0_2, I_1_4, I_7_2, I_14_1, I_16_1, I_18_3, I_18_7, I_27_3, I_27_4, I_31_0, I_31_1, I_31_2, I_31_3, I_31_4, I_31_5, I_31_6, I_32_2, I_32_8, I_32_9, I_32_10, I_32_15, I_32_16, I_32_18, I_32_19, J_0_10, J_32_23, P_0_2, P_0_10, P_1_4, P_7_2, P_14_1, P_16_1, P_18_3, P_18_7, P_27_3, P_27_4, P_31_0, P_31_1, P_31_2, P_31_3, P_31_4, P_31_5, P_31_6, P_32_2, P_32_8, P_32_9, P_32_10, P_32_15, P_32_16, P_32_18, P_32_19, P_32_23, K_0, K_1, K_7, K_10, K_14, K_16, K_18, K_27, K_31, K_32, eq_true h1, eq_true h2, eq_false h3]
  obtain ⟨nn, n2, n12, rfl⟩ := rng 2 12 rfl rfl (by decide) (by decide) h1
  obtain ⟨p, p1, p8, rfl⟩ := rng 1 8 rfl rfl (by decide) (by decide) h2
  obtain ⟨m, rfl⟩ : ∃ m, nn = m + 1 := ⟨nn - 1, by omega⟩
  have hB : ∀ k j, k ≠ 18 → (u2 F 18 7 0) k j = F k j := fun k j hk => u2_ne _ _ _ _ (fun z => hk z.1)
  have hC : CR (u2 F 18 7 0) n := fun i hi => RCane_c (fun k j h => hB k j (by omega)) (r8 i hi)
  have hG : GlC (u2 F 18 7 0) := fun g g1 g8 => by
    rw [hB _ _ (by omega), hB _ _ (by omega)]
    exact ⟨(r5 g g1 g8).2.2.1, (r5 g g1 g8).2.2.2.1⟩
  have hK := Kok_o r1 p1 p8 hC
  have hS0 : SlM (u2 F 18 7 0) (u2 (u2 F 18 3 0) 18 7 0) n p (4 * 0) := by
    refine ⟨fun k j _ _ _ z4 => ?_, ?_, fun k hk => by omega⟩
    · by_cases e : k = 18 ∧ j = 7
      · rw [e.1, e.2, u2_eq, u2_eq]
      · rw [u2_ne _ _ _ _ e, u2_ne _ _ _ _ z4, u2_ne _ _ _ _ e]
    · rw [u2_ne _ _ _ _ (by omega), u2_eq]; rfl
  obtain ⟨F1, c1, c2⟩ := e_bowl41 (N := NF) (b := b) (G := G) (n := n) (sw := sw) (x1 := nI (m + 1)) (x3 := a3) r1 p1 p8 (by rw [hB _ _ (by omega)]; exact r2) hC hG (by decide) NF 0 (u2 (u2 F 18 3 0) 18 7 0) (by omega) (Nat.lt_of_le_of_lt (show n - 0 ≤ 16 by omega) (by decide)) hS0
  have hf : fX0_forget NF (M b F G n sw) (some (b + 18)) = some (M b (u2 (u2 F 18 3 0) 18 7 0) G n sw) := by
    unfold fX0_forget
    rw [K_18, P_18_3]
    simp only [Option.bind_some]
    rw [P_18_7]
    rfl
  rw [show nI 0 = (0 : Int32) from rfl] at c1
  have fr1 : ∀ k j, k ≠ 18 → k ≠ 19 → k ≠ 20 → k ≠ 21 → F1 k j = F k j := fun k j z0 z1 z2 z3 => by rw [c2.1 k j z1 z2 z3 (fun z => z0 z.1), hB k j z0]
  -- the reference, from any memory that the class leaves
  have ref : ∀ (F3 : mI) (sw' : Bool), (∀ k j, k ≠ 22 → k ≠ 23 → k ≠ 24 → k ≠ 25 → k ≠ 26 → ¬ (k = 18 ∧ j = 7) → F3 k j = F1 k j) → ∃ F4, fX9_findJoins NF (M b F3 G n sw') (some (b + 32)) (nI p) = some (M b F4 G n sw') ∧ (∀ q, q < 4096 → F4 51 q = bI (jnB (u2 F 18 7 0) n p (q / 64) (q % 64) = true)) ∧ RfR (u2 F 18 7 0) F4 ∧ ∀ G', G2 G G' → Inv b (b + 32) (M b F4 G' n sw') := by
    intro F3 sw' h
    have hRf : RfR (u2 F 18 7 0) F3 := fun k j hk => by rw [h k j (by omega) (by omega) (by omega) (by omega) (by omega) (by omega), fr1 k j (by omega) (by omega) (by omega) (by omega), hB k j (by omega)]
    obtain ⟨F4, e1, e2, e3⟩ := e_fj (N := NF) (b := b) (G := G) (n' := n) (sw := sw') hRf r1 (by rw [hB _ _ (by omega)]; exact r3) hC p1 p8 hK (by decide)
    have fr : ∀ k j, (k < 18 ∨ 26 < k) → k ≠ 51 → F4 k j = F k j := fun k j z1 z2 => by rw [e2 k j z2, h k j (by omega) (by omega) (by omega) (by omega) (by omega) (by omega), fr1 k j (by omega) (by omega) (by omega) (by omega)]
    refine ⟨F4, e1, e3, fun k j hk => by rw [e2 k j (by omega)]; exact hRf k j hk, fun G' hG' => ?_⟩
    exact ⟨rfl, F4, G', n, sw', rfl, r1, by rw [fr _ _ (by omega) (by omega)]; exact r2, by rw [fr _ _ (by omega) (by omega)]; exact r3, by rw [hG' _ _ (by omega) (by omega), hG' _ _ (by omega) (by omega)]; exact r4, RGl_c (fun k j h => fr _ _ (by omega) (by omega)) (fun k j h => hG' _ _ (by omega) (by omega)) r5, RTol_c (fun k j h => fr _ _ (by omega) (by omega)) r6, RTab_c (fun k j h => fr _ _ (by omega) (by omega)) r7, fun i hi => RCane_c (fun k j h => fr _ _ (by omega) (by omega)) (r8 i hi), RWish_c (fun k j h => fr _ _ (by omega) (by omega)) r9, RSlice_c (fun k j h => fr _ _ (by omega) (by omega)) r10, ROrd_c (fun k j h => fr _ _ (by omega) (by omega)) r11, RWgh_c (fun k j h => fr _ _ (by omega) (by omega)) r12, RBest_c (fun k j h => fr _ _ (by omega) (by omega)) r13⟩
  have h32 : (u2 F 18 7 0) 32 2 = nI n := by rw [hB _ _ (by omega)]; exact r3
  have hcost : ∀ j, j < 64 → isSl (u2 F 18 7 0) n p j = true → csN (u2 F 18 7 0) p j ≤ 576 := fun j _ hj => csN_le hC hG p8 hj
  obtain ⟨k, -, hk, rfl⟩ := rng 0 1 rfl rfl (by decide) (by decide) h3
  rcases (show k = 0 ∨ k = 1 by omega) with rfl | rfl
  · rw [show nI 0 = (0 : Int32) from rfl] at h3 c1 ⊢
    obtain ⟨F3, sw', d1, d2⟩ := e_waysB (N := NF) (b := b) (G := G) (n := n) (sw := sw) r1 p1 p8 hC hG c2 (show m + 1 ≤ 12 by omega) (by decide)
    obtain ⟨F4, g1, g2, g3, g4⟩ := ref F3 sw' d2
    obtain ⟨G', i1, i2, -⟩ := e_b65W (N := NF) (b := b) (n' := n) (sw := sw') (F0 := (u2 F 18 7 0)) (F := F4) (p := p) (nn := m + 1) (G0 := G) g3 r1 h32 hC hG p8 g2 (by omega) hcost (by decide) NF 0 G (by omega) (by decide) (fun _ _ _ _ => rfl) trivial
    rw [jW0, show nI 0 = (0 : Int32) from rfl] at i1
    refine ⟨_, M b F3 G n sw', M b F4 G' n sw', c_bowl0 (fun _ => K_0) (w_1 h1) (w_1 h2) (w_1 h3) R_0_7 hf c1 R_0_7 d1, ?_, g4 G' i2⟩
    rw [r_bowl0 (fun _ => K_32) (i_1 h1) (i_1 h2) (i_1 h3) g1 i1, if_pos (jWp _), jWe]
    rfl
  · rw [show nI 1 = (1 : Int32) from rfl] at h3 c1 ⊢
    obtain ⟨F3, sw', d1, d3, d2⟩ := e_cheap8 (N := NF) (b := b) (G := G) (n := n) (sw := sw) r1 p1 p8 hC hG c2 (show m + 1 ≤ 12 by omega) (by decide)
    obtain ⟨F4, g1, g2, g3, g4⟩ := ref F3 sw' d2
    obtain ⟨G', i1, i2, -⟩ := e_b65C (N := NF) (b := b) (n' := n) (sw := sw') (F0 := (u2 F 18 7 0)) (F := F4) (p := p) (nn := m + 1) (G0 := G) g3 r1 h32 hC hG p8 g2 (by omega) hcost (by decide) NF 0 G (by omega) (by decide) (fun _ _ _ _ => rfl) (bd_no _)
    rw [jC0, show nI 0 = (0 : Int32) from rfl] at i1
    refine ⟨_, M b F3 G n sw', M b F4 G' n sw', c_bowl1 (fun _ => K_0) (w_1 h1) (w_1 h2) (w_1 h3) R_0_7 hf c1 R_0_7 d1, ?_, g4 G' i2⟩
    rw [r_bowl1 (fun _ => K_32) (i_1 h1) (i_1 h2) (i_1 h3) g1 i1]
    exact jCf d3
