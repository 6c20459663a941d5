/-! ===== 492: the class's walks, step by step ===== -/
def BA {V : Type} (op : V → V → V) (z : V) (act : Nat → V → V) (fa ta : Nat → Nat) (ar : Nat) (v : Nat → V) (d : Nat) : V := bs op z (fun a => if ta a = d then act a (v (fa a)) else z) ar
def eW (v : Nat) : Int32 := nI (v % 1000000007)
def eC : Option Nat → Int32
  | none => 1000000000
  | some v => nI v
def omin : Option Nat → Option Nat → Option Nat
  | none, y => y
  | some x, none => some x
  | some x, some y => some (min x y)
def oadd (c : Nat) (v : Option Nat) : Option Nat := v.map (fun w => w + c)
def bdW (_ : Nat) (_ : Nat) : Prop := True
def bdC (K : Nat) (v : Option Nat) : Prop := ∀ w, v = some w → w ≤ K
theorem CM_W : CM (fun a c : Nat => a + c) 0 := ⟨fun a c => Nat.add_comm a c, fun a c d => Nat.add_assoc a c d, fun a => Nat.zero_add a⟩
theorem CM_C : CM omin none := by
  refine ⟨fun a c => ?_, fun a c d => ?_, fun a => rfl⟩
  · cases a <;> cases c <;> simp [omin, Nat.min_comm]
  · cases a <;> cases c <;> cases d <;> simp [omin, Nat.min_assoc]
theorem oadd_op (c : Nat) (a d : Option Nat) : oadd c (omin a d) = omin (oadd c a) (oadd c d) := by
  cases a <;> cases d <;> simp [omin, oadd]
theorem stW {u w : Nat} : eW u + eW w - (eW u + eW w) / (1000000007 : Int32) * (1000000007 : Int32) = eW (u + w) := by
  unfold eW
  have h1 := Nat.mod_lt u (show 0 < 1000000007 by omega)
  have h2 := Nat.mod_lt w (show 0 < 1000000007 by omega)
  rw [nI_add]
  refine (pk_rem (d := 1000000007) (by omega) (by omega) (by omega)).trans (congrArg nI ?_)
  exact (Nat.add_mod u w 1000000007).symm
theorem stC {K c : Nat} {u w : Option Nat} (hK : K + c < 1000000000) (hu : bdC (K + 576) u) (hc : c ≤ 576) (hK2 : K + 576 < 1000000000) (hw : bdC K w) : mmin (eC u) (eC w + nI c) = eC (omin u (oadd c w)) := by
  unfold mmin
  cases u with
  | none =>
    cases w with
    | none =>
      show (if (1000000000 : Int32) + nI c < 1000000000 then (1000000000 : Int32) + nI c else 1000000000) = 1000000000
      rw [show (1000000000 : Int32) = nI 1000000000 from rfl, nI_add, if_neg (nI_nlt (by omega) (by omega))]
    | some y =>
      have := hw y rfl
      show (if nI y + nI c < 1000000000 then nI y + nI c else 1000000000) = nI (y + c)
      rw [show (1000000000 : Int32) = nI 1000000000 from rfl, nI_add, if_pos (nI_lt (by omega) (by omega))]
  | some x =>
    have hx := hu x rfl
    cases w with
    | none =>
      show (if (1000000000 : Int32) + nI c < nI x then (1000000000 : Int32) + nI c else nI x) = nI x
      rw [show (1000000000 : Int32) = nI 1000000000 from rfl, nI_add, if_neg (nI_nlt (by omega) (by omega))]
    | some y =>
      have := hw y rfl
      show (if nI y + nI c < nI x then nI y + nI c else nI x) = nI (min x (y + c))
      rw [nI_add]
      by_cases h : y + c < x
      · rw [if_pos (nI_lt h (by omega)), Nat.min_eq_right (by omega)]
      · rw [if_neg (nI_nlt (by omega) (by omega)), Nat.min_eq_left (by omega)]
theorem bd_op {K : Nat} {a d : Option Nat} (h1 : bdC K a) (h2 : bdC K d) : bdC K (omin a d) := by
  intro w hw
  cases a with
  | none => exact h2 w hw
  | some x =>
    cases d with
    | none => exact h1 w hw
    | some y =>
      have e : min x y = w := Option.some.inj hw
      have := h1 x rfl
      omega
theorem bd_add {K c : Nat} {a : Option Nat} (h : bdC K a) (hc : c ≤ 576) : bdC (K + 576) (oadd c a) := by
  intro w hw
  cases a with
  | none => exact (nsm hw).elim
  | some x =>
    have e : x + c = w := Option.some.inj hw
    have := h x rfl
    omega
theorem bd_no (K : Nat) : bdC K none := fun w h => (nsm h).elim
theorem bd_bs {K : Nat} {f : Nat → Option Nat} : ∀ k, (∀ i, i < k → bdC K (f i)) → bdC K (bs omin none f k)
  | 0, _ => bd_no K
  | k + 1, h => bd_op (bd_bs k (fun i hi => h i (by omega))) (h k (by omega))
/-- arrows as the rows have them -/
def ArR (F : mI) (fa ta ca : Nat → Nat) (ar : Nat) : Prop := ar ≤ 64 ∧ F 18 7 = nI ar ∧ ∀ a, a < ar → fa a < 64 ∧ ta a < 64 ∧ ca a ≤ 576 ∧ F 22 a = nI (fa a) ∧ F 23 a = nI (ta a) ∧ F 24 a = nI (ca a)
def Fr2 (F0 F : mI) : Prop := ∀ k j, k ≠ 25 → k ≠ 26 → F k j = F0 k j
theorem ArR_c {F0 F : mI} {fa ta ca : Nat → Nat} {ar : Nat} (h : Fr2 F0 F) (H : ArR F0 fa ta ca ar) : ArR F fa ta ca ar := by
  refine ⟨H.1, by rw [h _ _ (by omega) (by omega)]; exact H.2.1, fun a ha => ?_⟩
  rw [h _ _ (by omega) (by omega), h _ _ (by omega) (by omega), h _ _ (by omega) (by omega)]
  exact H.2.2 a ha
theorem bs_upd {V : Type} {op : V → V → V} {z : V} (h : CM op z) {E : V → Int32} {g : Nat → V} {ta : Nat → Nat} {F : mI} {r a : Nat} (hF : ∀ d, d < 64 → F r d = E (bs op z (fun a => if ta a = d then g a else z) a)) : ∀ d, d < 64 → u2 F r (ta a) (E (op (bs op z (fun a' => if ta a' = ta a then g a' else z) a) (g a))) r d = E (bs op z (fun a => if ta a = d then g a else z) (a + 1)) := by
  intro d hd
  show _ = E (op (bs op z (fun a => if ta a = d then g a else z) a) (if ta a = d then g a else z))
  by_cases e : ta a = d
  · subst e
    rw [u2_eq, if_pos rfl]
  · rw [u2_ne _ _ _ _ (fun w => e w.2.symm), if_neg e, CM_z h]
    exact hF d hd

theorem mn_C {u w : Option Nat} (hu : bdC 7000 u) (hw : bdC 7000 w) : mmin (eC u) (eC w) = eC (omin u w) := by
  have := stC (K := 7000) (c := 0) (u := u) (w := w) (by omega) (fun z hz => Nat.le_trans (hu z hz) (by omega)) (by omega) (by omega) hw
  rw [show nI 0 = (0 : Int32) from rfl, Int32.add_zero, show oadd 0 w = w from by cases w <;> rfl] at this
  exact this
section WK
variable {b : Nat} {G : mJ} {n : Nat} {sw : Bool} {N : Nat}
theorem e_inW {F0 : mI} {fa ta ca : Nat → Nat} {ar K : Nat} {B : Nat → Nat} {x1 x2 x3 : Int32} (hA : ArR F0 fa ta ca ar) (hB : ∀ j, j < 64 → bdW K (B j)) (hN : 100 ≤ N) : ∀ (m a : Nat) (F : mI), a ≤ ar → ar - a < m → Fr2 F0 F → (∀ j, j < 64 → F (nr sw) j = eW (B j)) → (∀ d, d < 64 → F (tr sw) d = eW (bs (fun a c : Nat => a + c) 0 (fun a => if ta a = d then (fun (_ : Nat) (v : Nat) => v) a (B (fa a)) else 0) a)) → ∃ F', lX0_waysFrom_33 N (some (b + 18)) x1 x2 x3 m (nI a) (M b F G n sw) = some (M b F' G n sw) ∧ Fr2 F0 F' ∧ ∀ d, d < 64 → F' (tr sw) d = eW (BA (fun a c : Nat => a + c) 0 (fun (_ : Nat) (v : Nat) => v) fa ta ar B d) := by
  intro m
  induction m with
  | zero => intro a F _ h; omega
  | succ m ih =>
    intro a F ha hm hF hn ht
    obtain ⟨r1, r2, r3⟩ := ArR_c hF hA
    obtain ⟨w1, w2, w3⟩ := nr_tr (sw := sw)
    rw [lX0_waysFrom_33, I_18_7, r2]
    simp only [Option.bind_some]
    by_cases e : a = ar
    · subst e
      refine ⟨F, ?_, hF, ht⟩
      rw [if_pos (nI_le (Nat.le_refl _) (by omega))]
    · obtain ⟨q1, q2, q3, q4, q5, q6⟩ := r3 a (by omega)
      rw [if_neg (nI_ge (by omega) (by omega)), R_18_9]
      simp only [Option.bind_some]
      rw [R_18_5]
      simp only [Option.bind_some]
      rw [L_23 (show a < 64 by omega), q5]
      simp only [Option.bind_some]
      rw [L_tr q2, ht _ q2]
      simp only [Option.bind_some]
      rw [R_18_8]
      simp only [Option.bind_some]
      rw [R_18_4]
      simp only [Option.bind_some]
      rw [L_22 (show a < 64 by omega), q4]
      simp only [Option.bind_some]
      rw [L_nr q1, hn _ q1]
      simp only [Option.bind_some]
      rw [stW, T_tr q2]
      simp only [Option.bind_some, nm, nI_1]
      refine ih (a + 1) _ (by omega) (by omega) (fun k j z1 z2 => ?_) (fun j hj => ?_) (bs_upd CM_W (g := fun a => (fun (_ : Nat) (v : Nat) => v) a (B (fa a))) ht)
      · rw [u2_ne _ _ _ _ (by omega)]
        exact hF k j z1 z2
      · rw [u2_ne _ _ _ _ (fun z => w1 z.1)]
        exact hn j hj

theorem e_inC {F0 : mI} {fa ta ca : Nat → Nat} {ar K : Nat} {B : Nat → (Option Nat)} {x1 x2 x3 : Int32} (hA : ArR F0 fa ta ca ar) (hK : K ≤ 7000) (hB : ∀ j, j < 64 → bdC K (B j)) (hN : 100 ≤ N) : ∀ (m a : Nat) (F : mI), a ≤ ar → ar - a < m → Fr2 F0 F → (∀ j, j < 64 → F (nr sw) j = eC (B j)) → (∀ d, d < 64 → F (tr sw) d = eC (bs omin none (fun a => if ta a = d then (fun (a : Nat) (v : Option Nat) => oadd (ca a) v) a (B (fa a)) else none) a)) → ∃ F', lX0_cheapestFrom_35 N (some (b + 18)) x1 x2 x3 m (nI a) (M b F G n sw) = some (M b F' G n sw) ∧ Fr2 F0 F' ∧ ∀ d, d < 64 → F' (tr sw) d = eC (BA omin none (fun (a : Nat) (v : Option Nat) => oadd (ca a) v) fa ta ar B d) := by
  intro m
  induction m with
  | zero => intro a F _ h; omega
  | succ m ih =>
    intro a F ha hm hF hn ht
    obtain ⟨r1, r2, r3⟩ := ArR_c hF hA
    obtain ⟨w1, w2, w3⟩ := nr_tr (sw := sw)
    rw [lX0_cheapestFrom_35, I_18_7, r2]
    simp only [Option.bind_some]
    by_cases e : a = ar
    · subst e
      refine ⟨F, ?_, hF, ht⟩
      rw [if_pos (nI_le (Nat.le_refl _) (by omega))]
    · obtain ⟨q1, q2, q3, q4, q5, q6⟩ := r3 a (by omega)
      rw [if_neg (nI_ge (by omega) (by omega)), R_18_9]
      simp only [Option.bind_some]
      rw [R_18_5]
      simp only [Option.bind_some]
      rw [L_23 (show a < 64 by omega), q5]
      simp only [Option.bind_some]
      rw [L_tr q2, ht _ q2]
      simp only [Option.bind_some]
      rw [R_18_8]
      simp only [Option.bind_some]
      rw [R_18_4]
      simp only [Option.bind_some]
      rw [L_22 (show a < 64 by omega), q4]
      simp only [Option.bind_some]
      rw [L_nr q1, hn _ q1]
      simp only [Option.bind_some]
      rw [R_18_6]
      simp only [Option.bind_some]
      rw [L_24 (show a < 64 by omega), q6]
      simp only [Option.bind_some]
      rw [stC (K := K) (by omega) (bd_bs a (fun i hi => by
        by_cases z : ta i = ta a
        · rw [if_pos z]; exact bd_add (hB _ (r3 i (by omega)).1) (r3 i (by omega)).2.2.1
        · rw [if_neg z]; exact bd_no _)) q3 (by omega) (hB _ q1), T_tr q2]
      simp only [Option.bind_some, nm, nI_1]
      refine ih (a + 1) _ (by omega) (by omega) (fun k j z1 z2 => ?_) (fun j hj => ?_) (bs_upd CM_C (g := fun a => (fun (a : Nat) (v : Option Nat) => oadd (ca a) v) a (B (fa a))) ht)
      · rw [u2_ne _ _ _ _ (by omega)]
        exact hF k j z1 z2
      · rw [u2_ne _ _ _ _ (fun z => w1 z.1)]
        exact hn j hj

theorem e_stW {F0 : mI} {fa ta ca : Nat → Nat} {ar start nn : Nat} {x1 : Int32} (hA : ArR F0 fa ta ca ar) (hnn : nn ≤ 12) (hN : 2000 ≤ N) : ∀ (m st : Nat) (sw : Bool) (F : mI), st ≤ nn → nn - st < m → Fr2 F0 F → (∀ j, j < 64 → F (nr sw) j = eW (itB (BA (fun a c : Nat => a + c) 0 (fun (_ : Nat) (v : Nat) => v) fa ta ar) st (ev1 1 0 start) j)) → (∀ j, j < 64 → bdW (576 * st) (itB (BA (fun a c : Nat => a + c) 0 (fun (_ : Nat) (v : Nat) => v) fa ta ar) st (ev1 1 0 start) j)) → ∃ F' sw', lX0_waysFrom_17 N (some (b + 18)) x1 (nI nn) m (nI st) (M b F G n sw) = some (M b F' G n sw') ∧ Fr2 F0 F' ∧ ∀ j, j < 64 → F' (nr sw') j = eW (itB (BA (fun a c : Nat => a + c) 0 (fun (_ : Nat) (v : Nat) => v) fa ta ar) nn (ev1 1 0 start) j) := by
  intro m
  induction m with
  | zero => intro st sw F _ h; omega
  | succ m ih =>
    intro st sw F hst hm hF hn hb
    obtain ⟨w1, w2, w3⟩ := nr_tr (sw := sw)
    rw [lX0_waysFrom_17]
    by_cases e : st = nn
    · subst e
      refine ⟨F, sw, ?_, hF, hn⟩
      rw [if_pos (nI_le (Nat.le_refl _) (by omega))]
    · rw [if_neg (nI_ge (by omega) (by omega)), R_18_9]
      simp only [Option.bind_some]
      rw [f_tr hN]
      simp only [Option.bind_some]
      obtain ⟨F', e1, e2, e3⟩ := e_inW (N := N) (b := b) (G := G) (n := n) (sw := sw) (x1 := x1) (x2 := nI nn) (x3 := nI st) (K := 576 * st) hA hb (by omega) N 0 (uR F (tr sw) 0 64 0) (by omega) (by have := hA.1; omega) (fun k j z1 z2 => by
        unfold uR
        rw [if_neg (by omega)]
        exact hF k j z1 z2) (fun j hj => by
        unfold uR
        rw [if_neg (fun z => w1 z.1)]
        exact hn j hj) (fun d hd => by
        unfold uR
        rw [if_pos ⟨rfl, by omega, hd⟩]
        rfl)
      rw [show nI 0 = (0 : Int32) from rfl] at e1
      rw [e1]
      simp only [Option.bind_some]
      rw [e_swap]
      simp only [Option.bind_some, nm, nI_1]
      refine ih (st + 1) (!sw) F' (by omega) (by omega) e2 (fun j hj => ?_) (fun j hj => ?_)
      · rw [nr_not]
        exact e3 j hj
      · exact trivial
theorem e_frW {F0 : mI} {fa ta ca : Nat → Nat} {ar start nn : Nat} (hA : ArR F0 fa ta ca ar) (hnn : nn ≤ 12) (hs : start < 64) (hN : 2000 ≤ N) (sw : Bool) {F : mI} (hF : Fr2 F0 F) : ∃ F' sw', fX0_waysFrom N (M b F G n sw) (some (b + 18)) (nI start) (nI nn) = some (eW (itB (BA (fun a c : Nat => a + c) 0 (fun (_ : Nat) (v : Nat) => v) fa ta ar) nn (ev1 1 0 start) start), M b F' G n sw') ∧ Fr2 F0 F' := by
  obtain ⟨w1, w2, w3⟩ := nr_tr (sw := sw)
  obtain ⟨F', sw', e1, e2, e3⟩ := e_stW (N := N) (b := b) (G := G) (n := n) (start := start) (x1 := nI start) hA hnn hN N 0 sw (u2 (uR F (nr sw) 0 64 0) (nr sw) start 1) (by omega) (by omega) (fun k j z1 z2 => by
    rw [u2_ne _ _ _ _ (by omega)]
    unfold uR
    rw [if_neg (by omega)]
    exact hF k j z1 z2) (fun j hj => by
    show _ = eW (ev1 1 0 start j)
    unfold ev1
    by_cases e : j = start
    · subst e
      rw [u2_eq, if_pos rfl]
      rfl
    · rw [u2_ne _ _ _ _ (fun z => e z.2), if_neg e]
      unfold uR
      rw [if_pos ⟨rfl, by omega, hj⟩]
      rfl) (fun j hj => by
    show bdW 0 (ev1 1 0 start j)
    unfold ev1
    exact trivial)
  refine ⟨F', sw', ?_, e2⟩
  unfold fX0_waysFrom
  rw [K_18, R_18_8]
  simp only [Option.bind_some]
  rw [f_nr hN]
  simp only [Option.bind_some]
  rw [R_18_8]
  simp only [Option.bind_some]
  rw [T_nr hs]
  simp only [Option.bind_some]
  rw [show nI 0 = (0 : Int32) from rfl] at e1
  rw [e1]
  simp only [Option.bind_some]
  rw [R_18_8]
  simp only [Option.bind_some]
  rw [L_nr hs, e3 start hs]
  rfl
theorem e_lpW {F0 : mI} {fa ta ca : Nat → Nat} {ar nn off : Nat} (hA : ArR F0 fa ta ca ar) (hnn : nn ≤ 12) (h3 : F0 18 3 = nI off) (ho : off ≤ 64) (hN : 2000 ≤ N) : ∀ (m s : Nat) (sw : Bool) (F : mI), s ≤ off → off - s < m → Fr2 F0 F → ∃ F' sw', lX0_ways_8 N (some (b + 18)) (nI nn) m (eW (bs (fun a c : Nat => a + c) 0 (fun s => if frS F0 off s = s then itB (BA (fun a c : Nat => a + c) 0 (fun (_ : Nat) (v : Nat) => v) fa ta ar) nn (ev1 1 0 s) s else 0) s)) (nI s) (M b F G n sw) = some (eW (bs (fun a c : Nat => a + c) 0 (fun s => if frS F0 off s = s then itB (BA (fun a c : Nat => a + c) 0 (fun (_ : Nat) (v : Nat) => v) fa ta ar) nn (ev1 1 0 s) s else 0) off), M b F' G n sw') ∧ Fr2 F0 F' := by
  intro m
  induction m with
  | zero => intro s sw F _ h; omega
  | succ m ih =>
    intro s sw F hs hm hF
    have g3 : F 18 3 = nI off := by rw [hF _ _ (by omega) (by omega)]; exact h3
    rw [lX0_ways_8, I_18_3, g3]
    simp only [Option.bind_some]
    by_cases e : s = off
    · subst e
      refine ⟨F, sw, ?_, hF⟩
      rw [if_pos (nI_le (Nat.le_refl _) (by omega))]
    · have hs' : s < off := by omega
      obtain ⟨q1, q2⟩ := frS_e (F := F0) hs'
      have e19 : ∀ j, F 19 j = F0 19 j := fun j => hF _ _ (by omega) (by omega)
      have hc : fX0_columnOf N (M b F G n sw) (some (b + 18)) (F0 19 s) = some (nI (frS F0 off s)) := by
        rw [e_col g3 ho (by omega)]
        simp only [e19, q1]
        rfl
      rw [if_neg (nI_ge hs' (by omega)), R_18_0]
      simp only [Option.bind_some]
      rw [L_19 (show s < 64 by omega), e19]
      simp only [Option.bind_some, hc, nm, nI_1]
      by_cases hf : frS F0 off s = s
      · obtain ⟨F', sw', e1, e2⟩ := e_frW (N := N) (b := b) (G := G) (n := n) (start := s) hA hnn (show s < 64 by omega) hN sw hF
        rw [if_neg (fun z => z (by rw [hf])), e1]
        simp only [b2, Option.bind_some]
        rw [stW]
        have := ih (s + 1) sw' F' (by omega) (by omega) e2
        rw [show bs (fun a c : Nat => a + c) 0 (fun s => if frS F0 off s = s then itB (BA (fun a c : Nat => a + c) 0 (fun (_ : Nat) (v : Nat) => v) fa ta ar) nn (ev1 1 0 s) s else 0) (s + 1) = (fun a c : Nat => a + c) (bs (fun a c : Nat => a + c) 0 (fun s => if frS F0 off s = s then itB (BA (fun a c : Nat => a + c) 0 (fun (_ : Nat) (v : Nat) => v) fa ta ar) nn (ev1 1 0 s) s else 0) s) (if frS F0 off s = s then itB (BA (fun a c : Nat => a + c) 0 (fun (_ : Nat) (v : Nat) => v) fa ta ar) nn (ev1 1 0 s) s else 0) from rfl, if_pos hf] at this
        exact this
      · rw [if_pos (fun z => hf ((nI_eq (by omega) (by omega)).mp z))]
        have := ih (s + 1) sw F (by omega) (by omega) hF
        rw [show bs (fun a c : Nat => a + c) 0 (fun s => if frS F0 off s = s then itB (BA (fun a c : Nat => a + c) 0 (fun (_ : Nat) (v : Nat) => v) fa ta ar) nn (ev1 1 0 s) s else 0) (s + 1) = (fun a c : Nat => a + c) (bs (fun a c : Nat => a + c) 0 (fun s => if frS F0 off s = s then itB (BA (fun a c : Nat => a + c) 0 (fun (_ : Nat) (v : Nat) => v) fa ta ar) nn (ev1 1 0 s) s else 0) s) (if frS F0 off s = s then itB (BA (fun a c : Nat => a + c) 0 (fun (_ : Nat) (v : Nat) => v) fa ta ar) nn (ev1 1 0 s) s else 0) from rfl, if_neg hf, CM_z CM_W] at this
        exact this

theorem e_stC {F0 : mI} {fa ta ca : Nat → Nat} {ar start nn : Nat} {x1 : Int32} (hA : ArR F0 fa ta ca ar) (hnn : nn ≤ 12) (hN : 2000 ≤ N) : ∀ (m st : Nat) (sw : Bool) (F : mI), st ≤ nn → nn - st < m → Fr2 F0 F → (∀ j, j < 64 → F (nr sw) j = eC (itB (BA omin none (fun (a : Nat) (v : Option Nat) => oadd (ca a) v) fa ta ar) st (ev1 (some 0) none start) j)) → (∀ j, j < 64 → bdC (576 * st) (itB (BA omin none (fun (a : Nat) (v : Option Nat) => oadd (ca a) v) fa ta ar) st (ev1 (some 0) none start) j)) → ∃ F' sw', lX0_cheapestFrom_18 N (some (b + 18)) x1 (nI nn) m (nI st) (M b F G n sw) = some (M b F' G n sw') ∧ Fr2 F0 F' ∧ ∀ j, j < 64 → F' (nr sw') j = eC (itB (BA omin none (fun (a : Nat) (v : Option Nat) => oadd (ca a) v) fa ta ar) nn (ev1 (some 0) none start) j) := by
  intro m
  induction m with
  | zero => intro st sw F _ h; omega
  | succ m ih =>
    intro st sw F hst hm hF hn hb
    obtain ⟨w1, w2, w3⟩ := nr_tr (sw := sw)
    rw [lX0_cheapestFrom_18]
    by_cases e : st = nn
    · subst e
      refine ⟨F, sw, ?_, hF, hn⟩
      rw [if_pos (nI_le (Nat.le_refl _) (by omega))]
    · rw [if_neg (nI_ge (by omega) (by omega)), R_18_9]
      simp only [Option.bind_some]
      rw [f_tr hN]
      simp only [Option.bind_some]
      obtain ⟨F', e1, e2, e3⟩ := e_inC (N := N) (b := b) (G := G) (n := n) (sw := sw) (x1 := x1) (x2 := nI nn) (x3 := nI st) (K := 576 * st) hA (by omega) hb (by omega) N 0 (uR F (tr sw) 0 64 1000000000) (by omega) (by have := hA.1; omega) (fun k j z1 z2 => by
        unfold uR
        rw [if_neg (by omega)]
        exact hF k j z1 z2) (fun j hj => by
        unfold uR
        rw [if_neg (fun z => w1 z.1)]
        exact hn j hj) (fun d hd => by
        unfold uR
        rw [if_pos ⟨rfl, by omega, hd⟩]
        rfl)
      rw [show nI 0 = (0 : Int32) from rfl] at e1
      rw [e1]
      simp only [Option.bind_some]
      rw [e_swap]
      simp only [Option.bind_some, nm, nI_1]
      refine ih (st + 1) (!sw) F' (by omega) (by omega) e2 (fun j hj => ?_) (fun j hj => ?_)
      · rw [nr_not]
        exact e3 j hj
      · rw [show 576 * (st + 1) = 576 * st + 576 by omega]
        exact bd_bs ar (fun a ha => by
          by_cases z : ta a = j
          · rw [if_pos z]; exact bd_add (hb _ (hA.2.2 a ha).1) (hA.2.2 a ha).2.2.1
          · rw [if_neg z]; exact bd_no _)
theorem e_frC {F0 : mI} {fa ta ca : Nat → Nat} {ar start nn : Nat} (hA : ArR F0 fa ta ca ar) (hnn : nn ≤ 12) (hs : start < 64) (hN : 2000 ≤ N) (sw : Bool) {F : mI} (hF : Fr2 F0 F) : ∃ F' sw', fX0_cheapestFrom N (M b F G n sw) (some (b + 18)) (nI start) (nI nn) = some (eC (itB (BA omin none (fun (a : Nat) (v : Option Nat) => oadd (ca a) v) fa ta ar) nn (ev1 (some 0) none start) start), M b F' G n sw') ∧ Fr2 F0 F' := by
  obtain ⟨w1, w2, w3⟩ := nr_tr (sw := sw)
  obtain ⟨F', sw', e1, e2, e3⟩ := e_stC (N := N) (b := b) (G := G) (n := n) (start := start) (x1 := nI start) hA hnn hN N 0 sw (u2 (uR F (nr sw) 0 64 1000000000) (nr sw) start 0) (by omega) (by omega) (fun k j z1 z2 => by
    rw [u2_ne _ _ _ _ (by omega)]
    unfold uR
    rw [if_neg (by omega)]
    exact hF k j z1 z2) (fun j hj => by
    show _ = eC (ev1 (some 0) none start j)
    unfold ev1
    by_cases e : j = start
    · subst e
      rw [u2_eq, if_pos rfl]
      rfl
    · rw [u2_ne _ _ _ _ (fun z => e z.2), if_neg e]
      unfold uR
      rw [if_pos ⟨rfl, by omega, hj⟩]
      rfl) (fun j hj => by
    show bdC 0 (ev1 (some 0) none start j)
    unfold ev1
    intro w hw
    by_cases e : j = start
    · rw [if_pos e] at hw
      have := Option.some.inj hw
      omega
    · rw [if_neg e] at hw
      exact (nsm hw).elim)
  refine ⟨F', sw', ?_, e2⟩
  unfold fX0_cheapestFrom
  rw [K_18, R_18_8]
  simp only [Option.bind_some]
  rw [f_nr hN]
  simp only [Option.bind_some]
  rw [R_18_8]
  simp only [Option.bind_some]
  rw [T_nr hs]
  simp only [Option.bind_some]
  rw [show nI 0 = (0 : Int32) from rfl] at e1
  rw [e1]
  simp only [Option.bind_some]
  rw [R_18_8]
  simp only [Option.bind_some]
  rw [L_nr hs, e3 start hs]
  rfl
theorem e_lpC {F0 : mI} {fa ta ca : Nat → Nat} {ar nn off : Nat} (hA : ArR F0 fa ta ca ar) (hnn : nn ≤ 12) (h3 : F0 18 3 = nI off) (ho : off ≤ 64) (hBd : ∀ s, s < off → bdC 7000 (if frS F0 off s = s then itB (BA omin none (fun (a : Nat) (v : Option Nat) => oadd (ca a) v) fa ta ar) nn (ev1 (some 0) none s) s else none)) (hN : 2000 ≤ N) : ∀ (m s : Nat) (sw : Bool) (F : mI), s ≤ off → off - s < m → Fr2 F0 F → ∃ F' sw', lX0_cheapest_9 N (some (b + 18)) (nI nn) m (eC (bs omin none (fun s => if frS F0 off s = s then itB (BA omin none (fun (a : Nat) (v : Option Nat) => oadd (ca a) v) fa ta ar) nn (ev1 (some 0) none s) s else none) s)) (nI s) (M b F G n sw) = some (eC (bs omin none (fun s => if frS F0 off s = s then itB (BA omin none (fun (a : Nat) (v : Option Nat) => oadd (ca a) v) fa ta ar) nn (ev1 (some 0) none s) s else none) off), M b F' G n sw') ∧ Fr2 F0 F' := by
  intro m
  induction m with
  | zero => intro s sw F _ h; omega
  | succ m ih =>
    intro s sw F hs hm hF
    have g3 : F 18 3 = nI off := by rw [hF _ _ (by omega) (by omega)]; exact h3
    rw [lX0_cheapest_9, I_18_3, g3]
    simp only [Option.bind_some]
    by_cases e : s = off
    · subst e
      refine ⟨F, sw, ?_, hF⟩
      rw [if_pos (nI_le (Nat.le_refl _) (by omega))]
    · have hs' : s < off := by omega
      obtain ⟨q1, q2⟩ := frS_e (F := F0) hs'
      have e19 : ∀ j, F 19 j = F0 19 j := fun j => hF _ _ (by omega) (by omega)
      have hc : fX0_columnOf N (M b F G n sw) (some (b + 18)) (F0 19 s) = some (nI (frS F0 off s)) := by
        rw [e_col g3 ho (by omega)]
        simp only [e19, q1]
        rfl
      rw [if_neg (nI_ge hs' (by omega)), R_18_0]
      simp only [Option.bind_some]
      rw [L_19 (show s < 64 by omega), e19]
      simp only [Option.bind_some, hc, nm, nI_1]
      by_cases hf : frS F0 off s = s
      · obtain ⟨F', sw', e1, e2⟩ := e_frC (N := N) (b := b) (G := G) (n := n) (start := s) hA hnn (show s < 64 by omega) hN sw hF
        rw [if_neg (fun z => z (by rw [hf])), e1]
        simp only [b2, Option.bind_some]
        have hbs := hBd s (by omega)
        rw [if_pos hf] at hbs
        rw [mn_C (bd_bs s (fun i hi => hBd i (by omega))) hbs]
        have := ih (s + 1) sw' F' (by omega) (by omega) e2
        rw [show bs omin none (fun s => if frS F0 off s = s then itB (BA omin none (fun (a : Nat) (v : Option Nat) => oadd (ca a) v) fa ta ar) nn (ev1 (some 0) none s) s else none) (s + 1) = omin (bs omin none (fun s => if frS F0 off s = s then itB (BA omin none (fun (a : Nat) (v : Option Nat) => oadd (ca a) v) fa ta ar) nn (ev1 (some 0) none s) s else none) s) (if frS F0 off s = s then itB (BA omin none (fun (a : Nat) (v : Option Nat) => oadd (ca a) v) fa ta ar) nn (ev1 (some 0) none s) s else none) from rfl, if_pos hf] at this
        exact this
      · rw [if_pos (fun z => hf ((nI_eq (by omega) (by omega)).mp z))]
        have := ih (s + 1) sw F (by omega) (by omega) hF
        rw [show bs omin none (fun s => if frS F0 off s = s then itB (BA omin none (fun (a : Nat) (v : Option Nat) => oadd (ca a) v) fa ta ar) nn (ev1 (some 0) none s) s else none) (s + 1) = omin (bs omin none (fun s => if frS F0 off s = s then itB (BA omin none (fun (a : Nat) (v : Option Nat) => oadd (ca a) v) fa ta ar) nn (ev1 (some 0) none s) s else none) s) (if frS F0 off s = s then itB (BA omin none (fun (a : Nat) (v : Option Nat) => oadd (ca a) v) fa ta ar) nn (ev1 (some 0) none s) s else none) from rfl, if_neg hf, CM_z CM_C] at this
        exact this
end WK
