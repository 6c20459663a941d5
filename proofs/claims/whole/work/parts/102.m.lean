abbrev rmX5_atMirroredTurned : Room := { frames := 2, cells := 0, slots := 0, locals := 44 }
theorem hdX5_atMirroredTurned : yX5_atMirroredTurned.cls ≠ "java/lang/invoke/MethodHandle" ∧ yX5_atMirroredTurned.cls ≠ "java/lang/invoke/VarHandle" ∧ (parseMethodDescriptor yX5_atMirroredTurned.desc).map (fun d => d.parameters.length) = some 3 := by decide +kernel
def fX5_atMirroredTurned (N : Nat) (S : pH) (r0 : Option Nat) (x1 : Int32) (x2 : Int32) (x3 : Int32) : Option (Int32) :=
  chk S 5 r0 <|
  (gfI S 5 1 r0).bind fun x21 =>
  (gfI S 5 1 r0).bind fun x22 =>
  (fX8_turnedX N S x1 x2 x3 x22).bind fun x23 =>
  (gfI S 5 1 r0).bind fun x24 =>
  (fX8_turnedY N S x1 x2 x3 x24).bind fun x25 =>
  (fX5_at N S r0 ((x21 - (1 : Int32)) - x23) x25).bind fun x26 =>
  some x26
theorem oX5_atMirroredTurned {N : Nat} {S : pH} {r0 : Option Nat} {x1 : Int32} {x2 : Int32} {x3 : Int32} {z : Int32} (h : fX5_atMirroredTurned N S r0 x1 x2 x3 = some z) : ∃ fs, obj S 5 r0 = some fs := by
  unfold fX5_atMirroredTurned at h
  exact (chk_spec h).1
set_option maxHeartbeats 1000000 in
set_option maxRecDepth 20000 in
theorem tX5_atMirroredTurned {l : Launch} {w : VW} {N : Nat} {S : pH} {r0 : Option Nat} {x1 : Int32} {x2 : Int32} {x3 : Int32} {v0 : Int32} (h : fX5_atMirroredTurned N S r0 x1 x2 x3 = some v0) : CT l w yX5_atMirroredTurned cX5_atMirroredTurned 4 (some .int) rmX5_atMirroredTurned [va_rf r0, .int x1, .int x2, .int x3] S (some (.int v0)) S := by
  refine v_entry [(0, va_rf r0), (1, .int x1), (2, .int x2), (3, .int x3)] (by decide) (by simp [lg_sl, cat_rf, cat_i, cat_j]) (by simp [lv_args, cat_rf, cat_i, cat_j]) (fun g _ hC => ?_)
  unfold fX5_atMirroredTurned at h
  obtain ⟨hO, h⟩ := chk_spec h
  refine v_aload_n hC 0 0 dX5_atMirroredTurned_0 rfl ?_
  refine v_aload_n hC 1 0 dX5_atMirroredTurned_1 rfl ?_
  obtain ⟨x21, ex21, h⟩ := obn h
  refine gRX5_24 hC rfl 2 ex21 dX5_atMirroredTurned_2 ?_
  refine v_iconst hC (1 : Int32) 5 dX5_atMirroredTurned_5 (by decide) ?_
  refine v_isub hC 6 dX5_atMirroredTurned_6 ?_
  refine v_iload_n hC 7 1 dX5_atMirroredTurned_7 rfl ?_
  refine v_iload_n hC 8 2 dX5_atMirroredTurned_8 rfl ?_
  refine v_iload_n hC 9 3 dX5_atMirroredTurned_9 rfl ?_
  refine v_aload_n hC 10 0 dX5_atMirroredTurned_10 rfl ?_
  obtain ⟨x22, ex22, h⟩ := obn h
  refine gRX5_24 hC rfl 11 ex22 dX5_atMirroredTurned_11 ?_
  obtain ⟨x23, ex23, h⟩ := obn h
  refine qX5_47 hC rfl 14 ex23 (by decide) (catL (Nat.le_of_ble_eq_true rfl)) (by decide) dX5_atMirroredTurned_14 ?_
  refine v_isub hC 17 dX5_atMirroredTurned_17 ?_
  refine v_iload_n hC 18 1 dX5_atMirroredTurned_18 rfl ?_
  refine v_iload_n hC 19 2 dX5_atMirroredTurned_19 rfl ?_
  refine v_iload_n hC 20 3 dX5_atMirroredTurned_20 rfl ?_
  refine v_aload_n hC 21 0 dX5_atMirroredTurned_21 rfl ?_
  obtain ⟨x24, ex24, h⟩ := obn h
  refine gRX5_24 hC rfl 22 ex24 dX5_atMirroredTurned_22 ?_
  obtain ⟨x25, ex25, h⟩ := obn h
  refine qX5_51 hC rfl 25 ex25 (by decide) (catL (Nat.le_of_ble_eq_true rfl)) (by decide) dX5_atMirroredTurned_25 ?_
  obtain ⟨x26, ex26, h⟩ := obn h
  refine qX5_54 hC rfl 28 ex26 (by decide) (catL (Nat.le_of_ble_eq_true rfl)) (by decide) dX5_atMirroredTurned_28 ?_
  obtain rfl := sp1 h
  exact v_iret hC 31 (by decide) (by decide) dX5_atMirroredTurned_31
abbrev rmX5_cellsOf : Room := { frames := 2, cells := 0, slots := 0, locals := 44 }
theorem hdX5_cellsOf : yX5_cellsOf.cls ≠ "java/lang/invoke/MethodHandle" ∧ yX5_cellsOf.cls ≠ "java/lang/invoke/VarHandle" ∧ (parseMethodDescriptor yX5_cellsOf.desc).map (fun d => d.parameters.length) = some 1 := by decide +kernel
def lX5_cellsOf_15 (N : Nat) (S : pH) (r0 : Option Nat) (x1 : Int32) (x3 : Int32) : Nat → Int32 → Int32 → Option (Int32)
  | 0, _, _ => none
  | n + 1, x24, x25 =>
    (gfI S 5 1 r0).bind fun x26 =>
    if x26 ≤ x25 then
    (some x24)
    else
    (fX5_at N S r0 x25 x3).bind fun x27 =>
    nm (fun (x28 : Int32) =>
    nm (x25 + (1 : Int32)) fun x29 =>
    lX5_cellsOf_15 N S r0 x1 x3 n x28 x29) fun j38 =>
    if ¬ x27 = x1 then
    (j38 x24)
    else
    nm (x24 + (1 : Int32)) fun x30 =>
    j38 x30
def lX5_cellsOf_4 (N : Nat) (S : pH) (r0 : Option Nat) (x1 : Int32) : Nat → Int32 → Int32 → Option (Int32)
  | 0, _, _ => none
  | n + 1, x21, x22 =>
    (gfI S 5 1 r0).bind fun x23 =>
    if x23 ≤ x22 then
    (some x21)
    else
    (lX5_cellsOf_15 N S r0 x1 x22 N x21 (0 : Int32)).bind fun x33 =>
    nm (x22 + (1 : Int32)) fun x34 =>
    lX5_cellsOf_4 N S r0 x1 n x33 x34
def fX5_cellsOf (N : Nat) (S : pH) (r0 : Option Nat) (x1 : Int32) : Option (Int32) :=
  chk S 5 r0 <|
  (lX5_cellsOf_4 N S r0 x1 N (0 : Int32) (0 : Int32)).bind fun x36 =>
  some x36
theorem oX5_cellsOf {N : Nat} {S : pH} {r0 : Option Nat} {x1 : Int32} {z : Int32} (h : fX5_cellsOf N S r0 x1 = some z) : ∃ fs, obj S 5 r0 = some fs := by
  unfold fX5_cellsOf at h
  exact (chk_spec h).1
set_option maxHeartbeats 1000000 in
set_option maxRecDepth 20000 in
theorem kX5_cellsOf_15 {g : VG} {w : VW} {N : Nat} {S : pH} {r0 : Option Nat} {x1 : Int32} {x3 : Int32} {v0 : Int32} (hC : Cx g yX5_cellsOf cX5_cellsOf 5 (some .int) rmX5_cellsOf w) : ∀ (n : Nat) (x24 : Int32) (x25 : Int32) (z : (Int32)), lX5_cellsOf_15 N S r0 x1 x3 n x24 x25 = some z → (∀ (e0 : Int32), z = e0 → V g w 5 (Qm g w rmX5_cellsOf.cells rmX5_cellsOf.slots (some (.int v0)) S) S 0 0 44 [(0, va_rf r0), (1, .int x1), (2, .int e0), (3, .int x3)] []) → V g w 5 (Qm g w rmX5_cellsOf.cells rmX5_cellsOf.slots (some (.int v0)) S) S 0 0 15 [(0, va_rf r0), (1, .int x1), (2, .int x24), (3, .int x3), (4, .int x25)] [] := by
  intro n
  induction n with
  | zero => intro x24 x25 z h; rw [lX5_cellsOf_15] at h; cases h
  | succ n ih =>
    intro x24 x25 z h K
    rw [lX5_cellsOf_15] at h
    refine v_iload hC 15 4 dX5_cellsOf_15 rfl ?_
    refine v_aload_n hC 17 0 dX5_cellsOf_17 rfl ?_
    obtain ⟨x26, ex26, h⟩ := obn h
    refine gRX5_24 hC rfl 18 ex26 dX5_cellsOf_18 ?_
    refine v_icmp_ge hC 21 44 dX5_cellsOf_21 (by decide) (fun c32 => ?_) (fun c32 => ?_)
    · replace h := ifp h c32
      refine v_sub [(0, va_rf r0), (1, .int x1), (2, .int x24), (3, .int x3)] [0, 1, 2, 3] rfl ?_
      exact K _ (sp1 h)
    · replace h := ifn h c32
      refine v_aload_n hC 24 0 dX5_cellsOf_24 rfl ?_
      refine v_iload hC 25 4 dX5_cellsOf_25 rfl ?_
      refine v_iload_n hC 27 3 dX5_cellsOf_27 rfl ?_
      obtain ⟨x27, ex27, h⟩ := obn h
      refine qX5_54 hC rfl 28 ex27 (by decide) (catL (Nat.le_of_ble_eq_true rfl)) (by decide) dX5_cellsOf_28 ?_
      refine v_iload_n hC 31 1 dX5_cellsOf_31 rfl ?_
      obtain ⟨j38, f38, h⟩ := onm h
      have J38 : ∀ (x28 : Int32), j38 x28 = some z → V g w 5 (Qm g w rmX5_cellsOf.cells rmX5_cellsOf.slots (some (.int v0)) S) S 0 0 38 [(0, va_rf r0), (1, .int x1), (2, .int x28), (3, .int x3), (4, .int x25)] [] := by
        intro x28 h
        replace h := jb1 f38 h
        obtain ⟨x29, ex29, h⟩ := onm h
        refine v_iinc hC x29 [(4, .int x29), (0, va_rf r0), (1, .int x1), (2, .int x28), (3, .int x3)] 38 4 dX5_cellsOf_38 rfl (by rw [ex29]; rfl) (by decide) rfl ?_
        refine v_goto hC 41 15 dX5_cellsOf_41 (by decide) ?_
        refine v_sub [(0, va_rf r0), (1, .int x1), (2, .int x28), (3, .int x3), (4, .int x29)] [1, 2, 3, 4, 0] rfl ?_
        exact ih _ _ _ h K
      refine v_icmp_ne hC 32 38 dX5_cellsOf_32 (by decide) (fun c31 => ?_) (fun c31 => ?_)
      · replace h := ifp h c31
        refine v_sub [(0, va_rf r0), (1, .int x1), (2, .int x24), (3, .int x3), (4, .int x25)] [0, 1, 2, 3, 4] rfl ?_
        exact J38 _ h
      · replace h := ifn h (fun q => q c31)
        obtain ⟨x30, ex30, h⟩ := onm h
        refine v_iinc hC x30 [(2, .int x30), (0, va_rf r0), (1, .int x1), (3, .int x3), (4, .int x25)] 35 2 dX5_cellsOf_35 rfl (by rw [ex30]; rfl) (by decide) rfl ?_
        refine v_sub [(0, va_rf r0), (1, .int x1), (2, .int x30), (3, .int x3), (4, .int x25)] [1, 2, 0, 3, 4] rfl ?_
        exact J38 _ h
set_option maxHeartbeats 1000000 in
set_option maxRecDepth 20000 in
theorem kX5_cellsOf_4 {g : VG} {w : VW} {N : Nat} {S : pH} {r0 : Option Nat} {x1 : Int32} {v0 : Int32} (hC : Cx g yX5_cellsOf cX5_cellsOf 5 (some .int) rmX5_cellsOf w) : ∀ (n : Nat) (x21 : Int32) (x22 : Int32) (z : (Int32)), lX5_cellsOf_4 N S r0 x1 n x21 x22 = some z → (∀ (e0 : Int32), z = e0 → V g w 5 (Qm g w rmX5_cellsOf.cells rmX5_cellsOf.slots (some (.int v0)) S) S 0 0 50 [(2, .int e0)] []) → V g w 5 (Qm g w rmX5_cellsOf.cells rmX5_cellsOf.slots (some (.int v0)) S) S 0 0 4 [(0, va_rf r0), (1, .int x1), (2, .int x21), (3, .int x22)] [] := by
  intro n
  induction n with
  | zero => intro x21 x22 z h; rw [lX5_cellsOf_4] at h; cases h
  | succ n ih =>
    intro x21 x22 z h K
    rw [lX5_cellsOf_4] at h
    refine v_iload_n hC 4 3 dX5_cellsOf_4 rfl ?_
    refine v_aload_n hC 5 0 dX5_cellsOf_5 rfl ?_
    obtain ⟨x23, ex23, h⟩ := obn h
    refine gRX5_24 hC rfl 6 ex23 dX5_cellsOf_6 ?_
    refine v_icmp_ge hC 9 50 dX5_cellsOf_9 (by decide) (fun c35 => ?_) (fun c35 => ?_)
    · replace h := ifp h c35
      refine v_sub [(2, .int x21)] [2] rfl ?_
      exact K _ (sp1 h)
    · replace h := ifn h c35
      refine v_iconst hC (0 : Int32) 12 dX5_cellsOf_12 (by decide) ?_
      refine v_istore hC [(4, .int (0 : Int32)), (0, va_rf r0), (1, .int x1), (2, .int x21), (3, .int x22)] 13 dX5_cellsOf_13 (by decide) rfl ?_
      obtain ⟨x33, E15, h⟩ := obn h
      refine v_sub [(0, va_rf r0), (1, .int x1), (2, .int x21), (3, .int x22), (4, .int (0 : Int32))] [1, 2, 3, 4, 0] rfl ?_
      refine kX5_cellsOf_15 hC _ _ _ _ E15 (fun _ hz9 => ?_)
      cases hz9
      obtain ⟨x34, ex34, h⟩ := onm h
      refine v_iinc hC x34 [(3, .int x34), (0, va_rf r0), (1, .int x1), (2, .int x33)] 44 3 dX5_cellsOf_44 rfl (by rw [ex34]; rfl) (by decide) rfl ?_
      refine v_goto hC 47 4 dX5_cellsOf_47 (by decide) ?_
      refine v_sub [(0, va_rf r0), (1, .int x1), (2, .int x33), (3, .int x34)] [1, 2, 3, 0] rfl ?_
      exact ih _ _ _ h K
set_option maxHeartbeats 1000000 in
set_option maxRecDepth 20000 in
theorem tX5_cellsOf {l : Launch} {w : VW} {N : Nat} {S : pH} {r0 : Option Nat} {x1 : Int32} {v0 : Int32} (h : fX5_cellsOf N S r0 x1 = some v0) : CT l w yX5_cellsOf cX5_cellsOf 5 (some .int) rmX5_cellsOf [va_rf r0, .int x1] S (some (.int v0)) S := by
  refine v_entry [(0, va_rf r0), (1, .int x1)] (by decide) (by simp [lg_sl, cat_rf, cat_i, cat_j]) (by simp [lv_args, cat_rf, cat_i, cat_j]) (fun g _ hC => ?_)
  unfold fX5_cellsOf at h
  obtain ⟨hO, h⟩ := chk_spec h
  refine v_iconst hC (0 : Int32) 0 dX5_cellsOf_0 (by decide) ?_
  refine v_istore_n hC [(2, .int (0 : Int32)), (0, va_rf r0), (1, .int x1)] 1 dX5_cellsOf_1 (by decide) rfl ?_
  refine v_iconst hC (0 : Int32) 2 dX5_cellsOf_2 (by decide) ?_
  refine v_istore_n hC [(3, .int (0 : Int32)), (2, .int (0 : Int32)), (0, va_rf r0), (1, .int x1)] 3 dX5_cellsOf_3 (by decide) rfl ?_
  obtain ⟨x36, E4, h⟩ := obn h
  refine v_sub [(0, va_rf r0), (1, .int x1), (2, .int (0 : Int32)), (3, .int (0 : Int32))] [2, 3, 1, 0] rfl ?_
  refine kX5_cellsOf_4 hC _ _ _ _ E4 (fun _ hz9 => ?_)
  cases hz9
  refine v_iload_n hC 50 0 dX5_cellsOf_50 rfl ?_
  obtain rfl := sp1 h
  exact v_iret hC 51 (by decide) (by decide) dX5_cellsOf_51
abbrev rmX5_columnsThatShow : Room := { frames := 3, cells := 0, slots := 0, locals := 67 }
theorem hdX5_columnsThatShow : yX5_columnsThatShow.cls ≠ "java/lang/invoke/MethodHandle" ∧ yX5_columnsThatShow.cls ≠ "java/lang/invoke/VarHandle" ∧ (parseMethodDescriptor yX5_columnsThatShow.desc).map (fun d => d.parameters.length) = some 2 := by decide +kernel
def lX5_columnsThatShow_20 (N : Nat) (S : pH) (r0 : Option Nat) (r1 : Option Nat) (x2 : Int32) (x3 : Int32) (x4 : Int32) : Nat → Int32 → Int32 → Option (Int32)
  | 0, _, _ => none
  | n + 1, x24, x25 =>
    (gfI S 5 1 r0).bind fun x26 =>
    if x26 ≤ x25 then
    (some x24)
    else
    (fX5_at N S r1 x4 x25).bind fun x27 =>
    nm (fun (x28 : Int32) =>
    nm (x25 + (1 : Int32)) fun x29 =>
    lX5_columnsThatShow_20 N S r0 r1 x2 x3 x4 n x28 x29) fun j70 =>
    nm (fun (_ : Unit) =>
    j70 (0 : Int32)) fun j69 =>
    if x24 = 0 then
    (j69 ())
    else
    nm (fun (_ : Unit) =>
    j70 (1 : Int32)) fun j65 =>
    if x27 = (-9 : Int32) then
    (j65 ())
    else
    (fX5_atTurned N S r0 x4 x25 x2).bind fun x30 =>
    if ¬ x27 = x30 then
    (j69 ())
    else
    j65 ()
def lX5_columnsThatShow_5 (N : Nat) (S : pH) (r0 : Option Nat) (r1 : Option Nat) (x2 : Int32) : Nat → Int32 → Int32 → Option (Int32)
  | 0, _, _ => none
  | n + 1, x21, x22 =>
    (gfI S 5 1 r0).bind fun x23 =>
    if x23 ≤ x22 then
    (some x21)
    else
    (lX5_columnsThatShow_20 N S r0 r1 x2 x21 x22 N (1 : Int32) (0 : Int32)).bind fun x35 =>
    nm (fun (x36 : Int32) =>
    nm (x22 + (1 : Int32)) fun x37 =>
    lX5_columnsThatShow_5 N S r0 r1 x2 n x36 x37) fun j90 =>
    if x35 = 0 then
    (j90 x21)
    else
    nm (x21 ||| ((1 : Int32) <<< (x22 &&& 31))) fun x38 =>
    j90 x38
def fX5_columnsThatShow (N : Nat) (S : pH) (r0 : Option Nat) (r1 : Option Nat) (x2 : Int32) : Option (Int32) :=
  chk S 5 r0 <|
  (lX5_columnsThatShow_5 N S r0 r1 x2 N (0 : Int32) (0 : Int32)).bind fun x41 =>
  some x41
theorem oX5_columnsThatShow {N : Nat} {S : pH} {r0 : Option Nat} {r1 : Option Nat} {x2 : Int32} {z : Int32} (h : fX5_columnsThatShow N S r0 r1 x2 = some z) : ∃ fs, obj S 5 r0 = some fs := by
  unfold fX5_columnsThatShow at h
  exact (chk_spec h).1
set_option maxHeartbeats 1000000 in
set_option maxRecDepth 20000 in
theorem kX5_columnsThatShow_20 {g : VG} {w : VW} {N : Nat} {S : pH} {r0 : Option Nat} {r1 : Option Nat} {x2 : Int32} {x3 : Int32} {x4 : Int32} {v0 : Int32} (hC : Cx g yX5_columnsThatShow cX5_columnsThatShow 8 (some .int) rmX5_columnsThatShow w) : ∀ (n : Nat) (x24 : Int32) (x25 : Int32) (z : (Int32)), lX5_columnsThatShow_20 N S r0 r1 x2 x3 x4 n x24 x25 = some z → (∀ (e0 : Int32), z = e0 → V g w 8 (Qm g w rmX5_columnsThatShow.cells rmX5_columnsThatShow.slots (some (.int v0)) S) S 0 0 78 [(0, va_rf r0), (1, va_rf r1), (2, .int x2), (3, .int x3), (4, .int x4), (5, .int e0)] []) → V g w 8 (Qm g w rmX5_columnsThatShow.cells rmX5_columnsThatShow.slots (some (.int v0)) S) S 0 0 20 [(0, va_rf r0), (1, va_rf r1), (2, .int x2), (3, .int x3), (4, .int x4), (5, .int x24), (6, .int x25)] [] := by
  intro n
  induction n with
  | zero => intro x24 x25 z h; rw [lX5_columnsThatShow_20] at h; cases h
  | succ n ih =>
    intro x24 x25 z h K
    rw [lX5_columnsThatShow_20] at h
    refine v_iload hC 20 6 dX5_columnsThatShow_20 rfl ?_
    refine v_aload_n hC 22 0 dX5_columnsThatShow_22 rfl ?_
    obtain ⟨x26, ex26, h⟩ := obn h
    refine gRX5_24 hC rfl 23 ex26 dX5_columnsThatShow_23 ?_
    refine v_icmp_ge hC 26 78 dX5_columnsThatShow_26 (by decide) (fun c34 => ?_) (fun c34 => ?_)
    · replace h := ifp h c34
      refine v_sub [(0, va_rf r0), (1, va_rf r1), (2, .int x2), (3, .int x3), (4, .int x4), (5, .int x24)] [0, 1, 2, 3, 4, 5] rfl ?_
      exact K _ (sp1 h)
    · replace h := ifn h c34
      refine v_aload_n hC 29 1 dX5_columnsThatShow_29 rfl ?_
      refine v_iload hC 30 4 dX5_columnsThatShow_30 rfl ?_
      refine v_iload hC 32 6 dX5_columnsThatShow_32 rfl ?_
      obtain ⟨x27, ex27, h⟩ := obn h
      refine qX5_54 hC rfl 34 ex27 (by decide) (catL (Nat.le_of_ble_eq_true rfl)) (by decide) dX5_columnsThatShow_34 ?_
      refine v_istore hC [(7, .int x27), (0, va_rf r0), (1, va_rf r1), (2, .int x2), (3, .int x3), (4, .int x4), (5, .int x24), (6, .int x25)] 37 dX5_columnsThatShow_37 (by decide) rfl ?_
      refine v_iload hC 39 6 dX5_columnsThatShow_39 rfl ?_
      obtain ⟨j70, f70, h⟩ := onm h
      have J70 : ∀ (x28 : Int32), j70 x28 = some z → V g w 8 (Qm g w rmX5_columnsThatShow.cells rmX5_columnsThatShow.slots (some (.int v0)) S) S 0 0 70 [(0, va_rf r0), (1, va_rf r1), (2, .int x2), (3, .int x3), (4, .int x4), (6, .int x25)] [.int x28] := by
        intro x28 h
        replace h := jb1 f70 h
        refine v_istore hC [(5, .int x28), (0, va_rf r0), (1, va_rf r1), (2, .int x2), (3, .int x3), (4, .int x4), (6, .int x25)] 70 dX5_columnsThatShow_70 (by decide) rfl ?_
        obtain ⟨x29, ex29, h⟩ := onm h
        refine v_iinc hC x29 [(6, .int x29), (5, .int x28), (0, va_rf r0), (1, va_rf r1), (2, .int x2), (3, .int x3), (4, .int x4)] 72 6 dX5_columnsThatShow_72 rfl (by rw [ex29]; rfl) (by decide) rfl ?_
        refine v_goto hC 75 20 dX5_columnsThatShow_75 (by decide) ?_
        refine v_sub [(0, va_rf r0), (1, va_rf r1), (2, .int x2), (3, .int x3), (4, .int x4), (5, .int x28), (6, .int x29)] [2, 3, 4, 5, 6, 1, 0] rfl ?_
        exact ih _ _ _ h K
      obtain ⟨j69, f69, h⟩ := onm h
      have J69 : ∀ (u9 : Unit), j69 u9 = some z → V g w 8 (Qm g w rmX5_columnsThatShow.cells rmX5_columnsThatShow.slots (some (.int v0)) S) S 0 0 69 [(0, va_rf r0), (1, va_rf r1), (2, .int x2), (3, .int x3), (4, .int x4), (6, .int x25)] [] := by
        intro u9 h
        replace h := jb1 f69 h
        refine v_iconst hC (0 : Int32) 69 dX5_columnsThatShow_69 (by decide) ?_
        refine v_sub [(0, va_rf r0), (1, va_rf r1), (2, .int x2), (3, .int x3), (4, .int x4), (6, .int x25)] [0, 1, 2, 3, 4, 5] rfl ?_
        exact J70 _ h
      refine v_if_eq hC 41 69 dX5_columnsThatShow_41 (by decide) (fun c33 => ?_) (fun c33 => ?_)
      · replace h := ifp h c33
        refine v_sub [(0, va_rf r0), (1, va_rf r1), (2, .int x2), (3, .int x3), (4, .int x4), (6, .int x25)] [1, 2, 3, 4, 5, 7] rfl ?_
        exact J69 _ h
      · replace h := ifn h c33
        refine v_iload hC 44 0 dX5_columnsThatShow_44 rfl ?_
        refine v_bipush hC (-9 : Int32) 46 dX5_columnsThatShow_46 (by decide) ?_
        obtain ⟨j65, f65, h⟩ := onm h
        have J65 : ∀ (u9 : Unit), j65 u9 = some z → V g w 8 (Qm g w rmX5_columnsThatShow.cells rmX5_columnsThatShow.slots (some (.int v0)) S) S 0 0 65 [(0, va_rf r0), (1, va_rf r1), (2, .int x2), (3, .int x3), (4, .int x4), (6, .int x25)] [] := by
          intro u9 h
          replace h := jb1 f65 h
          refine v_iconst hC (1 : Int32) 65 dX5_columnsThatShow_65 (by decide) ?_
          refine v_goto hC 66 70 dX5_columnsThatShow_66 (by decide) ?_
          refine v_sub [(0, va_rf r0), (1, va_rf r1), (2, .int x2), (3, .int x3), (4, .int x4), (6, .int x25)] [0, 1, 2, 3, 4, 5] rfl ?_
          exact J70 _ h
        refine v_icmp_eq hC 48 65 dX5_columnsThatShow_48 (by decide) (fun c32 => ?_) (fun c32 => ?_)
        · replace h := ifp h c32
          refine v_sub [(0, va_rf r0), (1, va_rf r1), (2, .int x2), (3, .int x3), (4, .int x4), (6, .int x25)] [1, 2, 3, 4, 5, 7] rfl ?_
          exact J65 _ h
        · replace h := ifn h c32
          refine v_iload hC 51 0 dX5_columnsThatShow_51 rfl ?_
          refine v_aload_n hC 53 1 dX5_columnsThatShow_53 rfl ?_
          refine v_iload hC 54 5 dX5_columnsThatShow_54 rfl ?_
          refine v_iload hC 56 7 dX5_columnsThatShow_56 rfl ?_
          refine v_iload_n hC 58 3 dX5_columnsThatShow_58 rfl ?_
          obtain ⟨x30, ex30, h⟩ := obn h
          refine qX5_65 hC rfl 59 ex30 (by decide) (catL (Nat.le_of_ble_eq_true rfl)) (by decide) dX5_columnsThatShow_59 ?_
          refine v_icmp_ne hC 62 69 dX5_columnsThatShow_62 (by decide) (fun c31 => ?_) (fun c31 => ?_)
          · replace h := ifp h c31
            refine v_sub [(0, va_rf r0), (1, va_rf r1), (2, .int x2), (3, .int x3), (4, .int x4), (6, .int x25)] [1, 2, 3, 4, 5, 7] rfl ?_
            exact J69 _ h
          · replace h := ifn h (fun q => q c31)
            refine v_sub [(0, va_rf r0), (1, va_rf r1), (2, .int x2), (3, .int x3), (4, .int x4), (6, .int x25)] [1, 2, 3, 4, 5, 7] rfl ?_
            exact J65 _ h
set_option maxHeartbeats 1000000 in
set_option maxRecDepth 20000 in
theorem kX5_columnsThatShow_5 {g : VG} {w : VW} {N : Nat} {S : pH} {r0 : Option Nat} {r1 : Option Nat} {x2 : Int32} {v0 : Int32} (hC : Cx g yX5_columnsThatShow cX5_columnsThatShow 8 (some .int) rmX5_columnsThatShow w) : ∀ (n : Nat) (x21 : Int32) (x22 : Int32) (z : (Int32)), lX5_columnsThatShow_5 N S r0 r1 x2 n x21 x22 = some z → (∀ (e0 : Int32), z = e0 → V g w 8 (Qm g w rmX5_columnsThatShow.cells rmX5_columnsThatShow.slots (some (.int v0)) S) S 0 0 96 [(3, .int e0)] []) → V g w 8 (Qm g w rmX5_columnsThatShow.cells rmX5_columnsThatShow.slots (some (.int v0)) S) S 0 0 5 [(0, va_rf r0), (1, va_rf r1), (2, .int x2), (3, .int x21), (4, .int x22)] [] := by
  intro n
  induction n with
  | zero => intro x21 x22 z h; rw [lX5_columnsThatShow_5] at h; cases h
  | succ n ih =>
    intro x21 x22 z h K
    rw [lX5_columnsThatShow_5] at h
    refine v_iload hC 5 4 dX5_columnsThatShow_5 rfl ?_
    refine v_aload_n hC 7 0 dX5_columnsThatShow_7 rfl ?_
    obtain ⟨x23, ex23, h⟩ := obn h
    refine gRX5_24 hC rfl 8 ex23 dX5_columnsThatShow_8 ?_
    refine v_icmp_ge hC 11 96 dX5_columnsThatShow_11 (by decide) (fun c40 => ?_) (fun c40 => ?_)
    · replace h := ifp h c40
      refine v_sub [(3, .int x21)] [3] rfl ?_
      exact K _ (sp1 h)
    · replace h := ifn h c40
      refine v_iconst hC (1 : Int32) 14 dX5_columnsThatShow_14 (by decide) ?_
      refine v_istore hC [(5, .int (1 : Int32)), (0, va_rf r0), (1, va_rf r1), (2, .int x2), (3, .int x21), (4, .int x22)] 15 dX5_columnsThatShow_15 (by decide) rfl ?_
      refine v_iconst hC (0 : Int32) 17 dX5_columnsThatShow_17 (by decide) ?_
      refine v_istore hC [(6, .int (0 : Int32)), (5, .int (1 : Int32)), (0, va_rf r0), (1, va_rf r1), (2, .int x2), (3, .int x21), (4, .int x22)] 18 dX5_columnsThatShow_18 (by decide) rfl ?_
      obtain ⟨x35, E20, h⟩ := obn h
      refine v_sub [(0, va_rf r0), (1, va_rf r1), (2, .int x2), (3, .int x21), (4, .int x22), (5, .int (1 : Int32)), (6, .int (0 : Int32))] [2, 3, 4, 5, 6, 1, 0] rfl ?_
      refine kX5_columnsThatShow_20 hC _ _ _ _ E20 (fun _ hz9 => ?_)
      cases hz9
      refine v_iload hC 78 5 dX5_columnsThatShow_78 rfl ?_
      obtain ⟨j90, f90, h⟩ := onm h
      have J90 : ∀ (x36 : Int32), j90 x36 = some z → V g w 8 (Qm g w rmX5_columnsThatShow.cells rmX5_columnsThatShow.slots (some (.int v0)) S) S 0 0 90 [(0, va_rf r0), (1, va_rf r1), (2, .int x2), (3, .int x36), (4, .int x22)] [] := by
        intro x36 h
        replace h := jb1 f90 h
        obtain ⟨x37, ex37, h⟩ := onm h
        refine v_iinc hC x37 [(4, .int x37), (0, va_rf r0), (1, va_rf r1), (2, .int x2), (3, .int x36)] 90 4 dX5_columnsThatShow_90 rfl (by rw [ex37]; rfl) (by decide) rfl ?_
        refine v_goto hC 93 5 dX5_columnsThatShow_93 (by decide) ?_
        refine v_sub [(0, va_rf r0), (1, va_rf r1), (2, .int x2), (3, .int x36), (4, .int x37)] [1, 2, 3, 4, 0] rfl ?_
        exact ih _ _ _ h K
      refine v_if_eq hC 80 90 dX5_columnsThatShow_80 (by decide) (fun c39 => ?_) (fun c39 => ?_)
      · replace h := ifp h c39
        refine v_sub [(0, va_rf r0), (1, va_rf r1), (2, .int x2), (3, .int x21), (4, .int x22)] [0, 1, 2, 3, 4] rfl ?_
        exact J90 _ h
      · replace h := ifn h c39
        refine v_iload_n hC 83 3 dX5_columnsThatShow_83 rfl ?_
        refine v_iconst hC (1 : Int32) 84 dX5_columnsThatShow_84 (by decide) ?_
        refine v_iload hC 85 4 dX5_columnsThatShow_85 rfl ?_
        refine v_ishl hC 87 dX5_columnsThatShow_87 ?_
        refine v_ior hC 88 dX5_columnsThatShow_88 ?_
        obtain ⟨x38, ex38, h⟩ := onm h
        refine v_topi x38 ex38 ?_
        refine v_istore_n hC [(3, .int x38), (0, va_rf r0), (1, va_rf r1), (2, .int x2), (4, .int x22), (5, .int x35)] 89 dX5_columnsThatShow_89 (by decide) rfl ?_
        refine v_sub [(0, va_rf r0), (1, va_rf r1), (2, .int x2), (3, .int x38), (4, .int x22)] [1, 2, 3, 0, 4] rfl ?_
        exact J90 _ h
set_option maxHeartbeats 1000000 in
set_option maxRecDepth 20000 in
theorem tX5_columnsThatShow {l : Launch} {w : VW} {N : Nat} {S : pH} {r0 : Option Nat} {r1 : Option Nat} {x2 : Int32} {v0 : Int32} (h : fX5_columnsThatShow N S r0 r1 x2 = some v0) : CT l w yX5_columnsThatShow cX5_columnsThatShow 8 (some .int) rmX5_columnsThatShow [va_rf r0, va_rf r1, .int x2] S (some (.int v0)) S := by
  refine v_entry [(0, va_rf r0), (1, va_rf r1), (2, .int x2)] (by decide) (by simp [lg_sl, cat_rf, cat_i, cat_j]) (by simp [lv_args, cat_rf, cat_i, cat_j]) (fun g _ hC => ?_)
  unfold fX5_columnsThatShow at h
  obtain ⟨hO, h⟩ := chk_spec h
  refine v_iconst hC (0 : Int32) 0 dX5_columnsThatShow_0 (by decide) ?_
  refine v_istore_n hC [(3, .int (0 : Int32)), (0, va_rf r0), (1, va_rf r1), (2, .int x2)] 1 dX5_columnsThatShow_1 (by decide) rfl ?_
  refine v_iconst hC (0 : Int32) 2 dX5_columnsThatShow_2 (by decide) ?_
  refine v_istore hC [(4, .int (0 : Int32)), (3, .int (0 : Int32)), (0, va_rf r0), (1, va_rf r1), (2, .int x2)] 3 dX5_columnsThatShow_3 (by decide) rfl ?_
  obtain ⟨x41, E5, h⟩ := obn h
  refine v_sub [(0, va_rf r0), (1, va_rf r1), (2, .int x2), (3, .int (0 : Int32)), (4, .int (0 : Int32))] [2, 3, 4, 1, 0] rfl ?_
  refine kX5_columnsThatShow_5 hC _ _ _ _ E5 (fun _ hz9 => ?_)
  cases hz9
  refine v_iload_n hC 96 0 dX5_columnsThatShow_96 rfl ?_
  obtain rfl := sp1 h
  exact v_iret hC 97 (by decide) (by decide) dX5_columnsThatShow_97
set_option maxRecDepth 20000 in
theorem qX5_28 {g : VG} {w : VW} {nL : Nat} {Q : State → Prop} {S : pH} {kc ks : Nat} {lv : List (Nat × Value)} {rest : List Value} {y : MethodName} {cc : ByteArray} {rt : Option FieldType} {rm : Room} (hC : Cx g y cc nL rt rm w) (hy : y.cls = RX5) (pc : Nat) {N : Nat} {r0 : Option Nat} {x1 : Int32} {S0 : pH} (h : fJ7_fill_53178 N S r0 x1 = some S0) (hR : rmJ7_fill_53178.frames + 1 ≤ rm.frames ∧ 8 + (4 + 11) + rmJ7_fill_53178.locals ≤ rm.locals) (hst : (rest.map fun v => v.category).sum ≤ 8) (hf : kc + 0 ≤ rm.cells ∧ ks + 0 ≤ rm.slots) (d : decode cc pc = .ok (.invokestatic 28, 3)) (K : V g w nL Q S0 kc ks (pc + 3) lv (rest)) : V g w nL Q S kc ks pc lv (.int x1 :: va_rf r0 :: rest) := by
  exact v_callS (As := [va_rf r0, .int x1]) (rest := rest) hC pc (tJ7_fill_53178 (l := g.2.1) (w := w) h) wG172 (by rw [hy]; exact wG264) wG174 wG173 hdJ7_fill_53178 rfl hR hst hf d K
abbrev rmX5_init : Room := { frames := 1, cells := 1, slots := 64, locals := 23 }
theorem hdX5_init : yX5_init.cls ≠ "java/lang/invoke/MethodHandle" ∧ yX5_init.cls ≠ "java/lang/invoke/VarHandle" ∧ (parseMethodDescriptor yX5_init.desc).map (fun d => d.parameters.length) = some 2 := by decide +kernel
def fX5_init (N : Nat) (b : Nat) (S : pH) (r0 : Option Nat) (x1 : Int32) (x2 : Int32) : Option (pH) :=
  chk S 5 r0 <|
  nm (b + S.1) fun q21 =>
  nm (puS b S (pI 64 (fun _ => 0))) fun S22 =>
  (pfV S22 5 0 r0 (va_rf (some q21))).bind fun S23 =>
  (pfV S23 5 1 r0 (.int (mmax (1 : Int32) (mmin x1 (8 : Int32))))).bind fun S24 =>
  (gfR S24 5 0 r0).bind fun r25 =>
  (fJ7_fill_53178 N S24 r25 x2).bind fun S26 =>
  some S26
theorem oX5_init {b : Nat} {N : Nat} {S : pH} {r0 : Option Nat} {x1 : Int32} {x2 : Int32} {z : pH} (h : fX5_init N b S r0 x1 x2 = some z) : ∃ fs, obj S 5 r0 = some fs := by
  unfold fX5_init at h
  exact (chk_spec h).1
set_option maxHeartbeats 1000000 in
set_option maxRecDepth 20000 in
theorem tX5_init {l : Launch} {w : VW} {N : Nat} {S : pH} {r0 : Option Nat} {x1 : Int32} {x2 : Int32} {S0 : pH} (h : fX5_init N w.2.2 S r0 x1 x2 = some S0) : CT l w yX5_init cX5_init 3 none rmX5_init [va_rf r0, .int x1, .int x2] S none S0 := by
  refine v_entry [(0, va_rf r0), (1, .int x1), (2, .int x2)] (by decide) (by simp [lg_sl, cat_rf, cat_i, cat_j]) (by simp [lv_args, cat_rf, cat_i, cat_j]) (fun g _ hC => ?_)
  unfold fX5_init at h
  obtain ⟨hO, h⟩ := chk_spec h
  refine v_aload_n hC 0 0 dX5_init_0 rfl ?_
  refine v_objInit hC 1 wG55 wG20 wG21 (chk_ne hO) (by decide) (by simp [cat_rf, cat_i, cat_j]) dX5_init_1 ?_
  refine v_aload_n hC 4 0 dX5_init_4 rfl ?_
  refine v_bipush hC (64 : Int32) 5 dX5_init_5 (by decide) ?_
  obtain ⟨q21, eq21, h⟩ := onm h
  obtain ⟨S22, eS22, h⟩ := onm h
  refine v_newI hC 64 7 wG22 (by decide) (by decide) (by decide) (by decide) (by decide) dX5_init_7 ?_
  refine v_nw eq21 eS22 ?_
  obtain ⟨S23, eS23, h⟩ := obn h
  refine pRX5_9 hC rfl 9 rfl eS23 dX5_init_9 ?_
  refine v_aload_n hC 12 0 dX5_init_12 rfl ?_
  refine v_iconst hC (1 : Int32) 13 dX5_init_13 (by decide) ?_
  refine v_iload_n hC 14 1 dX5_init_14 rfl ?_
  refine v_bipush hC (8 : Int32) 15 dX5_init_15 (by decide) ?_
  refine v_mmin hC 17 wG56 wG12 wG13 wG14 (by decide) (Nat.le_of_ble_eq_true rfl) (by decide) (by decide) dX5_init_17 ?_
  refine v_mmax hC 20 wG57 wG58 wG13 wG59 (by decide) (Nat.le_of_ble_eq_true rfl) (by decide) (by decide) dX5_init_20 ?_
  obtain ⟨S24, eS24, h⟩ := obn h
  refine pRX5_24 hC rfl 23 eS24 dX5_init_23 ?_
  refine v_aload_n hC 26 0 dX5_init_26 rfl ?_
  obtain ⟨r25, er25, h⟩ := obn h
  refine gRX5_9 hC rfl 27 er25 dX5_init_27 ?_
  refine v_iload_n hC 30 2 dX5_init_30 rfl ?_
  obtain ⟨S26, eS26, h⟩ := obn h
  refine qX5_28 hC rfl 31 eS26 (by decide) (catL (Nat.le_of_ble_eq_true rfl)) (by decide) dX5_init_31 ?_
  obtain rfl := sp1 h
  exact v_vret hC 34 (by decide) (by decide) dX5_init_34
set_option maxRecDepth 20000 in
theorem qX5_34 {g : VG} {w : VW} {nL : Nat} {Q : State → Prop} {S : pH} {kc ks : Nat} {lv : List (Nat × Value)} {rest : List Value} {y : MethodName} {cc : ByteArray} {rt : Option FieldType} {rm : Room} (hC : Cx g y cc nL rt rm w) (hy : y.cls = RX5) (pc : Nat) {N : Nat} {r0 : Option Nat} {x1 : Int32} {x2 : Int32} {S0 : pH} (h : fX5_init N w.2.2 S r0 x1 x2 = some S0) (hR : rmX5_init.frames + 1 ≤ rm.frames ∧ 8 + (3 + 11) + rmX5_init.locals ≤ rm.locals) (hst : (rest.map fun v => v.category).sum ≤ 8) (hf : kc + 1 ≤ rm.cells ∧ ks + 64 ≤ rm.slots) (d : decode cc pc = .ok (.invokespecial 34, 3)) (K : V g w nL Q S0 (kc + 1) (ks + 64) (pc + 3) lv (rest)) : V g w nL Q S kc ks pc lv (.int x2 :: .int x1 :: va_rf r0 :: rest) := by
  obtain ⟨fs, ho⟩ := oX5_init h
  exact v_callI (As := [.int x1, .int x2]) (rest := rest) hC pc (tX5_init (l := g.2.1) (w := w) h) ho wG266 (by rw [hy]; exact wG265) wG267 wG62 rfl hdX5_init rfl hR hst hf d K
abbrev rmX5_copy : Room := { frames := 2, cells := 2, slots := 66, locals := 45 }
theorem hdX5_copy : yX5_copy.cls ≠ "java/lang/invoke/MethodHandle" ∧ yX5_copy.cls ≠ "java/lang/invoke/VarHandle" ∧ (parseMethodDescriptor yX5_copy.desc).map (fun d => d.parameters.length) = some 0 := by decide +kernel
def fX5_copy (N : Nat) (b : Nat) (S : pH) (r0 : Option Nat) : Option (Option Nat × pH) :=
  chk S 5 r0 <|
  nm (b + S.1) fun q21 =>
  nm (puS b S (pO 5 [.null, .int 0])) fun S22 =>
  (gfI S22 5 1 r0).bind fun x23 =>
  (fX5_init N b S22 (some q21) x23 (0 : Int32)).bind fun S24 =>
  nm (some q21) fun r25 =>
  (gfR S24 5 0 r0).bind fun r26 =>
  (gfR S24 5 0 r25).bind fun r27 =>
  (cpI S24 r26 (0 : Int32) r27 (0 : Int32) (64 : Int32)).bind fun S28 =>
  some (r25, S28)
theorem oX5_copy {b : Nat} {N : Nat} {S : pH} {r0 : Option Nat} {z : Option Nat × pH} (h : fX5_copy N b S r0 = some z) : ∃ fs, obj S 5 r0 = some fs := by
  unfold fX5_copy at h
  exact (chk_spec h).1
set_option maxHeartbeats 1000000 in
set_option maxRecDepth 20000 in
theorem tX5_copy {l : Launch} {w : VW} {N : Nat} {S : pH} {r0 : Option Nat} {v0 : Option Nat} {S0 : pH} (h : fX5_copy N w.2.2 S r0 = some (v0, S0)) : CT l w yX5_copy cX5_copy 2 (some (.object "CaneHouse$Picture")) rmX5_copy [va_rf r0] S (some (va_rf v0)) S0 := by
  refine v_entry [(0, va_rf r0)] (by decide) (by simp [lg_sl, cat_rf, cat_i, cat_j]) (by simp [lv_args, cat_rf, cat_i, cat_j]) (fun g _ hC => ?_)
  unfold fX5_copy at h
  obtain ⟨hO, h⟩ := chk_spec h
  obtain ⟨q21, eq21, h⟩ := onm h
  obtain ⟨S22, eS22, h⟩ := onm h
  refine v_new hC (ci := 5) [.null, .int 0] 0 rfl inG5 tyX5 tyX5_ok wG60 wG61 wG62 dfl5 (by decide) (by decide) dX5_copy_0 ?_
  refine v_nw eq21 eS22 ?_
  refine v_dup hC 3 (cat_rf _) dX5_copy_3 ?_
  refine v_aload_n hC 4 0 dX5_copy_4 rfl ?_
  obtain ⟨x23, ex23, h⟩ := obn h
  refine gRX5_24 hC rfl 5 ex23 dX5_copy_5 ?_
  refine v_iconst hC (0 : Int32) 8 dX5_copy_8 (by decide) ?_
  obtain ⟨S24, eS24, h⟩ := obn h
  refine qX5_34 hC rfl 9 eS24 (by decide) (catL (Nat.le_of_ble_eq_true rfl)) (by decide) dX5_copy_9 ?_
  obtain ⟨r25, er25, h⟩ := onm h
  refine v_topr r25 er25 ?_
  refine v_astore_n hC [(1, va_rf r25), (0, va_rf r0)] 12 dX5_copy_12 (by decide) (by first | rfl | (simp [cat_rf, cat_i, cat_j]; done) | (simp [cat_rf, cat_i, cat_j]; decide)) ?_
  refine v_aload_n hC 13 1 dX5_copy_13 rfl ?_
  obtain ⟨r26, er26, h⟩ := obn h
  refine gRX5_9 hC rfl 14 er26 dX5_copy_14 ?_
  refine v_iconst hC (0 : Int32) 17 dX5_copy_17 (by decide) ?_
  refine v_aload_n hC 18 0 dX5_copy_18 rfl ?_
  obtain ⟨r27, er27, h⟩ := obn h
  refine gRX5_9 hC rfl 19 er27 dX5_copy_19 ?_
  refine v_iconst hC (0 : Int32) 22 dX5_copy_22 (by decide) ?_
  refine v_bipush hC (64 : Int32) 23 dX5_copy_23 (by decide) ?_
  obtain ⟨S28, eS28, h⟩ := obn h
  refine v_acopy hC 25 wG63 wG64 wG65 wG66 eS28 (by decide) (by decide +kernel) dX5_copy_25 ?_
  refine v_aload_n hC 28 0 dX5_copy_28 rfl ?_
  obtain ⟨rfl, rfl⟩ := sp2 h
  exact v_aret hC 29 (by decide) (by decide) dX5_copy_29
set_option maxRecDepth 20000 in
theorem qX5_57 {g : VG} {w : VW} {nL : Nat} {Q : State → Prop} {S : pH} {kc ks : Nat} {lv : List (Nat × Value)} {rest : List Value} {y : MethodName} {cc : ByteArray} {rt : Option FieldType} {rm : Room} (hC : Cx g y cc nL rt rm w) (hy : y.cls = RX5) (pc : Nat) {N : Nat} {r0 : Option Nat} {x1 : Int32} {v0 : Int32} (h : fX5_cellsOf N S r0 x1 = some v0) (hR : rmX5_cellsOf.frames + 1 ≤ rm.frames ∧ 8 + (5 + 11) + rmX5_cellsOf.locals ≤ rm.locals) (hst : (rest.map fun v => v.category).sum ≤ 8) (hf : kc + 0 ≤ rm.cells ∧ ks + 0 ≤ rm.slots) (d : decode cc pc = .ok (.invokevirtual 57, 3)) (K : V g w nL Q S kc ks (pc + 3) lv (.int v0 :: rest)) : V g w nL Q S kc ks pc lv (.int x1 :: va_rf r0 :: rest) := by
  obtain ⟨fs, ho⟩ := oX5_cellsOf h
  exact v_callV (As := [.int x1]) (rest := rest) (ci := 5) hC pc (tX5_cellsOf (l := g.2.1) (w := w) h) rfl (by decide) ho wG269 (by rw [hy]; exact wG268) wG270 wG271 wG62 hdX5_cellsOf rfl hR hst hf d K
abbrev rmX5_glassCells : Room := { frames := 3, cells := 0, slots := 0, locals := 68 }
theorem hdX5_glassCells : yX5_glassCells.cls ≠ "java/lang/invoke/MethodHandle" ∧ yX5_glassCells.cls ≠ "java/lang/invoke/VarHandle" ∧ (parseMethodDescriptor yX5_glassCells.desc).map (fun d => d.parameters.length) = some 0 := by decide +kernel
def fX5_glassCells (N : Nat) (S : pH) (r0 : Option Nat) : Option (Int32) :=
  chk S 5 r0 <|
  (gfI S 5 1 r0).bind fun x21 =>
  (gfI S 5 1 r0).bind fun x22 =>
  (fX5_cellsOf N S r0 (0 : Int32)).bind fun x23 =>
  some ((x21 * x22) - x23)
theorem oX5_glassCells {N : Nat} {S : pH} {r0 : Option Nat} {z : Int32} (h : fX5_glassCells N S r0 = some z) : ∃ fs, obj S 5 r0 = some fs := by
  unfold fX5_glassCells at h
  exact (chk_spec h).1
set_option maxHeartbeats 1000000 in
set_option maxRecDepth 20000 in
theorem tX5_glassCells {l : Launch} {w : VW} {N : Nat} {S : pH} {r0 : Option Nat} {v0 : Int32} (h : fX5_glassCells N S r0 = some v0) : CT l w yX5_glassCells cX5_glassCells 1 (some .int) rmX5_glassCells [va_rf r0] S (some (.int v0)) S := by
  refine v_entry [(0, va_rf r0)] (by decide) (by simp [lg_sl, cat_rf, cat_i, cat_j]) (by simp [lv_args, cat_rf, cat_i, cat_j]) (fun g _ hC => ?_)
  unfold fX5_glassCells at h
  obtain ⟨hO, h⟩ := chk_spec h
  refine v_aload_n hC 0 0 dX5_glassCells_0 rfl ?_
  obtain ⟨x21, ex21, h⟩ := obn h
  refine gRX5_24 hC rfl 1 ex21 dX5_glassCells_1 ?_
  refine v_aload_n hC 4 0 dX5_glassCells_4 rfl ?_
  obtain ⟨x22, ex22, h⟩ := obn h
  refine gRX5_24 hC rfl 5 ex22 dX5_glassCells_5 ?_
  refine v_imul hC 8 dX5_glassCells_8 ?_
  refine v_aload_n hC 9 0 dX5_glassCells_9 rfl ?_
  refine v_iconst hC (0 : Int32) 10 dX5_glassCells_10 (by decide) ?_
  obtain ⟨x23, ex23, h⟩ := obn h
  refine qX5_57 hC rfl 11 ex23 (by decide) (catL (Nat.le_of_ble_eq_true rfl)) (by decide) dX5_glassCells_11 ?_
  refine v_isub hC 14 dX5_glassCells_14 ?_
  obtain rfl := sp1 h
  exact v_iret hC 15 (by decide) (by decide) dX5_glassCells_15
abbrev rmX5_paint : Room := { frames := 3, cells := 0, slots := 0, locals := 67 }
theorem hdX5_paint : yX5_paint.cls ≠ "java/lang/invoke/MethodHandle" ∧ yX5_paint.cls ≠ "java/lang/invoke/VarHandle" ∧ (parseMethodDescriptor yX5_paint.desc).map (fun d => d.parameters.length) = some 4 := by decide +kernel
def lX5_paint_15 (N : Nat) (r0 : Option Nat) (x1 : Int32) (x2 : Int32) (r3 : Option Nat) (x4 : Int32) (x5 : Int32) : Nat → Int32 → pH → Option (pH)
  | 0, _, _ => none
  | n + 1, x24, S25 =>
    (gfI S25 5 1 r3).bind fun x26 =>
    if x26 ≤ x24 then
    (some S25)
    else
    (fX5_atTurned N S25 r3 x24 x5 x4).bind fun x27 =>
    b2 (fX5_put N S25 r0 (x1 + x24) (x2 + x5) x27) fun x28 S29 =>
    nm (x24 + (1 : Int32)) fun x30 =>
    lX5_paint_15 N r0 x1 x2 r3 x4 x5 n x30 S29
def lX5_paint_3 (N : Nat) (r0 : Option Nat) (x1 : Int32) (x2 : Int32) (r3 : Option Nat) (x4 : Int32) : Nat → Int32 → pH → Option (pH)
  | 0, _, _ => none
  | n + 1, x21, S22 =>
    (gfI S22 5 1 r3).bind fun x23 =>
    if x23 ≤ x21 then
    (some S22)
    else
    (lX5_paint_15 N r0 x1 x2 r3 x4 x21 N (0 : Int32) S22).bind fun S32 =>
    nm (x21 + (1 : Int32)) fun x33 =>
    lX5_paint_3 N r0 x1 x2 r3 x4 n x33 S32
def fX5_paint (N : Nat) (S : pH) (r0 : Option Nat) (x1 : Int32) (x2 : Int32) (r3 : Option Nat) (x4 : Int32) : Option (pH) :=
  chk S 5 r0 <|
  (lX5_paint_3 N r0 x1 x2 r3 x4 N (0 : Int32) S).bind fun S35 =>
  some S35
theorem oX5_paint {N : Nat} {S : pH} {r0 : Option Nat} {x1 : Int32} {x2 : Int32} {r3 : Option Nat} {x4 : Int32} {z : pH} (h : fX5_paint N S r0 x1 x2 r3 x4 = some z) : ∃ fs, obj S 5 r0 = some fs := by
  unfold fX5_paint at h
  exact (chk_spec h).1
set_option maxHeartbeats 1000000 in
set_option maxRecDepth 20000 in
theorem kX5_paint_15 {g : VG} {w : VW} {N : Nat} {r0 : Option Nat} {x1 : Int32} {x2 : Int32} {r3 : Option Nat} {x4 : Int32} {x5 : Int32} {S0 : pH} (hC : Cx g yX5_paint cX5_paint 7 none rmX5_paint w) : ∀ (n : Nat) (x24 : Int32) (S25 : pH) (z : (pH)), lX5_paint_15 N r0 x1 x2 r3 x4 x5 n x24 S25 = some z → (∀ (e0 : pH), z = e0 → V g w 7 (Qm g w rmX5_paint.cells rmX5_paint.slots none S0) e0 0 0 53 [(0, va_rf r0), (1, .int x1), (2, .int x2), (3, va_rf r3), (4, .int x4), (5, .int x5)] []) → V g w 7 (Qm g w rmX5_paint.cells rmX5_paint.slots none S0) S25 0 0 15 [(0, va_rf r0), (1, .int x1), (2, .int x2), (3, va_rf r3), (4, .int x4), (5, .int x5), (6, .int x24)] [] := by
  intro n
  induction n with
  | zero => intro x24 S25 z h; rw [lX5_paint_15] at h; cases h
  | succ n ih =>
    intro x24 S25 z h K
    rw [lX5_paint_15] at h
    refine v_iload hC 15 6 dX5_paint_15 rfl ?_
    refine v_aload_n hC 17 3 dX5_paint_17 rfl ?_
    obtain ⟨x26, ex26, h⟩ := obn h
    refine gRX5_24 hC rfl 18 ex26 dX5_paint_18 ?_
    refine v_icmp_ge hC 21 53 dX5_paint_21 (by decide) (fun c31 => ?_) (fun c31 => ?_)
    · replace h := ifp h c31
      refine v_sub [(0, va_rf r0), (1, .int x1), (2, .int x2), (3, va_rf r3), (4, .int x4), (5, .int x5)] [0, 1, 2, 3, 4, 5] rfl ?_
      exact K _ (sp1 h)
    · replace h := ifn h c31
      refine v_aload_n hC 24 0 dX5_paint_24 rfl ?_
      refine v_iload_n hC 25 1 dX5_paint_25 rfl ?_
      refine v_iload hC 26 6 dX5_paint_26 rfl ?_
      refine v_iadd hC 28 dX5_paint_28 ?_
      refine v_iload_n hC 29 2 dX5_paint_29 rfl ?_
      refine v_iload hC 30 5 dX5_paint_30 rfl ?_
      refine v_iadd hC 32 dX5_paint_32 ?_
      refine v_aload_n hC 33 3 dX5_paint_33 rfl ?_
      refine v_iload hC 34 6 dX5_paint_34 rfl ?_
      refine v_iload hC 36 5 dX5_paint_36 rfl ?_
      refine v_iload hC 38 4 dX5_paint_38 rfl ?_
      obtain ⟨x27, ex27, h⟩ := obn h
      refine qX5_65 hC rfl 40 ex27 (by decide) (catL (Nat.le_of_ble_eq_true rfl)) (by decide) dX5_paint_40 ?_
      obtain ⟨x28, S29, ex28, h⟩ := ob2 h
      refine qX5_61 hC rfl 43 ex28 (by decide) (catL (Nat.le_of_ble_eq_true rfl)) (by decide) dX5_paint_43 ?_
      refine v_pop hC 46 rfl dX5_paint_46 ?_
      obtain ⟨x30, ex30, h⟩ := onm h
      refine v_iinc hC x30 [(6, .int x30), (0, va_rf r0), (1, .int x1), (2, .int x2), (3, va_rf r3), (4, .int x4), (5, .int x5)] 47 6 dX5_paint_47 rfl (by rw [ex30]; rfl) (by decide) rfl ?_
      refine v_goto hC 50 15 dX5_paint_50 (by decide) ?_
      refine v_sub [(0, va_rf r0), (1, .int x1), (2, .int x2), (3, va_rf r3), (4, .int x4), (5, .int x5), (6, .int x30)] [1, 2, 3, 4, 5, 6, 0] rfl ?_
      exact ih _ _ _ h K
set_option maxHeartbeats 1000000 in
set_option maxRecDepth 20000 in
theorem kX5_paint_3 {g : VG} {w : VW} {N : Nat} {r0 : Option Nat} {x1 : Int32} {x2 : Int32} {r3 : Option Nat} {x4 : Int32} {S0 : pH} (hC : Cx g yX5_paint cX5_paint 7 none rmX5_paint w) : ∀ (n : Nat) (x21 : Int32) (S22 : pH) (z : (pH)), lX5_paint_3 N r0 x1 x2 r3 x4 n x21 S22 = some z → (∀ (e0 : pH), z = e0 → V g w 7 (Qm g w rmX5_paint.cells rmX5_paint.slots none S0) e0 0 0 59 [] []) → V g w 7 (Qm g w rmX5_paint.cells rmX5_paint.slots none S0) S22 0 0 3 [(0, va_rf r0), (1, .int x1), (2, .int x2), (3, va_rf r3), (4, .int x4), (5, .int x21)] [] := by
  intro n
  induction n with
  | zero => intro x21 S22 z h; rw [lX5_paint_3] at h; cases h
  | succ n ih =>
    intro x21 S22 z h K
    rw [lX5_paint_3] at h
    refine v_iload hC 3 5 dX5_paint_3 rfl ?_
    refine v_aload_n hC 5 3 dX5_paint_5 rfl ?_
    obtain ⟨x23, ex23, h⟩ := obn h
    refine gRX5_24 hC rfl 6 ex23 dX5_paint_6 ?_
    refine v_icmp_ge hC 9 59 dX5_paint_9 (by decide) (fun c34 => ?_) (fun c34 => ?_)
    · replace h := ifp h c34
      refine v_sub [] [] rfl ?_
      exact K _ (sp1 h)
    · replace h := ifn h c34
      refine v_iconst hC (0 : Int32) 12 dX5_paint_12 (by decide) ?_
      refine v_istore hC [(6, .int (0 : Int32)), (0, va_rf r0), (1, .int x1), (2, .int x2), (3, va_rf r3), (4, .int x4), (5, .int x21)] 13 dX5_paint_13 (by decide) rfl ?_
      obtain ⟨S32, E15, h⟩ := obn h
      refine v_sub [(0, va_rf r0), (1, .int x1), (2, .int x2), (3, va_rf r3), (4, .int x4), (5, .int x21), (6, .int (0 : Int32))] [1, 2, 3, 4, 5, 6, 0] rfl ?_
      refine kX5_paint_15 hC _ _ _ _ E15 (fun _ hz9 => ?_)
      cases hz9
      obtain ⟨x33, ex33, h⟩ := onm h
      refine v_iinc hC x33 [(5, .int x33), (0, va_rf r0), (1, .int x1), (2, .int x2), (3, va_rf r3), (4, .int x4)] 53 5 dX5_paint_53 rfl (by rw [ex33]; rfl) (by decide) rfl ?_
      refine v_goto hC 56 3 dX5_paint_56 (by decide) ?_
      refine v_sub [(0, va_rf r0), (1, .int x1), (2, .int x2), (3, va_rf r3), (4, .int x4), (5, .int x33)] [1, 2, 3, 4, 5, 0] rfl ?_
      exact ih _ _ _ h K
set_option maxHeartbeats 1000000 in
set_option maxRecDepth 20000 in
theorem tX5_paint {l : Launch} {w : VW} {N : Nat} {S : pH} {r0 : Option Nat} {x1 : Int32} {x2 : Int32} {r3 : Option Nat} {x4 : Int32} {S0 : pH} (h : fX5_paint N S r0 x1 x2 r3 x4 = some S0) : CT l w yX5_paint cX5_paint 7 none rmX5_paint [va_rf r0, .int x1, .int x2, va_rf r3, .int x4] S none S0 := by
  refine v_entry [(0, va_rf r0), (1, .int x1), (2, .int x2), (3, va_rf r3), (4, .int x4)] (by decide) (by simp [lg_sl, cat_rf, cat_i, cat_j]) (by simp [lv_args, cat_rf, cat_i, cat_j]) (fun g _ hC => ?_)
  unfold fX5_paint at h
  obtain ⟨hO, h⟩ := chk_spec h
  refine v_iconst hC (0 : Int32) 0 dX5_paint_0 (by decide) ?_
  refine v_istore hC [(5, .int (0 : Int32)), (0, va_rf r0), (1, .int x1), (2, .int x2), (3, va_rf r3), (4, .int x4)] 1 dX5_paint_1 (by decide) rfl ?_
  obtain ⟨S35, E3, h⟩ := obn h
  refine v_sub [(0, va_rf r0), (1, .int x1), (2, .int x2), (3, va_rf r3), (4, .int x4), (5, .int (0 : Int32))] [1, 2, 3, 4, 5, 0] rfl ?_
  refine kX5_paint_3 hC _ _ _ _ E3 (fun _ hz9 => ?_)
  cases hz9
  obtain rfl := sp1 h
  exact v_vret hC 59 (by decide) (by decide) dX5_paint_59
abbrev rmX5_reset : Room := { frames := 1, cells := 0, slots := 0, locals := 23 }
theorem hdX5_reset : yX5_reset.cls ≠ "java/lang/invoke/MethodHandle" ∧ yX5_reset.cls ≠ "java/lang/invoke/VarHandle" ∧ (parseMethodDescriptor yX5_reset.desc).map (fun d => d.parameters.length) = some 2 := by decide +kernel
def fX5_reset (N : Nat) (S : pH) (r0 : Option Nat) (x1 : Int32) (x2 : Int32) : Option (pH) :=
  chk S 5 r0 <|
  (pfV S 5 1 r0 (.int (mmax (1 : Int32) (mmin x1 (8 : Int32))))).bind fun S21 =>
  (gfR S21 5 0 r0).bind fun r22 =>
  (fJ7_fill_53178 N S21 r22 x2).bind fun S23 =>
  some S23
theorem oX5_reset {N : Nat} {S : pH} {r0 : Option Nat} {x1 : Int32} {x2 : Int32} {z : pH} (h : fX5_reset N S r0 x1 x2 = some z) : ∃ fs, obj S 5 r0 = some fs := by
  unfold fX5_reset at h
  exact (chk_spec h).1
set_option maxHeartbeats 1000000 in
set_option maxRecDepth 20000 in
theorem tX5_reset {l : Launch} {w : VW} {N : Nat} {S : pH} {r0 : Option Nat} {x1 : Int32} {x2 : Int32} {S0 : pH} (h : fX5_reset N S r0 x1 x2 = some S0) : CT l w yX5_reset cX5_reset 3 none rmX5_reset [va_rf r0, .int x1, .int x2] S none S0 := by
  refine v_entry [(0, va_rf r0), (1, .int x1), (2, .int x2)] (by decide) (by simp [lg_sl, cat_rf, cat_i, cat_j]) (by simp [lv_args, cat_rf, cat_i, cat_j]) (fun g _ hC => ?_)
  unfold fX5_reset at h
  obtain ⟨hO, h⟩ := chk_spec h
  refine v_aload_n hC 0 0 dX5_reset_0 rfl ?_
  refine v_iconst hC (1 : Int32) 1 dX5_reset_1 (by decide) ?_
  refine v_iload_n hC 2 1 dX5_reset_2 rfl ?_
  refine v_bipush hC (8 : Int32) 3 dX5_reset_3 (by decide) ?_
  refine v_mmin hC 5 wG56 wG12 wG13 wG14 (by decide) (Nat.le_of_ble_eq_true rfl) (by decide) (by decide) dX5_reset_5 ?_
  refine v_mmax hC 8 wG57 wG58 wG13 wG59 (by decide) (Nat.le_of_ble_eq_true rfl) (by decide) (by decide) dX5_reset_8 ?_
  obtain ⟨S21, eS21, h⟩ := obn h
  refine pRX5_24 hC rfl 11 eS21 dX5_reset_11 ?_
  refine v_aload_n hC 14 0 dX5_reset_14 rfl ?_
  obtain ⟨r22, er22, h⟩ := obn h
  refine gRX5_9 hC rfl 15 er22 dX5_reset_15 ?_
  refine v_iload_n hC 18 2 dX5_reset_18 rfl ?_
  obtain ⟨S23, eS23, h⟩ := obn h
  refine qX5_28 hC rfl 19 eS23 (by decide) (catL (Nat.le_of_ble_eq_true rfl)) (by decide) dX5_reset_19 ?_
  obtain rfl := sp1 h
  exact v_vret hC 22 (by decide) (by decide) dX5_reset_22
abbrev rmX5_samePart : Room := { frames := 2, cells := 0, slots := 0, locals := 44 }
theorem hdX5_samePart : yX5_samePart.cls ≠ "java/lang/invoke/MethodHandle" ∧ yX5_samePart.cls ≠ "java/lang/invoke/VarHandle" ∧ (parseMethodDescriptor yX5_samePart.desc).map (fun d => d.parameters.length) = some 5 := by decide +kernel
def lX5_samePart_52 (N : Nat) (S : pH) (r0 : Option Nat) (x4 : Int32) (x5 : Int32) (x6 : Int32) (x7 : Int32) (x8 : Int32) (x9 : Int32) (x10 : Int32) : Nat → Int32 → Option (Sum (Unit) (Int32))
  | 0, _ => none
  | n + 1, x30 =>
    if x4 ≤ x30 then
    (some (.inl ()))
    else
    (fX8_turnedX N S x30 x10 x5 x4).bind fun x31 =>
    (fX8_turnedY N S x30 x10 x5 x4).bind fun x32 =>
    (fX5_at N S r0 (x6 + x30) (x7 + x10)).bind fun x33 =>
    (fX5_at N S r0 (x8 + x31) (x9 + x32)).bind fun x34 =>
    if x33 = x34 then
    (nm (x30 + (1 : Int32)) fun x35 =>
    lX5_samePart_52 N S r0 x4 x5 x6 x7 x8 x9 x10 n x35)
    else
    some (.inr (0 : Int32))
def lX5_samePart_42 (N : Nat) (S : pH) (r0 : Option Nat) (x4 : Int32) (x5 : Int32) (x6 : Int32) (x7 : Int32) (x8 : Int32) (x9 : Int32) : Nat → Int32 → Option (Sum (Unit) (Int32))
  | 0, _ => none
  | n + 1, x29 =>
    if x4 ≤ x29 then
    (some (.inl ()))
    else
    bS1 (lX5_samePart_52 N S r0 x4 x5 x6 x7 x8 x9 x29 N (0 : Int32)) (fun r9 => some (.inr r9)) fun u9 =>
    nm (x29 + (1 : Int32)) fun x38 =>
    lX5_samePart_42 N S r0 x4 x5 x6 x7 x8 x9 n x38
def fX5_samePart (N : Nat) (S : pH) (r0 : Option Nat) (x1 : Int32) (x2 : Int32) (x3 : Int32) (x4 : Int32) (x5 : Int32) : Option (Int32) :=
  chk S 5 r0 <|
  if (1 : Int32) ≤ x3 then
  (if x3 = 0 then none else
  nm ((x1 - x1 / x3 * x3) * x4) fun x22 =>
  if x3 = 0 then none else
  nm ((x1 / x3) * x4) fun x24 =>
  if x3 = 0 then none else
  nm ((x2 - x2 / x3 * x3) * x4) fun x26 =>
  if x3 = 0 then none else
  nm ((x2 / x3) * x4) fun x28 =>
  bS1 (lX5_samePart_42 N S r0 x4 x5 x22 x24 x26 x28 N (0 : Int32)) (fun r9 => some r9) fun u9 =>
  some (1 : Int32))
  else
  some (0 : Int32)
theorem oX5_samePart {N : Nat} {S : pH} {r0 : Option Nat} {x1 : Int32} {x2 : Int32} {x3 : Int32} {x4 : Int32} {x5 : Int32} {z : Int32} (h : fX5_samePart N S r0 x1 x2 x3 x4 x5 = some z) : ∃ fs, obj S 5 r0 = some fs := by
  unfold fX5_samePart at h
  exact (chk_spec h).1
set_option maxHeartbeats 1000000 in
set_option maxRecDepth 20000 in
theorem kX5_samePart_52 {g : VG} {w : VW} {N : Nat} {S : pH} {r0 : Option Nat} {x4 : Int32} {x5 : Int32} {x6 : Int32} {x7 : Int32} {x8 : Int32} {x9 : Int32} {x10 : Int32} {v0 : Int32} (hC : Cx g yX5_samePart cX5_samePart 14 (some .boolean) rmX5_samePart w) : ∀ (n : Nat) (x30 : Int32) (z : (Sum (Unit) (Int32))), lX5_samePart_52 N S r0 x4 x5 x6 x7 x8 x9 x10 n x30 = some z → (∀ (u9 : Unit), z = .inl u9 → V g w 14 (Qm g w rmX5_samePart.cells rmX5_samePart.slots (some (.int v0)) S) S 0 0 124 [(0, va_rf r0), (4, .int x4), (5, .int x5), (6, .int x6), (7, .int x7), (8, .int x8), (9, .int x9), (10, .int x10)] []) → (∀ (v1 : Int32), z = .inr v1 → v0 = v1) → V g w 14 (Qm g w rmX5_samePart.cells rmX5_samePart.slots (some (.int v0)) S) S 0 0 52 [(0, va_rf r0), (4, .int x4), (5, .int x5), (6, .int x6), (7, .int x7), (8, .int x8), (9, .int x9), (10, .int x10), (11, .int x30)] [] := by
  intro n
  induction n with
  | zero => intro x30 z h; rw [lX5_samePart_52] at h; cases h
  | succ n ih =>
    intro x30 z h K hR
    rw [lX5_samePart_52] at h
    refine v_iload hC 52 8 dX5_samePart_52 rfl ?_
    refine v_iload hC 54 1 dX5_samePart_54 rfl ?_
    refine v_icmp_ge hC 56 124 dX5_samePart_56 (by decide) (fun c37 => ?_) (fun c37 => ?_)
    · replace h := ifp h c37
      refine v_sub [(0, va_rf r0), (4, .int x4), (5, .int x5), (6, .int x6), (7, .int x7), (8, .int x8), (9, .int x9), (10, .int x10)] [0, 1, 2, 3, 4, 5, 6, 7] rfl ?_
      exact K _ (sp1 h)
    · replace h := ifn h c37
      refine v_iload hC 59 8 dX5_samePart_59 rfl ?_
      refine v_iload hC 61 7 dX5_samePart_61 rfl ?_
      refine v_iload hC 63 2 dX5_samePart_63 rfl ?_
      refine v_iload hC 65 1 dX5_samePart_65 rfl ?_
      obtain ⟨x31, ex31, h⟩ := obn h
      refine qX5_47 hC rfl 67 ex31 (by decide) (catL (Nat.le_of_ble_eq_true rfl)) (by decide) dX5_samePart_67 ?_
      refine v_istore hC [(12, .int x31), (0, va_rf r0), (4, .int x4), (5, .int x5), (6, .int x6), (7, .int x7), (8, .int x8), (9, .int x9), (10, .int x10), (11, .int x30)] 70 dX5_samePart_70 (by decide) rfl ?_
      refine v_iload hC 72 9 dX5_samePart_72 rfl ?_
      refine v_iload hC 74 8 dX5_samePart_74 rfl ?_
      refine v_iload hC 76 3 dX5_samePart_76 rfl ?_
      refine v_iload hC 78 2 dX5_samePart_78 rfl ?_
      obtain ⟨x32, ex32, h⟩ := obn h
      refine qX5_51 hC rfl 80 ex32 (by decide) (catL (Nat.le_of_ble_eq_true rfl)) (by decide) dX5_samePart_80 ?_
      refine v_istore hC [(13, .int x32), (12, .int x31), (0, va_rf r0), (4, .int x4), (5, .int x5), (6, .int x6), (7, .int x7), (8, .int x8), (9, .int x9), (10, .int x10), (11, .int x30)] 83 dX5_samePart_83 (by decide) rfl ?_
      refine v_aload_n hC 85 2 dX5_samePart_85 rfl ?_
      refine v_iload hC 86 5 dX5_samePart_86 rfl ?_
      refine v_iload hC 88 10 dX5_samePart_88 rfl ?_
      refine v_iadd hC 90 dX5_samePart_90 ?_
      refine v_iload hC 91 6 dX5_samePart_91 rfl ?_
      refine v_iload hC 93 9 dX5_samePart_93 rfl ?_
      refine v_iadd hC 95 dX5_samePart_95 ?_
      obtain ⟨x33, ex33, h⟩ := obn h
      refine qX5_54 hC rfl 96 ex33 (by decide) (catL (Nat.le_of_ble_eq_true rfl)) (by decide) dX5_samePart_96 ?_
      refine v_aload_n hC 99 2 dX5_samePart_99 rfl ?_
      refine v_iload hC 100 7 dX5_samePart_100 rfl ?_
      refine v_iload hC 102 1 dX5_samePart_102 rfl ?_
      refine v_iadd hC 104 dX5_samePart_104 ?_
      refine v_iload hC 105 8 dX5_samePart_105 rfl ?_
      refine v_iload hC 107 0 dX5_samePart_107 rfl ?_
      refine v_iadd hC 109 dX5_samePart_109 ?_
      obtain ⟨x34, ex34, h⟩ := obn h
      refine qX5_54 hC rfl 110 ex34 (by decide) (catL (Nat.le_of_ble_eq_true rfl)) (by decide) dX5_samePart_110 ?_
      refine v_icmp_eq hC 113 118 dX5_samePart_113 (by decide) (fun c36 => ?_) (fun c36 => ?_)
      · replace h := ifp h c36
        obtain ⟨x35, ex35, h⟩ := onm h
        refine v_iinc hC x35 [(11, .int x35), (13, .int x32), (12, .int x31), (0, va_rf r0), (4, .int x4), (5, .int x5), (6, .int x6), (7, .int x7), (8, .int x8), (9, .int x9), (10, .int x10)] 118 10 dX5_samePart_118 rfl (by rw [ex35]; rfl) (by decide) rfl ?_
        refine v_goto hC 121 52 dX5_samePart_121 (by decide) ?_
        refine v_sub [(0, va_rf r0), (4, .int x4), (5, .int x5), (6, .int x6), (7, .int x7), (8, .int x8), (9, .int x9), (10, .int x10), (11, .int x35)] [3, 4, 5, 6, 7, 8, 9, 10, 0] rfl ?_
        exact ih _ _ h K hR
      · replace h := ifn h c36
        refine v_iconst hC (0 : Int32) 116 dX5_samePart_116 (by decide) ?_
        obtain rfl := hR _ (sp1 h)
        exact v_zret hC 117 (by decide) (by decide) (by decide) dX5_samePart_117
set_option maxHeartbeats 1000000 in
set_option maxRecDepth 20000 in
theorem kX5_samePart_42 {g : VG} {w : VW} {N : Nat} {S : pH} {r0 : Option Nat} {x4 : Int32} {x5 : Int32} {x6 : Int32} {x7 : Int32} {x8 : Int32} {x9 : Int32} {v0 : Int32} (hC : Cx g yX5_samePart cX5_samePart 14 (some .boolean) rmX5_samePart w) : ∀ (n : Nat) (x29 : Int32) (z : (Sum (Unit) (Int32))), lX5_samePart_42 N S r0 x4 x5 x6 x7 x8 x9 n x29 = some z → (∀ (u9 : Unit), z = .inl u9 → V g w 14 (Qm g w rmX5_samePart.cells rmX5_samePart.slots (some (.int v0)) S) S 0 0 130 [] []) → (∀ (v1 : Int32), z = .inr v1 → v0 = v1) → V g w 14 (Qm g w rmX5_samePart.cells rmX5_samePart.slots (some (.int v0)) S) S 0 0 42 [(0, va_rf r0), (4, .int x4), (5, .int x5), (6, .int x6), (7, .int x7), (8, .int x8), (9, .int x9), (10, .int x29)] [] := by
  intro n
  induction n with
  | zero => intro x29 z h; rw [lX5_samePart_42] at h; cases h
  | succ n ih =>
    intro x29 z h K hR
    rw [lX5_samePart_42] at h
    refine v_iload hC 42 7 dX5_samePart_42 rfl ?_
    refine v_iload hC 44 1 dX5_samePart_44 rfl ?_
    refine v_icmp_ge hC 46 130 dX5_samePart_46 (by decide) (fun c39 => ?_) (fun c39 => ?_)
    · replace h := ifp h c39
      refine v_sub [] [] rfl ?_
      exact K _ (sp1 h)
    · replace h := ifn h c39
      refine v_iconst hC (0 : Int32) 49 dX5_samePart_49 (by decide) ?_
      refine v_istore hC [(11, .int (0 : Int32)), (0, va_rf r0), (4, .int x4), (5, .int x5), (6, .int x6), (7, .int x7), (8, .int x8), (9, .int x9), (10, .int x29)] 50 dX5_samePart_50 (by decide) rfl ?_
      rcases obS1 h with ⟨u9, E52, h⟩ | ⟨r9, E52, h⟩
      · refine v_sub [(0, va_rf r0), (4, .int x4), (5, .int x5), (6, .int x6), (7, .int x7), (8, .int x8), (9, .int x9), (10, .int x29), (11, .int (0 : Int32))] [1, 2, 3, 4, 5, 6, 7, 8, 0] rfl ?_
        refine kX5_samePart_52 hC _ _ _ E52 (fun _ hz9 => ?_) (fun _ hz9 => by cases hz9)
        cases hz9
        obtain ⟨x38, ex38, h⟩ := onm h
        refine v_iinc hC x38 [(10, .int x38), (0, va_rf r0), (4, .int x4), (5, .int x5), (6, .int x6), (7, .int x7), (8, .int x8), (9, .int x9)] 124 7 dX5_samePart_124 rfl (by rw [ex38]; rfl) (by decide) rfl ?_
        refine v_goto hC 127 42 dX5_samePart_127 (by decide) ?_
        refine v_sub [(0, va_rf r0), (4, .int x4), (5, .int x5), (6, .int x6), (7, .int x7), (8, .int x8), (9, .int x9), (10, .int x38)] [1, 2, 3, 4, 5, 6, 7, 0] rfl ?_
        exact ih _ _ h K hR
      · refine v_sub [(0, va_rf r0), (4, .int x4), (5, .int x5), (6, .int x6), (7, .int x7), (8, .int x8), (9, .int x9), (10, .int x29), (11, .int (0 : Int32))] [1, 2, 3, 4, 5, 6, 7, 8, 0] rfl ?_
        exact kX5_samePart_52 hC _ _ _ E52 (fun _ hz9 => by cases hz9) (fun _ hz9 => by cases hz9; exact hR _ (sp1 h))
set_option maxHeartbeats 1000000 in
set_option maxRecDepth 20000 in
theorem tX5_samePart {l : Launch} {w : VW} {N : Nat} {S : pH} {r0 : Option Nat} {x1 : Int32} {x2 : Int32} {x3 : Int32} {x4 : Int32} {x5 : Int32} {v0 : Int32} (h : fX5_samePart N S r0 x1 x2 x3 x4 x5 = some v0) : CT l w yX5_samePart cX5_samePart 14 (some .boolean) rmX5_samePart [va_rf r0, .int x1, .int x2, .int x3, .int x4, .int x5] S (some (.int v0)) S := by
  refine v_entry [(0, va_rf r0), (1, .int x1), (2, .int x2), (3, .int x3), (4, .int x4), (5, .int x5)] (by decide) (by simp [lg_sl, cat_rf, cat_i, cat_j]) (by simp [lv_args, cat_rf, cat_i, cat_j]) (fun g _ hC => ?_)
  unfold fX5_samePart at h
  obtain ⟨hO, h⟩ := chk_spec h
  refine v_iload_n hC 0 3 dX5_samePart_0 rfl ?_
  refine v_iconst hC (1 : Int32) 1 dX5_samePart_1 (by decide) ?_
  refine v_icmp_ge hC 2 7 dX5_samePart_2 (by decide) (fun c40 => ?_) (fun c40 => ?_)
  · replace h := ifp h c40
    refine v_iload_n hC 7 1 dX5_samePart_7 rfl ?_
    refine v_iload_n hC 8 3 dX5_samePart_8 rfl ?_
    have c21 : ¬ x3 = 0 := fun q => absurd (ifp h q) (by simp)
    replace h := ifn h c21
    refine v_irem hC 9 c21 dX5_samePart_9 ?_
    refine v_iload hC 10 4 dX5_samePart_10 rfl ?_
    refine v_imul hC 12 dX5_samePart_12 ?_
    obtain ⟨x22, ex22, h⟩ := onm h
    refine v_topi x22 ex22 ?_
    refine v_istore hC [(6, .int x22), (0, va_rf r0), (1, .int x1), (2, .int x2), (3, .int x3), (4, .int x4), (5, .int x5)] 13 dX5_samePart_13 (by decide) rfl ?_
    refine v_iload_n hC 15 2 dX5_samePart_15 rfl ?_
    refine v_iload_n hC 16 4 dX5_samePart_16 rfl ?_
    have c23 : ¬ x3 = 0 := fun q => absurd (ifp h q) (by simp)
    replace h := ifn h c23
    refine v_idiv hC 17 c23 dX5_samePart_17 ?_
    refine v_iload hC 18 5 dX5_samePart_18 rfl ?_
    refine v_imul hC 20 dX5_samePart_20 ?_
    obtain ⟨x24, ex24, h⟩ := onm h
    refine v_topi x24 ex24 ?_
    refine v_istore hC [(7, .int x24), (6, .int x22), (0, va_rf r0), (1, .int x1), (2, .int x2), (3, .int x3), (4, .int x4), (5, .int x5)] 21 dX5_samePart_21 (by decide) rfl ?_
    refine v_iload_n hC 23 4 dX5_samePart_23 rfl ?_
    refine v_iload_n hC 24 5 dX5_samePart_24 rfl ?_
    have c25 : ¬ x3 = 0 := fun q => absurd (ifp h q) (by simp)
    replace h := ifn h c25
    refine v_irem hC 25 c25 dX5_samePart_25 ?_
    refine v_iload hC 26 6 dX5_samePart_26 rfl ?_
    refine v_imul hC 28 dX5_samePart_28 ?_
    obtain ⟨x26, ex26, h⟩ := onm h
    refine v_topi x26 ex26 ?_
    refine v_istore hC [(8, .int x26), (7, .int x24), (6, .int x22), (0, va_rf r0), (1, .int x1), (2, .int x2), (3, .int x3), (4, .int x4), (5, .int x5)] 29 dX5_samePart_29 (by decide) rfl ?_
    refine v_iload_n hC 31 5 dX5_samePart_31 rfl ?_
    refine v_iload_n hC 32 6 dX5_samePart_32 rfl ?_
    have c27 : ¬ x3 = 0 := fun q => absurd (ifp h q) (by simp)
    replace h := ifn h c27
    refine v_idiv hC 33 c27 dX5_samePart_33 ?_
    refine v_iload hC 34 7 dX5_samePart_34 rfl ?_
    refine v_imul hC 36 dX5_samePart_36 ?_
    obtain ⟨x28, ex28, h⟩ := onm h
    refine v_topi x28 ex28 ?_
    refine v_istore hC [(9, .int x28), (8, .int x26), (7, .int x24), (6, .int x22), (0, va_rf r0), (1, .int x1), (2, .int x2), (3, .int x3), (4, .int x4), (5, .int x5)] 37 dX5_samePart_37 (by decide) rfl ?_
    refine v_iconst hC (0 : Int32) 39 dX5_samePart_39 (by decide) ?_
    refine v_istore hC [(10, .int (0 : Int32)), (9, .int x28), (8, .int x26), (7, .int x24), (6, .int x22), (0, va_rf r0), (1, .int x1), (2, .int x2), (3, .int x3), (4, .int x4), (5, .int x5)] 40 dX5_samePart_40 (by decide) rfl ?_
    rcases obS1 h with ⟨u9, E42, h⟩ | ⟨r9, E42, h⟩
    · refine v_sub [(0, va_rf r0), (4, .int x4), (5, .int x5), (6, .int x22), (7, .int x24), (8, .int x26), (9, .int x28), (10, .int (0 : Int32))] [5, 9, 10, 4, 3, 2, 1, 0] rfl ?_
      refine kX5_samePart_42 hC _ _ _ E42 (fun _ hz9 => ?_) (fun _ hz9 => by cases hz9)
      cases hz9
      refine v_iconst hC (1 : Int32) 130 dX5_samePart_130 (by decide) ?_
      obtain rfl := sp1 h
      exact v_zret hC 131 (by decide) (by decide) (by decide) dX5_samePart_131
    · refine v_sub [(0, va_rf r0), (4, .int x4), (5, .int x5), (6, .int x22), (7, .int x24), (8, .int x26), (9, .int x28), (10, .int (0 : Int32))] [5, 9, 10, 4, 3, 2, 1, 0] rfl ?_
      exact kX5_samePart_42 hC _ _ _ E42 (fun _ hz9 => by cases hz9) (fun _ hz9 => by cases hz9; cases h; exact rfl)
  · replace h := ifn h c40
    refine v_iconst hC (0 : Int32) 5 dX5_samePart_5 (by decide) ?_
    obtain rfl := sp1 h
    exact v_zret hC 6 (by decide) (by decide) (by decide) dX5_samePart_6
set_option maxRecDepth 20000 in
theorem qX5_72 {g : VG} {w : VW} {nL : Nat} {Q : State → Prop} {S : pH} {kc ks : Nat} {lv : List (Nat × Value)} {rest : List Value} {y : MethodName} {cc : ByteArray} {rt : Option FieldType} {rm : Room} (hC : Cx g y cc nL rt rm w) (hy : y.cls = RX5) (pc : Nat) {N : Nat} {r0 : Option Nat} {x1 : Int32} {x2 : Int32} {x3 : Int32} {v0 : Int32} (h : fX5_atMirroredTurned N S r0 x1 x2 x3 = some v0) (hR : rmX5_atMirroredTurned.frames + 1 ≤ rm.frames ∧ 8 + (4 + 11) + rmX5_atMirroredTurned.locals ≤ rm.locals) (hst : (rest.map fun v => v.category).sum ≤ 8) (hf : kc + 0 ≤ rm.cells ∧ ks + 0 ≤ rm.slots) (d : decode cc pc = .ok (.invokevirtual 72, 3)) (K : V g w nL Q S kc ks (pc + 3) lv (.int v0 :: rest)) : V g w nL Q S kc ks pc lv (.int x3 :: .int x2 :: .int x1 :: va_rf r0 :: rest) := by
  obtain ⟨fs, ho⟩ := oX5_atMirroredTurned h
  exact v_callV (As := [.int x1, .int x2, .int x3]) (rest := rest) (ci := 5) hC pc (tX5_atMirroredTurned (l := g.2.1) (w := w) h) rfl (by decide) ho wG273 (by rw [hy]; exact wG272) wG274 wG275 wG62 hdX5_atMirroredTurned rfl hR hst hf d K
abbrev rmX5_shows : Room := { frames := 3, cells := 0, slots := 0, locals := 67 }
theorem hdX5_shows : yX5_shows.cls ≠ "java/lang/invoke/MethodHandle" ∧ yX5_shows.cls ≠ "java/lang/invoke/VarHandle" ∧ (parseMethodDescriptor yX5_shows.desc).map (fun d => d.parameters.length) = some 3 := by decide +kernel
def lX5_shows_15 (N : Nat) (S : pH) (r0 : Option Nat) (r1 : Option Nat) (x2 : Int32) (x3 : Int32) (x4 : Int32) : Nat → Int32 → Option (Sum (Unit) (Int32))
  | 0, _ => none
  | n + 1, x23 =>
    (gfI S 5 1 r0).bind fun x24 =>
    if x24 ≤ x23 then
    (some (.inl ()))
    else
    (fX5_at N S r1 x23 x4).bind fun x25 =>
    nm (fun (x26 : Int32) =>
    nm (fun (_ : Unit) =>
    nm (x23 + (1 : Int32)) fun x27 =>
    lX5_shows_15 N S r0 r1 x2 x3 x4 n x27) fun j77 =>
    if x25 = (-9 : Int32) then
    (j77 ())
    else
    if x25 = x26 then
    (j77 ())
    else
    some (.inr (0 : Int32))) fun j59 =>
    if x3 = 0 then
    ((fX5_atTurned N S r0 x23 x4 x2).bind fun x30 =>
    j59 x30)
    else
    (fX5_atMirroredTurned N S r0 x23 x4 x2).bind fun x31 =>
    j59 x31
def lX5_shows_3 (N : Nat) (S : pH) (r0 : Option Nat) (r1 : Option Nat) (x2 : Int32) (x3 : Int32) : Nat → Int32 → Option (Sum (Unit) (Int32))
  | 0, _ => none
  | n + 1, x21 =>
    (gfI S 5 1 r0).bind fun x22 =>
    if x22 ≤ x21 then
    (some (.inl ()))
    else
    bS1 (lX5_shows_15 N S r0 r1 x2 x3 x21 N (0 : Int32)) (fun r9 => some (.inr r9)) fun u9 =>
    nm (x21 + (1 : Int32)) fun x34 =>
    lX5_shows_3 N S r0 r1 x2 x3 n x34
def fX5_shows (N : Nat) (S : pH) (r0 : Option Nat) (r1 : Option Nat) (x2 : Int32) (x3 : Int32) : Option (Int32) :=
  chk S 5 r0 <|
  bS1 (lX5_shows_3 N S r0 r1 x2 x3 N (0 : Int32)) (fun r9 => some r9) fun u9 =>
  some (1 : Int32)
theorem oX5_shows {N : Nat} {S : pH} {r0 : Option Nat} {r1 : Option Nat} {x2 : Int32} {x3 : Int32} {z : Int32} (h : fX5_shows N S r0 r1 x2 x3 = some z) : ∃ fs, obj S 5 r0 = some fs := by
  unfold fX5_shows at h
  exact (chk_spec h).1
set_option maxHeartbeats 1000000 in
set_option maxRecDepth 20000 in
theorem kX5_shows_15 {g : VG} {w : VW} {N : Nat} {S : pH} {r0 : Option Nat} {r1 : Option Nat} {x2 : Int32} {x3 : Int32} {x4 : Int32} {v0 : Int32} (hC : Cx g yX5_shows cX5_shows 8 (some .boolean) rmX5_shows w) : ∀ (n : Nat) (x23 : Int32) (z : (Sum (Unit) (Int32))), lX5_shows_15 N S r0 r1 x2 x3 x4 n x23 = some z → (∀ (u9 : Unit), z = .inl u9 → V g w 8 (Qm g w rmX5_shows.cells rmX5_shows.slots (some (.int v0)) S) S 0 0 83 [(0, va_rf r0), (1, va_rf r1), (2, .int x2), (3, .int x3), (4, .int x4)] []) → (∀ (v1 : Int32), z = .inr v1 → v0 = v1) → V g w 8 (Qm g w rmX5_shows.cells rmX5_shows.slots (some (.int v0)) S) S 0 0 15 [(0, va_rf r0), (1, va_rf r1), (2, .int x2), (3, .int x3), (4, .int x4), (5, .int x23)] [] := by
  intro n
  induction n with
  | zero => intro x23 z h; rw [lX5_shows_15] at h; cases h
  | succ n ih =>
    intro x23 z h K hR
    rw [lX5_shows_15] at h
    refine v_iload hC 15 5 dX5_shows_15 rfl ?_
    refine v_aload_n hC 17 0 dX5_shows_17 rfl ?_
    obtain ⟨x24, ex24, h⟩ := obn h
    refine gRX5_24 hC rfl 18 ex24 dX5_shows_18 ?_
    refine v_icmp_ge hC 21 83 dX5_shows_21 (by decide) (fun c33 => ?_) (fun c33 => ?_)
    · replace h := ifp h c33
      refine v_sub [(0, va_rf r0), (1, va_rf r1), (2, .int x2), (3, .int x3), (4, .int x4)] [0, 1, 2, 3, 4] rfl ?_
      exact K _ (sp1 h)
    · replace h := ifn h c33
      refine v_aload_n hC 24 1 dX5_shows_24 rfl ?_
      refine v_iload hC 25 5 dX5_shows_25 rfl ?_
      refine v_iload hC 27 4 dX5_shows_27 rfl ?_
      obtain ⟨x25, ex25, h⟩ := obn h
      refine qX5_54 hC rfl 29 ex25 (by decide) (catL (Nat.le_of_ble_eq_true rfl)) (by decide) dX5_shows_29 ?_
      refine v_istore hC [(6, .int x25), (0, va_rf r0), (1, va_rf r1), (2, .int x2), (3, .int x3), (4, .int x4), (5, .int x23)] 32 dX5_shows_32 (by decide) rfl ?_
      refine v_iload_n hC 34 4 dX5_shows_34 rfl ?_
      obtain ⟨j59, f59, h⟩ := onm h
      have J59 : ∀ (x26 : Int32), j59 x26 = some z → V g w 8 (Qm g w rmX5_shows.cells rmX5_shows.slots (some (.int v0)) S) S 0 0 59 [(0, va_rf r0), (1, va_rf r1), (2, .int x2), (3, .int x3), (4, .int x4), (5, .int x23), (6, .int x25)] [.int x26] := by
        intro x26 h
        replace h := jb1 f59 h
        refine v_istore hC [(7, .int x26), (0, va_rf r0), (1, va_rf r1), (2, .int x2), (3, .int x3), (4, .int x4), (5, .int x23), (6, .int x25)] 59 dX5_shows_59 (by decide) rfl ?_
        refine v_iload hC 61 7 dX5_shows_61 rfl ?_
        refine v_bipush hC (-9 : Int32) 63 dX5_shows_63 (by decide) ?_
        obtain ⟨j77, f77, h⟩ := onm h
        have J77 : ∀ (u9 : Unit), j77 u9 = some z → V g w 8 (Qm g w rmX5_shows.cells rmX5_shows.slots (some (.int v0)) S) S 0 0 77 [(0, va_rf r0), (1, va_rf r1), (2, .int x2), (3, .int x3), (4, .int x4), (5, .int x23)] [] := by
          intro u9 h
          replace h := jb1 f77 h
          obtain ⟨x27, ex27, h⟩ := onm h
          refine v_iinc hC x27 [(5, .int x27), (0, va_rf r0), (1, va_rf r1), (2, .int x2), (3, .int x3), (4, .int x4)] 77 5 dX5_shows_77 rfl (by rw [ex27]; rfl) (by decide) rfl ?_
          refine v_goto hC 80 15 dX5_shows_80 (by decide) ?_
          refine v_sub [(0, va_rf r0), (1, va_rf r1), (2, .int x2), (3, .int x3), (4, .int x4), (5, .int x27)] [1, 2, 3, 4, 5, 0] rfl ?_
          exact ih _ _ h K hR
        refine v_icmp_eq hC 65 77 dX5_shows_65 (by decide) (fun c29 => ?_) (fun c29 => ?_)
        · replace h := ifp h c29
          refine v_sub [(0, va_rf r0), (1, va_rf r1), (2, .int x2), (3, .int x3), (4, .int x4), (5, .int x23)] [1, 2, 3, 4, 5, 6] rfl ?_
          exact J77 _ h
        · replace h := ifn h c29
          refine v_iload hC 68 7 dX5_shows_68 rfl ?_
          refine v_iload hC 70 0 dX5_shows_70 rfl ?_
          refine v_icmp_eq hC 72 77 dX5_shows_72 (by decide) (fun c28 => ?_) (fun c28 => ?_)
          · replace h := ifp h c28
            refine v_sub [(0, va_rf r0), (1, va_rf r1), (2, .int x2), (3, .int x3), (4, .int x4), (5, .int x23)] [1, 2, 3, 4, 5, 6] rfl ?_
            exact J77 _ h
          · replace h := ifn h c28
            refine v_iconst hC (0 : Int32) 75 dX5_shows_75 (by decide) ?_
            obtain rfl := hR _ (sp1 h)
            exact v_zret hC 76 (by decide) (by decide) (by decide) dX5_shows_76
      refine v_if_eq hC 35 50 dX5_shows_35 (by decide) (fun c32 => ?_) (fun c32 => ?_)
      · replace h := ifp h c32
        refine v_aload_n hC 50 1 dX5_shows_50 rfl ?_
        refine v_iload hC 51 6 dX5_shows_51 rfl ?_
        refine v_iload hC 53 5 dX5_shows_53 rfl ?_
        refine v_iload_n hC 55 3 dX5_shows_55 rfl ?_
        obtain ⟨x30, ex30, h⟩ := obn h
        refine qX5_65 hC rfl 56 ex30 (by decide) (catL (Nat.le_of_ble_eq_true rfl)) (by decide) dX5_shows_56 ?_
        refine v_sub [(0, va_rf r0), (1, va_rf r1), (2, .int x2), (3, .int x3), (4, .int x4), (5, .int x23), (6, .int x25)] [1, 2, 3, 4, 5, 6, 0] rfl ?_
        exact J59 _ h
      · replace h := ifn h c32
        refine v_aload_n hC 38 1 dX5_shows_38 rfl ?_
        refine v_iload hC 39 6 dX5_shows_39 rfl ?_
        refine v_iload hC 41 5 dX5_shows_41 rfl ?_
        refine v_iload_n hC 43 3 dX5_shows_43 rfl ?_
        obtain ⟨x31, ex31, h⟩ := obn h
        refine qX5_72 hC rfl 44 ex31 (by decide) (catL (Nat.le_of_ble_eq_true rfl)) (by decide) dX5_shows_44 ?_
        refine v_goto hC 47 59 dX5_shows_47 (by decide) ?_
        refine v_sub [(0, va_rf r0), (1, va_rf r1), (2, .int x2), (3, .int x3), (4, .int x4), (5, .int x23), (6, .int x25)] [1, 2, 3, 4, 5, 6, 0] rfl ?_
        exact J59 _ h
set_option maxHeartbeats 1000000 in
set_option maxRecDepth 20000 in
theorem kX5_shows_3 {g : VG} {w : VW} {N : Nat} {S : pH} {r0 : Option Nat} {r1 : Option Nat} {x2 : Int32} {x3 : Int32} {v0 : Int32} (hC : Cx g yX5_shows cX5_shows 8 (some .boolean) rmX5_shows w) : ∀ (n : Nat) (x21 : Int32) (z : (Sum (Unit) (Int32))), lX5_shows_3 N S r0 r1 x2 x3 n x21 = some z → (∀ (u9 : Unit), z = .inl u9 → V g w 8 (Qm g w rmX5_shows.cells rmX5_shows.slots (some (.int v0)) S) S 0 0 89 [] []) → (∀ (v1 : Int32), z = .inr v1 → v0 = v1) → V g w 8 (Qm g w rmX5_shows.cells rmX5_shows.slots (some (.int v0)) S) S 0 0 3 [(0, va_rf r0), (1, va_rf r1), (2, .int x2), (3, .int x3), (4, .int x21)] [] := by
  intro n
  induction n with
  | zero => intro x21 z h; rw [lX5_shows_3] at h; cases h
  | succ n ih =>
    intro x21 z h K hR
    rw [lX5_shows_3] at h
    refine v_iload hC 3 4 dX5_shows_3 rfl ?_
    refine v_aload_n hC 5 0 dX5_shows_5 rfl ?_
    obtain ⟨x22, ex22, h⟩ := obn h
    refine gRX5_24 hC rfl 6 ex22 dX5_shows_6 ?_
    refine v_icmp_ge hC 9 89 dX5_shows_9 (by decide) (fun c35 => ?_) (fun c35 => ?_)
    · replace h := ifp h c35
      refine v_sub [] [] rfl ?_
      exact K _ (sp1 h)
    · replace h := ifn h c35
      refine v_iconst hC (0 : Int32) 12 dX5_shows_12 (by decide) ?_
      refine v_istore hC [(5, .int (0 : Int32)), (0, va_rf r0), (1, va_rf r1), (2, .int x2), (3, .int x3), (4, .int x21)] 13 dX5_shows_13 (by decide) rfl ?_
      rcases obS1 h with ⟨u9, E15, h⟩ | ⟨r9, E15, h⟩
      · refine v_sub [(0, va_rf r0), (1, va_rf r1), (2, .int x2), (3, .int x3), (4, .int x21), (5, .int (0 : Int32))] [1, 2, 3, 4, 5, 0] rfl ?_
        refine kX5_shows_15 hC _ _ _ E15 (fun _ hz9 => ?_) (fun _ hz9 => by cases hz9)
        cases hz9
        obtain ⟨x34, ex34, h⟩ := onm h
        refine v_iinc hC x34 [(4, .int x34), (0, va_rf r0), (1, va_rf r1), (2, .int x2), (3, .int x3)] 83 4 dX5_shows_83 rfl (by rw [ex34]; rfl) (by decide) rfl ?_
        refine v_goto hC 86 3 dX5_shows_86 (by decide) ?_
        refine v_sub [(0, va_rf r0), (1, va_rf r1), (2, .int x2), (3, .int x3), (4, .int x34)] [1, 2, 3, 4, 0] rfl ?_
        exact ih _ _ h K hR
      · refine v_sub [(0, va_rf r0), (1, va_rf r1), (2, .int x2), (3, .int x3), (4, .int x21), (5, .int (0 : Int32))] [1, 2, 3, 4, 5, 0] rfl ?_
        exact kX5_shows_15 hC _ _ _ E15 (fun _ hz9 => by cases hz9) (fun _ hz9 => by cases hz9; exact hR _ (sp1 h))
set_option maxHeartbeats 1000000 in
set_option maxRecDepth 20000 in
theorem tX5_shows {l : Launch} {w : VW} {N : Nat} {S : pH} {r0 : Option Nat} {r1 : Option Nat} {x2 : Int32} {x3 : Int32} {v0 : Int32} (h : fX5_shows N S r0 r1 x2 x3 = some v0) : CT l w yX5_shows cX5_shows 8 (some .boolean) rmX5_shows [va_rf r0, va_rf r1, .int x2, .int x3] S (some (.int v0)) S := by
  refine v_entry [(0, va_rf r0), (1, va_rf r1), (2, .int x2), (3, .int x3)] (by decide) (by simp [lg_sl, cat_rf, cat_i, cat_j]) (by simp [lv_args, cat_rf, cat_i, cat_j]) (fun g _ hC => ?_)
  unfold fX5_shows at h
  obtain ⟨hO, h⟩ := chk_spec h
  refine v_iconst hC (0 : Int32) 0 dX5_shows_0 (by decide) ?_
  refine v_istore hC [(4, .int (0 : Int32)), (0, va_rf r0), (1, va_rf r1), (2, .int x2), (3, .int x3)] 1 dX5_shows_1 (by decide) rfl ?_
  rcases obS1 h with ⟨u9, E3, h⟩ | ⟨r9, E3, h⟩
  · refine v_sub [(0, va_rf r0), (1, va_rf r1), (2, .int x2), (3, .int x3), (4, .int (0 : Int32))] [1, 2, 3, 4, 0] rfl ?_
    refine kX5_shows_3 hC _ _ _ E3 (fun _ hz9 => ?_) (fun _ hz9 => by cases hz9)
    cases hz9
    refine v_iconst hC (1 : Int32) 89 dX5_shows_89 (by decide) ?_
    obtain rfl := sp1 h
    exact v_zret hC 90 (by decide) (by decide) (by decide) dX5_shows_90
  · refine v_sub [(0, va_rf r0), (1, va_rf r1), (2, .int x2), (3, .int x3), (4, .int (0 : Int32))] [1, 2, 3, 4, 0] rfl ?_
    exact kX5_shows_3 hC _ _ _ E3 (fun _ hz9 => by cases hz9) (fun _ hz9 => by cases hz9; cases h; exact rfl)
set_option maxRecDepth 20000 in
theorem qX5_79 {g : VG} {w : VW} {nL : Nat} {Q : State → Prop} {S : pH} {kc ks : Nat} {lv : List (Nat × Value)} {rest : List Value} {y : MethodName} {cc : ByteArray} {rt : Option FieldType} {rm : Room} (hC : Cx g y cc nL rt rm w) (hy : y.cls = RX5) (pc : Nat) {N : Nat} {r0 : Option Nat} {x1 : Int32} {x2 : Int32} {x3 : Int32} {x4 : Int32} {x5 : Int32} {v0 : Int32} (h : fX5_samePart N S r0 x1 x2 x3 x4 x5 = some v0) (hR : rmX5_samePart.frames + 1 ≤ rm.frames ∧ 8 + (14 + 11) + rmX5_samePart.locals ≤ rm.locals) (hst : (rest.map fun v => v.category).sum ≤ 8) (hf : kc + 0 ≤ rm.cells ∧ ks + 0 ≤ rm.slots) (d : decode cc pc = .ok (.invokevirtual 79, 3)) (K : V g w nL Q S kc ks (pc + 3) lv (.int v0 :: rest)) : V g w nL Q S kc ks pc lv (.int x5 :: .int x4 :: .int x3 :: .int x2 :: .int x1 :: va_rf r0 :: rest) := by
  obtain ⟨fs, ho⟩ := oX5_samePart h
  exact v_callV (As := [.int x1, .int x2, .int x3, .int x4, .int x5]) (rest := rest) (ci := 5) hC pc (tX5_samePart (l := g.2.1) (w := w) h) rfl (by decide) ho wG277 (by rw [hy]; exact wG276) wG278 wG279 wG62 hdX5_samePart rfl hR hst hf d K
abbrev rmX5_standsBefore : Room := { frames := 3, cells := 0, slots := 0, locals := 77 }
theorem hdX5_standsBefore : yX5_standsBefore.cls ≠ "java/lang/invoke/MethodHandle" ∧ yX5_standsBefore.cls ≠ "java/lang/invoke/VarHandle" ∧ (parseMethodDescriptor yX5_standsBefore.desc).map (fun d => d.parameters.length) = some 3 := by decide +kernel
def lX5_standsBefore_12 (N : Nat) (S : pH) (r0 : Option Nat) (x1 : Int32) (x2 : Int32) (x3 : Int32) (x4 : Int32) : Nat → Int32 → Option (Sum (Unit) (Int32))
  | 0, _ => none
  | n + 1, x22 =>
    if (4 : Int32) ≤ x22 then
    (some (.inl ()))
    else
    (fX5_samePart N S r0 x1 x4 x2 x3 x22).bind fun x23 =>
    if x23 = 0 then
    (nm (x22 + (1 : Int32)) fun x24 =>
    lX5_standsBefore_12 N S r0 x1 x2 x3 x4 n x24)
    else
    some (.inr (1 : Int32))
def lX5_standsBefore_3 (N : Nat) (S : pH) (r0 : Option Nat) (x1 : Int32) (x2 : Int32) (x3 : Int32) : Nat → Int32 → Option (Sum (Unit) (Int32))
  | 0, _ => none
  | n + 1, x21 =>
    if x1 ≤ x21 then
    (some (.inl ()))
    else
    bS1 (lX5_standsBefore_12 N S r0 x1 x2 x3 x21 N (0 : Int32)) (fun r9 => some (.inr r9)) fun u9 =>
    nm (x21 + (1 : Int32)) fun x27 =>
    lX5_standsBefore_3 N S r0 x1 x2 x3 n x27
def fX5_standsBefore (N : Nat) (S : pH) (r0 : Option Nat) (x1 : Int32) (x2 : Int32) (x3 : Int32) : Option (Int32) :=
  chk S 5 r0 <|
  bS1 (lX5_standsBefore_3 N S r0 x1 x2 x3 N (0 : Int32)) (fun r9 => some r9) fun u9 =>
  some (0 : Int32)
theorem oX5_standsBefore {N : Nat} {S : pH} {r0 : Option Nat} {x1 : Int32} {x2 : Int32} {x3 : Int32} {z : Int32} (h : fX5_standsBefore N S r0 x1 x2 x3 = some z) : ∃ fs, obj S 5 r0 = some fs := by
  unfold fX5_standsBefore at h
  exact (chk_spec h).1
set_option maxHeartbeats 1000000 in
set_option maxRecDepth 20000 in
theorem kX5_standsBefore_12 {g : VG} {w : VW} {N : Nat} {S : pH} {r0 : Option Nat} {x1 : Int32} {x2 : Int32} {x3 : Int32} {x4 : Int32} {v0 : Int32} (hC : Cx g yX5_standsBefore cX5_standsBefore 6 (some .boolean) rmX5_standsBefore w) : ∀ (n : Nat) (x22 : Int32) (z : (Sum (Unit) (Int32))), lX5_standsBefore_12 N S r0 x1 x2 x3 x4 n x22 = some z → (∀ (u9 : Unit), z = .inl u9 → V g w 6 (Qm g w rmX5_standsBefore.cells rmX5_standsBefore.slots (some (.int v0)) S) S 0 0 40 [(0, va_rf r0), (1, .int x1), (2, .int x2), (3, .int x3), (4, .int x4)] []) → (∀ (v1 : Int32), z = .inr v1 → v0 = v1) → V g w 6 (Qm g w rmX5_standsBefore.cells rmX5_standsBefore.slots (some (.int v0)) S) S 0 0 12 [(0, va_rf r0), (1, .int x1), (2, .int x2), (3, .int x3), (4, .int x4), (5, .int x22)] [] := by
  intro n
  induction n with
  | zero => intro x22 z h; rw [lX5_standsBefore_12] at h; cases h
  | succ n ih =>
    intro x22 z h K hR
    rw [lX5_standsBefore_12] at h
    refine v_iload hC 12 5 dX5_standsBefore_12 rfl ?_
    refine v_iconst hC (4 : Int32) 14 dX5_standsBefore_14 (by decide) ?_
    refine v_icmp_ge hC 15 40 dX5_standsBefore_15 (by decide) (fun c26 => ?_) (fun c26 => ?_)
    · replace h := ifp h c26
      refine v_sub [(0, va_rf r0), (1, .int x1), (2, .int x2), (3, .int x3), (4, .int x4)] [0, 1, 2, 3, 4] rfl ?_
      exact K _ (sp1 h)
    · replace h := ifn h c26
      refine v_aload_n hC 18 0 dX5_standsBefore_18 rfl ?_
      refine v_iload_n hC 19 1 dX5_standsBefore_19 rfl ?_
      refine v_iload hC 20 4 dX5_standsBefore_20 rfl ?_
      refine v_iload_n hC 22 2 dX5_standsBefore_22 rfl ?_
      refine v_iload_n hC 23 3 dX5_standsBefore_23 rfl ?_
      refine v_iload hC 24 5 dX5_standsBefore_24 rfl ?_
      obtain ⟨x23, ex23, h⟩ := obn h
      refine qX5_79 hC rfl 26 ex23 (by decide) (catL (Nat.le_of_ble_eq_true rfl)) (by decide) dX5_standsBefore_26 ?_
      refine v_if_eq hC 29 34 dX5_standsBefore_29 (by decide) (fun c25 => ?_) (fun c25 => ?_)
      · replace h := ifp h c25
        obtain ⟨x24, ex24, h⟩ := onm h
        refine v_iinc hC x24 [(5, .int x24), (0, va_rf r0), (1, .int x1), (2, .int x2), (3, .int x3), (4, .int x4)] 34 5 dX5_standsBefore_34 rfl (by rw [ex24]; rfl) (by decide) rfl ?_
        refine v_goto hC 37 12 dX5_standsBefore_37 (by decide) ?_
        refine v_sub [(0, va_rf r0), (1, .int x1), (2, .int x2), (3, .int x3), (4, .int x4), (5, .int x24)] [1, 2, 3, 4, 5, 0] rfl ?_
        exact ih _ _ h K hR
      · replace h := ifn h c25
        refine v_iconst hC (1 : Int32) 32 dX5_standsBefore_32 (by decide) ?_
        obtain rfl := hR _ (sp1 h)
        exact v_zret hC 33 (by decide) (by decide) (by decide) dX5_standsBefore_33
set_option maxHeartbeats 1000000 in
set_option maxRecDepth 20000 in
theorem kX5_standsBefore_3 {g : VG} {w : VW} {N : Nat} {S : pH} {r0 : Option Nat} {x1 : Int32} {x2 : Int32} {x3 : Int32} {v0 : Int32} (hC : Cx g yX5_standsBefore cX5_standsBefore 6 (some .boolean) rmX5_standsBefore w) : ∀ (n : Nat) (x21 : Int32) (z : (Sum (Unit) (Int32))), lX5_standsBefore_3 N S r0 x1 x2 x3 n x21 = some z → (∀ (u9 : Unit), z = .inl u9 → V g w 6 (Qm g w rmX5_standsBefore.cells rmX5_standsBefore.slots (some (.int v0)) S) S 0 0 46 [] []) → (∀ (v1 : Int32), z = .inr v1 → v0 = v1) → V g w 6 (Qm g w rmX5_standsBefore.cells rmX5_standsBefore.slots (some (.int v0)) S) S 0 0 3 [(0, va_rf r0), (1, .int x1), (2, .int x2), (3, .int x3), (4, .int x21)] [] := by
  intro n
  induction n with
  | zero => intro x21 z h; rw [lX5_standsBefore_3] at h; cases h
  | succ n ih =>
    intro x21 z h K hR
    rw [lX5_standsBefore_3] at h
    refine v_iload hC 3 4 dX5_standsBefore_3 rfl ?_
    refine v_iload_n hC 5 1 dX5_standsBefore_5 rfl ?_
    refine v_icmp_ge hC 6 46 dX5_standsBefore_6 (by decide) (fun c28 => ?_) (fun c28 => ?_)
    · replace h := ifp h c28
      refine v_sub [] [] rfl ?_
      exact K _ (sp1 h)
    · replace h := ifn h c28
      refine v_iconst hC (0 : Int32) 9 dX5_standsBefore_9 (by decide) ?_
      refine v_istore hC [(5, .int (0 : Int32)), (0, va_rf r0), (1, .int x1), (2, .int x2), (3, .int x3), (4, .int x21)] 10 dX5_standsBefore_10 (by decide) rfl ?_
      rcases obS1 h with ⟨u9, E12, h⟩ | ⟨r9, E12, h⟩
      · refine v_sub [(0, va_rf r0), (1, .int x1), (2, .int x2), (3, .int x3), (4, .int x21), (5, .int (0 : Int32))] [1, 2, 3, 4, 5, 0] rfl ?_
        refine kX5_standsBefore_12 hC _ _ _ E12 (fun _ hz9 => ?_) (fun _ hz9 => by cases hz9)
        cases hz9
        obtain ⟨x27, ex27, h⟩ := onm h
        refine v_iinc hC x27 [(4, .int x27), (0, va_rf r0), (1, .int x1), (2, .int x2), (3, .int x3)] 40 4 dX5_standsBefore_40 rfl (by rw [ex27]; rfl) (by decide) rfl ?_
        refine v_goto hC 43 3 dX5_standsBefore_43 (by decide) ?_
        refine v_sub [(0, va_rf r0), (1, .int x1), (2, .int x2), (3, .int x3), (4, .int x27)] [1, 2, 3, 4, 0] rfl ?_
        exact ih _ _ h K hR
      · refine v_sub [(0, va_rf r0), (1, .int x1), (2, .int x2), (3, .int x3), (4, .int x21), (5, .int (0 : Int32))] [1, 2, 3, 4, 5, 0] rfl ?_
        exact kX5_standsBefore_12 hC _ _ _ E12 (fun _ hz9 => by cases hz9) (fun _ hz9 => by cases hz9; exact hR _ (sp1 h))
set_option maxHeartbeats 1000000 in
set_option maxRecDepth 20000 in
theorem tX5_standsBefore {l : Launch} {w : VW} {N : Nat} {S : pH} {r0 : Option Nat} {x1 : Int32} {x2 : Int32} {x3 : Int32} {v0 : Int32} (h : fX5_standsBefore N S r0 x1 x2 x3 = some v0) : CT l w yX5_standsBefore cX5_standsBefore 6 (some .boolean) rmX5_standsBefore [va_rf r0, .int x1, .int x2, .int x3] S (some (.int v0)) S := by
  refine v_entry [(0, va_rf r0), (1, .int x1), (2, .int x2), (3, .int x3)] (by decide) (by simp [lg_sl, cat_rf, cat_i, cat_j]) (by simp [lv_args, cat_rf, cat_i, cat_j]) (fun g _ hC => ?_)
  unfold fX5_standsBefore at h
  obtain ⟨hO, h⟩ := chk_spec h
  refine v_iconst hC (0 : Int32) 0 dX5_standsBefore_0 (by decide) ?_
  refine v_istore hC [(4, .int (0 : Int32)), (0, va_rf r0), (1, .int x1), (2, .int x2), (3, .int x3)] 1 dX5_standsBefore_1 (by decide) rfl ?_
  rcases obS1 h with ⟨u9, E3, h⟩ | ⟨r9, E3, h⟩
  · refine v_sub [(0, va_rf r0), (1, .int x1), (2, .int x2), (3, .int x3), (4, .int (0 : Int32))] [1, 2, 3, 4, 0] rfl ?_
    refine kX5_standsBefore_3 hC _ _ _ E3 (fun _ hz9 => ?_) (fun _ hz9 => by cases hz9)
    cases hz9
    refine v_iconst hC (0 : Int32) 46 dX5_standsBefore_46 (by decide) ?_
    obtain rfl := sp1 h
    exact v_zret hC 47 (by decide) (by decide) (by decide) dX5_standsBefore_47
  · refine v_sub [(0, va_rf r0), (1, .int x1), (2, .int x2), (3, .int x3), (4, .int (0 : Int32))] [1, 2, 3, 4, 0] rfl ?_
    exact kX5_standsBefore_3 hC _ _ _ E3 (fun _ hz9 => by cases hz9) (fun _ hz9 => by cases hz9; cases h; exact rfl)
set_option maxRecDepth 20000 in
theorem qX5_75 {g : VG} {w : VW} {nL : Nat} {Q : State → Prop} {S : pH} {kc ks : Nat} {lv : List (Nat × Value)} {rest : List Value} {y : MethodName} {cc : ByteArray} {rt : Option FieldType} {rm : Room} (hC : Cx g y cc nL rt rm w) (hy : y.cls = RX5) (pc : Nat) {N : Nat} {r0 : Option Nat} {x1 : Int32} {x2 : Int32} {x3 : Int32} {v0 : Int32} (h : fX5_standsBefore N S r0 x1 x2 x3 = some v0) (hR : rmX5_standsBefore.frames + 1 ≤ rm.frames ∧ 8 + (6 + 11) + rmX5_standsBefore.locals ≤ rm.locals) (hst : (rest.map fun v => v.category).sum ≤ 8) (hf : kc + 0 ≤ rm.cells ∧ ks + 0 ≤ rm.slots) (d : decode cc pc = .ok (.invokevirtual 75, 3)) (K : V g w nL Q S kc ks (pc + 3) lv (.int v0 :: rest)) : V g w nL Q S kc ks pc lv (.int x3 :: .int x2 :: .int x1 :: va_rf r0 :: rest) := by
  obtain ⟨fs, ho⟩ := oX5_standsBefore h
  exact v_callV (As := [.int x1, .int x2, .int x3]) (rest := rest) (ci := 5) hC pc (tX5_standsBefore (l := g.2.1) (w := w) h) rfl (by decide) ho wG281 (by rw [hy]; exact wG280) wG282 wG283 wG62 hdX5_standsBefore rfl hR hst hf d K
abbrev rmX5_unlikeParts : Room := { frames := 4, cells := 0, slots := 0, locals := 102 }
theorem hdX5_unlikeParts : yX5_unlikeParts.cls ≠ "java/lang/invoke/MethodHandle" ∧ yX5_unlikeParts.cls ≠ "java/lang/invoke/VarHandle" ∧ (parseMethodDescriptor yX5_unlikeParts.desc).map (fun d => d.parameters.length) = some 1 := by decide +kernel
def lX5_unlikeParts_19 (N : Nat) (S : pH) (r0 : Option Nat) (x1 : Int32) (x2 : Int32) : Nat → Int32 → Int32 → Option (Int32)
  | 0, _, _ => none
  | n + 1, x24, x25 =>
    if (x2 * x2) ≤ x25 then
    (some x24)
    else
    (fX5_standsBefore N S r0 x25 x2 x1).bind fun x26 =>
    nm (fun (x27 : Int32) =>
    nm (x25 + (1 : Int32)) fun x28 =>
    lX5_unlikeParts_19 N S r0 x1 x2 n x27 x28) fun j41 =>
    if ¬ x26 = 0 then
    (j41 x24)
    else
    nm (x24 + (1 : Int32)) fun x29 =>
    j41 x29
def fX5_unlikeParts (N : Nat) (S : pH) (r0 : Option Nat) (x1 : Int32) : Option (Int32) :=
  chk S 5 r0 <|
  if (1 : Int32) ≤ x1 then
  ((gfI S 5 1 r0).bind fun x21 =>
  if x1 = 0 then none else
  nm (x21 / x1) fun x23 =>
  (lX5_unlikeParts_19 N S r0 x1 x23 N (0 : Int32) (0 : Int32)).bind fun x32 =>
  some x32)
  else
  some (0 : Int32)
theorem oX5_unlikeParts {N : Nat} {S : pH} {r0 : Option Nat} {x1 : Int32} {z : Int32} (h : fX5_unlikeParts N S r0 x1 = some z) : ∃ fs, obj S 5 r0 = some fs := by
  unfold fX5_unlikeParts at h
  exact (chk_spec h).1
set_option maxHeartbeats 1000000 in
set_option maxRecDepth 20000 in
theorem kX5_unlikeParts_19 {g : VG} {w : VW} {N : Nat} {S : pH} {r0 : Option Nat} {x1 : Int32} {x2 : Int32} {v0 : Int32} (hC : Cx g yX5_unlikeParts cX5_unlikeParts 5 (some .int) rmX5_unlikeParts w) : ∀ (n : Nat) (x24 : Int32) (x25 : Int32) (z : (Int32)), lX5_unlikeParts_19 N S r0 x1 x2 n x24 x25 = some z → (∀ (e0 : Int32), z = e0 → V g w 5 (Qm g w rmX5_unlikeParts.cells rmX5_unlikeParts.slots (some (.int v0)) S) S 0 0 47 [(3, .int e0)] []) → V g w 5 (Qm g w rmX5_unlikeParts.cells rmX5_unlikeParts.slots (some (.int v0)) S) S 0 0 19 [(0, va_rf r0), (1, .int x1), (2, .int x2), (3, .int x24), (4, .int x25)] [] := by
  intro n
  induction n with
  | zero => intro x24 x25 z h; rw [lX5_unlikeParts_19] at h; cases h
  | succ n ih =>
    intro x24 x25 z h K
    rw [lX5_unlikeParts_19] at h
    refine v_iload hC 19 4 dX5_unlikeParts_19 rfl ?_
    refine v_iload_n hC 21 2 dX5_unlikeParts_21 rfl ?_
    refine v_iload_n hC 22 2 dX5_unlikeParts_22 rfl ?_
    refine v_imul hC 23 dX5_unlikeParts_23 ?_
    refine v_icmp_ge hC 24 47 dX5_unlikeParts_24 (by decide) (fun c31 => ?_) (fun c31 => ?_)
    · replace h := ifp h c31
      refine v_sub [(3, .int x24)] [3] rfl ?_
      exact K _ (sp1 h)
    · replace h := ifn h c31
      refine v_aload_n hC 27 0 dX5_unlikeParts_27 rfl ?_
      refine v_iload hC 28 4 dX5_unlikeParts_28 rfl ?_
      refine v_iload_n hC 30 2 dX5_unlikeParts_30 rfl ?_
      refine v_iload_n hC 31 1 dX5_unlikeParts_31 rfl ?_
      obtain ⟨x26, ex26, h⟩ := obn h
      refine qX5_75 hC rfl 32 ex26 (by decide) (catL (Nat.le_of_ble_eq_true rfl)) (by decide) dX5_unlikeParts_32 ?_
      obtain ⟨j41, f41, h⟩ := onm h
      have J41 : ∀ (x27 : Int32), j41 x27 = some z → V g w 5 (Qm g w rmX5_unlikeParts.cells rmX5_unlikeParts.slots (some (.int v0)) S) S 0 0 41 [(0, va_rf r0), (1, .int x1), (2, .int x2), (3, .int x27), (4, .int x25)] [] := by
        intro x27 h
        replace h := jb1 f41 h
        obtain ⟨x28, ex28, h⟩ := onm h
        refine v_iinc hC x28 [(4, .int x28), (0, va_rf r0), (1, .int x1), (2, .int x2), (3, .int x27)] 41 4 dX5_unlikeParts_41 rfl (by rw [ex28]; rfl) (by decide) rfl ?_
        refine v_goto hC 44 19 dX5_unlikeParts_44 (by decide) ?_
        refine v_sub [(0, va_rf r0), (1, .int x1), (2, .int x2), (3, .int x27), (4, .int x28)] [1, 2, 3, 4, 0] rfl ?_
        exact ih _ _ _ h K
      refine v_if_ne hC 35 41 dX5_unlikeParts_35 (by decide) (fun c30 => ?_) (fun c30 => ?_)
      · replace h := ifp h c30
        refine v_sub [(0, va_rf r0), (1, .int x1), (2, .int x2), (3, .int x24), (4, .int x25)] [0, 1, 2, 3, 4] rfl ?_
        exact J41 _ h
      · replace h := ifn h (fun q => q c30)
        obtain ⟨x29, ex29, h⟩ := onm h
        refine v_iinc hC x29 [(3, .int x29), (0, va_rf r0), (1, .int x1), (2, .int x2), (4, .int x25)] 38 3 dX5_unlikeParts_38 rfl (by rw [ex29]; rfl) (by decide) rfl ?_
        refine v_sub [(0, va_rf r0), (1, .int x1), (2, .int x2), (3, .int x29), (4, .int x25)] [1, 2, 3, 0, 4] rfl ?_
        exact J41 _ h
set_option maxHeartbeats 1000000 in
set_option maxRecDepth 20000 in
theorem tX5_unlikeParts {l : Launch} {w : VW} {N : Nat} {S : pH} {r0 : Option Nat} {x1 : Int32} {v0 : Int32} (h : fX5_unlikeParts N S r0 x1 = some v0) : CT l w yX5_unlikeParts cX5_unlikeParts 5 (some .int) rmX5_unlikeParts [va_rf r0, .int x1] S (some (.int v0)) S := by
  refine v_entry [(0, va_rf r0), (1, .int x1)] (by decide) (by simp [lg_sl, cat_rf, cat_i, cat_j]) (by simp [lv_args, cat_rf, cat_i, cat_j]) (fun g _ hC => ?_)
  unfold fX5_unlikeParts at h
  obtain ⟨hO, h⟩ := chk_spec h
  refine v_iload_n hC 0 1 dX5_unlikeParts_0 rfl ?_
  refine v_iconst hC (1 : Int32) 1 dX5_unlikeParts_1 (by decide) ?_
  refine v_icmp_ge hC 2 7 dX5_unlikeParts_2 (by decide) (fun c33 => ?_) (fun c33 => ?_)
  · replace h := ifp h c33
    refine v_aload_n hC 7 0 dX5_unlikeParts_7 rfl ?_
    obtain ⟨x21, ex21, h⟩ := obn h
    refine gRX5_24 hC rfl 8 ex21 dX5_unlikeParts_8 ?_
    refine v_iload_n hC 11 1 dX5_unlikeParts_11 rfl ?_
    have c22 : ¬ x1 = 0 := fun q => absurd (ifp h q) (by simp)
    replace h := ifn h c22
    refine v_idiv hC 12 c22 dX5_unlikeParts_12 ?_
    obtain ⟨x23, ex23, h⟩ := onm h
    refine v_topi x23 ex23 ?_
    refine v_istore_n hC [(2, .int x23), (0, va_rf r0), (1, .int x1)] 13 dX5_unlikeParts_13 (by decide) rfl ?_
    refine v_iconst hC (0 : Int32) 14 dX5_unlikeParts_14 (by decide) ?_
    refine v_istore_n hC [(3, .int (0 : Int32)), (2, .int x23), (0, va_rf r0), (1, .int x1)] 15 dX5_unlikeParts_15 (by decide) rfl ?_
    refine v_iconst hC (0 : Int32) 16 dX5_unlikeParts_16 (by decide) ?_
    refine v_istore hC [(4, .int (0 : Int32)), (3, .int (0 : Int32)), (2, .int x23), (0, va_rf r0), (1, .int x1)] 17 dX5_unlikeParts_17 (by decide) rfl ?_
    obtain ⟨x32, E19, h⟩ := obn h
    refine v_sub [(0, va_rf r0), (1, .int x1), (2, .int x23), (3, .int (0 : Int32)), (4, .int (0 : Int32))] [3, 4, 2, 1, 0] rfl ?_
    refine kX5_unlikeParts_19 hC _ _ _ _ E19 (fun _ hz9 => ?_)
    cases hz9
    refine v_iload_n hC 47 0 dX5_unlikeParts_47 rfl ?_
    obtain rfl := sp1 h
    exact v_iret hC 48 (by decide) (by decide) dX5_unlikeParts_48
  · replace h := ifn h c33
    refine v_iconst hC (0 : Int32) 5 dX5_unlikeParts_5 (by decide) ?_
    obtain rfl := sp1 h
    exact v_iret hC 6 (by decide) (by decide) dX5_unlikeParts_6
set_option maxRecDepth 20000 in
theorem qX5_68 {g : VG} {w : VW} {nL : Nat} {Q : State → Prop} {S : pH} {kc ks : Nat} {lv : List (Nat × Value)} {rest : List Value} {y : MethodName} {cc : ByteArray} {rt : Option FieldType} {rm : Room} (hC : Cx g y cc nL rt rm w) (hy : y.cls = RX5) (pc : Nat) {N : Nat} {r0 : Option Nat} {r1 : Option Nat} {x2 : Int32} {x3 : Int32} {v0 : Int32} (h : fX5_shows N S r0 r1 x2 x3 = some v0) (hR : rmX5_shows.frames + 1 ≤ rm.frames ∧ 8 + (8 + 11) + rmX5_shows.locals ≤ rm.locals) (hst : (rest.map fun v => v.category).sum ≤ 8) (hf : kc + 0 ≤ rm.cells ∧ ks + 0 ≤ rm.slots) (d : decode cc pc = .ok (.invokevirtual 68, 3)) (K : V g w nL Q S kc ks (pc + 3) lv (.int v0 :: rest)) : V g w nL Q S kc ks pc lv (.int x3 :: .int x2 :: va_rf r1 :: va_rf r0 :: rest) := by
  obtain ⟨fs, ho⟩ := oX5_shows h
  exact v_callV (As := [va_rf r1, .int x2, .int x3]) (rest := rest) (ci := 5) hC pc (tX5_shows (l := g.2.1) (w := w) h) rfl (by decide) ho wG285 (by rw [hy]; exact wG284) wG286 wG287 wG62 hdX5_shows rfl hR hst hf d K
abbrev rmX5_waysToShow : Room := { frames := 4, cells := 0, slots := 0, locals := 94 }
theorem hdX5_waysToShow : yX5_waysToShow.cls ≠ "java/lang/invoke/MethodHandle" ∧ yX5_waysToShow.cls ≠ "java/lang/invoke/VarHandle" ∧ (parseMethodDescriptor yX5_waysToShow.desc).map (fun d => d.parameters.length) = some 1 := by decide +kernel
def lX5_waysToShow_17 (N : Nat) (S : pH) (r0 : Option Nat) (r1 : Option Nat) : Nat → Int32 → Int32 → Option (Int32)
  | 0, _, _ => none
  | n + 1, x23, x24 =>
    if (4 : Int32) ≤ x24 then
    (some x23)
    else
    (fX5_shows N S r0 r1 x24 (0 : Int32)).bind fun x25 =>
    nm (fun (x26 : Int32) =>
    (fX5_shows N S r0 r1 x24 (1 : Int32)).bind fun x27 =>
    nm (fun (x28 : Int32) =>
    nm (x24 + (1 : Int32)) fun x29 =>
    lX5_waysToShow_17 N S r0 r1 n x28 x29) fun j56 =>
    if x27 = 0 then
    (j56 x26)
    else
    nm (x26 ||| ((1 : Int32) <<< (((4 : Int32) + x24) &&& 31))) fun x30 =>
    j56 x30) fun j38 =>
    if x25 = 0 then
    (j38 x23)
    else
    nm (x23 ||| ((1 : Int32) <<< (x24 &&& 31))) fun x32 =>
    j38 x32
def fX5_waysToShow (N : Nat) (S : pH) (r0 : Option Nat) (r1 : Option Nat) : Option (Int32) :=
  chk S 5 r0 <|
  (gfI S 5 1 r1).bind fun x21 =>
  (gfI S 5 1 r0).bind fun x22 =>
  if x21 = x22 then
  ((lX5_waysToShow_17 N S r0 r1 N (0 : Int32) (0 : Int32)).bind fun x35 =>
  some x35)
  else
  some (0 : Int32)
theorem oX5_waysToShow {N : Nat} {S : pH} {r0 : Option Nat} {r1 : Option Nat} {z : Int32} (h : fX5_waysToShow N S r0 r1 = some z) : ∃ fs, obj S 5 r0 = some fs := by
  unfold fX5_waysToShow at h
  exact (chk_spec h).1
set_option maxHeartbeats 1000000 in
set_option maxRecDepth 20000 in
theorem kX5_waysToShow_17 {g : VG} {w : VW} {N : Nat} {S : pH} {r0 : Option Nat} {r1 : Option Nat} {v0 : Int32} (hC : Cx g yX5_waysToShow cX5_waysToShow 4 (some .int) rmX5_waysToShow w) : ∀ (n : Nat) (x23 : Int32) (x24 : Int32) (z : (Int32)), lX5_waysToShow_17 N S r0 r1 n x23 x24 = some z → (∀ (e0 : Int32), z = e0 → V g w 4 (Qm g w rmX5_waysToShow.cells rmX5_waysToShow.slots (some (.int v0)) S) S 0 0 62 [(2, .int e0)] []) → V g w 4 (Qm g w rmX5_waysToShow.cells rmX5_waysToShow.slots (some (.int v0)) S) S 0 0 17 [(0, va_rf r0), (1, va_rf r1), (2, .int x23), (3, .int x24)] [] := by
  intro n
  induction n with
  | zero => intro x23 x24 z h; rw [lX5_waysToShow_17] at h; cases h
  | succ n ih =>
    intro x23 x24 z h K
    rw [lX5_waysToShow_17] at h
    refine v_iload_n hC 17 3 dX5_waysToShow_17 rfl ?_
    refine v_iconst hC (4 : Int32) 18 dX5_waysToShow_18 (by decide) ?_
    refine v_icmp_ge hC 19 62 dX5_waysToShow_19 (by decide) (fun c34 => ?_) (fun c34 => ?_)
    · replace h := ifp h c34
      refine v_sub [(2, .int x23)] [2] rfl ?_
      exact K _ (sp1 h)
    · replace h := ifn h c34
      refine v_aload_n hC 22 0 dX5_waysToShow_22 rfl ?_
      refine v_aload_n hC 23 1 dX5_waysToShow_23 rfl ?_
      refine v_iload_n hC 24 3 dX5_waysToShow_24 rfl ?_
      refine v_iconst hC (0 : Int32) 25 dX5_waysToShow_25 (by decide) ?_
      obtain ⟨x25, ex25, h⟩ := obn h
      refine qX5_68 hC rfl 26 ex25 (by decide) (catL (Nat.le_of_ble_eq_true rfl)) (by decide) dX5_waysToShow_26 ?_
      obtain ⟨j38, f38, h⟩ := onm h
      have J38 : ∀ (x26 : Int32), j38 x26 = some z → V g w 4 (Qm g w rmX5_waysToShow.cells rmX5_waysToShow.slots (some (.int v0)) S) S 0 0 38 [(0, va_rf r0), (1, va_rf r1), (2, .int x26), (3, .int x24)] [] := by
        intro x26 h
        replace h := jb1 f38 h
        refine v_aload_n hC 38 0 dX5_waysToShow_38 rfl ?_
        refine v_aload_n hC 39 1 dX5_waysToShow_39 rfl ?_
        refine v_iload_n hC 40 3 dX5_waysToShow_40 rfl ?_
        refine v_iconst hC (1 : Int32) 41 dX5_waysToShow_41 (by decide) ?_
        obtain ⟨x27, ex27, h⟩ := obn h
        refine qX5_68 hC rfl 42 ex27 (by decide) (catL (Nat.le_of_ble_eq_true rfl)) (by decide) dX5_waysToShow_42 ?_
        obtain ⟨j56, f56, h⟩ := onm h
        have J56 : ∀ (x28 : Int32), j56 x28 = some z → V g w 4 (Qm g w rmX5_waysToShow.cells rmX5_waysToShow.slots (some (.int v0)) S) S 0 0 56 [(0, va_rf r0), (1, va_rf r1), (2, .int x28), (3, .int x24)] [] := by
          intro x28 h
          replace h := jb1 f56 h
          obtain ⟨x29, ex29, h⟩ := onm h
          refine v_iinc hC x29 [(3, .int x29), (0, va_rf r0), (1, va_rf r1), (2, .int x28)] 56 3 dX5_waysToShow_56 rfl (by rw [ex29]; rfl) (by decide) rfl ?_
          refine v_goto hC 59 17 dX5_waysToShow_59 (by decide) ?_
          refine v_sub [(0, va_rf r0), (1, va_rf r1), (2, .int x28), (3, .int x29)] [1, 2, 3, 0] rfl ?_
          exact ih _ _ _ h K
        refine v_if_eq hC 45 56 dX5_waysToShow_45 (by decide) (fun c31 => ?_) (fun c31 => ?_)
        · replace h := ifp h c31
          refine v_sub [(0, va_rf r0), (1, va_rf r1), (2, .int x26), (3, .int x24)] [0, 1, 2, 3] rfl ?_
          exact J56 _ h
        · replace h := ifn h c31
          refine v_iload_n hC 48 2 dX5_waysToShow_48 rfl ?_
          refine v_iconst hC (1 : Int32) 49 dX5_waysToShow_49 (by decide) ?_
          refine v_iconst hC (4 : Int32) 50 dX5_waysToShow_50 (by decide) ?_
          refine v_iload_n hC 51 3 dX5_waysToShow_51 rfl ?_
          refine v_iadd hC 52 dX5_waysToShow_52 ?_
          refine v_ishl hC 53 dX5_waysToShow_53 ?_
          refine v_ior hC 54 dX5_waysToShow_54 ?_
          obtain ⟨x30, ex30, h⟩ := onm h
          refine v_topi x30 ex30 ?_
          refine v_istore_n hC [(2, .int x30), (0, va_rf r0), (1, va_rf r1), (3, .int x24)] 55 dX5_waysToShow_55 (by decide) (by first | rfl | (simp [cat_rf, cat_i, cat_j]; done) | (simp [cat_rf, cat_i, cat_j]; decide)) ?_
          refine v_sub [(0, va_rf r0), (1, va_rf r1), (2, .int x30), (3, .int x24)] [1, 2, 0, 3] rfl ?_
          exact J56 _ h
      refine v_if_eq hC 29 38 dX5_waysToShow_29 (by decide) (fun c33 => ?_) (fun c33 => ?_)
      · replace h := ifp h c33
        refine v_sub [(0, va_rf r0), (1, va_rf r1), (2, .int x23), (3, .int x24)] [0, 1, 2, 3] rfl ?_
        exact J38 _ h
      · replace h := ifn h c33
        refine v_iload_n hC 32 2 dX5_waysToShow_32 rfl ?_
        refine v_iconst hC (1 : Int32) 33 dX5_waysToShow_33 (by decide) ?_
        refine v_iload_n hC 34 3 dX5_waysToShow_34 rfl ?_
        refine v_ishl hC 35 dX5_waysToShow_35 ?_
        refine v_ior hC 36 dX5_waysToShow_36 ?_
        obtain ⟨x32, ex32, h⟩ := onm h
        refine v_topi x32 ex32 ?_
        refine v_istore_n hC [(2, .int x32), (0, va_rf r0), (1, va_rf r1), (3, .int x24)] 37 dX5_waysToShow_37 (by decide) (by first | rfl | (simp [cat_rf, cat_i, cat_j]; done) | (simp [cat_rf, cat_i, cat_j]; decide)) ?_
        refine v_sub [(0, va_rf r0), (1, va_rf r1), (2, .int x32), (3, .int x24)] [1, 2, 0, 3] rfl ?_
        exact J38 _ h
set_option maxHeartbeats 1000000 in
set_option maxRecDepth 20000 in
theorem tX5_waysToShow {l : Launch} {w : VW} {N : Nat} {S : pH} {r0 : Option Nat} {r1 : Option Nat} {v0 : Int32} (h : fX5_waysToShow N S r0 r1 = some v0) : CT l w yX5_waysToShow cX5_waysToShow 4 (some .int) rmX5_waysToShow [va_rf r0, va_rf r1] S (some (.int v0)) S := by
  refine v_entry [(0, va_rf r0), (1, va_rf r1)] (by decide) (by simp [lg_sl, cat_rf, cat_i, cat_j]) (by simp [lv_args, cat_rf, cat_i, cat_j]) (fun g _ hC => ?_)
  unfold fX5_waysToShow at h
  obtain ⟨hO, h⟩ := chk_spec h
  refine v_aload_n hC 0 1 dX5_waysToShow_0 rfl ?_
  obtain ⟨x21, ex21, h⟩ := obn h
  refine gRX5_24 hC rfl 1 ex21 dX5_waysToShow_1 ?_
  refine v_aload_n hC 4 0 dX5_waysToShow_4 rfl ?_
  obtain ⟨x22, ex22, h⟩ := obn h
  refine gRX5_24 hC rfl 5 ex22 dX5_waysToShow_5 ?_
  refine v_icmp_eq hC 8 13 dX5_waysToShow_8 (by decide) (fun c36 => ?_) (fun c36 => ?_)
  · replace h := ifp h c36
    refine v_iconst hC (0 : Int32) 13 dX5_waysToShow_13 (by decide) ?_
    refine v_istore_n hC [(2, .int (0 : Int32)), (0, va_rf r0), (1, va_rf r1)] 14 dX5_waysToShow_14 (by decide) (by first | rfl | (simp [cat_rf, cat_i, cat_j]; done) | (simp [cat_rf, cat_i, cat_j]; decide)) ?_
    refine v_iconst hC (0 : Int32) 15 dX5_waysToShow_15 (by decide) ?_
    refine v_istore_n hC [(3, .int (0 : Int32)), (2, .int (0 : Int32)), (0, va_rf r0), (1, va_rf r1)] 16 dX5_waysToShow_16 (by decide) rfl ?_
    obtain ⟨x35, E17, h⟩ := obn h
    refine v_sub [(0, va_rf r0), (1, va_rf r1), (2, .int (0 : Int32)), (3, .int (0 : Int32))] [2, 3, 1, 0] rfl ?_
    refine kX5_waysToShow_17 hC _ _ _ _ E17 (fun _ hz9 => ?_)
    cases hz9
    refine v_iload_n hC 62 0 dX5_waysToShow_62 rfl ?_
    obtain rfl := sp1 h
    exact v_iret hC 63 (by decide) (by decide) dX5_waysToShow_63
  · replace h := ifn h c36
    refine v_iconst hC (0 : Int32) 11 dX5_waysToShow_11 (by decide) ?_
    obtain rfl := sp1 h
    exact v_iret hC 12 (by decide) (by decide) dX5_waysToShow_12
set_option maxRecDepth 20000 in
theorem qX6_34 {g : VG} {w : VW} {nL : Nat} {Q : State → Prop} {S : pH} {kc ks : Nat} {lv : List (Nat × Value)} {rest : List Value} {y : MethodName} {cc : ByteArray} {rt : Option FieldType} {rm : Room} (hC : Cx g y cc nL rt rm w) (hy : y.cls = RX6) (pc : Nat) {N : Nat} {x0 : Int32} {v0 : Int32} (h : fJ6_bitCount_0f7a4 N S x0 = some v0) (hR : rmJ6_bitCount_0f7a4.frames + 1 ≤ rm.frames ∧ 8 + (1 + 11) + rmJ6_bitCount_0f7a4.locals ≤ rm.locals) (hst : (rest.map fun v => v.category).sum ≤ 8) (hf : kc + 0 ≤ rm.cells ∧ ks + 0 ≤ rm.slots) (d : decode cc pc = .ok (.invokestatic 34, 3)) (K : V g w nL Q S kc ks (pc + 3) lv (.int v0 :: rest)) : V g w nL Q S kc ks pc lv (.int x0 :: rest) := by
  exact v_callS (As := [.int x0]) (rest := rest) hC pc (tJ6_bitCount_0f7a4 (l := g.2.1) (w := w) h) wG246 (by rw [hy]; exact wG288) wG248 wG247 hdJ6_bitCount_0f7a4 rfl hR hst hf d K
abbrev rmX6_casesLeft : Room := { frames := 1, cells := 0, slots := 0, locals := 20 }
theorem hdX6_casesLeft : yX6_casesLeft.cls ≠ "java/lang/invoke/MethodHandle" ∧ yX6_casesLeft.cls ≠ "java/lang/invoke/VarHandle" ∧ (parseMethodDescriptor yX6_casesLeft.desc).map (fun d => d.parameters.length) = some 0 := by decide +kernel
def fX6_casesLeft (N : Nat) (S : pH) (r0 : Option Nat) : Option (Int32) :=
  chk S 6 r0 <|
  (gfI S 6 0 r0).bind fun x21 =>
  (fJ6_bitCount_0f7a4 N S x21).bind fun x22 =>
  (gfI S 6 1 r0).bind fun x23 =>
  (fJ6_bitCount_0f7a4 N S x23).bind fun x24 =>
  some (x22 + x24)
theorem oX6_casesLeft {N : Nat} {S : pH} {r0 : Option Nat} {z : Int32} (h : fX6_casesLeft N S r0 = some z) : ∃ fs, obj S 6 r0 = some fs := by
  unfold fX6_casesLeft at h
  exact (chk_spec h).1
set_option maxHeartbeats 1000000 in
set_option maxRecDepth 20000 in
theorem tX6_casesLeft {l : Launch} {w : VW} {N : Nat} {S : pH} {r0 : Option Nat} {v0 : Int32} (h : fX6_casesLeft N S r0 = some v0) : CT l w yX6_casesLeft cX6_casesLeft 1 (some .int) rmX6_casesLeft [va_rf r0] S (some (.int v0)) S := by
  refine v_entry [(0, va_rf r0)] (by decide) (by simp [lg_sl, cat_rf, cat_i, cat_j]) (by simp [lv_args, cat_rf, cat_i, cat_j]) (fun g _ hC => ?_)
  unfold fX6_casesLeft at h
  obtain ⟨hO, h⟩ := chk_spec h
  refine v_aload_n hC 0 0 dX6_casesLeft_0 rfl ?_
  obtain ⟨x21, ex21, h⟩ := obn h
  refine gRX6_9 hC rfl 1 ex21 dX6_casesLeft_1 ?_
  obtain ⟨x22, ex22, h⟩ := obn h
  refine qX6_34 hC rfl 4 ex22 (by decide) (catL (Nat.le_of_ble_eq_true rfl)) (by decide) dX6_casesLeft_4 ?_
  refine v_aload_n hC 7 0 dX6_casesLeft_7 rfl ?_
  obtain ⟨x23, ex23, h⟩ := obn h
  refine gRX6_15 hC rfl 8 ex23 dX6_casesLeft_8 ?_
  obtain ⟨x24, ex24, h⟩ := obn h
  refine qX6_34 hC rfl 11 ex24 (by decide) (catL (Nat.le_of_ble_eq_true rfl)) (by decide) dX6_casesLeft_11 ?_
  refine v_iadd hC 14 dX6_casesLeft_14 ?_
  obtain rfl := sp1 h
  exact v_iret hC 15 (by decide) (by decide) dX6_casesLeft_15
set_option maxRecDepth 20000 in
theorem qX6_40 {g : VG} {w : VW} {nL : Nat} {Q : State → Prop} {S : pH} {kc ks : Nat} {lv : List (Nat × Value)} {rest : List Value} {y : MethodName} {cc : ByteArray} {rt : Option FieldType} {rm : Room} (hC : Cx g y cc nL rt rm w) (hy : y.cls = RX6) (pc : Nat) {N : Nat} {r0 : Option Nat} {v0 : Int32} (h : fX6_casesLeft N S r0 = some v0) (hR : rmX6_casesLeft.frames + 1 ≤ rm.frames ∧ 8 + (1 + 11) + rmX6_casesLeft.locals ≤ rm.locals) (hst : (rest.map fun v => v.category).sum ≤ 8) (hf : kc + 0 ≤ rm.cells ∧ ks + 0 ≤ rm.slots) (d : decode cc pc = .ok (.invokevirtual 40, 3)) (K : V g w nL Q S kc ks (pc + 3) lv (.int v0 :: rest)) : V g w nL Q S kc ks pc lv (va_rf r0 :: rest) := by
  obtain ⟨fs, ho⟩ := oX6_casesLeft h
  exact v_callV (As := []) (rest := rest) (ci := 6) hC pc (tX6_casesLeft (l := g.2.1) (w := w) h) rfl (by decide) ho wG290 (by rw [hy]; exact wG289) wG291 wG292 wG125 hdX6_casesLeft rfl hR hst hf d K
abbrev rmX6_worstOutcome : Room := { frames := 2, cells := 0, slots := 0, locals := 40 }
theorem hdX6_worstOutcome : yX6_worstOutcome.cls ≠ "java/lang/invoke/MethodHandle" ∧ yX6_worstOutcome.cls ≠ "java/lang/invoke/VarHandle" ∧ (parseMethodDescriptor yX6_worstOutcome.desc).map (fun d => d.parameters.length) = some 2 := by decide +kernel
def fX6_worstOutcome (N : Nat) (S : pH) (r0 : Option Nat) (x1 : Int32) (x2 : Int32) : Option (Int32) :=
  chk S 6 r0 <|
  (gfI S 6 0 r0).bind fun x21 =>
  (fJ6_bitCount_0f7a4 N S (x21 &&& x1)).bind fun x22 =>
  (gfI S 6 1 r0).bind fun x23 =>
  (fJ6_bitCount_0f7a4 N S (x23 &&& x2)).bind fun x24 =>
  nm (x22 + x24) fun x25 =>
  (gfI S 6 0 r0).bind fun x26 =>
  (fJ6_bitCount_0f7a4 N S (x26 &&& x2)).bind fun x27 =>
  (gfI S 6 1 r0).bind fun x28 =>
  (fJ6_bitCount_0f7a4 N S (x28 &&& x1)).bind fun x29 =>
  nm (x27 + x29) fun x30 =>
  (fX6_casesLeft N S r0).bind fun x31 =>
  some (mmax (mmax x25 x30) ((x31 - x25) - x30))
theorem oX6_worstOutcome {N : Nat} {S : pH} {r0 : Option Nat} {x1 : Int32} {x2 : Int32} {z : Int32} (h : fX6_worstOutcome N S r0 x1 x2 = some z) : ∃ fs, obj S 6 r0 = some fs := by
  unfold fX6_worstOutcome at h
  exact (chk_spec h).1
set_option maxHeartbeats 1000000 in
set_option maxRecDepth 20000 in
theorem tX6_worstOutcome {l : Launch} {w : VW} {N : Nat} {S : pH} {r0 : Option Nat} {x1 : Int32} {x2 : Int32} {v0 : Int32} (h : fX6_worstOutcome N S r0 x1 x2 = some v0) : CT l w yX6_worstOutcome cX6_worstOutcome 5 (some .int) rmX6_worstOutcome [va_rf r0, .int x1, .int x2] S (some (.int v0)) S := by
  refine v_entry [(0, va_rf r0), (1, .int x1), (2, .int x2)] (by decide) (by simp [lg_sl, cat_rf, cat_i, cat_j]) (by simp [lv_args, cat_rf, cat_i, cat_j]) (fun g _ hC => ?_)
  unfold fX6_worstOutcome at h
  obtain ⟨hO, h⟩ := chk_spec h
  refine v_aload_n hC 0 0 dX6_worstOutcome_0 rfl ?_
  obtain ⟨x21, ex21, h⟩ := obn h
  refine gRX6_9 hC rfl 1 ex21 dX6_worstOutcome_1 ?_
  refine v_iload_n hC 4 1 dX6_worstOutcome_4 rfl ?_
  refine v_iand hC 5 dX6_worstOutcome_5 ?_
  obtain ⟨x22, ex22, h⟩ := obn h
  refine qX6_34 hC rfl 6 ex22 (by decide) (catL (Nat.le_of_ble_eq_true rfl)) (by decide) dX6_worstOutcome_6 ?_
  refine v_aload_n hC 9 0 dX6_worstOutcome_9 rfl ?_
  obtain ⟨x23, ex23, h⟩ := obn h
  refine gRX6_15 hC rfl 10 ex23 dX6_worstOutcome_10 ?_
  refine v_iload_n hC 13 2 dX6_worstOutcome_13 rfl ?_
  refine v_iand hC 14 dX6_worstOutcome_14 ?_
  obtain ⟨x24, ex24, h⟩ := obn h
  refine qX6_34 hC rfl 15 ex24 (by decide) (catL (Nat.le_of_ble_eq_true rfl)) (by decide) dX6_worstOutcome_15 ?_
  refine v_iadd hC 18 dX6_worstOutcome_18 ?_
  obtain ⟨x25, ex25, h⟩ := onm h
  refine v_topi x25 ex25 ?_
  refine v_istore_n hC [(3, .int x25), (0, va_rf r0), (1, .int x1), (2, .int x2)] 19 dX6_worstOutcome_19 (by decide) rfl ?_
  refine v_aload_n hC 20 1 dX6_worstOutcome_20 rfl ?_
  obtain ⟨x26, ex26, h⟩ := obn h
  refine gRX6_9 hC rfl 21 ex26 dX6_worstOutcome_21 ?_
  refine v_iload_n hC 24 3 dX6_worstOutcome_24 rfl ?_
  refine v_iand hC 25 dX6_worstOutcome_25 ?_
  obtain ⟨x27, ex27, h⟩ := obn h
  refine qX6_34 hC rfl 26 ex27 (by decide) (catL (Nat.le_of_ble_eq_true rfl)) (by decide) dX6_worstOutcome_26 ?_
  refine v_aload_n hC 29 1 dX6_worstOutcome_29 rfl ?_
  obtain ⟨x28, ex28, h⟩ := obn h
  refine gRX6_15 hC rfl 30 ex28 dX6_worstOutcome_30 ?_
  refine v_iload_n hC 33 2 dX6_worstOutcome_33 rfl ?_
  refine v_iand hC 34 dX6_worstOutcome_34 ?_
  obtain ⟨x29, ex29, h⟩ := obn h
  refine qX6_34 hC rfl 35 ex29 (by decide) (catL (Nat.le_of_ble_eq_true rfl)) (by decide) dX6_worstOutcome_35 ?_
  refine v_iadd hC 38 dX6_worstOutcome_38 ?_
  obtain ⟨x30, ex30, h⟩ := onm h
  refine v_topi x30 ex30 ?_
  refine v_istore hC [(4, .int x30), (3, .int x25), (0, va_rf r0), (1, .int x1), (2, .int x2)] 39 dX6_worstOutcome_39 (by decide) rfl ?_
  refine v_iload_n hC 41 1 dX6_worstOutcome_41 rfl ?_
  refine v_iload hC 42 0 dX6_worstOutcome_42 rfl ?_
  refine v_mmax hC 44 wG69 wG58 wG13 wG59 (by decide) (Nat.le_of_ble_eq_true rfl) (by decide) (by decide) dX6_worstOutcome_44 ?_
  refine v_aload_n hC 47 2 dX6_worstOutcome_47 rfl ?_
  obtain ⟨x31, ex31, h⟩ := obn h
  refine qX6_40 hC rfl 48 ex31 (by decide) (catL (Nat.le_of_ble_eq_true rfl)) (by decide) dX6_worstOutcome_48 ?_
  refine v_iload_n hC 51 1 dX6_worstOutcome_51 rfl ?_
  refine v_isub hC 52 dX6_worstOutcome_52 ?_
  refine v_iload hC 53 0 dX6_worstOutcome_53 rfl ?_
  refine v_isub hC 55 dX6_worstOutcome_55 ?_
  refine v_mmax hC 56 wG69 wG58 wG13 wG59 (by decide) (Nat.le_of_ble_eq_true rfl) (by decide) (by decide) dX6_worstOutcome_56 ?_
  obtain rfl := sp1 h
  exact v_iret hC 59 (by decide) (by decide) dX6_worstOutcome_59
set_option maxRecDepth 20000 in
theorem qX6_48 {g : VG} {w : VW} {nL : Nat} {Q : State → Prop} {S : pH} {kc ks : Nat} {lv : List (Nat × Value)} {rest : List Value} {y : MethodName} {cc : ByteArray} {rt : Option FieldType} {rm : Room} (hC : Cx g y cc nL rt rm w) (hy : y.cls = RX6) (pc : Nat) {N : Nat} {r0 : Option Nat} {x1 : Int32} {x2 : Int32} {v0 : Int32} (h : fX6_worstOutcome N S r0 x1 x2 = some v0) (hR : rmX6_worstOutcome.frames + 1 ≤ rm.frames ∧ 8 + (5 + 11) + rmX6_worstOutcome.locals ≤ rm.locals) (hst : (rest.map fun v => v.category).sum ≤ 8) (hf : kc + 0 ≤ rm.cells ∧ ks + 0 ≤ rm.slots) (d : decode cc pc = .ok (.invokevirtual 48, 3)) (K : V g w nL Q S kc ks (pc + 3) lv (.int v0 :: rest)) : V g w nL Q S kc ks pc lv (.int x2 :: .int x1 :: va_rf r0 :: rest) := by
  obtain ⟨fs, ho⟩ := oX6_worstOutcome h
  exact v_callV (As := [.int x1, .int x2]) (rest := rest) (ci := 6) hC pc (tX6_worstOutcome (l := g.2.1) (w := w) h) rfl (by decide) ho wG294 (by rw [hy]; exact wG293) wG295 wG296 wG125 hdX6_worstOutcome rfl hR hst hf d K
abbrev rmX6_tryRights : Room := { frames := 3, cells := 0, slots := 0, locals := 64 }
theorem hdX6_tryRights : yX6_tryRights.cls ≠ "java/lang/invoke/MethodHandle" ∧ yX6_tryRights.cls ≠ "java/lang/invoke/VarHandle" ∧ (parseMethodDescriptor yX6_tryRights.desc).map (fun d => d.parameters.length) = some 2 := by decide +kernel
def lX6_tryRights_11 (N : Nat) (r0 : Option Nat) (x1 : Int32) (x2 : Int32) (x3 : Int32) : Nat → Int32 → pH → Option (pH)
  | 0, _, _ => none
  | n + 1, x22, S23 =>
    if x22 ≤ 0 then
    (some S23)
    else
    (fJ6_bitCount_0f7a4 N S23 x22).bind fun x24 =>
    nm (fun (S25 : pH) =>
    nm ((x22 - (1 : Int32)) &&& x3) fun x26 =>
    lX6_tryRights_11 N r0 x1 x2 x3 n x26 S25) fun j77 =>
    if ¬ x24 = x2 then
    (j77 S23)
    else
    (fX6_worstOutcome N S23 r0 x1 x22).bind fun x27 =>
    (gfI S23 6 6 r0).bind fun x28 =>
    nm (fun (_ : Unit) =>
    (pfV S23 6 6 r0 (.int x27)).bind fun S29 =>
    (pfV S29 6 4 r0 (.int x1)).bind fun S30 =>
    (pfV S30 6 5 r0 (.int x22)).bind fun S31 =>
    j77 S31) fun j60 =>
    if x27 < x28 then
    (j60 ())
    else
    (gfI S23 6 6 r0).bind fun x32 =>
    if ¬ x27 = x32 then
    (j77 S23)
    else
    (gfI S23 6 4 r0).bind fun x33 =>
    if ¬ x1 = x33 then
    (j77 S23)
    else
    j60 ()
def fX6_tryRights (N : Nat) (S : pH) (r0 : Option Nat) (x1 : Int32) (x2 : Int32) : Option (pH) :=
  chk S 6 r0 <|
  nm ((511 : Int32) &&& (x1 ^^^ (-1 : Int32))) fun x21 =>
  (lX6_tryRights_11 N r0 x1 x2 x21 N x21 S).bind fun S39 =>
  some S39
theorem oX6_tryRights {N : Nat} {S : pH} {r0 : Option Nat} {x1 : Int32} {x2 : Int32} {z : pH} (h : fX6_tryRights N S r0 x1 x2 = some z) : ∃ fs, obj S 6 r0 = some fs := by
  unfold fX6_tryRights at h
  exact (chk_spec h).1
set_option maxHeartbeats 1000000 in
set_option maxRecDepth 20000 in
theorem kX6_tryRights_11 {g : VG} {w : VW} {N : Nat} {r0 : Option Nat} {x1 : Int32} {x2 : Int32} {x3 : Int32} {S0 : pH} (hC : Cx g yX6_tryRights cX6_tryRights 6 none rmX6_tryRights w) : ∀ (n : Nat) (x22 : Int32) (S23 : pH) (z : (pH)), lX6_tryRights_11 N r0 x1 x2 x3 n x22 S23 = some z → (∀ (e0 : pH), z = e0 → V g w 6 (Qm g w rmX6_tryRights.cells rmX6_tryRights.slots none S0) e0 0 0 88 [] []) → V g w 6 (Qm g w rmX6_tryRights.cells rmX6_tryRights.slots none S0) S23 0 0 11 [(0, va_rf r0), (1, .int x1), (2, .int x2), (3, .int x3), (4, .int x22)] [] := by
  intro n
  induction n with
  | zero => intro x22 S23 z h; rw [lX6_tryRights_11] at h; cases h
  | succ n ih =>
    intro x22 S23 z h K
    rw [lX6_tryRights_11] at h
    refine v_iload hC 11 4 dX6_tryRights_11 rfl ?_
    refine v_if_le hC 13 88 dX6_tryRights_13 (by decide) (fun c38 => ?_) (fun c38 => ?_)
    · replace h := ifp h c38
      refine v_sub [] [] rfl ?_
      exact K _ (sp1 h)
    · replace h := ifn h c38
      refine v_iload hC 16 4 dX6_tryRights_16 rfl ?_
      obtain ⟨x24, ex24, h⟩ := obn h
      refine qX6_34 hC rfl 18 ex24 (by decide) (catL (Nat.le_of_ble_eq_true rfl)) (by decide) dX6_tryRights_18 ?_
      refine v_iload_n hC 21 2 dX6_tryRights_21 rfl ?_
      obtain ⟨j77, f77, h⟩ := onm h
      have J77 : ∀ (S25 : pH), j77 S25 = some z → V g w 6 (Qm g w rmX6_tryRights.cells rmX6_tryRights.slots none S0) S25 0 0 77 [(0, va_rf r0), (1, .int x1), (2, .int x2), (3, .int x3), (4, .int x22)] [] := by
        intro S25 h
        replace h := jb1 f77 h
        refine v_iload hC 77 4 dX6_tryRights_77 rfl ?_
        refine v_iconst hC (1 : Int32) 79 dX6_tryRights_79 (by decide) ?_
        refine v_isub hC 80 dX6_tryRights_80 ?_
        refine v_iload_n hC 81 3 dX6_tryRights_81 rfl ?_
        refine v_iand hC 82 dX6_tryRights_82 ?_
        obtain ⟨x26, ex26, h⟩ := onm h
        refine v_topi x26 ex26 ?_
        refine v_istore hC [(4, .int x26), (0, va_rf r0), (1, .int x1), (2, .int x2), (3, .int x3)] 83 dX6_tryRights_83 (by decide) rfl ?_
        refine v_goto hC 85 11 dX6_tryRights_85 (by decide) ?_
        refine v_sub [(0, va_rf r0), (1, .int x1), (2, .int x2), (3, .int x3), (4, .int x26)] [1, 2, 3, 4, 0] rfl ?_
        exact ih _ _ _ h K
      refine v_icmp_ne hC 22 77 dX6_tryRights_22 (by decide) (fun c37 => ?_) (fun c37 => ?_)
      · replace h := ifp h c37
        refine v_sub [(0, va_rf r0), (1, .int x1), (2, .int x2), (3, .int x3), (4, .int x22)] [0, 1, 2, 3, 4] rfl ?_
        exact J77 _ h
      · replace h := ifn h (fun q => q c37)
        refine v_aload_n hC 25 0 dX6_tryRights_25 rfl ?_
        refine v_iload_n hC 26 1 dX6_tryRights_26 rfl ?_
        refine v_iload hC 27 4 dX6_tryRights_27 rfl ?_
        obtain ⟨x27, ex27, h⟩ := obn h
        refine qX6_48 hC rfl 29 ex27 (by decide) (catL (Nat.le_of_ble_eq_true rfl)) (by decide) dX6_tryRights_29 ?_
        refine v_istore hC [(5, .int x27), (0, va_rf r0), (1, .int x1), (2, .int x2), (3, .int x3), (4, .int x22)] 32 dX6_tryRights_32 (by decide) rfl ?_
        refine v_iload hC 34 0 dX6_tryRights_34 rfl ?_
        refine v_aload_n hC 36 1 dX6_tryRights_36 rfl ?_
        obtain ⟨x28, ex28, h⟩ := obn h
        refine gRX6_31 hC rfl 37 ex28 dX6_tryRights_37 ?_
        obtain ⟨j60, f60, h⟩ := onm h
        have J60 : ∀ (u9 : Unit), j60 u9 = some z → V g w 6 (Qm g w rmX6_tryRights.cells rmX6_tryRights.slots none S0) S23 0 0 60 [(0, va_rf r0), (1, .int x1), (2, .int x2), (3, .int x3), (4, .int x22), (5, .int x27)] [] := by
          intro u9 h
          replace h := jb1 f60 h
          refine v_aload_n hC 60 0 dX6_tryRights_60 rfl ?_
          refine v_iload hC 61 5 dX6_tryRights_61 rfl ?_
          obtain ⟨S29, eS29, h⟩ := obn h
          refine pRX6_31 hC rfl 63 eS29 dX6_tryRights_63 ?_
          refine v_aload_n hC 66 0 dX6_tryRights_66 rfl ?_
          refine v_iload_n hC 67 1 dX6_tryRights_67 rfl ?_
          obtain ⟨S30, eS30, h⟩ := obn h
          refine pRX6_25 hC rfl 68 eS30 dX6_tryRights_68 ?_
          refine v_aload_n hC 71 0 dX6_tryRights_71 rfl ?_
          refine v_iload hC 72 4 dX6_tryRights_72 rfl ?_
          obtain ⟨S31, eS31, h⟩ := obn h
          refine pRX6_28 hC rfl 74 eS31 dX6_tryRights_74 ?_
          refine v_sub [(0, va_rf r0), (1, .int x1), (2, .int x2), (3, .int x3), (4, .int x22)] [0, 1, 2, 3, 4] rfl ?_
          exact J77 _ h
        refine v_icmp_lt hC 40 60 dX6_tryRights_40 (by decide) (fun c36 => ?_) (fun c36 => ?_)
        · replace h := ifp h c36
          refine v_sub [(0, va_rf r0), (1, .int x1), (2, .int x2), (3, .int x3), (4, .int x22), (5, .int x27)] [1, 2, 3, 4, 5, 0] rfl ?_
          exact J60 _ h
        · replace h := ifn h c36
          refine v_iload hC 43 0 dX6_tryRights_43 rfl ?_
          refine v_aload_n hC 45 1 dX6_tryRights_45 rfl ?_
          obtain ⟨x32, ex32, h⟩ := obn h
          refine gRX6_31 hC rfl 46 ex32 dX6_tryRights_46 ?_
          refine v_icmp_ne hC 49 77 dX6_tryRights_49 (by decide) (fun c35 => ?_) (fun c35 => ?_)
          · replace h := ifp h c35
            refine v_sub [(0, va_rf r0), (1, .int x1), (2, .int x2), (3, .int x3), (4, .int x22)] [1, 2, 3, 4, 5] rfl ?_
            exact J77 _ h
          · replace h := ifn h (fun q => q c35)
            refine v_iload_n hC 52 2 dX6_tryRights_52 rfl ?_
            refine v_aload_n hC 53 1 dX6_tryRights_53 rfl ?_
            obtain ⟨x33, ex33, h⟩ := obn h
            refine gRX6_25 hC rfl 54 ex33 dX6_tryRights_54 ?_
            refine v_icmp_ne hC 57 77 dX6_tryRights_57 (by decide) (fun c34 => ?_) (fun c34 => ?_)
            · replace h := ifp h c34
              refine v_sub [(0, va_rf r0), (1, .int x1), (2, .int x2), (3, .int x3), (4, .int x22)] [1, 2, 3, 4, 5] rfl ?_
              exact J77 _ h
            · replace h := ifn h (fun q => q c34)
              refine v_sub [(0, va_rf r0), (1, .int x1), (2, .int x2), (3, .int x3), (4, .int x22), (5, .int x27)] [1, 2, 3, 4, 5, 0] rfl ?_
              exact J60 _ h
set_option maxHeartbeats 1000000 in
set_option maxRecDepth 20000 in
theorem tX6_tryRights {l : Launch} {w : VW} {N : Nat} {S : pH} {r0 : Option Nat} {x1 : Int32} {x2 : Int32} {S0 : pH} (h : fX6_tryRights N S r0 x1 x2 = some S0) : CT l w yX6_tryRights cX6_tryRights 6 none rmX6_tryRights [va_rf r0, .int x1, .int x2] S none S0 := by
  refine v_entry [(0, va_rf r0), (1, .int x1), (2, .int x2)] (by decide) (by simp [lg_sl, cat_rf, cat_i, cat_j]) (by simp [lv_args, cat_rf, cat_i, cat_j]) (fun g _ hC => ?_)
  unfold fX6_tryRights at h
  obtain ⟨hO, h⟩ := chk_spec h
  refine v_sipush hC (511 : Int32) 0 dX6_tryRights_0 (by decide) ?_
  refine v_iload_n hC 3 1 dX6_tryRights_3 rfl ?_
  refine v_iconst hC (-1 : Int32) 4 dX6_tryRights_4 (by decide) ?_
  refine v_ixor hC 5 dX6_tryRights_5 ?_
  refine v_iand hC 6 dX6_tryRights_6 ?_
  obtain ⟨x21, ex21, h⟩ := onm h
  refine v_topi x21 ex21 ?_
  refine v_istore_n hC [(3, .int x21), (0, va_rf r0), (1, .int x1), (2, .int x2)] 7 dX6_tryRights_7 (by decide) rfl ?_
  refine v_iload_n hC 8 0 dX6_tryRights_8 rfl ?_
  refine v_istore hC [(4, .int x21), (3, .int x21), (0, va_rf r0), (1, .int x1), (2, .int x2)] 9 dX6_tryRights_9 (by decide) rfl ?_
  obtain ⟨S39, E11, h⟩ := obn h
  refine v_sub [(0, va_rf r0), (1, .int x1), (2, .int x2), (3, .int x21), (4, .int x21)] [2, 3, 4, 1, 0] rfl ?_
  refine kX6_tryRights_11 hC _ _ _ _ E11 (fun _ hz9 => ?_)
  cases hz9
  obtain rfl := sp1 h
  exact v_vret hC 88 (by decide) (by decide) dX6_tryRights_88
set_option maxRecDepth 20000 in
theorem qX6_44 {g : VG} {w : VW} {nL : Nat} {Q : State → Prop} {S : pH} {kc ks : Nat} {lv : List (Nat × Value)} {rest : List Value} {y : MethodName} {cc : ByteArray} {rt : Option FieldType} {rm : Room} (hC : Cx g y cc nL rt rm w) (hy : y.cls = RX6) (pc : Nat) {N : Nat} {r0 : Option Nat} {x1 : Int32} {x2 : Int32} {S0 : pH} (h : fX6_tryRights N S r0 x1 x2 = some S0) (hR : rmX6_tryRights.frames + 1 ≤ rm.frames ∧ 8 + (6 + 11) + rmX6_tryRights.locals ≤ rm.locals) (hst : (rest.map fun v => v.category).sum ≤ 8) (hf : kc + 0 ≤ rm.cells ∧ ks + 0 ≤ rm.slots) (d : decode cc pc = .ok (.invokevirtual 44, 3)) (K : V g w nL Q S0 kc ks (pc + 3) lv (rest)) : V g w nL Q S kc ks pc lv (.int x2 :: .int x1 :: va_rf r0 :: rest) := by
  obtain ⟨fs, ho⟩ := oX6_tryRights h
  exact v_callV (As := [.int x1, .int x2]) (rest := rest) (ci := 6) hC pc (tX6_tryRights (l := g.2.1) (w := w) h) rfl (by decide) ho wG298 (by rw [hy]; exact wG297) wG299 wG300 wG125 hdX6_tryRights rfl hR hst hf d K
abbrev rmX6_findBest : Room := { frames := 4, cells := 0, slots := 0, locals := 89 }
theorem hdX6_findBest : yX6_findBest.cls ≠ "java/lang/invoke/MethodHandle" ∧ yX6_findBest.cls ≠ "java/lang/invoke/VarHandle" ∧ (parseMethodDescriptor yX6_findBest.desc).map (fun d => d.parameters.length) = some 0 := by decide +kernel
def lX6_findBest_27 (N : Nat) (r0 : Option Nat) (x1 : Int32) : Nat → Int32 → pH → Option (pH)
  | 0, _, _ => none
  | n + 1, x26, S27 =>
    if (511 : Int32) < x26 then
    (some S27)
    else
    (fJ6_bitCount_0f7a4 N S27 x26).bind fun x28 =>
    nm (fun (S29 : pH) =>
    nm (x26 + (1 : Int32)) fun x30 =>
    lX6_findBest_27 N r0 x1 n x30 S29) fun j48 =>
    if ¬ x28 = x1 then
    (j48 S27)
    else
    (fX6_tryRights N S27 r0 x26 x1).bind fun S31 =>
    j48 S31
def lX6_findBest_20 (N : Nat) (r0 : Option Nat) : Nat → Int32 → pH → Option (pH)
  | 0, _, _ => none
  | n + 1, x24, S25 =>
    if (4 : Int32) < x24 then
    (some S25)
    else
    (lX6_findBest_27 N r0 x24 N (1 : Int32) S25).bind fun S34 =>
    nm (x24 + (1 : Int32)) fun x35 =>
    lX6_findBest_20 N r0 n x35 S34
def fX6_findBest (N : Nat) (S : pH) (r0 : Option Nat) : Option (pH) :=
  chk S 6 r0 <|
  (gfI S 6 3 r0).bind fun x21 =>
  if x21 = 0 then
  ((fX6_casesLeft N S r0).bind fun x22 =>
  (pfV S 6 6 r0 (.int (x22 + (1 : Int32)))).bind fun S23 =>
  (lX6_findBest_20 N r0 N (1 : Int32) S23).bind fun S37 =>
  (pfV S37 6 3 r0 (.int (1 : Int32))).bind fun S38 =>
  some S38)
  else
  some S
theorem oX6_findBest {N : Nat} {S : pH} {r0 : Option Nat} {z : pH} (h : fX6_findBest N S r0 = some z) : ∃ fs, obj S 6 r0 = some fs := by
  unfold fX6_findBest at h
  exact (chk_spec h).1
set_option maxHeartbeats 1000000 in
set_option maxRecDepth 20000 in
theorem kX6_findBest_27 {g : VG} {w : VW} {N : Nat} {r0 : Option Nat} {x1 : Int32} {S0 : pH} (hC : Cx g yX6_findBest cX6_findBest 3 none rmX6_findBest w) : ∀ (n : Nat) (x26 : Int32) (S27 : pH) (z : (pH)), lX6_findBest_27 N r0 x1 n x26 S27 = some z → (∀ (e0 : pH), z = e0 → V g w 3 (Qm g w rmX6_findBest.cells rmX6_findBest.slots none S0) e0 0 0 54 [(0, va_rf r0), (1, .int x1)] []) → V g w 3 (Qm g w rmX6_findBest.cells rmX6_findBest.slots none S0) S27 0 0 27 [(0, va_rf r0), (1, .int x1), (2, .int x26)] [] := by
  intro n
  induction n with
  | zero => intro x26 S27 z h; rw [lX6_findBest_27] at h; cases h
  | succ n ih =>
    intro x26 S27 z h K
    rw [lX6_findBest_27] at h
    refine v_iload_n hC 27 2 dX6_findBest_27 rfl ?_
    refine v_sipush hC (511 : Int32) 28 dX6_findBest_28 (by decide) ?_
    refine v_icmp_gt hC 31 54 dX6_findBest_31 (by decide) (fun c33 => ?_) (fun c33 => ?_)
    · replace h := ifp h c33
      refine v_sub [(0, va_rf r0), (1, .int x1)] [0, 1] rfl ?_
      exact K _ (sp1 h)
    · replace h := ifn h c33
      refine v_iload_n hC 34 2 dX6_findBest_34 rfl ?_
      obtain ⟨x28, ex28, h⟩ := obn h
      refine qX6_34 hC rfl 35 ex28 (by decide) (catL (Nat.le_of_ble_eq_true rfl)) (by decide) dX6_findBest_35 ?_
      refine v_iload_n hC 38 1 dX6_findBest_38 rfl ?_
      obtain ⟨j48, f48, h⟩ := onm h
      have J48 : ∀ (S29 : pH), j48 S29 = some z → V g w 3 (Qm g w rmX6_findBest.cells rmX6_findBest.slots none S0) S29 0 0 48 [(0, va_rf r0), (1, .int x1), (2, .int x26)] [] := by
        intro S29 h
        replace h := jb1 f48 h
        obtain ⟨x30, ex30, h⟩ := onm h
        refine v_iinc hC x30 [(2, .int x30), (0, va_rf r0), (1, .int x1)] 48 2 dX6_findBest_48 rfl (by rw [ex30]; rfl) (by decide) rfl ?_
        refine v_goto hC 51 27 dX6_findBest_51 (by decide) ?_
        refine v_sub [(0, va_rf r0), (1, .int x1), (2, .int x30)] [1, 2, 0] rfl ?_
        exact ih _ _ _ h K
      refine v_icmp_ne hC 39 48 dX6_findBest_39 (by decide) (fun c32 => ?_) (fun c32 => ?_)
      · replace h := ifp h c32
        refine v_sub [(0, va_rf r0), (1, .int x1), (2, .int x26)] [0, 1, 2] rfl ?_
        exact J48 _ h
      · replace h := ifn h (fun q => q c32)
        refine v_aload_n hC 42 0 dX6_findBest_42 rfl ?_
        refine v_iload_n hC 43 2 dX6_findBest_43 rfl ?_
        refine v_iload_n hC 44 1 dX6_findBest_44 rfl ?_
        obtain ⟨S31, eS31, h⟩ := obn h
        refine qX6_44 hC rfl 45 eS31 (by decide) (catL (Nat.le_of_ble_eq_true rfl)) (by decide) dX6_findBest_45 ?_
        refine v_sub [(0, va_rf r0), (1, .int x1), (2, .int x26)] [0, 1, 2] rfl ?_
        exact J48 _ h
set_option maxHeartbeats 1000000 in
set_option maxRecDepth 20000 in
theorem kX6_findBest_20 {g : VG} {w : VW} {N : Nat} {r0 : Option Nat} {S0 : pH} (hC : Cx g yX6_findBest cX6_findBest 3 none rmX6_findBest w) : ∀ (n : Nat) (x24 : Int32) (S25 : pH) (z : (pH)), lX6_findBest_20 N r0 n x24 S25 = some z → (∀ (e0 : pH), z = e0 → V g w 3 (Qm g w rmX6_findBest.cells rmX6_findBest.slots none S0) e0 0 0 60 [(0, va_rf r0)] []) → V g w 3 (Qm g w rmX6_findBest.cells rmX6_findBest.slots none S0) S25 0 0 20 [(0, va_rf r0), (1, .int x24)] [] := by
  intro n
  induction n with
  | zero => intro x24 S25 z h; rw [lX6_findBest_20] at h; cases h
  | succ n ih =>
    intro x24 S25 z h K
    rw [lX6_findBest_20] at h
    refine v_iload_n hC 20 1 dX6_findBest_20 rfl ?_
    refine v_iconst hC (4 : Int32) 21 dX6_findBest_21 (by decide) ?_
    refine v_icmp_gt hC 22 60 dX6_findBest_22 (by decide) (fun c36 => ?_) (fun c36 => ?_)
    · replace h := ifp h c36
      refine v_sub [(0, va_rf r0)] [0] rfl ?_
      exact K _ (sp1 h)
    · replace h := ifn h c36
      refine v_iconst hC (1 : Int32) 25 dX6_findBest_25 (by decide) ?_
      refine v_istore_n hC [(2, .int (1 : Int32)), (0, va_rf r0), (1, .int x24)] 26 dX6_findBest_26 (by decide) rfl ?_
      obtain ⟨S34, E27, h⟩ := obn h
      refine v_sub [(0, va_rf r0), (1, .int x24), (2, .int (1 : Int32))] [1, 2, 0] rfl ?_
      refine kX6_findBest_27 hC _ _ _ _ E27 (fun _ hz9 => ?_)
      cases hz9
      obtain ⟨x35, ex35, h⟩ := onm h
      refine v_iinc hC x35 [(1, .int x35), (0, va_rf r0)] 54 1 dX6_findBest_54 rfl (by rw [ex35]; rfl) (by decide) (by first | rfl | (simp [cat_rf, cat_i, cat_j]; done) | (simp [cat_rf, cat_i, cat_j]; decide)) ?_
      refine v_goto hC 57 20 dX6_findBest_57 (by decide) ?_
      refine v_sub [(0, va_rf r0), (1, .int x35)] [1, 0] rfl ?_
      exact ih _ _ _ h K
set_option maxHeartbeats 1000000 in
set_option maxRecDepth 20000 in
theorem tX6_findBest {l : Launch} {w : VW} {N : Nat} {S : pH} {r0 : Option Nat} {S0 : pH} (h : fX6_findBest N S r0 = some S0) : CT l w yX6_findBest cX6_findBest 3 none rmX6_findBest [va_rf r0] S none S0 := by
  refine v_entry [(0, va_rf r0)] (by decide) (by simp [lg_sl, cat_rf, cat_i, cat_j]) (by simp [lv_args, cat_rf, cat_i, cat_j]) (fun g _ hC => ?_)
  unfold fX6_findBest at h
  obtain ⟨hO, h⟩ := chk_spec h
  refine v_aload_n hC 0 0 dX6_findBest_0 rfl ?_
  obtain ⟨x21, ex21, h⟩ := obn h
  refine gRX6_21 hC rfl 1 ex21 dX6_findBest_1 ?_
  refine v_if_eq hC 4 8 dX6_findBest_4 (by decide) (fun c39 => ?_) (fun c39 => ?_)
  · replace h := ifp h c39
    refine v_aload_n hC 8 0 dX6_findBest_8 rfl ?_
    refine v_aload_n hC 9 0 dX6_findBest_9 rfl ?_
    obtain ⟨x22, ex22, h⟩ := obn h
    refine qX6_40 hC rfl 10 ex22 (by decide) (catL (Nat.le_of_ble_eq_true rfl)) (by decide) dX6_findBest_10 ?_
    refine v_iconst hC (1 : Int32) 13 dX6_findBest_13 (by decide) ?_
    refine v_iadd hC 14 dX6_findBest_14 ?_
    obtain ⟨S23, eS23, h⟩ := obn h
    refine pRX6_31 hC rfl 15 eS23 dX6_findBest_15 ?_
    refine v_iconst hC (1 : Int32) 18 dX6_findBest_18 (by decide) ?_
    refine v_istore_n hC [(1, .int (1 : Int32)), (0, va_rf r0)] 19 dX6_findBest_19 (by decide) (by first | rfl | (simp [cat_rf, cat_i, cat_j]; done) | (simp [cat_rf, cat_i, cat_j]; decide)) ?_
    obtain ⟨S37, E20, h⟩ := obn h
    refine v_sub [(0, va_rf r0), (1, .int (1 : Int32))] [1, 0] rfl ?_
    refine kX6_findBest_20 hC _ _ _ _ E20 (fun _ hz9 => ?_)
    cases hz9
    refine v_aload_n hC 60 0 dX6_findBest_60 rfl ?_
    refine v_iconst hC (1 : Int32) 61 dX6_findBest_61 (by decide) ?_
    obtain ⟨S38, eS38, h⟩ := obn h
    refine pRX6_21 hC rfl 62 (by decide) eS38 dX6_findBest_62 ?_
    obtain rfl := sp1 h
    exact v_vret hC 65 (by decide) (by decide) dX6_findBest_65
  · replace h := ifn h c39
    obtain rfl := sp1 h
    exact v_vret hC 7 (by decide) (by decide) dX6_findBest_7
abbrev rmX6_forget : Room := { frames := 0, cells := 0, slots := 0, locals := 0 }
theorem hdX6_forget : yX6_forget.cls ≠ "java/lang/invoke/MethodHandle" ∧ yX6_forget.cls ≠ "java/lang/invoke/VarHandle" ∧ (parseMethodDescriptor yX6_forget.desc).map (fun d => d.parameters.length) = some 0 := by decide +kernel
def fX6_forget (N : Nat) (S : pH) (r0 : Option Nat) : Option (Int32 × pH) :=
  chk S 6 r0 <|
  (gfI S 6 2 r0).bind fun x21 =>
  (pfV S 6 2 r0 (.int (0 : Int32))).bind fun S22 =>
  (pfV S22 6 0 r0 (.int (511 : Int32))).bind fun S23 =>
  (pfV S23 6 1 r0 (.int (511 : Int32))).bind fun S24 =>
  (pfV S24 6 3 r0 (.int (0 : Int32))).bind fun S25 =>
  some (x21, S25)
theorem oX6_forget {N : Nat} {S : pH} {r0 : Option Nat} {z : Int32 × pH} (h : fX6_forget N S r0 = some z) : ∃ fs, obj S 6 r0 = some fs := by
  unfold fX6_forget at h
  exact (chk_spec h).1
set_option maxHeartbeats 1000000 in
set_option maxRecDepth 20000 in
theorem tX6_forget {l : Launch} {w : VW} {N : Nat} {S : pH} {r0 : Option Nat} {v0 : Int32} {S0 : pH} (h : fX6_forget N S r0 = some (v0, S0)) : CT l w yX6_forget cX6_forget 2 (some .int) rmX6_forget [va_rf r0] S (some (.int v0)) S0 := by
  refine v_entry [(0, va_rf r0)] (by decide) (by simp [lg_sl, cat_rf, cat_i, cat_j]) (by simp [lv_args, cat_rf, cat_i, cat_j]) (fun g _ hC => ?_)
  unfold fX6_forget at h
  obtain ⟨hO, h⟩ := chk_spec h
  refine v_aload_n hC 0 0 dX6_forget_0 rfl ?_
  obtain ⟨x21, ex21, h⟩ := obn h
  refine gRX6_18 hC rfl 1 ex21 dX6_forget_1 ?_
  refine v_istore_n hC [(1, .int x21), (0, va_rf r0)] 4 dX6_forget_4 (by decide) (by first | rfl | (simp [cat_rf, cat_i, cat_j]; done) | (simp [cat_rf, cat_i, cat_j]; decide)) ?_
  refine v_aload_n hC 5 1 dX6_forget_5 rfl ?_
  refine v_iconst hC (0 : Int32) 6 dX6_forget_6 (by decide) ?_
  obtain ⟨S22, eS22, h⟩ := obn h
  refine pRX6_18 hC rfl 7 eS22 dX6_forget_7 ?_
  refine v_aload_n hC 10 1 dX6_forget_10 rfl ?_
  refine v_sipush hC (511 : Int32) 11 dX6_forget_11 (by decide) ?_
  obtain ⟨S23, eS23, h⟩ := obn h
  refine pRX6_9 hC rfl 14 eS23 dX6_forget_14 ?_
  refine v_aload_n hC 17 1 dX6_forget_17 rfl ?_
  refine v_sipush hC (511 : Int32) 18 dX6_forget_18 (by decide) ?_
  obtain ⟨S24, eS24, h⟩ := obn h
  refine pRX6_15 hC rfl 21 eS24 dX6_forget_21 ?_
  refine v_aload_n hC 24 1 dX6_forget_24 rfl ?_
  refine v_iconst hC (0 : Int32) 25 dX6_forget_25 (by decide) ?_
  obtain ⟨S25, eS25, h⟩ := obn h
  refine pRX6_21 hC rfl 26 (by decide) eS25 dX6_forget_26 ?_
  refine v_iload_n hC 29 0 dX6_forget_29 rfl ?_
  obtain ⟨rfl, rfl⟩ := sp2 h
  exact v_iret hC 30 (by decide) (by decide) dX6_forget_30
abbrev rmX6_init : Room := { frames := 1, cells := 0, slots := 0, locals := 12 }
theorem hdX6_init : yX6_init.cls ≠ "java/lang/invoke/MethodHandle" ∧ yX6_init.cls ≠ "java/lang/invoke/VarHandle" ∧ (parseMethodDescriptor yX6_init.desc).map (fun d => d.parameters.length) = some 0 := by decide +kernel
def fX6_init (N : Nat) (S : pH) (r0 : Option Nat) : Option (pH) :=
  chk S 6 r0 <|
  (pfV S 6 0 r0 (.int (511 : Int32))).bind fun S21 =>
  (pfV S21 6 1 r0 (.int (511 : Int32))).bind fun S22 =>
  (pfV S22 6 2 r0 (.int (0 : Int32))).bind fun S23 =>
  (pfV S23 6 3 r0 (.int (0 : Int32))).bind fun S24 =>
  (pfV S24 6 4 r0 (.int (0 : Int32))).bind fun S25 =>
  (pfV S25 6 5 r0 (.int (0 : Int32))).bind fun S26 =>
  (pfV S26 6 6 r0 (.int (0 : Int32))).bind fun S27 =>
  some S27
theorem oX6_init {N : Nat} {S : pH} {r0 : Option Nat} {z : pH} (h : fX6_init N S r0 = some z) : ∃ fs, obj S 6 r0 = some fs := by
  unfold fX6_init at h
  exact (chk_spec h).1
set_option maxHeartbeats 1000000 in
set_option maxRecDepth 20000 in
theorem tX6_init {l : Launch} {w : VW} {N : Nat} {S : pH} {r0 : Option Nat} {S0 : pH} (h : fX6_init N S r0 = some S0) : CT l w yX6_init cX6_init 1 none rmX6_init [va_rf r0] S none S0 := by
  refine v_entry [(0, va_rf r0)] (by decide) (by simp [lg_sl, cat_rf, cat_i, cat_j]) (by simp [lv_args, cat_rf, cat_i, cat_j]) (fun g _ hC => ?_)
  unfold fX6_init at h
  obtain ⟨hO, h⟩ := chk_spec h
  refine v_aload_n hC 0 0 dX6_init_0 rfl ?_
  refine v_objInit hC 1 wG75 wG20 wG21 (chk_ne hO) (by decide) (by simp [cat_rf, cat_i, cat_j]) dX6_init_1 ?_
  refine v_aload_n hC 4 0 dX6_init_4 rfl ?_
  refine v_sipush hC (511 : Int32) 5 dX6_init_5 (by decide) ?_
  obtain ⟨S21, eS21, h⟩ := obn h
  refine pRX6_9 hC rfl 8 eS21 dX6_init_8 ?_
  refine v_aload_n hC 11 0 dX6_init_11 rfl ?_
  refine v_sipush hC (511 : Int32) 12 dX6_init_12 (by decide) ?_
  obtain ⟨S22, eS22, h⟩ := obn h
  refine pRX6_15 hC rfl 15 eS22 dX6_init_15 ?_
  refine v_aload_n hC 18 0 dX6_init_18 rfl ?_
  refine v_iconst hC (0 : Int32) 19 dX6_init_19 (by decide) ?_
  obtain ⟨S23, eS23, h⟩ := obn h
  refine pRX6_18 hC rfl 20 eS23 dX6_init_20 ?_
  refine v_aload_n hC 23 0 dX6_init_23 rfl ?_
  refine v_iconst hC (0 : Int32) 24 dX6_init_24 (by decide) ?_
  obtain ⟨S24, eS24, h⟩ := obn h
  refine pRX6_21 hC rfl 25 (by decide) eS24 dX6_init_25 ?_
  refine v_aload_n hC 28 0 dX6_init_28 rfl ?_
  refine v_iconst hC (0 : Int32) 29 dX6_init_29 (by decide) ?_
  obtain ⟨S25, eS25, h⟩ := obn h
  refine pRX6_25 hC rfl 30 eS25 dX6_init_30 ?_
  refine v_aload_n hC 33 0 dX6_init_33 rfl ?_
  refine v_iconst hC (0 : Int32) 34 dX6_init_34 (by decide) ?_
  obtain ⟨S26, eS26, h⟩ := obn h
  refine pRX6_28 hC rfl 35 eS26 dX6_init_35 ?_
  refine v_aload_n hC 38 0 dX6_init_38 rfl ?_
  refine v_iconst hC (0 : Int32) 39 dX6_init_39 (by decide) ?_
  obtain ⟨S27, eS27, h⟩ := obn h
  refine pRX6_31 hC rfl 40 eS27 dX6_init_40 ?_
  obtain rfl := sp1 h
  exact v_vret hC 43 (by decide) (by decide) dX6_init_43
abbrev rmX6_tell : Room := { frames := 2, cells := 0, slots := 0, locals := 40 }
theorem hdX6_tell : yX6_tell.cls ≠ "java/lang/invoke/MethodHandle" ∧ yX6_tell.cls ≠ "java/lang/invoke/VarHandle" ∧ (parseMethodDescriptor yX6_tell.desc).map (fun d => d.parameters.length) = some 3 := by decide +kernel
def fX6_tell (N : Nat) (S : pH) (r0 : Option Nat) (x1 : Int32) (x2 : Int32) (x3 : Int32) : Option (Int32 × pH) :=
  chk S 6 r0 <|
  nm ((511 : Int32) &&& ((x1 ||| x2) ^^^ (-1 : Int32))) fun x21 =>
  (gfI S 6 0 r0).bind fun x22 =>
  nm (fun (r23 : Option Nat) (x24 : Int32) (x25 : Int32) =>
  (pfV S 6 0 r23 (.int (x24 &&& x25))).bind fun S26 =>
  (gfI S26 6 1 r0).bind fun x27 =>
  nm (fun (r28 : Option Nat) (x29 : Int32) (x30 : Int32) =>
  (pfV S26 6 1 r28 (.int (x29 &&& x30))).bind fun S31 =>
  (gfI S31 6 2 r0).bind fun x32 =>
  (pfV S31 6 2 r0 (.int (x32 + (1 : Int32)))).bind fun S33 =>
  (pfV S33 6 3 r0 (.int (0 : Int32))).bind fun S34 =>
  (fX6_casesLeft N S34 r0).bind fun x35 =>
  some (x35, S34)) fun j61 =>
  if ¬ x3 = 0 then
  (if x3 ≤ 0 then
  (j61 r0 x27 x1)
  else
  j61 r0 x27 x2)
  else
  j61 r0 x27 x21) fun j34 =>
  if ¬ x3 = 0 then
  (if x3 ≤ 0 then
  (j34 r0 x22 x2)
  else
  j34 r0 x22 x1)
  else
  j34 r0 x22 x21
theorem oX6_tell {N : Nat} {S : pH} {r0 : Option Nat} {x1 : Int32} {x2 : Int32} {x3 : Int32} {z : Int32 × pH} (h : fX6_tell N S r0 x1 x2 x3 = some z) : ∃ fs, obj S 6 r0 = some fs := by
  unfold fX6_tell at h
  exact (chk_spec h).1
set_option maxHeartbeats 1000000 in
set_option maxRecDepth 20000 in
theorem tX6_tell {l : Launch} {w : VW} {N : Nat} {S : pH} {r0 : Option Nat} {x1 : Int32} {x2 : Int32} {x3 : Int32} {v0 : Int32} {S0 : pH} (h : fX6_tell N S r0 x1 x2 x3 = some (v0, S0)) : CT l w yX6_tell cX6_tell 5 (some .int) rmX6_tell [va_rf r0, .int x1, .int x2, .int x3] S (some (.int v0)) S0 := by
  refine v_entry [(0, va_rf r0), (1, .int x1), (2, .int x2), (3, .int x3)] (by decide) (by simp [lg_sl, cat_rf, cat_i, cat_j]) (by simp [lv_args, cat_rf, cat_i, cat_j]) (fun g _ hC => ?_)
  unfold fX6_tell at h
  obtain ⟨hO, h⟩ := chk_spec h
  refine v_sipush hC (511 : Int32) 0 dX6_tell_0 (by decide) ?_
  refine v_iload_n hC 3 1 dX6_tell_3 rfl ?_
  refine v_iload_n hC 4 2 dX6_tell_4 rfl ?_
  refine v_ior hC 5 dX6_tell_5 ?_
  refine v_iconst hC (-1 : Int32) 6 dX6_tell_6 (by decide) ?_
  refine v_ixor hC 7 dX6_tell_7 ?_
  refine v_iand hC 8 dX6_tell_8 ?_
  obtain ⟨x21, ex21, h⟩ := onm h
  refine v_topi x21 ex21 ?_
  refine v_istore hC [(4, .int x21), (0, va_rf r0), (1, .int x1), (2, .int x2), (3, .int x3)] 9 dX6_tell_9 (by decide) rfl ?_
  refine v_aload_n hC 11 1 dX6_tell_11 rfl ?_
  refine v_dup hC 12 (cat_rf _) dX6_tell_12 ?_
  obtain ⟨x22, ex22, h⟩ := obn h
  refine gRX6_9 hC rfl 13 ex22 dX6_tell_13 ?_
  refine v_iload_n hC 16 4 dX6_tell_16 rfl ?_
  obtain ⟨j34, f34, h⟩ := onm h
  have J34 : ∀ (r23 : Option Nat) (x24 : Int32) (x25 : Int32), j34 r23 x24 x25 = some (v0, S0) → V g w 5 (Qm g w rmX6_tell.cells rmX6_tell.slots (some (.int v0)) S0) S 0 0 34 [(0, va_rf r0), (1, .int x1), (2, .int x2), (3, .int x3), (4, .int x21)] [.int x25, .int x24, va_rf r23] := by
    intro r23 x24 x25 h
    replace h := jb3 f34 h
    refine v_iand hC 34 dX6_tell_34 ?_
    obtain ⟨S26, eS26, h⟩ := obn h
    refine pRX6_9 hC rfl 35 eS26 dX6_tell_35 ?_
    refine v_aload_n hC 38 0 dX6_tell_38 rfl ?_
    refine v_dup hC 39 (cat_rf _) dX6_tell_39 ?_
    obtain ⟨x27, ex27, h⟩ := obn h
    refine gRX6_15 hC rfl 40 ex27 dX6_tell_40 ?_
    refine v_iload_n hC 43 3 dX6_tell_43 rfl ?_
    obtain ⟨j61, f61, h⟩ := onm h
    have J61 : ∀ (r28 : Option Nat) (x29 : Int32) (x30 : Int32), j61 r28 x29 x30 = some (v0, S0) → V g w 5 (Qm g w rmX6_tell.cells rmX6_tell.slots (some (.int v0)) S0) S26 0 0 61 [(0, va_rf r0)] [.int x30, .int x29, va_rf r28] := by
      intro r28 x29 x30 h
      replace h := jb3 f61 h
      refine v_iand hC 61 dX6_tell_61 ?_
      obtain ⟨S31, eS31, h⟩ := obn h
      refine pRX6_15 hC rfl 62 eS31 dX6_tell_62 ?_
      refine v_aload_n hC 65 0 dX6_tell_65 rfl ?_
      refine v_dup hC 66 (cat_rf _) dX6_tell_66 ?_
      obtain ⟨x32, ex32, h⟩ := obn h
      refine gRX6_18 hC rfl 67 ex32 dX6_tell_67 ?_
      refine v_iconst hC (1 : Int32) 70 dX6_tell_70 (by decide) ?_
      refine v_iadd hC 71 dX6_tell_71 ?_
      obtain ⟨S33, eS33, h⟩ := obn h
      refine pRX6_18 hC rfl 72 eS33 dX6_tell_72 ?_
      refine v_aload_n hC 75 0 dX6_tell_75 rfl ?_
      refine v_iconst hC (0 : Int32) 76 dX6_tell_76 (by decide) ?_
      obtain ⟨S34, eS34, h⟩ := obn h
      refine pRX6_21 hC rfl 77 (by decide) eS34 dX6_tell_77 ?_
      refine v_aload_n hC 80 0 dX6_tell_80 rfl ?_
      obtain ⟨x35, ex35, h⟩ := obn h
      refine qX6_40 hC rfl 81 ex35 (by decide) (catL (Nat.le_of_ble_eq_true rfl)) (by decide) dX6_tell_81 ?_
      obtain ⟨rfl, rfl⟩ := sp2 h
      exact v_iret hC 84 (by decide) (by decide) dX6_tell_84
    refine v_if_ne hC 44 52 dX6_tell_44 (by decide) (fun c37 => ?_) (fun c37 => ?_)
    · replace h := ifp h c37
      refine v_iload_n hC 52 3 dX6_tell_52 rfl ?_
      refine v_if_le hC 53 60 dX6_tell_53 (by decide) (fun c36 => ?_) (fun c36 => ?_)
      · replace h := ifp h c36
        refine v_iload_n hC 60 1 dX6_tell_60 rfl ?_
        refine v_sub [(0, va_rf r0)] [0] rfl ?_
        exact J61 _ _ _ h
      · replace h := ifn h c36
        refine v_iload_n hC 56 2 dX6_tell_56 rfl ?_
        refine v_goto hC 57 61 dX6_tell_57 (by decide) ?_
        refine v_sub [(0, va_rf r0)] [0] rfl ?_
        exact J61 _ _ _ h
    · replace h := ifn h (fun q => q c37)
      refine v_iload hC 47 4 dX6_tell_47 rfl ?_
      refine v_goto hC 49 61 dX6_tell_49 (by decide) ?_
      refine v_sub [(0, va_rf r0)] [0] rfl ?_
      exact J61 _ _ _ h
  refine v_if_ne hC 17 25 dX6_tell_17 (by decide) (fun c39 => ?_) (fun c39 => ?_)
  · replace h := ifp h c39
    refine v_iload_n hC 25 4 dX6_tell_25 rfl ?_
    refine v_if_le hC 26 33 dX6_tell_26 (by decide) (fun c38 => ?_) (fun c38 => ?_)
    · replace h := ifp h c38
      refine v_iload_n hC 33 3 dX6_tell_33 rfl ?_
      refine v_sub [(0, va_rf r0), (1, .int x1), (2, .int x2), (3, .int x3), (4, .int x21)] [1, 2, 3, 4, 0] rfl ?_
      exact J34 _ _ _ h
    · replace h := ifn h c38
      refine v_iload_n hC 29 2 dX6_tell_29 rfl ?_
      refine v_goto hC 30 34 dX6_tell_30 (by decide) ?_
      refine v_sub [(0, va_rf r0), (1, .int x1), (2, .int x2), (3, .int x3), (4, .int x21)] [1, 2, 3, 4, 0] rfl ?_
      exact J34 _ _ _ h
  · replace h := ifn h (fun q => q c39)
    refine v_iload hC 20 0 dX6_tell_20 rfl ?_
    refine v_goto hC 22 34 dX6_tell_22 (by decide) ?_
    refine v_sub [(0, va_rf r0), (1, .int x1), (2, .int x2), (3, .int x3), (4, .int x21)] [1, 2, 3, 4, 0] rfl ?_
    exact J34 _ _ _ h
abbrev rmX7_has : Room := { frames := 0, cells := 0, slots := 0, locals := 0 }
theorem hdX7_has : yX7_has.cls ≠ "java/lang/invoke/MethodHandle" ∧ yX7_has.cls ≠ "java/lang/invoke/VarHandle" ∧ (parseMethodDescriptor yX7_has.desc).map (fun d => d.parameters.length) = some 2 := by decide +kernel
def fX7_has (N : Nat) (S : pH) (r0 : Option Nat) (x1 : Int32) (x2 : Int32) : Option (Int32) :=
  chk S 7 r0 <|
  if x1 < 0 then
  (some (0 : Int32))
  else
  (gfI S 7 2 r0).bind fun x21 =>
  if x21 ≤ x1 then
  (some (0 : Int32))
  else
  if x2 < 0 then
  (some (0 : Int32))
  else
  (gfI S 7 2 r0).bind fun x22 =>
  if x22 ≤ x2 then
  (some (0 : Int32))
  else
  some (1 : Int32)
theorem oX7_has {N : Nat} {S : pH} {r0 : Option Nat} {x1 : Int32} {x2 : Int32} {z : Int32} (h : fX7_has N S r0 x1 x2 = some z) : ∃ fs, obj S 7 r0 = some fs := by
  unfold fX7_has at h
  exact (chk_spec h).1
set_option maxHeartbeats 1000000 in
set_option maxRecDepth 20000 in
theorem tX7_has {l : Launch} {w : VW} {N : Nat} {S : pH} {r0 : Option Nat} {x1 : Int32} {x2 : Int32} {v0 : Int32} (h : fX7_has N S r0 x1 x2 = some v0) : CT l w yX7_has cX7_has 3 (some .boolean) rmX7_has [va_rf r0, .int x1, .int x2] S (some (.int v0)) S := by
  refine v_entry [(0, va_rf r0), (1, .int x1), (2, .int x2)] (by decide) (by simp [lg_sl, cat_rf, cat_i, cat_j]) (by simp [lv_args, cat_rf, cat_i, cat_j]) (fun g _ hC => ?_)
  unfold fX7_has at h
  obtain ⟨hO, h⟩ := chk_spec h
  refine v_iload_n hC 0 1 dX7_has_0 rfl ?_
  refine v_if_lt hC 1 28 dX7_has_1 (by decide) (fun c26 => ?_) (fun c26 => ?_)
  · replace h := ifp h c26
    refine v_iconst hC (0 : Int32) 28 dX7_has_28 (by decide) ?_
    obtain rfl := sp1 h
    exact v_zret hC 29 (by decide) (by decide) (by decide) dX7_has_29
  · replace h := ifn h c26
    refine v_iload_n hC 4 1 dX7_has_4 rfl ?_
    refine v_aload_n hC 5 0 dX7_has_5 rfl ?_
    obtain ⟨x21, ex21, h⟩ := obn h
    refine gRX7_18 hC rfl 6 ex21 dX7_has_6 ?_
    refine v_icmp_ge hC 9 28 dX7_has_9 (by decide) (fun c25 => ?_) (fun c25 => ?_)
    · replace h := ifp h c25
      refine v_iconst hC (0 : Int32) 28 dX7_has_28 (by decide) ?_
      obtain rfl := sp1 h
      exact v_zret hC 29 (by decide) (by decide) (by decide) dX7_has_29
    · replace h := ifn h c25
      refine v_iload_n hC 12 2 dX7_has_12 rfl ?_
      refine v_if_lt hC 13 28 dX7_has_13 (by decide) (fun c24 => ?_) (fun c24 => ?_)
      · replace h := ifp h c24
        refine v_iconst hC (0 : Int32) 28 dX7_has_28 (by decide) ?_
        obtain rfl := sp1 h
        exact v_zret hC 29 (by decide) (by decide) (by decide) dX7_has_29
      · replace h := ifn h c24
        refine v_iload_n hC 16 2 dX7_has_16 rfl ?_
        refine v_aload_n hC 17 0 dX7_has_17 rfl ?_
        obtain ⟨x22, ex22, h⟩ := obn h
        refine gRX7_18 hC rfl 18 ex22 dX7_has_18 ?_
        refine v_icmp_ge hC 21 28 dX7_has_21 (by decide) (fun c23 => ?_) (fun c23 => ?_)
        · replace h := ifp h c23
          refine v_iconst hC (0 : Int32) 28 dX7_has_28 (by decide) ?_
          obtain rfl := sp1 h
          exact v_zret hC 29 (by decide) (by decide) (by decide) dX7_has_29
        · replace h := ifn h c23
          refine v_iconst hC (1 : Int32) 24 dX7_has_24 (by decide) ?_
          refine v_goto hC 25 29 dX7_has_25 (by decide) ?_
          obtain rfl := sp1 h
          exact v_zret hC 29 (by decide) (by decide) (by decide) dX7_has_29
set_option maxRecDepth 20000 in
theorem qX7_37 {g : VG} {w : VW} {nL : Nat} {Q : State → Prop} {S : pH} {kc ks : Nat} {lv : List (Nat × Value)} {rest : List Value} {y : MethodName} {cc : ByteArray} {rt : Option FieldType} {rm : Room} (hC : Cx g y cc nL rt rm w) (hy : y.cls = RX7) (pc : Nat) {N : Nat} {r0 : Option Nat} {x1 : Int32} {x2 : Int32} {v0 : Int32} (h : fX7_has N S r0 x1 x2 = some v0) (hR : rmX7_has.frames + 1 ≤ rm.frames ∧ 8 + (3 + 11) + rmX7_has.locals ≤ rm.locals) (hst : (rest.map fun v => v.category).sum ≤ 8) (hf : kc + 0 ≤ rm.cells ∧ ks + 0 ≤ rm.slots) (d : decode cc pc = .ok (.invokevirtual 37, 3)) (K : V g w nL Q S kc ks (pc + 3) lv (.int v0 :: rest)) : V g w nL Q S kc ks pc lv (.int x2 :: .int x1 :: va_rf r0 :: rest) := by
  obtain ⟨fs, ho⟩ := oX7_has h
  exact v_callV (As := [.int x1, .int x2]) (rest := rest) (ci := 7) hC pc (tX7_has (l := g.2.1) (w := w) h) rfl (by decide) ho wG302 (by rw [hy]; exact wG301) wG303 wG304 wG113 hdX7_has rfl hR hst hf d K
abbrev rmX7_caneAt : Room := { frames := 1, cells := 0, slots := 0, locals := 22 }
theorem hdX7_caneAt : yX7_caneAt.cls ≠ "java/lang/invoke/MethodHandle" ∧ yX7_caneAt.cls ≠ "java/lang/invoke/VarHandle" ∧ (parseMethodDescriptor yX7_caneAt.desc).map (fun d => d.parameters.length) = some 2 := by decide +kernel
def fX7_caneAt (N : Nat) (S : pH) (r0 : Option Nat) (x1 : Int32) (x2 : Int32) : Option (Int32) :=
  chk S 7 r0 <|
  (fX7_has N S r0 x1 x2).bind fun x21 =>
  if x21 = 0 then
  (some (-9 : Int32))
  else
  (gfR S 7 0 r0).bind fun r22 =>
  (ldI S 0 r22 ((x2 * (4 : Int32)) + x1)).bind fun x23 =>
  some x23
theorem oX7_caneAt {N : Nat} {S : pH} {r0 : Option Nat} {x1 : Int32} {x2 : Int32} {z : Int32} (h : fX7_caneAt N S r0 x1 x2 = some z) : ∃ fs, obj S 7 r0 = some fs := by
  unfold fX7_caneAt at h
  exact (chk_spec h).1
set_option maxHeartbeats 1000000 in
set_option maxRecDepth 20000 in
theorem tX7_caneAt {l : Launch} {w : VW} {N : Nat} {S : pH} {r0 : Option Nat} {x1 : Int32} {x2 : Int32} {v0 : Int32} (h : fX7_caneAt N S r0 x1 x2 = some v0) : CT l w yX7_caneAt cX7_caneAt 3 (some .int) rmX7_caneAt [va_rf r0, .int x1, .int x2] S (some (.int v0)) S := by
  refine v_entry [(0, va_rf r0), (1, .int x1), (2, .int x2)] (by decide) (by simp [lg_sl, cat_rf, cat_i, cat_j]) (by simp [lv_args, cat_rf, cat_i, cat_j]) (fun g _ hC => ?_)
  unfold fX7_caneAt at h
  obtain ⟨hO, h⟩ := chk_spec h
  refine v_aload_n hC 0 0 dX7_caneAt_0 rfl ?_
  refine v_iload_n hC 1 1 dX7_caneAt_1 rfl ?_
  refine v_iload_n hC 2 2 dX7_caneAt_2 rfl ?_
  obtain ⟨x21, ex21, h⟩ := obn h
  refine qX7_37 hC rfl 3 ex21 (by decide) (catL (Nat.le_of_ble_eq_true rfl)) (by decide) dX7_caneAt_3 ?_
  refine v_if_eq hC 6 22 dX7_caneAt_6 (by decide) (fun c24 => ?_) (fun c24 => ?_)
  · replace h := ifp h c24
    refine v_bipush hC (-9 : Int32) 22 dX7_caneAt_22 (by decide) ?_
    obtain rfl := sp1 h
    exact v_iret hC 24 (by decide) (by decide) dX7_caneAt_24
  · replace h := ifn h c24
    refine v_aload_n hC 9 0 dX7_caneAt_9 rfl ?_
    obtain ⟨r22, er22, h⟩ := obn h
    refine gRX7_9 hC rfl 10 er22 dX7_caneAt_10 ?_
    refine v_iload_n hC 13 2 dX7_caneAt_13 rfl ?_
    refine v_iconst hC (4 : Int32) 14 dX7_caneAt_14 (by decide) ?_
    refine v_imul hC 15 dX7_caneAt_15 ?_
    refine v_iload_n hC 16 1 dX7_caneAt_16 rfl ?_
    refine v_iadd hC 17 dX7_caneAt_17 ?_
    obtain ⟨x23, ex23, h⟩ := obn h
    refine v_iald hC 18 ex23 dX7_caneAt_18 ?_
    refine v_goto hC 19 24 dX7_caneAt_19 (by decide) ?_
    obtain rfl := sp1 h
    exact v_iret hC 24 (by decide) (by decide) dX7_caneAt_24
set_option maxRecDepth 20000 in
theorem qX7_22 {g : VG} {w : VW} {nL : Nat} {Q : State → Prop} {S : pH} {kc ks : Nat} {lv : List (Nat × Value)} {rest : List Value} {y : MethodName} {cc : ByteArray} {rt : Option FieldType} {rm : Room} (hC : Cx g y cc nL rt rm w) (hy : y.cls = RX7) (pc : Nat) {N : Nat} {r0 : Option Nat} {x1 : Int32} {S0 : pH} (h : fJ7_fill_53178 N S r0 x1 = some S0) (hR : rmJ7_fill_53178.frames + 1 ≤ rm.frames ∧ 8 + (4 + 11) + rmJ7_fill_53178.locals ≤ rm.locals) (hst : (rest.map fun v => v.category).sum ≤ 8) (hf : kc + 0 ≤ rm.cells ∧ ks + 0 ≤ rm.slots) (d : decode cc pc = .ok (.invokestatic 22, 3)) (K : V g w nL Q S0 kc ks (pc + 3) lv (rest)) : V g w nL Q S kc ks pc lv (.int x1 :: va_rf r0 :: rest) := by
  exact v_callS (As := [va_rf r0, .int x1]) (rest := rest) hC pc (tJ7_fill_53178 (l := g.2.1) (w := w) h) wG172 (by rw [hy]; exact wG305) wG174 wG173 hdJ7_fill_53178 rfl hR hst hf d K
abbrev rmX7_empty : Room := { frames := 1, cells := 0, slots := 0, locals := 23 }
theorem hdX7_empty : yX7_empty.cls ≠ "java/lang/invoke/MethodHandle" ∧ yX7_empty.cls ≠ "java/lang/invoke/VarHandle" ∧ (parseMethodDescriptor yX7_empty.desc).map (fun d => d.parameters.length) = some 1 := by decide +kernel
def fX7_empty (N : Nat) (S : pH) (r0 : Option Nat) (x1 : Int32) : Option (pH) :=
  chk S 7 r0 <|
  (pfV S 7 2 r0 (.int (mmax (2 : Int32) (mmin x1 (4 : Int32))))).bind fun S21 =>
  (gfR S21 7 0 r0).bind fun r22 =>
  (fJ7_fill_53178 N S21 r22 (-9 : Int32)).bind fun S23 =>
  (gfR S23 7 1 r0).bind fun r24 =>
  (fJ7_fill_53178 N S23 r24 (0 : Int32)).bind fun S25 =>
  some S25
theorem oX7_empty {N : Nat} {S : pH} {r0 : Option Nat} {x1 : Int32} {z : pH} (h : fX7_empty N S r0 x1 = some z) : ∃ fs, obj S 7 r0 = some fs := by
  unfold fX7_empty at h
  exact (chk_spec h).1
set_option maxHeartbeats 1000000 in
set_option maxRecDepth 20000 in
theorem tX7_empty {l : Launch} {w : VW} {N : Nat} {S : pH} {r0 : Option Nat} {x1 : Int32} {S0 : pH} (h : fX7_empty N S r0 x1 = some S0) : CT l w yX7_empty cX7_empty 2 none rmX7_empty [va_rf r0, .int x1] S none S0 := by
  refine v_entry [(0, va_rf r0), (1, .int x1)] (by decide) (by simp [lg_sl, cat_rf, cat_i, cat_j]) (by simp [lv_args, cat_rf, cat_i, cat_j]) (fun g _ hC => ?_)
  unfold fX7_empty at h
  obtain ⟨hO, h⟩ := chk_spec h
  refine v_aload_n hC 0 0 dX7_empty_0 rfl ?_
  refine v_iconst hC (2 : Int32) 1 dX7_empty_1 (by decide) ?_
  refine v_iload_n hC 2 1 dX7_empty_2 rfl ?_
  refine v_iconst hC (4 : Int32) 3 dX7_empty_3 (by decide) ?_
  refine v_mmin hC 4 wG78 wG12 wG13 wG14 (by decide) (Nat.le_of_ble_eq_true rfl) (by decide) (by decide) dX7_empty_4 ?_
  refine v_mmax hC 7 wG79 wG58 wG13 wG59 (by decide) (Nat.le_of_ble_eq_true rfl) (by decide) (by decide) dX7_empty_7 ?_
  obtain ⟨S21, eS21, h⟩ := obn h
  refine pRX7_18 hC rfl 10 eS21 dX7_empty_10 ?_
  refine v_aload_n hC 13 0 dX7_empty_13 rfl ?_
  obtain ⟨r22, er22, h⟩ := obn h
  refine gRX7_9 hC rfl 14 er22 dX7_empty_14 ?_
  refine v_bipush hC (-9 : Int32) 17 dX7_empty_17 (by decide) ?_
  obtain ⟨S23, eS23, h⟩ := obn h
  refine qX7_22 hC rfl 19 eS23 (by decide) (catL (Nat.le_of_ble_eq_true rfl)) (by decide) dX7_empty_19 ?_
  refine v_aload_n hC 22 0 dX7_empty_22 rfl ?_
  obtain ⟨r24, er24, h⟩ := obn h
  refine gRX7_15 hC rfl 23 er24 dX7_empty_23 ?_
  refine v_iconst hC (0 : Int32) 26 dX7_empty_26 (by decide) ?_
  obtain ⟨S25, eS25, h⟩ := obn h
  refine qX7_22 hC rfl 27 eS25 (by decide) (catL (Nat.le_of_ble_eq_true rfl)) (by decide) dX7_empty_27 ?_
  obtain rfl := sp1 h
  exact v_vret hC 30 (by decide) (by decide) dX7_empty_30
abbrev rmX7_init : Room := { frames := 1, cells := 2, slots := 32, locals := 23 }
theorem hdX7_init : yX7_init.cls ≠ "java/lang/invoke/MethodHandle" ∧ yX7_init.cls ≠ "java/lang/invoke/VarHandle" ∧ (parseMethodDescriptor yX7_init.desc).map (fun d => d.parameters.length) = some 0 := by decide +kernel
def fX7_init (N : Nat) (b : Nat) (S : pH) (r0 : Option Nat) : Option (pH) :=
  chk S 7 r0 <|
  nm (b + S.1) fun q21 =>
  nm (puS b S (pI 16 (fun _ => 0))) fun S22 =>
  (pfV S22 7 0 r0 (va_rf (some q21))).bind fun S23 =>
  nm (b + S23.1) fun q24 =>
  nm (puS b S23 (pI 16 (fun _ => 0))) fun S25 =>
  (pfV S25 7 1 r0 (va_rf (some q24))).bind fun S26 =>
  (pfV S26 7 2 r0 (.int (2 : Int32))).bind fun S27 =>
  (gfR S27 7 0 r0).bind fun r28 =>
  (fJ7_fill_53178 N S27 r28 (-9 : Int32)).bind fun S29 =>
  some S29
theorem oX7_init {b : Nat} {N : Nat} {S : pH} {r0 : Option Nat} {z : pH} (h : fX7_init N b S r0 = some z) : ∃ fs, obj S 7 r0 = some fs := by
  unfold fX7_init at h
  exact (chk_spec h).1
set_option maxHeartbeats 1000000 in
set_option maxRecDepth 20000 in
theorem tX7_init {l : Launch} {w : VW} {N : Nat} {S : pH} {r0 : Option Nat} {S0 : pH} (h : fX7_init N w.2.2 S r0 = some S0) : CT l w yX7_init cX7_init 1 none rmX7_init [va_rf r0] S none S0 := by
  refine v_entry [(0, va_rf r0)] (by decide) (by simp [lg_sl, cat_rf, cat_i, cat_j]) (by simp [lv_args, cat_rf, cat_i, cat_j]) (fun g _ hC => ?_)
  unfold fX7_init at h
  obtain ⟨hO, h⟩ := chk_spec h
  refine v_aload_n hC 0 0 dX7_init_0 rfl ?_
  refine v_objInit hC 1 wG81 wG20 wG21 (chk_ne hO) (by decide) (by simp [cat_rf, cat_i, cat_j]) dX7_init_1 ?_
  refine v_aload_n hC 4 0 dX7_init_4 rfl ?_
  refine v_bipush hC (16 : Int32) 5 dX7_init_5 (by decide) ?_
  obtain ⟨q21, eq21, h⟩ := onm h
  obtain ⟨S22, eS22, h⟩ := onm h
  refine v_newI hC 16 7 wG22 (by decide) (by decide) (by decide) (by decide) (by decide) dX7_init_7 ?_
  refine v_nw eq21 eS22 ?_
  obtain ⟨S23, eS23, h⟩ := obn h
  refine pRX7_9 hC rfl 9 rfl eS23 dX7_init_9 ?_
  refine v_aload_n hC 12 0 dX7_init_12 rfl ?_
  refine v_bipush hC (16 : Int32) 13 dX7_init_13 (by decide) ?_
  obtain ⟨q24, eq24, h⟩ := onm h
  obtain ⟨S25, eS25, h⟩ := onm h
  refine v_newI hC 16 15 wG22 (by decide) (by decide) (by decide) (by decide) (by decide) dX7_init_15 ?_
  refine v_nw eq24 eS25 ?_
  obtain ⟨S26, eS26, h⟩ := obn h
  refine pRX7_15 hC rfl 17 rfl eS26 dX7_init_17 ?_
  refine v_aload_n hC 20 0 dX7_init_20 rfl ?_
  refine v_iconst hC (2 : Int32) 21 dX7_init_21 (by decide) ?_
  obtain ⟨S27, eS27, h⟩ := obn h
  refine pRX7_18 hC rfl 22 eS27 dX7_init_22 ?_
  refine v_aload_n hC 25 0 dX7_init_25 rfl ?_
  obtain ⟨r28, er28, h⟩ := obn h
  refine gRX7_9 hC rfl 26 er28 dX7_init_26 ?_
  refine v_bipush hC (-9 : Int32) 29 dX7_init_29 (by decide) ?_
  obtain ⟨S29, eS29, h⟩ := obn h
  refine qX7_22 hC rfl 31 eS29 (by decide) (catL (Nat.le_of_ble_eq_true rfl)) (by decide) dX7_init_31 ?_
  obtain rfl := sp1 h
  exact v_vret hC 34 (by decide) (by decide) dX7_init_34
abbrev rmX7_placesOf : Room := { frames := 0, cells := 0, slots := 0, locals := 0 }
theorem hdX7_placesOf : yX7_placesOf.cls ≠ "java/lang/invoke/MethodHandle" ∧ yX7_placesOf.cls ≠ "java/lang/invoke/VarHandle" ∧ (parseMethodDescriptor yX7_placesOf.desc).map (fun d => d.parameters.length) = some 1 := by decide +kernel
def lX7_placesOf_4 (N : Nat) (S : pH) (r0 : Option Nat) (x1 : Int32) : Nat → Int32 → Int32 → Option (Int32)
  | 0, _, _ => none
  | n + 1, x21, x22 =>
    (gfR S 7 0 r0).bind fun r23 =>
    (lnI S r23).bind fun x24 =>
    if x24 ≤ x22 then
    (some x21)
    else
    (gfR S 7 0 r0).bind fun r25 =>
    (ldI S 0 r25 x22).bind fun x26 =>
    nm (fun (x27 : Int32) =>
    nm (x22 + (1 : Int32)) fun x28 =>
    lX7_placesOf_4 N S r0 x1 n x27 x28) fun j26 =>
    if ¬ x26 = x1 then
    (j26 x21)
    else
    nm (x21 + (1 : Int32)) fun x29 =>
    j26 x29
def fX7_placesOf (N : Nat) (S : pH) (r0 : Option Nat) (x1 : Int32) : Option (Int32) :=
  chk S 7 r0 <|
  (lX7_placesOf_4 N S r0 x1 N (0 : Int32) (0 : Int32)).bind fun x32 =>
  some x32
theorem oX7_placesOf {N : Nat} {S : pH} {r0 : Option Nat} {x1 : Int32} {z : Int32} (h : fX7_placesOf N S r0 x1 = some z) : ∃ fs, obj S 7 r0 = some fs := by
  unfold fX7_placesOf at h
  exact (chk_spec h).1
set_option maxHeartbeats 1000000 in
set_option maxRecDepth 20000 in
theorem kX7_placesOf_4 {g : VG} {w : VW} {N : Nat} {S : pH} {r0 : Option Nat} {x1 : Int32} {v0 : Int32} (hC : Cx g yX7_placesOf cX7_placesOf 4 (some .int) rmX7_placesOf w) : ∀ (n : Nat) (x21 : Int32) (x22 : Int32) (z : (Int32)), lX7_placesOf_4 N S r0 x1 n x21 x22 = some z → (∀ (e0 : Int32), z = e0 → V g w 4 (Qm g w rmX7_placesOf.cells rmX7_placesOf.slots (some (.int v0)) S) S 0 0 32 [(2, .int e0)] []) → V g w 4 (Qm g w rmX7_placesOf.cells rmX7_placesOf.slots (some (.int v0)) S) S 0 0 4 [(0, va_rf r0), (1, .int x1), (2, .int x21), (3, .int x22)] [] := by
  intro n
  induction n with
  | zero => intro x21 x22 z h; rw [lX7_placesOf_4] at h; cases h
  | succ n ih =>
    intro x21 x22 z h K
    rw [lX7_placesOf_4] at h
    refine v_iload_n hC 4 3 dX7_placesOf_4 rfl ?_
    refine v_aload_n hC 5 0 dX7_placesOf_5 rfl ?_
    obtain ⟨r23, er23, h⟩ := obn h
    refine gRX7_9 hC rfl 6 er23 dX7_placesOf_6 ?_
    obtain ⟨x24, ex24, h⟩ := obn h
    refine v_alen hC 9 ex24 dX7_placesOf_9 ?_
    refine v_icmp_ge hC 10 32 dX7_placesOf_10 (by decide) (fun c31 => ?_) (fun c31 => ?_)
    · replace h := ifp h c31
      refine v_sub [(2, .int x21)] [2] rfl ?_
      exact K _ (sp1 h)
    · replace h := ifn h c31
      refine v_aload_n hC 13 0 dX7_placesOf_13 rfl ?_
      obtain ⟨r25, er25, h⟩ := obn h
      refine gRX7_9 hC rfl 14 er25 dX7_placesOf_14 ?_
      refine v_iload_n hC 17 3 dX7_placesOf_17 rfl ?_
      obtain ⟨x26, ex26, h⟩ := obn h
      refine v_iald hC 18 ex26 dX7_placesOf_18 ?_
      refine v_iload_n hC 19 1 dX7_placesOf_19 rfl ?_
      obtain ⟨j26, f26, h⟩ := onm h
      have J26 : ∀ (x27 : Int32), j26 x27 = some z → V g w 4 (Qm g w rmX7_placesOf.cells rmX7_placesOf.slots (some (.int v0)) S) S 0 0 26 [(0, va_rf r0), (1, .int x1), (2, .int x27), (3, .int x22)] [] := by
        intro x27 h
        replace h := jb1 f26 h
        obtain ⟨x28, ex28, h⟩ := onm h
        refine v_iinc hC x28 [(3, .int x28), (0, va_rf r0), (1, .int x1), (2, .int x27)] 26 3 dX7_placesOf_26 rfl (by rw [ex28]; rfl) (by decide) rfl ?_
        refine v_goto hC 29 4 dX7_placesOf_29 (by decide) ?_
        refine v_sub [(0, va_rf r0), (1, .int x1), (2, .int x27), (3, .int x28)] [1, 2, 3, 0] rfl ?_
        exact ih _ _ _ h K
      refine v_icmp_ne hC 20 26 dX7_placesOf_20 (by decide) (fun c30 => ?_) (fun c30 => ?_)
      · replace h := ifp h c30
        refine v_sub [(0, va_rf r0), (1, .int x1), (2, .int x21), (3, .int x22)] [0, 1, 2, 3] rfl ?_
        exact J26 _ h
      · replace h := ifn h (fun q => q c30)
        obtain ⟨x29, ex29, h⟩ := onm h
        refine v_iinc hC x29 [(2, .int x29), (0, va_rf r0), (1, .int x1), (3, .int x22)] 23 2 dX7_placesOf_23 rfl (by rw [ex29]; rfl) (by decide) rfl ?_
        refine v_sub [(0, va_rf r0), (1, .int x1), (2, .int x29), (3, .int x22)] [1, 2, 0, 3] rfl ?_
        exact J26 _ h
set_option maxHeartbeats 1000000 in
set_option maxRecDepth 20000 in
theorem tX7_placesOf {l : Launch} {w : VW} {N : Nat} {S : pH} {r0 : Option Nat} {x1 : Int32} {v0 : Int32} (h : fX7_placesOf N S r0 x1 = some v0) : CT l w yX7_placesOf cX7_placesOf 4 (some .int) rmX7_placesOf [va_rf r0, .int x1] S (some (.int v0)) S := by
  refine v_entry [(0, va_rf r0), (1, .int x1)] (by decide) (by simp [lg_sl, cat_rf, cat_i, cat_j]) (by simp [lv_args, cat_rf, cat_i, cat_j]) (fun g _ hC => ?_)
  unfold fX7_placesOf at h
  obtain ⟨hO, h⟩ := chk_spec h
  refine v_iconst hC (0 : Int32) 0 dX7_placesOf_0 (by decide) ?_
  refine v_istore_n hC [(2, .int (0 : Int32)), (0, va_rf r0), (1, .int x1)] 1 dX7_placesOf_1 (by decide) rfl ?_
  refine v_iconst hC (0 : Int32) 2 dX7_placesOf_2 (by decide) ?_
  refine v_istore_n hC [(3, .int (0 : Int32)), (2, .int (0 : Int32)), (0, va_rf r0), (1, .int x1)] 3 dX7_placesOf_3 (by decide) rfl ?_
  obtain ⟨x32, E4, h⟩ := obn h
  refine v_sub [(0, va_rf r0), (1, .int x1), (2, .int (0 : Int32)), (3, .int (0 : Int32))] [2, 3, 1, 0] rfl ?_
  refine kX7_placesOf_4 hC _ _ _ _ E4 (fun _ hz9 => ?_)
  cases hz9
  refine v_iload_n hC 32 0 dX7_placesOf_32 rfl ?_
  obtain rfl := sp1 h
  exact v_iret hC 33 (by decide) (by decide) dX7_placesOf_33
