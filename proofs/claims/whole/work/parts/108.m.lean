abbrev rmX9_isOneStick : Room := { frames := 0, cells := 0, slots := 0, locals := 0 }
theorem hdX9_isOneStick : yX9_isOneStick.cls ≠ "java/lang/invoke/MethodHandle" ∧ yX9_isOneStick.cls ≠ "java/lang/invoke/VarHandle" ∧ (parseMethodDescriptor yX9_isOneStick.desc).map (fun d => d.parameters.length) = some 2 := by decide +kernel
def lX9_isOneStick_8 (N : Nat) (S : pH) (r0 : Option Nat) (x1 : Int32) (x2 : Int32) : Nat → Int32 → Int32 → Int32 → Option (Int32 × Int32)
  | 0, _, _, _ => none
  | n + 1, x21, x22, x23 =>
    (gfI S 9 16 r0).bind fun x24 =>
    if x24 ≤ x23 then
    (some (x21, x22))
    else
    nm (fun (x25 : Int32) (x26 : Int32) =>
    nm (x25 + x26) fun x27 =>
    nm (x22 + ((x1 >>> (x23 &&& 31)) &&& (1 : Int32))) fun x28 =>
    nm (x23 + (1 : Int32)) fun x29 =>
    lX9_isOneStick_8 N S r0 x1 x2 n x27 x28 x29) fun j39 =>
    if ¬ ((x1 >>> (x23 &&& 31)) &&& (1 : Int32)) = (1 : Int32) then
    (j39 x21 (0 : Int32))
    else
    (gfR S 9 17 r0).bind fun r30 =>
    (ldI S 0 r30 x23).bind fun x31 =>
    j39 x21 x31
def fX9_isOneStick (N : Nat) (S : pH) (r0 : Option Nat) (x1 : Int32) (x2 : Int32) : Option (Int32) :=
  chk S 9 r0 <|
  b2 (lX9_isOneStick_8 N S r0 x1 x2 N (0 : Int32) (0 : Int32) (0 : Int32)) fun x34 x35 =>
  (gfI S 9 18 r0).bind fun x36 =>
  nm (fun (_ : Unit) =>
  some (1 : Int32)) fun j86 =>
  if (x34 + (x35 * x36)) ≤ x2 then
  (j86 ())
  else
  (gfI S 9 18 r0).bind fun x37 =>
  if ¬ (x34 + ((x35 - (1 : Int32)) * x37)) = x2 then
  (some (0 : Int32))
  else
  j86 ()
theorem oX9_isOneStick {N : Nat} {S : pH} {r0 : Option Nat} {x1 : Int32} {x2 : Int32} {z : Int32} (h : fX9_isOneStick N S r0 x1 x2 = some z) : ∃ fs, obj S 9 r0 = some fs := by
  unfold fX9_isOneStick at h
  exact (chk_spec h).1
set_option maxHeartbeats 1000000 in
set_option maxRecDepth 20000 in
theorem kX9_isOneStick_8 {g : VG} {w : VW} {N : Nat} {S : pH} {r0 : Option Nat} {x1 : Int32} {x2 : Int32} {v0 : Int32} (hC : Cx g yX9_isOneStick cX9_isOneStick 6 (some .boolean) rmX9_isOneStick w) : ∀ (n : Nat) (x21 : Int32) (x22 : Int32) (x23 : Int32) (z : (Int32 × Int32)), lX9_isOneStick_8 N S r0 x1 x2 n x21 x22 x23 = some z → (∀ (e0 : Int32) (e1 : Int32), z = (e0, e1) → V g w 6 (Qm g w rmX9_isOneStick.cells rmX9_isOneStick.slots (some (.int v0)) S) S 0 0 58 [(0, va_rf r0), (2, .int x2), (3, .int e0), (4, .int e1)] []) → V g w 6 (Qm g w rmX9_isOneStick.cells rmX9_isOneStick.slots (some (.int v0)) S) S 0 0 8 [(0, va_rf r0), (1, .int x1), (2, .int x2), (3, .int x21), (4, .int x22), (5, .int x23)] [] := by
  intro n
  induction n with
  | zero => intro x21 x22 x23 z h; rw [lX9_isOneStick_8] at h; cases h
  | succ n ih =>
    intro x21 x22 x23 z h K
    rw [lX9_isOneStick_8] at h
    refine v_iload hC 8 5 dX9_isOneStick_8 rfl ?_
    refine v_aload_n hC 10 0 dX9_isOneStick_10 rfl ?_
    obtain ⟨x24, ex24, h⟩ := obn h
    refine gRX9_204 hC rfl 11 ex24 dX9_isOneStick_11 ?_
    refine v_icmp_ge hC 14 58 dX9_isOneStick_14 (by decide) (fun c33 => ?_) (fun c33 => ?_)
    · replace h := ifp h c33
      refine v_sub [(0, va_rf r0), (2, .int x2), (3, .int x21), (4, .int x22)] [0, 2, 3, 4] rfl ?_
      exact K _ _ (sp1 h)
    · replace h := ifn h c33
      refine v_iload_n hC 17 3 dX9_isOneStick_17 rfl ?_
      refine v_iload_n hC 18 1 dX9_isOneStick_18 rfl ?_
      refine v_iload hC 19 5 dX9_isOneStick_19 rfl ?_
      refine v_ishr hC 21 dX9_isOneStick_21 ?_
      refine v_iconst hC (1 : Int32) 22 dX9_isOneStick_22 (by decide) ?_
      refine v_iand hC 23 dX9_isOneStick_23 ?_
      refine v_iconst hC (1 : Int32) 24 dX9_isOneStick_24 (by decide) ?_
      obtain ⟨j39, f39, h⟩ := onm h
      have J39 : ∀ (x25 : Int32) (x26 : Int32), j39 x25 x26 = some z → V g w 6 (Qm g w rmX9_isOneStick.cells rmX9_isOneStick.slots (some (.int v0)) S) S 0 0 39 [(0, va_rf r0), (1, .int x1), (2, .int x2), (4, .int x22), (5, .int x23)] [.int x26, .int x25] := by
        intro x25 x26 h
        replace h := jb2 f39 h
        refine v_iadd hC 39 dX9_isOneStick_39 ?_
        obtain ⟨x27, ex27, h⟩ := onm h
        refine v_topi x27 ex27 ?_
        refine v_istore_n hC [(3, .int x27), (0, va_rf r0), (1, .int x1), (2, .int x2), (4, .int x22), (5, .int x23)] 40 dX9_isOneStick_40 (by decide) rfl ?_
        refine v_iload hC 41 4 dX9_isOneStick_41 rfl ?_
        refine v_iload_n hC 43 2 dX9_isOneStick_43 rfl ?_
        refine v_iload hC 44 5 dX9_isOneStick_44 rfl ?_
        refine v_ishr hC 46 dX9_isOneStick_46 ?_
        refine v_iconst hC (1 : Int32) 47 dX9_isOneStick_47 (by decide) ?_
        refine v_iand hC 48 dX9_isOneStick_48 ?_
        refine v_iadd hC 49 dX9_isOneStick_49 ?_
        obtain ⟨x28, ex28, h⟩ := onm h
        refine v_topi x28 ex28 ?_
        refine v_istore hC [(4, .int x28), (3, .int x27), (0, va_rf r0), (1, .int x1), (2, .int x2), (5, .int x23)] 50 dX9_isOneStick_50 (by decide) rfl ?_
        obtain ⟨x29, ex29, h⟩ := onm h
        refine v_iinc hC x29 [(5, .int x29), (4, .int x28), (3, .int x27), (0, va_rf r0), (1, .int x1), (2, .int x2)] 52 5 dX9_isOneStick_52 rfl (by rw [ex29]; rfl) (by decide) rfl ?_
        refine v_goto hC 55 8 dX9_isOneStick_55 (by decide) ?_
        refine v_sub [(0, va_rf r0), (1, .int x1), (2, .int x2), (3, .int x27), (4, .int x28), (5, .int x29)] [3, 4, 5, 2, 1, 0] rfl ?_
        exact ih _ _ _ _ h K
      refine v_icmp_ne hC 25 38 dX9_isOneStick_25 (by decide) (fun c32 => ?_) (fun c32 => ?_)
      · replace h := ifp h c32
        refine v_iconst hC (0 : Int32) 38 dX9_isOneStick_38 (by decide) ?_
        refine v_sub [(0, va_rf r0), (1, .int x1), (2, .int x2), (4, .int x22), (5, .int x23)] [0, 1, 2, 4, 5] rfl ?_
        exact J39 _ _ h
      · replace h := ifn h (fun q => q c32)
        refine v_aload_n hC 28 0 dX9_isOneStick_28 rfl ?_
        obtain ⟨r30, er30, h⟩ := obn h
        refine gRX9_57 hC rfl 29 er30 dX9_isOneStick_29 ?_
        refine v_iload hC 32 5 dX9_isOneStick_32 rfl ?_
        obtain ⟨x31, ex31, h⟩ := obn h
        refine v_iald hC 34 ex31 dX9_isOneStick_34 ?_
        refine v_goto hC 35 39 dX9_isOneStick_35 (by decide) ?_
        refine v_sub [(0, va_rf r0), (1, .int x1), (2, .int x2), (4, .int x22), (5, .int x23)] [0, 1, 2, 4, 5] rfl ?_
        exact J39 _ _ h
set_option maxHeartbeats 1000000 in
set_option maxRecDepth 20000 in
theorem tX9_isOneStick {l : Launch} {w : VW} {N : Nat} {S : pH} {r0 : Option Nat} {x1 : Int32} {x2 : Int32} {v0 : Int32} (h : fX9_isOneStick N S r0 x1 x2 = some v0) : CT l w yX9_isOneStick cX9_isOneStick 6 (some .boolean) rmX9_isOneStick [va_rf r0, .int x1, .int x2] S (some (.int v0)) S := by
  refine v_entry [(0, va_rf r0), (1, .int x1), (2, .int x2)] (by decide) (by simp [lg_sl, cat_rf, cat_i, cat_j]) (by simp [lv_args, cat_rf, cat_i, cat_j]) (fun g _ hC => ?_)
  unfold fX9_isOneStick at h
  obtain ⟨hO, h⟩ := chk_spec h
  refine v_iconst hC (0 : Int32) 0 dX9_isOneStick_0 (by decide) ?_
  refine v_istore_n hC [(3, .int (0 : Int32)), (0, va_rf r0), (1, .int x1), (2, .int x2)] 1 dX9_isOneStick_1 (by decide) rfl ?_
  refine v_iconst hC (0 : Int32) 2 dX9_isOneStick_2 (by decide) ?_
  refine v_istore hC [(4, .int (0 : Int32)), (3, .int (0 : Int32)), (0, va_rf r0), (1, .int x1), (2, .int x2)] 3 dX9_isOneStick_3 (by decide) rfl ?_
  refine v_iconst hC (0 : Int32) 5 dX9_isOneStick_5 (by decide) ?_
  refine v_istore hC [(5, .int (0 : Int32)), (4, .int (0 : Int32)), (3, .int (0 : Int32)), (0, va_rf r0), (1, .int x1), (2, .int x2)] 6 dX9_isOneStick_6 (by decide) rfl ?_
  obtain ⟨x34, x35, E8, h⟩ := ob2 h
  refine v_sub [(0, va_rf r0), (1, .int x1), (2, .int x2), (3, .int (0 : Int32)), (4, .int (0 : Int32)), (5, .int (0 : Int32))] [3, 4, 5, 2, 1, 0] rfl ?_
  refine kX9_isOneStick_8 hC _ _ _ _ _ E8 (fun _ _ hz9 => ?_)
  cases hz9
  refine v_iload_n hC 58 2 dX9_isOneStick_58 rfl ?_
  refine v_iload hC 59 3 dX9_isOneStick_59 rfl ?_
  refine v_aload_n hC 61 0 dX9_isOneStick_61 rfl ?_
  obtain ⟨x36, ex36, h⟩ := obn h
  refine gRX9_60 hC rfl 62 ex36 dX9_isOneStick_62 ?_
  refine v_imul hC 65 dX9_isOneStick_65 ?_
  refine v_iadd hC 66 dX9_isOneStick_66 ?_
  refine v_iload_n hC 67 1 dX9_isOneStick_67 rfl ?_
  obtain ⟨j86, f86, h⟩ := onm h
  have J86 : ∀ (u9 : Unit), j86 u9 = some v0 → V g w 6 (Qm g w rmX9_isOneStick.cells rmX9_isOneStick.slots (some (.int v0)) S) S 0 0 86 [] [] := by
    intro u9 h
    replace h := jb1 f86 h
    refine v_iconst hC (1 : Int32) 86 dX9_isOneStick_86 (by decide) ?_
    refine v_goto hC 87 91 dX9_isOneStick_87 (by decide) ?_
    obtain rfl := sp1 h
    exact v_zret hC 91 (by decide) (by decide) (by decide) dX9_isOneStick_91
  refine v_icmp_le hC 68 86 dX9_isOneStick_68 (by decide) (fun c39 => ?_) (fun c39 => ?_)
  · replace h := ifp h c39
    refine v_sub [] [] rfl ?_
    exact J86 _ h
  · replace h := ifn h c39
    refine v_iload_n hC 71 2 dX9_isOneStick_71 rfl ?_
    refine v_iload hC 72 3 dX9_isOneStick_72 rfl ?_
    refine v_iconst hC (1 : Int32) 74 dX9_isOneStick_74 (by decide) ?_
    refine v_isub hC 75 dX9_isOneStick_75 ?_
    refine v_aload_n hC 76 0 dX9_isOneStick_76 rfl ?_
    obtain ⟨x37, ex37, h⟩ := obn h
    refine gRX9_60 hC rfl 77 ex37 dX9_isOneStick_77 ?_
    refine v_imul hC 80 dX9_isOneStick_80 ?_
    refine v_iadd hC 81 dX9_isOneStick_81 ?_
    refine v_iload_n hC 82 1 dX9_isOneStick_82 rfl ?_
    refine v_icmp_ne hC 83 90 dX9_isOneStick_83 (by decide) (fun c38 => ?_) (fun c38 => ?_)
    · replace h := ifp h c38
      refine v_iconst hC (0 : Int32) 90 dX9_isOneStick_90 (by decide) ?_
      obtain rfl := sp1 h
      exact v_zret hC 91 (by decide) (by decide) (by decide) dX9_isOneStick_91
    · replace h := ifn h (fun q => q c38)
      refine v_sub [] [] rfl ?_
      exact J86 _ h
abbrev rmX9_isPower : Room := { frames := 0, cells := 0, slots := 0, locals := 0 }
theorem hdX9_isPower : yX9_isPower.cls ≠ "java/lang/invoke/MethodHandle" ∧ yX9_isPower.cls ≠ "java/lang/invoke/VarHandle" ∧ (parseMethodDescriptor yX9_isPower.desc).map (fun d => d.parameters.length) = some 1 := by decide +kernel
def fX9_isPower (N : Nat) (S : pH) (x0 : Int32) : Option (Int32) :=
  nm (fun (_ : Unit) =>
  some (1 : Int32)) fun j21 =>
  if x0 = (1 : Int32) then
  (j21 ())
  else
  if x0 = (2 : Int32) then
  (j21 ())
  else
  if x0 = (4 : Int32) then
  (j21 ())
  else
  if ¬ x0 = (8 : Int32) then
  (some (0 : Int32))
  else
  j21 ()
set_option maxHeartbeats 1000000 in
set_option maxRecDepth 20000 in
theorem tX9_isPower {l : Launch} {w : VW} {N : Nat} {S : pH} {x0 : Int32} {v0 : Int32} (h : fX9_isPower N S x0 = some v0) : CT l w yX9_isPower cX9_isPower 1 (some .boolean) rmX9_isPower [.int x0] S (some (.int v0)) S := by
  refine v_entry [(0, .int x0)] (by decide) (by simp [lg_sl, cat_rf, cat_i, cat_j]) (by simp [lv_args, cat_rf, cat_i, cat_j]) (fun g _ hC => ?_)
  unfold fX9_isPower at h
  refine v_iload_n hC 0 0 dX9_isPower_0 rfl ?_
  refine v_iconst hC (1 : Int32) 1 dX9_isPower_1 (by decide) ?_
  obtain ⟨j21, f21, h⟩ := onm h
  have J21 : ∀ (u9 : Unit), j21 u9 = some v0 → V g w 1 (Qm g w rmX9_isPower.cells rmX9_isPower.slots (some (.int v0)) S) S 0 0 21 [] [] := by
    intro u9 h
    replace h := jb1 f21 h
    refine v_iconst hC (1 : Int32) 21 dX9_isPower_21 (by decide) ?_
    refine v_goto hC 22 26 dX9_isPower_22 (by decide) ?_
    obtain rfl := sp1 h
    exact v_zret hC 26 (by decide) (by decide) (by decide) dX9_isPower_26
  refine v_icmp_eq hC 2 21 dX9_isPower_2 (by decide) (fun c24 => ?_) (fun c24 => ?_)
  · replace h := ifp h c24
    refine v_sub [] [] rfl ?_
    exact J21 _ h
  · replace h := ifn h c24
    refine v_iload_n hC 5 0 dX9_isPower_5 rfl ?_
    refine v_iconst hC (2 : Int32) 6 dX9_isPower_6 (by decide) ?_
    refine v_icmp_eq hC 7 21 dX9_isPower_7 (by decide) (fun c23 => ?_) (fun c23 => ?_)
    · replace h := ifp h c23
      refine v_sub [] [] rfl ?_
      exact J21 _ h
    · replace h := ifn h c23
      refine v_iload_n hC 10 0 dX9_isPower_10 rfl ?_
      refine v_iconst hC (4 : Int32) 11 dX9_isPower_11 (by decide) ?_
      refine v_icmp_eq hC 12 21 dX9_isPower_12 (by decide) (fun c22 => ?_) (fun c22 => ?_)
      · replace h := ifp h c22
        refine v_sub [] [] rfl ?_
        exact J21 _ h
      · replace h := ifn h c22
        refine v_iload_n hC 15 0 dX9_isPower_15 rfl ?_
        refine v_bipush hC (8 : Int32) 16 dX9_isPower_16 (by decide) ?_
        refine v_icmp_ne hC 18 25 dX9_isPower_18 (by decide) (fun c21 => ?_) (fun c21 => ?_)
        · replace h := ifp h c21
          refine v_iconst hC (0 : Int32) 25 dX9_isPower_25 (by decide) ?_
          obtain rfl := sp1 h
          exact v_zret hC 26 (by decide) (by decide) (by decide) dX9_isPower_26
        · replace h := ifn h (fun q => q c21)
          refine v_sub [] [] rfl ?_
          exact J21 _ h
abbrev rmX9_isTurned : Room := { frames := 1, cells := 0, slots := 0, locals := 23 }
theorem hdX9_isTurned : yX9_isTurned.cls ≠ "java/lang/invoke/MethodHandle" ∧ yX9_isTurned.cls ≠ "java/lang/invoke/VarHandle" ∧ (parseMethodDescriptor yX9_isTurned.desc).map (fun d => d.parameters.length) = some 3 := by decide +kernel
def lX9_isTurned_49 (N : Nat) (S : pH) (r0 : Option Nat) (x1 : Int32) (x2 : Int32) (x3 : Int32) (x4 : Int32) (x5 : Int32) (x6 : Int32) (x7 : Int32) (x8 : Int32) : Nat → Int32 → Int32 → Int32 → Option (Int32 × Int32)
  | 0, _, _, _ => none
  | n + 1, x29, x30, x31 =>
    if x5 ≤ x31 then
    (some (x29, x30))
    else
    nm ((x1 - (1 : Int32)) - x29) fun x32 =>
    nm (x31 + (1 : Int32)) fun x33 =>
    lX9_isTurned_49 N S r0 x1 x2 x3 x4 x5 x6 x7 x8 n x30 x32 x33
def lX9_isTurned_32 (N : Nat) (S : pH) (r0 : Option Nat) (x1 : Int32) (x2 : Int32) (x3 : Int32) (x4 : Int32) (x5 : Int32) (x7 : Int32) : Nat → Int32 → Int32 → Option (Int32)
  | 0, _, _ => none
  | n + 1, x27, x28 =>
    if x1 ≤ x28 then
    (some x27)
    else
    b2 (lX9_isTurned_49 N S r0 x1 x2 x3 x4 x5 x27 x7 x28 N x28 x7 (0 : Int32)) fun x35 x36 =>
    nm (fun (x37 : Int32) =>
    nm (x28 + (1 : Int32)) fun x38 =>
    lX9_isTurned_32 N S r0 x1 x2 x3 x4 x5 x7 n x37 x38) fun j139 =>
    nm (fun (_ : Unit) =>
    j139 (0 : Int32)) fun j138 =>
    if x27 = 0 then
    (j138 ())
    else
    if x4 = 0 then none else
    if x4 = 0 then none else
    (fX9_at N S r0 (16 : Int32) (((x2 - x2 / x4 * x4) * x1) + x28) (((x2 / x4) * x1) + x7)).bind fun x41 =>
    if x4 = 0 then none else
    if x4 = 0 then none else
    (fX9_at N S r0 (16 : Int32) (((x3 - x3 / x4 * x4) * x1) + x35) (((x3 / x4) * x1) + x36)).bind fun x44 =>
    if ¬ x41 = x44 then
    (j138 ())
    else
    j139 (1 : Int32)
def lX9_isTurned_23 (N : Nat) (S : pH) (r0 : Option Nat) (x1 : Int32) (x2 : Int32) (x3 : Int32) (x4 : Int32) (x5 : Int32) : Nat → Int32 → Int32 → Option (Int32)
  | 0, _, _ => none
  | n + 1, x25, x26 =>
    if x1 ≤ x26 then
    (some x25)
    else
    (lX9_isTurned_32 N S r0 x1 x2 x3 x4 x5 x26 N x25 (0 : Int32)).bind fun x48 =>
    nm (x26 + (1 : Int32)) fun x49 =>
    lX9_isTurned_23 N S r0 x1 x2 x3 x4 x5 n x48 x49
def lX9_isTurned_11 (N : Nat) (S : pH) (r0 : Option Nat) (x1 : Int32) (x2 : Int32) (x3 : Int32) (x4 : Int32) : Nat → Int32 → Option (Sum (Unit) (Int32))
  | 0, _ => none
  | n + 1, x24 =>
    if (4 : Int32) ≤ x24 then
    (some (.inl ()))
    else
    (lX9_isTurned_23 N S r0 x1 x2 x3 x4 x24 N (1 : Int32) (0 : Int32)).bind fun x51 =>
    if x51 = 0 then
    (nm (x24 + (1 : Int32)) fun x52 =>
    lX9_isTurned_11 N S r0 x1 x2 x3 x4 n x52)
    else
    some (.inr (1 : Int32))
def fX9_isTurned (N : Nat) (S : pH) (r0 : Option Nat) (x1 : Int32) (x2 : Int32) (x3 : Int32) : Option (Int32) :=
  chk S 9 r0 <|
  (gfI S 9 8 r0).bind fun x21 =>
  if x1 = 0 then none else
  nm (x21 / x1) fun x23 =>
  bS1 (lX9_isTurned_11 N S r0 x1 x2 x3 x23 N (0 : Int32)) (fun r9 => some r9) fun u9 =>
  some (0 : Int32)
theorem oX9_isTurned {N : Nat} {S : pH} {r0 : Option Nat} {x1 : Int32} {x2 : Int32} {x3 : Int32} {z : Int32} (h : fX9_isTurned N S r0 x1 x2 x3 = some z) : ∃ fs, obj S 9 r0 = some fs := by
  unfold fX9_isTurned at h
  exact (chk_spec h).1
set_option maxHeartbeats 1000000 in
set_option maxRecDepth 20000 in
theorem kX9_isTurned_49 {g : VG} {w : VW} {N : Nat} {S : pH} {r0 : Option Nat} {x1 : Int32} {x2 : Int32} {x3 : Int32} {x4 : Int32} {x5 : Int32} {x6 : Int32} {x7 : Int32} {x8 : Int32} {v0 : Int32} (hC : Cx g yX9_isTurned cX9_isTurned 13 (some .boolean) rmX9_isTurned w) : ∀ (n : Nat) (x29 : Int32) (x30 : Int32) (x31 : Int32) (z : (Int32 × Int32)), lX9_isTurned_49 N S r0 x1 x2 x3 x4 x5 x6 x7 x8 n x29 x30 x31 = some z → (∀ (e0 : Int32) (e1 : Int32), z = (e0, e1) → V g w 13 (Qm g w rmX9_isTurned.cells rmX9_isTurned.slots (some (.int v0)) S) S 0 0 78 [(0, va_rf r0), (1, .int x1), (2, .int x2), (3, .int x3), (4, .int x4), (5, .int x5), (6, .int x6), (7, .int x7), (8, .int x8), (9, .int e0), (10, .int e1)] []) → V g w 13 (Qm g w rmX9_isTurned.cells rmX9_isTurned.slots (some (.int v0)) S) S 0 0 49 [(0, va_rf r0), (1, .int x1), (2, .int x2), (3, .int x3), (4, .int x4), (5, .int x5), (6, .int x6), (7, .int x7), (8, .int x8), (9, .int x29), (10, .int x30), (11, .int x31)] [] := by
  intro n
  induction n with
  | zero => intro x29 x30 x31 z h; rw [lX9_isTurned_49] at h; cases h
  | succ n ih =>
    intro x29 x30 x31 z h K
    rw [lX9_isTurned_49] at h
    refine v_iload hC 49 11 dX9_isTurned_49 rfl ?_
    refine v_iload hC 51 5 dX9_isTurned_51 rfl ?_
    refine v_icmp_ge hC 53 78 dX9_isTurned_53 (by decide) (fun c34 => ?_) (fun c34 => ?_)
    · replace h := ifp h c34
      refine v_sub [(0, va_rf r0), (1, .int x1), (2, .int x2), (3, .int x3), (4, .int x4), (5, .int x5), (6, .int x6), (7, .int x7), (8, .int x8), (9, .int x29), (10, .int x30)] [0, 1, 2, 3, 4, 5, 6, 7, 8, 9, 10] rfl ?_
      exact K _ _ (sp1 h)
    · replace h := ifn h c34
      refine v_iload hC 56 9 dX9_isTurned_56 rfl ?_
      refine v_istore hC [(12, .int x29), (0, va_rf r0), (1, .int x1), (2, .int x2), (3, .int x3), (4, .int x4), (5, .int x5), (6, .int x6), (7, .int x7), (8, .int x8), (9, .int x29), (10, .int x30), (11, .int x31)] 58 dX9_isTurned_58 (by decide) rfl ?_
      refine v_iload hC 60 11 dX9_isTurned_60 rfl ?_
      refine v_istore hC [(9, .int x30), (12, .int x29), (0, va_rf r0), (1, .int x1), (2, .int x2), (3, .int x3), (4, .int x4), (5, .int x5), (6, .int x6), (7, .int x7), (8, .int x8), (10, .int x30), (11, .int x31)] 62 dX9_isTurned_62 (by decide) rfl ?_
      refine v_iload_n hC 64 3 dX9_isTurned_64 rfl ?_
      refine v_iconst hC (1 : Int32) 65 dX9_isTurned_65 (by decide) ?_
      refine v_isub hC 66 dX9_isTurned_66 ?_
      refine v_iload hC 67 1 dX9_isTurned_67 rfl ?_
      refine v_isub hC 69 dX9_isTurned_69 ?_
      obtain ⟨x32, ex32, h⟩ := onm h
      refine v_topi x32 ex32 ?_
      refine v_istore hC [(10, .int x32), (9, .int x30), (12, .int x29), (0, va_rf r0), (1, .int x1), (2, .int x2), (3, .int x3), (4, .int x4), (5, .int x5), (6, .int x6), (7, .int x7), (8, .int x8), (11, .int x31)] 70 dX9_isTurned_70 (by decide) rfl ?_
      obtain ⟨x33, ex33, h⟩ := onm h
      refine v_iinc hC x33 [(11, .int x33), (10, .int x32), (9, .int x30), (12, .int x29), (0, va_rf r0), (1, .int x1), (2, .int x2), (3, .int x3), (4, .int x4), (5, .int x5), (6, .int x6), (7, .int x7), (8, .int x8)] 72 12 dX9_isTurned_72 rfl (by rw [ex33]; rfl) (by decide) rfl ?_
      refine v_goto hC 75 49 dX9_isTurned_75 (by decide) ?_
      refine v_sub [(0, va_rf r0), (1, .int x1), (2, .int x2), (3, .int x3), (4, .int x4), (5, .int x5), (6, .int x6), (7, .int x7), (8, .int x8), (9, .int x30), (10, .int x32), (11, .int x33)] [4, 5, 6, 7, 8, 9, 10, 11, 12, 2, 1, 0] rfl ?_
      exact ih _ _ _ _ h K
set_option maxHeartbeats 1000000 in
set_option maxRecDepth 20000 in
theorem kX9_isTurned_32 {g : VG} {w : VW} {N : Nat} {S : pH} {r0 : Option Nat} {x1 : Int32} {x2 : Int32} {x3 : Int32} {x4 : Int32} {x5 : Int32} {x7 : Int32} {v0 : Int32} (hC : Cx g yX9_isTurned cX9_isTurned 13 (some .boolean) rmX9_isTurned w) : ∀ (n : Nat) (x27 : Int32) (x28 : Int32) (z : (Int32)), lX9_isTurned_32 N S r0 x1 x2 x3 x4 x5 x7 n x27 x28 = some z → (∀ (e0 : Int32), z = e0 → V g w 13 (Qm g w rmX9_isTurned.cells rmX9_isTurned.slots (some (.int v0)) S) S 0 0 147 [(0, va_rf r0), (1, .int x1), (2, .int x2), (3, .int x3), (4, .int x4), (5, .int x5), (6, .int e0), (7, .int x7)] []) → V g w 13 (Qm g w rmX9_isTurned.cells rmX9_isTurned.slots (some (.int v0)) S) S 0 0 32 [(0, va_rf r0), (1, .int x1), (2, .int x2), (3, .int x3), (4, .int x4), (5, .int x5), (6, .int x27), (7, .int x7), (8, .int x28)] [] := by
  intro n
  induction n with
  | zero => intro x27 x28 z h; rw [lX9_isTurned_32] at h; cases h
  | succ n ih =>
    intro x27 x28 z h K
    rw [lX9_isTurned_32] at h
    refine v_iload hC 32 8 dX9_isTurned_32 rfl ?_
    refine v_iload_n hC 34 1 dX9_isTurned_34 rfl ?_
    refine v_icmp_ge hC 35 147 dX9_isTurned_35 (by decide) (fun c47 => ?_) (fun c47 => ?_)
    · replace h := ifp h c47
      refine v_sub [(0, va_rf r0), (1, .int x1), (2, .int x2), (3, .int x3), (4, .int x4), (5, .int x5), (6, .int x27), (7, .int x7)] [0, 1, 2, 3, 4, 5, 6, 7] rfl ?_
      exact K _ (sp1 h)
    · replace h := ifn h c47
      refine v_iload hC 38 8 dX9_isTurned_38 rfl ?_
      refine v_istore hC [(9, .int x28), (0, va_rf r0), (1, .int x1), (2, .int x2), (3, .int x3), (4, .int x4), (5, .int x5), (6, .int x27), (7, .int x7), (8, .int x28)] 40 dX9_isTurned_40 (by decide) rfl ?_
      refine v_iload hC 42 8 dX9_isTurned_42 rfl ?_
      refine v_istore hC [(10, .int x7), (9, .int x28), (0, va_rf r0), (1, .int x1), (2, .int x2), (3, .int x3), (4, .int x4), (5, .int x5), (6, .int x27), (7, .int x7), (8, .int x28)] 44 dX9_isTurned_44 (by decide) rfl ?_
      refine v_iconst hC (0 : Int32) 46 dX9_isTurned_46 (by decide) ?_
      refine v_istore hC [(11, .int (0 : Int32)), (10, .int x7), (9, .int x28), (0, va_rf r0), (1, .int x1), (2, .int x2), (3, .int x3), (4, .int x4), (5, .int x5), (6, .int x27), (7, .int x7), (8, .int x28)] 47 dX9_isTurned_47 (by decide) rfl ?_
      obtain ⟨x35, x36, E49, h⟩ := ob2 h
      refine v_sub [(0, va_rf r0), (1, .int x1), (2, .int x2), (3, .int x3), (4, .int x4), (5, .int x5), (6, .int x27), (7, .int x7), (8, .int x28), (9, .int x28), (10, .int x7), (11, .int (0 : Int32))] [3, 4, 5, 6, 7, 8, 9, 10, 11, 2, 1, 0] rfl ?_
      refine kX9_isTurned_49 hC _ _ _ _ _ E49 (fun _ _ hz9 => ?_)
      cases hz9
      refine v_iload hC 78 6 dX9_isTurned_78 rfl ?_
      obtain ⟨j139, f139, h⟩ := onm h
      have J139 : ∀ (x37 : Int32), j139 x37 = some z → V g w 13 (Qm g w rmX9_isTurned.cells rmX9_isTurned.slots (some (.int v0)) S) S 0 0 139 [(0, va_rf r0), (1, .int x1), (2, .int x2), (3, .int x3), (4, .int x4), (5, .int x5), (7, .int x7), (8, .int x28)] [.int x37] := by
        intro x37 h
        replace h := jb1 f139 h
        refine v_istore hC [(6, .int x37), (0, va_rf r0), (1, .int x1), (2, .int x2), (3, .int x3), (4, .int x4), (5, .int x5), (7, .int x7), (8, .int x28)] 139 dX9_isTurned_139 (by decide) rfl ?_
        obtain ⟨x38, ex38, h⟩ := onm h
        refine v_iinc hC x38 [(8, .int x38), (6, .int x37), (0, va_rf r0), (1, .int x1), (2, .int x2), (3, .int x3), (4, .int x4), (5, .int x5), (7, .int x7)] 141 8 dX9_isTurned_141 rfl (by rw [ex38]; rfl) (by decide) rfl ?_
        refine v_goto hC 144 32 dX9_isTurned_144 (by decide) ?_
        refine v_sub [(0, va_rf r0), (1, .int x1), (2, .int x2), (3, .int x3), (4, .int x4), (5, .int x5), (6, .int x37), (7, .int x7), (8, .int x38)] [2, 3, 4, 5, 6, 7, 1, 8, 0] rfl ?_
        exact ih _ _ _ h K
      obtain ⟨j138, f138, h⟩ := onm h
      have J138 : ∀ (u9 : Unit), j138 u9 = some z → V g w 13 (Qm g w rmX9_isTurned.cells rmX9_isTurned.slots (some (.int v0)) S) S 0 0 138 [(0, va_rf r0), (1, .int x1), (2, .int x2), (3, .int x3), (4, .int x4), (5, .int x5), (7, .int x7), (8, .int x28)] [] := by
        intro u9 h
        replace h := jb1 f138 h
        refine v_iconst hC (0 : Int32) 138 dX9_isTurned_138 (by decide) ?_
        refine v_sub [(0, va_rf r0), (1, .int x1), (2, .int x2), (3, .int x3), (4, .int x4), (5, .int x5), (7, .int x7), (8, .int x28)] [0, 1, 2, 3, 4, 5, 6, 7] rfl ?_
        exact J139 _ h
      refine v_if_eq hC 80 138 dX9_isTurned_80 (by decide) (fun c46 => ?_) (fun c46 => ?_)
      · replace h := ifp h c46
        refine v_sub [(0, va_rf r0), (1, .int x1), (2, .int x2), (3, .int x3), (4, .int x4), (5, .int x5), (7, .int x7), (8, .int x28)] [0, 1, 2, 3, 4, 5, 7, 8] rfl ?_
        exact J138 _ h
      · replace h := ifn h c46
        refine v_aload_n hC 83 0 dX9_isTurned_83 rfl ?_
        refine v_bipush hC (16 : Int32) 84 dX9_isTurned_84 (by decide) ?_
        refine v_iload_n hC 86 2 dX9_isTurned_86 rfl ?_
        refine v_iload hC 87 4 dX9_isTurned_87 rfl ?_
        have c39 : ¬ x4 = 0 := fun q => absurd (ifp h q) (by simp)
        replace h := ifn h c39
        refine v_irem hC 89 c39 dX9_isTurned_89 ?_
        refine v_iload_n hC 90 1 dX9_isTurned_90 rfl ?_
        refine v_imul hC 91 dX9_isTurned_91 ?_
        refine v_iload hC 92 8 dX9_isTurned_92 rfl ?_
        refine v_iadd hC 94 dX9_isTurned_94 ?_
        refine v_iload_n hC 95 2 dX9_isTurned_95 rfl ?_
        refine v_iload hC 96 4 dX9_isTurned_96 rfl ?_
        have c40 : ¬ x4 = 0 := fun q => absurd (ifp h q) (by simp)
        replace h := ifn h c40
        refine v_idiv hC 98 c40 dX9_isTurned_98 ?_
        refine v_iload_n hC 99 1 dX9_isTurned_99 rfl ?_
        refine v_imul hC 100 dX9_isTurned_100 ?_
        refine v_iload hC 101 7 dX9_isTurned_101 rfl ?_
        refine v_iadd hC 103 dX9_isTurned_103 ?_
        obtain ⟨x41, ex41, h⟩ := obn h
        refine qX9_121 hC rfl 104 ex41 (by decide) (catL (Nat.le_of_ble_eq_true rfl)) (by decide) dX9_isTurned_104 ?_
        refine v_aload_n hC 107 0 dX9_isTurned_107 rfl ?_
        refine v_bipush hC (16 : Int32) 108 dX9_isTurned_108 (by decide) ?_
        refine v_iload_n hC 110 3 dX9_isTurned_110 rfl ?_
        refine v_iload hC 111 4 dX9_isTurned_111 rfl ?_
        have c42 : ¬ x4 = 0 := fun q => absurd (ifp h q) (by simp)
        replace h := ifn h c42
        refine v_irem hC 113 c42 dX9_isTurned_113 ?_
        refine v_iload_n hC 114 1 dX9_isTurned_114 rfl ?_
        refine v_imul hC 115 dX9_isTurned_115 ?_
        refine v_iload hC 116 9 dX9_isTurned_116 rfl ?_
        refine v_iadd hC 118 dX9_isTurned_118 ?_
        refine v_iload_n hC 119 3 dX9_isTurned_119 rfl ?_
        refine v_iload hC 120 4 dX9_isTurned_120 rfl ?_
        have c43 : ¬ x4 = 0 := fun q => absurd (ifp h q) (by simp)
        replace h := ifn h c43
        refine v_idiv hC 122 c43 dX9_isTurned_122 ?_
        refine v_iload_n hC 123 1 dX9_isTurned_123 rfl ?_
        refine v_imul hC 124 dX9_isTurned_124 ?_
        refine v_iload hC 125 10 dX9_isTurned_125 rfl ?_
        refine v_iadd hC 127 dX9_isTurned_127 ?_
        obtain ⟨x44, ex44, h⟩ := obn h
        refine qX9_121 hC rfl 128 ex44 (by decide) (catL (Nat.le_of_ble_eq_true rfl)) (by decide) dX9_isTurned_128 ?_
        refine v_icmp_ne hC 131 138 dX9_isTurned_131 (by decide) (fun c45 => ?_) (fun c45 => ?_)
        · replace h := ifp h c45
          refine v_sub [(0, va_rf r0), (1, .int x1), (2, .int x2), (3, .int x3), (4, .int x4), (5, .int x5), (7, .int x7), (8, .int x28)] [0, 1, 2, 3, 4, 5, 7, 8] rfl ?_
          exact J138 _ h
        · replace h := ifn h (fun q => q c45)
          refine v_iconst hC (1 : Int32) 134 dX9_isTurned_134 (by decide) ?_
          refine v_goto hC 135 139 dX9_isTurned_135 (by decide) ?_
          refine v_sub [(0, va_rf r0), (1, .int x1), (2, .int x2), (3, .int x3), (4, .int x4), (5, .int x5), (7, .int x7), (8, .int x28)] [0, 1, 2, 3, 4, 5, 7, 8] rfl ?_
          exact J139 _ h
set_option maxHeartbeats 1000000 in
set_option maxRecDepth 20000 in
theorem kX9_isTurned_23 {g : VG} {w : VW} {N : Nat} {S : pH} {r0 : Option Nat} {x1 : Int32} {x2 : Int32} {x3 : Int32} {x4 : Int32} {x5 : Int32} {v0 : Int32} (hC : Cx g yX9_isTurned cX9_isTurned 13 (some .boolean) rmX9_isTurned w) : ∀ (n : Nat) (x25 : Int32) (x26 : Int32) (z : (Int32)), lX9_isTurned_23 N S r0 x1 x2 x3 x4 x5 n x25 x26 = some z → (∀ (e0 : Int32), z = e0 → V g w 13 (Qm g w rmX9_isTurned.cells rmX9_isTurned.slots (some (.int v0)) S) S 0 0 153 [(0, va_rf r0), (1, .int x1), (2, .int x2), (3, .int x3), (4, .int x4), (5, .int x5), (6, .int e0)] []) → V g w 13 (Qm g w rmX9_isTurned.cells rmX9_isTurned.slots (some (.int v0)) S) S 0 0 23 [(0, va_rf r0), (1, .int x1), (2, .int x2), (3, .int x3), (4, .int x4), (5, .int x5), (6, .int x25), (7, .int x26)] [] := by
  intro n
  induction n with
  | zero => intro x25 x26 z h; rw [lX9_isTurned_23] at h; cases h
  | succ n ih =>
    intro x25 x26 z h K
    rw [lX9_isTurned_23] at h
    refine v_iload hC 23 7 dX9_isTurned_23 rfl ?_
    refine v_iload_n hC 25 1 dX9_isTurned_25 rfl ?_
    refine v_icmp_ge hC 26 153 dX9_isTurned_26 (by decide) (fun c50 => ?_) (fun c50 => ?_)
    · replace h := ifp h c50
      refine v_sub [(0, va_rf r0), (1, .int x1), (2, .int x2), (3, .int x3), (4, .int x4), (5, .int x5), (6, .int x25)] [0, 1, 2, 3, 4, 5, 6] rfl ?_
      exact K _ (sp1 h)
    · replace h := ifn h c50
      refine v_iconst hC (0 : Int32) 29 dX9_isTurned_29 (by decide) ?_
      refine v_istore hC [(8, .int (0 : Int32)), (0, va_rf r0), (1, .int x1), (2, .int x2), (3, .int x3), (4, .int x4), (5, .int x5), (6, .int x25), (7, .int x26)] 30 dX9_isTurned_30 (by decide) rfl ?_
      obtain ⟨x48, E32, h⟩ := obn h
      refine v_sub [(0, va_rf r0), (1, .int x1), (2, .int x2), (3, .int x3), (4, .int x4), (5, .int x5), (6, .int x25), (7, .int x26), (8, .int (0 : Int32))] [1, 2, 3, 4, 5, 6, 7, 8, 0] rfl ?_
      refine kX9_isTurned_32 hC _ _ _ _ E32 (fun _ hz9 => ?_)
      cases hz9
      obtain ⟨x49, ex49, h⟩ := onm h
      refine v_iinc hC x49 [(7, .int x49), (0, va_rf r0), (1, .int x1), (2, .int x2), (3, .int x3), (4, .int x4), (5, .int x5), (6, .int x48)] 147 7 dX9_isTurned_147 rfl (by rw [ex49]; rfl) (by decide) rfl ?_
      refine v_goto hC 150 23 dX9_isTurned_150 (by decide) ?_
      refine v_sub [(0, va_rf r0), (1, .int x1), (2, .int x2), (3, .int x3), (4, .int x4), (5, .int x5), (6, .int x48), (7, .int x49)] [1, 2, 3, 4, 5, 6, 7, 0] rfl ?_
      exact ih _ _ _ h K
set_option maxHeartbeats 1000000 in
set_option maxRecDepth 20000 in
theorem kX9_isTurned_11 {g : VG} {w : VW} {N : Nat} {S : pH} {r0 : Option Nat} {x1 : Int32} {x2 : Int32} {x3 : Int32} {x4 : Int32} {v0 : Int32} (hC : Cx g yX9_isTurned cX9_isTurned 13 (some .boolean) rmX9_isTurned w) : ∀ (n : Nat) (x24 : Int32) (z : (Sum (Unit) (Int32))), lX9_isTurned_11 N S r0 x1 x2 x3 x4 n x24 = some z → (∀ (u9 : Unit), z = .inl u9 → V g w 13 (Qm g w rmX9_isTurned.cells rmX9_isTurned.slots (some (.int v0)) S) S 0 0 166 [] []) → (∀ (v1 : Int32), z = .inr v1 → v0 = v1) → V g w 13 (Qm g w rmX9_isTurned.cells rmX9_isTurned.slots (some (.int v0)) S) S 0 0 11 [(0, va_rf r0), (1, .int x1), (2, .int x2), (3, .int x3), (4, .int x4), (5, .int x24)] [] := by
  intro n
  induction n with
  | zero => intro x24 z h; rw [lX9_isTurned_11] at h; cases h
  | succ n ih =>
    intro x24 z h K hR
    rw [lX9_isTurned_11] at h
    refine v_iload hC 11 5 dX9_isTurned_11 rfl ?_
    refine v_iconst hC (4 : Int32) 13 dX9_isTurned_13 (by decide) ?_
    refine v_icmp_ge hC 14 166 dX9_isTurned_14 (by decide) (fun c54 => ?_) (fun c54 => ?_)
    · replace h := ifp h c54
      refine v_sub [] [] rfl ?_
      exact K _ (sp1 h)
    · replace h := ifn h c54
      refine v_iconst hC (1 : Int32) 17 dX9_isTurned_17 (by decide) ?_
      refine v_istore hC [(6, .int (1 : Int32)), (0, va_rf r0), (1, .int x1), (2, .int x2), (3, .int x3), (4, .int x4), (5, .int x24)] 18 dX9_isTurned_18 (by decide) rfl ?_
      refine v_iconst hC (0 : Int32) 20 dX9_isTurned_20 (by decide) ?_
      refine v_istore hC [(7, .int (0 : Int32)), (6, .int (1 : Int32)), (0, va_rf r0), (1, .int x1), (2, .int x2), (3, .int x3), (4, .int x4), (5, .int x24)] 21 dX9_isTurned_21 (by decide) rfl ?_
      obtain ⟨x51, E23, h⟩ := obn h
      refine v_sub [(0, va_rf r0), (1, .int x1), (2, .int x2), (3, .int x3), (4, .int x4), (5, .int x24), (6, .int (1 : Int32)), (7, .int (0 : Int32))] [2, 3, 4, 5, 6, 7, 1, 0] rfl ?_
      refine kX9_isTurned_23 hC _ _ _ _ E23 (fun _ hz9 => ?_)
      cases hz9
      refine v_iload hC 153 6 dX9_isTurned_153 rfl ?_
      refine v_if_eq hC 155 160 dX9_isTurned_155 (by decide) (fun c53 => ?_) (fun c53 => ?_)
      · replace h := ifp h c53
        obtain ⟨x52, ex52, h⟩ := onm h
        refine v_iinc hC x52 [(5, .int x52), (0, va_rf r0), (1, .int x1), (2, .int x2), (3, .int x3), (4, .int x4), (6, .int x51)] 160 5 dX9_isTurned_160 rfl (by rw [ex52]; rfl) (by decide) rfl ?_
        refine v_goto hC 163 11 dX9_isTurned_163 (by decide) ?_
        refine v_sub [(0, va_rf r0), (1, .int x1), (2, .int x2), (3, .int x3), (4, .int x4), (5, .int x52)] [1, 2, 3, 4, 5, 0] rfl ?_
        exact ih _ _ h K hR
      · replace h := ifn h c53
        refine v_iconst hC (1 : Int32) 158 dX9_isTurned_158 (by decide) ?_
        obtain rfl := hR _ (sp1 h)
        exact v_zret hC 159 (by decide) (by decide) (by decide) dX9_isTurned_159
set_option maxHeartbeats 1000000 in
set_option maxRecDepth 20000 in
theorem tX9_isTurned {l : Launch} {w : VW} {N : Nat} {S : pH} {r0 : Option Nat} {x1 : Int32} {x2 : Int32} {x3 : Int32} {v0 : Int32} (h : fX9_isTurned N S r0 x1 x2 x3 = some v0) : CT l w yX9_isTurned cX9_isTurned 13 (some .boolean) rmX9_isTurned [va_rf r0, .int x1, .int x2, .int x3] S (some (.int v0)) S := by
  refine v_entry [(0, va_rf r0), (1, .int x1), (2, .int x2), (3, .int x3)] (by decide) (by simp [lg_sl, cat_rf, cat_i, cat_j]) (by simp [lv_args, cat_rf, cat_i, cat_j]) (fun g _ hC => ?_)
  unfold fX9_isTurned at h
  obtain ⟨hO, h⟩ := chk_spec h
  refine v_aload_n hC 0 0 dX9_isTurned_0 rfl ?_
  obtain ⟨x21, ex21, h⟩ := obn h
  refine gRX9_31 hC rfl 1 ex21 dX9_isTurned_1 ?_
  refine v_iload_n hC 4 1 dX9_isTurned_4 rfl ?_
  have c22 : ¬ x1 = 0 := fun q => absurd (ifp h q) (by simp)
  replace h := ifn h c22
  refine v_idiv hC 5 c22 dX9_isTurned_5 ?_
  obtain ⟨x23, ex23, h⟩ := onm h
  refine v_topi x23 ex23 ?_
  refine v_istore hC [(4, .int x23), (0, va_rf r0), (1, .int x1), (2, .int x2), (3, .int x3)] 6 dX9_isTurned_6 (by decide) rfl ?_
  refine v_iconst hC (0 : Int32) 8 dX9_isTurned_8 (by decide) ?_
  refine v_istore hC [(5, .int (0 : Int32)), (4, .int x23), (0, va_rf r0), (1, .int x1), (2, .int x2), (3, .int x3)] 9 dX9_isTurned_9 (by decide) rfl ?_
  rcases obS1 h with ⟨u9, E11, h⟩ | ⟨r9, E11, h⟩
  · refine v_sub [(0, va_rf r0), (1, .int x1), (2, .int x2), (3, .int x3), (4, .int x23), (5, .int (0 : Int32))] [2, 3, 4, 5, 1, 0] rfl ?_
    refine kX9_isTurned_11 hC _ _ _ E11 (fun _ hz9 => ?_) (fun _ hz9 => by cases hz9)
    cases hz9
    refine v_iconst hC (0 : Int32) 166 dX9_isTurned_166 (by decide) ?_
    obtain rfl := sp1 h
    exact v_zret hC 167 (by decide) (by decide) (by decide) dX9_isTurned_167
  · refine v_sub [(0, va_rf r0), (1, .int x1), (2, .int x2), (3, .int x3), (4, .int x23), (5, .int (0 : Int32))] [2, 3, 4, 5, 1, 0] rfl ?_
    exact kX9_isTurned_11 hC _ _ _ E11 (fun _ hz9 => by cases hz9) (fun _ hz9 => by cases hz9; cases h; exact rfl)
set_option maxRecDepth 20000 in
theorem qX9_219 {g : VG} {w : VW} {nL : Nat} {Q : State → Prop} {S : pH} {kc ks : Nat} {lv : List (Nat × Value)} {rest : List Value} {y : MethodName} {cc : ByteArray} {rt : Option FieldType} {rm : Room} (hC : Cx g y cc nL rt rm w) (hy : y.cls = RX9) (pc : Nat) {N : Nat} {x0 : Int32} {v0 : Int32} (h : fX9_bitsIn N S x0 = some v0) (hR : rmX9_bitsIn.frames + 1 ≤ rm.frames ∧ 8 + (3 + 11) + rmX9_bitsIn.locals ≤ rm.locals) (hst : (rest.map fun v => v.category).sum ≤ 8) (hf : kc + 0 ≤ rm.cells ∧ ks + 0 ≤ rm.slots) (d : decode cc pc = .ok (.invokestatic 219, 3)) (K : V g w nL Q S kc ks (pc + 3) lv (.int v0 :: rest)) : V g w nL Q S kc ks pc lv (.int x0 :: rest) := by
  exact v_callS (As := [.int x0]) (rest := rest) hC pc (tX9_bitsIn (l := g.2.1) (w := w) h) wG639 (by rw [hy]; exact wG638) wG640 wG542 hdX9_bitsIn rfl hR hst hf d K
abbrev rmX9_isWeighing : Room := { frames := 1, cells := 0, slots := 0, locals := 22 }
theorem hdX9_isWeighing : yX9_isWeighing.cls ≠ "java/lang/invoke/MethodHandle" ∧ yX9_isWeighing.cls ≠ "java/lang/invoke/VarHandle" ∧ (parseMethodDescriptor yX9_isWeighing.desc).map (fun d => d.parameters.length) = some 2 := by decide +kernel
def fX9_isWeighing (N : Nat) (S : pH) (x0 : Int32) (x1 : Int32) : Option (Int32) :=
  (fX9_in N S x0 (1 : Int32) (511 : Int32)).bind fun x21 =>
  if x21 = 0 then
  (some (0 : Int32))
  else
  (fX9_in N S x1 (1 : Int32) (511 : Int32)).bind fun x22 =>
  if x22 = 0 then
  (some (0 : Int32))
  else
  if ¬ (x0 &&& x1) = 0 then
  (some (0 : Int32))
  else
  (fX9_bitsIn N S x0).bind fun x23 =>
  (fX9_bitsIn N S x1).bind fun x24 =>
  if ¬ x23 = x24 then
  (some (0 : Int32))
  else
  some (1 : Int32)
set_option maxHeartbeats 1000000 in
set_option maxRecDepth 20000 in
theorem tX9_isWeighing {l : Launch} {w : VW} {N : Nat} {S : pH} {x0 : Int32} {x1 : Int32} {v0 : Int32} (h : fX9_isWeighing N S x0 x1 = some v0) : CT l w yX9_isWeighing cX9_isWeighing 2 (some .boolean) rmX9_isWeighing [.int x0, .int x1] S (some (.int v0)) S := by
  refine v_entry [(0, .int x0), (1, .int x1)] (by decide) (by simp [lg_sl, cat_rf, cat_i, cat_j]) (by simp [lv_args, cat_rf, cat_i, cat_j]) (fun g _ hC => ?_)
  unfold fX9_isWeighing at h
  refine v_iload_n hC 0 0 dX9_isWeighing_0 rfl ?_
  refine v_iconst hC (1 : Int32) 1 dX9_isWeighing_1 (by decide) ?_
  refine v_sipush hC (511 : Int32) 2 dX9_isWeighing_2 (by decide) ?_
  obtain ⟨x21, ex21, h⟩ := obn h
  refine qX9_97 hC rfl 5 ex21 (by decide) (catL (Nat.le_of_ble_eq_true rfl)) (by decide) dX9_isWeighing_5 ?_
  refine v_if_eq hC 8 43 dX9_isWeighing_8 (by decide) (fun c28 => ?_) (fun c28 => ?_)
  · replace h := ifp h c28
    refine v_iconst hC (0 : Int32) 43 dX9_isWeighing_43 (by decide) ?_
    obtain rfl := sp1 h
    exact v_zret hC 44 (by decide) (by decide) (by decide) dX9_isWeighing_44
  · replace h := ifn h c28
    refine v_iload_n hC 11 1 dX9_isWeighing_11 rfl ?_
    refine v_iconst hC (1 : Int32) 12 dX9_isWeighing_12 (by decide) ?_
    refine v_sipush hC (511 : Int32) 13 dX9_isWeighing_13 (by decide) ?_
    obtain ⟨x22, ex22, h⟩ := obn h
    refine qX9_97 hC rfl 16 ex22 (by decide) (catL (Nat.le_of_ble_eq_true rfl)) (by decide) dX9_isWeighing_16 ?_
    refine v_if_eq hC 19 43 dX9_isWeighing_19 (by decide) (fun c27 => ?_) (fun c27 => ?_)
    · replace h := ifp h c27
      refine v_iconst hC (0 : Int32) 43 dX9_isWeighing_43 (by decide) ?_
      obtain rfl := sp1 h
      exact v_zret hC 44 (by decide) (by decide) (by decide) dX9_isWeighing_44
    · replace h := ifn h c27
      refine v_iload_n hC 22 0 dX9_isWeighing_22 rfl ?_
      refine v_iload_n hC 23 1 dX9_isWeighing_23 rfl ?_
      refine v_iand hC 24 dX9_isWeighing_24 ?_
      refine v_if_ne hC 25 43 dX9_isWeighing_25 (by decide) (fun c26 => ?_) (fun c26 => ?_)
      · replace h := ifp h c26
        refine v_iconst hC (0 : Int32) 43 dX9_isWeighing_43 (by decide) ?_
        obtain rfl := sp1 h
        exact v_zret hC 44 (by decide) (by decide) (by decide) dX9_isWeighing_44
      · replace h := ifn h (fun q => q c26)
        refine v_iload_n hC 28 0 dX9_isWeighing_28 rfl ?_
        obtain ⟨x23, ex23, h⟩ := obn h
        refine qX9_219 hC rfl 29 ex23 (by decide) (catL (Nat.le_of_ble_eq_true rfl)) (by decide) dX9_isWeighing_29 ?_
        refine v_iload_n hC 32 1 dX9_isWeighing_32 rfl ?_
        obtain ⟨x24, ex24, h⟩ := obn h
        refine qX9_219 hC rfl 33 ex24 (by decide) (catL (Nat.le_of_ble_eq_true rfl)) (by decide) dX9_isWeighing_33 ?_
        refine v_icmp_ne hC 36 43 dX9_isWeighing_36 (by decide) (fun c25 => ?_) (fun c25 => ?_)
        · replace h := ifp h c25
          refine v_iconst hC (0 : Int32) 43 dX9_isWeighing_43 (by decide) ?_
          obtain rfl := sp1 h
          exact v_zret hC 44 (by decide) (by decide) (by decide) dX9_isWeighing_44
        · replace h := ifn h (fun q => q c25)
          refine v_iconst hC (1 : Int32) 39 dX9_isWeighing_39 (by decide) ?_
          refine v_goto hC 40 44 dX9_isWeighing_40 (by decide) ?_
          obtain rfl := sp1 h
          exact v_zret hC 44 (by decide) (by decide) (by decide) dX9_isWeighing_44
abbrev rmX9_lay : Room := { frames := 2, cells := 0, slots := 0, locals := 43 }
theorem hdX9_lay : yX9_lay.cls ≠ "java/lang/invoke/MethodHandle" ∧ yX9_lay.cls ≠ "java/lang/invoke/VarHandle" ∧ (parseMethodDescriptor yX9_lay.desc).map (fun d => d.parameters.length) = some 4 := by decide +kernel
def fX9_lay (N : Nat) (S : pH) (r0 : Option Nat) (x1 : Int32) (x2 : Int32) (x3 : Int32) (x4 : Int32) : Option (Int32 × pH) :=
  chk S 9 r0 <|
  (gfI S 9 10 r0).bind fun x21 =>
  (fX9_in N S x1 (0 : Int32) (x21 - (1 : Int32))).bind fun x22 =>
  if x22 = 0 then
  (some ((-2 : Int32), S))
  else
  (gfI S 9 10 r0).bind fun x23 =>
  (fX9_in N S x2 (0 : Int32) (x23 - (1 : Int32))).bind fun x24 =>
  if x24 = 0 then
  (some ((-2 : Int32), S))
  else
  nm (fun (_ : Unit) =>
  (fX9_in N S x4 (0 : Int32) (3 : Int32)).bind fun x25 =>
  if ¬ x25 = 0 then
  ((gfR S 9 11 r0).bind fun r26 =>
  (ldI S 0 r26 (((4 : Int32) * x2) + x1)).bind fun x27 =>
  (gfR S 9 11 r0).bind fun r28 =>
  (stI S r28 (((4 : Int32) * x2) + x1) x3).bind fun S29 =>
  (gfR S29 9 12 r0).bind fun r30 =>
  (stI S29 r30 (((4 : Int32) * x2) + x1) x4).bind fun S31 =>
  some (x27, S31))
  else
  some ((-2 : Int32), S)) fun j42 =>
  if x3 = (-9 : Int32) then
  (j42 ())
  else
  (fX9_isCane N S r0 x3).bind fun x33 =>
  if x33 = 0 then
  (some ((-2 : Int32), S))
  else
  j42 ()
theorem oX9_lay {N : Nat} {S : pH} {r0 : Option Nat} {x1 : Int32} {x2 : Int32} {x3 : Int32} {x4 : Int32} {z : Int32 × pH} (h : fX9_lay N S r0 x1 x2 x3 x4 = some z) : ∃ fs, obj S 9 r0 = some fs := by
  unfold fX9_lay at h
  exact (chk_spec h).1
set_option maxHeartbeats 1000000 in
set_option maxRecDepth 20000 in
theorem tX9_lay {l : Launch} {w : VW} {N : Nat} {S : pH} {r0 : Option Nat} {x1 : Int32} {x2 : Int32} {x3 : Int32} {x4 : Int32} {v0 : Int32} {S0 : pH} (h : fX9_lay N S r0 x1 x2 x3 x4 = some (v0, S0)) : CT l w yX9_lay cX9_lay 6 (some .int) rmX9_lay [va_rf r0, .int x1, .int x2, .int x3, .int x4] S (some (.int v0)) S0 := by
  refine v_entry [(0, va_rf r0), (1, .int x1), (2, .int x2), (3, .int x3), (4, .int x4)] (by decide) (by simp [lg_sl, cat_rf, cat_i, cat_j]) (by simp [lv_args, cat_rf, cat_i, cat_j]) (fun g _ hC => ?_)
  unfold fX9_lay at h
  obtain ⟨hO, h⟩ := chk_spec h
  refine v_iload_n hC 0 1 dX9_lay_0 rfl ?_
  refine v_iconst hC (0 : Int32) 1 dX9_lay_1 (by decide) ?_
  refine v_aload_n hC 2 0 dX9_lay_2 rfl ?_
  obtain ⟨x21, ex21, h⟩ := obn h
  refine gRX9_38 hC rfl 3 ex21 dX9_lay_3 ?_
  refine v_iconst hC (1 : Int32) 6 dX9_lay_6 (by decide) ?_
  refine v_isub hC 7 dX9_lay_7 ?_
  obtain ⟨x22, ex22, h⟩ := obn h
  refine qX9_97 hC rfl 8 ex22 (by decide) (catL (Nat.le_of_ble_eq_true rfl)) (by decide) dX9_lay_8 ?_
  refine v_if_eq hC 11 52 dX9_lay_11 (by decide) (fun c37 => ?_) (fun c37 => ?_)
  · replace h := ifp h c37
    refine v_bipush hC (-2 : Int32) 52 dX9_lay_52 (by decide) ?_
    obtain ⟨rfl, rfl⟩ := sp2 h
    exact v_iret hC 54 (by decide) (by decide) dX9_lay_54
  · replace h := ifn h c37
    refine v_iload_n hC 14 2 dX9_lay_14 rfl ?_
    refine v_iconst hC (0 : Int32) 15 dX9_lay_15 (by decide) ?_
    refine v_aload_n hC 16 0 dX9_lay_16 rfl ?_
    obtain ⟨x23, ex23, h⟩ := obn h
    refine gRX9_38 hC rfl 17 ex23 dX9_lay_17 ?_
    refine v_iconst hC (1 : Int32) 20 dX9_lay_20 (by decide) ?_
    refine v_isub hC 21 dX9_lay_21 ?_
    obtain ⟨x24, ex24, h⟩ := obn h
    refine qX9_97 hC rfl 22 ex24 (by decide) (catL (Nat.le_of_ble_eq_true rfl)) (by decide) dX9_lay_22 ?_
    refine v_if_eq hC 25 52 dX9_lay_25 (by decide) (fun c36 => ?_) (fun c36 => ?_)
    · replace h := ifp h c36
      refine v_bipush hC (-2 : Int32) 52 dX9_lay_52 (by decide) ?_
      obtain ⟨rfl, rfl⟩ := sp2 h
      exact v_iret hC 54 (by decide) (by decide) dX9_lay_54
    · replace h := ifn h c36
      refine v_iload_n hC 28 3 dX9_lay_28 rfl ?_
      refine v_bipush hC (-9 : Int32) 29 dX9_lay_29 (by decide) ?_
      obtain ⟨j42, f42, h⟩ := onm h
      have J42 : ∀ (u9 : Unit), j42 u9 = some (v0, S0) → V g w 6 (Qm g w rmX9_lay.cells rmX9_lay.slots (some (.int v0)) S0) S 0 0 42 [(0, va_rf r0), (1, .int x1), (2, .int x2), (3, .int x3), (4, .int x4)] [] := by
        intro u9 h
        replace h := jb1 f42 h
        refine v_iload hC 42 4 dX9_lay_42 rfl ?_
        refine v_iconst hC (0 : Int32) 44 dX9_lay_44 (by decide) ?_
        refine v_iconst hC (3 : Int32) 45 dX9_lay_45 (by decide) ?_
        obtain ⟨x25, ex25, h⟩ := obn h
        refine qX9_97 hC rfl 46 ex25 (by decide) (catL (Nat.le_of_ble_eq_true rfl)) (by decide) dX9_lay_46 ?_
        refine v_if_ne hC 49 55 dX9_lay_49 (by decide) (fun c32 => ?_) (fun c32 => ?_)
        · replace h := ifp h c32
          refine v_aload_n hC 55 0 dX9_lay_55 rfl ?_
          obtain ⟨r26, er26, h⟩ := obn h
          refine gRX9_41 hC rfl 56 er26 dX9_lay_56 ?_
          refine v_iconst hC (4 : Int32) 59 dX9_lay_59 (by decide) ?_
          refine v_iload_n hC 60 2 dX9_lay_60 rfl ?_
          refine v_imul hC 61 dX9_lay_61 ?_
          refine v_iload_n hC 62 1 dX9_lay_62 rfl ?_
          refine v_iadd hC 63 dX9_lay_63 ?_
          obtain ⟨x27, ex27, h⟩ := obn h
          refine v_iald hC 64 ex27 dX9_lay_64 ?_
          refine v_istore hC [(5, .int x27), (0, va_rf r0), (1, .int x1), (2, .int x2), (3, .int x3), (4, .int x4)] 65 dX9_lay_65 (by decide) rfl ?_
          refine v_aload_n hC 67 1 dX9_lay_67 rfl ?_
          obtain ⟨r28, er28, h⟩ := obn h
          refine gRX9_41 hC rfl 68 er28 dX9_lay_68 ?_
          refine v_iconst hC (4 : Int32) 71 dX9_lay_71 (by decide) ?_
          refine v_iload_n hC 72 3 dX9_lay_72 rfl ?_
          refine v_imul hC 73 dX9_lay_73 ?_
          refine v_iload_n hC 74 2 dX9_lay_74 rfl ?_
          refine v_iadd hC 75 dX9_lay_75 ?_
          refine v_iload_n hC 76 4 dX9_lay_76 rfl ?_
          obtain ⟨S29, eS29, h⟩ := obn h
          refine v_iast hC 77 eS29 dX9_lay_77 ?_
          refine v_aload_n hC 78 1 dX9_lay_78 rfl ?_
          obtain ⟨r30, er30, h⟩ := obn h
          refine gRX9_44 hC rfl 79 er30 dX9_lay_79 ?_
          refine v_iconst hC (4 : Int32) 82 dX9_lay_82 (by decide) ?_
          refine v_iload_n hC 83 3 dX9_lay_83 rfl ?_
          refine v_imul hC 84 dX9_lay_84 ?_
          refine v_iload_n hC 85 2 dX9_lay_85 rfl ?_
          refine v_iadd hC 86 dX9_lay_86 ?_
          refine v_iload hC 87 5 dX9_lay_87 rfl ?_
          obtain ⟨S31, eS31, h⟩ := obn h
          refine v_iast hC 89 eS31 dX9_lay_89 ?_
          refine v_iload hC 90 0 dX9_lay_90 rfl ?_
          obtain ⟨rfl, rfl⟩ := sp2 h
          exact v_iret hC 92 (by decide) (by decide) dX9_lay_92
        · replace h := ifn h (fun q => q c32)
          refine v_bipush hC (-2 : Int32) 52 dX9_lay_52 (by decide) ?_
          obtain ⟨rfl, rfl⟩ := sp2 h
          exact v_iret hC 54 (by decide) (by decide) dX9_lay_54
      refine v_icmp_eq hC 31 42 dX9_lay_31 (by decide) (fun c35 => ?_) (fun c35 => ?_)
      · replace h := ifp h c35
        refine v_sub [(0, va_rf r0), (1, .int x1), (2, .int x2), (3, .int x3), (4, .int x4)] [0, 1, 2, 3, 4] rfl ?_
        exact J42 _ h
      · replace h := ifn h c35
        refine v_aload_n hC 34 0 dX9_lay_34 rfl ?_
        refine v_iload_n hC 35 3 dX9_lay_35 rfl ?_
        obtain ⟨x33, ex33, h⟩ := obn h
        refine qX9_104 hC rfl 36 ex33 (by decide) (catL (Nat.le_of_ble_eq_true rfl)) (by decide) dX9_lay_36 ?_
        refine v_if_eq hC 39 52 dX9_lay_39 (by decide) (fun c34 => ?_) (fun c34 => ?_)
        · replace h := ifp h c34
          refine v_bipush hC (-2 : Int32) 52 dX9_lay_52 (by decide) ?_
          obtain ⟨rfl, rfl⟩ := sp2 h
          exact v_iret hC 54 (by decide) (by decide) dX9_lay_54
        · replace h := ifn h c34
          refine v_sub [(0, va_rf r0), (1, .int x1), (2, .int x2), (3, .int x3), (4, .int x4)] [0, 1, 2, 3, 4] rfl ?_
          exact J42 _ h
abbrev rmX9_made : Room := { frames := 3, cells := 0, slots := 0, locals := 82 }
theorem hdX9_made : yX9_made.cls ≠ "java/lang/invoke/MethodHandle" ∧ yX9_made.cls ≠ "java/lang/invoke/VarHandle" ∧ (parseMethodDescriptor yX9_made.desc).map (fun d => d.parameters.length) = some 1 := by decide +kernel
def fX9_made (N : Nat) (S : pH) (r0 : Option Nat) (x1 : Int32) : Option (Int32) :=
  chk S 9 r0 <|
  (fX9_isCane N S r0 x1).bind fun x21 =>
  if x21 = 0 then
  (some (-1 : Int32))
  else
  (gfI S 9 8 r0).bind fun x22 =>
  (fX9_ways N S r0 x1 (16 : Int32) x22).bind fun x23 =>
  some x23
theorem oX9_made {N : Nat} {S : pH} {r0 : Option Nat} {x1 : Int32} {z : Int32} (h : fX9_made N S r0 x1 = some z) : ∃ fs, obj S 9 r0 = some fs := by
  unfold fX9_made at h
  exact (chk_spec h).1
set_option maxHeartbeats 1000000 in
set_option maxRecDepth 20000 in
theorem tX9_made {l : Launch} {w : VW} {N : Nat} {S : pH} {r0 : Option Nat} {x1 : Int32} {v0 : Int32} (h : fX9_made N S r0 x1 = some v0) : CT l w yX9_made cX9_made 2 (some .int) rmX9_made [va_rf r0, .int x1] S (some (.int v0)) S := by
  refine v_entry [(0, va_rf r0), (1, .int x1)] (by decide) (by simp [lg_sl, cat_rf, cat_i, cat_j]) (by simp [lv_args, cat_rf, cat_i, cat_j]) (fun g _ hC => ?_)
  unfold fX9_made at h
  obtain ⟨hO, h⟩ := chk_spec h
  refine v_aload_n hC 0 0 dX9_made_0 rfl ?_
  refine v_iload_n hC 1 1 dX9_made_1 rfl ?_
  obtain ⟨x21, ex21, h⟩ := obn h
  refine qX9_104 hC rfl 2 ex21 (by decide) (catL (Nat.le_of_ble_eq_true rfl)) (by decide) dX9_made_2 ?_
  refine v_if_eq hC 5 22 dX9_made_5 (by decide) (fun c24 => ?_) (fun c24 => ?_)
  · replace h := ifp h c24
    refine v_iconst hC (-1 : Int32) 22 dX9_made_22 (by decide) ?_
    obtain rfl := sp1 h
    exact v_iret hC 23 (by decide) (by decide) dX9_made_23
  · replace h := ifn h c24
    refine v_aload_n hC 8 0 dX9_made_8 rfl ?_
    refine v_iload_n hC 9 1 dX9_made_9 rfl ?_
    refine v_bipush hC (16 : Int32) 10 dX9_made_10 (by decide) ?_
    refine v_aload_n hC 12 0 dX9_made_12 rfl ?_
    obtain ⟨x22, ex22, h⟩ := obn h
    refine gRX9_31 hC rfl 13 ex22 dX9_made_13 ?_
    obtain ⟨x23, ex23, h⟩ := obn h
    refine qX9_184 hC rfl 16 ex23 (by decide) (catL (Nat.le_of_ble_eq_true rfl)) (by decide) dX9_made_16 ?_
    refine v_goto hC 19 23 dX9_made_19 (by decide) ?_
    obtain rfl := sp1 h
    exact v_iret hC 23 (by decide) (by decide) dX9_made_23
abbrev rmX9_worst : Room := { frames := 1, cells := 0, slots := 0, locals := 24 }
theorem hdX9_worst : yX9_worst.cls ≠ "java/lang/invoke/MethodHandle" ∧ yX9_worst.cls ≠ "java/lang/invoke/VarHandle" ∧ (parseMethodDescriptor yX9_worst.desc).map (fun d => d.parameters.length) = some 2 := by decide +kernel
def lX9_worst_11 (N : Nat) (S : pH) (r0 : Option Nat) (x1 : Int32) (x2 : Int32) : Nat → Int32 → Int32 → Int32 → Int32 → Option (Int32 × Int32 × Int32)
  | 0, _, _, _, _ => none
  | n + 1, x21, x22, x23, x24 =>
    if (18 : Int32) ≤ x24 then
    (some (x21, x22, x23))
    else
    (gfR S 9 31 r0).bind fun r25 =>
    (ldI S 1 r25 x24).bind fun x26 =>
    nm (fun (x27 : Int32) (x28 : Int32) (x29 : Int32) =>
    nm (x24 + (1 : Int32)) fun x30 =>
    lX9_worst_11 N S r0 x1 x2 n x27 x28 x29 x30) fun j80 =>
    if x26 = 0 then
    (j80 x21 x22 x23)
    else
    (fX9_goes N S x24 x1 x2).bind fun x31 =>
    nm (fun (x32 : Int32) (x33 : Int32) =>
    nm (x32 + x33) fun x34 =>
    nm (fun (x35 : Int32) (x36 : Int32) =>
    nm (x35 + x36) fun x37 =>
    nm (fun (x38 : Int32) (x39 : Int32) =>
    nm (x38 + x39) fun x40 =>
    j80 x34 x37 x40) fun j77 =>
    if x31 ≤ 0 then
    (j77 x23 (0 : Int32))
    else
    j77 x23 (1 : Int32)) fun j62 =>
    if ¬ x31 = 0 then
    (j62 x22 (0 : Int32))
    else
    j62 x22 (1 : Int32)) fun j48 =>
    if 0 ≤ x31 then
    (j48 x21 (0 : Int32))
    else
    j48 x21 (1 : Int32)
def fX9_worst (N : Nat) (S : pH) (r0 : Option Nat) (x1 : Int32) (x2 : Int32) : Option (Int32) :=
  chk S 9 r0 <|
  b3 (lX9_worst_11 N S r0 x1 x2 N (0 : Int32) (0 : Int32) (0 : Int32) (0 : Int32)) fun x46 x47 x48 =>
  nm (fun (x49 : Int32) =>
  if x47 ≤ x49 then
  (some x49)
  else
  some x47) fun j98 =>
  if x46 ≤ x48 then
  (j98 x48)
  else
  j98 x46
theorem oX9_worst {N : Nat} {S : pH} {r0 : Option Nat} {x1 : Int32} {x2 : Int32} {z : Int32} (h : fX9_worst N S r0 x1 x2 = some z) : ∃ fs, obj S 9 r0 = some fs := by
  unfold fX9_worst at h
  exact (chk_spec h).1
set_option maxHeartbeats 1000000 in
set_option maxRecDepth 20000 in
theorem kX9_worst_11 {g : VG} {w : VW} {N : Nat} {S : pH} {r0 : Option Nat} {x1 : Int32} {x2 : Int32} {v0 : Int32} (hC : Cx g yX9_worst cX9_worst 8 (some .int) rmX9_worst w) : ∀ (n : Nat) (x21 : Int32) (x22 : Int32) (x23 : Int32) (x24 : Int32) (z : (Int32 × Int32 × Int32)), lX9_worst_11 N S r0 x1 x2 n x21 x22 x23 x24 = some z → (∀ (e0 : Int32) (e1 : Int32) (e2 : Int32), z = (e0, e1, e2) → V g w 8 (Qm g w rmX9_worst.cells rmX9_worst.slots (some (.int v0)) S) S 0 0 86 [(3, .int e0), (4, .int e1), (5, .int e2)] []) → V g w 8 (Qm g w rmX9_worst.cells rmX9_worst.slots (some (.int v0)) S) S 0 0 11 [(0, va_rf r0), (1, .int x1), (2, .int x2), (3, .int x21), (4, .int x22), (5, .int x23), (6, .int x24)] [] := by
  intro n
  induction n with
  | zero => intro x21 x22 x23 x24 z h; rw [lX9_worst_11] at h; cases h
  | succ n ih =>
    intro x21 x22 x23 x24 z h K
    rw [lX9_worst_11] at h
    refine v_iload hC 11 6 dX9_worst_11 rfl ?_
    refine v_bipush hC (18 : Int32) 13 dX9_worst_13 (by decide) ?_
    refine v_icmp_ge hC 15 86 dX9_worst_15 (by decide) (fun c45 => ?_) (fun c45 => ?_)
    · replace h := ifp h c45
      refine v_sub [(3, .int x21), (4, .int x22), (5, .int x23)] [3, 4, 5] rfl ?_
      exact K _ _ _ (sp1 h)
    · replace h := ifn h c45
      refine v_aload_n hC 18 0 dX9_worst_18 rfl ?_
      obtain ⟨r25, er25, h⟩ := obn h
      refine gRX9_94 hC rfl 19 er25 dX9_worst_19 ?_
      refine v_iload hC 22 6 dX9_worst_22 rfl ?_
      obtain ⟨x26, ex26, h⟩ := obn h
      refine v_zald hC 24 ex26 dX9_worst_24 ?_
      obtain ⟨j80, f80, h⟩ := onm h
      have J80 : ∀ (x27 : Int32) (x28 : Int32) (x29 : Int32), j80 x27 x28 x29 = some z → V g w 8 (Qm g w rmX9_worst.cells rmX9_worst.slots (some (.int v0)) S) S 0 0 80 [(0, va_rf r0), (1, .int x1), (2, .int x2), (3, .int x27), (4, .int x28), (5, .int x29), (6, .int x24)] [] := by
        intro x27 x28 x29 h
        replace h := jb3 f80 h
        obtain ⟨x30, ex30, h⟩ := onm h
        refine v_iinc hC x30 [(6, .int x30), (0, va_rf r0), (1, .int x1), (2, .int x2), (3, .int x27), (4, .int x28), (5, .int x29)] 80 6 dX9_worst_80 rfl (by rw [ex30]; rfl) (by decide) rfl ?_
        refine v_goto hC 83 11 dX9_worst_83 (by decide) ?_
        refine v_sub [(0, va_rf r0), (1, .int x1), (2, .int x2), (3, .int x27), (4, .int x28), (5, .int x29), (6, .int x30)] [1, 2, 3, 4, 5, 6, 0] rfl ?_
        exact ih _ _ _ _ _ h K
      refine v_if_eq hC 25 80 dX9_worst_25 (by decide) (fun c44 => ?_) (fun c44 => ?_)
      · replace h := ifp h c44
        refine v_sub [(0, va_rf r0), (1, .int x1), (2, .int x2), (3, .int x21), (4, .int x22), (5, .int x23), (6, .int x24)] [0, 1, 2, 3, 4, 5, 6] rfl ?_
        exact J80 _ _ _ h
      · replace h := ifn h c44
        refine v_iload hC 28 6 dX9_worst_28 rfl ?_
        refine v_iload_n hC 30 1 dX9_worst_30 rfl ?_
        refine v_iload_n hC 31 2 dX9_worst_31 rfl ?_
        obtain ⟨x31, ex31, h⟩ := obn h
        refine qX9_213 hC rfl 32 ex31 (by decide) (catL (Nat.le_of_ble_eq_true rfl)) (by decide) dX9_worst_32 ?_
        refine v_istore hC [(7, .int x31), (0, va_rf r0), (1, .int x1), (2, .int x2), (3, .int x21), (4, .int x22), (5, .int x23), (6, .int x24)] 35 dX9_worst_35 (by decide) rfl ?_
        refine v_iload_n hC 37 4 dX9_worst_37 rfl ?_
        refine v_iload hC 38 0 dX9_worst_38 rfl ?_
        obtain ⟨j48, f48, h⟩ := onm h
        have J48 : ∀ (x32 : Int32) (x33 : Int32), j48 x32 x33 = some z → V g w 8 (Qm g w rmX9_worst.cells rmX9_worst.slots (some (.int v0)) S) S 0 0 48 [(0, va_rf r0), (1, .int x1), (2, .int x2), (4, .int x22), (5, .int x23), (6, .int x24), (7, .int x31)] [.int x33, .int x32] := by
          intro x32 x33 h
          replace h := jb2 f48 h
          refine v_iadd hC 48 dX9_worst_48 ?_
          obtain ⟨x34, ex34, h⟩ := onm h
          refine v_topi x34 ex34 ?_
          refine v_istore_n hC [(3, .int x34), (0, va_rf r0), (1, .int x1), (2, .int x2), (4, .int x22), (5, .int x23), (6, .int x24), (7, .int x31)] 49 dX9_worst_49 (by decide) rfl ?_
          refine v_iload hC 50 4 dX9_worst_50 rfl ?_
          refine v_iload hC 52 7 dX9_worst_52 rfl ?_
          obtain ⟨j62, f62, h⟩ := onm h
          have J62 : ∀ (x35 : Int32) (x36 : Int32), j62 x35 x36 = some z → V g w 8 (Qm g w rmX9_worst.cells rmX9_worst.slots (some (.int v0)) S) S 0 0 62 [(0, va_rf r0), (1, .int x1), (2, .int x2), (3, .int x34), (5, .int x23), (6, .int x24), (7, .int x31)] [.int x36, .int x35] := by
            intro x35 x36 h
            replace h := jb2 f62 h
            refine v_iadd hC 62 dX9_worst_62 ?_
            obtain ⟨x37, ex37, h⟩ := onm h
            refine v_topi x37 ex37 ?_
            refine v_istore hC [(4, .int x37), (0, va_rf r0), (1, .int x1), (2, .int x2), (3, .int x34), (5, .int x23), (6, .int x24), (7, .int x31)] 63 dX9_worst_63 (by decide) rfl ?_
            refine v_iload hC 65 5 dX9_worst_65 rfl ?_
            refine v_iload hC 67 7 dX9_worst_67 rfl ?_
            obtain ⟨j77, f77, h⟩ := onm h
            have J77 : ∀ (x38 : Int32) (x39 : Int32), j77 x38 x39 = some z → V g w 8 (Qm g w rmX9_worst.cells rmX9_worst.slots (some (.int v0)) S) S 0 0 77 [(0, va_rf r0), (1, .int x1), (2, .int x2), (3, .int x34), (4, .int x37), (6, .int x24)] [.int x39, .int x38] := by
              intro x38 x39 h
              replace h := jb2 f77 h
              refine v_iadd hC 77 dX9_worst_77 ?_
              obtain ⟨x40, ex40, h⟩ := onm h
              refine v_topi x40 ex40 ?_
              refine v_istore hC [(5, .int x40), (0, va_rf r0), (1, .int x1), (2, .int x2), (3, .int x34), (4, .int x37), (6, .int x24)] 78 dX9_worst_78 (by decide) rfl ?_
              refine v_sub [(0, va_rf r0), (1, .int x1), (2, .int x2), (3, .int x34), (4, .int x37), (5, .int x40), (6, .int x24)] [1, 2, 3, 4, 5, 0, 6] rfl ?_
              exact J80 _ _ _ h
            refine v_if_le hC 69 76 dX9_worst_69 (by decide) (fun c41 => ?_) (fun c41 => ?_)
            · replace h := ifp h c41
              refine v_iconst hC (0 : Int32) 76 dX9_worst_76 (by decide) ?_
              refine v_sub [(0, va_rf r0), (1, .int x1), (2, .int x2), (3, .int x34), (4, .int x37), (6, .int x24)] [1, 2, 3, 4, 0, 6] rfl ?_
              exact J77 _ _ h
            · replace h := ifn h c41
              refine v_iconst hC (1 : Int32) 72 dX9_worst_72 (by decide) ?_
              refine v_goto hC 73 77 dX9_worst_73 (by decide) ?_
              refine v_sub [(0, va_rf r0), (1, .int x1), (2, .int x2), (3, .int x34), (4, .int x37), (6, .int x24)] [1, 2, 3, 4, 0, 6] rfl ?_
              exact J77 _ _ h
          refine v_if_ne hC 54 61 dX9_worst_54 (by decide) (fun c42 => ?_) (fun c42 => ?_)
          · replace h := ifp h c42
            refine v_iconst hC (0 : Int32) 61 dX9_worst_61 (by decide) ?_
            refine v_sub [(0, va_rf r0), (1, .int x1), (2, .int x2), (3, .int x34), (5, .int x23), (6, .int x24), (7, .int x31)] [1, 2, 3, 0, 5, 6, 7] rfl ?_
            exact J62 _ _ h
          · replace h := ifn h (fun q => q c42)
            refine v_iconst hC (1 : Int32) 57 dX9_worst_57 (by decide) ?_
            refine v_goto hC 58 62 dX9_worst_58 (by decide) ?_
            refine v_sub [(0, va_rf r0), (1, .int x1), (2, .int x2), (3, .int x34), (5, .int x23), (6, .int x24), (7, .int x31)] [1, 2, 3, 0, 5, 6, 7] rfl ?_
            exact J62 _ _ h
        refine v_if_ge hC 40 47 dX9_worst_40 (by decide) (fun c43 => ?_) (fun c43 => ?_)
        · replace h := ifp h c43
          refine v_iconst hC (0 : Int32) 47 dX9_worst_47 (by decide) ?_
          refine v_sub [(0, va_rf r0), (1, .int x1), (2, .int x2), (4, .int x22), (5, .int x23), (6, .int x24), (7, .int x31)] [1, 2, 3, 5, 6, 7, 0] rfl ?_
          exact J48 _ _ h
        · replace h := ifn h c43
          refine v_iconst hC (1 : Int32) 43 dX9_worst_43 (by decide) ?_
          refine v_goto hC 44 48 dX9_worst_44 (by decide) ?_
          refine v_sub [(0, va_rf r0), (1, .int x1), (2, .int x2), (4, .int x22), (5, .int x23), (6, .int x24), (7, .int x31)] [1, 2, 3, 5, 6, 7, 0] rfl ?_
          exact J48 _ _ h
set_option maxHeartbeats 1000000 in
set_option maxRecDepth 20000 in
theorem tX9_worst {l : Launch} {w : VW} {N : Nat} {S : pH} {r0 : Option Nat} {x1 : Int32} {x2 : Int32} {v0 : Int32} (h : fX9_worst N S r0 x1 x2 = some v0) : CT l w yX9_worst cX9_worst 8 (some .int) rmX9_worst [va_rf r0, .int x1, .int x2] S (some (.int v0)) S := by
  refine v_entry [(0, va_rf r0), (1, .int x1), (2, .int x2)] (by decide) (by simp [lg_sl, cat_rf, cat_i, cat_j]) (by simp [lv_args, cat_rf, cat_i, cat_j]) (fun g _ hC => ?_)
  unfold fX9_worst at h
  obtain ⟨hO, h⟩ := chk_spec h
  refine v_iconst hC (0 : Int32) 0 dX9_worst_0 (by decide) ?_
  refine v_istore_n hC [(3, .int (0 : Int32)), (0, va_rf r0), (1, .int x1), (2, .int x2)] 1 dX9_worst_1 (by decide) rfl ?_
  refine v_iconst hC (0 : Int32) 2 dX9_worst_2 (by decide) ?_
  refine v_istore hC [(4, .int (0 : Int32)), (3, .int (0 : Int32)), (0, va_rf r0), (1, .int x1), (2, .int x2)] 3 dX9_worst_3 (by decide) rfl ?_
  refine v_iconst hC (0 : Int32) 5 dX9_worst_5 (by decide) ?_
  refine v_istore hC [(5, .int (0 : Int32)), (4, .int (0 : Int32)), (3, .int (0 : Int32)), (0, va_rf r0), (1, .int x1), (2, .int x2)] 6 dX9_worst_6 (by decide) rfl ?_
  refine v_iconst hC (0 : Int32) 8 dX9_worst_8 (by decide) ?_
  refine v_istore hC [(6, .int (0 : Int32)), (5, .int (0 : Int32)), (4, .int (0 : Int32)), (3, .int (0 : Int32)), (0, va_rf r0), (1, .int x1), (2, .int x2)] 9 dX9_worst_9 (by decide) rfl ?_
  obtain ⟨x46, x47, x48, E11, h⟩ := ob3 h
  refine v_sub [(0, va_rf r0), (1, .int x1), (2, .int x2), (3, .int (0 : Int32)), (4, .int (0 : Int32)), (5, .int (0 : Int32)), (6, .int (0 : Int32))] [4, 5, 6, 3, 2, 1, 0] rfl ?_
  refine kX9_worst_11 hC _ _ _ _ _ _ E11 (fun _ _ _ hz9 => ?_)
  cases hz9
  refine v_iload_n hC 86 0 dX9_worst_86 rfl ?_
  refine v_iload hC 87 2 dX9_worst_87 rfl ?_
  obtain ⟨j98, f98, h⟩ := onm h
  have J98 : ∀ (x49 : Int32), j98 x49 = some v0 → V g w 8 (Qm g w rmX9_worst.cells rmX9_worst.slots (some (.int v0)) S) S 0 0 98 [(4, .int x47)] [.int x49] := by
    intro x49 h
    replace h := jb1 f98 h
    refine v_istore hC [(6, .int x49), (4, .int x47)] 98 dX9_worst_98 (by decide) rfl ?_
    refine v_iload hC 100 1 dX9_worst_100 rfl ?_
    refine v_iload hC 102 0 dX9_worst_102 rfl ?_
    refine v_icmp_le hC 104 112 dX9_worst_104 (by decide) (fun c50 => ?_) (fun c50 => ?_)
    · replace h := ifp h c50
      refine v_iload hC 112 0 dX9_worst_112 rfl ?_
      obtain rfl := sp1 h
      exact v_iret hC 114 (by decide) (by decide) dX9_worst_114
    · replace h := ifn h c50
      refine v_iload hC 107 1 dX9_worst_107 rfl ?_
      refine v_goto hC 109 114 dX9_worst_109 (by decide) ?_
      obtain rfl := sp1 h
      exact v_iret hC 114 (by decide) (by decide) dX9_worst_114
  refine v_icmp_le hC 89 96 dX9_worst_89 (by decide) (fun c51 => ?_) (fun c51 => ?_)
  · replace h := ifp h c51
    refine v_iload hC 96 2 dX9_worst_96 rfl ?_
    refine v_sub [(4, .int x47)] [1] rfl ?_
    exact J98 _ h
  · replace h := ifn h c51
    refine v_iload_n hC 92 0 dX9_worst_92 rfl ?_
    refine v_goto hC 93 98 dX9_worst_93 (by decide) ?_
    refine v_sub [(4, .int x47)] [1] rfl ?_
    exact J98 _ h
set_option maxRecDepth 20000 in
theorem qX9_229 {g : VG} {w : VW} {nL : Nat} {Q : State → Prop} {S : pH} {kc ks : Nat} {lv : List (Nat × Value)} {rest : List Value} {y : MethodName} {cc : ByteArray} {rt : Option FieldType} {rm : Room} (hC : Cx g y cc nL rt rm w) (hy : y.cls = RX9) (pc : Nat) {N : Nat} {r0 : Option Nat} {x1 : Int32} {x2 : Int32} {v0 : Int32} (h : fX9_worst N S r0 x1 x2 = some v0) (hR : rmX9_worst.frames + 1 ≤ rm.frames ∧ 8 + (8 + 11) + rmX9_worst.locals ≤ rm.locals) (hst : (rest.map fun v => v.category).sum ≤ 8) (hf : kc + 0 ≤ rm.cells ∧ ks + 0 ≤ rm.slots) (d : decode cc pc = .ok (.invokevirtual 229, 3)) (K : V g w nL Q S kc ks (pc + 3) lv (.int v0 :: rest)) : V g w nL Q S kc ks pc lv (.int x2 :: .int x1 :: va_rf r0 :: rest) := by
  obtain ⟨fs, ho⟩ := oX9_worst h
  exact v_callV (As := [.int x1, .int x2]) (rest := rest) (ci := 9) hC pc (tX9_worst (l := g.2.1) (w := w) h) rfl (by decide) ho wG642 (by rw [hy]; exact wG641) wG643 wG644 wG542 hdX9_worst rfl hR hst hf d K
abbrev rmX9_next : Room := { frames := 2, cells := 0, slots := 0, locals := 51 }
theorem hdX9_next : yX9_next.cls ≠ "java/lang/invoke/MethodHandle" ∧ yX9_next.cls ≠ "java/lang/invoke/VarHandle" ∧ (parseMethodDescriptor yX9_next.desc).map (fun d => d.parameters.length) = some 1 := by decide +kernel
def lX9_next_15 (N : Nat) (r0 : Option Nat) (x1 : Int32) : Nat → Int32 → Int32 → pH → Option (Int32 × pH)
  | 0, _, _, _ => none
  | n + 1, x22, x23, S24 =>
    if (18 : Int32) ≤ x23 then
    (some (x22, S24))
    else
    (gfR S24 9 31 r0).bind fun r25 =>
    (fX9_isLeft N S24 r0 x23).bind fun x26 =>
    (stZ S24 r25 x23 x26).bind fun S27 =>
    (gfR S27 9 31 r0).bind fun r28 =>
    (ldI S27 1 r28 x23).bind fun x29 =>
    nm (fun (x30 : Int32) (x31 : Int32) =>
    nm (x30 + x31) fun x32 =>
    nm (x23 + (1 : Int32)) fun x33 =>
    lX9_next_15 N r0 x1 n x32 x33 S27) fun j47 =>
    if x29 = 0 then
    (j47 x22 (0 : Int32))
    else
    j47 x22 (1 : Int32)
def lX9_next_97 (N : Nat) (S : pH) (r0 : Option Nat) (x1 : Int32) (x6 : Int32) (x7 : Int32) : Nat → Int32 → Int32 → Int32 → Int32 → Option (Int32 × Int32 × Int32)
  | 0, _, _, _, _ => none
  | n + 1, x43, x44, x45, x46 =>
    if (512 : Int32) ≤ x46 then
    (some (x43, x44, x45))
    else
    nm (fun (x47 : Int32) (x48 : Int32) (x49 : Int32) =>
    nm (x46 + (1 : Int32)) fun x50 =>
    lX9_next_97 N S r0 x1 x6 x7 n x47 x48 x49 x50) fun j182 =>
    if ¬ (x46 &&& (x7 ^^^ (-1 : Int32))) = 0 then
    (j182 x43 x44 x45)
    else
    (fX9_bitsIn N S x6).bind fun x51 =>
    (fX9_bitsIn N S x46).bind fun x52 =>
    if ¬ x51 = x52 then
    (j182 x43 x44 x45)
    else
    (fX9_worst N S r0 x6 x46).bind fun x53 =>
    nm (fun (_ : Unit) =>
    j182 x6 x46 x53) fun j171 =>
    if x45 = (-9 : Int32) then
    (j171 ())
    else
    if x53 < x45 then
    (j171 ())
    else
    if ¬ x53 = x45 then
    (j182 x43 x44 x45)
    else
    (fX9_bitsIn N S x6).bind fun x54 =>
    (fX9_bitsIn N S x43).bind fun x55 =>
    if x55 ≤ x54 then
    (j182 x43 x44 x45)
    else
    j171 ()
def lX9_next_76 (N : Nat) (S : pH) (r0 : Option Nat) (x1 : Int32) : Nat → Int32 → Int32 → Int32 → Int32 → Option (Int32 × Int32 × Int32)
  | 0, _, _, _, _ => none
  | n + 1, x38, x39, x40, x41 =>
    if (512 : Int32) ≤ x41 then
    (some (x38, x39, x40))
    else
    nm ((511 : Int32) &&& (x41 ^^^ (-1 : Int32))) fun x42 =>
    b3 (lX9_next_97 N S r0 x1 x41 x42 N x38 x39 x40 (1 : Int32)) fun x63 x64 x65 =>
    nm (x41 + (1 : Int32)) fun x66 =>
    lX9_next_76 N S r0 x1 n x63 x64 x65 x66
def fX9_next (N : Nat) (S : pH) (r0 : Option Nat) (x1 : Int32) : Option (Int32 × pH) :=
  chk S 9 r0 <|
  (fX9_in N S x1 (0 : Int32) (2 : Int32)).bind fun x21 =>
  if ¬ x21 = 0 then
  (b2 (lX9_next_15 N r0 x1 N (0 : Int32) (0 : Int32) S) fun x36 S37 =>
  if ¬ x36 = 0 then
  (b3 (lX9_next_76 N S37 r0 x1 N (-9 : Int32) (-9 : Int32) (-9 : Int32) (1 : Int32)) fun x68 x69 x70 =>
  if ¬ x1 = 0 then
  (if ¬ x1 = (1 : Int32) then
  (some (x70, S37))
  else
  some (x69, S37))
  else
  some (x68, S37))
  else
  some ((-2 : Int32), S37))
  else
  some ((-1 : Int32), S)
theorem oX9_next {N : Nat} {S : pH} {r0 : Option Nat} {x1 : Int32} {z : Int32 × pH} (h : fX9_next N S r0 x1 = some z) : ∃ fs, obj S 9 r0 = some fs := by
  unfold fX9_next at h
  exact (chk_spec h).1
set_option maxHeartbeats 1000000 in
set_option maxRecDepth 20000 in
theorem kX9_next_15 {g : VG} {w : VW} {N : Nat} {r0 : Option Nat} {x1 : Int32} {v0 : Int32} {S0 : pH} (hC : Cx g yX9_next cX9_next 10 (some .int) rmX9_next w) : ∀ (n : Nat) (x22 : Int32) (x23 : Int32) (S24 : pH) (z : (Int32 × pH)), lX9_next_15 N r0 x1 n x22 x23 S24 = some z → (∀ (e0 : Int32) (e1 : pH), z = (e0, e1) → V g w 10 (Qm g w rmX9_next.cells rmX9_next.slots (some (.int v0)) S0) e1 0 0 55 [(0, va_rf r0), (1, .int x1), (2, .int e0)] []) → V g w 10 (Qm g w rmX9_next.cells rmX9_next.slots (some (.int v0)) S0) S24 0 0 15 [(0, va_rf r0), (1, .int x1), (2, .int x22), (3, .int x23)] [] := by
  intro n
  induction n with
  | zero => intro x22 x23 S24 z h; rw [lX9_next_15] at h; cases h
  | succ n ih =>
    intro x22 x23 S24 z h K
    rw [lX9_next_15] at h
    refine v_iload_n hC 15 3 dX9_next_15 rfl ?_
    refine v_bipush hC (18 : Int32) 16 dX9_next_16 (by decide) ?_
    refine v_icmp_ge hC 18 55 dX9_next_18 (by decide) (fun c35 => ?_) (fun c35 => ?_)
    · replace h := ifp h c35
      refine v_sub [(0, va_rf r0), (1, .int x1), (2, .int x22)] [0, 1, 2] rfl ?_
      exact K _ _ (sp1 h)
    · replace h := ifn h c35
      refine v_aload_n hC 21 0 dX9_next_21 rfl ?_
      obtain ⟨r25, er25, h⟩ := obn h
      refine gRX9_94 hC rfl 22 er25 dX9_next_22 ?_
      refine v_iload_n hC 25 3 dX9_next_25 rfl ?_
      refine v_aload_n hC 26 0 dX9_next_26 rfl ?_
      refine v_iload_n hC 27 3 dX9_next_27 rfl ?_
      obtain ⟨x26, ex26, h⟩ := obn h
      refine qX9_216 hC rfl 28 ex26 (by decide) (catL (Nat.le_of_ble_eq_true rfl)) (by decide) dX9_next_28 ?_
      obtain ⟨S27, eS27, h⟩ := obn h
      refine v_zast hC 31 eS27 dX9_next_31 ?_
      refine v_iload_n hC 32 2 dX9_next_32 rfl ?_
      refine v_aload_n hC 33 0 dX9_next_33 rfl ?_
      obtain ⟨r28, er28, h⟩ := obn h
      refine gRX9_94 hC rfl 34 er28 dX9_next_34 ?_
      refine v_iload_n hC 37 3 dX9_next_37 rfl ?_
      obtain ⟨x29, ex29, h⟩ := obn h
      refine v_zald hC 38 ex29 dX9_next_38 ?_
      obtain ⟨j47, f47, h⟩ := onm h
      have J47 : ∀ (x30 : Int32) (x31 : Int32), j47 x30 x31 = some z → V g w 10 (Qm g w rmX9_next.cells rmX9_next.slots (some (.int v0)) S0) S27 0 0 47 [(0, va_rf r0), (1, .int x1), (3, .int x23)] [.int x31, .int x30] := by
        intro x30 x31 h
        replace h := jb2 f47 h
        refine v_iadd hC 47 dX9_next_47 ?_
        obtain ⟨x32, ex32, h⟩ := onm h
        refine v_topi x32 ex32 ?_
        refine v_istore_n hC [(2, .int x32), (0, va_rf r0), (1, .int x1), (3, .int x23)] 48 dX9_next_48 (by decide) rfl ?_
        obtain ⟨x33, ex33, h⟩ := onm h
        refine v_iinc hC x33 [(3, .int x33), (2, .int x32), (0, va_rf r0), (1, .int x1)] 49 3 dX9_next_49 rfl (by rw [ex33]; rfl) (by decide) rfl ?_
        refine v_goto hC 52 15 dX9_next_52 (by decide) ?_
        refine v_sub [(0, va_rf r0), (1, .int x1), (2, .int x32), (3, .int x33)] [2, 3, 1, 0] rfl ?_
        exact ih _ _ _ _ h K
      refine v_if_eq hC 39 46 dX9_next_39 (by decide) (fun c34 => ?_) (fun c34 => ?_)
      · replace h := ifp h c34
        refine v_iconst hC (0 : Int32) 46 dX9_next_46 (by decide) ?_
        refine v_sub [(0, va_rf r0), (1, .int x1), (3, .int x23)] [0, 1, 3] rfl ?_
        exact J47 _ _ h
      · replace h := ifn h c34
        refine v_iconst hC (1 : Int32) 42 dX9_next_42 (by decide) ?_
        refine v_goto hC 43 47 dX9_next_43 (by decide) ?_
        refine v_sub [(0, va_rf r0), (1, .int x1), (3, .int x23)] [0, 1, 3] rfl ?_
        exact J47 _ _ h
set_option maxHeartbeats 1000000 in
set_option maxRecDepth 20000 in
theorem kX9_next_97 {g : VG} {w : VW} {N : Nat} {S : pH} {r0 : Option Nat} {x1 : Int32} {x6 : Int32} {x7 : Int32} {v0 : Int32} {S0 : pH} (hC : Cx g yX9_next cX9_next 10 (some .int) rmX9_next w) : ∀ (n : Nat) (x43 : Int32) (x44 : Int32) (x45 : Int32) (x46 : Int32) (z : (Int32 × Int32 × Int32)), lX9_next_97 N S r0 x1 x6 x7 n x43 x44 x45 x46 = some z → (∀ (e0 : Int32) (e1 : Int32) (e2 : Int32), z = (e0, e1, e2) → V g w 10 (Qm g w rmX9_next.cells rmX9_next.slots (some (.int v0)) S0) S 0 0 188 [(0, va_rf r0), (1, .int x1), (3, .int e0), (4, .int e1), (5, .int e2), (6, .int x6)] []) → V g w 10 (Qm g w rmX9_next.cells rmX9_next.slots (some (.int v0)) S0) S 0 0 97 [(0, va_rf r0), (1, .int x1), (3, .int x43), (4, .int x44), (5, .int x45), (6, .int x6), (7, .int x7), (8, .int x46)] [] := by
  intro n
  induction n with
  | zero => intro x43 x44 x45 x46 z h; rw [lX9_next_97] at h; cases h
  | succ n ih =>
    intro x43 x44 x45 x46 z h K
    rw [lX9_next_97] at h
    refine v_iload hC 97 7 dX9_next_97 rfl ?_
    refine v_sipush hC (512 : Int32) 99 dX9_next_99 (by decide) ?_
    refine v_icmp_ge hC 102 188 dX9_next_102 (by decide) (fun c62 => ?_) (fun c62 => ?_)
    · replace h := ifp h c62
      refine v_sub [(0, va_rf r0), (1, .int x1), (3, .int x43), (4, .int x44), (5, .int x45), (6, .int x6)] [0, 1, 2, 3, 4, 5] rfl ?_
      exact K _ _ _ (sp1 h)
    · replace h := ifn h c62
      refine v_iload hC 105 7 dX9_next_105 rfl ?_
      refine v_iload hC 107 6 dX9_next_107 rfl ?_
      refine v_iconst hC (-1 : Int32) 109 dX9_next_109 (by decide) ?_
      refine v_ixor hC 110 dX9_next_110 ?_
      refine v_iand hC 111 dX9_next_111 ?_
      obtain ⟨j182, f182, h⟩ := onm h
      have J182 : ∀ (x47 : Int32) (x48 : Int32) (x49 : Int32), j182 x47 x48 x49 = some z → V g w 10 (Qm g w rmX9_next.cells rmX9_next.slots (some (.int v0)) S0) S 0 0 182 [(0, va_rf r0), (1, .int x1), (3, .int x47), (4, .int x48), (5, .int x49), (6, .int x6), (7, .int x7), (8, .int x46)] [] := by
        intro x47 x48 x49 h
        replace h := jb3 f182 h
        obtain ⟨x50, ex50, h⟩ := onm h
        refine v_iinc hC x50 [(8, .int x50), (0, va_rf r0), (1, .int x1), (3, .int x47), (4, .int x48), (5, .int x49), (6, .int x6), (7, .int x7)] 182 7 dX9_next_182 rfl (by rw [ex50]; rfl) (by decide) rfl ?_
        refine v_goto hC 185 97 dX9_next_185 (by decide) ?_
        refine v_sub [(0, va_rf r0), (1, .int x1), (3, .int x47), (4, .int x48), (5, .int x49), (6, .int x6), (7, .int x7), (8, .int x50)] [1, 2, 3, 4, 5, 6, 7, 0] rfl ?_
        exact ih _ _ _ _ _ h K
      refine v_if_ne hC 112 182 dX9_next_112 (by decide) (fun c61 => ?_) (fun c61 => ?_)
      · replace h := ifp h c61
        refine v_sub [(0, va_rf r0), (1, .int x1), (3, .int x43), (4, .int x44), (5, .int x45), (6, .int x6), (7, .int x7), (8, .int x46)] [0, 1, 2, 3, 4, 5, 6, 7] rfl ?_
        exact J182 _ _ _ h
      · replace h := ifn h (fun q => q c61)
        refine v_iload hC 115 5 dX9_next_115 rfl ?_
        obtain ⟨x51, ex51, h⟩ := obn h
        refine qX9_219 hC rfl 117 ex51 (by decide) (catL (Nat.le_of_ble_eq_true rfl)) (by decide) dX9_next_117 ?_
        refine v_iload hC 120 7 dX9_next_120 rfl ?_
        obtain ⟨x52, ex52, h⟩ := obn h
        refine qX9_219 hC rfl 122 ex52 (by decide) (catL (Nat.le_of_ble_eq_true rfl)) (by decide) dX9_next_122 ?_
        refine v_icmp_ne hC 125 182 dX9_next_125 (by decide) (fun c60 => ?_) (fun c60 => ?_)
        · replace h := ifp h c60
          refine v_sub [(0, va_rf r0), (1, .int x1), (3, .int x43), (4, .int x44), (5, .int x45), (6, .int x6), (7, .int x7), (8, .int x46)] [0, 1, 2, 3, 4, 5, 6, 7] rfl ?_
          exact J182 _ _ _ h
        · replace h := ifn h (fun q => q c60)
          refine v_aload_n hC 128 0 dX9_next_128 rfl ?_
          refine v_iload hC 129 5 dX9_next_129 rfl ?_
          refine v_iload hC 131 7 dX9_next_131 rfl ?_
          obtain ⟨x53, ex53, h⟩ := obn h
          refine qX9_229 hC rfl 133 ex53 (by decide) (catL (Nat.le_of_ble_eq_true rfl)) (by decide) dX9_next_133 ?_
          refine v_istore hC [(9, .int x53), (0, va_rf r0), (1, .int x1), (3, .int x43), (4, .int x44), (5, .int x45), (6, .int x6), (7, .int x7), (8, .int x46)] 136 dX9_next_136 (by decide) rfl ?_
          refine v_iload hC 138 5 dX9_next_138 rfl ?_
          refine v_bipush hC (-9 : Int32) 140 dX9_next_140 (by decide) ?_
          obtain ⟨j171, f171, h⟩ := onm h
          have J171 : ∀ (u9 : Unit), j171 u9 = some z → V g w 10 (Qm g w rmX9_next.cells rmX9_next.slots (some (.int v0)) S0) S 0 0 171 [(0, va_rf r0), (1, .int x1), (6, .int x6), (7, .int x7), (8, .int x46), (9, .int x53)] [] := by
            intro u9 h
            replace h := jb1 f171 h
            refine v_iload hC 171 5 dX9_next_171 rfl ?_
            refine v_istore hC [(5, .int x53), (0, va_rf r0), (1, .int x1), (6, .int x6), (7, .int x7), (8, .int x46), (9, .int x53)] 173 dX9_next_173 (by decide) rfl ?_
            refine v_iload hC 175 3 dX9_next_175 rfl ?_
            refine v_istore_n hC [(3, .int x6), (5, .int x53), (0, va_rf r0), (1, .int x1), (6, .int x6), (7, .int x7), (8, .int x46), (9, .int x53)] 177 dX9_next_177 (by decide) rfl ?_
            refine v_iload hC 178 6 dX9_next_178 rfl ?_
            refine v_istore hC [(4, .int x46), (3, .int x6), (5, .int x53), (0, va_rf r0), (1, .int x1), (6, .int x6), (7, .int x7), (8, .int x46), (9, .int x53)] 180 dX9_next_180 (by decide) rfl ?_
            refine v_sub [(0, va_rf r0), (1, .int x1), (3, .int x6), (4, .int x46), (5, .int x53), (6, .int x6), (7, .int x7), (8, .int x46)] [3, 4, 1, 0, 2, 5, 6, 7] rfl ?_
            exact J182 _ _ _ h
          refine v_icmp_eq hC 142 171 dX9_next_142 (by decide) (fun c59 => ?_) (fun c59 => ?_)
          · replace h := ifp h c59
            refine v_sub [(0, va_rf r0), (1, .int x1), (6, .int x6), (7, .int x7), (8, .int x46), (9, .int x53)] [1, 2, 6, 7, 8, 0] rfl ?_
            exact J171 _ h
          · replace h := ifn h c59
            refine v_iload hC 145 0 dX9_next_145 rfl ?_
            refine v_iload hC 147 5 dX9_next_147 rfl ?_
            refine v_icmp_lt hC 149 171 dX9_next_149 (by decide) (fun c58 => ?_) (fun c58 => ?_)
            · replace h := ifp h c58
              refine v_sub [(0, va_rf r0), (1, .int x1), (6, .int x6), (7, .int x7), (8, .int x46), (9, .int x53)] [1, 2, 6, 7, 8, 0] rfl ?_
              exact J171 _ h
            · replace h := ifn h c58
              refine v_iload hC 152 0 dX9_next_152 rfl ?_
              refine v_iload hC 154 5 dX9_next_154 rfl ?_
              refine v_icmp_ne hC 156 182 dX9_next_156 (by decide) (fun c57 => ?_) (fun c57 => ?_)
              · replace h := ifp h c57
                refine v_sub [(0, va_rf r0), (1, .int x1), (3, .int x43), (4, .int x44), (5, .int x45), (6, .int x6), (7, .int x7), (8, .int x46)] [1, 2, 3, 4, 5, 6, 7, 8] rfl ?_
                exact J182 _ _ _ h
              · replace h := ifn h (fun q => q c57)
                refine v_iload hC 159 6 dX9_next_159 rfl ?_
                obtain ⟨x54, ex54, h⟩ := obn h
                refine qX9_219 hC rfl 161 ex54 (by decide) (catL (Nat.le_of_ble_eq_true rfl)) (by decide) dX9_next_161 ?_
                refine v_iload_n hC 164 3 dX9_next_164 rfl ?_
                obtain ⟨x55, ex55, h⟩ := obn h
                refine qX9_219 hC rfl 165 ex55 (by decide) (catL (Nat.le_of_ble_eq_true rfl)) (by decide) dX9_next_165 ?_
                refine v_icmp_ge hC 168 182 dX9_next_168 (by decide) (fun c56 => ?_) (fun c56 => ?_)
                · replace h := ifp h c56
                  refine v_sub [(0, va_rf r0), (1, .int x1), (3, .int x43), (4, .int x44), (5, .int x45), (6, .int x6), (7, .int x7), (8, .int x46)] [1, 2, 3, 4, 5, 6, 7, 8] rfl ?_
                  exact J182 _ _ _ h
                · replace h := ifn h c56
                  refine v_sub [(0, va_rf r0), (1, .int x1), (6, .int x6), (7, .int x7), (8, .int x46), (9, .int x53)] [1, 2, 6, 7, 8, 0] rfl ?_
                  exact J171 _ h
set_option maxHeartbeats 1000000 in
set_option maxRecDepth 20000 in
theorem kX9_next_76 {g : VG} {w : VW} {N : Nat} {S : pH} {r0 : Option Nat} {x1 : Int32} {v0 : Int32} {S0 : pH} (hC : Cx g yX9_next cX9_next 10 (some .int) rmX9_next w) : ∀ (n : Nat) (x38 : Int32) (x39 : Int32) (x40 : Int32) (x41 : Int32) (z : (Int32 × Int32 × Int32)), lX9_next_76 N S r0 x1 n x38 x39 x40 x41 = some z → (∀ (e0 : Int32) (e1 : Int32) (e2 : Int32), z = (e0, e1, e2) → V g w 10 (Qm g w rmX9_next.cells rmX9_next.slots (some (.int v0)) S0) S 0 0 194 [(1, .int x1), (3, .int e0), (4, .int e1), (5, .int e2)] []) → V g w 10 (Qm g w rmX9_next.cells rmX9_next.slots (some (.int v0)) S0) S 0 0 76 [(0, va_rf r0), (1, .int x1), (3, .int x38), (4, .int x39), (5, .int x40), (6, .int x41)] [] := by
  intro n
  induction n with
  | zero => intro x38 x39 x40 x41 z h; rw [lX9_next_76] at h; cases h
  | succ n ih =>
    intro x38 x39 x40 x41 z h K
    rw [lX9_next_76] at h
    refine v_iload hC 76 5 dX9_next_76 rfl ?_
    refine v_sipush hC (512 : Int32) 78 dX9_next_78 (by decide) ?_
    refine v_icmp_ge hC 81 194 dX9_next_81 (by decide) (fun c67 => ?_) (fun c67 => ?_)
    · replace h := ifp h c67
      refine v_sub [(1, .int x1), (3, .int x38), (4, .int x39), (5, .int x40)] [1, 2, 3, 4] rfl ?_
      exact K _ _ _ (sp1 h)
    · replace h := ifn h c67
      refine v_sipush hC (511 : Int32) 84 dX9_next_84 (by decide) ?_
      refine v_iload hC 87 5 dX9_next_87 rfl ?_
      refine v_iconst hC (-1 : Int32) 89 dX9_next_89 (by decide) ?_
      refine v_ixor hC 90 dX9_next_90 ?_
      refine v_iand hC 91 dX9_next_91 ?_
      obtain ⟨x42, ex42, h⟩ := onm h
      refine v_topi x42 ex42 ?_
      refine v_istore hC [(7, .int x42), (0, va_rf r0), (1, .int x1), (3, .int x38), (4, .int x39), (5, .int x40), (6, .int x41)] 92 dX9_next_92 (by decide) rfl ?_
      refine v_iconst hC (1 : Int32) 94 dX9_next_94 (by decide) ?_
      refine v_istore hC [(8, .int (1 : Int32)), (7, .int x42), (0, va_rf r0), (1, .int x1), (3, .int x38), (4, .int x39), (5, .int x40), (6, .int x41)] 95 dX9_next_95 (by decide) rfl ?_
      obtain ⟨x63, x64, x65, E97, h⟩ := ob3 h
      refine v_sub [(0, va_rf r0), (1, .int x1), (3, .int x38), (4, .int x39), (5, .int x40), (6, .int x41), (7, .int x42), (8, .int (1 : Int32))] [2, 3, 4, 5, 6, 7, 1, 0] rfl ?_
      refine kX9_next_97 hC _ _ _ _ _ _ E97 (fun _ _ _ hz9 => ?_)
      cases hz9
      obtain ⟨x66, ex66, h⟩ := onm h
      refine v_iinc hC x66 [(6, .int x66), (0, va_rf r0), (1, .int x1), (3, .int x63), (4, .int x64), (5, .int x65)] 188 5 dX9_next_188 rfl (by rw [ex66]; rfl) (by decide) rfl ?_
      refine v_goto hC 191 76 dX9_next_191 (by decide) ?_
      refine v_sub [(0, va_rf r0), (1, .int x1), (3, .int x63), (4, .int x64), (5, .int x65), (6, .int x66)] [1, 2, 3, 4, 5, 0] rfl ?_
      exact ih _ _ _ _ _ h K
set_option maxHeartbeats 1000000 in
set_option maxRecDepth 20000 in
theorem tX9_next {l : Launch} {w : VW} {N : Nat} {S : pH} {r0 : Option Nat} {x1 : Int32} {v0 : Int32} {S0 : pH} (h : fX9_next N S r0 x1 = some (v0, S0)) : CT l w yX9_next cX9_next 10 (some .int) rmX9_next [va_rf r0, .int x1] S (some (.int v0)) S0 := by
  refine v_entry [(0, va_rf r0), (1, .int x1)] (by decide) (by simp [lg_sl, cat_rf, cat_i, cat_j]) (by simp [lv_args, cat_rf, cat_i, cat_j]) (fun g _ hC => ?_)
  unfold fX9_next at h
  obtain ⟨hO, h⟩ := chk_spec h
  refine v_iload_n hC 0 1 dX9_next_0 rfl ?_
  refine v_iconst hC (0 : Int32) 1 dX9_next_1 (by decide) ?_
  refine v_iconst hC (2 : Int32) 2 dX9_next_2 (by decide) ?_
  obtain ⟨x21, ex21, h⟩ := obn h
  refine qX9_97 hC rfl 3 ex21 (by decide) (catL (Nat.le_of_ble_eq_true rfl)) (by decide) dX9_next_3 ?_
  refine v_if_ne hC 6 11 dX9_next_6 (by decide) (fun c74 => ?_) (fun c74 => ?_)
  · replace h := ifp h c74
    refine v_iconst hC (0 : Int32) 11 dX9_next_11 (by decide) ?_
    refine v_istore_n hC [(2, .int (0 : Int32)), (0, va_rf r0), (1, .int x1)] 12 dX9_next_12 (by decide) rfl ?_
    refine v_iconst hC (0 : Int32) 13 dX9_next_13 (by decide) ?_
    refine v_istore_n hC [(3, .int (0 : Int32)), (2, .int (0 : Int32)), (0, va_rf r0), (1, .int x1)] 14 dX9_next_14 (by decide) rfl ?_
    obtain ⟨x36, S37, E15, h⟩ := ob2 h
    refine v_sub [(0, va_rf r0), (1, .int x1), (2, .int (0 : Int32)), (3, .int (0 : Int32))] [2, 3, 1, 0] rfl ?_
    refine kX9_next_15 hC _ _ _ _ _ E15 (fun _ _ hz9 => ?_)
    cases hz9
    refine v_iload_n hC 55 2 dX9_next_55 rfl ?_
    refine v_if_ne hC 56 62 dX9_next_56 (by decide) (fun c73 => ?_) (fun c73 => ?_)
    · replace h := ifp h c73
      refine v_bipush hC (-9 : Int32) 62 dX9_next_62 (by decide) ?_
      refine v_istore_n hC [(3, .int (-9 : Int32)), (0, va_rf r0), (1, .int x1), (2, .int x36)] 64 dX9_next_64 (by decide) rfl ?_
      refine v_bipush hC (-9 : Int32) 65 dX9_next_65 (by decide) ?_
      refine v_istore hC [(4, .int (-9 : Int32)), (3, .int (-9 : Int32)), (0, va_rf r0), (1, .int x1), (2, .int x36)] 67 dX9_next_67 (by decide) rfl ?_
      refine v_bipush hC (-9 : Int32) 69 dX9_next_69 (by decide) ?_
      refine v_istore hC [(5, .int (-9 : Int32)), (4, .int (-9 : Int32)), (3, .int (-9 : Int32)), (0, va_rf r0), (1, .int x1), (2, .int x36)] 71 dX9_next_71 (by decide) rfl ?_
      refine v_iconst hC (1 : Int32) 73 dX9_next_73 (by decide) ?_
      refine v_istore hC [(6, .int (1 : Int32)), (5, .int (-9 : Int32)), (4, .int (-9 : Int32)), (3, .int (-9 : Int32)), (0, va_rf r0), (1, .int x1), (2, .int x36)] 74 dX9_next_74 (by decide) rfl ?_
      obtain ⟨x68, x69, x70, E76, h⟩ := ob3 h
      refine v_sub [(0, va_rf r0), (1, .int x1), (3, .int (-9 : Int32)), (4, .int (-9 : Int32)), (5, .int (-9 : Int32)), (6, .int (1 : Int32))] [4, 5, 3, 2, 1, 0] rfl ?_
      refine kX9_next_76 hC _ _ _ _ _ _ E76 (fun _ _ _ hz9 => ?_)
      cases hz9
      refine v_iload_n hC 194 0 dX9_next_194 rfl ?_
      refine v_if_ne hC 195 202 dX9_next_195 (by decide) (fun c72 => ?_) (fun c72 => ?_)
      · replace h := ifp h c72
        refine v_iload_n hC 202 0 dX9_next_202 rfl ?_
        refine v_iconst hC (1 : Int32) 203 dX9_next_203 (by decide) ?_
        refine v_icmp_ne hC 204 212 dX9_next_204 (by decide) (fun c71 => ?_) (fun c71 => ?_)
        · replace h := ifp h c71
          refine v_iload hC 212 3 dX9_next_212 rfl ?_
          obtain ⟨rfl, rfl⟩ := sp2 h
          exact v_iret hC 214 (by decide) (by decide) dX9_next_214
        · replace h := ifn h (fun q => q c71)
          refine v_iload hC 207 2 dX9_next_207 rfl ?_
          refine v_goto hC 209 214 dX9_next_209 (by decide) ?_
          obtain ⟨rfl, rfl⟩ := sp2 h
          exact v_iret hC 214 (by decide) (by decide) dX9_next_214
      · replace h := ifn h (fun q => q c72)
        refine v_iload_n hC 198 1 dX9_next_198 rfl ?_
        refine v_goto hC 199 214 dX9_next_199 (by decide) ?_
        obtain ⟨rfl, rfl⟩ := sp2 h
        exact v_iret hC 214 (by decide) (by decide) dX9_next_214
    · replace h := ifn h (fun q => q c73)
      refine v_bipush hC (-2 : Int32) 59 dX9_next_59 (by decide) ?_
      obtain ⟨rfl, rfl⟩ := sp2 h
      exact v_iret hC 61 (by decide) (by decide) dX9_next_61
  · replace h := ifn h (fun q => q c74)
    refine v_iconst hC (-1 : Int32) 9 dX9_next_9 (by decide) ?_
    obtain ⟨rfl, rfl⟩ := sp2 h
    exact v_iret hC 10 (by decide) (by decide) dX9_next_10
abbrev rmX9_order : Room := { frames := 1, cells := 0, slots := 0, locals := 22 }
theorem hdX9_order : yX9_order.cls ≠ "java/lang/invoke/MethodHandle" ∧ yX9_order.cls ≠ "java/lang/invoke/VarHandle" ∧ (parseMethodDescriptor yX9_order.desc).map (fun d => d.parameters.length) = some 1 := by decide +kernel
def fX9_order (N : Nat) (S : pH) (r0 : Option Nat) (x1 : Int32) : Option (Int32 × pH) :=
  chk S 9 r0 <|
  (fX9_in N S x1 (1 : Int32) (99 : Int32)).bind fun x21 =>
  if ¬ x21 = 0 then
  ((gfI S 9 16 r0).bind fun x22 =>
  if ¬ x22 = (8 : Int32) then
  ((gfR S 9 17 r0).bind fun r23 =>
  (gfI S 9 16 r0).bind fun x24 =>
  (stI S r23 x24 x1).bind fun S25 =>
  (gfI S25 9 16 r0).bind fun x26 =>
  (pfV S25 9 16 r0 (.int (x26 + (1 : Int32)))).bind fun S27 =>
  (gfI S27 9 16 r0).bind fun x28 =>
  some (x28, S27))
  else
  some ((-3 : Int32), S))
  else
  some ((-1 : Int32), S)
theorem oX9_order {N : Nat} {S : pH} {r0 : Option Nat} {x1 : Int32} {z : Int32 × pH} (h : fX9_order N S r0 x1 = some z) : ∃ fs, obj S 9 r0 = some fs := by
  unfold fX9_order at h
  exact (chk_spec h).1
set_option maxHeartbeats 1000000 in
set_option maxRecDepth 20000 in
theorem tX9_order {l : Launch} {w : VW} {N : Nat} {S : pH} {r0 : Option Nat} {x1 : Int32} {v0 : Int32} {S0 : pH} (h : fX9_order N S r0 x1 = some (v0, S0)) : CT l w yX9_order cX9_order 2 (some .int) rmX9_order [va_rf r0, .int x1] S (some (.int v0)) S0 := by
  refine v_entry [(0, va_rf r0), (1, .int x1)] (by decide) (by simp [lg_sl, cat_rf, cat_i, cat_j]) (by simp [lv_args, cat_rf, cat_i, cat_j]) (fun g _ hC => ?_)
  unfold fX9_order at h
  obtain ⟨hO, h⟩ := chk_spec h
  refine v_iload_n hC 0 1 dX9_order_0 rfl ?_
  refine v_iconst hC (1 : Int32) 1 dX9_order_1 (by decide) ?_
  refine v_bipush hC (99 : Int32) 2 dX9_order_2 (by decide) ?_
  obtain ⟨x21, ex21, h⟩ := obn h
  refine qX9_97 hC rfl 4 ex21 (by decide) (catL (Nat.le_of_ble_eq_true rfl)) (by decide) dX9_order_4 ?_
  refine v_if_ne hC 7 12 dX9_order_7 (by decide) (fun c30 => ?_) (fun c30 => ?_)
  · replace h := ifp h c30
    refine v_aload_n hC 12 0 dX9_order_12 rfl ?_
    obtain ⟨x22, ex22, h⟩ := obn h
    refine gRX9_204 hC rfl 13 ex22 dX9_order_13 ?_
    refine v_bipush hC (8 : Int32) 16 dX9_order_16 (by decide) ?_
    refine v_icmp_ne hC 18 24 dX9_order_18 (by decide) (fun c29 => ?_) (fun c29 => ?_)
    · replace h := ifp h c29
      refine v_aload_n hC 24 0 dX9_order_24 rfl ?_
      obtain ⟨r23, er23, h⟩ := obn h
      refine gRX9_57 hC rfl 25 er23 dX9_order_25 ?_
      refine v_aload_n hC 28 0 dX9_order_28 rfl ?_
      obtain ⟨x24, ex24, h⟩ := obn h
      refine gRX9_204 hC rfl 29 ex24 dX9_order_29 ?_
      refine v_iload_n hC 32 1 dX9_order_32 rfl ?_
      obtain ⟨S25, eS25, h⟩ := obn h
      refine v_iast hC 33 eS25 dX9_order_33 ?_
      refine v_aload_n hC 34 0 dX9_order_34 rfl ?_
      refine v_dup hC 35 (cat_rf _) dX9_order_35 ?_
      obtain ⟨x26, ex26, h⟩ := obn h
      refine gRX9_204 hC rfl 36 ex26 dX9_order_36 ?_
      refine v_iconst hC (1 : Int32) 39 dX9_order_39 (by decide) ?_
      refine v_iadd hC 40 dX9_order_40 ?_
      obtain ⟨S27, eS27, h⟩ := obn h
      refine pRX9_204 hC rfl 41 eS27 dX9_order_41 ?_
      refine v_aload_n hC 44 0 dX9_order_44 rfl ?_
      obtain ⟨x28, ex28, h⟩ := obn h
      refine gRX9_204 hC rfl 45 ex28 dX9_order_45 ?_
      obtain ⟨rfl, rfl⟩ := sp2 h
      exact v_iret hC 48 (by decide) (by decide) dX9_order_48
    · replace h := ifn h (fun q => q c29)
      refine v_bipush hC (-3 : Int32) 21 dX9_order_21 (by decide) ?_
      obtain ⟨rfl, rfl⟩ := sp2 h
      exact v_iret hC 23 (by decide) (by decide) dX9_order_23
  · replace h := ifn h (fun q => q c30)
    refine v_iconst hC (-1 : Int32) 10 dX9_order_10 (by decide) ?_
    obtain ⟨rfl, rfl⟩ := sp2 h
    exact v_iret hC 11 (by decide) (by decide) dX9_order_11
set_option maxRecDepth 20000 in
theorem qX9_178 {g : VG} {w : VW} {nL : Nat} {Q : State → Prop} {S : pH} {kc ks : Nat} {lv : List (Nat × Value)} {rest : List Value} {y : MethodName} {cc : ByteArray} {rt : Option FieldType} {rm : Room} (hC : Cx g y cc nL rt rm w) (hy : y.cls = RX9) (pc : Nat) {N : Nat} {r0 : Option Nat} {x1 : Int32} {x2 : Int32} {x3 : Int32} {v0 : Int32} (h : fX9_isTurned N S r0 x1 x2 x3 = some v0) (hR : rmX9_isTurned.frames + 1 ≤ rm.frames ∧ 8 + (13 + 11) + rmX9_isTurned.locals ≤ rm.locals) (hst : (rest.map fun v => v.category).sum ≤ 8) (hf : kc + 0 ≤ rm.cells ∧ ks + 0 ≤ rm.slots) (d : decode cc pc = .ok (.invokevirtual 178, 3)) (K : V g w nL Q S kc ks (pc + 3) lv (.int v0 :: rest)) : V g w nL Q S kc ks pc lv (.int x3 :: .int x2 :: .int x1 :: va_rf r0 :: rest) := by
  obtain ⟨fs, ho⟩ := oX9_isTurned h
  exact v_callV (As := [.int x1, .int x2, .int x3]) (rest := rest) (ci := 9) hC pc (tX9_isTurned (l := g.2.1) (w := w) h) rfl (by decide) ho wG646 (by rw [hy]; exact wG645) wG647 wG648 wG542 hdX9_isTurned rfl hR hst hf d K
abbrev rmX9_unlikeOf : Room := { frames := 2, cells := 0, slots := 0, locals := 55 }
theorem hdX9_unlikeOf : yX9_unlikeOf.cls ≠ "java/lang/invoke/MethodHandle" ∧ yX9_unlikeOf.cls ≠ "java/lang/invoke/VarHandle" ∧ (parseMethodDescriptor yX9_unlikeOf.desc).map (fun d => d.parameters.length) = some 1 := by decide +kernel
def lX9_unlikeOf_26 (N : Nat) (S : pH) (r0 : Option Nat) (x1 : Int32) (x2 : Int32) (x3 : Int32) (x4 : Int32) : Nat → Int32 → Int32 → Option (Int32)
  | 0, _, _ => none
  | n + 1, x26, x27 =>
    if x4 ≤ x27 then
    (some x26)
    else
    nm (fun (x28 : Int32) =>
    nm (x27 + (1 : Int32)) fun x29 =>
    lX9_unlikeOf_26 N S r0 x1 x2 x3 x4 n x28 x29) fun j55 =>
    nm (fun (_ : Unit) =>
    j55 (1 : Int32)) fun j50 =>
    if ¬ x26 = 0 then
    (j50 ())
    else
    (fX9_isTurned N S r0 x1 x4 x27).bind fun x30 =>
    if x30 = 0 then
    (j55 (0 : Int32))
    else
    j50 ()
def lX9_unlikeOf_12 (N : Nat) (S : pH) (r0 : Option Nat) (x1 : Int32) (x2 : Int32) : Nat → Int32 → Int32 → Option (Int32)
  | 0, _, _ => none
  | n + 1, x24, x25 =>
    if (x2 * x2) ≤ x25 then
    (some x24)
    else
    (lX9_unlikeOf_26 N S r0 x1 x2 x24 x25 N (0 : Int32) (0 : Int32)).bind fun x34 =>
    nm (fun (x35 : Int32) (x36 : Int32) =>
    nm (x35 + x36) fun x37 =>
    nm (x25 + (1 : Int32)) fun x38 =>
    lX9_unlikeOf_12 N S r0 x1 x2 n x37 x38) fun j74 =>
    if x34 = 0 then
    (j74 x24 (1 : Int32))
    else
    j74 x24 (0 : Int32)
def fX9_unlikeOf (N : Nat) (S : pH) (r0 : Option Nat) (x1 : Int32) : Option (Int32) :=
  chk S 9 r0 <|
  (gfI S 9 8 r0).bind fun x21 =>
  if x1 = 0 then none else
  nm (x21 / x1) fun x23 =>
  (lX9_unlikeOf_12 N S r0 x1 x23 N (0 : Int32) (0 : Int32)).bind fun x41 =>
  some x41
theorem oX9_unlikeOf {N : Nat} {S : pH} {r0 : Option Nat} {x1 : Int32} {z : Int32} (h : fX9_unlikeOf N S r0 x1 = some z) : ∃ fs, obj S 9 r0 = some fs := by
  unfold fX9_unlikeOf at h
  exact (chk_spec h).1
set_option maxHeartbeats 1000000 in
set_option maxRecDepth 20000 in
theorem kX9_unlikeOf_26 {g : VG} {w : VW} {N : Nat} {S : pH} {r0 : Option Nat} {x1 : Int32} {x2 : Int32} {x3 : Int32} {x4 : Int32} {v0 : Int32} (hC : Cx g yX9_unlikeOf cX9_unlikeOf 7 (some .int) rmX9_unlikeOf w) : ∀ (n : Nat) (x26 : Int32) (x27 : Int32) (z : (Int32)), lX9_unlikeOf_26 N S r0 x1 x2 x3 x4 n x26 x27 = some z → (∀ (e0 : Int32), z = e0 → V g w 7 (Qm g w rmX9_unlikeOf.cells rmX9_unlikeOf.slots (some (.int v0)) S) S 0 0 63 [(0, va_rf r0), (1, .int x1), (2, .int x2), (3, .int x3), (4, .int x4), (5, .int e0)] []) → V g w 7 (Qm g w rmX9_unlikeOf.cells rmX9_unlikeOf.slots (some (.int v0)) S) S 0 0 26 [(0, va_rf r0), (1, .int x1), (2, .int x2), (3, .int x3), (4, .int x4), (5, .int x26), (6, .int x27)] [] := by
  intro n
  induction n with
  | zero => intro x26 x27 z h; rw [lX9_unlikeOf_26] at h; cases h
  | succ n ih =>
    intro x26 x27 z h K
    rw [lX9_unlikeOf_26] at h
    refine v_iload hC 26 6 dX9_unlikeOf_26 rfl ?_
    refine v_iload hC 28 4 dX9_unlikeOf_28 rfl ?_
    refine v_icmp_ge hC 30 63 dX9_unlikeOf_30 (by decide) (fun c33 => ?_) (fun c33 => ?_)
    · replace h := ifp h c33
      refine v_sub [(0, va_rf r0), (1, .int x1), (2, .int x2), (3, .int x3), (4, .int x4), (5, .int x26)] [0, 1, 2, 3, 4, 5] rfl ?_
      exact K _ (sp1 h)
    · replace h := ifn h c33
      refine v_iload hC 33 5 dX9_unlikeOf_33 rfl ?_
      obtain ⟨j55, f55, h⟩ := onm h
      have J55 : ∀ (x28 : Int32), j55 x28 = some z → V g w 7 (Qm g w rmX9_unlikeOf.cells rmX9_unlikeOf.slots (some (.int v0)) S) S 0 0 55 [(0, va_rf r0), (1, .int x1), (2, .int x2), (3, .int x3), (4, .int x4), (6, .int x27)] [.int x28] := by
        intro x28 h
        replace h := jb1 f55 h
        refine v_istore hC [(5, .int x28), (0, va_rf r0), (1, .int x1), (2, .int x2), (3, .int x3), (4, .int x4), (6, .int x27)] 55 dX9_unlikeOf_55 (by decide) rfl ?_
        obtain ⟨x29, ex29, h⟩ := onm h
        refine v_iinc hC x29 [(6, .int x29), (5, .int x28), (0, va_rf r0), (1, .int x1), (2, .int x2), (3, .int x3), (4, .int x4)] 57 6 dX9_unlikeOf_57 rfl (by rw [ex29]; rfl) (by decide) rfl ?_
        refine v_goto hC 60 26 dX9_unlikeOf_60 (by decide) ?_
        refine v_sub [(0, va_rf r0), (1, .int x1), (2, .int x2), (3, .int x3), (4, .int x4), (5, .int x28), (6, .int x29)] [2, 3, 4, 5, 6, 1, 0] rfl ?_
        exact ih _ _ _ h K
      obtain ⟨j50, f50, h⟩ := onm h
      have J50 : ∀ (u9 : Unit), j50 u9 = some z → V g w 7 (Qm g w rmX9_unlikeOf.cells rmX9_unlikeOf.slots (some (.int v0)) S) S 0 0 50 [(0, va_rf r0), (1, .int x1), (2, .int x2), (3, .int x3), (4, .int x4), (6, .int x27)] [] := by
        intro u9 h
        replace h := jb1 f50 h
        refine v_iconst hC (1 : Int32) 50 dX9_unlikeOf_50 (by decide) ?_
        refine v_goto hC 51 55 dX9_unlikeOf_51 (by decide) ?_
        refine v_sub [(0, va_rf r0), (1, .int x1), (2, .int x2), (3, .int x3), (4, .int x4), (6, .int x27)] [0, 1, 2, 3, 4, 5] rfl ?_
        exact J55 _ h
      refine v_if_ne hC 35 50 dX9_unlikeOf_35 (by decide) (fun c32 => ?_) (fun c32 => ?_)
      · replace h := ifp h c32
        refine v_sub [(0, va_rf r0), (1, .int x1), (2, .int x2), (3, .int x3), (4, .int x4), (6, .int x27)] [0, 1, 2, 3, 4, 6] rfl ?_
        exact J50 _ h
      · replace h := ifn h (fun q => q c32)
        refine v_aload_n hC 38 0 dX9_unlikeOf_38 rfl ?_
        refine v_iload_n hC 39 1 dX9_unlikeOf_39 rfl ?_
        refine v_iload hC 40 4 dX9_unlikeOf_40 rfl ?_
        refine v_iload hC 42 6 dX9_unlikeOf_42 rfl ?_
        obtain ⟨x30, ex30, h⟩ := obn h
        refine qX9_178 hC rfl 44 ex30 (by decide) (catL (Nat.le_of_ble_eq_true rfl)) (by decide) dX9_unlikeOf_44 ?_
        refine v_if_eq hC 47 54 dX9_unlikeOf_47 (by decide) (fun c31 => ?_) (fun c31 => ?_)
        · replace h := ifp h c31
          refine v_iconst hC (0 : Int32) 54 dX9_unlikeOf_54 (by decide) ?_
          refine v_sub [(0, va_rf r0), (1, .int x1), (2, .int x2), (3, .int x3), (4, .int x4), (6, .int x27)] [0, 1, 2, 3, 4, 6] rfl ?_
          exact J55 _ h
        · replace h := ifn h c31
          refine v_sub [(0, va_rf r0), (1, .int x1), (2, .int x2), (3, .int x3), (4, .int x4), (6, .int x27)] [0, 1, 2, 3, 4, 6] rfl ?_
          exact J50 _ h
set_option maxHeartbeats 1000000 in
set_option maxRecDepth 20000 in
theorem kX9_unlikeOf_12 {g : VG} {w : VW} {N : Nat} {S : pH} {r0 : Option Nat} {x1 : Int32} {x2 : Int32} {v0 : Int32} (hC : Cx g yX9_unlikeOf cX9_unlikeOf 7 (some .int) rmX9_unlikeOf w) : ∀ (n : Nat) (x24 : Int32) (x25 : Int32) (z : (Int32)), lX9_unlikeOf_12 N S r0 x1 x2 n x24 x25 = some z → (∀ (e0 : Int32), z = e0 → V g w 7 (Qm g w rmX9_unlikeOf.cells rmX9_unlikeOf.slots (some (.int v0)) S) S 0 0 82 [(3, .int e0)] []) → V g w 7 (Qm g w rmX9_unlikeOf.cells rmX9_unlikeOf.slots (some (.int v0)) S) S 0 0 12 [(0, va_rf r0), (1, .int x1), (2, .int x2), (3, .int x24), (4, .int x25)] [] := by
  intro n
  induction n with
  | zero => intro x24 x25 z h; rw [lX9_unlikeOf_12] at h; cases h
  | succ n ih =>
    intro x24 x25 z h K
    rw [lX9_unlikeOf_12] at h
    refine v_iload hC 12 4 dX9_unlikeOf_12 rfl ?_
    refine v_iload_n hC 14 2 dX9_unlikeOf_14 rfl ?_
    refine v_iload_n hC 15 2 dX9_unlikeOf_15 rfl ?_
    refine v_imul hC 16 dX9_unlikeOf_16 ?_
    refine v_icmp_ge hC 17 82 dX9_unlikeOf_17 (by decide) (fun c40 => ?_) (fun c40 => ?_)
    · replace h := ifp h c40
      refine v_sub [(3, .int x24)] [3] rfl ?_
      exact K _ (sp1 h)
    · replace h := ifn h c40
      refine v_iconst hC (0 : Int32) 20 dX9_unlikeOf_20 (by decide) ?_
      refine v_istore hC [(5, .int (0 : Int32)), (0, va_rf r0), (1, .int x1), (2, .int x2), (3, .int x24), (4, .int x25)] 21 dX9_unlikeOf_21 (by decide) rfl ?_
      refine v_iconst hC (0 : Int32) 23 dX9_unlikeOf_23 (by decide) ?_
      refine v_istore hC [(6, .int (0 : Int32)), (5, .int (0 : Int32)), (0, va_rf r0), (1, .int x1), (2, .int x2), (3, .int x24), (4, .int x25)] 24 dX9_unlikeOf_24 (by decide) rfl ?_
      obtain ⟨x34, E26, h⟩ := obn h
      refine v_sub [(0, va_rf r0), (1, .int x1), (2, .int x2), (3, .int x24), (4, .int x25), (5, .int (0 : Int32)), (6, .int (0 : Int32))] [2, 3, 4, 5, 6, 1, 0] rfl ?_
      refine kX9_unlikeOf_26 hC _ _ _ _ E26 (fun _ hz9 => ?_)
      cases hz9
      refine v_iload_n hC 63 3 dX9_unlikeOf_63 rfl ?_
      refine v_iload hC 64 5 dX9_unlikeOf_64 rfl ?_
      obtain ⟨j74, f74, h⟩ := onm h
      have J74 : ∀ (x35 : Int32) (x36 : Int32), j74 x35 x36 = some z → V g w 7 (Qm g w rmX9_unlikeOf.cells rmX9_unlikeOf.slots (some (.int v0)) S) S 0 0 74 [(0, va_rf r0), (1, .int x1), (2, .int x2), (4, .int x25)] [.int x36, .int x35] := by
        intro x35 x36 h
        replace h := jb2 f74 h
        refine v_iadd hC 74 dX9_unlikeOf_74 ?_
        obtain ⟨x37, ex37, h⟩ := onm h
        refine v_topi x37 ex37 ?_
        refine v_istore_n hC [(3, .int x37), (0, va_rf r0), (1, .int x1), (2, .int x2), (4, .int x25)] 75 dX9_unlikeOf_75 (by decide) rfl ?_
        obtain ⟨x38, ex38, h⟩ := onm h
        refine v_iinc hC x38 [(4, .int x38), (3, .int x37), (0, va_rf r0), (1, .int x1), (2, .int x2)] 76 4 dX9_unlikeOf_76 rfl (by rw [ex38]; rfl) (by decide) rfl ?_
        refine v_goto hC 79 12 dX9_unlikeOf_79 (by decide) ?_
        refine v_sub [(0, va_rf r0), (1, .int x1), (2, .int x2), (3, .int x37), (4, .int x38)] [2, 3, 4, 1, 0] rfl ?_
        exact ih _ _ _ h K
      refine v_if_eq hC 66 73 dX9_unlikeOf_66 (by decide) (fun c39 => ?_) (fun c39 => ?_)
      · replace h := ifp h c39
        refine v_iconst hC (1 : Int32) 73 dX9_unlikeOf_73 (by decide) ?_
        refine v_sub [(0, va_rf r0), (1, .int x1), (2, .int x2), (4, .int x25)] [0, 1, 2, 4] rfl ?_
        exact J74 _ _ h
      · replace h := ifn h c39
        refine v_iconst hC (0 : Int32) 69 dX9_unlikeOf_69 (by decide) ?_
        refine v_goto hC 70 74 dX9_unlikeOf_70 (by decide) ?_
        refine v_sub [(0, va_rf r0), (1, .int x1), (2, .int x2), (4, .int x25)] [0, 1, 2, 4] rfl ?_
        exact J74 _ _ h
set_option maxHeartbeats 1000000 in
set_option maxRecDepth 20000 in
theorem tX9_unlikeOf {l : Launch} {w : VW} {N : Nat} {S : pH} {r0 : Option Nat} {x1 : Int32} {v0 : Int32} (h : fX9_unlikeOf N S r0 x1 = some v0) : CT l w yX9_unlikeOf cX9_unlikeOf 7 (some .int) rmX9_unlikeOf [va_rf r0, .int x1] S (some (.int v0)) S := by
  refine v_entry [(0, va_rf r0), (1, .int x1)] (by decide) (by simp [lg_sl, cat_rf, cat_i, cat_j]) (by simp [lv_args, cat_rf, cat_i, cat_j]) (fun g _ hC => ?_)
  unfold fX9_unlikeOf at h
  obtain ⟨hO, h⟩ := chk_spec h
  refine v_aload_n hC 0 0 dX9_unlikeOf_0 rfl ?_
  obtain ⟨x21, ex21, h⟩ := obn h
  refine gRX9_31 hC rfl 1 ex21 dX9_unlikeOf_1 ?_
  refine v_iload_n hC 4 1 dX9_unlikeOf_4 rfl ?_
  have c22 : ¬ x1 = 0 := fun q => absurd (ifp h q) (by simp)
  replace h := ifn h c22
  refine v_idiv hC 5 c22 dX9_unlikeOf_5 ?_
  obtain ⟨x23, ex23, h⟩ := onm h
  refine v_topi x23 ex23 ?_
  refine v_istore_n hC [(2, .int x23), (0, va_rf r0), (1, .int x1)] 6 dX9_unlikeOf_6 (by decide) rfl ?_
  refine v_iconst hC (0 : Int32) 7 dX9_unlikeOf_7 (by decide) ?_
  refine v_istore_n hC [(3, .int (0 : Int32)), (2, .int x23), (0, va_rf r0), (1, .int x1)] 8 dX9_unlikeOf_8 (by decide) rfl ?_
  refine v_iconst hC (0 : Int32) 9 dX9_unlikeOf_9 (by decide) ?_
  refine v_istore hC [(4, .int (0 : Int32)), (3, .int (0 : Int32)), (2, .int x23), (0, va_rf r0), (1, .int x1)] 10 dX9_unlikeOf_10 (by decide) rfl ?_
  obtain ⟨x41, E12, h⟩ := obn h
  refine v_sub [(0, va_rf r0), (1, .int x1), (2, .int x23), (3, .int (0 : Int32)), (4, .int (0 : Int32))] [3, 4, 2, 1, 0] rfl ?_
  refine kX9_unlikeOf_12 hC _ _ _ _ E12 (fun _ hz9 => ?_)
  cases hz9
  refine v_iload_n hC 82 0 dX9_unlikeOf_82 rfl ?_
  obtain rfl := sp1 h
  exact v_iret hC 83 (by decide) (by decide) dX9_unlikeOf_83
set_option maxRecDepth 20000 in
theorem qX9_181 {g : VG} {w : VW} {nL : Nat} {Q : State → Prop} {S : pH} {kc ks : Nat} {lv : List (Nat × Value)} {rest : List Value} {y : MethodName} {cc : ByteArray} {rt : Option FieldType} {rm : Room} (hC : Cx g y cc nL rt rm w) (hy : y.cls = RX9) (pc : Nat) {N : Nat} {r0 : Option Nat} {x1 : Int32} {v0 : Int32} (h : fX9_unlikeOf N S r0 x1 = some v0) (hR : rmX9_unlikeOf.frames + 1 ≤ rm.frames ∧ 8 + (7 + 11) + rmX9_unlikeOf.locals ≤ rm.locals) (hst : (rest.map fun v => v.category).sum ≤ 8) (hf : kc + 0 ≤ rm.cells ∧ ks + 0 ≤ rm.slots) (d : decode cc pc = .ok (.invokevirtual 181, 3)) (K : V g w nL Q S kc ks (pc + 3) lv (.int v0 :: rest)) : V g w nL Q S kc ks pc lv (.int x1 :: va_rf r0 :: rest) := by
  obtain ⟨fs, ho⟩ := oX9_unlikeOf h
  exact v_callV (As := [.int x1]) (rest := rest) (ci := 9) hC pc (tX9_unlikeOf (l := g.2.1) (w := w) h) rfl (by decide) ho wG650 (by rw [hy]; exact wG649) wG651 wG652 wG542 hdX9_unlikeOf rfl hR hst hf d K
abbrev rmX9_plan : Room := { frames := 3, cells := 0, slots := 0, locals := 81 }
theorem hdX9_plan : yX9_plan.cls ≠ "java/lang/invoke/MethodHandle" ∧ yX9_plan.cls ≠ "java/lang/invoke/VarHandle" ∧ (parseMethodDescriptor yX9_plan.desc).map (fun d => d.parameters.length) = some 2 := by decide +kernel
def lX9_plan_51 (N : Nat) (S : pH) (r0 : Option Nat) (x1 : Int32) (x2 : Int32) (x3 : Int32) (x4 : Int32) (x5 : Int32) : Nat → Int32 → Int32 → Int32 → Option (Int32 × Int32)
  | 0, _, _, _ => none
  | n + 1, x28, x29, x30 =>
    if (4 : Int32) ≤ x30 then
    (some (x28, x29))
    else
    nm (fun (x31 : Int32) =>
    nm (fun (x32 : Int32) (x33 : Int32) =>
    nm (x32 + x33) fun x34 =>
    nm (fun (x35 : Int32) (x36 : Int32) =>
    nm (x35 + x36) fun x37 =>
    nm (x30 + (1 : Int32)) fun x38 =>
    lX9_plan_51 N S r0 x1 x2 x3 x4 x5 n x34 x37 x38) fun j125 =>
    nm (fun (x39 : Int32) =>
    j125 x39 (0 : Int32)) fun j124 =>
    if x31 = 0 then
    (j124 x29)
    else
    if x30 ≤ 0 then
    (j124 x29)
    else
    (fX9_unlikeOf N S r0 ((1 : Int32) <<< (x30 &&& 31))).bind fun x40 =>
    j125 x29 x40) fun j98 =>
    nm (fun (x43 : Int32) =>
    j98 x43 (0 : Int32)) fun j97 =>
    if x31 = 0 then
    (j97 x28)
    else
    (gfI S 9 8 r0).bind fun x44 =>
    if x44 ≤ ((1 : Int32) <<< (x30 &&& 31)) then
    (j97 x28)
    else
    j98 x28 (1 : Int32)) fun j73 =>
    if ¬ ((x5 >>> (x30 &&& 31)) &&& (1 : Int32)) = (1 : Int32) then
    (j73 (0 : Int32))
    else
    j73 (1 : Int32)
def lX9_plan_37 (N : Nat) (S : pH) (r0 : Option Nat) (x1 : Int32) (x2 : Int32) : Nat → Int32 → Int32 → Int32 → Option (Int32 × Int32)
  | 0, _, _, _ => none
  | n + 1, x25, x26, x27 =>
    if x27 ≤ 0 then
    (some (x25, x26))
    else
    b2 (lX9_plan_51 N S r0 x1 x2 x25 x26 x27 N (0 : Int32) (0 : Int32) (0 : Int32)) fun x49 x50 =>
    nm (fun (x51 : Int32) =>
    nm (fun (x52 : Int32) (x53 : Int32) =>
    nm (x27 + (-1 : Int32)) fun x54 =>
    lX9_plan_37 N S r0 x1 x2 n x52 x53 x54) fun j190 =>
    if x51 = 0 then
    (j190 x25 x26)
    else
    nm (fun (_ : Unit) =>
    j190 x27 x50) fun j183 =>
    if x25 = (-9 : Int32) then
    (j183 ())
    else
    if x26 ≤ x50 then
    (j190 x25 x26)
    else
    j183 ()) fun j163 =>
    nm (fun (_ : Unit) =>
    j163 (0 : Int32)) fun j162 =>
    if ¬ (x27 &&& (1 : Int32)) = (1 : Int32) then
    (j162 ())
    else
    (gfI S 9 8 r0).bind fun x58 =>
    if (x27 &&& x58) = 0 then
    (j162 ())
    else
    if x1 < x49 then
    (j162 ())
    else
    j163 (1 : Int32)
def fX9_plan (N : Nat) (S : pH) (r0 : Option Nat) (x1 : Int32) (x2 : Int32) : Option (Int32) :=
  chk S 9 r0 <|
  (fX9_in N S x1 (1 : Int32) (3 : Int32)).bind fun x21 =>
  if x21 = 0 then
  (some (-1 : Int32))
  else
  (fX9_in N S x2 (0 : Int32) (1 : Int32)).bind fun x22 =>
  if ¬ x22 = 0 then
  ((gfI S 9 8 r0).bind fun x23 =>
  nm (((2 : Int32) * x23) - (1 : Int32)) fun x24 =>
  b2 (lX9_plan_37 N S r0 x1 x2 N (-9 : Int32) (-9 : Int32) x24) fun x63 x64 =>
  if ¬ x2 = 0 then
  (some x63)
  else
  some x64)
  else
  some (-1 : Int32)
theorem oX9_plan {N : Nat} {S : pH} {r0 : Option Nat} {x1 : Int32} {x2 : Int32} {z : Int32} (h : fX9_plan N S r0 x1 x2 = some z) : ∃ fs, obj S 9 r0 = some fs := by
  unfold fX9_plan at h
  exact (chk_spec h).1
set_option maxHeartbeats 1000000 in
set_option maxRecDepth 20000 in
theorem kX9_plan_51 {g : VG} {w : VW} {N : Nat} {S : pH} {r0 : Option Nat} {x1 : Int32} {x2 : Int32} {x3 : Int32} {x4 : Int32} {x5 : Int32} {v0 : Int32} (hC : Cx g yX9_plan cX9_plan 10 (some .int) rmX9_plan w) : ∀ (n : Nat) (x28 : Int32) (x29 : Int32) (x30 : Int32) (z : (Int32 × Int32)), lX9_plan_51 N S r0 x1 x2 x3 x4 x5 n x28 x29 x30 = some z → (∀ (e0 : Int32) (e1 : Int32), z = (e0, e1) → V g w 10 (Qm g w rmX9_plan.cells rmX9_plan.slots (some (.int v0)) S) S 0 0 134 [(0, va_rf r0), (1, .int x1), (2, .int x2), (3, .int x3), (4, .int x4), (5, .int x5), (6, .int e0), (7, .int e1)] []) → V g w 10 (Qm g w rmX9_plan.cells rmX9_plan.slots (some (.int v0)) S) S 0 0 51 [(0, va_rf r0), (1, .int x1), (2, .int x2), (3, .int x3), (4, .int x4), (5, .int x5), (6, .int x28), (7, .int x29), (8, .int x30)] [] := by
  intro n
  induction n with
  | zero => intro x28 x29 x30 z h; rw [lX9_plan_51] at h; cases h
  | succ n ih =>
    intro x28 x29 x30 z h K
    rw [lX9_plan_51] at h
    refine v_iload hC 51 8 dX9_plan_51 rfl ?_
    refine v_iconst hC (4 : Int32) 53 dX9_plan_53 (by decide) ?_
    refine v_icmp_ge hC 54 134 dX9_plan_54 (by decide) (fun c48 => ?_) (fun c48 => ?_)
    · replace h := ifp h c48
      refine v_sub [(0, va_rf r0), (1, .int x1), (2, .int x2), (3, .int x3), (4, .int x4), (5, .int x5), (6, .int x28), (7, .int x29)] [0, 1, 2, 3, 4, 5, 6, 7] rfl ?_
      exact K _ _ (sp1 h)
    · replace h := ifn h c48
      refine v_iload hC 57 5 dX9_plan_57 rfl ?_
      refine v_iload hC 59 8 dX9_plan_59 rfl ?_
      refine v_ishr hC 61 dX9_plan_61 ?_
      refine v_iconst hC (1 : Int32) 62 dX9_plan_62 (by decide) ?_
      refine v_iand hC 63 dX9_plan_63 ?_
      refine v_iconst hC (1 : Int32) 64 dX9_plan_64 (by decide) ?_
      obtain ⟨j73, f73, h⟩ := onm h
      have J73 : ∀ (x31 : Int32), j73 x31 = some z → V g w 10 (Qm g w rmX9_plan.cells rmX9_plan.slots (some (.int v0)) S) S 0 0 73 [(0, va_rf r0), (1, .int x1), (2, .int x2), (3, .int x3), (4, .int x4), (5, .int x5), (6, .int x28), (7, .int x29), (8, .int x30)] [.int x31] := by
        intro x31 h
        replace h := jb1 f73 h
        refine v_istore hC [(9, .int x31), (0, va_rf r0), (1, .int x1), (2, .int x2), (3, .int x3), (4, .int x4), (5, .int x5), (6, .int x28), (7, .int x29), (8, .int x30)] 73 dX9_plan_73 (by decide) rfl ?_
        refine v_iload hC 75 7 dX9_plan_75 rfl ?_
        refine v_iload hC 77 0 dX9_plan_77 rfl ?_
        obtain ⟨j98, f98, h⟩ := onm h
        have J98 : ∀ (x32 : Int32) (x33 : Int32), j98 x32 x33 = some z → V g w 10 (Qm g w rmX9_plan.cells rmX9_plan.slots (some (.int v0)) S) S 0 0 98 [(0, va_rf r0), (1, .int x1), (2, .int x2), (3, .int x3), (4, .int x4), (5, .int x5), (7, .int x29), (8, .int x30), (9, .int x31)] [.int x33, .int x32] := by
          intro x32 x33 h
          replace h := jb2 f98 h
          refine v_iadd hC 98 dX9_plan_98 ?_
          obtain ⟨x34, ex34, h⟩ := onm h
          refine v_topi x34 ex34 ?_
          refine v_istore hC [(6, .int x34), (0, va_rf r0), (1, .int x1), (2, .int x2), (3, .int x3), (4, .int x4), (5, .int x5), (7, .int x29), (8, .int x30), (9, .int x31)] 99 dX9_plan_99 (by decide) rfl ?_
          refine v_iload hC 101 7 dX9_plan_101 rfl ?_
          refine v_iload hC 103 9 dX9_plan_103 rfl ?_
          obtain ⟨j125, f125, h⟩ := onm h
          have J125 : ∀ (x35 : Int32) (x36 : Int32), j125 x35 x36 = some z → V g w 10 (Qm g w rmX9_plan.cells rmX9_plan.slots (some (.int v0)) S) S 0 0 125 [(0, va_rf r0), (1, .int x1), (2, .int x2), (3, .int x3), (4, .int x4), (5, .int x5), (6, .int x34), (8, .int x30)] [.int x36, .int x35] := by
            intro x35 x36 h
            replace h := jb2 f125 h
            refine v_iadd hC 125 dX9_plan_125 ?_
            obtain ⟨x37, ex37, h⟩ := onm h
            refine v_topi x37 ex37 ?_
            refine v_istore hC [(7, .int x37), (0, va_rf r0), (1, .int x1), (2, .int x2), (3, .int x3), (4, .int x4), (5, .int x5), (6, .int x34), (8, .int x30)] 126 dX9_plan_126 (by decide) rfl ?_
            obtain ⟨x38, ex38, h⟩ := onm h
            refine v_iinc hC x38 [(8, .int x38), (7, .int x37), (0, va_rf r0), (1, .int x1), (2, .int x2), (3, .int x3), (4, .int x4), (5, .int x5), (6, .int x34)] 128 8 dX9_plan_128 rfl (by rw [ex38]; rfl) (by decide) rfl ?_
            refine v_goto hC 131 51 dX9_plan_131 (by decide) ?_
            refine v_sub [(0, va_rf r0), (1, .int x1), (2, .int x2), (3, .int x3), (4, .int x4), (5, .int x5), (6, .int x34), (7, .int x37), (8, .int x38)] [2, 3, 4, 5, 6, 7, 8, 1, 0] rfl ?_
            exact ih _ _ _ _ h K
          obtain ⟨j124, f124, h⟩ := onm h
          have J124 : ∀ (x39 : Int32), j124 x39 = some z → V g w 10 (Qm g w rmX9_plan.cells rmX9_plan.slots (some (.int v0)) S) S 0 0 124 [(0, va_rf r0), (1, .int x1), (2, .int x2), (3, .int x3), (4, .int x4), (5, .int x5), (6, .int x34), (8, .int x30)] [.int x39] := by
            intro x39 h
            replace h := jb1 f124 h
            refine v_iconst hC (0 : Int32) 124 dX9_plan_124 (by decide) ?_
            refine v_sub [(0, va_rf r0), (1, .int x1), (2, .int x2), (3, .int x3), (4, .int x4), (5, .int x5), (6, .int x34), (8, .int x30)] [0, 1, 2, 3, 4, 5, 6, 7] rfl ?_
            exact J125 _ _ h
          refine v_if_eq hC 105 124 dX9_plan_105 (by decide) (fun c42 => ?_) (fun c42 => ?_)
          · replace h := ifp h c42
            refine v_sub [(0, va_rf r0), (1, .int x1), (2, .int x2), (3, .int x3), (4, .int x4), (5, .int x5), (6, .int x34), (8, .int x30)] [1, 2, 3, 4, 5, 6, 0, 8] rfl ?_
            exact J124 _ h
          · replace h := ifn h c42
            refine v_iload hC 108 8 dX9_plan_108 rfl ?_
            refine v_if_le hC 110 124 dX9_plan_110 (by decide) (fun c41 => ?_) (fun c41 => ?_)
            · replace h := ifp h c41
              refine v_sub [(0, va_rf r0), (1, .int x1), (2, .int x2), (3, .int x3), (4, .int x4), (5, .int x5), (6, .int x34), (8, .int x30)] [1, 2, 3, 4, 5, 6, 0, 8] rfl ?_
              exact J124 _ h
            · replace h := ifn h c41
              refine v_aload_n hC 113 1 dX9_plan_113 rfl ?_
              refine v_iconst hC (1 : Int32) 114 dX9_plan_114 (by decide) ?_
              refine v_iload hC 115 8 dX9_plan_115 rfl ?_
              refine v_ishl hC 117 dX9_plan_117 ?_
              obtain ⟨x40, ex40, h⟩ := obn h
              refine qX9_181 hC rfl 118 ex40 (by decide) (catL (Nat.le_of_ble_eq_true rfl)) (by decide) dX9_plan_118 ?_
              refine v_goto hC 121 125 dX9_plan_121 (by decide) ?_
              refine v_sub [(0, va_rf r0), (1, .int x1), (2, .int x2), (3, .int x3), (4, .int x4), (5, .int x5), (6, .int x34), (8, .int x30)] [1, 2, 3, 4, 5, 6, 0, 8] rfl ?_
              exact J125 _ _ h
        obtain ⟨j97, f97, h⟩ := onm h
        have J97 : ∀ (x43 : Int32), j97 x43 = some z → V g w 10 (Qm g w rmX9_plan.cells rmX9_plan.slots (some (.int v0)) S) S 0 0 97 [(0, va_rf r0), (1, .int x1), (2, .int x2), (3, .int x3), (4, .int x4), (5, .int x5), (7, .int x29), (8, .int x30), (9, .int x31)] [.int x43] := by
          intro x43 h
          replace h := jb1 f97 h
          refine v_iconst hC (0 : Int32) 97 dX9_plan_97 (by decide) ?_
          refine v_sub [(0, va_rf r0), (1, .int x1), (2, .int x2), (3, .int x3), (4, .int x4), (5, .int x5), (7, .int x29), (8, .int x30), (9, .int x31)] [0, 1, 2, 3, 4, 5, 6, 7, 8] rfl ?_
          exact J98 _ _ h
        refine v_if_eq hC 79 97 dX9_plan_79 (by decide) (fun c46 => ?_) (fun c46 => ?_)
        · replace h := ifp h c46
          refine v_sub [(0, va_rf r0), (1, .int x1), (2, .int x2), (3, .int x3), (4, .int x4), (5, .int x5), (7, .int x29), (8, .int x30), (9, .int x31)] [1, 2, 3, 4, 5, 6, 8, 9, 0] rfl ?_
          exact J97 _ h
        · replace h := ifn h c46
          refine v_iconst hC (1 : Int32) 82 dX9_plan_82 (by decide) ?_
          refine v_iload hC 83 9 dX9_plan_83 rfl ?_
          refine v_ishl hC 85 dX9_plan_85 ?_
          refine v_aload_n hC 86 1 dX9_plan_86 rfl ?_
          obtain ⟨x44, ex44, h⟩ := obn h
          refine gRX9_31 hC rfl 87 ex44 dX9_plan_87 ?_
          refine v_icmp_ge hC 90 97 dX9_plan_90 (by decide) (fun c45 => ?_) (fun c45 => ?_)
          · replace h := ifp h c45
            refine v_sub [(0, va_rf r0), (1, .int x1), (2, .int x2), (3, .int x3), (4, .int x4), (5, .int x5), (7, .int x29), (8, .int x30), (9, .int x31)] [1, 2, 3, 4, 5, 6, 8, 9, 0] rfl ?_
            exact J97 _ h
          · replace h := ifn h c45
            refine v_iconst hC (1 : Int32) 93 dX9_plan_93 (by decide) ?_
            refine v_goto hC 94 98 dX9_plan_94 (by decide) ?_
            refine v_sub [(0, va_rf r0), (1, .int x1), (2, .int x2), (3, .int x3), (4, .int x4), (5, .int x5), (7, .int x29), (8, .int x30), (9, .int x31)] [1, 2, 3, 4, 5, 6, 8, 9, 0] rfl ?_
            exact J98 _ _ h
      refine v_icmp_ne hC 65 72 dX9_plan_65 (by decide) (fun c47 => ?_) (fun c47 => ?_)
      · replace h := ifp h c47
        refine v_iconst hC (0 : Int32) 72 dX9_plan_72 (by decide) ?_
        refine v_sub [(0, va_rf r0), (1, .int x1), (2, .int x2), (3, .int x3), (4, .int x4), (5, .int x5), (6, .int x28), (7, .int x29), (8, .int x30)] [0, 1, 2, 3, 4, 5, 6, 7, 8] rfl ?_
        exact J73 _ h
      · replace h := ifn h (fun q => q c47)
        refine v_iconst hC (1 : Int32) 68 dX9_plan_68 (by decide) ?_
        refine v_goto hC 69 73 dX9_plan_69 (by decide) ?_
        refine v_sub [(0, va_rf r0), (1, .int x1), (2, .int x2), (3, .int x3), (4, .int x4), (5, .int x5), (6, .int x28), (7, .int x29), (8, .int x30)] [0, 1, 2, 3, 4, 5, 6, 7, 8] rfl ?_
        exact J73 _ h
set_option maxHeartbeats 1000000 in
set_option maxRecDepth 20000 in
theorem kX9_plan_37 {g : VG} {w : VW} {N : Nat} {S : pH} {r0 : Option Nat} {x1 : Int32} {x2 : Int32} {v0 : Int32} (hC : Cx g yX9_plan cX9_plan 10 (some .int) rmX9_plan w) : ∀ (n : Nat) (x25 : Int32) (x26 : Int32) (x27 : Int32) (z : (Int32 × Int32)), lX9_plan_37 N S r0 x1 x2 n x25 x26 x27 = some z → (∀ (e0 : Int32) (e1 : Int32), z = (e0, e1) → V g w 10 (Qm g w rmX9_plan.cells rmX9_plan.slots (some (.int v0)) S) S 0 0 196 [(2, .int x2), (3, .int e0), (4, .int e1)] []) → V g w 10 (Qm g w rmX9_plan.cells rmX9_plan.slots (some (.int v0)) S) S 0 0 37 [(0, va_rf r0), (1, .int x1), (2, .int x2), (3, .int x25), (4, .int x26), (5, .int x27)] [] := by
  intro n
  induction n with
  | zero => intro x25 x26 x27 z h; rw [lX9_plan_37] at h; cases h
  | succ n ih =>
    intro x25 x26 x27 z h K
    rw [lX9_plan_37] at h
    refine v_iload hC 37 5 dX9_plan_37 rfl ?_
    refine v_if_le hC 39 196 dX9_plan_39 (by decide) (fun c62 => ?_) (fun c62 => ?_)
    · replace h := ifp h c62
      refine v_sub [(2, .int x2), (3, .int x25), (4, .int x26)] [2, 3, 4] rfl ?_
      exact K _ _ (sp1 h)
    · replace h := ifn h c62
      refine v_iconst hC (0 : Int32) 42 dX9_plan_42 (by decide) ?_
      refine v_istore hC [(6, .int (0 : Int32)), (0, va_rf r0), (1, .int x1), (2, .int x2), (3, .int x25), (4, .int x26), (5, .int x27)] 43 dX9_plan_43 (by decide) rfl ?_
      refine v_iconst hC (0 : Int32) 45 dX9_plan_45 (by decide) ?_
      refine v_istore hC [(7, .int (0 : Int32)), (6, .int (0 : Int32)), (0, va_rf r0), (1, .int x1), (2, .int x2), (3, .int x25), (4, .int x26), (5, .int x27)] 46 dX9_plan_46 (by decide) rfl ?_
      refine v_iconst hC (0 : Int32) 48 dX9_plan_48 (by decide) ?_
      refine v_istore hC [(8, .int (0 : Int32)), (7, .int (0 : Int32)), (6, .int (0 : Int32)), (0, va_rf r0), (1, .int x1), (2, .int x2), (3, .int x25), (4, .int x26), (5, .int x27)] 49 dX9_plan_49 (by decide) rfl ?_
      obtain ⟨x49, x50, E51, h⟩ := ob2 h
      refine v_sub [(0, va_rf r0), (1, .int x1), (2, .int x2), (3, .int x25), (4, .int x26), (5, .int x27), (6, .int (0 : Int32)), (7, .int (0 : Int32)), (8, .int (0 : Int32))] [3, 4, 5, 6, 7, 8, 2, 1, 0] rfl ?_
      refine kX9_plan_51 hC _ _ _ _ _ E51 (fun _ _ hz9 => ?_)
      cases hz9
      refine v_iload hC 134 5 dX9_plan_134 rfl ?_
      refine v_iconst hC (1 : Int32) 136 dX9_plan_136 (by decide) ?_
      refine v_iand hC 137 dX9_plan_137 ?_
      refine v_iconst hC (1 : Int32) 138 dX9_plan_138 (by decide) ?_
      obtain ⟨j163, f163, h⟩ := onm h
      have J163 : ∀ (x51 : Int32), j163 x51 = some z → V g w 10 (Qm g w rmX9_plan.cells rmX9_plan.slots (some (.int v0)) S) S 0 0 163 [(0, va_rf r0), (1, .int x1), (2, .int x2), (3, .int x25), (4, .int x26), (5, .int x27), (7, .int x50)] [.int x51] := by
        intro x51 h
        replace h := jb1 f163 h
        refine v_istore hC [(8, .int x51), (0, va_rf r0), (1, .int x1), (2, .int x2), (3, .int x25), (4, .int x26), (5, .int x27), (7, .int x50)] 163 dX9_plan_163 (by decide) rfl ?_
        refine v_iload hC 165 0 dX9_plan_165 rfl ?_
        obtain ⟨j190, f190, h⟩ := onm h
        have J190 : ∀ (x52 : Int32) (x53 : Int32), j190 x52 x53 = some z → V g w 10 (Qm g w rmX9_plan.cells rmX9_plan.slots (some (.int v0)) S) S 0 0 190 [(0, va_rf r0), (1, .int x1), (2, .int x2), (3, .int x52), (4, .int x53), (5, .int x27)] [] := by
          intro x52 x53 h
          replace h := jb2 f190 h
          obtain ⟨x54, ex54, h⟩ := onm h
          refine v_iinc hC x54 [(5, .int x54), (0, va_rf r0), (1, .int x1), (2, .int x2), (3, .int x52), (4, .int x53)] 190 5 dX9_plan_190 rfl (by rw [ex54]; rfl) (by decide) rfl ?_
          refine v_goto hC 193 37 dX9_plan_193 (by decide) ?_
          refine v_sub [(0, va_rf r0), (1, .int x1), (2, .int x2), (3, .int x52), (4, .int x53), (5, .int x54)] [1, 2, 3, 4, 5, 0] rfl ?_
          exact ih _ _ _ _ h K
        refine v_if_eq hC 167 190 dX9_plan_167 (by decide) (fun c57 => ?_) (fun c57 => ?_)
        · replace h := ifp h c57
          refine v_sub [(0, va_rf r0), (1, .int x1), (2, .int x2), (3, .int x25), (4, .int x26), (5, .int x27)] [1, 2, 3, 4, 5, 6] rfl ?_
          exact J190 _ _ h
        · replace h := ifn h c57
          refine v_iload_n hC 170 4 dX9_plan_170 rfl ?_
          refine v_bipush hC (-9 : Int32) 171 dX9_plan_171 (by decide) ?_
          obtain ⟨j183, f183, h⟩ := onm h
          have J183 : ∀ (u9 : Unit), j183 u9 = some z → V g w 10 (Qm g w rmX9_plan.cells rmX9_plan.slots (some (.int v0)) S) S 0 0 183 [(0, va_rf r0), (1, .int x1), (2, .int x2), (5, .int x27), (7, .int x50)] [] := by
            intro u9 h
            replace h := jb1 f183 h
            refine v_iload hC 183 3 dX9_plan_183 rfl ?_
            refine v_istore_n hC [(3, .int x27), (0, va_rf r0), (1, .int x1), (2, .int x2), (5, .int x27), (7, .int x50)] 185 dX9_plan_185 (by decide) rfl ?_
            refine v_iload hC 186 5 dX9_plan_186 rfl ?_
            refine v_istore hC [(4, .int x50), (3, .int x27), (0, va_rf r0), (1, .int x1), (2, .int x2), (5, .int x27), (7, .int x50)] 188 dX9_plan_188 (by decide) rfl ?_
            refine v_sub [(0, va_rf r0), (1, .int x1), (2, .int x2), (3, .int x27), (4, .int x50), (5, .int x27)] [2, 3, 4, 1, 0, 5] rfl ?_
            exact J190 _ _ h
          refine v_icmp_eq hC 173 183 dX9_plan_173 (by decide) (fun c56 => ?_) (fun c56 => ?_)
          · replace h := ifp h c56
            refine v_sub [(0, va_rf r0), (1, .int x1), (2, .int x2), (5, .int x27), (7, .int x50)] [1, 2, 3, 6, 7] rfl ?_
            exact J183 _ h
          · replace h := ifn h c56
            refine v_iload hC 176 7 dX9_plan_176 rfl ?_
            refine v_iload hC 178 5 dX9_plan_178 rfl ?_
            refine v_icmp_ge hC 180 190 dX9_plan_180 (by decide) (fun c55 => ?_) (fun c55 => ?_)
            · replace h := ifp h c55
              refine v_sub [(0, va_rf r0), (1, .int x1), (2, .int x2), (3, .int x25), (4, .int x26), (5, .int x27)] [1, 2, 3, 4, 5, 6] rfl ?_
              exact J190 _ _ h
            · replace h := ifn h c55
              refine v_sub [(0, va_rf r0), (1, .int x1), (2, .int x2), (5, .int x27), (7, .int x50)] [1, 2, 3, 6, 7] rfl ?_
              exact J183 _ h
      obtain ⟨j162, f162, h⟩ := onm h
      have J162 : ∀ (u9 : Unit), j162 u9 = some z → V g w 10 (Qm g w rmX9_plan.cells rmX9_plan.slots (some (.int v0)) S) S 0 0 162 [(0, va_rf r0), (1, .int x1), (2, .int x2), (3, .int x25), (4, .int x26), (5, .int x27), (7, .int x50)] [] := by
        intro u9 h
        replace h := jb1 f162 h
        refine v_iconst hC (0 : Int32) 162 dX9_plan_162 (by decide) ?_
        refine v_sub [(0, va_rf r0), (1, .int x1), (2, .int x2), (3, .int x25), (4, .int x26), (5, .int x27), (7, .int x50)] [0, 1, 2, 3, 4, 5, 6] rfl ?_
        exact J163 _ h
      refine v_icmp_ne hC 139 162 dX9_plan_139 (by decide) (fun c61 => ?_) (fun c61 => ?_)
      · replace h := ifp h c61
        refine v_sub [(0, va_rf r0), (1, .int x1), (2, .int x2), (3, .int x25), (4, .int x26), (5, .int x27), (7, .int x50)] [0, 1, 2, 3, 4, 5, 7] rfl ?_
        exact J162 _ h
      · replace h := ifn h (fun q => q c61)
        refine v_iload hC 142 5 dX9_plan_142 rfl ?_
        refine v_aload_n hC 144 0 dX9_plan_144 rfl ?_
        obtain ⟨x58, ex58, h⟩ := obn h
        refine gRX9_31 hC rfl 145 ex58 dX9_plan_145 ?_
        refine v_iand hC 148 dX9_plan_148 ?_
        refine v_if_eq hC 149 162 dX9_plan_149 (by decide) (fun c60 => ?_) (fun c60 => ?_)
        · replace h := ifp h c60
          refine v_sub [(0, va_rf r0), (1, .int x1), (2, .int x2), (3, .int x25), (4, .int x26), (5, .int x27), (7, .int x50)] [0, 1, 2, 3, 4, 5, 7] rfl ?_
          exact J162 _ h
        · replace h := ifn h c60
          refine v_iload hC 152 6 dX9_plan_152 rfl ?_
          refine v_iload_n hC 154 1 dX9_plan_154 rfl ?_
          refine v_icmp_gt hC 155 162 dX9_plan_155 (by decide) (fun c59 => ?_) (fun c59 => ?_)
          · replace h := ifp h c59
            refine v_sub [(0, va_rf r0), (1, .int x1), (2, .int x2), (3, .int x25), (4, .int x26), (5, .int x27), (7, .int x50)] [0, 1, 2, 3, 4, 5, 7] rfl ?_
            exact J162 _ h
          · replace h := ifn h c59
            refine v_iconst hC (1 : Int32) 158 dX9_plan_158 (by decide) ?_
            refine v_goto hC 159 163 dX9_plan_159 (by decide) ?_
            refine v_sub [(0, va_rf r0), (1, .int x1), (2, .int x2), (3, .int x25), (4, .int x26), (5, .int x27), (7, .int x50)] [0, 1, 2, 3, 4, 5, 7] rfl ?_
            exact J163 _ h
set_option maxHeartbeats 1000000 in
set_option maxRecDepth 20000 in
theorem tX9_plan {l : Launch} {w : VW} {N : Nat} {S : pH} {r0 : Option Nat} {x1 : Int32} {x2 : Int32} {v0 : Int32} (h : fX9_plan N S r0 x1 x2 = some v0) : CT l w yX9_plan cX9_plan 10 (some .int) rmX9_plan [va_rf r0, .int x1, .int x2] S (some (.int v0)) S := by
  refine v_entry [(0, va_rf r0), (1, .int x1), (2, .int x2)] (by decide) (by simp [lg_sl, cat_rf, cat_i, cat_j]) (by simp [lv_args, cat_rf, cat_i, cat_j]) (fun g _ hC => ?_)
  unfold fX9_plan at h
  obtain ⟨hO, h⟩ := chk_spec h
  refine v_iload_n hC 0 1 dX9_plan_0 rfl ?_
  refine v_iconst hC (1 : Int32) 1 dX9_plan_1 (by decide) ?_
  refine v_iconst hC (3 : Int32) 2 dX9_plan_2 (by decide) ?_
  obtain ⟨x21, ex21, h⟩ := obn h
  refine qX9_97 hC rfl 3 ex21 (by decide) (catL (Nat.le_of_ble_eq_true rfl)) (by decide) dX9_plan_3 ?_
  refine v_if_eq hC 6 18 dX9_plan_6 (by decide) (fun c67 => ?_) (fun c67 => ?_)
  · replace h := ifp h c67
    refine v_iconst hC (-1 : Int32) 18 dX9_plan_18 (by decide) ?_
    obtain rfl := sp1 h
    exact v_iret hC 19 (by decide) (by decide) dX9_plan_19
  · replace h := ifn h c67
    refine v_iload_n hC 9 2 dX9_plan_9 rfl ?_
    refine v_iconst hC (0 : Int32) 10 dX9_plan_10 (by decide) ?_
    refine v_iconst hC (1 : Int32) 11 dX9_plan_11 (by decide) ?_
    obtain ⟨x22, ex22, h⟩ := obn h
    refine qX9_97 hC rfl 12 ex22 (by decide) (catL (Nat.le_of_ble_eq_true rfl)) (by decide) dX9_plan_12 ?_
    refine v_if_ne hC 15 20 dX9_plan_15 (by decide) (fun c66 => ?_) (fun c66 => ?_)
    · replace h := ifp h c66
      refine v_bipush hC (-9 : Int32) 20 dX9_plan_20 (by decide) ?_
      refine v_istore_n hC [(3, .int (-9 : Int32)), (0, va_rf r0), (1, .int x1), (2, .int x2)] 22 dX9_plan_22 (by decide) rfl ?_
      refine v_bipush hC (-9 : Int32) 23 dX9_plan_23 (by decide) ?_
      refine v_istore hC [(4, .int (-9 : Int32)), (3, .int (-9 : Int32)), (0, va_rf r0), (1, .int x1), (2, .int x2)] 25 dX9_plan_25 (by decide) rfl ?_
      refine v_iconst hC (2 : Int32) 27 dX9_plan_27 (by decide) ?_
      refine v_aload_n hC 28 2 dX9_plan_28 rfl ?_
      obtain ⟨x23, ex23, h⟩ := obn h
      refine gRX9_31 hC rfl 29 ex23 dX9_plan_29 ?_
      refine v_imul hC 32 dX9_plan_32 ?_
      refine v_iconst hC (1 : Int32) 33 dX9_plan_33 (by decide) ?_
      refine v_isub hC 34 dX9_plan_34 ?_
      obtain ⟨x24, ex24, h⟩ := onm h
      refine v_topi x24 ex24 ?_
      refine v_istore hC [(5, .int x24), (4, .int (-9 : Int32)), (3, .int (-9 : Int32)), (0, va_rf r0), (1, .int x1), (2, .int x2)] 35 dX9_plan_35 (by decide) rfl ?_
      obtain ⟨x63, x64, E37, h⟩ := ob2 h
      refine v_sub [(0, va_rf r0), (1, .int x1), (2, .int x2), (3, .int (-9 : Int32)), (4, .int (-9 : Int32)), (5, .int x24)] [3, 4, 5, 2, 1, 0] rfl ?_
      refine kX9_plan_37 hC _ _ _ _ _ E37 (fun _ _ hz9 => ?_)
      cases hz9
      refine v_iload_n hC 196 0 dX9_plan_196 rfl ?_
      refine v_if_ne hC 197 205 dX9_plan_197 (by decide) (fun c65 => ?_) (fun c65 => ?_)
      · replace h := ifp h c65
        refine v_iload_n hC 205 1 dX9_plan_205 rfl ?_
        obtain rfl := sp1 h
        exact v_iret hC 206 (by decide) (by decide) dX9_plan_206
      · replace h := ifn h (fun q => q c65)
        refine v_iload hC 200 2 dX9_plan_200 rfl ?_
        refine v_goto hC 202 206 dX9_plan_202 (by decide) ?_
        obtain rfl := sp1 h
        exact v_iret hC 206 (by decide) (by decide) dX9_plan_206
    · replace h := ifn h (fun q => q c66)
      refine v_iconst hC (-1 : Int32) 18 dX9_plan_18 (by decide) ?_
      obtain rfl := sp1 h
      exact v_iret hC 19 (by decide) (by decide) dX9_plan_19
abbrev rmX9_pull : Room := { frames := 3, cells := 0, slots := 0, locals := 64 }
theorem hdX9_pull : yX9_pull.cls ≠ "java/lang/invoke/MethodHandle" ∧ yX9_pull.cls ≠ "java/lang/invoke/VarHandle" ∧ (parseMethodDescriptor yX9_pull.desc).map (fun d => d.parameters.length) = some 2 := by decide +kernel
def fX9_pull (N : Nat) (S : pH) (r0 : Option Nat) (x1 : Int32) (x2 : Int32) : Option (Int32 × pH) :=
  chk S 9 r0 <|
  (fX9_isWhole N S r0 x1).bind fun x21 =>
  if x21 = 0 then
  (some ((-1 : Int32), S))
  else
  nm (fun (_ : Unit) =>
  (gfR S 9 4 r0).bind fun r22 =>
  (ldI S 0 r22 x1).bind fun x23 =>
  nm ((x23 * x2) - (2 : Int32)) fun x24 =>
  (fX9_in N S x24 (1 : Int32) (9999 : Int32)).bind fun x25 =>
  if x25 = 0 then
  (some ((-2 : Int32), S))
  else
  (gfR S 9 5 r0).bind fun r26 =>
  (ldI S 0 r26 x1).bind fun x27 =>
  if (x27 * x2) ≤ (4096 : Int32) then
  ((gfR S 9 4 r0).bind fun r28 =>
  (stI S r28 x1 x24).bind fun S29 =>
  (gfR S29 9 5 r0).bind fun r30 =>
  (ldI S29 0 r30 x1).bind fun x31 =>
  (stI S29 r30 x1 (x31 * x2)).bind fun S32 =>
  (fX9_drips N S32 r0 x1 (2 : Int32)).bind fun S33 =>
  some (x24, S33))
  else
  some ((-2 : Int32), S)) fun j20 =>
  if x2 = (2 : Int32) then
  (j20 ())
  else
  if x2 = (4 : Int32) then
  (j20 ())
  else
  some ((-1 : Int32), S)
theorem oX9_pull {N : Nat} {S : pH} {r0 : Option Nat} {x1 : Int32} {x2 : Int32} {z : Int32 × pH} (h : fX9_pull N S r0 x1 x2 = some z) : ∃ fs, obj S 9 r0 = some fs := by
  unfold fX9_pull at h
  exact (chk_spec h).1
set_option maxHeartbeats 1000000 in
set_option maxRecDepth 20000 in
theorem tX9_pull {l : Launch} {w : VW} {N : Nat} {S : pH} {r0 : Option Nat} {x1 : Int32} {x2 : Int32} {v0 : Int32} {S0 : pH} (h : fX9_pull N S r0 x1 x2 = some (v0, S0)) : CT l w yX9_pull cX9_pull 4 (some .int) rmX9_pull [va_rf r0, .int x1, .int x2] S (some (.int v0)) S0 := by
  refine v_entry [(0, va_rf r0), (1, .int x1), (2, .int x2)] (by decide) (by simp [lg_sl, cat_rf, cat_i, cat_j]) (by simp [lv_args, cat_rf, cat_i, cat_j]) (fun g _ hC => ?_)
  unfold fX9_pull at h
  obtain ⟨hO, h⟩ := chk_spec h
  refine v_aload_n hC 0 0 dX9_pull_0 rfl ?_
  refine v_iload_n hC 1 1 dX9_pull_1 rfl ?_
  obtain ⟨x21, ex21, h⟩ := obn h
  refine qX9_125 hC rfl 2 ex21 (by decide) (catL (Nat.le_of_ble_eq_true rfl)) (by decide) dX9_pull_2 ?_
  refine v_if_eq hC 5 18 dX9_pull_5 (by decide) (fun c38 => ?_) (fun c38 => ?_)
  · replace h := ifp h c38
    refine v_iconst hC (-1 : Int32) 18 dX9_pull_18 (by decide) ?_
    obtain ⟨rfl, rfl⟩ := sp2 h
    exact v_iret hC 19 (by decide) (by decide) dX9_pull_19
  · replace h := ifn h c38
    refine v_iload_n hC 8 2 dX9_pull_8 rfl ?_
    refine v_iconst hC (2 : Int32) 9 dX9_pull_9 (by decide) ?_
    obtain ⟨j20, f20, h⟩ := onm h
    have J20 : ∀ (u9 : Unit), j20 u9 = some (v0, S0) → V g w 4 (Qm g w rmX9_pull.cells rmX9_pull.slots (some (.int v0)) S0) S 0 0 20 [(0, va_rf r0), (1, .int x1), (2, .int x2)] [] := by
      intro u9 h
      replace h := jb1 f20 h
      refine v_aload_n hC 20 0 dX9_pull_20 rfl ?_
      obtain ⟨r22, er22, h⟩ := obn h
      refine gRX9_19 hC rfl 21 er22 dX9_pull_21 ?_
      refine v_iload_n hC 24 1 dX9_pull_24 rfl ?_
      obtain ⟨x23, ex23, h⟩ := obn h
      refine v_iald hC 25 ex23 dX9_pull_25 ?_
      refine v_iload_n hC 26 2 dX9_pull_26 rfl ?_
      refine v_imul hC 27 dX9_pull_27 ?_
      refine v_iconst hC (2 : Int32) 28 dX9_pull_28 (by decide) ?_
      refine v_isub hC 29 dX9_pull_29 ?_
      obtain ⟨x24, ex24, h⟩ := onm h
      refine v_topi x24 ex24 ?_
      refine v_istore_n hC [(3, .int x24), (0, va_rf r0), (1, .int x1), (2, .int x2)] 30 dX9_pull_30 (by decide) rfl ?_
      refine v_iload_n hC 31 0 dX9_pull_31 rfl ?_
      refine v_iconst hC (1 : Int32) 32 dX9_pull_32 (by decide) ?_
      refine v_sipush hC (9999 : Int32) 33 dX9_pull_33 (by decide) ?_
      obtain ⟨x25, ex25, h⟩ := obn h
      refine qX9_97 hC rfl 36 ex25 (by decide) (catL (Nat.le_of_ble_eq_true rfl)) (by decide) dX9_pull_36 ?_
      refine v_if_eq hC 39 56 dX9_pull_39 (by decide) (fun c35 => ?_) (fun c35 => ?_)
      · replace h := ifp h c35
        refine v_bipush hC (-2 : Int32) 56 dX9_pull_56 (by decide) ?_
        obtain ⟨rfl, rfl⟩ := sp2 h
        exact v_iret hC 58 (by decide) (by decide) dX9_pull_58
      · replace h := ifn h c35
        refine v_aload_n hC 42 1 dX9_pull_42 rfl ?_
        obtain ⟨r26, er26, h⟩ := obn h
        refine gRX9_22 hC rfl 43 er26 dX9_pull_43 ?_
        refine v_iload_n hC 46 2 dX9_pull_46 rfl ?_
        obtain ⟨x27, ex27, h⟩ := obn h
        refine v_iald hC 47 ex27 dX9_pull_47 ?_
        refine v_iload_n hC 48 3 dX9_pull_48 rfl ?_
        refine v_imul hC 49 dX9_pull_49 ?_
        refine v_sipush hC (4096 : Int32) 50 dX9_pull_50 (by decide) ?_
        refine v_icmp_le hC 53 59 dX9_pull_53 (by decide) (fun c34 => ?_) (fun c34 => ?_)
        · replace h := ifp h c34
          refine v_aload_n hC 59 1 dX9_pull_59 rfl ?_
          obtain ⟨r28, er28, h⟩ := obn h
          refine gRX9_19 hC rfl 60 er28 dX9_pull_60 ?_
          refine v_iload_n hC 63 2 dX9_pull_63 rfl ?_
          refine v_iload_n hC 64 0 dX9_pull_64 rfl ?_
          obtain ⟨S29, eS29, h⟩ := obn h
          refine v_iast hC 65 eS29 dX9_pull_65 ?_
          refine v_aload_n hC 66 1 dX9_pull_66 rfl ?_
          obtain ⟨r30, er30, h⟩ := obn h
          refine gRX9_22 hC rfl 67 er30 dX9_pull_67 ?_
          refine v_iload_n hC 70 2 dX9_pull_70 rfl ?_
          refine v_dup2 hC 71 rfl (cat_rf _) dX9_pull_71 ?_
          obtain ⟨x31, ex31, h⟩ := obn h
          refine v_iald hC 72 ex31 dX9_pull_72 ?_
          refine v_iload_n hC 73 3 dX9_pull_73 rfl ?_
          refine v_imul hC 74 dX9_pull_74 ?_
          obtain ⟨S32, eS32, h⟩ := obn h
          refine v_iast hC 75 eS32 dX9_pull_75 ?_
          refine v_aload_n hC 76 1 dX9_pull_76 rfl ?_
          refine v_iload_n hC 77 2 dX9_pull_77 rfl ?_
          refine v_iconst hC (2 : Int32) 78 dX9_pull_78 (by decide) ?_
          obtain ⟨S33, eS33, h⟩ := obn h
          refine qX9_128 hC rfl 79 eS33 (by decide) (catL (Nat.le_of_ble_eq_true rfl)) (by decide) dX9_pull_79 ?_
          refine v_iload_n hC 82 0 dX9_pull_82 rfl ?_
          obtain ⟨rfl, rfl⟩ := sp2 h
          exact v_iret hC 83 (by decide) (by decide) dX9_pull_83
        · replace h := ifn h c34
          refine v_bipush hC (-2 : Int32) 56 dX9_pull_56 (by decide) ?_
          obtain ⟨rfl, rfl⟩ := sp2 h
          exact v_iret hC 58 (by decide) (by decide) dX9_pull_58
    refine v_icmp_eq hC 10 20 dX9_pull_10 (by decide) (fun c37 => ?_) (fun c37 => ?_)
    · replace h := ifp h c37
      refine v_sub [(0, va_rf r0), (1, .int x1), (2, .int x2)] [0, 1, 2] rfl ?_
      exact J20 _ h
    · replace h := ifn h c37
      refine v_iload_n hC 13 2 dX9_pull_13 rfl ?_
      refine v_iconst hC (4 : Int32) 14 dX9_pull_14 (by decide) ?_
      refine v_icmp_eq hC 15 20 dX9_pull_15 (by decide) (fun c36 => ?_) (fun c36 => ?_)
      · replace h := ifp h c36
        refine v_sub [(0, va_rf r0), (1, .int x1), (2, .int x2)] [0, 1, 2] rfl ?_
        exact J20 _ h
      · replace h := ifn h c36
        refine v_iconst hC (-1 : Int32) 18 dX9_pull_18 (by decide) ?_
        obtain ⟨rfl, rfl⟩ := sp2 h
        exact v_iret hC 19 (by decide) (by decide) dX9_pull_19
abbrev rmX9_rod : Room := { frames := 2, cells := 0, slots := 0, locals := 42 }
theorem hdX9_rod : yX9_rod.cls ≠ "java/lang/invoke/MethodHandle" ∧ yX9_rod.cls ≠ "java/lang/invoke/VarHandle" ∧ (parseMethodDescriptor yX9_rod.desc).map (fun d => d.parameters.length) = some 2 := by decide +kernel
def fX9_rod (N : Nat) (S : pH) (r0 : Option Nat) (x1 : Int32) (x2 : Int32) : Option (Int32 × pH) :=
  chk S 9 r0 <|
  (fX9_isGlass N S x1).bind fun x21 =>
  if x21 = 0 then
  (some ((-1 : Int32), S))
  else
  (fX9_in N S x2 (1 : Int32) (9999 : Int32)).bind fun x22 =>
  if ¬ x22 = 0 then
  ((gfI S 9 2 r0).bind fun x23 =>
  if ¬ x23 = (16 : Int32) then
  ((gfI S 9 2 r0).bind fun x24 =>
  (fX9_put N S r0 x24 (0 : Int32) (0 : Int32) x1).bind fun S25 =>
  (gfR S25 9 13 r0).bind fun r26 =>
  (ldJ S25 r26 x1).bind fun j27 =>
  (stJ S25 r26 x1 (j27 + ((4096 : Int64) * (x2.toInt64)))).bind fun S28 =>
  b2 (fX9_newCane N S28 r0 (1 : Int32) x2 (1 : Int32) (0 : Int32)) fun x29 S30 =>
  some (x29, S30))
  else
  some ((-3 : Int32), S))
  else
  some ((-1 : Int32), S)
theorem oX9_rod {N : Nat} {S : pH} {r0 : Option Nat} {x1 : Int32} {x2 : Int32} {z : Int32 × pH} (h : fX9_rod N S r0 x1 x2 = some z) : ∃ fs, obj S 9 r0 = some fs := by
  unfold fX9_rod at h
  exact (chk_spec h).1
set_option maxHeartbeats 1000000 in
set_option maxRecDepth 20000 in
theorem tX9_rod {l : Launch} {w : VW} {N : Nat} {S : pH} {r0 : Option Nat} {x1 : Int32} {x2 : Int32} {v0 : Int32} {S0 : pH} (h : fX9_rod N S r0 x1 x2 = some (v0, S0)) : CT l w yX9_rod cX9_rod 3 (some .int) rmX9_rod [va_rf r0, .int x1, .int x2] S (some (.int v0)) S0 := by
  refine v_entry [(0, va_rf r0), (1, .int x1), (2, .int x2)] (by decide) (by simp [lg_sl, cat_rf, cat_i, cat_j]) (by simp [lv_args, cat_rf, cat_i, cat_j]) (fun g _ hC => ?_)
  unfold fX9_rod at h
  obtain ⟨hO, h⟩ := chk_spec h
  refine v_iload_n hC 0 1 dX9_rod_0 rfl ?_
  obtain ⟨x21, ex21, h⟩ := obn h
  refine qX9_108 hC rfl 1 ex21 (by decide) (catL (Nat.le_of_ble_eq_true rfl)) (by decide) dX9_rod_1 ?_
  refine v_if_eq hC 4 18 dX9_rod_4 (by decide) (fun c33 => ?_) (fun c33 => ?_)
  · replace h := ifp h c33
    refine v_iconst hC (-1 : Int32) 18 dX9_rod_18 (by decide) ?_
    obtain ⟨rfl, rfl⟩ := sp2 h
    exact v_iret hC 19 (by decide) (by decide) dX9_rod_19
  · replace h := ifn h c33
    refine v_iload_n hC 7 2 dX9_rod_7 rfl ?_
    refine v_iconst hC (1 : Int32) 8 dX9_rod_8 (by decide) ?_
    refine v_sipush hC (9999 : Int32) 9 dX9_rod_9 (by decide) ?_
    obtain ⟨x22, ex22, h⟩ := obn h
    refine qX9_97 hC rfl 12 ex22 (by decide) (catL (Nat.le_of_ble_eq_true rfl)) (by decide) dX9_rod_12 ?_
    refine v_if_ne hC 15 20 dX9_rod_15 (by decide) (fun c32 => ?_) (fun c32 => ?_)
    · replace h := ifp h c32
      refine v_aload_n hC 20 0 dX9_rod_20 rfl ?_
      obtain ⟨x23, ex23, h⟩ := obn h
      refine gRX9_101 hC rfl 21 ex23 dX9_rod_21 ?_
      refine v_bipush hC (16 : Int32) 24 dX9_rod_24 (by decide) ?_
      refine v_icmp_ne hC 26 32 dX9_rod_26 (by decide) (fun c31 => ?_) (fun c31 => ?_)
      · replace h := ifp h c31
        refine v_aload_n hC 32 0 dX9_rod_32 rfl ?_
        refine v_aload_n hC 33 0 dX9_rod_33 rfl ?_
        obtain ⟨x24, ex24, h⟩ := obn h
        refine gRX9_101 hC rfl 34 ex24 dX9_rod_34 ?_
        refine v_iconst hC (0 : Int32) 37 dX9_rod_37 (by decide) ?_
        refine v_iconst hC (0 : Int32) 38 dX9_rod_38 (by decide) ?_
        refine v_iload_n hC 39 1 dX9_rod_39 rfl ?_
        obtain ⟨S25, eS25, h⟩ := obn h
        refine qX9_111 hC rfl 40 eS25 (by decide) (catL (Nat.le_of_ble_eq_true rfl)) (by decide) dX9_rod_40 ?_
        refine v_aload_n hC 43 0 dX9_rod_43 rfl ?_
        obtain ⟨r26, er26, h⟩ := obn h
        refine gRX9_47 hC rfl 44 er26 dX9_rod_44 ?_
        refine v_iload_n hC 47 1 dX9_rod_47 rfl ?_
        refine v_dup2 hC 48 rfl (cat_rf _) dX9_rod_48 ?_
        obtain ⟨j27, ej27, h⟩ := obn h
        refine v_lald hC 49 ej27 dX9_rod_49 ?_
        refine v_ldc2 hC (v := (4096 : Int64)) 50 wG167 dX9_rod_50 ?_
        refine v_iload_n hC 53 2 dX9_rod_53 rfl ?_
        refine v_i2l hC 54 dX9_rod_54 ?_
        refine v_lmul hC 55 dX9_rod_55 ?_
        refine v_ladd hC 56 dX9_rod_56 ?_
        obtain ⟨S28, eS28, h⟩ := obn h
        refine v_last hC 57 eS28 dX9_rod_57 ?_
        refine v_aload_n hC 58 0 dX9_rod_58 rfl ?_
        refine v_iconst hC (1 : Int32) 59 dX9_rod_59 (by decide) ?_
        refine v_iload_n hC 60 2 dX9_rod_60 rfl ?_
        refine v_iconst hC (1 : Int32) 61 dX9_rod_61 (by decide) ?_
        refine v_iconst hC (0 : Int32) 62 dX9_rod_62 (by decide) ?_
        obtain ⟨x29, S30, ex29, h⟩ := ob2 h
        refine qX9_117 hC rfl 63 ex29 (by decide) (catL (Nat.le_of_ble_eq_true rfl)) (by decide) dX9_rod_63 ?_
        obtain ⟨rfl, rfl⟩ := sp2 h
        exact v_iret hC 66 (by decide) (by decide) dX9_rod_66
      · replace h := ifn h (fun q => q c31)
        refine v_bipush hC (-3 : Int32) 29 dX9_rod_29 (by decide) ?_
        obtain ⟨rfl, rfl⟩ := sp2 h
        exact v_iret hC 31 (by decide) (by decide) dX9_rod_31
    · replace h := ifn h (fun q => q c32)
      refine v_iconst hC (-1 : Int32) 18 dX9_rod_18 (by decide) ?_
      obtain ⟨rfl, rfl⟩ := sp2 h
      exact v_iret hC 19 (by decide) (by decide) dX9_rod_19
