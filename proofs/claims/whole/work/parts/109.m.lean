abbrev rmX9_saw : Room := { frames := 1, cells := 0, slots := 0, locals := 22 }
theorem hdX9_saw : yX9_saw.cls ≠ "java/lang/invoke/MethodHandle" ∧ yX9_saw.cls ≠ "java/lang/invoke/VarHandle" ∧ (parseMethodDescriptor yX9_saw.desc).map (fun d => d.parameters.length) = some 1 := by decide +kernel
def fX9_saw (N : Nat) (S : pH) (r0 : Option Nat) (x1 : Int32) : Option (Int32 × pH) :=
  chk S 9 r0 <|
  (fX9_in N S x1 (0 : Int32) (3 : Int32)).bind fun x21 =>
  if ¬ x21 = 0 then
  ((gfI S 9 18 r0).bind fun x22 =>
  (pfV S 9 18 r0 (.int x1)).bind fun S23 =>
  some (x22, S23))
  else
  some ((-1 : Int32), S)
theorem oX9_saw {N : Nat} {S : pH} {r0 : Option Nat} {x1 : Int32} {z : Int32 × pH} (h : fX9_saw N S r0 x1 = some z) : ∃ fs, obj S 9 r0 = some fs := by
  unfold fX9_saw at h
  exact (chk_spec h).1
set_option maxHeartbeats 1000000 in
set_option maxRecDepth 20000 in
theorem tX9_saw {l : Launch} {w : VW} {N : Nat} {S : pH} {r0 : Option Nat} {x1 : Int32} {v0 : Int32} {S0 : pH} (h : fX9_saw N S r0 x1 = some (v0, S0)) : CT l w yX9_saw cX9_saw 3 (some .int) rmX9_saw [va_rf r0, .int x1] S (some (.int v0)) S0 := by
  refine v_entry [(0, va_rf r0), (1, .int x1)] (by decide) (by simp [lg_sl, cat_rf, cat_i, cat_j]) (by simp [lv_args, cat_rf, cat_i, cat_j]) (fun g _ hC => ?_)
  unfold fX9_saw at h
  obtain ⟨hO, h⟩ := chk_spec h
  refine v_iload_n hC 0 1 dX9_saw_0 rfl ?_
  refine v_iconst hC (0 : Int32) 1 dX9_saw_1 (by decide) ?_
  refine v_iconst hC (3 : Int32) 2 dX9_saw_2 (by decide) ?_
  obtain ⟨x21, ex21, h⟩ := obn h
  refine qX9_97 hC rfl 3 ex21 (by decide) (catL (Nat.le_of_ble_eq_true rfl)) (by decide) dX9_saw_3 ?_
  refine v_if_ne hC 6 11 dX9_saw_6 (by decide) (fun c24 => ?_) (fun c24 => ?_)
  · replace h := ifp h c24
    refine v_aload_n hC 11 0 dX9_saw_11 rfl ?_
    obtain ⟨x22, ex22, h⟩ := obn h
    refine gRX9_60 hC rfl 12 ex22 dX9_saw_12 ?_
    refine v_istore_n hC [(2, .int x22), (0, va_rf r0), (1, .int x1)] 15 dX9_saw_15 (by decide) rfl ?_
    refine v_aload_n hC 16 1 dX9_saw_16 rfl ?_
    refine v_iload_n hC 17 2 dX9_saw_17 rfl ?_
    obtain ⟨S23, eS23, h⟩ := obn h
    refine pRX9_60 hC rfl 18 eS23 dX9_saw_18 ?_
    refine v_iload_n hC 21 0 dX9_saw_21 rfl ?_
    obtain ⟨rfl, rfl⟩ := sp2 h
    exact v_iret hC 22 (by decide) (by decide) dX9_saw_22
  · replace h := ifn h (fun q => q c24)
    refine v_iconst hC (-1 : Int32) 9 dX9_saw_9 (by decide) ?_
    obtain ⟨rfl, rfl⟩ := sp2 h
    exact v_iret hC 10 (by decide) (by decide) dX9_saw_10
abbrev rmX9_see : Room := { frames := 1, cells := 0, slots := 0, locals := 24 }
theorem hdX9_see : yX9_see.cls ≠ "java/lang/invoke/MethodHandle" ∧ yX9_see.cls ≠ "java/lang/invoke/VarHandle" ∧ (parseMethodDescriptor yX9_see.desc).map (fun d => d.parameters.length) = some 3 := by decide +kernel
def fX9_see (N : Nat) (S : pH) (r0 : Option Nat) (x1 : Int32) (x2 : Int32) (x3 : Int32) : Option (Int32 × pH) :=
  chk S 9 r0 <|
  (gfI S 9 9 r0).bind fun x21 =>
  (fX9_in N S x1 (0 : Int32) (x21 - (1 : Int32))).bind fun x22 =>
  if x22 = 0 then
  (some ((-2 : Int32), S))
  else
  (gfI S 9 9 r0).bind fun x23 =>
  (fX9_in N S x2 (0 : Int32) (x23 - (1 : Int32))).bind fun x24 =>
  if x24 = 0 then
  (some ((-2 : Int32), S))
  else
  nm (fun (_ : Unit) =>
  (fX9_at N S r0 (17 : Int32) x1 x2).bind fun x25 =>
  (fX9_put N S r0 (17 : Int32) x1 x2 x3).bind fun S26 =>
  some (x25, S26)) fun j47 =>
  if x3 = (-9 : Int32) then
  (j47 ())
  else
  (fX9_in N S x3 (0 : Int32) (8 : Int32)).bind fun x27 =>
  if ¬ x27 = 0 then
  (j47 ())
  else
  some ((-2 : Int32), S)
theorem oX9_see {N : Nat} {S : pH} {r0 : Option Nat} {x1 : Int32} {x2 : Int32} {x3 : Int32} {z : Int32 × pH} (h : fX9_see N S r0 x1 x2 x3 = some z) : ∃ fs, obj S 9 r0 = some fs := by
  unfold fX9_see at h
  exact (chk_spec h).1
set_option maxHeartbeats 1000000 in
set_option maxRecDepth 20000 in
theorem tX9_see {l : Launch} {w : VW} {N : Nat} {S : pH} {r0 : Option Nat} {x1 : Int32} {x2 : Int32} {x3 : Int32} {v0 : Int32} {S0 : pH} (h : fX9_see N S r0 x1 x2 x3 = some (v0, S0)) : CT l w yX9_see cX9_see 5 (some .int) rmX9_see [va_rf r0, .int x1, .int x2, .int x3] S (some (.int v0)) S0 := by
  refine v_entry [(0, va_rf r0), (1, .int x1), (2, .int x2), (3, .int x3)] (by decide) (by simp [lg_sl, cat_rf, cat_i, cat_j]) (by simp [lv_args, cat_rf, cat_i, cat_j]) (fun g _ hC => ?_)
  unfold fX9_see at h
  obtain ⟨hO, h⟩ := chk_spec h
  refine v_iload_n hC 0 1 dX9_see_0 rfl ?_
  refine v_iconst hC (0 : Int32) 1 dX9_see_1 (by decide) ?_
  refine v_aload_n hC 2 0 dX9_see_2 rfl ?_
  obtain ⟨x21, ex21, h⟩ := obn h
  refine gRX9_35 hC rfl 3 ex21 dX9_see_3 ?_
  refine v_iconst hC (1 : Int32) 6 dX9_see_6 (by decide) ?_
  refine v_isub hC 7 dX9_see_7 ?_
  obtain ⟨x22, ex22, h⟩ := obn h
  refine qX9_97 hC rfl 8 ex22 (by decide) (catL (Nat.le_of_ble_eq_true rfl)) (by decide) dX9_see_8 ?_
  refine v_if_eq hC 11 44 dX9_see_11 (by decide) (fun c31 => ?_) (fun c31 => ?_)
  · replace h := ifp h c31
    refine v_bipush hC (-2 : Int32) 44 dX9_see_44 (by decide) ?_
    obtain ⟨rfl, rfl⟩ := sp2 h
    exact v_iret hC 46 (by decide) (by decide) dX9_see_46
  · replace h := ifn h c31
    refine v_iload_n hC 14 2 dX9_see_14 rfl ?_
    refine v_iconst hC (0 : Int32) 15 dX9_see_15 (by decide) ?_
    refine v_aload_n hC 16 0 dX9_see_16 rfl ?_
    obtain ⟨x23, ex23, h⟩ := obn h
    refine gRX9_35 hC rfl 17 ex23 dX9_see_17 ?_
    refine v_iconst hC (1 : Int32) 20 dX9_see_20 (by decide) ?_
    refine v_isub hC 21 dX9_see_21 ?_
    obtain ⟨x24, ex24, h⟩ := obn h
    refine qX9_97 hC rfl 22 ex24 (by decide) (catL (Nat.le_of_ble_eq_true rfl)) (by decide) dX9_see_22 ?_
    refine v_if_eq hC 25 44 dX9_see_25 (by decide) (fun c30 => ?_) (fun c30 => ?_)
    · replace h := ifp h c30
      refine v_bipush hC (-2 : Int32) 44 dX9_see_44 (by decide) ?_
      obtain ⟨rfl, rfl⟩ := sp2 h
      exact v_iret hC 46 (by decide) (by decide) dX9_see_46
    · replace h := ifn h c30
      refine v_iload_n hC 28 3 dX9_see_28 rfl ?_
      refine v_bipush hC (-9 : Int32) 29 dX9_see_29 (by decide) ?_
      obtain ⟨j47, f47, h⟩ := onm h
      have J47 : ∀ (u9 : Unit), j47 u9 = some (v0, S0) → V g w 5 (Qm g w rmX9_see.cells rmX9_see.slots (some (.int v0)) S0) S 0 0 47 [(0, va_rf r0), (1, .int x1), (2, .int x2), (3, .int x3)] [] := by
        intro u9 h
        replace h := jb1 f47 h
        refine v_aload_n hC 47 0 dX9_see_47 rfl ?_
        refine v_bipush hC (17 : Int32) 48 dX9_see_48 (by decide) ?_
        refine v_iload_n hC 50 1 dX9_see_50 rfl ?_
        refine v_iload_n hC 51 2 dX9_see_51 rfl ?_
        obtain ⟨x25, ex25, h⟩ := obn h
        refine qX9_121 hC rfl 52 ex25 (by decide) (catL (Nat.le_of_ble_eq_true rfl)) (by decide) dX9_see_52 ?_
        refine v_istore hC [(4, .int x25), (0, va_rf r0), (1, .int x1), (2, .int x2), (3, .int x3)] 55 dX9_see_55 (by decide) rfl ?_
        refine v_aload_n hC 57 1 dX9_see_57 rfl ?_
        refine v_bipush hC (17 : Int32) 58 dX9_see_58 (by decide) ?_
        refine v_iload_n hC 60 2 dX9_see_60 rfl ?_
        refine v_iload_n hC 61 3 dX9_see_61 rfl ?_
        refine v_iload_n hC 62 4 dX9_see_62 rfl ?_
        obtain ⟨S26, eS26, h⟩ := obn h
        refine qX9_111 hC rfl 63 eS26 (by decide) (catL (Nat.le_of_ble_eq_true rfl)) (by decide) dX9_see_63 ?_
        refine v_iload hC 66 0 dX9_see_66 rfl ?_
        obtain ⟨rfl, rfl⟩ := sp2 h
        exact v_iret hC 68 (by decide) (by decide) dX9_see_68
      refine v_icmp_eq hC 31 47 dX9_see_31 (by decide) (fun c29 => ?_) (fun c29 => ?_)
      · replace h := ifp h c29
        refine v_sub [(0, va_rf r0), (1, .int x1), (2, .int x2), (3, .int x3)] [0, 1, 2, 3] rfl ?_
        exact J47 _ h
      · replace h := ifn h c29
        refine v_iload_n hC 34 3 dX9_see_34 rfl ?_
        refine v_iconst hC (0 : Int32) 35 dX9_see_35 (by decide) ?_
        refine v_bipush hC (8 : Int32) 36 dX9_see_36 (by decide) ?_
        obtain ⟨x27, ex27, h⟩ := obn h
        refine qX9_97 hC rfl 38 ex27 (by decide) (catL (Nat.le_of_ble_eq_true rfl)) (by decide) dX9_see_38 ?_
        refine v_if_ne hC 41 47 dX9_see_41 (by decide) (fun c28 => ?_) (fun c28 => ?_)
        · replace h := ifp h c28
          refine v_sub [(0, va_rf r0), (1, .int x1), (2, .int x2), (3, .int x3)] [0, 1, 2, 3] rfl ?_
          exact J47 _ h
        · replace h := ifn h (fun q => q c28)
          refine v_bipush hC (-2 : Int32) 44 dX9_see_44 (by decide) ?_
          obtain ⟨rfl, rfl⟩ := sp2 h
          exact v_iret hC 46 (by decide) (by decide) dX9_see_46
abbrev rmX9_slice : Room := { frames := 1, cells := 0, slots := 0, locals := 22 }
theorem hdX9_slice : yX9_slice.cls ≠ "java/lang/invoke/MethodHandle" ∧ yX9_slice.cls ≠ "java/lang/invoke/VarHandle" ∧ (parseMethodDescriptor yX9_slice.desc).map (fun d => d.parameters.length) = some 1 := by decide +kernel
def lX9_slice_19 (N : Nat) (r0 : Option Nat) (x1 : Int32) : Nat → Int32 → pH → Option (pH)
  | 0, _, _ => none
  | n + 1, x23, S24 =>
    if (64 : Int32) ≤ x23 then
    (some S24)
    else
    (gfR S24 9 7 r0).bind fun r25 =>
    (stI S24 r25 ((1088 : Int32) + x23) (-9 : Int32)).bind fun S26 =>
    nm (x23 + (1 : Int32)) fun x27 =>
    lX9_slice_19 N r0 x1 n x27 S26
def fX9_slice (N : Nat) (S : pH) (r0 : Option Nat) (x1 : Int32) : Option (Int32 × pH) :=
  chk S 9 r0 <|
  (fX9_in N S x1 (1 : Int32) (8 : Int32)).bind fun x21 =>
  if ¬ x21 = 0 then
  ((pfV S 9 9 r0 (.int x1)).bind fun S22 =>
  (lX9_slice_19 N r0 x1 N (0 : Int32) S22).bind fun S29 =>
  some (x1, S29))
  else
  some ((-1 : Int32), S)
theorem oX9_slice {N : Nat} {S : pH} {r0 : Option Nat} {x1 : Int32} {z : Int32 × pH} (h : fX9_slice N S r0 x1 = some z) : ∃ fs, obj S 9 r0 = some fs := by
  unfold fX9_slice at h
  exact (chk_spec h).1
set_option maxHeartbeats 1000000 in
set_option maxRecDepth 20000 in
theorem kX9_slice_19 {g : VG} {w : VW} {N : Nat} {r0 : Option Nat} {x1 : Int32} {v0 : Int32} {S0 : pH} (hC : Cx g yX9_slice cX9_slice 3 (some .int) rmX9_slice w) : ∀ (n : Nat) (x23 : Int32) (S24 : pH) (z : (pH)), lX9_slice_19 N r0 x1 n x23 S24 = some z → (∀ (e0 : pH), z = e0 → V g w 3 (Qm g w rmX9_slice.cells rmX9_slice.slots (some (.int v0)) S0) e0 0 0 43 [(1, .int x1)] []) → V g w 3 (Qm g w rmX9_slice.cells rmX9_slice.slots (some (.int v0)) S0) S24 0 0 19 [(0, va_rf r0), (1, .int x1), (2, .int x23)] [] := by
  intro n
  induction n with
  | zero => intro x23 S24 z h; rw [lX9_slice_19] at h; cases h
  | succ n ih =>
    intro x23 S24 z h K
    rw [lX9_slice_19] at h
    refine v_iload_n hC 19 2 dX9_slice_19 rfl ?_
    refine v_bipush hC (64 : Int32) 20 dX9_slice_20 (by decide) ?_
    refine v_icmp_ge hC 22 43 dX9_slice_22 (by decide) (fun c28 => ?_) (fun c28 => ?_)
    · replace h := ifp h c28
      refine v_sub [(1, .int x1)] [1] rfl ?_
      exact K _ (sp1 h)
    · replace h := ifn h c28
      refine v_aload_n hC 25 0 dX9_slice_25 rfl ?_
      obtain ⟨r25, er25, h⟩ := obn h
      refine gRX9_28 hC rfl 26 er25 dX9_slice_26 ?_
      refine v_sipush hC (1088 : Int32) 29 dX9_slice_29 (by decide) ?_
      refine v_iload_n hC 32 2 dX9_slice_32 rfl ?_
      refine v_iadd hC 33 dX9_slice_33 ?_
      refine v_bipush hC (-9 : Int32) 34 dX9_slice_34 (by decide) ?_
      obtain ⟨S26, eS26, h⟩ := obn h
      refine v_iast hC 36 eS26 dX9_slice_36 ?_
      obtain ⟨x27, ex27, h⟩ := onm h
      refine v_iinc hC x27 [(2, .int x27), (0, va_rf r0), (1, .int x1)] 37 2 dX9_slice_37 rfl (by rw [ex27]; rfl) (by decide) rfl ?_
      refine v_goto hC 40 19 dX9_slice_40 (by decide) ?_
      refine v_sub [(0, va_rf r0), (1, .int x1), (2, .int x27)] [1, 2, 0] rfl ?_
      exact ih _ _ _ h K
set_option maxHeartbeats 1000000 in
set_option maxRecDepth 20000 in
theorem tX9_slice {l : Launch} {w : VW} {N : Nat} {S : pH} {r0 : Option Nat} {x1 : Int32} {v0 : Int32} {S0 : pH} (h : fX9_slice N S r0 x1 = some (v0, S0)) : CT l w yX9_slice cX9_slice 3 (some .int) rmX9_slice [va_rf r0, .int x1] S (some (.int v0)) S0 := by
  refine v_entry [(0, va_rf r0), (1, .int x1)] (by decide) (by simp [lg_sl, cat_rf, cat_i, cat_j]) (by simp [lv_args, cat_rf, cat_i, cat_j]) (fun g _ hC => ?_)
  unfold fX9_slice at h
  obtain ⟨hO, h⟩ := chk_spec h
  refine v_iload_n hC 0 1 dX9_slice_0 rfl ?_
  refine v_iconst hC (1 : Int32) 1 dX9_slice_1 (by decide) ?_
  refine v_bipush hC (8 : Int32) 2 dX9_slice_2 (by decide) ?_
  obtain ⟨x21, ex21, h⟩ := obn h
  refine qX9_97 hC rfl 4 ex21 (by decide) (catL (Nat.le_of_ble_eq_true rfl)) (by decide) dX9_slice_4 ?_
  refine v_if_ne hC 7 12 dX9_slice_7 (by decide) (fun c30 => ?_) (fun c30 => ?_)
  · replace h := ifp h c30
    refine v_aload_n hC 12 0 dX9_slice_12 rfl ?_
    refine v_iload_n hC 13 1 dX9_slice_13 rfl ?_
    obtain ⟨S22, eS22, h⟩ := obn h
    refine pRX9_35 hC rfl 14 eS22 dX9_slice_14 ?_
    refine v_iconst hC (0 : Int32) 17 dX9_slice_17 (by decide) ?_
    refine v_istore_n hC [(2, .int (0 : Int32)), (0, va_rf r0), (1, .int x1)] 18 dX9_slice_18 (by decide) rfl ?_
    obtain ⟨S29, E19, h⟩ := obn h
    refine v_sub [(0, va_rf r0), (1, .int x1), (2, .int (0 : Int32))] [1, 2, 0] rfl ?_
    refine kX9_slice_19 hC _ _ _ _ E19 (fun _ hz9 => ?_)
    cases hz9
    refine v_iload_n hC 43 0 dX9_slice_43 rfl ?_
    obtain ⟨rfl, rfl⟩ := sp2 h
    exact v_iret hC 44 (by decide) (by decide) dX9_slice_44
  · replace h := ifn h (fun q => q c30)
    refine v_iconst hC (-1 : Int32) 10 dX9_slice_10 (by decide) ?_
    obtain ⟨rfl, rfl⟩ := sp2 h
    exact v_iret hC 11 (by decide) (by decide) dX9_slice_11
set_option maxRecDepth 20000 in
theorem qX9_207 {g : VG} {w : VW} {nL : Nat} {Q : State → Prop} {S : pH} {kc ks : Nat} {lv : List (Nat × Value)} {rest : List Value} {y : MethodName} {cc : ByteArray} {rt : Option FieldType} {rm : Room} (hC : Cx g y cc nL rt rm w) (hy : y.cls = RX9) (pc : Nat) {N : Nat} {r0 : Option Nat} {x1 : Int32} {x2 : Int32} {v0 : Int32} (h : fX9_isOneStick N S r0 x1 x2 = some v0) (hR : rmX9_isOneStick.frames + 1 ≤ rm.frames ∧ 8 + (6 + 11) + rmX9_isOneStick.locals ≤ rm.locals) (hst : (rest.map fun v => v.category).sum ≤ 8) (hf : kc + 0 ≤ rm.cells ∧ ks + 0 ≤ rm.slots) (d : decode cc pc = .ok (.invokevirtual 207, 3)) (K : V g w nL Q S kc ks (pc + 3) lv (.int v0 :: rest)) : V g w nL Q S kc ks pc lv (.int x2 :: .int x1 :: va_rf r0 :: rest) := by
  obtain ⟨fs, ho⟩ := oX9_isOneStick h
  exact v_callV (As := [.int x1, .int x2]) (rest := rest) (ci := 9) hC pc (tX9_isOneStick (l := g.2.1) (w := w) h) rfl (by decide) ho wG654 (by rw [hy]; exact wG653) wG655 wG656 wG542 hdX9_isOneStick rfl hR hst hf d K
abbrev rmX9_sticks : Room := { frames := 1, cells := 0, slots := 0, locals := 25 }
theorem hdX9_sticks : yX9_sticks.cls ≠ "java/lang/invoke/MethodHandle" ∧ yX9_sticks.cls ≠ "java/lang/invoke/VarHandle" ∧ (parseMethodDescriptor yX9_sticks.desc).map (fun d => d.parameters.length) = some 1 := by decide +kernel
def lX9_sticks_42 (N : Nat) (r0 : Option Nat) (x1 : Int32) (x2 : Int32) : Nat → Int32 → pH → Option (pH)
  | 0, _, _ => none
  | n + 1, x29, S30 =>
    if x29 ≤ 0 then
    (some S30)
    else
    (gfR S30 9 30 r0).bind fun r31 =>
    (ldI S30 0 r31 (x2 &&& (x29 ^^^ (-1 : Int32)))).bind fun x32 =>
    nm (fun (S33 : pH) =>
    nm ((x29 - (1 : Int32)) &&& x2) fun x34 =>
    lX9_sticks_42 N r0 x1 x2 n x34 S33) fun j108 =>
    if x32 = (-9 : Int32) then
    (j108 S30)
    else
    (gfR S30 9 30 r0).bind fun r35 =>
    (ldI S30 0 r35 x2).bind fun x36 =>
    nm (fun (_ : Unit) =>
    (fX9_isOneStick N S30 r0 x29 x1).bind fun x37 =>
    if x37 = 0 then
    (j108 S30)
    else
    (gfR S30 9 30 r0).bind fun r38 =>
    (stI S30 r38 x2 (x32 + (1 : Int32))).bind fun S39 =>
    j108 S39) fun j89 =>
    if x36 = (-9 : Int32) then
    (j89 ())
    else
    (gfR S30 9 30 r0).bind fun r41 =>
    (ldI S30 0 r41 x2).bind fun x42 =>
    if x42 ≤ (x32 + (1 : Int32)) then
    (j108 S30)
    else
    j89 ()
def lX9_sticks_22 (N : Nat) (r0 : Option Nat) (x1 : Int32) : Nat → Int32 → pH → Option (pH)
  | 0, _, _ => none
  | n + 1, x24, S25 =>
    (gfI S25 9 16 r0).bind fun x26 =>
    if ((1 : Int32) <<< (x26 &&& 31)) ≤ x24 then
    (some S25)
    else
    (gfR S25 9 30 r0).bind fun r27 =>
    (stI S25 r27 x24 (-9 : Int32)).bind fun S28 =>
    (lX9_sticks_42 N r0 x1 x24 N x24 S28).bind fun S47 =>
    nm (x24 + (1 : Int32)) fun x48 =>
    lX9_sticks_22 N r0 x1 n x48 S47
def fX9_sticks (N : Nat) (S : pH) (r0 : Option Nat) (x1 : Int32) : Option (Int32 × pH) :=
  chk S 9 r0 <|
  (fX9_in N S x1 (1 : Int32) (300 : Int32)).bind fun x21 =>
  if ¬ x21 = 0 then
  ((gfR S 9 30 r0).bind fun r22 =>
  (stI S r22 (0 : Int32) (0 : Int32)).bind fun S23 =>
  (lX9_sticks_22 N r0 x1 N (1 : Int32) S23).bind fun S50 =>
  (gfR S50 9 30 r0).bind fun r51 =>
  (gfI S50 9 16 r0).bind fun x52 =>
  (ldI S50 0 r51 (((1 : Int32) <<< (x52 &&& 31)) - (1 : Int32))).bind fun x53 =>
  some (x53, S50))
  else
  some ((-1 : Int32), S)
theorem oX9_sticks {N : Nat} {S : pH} {r0 : Option Nat} {x1 : Int32} {z : Int32 × pH} (h : fX9_sticks N S r0 x1 = some z) : ∃ fs, obj S 9 r0 = some fs := by
  unfold fX9_sticks at h
  exact (chk_spec h).1
set_option maxHeartbeats 1000000 in
set_option maxRecDepth 20000 in
theorem kX9_sticks_42 {g : VG} {w : VW} {N : Nat} {r0 : Option Nat} {x1 : Int32} {x2 : Int32} {v0 : Int32} {S0 : pH} (hC : Cx g yX9_sticks cX9_sticks 5 (some .int) rmX9_sticks w) : ∀ (n : Nat) (x29 : Int32) (S30 : pH) (z : (pH)), lX9_sticks_42 N r0 x1 x2 n x29 S30 = some z → (∀ (e0 : pH), z = e0 → V g w 5 (Qm g w rmX9_sticks.cells rmX9_sticks.slots (some (.int v0)) S0) e0 0 0 117 [(0, va_rf r0), (1, .int x1), (2, .int x2)] []) → V g w 5 (Qm g w rmX9_sticks.cells rmX9_sticks.slots (some (.int v0)) S0) S30 0 0 42 [(0, va_rf r0), (1, .int x1), (2, .int x2), (3, .int x29)] [] := by
  intro n
  induction n with
  | zero => intro x29 S30 z h; rw [lX9_sticks_42] at h; cases h
  | succ n ih =>
    intro x29 S30 z h K
    rw [lX9_sticks_42] at h
    refine v_iload_n hC 42 3 dX9_sticks_42 rfl ?_
    refine v_if_le hC 43 117 dX9_sticks_43 (by decide) (fun c46 => ?_) (fun c46 => ?_)
    · replace h := ifp h c46
      refine v_sub [(0, va_rf r0), (1, .int x1), (2, .int x2)] [0, 1, 2] rfl ?_
      exact K _ (sp1 h)
    · replace h := ifn h c46
      refine v_aload_n hC 46 0 dX9_sticks_46 rfl ?_
      obtain ⟨r31, er31, h⟩ := obn h
      refine gRX9_91 hC rfl 47 er31 dX9_sticks_47 ?_
      refine v_iload_n hC 50 2 dX9_sticks_50 rfl ?_
      refine v_iload_n hC 51 3 dX9_sticks_51 rfl ?_
      refine v_iconst hC (-1 : Int32) 52 dX9_sticks_52 (by decide) ?_
      refine v_ixor hC 53 dX9_sticks_53 ?_
      refine v_iand hC 54 dX9_sticks_54 ?_
      obtain ⟨x32, ex32, h⟩ := obn h
      refine v_iald hC 55 ex32 dX9_sticks_55 ?_
      refine v_istore hC [(4, .int x32), (0, va_rf r0), (1, .int x1), (2, .int x2), (3, .int x29)] 56 dX9_sticks_56 (by decide) rfl ?_
      refine v_iload hC 58 0 dX9_sticks_58 rfl ?_
      refine v_bipush hC (-9 : Int32) 60 dX9_sticks_60 (by decide) ?_
      obtain ⟨j108, f108, h⟩ := onm h
      have J108 : ∀ (S33 : pH), j108 S33 = some z → V g w 5 (Qm g w rmX9_sticks.cells rmX9_sticks.slots (some (.int v0)) S0) S33 0 0 108 [(0, va_rf r0), (1, .int x1), (2, .int x2), (3, .int x29)] [] := by
        intro S33 h
        replace h := jb1 f108 h
        refine v_iload_n hC 108 3 dX9_sticks_108 rfl ?_
        refine v_iconst hC (1 : Int32) 109 dX9_sticks_109 (by decide) ?_
        refine v_isub hC 110 dX9_sticks_110 ?_
        refine v_iload_n hC 111 2 dX9_sticks_111 rfl ?_
        refine v_iand hC 112 dX9_sticks_112 ?_
        obtain ⟨x34, ex34, h⟩ := onm h
        refine v_topi x34 ex34 ?_
        refine v_istore_n hC [(3, .int x34), (0, va_rf r0), (1, .int x1), (2, .int x2)] 113 dX9_sticks_113 (by decide) rfl ?_
        refine v_goto hC 114 42 dX9_sticks_114 (by decide) ?_
        refine v_sub [(0, va_rf r0), (1, .int x1), (2, .int x2), (3, .int x34)] [1, 2, 3, 0] rfl ?_
        exact ih _ _ _ h K
      refine v_icmp_eq hC 62 108 dX9_sticks_62 (by decide) (fun c45 => ?_) (fun c45 => ?_)
      · replace h := ifp h c45
        refine v_sub [(0, va_rf r0), (1, .int x1), (2, .int x2), (3, .int x29)] [1, 2, 3, 4] rfl ?_
        exact J108 _ h
      · replace h := ifn h c45
        refine v_aload_n hC 65 1 dX9_sticks_65 rfl ?_
        obtain ⟨r35, er35, h⟩ := obn h
        refine gRX9_91 hC rfl 66 er35 dX9_sticks_66 ?_
        refine v_iload_n hC 69 3 dX9_sticks_69 rfl ?_
        obtain ⟨x36, ex36, h⟩ := obn h
        refine v_iald hC 70 ex36 dX9_sticks_70 ?_
        refine v_bipush hC (-9 : Int32) 71 dX9_sticks_71 (by decide) ?_
        obtain ⟨j89, f89, h⟩ := onm h
        have J89 : ∀ (u9 : Unit), j89 u9 = some z → V g w 5 (Qm g w rmX9_sticks.cells rmX9_sticks.slots (some (.int v0)) S0) S30 0 0 89 [(0, va_rf r0), (1, .int x1), (2, .int x2), (3, .int x29), (4, .int x32)] [] := by
          intro u9 h
          replace h := jb1 f89 h
          refine v_aload_n hC 89 0 dX9_sticks_89 rfl ?_
          refine v_iload_n hC 90 3 dX9_sticks_90 rfl ?_
          refine v_iload_n hC 91 1 dX9_sticks_91 rfl ?_
          obtain ⟨x37, ex37, h⟩ := obn h
          refine qX9_207 hC rfl 92 ex37 (by decide) (catL (Nat.le_of_ble_eq_true rfl)) (by decide) dX9_sticks_92 ?_
          refine v_if_eq hC 95 108 dX9_sticks_95 (by decide) (fun c40 => ?_) (fun c40 => ?_)
          · replace h := ifp h c40
            refine v_sub [(0, va_rf r0), (1, .int x1), (2, .int x2), (3, .int x29)] [0, 1, 2, 3] rfl ?_
            exact J108 _ h
          · replace h := ifn h c40
            refine v_aload_n hC 98 0 dX9_sticks_98 rfl ?_
            obtain ⟨r38, er38, h⟩ := obn h
            refine gRX9_91 hC rfl 99 er38 dX9_sticks_99 ?_
            refine v_iload_n hC 102 2 dX9_sticks_102 rfl ?_
            refine v_iload hC 103 4 dX9_sticks_103 rfl ?_
            refine v_iconst hC (1 : Int32) 105 dX9_sticks_105 (by decide) ?_
            refine v_iadd hC 106 dX9_sticks_106 ?_
            obtain ⟨S39, eS39, h⟩ := obn h
            refine v_iast hC 107 eS39 dX9_sticks_107 ?_
            refine v_sub [(0, va_rf r0), (1, .int x1), (2, .int x2), (3, .int x29)] [0, 1, 2, 3] rfl ?_
            exact J108 _ h
        refine v_icmp_eq hC 73 89 dX9_sticks_73 (by decide) (fun c44 => ?_) (fun c44 => ?_)
        · replace h := ifp h c44
          refine v_sub [(0, va_rf r0), (1, .int x1), (2, .int x2), (3, .int x29), (4, .int x32)] [1, 2, 3, 4, 0] rfl ?_
          exact J89 _ h
        · replace h := ifn h c44
          refine v_iload hC 76 0 dX9_sticks_76 rfl ?_
          refine v_iconst hC (1 : Int32) 78 dX9_sticks_78 (by decide) ?_
          refine v_iadd hC 79 dX9_sticks_79 ?_
          refine v_aload_n hC 80 1 dX9_sticks_80 rfl ?_
          obtain ⟨r41, er41, h⟩ := obn h
          refine gRX9_91 hC rfl 81 er41 dX9_sticks_81 ?_
          refine v_iload_n hC 84 3 dX9_sticks_84 rfl ?_
          obtain ⟨x42, ex42, h⟩ := obn h
          refine v_iald hC 85 ex42 dX9_sticks_85 ?_
          refine v_icmp_ge hC 86 108 dX9_sticks_86 (by decide) (fun c43 => ?_) (fun c43 => ?_)
          · replace h := ifp h c43
            refine v_sub [(0, va_rf r0), (1, .int x1), (2, .int x2), (3, .int x29)] [1, 2, 3, 4] rfl ?_
            exact J108 _ h
          · replace h := ifn h c43
            refine v_sub [(0, va_rf r0), (1, .int x1), (2, .int x2), (3, .int x29), (4, .int x32)] [1, 2, 3, 4, 0] rfl ?_
            exact J89 _ h
set_option maxHeartbeats 1000000 in
set_option maxRecDepth 20000 in
theorem kX9_sticks_22 {g : VG} {w : VW} {N : Nat} {r0 : Option Nat} {x1 : Int32} {v0 : Int32} {S0 : pH} (hC : Cx g yX9_sticks cX9_sticks 5 (some .int) rmX9_sticks w) : ∀ (n : Nat) (x24 : Int32) (S25 : pH) (z : (pH)), lX9_sticks_22 N r0 x1 n x24 S25 = some z → (∀ (e0 : pH), z = e0 → V g w 5 (Qm g w rmX9_sticks.cells rmX9_sticks.slots (some (.int v0)) S0) e0 0 0 123 [(0, va_rf r0)] []) → V g w 5 (Qm g w rmX9_sticks.cells rmX9_sticks.slots (some (.int v0)) S0) S25 0 0 22 [(0, va_rf r0), (1, .int x1), (2, .int x24)] [] := by
  intro n
  induction n with
  | zero => intro x24 S25 z h; rw [lX9_sticks_22] at h; cases h
  | succ n ih =>
    intro x24 S25 z h K
    rw [lX9_sticks_22] at h
    refine v_iload_n hC 22 2 dX9_sticks_22 rfl ?_
    refine v_iconst hC (1 : Int32) 23 dX9_sticks_23 (by decide) ?_
    refine v_aload_n hC 24 0 dX9_sticks_24 rfl ?_
    obtain ⟨x26, ex26, h⟩ := obn h
    refine gRX9_204 hC rfl 25 ex26 dX9_sticks_25 ?_
    refine v_ishl hC 28 dX9_sticks_28 ?_
    refine v_icmp_ge hC 29 123 dX9_sticks_29 (by decide) (fun c49 => ?_) (fun c49 => ?_)
    · replace h := ifp h c49
      refine v_sub [(0, va_rf r0)] [0] rfl ?_
      exact K _ (sp1 h)
    · replace h := ifn h c49
      refine v_aload_n hC 32 0 dX9_sticks_32 rfl ?_
      obtain ⟨r27, er27, h⟩ := obn h
      refine gRX9_91 hC rfl 33 er27 dX9_sticks_33 ?_
      refine v_iload_n hC 36 2 dX9_sticks_36 rfl ?_
      refine v_bipush hC (-9 : Int32) 37 dX9_sticks_37 (by decide) ?_
      obtain ⟨S28, eS28, h⟩ := obn h
      refine v_iast hC 39 eS28 dX9_sticks_39 ?_
      refine v_iload_n hC 40 2 dX9_sticks_40 rfl ?_
      refine v_istore_n hC [(3, .int x24), (0, va_rf r0), (1, .int x1), (2, .int x24)] 41 dX9_sticks_41 (by decide) rfl ?_
      obtain ⟨S47, E42, h⟩ := obn h
      refine v_sub [(0, va_rf r0), (1, .int x1), (2, .int x24), (3, .int x24)] [1, 2, 3, 0] rfl ?_
      refine kX9_sticks_42 hC _ _ _ _ E42 (fun _ hz9 => ?_)
      cases hz9
      obtain ⟨x48, ex48, h⟩ := onm h
      refine v_iinc hC x48 [(2, .int x48), (0, va_rf r0), (1, .int x1)] 117 2 dX9_sticks_117 rfl (by rw [ex48]; rfl) (by decide) rfl ?_
      refine v_goto hC 120 22 dX9_sticks_120 (by decide) ?_
      refine v_sub [(0, va_rf r0), (1, .int x1), (2, .int x48)] [1, 2, 0] rfl ?_
      exact ih _ _ _ h K
set_option maxHeartbeats 1000000 in
set_option maxRecDepth 20000 in
theorem tX9_sticks {l : Launch} {w : VW} {N : Nat} {S : pH} {r0 : Option Nat} {x1 : Int32} {v0 : Int32} {S0 : pH} (h : fX9_sticks N S r0 x1 = some (v0, S0)) : CT l w yX9_sticks cX9_sticks 5 (some .int) rmX9_sticks [va_rf r0, .int x1] S (some (.int v0)) S0 := by
  refine v_entry [(0, va_rf r0), (1, .int x1)] (by decide) (by simp [lg_sl, cat_rf, cat_i, cat_j]) (by simp [lv_args, cat_rf, cat_i, cat_j]) (fun g _ hC => ?_)
  unfold fX9_sticks at h
  obtain ⟨hO, h⟩ := chk_spec h
  refine v_iload_n hC 0 1 dX9_sticks_0 rfl ?_
  refine v_iconst hC (1 : Int32) 1 dX9_sticks_1 (by decide) ?_
  refine v_sipush hC (300 : Int32) 2 dX9_sticks_2 (by decide) ?_
  obtain ⟨x21, ex21, h⟩ := obn h
  refine qX9_97 hC rfl 5 ex21 (by decide) (catL (Nat.le_of_ble_eq_true rfl)) (by decide) dX9_sticks_5 ?_
  refine v_if_ne hC 8 13 dX9_sticks_8 (by decide) (fun c54 => ?_) (fun c54 => ?_)
  · replace h := ifp h c54
    refine v_aload_n hC 13 0 dX9_sticks_13 rfl ?_
    obtain ⟨r22, er22, h⟩ := obn h
    refine gRX9_91 hC rfl 14 er22 dX9_sticks_14 ?_
    refine v_iconst hC (0 : Int32) 17 dX9_sticks_17 (by decide) ?_
    refine v_iconst hC (0 : Int32) 18 dX9_sticks_18 (by decide) ?_
    obtain ⟨S23, eS23, h⟩ := obn h
    refine v_iast hC 19 eS23 dX9_sticks_19 ?_
    refine v_iconst hC (1 : Int32) 20 dX9_sticks_20 (by decide) ?_
    refine v_istore_n hC [(2, .int (1 : Int32)), (0, va_rf r0), (1, .int x1)] 21 dX9_sticks_21 (by decide) rfl ?_
    obtain ⟨S50, E22, h⟩ := obn h
    refine v_sub [(0, va_rf r0), (1, .int x1), (2, .int (1 : Int32))] [1, 2, 0] rfl ?_
    refine kX9_sticks_22 hC _ _ _ _ E22 (fun _ hz9 => ?_)
    cases hz9
    refine v_aload_n hC 123 0 dX9_sticks_123 rfl ?_
    obtain ⟨r51, er51, h⟩ := obn h
    refine gRX9_91 hC rfl 124 er51 dX9_sticks_124 ?_
    refine v_iconst hC (1 : Int32) 127 dX9_sticks_127 (by decide) ?_
    refine v_aload_n hC 128 0 dX9_sticks_128 rfl ?_
    obtain ⟨x52, ex52, h⟩ := obn h
    refine gRX9_204 hC rfl 129 ex52 dX9_sticks_129 ?_
    refine v_ishl hC 132 dX9_sticks_132 ?_
    refine v_iconst hC (1 : Int32) 133 dX9_sticks_133 (by decide) ?_
    refine v_isub hC 134 dX9_sticks_134 ?_
    obtain ⟨x53, ex53, h⟩ := obn h
    refine v_iald hC 135 ex53 dX9_sticks_135 ?_
    obtain ⟨rfl, rfl⟩ := sp2 h
    exact v_iret hC 136 (by decide) (by decide) dX9_sticks_136
  · replace h := ifn h (fun q => q c54)
    refine v_iconst hC (-1 : Int32) 11 dX9_sticks_11 (by decide) ?_
    obtain ⟨rfl, rfl⟩ := sp2 h
    exact v_iret hC 12 (by decide) (by decide) dX9_sticks_12
abbrev rmX9_table : Room := { frames := 1, cells := 0, slots := 0, locals := 22 }
theorem hdX9_table : yX9_table.cls ≠ "java/lang/invoke/MethodHandle" ∧ yX9_table.cls ≠ "java/lang/invoke/VarHandle" ∧ (parseMethodDescriptor yX9_table.desc).map (fun d => d.parameters.length) = some 1 := by decide +kernel
def lX9_table_18 (N : Nat) (r0 : Option Nat) (x1 : Int32) : Nat → Int32 → pH → Option (pH)
  | 0, _, _ => none
  | n + 1, x23, S24 =>
    if (16 : Int32) ≤ x23 then
    (some S24)
    else
    (gfR S24 9 11 r0).bind fun r25 =>
    (stI S24 r25 x23 (-9 : Int32)).bind fun S26 =>
    nm (x23 + (1 : Int32)) fun x27 =>
    lX9_table_18 N r0 x1 n x27 S26
def fX9_table (N : Nat) (S : pH) (r0 : Option Nat) (x1 : Int32) : Option (Int32 × pH) :=
  chk S 9 r0 <|
  (fX9_in N S x1 (2 : Int32) (4 : Int32)).bind fun x21 =>
  if ¬ x21 = 0 then
  ((pfV S 9 10 r0 (.int x1)).bind fun S22 =>
  (lX9_table_18 N r0 x1 N (0 : Int32) S22).bind fun S29 =>
  some (x1 * x1, S29))
  else
  some ((-1 : Int32), S)
theorem oX9_table {N : Nat} {S : pH} {r0 : Option Nat} {x1 : Int32} {z : Int32 × pH} (h : fX9_table N S r0 x1 = some z) : ∃ fs, obj S 9 r0 = some fs := by
  unfold fX9_table at h
  exact (chk_spec h).1
set_option maxHeartbeats 1000000 in
set_option maxRecDepth 20000 in
theorem kX9_table_18 {g : VG} {w : VW} {N : Nat} {r0 : Option Nat} {x1 : Int32} {v0 : Int32} {S0 : pH} (hC : Cx g yX9_table cX9_table 3 (some .int) rmX9_table w) : ∀ (n : Nat) (x23 : Int32) (S24 : pH) (z : (pH)), lX9_table_18 N r0 x1 n x23 S24 = some z → (∀ (e0 : pH), z = e0 → V g w 3 (Qm g w rmX9_table.cells rmX9_table.slots (some (.int v0)) S0) e0 0 0 38 [(1, .int x1)] []) → V g w 3 (Qm g w rmX9_table.cells rmX9_table.slots (some (.int v0)) S0) S24 0 0 18 [(0, va_rf r0), (1, .int x1), (2, .int x23)] [] := by
  intro n
  induction n with
  | zero => intro x23 S24 z h; rw [lX9_table_18] at h; cases h
  | succ n ih =>
    intro x23 S24 z h K
    rw [lX9_table_18] at h
    refine v_iload_n hC 18 2 dX9_table_18 rfl ?_
    refine v_bipush hC (16 : Int32) 19 dX9_table_19 (by decide) ?_
    refine v_icmp_ge hC 21 38 dX9_table_21 (by decide) (fun c28 => ?_) (fun c28 => ?_)
    · replace h := ifp h c28
      refine v_sub [(1, .int x1)] [1] rfl ?_
      exact K _ (sp1 h)
    · replace h := ifn h c28
      refine v_aload_n hC 24 0 dX9_table_24 rfl ?_
      obtain ⟨r25, er25, h⟩ := obn h
      refine gRX9_41 hC rfl 25 er25 dX9_table_25 ?_
      refine v_iload_n hC 28 2 dX9_table_28 rfl ?_
      refine v_bipush hC (-9 : Int32) 29 dX9_table_29 (by decide) ?_
      obtain ⟨S26, eS26, h⟩ := obn h
      refine v_iast hC 31 eS26 dX9_table_31 ?_
      obtain ⟨x27, ex27, h⟩ := onm h
      refine v_iinc hC x27 [(2, .int x27), (0, va_rf r0), (1, .int x1)] 32 2 dX9_table_32 rfl (by rw [ex27]; rfl) (by decide) rfl ?_
      refine v_goto hC 35 18 dX9_table_35 (by decide) ?_
      refine v_sub [(0, va_rf r0), (1, .int x1), (2, .int x27)] [1, 2, 0] rfl ?_
      exact ih _ _ _ h K
set_option maxHeartbeats 1000000 in
set_option maxRecDepth 20000 in
theorem tX9_table {l : Launch} {w : VW} {N : Nat} {S : pH} {r0 : Option Nat} {x1 : Int32} {v0 : Int32} {S0 : pH} (h : fX9_table N S r0 x1 = some (v0, S0)) : CT l w yX9_table cX9_table 3 (some .int) rmX9_table [va_rf r0, .int x1] S (some (.int v0)) S0 := by
  refine v_entry [(0, va_rf r0), (1, .int x1)] (by decide) (by simp [lg_sl, cat_rf, cat_i, cat_j]) (by simp [lv_args, cat_rf, cat_i, cat_j]) (fun g _ hC => ?_)
  unfold fX9_table at h
  obtain ⟨hO, h⟩ := chk_spec h
  refine v_iload_n hC 0 1 dX9_table_0 rfl ?_
  refine v_iconst hC (2 : Int32) 1 dX9_table_1 (by decide) ?_
  refine v_iconst hC (4 : Int32) 2 dX9_table_2 (by decide) ?_
  obtain ⟨x21, ex21, h⟩ := obn h
  refine qX9_97 hC rfl 3 ex21 (by decide) (catL (Nat.le_of_ble_eq_true rfl)) (by decide) dX9_table_3 ?_
  refine v_if_ne hC 6 11 dX9_table_6 (by decide) (fun c30 => ?_) (fun c30 => ?_)
  · replace h := ifp h c30
    refine v_aload_n hC 11 0 dX9_table_11 rfl ?_
    refine v_iload_n hC 12 1 dX9_table_12 rfl ?_
    obtain ⟨S22, eS22, h⟩ := obn h
    refine pRX9_38 hC rfl 13 eS22 dX9_table_13 ?_
    refine v_iconst hC (0 : Int32) 16 dX9_table_16 (by decide) ?_
    refine v_istore_n hC [(2, .int (0 : Int32)), (0, va_rf r0), (1, .int x1)] 17 dX9_table_17 (by decide) rfl ?_
    obtain ⟨S29, E18, h⟩ := obn h
    refine v_sub [(0, va_rf r0), (1, .int x1), (2, .int (0 : Int32))] [1, 2, 0] rfl ?_
    refine kX9_table_18 hC _ _ _ _ E18 (fun _ hz9 => ?_)
    cases hz9
    refine v_iload_n hC 38 0 dX9_table_38 rfl ?_
    refine v_iload_n hC 39 0 dX9_table_39 rfl ?_
    refine v_imul hC 40 dX9_table_40 ?_
    obtain ⟨rfl, rfl⟩ := sp2 h
    exact v_iret hC 41 (by decide) (by decide) dX9_table_41
  · replace h := ifn h (fun q => q c30)
    refine v_iconst hC (-1 : Int32) 9 dX9_table_9 (by decide) ?_
    obtain ⟨rfl, rfl⟩ := sp2 h
    exact v_iret hC 10 (by decide) (by decide) dX9_table_10
abbrev rmX9_tolerance : Room := { frames := 1, cells := 0, slots := 0, locals := 22 }
theorem hdX9_tolerance : yX9_tolerance.cls ≠ "java/lang/invoke/MethodHandle" ∧ yX9_tolerance.cls ≠ "java/lang/invoke/VarHandle" ∧ (parseMethodDescriptor yX9_tolerance.desc).map (fun d => d.parameters.length) = some 1 := by decide +kernel
def fX9_tolerance (N : Nat) (S : pH) (r0 : Option Nat) (x1 : Int32) : Option (Int32 × pH) :=
  chk S 9 r0 <|
  (fX9_in N S x1 (0 : Int32) (99 : Int32)).bind fun x21 =>
  if ¬ x21 = 0 then
  ((gfI S 9 15 r0).bind fun x22 =>
  (pfV S 9 15 r0 (.int x1)).bind fun S23 =>
  some (x22, S23))
  else
  some ((-1 : Int32), S)
theorem oX9_tolerance {N : Nat} {S : pH} {r0 : Option Nat} {x1 : Int32} {z : Int32 × pH} (h : fX9_tolerance N S r0 x1 = some z) : ∃ fs, obj S 9 r0 = some fs := by
  unfold fX9_tolerance at h
  exact (chk_spec h).1
set_option maxHeartbeats 1000000 in
set_option maxRecDepth 20000 in
theorem tX9_tolerance {l : Launch} {w : VW} {N : Nat} {S : pH} {r0 : Option Nat} {x1 : Int32} {v0 : Int32} {S0 : pH} (h : fX9_tolerance N S r0 x1 = some (v0, S0)) : CT l w yX9_tolerance cX9_tolerance 3 (some .int) rmX9_tolerance [va_rf r0, .int x1] S (some (.int v0)) S0 := by
  refine v_entry [(0, va_rf r0), (1, .int x1)] (by decide) (by simp [lg_sl, cat_rf, cat_i, cat_j]) (by simp [lv_args, cat_rf, cat_i, cat_j]) (fun g _ hC => ?_)
  unfold fX9_tolerance at h
  obtain ⟨hO, h⟩ := chk_spec h
  refine v_iload_n hC 0 1 dX9_tolerance_0 rfl ?_
  refine v_iconst hC (0 : Int32) 1 dX9_tolerance_1 (by decide) ?_
  refine v_bipush hC (99 : Int32) 2 dX9_tolerance_2 (by decide) ?_
  obtain ⟨x21, ex21, h⟩ := obn h
  refine qX9_97 hC rfl 4 ex21 (by decide) (catL (Nat.le_of_ble_eq_true rfl)) (by decide) dX9_tolerance_4 ?_
  refine v_if_ne hC 7 12 dX9_tolerance_7 (by decide) (fun c24 => ?_) (fun c24 => ?_)
  · replace h := ifp h c24
    refine v_aload_n hC 12 0 dX9_tolerance_12 rfl ?_
    obtain ⟨x22, ex22, h⟩ := obn h
    refine gRX9_54 hC rfl 13 ex22 dX9_tolerance_13 ?_
    refine v_istore_n hC [(2, .int x22), (0, va_rf r0), (1, .int x1)] 16 dX9_tolerance_16 (by decide) rfl ?_
    refine v_aload_n hC 17 1 dX9_tolerance_17 rfl ?_
    refine v_iload_n hC 18 2 dX9_tolerance_18 rfl ?_
    obtain ⟨S23, eS23, h⟩ := obn h
    refine pRX9_54 hC rfl 19 eS23 dX9_tolerance_19 ?_
    refine v_iload_n hC 22 0 dX9_tolerance_22 rfl ?_
    obtain ⟨rfl, rfl⟩ := sp2 h
    exact v_iret hC 23 (by decide) (by decide) dX9_tolerance_23
  · replace h := ifn h (fun q => q c24)
    refine v_iconst hC (-1 : Int32) 10 dX9_tolerance_10 (by decide) ?_
    obtain ⟨rfl, rfl⟩ := sp2 h
    exact v_iret hC 11 (by decide) (by decide) dX9_tolerance_11
abbrev rmX9_trace : Room := { frames := 0, cells := 0, slots := 0, locals := 0 }
theorem hdX9_trace : yX9_trace.cls ≠ "java/lang/invoke/MethodHandle" ∧ yX9_trace.cls ≠ "java/lang/invoke/VarHandle" ∧ (parseMethodDescriptor yX9_trace.desc).map (fun d => d.parameters.length) = some 0 := by decide +kernel
def fX9_trace (N : Nat) (S : pH) (r0 : Option Nat) : Option (Int64) :=
  chk S 9 r0 <|
  (gfJ S 9 23 r0).bind fun j21 =>
  some j21
theorem oX9_trace {N : Nat} {S : pH} {r0 : Option Nat} {z : Int64} (h : fX9_trace N S r0 = some z) : ∃ fs, obj S 9 r0 = some fs := by
  unfold fX9_trace at h
  exact (chk_spec h).1
set_option maxHeartbeats 1000000 in
set_option maxRecDepth 20000 in
theorem tX9_trace {l : Launch} {w : VW} {N : Nat} {S : pH} {r0 : Option Nat} {v0 : Int64} (h : fX9_trace N S r0 = some v0) : CT l w yX9_trace cX9_trace 1 (some .long) rmX9_trace [va_rf r0] S (some (.long v0)) S := by
  refine v_entry [(0, va_rf r0)] (by decide) (by simp [lg_sl, cat_rf, cat_i, cat_j]) (by simp [lv_args, cat_rf, cat_i, cat_j]) (fun g _ hC => ?_)
  unfold fX9_trace at h
  obtain ⟨hO, h⟩ := chk_spec h
  refine v_aload_n hC 0 0 dX9_trace_0 rfl ?_
  obtain ⟨j21, ej21, h⟩ := obn h
  refine gRX9_139 hC rfl 1 ej21 dX9_trace_1 ?_
  obtain rfl := sp1 h
  exact v_lret hC 4 (by decide) (by decide) dX9_trace_4
abbrev rmX9_twist : Room := { frames := 3, cells := 0, slots := 0, locals := 64 }
theorem hdX9_twist : yX9_twist.cls ≠ "java/lang/invoke/MethodHandle" ∧ yX9_twist.cls ≠ "java/lang/invoke/VarHandle" ∧ (parseMethodDescriptor yX9_twist.desc).map (fun d => d.parameters.length) = some 2 := by decide +kernel
def fX9_twist (N : Nat) (S : pH) (r0 : Option Nat) (x1 : Int32) (x2 : Int32) : Option (Int32 × pH) :=
  chk S 9 r0 <|
  (fX9_isWhole N S r0 x1).bind fun x21 =>
  if x21 = 0 then
  (some ((-1 : Int32), S))
  else
  (fX9_in N S x2 (0 : Int32) (40 : Int32)).bind fun x22 =>
  if ¬ x22 = 0 then
  ((gfR S 9 6 r0).bind fun r23 =>
  (ldI S 0 r23 x1).bind fun x24 =>
  (gfR S 9 6 r0).bind fun r25 =>
  (stI S r25 x1 x2).bind fun S26 =>
  some (x24, S26))
  else
  some ((-1 : Int32), S)
theorem oX9_twist {N : Nat} {S : pH} {r0 : Option Nat} {x1 : Int32} {x2 : Int32} {z : Int32 × pH} (h : fX9_twist N S r0 x1 x2 = some z) : ∃ fs, obj S 9 r0 = some fs := by
  unfold fX9_twist at h
  exact (chk_spec h).1
set_option maxHeartbeats 1000000 in
set_option maxRecDepth 20000 in
theorem tX9_twist {l : Launch} {w : VW} {N : Nat} {S : pH} {r0 : Option Nat} {x1 : Int32} {x2 : Int32} {v0 : Int32} {S0 : pH} (h : fX9_twist N S r0 x1 x2 = some (v0, S0)) : CT l w yX9_twist cX9_twist 4 (some .int) rmX9_twist [va_rf r0, .int x1, .int x2] S (some (.int v0)) S0 := by
  refine v_entry [(0, va_rf r0), (1, .int x1), (2, .int x2)] (by decide) (by simp [lg_sl, cat_rf, cat_i, cat_j]) (by simp [lv_args, cat_rf, cat_i, cat_j]) (fun g _ hC => ?_)
  unfold fX9_twist at h
  obtain ⟨hO, h⟩ := chk_spec h
  refine v_aload_n hC 0 0 dX9_twist_0 rfl ?_
  refine v_iload_n hC 1 1 dX9_twist_1 rfl ?_
  obtain ⟨x21, ex21, h⟩ := obn h
  refine qX9_125 hC rfl 2 ex21 (by decide) (catL (Nat.le_of_ble_eq_true rfl)) (by decide) dX9_twist_2 ?_
  refine v_if_eq hC 5 18 dX9_twist_5 (by decide) (fun c28 => ?_) (fun c28 => ?_)
  · replace h := ifp h c28
    refine v_iconst hC (-1 : Int32) 18 dX9_twist_18 (by decide) ?_
    obtain ⟨rfl, rfl⟩ := sp2 h
    exact v_iret hC 19 (by decide) (by decide) dX9_twist_19
  · replace h := ifn h c28
    refine v_iload_n hC 8 2 dX9_twist_8 rfl ?_
    refine v_iconst hC (0 : Int32) 9 dX9_twist_9 (by decide) ?_
    refine v_bipush hC (40 : Int32) 10 dX9_twist_10 (by decide) ?_
    obtain ⟨x22, ex22, h⟩ := obn h
    refine qX9_97 hC rfl 12 ex22 (by decide) (catL (Nat.le_of_ble_eq_true rfl)) (by decide) dX9_twist_12 ?_
    refine v_if_ne hC 15 20 dX9_twist_15 (by decide) (fun c27 => ?_) (fun c27 => ?_)
    · replace h := ifp h c27
      refine v_aload_n hC 20 0 dX9_twist_20 rfl ?_
      obtain ⟨r23, er23, h⟩ := obn h
      refine gRX9_25 hC rfl 21 er23 dX9_twist_21 ?_
      refine v_iload_n hC 24 1 dX9_twist_24 rfl ?_
      obtain ⟨x24, ex24, h⟩ := obn h
      refine v_iald hC 25 ex24 dX9_twist_25 ?_
      refine v_istore_n hC [(3, .int x24), (0, va_rf r0), (1, .int x1), (2, .int x2)] 26 dX9_twist_26 (by decide) rfl ?_
      refine v_aload_n hC 27 1 dX9_twist_27 rfl ?_
      obtain ⟨r25, er25, h⟩ := obn h
      refine gRX9_25 hC rfl 28 er25 dX9_twist_28 ?_
      refine v_iload_n hC 31 2 dX9_twist_31 rfl ?_
      refine v_iload_n hC 32 3 dX9_twist_32 rfl ?_
      obtain ⟨S26, eS26, h⟩ := obn h
      refine v_iast hC 33 eS26 dX9_twist_33 ?_
      refine v_iload_n hC 34 0 dX9_twist_34 rfl ?_
      obtain ⟨rfl, rfl⟩ := sp2 h
      exact v_iret hC 35 (by decide) (by decide) dX9_twist_35
    · replace h := ifn h (fun q => q c27)
      refine v_iconst hC (-1 : Int32) 18 dX9_twist_18 (by decide) ?_
      obtain ⟨rfl, rfl⟩ := sp2 h
      exact v_iret hC 19 (by decide) (by decide) dX9_twist_19
set_option maxRecDepth 20000 in
theorem qX9_187 {g : VG} {w : VW} {nL : Nat} {Q : State → Prop} {S : pH} {kc ks : Nat} {lv : List (Nat × Value)} {rest : List Value} {y : MethodName} {cc : ByteArray} {rt : Option FieldType} {rm : Room} (hC : Cx g y cc nL rt rm w) (hy : y.cls = RX9) (pc : Nat) {N : Nat} {r0 : Option Nat} {x1 : Int32} {x2 : Int32} {x3 : Int32} {x4 : Int32} {v0 : Int32} (h : fX9_hasColumns N S r0 x1 x2 x3 x4 = some v0) (hR : rmX9_hasColumns.frames + 1 ≤ rm.frames ∧ 8 + (9 + 11) + rmX9_hasColumns.locals ≤ rm.locals) (hst : (rest.map fun v => v.category).sum ≤ 8) (hf : kc + 0 ≤ rm.cells ∧ ks + 0 ≤ rm.slots) (d : decode cc pc = .ok (.invokevirtual 187, 3)) (K : V g w nL Q S kc ks (pc + 3) lv (.int v0 :: rest)) : V g w nL Q S kc ks pc lv (.int x4 :: .int x3 :: .int x2 :: .int x1 :: va_rf r0 :: rest) := by
  obtain ⟨fs, ho⟩ := oX9_hasColumns h
  exact v_callV (As := [.int x1, .int x2, .int x3, .int x4]) (rest := rest) (ci := 9) hC pc (tX9_hasColumns (l := g.2.1) (w := w) h) rfl (by decide) ho wG658 (by rw [hy]; exact wG657) wG659 wG660 wG542 hdX9_hasColumns rfl hR hst hf d K
abbrev rmX9_two : Room := { frames := 3, cells := 0, slots := 0, locals := 81 }
theorem hdX9_two : yX9_two.cls ≠ "java/lang/invoke/MethodHandle" ∧ yX9_two.cls ≠ "java/lang/invoke/VarHandle" ∧ (parseMethodDescriptor yX9_two.desc).map (fun d => d.parameters.length) = some 2 := by decide +kernel
def lX9_two_63 (N : Nat) (S : pH) (r0 : Option Nat) (x1 : Int32) (x2 : Int32) (x4 : Int32) : Nat → Int32 → Int32 → Option (Int32)
  | 0, _, _ => none
  | n + 1, x32, x33 =>
    if (16 : Int32) ≤ x33 then
    (some x32)
    else
    (fX9_hasColumns N S r0 x1 (x33 / (4 : Int32)) (0 : Int32) x4).bind fun x34 =>
    nm (fun (x35 : Int32) (x36 : Int32) =>
    nm (x35 + x36) fun x37 =>
    nm (x33 + (1 : Int32)) fun x38 =>
    lX9_two_63 N S r0 x1 x2 x4 n x37 x38) fun j109 =>
    nm (fun (x39 : Int32) =>
    j109 x39 (0 : Int32)) fun j108 =>
    if x34 = 0 then
    (j108 x32)
    else
    (gfI S 9 9 r0).bind fun x40 =>
    (fX9_hasColumns N S r0 x2 (x33 - x33 / (4 : Int32) * (4 : Int32)) x4 x40).bind fun x41 =>
    if x41 = 0 then
    (j108 x32)
    else
    j109 x32 (1 : Int32)
def lX9_two_51 (N : Nat) (S : pH) (r0 : Option Nat) (x1 : Int32) (x2 : Int32) : Nat → Int32 → Int32 → Option (Int32)
  | 0, _, _ => none
  | n + 1, x29, x30 =>
    (gfI S 9 9 r0).bind fun x31 =>
    if x31 ≤ x30 then
    (some x29)
    else
    (lX9_two_63 N S r0 x1 x2 x30 N x29 (0 : Int32)).bind fun x45 =>
    nm (x30 + (1 : Int32)) fun x46 =>
    lX9_two_51 N S r0 x1 x2 n x45 x46
def fX9_two (N : Nat) (S : pH) (r0 : Option Nat) (x1 : Int32) (x2 : Int32) : Option (Int32) :=
  chk S 9 r0 <|
  (fX9_isCane N S r0 x1).bind fun x21 =>
  if x21 = 0 then
  (some (-1 : Int32))
  else
  (fX9_isCane N S r0 x2).bind fun x22 =>
  if ¬ x22 = 0 then
  ((gfR S 9 3 r0).bind fun r23 =>
  (ldI S 0 r23 x1).bind fun x24 =>
  (gfI S 9 9 r0).bind fun x25 =>
  if ¬ x24 = x25 then
  (some (0 : Int32))
  else
  (gfR S 9 3 r0).bind fun r26 =>
  (ldI S 0 r26 x2).bind fun x27 =>
  (gfI S 9 9 r0).bind fun x28 =>
  if x27 = x28 then
  ((lX9_two_51 N S r0 x1 x2 N (0 : Int32) (1 : Int32)).bind fun x48 =>
  some x48)
  else
  some (0 : Int32))
  else
  some (-1 : Int32)
theorem oX9_two {N : Nat} {S : pH} {r0 : Option Nat} {x1 : Int32} {x2 : Int32} {z : Int32} (h : fX9_two N S r0 x1 x2 = some z) : ∃ fs, obj S 9 r0 = some fs := by
  unfold fX9_two at h
  exact (chk_spec h).1
set_option maxHeartbeats 1000000 in
set_option maxRecDepth 20000 in
theorem kX9_two_63 {g : VG} {w : VW} {N : Nat} {S : pH} {r0 : Option Nat} {x1 : Int32} {x2 : Int32} {x4 : Int32} {v0 : Int32} (hC : Cx g yX9_two cX9_two 6 (some .int) rmX9_two w) : ∀ (n : Nat) (x32 : Int32) (x33 : Int32) (z : (Int32)), lX9_two_63 N S r0 x1 x2 x4 n x32 x33 = some z → (∀ (e0 : Int32), z = e0 → V g w 6 (Qm g w rmX9_two.cells rmX9_two.slots (some (.int v0)) S) S 0 0 117 [(0, va_rf r0), (1, .int x1), (2, .int x2), (3, .int e0), (4, .int x4)] []) → V g w 6 (Qm g w rmX9_two.cells rmX9_two.slots (some (.int v0)) S) S 0 0 63 [(0, va_rf r0), (1, .int x1), (2, .int x2), (3, .int x32), (4, .int x4), (5, .int x33)] [] := by
  intro n
  induction n with
  | zero => intro x32 x33 z h; rw [lX9_two_63] at h; cases h
  | succ n ih =>
    intro x32 x33 z h K
    rw [lX9_two_63] at h
    refine v_iload hC 63 5 dX9_two_63 rfl ?_
    refine v_bipush hC (16 : Int32) 65 dX9_two_65 (by decide) ?_
    refine v_icmp_ge hC 67 117 dX9_two_67 (by decide) (fun c44 => ?_) (fun c44 => ?_)
    · replace h := ifp h c44
      refine v_sub [(0, va_rf r0), (1, .int x1), (2, .int x2), (3, .int x32), (4, .int x4)] [0, 1, 2, 3, 4] rfl ?_
      exact K _ (sp1 h)
    · replace h := ifn h c44
      refine v_iload_n hC 70 3 dX9_two_70 rfl ?_
      refine v_aload_n hC 71 0 dX9_two_71 rfl ?_
      refine v_iload_n hC 72 1 dX9_two_72 rfl ?_
      refine v_iload hC 73 5 dX9_two_73 rfl ?_
      refine v_iconst hC (4 : Int32) 75 dX9_two_75 (by decide) ?_
      refine v_idiv hC 76 (by decide) dX9_two_76 ?_
      refine v_iconst hC (0 : Int32) 77 dX9_two_77 (by decide) ?_
      refine v_iload hC 78 4 dX9_two_78 rfl ?_
      obtain ⟨x34, ex34, h⟩ := obn h
      refine qX9_187 hC rfl 80 ex34 (by decide) (catL (Nat.le_of_ble_eq_true rfl)) (by decide) dX9_two_80 ?_
      obtain ⟨j109, f109, h⟩ := onm h
      have J109 : ∀ (x35 : Int32) (x36 : Int32), j109 x35 x36 = some z → V g w 6 (Qm g w rmX9_two.cells rmX9_two.slots (some (.int v0)) S) S 0 0 109 [(0, va_rf r0), (1, .int x1), (2, .int x2), (4, .int x4), (5, .int x33)] [.int x36, .int x35] := by
        intro x35 x36 h
        replace h := jb2 f109 h
        refine v_iadd hC 109 dX9_two_109 ?_
        obtain ⟨x37, ex37, h⟩ := onm h
        refine v_topi x37 ex37 ?_
        refine v_istore_n hC [(3, .int x37), (0, va_rf r0), (1, .int x1), (2, .int x2), (4, .int x4), (5, .int x33)] 110 dX9_two_110 (by decide) rfl ?_
        obtain ⟨x38, ex38, h⟩ := onm h
        refine v_iinc hC x38 [(5, .int x38), (3, .int x37), (0, va_rf r0), (1, .int x1), (2, .int x2), (4, .int x4)] 111 5 dX9_two_111 rfl (by rw [ex38]; rfl) (by decide) rfl ?_
        refine v_goto hC 114 63 dX9_two_114 (by decide) ?_
        refine v_sub [(0, va_rf r0), (1, .int x1), (2, .int x2), (3, .int x37), (4, .int x4), (5, .int x38)] [2, 3, 4, 1, 5, 0] rfl ?_
        exact ih _ _ _ h K
      obtain ⟨j108, f108, h⟩ := onm h
      have J108 : ∀ (x39 : Int32), j108 x39 = some z → V g w 6 (Qm g w rmX9_two.cells rmX9_two.slots (some (.int v0)) S) S 0 0 108 [(0, va_rf r0), (1, .int x1), (2, .int x2), (4, .int x4), (5, .int x33)] [.int x39] := by
        intro x39 h
        replace h := jb1 f108 h
        refine v_iconst hC (0 : Int32) 108 dX9_two_108 (by decide) ?_
        refine v_sub [(0, va_rf r0), (1, .int x1), (2, .int x2), (4, .int x4), (5, .int x33)] [0, 1, 2, 3, 4] rfl ?_
        exact J109 _ _ h
      refine v_if_eq hC 83 108 dX9_two_83 (by decide) (fun c43 => ?_) (fun c43 => ?_)
      · replace h := ifp h c43
        refine v_sub [(0, va_rf r0), (1, .int x1), (2, .int x2), (4, .int x4), (5, .int x33)] [0, 1, 2, 4, 5] rfl ?_
        exact J108 _ h
      · replace h := ifn h c43
        refine v_aload_n hC 86 0 dX9_two_86 rfl ?_
        refine v_iload_n hC 87 2 dX9_two_87 rfl ?_
        refine v_iload hC 88 5 dX9_two_88 rfl ?_
        refine v_iconst hC (4 : Int32) 90 dX9_two_90 (by decide) ?_
        refine v_irem hC 91 (by decide) dX9_two_91 ?_
        refine v_iload hC 92 4 dX9_two_92 rfl ?_
        refine v_aload_n hC 94 0 dX9_two_94 rfl ?_
        obtain ⟨x40, ex40, h⟩ := obn h
        refine gRX9_35 hC rfl 95 ex40 dX9_two_95 ?_
        obtain ⟨x41, ex41, h⟩ := obn h
        refine qX9_187 hC rfl 98 ex41 (by decide) (catL (Nat.le_of_ble_eq_true rfl)) (by decide) dX9_two_98 ?_
        refine v_if_eq hC 101 108 dX9_two_101 (by decide) (fun c42 => ?_) (fun c42 => ?_)
        · replace h := ifp h c42
          refine v_sub [(0, va_rf r0), (1, .int x1), (2, .int x2), (4, .int x4), (5, .int x33)] [0, 1, 2, 4, 5] rfl ?_
          exact J108 _ h
        · replace h := ifn h c42
          refine v_iconst hC (1 : Int32) 104 dX9_two_104 (by decide) ?_
          refine v_goto hC 105 109 dX9_two_105 (by decide) ?_
          refine v_sub [(0, va_rf r0), (1, .int x1), (2, .int x2), (4, .int x4), (5, .int x33)] [0, 1, 2, 4, 5] rfl ?_
          exact J109 _ _ h
set_option maxHeartbeats 1000000 in
set_option maxRecDepth 20000 in
theorem kX9_two_51 {g : VG} {w : VW} {N : Nat} {S : pH} {r0 : Option Nat} {x1 : Int32} {x2 : Int32} {v0 : Int32} (hC : Cx g yX9_two cX9_two 6 (some .int) rmX9_two w) : ∀ (n : Nat) (x29 : Int32) (x30 : Int32) (z : (Int32)), lX9_two_51 N S r0 x1 x2 n x29 x30 = some z → (∀ (e0 : Int32), z = e0 → V g w 6 (Qm g w rmX9_two.cells rmX9_two.slots (some (.int v0)) S) S 0 0 123 [(3, .int e0)] []) → V g w 6 (Qm g w rmX9_two.cells rmX9_two.slots (some (.int v0)) S) S 0 0 51 [(0, va_rf r0), (1, .int x1), (2, .int x2), (3, .int x29), (4, .int x30)] [] := by
  intro n
  induction n with
  | zero => intro x29 x30 z h; rw [lX9_two_51] at h; cases h
  | succ n ih =>
    intro x29 x30 z h K
    rw [lX9_two_51] at h
    refine v_iload hC 51 4 dX9_two_51 rfl ?_
    refine v_aload_n hC 53 0 dX9_two_53 rfl ?_
    obtain ⟨x31, ex31, h⟩ := obn h
    refine gRX9_35 hC rfl 54 ex31 dX9_two_54 ?_
    refine v_icmp_ge hC 57 123 dX9_two_57 (by decide) (fun c47 => ?_) (fun c47 => ?_)
    · replace h := ifp h c47
      refine v_sub [(3, .int x29)] [3] rfl ?_
      exact K _ (sp1 h)
    · replace h := ifn h c47
      refine v_iconst hC (0 : Int32) 60 dX9_two_60 (by decide) ?_
      refine v_istore hC [(5, .int (0 : Int32)), (0, va_rf r0), (1, .int x1), (2, .int x2), (3, .int x29), (4, .int x30)] 61 dX9_two_61 (by decide) rfl ?_
      obtain ⟨x45, E63, h⟩ := obn h
      refine v_sub [(0, va_rf r0), (1, .int x1), (2, .int x2), (3, .int x29), (4, .int x30), (5, .int (0 : Int32))] [1, 2, 3, 4, 5, 0] rfl ?_
      refine kX9_two_63 hC _ _ _ _ E63 (fun _ hz9 => ?_)
      cases hz9
      obtain ⟨x46, ex46, h⟩ := onm h
      refine v_iinc hC x46 [(4, .int x46), (0, va_rf r0), (1, .int x1), (2, .int x2), (3, .int x45)] 117 4 dX9_two_117 rfl (by rw [ex46]; rfl) (by decide) rfl ?_
      refine v_goto hC 120 51 dX9_two_120 (by decide) ?_
      refine v_sub [(0, va_rf r0), (1, .int x1), (2, .int x2), (3, .int x45), (4, .int x46)] [1, 2, 3, 4, 0] rfl ?_
      exact ih _ _ _ h K
set_option maxHeartbeats 1000000 in
set_option maxRecDepth 20000 in
theorem tX9_two {l : Launch} {w : VW} {N : Nat} {S : pH} {r0 : Option Nat} {x1 : Int32} {x2 : Int32} {v0 : Int32} (h : fX9_two N S r0 x1 x2 = some v0) : CT l w yX9_two cX9_two 6 (some .int) rmX9_two [va_rf r0, .int x1, .int x2] S (some (.int v0)) S := by
  refine v_entry [(0, va_rf r0), (1, .int x1), (2, .int x2)] (by decide) (by simp [lg_sl, cat_rf, cat_i, cat_j]) (by simp [lv_args, cat_rf, cat_i, cat_j]) (fun g _ hC => ?_)
  unfold fX9_two at h
  obtain ⟨hO, h⟩ := chk_spec h
  refine v_aload_n hC 0 0 dX9_two_0 rfl ?_
  refine v_iload_n hC 1 1 dX9_two_1 rfl ?_
  obtain ⟨x21, ex21, h⟩ := obn h
  refine qX9_104 hC rfl 2 ex21 (by decide) (catL (Nat.le_of_ble_eq_true rfl)) (by decide) dX9_two_2 ?_
  refine v_if_eq hC 5 16 dX9_two_5 (by decide) (fun c52 => ?_) (fun c52 => ?_)
  · replace h := ifp h c52
    refine v_iconst hC (-1 : Int32) 16 dX9_two_16 (by decide) ?_
    obtain rfl := sp1 h
    exact v_iret hC 17 (by decide) (by decide) dX9_two_17
  · replace h := ifn h c52
    refine v_aload_n hC 8 0 dX9_two_8 rfl ?_
    refine v_iload_n hC 9 2 dX9_two_9 rfl ?_
    obtain ⟨x22, ex22, h⟩ := obn h
    refine qX9_104 hC rfl 10 ex22 (by decide) (catL (Nat.le_of_ble_eq_true rfl)) (by decide) dX9_two_10 ?_
    refine v_if_ne hC 13 18 dX9_two_13 (by decide) (fun c51 => ?_) (fun c51 => ?_)
    · replace h := ifp h c51
      refine v_aload_n hC 18 0 dX9_two_18 rfl ?_
      obtain ⟨r23, er23, h⟩ := obn h
      refine gRX9_16 hC rfl 19 er23 dX9_two_19 ?_
      refine v_iload_n hC 22 1 dX9_two_22 rfl ?_
      obtain ⟨x24, ex24, h⟩ := obn h
      refine v_iald hC 23 ex24 dX9_two_23 ?_
      refine v_aload_n hC 24 0 dX9_two_24 rfl ?_
      obtain ⟨x25, ex25, h⟩ := obn h
      refine gRX9_35 hC rfl 25 ex25 dX9_two_25 ?_
      refine v_icmp_ne hC 28 44 dX9_two_28 (by decide) (fun c50 => ?_) (fun c50 => ?_)
      · replace h := ifp h c50
        refine v_iconst hC (0 : Int32) 44 dX9_two_44 (by decide) ?_
        obtain rfl := sp1 h
        exact v_iret hC 45 (by decide) (by decide) dX9_two_45
      · replace h := ifn h (fun q => q c50)
        refine v_aload_n hC 31 0 dX9_two_31 rfl ?_
        obtain ⟨r26, er26, h⟩ := obn h
        refine gRX9_16 hC rfl 32 er26 dX9_two_32 ?_
        refine v_iload_n hC 35 2 dX9_two_35 rfl ?_
        obtain ⟨x27, ex27, h⟩ := obn h
        refine v_iald hC 36 ex27 dX9_two_36 ?_
        refine v_aload_n hC 37 0 dX9_two_37 rfl ?_
        obtain ⟨x28, ex28, h⟩ := obn h
        refine gRX9_35 hC rfl 38 ex28 dX9_two_38 ?_
        refine v_icmp_eq hC 41 46 dX9_two_41 (by decide) (fun c49 => ?_) (fun c49 => ?_)
        · replace h := ifp h c49
          refine v_iconst hC (0 : Int32) 46 dX9_two_46 (by decide) ?_
          refine v_istore_n hC [(3, .int (0 : Int32)), (0, va_rf r0), (1, .int x1), (2, .int x2)] 47 dX9_two_47 (by decide) rfl ?_
          refine v_iconst hC (1 : Int32) 48 dX9_two_48 (by decide) ?_
          refine v_istore hC [(4, .int (1 : Int32)), (3, .int (0 : Int32)), (0, va_rf r0), (1, .int x1), (2, .int x2)] 49 dX9_two_49 (by decide) rfl ?_
          obtain ⟨x48, E51, h⟩ := obn h
          refine v_sub [(0, va_rf r0), (1, .int x1), (2, .int x2), (3, .int (0 : Int32)), (4, .int (1 : Int32))] [2, 3, 4, 1, 0] rfl ?_
          refine kX9_two_51 hC _ _ _ _ E51 (fun _ hz9 => ?_)
          cases hz9
          refine v_iload_n hC 123 0 dX9_two_123 rfl ?_
          obtain rfl := sp1 h
          exact v_iret hC 124 (by decide) (by decide) dX9_two_124
        · replace h := ifn h c49
          refine v_iconst hC (0 : Int32) 44 dX9_two_44 (by decide) ?_
          obtain rfl := sp1 h
          exact v_iret hC 45 (by decide) (by decide) dX9_two_45
    · replace h := ifn h (fun q => q c51)
      refine v_iconst hC (-1 : Int32) 16 dX9_two_16 (by decide) ?_
      obtain rfl := sp1 h
      exact v_iret hC 17 (by decide) (by decide) dX9_two_17
set_option maxRecDepth 20000 in
theorem qX9_175 {g : VG} {w : VW} {nL : Nat} {Q : State → Prop} {S : pH} {kc ks : Nat} {lv : List (Nat × Value)} {rest : List Value} {y : MethodName} {cc : ByteArray} {rt : Option FieldType} {rm : Room} (hC : Cx g y cc nL rt rm w) (hy : y.cls = RX9) (pc : Nat) {N : Nat} {x0 : Int32} {v0 : Int32} (h : fX9_isPower N S x0 = some v0) (hR : rmX9_isPower.frames + 1 ≤ rm.frames ∧ 8 + (1 + 11) + rmX9_isPower.locals ≤ rm.locals) (hst : (rest.map fun v => v.category).sum ≤ 8) (hf : kc + 0 ≤ rm.cells ∧ ks + 0 ≤ rm.slots) (d : decode cc pc = .ok (.invokestatic 175, 3)) (K : V g w nL Q S kc ks (pc + 3) lv (.int v0 :: rest)) : V g w nL Q S kc ks pc lv (.int x0 :: rest) := by
  exact v_callS (As := [.int x0]) (rest := rest) hC pc (tX9_isPower (l := g.2.1) (w := w) h) wG662 (by rw [hy]; exact wG661) wG663 wG542 hdX9_isPower rfl hR hst hf d K
abbrev rmX9_unlike : Room := { frames := 3, cells := 0, slots := 0, locals := 81 }
theorem hdX9_unlike : yX9_unlike.cls ≠ "java/lang/invoke/MethodHandle" ∧ yX9_unlike.cls ≠ "java/lang/invoke/VarHandle" ∧ (parseMethodDescriptor yX9_unlike.desc).map (fun d => d.parameters.length) = some 1 := by decide +kernel
def fX9_unlike (N : Nat) (S : pH) (r0 : Option Nat) (x1 : Int32) : Option (Int32) :=
  chk S 9 r0 <|
  (fX9_isPower N S x1).bind fun x21 =>
  if x21 = 0 then
  (some (-1 : Int32))
  else
  (gfI S 9 8 r0).bind fun x22 =>
  if x22 < x1 then
  (some (-1 : Int32))
  else
  (fX9_unlikeOf N S r0 x1).bind fun x23 =>
  some x23
theorem oX9_unlike {N : Nat} {S : pH} {r0 : Option Nat} {x1 : Int32} {z : Int32} (h : fX9_unlike N S r0 x1 = some z) : ∃ fs, obj S 9 r0 = some fs := by
  unfold fX9_unlike at h
  exact (chk_spec h).1
set_option maxHeartbeats 1000000 in
set_option maxRecDepth 20000 in
theorem tX9_unlike {l : Launch} {w : VW} {N : Nat} {S : pH} {r0 : Option Nat} {x1 : Int32} {v0 : Int32} (h : fX9_unlike N S r0 x1 = some v0) : CT l w yX9_unlike cX9_unlike 2 (some .int) rmX9_unlike [va_rf r0, .int x1] S (some (.int v0)) S := by
  refine v_entry [(0, va_rf r0), (1, .int x1)] (by decide) (by simp [lg_sl, cat_rf, cat_i, cat_j]) (by simp [lv_args, cat_rf, cat_i, cat_j]) (fun g _ hC => ?_)
  unfold fX9_unlike at h
  obtain ⟨hO, h⟩ := chk_spec h
  refine v_iload_n hC 0 1 dX9_unlike_0 rfl ?_
  obtain ⟨x21, ex21, h⟩ := obn h
  refine qX9_175 hC rfl 1 ex21 (by decide) (catL (Nat.le_of_ble_eq_true rfl)) (by decide) dX9_unlike_1 ?_
  refine v_if_eq hC 4 23 dX9_unlike_4 (by decide) (fun c25 => ?_) (fun c25 => ?_)
  · replace h := ifp h c25
    refine v_iconst hC (-1 : Int32) 23 dX9_unlike_23 (by decide) ?_
    obtain rfl := sp1 h
    exact v_iret hC 24 (by decide) (by decide) dX9_unlike_24
  · replace h := ifn h c25
    refine v_iload_n hC 7 1 dX9_unlike_7 rfl ?_
    refine v_aload_n hC 8 0 dX9_unlike_8 rfl ?_
    obtain ⟨x22, ex22, h⟩ := obn h
    refine gRX9_31 hC rfl 9 ex22 dX9_unlike_9 ?_
    refine v_icmp_gt hC 12 23 dX9_unlike_12 (by decide) (fun c24 => ?_) (fun c24 => ?_)
    · replace h := ifp h c24
      refine v_iconst hC (-1 : Int32) 23 dX9_unlike_23 (by decide) ?_
      obtain rfl := sp1 h
      exact v_iret hC 24 (by decide) (by decide) dX9_unlike_24
    · replace h := ifn h c24
      refine v_aload_n hC 15 0 dX9_unlike_15 rfl ?_
      refine v_iload_n hC 16 1 dX9_unlike_16 rfl ?_
      obtain ⟨x23, ex23, h⟩ := obn h
      refine qX9_181 hC rfl 17 ex23 (by decide) (catL (Nat.le_of_ble_eq_true rfl)) (by decide) dX9_unlike_17 ?_
      refine v_goto hC 20 24 dX9_unlike_20 (by decide) ?_
      obtain rfl := sp1 h
      exact v_iret hC 24 (by decide) (by decide) dX9_unlike_24
abbrev rmX9_view : Room := { frames := 3, cells := 0, slots := 0, locals := 64 }
theorem hdX9_view : yX9_view.cls ≠ "java/lang/invoke/MethodHandle" ∧ yX9_view.cls ≠ "java/lang/invoke/VarHandle" ∧ (parseMethodDescriptor yX9_view.desc).map (fun d => d.parameters.length) = some 5 := by decide +kernel
def fX9_view (N : Nat) (S : pH) (r0 : Option Nat) (x1 : Int32) (x2 : Int32) (x3 : Int32) (x4 : Int32) (x5 : Int32) : Option (Int32 × pH) :=
  chk S 9 r0 <|
  (fX9_in N S x1 (0 : Int32) (2 : Int32)).bind fun x21 =>
  if x21 = 0 then
  (some ((-1 : Int32), S))
  else
  (fX9_isWhole N S r0 x2).bind fun x22 =>
  if x22 = 0 then
  (some ((-1 : Int32), S))
  else
  (gfR S 9 3 r0).bind fun r23 =>
  (ldI S 0 r23 x2).bind fun x24 =>
  (fX9_in N S x3 (0 : Int32) (x24 - (1 : Int32))).bind fun x25 =>
  if x25 = 0 then
  (some ((-1 : Int32), S))
  else
  (gfR S 9 3 r0).bind fun r26 =>
  (ldI S 0 r26 x2).bind fun x27 =>
  (fX9_in N S x4 (0 : Int32) (x27 - (1 : Int32))).bind fun x28 =>
  if x28 = 0 then
  (some ((-1 : Int32), S))
  else
  (gfR S 9 4 r0).bind fun r29 =>
  (ldI S 0 r29 x2).bind fun x30 =>
  (fX9_in N S x5 (0 : Int32) (x30 - (1 : Int32))).bind fun x31 =>
  if ¬ x31 = 0 then
  ((gfJ S 9 23 r0).bind fun j32 =>
  nm (fun (r33 : Option Nat) (j34 : Int64) (j35 : Int64) =>
  (pfV S 9 23 r33 (.long (j34 + j35))).bind fun S36 =>
  nm (fun (x37 : Int32) =>
  (gfR S36 9 3 r0).bind fun r38 =>
  (ldI S36 0 r38 x2).bind fun x39 =>
  nm (fun (r40 : Option Nat) (x41 : Int32) (x42 : Int32) (x43 : Int32) =>
  (fX9_shown N S36 r40 x41 x42 x43 x4 x37 (0 : Int32)).bind fun x44 =>
  some (x44, S36)) fun j153 =>
  if ¬ x1 = (2 : Int32) then
  (j153 r0 x2 x39 x3)
  else
  (gfR S36 9 3 r0).bind fun r45 =>
  (ldI S36 0 r45 x2).bind fun x46 =>
  j153 r0 x2 x39 ((x46 - (1 : Int32)) - x3)) fun j124 =>
  if ¬ x1 = 0 then
  ((gfR S36 9 6 r0).bind fun r48 =>
  (ldI S36 0 r48 x2).bind fun x49 =>
  (gfR S36 9 4 r0).bind fun r50 =>
  (ldI S36 0 r50 x2).bind fun x51 =>
  if x51 = 0 then none else
  j124 ((x49 * x5) / x51))
  else
  j124 (0 : Int32)) fun j96 =>
  if ¬ x1 = 0 then
  (if ¬ x1 = (1 : Int32) then
  (j96 r0 j32 (111 : Int64))
  else
  j96 r0 j32 (11 : Int64))
  else
  j96 r0 j32 (1 : Int64))
  else
  some ((-1 : Int32), S)
theorem oX9_view {N : Nat} {S : pH} {r0 : Option Nat} {x1 : Int32} {x2 : Int32} {x3 : Int32} {x4 : Int32} {x5 : Int32} {z : Int32 × pH} (h : fX9_view N S r0 x1 x2 x3 x4 x5 = some z) : ∃ fs, obj S 9 r0 = some fs := by
  unfold fX9_view at h
  exact (chk_spec h).1
set_option maxHeartbeats 1000000 in
set_option maxRecDepth 20000 in
theorem tX9_view {l : Launch} {w : VW} {N : Nat} {S : pH} {r0 : Option Nat} {x1 : Int32} {x2 : Int32} {x3 : Int32} {x4 : Int32} {x5 : Int32} {v0 : Int32} {S0 : pH} (h : fX9_view N S r0 x1 x2 x3 x4 x5 = some (v0, S0)) : CT l w yX9_view cX9_view 7 (some .int) rmX9_view [va_rf r0, .int x1, .int x2, .int x3, .int x4, .int x5] S (some (.int v0)) S0 := by
  refine v_entry [(0, va_rf r0), (1, .int x1), (2, .int x2), (3, .int x3), (4, .int x4), (5, .int x5)] (by decide) (by simp [lg_sl, cat_rf, cat_i, cat_j]) (by simp [lv_args, cat_rf, cat_i, cat_j]) (fun g _ hC => ?_)
  unfold fX9_view at h
  obtain ⟨hO, h⟩ := chk_spec h
  refine v_iload_n hC 0 1 dX9_view_0 rfl ?_
  refine v_iconst hC (0 : Int32) 1 dX9_view_1 (by decide) ?_
  refine v_iconst hC (2 : Int32) 2 dX9_view_2 (by decide) ?_
  obtain ⟨x21, ex21, h⟩ := obn h
  refine qX9_97 hC rfl 3 ex21 (by decide) (catL (Nat.le_of_ble_eq_true rfl)) (by decide) dX9_view_3 ?_
  refine v_if_eq hC 6 67 dX9_view_6 (by decide) (fun c60 => ?_) (fun c60 => ?_)
  · replace h := ifp h c60
    refine v_iconst hC (-1 : Int32) 67 dX9_view_67 (by decide) ?_
    obtain ⟨rfl, rfl⟩ := sp2 h
    exact v_iret hC 68 (by decide) (by decide) dX9_view_68
  · replace h := ifn h c60
    refine v_aload_n hC 9 0 dX9_view_9 rfl ?_
    refine v_iload_n hC 10 2 dX9_view_10 rfl ?_
    obtain ⟨x22, ex22, h⟩ := obn h
    refine qX9_125 hC rfl 11 ex22 (by decide) (catL (Nat.le_of_ble_eq_true rfl)) (by decide) dX9_view_11 ?_
    refine v_if_eq hC 14 67 dX9_view_14 (by decide) (fun c59 => ?_) (fun c59 => ?_)
    · replace h := ifp h c59
      refine v_iconst hC (-1 : Int32) 67 dX9_view_67 (by decide) ?_
      obtain ⟨rfl, rfl⟩ := sp2 h
      exact v_iret hC 68 (by decide) (by decide) dX9_view_68
    · replace h := ifn h c59
      refine v_iload_n hC 17 3 dX9_view_17 rfl ?_
      refine v_iconst hC (0 : Int32) 18 dX9_view_18 (by decide) ?_
      refine v_aload_n hC 19 0 dX9_view_19 rfl ?_
      obtain ⟨r23, er23, h⟩ := obn h
      refine gRX9_16 hC rfl 20 er23 dX9_view_20 ?_
      refine v_iload_n hC 23 2 dX9_view_23 rfl ?_
      obtain ⟨x24, ex24, h⟩ := obn h
      refine v_iald hC 24 ex24 dX9_view_24 ?_
      refine v_iconst hC (1 : Int32) 25 dX9_view_25 (by decide) ?_
      refine v_isub hC 26 dX9_view_26 ?_
      obtain ⟨x25, ex25, h⟩ := obn h
      refine qX9_97 hC rfl 27 ex25 (by decide) (catL (Nat.le_of_ble_eq_true rfl)) (by decide) dX9_view_27 ?_
      refine v_if_eq hC 30 67 dX9_view_30 (by decide) (fun c58 => ?_) (fun c58 => ?_)
      · replace h := ifp h c58
        refine v_iconst hC (-1 : Int32) 67 dX9_view_67 (by decide) ?_
        obtain ⟨rfl, rfl⟩ := sp2 h
        exact v_iret hC 68 (by decide) (by decide) dX9_view_68
      · replace h := ifn h c58
        refine v_iload hC 33 4 dX9_view_33 rfl ?_
        refine v_iconst hC (0 : Int32) 35 dX9_view_35 (by decide) ?_
        refine v_aload_n hC 36 0 dX9_view_36 rfl ?_
        obtain ⟨r26, er26, h⟩ := obn h
        refine gRX9_16 hC rfl 37 er26 dX9_view_37 ?_
        refine v_iload_n hC 40 2 dX9_view_40 rfl ?_
        obtain ⟨x27, ex27, h⟩ := obn h
        refine v_iald hC 41 ex27 dX9_view_41 ?_
        refine v_iconst hC (1 : Int32) 42 dX9_view_42 (by decide) ?_
        refine v_isub hC 43 dX9_view_43 ?_
        obtain ⟨x28, ex28, h⟩ := obn h
        refine qX9_97 hC rfl 44 ex28 (by decide) (catL (Nat.le_of_ble_eq_true rfl)) (by decide) dX9_view_44 ?_
        refine v_if_eq hC 47 67 dX9_view_47 (by decide) (fun c57 => ?_) (fun c57 => ?_)
        · replace h := ifp h c57
          refine v_iconst hC (-1 : Int32) 67 dX9_view_67 (by decide) ?_
          obtain ⟨rfl, rfl⟩ := sp2 h
          exact v_iret hC 68 (by decide) (by decide) dX9_view_68
        · replace h := ifn h c57
          refine v_iload hC 50 5 dX9_view_50 rfl ?_
          refine v_iconst hC (0 : Int32) 52 dX9_view_52 (by decide) ?_
          refine v_aload_n hC 53 0 dX9_view_53 rfl ?_
          obtain ⟨r29, er29, h⟩ := obn h
          refine gRX9_19 hC rfl 54 er29 dX9_view_54 ?_
          refine v_iload_n hC 57 2 dX9_view_57 rfl ?_
          obtain ⟨x30, ex30, h⟩ := obn h
          refine v_iald hC 58 ex30 dX9_view_58 ?_
          refine v_iconst hC (1 : Int32) 59 dX9_view_59 (by decide) ?_
          refine v_isub hC 60 dX9_view_60 ?_
          obtain ⟨x31, ex31, h⟩ := obn h
          refine qX9_97 hC rfl 61 ex31 (by decide) (catL (Nat.le_of_ble_eq_true rfl)) (by decide) dX9_view_61 ?_
          refine v_if_ne hC 64 69 dX9_view_64 (by decide) (fun c56 => ?_) (fun c56 => ?_)
          · replace h := ifp h c56
            refine v_aload_n hC 69 0 dX9_view_69 rfl ?_
            refine v_dup hC 70 (cat_rf _) dX9_view_70 ?_
            obtain ⟨j32, ej32, h⟩ := obn h
            refine gRX9_139 hC rfl 71 ej32 dX9_view_71 ?_
            refine v_iload_n hC 74 1 dX9_view_74 rfl ?_
            obtain ⟨j96, f96, h⟩ := onm h
            have J96 : ∀ (r33 : Option Nat) (j34 : Int64) (j35 : Int64), j96 r33 j34 j35 = some (v0, S0) → V g w 7 (Qm g w rmX9_view.cells rmX9_view.slots (some (.int v0)) S0) S 0 0 96 [(0, va_rf r0), (1, .int x1), (2, .int x2), (3, .int x3), (4, .int x4), (5, .int x5)] [.long j35, .long j34, va_rf r33] := by
              intro r33 j34 j35 h
              replace h := jb3 f96 h
              refine v_ladd hC 96 dX9_view_96 ?_
              obtain ⟨S36, eS36, h⟩ := obn h
              refine pRX9_139 hC rfl 97 eS36 dX9_view_97 ?_
              refine v_iload_n hC 100 1 dX9_view_100 rfl ?_
              obtain ⟨j124, f124, h⟩ := onm h
              have J124 : ∀ (x37 : Int32), j124 x37 = some (v0, S0) → V g w 7 (Qm g w rmX9_view.cells rmX9_view.slots (some (.int v0)) S0) S36 0 0 124 [(0, va_rf r0), (1, .int x1), (2, .int x2), (3, .int x3), (4, .int x4)] [.int x37] := by
                intro x37 h
                replace h := jb1 f124 h
                refine v_istore hC [(6, .int x37), (0, va_rf r0), (1, .int x1), (2, .int x2), (3, .int x3), (4, .int x4)] 124 dX9_view_124 (by decide) rfl ?_
                refine v_aload_n hC 126 1 dX9_view_126 rfl ?_
                refine v_iload_n hC 127 3 dX9_view_127 rfl ?_
                refine v_aload_n hC 128 1 dX9_view_128 rfl ?_
                obtain ⟨r38, er38, h⟩ := obn h
                refine gRX9_16 hC rfl 129 er38 dX9_view_129 ?_
                refine v_iload_n hC 132 3 dX9_view_132 rfl ?_
                obtain ⟨x39, ex39, h⟩ := obn h
                refine v_iald hC 133 ex39 dX9_view_133 ?_
                refine v_iload_n hC 134 2 dX9_view_134 rfl ?_
                refine v_iconst hC (2 : Int32) 135 dX9_view_135 (by decide) ?_
                obtain ⟨j153, f153, h⟩ := onm h
                have J153 : ∀ (r40 : Option Nat) (x41 : Int32) (x42 : Int32) (x43 : Int32), j153 r40 x41 x42 x43 = some (v0, S0) → V g w 7 (Qm g w rmX9_view.cells rmX9_view.slots (some (.int v0)) S0) S36 0 0 153 [(4, .int x4), (6, .int x37)] [.int x43, .int x42, .int x41, va_rf r40] := by
                  intro r40 x41 x42 x43 h
                  replace h := jb4 f153 h
                  refine v_iload hC 153 0 dX9_view_153 rfl ?_
                  refine v_iload hC 155 1 dX9_view_155 rfl ?_
                  refine v_iconst hC (0 : Int32) 157 dX9_view_157 (by decide) ?_
                  obtain ⟨x44, ex44, h⟩ := obn h
                  refine qX9_147 hC rfl 158 ex44 (by decide) (catL (Nat.le_of_ble_eq_true rfl)) (by decide) dX9_view_158 ?_
                  obtain ⟨rfl, rfl⟩ := sp2 h
                  exact v_iret hC 161 (by decide) (by decide) dX9_view_161
                refine v_icmp_ne hC 136 152 dX9_view_136 (by decide) (fun c47 => ?_) (fun c47 => ?_)
                · replace h := ifp h c47
                  refine v_iload_n hC 152 4 dX9_view_152 rfl ?_
                  refine v_sub [(4, .int x4), (6, .int x37)] [5, 0] rfl ?_
                  exact J153 _ _ _ _ h
                · replace h := ifn h (fun q => q c47)
                  refine v_aload_n hC 139 1 dX9_view_139 rfl ?_
                  obtain ⟨r45, er45, h⟩ := obn h
                  refine gRX9_16 hC rfl 140 er45 dX9_view_140 ?_
                  refine v_iload_n hC 143 3 dX9_view_143 rfl ?_
                  obtain ⟨x46, ex46, h⟩ := obn h
                  refine v_iald hC 144 ex46 dX9_view_144 ?_
                  refine v_iconst hC (1 : Int32) 145 dX9_view_145 (by decide) ?_
                  refine v_isub hC 146 dX9_view_146 ?_
                  refine v_iload_n hC 147 4 dX9_view_147 rfl ?_
                  refine v_isub hC 148 dX9_view_148 ?_
                  refine v_goto hC 149 153 dX9_view_149 (by decide) ?_
                  refine v_sub [(4, .int x4), (6, .int x37)] [5, 0] rfl ?_
                  exact J153 _ _ _ _ h
              refine v_if_ne hC 101 108 dX9_view_101 (by decide) (fun c53 => ?_) (fun c53 => ?_)
              · replace h := ifp h c53
                refine v_aload_n hC 108 0 dX9_view_108 rfl ?_
                obtain ⟨r48, er48, h⟩ := obn h
                refine gRX9_25 hC rfl 109 er48 dX9_view_109 ?_
                refine v_iload_n hC 112 2 dX9_view_112 rfl ?_
                obtain ⟨x49, ex49, h⟩ := obn h
                refine v_iald hC 113 ex49 dX9_view_113 ?_
                refine v_iload hC 114 5 dX9_view_114 rfl ?_
                refine v_imul hC 116 dX9_view_116 ?_
                refine v_aload_n hC 117 0 dX9_view_117 rfl ?_
                obtain ⟨r50, er50, h⟩ := obn h
                refine gRX9_19 hC rfl 118 er50 dX9_view_118 ?_
                refine v_iload_n hC 121 2 dX9_view_121 rfl ?_
                obtain ⟨x51, ex51, h⟩ := obn h
                refine v_iald hC 122 ex51 dX9_view_122 ?_
                have c52 : ¬ x51 = 0 := fun q => absurd (ifp h q) (by simp)
                replace h := ifn h c52
                refine v_idiv hC 123 c52 dX9_view_123 ?_
                refine v_sub [(0, va_rf r0), (1, .int x1), (2, .int x2), (3, .int x3), (4, .int x4)] [0, 1, 2, 3, 4] rfl ?_
                exact J124 _ h
              · replace h := ifn h (fun q => q c53)
                refine v_iconst hC (0 : Int32) 104 dX9_view_104 (by decide) ?_
                refine v_goto hC 105 124 dX9_view_105 (by decide) ?_
                refine v_sub [(0, va_rf r0), (1, .int x1), (2, .int x2), (3, .int x3), (4, .int x4)] [0, 1, 2, 3, 4] rfl ?_
                exact J124 _ h
            refine v_if_ne hC 75 82 dX9_view_75 (by decide) (fun c55 => ?_) (fun c55 => ?_)
            · replace h := ifp h c55
              refine v_iload_n hC 82 1 dX9_view_82 rfl ?_
              refine v_iconst hC (1 : Int32) 83 dX9_view_83 (by decide) ?_
              refine v_icmp_ne hC 84 93 dX9_view_84 (by decide) (fun c54 => ?_) (fun c54 => ?_)
              · replace h := ifp h c54
                refine v_ldc2 hC (v := (111 : Int64)) 93 wG169 dX9_view_93 ?_
                refine v_sub [(0, va_rf r0), (1, .int x1), (2, .int x2), (3, .int x3), (4, .int x4), (5, .int x5)] [0, 1, 2, 3, 4, 5] rfl ?_
                exact J96 _ _ _ h
              · replace h := ifn h (fun q => q c54)
                refine v_ldc2 hC (v := (11 : Int64)) 87 wG170 dX9_view_87 ?_
                refine v_goto hC 90 96 dX9_view_90 (by decide) ?_
                refine v_sub [(0, va_rf r0), (1, .int x1), (2, .int x2), (3, .int x3), (4, .int x4), (5, .int x5)] [0, 1, 2, 3, 4, 5] rfl ?_
                exact J96 _ _ _ h
            · replace h := ifn h (fun q => q c55)
              refine v_lconst hC (1 : Int64) 78 dX9_view_78 (by decide) ?_
              refine v_goto hC 79 96 dX9_view_79 (by decide) ?_
              refine v_sub [(0, va_rf r0), (1, .int x1), (2, .int x2), (3, .int x3), (4, .int x4), (5, .int x5)] [0, 1, 2, 3, 4, 5] rfl ?_
              exact J96 _ _ _ h
          · replace h := ifn h (fun q => q c56)
            refine v_iconst hC (-1 : Int32) 67 dX9_view_67 (by decide) ?_
            obtain ⟨rfl, rfl⟩ := sp2 h
            exact v_iret hC 68 (by decide) (by decide) dX9_view_68
abbrev rmX9_want : Room := { frames := 1, cells := 0, slots := 0, locals := 24 }
theorem hdX9_want : yX9_want.cls ≠ "java/lang/invoke/MethodHandle" ∧ yX9_want.cls ≠ "java/lang/invoke/VarHandle" ∧ (parseMethodDescriptor yX9_want.desc).map (fun d => d.parameters.length) = some 3 := by decide +kernel
def fX9_want (N : Nat) (S : pH) (r0 : Option Nat) (x1 : Int32) (x2 : Int32) (x3 : Int32) : Option (Int32 × pH) :=
  chk S 9 r0 <|
  (gfI S 9 8 r0).bind fun x21 =>
  (fX9_in N S x1 (0 : Int32) (x21 - (1 : Int32))).bind fun x22 =>
  if x22 = 0 then
  (some ((-1 : Int32), S))
  else
  (gfI S 9 8 r0).bind fun x23 =>
  (fX9_in N S x2 (0 : Int32) (x23 - (1 : Int32))).bind fun x24 =>
  if x24 = 0 then
  (some ((-1 : Int32), S))
  else
  (fX9_in N S x3 (0 : Int32) (8 : Int32)).bind fun x25 =>
  if ¬ x25 = 0 then
  ((fX9_at N S r0 (16 : Int32) x1 x2).bind fun x26 =>
  (fX9_put N S r0 (16 : Int32) x1 x2 x3).bind fun S27 =>
  some (x26, S27))
  else
  some ((-1 : Int32), S)
theorem oX9_want {N : Nat} {S : pH} {r0 : Option Nat} {x1 : Int32} {x2 : Int32} {x3 : Int32} {z : Int32 × pH} (h : fX9_want N S r0 x1 x2 x3 = some z) : ∃ fs, obj S 9 r0 = some fs := by
  unfold fX9_want at h
  exact (chk_spec h).1
set_option maxHeartbeats 1000000 in
set_option maxRecDepth 20000 in
theorem tX9_want {l : Launch} {w : VW} {N : Nat} {S : pH} {r0 : Option Nat} {x1 : Int32} {x2 : Int32} {x3 : Int32} {v0 : Int32} {S0 : pH} (h : fX9_want N S r0 x1 x2 x3 = some (v0, S0)) : CT l w yX9_want cX9_want 5 (some .int) rmX9_want [va_rf r0, .int x1, .int x2, .int x3] S (some (.int v0)) S0 := by
  refine v_entry [(0, va_rf r0), (1, .int x1), (2, .int x2), (3, .int x3)] (by decide) (by simp [lg_sl, cat_rf, cat_i, cat_j]) (by simp [lv_args, cat_rf, cat_i, cat_j]) (fun g _ hC => ?_)
  unfold fX9_want at h
  obtain ⟨hO, h⟩ := chk_spec h
  refine v_iload_n hC 0 1 dX9_want_0 rfl ?_
  refine v_iconst hC (0 : Int32) 1 dX9_want_1 (by decide) ?_
  refine v_aload_n hC 2 0 dX9_want_2 rfl ?_
  obtain ⟨x21, ex21, h⟩ := obn h
  refine gRX9_31 hC rfl 3 ex21 dX9_want_3 ?_
  refine v_iconst hC (1 : Int32) 6 dX9_want_6 (by decide) ?_
  refine v_isub hC 7 dX9_want_7 ?_
  obtain ⟨x22, ex22, h⟩ := obn h
  refine qX9_97 hC rfl 8 ex22 (by decide) (catL (Nat.le_of_ble_eq_true rfl)) (by decide) dX9_want_8 ?_
  refine v_if_eq hC 11 38 dX9_want_11 (by decide) (fun c30 => ?_) (fun c30 => ?_)
  · replace h := ifp h c30
    refine v_iconst hC (-1 : Int32) 38 dX9_want_38 (by decide) ?_
    obtain ⟨rfl, rfl⟩ := sp2 h
    exact v_iret hC 39 (by decide) (by decide) dX9_want_39
  · replace h := ifn h c30
    refine v_iload_n hC 14 2 dX9_want_14 rfl ?_
    refine v_iconst hC (0 : Int32) 15 dX9_want_15 (by decide) ?_
    refine v_aload_n hC 16 0 dX9_want_16 rfl ?_
    obtain ⟨x23, ex23, h⟩ := obn h
    refine gRX9_31 hC rfl 17 ex23 dX9_want_17 ?_
    refine v_iconst hC (1 : Int32) 20 dX9_want_20 (by decide) ?_
    refine v_isub hC 21 dX9_want_21 ?_
    obtain ⟨x24, ex24, h⟩ := obn h
    refine qX9_97 hC rfl 22 ex24 (by decide) (catL (Nat.le_of_ble_eq_true rfl)) (by decide) dX9_want_22 ?_
    refine v_if_eq hC 25 38 dX9_want_25 (by decide) (fun c29 => ?_) (fun c29 => ?_)
    · replace h := ifp h c29
      refine v_iconst hC (-1 : Int32) 38 dX9_want_38 (by decide) ?_
      obtain ⟨rfl, rfl⟩ := sp2 h
      exact v_iret hC 39 (by decide) (by decide) dX9_want_39
    · replace h := ifn h c29
      refine v_iload_n hC 28 3 dX9_want_28 rfl ?_
      refine v_iconst hC (0 : Int32) 29 dX9_want_29 (by decide) ?_
      refine v_bipush hC (8 : Int32) 30 dX9_want_30 (by decide) ?_
      obtain ⟨x25, ex25, h⟩ := obn h
      refine qX9_97 hC rfl 32 ex25 (by decide) (catL (Nat.le_of_ble_eq_true rfl)) (by decide) dX9_want_32 ?_
      refine v_if_ne hC 35 40 dX9_want_35 (by decide) (fun c28 => ?_) (fun c28 => ?_)
      · replace h := ifp h c28
        refine v_aload_n hC 40 0 dX9_want_40 rfl ?_
        refine v_bipush hC (16 : Int32) 41 dX9_want_41 (by decide) ?_
        refine v_iload_n hC 43 1 dX9_want_43 rfl ?_
        refine v_iload_n hC 44 2 dX9_want_44 rfl ?_
        obtain ⟨x26, ex26, h⟩ := obn h
        refine qX9_121 hC rfl 45 ex26 (by decide) (catL (Nat.le_of_ble_eq_true rfl)) (by decide) dX9_want_45 ?_
        refine v_istore hC [(4, .int x26), (0, va_rf r0), (1, .int x1), (2, .int x2), (3, .int x3)] 48 dX9_want_48 (by decide) rfl ?_
        refine v_aload_n hC 50 1 dX9_want_50 rfl ?_
        refine v_bipush hC (16 : Int32) 51 dX9_want_51 (by decide) ?_
        refine v_iload_n hC 53 2 dX9_want_53 rfl ?_
        refine v_iload_n hC 54 3 dX9_want_54 rfl ?_
        refine v_iload_n hC 55 4 dX9_want_55 rfl ?_
        obtain ⟨S27, eS27, h⟩ := obn h
        refine qX9_111 hC rfl 56 eS27 (by decide) (catL (Nat.le_of_ble_eq_true rfl)) (by decide) dX9_want_56 ?_
        refine v_iload hC 59 0 dX9_want_59 rfl ?_
        obtain ⟨rfl, rfl⟩ := sp2 h
        exact v_iret hC 61 (by decide) (by decide) dX9_want_61
      · replace h := ifn h (fun q => q c28)
        refine v_iconst hC (-1 : Int32) 38 dX9_want_38 (by decide) ?_
        obtain ⟨rfl, rfl⟩ := sp2 h
        exact v_iret hC 39 (by decide) (by decide) dX9_want_39
set_option maxRecDepth 20000 in
theorem qX9_222 {g : VG} {w : VW} {nL : Nat} {Q : State → Prop} {S : pH} {kc ks : Nat} {lv : List (Nat × Value)} {rest : List Value} {y : MethodName} {cc : ByteArray} {rt : Option FieldType} {rm : Room} (hC : Cx g y cc nL rt rm w) (hy : y.cls = RX9) (pc : Nat) {N : Nat} {x0 : Int32} {x1 : Int32} {v0 : Int32} (h : fX9_isWeighing N S x0 x1 = some v0) (hR : rmX9_isWeighing.frames + 1 ≤ rm.frames ∧ 8 + (2 + 11) + rmX9_isWeighing.locals ≤ rm.locals) (hst : (rest.map fun v => v.category).sum ≤ 8) (hf : kc + 0 ≤ rm.cells ∧ ks + 0 ≤ rm.slots) (d : decode cc pc = .ok (.invokestatic 222, 3)) (K : V g w nL Q S kc ks (pc + 3) lv (.int v0 :: rest)) : V g w nL Q S kc ks pc lv (.int x1 :: .int x0 :: rest) := by
  exact v_callS (As := [.int x0, .int x1]) (rest := rest) hC pc (tX9_isWeighing (l := g.2.1) (w := w) h) wG665 (by rw [hy]; exact wG664) wG666 wG542 hdX9_isWeighing rfl hR hst hf d K
abbrev rmX9_weigh : Room := { frames := 3, cells := 0, slots := 0, locals := 69 }
theorem hdX9_weigh : yX9_weigh.cls ≠ "java/lang/invoke/MethodHandle" ∧ yX9_weigh.cls ≠ "java/lang/invoke/VarHandle" ∧ (parseMethodDescriptor yX9_weigh.desc).map (fun d => d.parameters.length) = some 3 := by decide +kernel
def fX9_weigh (N : Nat) (S : pH) (r0 : Option Nat) (x1 : Int32) (x2 : Int32) (x3 : Int32) : Option (Int32 × pH) :=
  chk S 9 r0 <|
  (fX9_isWeighing N S x1 x2).bind fun x21 =>
  if x21 = 0 then
  (some ((-1 : Int32), S))
  else
  (fX9_in N S x3 (-1 : Int32) (1 : Int32)).bind fun x22 =>
  if ¬ x22 = 0 then
  ((gfI S 9 19 r0).bind fun x23 =>
  if ¬ x23 = (6 : Int32) then
  ((gfR S 9 20 r0).bind fun r24 =>
  (gfI S 9 19 r0).bind fun x25 =>
  (stI S r24 x25 x1).bind fun S26 =>
  (gfR S26 9 21 r0).bind fun r27 =>
  (gfI S26 9 19 r0).bind fun x28 =>
  (stI S26 r27 x28 x2).bind fun S29 =>
  (gfR S29 9 22 r0).bind fun r30 =>
  (gfI S29 9 19 r0).bind fun x31 =>
  (stI S29 r30 x31 x3).bind fun S32 =>
  (gfI S32 9 19 r0).bind fun x33 =>
  (pfV S32 9 19 r0 (.int (x33 + (1 : Int32)))).bind fun S34 =>
  (fX9_leftMany N S34 r0).bind fun x35 =>
  some (x35, S34))
  else
  some ((-3 : Int32), S))
  else
  some ((-1 : Int32), S)
theorem oX9_weigh {N : Nat} {S : pH} {r0 : Option Nat} {x1 : Int32} {x2 : Int32} {x3 : Int32} {z : Int32 × pH} (h : fX9_weigh N S r0 x1 x2 x3 = some z) : ∃ fs, obj S 9 r0 = some fs := by
  unfold fX9_weigh at h
  exact (chk_spec h).1
set_option maxHeartbeats 1000000 in
set_option maxRecDepth 20000 in
theorem tX9_weigh {l : Launch} {w : VW} {N : Nat} {S : pH} {r0 : Option Nat} {x1 : Int32} {x2 : Int32} {x3 : Int32} {v0 : Int32} {S0 : pH} (h : fX9_weigh N S r0 x1 x2 x3 = some (v0, S0)) : CT l w yX9_weigh cX9_weigh 4 (some .int) rmX9_weigh [va_rf r0, .int x1, .int x2, .int x3] S (some (.int v0)) S0 := by
  refine v_entry [(0, va_rf r0), (1, .int x1), (2, .int x2), (3, .int x3)] (by decide) (by simp [lg_sl, cat_rf, cat_i, cat_j]) (by simp [lv_args, cat_rf, cat_i, cat_j]) (fun g _ hC => ?_)
  unfold fX9_weigh at h
  obtain ⟨hO, h⟩ := chk_spec h
  refine v_iload_n hC 0 1 dX9_weigh_0 rfl ?_
  refine v_iload_n hC 1 2 dX9_weigh_1 rfl ?_
  obtain ⟨x21, ex21, h⟩ := obn h
  refine qX9_222 hC rfl 2 ex21 (by decide) (catL (Nat.le_of_ble_eq_true rfl)) (by decide) dX9_weigh_2 ?_
  refine v_if_eq hC 5 17 dX9_weigh_5 (by decide) (fun c38 => ?_) (fun c38 => ?_)
  · replace h := ifp h c38
    refine v_iconst hC (-1 : Int32) 17 dX9_weigh_17 (by decide) ?_
    obtain ⟨rfl, rfl⟩ := sp2 h
    exact v_iret hC 18 (by decide) (by decide) dX9_weigh_18
  · replace h := ifn h c38
    refine v_iload_n hC 8 3 dX9_weigh_8 rfl ?_
    refine v_iconst hC (-1 : Int32) 9 dX9_weigh_9 (by decide) ?_
    refine v_iconst hC (1 : Int32) 10 dX9_weigh_10 (by decide) ?_
    obtain ⟨x22, ex22, h⟩ := obn h
    refine qX9_97 hC rfl 11 ex22 (by decide) (catL (Nat.le_of_ble_eq_true rfl)) (by decide) dX9_weigh_11 ?_
    refine v_if_ne hC 14 19 dX9_weigh_14 (by decide) (fun c37 => ?_) (fun c37 => ?_)
    · replace h := ifp h c37
      refine v_aload_n hC 19 0 dX9_weigh_19 rfl ?_
      obtain ⟨x23, ex23, h⟩ := obn h
      refine gRX9_210 hC rfl 20 ex23 dX9_weigh_20 ?_
      refine v_bipush hC (6 : Int32) 23 dX9_weigh_23 (by decide) ?_
      refine v_icmp_ne hC 25 31 dX9_weigh_25 (by decide) (fun c36 => ?_) (fun c36 => ?_)
      · replace h := ifp h c36
        refine v_aload_n hC 31 0 dX9_weigh_31 rfl ?_
        obtain ⟨r24, er24, h⟩ := obn h
        refine gRX9_63 hC rfl 32 er24 dX9_weigh_32 ?_
        refine v_aload_n hC 35 0 dX9_weigh_35 rfl ?_
        obtain ⟨x25, ex25, h⟩ := obn h
        refine gRX9_210 hC rfl 36 ex25 dX9_weigh_36 ?_
        refine v_iload_n hC 39 1 dX9_weigh_39 rfl ?_
        obtain ⟨S26, eS26, h⟩ := obn h
        refine v_iast hC 40 eS26 dX9_weigh_40 ?_
        refine v_aload_n hC 41 0 dX9_weigh_41 rfl ?_
        obtain ⟨r27, er27, h⟩ := obn h
        refine gRX9_66 hC rfl 42 er27 dX9_weigh_42 ?_
        refine v_aload_n hC 45 0 dX9_weigh_45 rfl ?_
        obtain ⟨x28, ex28, h⟩ := obn h
        refine gRX9_210 hC rfl 46 ex28 dX9_weigh_46 ?_
        refine v_iload_n hC 49 2 dX9_weigh_49 rfl ?_
        obtain ⟨S29, eS29, h⟩ := obn h
        refine v_iast hC 50 eS29 dX9_weigh_50 ?_
        refine v_aload_n hC 51 0 dX9_weigh_51 rfl ?_
        obtain ⟨r30, er30, h⟩ := obn h
        refine gRX9_69 hC rfl 52 er30 dX9_weigh_52 ?_
        refine v_aload_n hC 55 0 dX9_weigh_55 rfl ?_
        obtain ⟨x31, ex31, h⟩ := obn h
        refine gRX9_210 hC rfl 56 ex31 dX9_weigh_56 ?_
        refine v_iload_n hC 59 3 dX9_weigh_59 rfl ?_
        obtain ⟨S32, eS32, h⟩ := obn h
        refine v_iast hC 60 eS32 dX9_weigh_60 ?_
        refine v_aload_n hC 61 0 dX9_weigh_61 rfl ?_
        refine v_dup hC 62 (cat_rf _) dX9_weigh_62 ?_
        obtain ⟨x33, ex33, h⟩ := obn h
        refine gRX9_210 hC rfl 63 ex33 dX9_weigh_63 ?_
        refine v_iconst hC (1 : Int32) 66 dX9_weigh_66 (by decide) ?_
        refine v_iadd hC 67 dX9_weigh_67 ?_
        obtain ⟨S34, eS34, h⟩ := obn h
        refine pRX9_210 hC rfl 68 eS34 dX9_weigh_68 ?_
        refine v_aload_n hC 71 0 dX9_weigh_71 rfl ?_
        obtain ⟨x35, ex35, h⟩ := obn h
        refine qX9_225 hC rfl 72 ex35 (by decide) (catL (Nat.le_of_ble_eq_true rfl)) (by decide) dX9_weigh_72 ?_
        obtain ⟨rfl, rfl⟩ := sp2 h
        exact v_iret hC 75 (by decide) (by decide) dX9_weigh_75
      · replace h := ifn h (fun q => q c36)
        refine v_bipush hC (-3 : Int32) 28 dX9_weigh_28 (by decide) ?_
        obtain ⟨rfl, rfl⟩ := sp2 h
        exact v_iret hC 30 (by decide) (by decide) dX9_weigh_30
    · replace h := ifn h (fun q => q c37)
      refine v_iconst hC (-1 : Int32) 17 dX9_weigh_17 (by decide) ?_
      obtain ⟨rfl, rfl⟩ := sp2 h
      exact v_iret hC 18 (by decide) (by decide) dX9_weigh_18
abbrev rmX9_whose : Room := { frames := 3, cells := 0, slots := 0, locals := 82 }
theorem hdX9_whose : yX9_whose.cls ≠ "java/lang/invoke/MethodHandle" ∧ yX9_whose.cls ≠ "java/lang/invoke/VarHandle" ∧ (parseMethodDescriptor yX9_whose.desc).map (fun d => d.parameters.length) = some 0 := by decide +kernel
def lX9_whose_4 (N : Nat) (S : pH) (r0 : Option Nat) : Nat → Int32 → Int32 → Option (Int32)
  | 0, _, _ => none
  | n + 1, x21, x22 =>
    (gfI S 9 2 r0).bind fun x23 =>
    if x23 ≤ x22 then
    (some x21)
    else
    (gfI S 9 9 r0).bind fun x24 =>
    (fX9_ways N S r0 x22 (17 : Int32) x24).bind fun x25 =>
    nm (fun (x26 : Int32) (x27 : Int32) =>
    nm (x26 ||| x27) fun x28 =>
    nm (x22 + (1 : Int32)) fun x29 =>
    lX9_whose_4 N S r0 n x28 x29) fun j34 =>
    if x25 = 0 then
    (j34 x21 (0 : Int32))
    else
    j34 x21 ((1 : Int32) <<< (x22 &&& 31))
def fX9_whose (N : Nat) (S : pH) (r0 : Option Nat) : Option (Int32) :=
  chk S 9 r0 <|
  (lX9_whose_4 N S r0 N (0 : Int32) (0 : Int32)).bind fun x32 =>
  some x32
theorem oX9_whose {N : Nat} {S : pH} {r0 : Option Nat} {z : Int32} (h : fX9_whose N S r0 = some z) : ∃ fs, obj S 9 r0 = some fs := by
  unfold fX9_whose at h
  exact (chk_spec h).1
set_option maxHeartbeats 1000000 in
set_option maxRecDepth 20000 in
theorem kX9_whose_4 {g : VG} {w : VW} {N : Nat} {S : pH} {r0 : Option Nat} {v0 : Int32} (hC : Cx g yX9_whose cX9_whose 3 (some .int) rmX9_whose w) : ∀ (n : Nat) (x21 : Int32) (x22 : Int32) (z : (Int32)), lX9_whose_4 N S r0 n x21 x22 = some z → (∀ (e0 : Int32), z = e0 → V g w 3 (Qm g w rmX9_whose.cells rmX9_whose.slots (some (.int v0)) S) S 0 0 42 [(1, .int e0)] []) → V g w 3 (Qm g w rmX9_whose.cells rmX9_whose.slots (some (.int v0)) S) S 0 0 4 [(0, va_rf r0), (1, .int x21), (2, .int x22)] [] := by
  intro n
  induction n with
  | zero => intro x21 x22 z h; rw [lX9_whose_4] at h; cases h
  | succ n ih =>
    intro x21 x22 z h K
    rw [lX9_whose_4] at h
    refine v_iload_n hC 4 2 dX9_whose_4 rfl ?_
    refine v_aload_n hC 5 0 dX9_whose_5 rfl ?_
    obtain ⟨x23, ex23, h⟩ := obn h
    refine gRX9_101 hC rfl 6 ex23 dX9_whose_6 ?_
    refine v_icmp_ge hC 9 42 dX9_whose_9 (by decide) (fun c31 => ?_) (fun c31 => ?_)
    · replace h := ifp h c31
      refine v_sub [(1, .int x21)] [1] rfl ?_
      exact K _ (sp1 h)
    · replace h := ifn h c31
      refine v_iload_n hC 12 1 dX9_whose_12 rfl ?_
      refine v_aload_n hC 13 0 dX9_whose_13 rfl ?_
      refine v_iload_n hC 14 2 dX9_whose_14 rfl ?_
      refine v_bipush hC (17 : Int32) 15 dX9_whose_15 (by decide) ?_
      refine v_aload_n hC 17 0 dX9_whose_17 rfl ?_
      obtain ⟨x24, ex24, h⟩ := obn h
      refine gRX9_35 hC rfl 18 ex24 dX9_whose_18 ?_
      obtain ⟨x25, ex25, h⟩ := obn h
      refine qX9_184 hC rfl 21 ex25 (by decide) (catL (Nat.le_of_ble_eq_true rfl)) (by decide) dX9_whose_21 ?_
      obtain ⟨j34, f34, h⟩ := onm h
      have J34 : ∀ (x26 : Int32) (x27 : Int32), j34 x26 x27 = some z → V g w 3 (Qm g w rmX9_whose.cells rmX9_whose.slots (some (.int v0)) S) S 0 0 34 [(0, va_rf r0), (2, .int x22)] [.int x27, .int x26] := by
        intro x26 x27 h
        replace h := jb2 f34 h
        refine v_ior hC 34 dX9_whose_34 ?_
        obtain ⟨x28, ex28, h⟩ := onm h
        refine v_topi x28 ex28 ?_
        refine v_istore_n hC [(1, .int x28), (0, va_rf r0), (2, .int x22)] 35 dX9_whose_35 (by decide) (by first | rfl | (simp [cat_rf, cat_i, cat_j]; done) | (simp [cat_rf, cat_i, cat_j]; decide)) ?_
        obtain ⟨x29, ex29, h⟩ := onm h
        refine v_iinc hC x29 [(2, .int x29), (1, .int x28), (0, va_rf r0)] 36 2 dX9_whose_36 rfl (by rw [ex29]; rfl) (by decide) rfl ?_
        refine v_goto hC 39 4 dX9_whose_39 (by decide) ?_
        refine v_sub [(0, va_rf r0), (1, .int x28), (2, .int x29)] [2, 1, 0] rfl ?_
        exact ih _ _ _ h K
      refine v_if_eq hC 24 33 dX9_whose_24 (by decide) (fun c30 => ?_) (fun c30 => ?_)
      · replace h := ifp h c30
        refine v_iconst hC (0 : Int32) 33 dX9_whose_33 (by decide) ?_
        refine v_sub [(0, va_rf r0), (2, .int x22)] [0, 2] rfl ?_
        exact J34 _ _ h
      · replace h := ifn h c30
        refine v_iconst hC (1 : Int32) 27 dX9_whose_27 (by decide) ?_
        refine v_iload_n hC 28 2 dX9_whose_28 rfl ?_
        refine v_ishl hC 29 dX9_whose_29 ?_
        refine v_goto hC 30 34 dX9_whose_30 (by decide) ?_
        refine v_sub [(0, va_rf r0), (2, .int x22)] [0, 2] rfl ?_
        exact J34 _ _ h
set_option maxHeartbeats 1000000 in
set_option maxRecDepth 20000 in
theorem tX9_whose {l : Launch} {w : VW} {N : Nat} {S : pH} {r0 : Option Nat} {v0 : Int32} (h : fX9_whose N S r0 = some v0) : CT l w yX9_whose cX9_whose 3 (some .int) rmX9_whose [va_rf r0] S (some (.int v0)) S := by
  refine v_entry [(0, va_rf r0)] (by decide) (by simp [lg_sl, cat_rf, cat_i, cat_j]) (by simp [lv_args, cat_rf, cat_i, cat_j]) (fun g _ hC => ?_)
  unfold fX9_whose at h
  obtain ⟨hO, h⟩ := chk_spec h
  refine v_iconst hC (0 : Int32) 0 dX9_whose_0 (by decide) ?_
  refine v_istore_n hC [(1, .int (0 : Int32)), (0, va_rf r0)] 1 dX9_whose_1 (by decide) (by first | rfl | (simp [cat_rf, cat_i, cat_j]; done) | (simp [cat_rf, cat_i, cat_j]; decide)) ?_
  refine v_iconst hC (0 : Int32) 2 dX9_whose_2 (by decide) ?_
  refine v_istore_n hC [(2, .int (0 : Int32)), (1, .int (0 : Int32)), (0, va_rf r0)] 3 dX9_whose_3 (by decide) rfl ?_
  obtain ⟨x32, E4, h⟩ := obn h
  refine v_sub [(0, va_rf r0), (1, .int (0 : Int32)), (2, .int (0 : Int32))] [2, 1, 0] rfl ?_
  refine kX9_whose_4 hC _ _ _ _ E4 (fun _ hz9 => ?_)
  cases hz9
  refine v_iload_n hC 42 0 dX9_whose_42 rfl ?_
  obtain rfl := sp1 h
  exact v_iret hC 43 (by decide) (by decide) dX9_whose_43
abbrev rmX9_wish : Room := { frames := 1, cells := 0, slots := 0, locals := 20 }
theorem hdX9_wish : yX9_wish.cls ≠ "java/lang/invoke/MethodHandle" ∧ yX9_wish.cls ≠ "java/lang/invoke/VarHandle" ∧ (parseMethodDescriptor yX9_wish.desc).map (fun d => d.parameters.length) = some 1 := by decide +kernel
def lX9_wish_16 (N : Nat) (r0 : Option Nat) (x1 : Int32) : Nat → Int32 → pH → Option (pH)
  | 0, _, _ => none
  | n + 1, x23, S24 =>
    if (64 : Int32) ≤ x23 then
    (some S24)
    else
    (gfR S24 9 7 r0).bind fun r25 =>
    (stI S24 r25 ((1024 : Int32) + x23) (0 : Int32)).bind fun S26 =>
    nm (x23 + (1 : Int32)) fun x27 =>
    lX9_wish_16 N r0 x1 n x27 S26
def fX9_wish (N : Nat) (S : pH) (r0 : Option Nat) (x1 : Int32) : Option (Int32 × pH) :=
  chk S 9 r0 <|
  (fX9_isPower N S x1).bind fun x21 =>
  if ¬ x21 = 0 then
  ((pfV S 9 8 r0 (.int x1)).bind fun S22 =>
  (lX9_wish_16 N r0 x1 N (0 : Int32) S22).bind fun S29 =>
  some (x1, S29))
  else
  some ((-1 : Int32), S)
theorem oX9_wish {N : Nat} {S : pH} {r0 : Option Nat} {x1 : Int32} {z : Int32 × pH} (h : fX9_wish N S r0 x1 = some z) : ∃ fs, obj S 9 r0 = some fs := by
  unfold fX9_wish at h
  exact (chk_spec h).1
set_option maxHeartbeats 1000000 in
set_option maxRecDepth 20000 in
theorem kX9_wish_16 {g : VG} {w : VW} {N : Nat} {r0 : Option Nat} {x1 : Int32} {v0 : Int32} {S0 : pH} (hC : Cx g yX9_wish cX9_wish 3 (some .int) rmX9_wish w) : ∀ (n : Nat) (x23 : Int32) (S24 : pH) (z : (pH)), lX9_wish_16 N r0 x1 n x23 S24 = some z → (∀ (e0 : pH), z = e0 → V g w 3 (Qm g w rmX9_wish.cells rmX9_wish.slots (some (.int v0)) S0) e0 0 0 39 [(1, .int x1)] []) → V g w 3 (Qm g w rmX9_wish.cells rmX9_wish.slots (some (.int v0)) S0) S24 0 0 16 [(0, va_rf r0), (1, .int x1), (2, .int x23)] [] := by
  intro n
  induction n with
  | zero => intro x23 S24 z h; rw [lX9_wish_16] at h; cases h
  | succ n ih =>
    intro x23 S24 z h K
    rw [lX9_wish_16] at h
    refine v_iload_n hC 16 2 dX9_wish_16 rfl ?_
    refine v_bipush hC (64 : Int32) 17 dX9_wish_17 (by decide) ?_
    refine v_icmp_ge hC 19 39 dX9_wish_19 (by decide) (fun c28 => ?_) (fun c28 => ?_)
    · replace h := ifp h c28
      refine v_sub [(1, .int x1)] [1] rfl ?_
      exact K _ (sp1 h)
    · replace h := ifn h c28
      refine v_aload_n hC 22 0 dX9_wish_22 rfl ?_
      obtain ⟨r25, er25, h⟩ := obn h
      refine gRX9_28 hC rfl 23 er25 dX9_wish_23 ?_
      refine v_sipush hC (1024 : Int32) 26 dX9_wish_26 (by decide) ?_
      refine v_iload_n hC 29 2 dX9_wish_29 rfl ?_
      refine v_iadd hC 30 dX9_wish_30 ?_
      refine v_iconst hC (0 : Int32) 31 dX9_wish_31 (by decide) ?_
      obtain ⟨S26, eS26, h⟩ := obn h
      refine v_iast hC 32 eS26 dX9_wish_32 ?_
      obtain ⟨x27, ex27, h⟩ := onm h
      refine v_iinc hC x27 [(2, .int x27), (0, va_rf r0), (1, .int x1)] 33 2 dX9_wish_33 rfl (by rw [ex27]; rfl) (by decide) rfl ?_
      refine v_goto hC 36 16 dX9_wish_36 (by decide) ?_
      refine v_sub [(0, va_rf r0), (1, .int x1), (2, .int x27)] [1, 2, 0] rfl ?_
      exact ih _ _ _ h K
set_option maxHeartbeats 1000000 in
set_option maxRecDepth 20000 in
theorem tX9_wish {l : Launch} {w : VW} {N : Nat} {S : pH} {r0 : Option Nat} {x1 : Int32} {v0 : Int32} {S0 : pH} (h : fX9_wish N S r0 x1 = some (v0, S0)) : CT l w yX9_wish cX9_wish 3 (some .int) rmX9_wish [va_rf r0, .int x1] S (some (.int v0)) S0 := by
  refine v_entry [(0, va_rf r0), (1, .int x1)] (by decide) (by simp [lg_sl, cat_rf, cat_i, cat_j]) (by simp [lv_args, cat_rf, cat_i, cat_j]) (fun g _ hC => ?_)
  unfold fX9_wish at h
  obtain ⟨hO, h⟩ := chk_spec h
  refine v_iload_n hC 0 1 dX9_wish_0 rfl ?_
  obtain ⟨x21, ex21, h⟩ := obn h
  refine qX9_175 hC rfl 1 ex21 (by decide) (catL (Nat.le_of_ble_eq_true rfl)) (by decide) dX9_wish_1 ?_
  refine v_if_ne hC 4 9 dX9_wish_4 (by decide) (fun c30 => ?_) (fun c30 => ?_)
  · replace h := ifp h c30
    refine v_aload_n hC 9 0 dX9_wish_9 rfl ?_
    refine v_iload_n hC 10 1 dX9_wish_10 rfl ?_
    obtain ⟨S22, eS22, h⟩ := obn h
    refine pRX9_31 hC rfl 11 eS22 dX9_wish_11 ?_
    refine v_iconst hC (0 : Int32) 14 dX9_wish_14 (by decide) ?_
    refine v_istore_n hC [(2, .int (0 : Int32)), (0, va_rf r0), (1, .int x1)] 15 dX9_wish_15 (by decide) rfl ?_
    obtain ⟨S29, E16, h⟩ := obn h
    refine v_sub [(0, va_rf r0), (1, .int x1), (2, .int (0 : Int32))] [1, 2, 0] rfl ?_
    refine kX9_wish_16 hC _ _ _ _ E16 (fun _ hz9 => ?_)
    cases hz9
    refine v_iload_n hC 39 0 dX9_wish_39 rfl ?_
    obtain ⟨rfl, rfl⟩ := sp2 h
    exact v_iret hC 40 (by decide) (by decide) dX9_wish_40
  · replace h := ifn h (fun q => q c30)
    refine v_iconst hC (-1 : Int32) 7 dX9_wish_7 (by decide) ?_
    obtain ⟨rfl, rfl⟩ := sp2 h
    exact v_iret hC 8 (by decide) (by decide) dX9_wish_8
