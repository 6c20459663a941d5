set_option maxRecDepth 20000 in
theorem qX8_168 {g : VG} {w : VW} {nL : Nat} {Q : State → Prop} {S : pH} {kc ks : Nat} {lv : List (Nat × Value)} {rest : List Value} {y : MethodName} {cc : ByteArray} {rt : Option FieldType} {rm : Room} (hC : Cx g y cc nL rt rm w) (hy : y.cls = RX8) (pc : Nat) {N : Nat} {r0 : Option Nat} {r1 : Option Nat} {x2 : Int32} {x3 : Int32} {x4 : Int32} {v0 : Int32} {S0 : pH} (h : fX8_viewMirrored N S r0 r1 x2 x3 x4 = some (v0, S0)) (hR : rmX8_viewMirrored.frames + 1 ≤ rm.frames ∧ 8 + (5 + 11) + rmX8_viewMirrored.locals ≤ rm.locals) (hst : (rest.map fun v => v.category).sum ≤ 8) (hf : kc + 0 ≤ rm.cells ∧ ks + 0 ≤ rm.slots) (d : decode cc pc = .ok (.invokevirtual 168, 3)) (K : V g w nL Q S0 kc ks (pc + 3) lv (.int v0 :: rest)) : V g w nL Q S kc ks pc lv (.int x4 :: .int x3 :: .int x2 :: va_rf r1 :: va_rf r0 :: rest) := by
  obtain ⟨fs, ho⟩ := oX8_viewMirrored h
  exact v_callV (As := [va_rf r1, .int x2, .int x3, .int x4]) (rest := rest) (ci := 8) hC pc (tX8_viewMirrored (l := g.2.1) (w := w) h) rfl (by decide) ho wG533 (by rw [hy]; exact wG532) wG534 wG535 wG197 hdX8_viewMirrored rfl hR hst hf d K
abbrev rmX8_view : Room := { frames := 5, cells := 0, slots := 0, locals := 117 }
theorem hdX8_view : yX8_view.cls ≠ "java/lang/invoke/MethodHandle" ∧ yX8_view.cls ≠ "java/lang/invoke/VarHandle" ∧ (parseMethodDescriptor yX8_view.desc).map (fun d => d.parameters.length) = some 5 := by decide +kernel
def fX8_view (N : Nat) (S : pH) (r0 : Option Nat) (x1 : Int32) (x2 : Int32) (x3 : Int32) (x4 : Int32) (x5 : Int32) : Option (Int32 × pH) :=
  chk S 8 r0 <|
  (fX8_unused N S r0 x2).bind fun r21 =>
  if r21 = none then
  (some ((-1 : Int32), S))
  else
  (gfR S 1 0 r21).bind fun r22 =>
  (fX5_has N S r22 x3 x4).bind fun x23 =>
  if x23 = 0 then
  (some ((-1 : Int32), S))
  else
  (gfI S 1 1 r21).bind fun x24 =>
  (fX8_isWithin N S x5 (0 : Int32) (x24 - (1 : Int32))).bind fun x25 =>
  if ¬ x25 = 0 then
  (if x1 = (0 : Int32) then
  (b2 (fX8_viewStraight N S r0 r21 x3 x4) fun x26 S27 =>
  some (x26, S27))
  else
  if x1 = (1 : Int32) then
  (b2 (fX8_viewTwisted N S r0 r21 x3 x4 x5) fun x29 S30 =>
  some (x29, S30))
  else
  if x1 = (2 : Int32) then
  (b2 (fX8_viewMirrored N S r0 r21 x3 x4 x5) fun x32 S33 =>
  some (x32, S33))
  else
  some ((-1 : Int32), S))
  else
  some ((-1 : Int32), S)
theorem oX8_view {N : Nat} {S : pH} {r0 : Option Nat} {x1 : Int32} {x2 : Int32} {x3 : Int32} {x4 : Int32} {x5 : Int32} {z : Int32 × pH} (h : fX8_view N S r0 x1 x2 x3 x4 x5 = some z) : ∃ fs, obj S 8 r0 = some fs := by
  unfold fX8_view at h
  exact (chk_spec h).1
set_option maxHeartbeats 1000000 in
set_option maxRecDepth 20000 in
theorem tX8_view {l : Launch} {w : VW} {N : Nat} {S : pH} {r0 : Option Nat} {x1 : Int32} {x2 : Int32} {x3 : Int32} {x4 : Int32} {x5 : Int32} {v0 : Int32} {S0 : pH} (h : fX8_view N S r0 x1 x2 x3 x4 x5 = some (v0, S0)) : CT l w yX8_view cX8_view 7 (some .int) rmX8_view [va_rf r0, .int x1, .int x2, .int x3, .int x4, .int x5] S (some (.int v0)) S0 := by
  refine v_entry [(0, va_rf r0), (1, .int x1), (2, .int x2), (3, .int x3), (4, .int x4), (5, .int x5)] (by decide) (by simp [lg_sl, cat_rf, cat_i, cat_j]) (by simp [lv_args, cat_rf, cat_i, cat_j]) (fun g _ hC => ?_)
  unfold fX8_view at h
  obtain ⟨hO, h⟩ := chk_spec h
  refine v_aload_n hC 0 0 dX8_view_0 rfl ?_
  refine v_iload_n hC 1 2 dX8_view_1 rfl ?_
  obtain ⟨r21, er21, h⟩ := obn h
  refine qX8_107 hC rfl 2 er21 (by decide) (catL (Nat.le_of_ble_eq_true rfl)) (by decide) dX8_view_2 ?_
  refine v_astore hC [(6, va_rf r21), (0, va_rf r0), (1, .int x1), (2, .int x2), (3, .int x3), (4, .int x4), (5, .int x5)] 5 dX8_view_5 (by decide) rfl ?_
  refine v_aload hC 7 0 dX8_view_7 rfl ?_
  refine v_ifnull hC 9 42 dX8_view_9 (by decide) (fun c37 => ?_) (fun c37 => ?_)
  · replace h := ifp h c37
    refine v_iconst hC (-1 : Int32) 42 dX8_view_42 (by decide) ?_
    obtain ⟨rfl, rfl⟩ := sp2 h
    exact v_iret hC 43 (by decide) (by decide) dX8_view_43
  · replace h := ifn h c37
    refine v_aload hC 12 0 dX8_view_12 rfl ?_
    obtain ⟨r22, er22, h⟩ := obn h
    refine gRX8_117 hC rfl 14 er22 dX8_view_14 ?_
    refine v_iload_n hC 17 4 dX8_view_17 rfl ?_
    refine v_iload hC 18 5 dX8_view_18 rfl ?_
    obtain ⟨x23, ex23, h⟩ := obn h
    refine qX8_153 hC rfl 20 ex23 (by decide) (catL (Nat.le_of_ble_eq_true rfl)) (by decide) dX8_view_20 ?_
    refine v_if_eq hC 23 42 dX8_view_23 (by decide) (fun c36 => ?_) (fun c36 => ?_)
    · replace h := ifp h c36
      refine v_iconst hC (-1 : Int32) 42 dX8_view_42 (by decide) ?_
      obtain ⟨rfl, rfl⟩ := sp2 h
      exact v_iret hC 43 (by decide) (by decide) dX8_view_43
    · replace h := ifn h c36
      refine v_iload hC 26 6 dX8_view_26 rfl ?_
      refine v_iconst hC (0 : Int32) 28 dX8_view_28 (by decide) ?_
      refine v_aload hC 29 0 dX8_view_29 rfl ?_
      obtain ⟨x24, ex24, h⟩ := obn h
      refine gRX8_111 hC rfl 31 ex24 dX8_view_31 ?_
      refine v_iconst hC (1 : Int32) 34 dX8_view_34 (by decide) ?_
      refine v_isub hC 35 dX8_view_35 ?_
      obtain ⟨x25, ex25, h⟩ := obn h
      refine qX8_81 hC rfl 36 ex25 (by decide) (catL (Nat.le_of_ble_eq_true rfl)) (by decide) dX8_view_36 ?_
      refine v_if_ne hC 39 44 dX8_view_39 (by decide) (fun c35 => ?_) (fun c35 => ?_)
      · replace h := ifp h c35
        refine v_iload_n hC 44 2 dX8_view_44 rfl ?_
        by_cases c28 : x1 = (0 : Int32)
        · replace h := ifp h c28
          refine v_tabIn hC 45 72 (0 : Int32) c28 dX8_view_45 (by decide) (by decide) rfl (by decide) ?_
          refine v_aload_n hC 72 1 dX8_view_72 rfl ?_
          refine v_aload hC 73 0 dX8_view_73 rfl ?_
          refine v_iload_n hC 75 4 dX8_view_75 rfl ?_
          refine v_iload hC 76 5 dX8_view_76 rfl ?_
          obtain ⟨x26, S27, ex26, h⟩ := ob2 h
          refine qX8_160 hC rfl 78 ex26 (by decide) (catL (Nat.le_of_ble_eq_true rfl)) (by decide) dX8_view_78 ?_
          obtain ⟨rfl, rfl⟩ := sp2 h
          exact v_iret hC 81 (by decide) (by decide) dX8_view_81
        replace h := ifn h c28
        by_cases c31 : x1 = (1 : Int32)
        · replace h := ifp h c31
          refine v_tabIn hC 45 82 (1 : Int32) c31 dX8_view_45 (by decide) (by decide) rfl (by decide) ?_
          refine v_aload_n hC 82 1 dX8_view_82 rfl ?_
          refine v_aload hC 83 0 dX8_view_83 rfl ?_
          refine v_iload_n hC 85 4 dX8_view_85 rfl ?_
          refine v_iload hC 86 5 dX8_view_86 rfl ?_
          refine v_iload hC 88 6 dX8_view_88 rfl ?_
          obtain ⟨x29, S30, ex29, h⟩ := ob2 h
          refine qX8_164 hC rfl 90 ex29 (by decide) (catL (Nat.le_of_ble_eq_true rfl)) (by decide) dX8_view_90 ?_
          obtain ⟨rfl, rfl⟩ := sp2 h
          exact v_iret hC 93 (by decide) (by decide) dX8_view_93
        replace h := ifn h c31
        by_cases c34 : x1 = (2 : Int32)
        · replace h := ifp h c34
          refine v_tabIn hC 45 94 (2 : Int32) c34 dX8_view_45 (by decide) (by decide) rfl (by decide) ?_
          refine v_aload_n hC 94 1 dX8_view_94 rfl ?_
          refine v_aload hC 95 0 dX8_view_95 rfl ?_
          refine v_iload_n hC 97 4 dX8_view_97 rfl ?_
          refine v_iload hC 98 5 dX8_view_98 rfl ?_
          refine v_iload hC 100 6 dX8_view_100 rfl ?_
          obtain ⟨x32, S33, ex32, h⟩ := ob2 h
          refine qX8_168 hC rfl 102 ex32 (by decide) (catL (Nat.le_of_ble_eq_true rfl)) (by decide) dX8_view_102 ?_
          obtain ⟨rfl, rfl⟩ := sp2 h
          exact v_iret hC 105 (by decide) (by decide) dX8_view_105
        replace h := ifn h c34
        refine v_tabOut hC 45 106 dX8_view_45 (by have := lv_neT (a := 0) c28 (by decide); have := lv_neT (a := 1) c31 (by decide); have := lv_neT (a := 2) c34 (by decide); omega) (by decide) ?_
        refine v_iconst hC (-1 : Int32) 106 dX8_view_106 (by decide) ?_
        obtain ⟨rfl, rfl⟩ := sp2 h
        exact v_iret hC 107 (by decide) (by decide) dX8_view_107
      · replace h := ifn h (fun q => q c35)
        refine v_iconst hC (-1 : Int32) 42 dX8_view_42 (by decide) ?_
        obtain ⟨rfl, rfl⟩ := sp2 h
        exact v_iret hC 43 (by decide) (by decide) dX8_view_43
abbrev rmX8_want : Room := { frames := 2, cells := 0, slots := 0, locals := 46 }
theorem hdX8_want : yX8_want.cls ≠ "java/lang/invoke/MethodHandle" ∧ yX8_want.cls ≠ "java/lang/invoke/VarHandle" ∧ (parseMethodDescriptor yX8_want.desc).map (fun d => d.parameters.length) = some 3 := by decide +kernel
def fX8_want (N : Nat) (S : pH) (r0 : Option Nat) (x1 : Int32) (x2 : Int32) (x3 : Int32) : Option (Int32 × pH) :=
  chk S 8 r0 <|
  (gfR S 8 5 r0).bind fun r21 =>
  (fX5_has N S r21 x1 x2).bind fun x22 =>
  if x22 = 0 then
  (some ((-1 : Int32), S))
  else
  (fX8_isWithin N S x3 (0 : Int32) (8 : Int32)).bind fun x23 =>
  if ¬ x23 = 0 then
  ((gfR S 8 5 r0).bind fun r24 =>
  b2 (fX5_put N S r24 x1 x2 x3) fun x25 S26 =>
  some (x25, S26))
  else
  some ((-1 : Int32), S)
theorem oX8_want {N : Nat} {S : pH} {r0 : Option Nat} {x1 : Int32} {x2 : Int32} {x3 : Int32} {z : Int32 × pH} (h : fX8_want N S r0 x1 x2 x3 = some z) : ∃ fs, obj S 8 r0 = some fs := by
  unfold fX8_want at h
  exact (chk_spec h).1
set_option maxHeartbeats 1000000 in
set_option maxRecDepth 20000 in
theorem tX8_want {l : Launch} {w : VW} {N : Nat} {S : pH} {r0 : Option Nat} {x1 : Int32} {x2 : Int32} {x3 : Int32} {v0 : Int32} {S0 : pH} (h : fX8_want N S r0 x1 x2 x3 = some (v0, S0)) : CT l w yX8_want cX8_want 4 (some .int) rmX8_want [va_rf r0, .int x1, .int x2, .int x3] S (some (.int v0)) S0 := by
  refine v_entry [(0, va_rf r0), (1, .int x1), (2, .int x2), (3, .int x3)] (by decide) (by simp [lg_sl, cat_rf, cat_i, cat_j]) (by simp [lv_args, cat_rf, cat_i, cat_j]) (fun g _ hC => ?_)
  unfold fX8_want at h
  obtain ⟨hO, h⟩ := chk_spec h
  refine v_aload_n hC 0 0 dX8_want_0 rfl ?_
  obtain ⟨r21, er21, h⟩ := obn h
  refine gRX8_45 hC rfl 1 er21 dX8_want_1 ?_
  refine v_iload_n hC 4 1 dX8_want_4 rfl ?_
  refine v_iload_n hC 5 2 dX8_want_5 rfl ?_
  obtain ⟨x22, ex22, h⟩ := obn h
  refine qX8_153 hC rfl 6 ex22 (by decide) (catL (Nat.le_of_ble_eq_true rfl)) (by decide) dX8_want_6 ?_
  refine v_if_eq hC 9 22 dX8_want_9 (by decide) (fun c28 => ?_) (fun c28 => ?_)
  · replace h := ifp h c28
    refine v_iconst hC (-1 : Int32) 22 dX8_want_22 (by decide) ?_
    obtain ⟨rfl, rfl⟩ := sp2 h
    exact v_iret hC 23 (by decide) (by decide) dX8_want_23
  · replace h := ifn h c28
    refine v_iload_n hC 12 3 dX8_want_12 rfl ?_
    refine v_iconst hC (0 : Int32) 13 dX8_want_13 (by decide) ?_
    refine v_bipush hC (8 : Int32) 14 dX8_want_14 (by decide) ?_
    obtain ⟨x23, ex23, h⟩ := obn h
    refine qX8_81 hC rfl 16 ex23 (by decide) (catL (Nat.le_of_ble_eq_true rfl)) (by decide) dX8_want_16 ?_
    refine v_if_ne hC 19 24 dX8_want_19 (by decide) (fun c27 => ?_) (fun c27 => ?_)
    · replace h := ifp h c27
      refine v_aload_n hC 24 0 dX8_want_24 rfl ?_
      obtain ⟨r24, er24, h⟩ := obn h
      refine gRX8_45 hC rfl 25 er24 dX8_want_25 ?_
      refine v_iload_n hC 28 1 dX8_want_28 rfl ?_
      refine v_iload_n hC 29 2 dX8_want_29 rfl ?_
      refine v_iload_n hC 30 3 dX8_want_30 rfl ?_
      obtain ⟨x25, S26, ex25, h⟩ := ob2 h
      refine qX8_246 hC rfl 31 ex25 (by decide) (catL (Nat.le_of_ble_eq_true rfl)) (by decide) dX8_want_31 ?_
      obtain ⟨rfl, rfl⟩ := sp2 h
      exact v_iret hC 34 (by decide) (by decide) dX8_want_34
    · replace h := ifn h (fun q => q c27)
      refine v_iconst hC (-1 : Int32) 22 dX8_want_22 (by decide) ?_
      obtain ⟨rfl, rfl⟩ := sp2 h
      exact v_iret hC 23 (by decide) (by decide) dX8_want_23
set_option maxRecDepth 20000 in
theorem qX8_303 {g : VG} {w : VW} {nL : Nat} {Q : State → Prop} {S : pH} {kc ks : Nat} {lv : List (Nat × Value)} {rest : List Value} {y : MethodName} {cc : ByteArray} {rt : Option FieldType} {rm : Room} (hC : Cx g y cc nL rt rm w) (hy : y.cls = RX8) (pc : Nat) {N : Nat} {r0 : Option Nat} {x1 : Int32} {x2 : Int32} {x3 : Int32} {v0 : Int32} {S0 : pH} (h : fX6_tell N S r0 x1 x2 x3 = some (v0, S0)) (hR : rmX6_tell.frames + 1 ≤ rm.frames ∧ 8 + (5 + 11) + rmX6_tell.locals ≤ rm.locals) (hst : (rest.map fun v => v.category).sum ≤ 8) (hf : kc + 0 ≤ rm.cells ∧ ks + 0 ≤ rm.slots) (d : decode cc pc = .ok (.invokevirtual 303, 3)) (K : V g w nL Q S0 kc ks (pc + 3) lv (.int v0 :: rest)) : V g w nL Q S kc ks pc lv (.int x3 :: .int x2 :: .int x1 :: va_rf r0 :: rest) := by
  obtain ⟨fs, ho⟩ := oX6_tell h
  exact v_callV (As := [.int x1, .int x2, .int x3]) (rest := rest) (ci := 6) hC pc (tX6_tell (l := g.2.1) (w := w) h) rfl (by decide) ho wG537 (by rw [hy]; exact wG536) wG538 wG539 wG125 hdX6_tell rfl hR hst hf d K
abbrev rmX8_weigh : Room := { frames := 3, cells := 0, slots := 0, locals := 64 }
theorem hdX8_weigh : yX8_weigh.cls ≠ "java/lang/invoke/MethodHandle" ∧ yX8_weigh.cls ≠ "java/lang/invoke/VarHandle" ∧ (parseMethodDescriptor yX8_weigh.desc).map (fun d => d.parameters.length) = some 3 := by decide +kernel
def fX8_weigh (N : Nat) (S : pH) (r0 : Option Nat) (x1 : Int32) (x2 : Int32) (x3 : Int32) : Option (Int32 × pH) :=
  chk S 8 r0 <|
  (fX8_isWithin N S x1 (1 : Int32) (511 : Int32)).bind fun x21 =>
  if x21 = 0 then
  (some ((-1 : Int32), S))
  else
  (fX8_isWithin N S x2 (1 : Int32) (511 : Int32)).bind fun x22 =>
  if x22 = 0 then
  (some ((-1 : Int32), S))
  else
  (fX8_isWithin N S x3 (-1 : Int32) (1 : Int32)).bind fun x23 =>
  if x23 = 0 then
  (some ((-1 : Int32), S))
  else
  if ¬ (x1 &&& x2) = 0 then
  (some ((-1 : Int32), S))
  else
  (fJ6_bitCount_0f7a4 N S x1).bind fun x24 =>
  (fJ6_bitCount_0f7a4 N S x2).bind fun x25 =>
  if x24 = x25 then
  ((gfR S 8 9 r0).bind fun r26 =>
  (gfI S 6 2 r26).bind fun x27 =>
  if x27 < (6 : Int32) then
  ((gfR S 8 9 r0).bind fun r28 =>
  b2 (fX6_tell N S r28 x1 x2 x3) fun x29 S30 =>
  some (x29, S30))
  else
  some ((-3 : Int32), S))
  else
  some ((-1 : Int32), S)
theorem oX8_weigh {N : Nat} {S : pH} {r0 : Option Nat} {x1 : Int32} {x2 : Int32} {x3 : Int32} {z : Int32 × pH} (h : fX8_weigh N S r0 x1 x2 x3 = some z) : ∃ fs, obj S 8 r0 = some fs := by
  unfold fX8_weigh at h
  exact (chk_spec h).1
set_option maxHeartbeats 1000000 in
set_option maxRecDepth 20000 in
theorem tX8_weigh {l : Launch} {w : VW} {N : Nat} {S : pH} {r0 : Option Nat} {x1 : Int32} {x2 : Int32} {x3 : Int32} {v0 : Int32} {S0 : pH} (h : fX8_weigh N S r0 x1 x2 x3 = some (v0, S0)) : CT l w yX8_weigh cX8_weigh 4 (some .int) rmX8_weigh [va_rf r0, .int x1, .int x2, .int x3] S (some (.int v0)) S0 := by
  refine v_entry [(0, va_rf r0), (1, .int x1), (2, .int x2), (3, .int x3)] (by decide) (by simp [lg_sl, cat_rf, cat_i, cat_j]) (by simp [lv_args, cat_rf, cat_i, cat_j]) (fun g _ hC => ?_)
  unfold fX8_weigh at h
  obtain ⟨hO, h⟩ := chk_spec h
  refine v_iload_n hC 0 1 dX8_weigh_0 rfl ?_
  refine v_iconst hC (1 : Int32) 1 dX8_weigh_1 (by decide) ?_
  refine v_sipush hC (511 : Int32) 2 dX8_weigh_2 (by decide) ?_
  obtain ⟨x21, ex21, h⟩ := obn h
  refine qX8_81 hC rfl 5 ex21 (by decide) (catL (Nat.le_of_ble_eq_true rfl)) (by decide) dX8_weigh_5 ?_
  refine v_if_eq hC 8 48 dX8_weigh_8 (by decide) (fun c36 => ?_) (fun c36 => ?_)
  · replace h := ifp h c36
    refine v_iconst hC (-1 : Int32) 48 dX8_weigh_48 (by decide) ?_
    obtain ⟨rfl, rfl⟩ := sp2 h
    exact v_iret hC 49 (by decide) (by decide) dX8_weigh_49
  · replace h := ifn h c36
    refine v_iload_n hC 11 2 dX8_weigh_11 rfl ?_
    refine v_iconst hC (1 : Int32) 12 dX8_weigh_12 (by decide) ?_
    refine v_sipush hC (511 : Int32) 13 dX8_weigh_13 (by decide) ?_
    obtain ⟨x22, ex22, h⟩ := obn h
    refine qX8_81 hC rfl 16 ex22 (by decide) (catL (Nat.le_of_ble_eq_true rfl)) (by decide) dX8_weigh_16 ?_
    refine v_if_eq hC 19 48 dX8_weigh_19 (by decide) (fun c35 => ?_) (fun c35 => ?_)
    · replace h := ifp h c35
      refine v_iconst hC (-1 : Int32) 48 dX8_weigh_48 (by decide) ?_
      obtain ⟨rfl, rfl⟩ := sp2 h
      exact v_iret hC 49 (by decide) (by decide) dX8_weigh_49
    · replace h := ifn h c35
      refine v_iload_n hC 22 3 dX8_weigh_22 rfl ?_
      refine v_iconst hC (-1 : Int32) 23 dX8_weigh_23 (by decide) ?_
      refine v_iconst hC (1 : Int32) 24 dX8_weigh_24 (by decide) ?_
      obtain ⟨x23, ex23, h⟩ := obn h
      refine qX8_81 hC rfl 25 ex23 (by decide) (catL (Nat.le_of_ble_eq_true rfl)) (by decide) dX8_weigh_25 ?_
      refine v_if_eq hC 28 48 dX8_weigh_28 (by decide) (fun c34 => ?_) (fun c34 => ?_)
      · replace h := ifp h c34
        refine v_iconst hC (-1 : Int32) 48 dX8_weigh_48 (by decide) ?_
        obtain ⟨rfl, rfl⟩ := sp2 h
        exact v_iret hC 49 (by decide) (by decide) dX8_weigh_49
      · replace h := ifn h c34
        refine v_iload_n hC 31 1 dX8_weigh_31 rfl ?_
        refine v_iload_n hC 32 2 dX8_weigh_32 rfl ?_
        refine v_iand hC 33 dX8_weigh_33 ?_
        refine v_if_ne hC 34 48 dX8_weigh_34 (by decide) (fun c33 => ?_) (fun c33 => ?_)
        · replace h := ifp h c33
          refine v_iconst hC (-1 : Int32) 48 dX8_weigh_48 (by decide) ?_
          obtain ⟨rfl, rfl⟩ := sp2 h
          exact v_iret hC 49 (by decide) (by decide) dX8_weigh_49
        · replace h := ifn h (fun q => q c33)
          refine v_iload_n hC 37 1 dX8_weigh_37 rfl ?_
          obtain ⟨x24, ex24, h⟩ := obn h
          refine qX8_258 hC rfl 38 ex24 (by decide) (catL (Nat.le_of_ble_eq_true rfl)) (by decide) dX8_weigh_38 ?_
          refine v_iload_n hC 41 2 dX8_weigh_41 rfl ?_
          obtain ⟨x25, ex25, h⟩ := obn h
          refine qX8_258 hC rfl 42 ex25 (by decide) (catL (Nat.le_of_ble_eq_true rfl)) (by decide) dX8_weigh_42 ?_
          refine v_icmp_eq hC 45 50 dX8_weigh_45 (by decide) (fun c32 => ?_) (fun c32 => ?_)
          · replace h := ifp h c32
            refine v_aload_n hC 50 0 dX8_weigh_50 rfl ?_
            obtain ⟨r26, er26, h⟩ := obn h
            refine gRX8_69 hC rfl 51 er26 dX8_weigh_51 ?_
            obtain ⟨x27, ex27, h⟩ := obn h
            refine gRX8_300 hC rfl 54 ex27 dX8_weigh_54 ?_
            refine v_bipush hC (6 : Int32) 57 dX8_weigh_57 (by decide) ?_
            refine v_icmp_lt hC 59 65 dX8_weigh_59 (by decide) (fun c31 => ?_) (fun c31 => ?_)
            · replace h := ifp h c31
              refine v_aload_n hC 65 0 dX8_weigh_65 rfl ?_
              obtain ⟨r28, er28, h⟩ := obn h
              refine gRX8_69 hC rfl 66 er28 dX8_weigh_66 ?_
              refine v_iload_n hC 69 1 dX8_weigh_69 rfl ?_
              refine v_iload_n hC 70 2 dX8_weigh_70 rfl ?_
              refine v_iload_n hC 71 3 dX8_weigh_71 rfl ?_
              obtain ⟨x29, S30, ex29, h⟩ := ob2 h
              refine qX8_303 hC rfl 72 ex29 (by decide) (catL (Nat.le_of_ble_eq_true rfl)) (by decide) dX8_weigh_72 ?_
              obtain ⟨rfl, rfl⟩ := sp2 h
              exact v_iret hC 75 (by decide) (by decide) dX8_weigh_75
            · replace h := ifn h c31
              refine v_bipush hC (-3 : Int32) 62 dX8_weigh_62 (by decide) ?_
              obtain ⟨rfl, rfl⟩ := sp2 h
              exact v_iret hC 64 (by decide) (by decide) dX8_weigh_64
          · replace h := ifn h c32
            refine v_iconst hC (-1 : Int32) 48 dX8_weigh_48 (by decide) ?_
            obtain ⟨rfl, rfl⟩ := sp2 h
            exact v_iret hC 49 (by decide) (by decide) dX8_weigh_49
abbrev rmX8_whose : Room := { frames := 5, cells := 0, slots := 0, locals := 117 }
theorem hdX8_whose : yX8_whose.cls ≠ "java/lang/invoke/MethodHandle" ∧ yX8_whose.cls ≠ "java/lang/invoke/VarHandle" ∧ (parseMethodDescriptor yX8_whose.desc).map (fun d => d.parameters.length) = some 0 := by decide +kernel
def lX8_whose_4 (N : Nat) (S : pH) (r0 : Option Nat) : Nat → Int32 → Int32 → Option (Int32)
  | 0, _, _ => none
  | n + 1, x21, x22 =>
    (gfI S 8 2 r0).bind fun x23 =>
    if x23 ≤ x22 then
    (some x21)
    else
    (fX8_find N S r0 x22).bind fun r24 =>
    nm (fun (x25 : Int32) =>
    nm (x22 + (1 : Int32)) fun x26 =>
    lX8_whose_4 N S r0 n x25 x26) fun j42 =>
    if r24 = none then
    (j42 x21)
    else
    (gfR S 1 0 r24).bind fun r27 =>
    (gfR S 8 6 r0).bind fun r28 =>
    (fX5_waysToShow N S r27 r28).bind fun x29 =>
    if x29 = 0 then
    (j42 x21)
    else
    nm (x21 ||| ((1 : Int32) <<< (x22 &&& 31))) fun x30 =>
    j42 x30
def fX8_whose (N : Nat) (S : pH) (r0 : Option Nat) : Option (Int32) :=
  chk S 8 r0 <|
  (lX8_whose_4 N S r0 N (0 : Int32) (0 : Int32)).bind fun x34 =>
  some x34
theorem oX8_whose {N : Nat} {S : pH} {r0 : Option Nat} {z : Int32} (h : fX8_whose N S r0 = some z) : ∃ fs, obj S 8 r0 = some fs := by
  unfold fX8_whose at h
  exact (chk_spec h).1
set_option maxHeartbeats 1000000 in
set_option maxRecDepth 20000 in
theorem kX8_whose_4 {g : VG} {w : VW} {N : Nat} {S : pH} {r0 : Option Nat} {v0 : Int32} (hC : Cx g yX8_whose cX8_whose 4 (some .int) rmX8_whose w) : ∀ (n : Nat) (x21 : Int32) (x22 : Int32) (z : (Int32)), lX8_whose_4 N S r0 n x21 x22 = some z → (∀ (e0 : Int32), z = e0 → V g w 4 (Qm g w rmX8_whose.cells rmX8_whose.slots (some (.int v0)) S) S 0 0 48 [(1, .int e0)] []) → V g w 4 (Qm g w rmX8_whose.cells rmX8_whose.slots (some (.int v0)) S) S 0 0 4 [(0, va_rf r0), (1, .int x21), (2, .int x22)] [] := by
  intro n
  induction n with
  | zero => intro x21 x22 z h; rw [lX8_whose_4] at h; cases h
  | succ n ih =>
    intro x21 x22 z h K
    rw [lX8_whose_4] at h
    refine v_iload_n hC 4 2 dX8_whose_4 rfl ?_
    refine v_aload_n hC 5 0 dX8_whose_5 rfl ?_
    obtain ⟨x23, ex23, h⟩ := obn h
    refine gRX8_22 hC rfl 6 ex23 dX8_whose_6 ?_
    refine v_icmp_ge hC 9 48 dX8_whose_9 (by decide) (fun c33 => ?_) (fun c33 => ?_)
    · replace h := ifp h c33
      refine v_sub [(1, .int x21)] [1] rfl ?_
      exact K _ (sp1 h)
    · replace h := ifn h c33
      refine v_aload_n hC 12 0 dX8_whose_12 rfl ?_
      refine v_iload_n hC 13 2 dX8_whose_13 rfl ?_
      obtain ⟨r24, er24, h⟩ := obn h
      refine qX8_142 hC rfl 14 er24 (by decide) (catL (Nat.le_of_ble_eq_true rfl)) (by decide) dX8_whose_14 ?_
      refine v_astore_n hC [(3, va_rf r24), (0, va_rf r0), (1, .int x21), (2, .int x22)] 17 dX8_whose_17 (by decide) rfl ?_
      refine v_aload_n hC 18 0 dX8_whose_18 rfl ?_
      obtain ⟨j42, f42, h⟩ := onm h
      have J42 : ∀ (x25 : Int32), j42 x25 = some z → V g w 4 (Qm g w rmX8_whose.cells rmX8_whose.slots (some (.int v0)) S) S 0 0 42 [(0, va_rf r0), (1, .int x25), (2, .int x22)] [] := by
        intro x25 h
        replace h := jb1 f42 h
        obtain ⟨x26, ex26, h⟩ := onm h
        refine v_iinc hC x26 [(2, .int x26), (0, va_rf r0), (1, .int x25)] 42 2 dX8_whose_42 rfl (by rw [ex26]; rfl) (by decide) rfl ?_
        refine v_goto hC 45 4 dX8_whose_45 (by decide) ?_
        refine v_sub [(0, va_rf r0), (1, .int x25), (2, .int x26)] [1, 2, 0] rfl ?_
        exact ih _ _ _ h K
      refine v_ifnull hC 19 42 dX8_whose_19 (by decide) (fun c32 => ?_) (fun c32 => ?_)
      · replace h := ifp h c32
        refine v_sub [(0, va_rf r0), (1, .int x21), (2, .int x22)] [1, 2, 3] rfl ?_
        exact J42 _ h
      · replace h := ifn h c32
        refine v_aload_n hC 22 0 dX8_whose_22 rfl ?_
        obtain ⟨r27, er27, h⟩ := obn h
        refine gRX8_117 hC rfl 23 er27 dX8_whose_23 ?_
        refine v_aload_n hC 26 1 dX8_whose_26 rfl ?_
        obtain ⟨r28, er28, h⟩ := obn h
        refine gRX8_49 hC rfl 27 er28 dX8_whose_27 ?_
        obtain ⟨x29, ex29, h⟩ := obn h
        refine qX8_263 hC rfl 30 ex29 (by decide) (catL (Nat.le_of_ble_eq_true rfl)) (by decide) dX8_whose_30 ?_
        refine v_if_eq hC 33 42 dX8_whose_33 (by decide) (fun c31 => ?_) (fun c31 => ?_)
        · replace h := ifp h c31
          refine v_sub [(0, va_rf r0), (1, .int x21), (2, .int x22)] [1, 2, 3] rfl ?_
          exact J42 _ h
        · replace h := ifn h c31
          refine v_iload_n hC 36 2 dX8_whose_36 rfl ?_
          refine v_iconst hC (1 : Int32) 37 dX8_whose_37 (by decide) ?_
          refine v_iload_n hC 38 3 dX8_whose_38 rfl ?_
          refine v_ishl hC 39 dX8_whose_39 ?_
          refine v_ior hC 40 dX8_whose_40 ?_
          obtain ⟨x30, ex30, h⟩ := onm h
          refine v_topi x30 ex30 ?_
          refine v_istore_n hC [(1, .int x30), (3, va_rf r24), (0, va_rf r0), (2, .int x22)] 41 dX8_whose_41 (by decide) (by first | rfl | (simp [cat_rf, cat_i, cat_j]; done) | (simp [cat_rf, cat_i, cat_j]; decide)) ?_
          refine v_sub [(0, va_rf r0), (1, .int x30), (2, .int x22)] [2, 0, 3] rfl ?_
          exact J42 _ h
set_option maxHeartbeats 1000000 in
set_option maxRecDepth 20000 in
theorem tX8_whose {l : Launch} {w : VW} {N : Nat} {S : pH} {r0 : Option Nat} {v0 : Int32} (h : fX8_whose N S r0 = some v0) : CT l w yX8_whose cX8_whose 4 (some .int) rmX8_whose [va_rf r0] S (some (.int v0)) S := by
  refine v_entry [(0, va_rf r0)] (by decide) (by simp [lg_sl, cat_rf, cat_i, cat_j]) (by simp [lv_args, cat_rf, cat_i, cat_j]) (fun g _ hC => ?_)
  unfold fX8_whose at h
  obtain ⟨hO, h⟩ := chk_spec h
  refine v_iconst hC (0 : Int32) 0 dX8_whose_0 (by decide) ?_
  refine v_istore_n hC [(1, .int (0 : Int32)), (0, va_rf r0)] 1 dX8_whose_1 (by decide) (by first | rfl | (simp [cat_rf, cat_i, cat_j]; done) | (simp [cat_rf, cat_i, cat_j]; decide)) ?_
  refine v_iconst hC (0 : Int32) 2 dX8_whose_2 (by decide) ?_
  refine v_istore_n hC [(2, .int (0 : Int32)), (1, .int (0 : Int32)), (0, va_rf r0)] 3 dX8_whose_3 (by decide) rfl ?_
  obtain ⟨x34, E4, h⟩ := obn h
  refine v_sub [(0, va_rf r0), (1, .int (0 : Int32)), (2, .int (0 : Int32))] [2, 1, 0] rfl ?_
  refine kX8_whose_4 hC _ _ _ _ E4 (fun _ hz9 => ?_)
  cases hz9
  refine v_iload_n hC 48 0 dX8_whose_48 rfl ?_
  obtain rfl := sp1 h
  exact v_iret hC 49 (by decide) (by decide) dX8_whose_49
abbrev rmX8_wish : Room := { frames := 2, cells := 0, slots := 0, locals := 45 }
theorem hdX8_wish : yX8_wish.cls ≠ "java/lang/invoke/MethodHandle" ∧ yX8_wish.cls ≠ "java/lang/invoke/VarHandle" ∧ (parseMethodDescriptor yX8_wish.desc).map (fun d => d.parameters.length) = some 1 := by decide +kernel
def fX8_wish (N : Nat) (S : pH) (r0 : Option Nat) (x1 : Int32) : Option (Int32 × pH) :=
  chk S 8 r0 <|
  (fX8_isWishSide N S x1).bind fun x21 =>
  if ¬ x21 = 0 then
  ((gfR S 8 5 r0).bind fun r22 =>
  (fX5_reset N S r22 x1 (0 : Int32)).bind fun S23 =>
  some (x1, S23))
  else
  some ((-1 : Int32), S)
theorem oX8_wish {N : Nat} {S : pH} {r0 : Option Nat} {x1 : Int32} {z : Int32 × pH} (h : fX8_wish N S r0 x1 = some z) : ∃ fs, obj S 8 r0 = some fs := by
  unfold fX8_wish at h
  exact (chk_spec h).1
set_option maxHeartbeats 1000000 in
set_option maxRecDepth 20000 in
theorem tX8_wish {l : Launch} {w : VW} {N : Nat} {S : pH} {r0 : Option Nat} {x1 : Int32} {v0 : Int32} {S0 : pH} (h : fX8_wish N S r0 x1 = some (v0, S0)) : CT l w yX8_wish cX8_wish 2 (some .int) rmX8_wish [va_rf r0, .int x1] S (some (.int v0)) S0 := by
  refine v_entry [(0, va_rf r0), (1, .int x1)] (by decide) (by simp [lg_sl, cat_rf, cat_i, cat_j]) (by simp [lv_args, cat_rf, cat_i, cat_j]) (fun g _ hC => ?_)
  unfold fX8_wish at h
  obtain ⟨hO, h⟩ := chk_spec h
  refine v_iload_n hC 0 1 dX8_wish_0 rfl ?_
  obtain ⟨x21, ex21, h⟩ := obn h
  refine qX8_240 hC rfl 1 ex21 (by decide) (catL (Nat.le_of_ble_eq_true rfl)) (by decide) dX8_wish_1 ?_
  refine v_if_ne hC 4 9 dX8_wish_4 (by decide) (fun c24 => ?_) (fun c24 => ?_)
  · replace h := ifp h c24
    refine v_aload_n hC 9 0 dX8_wish_9 rfl ?_
    obtain ⟨r22, er22, h⟩ := obn h
    refine gRX8_45 hC rfl 10 er22 dX8_wish_10 ?_
    refine v_iload_n hC 13 1 dX8_wish_13 rfl ?_
    refine v_iconst hC (0 : Int32) 14 dX8_wish_14 (by decide) ?_
    obtain ⟨S23, eS23, h⟩ := obn h
    refine qX8_243 hC rfl 15 eS23 (by decide) (catL (Nat.le_of_ble_eq_true rfl)) (by decide) dX8_wish_15 ?_
    refine v_iload_n hC 18 1 dX8_wish_18 rfl ?_
    obtain ⟨rfl, rfl⟩ := sp2 h
    exact v_iret hC 19 (by decide) (by decide) dX8_wish_19
  · replace h := ifn h (fun q => q c24)
    refine v_iconst hC (-1 : Int32) 7 dX8_wish_7 (by decide) ?_
    obtain ⟨rfl, rfl⟩ := sp2 h
    exact v_iret hC 8 (by decide) (by decide) dX8_wish_8
abbrev rmX9_at : Room := { frames := 0, cells := 0, slots := 0, locals := 0 }
theorem hdX9_at : yX9_at.cls ≠ "java/lang/invoke/MethodHandle" ∧ yX9_at.cls ≠ "java/lang/invoke/VarHandle" ∧ (parseMethodDescriptor yX9_at.desc).map (fun d => d.parameters.length) = some 3 := by decide +kernel
def fX9_at (N : Nat) (S : pH) (r0 : Option Nat) (x1 : Int32) (x2 : Int32) (x3 : Int32) : Option (Int32) :=
  chk S 9 r0 <|
  (gfR S 9 7 r0).bind fun r21 =>
  (ldI S 0 r21 ((((64 : Int32) * x1) + ((8 : Int32) * x3)) + x2)).bind fun x22 =>
  some x22
theorem oX9_at {N : Nat} {S : pH} {r0 : Option Nat} {x1 : Int32} {x2 : Int32} {x3 : Int32} {z : Int32} (h : fX9_at N S r0 x1 x2 x3 = some z) : ∃ fs, obj S 9 r0 = some fs := by
  unfold fX9_at at h
  exact (chk_spec h).1
set_option maxHeartbeats 1000000 in
set_option maxRecDepth 20000 in
theorem tX9_at {l : Launch} {w : VW} {N : Nat} {S : pH} {r0 : Option Nat} {x1 : Int32} {x2 : Int32} {x3 : Int32} {v0 : Int32} (h : fX9_at N S r0 x1 x2 x3 = some v0) : CT l w yX9_at cX9_at 4 (some .int) rmX9_at [va_rf r0, .int x1, .int x2, .int x3] S (some (.int v0)) S := by
  refine v_entry [(0, va_rf r0), (1, .int x1), (2, .int x2), (3, .int x3)] (by decide) (by simp [lg_sl, cat_rf, cat_i, cat_j]) (by simp [lv_args, cat_rf, cat_i, cat_j]) (fun g _ hC => ?_)
  unfold fX9_at at h
  obtain ⟨hO, h⟩ := chk_spec h
  refine v_aload_n hC 0 0 dX9_at_0 rfl ?_
  obtain ⟨r21, er21, h⟩ := obn h
  refine gRX9_28 hC rfl 1 er21 dX9_at_1 ?_
  refine v_bipush hC (64 : Int32) 4 dX9_at_4 (by decide) ?_
  refine v_iload_n hC 6 1 dX9_at_6 rfl ?_
  refine v_imul hC 7 dX9_at_7 ?_
  refine v_bipush hC (8 : Int32) 8 dX9_at_8 (by decide) ?_
  refine v_iload_n hC 10 3 dX9_at_10 rfl ?_
  refine v_imul hC 11 dX9_at_11 ?_
  refine v_iadd hC 12 dX9_at_12 ?_
  refine v_iload_n hC 13 2 dX9_at_13 rfl ?_
  refine v_iadd hC 14 dX9_at_14 ?_
  obtain ⟨x22, ex22, h⟩ := obn h
  refine v_iald hC 15 ex22 dX9_at_15 ?_
  obtain rfl := sp1 h
  exact v_iret hC 16 (by decide) (by decide) dX9_at_16
set_option maxRecDepth 20000 in
theorem qX9_121 {g : VG} {w : VW} {nL : Nat} {Q : State → Prop} {S : pH} {kc ks : Nat} {lv : List (Nat × Value)} {rest : List Value} {y : MethodName} {cc : ByteArray} {rt : Option FieldType} {rm : Room} (hC : Cx g y cc nL rt rm w) (hy : y.cls = RX9) (pc : Nat) {N : Nat} {r0 : Option Nat} {x1 : Int32} {x2 : Int32} {x3 : Int32} {v0 : Int32} (h : fX9_at N S r0 x1 x2 x3 = some v0) (hR : rmX9_at.frames + 1 ≤ rm.frames ∧ 8 + (4 + 11) + rmX9_at.locals ≤ rm.locals) (hst : (rest.map fun v => v.category).sum ≤ 8) (hf : kc + 0 ≤ rm.cells ∧ ks + 0 ≤ rm.slots) (d : decode cc pc = .ok (.invokevirtual 121, 3)) (K : V g w nL Q S kc ks (pc + 3) lv (.int v0 :: rest)) : V g w nL Q S kc ks pc lv (.int x3 :: .int x2 :: .int x1 :: va_rf r0 :: rest) := by
  obtain ⟨fs, ho⟩ := oX9_at h
  exact v_callV (As := [.int x1, .int x2, .int x3]) (rest := rest) (ci := 9) hC pc (tX9_at (l := g.2.1) (w := w) h) rfl (by decide) ho wG541 (by rw [hy]; exact wG540) wG543 wG544 wG542 hdX9_at rfl hR hst hf d K
abbrev rmX9_costs : Room := { frames := 1, cells := 0, slots := 0, locals := 23 }
theorem hdX9_costs : yX9_costs.cls ≠ "java/lang/invoke/MethodHandle" ∧ yX9_costs.cls ≠ "java/lang/invoke/VarHandle" ∧ (parseMethodDescriptor yX9_costs.desc).map (fun d => d.parameters.length) = some 1 := by decide +kernel
def lX9_costs_17 (N : Nat) (S : pH) (r0 : Option Nat) (x1 : Int32) (x3 : Int32) : Nat → Int32 → Int32 → Option (Int32)
  | 0, _, _ => none
  | n + 1, x25, x26 =>
    (gfR S 9 3 r0).bind fun r27 =>
    (ldI S 0 r27 x1).bind fun x28 =>
    if x28 ≤ x26 then
    (some x25)
    else
    (gfR S 9 1 r0).bind fun r29 =>
    (fX9_at N S r0 x1 x3 x26).bind fun x30 =>
    (ldI S 0 r29 x30).bind fun x31 =>
    nm (x25 + x31) fun x32 =>
    nm (x26 + (1 : Int32)) fun x33 =>
    lX9_costs_17 N S r0 x1 x3 n x32 x33
def lX9_costs_4 (N : Nat) (S : pH) (r0 : Option Nat) (x1 : Int32) : Nat → Int32 → Int32 → Option (Int32)
  | 0, _, _ => none
  | n + 1, x21, x22 =>
    (gfR S 9 3 r0).bind fun r23 =>
    (ldI S 0 r23 x1).bind fun x24 =>
    if x24 ≤ x22 then
    (some x21)
    else
    (lX9_costs_17 N S r0 x1 x22 N x21 (0 : Int32)).bind fun x35 =>
    nm (x22 + (1 : Int32)) fun x36 =>
    lX9_costs_4 N S r0 x1 n x35 x36
def fX9_costs (N : Nat) (S : pH) (r0 : Option Nat) (x1 : Int32) : Option (Int32) :=
  chk S 9 r0 <|
  (lX9_costs_4 N S r0 x1 N (0 : Int32) (0 : Int32)).bind fun x38 =>
  some x38
theorem oX9_costs {N : Nat} {S : pH} {r0 : Option Nat} {x1 : Int32} {z : Int32} (h : fX9_costs N S r0 x1 = some z) : ∃ fs, obj S 9 r0 = some fs := by
  unfold fX9_costs at h
  exact (chk_spec h).1
set_option maxHeartbeats 1000000 in
set_option maxRecDepth 20000 in
theorem kX9_costs_17 {g : VG} {w : VW} {N : Nat} {S : pH} {r0 : Option Nat} {x1 : Int32} {x3 : Int32} {v0 : Int32} (hC : Cx g yX9_costs cX9_costs 5 (some .int) rmX9_costs w) : ∀ (n : Nat) (x25 : Int32) (x26 : Int32) (z : (Int32)), lX9_costs_17 N S r0 x1 x3 n x25 x26 = some z → (∀ (e0 : Int32), z = e0 → V g w 5 (Qm g w rmX9_costs.cells rmX9_costs.slots (some (.int v0)) S) S 0 0 50 [(0, va_rf r0), (1, .int x1), (2, .int e0), (3, .int x3)] []) → V g w 5 (Qm g w rmX9_costs.cells rmX9_costs.slots (some (.int v0)) S) S 0 0 17 [(0, va_rf r0), (1, .int x1), (2, .int x25), (3, .int x3), (4, .int x26)] [] := by
  intro n
  induction n with
  | zero => intro x25 x26 z h; rw [lX9_costs_17] at h; cases h
  | succ n ih =>
    intro x25 x26 z h K
    rw [lX9_costs_17] at h
    refine v_iload hC 17 4 dX9_costs_17 rfl ?_
    refine v_aload_n hC 19 0 dX9_costs_19 rfl ?_
    obtain ⟨r27, er27, h⟩ := obn h
    refine gRX9_16 hC rfl 20 er27 dX9_costs_20 ?_
    refine v_iload_n hC 23 1 dX9_costs_23 rfl ?_
    obtain ⟨x28, ex28, h⟩ := obn h
    refine v_iald hC 24 ex28 dX9_costs_24 ?_
    refine v_icmp_ge hC 25 50 dX9_costs_25 (by decide) (fun c34 => ?_) (fun c34 => ?_)
    · replace h := ifp h c34
      refine v_sub [(0, va_rf r0), (1, .int x1), (2, .int x25), (3, .int x3)] [0, 1, 2, 3] rfl ?_
      exact K _ (sp1 h)
    · replace h := ifn h c34
      refine v_iload_n hC 28 2 dX9_costs_28 rfl ?_
      refine v_aload_n hC 29 0 dX9_costs_29 rfl ?_
      obtain ⟨r29, er29, h⟩ := obn h
      refine gRX9_13 hC rfl 30 er29 dX9_costs_30 ?_
      refine v_aload_n hC 33 0 dX9_costs_33 rfl ?_
      refine v_iload_n hC 34 1 dX9_costs_34 rfl ?_
      refine v_iload_n hC 35 3 dX9_costs_35 rfl ?_
      refine v_iload hC 36 4 dX9_costs_36 rfl ?_
      obtain ⟨x30, ex30, h⟩ := obn h
      refine qX9_121 hC rfl 38 ex30 (by decide) (catL (Nat.le_of_ble_eq_true rfl)) (by decide) dX9_costs_38 ?_
      obtain ⟨x31, ex31, h⟩ := obn h
      refine v_iald hC 41 ex31 dX9_costs_41 ?_
      refine v_iadd hC 42 dX9_costs_42 ?_
      obtain ⟨x32, ex32, h⟩ := onm h
      refine v_topi x32 ex32 ?_
      refine v_istore_n hC [(2, .int x32), (0, va_rf r0), (1, .int x1), (3, .int x3), (4, .int x26)] 43 dX9_costs_43 (by decide) rfl ?_
      obtain ⟨x33, ex33, h⟩ := onm h
      refine v_iinc hC x33 [(4, .int x33), (2, .int x32), (0, va_rf r0), (1, .int x1), (3, .int x3)] 44 4 dX9_costs_44 rfl (by rw [ex33]; rfl) (by decide) rfl ?_
      refine v_goto hC 47 17 dX9_costs_47 (by decide) ?_
      refine v_sub [(0, va_rf r0), (1, .int x1), (2, .int x32), (3, .int x3), (4, .int x33)] [2, 3, 1, 4, 0] rfl ?_
      exact ih _ _ _ h K
set_option maxHeartbeats 1000000 in
set_option maxRecDepth 20000 in
theorem kX9_costs_4 {g : VG} {w : VW} {N : Nat} {S : pH} {r0 : Option Nat} {x1 : Int32} {v0 : Int32} (hC : Cx g yX9_costs cX9_costs 5 (some .int) rmX9_costs w) : ∀ (n : Nat) (x21 : Int32) (x22 : Int32) (z : (Int32)), lX9_costs_4 N S r0 x1 n x21 x22 = some z → (∀ (e0 : Int32), z = e0 → V g w 5 (Qm g w rmX9_costs.cells rmX9_costs.slots (some (.int v0)) S) S 0 0 56 [(2, .int e0)] []) → V g w 5 (Qm g w rmX9_costs.cells rmX9_costs.slots (some (.int v0)) S) S 0 0 4 [(0, va_rf r0), (1, .int x1), (2, .int x21), (3, .int x22)] [] := by
  intro n
  induction n with
  | zero => intro x21 x22 z h; rw [lX9_costs_4] at h; cases h
  | succ n ih =>
    intro x21 x22 z h K
    rw [lX9_costs_4] at h
    refine v_iload_n hC 4 3 dX9_costs_4 rfl ?_
    refine v_aload_n hC 5 0 dX9_costs_5 rfl ?_
    obtain ⟨r23, er23, h⟩ := obn h
    refine gRX9_16 hC rfl 6 er23 dX9_costs_6 ?_
    refine v_iload_n hC 9 1 dX9_costs_9 rfl ?_
    obtain ⟨x24, ex24, h⟩ := obn h
    refine v_iald hC 10 ex24 dX9_costs_10 ?_
    refine v_icmp_ge hC 11 56 dX9_costs_11 (by decide) (fun c37 => ?_) (fun c37 => ?_)
    · replace h := ifp h c37
      refine v_sub [(2, .int x21)] [2] rfl ?_
      exact K _ (sp1 h)
    · replace h := ifn h c37
      refine v_iconst hC (0 : Int32) 14 dX9_costs_14 (by decide) ?_
      refine v_istore hC [(4, .int (0 : Int32)), (0, va_rf r0), (1, .int x1), (2, .int x21), (3, .int x22)] 15 dX9_costs_15 (by decide) rfl ?_
      obtain ⟨x35, E17, h⟩ := obn h
      refine v_sub [(0, va_rf r0), (1, .int x1), (2, .int x21), (3, .int x22), (4, .int (0 : Int32))] [1, 2, 3, 4, 0] rfl ?_
      refine kX9_costs_17 hC _ _ _ _ E17 (fun _ hz9 => ?_)
      cases hz9
      obtain ⟨x36, ex36, h⟩ := onm h
      refine v_iinc hC x36 [(3, .int x36), (0, va_rf r0), (1, .int x1), (2, .int x35)] 50 3 dX9_costs_50 rfl (by rw [ex36]; rfl) (by decide) rfl ?_
      refine v_goto hC 53 4 dX9_costs_53 (by decide) ?_
      refine v_sub [(0, va_rf r0), (1, .int x1), (2, .int x35), (3, .int x36)] [1, 2, 3, 0] rfl ?_
      exact ih _ _ _ h K
set_option maxHeartbeats 1000000 in
set_option maxRecDepth 20000 in
theorem tX9_costs {l : Launch} {w : VW} {N : Nat} {S : pH} {r0 : Option Nat} {x1 : Int32} {v0 : Int32} (h : fX9_costs N S r0 x1 = some v0) : CT l w yX9_costs cX9_costs 5 (some .int) rmX9_costs [va_rf r0, .int x1] S (some (.int v0)) S := by
  refine v_entry [(0, va_rf r0), (1, .int x1)] (by decide) (by simp [lg_sl, cat_rf, cat_i, cat_j]) (by simp [lv_args, cat_rf, cat_i, cat_j]) (fun g _ hC => ?_)
  unfold fX9_costs at h
  obtain ⟨hO, h⟩ := chk_spec h
  refine v_iconst hC (0 : Int32) 0 dX9_costs_0 (by decide) ?_
  refine v_istore_n hC [(2, .int (0 : Int32)), (0, va_rf r0), (1, .int x1)] 1 dX9_costs_1 (by decide) rfl ?_
  refine v_iconst hC (0 : Int32) 2 dX9_costs_2 (by decide) ?_
  refine v_istore_n hC [(3, .int (0 : Int32)), (2, .int (0 : Int32)), (0, va_rf r0), (1, .int x1)] 3 dX9_costs_3 (by decide) rfl ?_
  obtain ⟨x38, E4, h⟩ := obn h
  refine v_sub [(0, va_rf r0), (1, .int x1), (2, .int (0 : Int32)), (3, .int (0 : Int32))] [2, 3, 1, 0] rfl ?_
  refine kX9_costs_4 hC _ _ _ _ E4 (fun _ hz9 => ?_)
  cases hz9
  refine v_iload_n hC 56 0 dX9_costs_56 rfl ?_
  obtain rfl := sp1 h
  exact v_iret hC 57 (by decide) (by decide) dX9_costs_57
abbrev rmX9_in : Room := { frames := 0, cells := 0, slots := 0, locals := 0 }
theorem hdX9_in : yX9_in.cls ≠ "java/lang/invoke/MethodHandle" ∧ yX9_in.cls ≠ "java/lang/invoke/VarHandle" ∧ (parseMethodDescriptor yX9_in.desc).map (fun d => d.parameters.length) = some 3 := by decide +kernel
def fX9_in (N : Nat) (S : pH) (x0 : Int32) (x1 : Int32) (x2 : Int32) : Option (Int32) :=
  if x0 < x1 then
  (some (0 : Int32))
  else
  if x2 < x0 then
  (some (0 : Int32))
  else
  some (1 : Int32)
set_option maxHeartbeats 1000000 in
set_option maxRecDepth 20000 in
theorem tX9_in {l : Launch} {w : VW} {N : Nat} {S : pH} {x0 : Int32} {x1 : Int32} {x2 : Int32} {v0 : Int32} (h : fX9_in N S x0 x1 x2 = some v0) : CT l w yX9_in cX9_in 3 (some .boolean) rmX9_in [.int x0, .int x1, .int x2] S (some (.int v0)) S := by
  refine v_entry [(0, .int x0), (1, .int x1), (2, .int x2)] (by decide) (by simp [lg_sl, cat_rf, cat_i, cat_j]) (by simp [lv_args, cat_rf, cat_i, cat_j]) (fun g _ hC => ?_)
  unfold fX9_in at h
  refine v_iload_n hC 0 0 dX9_in_0 rfl ?_
  refine v_iload_n hC 1 1 dX9_in_1 rfl ?_
  refine v_icmp_lt hC 2 14 dX9_in_2 (by decide) (fun c22 => ?_) (fun c22 => ?_)
  · replace h := ifp h c22
    refine v_iconst hC (0 : Int32) 14 dX9_in_14 (by decide) ?_
    obtain rfl := sp1 h
    exact v_zret hC 15 (by decide) (by decide) (by decide) dX9_in_15
  · replace h := ifn h c22
    refine v_iload_n hC 5 0 dX9_in_5 rfl ?_
    refine v_iload_n hC 6 2 dX9_in_6 rfl ?_
    refine v_icmp_gt hC 7 14 dX9_in_7 (by decide) (fun c21 => ?_) (fun c21 => ?_)
    · replace h := ifp h c21
      refine v_iconst hC (0 : Int32) 14 dX9_in_14 (by decide) ?_
      obtain rfl := sp1 h
      exact v_zret hC 15 (by decide) (by decide) (by decide) dX9_in_15
    · replace h := ifn h c21
      refine v_iconst hC (1 : Int32) 10 dX9_in_10 (by decide) ?_
      refine v_goto hC 11 15 dX9_in_11 (by decide) ?_
      obtain rfl := sp1 h
      exact v_zret hC 15 (by decide) (by decide) (by decide) dX9_in_15
set_option maxRecDepth 20000 in
theorem qX9_97 {g : VG} {w : VW} {nL : Nat} {Q : State → Prop} {S : pH} {kc ks : Nat} {lv : List (Nat × Value)} {rest : List Value} {y : MethodName} {cc : ByteArray} {rt : Option FieldType} {rm : Room} (hC : Cx g y cc nL rt rm w) (hy : y.cls = RX9) (pc : Nat) {N : Nat} {x0 : Int32} {x1 : Int32} {x2 : Int32} {v0 : Int32} (h : fX9_in N S x0 x1 x2 = some v0) (hR : rmX9_in.frames + 1 ≤ rm.frames ∧ 8 + (3 + 11) + rmX9_in.locals ≤ rm.locals) (hst : (rest.map fun v => v.category).sum ≤ 8) (hf : kc + 0 ≤ rm.cells ∧ ks + 0 ≤ rm.slots) (d : decode cc pc = .ok (.invokestatic 97, 3)) (K : V g w nL Q S kc ks (pc + 3) lv (.int v0 :: rest)) : V g w nL Q S kc ks pc lv (.int x2 :: .int x1 :: .int x0 :: rest) := by
  exact v_callS (As := [.int x0, .int x1, .int x2]) (rest := rest) hC pc (tX9_in (l := g.2.1) (w := w) h) wG546 (by rw [hy]; exact wG545) wG547 wG542 hdX9_in rfl hR hst hf d K
abbrev rmX9_isCane : Room := { frames := 1, cells := 0, slots := 0, locals := 22 }
theorem hdX9_isCane : yX9_isCane.cls ≠ "java/lang/invoke/MethodHandle" ∧ yX9_isCane.cls ≠ "java/lang/invoke/VarHandle" ∧ (parseMethodDescriptor yX9_isCane.desc).map (fun d => d.parameters.length) = some 1 := by decide +kernel
def fX9_isCane (N : Nat) (S : pH) (r0 : Option Nat) (x1 : Int32) : Option (Int32) :=
  chk S 9 r0 <|
  (gfI S 9 2 r0).bind fun x21 =>
  (fX9_in N S x1 (0 : Int32) (x21 - (1 : Int32))).bind fun x22 =>
  if x22 = 0 ∨ x22 = 1 then some x22 else none
theorem oX9_isCane {N : Nat} {S : pH} {r0 : Option Nat} {x1 : Int32} {z : Int32} (h : fX9_isCane N S r0 x1 = some z) : ∃ fs, obj S 9 r0 = some fs := by
  unfold fX9_isCane at h
  exact (chk_spec h).1
set_option maxHeartbeats 1000000 in
set_option maxRecDepth 20000 in
theorem tX9_isCane {l : Launch} {w : VW} {N : Nat} {S : pH} {r0 : Option Nat} {x1 : Int32} {v0 : Int32} (h : fX9_isCane N S r0 x1 = some v0) : CT l w yX9_isCane cX9_isCane 2 (some .boolean) rmX9_isCane [va_rf r0, .int x1] S (some (.int v0)) S := by
  refine v_entry [(0, va_rf r0), (1, .int x1)] (by decide) (by simp [lg_sl, cat_rf, cat_i, cat_j]) (by simp [lv_args, cat_rf, cat_i, cat_j]) (fun g _ hC => ?_)
  unfold fX9_isCane at h
  obtain ⟨hO, h⟩ := chk_spec h
  refine v_iload_n hC 0 1 dX9_isCane_0 rfl ?_
  refine v_iconst hC (0 : Int32) 1 dX9_isCane_1 (by decide) ?_
  refine v_aload_n hC 2 0 dX9_isCane_2 rfl ?_
  obtain ⟨x21, ex21, h⟩ := obn h
  refine gRX9_101 hC rfl 3 ex21 dX9_isCane_3 ?_
  refine v_iconst hC (1 : Int32) 6 dX9_isCane_6 (by decide) ?_
  refine v_isub hC 7 dX9_isCane_7 ?_
  obtain ⟨x22, ex22, h⟩ := obn h
  refine qX9_97 hC rfl 8 ex22 (by decide) (catL (Nat.le_of_ble_eq_true rfl)) (by decide) dX9_isCane_8 ?_
  obtain ⟨hz9, h⟩ := if0 h
  obtain rfl := sp1 h
  exact v_zret hC 11 (by decide) (by decide) hz9 dX9_isCane_11
abbrev rmX9_solid : Room := { frames := 1, cells := 0, slots := 0, locals := 23 }
theorem hdX9_solid : yX9_solid.cls ≠ "java/lang/invoke/MethodHandle" ∧ yX9_solid.cls ≠ "java/lang/invoke/VarHandle" ∧ (parseMethodDescriptor yX9_solid.desc).map (fun d => d.parameters.length) = some 1 := by decide +kernel
def lX9_solid_17 (N : Nat) (S : pH) (r0 : Option Nat) (x1 : Int32) (x3 : Int32) : Nat → Int32 → Int32 → Option (Int32)
  | 0, _, _ => none
  | n + 1, x25, x26 =>
    (gfR S 9 3 r0).bind fun r27 =>
    (ldI S 0 r27 x1).bind fun x28 =>
    if x28 ≤ x26 then
    (some x25)
    else
    (fX9_at N S r0 x1 x3 x26).bind fun x29 =>
    nm (fun (x30 : Int32) (x31 : Int32) =>
    nm (x30 + x31) fun x32 =>
    nm (x26 + (1 : Int32)) fun x33 =>
    lX9_solid_17 N S r0 x1 x3 n x32 x33) fun j45 =>
    if x29 ≤ 0 then
    (j45 x25 (0 : Int32))
    else
    j45 x25 (1 : Int32)
def lX9_solid_4 (N : Nat) (S : pH) (r0 : Option Nat) (x1 : Int32) : Nat → Int32 → Int32 → Option (Int32)
  | 0, _, _ => none
  | n + 1, x21, x22 =>
    (gfR S 9 3 r0).bind fun r23 =>
    (ldI S 0 r23 x1).bind fun x24 =>
    if x24 ≤ x22 then
    (some x21)
    else
    (lX9_solid_17 N S r0 x1 x22 N x21 (0 : Int32)).bind fun x36 =>
    nm (x22 + (1 : Int32)) fun x37 =>
    lX9_solid_4 N S r0 x1 n x36 x37
def fX9_solid (N : Nat) (S : pH) (r0 : Option Nat) (x1 : Int32) : Option (Int32) :=
  chk S 9 r0 <|
  (lX9_solid_4 N S r0 x1 N (0 : Int32) (0 : Int32)).bind fun x39 =>
  some x39
theorem oX9_solid {N : Nat} {S : pH} {r0 : Option Nat} {x1 : Int32} {z : Int32} (h : fX9_solid N S r0 x1 = some z) : ∃ fs, obj S 9 r0 = some fs := by
  unfold fX9_solid at h
  exact (chk_spec h).1
set_option maxHeartbeats 1000000 in
set_option maxRecDepth 20000 in
theorem kX9_solid_17 {g : VG} {w : VW} {N : Nat} {S : pH} {r0 : Option Nat} {x1 : Int32} {x3 : Int32} {v0 : Int32} (hC : Cx g yX9_solid cX9_solid 5 (some .int) rmX9_solid w) : ∀ (n : Nat) (x25 : Int32) (x26 : Int32) (z : (Int32)), lX9_solid_17 N S r0 x1 x3 n x25 x26 = some z → (∀ (e0 : Int32), z = e0 → V g w 5 (Qm g w rmX9_solid.cells rmX9_solid.slots (some (.int v0)) S) S 0 0 53 [(0, va_rf r0), (1, .int x1), (2, .int e0), (3, .int x3)] []) → V g w 5 (Qm g w rmX9_solid.cells rmX9_solid.slots (some (.int v0)) S) S 0 0 17 [(0, va_rf r0), (1, .int x1), (2, .int x25), (3, .int x3), (4, .int x26)] [] := by
  intro n
  induction n with
  | zero => intro x25 x26 z h; rw [lX9_solid_17] at h; cases h
  | succ n ih =>
    intro x25 x26 z h K
    rw [lX9_solid_17] at h
    refine v_iload hC 17 4 dX9_solid_17 rfl ?_
    refine v_aload_n hC 19 0 dX9_solid_19 rfl ?_
    obtain ⟨r27, er27, h⟩ := obn h
    refine gRX9_16 hC rfl 20 er27 dX9_solid_20 ?_
    refine v_iload_n hC 23 1 dX9_solid_23 rfl ?_
    obtain ⟨x28, ex28, h⟩ := obn h
    refine v_iald hC 24 ex28 dX9_solid_24 ?_
    refine v_icmp_ge hC 25 53 dX9_solid_25 (by decide) (fun c35 => ?_) (fun c35 => ?_)
    · replace h := ifp h c35
      refine v_sub [(0, va_rf r0), (1, .int x1), (2, .int x25), (3, .int x3)] [0, 1, 2, 3] rfl ?_
      exact K _ (sp1 h)
    · replace h := ifn h c35
      refine v_iload_n hC 28 2 dX9_solid_28 rfl ?_
      refine v_aload_n hC 29 0 dX9_solid_29 rfl ?_
      refine v_iload_n hC 30 1 dX9_solid_30 rfl ?_
      refine v_iload_n hC 31 3 dX9_solid_31 rfl ?_
      refine v_iload hC 32 4 dX9_solid_32 rfl ?_
      obtain ⟨x29, ex29, h⟩ := obn h
      refine qX9_121 hC rfl 34 ex29 (by decide) (catL (Nat.le_of_ble_eq_true rfl)) (by decide) dX9_solid_34 ?_
      obtain ⟨j45, f45, h⟩ := onm h
      have J45 : ∀ (x30 : Int32) (x31 : Int32), j45 x30 x31 = some z → V g w 5 (Qm g w rmX9_solid.cells rmX9_solid.slots (some (.int v0)) S) S 0 0 45 [(0, va_rf r0), (1, .int x1), (3, .int x3), (4, .int x26)] [.int x31, .int x30] := by
        intro x30 x31 h
        replace h := jb2 f45 h
        refine v_iadd hC 45 dX9_solid_45 ?_
        obtain ⟨x32, ex32, h⟩ := onm h
        refine v_topi x32 ex32 ?_
        refine v_istore_n hC [(2, .int x32), (0, va_rf r0), (1, .int x1), (3, .int x3), (4, .int x26)] 46 dX9_solid_46 (by decide) rfl ?_
        obtain ⟨x33, ex33, h⟩ := onm h
        refine v_iinc hC x33 [(4, .int x33), (2, .int x32), (0, va_rf r0), (1, .int x1), (3, .int x3)] 47 4 dX9_solid_47 rfl (by rw [ex33]; rfl) (by decide) rfl ?_
        refine v_goto hC 50 17 dX9_solid_50 (by decide) ?_
        refine v_sub [(0, va_rf r0), (1, .int x1), (2, .int x32), (3, .int x3), (4, .int x33)] [2, 3, 1, 4, 0] rfl ?_
        exact ih _ _ _ h K
      refine v_if_le hC 37 44 dX9_solid_37 (by decide) (fun c34 => ?_) (fun c34 => ?_)
      · replace h := ifp h c34
        refine v_iconst hC (0 : Int32) 44 dX9_solid_44 (by decide) ?_
        refine v_sub [(0, va_rf r0), (1, .int x1), (3, .int x3), (4, .int x26)] [0, 1, 3, 4] rfl ?_
        exact J45 _ _ h
      · replace h := ifn h c34
        refine v_iconst hC (1 : Int32) 40 dX9_solid_40 (by decide) ?_
        refine v_goto hC 41 45 dX9_solid_41 (by decide) ?_
        refine v_sub [(0, va_rf r0), (1, .int x1), (3, .int x3), (4, .int x26)] [0, 1, 3, 4] rfl ?_
        exact J45 _ _ h
set_option maxHeartbeats 1000000 in
set_option maxRecDepth 20000 in
theorem kX9_solid_4 {g : VG} {w : VW} {N : Nat} {S : pH} {r0 : Option Nat} {x1 : Int32} {v0 : Int32} (hC : Cx g yX9_solid cX9_solid 5 (some .int) rmX9_solid w) : ∀ (n : Nat) (x21 : Int32) (x22 : Int32) (z : (Int32)), lX9_solid_4 N S r0 x1 n x21 x22 = some z → (∀ (e0 : Int32), z = e0 → V g w 5 (Qm g w rmX9_solid.cells rmX9_solid.slots (some (.int v0)) S) S 0 0 59 [(2, .int e0)] []) → V g w 5 (Qm g w rmX9_solid.cells rmX9_solid.slots (some (.int v0)) S) S 0 0 4 [(0, va_rf r0), (1, .int x1), (2, .int x21), (3, .int x22)] [] := by
  intro n
  induction n with
  | zero => intro x21 x22 z h; rw [lX9_solid_4] at h; cases h
  | succ n ih =>
    intro x21 x22 z h K
    rw [lX9_solid_4] at h
    refine v_iload_n hC 4 3 dX9_solid_4 rfl ?_
    refine v_aload_n hC 5 0 dX9_solid_5 rfl ?_
    obtain ⟨r23, er23, h⟩ := obn h
    refine gRX9_16 hC rfl 6 er23 dX9_solid_6 ?_
    refine v_iload_n hC 9 1 dX9_solid_9 rfl ?_
    obtain ⟨x24, ex24, h⟩ := obn h
    refine v_iald hC 10 ex24 dX9_solid_10 ?_
    refine v_icmp_ge hC 11 59 dX9_solid_11 (by decide) (fun c38 => ?_) (fun c38 => ?_)
    · replace h := ifp h c38
      refine v_sub [(2, .int x21)] [2] rfl ?_
      exact K _ (sp1 h)
    · replace h := ifn h c38
      refine v_iconst hC (0 : Int32) 14 dX9_solid_14 (by decide) ?_
      refine v_istore hC [(4, .int (0 : Int32)), (0, va_rf r0), (1, .int x1), (2, .int x21), (3, .int x22)] 15 dX9_solid_15 (by decide) rfl ?_
      obtain ⟨x36, E17, h⟩ := obn h
      refine v_sub [(0, va_rf r0), (1, .int x1), (2, .int x21), (3, .int x22), (4, .int (0 : Int32))] [1, 2, 3, 4, 0] rfl ?_
      refine kX9_solid_17 hC _ _ _ _ E17 (fun _ hz9 => ?_)
      cases hz9
      obtain ⟨x37, ex37, h⟩ := onm h
      refine v_iinc hC x37 [(3, .int x37), (0, va_rf r0), (1, .int x1), (2, .int x36)] 53 3 dX9_solid_53 rfl (by rw [ex37]; rfl) (by decide) rfl ?_
      refine v_goto hC 56 4 dX9_solid_56 (by decide) ?_
      refine v_sub [(0, va_rf r0), (1, .int x1), (2, .int x36), (3, .int x37)] [1, 2, 3, 0] rfl ?_
      exact ih _ _ _ h K
set_option maxHeartbeats 1000000 in
set_option maxRecDepth 20000 in
theorem tX9_solid {l : Launch} {w : VW} {N : Nat} {S : pH} {r0 : Option Nat} {x1 : Int32} {v0 : Int32} (h : fX9_solid N S r0 x1 = some v0) : CT l w yX9_solid cX9_solid 5 (some .int) rmX9_solid [va_rf r0, .int x1] S (some (.int v0)) S := by
  refine v_entry [(0, va_rf r0), (1, .int x1)] (by decide) (by simp [lg_sl, cat_rf, cat_i, cat_j]) (by simp [lv_args, cat_rf, cat_i, cat_j]) (fun g _ hC => ?_)
  unfold fX9_solid at h
  obtain ⟨hO, h⟩ := chk_spec h
  refine v_iconst hC (0 : Int32) 0 dX9_solid_0 (by decide) ?_
  refine v_istore_n hC [(2, .int (0 : Int32)), (0, va_rf r0), (1, .int x1)] 1 dX9_solid_1 (by decide) rfl ?_
  refine v_iconst hC (0 : Int32) 2 dX9_solid_2 (by decide) ?_
  refine v_istore_n hC [(3, .int (0 : Int32)), (2, .int (0 : Int32)), (0, va_rf r0), (1, .int x1)] 3 dX9_solid_3 (by decide) rfl ?_
  obtain ⟨x39, E4, h⟩ := obn h
  refine v_sub [(0, va_rf r0), (1, .int x1), (2, .int (0 : Int32)), (3, .int (0 : Int32))] [2, 3, 1, 0] rfl ?_
  refine kX9_solid_4 hC _ _ _ _ E4 (fun _ hz9 => ?_)
  cases hz9
  refine v_iload_n hC 59 0 dX9_solid_59 rfl ?_
  obtain rfl := sp1 h
  exact v_iret hC 60 (by decide) (by decide) dX9_solid_60
set_option maxRecDepth 20000 in
theorem qX9_104 {g : VG} {w : VW} {nL : Nat} {Q : State → Prop} {S : pH} {kc ks : Nat} {lv : List (Nat × Value)} {rest : List Value} {y : MethodName} {cc : ByteArray} {rt : Option FieldType} {rm : Room} (hC : Cx g y cc nL rt rm w) (hy : y.cls = RX9) (pc : Nat) {N : Nat} {r0 : Option Nat} {x1 : Int32} {v0 : Int32} (h : fX9_isCane N S r0 x1 = some v0) (hR : rmX9_isCane.frames + 1 ≤ rm.frames ∧ 8 + (2 + 11) + rmX9_isCane.locals ≤ rm.locals) (hst : (rest.map fun v => v.category).sum ≤ 8) (hf : kc + 0 ≤ rm.cells ∧ ks + 0 ≤ rm.slots) (d : decode cc pc = .ok (.invokevirtual 104, 3)) (K : V g w nL Q S kc ks (pc + 3) lv (.int v0 :: rest)) : V g w nL Q S kc ks pc lv (.int x1 :: va_rf r0 :: rest) := by
  obtain ⟨fs, ho⟩ := oX9_isCane h
  exact v_callV (As := [.int x1]) (rest := rest) (ci := 9) hC pc (tX9_isCane (l := g.2.1) (w := w) h) rfl (by decide) ho wG549 (by rw [hy]; exact wG548) wG550 wG551 wG542 hdX9_isCane rfl hR hst hf d K
set_option maxRecDepth 20000 in
theorem qX9_132 {g : VG} {w : VW} {nL : Nat} {Q : State → Prop} {S : pH} {kc ks : Nat} {lv : List (Nat × Value)} {rest : List Value} {y : MethodName} {cc : ByteArray} {rt : Option FieldType} {rm : Room} (hC : Cx g y cc nL rt rm w) (hy : y.cls = RX9) (pc : Nat) {N : Nat} {r0 : Option Nat} {x1 : Int32} {v0 : Int32} (h : fX9_solid N S r0 x1 = some v0) (hR : rmX9_solid.frames + 1 ≤ rm.frames ∧ 8 + (5 + 11) + rmX9_solid.locals ≤ rm.locals) (hst : (rest.map fun v => v.category).sum ≤ 8) (hf : kc + 0 ≤ rm.cells ∧ ks + 0 ≤ rm.slots) (d : decode cc pc = .ok (.invokevirtual 132, 3)) (K : V g w nL Q S kc ks (pc + 3) lv (.int v0 :: rest)) : V g w nL Q S kc ks pc lv (.int x1 :: va_rf r0 :: rest) := by
  obtain ⟨fs, ho⟩ := oX9_solid h
  exact v_callV (As := [.int x1]) (rest := rest) (ci := 9) hC pc (tX9_solid (l := g.2.1) (w := w) h) rfl (by decide) ho wG553 (by rw [hy]; exact wG552) wG554 wG555 wG542 hdX9_solid rfl hR hst hf d K
set_option maxRecDepth 20000 in
theorem qX9_136 {g : VG} {w : VW} {nL : Nat} {Q : State → Prop} {S : pH} {kc ks : Nat} {lv : List (Nat × Value)} {rest : List Value} {y : MethodName} {cc : ByteArray} {rt : Option FieldType} {rm : Room} (hC : Cx g y cc nL rt rm w) (hy : y.cls = RX9) (pc : Nat) {N : Nat} {r0 : Option Nat} {x1 : Int32} {v0 : Int32} (h : fX9_costs N S r0 x1 = some v0) (hR : rmX9_costs.frames + 1 ≤ rm.frames ∧ 8 + (5 + 11) + rmX9_costs.locals ≤ rm.locals) (hst : (rest.map fun v => v.category).sum ≤ 8) (hf : kc + 0 ≤ rm.cells ∧ ks + 0 ≤ rm.slots) (d : decode cc pc = .ok (.invokevirtual 136, 3)) (K : V g w nL Q S kc ks (pc + 3) lv (.int v0 :: rest)) : V g w nL Q S kc ks pc lv (.int x1 :: va_rf r0 :: rest) := by
  obtain ⟨fs, ho⟩ := oX9_costs h
  exact v_callV (As := [.int x1]) (rest := rest) (ci := 9) hC pc (tX9_costs (l := g.2.1) (w := w) h) rfl (by decide) ho wG557 (by rw [hy]; exact wG556) wG558 wG559 wG542 hdX9_costs rfl hR hst hf d K
abbrev rmX9_about : Room := { frames := 2, cells := 0, slots := 0, locals := 47 }
theorem hdX9_about : yX9_about.cls ≠ "java/lang/invoke/MethodHandle" ∧ yX9_about.cls ≠ "java/lang/invoke/VarHandle" ∧ (parseMethodDescriptor yX9_about.desc).map (fun d => d.parameters.length) = some 2 := by decide +kernel
def fX9_about (N : Nat) (S : pH) (r0 : Option Nat) (x1 : Int32) (x2 : Int32) : Option (Int32) :=
  chk S 9 r0 <|
  (fX9_isCane N S r0 x1).bind fun x21 =>
  if ¬ x21 = 0 then
  (if x2 = (0 : Int32) then
  ((gfR S 9 3 r0).bind fun r22 =>
  (ldI S 0 r22 x1).bind fun x23 =>
  some x23)
  else
  if x2 = (1 : Int32) then
  ((gfR S 9 4 r0).bind fun r25 =>
  (ldI S 0 r25 x1).bind fun x26 =>
  some x26)
  else
  if x2 = (2 : Int32) then
  ((gfR S 9 5 r0).bind fun r28 =>
  (ldI S 0 r28 x1).bind fun x29 =>
  some x29)
  else
  if x2 = (3 : Int32) then
  ((gfR S 9 6 r0).bind fun r31 =>
  (ldI S 0 r31 x1).bind fun x32 =>
  some x32)
  else
  if x2 = (4 : Int32) then
  ((fX9_solid N S r0 x1).bind fun x34 =>
  some x34)
  else
  if x2 = (5 : Int32) then
  ((fX9_costs N S r0 x1).bind fun x36 =>
  some x36)
  else
  some (-1 : Int32))
  else
  some (-1 : Int32)
theorem oX9_about {N : Nat} {S : pH} {r0 : Option Nat} {x1 : Int32} {x2 : Int32} {z : Int32} (h : fX9_about N S r0 x1 x2 = some z) : ∃ fs, obj S 9 r0 = some fs := by
  unfold fX9_about at h
  exact (chk_spec h).1
set_option maxHeartbeats 1000000 in
set_option maxRecDepth 20000 in
theorem tX9_about {l : Launch} {w : VW} {N : Nat} {S : pH} {r0 : Option Nat} {x1 : Int32} {x2 : Int32} {v0 : Int32} (h : fX9_about N S r0 x1 x2 = some v0) : CT l w yX9_about cX9_about 3 (some .int) rmX9_about [va_rf r0, .int x1, .int x2] S (some (.int v0)) S := by
  refine v_entry [(0, va_rf r0), (1, .int x1), (2, .int x2)] (by decide) (by simp [lg_sl, cat_rf, cat_i, cat_j]) (by simp [lv_args, cat_rf, cat_i, cat_j]) (fun g _ hC => ?_)
  unfold fX9_about at h
  obtain ⟨hO, h⟩ := chk_spec h
  refine v_aload_n hC 0 0 dX9_about_0 rfl ?_
  refine v_iload_n hC 1 1 dX9_about_1 rfl ?_
  obtain ⟨x21, ex21, h⟩ := obn h
  refine qX9_104 hC rfl 2 ex21 (by decide) (catL (Nat.le_of_ble_eq_true rfl)) (by decide) dX9_about_2 ?_
  refine v_if_ne hC 5 10 dX9_about_5 (by decide) (fun c38 => ?_) (fun c38 => ?_)
  · replace h := ifp h c38
    refine v_iload_n hC 10 2 dX9_about_10 rfl ?_
    by_cases c24 : x2 = (0 : Int32)
    · replace h := ifp h c24
      refine v_tabIn hC 11 48 (0 : Int32) c24 dX9_about_11 (by decide) (by decide) rfl (by decide) ?_
      refine v_aload_n hC 48 0 dX9_about_48 rfl ?_
      obtain ⟨r22, er22, h⟩ := obn h
      refine gRX9_16 hC rfl 49 er22 dX9_about_49 ?_
      refine v_iload_n hC 52 1 dX9_about_52 rfl ?_
      obtain ⟨x23, ex23, h⟩ := obn h
      refine v_iald hC 53 ex23 dX9_about_53 ?_
      obtain rfl := sp1 h
      exact v_iret hC 54 (by decide) (by decide) dX9_about_54
    replace h := ifn h c24
    by_cases c27 : x2 = (1 : Int32)
    · replace h := ifp h c27
      refine v_tabIn hC 11 55 (1 : Int32) c27 dX9_about_11 (by decide) (by decide) rfl (by decide) ?_
      refine v_aload_n hC 55 0 dX9_about_55 rfl ?_
      obtain ⟨r25, er25, h⟩ := obn h
      refine gRX9_19 hC rfl 56 er25 dX9_about_56 ?_
      refine v_iload_n hC 59 1 dX9_about_59 rfl ?_
      obtain ⟨x26, ex26, h⟩ := obn h
      refine v_iald hC 60 ex26 dX9_about_60 ?_
      obtain rfl := sp1 h
      exact v_iret hC 61 (by decide) (by decide) dX9_about_61
    replace h := ifn h c27
    by_cases c30 : x2 = (2 : Int32)
    · replace h := ifp h c30
      refine v_tabIn hC 11 62 (2 : Int32) c30 dX9_about_11 (by decide) (by decide) rfl (by decide) ?_
      refine v_aload_n hC 62 0 dX9_about_62 rfl ?_
      obtain ⟨r28, er28, h⟩ := obn h
      refine gRX9_22 hC rfl 63 er28 dX9_about_63 ?_
      refine v_iload_n hC 66 1 dX9_about_66 rfl ?_
      obtain ⟨x29, ex29, h⟩ := obn h
      refine v_iald hC 67 ex29 dX9_about_67 ?_
      obtain rfl := sp1 h
      exact v_iret hC 68 (by decide) (by decide) dX9_about_68
    replace h := ifn h c30
    by_cases c33 : x2 = (3 : Int32)
    · replace h := ifp h c33
      refine v_tabIn hC 11 69 (3 : Int32) c33 dX9_about_11 (by decide) (by decide) rfl (by decide) ?_
      refine v_aload_n hC 69 0 dX9_about_69 rfl ?_
      obtain ⟨r31, er31, h⟩ := obn h
      refine gRX9_25 hC rfl 70 er31 dX9_about_70 ?_
      refine v_iload_n hC 73 1 dX9_about_73 rfl ?_
      obtain ⟨x32, ex32, h⟩ := obn h
      refine v_iald hC 74 ex32 dX9_about_74 ?_
      obtain rfl := sp1 h
      exact v_iret hC 75 (by decide) (by decide) dX9_about_75
    replace h := ifn h c33
    by_cases c35 : x2 = (4 : Int32)
    · replace h := ifp h c35
      refine v_tabIn hC 11 76 (4 : Int32) c35 dX9_about_11 (by decide) (by decide) rfl (by decide) ?_
      refine v_aload_n hC 76 0 dX9_about_76 rfl ?_
      refine v_iload_n hC 77 1 dX9_about_77 rfl ?_
      obtain ⟨x34, ex34, h⟩ := obn h
      refine qX9_132 hC rfl 78 ex34 (by decide) (catL (Nat.le_of_ble_eq_true rfl)) (by decide) dX9_about_78 ?_
      obtain rfl := sp1 h
      exact v_iret hC 81 (by decide) (by decide) dX9_about_81
    replace h := ifn h c35
    by_cases c37 : x2 = (5 : Int32)
    · replace h := ifp h c37
      refine v_tabIn hC 11 82 (5 : Int32) c37 dX9_about_11 (by decide) (by decide) rfl (by decide) ?_
      refine v_aload_n hC 82 0 dX9_about_82 rfl ?_
      refine v_iload_n hC 83 1 dX9_about_83 rfl ?_
      obtain ⟨x36, ex36, h⟩ := obn h
      refine qX9_136 hC rfl 84 ex36 (by decide) (catL (Nat.le_of_ble_eq_true rfl)) (by decide) dX9_about_84 ?_
      obtain rfl := sp1 h
      exact v_iret hC 87 (by decide) (by decide) dX9_about_87
    replace h := ifn h c37
    refine v_tabOut hC 11 88 dX9_about_11 (by have := lv_neT (a := 0) c24 (by decide); have := lv_neT (a := 1) c27 (by decide); have := lv_neT (a := 2) c30 (by decide); have := lv_neT (a := 3) c33 (by decide); have := lv_neT (a := 4) c35 (by decide); have := lv_neT (a := 5) c37 (by decide); omega) (by decide) ?_
    refine v_iconst hC (-1 : Int32) 88 dX9_about_88 (by decide) ?_
    obtain rfl := sp1 h
    exact v_iret hC 89 (by decide) (by decide) dX9_about_89
  · replace h := ifn h (fun q => q c38)
    refine v_iconst hC (-1 : Int32) 8 dX9_about_8 (by decide) ?_
    obtain rfl := sp1 h
    exact v_iret hC 9 (by decide) (by decide) dX9_about_9
abbrev rmX9_anew : Room := { frames := 0, cells := 0, slots := 0, locals := 0 }
theorem hdX9_anew : yX9_anew.cls ≠ "java/lang/invoke/MethodHandle" ∧ yX9_anew.cls ≠ "java/lang/invoke/VarHandle" ∧ (parseMethodDescriptor yX9_anew.desc).map (fun d => d.parameters.length) = some 0 := by decide +kernel
def fX9_anew (N : Nat) (S : pH) (r0 : Option Nat) : Option (Int32 × pH) :=
  chk S 9 r0 <|
  (gfI S 9 19 r0).bind fun x21 =>
  (pfV S 9 19 r0 (.int (0 : Int32))).bind fun S22 =>
  some (x21, S22)
theorem oX9_anew {N : Nat} {S : pH} {r0 : Option Nat} {z : Int32 × pH} (h : fX9_anew N S r0 = some z) : ∃ fs, obj S 9 r0 = some fs := by
  unfold fX9_anew at h
  exact (chk_spec h).1
set_option maxHeartbeats 1000000 in
set_option maxRecDepth 20000 in
theorem tX9_anew {l : Launch} {w : VW} {N : Nat} {S : pH} {r0 : Option Nat} {v0 : Int32} {S0 : pH} (h : fX9_anew N S r0 = some (v0, S0)) : CT l w yX9_anew cX9_anew 2 (some .int) rmX9_anew [va_rf r0] S (some (.int v0)) S0 := by
  refine v_entry [(0, va_rf r0)] (by decide) (by simp [lg_sl, cat_rf, cat_i, cat_j]) (by simp [lv_args, cat_rf, cat_i, cat_j]) (fun g _ hC => ?_)
  unfold fX9_anew at h
  obtain ⟨hO, h⟩ := chk_spec h
  refine v_aload_n hC 0 0 dX9_anew_0 rfl ?_
  obtain ⟨x21, ex21, h⟩ := obn h
  refine gRX9_210 hC rfl 1 ex21 dX9_anew_1 ?_
  refine v_istore_n hC [(1, .int x21), (0, va_rf r0)] 4 dX9_anew_4 (by decide) (by first | rfl | (simp [cat_rf, cat_i, cat_j]; done) | (simp [cat_rf, cat_i, cat_j]; decide)) ?_
  refine v_aload_n hC 5 1 dX9_anew_5 rfl ?_
  refine v_iconst hC (0 : Int32) 6 dX9_anew_6 (by decide) ?_
  obtain ⟨S22, eS22, h⟩ := obn h
  refine pRX9_210 hC rfl 7 eS22 dX9_anew_7 ?_
  refine v_iload_n hC 10 0 dX9_anew_10 rfl ?_
  obtain ⟨rfl, rfl⟩ := sp2 h
  exact v_iret hC 11 (by decide) (by decide) dX9_anew_11
abbrev rmX9_goes : Room := { frames := 0, cells := 0, slots := 0, locals := 0 }
theorem hdX9_goes : yX9_goes.cls ≠ "java/lang/invoke/MethodHandle" ∧ yX9_goes.cls ≠ "java/lang/invoke/VarHandle" ∧ (parseMethodDescriptor yX9_goes.desc).map (fun d => d.parameters.length) = some 3 := by decide +kernel
def fX9_goes (N : Nat) (S : pH) (x0 : Int32) (x1 : Int32) (x2 : Int32) : Option (Int32) :=
  nm (fun (x21 : Int32) =>
  nm (x0 / (2 : Int32)) fun x22 =>
  if ¬ ((x1 >>> (x22 &&& 31)) &&& (1 : Int32)) = (1 : Int32) then
  (if ¬ ((x2 >>> (x22 &&& 31)) &&& (1 : Int32)) = (1 : Int32) then
  (some (0 : Int32))
  else
  some (-x21))
  else
  some x21) fun j11 =>
  if ¬ (x0 - x0 / (2 : Int32) * (2 : Int32)) = 0 then
  (j11 (-1 : Int32))
  else
  j11 (1 : Int32)
set_option maxHeartbeats 1000000 in
set_option maxRecDepth 20000 in
theorem tX9_goes {l : Launch} {w : VW} {N : Nat} {S : pH} {x0 : Int32} {x1 : Int32} {x2 : Int32} {v0 : Int32} (h : fX9_goes N S x0 x1 x2 = some v0) : CT l w yX9_goes cX9_goes 5 (some .int) rmX9_goes [.int x0, .int x1, .int x2] S (some (.int v0)) S := by
  refine v_entry [(0, .int x0), (1, .int x1), (2, .int x2)] (by decide) (by simp [lg_sl, cat_rf, cat_i, cat_j]) (by simp [lv_args, cat_rf, cat_i, cat_j]) (fun g _ hC => ?_)
  unfold fX9_goes at h
  refine v_iload_n hC 0 0 dX9_goes_0 rfl ?_
  refine v_iconst hC (2 : Int32) 1 dX9_goes_1 (by decide) ?_
  refine v_irem hC 2 (by decide) dX9_goes_2 ?_
  obtain ⟨j11, f11, h⟩ := onm h
  have J11 : ∀ (x21 : Int32), j11 x21 = some v0 → V g w 5 (Qm g w rmX9_goes.cells rmX9_goes.slots (some (.int v0)) S) S 0 0 11 [(0, .int x0), (1, .int x1), (2, .int x2)] [.int x21] := by
    intro x21 h
    replace h := jb1 f11 h
    refine v_istore_n hC [(3, .int x21), (0, .int x0), (1, .int x1), (2, .int x2)] 11 dX9_goes_11 (by decide) rfl ?_
    refine v_iload_n hC 12 1 dX9_goes_12 rfl ?_
    refine v_iconst hC (2 : Int32) 13 dX9_goes_13 (by decide) ?_
    refine v_idiv hC 14 (by decide) dX9_goes_14 ?_
    obtain ⟨x22, ex22, h⟩ := onm h
    refine v_topi x22 ex22 ?_
    refine v_istore hC [(4, .int x22), (3, .int x21), (0, .int x0), (1, .int x1), (2, .int x2)] 15 dX9_goes_15 (by decide) rfl ?_
    refine v_iload_n hC 17 3 dX9_goes_17 rfl ?_
    refine v_iload hC 18 0 dX9_goes_18 rfl ?_
    refine v_ishr hC 20 dX9_goes_20 ?_
    refine v_iconst hC (1 : Int32) 21 dX9_goes_21 (by decide) ?_
    refine v_iand hC 22 dX9_goes_22 ?_
    refine v_iconst hC (1 : Int32) 23 dX9_goes_23 (by decide) ?_
    refine v_icmp_ne hC 24 31 dX9_goes_24 (by decide) (fun c24 => ?_) (fun c24 => ?_)
    · replace h := ifp h c24
      refine v_iload_n hC 31 4 dX9_goes_31 rfl ?_
      refine v_iload hC 32 0 dX9_goes_32 rfl ?_
      refine v_ishr hC 34 dX9_goes_34 ?_
      refine v_iconst hC (1 : Int32) 35 dX9_goes_35 (by decide) ?_
      refine v_iand hC 36 dX9_goes_36 ?_
      refine v_iconst hC (1 : Int32) 37 dX9_goes_37 (by decide) ?_
      refine v_icmp_ne hC 38 46 dX9_goes_38 (by decide) (fun c23 => ?_) (fun c23 => ?_)
      · replace h := ifp h c23
        refine v_iconst hC (0 : Int32) 46 dX9_goes_46 (by decide) ?_
        obtain rfl := sp1 h
        exact v_iret hC 47 (by decide) (by decide) dX9_goes_47
      · replace h := ifn h (fun q => q c23)
        refine v_iload_n hC 41 1 dX9_goes_41 rfl ?_
        refine v_ineg hC 42 dX9_goes_42 ?_
        refine v_goto hC 43 47 dX9_goes_43 (by decide) ?_
        obtain rfl := sp1 h
        exact v_iret hC 47 (by decide) (by decide) dX9_goes_47
    · replace h := ifn h (fun q => q c24)
      refine v_iload_n hC 27 1 dX9_goes_27 rfl ?_
      refine v_goto hC 28 47 dX9_goes_28 (by decide) ?_
      obtain rfl := sp1 h
      exact v_iret hC 47 (by decide) (by decide) dX9_goes_47
  refine v_if_ne hC 3 10 dX9_goes_3 (by decide) (fun c25 => ?_) (fun c25 => ?_)
  · replace h := ifp h c25
    refine v_iconst hC (-1 : Int32) 10 dX9_goes_10 (by decide) ?_
    refine v_sub [(0, .int x0), (1, .int x1), (2, .int x2)] [0, 1, 2] rfl ?_
    exact J11 _ h
  · replace h := ifn h (fun q => q c25)
    refine v_iconst hC (1 : Int32) 6 dX9_goes_6 (by decide) ?_
    refine v_goto hC 7 11 dX9_goes_7 (by decide) ?_
    refine v_sub [(0, .int x0), (1, .int x1), (2, .int x2)] [0, 1, 2] rfl ?_
    exact J11 _ h
set_option maxRecDepth 20000 in
theorem qX9_213 {g : VG} {w : VW} {nL : Nat} {Q : State → Prop} {S : pH} {kc ks : Nat} {lv : List (Nat × Value)} {rest : List Value} {y : MethodName} {cc : ByteArray} {rt : Option FieldType} {rm : Room} (hC : Cx g y cc nL rt rm w) (hy : y.cls = RX9) (pc : Nat) {N : Nat} {x0 : Int32} {x1 : Int32} {x2 : Int32} {v0 : Int32} (h : fX9_goes N S x0 x1 x2 = some v0) (hR : rmX9_goes.frames + 1 ≤ rm.frames ∧ 8 + (5 + 11) + rmX9_goes.locals ≤ rm.locals) (hst : (rest.map fun v => v.category).sum ≤ 8) (hf : kc + 0 ≤ rm.cells ∧ ks + 0 ≤ rm.slots) (d : decode cc pc = .ok (.invokestatic 213, 3)) (K : V g w nL Q S kc ks (pc + 3) lv (.int v0 :: rest)) : V g w nL Q S kc ks pc lv (.int x2 :: .int x1 :: .int x0 :: rest) := by
  exact v_callS (As := [.int x0, .int x1, .int x2]) (rest := rest) hC pc (tX9_goes (l := g.2.1) (w := w) h) wG561 (by rw [hy]; exact wG560) wG562 wG542 hdX9_goes rfl hR hst hf d K
abbrev rmX9_isLeft : Room := { frames := 1, cells := 0, slots := 0, locals := 24 }
theorem hdX9_isLeft : yX9_isLeft.cls ≠ "java/lang/invoke/MethodHandle" ∧ yX9_isLeft.cls ≠ "java/lang/invoke/VarHandle" ∧ (parseMethodDescriptor yX9_isLeft.desc).map (fun d => d.parameters.length) = some 1 := by decide +kernel
def lX9_isLeft_4 (N : Nat) (S : pH) (r0 : Option Nat) (x1 : Int32) : Nat → Int32 → Int32 → Option (Int32)
  | 0, _, _ => none
  | n + 1, x21, x22 =>
    (gfI S 9 19 r0).bind fun x23 =>
    if x23 ≤ x22 then
    (some x21)
    else
    nm (fun (x24 : Int32) =>
    nm (x22 + (1 : Int32)) fun x25 =>
    lX9_isLeft_4 N S r0 x1 n x24 x25) fun j46 =>
    nm (fun (_ : Unit) =>
    j46 (0 : Int32)) fun j45 =>
    if x21 = 0 then
    (j45 ())
    else
    (gfR S 9 20 r0).bind fun r26 =>
    (ldI S 0 r26 x22).bind fun x27 =>
    (gfR S 9 21 r0).bind fun r28 =>
    (ldI S 0 r28 x22).bind fun x29 =>
    (fX9_goes N S x1 x27 x29).bind fun x30 =>
    (gfR S 9 22 r0).bind fun r31 =>
    (ldI S 0 r31 x22).bind fun x32 =>
    if ¬ x30 = x32 then
    (j45 ())
    else
    j46 (1 : Int32)
def fX9_isLeft (N : Nat) (S : pH) (r0 : Option Nat) (x1 : Int32) : Option (Int32) :=
  chk S 9 r0 <|
  (lX9_isLeft_4 N S r0 x1 N (1 : Int32) (0 : Int32)).bind fun x36 =>
  if x36 = 0 ∨ x36 = 1 then some x36 else none
theorem oX9_isLeft {N : Nat} {S : pH} {r0 : Option Nat} {x1 : Int32} {z : Int32} (h : fX9_isLeft N S r0 x1 = some z) : ∃ fs, obj S 9 r0 = some fs := by
  unfold fX9_isLeft at h
  exact (chk_spec h).1
set_option maxHeartbeats 1000000 in
set_option maxRecDepth 20000 in
theorem kX9_isLeft_4 {g : VG} {w : VW} {N : Nat} {S : pH} {r0 : Option Nat} {x1 : Int32} {v0 : Int32} (hC : Cx g yX9_isLeft cX9_isLeft 4 (some .boolean) rmX9_isLeft w) : ∀ (n : Nat) (x21 : Int32) (x22 : Int32) (z : (Int32)), lX9_isLeft_4 N S r0 x1 n x21 x22 = some z → (∀ (e0 : Int32), z = e0 → V g w 4 (Qm g w rmX9_isLeft.cells rmX9_isLeft.slots (some (.int v0)) S) S 0 0 53 [(2, .int e0)] []) → V g w 4 (Qm g w rmX9_isLeft.cells rmX9_isLeft.slots (some (.int v0)) S) S 0 0 4 [(0, va_rf r0), (1, .int x1), (2, .int x21), (3, .int x22)] [] := by
  intro n
  induction n with
  | zero => intro x21 x22 z h; rw [lX9_isLeft_4] at h; cases h
  | succ n ih =>
    intro x21 x22 z h K
    rw [lX9_isLeft_4] at h
    refine v_iload_n hC 4 3 dX9_isLeft_4 rfl ?_
    refine v_aload_n hC 5 0 dX9_isLeft_5 rfl ?_
    obtain ⟨x23, ex23, h⟩ := obn h
    refine gRX9_210 hC rfl 6 ex23 dX9_isLeft_6 ?_
    refine v_icmp_ge hC 9 53 dX9_isLeft_9 (by decide) (fun c35 => ?_) (fun c35 => ?_)
    · replace h := ifp h c35
      refine v_sub [(2, .int x21)] [2] rfl ?_
      exact K _ (sp1 h)
    · replace h := ifn h c35
      refine v_iload_n hC 12 2 dX9_isLeft_12 rfl ?_
      obtain ⟨j46, f46, h⟩ := onm h
      have J46 : ∀ (x24 : Int32), j46 x24 = some z → V g w 4 (Qm g w rmX9_isLeft.cells rmX9_isLeft.slots (some (.int v0)) S) S 0 0 46 [(0, va_rf r0), (1, .int x1), (3, .int x22)] [.int x24] := by
        intro x24 h
        replace h := jb1 f46 h
        refine v_istore_n hC [(2, .int x24), (0, va_rf r0), (1, .int x1), (3, .int x22)] 46 dX9_isLeft_46 (by decide) rfl ?_
        obtain ⟨x25, ex25, h⟩ := onm h
        refine v_iinc hC x25 [(3, .int x25), (2, .int x24), (0, va_rf r0), (1, .int x1)] 47 3 dX9_isLeft_47 rfl (by rw [ex25]; rfl) (by decide) rfl ?_
        refine v_goto hC 50 4 dX9_isLeft_50 (by decide) ?_
        refine v_sub [(0, va_rf r0), (1, .int x1), (2, .int x24), (3, .int x25)] [2, 3, 1, 0] rfl ?_
        exact ih _ _ _ h K
      obtain ⟨j45, f45, h⟩ := onm h
      have J45 : ∀ (u9 : Unit), j45 u9 = some z → V g w 4 (Qm g w rmX9_isLeft.cells rmX9_isLeft.slots (some (.int v0)) S) S 0 0 45 [(0, va_rf r0), (1, .int x1), (3, .int x22)] [] := by
        intro u9 h
        replace h := jb1 f45 h
        refine v_iconst hC (0 : Int32) 45 dX9_isLeft_45 (by decide) ?_
        refine v_sub [(0, va_rf r0), (1, .int x1), (3, .int x22)] [0, 1, 2] rfl ?_
        exact J46 _ h
      refine v_if_eq hC 13 45 dX9_isLeft_13 (by decide) (fun c34 => ?_) (fun c34 => ?_)
      · replace h := ifp h c34
        refine v_sub [(0, va_rf r0), (1, .int x1), (3, .int x22)] [0, 1, 3] rfl ?_
        exact J45 _ h
      · replace h := ifn h c34
        refine v_iload_n hC 16 1 dX9_isLeft_16 rfl ?_
        refine v_aload_n hC 17 0 dX9_isLeft_17 rfl ?_
        obtain ⟨r26, er26, h⟩ := obn h
        refine gRX9_63 hC rfl 18 er26 dX9_isLeft_18 ?_
        refine v_iload_n hC 21 3 dX9_isLeft_21 rfl ?_
        obtain ⟨x27, ex27, h⟩ := obn h
        refine v_iald hC 22 ex27 dX9_isLeft_22 ?_
        refine v_aload_n hC 23 0 dX9_isLeft_23 rfl ?_
        obtain ⟨r28, er28, h⟩ := obn h
        refine gRX9_66 hC rfl 24 er28 dX9_isLeft_24 ?_
        refine v_iload_n hC 27 3 dX9_isLeft_27 rfl ?_
        obtain ⟨x29, ex29, h⟩ := obn h
        refine v_iald hC 28 ex29 dX9_isLeft_28 ?_
        obtain ⟨x30, ex30, h⟩ := obn h
        refine qX9_213 hC rfl 29 ex30 (by decide) (catL (Nat.le_of_ble_eq_true rfl)) (by decide) dX9_isLeft_29 ?_
        refine v_aload_n hC 32 0 dX9_isLeft_32 rfl ?_
        obtain ⟨r31, er31, h⟩ := obn h
        refine gRX9_69 hC rfl 33 er31 dX9_isLeft_33 ?_
        refine v_iload_n hC 36 3 dX9_isLeft_36 rfl ?_
        obtain ⟨x32, ex32, h⟩ := obn h
        refine v_iald hC 37 ex32 dX9_isLeft_37 ?_
        refine v_icmp_ne hC 38 45 dX9_isLeft_38 (by decide) (fun c33 => ?_) (fun c33 => ?_)
        · replace h := ifp h c33
          refine v_sub [(0, va_rf r0), (1, .int x1), (3, .int x22)] [0, 1, 3] rfl ?_
          exact J45 _ h
        · replace h := ifn h (fun q => q c33)
          refine v_iconst hC (1 : Int32) 41 dX9_isLeft_41 (by decide) ?_
          refine v_goto hC 42 46 dX9_isLeft_42 (by decide) ?_
          refine v_sub [(0, va_rf r0), (1, .int x1), (3, .int x22)] [0, 1, 3] rfl ?_
          exact J46 _ h
set_option maxHeartbeats 1000000 in
set_option maxRecDepth 20000 in
theorem tX9_isLeft {l : Launch} {w : VW} {N : Nat} {S : pH} {r0 : Option Nat} {x1 : Int32} {v0 : Int32} (h : fX9_isLeft N S r0 x1 = some v0) : CT l w yX9_isLeft cX9_isLeft 4 (some .boolean) rmX9_isLeft [va_rf r0, .int x1] S (some (.int v0)) S := by
  refine v_entry [(0, va_rf r0), (1, .int x1)] (by decide) (by simp [lg_sl, cat_rf, cat_i, cat_j]) (by simp [lv_args, cat_rf, cat_i, cat_j]) (fun g _ hC => ?_)
  unfold fX9_isLeft at h
  obtain ⟨hO, h⟩ := chk_spec h
  refine v_iconst hC (1 : Int32) 0 dX9_isLeft_0 (by decide) ?_
  refine v_istore_n hC [(2, .int (1 : Int32)), (0, va_rf r0), (1, .int x1)] 1 dX9_isLeft_1 (by decide) rfl ?_
  refine v_iconst hC (0 : Int32) 2 dX9_isLeft_2 (by decide) ?_
  refine v_istore_n hC [(3, .int (0 : Int32)), (2, .int (1 : Int32)), (0, va_rf r0), (1, .int x1)] 3 dX9_isLeft_3 (by decide) rfl ?_
  obtain ⟨x36, E4, h⟩ := obn h
  refine v_sub [(0, va_rf r0), (1, .int x1), (2, .int (1 : Int32)), (3, .int (0 : Int32))] [2, 3, 1, 0] rfl ?_
  refine kX9_isLeft_4 hC _ _ _ _ E4 (fun _ hz9 => ?_)
  cases hz9
  refine v_iload_n hC 53 0 dX9_isLeft_53 rfl ?_
  obtain ⟨hz9, h⟩ := if0 h
  obtain rfl := sp1 h
  exact v_zret hC 54 (by decide) (by decide) hz9 dX9_isLeft_54
set_option maxRecDepth 20000 in
theorem qX9_216 {g : VG} {w : VW} {nL : Nat} {Q : State → Prop} {S : pH} {kc ks : Nat} {lv : List (Nat × Value)} {rest : List Value} {y : MethodName} {cc : ByteArray} {rt : Option FieldType} {rm : Room} (hC : Cx g y cc nL rt rm w) (hy : y.cls = RX9) (pc : Nat) {N : Nat} {r0 : Option Nat} {x1 : Int32} {v0 : Int32} (h : fX9_isLeft N S r0 x1 = some v0) (hR : rmX9_isLeft.frames + 1 ≤ rm.frames ∧ 8 + (4 + 11) + rmX9_isLeft.locals ≤ rm.locals) (hst : (rest.map fun v => v.category).sum ≤ 8) (hf : kc + 0 ≤ rm.cells ∧ ks + 0 ≤ rm.slots) (d : decode cc pc = .ok (.invokevirtual 216, 3)) (K : V g w nL Q S kc ks (pc + 3) lv (.int v0 :: rest)) : V g w nL Q S kc ks pc lv (.int x1 :: va_rf r0 :: rest) := by
  obtain ⟨fs, ho⟩ := oX9_isLeft h
  exact v_callV (As := [.int x1]) (rest := rest) (ci := 9) hC pc (tX9_isLeft (l := g.2.1) (w := w) h) rfl (by decide) ho wG564 (by rw [hy]; exact wG563) wG565 wG566 wG542 hdX9_isLeft rfl hR hst hf d K
abbrev rmX9_leftMany : Room := { frames := 2, cells := 0, slots := 0, locals := 47 }
theorem hdX9_leftMany : yX9_leftMany.cls ≠ "java/lang/invoke/MethodHandle" ∧ yX9_leftMany.cls ≠ "java/lang/invoke/VarHandle" ∧ (parseMethodDescriptor yX9_leftMany.desc).map (fun d => d.parameters.length) = some 0 := by decide +kernel
def lX9_leftMany_4 (N : Nat) (S : pH) (r0 : Option Nat) : Nat → Int32 → Int32 → Option (Int32)
  | 0, _, _ => none
  | n + 1, x21, x22 =>
    if (18 : Int32) ≤ x22 then
    (some x21)
    else
    (fX9_isLeft N S r0 x22).bind fun x23 =>
    nm (fun (x24 : Int32) (x25 : Int32) =>
    nm (x24 + x25) fun x26 =>
    nm (x22 + (1 : Int32)) fun x27 =>
    lX9_leftMany_4 N S r0 n x26 x27) fun j24 =>
    if x23 = 0 then
    (j24 x21 (0 : Int32))
    else
    j24 x21 (1 : Int32)
def fX9_leftMany (N : Nat) (S : pH) (r0 : Option Nat) : Option (Int32) :=
  chk S 9 r0 <|
  (lX9_leftMany_4 N S r0 N (0 : Int32) (0 : Int32)).bind fun x30 =>
  some x30
theorem oX9_leftMany {N : Nat} {S : pH} {r0 : Option Nat} {z : Int32} (h : fX9_leftMany N S r0 = some z) : ∃ fs, obj S 9 r0 = some fs := by
  unfold fX9_leftMany at h
  exact (chk_spec h).1
set_option maxHeartbeats 1000000 in
set_option maxRecDepth 20000 in
theorem kX9_leftMany_4 {g : VG} {w : VW} {N : Nat} {S : pH} {r0 : Option Nat} {v0 : Int32} (hC : Cx g yX9_leftMany cX9_leftMany 3 (some .int) rmX9_leftMany w) : ∀ (n : Nat) (x21 : Int32) (x22 : Int32) (z : (Int32)), lX9_leftMany_4 N S r0 n x21 x22 = some z → (∀ (e0 : Int32), z = e0 → V g w 3 (Qm g w rmX9_leftMany.cells rmX9_leftMany.slots (some (.int v0)) S) S 0 0 32 [(1, .int e0)] []) → V g w 3 (Qm g w rmX9_leftMany.cells rmX9_leftMany.slots (some (.int v0)) S) S 0 0 4 [(0, va_rf r0), (1, .int x21), (2, .int x22)] [] := by
  intro n
  induction n with
  | zero => intro x21 x22 z h; rw [lX9_leftMany_4] at h; cases h
  | succ n ih =>
    intro x21 x22 z h K
    rw [lX9_leftMany_4] at h
    refine v_iload_n hC 4 2 dX9_leftMany_4 rfl ?_
    refine v_bipush hC (18 : Int32) 5 dX9_leftMany_5 (by decide) ?_
    refine v_icmp_ge hC 7 32 dX9_leftMany_7 (by decide) (fun c29 => ?_) (fun c29 => ?_)
    · replace h := ifp h c29
      refine v_sub [(1, .int x21)] [1] rfl ?_
      exact K _ (sp1 h)
    · replace h := ifn h c29
      refine v_iload_n hC 10 1 dX9_leftMany_10 rfl ?_
      refine v_aload_n hC 11 0 dX9_leftMany_11 rfl ?_
      refine v_iload_n hC 12 2 dX9_leftMany_12 rfl ?_
      obtain ⟨x23, ex23, h⟩ := obn h
      refine qX9_216 hC rfl 13 ex23 (by decide) (catL (Nat.le_of_ble_eq_true rfl)) (by decide) dX9_leftMany_13 ?_
      obtain ⟨j24, f24, h⟩ := onm h
      have J24 : ∀ (x24 : Int32) (x25 : Int32), j24 x24 x25 = some z → V g w 3 (Qm g w rmX9_leftMany.cells rmX9_leftMany.slots (some (.int v0)) S) S 0 0 24 [(0, va_rf r0), (2, .int x22)] [.int x25, .int x24] := by
        intro x24 x25 h
        replace h := jb2 f24 h
        refine v_iadd hC 24 dX9_leftMany_24 ?_
        obtain ⟨x26, ex26, h⟩ := onm h
        refine v_topi x26 ex26 ?_
        refine v_istore_n hC [(1, .int x26), (0, va_rf r0), (2, .int x22)] 25 dX9_leftMany_25 (by decide) (by first | rfl | (simp [cat_rf, cat_i, cat_j]; done) | (simp [cat_rf, cat_i, cat_j]; decide)) ?_
        obtain ⟨x27, ex27, h⟩ := onm h
        refine v_iinc hC x27 [(2, .int x27), (1, .int x26), (0, va_rf r0)] 26 2 dX9_leftMany_26 rfl (by rw [ex27]; rfl) (by decide) rfl ?_
        refine v_goto hC 29 4 dX9_leftMany_29 (by decide) ?_
        refine v_sub [(0, va_rf r0), (1, .int x26), (2, .int x27)] [2, 1, 0] rfl ?_
        exact ih _ _ _ h K
      refine v_if_eq hC 16 23 dX9_leftMany_16 (by decide) (fun c28 => ?_) (fun c28 => ?_)
      · replace h := ifp h c28
        refine v_iconst hC (0 : Int32) 23 dX9_leftMany_23 (by decide) ?_
        refine v_sub [(0, va_rf r0), (2, .int x22)] [0, 2] rfl ?_
        exact J24 _ _ h
      · replace h := ifn h c28
        refine v_iconst hC (1 : Int32) 19 dX9_leftMany_19 (by decide) ?_
        refine v_goto hC 20 24 dX9_leftMany_20 (by decide) ?_
        refine v_sub [(0, va_rf r0), (2, .int x22)] [0, 2] rfl ?_
        exact J24 _ _ h
set_option maxHeartbeats 1000000 in
set_option maxRecDepth 20000 in
theorem tX9_leftMany {l : Launch} {w : VW} {N : Nat} {S : pH} {r0 : Option Nat} {v0 : Int32} (h : fX9_leftMany N S r0 = some v0) : CT l w yX9_leftMany cX9_leftMany 3 (some .int) rmX9_leftMany [va_rf r0] S (some (.int v0)) S := by
  refine v_entry [(0, va_rf r0)] (by decide) (by simp [lg_sl, cat_rf, cat_i, cat_j]) (by simp [lv_args, cat_rf, cat_i, cat_j]) (fun g _ hC => ?_)
  unfold fX9_leftMany at h
  obtain ⟨hO, h⟩ := chk_spec h
  refine v_iconst hC (0 : Int32) 0 dX9_leftMany_0 (by decide) ?_
  refine v_istore_n hC [(1, .int (0 : Int32)), (0, va_rf r0)] 1 dX9_leftMany_1 (by decide) (by first | rfl | (simp [cat_rf, cat_i, cat_j]; done) | (simp [cat_rf, cat_i, cat_j]; decide)) ?_
  refine v_iconst hC (0 : Int32) 2 dX9_leftMany_2 (by decide) ?_
  refine v_istore_n hC [(2, .int (0 : Int32)), (1, .int (0 : Int32)), (0, va_rf r0)] 3 dX9_leftMany_3 (by decide) rfl ?_
  obtain ⟨x30, E4, h⟩ := obn h
  refine v_sub [(0, va_rf r0), (1, .int (0 : Int32)), (2, .int (0 : Int32))] [2, 1, 0] rfl ?_
  refine kX9_leftMany_4 hC _ _ _ _ E4 (fun _ hz9 => ?_)
  cases hz9
  refine v_iload_n hC 32 0 dX9_leftMany_32 rfl ?_
  obtain rfl := sp1 h
  exact v_iret hC 33 (by decide) (by decide) dX9_leftMany_33
set_option maxRecDepth 20000 in
theorem qX9_225 {g : VG} {w : VW} {nL : Nat} {Q : State → Prop} {S : pH} {kc ks : Nat} {lv : List (Nat × Value)} {rest : List Value} {y : MethodName} {cc : ByteArray} {rt : Option FieldType} {rm : Room} (hC : Cx g y cc nL rt rm w) (hy : y.cls = RX9) (pc : Nat) {N : Nat} {r0 : Option Nat} {v0 : Int32} (h : fX9_leftMany N S r0 = some v0) (hR : rmX9_leftMany.frames + 1 ≤ rm.frames ∧ 8 + (3 + 11) + rmX9_leftMany.locals ≤ rm.locals) (hst : (rest.map fun v => v.category).sum ≤ 8) (hf : kc + 0 ≤ rm.cells ∧ ks + 0 ≤ rm.slots) (d : decode cc pc = .ok (.invokevirtual 225, 3)) (K : V g w nL Q S kc ks (pc + 3) lv (.int v0 :: rest)) : V g w nL Q S kc ks pc lv (va_rf r0 :: rest) := by
  obtain ⟨fs, ho⟩ := oX9_leftMany h
  exact v_callV (As := []) (rest := rest) (ci := 9) hC pc (tX9_leftMany (l := g.2.1) (w := w) h) rfl (by decide) ho wG568 (by rw [hy]; exact wG567) wG569 wG570 wG542 hdX9_leftMany rfl hR hst hf d K
abbrev rmX9_bad : Room := { frames := 3, cells := 0, slots := 0, locals := 69 }
theorem hdX9_bad : yX9_bad.cls ≠ "java/lang/invoke/MethodHandle" ∧ yX9_bad.cls ≠ "java/lang/invoke/VarHandle" ∧ (parseMethodDescriptor yX9_bad.desc).map (fun d => d.parameters.length) = some 1 := by decide +kernel
def lX9_bad_26 (N : Nat) (S : pH) (r0 : Option Nat) : Nat → Int32 → Int32 → Option (Int32)
  | 0, _, _ => none
  | n + 1, x23, x24 =>
    if (18 : Int32) ≤ x24 then
    (some x23)
    else
    (fX9_isLeft N S r0 x24).bind fun x25 =>
    nm (fun (x26 : Int32) (x27 : Int32) =>
    nm (x26 ||| x27) fun x28 =>
    nm (x24 + (2 : Int32)) fun x29 =>
    lX9_bad_26 N S r0 n x28 x29) fun j50 =>
    if x25 = 0 then
    (j50 x23 (0 : Int32))
    else
    j50 x23 ((1 : Int32) <<< ((x24 / (2 : Int32)) &&& 31))
def fX9_bad (N : Nat) (S : pH) (r0 : Option Nat) (x1 : Int32) : Option (Int32) :=
  chk S 9 r0 <|
  (fX9_in N S x1 (0 : Int32) (2 : Int32)).bind fun x21 =>
  if ¬ x21 = 0 then
  (if ¬ x1 = 0 then
  (nm (x1 - (1 : Int32)) fun x22 =>
  (lX9_bad_26 N S r0 N (0 : Int32) x22).bind fun x32 =>
  some x32)
  else
  (fX9_leftMany N S r0).bind fun x33 =>
  some x33)
  else
  some (-1 : Int32)
theorem oX9_bad {N : Nat} {S : pH} {r0 : Option Nat} {x1 : Int32} {z : Int32} (h : fX9_bad N S r0 x1 = some z) : ∃ fs, obj S 9 r0 = some fs := by
  unfold fX9_bad at h
  exact (chk_spec h).1
set_option maxHeartbeats 1000000 in
set_option maxRecDepth 20000 in
theorem kX9_bad_26 {g : VG} {w : VW} {N : Nat} {S : pH} {r0 : Option Nat} {v0 : Int32} (hC : Cx g yX9_bad cX9_bad 4 (some .int) rmX9_bad w) : ∀ (n : Nat) (x23 : Int32) (x24 : Int32) (z : (Int32)), lX9_bad_26 N S r0 n x23 x24 = some z → (∀ (e0 : Int32), z = e0 → V g w 4 (Qm g w rmX9_bad.cells rmX9_bad.slots (some (.int v0)) S) S 0 0 58 [(2, .int e0)] []) → V g w 4 (Qm g w rmX9_bad.cells rmX9_bad.slots (some (.int v0)) S) S 0 0 26 [(0, va_rf r0), (2, .int x23), (3, .int x24)] [] := by
  intro n
  induction n with
  | zero => intro x23 x24 z h; rw [lX9_bad_26] at h; cases h
  | succ n ih =>
    intro x23 x24 z h K
    rw [lX9_bad_26] at h
    refine v_iload_n hC 26 2 dX9_bad_26 rfl ?_
    refine v_bipush hC (18 : Int32) 27 dX9_bad_27 (by decide) ?_
    refine v_icmp_ge hC 29 58 dX9_bad_29 (by decide) (fun c31 => ?_) (fun c31 => ?_)
    · replace h := ifp h c31
      refine v_sub [(2, .int x23)] [1] rfl ?_
      exact K _ (sp1 h)
    · replace h := ifn h c31
      refine v_iload_n hC 32 1 dX9_bad_32 rfl ?_
      refine v_aload_n hC 33 0 dX9_bad_33 rfl ?_
      refine v_iload_n hC 34 2 dX9_bad_34 rfl ?_
      obtain ⟨x25, ex25, h⟩ := obn h
      refine qX9_216 hC rfl 35 ex25 (by decide) (catL (Nat.le_of_ble_eq_true rfl)) (by decide) dX9_bad_35 ?_
      obtain ⟨j50, f50, h⟩ := onm h
      have J50 : ∀ (x26 : Int32) (x27 : Int32), j50 x26 x27 = some z → V g w 4 (Qm g w rmX9_bad.cells rmX9_bad.slots (some (.int v0)) S) S 0 0 50 [(0, va_rf r0), (3, .int x24)] [.int x27, .int x26] := by
        intro x26 x27 h
        replace h := jb2 f50 h
        refine v_ior hC 50 dX9_bad_50 ?_
        obtain ⟨x28, ex28, h⟩ := onm h
        refine v_topi x28 ex28 ?_
        refine v_istore_n hC [(2, .int x28), (0, va_rf r0), (3, .int x24)] 51 dX9_bad_51 (by decide) rfl ?_
        obtain ⟨x29, ex29, h⟩ := onm h
        refine v_iinc hC x29 [(3, .int x29), (2, .int x28), (0, va_rf r0)] 52 2 dX9_bad_52 rfl (by rw [ex29]; rfl) (by decide) rfl ?_
        refine v_goto hC 55 26 dX9_bad_55 (by decide) ?_
        refine v_sub [(0, va_rf r0), (2, .int x28), (3, .int x29)] [2, 1, 0] rfl ?_
        exact ih _ _ _ h K
      refine v_if_eq hC 38 49 dX9_bad_38 (by decide) (fun c30 => ?_) (fun c30 => ?_)
      · replace h := ifp h c30
        refine v_iconst hC (0 : Int32) 49 dX9_bad_49 (by decide) ?_
        refine v_sub [(0, va_rf r0), (3, .int x24)] [0, 2] rfl ?_
        exact J50 _ _ h
      · replace h := ifn h c30
        refine v_iconst hC (1 : Int32) 41 dX9_bad_41 (by decide) ?_
        refine v_iload_n hC 42 2 dX9_bad_42 rfl ?_
        refine v_iconst hC (2 : Int32) 43 dX9_bad_43 (by decide) ?_
        refine v_idiv hC 44 (by decide) dX9_bad_44 ?_
        refine v_ishl hC 45 dX9_bad_45 ?_
        refine v_goto hC 46 50 dX9_bad_46 (by decide) ?_
        refine v_sub [(0, va_rf r0), (3, .int x24)] [0, 2] rfl ?_
        exact J50 _ _ h
set_option maxHeartbeats 1000000 in
set_option maxRecDepth 20000 in
theorem tX9_bad {l : Launch} {w : VW} {N : Nat} {S : pH} {r0 : Option Nat} {x1 : Int32} {v0 : Int32} (h : fX9_bad N S r0 x1 = some v0) : CT l w yX9_bad cX9_bad 4 (some .int) rmX9_bad [va_rf r0, .int x1] S (some (.int v0)) S := by
  refine v_entry [(0, va_rf r0), (1, .int x1)] (by decide) (by simp [lg_sl, cat_rf, cat_i, cat_j]) (by simp [lv_args, cat_rf, cat_i, cat_j]) (fun g _ hC => ?_)
  unfold fX9_bad at h
  obtain ⟨hO, h⟩ := chk_spec h
  refine v_iload_n hC 0 1 dX9_bad_0 rfl ?_
  refine v_iconst hC (0 : Int32) 1 dX9_bad_1 (by decide) ?_
  refine v_iconst hC (2 : Int32) 2 dX9_bad_2 (by decide) ?_
  obtain ⟨x21, ex21, h⟩ := obn h
  refine qX9_97 hC rfl 3 ex21 (by decide) (catL (Nat.le_of_ble_eq_true rfl)) (by decide) dX9_bad_3 ?_
  refine v_if_ne hC 6 11 dX9_bad_6 (by decide) (fun c35 => ?_) (fun c35 => ?_)
  · replace h := ifp h c35
    refine v_iload_n hC 11 1 dX9_bad_11 rfl ?_
    refine v_if_ne hC 12 20 dX9_bad_12 (by decide) (fun c34 => ?_) (fun c34 => ?_)
    · replace h := ifp h c34
      refine v_iconst hC (0 : Int32) 20 dX9_bad_20 (by decide) ?_
      refine v_istore_n hC [(2, .int (0 : Int32)), (0, va_rf r0), (1, .int x1)] 21 dX9_bad_21 (by decide) rfl ?_
      refine v_iload_n hC 22 2 dX9_bad_22 rfl ?_
      refine v_iconst hC (1 : Int32) 23 dX9_bad_23 (by decide) ?_
      refine v_isub hC 24 dX9_bad_24 ?_
      obtain ⟨x22, ex22, h⟩ := onm h
      refine v_topi x22 ex22 ?_
      refine v_istore_n hC [(3, .int x22), (2, .int (0 : Int32)), (0, va_rf r0), (1, .int x1)] 25 dX9_bad_25 (by decide) rfl ?_
      obtain ⟨x32, E26, h⟩ := obn h
      refine v_sub [(0, va_rf r0), (2, .int (0 : Int32)), (3, .int x22)] [2, 1, 0] rfl ?_
      refine kX9_bad_26 hC _ _ _ _ E26 (fun _ hz9 => ?_)
      cases hz9
      refine v_iload_n hC 58 0 dX9_bad_58 rfl ?_
      obtain rfl := sp1 h
      exact v_iret hC 59 (by decide) (by decide) dX9_bad_59
    · replace h := ifn h (fun q => q c34)
      refine v_aload_n hC 15 0 dX9_bad_15 rfl ?_
      obtain ⟨x33, ex33, h⟩ := obn h
      refine qX9_225 hC rfl 16 ex33 (by decide) (catL (Nat.le_of_ble_eq_true rfl)) (by decide) dX9_bad_16 ?_
      obtain rfl := sp1 h
      exact v_iret hC 19 (by decide) (by decide) dX9_bad_19
  · replace h := ifn h (fun q => q c35)
    refine v_iconst hC (-1 : Int32) 9 dX9_bad_9 (by decide) ?_
    obtain rfl := sp1 h
    exact v_iret hC 10 (by decide) (by decide) dX9_bad_10
abbrev rmX9_doCrack : Room := { frames := 0, cells := 0, slots := 0, locals := 0 }
theorem hdX9_doCrack : yX9_doCrack.cls ≠ "java/lang/invoke/MethodHandle" ∧ yX9_doCrack.cls ≠ "java/lang/invoke/VarHandle" ∧ (parseMethodDescriptor yX9_doCrack.desc).map (fun d => d.parameters.length) = some 2 := by decide +kernel
def fX9_doCrack (N : Nat) (S : pH) (r0 : Option Nat) (x1 : Int32) (x2 : Int32) : Option (Int32) :=
  chk S 9 r0 <|
  (gfR S 9 0 r0).bind fun r21 =>
  (ldI S 0 r21 x1).bind fun x22 =>
  (gfR S 9 0 r0).bind fun r23 =>
  (ldI S 0 r23 x2).bind fun x24 =>
  nm (x22 - x24) fun x25 =>
  if x1 ≤ 0 then
  (some (0 : Int32))
  else
  if x2 ≤ 0 then
  (some (0 : Int32))
  else
  (gfI S 9 15 r0).bind fun x26 =>
  nm (fun (_ : Unit) =>
  some (1 : Int32)) fun j39 =>
  if x26 < x25 then
  (j39 ())
  else
  (gfI S 9 15 r0).bind fun x27 =>
  if (-x25) ≤ x27 then
  (some (0 : Int32))
  else
  j39 ()
theorem oX9_doCrack {N : Nat} {S : pH} {r0 : Option Nat} {x1 : Int32} {x2 : Int32} {z : Int32} (h : fX9_doCrack N S r0 x1 x2 = some z) : ∃ fs, obj S 9 r0 = some fs := by
  unfold fX9_doCrack at h
  exact (chk_spec h).1
set_option maxHeartbeats 1000000 in
set_option maxRecDepth 20000 in
theorem tX9_doCrack {l : Launch} {w : VW} {N : Nat} {S : pH} {r0 : Option Nat} {x1 : Int32} {x2 : Int32} {v0 : Int32} (h : fX9_doCrack N S r0 x1 x2 = some v0) : CT l w yX9_doCrack cX9_doCrack 4 (some .boolean) rmX9_doCrack [va_rf r0, .int x1, .int x2] S (some (.int v0)) S := by
  refine v_entry [(0, va_rf r0), (1, .int x1), (2, .int x2)] (by decide) (by simp [lg_sl, cat_rf, cat_i, cat_j]) (by simp [lv_args, cat_rf, cat_i, cat_j]) (fun g _ hC => ?_)
  unfold fX9_doCrack at h
  obtain ⟨hO, h⟩ := chk_spec h
  refine v_aload_n hC 0 0 dX9_doCrack_0 rfl ?_
  obtain ⟨r21, er21, h⟩ := obn h
  refine gRX9_7 hC rfl 1 er21 dX9_doCrack_1 ?_
  refine v_iload_n hC 4 1 dX9_doCrack_4 rfl ?_
  obtain ⟨x22, ex22, h⟩ := obn h
  refine v_iald hC 5 ex22 dX9_doCrack_5 ?_
  refine v_aload_n hC 6 0 dX9_doCrack_6 rfl ?_
  obtain ⟨r23, er23, h⟩ := obn h
  refine gRX9_7 hC rfl 7 er23 dX9_doCrack_7 ?_
  refine v_iload_n hC 10 2 dX9_doCrack_10 rfl ?_
  obtain ⟨x24, ex24, h⟩ := obn h
  refine v_iald hC 11 ex24 dX9_doCrack_11 ?_
  refine v_isub hC 12 dX9_doCrack_12 ?_
  obtain ⟨x25, ex25, h⟩ := onm h
  refine v_topi x25 ex25 ?_
  refine v_istore_n hC [(3, .int x25), (0, va_rf r0), (1, .int x1), (2, .int x2)] 13 dX9_doCrack_13 (by decide) rfl ?_
  refine v_iload_n hC 14 2 dX9_doCrack_14 rfl ?_
  refine v_if_le hC 15 43 dX9_doCrack_15 (by decide) (fun c31 => ?_) (fun c31 => ?_)
  · replace h := ifp h c31
    refine v_iconst hC (0 : Int32) 43 dX9_doCrack_43 (by decide) ?_
    obtain rfl := sp1 h
    exact v_zret hC 44 (by decide) (by decide) (by decide) dX9_doCrack_44
  · replace h := ifn h c31
    refine v_iload_n hC 18 3 dX9_doCrack_18 rfl ?_
    refine v_if_le hC 19 43 dX9_doCrack_19 (by decide) (fun c30 => ?_) (fun c30 => ?_)
    · replace h := ifp h c30
      refine v_iconst hC (0 : Int32) 43 dX9_doCrack_43 (by decide) ?_
      obtain rfl := sp1 h
      exact v_zret hC 44 (by decide) (by decide) (by decide) dX9_doCrack_44
    · replace h := ifn h c30
      refine v_iload_n hC 22 0 dX9_doCrack_22 rfl ?_
      refine v_aload_n hC 23 1 dX9_doCrack_23 rfl ?_
      obtain ⟨x26, ex26, h⟩ := obn h
      refine gRX9_54 hC rfl 24 ex26 dX9_doCrack_24 ?_
      obtain ⟨j39, f39, h⟩ := onm h
      have J39 : ∀ (u9 : Unit), j39 u9 = some v0 → V g w 4 (Qm g w rmX9_doCrack.cells rmX9_doCrack.slots (some (.int v0)) S) S 0 0 39 [] [] := by
        intro u9 h
        replace h := jb1 f39 h
        refine v_iconst hC (1 : Int32) 39 dX9_doCrack_39 (by decide) ?_
        refine v_goto hC 40 44 dX9_doCrack_40 (by decide) ?_
        obtain rfl := sp1 h
        exact v_zret hC 44 (by decide) (by decide) (by decide) dX9_doCrack_44
      refine v_icmp_gt hC 27 39 dX9_doCrack_27 (by decide) (fun c29 => ?_) (fun c29 => ?_)
      · replace h := ifp h c29
        refine v_sub [] [] rfl ?_
        exact J39 _ h
      · replace h := ifn h c29
        refine v_iload_n hC 30 0 dX9_doCrack_30 rfl ?_
        refine v_ineg hC 31 dX9_doCrack_31 ?_
        refine v_aload_n hC 32 1 dX9_doCrack_32 rfl ?_
        obtain ⟨x27, ex27, h⟩ := obn h
        refine gRX9_54 hC rfl 33 ex27 dX9_doCrack_33 ?_
        refine v_icmp_le hC 36 43 dX9_doCrack_36 (by decide) (fun c28 => ?_) (fun c28 => ?_)
        · replace h := ifp h c28
          refine v_iconst hC (0 : Int32) 43 dX9_doCrack_43 (by decide) ?_
          obtain rfl := sp1 h
          exact v_zret hC 44 (by decide) (by decide) (by decide) dX9_doCrack_44
        · replace h := ifn h c28
          refine v_sub [] [] rfl ?_
          exact J39 _ h
set_option maxRecDepth 20000 in
theorem qX9_159 {g : VG} {w : VW} {nL : Nat} {Q : State → Prop} {S : pH} {kc ks : Nat} {lv : List (Nat × Value)} {rest : List Value} {y : MethodName} {cc : ByteArray} {rt : Option FieldType} {rm : Room} (hC : Cx g y cc nL rt rm w) (hy : y.cls = RX9) (pc : Nat) {N : Nat} {r0 : Option Nat} {x1 : Int32} {x2 : Int32} {v0 : Int32} (h : fX9_doCrack N S r0 x1 x2 = some v0) (hR : rmX9_doCrack.frames + 1 ≤ rm.frames ∧ 8 + (4 + 11) + rmX9_doCrack.locals ≤ rm.locals) (hst : (rest.map fun v => v.category).sum ≤ 8) (hf : kc + 0 ≤ rm.cells ∧ ks + 0 ≤ rm.slots) (d : decode cc pc = .ok (.invokevirtual 159, 3)) (K : V g w nL Q S kc ks (pc + 3) lv (.int v0 :: rest)) : V g w nL Q S kc ks pc lv (.int x2 :: .int x1 :: va_rf r0 :: rest) := by
  obtain ⟨fs, ho⟩ := oX9_doCrack h
  exact v_callV (As := [.int x1, .int x2]) (rest := rest) (ci := 9) hC pc (tX9_doCrack (l := g.2.1) (w := w) h) rfl (by decide) ho wG572 (by rw [hy]; exact wG571) wG573 wG574 wG542 hdX9_doCrack rfl hR hst hf d K
abbrev rmX9_beside : Room := { frames := 1, cells := 0, slots := 0, locals := 23 }
theorem hdX9_beside : yX9_beside.cls ≠ "java/lang/invoke/MethodHandle" ∧ yX9_beside.cls ≠ "java/lang/invoke/VarHandle" ∧ (parseMethodDescriptor yX9_beside.desc).map (fun d => d.parameters.length) = some 3 := by decide +kernel
def fX9_beside (N : Nat) (S : pH) (r0 : Option Nat) (x1 : Int32) (x2 : Int32) (x3 : Int32) : Option (Int32) :=
  chk S 9 r0 <|
  nm (fun (x21 : Int32) (x22 : Int32) =>
  nm (x21 + x22) fun x23 =>
  nm (fun (x24 : Int32) (x25 : Int32) =>
  nm (x24 + x25) fun x26 =>
  (gfR S 9 3 r0).bind fun r27 =>
  (ldI S 0 r27 x1).bind fun x28 =>
  (fX9_in N S x23 (0 : Int32) (x28 - (1 : Int32))).bind fun x29 =>
  nm (fun (x30 : Int32) =>
  if x30 = 0 then
  (some (-9 : Int32))
  else
  (fX9_at N S r0 x1 (x2 - x2 / (8 : Int32) * (8 : Int32)) (x2 / (8 : Int32))).bind fun x31 =>
  (fX9_at N S r0 x1 x23 x26).bind fun x32 =>
  (fX9_doCrack N S r0 x31 x32).bind fun x33 =>
  if x33 = 0 then
  (some (-9 : Int32))
  else
  some (((8 : Int32) * x26) + x23)) fun j90 =>
  nm (fun (_ : Unit) =>
  j90 (0 : Int32)) fun j89 =>
  if x29 = 0 then
  (j89 ())
  else
  (gfR S 9 3 r0).bind fun r36 =>
  (ldI S 0 r36 x1).bind fun x37 =>
  (fX9_in N S x26 (0 : Int32) (x37 - (1 : Int32))).bind fun x38 =>
  if x38 = 0 then
  (j89 ())
  else
  j90 (1 : Int32)) fun j48 =>
  if ¬ x3 = (2 : Int32) then
  (if ¬ x3 = (3 : Int32) then
  (j48 (x2 / (8 : Int32)) (0 : Int32))
  else
  j48 (x2 / (8 : Int32)) (-1 : Int32))
  else
  j48 (x2 / (8 : Int32)) (1 : Int32)) fun j22 =>
  if ¬ x3 = 0 then
  (if ¬ x3 = (1 : Int32) then
  (j22 (x2 - x2 / (8 : Int32) * (8 : Int32)) (0 : Int32))
  else
  j22 (x2 - x2 / (8 : Int32) * (8 : Int32)) (-1 : Int32))
  else
  j22 (x2 - x2 / (8 : Int32) * (8 : Int32)) (1 : Int32)
theorem oX9_beside {N : Nat} {S : pH} {r0 : Option Nat} {x1 : Int32} {x2 : Int32} {x3 : Int32} {z : Int32} (h : fX9_beside N S r0 x1 x2 x3 = some z) : ∃ fs, obj S 9 r0 = some fs := by
  unfold fX9_beside at h
  exact (chk_spec h).1
set_option maxHeartbeats 1000000 in
set_option maxRecDepth 20000 in
theorem tX9_beside {l : Launch} {w : VW} {N : Nat} {S : pH} {r0 : Option Nat} {x1 : Int32} {x2 : Int32} {x3 : Int32} {v0 : Int32} (h : fX9_beside N S r0 x1 x2 x3 = some v0) : CT l w yX9_beside cX9_beside 7 (some .int) rmX9_beside [va_rf r0, .int x1, .int x2, .int x3] S (some (.int v0)) S := by
  refine v_entry [(0, va_rf r0), (1, .int x1), (2, .int x2), (3, .int x3)] (by decide) (by simp [lg_sl, cat_rf, cat_i, cat_j]) (by simp [lv_args, cat_rf, cat_i, cat_j]) (fun g _ hC => ?_)
  unfold fX9_beside at h
  obtain ⟨hO, h⟩ := chk_spec h
  refine v_iload_n hC 0 2 dX9_beside_0 rfl ?_
  refine v_bipush hC (8 : Int32) 1 dX9_beside_1 (by decide) ?_
  refine v_irem hC 3 (by decide) dX9_beside_3 ?_
  refine v_iload_n hC 4 3 dX9_beside_4 rfl ?_
  obtain ⟨j22, f22, h⟩ := onm h
  have J22 : ∀ (x21 : Int32) (x22 : Int32), j22 x21 x22 = some v0 → V g w 7 (Qm g w rmX9_beside.cells rmX9_beside.slots (some (.int v0)) S) S 0 0 22 [(0, va_rf r0), (1, .int x1), (2, .int x2), (3, .int x3)] [.int x22, .int x21] := by
    intro x21 x22 h
    replace h := jb2 f22 h
    refine v_iadd hC 22 dX9_beside_22 ?_
    obtain ⟨x23, ex23, h⟩ := onm h
    refine v_topi x23 ex23 ?_
    refine v_istore hC [(4, .int x23), (0, va_rf r0), (1, .int x1), (2, .int x2), (3, .int x3)] 23 dX9_beside_23 (by decide) rfl ?_
    refine v_iload_n hC 25 3 dX9_beside_25 rfl ?_
    refine v_bipush hC (8 : Int32) 26 dX9_beside_26 (by decide) ?_
    refine v_idiv hC 28 (by decide) dX9_beside_28 ?_
    refine v_iload_n hC 29 4 dX9_beside_29 rfl ?_
    refine v_iconst hC (2 : Int32) 30 dX9_beside_30 (by decide) ?_
    obtain ⟨j48, f48, h⟩ := onm h
    have J48 : ∀ (x24 : Int32) (x25 : Int32), j48 x24 x25 = some v0 → V g w 7 (Qm g w rmX9_beside.cells rmX9_beside.slots (some (.int v0)) S) S 0 0 48 [(0, va_rf r0), (1, .int x1), (2, .int x2), (4, .int x23)] [.int x25, .int x24] := by
      intro x24 x25 h
      replace h := jb2 f48 h
      refine v_iadd hC 48 dX9_beside_48 ?_
      obtain ⟨x26, ex26, h⟩ := onm h
      refine v_topi x26 ex26 ?_
      refine v_istore hC [(5, .int x26), (0, va_rf r0), (1, .int x1), (2, .int x2), (4, .int x23)] 49 dX9_beside_49 (by decide) rfl ?_
      refine v_iload hC 51 4 dX9_beside_51 rfl ?_
      refine v_iconst hC (0 : Int32) 53 dX9_beside_53 (by decide) ?_
      refine v_aload_n hC 54 1 dX9_beside_54 rfl ?_
      obtain ⟨r27, er27, h⟩ := obn h
      refine gRX9_16 hC rfl 55 er27 dX9_beside_55 ?_
      refine v_iload_n hC 58 2 dX9_beside_58 rfl ?_
      obtain ⟨x28, ex28, h⟩ := obn h
      refine v_iald hC 59 ex28 dX9_beside_59 ?_
      refine v_iconst hC (1 : Int32) 60 dX9_beside_60 (by decide) ?_
      refine v_isub hC 61 dX9_beside_61 ?_
      obtain ⟨x29, ex29, h⟩ := obn h
      refine qX9_97 hC rfl 62 ex29 (by decide) (catL (Nat.le_of_ble_eq_true rfl)) (by decide) dX9_beside_62 ?_
      obtain ⟨j90, f90, h⟩ := onm h
      have J90 : ∀ (x30 : Int32), j90 x30 = some v0 → V g w 7 (Qm g w rmX9_beside.cells rmX9_beside.slots (some (.int v0)) S) S 0 0 90 [(0, va_rf r0), (1, .int x1), (2, .int x2), (4, .int x23), (5, .int x26)] [.int x30] := by
        intro x30 h
        replace h := jb1 f90 h
        refine v_istore hC [(6, .int x30), (0, va_rf r0), (1, .int x1), (2, .int x2), (4, .int x23), (5, .int x26)] 90 dX9_beside_90 (by decide) rfl ?_
        refine v_iload hC 92 0 dX9_beside_92 rfl ?_
        refine v_if_eq hC 94 137 dX9_beside_94 (by decide) (fun c35 => ?_) (fun c35 => ?_)
        · replace h := ifp h c35
          refine v_bipush hC (-9 : Int32) 137 dX9_beside_137 (by decide) ?_
          obtain rfl := sp1 h
          exact v_iret hC 139 (by decide) (by decide) dX9_beside_139
        · replace h := ifn h c35
          refine v_aload_n hC 97 1 dX9_beside_97 rfl ?_
          refine v_aload_n hC 98 1 dX9_beside_98 rfl ?_
          refine v_iload_n hC 99 2 dX9_beside_99 rfl ?_
          refine v_iload_n hC 100 3 dX9_beside_100 rfl ?_
          refine v_bipush hC (8 : Int32) 101 dX9_beside_101 (by decide) ?_
          refine v_irem hC 103 (by decide) dX9_beside_103 ?_
          refine v_iload_n hC 104 3 dX9_beside_104 rfl ?_
          refine v_bipush hC (8 : Int32) 105 dX9_beside_105 (by decide) ?_
          refine v_idiv hC 107 (by decide) dX9_beside_107 ?_
          obtain ⟨x31, ex31, h⟩ := obn h
          refine qX9_121 hC rfl 108 ex31 (by decide) (catL (Nat.le_of_ble_eq_true rfl)) (by decide) dX9_beside_108 ?_
          refine v_aload_n hC 111 1 dX9_beside_111 rfl ?_
          refine v_iload_n hC 112 2 dX9_beside_112 rfl ?_
          refine v_iload hC 113 4 dX9_beside_113 rfl ?_
          refine v_iload hC 115 5 dX9_beside_115 rfl ?_
          obtain ⟨x32, ex32, h⟩ := obn h
          refine qX9_121 hC rfl 117 ex32 (by decide) (catL (Nat.le_of_ble_eq_true rfl)) (by decide) dX9_beside_117 ?_
          obtain ⟨x33, ex33, h⟩ := obn h
          refine qX9_159 hC rfl 120 ex33 (by decide) (catL (Nat.le_of_ble_eq_true rfl)) (by decide) dX9_beside_120 ?_
          refine v_if_eq hC 123 137 dX9_beside_123 (by decide) (fun c34 => ?_) (fun c34 => ?_)
          · replace h := ifp h c34
            refine v_bipush hC (-9 : Int32) 137 dX9_beside_137 (by decide) ?_
            obtain rfl := sp1 h
            exact v_iret hC 139 (by decide) (by decide) dX9_beside_139
          · replace h := ifn h c34
            refine v_bipush hC (8 : Int32) 126 dX9_beside_126 (by decide) ?_
            refine v_iload hC 128 5 dX9_beside_128 rfl ?_
            refine v_imul hC 130 dX9_beside_130 ?_
            refine v_iload hC 131 4 dX9_beside_131 rfl ?_
            refine v_iadd hC 133 dX9_beside_133 ?_
            refine v_goto hC 134 139 dX9_beside_134 (by decide) ?_
            obtain rfl := sp1 h
            exact v_iret hC 139 (by decide) (by decide) dX9_beside_139
      obtain ⟨j89, f89, h⟩ := onm h
      have J89 : ∀ (u9 : Unit), j89 u9 = some v0 → V g w 7 (Qm g w rmX9_beside.cells rmX9_beside.slots (some (.int v0)) S) S 0 0 89 [(0, va_rf r0), (1, .int x1), (2, .int x2), (4, .int x23), (5, .int x26)] [] := by
        intro u9 h
        replace h := jb1 f89 h
        refine v_iconst hC (0 : Int32) 89 dX9_beside_89 (by decide) ?_
        refine v_sub [(0, va_rf r0), (1, .int x1), (2, .int x2), (4, .int x23), (5, .int x26)] [0, 1, 2, 3, 4] rfl ?_
        exact J90 _ h
      refine v_if_eq hC 65 89 dX9_beside_65 (by decide) (fun c40 => ?_) (fun c40 => ?_)
      · replace h := ifp h c40
        refine v_sub [(0, va_rf r0), (1, .int x1), (2, .int x2), (4, .int x23), (5, .int x26)] [1, 2, 3, 4, 0] rfl ?_
        exact J89 _ h
      · replace h := ifn h c40
        refine v_iload hC 68 0 dX9_beside_68 rfl ?_
        refine v_iconst hC (0 : Int32) 70 dX9_beside_70 (by decide) ?_
        refine v_aload_n hC 71 1 dX9_beside_71 rfl ?_
        obtain ⟨r36, er36, h⟩ := obn h
        refine gRX9_16 hC rfl 72 er36 dX9_beside_72 ?_
        refine v_iload_n hC 75 2 dX9_beside_75 rfl ?_
        obtain ⟨x37, ex37, h⟩ := obn h
        refine v_iald hC 76 ex37 dX9_beside_76 ?_
        refine v_iconst hC (1 : Int32) 77 dX9_beside_77 (by decide) ?_
        refine v_isub hC 78 dX9_beside_78 ?_
        obtain ⟨x38, ex38, h⟩ := obn h
        refine qX9_97 hC rfl 79 ex38 (by decide) (catL (Nat.le_of_ble_eq_true rfl)) (by decide) dX9_beside_79 ?_
        refine v_if_eq hC 82 89 dX9_beside_82 (by decide) (fun c39 => ?_) (fun c39 => ?_)
        · replace h := ifp h c39
          refine v_sub [(0, va_rf r0), (1, .int x1), (2, .int x2), (4, .int x23), (5, .int x26)] [1, 2, 3, 4, 0] rfl ?_
          exact J89 _ h
        · replace h := ifn h c39
          refine v_iconst hC (1 : Int32) 85 dX9_beside_85 (by decide) ?_
          refine v_goto hC 86 90 dX9_beside_86 (by decide) ?_
          refine v_sub [(0, va_rf r0), (1, .int x1), (2, .int x2), (4, .int x23), (5, .int x26)] [1, 2, 3, 4, 0] rfl ?_
          exact J90 _ h
    refine v_icmp_ne hC 31 38 dX9_beside_31 (by decide) (fun c42 => ?_) (fun c42 => ?_)
    · replace h := ifp h c42
      refine v_iload_n hC 38 4 dX9_beside_38 rfl ?_
      refine v_iconst hC (3 : Int32) 39 dX9_beside_39 (by decide) ?_
      refine v_icmp_ne hC 40 47 dX9_beside_40 (by decide) (fun c41 => ?_) (fun c41 => ?_)
      · replace h := ifp h c41
        refine v_iconst hC (0 : Int32) 47 dX9_beside_47 (by decide) ?_
        refine v_sub [(0, va_rf r0), (1, .int x1), (2, .int x2), (4, .int x23)] [1, 2, 3, 0] rfl ?_
        exact J48 _ _ h
      · replace h := ifn h (fun q => q c41)
        refine v_iconst hC (-1 : Int32) 43 dX9_beside_43 (by decide) ?_
        refine v_goto hC 44 48 dX9_beside_44 (by decide) ?_
        refine v_sub [(0, va_rf r0), (1, .int x1), (2, .int x2), (4, .int x23)] [1, 2, 3, 0] rfl ?_
        exact J48 _ _ h
    · replace h := ifn h (fun q => q c42)
      refine v_iconst hC (1 : Int32) 34 dX9_beside_34 (by decide) ?_
      refine v_goto hC 35 48 dX9_beside_35 (by decide) ?_
      refine v_sub [(0, va_rf r0), (1, .int x1), (2, .int x2), (4, .int x23)] [1, 2, 3, 0] rfl ?_
      exact J48 _ _ h
  refine v_if_ne hC 5 12 dX9_beside_5 (by decide) (fun c44 => ?_) (fun c44 => ?_)
  · replace h := ifp h c44
    refine v_iload_n hC 12 3 dX9_beside_12 rfl ?_
    refine v_iconst hC (1 : Int32) 13 dX9_beside_13 (by decide) ?_
    refine v_icmp_ne hC 14 21 dX9_beside_14 (by decide) (fun c43 => ?_) (fun c43 => ?_)
    · replace h := ifp h c43
      refine v_iconst hC (0 : Int32) 21 dX9_beside_21 (by decide) ?_
      refine v_sub [(0, va_rf r0), (1, .int x1), (2, .int x2), (3, .int x3)] [0, 1, 2, 3] rfl ?_
      exact J22 _ _ h
    · replace h := ifn h (fun q => q c43)
      refine v_iconst hC (-1 : Int32) 17 dX9_beside_17 (by decide) ?_
      refine v_goto hC 18 22 dX9_beside_18 (by decide) ?_
      refine v_sub [(0, va_rf r0), (1, .int x1), (2, .int x2), (3, .int x3)] [0, 1, 2, 3] rfl ?_
      exact J22 _ _ h
  · replace h := ifn h (fun q => q c44)
    refine v_iconst hC (1 : Int32) 8 dX9_beside_8 (by decide) ?_
    refine v_goto hC 9 22 dX9_beside_9 (by decide) ?_
    refine v_sub [(0, va_rf r0), (1, .int x1), (2, .int x2), (3, .int x3)] [0, 1, 2, 3] rfl ?_
    exact J22 _ _ h
abbrev rmX9_bitsIn : Room := { frames := 0, cells := 0, slots := 0, locals := 0 }
theorem hdX9_bitsIn : yX9_bitsIn.cls ≠ "java/lang/invoke/MethodHandle" ∧ yX9_bitsIn.cls ≠ "java/lang/invoke/VarHandle" ∧ (parseMethodDescriptor yX9_bitsIn.desc).map (fun d => d.parameters.length) = some 1 := by decide +kernel
def lX9_bitsIn_4 (N : Nat) (S : pH) (x0 : Int32) : Nat → Int32 → Int32 → Option (Int32)
  | 0, _, _ => none
  | n + 1, x21, x22 =>
    if (9 : Int32) ≤ x22 then
    (some x21)
    else
    nm (x21 + ((x0 >>> (x22 &&& 31)) &&& (1 : Int32))) fun x23 =>
    nm (x22 + (1 : Int32)) fun x24 =>
    lX9_bitsIn_4 N S x0 n x23 x24
def fX9_bitsIn (N : Nat) (S : pH) (x0 : Int32) : Option (Int32) :=
  (lX9_bitsIn_4 N S x0 N (0 : Int32) (0 : Int32)).bind fun x26 =>
  some x26
set_option maxHeartbeats 1000000 in
set_option maxRecDepth 20000 in
theorem kX9_bitsIn_4 {g : VG} {w : VW} {N : Nat} {S : pH} {x0 : Int32} {v0 : Int32} (hC : Cx g yX9_bitsIn cX9_bitsIn 3 (some .int) rmX9_bitsIn w) : ∀ (n : Nat) (x21 : Int32) (x22 : Int32) (z : (Int32)), lX9_bitsIn_4 N S x0 n x21 x22 = some z → (∀ (e0 : Int32), z = e0 → V g w 3 (Qm g w rmX9_bitsIn.cells rmX9_bitsIn.slots (some (.int v0)) S) S 0 0 24 [(1, .int e0)] []) → V g w 3 (Qm g w rmX9_bitsIn.cells rmX9_bitsIn.slots (some (.int v0)) S) S 0 0 4 [(0, .int x0), (1, .int x21), (2, .int x22)] [] := by
  intro n
  induction n with
  | zero => intro x21 x22 z h; rw [lX9_bitsIn_4] at h; cases h
  | succ n ih =>
    intro x21 x22 z h K
    rw [lX9_bitsIn_4] at h
    refine v_iload_n hC 4 2 dX9_bitsIn_4 rfl ?_
    refine v_bipush hC (9 : Int32) 5 dX9_bitsIn_5 (by decide) ?_
    refine v_icmp_ge hC 7 24 dX9_bitsIn_7 (by decide) (fun c25 => ?_) (fun c25 => ?_)
    · replace h := ifp h c25
      refine v_sub [(1, .int x21)] [1] rfl ?_
      exact K _ (sp1 h)
    · replace h := ifn h c25
      refine v_iload_n hC 10 1 dX9_bitsIn_10 rfl ?_
      refine v_iload_n hC 11 0 dX9_bitsIn_11 rfl ?_
      refine v_iload_n hC 12 2 dX9_bitsIn_12 rfl ?_
      refine v_ishr hC 13 dX9_bitsIn_13 ?_
      refine v_iconst hC (1 : Int32) 14 dX9_bitsIn_14 (by decide) ?_
      refine v_iand hC 15 dX9_bitsIn_15 ?_
      refine v_iadd hC 16 dX9_bitsIn_16 ?_
      obtain ⟨x23, ex23, h⟩ := onm h
      refine v_topi x23 ex23 ?_
      refine v_istore_n hC [(1, .int x23), (0, .int x0), (2, .int x22)] 17 dX9_bitsIn_17 (by decide) rfl ?_
      obtain ⟨x24, ex24, h⟩ := onm h
      refine v_iinc hC x24 [(2, .int x24), (1, .int x23), (0, .int x0)] 18 2 dX9_bitsIn_18 rfl (by rw [ex24]; rfl) (by decide) rfl ?_
      refine v_goto hC 21 4 dX9_bitsIn_21 (by decide) ?_
      refine v_sub [(0, .int x0), (1, .int x23), (2, .int x24)] [2, 1, 0] rfl ?_
      exact ih _ _ _ h K
set_option maxHeartbeats 1000000 in
set_option maxRecDepth 20000 in
theorem tX9_bitsIn {l : Launch} {w : VW} {N : Nat} {S : pH} {x0 : Int32} {v0 : Int32} (h : fX9_bitsIn N S x0 = some v0) : CT l w yX9_bitsIn cX9_bitsIn 3 (some .int) rmX9_bitsIn [.int x0] S (some (.int v0)) S := by
  refine v_entry [(0, .int x0)] (by decide) (by simp [lg_sl, cat_rf, cat_i, cat_j]) (by simp [lv_args, cat_rf, cat_i, cat_j]) (fun g _ hC => ?_)
  unfold fX9_bitsIn at h
  refine v_iconst hC (0 : Int32) 0 dX9_bitsIn_0 (by decide) ?_
  refine v_istore_n hC [(1, .int (0 : Int32)), (0, .int x0)] 1 dX9_bitsIn_1 (by decide) rfl ?_
  refine v_iconst hC (0 : Int32) 2 dX9_bitsIn_2 (by decide) ?_
  refine v_istore_n hC [(2, .int (0 : Int32)), (1, .int (0 : Int32)), (0, .int x0)] 3 dX9_bitsIn_3 (by decide) rfl ?_
  obtain ⟨x26, E4, h⟩ := obn h
  refine v_sub [(0, .int x0), (1, .int (0 : Int32)), (2, .int (0 : Int32))] [2, 1, 0] rfl ?_
  refine kX9_bitsIn_4 hC _ _ _ _ E4 (fun _ hz9 => ?_)
  cases hz9
  refine v_iload_n hC 24 0 dX9_bitsIn_24 rfl ?_
  obtain rfl := sp1 h
  exact v_iret hC 25 (by decide) (by decide) dX9_bitsIn_25
abbrev rmX9_isGlass : Room := { frames := 1, cells := 0, slots := 0, locals := 22 }
theorem hdX9_isGlass : yX9_isGlass.cls ≠ "java/lang/invoke/MethodHandle" ∧ yX9_isGlass.cls ≠ "java/lang/invoke/VarHandle" ∧ (parseMethodDescriptor yX9_isGlass.desc).map (fun d => d.parameters.length) = some 1 := by decide +kernel
def fX9_isGlass (N : Nat) (S : pH) (x0 : Int32) : Option (Int32) :=
  (fX9_in N S x0 (1 : Int32) (8 : Int32)).bind fun x21 =>
  if x21 = 0 ∨ x21 = 1 then some x21 else none
set_option maxHeartbeats 1000000 in
set_option maxRecDepth 20000 in
theorem tX9_isGlass {l : Launch} {w : VW} {N : Nat} {S : pH} {x0 : Int32} {v0 : Int32} (h : fX9_isGlass N S x0 = some v0) : CT l w yX9_isGlass cX9_isGlass 1 (some .boolean) rmX9_isGlass [.int x0] S (some (.int v0)) S := by
  refine v_entry [(0, .int x0)] (by decide) (by simp [lg_sl, cat_rf, cat_i, cat_j]) (by simp [lv_args, cat_rf, cat_i, cat_j]) (fun g _ hC => ?_)
  unfold fX9_isGlass at h
  refine v_iload_n hC 0 0 dX9_isGlass_0 rfl ?_
  refine v_iconst hC (1 : Int32) 1 dX9_isGlass_1 (by decide) ?_
  refine v_bipush hC (8 : Int32) 2 dX9_isGlass_2 (by decide) ?_
  obtain ⟨x21, ex21, h⟩ := obn h
  refine qX9_97 hC rfl 4 ex21 (by decide) (catL (Nat.le_of_ble_eq_true rfl)) (by decide) dX9_isGlass_4 ?_
  obtain ⟨hz9, h⟩ := if0 h
  obtain rfl := sp1 h
  exact v_zret hC 7 (by decide) (by decide) hz9 dX9_isGlass_7
set_option maxRecDepth 20000 in
theorem qX9_108 {g : VG} {w : VW} {nL : Nat} {Q : State → Prop} {S : pH} {kc ks : Nat} {lv : List (Nat × Value)} {rest : List Value} {y : MethodName} {cc : ByteArray} {rt : Option FieldType} {rm : Room} (hC : Cx g y cc nL rt rm w) (hy : y.cls = RX9) (pc : Nat) {N : Nat} {x0 : Int32} {v0 : Int32} (h : fX9_isGlass N S x0 = some v0) (hR : rmX9_isGlass.frames + 1 ≤ rm.frames ∧ 8 + (1 + 11) + rmX9_isGlass.locals ≤ rm.locals) (hst : (rest.map fun v => v.category).sum ≤ 8) (hf : kc + 0 ≤ rm.cells ∧ ks + 0 ≤ rm.slots) (d : decode cc pc = .ok (.invokestatic 108, 3)) (K : V g w nL Q S kc ks (pc + 3) lv (.int v0 :: rest)) : V g w nL Q S kc ks pc lv (.int x0 :: rest) := by
  exact v_callS (As := [.int x0]) (rest := rest) hC pc (tX9_isGlass (l := g.2.1) (w := w) h) wG576 (by rw [hy]; exact wG575) wG577 wG542 hdX9_isGlass rfl hR hst hf d K
abbrev rmX9_book : Room := { frames := 2, cells := 0, slots := 0, locals := 42 }
theorem hdX9_book : yX9_book.cls ≠ "java/lang/invoke/MethodHandle" ∧ yX9_book.cls ≠ "java/lang/invoke/VarHandle" ∧ (parseMethodDescriptor yX9_book.desc).map (fun d => d.parameters.length) = some 2 := by decide +kernel
def lX9_book_77 (N : Nat) (S : pH) (r0 : Option Nat) (x1 : Int32) (x5 : Int32) (x6 : Int32) : Nat → Int64 → Int32 → Option (Int64)
  | 0, _, _ => none
  | n + 1, j30, x31 =>
    (gfR S 9 3 r0).bind fun r32 =>
    (ldI S 0 r32 x5).bind fun x33 =>
    if x33 ≤ x31 then
    (some j30)
    else
    (fX9_at N S r0 x5 x6 x31).bind fun x34 =>
    nm (fun (j35 : Int64) (j36 : Int64) =>
    nm (j35 + j36) fun j37 =>
    nm (x31 + (1 : Int32)) fun x38 =>
    lX9_book_77 N S r0 x1 x5 x6 n j37 x38) fun j129 =>
    if ¬ x34 = x1 then
    (j129 j30 (0 : Int64))
    else
    (gfR S 9 4 r0).bind fun r39 =>
    (ldI S 0 r39 x5).bind fun x40 =>
    (gfR S 9 5 r0).bind fun r41 =>
    (ldI S 0 r41 x5).bind fun x42 =>
    if x42 = 0 then none else
    j129 j30 ((x40.toInt64) * (((4096 : Int32) / x42).toInt64))
def lX9_book_62 (N : Nat) (S : pH) (r0 : Option Nat) (x1 : Int32) (x5 : Int32) : Nat → Int64 → Int32 → Option (Int64)
  | 0, _, _ => none
  | n + 1, j26, x27 =>
    (gfR S 9 3 r0).bind fun r28 =>
    (ldI S 0 r28 x5).bind fun x29 =>
    if x29 ≤ x27 then
    (some j26)
    else
    (lX9_book_77 N S r0 x1 x5 x27 N j26 (0 : Int32)).bind fun j46 =>
    nm (x27 + (1 : Int32)) fun x47 =>
    lX9_book_62 N S r0 x1 x5 n j46 x47
def lX9_book_50 (N : Nat) (S : pH) (r0 : Option Nat) (x1 : Int32) : Nat → Int64 → Int32 → Option (Int64)
  | 0, _, _ => none
  | n + 1, j23, x24 =>
    (gfI S 9 2 r0).bind fun x25 =>
    if x25 ≤ x24 then
    (some j23)
    else
    (lX9_book_62 N S r0 x1 x24 N j23 (0 : Int32)).bind fun j49 =>
    nm (x24 + (1 : Int32)) fun x50 =>
    lX9_book_50 N S r0 x1 n j49 x50
def fX9_book (N : Nat) (S : pH) (r0 : Option Nat) (x1 : Int32) (x2 : Int32) : Option (Int64) :=
  chk S 9 r0 <|
  (fX9_isGlass N S x1).bind fun x21 =>
  if x21 = 0 then
  (some (-1 : Int64))
  else
  (fX9_in N S x2 (0 : Int32) (2 : Int32)).bind fun x22 =>
  if ¬ x22 = 0 then
  (if x2 = (1 : Int32) then
  ((lX9_book_50 N S r0 x1 N (0 : Int64) (0 : Int32)).bind fun j52 =>
  some j52)
  else
  if ¬ x2 = 0 then
  ((gfR S 9 14 r0).bind fun r53 =>
  (ldJ S r53 x1).bind fun j54 =>
  some j54)
  else
  (gfR S 9 13 r0).bind fun r55 =>
  (ldJ S r55 x1).bind fun j56 =>
  some j56)
  else
  some (-1 : Int64)
theorem oX9_book {N : Nat} {S : pH} {r0 : Option Nat} {x1 : Int32} {x2 : Int32} {z : Int64} (h : fX9_book N S r0 x1 x2 = some z) : ∃ fs, obj S 9 r0 = some fs := by
  unfold fX9_book at h
  exact (chk_spec h).1
set_option maxHeartbeats 1000000 in
set_option maxRecDepth 20000 in
theorem kX9_book_77 {g : VG} {w : VW} {N : Nat} {S : pH} {r0 : Option Nat} {x1 : Int32} {x5 : Int32} {x6 : Int32} {v0 : Int64} (hC : Cx g yX9_book cX9_book 8 (some .long) rmX9_book w) : ∀ (n : Nat) (j30 : Int64) (x31 : Int32) (z : (Int64)), lX9_book_77 N S r0 x1 x5 x6 n j30 x31 = some z → (∀ (e0 : Int64), z = e0 → V g w 8 (Qm g w rmX9_book.cells rmX9_book.slots (some (.long v0)) S) S 0 0 137 [(0, va_rf r0), (1, .int x1), (3, .long e0), (5, .int x5), (6, .int x6)] []) → V g w 8 (Qm g w rmX9_book.cells rmX9_book.slots (some (.long v0)) S) S 0 0 77 [(0, va_rf r0), (1, .int x1), (3, .long j30), (5, .int x5), (6, .int x6), (7, .int x31)] [] := by
  intro n
  induction n with
  | zero => intro j30 x31 z h; rw [lX9_book_77] at h; cases h
  | succ n ih =>
    intro j30 x31 z h K
    rw [lX9_book_77] at h
    refine v_iload hC 77 5 dX9_book_77 rfl ?_
    refine v_aload_n hC 79 0 dX9_book_79 rfl ?_
    obtain ⟨r32, er32, h⟩ := obn h
    refine gRX9_16 hC rfl 80 er32 dX9_book_80 ?_
    refine v_iload hC 83 3 dX9_book_83 rfl ?_
    obtain ⟨x33, ex33, h⟩ := obn h
    refine v_iald hC 85 ex33 dX9_book_85 ?_
    refine v_icmp_ge hC 86 137 dX9_book_86 (by decide) (fun c45 => ?_) (fun c45 => ?_)
    · replace h := ifp h c45
      refine v_sub [(0, va_rf r0), (1, .int x1), (3, .long j30), (5, .int x5), (6, .int x6)] [0, 1, 2, 3, 4] rfl ?_
      exact K _ (sp1 h)
    · replace h := ifn h c45
      refine v_lload_n hC 89 2 dX9_book_89 rfl ?_
      refine v_aload_n hC 90 0 dX9_book_90 rfl ?_
      refine v_iload hC 91 3 dX9_book_91 rfl ?_
      refine v_iload hC 93 4 dX9_book_93 rfl ?_
      refine v_iload hC 95 5 dX9_book_95 rfl ?_
      obtain ⟨x34, ex34, h⟩ := obn h
      refine qX9_121 hC rfl 97 ex34 (by decide) (catL (Nat.le_of_ble_eq_true rfl)) (by decide) dX9_book_97 ?_
      refine v_iload_n hC 100 1 dX9_book_100 rfl ?_
      obtain ⟨j129, f129, h⟩ := onm h
      have J129 : ∀ (j35 : Int64) (j36 : Int64), j129 j35 j36 = some z → V g w 8 (Qm g w rmX9_book.cells rmX9_book.slots (some (.long v0)) S) S 0 0 129 [(0, va_rf r0), (1, .int x1), (5, .int x5), (6, .int x6), (7, .int x31)] [.long j36, .long j35] := by
        intro j35 j36 h
        replace h := jb2 f129 h
        refine v_ladd hC 129 dX9_book_129 ?_
        obtain ⟨j37, ej37, h⟩ := onm h
        refine v_topl j37 ej37 ?_
        refine v_lstore_n hC [(3, .long j37), (0, va_rf r0), (1, .int x1), (5, .int x5), (6, .int x6), (7, .int x31)] 130 dX9_book_130 (by decide) rfl ?_
        obtain ⟨x38, ex38, h⟩ := onm h
        refine v_iinc hC x38 [(7, .int x38), (3, .long j37), (0, va_rf r0), (1, .int x1), (5, .int x5), (6, .int x6)] 131 5 dX9_book_131 rfl (by rw [ex38]; rfl) (by decide) rfl ?_
        refine v_goto hC 134 77 dX9_book_134 (by decide) ?_
        refine v_sub [(0, va_rf r0), (1, .int x1), (3, .long j37), (5, .int x5), (6, .int x6), (7, .int x38)] [2, 3, 1, 4, 5, 0] rfl ?_
        exact ih _ _ _ h K
      refine v_icmp_ne hC 101 128 dX9_book_101 (by decide) (fun c44 => ?_) (fun c44 => ?_)
      · replace h := ifp h c44
        refine v_lconst hC (0 : Int64) 128 dX9_book_128 (by decide) ?_
        refine v_sub [(0, va_rf r0), (1, .int x1), (5, .int x5), (6, .int x6), (7, .int x31)] [0, 1, 3, 4, 5] rfl ?_
        exact J129 _ _ h
      · replace h := ifn h (fun q => q c44)
        refine v_aload_n hC 104 0 dX9_book_104 rfl ?_
        obtain ⟨r39, er39, h⟩ := obn h
        refine gRX9_19 hC rfl 105 er39 dX9_book_105 ?_
        refine v_iload hC 108 3 dX9_book_108 rfl ?_
        obtain ⟨x40, ex40, h⟩ := obn h
        refine v_iald hC 110 ex40 dX9_book_110 ?_
        refine v_i2l hC 111 dX9_book_111 ?_
        refine v_sipush hC (4096 : Int32) 112 dX9_book_112 (by decide) ?_
        refine v_aload_n hC 115 0 dX9_book_115 rfl ?_
        obtain ⟨r41, er41, h⟩ := obn h
        refine gRX9_22 hC rfl 116 er41 dX9_book_116 ?_
        refine v_iload hC 119 3 dX9_book_119 rfl ?_
        obtain ⟨x42, ex42, h⟩ := obn h
        refine v_iald hC 121 ex42 dX9_book_121 ?_
        have c43 : ¬ x42 = 0 := fun q => absurd (ifp h q) (by simp)
        replace h := ifn h c43
        refine v_idiv hC 122 c43 dX9_book_122 ?_
        refine v_i2l hC 123 dX9_book_123 ?_
        refine v_lmul hC 124 dX9_book_124 ?_
        refine v_goto hC 125 129 dX9_book_125 (by decide) ?_
        refine v_sub [(0, va_rf r0), (1, .int x1), (5, .int x5), (6, .int x6), (7, .int x31)] [0, 1, 3, 4, 5] rfl ?_
        exact J129 _ _ h
set_option maxHeartbeats 1000000 in
set_option maxRecDepth 20000 in
theorem kX9_book_62 {g : VG} {w : VW} {N : Nat} {S : pH} {r0 : Option Nat} {x1 : Int32} {x5 : Int32} {v0 : Int64} (hC : Cx g yX9_book cX9_book 8 (some .long) rmX9_book w) : ∀ (n : Nat) (j26 : Int64) (x27 : Int32) (z : (Int64)), lX9_book_62 N S r0 x1 x5 n j26 x27 = some z → (∀ (e0 : Int64), z = e0 → V g w 8 (Qm g w rmX9_book.cells rmX9_book.slots (some (.long v0)) S) S 0 0 143 [(0, va_rf r0), (1, .int x1), (3, .long e0), (5, .int x5)] []) → V g w 8 (Qm g w rmX9_book.cells rmX9_book.slots (some (.long v0)) S) S 0 0 62 [(0, va_rf r0), (1, .int x1), (3, .long j26), (5, .int x5), (6, .int x27)] [] := by
  intro n
  induction n with
  | zero => intro j26 x27 z h; rw [lX9_book_62] at h; cases h
  | succ n ih =>
    intro j26 x27 z h K
    rw [lX9_book_62] at h
    refine v_iload hC 62 4 dX9_book_62 rfl ?_
    refine v_aload_n hC 64 0 dX9_book_64 rfl ?_
    obtain ⟨r28, er28, h⟩ := obn h
    refine gRX9_16 hC rfl 65 er28 dX9_book_65 ?_
    refine v_iload hC 68 3 dX9_book_68 rfl ?_
    obtain ⟨x29, ex29, h⟩ := obn h
    refine v_iald hC 70 ex29 dX9_book_70 ?_
    refine v_icmp_ge hC 71 143 dX9_book_71 (by decide) (fun c48 => ?_) (fun c48 => ?_)
    · replace h := ifp h c48
      refine v_sub [(0, va_rf r0), (1, .int x1), (3, .long j26), (5, .int x5)] [0, 1, 2, 3] rfl ?_
      exact K _ (sp1 h)
    · replace h := ifn h c48
      refine v_iconst hC (0 : Int32) 74 dX9_book_74 (by decide) ?_
      refine v_istore hC [(7, .int (0 : Int32)), (0, va_rf r0), (1, .int x1), (3, .long j26), (5, .int x5), (6, .int x27)] 75 dX9_book_75 (by decide) rfl ?_
      obtain ⟨j46, E77, h⟩ := obn h
      refine v_sub [(0, va_rf r0), (1, .int x1), (3, .long j26), (5, .int x5), (6, .int x27), (7, .int (0 : Int32))] [1, 2, 3, 4, 5, 0] rfl ?_
      refine kX9_book_77 hC _ _ _ _ E77 (fun _ hz9 => ?_)
      cases hz9
      obtain ⟨x47, ex47, h⟩ := onm h
      refine v_iinc hC x47 [(6, .int x47), (0, va_rf r0), (1, .int x1), (3, .long j46), (5, .int x5)] 137 4 dX9_book_137 rfl (by rw [ex47]; rfl) (by decide) rfl ?_
      refine v_goto hC 140 62 dX9_book_140 (by decide) ?_
      refine v_sub [(0, va_rf r0), (1, .int x1), (3, .long j46), (5, .int x5), (6, .int x47)] [1, 2, 3, 4, 0] rfl ?_
      exact ih _ _ _ h K
set_option maxHeartbeats 1000000 in
set_option maxRecDepth 20000 in
theorem kX9_book_50 {g : VG} {w : VW} {N : Nat} {S : pH} {r0 : Option Nat} {x1 : Int32} {v0 : Int64} (hC : Cx g yX9_book cX9_book 8 (some .long) rmX9_book w) : ∀ (n : Nat) (j23 : Int64) (x24 : Int32) (z : (Int64)), lX9_book_50 N S r0 x1 n j23 x24 = some z → (∀ (e0 : Int64), z = e0 → V g w 8 (Qm g w rmX9_book.cells rmX9_book.slots (some (.long v0)) S) S 0 0 149 [(3, .long e0)] []) → V g w 8 (Qm g w rmX9_book.cells rmX9_book.slots (some (.long v0)) S) S 0 0 50 [(0, va_rf r0), (1, .int x1), (3, .long j23), (5, .int x24)] [] := by
  intro n
  induction n with
  | zero => intro j23 x24 z h; rw [lX9_book_50] at h; cases h
  | succ n ih =>
    intro j23 x24 z h K
    rw [lX9_book_50] at h
    refine v_iload hC 50 3 dX9_book_50 rfl ?_
    refine v_aload_n hC 52 0 dX9_book_52 rfl ?_
    obtain ⟨x25, ex25, h⟩ := obn h
    refine gRX9_101 hC rfl 53 ex25 dX9_book_53 ?_
    refine v_icmp_ge hC 56 149 dX9_book_56 (by decide) (fun c51 => ?_) (fun c51 => ?_)
    · replace h := ifp h c51
      refine v_sub [(3, .long j23)] [2] rfl ?_
      exact K _ (sp1 h)
    · replace h := ifn h c51
      refine v_iconst hC (0 : Int32) 59 dX9_book_59 (by decide) ?_
      refine v_istore hC [(6, .int (0 : Int32)), (0, va_rf r0), (1, .int x1), (3, .long j23), (5, .int x24)] 60 dX9_book_60 (by decide) rfl ?_
      obtain ⟨j49, E62, h⟩ := obn h
      refine v_sub [(0, va_rf r0), (1, .int x1), (3, .long j23), (5, .int x24), (6, .int (0 : Int32))] [1, 2, 3, 4, 0] rfl ?_
      refine kX9_book_62 hC _ _ _ _ E62 (fun _ hz9 => ?_)
      cases hz9
      obtain ⟨x50, ex50, h⟩ := onm h
      refine v_iinc hC x50 [(5, .int x50), (0, va_rf r0), (1, .int x1), (3, .long j49)] 143 3 dX9_book_143 rfl (by rw [ex50]; rfl) (by decide) rfl ?_
      refine v_goto hC 146 50 dX9_book_146 (by decide) ?_
      refine v_sub [(0, va_rf r0), (1, .int x1), (3, .long j49), (5, .int x50)] [1, 2, 3, 0] rfl ?_
      exact ih _ _ _ h K
set_option maxHeartbeats 1000000 in
set_option maxRecDepth 20000 in
theorem tX9_book {l : Launch} {w : VW} {N : Nat} {S : pH} {r0 : Option Nat} {x1 : Int32} {x2 : Int32} {v0 : Int64} (h : fX9_book N S r0 x1 x2 = some v0) : CT l w yX9_book cX9_book 8 (some .long) rmX9_book [va_rf r0, .int x1, .int x2] S (some (.long v0)) S := by
  refine v_entry [(0, va_rf r0), (1, .int x1), (2, .int x2)] (by decide) (by simp [lg_sl, cat_rf, cat_i, cat_j]) (by simp [lv_args, cat_rf, cat_i, cat_j]) (fun g _ hC => ?_)
  unfold fX9_book at h
  obtain ⟨hO, h⟩ := chk_spec h
  refine v_iload_n hC 0 1 dX9_book_0 rfl ?_
  obtain ⟨x21, ex21, h⟩ := obn h
  refine qX9_108 hC rfl 1 ex21 (by decide) (catL (Nat.le_of_ble_eq_true rfl)) (by decide) dX9_book_1 ?_
  refine v_if_eq hC 4 16 dX9_book_4 (by decide) (fun c60 => ?_) (fun c60 => ?_)
  · replace h := ifp h c60
    refine v_ldc2 hC (v := (-1 : Int64)) 16 wG145 dX9_book_16 ?_
    obtain rfl := sp1 h
    exact v_lret hC 19 (by decide) (by decide) dX9_book_19
  · replace h := ifn h c60
    refine v_iload_n hC 7 2 dX9_book_7 rfl ?_
    refine v_iconst hC (0 : Int32) 8 dX9_book_8 (by decide) ?_
    refine v_iconst hC (2 : Int32) 9 dX9_book_9 (by decide) ?_
    obtain ⟨x22, ex22, h⟩ := obn h
    refine qX9_97 hC rfl 10 ex22 (by decide) (catL (Nat.le_of_ble_eq_true rfl)) (by decide) dX9_book_10 ?_
    refine v_if_ne hC 13 20 dX9_book_13 (by decide) (fun c59 => ?_) (fun c59 => ?_)
    · replace h := ifp h c59
      refine v_iload_n hC 20 2 dX9_book_20 rfl ?_
      refine v_iconst hC (1 : Int32) 21 dX9_book_21 (by decide) ?_
      refine v_icmp_eq hC 22 45 dX9_book_22 (by decide) (fun c58 => ?_) (fun c58 => ?_)
      · replace h := ifp h c58
        refine v_lconst hC (0 : Int64) 45 dX9_book_45 (by decide) ?_
        refine v_lstore_n hC [(3, .long (0 : Int64)), (0, va_rf r0), (1, .int x1), (2, .int x2)] 46 dX9_book_46 (by decide) rfl ?_
        refine v_iconst hC (0 : Int32) 47 dX9_book_47 (by decide) ?_
        refine v_istore hC [(5, .int (0 : Int32)), (3, .long (0 : Int64)), (0, va_rf r0), (1, .int x1), (2, .int x2)] 48 dX9_book_48 (by decide) rfl ?_
        obtain ⟨j52, E50, h⟩ := obn h
        refine v_sub [(0, va_rf r0), (1, .int x1), (3, .long (0 : Int64)), (5, .int (0 : Int32))] [2, 3, 1, 0] rfl ?_
        refine kX9_book_50 hC _ _ _ _ E50 (fun _ hz9 => ?_)
        cases hz9
        refine v_lload_n hC 149 0 dX9_book_149 rfl ?_
        obtain rfl := sp1 h
        exact v_lret hC 150 (by decide) (by decide) dX9_book_150
      · replace h := ifn h c58
        refine v_iload_n hC 25 2 dX9_book_25 rfl ?_
        refine v_if_ne hC 26 38 dX9_book_26 (by decide) (fun c57 => ?_) (fun c57 => ?_)
        · replace h := ifp h c57
          refine v_aload_n hC 38 0 dX9_book_38 rfl ?_
          obtain ⟨r53, er53, h⟩ := obn h
          refine gRX9_51 hC rfl 39 er53 dX9_book_39 ?_
          refine v_iload_n hC 42 1 dX9_book_42 rfl ?_
          obtain ⟨j54, ej54, h⟩ := obn h
          refine v_lald hC 43 ej54 dX9_book_43 ?_
          obtain rfl := sp1 h
          exact v_lret hC 44 (by decide) (by decide) dX9_book_44
        · replace h := ifn h (fun q => q c57)
          refine v_aload_n hC 29 0 dX9_book_29 rfl ?_
          obtain ⟨r55, er55, h⟩ := obn h
          refine gRX9_47 hC rfl 30 er55 dX9_book_30 ?_
          refine v_iload_n hC 33 1 dX9_book_33 rfl ?_
          obtain ⟨j56, ej56, h⟩ := obn h
          refine v_lald hC 34 ej56 dX9_book_34 ?_
          refine v_goto hC 35 44 dX9_book_35 (by decide) ?_
          obtain rfl := sp1 h
          exact v_lret hC 44 (by decide) (by decide) dX9_book_44
    · replace h := ifn h (fun q => q c59)
      refine v_ldc2 hC (v := (-1 : Int64)) 16 wG145 dX9_book_16 ?_
      obtain rfl := sp1 h
      exact v_lret hC 19 (by decide) (by decide) dX9_book_19
abbrev rmX9_isSlice : Room := { frames := 0, cells := 0, slots := 0, locals := 0 }
theorem hdX9_isSlice : yX9_isSlice.cls ≠ "java/lang/invoke/MethodHandle" ∧ yX9_isSlice.cls ≠ "java/lang/invoke/VarHandle" ∧ (parseMethodDescriptor yX9_isSlice.desc).map (fun d => d.parameters.length) = some 2 := by decide +kernel
def fX9_isSlice (N : Nat) (S : pH) (r0 : Option Nat) (x1 : Int32) (x2 : Int32) : Option (Int32) :=
  chk S 9 r0 <|
  (gfI S 9 2 r0).bind fun x21 =>
  if ((4 : Int32) * x21) ≤ x1 then
  (some (0 : Int32))
  else
  (gfR S 9 4 r0).bind fun r22 =>
  (ldI S 0 r22 (x1 / (4 : Int32))).bind fun x23 =>
  if x23 ≤ 0 then
  (some (0 : Int32))
  else
  (gfR S 9 3 r0).bind fun r24 =>
  (ldI S 0 r24 (x1 / (4 : Int32))).bind fun x25 =>
  if ¬ x25 = x2 then
  (some (0 : Int32))
  else
  some (1 : Int32)
theorem oX9_isSlice {N : Nat} {S : pH} {r0 : Option Nat} {x1 : Int32} {x2 : Int32} {z : Int32} (h : fX9_isSlice N S r0 x1 x2 = some z) : ∃ fs, obj S 9 r0 = some fs := by
  unfold fX9_isSlice at h
  exact (chk_spec h).1
set_option maxHeartbeats 1000000 in
set_option maxRecDepth 20000 in
theorem tX9_isSlice {l : Launch} {w : VW} {N : Nat} {S : pH} {r0 : Option Nat} {x1 : Int32} {x2 : Int32} {v0 : Int32} (h : fX9_isSlice N S r0 x1 x2 = some v0) : CT l w yX9_isSlice cX9_isSlice 3 (some .boolean) rmX9_isSlice [va_rf r0, .int x1, .int x2] S (some (.int v0)) S := by
  refine v_entry [(0, va_rf r0), (1, .int x1), (2, .int x2)] (by decide) (by simp [lg_sl, cat_rf, cat_i, cat_j]) (by simp [lv_args, cat_rf, cat_i, cat_j]) (fun g _ hC => ?_)
  unfold fX9_isSlice at h
  obtain ⟨hO, h⟩ := chk_spec h
  refine v_iload_n hC 0 1 dX9_isSlice_0 rfl ?_
  refine v_iconst hC (4 : Int32) 1 dX9_isSlice_1 (by decide) ?_
  refine v_aload_n hC 2 0 dX9_isSlice_2 rfl ?_
  obtain ⟨x21, ex21, h⟩ := obn h
  refine gRX9_101 hC rfl 3 ex21 dX9_isSlice_3 ?_
  refine v_imul hC 6 dX9_isSlice_6 ?_
  refine v_icmp_ge hC 7 37 dX9_isSlice_7 (by decide) (fun c28 => ?_) (fun c28 => ?_)
  · replace h := ifp h c28
    refine v_iconst hC (0 : Int32) 37 dX9_isSlice_37 (by decide) ?_
    obtain rfl := sp1 h
    exact v_zret hC 38 (by decide) (by decide) (by decide) dX9_isSlice_38
  · replace h := ifn h c28
    refine v_aload_n hC 10 0 dX9_isSlice_10 rfl ?_
    obtain ⟨r22, er22, h⟩ := obn h
    refine gRX9_19 hC rfl 11 er22 dX9_isSlice_11 ?_
    refine v_iload_n hC 14 1 dX9_isSlice_14 rfl ?_
    refine v_iconst hC (4 : Int32) 15 dX9_isSlice_15 (by decide) ?_
    refine v_idiv hC 16 (by decide) dX9_isSlice_16 ?_
    obtain ⟨x23, ex23, h⟩ := obn h
    refine v_iald hC 17 ex23 dX9_isSlice_17 ?_
    refine v_if_le hC 18 37 dX9_isSlice_18 (by decide) (fun c27 => ?_) (fun c27 => ?_)
    · replace h := ifp h c27
      refine v_iconst hC (0 : Int32) 37 dX9_isSlice_37 (by decide) ?_
      obtain rfl := sp1 h
      exact v_zret hC 38 (by decide) (by decide) (by decide) dX9_isSlice_38
    · replace h := ifn h c27
      refine v_aload_n hC 21 0 dX9_isSlice_21 rfl ?_
      obtain ⟨r24, er24, h⟩ := obn h
      refine gRX9_16 hC rfl 22 er24 dX9_isSlice_22 ?_
      refine v_iload_n hC 25 1 dX9_isSlice_25 rfl ?_
      refine v_iconst hC (4 : Int32) 26 dX9_isSlice_26 (by decide) ?_
      refine v_idiv hC 27 (by decide) dX9_isSlice_27 ?_
      obtain ⟨x25, ex25, h⟩ := obn h
      refine v_iald hC 28 ex25 dX9_isSlice_28 ?_
      refine v_iload_n hC 29 2 dX9_isSlice_29 rfl ?_
      refine v_icmp_ne hC 30 37 dX9_isSlice_30 (by decide) (fun c26 => ?_) (fun c26 => ?_)
      · replace h := ifp h c26
        refine v_iconst hC (0 : Int32) 37 dX9_isSlice_37 (by decide) ?_
        obtain rfl := sp1 h
        exact v_zret hC 38 (by decide) (by decide) (by decide) dX9_isSlice_38
      · replace h := ifn h (fun q => q c26)
        refine v_iconst hC (1 : Int32) 33 dX9_isSlice_33 (by decide) ?_
        refine v_goto hC 34 38 dX9_isSlice_34 (by decide) ?_
        obtain rfl := sp1 h
        exact v_zret hC 38 (by decide) (by decide) (by decide) dX9_isSlice_38
abbrev rmX9_shown : Room := { frames := 1, cells := 0, slots := 0, locals := 23 }
theorem hdX9_shown : yX9_shown.cls ≠ "java/lang/invoke/MethodHandle" ∧ yX9_shown.cls ≠ "java/lang/invoke/VarHandle" ∧ (parseMethodDescriptor yX9_shown.desc).map (fun d => d.parameters.length) = some 6 := by decide +kernel
def lX9_shown_10 (N : Nat) (S : pH) (r0 : Option Nat) (x1 : Int32) (x2 : Int32) (x5 : Int32) (x6 : Int32) : Nat → Int32 → Int32 → Int32 → Option (Int32 × Int32)
  | 0, _, _, _ => none
  | n + 1, x21, x22, x23 =>
    if (x5 &&& (3 : Int32)) ≤ x23 then
    (some (x21, x22))
    else
    nm ((x2 - (1 : Int32)) - x21) fun x24 =>
    nm (x23 + (1 : Int32)) fun x25 =>
    lX9_shown_10 N S r0 x1 x2 x5 x6 n x22 x24 x25
def fX9_shown (N : Nat) (S : pH) (r0 : Option Nat) (x1 : Int32) (x2 : Int32) (x3 : Int32) (x4 : Int32) (x5 : Int32) (x6 : Int32) : Option (Int32) :=
  chk S 9 r0 <|
  b2 (lX9_shown_10 N S r0 x1 x2 x5 x6 N x3 x4 (0 : Int32)) fun x27 x28 =>
  nm (fun (r29 : Option Nat) (x30 : Int32) (x31 : Int32) =>
  (fX9_at N S r29 x30 x31 x28).bind fun x32 =>
  some x32) fun j59 =>
  if x6 = 0 then
  (j59 r0 x1 x27)
  else
  j59 r0 x1 ((x2 - (1 : Int32)) - x27)
theorem oX9_shown {N : Nat} {S : pH} {r0 : Option Nat} {x1 : Int32} {x2 : Int32} {x3 : Int32} {x4 : Int32} {x5 : Int32} {x6 : Int32} {z : Int32} (h : fX9_shown N S r0 x1 x2 x3 x4 x5 x6 = some z) : ∃ fs, obj S 9 r0 = some fs := by
  unfold fX9_shown at h
  exact (chk_spec h).1
set_option maxHeartbeats 1000000 in
set_option maxRecDepth 20000 in
theorem kX9_shown_10 {g : VG} {w : VW} {N : Nat} {S : pH} {r0 : Option Nat} {x1 : Int32} {x2 : Int32} {x5 : Int32} {x6 : Int32} {v0 : Int32} (hC : Cx g yX9_shown cX9_shown 11 (some .int) rmX9_shown w) : ∀ (n : Nat) (x21 : Int32) (x22 : Int32) (x23 : Int32) (z : (Int32 × Int32)), lX9_shown_10 N S r0 x1 x2 x5 x6 n x21 x22 x23 = some z → (∀ (e0 : Int32) (e1 : Int32), z = (e0, e1) → V g w 11 (Qm g w rmX9_shown.cells rmX9_shown.slots (some (.int v0)) S) S 0 0 41 [(0, va_rf r0), (1, .int x1), (2, .int x2), (6, .int x6), (7, .int e0), (8, .int e1)] []) → V g w 11 (Qm g w rmX9_shown.cells rmX9_shown.slots (some (.int v0)) S) S 0 0 10 [(0, va_rf r0), (1, .int x1), (2, .int x2), (5, .int x5), (6, .int x6), (7, .int x21), (8, .int x22), (9, .int x23)] [] := by
  intro n
  induction n with
  | zero => intro x21 x22 x23 z h; rw [lX9_shown_10] at h; cases h
  | succ n ih =>
    intro x21 x22 x23 z h K
    rw [lX9_shown_10] at h
    refine v_iload hC 10 7 dX9_shown_10 rfl ?_
    refine v_iload hC 12 3 dX9_shown_12 rfl ?_
    refine v_iconst hC (3 : Int32) 14 dX9_shown_14 (by decide) ?_
    refine v_iand hC 15 dX9_shown_15 ?_
    refine v_icmp_ge hC 16 41 dX9_shown_16 (by decide) (fun c26 => ?_) (fun c26 => ?_)
    · replace h := ifp h c26
      refine v_sub [(0, va_rf r0), (1, .int x1), (2, .int x2), (6, .int x6), (7, .int x21), (8, .int x22)] [0, 1, 2, 4, 5, 6] rfl ?_
      exact K _ _ (sp1 h)
    · replace h := ifn h c26
      refine v_iload hC 19 5 dX9_shown_19 rfl ?_
      refine v_istore hC [(10, .int x21), (0, va_rf r0), (1, .int x1), (2, .int x2), (5, .int x5), (6, .int x6), (7, .int x21), (8, .int x22), (9, .int x23)] 21 dX9_shown_21 (by decide) rfl ?_
      refine v_iload hC 23 7 dX9_shown_23 rfl ?_
      refine v_istore hC [(7, .int x22), (10, .int x21), (0, va_rf r0), (1, .int x1), (2, .int x2), (5, .int x5), (6, .int x6), (8, .int x22), (9, .int x23)] 25 dX9_shown_25 (by decide) rfl ?_
      refine v_iload_n hC 27 4 dX9_shown_27 rfl ?_
      refine v_iconst hC (1 : Int32) 28 dX9_shown_28 (by decide) ?_
      refine v_isub hC 29 dX9_shown_29 ?_
      refine v_iload hC 30 1 dX9_shown_30 rfl ?_
      refine v_isub hC 32 dX9_shown_32 ?_
      obtain ⟨x24, ex24, h⟩ := onm h
      refine v_topi x24 ex24 ?_
      refine v_istore hC [(8, .int x24), (7, .int x22), (10, .int x21), (0, va_rf r0), (1, .int x1), (2, .int x2), (5, .int x5), (6, .int x6), (9, .int x23)] 33 dX9_shown_33 (by decide) rfl ?_
      obtain ⟨x25, ex25, h⟩ := onm h
      refine v_iinc hC x25 [(9, .int x25), (8, .int x24), (7, .int x22), (10, .int x21), (0, va_rf r0), (1, .int x1), (2, .int x2), (5, .int x5), (6, .int x6)] 35 8 dX9_shown_35 rfl (by rw [ex25]; rfl) (by decide) rfl ?_
      refine v_goto hC 38 10 dX9_shown_38 (by decide) ?_
      refine v_sub [(0, va_rf r0), (1, .int x1), (2, .int x2), (5, .int x5), (6, .int x6), (7, .int x22), (8, .int x24), (9, .int x25)] [4, 5, 6, 7, 8, 2, 1, 0] rfl ?_
      exact ih _ _ _ _ h K
set_option maxHeartbeats 1000000 in
set_option maxRecDepth 20000 in
theorem tX9_shown {l : Launch} {w : VW} {N : Nat} {S : pH} {r0 : Option Nat} {x1 : Int32} {x2 : Int32} {x3 : Int32} {x4 : Int32} {x5 : Int32} {x6 : Int32} {v0 : Int32} (h : fX9_shown N S r0 x1 x2 x3 x4 x5 x6 = some v0) : CT l w yX9_shown cX9_shown 11 (some .int) rmX9_shown [va_rf r0, .int x1, .int x2, .int x3, .int x4, .int x5, .int x6] S (some (.int v0)) S := by
  refine v_entry [(0, va_rf r0), (1, .int x1), (2, .int x2), (3, .int x3), (4, .int x4), (5, .int x5), (6, .int x6)] (by decide) (by simp [lg_sl, cat_rf, cat_i, cat_j]) (by simp [lv_args, cat_rf, cat_i, cat_j]) (fun g _ hC => ?_)
  unfold fX9_shown at h
  obtain ⟨hO, h⟩ := chk_spec h
  refine v_iload_n hC 0 3 dX9_shown_0 rfl ?_
  refine v_istore hC [(7, .int x3), (0, va_rf r0), (1, .int x1), (2, .int x2), (3, .int x3), (4, .int x4), (5, .int x5), (6, .int x6)] 1 dX9_shown_1 (by decide) rfl ?_
  refine v_iload hC 3 5 dX9_shown_3 rfl ?_
  refine v_istore hC [(8, .int x4), (7, .int x3), (0, va_rf r0), (1, .int x1), (2, .int x2), (3, .int x3), (4, .int x4), (5, .int x5), (6, .int x6)] 5 dX9_shown_5 (by decide) rfl ?_
  refine v_iconst hC (0 : Int32) 7 dX9_shown_7 (by decide) ?_
  refine v_istore hC [(9, .int (0 : Int32)), (8, .int x4), (7, .int x3), (0, va_rf r0), (1, .int x1), (2, .int x2), (3, .int x3), (4, .int x4), (5, .int x5), (6, .int x6)] 8 dX9_shown_8 (by decide) rfl ?_
  obtain ⟨x27, x28, E10, h⟩ := ob2 h
  refine v_sub [(0, va_rf r0), (1, .int x1), (2, .int x2), (5, .int x5), (6, .int x6), (7, .int x3), (8, .int x4), (9, .int (0 : Int32))] [3, 4, 5, 8, 9, 2, 1, 0] rfl ?_
  refine kX9_shown_10 hC _ _ _ _ _ E10 (fun _ _ hz9 => ?_)
  cases hz9
  refine v_aload_n hC 41 0 dX9_shown_41 rfl ?_
  refine v_iload_n hC 42 1 dX9_shown_42 rfl ?_
  refine v_iload hC 43 3 dX9_shown_43 rfl ?_
  obtain ⟨j59, f59, h⟩ := onm h
  have J59 : ∀ (r29 : Option Nat) (x30 : Int32) (x31 : Int32), j59 r29 x30 x31 = some v0 → V g w 11 (Qm g w rmX9_shown.cells rmX9_shown.slots (some (.int v0)) S) S 0 0 59 [(8, .int x28)] [.int x31, .int x30, va_rf r29] := by
    intro r29 x30 x31 h
    replace h := jb3 f59 h
    refine v_iload hC 59 0 dX9_shown_59 rfl ?_
    obtain ⟨x32, ex32, h⟩ := obn h
    refine qX9_121 hC rfl 61 ex32 (by decide) (catL (Nat.le_of_ble_eq_true rfl)) (by decide) dX9_shown_61 ?_
    obtain rfl := sp1 h
    exact v_iret hC 64 (by decide) (by decide) dX9_shown_64
  refine v_if_eq hC 45 57 dX9_shown_45 (by decide) (fun c33 => ?_) (fun c33 => ?_)
  · replace h := ifp h c33
    refine v_iload hC 57 4 dX9_shown_57 rfl ?_
    refine v_sub [(8, .int x28)] [5] rfl ?_
    exact J59 _ _ _ h
  · replace h := ifn h c33
    refine v_iload_n hC 48 2 dX9_shown_48 rfl ?_
    refine v_iconst hC (1 : Int32) 49 dX9_shown_49 (by decide) ?_
    refine v_isub hC 50 dX9_shown_50 ?_
    refine v_iload hC 51 4 dX9_shown_51 rfl ?_
    refine v_isub hC 53 dX9_shown_53 ?_
    refine v_goto hC 54 59 dX9_shown_54 (by decide) ?_
    refine v_sub [(8, .int x28)] [5] rfl ?_
    exact J59 _ _ _ h
set_option maxRecDepth 20000 in
theorem qX9_191 {g : VG} {w : VW} {nL : Nat} {Q : State → Prop} {S : pH} {kc ks : Nat} {lv : List (Nat × Value)} {rest : List Value} {y : MethodName} {cc : ByteArray} {rt : Option FieldType} {rm : Room} (hC : Cx g y cc nL rt rm w) (hy : y.cls = RX9) (pc : Nat) {N : Nat} {r0 : Option Nat} {x1 : Int32} {x2 : Int32} {v0 : Int32} (h : fX9_isSlice N S r0 x1 x2 = some v0) (hR : rmX9_isSlice.frames + 1 ≤ rm.frames ∧ 8 + (3 + 11) + rmX9_isSlice.locals ≤ rm.locals) (hst : (rest.map fun v => v.category).sum ≤ 8) (hf : kc + 0 ≤ rm.cells ∧ ks + 0 ≤ rm.slots) (d : decode cc pc = .ok (.invokevirtual 191, 3)) (K : V g w nL Q S kc ks (pc + 3) lv (.int v0 :: rest)) : V g w nL Q S kc ks pc lv (.int x2 :: .int x1 :: va_rf r0 :: rest) := by
  obtain ⟨fs, ho⟩ := oX9_isSlice h
  exact v_callV (As := [.int x1, .int x2]) (rest := rest) (ci := 9) hC pc (tX9_isSlice (l := g.2.1) (w := w) h) rfl (by decide) ho wG579 (by rw [hy]; exact wG578) wG580 wG581 wG542 hdX9_isSlice rfl hR hst hf d K
set_option maxRecDepth 20000 in
theorem qX9_147 {g : VG} {w : VW} {nL : Nat} {Q : State → Prop} {S : pH} {kc ks : Nat} {lv : List (Nat × Value)} {rest : List Value} {y : MethodName} {cc : ByteArray} {rt : Option FieldType} {rm : Room} (hC : Cx g y cc nL rt rm w) (hy : y.cls = RX9) (pc : Nat) {N : Nat} {r0 : Option Nat} {x1 : Int32} {x2 : Int32} {x3 : Int32} {x4 : Int32} {x5 : Int32} {x6 : Int32} {v0 : Int32} (h : fX9_shown N S r0 x1 x2 x3 x4 x5 x6 = some v0) (hR : rmX9_shown.frames + 1 ≤ rm.frames ∧ 8 + (11 + 11) + rmX9_shown.locals ≤ rm.locals) (hst : (rest.map fun v => v.category).sum ≤ 8) (hf : kc + 0 ≤ rm.cells ∧ ks + 0 ≤ rm.slots) (d : decode cc pc = .ok (.invokevirtual 147, 3)) (K : V g w nL Q S kc ks (pc + 3) lv (.int v0 :: rest)) : V g w nL Q S kc ks pc lv (.int x6 :: .int x5 :: .int x4 :: .int x3 :: .int x2 :: .int x1 :: va_rf r0 :: rest) := by
  obtain ⟨fs, ho⟩ := oX9_shown h
  exact v_callV (As := [.int x1, .int x2, .int x3, .int x4, .int x5, .int x6]) (rest := rest) (ci := 9) hC pc (tX9_shown (l := g.2.1) (w := w) h) rfl (by decide) ho wG583 (by rw [hy]; exact wG582) wG584 wG585 wG542 hdX9_shown rfl hR hst hf d K
abbrev rmX9_findJoins : Room := { frames := 2, cells := 0, slots := 0, locals := 53 }
theorem hdX9_findJoins : yX9_findJoins.cls ≠ "java/lang/invoke/MethodHandle" ∧ yX9_findJoins.cls ≠ "java/lang/invoke/VarHandle" ∧ (parseMethodDescriptor yX9_findJoins.desc).map (fun d => d.parameters.length) = some 1 := by decide +kernel
def lX9_findJoins_44 (N : Nat) (S : pH) (r0 : Option Nat) (x1 : Int32) (x2 : Int32) (x3 : Int32) : Nat → Int32 → Int32 → Option (Int32)
  | 0, _, _ => none
  | n + 1, x27, x28 =>
    if x1 ≤ x28 then
    (some x27)
    else
    if x27 = 0 then
    (some x27)
    else
    (fX9_shown N S r0 (x2 / (4 : Int32)) x1 (x1 - (1 : Int32)) x28 (x2 - x2 / (4 : Int32) * (4 : Int32)) (0 : Int32)).bind fun x29 =>
    (fX9_shown N S r0 (x3 / (4 : Int32)) x1 (0 : Int32) x28 (x3 - x3 / (4 : Int32) * (4 : Int32)) (0 : Int32)).bind fun x30 =>
    nm (fun (x31 : Int32) =>
    nm (x28 + (1 : Int32)) fun x32 =>
    lX9_findJoins_44 N S r0 x1 x2 x3 n x31 x32) fun j95 =>
    if ¬ x29 = x30 then
    (j95 (0 : Int32))
    else
    j95 (1 : Int32)
def lX9_findJoins_10 (N : Nat) (r0 : Option Nat) (x1 : Int32) (x2 : Int32) : Nat → Int32 → pH → Option (pH)
  | 0, _, _ => none
  | n + 1, x23, S24 =>
    if (64 : Int32) ≤ x23 then
    (some S24)
    else
    (fX9_isSlice N S24 r0 x2 x1).bind fun x25 =>
    nm (fun (x26 : Int32) =>
    (lX9_findJoins_44 N S24 r0 x1 x2 x23 N x26 (0 : Int32)).bind fun x36 =>
    (gfR S24 9 27 r0).bind fun r37 =>
    (stZ S24 r37 (((64 : Int32) * x2) + x23) x36).bind fun S38 =>
    nm (x23 + (1 : Int32)) fun x39 =>
    lX9_findJoins_10 N r0 x1 x2 n x39 S38) fun j39 =>
    nm (fun (_ : Unit) =>
    j39 (0 : Int32)) fun j38 =>
    if x25 = 0 then
    (j38 ())
    else
    (fX9_isSlice N S24 r0 x23 x1).bind fun x40 =>
    if x40 = 0 then
    (j38 ())
    else
    j39 (1 : Int32)
def lX9_findJoins_2 (N : Nat) (r0 : Option Nat) (x1 : Int32) : Nat → Int32 → pH → Option (pH)
  | 0, _, _ => none
  | n + 1, x21, S22 =>
    if (64 : Int32) ≤ x21 then
    (some S22)
    else
    (lX9_findJoins_10 N r0 x1 x21 N (0 : Int32) S22).bind fun S44 =>
    nm (x21 + (1 : Int32)) fun x45 =>
    lX9_findJoins_2 N r0 x1 n x45 S44
def fX9_findJoins (N : Nat) (S : pH) (r0 : Option Nat) (x1 : Int32) : Option (pH) :=
  chk S 9 r0 <|
  (lX9_findJoins_2 N r0 x1 N (0 : Int32) S).bind fun S47 =>
  some S47
theorem oX9_findJoins {N : Nat} {S : pH} {r0 : Option Nat} {x1 : Int32} {z : pH} (h : fX9_findJoins N S r0 x1 = some z) : ∃ fs, obj S 9 r0 = some fs := by
  unfold fX9_findJoins at h
  exact (chk_spec h).1
set_option maxHeartbeats 1000000 in
set_option maxRecDepth 20000 in
theorem kX9_findJoins_44 {g : VG} {w : VW} {N : Nat} {S : pH} {r0 : Option Nat} {x1 : Int32} {x2 : Int32} {x3 : Int32} {S0 : pH} (hC : Cx g yX9_findJoins cX9_findJoins 6 none rmX9_findJoins w) : ∀ (n : Nat) (x27 : Int32) (x28 : Int32) (z : (Int32)), lX9_findJoins_44 N S r0 x1 x2 x3 n x27 x28 = some z → (∀ (e0 : Int32), z = e0 → V g w 6 (Qm g w rmX9_findJoins.cells rmX9_findJoins.slots none S0) S 0 0 103 [(0, va_rf r0), (1, .int x1), (2, .int x2), (3, .int x3), (4, .int e0)] []) → V g w 6 (Qm g w rmX9_findJoins.cells rmX9_findJoins.slots none S0) S 0 0 44 [(0, va_rf r0), (1, .int x1), (2, .int x2), (3, .int x3), (4, .int x27), (5, .int x28)] [] := by
  intro n
  induction n with
  | zero => intro x27 x28 z h; rw [lX9_findJoins_44] at h; cases h
  | succ n ih =>
    intro x27 x28 z h K
    rw [lX9_findJoins_44] at h
    refine v_iload hC 44 5 dX9_findJoins_44 rfl ?_
    refine v_iload_n hC 46 1 dX9_findJoins_46 rfl ?_
    refine v_icmp_ge hC 47 103 dX9_findJoins_47 (by decide) (fun c35 => ?_) (fun c35 => ?_)
    · replace h := ifp h c35
      refine v_sub [(0, va_rf r0), (1, .int x1), (2, .int x2), (3, .int x3), (4, .int x27)] [0, 1, 2, 3, 4] rfl ?_
      exact K _ (sp1 h)
    · replace h := ifn h c35
      refine v_iload hC 50 4 dX9_findJoins_50 rfl ?_
      refine v_if_eq hC 52 103 dX9_findJoins_52 (by decide) (fun c34 => ?_) (fun c34 => ?_)
      · replace h := ifp h c34
        refine v_sub [(0, va_rf r0), (1, .int x1), (2, .int x2), (3, .int x3), (4, .int x27)] [0, 1, 2, 3, 4] rfl ?_
        exact K _ (sp1 h)
      · replace h := ifn h c34
        refine v_aload_n hC 55 0 dX9_findJoins_55 rfl ?_
        refine v_iload_n hC 56 2 dX9_findJoins_56 rfl ?_
        refine v_iconst hC (4 : Int32) 57 dX9_findJoins_57 (by decide) ?_
        refine v_idiv hC 58 (by decide) dX9_findJoins_58 ?_
        refine v_iload_n hC 59 1 dX9_findJoins_59 rfl ?_
        refine v_iload_n hC 60 1 dX9_findJoins_60 rfl ?_
        refine v_iconst hC (1 : Int32) 61 dX9_findJoins_61 (by decide) ?_
        refine v_isub hC 62 dX9_findJoins_62 ?_
        refine v_iload hC 63 5 dX9_findJoins_63 rfl ?_
        refine v_iload_n hC 65 2 dX9_findJoins_65 rfl ?_
        refine v_iconst hC (4 : Int32) 66 dX9_findJoins_66 (by decide) ?_
        refine v_irem hC 67 (by decide) dX9_findJoins_67 ?_
        refine v_iconst hC (0 : Int32) 68 dX9_findJoins_68 (by decide) ?_
        obtain ⟨x29, ex29, h⟩ := obn h
        refine qX9_147 hC rfl 69 ex29 (by decide) (catL (Nat.le_of_ble_eq_true rfl)) (by decide) dX9_findJoins_69 ?_
        refine v_aload_n hC 72 0 dX9_findJoins_72 rfl ?_
        refine v_iload_n hC 73 3 dX9_findJoins_73 rfl ?_
        refine v_iconst hC (4 : Int32) 74 dX9_findJoins_74 (by decide) ?_
        refine v_idiv hC 75 (by decide) dX9_findJoins_75 ?_
        refine v_iload_n hC 76 1 dX9_findJoins_76 rfl ?_
        refine v_iconst hC (0 : Int32) 77 dX9_findJoins_77 (by decide) ?_
        refine v_iload hC 78 5 dX9_findJoins_78 rfl ?_
        refine v_iload_n hC 80 3 dX9_findJoins_80 rfl ?_
        refine v_iconst hC (4 : Int32) 81 dX9_findJoins_81 (by decide) ?_
        refine v_irem hC 82 (by decide) dX9_findJoins_82 ?_
        refine v_iconst hC (0 : Int32) 83 dX9_findJoins_83 (by decide) ?_
        obtain ⟨x30, ex30, h⟩ := obn h
        refine qX9_147 hC rfl 84 ex30 (by decide) (catL (Nat.le_of_ble_eq_true rfl)) (by decide) dX9_findJoins_84 ?_
        obtain ⟨j95, f95, h⟩ := onm h
        have J95 : ∀ (x31 : Int32), j95 x31 = some z → V g w 6 (Qm g w rmX9_findJoins.cells rmX9_findJoins.slots none S0) S 0 0 95 [(0, va_rf r0), (1, .int x1), (2, .int x2), (3, .int x3), (5, .int x28)] [.int x31] := by
          intro x31 h
          replace h := jb1 f95 h
          refine v_istore hC [(4, .int x31), (0, va_rf r0), (1, .int x1), (2, .int x2), (3, .int x3), (5, .int x28)] 95 dX9_findJoins_95 (by decide) rfl ?_
          obtain ⟨x32, ex32, h⟩ := onm h
          refine v_iinc hC x32 [(5, .int x32), (4, .int x31), (0, va_rf r0), (1, .int x1), (2, .int x2), (3, .int x3)] 97 5 dX9_findJoins_97 rfl (by rw [ex32]; rfl) (by decide) rfl ?_
          refine v_goto hC 100 44 dX9_findJoins_100 (by decide) ?_
          refine v_sub [(0, va_rf r0), (1, .int x1), (2, .int x2), (3, .int x3), (4, .int x31), (5, .int x32)] [2, 3, 4, 5, 1, 0] rfl ?_
          exact ih _ _ _ h K
        refine v_icmp_ne hC 87 94 dX9_findJoins_87 (by decide) (fun c33 => ?_) (fun c33 => ?_)
        · replace h := ifp h c33
          refine v_iconst hC (0 : Int32) 94 dX9_findJoins_94 (by decide) ?_
          refine v_sub [(0, va_rf r0), (1, .int x1), (2, .int x2), (3, .int x3), (5, .int x28)] [0, 1, 2, 3, 5] rfl ?_
          exact J95 _ h
        · replace h := ifn h (fun q => q c33)
          refine v_iconst hC (1 : Int32) 90 dX9_findJoins_90 (by decide) ?_
          refine v_goto hC 91 95 dX9_findJoins_91 (by decide) ?_
          refine v_sub [(0, va_rf r0), (1, .int x1), (2, .int x2), (3, .int x3), (5, .int x28)] [0, 1, 2, 3, 5] rfl ?_
          exact J95 _ h
set_option maxHeartbeats 1000000 in
set_option maxRecDepth 20000 in
theorem kX9_findJoins_10 {g : VG} {w : VW} {N : Nat} {r0 : Option Nat} {x1 : Int32} {x2 : Int32} {S0 : pH} (hC : Cx g yX9_findJoins cX9_findJoins 6 none rmX9_findJoins w) : ∀ (n : Nat) (x23 : Int32) (S24 : pH) (z : (pH)), lX9_findJoins_10 N r0 x1 x2 n x23 S24 = some z → (∀ (e0 : pH), z = e0 → V g w 6 (Qm g w rmX9_findJoins.cells rmX9_findJoins.slots none S0) e0 0 0 122 [(0, va_rf r0), (1, .int x1), (2, .int x2)] []) → V g w 6 (Qm g w rmX9_findJoins.cells rmX9_findJoins.slots none S0) S24 0 0 10 [(0, va_rf r0), (1, .int x1), (2, .int x2), (3, .int x23)] [] := by
  intro n
  induction n with
  | zero => intro x23 S24 z h; rw [lX9_findJoins_10] at h; cases h
  | succ n ih =>
    intro x23 S24 z h K
    rw [lX9_findJoins_10] at h
    refine v_iload_n hC 10 3 dX9_findJoins_10 rfl ?_
    refine v_bipush hC (64 : Int32) 11 dX9_findJoins_11 (by decide) ?_
    refine v_icmp_ge hC 13 122 dX9_findJoins_13 (by decide) (fun c43 => ?_) (fun c43 => ?_)
    · replace h := ifp h c43
      refine v_sub [(0, va_rf r0), (1, .int x1), (2, .int x2)] [0, 1, 2] rfl ?_
      exact K _ (sp1 h)
    · replace h := ifn h c43
      refine v_aload_n hC 16 0 dX9_findJoins_16 rfl ?_
      refine v_iload_n hC 17 2 dX9_findJoins_17 rfl ?_
      refine v_iload_n hC 18 1 dX9_findJoins_18 rfl ?_
      obtain ⟨x25, ex25, h⟩ := obn h
      refine qX9_191 hC rfl 19 ex25 (by decide) (catL (Nat.le_of_ble_eq_true rfl)) (by decide) dX9_findJoins_19 ?_
      obtain ⟨j39, f39, h⟩ := onm h
      have J39 : ∀ (x26 : Int32), j39 x26 = some z → V g w 6 (Qm g w rmX9_findJoins.cells rmX9_findJoins.slots none S0) S24 0 0 39 [(0, va_rf r0), (1, .int x1), (2, .int x2), (3, .int x23)] [.int x26] := by
        intro x26 h
        replace h := jb1 f39 h
        refine v_istore hC [(4, .int x26), (0, va_rf r0), (1, .int x1), (2, .int x2), (3, .int x23)] 39 dX9_findJoins_39 (by decide) rfl ?_
        refine v_iconst hC (0 : Int32) 41 dX9_findJoins_41 (by decide) ?_
        refine v_istore hC [(5, .int (0 : Int32)), (4, .int x26), (0, va_rf r0), (1, .int x1), (2, .int x2), (3, .int x23)] 42 dX9_findJoins_42 (by decide) rfl ?_
        obtain ⟨x36, E44, h⟩ := obn h
        refine v_sub [(0, va_rf r0), (1, .int x1), (2, .int x2), (3, .int x23), (4, .int x26), (5, .int (0 : Int32))] [2, 3, 4, 5, 1, 0] rfl ?_
        refine kX9_findJoins_44 hC _ _ _ _ E44 (fun _ hz9 => ?_)
        cases hz9
        refine v_aload_n hC 103 0 dX9_findJoins_103 rfl ?_
        obtain ⟨r37, er37, h⟩ := obn h
        refine gRX9_81 hC rfl 104 er37 dX9_findJoins_104 ?_
        refine v_bipush hC (64 : Int32) 107 dX9_findJoins_107 (by decide) ?_
        refine v_iload_n hC 109 2 dX9_findJoins_109 rfl ?_
        refine v_imul hC 110 dX9_findJoins_110 ?_
        refine v_iload_n hC 111 3 dX9_findJoins_111 rfl ?_
        refine v_iadd hC 112 dX9_findJoins_112 ?_
        refine v_iload hC 113 4 dX9_findJoins_113 rfl ?_
        obtain ⟨S38, eS38, h⟩ := obn h
        refine v_zast hC 115 eS38 dX9_findJoins_115 ?_
        obtain ⟨x39, ex39, h⟩ := onm h
        refine v_iinc hC x39 [(3, .int x39), (0, va_rf r0), (1, .int x1), (2, .int x2), (4, .int x36)] 116 3 dX9_findJoins_116 rfl (by rw [ex39]; rfl) (by decide) rfl ?_
        refine v_goto hC 119 10 dX9_findJoins_119 (by decide) ?_
        refine v_sub [(0, va_rf r0), (1, .int x1), (2, .int x2), (3, .int x39)] [1, 2, 3, 0] rfl ?_
        exact ih _ _ _ h K
      obtain ⟨j38, f38, h⟩ := onm h
      have J38 : ∀ (u9 : Unit), j38 u9 = some z → V g w 6 (Qm g w rmX9_findJoins.cells rmX9_findJoins.slots none S0) S24 0 0 38 [(0, va_rf r0), (1, .int x1), (2, .int x2), (3, .int x23)] [] := by
        intro u9 h
        replace h := jb1 f38 h
        refine v_iconst hC (0 : Int32) 38 dX9_findJoins_38 (by decide) ?_
        refine v_sub [(0, va_rf r0), (1, .int x1), (2, .int x2), (3, .int x23)] [0, 1, 2, 3] rfl ?_
        exact J39 _ h
      refine v_if_eq hC 22 38 dX9_findJoins_22 (by decide) (fun c42 => ?_) (fun c42 => ?_)
      · replace h := ifp h c42
        refine v_sub [(0, va_rf r0), (1, .int x1), (2, .int x2), (3, .int x23)] [0, 1, 2, 3] rfl ?_
        exact J38 _ h
      · replace h := ifn h c42
        refine v_aload_n hC 25 0 dX9_findJoins_25 rfl ?_
        refine v_iload_n hC 26 3 dX9_findJoins_26 rfl ?_
        refine v_iload_n hC 27 1 dX9_findJoins_27 rfl ?_
        obtain ⟨x40, ex40, h⟩ := obn h
        refine qX9_191 hC rfl 28 ex40 (by decide) (catL (Nat.le_of_ble_eq_true rfl)) (by decide) dX9_findJoins_28 ?_
        refine v_if_eq hC 31 38 dX9_findJoins_31 (by decide) (fun c41 => ?_) (fun c41 => ?_)
        · replace h := ifp h c41
          refine v_sub [(0, va_rf r0), (1, .int x1), (2, .int x2), (3, .int x23)] [0, 1, 2, 3] rfl ?_
          exact J38 _ h
        · replace h := ifn h c41
          refine v_iconst hC (1 : Int32) 34 dX9_findJoins_34 (by decide) ?_
          refine v_goto hC 35 39 dX9_findJoins_35 (by decide) ?_
          refine v_sub [(0, va_rf r0), (1, .int x1), (2, .int x2), (3, .int x23)] [0, 1, 2, 3] rfl ?_
          exact J39 _ h
set_option maxHeartbeats 1000000 in
set_option maxRecDepth 20000 in
theorem kX9_findJoins_2 {g : VG} {w : VW} {N : Nat} {r0 : Option Nat} {x1 : Int32} {S0 : pH} (hC : Cx g yX9_findJoins cX9_findJoins 6 none rmX9_findJoins w) : ∀ (n : Nat) (x21 : Int32) (S22 : pH) (z : (pH)), lX9_findJoins_2 N r0 x1 n x21 S22 = some z → (∀ (e0 : pH), z = e0 → V g w 6 (Qm g w rmX9_findJoins.cells rmX9_findJoins.slots none S0) e0 0 0 128 [] []) → V g w 6 (Qm g w rmX9_findJoins.cells rmX9_findJoins.slots none S0) S22 0 0 2 [(0, va_rf r0), (1, .int x1), (2, .int x21)] [] := by
  intro n
  induction n with
  | zero => intro x21 S22 z h; rw [lX9_findJoins_2] at h; cases h
  | succ n ih =>
    intro x21 S22 z h K
    rw [lX9_findJoins_2] at h
    refine v_iload_n hC 2 2 dX9_findJoins_2 rfl ?_
    refine v_bipush hC (64 : Int32) 3 dX9_findJoins_3 (by decide) ?_
    refine v_icmp_ge hC 5 128 dX9_findJoins_5 (by decide) (fun c46 => ?_) (fun c46 => ?_)
    · replace h := ifp h c46
      refine v_sub [] [] rfl ?_
      exact K _ (sp1 h)
    · replace h := ifn h c46
      refine v_iconst hC (0 : Int32) 8 dX9_findJoins_8 (by decide) ?_
      refine v_istore_n hC [(3, .int (0 : Int32)), (0, va_rf r0), (1, .int x1), (2, .int x21)] 9 dX9_findJoins_9 (by decide) rfl ?_
      obtain ⟨S44, E10, h⟩ := obn h
      refine v_sub [(0, va_rf r0), (1, .int x1), (2, .int x21), (3, .int (0 : Int32))] [1, 2, 3, 0] rfl ?_
      refine kX9_findJoins_10 hC _ _ _ _ E10 (fun _ hz9 => ?_)
      cases hz9
      obtain ⟨x45, ex45, h⟩ := onm h
      refine v_iinc hC x45 [(2, .int x45), (0, va_rf r0), (1, .int x1)] 122 2 dX9_findJoins_122 rfl (by rw [ex45]; rfl) (by decide) rfl ?_
      refine v_goto hC 125 2 dX9_findJoins_125 (by decide) ?_
      refine v_sub [(0, va_rf r0), (1, .int x1), (2, .int x45)] [1, 2, 0] rfl ?_
      exact ih _ _ _ h K
set_option maxHeartbeats 1000000 in
set_option maxRecDepth 20000 in
theorem tX9_findJoins {l : Launch} {w : VW} {N : Nat} {S : pH} {r0 : Option Nat} {x1 : Int32} {S0 : pH} (h : fX9_findJoins N S r0 x1 = some S0) : CT l w yX9_findJoins cX9_findJoins 6 none rmX9_findJoins [va_rf r0, .int x1] S none S0 := by
  refine v_entry [(0, va_rf r0), (1, .int x1)] (by decide) (by simp [lg_sl, cat_rf, cat_i, cat_j]) (by simp [lv_args, cat_rf, cat_i, cat_j]) (fun g _ hC => ?_)
  unfold fX9_findJoins at h
  obtain ⟨hO, h⟩ := chk_spec h
  refine v_iconst hC (0 : Int32) 0 dX9_findJoins_0 (by decide) ?_
  refine v_istore_n hC [(2, .int (0 : Int32)), (0, va_rf r0), (1, .int x1)] 1 dX9_findJoins_1 (by decide) rfl ?_
  obtain ⟨S47, E2, h⟩ := obn h
  refine v_sub [(0, va_rf r0), (1, .int x1), (2, .int (0 : Int32))] [1, 2, 0] rfl ?_
  refine kX9_findJoins_2 hC _ _ _ _ E2 (fun _ hz9 => ?_)
  cases hz9
  obtain rfl := sp1 h
  exact v_vret hC 128 (by decide) (by decide) dX9_findJoins_128
