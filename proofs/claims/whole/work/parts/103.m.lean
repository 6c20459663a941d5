abbrev rmX7_put : Room := { frames := 1, cells := 0, slots := 0, locals := 22 }
theorem hdX7_put : yX7_put.cls ≠ "java/lang/invoke/MethodHandle" ∧ yX7_put.cls ≠ "java/lang/invoke/VarHandle" ∧ (parseMethodDescriptor yX7_put.desc).map (fun d => d.parameters.length) = some 4 := by decide +kernel
def fX7_put (N : Nat) (S : pH) (r0 : Option Nat) (x1 : Int32) (x2 : Int32) (x3 : Int32) (x4 : Int32) : Option (Int32 × pH) :=
  chk S 7 r0 <|
  (fX7_has N S r0 x1 x2).bind fun x21 =>
  if ¬ x21 = 0 then
  (nm ((x2 * (4 : Int32)) + x1) fun x22 =>
  (gfR S 7 0 r0).bind fun r23 =>
  (ldI S 0 r23 x22).bind fun x24 =>
  (gfR S 7 0 r0).bind fun r25 =>
  (stI S r25 x22 x3).bind fun S26 =>
  (gfR S26 7 1 r0).bind fun r27 =>
  (stI S26 r27 x22 x4).bind fun S28 =>
  some (x24, S28))
  else
  some ((-9 : Int32), S)
theorem oX7_put {N : Nat} {S : pH} {r0 : Option Nat} {x1 : Int32} {x2 : Int32} {x3 : Int32} {x4 : Int32} {z : Int32 × pH} (h : fX7_put N S r0 x1 x2 x3 x4 = some z) : ∃ fs, obj S 7 r0 = some fs := by
  unfold fX7_put at h
  exact (chk_spec h).1
set_option maxHeartbeats 1000000 in
set_option maxRecDepth 20000 in
theorem tX7_put {l : Launch} {w : VW} {N : Nat} {S : pH} {r0 : Option Nat} {x1 : Int32} {x2 : Int32} {x3 : Int32} {x4 : Int32} {v0 : Int32} {S0 : pH} (h : fX7_put N S r0 x1 x2 x3 x4 = some (v0, S0)) : CT l w yX7_put cX7_put 7 (some .int) rmX7_put [va_rf r0, .int x1, .int x2, .int x3, .int x4] S (some (.int v0)) S0 := by
  refine v_entry [(0, va_rf r0), (1, .int x1), (2, .int x2), (3, .int x3), (4, .int x4)] (by decide) (by simp [lg_sl, cat_rf, cat_i, cat_j]) (by simp [lv_args, cat_rf, cat_i, cat_j]) (fun g _ hC => ?_)
  unfold fX7_put at h
  obtain ⟨hO, h⟩ := chk_spec h
  refine v_aload_n hC 0 0 dX7_put_0 rfl ?_
  refine v_iload_n hC 1 1 dX7_put_1 rfl ?_
  refine v_iload_n hC 2 2 dX7_put_2 rfl ?_
  obtain ⟨x21, ex21, h⟩ := obn h
  refine qX7_37 hC rfl 3 ex21 (by decide) (catL (Nat.le_of_ble_eq_true rfl)) (by decide) dX7_put_3 ?_
  refine v_if_ne hC 6 12 dX7_put_6 (by decide) (fun c29 => ?_) (fun c29 => ?_)
  · replace h := ifp h c29
    refine v_iload_n hC 12 2 dX7_put_12 rfl ?_
    refine v_iconst hC (4 : Int32) 13 dX7_put_13 (by decide) ?_
    refine v_imul hC 14 dX7_put_14 ?_
    refine v_iload_n hC 15 1 dX7_put_15 rfl ?_
    refine v_iadd hC 16 dX7_put_16 ?_
    obtain ⟨x22, ex22, h⟩ := onm h
    refine v_topi x22 ex22 ?_
    refine v_istore hC [(5, .int x22), (0, va_rf r0), (1, .int x1), (2, .int x2), (3, .int x3), (4, .int x4)] 17 dX7_put_17 (by decide) rfl ?_
    refine v_aload_n hC 19 1 dX7_put_19 rfl ?_
    obtain ⟨r23, er23, h⟩ := obn h
    refine gRX7_9 hC rfl 20 er23 dX7_put_20 ?_
    refine v_iload hC 23 0 dX7_put_23 rfl ?_
    obtain ⟨x24, ex24, h⟩ := obn h
    refine v_iald hC 25 ex24 dX7_put_25 ?_
    refine v_istore hC [(6, .int x24), (5, .int x22), (0, va_rf r0), (1, .int x1), (2, .int x2), (3, .int x3), (4, .int x4)] 26 dX7_put_26 (by decide) rfl ?_
    refine v_aload_n hC 28 2 dX7_put_28 rfl ?_
    obtain ⟨r25, er25, h⟩ := obn h
    refine gRX7_9 hC rfl 29 er25 dX7_put_29 ?_
    refine v_iload hC 32 1 dX7_put_32 rfl ?_
    refine v_iload_n hC 34 5 dX7_put_34 rfl ?_
    obtain ⟨S26, eS26, h⟩ := obn h
    refine v_iast hC 35 eS26 dX7_put_35 ?_
    refine v_aload_n hC 36 2 dX7_put_36 rfl ?_
    obtain ⟨r27, er27, h⟩ := obn h
    refine gRX7_15 hC rfl 37 er27 dX7_put_37 ?_
    refine v_iload hC 40 1 dX7_put_40 rfl ?_
    refine v_iload hC 42 6 dX7_put_42 rfl ?_
    obtain ⟨S28, eS28, h⟩ := obn h
    refine v_iast hC 44 eS28 dX7_put_44 ?_
    refine v_iload hC 45 0 dX7_put_45 rfl ?_
    obtain ⟨rfl, rfl⟩ := sp2 h
    exact v_iret hC 47 (by decide) (by decide) dX7_put_47
  · replace h := ifn h (fun q => q c29)
    refine v_bipush hC (-9 : Int32) 9 dX7_put_9 (by decide) ?_
    obtain ⟨rfl, rfl⟩ := sp2 h
    exact v_iret hC 11 (by decide) (by decide) dX7_put_11
abbrev rmX7_turnAt : Room := { frames := 1, cells := 0, slots := 0, locals := 22 }
theorem hdX7_turnAt : yX7_turnAt.cls ≠ "java/lang/invoke/MethodHandle" ∧ yX7_turnAt.cls ≠ "java/lang/invoke/VarHandle" ∧ (parseMethodDescriptor yX7_turnAt.desc).map (fun d => d.parameters.length) = some 2 := by decide +kernel
def fX7_turnAt (N : Nat) (S : pH) (r0 : Option Nat) (x1 : Int32) (x2 : Int32) : Option (Int32) :=
  chk S 7 r0 <|
  (fX7_has N S r0 x1 x2).bind fun x21 =>
  if x21 = 0 then
  (some (0 : Int32))
  else
  (gfR S 7 1 r0).bind fun r22 =>
  (ldI S 0 r22 ((x2 * (4 : Int32)) + x1)).bind fun x23 =>
  some x23
theorem oX7_turnAt {N : Nat} {S : pH} {r0 : Option Nat} {x1 : Int32} {x2 : Int32} {z : Int32} (h : fX7_turnAt N S r0 x1 x2 = some z) : ∃ fs, obj S 7 r0 = some fs := by
  unfold fX7_turnAt at h
  exact (chk_spec h).1
set_option maxHeartbeats 1000000 in
set_option maxRecDepth 20000 in
theorem tX7_turnAt {l : Launch} {w : VW} {N : Nat} {S : pH} {r0 : Option Nat} {x1 : Int32} {x2 : Int32} {v0 : Int32} (h : fX7_turnAt N S r0 x1 x2 = some v0) : CT l w yX7_turnAt cX7_turnAt 3 (some .int) rmX7_turnAt [va_rf r0, .int x1, .int x2] S (some (.int v0)) S := by
  refine v_entry [(0, va_rf r0), (1, .int x1), (2, .int x2)] (by decide) (by simp [lg_sl, cat_rf, cat_i, cat_j]) (by simp [lv_args, cat_rf, cat_i, cat_j]) (fun g _ hC => ?_)
  unfold fX7_turnAt at h
  obtain ⟨hO, h⟩ := chk_spec h
  refine v_aload_n hC 0 0 dX7_turnAt_0 rfl ?_
  refine v_iload_n hC 1 1 dX7_turnAt_1 rfl ?_
  refine v_iload_n hC 2 2 dX7_turnAt_2 rfl ?_
  obtain ⟨x21, ex21, h⟩ := obn h
  refine qX7_37 hC rfl 3 ex21 (by decide) (catL (Nat.le_of_ble_eq_true rfl)) (by decide) dX7_turnAt_3 ?_
  refine v_if_eq hC 6 22 dX7_turnAt_6 (by decide) (fun c24 => ?_) (fun c24 => ?_)
  · replace h := ifp h c24
    refine v_iconst hC (0 : Int32) 22 dX7_turnAt_22 (by decide) ?_
    obtain rfl := sp1 h
    exact v_iret hC 23 (by decide) (by decide) dX7_turnAt_23
  · replace h := ifn h c24
    refine v_aload_n hC 9 0 dX7_turnAt_9 rfl ?_
    obtain ⟨r22, er22, h⟩ := obn h
    refine gRX7_15 hC rfl 10 er22 dX7_turnAt_10 ?_
    refine v_iload_n hC 13 2 dX7_turnAt_13 rfl ?_
    refine v_iconst hC (4 : Int32) 14 dX7_turnAt_14 (by decide) ?_
    refine v_imul hC 15 dX7_turnAt_15 ?_
    refine v_iload_n hC 16 1 dX7_turnAt_16 rfl ?_
    refine v_iadd hC 17 dX7_turnAt_17 ?_
    obtain ⟨x23, ex23, h⟩ := obn h
    refine v_iald hC 18 ex23 dX7_turnAt_18 ?_
    refine v_goto hC 19 23 dX7_turnAt_19 (by decide) ?_
    obtain rfl := sp1 h
    exact v_iret hC 23 (by decide) (by decide) dX7_turnAt_23
abbrev rmX8_find : Room := { frames := 0, cells := 0, slots := 0, locals := 0 }
theorem hdX8_find : yX8_find.cls ≠ "java/lang/invoke/MethodHandle" ∧ yX8_find.cls ≠ "java/lang/invoke/VarHandle" ∧ (parseMethodDescriptor yX8_find.desc).map (fun d => d.parameters.length) = some 1 := by decide +kernel
def fX8_find (N : Nat) (S : pH) (r0 : Option Nat) (x1 : Int32) : Option (Option Nat) :=
  chk S 8 r0 <|
  if x1 < 0 then
  (some none)
  else
  (gfI S 8 2 r0).bind fun x21 =>
  if x21 ≤ x1 then
  (some none)
  else
  if x1 < (16 : Int32) then
  ((gfR S 8 1 r0).bind fun r22 =>
  (ldR S r22 x1).bind fun r23 =>
  some r23)
  else
  some none
theorem oX8_find {N : Nat} {S : pH} {r0 : Option Nat} {x1 : Int32} {z : Option Nat} (h : fX8_find N S r0 x1 = some z) : ∃ fs, obj S 8 r0 = some fs := by
  unfold fX8_find at h
  exact (chk_spec h).1
set_option maxHeartbeats 1000000 in
set_option maxRecDepth 20000 in
theorem tX8_find {l : Launch} {w : VW} {N : Nat} {S : pH} {r0 : Option Nat} {x1 : Int32} {v0 : Option Nat} (h : fX8_find N S r0 x1 = some v0) : CT l w yX8_find cX8_find 2 (some (.object "CaneHouse$Cane")) rmX8_find [va_rf r0, .int x1] S (some (va_rf v0)) S := by
  refine v_entry [(0, va_rf r0), (1, .int x1)] (by decide) (by simp [lg_sl, cat_rf, cat_i, cat_j]) (by simp [lv_args, cat_rf, cat_i, cat_j]) (fun g _ hC => ?_)
  unfold fX8_find at h
  obtain ⟨hO, h⟩ := chk_spec h
  refine v_iload_n hC 0 1 dX8_find_0 rfl ?_
  refine v_if_lt hC 1 18 dX8_find_1 (by decide) (fun c26 => ?_) (fun c26 => ?_)
  · replace h := ifp h c26
    refine v_null hC 18 dX8_find_18 ?_
    obtain rfl := sp1 h
    exact v_aret hC 19 (by decide) (by decide) dX8_find_19
  · replace h := ifn h c26
    refine v_iload_n hC 4 1 dX8_find_4 rfl ?_
    refine v_aload_n hC 5 0 dX8_find_5 rfl ?_
    obtain ⟨x21, ex21, h⟩ := obn h
    refine gRX8_22 hC rfl 6 ex21 dX8_find_6 ?_
    refine v_icmp_ge hC 9 18 dX8_find_9 (by decide) (fun c25 => ?_) (fun c25 => ?_)
    · replace h := ifp h c25
      refine v_null hC 18 dX8_find_18 ?_
      obtain rfl := sp1 h
      exact v_aret hC 19 (by decide) (by decide) dX8_find_19
    · replace h := ifn h c25
      refine v_iload_n hC 12 1 dX8_find_12 rfl ?_
      refine v_bipush hC (16 : Int32) 13 dX8_find_13 (by decide) ?_
      refine v_icmp_lt hC 15 20 dX8_find_15 (by decide) (fun c24 => ?_) (fun c24 => ?_)
      · replace h := ifp h c24
        refine v_aload_n hC 20 0 dX8_find_20 rfl ?_
        obtain ⟨r22, er22, h⟩ := obn h
        refine gRX8_18 hC rfl 21 er22 dX8_find_21 ?_
        refine v_iload_n hC 24 1 dX8_find_24 rfl ?_
        obtain ⟨r23, er23, h⟩ := obn h
        refine v_aald hC 25 er23 dX8_find_25 ?_
        obtain rfl := sp1 h
        exact v_aret hC 26 (by decide) (by decide) dX8_find_26
      · replace h := ifn h c24
        refine v_null hC 18 dX8_find_18 ?_
        obtain rfl := sp1 h
        exact v_aret hC 19 (by decide) (by decide) dX8_find_19
set_option maxRecDepth 20000 in
theorem qX8_142 {g : VG} {w : VW} {nL : Nat} {Q : State → Prop} {S : pH} {kc ks : Nat} {lv : List (Nat × Value)} {rest : List Value} {y : MethodName} {cc : ByteArray} {rt : Option FieldType} {rm : Room} (hC : Cx g y cc nL rt rm w) (hy : y.cls = RX8) (pc : Nat) {N : Nat} {r0 : Option Nat} {x1 : Int32} {v0 : Option Nat} (h : fX8_find N S r0 x1 = some v0) (hR : rmX8_find.frames + 1 ≤ rm.frames ∧ 8 + (2 + 11) + rmX8_find.locals ≤ rm.locals) (hst : (rest.map fun v => v.category).sum ≤ 8) (hf : kc + 0 ≤ rm.cells ∧ ks + 0 ≤ rm.slots) (d : decode cc pc = .ok (.invokevirtual 142, 3)) (K : V g w nL Q S kc ks (pc + 3) lv (va_rf v0 :: rest)) : V g w nL Q S kc ks pc lv (.int x1 :: va_rf r0 :: rest) := by
  obtain ⟨fs, ho⟩ := oX8_find h
  exact v_callV (As := [.int x1]) (rest := rest) (ci := 8) hC pc (tX8_find (l := g.2.1) (w := w) h) rfl (by decide) ho wG307 (by rw [hy]; exact wG306) wG308 wG309 wG197 hdX8_find rfl hR hst hf d K
set_option maxRecDepth 20000 in
theorem qX8_145 {g : VG} {w : VW} {nL : Nat} {Q : State → Prop} {S : pH} {kc ks : Nat} {lv : List (Nat × Value)} {rest : List Value} {y : MethodName} {cc : ByteArray} {rt : Option FieldType} {rm : Room} (hC : Cx g y cc nL rt rm w) (hy : y.cls = RX8) (pc : Nat) {N : Nat} {r0 : Option Nat} {v0 : Int32} (h : fX5_glassCells N S r0 = some v0) (hR : rmX5_glassCells.frames + 1 ≤ rm.frames ∧ 8 + (1 + 11) + rmX5_glassCells.locals ≤ rm.locals) (hst : (rest.map fun v => v.category).sum ≤ 8) (hf : kc + 0 ≤ rm.cells ∧ ks + 0 ≤ rm.slots) (d : decode cc pc = .ok (.invokevirtual 145, 3)) (K : V g w nL Q S kc ks (pc + 3) lv (.int v0 :: rest)) : V g w nL Q S kc ks pc lv (va_rf r0 :: rest) := by
  obtain ⟨fs, ho⟩ := oX5_glassCells h
  exact v_callV (As := []) (rest := rest) (ci := 5) hC pc (tX5_glassCells (l := g.2.1) (w := w) h) rfl (by decide) ho wG311 (by rw [hy]; exact wG310) wG312 wG313 wG62 hdX5_glassCells rfl hR hst hf d K
set_option maxRecDepth 20000 in
theorem qX8_149 {g : VG} {w : VW} {nL : Nat} {Q : State → Prop} {S : pH} {kc ks : Nat} {lv : List (Nat × Value)} {rest : List Value} {y : MethodName} {cc : ByteArray} {rt : Option FieldType} {rm : Room} (hC : Cx g y cc nL rt rm w) (hy : y.cls = RX8) (pc : Nat) {N : Nat} {r0 : Option Nat} {r1 : Option Nat} {v0 : Int32} (h : fX3_costOf N S r0 r1 = some v0) (hR : rmX3_costOf.frames + 1 ≤ rm.frames ∧ 8 + (6 + 11) + rmX3_costOf.locals ≤ rm.locals) (hst : (rest.map fun v => v.category).sum ≤ 8) (hf : kc + 0 ≤ rm.cells ∧ ks + 0 ≤ rm.slots) (d : decode cc pc = .ok (.invokevirtual 149, 3)) (K : V g w nL Q S kc ks (pc + 3) lv (.int v0 :: rest)) : V g w nL Q S kc ks pc lv (va_rf r1 :: va_rf r0 :: rest) := by
  obtain ⟨fs, ho⟩ := oX3_costOf h
  exact v_callV (As := [va_rf r1]) (rest := rest) (ci := 3) hC pc (tX3_costOf (l := g.2.1) (w := w) h) rfl (by decide) ho wG315 (by rw [hy]; exact wG314) wG316 wG317 wG110 hdX3_costOf rfl hR hst hf d K
abbrev rmX8_about : Room := { frames := 4, cells := 0, slots := 0, locals := 88 }
theorem hdX8_about : yX8_about.cls ≠ "java/lang/invoke/MethodHandle" ∧ yX8_about.cls ≠ "java/lang/invoke/VarHandle" ∧ (parseMethodDescriptor yX8_about.desc).map (fun d => d.parameters.length) = some 2 := by decide +kernel
def fX8_about (N : Nat) (S : pH) (r0 : Option Nat) (x1 : Int32) (x2 : Int32) : Option (Int32) :=
  chk S 8 r0 <|
  (fX8_find N S r0 x1).bind fun r21 =>
  if ¬ r21 = none then
  (if x2 = (0 : Int32) then
  ((gfR S 1 0 r21).bind fun r22 =>
  (gfI S 5 1 r22).bind fun x23 =>
  some x23)
  else
  if x2 = (1 : Int32) then
  ((gfI S 1 1 r21).bind fun x25 =>
  some x25)
  else
  if x2 = (2 : Int32) then
  ((gfI S 1 2 r21).bind fun x27 =>
  some x27)
  else
  if x2 = (3 : Int32) then
  ((gfI S 1 3 r21).bind fun x29 =>
  some x29)
  else
  if x2 = (4 : Int32) then
  ((gfR S 1 0 r21).bind fun r31 =>
  (fX5_glassCells N S r31).bind fun x32 =>
  some x32)
  else
  if x2 = (5 : Int32) then
  ((gfR S 8 0 r0).bind fun r34 =>
  (gfR S 1 0 r21).bind fun r35 =>
  (fX3_costOf N S r34 r35).bind fun x36 =>
  some x36)
  else
  some (-1 : Int32))
  else
  some (-1 : Int32)
theorem oX8_about {N : Nat} {S : pH} {r0 : Option Nat} {x1 : Int32} {x2 : Int32} {z : Int32} (h : fX8_about N S r0 x1 x2 = some z) : ∃ fs, obj S 8 r0 = some fs := by
  unfold fX8_about at h
  exact (chk_spec h).1
set_option maxHeartbeats 1000000 in
set_option maxRecDepth 20000 in
theorem tX8_about {l : Launch} {w : VW} {N : Nat} {S : pH} {r0 : Option Nat} {x1 : Int32} {x2 : Int32} {v0 : Int32} (h : fX8_about N S r0 x1 x2 = some v0) : CT l w yX8_about cX8_about 4 (some .int) rmX8_about [va_rf r0, .int x1, .int x2] S (some (.int v0)) S := by
  refine v_entry [(0, va_rf r0), (1, .int x1), (2, .int x2)] (by decide) (by simp [lg_sl, cat_rf, cat_i, cat_j]) (by simp [lv_args, cat_rf, cat_i, cat_j]) (fun g _ hC => ?_)
  unfold fX8_about at h
  obtain ⟨hO, h⟩ := chk_spec h
  refine v_aload_n hC 0 0 dX8_about_0 rfl ?_
  refine v_iload_n hC 1 1 dX8_about_1 rfl ?_
  obtain ⟨r21, er21, h⟩ := obn h
  refine qX8_142 hC rfl 2 er21 (by decide) (catL (Nat.le_of_ble_eq_true rfl)) (by decide) dX8_about_2 ?_
  refine v_astore_n hC [(3, va_rf r21), (0, va_rf r0), (1, .int x1), (2, .int x2)] 5 dX8_about_5 (by decide) rfl ?_
  refine v_aload_n hC 6 0 dX8_about_6 rfl ?_
  refine v_ifnonnull hC 7 12 dX8_about_7 (by decide) (fun c38 => ?_) (fun c38 => ?_)
  · replace h := ifp h c38
    refine v_iload_n hC 12 3 dX8_about_12 rfl ?_
    by_cases c24 : x2 = (0 : Int32)
    · replace h := ifp h c24
      refine v_tabIn hC 13 52 (0 : Int32) c24 dX8_about_13 (by decide) (by decide) rfl (by decide) ?_
      refine v_aload_n hC 52 0 dX8_about_52 rfl ?_
      obtain ⟨r22, er22, h⟩ := obn h
      refine gRX8_117 hC rfl 53 er22 dX8_about_53 ?_
      obtain ⟨x23, ex23, h⟩ := obn h
      refine gRX8_135 hC rfl 56 ex23 dX8_about_56 ?_
      obtain rfl := sp1 h
      exact v_iret hC 59 (by decide) (by decide) dX8_about_59
    replace h := ifn h c24
    by_cases c26 : x2 = (1 : Int32)
    · replace h := ifp h c26
      refine v_tabIn hC 13 60 (1 : Int32) c26 dX8_about_13 (by decide) (by decide) rfl (by decide) ?_
      refine v_aload_n hC 60 0 dX8_about_60 rfl ?_
      obtain ⟨x25, ex25, h⟩ := obn h
      refine gRX8_111 hC rfl 61 ex25 dX8_about_61 ?_
      obtain rfl := sp1 h
      exact v_iret hC 64 (by decide) (by decide) dX8_about_64
    replace h := ifn h c26
    by_cases c28 : x2 = (2 : Int32)
    · replace h := ifp h c28
      refine v_tabIn hC 13 65 (2 : Int32) c28 dX8_about_13 (by decide) (by decide) rfl (by decide) ?_
      refine v_aload_n hC 65 0 dX8_about_65 rfl ?_
      obtain ⟨x27, ex27, h⟩ := obn h
      refine gRX8_114 hC rfl 66 ex27 dX8_about_66 ?_
      obtain rfl := sp1 h
      exact v_iret hC 69 (by decide) (by decide) dX8_about_69
    replace h := ifn h c28
    by_cases c30 : x2 = (3 : Int32)
    · replace h := ifp h c30
      refine v_tabIn hC 13 70 (3 : Int32) c30 dX8_about_13 (by decide) (by decide) rfl (by decide) ?_
      refine v_aload_n hC 70 0 dX8_about_70 rfl ?_
      obtain ⟨x29, ex29, h⟩ := obn h
      refine gRX8_124 hC rfl 71 ex29 dX8_about_71 ?_
      obtain rfl := sp1 h
      exact v_iret hC 74 (by decide) (by decide) dX8_about_74
    replace h := ifn h c30
    by_cases c33 : x2 = (4 : Int32)
    · replace h := ifp h c33
      refine v_tabIn hC 13 75 (4 : Int32) c33 dX8_about_13 (by decide) (by decide) rfl (by decide) ?_
      refine v_aload_n hC 75 0 dX8_about_75 rfl ?_
      obtain ⟨r31, er31, h⟩ := obn h
      refine gRX8_117 hC rfl 76 er31 dX8_about_76 ?_
      obtain ⟨x32, ex32, h⟩ := obn h
      refine qX8_145 hC rfl 79 ex32 (by decide) (catL (Nat.le_of_ble_eq_true rfl)) (by decide) dX8_about_79 ?_
      obtain rfl := sp1 h
      exact v_iret hC 82 (by decide) (by decide) dX8_about_82
    replace h := ifn h c33
    by_cases c37 : x2 = (5 : Int32)
    · replace h := ifp h c37
      refine v_tabIn hC 13 83 (5 : Int32) c37 dX8_about_13 (by decide) (by decide) rfl (by decide) ?_
      refine v_aload_n hC 83 1 dX8_about_83 rfl ?_
      obtain ⟨r34, er34, h⟩ := obn h
      refine gRX8_12 hC rfl 84 er34 dX8_about_84 ?_
      refine v_aload_n hC 87 0 dX8_about_87 rfl ?_
      obtain ⟨r35, er35, h⟩ := obn h
      refine gRX8_117 hC rfl 88 er35 dX8_about_88 ?_
      obtain ⟨x36, ex36, h⟩ := obn h
      refine qX8_149 hC rfl 91 ex36 (by decide) (catL (Nat.le_of_ble_eq_true rfl)) (by decide) dX8_about_91 ?_
      obtain rfl := sp1 h
      exact v_iret hC 94 (by decide) (by decide) dX8_about_94
    replace h := ifn h c37
    refine v_tabOut hC 13 95 dX8_about_13 (by have := lv_neT (a := 0) c24 (by decide); have := lv_neT (a := 1) c26 (by decide); have := lv_neT (a := 2) c28 (by decide); have := lv_neT (a := 3) c30 (by decide); have := lv_neT (a := 4) c33 (by decide); have := lv_neT (a := 5) c37 (by decide); omega) (by decide) ?_
    refine v_iconst hC (-1 : Int32) 95 dX8_about_95 (by decide) ?_
    obtain rfl := sp1 h
    exact v_iret hC 96 (by decide) (by decide) dX8_about_96
  · replace h := ifn h (fun q => q c38)
    refine v_iconst hC (-1 : Int32) 10 dX8_about_10 (by decide) ?_
    obtain rfl := sp1 h
    exact v_iret hC 11 (by decide) (by decide) dX8_about_11
set_option maxRecDepth 20000 in
theorem qX8_189 {g : VG} {w : VW} {nL : Nat} {Q : State → Prop} {S : pH} {kc ks : Nat} {lv : List (Nat × Value)} {rest : List Value} {y : MethodName} {cc : ByteArray} {rt : Option FieldType} {rm : Room} (hC : Cx g y cc nL rt rm w) (hy : y.cls = RX8) (pc : Nat) {N : Nat} {r0 : Option Nat} {x1 : Int32} {x2 : Int32} {v0 : Int32} (h : fX7_caneAt N S r0 x1 x2 = some v0) (hR : rmX7_caneAt.frames + 1 ≤ rm.frames ∧ 8 + (3 + 11) + rmX7_caneAt.locals ≤ rm.locals) (hst : (rest.map fun v => v.category).sum ≤ 8) (hf : kc + 0 ≤ rm.cells ∧ ks + 0 ≤ rm.slots) (d : decode cc pc = .ok (.invokevirtual 189, 3)) (K : V g w nL Q S kc ks (pc + 3) lv (.int v0 :: rest)) : V g w nL Q S kc ks pc lv (.int x2 :: .int x1 :: va_rf r0 :: rest) := by
  obtain ⟨fs, ho⟩ := oX7_caneAt h
  exact v_callV (As := [.int x1, .int x2]) (rest := rest) (ci := 7) hC pc (tX7_caneAt (l := g.2.1) (w := w) h) rfl (by decide) ho wG319 (by rw [hy]; exact wG318) wG320 wG321 wG113 hdX7_caneAt rfl hR hst hf d K
abbrev rmX8_allAlike : Room := { frames := 2, cells := 0, slots := 0, locals := 44 }
theorem hdX8_allAlike : yX8_allAlike.cls ≠ "java/lang/invoke/MethodHandle" ∧ yX8_allAlike.cls ≠ "java/lang/invoke/VarHandle" ∧ (parseMethodDescriptor yX8_allAlike.desc).map (fun d => d.parameters.length) = some 1 := by decide +kernel
def lX8_allAlike_37 (N : Nat) (S : pH) (r0 : Option Nat) (r1 : Option Nat) (x2 : Int32) : Nat → Int32 → Option (Sum (Unit) (Int32))
  | 0, _ => none
  | n + 1, x28 =>
    (gfR S 8 3 r0).bind fun r29 =>
    (gfI S 7 2 r29).bind fun x30 =>
    if x30 ≤ x28 then
    (some (.inl ()))
    else
    (gfR S 8 3 r0).bind fun r31 =>
    (fX7_caneAt N S r31 x28 x2).bind fun x32 =>
    (fX8_find N S r0 x32).bind fun r33 =>
    if r33 = none then
    (some (.inr (0 : Int32)))
    else
    (gfI S 1 3 r33).bind fun x34 =>
    if ¬ x34 = 0 then
    (some (.inr (0 : Int32)))
    else
    (gfR S 1 0 r33).bind fun r35 =>
    (gfI S 5 1 r35).bind fun x36 =>
    (gfR S 1 0 r1).bind fun r37 =>
    (gfI S 5 1 r37).bind fun x38 =>
    if ¬ x36 = x38 then
    (some (.inr (0 : Int32)))
    else
    (gfI S 1 2 r33).bind fun x39 =>
    (gfI S 1 2 r1).bind fun x40 =>
    if x39 = x40 then
    (nm (x28 + (1 : Int32)) fun x41 =>
    lX8_allAlike_37 N S r0 r1 x2 n x41)
    else
    some (.inr (0 : Int32))
def lX8_allAlike_24 (N : Nat) (S : pH) (r0 : Option Nat) (r1 : Option Nat) : Nat → Int32 → Option (Sum (Unit) (Int32))
  | 0, _ => none
  | n + 1, x25 =>
    (gfR S 8 3 r0).bind fun r26 =>
    (gfI S 7 2 r26).bind fun x27 =>
    if x27 ≤ x25 then
    (some (.inl ()))
    else
    bS1 (lX8_allAlike_37 N S r0 r1 x25 N (0 : Int32)) (fun r9 => some (.inr r9)) fun u9 =>
    nm (x25 + (1 : Int32)) fun x47 =>
    lX8_allAlike_24 N S r0 r1 n x47
def fX8_allAlike (N : Nat) (S : pH) (r0 : Option Nat) (r1 : Option Nat) : Option (Int32) :=
  chk S 8 r0 <|
  (gfR S 8 3 r0).bind fun r21 =>
  (gfI S 7 2 r21).bind fun x22 =>
  (gfR S 1 0 r1).bind fun r23 =>
  (gfI S 5 1 r23).bind fun x24 =>
  if (x22 * x24) ≤ (8 : Int32) then
  (bS1 (lX8_allAlike_24 N S r0 r1 N (0 : Int32)) (fun r9 => some r9) fun u9 =>
  some (1 : Int32))
  else
  some (0 : Int32)
theorem oX8_allAlike {N : Nat} {S : pH} {r0 : Option Nat} {r1 : Option Nat} {z : Int32} (h : fX8_allAlike N S r0 r1 = some z) : ∃ fs, obj S 8 r0 = some fs := by
  unfold fX8_allAlike at h
  exact (chk_spec h).1
set_option maxHeartbeats 1000000 in
set_option maxRecDepth 20000 in
theorem kX8_allAlike_37 {g : VG} {w : VW} {N : Nat} {S : pH} {r0 : Option Nat} {r1 : Option Nat} {x2 : Int32} {v0 : Int32} (hC : Cx g yX8_allAlike cX8_allAlike 5 (some .boolean) rmX8_allAlike w) : ∀ (n : Nat) (x28 : Int32) (z : (Sum (Unit) (Int32))), lX8_allAlike_37 N S r0 r1 x2 n x28 = some z → (∀ (u9 : Unit), z = .inl u9 → V g w 5 (Qm g w rmX8_allAlike.cells rmX8_allAlike.slots (some (.int v0)) S) S 0 0 114 [(0, va_rf r0), (1, va_rf r1), (2, .int x2)] []) → (∀ (v1 : Int32), z = .inr v1 → v0 = v1) → V g w 5 (Qm g w rmX8_allAlike.cells rmX8_allAlike.slots (some (.int v0)) S) S 0 0 37 [(0, va_rf r0), (1, va_rf r1), (2, .int x2), (3, .int x28)] [] := by
  intro n
  induction n with
  | zero => intro x28 z h; rw [lX8_allAlike_37] at h; cases h
  | succ n ih =>
    intro x28 z h K hR
    rw [lX8_allAlike_37] at h
    refine v_iload_n hC 37 3 dX8_allAlike_37 rfl ?_
    refine v_aload_n hC 38 0 dX8_allAlike_38 rfl ?_
    obtain ⟨r29, er29, h⟩ := obn h
    refine gRX8_29 hC rfl 39 er29 dX8_allAlike_39 ?_
    obtain ⟨x30, ex30, h⟩ := obn h
    refine gRX8_206 hC rfl 42 ex30 dX8_allAlike_42 ?_
    refine v_icmp_ge hC 45 114 dX8_allAlike_45 (by decide) (fun c46 => ?_) (fun c46 => ?_)
    · replace h := ifp h c46
      refine v_sub [(0, va_rf r0), (1, va_rf r1), (2, .int x2)] [0, 1, 2] rfl ?_
      exact K _ (sp1 h)
    · replace h := ifn h c46
      refine v_aload_n hC 48 0 dX8_allAlike_48 rfl ?_
      refine v_aload_n hC 49 0 dX8_allAlike_49 rfl ?_
      obtain ⟨r31, er31, h⟩ := obn h
      refine gRX8_29 hC rfl 50 er31 dX8_allAlike_50 ?_
      refine v_iload_n hC 53 3 dX8_allAlike_53 rfl ?_
      refine v_iload_n hC 54 2 dX8_allAlike_54 rfl ?_
      obtain ⟨x32, ex32, h⟩ := obn h
      refine qX8_189 hC rfl 55 ex32 (by decide) (catL (Nat.le_of_ble_eq_true rfl)) (by decide) dX8_allAlike_55 ?_
      obtain ⟨r33, er33, h⟩ := obn h
      refine qX8_142 hC rfl 58 er33 (by decide) (catL (Nat.le_of_ble_eq_true rfl)) (by decide) dX8_allAlike_58 ?_
      refine v_astore hC [(4, va_rf r33), (0, va_rf r0), (1, va_rf r1), (2, .int x2), (3, .int x28)] 61 dX8_allAlike_61 (by decide) rfl ?_
      refine v_aload hC 63 0 dX8_allAlike_63 rfl ?_
      refine v_ifnull hC 65 106 dX8_allAlike_65 (by decide) (fun c45 => ?_) (fun c45 => ?_)
      · replace h := ifp h c45
        refine v_iconst hC (0 : Int32) 106 dX8_allAlike_106 (by decide) ?_
        obtain rfl := hR _ (sp1 h)
        exact v_zret hC 107 (by decide) (by decide) (by decide) dX8_allAlike_107
      · replace h := ifn h c45
        refine v_aload hC 68 0 dX8_allAlike_68 rfl ?_
        obtain ⟨x34, ex34, h⟩ := obn h
        refine gRX8_124 hC rfl 70 ex34 dX8_allAlike_70 ?_
        refine v_if_ne hC 73 106 dX8_allAlike_73 (by decide) (fun c44 => ?_) (fun c44 => ?_)
        · replace h := ifp h c44
          refine v_iconst hC (0 : Int32) 106 dX8_allAlike_106 (by decide) ?_
          obtain rfl := hR _ (sp1 h)
          exact v_zret hC 107 (by decide) (by decide) (by decide) dX8_allAlike_107
        · replace h := ifn h (fun q => q c44)
          refine v_aload hC 76 0 dX8_allAlike_76 rfl ?_
          obtain ⟨r35, er35, h⟩ := obn h
          refine gRX8_117 hC rfl 78 er35 dX8_allAlike_78 ?_
          obtain ⟨x36, ex36, h⟩ := obn h
          refine gRX8_135 hC rfl 81 ex36 dX8_allAlike_81 ?_
          refine v_aload_n hC 84 2 dX8_allAlike_84 rfl ?_
          obtain ⟨r37, er37, h⟩ := obn h
          refine gRX8_117 hC rfl 85 er37 dX8_allAlike_85 ?_
          obtain ⟨x38, ex38, h⟩ := obn h
          refine gRX8_135 hC rfl 88 ex38 dX8_allAlike_88 ?_
          refine v_icmp_ne hC 91 106 dX8_allAlike_91 (by decide) (fun c43 => ?_) (fun c43 => ?_)
          · replace h := ifp h c43
            refine v_iconst hC (0 : Int32) 106 dX8_allAlike_106 (by decide) ?_
            obtain rfl := hR _ (sp1 h)
            exact v_zret hC 107 (by decide) (by decide) (by decide) dX8_allAlike_107
          · replace h := ifn h (fun q => q c43)
            refine v_aload hC 94 0 dX8_allAlike_94 rfl ?_
            obtain ⟨x39, ex39, h⟩ := obn h
            refine gRX8_114 hC rfl 96 ex39 dX8_allAlike_96 ?_
            refine v_aload_n hC 99 2 dX8_allAlike_99 rfl ?_
            obtain ⟨x40, ex40, h⟩ := obn h
            refine gRX8_114 hC rfl 100 ex40 dX8_allAlike_100 ?_
            refine v_icmp_eq hC 103 108 dX8_allAlike_103 (by decide) (fun c42 => ?_) (fun c42 => ?_)
            · replace h := ifp h c42
              obtain ⟨x41, ex41, h⟩ := onm h
              refine v_iinc hC x41 [(3, .int x41), (4, va_rf r33), (0, va_rf r0), (1, va_rf r1), (2, .int x2)] 108 4 dX8_allAlike_108 rfl (by rw [ex41]; rfl) (by decide) rfl ?_
              refine v_goto hC 111 37 dX8_allAlike_111 (by decide) ?_
              refine v_sub [(0, va_rf r0), (1, va_rf r1), (2, .int x2), (3, .int x41)] [2, 3, 4, 0] rfl ?_
              exact ih _ _ h K hR
            · replace h := ifn h c42
              refine v_iconst hC (0 : Int32) 106 dX8_allAlike_106 (by decide) ?_
              obtain rfl := hR _ (sp1 h)
              exact v_zret hC 107 (by decide) (by decide) (by decide) dX8_allAlike_107
set_option maxHeartbeats 1000000 in
set_option maxRecDepth 20000 in
theorem kX8_allAlike_24 {g : VG} {w : VW} {N : Nat} {S : pH} {r0 : Option Nat} {r1 : Option Nat} {v0 : Int32} (hC : Cx g yX8_allAlike cX8_allAlike 5 (some .boolean) rmX8_allAlike w) : ∀ (n : Nat) (x25 : Int32) (z : (Sum (Unit) (Int32))), lX8_allAlike_24 N S r0 r1 n x25 = some z → (∀ (u9 : Unit), z = .inl u9 → V g w 5 (Qm g w rmX8_allAlike.cells rmX8_allAlike.slots (some (.int v0)) S) S 0 0 120 [] []) → (∀ (v1 : Int32), z = .inr v1 → v0 = v1) → V g w 5 (Qm g w rmX8_allAlike.cells rmX8_allAlike.slots (some (.int v0)) S) S 0 0 24 [(0, va_rf r0), (1, va_rf r1), (2, .int x25)] [] := by
  intro n
  induction n with
  | zero => intro x25 z h; rw [lX8_allAlike_24] at h; cases h
  | succ n ih =>
    intro x25 z h K hR
    rw [lX8_allAlike_24] at h
    refine v_iload_n hC 24 2 dX8_allAlike_24 rfl ?_
    refine v_aload_n hC 25 0 dX8_allAlike_25 rfl ?_
    obtain ⟨r26, er26, h⟩ := obn h
    refine gRX8_29 hC rfl 26 er26 dX8_allAlike_26 ?_
    obtain ⟨x27, ex27, h⟩ := obn h
    refine gRX8_206 hC rfl 29 ex27 dX8_allAlike_29 ?_
    refine v_icmp_ge hC 32 120 dX8_allAlike_32 (by decide) (fun c48 => ?_) (fun c48 => ?_)
    · replace h := ifp h c48
      refine v_sub [] [] rfl ?_
      exact K _ (sp1 h)
    · replace h := ifn h c48
      refine v_iconst hC (0 : Int32) 35 dX8_allAlike_35 (by decide) ?_
      refine v_istore_n hC [(3, .int (0 : Int32)), (0, va_rf r0), (1, va_rf r1), (2, .int x25)] 36 dX8_allAlike_36 (by decide) rfl ?_
      rcases obS1 h with ⟨u9, E37, h⟩ | ⟨r9, E37, h⟩
      · refine v_sub [(0, va_rf r0), (1, va_rf r1), (2, .int x25), (3, .int (0 : Int32))] [1, 2, 3, 0] rfl ?_
        refine kX8_allAlike_37 hC _ _ _ E37 (fun _ hz9 => ?_) (fun _ hz9 => by cases hz9)
        cases hz9
        obtain ⟨x47, ex47, h⟩ := onm h
        refine v_iinc hC x47 [(2, .int x47), (0, va_rf r0), (1, va_rf r1)] 114 2 dX8_allAlike_114 rfl (by rw [ex47]; rfl) (by decide) (by first | rfl | (simp [cat_rf, cat_i, cat_j]; done) | (simp [cat_rf, cat_i, cat_j]; decide)) ?_
        refine v_goto hC 117 24 dX8_allAlike_117 (by decide) ?_
        refine v_sub [(0, va_rf r0), (1, va_rf r1), (2, .int x47)] [1, 2, 0] rfl ?_
        exact ih _ _ h K hR
      · refine v_sub [(0, va_rf r0), (1, va_rf r1), (2, .int x25), (3, .int (0 : Int32))] [1, 2, 3, 0] rfl ?_
        exact kX8_allAlike_37 hC _ _ _ E37 (fun _ hz9 => by cases hz9) (fun _ hz9 => by cases hz9; exact hR _ (sp1 h))
set_option maxHeartbeats 1000000 in
set_option maxRecDepth 20000 in
theorem tX8_allAlike {l : Launch} {w : VW} {N : Nat} {S : pH} {r0 : Option Nat} {r1 : Option Nat} {v0 : Int32} (h : fX8_allAlike N S r0 r1 = some v0) : CT l w yX8_allAlike cX8_allAlike 5 (some .boolean) rmX8_allAlike [va_rf r0, va_rf r1] S (some (.int v0)) S := by
  refine v_entry [(0, va_rf r0), (1, va_rf r1)] (by decide) (by simp [lg_sl, cat_rf, cat_i, cat_j]) (by simp [lv_args, cat_rf, cat_i, cat_j]) (fun g _ hC => ?_)
  unfold fX8_allAlike at h
  obtain ⟨hO, h⟩ := chk_spec h
  refine v_aload_n hC 0 0 dX8_allAlike_0 rfl ?_
  obtain ⟨r21, er21, h⟩ := obn h
  refine gRX8_29 hC rfl 1 er21 dX8_allAlike_1 ?_
  obtain ⟨x22, ex22, h⟩ := obn h
  refine gRX8_206 hC rfl 4 ex22 dX8_allAlike_4 ?_
  refine v_aload_n hC 7 1 dX8_allAlike_7 rfl ?_
  obtain ⟨r23, er23, h⟩ := obn h
  refine gRX8_117 hC rfl 8 er23 dX8_allAlike_8 ?_
  obtain ⟨x24, ex24, h⟩ := obn h
  refine gRX8_135 hC rfl 11 ex24 dX8_allAlike_11 ?_
  refine v_imul hC 14 dX8_allAlike_14 ?_
  refine v_bipush hC (8 : Int32) 15 dX8_allAlike_15 (by decide) ?_
  refine v_icmp_le hC 17 22 dX8_allAlike_17 (by decide) (fun c49 => ?_) (fun c49 => ?_)
  · replace h := ifp h c49
    refine v_iconst hC (0 : Int32) 22 dX8_allAlike_22 (by decide) ?_
    refine v_istore_n hC [(2, .int (0 : Int32)), (0, va_rf r0), (1, va_rf r1)] 23 dX8_allAlike_23 (by decide) (by first | rfl | (simp [cat_rf, cat_i, cat_j]; done) | (simp [cat_rf, cat_i, cat_j]; decide)) ?_
    rcases obS1 h with ⟨u9, E24, h⟩ | ⟨r9, E24, h⟩
    · refine v_sub [(0, va_rf r0), (1, va_rf r1), (2, .int (0 : Int32))] [1, 2, 0] rfl ?_
      refine kX8_allAlike_24 hC _ _ _ E24 (fun _ hz9 => ?_) (fun _ hz9 => by cases hz9)
      cases hz9
      refine v_iconst hC (1 : Int32) 120 dX8_allAlike_120 (by decide) ?_
      obtain rfl := sp1 h
      exact v_zret hC 121 (by decide) (by decide) (by decide) dX8_allAlike_121
    · refine v_sub [(0, va_rf r0), (1, va_rf r1), (2, .int (0 : Int32))] [1, 2, 0] rfl ?_
      exact kX8_allAlike_24 hC _ _ _ E24 (fun _ hz9 => by cases hz9) (fun _ hz9 => by cases hz9; cases h; exact rfl)
  · replace h := ifn h c49
    refine v_iconst hC (0 : Int32) 20 dX8_allAlike_20 (by decide) ?_
    obtain rfl := sp1 h
    exact v_zret hC 21 (by decide) (by decide) (by decide) dX8_allAlike_21
set_option maxRecDepth 20000 in
theorem qX8_203 {g : VG} {w : VW} {nL : Nat} {Q : State → Prop} {S : pH} {kc ks : Nat} {lv : List (Nat × Value)} {rest : List Value} {y : MethodName} {cc : ByteArray} {rt : Option FieldType} {rm : Room} (hC : Cx g y cc nL rt rm w) (hy : y.cls = RX8) (pc : Nat) {N : Nat} {r0 : Option Nat} {x1 : Int32} {v0 : Int32} (h : fX7_placesOf N S r0 x1 = some v0) (hR : rmX7_placesOf.frames + 1 ≤ rm.frames ∧ 8 + (4 + 11) + rmX7_placesOf.locals ≤ rm.locals) (hst : (rest.map fun v => v.category).sum ≤ 8) (hf : kc + 0 ≤ rm.cells ∧ ks + 0 ≤ rm.slots) (d : decode cc pc = .ok (.invokevirtual 203, 3)) (K : V g w nL Q S kc ks (pc + 3) lv (.int v0 :: rest)) : V g w nL Q S kc ks pc lv (.int x1 :: va_rf r0 :: rest) := by
  obtain ⟨fs, ho⟩ := oX7_placesOf h
  exact v_callV (As := [.int x1]) (rest := rest) (ci := 7) hC pc (tX7_placesOf (l := g.2.1) (w := w) h) rfl (by decide) ho wG323 (by rw [hy]; exact wG322) wG324 wG325 wG113 hdX7_placesOf rfl hR hst hf d K
abbrev rmX8_allLongEnough : Room := { frames := 1, cells := 0, slots := 0, locals := 23 }
theorem hdX8_allLongEnough : yX8_allLongEnough.cls ≠ "java/lang/invoke/MethodHandle" ∧ yX8_allLongEnough.cls ≠ "java/lang/invoke/VarHandle" ∧ (parseMethodDescriptor yX8_allLongEnough.desc).map (fun d => d.parameters.length) = some 1 := by decide +kernel
def lX8_allLongEnough_2 (N : Nat) (S : pH) (r0 : Option Nat) (x1 : Int32) : Nat → Int32 → Option (Sum (Unit) (Int32))
  | 0, _ => none
  | n + 1, x21 =>
    (gfI S 8 2 r0).bind fun x22 =>
    if x22 ≤ x21 then
    (some (.inl ()))
    else
    (fX8_find N S r0 x21).bind fun r23 =>
    nm (fun (_ : Unit) =>
    nm (x21 + (1 : Int32)) fun x24 =>
    lX8_allLongEnough_2 N S r0 x1 n x24) fun j39 =>
    if r23 = none then
    (j39 ())
    else
    (gfI S 1 1 r23).bind fun x25 =>
    (gfR S 8 3 r0).bind fun r26 =>
    (fX7_placesOf N S r26 x21).bind fun x27 =>
    if (x1 * x27) ≤ x25 then
    (j39 ())
    else
    some (.inr (0 : Int32))
def fX8_allLongEnough (N : Nat) (S : pH) (r0 : Option Nat) (x1 : Int32) : Option (Int32) :=
  chk S 8 r0 <|
  bS1 (lX8_allLongEnough_2 N S r0 x1 N (0 : Int32)) (fun r9 => some r9) fun u9 =>
  some (1 : Int32)
theorem oX8_allLongEnough {N : Nat} {S : pH} {r0 : Option Nat} {x1 : Int32} {z : Int32} (h : fX8_allLongEnough N S r0 x1 = some z) : ∃ fs, obj S 8 r0 = some fs := by
  unfold fX8_allLongEnough at h
  exact (chk_spec h).1
set_option maxHeartbeats 1000000 in
set_option maxRecDepth 20000 in
theorem kX8_allLongEnough_2 {g : VG} {w : VW} {N : Nat} {S : pH} {r0 : Option Nat} {x1 : Int32} {v0 : Int32} (hC : Cx g yX8_allLongEnough cX8_allLongEnough 4 (some .boolean) rmX8_allLongEnough w) : ∀ (n : Nat) (x21 : Int32) (z : (Sum (Unit) (Int32))), lX8_allLongEnough_2 N S r0 x1 n x21 = some z → (∀ (u9 : Unit), z = .inl u9 → V g w 4 (Qm g w rmX8_allLongEnough.cells rmX8_allLongEnough.slots (some (.int v0)) S) S 0 0 45 [] []) → (∀ (v1 : Int32), z = .inr v1 → v0 = v1) → V g w 4 (Qm g w rmX8_allLongEnough.cells rmX8_allLongEnough.slots (some (.int v0)) S) S 0 0 2 [(0, va_rf r0), (1, .int x1), (2, .int x21)] [] := by
  intro n
  induction n with
  | zero => intro x21 z h; rw [lX8_allLongEnough_2] at h; cases h
  | succ n ih =>
    intro x21 z h K hR
    rw [lX8_allLongEnough_2] at h
    refine v_iload_n hC 2 2 dX8_allLongEnough_2 rfl ?_
    refine v_aload_n hC 3 0 dX8_allLongEnough_3 rfl ?_
    obtain ⟨x22, ex22, h⟩ := obn h
    refine gRX8_22 hC rfl 4 ex22 dX8_allLongEnough_4 ?_
    refine v_icmp_ge hC 7 45 dX8_allLongEnough_7 (by decide) (fun c30 => ?_) (fun c30 => ?_)
    · replace h := ifp h c30
      refine v_sub [] [] rfl ?_
      exact K _ (sp1 h)
    · replace h := ifn h c30
      refine v_aload_n hC 10 0 dX8_allLongEnough_10 rfl ?_
      refine v_iload_n hC 11 2 dX8_allLongEnough_11 rfl ?_
      obtain ⟨r23, er23, h⟩ := obn h
      refine qX8_142 hC rfl 12 er23 (by decide) (catL (Nat.le_of_ble_eq_true rfl)) (by decide) dX8_allLongEnough_12 ?_
      refine v_astore_n hC [(3, va_rf r23), (0, va_rf r0), (1, .int x1), (2, .int x21)] 15 dX8_allLongEnough_15 (by decide) rfl ?_
      refine v_aload_n hC 16 0 dX8_allLongEnough_16 rfl ?_
      obtain ⟨j39, f39, h⟩ := onm h
      have J39 : ∀ (u9 : Unit), j39 u9 = some z → V g w 4 (Qm g w rmX8_allLongEnough.cells rmX8_allLongEnough.slots (some (.int v0)) S) S 0 0 39 [(0, va_rf r0), (1, .int x1), (2, .int x21)] [] := by
        intro u9 h
        replace h := jb1 f39 h
        obtain ⟨x24, ex24, h⟩ := onm h
        refine v_iinc hC x24 [(2, .int x24), (0, va_rf r0), (1, .int x1)] 39 2 dX8_allLongEnough_39 rfl (by rw [ex24]; rfl) (by decide) rfl ?_
        refine v_goto hC 42 2 dX8_allLongEnough_42 (by decide) ?_
        refine v_sub [(0, va_rf r0), (1, .int x1), (2, .int x24)] [1, 2, 0] rfl ?_
        exact ih _ _ h K hR
      refine v_ifnull hC 17 39 dX8_allLongEnough_17 (by decide) (fun c29 => ?_) (fun c29 => ?_)
      · replace h := ifp h c29
        refine v_sub [(0, va_rf r0), (1, .int x1), (2, .int x21)] [1, 2, 3] rfl ?_
        exact J39 _ h
      · replace h := ifn h c29
        refine v_aload_n hC 20 0 dX8_allLongEnough_20 rfl ?_
        obtain ⟨x25, ex25, h⟩ := obn h
        refine gRX8_111 hC rfl 21 ex25 dX8_allLongEnough_21 ?_
        refine v_iload_n hC 24 2 dX8_allLongEnough_24 rfl ?_
        refine v_aload_n hC 25 1 dX8_allLongEnough_25 rfl ?_
        obtain ⟨r26, er26, h⟩ := obn h
        refine gRX8_29 hC rfl 26 er26 dX8_allLongEnough_26 ?_
        refine v_iload_n hC 29 3 dX8_allLongEnough_29 rfl ?_
        obtain ⟨x27, ex27, h⟩ := obn h
        refine qX8_203 hC rfl 30 ex27 (by decide) (catL (Nat.le_of_ble_eq_true rfl)) (by decide) dX8_allLongEnough_30 ?_
        refine v_imul hC 33 dX8_allLongEnough_33 ?_
        refine v_icmp_ge hC 34 39 dX8_allLongEnough_34 (by decide) (fun c28 => ?_) (fun c28 => ?_)
        · replace h := ifp h c28
          refine v_sub [(0, va_rf r0), (1, .int x1), (2, .int x21)] [1, 2, 3] rfl ?_
          exact J39 _ h
        · replace h := ifn h c28
          refine v_iconst hC (0 : Int32) 37 dX8_allLongEnough_37 (by decide) ?_
          obtain rfl := hR _ (sp1 h)
          exact v_zret hC 38 (by decide) (by decide) (by decide) dX8_allLongEnough_38
set_option maxHeartbeats 1000000 in
set_option maxRecDepth 20000 in
theorem tX8_allLongEnough {l : Launch} {w : VW} {N : Nat} {S : pH} {r0 : Option Nat} {x1 : Int32} {v0 : Int32} (h : fX8_allLongEnough N S r0 x1 = some v0) : CT l w yX8_allLongEnough cX8_allLongEnough 4 (some .boolean) rmX8_allLongEnough [va_rf r0, .int x1] S (some (.int v0)) S := by
  refine v_entry [(0, va_rf r0), (1, .int x1)] (by decide) (by simp [lg_sl, cat_rf, cat_i, cat_j]) (by simp [lv_args, cat_rf, cat_i, cat_j]) (fun g _ hC => ?_)
  unfold fX8_allLongEnough at h
  obtain ⟨hO, h⟩ := chk_spec h
  refine v_iconst hC (0 : Int32) 0 dX8_allLongEnough_0 (by decide) ?_
  refine v_istore_n hC [(2, .int (0 : Int32)), (0, va_rf r0), (1, .int x1)] 1 dX8_allLongEnough_1 (by decide) rfl ?_
  rcases obS1 h with ⟨u9, E2, h⟩ | ⟨r9, E2, h⟩
  · refine v_sub [(0, va_rf r0), (1, .int x1), (2, .int (0 : Int32))] [1, 2, 0] rfl ?_
    refine kX8_allLongEnough_2 hC _ _ _ E2 (fun _ hz9 => ?_) (fun _ hz9 => by cases hz9)
    cases hz9
    refine v_iconst hC (1 : Int32) 45 dX8_allLongEnough_45 (by decide) ?_
    obtain rfl := sp1 h
    exact v_zret hC 46 (by decide) (by decide) (by decide) dX8_allLongEnough_46
  · refine v_sub [(0, va_rf r0), (1, .int x1), (2, .int (0 : Int32))] [1, 2, 0] rfl ?_
    exact kX8_allLongEnough_2 hC _ _ _ E2 (fun _ hz9 => by cases hz9) (fun _ hz9 => by cases hz9; cases h; exact rfl)
set_option maxRecDepth 20000 in
theorem qX8_306 {g : VG} {w : VW} {nL : Nat} {Q : State → Prop} {S : pH} {kc ks : Nat} {lv : List (Nat × Value)} {rest : List Value} {y : MethodName} {cc : ByteArray} {rt : Option FieldType} {rm : Room} (hC : Cx g y cc nL rt rm w) (hy : y.cls = RX8) (pc : Nat) {N : Nat} {r0 : Option Nat} {v0 : Int32} {S0 : pH} (h : fX6_forget N S r0 = some (v0, S0)) (hR : rmX6_forget.frames + 1 ≤ rm.frames ∧ 8 + (2 + 11) + rmX6_forget.locals ≤ rm.locals) (hst : (rest.map fun v => v.category).sum ≤ 8) (hf : kc + 0 ≤ rm.cells ∧ ks + 0 ≤ rm.slots) (d : decode cc pc = .ok (.invokevirtual 306, 3)) (K : V g w nL Q S0 kc ks (pc + 3) lv (.int v0 :: rest)) : V g w nL Q S kc ks pc lv (va_rf r0 :: rest) := by
  obtain ⟨fs, ho⟩ := oX6_forget h
  exact v_callV (As := []) (rest := rest) (ci := 6) hC pc (tX6_forget (l := g.2.1) (w := w) h) rfl (by decide) ho wG327 (by rw [hy]; exact wG326) wG328 wG329 wG125 hdX6_forget rfl hR hst hf d K
abbrev rmX8_anew : Room := { frames := 1, cells := 0, slots := 0, locals := 21 }
theorem hdX8_anew : yX8_anew.cls ≠ "java/lang/invoke/MethodHandle" ∧ yX8_anew.cls ≠ "java/lang/invoke/VarHandle" ∧ (parseMethodDescriptor yX8_anew.desc).map (fun d => d.parameters.length) = some 0 := by decide +kernel
def fX8_anew (N : Nat) (S : pH) (r0 : Option Nat) : Option (Int32 × pH) :=
  chk S 8 r0 <|
  (gfR S 8 9 r0).bind fun r21 =>
  b2 (fX6_forget N S r21) fun x22 S23 =>
  some (x22, S23)
theorem oX8_anew {N : Nat} {S : pH} {r0 : Option Nat} {z : Int32 × pH} (h : fX8_anew N S r0 = some z) : ∃ fs, obj S 8 r0 = some fs := by
  unfold fX8_anew at h
  exact (chk_spec h).1
set_option maxHeartbeats 1000000 in
set_option maxRecDepth 20000 in
theorem tX8_anew {l : Launch} {w : VW} {N : Nat} {S : pH} {r0 : Option Nat} {v0 : Int32} {S0 : pH} (h : fX8_anew N S r0 = some (v0, S0)) : CT l w yX8_anew cX8_anew 1 (some .int) rmX8_anew [va_rf r0] S (some (.int v0)) S0 := by
  refine v_entry [(0, va_rf r0)] (by decide) (by simp [lg_sl, cat_rf, cat_i, cat_j]) (by simp [lv_args, cat_rf, cat_i, cat_j]) (fun g _ hC => ?_)
  unfold fX8_anew at h
  obtain ⟨hO, h⟩ := chk_spec h
  refine v_aload_n hC 0 0 dX8_anew_0 rfl ?_
  obtain ⟨r21, er21, h⟩ := obn h
  refine gRX8_69 hC rfl 1 er21 dX8_anew_1 ?_
  obtain ⟨x22, S23, ex22, h⟩ := ob2 h
  refine qX8_306 hC rfl 4 ex22 (by decide) (catL (Nat.le_of_ble_eq_true rfl)) (by decide) dX8_anew_4 ?_
  obtain ⟨rfl, rfl⟩ := sp2 h
  exact v_iret hC 7 (by decide) (by decide) dX8_anew_7
set_option maxRecDepth 20000 in
theorem qX8_307 {g : VG} {w : VW} {nL : Nat} {Q : State → Prop} {S : pH} {kc ks : Nat} {lv : List (Nat × Value)} {rest : List Value} {y : MethodName} {cc : ByteArray} {rt : Option FieldType} {rm : Room} (hC : Cx g y cc nL rt rm w) (hy : y.cls = RX8) (pc : Nat) {N : Nat} {r0 : Option Nat} {v0 : Int32} (h : fX6_casesLeft N S r0 = some v0) (hR : rmX6_casesLeft.frames + 1 ≤ rm.frames ∧ 8 + (1 + 11) + rmX6_casesLeft.locals ≤ rm.locals) (hst : (rest.map fun v => v.category).sum ≤ 8) (hf : kc + 0 ≤ rm.cells ∧ ks + 0 ≤ rm.slots) (d : decode cc pc = .ok (.invokevirtual 307, 3)) (K : V g w nL Q S kc ks (pc + 3) lv (.int v0 :: rest)) : V g w nL Q S kc ks pc lv (va_rf r0 :: rest) := by
  obtain ⟨fs, ho⟩ := oX6_casesLeft h
  exact v_callV (As := []) (rest := rest) (ci := 6) hC pc (tX6_casesLeft (l := g.2.1) (w := w) h) rfl (by decide) ho wG290 (by rw [hy]; exact wG330) wG291 wG292 wG125 hdX6_casesLeft rfl hR hst hf d K
abbrev rmX8_bad : Room := { frames := 2, cells := 0, slots := 0, locals := 40 }
theorem hdX8_bad : yX8_bad.cls ≠ "java/lang/invoke/MethodHandle" ∧ yX8_bad.cls ≠ "java/lang/invoke/VarHandle" ∧ (parseMethodDescriptor yX8_bad.desc).map (fun d => d.parameters.length) = some 1 := by decide +kernel
def fX8_bad (N : Nat) (S : pH) (r0 : Option Nat) (x1 : Int32) : Option (Int32) :=
  chk S 8 r0 <|
  if x1 = (0 : Int32) then
  ((gfR S 8 9 r0).bind fun r21 =>
  (fX6_casesLeft N S r21).bind fun x22 =>
  some x22)
  else
  if x1 = (1 : Int32) then
  ((gfR S 8 9 r0).bind fun r24 =>
  (gfI S 6 0 r24).bind fun x25 =>
  some x25)
  else
  if x1 = (2 : Int32) then
  ((gfR S 8 9 r0).bind fun r27 =>
  (gfI S 6 1 r27).bind fun x28 =>
  some x28)
  else
  some (-1 : Int32)
theorem oX8_bad {N : Nat} {S : pH} {r0 : Option Nat} {x1 : Int32} {z : Int32} (h : fX8_bad N S r0 x1 = some z) : ∃ fs, obj S 8 r0 = some fs := by
  unfold fX8_bad at h
  exact (chk_spec h).1
set_option maxHeartbeats 1000000 in
set_option maxRecDepth 20000 in
theorem tX8_bad {l : Launch} {w : VW} {N : Nat} {S : pH} {r0 : Option Nat} {x1 : Int32} {v0 : Int32} (h : fX8_bad N S r0 x1 = some v0) : CT l w yX8_bad cX8_bad 2 (some .int) rmX8_bad [va_rf r0, .int x1] S (some (.int v0)) S := by
  refine v_entry [(0, va_rf r0), (1, .int x1)] (by decide) (by simp [lg_sl, cat_rf, cat_i, cat_j]) (by simp [lv_args, cat_rf, cat_i, cat_j]) (fun g _ hC => ?_)
  unfold fX8_bad at h
  obtain ⟨hO, h⟩ := chk_spec h
  refine v_iload_n hC 0 1 dX8_bad_0 rfl ?_
  by_cases c23 : x1 = (0 : Int32)
  · replace h := ifp h c23
    refine v_tabIn hC 1 28 (0 : Int32) c23 dX8_bad_1 (by decide) (by decide) rfl (by decide) ?_
    refine v_aload_n hC 28 0 dX8_bad_28 rfl ?_
    obtain ⟨r21, er21, h⟩ := obn h
    refine gRX8_69 hC rfl 29 er21 dX8_bad_29 ?_
    obtain ⟨x22, ex22, h⟩ := obn h
    refine qX8_307 hC rfl 32 ex22 (by decide) (catL (Nat.le_of_ble_eq_true rfl)) (by decide) dX8_bad_32 ?_
    obtain rfl := sp1 h
    exact v_iret hC 35 (by decide) (by decide) dX8_bad_35
  replace h := ifn h c23
  by_cases c26 : x1 = (1 : Int32)
  · replace h := ifp h c26
    refine v_tabIn hC 1 36 (1 : Int32) c26 dX8_bad_1 (by decide) (by decide) rfl (by decide) ?_
    refine v_aload_n hC 36 0 dX8_bad_36 rfl ?_
    obtain ⟨r24, er24, h⟩ := obn h
    refine gRX8_69 hC rfl 37 er24 dX8_bad_37 ?_
    obtain ⟨x25, ex25, h⟩ := obn h
    refine gRX8_310 hC rfl 40 ex25 dX8_bad_40 ?_
    obtain rfl := sp1 h
    exact v_iret hC 43 (by decide) (by decide) dX8_bad_43
  replace h := ifn h c26
  by_cases c29 : x1 = (2 : Int32)
  · replace h := ifp h c29
    refine v_tabIn hC 1 44 (2 : Int32) c29 dX8_bad_1 (by decide) (by decide) rfl (by decide) ?_
    refine v_aload_n hC 44 0 dX8_bad_44 rfl ?_
    obtain ⟨r27, er27, h⟩ := obn h
    refine gRX8_69 hC rfl 45 er27 dX8_bad_45 ?_
    obtain ⟨x28, ex28, h⟩ := obn h
    refine gRX8_313 hC rfl 48 ex28 dX8_bad_48 ?_
    obtain rfl := sp1 h
    exact v_iret hC 51 (by decide) (by decide) dX8_bad_51
  replace h := ifn h c29
  refine v_tabOut hC 1 52 dX8_bad_1 (by have := lv_neT (a := 0) c23 (by decide); have := lv_neT (a := 1) c26 (by decide); have := lv_neT (a := 2) c29 (by decide); omega) (by decide) ?_
  refine v_iconst hC (-1 : Int32) 52 dX8_bad_52 (by decide) ?_
  obtain rfl := sp1 h
  exact v_iret hC 53 (by decide) (by decide) dX8_bad_53
set_option maxRecDepth 20000 in
theorem qX8_227 {g : VG} {w : VW} {nL : Nat} {Q : State → Prop} {S : pH} {kc ks : Nat} {lv : List (Nat × Value)} {rest : List Value} {y : MethodName} {cc : ByteArray} {rt : Option FieldType} {rm : Room} (hC : Cx g y cc nL rt rm w) (hy : y.cls = RX8) (pc : Nat) {N : Nat} {r0 : Option Nat} {x1 : Int32} {v0 : Int32} (h : fX5_cellsOf N S r0 x1 = some v0) (hR : rmX5_cellsOf.frames + 1 ≤ rm.frames ∧ 8 + (5 + 11) + rmX5_cellsOf.locals ≤ rm.locals) (hst : (rest.map fun v => v.category).sum ≤ 8) (hf : kc + 0 ≤ rm.cells ∧ ks + 0 ≤ rm.slots) (d : decode cc pc = .ok (.invokevirtual 227, 3)) (K : V g w nL Q S kc ks (pc + 3) lv (.int v0 :: rest)) : V g w nL Q S kc ks pc lv (.int x1 :: va_rf r0 :: rest) := by
  obtain ⟨fs, ho⟩ := oX5_cellsOf h
  exact v_callV (As := [.int x1]) (rest := rest) (ci := 5) hC pc (tX5_cellsOf (l := g.2.1) (w := w) h) rfl (by decide) ho wG269 (by rw [hy]; exact wG331) wG270 wG271 wG62 hdX5_cellsOf rfl hR hst hf d K
set_option maxRecDepth 20000 in
theorem qX8_95 {g : VG} {w : VW} {nL : Nat} {Q : State → Prop} {S : pH} {kc ks : Nat} {lv : List (Nat × Value)} {rest : List Value} {y : MethodName} {cc : ByteArray} {rt : Option FieldType} {rm : Room} (hC : Cx g y cc nL rt rm w) (hy : y.cls = RX8) (pc : Nat) {N : Nat} {r0 : Option Nat} {x1 : Int32} {v0 : Int64} (h : fX1_volumeOfCell N S r0 x1 = some v0) (hR : rmX1_volumeOfCell.frames + 1 ≤ rm.frames ∧ 8 + (2 + 11) + rmX1_volumeOfCell.locals ≤ rm.locals) (hst : (rest.map fun v => v.category).sum ≤ 8) (hf : kc + 0 ≤ rm.cells ∧ ks + 0 ≤ rm.slots) (d : decode cc pc = .ok (.invokevirtual 95, 3)) (K : V g w nL Q S kc ks (pc + 3) lv (.long v0 :: rest)) : V g w nL Q S kc ks pc lv (.int x1 :: va_rf r0 :: rest) := by
  obtain ⟨fs, ho⟩ := oX1_volumeOfCell h
  exact v_callV (As := [.int x1]) (rest := rest) (ci := 1) hC pc (tX1_volumeOfCell (l := g.2.1) (w := w) h) rfl (by decide) ho wG333 (by rw [hy]; exact wG332) wG334 wG335 wG100 hdX1_volumeOfCell rfl hR hst hf d K
abbrev rmX8_volumeInCanes : Room := { frames := 3, cells := 0, slots := 0, locals := 68 }
theorem hdX8_volumeInCanes : yX8_volumeInCanes.cls ≠ "java/lang/invoke/MethodHandle" ∧ yX8_volumeInCanes.cls ≠ "java/lang/invoke/VarHandle" ∧ (parseMethodDescriptor yX8_volumeInCanes.desc).map (fun d => d.parameters.length) = some 1 := by decide +kernel
def lX8_volumeInCanes_5 (N : Nat) (S : pH) (r0 : Option Nat) (x1 : Int32) : Nat → Int64 → Int32 → Option (Int64)
  | 0, _, _ => none
  | n + 1, j21, x22 =>
    (gfI S 8 2 r0).bind fun x23 =>
    if x23 ≤ x22 then
    (some j21)
    else
    (fX8_find N S r0 x22).bind fun r24 =>
    nm (fun (j25 : Int64) =>
    nm (x22 + (1 : Int32)) fun x26 =>
    lX8_volumeInCanes_5 N S r0 x1 n j25 x26) fun j51 =>
    if r24 = none then
    (j51 j21)
    else
    (gfR S 1 0 r24).bind fun r27 =>
    (fX5_cellsOf N S r27 x1).bind fun x28 =>
    (gfI S 1 1 r24).bind fun x29 =>
    (fX1_volumeOfCell N S r24 x29).bind fun j30 =>
    nm (j21 + ((x28.toInt64) * j30)) fun j31 =>
    j51 j31
def fX8_volumeInCanes (N : Nat) (S : pH) (r0 : Option Nat) (x1 : Int32) : Option (Int64) :=
  chk S 8 r0 <|
  (lX8_volumeInCanes_5 N S r0 x1 N (0 : Int64) (0 : Int32)).bind fun j34 =>
  some j34
theorem oX8_volumeInCanes {N : Nat} {S : pH} {r0 : Option Nat} {x1 : Int32} {z : Int64} (h : fX8_volumeInCanes N S r0 x1 = some z) : ∃ fs, obj S 8 r0 = some fs := by
  unfold fX8_volumeInCanes at h
  exact (chk_spec h).1
set_option maxHeartbeats 1000000 in
set_option maxRecDepth 20000 in
theorem kX8_volumeInCanes_5 {g : VG} {w : VW} {N : Nat} {S : pH} {r0 : Option Nat} {x1 : Int32} {v0 : Int64} (hC : Cx g yX8_volumeInCanes cX8_volumeInCanes 6 (some .long) rmX8_volumeInCanes w) : ∀ (n : Nat) (j21 : Int64) (x22 : Int32) (z : (Int64)), lX8_volumeInCanes_5 N S r0 x1 n j21 x22 = some z → (∀ (e0 : Int64), z = e0 → V g w 6 (Qm g w rmX8_volumeInCanes.cells rmX8_volumeInCanes.slots (some (.long v0)) S) S 0 0 57 [(2, .long e0)] []) → V g w 6 (Qm g w rmX8_volumeInCanes.cells rmX8_volumeInCanes.slots (some (.long v0)) S) S 0 0 5 [(0, va_rf r0), (1, .int x1), (2, .long j21), (4, .int x22)] [] := by
  intro n
  induction n with
  | zero => intro j21 x22 z h; rw [lX8_volumeInCanes_5] at h; cases h
  | succ n ih =>
    intro j21 x22 z h K
    rw [lX8_volumeInCanes_5] at h
    refine v_iload hC 5 3 dX8_volumeInCanes_5 rfl ?_
    refine v_aload_n hC 7 0 dX8_volumeInCanes_7 rfl ?_
    obtain ⟨x23, ex23, h⟩ := obn h
    refine gRX8_22 hC rfl 8 ex23 dX8_volumeInCanes_8 ?_
    refine v_icmp_ge hC 11 57 dX8_volumeInCanes_11 (by decide) (fun c33 => ?_) (fun c33 => ?_)
    · replace h := ifp h c33
      refine v_sub [(2, .long j21)] [2] rfl ?_
      exact K _ (sp1 h)
    · replace h := ifn h c33
      refine v_aload_n hC 14 0 dX8_volumeInCanes_14 rfl ?_
      refine v_iload hC 15 3 dX8_volumeInCanes_15 rfl ?_
      obtain ⟨r24, er24, h⟩ := obn h
      refine qX8_142 hC rfl 17 er24 (by decide) (catL (Nat.le_of_ble_eq_true rfl)) (by decide) dX8_volumeInCanes_17 ?_
      refine v_astore hC [(5, va_rf r24), (0, va_rf r0), (1, .int x1), (2, .long j21), (4, .int x22)] 20 dX8_volumeInCanes_20 (by decide) rfl ?_
      refine v_aload hC 22 0 dX8_volumeInCanes_22 rfl ?_
      obtain ⟨j51, f51, h⟩ := onm h
      have J51 : ∀ (j25 : Int64), j51 j25 = some z → V g w 6 (Qm g w rmX8_volumeInCanes.cells rmX8_volumeInCanes.slots (some (.long v0)) S) S 0 0 51 [(0, va_rf r0), (1, .int x1), (2, .long j25), (4, .int x22)] [] := by
        intro j25 h
        replace h := jb1 f51 h
        obtain ⟨x26, ex26, h⟩ := onm h
        refine v_iinc hC x26 [(4, .int x26), (0, va_rf r0), (1, .int x1), (2, .long j25)] 51 3 dX8_volumeInCanes_51 rfl (by rw [ex26]; rfl) (by decide) rfl ?_
        refine v_goto hC 54 5 dX8_volumeInCanes_54 (by decide) ?_
        refine v_sub [(0, va_rf r0), (1, .int x1), (2, .long j25), (4, .int x26)] [1, 2, 3, 0] rfl ?_
        exact ih _ _ _ h K
      refine v_ifnull hC 24 51 dX8_volumeInCanes_24 (by decide) (fun c32 => ?_) (fun c32 => ?_)
      · replace h := ifp h c32
        refine v_sub [(0, va_rf r0), (1, .int x1), (2, .long j21), (4, .int x22)] [1, 2, 3, 4] rfl ?_
        exact J51 _ h
      · replace h := ifn h c32
        refine v_lload_n hC 27 3 dX8_volumeInCanes_27 rfl ?_
        refine v_aload hC 28 0 dX8_volumeInCanes_28 rfl ?_
        obtain ⟨r27, er27, h⟩ := obn h
        refine gRX8_117 hC rfl 30 er27 dX8_volumeInCanes_30 ?_
        refine v_iload_n hC 33 2 dX8_volumeInCanes_33 rfl ?_
        obtain ⟨x28, ex28, h⟩ := obn h
        refine qX8_227 hC rfl 34 ex28 (by decide) (catL (Nat.le_of_ble_eq_true rfl)) (by decide) dX8_volumeInCanes_34 ?_
        refine v_i2l hC 37 dX8_volumeInCanes_37 ?_
        refine v_aload hC 38 0 dX8_volumeInCanes_38 rfl ?_
        refine v_aload hC 40 0 dX8_volumeInCanes_40 rfl ?_
        obtain ⟨x29, ex29, h⟩ := obn h
        refine gRX8_111 hC rfl 42 ex29 dX8_volumeInCanes_42 ?_
        obtain ⟨j30, ej30, h⟩ := obn h
        refine qX8_95 hC rfl 45 ej30 (by decide) (catL (Nat.le_of_ble_eq_true rfl)) (by decide) dX8_volumeInCanes_45 ?_
        refine v_lmul hC 48 dX8_volumeInCanes_48 ?_
        refine v_ladd hC 49 dX8_volumeInCanes_49 ?_
        obtain ⟨j31, ej31, h⟩ := onm h
        refine v_topl j31 ej31 ?_
        refine v_lstore_n hC [(2, .long j31), (5, va_rf r24), (0, va_rf r0), (1, .int x1), (4, .int x22)] 50 dX8_volumeInCanes_50 (by decide) rfl ?_
        refine v_sub [(0, va_rf r0), (1, .int x1), (2, .long j31), (4, .int x22)] [2, 3, 0, 4] rfl ?_
        exact J51 _ h
set_option maxHeartbeats 1000000 in
set_option maxRecDepth 20000 in
theorem tX8_volumeInCanes {l : Launch} {w : VW} {N : Nat} {S : pH} {r0 : Option Nat} {x1 : Int32} {v0 : Int64} (h : fX8_volumeInCanes N S r0 x1 = some v0) : CT l w yX8_volumeInCanes cX8_volumeInCanes 6 (some .long) rmX8_volumeInCanes [va_rf r0, .int x1] S (some (.long v0)) S := by
  refine v_entry [(0, va_rf r0), (1, .int x1)] (by decide) (by simp [lg_sl, cat_rf, cat_i, cat_j]) (by simp [lv_args, cat_rf, cat_i, cat_j]) (fun g _ hC => ?_)
  unfold fX8_volumeInCanes at h
  obtain ⟨hO, h⟩ := chk_spec h
  refine v_lconst hC (0 : Int64) 0 dX8_volumeInCanes_0 (by decide) ?_
  refine v_lstore_n hC [(2, .long (0 : Int64)), (0, va_rf r0), (1, .int x1)] 1 dX8_volumeInCanes_1 (by decide) rfl ?_
  refine v_iconst hC (0 : Int32) 2 dX8_volumeInCanes_2 (by decide) ?_
  refine v_istore hC [(4, .int (0 : Int32)), (2, .long (0 : Int64)), (0, va_rf r0), (1, .int x1)] 3 dX8_volumeInCanes_3 (by decide) rfl ?_
  obtain ⟨j34, E5, h⟩ := obn h
  refine v_sub [(0, va_rf r0), (1, .int x1), (2, .long (0 : Int64)), (4, .int (0 : Int32))] [2, 3, 1, 0] rfl ?_
  refine kX8_volumeInCanes_5 hC _ _ _ _ E5 (fun _ hz9 => ?_)
  cases hz9
  refine v_lload_n hC 57 0 dX8_volumeInCanes_57 rfl ?_
  obtain rfl := sp1 h
  exact v_lret hC 58 (by decide) (by decide) dX8_volumeInCanes_58
set_option maxRecDepth 20000 in
theorem qX8_77 {g : VG} {w : VW} {nL : Nat} {Q : State → Prop} {S : pH} {kc ks : Nat} {lv : List (Nat × Value)} {rest : List Value} {y : MethodName} {cc : ByteArray} {rt : Option FieldType} {rm : Room} (hC : Cx g y cc nL rt rm w) (hy : y.cls = RX8) (pc : Nat) {N : Nat} {x0 : Int32} {v0 : Int32} (h : fX8_isGlass N S x0 = some v0) (hR : rmX8_isGlass.frames + 1 ≤ rm.frames ∧ 8 + (1 + 11) + rmX8_isGlass.locals ≤ rm.locals) (hst : (rest.map fun v => v.category).sum ≤ 8) (hf : kc + 0 ≤ rm.cells ∧ ks + 0 ≤ rm.slots) (d : decode cc pc = .ok (.invokestatic 77, 3)) (K : V g w nL Q S kc ks (pc + 3) lv (.int v0 :: rest)) : V g w nL Q S kc ks pc lv (.int x0 :: rest) := by
  exact v_callS (As := [.int x0]) (rest := rest) hC pc (tX8_isGlass (l := g.2.1) (w := w) h) wG225 (by rw [hy]; exact wG336) wG226 wG197 hdX8_isGlass rfl hR hst hf d K
set_option maxRecDepth 20000 in
theorem qX8_218 {g : VG} {w : VW} {nL : Nat} {Q : State → Prop} {S : pH} {kc ks : Nat} {lv : List (Nat × Value)} {rest : List Value} {y : MethodName} {cc : ByteArray} {rt : Option FieldType} {rm : Room} (hC : Cx g y cc nL rt rm w) (hy : y.cls = RX8) (pc : Nat) {N : Nat} {r0 : Option Nat} {x1 : Int32} {v0 : Int64} (h : fX3_came N S r0 x1 = some v0) (hR : rmX3_came.frames + 1 ≤ rm.frames ∧ 8 + (2 + 11) + rmX3_came.locals ≤ rm.locals) (hst : (rest.map fun v => v.category).sum ≤ 8) (hf : kc + 0 ≤ rm.cells ∧ ks + 0 ≤ rm.slots) (d : decode cc pc = .ok (.invokevirtual 218, 3)) (K : V g w nL Q S kc ks (pc + 3) lv (.long v0 :: rest)) : V g w nL Q S kc ks pc lv (.int x1 :: va_rf r0 :: rest) := by
  obtain ⟨fs, ho⟩ := oX3_came h
  exact v_callV (As := [.int x1]) (rest := rest) (ci := 3) hC pc (tX3_came (l := g.2.1) (w := w) h) rfl (by decide) ho wG338 (by rw [hy]; exact wG337) wG339 wG340 wG110 hdX3_came rfl hR hst hf d K
set_option maxRecDepth 20000 in
theorem qX8_221 {g : VG} {w : VW} {nL : Nat} {Q : State → Prop} {S : pH} {kc ks : Nat} {lv : List (Nat × Value)} {rest : List Value} {y : MethodName} {cc : ByteArray} {rt : Option FieldType} {rm : Room} (hC : Cx g y cc nL rt rm w) (hy : y.cls = RX8) (pc : Nat) {N : Nat} {r0 : Option Nat} {x1 : Int32} {v0 : Int64} (h : fX8_volumeInCanes N S r0 x1 = some v0) (hR : rmX8_volumeInCanes.frames + 1 ≤ rm.frames ∧ 8 + (6 + 11) + rmX8_volumeInCanes.locals ≤ rm.locals) (hst : (rest.map fun v => v.category).sum ≤ 8) (hf : kc + 0 ≤ rm.cells ∧ ks + 0 ≤ rm.slots) (d : decode cc pc = .ok (.invokevirtual 221, 3)) (K : V g w nL Q S kc ks (pc + 3) lv (.long v0 :: rest)) : V g w nL Q S kc ks pc lv (.int x1 :: va_rf r0 :: rest) := by
  obtain ⟨fs, ho⟩ := oX8_volumeInCanes h
  exact v_callV (As := [.int x1]) (rest := rest) (ci := 8) hC pc (tX8_volumeInCanes (l := g.2.1) (w := w) h) rfl (by decide) ho wG342 (by rw [hy]; exact wG341) wG343 wG344 wG197 hdX8_volumeInCanes rfl hR hst hf d K
set_option maxRecDepth 20000 in
theorem qX8_224 {g : VG} {w : VW} {nL : Nat} {Q : State → Prop} {S : pH} {kc ks : Nat} {lv : List (Nat × Value)} {rest : List Value} {y : MethodName} {cc : ByteArray} {rt : Option FieldType} {rm : Room} (hC : Cx g y cc nL rt rm w) (hy : y.cls = RX8) (pc : Nat) {N : Nat} {r0 : Option Nat} {x1 : Int32} {v0 : Int64} (h : fX3_dropped N S r0 x1 = some v0) (hR : rmX3_dropped.frames + 1 ≤ rm.frames ∧ 8 + (2 + 11) + rmX3_dropped.locals ≤ rm.locals) (hst : (rest.map fun v => v.category).sum ≤ 8) (hf : kc + 0 ≤ rm.cells ∧ ks + 0 ≤ rm.slots) (d : decode cc pc = .ok (.invokevirtual 224, 3)) (K : V g w nL Q S kc ks (pc + 3) lv (.long v0 :: rest)) : V g w nL Q S kc ks pc lv (.int x1 :: va_rf r0 :: rest) := by
  obtain ⟨fs, ho⟩ := oX3_dropped h
  exact v_callV (As := [.int x1]) (rest := rest) (ci := 3) hC pc (tX3_dropped (l := g.2.1) (w := w) h) rfl (by decide) ho wG346 (by rw [hy]; exact wG345) wG347 wG348 wG110 hdX3_dropped rfl hR hst hf d K
abbrev rmX8_book : Room := { frames := 4, cells := 0, slots := 0, locals := 93 }
theorem hdX8_book : yX8_book.cls ≠ "java/lang/invoke/MethodHandle" ∧ yX8_book.cls ≠ "java/lang/invoke/VarHandle" ∧ (parseMethodDescriptor yX8_book.desc).map (fun d => d.parameters.length) = some 2 := by decide +kernel
def fX8_book (N : Nat) (S : pH) (r0 : Option Nat) (x1 : Int32) (x2 : Int32) : Option (Int64) :=
  chk S 8 r0 <|
  (fX8_isGlass N S x1).bind fun x21 =>
  if ¬ x21 = 0 then
  (if x2 = (0 : Int32) then
  ((gfR S 8 0 r0).bind fun r22 =>
  (fX3_came N S r22 x1).bind fun j23 =>
  some j23)
  else
  if x2 = (1 : Int32) then
  ((fX8_volumeInCanes N S r0 x1).bind fun j25 =>
  some j25)
  else
  if x2 = (2 : Int32) then
  ((gfR S 8 0 r0).bind fun r27 =>
  (fX3_dropped N S r27 x1).bind fun j28 =>
  some j28)
  else
  some (-1 : Int64))
  else
  some (-1 : Int64)
theorem oX8_book {N : Nat} {S : pH} {r0 : Option Nat} {x1 : Int32} {x2 : Int32} {z : Int64} (h : fX8_book N S r0 x1 x2 = some z) : ∃ fs, obj S 8 r0 = some fs := by
  unfold fX8_book at h
  exact (chk_spec h).1
set_option maxHeartbeats 1000000 in
set_option maxRecDepth 20000 in
theorem tX8_book {l : Launch} {w : VW} {N : Nat} {S : pH} {r0 : Option Nat} {x1 : Int32} {x2 : Int32} {v0 : Int64} (h : fX8_book N S r0 x1 x2 = some v0) : CT l w yX8_book cX8_book 3 (some .long) rmX8_book [va_rf r0, .int x1, .int x2] S (some (.long v0)) S := by
  refine v_entry [(0, va_rf r0), (1, .int x1), (2, .int x2)] (by decide) (by simp [lg_sl, cat_rf, cat_i, cat_j]) (by simp [lv_args, cat_rf, cat_i, cat_j]) (fun g _ hC => ?_)
  unfold fX8_book at h
  obtain ⟨hO, h⟩ := chk_spec h
  refine v_iload_n hC 0 1 dX8_book_0 rfl ?_
  obtain ⟨x21, ex21, h⟩ := obn h
  refine qX8_77 hC rfl 1 ex21 (by decide) (catL (Nat.le_of_ble_eq_true rfl)) (by decide) dX8_book_1 ?_
  refine v_if_ne hC 4 11 dX8_book_4 (by decide) (fun c30 => ?_) (fun c30 => ?_)
  · replace h := ifp h c30
    refine v_iload_n hC 11 2 dX8_book_11 rfl ?_
    by_cases c24 : x2 = (0 : Int32)
    · replace h := ifp h c24
      refine v_tabIn hC 12 40 (0 : Int32) c24 dX8_book_12 (by decide) (by decide) rfl (by decide) ?_
      refine v_aload_n hC 40 0 dX8_book_40 rfl ?_
      obtain ⟨r22, er22, h⟩ := obn h
      refine gRX8_12 hC rfl 41 er22 dX8_book_41 ?_
      refine v_iload_n hC 44 1 dX8_book_44 rfl ?_
      obtain ⟨j23, ej23, h⟩ := obn h
      refine qX8_218 hC rfl 45 ej23 (by decide) (catL (Nat.le_of_ble_eq_true rfl)) (by decide) dX8_book_45 ?_
      obtain rfl := sp1 h
      exact v_lret hC 48 (by decide) (by decide) dX8_book_48
    replace h := ifn h c24
    by_cases c26 : x2 = (1 : Int32)
    · replace h := ifp h c26
      refine v_tabIn hC 12 49 (1 : Int32) c26 dX8_book_12 (by decide) (by decide) rfl (by decide) ?_
      refine v_aload_n hC 49 0 dX8_book_49 rfl ?_
      refine v_iload_n hC 50 1 dX8_book_50 rfl ?_
      obtain ⟨j25, ej25, h⟩ := obn h
      refine qX8_221 hC rfl 51 ej25 (by decide) (catL (Nat.le_of_ble_eq_true rfl)) (by decide) dX8_book_51 ?_
      obtain rfl := sp1 h
      exact v_lret hC 54 (by decide) (by decide) dX8_book_54
    replace h := ifn h c26
    by_cases c29 : x2 = (2 : Int32)
    · replace h := ifp h c29
      refine v_tabIn hC 12 55 (2 : Int32) c29 dX8_book_12 (by decide) (by decide) rfl (by decide) ?_
      refine v_aload_n hC 55 0 dX8_book_55 rfl ?_
      obtain ⟨r27, er27, h⟩ := obn h
      refine gRX8_12 hC rfl 56 er27 dX8_book_56 ?_
      refine v_iload_n hC 59 1 dX8_book_59 rfl ?_
      obtain ⟨j28, ej28, h⟩ := obn h
      refine qX8_224 hC rfl 60 ej28 (by decide) (catL (Nat.le_of_ble_eq_true rfl)) (by decide) dX8_book_60 ?_
      obtain rfl := sp1 h
      exact v_lret hC 63 (by decide) (by decide) dX8_book_63
    replace h := ifn h c29
    refine v_tabOut hC 12 64 dX8_book_12 (by have := lv_neT (a := 0) c24 (by decide); have := lv_neT (a := 1) c26 (by decide); have := lv_neT (a := 2) c29 (by decide); omega) (by decide) ?_
    refine v_ldc2 hC (v := (-1 : Int64)) 64 wG95 dX8_book_64 ?_
    obtain rfl := sp1 h
    exact v_lret hC 67 (by decide) (by decide) dX8_book_67
  · replace h := ifn h (fun q => q c30)
    refine v_ldc2 hC (v := (-1 : Int64)) 7 wG95 dX8_book_7 ?_
    obtain rfl := sp1 h
    exact v_lret hC 10 (by decide) (by decide) dX8_book_10
abbrev rmX8_unused : Room := { frames := 1, cells := 0, slots := 0, locals := 21 }
theorem hdX8_unused : yX8_unused.cls ≠ "java/lang/invoke/MethodHandle" ∧ yX8_unused.cls ≠ "java/lang/invoke/VarHandle" ∧ (parseMethodDescriptor yX8_unused.desc).map (fun d => d.parameters.length) = some 1 := by decide +kernel
def fX8_unused (N : Nat) (S : pH) (r0 : Option Nat) (x1 : Int32) : Option (Option Nat) :=
  chk S 8 r0 <|
  (fX8_find N S r0 x1).bind fun r21 =>
  nm (fun (_ : Unit) =>
  some none) fun j18 =>
  if r21 = none then
  (j18 ())
  else
  (gfI S 1 1 r21).bind fun x22 =>
  if (1 : Int32) ≤ x22 then
  (some r21)
  else
  j18 ()
theorem oX8_unused {N : Nat} {S : pH} {r0 : Option Nat} {x1 : Int32} {z : Option Nat} (h : fX8_unused N S r0 x1 = some z) : ∃ fs, obj S 8 r0 = some fs := by
  unfold fX8_unused at h
  exact (chk_spec h).1
set_option maxHeartbeats 1000000 in
set_option maxRecDepth 20000 in
theorem tX8_unused {l : Launch} {w : VW} {N : Nat} {S : pH} {r0 : Option Nat} {x1 : Int32} {v0 : Option Nat} (h : fX8_unused N S r0 x1 = some v0) : CT l w yX8_unused cX8_unused 3 (some (.object "CaneHouse$Cane")) rmX8_unused [va_rf r0, .int x1] S (some (va_rf v0)) S := by
  refine v_entry [(0, va_rf r0), (1, .int x1)] (by decide) (by simp [lg_sl, cat_rf, cat_i, cat_j]) (by simp [lv_args, cat_rf, cat_i, cat_j]) (fun g _ hC => ?_)
  unfold fX8_unused at h
  obtain ⟨hO, h⟩ := chk_spec h
  refine v_aload_n hC 0 0 dX8_unused_0 rfl ?_
  refine v_iload_n hC 1 1 dX8_unused_1 rfl ?_
  obtain ⟨r21, er21, h⟩ := obn h
  refine qX8_142 hC rfl 2 er21 (by decide) (catL (Nat.le_of_ble_eq_true rfl)) (by decide) dX8_unused_2 ?_
  refine v_astore_n hC [(2, va_rf r21), (0, va_rf r0), (1, .int x1)] 5 dX8_unused_5 (by decide) rfl ?_
  refine v_aload_n hC 6 0 dX8_unused_6 rfl ?_
  obtain ⟨j18, f18, h⟩ := onm h
  have J18 : ∀ (u9 : Unit), j18 u9 = some v0 → V g w 3 (Qm g w rmX8_unused.cells rmX8_unused.slots (some (va_rf v0)) S) S 0 0 18 [] [] := by
    intro u9 h
    replace h := jb1 f18 h
    refine v_null hC 18 dX8_unused_18 ?_
    refine v_goto hC 19 23 dX8_unused_19 (by decide) ?_
    obtain rfl := sp1 h
    exact v_aret hC 23 (by decide) (by decide) dX8_unused_23
  refine v_ifnull hC 7 18 dX8_unused_7 (by decide) (fun c24 => ?_) (fun c24 => ?_)
  · replace h := ifp h c24
    refine v_sub [] [] rfl ?_
    exact J18 _ h
  · replace h := ifn h c24
    refine v_aload_n hC 10 0 dX8_unused_10 rfl ?_
    obtain ⟨x22, ex22, h⟩ := obn h
    refine gRX8_111 hC rfl 11 ex22 dX8_unused_11 ?_
    refine v_iconst hC (1 : Int32) 14 dX8_unused_14 (by decide) ?_
    refine v_icmp_ge hC 15 22 dX8_unused_15 (by decide) (fun c23 => ?_) (fun c23 => ?_)
    · replace h := ifp h c23
      refine v_aload_n hC 22 0 dX8_unused_22 rfl ?_
      obtain rfl := sp1 h
      exact v_aret hC 23 (by decide) (by decide) dX8_unused_23
    · replace h := ifn h c23
      refine v_sub [] [] rfl ?_
      exact J18 _ h
set_option maxRecDepth 20000 in
theorem qX8_273 {g : VG} {w : VW} {nL : Nat} {Q : State → Prop} {S : pH} {kc ks : Nat} {lv : List (Nat × Value)} {rest : List Value} {y : MethodName} {cc : ByteArray} {rt : Option FieldType} {rm : Room} (hC : Cx g y cc nL rt rm w) (hy : y.cls = RX8) (pc : Nat) {N : Nat} {r0 : Option Nat} {S0 : pH} (h : fX0_forget N S r0 = some S0) (hR : rmX0_forget.frames + 1 ≤ rm.frames ∧ 8 + (1 + 11) + rmX0_forget.locals ≤ rm.locals) (hst : (rest.map fun v => v.category).sum ≤ 8) (hf : kc + 0 ≤ rm.cells ∧ ks + 0 ≤ rm.slots) (d : decode cc pc = .ok (.invokevirtual 273, 3)) (K : V g w nL Q S0 kc ks (pc + 3) lv (rest)) : V g w nL Q S kc ks pc lv (va_rf r0 :: rest) := by
  obtain ⟨fs, ho⟩ := oX0_forget h
  exact v_callV (As := []) (rest := rest) (ci := 0) hC pc (tX0_forget (l := g.2.1) (w := w) h) rfl (by decide) ho wG350 (by rw [hy]; exact wG349) wG351 wG352 wG119 hdX0_forget rfl hR hst hf d K
set_option maxRecDepth 20000 in
theorem qX8_107 {g : VG} {w : VW} {nL : Nat} {Q : State → Prop} {S : pH} {kc ks : Nat} {lv : List (Nat × Value)} {rest : List Value} {y : MethodName} {cc : ByteArray} {rt : Option FieldType} {rm : Room} (hC : Cx g y cc nL rt rm w) (hy : y.cls = RX8) (pc : Nat) {N : Nat} {r0 : Option Nat} {x1 : Int32} {v0 : Option Nat} (h : fX8_unused N S r0 x1 = some v0) (hR : rmX8_unused.frames + 1 ≤ rm.frames ∧ 8 + (3 + 11) + rmX8_unused.locals ≤ rm.locals) (hst : (rest.map fun v => v.category).sum ≤ 8) (hf : kc + 0 ≤ rm.cells ∧ ks + 0 ≤ rm.slots) (d : decode cc pc = .ok (.invokevirtual 107, 3)) (K : V g w nL Q S kc ks (pc + 3) lv (va_rf v0 :: rest)) : V g w nL Q S kc ks pc lv (.int x1 :: va_rf r0 :: rest) := by
  obtain ⟨fs, ho⟩ := oX8_unused h
  exact v_callV (As := [.int x1]) (rest := rest) (ci := 8) hC pc (tX8_unused (l := g.2.1) (w := w) h) rfl (by decide) ho wG354 (by rw [hy]; exact wG353) wG355 wG356 wG197 hdX8_unused rfl hR hst hf d K
set_option maxRecDepth 20000 in
theorem qX8_276 {g : VG} {w : VW} {nL : Nat} {Q : State → Prop} {S : pH} {kc ks : Nat} {lv : List (Nat × Value)} {rest : List Value} {y : MethodName} {cc : ByteArray} {rt : Option FieldType} {rm : Room} (hC : Cx g y cc nL rt rm w) (hy : y.cls = RX8) (pc : Nat) {N : Nat} {r0 : Option Nat} {r1 : Option Nat} {x2 : Int32} {S0 : pH} (h : fX0_offer N S r0 r1 x2 = some S0) (hR : rmX0_offer.frames + 1 ≤ rm.frames ∧ 8 + (4 + 11) + rmX0_offer.locals ≤ rm.locals) (hst : (rest.map fun v => v.category).sum ≤ 8) (hf : kc + 0 ≤ rm.cells ∧ ks + 0 ≤ rm.slots) (d : decode cc pc = .ok (.invokevirtual 276, 3)) (K : V g w nL Q S0 kc ks (pc + 3) lv (rest)) : V g w nL Q S kc ks pc lv (.int x2 :: va_rf r1 :: va_rf r0 :: rest) := by
  obtain ⟨fs, ho⟩ := oX0_offer h
  exact v_callV (As := [va_rf r1, .int x2]) (rest := rest) (ci := 0) hC pc (tX0_offer (l := g.2.1) (w := w) h) rfl (by decide) ho wG358 (by rw [hy]; exact wG357) wG359 wG360 wG119 hdX0_offer rfl hR hst hf d K
set_option maxRecDepth 20000 in
theorem qX8_283 {g : VG} {w : VW} {nL : Nat} {Q : State → Prop} {S : pH} {kc ks : Nat} {lv : List (Nat × Value)} {rest : List Value} {y : MethodName} {cc : ByteArray} {rt : Option FieldType} {rm : Room} (hC : Cx g y cc nL rt rm w) (hy : y.cls = RX8) (pc : Nat) {N : Nat} {r0 : Option Nat} {x1 : Int32} {v0 : Int32} {S0 : pH} (h : fX0_cheapest N S r0 x1 = some (v0, S0)) (hR : rmX0_cheapest.frames + 1 ≤ rm.frames ∧ 8 + (4 + 11) + rmX0_cheapest.locals ≤ rm.locals) (hst : (rest.map fun v => v.category).sum ≤ 8) (hf : kc + 0 ≤ rm.cells ∧ ks + 0 ≤ rm.slots) (d : decode cc pc = .ok (.invokevirtual 283, 3)) (K : V g w nL Q S0 kc ks (pc + 3) lv (.int v0 :: rest)) : V g w nL Q S kc ks pc lv (.int x1 :: va_rf r0 :: rest) := by
  obtain ⟨fs, ho⟩ := oX0_cheapest h
  exact v_callV (As := [.int x1]) (rest := rest) (ci := 0) hC pc (tX0_cheapest (l := g.2.1) (w := w) h) rfl (by decide) ho wG362 (by rw [hy]; exact wG361) wG363 wG364 wG119 hdX0_cheapest rfl hR hst hf d K
set_option maxRecDepth 20000 in
theorem qX8_280 {g : VG} {w : VW} {nL : Nat} {Q : State → Prop} {S : pH} {kc ks : Nat} {lv : List (Nat × Value)} {rest : List Value} {y : MethodName} {cc : ByteArray} {rt : Option FieldType} {rm : Room} (hC : Cx g y cc nL rt rm w) (hy : y.cls = RX8) (pc : Nat) {N : Nat} {r0 : Option Nat} {x1 : Int32} {v0 : Int32} {S0 : pH} (h : fX0_ways N S r0 x1 = some (v0, S0)) (hR : rmX0_ways.frames + 1 ≤ rm.frames ∧ 8 + (4 + 11) + rmX0_ways.locals ≤ rm.locals) (hst : (rest.map fun v => v.category).sum ≤ 8) (hf : kc + 0 ≤ rm.cells ∧ ks + 0 ≤ rm.slots) (d : decode cc pc = .ok (.invokevirtual 280, 3)) (K : V g w nL Q S0 kc ks (pc + 3) lv (.int v0 :: rest)) : V g w nL Q S kc ks pc lv (.int x1 :: va_rf r0 :: rest) := by
  obtain ⟨fs, ho⟩ := oX0_ways h
  exact v_callV (As := [.int x1]) (rest := rest) (ci := 0) hC pc (tX0_ways (l := g.2.1) (w := w) h) rfl (by decide) ho wG366 (by rw [hy]; exact wG365) wG367 wG368 wG119 hdX0_ways rfl hR hst hf d K
abbrev rmX8_bowl : Room := { frames := 5, cells := 0, slots := 0, locals := 114 }
theorem hdX8_bowl : yX8_bowl.cls ≠ "java/lang/invoke/MethodHandle" ∧ yX8_bowl.cls ≠ "java/lang/invoke/VarHandle" ∧ (parseMethodDescriptor yX8_bowl.desc).map (fun d => d.parameters.length) = some 3 := by decide +kernel
def lX8_bowl_41 (N : Nat) (r0 : Option Nat) (x1 : Int32) (x2 : Int32) (x3 : Int32) : Nat → Int32 → pH → Option (pH)
  | 0, _, _ => none
  | n + 1, x26, S27 =>
    (gfI S27 8 2 r0).bind fun x28 =>
    if x28 ≤ x26 then
    (some S27)
    else
    (fX8_unused N S27 r0 x26).bind fun r29 =>
    nm (fun (S30 : pH) =>
    nm (x26 + (1 : Int32)) fun x31 =>
    lX8_bowl_41 N r0 x1 x2 x3 n x31 S30) fun j99 =>
    if r29 = none then
    (j99 S27)
    else
    (gfR S27 1 0 r29).bind fun r32 =>
    (gfI S27 5 1 r32).bind fun x33 =>
    if ¬ x33 = x2 then
    (j99 S27)
    else
    (gfR S27 8 7 r0).bind fun r34 =>
    (gfR S27 1 0 r29).bind fun r35 =>
    (gfR S27 8 0 r0).bind fun r36 =>
    (gfR S27 1 0 r29).bind fun r37 =>
    (fX3_costOf N S27 r36 r37).bind fun x38 =>
    (fX0_offer N S27 r34 r35 x38).bind fun S39 =>
    j99 S39
def fX8_bowl (N : Nat) (S : pH) (r0 : Option Nat) (x1 : Int32) (x2 : Int32) (x3 : Int32) : Option (Int32 × pH) :=
  chk S 8 r0 <|
  (fX8_isWithin N S x1 (2 : Int32) (12 : Int32)).bind fun x21 =>
  if x21 = 0 then
  (some ((-1 : Int32), S))
  else
  (fX8_isWithin N S x2 (1 : Int32) (8 : Int32)).bind fun x22 =>
  if x22 = 0 then
  (some ((-1 : Int32), S))
  else
  (fX8_isWithin N S x3 (0 : Int32) (1 : Int32)).bind fun x23 =>
  if ¬ x23 = 0 then
  ((gfR S 8 7 r0).bind fun r24 =>
  (fX0_forget N S r24).bind fun S25 =>
  (lX8_bowl_41 N r0 x1 x2 x3 N (0 : Int32) S25).bind fun S43 =>
  if ¬ x3 = 0 then
  ((gfR S43 8 7 r0).bind fun r44 =>
  b2 (fX0_cheapest N S43 r44 x1) fun x45 S46 =>
  some (x45, S46))
  else
  (gfR S43 8 7 r0).bind fun r47 =>
  b2 (fX0_ways N S43 r47 x1) fun x48 S49 =>
  some (x48, S49))
  else
  some ((-1 : Int32), S)
theorem oX8_bowl {N : Nat} {S : pH} {r0 : Option Nat} {x1 : Int32} {x2 : Int32} {x3 : Int32} {z : Int32 × pH} (h : fX8_bowl N S r0 x1 x2 x3 = some z) : ∃ fs, obj S 8 r0 = some fs := by
  unfold fX8_bowl at h
  exact (chk_spec h).1
set_option maxHeartbeats 1000000 in
set_option maxRecDepth 20000 in
theorem kX8_bowl_41 {g : VG} {w : VW} {N : Nat} {r0 : Option Nat} {x1 : Int32} {x2 : Int32} {x3 : Int32} {v0 : Int32} {S0 : pH} (hC : Cx g yX8_bowl cX8_bowl 6 (some .int) rmX8_bowl w) : ∀ (n : Nat) (x26 : Int32) (S27 : pH) (z : (pH)), lX8_bowl_41 N r0 x1 x2 x3 n x26 S27 = some z → (∀ (e0 : pH), z = e0 → V g w 6 (Qm g w rmX8_bowl.cells rmX8_bowl.slots (some (.int v0)) S0) e0 0 0 105 [(0, va_rf r0), (1, .int x1), (3, .int x3)] []) → V g w 6 (Qm g w rmX8_bowl.cells rmX8_bowl.slots (some (.int v0)) S0) S27 0 0 41 [(0, va_rf r0), (1, .int x1), (2, .int x2), (3, .int x3), (4, .int x26)] [] := by
  intro n
  induction n with
  | zero => intro x26 S27 z h; rw [lX8_bowl_41] at h; cases h
  | succ n ih =>
    intro x26 S27 z h K
    rw [lX8_bowl_41] at h
    refine v_iload hC 41 4 dX8_bowl_41 rfl ?_
    refine v_aload_n hC 43 0 dX8_bowl_43 rfl ?_
    obtain ⟨x28, ex28, h⟩ := obn h
    refine gRX8_22 hC rfl 44 ex28 dX8_bowl_44 ?_
    refine v_icmp_ge hC 47 105 dX8_bowl_47 (by decide) (fun c42 => ?_) (fun c42 => ?_)
    · replace h := ifp h c42
      refine v_sub [(0, va_rf r0), (1, .int x1), (3, .int x3)] [0, 1, 3] rfl ?_
      exact K _ (sp1 h)
    · replace h := ifn h c42
      refine v_aload_n hC 50 0 dX8_bowl_50 rfl ?_
      refine v_iload hC 51 4 dX8_bowl_51 rfl ?_
      obtain ⟨r29, er29, h⟩ := obn h
      refine qX8_107 hC rfl 53 er29 (by decide) (catL (Nat.le_of_ble_eq_true rfl)) (by decide) dX8_bowl_53 ?_
      refine v_astore hC [(5, va_rf r29), (0, va_rf r0), (1, .int x1), (2, .int x2), (3, .int x3), (4, .int x26)] 56 dX8_bowl_56 (by decide) rfl ?_
      refine v_aload hC 58 0 dX8_bowl_58 rfl ?_
      obtain ⟨j99, f99, h⟩ := onm h
      have J99 : ∀ (S30 : pH), j99 S30 = some z → V g w 6 (Qm g w rmX8_bowl.cells rmX8_bowl.slots (some (.int v0)) S0) S30 0 0 99 [(0, va_rf r0), (1, .int x1), (2, .int x2), (3, .int x3), (4, .int x26)] [] := by
        intro S30 h
        replace h := jb1 f99 h
        obtain ⟨x31, ex31, h⟩ := onm h
        refine v_iinc hC x31 [(4, .int x31), (0, va_rf r0), (1, .int x1), (2, .int x2), (3, .int x3)] 99 4 dX8_bowl_99 rfl (by rw [ex31]; rfl) (by decide) rfl ?_
        refine v_goto hC 102 41 dX8_bowl_102 (by decide) ?_
        refine v_sub [(0, va_rf r0), (1, .int x1), (2, .int x2), (3, .int x3), (4, .int x31)] [1, 2, 3, 4, 0] rfl ?_
        exact ih _ _ _ h K
      refine v_ifnull hC 60 99 dX8_bowl_60 (by decide) (fun c41 => ?_) (fun c41 => ?_)
      · replace h := ifp h c41
        refine v_sub [(0, va_rf r0), (1, .int x1), (2, .int x2), (3, .int x3), (4, .int x26)] [1, 2, 3, 4, 5] rfl ?_
        exact J99 _ h
      · replace h := ifn h c41
        refine v_aload hC 63 0 dX8_bowl_63 rfl ?_
        obtain ⟨r32, er32, h⟩ := obn h
        refine gRX8_117 hC rfl 65 er32 dX8_bowl_65 ?_
        obtain ⟨x33, ex33, h⟩ := obn h
        refine gRX8_135 hC rfl 68 ex33 dX8_bowl_68 ?_
        refine v_iload_n hC 71 3 dX8_bowl_71 rfl ?_
        refine v_icmp_ne hC 72 99 dX8_bowl_72 (by decide) (fun c40 => ?_) (fun c40 => ?_)
        · replace h := ifp h c40
          refine v_sub [(0, va_rf r0), (1, .int x1), (2, .int x2), (3, .int x3), (4, .int x26)] [1, 2, 3, 4, 5] rfl ?_
          exact J99 _ h
        · replace h := ifn h (fun q => q c40)
          refine v_aload_n hC 75 1 dX8_bowl_75 rfl ?_
          obtain ⟨r34, er34, h⟩ := obn h
          refine gRX8_55 hC rfl 76 er34 dX8_bowl_76 ?_
          refine v_aload hC 79 0 dX8_bowl_79 rfl ?_
          obtain ⟨r35, er35, h⟩ := obn h
          refine gRX8_117 hC rfl 81 er35 dX8_bowl_81 ?_
          refine v_aload_n hC 84 1 dX8_bowl_84 rfl ?_
          obtain ⟨r36, er36, h⟩ := obn h
          refine gRX8_12 hC rfl 85 er36 dX8_bowl_85 ?_
          refine v_aload hC 88 0 dX8_bowl_88 rfl ?_
          obtain ⟨r37, er37, h⟩ := obn h
          refine gRX8_117 hC rfl 90 er37 dX8_bowl_90 ?_
          obtain ⟨x38, ex38, h⟩ := obn h
          refine qX8_149 hC rfl 93 ex38 (by decide) (catL (Nat.le_of_ble_eq_true rfl)) (by decide) dX8_bowl_93 ?_
          obtain ⟨S39, eS39, h⟩ := obn h
          refine qX8_276 hC rfl 96 eS39 (by decide) (catL (Nat.le_of_ble_eq_true rfl)) (by decide) dX8_bowl_96 ?_
          refine v_sub [(0, va_rf r0), (1, .int x1), (2, .int x2), (3, .int x3), (4, .int x26)] [1, 2, 3, 4, 5] rfl ?_
          exact J99 _ h
set_option maxHeartbeats 1000000 in
set_option maxRecDepth 20000 in
theorem tX8_bowl {l : Launch} {w : VW} {N : Nat} {S : pH} {r0 : Option Nat} {x1 : Int32} {x2 : Int32} {x3 : Int32} {v0 : Int32} {S0 : pH} (h : fX8_bowl N S r0 x1 x2 x3 = some (v0, S0)) : CT l w yX8_bowl cX8_bowl 6 (some .int) rmX8_bowl [va_rf r0, .int x1, .int x2, .int x3] S (some (.int v0)) S0 := by
  refine v_entry [(0, va_rf r0), (1, .int x1), (2, .int x2), (3, .int x3)] (by decide) (by simp [lg_sl, cat_rf, cat_i, cat_j]) (by simp [lv_args, cat_rf, cat_i, cat_j]) (fun g _ hC => ?_)
  unfold fX8_bowl at h
  obtain ⟨hO, h⟩ := chk_spec h
  refine v_iload_n hC 0 1 dX8_bowl_0 rfl ?_
  refine v_iconst hC (2 : Int32) 1 dX8_bowl_1 (by decide) ?_
  refine v_bipush hC (12 : Int32) 2 dX8_bowl_2 (by decide) ?_
  obtain ⟨x21, ex21, h⟩ := obn h
  refine qX8_81 hC rfl 4 ex21 (by decide) (catL (Nat.le_of_ble_eq_true rfl)) (by decide) dX8_bowl_4 ?_
  refine v_if_eq hC 7 29 dX8_bowl_7 (by decide) (fun c53 => ?_) (fun c53 => ?_)
  · replace h := ifp h c53
    refine v_iconst hC (-1 : Int32) 29 dX8_bowl_29 (by decide) ?_
    obtain ⟨rfl, rfl⟩ := sp2 h
    exact v_iret hC 30 (by decide) (by decide) dX8_bowl_30
  · replace h := ifn h c53
    refine v_iload_n hC 10 2 dX8_bowl_10 rfl ?_
    refine v_iconst hC (1 : Int32) 11 dX8_bowl_11 (by decide) ?_
    refine v_bipush hC (8 : Int32) 12 dX8_bowl_12 (by decide) ?_
    obtain ⟨x22, ex22, h⟩ := obn h
    refine qX8_81 hC rfl 14 ex22 (by decide) (catL (Nat.le_of_ble_eq_true rfl)) (by decide) dX8_bowl_14 ?_
    refine v_if_eq hC 17 29 dX8_bowl_17 (by decide) (fun c52 => ?_) (fun c52 => ?_)
    · replace h := ifp h c52
      refine v_iconst hC (-1 : Int32) 29 dX8_bowl_29 (by decide) ?_
      obtain ⟨rfl, rfl⟩ := sp2 h
      exact v_iret hC 30 (by decide) (by decide) dX8_bowl_30
    · replace h := ifn h c52
      refine v_iload_n hC 20 3 dX8_bowl_20 rfl ?_
      refine v_iconst hC (0 : Int32) 21 dX8_bowl_21 (by decide) ?_
      refine v_iconst hC (1 : Int32) 22 dX8_bowl_22 (by decide) ?_
      obtain ⟨x23, ex23, h⟩ := obn h
      refine qX8_81 hC rfl 23 ex23 (by decide) (catL (Nat.le_of_ble_eq_true rfl)) (by decide) dX8_bowl_23 ?_
      refine v_if_ne hC 26 31 dX8_bowl_26 (by decide) (fun c51 => ?_) (fun c51 => ?_)
      · replace h := ifp h c51
        refine v_aload_n hC 31 0 dX8_bowl_31 rfl ?_
        obtain ⟨r24, er24, h⟩ := obn h
        refine gRX8_55 hC rfl 32 er24 dX8_bowl_32 ?_
        obtain ⟨S25, eS25, h⟩ := obn h
        refine qX8_273 hC rfl 35 eS25 (by decide) (catL (Nat.le_of_ble_eq_true rfl)) (by decide) dX8_bowl_35 ?_
        refine v_iconst hC (0 : Int32) 38 dX8_bowl_38 (by decide) ?_
        refine v_istore hC [(4, .int (0 : Int32)), (0, va_rf r0), (1, .int x1), (2, .int x2), (3, .int x3)] 39 dX8_bowl_39 (by decide) rfl ?_
        obtain ⟨S43, E41, h⟩ := obn h
        refine v_sub [(0, va_rf r0), (1, .int x1), (2, .int x2), (3, .int x3), (4, .int (0 : Int32))] [1, 2, 3, 4, 0] rfl ?_
        refine kX8_bowl_41 hC _ _ _ _ E41 (fun _ hz9 => ?_)
        cases hz9
        refine v_iload_n hC 105 2 dX8_bowl_105 rfl ?_
        refine v_if_ne hC 106 120 dX8_bowl_106 (by decide) (fun c50 => ?_) (fun c50 => ?_)
        · replace h := ifp h c50
          refine v_aload_n hC 120 0 dX8_bowl_120 rfl ?_
          obtain ⟨r44, er44, h⟩ := obn h
          refine gRX8_55 hC rfl 121 er44 dX8_bowl_121 ?_
          refine v_iload_n hC 124 1 dX8_bowl_124 rfl ?_
          obtain ⟨x45, S46, ex45, h⟩ := ob2 h
          refine qX8_283 hC rfl 125 ex45 (by decide) (catL (Nat.le_of_ble_eq_true rfl)) (by decide) dX8_bowl_125 ?_
          obtain ⟨rfl, rfl⟩ := sp2 h
          exact v_iret hC 128 (by decide) (by decide) dX8_bowl_128
        · replace h := ifn h (fun q => q c50)
          refine v_aload_n hC 109 0 dX8_bowl_109 rfl ?_
          obtain ⟨r47, er47, h⟩ := obn h
          refine gRX8_55 hC rfl 110 er47 dX8_bowl_110 ?_
          refine v_iload_n hC 113 1 dX8_bowl_113 rfl ?_
          obtain ⟨x48, S49, ex48, h⟩ := ob2 h
          refine qX8_280 hC rfl 114 ex48 (by decide) (catL (Nat.le_of_ble_eq_true rfl)) (by decide) dX8_bowl_114 ?_
          refine v_goto hC 117 128 dX8_bowl_117 (by decide) ?_
          obtain ⟨rfl, rfl⟩ := sp2 h
          exact v_iret hC 128 (by decide) (by decide) dX8_bowl_128
      · replace h := ifn h (fun q => q c51)
        refine v_iconst hC (-1 : Int32) 29 dX8_bowl_29 (by decide) ?_
        obtain ⟨rfl, rfl⟩ := sp2 h
        exact v_iret hC 30 (by decide) (by decide) dX8_bowl_30
abbrev rmX8_keep : Room := { frames := 0, cells := 0, slots := 0, locals := 0 }
theorem hdX8_keep : yX8_keep.cls ≠ "java/lang/invoke/MethodHandle" ∧ yX8_keep.cls ≠ "java/lang/invoke/VarHandle" ∧ (parseMethodDescriptor yX8_keep.desc).map (fun d => d.parameters.length) = some 1 := by decide +kernel
def fX8_keep (N : Nat) (S : pH) (r0 : Option Nat) (r1 : Option Nat) : Option (Int32 × pH) :=
  chk S 8 r0 <|
  (gfI S 8 2 r0).bind fun x21 =>
  if x21 < 0 then
  (some ((-3 : Int32), S))
  else
  (gfI S 8 2 r0).bind fun x22 =>
  if x22 < (16 : Int32) then
  ((gfR S 8 1 r0).bind fun r23 =>
  (gfI S 8 2 r0).bind fun x24 =>
  (stR S r23 x24 r1).bind fun S25 =>
  (gfI S25 8 2 r0).bind fun x26 =>
  (pfV S25 8 2 r0 (.int (x26 + (1 : Int32)))).bind fun S27 =>
  (gfI S27 8 2 r0).bind fun x28 =>
  some (x28 - (1 : Int32), S27))
  else
  some ((-3 : Int32), S)
theorem oX8_keep {N : Nat} {S : pH} {r0 : Option Nat} {r1 : Option Nat} {z : Int32 × pH} (h : fX8_keep N S r0 r1 = some z) : ∃ fs, obj S 8 r0 = some fs := by
  unfold fX8_keep at h
  exact (chk_spec h).1
set_option maxHeartbeats 1000000 in
set_option maxRecDepth 20000 in
theorem tX8_keep {l : Launch} {w : VW} {N : Nat} {S : pH} {r0 : Option Nat} {r1 : Option Nat} {v0 : Int32} {S0 : pH} (h : fX8_keep N S r0 r1 = some (v0, S0)) : CT l w yX8_keep cX8_keep 2 (some .int) rmX8_keep [va_rf r0, va_rf r1] S (some (.int v0)) S0 := by
  refine v_entry [(0, va_rf r0), (1, va_rf r1)] (by decide) (by simp [lg_sl, cat_rf, cat_i, cat_j]) (by simp [lv_args, cat_rf, cat_i, cat_j]) (fun g _ hC => ?_)
  unfold fX8_keep at h
  obtain ⟨hO, h⟩ := chk_spec h
  refine v_aload_n hC 0 0 dX8_keep_0 rfl ?_
  obtain ⟨x21, ex21, h⟩ := obn h
  refine gRX8_22 hC rfl 1 ex21 dX8_keep_1 ?_
  refine v_if_lt hC 4 16 dX8_keep_4 (by decide) (fun c30 => ?_) (fun c30 => ?_)
  · replace h := ifp h c30
    refine v_bipush hC (-3 : Int32) 16 dX8_keep_16 (by decide) ?_
    obtain ⟨rfl, rfl⟩ := sp2 h
    exact v_iret hC 18 (by decide) (by decide) dX8_keep_18
  · replace h := ifn h c30
    refine v_aload_n hC 7 0 dX8_keep_7 rfl ?_
    obtain ⟨x22, ex22, h⟩ := obn h
    refine gRX8_22 hC rfl 8 ex22 dX8_keep_8 ?_
    refine v_bipush hC (16 : Int32) 11 dX8_keep_11 (by decide) ?_
    refine v_icmp_lt hC 13 19 dX8_keep_13 (by decide) (fun c29 => ?_) (fun c29 => ?_)
    · replace h := ifp h c29
      refine v_aload_n hC 19 0 dX8_keep_19 rfl ?_
      obtain ⟨r23, er23, h⟩ := obn h
      refine gRX8_18 hC rfl 20 er23 dX8_keep_20 ?_
      refine v_aload_n hC 23 0 dX8_keep_23 rfl ?_
      obtain ⟨x24, ex24, h⟩ := obn h
      refine gRX8_22 hC rfl 24 ex24 dX8_keep_24 ?_
      refine v_aload_n hC 27 1 dX8_keep_27 rfl ?_
      obtain ⟨S25, eS25, h⟩ := obn h
      refine v_aast hC 28 eS25 dX8_keep_28 ?_
      refine v_aload_n hC 29 0 dX8_keep_29 rfl ?_
      refine v_dup hC 30 (cat_rf _) dX8_keep_30 ?_
      obtain ⟨x26, ex26, h⟩ := obn h
      refine gRX8_22 hC rfl 31 ex26 dX8_keep_31 ?_
      refine v_iconst hC (1 : Int32) 34 dX8_keep_34 (by decide) ?_
      refine v_iadd hC 35 dX8_keep_35 ?_
      obtain ⟨S27, eS27, h⟩ := obn h
      refine pRX8_22 hC rfl 36 eS27 dX8_keep_36 ?_
      refine v_aload_n hC 39 0 dX8_keep_39 rfl ?_
      obtain ⟨x28, ex28, h⟩ := obn h
      refine gRX8_22 hC rfl 40 ex28 dX8_keep_40 ?_
      refine v_iconst hC (1 : Int32) 43 dX8_keep_43 (by decide) ?_
      refine v_isub hC 44 dX8_keep_44 ?_
      obtain ⟨rfl, rfl⟩ := sp2 h
      exact v_iret hC 45 (by decide) (by decide) dX8_keep_45
    · replace h := ifn h c29
      refine v_bipush hC (-3 : Int32) 16 dX8_keep_16 (by decide) ?_
      obtain ⟨rfl, rfl⟩ := sp2 h
      exact v_iret hC 18 (by decide) (by decide) dX8_keep_18
set_option maxRecDepth 20000 in
theorem qX8_42 {g : VG} {w : VW} {nL : Nat} {Q : State → Prop} {S : pH} {kc ks : Nat} {lv : List (Nat × Value)} {rest : List Value} {y : MethodName} {cc : ByteArray} {rt : Option FieldType} {rm : Room} (hC : Cx g y cc nL rt rm w) (hy : y.cls = RX8) (pc : Nat) {N : Nat} {r0 : Option Nat} {x1 : Int32} {x2 : Int32} {S0 : pH} (h : fX5_init N w.2.2 S r0 x1 x2 = some S0) (hR : rmX5_init.frames + 1 ≤ rm.frames ∧ 8 + (3 + 11) + rmX5_init.locals ≤ rm.locals) (hst : (rest.map fun v => v.category).sum ≤ 8) (hf : kc + 1 ≤ rm.cells ∧ ks + 64 ≤ rm.slots) (d : decode cc pc = .ok (.invokespecial 42, 3)) (K : V g w nL Q S0 (kc + 1) (ks + 64) (pc + 3) lv (rest)) : V g w nL Q S kc ks pc lv (.int x2 :: .int x1 :: va_rf r0 :: rest) := by
  obtain ⟨fs, ho⟩ := oX5_init h
  exact v_callI (As := [.int x1, .int x2]) (rest := rest) hC pc (tX5_init (l := g.2.1) (w := w) h) ho wG266 (by rw [hy]; exact wG369) wG267 wG62 rfl hdX5_init rfl hR hst hf d K
set_option maxRecDepth 20000 in
theorem qX8_209 {g : VG} {w : VW} {nL : Nat} {Q : State → Prop} {S : pH} {kc ks : Nat} {lv : List (Nat × Value)} {rest : List Value} {y : MethodName} {cc : ByteArray} {rt : Option FieldType} {rm : Room} (hC : Cx g y cc nL rt rm w) (hy : y.cls = RX8) (pc : Nat) {N : Nat} {r0 : Option Nat} {x1 : Int32} {x2 : Int32} {v0 : Int32} (h : fX7_turnAt N S r0 x1 x2 = some v0) (hR : rmX7_turnAt.frames + 1 ≤ rm.frames ∧ 8 + (3 + 11) + rmX7_turnAt.locals ≤ rm.locals) (hst : (rest.map fun v => v.category).sum ≤ 8) (hf : kc + 0 ≤ rm.cells ∧ ks + 0 ≤ rm.slots) (d : decode cc pc = .ok (.invokevirtual 209, 3)) (K : V g w nL Q S kc ks (pc + 3) lv (.int v0 :: rest)) : V g w nL Q S kc ks pc lv (.int x2 :: .int x1 :: va_rf r0 :: rest) := by
  obtain ⟨fs, ho⟩ := oX7_turnAt h
  exact v_callV (As := [.int x1, .int x2]) (rest := rest) (ci := 7) hC pc (tX7_turnAt (l := g.2.1) (w := w) h) rfl (by decide) ho wG371 (by rw [hy]; exact wG370) wG372 wG373 wG113 hdX7_turnAt rfl hR hst hf d K
set_option maxRecDepth 20000 in
theorem qX8_212 {g : VG} {w : VW} {nL : Nat} {Q : State → Prop} {S : pH} {kc ks : Nat} {lv : List (Nat × Value)} {rest : List Value} {y : MethodName} {cc : ByteArray} {rt : Option FieldType} {rm : Room} (hC : Cx g y cc nL rt rm w) (hy : y.cls = RX8) (pc : Nat) {N : Nat} {r0 : Option Nat} {x1 : Int32} {x2 : Int32} {r3 : Option Nat} {x4 : Int32} {S0 : pH} (h : fX5_paint N S r0 x1 x2 r3 x4 = some S0) (hR : rmX5_paint.frames + 1 ≤ rm.frames ∧ 8 + (7 + 11) + rmX5_paint.locals ≤ rm.locals) (hst : (rest.map fun v => v.category).sum ≤ 8) (hf : kc + 0 ≤ rm.cells ∧ ks + 0 ≤ rm.slots) (d : decode cc pc = .ok (.invokevirtual 212, 3)) (K : V g w nL Q S0 kc ks (pc + 3) lv (rest)) : V g w nL Q S kc ks pc lv (.int x4 :: va_rf r3 :: .int x2 :: .int x1 :: va_rf r0 :: rest) := by
  obtain ⟨fs, ho⟩ := oX5_paint h
  exact v_callV (As := [.int x1, .int x2, va_rf r3, .int x4]) (rest := rest) (ci := 5) hC pc (tX5_paint (l := g.2.1) (w := w) h) rfl (by decide) ho wG375 (by rw [hy]; exact wG374) wG376 wG377 wG62 hdX5_paint rfl hR hst hf d K
abbrev rmX8_laidPicture : Room := { frames := 4, cells := 2, slots := 66, locals := 93 }
theorem hdX8_laidPicture : yX8_laidPicture.cls ≠ "java/lang/invoke/MethodHandle" ∧ yX8_laidPicture.cls ≠ "java/lang/invoke/VarHandle" ∧ (parseMethodDescriptor yX8_laidPicture.desc).map (fun d => d.parameters.length) = some 1 := by decide +kernel
def lX8_laidPicture_34 (N : Nat) (r0 : Option Nat) (x1 : Int32) (r2 : Option Nat) (x3 : Int32) : Nat → Int32 → pH → Option (pH)
  | 0, _, _ => none
  | n + 1, x31, S32 =>
    (gfR S32 8 3 r0).bind fun r33 =>
    (gfI S32 7 2 r33).bind fun x34 =>
    if x34 ≤ x31 then
    (some S32)
    else
    (gfR S32 8 3 r0).bind fun r35 =>
    (fX7_caneAt N S32 r35 x31 x3).bind fun x36 =>
    (fX8_find N S32 r0 x36).bind fun r37 =>
    nm (fun (S38 : pH) =>
    nm (x31 + (1 : Int32)) fun x39 =>
    lX8_laidPicture_34 N r0 x1 r2 x3 n x39 S38) fun j93 =>
    if r37 = none then
    (j93 S32)
    else
    (gfR S32 1 0 r37).bind fun r40 =>
    (gfR S32 8 3 r0).bind fun r41 =>
    (fX7_turnAt N S32 r41 x31 x3).bind fun x42 =>
    (fX5_paint N S32 r2 (x31 * x1) (x3 * x1) r40 x42).bind fun S43 =>
    j93 S43
def lX8_laidPicture_20 (N : Nat) (r0 : Option Nat) (x1 : Int32) (r2 : Option Nat) : Nat → Int32 → pH → Option (pH)
  | 0, _, _ => none
  | n + 1, x27, S28 =>
    (gfR S28 8 3 r0).bind fun r29 =>
    (gfI S28 7 2 r29).bind fun x30 =>
    if x30 ≤ x27 then
    (some S28)
    else
    (lX8_laidPicture_34 N r0 x1 r2 x27 N (0 : Int32) S28).bind fun S46 =>
    nm (x27 + (1 : Int32)) fun x47 =>
    lX8_laidPicture_20 N r0 x1 r2 n x47 S46
def fX8_laidPicture (N : Nat) (b : Nat) (S : pH) (r0 : Option Nat) (x1 : Int32) : Option (Option Nat × pH) :=
  chk S 8 r0 <|
  nm (b + S.1) fun q21 =>
  nm (puS b S (pO 5 [.null, .int 0])) fun S22 =>
  (gfR S22 8 3 r0).bind fun r23 =>
  (gfI S22 7 2 r23).bind fun x24 =>
  (fX5_init N b S22 (some q21) (x24 * x1) (0 : Int32)).bind fun S25 =>
  nm (some q21) fun r26 =>
  (lX8_laidPicture_20 N r0 x1 r26 N (0 : Int32) S25).bind fun S49 =>
  some (r26, S49)
theorem oX8_laidPicture {b : Nat} {N : Nat} {S : pH} {r0 : Option Nat} {x1 : Int32} {z : Option Nat × pH} (h : fX8_laidPicture N b S r0 x1 = some z) : ∃ fs, obj S 8 r0 = some fs := by
  unfold fX8_laidPicture at h
  exact (chk_spec h).1
set_option maxHeartbeats 1000000 in
set_option maxRecDepth 20000 in
theorem kX8_laidPicture_34 {g : VG} {w : VW} {N : Nat} {r0 : Option Nat} {x1 : Int32} {r2 : Option Nat} {x3 : Int32} {v0 : Option Nat} {S0 : pH} (hC : Cx g yX8_laidPicture cX8_laidPicture 6 (some (.object "CaneHouse$Picture")) rmX8_laidPicture w) : ∀ (n : Nat) (x31 : Int32) (S32 : pH) (z : (pH)), lX8_laidPicture_34 N r0 x1 r2 x3 n x31 S32 = some z → (∀ (e0 : pH), z = e0 → V g w 6 (Qm g w rmX8_laidPicture.cells rmX8_laidPicture.slots (some (va_rf v0)) S0) e0 2 66 99 [(0, va_rf r0), (1, .int x1), (2, va_rf r2), (3, .int x3)] []) → V g w 6 (Qm g w rmX8_laidPicture.cells rmX8_laidPicture.slots (some (va_rf v0)) S0) S32 2 66 34 [(0, va_rf r0), (1, .int x1), (2, va_rf r2), (3, .int x3), (4, .int x31)] [] := by
  intro n
  induction n with
  | zero => intro x31 S32 z h; rw [lX8_laidPicture_34] at h; cases h
  | succ n ih =>
    intro x31 S32 z h K
    rw [lX8_laidPicture_34] at h
    refine v_iload hC 34 4 dX8_laidPicture_34 rfl ?_
    refine v_aload_n hC 36 0 dX8_laidPicture_36 rfl ?_
    obtain ⟨r33, er33, h⟩ := obn h
    refine gRX8_29 hC rfl 37 er33 dX8_laidPicture_37 ?_
    obtain ⟨x34, ex34, h⟩ := obn h
    refine gRX8_206 hC rfl 40 ex34 dX8_laidPicture_40 ?_
    refine v_icmp_ge hC 43 99 dX8_laidPicture_43 (by decide) (fun c45 => ?_) (fun c45 => ?_)
    · replace h := ifp h c45
      refine v_sub [(0, va_rf r0), (1, .int x1), (2, va_rf r2), (3, .int x3)] [0, 1, 2, 3] rfl ?_
      exact K _ (sp1 h)
    · replace h := ifn h c45
      refine v_aload_n hC 46 0 dX8_laidPicture_46 rfl ?_
      refine v_aload_n hC 47 0 dX8_laidPicture_47 rfl ?_
      obtain ⟨r35, er35, h⟩ := obn h
      refine gRX8_29 hC rfl 48 er35 dX8_laidPicture_48 ?_
      refine v_iload hC 51 4 dX8_laidPicture_51 rfl ?_
      refine v_iload_n hC 53 3 dX8_laidPicture_53 rfl ?_
      obtain ⟨x36, ex36, h⟩ := obn h
      refine qX8_189 hC rfl 54 ex36 (by decide) (catL (Nat.le_of_ble_eq_true rfl)) (by decide) dX8_laidPicture_54 ?_
      obtain ⟨r37, er37, h⟩ := obn h
      refine qX8_142 hC rfl 57 er37 (by decide) (catL (Nat.le_of_ble_eq_true rfl)) (by decide) dX8_laidPicture_57 ?_
      refine v_astore hC [(5, va_rf r37), (0, va_rf r0), (1, .int x1), (2, va_rf r2), (3, .int x3), (4, .int x31)] 60 dX8_laidPicture_60 (by decide) rfl ?_
      refine v_aload hC 62 0 dX8_laidPicture_62 rfl ?_
      obtain ⟨j93, f93, h⟩ := onm h
      have J93 : ∀ (S38 : pH), j93 S38 = some z → V g w 6 (Qm g w rmX8_laidPicture.cells rmX8_laidPicture.slots (some (va_rf v0)) S0) S38 2 66 93 [(0, va_rf r0), (1, .int x1), (2, va_rf r2), (3, .int x3), (4, .int x31)] [] := by
        intro S38 h
        replace h := jb1 f93 h
        obtain ⟨x39, ex39, h⟩ := onm h
        refine v_iinc hC x39 [(4, .int x39), (0, va_rf r0), (1, .int x1), (2, va_rf r2), (3, .int x3)] 93 4 dX8_laidPicture_93 rfl (by rw [ex39]; rfl) (by decide) rfl ?_
        refine v_goto hC 96 34 dX8_laidPicture_96 (by decide) ?_
        refine v_sub [(0, va_rf r0), (1, .int x1), (2, va_rf r2), (3, .int x3), (4, .int x39)] [1, 2, 3, 4, 0] rfl ?_
        exact ih _ _ _ h K
      refine v_ifnull hC 64 93 dX8_laidPicture_64 (by decide) (fun c44 => ?_) (fun c44 => ?_)
      · replace h := ifp h c44
        refine v_sub [(0, va_rf r0), (1, .int x1), (2, va_rf r2), (3, .int x3), (4, .int x31)] [1, 2, 3, 4, 5] rfl ?_
        exact J93 _ h
      · replace h := ifn h c44
        refine v_aload_n hC 67 3 dX8_laidPicture_67 rfl ?_
        refine v_iload hC 68 5 dX8_laidPicture_68 rfl ?_
        refine v_iload_n hC 70 2 dX8_laidPicture_70 rfl ?_
        refine v_imul hC 71 dX8_laidPicture_71 ?_
        refine v_iload_n hC 72 4 dX8_laidPicture_72 rfl ?_
        refine v_iload_n hC 73 2 dX8_laidPicture_73 rfl ?_
        refine v_imul hC 74 dX8_laidPicture_74 ?_
        refine v_aload hC 75 0 dX8_laidPicture_75 rfl ?_
        obtain ⟨r40, er40, h⟩ := obn h
        refine gRX8_117 hC rfl 77 er40 dX8_laidPicture_77 ?_
        refine v_aload_n hC 80 1 dX8_laidPicture_80 rfl ?_
        obtain ⟨r41, er41, h⟩ := obn h
        refine gRX8_29 hC rfl 81 er41 dX8_laidPicture_81 ?_
        refine v_iload hC 84 5 dX8_laidPicture_84 rfl ?_
        refine v_iload_n hC 86 4 dX8_laidPicture_86 rfl ?_
        obtain ⟨x42, ex42, h⟩ := obn h
        refine qX8_209 hC rfl 87 ex42 (by decide) (catL (Nat.le_of_ble_eq_true rfl)) (by decide) dX8_laidPicture_87 ?_
        obtain ⟨S43, eS43, h⟩ := obn h
        refine qX8_212 hC rfl 90 eS43 (by decide) (catL (Nat.le_of_ble_eq_true rfl)) (by decide) dX8_laidPicture_90 ?_
        refine v_sub [(0, va_rf r0), (1, .int x1), (2, va_rf r2), (3, .int x3), (4, .int x31)] [1, 2, 3, 4, 5] rfl ?_
        exact J93 _ h
set_option maxHeartbeats 1000000 in
set_option maxRecDepth 20000 in
theorem kX8_laidPicture_20 {g : VG} {w : VW} {N : Nat} {r0 : Option Nat} {x1 : Int32} {r2 : Option Nat} {v0 : Option Nat} {S0 : pH} (hC : Cx g yX8_laidPicture cX8_laidPicture 6 (some (.object "CaneHouse$Picture")) rmX8_laidPicture w) : ∀ (n : Nat) (x27 : Int32) (S28 : pH) (z : (pH)), lX8_laidPicture_20 N r0 x1 r2 n x27 S28 = some z → (∀ (e0 : pH), z = e0 → V g w 6 (Qm g w rmX8_laidPicture.cells rmX8_laidPicture.slots (some (va_rf v0)) S0) e0 2 66 105 [(2, va_rf r2)] []) → V g w 6 (Qm g w rmX8_laidPicture.cells rmX8_laidPicture.slots (some (va_rf v0)) S0) S28 2 66 20 [(0, va_rf r0), (1, .int x1), (2, va_rf r2), (3, .int x27)] [] := by
  intro n
  induction n with
  | zero => intro x27 S28 z h; rw [lX8_laidPicture_20] at h; cases h
  | succ n ih =>
    intro x27 S28 z h K
    rw [lX8_laidPicture_20] at h
    refine v_iload_n hC 20 3 dX8_laidPicture_20 rfl ?_
    refine v_aload_n hC 21 0 dX8_laidPicture_21 rfl ?_
    obtain ⟨r29, er29, h⟩ := obn h
    refine gRX8_29 hC rfl 22 er29 dX8_laidPicture_22 ?_
    obtain ⟨x30, ex30, h⟩ := obn h
    refine gRX8_206 hC rfl 25 ex30 dX8_laidPicture_25 ?_
    refine v_icmp_ge hC 28 105 dX8_laidPicture_28 (by decide) (fun c48 => ?_) (fun c48 => ?_)
    · replace h := ifp h c48
      refine v_sub [(2, va_rf r2)] [2] rfl ?_
      exact K _ (sp1 h)
    · replace h := ifn h c48
      refine v_iconst hC (0 : Int32) 31 dX8_laidPicture_31 (by decide) ?_
      refine v_istore hC [(4, .int (0 : Int32)), (0, va_rf r0), (1, .int x1), (2, va_rf r2), (3, .int x27)] 32 dX8_laidPicture_32 (by decide) rfl ?_
      obtain ⟨S46, E34, h⟩ := obn h
      refine v_sub [(0, va_rf r0), (1, .int x1), (2, va_rf r2), (3, .int x27), (4, .int (0 : Int32))] [1, 2, 3, 4, 0] rfl ?_
      refine kX8_laidPicture_34 hC _ _ _ _ E34 (fun _ hz9 => ?_)
      cases hz9
      obtain ⟨x47, ex47, h⟩ := onm h
      refine v_iinc hC x47 [(3, .int x47), (0, va_rf r0), (1, .int x1), (2, va_rf r2)] 99 3 dX8_laidPicture_99 rfl (by rw [ex47]; rfl) (by decide) (by first | rfl | (simp [cat_rf, cat_i, cat_j]; done) | (simp [cat_rf, cat_i, cat_j]; decide)) ?_
      refine v_goto hC 102 20 dX8_laidPicture_102 (by decide) ?_
      refine v_sub [(0, va_rf r0), (1, .int x1), (2, va_rf r2), (3, .int x47)] [1, 2, 3, 0] rfl ?_
      exact ih _ _ _ h K
set_option maxHeartbeats 1000000 in
set_option maxRecDepth 20000 in
theorem tX8_laidPicture {l : Launch} {w : VW} {N : Nat} {S : pH} {r0 : Option Nat} {x1 : Int32} {v0 : Option Nat} {S0 : pH} (h : fX8_laidPicture N w.2.2 S r0 x1 = some (v0, S0)) : CT l w yX8_laidPicture cX8_laidPicture 6 (some (.object "CaneHouse$Picture")) rmX8_laidPicture [va_rf r0, .int x1] S (some (va_rf v0)) S0 := by
  refine v_entry [(0, va_rf r0), (1, .int x1)] (by decide) (by simp [lg_sl, cat_rf, cat_i, cat_j]) (by simp [lv_args, cat_rf, cat_i, cat_j]) (fun g _ hC => ?_)
  unfold fX8_laidPicture at h
  obtain ⟨hO, h⟩ := chk_spec h
  obtain ⟨q21, eq21, h⟩ := onm h
  obtain ⟨S22, eS22, h⟩ := onm h
  refine v_new hC (ci := 5) [.null, .int 0] 0 rfl inG5 tyX5 tyX5_ok wG97 wG61 wG62 dfl5 (by decide) (by decide) dX8_laidPicture_0 ?_
  refine v_nw eq21 eS22 ?_
  refine v_dup hC 3 (cat_rf _) dX8_laidPicture_3 ?_
  refine v_aload_n hC 4 0 dX8_laidPicture_4 rfl ?_
  obtain ⟨r23, er23, h⟩ := obn h
  refine gRX8_29 hC rfl 5 er23 dX8_laidPicture_5 ?_
  obtain ⟨x24, ex24, h⟩ := obn h
  refine gRX8_206 hC rfl 8 ex24 dX8_laidPicture_8 ?_
  refine v_iload_n hC 11 1 dX8_laidPicture_11 rfl ?_
  refine v_imul hC 12 dX8_laidPicture_12 ?_
  refine v_iconst hC (0 : Int32) 13 dX8_laidPicture_13 (by decide) ?_
  obtain ⟨S25, eS25, h⟩ := obn h
  refine qX8_42 hC rfl 14 eS25 (by decide) (catL (Nat.le_of_ble_eq_true rfl)) (by decide) dX8_laidPicture_14 ?_
  obtain ⟨r26, er26, h⟩ := onm h
  refine v_topr r26 er26 ?_
  refine v_astore_n hC [(2, va_rf r26), (0, va_rf r0), (1, .int x1)] 17 dX8_laidPicture_17 (by decide) rfl ?_
  refine v_iconst hC (0 : Int32) 18 dX8_laidPicture_18 (by decide) ?_
  refine v_istore_n hC [(3, .int (0 : Int32)), (2, va_rf r26), (0, va_rf r0), (1, .int x1)] 19 dX8_laidPicture_19 (by decide) (by first | rfl | (simp [cat_rf, cat_i, cat_j]; done) | (simp [cat_rf, cat_i, cat_j]; decide)) ?_
  obtain ⟨S49, E20, h⟩ := obn h
  refine v_sub [(0, va_rf r0), (1, .int x1), (2, va_rf r26), (3, .int (0 : Int32))] [2, 3, 1, 0] rfl ?_
  refine kX8_laidPicture_20 hC _ _ _ _ E20 (fun _ hz9 => ?_)
  cases hz9
  refine v_aload_n hC 105 0 dX8_laidPicture_105 rfl ?_
  obtain ⟨rfl, rfl⟩ := sp2 h
  exact v_aret hC 106 (by decide) (by decide) dX8_laidPicture_106
set_option maxRecDepth 20000 in
theorem qX8_192 {g : VG} {w : VW} {nL : Nat} {Q : State → Prop} {S : pH} {kc ks : Nat} {lv : List (Nat × Value)} {rest : List Value} {y : MethodName} {cc : ByteArray} {rt : Option FieldType} {rm : Room} (hC : Cx g y cc nL rt rm w) (hy : y.cls = RX8) (pc : Nat) {N : Nat} {r0 : Option Nat} {r1 : Option Nat} {v0 : Int32} (h : fX8_allAlike N S r0 r1 = some v0) (hR : rmX8_allAlike.frames + 1 ≤ rm.frames ∧ 8 + (5 + 11) + rmX8_allAlike.locals ≤ rm.locals) (hst : (rest.map fun v => v.category).sum ≤ 8) (hf : kc + 0 ≤ rm.cells ∧ ks + 0 ≤ rm.slots) (d : decode cc pc = .ok (.invokevirtual 192, 3)) (K : V g w nL Q S kc ks (pc + 3) lv (.int v0 :: rest)) : V g w nL Q S kc ks pc lv (va_rf r1 :: va_rf r0 :: rest) := by
  obtain ⟨fs, ho⟩ := oX8_allAlike h
  exact v_callV (As := [va_rf r1]) (rest := rest) (ci := 8) hC pc (tX8_allAlike (l := g.2.1) (w := w) h) rfl (by decide) ho wG379 (by rw [hy]; exact wG378) wG380 wG381 wG197 hdX8_allAlike rfl hR hst hf d K
set_option maxRecDepth 20000 in
theorem qX8_196 {g : VG} {w : VW} {nL : Nat} {Q : State → Prop} {S : pH} {kc ks : Nat} {lv : List (Nat × Value)} {rest : List Value} {y : MethodName} {cc : ByteArray} {rt : Option FieldType} {rm : Room} (hC : Cx g y cc nL rt rm w) (hy : y.cls = RX8) (pc : Nat) {N : Nat} {r0 : Option Nat} {x1 : Int32} {v0 : Int32} (h : fX8_allLongEnough N S r0 x1 = some v0) (hR : rmX8_allLongEnough.frames + 1 ≤ rm.frames ∧ 8 + (4 + 11) + rmX8_allLongEnough.locals ≤ rm.locals) (hst : (rest.map fun v => v.category).sum ≤ 8) (hf : kc + 0 ≤ rm.cells ∧ ks + 0 ≤ rm.slots) (d : decode cc pc = .ok (.invokevirtual 196, 3)) (K : V g w nL Q S kc ks (pc + 3) lv (.int v0 :: rest)) : V g w nL Q S kc ks pc lv (.int x1 :: va_rf r0 :: rest) := by
  obtain ⟨fs, ho⟩ := oX8_allLongEnough h
  exact v_callV (As := [.int x1]) (rest := rest) (ci := 8) hC pc (tX8_allLongEnough (l := g.2.1) (w := w) h) rfl (by decide) ho wG383 (by rw [hy]; exact wG382) wG384 wG385 wG197 hdX8_allLongEnough rfl hR hst hf d K
set_option maxRecDepth 20000 in
theorem qX8_199 {g : VG} {w : VW} {nL : Nat} {Q : State → Prop} {S : pH} {kc ks : Nat} {lv : List (Nat × Value)} {rest : List Value} {y : MethodName} {cc : ByteArray} {rt : Option FieldType} {rm : Room} (hC : Cx g y cc nL rt rm w) (hy : y.cls = RX8) (pc : Nat) {N : Nat} {r0 : Option Nat} {x1 : Int32} {v0 : Option Nat} {S0 : pH} (h : fX8_laidPicture N w.2.2 S r0 x1 = some (v0, S0)) (hR : rmX8_laidPicture.frames + 1 ≤ rm.frames ∧ 8 + (6 + 11) + rmX8_laidPicture.locals ≤ rm.locals) (hst : (rest.map fun v => v.category).sum ≤ 8) (hf : kc + 2 ≤ rm.cells ∧ ks + 66 ≤ rm.slots) (d : decode cc pc = .ok (.invokevirtual 199, 3)) (K : V g w nL Q S0 (kc + 2) (ks + 66) (pc + 3) lv (va_rf v0 :: rest)) : V g w nL Q S kc ks pc lv (.int x1 :: va_rf r0 :: rest) := by
  obtain ⟨fs, ho⟩ := oX8_laidPicture h
  exact v_callV (As := [.int x1]) (rest := rest) (ci := 8) hC pc (tX8_laidPicture (l := g.2.1) (w := w) h) rfl (by decide) ho wG387 (by rw [hy]; exact wG386) wG388 wG389 wG197 hdX8_laidPicture rfl hR hst hf d K
set_option maxRecDepth 20000 in
theorem qX8_92 {g : VG} {w : VW} {nL : Nat} {Q : State → Prop} {S : pH} {kc ks : Nat} {lv : List (Nat × Value)} {rest : List Value} {y : MethodName} {cc : ByteArray} {rt : Option FieldType} {rm : Room} (hC : Cx g y cc nL rt rm w) (hy : y.cls = RX8) (pc : Nat) {N : Nat} {r0 : Option Nat} {r1 : Option Nat} {x2 : Int32} {x3 : Int32} {S0 : pH} (h : fX1_init N S r0 r1 x2 x3 = some S0) (hR : rmX1_init.frames + 1 ≤ rm.frames ∧ 8 + (4 + 11) + rmX1_init.locals ≤ rm.locals) (hst : (rest.map fun v => v.category).sum ≤ 8) (hf : kc + 0 ≤ rm.cells ∧ ks + 0 ≤ rm.slots) (d : decode cc pc = .ok (.invokespecial 92, 3)) (K : V g w nL Q S0 kc ks (pc + 3) lv (rest)) : V g w nL Q S kc ks pc lv (.int x3 :: .int x2 :: va_rf r1 :: va_rf r0 :: rest) := by
  obtain ⟨fs, ho⟩ := oX1_init h
  exact v_callI (As := [va_rf r1, .int x2, .int x3]) (rest := rest) hC pc (tX1_init (l := g.2.1) (w := w) h) ho wG391 (by rw [hy]; exact wG390) wG392 wG100 rfl hdX1_init rfl hR hst hf d K
set_option maxRecDepth 20000 in
theorem qX8_103 {g : VG} {w : VW} {nL : Nat} {Q : State → Prop} {S : pH} {kc ks : Nat} {lv : List (Nat × Value)} {rest : List Value} {y : MethodName} {cc : ByteArray} {rt : Option FieldType} {rm : Room} (hC : Cx g y cc nL rt rm w) (hy : y.cls = RX8) (pc : Nat) {N : Nat} {r0 : Option Nat} {r1 : Option Nat} {v0 : Int32} {S0 : pH} (h : fX8_keep N S r0 r1 = some (v0, S0)) (hR : rmX8_keep.frames + 1 ≤ rm.frames ∧ 8 + (2 + 11) + rmX8_keep.locals ≤ rm.locals) (hst : (rest.map fun v => v.category).sum ≤ 8) (hf : kc + 0 ≤ rm.cells ∧ ks + 0 ≤ rm.slots) (d : decode cc pc = .ok (.invokevirtual 103, 3)) (K : V g w nL Q S0 kc ks (pc + 3) lv (.int v0 :: rest)) : V g w nL Q S kc ks pc lv (va_rf r1 :: va_rf r0 :: rest) := by
  obtain ⟨fs, ho⟩ := oX8_keep h
  exact v_callV (As := [va_rf r1]) (rest := rest) (ci := 8) hC pc (tX8_keep (l := g.2.1) (w := w) h) rfl (by decide) ho wG394 (by rw [hy]; exact wG393) wG395 wG396 wG197 hdX8_keep rfl hR hst hf d K
abbrev rmX8_bundle : Room := { frames := 5, cells := 3, slots := 70, locals := 118 }
theorem hdX8_bundle : yX8_bundle.cls ≠ "java/lang/invoke/MethodHandle" ∧ yX8_bundle.cls ≠ "java/lang/invoke/VarHandle" ∧ (parseMethodDescriptor yX8_bundle.desc).map (fun d => d.parameters.length) = some 1 := by decide +kernel
def lX8_bundle_89 (N : Nat) (r0 : Option Nat) (x1 : Int32) (r3 : Option Nat) : Nat → Int32 → pH → Option (pH)
  | 0, _, _ => none
  | n + 1, x37, S38 =>
    (gfI S38 8 2 r0).bind fun x39 =>
    if x39 ≤ x37 then
    (some S38)
    else
    (fX8_find N S38 r0 x37).bind fun r40 =>
    nm (fun (S41 : pH) =>
    nm (x37 + (1 : Int32)) fun x42 =>
    lX8_bundle_89 N r0 x1 r3 n x42 S41) fun j132 =>
    if r40 = none then
    (j132 S38)
    else
    (gfI S38 1 1 r40).bind fun x43 =>
    (gfR S38 8 3 r0).bind fun r44 =>
    (fX7_placesOf N S38 r44 x37).bind fun x45 =>
    (pfV S38 1 1 r40 (.int (x43 - (x1 * x45)))).bind fun S46 =>
    j132 S46
def fX8_bundle (N : Nat) (b : Nat) (S : pH) (r0 : Option Nat) (x1 : Int32) : Option (Int32 × pH) :=
  chk S 8 r0 <|
  (fX8_isWithin N S x1 (1 : Int32) (9999 : Int32)).bind fun x21 =>
  if ¬ x21 = 0 then
  ((gfR S 8 3 r0).bind fun r22 =>
  (fX7_caneAt N S r22 (0 : Int32) (0 : Int32)).bind fun x23 =>
  (fX8_find N S r0 x23).bind fun r24 =>
  if r24 = none then
  (some ((-2 : Int32), S))
  else
  (fX8_allAlike N S r0 r24).bind fun x25 =>
  if x25 = 0 then
  (some ((-2 : Int32), S))
  else
  (fX8_allLongEnough N S r0 x1).bind fun x26 =>
  if ¬ x26 = 0 then
  ((gfI S 8 2 r0).bind fun x27 =>
  if x27 < (16 : Int32) then
  (nm (b + S.1) fun q28 =>
  nm (puS b S (pO 1 [.null, .int 0, .int 0, .int 0])) fun S29 =>
  (gfR S29 1 0 r24).bind fun r30 =>
  (gfI S29 5 1 r30).bind fun x31 =>
  b2 (fX8_laidPicture N b S29 r0 x31) fun r32 S33 =>
  (gfI S33 1 2 r24).bind fun x34 =>
  (fX1_init N S33 (some q28) r32 x1 x34).bind fun S35 =>
  nm (some q28) fun r36 =>
  (lX8_bundle_89 N r0 x1 r36 N (0 : Int32) S35).bind fun S49 =>
  b2 (fX8_keep N S49 r0 r36) fun x50 S51 =>
  some (x50, S51))
  else
  some ((-3 : Int32), S))
  else
  some ((-2 : Int32), S))
  else
  some ((-1 : Int32), S)
theorem oX8_bundle {b : Nat} {N : Nat} {S : pH} {r0 : Option Nat} {x1 : Int32} {z : Int32 × pH} (h : fX8_bundle N b S r0 x1 = some z) : ∃ fs, obj S 8 r0 = some fs := by
  unfold fX8_bundle at h
  exact (chk_spec h).1
set_option maxHeartbeats 1000000 in
set_option maxRecDepth 20000 in
theorem kX8_bundle_89 {g : VG} {w : VW} {N : Nat} {r0 : Option Nat} {x1 : Int32} {r3 : Option Nat} {v0 : Int32} {S0 : pH} (hC : Cx g yX8_bundle cX8_bundle 6 (some .int) rmX8_bundle w) : ∀ (n : Nat) (x37 : Int32) (S38 : pH) (z : (pH)), lX8_bundle_89 N r0 x1 r3 n x37 S38 = some z → (∀ (e0 : pH), z = e0 → V g w 6 (Qm g w rmX8_bundle.cells rmX8_bundle.slots (some (.int v0)) S0) e0 3 70 138 [(0, va_rf r0), (3, va_rf r3)] []) → V g w 6 (Qm g w rmX8_bundle.cells rmX8_bundle.slots (some (.int v0)) S0) S38 3 70 89 [(0, va_rf r0), (1, .int x1), (3, va_rf r3), (4, .int x37)] [] := by
  intro n
  induction n with
  | zero => intro x37 S38 z h; rw [lX8_bundle_89] at h; cases h
  | succ n ih =>
    intro x37 S38 z h K
    rw [lX8_bundle_89] at h
    refine v_iload hC 89 3 dX8_bundle_89 rfl ?_
    refine v_aload_n hC 91 0 dX8_bundle_91 rfl ?_
    obtain ⟨x39, ex39, h⟩ := obn h
    refine gRX8_22 hC rfl 92 ex39 dX8_bundle_92 ?_
    refine v_icmp_ge hC 95 138 dX8_bundle_95 (by decide) (fun c48 => ?_) (fun c48 => ?_)
    · replace h := ifp h c48
      refine v_sub [(0, va_rf r0), (3, va_rf r3)] [0, 2] rfl ?_
      exact K _ (sp1 h)
    · replace h := ifn h c48
      refine v_aload_n hC 98 0 dX8_bundle_98 rfl ?_
      refine v_iload hC 99 3 dX8_bundle_99 rfl ?_
      obtain ⟨r40, er40, h⟩ := obn h
      refine qX8_142 hC rfl 101 er40 (by decide) (catL (Nat.le_of_ble_eq_true rfl)) (by decide) dX8_bundle_101 ?_
      refine v_astore hC [(5, va_rf r40), (0, va_rf r0), (1, .int x1), (3, va_rf r3), (4, .int x37)] 104 dX8_bundle_104 (by decide) rfl ?_
      refine v_aload hC 106 0 dX8_bundle_106 rfl ?_
      obtain ⟨j132, f132, h⟩ := onm h
      have J132 : ∀ (S41 : pH), j132 S41 = some z → V g w 6 (Qm g w rmX8_bundle.cells rmX8_bundle.slots (some (.int v0)) S0) S41 3 70 132 [(0, va_rf r0), (1, .int x1), (3, va_rf r3), (4, .int x37)] [] := by
        intro S41 h
        replace h := jb1 f132 h
        obtain ⟨x42, ex42, h⟩ := onm h
        refine v_iinc hC x42 [(4, .int x42), (0, va_rf r0), (1, .int x1), (3, va_rf r3)] 132 3 dX8_bundle_132 rfl (by rw [ex42]; rfl) (by decide) (by first | rfl | (simp [cat_rf, cat_i, cat_j]; done) | (simp [cat_rf, cat_i, cat_j]; decide)) ?_
        refine v_goto hC 135 89 dX8_bundle_135 (by decide) ?_
        refine v_sub [(0, va_rf r0), (1, .int x1), (3, va_rf r3), (4, .int x42)] [1, 2, 3, 0] rfl ?_
        exact ih _ _ _ h K
      refine v_ifnull hC 108 132 dX8_bundle_108 (by decide) (fun c47 => ?_) (fun c47 => ?_)
      · replace h := ifp h c47
        refine v_sub [(0, va_rf r0), (1, .int x1), (3, va_rf r3), (4, .int x37)] [1, 2, 3, 4] rfl ?_
        exact J132 _ h
      · replace h := ifn h c47
        refine v_aload hC 111 0 dX8_bundle_111 rfl ?_
        refine v_dup hC 113 (cat_rf _) dX8_bundle_113 ?_
        obtain ⟨x43, ex43, h⟩ := obn h
        refine gRX8_111 hC rfl 114 ex43 dX8_bundle_114 ?_
        refine v_iload_n hC 117 2 dX8_bundle_117 rfl ?_
        refine v_aload_n hC 118 1 dX8_bundle_118 rfl ?_
        obtain ⟨r44, er44, h⟩ := obn h
        refine gRX8_29 hC rfl 119 er44 dX8_bundle_119 ?_
        refine v_iload hC 122 4 dX8_bundle_122 rfl ?_
        obtain ⟨x45, ex45, h⟩ := obn h
        refine qX8_203 hC rfl 124 ex45 (by decide) (catL (Nat.le_of_ble_eq_true rfl)) (by decide) dX8_bundle_124 ?_
        refine v_imul hC 127 dX8_bundle_127 ?_
        refine v_isub hC 128 dX8_bundle_128 ?_
        obtain ⟨S46, eS46, h⟩ := obn h
        refine pRX8_111 hC rfl 129 eS46 dX8_bundle_129 ?_
        refine v_sub [(0, va_rf r0), (1, .int x1), (3, va_rf r3), (4, .int x37)] [1, 2, 3, 4] rfl ?_
        exact J132 _ h
set_option maxHeartbeats 1000000 in
set_option maxRecDepth 20000 in
theorem tX8_bundle {l : Launch} {w : VW} {N : Nat} {S : pH} {r0 : Option Nat} {x1 : Int32} {v0 : Int32} {S0 : pH} (h : fX8_bundle N w.2.2 S r0 x1 = some (v0, S0)) : CT l w yX8_bundle cX8_bundle 6 (some .int) rmX8_bundle [va_rf r0, .int x1] S (some (.int v0)) S0 := by
  refine v_entry [(0, va_rf r0), (1, .int x1)] (by decide) (by simp [lg_sl, cat_rf, cat_i, cat_j]) (by simp [lv_args, cat_rf, cat_i, cat_j]) (fun g _ hC => ?_)
  unfold fX8_bundle at h
  obtain ⟨hO, h⟩ := chk_spec h
  refine v_iload_n hC 0 1 dX8_bundle_0 rfl ?_
  refine v_iconst hC (1 : Int32) 1 dX8_bundle_1 (by decide) ?_
  refine v_sipush hC (9999 : Int32) 2 dX8_bundle_2 (by decide) ?_
  obtain ⟨x21, ex21, h⟩ := obn h
  refine qX8_81 hC rfl 5 ex21 (by decide) (catL (Nat.le_of_ble_eq_true rfl)) (by decide) dX8_bundle_5 ?_
  refine v_if_ne hC 8 13 dX8_bundle_8 (by decide) (fun c56 => ?_) (fun c56 => ?_)
  · replace h := ifp h c56
    refine v_aload_n hC 13 0 dX8_bundle_13 rfl ?_
    refine v_aload_n hC 14 0 dX8_bundle_14 rfl ?_
    obtain ⟨r22, er22, h⟩ := obn h
    refine gRX8_29 hC rfl 15 er22 dX8_bundle_15 ?_
    refine v_iconst hC (0 : Int32) 18 dX8_bundle_18 (by decide) ?_
    refine v_iconst hC (0 : Int32) 19 dX8_bundle_19 (by decide) ?_
    obtain ⟨x23, ex23, h⟩ := obn h
    refine qX8_189 hC rfl 20 ex23 (by decide) (catL (Nat.le_of_ble_eq_true rfl)) (by decide) dX8_bundle_20 ?_
    obtain ⟨r24, er24, h⟩ := obn h
    refine qX8_142 hC rfl 23 er24 (by decide) (catL (Nat.le_of_ble_eq_true rfl)) (by decide) dX8_bundle_23 ?_
    refine v_astore_n hC [(2, va_rf r24), (0, va_rf r0), (1, .int x1)] 26 dX8_bundle_26 (by decide) rfl ?_
    refine v_aload_n hC 27 0 dX8_bundle_27 rfl ?_
    refine v_ifnull hC 28 47 dX8_bundle_28 (by decide) (fun c55 => ?_) (fun c55 => ?_)
    · replace h := ifp h c55
      refine v_bipush hC (-2 : Int32) 47 dX8_bundle_47 (by decide) ?_
      obtain ⟨rfl, rfl⟩ := sp2 h
      exact v_iret hC 49 (by decide) (by decide) dX8_bundle_49
    · replace h := ifn h c55
      refine v_aload_n hC 31 1 dX8_bundle_31 rfl ?_
      refine v_aload_n hC 32 0 dX8_bundle_32 rfl ?_
      obtain ⟨x25, ex25, h⟩ := obn h
      refine qX8_192 hC rfl 33 ex25 (by decide) (catL (Nat.le_of_ble_eq_true rfl)) (by decide) dX8_bundle_33 ?_
      refine v_if_eq hC 36 47 dX8_bundle_36 (by decide) (fun c54 => ?_) (fun c54 => ?_)
      · replace h := ifp h c54
        refine v_bipush hC (-2 : Int32) 47 dX8_bundle_47 (by decide) ?_
        obtain ⟨rfl, rfl⟩ := sp2 h
        exact v_iret hC 49 (by decide) (by decide) dX8_bundle_49
      · replace h := ifn h c54
        refine v_aload_n hC 39 1 dX8_bundle_39 rfl ?_
        refine v_iload_n hC 40 2 dX8_bundle_40 rfl ?_
        obtain ⟨x26, ex26, h⟩ := obn h
        refine qX8_196 hC rfl 41 ex26 (by decide) (catL (Nat.le_of_ble_eq_true rfl)) (by decide) dX8_bundle_41 ?_
        refine v_if_ne hC 44 50 dX8_bundle_44 (by decide) (fun c53 => ?_) (fun c53 => ?_)
        · replace h := ifp h c53
          refine v_aload_n hC 50 1 dX8_bundle_50 rfl ?_
          obtain ⟨x27, ex27, h⟩ := obn h
          refine gRX8_22 hC rfl 51 ex27 dX8_bundle_51 ?_
          refine v_bipush hC (16 : Int32) 54 dX8_bundle_54 (by decide) ?_
          refine v_icmp_lt hC 56 62 dX8_bundle_56 (by decide) (fun c52 => ?_) (fun c52 => ?_)
          · replace h := ifp h c52
            obtain ⟨q28, eq28, h⟩ := onm h
            obtain ⟨S29, eS29, h⟩ := onm h
            refine v_new hC (ci := 1) [.null, .int 0, .int 0, .int 0] 62 rfl inG1 tyX1 tyX1_ok wG98 wG99 wG100 dfl1 (by decide) (by decide) dX8_bundle_62 ?_
            refine v_nw eq28 eS29 ?_
            refine v_dup hC 65 (cat_rf _) dX8_bundle_65 ?_
            refine v_aload_n hC 66 1 dX8_bundle_66 rfl ?_
            refine v_aload_n hC 67 0 dX8_bundle_67 rfl ?_
            obtain ⟨r30, er30, h⟩ := obn h
            refine gRX8_117 hC rfl 68 er30 dX8_bundle_68 ?_
            obtain ⟨x31, ex31, h⟩ := obn h
            refine gRX8_135 hC rfl 71 ex31 dX8_bundle_71 ?_
            obtain ⟨r32, S33, er32, h⟩ := ob2 h
            refine qX8_199 hC rfl 74 er32 (by decide) (catL (Nat.le_of_ble_eq_true rfl)) (by decide) dX8_bundle_74 ?_
            refine v_iload_n hC 77 2 dX8_bundle_77 rfl ?_
            refine v_aload_n hC 78 0 dX8_bundle_78 rfl ?_
            obtain ⟨x34, ex34, h⟩ := obn h
            refine gRX8_114 hC rfl 79 ex34 dX8_bundle_79 ?_
            obtain ⟨S35, eS35, h⟩ := obn h
            refine qX8_92 hC rfl 82 eS35 (by decide) (catL (Nat.le_of_ble_eq_true rfl)) (by decide) dX8_bundle_82 ?_
            obtain ⟨r36, er36, h⟩ := onm h
            refine v_topr r36 er36 ?_
            refine v_astore_n hC [(3, va_rf r36), (2, va_rf r24), (0, va_rf r0), (1, .int x1)] 85 dX8_bundle_85 (by decide) (by first | rfl | (simp [cat_rf, cat_i, cat_j]; done) | (simp [cat_rf, cat_i, cat_j]; decide)) ?_
            refine v_iconst hC (0 : Int32) 86 dX8_bundle_86 (by decide) ?_
            refine v_istore hC [(4, .int (0 : Int32)), (3, va_rf r36), (2, va_rf r24), (0, va_rf r0), (1, .int x1)] 87 dX8_bundle_87 (by decide) (by first | rfl | (simp [cat_rf, cat_i, cat_j]; done) | (simp [cat_rf, cat_i, cat_j]; decide)) ?_
            obtain ⟨S49, E89, h⟩ := obn h
            refine v_sub [(0, va_rf r0), (1, .int x1), (3, va_rf r36), (4, .int (0 : Int32))] [3, 4, 1, 0] rfl ?_
            refine kX8_bundle_89 hC _ _ _ _ E89 (fun _ hz9 => ?_)
            cases hz9
            refine v_aload_n hC 138 0 dX8_bundle_138 rfl ?_
            refine v_aload_n hC 139 1 dX8_bundle_139 rfl ?_
            obtain ⟨x50, S51, ex50, h⟩ := ob2 h
            refine qX8_103 hC rfl 140 ex50 (by decide) (catL (Nat.le_of_ble_eq_true rfl)) (by decide) dX8_bundle_140 ?_
            obtain ⟨rfl, rfl⟩ := sp2 h
            exact v_iret hC 143 (by decide) (by decide) dX8_bundle_143
          · replace h := ifn h c52
            refine v_bipush hC (-3 : Int32) 59 dX8_bundle_59 (by decide) ?_
            obtain ⟨rfl, rfl⟩ := sp2 h
            exact v_iret hC 61 (by decide) (by decide) dX8_bundle_61
        · replace h := ifn h (fun q => q c53)
          refine v_bipush hC (-2 : Int32) 47 dX8_bundle_47 (by decide) ?_
          obtain ⟨rfl, rfl⟩ := sp2 h
          exact v_iret hC 49 (by decide) (by decide) dX8_bundle_49
  · replace h := ifn h (fun q => q c56)
    refine v_iconst hC (-1 : Int32) 11 dX8_bundle_11 (by decide) ?_
    obtain ⟨rfl, rfl⟩ := sp2 h
    exact v_iret hC 12 (by decide) (by decide) dX8_bundle_12
set_option maxRecDepth 20000 in
theorem qX8_249 {g : VG} {w : VW} {nL : Nat} {Q : State → Prop} {S : pH} {kc ks : Nat} {lv : List (Nat × Value)} {rest : List Value} {y : MethodName} {cc : ByteArray} {rt : Option FieldType} {rm : Room} (hC : Cx g y cc nL rt rm w) (hy : y.cls = RX8) (pc : Nat) {N : Nat} {r0 : Option Nat} {x1 : Int32} {v0 : Int32} (h : fX5_unlikeParts N S r0 x1 = some v0) (hR : rmX5_unlikeParts.frames + 1 ≤ rm.frames ∧ 8 + (5 + 11) + rmX5_unlikeParts.locals ≤ rm.locals) (hst : (rest.map fun v => v.category).sum ≤ 8) (hf : kc + 0 ≤ rm.cells ∧ ks + 0 ≤ rm.slots) (d : decode cc pc = .ok (.invokevirtual 249, 3)) (K : V g w nL Q S kc ks (pc + 3) lv (.int v0 :: rest)) : V g w nL Q S kc ks pc lv (.int x1 :: va_rf r0 :: rest) := by
  obtain ⟨fs, ho⟩ := oX5_unlikeParts h
  exact v_callV (As := [.int x1]) (rest := rest) (ci := 5) hC pc (tX5_unlikeParts (l := g.2.1) (w := w) h) rfl (by decide) ho wG398 (by rw [hy]; exact wG397) wG399 wG400 wG62 hdX5_unlikeParts rfl hR hst hf d K
abbrev rmX8_bundlesOf : Room := { frames := 5, cells := 0, slots := 0, locals := 126 }
theorem hdX8_bundlesOf : yX8_bundlesOf.cls ≠ "java/lang/invoke/MethodHandle" ∧ yX8_bundlesOf.cls ≠ "java/lang/invoke/VarHandle" ∧ (parseMethodDescriptor yX8_bundlesOf.desc).map (fun d => d.parameters.length) = some 1 := by decide +kernel
def lX8_bundlesOf_4 (N : Nat) (S : pH) (r0 : Option Nat) (x1 : Int32) : Nat → Int32 → Int32 → Option (Int32)
  | 0, _, _ => none
  | n + 1, x21, x22 =>
    (gfR S 8 5 r0).bind fun r23 =>
    (gfI S 5 1 r23).bind fun x24 =>
    if x24 < x22 then
    (some x21)
    else
    nm (fun (x25 : Int32) =>
    nm (x22 * (2 : Int32)) fun x26 =>
    lX8_bundlesOf_4 N S r0 x1 n x25 x26) fun j32 =>
    if (x1 &&& x22) = 0 then
    (j32 x21)
    else
    (gfR S 8 5 r0).bind fun r27 =>
    (fX5_unlikeParts N S r27 x22).bind fun x28 =>
    nm (x21 + x28) fun x29 =>
    j32 x29
def fX8_bundlesOf (N : Nat) (S : pH) (r0 : Option Nat) (x1 : Int32) : Option (Int32) :=
  chk S 8 r0 <|
  (lX8_bundlesOf_4 N S r0 x1 N (0 : Int32) (2 : Int32)).bind fun x32 =>
  some x32
theorem oX8_bundlesOf {N : Nat} {S : pH} {r0 : Option Nat} {x1 : Int32} {z : Int32} (h : fX8_bundlesOf N S r0 x1 = some z) : ∃ fs, obj S 8 r0 = some fs := by
  unfold fX8_bundlesOf at h
  exact (chk_spec h).1
set_option maxHeartbeats 1000000 in
set_option maxRecDepth 20000 in
theorem kX8_bundlesOf_4 {g : VG} {w : VW} {N : Nat} {S : pH} {r0 : Option Nat} {x1 : Int32} {v0 : Int32} (hC : Cx g yX8_bundlesOf cX8_bundlesOf 4 (some .int) rmX8_bundlesOf w) : ∀ (n : Nat) (x21 : Int32) (x22 : Int32) (z : (Int32)), lX8_bundlesOf_4 N S r0 x1 n x21 x22 = some z → (∀ (e0 : Int32), z = e0 → V g w 4 (Qm g w rmX8_bundlesOf.cells rmX8_bundlesOf.slots (some (.int v0)) S) S 0 0 39 [(2, .int e0)] []) → V g w 4 (Qm g w rmX8_bundlesOf.cells rmX8_bundlesOf.slots (some (.int v0)) S) S 0 0 4 [(0, va_rf r0), (1, .int x1), (2, .int x21), (3, .int x22)] [] := by
  intro n
  induction n with
  | zero => intro x21 x22 z h; rw [lX8_bundlesOf_4] at h; cases h
  | succ n ih =>
    intro x21 x22 z h K
    rw [lX8_bundlesOf_4] at h
    refine v_iload_n hC 4 3 dX8_bundlesOf_4 rfl ?_
    refine v_aload_n hC 5 0 dX8_bundlesOf_5 rfl ?_
    obtain ⟨r23, er23, h⟩ := obn h
    refine gRX8_45 hC rfl 6 er23 dX8_bundlesOf_6 ?_
    obtain ⟨x24, ex24, h⟩ := obn h
    refine gRX8_135 hC rfl 9 ex24 dX8_bundlesOf_9 ?_
    refine v_icmp_gt hC 12 39 dX8_bundlesOf_12 (by decide) (fun c31 => ?_) (fun c31 => ?_)
    · replace h := ifp h c31
      refine v_sub [(2, .int x21)] [2] rfl ?_
      exact K _ (sp1 h)
    · replace h := ifn h c31
      refine v_iload_n hC 15 1 dX8_bundlesOf_15 rfl ?_
      refine v_iload_n hC 16 3 dX8_bundlesOf_16 rfl ?_
      refine v_iand hC 17 dX8_bundlesOf_17 ?_
      obtain ⟨j32, f32, h⟩ := onm h
      have J32 : ∀ (x25 : Int32), j32 x25 = some z → V g w 4 (Qm g w rmX8_bundlesOf.cells rmX8_bundlesOf.slots (some (.int v0)) S) S 0 0 32 [(0, va_rf r0), (1, .int x1), (2, .int x25), (3, .int x22)] [] := by
        intro x25 h
        replace h := jb1 f32 h
        refine v_iload_n hC 32 3 dX8_bundlesOf_32 rfl ?_
        refine v_iconst hC (2 : Int32) 33 dX8_bundlesOf_33 (by decide) ?_
        refine v_imul hC 34 dX8_bundlesOf_34 ?_
        obtain ⟨x26, ex26, h⟩ := onm h
        refine v_topi x26 ex26 ?_
        refine v_istore_n hC [(3, .int x26), (0, va_rf r0), (1, .int x1), (2, .int x25)] 35 dX8_bundlesOf_35 (by decide) rfl ?_
        refine v_goto hC 36 4 dX8_bundlesOf_36 (by decide) ?_
        refine v_sub [(0, va_rf r0), (1, .int x1), (2, .int x25), (3, .int x26)] [1, 2, 3, 0] rfl ?_
        exact ih _ _ _ h K
      refine v_if_eq hC 18 32 dX8_bundlesOf_18 (by decide) (fun c30 => ?_) (fun c30 => ?_)
      · replace h := ifp h c30
        refine v_sub [(0, va_rf r0), (1, .int x1), (2, .int x21), (3, .int x22)] [0, 1, 2, 3] rfl ?_
        exact J32 _ h
      · replace h := ifn h c30
        refine v_iload_n hC 21 2 dX8_bundlesOf_21 rfl ?_
        refine v_aload_n hC 22 0 dX8_bundlesOf_22 rfl ?_
        obtain ⟨r27, er27, h⟩ := obn h
        refine gRX8_45 hC rfl 23 er27 dX8_bundlesOf_23 ?_
        refine v_iload_n hC 26 3 dX8_bundlesOf_26 rfl ?_
        obtain ⟨x28, ex28, h⟩ := obn h
        refine qX8_249 hC rfl 27 ex28 (by decide) (catL (Nat.le_of_ble_eq_true rfl)) (by decide) dX8_bundlesOf_27 ?_
        refine v_iadd hC 30 dX8_bundlesOf_30 ?_
        obtain ⟨x29, ex29, h⟩ := onm h
        refine v_topi x29 ex29 ?_
        refine v_istore_n hC [(2, .int x29), (0, va_rf r0), (1, .int x1), (3, .int x22)] 31 dX8_bundlesOf_31 (by decide) rfl ?_
        refine v_sub [(0, va_rf r0), (1, .int x1), (2, .int x29), (3, .int x22)] [1, 2, 0, 3] rfl ?_
        exact J32 _ h
set_option maxHeartbeats 1000000 in
set_option maxRecDepth 20000 in
theorem tX8_bundlesOf {l : Launch} {w : VW} {N : Nat} {S : pH} {r0 : Option Nat} {x1 : Int32} {v0 : Int32} (h : fX8_bundlesOf N S r0 x1 = some v0) : CT l w yX8_bundlesOf cX8_bundlesOf 4 (some .int) rmX8_bundlesOf [va_rf r0, .int x1] S (some (.int v0)) S := by
  refine v_entry [(0, va_rf r0), (1, .int x1)] (by decide) (by simp [lg_sl, cat_rf, cat_i, cat_j]) (by simp [lv_args, cat_rf, cat_i, cat_j]) (fun g _ hC => ?_)
  unfold fX8_bundlesOf at h
  obtain ⟨hO, h⟩ := chk_spec h
  refine v_iconst hC (0 : Int32) 0 dX8_bundlesOf_0 (by decide) ?_
  refine v_istore_n hC [(2, .int (0 : Int32)), (0, va_rf r0), (1, .int x1)] 1 dX8_bundlesOf_1 (by decide) rfl ?_
  refine v_iconst hC (2 : Int32) 2 dX8_bundlesOf_2 (by decide) ?_
  refine v_istore_n hC [(3, .int (2 : Int32)), (2, .int (0 : Int32)), (0, va_rf r0), (1, .int x1)] 3 dX8_bundlesOf_3 (by decide) rfl ?_
  obtain ⟨x32, E4, h⟩ := obn h
  refine v_sub [(0, va_rf r0), (1, .int x1), (2, .int (0 : Int32)), (3, .int (2 : Int32))] [2, 3, 1, 0] rfl ?_
  refine kX8_bundlesOf_4 hC _ _ _ _ E4 (fun _ hz9 => ?_)
  cases hz9
  refine v_iload_n hC 39 0 dX8_bundlesOf_39 rfl ?_
  obtain rfl := sp1 h
  exact v_iret hC 40 (by decide) (by decide) dX8_bundlesOf_40
set_option maxRecDepth 20000 in
theorem qX8_138 {g : VG} {w : VW} {nL : Nat} {Q : State → Prop} {S : pH} {kc ks : Nat} {lv : List (Nat × Value)} {rest : List Value} {y : MethodName} {cc : ByteArray} {rt : Option FieldType} {rm : Room} (hC : Cx g y cc nL rt rm w) (hy : y.cls = RX8) (pc : Nat) {N : Nat} {r0 : Option Nat} {x1 : Int32} {S0 : pH} (h : fX5_addRing N S r0 x1 = some S0) (hR : rmX5_addRing.frames + 1 ≤ rm.frames ∧ 8 + (5 + 11) + rmX5_addRing.locals ≤ rm.locals) (hst : (rest.map fun v => v.category).sum ≤ 8) (hf : kc + 0 ≤ rm.cells ∧ ks + 0 ≤ rm.slots) (d : decode cc pc = .ok (.invokevirtual 138, 3)) (K : V g w nL Q S0 kc ks (pc + 3) lv (rest)) : V g w nL Q S kc ks pc lv (.int x1 :: va_rf r0 :: rest) := by
  obtain ⟨fs, ho⟩ := oX5_addRing h
  exact v_callV (As := [.int x1]) (rest := rest) (ci := 5) hC pc (tX5_addRing (l := g.2.1) (w := w) h) rfl (by decide) ho wG402 (by rw [hy]; exact wG401) wG403 wG404 wG62 hdX5_addRing rfl hR hst hf d K
set_option maxRecDepth 20000 in
theorem qX8_99 {g : VG} {w : VW} {nL : Nat} {Q : State → Prop} {S : pH} {kc ks : Nat} {lv : List (Nat × Value)} {rest : List Value} {y : MethodName} {cc : ByteArray} {rt : Option FieldType} {rm : Room} (hC : Cx g y cc nL rt rm w) (hy : y.cls = RX8) (pc : Nat) {N : Nat} {r0 : Option Nat} {x1 : Int32} {j2 : Int64} {S0 : pH} (h : fX3_bookCame N S r0 x1 j2 = some S0) (hR : rmX3_bookCame.frames + 1 ≤ rm.frames ∧ 8 + (4 + 11) + rmX3_bookCame.locals ≤ rm.locals) (hst : (rest.map fun v => v.category).sum ≤ 8) (hf : kc + 0 ≤ rm.cells ∧ ks + 0 ≤ rm.slots) (d : decode cc pc = .ok (.invokevirtual 99, 3)) (K : V g w nL Q S0 kc ks (pc + 3) lv (rest)) : V g w nL Q S kc ks pc lv (.long j2 :: .int x1 :: va_rf r0 :: rest) := by
  obtain ⟨fs, ho⟩ := oX3_bookCame h
  exact v_callV (As := [.int x1, .long j2]) (rest := rest) (ci := 3) hC pc (tX3_bookCame (l := g.2.1) (w := w) h) rfl (by decide) ho wG406 (by rw [hy]; exact wG405) wG407 wG408 wG110 hdX3_bookCame rfl hR hst hf d K
abbrev rmX8_cased : Room := { frames := 3, cells := 0, slots := 0, locals := 70 }
theorem hdX8_cased : yX8_cased.cls ≠ "java/lang/invoke/MethodHandle" ∧ yX8_cased.cls ≠ "java/lang/invoke/VarHandle" ∧ (parseMethodDescriptor yX8_cased.desc).map (fun d => d.parameters.length) = some 2 := by decide +kernel
def fX8_cased (N : Nat) (S : pH) (r0 : Option Nat) (x1 : Int32) (x2 : Int32) : Option (Int32 × pH) :=
  chk S 8 r0 <|
  (fX8_unused N S r0 x1).bind fun r21 =>
  if r21 = none then
  (some ((-1 : Int32), S))
  else
  (fX8_isGlass N S x2).bind fun x22 =>
  if ¬ x22 = 0 then
  ((gfR S 1 0 r21).bind fun r23 =>
  (gfI S 5 1 r23).bind fun x24 =>
  if (8 : Int32) < (x24 + (2 : Int32)) then
  (some ((-2 : Int32), S))
  else
  (gfI S 1 3 r21).bind fun x25 =>
  if x25 = 0 then
  ((gfR S 1 0 r21).bind fun r26 =>
  (fX5_addRing N S r26 x2).bind fun S27 =>
  nm (((4 : Int32) * x24) + (4 : Int32)) fun x28 =>
  (gfR S27 8 0 r0).bind fun r29 =>
  (gfI S27 1 1 r21).bind fun x30 =>
  (fX1_volumeOfCell N S27 r21 x30).bind fun j31 =>
  (fX3_bookCame N S27 r29 x2 ((x28.toInt64) * j31)).bind fun S32 =>
  (gfR S32 1 0 r21).bind fun r33 =>
  (gfI S32 5 1 r33).bind fun x34 =>
  some (x34, S32))
  else
  some ((-2 : Int32), S))
  else
  some ((-1 : Int32), S)
theorem oX8_cased {N : Nat} {S : pH} {r0 : Option Nat} {x1 : Int32} {x2 : Int32} {z : Int32 × pH} (h : fX8_cased N S r0 x1 x2 = some z) : ∃ fs, obj S 8 r0 = some fs := by
  unfold fX8_cased at h
  exact (chk_spec h).1
set_option maxHeartbeats 1000000 in
set_option maxRecDepth 20000 in
theorem tX8_cased {l : Launch} {w : VW} {N : Nat} {S : pH} {r0 : Option Nat} {x1 : Int32} {x2 : Int32} {v0 : Int32} {S0 : pH} (h : fX8_cased N S r0 x1 x2 = some (v0, S0)) : CT l w yX8_cased cX8_cased 6 (some .int) rmX8_cased [va_rf r0, .int x1, .int x2] S (some (.int v0)) S0 := by
  refine v_entry [(0, va_rf r0), (1, .int x1), (2, .int x2)] (by decide) (by simp [lg_sl, cat_rf, cat_i, cat_j]) (by simp [lv_args, cat_rf, cat_i, cat_j]) (fun g _ hC => ?_)
  unfold fX8_cased at h
  obtain ⟨hO, h⟩ := chk_spec h
  refine v_aload_n hC 0 0 dX8_cased_0 rfl ?_
  refine v_iload_n hC 1 1 dX8_cased_1 rfl ?_
  obtain ⟨r21, er21, h⟩ := obn h
  refine qX8_107 hC rfl 2 er21 (by decide) (catL (Nat.le_of_ble_eq_true rfl)) (by decide) dX8_cased_2 ?_
  refine v_astore_n hC [(3, va_rf r21), (0, va_rf r0), (1, .int x1), (2, .int x2)] 5 dX8_cased_5 (by decide) rfl ?_
  refine v_aload_n hC 6 0 dX8_cased_6 rfl ?_
  refine v_ifnull hC 7 17 dX8_cased_7 (by decide) (fun c38 => ?_) (fun c38 => ?_)
  · replace h := ifp h c38
    refine v_iconst hC (-1 : Int32) 17 dX8_cased_17 (by decide) ?_
    obtain ⟨rfl, rfl⟩ := sp2 h
    exact v_iret hC 18 (by decide) (by decide) dX8_cased_18
  · replace h := ifn h c38
    refine v_iload_n hC 10 3 dX8_cased_10 rfl ?_
    obtain ⟨x22, ex22, h⟩ := obn h
    refine qX8_77 hC rfl 11 ex22 (by decide) (catL (Nat.le_of_ble_eq_true rfl)) (by decide) dX8_cased_11 ?_
    refine v_if_ne hC 14 19 dX8_cased_14 (by decide) (fun c37 => ?_) (fun c37 => ?_)
    · replace h := ifp h c37
      refine v_aload_n hC 19 0 dX8_cased_19 rfl ?_
      obtain ⟨r23, er23, h⟩ := obn h
      refine gRX8_117 hC rfl 20 er23 dX8_cased_20 ?_
      obtain ⟨x24, ex24, h⟩ := obn h
      refine gRX8_135 hC rfl 23 ex24 dX8_cased_23 ?_
      refine v_istore hC [(4, .int x24), (3, va_rf r21), (0, va_rf r0), (1, .int x1), (2, .int x2)] 26 dX8_cased_26 (by decide) (by first | rfl | (simp [cat_rf, cat_i, cat_j]; done) | (simp [cat_rf, cat_i, cat_j]; decide)) ?_
      refine v_iload hC 28 0 dX8_cased_28 rfl ?_
      refine v_iconst hC (2 : Int32) 30 dX8_cased_30 (by decide) ?_
      refine v_iadd hC 31 dX8_cased_31 ?_
      refine v_bipush hC (8 : Int32) 32 dX8_cased_32 (by decide) ?_
      refine v_icmp_gt hC 34 44 dX8_cased_34 (by decide) (fun c36 => ?_) (fun c36 => ?_)
      · replace h := ifp h c36
        refine v_bipush hC (-2 : Int32) 44 dX8_cased_44 (by decide) ?_
        obtain ⟨rfl, rfl⟩ := sp2 h
        exact v_iret hC 46 (by decide) (by decide) dX8_cased_46
      · replace h := ifn h c36
        refine v_aload_n hC 37 1 dX8_cased_37 rfl ?_
        obtain ⟨x25, ex25, h⟩ := obn h
        refine gRX8_124 hC rfl 38 ex25 dX8_cased_38 ?_
        refine v_if_eq hC 41 47 dX8_cased_41 (by decide) (fun c35 => ?_) (fun c35 => ?_)
        · replace h := ifp h c35
          refine v_aload_n hC 47 1 dX8_cased_47 rfl ?_
          obtain ⟨r26, er26, h⟩ := obn h
          refine gRX8_117 hC rfl 48 er26 dX8_cased_48 ?_
          refine v_iload_n hC 51 4 dX8_cased_51 rfl ?_
          obtain ⟨S27, eS27, h⟩ := obn h
          refine qX8_138 hC rfl 52 eS27 (by decide) (catL (Nat.le_of_ble_eq_true rfl)) (by decide) dX8_cased_52 ?_
          refine v_iconst hC (4 : Int32) 55 dX8_cased_55 (by decide) ?_
          refine v_iload hC 56 0 dX8_cased_56 rfl ?_
          refine v_imul hC 58 dX8_cased_58 ?_
          refine v_iconst hC (4 : Int32) 59 dX8_cased_59 (by decide) ?_
          refine v_iadd hC 60 dX8_cased_60 ?_
          obtain ⟨x28, ex28, h⟩ := onm h
          refine v_topi x28 ex28 ?_
          refine v_istore hC [(5, .int x28), (4, .int x24), (3, va_rf r21), (0, va_rf r0), (1, .int x1), (2, .int x2)] 61 dX8_cased_61 (by decide) rfl ?_
          refine v_aload_n hC 63 3 dX8_cased_63 rfl ?_
          obtain ⟨r29, er29, h⟩ := obn h
          refine gRX8_12 hC rfl 64 er29 dX8_cased_64 ?_
          refine v_iload_n hC 67 5 dX8_cased_67 rfl ?_
          refine v_iload hC 68 0 dX8_cased_68 rfl ?_
          refine v_i2l hC 70 dX8_cased_70 ?_
          refine v_aload_n hC 71 2 dX8_cased_71 rfl ?_
          refine v_aload_n hC 72 2 dX8_cased_72 rfl ?_
          obtain ⟨x30, ex30, h⟩ := obn h
          refine gRX8_111 hC rfl 73 ex30 dX8_cased_73 ?_
          obtain ⟨j31, ej31, h⟩ := obn h
          refine qX8_95 hC rfl 76 ej31 (by decide) (catL (Nat.le_of_ble_eq_true rfl)) (by decide) dX8_cased_76 ?_
          refine v_lmul hC 79 dX8_cased_79 ?_
          obtain ⟨S32, eS32, h⟩ := obn h
          refine qX8_99 hC rfl 80 eS32 (by decide) (catL (Nat.le_of_ble_eq_true rfl)) (by decide) dX8_cased_80 ?_
          refine v_aload_n hC 83 2 dX8_cased_83 rfl ?_
          obtain ⟨r33, er33, h⟩ := obn h
          refine gRX8_117 hC rfl 84 er33 dX8_cased_84 ?_
          obtain ⟨x34, ex34, h⟩ := obn h
          refine gRX8_135 hC rfl 87 ex34 dX8_cased_87 ?_
          obtain ⟨rfl, rfl⟩ := sp2 h
          exact v_iret hC 90 (by decide) (by decide) dX8_cased_90
        · replace h := ifn h c35
          refine v_bipush hC (-2 : Int32) 44 dX8_cased_44 (by decide) ?_
          obtain ⟨rfl, rfl⟩ := sp2 h
          exact v_iret hC 46 (by decide) (by decide) dX8_cased_46
    · replace h := ifn h (fun q => q c37)
      refine v_iconst hC (-1 : Int32) 17 dX8_cased_17 (by decide) ?_
      obtain ⟨rfl, rfl⟩ := sp2 h
      exact v_iret hC 18 (by decide) (by decide) dX8_cased_18
set_option maxRecDepth 20000 in
theorem qX8_153 {g : VG} {w : VW} {nL : Nat} {Q : State → Prop} {S : pH} {kc ks : Nat} {lv : List (Nat × Value)} {rest : List Value} {y : MethodName} {cc : ByteArray} {rt : Option FieldType} {rm : Room} (hC : Cx g y cc nL rt rm w) (hy : y.cls = RX8) (pc : Nat) {N : Nat} {r0 : Option Nat} {x1 : Int32} {x2 : Int32} {v0 : Int32} (h : fX5_has N S r0 x1 x2 = some v0) (hR : rmX5_has.frames + 1 ≤ rm.frames ∧ 8 + (3 + 11) + rmX5_has.locals ≤ rm.locals) (hst : (rest.map fun v => v.category).sum ≤ 8) (hf : kc + 0 ≤ rm.cells ∧ ks + 0 ≤ rm.slots) (d : decode cc pc = .ok (.invokevirtual 153, 3)) (K : V g w nL Q S kc ks (pc + 3) lv (.int v0 :: rest)) : V g w nL Q S kc ks pc lv (.int x2 :: .int x1 :: va_rf r0 :: rest) := by
  obtain ⟨fs, ho⟩ := oX5_has h
  exact v_callV (As := [.int x1, .int x2]) (rest := rest) (ci := 5) hC pc (tX5_has (l := g.2.1) (w := w) h) rfl (by decide) ho wG192 (by rw [hy]; exact wG409) wG193 wG194 wG62 hdX5_has rfl hR hst hf d K
set_option maxRecDepth 20000 in
theorem qX8_157 {g : VG} {w : VW} {nL : Nat} {Q : State → Prop} {S : pH} {kc ks : Nat} {lv : List (Nat × Value)} {rest : List Value} {y : MethodName} {cc : ByteArray} {rt : Option FieldType} {rm : Room} (hC : Cx g y cc nL rt rm w) (hy : y.cls = RX8) (pc : Nat) {N : Nat} {r0 : Option Nat} {x1 : Int32} {x2 : Int32} {v0 : Int32} (h : fX5_at N S r0 x1 x2 = some v0) (hR : rmX5_at.frames + 1 ≤ rm.frames ∧ 8 + (3 + 11) + rmX5_at.locals ≤ rm.locals) (hst : (rest.map fun v => v.category).sum ≤ 8) (hf : kc + 0 ≤ rm.cells ∧ ks + 0 ≤ rm.slots) (d : decode cc pc = .ok (.invokevirtual 157, 3)) (K : V g w nL Q S kc ks (pc + 3) lv (.int v0 :: rest)) : V g w nL Q S kc ks pc lv (.int x2 :: .int x1 :: va_rf r0 :: rest) := by
  obtain ⟨fs, ho⟩ := oX5_at h
  exact v_callV (As := [.int x1, .int x2]) (rest := rest) (ci := 5) hC pc (tX5_at (l := g.2.1) (w := w) h) rfl (by decide) ho wG203 (by rw [hy]; exact wG410) wG204 wG205 wG62 hdX5_at rfl hR hst hf d K
abbrev rmX8_cell : Room := { frames := 2, cells := 0, slots := 0, locals := 44 }
theorem hdX8_cell : yX8_cell.cls ≠ "java/lang/invoke/MethodHandle" ∧ yX8_cell.cls ≠ "java/lang/invoke/VarHandle" ∧ (parseMethodDescriptor yX8_cell.desc).map (fun d => d.parameters.length) = some 3 := by decide +kernel
def fX8_cell (N : Nat) (S : pH) (r0 : Option Nat) (x1 : Int32) (x2 : Int32) (x3 : Int32) : Option (Int32) :=
  chk S 8 r0 <|
  (fX8_find N S r0 x1).bind fun r21 =>
  if r21 = none then
  (some (-1 : Int32))
  else
  (gfR S 1 0 r21).bind fun r22 =>
  (fX5_has N S r22 x2 x3).bind fun x23 =>
  if ¬ x23 = 0 then
  ((gfR S 1 0 r21).bind fun r24 =>
  (fX5_at N S r24 x2 x3).bind fun x25 =>
  some x25)
  else
  some (-1 : Int32)
theorem oX8_cell {N : Nat} {S : pH} {r0 : Option Nat} {x1 : Int32} {x2 : Int32} {x3 : Int32} {z : Int32} (h : fX8_cell N S r0 x1 x2 x3 = some z) : ∃ fs, obj S 8 r0 = some fs := by
  unfold fX8_cell at h
  exact (chk_spec h).1
set_option maxHeartbeats 1000000 in
set_option maxRecDepth 20000 in
theorem tX8_cell {l : Launch} {w : VW} {N : Nat} {S : pH} {r0 : Option Nat} {x1 : Int32} {x2 : Int32} {x3 : Int32} {v0 : Int32} (h : fX8_cell N S r0 x1 x2 x3 = some v0) : CT l w yX8_cell cX8_cell 5 (some .int) rmX8_cell [va_rf r0, .int x1, .int x2, .int x3] S (some (.int v0)) S := by
  refine v_entry [(0, va_rf r0), (1, .int x1), (2, .int x2), (3, .int x3)] (by decide) (by simp [lg_sl, cat_rf, cat_i, cat_j]) (by simp [lv_args, cat_rf, cat_i, cat_j]) (fun g _ hC => ?_)
  unfold fX8_cell at h
  obtain ⟨hO, h⟩ := chk_spec h
  refine v_aload_n hC 0 0 dX8_cell_0 rfl ?_
  refine v_iload_n hC 1 1 dX8_cell_1 rfl ?_
  obtain ⟨r21, er21, h⟩ := obn h
  refine qX8_142 hC rfl 2 er21 (by decide) (catL (Nat.le_of_ble_eq_true rfl)) (by decide) dX8_cell_2 ?_
  refine v_astore hC [(4, va_rf r21), (0, va_rf r0), (1, .int x1), (2, .int x2), (3, .int x3)] 5 dX8_cell_5 (by decide) rfl ?_
  refine v_aload hC 7 0 dX8_cell_7 rfl ?_
  refine v_ifnull hC 9 25 dX8_cell_9 (by decide) (fun c27 => ?_) (fun c27 => ?_)
  · replace h := ifp h c27
    refine v_iconst hC (-1 : Int32) 25 dX8_cell_25 (by decide) ?_
    obtain rfl := sp1 h
    exact v_iret hC 26 (by decide) (by decide) dX8_cell_26
  · replace h := ifn h c27
    refine v_aload hC 12 0 dX8_cell_12 rfl ?_
    obtain ⟨r22, er22, h⟩ := obn h
    refine gRX8_117 hC rfl 14 er22 dX8_cell_14 ?_
    refine v_iload_n hC 17 3 dX8_cell_17 rfl ?_
    refine v_iload_n hC 18 4 dX8_cell_18 rfl ?_
    obtain ⟨x23, ex23, h⟩ := obn h
    refine qX8_153 hC rfl 19 ex23 (by decide) (catL (Nat.le_of_ble_eq_true rfl)) (by decide) dX8_cell_19 ?_
    refine v_if_ne hC 22 27 dX8_cell_22 (by decide) (fun c26 => ?_) (fun c26 => ?_)
    · replace h := ifp h c26
      refine v_aload hC 27 0 dX8_cell_27 rfl ?_
      obtain ⟨r24, er24, h⟩ := obn h
      refine gRX8_117 hC rfl 29 er24 dX8_cell_29 ?_
      refine v_iload_n hC 32 3 dX8_cell_32 rfl ?_
      refine v_iload_n hC 33 4 dX8_cell_33 rfl ?_
      obtain ⟨x25, ex25, h⟩ := obn h
      refine qX8_157 hC rfl 34 ex25 (by decide) (catL (Nat.le_of_ble_eq_true rfl)) (by decide) dX8_cell_34 ?_
      obtain rfl := sp1 h
      exact v_iret hC 37 (by decide) (by decide) dX8_cell_37
    · replace h := ifn h (fun q => q c26)
      refine v_iconst hC (-1 : Int32) 25 dX8_cell_25 (by decide) ?_
      obtain rfl := sp1 h
      exact v_iret hC 26 (by decide) (by decide) dX8_cell_26
set_option maxRecDepth 20000 in
theorem qX8_292 {g : VG} {w : VW} {nL : Nat} {Q : State → Prop} {S : pH} {kc ks : Nat} {lv : List (Nat × Value)} {rest : List Value} {y : MethodName} {cc : ByteArray} {rt : Option FieldType} {rm : Room} (hC : Cx g y cc nL rt rm w) (hy : y.cls = RX8) (pc : Nat) {N : Nat} {r0 : Option Nat} {v0 : Int32} {S0 : pH} (h : fX4_forget N S r0 = some (v0, S0)) (hR : rmX4_forget.frames + 1 ≤ rm.frames ∧ 8 + (2 + 11) + rmX4_forget.locals ≤ rm.locals) (hst : (rest.map fun v => v.category).sum ≤ 8) (hf : kc + 0 ≤ rm.cells ∧ ks + 0 ≤ rm.slots) (d : decode cc pc = .ok (.invokevirtual 292, 3)) (K : V g w nL Q S0 kc ks (pc + 3) lv (.int v0 :: rest)) : V g w nL Q S kc ks pc lv (va_rf r0 :: rest) := by
  obtain ⟨fs, ho⟩ := oX4_forget h
  exact v_callV (As := []) (rest := rest) (ci := 4) hC pc (tX4_forget (l := g.2.1) (w := w) h) rfl (by decide) ho wG412 (by rw [hy]; exact wG411) wG413 wG414 wG122 hdX4_forget rfl hR hst hf d K
abbrev rmX8_clear : Room := { frames := 1, cells := 0, slots := 0, locals := 21 }
theorem hdX8_clear : yX8_clear.cls ≠ "java/lang/invoke/MethodHandle" ∧ yX8_clear.cls ≠ "java/lang/invoke/VarHandle" ∧ (parseMethodDescriptor yX8_clear.desc).map (fun d => d.parameters.length) = some 0 := by decide +kernel
def fX8_clear (N : Nat) (S : pH) (r0 : Option Nat) : Option (Int32 × pH) :=
  chk S 8 r0 <|
  (gfR S 8 8 r0).bind fun r21 =>
  b2 (fX4_forget N S r21) fun x22 S23 =>
  some (x22, S23)
theorem oX8_clear {N : Nat} {S : pH} {r0 : Option Nat} {z : Int32 × pH} (h : fX8_clear N S r0 = some z) : ∃ fs, obj S 8 r0 = some fs := by
  unfold fX8_clear at h
  exact (chk_spec h).1
set_option maxHeartbeats 1000000 in
set_option maxRecDepth 20000 in
theorem tX8_clear {l : Launch} {w : VW} {N : Nat} {S : pH} {r0 : Option Nat} {v0 : Int32} {S0 : pH} (h : fX8_clear N S r0 = some (v0, S0)) : CT l w yX8_clear cX8_clear 1 (some .int) rmX8_clear [va_rf r0] S (some (.int v0)) S0 := by
  refine v_entry [(0, va_rf r0)] (by decide) (by simp [lg_sl, cat_rf, cat_i, cat_j]) (by simp [lv_args, cat_rf, cat_i, cat_j]) (fun g _ hC => ?_)
  unfold fX8_clear at h
  obtain ⟨hO, h⟩ := chk_spec h
  refine v_aload_n hC 0 0 dX8_clear_0 rfl ?_
  obtain ⟨r21, er21, h⟩ := obn h
  refine gRX8_62 hC rfl 1 er21 dX8_clear_1 ?_
  obtain ⟨x22, S23, ex22, h⟩ := ob2 h
  refine qX8_292 hC rfl 4 ex22 (by decide) (catL (Nat.le_of_ble_eq_true rfl)) (by decide) dX8_clear_4 ?_
  obtain ⟨rfl, rfl⟩ := sp2 h
  exact v_iret hC 7 (by decide) (by decide) dX8_clear_7
abbrev rmX8_unusedCanes : Room := { frames := 2, cells := 0, slots := 0, locals := 43 }
theorem hdX8_unusedCanes : yX8_unusedCanes.cls ≠ "java/lang/invoke/MethodHandle" ∧ yX8_unusedCanes.cls ≠ "java/lang/invoke/VarHandle" ∧ (parseMethodDescriptor yX8_unusedCanes.desc).map (fun d => d.parameters.length) = some 0 := by decide +kernel
def lX8_unusedCanes_4 (N : Nat) (S : pH) (r0 : Option Nat) : Nat → Int32 → Int32 → Option (Int32)
  | 0, _, _ => none
  | n + 1, x21, x22 =>
    (gfI S 8 2 r0).bind fun x23 =>
    if x23 ≤ x22 then
    (some x21)
    else
    (fX8_unused N S r0 x22).bind fun r24 =>
    nm (fun (x25 : Int32) =>
    nm (x22 + (1 : Int32)) fun x26 =>
    lX8_unusedCanes_4 N S r0 n x25 x26) fun j23 =>
    if r24 = none then
    (j23 x21)
    else
    nm (x21 + (1 : Int32)) fun x27 =>
    j23 x27
def fX8_unusedCanes (N : Nat) (S : pH) (r0 : Option Nat) : Option (Int32) :=
  chk S 8 r0 <|
  (lX8_unusedCanes_4 N S r0 N (0 : Int32) (0 : Int32)).bind fun x30 =>
  some x30
theorem oX8_unusedCanes {N : Nat} {S : pH} {r0 : Option Nat} {z : Int32} (h : fX8_unusedCanes N S r0 = some z) : ∃ fs, obj S 8 r0 = some fs := by
  unfold fX8_unusedCanes at h
  exact (chk_spec h).1
set_option maxHeartbeats 1000000 in
set_option maxRecDepth 20000 in
theorem kX8_unusedCanes_4 {g : VG} {w : VW} {N : Nat} {S : pH} {r0 : Option Nat} {v0 : Int32} (hC : Cx g yX8_unusedCanes cX8_unusedCanes 3 (some .int) rmX8_unusedCanes w) : ∀ (n : Nat) (x21 : Int32) (x22 : Int32) (z : (Int32)), lX8_unusedCanes_4 N S r0 n x21 x22 = some z → (∀ (e0 : Int32), z = e0 → V g w 3 (Qm g w rmX8_unusedCanes.cells rmX8_unusedCanes.slots (some (.int v0)) S) S 0 0 29 [(1, .int e0)] []) → V g w 3 (Qm g w rmX8_unusedCanes.cells rmX8_unusedCanes.slots (some (.int v0)) S) S 0 0 4 [(0, va_rf r0), (1, .int x21), (2, .int x22)] [] := by
  intro n
  induction n with
  | zero => intro x21 x22 z h; rw [lX8_unusedCanes_4] at h; cases h
  | succ n ih =>
    intro x21 x22 z h K
    rw [lX8_unusedCanes_4] at h
    refine v_iload_n hC 4 2 dX8_unusedCanes_4 rfl ?_
    refine v_aload_n hC 5 0 dX8_unusedCanes_5 rfl ?_
    obtain ⟨x23, ex23, h⟩ := obn h
    refine gRX8_22 hC rfl 6 ex23 dX8_unusedCanes_6 ?_
    refine v_icmp_ge hC 9 29 dX8_unusedCanes_9 (by decide) (fun c29 => ?_) (fun c29 => ?_)
    · replace h := ifp h c29
      refine v_sub [(1, .int x21)] [1] rfl ?_
      exact K _ (sp1 h)
    · replace h := ifn h c29
      refine v_aload_n hC 12 0 dX8_unusedCanes_12 rfl ?_
      refine v_iload_n hC 13 2 dX8_unusedCanes_13 rfl ?_
      obtain ⟨r24, er24, h⟩ := obn h
      refine qX8_107 hC rfl 14 er24 (by decide) (catL (Nat.le_of_ble_eq_true rfl)) (by decide) dX8_unusedCanes_14 ?_
      obtain ⟨j23, f23, h⟩ := onm h
      have J23 : ∀ (x25 : Int32), j23 x25 = some z → V g w 3 (Qm g w rmX8_unusedCanes.cells rmX8_unusedCanes.slots (some (.int v0)) S) S 0 0 23 [(0, va_rf r0), (1, .int x25), (2, .int x22)] [] := by
        intro x25 h
        replace h := jb1 f23 h
        obtain ⟨x26, ex26, h⟩ := onm h
        refine v_iinc hC x26 [(2, .int x26), (0, va_rf r0), (1, .int x25)] 23 2 dX8_unusedCanes_23 rfl (by rw [ex26]; rfl) (by decide) rfl ?_
        refine v_goto hC 26 4 dX8_unusedCanes_26 (by decide) ?_
        refine v_sub [(0, va_rf r0), (1, .int x25), (2, .int x26)] [1, 2, 0] rfl ?_
        exact ih _ _ _ h K
      refine v_ifnull hC 17 23 dX8_unusedCanes_17 (by decide) (fun c28 => ?_) (fun c28 => ?_)
      · replace h := ifp h c28
        refine v_sub [(0, va_rf r0), (1, .int x21), (2, .int x22)] [0, 1, 2] rfl ?_
        exact J23 _ h
      · replace h := ifn h c28
        obtain ⟨x27, ex27, h⟩ := onm h
        refine v_iinc hC x27 [(1, .int x27), (0, va_rf r0), (2, .int x22)] 20 1 dX8_unusedCanes_20 rfl (by rw [ex27]; rfl) (by decide) (by first | rfl | (simp [cat_rf, cat_i, cat_j]; done) | (simp [cat_rf, cat_i, cat_j]; decide)) ?_
        refine v_sub [(0, va_rf r0), (1, .int x27), (2, .int x22)] [1, 0, 2] rfl ?_
        exact J23 _ h
set_option maxHeartbeats 1000000 in
set_option maxRecDepth 20000 in
theorem tX8_unusedCanes {l : Launch} {w : VW} {N : Nat} {S : pH} {r0 : Option Nat} {v0 : Int32} (h : fX8_unusedCanes N S r0 = some v0) : CT l w yX8_unusedCanes cX8_unusedCanes 3 (some .int) rmX8_unusedCanes [va_rf r0] S (some (.int v0)) S := by
  refine v_entry [(0, va_rf r0)] (by decide) (by simp [lg_sl, cat_rf, cat_i, cat_j]) (by simp [lv_args, cat_rf, cat_i, cat_j]) (fun g _ hC => ?_)
  unfold fX8_unusedCanes at h
  obtain ⟨hO, h⟩ := chk_spec h
  refine v_iconst hC (0 : Int32) 0 dX8_unusedCanes_0 (by decide) ?_
  refine v_istore_n hC [(1, .int (0 : Int32)), (0, va_rf r0)] 1 dX8_unusedCanes_1 (by decide) (by first | rfl | (simp [cat_rf, cat_i, cat_j]; done) | (simp [cat_rf, cat_i, cat_j]; decide)) ?_
  refine v_iconst hC (0 : Int32) 2 dX8_unusedCanes_2 (by decide) ?_
  refine v_istore_n hC [(2, .int (0 : Int32)), (1, .int (0 : Int32)), (0, va_rf r0)] 3 dX8_unusedCanes_3 (by decide) rfl ?_
  obtain ⟨x30, E4, h⟩ := obn h
  refine v_sub [(0, va_rf r0), (1, .int (0 : Int32)), (2, .int (0 : Int32))] [2, 1, 0] rfl ?_
  refine kX8_unusedCanes_4 hC _ _ _ _ E4 (fun _ hz9 => ?_)
  cases hz9
  refine v_iload_n hC 29 0 dX8_unusedCanes_29 rfl ?_
  obtain rfl := sp1 h
  exact v_iret hC 30 (by decide) (by decide) dX8_unusedCanes_30
set_option maxRecDepth 20000 in
theorem qX8_328 {g : VG} {w : VW} {nL : Nat} {Q : State → Prop} {S : pH} {kc ks : Nat} {lv : List (Nat × Value)} {rest : List Value} {y : MethodName} {cc : ByteArray} {rt : Option FieldType} {rm : Room} (hC : Cx g y cc nL rt rm w) (hy : y.cls = RX8) (pc : Nat) {N : Nat} {r0 : Option Nat} {v0 : Int32} (h : fX8_unusedCanes N S r0 = some v0) (hR : rmX8_unusedCanes.frames + 1 ≤ rm.frames ∧ 8 + (3 + 11) + rmX8_unusedCanes.locals ≤ rm.locals) (hst : (rest.map fun v => v.category).sum ≤ 8) (hf : kc + 0 ≤ rm.cells ∧ ks + 0 ≤ rm.slots) (d : decode cc pc = .ok (.invokevirtual 328, 3)) (K : V g w nL Q S kc ks (pc + 3) lv (.int v0 :: rest)) : V g w nL Q S kc ks pc lv (va_rf r0 :: rest) := by
  obtain ⟨fs, ho⟩ := oX8_unusedCanes h
  exact v_callV (As := []) (rest := rest) (ci := 8) hC pc (tX8_unusedCanes (l := g.2.1) (w := w) h) rfl (by decide) ho wG416 (by rw [hy]; exact wG415) wG417 wG418 wG197 hdX8_unusedCanes rfl hR hst hf d K
abbrev rmX8_count : Room := { frames := 3, cells := 0, slots := 0, locals := 68 }
theorem hdX8_count : yX8_count.cls ≠ "java/lang/invoke/MethodHandle" ∧ yX8_count.cls ≠ "java/lang/invoke/VarHandle" ∧ (parseMethodDescriptor yX8_count.desc).map (fun d => d.parameters.length) = some 1 := by decide +kernel
def fX8_count (N : Nat) (S : pH) (r0 : Option Nat) (x1 : Int32) : Option (Int32) :=
  chk S 8 r0 <|
  if x1 = (0 : Int32) then
  ((gfI S 8 2 r0).bind fun x21 =>
  some x21)
  else
  if x1 = (1 : Int32) then
  ((fX8_unusedCanes N S r0).bind fun x23 =>
  some x23)
  else
  if x1 = (2 : Int32) then
  ((gfR S 8 3 r0).bind fun r25 =>
  (gfI S 7 2 r25).bind fun x26 =>
  some x26)
  else
  if x1 = (3 : Int32) then
  ((gfR S 8 6 r0).bind fun r28 =>
  (gfI S 5 1 r28).bind fun x29 =>
  (gfR S 8 6 r0).bind fun r30 =>
  (gfI S 5 1 r30).bind fun x31 =>
  (gfR S 8 6 r0).bind fun r32 =>
  (fX5_cellsOf N S r32 (-9 : Int32)).bind fun x33 =>
  some ((x29 * x31) - x33))
  else
  if x1 = (4 : Int32) then
  ((gfR S 8 8 r0).bind fun r35 =>
  (gfI S 4 3 r35).bind fun x36 =>
  some x36)
  else
  if x1 = (5 : Int32) then
  ((gfR S 8 9 r0).bind fun r38 =>
  (gfI S 6 2 r38).bind fun x39 =>
  some x39)
  else
  some (-1 : Int32)
theorem oX8_count {N : Nat} {S : pH} {r0 : Option Nat} {x1 : Int32} {z : Int32} (h : fX8_count N S r0 x1 = some z) : ∃ fs, obj S 8 r0 = some fs := by
  unfold fX8_count at h
  exact (chk_spec h).1
set_option maxHeartbeats 1000000 in
set_option maxRecDepth 20000 in
theorem tX8_count {l : Launch} {w : VW} {N : Nat} {S : pH} {r0 : Option Nat} {x1 : Int32} {v0 : Int32} (h : fX8_count N S r0 x1 = some v0) : CT l w yX8_count cX8_count 2 (some .int) rmX8_count [va_rf r0, .int x1] S (some (.int v0)) S := by
  refine v_entry [(0, va_rf r0), (1, .int x1)] (by decide) (by simp [lg_sl, cat_rf, cat_i, cat_j]) (by simp [lv_args, cat_rf, cat_i, cat_j]) (fun g _ hC => ?_)
  unfold fX8_count at h
  obtain ⟨hO, h⟩ := chk_spec h
  refine v_iload_n hC 0 1 dX8_count_0 rfl ?_
  by_cases c22 : x1 = (0 : Int32)
  · replace h := ifp h c22
    refine v_tabIn hC 1 40 (0 : Int32) c22 dX8_count_1 (by decide) (by decide) rfl (by decide) ?_
    refine v_aload_n hC 40 0 dX8_count_40 rfl ?_
    obtain ⟨x21, ex21, h⟩ := obn h
    refine gRX8_22 hC rfl 41 ex21 dX8_count_41 ?_
    obtain rfl := sp1 h
    exact v_iret hC 44 (by decide) (by decide) dX8_count_44
  replace h := ifn h c22
  by_cases c24 : x1 = (1 : Int32)
  · replace h := ifp h c24
    refine v_tabIn hC 1 45 (1 : Int32) c24 dX8_count_1 (by decide) (by decide) rfl (by decide) ?_
    refine v_aload_n hC 45 0 dX8_count_45 rfl ?_
    obtain ⟨x23, ex23, h⟩ := obn h
    refine qX8_328 hC rfl 46 ex23 (by decide) (catL (Nat.le_of_ble_eq_true rfl)) (by decide) dX8_count_46 ?_
    obtain rfl := sp1 h
    exact v_iret hC 49 (by decide) (by decide) dX8_count_49
  replace h := ifn h c24
  by_cases c27 : x1 = (2 : Int32)
  · replace h := ifp h c27
    refine v_tabIn hC 1 50 (2 : Int32) c27 dX8_count_1 (by decide) (by decide) rfl (by decide) ?_
    refine v_aload_n hC 50 0 dX8_count_50 rfl ?_
    obtain ⟨r25, er25, h⟩ := obn h
    refine gRX8_29 hC rfl 51 er25 dX8_count_51 ?_
    obtain ⟨x26, ex26, h⟩ := obn h
    refine gRX8_206 hC rfl 54 ex26 dX8_count_54 ?_
    obtain rfl := sp1 h
    exact v_iret hC 57 (by decide) (by decide) dX8_count_57
  replace h := ifn h c27
  by_cases c34 : x1 = (3 : Int32)
  · replace h := ifp h c34
    refine v_tabIn hC 1 58 (3 : Int32) c34 dX8_count_1 (by decide) (by decide) rfl (by decide) ?_
    refine v_aload_n hC 58 0 dX8_count_58 rfl ?_
    obtain ⟨r28, er28, h⟩ := obn h
    refine gRX8_49 hC rfl 59 er28 dX8_count_59 ?_
    obtain ⟨x29, ex29, h⟩ := obn h
    refine gRX8_135 hC rfl 62 ex29 dX8_count_62 ?_
    refine v_aload_n hC 65 0 dX8_count_65 rfl ?_
    obtain ⟨r30, er30, h⟩ := obn h
    refine gRX8_49 hC rfl 66 er30 dX8_count_66 ?_
    obtain ⟨x31, ex31, h⟩ := obn h
    refine gRX8_135 hC rfl 69 ex31 dX8_count_69 ?_
    refine v_imul hC 72 dX8_count_72 ?_
    refine v_aload_n hC 73 0 dX8_count_73 rfl ?_
    obtain ⟨r32, er32, h⟩ := obn h
    refine gRX8_49 hC rfl 74 er32 dX8_count_74 ?_
    refine v_bipush hC (-9 : Int32) 77 dX8_count_77 (by decide) ?_
    obtain ⟨x33, ex33, h⟩ := obn h
    refine qX8_227 hC rfl 79 ex33 (by decide) (catL (Nat.le_of_ble_eq_true rfl)) (by decide) dX8_count_79 ?_
    refine v_isub hC 82 dX8_count_82 ?_
    obtain rfl := sp1 h
    exact v_iret hC 83 (by decide) (by decide) dX8_count_83
  replace h := ifn h c34
  by_cases c37 : x1 = (4 : Int32)
  · replace h := ifp h c37
    refine v_tabIn hC 1 84 (4 : Int32) c37 dX8_count_1 (by decide) (by decide) rfl (by decide) ?_
    refine v_aload_n hC 84 0 dX8_count_84 rfl ?_
    obtain ⟨r35, er35, h⟩ := obn h
    refine gRX8_62 hC rfl 85 er35 dX8_count_85 ?_
    obtain ⟨x36, ex36, h⟩ := obn h
    refine gRX8_286 hC rfl 88 ex36 dX8_count_88 ?_
    obtain rfl := sp1 h
    exact v_iret hC 91 (by decide) (by decide) dX8_count_91
  replace h := ifn h c37
  by_cases c40 : x1 = (5 : Int32)
  · replace h := ifp h c40
    refine v_tabIn hC 1 92 (5 : Int32) c40 dX8_count_1 (by decide) (by decide) rfl (by decide) ?_
    refine v_aload_n hC 92 0 dX8_count_92 rfl ?_
    obtain ⟨r38, er38, h⟩ := obn h
    refine gRX8_69 hC rfl 93 er38 dX8_count_93 ?_
    obtain ⟨x39, ex39, h⟩ := obn h
    refine gRX8_300 hC rfl 96 ex39 dX8_count_96 ?_
    obtain rfl := sp1 h
    exact v_iret hC 99 (by decide) (by decide) dX8_count_99
  replace h := ifn h c40
  refine v_tabOut hC 1 100 dX8_count_1 (by have := lv_neT (a := 0) c22 (by decide); have := lv_neT (a := 1) c24 (by decide); have := lv_neT (a := 2) c27 (by decide); have := lv_neT (a := 3) c34 (by decide); have := lv_neT (a := 4) c37 (by decide); have := lv_neT (a := 5) c40 (by decide); omega) (by decide) ?_
  refine v_iconst hC (-1 : Int32) 100 dX8_count_100 (by decide) ?_
  obtain rfl := sp1 h
  exact v_iret hC 101 (by decide) (by decide) dX8_count_101
set_option maxRecDepth 20000 in
theorem qX8_237 {g : VG} {w : VW} {nL : Nat} {Q : State → Prop} {S : pH} {kc ks : Nat} {lv : List (Nat × Value)} {rest : List Value} {y : MethodName} {cc : ByteArray} {rt : Option FieldType} {rm : Room} (hC : Cx g y cc nL rt rm w) (hy : y.cls = RX8) (pc : Nat) {N : Nat} {r0 : Option Nat} {r1 : Option Nat} {r2 : Option Nat} {v0 : Int32} {S0 : pH} (h : fX2_leastOut N S r0 r1 r2 = some (v0, S0)) (hR : rmX2_leastOut.frames + 1 ≤ rm.frames ∧ 8 + (6 + 11) + rmX2_leastOut.locals ≤ rm.locals) (hst : (rest.map fun v => v.category).sum ≤ 8) (hf : kc + 0 ≤ rm.cells ∧ ks + 0 ≤ rm.slots) (d : decode cc pc = .ok (.invokevirtual 237, 3)) (K : V g w nL Q S0 kc ks (pc + 3) lv (.int v0 :: rest)) : V g w nL Q S kc ks pc lv (va_rf r2 :: va_rf r1 :: va_rf r0 :: rest) := by
  obtain ⟨fs, ho⟩ := oX2_leastOut h
  exact v_callV (As := [va_rf r1, va_rf r2]) (rest := rest) (ci := 2) hC pc (tX2_leastOut (l := g.2.1) (w := w) h) rfl (by decide) ho wG420 (by rw [hy]; exact wG419) wG421 wG422 wG116 hdX2_leastOut rfl hR hst hf d K
set_option maxRecDepth 20000 in
theorem qX8_233 {g : VG} {w : VW} {nL : Nat} {Q : State → Prop} {S : pH} {kc ks : Nat} {lv : List (Nat × Value)} {rest : List Value} {y : MethodName} {cc : ByteArray} {rt : Option FieldType} {rm : Room} (hC : Cx g y cc nL rt rm w) (hy : y.cls = RX8) (pc : Nat) {N : Nat} {r0 : Option Nat} {r1 : Option Nat} {r2 : Option Nat} {v0 : Int32} (h : fX2_pairs N S r0 r1 r2 = some v0) (hR : rmX2_pairs.frames + 1 ≤ rm.frames ∧ 8 + (7 + 11) + rmX2_pairs.locals ≤ rm.locals) (hst : (rest.map fun v => v.category).sum ≤ 8) (hf : kc + 0 ≤ rm.cells ∧ ks + 0 ≤ rm.slots) (d : decode cc pc = .ok (.invokevirtual 233, 3)) (K : V g w nL Q S kc ks (pc + 3) lv (.int v0 :: rest)) : V g w nL Q S kc ks pc lv (va_rf r2 :: va_rf r1 :: va_rf r0 :: rest) := by
  obtain ⟨fs, ho⟩ := oX2_pairs h
  exact v_callV (As := [va_rf r1, va_rf r2]) (rest := rest) (ci := 2) hC pc (tX2_pairs (l := g.2.1) (w := w) h) rfl (by decide) ho wG424 (by rw [hy]; exact wG423) wG425 wG426 wG116 hdX2_pairs rfl hR hst hf d K
abbrev rmX8_cracks : Room := { frames := 6, cells := 0, slots := 0, locals := 144 }
theorem hdX8_cracks : yX8_cracks.cls ≠ "java/lang/invoke/MethodHandle" ∧ yX8_cracks.cls ≠ "java/lang/invoke/VarHandle" ∧ (parseMethodDescriptor yX8_cracks.desc).map (fun d => d.parameters.length) = some 2 := by decide +kernel
def fX8_cracks (N : Nat) (S : pH) (r0 : Option Nat) (x1 : Int32) (x2 : Int32) : Option (Int32 × pH) :=
  chk S 8 r0 <|
  (fX8_find N S r0 x1).bind fun r21 =>
  if r21 = none then
  (some ((-1 : Int32), S))
  else
  (fX8_isWithin N S x2 (0 : Int32) (1 : Int32)).bind fun x22 =>
  if ¬ x22 = 0 then
  (if ¬ x2 = 0 then
  ((gfR S 8 4 r0).bind fun r23 =>
  (gfR S 1 0 r21).bind fun r24 =>
  (gfR S 8 0 r0).bind fun r25 =>
  b2 (fX2_leastOut N S r23 r24 r25) fun x26 S27 =>
  some (x26, S27))
  else
  (gfR S 8 4 r0).bind fun r28 =>
  (gfR S 1 0 r21).bind fun r29 =>
  (gfR S 8 0 r0).bind fun r30 =>
  (fX2_pairs N S r28 r29 r30).bind fun x31 =>
  some (x31, S))
  else
  some ((-1 : Int32), S)
theorem oX8_cracks {N : Nat} {S : pH} {r0 : Option Nat} {x1 : Int32} {x2 : Int32} {z : Int32 × pH} (h : fX8_cracks N S r0 x1 x2 = some z) : ∃ fs, obj S 8 r0 = some fs := by
  unfold fX8_cracks at h
  exact (chk_spec h).1
set_option maxHeartbeats 1000000 in
set_option maxRecDepth 20000 in
theorem tX8_cracks {l : Launch} {w : VW} {N : Nat} {S : pH} {r0 : Option Nat} {x1 : Int32} {x2 : Int32} {v0 : Int32} {S0 : pH} (h : fX8_cracks N S r0 x1 x2 = some (v0, S0)) : CT l w yX8_cracks cX8_cracks 4 (some .int) rmX8_cracks [va_rf r0, .int x1, .int x2] S (some (.int v0)) S0 := by
  refine v_entry [(0, va_rf r0), (1, .int x1), (2, .int x2)] (by decide) (by simp [lg_sl, cat_rf, cat_i, cat_j]) (by simp [lv_args, cat_rf, cat_i, cat_j]) (fun g _ hC => ?_)
  unfold fX8_cracks at h
  obtain ⟨hO, h⟩ := chk_spec h
  refine v_aload_n hC 0 0 dX8_cracks_0 rfl ?_
  refine v_iload_n hC 1 1 dX8_cracks_1 rfl ?_
  obtain ⟨r21, er21, h⟩ := obn h
  refine qX8_142 hC rfl 2 er21 (by decide) (catL (Nat.le_of_ble_eq_true rfl)) (by decide) dX8_cracks_2 ?_
  refine v_astore_n hC [(3, va_rf r21), (0, va_rf r0), (1, .int x1), (2, .int x2)] 5 dX8_cracks_5 (by decide) rfl ?_
  refine v_aload_n hC 6 0 dX8_cracks_6 rfl ?_
  refine v_ifnull hC 7 19 dX8_cracks_7 (by decide) (fun c34 => ?_) (fun c34 => ?_)
  · replace h := ifp h c34
    refine v_iconst hC (-1 : Int32) 19 dX8_cracks_19 (by decide) ?_
    obtain ⟨rfl, rfl⟩ := sp2 h
    exact v_iret hC 20 (by decide) (by decide) dX8_cracks_20
  · replace h := ifn h c34
    refine v_iload_n hC 10 3 dX8_cracks_10 rfl ?_
    refine v_iconst hC (0 : Int32) 11 dX8_cracks_11 (by decide) ?_
    refine v_iconst hC (1 : Int32) 12 dX8_cracks_12 (by decide) ?_
    obtain ⟨x22, ex22, h⟩ := obn h
    refine qX8_81 hC rfl 13 ex22 (by decide) (catL (Nat.le_of_ble_eq_true rfl)) (by decide) dX8_cracks_13 ?_
    refine v_if_ne hC 16 21 dX8_cracks_16 (by decide) (fun c33 => ?_) (fun c33 => ?_)
    · replace h := ifp h c33
      refine v_iload_n hC 21 3 dX8_cracks_21 rfl ?_
      refine v_if_ne hC 22 43 dX8_cracks_22 (by decide) (fun c32 => ?_) (fun c32 => ?_)
      · replace h := ifp h c32
        refine v_aload_n hC 43 1 dX8_cracks_43 rfl ?_
        obtain ⟨r23, er23, h⟩ := obn h
        refine gRX8_36 hC rfl 44 er23 dX8_cracks_44 ?_
        refine v_aload_n hC 47 0 dX8_cracks_47 rfl ?_
        obtain ⟨r24, er24, h⟩ := obn h
        refine gRX8_117 hC rfl 48 er24 dX8_cracks_48 ?_
        refine v_aload_n hC 51 1 dX8_cracks_51 rfl ?_
        obtain ⟨r25, er25, h⟩ := obn h
        refine gRX8_12 hC rfl 52 er25 dX8_cracks_52 ?_
        obtain ⟨x26, S27, ex26, h⟩ := ob2 h
        refine qX8_237 hC rfl 55 ex26 (by decide) (catL (Nat.le_of_ble_eq_true rfl)) (by decide) dX8_cracks_55 ?_
        obtain ⟨rfl, rfl⟩ := sp2 h
        exact v_iret hC 58 (by decide) (by decide) dX8_cracks_58
      · replace h := ifn h (fun q => q c32)
        refine v_aload_n hC 25 1 dX8_cracks_25 rfl ?_
        obtain ⟨r28, er28, h⟩ := obn h
        refine gRX8_36 hC rfl 26 er28 dX8_cracks_26 ?_
        refine v_aload_n hC 29 0 dX8_cracks_29 rfl ?_
        obtain ⟨r29, er29, h⟩ := obn h
        refine gRX8_117 hC rfl 30 er29 dX8_cracks_30 ?_
        refine v_aload_n hC 33 1 dX8_cracks_33 rfl ?_
        obtain ⟨r30, er30, h⟩ := obn h
        refine gRX8_12 hC rfl 34 er30 dX8_cracks_34 ?_
        obtain ⟨x31, ex31, h⟩ := obn h
        refine qX8_233 hC rfl 37 ex31 (by decide) (catL (Nat.le_of_ble_eq_true rfl)) (by decide) dX8_cracks_37 ?_
        refine v_goto hC 40 58 dX8_cracks_40 (by decide) ?_
        obtain ⟨rfl, rfl⟩ := sp2 h
        exact v_iret hC 58 (by decide) (by decide) dX8_cracks_58
    · replace h := ifn h (fun q => q c33)
      refine v_iconst hC (-1 : Int32) 19 dX8_cracks_19 (by decide) ?_
      obtain ⟨rfl, rfl⟩ := sp2 h
      exact v_iret hC 20 (by decide) (by decide) dX8_cracks_20
set_option maxRecDepth 20000 in
theorem qX8_127 {g : VG} {w : VW} {nL : Nat} {Q : State → Prop} {S : pH} {kc ks : Nat} {lv : List (Nat × Value)} {rest : List Value} {y : MethodName} {cc : ByteArray} {rt : Option FieldType} {rm : Room} (hC : Cx g y cc nL rt rm w) (hy : y.cls = RX8) (pc : Nat) {N : Nat} {r0 : Option Nat} {v0 : Option Nat} {S0 : pH} (h : fX5_copy N w.2.2 S r0 = some (v0, S0)) (hR : rmX5_copy.frames + 1 ≤ rm.frames ∧ 8 + (2 + 11) + rmX5_copy.locals ≤ rm.locals) (hst : (rest.map fun v => v.category).sum ≤ 8) (hf : kc + 2 ≤ rm.cells ∧ ks + 66 ≤ rm.slots) (d : decode cc pc = .ok (.invokevirtual 127, 3)) (K : V g w nL Q S0 (kc + 2) (ks + 66) (pc + 3) lv (va_rf v0 :: rest)) : V g w nL Q S kc ks pc lv (va_rf r0 :: rest) := by
  obtain ⟨fs, ho⟩ := oX5_copy h
  exact v_callV (As := []) (rest := rest) (ci := 5) hC pc (tX5_copy (l := g.2.1) (w := w) h) rfl (by decide) ho wG428 (by rw [hy]; exact wG427) wG429 wG430 wG62 hdX5_copy rfl hR hst hf d K
set_option maxRecDepth 20000 in
theorem qX8_131 {g : VG} {w : VW} {nL : Nat} {Q : State → Prop} {S : pH} {kc ks : Nat} {lv : List (Nat × Value)} {rest : List Value} {y : MethodName} {cc : ByteArray} {rt : Option FieldType} {rm : Room} (hC : Cx g y cc nL rt rm w) (hy : y.cls = RX8) (pc : Nat) {N : Nat} {r0 : Option Nat} {x1 : Int32} {v0 : Int32} (h : fX1_twistUpTo N S r0 x1 = some v0) (hR : rmX1_twistUpTo.frames + 1 ≤ rm.frames ∧ 8 + (2 + 11) + rmX1_twistUpTo.locals ≤ rm.locals) (hst : (rest.map fun v => v.category).sum ≤ 8) (hf : kc + 0 ≤ rm.cells ∧ ks + 0 ≤ rm.slots) (d : decode cc pc = .ok (.invokevirtual 131, 3)) (K : V g w nL Q S kc ks (pc + 3) lv (.int v0 :: rest)) : V g w nL Q S kc ks pc lv (.int x1 :: va_rf r0 :: rest) := by
  obtain ⟨fs, ho⟩ := oX1_twistUpTo h
  exact v_callV (As := [.int x1]) (rest := rest) (ci := 1) hC pc (tX1_twistUpTo (l := g.2.1) (w := w) h) rfl (by decide) ho wG432 (by rw [hy]; exact wG431) wG433 wG434 wG100 hdX1_twistUpTo rfl hR hst hf d K
abbrev rmX8_cut : Room := { frames := 3, cells := 3, slots := 70, locals := 66 }
theorem hdX8_cut : yX8_cut.cls ≠ "java/lang/invoke/MethodHandle" ∧ yX8_cut.cls ≠ "java/lang/invoke/VarHandle" ∧ (parseMethodDescriptor yX8_cut.desc).map (fun d => d.parameters.length) = some 2 := by decide +kernel
def fX8_cut (N : Nat) (b : Nat) (S : pH) (r0 : Option Nat) (x1 : Int32) (x2 : Int32) : Option (Int32 × pH) :=
  chk S 8 r0 <|
  (fX8_unused N S r0 x1).bind fun r21 =>
  if r21 = none then
  (some ((-1 : Int32), S))
  else
  (gfI S 1 1 r21).bind fun x22 =>
  (fX8_isWithin N S x2 (1 : Int32) (x22 - (1 : Int32))).bind fun x23 =>
  if ¬ x23 = 0 then
  ((gfI S 8 2 r0).bind fun x24 =>
  if x24 < (16 : Int32) then
  (nm (b + S.1) fun q25 =>
  nm (puS b S (pO 1 [.null, .int 0, .int 0, .int 0])) fun S26 =>
  (gfR S26 1 0 r21).bind fun r27 =>
  b2 (fX5_copy N b S26 r27) fun r28 S29 =>
  (gfI S29 1 2 r21).bind fun x30 =>
  (fX1_init N S29 (some q25) r28 x2 x30).bind fun S31 =>
  nm (some q25) fun r32 =>
  (fX1_twistUpTo N S31 r21 x2).bind fun x33 =>
  (pfV S31 1 3 r32 (.int x33)).bind fun S34 =>
  (gfI S34 1 3 r21).bind fun x35 =>
  (gfI S34 1 3 r32).bind fun x36 =>
  (pfV S34 1 3 r21 (.int (x35 - x36))).bind fun S37 =>
  (gfI S37 1 1 r21).bind fun x38 =>
  (pfV S37 1 1 r21 (.int (x38 - x2))).bind fun S39 =>
  b2 (fX8_keep N S39 r0 r32) fun x40 S41 =>
  some (x40, S41))
  else
  some ((-3 : Int32), S))
  else
  some ((-1 : Int32), S)
theorem oX8_cut {b : Nat} {N : Nat} {S : pH} {r0 : Option Nat} {x1 : Int32} {x2 : Int32} {z : Int32 × pH} (h : fX8_cut N b S r0 x1 x2 = some z) : ∃ fs, obj S 8 r0 = some fs := by
  unfold fX8_cut at h
  exact (chk_spec h).1
set_option maxHeartbeats 1000000 in
set_option maxRecDepth 20000 in
theorem tX8_cut {l : Launch} {w : VW} {N : Nat} {S : pH} {r0 : Option Nat} {x1 : Int32} {x2 : Int32} {v0 : Int32} {S0 : pH} (h : fX8_cut N w.2.2 S r0 x1 x2 = some (v0, S0)) : CT l w yX8_cut cX8_cut 5 (some .int) rmX8_cut [va_rf r0, .int x1, .int x2] S (some (.int v0)) S0 := by
  refine v_entry [(0, va_rf r0), (1, .int x1), (2, .int x2)] (by decide) (by simp [lg_sl, cat_rf, cat_i, cat_j]) (by simp [lv_args, cat_rf, cat_i, cat_j]) (fun g _ hC => ?_)
  unfold fX8_cut at h
  obtain ⟨hO, h⟩ := chk_spec h
  refine v_aload_n hC 0 0 dX8_cut_0 rfl ?_
  refine v_iload_n hC 1 1 dX8_cut_1 rfl ?_
  obtain ⟨r21, er21, h⟩ := obn h
  refine qX8_107 hC rfl 2 er21 (by decide) (catL (Nat.le_of_ble_eq_true rfl)) (by decide) dX8_cut_2 ?_
  refine v_astore_n hC [(3, va_rf r21), (0, va_rf r0), (1, .int x1), (2, .int x2)] 5 dX8_cut_5 (by decide) rfl ?_
  refine v_aload_n hC 6 0 dX8_cut_6 rfl ?_
  refine v_ifnull hC 7 24 dX8_cut_7 (by decide) (fun c44 => ?_) (fun c44 => ?_)
  · replace h := ifp h c44
    refine v_iconst hC (-1 : Int32) 24 dX8_cut_24 (by decide) ?_
    obtain ⟨rfl, rfl⟩ := sp2 h
    exact v_iret hC 25 (by decide) (by decide) dX8_cut_25
  · replace h := ifn h c44
    refine v_iload_n hC 10 3 dX8_cut_10 rfl ?_
    refine v_iconst hC (1 : Int32) 11 dX8_cut_11 (by decide) ?_
    refine v_aload_n hC 12 0 dX8_cut_12 rfl ?_
    obtain ⟨x22, ex22, h⟩ := obn h
    refine gRX8_111 hC rfl 13 ex22 dX8_cut_13 ?_
    refine v_iconst hC (1 : Int32) 16 dX8_cut_16 (by decide) ?_
    refine v_isub hC 17 dX8_cut_17 ?_
    obtain ⟨x23, ex23, h⟩ := obn h
    refine qX8_81 hC rfl 18 ex23 (by decide) (catL (Nat.le_of_ble_eq_true rfl)) (by decide) dX8_cut_18 ?_
    refine v_if_ne hC 21 26 dX8_cut_21 (by decide) (fun c43 => ?_) (fun c43 => ?_)
    · replace h := ifp h c43
      refine v_aload_n hC 26 1 dX8_cut_26 rfl ?_
      obtain ⟨x24, ex24, h⟩ := obn h
      refine gRX8_22 hC rfl 27 ex24 dX8_cut_27 ?_
      refine v_bipush hC (16 : Int32) 30 dX8_cut_30 (by decide) ?_
      refine v_icmp_lt hC 32 38 dX8_cut_32 (by decide) (fun c42 => ?_) (fun c42 => ?_)
      · replace h := ifp h c42
        obtain ⟨q25, eq25, h⟩ := onm h
        obtain ⟨S26, eS26, h⟩ := onm h
        refine v_new hC (ci := 1) [.null, .int 0, .int 0, .int 0] 38 rfl inG1 tyX1 tyX1_ok wG98 wG99 wG100 dfl1 (by decide) (by decide) dX8_cut_38 ?_
        refine v_nw eq25 eS26 ?_
        refine v_dup hC 41 (cat_rf _) dX8_cut_41 ?_
        refine v_aload_n hC 42 0 dX8_cut_42 rfl ?_
        obtain ⟨r27, er27, h⟩ := obn h
        refine gRX8_117 hC rfl 43 er27 dX8_cut_43 ?_
        obtain ⟨r28, S29, er28, h⟩ := ob2 h
        refine qX8_127 hC rfl 46 er28 (by decide) (catL (Nat.le_of_ble_eq_true rfl)) (by decide) dX8_cut_46 ?_
        refine v_iload_n hC 49 3 dX8_cut_49 rfl ?_
        refine v_aload_n hC 50 0 dX8_cut_50 rfl ?_
        obtain ⟨x30, ex30, h⟩ := obn h
        refine gRX8_114 hC rfl 51 ex30 dX8_cut_51 ?_
        obtain ⟨S31, eS31, h⟩ := obn h
        refine qX8_92 hC rfl 54 eS31 (by decide) (catL (Nat.le_of_ble_eq_true rfl)) (by decide) dX8_cut_54 ?_
        obtain ⟨r32, er32, h⟩ := onm h
        refine v_topr r32 er32 ?_
        refine v_astore hC [(4, va_rf r32), (3, va_rf r21), (0, va_rf r0), (1, .int x1), (2, .int x2)] 57 dX8_cut_57 (by decide) (by first | rfl | (simp [cat_rf, cat_i, cat_j]; done) | (simp [cat_rf, cat_i, cat_j]; decide)) ?_
        refine v_aload hC 59 0 dX8_cut_59 rfl ?_
        refine v_aload_n hC 61 1 dX8_cut_61 rfl ?_
        refine v_iload_n hC 62 4 dX8_cut_62 rfl ?_
        obtain ⟨x33, ex33, h⟩ := obn h
        refine qX8_131 hC rfl 63 ex33 (by decide) (catL (Nat.le_of_ble_eq_true rfl)) (by decide) dX8_cut_63 ?_
        obtain ⟨S34, eS34, h⟩ := obn h
        refine pRX8_124 hC rfl 66 eS34 dX8_cut_66 ?_
        refine v_aload_n hC 69 1 dX8_cut_69 rfl ?_
        refine v_dup hC 70 (cat_rf _) dX8_cut_70 ?_
        obtain ⟨x35, ex35, h⟩ := obn h
        refine gRX8_124 hC rfl 71 ex35 dX8_cut_71 ?_
        refine v_aload hC 74 0 dX8_cut_74 rfl ?_
        obtain ⟨x36, ex36, h⟩ := obn h
        refine gRX8_124 hC rfl 76 ex36 dX8_cut_76 ?_
        refine v_isub hC 79 dX8_cut_79 ?_
        obtain ⟨S37, eS37, h⟩ := obn h
        refine pRX8_124 hC rfl 80 eS37 dX8_cut_80 ?_
        refine v_aload_n hC 83 1 dX8_cut_83 rfl ?_
        refine v_dup hC 84 (cat_rf _) dX8_cut_84 ?_
        obtain ⟨x38, ex38, h⟩ := obn h
        refine gRX8_111 hC rfl 85 ex38 dX8_cut_85 ?_
        refine v_iload_n hC 88 4 dX8_cut_88 rfl ?_
        refine v_isub hC 89 dX8_cut_89 ?_
        obtain ⟨S39, eS39, h⟩ := obn h
        refine pRX8_111 hC rfl 90 eS39 dX8_cut_90 ?_
        refine v_aload_n hC 93 2 dX8_cut_93 rfl ?_
        refine v_aload hC 94 0 dX8_cut_94 rfl ?_
        obtain ⟨x40, S41, ex40, h⟩ := ob2 h
        refine qX8_103 hC rfl 96 ex40 (by decide) (catL (Nat.le_of_ble_eq_true rfl)) (by decide) dX8_cut_96 ?_
        obtain ⟨rfl, rfl⟩ := sp2 h
        exact v_iret hC 99 (by decide) (by decide) dX8_cut_99
      · replace h := ifn h c42
        refine v_bipush hC (-3 : Int32) 35 dX8_cut_35 (by decide) ?_
        obtain ⟨rfl, rfl⟩ := sp2 h
        exact v_iret hC 37 (by decide) (by decide) dX8_cut_37
    · replace h := ifn h (fun q => q c43)
      refine v_iconst hC (-1 : Int32) 24 dX8_cut_24 (by decide) ?_
      obtain ⟨rfl, rfl⟩ := sp2 h
      exact v_iret hC 25 (by decide) (by decide) dX8_cut_25
