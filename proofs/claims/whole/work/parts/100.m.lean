abbrev rmJ6_bitCount_0f7a4 : Room := { frames := 0, cells := 0, slots := 0, locals := 0 }
theorem hdJ6_bitCount_0f7a4 : yJ6_bitCount_0f7a4.cls ≠ "java/lang/invoke/MethodHandle" ∧ yJ6_bitCount_0f7a4.cls ≠ "java/lang/invoke/VarHandle" ∧ (parseMethodDescriptor yJ6_bitCount_0f7a4.desc).map (fun d => d.parameters.length) = some 1 := by decide +kernel
def fJ6_bitCount_0f7a4 (N : Nat) (S : pH) (x0 : Int32) : Option (Int32) :=
  nm (x0 - (((x0.toUInt32 >>> ((1 : Int32).toUInt32 &&& Int32.toUInt32 31)).toInt32) &&& (1431655765 : Int32))) fun x21 =>
  nm ((x21 &&& (858993459 : Int32)) + (((x21.toUInt32 >>> ((2 : Int32).toUInt32 &&& Int32.toUInt32 31)).toInt32) &&& (858993459 : Int32))) fun x22 =>
  nm ((x22 + ((x22.toUInt32 >>> ((4 : Int32).toUInt32 &&& Int32.toUInt32 31)).toInt32)) &&& (252645135 : Int32)) fun x23 =>
  nm (x23 + ((x23.toUInt32 >>> ((8 : Int32).toUInt32 &&& Int32.toUInt32 31)).toInt32)) fun x24 =>
  nm (x24 + ((x24.toUInt32 >>> ((16 : Int32).toUInt32 &&& Int32.toUInt32 31)).toInt32)) fun x25 =>
  some (x25 &&& (63 : Int32))
set_option maxHeartbeats 1000000 in
set_option maxRecDepth 20000 in
theorem tJ6_bitCount_0f7a4 {l : Launch} {w : VW} {N : Nat} {S : pH} {x0 : Int32} {v0 : Int32} (h : fJ6_bitCount_0f7a4 N S x0 = some v0) : CT l w yJ6_bitCount_0f7a4 cJ6_bitCount_0f7a4 1 (some .int) rmJ6_bitCount_0f7a4 [.int x0] S (some (.int v0)) S := by
  refine v_entry [(0, .int x0)] (by decide) (by simp [lg_sl, cat_rf, cat_i, cat_j]) (by simp [lv_args, cat_rf, cat_i, cat_j]) (fun g _ hC => ?_)
  unfold fJ6_bitCount_0f7a4 at h
  refine v_iload_n hC 0 0 dJ6_bitCount_0f7a4_0 rfl ?_
  refine v_iload_n hC 1 0 dJ6_bitCount_0f7a4_1 rfl ?_
  refine v_iconst hC (1 : Int32) 2 dJ6_bitCount_0f7a4_2 (by decide) ?_
  refine v_iushr hC 3 dJ6_bitCount_0f7a4_3 ?_
  refine v_ldcw hC (v := (1431655765 : Int32)) 4 wG0 dJ6_bitCount_0f7a4_4 ?_
  refine v_iand hC 7 dJ6_bitCount_0f7a4_7 ?_
  refine v_isub hC 8 dJ6_bitCount_0f7a4_8 ?_
  obtain ⟨x21, ex21, h⟩ := onm h
  refine v_topi x21 ex21 ?_
  refine v_istore_n hC [(0, .int x21)] 9 dJ6_bitCount_0f7a4_9 (by decide) rfl ?_
  refine v_iload_n hC 10 0 dJ6_bitCount_0f7a4_10 rfl ?_
  refine v_ldcw hC (v := (858993459 : Int32)) 11 wG1 dJ6_bitCount_0f7a4_11 ?_
  refine v_iand hC 14 dJ6_bitCount_0f7a4_14 ?_
  refine v_iload_n hC 15 0 dJ6_bitCount_0f7a4_15 rfl ?_
  refine v_iconst hC (2 : Int32) 16 dJ6_bitCount_0f7a4_16 (by decide) ?_
  refine v_iushr hC 17 dJ6_bitCount_0f7a4_17 ?_
  refine v_ldcw hC (v := (858993459 : Int32)) 18 wG1 dJ6_bitCount_0f7a4_18 ?_
  refine v_iand hC 21 dJ6_bitCount_0f7a4_21 ?_
  refine v_iadd hC 22 dJ6_bitCount_0f7a4_22 ?_
  obtain ⟨x22, ex22, h⟩ := onm h
  refine v_topi x22 ex22 ?_
  refine v_istore_n hC [(0, .int x22)] 23 dJ6_bitCount_0f7a4_23 (by decide) rfl ?_
  refine v_iload_n hC 24 0 dJ6_bitCount_0f7a4_24 rfl ?_
  refine v_iload_n hC 25 0 dJ6_bitCount_0f7a4_25 rfl ?_
  refine v_iconst hC (4 : Int32) 26 dJ6_bitCount_0f7a4_26 (by decide) ?_
  refine v_iushr hC 27 dJ6_bitCount_0f7a4_27 ?_
  refine v_iadd hC 28 dJ6_bitCount_0f7a4_28 ?_
  refine v_ldcw hC (v := (252645135 : Int32)) 29 wG2 dJ6_bitCount_0f7a4_29 ?_
  refine v_iand hC 32 dJ6_bitCount_0f7a4_32 ?_
  obtain ⟨x23, ex23, h⟩ := onm h
  refine v_topi x23 ex23 ?_
  refine v_istore_n hC [(0, .int x23)] 33 dJ6_bitCount_0f7a4_33 (by decide) rfl ?_
  refine v_iload_n hC 34 0 dJ6_bitCount_0f7a4_34 rfl ?_
  refine v_iload_n hC 35 0 dJ6_bitCount_0f7a4_35 rfl ?_
  refine v_bipush hC (8 : Int32) 36 dJ6_bitCount_0f7a4_36 (by decide) ?_
  refine v_iushr hC 38 dJ6_bitCount_0f7a4_38 ?_
  refine v_iadd hC 39 dJ6_bitCount_0f7a4_39 ?_
  obtain ⟨x24, ex24, h⟩ := onm h
  refine v_topi x24 ex24 ?_
  refine v_istore_n hC [(0, .int x24)] 40 dJ6_bitCount_0f7a4_40 (by decide) rfl ?_
  refine v_iload_n hC 41 0 dJ6_bitCount_0f7a4_41 rfl ?_
  refine v_iload_n hC 42 0 dJ6_bitCount_0f7a4_42 rfl ?_
  refine v_bipush hC (16 : Int32) 43 dJ6_bitCount_0f7a4_43 (by decide) ?_
  refine v_iushr hC 45 dJ6_bitCount_0f7a4_45 ?_
  refine v_iadd hC 46 dJ6_bitCount_0f7a4_46 ?_
  obtain ⟨x25, ex25, h⟩ := onm h
  refine v_topi x25 ex25 ?_
  refine v_istore_n hC [(0, .int x25)] 47 dJ6_bitCount_0f7a4_47 (by decide) rfl ?_
  refine v_iload_n hC 48 0 dJ6_bitCount_0f7a4_48 rfl ?_
  refine v_bipush hC (63 : Int32) 49 dJ6_bitCount_0f7a4_49 (by decide) ?_
  refine v_iand hC 51 dJ6_bitCount_0f7a4_51 ?_
  obtain rfl := sp1 h
  exact v_iret hC 52 (by decide) (by decide) dJ6_bitCount_0f7a4_52
abbrev rmJ6_numberOfTrailingZeros_0f7a4 : Room := { frames := 0, cells := 0, slots := 0, locals := 0 }
theorem hdJ6_numberOfTrailingZeros_0f7a4 : yJ6_numberOfTrailingZeros_0f7a4.cls ≠ "java/lang/invoke/MethodHandle" ∧ yJ6_numberOfTrailingZeros_0f7a4.cls ≠ "java/lang/invoke/VarHandle" ∧ (parseMethodDescriptor yJ6_numberOfTrailingZeros_0f7a4.desc).map (fun d => d.parameters.length) = some 1 := by decide +kernel
def fJ6_numberOfTrailingZeros_0f7a4 (N : Nat) (S : pH) (x0 : Int32) : Option (Int32) :=
  nm ((x0 ^^^ (-1 : Int32)) &&& (x0 - (1 : Int32))) fun x21 =>
  if 0 < x21 then
  (nm (fun (x22 : Int32) (x23 : Int32) =>
  nm (fun (x24 : Int32) (x25 : Int32) =>
  nm (fun (x26 : Int32) (x27 : Int32) =>
  nm (fun (x28 : Int32) (x29 : Int32) =>
  some (x29 + ((x28.toUInt32 >>> ((1 : Int32).toUInt32 &&& Int32.toUInt32 31)).toInt32))) fun j74 =>
  if x26 ≤ (4 : Int32) then
  (j74 x26 x27)
  else
  nm (x27 + (2 : Int32)) fun x30 =>
  nm ((x26.toUInt32 >>> ((2 : Int32).toUInt32 &&& Int32.toUInt32 31)).toInt32) fun x31 =>
  j74 x31 x30) fun j62 =>
  if x24 ≤ (16 : Int32) then
  (j62 x24 x25)
  else
  nm (x25 + (4 : Int32)) fun x33 =>
  nm ((x24.toUInt32 >>> ((4 : Int32).toUInt32 &&& Int32.toUInt32 31)).toInt32) fun x34 =>
  j62 x34 x33) fun j49 =>
  if x22 ≤ (256 : Int32) then
  (j49 x22 x23)
  else
  nm (x23 + (8 : Int32)) fun x36 =>
  nm ((x22.toUInt32 >>> ((8 : Int32).toUInt32 &&& Int32.toUInt32 31)).toInt32) fun x37 =>
  j49 x37 x36) fun j34 =>
  if x21 ≤ (65536 : Int32) then
  (j34 x21 (1 : Int32))
  else
  nm ((1 : Int32) + (16 : Int32)) fun x39 =>
  nm ((x21.toUInt32 >>> ((16 : Int32).toUInt32 &&& Int32.toUInt32 31)).toInt32) fun x40 =>
  j34 x40 x39)
  else
  some (x21 &&& (32 : Int32))
set_option maxHeartbeats 1000000 in
set_option maxRecDepth 20000 in
theorem tJ6_numberOfTrailingZeros_0f7a4 {l : Launch} {w : VW} {N : Nat} {S : pH} {x0 : Int32} {v0 : Int32} (h : fJ6_numberOfTrailingZeros_0f7a4 N S x0 = some v0) : CT l w yJ6_numberOfTrailingZeros_0f7a4 cJ6_numberOfTrailingZeros_0f7a4 2 (some .int) rmJ6_numberOfTrailingZeros_0f7a4 [.int x0] S (some (.int v0)) S := by
  refine v_entry [(0, .int x0)] (by decide) (by simp [lg_sl, cat_rf, cat_i, cat_j]) (by simp [lv_args, cat_rf, cat_i, cat_j]) (fun g _ hC => ?_)
  unfold fJ6_numberOfTrailingZeros_0f7a4 at h
  refine v_iload_n hC 0 0 dJ6_numberOfTrailingZeros_0f7a4_0 rfl ?_
  refine v_iconst hC (-1 : Int32) 1 dJ6_numberOfTrailingZeros_0f7a4_1 (by decide) ?_
  refine v_ixor hC 2 dJ6_numberOfTrailingZeros_0f7a4_2 ?_
  refine v_iload_n hC 3 0 dJ6_numberOfTrailingZeros_0f7a4_3 rfl ?_
  refine v_iconst hC (1 : Int32) 4 dJ6_numberOfTrailingZeros_0f7a4_4 (by decide) ?_
  refine v_isub hC 5 dJ6_numberOfTrailingZeros_0f7a4_5 ?_
  refine v_iand hC 6 dJ6_numberOfTrailingZeros_0f7a4_6 ?_
  obtain ⟨x21, ex21, h⟩ := onm h
  refine v_topi x21 ex21 ?_
  refine v_istore_n hC [(0, .int x21)] 7 dJ6_numberOfTrailingZeros_0f7a4_7 (by decide) rfl ?_
  refine v_iload_n hC 8 0 dJ6_numberOfTrailingZeros_0f7a4_8 rfl ?_
  refine v_if_gt hC 9 17 dJ6_numberOfTrailingZeros_0f7a4_9 (by decide) (fun c42 => ?_) (fun c42 => ?_)
  · replace h := ifp h c42
    refine v_iconst hC (1 : Int32) 17 dJ6_numberOfTrailingZeros_0f7a4_17 (by decide) ?_
    refine v_istore_n hC [(1, .int (1 : Int32)), (0, .int x21)] 18 dJ6_numberOfTrailingZeros_0f7a4_18 (by decide) rfl ?_
    refine v_iload_n hC 19 1 dJ6_numberOfTrailingZeros_0f7a4_19 rfl ?_
    refine v_ldcw hC (v := (65536 : Int32)) 20 wG3 dJ6_numberOfTrailingZeros_0f7a4_20 ?_
    obtain ⟨j34, f34, h⟩ := onm h
    have J34 : ∀ (x22 : Int32) (x23 : Int32), j34 x22 x23 = some v0 → V g w 2 (Qm g w rmJ6_numberOfTrailingZeros_0f7a4.cells rmJ6_numberOfTrailingZeros_0f7a4.slots (some (.int v0)) S) S 0 0 34 [(0, .int x22), (1, .int x23)] [] := by
      intro x22 x23 h
      replace h := jb2 f34 h
      refine v_iload_n hC 34 0 dJ6_numberOfTrailingZeros_0f7a4_34 rfl ?_
      refine v_sipush hC (256 : Int32) 35 dJ6_numberOfTrailingZeros_0f7a4_35 (by decide) ?_
      obtain ⟨j49, f49, h⟩ := onm h
      have J49 : ∀ (x24 : Int32) (x25 : Int32), j49 x24 x25 = some v0 → V g w 2 (Qm g w rmJ6_numberOfTrailingZeros_0f7a4.cells rmJ6_numberOfTrailingZeros_0f7a4.slots (some (.int v0)) S) S 0 0 49 [(0, .int x24), (1, .int x25)] [] := by
        intro x24 x25 h
        replace h := jb2 f49 h
        refine v_iload_n hC 49 0 dJ6_numberOfTrailingZeros_0f7a4_49 rfl ?_
        refine v_bipush hC (16 : Int32) 50 dJ6_numberOfTrailingZeros_0f7a4_50 (by decide) ?_
        obtain ⟨j62, f62, h⟩ := onm h
        have J62 : ∀ (x26 : Int32) (x27 : Int32), j62 x26 x27 = some v0 → V g w 2 (Qm g w rmJ6_numberOfTrailingZeros_0f7a4.cells rmJ6_numberOfTrailingZeros_0f7a4.slots (some (.int v0)) S) S 0 0 62 [(0, .int x26), (1, .int x27)] [] := by
          intro x26 x27 h
          replace h := jb2 f62 h
          refine v_iload_n hC 62 0 dJ6_numberOfTrailingZeros_0f7a4_62 rfl ?_
          refine v_iconst hC (4 : Int32) 63 dJ6_numberOfTrailingZeros_0f7a4_63 (by decide) ?_
          obtain ⟨j74, f74, h⟩ := onm h
          have J74 : ∀ (x28 : Int32) (x29 : Int32), j74 x28 x29 = some v0 → V g w 2 (Qm g w rmJ6_numberOfTrailingZeros_0f7a4.cells rmJ6_numberOfTrailingZeros_0f7a4.slots (some (.int v0)) S) S 0 0 74 [(0, .int x28), (1, .int x29)] [] := by
            intro x28 x29 h
            replace h := jb2 f74 h
            refine v_iload_n hC 74 1 dJ6_numberOfTrailingZeros_0f7a4_74 rfl ?_
            refine v_iload_n hC 75 0 dJ6_numberOfTrailingZeros_0f7a4_75 rfl ?_
            refine v_iconst hC (1 : Int32) 76 dJ6_numberOfTrailingZeros_0f7a4_76 (by decide) ?_
            refine v_iushr hC 77 dJ6_numberOfTrailingZeros_0f7a4_77 ?_
            refine v_iadd hC 78 dJ6_numberOfTrailingZeros_0f7a4_78 ?_
            obtain rfl := sp1 h
            exact v_iret hC 79 (by decide) (by decide) dJ6_numberOfTrailingZeros_0f7a4_79
          refine v_icmp_le hC 64 74 dJ6_numberOfTrailingZeros_0f7a4_64 (by decide) (fun c32 => ?_) (fun c32 => ?_)
          · replace h := ifp h c32
            refine v_sub [(0, .int x26), (1, .int x27)] [0, 1] rfl ?_
            exact J74 _ _ h
          · replace h := ifn h c32
            obtain ⟨x30, ex30, h⟩ := onm h
            refine v_iinc hC x30 [(1, .int x30), (0, .int x26)] 67 1 dJ6_numberOfTrailingZeros_0f7a4_67 rfl (by rw [ex30]; rfl) (by decide) rfl ?_
            refine v_iload_n hC 70 1 dJ6_numberOfTrailingZeros_0f7a4_70 rfl ?_
            refine v_iconst hC (2 : Int32) 71 dJ6_numberOfTrailingZeros_0f7a4_71 (by decide) ?_
            refine v_iushr hC 72 dJ6_numberOfTrailingZeros_0f7a4_72 ?_
            obtain ⟨x31, ex31, h⟩ := onm h
            refine v_topi x31 ex31 ?_
            refine v_istore_n hC [(0, .int x31), (1, .int x30)] 73 dJ6_numberOfTrailingZeros_0f7a4_73 (by decide) rfl ?_
            refine v_sub [(0, .int x31), (1, .int x30)] [0, 1] rfl ?_
            exact J74 _ _ h
        refine v_icmp_le hC 52 62 dJ6_numberOfTrailingZeros_0f7a4_52 (by decide) (fun c35 => ?_) (fun c35 => ?_)
        · replace h := ifp h c35
          refine v_sub [(0, .int x24), (1, .int x25)] [0, 1] rfl ?_
          exact J62 _ _ h
        · replace h := ifn h c35
          obtain ⟨x33, ex33, h⟩ := onm h
          refine v_iinc hC x33 [(1, .int x33), (0, .int x24)] 55 1 dJ6_numberOfTrailingZeros_0f7a4_55 rfl (by rw [ex33]; rfl) (by decide) rfl ?_
          refine v_iload_n hC 58 1 dJ6_numberOfTrailingZeros_0f7a4_58 rfl ?_
          refine v_iconst hC (4 : Int32) 59 dJ6_numberOfTrailingZeros_0f7a4_59 (by decide) ?_
          refine v_iushr hC 60 dJ6_numberOfTrailingZeros_0f7a4_60 ?_
          obtain ⟨x34, ex34, h⟩ := onm h
          refine v_topi x34 ex34 ?_
          refine v_istore_n hC [(0, .int x34), (1, .int x33)] 61 dJ6_numberOfTrailingZeros_0f7a4_61 (by decide) rfl ?_
          refine v_sub [(0, .int x34), (1, .int x33)] [0, 1] rfl ?_
          exact J62 _ _ h
      refine v_icmp_le hC 38 49 dJ6_numberOfTrailingZeros_0f7a4_38 (by decide) (fun c38 => ?_) (fun c38 => ?_)
      · replace h := ifp h c38
        refine v_sub [(0, .int x22), (1, .int x23)] [0, 1] rfl ?_
        exact J49 _ _ h
      · replace h := ifn h c38
        obtain ⟨x36, ex36, h⟩ := onm h
        refine v_iinc hC x36 [(1, .int x36), (0, .int x22)] 41 1 dJ6_numberOfTrailingZeros_0f7a4_41 rfl (by rw [ex36]; rfl) (by decide) rfl ?_
        refine v_iload_n hC 44 1 dJ6_numberOfTrailingZeros_0f7a4_44 rfl ?_
        refine v_bipush hC (8 : Int32) 45 dJ6_numberOfTrailingZeros_0f7a4_45 (by decide) ?_
        refine v_iushr hC 47 dJ6_numberOfTrailingZeros_0f7a4_47 ?_
        obtain ⟨x37, ex37, h⟩ := onm h
        refine v_topi x37 ex37 ?_
        refine v_istore_n hC [(0, .int x37), (1, .int x36)] 48 dJ6_numberOfTrailingZeros_0f7a4_48 (by decide) rfl ?_
        refine v_sub [(0, .int x37), (1, .int x36)] [0, 1] rfl ?_
        exact J49 _ _ h
    refine v_icmp_le hC 23 34 dJ6_numberOfTrailingZeros_0f7a4_23 (by decide) (fun c41 => ?_) (fun c41 => ?_)
    · replace h := ifp h c41
      refine v_sub [(0, .int x21), (1, .int (1 : Int32))] [1, 0] rfl ?_
      exact J34 _ _ h
    · replace h := ifn h c41
      obtain ⟨x39, ex39, h⟩ := onm h
      refine v_iinc hC x39 [(1, .int x39), (0, .int x21)] 26 0 dJ6_numberOfTrailingZeros_0f7a4_26 rfl (by rw [ex39]; rfl) (by decide) rfl ?_
      refine v_iload_n hC 29 1 dJ6_numberOfTrailingZeros_0f7a4_29 rfl ?_
      refine v_bipush hC (16 : Int32) 30 dJ6_numberOfTrailingZeros_0f7a4_30 (by decide) ?_
      refine v_iushr hC 32 dJ6_numberOfTrailingZeros_0f7a4_32 ?_
      obtain ⟨x40, ex40, h⟩ := onm h
      refine v_topi x40 ex40 ?_
      refine v_istore_n hC [(0, .int x40), (1, .int x39)] 33 dJ6_numberOfTrailingZeros_0f7a4_33 (by decide) rfl ?_
      refine v_sub [(0, .int x40), (1, .int x39)] [0, 1] rfl ?_
      exact J34 _ _ h
  · replace h := ifn h c42
    refine v_iload_n hC 12 0 dJ6_numberOfTrailingZeros_0f7a4_12 rfl ?_
    refine v_bipush hC (32 : Int32) 13 dJ6_numberOfTrailingZeros_0f7a4_13 (by decide) ?_
    refine v_iand hC 15 dJ6_numberOfTrailingZeros_0f7a4_15 ?_
    obtain rfl := sp1 h
    exact v_iret hC 16 (by decide) (by decide) dJ6_numberOfTrailingZeros_0f7a4_16
abbrev rmJ7_fill_53178 : Room := { frames := 0, cells := 0, slots := 0, locals := 0 }
theorem hdJ7_fill_53178 : yJ7_fill_53178.cls ≠ "java/lang/invoke/MethodHandle" ∧ yJ7_fill_53178.cls ≠ "java/lang/invoke/VarHandle" ∧ (parseMethodDescriptor yJ7_fill_53178.desc).map (fun d => d.parameters.length) = some 2 := by decide +kernel
def lJ7_fill_53178_5 (N : Nat) (r0 : Option Nat) (x1 : Int32) (x3 : Int32) : Nat → Int32 → pH → Option (pH)
  | 0, _, _ => none
  | n + 1, x22, S23 =>
    if x3 ≤ x22 then
    (some S23)
    else
    (stI S23 r0 x22 x1).bind fun S24 =>
    nm (x22 + (1 : Int32)) fun x25 =>
    lJ7_fill_53178_5 N r0 x1 x3 n x25 S24
def fJ7_fill_53178 (N : Nat) (S : pH) (r0 : Option Nat) (x1 : Int32) : Option (pH) :=
  (lnI S r0).bind fun x21 =>
  (lJ7_fill_53178_5 N r0 x1 x21 N (0 : Int32) S).bind fun S27 =>
  some S27
set_option maxHeartbeats 1000000 in
set_option maxRecDepth 20000 in
theorem kJ7_fill_53178_5 {g : VG} {w : VW} {N : Nat} {r0 : Option Nat} {x1 : Int32} {x3 : Int32} {S0 : pH} (hC : Cx g yJ7_fill_53178 cJ7_fill_53178 4 none rmJ7_fill_53178 w) : ∀ (n : Nat) (x22 : Int32) (S23 : pH) (z : (pH)), lJ7_fill_53178_5 N r0 x1 x3 n x22 S23 = some z → (∀ (e0 : pH), z = e0 → V g w 4 (Qm g w rmJ7_fill_53178.cells rmJ7_fill_53178.slots none S0) e0 0 0 20 [] []) → V g w 4 (Qm g w rmJ7_fill_53178.cells rmJ7_fill_53178.slots none S0) S23 0 0 5 [(0, va_rf r0), (1, .int x1), (2, .int x22), (3, .int x3)] [] := by
  intro n
  induction n with
  | zero => intro x22 S23 z h; rw [lJ7_fill_53178_5] at h; cases h
  | succ n ih =>
    intro x22 S23 z h K
    rw [lJ7_fill_53178_5] at h
    refine v_iload_n hC 5 2 dJ7_fill_53178_5 rfl ?_
    refine v_iload_n hC 6 3 dJ7_fill_53178_6 rfl ?_
    refine v_icmp_ge hC 7 20 dJ7_fill_53178_7 (by decide) (fun c26 => ?_) (fun c26 => ?_)
    · replace h := ifp h c26
      refine v_sub [] [] rfl ?_
      exact K _ (sp1 h)
    · replace h := ifn h c26
      refine v_aload_n hC 10 0 dJ7_fill_53178_10 rfl ?_
      refine v_iload_n hC 11 2 dJ7_fill_53178_11 rfl ?_
      refine v_iload_n hC 12 1 dJ7_fill_53178_12 rfl ?_
      obtain ⟨S24, eS24, h⟩ := obn h
      refine v_iast hC 13 eS24 dJ7_fill_53178_13 ?_
      obtain ⟨x25, ex25, h⟩ := onm h
      refine v_iinc hC x25 [(2, .int x25), (0, va_rf r0), (1, .int x1), (3, .int x3)] 14 2 dJ7_fill_53178_14 rfl (by rw [ex25]; rfl) (by decide) rfl ?_
      refine v_goto hC 17 5 dJ7_fill_53178_17 (by decide) ?_
      refine v_sub [(0, va_rf r0), (1, .int x1), (2, .int x25), (3, .int x3)] [1, 2, 0, 3] rfl ?_
      exact ih _ _ _ h K
set_option maxHeartbeats 1000000 in
set_option maxRecDepth 20000 in
theorem tJ7_fill_53178 {l : Launch} {w : VW} {N : Nat} {S : pH} {r0 : Option Nat} {x1 : Int32} {S0 : pH} (h : fJ7_fill_53178 N S r0 x1 = some S0) : CT l w yJ7_fill_53178 cJ7_fill_53178 4 none rmJ7_fill_53178 [va_rf r0, .int x1] S none S0 := by
  refine v_entry [(0, va_rf r0), (1, .int x1)] (by decide) (by simp [lg_sl, cat_rf, cat_i, cat_j]) (by simp [lv_args, cat_rf, cat_i, cat_j]) (fun g _ hC => ?_)
  unfold fJ7_fill_53178 at h
  refine v_iconst hC (0 : Int32) 0 dJ7_fill_53178_0 (by decide) ?_
  refine v_istore_n hC [(2, .int (0 : Int32)), (0, va_rf r0), (1, .int x1)] 1 dJ7_fill_53178_1 (by decide) rfl ?_
  refine v_aload_n hC 2 1 dJ7_fill_53178_2 rfl ?_
  obtain ⟨x21, ex21, h⟩ := obn h
  refine v_alen hC 3 ex21 dJ7_fill_53178_3 ?_
  refine v_istore_n hC [(3, .int x21), (2, .int (0 : Int32)), (0, va_rf r0), (1, .int x1)] 4 dJ7_fill_53178_4 (by decide) rfl ?_
  obtain ⟨S27, E5, h⟩ := obn h
  refine v_sub [(0, va_rf r0), (1, .int x1), (2, .int (0 : Int32)), (3, .int x21)] [2, 3, 1, 0] rfl ?_
  refine kJ7_fill_53178_5 hC _ _ _ _ E5 (fun _ hz9 => ?_)
  cases hz9
  obtain rfl := sp1 h
  exact v_vret hC 20 (by decide) (by decide) dJ7_fill_53178_20
abbrev rmX0_swapRows : Room := { frames := 0, cells := 0, slots := 0, locals := 0 }
theorem hdX0_swapRows : yX0_swapRows.cls ≠ "java/lang/invoke/MethodHandle" ∧ yX0_swapRows.cls ≠ "java/lang/invoke/VarHandle" ∧ (parseMethodDescriptor yX0_swapRows.desc).map (fun d => d.parameters.length) = some 0 := by decide +kernel
def fX0_swapRows (N : Nat) (S : pH) (r0 : Option Nat) : Option (pH) :=
  chk S 0 r0 <|
  (gfR S 0 8 r0).bind fun r21 =>
  (gfR S 0 9 r0).bind fun r22 =>
  (pfV S 0 8 r0 (va_rf r22)).bind fun S23 =>
  (pfV S23 0 9 r0 (va_rf r21)).bind fun S24 =>
  some S24
theorem oX0_swapRows {N : Nat} {S : pH} {r0 : Option Nat} {z : pH} (h : fX0_swapRows N S r0 = some z) : ∃ fs, obj S 0 r0 = some fs := by
  unfold fX0_swapRows at h
  exact (chk_spec h).1
set_option maxHeartbeats 1000000 in
set_option maxRecDepth 20000 in
theorem tX0_swapRows {l : Launch} {w : VW} {N : Nat} {S : pH} {r0 : Option Nat} {S0 : pH} (h : fX0_swapRows N S r0 = some S0) : CT l w yX0_swapRows cX0_swapRows 2 none rmX0_swapRows [va_rf r0] S none S0 := by
  refine v_entry [(0, va_rf r0)] (by decide) (by simp [lg_sl, cat_rf, cat_i, cat_j]) (by simp [lv_args, cat_rf, cat_i, cat_j]) (fun g _ hC => ?_)
  unfold fX0_swapRows at h
  obtain ⟨hO, h⟩ := chk_spec h
  refine v_aload_n hC 0 0 dX0_swapRows_0 rfl ?_
  obtain ⟨r21, er21, h⟩ := obn h
  refine gRX0_37 hC rfl 1 er21 dX0_swapRows_1 ?_
  refine v_astore_n hC [(1, va_rf r21), (0, va_rf r0)] 4 dX0_swapRows_4 (by decide) (by first | rfl | (simp [cat_rf, cat_i, cat_j]; done) | (simp [cat_rf, cat_i, cat_j]; decide)) ?_
  refine v_aload_n hC 5 1 dX0_swapRows_5 rfl ?_
  refine v_aload_n hC 6 1 dX0_swapRows_6 rfl ?_
  obtain ⟨r22, er22, h⟩ := obn h
  refine gRX0_40 hC rfl 7 er22 dX0_swapRows_7 ?_
  obtain ⟨S23, eS23, h⟩ := obn h
  refine pRX0_37 hC rfl 10 eS23 dX0_swapRows_10 ?_
  refine v_aload_n hC 13 1 dX0_swapRows_13 rfl ?_
  refine v_aload_n hC 14 0 dX0_swapRows_14 rfl ?_
  obtain ⟨S24, eS24, h⟩ := obn h
  refine pRX0_40 hC rfl 15 eS24 dX0_swapRows_15 ?_
  obtain rfl := sp1 h
  exact v_vret hC 18 (by decide) (by decide) dX0_swapRows_18
set_option maxRecDepth 20000 in
theorem qX0_63 {g : VG} {w : VW} {nL : Nat} {Q : State → Prop} {S : pH} {kc ks : Nat} {lv : List (Nat × Value)} {rest : List Value} {y : MethodName} {cc : ByteArray} {rt : Option FieldType} {rm : Room} (hC : Cx g y cc nL rt rm w) (hy : y.cls = RX0) (pc : Nat) {N : Nat} {r0 : Option Nat} {x1 : Int32} {S0 : pH} (h : fJ7_fill_53178 N S r0 x1 = some S0) (hR : rmJ7_fill_53178.frames + 1 ≤ rm.frames ∧ 8 + (4 + 11) + rmJ7_fill_53178.locals ≤ rm.locals) (hst : (rest.map fun v => v.category).sum ≤ 8) (hf : kc + 0 ≤ rm.cells ∧ ks + 0 ≤ rm.slots) (d : decode cc pc = .ok (.invokestatic 63, 3)) (K : V g w nL Q S0 kc ks (pc + 3) lv (rest)) : V g w nL Q S kc ks pc lv (.int x1 :: va_rf r0 :: rest) := by
  exact v_callS (As := [va_rf r0, .int x1]) (rest := rest) hC pc (tJ7_fill_53178 (l := g.2.1) (w := w) h) wG172 (by rw [hy]; exact wG171) wG174 wG173 hdJ7_fill_53178 rfl hR hst hf d K
set_option maxRecDepth 20000 in
theorem qX0_69 {g : VG} {w : VW} {nL : Nat} {Q : State → Prop} {S : pH} {kc ks : Nat} {lv : List (Nat × Value)} {rest : List Value} {y : MethodName} {cc : ByteArray} {rt : Option FieldType} {rm : Room} (hC : Cx g y cc nL rt rm w) (hy : y.cls = RX0) (pc : Nat) {N : Nat} {r0 : Option Nat} {S0 : pH} (h : fX0_swapRows N S r0 = some S0) (hR : rmX0_swapRows.frames + 1 ≤ rm.frames ∧ 8 + (2 + 11) + rmX0_swapRows.locals ≤ rm.locals) (hst : (rest.map fun v => v.category).sum ≤ 8) (hf : kc + 0 ≤ rm.cells ∧ ks + 0 ≤ rm.slots) (d : decode cc pc = .ok (.invokevirtual 69, 3)) (K : V g w nL Q S0 kc ks (pc + 3) lv (rest)) : V g w nL Q S kc ks pc lv (va_rf r0 :: rest) := by
  obtain ⟨fs, ho⟩ := oX0_swapRows h
  exact v_callV (As := []) (rest := rest) (ci := 0) hC pc (tX0_swapRows (l := g.2.1) (w := w) h) rfl (by decide) ho wG176 (by rw [hy]; exact wG175) wG177 wG178 wG119 hdX0_swapRows rfl hR hst hf d K
abbrev rmX0_cheapestFrom : Room := { frames := 1, cells := 0, slots := 0, locals := 23 }
theorem hdX0_cheapestFrom : yX0_cheapestFrom.cls ≠ "java/lang/invoke/MethodHandle" ∧ yX0_cheapestFrom.cls ≠ "java/lang/invoke/VarHandle" ∧ (parseMethodDescriptor yX0_cheapestFrom.desc).map (fun d => d.parameters.length) = some 2 := by decide +kernel
def lX0_cheapestFrom_35 (N : Nat) (r0 : Option Nat) (x1 : Int32) (x2 : Int32) (x3 : Int32) : Nat → Int32 → pH → Option (pH)
  | 0, _, _ => none
  | n + 1, x29, S30 =>
    (gfI S30 0 7 r0).bind fun x31 =>
    if x31 ≤ x29 then
    (some S30)
    else
    (gfR S30 0 9 r0).bind fun r32 =>
    (gfR S30 0 5 r0).bind fun r33 =>
    (ldI S30 0 r33 x29).bind fun x34 =>
    (gfR S30 0 9 r0).bind fun r35 =>
    (gfR S30 0 5 r0).bind fun r36 =>
    (ldI S30 0 r36 x29).bind fun x37 =>
    (ldI S30 0 r35 x37).bind fun x38 =>
    (gfR S30 0 8 r0).bind fun r39 =>
    (gfR S30 0 4 r0).bind fun r40 =>
    (ldI S30 0 r40 x29).bind fun x41 =>
    (ldI S30 0 r39 x41).bind fun x42 =>
    (gfR S30 0 6 r0).bind fun r43 =>
    (ldI S30 0 r43 x29).bind fun x44 =>
    (stI S30 r32 x34 (mmin x38 (x42 + x44))).bind fun S45 =>
    nm (x29 + (1 : Int32)) fun x46 =>
    lX0_cheapestFrom_35 N r0 x1 x2 x3 n x46 S45
def lX0_cheapestFrom_18 (N : Nat) (r0 : Option Nat) (x1 : Int32) (x2 : Int32) : Nat → Int32 → pH → Option (pH)
  | 0, _, _ => none
  | n + 1, x25, S26 =>
    if x2 ≤ x25 then
    (some S26)
    else
    (gfR S26 0 9 r0).bind fun r27 =>
    (fJ7_fill_53178 N S26 r27 (1000000000 : Int32)).bind fun S28 =>
    (lX0_cheapestFrom_35 N r0 x1 x2 x25 N (0 : Int32) S28).bind fun S48 =>
    (fX0_swapRows N S48 r0).bind fun S49 =>
    nm (x25 + (1 : Int32)) fun x50 =>
    lX0_cheapestFrom_18 N r0 x1 x2 n x50 S49
def fX0_cheapestFrom (N : Nat) (S : pH) (r0 : Option Nat) (x1 : Int32) (x2 : Int32) : Option (Int32 × pH) :=
  chk S 0 r0 <|
  (gfR S 0 8 r0).bind fun r21 =>
  (fJ7_fill_53178 N S r21 (1000000000 : Int32)).bind fun S22 =>
  (gfR S22 0 8 r0).bind fun r23 =>
  (stI S22 r23 x1 (0 : Int32)).bind fun S24 =>
  (lX0_cheapestFrom_18 N r0 x1 x2 N (0 : Int32) S24).bind fun S52 =>
  (gfR S52 0 8 r0).bind fun r53 =>
  (ldI S52 0 r53 x1).bind fun x54 =>
  some (x54, S52)
theorem oX0_cheapestFrom {N : Nat} {S : pH} {r0 : Option Nat} {x1 : Int32} {x2 : Int32} {z : Int32 × pH} (h : fX0_cheapestFrom N S r0 x1 x2 = some z) : ∃ fs, obj S 0 r0 = some fs := by
  unfold fX0_cheapestFrom at h
  exact (chk_spec h).1
set_option maxHeartbeats 1000000 in
set_option maxRecDepth 20000 in
theorem kX0_cheapestFrom_35 {g : VG} {w : VW} {N : Nat} {r0 : Option Nat} {x1 : Int32} {x2 : Int32} {x3 : Int32} {v0 : Int32} {S0 : pH} (hC : Cx g yX0_cheapestFrom cX0_cheapestFrom 5 (some .int) rmX0_cheapestFrom w) : ∀ (n : Nat) (x29 : Int32) (S30 : pH) (z : (pH)), lX0_cheapestFrom_35 N r0 x1 x2 x3 n x29 S30 = some z → (∀ (e0 : pH), z = e0 → V g w 5 (Qm g w rmX0_cheapestFrom.cells rmX0_cheapestFrom.slots (some (.int v0)) S0) e0 0 0 97 [(0, va_rf r0), (1, .int x1), (2, .int x2), (3, .int x3)] []) → V g w 5 (Qm g w rmX0_cheapestFrom.cells rmX0_cheapestFrom.slots (some (.int v0)) S0) S30 0 0 35 [(0, va_rf r0), (1, .int x1), (2, .int x2), (3, .int x3), (4, .int x29)] [] := by
  intro n
  induction n with
  | zero => intro x29 S30 z h; rw [lX0_cheapestFrom_35] at h; cases h
  | succ n ih =>
    intro x29 S30 z h K
    rw [lX0_cheapestFrom_35] at h
    refine v_iload hC 35 4 dX0_cheapestFrom_35 rfl ?_
    refine v_aload_n hC 37 0 dX0_cheapestFrom_37 rfl ?_
    obtain ⟨x31, ex31, h⟩ := obn h
    refine gRX0_34 hC rfl 38 ex31 dX0_cheapestFrom_38 ?_
    refine v_icmp_ge hC 41 97 dX0_cheapestFrom_41 (by decide) (fun c47 => ?_) (fun c47 => ?_)
    · replace h := ifp h c47
      refine v_sub [(0, va_rf r0), (1, .int x1), (2, .int x2), (3, .int x3)] [0, 1, 2, 3] rfl ?_
      exact K _ (sp1 h)
    · replace h := ifn h c47
      refine v_aload_n hC 44 0 dX0_cheapestFrom_44 rfl ?_
      obtain ⟨r32, er32, h⟩ := obn h
      refine gRX0_40 hC rfl 45 er32 dX0_cheapestFrom_45 ?_
      refine v_aload_n hC 48 0 dX0_cheapestFrom_48 rfl ?_
      obtain ⟨r33, er33, h⟩ := obn h
      refine gRX0_28 hC rfl 49 er33 dX0_cheapestFrom_49 ?_
      refine v_iload hC 52 4 dX0_cheapestFrom_52 rfl ?_
      obtain ⟨x34, ex34, h⟩ := obn h
      refine v_iald hC 54 ex34 dX0_cheapestFrom_54 ?_
      refine v_aload_n hC 55 0 dX0_cheapestFrom_55 rfl ?_
      obtain ⟨r35, er35, h⟩ := obn h
      refine gRX0_40 hC rfl 56 er35 dX0_cheapestFrom_56 ?_
      refine v_aload_n hC 59 0 dX0_cheapestFrom_59 rfl ?_
      obtain ⟨r36, er36, h⟩ := obn h
      refine gRX0_28 hC rfl 60 er36 dX0_cheapestFrom_60 ?_
      refine v_iload hC 63 4 dX0_cheapestFrom_63 rfl ?_
      obtain ⟨x37, ex37, h⟩ := obn h
      refine v_iald hC 65 ex37 dX0_cheapestFrom_65 ?_
      obtain ⟨x38, ex38, h⟩ := obn h
      refine v_iald hC 66 ex38 dX0_cheapestFrom_66 ?_
      refine v_aload_n hC 67 0 dX0_cheapestFrom_67 rfl ?_
      obtain ⟨r39, er39, h⟩ := obn h
      refine gRX0_37 hC rfl 68 er39 dX0_cheapestFrom_68 ?_
      refine v_aload_n hC 71 0 dX0_cheapestFrom_71 rfl ?_
      obtain ⟨r40, er40, h⟩ := obn h
      refine gRX0_25 hC rfl 72 er40 dX0_cheapestFrom_72 ?_
      refine v_iload hC 75 4 dX0_cheapestFrom_75 rfl ?_
      obtain ⟨x41, ex41, h⟩ := obn h
      refine v_iald hC 77 ex41 dX0_cheapestFrom_77 ?_
      obtain ⟨x42, ex42, h⟩ := obn h
      refine v_iald hC 78 ex42 dX0_cheapestFrom_78 ?_
      refine v_aload_n hC 79 0 dX0_cheapestFrom_79 rfl ?_
      obtain ⟨r43, er43, h⟩ := obn h
      refine gRX0_31 hC rfl 80 er43 dX0_cheapestFrom_80 ?_
      refine v_iload hC 83 4 dX0_cheapestFrom_83 rfl ?_
      obtain ⟨x44, ex44, h⟩ := obn h
      refine v_iald hC 85 ex44 dX0_cheapestFrom_85 ?_
      refine v_iadd hC 86 dX0_cheapestFrom_86 ?_
      refine v_mmin hC 87 wG11 wG12 wG13 wG14 (by decide) (Nat.le_of_ble_eq_true rfl) (by decide) (by decide) dX0_cheapestFrom_87 ?_
      obtain ⟨S45, eS45, h⟩ := obn h
      refine v_iast hC 90 eS45 dX0_cheapestFrom_90 ?_
      obtain ⟨x46, ex46, h⟩ := onm h
      refine v_iinc hC x46 [(4, .int x46), (0, va_rf r0), (1, .int x1), (2, .int x2), (3, .int x3)] 91 4 dX0_cheapestFrom_91 rfl (by rw [ex46]; rfl) (by decide) rfl ?_
      refine v_goto hC 94 35 dX0_cheapestFrom_94 (by decide) ?_
      refine v_sub [(0, va_rf r0), (1, .int x1), (2, .int x2), (3, .int x3), (4, .int x46)] [1, 2, 3, 4, 0] rfl ?_
      exact ih _ _ _ h K
set_option maxHeartbeats 1000000 in
set_option maxRecDepth 20000 in
theorem kX0_cheapestFrom_18 {g : VG} {w : VW} {N : Nat} {r0 : Option Nat} {x1 : Int32} {x2 : Int32} {v0 : Int32} {S0 : pH} (hC : Cx g yX0_cheapestFrom cX0_cheapestFrom 5 (some .int) rmX0_cheapestFrom w) : ∀ (n : Nat) (x25 : Int32) (S26 : pH) (z : (pH)), lX0_cheapestFrom_18 N r0 x1 x2 n x25 S26 = some z → (∀ (e0 : pH), z = e0 → V g w 5 (Qm g w rmX0_cheapestFrom.cells rmX0_cheapestFrom.slots (some (.int v0)) S0) e0 0 0 107 [(0, va_rf r0), (1, .int x1)] []) → V g w 5 (Qm g w rmX0_cheapestFrom.cells rmX0_cheapestFrom.slots (some (.int v0)) S0) S26 0 0 18 [(0, va_rf r0), (1, .int x1), (2, .int x2), (3, .int x25)] [] := by
  intro n
  induction n with
  | zero => intro x25 S26 z h; rw [lX0_cheapestFrom_18] at h; cases h
  | succ n ih =>
    intro x25 S26 z h K
    rw [lX0_cheapestFrom_18] at h
    refine v_iload_n hC 18 3 dX0_cheapestFrom_18 rfl ?_
    refine v_iload_n hC 19 2 dX0_cheapestFrom_19 rfl ?_
    refine v_icmp_ge hC 20 107 dX0_cheapestFrom_20 (by decide) (fun c51 => ?_) (fun c51 => ?_)
    · replace h := ifp h c51
      refine v_sub [(0, va_rf r0), (1, .int x1)] [0, 1] rfl ?_
      exact K _ (sp1 h)
    · replace h := ifn h c51
      refine v_aload_n hC 23 0 dX0_cheapestFrom_23 rfl ?_
      obtain ⟨r27, er27, h⟩ := obn h
      refine gRX0_40 hC rfl 24 er27 dX0_cheapestFrom_24 ?_
      refine v_ldc hC (v := (1000000000 : Int32)) 27 wG6 dX0_cheapestFrom_27 ?_
      obtain ⟨S28, eS28, h⟩ := obn h
      refine qX0_63 hC rfl 29 eS28 (by decide) (catL (Nat.le_of_ble_eq_true rfl)) (by decide) dX0_cheapestFrom_29 ?_
      refine v_iconst hC (0 : Int32) 32 dX0_cheapestFrom_32 (by decide) ?_
      refine v_istore hC [(4, .int (0 : Int32)), (0, va_rf r0), (1, .int x1), (2, .int x2), (3, .int x25)] 33 dX0_cheapestFrom_33 (by decide) rfl ?_
      obtain ⟨S48, E35, h⟩ := obn h
      refine v_sub [(0, va_rf r0), (1, .int x1), (2, .int x2), (3, .int x25), (4, .int (0 : Int32))] [1, 2, 3, 4, 0] rfl ?_
      refine kX0_cheapestFrom_35 hC _ _ _ _ E35 (fun _ hz9 => ?_)
      cases hz9
      refine v_aload_n hC 97 0 dX0_cheapestFrom_97 rfl ?_
      obtain ⟨S49, eS49, h⟩ := obn h
      refine qX0_69 hC rfl 98 eS49 (by decide) (catL (Nat.le_of_ble_eq_true rfl)) (by decide) dX0_cheapestFrom_98 ?_
      obtain ⟨x50, ex50, h⟩ := onm h
      refine v_iinc hC x50 [(3, .int x50), (0, va_rf r0), (1, .int x1), (2, .int x2)] 101 3 dX0_cheapestFrom_101 rfl (by rw [ex50]; rfl) (by decide) rfl ?_
      refine v_goto hC 104 18 dX0_cheapestFrom_104 (by decide) ?_
      refine v_sub [(0, va_rf r0), (1, .int x1), (2, .int x2), (3, .int x50)] [1, 2, 3, 0] rfl ?_
      exact ih _ _ _ h K
set_option maxHeartbeats 1000000 in
set_option maxRecDepth 20000 in
theorem tX0_cheapestFrom {l : Launch} {w : VW} {N : Nat} {S : pH} {r0 : Option Nat} {x1 : Int32} {x2 : Int32} {v0 : Int32} {S0 : pH} (h : fX0_cheapestFrom N S r0 x1 x2 = some (v0, S0)) : CT l w yX0_cheapestFrom cX0_cheapestFrom 5 (some .int) rmX0_cheapestFrom [va_rf r0, .int x1, .int x2] S (some (.int v0)) S0 := by
  refine v_entry [(0, va_rf r0), (1, .int x1), (2, .int x2)] (by decide) (by simp [lg_sl, cat_rf, cat_i, cat_j]) (by simp [lv_args, cat_rf, cat_i, cat_j]) (fun g _ hC => ?_)
  unfold fX0_cheapestFrom at h
  obtain ⟨hO, h⟩ := chk_spec h
  refine v_aload_n hC 0 0 dX0_cheapestFrom_0 rfl ?_
  obtain ⟨r21, er21, h⟩ := obn h
  refine gRX0_37 hC rfl 1 er21 dX0_cheapestFrom_1 ?_
  refine v_ldc hC (v := (1000000000 : Int32)) 4 wG6 dX0_cheapestFrom_4 ?_
  obtain ⟨S22, eS22, h⟩ := obn h
  refine qX0_63 hC rfl 6 eS22 (by decide) (catL (Nat.le_of_ble_eq_true rfl)) (by decide) dX0_cheapestFrom_6 ?_
  refine v_aload_n hC 9 0 dX0_cheapestFrom_9 rfl ?_
  obtain ⟨r23, er23, h⟩ := obn h
  refine gRX0_37 hC rfl 10 er23 dX0_cheapestFrom_10 ?_
  refine v_iload_n hC 13 1 dX0_cheapestFrom_13 rfl ?_
  refine v_iconst hC (0 : Int32) 14 dX0_cheapestFrom_14 (by decide) ?_
  obtain ⟨S24, eS24, h⟩ := obn h
  refine v_iast hC 15 eS24 dX0_cheapestFrom_15 ?_
  refine v_iconst hC (0 : Int32) 16 dX0_cheapestFrom_16 (by decide) ?_
  refine v_istore_n hC [(3, .int (0 : Int32)), (0, va_rf r0), (1, .int x1), (2, .int x2)] 17 dX0_cheapestFrom_17 (by decide) rfl ?_
  obtain ⟨S52, E18, h⟩ := obn h
  refine v_sub [(0, va_rf r0), (1, .int x1), (2, .int x2), (3, .int (0 : Int32))] [1, 2, 3, 0] rfl ?_
  refine kX0_cheapestFrom_18 hC _ _ _ _ E18 (fun _ hz9 => ?_)
  cases hz9
  refine v_aload_n hC 107 0 dX0_cheapestFrom_107 rfl ?_
  obtain ⟨r53, er53, h⟩ := obn h
  refine gRX0_37 hC rfl 108 er53 dX0_cheapestFrom_108 ?_
  refine v_iload_n hC 111 1 dX0_cheapestFrom_111 rfl ?_
  obtain ⟨x54, ex54, h⟩ := obn h
  refine v_iald hC 112 ex54 dX0_cheapestFrom_112 ?_
  obtain ⟨rfl, rfl⟩ := sp2 h
  exact v_iret hC 113 (by decide) (by decide) dX0_cheapestFrom_113
abbrev rmX0_columnOf : Room := { frames := 0, cells := 0, slots := 0, locals := 0 }
theorem hdX0_columnOf : yX0_columnOf.cls ≠ "java/lang/invoke/MethodHandle" ∧ yX0_columnOf.cls ≠ "java/lang/invoke/VarHandle" ∧ (parseMethodDescriptor yX0_columnOf.desc).map (fun d => d.parameters.length) = some 1 := by decide +kernel
def lX0_columnOf_2 (N : Nat) (S : pH) (r0 : Option Nat) (x1 : Int32) : Nat → Int32 → Option (Sum (Unit) (Int32))
  | 0, _ => none
  | n + 1, x21 =>
    (gfI S 0 3 r0).bind fun x22 =>
    if x22 ≤ x21 then
    (some (.inl ()))
    else
    (gfR S 0 0 r0).bind fun r23 =>
    (ldI S 0 r23 x21).bind fun x24 =>
    if ¬ x24 = x1 then
    (nm (x21 + (1 : Int32)) fun x25 =>
    lX0_columnOf_2 N S r0 x1 n x25)
    else
    some (.inr x21)
def fX0_columnOf (N : Nat) (S : pH) (r0 : Option Nat) (x1 : Int32) : Option (Int32) :=
  chk S 0 r0 <|
  bS1 (lX0_columnOf_2 N S r0 x1 N (0 : Int32)) (fun r9 => some r9) fun u9 =>
  some (-9 : Int32)
theorem oX0_columnOf {N : Nat} {S : pH} {r0 : Option Nat} {x1 : Int32} {z : Int32} (h : fX0_columnOf N S r0 x1 = some z) : ∃ fs, obj S 0 r0 = some fs := by
  unfold fX0_columnOf at h
  exact (chk_spec h).1
set_option maxHeartbeats 1000000 in
set_option maxRecDepth 20000 in
theorem kX0_columnOf_2 {g : VG} {w : VW} {N : Nat} {S : pH} {r0 : Option Nat} {x1 : Int32} {v0 : Int32} (hC : Cx g yX0_columnOf cX0_columnOf 3 (some .int) rmX0_columnOf w) : ∀ (n : Nat) (x21 : Int32) (z : (Sum (Unit) (Int32))), lX0_columnOf_2 N S r0 x1 n x21 = some z → (∀ (u9 : Unit), z = .inl u9 → V g w 3 (Qm g w rmX0_columnOf.cells rmX0_columnOf.slots (some (.int v0)) S) S 0 0 28 [] []) → (∀ (v1 : Int32), z = .inr v1 → v0 = v1) → V g w 3 (Qm g w rmX0_columnOf.cells rmX0_columnOf.slots (some (.int v0)) S) S 0 0 2 [(0, va_rf r0), (1, .int x1), (2, .int x21)] [] := by
  intro n
  induction n with
  | zero => intro x21 z h; rw [lX0_columnOf_2] at h; cases h
  | succ n ih =>
    intro x21 z h K hR
    rw [lX0_columnOf_2] at h
    refine v_iload_n hC 2 2 dX0_columnOf_2 rfl ?_
    refine v_aload_n hC 3 0 dX0_columnOf_3 rfl ?_
    obtain ⟨x22, ex22, h⟩ := obn h
    refine gRX0_21 hC rfl 4 ex22 dX0_columnOf_4 ?_
    refine v_icmp_ge hC 7 28 dX0_columnOf_7 (by decide) (fun c27 => ?_) (fun c27 => ?_)
    · replace h := ifp h c27
      refine v_sub [] [] rfl ?_
      exact K _ (sp1 h)
    · replace h := ifn h c27
      refine v_aload_n hC 10 0 dX0_columnOf_10 rfl ?_
      obtain ⟨r23, er23, h⟩ := obn h
      refine gRX0_11 hC rfl 11 er23 dX0_columnOf_11 ?_
      refine v_iload_n hC 14 2 dX0_columnOf_14 rfl ?_
      obtain ⟨x24, ex24, h⟩ := obn h
      refine v_iald hC 15 ex24 dX0_columnOf_15 ?_
      refine v_iload_n hC 16 1 dX0_columnOf_16 rfl ?_
      refine v_icmp_ne hC 17 22 dX0_columnOf_17 (by decide) (fun c26 => ?_) (fun c26 => ?_)
      · replace h := ifp h c26
        obtain ⟨x25, ex25, h⟩ := onm h
        refine v_iinc hC x25 [(2, .int x25), (0, va_rf r0), (1, .int x1)] 22 2 dX0_columnOf_22 rfl (by rw [ex25]; rfl) (by decide) rfl ?_
        refine v_goto hC 25 2 dX0_columnOf_25 (by decide) ?_
        refine v_sub [(0, va_rf r0), (1, .int x1), (2, .int x25)] [1, 2, 0] rfl ?_
        exact ih _ _ h K hR
      · replace h := ifn h (fun q => q c26)
        refine v_iload_n hC 20 2 dX0_columnOf_20 rfl ?_
        obtain rfl := hR _ (sp1 h)
        exact v_iret hC 21 (by decide) (by decide) dX0_columnOf_21
set_option maxHeartbeats 1000000 in
set_option maxRecDepth 20000 in
theorem tX0_columnOf {l : Launch} {w : VW} {N : Nat} {S : pH} {r0 : Option Nat} {x1 : Int32} {v0 : Int32} (h : fX0_columnOf N S r0 x1 = some v0) : CT l w yX0_columnOf cX0_columnOf 3 (some .int) rmX0_columnOf [va_rf r0, .int x1] S (some (.int v0)) S := by
  refine v_entry [(0, va_rf r0), (1, .int x1)] (by decide) (by simp [lg_sl, cat_rf, cat_i, cat_j]) (by simp [lv_args, cat_rf, cat_i, cat_j]) (fun g _ hC => ?_)
  unfold fX0_columnOf at h
  obtain ⟨hO, h⟩ := chk_spec h
  refine v_iconst hC (0 : Int32) 0 dX0_columnOf_0 (by decide) ?_
  refine v_istore_n hC [(2, .int (0 : Int32)), (0, va_rf r0), (1, .int x1)] 1 dX0_columnOf_1 (by decide) rfl ?_
  rcases obS1 h with ⟨u9, E2, h⟩ | ⟨r9, E2, h⟩
  · refine v_sub [(0, va_rf r0), (1, .int x1), (2, .int (0 : Int32))] [1, 2, 0] rfl ?_
    refine kX0_columnOf_2 hC _ _ _ E2 (fun _ hz9 => ?_) (fun _ hz9 => by cases hz9)
    cases hz9
    refine v_bipush hC (-9 : Int32) 28 dX0_columnOf_28 (by decide) ?_
    obtain rfl := sp1 h
    exact v_iret hC 30 (by decide) (by decide) dX0_columnOf_30
  · refine v_sub [(0, va_rf r0), (1, .int x1), (2, .int (0 : Int32))] [1, 2, 0] rfl ?_
    exact kX0_columnOf_2 hC _ _ _ E2 (fun _ hz9 => by cases hz9) (fun _ hz9 => by cases hz9; cases h; exact rfl)
set_option maxRecDepth 20000 in
theorem qX0_55 {g : VG} {w : VW} {nL : Nat} {Q : State → Prop} {S : pH} {kc ks : Nat} {lv : List (Nat × Value)} {rest : List Value} {y : MethodName} {cc : ByteArray} {rt : Option FieldType} {rm : Room} (hC : Cx g y cc nL rt rm w) (hy : y.cls = RX0) (pc : Nat) {N : Nat} {r0 : Option Nat} {x1 : Int32} {v0 : Int32} (h : fX0_columnOf N S r0 x1 = some v0) (hR : rmX0_columnOf.frames + 1 ≤ rm.frames ∧ 8 + (3 + 11) + rmX0_columnOf.locals ≤ rm.locals) (hst : (rest.map fun v => v.category).sum ≤ 8) (hf : kc + 0 ≤ rm.cells ∧ ks + 0 ≤ rm.slots) (d : decode cc pc = .ok (.invokevirtual 55, 3)) (K : V g w nL Q S kc ks (pc + 3) lv (.int v0 :: rest)) : V g w nL Q S kc ks pc lv (.int x1 :: va_rf r0 :: rest) := by
  obtain ⟨fs, ho⟩ := oX0_columnOf h
  exact v_callV (As := [.int x1]) (rest := rest) (ci := 0) hC pc (tX0_columnOf (l := g.2.1) (w := w) h) rfl (by decide) ho wG180 (by rw [hy]; exact wG179) wG181 wG182 wG119 hdX0_columnOf rfl hR hst hf d K
abbrev rmX0_joinArrows : Room := { frames := 1, cells := 0, slots := 0, locals := 22 }
theorem hdX0_joinArrows : yX0_joinArrows.cls ≠ "java/lang/invoke/MethodHandle" ∧ yX0_joinArrows.cls ≠ "java/lang/invoke/VarHandle" ∧ (parseMethodDescriptor yX0_joinArrows.desc).map (fun d => d.parameters.length) = some 0 := by decide +kernel
def lX0_joinArrows_7 (N : Nat) (r0 : Option Nat) : Nat → Int32 → pH → Option (pH)
  | 0, _, _ => none
  | n + 1, x22, S23 =>
    (gfI S23 0 3 r0).bind fun x24 =>
    if x24 ≤ x22 then
    (some S23)
    else
    (gfR S23 0 0 r0).bind fun r25 =>
    (ldI S23 0 r25 x22).bind fun x26 =>
    (fX0_columnOf N S23 r0 x26).bind fun x27 =>
    (gfR S23 0 1 r0).bind fun r28 =>
    (ldI S23 0 r28 x22).bind fun x29 =>
    (fX0_columnOf N S23 r0 x29).bind fun x30 =>
    nm (fun (S31 : pH) =>
    nm (x22 + (1 : Int32)) fun x32 =>
    lX0_joinArrows_7 N r0 n x32 S31) fun j103 =>
    if x27 = (-9 : Int32) then
    (j103 S23)
    else
    if x30 = (-9 : Int32) then
    (j103 S23)
    else
    (gfI S23 0 7 r0).bind fun x33 =>
    if (64 : Int32) ≤ x33 then
    (j103 S23)
    else
    (gfR S23 0 4 r0).bind fun r34 =>
    (gfI S23 0 7 r0).bind fun x35 =>
    (stI S23 r34 x35 x27).bind fun S36 =>
    (gfR S36 0 5 r0).bind fun r37 =>
    (gfI S36 0 7 r0).bind fun x38 =>
    (stI S36 r37 x38 x30).bind fun S39 =>
    (gfR S39 0 6 r0).bind fun r40 =>
    (gfI S39 0 7 r0).bind fun x41 =>
    (gfR S39 0 2 r0).bind fun r42 =>
    (ldI S39 0 r42 x22).bind fun x43 =>
    (stI S39 r40 x41 x43).bind fun S44 =>
    (gfI S44 0 7 r0).bind fun x45 =>
    (pfV S44 0 7 r0 (.int (x45 + (1 : Int32)))).bind fun S46 =>
    j103 S46
def fX0_joinArrows (N : Nat) (S : pH) (r0 : Option Nat) : Option (pH) :=
  chk S 0 r0 <|
  (pfV S 0 7 r0 (.int (0 : Int32))).bind fun S21 =>
  (lX0_joinArrows_7 N r0 N (0 : Int32) S21).bind fun S51 =>
  some S51
theorem oX0_joinArrows {N : Nat} {S : pH} {r0 : Option Nat} {z : pH} (h : fX0_joinArrows N S r0 = some z) : ∃ fs, obj S 0 r0 = some fs := by
  unfold fX0_joinArrows at h
  exact (chk_spec h).1
set_option maxHeartbeats 1000000 in
set_option maxRecDepth 20000 in
theorem kX0_joinArrows_7 {g : VG} {w : VW} {N : Nat} {r0 : Option Nat} {S0 : pH} (hC : Cx g yX0_joinArrows cX0_joinArrows 4 none rmX0_joinArrows w) : ∀ (n : Nat) (x22 : Int32) (S23 : pH) (z : (pH)), lX0_joinArrows_7 N r0 n x22 S23 = some z → (∀ (e0 : pH), z = e0 → V g w 4 (Qm g w rmX0_joinArrows.cells rmX0_joinArrows.slots none S0) e0 0 0 109 [] []) → V g w 4 (Qm g w rmX0_joinArrows.cells rmX0_joinArrows.slots none S0) S23 0 0 7 [(0, va_rf r0), (1, .int x22)] [] := by
  intro n
  induction n with
  | zero => intro x22 S23 z h; rw [lX0_joinArrows_7] at h; cases h
  | succ n ih =>
    intro x22 S23 z h K
    rw [lX0_joinArrows_7] at h
    refine v_iload_n hC 7 1 dX0_joinArrows_7 rfl ?_
    refine v_aload_n hC 8 0 dX0_joinArrows_8 rfl ?_
    obtain ⟨x24, ex24, h⟩ := obn h
    refine gRX0_21 hC rfl 9 ex24 dX0_joinArrows_9 ?_
    refine v_icmp_ge hC 12 109 dX0_joinArrows_12 (by decide) (fun c50 => ?_) (fun c50 => ?_)
    · replace h := ifp h c50
      refine v_sub [] [] rfl ?_
      exact K _ (sp1 h)
    · replace h := ifn h c50
      refine v_aload_n hC 15 0 dX0_joinArrows_15 rfl ?_
      refine v_aload_n hC 16 0 dX0_joinArrows_16 rfl ?_
      obtain ⟨r25, er25, h⟩ := obn h
      refine gRX0_11 hC rfl 17 er25 dX0_joinArrows_17 ?_
      refine v_iload_n hC 20 1 dX0_joinArrows_20 rfl ?_
      obtain ⟨x26, ex26, h⟩ := obn h
      refine v_iald hC 21 ex26 dX0_joinArrows_21 ?_
      obtain ⟨x27, ex27, h⟩ := obn h
      refine qX0_55 hC rfl 22 ex27 (by decide) (catL (Nat.le_of_ble_eq_true rfl)) (by decide) dX0_joinArrows_22 ?_
      refine v_istore_n hC [(2, .int x27), (0, va_rf r0), (1, .int x22)] 25 dX0_joinArrows_25 (by decide) rfl ?_
      refine v_aload_n hC 26 1 dX0_joinArrows_26 rfl ?_
      refine v_aload_n hC 27 1 dX0_joinArrows_27 rfl ?_
      obtain ⟨r28, er28, h⟩ := obn h
      refine gRX0_15 hC rfl 28 er28 dX0_joinArrows_28 ?_
      refine v_iload_n hC 31 2 dX0_joinArrows_31 rfl ?_
      obtain ⟨x29, ex29, h⟩ := obn h
      refine v_iald hC 32 ex29 dX0_joinArrows_32 ?_
      obtain ⟨x30, ex30, h⟩ := obn h
      refine qX0_55 hC rfl 33 ex30 (by decide) (catL (Nat.le_of_ble_eq_true rfl)) (by decide) dX0_joinArrows_33 ?_
      refine v_istore_n hC [(3, .int x30), (2, .int x27), (0, va_rf r0), (1, .int x22)] 36 dX0_joinArrows_36 (by decide) rfl ?_
      refine v_iload_n hC 37 1 dX0_joinArrows_37 rfl ?_
      refine v_bipush hC (-9 : Int32) 38 dX0_joinArrows_38 (by decide) ?_
      obtain ⟨j103, f103, h⟩ := onm h
      have J103 : ∀ (S31 : pH), j103 S31 = some z → V g w 4 (Qm g w rmX0_joinArrows.cells rmX0_joinArrows.slots none S0) S31 0 0 103 [(0, va_rf r0), (1, .int x22)] [] := by
        intro S31 h
        replace h := jb1 f103 h
        obtain ⟨x32, ex32, h⟩ := onm h
        refine v_iinc hC x32 [(1, .int x32), (0, va_rf r0)] 103 1 dX0_joinArrows_103 rfl (by rw [ex32]; rfl) (by decide) (by first | rfl | (simp [cat_rf, cat_i, cat_j]; done) | (simp [cat_rf, cat_i, cat_j]; decide)) ?_
        refine v_goto hC 106 7 dX0_joinArrows_106 (by decide) ?_
        refine v_sub [(0, va_rf r0), (1, .int x32)] [1, 0] rfl ?_
        exact ih _ _ _ h K
      refine v_icmp_eq hC 40 103 dX0_joinArrows_40 (by decide) (fun c49 => ?_) (fun c49 => ?_)
      · replace h := ifp h c49
        refine v_sub [(0, va_rf r0), (1, .int x22)] [2, 3] rfl ?_
        exact J103 _ h
      · replace h := ifn h c49
        refine v_iload_n hC 43 0 dX0_joinArrows_43 rfl ?_
        refine v_bipush hC (-9 : Int32) 44 dX0_joinArrows_44 (by decide) ?_
        refine v_icmp_eq hC 46 103 dX0_joinArrows_46 (by decide) (fun c48 => ?_) (fun c48 => ?_)
        · replace h := ifp h c48
          refine v_sub [(0, va_rf r0), (1, .int x22)] [2, 3] rfl ?_
          exact J103 _ h
        · replace h := ifn h c48
          refine v_aload_n hC 49 2 dX0_joinArrows_49 rfl ?_
          obtain ⟨x33, ex33, h⟩ := obn h
          refine gRX0_34 hC rfl 50 ex33 dX0_joinArrows_50 ?_
          refine v_bipush hC (64 : Int32) 53 dX0_joinArrows_53 (by decide) ?_
          refine v_icmp_ge hC 55 103 dX0_joinArrows_55 (by decide) (fun c47 => ?_) (fun c47 => ?_)
          · replace h := ifp h c47
            refine v_sub [(0, va_rf r0), (1, .int x22)] [2, 3] rfl ?_
            exact J103 _ h
          · replace h := ifn h c47
            refine v_aload_n hC 58 2 dX0_joinArrows_58 rfl ?_
            obtain ⟨r34, er34, h⟩ := obn h
            refine gRX0_25 hC rfl 59 er34 dX0_joinArrows_59 ?_
            refine v_aload_n hC 62 2 dX0_joinArrows_62 rfl ?_
            obtain ⟨x35, ex35, h⟩ := obn h
            refine gRX0_34 hC rfl 63 ex35 dX0_joinArrows_63 ?_
            refine v_iload_n hC 66 1 dX0_joinArrows_66 rfl ?_
            obtain ⟨S36, eS36, h⟩ := obn h
            refine v_iast hC 67 eS36 dX0_joinArrows_67 ?_
            refine v_aload_n hC 68 2 dX0_joinArrows_68 rfl ?_
            obtain ⟨r37, er37, h⟩ := obn h
            refine gRX0_28 hC rfl 69 er37 dX0_joinArrows_69 ?_
            refine v_aload_n hC 72 2 dX0_joinArrows_72 rfl ?_
            obtain ⟨x38, ex38, h⟩ := obn h
            refine gRX0_34 hC rfl 73 ex38 dX0_joinArrows_73 ?_
            refine v_iload_n hC 76 0 dX0_joinArrows_76 rfl ?_
            obtain ⟨S39, eS39, h⟩ := obn h
            refine v_iast hC 77 eS39 dX0_joinArrows_77 ?_
            refine v_aload_n hC 78 2 dX0_joinArrows_78 rfl ?_
            obtain ⟨r40, er40, h⟩ := obn h
            refine gRX0_31 hC rfl 79 er40 dX0_joinArrows_79 ?_
            refine v_aload_n hC 82 2 dX0_joinArrows_82 rfl ?_
            obtain ⟨x41, ex41, h⟩ := obn h
            refine gRX0_34 hC rfl 83 ex41 dX0_joinArrows_83 ?_
            refine v_aload_n hC 86 2 dX0_joinArrows_86 rfl ?_
            obtain ⟨r42, er42, h⟩ := obn h
            refine gRX0_18 hC rfl 87 er42 dX0_joinArrows_87 ?_
            refine v_iload_n hC 90 3 dX0_joinArrows_90 rfl ?_
            obtain ⟨x43, ex43, h⟩ := obn h
            refine v_iald hC 91 ex43 dX0_joinArrows_91 ?_
            obtain ⟨S44, eS44, h⟩ := obn h
            refine v_iast hC 92 eS44 dX0_joinArrows_92 ?_
            refine v_aload_n hC 93 2 dX0_joinArrows_93 rfl ?_
            refine v_dup hC 94 (cat_rf _) dX0_joinArrows_94 ?_
            obtain ⟨x45, ex45, h⟩ := obn h
            refine gRX0_34 hC rfl 95 ex45 dX0_joinArrows_95 ?_
            refine v_iconst hC (1 : Int32) 98 dX0_joinArrows_98 (by decide) ?_
            refine v_iadd hC 99 dX0_joinArrows_99 ?_
            obtain ⟨S46, eS46, h⟩ := obn h
            refine pRX0_34 hC rfl 100 eS46 dX0_joinArrows_100 ?_
            refine v_sub [(0, va_rf r0), (1, .int x22)] [2, 3] rfl ?_
            exact J103 _ h
set_option maxHeartbeats 1000000 in
set_option maxRecDepth 20000 in
theorem tX0_joinArrows {l : Launch} {w : VW} {N : Nat} {S : pH} {r0 : Option Nat} {S0 : pH} (h : fX0_joinArrows N S r0 = some S0) : CT l w yX0_joinArrows cX0_joinArrows 4 none rmX0_joinArrows [va_rf r0] S none S0 := by
  refine v_entry [(0, va_rf r0)] (by decide) (by simp [lg_sl, cat_rf, cat_i, cat_j]) (by simp [lv_args, cat_rf, cat_i, cat_j]) (fun g _ hC => ?_)
  unfold fX0_joinArrows at h
  obtain ⟨hO, h⟩ := chk_spec h
  refine v_aload_n hC 0 0 dX0_joinArrows_0 rfl ?_
  refine v_iconst hC (0 : Int32) 1 dX0_joinArrows_1 (by decide) ?_
  obtain ⟨S21, eS21, h⟩ := obn h
  refine pRX0_34 hC rfl 2 eS21 dX0_joinArrows_2 ?_
  refine v_iconst hC (0 : Int32) 5 dX0_joinArrows_5 (by decide) ?_
  refine v_istore_n hC [(1, .int (0 : Int32)), (0, va_rf r0)] 6 dX0_joinArrows_6 (by decide) (by first | rfl | (simp [cat_rf, cat_i, cat_j]; done) | (simp [cat_rf, cat_i, cat_j]; decide)) ?_
  obtain ⟨S51, E7, h⟩ := obn h
  refine v_sub [(0, va_rf r0), (1, .int (0 : Int32))] [1, 0] rfl ?_
  refine kX0_joinArrows_7 hC _ _ _ _ E7 (fun _ hz9 => ?_)
  cases hz9
  obtain rfl := sp1 h
  exact v_vret hC 109 (by decide) (by decide) dX0_joinArrows_109
set_option maxRecDepth 20000 in
theorem qX0_52 {g : VG} {w : VW} {nL : Nat} {Q : State → Prop} {S : pH} {kc ks : Nat} {lv : List (Nat × Value)} {rest : List Value} {y : MethodName} {cc : ByteArray} {rt : Option FieldType} {rm : Room} (hC : Cx g y cc nL rt rm w) (hy : y.cls = RX0) (pc : Nat) {N : Nat} {r0 : Option Nat} {S0 : pH} (h : fX0_joinArrows N S r0 = some S0) (hR : rmX0_joinArrows.frames + 1 ≤ rm.frames ∧ 8 + (4 + 11) + rmX0_joinArrows.locals ≤ rm.locals) (hst : (rest.map fun v => v.category).sum ≤ 8) (hf : kc + 0 ≤ rm.cells ∧ ks + 0 ≤ rm.slots) (d : decode cc pc = .ok (.invokevirtual 52, 3)) (K : V g w nL Q S0 kc ks (pc + 3) lv (rest)) : V g w nL Q S kc ks pc lv (va_rf r0 :: rest) := by
  obtain ⟨fs, ho⟩ := oX0_joinArrows h
  exact v_callV (As := []) (rest := rest) (ci := 0) hC pc (tX0_joinArrows (l := g.2.1) (w := w) h) rfl (by decide) ho wG184 (by rw [hy]; exact wG183) wG185 wG186 wG119 hdX0_joinArrows rfl hR hst hf d K
set_option maxRecDepth 20000 in
theorem qX0_73 {g : VG} {w : VW} {nL : Nat} {Q : State → Prop} {S : pH} {kc ks : Nat} {lv : List (Nat × Value)} {rest : List Value} {y : MethodName} {cc : ByteArray} {rt : Option FieldType} {rm : Room} (hC : Cx g y cc nL rt rm w) (hy : y.cls = RX0) (pc : Nat) {N : Nat} {r0 : Option Nat} {x1 : Int32} {x2 : Int32} {v0 : Int32} {S0 : pH} (h : fX0_cheapestFrom N S r0 x1 x2 = some (v0, S0)) (hR : rmX0_cheapestFrom.frames + 1 ≤ rm.frames ∧ 8 + (5 + 11) + rmX0_cheapestFrom.locals ≤ rm.locals) (hst : (rest.map fun v => v.category).sum ≤ 8) (hf : kc + 0 ≤ rm.cells ∧ ks + 0 ≤ rm.slots) (d : decode cc pc = .ok (.invokevirtual 73, 3)) (K : V g w nL Q S0 kc ks (pc + 3) lv (.int v0 :: rest)) : V g w nL Q S kc ks pc lv (.int x2 :: .int x1 :: va_rf r0 :: rest) := by
  obtain ⟨fs, ho⟩ := oX0_cheapestFrom h
  exact v_callV (As := [.int x1, .int x2]) (rest := rest) (ci := 0) hC pc (tX0_cheapestFrom (l := g.2.1) (w := w) h) rfl (by decide) ho wG188 (by rw [hy]; exact wG187) wG189 wG190 wG119 hdX0_cheapestFrom rfl hR hst hf d K
abbrev rmX0_cheapest : Room := { frames := 2, cells := 0, slots := 0, locals := 47 }
theorem hdX0_cheapest : yX0_cheapest.cls ≠ "java/lang/invoke/MethodHandle" ∧ yX0_cheapest.cls ≠ "java/lang/invoke/VarHandle" ∧ (parseMethodDescriptor yX0_cheapest.desc).map (fun d => d.parameters.length) = some 1 := by decide +kernel
def lX0_cheapest_9 (N : Nat) (r0 : Option Nat) (x1 : Int32) : Nat → Int32 → Int32 → pH → Option (Int32 × pH)
  | 0, _, _, _ => none
  | n + 1, x22, x23, S24 =>
    (gfI S24 0 3 r0).bind fun x25 =>
    if x25 ≤ x23 then
    (some (x22, S24))
    else
    (gfR S24 0 0 r0).bind fun r26 =>
    (ldI S24 0 r26 x23).bind fun x27 =>
    (fX0_columnOf N S24 r0 x27).bind fun x28 =>
    nm (fun (x29 : Int32) (S30 : pH) =>
    nm (x23 + (1 : Int32)) fun x31 =>
    lX0_cheapest_9 N r0 x1 n x29 x31 S30) fun j42 =>
    if ¬ x28 = x23 then
    (j42 x22 S24)
    else
    b2 (fX0_cheapestFrom N S24 r0 x23 x1) fun x32 S33 =>
    nm (mmin x22 x32) fun x34 =>
    j42 x34 S33
def fX0_cheapest (N : Nat) (S : pH) (r0 : Option Nat) (x1 : Int32) : Option (Int32 × pH) :=
  chk S 0 r0 <|
  (fX0_joinArrows N S r0).bind fun S21 =>
  b2 (lX0_cheapest_9 N r0 x1 N (1000000000 : Int32) (0 : Int32) S21) fun x37 S38 =>
  if (1000000000 : Int32) ≤ x37 then
  (some ((-9 : Int32), S38))
  else
  some (x37, S38)
theorem oX0_cheapest {N : Nat} {S : pH} {r0 : Option Nat} {x1 : Int32} {z : Int32 × pH} (h : fX0_cheapest N S r0 x1 = some z) : ∃ fs, obj S 0 r0 = some fs := by
  unfold fX0_cheapest at h
  exact (chk_spec h).1
set_option maxHeartbeats 1000000 in
set_option maxRecDepth 20000 in
theorem kX0_cheapest_9 {g : VG} {w : VW} {N : Nat} {r0 : Option Nat} {x1 : Int32} {v0 : Int32} {S0 : pH} (hC : Cx g yX0_cheapest cX0_cheapest 4 (some .int) rmX0_cheapest w) : ∀ (n : Nat) (x22 : Int32) (x23 : Int32) (S24 : pH) (z : (Int32 × pH)), lX0_cheapest_9 N r0 x1 n x22 x23 S24 = some z → (∀ (e0 : Int32) (e1 : pH), z = (e0, e1) → V g w 4 (Qm g w rmX0_cheapest.cells rmX0_cheapest.slots (some (.int v0)) S0) e1 0 0 48 [(2, .int e0)] []) → V g w 4 (Qm g w rmX0_cheapest.cells rmX0_cheapest.slots (some (.int v0)) S0) S24 0 0 9 [(0, va_rf r0), (1, .int x1), (2, .int x22), (3, .int x23)] [] := by
  intro n
  induction n with
  | zero => intro x22 x23 S24 z h; rw [lX0_cheapest_9] at h; cases h
  | succ n ih =>
    intro x22 x23 S24 z h K
    rw [lX0_cheapest_9] at h
    refine v_iload_n hC 9 3 dX0_cheapest_9 rfl ?_
    refine v_aload_n hC 10 0 dX0_cheapest_10 rfl ?_
    obtain ⟨x25, ex25, h⟩ := obn h
    refine gRX0_21 hC rfl 11 ex25 dX0_cheapest_11 ?_
    refine v_icmp_ge hC 14 48 dX0_cheapest_14 (by decide) (fun c36 => ?_) (fun c36 => ?_)
    · replace h := ifp h c36
      refine v_sub [(2, .int x22)] [2] rfl ?_
      exact K _ _ (sp1 h)
    · replace h := ifn h c36
      refine v_aload_n hC 17 0 dX0_cheapest_17 rfl ?_
      refine v_aload_n hC 18 0 dX0_cheapest_18 rfl ?_
      obtain ⟨r26, er26, h⟩ := obn h
      refine gRX0_11 hC rfl 19 er26 dX0_cheapest_19 ?_
      refine v_iload_n hC 22 3 dX0_cheapest_22 rfl ?_
      obtain ⟨x27, ex27, h⟩ := obn h
      refine v_iald hC 23 ex27 dX0_cheapest_23 ?_
      obtain ⟨x28, ex28, h⟩ := obn h
      refine qX0_55 hC rfl 24 ex28 (by decide) (catL (Nat.le_of_ble_eq_true rfl)) (by decide) dX0_cheapest_24 ?_
      refine v_iload_n hC 27 3 dX0_cheapest_27 rfl ?_
      obtain ⟨j42, f42, h⟩ := onm h
      have J42 : ∀ (x29 : Int32) (S30 : pH), j42 x29 S30 = some z → V g w 4 (Qm g w rmX0_cheapest.cells rmX0_cheapest.slots (some (.int v0)) S0) S30 0 0 42 [(0, va_rf r0), (1, .int x1), (2, .int x29), (3, .int x23)] [] := by
        intro x29 S30 h
        replace h := jb2 f42 h
        obtain ⟨x31, ex31, h⟩ := onm h
        refine v_iinc hC x31 [(3, .int x31), (0, va_rf r0), (1, .int x1), (2, .int x29)] 42 3 dX0_cheapest_42 rfl (by rw [ex31]; rfl) (by decide) rfl ?_
        refine v_goto hC 45 9 dX0_cheapest_45 (by decide) ?_
        refine v_sub [(0, va_rf r0), (1, .int x1), (2, .int x29), (3, .int x31)] [1, 2, 3, 0] rfl ?_
        exact ih _ _ _ _ h K
      refine v_icmp_ne hC 28 42 dX0_cheapest_28 (by decide) (fun c35 => ?_) (fun c35 => ?_)
      · replace h := ifp h c35
        refine v_sub [(0, va_rf r0), (1, .int x1), (2, .int x22), (3, .int x23)] [0, 1, 2, 3] rfl ?_
        exact J42 _ _ h
      · replace h := ifn h (fun q => q c35)
        refine v_iload_n hC 31 2 dX0_cheapest_31 rfl ?_
        refine v_aload_n hC 32 0 dX0_cheapest_32 rfl ?_
        refine v_iload_n hC 33 3 dX0_cheapest_33 rfl ?_
        refine v_iload_n hC 34 1 dX0_cheapest_34 rfl ?_
        obtain ⟨x32, S33, ex32, h⟩ := ob2 h
        refine qX0_73 hC rfl 35 ex32 (by decide) (catL (Nat.le_of_ble_eq_true rfl)) (by decide) dX0_cheapest_35 ?_
        refine v_mmin hC 38 wG11 wG12 wG13 wG14 (by decide) (Nat.le_of_ble_eq_true rfl) (by decide) (by decide) dX0_cheapest_38 ?_
        obtain ⟨x34, ex34, h⟩ := onm h
        refine v_topi x34 ex34 ?_
        refine v_istore_n hC [(2, .int x34), (0, va_rf r0), (1, .int x1), (3, .int x23)] 41 dX0_cheapest_41 (by decide) rfl ?_
        refine v_sub [(0, va_rf r0), (1, .int x1), (2, .int x34), (3, .int x23)] [1, 2, 0, 3] rfl ?_
        exact J42 _ _ h
set_option maxHeartbeats 1000000 in
set_option maxRecDepth 20000 in
theorem tX0_cheapest {l : Launch} {w : VW} {N : Nat} {S : pH} {r0 : Option Nat} {x1 : Int32} {v0 : Int32} {S0 : pH} (h : fX0_cheapest N S r0 x1 = some (v0, S0)) : CT l w yX0_cheapest cX0_cheapest 4 (some .int) rmX0_cheapest [va_rf r0, .int x1] S (some (.int v0)) S0 := by
  refine v_entry [(0, va_rf r0), (1, .int x1)] (by decide) (by simp [lg_sl, cat_rf, cat_i, cat_j]) (by simp [lv_args, cat_rf, cat_i, cat_j]) (fun g _ hC => ?_)
  unfold fX0_cheapest at h
  obtain ⟨hO, h⟩ := chk_spec h
  refine v_aload_n hC 0 0 dX0_cheapest_0 rfl ?_
  obtain ⟨S21, eS21, h⟩ := obn h
  refine qX0_52 hC rfl 1 eS21 (by decide) (catL (Nat.le_of_ble_eq_true rfl)) (by decide) dX0_cheapest_1 ?_
  refine v_ldc hC (v := (1000000000 : Int32)) 4 wG6 dX0_cheapest_4 ?_
  refine v_istore_n hC [(2, .int (1000000000 : Int32)), (0, va_rf r0), (1, .int x1)] 6 dX0_cheapest_6 (by decide) rfl ?_
  refine v_iconst hC (0 : Int32) 7 dX0_cheapest_7 (by decide) ?_
  refine v_istore_n hC [(3, .int (0 : Int32)), (2, .int (1000000000 : Int32)), (0, va_rf r0), (1, .int x1)] 8 dX0_cheapest_8 (by decide) rfl ?_
  obtain ⟨x37, S38, E9, h⟩ := ob2 h
  refine v_sub [(0, va_rf r0), (1, .int x1), (2, .int (1000000000 : Int32)), (3, .int (0 : Int32))] [2, 3, 1, 0] rfl ?_
  refine kX0_cheapest_9 hC _ _ _ _ _ E9 (fun _ _ hz9 => ?_)
  cases hz9
  refine v_iload_n hC 48 0 dX0_cheapest_48 rfl ?_
  refine v_ldc hC (v := (1000000000 : Int32)) 49 wG6 dX0_cheapest_49 ?_
  refine v_icmp_ge hC 51 58 dX0_cheapest_51 (by decide) (fun c39 => ?_) (fun c39 => ?_)
  · replace h := ifp h c39
    refine v_bipush hC (-9 : Int32) 58 dX0_cheapest_58 (by decide) ?_
    obtain ⟨rfl, rfl⟩ := sp2 h
    exact v_iret hC 60 (by decide) (by decide) dX0_cheapest_60
  · replace h := ifn h c39
    refine v_iload_n hC 54 0 dX0_cheapest_54 rfl ?_
    refine v_goto hC 55 60 dX0_cheapest_55 (by decide) ?_
    obtain ⟨rfl, rfl⟩ := sp2 h
    exact v_iret hC 60 (by decide) (by decide) dX0_cheapest_60
abbrev rmX0_forget : Room := { frames := 0, cells := 0, slots := 0, locals := 0 }
theorem hdX0_forget : yX0_forget.cls ≠ "java/lang/invoke/MethodHandle" ∧ yX0_forget.cls ≠ "java/lang/invoke/VarHandle" ∧ (parseMethodDescriptor yX0_forget.desc).map (fun d => d.parameters.length) = some 0 := by decide +kernel
def fX0_forget (N : Nat) (S : pH) (r0 : Option Nat) : Option (pH) :=
  chk S 0 r0 <|
  (pfV S 0 3 r0 (.int (0 : Int32))).bind fun S21 =>
  (pfV S21 0 7 r0 (.int (0 : Int32))).bind fun S22 =>
  some S22
theorem oX0_forget {N : Nat} {S : pH} {r0 : Option Nat} {z : pH} (h : fX0_forget N S r0 = some z) : ∃ fs, obj S 0 r0 = some fs := by
  unfold fX0_forget at h
  exact (chk_spec h).1
set_option maxHeartbeats 1000000 in
set_option maxRecDepth 20000 in
theorem tX0_forget {l : Launch} {w : VW} {N : Nat} {S : pH} {r0 : Option Nat} {S0 : pH} (h : fX0_forget N S r0 = some S0) : CT l w yX0_forget cX0_forget 1 none rmX0_forget [va_rf r0] S none S0 := by
  refine v_entry [(0, va_rf r0)] (by decide) (by simp [lg_sl, cat_rf, cat_i, cat_j]) (by simp [lv_args, cat_rf, cat_i, cat_j]) (fun g _ hC => ?_)
  unfold fX0_forget at h
  obtain ⟨hO, h⟩ := chk_spec h
  refine v_aload_n hC 0 0 dX0_forget_0 rfl ?_
  refine v_iconst hC (0 : Int32) 1 dX0_forget_1 (by decide) ?_
  obtain ⟨S21, eS21, h⟩ := obn h
  refine pRX0_21 hC rfl 2 eS21 dX0_forget_2 ?_
  refine v_aload_n hC 5 0 dX0_forget_5 rfl ?_
  refine v_iconst hC (0 : Int32) 6 dX0_forget_6 (by decide) ?_
  obtain ⟨S22, eS22, h⟩ := obn h
  refine pRX0_34 hC rfl 7 eS22 dX0_forget_7 ?_
  obtain rfl := sp1 h
  exact v_vret hC 10 (by decide) (by decide) dX0_forget_10
abbrev rmX0_init : Room := { frames := 1, cells := 8, slots := 512, locals := 12 }
theorem hdX0_init : yX0_init.cls ≠ "java/lang/invoke/MethodHandle" ∧ yX0_init.cls ≠ "java/lang/invoke/VarHandle" ∧ (parseMethodDescriptor yX0_init.desc).map (fun d => d.parameters.length) = some 0 := by decide +kernel
def fX0_init (N : Nat) (b : Nat) (S : pH) (r0 : Option Nat) : Option (pH) :=
  chk S 0 r0 <|
  nm (b + S.1) fun q21 =>
  nm (puS b S (pI 64 (fun _ => 0))) fun S22 =>
  (pfV S22 0 0 r0 (va_rf (some q21))).bind fun S23 =>
  nm (b + S23.1) fun q24 =>
  nm (puS b S23 (pI 64 (fun _ => 0))) fun S25 =>
  (pfV S25 0 1 r0 (va_rf (some q24))).bind fun S26 =>
  nm (b + S26.1) fun q27 =>
  nm (puS b S26 (pI 64 (fun _ => 0))) fun S28 =>
  (pfV S28 0 2 r0 (va_rf (some q27))).bind fun S29 =>
  (pfV S29 0 3 r0 (.int (0 : Int32))).bind fun S30 =>
  nm (b + S30.1) fun q31 =>
  nm (puS b S30 (pI 64 (fun _ => 0))) fun S32 =>
  (pfV S32 0 4 r0 (va_rf (some q31))).bind fun S33 =>
  nm (b + S33.1) fun q34 =>
  nm (puS b S33 (pI 64 (fun _ => 0))) fun S35 =>
  (pfV S35 0 5 r0 (va_rf (some q34))).bind fun S36 =>
  nm (b + S36.1) fun q37 =>
  nm (puS b S36 (pI 64 (fun _ => 0))) fun S38 =>
  (pfV S38 0 6 r0 (va_rf (some q37))).bind fun S39 =>
  (pfV S39 0 7 r0 (.int (0 : Int32))).bind fun S40 =>
  nm (b + S40.1) fun q41 =>
  nm (puS b S40 (pI 64 (fun _ => 0))) fun S42 =>
  (pfV S42 0 8 r0 (va_rf (some q41))).bind fun S43 =>
  nm (b + S43.1) fun q44 =>
  nm (puS b S43 (pI 64 (fun _ => 0))) fun S45 =>
  (pfV S45 0 9 r0 (va_rf (some q44))).bind fun S46 =>
  some S46
theorem oX0_init {b : Nat} {N : Nat} {S : pH} {r0 : Option Nat} {z : pH} (h : fX0_init N b S r0 = some z) : ∃ fs, obj S 0 r0 = some fs := by
  unfold fX0_init at h
  exact (chk_spec h).1
set_option maxHeartbeats 1000000 in
set_option maxRecDepth 20000 in
theorem tX0_init {l : Launch} {w : VW} {N : Nat} {S : pH} {r0 : Option Nat} {S0 : pH} (h : fX0_init N w.2.2 S r0 = some S0) : CT l w yX0_init cX0_init 1 none rmX0_init [va_rf r0] S none S0 := by
  refine v_entry [(0, va_rf r0)] (by decide) (by simp [lg_sl, cat_rf, cat_i, cat_j]) (by simp [lv_args, cat_rf, cat_i, cat_j]) (fun g _ hC => ?_)
  unfold fX0_init at h
  obtain ⟨hO, h⟩ := chk_spec h
  refine v_aload_n hC 0 0 dX0_init_0 rfl ?_
  refine v_objInit hC 1 wG19 wG20 wG21 (chk_ne hO) (by decide) (by simp [cat_rf, cat_i, cat_j]) dX0_init_1 ?_
  refine v_aload_n hC 4 0 dX0_init_4 rfl ?_
  refine v_bipush hC (64 : Int32) 5 dX0_init_5 (by decide) ?_
  obtain ⟨q21, eq21, h⟩ := onm h
  obtain ⟨S22, eS22, h⟩ := onm h
  refine v_newI hC 64 7 wG22 (by decide) (by decide) (by decide) (by decide) (by decide) dX0_init_7 ?_
  refine v_nw eq21 eS22 ?_
  obtain ⟨S23, eS23, h⟩ := obn h
  refine pRX0_11 hC rfl 9 rfl eS23 dX0_init_9 ?_
  refine v_aload_n hC 12 0 dX0_init_12 rfl ?_
  refine v_bipush hC (64 : Int32) 13 dX0_init_13 (by decide) ?_
  obtain ⟨q24, eq24, h⟩ := onm h
  obtain ⟨S25, eS25, h⟩ := onm h
  refine v_newI hC 64 15 wG22 (by decide) (by decide) (by decide) (by decide) (by decide) dX0_init_15 ?_
  refine v_nw eq24 eS25 ?_
  obtain ⟨S26, eS26, h⟩ := obn h
  refine pRX0_15 hC rfl 17 rfl eS26 dX0_init_17 ?_
  refine v_aload_n hC 20 0 dX0_init_20 rfl ?_
  refine v_bipush hC (64 : Int32) 21 dX0_init_21 (by decide) ?_
  obtain ⟨q27, eq27, h⟩ := onm h
  obtain ⟨S28, eS28, h⟩ := onm h
  refine v_newI hC 64 23 wG22 (by decide) (by decide) (by decide) (by decide) (by decide) dX0_init_23 ?_
  refine v_nw eq27 eS28 ?_
  obtain ⟨S29, eS29, h⟩ := obn h
  refine pRX0_18 hC rfl 25 rfl eS29 dX0_init_25 ?_
  refine v_aload_n hC 28 0 dX0_init_28 rfl ?_
  refine v_iconst hC (0 : Int32) 29 dX0_init_29 (by decide) ?_
  obtain ⟨S30, eS30, h⟩ := obn h
  refine pRX0_21 hC rfl 30 eS30 dX0_init_30 ?_
  refine v_aload_n hC 33 0 dX0_init_33 rfl ?_
  refine v_bipush hC (64 : Int32) 34 dX0_init_34 (by decide) ?_
  obtain ⟨q31, eq31, h⟩ := onm h
  obtain ⟨S32, eS32, h⟩ := onm h
  refine v_newI hC 64 36 wG22 (by decide) (by decide) (by decide) (by decide) (by decide) dX0_init_36 ?_
  refine v_nw eq31 eS32 ?_
  obtain ⟨S33, eS33, h⟩ := obn h
  refine pRX0_25 hC rfl 38 rfl eS33 dX0_init_38 ?_
  refine v_aload_n hC 41 0 dX0_init_41 rfl ?_
  refine v_bipush hC (64 : Int32) 42 dX0_init_42 (by decide) ?_
  obtain ⟨q34, eq34, h⟩ := onm h
  obtain ⟨S35, eS35, h⟩ := onm h
  refine v_newI hC 64 44 wG22 (by decide) (by decide) (by decide) (by decide) (by decide) dX0_init_44 ?_
  refine v_nw eq34 eS35 ?_
  obtain ⟨S36, eS36, h⟩ := obn h
  refine pRX0_28 hC rfl 46 rfl eS36 dX0_init_46 ?_
  refine v_aload_n hC 49 0 dX0_init_49 rfl ?_
  refine v_bipush hC (64 : Int32) 50 dX0_init_50 (by decide) ?_
  obtain ⟨q37, eq37, h⟩ := onm h
  obtain ⟨S38, eS38, h⟩ := onm h
  refine v_newI hC 64 52 wG22 (by decide) (by decide) (by decide) (by decide) (by decide) dX0_init_52 ?_
  refine v_nw eq37 eS38 ?_
  obtain ⟨S39, eS39, h⟩ := obn h
  refine pRX0_31 hC rfl 54 rfl eS39 dX0_init_54 ?_
  refine v_aload_n hC 57 0 dX0_init_57 rfl ?_
  refine v_iconst hC (0 : Int32) 58 dX0_init_58 (by decide) ?_
  obtain ⟨S40, eS40, h⟩ := obn h
  refine pRX0_34 hC rfl 59 eS40 dX0_init_59 ?_
  refine v_aload_n hC 62 0 dX0_init_62 rfl ?_
  refine v_bipush hC (64 : Int32) 63 dX0_init_63 (by decide) ?_
  obtain ⟨q41, eq41, h⟩ := onm h
  obtain ⟨S42, eS42, h⟩ := onm h
  refine v_newI hC 64 65 wG22 (by decide) (by decide) (by decide) (by decide) (by decide) dX0_init_65 ?_
  refine v_nw eq41 eS42 ?_
  obtain ⟨S43, eS43, h⟩ := obn h
  refine pRX0_37 hC rfl 67 eS43 dX0_init_67 ?_
  refine v_aload_n hC 70 0 dX0_init_70 rfl ?_
  refine v_bipush hC (64 : Int32) 71 dX0_init_71 (by decide) ?_
  obtain ⟨q44, eq44, h⟩ := onm h
  obtain ⟨S45, eS45, h⟩ := onm h
  refine v_newI hC 64 73 wG22 (by decide) (by decide) (by decide) (by decide) (by decide) dX0_init_73 ?_
  refine v_nw eq44 eS45 ?_
  obtain ⟨S46, eS46, h⟩ := obn h
  refine pRX0_40 hC rfl 75 eS46 dX0_init_75 ?_
  obtain rfl := sp1 h
  exact v_vret hC 78 (by decide) (by decide) dX0_init_78
abbrev rmX5_has : Room := { frames := 0, cells := 0, slots := 0, locals := 0 }
theorem hdX5_has : yX5_has.cls ≠ "java/lang/invoke/MethodHandle" ∧ yX5_has.cls ≠ "java/lang/invoke/VarHandle" ∧ (parseMethodDescriptor yX5_has.desc).map (fun d => d.parameters.length) = some 2 := by decide +kernel
def fX5_has (N : Nat) (S : pH) (r0 : Option Nat) (x1 : Int32) (x2 : Int32) : Option (Int32) :=
  chk S 5 r0 <|
  if x1 < 0 then
  (some (0 : Int32))
  else
  (gfI S 5 1 r0).bind fun x21 =>
  if x21 ≤ x1 then
  (some (0 : Int32))
  else
  if x2 < 0 then
  (some (0 : Int32))
  else
  (gfI S 5 1 r0).bind fun x22 =>
  if x22 ≤ x2 then
  (some (0 : Int32))
  else
  some (1 : Int32)
theorem oX5_has {N : Nat} {S : pH} {r0 : Option Nat} {x1 : Int32} {x2 : Int32} {z : Int32} (h : fX5_has N S r0 x1 x2 = some z) : ∃ fs, obj S 5 r0 = some fs := by
  unfold fX5_has at h
  exact (chk_spec h).1
set_option maxHeartbeats 1000000 in
set_option maxRecDepth 20000 in
theorem tX5_has {l : Launch} {w : VW} {N : Nat} {S : pH} {r0 : Option Nat} {x1 : Int32} {x2 : Int32} {v0 : Int32} (h : fX5_has N S r0 x1 x2 = some v0) : CT l w yX5_has cX5_has 3 (some .boolean) rmX5_has [va_rf r0, .int x1, .int x2] S (some (.int v0)) S := by
  refine v_entry [(0, va_rf r0), (1, .int x1), (2, .int x2)] (by decide) (by simp [lg_sl, cat_rf, cat_i, cat_j]) (by simp [lv_args, cat_rf, cat_i, cat_j]) (fun g _ hC => ?_)
  unfold fX5_has at h
  obtain ⟨hO, h⟩ := chk_spec h
  refine v_iload_n hC 0 1 dX5_has_0 rfl ?_
  refine v_if_lt hC 1 28 dX5_has_1 (by decide) (fun c26 => ?_) (fun c26 => ?_)
  · replace h := ifp h c26
    refine v_iconst hC (0 : Int32) 28 dX5_has_28 (by decide) ?_
    obtain rfl := sp1 h
    exact v_zret hC 29 (by decide) (by decide) (by decide) dX5_has_29
  · replace h := ifn h c26
    refine v_iload_n hC 4 1 dX5_has_4 rfl ?_
    refine v_aload_n hC 5 0 dX5_has_5 rfl ?_
    obtain ⟨x21, ex21, h⟩ := obn h
    refine gRX5_24 hC rfl 6 ex21 dX5_has_6 ?_
    refine v_icmp_ge hC 9 28 dX5_has_9 (by decide) (fun c25 => ?_) (fun c25 => ?_)
    · replace h := ifp h c25
      refine v_iconst hC (0 : Int32) 28 dX5_has_28 (by decide) ?_
      obtain rfl := sp1 h
      exact v_zret hC 29 (by decide) (by decide) (by decide) dX5_has_29
    · replace h := ifn h c25
      refine v_iload_n hC 12 2 dX5_has_12 rfl ?_
      refine v_if_lt hC 13 28 dX5_has_13 (by decide) (fun c24 => ?_) (fun c24 => ?_)
      · replace h := ifp h c24
        refine v_iconst hC (0 : Int32) 28 dX5_has_28 (by decide) ?_
        obtain rfl := sp1 h
        exact v_zret hC 29 (by decide) (by decide) (by decide) dX5_has_29
      · replace h := ifn h c24
        refine v_iload_n hC 16 2 dX5_has_16 rfl ?_
        refine v_aload_n hC 17 0 dX5_has_17 rfl ?_
        obtain ⟨x22, ex22, h⟩ := obn h
        refine gRX5_24 hC rfl 18 ex22 dX5_has_18 ?_
        refine v_icmp_ge hC 21 28 dX5_has_21 (by decide) (fun c23 => ?_) (fun c23 => ?_)
        · replace h := ifp h c23
          refine v_iconst hC (0 : Int32) 28 dX5_has_28 (by decide) ?_
          obtain rfl := sp1 h
          exact v_zret hC 29 (by decide) (by decide) (by decide) dX5_has_29
        · replace h := ifn h c23
          refine v_iconst hC (1 : Int32) 24 dX5_has_24 (by decide) ?_
          refine v_goto hC 25 29 dX5_has_25 (by decide) ?_
          obtain rfl := sp1 h
          exact v_zret hC 29 (by decide) (by decide) (by decide) dX5_has_29
set_option maxRecDepth 20000 in
theorem qX5_43 {g : VG} {w : VW} {nL : Nat} {Q : State → Prop} {S : pH} {kc ks : Nat} {lv : List (Nat × Value)} {rest : List Value} {y : MethodName} {cc : ByteArray} {rt : Option FieldType} {rm : Room} (hC : Cx g y cc nL rt rm w) (hy : y.cls = RX5) (pc : Nat) {N : Nat} {r0 : Option Nat} {x1 : Int32} {x2 : Int32} {v0 : Int32} (h : fX5_has N S r0 x1 x2 = some v0) (hR : rmX5_has.frames + 1 ≤ rm.frames ∧ 8 + (3 + 11) + rmX5_has.locals ≤ rm.locals) (hst : (rest.map fun v => v.category).sum ≤ 8) (hf : kc + 0 ≤ rm.cells ∧ ks + 0 ≤ rm.slots) (d : decode cc pc = .ok (.invokevirtual 43, 3)) (K : V g w nL Q S kc ks (pc + 3) lv (.int v0 :: rest)) : V g w nL Q S kc ks pc lv (.int x2 :: .int x1 :: va_rf r0 :: rest) := by
  obtain ⟨fs, ho⟩ := oX5_has h
  exact v_callV (As := [.int x1, .int x2]) (rest := rest) (ci := 5) hC pc (tX5_has (l := g.2.1) (w := w) h) rfl (by decide) ho wG192 (by rw [hy]; exact wG191) wG193 wG194 wG62 hdX5_has rfl hR hst hf d K
abbrev rmX5_at : Room := { frames := 1, cells := 0, slots := 0, locals := 22 }
theorem hdX5_at : yX5_at.cls ≠ "java/lang/invoke/MethodHandle" ∧ yX5_at.cls ≠ "java/lang/invoke/VarHandle" ∧ (parseMethodDescriptor yX5_at.desc).map (fun d => d.parameters.length) = some 2 := by decide +kernel
def fX5_at (N : Nat) (S : pH) (r0 : Option Nat) (x1 : Int32) (x2 : Int32) : Option (Int32) :=
  chk S 5 r0 <|
  (fX5_has N S r0 x1 x2).bind fun x21 =>
  if x21 = 0 then
  (some (0 : Int32))
  else
  (gfR S 5 0 r0).bind fun r22 =>
  (ldI S 0 r22 ((x2 * (8 : Int32)) + x1)).bind fun x23 =>
  some x23
theorem oX5_at {N : Nat} {S : pH} {r0 : Option Nat} {x1 : Int32} {x2 : Int32} {z : Int32} (h : fX5_at N S r0 x1 x2 = some z) : ∃ fs, obj S 5 r0 = some fs := by
  unfold fX5_at at h
  exact (chk_spec h).1
set_option maxHeartbeats 1000000 in
set_option maxRecDepth 20000 in
theorem tX5_at {l : Launch} {w : VW} {N : Nat} {S : pH} {r0 : Option Nat} {x1 : Int32} {x2 : Int32} {v0 : Int32} (h : fX5_at N S r0 x1 x2 = some v0) : CT l w yX5_at cX5_at 3 (some .int) rmX5_at [va_rf r0, .int x1, .int x2] S (some (.int v0)) S := by
  refine v_entry [(0, va_rf r0), (1, .int x1), (2, .int x2)] (by decide) (by simp [lg_sl, cat_rf, cat_i, cat_j]) (by simp [lv_args, cat_rf, cat_i, cat_j]) (fun g _ hC => ?_)
  unfold fX5_at at h
  obtain ⟨hO, h⟩ := chk_spec h
  refine v_aload_n hC 0 0 dX5_at_0 rfl ?_
  refine v_iload_n hC 1 1 dX5_at_1 rfl ?_
  refine v_iload_n hC 2 2 dX5_at_2 rfl ?_
  obtain ⟨x21, ex21, h⟩ := obn h
  refine qX5_43 hC rfl 3 ex21 (by decide) (catL (Nat.le_of_ble_eq_true rfl)) (by decide) dX5_at_3 ?_
  refine v_if_eq hC 6 23 dX5_at_6 (by decide) (fun c24 => ?_) (fun c24 => ?_)
  · replace h := ifp h c24
    refine v_iconst hC (0 : Int32) 23 dX5_at_23 (by decide) ?_
    obtain rfl := sp1 h
    exact v_iret hC 24 (by decide) (by decide) dX5_at_24
  · replace h := ifn h c24
    refine v_aload_n hC 9 0 dX5_at_9 rfl ?_
    obtain ⟨r22, er22, h⟩ := obn h
    refine gRX5_9 hC rfl 10 er22 dX5_at_10 ?_
    refine v_iload_n hC 13 2 dX5_at_13 rfl ?_
    refine v_bipush hC (8 : Int32) 14 dX5_at_14 (by decide) ?_
    refine v_imul hC 16 dX5_at_16 ?_
    refine v_iload_n hC 17 1 dX5_at_17 rfl ?_
    refine v_iadd hC 18 dX5_at_18 ?_
    obtain ⟨x23, ex23, h⟩ := obn h
    refine v_iald hC 19 ex23 dX5_at_19 ?_
    refine v_goto hC 20 24 dX5_at_20 (by decide) ?_
    obtain rfl := sp1 h
    exact v_iret hC 24 (by decide) (by decide) dX5_at_24
abbrev rmX8_turnedX : Room := { frames := 0, cells := 0, slots := 0, locals := 0 }
theorem hdX8_turnedX : yX8_turnedX.cls ≠ "java/lang/invoke/MethodHandle" ∧ yX8_turnedX.cls ≠ "java/lang/invoke/VarHandle" ∧ (parseMethodDescriptor yX8_turnedX.desc).map (fun d => d.parameters.length) = some 4 := by decide +kernel
def fX8_turnedX (N : Nat) (S : pH) (x0 : Int32) (x1 : Int32) (x2 : Int32) (x3 : Int32) : Option (Int32) :=
  if x2 = (1 : Int32) then
  (some x1)
  else
  if x2 = (2 : Int32) then
  (some ((x3 - (1 : Int32)) - x0))
  else
  if x2 = (3 : Int32) then
  (some ((x3 - (1 : Int32)) - x1))
  else
  some x0
set_option maxHeartbeats 1000000 in
set_option maxRecDepth 20000 in
theorem tX8_turnedX {l : Launch} {w : VW} {N : Nat} {S : pH} {x0 : Int32} {x1 : Int32} {x2 : Int32} {x3 : Int32} {v0 : Int32} (h : fX8_turnedX N S x0 x1 x2 x3 = some v0) : CT l w yX8_turnedX cX8_turnedX 4 (some .int) rmX8_turnedX [.int x0, .int x1, .int x2, .int x3] S (some (.int v0)) S := by
  refine v_entry [(0, .int x0), (1, .int x1), (2, .int x2), (3, .int x3)] (by decide) (by simp [lg_sl, cat_rf, cat_i, cat_j]) (by simp [lv_args, cat_rf, cat_i, cat_j]) (fun g _ hC => ?_)
  unfold fX8_turnedX at h
  refine v_iload_n hC 0 2 dX8_turnedX_0 rfl ?_
  by_cases c21 : x2 = (1 : Int32)
  · replace h := ifp h c21
    refine v_tabIn hC 1 28 (1 : Int32) c21 dX8_turnedX_1 (by decide) (by decide) rfl (by decide) ?_
    refine v_iload_n hC 28 1 dX8_turnedX_28 rfl ?_
    obtain rfl := sp1 h
    exact v_iret hC 29 (by decide) (by decide) dX8_turnedX_29
  replace h := ifn h c21
  by_cases c22 : x2 = (2 : Int32)
  · replace h := ifp h c22
    refine v_tabIn hC 1 30 (2 : Int32) c22 dX8_turnedX_1 (by decide) (by decide) rfl (by decide) ?_
    refine v_iload_n hC 30 3 dX8_turnedX_30 rfl ?_
    refine v_iconst hC (1 : Int32) 31 dX8_turnedX_31 (by decide) ?_
    refine v_isub hC 32 dX8_turnedX_32 ?_
    refine v_iload_n hC 33 0 dX8_turnedX_33 rfl ?_
    refine v_isub hC 34 dX8_turnedX_34 ?_
    obtain rfl := sp1 h
    exact v_iret hC 35 (by decide) (by decide) dX8_turnedX_35
  replace h := ifn h c22
  by_cases c23 : x2 = (3 : Int32)
  · replace h := ifp h c23
    refine v_tabIn hC 1 36 (3 : Int32) c23 dX8_turnedX_1 (by decide) (by decide) rfl (by decide) ?_
    refine v_iload_n hC 36 3 dX8_turnedX_36 rfl ?_
    refine v_iconst hC (1 : Int32) 37 dX8_turnedX_37 (by decide) ?_
    refine v_isub hC 38 dX8_turnedX_38 ?_
    refine v_iload_n hC 39 1 dX8_turnedX_39 rfl ?_
    refine v_isub hC 40 dX8_turnedX_40 ?_
    obtain rfl := sp1 h
    exact v_iret hC 41 (by decide) (by decide) dX8_turnedX_41
  replace h := ifn h c23
  refine v_tabOut hC 1 42 dX8_turnedX_1 (by have := lv_neT (a := 1) c21 (by decide); have := lv_neT (a := 2) c22 (by decide); have := lv_neT (a := 3) c23 (by decide); omega) (by decide) ?_
  refine v_iload_n hC 42 0 dX8_turnedX_42 rfl ?_
  obtain rfl := sp1 h
  exact v_iret hC 43 (by decide) (by decide) dX8_turnedX_43
abbrev rmX8_turnedY : Room := { frames := 0, cells := 0, slots := 0, locals := 0 }
theorem hdX8_turnedY : yX8_turnedY.cls ≠ "java/lang/invoke/MethodHandle" ∧ yX8_turnedY.cls ≠ "java/lang/invoke/VarHandle" ∧ (parseMethodDescriptor yX8_turnedY.desc).map (fun d => d.parameters.length) = some 4 := by decide +kernel
def fX8_turnedY (N : Nat) (S : pH) (x0 : Int32) (x1 : Int32) (x2 : Int32) (x3 : Int32) : Option (Int32) :=
  if x2 = (1 : Int32) then
  (some ((x3 - (1 : Int32)) - x0))
  else
  if x2 = (2 : Int32) then
  (some ((x3 - (1 : Int32)) - x1))
  else
  if x2 = (3 : Int32) then
  (some x0)
  else
  some x1
set_option maxHeartbeats 1000000 in
set_option maxRecDepth 20000 in
theorem tX8_turnedY {l : Launch} {w : VW} {N : Nat} {S : pH} {x0 : Int32} {x1 : Int32} {x2 : Int32} {x3 : Int32} {v0 : Int32} (h : fX8_turnedY N S x0 x1 x2 x3 = some v0) : CT l w yX8_turnedY cX8_turnedY 4 (some .int) rmX8_turnedY [.int x0, .int x1, .int x2, .int x3] S (some (.int v0)) S := by
  refine v_entry [(0, .int x0), (1, .int x1), (2, .int x2), (3, .int x3)] (by decide) (by simp [lg_sl, cat_rf, cat_i, cat_j]) (by simp [lv_args, cat_rf, cat_i, cat_j]) (fun g _ hC => ?_)
  unfold fX8_turnedY at h
  refine v_iload_n hC 0 2 dX8_turnedY_0 rfl ?_
  by_cases c21 : x2 = (1 : Int32)
  · replace h := ifp h c21
    refine v_tabIn hC 1 28 (1 : Int32) c21 dX8_turnedY_1 (by decide) (by decide) rfl (by decide) ?_
    refine v_iload_n hC 28 3 dX8_turnedY_28 rfl ?_
    refine v_iconst hC (1 : Int32) 29 dX8_turnedY_29 (by decide) ?_
    refine v_isub hC 30 dX8_turnedY_30 ?_
    refine v_iload_n hC 31 0 dX8_turnedY_31 rfl ?_
    refine v_isub hC 32 dX8_turnedY_32 ?_
    obtain rfl := sp1 h
    exact v_iret hC 33 (by decide) (by decide) dX8_turnedY_33
  replace h := ifn h c21
  by_cases c22 : x2 = (2 : Int32)
  · replace h := ifp h c22
    refine v_tabIn hC 1 34 (2 : Int32) c22 dX8_turnedY_1 (by decide) (by decide) rfl (by decide) ?_
    refine v_iload_n hC 34 3 dX8_turnedY_34 rfl ?_
    refine v_iconst hC (1 : Int32) 35 dX8_turnedY_35 (by decide) ?_
    refine v_isub hC 36 dX8_turnedY_36 ?_
    refine v_iload_n hC 37 1 dX8_turnedY_37 rfl ?_
    refine v_isub hC 38 dX8_turnedY_38 ?_
    obtain rfl := sp1 h
    exact v_iret hC 39 (by decide) (by decide) dX8_turnedY_39
  replace h := ifn h c22
  by_cases c23 : x2 = (3 : Int32)
  · replace h := ifp h c23
    refine v_tabIn hC 1 40 (3 : Int32) c23 dX8_turnedY_1 (by decide) (by decide) rfl (by decide) ?_
    refine v_iload_n hC 40 0 dX8_turnedY_40 rfl ?_
    obtain rfl := sp1 h
    exact v_iret hC 41 (by decide) (by decide) dX8_turnedY_41
  replace h := ifn h c23
  refine v_tabOut hC 1 42 dX8_turnedY_1 (by have := lv_neT (a := 1) c21 (by decide); have := lv_neT (a := 2) c22 (by decide); have := lv_neT (a := 3) c23 (by decide); omega) (by decide) ?_
  refine v_iload_n hC 42 1 dX8_turnedY_42 rfl ?_
  obtain rfl := sp1 h
  exact v_iret hC 43 (by decide) (by decide) dX8_turnedY_43
set_option maxRecDepth 20000 in
theorem qX5_47 {g : VG} {w : VW} {nL : Nat} {Q : State → Prop} {S : pH} {kc ks : Nat} {lv : List (Nat × Value)} {rest : List Value} {y : MethodName} {cc : ByteArray} {rt : Option FieldType} {rm : Room} (hC : Cx g y cc nL rt rm w) (hy : y.cls = RX5) (pc : Nat) {N : Nat} {x0 : Int32} {x1 : Int32} {x2 : Int32} {x3 : Int32} {v0 : Int32} (h : fX8_turnedX N S x0 x1 x2 x3 = some v0) (hR : rmX8_turnedX.frames + 1 ≤ rm.frames ∧ 8 + (4 + 11) + rmX8_turnedX.locals ≤ rm.locals) (hst : (rest.map fun v => v.category).sum ≤ 8) (hf : kc + 0 ≤ rm.cells ∧ ks + 0 ≤ rm.slots) (d : decode cc pc = .ok (.invokestatic 47, 3)) (K : V g w nL Q S kc ks (pc + 3) lv (.int v0 :: rest)) : V g w nL Q S kc ks pc lv (.int x3 :: .int x2 :: .int x1 :: .int x0 :: rest) := by
  exact v_callSN (As := [.int x0, .int x1, .int x2, .int x3]) (rest := rest) hC pc (tX8_turnedX (l := g.2.1) (w := w) h) wG196 (by rw [hy]; exact wG195) wG198 wG197 hdX8_turnedX rfl hR hst hf d K
set_option maxRecDepth 20000 in
theorem qX5_51 {g : VG} {w : VW} {nL : Nat} {Q : State → Prop} {S : pH} {kc ks : Nat} {lv : List (Nat × Value)} {rest : List Value} {y : MethodName} {cc : ByteArray} {rt : Option FieldType} {rm : Room} (hC : Cx g y cc nL rt rm w) (hy : y.cls = RX5) (pc : Nat) {N : Nat} {x0 : Int32} {x1 : Int32} {x2 : Int32} {x3 : Int32} {v0 : Int32} (h : fX8_turnedY N S x0 x1 x2 x3 = some v0) (hR : rmX8_turnedY.frames + 1 ≤ rm.frames ∧ 8 + (4 + 11) + rmX8_turnedY.locals ≤ rm.locals) (hst : (rest.map fun v => v.category).sum ≤ 8) (hf : kc + 0 ≤ rm.cells ∧ ks + 0 ≤ rm.slots) (d : decode cc pc = .ok (.invokestatic 51, 3)) (K : V g w nL Q S kc ks (pc + 3) lv (.int v0 :: rest)) : V g w nL Q S kc ks pc lv (.int x3 :: .int x2 :: .int x1 :: .int x0 :: rest) := by
  exact v_callSN (As := [.int x0, .int x1, .int x2, .int x3]) (rest := rest) hC pc (tX8_turnedY (l := g.2.1) (w := w) h) wG200 (by rw [hy]; exact wG199) wG201 wG197 hdX8_turnedY rfl hR hst hf d K
set_option maxRecDepth 20000 in
theorem qX5_54 {g : VG} {w : VW} {nL : Nat} {Q : State → Prop} {S : pH} {kc ks : Nat} {lv : List (Nat × Value)} {rest : List Value} {y : MethodName} {cc : ByteArray} {rt : Option FieldType} {rm : Room} (hC : Cx g y cc nL rt rm w) (hy : y.cls = RX5) (pc : Nat) {N : Nat} {r0 : Option Nat} {x1 : Int32} {x2 : Int32} {v0 : Int32} (h : fX5_at N S r0 x1 x2 = some v0) (hR : rmX5_at.frames + 1 ≤ rm.frames ∧ 8 + (3 + 11) + rmX5_at.locals ≤ rm.locals) (hst : (rest.map fun v => v.category).sum ≤ 8) (hf : kc + 0 ≤ rm.cells ∧ ks + 0 ≤ rm.slots) (d : decode cc pc = .ok (.invokevirtual 54, 3)) (K : V g w nL Q S kc ks (pc + 3) lv (.int v0 :: rest)) : V g w nL Q S kc ks pc lv (.int x2 :: .int x1 :: va_rf r0 :: rest) := by
  obtain ⟨fs, ho⟩ := oX5_at h
  exact v_callV (As := [.int x1, .int x2]) (rest := rest) (ci := 5) hC pc (tX5_at (l := g.2.1) (w := w) h) rfl (by decide) ho wG203 (by rw [hy]; exact wG202) wG204 wG205 wG62 hdX5_at rfl hR hst hf d K
abbrev rmX5_atTurned : Room := { frames := 2, cells := 0, slots := 0, locals := 44 }
theorem hdX5_atTurned : yX5_atTurned.cls ≠ "java/lang/invoke/MethodHandle" ∧ yX5_atTurned.cls ≠ "java/lang/invoke/VarHandle" ∧ (parseMethodDescriptor yX5_atTurned.desc).map (fun d => d.parameters.length) = some 3 := by decide +kernel
def fX5_atTurned (N : Nat) (S : pH) (r0 : Option Nat) (x1 : Int32) (x2 : Int32) (x3 : Int32) : Option (Int32) :=
  chk S 5 r0 <|
  (gfI S 5 1 r0).bind fun x21 =>
  (fX8_turnedX N S x1 x2 x3 x21).bind fun x22 =>
  (gfI S 5 1 r0).bind fun x23 =>
  (fX8_turnedY N S x1 x2 x3 x23).bind fun x24 =>
  (fX5_at N S r0 x22 x24).bind fun x25 =>
  some x25
theorem oX5_atTurned {N : Nat} {S : pH} {r0 : Option Nat} {x1 : Int32} {x2 : Int32} {x3 : Int32} {z : Int32} (h : fX5_atTurned N S r0 x1 x2 x3 = some z) : ∃ fs, obj S 5 r0 = some fs := by
  unfold fX5_atTurned at h
  exact (chk_spec h).1
set_option maxHeartbeats 1000000 in
set_option maxRecDepth 20000 in
theorem tX5_atTurned {l : Launch} {w : VW} {N : Nat} {S : pH} {r0 : Option Nat} {x1 : Int32} {x2 : Int32} {x3 : Int32} {v0 : Int32} (h : fX5_atTurned N S r0 x1 x2 x3 = some v0) : CT l w yX5_atTurned cX5_atTurned 4 (some .int) rmX5_atTurned [va_rf r0, .int x1, .int x2, .int x3] S (some (.int v0)) S := by
  refine v_entry [(0, va_rf r0), (1, .int x1), (2, .int x2), (3, .int x3)] (by decide) (by simp [lg_sl, cat_rf, cat_i, cat_j]) (by simp [lv_args, cat_rf, cat_i, cat_j]) (fun g _ hC => ?_)
  unfold fX5_atTurned at h
  obtain ⟨hO, h⟩ := chk_spec h
  refine v_aload_n hC 0 0 dX5_atTurned_0 rfl ?_
  refine v_iload_n hC 1 1 dX5_atTurned_1 rfl ?_
  refine v_iload_n hC 2 2 dX5_atTurned_2 rfl ?_
  refine v_iload_n hC 3 3 dX5_atTurned_3 rfl ?_
  refine v_aload_n hC 4 0 dX5_atTurned_4 rfl ?_
  obtain ⟨x21, ex21, h⟩ := obn h
  refine gRX5_24 hC rfl 5 ex21 dX5_atTurned_5 ?_
  obtain ⟨x22, ex22, h⟩ := obn h
  refine qX5_47 hC rfl 8 ex22 (by decide) (catL (Nat.le_of_ble_eq_true rfl)) (by decide) dX5_atTurned_8 ?_
  refine v_iload_n hC 11 1 dX5_atTurned_11 rfl ?_
  refine v_iload_n hC 12 2 dX5_atTurned_12 rfl ?_
  refine v_iload_n hC 13 3 dX5_atTurned_13 rfl ?_
  refine v_aload_n hC 14 0 dX5_atTurned_14 rfl ?_
  obtain ⟨x23, ex23, h⟩ := obn h
  refine gRX5_24 hC rfl 15 ex23 dX5_atTurned_15 ?_
  obtain ⟨x24, ex24, h⟩ := obn h
  refine qX5_51 hC rfl 18 ex24 (by decide) (catL (Nat.le_of_ble_eq_true rfl)) (by decide) dX5_atTurned_18 ?_
  obtain ⟨x25, ex25, h⟩ := obn h
  refine qX5_54 hC rfl 21 ex25 (by decide) (catL (Nat.le_of_ble_eq_true rfl)) (by decide) dX5_atTurned_21 ?_
  obtain rfl := sp1 h
  exact v_iret hC 24 (by decide) (by decide) dX5_atTurned_24
set_option maxRecDepth 20000 in
theorem qX5_65 {g : VG} {w : VW} {nL : Nat} {Q : State → Prop} {S : pH} {kc ks : Nat} {lv : List (Nat × Value)} {rest : List Value} {y : MethodName} {cc : ByteArray} {rt : Option FieldType} {rm : Room} (hC : Cx g y cc nL rt rm w) (hy : y.cls = RX5) (pc : Nat) {N : Nat} {r0 : Option Nat} {x1 : Int32} {x2 : Int32} {x3 : Int32} {v0 : Int32} (h : fX5_atTurned N S r0 x1 x2 x3 = some v0) (hR : rmX5_atTurned.frames + 1 ≤ rm.frames ∧ 8 + (4 + 11) + rmX5_atTurned.locals ≤ rm.locals) (hst : (rest.map fun v => v.category).sum ≤ 8) (hf : kc + 0 ≤ rm.cells ∧ ks + 0 ≤ rm.slots) (d : decode cc pc = .ok (.invokevirtual 65, 3)) (K : V g w nL Q S kc ks (pc + 3) lv (.int v0 :: rest)) : V g w nL Q S kc ks pc lv (.int x3 :: .int x2 :: .int x1 :: va_rf r0 :: rest) := by
  obtain ⟨fs, ho⟩ := oX5_atTurned h
  exact v_callV (As := [.int x1, .int x2, .int x3]) (rest := rest) (ci := 5) hC pc (tX5_atTurned (l := g.2.1) (w := w) h) rfl (by decide) ho wG207 (by rw [hy]; exact wG206) wG208 wG209 wG62 hdX5_atTurned rfl hR hst hf d K
abbrev rmX5_columnKey : Room := { frames := 3, cells := 0, slots := 0, locals := 67 }
theorem hdX5_columnKey : yX5_columnKey.cls ≠ "java/lang/invoke/MethodHandle" ∧ yX5_columnKey.cls ≠ "java/lang/invoke/VarHandle" ∧ (parseMethodDescriptor yX5_columnKey.desc).map (fun d => d.parameters.length) = some 2 := by decide +kernel
def lX5_columnKey_5 (N : Nat) (S : pH) (r0 : Option Nat) (x1 : Int32) (x2 : Int32) : Nat → Int32 → Int32 → Option (Int32)
  | 0, _, _ => none
  | n + 1, x21, x22 =>
    (gfI S 5 1 r0).bind fun x23 =>
    if x23 ≤ x22 then
    (some x21)
    else
    (fX5_atTurned N S r0 x1 x22 x2).bind fun x24 =>
    nm ((x21 <<< ((4 : Int32) &&& 31)) ||| x24) fun x25 =>
    nm (x22 + (1 : Int32)) fun x26 =>
    lX5_columnKey_5 N S r0 x1 x2 n x25 x26
def fX5_columnKey (N : Nat) (S : pH) (r0 : Option Nat) (x1 : Int32) (x2 : Int32) : Option (Int32) :=
  chk S 5 r0 <|
  (lX5_columnKey_5 N S r0 x1 x2 N (0 : Int32) (0 : Int32)).bind fun x28 =>
  some x28
theorem oX5_columnKey {N : Nat} {S : pH} {r0 : Option Nat} {x1 : Int32} {x2 : Int32} {z : Int32} (h : fX5_columnKey N S r0 x1 x2 = some z) : ∃ fs, obj S 5 r0 = some fs := by
  unfold fX5_columnKey at h
  exact (chk_spec h).1
set_option maxHeartbeats 1000000 in
set_option maxRecDepth 20000 in
theorem kX5_columnKey_5 {g : VG} {w : VW} {N : Nat} {S : pH} {r0 : Option Nat} {x1 : Int32} {x2 : Int32} {v0 : Int32} (hC : Cx g yX5_columnKey cX5_columnKey 5 (some .int) rmX5_columnKey w) : ∀ (n : Nat) (x21 : Int32) (x22 : Int32) (z : (Int32)), lX5_columnKey_5 N S r0 x1 x2 n x21 x22 = some z → (∀ (e0 : Int32), z = e0 → V g w 5 (Qm g w rmX5_columnKey.cells rmX5_columnKey.slots (some (.int v0)) S) S 0 0 33 [(3, .int e0)] []) → V g w 5 (Qm g w rmX5_columnKey.cells rmX5_columnKey.slots (some (.int v0)) S) S 0 0 5 [(0, va_rf r0), (1, .int x1), (2, .int x2), (3, .int x21), (4, .int x22)] [] := by
  intro n
  induction n with
  | zero => intro x21 x22 z h; rw [lX5_columnKey_5] at h; cases h
  | succ n ih =>
    intro x21 x22 z h K
    rw [lX5_columnKey_5] at h
    refine v_iload hC 5 4 dX5_columnKey_5 rfl ?_
    refine v_aload_n hC 7 0 dX5_columnKey_7 rfl ?_
    obtain ⟨x23, ex23, h⟩ := obn h
    refine gRX5_24 hC rfl 8 ex23 dX5_columnKey_8 ?_
    refine v_icmp_ge hC 11 33 dX5_columnKey_11 (by decide) (fun c27 => ?_) (fun c27 => ?_)
    · replace h := ifp h c27
      refine v_sub [(3, .int x21)] [3] rfl ?_
      exact K _ (sp1 h)
    · replace h := ifn h c27
      refine v_iload_n hC 14 3 dX5_columnKey_14 rfl ?_
      refine v_iconst hC (4 : Int32) 15 dX5_columnKey_15 (by decide) ?_
      refine v_ishl hC 16 dX5_columnKey_16 ?_
      refine v_aload_n hC 17 0 dX5_columnKey_17 rfl ?_
      refine v_iload_n hC 18 1 dX5_columnKey_18 rfl ?_
      refine v_iload hC 19 4 dX5_columnKey_19 rfl ?_
      refine v_iload_n hC 21 2 dX5_columnKey_21 rfl ?_
      obtain ⟨x24, ex24, h⟩ := obn h
      refine qX5_65 hC rfl 22 ex24 (by decide) (catL (Nat.le_of_ble_eq_true rfl)) (by decide) dX5_columnKey_22 ?_
      refine v_ior hC 25 dX5_columnKey_25 ?_
      obtain ⟨x25, ex25, h⟩ := onm h
      refine v_topi x25 ex25 ?_
      refine v_istore_n hC [(3, .int x25), (0, va_rf r0), (1, .int x1), (2, .int x2), (4, .int x22)] 26 dX5_columnKey_26 (by decide) rfl ?_
      obtain ⟨x26, ex26, h⟩ := onm h
      refine v_iinc hC x26 [(4, .int x26), (3, .int x25), (0, va_rf r0), (1, .int x1), (2, .int x2)] 27 4 dX5_columnKey_27 rfl (by rw [ex26]; rfl) (by decide) rfl ?_
      refine v_goto hC 30 5 dX5_columnKey_30 (by decide) ?_
      refine v_sub [(0, va_rf r0), (1, .int x1), (2, .int x2), (3, .int x25), (4, .int x26)] [2, 3, 4, 1, 0] rfl ?_
      exact ih _ _ _ h K
set_option maxHeartbeats 1000000 in
set_option maxRecDepth 20000 in
theorem tX5_columnKey {l : Launch} {w : VW} {N : Nat} {S : pH} {r0 : Option Nat} {x1 : Int32} {x2 : Int32} {v0 : Int32} (h : fX5_columnKey N S r0 x1 x2 = some v0) : CT l w yX5_columnKey cX5_columnKey 5 (some .int) rmX5_columnKey [va_rf r0, .int x1, .int x2] S (some (.int v0)) S := by
  refine v_entry [(0, va_rf r0), (1, .int x1), (2, .int x2)] (by decide) (by simp [lg_sl, cat_rf, cat_i, cat_j]) (by simp [lv_args, cat_rf, cat_i, cat_j]) (fun g _ hC => ?_)
  unfold fX5_columnKey at h
  obtain ⟨hO, h⟩ := chk_spec h
  refine v_iconst hC (0 : Int32) 0 dX5_columnKey_0 (by decide) ?_
  refine v_istore_n hC [(3, .int (0 : Int32)), (0, va_rf r0), (1, .int x1), (2, .int x2)] 1 dX5_columnKey_1 (by decide) rfl ?_
  refine v_iconst hC (0 : Int32) 2 dX5_columnKey_2 (by decide) ?_
  refine v_istore hC [(4, .int (0 : Int32)), (3, .int (0 : Int32)), (0, va_rf r0), (1, .int x1), (2, .int x2)] 3 dX5_columnKey_3 (by decide) rfl ?_
  obtain ⟨x28, E5, h⟩ := obn h
  refine v_sub [(0, va_rf r0), (1, .int x1), (2, .int x2), (3, .int (0 : Int32)), (4, .int (0 : Int32))] [2, 3, 4, 1, 0] rfl ?_
  refine kX5_columnKey_5 hC _ _ _ _ E5 (fun _ hz9 => ?_)
  cases hz9
  refine v_iload_n hC 33 0 dX5_columnKey_33 rfl ?_
  obtain rfl := sp1 h
  exact v_iret hC 34 (by decide) (by decide) dX5_columnKey_34
set_option maxRecDepth 20000 in
theorem qX0_43 {g : VG} {w : VW} {nL : Nat} {Q : State → Prop} {S : pH} {kc ks : Nat} {lv : List (Nat × Value)} {rest : List Value} {y : MethodName} {cc : ByteArray} {rt : Option FieldType} {rm : Room} (hC : Cx g y cc nL rt rm w) (hy : y.cls = RX0) (pc : Nat) {N : Nat} {r0 : Option Nat} {x1 : Int32} {x2 : Int32} {v0 : Int32} (h : fX5_columnKey N S r0 x1 x2 = some v0) (hR : rmX5_columnKey.frames + 1 ≤ rm.frames ∧ 8 + (5 + 11) + rmX5_columnKey.locals ≤ rm.locals) (hst : (rest.map fun v => v.category).sum ≤ 8) (hf : kc + 0 ≤ rm.cells ∧ ks + 0 ≤ rm.slots) (d : decode cc pc = .ok (.invokevirtual 43, 3)) (K : V g w nL Q S kc ks (pc + 3) lv (.int v0 :: rest)) : V g w nL Q S kc ks pc lv (.int x2 :: .int x1 :: va_rf r0 :: rest) := by
  obtain ⟨fs, ho⟩ := oX5_columnKey h
  exact v_callV (As := [.int x1, .int x2]) (rest := rest) (ci := 5) hC pc (tX5_columnKey (l := g.2.1) (w := w) h) rfl (by decide) ho wG211 (by rw [hy]; exact wG210) wG212 wG213 wG62 hdX5_columnKey rfl hR hst hf d K
abbrev rmX0_offer : Room := { frames := 4, cells := 0, slots := 0, locals := 91 }
theorem hdX0_offer : yX0_offer.cls ≠ "java/lang/invoke/MethodHandle" ∧ yX0_offer.cls ≠ "java/lang/invoke/VarHandle" ∧ (parseMethodDescriptor yX0_offer.desc).map (fun d => d.parameters.length) = some 2 := by decide +kernel
def lX0_offer_2 (N : Nat) (r0 : Option Nat) (r1 : Option Nat) (x2 : Int32) : Nat → Int32 → pH → Option (pH)
  | 0, _, _ => none
  | n + 1, x21, S22 =>
    if (4 : Int32) ≤ x21 then
    (some S22)
    else
    (gfI S22 0 3 r0).bind fun x23 =>
    if (64 : Int32) ≤ x23 then
    (some S22)
    else
    (gfR S22 0 0 r0).bind fun r24 =>
    (gfI S22 0 3 r0).bind fun x25 =>
    (fX5_columnKey N S22 r1 (0 : Int32) x21).bind fun x26 =>
    (stI S22 r24 x25 x26).bind fun S27 =>
    (gfR S27 0 1 r0).bind fun r28 =>
    (gfI S27 0 3 r0).bind fun x29 =>
    (gfI S27 5 1 r1).bind fun x30 =>
    (fX5_columnKey N S27 r1 (x30 - (1 : Int32)) x21).bind fun x31 =>
    (stI S27 r28 x29 x31).bind fun S32 =>
    (gfR S32 0 2 r0).bind fun r33 =>
    (gfI S32 0 3 r0).bind fun x34 =>
    (stI S32 r33 x34 x2).bind fun S35 =>
    (gfI S35 0 3 r0).bind fun x36 =>
    (pfV S35 0 3 r0 (.int (x36 + (1 : Int32)))).bind fun S37 =>
    nm (x21 + (1 : Int32)) fun x38 =>
    lX0_offer_2 N r0 r1 x2 n x38 S37
def fX0_offer (N : Nat) (S : pH) (r0 : Option Nat) (r1 : Option Nat) (x2 : Int32) : Option (pH) :=
  chk S 0 r0 <|
  (lX0_offer_2 N r0 r1 x2 N (0 : Int32) S).bind fun S41 =>
  some S41
theorem oX0_offer {N : Nat} {S : pH} {r0 : Option Nat} {r1 : Option Nat} {x2 : Int32} {z : pH} (h : fX0_offer N S r0 r1 x2 = some z) : ∃ fs, obj S 0 r0 = some fs := by
  unfold fX0_offer at h
  exact (chk_spec h).1
set_option maxHeartbeats 1000000 in
set_option maxRecDepth 20000 in
theorem kX0_offer_2 {g : VG} {w : VW} {N : Nat} {r0 : Option Nat} {r1 : Option Nat} {x2 : Int32} {S0 : pH} (hC : Cx g yX0_offer cX0_offer 4 none rmX0_offer w) : ∀ (n : Nat) (x21 : Int32) (S22 : pH) (z : (pH)), lX0_offer_2 N r0 r1 x2 n x21 S22 = some z → (∀ (e0 : pH), z = e0 → V g w 4 (Qm g w rmX0_offer.cells rmX0_offer.slots none S0) e0 0 0 77 [] []) → V g w 4 (Qm g w rmX0_offer.cells rmX0_offer.slots none S0) S22 0 0 2 [(0, va_rf r0), (1, va_rf r1), (2, .int x2), (3, .int x21)] [] := by
  intro n
  induction n with
  | zero => intro x21 S22 z h; rw [lX0_offer_2] at h; cases h
  | succ n ih =>
    intro x21 S22 z h K
    rw [lX0_offer_2] at h
    refine v_iload_n hC 2 3 dX0_offer_2 rfl ?_
    refine v_iconst hC (4 : Int32) 3 dX0_offer_3 (by decide) ?_
    refine v_icmp_ge hC 4 77 dX0_offer_4 (by decide) (fun c40 => ?_) (fun c40 => ?_)
    · replace h := ifp h c40
      refine v_sub [] [] rfl ?_
      exact K _ (sp1 h)
    · replace h := ifn h c40
      refine v_aload_n hC 7 0 dX0_offer_7 rfl ?_
      obtain ⟨x23, ex23, h⟩ := obn h
      refine gRX0_21 hC rfl 8 ex23 dX0_offer_8 ?_
      refine v_bipush hC (64 : Int32) 11 dX0_offer_11 (by decide) ?_
      refine v_icmp_ge hC 13 77 dX0_offer_13 (by decide) (fun c39 => ?_) (fun c39 => ?_)
      · replace h := ifp h c39
        refine v_sub [] [] rfl ?_
        exact K _ (sp1 h)
      · replace h := ifn h c39
        refine v_aload_n hC 16 0 dX0_offer_16 rfl ?_
        obtain ⟨r24, er24, h⟩ := obn h
        refine gRX0_11 hC rfl 17 er24 dX0_offer_17 ?_
        refine v_aload_n hC 20 0 dX0_offer_20 rfl ?_
        obtain ⟨x25, ex25, h⟩ := obn h
        refine gRX0_21 hC rfl 21 ex25 dX0_offer_21 ?_
        refine v_aload_n hC 24 1 dX0_offer_24 rfl ?_
        refine v_iconst hC (0 : Int32) 25 dX0_offer_25 (by decide) ?_
        refine v_iload_n hC 26 3 dX0_offer_26 rfl ?_
        obtain ⟨x26, ex26, h⟩ := obn h
        refine qX0_43 hC rfl 27 ex26 (by decide) (catL (Nat.le_of_ble_eq_true rfl)) (by decide) dX0_offer_27 ?_
        obtain ⟨S27, eS27, h⟩ := obn h
        refine v_iast hC 30 eS27 dX0_offer_30 ?_
        refine v_aload_n hC 31 0 dX0_offer_31 rfl ?_
        obtain ⟨r28, er28, h⟩ := obn h
        refine gRX0_15 hC rfl 32 er28 dX0_offer_32 ?_
        refine v_aload_n hC 35 0 dX0_offer_35 rfl ?_
        obtain ⟨x29, ex29, h⟩ := obn h
        refine gRX0_21 hC rfl 36 ex29 dX0_offer_36 ?_
        refine v_aload_n hC 39 1 dX0_offer_39 rfl ?_
        refine v_aload_n hC 40 1 dX0_offer_40 rfl ?_
        obtain ⟨x30, ex30, h⟩ := obn h
        refine gRX0_49 hC rfl 41 ex30 dX0_offer_41 ?_
        refine v_iconst hC (1 : Int32) 44 dX0_offer_44 (by decide) ?_
        refine v_isub hC 45 dX0_offer_45 ?_
        refine v_iload_n hC 46 3 dX0_offer_46 rfl ?_
        obtain ⟨x31, ex31, h⟩ := obn h
        refine qX0_43 hC rfl 47 ex31 (by decide) (catL (Nat.le_of_ble_eq_true rfl)) (by decide) dX0_offer_47 ?_
        obtain ⟨S32, eS32, h⟩ := obn h
        refine v_iast hC 50 eS32 dX0_offer_50 ?_
        refine v_aload_n hC 51 0 dX0_offer_51 rfl ?_
        obtain ⟨r33, er33, h⟩ := obn h
        refine gRX0_18 hC rfl 52 er33 dX0_offer_52 ?_
        refine v_aload_n hC 55 0 dX0_offer_55 rfl ?_
        obtain ⟨x34, ex34, h⟩ := obn h
        refine gRX0_21 hC rfl 56 ex34 dX0_offer_56 ?_
        refine v_iload_n hC 59 2 dX0_offer_59 rfl ?_
        obtain ⟨S35, eS35, h⟩ := obn h
        refine v_iast hC 60 eS35 dX0_offer_60 ?_
        refine v_aload_n hC 61 0 dX0_offer_61 rfl ?_
        refine v_dup hC 62 (cat_rf _) dX0_offer_62 ?_
        obtain ⟨x36, ex36, h⟩ := obn h
        refine gRX0_21 hC rfl 63 ex36 dX0_offer_63 ?_
        refine v_iconst hC (1 : Int32) 66 dX0_offer_66 (by decide) ?_
        refine v_iadd hC 67 dX0_offer_67 ?_
        obtain ⟨S37, eS37, h⟩ := obn h
        refine pRX0_21 hC rfl 68 eS37 dX0_offer_68 ?_
        obtain ⟨x38, ex38, h⟩ := onm h
        refine v_iinc hC x38 [(3, .int x38), (0, va_rf r0), (1, va_rf r1), (2, .int x2)] 71 3 dX0_offer_71 rfl (by rw [ex38]; rfl) (by decide) rfl ?_
        refine v_goto hC 74 2 dX0_offer_74 (by decide) ?_
        refine v_sub [(0, va_rf r0), (1, va_rf r1), (2, .int x2), (3, .int x38)] [1, 2, 3, 0] rfl ?_
        exact ih _ _ _ h K
set_option maxHeartbeats 1000000 in
set_option maxRecDepth 20000 in
theorem tX0_offer {l : Launch} {w : VW} {N : Nat} {S : pH} {r0 : Option Nat} {r1 : Option Nat} {x2 : Int32} {S0 : pH} (h : fX0_offer N S r0 r1 x2 = some S0) : CT l w yX0_offer cX0_offer 4 none rmX0_offer [va_rf r0, va_rf r1, .int x2] S none S0 := by
  refine v_entry [(0, va_rf r0), (1, va_rf r1), (2, .int x2)] (by decide) (by simp [lg_sl, cat_rf, cat_i, cat_j]) (by simp [lv_args, cat_rf, cat_i, cat_j]) (fun g _ hC => ?_)
  unfold fX0_offer at h
  obtain ⟨hO, h⟩ := chk_spec h
  refine v_iconst hC (0 : Int32) 0 dX0_offer_0 (by decide) ?_
  refine v_istore_n hC [(3, .int (0 : Int32)), (0, va_rf r0), (1, va_rf r1), (2, .int x2)] 1 dX0_offer_1 (by decide) rfl ?_
  obtain ⟨S41, E2, h⟩ := obn h
  refine v_sub [(0, va_rf r0), (1, va_rf r1), (2, .int x2), (3, .int (0 : Int32))] [1, 2, 3, 0] rfl ?_
  refine kX0_offer_2 hC _ _ _ _ E2 (fun _ hz9 => ?_)
  cases hz9
  obtain rfl := sp1 h
  exact v_vret hC 77 (by decide) (by decide) dX0_offer_77
abbrev rmX0_waysFrom : Room := { frames := 1, cells := 0, slots := 0, locals := 23 }
theorem hdX0_waysFrom : yX0_waysFrom.cls ≠ "java/lang/invoke/MethodHandle" ∧ yX0_waysFrom.cls ≠ "java/lang/invoke/VarHandle" ∧ (parseMethodDescriptor yX0_waysFrom.desc).map (fun d => d.parameters.length) = some 2 := by decide +kernel
def lX0_waysFrom_33 (N : Nat) (r0 : Option Nat) (x1 : Int32) (x2 : Int32) (x3 : Int32) : Nat → Int32 → pH → Option (pH)
  | 0, _, _ => none
  | n + 1, x29, S30 =>
    (gfI S30 0 7 r0).bind fun x31 =>
    if x31 ≤ x29 then
    (some S30)
    else
    (gfR S30 0 9 r0).bind fun r32 =>
    (gfR S30 0 5 r0).bind fun r33 =>
    (ldI S30 0 r33 x29).bind fun x34 =>
    (gfR S30 0 9 r0).bind fun r35 =>
    (gfR S30 0 5 r0).bind fun r36 =>
    (ldI S30 0 r36 x29).bind fun x37 =>
    (ldI S30 0 r35 x37).bind fun x38 =>
    (gfR S30 0 8 r0).bind fun r39 =>
    (gfR S30 0 4 r0).bind fun r40 =>
    (ldI S30 0 r40 x29).bind fun x41 =>
    (ldI S30 0 r39 x41).bind fun x42 =>
    (stI S30 r32 x34 ((x38 + x42) - (x38 + x42) / (1000000007 : Int32) * (1000000007 : Int32))).bind fun S43 =>
    nm (x29 + (1 : Int32)) fun x44 =>
    lX0_waysFrom_33 N r0 x1 x2 x3 n x44 S43
def lX0_waysFrom_17 (N : Nat) (r0 : Option Nat) (x1 : Int32) (x2 : Int32) : Nat → Int32 → pH → Option (pH)
  | 0, _, _ => none
  | n + 1, x25, S26 =>
    if x2 ≤ x25 then
    (some S26)
    else
    (gfR S26 0 9 r0).bind fun r27 =>
    (fJ7_fill_53178 N S26 r27 (0 : Int32)).bind fun S28 =>
    (lX0_waysFrom_33 N r0 x1 x2 x25 N (0 : Int32) S28).bind fun S46 =>
    (fX0_swapRows N S46 r0).bind fun S47 =>
    nm (x25 + (1 : Int32)) fun x48 =>
    lX0_waysFrom_17 N r0 x1 x2 n x48 S47
def fX0_waysFrom (N : Nat) (S : pH) (r0 : Option Nat) (x1 : Int32) (x2 : Int32) : Option (Int32 × pH) :=
  chk S 0 r0 <|
  (gfR S 0 8 r0).bind fun r21 =>
  (fJ7_fill_53178 N S r21 (0 : Int32)).bind fun S22 =>
  (gfR S22 0 8 r0).bind fun r23 =>
  (stI S22 r23 x1 (1 : Int32)).bind fun S24 =>
  (lX0_waysFrom_17 N r0 x1 x2 N (0 : Int32) S24).bind fun S50 =>
  (gfR S50 0 8 r0).bind fun r51 =>
  (ldI S50 0 r51 x1).bind fun x52 =>
  some (x52, S50)
theorem oX0_waysFrom {N : Nat} {S : pH} {r0 : Option Nat} {x1 : Int32} {x2 : Int32} {z : Int32 × pH} (h : fX0_waysFrom N S r0 x1 x2 = some z) : ∃ fs, obj S 0 r0 = some fs := by
  unfold fX0_waysFrom at h
  exact (chk_spec h).1
set_option maxHeartbeats 1000000 in
set_option maxRecDepth 20000 in
theorem kX0_waysFrom_33 {g : VG} {w : VW} {N : Nat} {r0 : Option Nat} {x1 : Int32} {x2 : Int32} {x3 : Int32} {v0 : Int32} {S0 : pH} (hC : Cx g yX0_waysFrom cX0_waysFrom 5 (some .int) rmX0_waysFrom w) : ∀ (n : Nat) (x29 : Int32) (S30 : pH) (z : (pH)), lX0_waysFrom_33 N r0 x1 x2 x3 n x29 S30 = some z → (∀ (e0 : pH), z = e0 → V g w 5 (Qm g w rmX0_waysFrom.cells rmX0_waysFrom.slots (some (.int v0)) S0) e0 0 0 88 [(0, va_rf r0), (1, .int x1), (2, .int x2), (3, .int x3)] []) → V g w 5 (Qm g w rmX0_waysFrom.cells rmX0_waysFrom.slots (some (.int v0)) S0) S30 0 0 33 [(0, va_rf r0), (1, .int x1), (2, .int x2), (3, .int x3), (4, .int x29)] [] := by
  intro n
  induction n with
  | zero => intro x29 S30 z h; rw [lX0_waysFrom_33] at h; cases h
  | succ n ih =>
    intro x29 S30 z h K
    rw [lX0_waysFrom_33] at h
    refine v_iload hC 33 4 dX0_waysFrom_33 rfl ?_
    refine v_aload_n hC 35 0 dX0_waysFrom_35 rfl ?_
    obtain ⟨x31, ex31, h⟩ := obn h
    refine gRX0_34 hC rfl 36 ex31 dX0_waysFrom_36 ?_
    refine v_icmp_ge hC 39 88 dX0_waysFrom_39 (by decide) (fun c45 => ?_) (fun c45 => ?_)
    · replace h := ifp h c45
      refine v_sub [(0, va_rf r0), (1, .int x1), (2, .int x2), (3, .int x3)] [0, 1, 2, 3] rfl ?_
      exact K _ (sp1 h)
    · replace h := ifn h c45
      refine v_aload_n hC 42 0 dX0_waysFrom_42 rfl ?_
      obtain ⟨r32, er32, h⟩ := obn h
      refine gRX0_40 hC rfl 43 er32 dX0_waysFrom_43 ?_
      refine v_aload_n hC 46 0 dX0_waysFrom_46 rfl ?_
      obtain ⟨r33, er33, h⟩ := obn h
      refine gRX0_28 hC rfl 47 er33 dX0_waysFrom_47 ?_
      refine v_iload hC 50 4 dX0_waysFrom_50 rfl ?_
      obtain ⟨x34, ex34, h⟩ := obn h
      refine v_iald hC 52 ex34 dX0_waysFrom_52 ?_
      refine v_aload_n hC 53 0 dX0_waysFrom_53 rfl ?_
      obtain ⟨r35, er35, h⟩ := obn h
      refine gRX0_40 hC rfl 54 er35 dX0_waysFrom_54 ?_
      refine v_aload_n hC 57 0 dX0_waysFrom_57 rfl ?_
      obtain ⟨r36, er36, h⟩ := obn h
      refine gRX0_28 hC rfl 58 er36 dX0_waysFrom_58 ?_
      refine v_iload hC 61 4 dX0_waysFrom_61 rfl ?_
      obtain ⟨x37, ex37, h⟩ := obn h
      refine v_iald hC 63 ex37 dX0_waysFrom_63 ?_
      obtain ⟨x38, ex38, h⟩ := obn h
      refine v_iald hC 64 ex38 dX0_waysFrom_64 ?_
      refine v_aload_n hC 65 0 dX0_waysFrom_65 rfl ?_
      obtain ⟨r39, er39, h⟩ := obn h
      refine gRX0_37 hC rfl 66 er39 dX0_waysFrom_66 ?_
      refine v_aload_n hC 69 0 dX0_waysFrom_69 rfl ?_
      obtain ⟨r40, er40, h⟩ := obn h
      refine gRX0_25 hC rfl 70 er40 dX0_waysFrom_70 ?_
      refine v_iload hC 73 4 dX0_waysFrom_73 rfl ?_
      obtain ⟨x41, ex41, h⟩ := obn h
      refine v_iald hC 75 ex41 dX0_waysFrom_75 ?_
      obtain ⟨x42, ex42, h⟩ := obn h
      refine v_iald hC 76 ex42 dX0_waysFrom_76 ?_
      refine v_iadd hC 77 dX0_waysFrom_77 ?_
      refine v_ldc hC (v := (1000000007 : Int32)) 78 wG26 dX0_waysFrom_78 ?_
      refine v_irem hC 80 (by decide) dX0_waysFrom_80 ?_
      obtain ⟨S43, eS43, h⟩ := obn h
      refine v_iast hC 81 eS43 dX0_waysFrom_81 ?_
      obtain ⟨x44, ex44, h⟩ := onm h
      refine v_iinc hC x44 [(4, .int x44), (0, va_rf r0), (1, .int x1), (2, .int x2), (3, .int x3)] 82 4 dX0_waysFrom_82 rfl (by rw [ex44]; rfl) (by decide) rfl ?_
      refine v_goto hC 85 33 dX0_waysFrom_85 (by decide) ?_
      refine v_sub [(0, va_rf r0), (1, .int x1), (2, .int x2), (3, .int x3), (4, .int x44)] [1, 2, 3, 4, 0] rfl ?_
      exact ih _ _ _ h K
set_option maxHeartbeats 1000000 in
set_option maxRecDepth 20000 in
theorem kX0_waysFrom_17 {g : VG} {w : VW} {N : Nat} {r0 : Option Nat} {x1 : Int32} {x2 : Int32} {v0 : Int32} {S0 : pH} (hC : Cx g yX0_waysFrom cX0_waysFrom 5 (some .int) rmX0_waysFrom w) : ∀ (n : Nat) (x25 : Int32) (S26 : pH) (z : (pH)), lX0_waysFrom_17 N r0 x1 x2 n x25 S26 = some z → (∀ (e0 : pH), z = e0 → V g w 5 (Qm g w rmX0_waysFrom.cells rmX0_waysFrom.slots (some (.int v0)) S0) e0 0 0 98 [(0, va_rf r0), (1, .int x1)] []) → V g w 5 (Qm g w rmX0_waysFrom.cells rmX0_waysFrom.slots (some (.int v0)) S0) S26 0 0 17 [(0, va_rf r0), (1, .int x1), (2, .int x2), (3, .int x25)] [] := by
  intro n
  induction n with
  | zero => intro x25 S26 z h; rw [lX0_waysFrom_17] at h; cases h
  | succ n ih =>
    intro x25 S26 z h K
    rw [lX0_waysFrom_17] at h
    refine v_iload_n hC 17 3 dX0_waysFrom_17 rfl ?_
    refine v_iload_n hC 18 2 dX0_waysFrom_18 rfl ?_
    refine v_icmp_ge hC 19 98 dX0_waysFrom_19 (by decide) (fun c49 => ?_) (fun c49 => ?_)
    · replace h := ifp h c49
      refine v_sub [(0, va_rf r0), (1, .int x1)] [0, 1] rfl ?_
      exact K _ (sp1 h)
    · replace h := ifn h c49
      refine v_aload_n hC 22 0 dX0_waysFrom_22 rfl ?_
      obtain ⟨r27, er27, h⟩ := obn h
      refine gRX0_40 hC rfl 23 er27 dX0_waysFrom_23 ?_
      refine v_iconst hC (0 : Int32) 26 dX0_waysFrom_26 (by decide) ?_
      obtain ⟨S28, eS28, h⟩ := obn h
      refine qX0_63 hC rfl 27 eS28 (by decide) (catL (Nat.le_of_ble_eq_true rfl)) (by decide) dX0_waysFrom_27 ?_
      refine v_iconst hC (0 : Int32) 30 dX0_waysFrom_30 (by decide) ?_
      refine v_istore hC [(4, .int (0 : Int32)), (0, va_rf r0), (1, .int x1), (2, .int x2), (3, .int x25)] 31 dX0_waysFrom_31 (by decide) rfl ?_
      obtain ⟨S46, E33, h⟩ := obn h
      refine v_sub [(0, va_rf r0), (1, .int x1), (2, .int x2), (3, .int x25), (4, .int (0 : Int32))] [1, 2, 3, 4, 0] rfl ?_
      refine kX0_waysFrom_33 hC _ _ _ _ E33 (fun _ hz9 => ?_)
      cases hz9
      refine v_aload_n hC 88 0 dX0_waysFrom_88 rfl ?_
      obtain ⟨S47, eS47, h⟩ := obn h
      refine qX0_69 hC rfl 89 eS47 (by decide) (catL (Nat.le_of_ble_eq_true rfl)) (by decide) dX0_waysFrom_89 ?_
      obtain ⟨x48, ex48, h⟩ := onm h
      refine v_iinc hC x48 [(3, .int x48), (0, va_rf r0), (1, .int x1), (2, .int x2)] 92 3 dX0_waysFrom_92 rfl (by rw [ex48]; rfl) (by decide) rfl ?_
      refine v_goto hC 95 17 dX0_waysFrom_95 (by decide) ?_
      refine v_sub [(0, va_rf r0), (1, .int x1), (2, .int x2), (3, .int x48)] [1, 2, 3, 0] rfl ?_
      exact ih _ _ _ h K
set_option maxHeartbeats 1000000 in
set_option maxRecDepth 20000 in
theorem tX0_waysFrom {l : Launch} {w : VW} {N : Nat} {S : pH} {r0 : Option Nat} {x1 : Int32} {x2 : Int32} {v0 : Int32} {S0 : pH} (h : fX0_waysFrom N S r0 x1 x2 = some (v0, S0)) : CT l w yX0_waysFrom cX0_waysFrom 5 (some .int) rmX0_waysFrom [va_rf r0, .int x1, .int x2] S (some (.int v0)) S0 := by
  refine v_entry [(0, va_rf r0), (1, .int x1), (2, .int x2)] (by decide) (by simp [lg_sl, cat_rf, cat_i, cat_j]) (by simp [lv_args, cat_rf, cat_i, cat_j]) (fun g _ hC => ?_)
  unfold fX0_waysFrom at h
  obtain ⟨hO, h⟩ := chk_spec h
  refine v_aload_n hC 0 0 dX0_waysFrom_0 rfl ?_
  obtain ⟨r21, er21, h⟩ := obn h
  refine gRX0_37 hC rfl 1 er21 dX0_waysFrom_1 ?_
  refine v_iconst hC (0 : Int32) 4 dX0_waysFrom_4 (by decide) ?_
  obtain ⟨S22, eS22, h⟩ := obn h
  refine qX0_63 hC rfl 5 eS22 (by decide) (catL (Nat.le_of_ble_eq_true rfl)) (by decide) dX0_waysFrom_5 ?_
  refine v_aload_n hC 8 0 dX0_waysFrom_8 rfl ?_
  obtain ⟨r23, er23, h⟩ := obn h
  refine gRX0_37 hC rfl 9 er23 dX0_waysFrom_9 ?_
  refine v_iload_n hC 12 1 dX0_waysFrom_12 rfl ?_
  refine v_iconst hC (1 : Int32) 13 dX0_waysFrom_13 (by decide) ?_
  obtain ⟨S24, eS24, h⟩ := obn h
  refine v_iast hC 14 eS24 dX0_waysFrom_14 ?_
  refine v_iconst hC (0 : Int32) 15 dX0_waysFrom_15 (by decide) ?_
  refine v_istore_n hC [(3, .int (0 : Int32)), (0, va_rf r0), (1, .int x1), (2, .int x2)] 16 dX0_waysFrom_16 (by decide) rfl ?_
  obtain ⟨S50, E17, h⟩ := obn h
  refine v_sub [(0, va_rf r0), (1, .int x1), (2, .int x2), (3, .int (0 : Int32))] [1, 2, 3, 0] rfl ?_
  refine kX0_waysFrom_17 hC _ _ _ _ E17 (fun _ hz9 => ?_)
  cases hz9
  refine v_aload_n hC 98 0 dX0_waysFrom_98 rfl ?_
  obtain ⟨r51, er51, h⟩ := obn h
  refine gRX0_37 hC rfl 99 er51 dX0_waysFrom_99 ?_
  refine v_iload_n hC 102 1 dX0_waysFrom_102 rfl ?_
  obtain ⟨x52, ex52, h⟩ := obn h
  refine v_iald hC 103 ex52 dX0_waysFrom_103 ?_
  obtain ⟨rfl, rfl⟩ := sp2 h
  exact v_iret hC 104 (by decide) (by decide) dX0_waysFrom_104
set_option maxRecDepth 20000 in
theorem qX0_59 {g : VG} {w : VW} {nL : Nat} {Q : State → Prop} {S : pH} {kc ks : Nat} {lv : List (Nat × Value)} {rest : List Value} {y : MethodName} {cc : ByteArray} {rt : Option FieldType} {rm : Room} (hC : Cx g y cc nL rt rm w) (hy : y.cls = RX0) (pc : Nat) {N : Nat} {r0 : Option Nat} {x1 : Int32} {x2 : Int32} {v0 : Int32} {S0 : pH} (h : fX0_waysFrom N S r0 x1 x2 = some (v0, S0)) (hR : rmX0_waysFrom.frames + 1 ≤ rm.frames ∧ 8 + (5 + 11) + rmX0_waysFrom.locals ≤ rm.locals) (hst : (rest.map fun v => v.category).sum ≤ 8) (hf : kc + 0 ≤ rm.cells ∧ ks + 0 ≤ rm.slots) (d : decode cc pc = .ok (.invokevirtual 59, 3)) (K : V g w nL Q S0 kc ks (pc + 3) lv (.int v0 :: rest)) : V g w nL Q S kc ks pc lv (.int x2 :: .int x1 :: va_rf r0 :: rest) := by
  obtain ⟨fs, ho⟩ := oX0_waysFrom h
  exact v_callV (As := [.int x1, .int x2]) (rest := rest) (ci := 0) hC pc (tX0_waysFrom (l := g.2.1) (w := w) h) rfl (by decide) ho wG215 (by rw [hy]; exact wG214) wG216 wG217 wG119 hdX0_waysFrom rfl hR hst hf d K
abbrev rmX0_ways : Room := { frames := 2, cells := 0, slots := 0, locals := 47 }
theorem hdX0_ways : yX0_ways.cls ≠ "java/lang/invoke/MethodHandle" ∧ yX0_ways.cls ≠ "java/lang/invoke/VarHandle" ∧ (parseMethodDescriptor yX0_ways.desc).map (fun d => d.parameters.length) = some 1 := by decide +kernel
def lX0_ways_8 (N : Nat) (r0 : Option Nat) (x1 : Int32) : Nat → Int32 → Int32 → pH → Option (Int32 × pH)
  | 0, _, _, _ => none
  | n + 1, x22, x23, S24 =>
    (gfI S24 0 3 r0).bind fun x25 =>
    if x25 ≤ x23 then
    (some (x22, S24))
    else
    (gfR S24 0 0 r0).bind fun r26 =>
    (ldI S24 0 r26 x23).bind fun x27 =>
    (fX0_columnOf N S24 r0 x27).bind fun x28 =>
    nm (fun (x29 : Int32) (S30 : pH) =>
    nm (x23 + (1 : Int32)) fun x31 =>
    lX0_ways_8 N r0 x1 n x29 x31 S30) fun j42 =>
    if ¬ x28 = x23 then
    (j42 x22 S24)
    else
    b2 (fX0_waysFrom N S24 r0 x23 x1) fun x32 S33 =>
    nm ((x22 + x32) - (x22 + x32) / (1000000007 : Int32) * (1000000007 : Int32)) fun x34 =>
    j42 x34 S33
def fX0_ways (N : Nat) (S : pH) (r0 : Option Nat) (x1 : Int32) : Option (Int32 × pH) :=
  chk S 0 r0 <|
  (fX0_joinArrows N S r0).bind fun S21 =>
  b2 (lX0_ways_8 N r0 x1 N (0 : Int32) (0 : Int32) S21) fun x37 S38 =>
  some (x37, S38)
theorem oX0_ways {N : Nat} {S : pH} {r0 : Option Nat} {x1 : Int32} {z : Int32 × pH} (h : fX0_ways N S r0 x1 = some z) : ∃ fs, obj S 0 r0 = some fs := by
  unfold fX0_ways at h
  exact (chk_spec h).1
set_option maxHeartbeats 1000000 in
set_option maxRecDepth 20000 in
theorem kX0_ways_8 {g : VG} {w : VW} {N : Nat} {r0 : Option Nat} {x1 : Int32} {v0 : Int32} {S0 : pH} (hC : Cx g yX0_ways cX0_ways 4 (some .int) rmX0_ways w) : ∀ (n : Nat) (x22 : Int32) (x23 : Int32) (S24 : pH) (z : (Int32 × pH)), lX0_ways_8 N r0 x1 n x22 x23 S24 = some z → (∀ (e0 : Int32) (e1 : pH), z = (e0, e1) → V g w 4 (Qm g w rmX0_ways.cells rmX0_ways.slots (some (.int v0)) S0) e1 0 0 48 [(2, .int e0)] []) → V g w 4 (Qm g w rmX0_ways.cells rmX0_ways.slots (some (.int v0)) S0) S24 0 0 8 [(0, va_rf r0), (1, .int x1), (2, .int x22), (3, .int x23)] [] := by
  intro n
  induction n with
  | zero => intro x22 x23 S24 z h; rw [lX0_ways_8] at h; cases h
  | succ n ih =>
    intro x22 x23 S24 z h K
    rw [lX0_ways_8] at h
    refine v_iload_n hC 8 3 dX0_ways_8 rfl ?_
    refine v_aload_n hC 9 0 dX0_ways_9 rfl ?_
    obtain ⟨x25, ex25, h⟩ := obn h
    refine gRX0_21 hC rfl 10 ex25 dX0_ways_10 ?_
    refine v_icmp_ge hC 13 48 dX0_ways_13 (by decide) (fun c36 => ?_) (fun c36 => ?_)
    · replace h := ifp h c36
      refine v_sub [(2, .int x22)] [2] rfl ?_
      exact K _ _ (sp1 h)
    · replace h := ifn h c36
      refine v_aload_n hC 16 0 dX0_ways_16 rfl ?_
      refine v_aload_n hC 17 0 dX0_ways_17 rfl ?_
      obtain ⟨r26, er26, h⟩ := obn h
      refine gRX0_11 hC rfl 18 er26 dX0_ways_18 ?_
      refine v_iload_n hC 21 3 dX0_ways_21 rfl ?_
      obtain ⟨x27, ex27, h⟩ := obn h
      refine v_iald hC 22 ex27 dX0_ways_22 ?_
      obtain ⟨x28, ex28, h⟩ := obn h
      refine qX0_55 hC rfl 23 ex28 (by decide) (catL (Nat.le_of_ble_eq_true rfl)) (by decide) dX0_ways_23 ?_
      refine v_iload_n hC 26 3 dX0_ways_26 rfl ?_
      obtain ⟨j42, f42, h⟩ := onm h
      have J42 : ∀ (x29 : Int32) (S30 : pH), j42 x29 S30 = some z → V g w 4 (Qm g w rmX0_ways.cells rmX0_ways.slots (some (.int v0)) S0) S30 0 0 42 [(0, va_rf r0), (1, .int x1), (2, .int x29), (3, .int x23)] [] := by
        intro x29 S30 h
        replace h := jb2 f42 h
        obtain ⟨x31, ex31, h⟩ := onm h
        refine v_iinc hC x31 [(3, .int x31), (0, va_rf r0), (1, .int x1), (2, .int x29)] 42 3 dX0_ways_42 rfl (by rw [ex31]; rfl) (by decide) rfl ?_
        refine v_goto hC 45 8 dX0_ways_45 (by decide) ?_
        refine v_sub [(0, va_rf r0), (1, .int x1), (2, .int x29), (3, .int x31)] [1, 2, 3, 0] rfl ?_
        exact ih _ _ _ _ h K
      refine v_icmp_ne hC 27 42 dX0_ways_27 (by decide) (fun c35 => ?_) (fun c35 => ?_)
      · replace h := ifp h c35
        refine v_sub [(0, va_rf r0), (1, .int x1), (2, .int x22), (3, .int x23)] [0, 1, 2, 3] rfl ?_
        exact J42 _ _ h
      · replace h := ifn h (fun q => q c35)
        refine v_iload_n hC 30 2 dX0_ways_30 rfl ?_
        refine v_aload_n hC 31 0 dX0_ways_31 rfl ?_
        refine v_iload_n hC 32 3 dX0_ways_32 rfl ?_
        refine v_iload_n hC 33 1 dX0_ways_33 rfl ?_
        obtain ⟨x32, S33, ex32, h⟩ := ob2 h
        refine qX0_59 hC rfl 34 ex32 (by decide) (catL (Nat.le_of_ble_eq_true rfl)) (by decide) dX0_ways_34 ?_
        refine v_iadd hC 37 dX0_ways_37 ?_
        refine v_ldc hC (v := (1000000007 : Int32)) 38 wG26 dX0_ways_38 ?_
        refine v_irem hC 40 (by decide) dX0_ways_40 ?_
        obtain ⟨x34, ex34, h⟩ := onm h
        refine v_topi x34 ex34 ?_
        refine v_istore_n hC [(2, .int x34), (0, va_rf r0), (1, .int x1), (3, .int x23)] 41 dX0_ways_41 (by decide) rfl ?_
        refine v_sub [(0, va_rf r0), (1, .int x1), (2, .int x34), (3, .int x23)] [1, 2, 0, 3] rfl ?_
        exact J42 _ _ h
set_option maxHeartbeats 1000000 in
set_option maxRecDepth 20000 in
theorem tX0_ways {l : Launch} {w : VW} {N : Nat} {S : pH} {r0 : Option Nat} {x1 : Int32} {v0 : Int32} {S0 : pH} (h : fX0_ways N S r0 x1 = some (v0, S0)) : CT l w yX0_ways cX0_ways 4 (some .int) rmX0_ways [va_rf r0, .int x1] S (some (.int v0)) S0 := by
  refine v_entry [(0, va_rf r0), (1, .int x1)] (by decide) (by simp [lg_sl, cat_rf, cat_i, cat_j]) (by simp [lv_args, cat_rf, cat_i, cat_j]) (fun g _ hC => ?_)
  unfold fX0_ways at h
  obtain ⟨hO, h⟩ := chk_spec h
  refine v_aload_n hC 0 0 dX0_ways_0 rfl ?_
  obtain ⟨S21, eS21, h⟩ := obn h
  refine qX0_52 hC rfl 1 eS21 (by decide) (catL (Nat.le_of_ble_eq_true rfl)) (by decide) dX0_ways_1 ?_
  refine v_iconst hC (0 : Int32) 4 dX0_ways_4 (by decide) ?_
  refine v_istore_n hC [(2, .int (0 : Int32)), (0, va_rf r0), (1, .int x1)] 5 dX0_ways_5 (by decide) rfl ?_
  refine v_iconst hC (0 : Int32) 6 dX0_ways_6 (by decide) ?_
  refine v_istore_n hC [(3, .int (0 : Int32)), (2, .int (0 : Int32)), (0, va_rf r0), (1, .int x1)] 7 dX0_ways_7 (by decide) rfl ?_
  obtain ⟨x37, S38, E8, h⟩ := ob2 h
  refine v_sub [(0, va_rf r0), (1, .int x1), (2, .int (0 : Int32)), (3, .int (0 : Int32))] [2, 3, 1, 0] rfl ?_
  refine kX0_ways_8 hC _ _ _ _ _ E8 (fun _ _ hz9 => ?_)
  cases hz9
  refine v_iload_n hC 48 0 dX0_ways_48 rfl ?_
  obtain ⟨rfl, rfl⟩ := sp2 h
  exact v_iret hC 49 (by decide) (by decide) dX0_ways_49
abbrev rmX1_init : Room := { frames := 1, cells := 0, slots := 0, locals := 12 }
theorem hdX1_init : yX1_init.cls ≠ "java/lang/invoke/MethodHandle" ∧ yX1_init.cls ≠ "java/lang/invoke/VarHandle" ∧ (parseMethodDescriptor yX1_init.desc).map (fun d => d.parameters.length) = some 3 := by decide +kernel
def fX1_init (N : Nat) (S : pH) (r0 : Option Nat) (r1 : Option Nat) (x2 : Int32) (x3 : Int32) : Option (pH) :=
  chk S 1 r0 <|
  (pfV S 1 0 r0 (va_rf r1)).bind fun S21 =>
  (pfV S21 1 1 r0 (.int x2)).bind fun S22 =>
  (pfV S22 1 2 r0 (.int x3)).bind fun S23 =>
  (pfV S23 1 3 r0 (.int (0 : Int32))).bind fun S24 =>
  some S24
theorem oX1_init {N : Nat} {S : pH} {r0 : Option Nat} {r1 : Option Nat} {x2 : Int32} {x3 : Int32} {z : pH} (h : fX1_init N S r0 r1 x2 x3 = some z) : ∃ fs, obj S 1 r0 = some fs := by
  unfold fX1_init at h
  exact (chk_spec h).1
set_option maxHeartbeats 1000000 in
set_option maxRecDepth 20000 in
theorem tX1_init {l : Launch} {w : VW} {N : Nat} {S : pH} {r0 : Option Nat} {r1 : Option Nat} {x2 : Int32} {x3 : Int32} {S0 : pH} (h : fX1_init N S r0 r1 x2 x3 = some S0) : CT l w yX1_init cX1_init 4 none rmX1_init [va_rf r0, va_rf r1, .int x2, .int x3] S none S0 := by
  refine v_entry [(0, va_rf r0), (1, va_rf r1), (2, .int x2), (3, .int x3)] (by decide) (by simp [lg_sl, cat_rf, cat_i, cat_j]) (by simp [lv_args, cat_rf, cat_i, cat_j]) (fun g _ hC => ?_)
  unfold fX1_init at h
  obtain ⟨hO, h⟩ := chk_spec h
  refine v_aload_n hC 0 0 dX1_init_0 rfl ?_
  refine v_objInit hC 1 wG27 wG20 wG21 (chk_ne hO) (by decide) (by simp [cat_rf, cat_i, cat_j]) dX1_init_1 ?_
  refine v_aload_n hC 4 0 dX1_init_4 rfl ?_
  refine v_aload_n hC 5 1 dX1_init_5 rfl ?_
  obtain ⟨S21, eS21, h⟩ := obn h
  refine pRX1_9 hC rfl 6 rfl eS21 dX1_init_6 ?_
  refine v_aload_n hC 9 0 dX1_init_9 rfl ?_
  refine v_iload_n hC 10 2 dX1_init_10 rfl ?_
  obtain ⟨S22, eS22, h⟩ := obn h
  refine pRX1_15 hC rfl 11 eS22 dX1_init_11 ?_
  refine v_aload_n hC 14 0 dX1_init_14 rfl ?_
  refine v_iload_n hC 15 3 dX1_init_15 rfl ?_
  obtain ⟨S23, eS23, h⟩ := obn h
  refine pRX1_19 hC rfl 16 eS23 dX1_init_16 ?_
  refine v_aload_n hC 19 0 dX1_init_19 rfl ?_
  refine v_iconst hC (0 : Int32) 20 dX1_init_20 (by decide) ?_
  obtain ⟨S24, eS24, h⟩ := obn h
  refine pRX1_22 hC rfl 21 eS24 dX1_init_21 ?_
  obtain rfl := sp1 h
  exact v_vret hC 24 (by decide) (by decide) dX1_init_24
abbrev rmX1_twistUpTo : Room := { frames := 0, cells := 0, slots := 0, locals := 0 }
theorem hdX1_twistUpTo : yX1_twistUpTo.cls ≠ "java/lang/invoke/MethodHandle" ∧ yX1_twistUpTo.cls ≠ "java/lang/invoke/VarHandle" ∧ (parseMethodDescriptor yX1_twistUpTo.desc).map (fun d => d.parameters.length) = some 1 := by decide +kernel
def fX1_twistUpTo (N : Nat) (S : pH) (r0 : Option Nat) (x1 : Int32) : Option (Int32) :=
  chk S 1 r0 <|
  (gfI S 1 1 r0).bind fun x21 =>
  if (1 : Int32) ≤ x21 then
  ((gfI S 1 3 r0).bind fun x22 =>
  (gfI S 1 1 r0).bind fun x23 =>
  if x23 = 0 then none else
  some ((x22 * x1) / x23))
  else
  some (0 : Int32)
theorem oX1_twistUpTo {N : Nat} {S : pH} {r0 : Option Nat} {x1 : Int32} {z : Int32} (h : fX1_twistUpTo N S r0 x1 = some z) : ∃ fs, obj S 1 r0 = some fs := by
  unfold fX1_twistUpTo at h
  exact (chk_spec h).1
set_option maxHeartbeats 1000000 in
set_option maxRecDepth 20000 in
theorem tX1_twistUpTo {l : Launch} {w : VW} {N : Nat} {S : pH} {r0 : Option Nat} {x1 : Int32} {v0 : Int32} (h : fX1_twistUpTo N S r0 x1 = some v0) : CT l w yX1_twistUpTo cX1_twistUpTo 2 (some .int) rmX1_twistUpTo [va_rf r0, .int x1] S (some (.int v0)) S := by
  refine v_entry [(0, va_rf r0), (1, .int x1)] (by decide) (by simp [lg_sl, cat_rf, cat_i, cat_j]) (by simp [lv_args, cat_rf, cat_i, cat_j]) (fun g _ hC => ?_)
  unfold fX1_twistUpTo at h
  obtain ⟨hO, h⟩ := chk_spec h
  refine v_aload_n hC 0 0 dX1_twistUpTo_0 rfl ?_
  obtain ⟨x21, ex21, h⟩ := obn h
  refine gRX1_15 hC rfl 1 ex21 dX1_twistUpTo_1 ?_
  refine v_iconst hC (1 : Int32) 4 dX1_twistUpTo_4 (by decide) ?_
  refine v_icmp_ge hC 5 12 dX1_twistUpTo_5 (by decide) (fun c25 => ?_) (fun c25 => ?_)
  · replace h := ifp h c25
    refine v_aload_n hC 12 0 dX1_twistUpTo_12 rfl ?_
    obtain ⟨x22, ex22, h⟩ := obn h
    refine gRX1_22 hC rfl 13 ex22 dX1_twistUpTo_13 ?_
    refine v_iload_n hC 16 1 dX1_twistUpTo_16 rfl ?_
    refine v_imul hC 17 dX1_twistUpTo_17 ?_
    refine v_aload_n hC 18 0 dX1_twistUpTo_18 rfl ?_
    obtain ⟨x23, ex23, h⟩ := obn h
    refine gRX1_15 hC rfl 19 ex23 dX1_twistUpTo_19 ?_
    have c24 : ¬ x23 = 0 := fun q => absurd (ifp h q) (by simp)
    replace h := ifn h c24
    refine v_idiv hC 22 c24 dX1_twistUpTo_22 ?_
    obtain rfl := sp1 h
    exact v_iret hC 23 (by decide) (by decide) dX1_twistUpTo_23
  · replace h := ifn h c25
    refine v_iconst hC (0 : Int32) 8 dX1_twistUpTo_8 (by decide) ?_
    refine v_goto hC 9 23 dX1_twistUpTo_9 (by decide) ?_
    obtain rfl := sp1 h
    exact v_iret hC 23 (by decide) (by decide) dX1_twistUpTo_23
abbrev rmX1_volumeOfCell : Room := { frames := 0, cells := 0, slots := 0, locals := 0 }
theorem hdX1_volumeOfCell : yX1_volumeOfCell.cls ≠ "java/lang/invoke/MethodHandle" ∧ yX1_volumeOfCell.cls ≠ "java/lang/invoke/VarHandle" ∧ (parseMethodDescriptor yX1_volumeOfCell.desc).map (fun d => d.parameters.length) = some 1 := by decide +kernel
def fX1_volumeOfCell (N : Nat) (S : pH) (r0 : Option Nat) (x1 : Int32) : Option (Int64) :=
  chk S 1 r0 <|
  (gfI S 1 2 r0).bind fun x21 =>
  if (1 : Int32) ≤ x21 then
  ((gfI S 1 2 r0).bind fun x22 =>
  if x22 = 0 then none else
  some ((x1.toInt64) * (((4096 : Int32) / x22).toInt64)))
  else
  some (0 : Int64)
theorem oX1_volumeOfCell {N : Nat} {S : pH} {r0 : Option Nat} {x1 : Int32} {z : Int64} (h : fX1_volumeOfCell N S r0 x1 = some z) : ∃ fs, obj S 1 r0 = some fs := by
  unfold fX1_volumeOfCell at h
  exact (chk_spec h).1
set_option maxHeartbeats 1000000 in
set_option maxRecDepth 20000 in
theorem tX1_volumeOfCell {l : Launch} {w : VW} {N : Nat} {S : pH} {r0 : Option Nat} {x1 : Int32} {v0 : Int64} (h : fX1_volumeOfCell N S r0 x1 = some v0) : CT l w yX1_volumeOfCell cX1_volumeOfCell 2 (some .long) rmX1_volumeOfCell [va_rf r0, .int x1] S (some (.long v0)) S := by
  refine v_entry [(0, va_rf r0), (1, .int x1)] (by decide) (by simp [lg_sl, cat_rf, cat_i, cat_j]) (by simp [lv_args, cat_rf, cat_i, cat_j]) (fun g _ hC => ?_)
  unfold fX1_volumeOfCell at h
  obtain ⟨hO, h⟩ := chk_spec h
  refine v_aload_n hC 0 0 dX1_volumeOfCell_0 rfl ?_
  obtain ⟨x21, ex21, h⟩ := obn h
  refine gRX1_19 hC rfl 1 ex21 dX1_volumeOfCell_1 ?_
  refine v_iconst hC (1 : Int32) 4 dX1_volumeOfCell_4 (by decide) ?_
  refine v_icmp_ge hC 5 12 dX1_volumeOfCell_5 (by decide) (fun c24 => ?_) (fun c24 => ?_)
  · replace h := ifp h c24
    refine v_iload_n hC 12 1 dX1_volumeOfCell_12 rfl ?_
    refine v_i2l hC 13 dX1_volumeOfCell_13 ?_
    refine v_sipush hC (4096 : Int32) 14 dX1_volumeOfCell_14 (by decide) ?_
    refine v_aload_n hC 17 0 dX1_volumeOfCell_17 rfl ?_
    obtain ⟨x22, ex22, h⟩ := obn h
    refine gRX1_19 hC rfl 18 ex22 dX1_volumeOfCell_18 ?_
    have c23 : ¬ x22 = 0 := fun q => absurd (ifp h q) (by simp)
    replace h := ifn h c23
    refine v_idiv hC 21 c23 dX1_volumeOfCell_21 ?_
    refine v_i2l hC 22 dX1_volumeOfCell_22 ?_
    refine v_lmul hC 23 dX1_volumeOfCell_23 ?_
    obtain rfl := sp1 h
    exact v_lret hC 24 (by decide) (by decide) dX1_volumeOfCell_24
  · replace h := ifn h c24
    refine v_lconst hC (0 : Int64) 8 dX1_volumeOfCell_8 (by decide) ?_
    refine v_goto hC 9 24 dX1_volumeOfCell_9 (by decide) ?_
    obtain rfl := sp1 h
    exact v_lret hC 24 (by decide) (by decide) dX1_volumeOfCell_24
abbrev rmX2_isCell : Room := { frames := 0, cells := 0, slots := 0, locals := 0 }
theorem hdX2_isCell : yX2_isCell.cls ≠ "java/lang/invoke/MethodHandle" ∧ yX2_isCell.cls ≠ "java/lang/invoke/VarHandle" ∧ (parseMethodDescriptor yX2_isCell.desc).map (fun d => d.parameters.length) = some 1 := by decide +kernel
def fX2_isCell (N : Nat) (S : pH) (x0 : Int32) : Option (Int32) :=
  if x0 < 0 then
  (some (0 : Int32))
  else
  if (64 : Int32) ≤ x0 then
  (some (0 : Int32))
  else
  some (1 : Int32)
set_option maxHeartbeats 1000000 in
set_option maxRecDepth 20000 in
theorem tX2_isCell {l : Launch} {w : VW} {N : Nat} {S : pH} {x0 : Int32} {v0 : Int32} (h : fX2_isCell N S x0 = some v0) : CT l w yX2_isCell cX2_isCell 1 (some .boolean) rmX2_isCell [.int x0] S (some (.int v0)) S := by
  refine v_entry [(0, .int x0)] (by decide) (by simp [lg_sl, cat_rf, cat_i, cat_j]) (by simp [lv_args, cat_rf, cat_i, cat_j]) (fun g _ hC => ?_)
  unfold fX2_isCell at h
  refine v_iload_n hC 0 0 dX2_isCell_0 rfl ?_
  refine v_if_lt hC 1 14 dX2_isCell_1 (by decide) (fun c22 => ?_) (fun c22 => ?_)
  · replace h := ifp h c22
    refine v_iconst hC (0 : Int32) 14 dX2_isCell_14 (by decide) ?_
    obtain rfl := sp1 h
    exact v_zret hC 15 (by decide) (by decide) (by decide) dX2_isCell_15
  · replace h := ifn h c22
    refine v_iload_n hC 4 0 dX2_isCell_4 rfl ?_
    refine v_bipush hC (64 : Int32) 5 dX2_isCell_5 (by decide) ?_
    refine v_icmp_ge hC 7 14 dX2_isCell_7 (by decide) (fun c21 => ?_) (fun c21 => ?_)
    · replace h := ifp h c21
      refine v_iconst hC (0 : Int32) 14 dX2_isCell_14 (by decide) ?_
      obtain rfl := sp1 h
      exact v_zret hC 15 (by decide) (by decide) (by decide) dX2_isCell_15
    · replace h := ifn h c21
      refine v_iconst hC (1 : Int32) 10 dX2_isCell_10 (by decide) ?_
      refine v_goto hC 11 15 dX2_isCell_11 (by decide) ?_
      obtain rfl := sp1 h
      exact v_zret hC 15 (by decide) (by decide) (by decide) dX2_isCell_15
set_option maxRecDepth 20000 in
theorem qX2_47 {g : VG} {w : VW} {nL : Nat} {Q : State → Prop} {S : pH} {kc ks : Nat} {lv : List (Nat × Value)} {rest : List Value} {y : MethodName} {cc : ByteArray} {rt : Option FieldType} {rm : Room} (hC : Cx g y cc nL rt rm w) (hy : y.cls = RX2) (pc : Nat) {N : Nat} {x0 : Int32} {v0 : Int32} (h : fX2_isCell N S x0 = some v0) (hR : rmX2_isCell.frames + 1 ≤ rm.frames ∧ 8 + (1 + 11) + rmX2_isCell.locals ≤ rm.locals) (hst : (rest.map fun v => v.category).sum ≤ 8) (hf : kc + 0 ≤ rm.cells ∧ ks + 0 ≤ rm.slots) (d : decode cc pc = .ok (.invokestatic 47, 3)) (K : V g w nL Q S kc ks (pc + 3) lv (.int v0 :: rest)) : V g w nL Q S kc ks pc lv (.int x0 :: rest) := by
  exact v_callS (As := [.int x0]) (rest := rest) hC pc (tX2_isCell (l := g.2.1) (w := w) h) wG219 (by rw [hy]; exact wG218) wG220 wG116 hdX2_isCell rfl hR hst hf d K
abbrev rmX2_changePairs : Room := { frames := 1, cells := 0, slots := 0, locals := 20 }
theorem hdX2_changePairs : yX2_changePairs.cls ≠ "java/lang/invoke/MethodHandle" ∧ yX2_changePairs.cls ≠ "java/lang/invoke/VarHandle" ∧ (parseMethodDescriptor yX2_changePairs.desc).map (fun d => d.parameters.length) = some 1 := by decide +kernel
def lX2_changePairs_4 (N : Nat) (r0 : Option Nat) : Nat → Int32 → Int32 → pH → Option (Sum (pH) (pH))
  | 0, _, _, _ => none
  | n + 1, x21, x22, S23 =>
    if (64 : Int32) ≤ x22 then
    (some (.inl S23))
    else
    (fX2_isCell N S23 x21).bind fun x24 =>
    if x24 = 0 then
    (some (.inl S23))
    else
    (gfR S23 2 1 r0).bind fun r25 =>
    (ldI S23 0 r25 x21).bind fun x26 =>
    (fX2_isCell N S23 x26).bind fun x27 =>
    if ¬ x27 = 0 then
    ((gfR S23 2 0 r0).bind fun r28 =>
    (ldI S23 0 r28 x26).bind fun x29 =>
    (gfR S23 2 0 r0).bind fun r30 =>
    (stI S23 r30 x21 x26).bind fun S31 =>
    (gfR S31 2 0 r0).bind fun r32 =>
    (stI S31 r32 x26 x21).bind fun S33 =>
    nm (x22 + (1 : Int32)) fun x34 =>
    lX2_changePairs_4 N r0 n x29 x34 S33)
    else
    some (.inr S23)
def fX2_changePairs (N : Nat) (S : pH) (r0 : Option Nat) (x1 : Int32) : Option (pH) :=
  chk S 2 r0 <|
  bS1 (lX2_changePairs_4 N r0 N x1 (0 : Int32) S) (fun r9 => some r9) fun S38 =>
  some S38
theorem oX2_changePairs {N : Nat} {S : pH} {r0 : Option Nat} {x1 : Int32} {z : pH} (h : fX2_changePairs N S r0 x1 = some z) : ∃ fs, obj S 2 r0 = some fs := by
  unfold fX2_changePairs at h
  exact (chk_spec h).1
set_option maxHeartbeats 1000000 in
set_option maxRecDepth 20000 in
theorem kX2_changePairs_4 {g : VG} {w : VW} {N : Nat} {r0 : Option Nat} {S0 : pH} (hC : Cx g yX2_changePairs cX2_changePairs 6 none rmX2_changePairs w) : ∀ (n : Nat) (x21 : Int32) (x22 : Int32) (S23 : pH) (z : (Sum (pH) (pH))), lX2_changePairs_4 N r0 n x21 x22 S23 = some z → (∀ (e0 : pH), z = .inl e0 → V g w 6 (Qm g w rmX2_changePairs.cells rmX2_changePairs.slots none S0) e0 0 0 68 [] []) → (∀ (S1 : pH), z = .inr S1 → S0 = S1) → V g w 6 (Qm g w rmX2_changePairs.cells rmX2_changePairs.slots none S0) S23 0 0 4 [(0, va_rf r0), (2, .int x21), (3, .int x22)] [] := by
  intro n
  induction n with
  | zero => intro x21 x22 S23 z h; rw [lX2_changePairs_4] at h; cases h
  | succ n ih =>
    intro x21 x22 S23 z h K hR
    rw [lX2_changePairs_4] at h
    refine v_iload_n hC 4 2 dX2_changePairs_4 rfl ?_
    refine v_bipush hC (64 : Int32) 5 dX2_changePairs_5 (by decide) ?_
    refine v_icmp_ge hC 7 68 dX2_changePairs_7 (by decide) (fun c37 => ?_) (fun c37 => ?_)
    · replace h := ifp h c37
      refine v_sub [] [] rfl ?_
      exact K _ (sp1 h)
    · replace h := ifn h c37
      refine v_iload_n hC 10 1 dX2_changePairs_10 rfl ?_
      obtain ⟨x24, ex24, h⟩ := obn h
      refine qX2_47 hC rfl 11 ex24 (by decide) (catL (Nat.le_of_ble_eq_true rfl)) (by decide) dX2_changePairs_11 ?_
      refine v_if_eq hC 14 68 dX2_changePairs_14 (by decide) (fun c36 => ?_) (fun c36 => ?_)
      · replace h := ifp h c36
        refine v_sub [] [] rfl ?_
        exact K _ (sp1 h)
      · replace h := ifn h c36
        refine v_aload_n hC 17 0 dX2_changePairs_17 rfl ?_
        obtain ⟨r25, er25, h⟩ := obn h
        refine gRX2_15 hC rfl 18 er25 dX2_changePairs_18 ?_
        refine v_iload_n hC 21 1 dX2_changePairs_21 rfl ?_
        obtain ⟨x26, ex26, h⟩ := obn h
        refine v_iald hC 22 ex26 dX2_changePairs_22 ?_
        refine v_istore hC [(4, .int x26), (0, va_rf r0), (2, .int x21), (3, .int x22)] 23 dX2_changePairs_23 (by decide) rfl ?_
        refine v_iload hC 25 0 dX2_changePairs_25 rfl ?_
        obtain ⟨x27, ex27, h⟩ := obn h
        refine qX2_47 hC rfl 27 ex27 (by decide) (catL (Nat.le_of_ble_eq_true rfl)) (by decide) dX2_changePairs_27 ?_
        refine v_if_ne hC 30 34 dX2_changePairs_30 (by decide) (fun c35 => ?_) (fun c35 => ?_)
        · replace h := ifp h c35
          refine v_aload_n hC 34 1 dX2_changePairs_34 rfl ?_
          obtain ⟨r28, er28, h⟩ := obn h
          refine gRX2_9 hC rfl 35 er28 dX2_changePairs_35 ?_
          refine v_iload hC 38 0 dX2_changePairs_38 rfl ?_
          obtain ⟨x29, ex29, h⟩ := obn h
          refine v_iald hC 40 ex29 dX2_changePairs_40 ?_
          refine v_istore hC [(5, .int x29), (4, .int x26), (0, va_rf r0), (2, .int x21), (3, .int x22)] 41 dX2_changePairs_41 (by decide) rfl ?_
          refine v_aload_n hC 43 2 dX2_changePairs_43 rfl ?_
          obtain ⟨r30, er30, h⟩ := obn h
          refine gRX2_9 hC rfl 44 er30 dX2_changePairs_44 ?_
          refine v_iload_n hC 47 3 dX2_changePairs_47 rfl ?_
          refine v_iload hC 48 1 dX2_changePairs_48 rfl ?_
          obtain ⟨S31, eS31, h⟩ := obn h
          refine v_iast hC 50 eS31 dX2_changePairs_50 ?_
          refine v_aload_n hC 51 2 dX2_changePairs_51 rfl ?_
          obtain ⟨r32, er32, h⟩ := obn h
          refine gRX2_9 hC rfl 52 er32 dX2_changePairs_52 ?_
          refine v_iload hC 55 1 dX2_changePairs_55 rfl ?_
          refine v_iload_n hC 57 3 dX2_changePairs_57 rfl ?_
          obtain ⟨S33, eS33, h⟩ := obn h
          refine v_iast hC 58 eS33 dX2_changePairs_58 ?_
          refine v_iload hC 59 0 dX2_changePairs_59 rfl ?_
          refine v_istore_n hC [(2, .int x29), (5, .int x29), (4, .int x26), (0, va_rf r0), (3, .int x22)] 61 dX2_changePairs_61 (by decide) rfl ?_
          obtain ⟨x34, ex34, h⟩ := onm h
          refine v_iinc hC x34 [(3, .int x34), (2, .int x29), (5, .int x29), (4, .int x26), (0, va_rf r0)] 62 4 dX2_changePairs_62 rfl (by rw [ex34]; rfl) (by decide) rfl ?_
          refine v_goto hC 65 4 dX2_changePairs_65 (by decide) ?_
          refine v_sub [(0, va_rf r0), (2, .int x29), (3, .int x34)] [4, 1, 0] rfl ?_
          exact ih _ _ _ _ h K hR
        · replace h := ifn h (fun q => q c35)
          obtain rfl := hR _ (sp1 h)
          exact v_vret hC 33 (by decide) (by decide) dX2_changePairs_33
set_option maxHeartbeats 1000000 in
set_option maxRecDepth 20000 in
theorem tX2_changePairs {l : Launch} {w : VW} {N : Nat} {S : pH} {r0 : Option Nat} {x1 : Int32} {S0 : pH} (h : fX2_changePairs N S r0 x1 = some S0) : CT l w yX2_changePairs cX2_changePairs 6 none rmX2_changePairs [va_rf r0, .int x1] S none S0 := by
  refine v_entry [(0, va_rf r0), (1, .int x1)] (by decide) (by simp [lg_sl, cat_rf, cat_i, cat_j]) (by simp [lv_args, cat_rf, cat_i, cat_j]) (fun g _ hC => ?_)
  unfold fX2_changePairs at h
  obtain ⟨hO, h⟩ := chk_spec h
  refine v_iload_n hC 0 1 dX2_changePairs_0 rfl ?_
  refine v_istore_n hC [(2, .int x1), (0, va_rf r0), (1, .int x1)] 1 dX2_changePairs_1 (by decide) rfl ?_
  refine v_iconst hC (0 : Int32) 2 dX2_changePairs_2 (by decide) ?_
  refine v_istore_n hC [(3, .int (0 : Int32)), (2, .int x1), (0, va_rf r0), (1, .int x1)] 3 dX2_changePairs_3 (by decide) rfl ?_
  rcases obS1 h with ⟨S38, E4, h⟩ | ⟨r9, E4, h⟩
  · refine v_sub [(0, va_rf r0), (2, .int x1), (3, .int (0 : Int32))] [2, 1, 0] rfl ?_
    refine kX2_changePairs_4 hC _ _ _ _ _ E4 (fun _ hz9 => ?_) (fun _ hz9 => by cases hz9)
    cases hz9
    obtain rfl := sp1 h
    exact v_vret hC 68 (by decide) (by decide) dX2_changePairs_68
  · refine v_sub [(0, va_rf r0), (2, .int x1), (3, .int (0 : Int32))] [2, 1, 0] rfl ?_
    exact kX2_changePairs_4 hC _ _ _ _ _ E4 (fun _ hz9 => by cases hz9) (fun _ hz9 => by cases hz9; cases h; exact rfl)
abbrev rmX8_isWithin : Room := { frames := 0, cells := 0, slots := 0, locals := 0 }
theorem hdX8_isWithin : yX8_isWithin.cls ≠ "java/lang/invoke/MethodHandle" ∧ yX8_isWithin.cls ≠ "java/lang/invoke/VarHandle" ∧ (parseMethodDescriptor yX8_isWithin.desc).map (fun d => d.parameters.length) = some 3 := by decide +kernel
def fX8_isWithin (N : Nat) (S : pH) (x0 : Int32) (x1 : Int32) (x2 : Int32) : Option (Int32) :=
  if x0 < x1 then
  (some (0 : Int32))
  else
  if x2 < x0 then
  (some (0 : Int32))
  else
  some (1 : Int32)
set_option maxHeartbeats 1000000 in
set_option maxRecDepth 20000 in
theorem tX8_isWithin {l : Launch} {w : VW} {N : Nat} {S : pH} {x0 : Int32} {x1 : Int32} {x2 : Int32} {v0 : Int32} (h : fX8_isWithin N S x0 x1 x2 = some v0) : CT l w yX8_isWithin cX8_isWithin 3 (some .boolean) rmX8_isWithin [.int x0, .int x1, .int x2] S (some (.int v0)) S := by
  refine v_entry [(0, .int x0), (1, .int x1), (2, .int x2)] (by decide) (by simp [lg_sl, cat_rf, cat_i, cat_j]) (by simp [lv_args, cat_rf, cat_i, cat_j]) (fun g _ hC => ?_)
  unfold fX8_isWithin at h
  refine v_iload_n hC 0 0 dX8_isWithin_0 rfl ?_
  refine v_iload_n hC 1 1 dX8_isWithin_1 rfl ?_
  refine v_icmp_lt hC 2 14 dX8_isWithin_2 (by decide) (fun c22 => ?_) (fun c22 => ?_)
  · replace h := ifp h c22
    refine v_iconst hC (0 : Int32) 14 dX8_isWithin_14 (by decide) ?_
    obtain rfl := sp1 h
    exact v_zret hC 15 (by decide) (by decide) (by decide) dX8_isWithin_15
  · replace h := ifn h c22
    refine v_iload_n hC 5 0 dX8_isWithin_5 rfl ?_
    refine v_iload_n hC 6 2 dX8_isWithin_6 rfl ?_
    refine v_icmp_gt hC 7 14 dX8_isWithin_7 (by decide) (fun c21 => ?_) (fun c21 => ?_)
    · replace h := ifp h c21
      refine v_iconst hC (0 : Int32) 14 dX8_isWithin_14 (by decide) ?_
      obtain rfl := sp1 h
      exact v_zret hC 15 (by decide) (by decide) (by decide) dX8_isWithin_15
    · replace h := ifn h c21
      refine v_iconst hC (1 : Int32) 10 dX8_isWithin_10 (by decide) ?_
      refine v_goto hC 11 15 dX8_isWithin_11 (by decide) ?_
      obtain rfl := sp1 h
      exact v_zret hC 15 (by decide) (by decide) (by decide) dX8_isWithin_15
set_option maxRecDepth 20000 in
theorem qX8_81 {g : VG} {w : VW} {nL : Nat} {Q : State → Prop} {S : pH} {kc ks : Nat} {lv : List (Nat × Value)} {rest : List Value} {y : MethodName} {cc : ByteArray} {rt : Option FieldType} {rm : Room} (hC : Cx g y cc nL rt rm w) (hy : y.cls = RX8) (pc : Nat) {N : Nat} {x0 : Int32} {x1 : Int32} {x2 : Int32} {v0 : Int32} (h : fX8_isWithin N S x0 x1 x2 = some v0) (hR : rmX8_isWithin.frames + 1 ≤ rm.frames ∧ 8 + (3 + 11) + rmX8_isWithin.locals ≤ rm.locals) (hst : (rest.map fun v => v.category).sum ≤ 8) (hf : kc + 0 ≤ rm.cells ∧ ks + 0 ≤ rm.slots) (d : decode cc pc = .ok (.invokestatic 81, 3)) (K : V g w nL Q S kc ks (pc + 3) lv (.int v0 :: rest)) : V g w nL Q S kc ks pc lv (.int x2 :: .int x1 :: .int x0 :: rest) := by
  exact v_callS (As := [.int x0, .int x1, .int x2]) (rest := rest) hC pc (tX8_isWithin (l := g.2.1) (w := w) h) wG222 (by rw [hy]; exact wG221) wG223 wG197 hdX8_isWithin rfl hR hst hf d K
abbrev rmX8_isGlass : Room := { frames := 1, cells := 0, slots := 0, locals := 22 }
theorem hdX8_isGlass : yX8_isGlass.cls ≠ "java/lang/invoke/MethodHandle" ∧ yX8_isGlass.cls ≠ "java/lang/invoke/VarHandle" ∧ (parseMethodDescriptor yX8_isGlass.desc).map (fun d => d.parameters.length) = some 1 := by decide +kernel
def fX8_isGlass (N : Nat) (S : pH) (x0 : Int32) : Option (Int32) :=
  (fX8_isWithin N S x0 (1 : Int32) (8 : Int32)).bind fun x21 =>
  if x21 = 0 ∨ x21 = 1 then some x21 else none
set_option maxHeartbeats 1000000 in
set_option maxRecDepth 20000 in
theorem tX8_isGlass {l : Launch} {w : VW} {N : Nat} {S : pH} {x0 : Int32} {v0 : Int32} (h : fX8_isGlass N S x0 = some v0) : CT l w yX8_isGlass cX8_isGlass 1 (some .boolean) rmX8_isGlass [.int x0] S (some (.int v0)) S := by
  refine v_entry [(0, .int x0)] (by decide) (by simp [lg_sl, cat_rf, cat_i, cat_j]) (by simp [lv_args, cat_rf, cat_i, cat_j]) (fun g _ hC => ?_)
  unfold fX8_isGlass at h
  refine v_iload_n hC 0 0 dX8_isGlass_0 rfl ?_
  refine v_iconst hC (1 : Int32) 1 dX8_isGlass_1 (by decide) ?_
  refine v_bipush hC (8 : Int32) 2 dX8_isGlass_2 (by decide) ?_
  obtain ⟨x21, ex21, h⟩ := obn h
  refine qX8_81 hC rfl 4 ex21 (by decide) (catL (Nat.le_of_ble_eq_true rfl)) (by decide) dX8_isGlass_4 ?_
  obtain ⟨hz9, h⟩ := if0 h
  obtain rfl := sp1 h
  exact v_zret hC 7 (by decide) (by decide) hz9 dX8_isGlass_7
set_option maxRecDepth 20000 in
theorem qX3_29 {g : VG} {w : VW} {nL : Nat} {Q : State → Prop} {S : pH} {kc ks : Nat} {lv : List (Nat × Value)} {rest : List Value} {y : MethodName} {cc : ByteArray} {rt : Option FieldType} {rm : Room} (hC : Cx g y cc nL rt rm w) (hy : y.cls = RX3) (pc : Nat) {N : Nat} {x0 : Int32} {v0 : Int32} (h : fX8_isGlass N S x0 = some v0) (hR : rmX8_isGlass.frames + 1 ≤ rm.frames ∧ 8 + (1 + 11) + rmX8_isGlass.locals ≤ rm.locals) (hst : (rest.map fun v => v.category).sum ≤ 8) (hf : kc + 0 ≤ rm.cells ∧ ks + 0 ≤ rm.slots) (d : decode cc pc = .ok (.invokestatic 29, 3)) (K : V g w nL Q S kc ks (pc + 3) lv (.int v0 :: rest)) : V g w nL Q S kc ks pc lv (.int x0 :: rest) := by
  exact v_callSN (As := [.int x0]) (rest := rest) hC pc (tX8_isGlass (l := g.2.1) (w := w) h) wG225 (by rw [hy]; exact wG224) wG226 wG197 hdX8_isGlass rfl hR hst hf d K
abbrev rmX3_crackEachOther : Room := { frames := 2, cells := 0, slots := 0, locals := 42 }
theorem hdX3_crackEachOther : yX3_crackEachOther.cls ≠ "java/lang/invoke/MethodHandle" ∧ yX3_crackEachOther.cls ≠ "java/lang/invoke/VarHandle" ∧ (parseMethodDescriptor yX3_crackEachOther.desc).map (fun d => d.parameters.length) = some 2 := by decide +kernel
def fX3_crackEachOther (N : Nat) (S : pH) (r0 : Option Nat) (x1 : Int32) (x2 : Int32) : Option (Int32) :=
  chk S 3 r0 <|
  (fX8_isGlass N S x1).bind fun x21 =>
  if x21 = 0 then
  (some (0 : Int32))
  else
  (fX8_isGlass N S x2).bind fun x22 =>
  if x22 = 0 then
  (some (0 : Int32))
  else
  (gfR S 3 0 r0).bind fun r23 =>
  (ldI S 0 r23 x1).bind fun x24 =>
  (gfR S 3 0 r0).bind fun r25 =>
  (ldI S 0 r25 x2).bind fun x26 =>
  (gfI S 3 4 r0).bind fun x27 =>
  if (mabs (x24 - x26)) ≤ x27 then
  (some (0 : Int32))
  else
  some (1 : Int32)
theorem oX3_crackEachOther {N : Nat} {S : pH} {r0 : Option Nat} {x1 : Int32} {x2 : Int32} {z : Int32} (h : fX3_crackEachOther N S r0 x1 x2 = some z) : ∃ fs, obj S 3 r0 = some fs := by
  unfold fX3_crackEachOther at h
  exact (chk_spec h).1
set_option maxHeartbeats 1000000 in
set_option maxRecDepth 20000 in
theorem tX3_crackEachOther {l : Launch} {w : VW} {N : Nat} {S : pH} {r0 : Option Nat} {x1 : Int32} {x2 : Int32} {v0 : Int32} (h : fX3_crackEachOther N S r0 x1 x2 = some v0) : CT l w yX3_crackEachOther cX3_crackEachOther 3 (some .boolean) rmX3_crackEachOther [va_rf r0, .int x1, .int x2] S (some (.int v0)) S := by
  refine v_entry [(0, va_rf r0), (1, .int x1), (2, .int x2)] (by decide) (by simp [lg_sl, cat_rf, cat_i, cat_j]) (by simp [lv_args, cat_rf, cat_i, cat_j]) (fun g _ hC => ?_)
  unfold fX3_crackEachOther at h
  obtain ⟨hO, h⟩ := chk_spec h
  refine v_iload_n hC 0 1 dX3_crackEachOther_0 rfl ?_
  obtain ⟨x21, ex21, h⟩ := obn h
  refine qX3_29 hC rfl 1 ex21 (by decide) (catL (Nat.le_of_ble_eq_true rfl)) (by decide) dX3_crackEachOther_1 ?_
  refine v_if_eq hC 4 41 dX3_crackEachOther_4 (by decide) (fun c30 => ?_) (fun c30 => ?_)
  · replace h := ifp h c30
    refine v_iconst hC (0 : Int32) 41 dX3_crackEachOther_41 (by decide) ?_
    obtain rfl := sp1 h
    exact v_zret hC 42 (by decide) (by decide) (by decide) dX3_crackEachOther_42
  · replace h := ifn h c30
    refine v_iload_n hC 7 2 dX3_crackEachOther_7 rfl ?_
    obtain ⟨x22, ex22, h⟩ := obn h
    refine qX3_29 hC rfl 8 ex22 (by decide) (catL (Nat.le_of_ble_eq_true rfl)) (by decide) dX3_crackEachOther_8 ?_
    refine v_if_eq hC 11 41 dX3_crackEachOther_11 (by decide) (fun c29 => ?_) (fun c29 => ?_)
    · replace h := ifp h c29
      refine v_iconst hC (0 : Int32) 41 dX3_crackEachOther_41 (by decide) ?_
      obtain rfl := sp1 h
      exact v_zret hC 42 (by decide) (by decide) (by decide) dX3_crackEachOther_42
    · replace h := ifn h c29
      refine v_aload_n hC 14 0 dX3_crackEachOther_14 rfl ?_
      obtain ⟨r23, er23, h⟩ := obn h
      refine gRX3_9 hC rfl 15 er23 dX3_crackEachOther_15 ?_
      refine v_iload_n hC 18 1 dX3_crackEachOther_18 rfl ?_
      obtain ⟨x24, ex24, h⟩ := obn h
      refine v_iald hC 19 ex24 dX3_crackEachOther_19 ?_
      refine v_aload_n hC 20 0 dX3_crackEachOther_20 rfl ?_
      obtain ⟨r25, er25, h⟩ := obn h
      refine gRX3_9 hC rfl 21 er25 dX3_crackEachOther_21 ?_
      refine v_iload_n hC 24 2 dX3_crackEachOther_24 rfl ?_
      obtain ⟨x26, ex26, h⟩ := obn h
      refine v_iald hC 25 ex26 dX3_crackEachOther_25 ?_
      refine v_isub hC 26 dX3_crackEachOther_26 ?_
      refine v_mabs hC 27 wG35 wG36 wG13 wG37 (by decide) (Nat.le_of_ble_eq_true rfl) (by decide) (by decide) dX3_crackEachOther_27 ?_
      refine v_aload_n hC 30 0 dX3_crackEachOther_30 rfl ?_
      obtain ⟨x27, ex27, h⟩ := obn h
      refine gRX3_25 hC rfl 31 ex27 dX3_crackEachOther_31 ?_
      refine v_icmp_le hC 34 41 dX3_crackEachOther_34 (by decide) (fun c28 => ?_) (fun c28 => ?_)
      · replace h := ifp h c28
        refine v_iconst hC (0 : Int32) 41 dX3_crackEachOther_41 (by decide) ?_
        obtain rfl := sp1 h
        exact v_zret hC 42 (by decide) (by decide) (by decide) dX3_crackEachOther_42
      · replace h := ifn h c28
        refine v_iconst hC (1 : Int32) 37 dX3_crackEachOther_37 (by decide) ?_
        refine v_goto hC 38 42 dX3_crackEachOther_38 (by decide) ?_
        obtain rfl := sp1 h
        exact v_zret hC 42 (by decide) (by decide) (by decide) dX3_crackEachOther_42
