abbrev rmX9_stepOn : Room := { frames := 2, cells := 0, slots := 0, locals := 47 }
theorem hdX9_stepOn : yX9_stepOn.cls ≠ "java/lang/invoke/MethodHandle" ∧ yX9_stepOn.cls ≠ "java/lang/invoke/VarHandle" ∧ (parseMethodDescriptor yX9_stepOn.desc).map (fun d => d.parameters.length) = some 2 := by decide +kernel
def lX9_stepOn_28 (N : Nat) (r0 : Option Nat) (x2 : Int32) (x3 : Int32) : Nat → Int32 → pH → Option (pH)
  | 0, _, _ => none
  | n + 1, x28, S29 =>
    if (64 : Int32) ≤ x28 then
    (some S29)
    else
    (gfR S29 9 27 r0).bind fun r30 =>
    (ldI S29 1 r30 (((64 : Int32) * x28) + x3)).bind fun x31 =>
    nm (fun (S32 : pH) =>
    nm (x28 + (1 : Int32)) fun x33 =>
    lX9_stepOn_28 N r0 x2 x3 n x33 S32) fun j151 =>
    if x31 = 0 then
    (j151 S29)
    else
    if ¬ x2 = 0 then
    ((gfR S29 9 28 r0).bind fun r34 =>
    (ldJ S29 r34 x28).bind fun j35 =>
    if (lg_cmp j35 (0 : Int64)) < 0 then
    (j151 S29)
    else
    (gfR S29 9 28 r0).bind fun r36 =>
    (ldJ S29 r36 x28).bind fun j37 =>
    (fX9_costs N S29 r0 (x3 / (4 : Int32))).bind fun x38 =>
    nm (j37 + (x38.toInt64)) fun j39 =>
    (gfR S29 9 29 r0).bind fun r40 =>
    (gfR S29 9 29 r0).bind fun r41 =>
    (ldJ S29 r41 x3).bind fun j42 =>
    nm (fun (r43 : Option Nat) (x44 : Int32) (j45 : Int64) =>
    (stJ S29 r43 x44 j45).bind fun S46 =>
    j151 S46) fun j150 =>
    nm (fun (r47 : Option Nat) (x48 : Int32) =>
    j150 r47 x48 j39) fun j139 =>
    if (lg_cmp j42 (0 : Int64)) < 0 then
    (j139 r40 x3)
    else
    (gfR S29 9 29 r0).bind fun r49 =>
    (ldJ S29 r49 x3).bind fun j50 =>
    if 0 ≤ (lg_cmp j39 j50) then
    ((gfR S29 9 29 r0).bind fun r51 =>
    (ldJ S29 r51 x3).bind fun j52 =>
    j150 r40 x3 j52)
    else
    j139 r40 x3)
    else
    (gfR S29 9 29 r0).bind fun r56 =>
    (gfR S29 9 29 r0).bind fun r57 =>
    (ldJ S29 r57 x3).bind fun j58 =>
    (gfR S29 9 28 r0).bind fun r59 =>
    (ldJ S29 r59 x28).bind fun j60 =>
    (stJ S29 r56 x3 ((j58 + j60) - (j58 + j60) / (1000000007 : Int64) * (1000000007 : Int64))).bind fun S61 =>
    j151 S61
def lX9_stepOn_2 (N : Nat) (r0 : Option Nat) (x2 : Int32) : Nat → Int32 → pH → Option (pH)
  | 0, _, _ => none
  | n + 1, x21, S22 =>
    if (64 : Int32) ≤ x21 then
    (some S22)
    else
    (gfR S22 9 29 r0).bind fun r23 =>
    nm (fun (r24 : Option Nat) (x25 : Int32) (j26 : Int64) =>
    (stJ S22 r24 x25 j26).bind fun S27 =>
    (lX9_stepOn_28 N r0 x2 x21 N (0 : Int32) S27).bind fun S65 =>
    nm (x21 + (1 : Int32)) fun x66 =>
    lX9_stepOn_2 N r0 x2 n x66 S65) fun j24 =>
    if x2 = 0 then
    (j24 r23 x21 (0 : Int64))
    else
    j24 r23 x21 (-1 : Int64)
def lX9_stepOn_165 (N : Nat) (r0 : Option Nat) : Nat → Int32 → pH → Option (pH)
  | 0, _, _ => none
  | n + 1, x70, S71 =>
    if (64 : Int32) ≤ x70 then
    (some S71)
    else
    (gfR S71 9 28 r0).bind fun r72 =>
    (gfR S71 9 29 r0).bind fun r73 =>
    (ldJ S71 r73 x70).bind fun j74 =>
    (stJ S71 r72 x70 j74).bind fun S75 =>
    nm (x70 + (1 : Int32)) fun x76 =>
    lX9_stepOn_165 N r0 n x76 S75
def fX9_stepOn (N : Nat) (S : pH) (r0 : Option Nat) (x1 : Int32) (x2 : Int32) : Option (pH) :=
  chk S 9 r0 <|
  (lX9_stepOn_2 N r0 x2 N (0 : Int32) S).bind fun S69 =>
  (lX9_stepOn_165 N r0 N (0 : Int32) S69).bind fun S78 =>
  some S78
theorem oX9_stepOn {N : Nat} {S : pH} {r0 : Option Nat} {x1 : Int32} {x2 : Int32} {z : pH} (h : fX9_stepOn N S r0 x1 x2 = some z) : ∃ fs, obj S 9 r0 = some fs := by
  unfold fX9_stepOn at h
  exact (chk_spec h).1
set_option maxHeartbeats 1000000 in
set_option maxRecDepth 20000 in
theorem kX9_stepOn_28 {g : VG} {w : VW} {N : Nat} {r0 : Option Nat} {x2 : Int32} {x3 : Int32} {S0 : pH} (hC : Cx g yX9_stepOn cX9_stepOn 7 none rmX9_stepOn w) : ∀ (n : Nat) (x28 : Int32) (S29 : pH) (z : (pH)), lX9_stepOn_28 N r0 x2 x3 n x28 S29 = some z → (∀ (e0 : pH), z = e0 → V g w 7 (Qm g w rmX9_stepOn.cells rmX9_stepOn.slots none S0) e0 0 0 157 [(0, va_rf r0), (2, .int x2), (3, .int x3)] []) → V g w 7 (Qm g w rmX9_stepOn.cells rmX9_stepOn.slots none S0) S29 0 0 28 [(0, va_rf r0), (2, .int x2), (3, .int x3), (4, .int x28)] [] := by
  intro n
  induction n with
  | zero => intro x28 S29 z h; rw [lX9_stepOn_28] at h; cases h
  | succ n ih =>
    intro x28 S29 z h K
    rw [lX9_stepOn_28] at h
    refine v_iload hC 28 3 dX9_stepOn_28 rfl ?_
    refine v_bipush hC (64 : Int32) 30 dX9_stepOn_30 (by decide) ?_
    refine v_icmp_ge hC 32 157 dX9_stepOn_32 (by decide) (fun c64 => ?_) (fun c64 => ?_)
    · replace h := ifp h c64
      refine v_sub [(0, va_rf r0), (2, .int x2), (3, .int x3)] [0, 1, 2] rfl ?_
      exact K _ (sp1 h)
    · replace h := ifn h c64
      refine v_aload_n hC 35 0 dX9_stepOn_35 rfl ?_
      obtain ⟨r30, er30, h⟩ := obn h
      refine gRX9_81 hC rfl 36 er30 dX9_stepOn_36 ?_
      refine v_bipush hC (64 : Int32) 39 dX9_stepOn_39 (by decide) ?_
      refine v_iload hC 41 3 dX9_stepOn_41 rfl ?_
      refine v_imul hC 43 dX9_stepOn_43 ?_
      refine v_iload_n hC 44 2 dX9_stepOn_44 rfl ?_
      refine v_iadd hC 45 dX9_stepOn_45 ?_
      obtain ⟨x31, ex31, h⟩ := obn h
      refine v_zald hC 46 ex31 dX9_stepOn_46 ?_
      obtain ⟨j151, f151, h⟩ := onm h
      have J151 : ∀ (S32 : pH), j151 S32 = some z → V g w 7 (Qm g w rmX9_stepOn.cells rmX9_stepOn.slots none S0) S32 0 0 151 [(0, va_rf r0), (2, .int x2), (3, .int x3), (4, .int x28)] [] := by
        intro S32 h
        replace h := jb1 f151 h
        obtain ⟨x33, ex33, h⟩ := onm h
        refine v_iinc hC x33 [(4, .int x33), (0, va_rf r0), (2, .int x2), (3, .int x3)] 151 3 dX9_stepOn_151 rfl (by rw [ex33]; rfl) (by decide) rfl ?_
        refine v_goto hC 154 28 dX9_stepOn_154 (by decide) ?_
        refine v_sub [(0, va_rf r0), (2, .int x2), (3, .int x3), (4, .int x33)] [1, 2, 3, 0] rfl ?_
        exact ih _ _ _ h K
      refine v_if_eq hC 47 151 dX9_stepOn_47 (by decide) (fun c63 => ?_) (fun c63 => ?_)
      · replace h := ifp h c63
        refine v_sub [(0, va_rf r0), (2, .int x2), (3, .int x3), (4, .int x28)] [0, 1, 2, 3] rfl ?_
        exact J151 _ h
      · replace h := ifn h c63
        refine v_iload_n hC 50 1 dX9_stepOn_50 rfl ?_
        refine v_if_ne hC 51 81 dX9_stepOn_51 (by decide) (fun c62 => ?_) (fun c62 => ?_)
        · replace h := ifp h c62
          refine v_aload_n hC 81 0 dX9_stepOn_81 rfl ?_
          obtain ⟨r34, er34, h⟩ := obn h
          refine gRX9_85 hC rfl 82 er34 dX9_stepOn_82 ?_
          refine v_iload hC 85 3 dX9_stepOn_85 rfl ?_
          obtain ⟨j35, ej35, h⟩ := obn h
          refine v_lald hC 87 ej35 dX9_stepOn_87 ?_
          refine v_lconst hC (0 : Int64) 88 dX9_stepOn_88 (by decide) ?_
          refine v_lcmp hC 89 dX9_stepOn_89 ?_
          refine v_if_lt hC 90 151 dX9_stepOn_90 (by decide) (fun c55 => ?_) (fun c55 => ?_)
          · replace h := ifp h c55
            refine v_sub [(0, va_rf r0), (2, .int x2), (3, .int x3), (4, .int x28)] [0, 1, 2, 3] rfl ?_
            exact J151 _ h
          · replace h := ifn h c55
            refine v_aload_n hC 93 0 dX9_stepOn_93 rfl ?_
            obtain ⟨r36, er36, h⟩ := obn h
            refine gRX9_85 hC rfl 94 er36 dX9_stepOn_94 ?_
            refine v_iload hC 97 3 dX9_stepOn_97 rfl ?_
            obtain ⟨j37, ej37, h⟩ := obn h
            refine v_lald hC 99 ej37 dX9_stepOn_99 ?_
            refine v_aload_n hC 100 0 dX9_stepOn_100 rfl ?_
            refine v_iload_n hC 101 2 dX9_stepOn_101 rfl ?_
            refine v_iconst hC (4 : Int32) 102 dX9_stepOn_102 (by decide) ?_
            refine v_idiv hC 103 (by decide) dX9_stepOn_103 ?_
            obtain ⟨x38, ex38, h⟩ := obn h
            refine qX9_136 hC rfl 104 ex38 (by decide) (catL (Nat.le_of_ble_eq_true rfl)) (by decide) dX9_stepOn_104 ?_
            refine v_i2l hC 107 dX9_stepOn_107 ?_
            refine v_ladd hC 108 dX9_stepOn_108 ?_
            obtain ⟨j39, ej39, h⟩ := onm h
            refine v_topl j39 ej39 ?_
            refine v_lstore hC [(5, .long j39), (0, va_rf r0), (2, .int x2), (3, .int x3), (4, .int x28)] 109 dX9_stepOn_109 (by decide) rfl ?_
            refine v_aload_n hC 111 1 dX9_stepOn_111 rfl ?_
            obtain ⟨r40, er40, h⟩ := obn h
            refine gRX9_88 hC rfl 112 er40 dX9_stepOn_112 ?_
            refine v_iload_n hC 115 3 dX9_stepOn_115 rfl ?_
            refine v_aload_n hC 116 1 dX9_stepOn_116 rfl ?_
            obtain ⟨r41, er41, h⟩ := obn h
            refine gRX9_88 hC rfl 117 er41 dX9_stepOn_117 ?_
            refine v_iload_n hC 120 3 dX9_stepOn_120 rfl ?_
            obtain ⟨j42, ej42, h⟩ := obn h
            refine v_lald hC 121 ej42 dX9_stepOn_121 ?_
            refine v_lconst hC (0 : Int64) 122 dX9_stepOn_122 (by decide) ?_
            refine v_lcmp hC 123 dX9_stepOn_123 ?_
            obtain ⟨j150, f150, h⟩ := onm h
            have J150 : ∀ (r43 : Option Nat) (x44 : Int32) (j45 : Int64), j150 r43 x44 j45 = some z → V g w 7 (Qm g w rmX9_stepOn.cells rmX9_stepOn.slots none S0) S29 0 0 150 [(0, va_rf r0), (2, .int x2), (3, .int x3), (4, .int x28)] [.long j45, .int x44, va_rf r43] := by
              intro r43 x44 j45 h
              replace h := jb3 f150 h
              obtain ⟨S46, eS46, h⟩ := obn h
              refine v_last hC 150 eS46 dX9_stepOn_150 ?_
              refine v_sub [(0, va_rf r0), (2, .int x2), (3, .int x3), (4, .int x28)] [0, 1, 2, 3] rfl ?_
              exact J151 _ h
            obtain ⟨j139, f139, h⟩ := onm h
            have J139 : ∀ (r47 : Option Nat) (x48 : Int32), j139 r47 x48 = some z → V g w 7 (Qm g w rmX9_stepOn.cells rmX9_stepOn.slots none S0) S29 0 0 139 [(0, va_rf r0), (2, .int x2), (3, .int x3), (4, .int x28), (5, .long j39)] [.int x48, va_rf r47] := by
              intro r47 x48 h
              replace h := jb2 f139 h
              refine v_lload hC 139 4 dX9_stepOn_139 rfl ?_
              refine v_goto hC 141 150 dX9_stepOn_141 (by decide) ?_
              refine v_sub [(0, va_rf r0), (2, .int x2), (3, .int x3), (4, .int x28)] [0, 1, 2, 3] rfl ?_
              exact J150 _ _ _ h
            refine v_if_lt hC 124 139 dX9_stepOn_124 (by decide) (fun c54 => ?_) (fun c54 => ?_)
            · replace h := ifp h c54
              refine v_sub [(0, va_rf r0), (2, .int x2), (3, .int x3), (4, .int x28), (5, .long j39)] [1, 2, 3, 4, 0] rfl ?_
              exact J139 _ _ h
            · replace h := ifn h c54
              refine v_lload hC 127 0 dX9_stepOn_127 rfl ?_
              refine v_aload_n hC 129 1 dX9_stepOn_129 rfl ?_
              obtain ⟨r49, er49, h⟩ := obn h
              refine gRX9_88 hC rfl 130 er49 dX9_stepOn_130 ?_
              refine v_iload_n hC 133 3 dX9_stepOn_133 rfl ?_
              obtain ⟨j50, ej50, h⟩ := obn h
              refine v_lald hC 134 ej50 dX9_stepOn_134 ?_
              refine v_lcmp hC 135 dX9_stepOn_135 ?_
              refine v_if_ge hC 136 144 dX9_stepOn_136 (by decide) (fun c53 => ?_) (fun c53 => ?_)
              · replace h := ifp h c53
                refine v_aload_n hC 144 1 dX9_stepOn_144 rfl ?_
                obtain ⟨r51, er51, h⟩ := obn h
                refine gRX9_88 hC rfl 145 er51 dX9_stepOn_145 ?_
                refine v_iload_n hC 148 3 dX9_stepOn_148 rfl ?_
                obtain ⟨j52, ej52, h⟩ := obn h
                refine v_lald hC 149 ej52 dX9_stepOn_149 ?_
                refine v_sub [(0, va_rf r0), (2, .int x2), (3, .int x3), (4, .int x28)] [1, 2, 3, 4] rfl ?_
                exact J150 _ _ _ h
              · replace h := ifn h c53
                refine v_sub [(0, va_rf r0), (2, .int x2), (3, .int x3), (4, .int x28), (5, .long j39)] [1, 2, 3, 4, 0] rfl ?_
                exact J139 _ _ h
        · replace h := ifn h (fun q => q c62)
          refine v_aload_n hC 54 0 dX9_stepOn_54 rfl ?_
          obtain ⟨r56, er56, h⟩ := obn h
          refine gRX9_88 hC rfl 55 er56 dX9_stepOn_55 ?_
          refine v_iload_n hC 58 2 dX9_stepOn_58 rfl ?_
          refine v_aload_n hC 59 0 dX9_stepOn_59 rfl ?_
          obtain ⟨r57, er57, h⟩ := obn h
          refine gRX9_88 hC rfl 60 er57 dX9_stepOn_60 ?_
          refine v_iload_n hC 63 2 dX9_stepOn_63 rfl ?_
          obtain ⟨j58, ej58, h⟩ := obn h
          refine v_lald hC 64 ej58 dX9_stepOn_64 ?_
          refine v_aload_n hC 65 0 dX9_stepOn_65 rfl ?_
          obtain ⟨r59, er59, h⟩ := obn h
          refine gRX9_85 hC rfl 66 er59 dX9_stepOn_66 ?_
          refine v_iload hC 69 3 dX9_stepOn_69 rfl ?_
          obtain ⟨j60, ej60, h⟩ := obn h
          refine v_lald hC 71 ej60 dX9_stepOn_71 ?_
          refine v_ladd hC 72 dX9_stepOn_72 ?_
          refine v_ldc2 hC (v := (1000000007 : Int64)) 73 wG151 dX9_stepOn_73 ?_
          refine v_lrem hC 76 (by decide) dX9_stepOn_76 ?_
          obtain ⟨S61, eS61, h⟩ := obn h
          refine v_last hC 77 eS61 dX9_stepOn_77 ?_
          refine v_goto hC 78 151 dX9_stepOn_78 (by decide) ?_
          refine v_sub [(0, va_rf r0), (2, .int x2), (3, .int x3), (4, .int x28)] [0, 1, 2, 3] rfl ?_
          exact J151 _ h
set_option maxHeartbeats 1000000 in
set_option maxRecDepth 20000 in
theorem kX9_stepOn_2 {g : VG} {w : VW} {N : Nat} {r0 : Option Nat} {x2 : Int32} {S0 : pH} (hC : Cx g yX9_stepOn cX9_stepOn 7 none rmX9_stepOn w) : ∀ (n : Nat) (x21 : Int32) (S22 : pH) (z : (pH)), lX9_stepOn_2 N r0 x2 n x21 S22 = some z → (∀ (e0 : pH), z = e0 → V g w 7 (Qm g w rmX9_stepOn.cells rmX9_stepOn.slots none S0) e0 0 0 163 [(0, va_rf r0)] []) → V g w 7 (Qm g w rmX9_stepOn.cells rmX9_stepOn.slots none S0) S22 0 0 2 [(0, va_rf r0), (2, .int x2), (3, .int x21)] [] := by
  intro n
  induction n with
  | zero => intro x21 S22 z h; rw [lX9_stepOn_2] at h; cases h
  | succ n ih =>
    intro x21 S22 z h K
    rw [lX9_stepOn_2] at h
    refine v_iload_n hC 2 2 dX9_stepOn_2 rfl ?_
    refine v_bipush hC (64 : Int32) 3 dX9_stepOn_3 (by decide) ?_
    refine v_icmp_ge hC 5 163 dX9_stepOn_5 (by decide) (fun c68 => ?_) (fun c68 => ?_)
    · replace h := ifp h c68
      refine v_sub [(0, va_rf r0)] [0] rfl ?_
      exact K _ (sp1 h)
    · replace h := ifn h c68
      refine v_aload_n hC 8 0 dX9_stepOn_8 rfl ?_
      obtain ⟨r23, er23, h⟩ := obn h
      refine gRX9_88 hC rfl 9 er23 dX9_stepOn_9 ?_
      refine v_iload_n hC 12 2 dX9_stepOn_12 rfl ?_
      refine v_iload_n hC 13 1 dX9_stepOn_13 rfl ?_
      obtain ⟨j24, f24, h⟩ := onm h
      have J24 : ∀ (r24 : Option Nat) (x25 : Int32) (j26 : Int64), j24 r24 x25 j26 = some z → V g w 7 (Qm g w rmX9_stepOn.cells rmX9_stepOn.slots none S0) S22 0 0 24 [(0, va_rf r0), (2, .int x2), (3, .int x21)] [.long j26, .int x25, va_rf r24] := by
        intro r24 x25 j26 h
        replace h := jb3 f24 h
        obtain ⟨S27, eS27, h⟩ := obn h
        refine v_last hC 24 eS27 dX9_stepOn_24 ?_
        refine v_iconst hC (0 : Int32) 25 dX9_stepOn_25 (by decide) ?_
        refine v_istore hC [(4, .int (0 : Int32)), (0, va_rf r0), (2, .int x2), (3, .int x21)] 26 dX9_stepOn_26 (by decide) rfl ?_
        obtain ⟨S65, E28, h⟩ := obn h
        refine v_sub [(0, va_rf r0), (2, .int x2), (3, .int x21), (4, .int (0 : Int32))] [1, 2, 3, 0] rfl ?_
        refine kX9_stepOn_28 hC _ _ _ _ E28 (fun _ hz9 => ?_)
        cases hz9
        obtain ⟨x66, ex66, h⟩ := onm h
        refine v_iinc hC x66 [(3, .int x66), (0, va_rf r0), (2, .int x2)] 157 2 dX9_stepOn_157 rfl (by rw [ex66]; rfl) (by decide) rfl ?_
        refine v_goto hC 160 2 dX9_stepOn_160 (by decide) ?_
        refine v_sub [(0, va_rf r0), (2, .int x2), (3, .int x66)] [1, 2, 0] rfl ?_
        exact ih _ _ _ h K
      refine v_if_eq hC 14 23 dX9_stepOn_14 (by decide) (fun c67 => ?_) (fun c67 => ?_)
      · replace h := ifp h c67
        refine v_lconst hC (0 : Int64) 23 dX9_stepOn_23 (by decide) ?_
        refine v_sub [(0, va_rf r0), (2, .int x2), (3, .int x21)] [0, 1, 2] rfl ?_
        exact J24 _ _ _ h
      · replace h := ifn h c67
        refine v_ldc2 hC (v := (-1 : Int64)) 17 wG145 dX9_stepOn_17 ?_
        refine v_goto hC 20 24 dX9_stepOn_20 (by decide) ?_
        refine v_sub [(0, va_rf r0), (2, .int x2), (3, .int x21)] [0, 1, 2] rfl ?_
        exact J24 _ _ _ h
set_option maxHeartbeats 1000000 in
set_option maxRecDepth 20000 in
theorem kX9_stepOn_165 {g : VG} {w : VW} {N : Nat} {r0 : Option Nat} {S0 : pH} (hC : Cx g yX9_stepOn cX9_stepOn 7 none rmX9_stepOn w) : ∀ (n : Nat) (x70 : Int32) (S71 : pH) (z : (pH)), lX9_stepOn_165 N r0 n x70 S71 = some z → (∀ (e0 : pH), z = e0 → V g w 7 (Qm g w rmX9_stepOn.cells rmX9_stepOn.slots none S0) e0 0 0 189 [] []) → V g w 7 (Qm g w rmX9_stepOn.cells rmX9_stepOn.slots none S0) S71 0 0 165 [(0, va_rf r0), (3, .int x70)] [] := by
  intro n
  induction n with
  | zero => intro x70 S71 z h; rw [lX9_stepOn_165] at h; cases h
  | succ n ih =>
    intro x70 S71 z h K
    rw [lX9_stepOn_165] at h
    refine v_iload_n hC 165 1 dX9_stepOn_165 rfl ?_
    refine v_bipush hC (64 : Int32) 166 dX9_stepOn_166 (by decide) ?_
    refine v_icmp_ge hC 168 189 dX9_stepOn_168 (by decide) (fun c77 => ?_) (fun c77 => ?_)
    · replace h := ifp h c77
      refine v_sub [] [] rfl ?_
      exact K _ (sp1 h)
    · replace h := ifn h c77
      refine v_aload_n hC 171 0 dX9_stepOn_171 rfl ?_
      obtain ⟨r72, er72, h⟩ := obn h
      refine gRX9_85 hC rfl 172 er72 dX9_stepOn_172 ?_
      refine v_iload_n hC 175 1 dX9_stepOn_175 rfl ?_
      refine v_aload_n hC 176 0 dX9_stepOn_176 rfl ?_
      obtain ⟨r73, er73, h⟩ := obn h
      refine gRX9_88 hC rfl 177 er73 dX9_stepOn_177 ?_
      refine v_iload_n hC 180 1 dX9_stepOn_180 rfl ?_
      obtain ⟨j74, ej74, h⟩ := obn h
      refine v_lald hC 181 ej74 dX9_stepOn_181 ?_
      obtain ⟨S75, eS75, h⟩ := obn h
      refine v_last hC 182 eS75 dX9_stepOn_182 ?_
      obtain ⟨x76, ex76, h⟩ := onm h
      refine v_iinc hC x76 [(3, .int x76), (0, va_rf r0)] 183 1 dX9_stepOn_183 rfl (by rw [ex76]; rfl) (by decide) rfl ?_
      refine v_goto hC 186 165 dX9_stepOn_186 (by decide) ?_
      refine v_sub [(0, va_rf r0), (3, .int x76)] [1, 0] rfl ?_
      exact ih _ _ _ h K
set_option maxHeartbeats 1000000 in
set_option maxRecDepth 20000 in
theorem tX9_stepOn {l : Launch} {w : VW} {N : Nat} {S : pH} {r0 : Option Nat} {x1 : Int32} {x2 : Int32} {S0 : pH} (h : fX9_stepOn N S r0 x1 x2 = some S0) : CT l w yX9_stepOn cX9_stepOn 7 none rmX9_stepOn [va_rf r0, .int x1, .int x2] S none S0 := by
  refine v_entry [(0, va_rf r0), (1, .int x1), (2, .int x2)] (by decide) (by simp [lg_sl, cat_rf, cat_i, cat_j]) (by simp [lv_args, cat_rf, cat_i, cat_j]) (fun g _ hC => ?_)
  unfold fX9_stepOn at h
  obtain ⟨hO, h⟩ := chk_spec h
  refine v_iconst hC (0 : Int32) 0 dX9_stepOn_0 (by decide) ?_
  refine v_istore_n hC [(3, .int (0 : Int32)), (0, va_rf r0), (1, .int x1), (2, .int x2)] 1 dX9_stepOn_1 (by decide) rfl ?_
  obtain ⟨S69, E2, h⟩ := obn h
  refine v_sub [(0, va_rf r0), (2, .int x2), (3, .int (0 : Int32))] [1, 3, 0] rfl ?_
  refine kX9_stepOn_2 hC _ _ _ _ E2 (fun _ hz9 => ?_)
  cases hz9
  refine v_iconst hC (0 : Int32) 163 dX9_stepOn_163 (by decide) ?_
  refine v_istore_n hC [(3, .int (0 : Int32)), (0, va_rf r0)] 164 dX9_stepOn_164 (by decide) rfl ?_
  obtain ⟨S78, E165, h⟩ := obn h
  refine v_sub [(0, va_rf r0), (3, .int (0 : Int32))] [1, 0] rfl ?_
  refine kX9_stepOn_165 hC _ _ _ _ E165 (fun _ hz9 => ?_)
  cases hz9
  obtain rfl := sp1 h
  exact v_vret hC 189 (by decide) (by decide) dX9_stepOn_189
set_option maxRecDepth 20000 in
theorem qX9_196 {g : VG} {w : VW} {nL : Nat} {Q : State → Prop} {S : pH} {kc ks : Nat} {lv : List (Nat × Value)} {rest : List Value} {y : MethodName} {cc : ByteArray} {rt : Option FieldType} {rm : Room} (hC : Cx g y cc nL rt rm w) (hy : y.cls = RX9) (pc : Nat) {N : Nat} {r0 : Option Nat} {x1 : Int32} {S0 : pH} (h : fX9_findJoins N S r0 x1 = some S0) (hR : rmX9_findJoins.frames + 1 ≤ rm.frames ∧ 8 + (6 + 11) + rmX9_findJoins.locals ≤ rm.locals) (hst : (rest.map fun v => v.category).sum ≤ 8) (hf : kc + 0 ≤ rm.cells ∧ ks + 0 ≤ rm.slots) (d : decode cc pc = .ok (.invokevirtual 196, 3)) (K : V g w nL Q S0 kc ks (pc + 3) lv (rest)) : V g w nL Q S kc ks pc lv (.int x1 :: va_rf r0 :: rest) := by
  obtain ⟨fs, ho⟩ := oX9_findJoins h
  exact v_callV (As := [.int x1]) (rest := rest) (ci := 9) hC pc (tX9_findJoins (l := g.2.1) (w := w) h) rfl (by decide) ho wG587 (by rw [hy]; exact wG586) wG588 wG589 wG542 hdX9_findJoins rfl hR hst hf d K
set_option maxRecDepth 20000 in
theorem qX9_200 {g : VG} {w : VW} {nL : Nat} {Q : State → Prop} {S : pH} {kc ks : Nat} {lv : List (Nat × Value)} {rest : List Value} {y : MethodName} {cc : ByteArray} {rt : Option FieldType} {rm : Room} (hC : Cx g y cc nL rt rm w) (hy : y.cls = RX9) (pc : Nat) {N : Nat} {r0 : Option Nat} {x1 : Int32} {x2 : Int32} {S0 : pH} (h : fX9_stepOn N S r0 x1 x2 = some S0) (hR : rmX9_stepOn.frames + 1 ≤ rm.frames ∧ 8 + (7 + 11) + rmX9_stepOn.locals ≤ rm.locals) (hst : (rest.map fun v => v.category).sum ≤ 8) (hf : kc + 0 ≤ rm.cells ∧ ks + 0 ≤ rm.slots) (d : decode cc pc = .ok (.invokevirtual 200, 3)) (K : V g w nL Q S0 kc ks (pc + 3) lv (rest)) : V g w nL Q S kc ks pc lv (.int x2 :: .int x1 :: va_rf r0 :: rest) := by
  obtain ⟨fs, ho⟩ := oX9_stepOn h
  exact v_callV (As := [.int x1, .int x2]) (rest := rest) (ci := 9) hC pc (tX9_stepOn (l := g.2.1) (w := w) h) rfl (by decide) ho wG591 (by rw [hy]; exact wG590) wG592 wG593 wG542 hdX9_stepOn rfl hR hst hf d K
abbrev rmX9_bowl : Room := { frames := 3, cells := 0, slots := 0, locals := 78 }
theorem hdX9_bowl : yX9_bowl.cls ≠ "java/lang/invoke/MethodHandle" ∧ yX9_bowl.cls ≠ "java/lang/invoke/VarHandle" ∧ (parseMethodDescriptor yX9_bowl.desc).map (fun d => d.parameters.length) = some 3 := by decide +kernel
def lX9_bowl_85 (N : Nat) (r0 : Option Nat) (x1 : Int32) (x2 : Int32) (x4 : Int32) (j5 : Int64) (x7 : Int32) : Nat → Int32 → pH → Option (pH)
  | 0, _, _ => none
  | n + 1, x34, S35 =>
    if (64 : Int32) ≤ x34 then
    (some S35)
    else
    (gfR S35 9 28 r0).bind fun r36 =>
    nm (fun (r37 : Option Nat) (x38 : Int32) (j39 : Int64) =>
    (stJ S35 r37 x38 j39).bind fun S40 =>
    (gfR S40 9 28 r0).bind fun r41 =>
    nm (fun (r42 : Option Nat) (x43 : Int32) (j44 : Int64) =>
    (stJ S40 r42 x43 j44).bind fun S45 =>
    nm (x34 + (1 : Int32)) fun x46 =>
    lX9_bowl_85 N r0 x1 x2 x4 j5 x7 n x46 S45) fun j143 =>
    if x4 = 0 then
    ((gfR S40 9 28 r0).bind fun r47 =>
    (ldJ S40 r47 x34).bind fun j48 =>
    j143 r41 x34 (j48 + (1 : Int64)))
    else
    (gfR S40 9 28 r0).bind fun r49 =>
    (ldJ S40 r49 x34).bind fun j50 =>
    j143 r41 x34 j50) fun j112 =>
    if ¬ x34 = x7 then
    (j112 r36 x34 (-1 : Int64))
    else
    j112 r36 x34 (0 : Int64)
def lX9_bowl_153 (N : Nat) (r0 : Option Nat) (x1 : Int32) (x2 : Int32) (x4 : Int32) (j5 : Int64) (x7 : Int32) : Nat → Int32 → pH → Option (pH)
  | 0, _, _ => none
  | n + 1, x55, S56 =>
    if x1 ≤ x55 then
    (some S56)
    else
    (fX9_stepOn N S56 r0 x2 x4).bind fun S57 =>
    nm (x55 + (1 : Int32)) fun x58 =>
    lX9_bowl_153 N r0 x1 x2 x4 j5 x7 n x58 S57
def lX9_bowl_65 (N : Nat) (r0 : Option Nat) (x1 : Int32) (x2 : Int32) (x4 : Int32) : Nat → Int64 → Int32 → pH → Option (Int64 × pH)
  | 0, _, _, _ => none
  | n + 1, j27, x28, S29 =>
    if (64 : Int32) ≤ x28 then
    (some (j27, S29))
    else
    (fX9_isSlice N S29 r0 x28 x2).bind fun x30 =>
    nm (fun (j31 : Int64) (S32 : pH) =>
    nm (x28 + (1 : Int32)) fun x33 =>
    lX9_bowl_65 N r0 x1 x2 x4 n j31 x33 S32) fun j237 =>
    if x30 = 0 then
    (j237 j27 S29)
    else
    (lX9_bowl_85 N r0 x1 x2 x4 j27 x28 N (0 : Int32) S29).bind fun S54 =>
    (lX9_bowl_153 N r0 x1 x2 x4 j27 x28 N (0 : Int32) S54).bind fun S60 =>
    if ¬ x4 = 0 then
    ((gfR S60 9 28 r0).bind fun r61 =>
    (ldJ S60 r61 x28).bind fun j62 =>
    if (lg_cmp j62 (0 : Int64)) < 0 then
    (j237 j27 S60)
    else
    nm (fun (_ : Unit) =>
    (gfR S60 9 28 r0).bind fun r63 =>
    (ldJ S60 r63 x28).bind fun j64 =>
    j237 j64 S60) fun j228 =>
    if (lg_cmp j27 (0 : Int64)) < 0 then
    (j228 ())
    else
    (gfR S60 9 28 r0).bind fun r65 =>
    (ldJ S60 r65 x28).bind fun j66 =>
    if 0 ≤ (lg_cmp j66 j27) then
    (j237 j27 S60)
    else
    j228 ())
    else
    (gfR S60 9 28 r0).bind fun r70 =>
    (ldJ S60 r70 x28).bind fun j71 =>
    nm ((j27 + j71) - (j27 + j71) / (1000000007 : Int64) * (1000000007 : Int64)) fun j72 =>
    j237 j72 S60
def fX9_bowl (N : Nat) (S : pH) (r0 : Option Nat) (x1 : Int32) (x2 : Int32) (x3 : Int32) : Option (Int32 × pH) :=
  chk S 9 r0 <|
  (fX9_in N S x1 (2 : Int32) (12 : Int32)).bind fun x21 =>
  if x21 = 0 then
  (some ((-1 : Int32), S))
  else
  (fX9_in N S x2 (1 : Int32) (8 : Int32)).bind fun x22 =>
  if x22 = 0 then
  (some ((-1 : Int32), S))
  else
  (fX9_in N S x3 (0 : Int32) (1 : Int32)).bind fun x23 =>
  if ¬ x23 = 0 then
  ((fX9_findJoins N S r0 x2).bind fun S24 =>
  nm (fun (x25 : Int32) =>
  nm (fun (j26 : Int64) =>
  b2 (lX9_bowl_65 N r0 x1 x2 x25 N j26 (0 : Int32) S24) fun j76 S77 =>
  if 0 ≤ (lg_cmp j76 (0 : Int64)) then
  (some (j76.toInt32, S77))
  else
  some ((-9 : Int32), S77)) fun j60 =>
  if x25 = 0 then
  (j60 (0 : Int64))
  else
  j60 (-1 : Int64)) fun j46 =>
  if ¬ x3 = (1 : Int32) then
  (j46 (0 : Int32))
  else
  j46 (1 : Int32))
  else
  some ((-1 : Int32), S)
theorem oX9_bowl {N : Nat} {S : pH} {r0 : Option Nat} {x1 : Int32} {x2 : Int32} {x3 : Int32} {z : Int32 × pH} (h : fX9_bowl N S r0 x1 x2 x3 = some z) : ∃ fs, obj S 9 r0 = some fs := by
  unfold fX9_bowl at h
  exact (chk_spec h).1
set_option maxHeartbeats 1000000 in
set_option maxRecDepth 20000 in
theorem kX9_bowl_85 {g : VG} {w : VW} {N : Nat} {r0 : Option Nat} {x1 : Int32} {x2 : Int32} {x4 : Int32} {j5 : Int64} {x7 : Int32} {v0 : Int32} {S0 : pH} (hC : Cx g yX9_bowl cX9_bowl 9 (some .int) rmX9_bowl w) : ∀ (n : Nat) (x34 : Int32) (S35 : pH) (z : (pH)), lX9_bowl_85 N r0 x1 x2 x4 j5 x7 n x34 S35 = some z → (∀ (e0 : pH), z = e0 → V g w 9 (Qm g w rmX9_bowl.cells rmX9_bowl.slots (some (.int v0)) S0) e0 0 0 150 [(0, va_rf r0), (1, .int x1), (2, .int x2), (4, .int x4), (5, .long j5), (7, .int x7)] []) → V g w 9 (Qm g w rmX9_bowl.cells rmX9_bowl.slots (some (.int v0)) S0) S35 0 0 85 [(0, va_rf r0), (1, .int x1), (2, .int x2), (4, .int x4), (5, .long j5), (7, .int x7), (8, .int x34)] [] := by
  intro n
  induction n with
  | zero => intro x34 S35 z h; rw [lX9_bowl_85] at h; cases h
  | succ n ih =>
    intro x34 S35 z h K
    rw [lX9_bowl_85] at h
    refine v_iload hC 85 6 dX9_bowl_85 rfl ?_
    refine v_bipush hC (64 : Int32) 87 dX9_bowl_87 (by decide) ?_
    refine v_icmp_ge hC 89 150 dX9_bowl_89 (by decide) (fun c53 => ?_) (fun c53 => ?_)
    · replace h := ifp h c53
      refine v_sub [(0, va_rf r0), (1, .int x1), (2, .int x2), (4, .int x4), (5, .long j5), (7, .int x7)] [0, 1, 2, 3, 4, 5] rfl ?_
      exact K _ (sp1 h)
    · replace h := ifn h c53
      refine v_aload_n hC 92 0 dX9_bowl_92 rfl ?_
      obtain ⟨r36, er36, h⟩ := obn h
      refine gRX9_85 hC rfl 93 er36 dX9_bowl_93 ?_
      refine v_iload hC 96 6 dX9_bowl_96 rfl ?_
      refine v_iload hC 98 6 dX9_bowl_98 rfl ?_
      refine v_iload hC 100 5 dX9_bowl_100 rfl ?_
      obtain ⟨j112, f112, h⟩ := onm h
      have J112 : ∀ (r37 : Option Nat) (x38 : Int32) (j39 : Int64), j112 r37 x38 j39 = some z → V g w 9 (Qm g w rmX9_bowl.cells rmX9_bowl.slots (some (.int v0)) S0) S35 0 0 112 [(0, va_rf r0), (1, .int x1), (2, .int x2), (4, .int x4), (5, .long j5), (7, .int x7), (8, .int x34)] [.long j39, .int x38, va_rf r37] := by
        intro r37 x38 j39 h
        replace h := jb3 f112 h
        obtain ⟨S40, eS40, h⟩ := obn h
        refine v_last hC 112 eS40 dX9_bowl_112 ?_
        refine v_aload_n hC 113 0 dX9_bowl_113 rfl ?_
        obtain ⟨r41, er41, h⟩ := obn h
        refine gRX9_85 hC rfl 114 er41 dX9_bowl_114 ?_
        refine v_iload hC 117 6 dX9_bowl_117 rfl ?_
        refine v_iload hC 119 3 dX9_bowl_119 rfl ?_
        obtain ⟨j143, f143, h⟩ := onm h
        have J143 : ∀ (r42 : Option Nat) (x43 : Int32) (j44 : Int64), j143 r42 x43 j44 = some z → V g w 9 (Qm g w rmX9_bowl.cells rmX9_bowl.slots (some (.int v0)) S0) S40 0 0 143 [(0, va_rf r0), (1, .int x1), (2, .int x2), (4, .int x4), (5, .long j5), (7, .int x7), (8, .int x34)] [.long j44, .int x43, va_rf r42] := by
          intro r42 x43 j44 h
          replace h := jb3 f143 h
          obtain ⟨S45, eS45, h⟩ := obn h
          refine v_last hC 143 eS45 dX9_bowl_143 ?_
          obtain ⟨x46, ex46, h⟩ := onm h
          refine v_iinc hC x46 [(8, .int x46), (0, va_rf r0), (1, .int x1), (2, .int x2), (4, .int x4), (5, .long j5), (7, .int x7)] 144 6 dX9_bowl_144 rfl (by rw [ex46]; rfl) (by decide) rfl ?_
          refine v_goto hC 147 85 dX9_bowl_147 (by decide) ?_
          refine v_sub [(0, va_rf r0), (1, .int x1), (2, .int x2), (4, .int x4), (5, .long j5), (7, .int x7), (8, .int x46)] [1, 2, 3, 4, 5, 6, 0] rfl ?_
          exact ih _ _ _ h K
        refine v_if_eq hC 121 134 dX9_bowl_121 (by decide) (fun c51 => ?_) (fun c51 => ?_)
        · replace h := ifp h c51
          refine v_aload_n hC 134 0 dX9_bowl_134 rfl ?_
          obtain ⟨r47, er47, h⟩ := obn h
          refine gRX9_85 hC rfl 135 er47 dX9_bowl_135 ?_
          refine v_iload hC 138 6 dX9_bowl_138 rfl ?_
          obtain ⟨j48, ej48, h⟩ := obn h
          refine v_lald hC 140 ej48 dX9_bowl_140 ?_
          refine v_lconst hC (1 : Int64) 141 dX9_bowl_141 (by decide) ?_
          refine v_ladd hC 142 dX9_bowl_142 ?_
          refine v_sub [(0, va_rf r0), (1, .int x1), (2, .int x2), (4, .int x4), (5, .long j5), (7, .int x7), (8, .int x34)] [0, 1, 2, 3, 4, 5, 6] rfl ?_
          exact J143 _ _ _ h
        · replace h := ifn h c51
          refine v_aload_n hC 124 0 dX9_bowl_124 rfl ?_
          obtain ⟨r49, er49, h⟩ := obn h
          refine gRX9_85 hC rfl 125 er49 dX9_bowl_125 ?_
          refine v_iload hC 128 6 dX9_bowl_128 rfl ?_
          obtain ⟨j50, ej50, h⟩ := obn h
          refine v_lald hC 130 ej50 dX9_bowl_130 ?_
          refine v_goto hC 131 143 dX9_bowl_131 (by decide) ?_
          refine v_sub [(0, va_rf r0), (1, .int x1), (2, .int x2), (4, .int x4), (5, .long j5), (7, .int x7), (8, .int x34)] [0, 1, 2, 3, 4, 5, 6] rfl ?_
          exact J143 _ _ _ h
      refine v_icmp_ne hC 102 109 dX9_bowl_102 (by decide) (fun c52 => ?_) (fun c52 => ?_)
      · replace h := ifp h c52
        refine v_ldc2 hC (v := (-1 : Int64)) 109 wG145 dX9_bowl_109 ?_
        refine v_sub [(0, va_rf r0), (1, .int x1), (2, .int x2), (4, .int x4), (5, .long j5), (7, .int x7), (8, .int x34)] [0, 1, 2, 3, 4, 5, 6] rfl ?_
        exact J112 _ _ _ h
      · replace h := ifn h (fun q => q c52)
        refine v_lconst hC (0 : Int64) 105 dX9_bowl_105 (by decide) ?_
        refine v_goto hC 106 112 dX9_bowl_106 (by decide) ?_
        refine v_sub [(0, va_rf r0), (1, .int x1), (2, .int x2), (4, .int x4), (5, .long j5), (7, .int x7), (8, .int x34)] [0, 1, 2, 3, 4, 5, 6] rfl ?_
        exact J112 _ _ _ h
set_option maxHeartbeats 1000000 in
set_option maxRecDepth 20000 in
theorem kX9_bowl_153 {g : VG} {w : VW} {N : Nat} {r0 : Option Nat} {x1 : Int32} {x2 : Int32} {x4 : Int32} {j5 : Int64} {x7 : Int32} {v0 : Int32} {S0 : pH} (hC : Cx g yX9_bowl cX9_bowl 9 (some .int) rmX9_bowl w) : ∀ (n : Nat) (x55 : Int32) (S56 : pH) (z : (pH)), lX9_bowl_153 N r0 x1 x2 x4 j5 x7 n x55 S56 = some z → (∀ (e0 : pH), z = e0 → V g w 9 (Qm g w rmX9_bowl.cells rmX9_bowl.slots (some (.int v0)) S0) e0 0 0 172 [(0, va_rf r0), (1, .int x1), (2, .int x2), (4, .int x4), (5, .long j5), (7, .int x7)] []) → V g w 9 (Qm g w rmX9_bowl.cells rmX9_bowl.slots (some (.int v0)) S0) S56 0 0 153 [(0, va_rf r0), (1, .int x1), (2, .int x2), (4, .int x4), (5, .long j5), (7, .int x7), (8, .int x55)] [] := by
  intro n
  induction n with
  | zero => intro x55 S56 z h; rw [lX9_bowl_153] at h; cases h
  | succ n ih =>
    intro x55 S56 z h K
    rw [lX9_bowl_153] at h
    refine v_iload hC 153 6 dX9_bowl_153 rfl ?_
    refine v_iload_n hC 155 1 dX9_bowl_155 rfl ?_
    refine v_icmp_ge hC 156 172 dX9_bowl_156 (by decide) (fun c59 => ?_) (fun c59 => ?_)
    · replace h := ifp h c59
      refine v_sub [(0, va_rf r0), (1, .int x1), (2, .int x2), (4, .int x4), (5, .long j5), (7, .int x7)] [0, 1, 2, 3, 4, 5] rfl ?_
      exact K _ (sp1 h)
    · replace h := ifn h c59
      refine v_aload_n hC 159 0 dX9_bowl_159 rfl ?_
      refine v_iload_n hC 160 2 dX9_bowl_160 rfl ?_
      refine v_iload hC 161 3 dX9_bowl_161 rfl ?_
      obtain ⟨S57, eS57, h⟩ := obn h
      refine qX9_200 hC rfl 163 eS57 (by decide) (catL (Nat.le_of_ble_eq_true rfl)) (by decide) dX9_bowl_163 ?_
      obtain ⟨x58, ex58, h⟩ := onm h
      refine v_iinc hC x58 [(8, .int x58), (0, va_rf r0), (1, .int x1), (2, .int x2), (4, .int x4), (5, .long j5), (7, .int x7)] 166 6 dX9_bowl_166 rfl (by rw [ex58]; rfl) (by decide) rfl ?_
      refine v_goto hC 169 153 dX9_bowl_169 (by decide) ?_
      refine v_sub [(0, va_rf r0), (1, .int x1), (2, .int x2), (4, .int x4), (5, .long j5), (7, .int x7), (8, .int x58)] [1, 2, 3, 4, 5, 6, 0] rfl ?_
      exact ih _ _ _ h K
set_option maxHeartbeats 1000000 in
set_option maxRecDepth 20000 in
theorem kX9_bowl_65 {g : VG} {w : VW} {N : Nat} {r0 : Option Nat} {x1 : Int32} {x2 : Int32} {x4 : Int32} {v0 : Int32} {S0 : pH} (hC : Cx g yX9_bowl cX9_bowl 9 (some .int) rmX9_bowl w) : ∀ (n : Nat) (j27 : Int64) (x28 : Int32) (S29 : pH) (z : (Int64 × pH)), lX9_bowl_65 N r0 x1 x2 x4 n j27 x28 S29 = some z → (∀ (e0 : Int64) (e1 : pH), z = (e0, e1) → V g w 9 (Qm g w rmX9_bowl.cells rmX9_bowl.slots (some (.int v0)) S0) e1 0 0 243 [(5, .long e0)] []) → V g w 9 (Qm g w rmX9_bowl.cells rmX9_bowl.slots (some (.int v0)) S0) S29 0 0 65 [(0, va_rf r0), (1, .int x1), (2, .int x2), (4, .int x4), (5, .long j27), (7, .int x28)] [] := by
  intro n
  induction n with
  | zero => intro j27 x28 S29 z h; rw [lX9_bowl_65] at h; cases h
  | succ n ih =>
    intro j27 x28 S29 z h K
    rw [lX9_bowl_65] at h
    refine v_iload hC 65 5 dX9_bowl_65 rfl ?_
    refine v_bipush hC (64 : Int32) 67 dX9_bowl_67 (by decide) ?_
    refine v_icmp_ge hC 69 243 dX9_bowl_69 (by decide) (fun c75 => ?_) (fun c75 => ?_)
    · replace h := ifp h c75
      refine v_sub [(5, .long j27)] [4] rfl ?_
      exact K _ _ (sp1 h)
    · replace h := ifn h c75
      refine v_aload_n hC 72 0 dX9_bowl_72 rfl ?_
      refine v_iload hC 73 5 dX9_bowl_73 rfl ?_
      refine v_iload_n hC 75 2 dX9_bowl_75 rfl ?_
      obtain ⟨x30, ex30, h⟩ := obn h
      refine qX9_191 hC rfl 76 ex30 (by decide) (catL (Nat.le_of_ble_eq_true rfl)) (by decide) dX9_bowl_76 ?_
      obtain ⟨j237, f237, h⟩ := onm h
      have J237 : ∀ (j31 : Int64) (S32 : pH), j237 j31 S32 = some z → V g w 9 (Qm g w rmX9_bowl.cells rmX9_bowl.slots (some (.int v0)) S0) S32 0 0 237 [(0, va_rf r0), (1, .int x1), (2, .int x2), (4, .int x4), (5, .long j31), (7, .int x28)] [] := by
        intro j31 S32 h
        replace h := jb2 f237 h
        obtain ⟨x33, ex33, h⟩ := onm h
        refine v_iinc hC x33 [(7, .int x33), (0, va_rf r0), (1, .int x1), (2, .int x2), (4, .int x4), (5, .long j31)] 237 5 dX9_bowl_237 rfl (by rw [ex33]; rfl) (by decide) rfl ?_
        refine v_goto hC 240 65 dX9_bowl_240 (by decide) ?_
        refine v_sub [(0, va_rf r0), (1, .int x1), (2, .int x2), (4, .int x4), (5, .long j31), (7, .int x33)] [1, 2, 3, 4, 5, 0] rfl ?_
        exact ih _ _ _ _ h K
      refine v_if_eq hC 79 237 dX9_bowl_79 (by decide) (fun c74 => ?_) (fun c74 => ?_)
      · replace h := ifp h c74
        refine v_sub [(0, va_rf r0), (1, .int x1), (2, .int x2), (4, .int x4), (5, .long j27), (7, .int x28)] [0, 1, 2, 3, 4, 5] rfl ?_
        exact J237 _ _ h
      · replace h := ifn h c74
        refine v_iconst hC (0 : Int32) 82 dX9_bowl_82 (by decide) ?_
        refine v_istore hC [(8, .int (0 : Int32)), (0, va_rf r0), (1, .int x1), (2, .int x2), (4, .int x4), (5, .long j27), (7, .int x28)] 83 dX9_bowl_83 (by decide) rfl ?_
        obtain ⟨S54, E85, h⟩ := obn h
        refine v_sub [(0, va_rf r0), (1, .int x1), (2, .int x2), (4, .int x4), (5, .long j27), (7, .int x28), (8, .int (0 : Int32))] [1, 2, 3, 4, 5, 6, 0] rfl ?_
        refine kX9_bowl_85 hC _ _ _ _ E85 (fun _ hz9 => ?_)
        cases hz9
        refine v_iconst hC (0 : Int32) 150 dX9_bowl_150 (by decide) ?_
        refine v_istore hC [(8, .int (0 : Int32)), (0, va_rf r0), (1, .int x1), (2, .int x2), (4, .int x4), (5, .long j27), (7, .int x28)] 151 dX9_bowl_151 (by decide) rfl ?_
        obtain ⟨S60, E153, h⟩ := obn h
        refine v_sub [(0, va_rf r0), (1, .int x1), (2, .int x2), (4, .int x4), (5, .long j27), (7, .int x28), (8, .int (0 : Int32))] [1, 2, 3, 4, 5, 6, 0] rfl ?_
        refine kX9_bowl_153 hC _ _ _ _ E153 (fun _ hz9 => ?_)
        cases hz9
        refine v_iload hC 172 3 dX9_bowl_172 rfl ?_
        refine v_if_ne hC 174 196 dX9_bowl_174 (by decide) (fun c73 => ?_) (fun c73 => ?_)
        · replace h := ifp h c73
          refine v_aload_n hC 196 0 dX9_bowl_196 rfl ?_
          obtain ⟨r61, er61, h⟩ := obn h
          refine gRX9_85 hC rfl 197 er61 dX9_bowl_197 ?_
          refine v_iload hC 200 5 dX9_bowl_200 rfl ?_
          obtain ⟨j62, ej62, h⟩ := obn h
          refine v_lald hC 202 ej62 dX9_bowl_202 ?_
          refine v_lconst hC (0 : Int64) 203 dX9_bowl_203 (by decide) ?_
          refine v_lcmp hC 204 dX9_bowl_204 ?_
          refine v_if_lt hC 205 237 dX9_bowl_205 (by decide) (fun c69 => ?_) (fun c69 => ?_)
          · replace h := ifp h c69
            refine v_sub [(0, va_rf r0), (1, .int x1), (2, .int x2), (4, .int x4), (5, .long j27), (7, .int x28)] [0, 1, 2, 3, 4, 5] rfl ?_
            exact J237 _ _ h
          · replace h := ifn h c69
            refine v_lload hC 208 4 dX9_bowl_208 rfl ?_
            refine v_lconst hC (0 : Int64) 210 dX9_bowl_210 (by decide) ?_
            refine v_lcmp hC 211 dX9_bowl_211 ?_
            obtain ⟨j228, f228, h⟩ := onm h
            have J228 : ∀ (u9 : Unit), j228 u9 = some z → V g w 9 (Qm g w rmX9_bowl.cells rmX9_bowl.slots (some (.int v0)) S0) S60 0 0 228 [(0, va_rf r0), (1, .int x1), (2, .int x2), (4, .int x4), (7, .int x28)] [] := by
              intro u9 h
              replace h := jb1 f228 h
              refine v_aload_n hC 228 0 dX9_bowl_228 rfl ?_
              obtain ⟨r63, er63, h⟩ := obn h
              refine gRX9_85 hC rfl 229 er63 dX9_bowl_229 ?_
              refine v_iload hC 232 4 dX9_bowl_232 rfl ?_
              obtain ⟨j64, ej64, h⟩ := obn h
              refine v_lald hC 234 ej64 dX9_bowl_234 ?_
              refine v_lstore hC [(5, .long j64), (0, va_rf r0), (1, .int x1), (2, .int x2), (4, .int x4), (7, .int x28)] 235 dX9_bowl_235 (by decide) rfl ?_
              refine v_sub [(0, va_rf r0), (1, .int x1), (2, .int x2), (4, .int x4), (5, .long j64), (7, .int x28)] [1, 2, 3, 4, 0, 5] rfl ?_
              exact J237 _ _ h
            refine v_if_lt hC 212 228 dX9_bowl_212 (by decide) (fun c68 => ?_) (fun c68 => ?_)
            · replace h := ifp h c68
              refine v_sub [(0, va_rf r0), (1, .int x1), (2, .int x2), (4, .int x4), (7, .int x28)] [0, 1, 2, 3, 5] rfl ?_
              exact J228 _ h
            · replace h := ifn h c68
              refine v_aload_n hC 215 0 dX9_bowl_215 rfl ?_
              obtain ⟨r65, er65, h⟩ := obn h
              refine gRX9_85 hC rfl 216 er65 dX9_bowl_216 ?_
              refine v_iload hC 219 5 dX9_bowl_219 rfl ?_
              obtain ⟨j66, ej66, h⟩ := obn h
              refine v_lald hC 221 ej66 dX9_bowl_221 ?_
              refine v_lload hC 222 4 dX9_bowl_222 rfl ?_
              refine v_lcmp hC 224 dX9_bowl_224 ?_
              refine v_if_ge hC 225 237 dX9_bowl_225 (by decide) (fun c67 => ?_) (fun c67 => ?_)
              · replace h := ifp h c67
                refine v_sub [(0, va_rf r0), (1, .int x1), (2, .int x2), (4, .int x4), (5, .long j27), (7, .int x28)] [0, 1, 2, 3, 4, 5] rfl ?_
                exact J237 _ _ h
              · replace h := ifn h c67
                refine v_sub [(0, va_rf r0), (1, .int x1), (2, .int x2), (4, .int x4), (7, .int x28)] [0, 1, 2, 3, 5] rfl ?_
                exact J228 _ h
        · replace h := ifn h (fun q => q c73)
          refine v_lload hC 177 4 dX9_bowl_177 rfl ?_
          refine v_aload_n hC 179 0 dX9_bowl_179 rfl ?_
          obtain ⟨r70, er70, h⟩ := obn h
          refine gRX9_85 hC rfl 180 er70 dX9_bowl_180 ?_
          refine v_iload hC 183 5 dX9_bowl_183 rfl ?_
          obtain ⟨j71, ej71, h⟩ := obn h
          refine v_lald hC 185 ej71 dX9_bowl_185 ?_
          refine v_ladd hC 186 dX9_bowl_186 ?_
          refine v_ldc2 hC (v := (1000000007 : Int64)) 187 wG151 dX9_bowl_187 ?_
          refine v_lrem hC 190 (by decide) dX9_bowl_190 ?_
          obtain ⟨j72, ej72, h⟩ := onm h
          refine v_topl j72 ej72 ?_
          refine v_lstore hC [(5, .long j72), (0, va_rf r0), (1, .int x1), (2, .int x2), (4, .int x4), (7, .int x28)] 191 dX9_bowl_191 (by decide) rfl ?_
          refine v_goto hC 193 237 dX9_bowl_193 (by decide) ?_
          refine v_sub [(0, va_rf r0), (1, .int x1), (2, .int x2), (4, .int x4), (5, .long j72), (7, .int x28)] [1, 2, 3, 4, 0, 5] rfl ?_
          exact J237 _ _ h
set_option maxHeartbeats 1000000 in
set_option maxRecDepth 20000 in
theorem tX9_bowl {l : Launch} {w : VW} {N : Nat} {S : pH} {r0 : Option Nat} {x1 : Int32} {x2 : Int32} {x3 : Int32} {v0 : Int32} {S0 : pH} (h : fX9_bowl N S r0 x1 x2 x3 = some (v0, S0)) : CT l w yX9_bowl cX9_bowl 9 (some .int) rmX9_bowl [va_rf r0, .int x1, .int x2, .int x3] S (some (.int v0)) S0 := by
  refine v_entry [(0, va_rf r0), (1, .int x1), (2, .int x2), (3, .int x3)] (by decide) (by simp [lg_sl, cat_rf, cat_i, cat_j]) (by simp [lv_args, cat_rf, cat_i, cat_j]) (fun g _ hC => ?_)
  unfold fX9_bowl at h
  obtain ⟨hO, h⟩ := chk_spec h
  refine v_iload_n hC 0 1 dX9_bowl_0 rfl ?_
  refine v_iconst hC (2 : Int32) 1 dX9_bowl_1 (by decide) ?_
  refine v_bipush hC (12 : Int32) 2 dX9_bowl_2 (by decide) ?_
  obtain ⟨x21, ex21, h⟩ := obn h
  refine qX9_97 hC rfl 4 ex21 (by decide) (catL (Nat.le_of_ble_eq_true rfl)) (by decide) dX9_bowl_4 ?_
  refine v_if_eq hC 7 29 dX9_bowl_7 (by decide) (fun c83 => ?_) (fun c83 => ?_)
  · replace h := ifp h c83
    refine v_iconst hC (-1 : Int32) 29 dX9_bowl_29 (by decide) ?_
    obtain ⟨rfl, rfl⟩ := sp2 h
    exact v_iret hC 30 (by decide) (by decide) dX9_bowl_30
  · replace h := ifn h c83
    refine v_iload_n hC 10 2 dX9_bowl_10 rfl ?_
    refine v_iconst hC (1 : Int32) 11 dX9_bowl_11 (by decide) ?_
    refine v_bipush hC (8 : Int32) 12 dX9_bowl_12 (by decide) ?_
    obtain ⟨x22, ex22, h⟩ := obn h
    refine qX9_97 hC rfl 14 ex22 (by decide) (catL (Nat.le_of_ble_eq_true rfl)) (by decide) dX9_bowl_14 ?_
    refine v_if_eq hC 17 29 dX9_bowl_17 (by decide) (fun c82 => ?_) (fun c82 => ?_)
    · replace h := ifp h c82
      refine v_iconst hC (-1 : Int32) 29 dX9_bowl_29 (by decide) ?_
      obtain ⟨rfl, rfl⟩ := sp2 h
      exact v_iret hC 30 (by decide) (by decide) dX9_bowl_30
    · replace h := ifn h c82
      refine v_iload_n hC 20 3 dX9_bowl_20 rfl ?_
      refine v_iconst hC (0 : Int32) 21 dX9_bowl_21 (by decide) ?_
      refine v_iconst hC (1 : Int32) 22 dX9_bowl_22 (by decide) ?_
      obtain ⟨x23, ex23, h⟩ := obn h
      refine qX9_97 hC rfl 23 ex23 (by decide) (catL (Nat.le_of_ble_eq_true rfl)) (by decide) dX9_bowl_23 ?_
      refine v_if_ne hC 26 31 dX9_bowl_26 (by decide) (fun c81 => ?_) (fun c81 => ?_)
      · replace h := ifp h c81
        refine v_aload_n hC 31 0 dX9_bowl_31 rfl ?_
        refine v_iload_n hC 32 2 dX9_bowl_32 rfl ?_
        obtain ⟨S24, eS24, h⟩ := obn h
        refine qX9_196 hC rfl 33 eS24 (by decide) (catL (Nat.le_of_ble_eq_true rfl)) (by decide) dX9_bowl_33 ?_
        refine v_iload_n hC 36 3 dX9_bowl_36 rfl ?_
        refine v_iconst hC (1 : Int32) 37 dX9_bowl_37 (by decide) ?_
        obtain ⟨j46, f46, h⟩ := onm h
        have J46 : ∀ (x25 : Int32), j46 x25 = some (v0, S0) → V g w 9 (Qm g w rmX9_bowl.cells rmX9_bowl.slots (some (.int v0)) S0) S24 0 0 46 [(0, va_rf r0), (1, .int x1), (2, .int x2)] [.int x25] := by
          intro x25 h
          replace h := jb1 f46 h
          refine v_istore hC [(4, .int x25), (0, va_rf r0), (1, .int x1), (2, .int x2)] 46 dX9_bowl_46 (by decide) rfl ?_
          refine v_iload hC 48 0 dX9_bowl_48 rfl ?_
          obtain ⟨j60, f60, h⟩ := onm h
          have J60 : ∀ (j26 : Int64), j60 j26 = some (v0, S0) → V g w 9 (Qm g w rmX9_bowl.cells rmX9_bowl.slots (some (.int v0)) S0) S24 0 0 60 [(0, va_rf r0), (1, .int x1), (2, .int x2), (4, .int x25)] [.long j26] := by
            intro j26 h
            replace h := jb1 f60 h
            refine v_lstore hC [(5, .long j26), (0, va_rf r0), (1, .int x1), (2, .int x2), (4, .int x25)] 60 dX9_bowl_60 (by decide) rfl ?_
            refine v_iconst hC (0 : Int32) 62 dX9_bowl_62 (by decide) ?_
            refine v_istore hC [(7, .int (0 : Int32)), (5, .long j26), (0, va_rf r0), (1, .int x1), (2, .int x2), (4, .int x25)] 63 dX9_bowl_63 (by decide) rfl ?_
            obtain ⟨j76, S77, E65, h⟩ := ob2 h
            refine v_sub [(0, va_rf r0), (1, .int x1), (2, .int x2), (4, .int x25), (5, .long j26), (7, .int (0 : Int32))] [2, 3, 4, 5, 1, 0] rfl ?_
            refine kX9_bowl_65 hC _ _ _ _ _ E65 (fun _ _ hz9 => ?_)
            cases hz9
            refine v_lload hC 243 0 dX9_bowl_243 rfl ?_
            refine v_lconst hC (0 : Int64) 245 dX9_bowl_245 (by decide) ?_
            refine v_lcmp hC 246 dX9_bowl_246 ?_
            refine v_if_ge hC 247 255 dX9_bowl_247 (by decide) (fun c78 => ?_) (fun c78 => ?_)
            · replace h := ifp h c78
              refine v_lload hC 255 0 dX9_bowl_255 rfl ?_
              refine v_l2i hC 257 dX9_bowl_257 ?_
              obtain ⟨rfl, rfl⟩ := sp2 h
              exact v_iret hC 258 (by decide) (by decide) dX9_bowl_258
            · replace h := ifn h c78
              refine v_bipush hC (-9 : Int32) 250 dX9_bowl_250 (by decide) ?_
              refine v_goto hC 252 258 dX9_bowl_252 (by decide) ?_
              obtain ⟨rfl, rfl⟩ := sp2 h
              exact v_iret hC 258 (by decide) (by decide) dX9_bowl_258
          refine v_if_eq hC 50 59 dX9_bowl_50 (by decide) (fun c79 => ?_) (fun c79 => ?_)
          · replace h := ifp h c79
            refine v_lconst hC (0 : Int64) 59 dX9_bowl_59 (by decide) ?_
            refine v_sub [(0, va_rf r0), (1, .int x1), (2, .int x2), (4, .int x25)] [1, 2, 3, 0] rfl ?_
            exact J60 _ h
          · replace h := ifn h c79
            refine v_ldc2 hC (v := (-1 : Int64)) 53 wG145 dX9_bowl_53 ?_
            refine v_goto hC 56 60 dX9_bowl_56 (by decide) ?_
            refine v_sub [(0, va_rf r0), (1, .int x1), (2, .int x2), (4, .int x25)] [1, 2, 3, 0] rfl ?_
            exact J60 _ h
        refine v_icmp_ne hC 38 45 dX9_bowl_38 (by decide) (fun c80 => ?_) (fun c80 => ?_)
        · replace h := ifp h c80
          refine v_iconst hC (0 : Int32) 45 dX9_bowl_45 (by decide) ?_
          refine v_sub [(0, va_rf r0), (1, .int x1), (2, .int x2)] [0, 1, 2] rfl ?_
          exact J46 _ h
        · replace h := ifn h (fun q => q c80)
          refine v_iconst hC (1 : Int32) 41 dX9_bowl_41 (by decide) ?_
          refine v_goto hC 42 46 dX9_bowl_42 (by decide) ?_
          refine v_sub [(0, va_rf r0), (1, .int x1), (2, .int x2)] [0, 1, 2] rfl ?_
          exact J46 _ h
      · replace h := ifn h (fun q => q c81)
        refine v_iconst hC (-1 : Int32) 29 dX9_bowl_29 (by decide) ?_
        obtain ⟨rfl, rfl⟩ := sp2 h
        exact v_iret hC 30 (by decide) (by decide) dX9_bowl_30
abbrev rmX9_placesOf : Room := { frames := 0, cells := 0, slots := 0, locals := 0 }
theorem hdX9_placesOf : yX9_placesOf.cls ≠ "java/lang/invoke/MethodHandle" ∧ yX9_placesOf.cls ≠ "java/lang/invoke/VarHandle" ∧ (parseMethodDescriptor yX9_placesOf.desc).map (fun d => d.parameters.length) = some 1 := by decide +kernel
def lX9_placesOf_15 (N : Nat) (S : pH) (r0 : Option Nat) (x1 : Int32) (x3 : Int32) : Nat → Int32 → Int32 → Option (Int32)
  | 0, _, _ => none
  | n + 1, x24, x25 =>
    (gfI S 9 10 r0).bind fun x26 =>
    if x26 ≤ x25 then
    (some x24)
    else
    (gfR S 9 11 r0).bind fun r27 =>
    (ldI S 0 r27 (((4 : Int32) * x3) + x25)).bind fun x28 =>
    nm (fun (x29 : Int32) (x30 : Int32) =>
    nm (x29 + x30) fun x31 =>
    nm (x25 + (1 : Int32)) fun x32 =>
    lX9_placesOf_15 N S r0 x1 x3 n x31 x32) fun j45 =>
    if ¬ x28 = x1 then
    (j45 x24 (0 : Int32))
    else
    j45 x24 (1 : Int32)
def lX9_placesOf_4 (N : Nat) (S : pH) (r0 : Option Nat) (x1 : Int32) : Nat → Int32 → Int32 → Option (Int32)
  | 0, _, _ => none
  | n + 1, x21, x22 =>
    (gfI S 9 10 r0).bind fun x23 =>
    if x23 ≤ x22 then
    (some x21)
    else
    (lX9_placesOf_15 N S r0 x1 x22 N x21 (0 : Int32)).bind fun x35 =>
    nm (x22 + (1 : Int32)) fun x36 =>
    lX9_placesOf_4 N S r0 x1 n x35 x36
def fX9_placesOf (N : Nat) (S : pH) (r0 : Option Nat) (x1 : Int32) : Option (Int32) :=
  chk S 9 r0 <|
  (lX9_placesOf_4 N S r0 x1 N (0 : Int32) (0 : Int32)).bind fun x38 =>
  some x38
theorem oX9_placesOf {N : Nat} {S : pH} {r0 : Option Nat} {x1 : Int32} {z : Int32} (h : fX9_placesOf N S r0 x1 = some z) : ∃ fs, obj S 9 r0 = some fs := by
  unfold fX9_placesOf at h
  exact (chk_spec h).1
set_option maxHeartbeats 1000000 in
set_option maxRecDepth 20000 in
theorem kX9_placesOf_15 {g : VG} {w : VW} {N : Nat} {S : pH} {r0 : Option Nat} {x1 : Int32} {x3 : Int32} {v0 : Int32} (hC : Cx g yX9_placesOf cX9_placesOf 5 (some .int) rmX9_placesOf w) : ∀ (n : Nat) (x24 : Int32) (x25 : Int32) (z : (Int32)), lX9_placesOf_15 N S r0 x1 x3 n x24 x25 = some z → (∀ (e0 : Int32), z = e0 → V g w 5 (Qm g w rmX9_placesOf.cells rmX9_placesOf.slots (some (.int v0)) S) S 0 0 53 [(0, va_rf r0), (1, .int x1), (2, .int e0), (3, .int x3)] []) → V g w 5 (Qm g w rmX9_placesOf.cells rmX9_placesOf.slots (some (.int v0)) S) S 0 0 15 [(0, va_rf r0), (1, .int x1), (2, .int x24), (3, .int x3), (4, .int x25)] [] := by
  intro n
  induction n with
  | zero => intro x24 x25 z h; rw [lX9_placesOf_15] at h; cases h
  | succ n ih =>
    intro x24 x25 z h K
    rw [lX9_placesOf_15] at h
    refine v_iload hC 15 4 dX9_placesOf_15 rfl ?_
    refine v_aload_n hC 17 0 dX9_placesOf_17 rfl ?_
    obtain ⟨x26, ex26, h⟩ := obn h
    refine gRX9_38 hC rfl 18 ex26 dX9_placesOf_18 ?_
    refine v_icmp_ge hC 21 53 dX9_placesOf_21 (by decide) (fun c34 => ?_) (fun c34 => ?_)
    · replace h := ifp h c34
      refine v_sub [(0, va_rf r0), (1, .int x1), (2, .int x24), (3, .int x3)] [0, 1, 2, 3] rfl ?_
      exact K _ (sp1 h)
    · replace h := ifn h c34
      refine v_iload_n hC 24 2 dX9_placesOf_24 rfl ?_
      refine v_aload_n hC 25 0 dX9_placesOf_25 rfl ?_
      obtain ⟨r27, er27, h⟩ := obn h
      refine gRX9_41 hC rfl 26 er27 dX9_placesOf_26 ?_
      refine v_iconst hC (4 : Int32) 29 dX9_placesOf_29 (by decide) ?_
      refine v_iload_n hC 30 3 dX9_placesOf_30 rfl ?_
      refine v_imul hC 31 dX9_placesOf_31 ?_
      refine v_iload hC 32 4 dX9_placesOf_32 rfl ?_
      refine v_iadd hC 34 dX9_placesOf_34 ?_
      obtain ⟨x28, ex28, h⟩ := obn h
      refine v_iald hC 35 ex28 dX9_placesOf_35 ?_
      refine v_iload_n hC 36 1 dX9_placesOf_36 rfl ?_
      obtain ⟨j45, f45, h⟩ := onm h
      have J45 : ∀ (x29 : Int32) (x30 : Int32), j45 x29 x30 = some z → V g w 5 (Qm g w rmX9_placesOf.cells rmX9_placesOf.slots (some (.int v0)) S) S 0 0 45 [(0, va_rf r0), (1, .int x1), (3, .int x3), (4, .int x25)] [.int x30, .int x29] := by
        intro x29 x30 h
        replace h := jb2 f45 h
        refine v_iadd hC 45 dX9_placesOf_45 ?_
        obtain ⟨x31, ex31, h⟩ := onm h
        refine v_topi x31 ex31 ?_
        refine v_istore_n hC [(2, .int x31), (0, va_rf r0), (1, .int x1), (3, .int x3), (4, .int x25)] 46 dX9_placesOf_46 (by decide) rfl ?_
        obtain ⟨x32, ex32, h⟩ := onm h
        refine v_iinc hC x32 [(4, .int x32), (2, .int x31), (0, va_rf r0), (1, .int x1), (3, .int x3)] 47 4 dX9_placesOf_47 rfl (by rw [ex32]; rfl) (by decide) rfl ?_
        refine v_goto hC 50 15 dX9_placesOf_50 (by decide) ?_
        refine v_sub [(0, va_rf r0), (1, .int x1), (2, .int x31), (3, .int x3), (4, .int x32)] [2, 3, 1, 4, 0] rfl ?_
        exact ih _ _ _ h K
      refine v_icmp_ne hC 37 44 dX9_placesOf_37 (by decide) (fun c33 => ?_) (fun c33 => ?_)
      · replace h := ifp h c33
        refine v_iconst hC (0 : Int32) 44 dX9_placesOf_44 (by decide) ?_
        refine v_sub [(0, va_rf r0), (1, .int x1), (3, .int x3), (4, .int x25)] [0, 1, 3, 4] rfl ?_
        exact J45 _ _ h
      · replace h := ifn h (fun q => q c33)
        refine v_iconst hC (1 : Int32) 40 dX9_placesOf_40 (by decide) ?_
        refine v_goto hC 41 45 dX9_placesOf_41 (by decide) ?_
        refine v_sub [(0, va_rf r0), (1, .int x1), (3, .int x3), (4, .int x25)] [0, 1, 3, 4] rfl ?_
        exact J45 _ _ h
set_option maxHeartbeats 1000000 in
set_option maxRecDepth 20000 in
theorem kX9_placesOf_4 {g : VG} {w : VW} {N : Nat} {S : pH} {r0 : Option Nat} {x1 : Int32} {v0 : Int32} (hC : Cx g yX9_placesOf cX9_placesOf 5 (some .int) rmX9_placesOf w) : ∀ (n : Nat) (x21 : Int32) (x22 : Int32) (z : (Int32)), lX9_placesOf_4 N S r0 x1 n x21 x22 = some z → (∀ (e0 : Int32), z = e0 → V g w 5 (Qm g w rmX9_placesOf.cells rmX9_placesOf.slots (some (.int v0)) S) S 0 0 59 [(2, .int e0)] []) → V g w 5 (Qm g w rmX9_placesOf.cells rmX9_placesOf.slots (some (.int v0)) S) S 0 0 4 [(0, va_rf r0), (1, .int x1), (2, .int x21), (3, .int x22)] [] := by
  intro n
  induction n with
  | zero => intro x21 x22 z h; rw [lX9_placesOf_4] at h; cases h
  | succ n ih =>
    intro x21 x22 z h K
    rw [lX9_placesOf_4] at h
    refine v_iload_n hC 4 3 dX9_placesOf_4 rfl ?_
    refine v_aload_n hC 5 0 dX9_placesOf_5 rfl ?_
    obtain ⟨x23, ex23, h⟩ := obn h
    refine gRX9_38 hC rfl 6 ex23 dX9_placesOf_6 ?_
    refine v_icmp_ge hC 9 59 dX9_placesOf_9 (by decide) (fun c37 => ?_) (fun c37 => ?_)
    · replace h := ifp h c37
      refine v_sub [(2, .int x21)] [2] rfl ?_
      exact K _ (sp1 h)
    · replace h := ifn h c37
      refine v_iconst hC (0 : Int32) 12 dX9_placesOf_12 (by decide) ?_
      refine v_istore hC [(4, .int (0 : Int32)), (0, va_rf r0), (1, .int x1), (2, .int x21), (3, .int x22)] 13 dX9_placesOf_13 (by decide) rfl ?_
      obtain ⟨x35, E15, h⟩ := obn h
      refine v_sub [(0, va_rf r0), (1, .int x1), (2, .int x21), (3, .int x22), (4, .int (0 : Int32))] [1, 2, 3, 4, 0] rfl ?_
      refine kX9_placesOf_15 hC _ _ _ _ E15 (fun _ hz9 => ?_)
      cases hz9
      obtain ⟨x36, ex36, h⟩ := onm h
      refine v_iinc hC x36 [(3, .int x36), (0, va_rf r0), (1, .int x1), (2, .int x35)] 53 3 dX9_placesOf_53 rfl (by rw [ex36]; rfl) (by decide) rfl ?_
      refine v_goto hC 56 4 dX9_placesOf_56 (by decide) ?_
      refine v_sub [(0, va_rf r0), (1, .int x1), (2, .int x35), (3, .int x36)] [1, 2, 3, 0] rfl ?_
      exact ih _ _ _ h K
set_option maxHeartbeats 1000000 in
set_option maxRecDepth 20000 in
theorem tX9_placesOf {l : Launch} {w : VW} {N : Nat} {S : pH} {r0 : Option Nat} {x1 : Int32} {v0 : Int32} (h : fX9_placesOf N S r0 x1 = some v0) : CT l w yX9_placesOf cX9_placesOf 5 (some .int) rmX9_placesOf [va_rf r0, .int x1] S (some (.int v0)) S := by
  refine v_entry [(0, va_rf r0), (1, .int x1)] (by decide) (by simp [lg_sl, cat_rf, cat_i, cat_j]) (by simp [lv_args, cat_rf, cat_i, cat_j]) (fun g _ hC => ?_)
  unfold fX9_placesOf at h
  obtain ⟨hO, h⟩ := chk_spec h
  refine v_iconst hC (0 : Int32) 0 dX9_placesOf_0 (by decide) ?_
  refine v_istore_n hC [(2, .int (0 : Int32)), (0, va_rf r0), (1, .int x1)] 1 dX9_placesOf_1 (by decide) rfl ?_
  refine v_iconst hC (0 : Int32) 2 dX9_placesOf_2 (by decide) ?_
  refine v_istore_n hC [(3, .int (0 : Int32)), (2, .int (0 : Int32)), (0, va_rf r0), (1, .int x1)] 3 dX9_placesOf_3 (by decide) rfl ?_
  obtain ⟨x38, E4, h⟩ := obn h
  refine v_sub [(0, va_rf r0), (1, .int x1), (2, .int (0 : Int32)), (3, .int (0 : Int32))] [2, 3, 1, 0] rfl ?_
  refine kX9_placesOf_4 hC _ _ _ _ E4 (fun _ hz9 => ?_)
  cases hz9
  refine v_iload_n hC 59 0 dX9_placesOf_59 rfl ?_
  obtain rfl := sp1 h
  exact v_iret hC 60 (by decide) (by decide) dX9_placesOf_60
set_option maxRecDepth 20000 in
theorem qX9_151 {g : VG} {w : VW} {nL : Nat} {Q : State → Prop} {S : pH} {kc ks : Nat} {lv : List (Nat × Value)} {rest : List Value} {y : MethodName} {cc : ByteArray} {rt : Option FieldType} {rm : Room} (hC : Cx g y cc nL rt rm w) (hy : y.cls = RX9) (pc : Nat) {N : Nat} {r0 : Option Nat} {x1 : Int32} {v0 : Int32} (h : fX9_placesOf N S r0 x1 = some v0) (hR : rmX9_placesOf.frames + 1 ≤ rm.frames ∧ 8 + (5 + 11) + rmX9_placesOf.locals ≤ rm.locals) (hst : (rest.map fun v => v.category).sum ≤ 8) (hf : kc + 0 ≤ rm.cells ∧ ks + 0 ≤ rm.slots) (d : decode cc pc = .ok (.invokevirtual 151, 3)) (K : V g w nL Q S kc ks (pc + 3) lv (.int v0 :: rest)) : V g w nL Q S kc ks pc lv (.int x1 :: va_rf r0 :: rest) := by
  obtain ⟨fs, ho⟩ := oX9_placesOf h
  exact v_callV (As := [.int x1]) (rest := rest) (ci := 9) hC pc (tX9_placesOf (l := g.2.1) (w := w) h) rfl (by decide) ho wG595 (by rw [hy]; exact wG594) wG596 wG597 wG542 hdX9_placesOf rfl hR hst hf d K
abbrev rmX9_canBundle : Room := { frames := 1, cells := 0, slots := 0, locals := 24 }
theorem hdX9_canBundle : yX9_canBundle.cls ≠ "java/lang/invoke/MethodHandle" ∧ yX9_canBundle.cls ≠ "java/lang/invoke/VarHandle" ∧ (parseMethodDescriptor yX9_canBundle.desc).map (fun d => d.parameters.length) = some 1 := by decide +kernel
def lX9_canBundle_43 (N : Nat) (S : pH) (r0 : Option Nat) (x1 : Int32) (x2 : Int32) : Nat → Int32 → Int32 → Option (Int32)
  | 0, _, _ => none
  | n + 1, x28, x29 =>
    (gfI S 9 2 r0).bind fun x30 =>
    if x30 ≤ x29 then
    (some x28)
    else
    (fX9_placesOf N S r0 x29).bind fun x31 =>
    nm (fun (x32 : Int32) =>
    nm (x29 + (1 : Int32)) fun x33 =>
    lX9_canBundle_43 N S r0 x1 x2 n x32 x33) fun j130 =>
    nm (fun (_ : Unit) =>
    j130 (0 : Int32)) fun j129 =>
    if x28 = 0 then
    (j129 ())
    else
    nm (fun (_ : Unit) =>
    j130 (1 : Int32)) fun j125 =>
    if x31 = 0 then
    (j125 ())
    else
    (gfR S 9 3 r0).bind fun r34 =>
    (ldI S 0 r34 x29).bind fun x35 =>
    (gfR S 9 3 r0).bind fun r36 =>
    (ldI S 0 r36 x2).bind fun x37 =>
    if ¬ x35 = x37 then
    (j129 ())
    else
    (gfR S 9 5 r0).bind fun r38 =>
    (ldI S 0 r38 x29).bind fun x39 =>
    (gfR S 9 5 r0).bind fun r40 =>
    (ldI S 0 r40 x2).bind fun x41 =>
    if ¬ x39 = x41 then
    (j129 ())
    else
    (gfR S 9 6 r0).bind fun r42 =>
    (ldI S 0 r42 x29).bind fun x43 =>
    if ¬ x43 = 0 then
    (j129 ())
    else
    (gfR S 9 4 r0).bind fun r44 =>
    (ldI S 0 r44 x29).bind fun x45 =>
    if x45 < (x31 * x1) then
    (j129 ())
    else
    j125 ()
def fX9_canBundle (N : Nat) (S : pH) (r0 : Option Nat) (x1 : Int32) : Option (Int32) :=
  chk S 9 r0 <|
  (fX9_placesOf N S r0 (-9 : Int32)).bind fun x21 =>
  if x21 ≤ 0 then
  ((gfR S 9 11 r0).bind fun r22 =>
  (ldI S 0 r22 (0 : Int32)).bind fun x23 =>
  (gfI S 9 10 r0).bind fun x24 =>
  (gfR S 9 3 r0).bind fun r25 =>
  (ldI S 0 r25 x23).bind fun x26 =>
  nm (fun (x27 : Int32) =>
  (lX9_canBundle_43 N S r0 x1 x23 N x27 (0 : Int32)).bind fun x53 =>
  if x53 = 0 ∨ x53 = 1 then some x53 else none) fun j39 =>
  if (8 : Int32) < (x24 * x26) then
  (j39 (0 : Int32))
  else
  j39 (1 : Int32))
  else
  some (0 : Int32)
theorem oX9_canBundle {N : Nat} {S : pH} {r0 : Option Nat} {x1 : Int32} {z : Int32} (h : fX9_canBundle N S r0 x1 = some z) : ∃ fs, obj S 9 r0 = some fs := by
  unfold fX9_canBundle at h
  exact (chk_spec h).1
set_option maxHeartbeats 1000000 in
set_option maxRecDepth 20000 in
theorem kX9_canBundle_43 {g : VG} {w : VW} {N : Nat} {S : pH} {r0 : Option Nat} {x1 : Int32} {x2 : Int32} {v0 : Int32} (hC : Cx g yX9_canBundle cX9_canBundle 6 (some .boolean) rmX9_canBundle w) : ∀ (n : Nat) (x28 : Int32) (x29 : Int32) (z : (Int32)), lX9_canBundle_43 N S r0 x1 x2 n x28 x29 = some z → (∀ (e0 : Int32), z = e0 → V g w 6 (Qm g w rmX9_canBundle.cells rmX9_canBundle.slots (some (.int v0)) S) S 0 0 137 [(3, .int e0)] []) → V g w 6 (Qm g w rmX9_canBundle.cells rmX9_canBundle.slots (some (.int v0)) S) S 0 0 43 [(0, va_rf r0), (1, .int x1), (2, .int x2), (3, .int x28), (4, .int x29)] [] := by
  intro n
  induction n with
  | zero => intro x28 x29 z h; rw [lX9_canBundle_43] at h; cases h
  | succ n ih =>
    intro x28 x29 z h K
    rw [lX9_canBundle_43] at h
    refine v_iload hC 43 4 dX9_canBundle_43 rfl ?_
    refine v_aload_n hC 45 0 dX9_canBundle_45 rfl ?_
    obtain ⟨x30, ex30, h⟩ := obn h
    refine gRX9_101 hC rfl 46 ex30 dX9_canBundle_46 ?_
    refine v_icmp_ge hC 49 137 dX9_canBundle_49 (by decide) (fun c52 => ?_) (fun c52 => ?_)
    · replace h := ifp h c52
      refine v_sub [(3, .int x28)] [3] rfl ?_
      exact K _ (sp1 h)
    · replace h := ifn h c52
      refine v_aload_n hC 52 0 dX9_canBundle_52 rfl ?_
      refine v_iload hC 53 4 dX9_canBundle_53 rfl ?_
      obtain ⟨x31, ex31, h⟩ := obn h
      refine qX9_151 hC rfl 55 ex31 (by decide) (catL (Nat.le_of_ble_eq_true rfl)) (by decide) dX9_canBundle_55 ?_
      refine v_istore hC [(5, .int x31), (0, va_rf r0), (1, .int x1), (2, .int x2), (3, .int x28), (4, .int x29)] 58 dX9_canBundle_58 (by decide) rfl ?_
      refine v_iload_n hC 60 4 dX9_canBundle_60 rfl ?_
      obtain ⟨j130, f130, h⟩ := onm h
      have J130 : ∀ (x32 : Int32), j130 x32 = some z → V g w 6 (Qm g w rmX9_canBundle.cells rmX9_canBundle.slots (some (.int v0)) S) S 0 0 130 [(0, va_rf r0), (1, .int x1), (2, .int x2), (4, .int x29)] [.int x32] := by
        intro x32 h
        replace h := jb1 f130 h
        refine v_istore_n hC [(3, .int x32), (0, va_rf r0), (1, .int x1), (2, .int x2), (4, .int x29)] 130 dX9_canBundle_130 (by decide) rfl ?_
        obtain ⟨x33, ex33, h⟩ := onm h
        refine v_iinc hC x33 [(4, .int x33), (3, .int x32), (0, va_rf r0), (1, .int x1), (2, .int x2)] 131 4 dX9_canBundle_131 rfl (by rw [ex33]; rfl) (by decide) rfl ?_
        refine v_goto hC 134 43 dX9_canBundle_134 (by decide) ?_
        refine v_sub [(0, va_rf r0), (1, .int x1), (2, .int x2), (3, .int x32), (4, .int x33)] [2, 3, 4, 1, 0] rfl ?_
        exact ih _ _ _ h K
      obtain ⟨j129, f129, h⟩ := onm h
      have J129 : ∀ (u9 : Unit), j129 u9 = some z → V g w 6 (Qm g w rmX9_canBundle.cells rmX9_canBundle.slots (some (.int v0)) S) S 0 0 129 [(0, va_rf r0), (1, .int x1), (2, .int x2), (4, .int x29)] [] := by
        intro u9 h
        replace h := jb1 f129 h
        refine v_iconst hC (0 : Int32) 129 dX9_canBundle_129 (by decide) ?_
        refine v_sub [(0, va_rf r0), (1, .int x1), (2, .int x2), (4, .int x29)] [0, 1, 2, 3] rfl ?_
        exact J130 _ h
      refine v_if_eq hC 61 129 dX9_canBundle_61 (by decide) (fun c51 => ?_) (fun c51 => ?_)
      · replace h := ifp h c51
        refine v_sub [(0, va_rf r0), (1, .int x1), (2, .int x2), (4, .int x29)] [1, 2, 3, 5] rfl ?_
        exact J129 _ h
      · replace h := ifn h c51
        refine v_iload hC 64 0 dX9_canBundle_64 rfl ?_
        obtain ⟨j125, f125, h⟩ := onm h
        have J125 : ∀ (u9 : Unit), j125 u9 = some z → V g w 6 (Qm g w rmX9_canBundle.cells rmX9_canBundle.slots (some (.int v0)) S) S 0 0 125 [(0, va_rf r0), (1, .int x1), (2, .int x2), (4, .int x29)] [] := by
          intro u9 h
          replace h := jb1 f125 h
          refine v_iconst hC (1 : Int32) 125 dX9_canBundle_125 (by decide) ?_
          refine v_goto hC 126 130 dX9_canBundle_126 (by decide) ?_
          refine v_sub [(0, va_rf r0), (1, .int x1), (2, .int x2), (4, .int x29)] [0, 1, 2, 3] rfl ?_
          exact J130 _ h
        refine v_if_eq hC 66 125 dX9_canBundle_66 (by decide) (fun c50 => ?_) (fun c50 => ?_)
        · replace h := ifp h c50
          refine v_sub [(0, va_rf r0), (1, .int x1), (2, .int x2), (4, .int x29)] [1, 2, 3, 5] rfl ?_
          exact J125 _ h
        · replace h := ifn h c50
          refine v_aload_n hC 69 1 dX9_canBundle_69 rfl ?_
          obtain ⟨r34, er34, h⟩ := obn h
          refine gRX9_16 hC rfl 70 er34 dX9_canBundle_70 ?_
          refine v_iload hC 73 5 dX9_canBundle_73 rfl ?_
          obtain ⟨x35, ex35, h⟩ := obn h
          refine v_iald hC 75 ex35 dX9_canBundle_75 ?_
          refine v_aload_n hC 76 1 dX9_canBundle_76 rfl ?_
          obtain ⟨r36, er36, h⟩ := obn h
          refine gRX9_16 hC rfl 77 er36 dX9_canBundle_77 ?_
          refine v_iload_n hC 80 3 dX9_canBundle_80 rfl ?_
          obtain ⟨x37, ex37, h⟩ := obn h
          refine v_iald hC 81 ex37 dX9_canBundle_81 ?_
          refine v_icmp_ne hC 82 129 dX9_canBundle_82 (by decide) (fun c49 => ?_) (fun c49 => ?_)
          · replace h := ifp h c49
            refine v_sub [(0, va_rf r0), (1, .int x1), (2, .int x2), (4, .int x29)] [1, 2, 3, 5] rfl ?_
            exact J129 _ h
          · replace h := ifn h (fun q => q c49)
            refine v_aload_n hC 85 1 dX9_canBundle_85 rfl ?_
            obtain ⟨r38, er38, h⟩ := obn h
            refine gRX9_22 hC rfl 86 er38 dX9_canBundle_86 ?_
            refine v_iload hC 89 5 dX9_canBundle_89 rfl ?_
            obtain ⟨x39, ex39, h⟩ := obn h
            refine v_iald hC 91 ex39 dX9_canBundle_91 ?_
            refine v_aload_n hC 92 1 dX9_canBundle_92 rfl ?_
            obtain ⟨r40, er40, h⟩ := obn h
            refine gRX9_22 hC rfl 93 er40 dX9_canBundle_93 ?_
            refine v_iload_n hC 96 3 dX9_canBundle_96 rfl ?_
            obtain ⟨x41, ex41, h⟩ := obn h
            refine v_iald hC 97 ex41 dX9_canBundle_97 ?_
            refine v_icmp_ne hC 98 129 dX9_canBundle_98 (by decide) (fun c48 => ?_) (fun c48 => ?_)
            · replace h := ifp h c48
              refine v_sub [(0, va_rf r0), (1, .int x1), (2, .int x2), (4, .int x29)] [1, 2, 3, 5] rfl ?_
              exact J129 _ h
            · replace h := ifn h (fun q => q c48)
              refine v_aload_n hC 101 1 dX9_canBundle_101 rfl ?_
              obtain ⟨r42, er42, h⟩ := obn h
              refine gRX9_25 hC rfl 102 er42 dX9_canBundle_102 ?_
              refine v_iload hC 105 5 dX9_canBundle_105 rfl ?_
              obtain ⟨x43, ex43, h⟩ := obn h
              refine v_iald hC 107 ex43 dX9_canBundle_107 ?_
              refine v_if_ne hC 108 129 dX9_canBundle_108 (by decide) (fun c47 => ?_) (fun c47 => ?_)
              · replace h := ifp h c47
                refine v_sub [(0, va_rf r0), (1, .int x1), (2, .int x2), (4, .int x29)] [1, 2, 3, 5] rfl ?_
                exact J129 _ h
              · replace h := ifn h (fun q => q c47)
                refine v_aload_n hC 111 1 dX9_canBundle_111 rfl ?_
                obtain ⟨r44, er44, h⟩ := obn h
                refine gRX9_19 hC rfl 112 er44 dX9_canBundle_112 ?_
                refine v_iload hC 115 5 dX9_canBundle_115 rfl ?_
                obtain ⟨x45, ex45, h⟩ := obn h
                refine v_iald hC 117 ex45 dX9_canBundle_117 ?_
                refine v_iload hC 118 0 dX9_canBundle_118 rfl ?_
                refine v_iload_n hC 120 2 dX9_canBundle_120 rfl ?_
                refine v_imul hC 121 dX9_canBundle_121 ?_
                refine v_icmp_lt hC 122 129 dX9_canBundle_122 (by decide) (fun c46 => ?_) (fun c46 => ?_)
                · replace h := ifp h c46
                  refine v_sub [(0, va_rf r0), (1, .int x1), (2, .int x2), (4, .int x29)] [1, 2, 3, 5] rfl ?_
                  exact J129 _ h
                · replace h := ifn h c46
                  refine v_sub [(0, va_rf r0), (1, .int x1), (2, .int x2), (4, .int x29)] [1, 2, 3, 5] rfl ?_
                  exact J125 _ h
set_option maxHeartbeats 1000000 in
set_option maxRecDepth 20000 in
theorem tX9_canBundle {l : Launch} {w : VW} {N : Nat} {S : pH} {r0 : Option Nat} {x1 : Int32} {v0 : Int32} (h : fX9_canBundle N S r0 x1 = some v0) : CT l w yX9_canBundle cX9_canBundle 6 (some .boolean) rmX9_canBundle [va_rf r0, .int x1] S (some (.int v0)) S := by
  refine v_entry [(0, va_rf r0), (1, .int x1)] (by decide) (by simp [lg_sl, cat_rf, cat_i, cat_j]) (by simp [lv_args, cat_rf, cat_i, cat_j]) (fun g _ hC => ?_)
  unfold fX9_canBundle at h
  obtain ⟨hO, h⟩ := chk_spec h
  refine v_aload_n hC 0 0 dX9_canBundle_0 rfl ?_
  refine v_bipush hC (-9 : Int32) 1 dX9_canBundle_1 (by decide) ?_
  obtain ⟨x21, ex21, h⟩ := obn h
  refine qX9_151 hC rfl 3 ex21 (by decide) (catL (Nat.le_of_ble_eq_true rfl)) (by decide) dX9_canBundle_3 ?_
  refine v_if_le hC 6 11 dX9_canBundle_6 (by decide) (fun c55 => ?_) (fun c55 => ?_)
  · replace h := ifp h c55
    refine v_aload_n hC 11 0 dX9_canBundle_11 rfl ?_
    obtain ⟨r22, er22, h⟩ := obn h
    refine gRX9_41 hC rfl 12 er22 dX9_canBundle_12 ?_
    refine v_iconst hC (0 : Int32) 15 dX9_canBundle_15 (by decide) ?_
    obtain ⟨x23, ex23, h⟩ := obn h
    refine v_iald hC 16 ex23 dX9_canBundle_16 ?_
    refine v_istore_n hC [(2, .int x23), (0, va_rf r0), (1, .int x1)] 17 dX9_canBundle_17 (by decide) rfl ?_
    refine v_aload_n hC 18 1 dX9_canBundle_18 rfl ?_
    obtain ⟨x24, ex24, h⟩ := obn h
    refine gRX9_38 hC rfl 19 ex24 dX9_canBundle_19 ?_
    refine v_aload_n hC 22 1 dX9_canBundle_22 rfl ?_
    obtain ⟨r25, er25, h⟩ := obn h
    refine gRX9_16 hC rfl 23 er25 dX9_canBundle_23 ?_
    refine v_iload_n hC 26 0 dX9_canBundle_26 rfl ?_
    obtain ⟨x26, ex26, h⟩ := obn h
    refine v_iald hC 27 ex26 dX9_canBundle_27 ?_
    refine v_imul hC 28 dX9_canBundle_28 ?_
    refine v_bipush hC (8 : Int32) 29 dX9_canBundle_29 (by decide) ?_
    obtain ⟨j39, f39, h⟩ := onm h
    have J39 : ∀ (x27 : Int32), j39 x27 = some v0 → V g w 6 (Qm g w rmX9_canBundle.cells rmX9_canBundle.slots (some (.int v0)) S) S 0 0 39 [(0, va_rf r0), (1, .int x1), (2, .int x23)] [.int x27] := by
      intro x27 h
      replace h := jb1 f39 h
      refine v_istore_n hC [(3, .int x27), (0, va_rf r0), (1, .int x1), (2, .int x23)] 39 dX9_canBundle_39 (by decide) rfl ?_
      refine v_iconst hC (0 : Int32) 40 dX9_canBundle_40 (by decide) ?_
      refine v_istore hC [(4, .int (0 : Int32)), (3, .int x27), (0, va_rf r0), (1, .int x1), (2, .int x23)] 41 dX9_canBundle_41 (by decide) rfl ?_
      obtain ⟨x53, E43, h⟩ := obn h
      refine v_sub [(0, va_rf r0), (1, .int x1), (2, .int x23), (3, .int x27), (4, .int (0 : Int32))] [2, 3, 4, 1, 0] rfl ?_
      refine kX9_canBundle_43 hC _ _ _ _ E43 (fun _ hz9 => ?_)
      cases hz9
      refine v_iload_n hC 137 0 dX9_canBundle_137 rfl ?_
      obtain ⟨hz9, h⟩ := if0 h
      obtain rfl := sp1 h
      exact v_zret hC 138 (by decide) (by decide) hz9 dX9_canBundle_138
    refine v_icmp_gt hC 31 38 dX9_canBundle_31 (by decide) (fun c54 => ?_) (fun c54 => ?_)
    · replace h := ifp h c54
      refine v_iconst hC (0 : Int32) 38 dX9_canBundle_38 (by decide) ?_
      refine v_sub [(0, va_rf r0), (1, .int x1), (2, .int x23)] [1, 2, 0] rfl ?_
      exact J39 _ h
    · replace h := ifn h c54
      refine v_iconst hC (1 : Int32) 34 dX9_canBundle_34 (by decide) ?_
      refine v_goto hC 35 39 dX9_canBundle_35 (by decide) ?_
      refine v_sub [(0, va_rf r0), (1, .int x1), (2, .int x23)] [1, 2, 0] rfl ?_
      exact J39 _ h
  · replace h := ifn h c55
    refine v_iconst hC (0 : Int32) 9 dX9_canBundle_9 (by decide) ?_
    obtain rfl := sp1 h
    exact v_zret hC 10 (by decide) (by decide) (by decide) dX9_canBundle_10
abbrev rmX9_newCane : Room := { frames := 0, cells := 0, slots := 0, locals := 0 }
theorem hdX9_newCane : yX9_newCane.cls ≠ "java/lang/invoke/MethodHandle" ∧ yX9_newCane.cls ≠ "java/lang/invoke/VarHandle" ∧ (parseMethodDescriptor yX9_newCane.desc).map (fun d => d.parameters.length) = some 4 := by decide +kernel
def fX9_newCane (N : Nat) (S : pH) (r0 : Option Nat) (x1 : Int32) (x2 : Int32) (x3 : Int32) (x4 : Int32) : Option (Int32 × pH) :=
  chk S 9 r0 <|
  (gfR S 9 3 r0).bind fun r21 =>
  (gfI S 9 2 r0).bind fun x22 =>
  (stI S r21 x22 x1).bind fun S23 =>
  (gfR S23 9 4 r0).bind fun r24 =>
  (gfI S23 9 2 r0).bind fun x25 =>
  (stI S23 r24 x25 x2).bind fun S26 =>
  (gfR S26 9 5 r0).bind fun r27 =>
  (gfI S26 9 2 r0).bind fun x28 =>
  (stI S26 r27 x28 x3).bind fun S29 =>
  (gfR S29 9 6 r0).bind fun r30 =>
  (gfI S29 9 2 r0).bind fun x31 =>
  (stI S29 r30 x31 x4).bind fun S32 =>
  (gfI S32 9 2 r0).bind fun x33 =>
  (pfV S32 9 2 r0 (.int (x33 + (1 : Int32)))).bind fun S34 =>
  (gfI S34 9 2 r0).bind fun x35 =>
  some (x35 - (1 : Int32), S34)
theorem oX9_newCane {N : Nat} {S : pH} {r0 : Option Nat} {x1 : Int32} {x2 : Int32} {x3 : Int32} {x4 : Int32} {z : Int32 × pH} (h : fX9_newCane N S r0 x1 x2 x3 x4 = some z) : ∃ fs, obj S 9 r0 = some fs := by
  unfold fX9_newCane at h
  exact (chk_spec h).1
set_option maxHeartbeats 1000000 in
set_option maxRecDepth 20000 in
theorem tX9_newCane {l : Launch} {w : VW} {N : Nat} {S : pH} {r0 : Option Nat} {x1 : Int32} {x2 : Int32} {x3 : Int32} {x4 : Int32} {v0 : Int32} {S0 : pH} (h : fX9_newCane N S r0 x1 x2 x3 x4 = some (v0, S0)) : CT l w yX9_newCane cX9_newCane 5 (some .int) rmX9_newCane [va_rf r0, .int x1, .int x2, .int x3, .int x4] S (some (.int v0)) S0 := by
  refine v_entry [(0, va_rf r0), (1, .int x1), (2, .int x2), (3, .int x3), (4, .int x4)] (by decide) (by simp [lg_sl, cat_rf, cat_i, cat_j]) (by simp [lv_args, cat_rf, cat_i, cat_j]) (fun g _ hC => ?_)
  unfold fX9_newCane at h
  obtain ⟨hO, h⟩ := chk_spec h
  refine v_aload_n hC 0 0 dX9_newCane_0 rfl ?_
  obtain ⟨r21, er21, h⟩ := obn h
  refine gRX9_16 hC rfl 1 er21 dX9_newCane_1 ?_
  refine v_aload_n hC 4 0 dX9_newCane_4 rfl ?_
  obtain ⟨x22, ex22, h⟩ := obn h
  refine gRX9_101 hC rfl 5 ex22 dX9_newCane_5 ?_
  refine v_iload_n hC 8 1 dX9_newCane_8 rfl ?_
  obtain ⟨S23, eS23, h⟩ := obn h
  refine v_iast hC 9 eS23 dX9_newCane_9 ?_
  refine v_aload_n hC 10 0 dX9_newCane_10 rfl ?_
  obtain ⟨r24, er24, h⟩ := obn h
  refine gRX9_19 hC rfl 11 er24 dX9_newCane_11 ?_
  refine v_aload_n hC 14 0 dX9_newCane_14 rfl ?_
  obtain ⟨x25, ex25, h⟩ := obn h
  refine gRX9_101 hC rfl 15 ex25 dX9_newCane_15 ?_
  refine v_iload_n hC 18 2 dX9_newCane_18 rfl ?_
  obtain ⟨S26, eS26, h⟩ := obn h
  refine v_iast hC 19 eS26 dX9_newCane_19 ?_
  refine v_aload_n hC 20 0 dX9_newCane_20 rfl ?_
  obtain ⟨r27, er27, h⟩ := obn h
  refine gRX9_22 hC rfl 21 er27 dX9_newCane_21 ?_
  refine v_aload_n hC 24 0 dX9_newCane_24 rfl ?_
  obtain ⟨x28, ex28, h⟩ := obn h
  refine gRX9_101 hC rfl 25 ex28 dX9_newCane_25 ?_
  refine v_iload_n hC 28 3 dX9_newCane_28 rfl ?_
  obtain ⟨S29, eS29, h⟩ := obn h
  refine v_iast hC 29 eS29 dX9_newCane_29 ?_
  refine v_aload_n hC 30 0 dX9_newCane_30 rfl ?_
  obtain ⟨r30, er30, h⟩ := obn h
  refine gRX9_25 hC rfl 31 er30 dX9_newCane_31 ?_
  refine v_aload_n hC 34 0 dX9_newCane_34 rfl ?_
  obtain ⟨x31, ex31, h⟩ := obn h
  refine gRX9_101 hC rfl 35 ex31 dX9_newCane_35 ?_
  refine v_iload hC 38 4 dX9_newCane_38 rfl ?_
  obtain ⟨S32, eS32, h⟩ := obn h
  refine v_iast hC 40 eS32 dX9_newCane_40 ?_
  refine v_aload_n hC 41 0 dX9_newCane_41 rfl ?_
  refine v_dup hC 42 (cat_rf _) dX9_newCane_42 ?_
  obtain ⟨x33, ex33, h⟩ := obn h
  refine gRX9_101 hC rfl 43 ex33 dX9_newCane_43 ?_
  refine v_iconst hC (1 : Int32) 46 dX9_newCane_46 (by decide) ?_
  refine v_iadd hC 47 dX9_newCane_47 ?_
  obtain ⟨S34, eS34, h⟩ := obn h
  refine pRX9_101 hC rfl 48 eS34 dX9_newCane_48 ?_
  refine v_aload_n hC 51 0 dX9_newCane_51 rfl ?_
  obtain ⟨x35, ex35, h⟩ := obn h
  refine gRX9_101 hC rfl 52 ex35 dX9_newCane_52 ?_
  refine v_iconst hC (1 : Int32) 55 dX9_newCane_55 (by decide) ?_
  refine v_isub hC 56 dX9_newCane_56 ?_
  obtain ⟨rfl, rfl⟩ := sp2 h
  exact v_iret hC 57 (by decide) (by decide) dX9_newCane_57
abbrev rmX9_put : Room := { frames := 0, cells := 0, slots := 0, locals := 0 }
theorem hdX9_put : yX9_put.cls ≠ "java/lang/invoke/MethodHandle" ∧ yX9_put.cls ≠ "java/lang/invoke/VarHandle" ∧ (parseMethodDescriptor yX9_put.desc).map (fun d => d.parameters.length) = some 4 := by decide +kernel
def fX9_put (N : Nat) (S : pH) (r0 : Option Nat) (x1 : Int32) (x2 : Int32) (x3 : Int32) (x4 : Int32) : Option (pH) :=
  chk S 9 r0 <|
  (gfR S 9 7 r0).bind fun r21 =>
  (stI S r21 ((((64 : Int32) * x1) + ((8 : Int32) * x3)) + x2) x4).bind fun S22 =>
  some S22
theorem oX9_put {N : Nat} {S : pH} {r0 : Option Nat} {x1 : Int32} {x2 : Int32} {x3 : Int32} {x4 : Int32} {z : pH} (h : fX9_put N S r0 x1 x2 x3 x4 = some z) : ∃ fs, obj S 9 r0 = some fs := by
  unfold fX9_put at h
  exact (chk_spec h).1
set_option maxHeartbeats 1000000 in
set_option maxRecDepth 20000 in
theorem tX9_put {l : Launch} {w : VW} {N : Nat} {S : pH} {r0 : Option Nat} {x1 : Int32} {x2 : Int32} {x3 : Int32} {x4 : Int32} {S0 : pH} (h : fX9_put N S r0 x1 x2 x3 x4 = some S0) : CT l w yX9_put cX9_put 5 none rmX9_put [va_rf r0, .int x1, .int x2, .int x3, .int x4] S none S0 := by
  refine v_entry [(0, va_rf r0), (1, .int x1), (2, .int x2), (3, .int x3), (4, .int x4)] (by decide) (by simp [lg_sl, cat_rf, cat_i, cat_j]) (by simp [lv_args, cat_rf, cat_i, cat_j]) (fun g _ hC => ?_)
  unfold fX9_put at h
  obtain ⟨hO, h⟩ := chk_spec h
  refine v_aload_n hC 0 0 dX9_put_0 rfl ?_
  obtain ⟨r21, er21, h⟩ := obn h
  refine gRX9_28 hC rfl 1 er21 dX9_put_1 ?_
  refine v_bipush hC (64 : Int32) 4 dX9_put_4 (by decide) ?_
  refine v_iload_n hC 6 1 dX9_put_6 rfl ?_
  refine v_imul hC 7 dX9_put_7 ?_
  refine v_bipush hC (8 : Int32) 8 dX9_put_8 (by decide) ?_
  refine v_iload_n hC 10 3 dX9_put_10 rfl ?_
  refine v_imul hC 11 dX9_put_11 ?_
  refine v_iadd hC 12 dX9_put_12 ?_
  refine v_iload_n hC 13 2 dX9_put_13 rfl ?_
  refine v_iadd hC 14 dX9_put_14 ?_
  refine v_iload hC 15 4 dX9_put_15 rfl ?_
  obtain ⟨S22, eS22, h⟩ := obn h
  refine v_iast hC 17 eS22 dX9_put_17 ?_
  obtain rfl := sp1 h
  exact v_vret hC 18 (by decide) (by decide) dX9_put_18
set_option maxRecDepth 20000 in
theorem qX9_154 {g : VG} {w : VW} {nL : Nat} {Q : State → Prop} {S : pH} {kc ks : Nat} {lv : List (Nat × Value)} {rest : List Value} {y : MethodName} {cc : ByteArray} {rt : Option FieldType} {rm : Room} (hC : Cx g y cc nL rt rm w) (hy : y.cls = RX9) (pc : Nat) {N : Nat} {r0 : Option Nat} {x1 : Int32} {v0 : Int32} (h : fX9_canBundle N S r0 x1 = some v0) (hR : rmX9_canBundle.frames + 1 ≤ rm.frames ∧ 8 + (6 + 11) + rmX9_canBundle.locals ≤ rm.locals) (hst : (rest.map fun v => v.category).sum ≤ 8) (hf : kc + 0 ≤ rm.cells ∧ ks + 0 ≤ rm.slots) (d : decode cc pc = .ok (.invokevirtual 154, 3)) (K : V g w nL Q S kc ks (pc + 3) lv (.int v0 :: rest)) : V g w nL Q S kc ks pc lv (.int x1 :: va_rf r0 :: rest) := by
  obtain ⟨fs, ho⟩ := oX9_canBundle h
  exact v_callV (As := [.int x1]) (rest := rest) (ci := 9) hC pc (tX9_canBundle (l := g.2.1) (w := w) h) rfl (by decide) ho wG599 (by rw [hy]; exact wG598) wG600 wG601 wG542 hdX9_canBundle rfl hR hst hf d K
set_option maxRecDepth 20000 in
theorem qX9_111 {g : VG} {w : VW} {nL : Nat} {Q : State → Prop} {S : pH} {kc ks : Nat} {lv : List (Nat × Value)} {rest : List Value} {y : MethodName} {cc : ByteArray} {rt : Option FieldType} {rm : Room} (hC : Cx g y cc nL rt rm w) (hy : y.cls = RX9) (pc : Nat) {N : Nat} {r0 : Option Nat} {x1 : Int32} {x2 : Int32} {x3 : Int32} {x4 : Int32} {S0 : pH} (h : fX9_put N S r0 x1 x2 x3 x4 = some S0) (hR : rmX9_put.frames + 1 ≤ rm.frames ∧ 8 + (5 + 11) + rmX9_put.locals ≤ rm.locals) (hst : (rest.map fun v => v.category).sum ≤ 8) (hf : kc + 0 ≤ rm.cells ∧ ks + 0 ≤ rm.slots) (d : decode cc pc = .ok (.invokevirtual 111, 3)) (K : V g w nL Q S0 kc ks (pc + 3) lv (rest)) : V g w nL Q S kc ks pc lv (.int x4 :: .int x3 :: .int x2 :: .int x1 :: va_rf r0 :: rest) := by
  obtain ⟨fs, ho⟩ := oX9_put h
  exact v_callV (As := [.int x1, .int x2, .int x3, .int x4]) (rest := rest) (ci := 9) hC pc (tX9_put (l := g.2.1) (w := w) h) rfl (by decide) ho wG603 (by rw [hy]; exact wG602) wG604 wG605 wG542 hdX9_put rfl hR hst hf d K
set_option maxRecDepth 20000 in
theorem qX9_117 {g : VG} {w : VW} {nL : Nat} {Q : State → Prop} {S : pH} {kc ks : Nat} {lv : List (Nat × Value)} {rest : List Value} {y : MethodName} {cc : ByteArray} {rt : Option FieldType} {rm : Room} (hC : Cx g y cc nL rt rm w) (hy : y.cls = RX9) (pc : Nat) {N : Nat} {r0 : Option Nat} {x1 : Int32} {x2 : Int32} {x3 : Int32} {x4 : Int32} {v0 : Int32} {S0 : pH} (h : fX9_newCane N S r0 x1 x2 x3 x4 = some (v0, S0)) (hR : rmX9_newCane.frames + 1 ≤ rm.frames ∧ 8 + (5 + 11) + rmX9_newCane.locals ≤ rm.locals) (hst : (rest.map fun v => v.category).sum ≤ 8) (hf : kc + 0 ≤ rm.cells ∧ ks + 0 ≤ rm.slots) (d : decode cc pc = .ok (.invokevirtual 117, 3)) (K : V g w nL Q S0 kc ks (pc + 3) lv (.int v0 :: rest)) : V g w nL Q S kc ks pc lv (.int x4 :: .int x3 :: .int x2 :: .int x1 :: va_rf r0 :: rest) := by
  obtain ⟨fs, ho⟩ := oX9_newCane h
  exact v_callV (As := [.int x1, .int x2, .int x3, .int x4]) (rest := rest) (ci := 9) hC pc (tX9_newCane (l := g.2.1) (w := w) h) rfl (by decide) ho wG607 (by rw [hy]; exact wG606) wG608 wG609 wG542 hdX9_newCane rfl hR hst hf d K
abbrev rmX9_bundle : Room := { frames := 2, cells := 0, slots := 0, locals := 53 }
theorem hdX9_bundle : yX9_bundle.cls ≠ "java/lang/invoke/MethodHandle" ∧ yX9_bundle.cls ≠ "java/lang/invoke/VarHandle" ∧ (parseMethodDescriptor yX9_bundle.desc).map (fun d => d.parameters.length) = some 1 := by decide +kernel
def lX9_bundle_67 (N : Nat) (r0 : Option Nat) (x1 : Int32) (x2 : Int32) (x3 : Int32) (x4 : Int32) : Nat → Int32 → pH → Option (pH)
  | 0, _, _ => none
  | n + 1, x31, S32 =>
    (gfI S32 9 10 r0).bind fun x33 =>
    if (x33 * x3) ≤ x31 then
    (some S32)
    else
    if x3 = 0 then none else
    if x3 = 0 then none else
    nm (((4 : Int32) * (x4 / x3)) + (x31 / x3)) fun x36 =>
    (gfI S32 9 2 r0).bind fun x37 =>
    (gfR S32 9 11 r0).bind fun r38 =>
    (ldI S32 0 r38 x36).bind fun x39 =>
    if x3 = 0 then none else
    if x3 = 0 then none else
    (gfR S32 9 12 r0).bind fun r42 =>
    (ldI S32 0 r42 x36).bind fun x43 =>
    (fX9_shown N S32 r0 x39 x3 (x31 - x31 / x3 * x3) (x4 - x4 / x3 * x3) x43 (0 : Int32)).bind fun x44 =>
    (fX9_put N S32 r0 x37 x31 x4 x44).bind fun S45 =>
    nm (x31 + (1 : Int32)) fun x46 =>
    lX9_bundle_67 N r0 x1 x2 x3 x4 n x46 S45
def lX9_bundle_53 (N : Nat) (r0 : Option Nat) (x1 : Int32) (x2 : Int32) (x3 : Int32) : Nat → Int32 → pH → Option (pH)
  | 0, _, _ => none
  | n + 1, x28, S29 =>
    (gfI S29 9 10 r0).bind fun x30 =>
    if (x30 * x3) ≤ x28 then
    (some S29)
    else
    (lX9_bundle_67 N r0 x1 x2 x3 x28 N (0 : Int32) S29).bind fun S48 =>
    nm (x28 + (1 : Int32)) fun x49 =>
    lX9_bundle_53 N r0 x1 x2 x3 n x49 S48
def lX9_bundle_146 (N : Nat) (r0 : Option Nat) (x1 : Int32) (x2 : Int32) (x3 : Int32) : Nat → Int32 → pH → Option (pH)
  | 0, _, _ => none
  | n + 1, x52, S53 =>
    (gfI S53 9 2 r0).bind fun x54 =>
    if x54 ≤ x52 then
    (some S53)
    else
    (gfR S53 9 4 r0).bind fun r55 =>
    (ldI S53 0 r55 x52).bind fun x56 =>
    (fX9_placesOf N S53 r0 x52).bind fun x57 =>
    (stI S53 r55 x52 (x56 - (x57 * x1))).bind fun S58 =>
    nm (x52 + (1 : Int32)) fun x59 =>
    lX9_bundle_146 N r0 x1 x2 x3 n x59 S58
def fX9_bundle (N : Nat) (S : pH) (r0 : Option Nat) (x1 : Int32) : Option (Int32 × pH) :=
  chk S 9 r0 <|
  (fX9_in N S x1 (1 : Int32) (9999 : Int32)).bind fun x21 =>
  if ¬ x21 = 0 then
  ((fX9_canBundle N S r0 x1).bind fun x22 =>
  if ¬ x22 = 0 then
  ((gfI S 9 2 r0).bind fun x23 =>
  if ¬ x23 = (16 : Int32) then
  ((gfR S 9 11 r0).bind fun r24 =>
  (ldI S 0 r24 (0 : Int32)).bind fun x25 =>
  (gfR S 9 3 r0).bind fun r26 =>
  (ldI S 0 r26 x25).bind fun x27 =>
  (lX9_bundle_53 N r0 x1 x25 x27 N (0 : Int32) S).bind fun S51 =>
  (lX9_bundle_146 N r0 x1 x25 x27 N (0 : Int32) S51).bind fun S61 =>
  (gfI S61 9 10 r0).bind fun x62 =>
  (gfR S61 9 5 r0).bind fun r63 =>
  (ldI S61 0 r63 x25).bind fun x64 =>
  b2 (fX9_newCane N S61 r0 (x62 * x27) x1 x64 (0 : Int32)) fun x65 S66 =>
  some (x65, S66))
  else
  some ((-3 : Int32), S))
  else
  some ((-2 : Int32), S))
  else
  some ((-1 : Int32), S)
theorem oX9_bundle {N : Nat} {S : pH} {r0 : Option Nat} {x1 : Int32} {z : Int32 × pH} (h : fX9_bundle N S r0 x1 = some z) : ∃ fs, obj S 9 r0 = some fs := by
  unfold fX9_bundle at h
  exact (chk_spec h).1
set_option maxHeartbeats 1000000 in
set_option maxRecDepth 20000 in
theorem kX9_bundle_67 {g : VG} {w : VW} {N : Nat} {r0 : Option Nat} {x1 : Int32} {x2 : Int32} {x3 : Int32} {x4 : Int32} {v0 : Int32} {S0 : pH} (hC : Cx g yX9_bundle cX9_bundle 7 (some .int) rmX9_bundle w) : ∀ (n : Nat) (x31 : Int32) (S32 : pH) (z : (pH)), lX9_bundle_67 N r0 x1 x2 x3 x4 n x31 S32 = some z → (∀ (e0 : pH), z = e0 → V g w 7 (Qm g w rmX9_bundle.cells rmX9_bundle.slots (some (.int v0)) S0) e0 0 0 137 [(0, va_rf r0), (1, .int x1), (2, .int x2), (3, .int x3), (4, .int x4)] []) → V g w 7 (Qm g w rmX9_bundle.cells rmX9_bundle.slots (some (.int v0)) S0) S32 0 0 67 [(0, va_rf r0), (1, .int x1), (2, .int x2), (3, .int x3), (4, .int x4), (5, .int x31)] [] := by
  intro n
  induction n with
  | zero => intro x31 S32 z h; rw [lX9_bundle_67] at h; cases h
  | succ n ih =>
    intro x31 S32 z h K
    rw [lX9_bundle_67] at h
    refine v_iload hC 67 5 dX9_bundle_67 rfl ?_
    refine v_aload_n hC 69 0 dX9_bundle_69 rfl ?_
    obtain ⟨x33, ex33, h⟩ := obn h
    refine gRX9_38 hC rfl 70 ex33 dX9_bundle_70 ?_
    refine v_iload_n hC 73 3 dX9_bundle_73 rfl ?_
    refine v_imul hC 74 dX9_bundle_74 ?_
    refine v_icmp_ge hC 75 137 dX9_bundle_75 (by decide) (fun c47 => ?_) (fun c47 => ?_)
    · replace h := ifp h c47
      refine v_sub [(0, va_rf r0), (1, .int x1), (2, .int x2), (3, .int x3), (4, .int x4)] [0, 1, 2, 3, 4] rfl ?_
      exact K _ (sp1 h)
    · replace h := ifn h c47
      refine v_iconst hC (4 : Int32) 78 dX9_bundle_78 (by decide) ?_
      refine v_iload hC 79 4 dX9_bundle_79 rfl ?_
      refine v_iload_n hC 81 3 dX9_bundle_81 rfl ?_
      have c34 : ¬ x3 = 0 := fun q => absurd (ifp h q) (by simp)
      replace h := ifn h c34
      refine v_idiv hC 82 c34 dX9_bundle_82 ?_
      refine v_imul hC 83 dX9_bundle_83 ?_
      refine v_iload hC 84 5 dX9_bundle_84 rfl ?_
      refine v_iload_n hC 86 3 dX9_bundle_86 rfl ?_
      have c35 : ¬ x3 = 0 := fun q => absurd (ifp h q) (by simp)
      replace h := ifn h c35
      refine v_idiv hC 87 c35 dX9_bundle_87 ?_
      refine v_iadd hC 88 dX9_bundle_88 ?_
      obtain ⟨x36, ex36, h⟩ := onm h
      refine v_topi x36 ex36 ?_
      refine v_istore hC [(6, .int x36), (0, va_rf r0), (1, .int x1), (2, .int x2), (3, .int x3), (4, .int x4), (5, .int x31)] 89 dX9_bundle_89 (by decide) rfl ?_
      refine v_aload_n hC 91 1 dX9_bundle_91 rfl ?_
      refine v_aload_n hC 92 1 dX9_bundle_92 rfl ?_
      obtain ⟨x37, ex37, h⟩ := obn h
      refine gRX9_101 hC rfl 93 ex37 dX9_bundle_93 ?_
      refine v_iload hC 96 6 dX9_bundle_96 rfl ?_
      refine v_iload hC 98 5 dX9_bundle_98 rfl ?_
      refine v_aload_n hC 100 1 dX9_bundle_100 rfl ?_
      refine v_aload_n hC 101 1 dX9_bundle_101 rfl ?_
      obtain ⟨r38, er38, h⟩ := obn h
      refine gRX9_41 hC rfl 102 er38 dX9_bundle_102 ?_
      refine v_iload hC 105 0 dX9_bundle_105 rfl ?_
      obtain ⟨x39, ex39, h⟩ := obn h
      refine v_iald hC 107 ex39 dX9_bundle_107 ?_
      refine v_iload_n hC 108 4 dX9_bundle_108 rfl ?_
      refine v_iload hC 109 6 dX9_bundle_109 rfl ?_
      refine v_iload_n hC 111 4 dX9_bundle_111 rfl ?_
      have c40 : ¬ x3 = 0 := fun q => absurd (ifp h q) (by simp)
      replace h := ifn h c40
      refine v_irem hC 112 c40 dX9_bundle_112 ?_
      refine v_iload hC 113 5 dX9_bundle_113 rfl ?_
      refine v_iload_n hC 115 4 dX9_bundle_115 rfl ?_
      have c41 : ¬ x3 = 0 := fun q => absurd (ifp h q) (by simp)
      replace h := ifn h c41
      refine v_irem hC 116 c41 dX9_bundle_116 ?_
      refine v_aload_n hC 117 1 dX9_bundle_117 rfl ?_
      obtain ⟨r42, er42, h⟩ := obn h
      refine gRX9_44 hC rfl 118 er42 dX9_bundle_118 ?_
      refine v_iload hC 121 0 dX9_bundle_121 rfl ?_
      obtain ⟨x43, ex43, h⟩ := obn h
      refine v_iald hC 123 ex43 dX9_bundle_123 ?_
      refine v_iconst hC (0 : Int32) 124 dX9_bundle_124 (by decide) ?_
      obtain ⟨x44, ex44, h⟩ := obn h
      refine qX9_147 hC rfl 125 ex44 (by decide) (catL (Nat.le_of_ble_eq_true rfl)) (by decide) dX9_bundle_125 ?_
      obtain ⟨S45, eS45, h⟩ := obn h
      refine qX9_111 hC rfl 128 eS45 (by decide) (catL (Nat.le_of_ble_eq_true rfl)) (by decide) dX9_bundle_128 ?_
      obtain ⟨x46, ex46, h⟩ := onm h
      refine v_iinc hC x46 [(5, .int x46), (6, .int x36), (0, va_rf r0), (1, .int x1), (2, .int x2), (3, .int x3), (4, .int x4)] 131 6 dX9_bundle_131 rfl (by rw [ex46]; rfl) (by decide) rfl ?_
      refine v_goto hC 134 67 dX9_bundle_134 (by decide) ?_
      refine v_sub [(0, va_rf r0), (1, .int x1), (2, .int x2), (3, .int x3), (4, .int x4), (5, .int x46)] [2, 3, 4, 5, 6, 0] rfl ?_
      exact ih _ _ _ h K
set_option maxHeartbeats 1000000 in
set_option maxRecDepth 20000 in
theorem kX9_bundle_53 {g : VG} {w : VW} {N : Nat} {r0 : Option Nat} {x1 : Int32} {x2 : Int32} {x3 : Int32} {v0 : Int32} {S0 : pH} (hC : Cx g yX9_bundle cX9_bundle 7 (some .int) rmX9_bundle w) : ∀ (n : Nat) (x28 : Int32) (S29 : pH) (z : (pH)), lX9_bundle_53 N r0 x1 x2 x3 n x28 S29 = some z → (∀ (e0 : pH), z = e0 → V g w 7 (Qm g w rmX9_bundle.cells rmX9_bundle.slots (some (.int v0)) S0) e0 0 0 143 [(0, va_rf r0), (1, .int x1), (2, .int x2), (3, .int x3)] []) → V g w 7 (Qm g w rmX9_bundle.cells rmX9_bundle.slots (some (.int v0)) S0) S29 0 0 53 [(0, va_rf r0), (1, .int x1), (2, .int x2), (3, .int x3), (4, .int x28)] [] := by
  intro n
  induction n with
  | zero => intro x28 S29 z h; rw [lX9_bundle_53] at h; cases h
  | succ n ih =>
    intro x28 S29 z h K
    rw [lX9_bundle_53] at h
    refine v_iload hC 53 4 dX9_bundle_53 rfl ?_
    refine v_aload_n hC 55 0 dX9_bundle_55 rfl ?_
    obtain ⟨x30, ex30, h⟩ := obn h
    refine gRX9_38 hC rfl 56 ex30 dX9_bundle_56 ?_
    refine v_iload_n hC 59 3 dX9_bundle_59 rfl ?_
    refine v_imul hC 60 dX9_bundle_60 ?_
    refine v_icmp_ge hC 61 143 dX9_bundle_61 (by decide) (fun c50 => ?_) (fun c50 => ?_)
    · replace h := ifp h c50
      refine v_sub [(0, va_rf r0), (1, .int x1), (2, .int x2), (3, .int x3)] [0, 1, 2, 3] rfl ?_
      exact K _ (sp1 h)
    · replace h := ifn h c50
      refine v_iconst hC (0 : Int32) 64 dX9_bundle_64 (by decide) ?_
      refine v_istore hC [(5, .int (0 : Int32)), (0, va_rf r0), (1, .int x1), (2, .int x2), (3, .int x3), (4, .int x28)] 65 dX9_bundle_65 (by decide) rfl ?_
      obtain ⟨S48, E67, h⟩ := obn h
      refine v_sub [(0, va_rf r0), (1, .int x1), (2, .int x2), (3, .int x3), (4, .int x28), (5, .int (0 : Int32))] [1, 2, 3, 4, 5, 0] rfl ?_
      refine kX9_bundle_67 hC _ _ _ _ E67 (fun _ hz9 => ?_)
      cases hz9
      obtain ⟨x49, ex49, h⟩ := onm h
      refine v_iinc hC x49 [(4, .int x49), (0, va_rf r0), (1, .int x1), (2, .int x2), (3, .int x3)] 137 4 dX9_bundle_137 rfl (by rw [ex49]; rfl) (by decide) rfl ?_
      refine v_goto hC 140 53 dX9_bundle_140 (by decide) ?_
      refine v_sub [(0, va_rf r0), (1, .int x1), (2, .int x2), (3, .int x3), (4, .int x49)] [1, 2, 3, 4, 0] rfl ?_
      exact ih _ _ _ h K
set_option maxHeartbeats 1000000 in
set_option maxRecDepth 20000 in
theorem kX9_bundle_146 {g : VG} {w : VW} {N : Nat} {r0 : Option Nat} {x1 : Int32} {x2 : Int32} {x3 : Int32} {v0 : Int32} {S0 : pH} (hC : Cx g yX9_bundle cX9_bundle 7 (some .int) rmX9_bundle w) : ∀ (n : Nat) (x52 : Int32) (S53 : pH) (z : (pH)), lX9_bundle_146 N r0 x1 x2 x3 n x52 S53 = some z → (∀ (e0 : pH), z = e0 → V g w 7 (Qm g w rmX9_bundle.cells rmX9_bundle.slots (some (.int v0)) S0) e0 0 0 179 [(0, va_rf r0), (1, .int x1), (2, .int x2), (3, .int x3)] []) → V g w 7 (Qm g w rmX9_bundle.cells rmX9_bundle.slots (some (.int v0)) S0) S53 0 0 146 [(0, va_rf r0), (1, .int x1), (2, .int x2), (3, .int x3), (4, .int x52)] [] := by
  intro n
  induction n with
  | zero => intro x52 S53 z h; rw [lX9_bundle_146] at h; cases h
  | succ n ih =>
    intro x52 S53 z h K
    rw [lX9_bundle_146] at h
    refine v_iload hC 146 4 dX9_bundle_146 rfl ?_
    refine v_aload_n hC 148 0 dX9_bundle_148 rfl ?_
    obtain ⟨x54, ex54, h⟩ := obn h
    refine gRX9_101 hC rfl 149 ex54 dX9_bundle_149 ?_
    refine v_icmp_ge hC 152 179 dX9_bundle_152 (by decide) (fun c60 => ?_) (fun c60 => ?_)
    · replace h := ifp h c60
      refine v_sub [(0, va_rf r0), (1, .int x1), (2, .int x2), (3, .int x3)] [0, 1, 2, 3] rfl ?_
      exact K _ (sp1 h)
    · replace h := ifn h c60
      refine v_aload_n hC 155 0 dX9_bundle_155 rfl ?_
      obtain ⟨r55, er55, h⟩ := obn h
      refine gRX9_19 hC rfl 156 er55 dX9_bundle_156 ?_
      refine v_iload hC 159 4 dX9_bundle_159 rfl ?_
      refine v_dup2 hC 161 rfl (cat_rf _) dX9_bundle_161 ?_
      obtain ⟨x56, ex56, h⟩ := obn h
      refine v_iald hC 162 ex56 dX9_bundle_162 ?_
      refine v_aload_n hC 163 0 dX9_bundle_163 rfl ?_
      refine v_iload hC 164 4 dX9_bundle_164 rfl ?_
      obtain ⟨x57, ex57, h⟩ := obn h
      refine qX9_151 hC rfl 166 ex57 (by decide) (catL (Nat.le_of_ble_eq_true rfl)) (by decide) dX9_bundle_166 ?_
      refine v_iload_n hC 169 1 dX9_bundle_169 rfl ?_
      refine v_imul hC 170 dX9_bundle_170 ?_
      refine v_isub hC 171 dX9_bundle_171 ?_
      obtain ⟨S58, eS58, h⟩ := obn h
      refine v_iast hC 172 eS58 dX9_bundle_172 ?_
      obtain ⟨x59, ex59, h⟩ := onm h
      refine v_iinc hC x59 [(4, .int x59), (0, va_rf r0), (1, .int x1), (2, .int x2), (3, .int x3)] 173 4 dX9_bundle_173 rfl (by rw [ex59]; rfl) (by decide) rfl ?_
      refine v_goto hC 176 146 dX9_bundle_176 (by decide) ?_
      refine v_sub [(0, va_rf r0), (1, .int x1), (2, .int x2), (3, .int x3), (4, .int x59)] [1, 2, 3, 4, 0] rfl ?_
      exact ih _ _ _ h K
set_option maxHeartbeats 1000000 in
set_option maxRecDepth 20000 in
theorem tX9_bundle {l : Launch} {w : VW} {N : Nat} {S : pH} {r0 : Option Nat} {x1 : Int32} {v0 : Int32} {S0 : pH} (h : fX9_bundle N S r0 x1 = some (v0, S0)) : CT l w yX9_bundle cX9_bundle 7 (some .int) rmX9_bundle [va_rf r0, .int x1] S (some (.int v0)) S0 := by
  refine v_entry [(0, va_rf r0), (1, .int x1)] (by decide) (by simp [lg_sl, cat_rf, cat_i, cat_j]) (by simp [lv_args, cat_rf, cat_i, cat_j]) (fun g _ hC => ?_)
  unfold fX9_bundle at h
  obtain ⟨hO, h⟩ := chk_spec h
  refine v_iload_n hC 0 1 dX9_bundle_0 rfl ?_
  refine v_iconst hC (1 : Int32) 1 dX9_bundle_1 (by decide) ?_
  refine v_sipush hC (9999 : Int32) 2 dX9_bundle_2 (by decide) ?_
  obtain ⟨x21, ex21, h⟩ := obn h
  refine qX9_97 hC rfl 5 ex21 (by decide) (catL (Nat.le_of_ble_eq_true rfl)) (by decide) dX9_bundle_5 ?_
  refine v_if_ne hC 8 13 dX9_bundle_8 (by decide) (fun c69 => ?_) (fun c69 => ?_)
  · replace h := ifp h c69
    refine v_aload_n hC 13 0 dX9_bundle_13 rfl ?_
    refine v_iload_n hC 14 1 dX9_bundle_14 rfl ?_
    obtain ⟨x22, ex22, h⟩ := obn h
    refine qX9_154 hC rfl 15 ex22 (by decide) (catL (Nat.le_of_ble_eq_true rfl)) (by decide) dX9_bundle_15 ?_
    refine v_if_ne hC 18 24 dX9_bundle_18 (by decide) (fun c68 => ?_) (fun c68 => ?_)
    · replace h := ifp h c68
      refine v_aload_n hC 24 0 dX9_bundle_24 rfl ?_
      obtain ⟨x23, ex23, h⟩ := obn h
      refine gRX9_101 hC rfl 25 ex23 dX9_bundle_25 ?_
      refine v_bipush hC (16 : Int32) 28 dX9_bundle_28 (by decide) ?_
      refine v_icmp_ne hC 30 36 dX9_bundle_30 (by decide) (fun c67 => ?_) (fun c67 => ?_)
      · replace h := ifp h c67
        refine v_aload_n hC 36 0 dX9_bundle_36 rfl ?_
        obtain ⟨r24, er24, h⟩ := obn h
        refine gRX9_41 hC rfl 37 er24 dX9_bundle_37 ?_
        refine v_iconst hC (0 : Int32) 40 dX9_bundle_40 (by decide) ?_
        obtain ⟨x25, ex25, h⟩ := obn h
        refine v_iald hC 41 ex25 dX9_bundle_41 ?_
        refine v_istore_n hC [(2, .int x25), (0, va_rf r0), (1, .int x1)] 42 dX9_bundle_42 (by decide) rfl ?_
        refine v_aload_n hC 43 1 dX9_bundle_43 rfl ?_
        obtain ⟨r26, er26, h⟩ := obn h
        refine gRX9_16 hC rfl 44 er26 dX9_bundle_44 ?_
        refine v_iload_n hC 47 0 dX9_bundle_47 rfl ?_
        obtain ⟨x27, ex27, h⟩ := obn h
        refine v_iald hC 48 ex27 dX9_bundle_48 ?_
        refine v_istore_n hC [(3, .int x27), (2, .int x25), (0, va_rf r0), (1, .int x1)] 49 dX9_bundle_49 (by decide) rfl ?_
        refine v_iconst hC (0 : Int32) 50 dX9_bundle_50 (by decide) ?_
        refine v_istore hC [(4, .int (0 : Int32)), (3, .int x27), (2, .int x25), (0, va_rf r0), (1, .int x1)] 51 dX9_bundle_51 (by decide) rfl ?_
        obtain ⟨S51, E53, h⟩ := obn h
        refine v_sub [(0, va_rf r0), (1, .int x1), (2, .int x25), (3, .int x27), (4, .int (0 : Int32))] [3, 4, 2, 1, 0] rfl ?_
        refine kX9_bundle_53 hC _ _ _ _ E53 (fun _ hz9 => ?_)
        cases hz9
        refine v_iconst hC (0 : Int32) 143 dX9_bundle_143 (by decide) ?_
        refine v_istore hC [(4, .int (0 : Int32)), (0, va_rf r0), (1, .int x1), (2, .int x25), (3, .int x27)] 144 dX9_bundle_144 (by decide) rfl ?_
        obtain ⟨S61, E146, h⟩ := obn h
        refine v_sub [(0, va_rf r0), (1, .int x1), (2, .int x25), (3, .int x27), (4, .int (0 : Int32))] [1, 2, 3, 4, 0] rfl ?_
        refine kX9_bundle_146 hC _ _ _ _ E146 (fun _ hz9 => ?_)
        cases hz9
        refine v_aload_n hC 179 0 dX9_bundle_179 rfl ?_
        refine v_aload_n hC 180 0 dX9_bundle_180 rfl ?_
        obtain ⟨x62, ex62, h⟩ := obn h
        refine gRX9_38 hC rfl 181 ex62 dX9_bundle_181 ?_
        refine v_iload_n hC 184 3 dX9_bundle_184 rfl ?_
        refine v_imul hC 185 dX9_bundle_185 ?_
        refine v_iload_n hC 186 1 dX9_bundle_186 rfl ?_
        refine v_aload_n hC 187 0 dX9_bundle_187 rfl ?_
        obtain ⟨r63, er63, h⟩ := obn h
        refine gRX9_22 hC rfl 188 er63 dX9_bundle_188 ?_
        refine v_iload_n hC 191 2 dX9_bundle_191 rfl ?_
        obtain ⟨x64, ex64, h⟩ := obn h
        refine v_iald hC 192 ex64 dX9_bundle_192 ?_
        refine v_iconst hC (0 : Int32) 193 dX9_bundle_193 (by decide) ?_
        obtain ⟨x65, S66, ex65, h⟩ := ob2 h
        refine qX9_117 hC rfl 194 ex65 (by decide) (catL (Nat.le_of_ble_eq_true rfl)) (by decide) dX9_bundle_194 ?_
        obtain ⟨rfl, rfl⟩ := sp2 h
        exact v_iret hC 197 (by decide) (by decide) dX9_bundle_197
      · replace h := ifn h (fun q => q c67)
        refine v_bipush hC (-3 : Int32) 33 dX9_bundle_33 (by decide) ?_
        obtain ⟨rfl, rfl⟩ := sp2 h
        exact v_iret hC 35 (by decide) (by decide) dX9_bundle_35
    · replace h := ifn h (fun q => q c68)
      refine v_bipush hC (-2 : Int32) 21 dX9_bundle_21 (by decide) ?_
      obtain ⟨rfl, rfl⟩ := sp2 h
      exact v_iret hC 23 (by decide) (by decide) dX9_bundle_23
  · replace h := ifn h (fun q => q c69)
    refine v_iconst hC (-1 : Int32) 11 dX9_bundle_11 (by decide) ?_
    obtain ⟨rfl, rfl⟩ := sp2 h
    exact v_iret hC 12 (by decide) (by decide) dX9_bundle_12
abbrev rmX9_isWhole : Room := { frames := 2, cells := 0, slots := 0, locals := 43 }
theorem hdX9_isWhole : yX9_isWhole.cls ≠ "java/lang/invoke/MethodHandle" ∧ yX9_isWhole.cls ≠ "java/lang/invoke/VarHandle" ∧ (parseMethodDescriptor yX9_isWhole.desc).map (fun d => d.parameters.length) = some 1 := by decide +kernel
def fX9_isWhole (N : Nat) (S : pH) (r0 : Option Nat) (x1 : Int32) : Option (Int32) :=
  chk S 9 r0 <|
  (fX9_isCane N S r0 x1).bind fun x21 =>
  if x21 = 0 then
  (some (0 : Int32))
  else
  (gfR S 9 4 r0).bind fun r22 =>
  (ldI S 0 r22 x1).bind fun x23 =>
  if x23 ≤ 0 then
  (some (0 : Int32))
  else
  some (1 : Int32)
theorem oX9_isWhole {N : Nat} {S : pH} {r0 : Option Nat} {x1 : Int32} {z : Int32} (h : fX9_isWhole N S r0 x1 = some z) : ∃ fs, obj S 9 r0 = some fs := by
  unfold fX9_isWhole at h
  exact (chk_spec h).1
set_option maxHeartbeats 1000000 in
set_option maxRecDepth 20000 in
theorem tX9_isWhole {l : Launch} {w : VW} {N : Nat} {S : pH} {r0 : Option Nat} {x1 : Int32} {v0 : Int32} (h : fX9_isWhole N S r0 x1 = some v0) : CT l w yX9_isWhole cX9_isWhole 2 (some .boolean) rmX9_isWhole [va_rf r0, .int x1] S (some (.int v0)) S := by
  refine v_entry [(0, va_rf r0), (1, .int x1)] (by decide) (by simp [lg_sl, cat_rf, cat_i, cat_j]) (by simp [lv_args, cat_rf, cat_i, cat_j]) (fun g _ hC => ?_)
  unfold fX9_isWhole at h
  obtain ⟨hO, h⟩ := chk_spec h
  refine v_aload_n hC 0 0 dX9_isWhole_0 rfl ?_
  refine v_iload_n hC 1 1 dX9_isWhole_1 rfl ?_
  obtain ⟨x21, ex21, h⟩ := obn h
  refine qX9_104 hC rfl 2 ex21 (by decide) (catL (Nat.le_of_ble_eq_true rfl)) (by decide) dX9_isWhole_2 ?_
  refine v_if_eq hC 5 21 dX9_isWhole_5 (by decide) (fun c25 => ?_) (fun c25 => ?_)
  · replace h := ifp h c25
    refine v_iconst hC (0 : Int32) 21 dX9_isWhole_21 (by decide) ?_
    obtain rfl := sp1 h
    exact v_zret hC 22 (by decide) (by decide) (by decide) dX9_isWhole_22
  · replace h := ifn h c25
    refine v_aload_n hC 8 0 dX9_isWhole_8 rfl ?_
    obtain ⟨r22, er22, h⟩ := obn h
    refine gRX9_19 hC rfl 9 er22 dX9_isWhole_9 ?_
    refine v_iload_n hC 12 1 dX9_isWhole_12 rfl ?_
    obtain ⟨x23, ex23, h⟩ := obn h
    refine v_iald hC 13 ex23 dX9_isWhole_13 ?_
    refine v_if_le hC 14 21 dX9_isWhole_14 (by decide) (fun c24 => ?_) (fun c24 => ?_)
    · replace h := ifp h c24
      refine v_iconst hC (0 : Int32) 21 dX9_isWhole_21 (by decide) ?_
      obtain rfl := sp1 h
      exact v_zret hC 22 (by decide) (by decide) (by decide) dX9_isWhole_22
    · replace h := ifn h c24
      refine v_iconst hC (1 : Int32) 17 dX9_isWhole_17 (by decide) ?_
      refine v_goto hC 18 22 dX9_isWhole_18 (by decide) ?_
      obtain rfl := sp1 h
      exact v_zret hC 22 (by decide) (by decide) (by decide) dX9_isWhole_22
set_option maxRecDepth 20000 in
theorem qX9_125 {g : VG} {w : VW} {nL : Nat} {Q : State → Prop} {S : pH} {kc ks : Nat} {lv : List (Nat × Value)} {rest : List Value} {y : MethodName} {cc : ByteArray} {rt : Option FieldType} {rm : Room} (hC : Cx g y cc nL rt rm w) (hy : y.cls = RX9) (pc : Nat) {N : Nat} {r0 : Option Nat} {x1 : Int32} {v0 : Int32} (h : fX9_isWhole N S r0 x1 = some v0) (hR : rmX9_isWhole.frames + 1 ≤ rm.frames ∧ 8 + (2 + 11) + rmX9_isWhole.locals ≤ rm.locals) (hst : (rest.map fun v => v.category).sum ≤ 8) (hf : kc + 0 ≤ rm.cells ∧ ks + 0 ≤ rm.slots) (d : decode cc pc = .ok (.invokevirtual 125, 3)) (K : V g w nL Q S kc ks (pc + 3) lv (.int v0 :: rest)) : V g w nL Q S kc ks pc lv (.int x1 :: va_rf r0 :: rest) := by
  obtain ⟨fs, ho⟩ := oX9_isWhole h
  exact v_callV (As := [.int x1]) (rest := rest) (ci := 9) hC pc (tX9_isWhole (l := g.2.1) (w := w) h) rfl (by decide) ho wG611 (by rw [hy]; exact wG610) wG612 wG613 wG542 hdX9_isWhole rfl hR hst hf d K
abbrev rmX9_cased : Room := { frames := 3, cells := 0, slots := 0, locals := 64 }
theorem hdX9_cased : yX9_cased.cls ≠ "java/lang/invoke/MethodHandle" ∧ yX9_cased.cls ≠ "java/lang/invoke/VarHandle" ∧ (parseMethodDescriptor yX9_cased.desc).map (fun d => d.parameters.length) = some 2 := by decide +kernel
def lX9_cased_66 (N : Nat) (r0 : Option Nat) (x1 : Int32) (x2 : Int32) (x3 : Int32) (x4 : Int32) : Nat → Int32 → pH → Option (pH)
  | 0, _, _ => none
  | n + 1, x34, S35 =>
    if x34 < 0 then
    (some S35)
    else
    nm (fun (x36 : Int32) =>
    nm (fun (r37 : Option Nat) (x38 : Int32) (x39 : Int32) (x40 : Int32) (x41 : Int32) =>
    (fX9_put N S35 r37 x38 x39 x40 x41).bind fun S42 =>
    (gfR S42 9 13 r0).bind fun r43 =>
    (ldJ S42 r43 x2).bind fun j44 =>
    nm (fun (r45 : Option Nat) (x46 : Int32) (j47 : Int64) (j48 : Int64) =>
    (stJ S42 r45 x46 (j47 + j48)).bind fun S49 =>
    nm (x34 + (-1 : Int32)) fun x50 =>
    lX9_cased_66 N r0 x1 x2 x3 x4 n x50 S49) fun j170 =>
    if x36 = 0 then
    (j170 r43 x2 j44 (0 : Int64))
    else
    (gfR S42 9 4 r0).bind fun r51 =>
    (ldI S42 0 r51 x1).bind fun x52 =>
    (gfR S42 9 5 r0).bind fun r53 =>
    (ldI S42 0 r53 x1).bind fun x54 =>
    if x54 = 0 then none else
    j170 r43 x2 j44 ((x52.toInt64) * (((4096 : Int32) / x54).toInt64))) fun j132 =>
    if x36 = 0 then
    ((fX9_at N S35 r0 x1 (x34 - (1 : Int32)) (x4 - (1 : Int32))).bind fun x57 =>
    j132 r0 x1 x34 x4 x57)
    else
    j132 r0 x1 x34 x4 x2) fun j102 =>
    nm (fun (_ : Unit) =>
    j102 (1 : Int32)) fun j97 =>
    if x34 = 0 then
    (j97 ())
    else
    if x4 = 0 then
    (j97 ())
    else
    if x34 = (x3 - (1 : Int32)) then
    (j97 ())
    else
    if ¬ x4 = (x3 - (1 : Int32)) then
    (j102 (0 : Int32))
    else
    j97 ()
def lX9_cased_56 (N : Nat) (r0 : Option Nat) (x1 : Int32) (x2 : Int32) (x3 : Int32) : Nat → Int32 → pH → Option (pH)
  | 0, _, _ => none
  | n + 1, x31, S32 =>
    if x31 < 0 then
    (some S32)
    else
    nm (x3 - (1 : Int32)) fun x33 =>
    (lX9_cased_66 N r0 x1 x2 x3 x31 N x33 S32).bind fun S64 =>
    nm (x31 + (-1 : Int32)) fun x65 =>
    lX9_cased_56 N r0 x1 x2 x3 n x65 S64
def fX9_cased (N : Nat) (S : pH) (r0 : Option Nat) (x1 : Int32) (x2 : Int32) : Option (Int32 × pH) :=
  chk S 9 r0 <|
  (fX9_isWhole N S r0 x1).bind fun x21 =>
  if x21 = 0 then
  (some ((-1 : Int32), S))
  else
  (fX9_isGlass N S x2).bind fun x22 =>
  if ¬ x22 = 0 then
  ((gfR S 9 3 r0).bind fun r23 =>
  (ldI S 0 r23 x1).bind fun x24 =>
  if (8 : Int32) < (x24 + (2 : Int32)) then
  (some ((-2 : Int32), S))
  else
  (gfR S 9 6 r0).bind fun r25 =>
  (ldI S 0 r25 x1).bind fun x26 =>
  if x26 ≤ 0 then
  ((gfR S 9 3 r0).bind fun r27 =>
  (ldI S 0 r27 x1).bind fun x28 =>
  nm (x28 + (2 : Int32)) fun x29 =>
  nm (x29 - (1 : Int32)) fun x30 =>
  (lX9_cased_56 N r0 x1 x2 x29 N x30 S).bind fun S67 =>
  (gfR S67 9 3 r0).bind fun r68 =>
  (stI S67 r68 x1 x29).bind fun S69 =>
  some (x29, S69))
  else
  some ((-2 : Int32), S))
  else
  some ((-1 : Int32), S)
theorem oX9_cased {N : Nat} {S : pH} {r0 : Option Nat} {x1 : Int32} {x2 : Int32} {z : Int32 × pH} (h : fX9_cased N S r0 x1 x2 = some z) : ∃ fs, obj S 9 r0 = some fs := by
  unfold fX9_cased at h
  exact (chk_spec h).1
set_option maxHeartbeats 1000000 in
set_option maxRecDepth 20000 in
theorem kX9_cased_66 {g : VG} {w : VW} {N : Nat} {r0 : Option Nat} {x1 : Int32} {x2 : Int32} {x3 : Int32} {x4 : Int32} {v0 : Int32} {S0 : pH} (hC : Cx g yX9_cased cX9_cased 7 (some .int) rmX9_cased w) : ∀ (n : Nat) (x34 : Int32) (S35 : pH) (z : (pH)), lX9_cased_66 N r0 x1 x2 x3 x4 n x34 S35 = some z → (∀ (e0 : pH), z = e0 → V g w 7 (Qm g w rmX9_cased.cells rmX9_cased.slots (some (.int v0)) S0) e0 0 0 178 [(0, va_rf r0), (1, .int x1), (2, .int x2), (3, .int x3), (4, .int x4)] []) → V g w 7 (Qm g w rmX9_cased.cells rmX9_cased.slots (some (.int v0)) S0) S35 0 0 66 [(0, va_rf r0), (1, .int x1), (2, .int x2), (3, .int x3), (4, .int x4), (5, .int x34)] [] := by
  intro n
  induction n with
  | zero => intro x34 S35 z h; rw [lX9_cased_66] at h; cases h
  | succ n ih =>
    intro x34 S35 z h K
    rw [lX9_cased_66] at h
    refine v_iload hC 66 5 dX9_cased_66 rfl ?_
    refine v_if_lt hC 68 178 dX9_cased_68 (by decide) (fun c63 => ?_) (fun c63 => ?_)
    · replace h := ifp h c63
      refine v_sub [(0, va_rf r0), (1, .int x1), (2, .int x2), (3, .int x3), (4, .int x4)] [0, 1, 2, 3, 4] rfl ?_
      exact K _ (sp1 h)
    · replace h := ifn h c63
      refine v_iload hC 71 5 dX9_cased_71 rfl ?_
      obtain ⟨j102, f102, h⟩ := onm h
      have J102 : ∀ (x36 : Int32), j102 x36 = some z → V g w 7 (Qm g w rmX9_cased.cells rmX9_cased.slots (some (.int v0)) S0) S35 0 0 102 [(0, va_rf r0), (1, .int x1), (2, .int x2), (3, .int x3), (4, .int x4), (5, .int x34)] [.int x36] := by
        intro x36 h
        replace h := jb1 f102 h
        refine v_istore hC [(6, .int x36), (0, va_rf r0), (1, .int x1), (2, .int x2), (3, .int x3), (4, .int x4), (5, .int x34)] 102 dX9_cased_102 (by decide) rfl ?_
        refine v_aload_n hC 104 1 dX9_cased_104 rfl ?_
        refine v_iload_n hC 105 2 dX9_cased_105 rfl ?_
        refine v_iload hC 106 6 dX9_cased_106 rfl ?_
        refine v_iload hC 108 5 dX9_cased_108 rfl ?_
        refine v_iload hC 110 0 dX9_cased_110 rfl ?_
        obtain ⟨j132, f132, h⟩ := onm h
        have J132 : ∀ (r37 : Option Nat) (x38 : Int32) (x39 : Int32) (x40 : Int32) (x41 : Int32), j132 r37 x38 x39 x40 x41 = some z → V g w 7 (Qm g w rmX9_cased.cells rmX9_cased.slots (some (.int v0)) S0) S35 0 0 132 [(0, va_rf r0), (1, .int x1), (2, .int x2), (3, .int x3), (4, .int x4), (5, .int x34), (6, .int x36)] [.int x41, .int x40, .int x39, .int x38, va_rf r37] := by
          intro r37 x38 x39 x40 x41 h
          replace h := jb5 f132 h
          obtain ⟨S42, eS42, h⟩ := obn h
          refine qX9_111 hC rfl 132 eS42 (by decide) (catL (Nat.le_of_ble_eq_true rfl)) (by decide) dX9_cased_132 ?_
          refine v_aload_n hC 135 0 dX9_cased_135 rfl ?_
          obtain ⟨r43, er43, h⟩ := obn h
          refine gRX9_47 hC rfl 136 er43 dX9_cased_136 ?_
          refine v_iload_n hC 139 2 dX9_cased_139 rfl ?_
          refine v_dup2 hC 140 rfl (cat_rf _) dX9_cased_140 ?_
          obtain ⟨j44, ej44, h⟩ := obn h
          refine v_lald hC 141 ej44 dX9_cased_141 ?_
          refine v_iload hC 142 6 dX9_cased_142 rfl ?_
          obtain ⟨j170, f170, h⟩ := onm h
          have J170 : ∀ (r45 : Option Nat) (x46 : Int32) (j47 : Int64) (j48 : Int64), j170 r45 x46 j47 j48 = some z → V g w 7 (Qm g w rmX9_cased.cells rmX9_cased.slots (some (.int v0)) S0) S42 0 0 170 [(0, va_rf r0), (1, .int x1), (2, .int x2), (3, .int x3), (4, .int x4), (5, .int x34)] [.long j48, .long j47, .int x46, va_rf r45] := by
            intro r45 x46 j47 j48 h
            replace h := jb4 f170 h
            refine v_ladd hC 170 dX9_cased_170 ?_
            obtain ⟨S49, eS49, h⟩ := obn h
            refine v_last hC 171 eS49 dX9_cased_171 ?_
            obtain ⟨x50, ex50, h⟩ := onm h
            refine v_iinc hC x50 [(5, .int x50), (0, va_rf r0), (1, .int x1), (2, .int x2), (3, .int x3), (4, .int x4)] 172 5 dX9_cased_172 rfl (by rw [ex50]; rfl) (by decide) rfl ?_
            refine v_goto hC 175 66 dX9_cased_175 (by decide) ?_
            refine v_sub [(0, va_rf r0), (1, .int x1), (2, .int x2), (3, .int x3), (4, .int x4), (5, .int x50)] [1, 2, 3, 4, 5, 0] rfl ?_
            exact ih _ _ _ h K
          refine v_if_eq hC 144 169 dX9_cased_144 (by decide) (fun c56 => ?_) (fun c56 => ?_)
          · replace h := ifp h c56
            refine v_lconst hC (0 : Int64) 169 dX9_cased_169 (by decide) ?_
            refine v_sub [(0, va_rf r0), (1, .int x1), (2, .int x2), (3, .int x3), (4, .int x4), (5, .int x34)] [0, 1, 2, 3, 4, 5] rfl ?_
            exact J170 _ _ _ _ h
          · replace h := ifn h c56
            refine v_aload_n hC 147 0 dX9_cased_147 rfl ?_
            obtain ⟨r51, er51, h⟩ := obn h
            refine gRX9_19 hC rfl 148 er51 dX9_cased_148 ?_
            refine v_iload_n hC 151 1 dX9_cased_151 rfl ?_
            obtain ⟨x52, ex52, h⟩ := obn h
            refine v_iald hC 152 ex52 dX9_cased_152 ?_
            refine v_i2l hC 153 dX9_cased_153 ?_
            refine v_sipush hC (4096 : Int32) 154 dX9_cased_154 (by decide) ?_
            refine v_aload_n hC 157 0 dX9_cased_157 rfl ?_
            obtain ⟨r53, er53, h⟩ := obn h
            refine gRX9_22 hC rfl 158 er53 dX9_cased_158 ?_
            refine v_iload_n hC 161 1 dX9_cased_161 rfl ?_
            obtain ⟨x54, ex54, h⟩ := obn h
            refine v_iald hC 162 ex54 dX9_cased_162 ?_
            have c55 : ¬ x54 = 0 := fun q => absurd (ifp h q) (by simp)
            replace h := ifn h c55
            refine v_idiv hC 163 c55 dX9_cased_163 ?_
            refine v_i2l hC 164 dX9_cased_164 ?_
            refine v_lmul hC 165 dX9_cased_165 ?_
            refine v_goto hC 166 170 dX9_cased_166 (by decide) ?_
            refine v_sub [(0, va_rf r0), (1, .int x1), (2, .int x2), (3, .int x3), (4, .int x4), (5, .int x34)] [0, 1, 2, 3, 4, 5] rfl ?_
            exact J170 _ _ _ _ h
        refine v_if_eq hC 112 119 dX9_cased_112 (by decide) (fun c58 => ?_) (fun c58 => ?_)
        · replace h := ifp h c58
          refine v_aload_n hC 119 1 dX9_cased_119 rfl ?_
          refine v_iload_n hC 120 2 dX9_cased_120 rfl ?_
          refine v_iload hC 121 6 dX9_cased_121 rfl ?_
          refine v_iconst hC (1 : Int32) 123 dX9_cased_123 (by decide) ?_
          refine v_isub hC 124 dX9_cased_124 ?_
          refine v_iload hC 125 5 dX9_cased_125 rfl ?_
          refine v_iconst hC (1 : Int32) 127 dX9_cased_127 (by decide) ?_
          refine v_isub hC 128 dX9_cased_128 ?_
          obtain ⟨x57, ex57, h⟩ := obn h
          refine qX9_121 hC rfl 129 ex57 (by decide) (catL (Nat.le_of_ble_eq_true rfl)) (by decide) dX9_cased_129 ?_
          refine v_sub [(0, va_rf r0), (1, .int x1), (2, .int x2), (3, .int x3), (4, .int x4), (5, .int x34), (6, .int x36)] [1, 2, 3, 4, 5, 6, 0] rfl ?_
          exact J132 _ _ _ _ _ h
        · replace h := ifn h c58
          refine v_iload_n hC 115 3 dX9_cased_115 rfl ?_
          refine v_goto hC 116 132 dX9_cased_116 (by decide) ?_
          refine v_sub [(0, va_rf r0), (1, .int x1), (2, .int x2), (3, .int x3), (4, .int x4), (5, .int x34), (6, .int x36)] [1, 2, 3, 4, 5, 6, 0] rfl ?_
          exact J132 _ _ _ _ _ h
      obtain ⟨j97, f97, h⟩ := onm h
      have J97 : ∀ (u9 : Unit), j97 u9 = some z → V g w 7 (Qm g w rmX9_cased.cells rmX9_cased.slots (some (.int v0)) S0) S35 0 0 97 [(0, va_rf r0), (1, .int x1), (2, .int x2), (3, .int x3), (4, .int x4), (5, .int x34)] [] := by
        intro u9 h
        replace h := jb1 f97 h
        refine v_iconst hC (1 : Int32) 97 dX9_cased_97 (by decide) ?_
        refine v_goto hC 98 102 dX9_cased_98 (by decide) ?_
        refine v_sub [(0, va_rf r0), (1, .int x1), (2, .int x2), (3, .int x3), (4, .int x4), (5, .int x34)] [0, 1, 2, 3, 4, 5] rfl ?_
        exact J102 _ h
      refine v_if_eq hC 73 97 dX9_cased_73 (by decide) (fun c62 => ?_) (fun c62 => ?_)
      · replace h := ifp h c62
        refine v_sub [(0, va_rf r0), (1, .int x1), (2, .int x2), (3, .int x3), (4, .int x4), (5, .int x34)] [0, 1, 2, 3, 4, 5] rfl ?_
        exact J97 _ h
      · replace h := ifn h c62
        refine v_iload hC 76 4 dX9_cased_76 rfl ?_
        refine v_if_eq hC 78 97 dX9_cased_78 (by decide) (fun c61 => ?_) (fun c61 => ?_)
        · replace h := ifp h c61
          refine v_sub [(0, va_rf r0), (1, .int x1), (2, .int x2), (3, .int x3), (4, .int x4), (5, .int x34)] [0, 1, 2, 3, 4, 5] rfl ?_
          exact J97 _ h
        · replace h := ifn h c61
          refine v_iload hC 81 5 dX9_cased_81 rfl ?_
          refine v_iload_n hC 83 3 dX9_cased_83 rfl ?_
          refine v_iconst hC (1 : Int32) 84 dX9_cased_84 (by decide) ?_
          refine v_isub hC 85 dX9_cased_85 ?_
          refine v_icmp_eq hC 86 97 dX9_cased_86 (by decide) (fun c60 => ?_) (fun c60 => ?_)
          · replace h := ifp h c60
            refine v_sub [(0, va_rf r0), (1, .int x1), (2, .int x2), (3, .int x3), (4, .int x4), (5, .int x34)] [0, 1, 2, 3, 4, 5] rfl ?_
            exact J97 _ h
          · replace h := ifn h c60
            refine v_iload hC 89 4 dX9_cased_89 rfl ?_
            refine v_iload_n hC 91 3 dX9_cased_91 rfl ?_
            refine v_iconst hC (1 : Int32) 92 dX9_cased_92 (by decide) ?_
            refine v_isub hC 93 dX9_cased_93 ?_
            refine v_icmp_ne hC 94 101 dX9_cased_94 (by decide) (fun c59 => ?_) (fun c59 => ?_)
            · replace h := ifp h c59
              refine v_iconst hC (0 : Int32) 101 dX9_cased_101 (by decide) ?_
              refine v_sub [(0, va_rf r0), (1, .int x1), (2, .int x2), (3, .int x3), (4, .int x4), (5, .int x34)] [0, 1, 2, 3, 4, 5] rfl ?_
              exact J102 _ h
            · replace h := ifn h (fun q => q c59)
              refine v_sub [(0, va_rf r0), (1, .int x1), (2, .int x2), (3, .int x3), (4, .int x4), (5, .int x34)] [0, 1, 2, 3, 4, 5] rfl ?_
              exact J97 _ h
set_option maxHeartbeats 1000000 in
set_option maxRecDepth 20000 in
theorem kX9_cased_56 {g : VG} {w : VW} {N : Nat} {r0 : Option Nat} {x1 : Int32} {x2 : Int32} {x3 : Int32} {v0 : Int32} {S0 : pH} (hC : Cx g yX9_cased cX9_cased 7 (some .int) rmX9_cased w) : ∀ (n : Nat) (x31 : Int32) (S32 : pH) (z : (pH)), lX9_cased_56 N r0 x1 x2 x3 n x31 S32 = some z → (∀ (e0 : pH), z = e0 → V g w 7 (Qm g w rmX9_cased.cells rmX9_cased.slots (some (.int v0)) S0) e0 0 0 184 [(0, va_rf r0), (1, .int x1), (3, .int x3)] []) → V g w 7 (Qm g w rmX9_cased.cells rmX9_cased.slots (some (.int v0)) S0) S32 0 0 56 [(0, va_rf r0), (1, .int x1), (2, .int x2), (3, .int x3), (4, .int x31)] [] := by
  intro n
  induction n with
  | zero => intro x31 S32 z h; rw [lX9_cased_56] at h; cases h
  | succ n ih =>
    intro x31 S32 z h K
    rw [lX9_cased_56] at h
    refine v_iload hC 56 4 dX9_cased_56 rfl ?_
    refine v_if_lt hC 58 184 dX9_cased_58 (by decide) (fun c66 => ?_) (fun c66 => ?_)
    · replace h := ifp h c66
      refine v_sub [(0, va_rf r0), (1, .int x1), (3, .int x3)] [0, 1, 3] rfl ?_
      exact K _ (sp1 h)
    · replace h := ifn h c66
      refine v_iload_n hC 61 3 dX9_cased_61 rfl ?_
      refine v_iconst hC (1 : Int32) 62 dX9_cased_62 (by decide) ?_
      refine v_isub hC 63 dX9_cased_63 ?_
      obtain ⟨x33, ex33, h⟩ := onm h
      refine v_topi x33 ex33 ?_
      refine v_istore hC [(5, .int x33), (0, va_rf r0), (1, .int x1), (2, .int x2), (3, .int x3), (4, .int x31)] 64 dX9_cased_64 (by decide) rfl ?_
      obtain ⟨S64, E66, h⟩ := obn h
      refine v_sub [(0, va_rf r0), (1, .int x1), (2, .int x2), (3, .int x3), (4, .int x31), (5, .int x33)] [1, 2, 3, 4, 5, 0] rfl ?_
      refine kX9_cased_66 hC _ _ _ _ E66 (fun _ hz9 => ?_)
      cases hz9
      obtain ⟨x65, ex65, h⟩ := onm h
      refine v_iinc hC x65 [(4, .int x65), (0, va_rf r0), (1, .int x1), (2, .int x2), (3, .int x3)] 178 4 dX9_cased_178 rfl (by rw [ex65]; rfl) (by decide) rfl ?_
      refine v_goto hC 181 56 dX9_cased_181 (by decide) ?_
      refine v_sub [(0, va_rf r0), (1, .int x1), (2, .int x2), (3, .int x3), (4, .int x65)] [1, 2, 3, 4, 0] rfl ?_
      exact ih _ _ _ h K
set_option maxHeartbeats 1000000 in
set_option maxRecDepth 20000 in
theorem tX9_cased {l : Launch} {w : VW} {N : Nat} {S : pH} {r0 : Option Nat} {x1 : Int32} {x2 : Int32} {v0 : Int32} {S0 : pH} (h : fX9_cased N S r0 x1 x2 = some (v0, S0)) : CT l w yX9_cased cX9_cased 7 (some .int) rmX9_cased [va_rf r0, .int x1, .int x2] S (some (.int v0)) S0 := by
  refine v_entry [(0, va_rf r0), (1, .int x1), (2, .int x2)] (by decide) (by simp [lg_sl, cat_rf, cat_i, cat_j]) (by simp [lv_args, cat_rf, cat_i, cat_j]) (fun g _ hC => ?_)
  unfold fX9_cased at h
  obtain ⟨hO, h⟩ := chk_spec h
  refine v_aload_n hC 0 0 dX9_cased_0 rfl ?_
  refine v_iload_n hC 1 1 dX9_cased_1 rfl ?_
  obtain ⟨x21, ex21, h⟩ := obn h
  refine qX9_125 hC rfl 2 ex21 (by decide) (catL (Nat.le_of_ble_eq_true rfl)) (by decide) dX9_cased_2 ?_
  refine v_if_eq hC 5 15 dX9_cased_5 (by decide) (fun c73 => ?_) (fun c73 => ?_)
  · replace h := ifp h c73
    refine v_iconst hC (-1 : Int32) 15 dX9_cased_15 (by decide) ?_
    obtain ⟨rfl, rfl⟩ := sp2 h
    exact v_iret hC 16 (by decide) (by decide) dX9_cased_16
  · replace h := ifn h c73
    refine v_iload_n hC 8 2 dX9_cased_8 rfl ?_
    obtain ⟨x22, ex22, h⟩ := obn h
    refine qX9_108 hC rfl 9 ex22 (by decide) (catL (Nat.le_of_ble_eq_true rfl)) (by decide) dX9_cased_9 ?_
    refine v_if_ne hC 12 17 dX9_cased_12 (by decide) (fun c72 => ?_) (fun c72 => ?_)
    · replace h := ifp h c72
      refine v_aload_n hC 17 0 dX9_cased_17 rfl ?_
      obtain ⟨r23, er23, h⟩ := obn h
      refine gRX9_16 hC rfl 18 er23 dX9_cased_18 ?_
      refine v_iload_n hC 21 1 dX9_cased_21 rfl ?_
      obtain ⟨x24, ex24, h⟩ := obn h
      refine v_iald hC 22 ex24 dX9_cased_22 ?_
      refine v_iconst hC (2 : Int32) 23 dX9_cased_23 (by decide) ?_
      refine v_iadd hC 24 dX9_cased_24 ?_
      refine v_bipush hC (8 : Int32) 25 dX9_cased_25 (by decide) ?_
      refine v_icmp_gt hC 27 39 dX9_cased_27 (by decide) (fun c71 => ?_) (fun c71 => ?_)
      · replace h := ifp h c71
        refine v_bipush hC (-2 : Int32) 39 dX9_cased_39 (by decide) ?_
        obtain ⟨rfl, rfl⟩ := sp2 h
        exact v_iret hC 41 (by decide) (by decide) dX9_cased_41
      · replace h := ifn h c71
        refine v_aload_n hC 30 0 dX9_cased_30 rfl ?_
        obtain ⟨r25, er25, h⟩ := obn h
        refine gRX9_25 hC rfl 31 er25 dX9_cased_31 ?_
        refine v_iload_n hC 34 1 dX9_cased_34 rfl ?_
        obtain ⟨x26, ex26, h⟩ := obn h
        refine v_iald hC 35 ex26 dX9_cased_35 ?_
        refine v_if_le hC 36 42 dX9_cased_36 (by decide) (fun c70 => ?_) (fun c70 => ?_)
        · replace h := ifp h c70
          refine v_aload_n hC 42 0 dX9_cased_42 rfl ?_
          obtain ⟨r27, er27, h⟩ := obn h
          refine gRX9_16 hC rfl 43 er27 dX9_cased_43 ?_
          refine v_iload_n hC 46 1 dX9_cased_46 rfl ?_
          obtain ⟨x28, ex28, h⟩ := obn h
          refine v_iald hC 47 ex28 dX9_cased_47 ?_
          refine v_iconst hC (2 : Int32) 48 dX9_cased_48 (by decide) ?_
          refine v_iadd hC 49 dX9_cased_49 ?_
          obtain ⟨x29, ex29, h⟩ := onm h
          refine v_topi x29 ex29 ?_
          refine v_istore_n hC [(3, .int x29), (0, va_rf r0), (1, .int x1), (2, .int x2)] 50 dX9_cased_50 (by decide) rfl ?_
          refine v_iload_n hC 51 0 dX9_cased_51 rfl ?_
          refine v_iconst hC (1 : Int32) 52 dX9_cased_52 (by decide) ?_
          refine v_isub hC 53 dX9_cased_53 ?_
          obtain ⟨x30, ex30, h⟩ := onm h
          refine v_topi x30 ex30 ?_
          refine v_istore hC [(4, .int x30), (3, .int x29), (0, va_rf r0), (1, .int x1), (2, .int x2)] 54 dX9_cased_54 (by decide) rfl ?_
          obtain ⟨S67, E56, h⟩ := obn h
          refine v_sub [(0, va_rf r0), (1, .int x1), (2, .int x2), (3, .int x29), (4, .int x30)] [2, 3, 4, 1, 0] rfl ?_
          refine kX9_cased_56 hC _ _ _ _ E56 (fun _ hz9 => ?_)
          cases hz9
          refine v_aload_n hC 184 0 dX9_cased_184 rfl ?_
          obtain ⟨r68, er68, h⟩ := obn h
          refine gRX9_16 hC rfl 185 er68 dX9_cased_185 ?_
          refine v_iload_n hC 188 1 dX9_cased_188 rfl ?_
          refine v_iload_n hC 189 2 dX9_cased_189 rfl ?_
          obtain ⟨S69, eS69, h⟩ := obn h
          refine v_iast hC 190 eS69 dX9_cased_190 ?_
          refine v_iload_n hC 191 2 dX9_cased_191 rfl ?_
          obtain ⟨rfl, rfl⟩ := sp2 h
          exact v_iret hC 192 (by decide) (by decide) dX9_cased_192
        · replace h := ifn h c70
          refine v_bipush hC (-2 : Int32) 39 dX9_cased_39 (by decide) ?_
          obtain ⟨rfl, rfl⟩ := sp2 h
          exact v_iret hC 41 (by decide) (by decide) dX9_cased_41
    · replace h := ifn h (fun q => q c72)
      refine v_iconst hC (-1 : Int32) 15 dX9_cased_15 (by decide) ?_
      obtain ⟨rfl, rfl⟩ := sp2 h
      exact v_iret hC 16 (by decide) (by decide) dX9_cased_16
abbrev rmX9_cell : Room := { frames := 2, cells := 0, slots := 0, locals := 43 }
theorem hdX9_cell : yX9_cell.cls ≠ "java/lang/invoke/MethodHandle" ∧ yX9_cell.cls ≠ "java/lang/invoke/VarHandle" ∧ (parseMethodDescriptor yX9_cell.desc).map (fun d => d.parameters.length) = some 3 := by decide +kernel
def fX9_cell (N : Nat) (S : pH) (r0 : Option Nat) (x1 : Int32) (x2 : Int32) (x3 : Int32) : Option (Int32) :=
  chk S 9 r0 <|
  (fX9_isCane N S r0 x1).bind fun x21 =>
  if x21 = 0 then
  (some (-1 : Int32))
  else
  (gfR S 9 3 r0).bind fun r22 =>
  (ldI S 0 r22 x1).bind fun x23 =>
  (fX9_in N S x2 (0 : Int32) (x23 - (1 : Int32))).bind fun x24 =>
  if x24 = 0 then
  (some (-1 : Int32))
  else
  (gfR S 9 3 r0).bind fun r25 =>
  (ldI S 0 r25 x1).bind fun x26 =>
  (fX9_in N S x3 (0 : Int32) (x26 - (1 : Int32))).bind fun x27 =>
  if x27 = 0 then
  (some (-1 : Int32))
  else
  (fX9_at N S r0 x1 x2 x3).bind fun x28 =>
  some x28
theorem oX9_cell {N : Nat} {S : pH} {r0 : Option Nat} {x1 : Int32} {x2 : Int32} {x3 : Int32} {z : Int32} (h : fX9_cell N S r0 x1 x2 x3 = some z) : ∃ fs, obj S 9 r0 = some fs := by
  unfold fX9_cell at h
  exact (chk_spec h).1
set_option maxHeartbeats 1000000 in
set_option maxRecDepth 20000 in
theorem tX9_cell {l : Launch} {w : VW} {N : Nat} {S : pH} {r0 : Option Nat} {x1 : Int32} {x2 : Int32} {x3 : Int32} {v0 : Int32} (h : fX9_cell N S r0 x1 x2 x3 = some v0) : CT l w yX9_cell cX9_cell 4 (some .int) rmX9_cell [va_rf r0, .int x1, .int x2, .int x3] S (some (.int v0)) S := by
  refine v_entry [(0, va_rf r0), (1, .int x1), (2, .int x2), (3, .int x3)] (by decide) (by simp [lg_sl, cat_rf, cat_i, cat_j]) (by simp [lv_args, cat_rf, cat_i, cat_j]) (fun g _ hC => ?_)
  unfold fX9_cell at h
  obtain ⟨hO, h⟩ := chk_spec h
  refine v_aload_n hC 0 0 dX9_cell_0 rfl ?_
  refine v_iload_n hC 1 1 dX9_cell_1 rfl ?_
  obtain ⟨x21, ex21, h⟩ := obn h
  refine qX9_104 hC rfl 2 ex21 (by decide) (catL (Nat.le_of_ble_eq_true rfl)) (by decide) dX9_cell_2 ?_
  refine v_if_eq hC 5 50 dX9_cell_5 (by decide) (fun c31 => ?_) (fun c31 => ?_)
  · replace h := ifp h c31
    refine v_iconst hC (-1 : Int32) 50 dX9_cell_50 (by decide) ?_
    obtain rfl := sp1 h
    exact v_iret hC 51 (by decide) (by decide) dX9_cell_51
  · replace h := ifn h c31
    refine v_iload_n hC 8 2 dX9_cell_8 rfl ?_
    refine v_iconst hC (0 : Int32) 9 dX9_cell_9 (by decide) ?_
    refine v_aload_n hC 10 0 dX9_cell_10 rfl ?_
    obtain ⟨r22, er22, h⟩ := obn h
    refine gRX9_16 hC rfl 11 er22 dX9_cell_11 ?_
    refine v_iload_n hC 14 1 dX9_cell_14 rfl ?_
    obtain ⟨x23, ex23, h⟩ := obn h
    refine v_iald hC 15 ex23 dX9_cell_15 ?_
    refine v_iconst hC (1 : Int32) 16 dX9_cell_16 (by decide) ?_
    refine v_isub hC 17 dX9_cell_17 ?_
    obtain ⟨x24, ex24, h⟩ := obn h
    refine qX9_97 hC rfl 18 ex24 (by decide) (catL (Nat.le_of_ble_eq_true rfl)) (by decide) dX9_cell_18 ?_
    refine v_if_eq hC 21 50 dX9_cell_21 (by decide) (fun c30 => ?_) (fun c30 => ?_)
    · replace h := ifp h c30
      refine v_iconst hC (-1 : Int32) 50 dX9_cell_50 (by decide) ?_
      obtain rfl := sp1 h
      exact v_iret hC 51 (by decide) (by decide) dX9_cell_51
    · replace h := ifn h c30
      refine v_iload_n hC 24 3 dX9_cell_24 rfl ?_
      refine v_iconst hC (0 : Int32) 25 dX9_cell_25 (by decide) ?_
      refine v_aload_n hC 26 0 dX9_cell_26 rfl ?_
      obtain ⟨r25, er25, h⟩ := obn h
      refine gRX9_16 hC rfl 27 er25 dX9_cell_27 ?_
      refine v_iload_n hC 30 1 dX9_cell_30 rfl ?_
      obtain ⟨x26, ex26, h⟩ := obn h
      refine v_iald hC 31 ex26 dX9_cell_31 ?_
      refine v_iconst hC (1 : Int32) 32 dX9_cell_32 (by decide) ?_
      refine v_isub hC 33 dX9_cell_33 ?_
      obtain ⟨x27, ex27, h⟩ := obn h
      refine qX9_97 hC rfl 34 ex27 (by decide) (catL (Nat.le_of_ble_eq_true rfl)) (by decide) dX9_cell_34 ?_
      refine v_if_eq hC 37 50 dX9_cell_37 (by decide) (fun c29 => ?_) (fun c29 => ?_)
      · replace h := ifp h c29
        refine v_iconst hC (-1 : Int32) 50 dX9_cell_50 (by decide) ?_
        obtain rfl := sp1 h
        exact v_iret hC 51 (by decide) (by decide) dX9_cell_51
      · replace h := ifn h c29
        refine v_aload_n hC 40 0 dX9_cell_40 rfl ?_
        refine v_iload_n hC 41 1 dX9_cell_41 rfl ?_
        refine v_iload_n hC 42 2 dX9_cell_42 rfl ?_
        refine v_iload_n hC 43 3 dX9_cell_43 rfl ?_
        obtain ⟨x28, ex28, h⟩ := obn h
        refine qX9_121 hC rfl 44 ex28 (by decide) (catL (Nat.le_of_ble_eq_true rfl)) (by decide) dX9_cell_44 ?_
        refine v_goto hC 47 51 dX9_cell_47 (by decide) ?_
        obtain rfl := sp1 h
        exact v_iret hC 51 (by decide) (by decide) dX9_cell_51
abbrev rmX9_clear : Room := { frames := 0, cells := 0, slots := 0, locals := 0 }
theorem hdX9_clear : yX9_clear.cls ≠ "java/lang/invoke/MethodHandle" ∧ yX9_clear.cls ≠ "java/lang/invoke/VarHandle" ∧ (parseMethodDescriptor yX9_clear.desc).map (fun d => d.parameters.length) = some 0 := by decide +kernel
def fX9_clear (N : Nat) (S : pH) (r0 : Option Nat) : Option (Int32 × pH) :=
  chk S 9 r0 <|
  (gfI S 9 16 r0).bind fun x21 =>
  (pfV S 9 16 r0 (.int (0 : Int32))).bind fun S22 =>
  some (x21, S22)
theorem oX9_clear {N : Nat} {S : pH} {r0 : Option Nat} {z : Int32 × pH} (h : fX9_clear N S r0 = some z) : ∃ fs, obj S 9 r0 = some fs := by
  unfold fX9_clear at h
  exact (chk_spec h).1
set_option maxHeartbeats 1000000 in
set_option maxRecDepth 20000 in
theorem tX9_clear {l : Launch} {w : VW} {N : Nat} {S : pH} {r0 : Option Nat} {v0 : Int32} {S0 : pH} (h : fX9_clear N S r0 = some (v0, S0)) : CT l w yX9_clear cX9_clear 2 (some .int) rmX9_clear [va_rf r0] S (some (.int v0)) S0 := by
  refine v_entry [(0, va_rf r0)] (by decide) (by simp [lg_sl, cat_rf, cat_i, cat_j]) (by simp [lv_args, cat_rf, cat_i, cat_j]) (fun g _ hC => ?_)
  unfold fX9_clear at h
  obtain ⟨hO, h⟩ := chk_spec h
  refine v_aload_n hC 0 0 dX9_clear_0 rfl ?_
  obtain ⟨x21, ex21, h⟩ := obn h
  refine gRX9_204 hC rfl 1 ex21 dX9_clear_1 ?_
  refine v_istore_n hC [(1, .int x21), (0, va_rf r0)] 4 dX9_clear_4 (by decide) (by first | rfl | (simp [cat_rf, cat_i, cat_j]; done) | (simp [cat_rf, cat_i, cat_j]; decide)) ?_
  refine v_aload_n hC 5 1 dX9_clear_5 rfl ?_
  refine v_iconst hC (0 : Int32) 6 dX9_clear_6 (by decide) ?_
  obtain ⟨S22, eS22, h⟩ := obn h
  refine pRX9_204 hC rfl 7 eS22 dX9_clear_7 ?_
  refine v_iload_n hC 10 0 dX9_clear_10 rfl ?_
  obtain ⟨rfl, rfl⟩ := sp2 h
  exact v_iret hC 11 (by decide) (by decide) dX9_clear_11
abbrev rmX9_count : Room := { frames := 1, cells := 0, slots := 0, locals := 23 }
theorem hdX9_count : yX9_count.cls ≠ "java/lang/invoke/MethodHandle" ∧ yX9_count.cls ≠ "java/lang/invoke/VarHandle" ∧ (parseMethodDescriptor yX9_count.desc).map (fun d => d.parameters.length) = some 1 := by decide +kernel
def lX9_count_47 (N : Nat) (S : pH) (r0 : Option Nat) : Nat → Int32 → Int32 → Option (Int32)
  | 0, _, _ => none
  | n + 1, x23, x24 =>
    (gfI S 9 2 r0).bind fun x25 =>
    if x25 ≤ x24 then
    (some x23)
    else
    (gfR S 9 4 r0).bind fun r26 =>
    (ldI S 0 r26 x24).bind fun x27 =>
    nm (fun (x28 : Int32) (x29 : Int32) =>
    nm (x28 + x29) fun x30 =>
    nm (x24 + (1 : Int32)) fun x31 =>
    lX9_count_47 N S r0 n x30 x31) fun j70 =>
    if x27 ≤ 0 then
    (j70 x23 (0 : Int32))
    else
    j70 x23 (1 : Int32)
def lX9_count_98 (N : Nat) (S : pH) (r0 : Option Nat) (x3 : Int32) : Nat → Int32 → Int32 → Option (Int32)
  | 0, _, _ => none
  | n + 1, x41, x42 =>
    (gfI S 9 9 r0).bind fun x43 =>
    if x43 ≤ x42 then
    (some x41)
    else
    (fX9_at N S r0 (17 : Int32) x42 x3).bind fun x44 =>
    nm (fun (x45 : Int32) (x46 : Int32) =>
    nm (x45 + x46) fun x47 =>
    nm (x42 + (1 : Int32)) fun x48 =>
    lX9_count_98 N S r0 x3 n x47 x48) fun j127 =>
    if ¬ x44 = (-9 : Int32) then
    (j127 x41 (1 : Int32))
    else
    j127 x41 (0 : Int32)
def lX9_count_87 (N : Nat) (S : pH) (r0 : Option Nat) : Nat → Int32 → Int32 → Option (Int32)
  | 0, _, _ => none
  | n + 1, x38, x39 =>
    (gfI S 9 9 r0).bind fun x40 =>
    if x40 ≤ x39 then
    (some x38)
    else
    (lX9_count_98 N S r0 x39 N x38 (0 : Int32)).bind fun x51 =>
    nm (x39 + (1 : Int32)) fun x52 =>
    lX9_count_87 N S r0 n x51 x52
def fX9_count (N : Nat) (S : pH) (r0 : Option Nat) (x1 : Int32) : Option (Int32) :=
  chk S 9 r0 <|
  if x1 = (0 : Int32) then
  ((gfI S 9 2 r0).bind fun x21 =>
  some x21)
  else
  if x1 = (1 : Int32) then
  ((lX9_count_47 N S r0 N (0 : Int32) (0 : Int32)).bind fun x34 =>
  some x34)
  else
  if x1 = (2 : Int32) then
  ((gfI S 9 10 r0).bind fun x36 =>
  some x36)
  else
  if x1 = (3 : Int32) then
  ((lX9_count_87 N S r0 N (0 : Int32) (0 : Int32)).bind fun x54 =>
  some x54)
  else
  if x1 = (4 : Int32) then
  ((gfI S 9 16 r0).bind fun x56 =>
  some x56)
  else
  if x1 = (5 : Int32) then
  ((gfI S 9 19 r0).bind fun x58 =>
  some x58)
  else
  some (-1 : Int32)
theorem oX9_count {N : Nat} {S : pH} {r0 : Option Nat} {x1 : Int32} {z : Int32} (h : fX9_count N S r0 x1 = some z) : ∃ fs, obj S 9 r0 = some fs := by
  unfold fX9_count at h
  exact (chk_spec h).1
set_option maxHeartbeats 1000000 in
set_option maxRecDepth 20000 in
theorem kX9_count_47 {g : VG} {w : VW} {N : Nat} {S : pH} {r0 : Option Nat} {v0 : Int32} (hC : Cx g yX9_count cX9_count 5 (some .int) rmX9_count w) : ∀ (n : Nat) (x23 : Int32) (x24 : Int32) (z : (Int32)), lX9_count_47 N S r0 n x23 x24 = some z → (∀ (e0 : Int32), z = e0 → V g w 5 (Qm g w rmX9_count.cells rmX9_count.slots (some (.int v0)) S) S 0 0 78 [(2, .int e0)] []) → V g w 5 (Qm g w rmX9_count.cells rmX9_count.slots (some (.int v0)) S) S 0 0 47 [(0, va_rf r0), (2, .int x23), (3, .int x24)] [] := by
  intro n
  induction n with
  | zero => intro x23 x24 z h; rw [lX9_count_47] at h; cases h
  | succ n ih =>
    intro x23 x24 z h K
    rw [lX9_count_47] at h
    refine v_iload_n hC 47 2 dX9_count_47 rfl ?_
    refine v_aload_n hC 48 0 dX9_count_48 rfl ?_
    obtain ⟨x25, ex25, h⟩ := obn h
    refine gRX9_101 hC rfl 49 ex25 dX9_count_49 ?_
    refine v_icmp_ge hC 52 78 dX9_count_52 (by decide) (fun c33 => ?_) (fun c33 => ?_)
    · replace h := ifp h c33
      refine v_sub [(2, .int x23)] [1] rfl ?_
      exact K _ (sp1 h)
    · replace h := ifn h c33
      refine v_iload_n hC 55 1 dX9_count_55 rfl ?_
      refine v_aload_n hC 56 0 dX9_count_56 rfl ?_
      obtain ⟨r26, er26, h⟩ := obn h
      refine gRX9_19 hC rfl 57 er26 dX9_count_57 ?_
      refine v_iload_n hC 60 2 dX9_count_60 rfl ?_
      obtain ⟨x27, ex27, h⟩ := obn h
      refine v_iald hC 61 ex27 dX9_count_61 ?_
      obtain ⟨j70, f70, h⟩ := onm h
      have J70 : ∀ (x28 : Int32) (x29 : Int32), j70 x28 x29 = some z → V g w 5 (Qm g w rmX9_count.cells rmX9_count.slots (some (.int v0)) S) S 0 0 70 [(0, va_rf r0), (3, .int x24)] [.int x29, .int x28] := by
        intro x28 x29 h
        replace h := jb2 f70 h
        refine v_iadd hC 70 dX9_count_70 ?_
        obtain ⟨x30, ex30, h⟩ := onm h
        refine v_topi x30 ex30 ?_
        refine v_istore_n hC [(2, .int x30), (0, va_rf r0), (3, .int x24)] 71 dX9_count_71 (by decide) rfl ?_
        obtain ⟨x31, ex31, h⟩ := onm h
        refine v_iinc hC x31 [(3, .int x31), (2, .int x30), (0, va_rf r0)] 72 2 dX9_count_72 rfl (by rw [ex31]; rfl) (by decide) rfl ?_
        refine v_goto hC 75 47 dX9_count_75 (by decide) ?_
        refine v_sub [(0, va_rf r0), (2, .int x30), (3, .int x31)] [2, 1, 0] rfl ?_
        exact ih _ _ _ h K
      refine v_if_le hC 62 69 dX9_count_62 (by decide) (fun c32 => ?_) (fun c32 => ?_)
      · replace h := ifp h c32
        refine v_iconst hC (0 : Int32) 69 dX9_count_69 (by decide) ?_
        refine v_sub [(0, va_rf r0), (3, .int x24)] [0, 2] rfl ?_
        exact J70 _ _ h
      · replace h := ifn h c32
        refine v_iconst hC (1 : Int32) 65 dX9_count_65 (by decide) ?_
        refine v_goto hC 66 70 dX9_count_66 (by decide) ?_
        refine v_sub [(0, va_rf r0), (3, .int x24)] [0, 2] rfl ?_
        exact J70 _ _ h
set_option maxHeartbeats 1000000 in
set_option maxRecDepth 20000 in
theorem kX9_count_98 {g : VG} {w : VW} {N : Nat} {S : pH} {r0 : Option Nat} {x3 : Int32} {v0 : Int32} (hC : Cx g yX9_count cX9_count 5 (some .int) rmX9_count w) : ∀ (n : Nat) (x41 : Int32) (x42 : Int32) (z : (Int32)), lX9_count_98 N S r0 x3 n x41 x42 = some z → (∀ (e0 : Int32), z = e0 → V g w 5 (Qm g w rmX9_count.cells rmX9_count.slots (some (.int v0)) S) S 0 0 135 [(0, va_rf r0), (2, .int e0), (3, .int x3)] []) → V g w 5 (Qm g w rmX9_count.cells rmX9_count.slots (some (.int v0)) S) S 0 0 98 [(0, va_rf r0), (2, .int x41), (3, .int x3), (4, .int x42)] [] := by
  intro n
  induction n with
  | zero => intro x41 x42 z h; rw [lX9_count_98] at h; cases h
  | succ n ih =>
    intro x41 x42 z h K
    rw [lX9_count_98] at h
    refine v_iload hC 98 3 dX9_count_98 rfl ?_
    refine v_aload_n hC 100 0 dX9_count_100 rfl ?_
    obtain ⟨x43, ex43, h⟩ := obn h
    refine gRX9_35 hC rfl 101 ex43 dX9_count_101 ?_
    refine v_icmp_ge hC 104 135 dX9_count_104 (by decide) (fun c50 => ?_) (fun c50 => ?_)
    · replace h := ifp h c50
      refine v_sub [(0, va_rf r0), (2, .int x41), (3, .int x3)] [0, 1, 2] rfl ?_
      exact K _ (sp1 h)
    · replace h := ifn h c50
      refine v_iload_n hC 107 1 dX9_count_107 rfl ?_
      refine v_aload_n hC 108 0 dX9_count_108 rfl ?_
      refine v_bipush hC (17 : Int32) 109 dX9_count_109 (by decide) ?_
      refine v_iload hC 111 3 dX9_count_111 rfl ?_
      refine v_iload_n hC 113 2 dX9_count_113 rfl ?_
      obtain ⟨x44, ex44, h⟩ := obn h
      refine qX9_121 hC rfl 114 ex44 (by decide) (catL (Nat.le_of_ble_eq_true rfl)) (by decide) dX9_count_114 ?_
      refine v_bipush hC (-9 : Int32) 117 dX9_count_117 (by decide) ?_
      obtain ⟨j127, f127, h⟩ := onm h
      have J127 : ∀ (x45 : Int32) (x46 : Int32), j127 x45 x46 = some z → V g w 5 (Qm g w rmX9_count.cells rmX9_count.slots (some (.int v0)) S) S 0 0 127 [(0, va_rf r0), (3, .int x3), (4, .int x42)] [.int x46, .int x45] := by
        intro x45 x46 h
        replace h := jb2 f127 h
        refine v_iadd hC 127 dX9_count_127 ?_
        obtain ⟨x47, ex47, h⟩ := onm h
        refine v_topi x47 ex47 ?_
        refine v_istore_n hC [(2, .int x47), (0, va_rf r0), (3, .int x3), (4, .int x42)] 128 dX9_count_128 (by decide) rfl ?_
        obtain ⟨x48, ex48, h⟩ := onm h
        refine v_iinc hC x48 [(4, .int x48), (2, .int x47), (0, va_rf r0), (3, .int x3)] 129 3 dX9_count_129 rfl (by rw [ex48]; rfl) (by decide) rfl ?_
        refine v_goto hC 132 98 dX9_count_132 (by decide) ?_
        refine v_sub [(0, va_rf r0), (2, .int x47), (3, .int x3), (4, .int x48)] [2, 1, 3, 0] rfl ?_
        exact ih _ _ _ h K
      refine v_icmp_ne hC 119 126 dX9_count_119 (by decide) (fun c49 => ?_) (fun c49 => ?_)
      · replace h := ifp h c49
        refine v_iconst hC (1 : Int32) 126 dX9_count_126 (by decide) ?_
        refine v_sub [(0, va_rf r0), (3, .int x3), (4, .int x42)] [0, 2, 3] rfl ?_
        exact J127 _ _ h
      · replace h := ifn h (fun q => q c49)
        refine v_iconst hC (0 : Int32) 122 dX9_count_122 (by decide) ?_
        refine v_goto hC 123 127 dX9_count_123 (by decide) ?_
        refine v_sub [(0, va_rf r0), (3, .int x3), (4, .int x42)] [0, 2, 3] rfl ?_
        exact J127 _ _ h
set_option maxHeartbeats 1000000 in
set_option maxRecDepth 20000 in
theorem kX9_count_87 {g : VG} {w : VW} {N : Nat} {S : pH} {r0 : Option Nat} {v0 : Int32} (hC : Cx g yX9_count cX9_count 5 (some .int) rmX9_count w) : ∀ (n : Nat) (x38 : Int32) (x39 : Int32) (z : (Int32)), lX9_count_87 N S r0 n x38 x39 = some z → (∀ (e0 : Int32), z = e0 → V g w 5 (Qm g w rmX9_count.cells rmX9_count.slots (some (.int v0)) S) S 0 0 141 [(2, .int e0)] []) → V g w 5 (Qm g w rmX9_count.cells rmX9_count.slots (some (.int v0)) S) S 0 0 87 [(0, va_rf r0), (2, .int x38), (3, .int x39)] [] := by
  intro n
  induction n with
  | zero => intro x38 x39 z h; rw [lX9_count_87] at h; cases h
  | succ n ih =>
    intro x38 x39 z h K
    rw [lX9_count_87] at h
    refine v_iload_n hC 87 2 dX9_count_87 rfl ?_
    refine v_aload_n hC 88 0 dX9_count_88 rfl ?_
    obtain ⟨x40, ex40, h⟩ := obn h
    refine gRX9_35 hC rfl 89 ex40 dX9_count_89 ?_
    refine v_icmp_ge hC 92 141 dX9_count_92 (by decide) (fun c53 => ?_) (fun c53 => ?_)
    · replace h := ifp h c53
      refine v_sub [(2, .int x38)] [1] rfl ?_
      exact K _ (sp1 h)
    · replace h := ifn h c53
      refine v_iconst hC (0 : Int32) 95 dX9_count_95 (by decide) ?_
      refine v_istore hC [(4, .int (0 : Int32)), (0, va_rf r0), (2, .int x38), (3, .int x39)] 96 dX9_count_96 (by decide) rfl ?_
      obtain ⟨x51, E98, h⟩ := obn h
      refine v_sub [(0, va_rf r0), (2, .int x38), (3, .int x39), (4, .int (0 : Int32))] [1, 2, 3, 0] rfl ?_
      refine kX9_count_98 hC _ _ _ _ E98 (fun _ hz9 => ?_)
      cases hz9
      obtain ⟨x52, ex52, h⟩ := onm h
      refine v_iinc hC x52 [(3, .int x52), (0, va_rf r0), (2, .int x51)] 135 2 dX9_count_135 rfl (by rw [ex52]; rfl) (by decide) rfl ?_
      refine v_goto hC 138 87 dX9_count_138 (by decide) ?_
      refine v_sub [(0, va_rf r0), (2, .int x51), (3, .int x52)] [1, 2, 0] rfl ?_
      exact ih _ _ _ h K
set_option maxHeartbeats 1000000 in
set_option maxRecDepth 20000 in
theorem tX9_count {l : Launch} {w : VW} {N : Nat} {S : pH} {r0 : Option Nat} {x1 : Int32} {v0 : Int32} (h : fX9_count N S r0 x1 = some v0) : CT l w yX9_count cX9_count 5 (some .int) rmX9_count [va_rf r0, .int x1] S (some (.int v0)) S := by
  refine v_entry [(0, va_rf r0), (1, .int x1)] (by decide) (by simp [lg_sl, cat_rf, cat_i, cat_j]) (by simp [lv_args, cat_rf, cat_i, cat_j]) (fun g _ hC => ?_)
  unfold fX9_count at h
  obtain ⟨hO, h⟩ := chk_spec h
  refine v_iconst hC (0 : Int32) 0 dX9_count_0 (by decide) ?_
  refine v_istore_n hC [(2, .int (0 : Int32)), (0, va_rf r0), (1, .int x1)] 1 dX9_count_1 (by decide) rfl ?_
  refine v_iload_n hC 2 2 dX9_count_2 rfl ?_
  by_cases c22 : x1 = (0 : Int32)
  · replace h := ifp h c22
    refine v_tabIn hC 3 40 (0 : Int32) c22 dX9_count_3 (by decide) (by decide) rfl (by decide) ?_
    refine v_aload_n hC 40 1 dX9_count_40 rfl ?_
    obtain ⟨x21, ex21, h⟩ := obn h
    refine gRX9_101 hC rfl 41 ex21 dX9_count_41 ?_
    obtain rfl := sp1 h
    exact v_iret hC 44 (by decide) (by decide) dX9_count_44
  replace h := ifn h c22
  by_cases c35 : x1 = (1 : Int32)
  · replace h := ifp h c35
    refine v_tabIn hC 3 45 (1 : Int32) c35 dX9_count_3 (by decide) (by decide) rfl (by decide) ?_
    refine v_iconst hC (0 : Int32) 45 dX9_count_45 (by decide) ?_
    refine v_istore_n hC [(3, .int (0 : Int32)), (2, .int (0 : Int32)), (0, va_rf r0), (1, .int x1)] 46 dX9_count_46 (by decide) rfl ?_
    obtain ⟨x34, E47, h⟩ := obn h
    refine v_sub [(0, va_rf r0), (2, .int (0 : Int32)), (3, .int (0 : Int32))] [2, 1, 0] rfl ?_
    refine kX9_count_47 hC _ _ _ _ E47 (fun _ hz9 => ?_)
    cases hz9
    refine v_iload_n hC 78 0 dX9_count_78 rfl ?_
    obtain rfl := sp1 h
    exact v_iret hC 79 (by decide) (by decide) dX9_count_79
  replace h := ifn h c35
  by_cases c37 : x1 = (2 : Int32)
  · replace h := ifp h c37
    refine v_tabIn hC 3 80 (2 : Int32) c37 dX9_count_3 (by decide) (by decide) rfl (by decide) ?_
    refine v_aload_n hC 80 1 dX9_count_80 rfl ?_
    obtain ⟨x36, ex36, h⟩ := obn h
    refine gRX9_38 hC rfl 81 ex36 dX9_count_81 ?_
    obtain rfl := sp1 h
    exact v_iret hC 84 (by decide) (by decide) dX9_count_84
  replace h := ifn h c37
  by_cases c55 : x1 = (3 : Int32)
  · replace h := ifp h c55
    refine v_tabIn hC 3 85 (3 : Int32) c55 dX9_count_3 (by decide) (by decide) rfl (by decide) ?_
    refine v_iconst hC (0 : Int32) 85 dX9_count_85 (by decide) ?_
    refine v_istore_n hC [(3, .int (0 : Int32)), (2, .int (0 : Int32)), (0, va_rf r0), (1, .int x1)] 86 dX9_count_86 (by decide) rfl ?_
    obtain ⟨x54, E87, h⟩ := obn h
    refine v_sub [(0, va_rf r0), (2, .int (0 : Int32)), (3, .int (0 : Int32))] [2, 1, 0] rfl ?_
    refine kX9_count_87 hC _ _ _ _ E87 (fun _ hz9 => ?_)
    cases hz9
    refine v_iload_n hC 141 0 dX9_count_141 rfl ?_
    obtain rfl := sp1 h
    exact v_iret hC 142 (by decide) (by decide) dX9_count_142
  replace h := ifn h c55
  by_cases c57 : x1 = (4 : Int32)
  · replace h := ifp h c57
    refine v_tabIn hC 3 143 (4 : Int32) c57 dX9_count_3 (by decide) (by decide) rfl (by decide) ?_
    refine v_aload_n hC 143 1 dX9_count_143 rfl ?_
    obtain ⟨x56, ex56, h⟩ := obn h
    refine gRX9_204 hC rfl 144 ex56 dX9_count_144 ?_
    obtain rfl := sp1 h
    exact v_iret hC 147 (by decide) (by decide) dX9_count_147
  replace h := ifn h c57
  by_cases c59 : x1 = (5 : Int32)
  · replace h := ifp h c59
    refine v_tabIn hC 3 148 (5 : Int32) c59 dX9_count_3 (by decide) (by decide) rfl (by decide) ?_
    refine v_aload_n hC 148 1 dX9_count_148 rfl ?_
    obtain ⟨x58, ex58, h⟩ := obn h
    refine gRX9_210 hC rfl 149 ex58 dX9_count_149 ?_
    obtain rfl := sp1 h
    exact v_iret hC 152 (by decide) (by decide) dX9_count_152
  replace h := ifn h c59
  refine v_tabOut hC 3 153 dX9_count_3 (by have := lv_neT (a := 0) c22 (by decide); have := lv_neT (a := 1) c35 (by decide); have := lv_neT (a := 2) c37 (by decide); have := lv_neT (a := 3) c55 (by decide); have := lv_neT (a := 4) c57 (by decide); have := lv_neT (a := 5) c59 (by decide); omega) (by decide) ?_
  refine v_iconst hC (-1 : Int32) 153 dX9_count_153 (by decide) ?_
  obtain rfl := sp1 h
  exact v_iret hC 154 (by decide) (by decide) dX9_count_154
