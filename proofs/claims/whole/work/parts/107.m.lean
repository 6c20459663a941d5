abbrev rmX9_cracksOf : Room := { frames := 1, cells := 0, slots := 0, locals := 23 }
theorem hdX9_cracksOf : yX9_cracksOf.cls ≠ "java/lang/invoke/MethodHandle" ∧ yX9_cracksOf.cls ≠ "java/lang/invoke/VarHandle" ∧ (parseMethodDescriptor yX9_cracksOf.desc).map (fun d => d.parameters.length) = some 1 := by decide +kernel
def lX9_cracksOf_17 (N : Nat) (S : pH) (r0 : Option Nat) (x1 : Int32) (x3 : Int32) : Nat → Int32 → Int32 → Option (Int32)
  | 0, _, _ => none
  | n + 1, x25, x26 =>
    (gfR S 9 3 r0).bind fun r27 =>
    (ldI S 0 r27 x1).bind fun x28 =>
    if x28 ≤ x26 then
    (some x25)
    else
    nm (fun (x29 : Int32) (x30 : Int32) =>
    nm (x29 + x30) fun x31 =>
    nm (fun (x32 : Int32) (x33 : Int32) =>
    nm (x32 + x33) fun x34 =>
    nm (x26 + (1 : Int32)) fun x35 =>
    lX9_cracksOf_17 N S r0 x1 x3 n x34 x35) fun j101 =>
    nm (fun (x36 : Int32) =>
    j101 x36 (0 : Int32)) fun j100 =>
    if x3 ≤ 0 then
    (j100 x31)
    else
    (fX9_at N S r0 x1 x26 x3).bind fun x37 =>
    (fX9_at N S r0 x1 x26 (x3 - (1 : Int32))).bind fun x38 =>
    (fX9_doCrack N S r0 x37 x38).bind fun x39 =>
    if x39 = 0 then
    (j100 x31)
    else
    j101 x31 (1 : Int32)) fun j64 =>
    nm (fun (x42 : Int32) =>
    j64 x42 (0 : Int32)) fun j63 =>
    if x26 ≤ 0 then
    (j63 x25)
    else
    (fX9_at N S r0 x1 x26 x3).bind fun x43 =>
    (fX9_at N S r0 x1 (x26 - (1 : Int32)) x3).bind fun x44 =>
    (fX9_doCrack N S r0 x43 x44).bind fun x45 =>
    if x45 = 0 then
    (j63 x25)
    else
    j64 x25 (1 : Int32)
def lX9_cracksOf_4 (N : Nat) (S : pH) (r0 : Option Nat) (x1 : Int32) : Nat → Int32 → Int32 → Option (Int32)
  | 0, _, _ => none
  | n + 1, x21, x22 =>
    (gfR S 9 3 r0).bind fun r23 =>
    (ldI S 0 r23 x1).bind fun x24 =>
    if x24 ≤ x22 then
    (some x21)
    else
    (lX9_cracksOf_17 N S r0 x1 x22 N x21 (0 : Int32)).bind fun x49 =>
    nm (x22 + (1 : Int32)) fun x50 =>
    lX9_cracksOf_4 N S r0 x1 n x49 x50
def fX9_cracksOf (N : Nat) (S : pH) (r0 : Option Nat) (x1 : Int32) : Option (Int32) :=
  chk S 9 r0 <|
  (lX9_cracksOf_4 N S r0 x1 N (0 : Int32) (0 : Int32)).bind fun x52 =>
  some x52
theorem oX9_cracksOf {N : Nat} {S : pH} {r0 : Option Nat} {x1 : Int32} {z : Int32} (h : fX9_cracksOf N S r0 x1 = some z) : ∃ fs, obj S 9 r0 = some fs := by
  unfold fX9_cracksOf at h
  exact (chk_spec h).1
set_option maxHeartbeats 1000000 in
set_option maxRecDepth 20000 in
theorem kX9_cracksOf_17 {g : VG} {w : VW} {N : Nat} {S : pH} {r0 : Option Nat} {x1 : Int32} {x3 : Int32} {v0 : Int32} (hC : Cx g yX9_cracksOf cX9_cracksOf 5 (some .int) rmX9_cracksOf w) : ∀ (n : Nat) (x25 : Int32) (x26 : Int32) (z : (Int32)), lX9_cracksOf_17 N S r0 x1 x3 n x25 x26 = some z → (∀ (e0 : Int32), z = e0 → V g w 5 (Qm g w rmX9_cracksOf.cells rmX9_cracksOf.slots (some (.int v0)) S) S 0 0 109 [(0, va_rf r0), (1, .int x1), (2, .int e0), (3, .int x3)] []) → V g w 5 (Qm g w rmX9_cracksOf.cells rmX9_cracksOf.slots (some (.int v0)) S) S 0 0 17 [(0, va_rf r0), (1, .int x1), (2, .int x25), (3, .int x3), (4, .int x26)] [] := by
  intro n
  induction n with
  | zero => intro x25 x26 z h; rw [lX9_cracksOf_17] at h; cases h
  | succ n ih =>
    intro x25 x26 z h K
    rw [lX9_cracksOf_17] at h
    refine v_iload hC 17 4 dX9_cracksOf_17 rfl ?_
    refine v_aload_n hC 19 0 dX9_cracksOf_19 rfl ?_
    obtain ⟨r27, er27, h⟩ := obn h
    refine gRX9_16 hC rfl 20 er27 dX9_cracksOf_20 ?_
    refine v_iload_n hC 23 1 dX9_cracksOf_23 rfl ?_
    obtain ⟨x28, ex28, h⟩ := obn h
    refine v_iald hC 24 ex28 dX9_cracksOf_24 ?_
    refine v_icmp_ge hC 25 109 dX9_cracksOf_25 (by decide) (fun c48 => ?_) (fun c48 => ?_)
    · replace h := ifp h c48
      refine v_sub [(0, va_rf r0), (1, .int x1), (2, .int x25), (3, .int x3)] [0, 1, 2, 3] rfl ?_
      exact K _ (sp1 h)
    · replace h := ifn h c48
      refine v_iload_n hC 28 2 dX9_cracksOf_28 rfl ?_
      refine v_iload hC 29 4 dX9_cracksOf_29 rfl ?_
      obtain ⟨j64, f64, h⟩ := onm h
      have J64 : ∀ (x29 : Int32) (x30 : Int32), j64 x29 x30 = some z → V g w 5 (Qm g w rmX9_cracksOf.cells rmX9_cracksOf.slots (some (.int v0)) S) S 0 0 64 [(0, va_rf r0), (1, .int x1), (3, .int x3), (4, .int x26)] [.int x30, .int x29] := by
        intro x29 x30 h
        replace h := jb2 f64 h
        refine v_iadd hC 64 dX9_cracksOf_64 ?_
        obtain ⟨x31, ex31, h⟩ := onm h
        refine v_topi x31 ex31 ?_
        refine v_istore_n hC [(2, .int x31), (0, va_rf r0), (1, .int x1), (3, .int x3), (4, .int x26)] 65 dX9_cracksOf_65 (by decide) rfl ?_
        refine v_iload_n hC 66 0 dX9_cracksOf_66 rfl ?_
        refine v_iload_n hC 67 3 dX9_cracksOf_67 rfl ?_
        obtain ⟨j101, f101, h⟩ := onm h
        have J101 : ∀ (x32 : Int32) (x33 : Int32), j101 x32 x33 = some z → V g w 5 (Qm g w rmX9_cracksOf.cells rmX9_cracksOf.slots (some (.int v0)) S) S 0 0 101 [(0, va_rf r0), (1, .int x1), (3, .int x3), (4, .int x26)] [.int x33, .int x32] := by
          intro x32 x33 h
          replace h := jb2 f101 h
          refine v_iadd hC 101 dX9_cracksOf_101 ?_
          obtain ⟨x34, ex34, h⟩ := onm h
          refine v_topi x34 ex34 ?_
          refine v_istore_n hC [(2, .int x34), (0, va_rf r0), (1, .int x1), (3, .int x3), (4, .int x26)] 102 dX9_cracksOf_102 (by decide) rfl ?_
          obtain ⟨x35, ex35, h⟩ := onm h
          refine v_iinc hC x35 [(4, .int x35), (2, .int x34), (0, va_rf r0), (1, .int x1), (3, .int x3)] 103 4 dX9_cracksOf_103 rfl (by rw [ex35]; rfl) (by decide) rfl ?_
          refine v_goto hC 106 17 dX9_cracksOf_106 (by decide) ?_
          refine v_sub [(0, va_rf r0), (1, .int x1), (2, .int x34), (3, .int x3), (4, .int x35)] [2, 3, 1, 4, 0] rfl ?_
          exact ih _ _ _ h K
        obtain ⟨j100, f100, h⟩ := onm h
        have J100 : ∀ (x36 : Int32), j100 x36 = some z → V g w 5 (Qm g w rmX9_cracksOf.cells rmX9_cracksOf.slots (some (.int v0)) S) S 0 0 100 [(0, va_rf r0), (1, .int x1), (3, .int x3), (4, .int x26)] [.int x36] := by
          intro x36 h
          replace h := jb1 f100 h
          refine v_iconst hC (0 : Int32) 100 dX9_cracksOf_100 (by decide) ?_
          refine v_sub [(0, va_rf r0), (1, .int x1), (3, .int x3), (4, .int x26)] [0, 1, 2, 3] rfl ?_
          exact J101 _ _ h
        refine v_if_le hC 68 100 dX9_cracksOf_68 (by decide) (fun c41 => ?_) (fun c41 => ?_)
        · replace h := ifp h c41
          refine v_sub [(0, va_rf r0), (1, .int x1), (3, .int x3), (4, .int x26)] [1, 2, 3, 4] rfl ?_
          exact J100 _ h
        · replace h := ifn h c41
          refine v_aload_n hC 71 1 dX9_cracksOf_71 rfl ?_
          refine v_aload_n hC 72 1 dX9_cracksOf_72 rfl ?_
          refine v_iload_n hC 73 2 dX9_cracksOf_73 rfl ?_
          refine v_iload hC 74 4 dX9_cracksOf_74 rfl ?_
          refine v_iload_n hC 76 3 dX9_cracksOf_76 rfl ?_
          obtain ⟨x37, ex37, h⟩ := obn h
          refine qX9_121 hC rfl 77 ex37 (by decide) (catL (Nat.le_of_ble_eq_true rfl)) (by decide) dX9_cracksOf_77 ?_
          refine v_aload_n hC 80 1 dX9_cracksOf_80 rfl ?_
          refine v_iload_n hC 81 2 dX9_cracksOf_81 rfl ?_
          refine v_iload hC 82 4 dX9_cracksOf_82 rfl ?_
          refine v_iload_n hC 84 3 dX9_cracksOf_84 rfl ?_
          refine v_iconst hC (1 : Int32) 85 dX9_cracksOf_85 (by decide) ?_
          refine v_isub hC 86 dX9_cracksOf_86 ?_
          obtain ⟨x38, ex38, h⟩ := obn h
          refine qX9_121 hC rfl 87 ex38 (by decide) (catL (Nat.le_of_ble_eq_true rfl)) (by decide) dX9_cracksOf_87 ?_
          obtain ⟨x39, ex39, h⟩ := obn h
          refine qX9_159 hC rfl 90 ex39 (by decide) (catL (Nat.le_of_ble_eq_true rfl)) (by decide) dX9_cracksOf_90 ?_
          refine v_if_eq hC 93 100 dX9_cracksOf_93 (by decide) (fun c40 => ?_) (fun c40 => ?_)
          · replace h := ifp h c40
            refine v_sub [(0, va_rf r0), (1, .int x1), (3, .int x3), (4, .int x26)] [1, 2, 3, 4] rfl ?_
            exact J100 _ h
          · replace h := ifn h c40
            refine v_iconst hC (1 : Int32) 96 dX9_cracksOf_96 (by decide) ?_
            refine v_goto hC 97 101 dX9_cracksOf_97 (by decide) ?_
            refine v_sub [(0, va_rf r0), (1, .int x1), (3, .int x3), (4, .int x26)] [1, 2, 3, 4] rfl ?_
            exact J101 _ _ h
      obtain ⟨j63, f63, h⟩ := onm h
      have J63 : ∀ (x42 : Int32), j63 x42 = some z → V g w 5 (Qm g w rmX9_cracksOf.cells rmX9_cracksOf.slots (some (.int v0)) S) S 0 0 63 [(0, va_rf r0), (1, .int x1), (3, .int x3), (4, .int x26)] [.int x42] := by
        intro x42 h
        replace h := jb1 f63 h
        refine v_iconst hC (0 : Int32) 63 dX9_cracksOf_63 (by decide) ?_
        refine v_sub [(0, va_rf r0), (1, .int x1), (3, .int x3), (4, .int x26)] [0, 1, 2, 3] rfl ?_
        exact J64 _ _ h
      refine v_if_le hC 31 63 dX9_cracksOf_31 (by decide) (fun c47 => ?_) (fun c47 => ?_)
      · replace h := ifp h c47
        refine v_sub [(0, va_rf r0), (1, .int x1), (3, .int x3), (4, .int x26)] [0, 1, 3, 4] rfl ?_
        exact J63 _ h
      · replace h := ifn h c47
        refine v_aload_n hC 34 0 dX9_cracksOf_34 rfl ?_
        refine v_aload_n hC 35 0 dX9_cracksOf_35 rfl ?_
        refine v_iload_n hC 36 1 dX9_cracksOf_36 rfl ?_
        refine v_iload hC 37 4 dX9_cracksOf_37 rfl ?_
        refine v_iload_n hC 39 3 dX9_cracksOf_39 rfl ?_
        obtain ⟨x43, ex43, h⟩ := obn h
        refine qX9_121 hC rfl 40 ex43 (by decide) (catL (Nat.le_of_ble_eq_true rfl)) (by decide) dX9_cracksOf_40 ?_
        refine v_aload_n hC 43 0 dX9_cracksOf_43 rfl ?_
        refine v_iload_n hC 44 1 dX9_cracksOf_44 rfl ?_
        refine v_iload hC 45 4 dX9_cracksOf_45 rfl ?_
        refine v_iconst hC (1 : Int32) 47 dX9_cracksOf_47 (by decide) ?_
        refine v_isub hC 48 dX9_cracksOf_48 ?_
        refine v_iload_n hC 49 3 dX9_cracksOf_49 rfl ?_
        obtain ⟨x44, ex44, h⟩ := obn h
        refine qX9_121 hC rfl 50 ex44 (by decide) (catL (Nat.le_of_ble_eq_true rfl)) (by decide) dX9_cracksOf_50 ?_
        obtain ⟨x45, ex45, h⟩ := obn h
        refine qX9_159 hC rfl 53 ex45 (by decide) (catL (Nat.le_of_ble_eq_true rfl)) (by decide) dX9_cracksOf_53 ?_
        refine v_if_eq hC 56 63 dX9_cracksOf_56 (by decide) (fun c46 => ?_) (fun c46 => ?_)
        · replace h := ifp h c46
          refine v_sub [(0, va_rf r0), (1, .int x1), (3, .int x3), (4, .int x26)] [0, 1, 3, 4] rfl ?_
          exact J63 _ h
        · replace h := ifn h c46
          refine v_iconst hC (1 : Int32) 59 dX9_cracksOf_59 (by decide) ?_
          refine v_goto hC 60 64 dX9_cracksOf_60 (by decide) ?_
          refine v_sub [(0, va_rf r0), (1, .int x1), (3, .int x3), (4, .int x26)] [0, 1, 3, 4] rfl ?_
          exact J64 _ _ h
set_option maxHeartbeats 1000000 in
set_option maxRecDepth 20000 in
theorem kX9_cracksOf_4 {g : VG} {w : VW} {N : Nat} {S : pH} {r0 : Option Nat} {x1 : Int32} {v0 : Int32} (hC : Cx g yX9_cracksOf cX9_cracksOf 5 (some .int) rmX9_cracksOf w) : ∀ (n : Nat) (x21 : Int32) (x22 : Int32) (z : (Int32)), lX9_cracksOf_4 N S r0 x1 n x21 x22 = some z → (∀ (e0 : Int32), z = e0 → V g w 5 (Qm g w rmX9_cracksOf.cells rmX9_cracksOf.slots (some (.int v0)) S) S 0 0 115 [(2, .int e0)] []) → V g w 5 (Qm g w rmX9_cracksOf.cells rmX9_cracksOf.slots (some (.int v0)) S) S 0 0 4 [(0, va_rf r0), (1, .int x1), (2, .int x21), (3, .int x22)] [] := by
  intro n
  induction n with
  | zero => intro x21 x22 z h; rw [lX9_cracksOf_4] at h; cases h
  | succ n ih =>
    intro x21 x22 z h K
    rw [lX9_cracksOf_4] at h
    refine v_iload_n hC 4 3 dX9_cracksOf_4 rfl ?_
    refine v_aload_n hC 5 0 dX9_cracksOf_5 rfl ?_
    obtain ⟨r23, er23, h⟩ := obn h
    refine gRX9_16 hC rfl 6 er23 dX9_cracksOf_6 ?_
    refine v_iload_n hC 9 1 dX9_cracksOf_9 rfl ?_
    obtain ⟨x24, ex24, h⟩ := obn h
    refine v_iald hC 10 ex24 dX9_cracksOf_10 ?_
    refine v_icmp_ge hC 11 115 dX9_cracksOf_11 (by decide) (fun c51 => ?_) (fun c51 => ?_)
    · replace h := ifp h c51
      refine v_sub [(2, .int x21)] [2] rfl ?_
      exact K _ (sp1 h)
    · replace h := ifn h c51
      refine v_iconst hC (0 : Int32) 14 dX9_cracksOf_14 (by decide) ?_
      refine v_istore hC [(4, .int (0 : Int32)), (0, va_rf r0), (1, .int x1), (2, .int x21), (3, .int x22)] 15 dX9_cracksOf_15 (by decide) rfl ?_
      obtain ⟨x49, E17, h⟩ := obn h
      refine v_sub [(0, va_rf r0), (1, .int x1), (2, .int x21), (3, .int x22), (4, .int (0 : Int32))] [1, 2, 3, 4, 0] rfl ?_
      refine kX9_cracksOf_17 hC _ _ _ _ E17 (fun _ hz9 => ?_)
      cases hz9
      obtain ⟨x50, ex50, h⟩ := onm h
      refine v_iinc hC x50 [(3, .int x50), (0, va_rf r0), (1, .int x1), (2, .int x49)] 109 3 dX9_cracksOf_109 rfl (by rw [ex50]; rfl) (by decide) rfl ?_
      refine v_goto hC 112 4 dX9_cracksOf_112 (by decide) ?_
      refine v_sub [(0, va_rf r0), (1, .int x1), (2, .int x49), (3, .int x50)] [1, 2, 3, 0] rfl ?_
      exact ih _ _ _ h K
set_option maxHeartbeats 1000000 in
set_option maxRecDepth 20000 in
theorem tX9_cracksOf {l : Launch} {w : VW} {N : Nat} {S : pH} {r0 : Option Nat} {x1 : Int32} {v0 : Int32} (h : fX9_cracksOf N S r0 x1 = some v0) : CT l w yX9_cracksOf cX9_cracksOf 5 (some .int) rmX9_cracksOf [va_rf r0, .int x1] S (some (.int v0)) S := by
  refine v_entry [(0, va_rf r0), (1, .int x1)] (by decide) (by simp [lg_sl, cat_rf, cat_i, cat_j]) (by simp [lv_args, cat_rf, cat_i, cat_j]) (fun g _ hC => ?_)
  unfold fX9_cracksOf at h
  obtain ⟨hO, h⟩ := chk_spec h
  refine v_iconst hC (0 : Int32) 0 dX9_cracksOf_0 (by decide) ?_
  refine v_istore_n hC [(2, .int (0 : Int32)), (0, va_rf r0), (1, .int x1)] 1 dX9_cracksOf_1 (by decide) rfl ?_
  refine v_iconst hC (0 : Int32) 2 dX9_cracksOf_2 (by decide) ?_
  refine v_istore_n hC [(3, .int (0 : Int32)), (2, .int (0 : Int32)), (0, va_rf r0), (1, .int x1)] 3 dX9_cracksOf_3 (by decide) rfl ?_
  obtain ⟨x52, E4, h⟩ := obn h
  refine v_sub [(0, va_rf r0), (1, .int x1), (2, .int (0 : Int32)), (3, .int (0 : Int32))] [2, 3, 1, 0] rfl ?_
  refine kX9_cracksOf_4 hC _ _ _ _ E4 (fun _ hz9 => ?_)
  cases hz9
  refine v_iload_n hC 115 0 dX9_cracksOf_115 rfl ?_
  obtain rfl := sp1 h
  exact v_iret hC 116 (by decide) (by decide) dX9_cracksOf_116
set_option maxRecDepth 20000 in
theorem qX9_163 {g : VG} {w : VW} {nL : Nat} {Q : State → Prop} {S : pH} {kc ks : Nat} {lv : List (Nat × Value)} {rest : List Value} {y : MethodName} {cc : ByteArray} {rt : Option FieldType} {rm : Room} (hC : Cx g y cc nL rt rm w) (hy : y.cls = RX9) (pc : Nat) {N : Nat} {r0 : Option Nat} {x1 : Int32} {x2 : Int32} {x3 : Int32} {v0 : Int32} (h : fX9_beside N S r0 x1 x2 x3 = some v0) (hR : rmX9_beside.frames + 1 ≤ rm.frames ∧ 8 + (7 + 11) + rmX9_beside.locals ≤ rm.locals) (hst : (rest.map fun v => v.category).sum ≤ 8) (hf : kc + 0 ≤ rm.cells ∧ ks + 0 ≤ rm.slots) (d : decode cc pc = .ok (.invokevirtual 163, 3)) (K : V g w nL Q S kc ks (pc + 3) lv (.int v0 :: rest)) : V g w nL Q S kc ks pc lv (.int x3 :: .int x2 :: .int x1 :: va_rf r0 :: rest) := by
  obtain ⟨fs, ho⟩ := oX9_beside h
  exact v_callV (As := [.int x1, .int x2, .int x3]) (rest := rest) (ci := 9) hC pc (tX9_beside (l := g.2.1) (w := w) h) rfl (by decide) ho wG615 (by rw [hy]; exact wG614) wG616 wG617 wG542 hdX9_beside rfl hR hst hf d K
abbrev rmX9_grows : Room := { frames := 2, cells := 0, slots := 0, locals := 49 }
theorem hdX9_grows : yX9_grows.cls ≠ "java/lang/invoke/MethodHandle" ∧ yX9_grows.cls ≠ "java/lang/invoke/VarHandle" ∧ (parseMethodDescriptor yX9_grows.desc).map (fun d => d.parameters.length) = some 2 := by decide +kernel
def lX9_grows_2 (N : Nat) (r0 : Option Nat) (x1 : Int32) (x2 : Int32) : Nat → Int32 → pH → Option (pH)
  | 0, _, _ => none
  | n + 1, x21, S22 =>
    if (64 : Int32) ≤ x21 then
    (some S22)
    else
    (gfR S22 9 25 r0).bind fun r23 =>
    (stI S22 r23 x21 (-9 : Int32)).bind fun S24 =>
    nm (x21 + (1 : Int32)) fun x25 =>
    lX9_grows_2 N r0 x1 x2 n x25 S24
def lX9_grows_114 (N : Nat) (r0 : Option Nat) (x2 : Int32) : Nat → Int32 → pH → Option (pH)
  | 0, _, _ => none
  | n + 1, x55, S56 =>
    if x55 = (-9 : Int32) then
    (some S56)
    else
    (gfR S56 9 25 r0).bind fun r57 =>
    (ldI S56 0 r57 x55).bind fun x58 =>
    (gfR S56 9 24 r0).bind fun r59 =>
    (ldI S56 0 r59 x58).bind fun x60 =>
    (gfR S56 9 24 r0).bind fun r61 =>
    (stI S56 r61 x58 x55).bind fun S62 =>
    (gfR S62 9 24 r0).bind fun r63 =>
    (stI S62 r63 x55 x58).bind fun S64 =>
    nm (fun (x65 : Int32) =>
    lX9_grows_114 N r0 x2 n x65 S64) fun j170 =>
    if ¬ x58 = x2 then
    (j170 x60)
    else
    j170 (-9 : Int32)
def lX9_grows_43 (N : Nat) (r0 : Option Nat) (x1 : Int32) (x2 : Int32) (x4 : Int32) : Nat → Int32 → Int32 → pH → Option (Sum (Int32 × pH) (Int32 × pH))
  | 0, _, _, _ => none
  | n + 1, x33, x34, S35 =>
    if (4 : Int32) ≤ x34 then
    (some (.inl (x33, S35)))
    else
    (gfR S35 9 26 r0).bind fun r36 =>
    (ldI S35 0 r36 x4).bind fun x37 =>
    (fX9_beside N S35 r0 x1 x37 x34).bind fun x38 =>
    nm (fun (x39 : Int32) (S40 : pH) =>
    nm (x34 + (1 : Int32)) fun x41 =>
    lX9_grows_43 N r0 x1 x2 x4 n x39 x41 S40) fun j193 =>
    if x38 = (-9 : Int32) then
    (j193 x33 S35)
    else
    (gfR S35 9 25 r0).bind fun r42 =>
    (ldI S35 0 r42 x38).bind fun x43 =>
    if ¬ x43 = (-9 : Int32) then
    (j193 x33 S35)
    else
    (gfR S35 9 25 r0).bind fun r44 =>
    (gfR S35 9 26 r0).bind fun r45 =>
    (ldI S35 0 r45 x4).bind fun x46 =>
    (stI S35 r44 x38 x46).bind fun S47 =>
    (gfR S47 9 24 r0).bind fun r48 =>
    (ldI S47 0 r48 x38).bind fun x49 =>
    if ¬ x49 = (-9 : Int32) then
    ((gfR S47 9 26 r0).bind fun r50 =>
    (gfR S47 9 24 r0).bind fun r51 =>
    (ldI S47 0 r51 x38).bind fun x52 =>
    (stI S47 r50 x33 x52).bind fun S53 =>
    nm (x33 + (1 : Int32)) fun x54 =>
    j193 x54 S53)
    else
    (lX9_grows_114 N r0 x2 N x38 S47).bind fun S68 =>
    some (.inr ((1 : Int32), S68))
def lX9_grows_34 (N : Nat) (r0 : Option Nat) (x1 : Int32) (x2 : Int32) : Nat → Int32 → Int32 → pH → Option (Sum (pH) (Int32 × pH))
  | 0, _, _, _ => none
  | n + 1, x30, x31, S32 =>
    if x30 ≤ x31 then
    (some (.inl S32))
    else
    bS2 (lX9_grows_43 N r0 x1 x2 x31 N x30 (0 : Int32) S32) (fun r9 => some (.inr r9)) fun x73 S74 =>
    nm (x31 + (1 : Int32)) fun x75 =>
    lX9_grows_34 N r0 x1 x2 n x73 x75 S74
def fX9_grows (N : Nat) (S : pH) (r0 : Option Nat) (x1 : Int32) (x2 : Int32) : Option (Int32 × pH) :=
  chk S 9 r0 <|
  (lX9_grows_2 N r0 x1 x2 N (0 : Int32) S).bind fun S27 =>
  (gfR S27 9 26 r0).bind fun r28 =>
  (stI S27 r28 (0 : Int32) x2).bind fun S29 =>
  bS1 (lX9_grows_34 N r0 x1 x2 N (1 : Int32) (0 : Int32) S29) (fun r9 => some r9) fun S77 =>
  some ((0 : Int32), S77)
theorem oX9_grows {N : Nat} {S : pH} {r0 : Option Nat} {x1 : Int32} {x2 : Int32} {z : Int32 × pH} (h : fX9_grows N S r0 x1 x2 = some z) : ∃ fs, obj S 9 r0 = some fs := by
  unfold fX9_grows at h
  exact (chk_spec h).1
set_option maxHeartbeats 1000000 in
set_option maxRecDepth 20000 in
theorem kX9_grows_2 {g : VG} {w : VW} {N : Nat} {r0 : Option Nat} {x1 : Int32} {x2 : Int32} {v0 : Int32} {S0 : pH} (hC : Cx g yX9_grows cX9_grows 10 (some .boolean) rmX9_grows w) : ∀ (n : Nat) (x21 : Int32) (S22 : pH) (z : (pH)), lX9_grows_2 N r0 x1 x2 n x21 S22 = some z → (∀ (e0 : pH), z = e0 → V g w 10 (Qm g w rmX9_grows.cells rmX9_grows.slots (some (.int v0)) S0) e0 0 0 22 [(0, va_rf r0), (1, .int x1), (2, .int x2)] []) → V g w 10 (Qm g w rmX9_grows.cells rmX9_grows.slots (some (.int v0)) S0) S22 0 0 2 [(0, va_rf r0), (1, .int x1), (2, .int x2), (3, .int x21)] [] := by
  intro n
  induction n with
  | zero => intro x21 S22 z h; rw [lX9_grows_2] at h; cases h
  | succ n ih =>
    intro x21 S22 z h K
    rw [lX9_grows_2] at h
    refine v_iload_n hC 2 3 dX9_grows_2 rfl ?_
    refine v_bipush hC (64 : Int32) 3 dX9_grows_3 (by decide) ?_
    refine v_icmp_ge hC 5 22 dX9_grows_5 (by decide) (fun c26 => ?_) (fun c26 => ?_)
    · replace h := ifp h c26
      refine v_sub [(0, va_rf r0), (1, .int x1), (2, .int x2)] [0, 1, 2] rfl ?_
      exact K _ (sp1 h)
    · replace h := ifn h c26
      refine v_aload_n hC 8 0 dX9_grows_8 rfl ?_
      obtain ⟨r23, er23, h⟩ := obn h
      refine gRX9_75 hC rfl 9 er23 dX9_grows_9 ?_
      refine v_iload_n hC 12 3 dX9_grows_12 rfl ?_
      refine v_bipush hC (-9 : Int32) 13 dX9_grows_13 (by decide) ?_
      obtain ⟨S24, eS24, h⟩ := obn h
      refine v_iast hC 15 eS24 dX9_grows_15 ?_
      obtain ⟨x25, ex25, h⟩ := onm h
      refine v_iinc hC x25 [(3, .int x25), (0, va_rf r0), (1, .int x1), (2, .int x2)] 16 3 dX9_grows_16 rfl (by rw [ex25]; rfl) (by decide) rfl ?_
      refine v_goto hC 19 2 dX9_grows_19 (by decide) ?_
      refine v_sub [(0, va_rf r0), (1, .int x1), (2, .int x2), (3, .int x25)] [1, 2, 3, 0] rfl ?_
      exact ih _ _ _ h K
set_option maxHeartbeats 1000000 in
set_option maxRecDepth 20000 in
theorem kX9_grows_114 {g : VG} {w : VW} {N : Nat} {r0 : Option Nat} {x2 : Int32} {v0 : Int32} {S0 : pH} (hC : Cx g yX9_grows cX9_grows 10 (some .boolean) rmX9_grows w) : ∀ (n : Nat) (x55 : Int32) (S56 : pH) (z : (pH)), lX9_grows_114 N r0 x2 n x55 S56 = some z → (∀ (e0 : pH), z = e0 → V g w 10 (Qm g w rmX9_grows.cells rmX9_grows.slots (some (.int v0)) S0) e0 0 0 175 [] []) → V g w 10 (Qm g w rmX9_grows.cells rmX9_grows.slots (some (.int v0)) S0) S56 0 0 114 [(0, va_rf r0), (2, .int x2), (7, .int x55)] [] := by
  intro n
  induction n with
  | zero => intro x55 S56 z h; rw [lX9_grows_114] at h; cases h
  | succ n ih =>
    intro x55 S56 z h K
    rw [lX9_grows_114] at h
    refine v_iload hC 114 2 dX9_grows_114 rfl ?_
    refine v_bipush hC (-9 : Int32) 116 dX9_grows_116 (by decide) ?_
    refine v_icmp_eq hC 118 175 dX9_grows_118 (by decide) (fun c67 => ?_) (fun c67 => ?_)
    · replace h := ifp h c67
      refine v_sub [] [] rfl ?_
      exact K _ (sp1 h)
    · replace h := ifn h c67
      refine v_aload_n hC 121 0 dX9_grows_121 rfl ?_
      obtain ⟨r57, er57, h⟩ := obn h
      refine gRX9_75 hC rfl 122 er57 dX9_grows_122 ?_
      refine v_iload hC 125 2 dX9_grows_125 rfl ?_
      obtain ⟨x58, ex58, h⟩ := obn h
      refine v_iald hC 127 ex58 dX9_grows_127 ?_
      refine v_istore hC [(8, .int x58), (0, va_rf r0), (2, .int x2), (7, .int x55)] 128 dX9_grows_128 (by decide) rfl ?_
      refine v_aload_n hC 130 1 dX9_grows_130 rfl ?_
      obtain ⟨r59, er59, h⟩ := obn h
      refine gRX9_72 hC rfl 131 er59 dX9_grows_131 ?_
      refine v_iload hC 134 0 dX9_grows_134 rfl ?_
      obtain ⟨x60, ex60, h⟩ := obn h
      refine v_iald hC 136 ex60 dX9_grows_136 ?_
      refine v_istore hC [(9, .int x60), (8, .int x58), (0, va_rf r0), (2, .int x2), (7, .int x55)] 137 dX9_grows_137 (by decide) rfl ?_
      refine v_aload_n hC 139 2 dX9_grows_139 rfl ?_
      obtain ⟨r61, er61, h⟩ := obn h
      refine gRX9_72 hC rfl 140 er61 dX9_grows_140 ?_
      refine v_iload hC 143 1 dX9_grows_143 rfl ?_
      refine v_iload hC 145 4 dX9_grows_145 rfl ?_
      obtain ⟨S62, eS62, h⟩ := obn h
      refine v_iast hC 147 eS62 dX9_grows_147 ?_
      refine v_aload_n hC 148 2 dX9_grows_148 rfl ?_
      obtain ⟨r63, er63, h⟩ := obn h
      refine gRX9_72 hC rfl 149 er63 dX9_grows_149 ?_
      refine v_iload hC 152 4 dX9_grows_152 rfl ?_
      refine v_iload hC 154 1 dX9_grows_154 rfl ?_
      obtain ⟨S64, eS64, h⟩ := obn h
      refine v_iast hC 156 eS64 dX9_grows_156 ?_
      refine v_iload hC 157 1 dX9_grows_157 rfl ?_
      refine v_iload_n hC 159 3 dX9_grows_159 rfl ?_
      obtain ⟨j170, f170, h⟩ := onm h
      have J170 : ∀ (x65 : Int32), j170 x65 = some z → V g w 10 (Qm g w rmX9_grows.cells rmX9_grows.slots (some (.int v0)) S0) S64 0 0 170 [(0, va_rf r0), (2, .int x2)] [.int x65] := by
        intro x65 h
        replace h := jb1 f170 h
        refine v_istore hC [(7, .int x65), (0, va_rf r0), (2, .int x2)] 170 dX9_grows_170 (by decide) rfl ?_
        refine v_goto hC 172 114 dX9_grows_172 (by decide) ?_
        refine v_sub [(0, va_rf r0), (2, .int x2), (7, .int x65)] [1, 2, 0] rfl ?_
        exact ih _ _ _ h K
      refine v_icmp_ne hC 160 168 dX9_grows_160 (by decide) (fun c66 => ?_) (fun c66 => ?_)
      · replace h := ifp h c66
        refine v_iload hC 168 0 dX9_grows_168 rfl ?_
        refine v_sub [(0, va_rf r0), (2, .int x2)] [2, 3] rfl ?_
        exact J170 _ h
      · replace h := ifn h (fun q => q c66)
        refine v_bipush hC (-9 : Int32) 163 dX9_grows_163 (by decide) ?_
        refine v_goto hC 165 170 dX9_grows_165 (by decide) ?_
        refine v_sub [(0, va_rf r0), (2, .int x2)] [2, 3] rfl ?_
        exact J170 _ h
set_option maxHeartbeats 1000000 in
set_option maxRecDepth 20000 in
theorem kX9_grows_43 {g : VG} {w : VW} {N : Nat} {r0 : Option Nat} {x1 : Int32} {x2 : Int32} {x4 : Int32} {v0 : Int32} {S0 : pH} (hC : Cx g yX9_grows cX9_grows 10 (some .boolean) rmX9_grows w) : ∀ (n : Nat) (x33 : Int32) (x34 : Int32) (S35 : pH) (z : (Sum (Int32 × pH) (Int32 × pH))), lX9_grows_43 N r0 x1 x2 x4 n x33 x34 S35 = some z → (∀ (e0 : Int32) (e1 : pH), z = .inl (e0, e1) → V g w 10 (Qm g w rmX9_grows.cells rmX9_grows.slots (some (.int v0)) S0) e1 0 0 199 [(0, va_rf r0), (1, .int x1), (2, .int x2), (3, .int e0), (4, .int x4)] []) → (∀ (v1 : Int32) (S1 : pH), z = .inr (v1, S1) → v0 = v1 ∧ S0 = S1) → V g w 10 (Qm g w rmX9_grows.cells rmX9_grows.slots (some (.int v0)) S0) S35 0 0 43 [(0, va_rf r0), (1, .int x1), (2, .int x2), (3, .int x33), (4, .int x4), (5, .int x34)] [] := by
  intro n
  induction n with
  | zero => intro x33 x34 S35 z h; rw [lX9_grows_43] at h; cases h
  | succ n ih =>
    intro x33 x34 S35 z h K hR
    rw [lX9_grows_43] at h
    refine v_iload hC 43 5 dX9_grows_43 rfl ?_
    refine v_iconst hC (4 : Int32) 45 dX9_grows_45 (by decide) ?_
    refine v_icmp_ge hC 46 199 dX9_grows_46 (by decide) (fun c72 => ?_) (fun c72 => ?_)
    · replace h := ifp h c72
      refine v_sub [(0, va_rf r0), (1, .int x1), (2, .int x2), (3, .int x33), (4, .int x4)] [0, 1, 2, 3, 4] rfl ?_
      exact K _ _ (sp1 h)
    · replace h := ifn h c72
      refine v_aload_n hC 49 0 dX9_grows_49 rfl ?_
      refine v_iload_n hC 50 1 dX9_grows_50 rfl ?_
      refine v_aload_n hC 51 0 dX9_grows_51 rfl ?_
      obtain ⟨r36, er36, h⟩ := obn h
      refine gRX9_78 hC rfl 52 er36 dX9_grows_52 ?_
      refine v_iload hC 55 4 dX9_grows_55 rfl ?_
      obtain ⟨x37, ex37, h⟩ := obn h
      refine v_iald hC 57 ex37 dX9_grows_57 ?_
      refine v_iload hC 58 5 dX9_grows_58 rfl ?_
      obtain ⟨x38, ex38, h⟩ := obn h
      refine qX9_163 hC rfl 60 ex38 (by decide) (catL (Nat.le_of_ble_eq_true rfl)) (by decide) dX9_grows_60 ?_
      refine v_istore hC [(6, .int x38), (0, va_rf r0), (1, .int x1), (2, .int x2), (3, .int x33), (4, .int x4), (5, .int x34)] 63 dX9_grows_63 (by decide) rfl ?_
      refine v_iload hC 65 0 dX9_grows_65 rfl ?_
      refine v_bipush hC (-9 : Int32) 67 dX9_grows_67 (by decide) ?_
      obtain ⟨j193, f193, h⟩ := onm h
      have J193 : ∀ (x39 : Int32) (S40 : pH), j193 x39 S40 = some z → V g w 10 (Qm g w rmX9_grows.cells rmX9_grows.slots (some (.int v0)) S0) S40 0 0 193 [(0, va_rf r0), (1, .int x1), (2, .int x2), (3, .int x39), (4, .int x4), (5, .int x34)] [] := by
        intro x39 S40 h
        replace h := jb2 f193 h
        obtain ⟨x41, ex41, h⟩ := onm h
        refine v_iinc hC x41 [(5, .int x41), (0, va_rf r0), (1, .int x1), (2, .int x2), (3, .int x39), (4, .int x4)] 193 5 dX9_grows_193 rfl (by rw [ex41]; rfl) (by decide) rfl ?_
        refine v_goto hC 196 43 dX9_grows_196 (by decide) ?_
        refine v_sub [(0, va_rf r0), (1, .int x1), (2, .int x2), (3, .int x39), (4, .int x4), (5, .int x41)] [1, 2, 3, 4, 5, 0] rfl ?_
        exact ih _ _ _ _ h K hR
      refine v_icmp_eq hC 69 193 dX9_grows_69 (by decide) (fun c71 => ?_) (fun c71 => ?_)
      · replace h := ifp h c71
        refine v_sub [(0, va_rf r0), (1, .int x1), (2, .int x2), (3, .int x33), (4, .int x4), (5, .int x34)] [1, 2, 3, 4, 5, 6] rfl ?_
        exact J193 _ _ h
      · replace h := ifn h c71
        refine v_aload_n hC 72 1 dX9_grows_72 rfl ?_
        obtain ⟨r42, er42, h⟩ := obn h
        refine gRX9_75 hC rfl 73 er42 dX9_grows_73 ?_
        refine v_iload hC 76 0 dX9_grows_76 rfl ?_
        obtain ⟨x43, ex43, h⟩ := obn h
        refine v_iald hC 78 ex43 dX9_grows_78 ?_
        refine v_bipush hC (-9 : Int32) 79 dX9_grows_79 (by decide) ?_
        refine v_icmp_ne hC 81 193 dX9_grows_81 (by decide) (fun c70 => ?_) (fun c70 => ?_)
        · replace h := ifp h c70
          refine v_sub [(0, va_rf r0), (1, .int x1), (2, .int x2), (3, .int x33), (4, .int x4), (5, .int x34)] [1, 2, 3, 4, 5, 6] rfl ?_
          exact J193 _ _ h
        · replace h := ifn h (fun q => q c70)
          refine v_aload_n hC 84 1 dX9_grows_84 rfl ?_
          obtain ⟨r44, er44, h⟩ := obn h
          refine gRX9_75 hC rfl 85 er44 dX9_grows_85 ?_
          refine v_iload hC 88 0 dX9_grows_88 rfl ?_
          refine v_aload_n hC 90 1 dX9_grows_90 rfl ?_
          obtain ⟨r45, er45, h⟩ := obn h
          refine gRX9_78 hC rfl 91 er45 dX9_grows_91 ?_
          refine v_iload hC 94 5 dX9_grows_94 rfl ?_
          obtain ⟨x46, ex46, h⟩ := obn h
          refine v_iald hC 96 ex46 dX9_grows_96 ?_
          obtain ⟨S47, eS47, h⟩ := obn h
          refine v_iast hC 97 eS47 dX9_grows_97 ?_
          refine v_aload_n hC 98 1 dX9_grows_98 rfl ?_
          obtain ⟨r48, er48, h⟩ := obn h
          refine gRX9_72 hC rfl 99 er48 dX9_grows_99 ?_
          refine v_iload hC 102 0 dX9_grows_102 rfl ?_
          obtain ⟨x49, ex49, h⟩ := obn h
          refine v_iald hC 104 ex49 dX9_grows_104 ?_
          refine v_bipush hC (-9 : Int32) 105 dX9_grows_105 (by decide) ?_
          refine v_icmp_ne hC 107 177 dX9_grows_107 (by decide) (fun c69 => ?_) (fun c69 => ?_)
          · replace h := ifp h c69
            refine v_aload_n hC 177 1 dX9_grows_177 rfl ?_
            obtain ⟨r50, er50, h⟩ := obn h
            refine gRX9_78 hC rfl 178 er50 dX9_grows_178 ?_
            refine v_iload_n hC 181 4 dX9_grows_181 rfl ?_
            refine v_aload_n hC 182 1 dX9_grows_182 rfl ?_
            obtain ⟨r51, er51, h⟩ := obn h
            refine gRX9_72 hC rfl 183 er51 dX9_grows_183 ?_
            refine v_iload hC 186 0 dX9_grows_186 rfl ?_
            obtain ⟨x52, ex52, h⟩ := obn h
            refine v_iald hC 188 ex52 dX9_grows_188 ?_
            obtain ⟨S53, eS53, h⟩ := obn h
            refine v_iast hC 189 eS53 dX9_grows_189 ?_
            obtain ⟨x54, ex54, h⟩ := onm h
            refine v_iinc hC x54 [(3, .int x54), (6, .int x38), (0, va_rf r0), (1, .int x1), (2, .int x2), (4, .int x4), (5, .int x34)] 190 4 dX9_grows_190 rfl (by rw [ex54]; rfl) (by decide) rfl ?_
            refine v_sub [(0, va_rf r0), (1, .int x1), (2, .int x2), (3, .int x54), (4, .int x4), (5, .int x34)] [2, 3, 4, 0, 5, 6] rfl ?_
            exact J193 _ _ h
          · replace h := ifn h (fun q => q c69)
            refine v_iload hC 110 0 dX9_grows_110 rfl ?_
            refine v_istore hC [(7, .int x38), (6, .int x38), (0, va_rf r0), (1, .int x1), (2, .int x2), (3, .int x33), (4, .int x4), (5, .int x34)] 112 dX9_grows_112 (by decide) rfl ?_
            obtain ⟨S68, E114, h⟩ := obn h
            refine v_sub [(0, va_rf r0), (2, .int x2), (7, .int x38)] [2, 4, 0] rfl ?_
            refine kX9_grows_114 hC _ _ _ _ E114 (fun _ hz9 => ?_)
            cases hz9
            refine v_iconst hC (1 : Int32) 175 dX9_grows_175 (by decide) ?_
            obtain ⟨rfl, rfl⟩ := hR _ _ (sp1 h)
            exact v_zret hC 176 (by decide) (by decide) (by decide) dX9_grows_176
set_option maxHeartbeats 1000000 in
set_option maxRecDepth 20000 in
theorem kX9_grows_34 {g : VG} {w : VW} {N : Nat} {r0 : Option Nat} {x1 : Int32} {x2 : Int32} {v0 : Int32} {S0 : pH} (hC : Cx g yX9_grows cX9_grows 10 (some .boolean) rmX9_grows w) : ∀ (n : Nat) (x30 : Int32) (x31 : Int32) (S32 : pH) (z : (Sum (pH) (Int32 × pH))), lX9_grows_34 N r0 x1 x2 n x30 x31 S32 = some z → (∀ (e0 : pH), z = .inl e0 → V g w 10 (Qm g w rmX9_grows.cells rmX9_grows.slots (some (.int v0)) S0) e0 0 0 205 [] []) → (∀ (v1 : Int32) (S1 : pH), z = .inr (v1, S1) → v0 = v1 ∧ S0 = S1) → V g w 10 (Qm g w rmX9_grows.cells rmX9_grows.slots (some (.int v0)) S0) S32 0 0 34 [(0, va_rf r0), (1, .int x1), (2, .int x2), (3, .int x30), (4, .int x31)] [] := by
  intro n
  induction n with
  | zero => intro x30 x31 S32 z h; rw [lX9_grows_34] at h; cases h
  | succ n ih =>
    intro x30 x31 S32 z h K hR
    rw [lX9_grows_34] at h
    refine v_iload hC 34 4 dX9_grows_34 rfl ?_
    refine v_iload_n hC 36 3 dX9_grows_36 rfl ?_
    refine v_icmp_ge hC 37 205 dX9_grows_37 (by decide) (fun c76 => ?_) (fun c76 => ?_)
    · replace h := ifp h c76
      refine v_sub [] [] rfl ?_
      exact K _ (sp1 h)
    · replace h := ifn h c76
      refine v_iconst hC (0 : Int32) 40 dX9_grows_40 (by decide) ?_
      refine v_istore hC [(5, .int (0 : Int32)), (0, va_rf r0), (1, .int x1), (2, .int x2), (3, .int x30), (4, .int x31)] 41 dX9_grows_41 (by decide) rfl ?_
      rcases obS2 h with ⟨x73, S74, E43, h⟩ | ⟨r9, E43, h⟩
      · refine v_sub [(0, va_rf r0), (1, .int x1), (2, .int x2), (3, .int x30), (4, .int x31), (5, .int (0 : Int32))] [1, 2, 3, 4, 5, 0] rfl ?_
        refine kX9_grows_43 hC _ _ _ _ _ E43 (fun _ _ hz9 => ?_) (fun _ _ hz9 => by cases hz9)
        cases hz9
        obtain ⟨x75, ex75, h⟩ := onm h
        refine v_iinc hC x75 [(4, .int x75), (0, va_rf r0), (1, .int x1), (2, .int x2), (3, .int x73)] 199 4 dX9_grows_199 rfl (by rw [ex75]; rfl) (by decide) rfl ?_
        refine v_goto hC 202 34 dX9_grows_202 (by decide) ?_
        refine v_sub [(0, va_rf r0), (1, .int x1), (2, .int x2), (3, .int x73), (4, .int x75)] [1, 2, 3, 4, 0] rfl ?_
        exact ih _ _ _ _ h K hR
      · refine v_sub [(0, va_rf r0), (1, .int x1), (2, .int x2), (3, .int x30), (4, .int x31), (5, .int (0 : Int32))] [1, 2, 3, 4, 5, 0] rfl ?_
        exact kX9_grows_43 hC _ _ _ _ _ E43 (fun _ _ hz9 => by cases hz9) (fun _ _ hz9 => by cases hz9; exact hR _ _ (sp1 h))
set_option maxHeartbeats 1000000 in
set_option maxRecDepth 20000 in
theorem tX9_grows {l : Launch} {w : VW} {N : Nat} {S : pH} {r0 : Option Nat} {x1 : Int32} {x2 : Int32} {v0 : Int32} {S0 : pH} (h : fX9_grows N S r0 x1 x2 = some (v0, S0)) : CT l w yX9_grows cX9_grows 10 (some .boolean) rmX9_grows [va_rf r0, .int x1, .int x2] S (some (.int v0)) S0 := by
  refine v_entry [(0, va_rf r0), (1, .int x1), (2, .int x2)] (by decide) (by simp [lg_sl, cat_rf, cat_i, cat_j]) (by simp [lv_args, cat_rf, cat_i, cat_j]) (fun g _ hC => ?_)
  unfold fX9_grows at h
  obtain ⟨hO, h⟩ := chk_spec h
  refine v_iconst hC (0 : Int32) 0 dX9_grows_0 (by decide) ?_
  refine v_istore_n hC [(3, .int (0 : Int32)), (0, va_rf r0), (1, .int x1), (2, .int x2)] 1 dX9_grows_1 (by decide) rfl ?_
  obtain ⟨S27, E2, h⟩ := obn h
  refine v_sub [(0, va_rf r0), (1, .int x1), (2, .int x2), (3, .int (0 : Int32))] [1, 2, 3, 0] rfl ?_
  refine kX9_grows_2 hC _ _ _ _ E2 (fun _ hz9 => ?_)
  cases hz9
  refine v_aload_n hC 22 0 dX9_grows_22 rfl ?_
  obtain ⟨r28, er28, h⟩ := obn h
  refine gRX9_78 hC rfl 23 er28 dX9_grows_23 ?_
  refine v_iconst hC (0 : Int32) 26 dX9_grows_26 (by decide) ?_
  refine v_iload_n hC 27 2 dX9_grows_27 rfl ?_
  obtain ⟨S29, eS29, h⟩ := obn h
  refine v_iast hC 28 eS29 dX9_grows_28 ?_
  refine v_iconst hC (1 : Int32) 29 dX9_grows_29 (by decide) ?_
  refine v_istore_n hC [(3, .int (1 : Int32)), (0, va_rf r0), (1, .int x1), (2, .int x2)] 30 dX9_grows_30 (by decide) rfl ?_
  refine v_iconst hC (0 : Int32) 31 dX9_grows_31 (by decide) ?_
  refine v_istore hC [(4, .int (0 : Int32)), (3, .int (1 : Int32)), (0, va_rf r0), (1, .int x1), (2, .int x2)] 32 dX9_grows_32 (by decide) rfl ?_
  rcases obS1 h with ⟨S77, E34, h⟩ | ⟨r9, E34, h⟩
  · refine v_sub [(0, va_rf r0), (1, .int x1), (2, .int x2), (3, .int (1 : Int32)), (4, .int (0 : Int32))] [2, 3, 4, 1, 0] rfl ?_
    refine kX9_grows_34 hC _ _ _ _ _ E34 (fun _ hz9 => ?_) (fun _ _ hz9 => by cases hz9)
    cases hz9
    refine v_iconst hC (0 : Int32) 205 dX9_grows_205 (by decide) ?_
    obtain ⟨rfl, rfl⟩ := sp2 h
    exact v_zret hC 206 (by decide) (by decide) (by decide) dX9_grows_206
  · refine v_sub [(0, va_rf r0), (1, .int x1), (2, .int x2), (3, .int (1 : Int32)), (4, .int (0 : Int32))] [2, 3, 4, 1, 0] rfl ?_
    exact kX9_grows_34 hC _ _ _ _ _ E34 (fun _ hz9 => by cases hz9) (fun _ _ hz9 => by cases hz9; cases h; exact ⟨rfl, rfl⟩)
set_option maxRecDepth 20000 in
theorem qX9_166 {g : VG} {w : VW} {nL : Nat} {Q : State → Prop} {S : pH} {kc ks : Nat} {lv : List (Nat × Value)} {rest : List Value} {y : MethodName} {cc : ByteArray} {rt : Option FieldType} {rm : Room} (hC : Cx g y cc nL rt rm w) (hy : y.cls = RX9) (pc : Nat) {N : Nat} {r0 : Option Nat} {x1 : Int32} {x2 : Int32} {v0 : Int32} {S0 : pH} (h : fX9_grows N S r0 x1 x2 = some (v0, S0)) (hR : rmX9_grows.frames + 1 ≤ rm.frames ∧ 8 + (10 + 11) + rmX9_grows.locals ≤ rm.locals) (hst : (rest.map fun v => v.category).sum ≤ 8) (hf : kc + 0 ≤ rm.cells ∧ ks + 0 ≤ rm.slots) (d : decode cc pc = .ok (.invokevirtual 166, 3)) (K : V g w nL Q S0 kc ks (pc + 3) lv (.int v0 :: rest)) : V g w nL Q S kc ks pc lv (.int x2 :: .int x1 :: va_rf r0 :: rest) := by
  obtain ⟨fs, ho⟩ := oX9_grows h
  exact v_callV (As := [.int x1, .int x2]) (rest := rest) (ci := 9) hC pc (tX9_grows (l := g.2.1) (w := w) h) rfl (by decide) ho wG619 (by rw [hy]; exact wG618) wG620 wG621 wG542 hdX9_grows rfl hR hst hf d K
abbrev rmX9_leastOut : Room := { frames := 3, cells := 0, slots := 0, locals := 78 }
theorem hdX9_leastOut : yX9_leastOut.cls ≠ "java/lang/invoke/MethodHandle" ∧ yX9_leastOut.cls ≠ "java/lang/invoke/VarHandle" ∧ (parseMethodDescriptor yX9_leastOut.desc).map (fun d => d.parameters.length) = some 1 := by decide +kernel
def lX9_leastOut_2 (N : Nat) (r0 : Option Nat) (x1 : Int32) : Nat → Int32 → pH → Option (pH)
  | 0, _, _ => none
  | n + 1, x21, S22 =>
    if (64 : Int32) ≤ x21 then
    (some S22)
    else
    (gfR S22 9 24 r0).bind fun r23 =>
    (stI S22 r23 x21 (-9 : Int32)).bind fun S24 =>
    nm (x21 + (1 : Int32)) fun x25 =>
    lX9_leastOut_2 N r0 x1 n x25 S24
def lX9_leastOut_39 (N : Nat) (r0 : Option Nat) (x1 : Int32) (x3 : Int32) : Nat → Int32 → Int32 → pH → Option (Int32 × pH)
  | 0, _, _, _ => none
  | n + 1, x33, x34, S35 =>
    (gfR S35 9 3 r0).bind fun r36 =>
    (ldI S35 0 r36 x1).bind fun x37 =>
    if x37 ≤ x34 then
    (some (x33, S35))
    else
    nm (fun (x38 : Int32) (S39 : pH) =>
    nm (x34 + (1 : Int32)) fun x40 =>
    lX9_leastOut_39 N r0 x1 x3 n x38 x40 S39) fun j77 =>
    if ¬ ((x34 + x3) - (x34 + x3) / (2 : Int32) * (2 : Int32)) = 0 then
    (j77 x33 S35)
    else
    b2 (fX9_grows N S35 r0 x1 (((8 : Int32) * x3) + x34)) fun x41 S42 =>
    if x41 = 0 then
    (j77 x33 S42)
    else
    nm (x33 + (1 : Int32)) fun x43 =>
    j77 x43 S42
def lX9_leastOut_26 (N : Nat) (r0 : Option Nat) (x1 : Int32) : Nat → Int32 → Int32 → pH → Option (Int32 × pH)
  | 0, _, _, _ => none
  | n + 1, x28, x29, S30 =>
    (gfR S30 9 3 r0).bind fun r31 =>
    (ldI S30 0 r31 x1).bind fun x32 =>
    if x32 ≤ x29 then
    (some (x28, S30))
    else
    b2 (lX9_leastOut_39 N r0 x1 x29 N x28 (0 : Int32) S30) fun x47 S48 =>
    nm (x29 + (1 : Int32)) fun x49 =>
    lX9_leastOut_26 N r0 x1 n x47 x49 S48
def fX9_leastOut (N : Nat) (S : pH) (r0 : Option Nat) (x1 : Int32) : Option (Int32 × pH) :=
  chk S 9 r0 <|
  (lX9_leastOut_2 N r0 x1 N (0 : Int32) S).bind fun S27 =>
  b2 (lX9_leastOut_26 N r0 x1 N (0 : Int32) (0 : Int32) S27) fun x51 S52 =>
  some (x51, S52)
theorem oX9_leastOut {N : Nat} {S : pH} {r0 : Option Nat} {x1 : Int32} {z : Int32 × pH} (h : fX9_leastOut N S r0 x1 = some z) : ∃ fs, obj S 9 r0 = some fs := by
  unfold fX9_leastOut at h
  exact (chk_spec h).1
set_option maxHeartbeats 1000000 in
set_option maxRecDepth 20000 in
theorem kX9_leastOut_2 {g : VG} {w : VW} {N : Nat} {r0 : Option Nat} {x1 : Int32} {v0 : Int32} {S0 : pH} (hC : Cx g yX9_leastOut cX9_leastOut 5 (some .int) rmX9_leastOut w) : ∀ (n : Nat) (x21 : Int32) (S22 : pH) (z : (pH)), lX9_leastOut_2 N r0 x1 n x21 S22 = some z → (∀ (e0 : pH), z = e0 → V g w 5 (Qm g w rmX9_leastOut.cells rmX9_leastOut.slots (some (.int v0)) S0) e0 0 0 22 [(0, va_rf r0), (1, .int x1)] []) → V g w 5 (Qm g w rmX9_leastOut.cells rmX9_leastOut.slots (some (.int v0)) S0) S22 0 0 2 [(0, va_rf r0), (1, .int x1), (2, .int x21)] [] := by
  intro n
  induction n with
  | zero => intro x21 S22 z h; rw [lX9_leastOut_2] at h; cases h
  | succ n ih =>
    intro x21 S22 z h K
    rw [lX9_leastOut_2] at h
    refine v_iload_n hC 2 2 dX9_leastOut_2 rfl ?_
    refine v_bipush hC (64 : Int32) 3 dX9_leastOut_3 (by decide) ?_
    refine v_icmp_ge hC 5 22 dX9_leastOut_5 (by decide) (fun c26 => ?_) (fun c26 => ?_)
    · replace h := ifp h c26
      refine v_sub [(0, va_rf r0), (1, .int x1)] [0, 1] rfl ?_
      exact K _ (sp1 h)
    · replace h := ifn h c26
      refine v_aload_n hC 8 0 dX9_leastOut_8 rfl ?_
      obtain ⟨r23, er23, h⟩ := obn h
      refine gRX9_72 hC rfl 9 er23 dX9_leastOut_9 ?_
      refine v_iload_n hC 12 2 dX9_leastOut_12 rfl ?_
      refine v_bipush hC (-9 : Int32) 13 dX9_leastOut_13 (by decide) ?_
      obtain ⟨S24, eS24, h⟩ := obn h
      refine v_iast hC 15 eS24 dX9_leastOut_15 ?_
      obtain ⟨x25, ex25, h⟩ := onm h
      refine v_iinc hC x25 [(2, .int x25), (0, va_rf r0), (1, .int x1)] 16 2 dX9_leastOut_16 rfl (by rw [ex25]; rfl) (by decide) rfl ?_
      refine v_goto hC 19 2 dX9_leastOut_19 (by decide) ?_
      refine v_sub [(0, va_rf r0), (1, .int x1), (2, .int x25)] [1, 2, 0] rfl ?_
      exact ih _ _ _ h K
set_option maxHeartbeats 1000000 in
set_option maxRecDepth 20000 in
theorem kX9_leastOut_39 {g : VG} {w : VW} {N : Nat} {r0 : Option Nat} {x1 : Int32} {x3 : Int32} {v0 : Int32} {S0 : pH} (hC : Cx g yX9_leastOut cX9_leastOut 5 (some .int) rmX9_leastOut w) : ∀ (n : Nat) (x33 : Int32) (x34 : Int32) (S35 : pH) (z : (Int32 × pH)), lX9_leastOut_39 N r0 x1 x3 n x33 x34 S35 = some z → (∀ (e0 : Int32) (e1 : pH), z = (e0, e1) → V g w 5 (Qm g w rmX9_leastOut.cells rmX9_leastOut.slots (some (.int v0)) S0) e1 0 0 83 [(0, va_rf r0), (1, .int x1), (2, .int e0), (3, .int x3)] []) → V g w 5 (Qm g w rmX9_leastOut.cells rmX9_leastOut.slots (some (.int v0)) S0) S35 0 0 39 [(0, va_rf r0), (1, .int x1), (2, .int x33), (3, .int x3), (4, .int x34)] [] := by
  intro n
  induction n with
  | zero => intro x33 x34 S35 z h; rw [lX9_leastOut_39] at h; cases h
  | succ n ih =>
    intro x33 x34 S35 z h K
    rw [lX9_leastOut_39] at h
    refine v_iload hC 39 4 dX9_leastOut_39 rfl ?_
    refine v_aload_n hC 41 0 dX9_leastOut_41 rfl ?_
    obtain ⟨r36, er36, h⟩ := obn h
    refine gRX9_16 hC rfl 42 er36 dX9_leastOut_42 ?_
    refine v_iload_n hC 45 1 dX9_leastOut_45 rfl ?_
    obtain ⟨x37, ex37, h⟩ := obn h
    refine v_iald hC 46 ex37 dX9_leastOut_46 ?_
    refine v_icmp_ge hC 47 83 dX9_leastOut_47 (by decide) (fun c46 => ?_) (fun c46 => ?_)
    · replace h := ifp h c46
      refine v_sub [(0, va_rf r0), (1, .int x1), (2, .int x33), (3, .int x3)] [0, 1, 2, 3] rfl ?_
      exact K _ _ (sp1 h)
    · replace h := ifn h c46
      refine v_iload hC 50 4 dX9_leastOut_50 rfl ?_
      refine v_iload_n hC 52 3 dX9_leastOut_52 rfl ?_
      refine v_iadd hC 53 dX9_leastOut_53 ?_
      refine v_iconst hC (2 : Int32) 54 dX9_leastOut_54 (by decide) ?_
      refine v_irem hC 55 (by decide) dX9_leastOut_55 ?_
      obtain ⟨j77, f77, h⟩ := onm h
      have J77 : ∀ (x38 : Int32) (S39 : pH), j77 x38 S39 = some z → V g w 5 (Qm g w rmX9_leastOut.cells rmX9_leastOut.slots (some (.int v0)) S0) S39 0 0 77 [(0, va_rf r0), (1, .int x1), (2, .int x38), (3, .int x3), (4, .int x34)] [] := by
        intro x38 S39 h
        replace h := jb2 f77 h
        obtain ⟨x40, ex40, h⟩ := onm h
        refine v_iinc hC x40 [(4, .int x40), (0, va_rf r0), (1, .int x1), (2, .int x38), (3, .int x3)] 77 4 dX9_leastOut_77 rfl (by rw [ex40]; rfl) (by decide) rfl ?_
        refine v_goto hC 80 39 dX9_leastOut_80 (by decide) ?_
        refine v_sub [(0, va_rf r0), (1, .int x1), (2, .int x38), (3, .int x3), (4, .int x40)] [1, 2, 3, 4, 0] rfl ?_
        exact ih _ _ _ _ h K
      refine v_if_ne hC 56 77 dX9_leastOut_56 (by decide) (fun c45 => ?_) (fun c45 => ?_)
      · replace h := ifp h c45
        refine v_sub [(0, va_rf r0), (1, .int x1), (2, .int x33), (3, .int x3), (4, .int x34)] [0, 1, 2, 3, 4] rfl ?_
        exact J77 _ _ h
      · replace h := ifn h (fun q => q c45)
        refine v_aload_n hC 59 0 dX9_leastOut_59 rfl ?_
        refine v_iload_n hC 60 1 dX9_leastOut_60 rfl ?_
        refine v_bipush hC (8 : Int32) 61 dX9_leastOut_61 (by decide) ?_
        refine v_iload_n hC 63 3 dX9_leastOut_63 rfl ?_
        refine v_imul hC 64 dX9_leastOut_64 ?_
        refine v_iload hC 65 4 dX9_leastOut_65 rfl ?_
        refine v_iadd hC 67 dX9_leastOut_67 ?_
        obtain ⟨x41, S42, ex41, h⟩ := ob2 h
        refine qX9_166 hC rfl 68 ex41 (by decide) (catL (Nat.le_of_ble_eq_true rfl)) (by decide) dX9_leastOut_68 ?_
        refine v_if_eq hC 71 77 dX9_leastOut_71 (by decide) (fun c44 => ?_) (fun c44 => ?_)
        · replace h := ifp h c44
          refine v_sub [(0, va_rf r0), (1, .int x1), (2, .int x33), (3, .int x3), (4, .int x34)] [0, 1, 2, 3, 4] rfl ?_
          exact J77 _ _ h
        · replace h := ifn h c44
          obtain ⟨x43, ex43, h⟩ := onm h
          refine v_iinc hC x43 [(2, .int x43), (0, va_rf r0), (1, .int x1), (3, .int x3), (4, .int x34)] 74 2 dX9_leastOut_74 rfl (by rw [ex43]; rfl) (by decide) rfl ?_
          refine v_sub [(0, va_rf r0), (1, .int x1), (2, .int x43), (3, .int x3), (4, .int x34)] [1, 2, 0, 3, 4] rfl ?_
          exact J77 _ _ h
set_option maxHeartbeats 1000000 in
set_option maxRecDepth 20000 in
theorem kX9_leastOut_26 {g : VG} {w : VW} {N : Nat} {r0 : Option Nat} {x1 : Int32} {v0 : Int32} {S0 : pH} (hC : Cx g yX9_leastOut cX9_leastOut 5 (some .int) rmX9_leastOut w) : ∀ (n : Nat) (x28 : Int32) (x29 : Int32) (S30 : pH) (z : (Int32 × pH)), lX9_leastOut_26 N r0 x1 n x28 x29 S30 = some z → (∀ (e0 : Int32) (e1 : pH), z = (e0, e1) → V g w 5 (Qm g w rmX9_leastOut.cells rmX9_leastOut.slots (some (.int v0)) S0) e1 0 0 89 [(2, .int e0)] []) → V g w 5 (Qm g w rmX9_leastOut.cells rmX9_leastOut.slots (some (.int v0)) S0) S30 0 0 26 [(0, va_rf r0), (1, .int x1), (2, .int x28), (3, .int x29)] [] := by
  intro n
  induction n with
  | zero => intro x28 x29 S30 z h; rw [lX9_leastOut_26] at h; cases h
  | succ n ih =>
    intro x28 x29 S30 z h K
    rw [lX9_leastOut_26] at h
    refine v_iload_n hC 26 3 dX9_leastOut_26 rfl ?_
    refine v_aload_n hC 27 0 dX9_leastOut_27 rfl ?_
    obtain ⟨r31, er31, h⟩ := obn h
    refine gRX9_16 hC rfl 28 er31 dX9_leastOut_28 ?_
    refine v_iload_n hC 31 1 dX9_leastOut_31 rfl ?_
    obtain ⟨x32, ex32, h⟩ := obn h
    refine v_iald hC 32 ex32 dX9_leastOut_32 ?_
    refine v_icmp_ge hC 33 89 dX9_leastOut_33 (by decide) (fun c50 => ?_) (fun c50 => ?_)
    · replace h := ifp h c50
      refine v_sub [(2, .int x28)] [2] rfl ?_
      exact K _ _ (sp1 h)
    · replace h := ifn h c50
      refine v_iconst hC (0 : Int32) 36 dX9_leastOut_36 (by decide) ?_
      refine v_istore hC [(4, .int (0 : Int32)), (0, va_rf r0), (1, .int x1), (2, .int x28), (3, .int x29)] 37 dX9_leastOut_37 (by decide) rfl ?_
      obtain ⟨x47, S48, E39, h⟩ := ob2 h
      refine v_sub [(0, va_rf r0), (1, .int x1), (2, .int x28), (3, .int x29), (4, .int (0 : Int32))] [1, 2, 3, 4, 0] rfl ?_
      refine kX9_leastOut_39 hC _ _ _ _ _ E39 (fun _ _ hz9 => ?_)
      cases hz9
      obtain ⟨x49, ex49, h⟩ := onm h
      refine v_iinc hC x49 [(3, .int x49), (0, va_rf r0), (1, .int x1), (2, .int x47)] 83 3 dX9_leastOut_83 rfl (by rw [ex49]; rfl) (by decide) rfl ?_
      refine v_goto hC 86 26 dX9_leastOut_86 (by decide) ?_
      refine v_sub [(0, va_rf r0), (1, .int x1), (2, .int x47), (3, .int x49)] [1, 2, 3, 0] rfl ?_
      exact ih _ _ _ _ h K
set_option maxHeartbeats 1000000 in
set_option maxRecDepth 20000 in
theorem tX9_leastOut {l : Launch} {w : VW} {N : Nat} {S : pH} {r0 : Option Nat} {x1 : Int32} {v0 : Int32} {S0 : pH} (h : fX9_leastOut N S r0 x1 = some (v0, S0)) : CT l w yX9_leastOut cX9_leastOut 5 (some .int) rmX9_leastOut [va_rf r0, .int x1] S (some (.int v0)) S0 := by
  refine v_entry [(0, va_rf r0), (1, .int x1)] (by decide) (by simp [lg_sl, cat_rf, cat_i, cat_j]) (by simp [lv_args, cat_rf, cat_i, cat_j]) (fun g _ hC => ?_)
  unfold fX9_leastOut at h
  obtain ⟨hO, h⟩ := chk_spec h
  refine v_iconst hC (0 : Int32) 0 dX9_leastOut_0 (by decide) ?_
  refine v_istore_n hC [(2, .int (0 : Int32)), (0, va_rf r0), (1, .int x1)] 1 dX9_leastOut_1 (by decide) rfl ?_
  obtain ⟨S27, E2, h⟩ := obn h
  refine v_sub [(0, va_rf r0), (1, .int x1), (2, .int (0 : Int32))] [1, 2, 0] rfl ?_
  refine kX9_leastOut_2 hC _ _ _ _ E2 (fun _ hz9 => ?_)
  cases hz9
  refine v_iconst hC (0 : Int32) 22 dX9_leastOut_22 (by decide) ?_
  refine v_istore_n hC [(2, .int (0 : Int32)), (0, va_rf r0), (1, .int x1)] 23 dX9_leastOut_23 (by decide) rfl ?_
  refine v_iconst hC (0 : Int32) 24 dX9_leastOut_24 (by decide) ?_
  refine v_istore_n hC [(3, .int (0 : Int32)), (2, .int (0 : Int32)), (0, va_rf r0), (1, .int x1)] 25 dX9_leastOut_25 (by decide) rfl ?_
  obtain ⟨x51, S52, E26, h⟩ := ob2 h
  refine v_sub [(0, va_rf r0), (1, .int x1), (2, .int (0 : Int32)), (3, .int (0 : Int32))] [2, 3, 1, 0] rfl ?_
  refine kX9_leastOut_26 hC _ _ _ _ _ E26 (fun _ _ hz9 => ?_)
  cases hz9
  refine v_iload_n hC 89 0 dX9_leastOut_89 rfl ?_
  obtain ⟨rfl, rfl⟩ := sp2 h
  exact v_iret hC 90 (by decide) (by decide) dX9_leastOut_90
set_option maxRecDepth 20000 in
theorem qX9_172 {g : VG} {w : VW} {nL : Nat} {Q : State → Prop} {S : pH} {kc ks : Nat} {lv : List (Nat × Value)} {rest : List Value} {y : MethodName} {cc : ByteArray} {rt : Option FieldType} {rm : Room} (hC : Cx g y cc nL rt rm w) (hy : y.cls = RX9) (pc : Nat) {N : Nat} {r0 : Option Nat} {x1 : Int32} {v0 : Int32} {S0 : pH} (h : fX9_leastOut N S r0 x1 = some (v0, S0)) (hR : rmX9_leastOut.frames + 1 ≤ rm.frames ∧ 8 + (5 + 11) + rmX9_leastOut.locals ≤ rm.locals) (hst : (rest.map fun v => v.category).sum ≤ 8) (hf : kc + 0 ≤ rm.cells ∧ ks + 0 ≤ rm.slots) (d : decode cc pc = .ok (.invokevirtual 172, 3)) (K : V g w nL Q S0 kc ks (pc + 3) lv (.int v0 :: rest)) : V g w nL Q S kc ks pc lv (.int x1 :: va_rf r0 :: rest) := by
  obtain ⟨fs, ho⟩ := oX9_leastOut h
  exact v_callV (As := [.int x1]) (rest := rest) (ci := 9) hC pc (tX9_leastOut (l := g.2.1) (w := w) h) rfl (by decide) ho wG623 (by rw [hy]; exact wG622) wG624 wG625 wG542 hdX9_leastOut rfl hR hst hf d K
set_option maxRecDepth 20000 in
theorem qX9_169 {g : VG} {w : VW} {nL : Nat} {Q : State → Prop} {S : pH} {kc ks : Nat} {lv : List (Nat × Value)} {rest : List Value} {y : MethodName} {cc : ByteArray} {rt : Option FieldType} {rm : Room} (hC : Cx g y cc nL rt rm w) (hy : y.cls = RX9) (pc : Nat) {N : Nat} {r0 : Option Nat} {x1 : Int32} {v0 : Int32} (h : fX9_cracksOf N S r0 x1 = some v0) (hR : rmX9_cracksOf.frames + 1 ≤ rm.frames ∧ 8 + (5 + 11) + rmX9_cracksOf.locals ≤ rm.locals) (hst : (rest.map fun v => v.category).sum ≤ 8) (hf : kc + 0 ≤ rm.cells ∧ ks + 0 ≤ rm.slots) (d : decode cc pc = .ok (.invokevirtual 169, 3)) (K : V g w nL Q S kc ks (pc + 3) lv (.int v0 :: rest)) : V g w nL Q S kc ks pc lv (.int x1 :: va_rf r0 :: rest) := by
  obtain ⟨fs, ho⟩ := oX9_cracksOf h
  exact v_callV (As := [.int x1]) (rest := rest) (ci := 9) hC pc (tX9_cracksOf (l := g.2.1) (w := w) h) rfl (by decide) ho wG627 (by rw [hy]; exact wG626) wG628 wG629 wG542 hdX9_cracksOf rfl hR hst hf d K
abbrev rmX9_cracks : Room := { frames := 4, cells := 0, slots := 0, locals := 102 }
theorem hdX9_cracks : yX9_cracks.cls ≠ "java/lang/invoke/MethodHandle" ∧ yX9_cracks.cls ≠ "java/lang/invoke/VarHandle" ∧ (parseMethodDescriptor yX9_cracks.desc).map (fun d => d.parameters.length) = some 2 := by decide +kernel
def fX9_cracks (N : Nat) (S : pH) (r0 : Option Nat) (x1 : Int32) (x2 : Int32) : Option (Int32 × pH) :=
  chk S 9 r0 <|
  (fX9_isCane N S r0 x1).bind fun x21 =>
  nm (fun (_ : Unit) =>
  some ((-1 : Int32), S)) fun j17 =>
  if x21 = 0 then
  (j17 ())
  else
  (fX9_in N S x2 (0 : Int32) (1 : Int32)).bind fun x22 =>
  if ¬ x22 = 0 then
  (if ¬ x2 = 0 then
  (b2 (fX9_leastOut N S r0 x1) fun x23 S24 =>
  some (x23, S24))
  else
  (fX9_cracksOf N S r0 x1).bind fun x25 =>
  some (x25, S))
  else
  j17 ()
theorem oX9_cracks {N : Nat} {S : pH} {r0 : Option Nat} {x1 : Int32} {x2 : Int32} {z : Int32 × pH} (h : fX9_cracks N S r0 x1 x2 = some z) : ∃ fs, obj S 9 r0 = some fs := by
  unfold fX9_cracks at h
  exact (chk_spec h).1
set_option maxHeartbeats 1000000 in
set_option maxRecDepth 20000 in
theorem tX9_cracks {l : Launch} {w : VW} {N : Nat} {S : pH} {r0 : Option Nat} {x1 : Int32} {x2 : Int32} {v0 : Int32} {S0 : pH} (h : fX9_cracks N S r0 x1 x2 = some (v0, S0)) : CT l w yX9_cracks cX9_cracks 3 (some .int) rmX9_cracks [va_rf r0, .int x1, .int x2] S (some (.int v0)) S0 := by
  refine v_entry [(0, va_rf r0), (1, .int x1), (2, .int x2)] (by decide) (by simp [lg_sl, cat_rf, cat_i, cat_j]) (by simp [lv_args, cat_rf, cat_i, cat_j]) (fun g _ hC => ?_)
  unfold fX9_cracks at h
  obtain ⟨hO, h⟩ := chk_spec h
  refine v_aload_n hC 0 0 dX9_cracks_0 rfl ?_
  refine v_iload_n hC 1 1 dX9_cracks_1 rfl ?_
  obtain ⟨x21, ex21, h⟩ := obn h
  refine qX9_104 hC rfl 2 ex21 (by decide) (catL (Nat.le_of_ble_eq_true rfl)) (by decide) dX9_cracks_2 ?_
  obtain ⟨j17, f17, h⟩ := onm h
  have J17 : ∀ (u9 : Unit), j17 u9 = some (v0, S0) → V g w 3 (Qm g w rmX9_cracks.cells rmX9_cracks.slots (some (.int v0)) S0) S 0 0 17 [] [] := by
    intro u9 h
    replace h := jb1 f17 h
    refine v_iconst hC (-1 : Int32) 17 dX9_cracks_17 (by decide) ?_
    refine v_goto hC 18 38 dX9_cracks_18 (by decide) ?_
    obtain ⟨rfl, rfl⟩ := sp2 h
    exact v_iret hC 38 (by decide) (by decide) dX9_cracks_38
  refine v_if_eq hC 5 17 dX9_cracks_5 (by decide) (fun c28 => ?_) (fun c28 => ?_)
  · replace h := ifp h c28
    refine v_sub [] [] rfl ?_
    exact J17 _ h
  · replace h := ifn h c28
    refine v_iload_n hC 8 2 dX9_cracks_8 rfl ?_
    refine v_iconst hC (0 : Int32) 9 dX9_cracks_9 (by decide) ?_
    refine v_iconst hC (1 : Int32) 10 dX9_cracks_10 (by decide) ?_
    obtain ⟨x22, ex22, h⟩ := obn h
    refine qX9_97 hC rfl 11 ex22 (by decide) (catL (Nat.le_of_ble_eq_true rfl)) (by decide) dX9_cracks_11 ?_
    refine v_if_ne hC 14 21 dX9_cracks_14 (by decide) (fun c27 => ?_) (fun c27 => ?_)
    · replace h := ifp h c27
      refine v_iload_n hC 21 2 dX9_cracks_21 rfl ?_
      refine v_if_ne hC 22 33 dX9_cracks_22 (by decide) (fun c26 => ?_) (fun c26 => ?_)
      · replace h := ifp h c26
        refine v_aload_n hC 33 0 dX9_cracks_33 rfl ?_
        refine v_iload_n hC 34 1 dX9_cracks_34 rfl ?_
        obtain ⟨x23, S24, ex23, h⟩ := ob2 h
        refine qX9_172 hC rfl 35 ex23 (by decide) (catL (Nat.le_of_ble_eq_true rfl)) (by decide) dX9_cracks_35 ?_
        obtain ⟨rfl, rfl⟩ := sp2 h
        exact v_iret hC 38 (by decide) (by decide) dX9_cracks_38
      · replace h := ifn h (fun q => q c26)
        refine v_aload_n hC 25 0 dX9_cracks_25 rfl ?_
        refine v_iload_n hC 26 1 dX9_cracks_26 rfl ?_
        obtain ⟨x25, ex25, h⟩ := obn h
        refine qX9_169 hC rfl 27 ex25 (by decide) (catL (Nat.le_of_ble_eq_true rfl)) (by decide) dX9_cracks_27 ?_
        refine v_goto hC 30 38 dX9_cracks_30 (by decide) ?_
        obtain ⟨rfl, rfl⟩ := sp2 h
        exact v_iret hC 38 (by decide) (by decide) dX9_cracks_38
    · replace h := ifn h (fun q => q c27)
      refine v_sub [] [] rfl ?_
      exact J17 _ h
abbrev rmX9_cut : Room := { frames := 2, cells := 0, slots := 0, locals := 43 }
theorem hdX9_cut : yX9_cut.cls ≠ "java/lang/invoke/MethodHandle" ∧ yX9_cut.cls ≠ "java/lang/invoke/VarHandle" ∧ (parseMethodDescriptor yX9_cut.desc).map (fun d => d.parameters.length) = some 2 := by decide +kernel
def lX9_cut_71 (N : Nat) (r0 : Option Nat) (x1 : Int32) (x2 : Int32) (x3 : Int32) (x4 : Int32) : Nat → Int32 → pH → Option (pH)
  | 0, _, _ => none
  | n + 1, x36, S37 =>
    (gfR S37 9 3 r0).bind fun r38 =>
    (ldI S37 0 r38 x1).bind fun x39 =>
    if x39 ≤ x36 then
    (some S37)
    else
    (gfI S37 9 2 r0).bind fun x40 =>
    (fX9_at N S37 r0 x1 x4 x36).bind fun x41 =>
    (fX9_put N S37 r0 x40 x4 x36 x41).bind fun S42 =>
    nm (x36 + (1 : Int32)) fun x43 =>
    lX9_cut_71 N r0 x1 x2 x3 x4 n x43 S42
def lX9_cut_57 (N : Nat) (r0 : Option Nat) (x1 : Int32) (x2 : Int32) (x3 : Int32) : Nat → Int32 → pH → Option (pH)
  | 0, _, _ => none
  | n + 1, x32, S33 =>
    (gfR S33 9 3 r0).bind fun r34 =>
    (ldI S33 0 r34 x1).bind fun x35 =>
    if x35 ≤ x32 then
    (some S33)
    else
    (lX9_cut_71 N r0 x1 x2 x3 x32 N (0 : Int32) S33).bind fun S45 =>
    nm (x32 + (1 : Int32)) fun x46 =>
    lX9_cut_57 N r0 x1 x2 x3 n x46 S45
def fX9_cut (N : Nat) (S : pH) (r0 : Option Nat) (x1 : Int32) (x2 : Int32) : Option (Int32 × pH) :=
  chk S 9 r0 <|
  (fX9_isCane N S r0 x1).bind fun x21 =>
  if x21 = 0 then
  (some ((-1 : Int32), S))
  else
  (gfR S 9 4 r0).bind fun r22 =>
  (ldI S 0 r22 x1).bind fun x23 =>
  (fX9_in N S x2 (1 : Int32) (x23 - (1 : Int32))).bind fun x24 =>
  if ¬ x24 = 0 then
  ((gfI S 9 2 r0).bind fun x25 =>
  if ¬ x25 = (16 : Int32) then
  ((gfR S 9 6 r0).bind fun r26 =>
  (ldI S 0 r26 x1).bind fun x27 =>
  (gfR S 9 4 r0).bind fun r28 =>
  (ldI S 0 r28 x1).bind fun x29 =>
  if x29 = 0 then none else
  nm ((x27 * x2) / x29) fun x31 =>
  (lX9_cut_57 N r0 x1 x2 x31 N (0 : Int32) S).bind fun S48 =>
  (gfR S48 9 4 r0).bind fun r49 =>
  (ldI S48 0 r49 x1).bind fun x50 =>
  (stI S48 r49 x1 (x50 - x2)).bind fun S51 =>
  (gfR S51 9 6 r0).bind fun r52 =>
  (ldI S51 0 r52 x1).bind fun x53 =>
  (stI S51 r52 x1 (x53 - x31)).bind fun S54 =>
  (gfR S54 9 3 r0).bind fun r55 =>
  (ldI S54 0 r55 x1).bind fun x56 =>
  (gfR S54 9 5 r0).bind fun r57 =>
  (ldI S54 0 r57 x1).bind fun x58 =>
  b2 (fX9_newCane N S54 r0 x56 x2 x58 x31) fun x59 S60 =>
  some (x59, S60))
  else
  some ((-3 : Int32), S))
  else
  some ((-1 : Int32), S)
theorem oX9_cut {N : Nat} {S : pH} {r0 : Option Nat} {x1 : Int32} {x2 : Int32} {z : Int32 × pH} (h : fX9_cut N S r0 x1 x2 = some z) : ∃ fs, obj S 9 r0 = some fs := by
  unfold fX9_cut at h
  exact (chk_spec h).1
set_option maxHeartbeats 1000000 in
set_option maxRecDepth 20000 in
theorem kX9_cut_71 {g : VG} {w : VW} {N : Nat} {r0 : Option Nat} {x1 : Int32} {x2 : Int32} {x3 : Int32} {x4 : Int32} {v0 : Int32} {S0 : pH} (hC : Cx g yX9_cut cX9_cut 6 (some .int) rmX9_cut w) : ∀ (n : Nat) (x36 : Int32) (S37 : pH) (z : (pH)), lX9_cut_71 N r0 x1 x2 x3 x4 n x36 S37 = some z → (∀ (e0 : pH), z = e0 → V g w 6 (Qm g w rmX9_cut.cells rmX9_cut.slots (some (.int v0)) S0) e0 0 0 109 [(0, va_rf r0), (1, .int x1), (2, .int x2), (3, .int x3), (4, .int x4)] []) → V g w 6 (Qm g w rmX9_cut.cells rmX9_cut.slots (some (.int v0)) S0) S37 0 0 71 [(0, va_rf r0), (1, .int x1), (2, .int x2), (3, .int x3), (4, .int x4), (5, .int x36)] [] := by
  intro n
  induction n with
  | zero => intro x36 S37 z h; rw [lX9_cut_71] at h; cases h
  | succ n ih =>
    intro x36 S37 z h K
    rw [lX9_cut_71] at h
    refine v_iload hC 71 5 dX9_cut_71 rfl ?_
    refine v_aload_n hC 73 0 dX9_cut_73 rfl ?_
    obtain ⟨r38, er38, h⟩ := obn h
    refine gRX9_16 hC rfl 74 er38 dX9_cut_74 ?_
    refine v_iload_n hC 77 1 dX9_cut_77 rfl ?_
    obtain ⟨x39, ex39, h⟩ := obn h
    refine v_iald hC 78 ex39 dX9_cut_78 ?_
    refine v_icmp_ge hC 79 109 dX9_cut_79 (by decide) (fun c44 => ?_) (fun c44 => ?_)
    · replace h := ifp h c44
      refine v_sub [(0, va_rf r0), (1, .int x1), (2, .int x2), (3, .int x3), (4, .int x4)] [0, 1, 2, 3, 4] rfl ?_
      exact K _ (sp1 h)
    · replace h := ifn h c44
      refine v_aload_n hC 82 0 dX9_cut_82 rfl ?_
      refine v_aload_n hC 83 0 dX9_cut_83 rfl ?_
      obtain ⟨x40, ex40, h⟩ := obn h
      refine gRX9_101 hC rfl 84 ex40 dX9_cut_84 ?_
      refine v_iload hC 87 4 dX9_cut_87 rfl ?_
      refine v_iload hC 89 5 dX9_cut_89 rfl ?_
      refine v_aload_n hC 91 0 dX9_cut_91 rfl ?_
      refine v_iload_n hC 92 1 dX9_cut_92 rfl ?_
      refine v_iload hC 93 4 dX9_cut_93 rfl ?_
      refine v_iload hC 95 5 dX9_cut_95 rfl ?_
      obtain ⟨x41, ex41, h⟩ := obn h
      refine qX9_121 hC rfl 97 ex41 (by decide) (catL (Nat.le_of_ble_eq_true rfl)) (by decide) dX9_cut_97 ?_
      obtain ⟨S42, eS42, h⟩ := obn h
      refine qX9_111 hC rfl 100 eS42 (by decide) (catL (Nat.le_of_ble_eq_true rfl)) (by decide) dX9_cut_100 ?_
      obtain ⟨x43, ex43, h⟩ := onm h
      refine v_iinc hC x43 [(5, .int x43), (0, va_rf r0), (1, .int x1), (2, .int x2), (3, .int x3), (4, .int x4)] 103 5 dX9_cut_103 rfl (by rw [ex43]; rfl) (by decide) rfl ?_
      refine v_goto hC 106 71 dX9_cut_106 (by decide) ?_
      refine v_sub [(0, va_rf r0), (1, .int x1), (2, .int x2), (3, .int x3), (4, .int x4), (5, .int x43)] [1, 2, 3, 4, 5, 0] rfl ?_
      exact ih _ _ _ h K
set_option maxHeartbeats 1000000 in
set_option maxRecDepth 20000 in
theorem kX9_cut_57 {g : VG} {w : VW} {N : Nat} {r0 : Option Nat} {x1 : Int32} {x2 : Int32} {x3 : Int32} {v0 : Int32} {S0 : pH} (hC : Cx g yX9_cut cX9_cut 6 (some .int) rmX9_cut w) : ∀ (n : Nat) (x32 : Int32) (S33 : pH) (z : (pH)), lX9_cut_57 N r0 x1 x2 x3 n x32 S33 = some z → (∀ (e0 : pH), z = e0 → V g w 6 (Qm g w rmX9_cut.cells rmX9_cut.slots (some (.int v0)) S0) e0 0 0 115 [(0, va_rf r0), (1, .int x1), (2, .int x2), (3, .int x3)] []) → V g w 6 (Qm g w rmX9_cut.cells rmX9_cut.slots (some (.int v0)) S0) S33 0 0 57 [(0, va_rf r0), (1, .int x1), (2, .int x2), (3, .int x3), (4, .int x32)] [] := by
  intro n
  induction n with
  | zero => intro x32 S33 z h; rw [lX9_cut_57] at h; cases h
  | succ n ih =>
    intro x32 S33 z h K
    rw [lX9_cut_57] at h
    refine v_iload hC 57 4 dX9_cut_57 rfl ?_
    refine v_aload_n hC 59 0 dX9_cut_59 rfl ?_
    obtain ⟨r34, er34, h⟩ := obn h
    refine gRX9_16 hC rfl 60 er34 dX9_cut_60 ?_
    refine v_iload_n hC 63 1 dX9_cut_63 rfl ?_
    obtain ⟨x35, ex35, h⟩ := obn h
    refine v_iald hC 64 ex35 dX9_cut_64 ?_
    refine v_icmp_ge hC 65 115 dX9_cut_65 (by decide) (fun c47 => ?_) (fun c47 => ?_)
    · replace h := ifp h c47
      refine v_sub [(0, va_rf r0), (1, .int x1), (2, .int x2), (3, .int x3)] [0, 1, 2, 3] rfl ?_
      exact K _ (sp1 h)
    · replace h := ifn h c47
      refine v_iconst hC (0 : Int32) 68 dX9_cut_68 (by decide) ?_
      refine v_istore hC [(5, .int (0 : Int32)), (0, va_rf r0), (1, .int x1), (2, .int x2), (3, .int x3), (4, .int x32)] 69 dX9_cut_69 (by decide) rfl ?_
      obtain ⟨S45, E71, h⟩ := obn h
      refine v_sub [(0, va_rf r0), (1, .int x1), (2, .int x2), (3, .int x3), (4, .int x32), (5, .int (0 : Int32))] [1, 2, 3, 4, 5, 0] rfl ?_
      refine kX9_cut_71 hC _ _ _ _ E71 (fun _ hz9 => ?_)
      cases hz9
      obtain ⟨x46, ex46, h⟩ := onm h
      refine v_iinc hC x46 [(4, .int x46), (0, va_rf r0), (1, .int x1), (2, .int x2), (3, .int x3)] 109 4 dX9_cut_109 rfl (by rw [ex46]; rfl) (by decide) rfl ?_
      refine v_goto hC 112 57 dX9_cut_112 (by decide) ?_
      refine v_sub [(0, va_rf r0), (1, .int x1), (2, .int x2), (3, .int x3), (4, .int x46)] [1, 2, 3, 4, 0] rfl ?_
      exact ih _ _ _ h K
set_option maxHeartbeats 1000000 in
set_option maxRecDepth 20000 in
theorem tX9_cut {l : Launch} {w : VW} {N : Nat} {S : pH} {r0 : Option Nat} {x1 : Int32} {x2 : Int32} {v0 : Int32} {S0 : pH} (h : fX9_cut N S r0 x1 x2 = some (v0, S0)) : CT l w yX9_cut cX9_cut 6 (some .int) rmX9_cut [va_rf r0, .int x1, .int x2] S (some (.int v0)) S0 := by
  refine v_entry [(0, va_rf r0), (1, .int x1), (2, .int x2)] (by decide) (by simp [lg_sl, cat_rf, cat_i, cat_j]) (by simp [lv_args, cat_rf, cat_i, cat_j]) (fun g _ hC => ?_)
  unfold fX9_cut at h
  obtain ⟨hO, h⟩ := chk_spec h
  refine v_aload_n hC 0 0 dX9_cut_0 rfl ?_
  refine v_iload_n hC 1 1 dX9_cut_1 rfl ?_
  obtain ⟨x21, ex21, h⟩ := obn h
  refine qX9_104 hC rfl 2 ex21 (by decide) (catL (Nat.le_of_ble_eq_true rfl)) (by decide) dX9_cut_2 ?_
  refine v_if_eq hC 5 24 dX9_cut_5 (by decide) (fun c63 => ?_) (fun c63 => ?_)
  · replace h := ifp h c63
    refine v_iconst hC (-1 : Int32) 24 dX9_cut_24 (by decide) ?_
    obtain ⟨rfl, rfl⟩ := sp2 h
    exact v_iret hC 25 (by decide) (by decide) dX9_cut_25
  · replace h := ifn h c63
    refine v_iload_n hC 8 2 dX9_cut_8 rfl ?_
    refine v_iconst hC (1 : Int32) 9 dX9_cut_9 (by decide) ?_
    refine v_aload_n hC 10 0 dX9_cut_10 rfl ?_
    obtain ⟨r22, er22, h⟩ := obn h
    refine gRX9_19 hC rfl 11 er22 dX9_cut_11 ?_
    refine v_iload_n hC 14 1 dX9_cut_14 rfl ?_
    obtain ⟨x23, ex23, h⟩ := obn h
    refine v_iald hC 15 ex23 dX9_cut_15 ?_
    refine v_iconst hC (1 : Int32) 16 dX9_cut_16 (by decide) ?_
    refine v_isub hC 17 dX9_cut_17 ?_
    obtain ⟨x24, ex24, h⟩ := obn h
    refine qX9_97 hC rfl 18 ex24 (by decide) (catL (Nat.le_of_ble_eq_true rfl)) (by decide) dX9_cut_18 ?_
    refine v_if_ne hC 21 26 dX9_cut_21 (by decide) (fun c62 => ?_) (fun c62 => ?_)
    · replace h := ifp h c62
      refine v_aload_n hC 26 0 dX9_cut_26 rfl ?_
      obtain ⟨x25, ex25, h⟩ := obn h
      refine gRX9_101 hC rfl 27 ex25 dX9_cut_27 ?_
      refine v_bipush hC (16 : Int32) 30 dX9_cut_30 (by decide) ?_
      refine v_icmp_ne hC 32 38 dX9_cut_32 (by decide) (fun c61 => ?_) (fun c61 => ?_)
      · replace h := ifp h c61
        refine v_aload_n hC 38 0 dX9_cut_38 rfl ?_
        obtain ⟨r26, er26, h⟩ := obn h
        refine gRX9_25 hC rfl 39 er26 dX9_cut_39 ?_
        refine v_iload_n hC 42 1 dX9_cut_42 rfl ?_
        obtain ⟨x27, ex27, h⟩ := obn h
        refine v_iald hC 43 ex27 dX9_cut_43 ?_
        refine v_iload_n hC 44 2 dX9_cut_44 rfl ?_
        refine v_imul hC 45 dX9_cut_45 ?_
        refine v_aload_n hC 46 0 dX9_cut_46 rfl ?_
        obtain ⟨r28, er28, h⟩ := obn h
        refine gRX9_19 hC rfl 47 er28 dX9_cut_47 ?_
        refine v_iload_n hC 50 1 dX9_cut_50 rfl ?_
        obtain ⟨x29, ex29, h⟩ := obn h
        refine v_iald hC 51 ex29 dX9_cut_51 ?_
        have c30 : ¬ x29 = 0 := fun q => absurd (ifp h q) (by simp)
        replace h := ifn h c30
        refine v_idiv hC 52 c30 dX9_cut_52 ?_
        obtain ⟨x31, ex31, h⟩ := onm h
        refine v_topi x31 ex31 ?_
        refine v_istore_n hC [(3, .int x31), (0, va_rf r0), (1, .int x1), (2, .int x2)] 53 dX9_cut_53 (by decide) rfl ?_
        refine v_iconst hC (0 : Int32) 54 dX9_cut_54 (by decide) ?_
        refine v_istore hC [(4, .int (0 : Int32)), (3, .int x31), (0, va_rf r0), (1, .int x1), (2, .int x2)] 55 dX9_cut_55 (by decide) rfl ?_
        obtain ⟨S48, E57, h⟩ := obn h
        refine v_sub [(0, va_rf r0), (1, .int x1), (2, .int x2), (3, .int x31), (4, .int (0 : Int32))] [2, 3, 4, 1, 0] rfl ?_
        refine kX9_cut_57 hC _ _ _ _ E57 (fun _ hz9 => ?_)
        cases hz9
        refine v_aload_n hC 115 0 dX9_cut_115 rfl ?_
        obtain ⟨r49, er49, h⟩ := obn h
        refine gRX9_19 hC rfl 116 er49 dX9_cut_116 ?_
        refine v_iload_n hC 119 1 dX9_cut_119 rfl ?_
        refine v_dup2 hC 120 rfl (cat_rf _) dX9_cut_120 ?_
        obtain ⟨x50, ex50, h⟩ := obn h
        refine v_iald hC 121 ex50 dX9_cut_121 ?_
        refine v_iload_n hC 122 2 dX9_cut_122 rfl ?_
        refine v_isub hC 123 dX9_cut_123 ?_
        obtain ⟨S51, eS51, h⟩ := obn h
        refine v_iast hC 124 eS51 dX9_cut_124 ?_
        refine v_aload_n hC 125 0 dX9_cut_125 rfl ?_
        obtain ⟨r52, er52, h⟩ := obn h
        refine gRX9_25 hC rfl 126 er52 dX9_cut_126 ?_
        refine v_iload_n hC 129 1 dX9_cut_129 rfl ?_
        refine v_dup2 hC 130 rfl (cat_rf _) dX9_cut_130 ?_
        obtain ⟨x53, ex53, h⟩ := obn h
        refine v_iald hC 131 ex53 dX9_cut_131 ?_
        refine v_iload_n hC 132 3 dX9_cut_132 rfl ?_
        refine v_isub hC 133 dX9_cut_133 ?_
        obtain ⟨S54, eS54, h⟩ := obn h
        refine v_iast hC 134 eS54 dX9_cut_134 ?_
        refine v_aload_n hC 135 0 dX9_cut_135 rfl ?_
        refine v_aload_n hC 136 0 dX9_cut_136 rfl ?_
        obtain ⟨r55, er55, h⟩ := obn h
        refine gRX9_16 hC rfl 137 er55 dX9_cut_137 ?_
        refine v_iload_n hC 140 1 dX9_cut_140 rfl ?_
        obtain ⟨x56, ex56, h⟩ := obn h
        refine v_iald hC 141 ex56 dX9_cut_141 ?_
        refine v_iload_n hC 142 2 dX9_cut_142 rfl ?_
        refine v_aload_n hC 143 0 dX9_cut_143 rfl ?_
        obtain ⟨r57, er57, h⟩ := obn h
        refine gRX9_22 hC rfl 144 er57 dX9_cut_144 ?_
        refine v_iload_n hC 147 1 dX9_cut_147 rfl ?_
        obtain ⟨x58, ex58, h⟩ := obn h
        refine v_iald hC 148 ex58 dX9_cut_148 ?_
        refine v_iload_n hC 149 3 dX9_cut_149 rfl ?_
        obtain ⟨x59, S60, ex59, h⟩ := ob2 h
        refine qX9_117 hC rfl 150 ex59 (by decide) (catL (Nat.le_of_ble_eq_true rfl)) (by decide) dX9_cut_150 ?_
        obtain ⟨rfl, rfl⟩ := sp2 h
        exact v_iret hC 153 (by decide) (by decide) dX9_cut_153
      · replace h := ifn h (fun q => q c61)
        refine v_bipush hC (-3 : Int32) 35 dX9_cut_35 (by decide) ?_
        obtain ⟨rfl, rfl⟩ := sp2 h
        exact v_iret hC 37 (by decide) (by decide) dX9_cut_37
    · replace h := ifn h (fun q => q c62)
      refine v_iconst hC (-1 : Int32) 24 dX9_cut_24 (by decide) ?_
      obtain ⟨rfl, rfl⟩ := sp2 h
      exact v_iret hC 25 (by decide) (by decide) dX9_cut_25
abbrev rmX9_drips : Room := { frames := 1, cells := 0, slots := 0, locals := 23 }
theorem hdX9_drips : yX9_drips.cls ≠ "java/lang/invoke/MethodHandle" ∧ yX9_drips.cls ≠ "java/lang/invoke/VarHandle" ∧ (parseMethodDescriptor yX9_drips.desc).map (fun d => d.parameters.length) = some 2 := by decide +kernel
def lX9_drips_15 (N : Nat) (r0 : Option Nat) (x1 : Int32) (x2 : Int32) (x3 : Int32) : Nat → Int32 → pH → Option (pH)
  | 0, _, _ => none
  | n + 1, x25, S26 =>
    (gfR S26 9 3 r0).bind fun r27 =>
    (ldI S26 0 r27 x1).bind fun x28 =>
    if x28 ≤ x25 then
    (some S26)
    else
    (gfR S26 9 14 r0).bind fun r29 =>
    (fX9_at N S26 r0 x1 x3 x25).bind fun x30 =>
    (ldJ S26 r29 x30).bind fun j31 =>
    (gfR S26 9 5 r0).bind fun r32 =>
    (ldI S26 0 r32 x1).bind fun x33 =>
    if x33 = 0 then none else
    (stJ S26 r29 x30 (j31 + ((x2.toInt64) * (((4096 : Int32) / x33).toInt64)))).bind fun S35 =>
    nm (x25 + (1 : Int32)) fun x36 =>
    lX9_drips_15 N r0 x1 x2 x3 n x36 S35
def lX9_drips_2 (N : Nat) (r0 : Option Nat) (x1 : Int32) (x2 : Int32) : Nat → Int32 → pH → Option (pH)
  | 0, _, _ => none
  | n + 1, x21, S22 =>
    (gfR S22 9 3 r0).bind fun r23 =>
    (ldI S22 0 r23 x1).bind fun x24 =>
    if x24 ≤ x21 then
    (some S22)
    else
    (lX9_drips_15 N r0 x1 x2 x21 N (0 : Int32) S22).bind fun S38 =>
    nm (x21 + (1 : Int32)) fun x39 =>
    lX9_drips_2 N r0 x1 x2 n x39 S38
def fX9_drips (N : Nat) (S : pH) (r0 : Option Nat) (x1 : Int32) (x2 : Int32) : Option (pH) :=
  chk S 9 r0 <|
  (lX9_drips_2 N r0 x1 x2 N (0 : Int32) S).bind fun S41 =>
  some S41
theorem oX9_drips {N : Nat} {S : pH} {r0 : Option Nat} {x1 : Int32} {x2 : Int32} {z : pH} (h : fX9_drips N S r0 x1 x2 = some z) : ∃ fs, obj S 9 r0 = some fs := by
  unfold fX9_drips at h
  exact (chk_spec h).1
set_option maxHeartbeats 1000000 in
set_option maxRecDepth 20000 in
theorem kX9_drips_15 {g : VG} {w : VW} {N : Nat} {r0 : Option Nat} {x1 : Int32} {x2 : Int32} {x3 : Int32} {S0 : pH} (hC : Cx g yX9_drips cX9_drips 5 none rmX9_drips w) : ∀ (n : Nat) (x25 : Int32) (S26 : pH) (z : (pH)), lX9_drips_15 N r0 x1 x2 x3 n x25 S26 = some z → (∀ (e0 : pH), z = e0 → V g w 5 (Qm g w rmX9_drips.cells rmX9_drips.slots none S0) e0 0 0 62 [(0, va_rf r0), (1, .int x1), (2, .int x2), (3, .int x3)] []) → V g w 5 (Qm g w rmX9_drips.cells rmX9_drips.slots none S0) S26 0 0 15 [(0, va_rf r0), (1, .int x1), (2, .int x2), (3, .int x3), (4, .int x25)] [] := by
  intro n
  induction n with
  | zero => intro x25 S26 z h; rw [lX9_drips_15] at h; cases h
  | succ n ih =>
    intro x25 S26 z h K
    rw [lX9_drips_15] at h
    refine v_iload hC 15 4 dX9_drips_15 rfl ?_
    refine v_aload_n hC 17 0 dX9_drips_17 rfl ?_
    obtain ⟨r27, er27, h⟩ := obn h
    refine gRX9_16 hC rfl 18 er27 dX9_drips_18 ?_
    refine v_iload_n hC 21 1 dX9_drips_21 rfl ?_
    obtain ⟨x28, ex28, h⟩ := obn h
    refine v_iald hC 22 ex28 dX9_drips_22 ?_
    refine v_icmp_ge hC 23 62 dX9_drips_23 (by decide) (fun c37 => ?_) (fun c37 => ?_)
    · replace h := ifp h c37
      refine v_sub [(0, va_rf r0), (1, .int x1), (2, .int x2), (3, .int x3)] [0, 1, 2, 3] rfl ?_
      exact K _ (sp1 h)
    · replace h := ifn h c37
      refine v_aload_n hC 26 0 dX9_drips_26 rfl ?_
      obtain ⟨r29, er29, h⟩ := obn h
      refine gRX9_51 hC rfl 27 er29 dX9_drips_27 ?_
      refine v_aload_n hC 30 0 dX9_drips_30 rfl ?_
      refine v_iload_n hC 31 1 dX9_drips_31 rfl ?_
      refine v_iload_n hC 32 3 dX9_drips_32 rfl ?_
      refine v_iload hC 33 4 dX9_drips_33 rfl ?_
      obtain ⟨x30, ex30, h⟩ := obn h
      refine qX9_121 hC rfl 35 ex30 (by decide) (catL (Nat.le_of_ble_eq_true rfl)) (by decide) dX9_drips_35 ?_
      refine v_dup2 hC 38 rfl (cat_rf _) dX9_drips_38 ?_
      obtain ⟨j31, ej31, h⟩ := obn h
      refine v_lald hC 39 ej31 dX9_drips_39 ?_
      refine v_iload_n hC 40 2 dX9_drips_40 rfl ?_
      refine v_i2l hC 41 dX9_drips_41 ?_
      refine v_sipush hC (4096 : Int32) 42 dX9_drips_42 (by decide) ?_
      refine v_aload_n hC 45 0 dX9_drips_45 rfl ?_
      obtain ⟨r32, er32, h⟩ := obn h
      refine gRX9_22 hC rfl 46 er32 dX9_drips_46 ?_
      refine v_iload_n hC 49 1 dX9_drips_49 rfl ?_
      obtain ⟨x33, ex33, h⟩ := obn h
      refine v_iald hC 50 ex33 dX9_drips_50 ?_
      have c34 : ¬ x33 = 0 := fun q => absurd (ifp h q) (by simp)
      replace h := ifn h c34
      refine v_idiv hC 51 c34 dX9_drips_51 ?_
      refine v_i2l hC 52 dX9_drips_52 ?_
      refine v_lmul hC 53 dX9_drips_53 ?_
      refine v_ladd hC 54 dX9_drips_54 ?_
      obtain ⟨S35, eS35, h⟩ := obn h
      refine v_last hC 55 eS35 dX9_drips_55 ?_
      obtain ⟨x36, ex36, h⟩ := onm h
      refine v_iinc hC x36 [(4, .int x36), (0, va_rf r0), (1, .int x1), (2, .int x2), (3, .int x3)] 56 4 dX9_drips_56 rfl (by rw [ex36]; rfl) (by decide) rfl ?_
      refine v_goto hC 59 15 dX9_drips_59 (by decide) ?_
      refine v_sub [(0, va_rf r0), (1, .int x1), (2, .int x2), (3, .int x3), (4, .int x36)] [1, 2, 3, 4, 0] rfl ?_
      exact ih _ _ _ h K
set_option maxHeartbeats 1000000 in
set_option maxRecDepth 20000 in
theorem kX9_drips_2 {g : VG} {w : VW} {N : Nat} {r0 : Option Nat} {x1 : Int32} {x2 : Int32} {S0 : pH} (hC : Cx g yX9_drips cX9_drips 5 none rmX9_drips w) : ∀ (n : Nat) (x21 : Int32) (S22 : pH) (z : (pH)), lX9_drips_2 N r0 x1 x2 n x21 S22 = some z → (∀ (e0 : pH), z = e0 → V g w 5 (Qm g w rmX9_drips.cells rmX9_drips.slots none S0) e0 0 0 68 [] []) → V g w 5 (Qm g w rmX9_drips.cells rmX9_drips.slots none S0) S22 0 0 2 [(0, va_rf r0), (1, .int x1), (2, .int x2), (3, .int x21)] [] := by
  intro n
  induction n with
  | zero => intro x21 S22 z h; rw [lX9_drips_2] at h; cases h
  | succ n ih =>
    intro x21 S22 z h K
    rw [lX9_drips_2] at h
    refine v_iload_n hC 2 3 dX9_drips_2 rfl ?_
    refine v_aload_n hC 3 0 dX9_drips_3 rfl ?_
    obtain ⟨r23, er23, h⟩ := obn h
    refine gRX9_16 hC rfl 4 er23 dX9_drips_4 ?_
    refine v_iload_n hC 7 1 dX9_drips_7 rfl ?_
    obtain ⟨x24, ex24, h⟩ := obn h
    refine v_iald hC 8 ex24 dX9_drips_8 ?_
    refine v_icmp_ge hC 9 68 dX9_drips_9 (by decide) (fun c40 => ?_) (fun c40 => ?_)
    · replace h := ifp h c40
      refine v_sub [] [] rfl ?_
      exact K _ (sp1 h)
    · replace h := ifn h c40
      refine v_iconst hC (0 : Int32) 12 dX9_drips_12 (by decide) ?_
      refine v_istore hC [(4, .int (0 : Int32)), (0, va_rf r0), (1, .int x1), (2, .int x2), (3, .int x21)] 13 dX9_drips_13 (by decide) rfl ?_
      obtain ⟨S38, E15, h⟩ := obn h
      refine v_sub [(0, va_rf r0), (1, .int x1), (2, .int x2), (3, .int x21), (4, .int (0 : Int32))] [1, 2, 3, 4, 0] rfl ?_
      refine kX9_drips_15 hC _ _ _ _ E15 (fun _ hz9 => ?_)
      cases hz9
      obtain ⟨x39, ex39, h⟩ := onm h
      refine v_iinc hC x39 [(3, .int x39), (0, va_rf r0), (1, .int x1), (2, .int x2)] 62 3 dX9_drips_62 rfl (by rw [ex39]; rfl) (by decide) rfl ?_
      refine v_goto hC 65 2 dX9_drips_65 (by decide) ?_
      refine v_sub [(0, va_rf r0), (1, .int x1), (2, .int x2), (3, .int x39)] [1, 2, 3, 0] rfl ?_
      exact ih _ _ _ h K
set_option maxHeartbeats 1000000 in
set_option maxRecDepth 20000 in
theorem tX9_drips {l : Launch} {w : VW} {N : Nat} {S : pH} {r0 : Option Nat} {x1 : Int32} {x2 : Int32} {S0 : pH} (h : fX9_drips N S r0 x1 x2 = some S0) : CT l w yX9_drips cX9_drips 5 none rmX9_drips [va_rf r0, .int x1, .int x2] S none S0 := by
  refine v_entry [(0, va_rf r0), (1, .int x1), (2, .int x2)] (by decide) (by simp [lg_sl, cat_rf, cat_i, cat_j]) (by simp [lv_args, cat_rf, cat_i, cat_j]) (fun g _ hC => ?_)
  unfold fX9_drips at h
  obtain ⟨hO, h⟩ := chk_spec h
  refine v_iconst hC (0 : Int32) 0 dX9_drips_0 (by decide) ?_
  refine v_istore_n hC [(3, .int (0 : Int32)), (0, va_rf r0), (1, .int x1), (2, .int x2)] 1 dX9_drips_1 (by decide) rfl ?_
  obtain ⟨S41, E2, h⟩ := obn h
  refine v_sub [(0, va_rf r0), (1, .int x1), (2, .int x2), (3, .int (0 : Int32))] [1, 2, 3, 0] rfl ?_
  refine kX9_drips_2 hC _ _ _ _ E2 (fun _ hz9 => ?_)
  cases hz9
  obtain rfl := sp1 h
  exact v_vret hC 68 (by decide) (by decide) dX9_drips_68
set_option maxRecDepth 20000 in
theorem qX9_128 {g : VG} {w : VW} {nL : Nat} {Q : State → Prop} {S : pH} {kc ks : Nat} {lv : List (Nat × Value)} {rest : List Value} {y : MethodName} {cc : ByteArray} {rt : Option FieldType} {rm : Room} (hC : Cx g y cc nL rt rm w) (hy : y.cls = RX9) (pc : Nat) {N : Nat} {r0 : Option Nat} {x1 : Int32} {x2 : Int32} {S0 : pH} (h : fX9_drips N S r0 x1 x2 = some S0) (hR : rmX9_drips.frames + 1 ≤ rm.frames ∧ 8 + (5 + 11) + rmX9_drips.locals ≤ rm.locals) (hst : (rest.map fun v => v.category).sum ≤ 8) (hf : kc + 0 ≤ rm.cells ∧ ks + 0 ≤ rm.slots) (d : decode cc pc = .ok (.invokevirtual 128, 3)) (K : V g w nL Q S0 kc ks (pc + 3) lv (rest)) : V g w nL Q S kc ks pc lv (.int x2 :: .int x1 :: va_rf r0 :: rest) := by
  obtain ⟨fs, ho⟩ := oX9_drips h
  exact v_callV (As := [.int x1, .int x2]) (rest := rest) (ci := 9) hC pc (tX9_drips (l := g.2.1) (w := w) h) rfl (by decide) ho wG631 (by rw [hy]; exact wG630) wG632 wG633 wG542 hdX9_drips rfl hR hst hf d K
abbrev rmX9_drop : Room := { frames := 3, cells := 0, slots := 0, locals := 64 }
theorem hdX9_drop : yX9_drop.cls ≠ "java/lang/invoke/MethodHandle" ∧ yX9_drop.cls ≠ "java/lang/invoke/VarHandle" ∧ (parseMethodDescriptor yX9_drop.desc).map (fun d => d.parameters.length) = some 1 := by decide +kernel
def fX9_drop (N : Nat) (S : pH) (r0 : Option Nat) (x1 : Int32) : Option (Int32 × pH) :=
  chk S 9 r0 <|
  (fX9_isWhole N S r0 x1).bind fun x21 =>
  if ¬ x21 = 0 then
  ((gfR S 9 4 r0).bind fun r22 =>
  (ldI S 0 r22 x1).bind fun x23 =>
  (fX9_drips N S r0 x1 x23).bind fun S24 =>
  (gfR S24 9 4 r0).bind fun r25 =>
  (stI S24 r25 x1 (0 : Int32)).bind fun S26 =>
  some (x23, S26))
  else
  some ((-1 : Int32), S)
theorem oX9_drop {N : Nat} {S : pH} {r0 : Option Nat} {x1 : Int32} {z : Int32 × pH} (h : fX9_drop N S r0 x1 = some z) : ∃ fs, obj S 9 r0 = some fs := by
  unfold fX9_drop at h
  exact (chk_spec h).1
set_option maxHeartbeats 1000000 in
set_option maxRecDepth 20000 in
theorem tX9_drop {l : Launch} {w : VW} {N : Nat} {S : pH} {r0 : Option Nat} {x1 : Int32} {v0 : Int32} {S0 : pH} (h : fX9_drop N S r0 x1 = some (v0, S0)) : CT l w yX9_drop cX9_drop 3 (some .int) rmX9_drop [va_rf r0, .int x1] S (some (.int v0)) S0 := by
  refine v_entry [(0, va_rf r0), (1, .int x1)] (by decide) (by simp [lg_sl, cat_rf, cat_i, cat_j]) (by simp [lv_args, cat_rf, cat_i, cat_j]) (fun g _ hC => ?_)
  unfold fX9_drop at h
  obtain ⟨hO, h⟩ := chk_spec h
  refine v_aload_n hC 0 0 dX9_drop_0 rfl ?_
  refine v_iload_n hC 1 1 dX9_drop_1 rfl ?_
  obtain ⟨x21, ex21, h⟩ := obn h
  refine qX9_125 hC rfl 2 ex21 (by decide) (catL (Nat.le_of_ble_eq_true rfl)) (by decide) dX9_drop_2 ?_
  refine v_if_ne hC 5 10 dX9_drop_5 (by decide) (fun c27 => ?_) (fun c27 => ?_)
  · replace h := ifp h c27
    refine v_aload_n hC 10 0 dX9_drop_10 rfl ?_
    obtain ⟨r22, er22, h⟩ := obn h
    refine gRX9_19 hC rfl 11 er22 dX9_drop_11 ?_
    refine v_iload_n hC 14 1 dX9_drop_14 rfl ?_
    obtain ⟨x23, ex23, h⟩ := obn h
    refine v_iald hC 15 ex23 dX9_drop_15 ?_
    refine v_istore_n hC [(2, .int x23), (0, va_rf r0), (1, .int x1)] 16 dX9_drop_16 (by decide) rfl ?_
    refine v_aload_n hC 17 1 dX9_drop_17 rfl ?_
    refine v_iload_n hC 18 2 dX9_drop_18 rfl ?_
    refine v_iload_n hC 19 0 dX9_drop_19 rfl ?_
    obtain ⟨S24, eS24, h⟩ := obn h
    refine qX9_128 hC rfl 20 eS24 (by decide) (catL (Nat.le_of_ble_eq_true rfl)) (by decide) dX9_drop_20 ?_
    refine v_aload_n hC 23 1 dX9_drop_23 rfl ?_
    obtain ⟨r25, er25, h⟩ := obn h
    refine gRX9_19 hC rfl 24 er25 dX9_drop_24 ?_
    refine v_iload_n hC 27 2 dX9_drop_27 rfl ?_
    refine v_iconst hC (0 : Int32) 28 dX9_drop_28 (by decide) ?_
    obtain ⟨S26, eS26, h⟩ := obn h
    refine v_iast hC 29 eS26 dX9_drop_29 ?_
    refine v_iload_n hC 30 0 dX9_drop_30 rfl ?_
    obtain ⟨rfl, rfl⟩ := sp2 h
    exact v_iret hC 31 (by decide) (by decide) dX9_drop_31
  · replace h := ifn h (fun q => q c27)
    refine v_iconst hC (-1 : Int32) 8 dX9_drop_8 (by decide) ?_
    obtain ⟨rfl, rfl⟩ := sp2 h
    exact v_iret hC 9 (by decide) (by decide) dX9_drop_9
abbrev rmX9_ways : Room := { frames := 2, cells := 0, slots := 0, locals := 53 }
theorem hdX9_ways : yX9_ways.cls ≠ "java/lang/invoke/MethodHandle" ∧ yX9_ways.cls ≠ "java/lang/invoke/VarHandle" ∧ (parseMethodDescriptor yX9_ways.desc).map (fun d => d.parameters.length) = some 3 := by decide +kernel
def lX9_ways_47 (N : Nat) (S : pH) (r0 : Option Nat) (x1 : Int32) (x2 : Int32) (x3 : Int32) (x4 : Int32) (x5 : Int32) (x7 : Int32) : Nat → Int32 → Int32 → Option (Int32)
  | 0, _, _ => none
  | n + 1, x28, x29 =>
    if x3 ≤ x29 then
    (some x28)
    else
    (fX9_at N S r0 x2 x29 x7).bind fun x30 =>
    nm (fun (x31 : Int32) =>
    nm (x29 + (1 : Int32)) fun x32 =>
    lX9_ways_47 N S r0 x1 x2 x3 x4 x5 x7 n x31 x32) fun j109 =>
    nm (fun (_ : Unit) =>
    j109 (0 : Int32)) fun j108 =>
    if x28 = 0 then
    (j108 ())
    else
    nm (fun (_ : Unit) =>
    j109 (1 : Int32)) fun j104 =>
    if x30 = (-9 : Int32) then
    (j104 ())
    else
    nm (fun (x33 : Int32) (r34 : Option Nat) (x35 : Int32) (x36 : Int32) (x37 : Int32) (x38 : Int32) (x39 : Int32) (x40 : Int32) =>
    (fX9_shown N S r34 x35 x36 x37 x38 x39 x40).bind fun x41 =>
    if ¬ x33 = x41 then
    (j108 ())
    else
    j104 ()) fun j98 =>
    if x5 ≤ (3 : Int32) then
    (j98 x30 r0 x1 x3 x29 x7 x5 (0 : Int32))
    else
    j98 x30 r0 x1 x3 x29 x7 x5 (1 : Int32)
def lX9_ways_33 (N : Nat) (S : pH) (r0 : Option Nat) (x1 : Int32) (x2 : Int32) (x3 : Int32) (x4 : Int32) (x5 : Int32) : Nat → Int32 → Int32 → Option (Int32)
  | 0, _, _ => none
  | n + 1, x26, x27 =>
    if x3 ≤ x27 then
    (some x26)
    else
    if x26 = 0 then
    (some x26)
    else
    (lX9_ways_47 N S r0 x1 x2 x3 x4 x5 x27 N x26 (0 : Int32)).bind fun x47 =>
    nm (x27 + (1 : Int32)) fun x48 =>
    lX9_ways_33 N S r0 x1 x2 x3 x4 x5 n x47 x48
def lX9_ways_6 (N : Nat) (S : pH) (r0 : Option Nat) (x1 : Int32) (x2 : Int32) (x3 : Int32) : Nat → Int32 → Int32 → Option (Int32)
  | 0, _, _ => none
  | n + 1, x21, x22 =>
    if (8 : Int32) ≤ x22 then
    (some x21)
    else
    (gfR S 9 3 r0).bind fun r23 =>
    (ldI S 0 r23 x1).bind fun x24 =>
    nm (fun (x25 : Int32) =>
    (lX9_ways_33 N S r0 x1 x2 x3 x21 x22 N x25 (0 : Int32)).bind fun x51 =>
    nm (fun (x52 : Int32) (x53 : Int32) =>
    nm (x52 ||| x53) fun x54 =>
    nm (x22 + (1 : Int32)) fun x55 =>
    lX9_ways_6 N S r0 x1 x2 x3 n x54 x55) fun j138 =>
    if x51 = 0 then
    (j138 x21 (0 : Int32))
    else
    j138 x21 ((1 : Int32) <<< (x22 &&& 31))) fun j28 =>
    if ¬ x24 = x3 then
    (j28 (0 : Int32))
    else
    j28 (1 : Int32)
def fX9_ways (N : Nat) (S : pH) (r0 : Option Nat) (x1 : Int32) (x2 : Int32) (x3 : Int32) : Option (Int32) :=
  chk S 9 r0 <|
  (lX9_ways_6 N S r0 x1 x2 x3 N (0 : Int32) (0 : Int32)).bind fun x59 =>
  some x59
theorem oX9_ways {N : Nat} {S : pH} {r0 : Option Nat} {x1 : Int32} {x2 : Int32} {x3 : Int32} {z : Int32} (h : fX9_ways N S r0 x1 x2 x3 = some z) : ∃ fs, obj S 9 r0 = some fs := by
  unfold fX9_ways at h
  exact (chk_spec h).1
set_option maxHeartbeats 1000000 in
set_option maxRecDepth 20000 in
theorem kX9_ways_47 {g : VG} {w : VW} {N : Nat} {S : pH} {r0 : Option Nat} {x1 : Int32} {x2 : Int32} {x3 : Int32} {x4 : Int32} {x5 : Int32} {x7 : Int32} {v0 : Int32} (hC : Cx g yX9_ways cX9_ways 10 (some .int) rmX9_ways w) : ∀ (n : Nat) (x28 : Int32) (x29 : Int32) (z : (Int32)), lX9_ways_47 N S r0 x1 x2 x3 x4 x5 x7 n x28 x29 = some z → (∀ (e0 : Int32), z = e0 → V g w 10 (Qm g w rmX9_ways.cells rmX9_ways.slots (some (.int v0)) S) S 0 0 117 [(0, va_rf r0), (1, .int x1), (2, .int x2), (3, .int x3), (4, .int x4), (5, .int x5), (6, .int e0), (7, .int x7)] []) → V g w 10 (Qm g w rmX9_ways.cells rmX9_ways.slots (some (.int v0)) S) S 0 0 47 [(0, va_rf r0), (1, .int x1), (2, .int x2), (3, .int x3), (4, .int x4), (5, .int x5), (6, .int x28), (7, .int x7), (8, .int x29)] [] := by
  intro n
  induction n with
  | zero => intro x28 x29 z h; rw [lX9_ways_47] at h; cases h
  | succ n ih =>
    intro x28 x29 z h K
    rw [lX9_ways_47] at h
    refine v_iload hC 47 8 dX9_ways_47 rfl ?_
    refine v_iload_n hC 49 3 dX9_ways_49 rfl ?_
    refine v_icmp_ge hC 50 117 dX9_ways_50 (by decide) (fun c46 => ?_) (fun c46 => ?_)
    · replace h := ifp h c46
      refine v_sub [(0, va_rf r0), (1, .int x1), (2, .int x2), (3, .int x3), (4, .int x4), (5, .int x5), (6, .int x28), (7, .int x7)] [0, 1, 2, 3, 4, 5, 6, 7] rfl ?_
      exact K _ (sp1 h)
    · replace h := ifn h c46
      refine v_aload_n hC 53 0 dX9_ways_53 rfl ?_
      refine v_iload_n hC 54 2 dX9_ways_54 rfl ?_
      refine v_iload hC 55 8 dX9_ways_55 rfl ?_
      refine v_iload hC 57 7 dX9_ways_57 rfl ?_
      obtain ⟨x30, ex30, h⟩ := obn h
      refine qX9_121 hC rfl 59 ex30 (by decide) (catL (Nat.le_of_ble_eq_true rfl)) (by decide) dX9_ways_59 ?_
      refine v_istore hC [(9, .int x30), (0, va_rf r0), (1, .int x1), (2, .int x2), (3, .int x3), (4, .int x4), (5, .int x5), (6, .int x28), (7, .int x7), (8, .int x29)] 62 dX9_ways_62 (by decide) rfl ?_
      refine v_iload hC 64 7 dX9_ways_64 rfl ?_
      obtain ⟨j109, f109, h⟩ := onm h
      have J109 : ∀ (x31 : Int32), j109 x31 = some z → V g w 10 (Qm g w rmX9_ways.cells rmX9_ways.slots (some (.int v0)) S) S 0 0 109 [(0, va_rf r0), (1, .int x1), (2, .int x2), (3, .int x3), (4, .int x4), (5, .int x5), (7, .int x7), (8, .int x29)] [.int x31] := by
        intro x31 h
        replace h := jb1 f109 h
        refine v_istore hC [(6, .int x31), (0, va_rf r0), (1, .int x1), (2, .int x2), (3, .int x3), (4, .int x4), (5, .int x5), (7, .int x7), (8, .int x29)] 109 dX9_ways_109 (by decide) rfl ?_
        obtain ⟨x32, ex32, h⟩ := onm h
        refine v_iinc hC x32 [(8, .int x32), (6, .int x31), (0, va_rf r0), (1, .int x1), (2, .int x2), (3, .int x3), (4, .int x4), (5, .int x5), (7, .int x7)] 111 8 dX9_ways_111 rfl (by rw [ex32]; rfl) (by decide) rfl ?_
        refine v_goto hC 114 47 dX9_ways_114 (by decide) ?_
        refine v_sub [(0, va_rf r0), (1, .int x1), (2, .int x2), (3, .int x3), (4, .int x4), (5, .int x5), (6, .int x31), (7, .int x7), (8, .int x32)] [2, 3, 4, 5, 6, 7, 1, 8, 0] rfl ?_
        exact ih _ _ _ h K
      obtain ⟨j108, f108, h⟩ := onm h
      have J108 : ∀ (u9 : Unit), j108 u9 = some z → V g w 10 (Qm g w rmX9_ways.cells rmX9_ways.slots (some (.int v0)) S) S 0 0 108 [(0, va_rf r0), (1, .int x1), (2, .int x2), (3, .int x3), (4, .int x4), (5, .int x5), (7, .int x7), (8, .int x29)] [] := by
        intro u9 h
        replace h := jb1 f108 h
        refine v_iconst hC (0 : Int32) 108 dX9_ways_108 (by decide) ?_
        refine v_sub [(0, va_rf r0), (1, .int x1), (2, .int x2), (3, .int x3), (4, .int x4), (5, .int x5), (7, .int x7), (8, .int x29)] [0, 1, 2, 3, 4, 5, 6, 7] rfl ?_
        exact J109 _ h
      refine v_if_eq hC 66 108 dX9_ways_66 (by decide) (fun c45 => ?_) (fun c45 => ?_)
      · replace h := ifp h c45
        refine v_sub [(0, va_rf r0), (1, .int x1), (2, .int x2), (3, .int x3), (4, .int x4), (5, .int x5), (7, .int x7), (8, .int x29)] [1, 2, 3, 4, 5, 6, 8, 9] rfl ?_
        exact J108 _ h
      · replace h := ifn h c45
        refine v_iload hC 69 0 dX9_ways_69 rfl ?_
        refine v_bipush hC (-9 : Int32) 71 dX9_ways_71 (by decide) ?_
        obtain ⟨j104, f104, h⟩ := onm h
        have J104 : ∀ (u9 : Unit), j104 u9 = some z → V g w 10 (Qm g w rmX9_ways.cells rmX9_ways.slots (some (.int v0)) S) S 0 0 104 [(0, va_rf r0), (1, .int x1), (2, .int x2), (3, .int x3), (4, .int x4), (5, .int x5), (7, .int x7), (8, .int x29)] [] := by
          intro u9 h
          replace h := jb1 f104 h
          refine v_iconst hC (1 : Int32) 104 dX9_ways_104 (by decide) ?_
          refine v_goto hC 105 109 dX9_ways_105 (by decide) ?_
          refine v_sub [(0, va_rf r0), (1, .int x1), (2, .int x2), (3, .int x3), (4, .int x4), (5, .int x5), (7, .int x7), (8, .int x29)] [0, 1, 2, 3, 4, 5, 6, 7] rfl ?_
          exact J109 _ h
        refine v_icmp_eq hC 73 104 dX9_ways_73 (by decide) (fun c44 => ?_) (fun c44 => ?_)
        · replace h := ifp h c44
          refine v_sub [(0, va_rf r0), (1, .int x1), (2, .int x2), (3, .int x3), (4, .int x4), (5, .int x5), (7, .int x7), (8, .int x29)] [1, 2, 3, 4, 5, 6, 8, 9] rfl ?_
          exact J104 _ h
        · replace h := ifn h c44
          refine v_iload hC 76 0 dX9_ways_76 rfl ?_
          refine v_aload_n hC 78 1 dX9_ways_78 rfl ?_
          refine v_iload_n hC 79 2 dX9_ways_79 rfl ?_
          refine v_iload_n hC 80 4 dX9_ways_80 rfl ?_
          refine v_iload hC 81 9 dX9_ways_81 rfl ?_
          refine v_iload hC 83 8 dX9_ways_83 rfl ?_
          refine v_iload hC 85 6 dX9_ways_85 rfl ?_
          refine v_iload hC 87 6 dX9_ways_87 rfl ?_
          refine v_iconst hC (3 : Int32) 89 dX9_ways_89 (by decide) ?_
          obtain ⟨j98, f98, h⟩ := onm h
          have J98 : ∀ (x33 : Int32) (r34 : Option Nat) (x35 : Int32) (x36 : Int32) (x37 : Int32) (x38 : Int32) (x39 : Int32) (x40 : Int32), j98 x33 r34 x35 x36 x37 x38 x39 x40 = some z → V g w 10 (Qm g w rmX9_ways.cells rmX9_ways.slots (some (.int v0)) S) S 0 0 98 [(0, va_rf r0), (1, .int x1), (2, .int x2), (3, .int x3), (4, .int x4), (5, .int x5), (7, .int x7), (8, .int x29)] [.int x40, .int x39, .int x38, .int x37, .int x36, .int x35, va_rf r34, .int x33] := by
            intro x33 r34 x35 x36 x37 x38 x39 x40 h
            replace h := jb8 f98 h
            obtain ⟨x41, ex41, h⟩ := obn h
            refine qX9_147 hC rfl 98 ex41 (by decide) (catL (Nat.le_of_ble_eq_true rfl)) (by decide) dX9_ways_98 ?_
            refine v_icmp_ne hC 101 108 dX9_ways_101 (by decide) (fun c42 => ?_) (fun c42 => ?_)
            · replace h := ifp h c42
              refine v_sub [(0, va_rf r0), (1, .int x1), (2, .int x2), (3, .int x3), (4, .int x4), (5, .int x5), (7, .int x7), (8, .int x29)] [0, 1, 2, 3, 4, 5, 6, 7] rfl ?_
              exact J108 _ h
            · replace h := ifn h (fun q => q c42)
              refine v_sub [(0, va_rf r0), (1, .int x1), (2, .int x2), (3, .int x3), (4, .int x4), (5, .int x5), (7, .int x7), (8, .int x29)] [0, 1, 2, 3, 4, 5, 6, 7] rfl ?_
              exact J104 _ h
          refine v_icmp_le hC 90 97 dX9_ways_90 (by decide) (fun c43 => ?_) (fun c43 => ?_)
          · replace h := ifp h c43
            refine v_iconst hC (0 : Int32) 97 dX9_ways_97 (by decide) ?_
            refine v_sub [(0, va_rf r0), (1, .int x1), (2, .int x2), (3, .int x3), (4, .int x4), (5, .int x5), (7, .int x7), (8, .int x29)] [1, 2, 3, 4, 5, 6, 8, 9] rfl ?_
            exact J98 _ _ _ _ _ _ _ _ h
          · replace h := ifn h c43
            refine v_iconst hC (1 : Int32) 93 dX9_ways_93 (by decide) ?_
            refine v_goto hC 94 98 dX9_ways_94 (by decide) ?_
            refine v_sub [(0, va_rf r0), (1, .int x1), (2, .int x2), (3, .int x3), (4, .int x4), (5, .int x5), (7, .int x7), (8, .int x29)] [1, 2, 3, 4, 5, 6, 8, 9] rfl ?_
            exact J98 _ _ _ _ _ _ _ _ h
set_option maxHeartbeats 1000000 in
set_option maxRecDepth 20000 in
theorem kX9_ways_33 {g : VG} {w : VW} {N : Nat} {S : pH} {r0 : Option Nat} {x1 : Int32} {x2 : Int32} {x3 : Int32} {x4 : Int32} {x5 : Int32} {v0 : Int32} (hC : Cx g yX9_ways cX9_ways 10 (some .int) rmX9_ways w) : ∀ (n : Nat) (x26 : Int32) (x27 : Int32) (z : (Int32)), lX9_ways_33 N S r0 x1 x2 x3 x4 x5 n x26 x27 = some z → (∀ (e0 : Int32), z = e0 → V g w 10 (Qm g w rmX9_ways.cells rmX9_ways.slots (some (.int v0)) S) S 0 0 123 [(0, va_rf r0), (1, .int x1), (2, .int x2), (3, .int x3), (4, .int x4), (5, .int x5), (6, .int e0)] []) → V g w 10 (Qm g w rmX9_ways.cells rmX9_ways.slots (some (.int v0)) S) S 0 0 33 [(0, va_rf r0), (1, .int x1), (2, .int x2), (3, .int x3), (4, .int x4), (5, .int x5), (6, .int x26), (7, .int x27)] [] := by
  intro n
  induction n with
  | zero => intro x26 x27 z h; rw [lX9_ways_33] at h; cases h
  | succ n ih =>
    intro x26 x27 z h K
    rw [lX9_ways_33] at h
    refine v_iload hC 33 7 dX9_ways_33 rfl ?_
    refine v_iload_n hC 35 3 dX9_ways_35 rfl ?_
    refine v_icmp_ge hC 36 123 dX9_ways_36 (by decide) (fun c50 => ?_) (fun c50 => ?_)
    · replace h := ifp h c50
      refine v_sub [(0, va_rf r0), (1, .int x1), (2, .int x2), (3, .int x3), (4, .int x4), (5, .int x5), (6, .int x26)] [0, 1, 2, 3, 4, 5, 6] rfl ?_
      exact K _ (sp1 h)
    · replace h := ifn h c50
      refine v_iload hC 39 6 dX9_ways_39 rfl ?_
      refine v_if_eq hC 41 123 dX9_ways_41 (by decide) (fun c49 => ?_) (fun c49 => ?_)
      · replace h := ifp h c49
        refine v_sub [(0, va_rf r0), (1, .int x1), (2, .int x2), (3, .int x3), (4, .int x4), (5, .int x5), (6, .int x26)] [0, 1, 2, 3, 4, 5, 6] rfl ?_
        exact K _ (sp1 h)
      · replace h := ifn h c49
        refine v_iconst hC (0 : Int32) 44 dX9_ways_44 (by decide) ?_
        refine v_istore hC [(8, .int (0 : Int32)), (0, va_rf r0), (1, .int x1), (2, .int x2), (3, .int x3), (4, .int x4), (5, .int x5), (6, .int x26), (7, .int x27)] 45 dX9_ways_45 (by decide) rfl ?_
        obtain ⟨x47, E47, h⟩ := obn h
        refine v_sub [(0, va_rf r0), (1, .int x1), (2, .int x2), (3, .int x3), (4, .int x4), (5, .int x5), (6, .int x26), (7, .int x27), (8, .int (0 : Int32))] [1, 2, 3, 4, 5, 6, 7, 8, 0] rfl ?_
        refine kX9_ways_47 hC _ _ _ _ E47 (fun _ hz9 => ?_)
        cases hz9
        obtain ⟨x48, ex48, h⟩ := onm h
        refine v_iinc hC x48 [(7, .int x48), (0, va_rf r0), (1, .int x1), (2, .int x2), (3, .int x3), (4, .int x4), (5, .int x5), (6, .int x47)] 117 7 dX9_ways_117 rfl (by rw [ex48]; rfl) (by decide) rfl ?_
        refine v_goto hC 120 33 dX9_ways_120 (by decide) ?_
        refine v_sub [(0, va_rf r0), (1, .int x1), (2, .int x2), (3, .int x3), (4, .int x4), (5, .int x5), (6, .int x47), (7, .int x48)] [1, 2, 3, 4, 5, 6, 7, 0] rfl ?_
        exact ih _ _ _ h K
set_option maxHeartbeats 1000000 in
set_option maxRecDepth 20000 in
theorem kX9_ways_6 {g : VG} {w : VW} {N : Nat} {S : pH} {r0 : Option Nat} {x1 : Int32} {x2 : Int32} {x3 : Int32} {v0 : Int32} (hC : Cx g yX9_ways cX9_ways 10 (some .int) rmX9_ways w) : ∀ (n : Nat) (x21 : Int32) (x22 : Int32) (z : (Int32)), lX9_ways_6 N S r0 x1 x2 x3 n x21 x22 = some z → (∀ (e0 : Int32), z = e0 → V g w 10 (Qm g w rmX9_ways.cells rmX9_ways.slots (some (.int v0)) S) S 0 0 147 [(4, .int e0)] []) → V g w 10 (Qm g w rmX9_ways.cells rmX9_ways.slots (some (.int v0)) S) S 0 0 6 [(0, va_rf r0), (1, .int x1), (2, .int x2), (3, .int x3), (4, .int x21), (5, .int x22)] [] := by
  intro n
  induction n with
  | zero => intro x21 x22 z h; rw [lX9_ways_6] at h; cases h
  | succ n ih =>
    intro x21 x22 z h K
    rw [lX9_ways_6] at h
    refine v_iload hC 6 5 dX9_ways_6 rfl ?_
    refine v_bipush hC (8 : Int32) 8 dX9_ways_8 (by decide) ?_
    refine v_icmp_ge hC 10 147 dX9_ways_10 (by decide) (fun c58 => ?_) (fun c58 => ?_)
    · replace h := ifp h c58
      refine v_sub [(4, .int x21)] [4] rfl ?_
      exact K _ (sp1 h)
    · replace h := ifn h c58
      refine v_aload_n hC 13 0 dX9_ways_13 rfl ?_
      obtain ⟨r23, er23, h⟩ := obn h
      refine gRX9_16 hC rfl 14 er23 dX9_ways_14 ?_
      refine v_iload_n hC 17 1 dX9_ways_17 rfl ?_
      obtain ⟨x24, ex24, h⟩ := obn h
      refine v_iald hC 18 ex24 dX9_ways_18 ?_
      refine v_iload_n hC 19 3 dX9_ways_19 rfl ?_
      obtain ⟨j28, f28, h⟩ := onm h
      have J28 : ∀ (x25 : Int32), j28 x25 = some z → V g w 10 (Qm g w rmX9_ways.cells rmX9_ways.slots (some (.int v0)) S) S 0 0 28 [(0, va_rf r0), (1, .int x1), (2, .int x2), (3, .int x3), (4, .int x21), (5, .int x22)] [.int x25] := by
        intro x25 h
        replace h := jb1 f28 h
        refine v_istore hC [(6, .int x25), (0, va_rf r0), (1, .int x1), (2, .int x2), (3, .int x3), (4, .int x21), (5, .int x22)] 28 dX9_ways_28 (by decide) rfl ?_
        refine v_iconst hC (0 : Int32) 30 dX9_ways_30 (by decide) ?_
        refine v_istore hC [(7, .int (0 : Int32)), (6, .int x25), (0, va_rf r0), (1, .int x1), (2, .int x2), (3, .int x3), (4, .int x21), (5, .int x22)] 31 dX9_ways_31 (by decide) rfl ?_
        obtain ⟨x51, E33, h⟩ := obn h
        refine v_sub [(0, va_rf r0), (1, .int x1), (2, .int x2), (3, .int x3), (4, .int x21), (5, .int x22), (6, .int x25), (7, .int (0 : Int32))] [2, 3, 4, 5, 6, 7, 1, 0] rfl ?_
        refine kX9_ways_33 hC _ _ _ _ E33 (fun _ hz9 => ?_)
        cases hz9
        refine v_iload hC 123 4 dX9_ways_123 rfl ?_
        refine v_iload hC 125 6 dX9_ways_125 rfl ?_
        obtain ⟨j138, f138, h⟩ := onm h
        have J138 : ∀ (x52 : Int32) (x53 : Int32), j138 x52 x53 = some z → V g w 10 (Qm g w rmX9_ways.cells rmX9_ways.slots (some (.int v0)) S) S 0 0 138 [(0, va_rf r0), (1, .int x1), (2, .int x2), (3, .int x3), (5, .int x22)] [.int x53, .int x52] := by
          intro x52 x53 h
          replace h := jb2 f138 h
          refine v_ior hC 138 dX9_ways_138 ?_
          obtain ⟨x54, ex54, h⟩ := onm h
          refine v_topi x54 ex54 ?_
          refine v_istore hC [(4, .int x54), (0, va_rf r0), (1, .int x1), (2, .int x2), (3, .int x3), (5, .int x22)] 139 dX9_ways_139 (by decide) rfl ?_
          obtain ⟨x55, ex55, h⟩ := onm h
          refine v_iinc hC x55 [(5, .int x55), (4, .int x54), (0, va_rf r0), (1, .int x1), (2, .int x2), (3, .int x3)] 141 5 dX9_ways_141 rfl (by rw [ex55]; rfl) (by decide) rfl ?_
          refine v_goto hC 144 6 dX9_ways_144 (by decide) ?_
          refine v_sub [(0, va_rf r0), (1, .int x1), (2, .int x2), (3, .int x3), (4, .int x54), (5, .int x55)] [2, 3, 4, 5, 1, 0] rfl ?_
          exact ih _ _ _ h K
        refine v_if_eq hC 127 137 dX9_ways_127 (by decide) (fun c56 => ?_) (fun c56 => ?_)
        · replace h := ifp h c56
          refine v_iconst hC (0 : Int32) 137 dX9_ways_137 (by decide) ?_
          refine v_sub [(0, va_rf r0), (1, .int x1), (2, .int x2), (3, .int x3), (5, .int x22)] [0, 1, 2, 3, 5] rfl ?_
          exact J138 _ _ h
        · replace h := ifn h c56
          refine v_iconst hC (1 : Int32) 130 dX9_ways_130 (by decide) ?_
          refine v_iload hC 131 5 dX9_ways_131 rfl ?_
          refine v_ishl hC 133 dX9_ways_133 ?_
          refine v_goto hC 134 138 dX9_ways_134 (by decide) ?_
          refine v_sub [(0, va_rf r0), (1, .int x1), (2, .int x2), (3, .int x3), (5, .int x22)] [0, 1, 2, 3, 5] rfl ?_
          exact J138 _ _ h
      refine v_icmp_ne hC 20 27 dX9_ways_20 (by decide) (fun c57 => ?_) (fun c57 => ?_)
      · replace h := ifp h c57
        refine v_iconst hC (0 : Int32) 27 dX9_ways_27 (by decide) ?_
        refine v_sub [(0, va_rf r0), (1, .int x1), (2, .int x2), (3, .int x3), (4, .int x21), (5, .int x22)] [0, 1, 2, 3, 4, 5] rfl ?_
        exact J28 _ h
      · replace h := ifn h (fun q => q c57)
        refine v_iconst hC (1 : Int32) 23 dX9_ways_23 (by decide) ?_
        refine v_goto hC 24 28 dX9_ways_24 (by decide) ?_
        refine v_sub [(0, va_rf r0), (1, .int x1), (2, .int x2), (3, .int x3), (4, .int x21), (5, .int x22)] [0, 1, 2, 3, 4, 5] rfl ?_
        exact J28 _ h
set_option maxHeartbeats 1000000 in
set_option maxRecDepth 20000 in
theorem tX9_ways {l : Launch} {w : VW} {N : Nat} {S : pH} {r0 : Option Nat} {x1 : Int32} {x2 : Int32} {x3 : Int32} {v0 : Int32} (h : fX9_ways N S r0 x1 x2 x3 = some v0) : CT l w yX9_ways cX9_ways 10 (some .int) rmX9_ways [va_rf r0, .int x1, .int x2, .int x3] S (some (.int v0)) S := by
  refine v_entry [(0, va_rf r0), (1, .int x1), (2, .int x2), (3, .int x3)] (by decide) (by simp [lg_sl, cat_rf, cat_i, cat_j]) (by simp [lv_args, cat_rf, cat_i, cat_j]) (fun g _ hC => ?_)
  unfold fX9_ways at h
  obtain ⟨hO, h⟩ := chk_spec h
  refine v_iconst hC (0 : Int32) 0 dX9_ways_0 (by decide) ?_
  refine v_istore hC [(4, .int (0 : Int32)), (0, va_rf r0), (1, .int x1), (2, .int x2), (3, .int x3)] 1 dX9_ways_1 (by decide) rfl ?_
  refine v_iconst hC (0 : Int32) 3 dX9_ways_3 (by decide) ?_
  refine v_istore hC [(5, .int (0 : Int32)), (4, .int (0 : Int32)), (0, va_rf r0), (1, .int x1), (2, .int x2), (3, .int x3)] 4 dX9_ways_4 (by decide) rfl ?_
  obtain ⟨x59, E6, h⟩ := obn h
  refine v_sub [(0, va_rf r0), (1, .int x1), (2, .int x2), (3, .int x3), (4, .int (0 : Int32)), (5, .int (0 : Int32))] [2, 3, 4, 5, 1, 0] rfl ?_
  refine kX9_ways_6 hC _ _ _ _ E6 (fun _ hz9 => ?_)
  cases hz9
  refine v_iload hC 147 0 dX9_ways_147 rfl ?_
  obtain rfl := sp1 h
  exact v_iret hC 149 (by decide) (by decide) dX9_ways_149
set_option maxRecDepth 20000 in
theorem qX9_184 {g : VG} {w : VW} {nL : Nat} {Q : State → Prop} {S : pH} {kc ks : Nat} {lv : List (Nat × Value)} {rest : List Value} {y : MethodName} {cc : ByteArray} {rt : Option FieldType} {rm : Room} (hC : Cx g y cc nL rt rm w) (hy : y.cls = RX9) (pc : Nat) {N : Nat} {r0 : Option Nat} {x1 : Int32} {x2 : Int32} {x3 : Int32} {v0 : Int32} (h : fX9_ways N S r0 x1 x2 x3 = some v0) (hR : rmX9_ways.frames + 1 ≤ rm.frames ∧ 8 + (10 + 11) + rmX9_ways.locals ≤ rm.locals) (hst : (rest.map fun v => v.category).sum ≤ 8) (hf : kc + 0 ≤ rm.cells ∧ ks + 0 ≤ rm.slots) (d : decode cc pc = .ok (.invokevirtual 184, 3)) (K : V g w nL Q S kc ks (pc + 3) lv (.int v0 :: rest)) : V g w nL Q S kc ks pc lv (.int x3 :: .int x2 :: .int x1 :: va_rf r0 :: rest) := by
  obtain ⟨fs, ho⟩ := oX9_ways h
  exact v_callV (As := [.int x1, .int x2, .int x3]) (rest := rest) (ci := 9) hC pc (tX9_ways (l := g.2.1) (w := w) h) rfl (by decide) ho wG635 (by rw [hy]; exact wG634) wG636 wG637 wG542 hdX9_ways rfl hR hst hf d K
abbrev rmX9_fits : Room := { frames := 3, cells := 0, slots := 0, locals := 82 }
theorem hdX9_fits : yX9_fits.cls ≠ "java/lang/invoke/MethodHandle" ∧ yX9_fits.cls ≠ "java/lang/invoke/VarHandle" ∧ (parseMethodDescriptor yX9_fits.desc).map (fun d => d.parameters.length) = some 1 := by decide +kernel
def fX9_fits (N : Nat) (S : pH) (r0 : Option Nat) (x1 : Int32) : Option (Int32) :=
  chk S 9 r0 <|
  (fX9_isCane N S r0 x1).bind fun x21 =>
  if x21 = 0 then
  (some (-1 : Int32))
  else
  (gfI S 9 9 r0).bind fun x22 =>
  (fX9_ways N S r0 x1 (17 : Int32) x22).bind fun x23 =>
  some x23
theorem oX9_fits {N : Nat} {S : pH} {r0 : Option Nat} {x1 : Int32} {z : Int32} (h : fX9_fits N S r0 x1 = some z) : ∃ fs, obj S 9 r0 = some fs := by
  unfold fX9_fits at h
  exact (chk_spec h).1
set_option maxHeartbeats 1000000 in
set_option maxRecDepth 20000 in
theorem tX9_fits {l : Launch} {w : VW} {N : Nat} {S : pH} {r0 : Option Nat} {x1 : Int32} {v0 : Int32} (h : fX9_fits N S r0 x1 = some v0) : CT l w yX9_fits cX9_fits 2 (some .int) rmX9_fits [va_rf r0, .int x1] S (some (.int v0)) S := by
  refine v_entry [(0, va_rf r0), (1, .int x1)] (by decide) (by simp [lg_sl, cat_rf, cat_i, cat_j]) (by simp [lv_args, cat_rf, cat_i, cat_j]) (fun g _ hC => ?_)
  unfold fX9_fits at h
  obtain ⟨hO, h⟩ := chk_spec h
  refine v_aload_n hC 0 0 dX9_fits_0 rfl ?_
  refine v_iload_n hC 1 1 dX9_fits_1 rfl ?_
  obtain ⟨x21, ex21, h⟩ := obn h
  refine qX9_104 hC rfl 2 ex21 (by decide) (catL (Nat.le_of_ble_eq_true rfl)) (by decide) dX9_fits_2 ?_
  refine v_if_eq hC 5 22 dX9_fits_5 (by decide) (fun c24 => ?_) (fun c24 => ?_)
  · replace h := ifp h c24
    refine v_iconst hC (-1 : Int32) 22 dX9_fits_22 (by decide) ?_
    obtain rfl := sp1 h
    exact v_iret hC 23 (by decide) (by decide) dX9_fits_23
  · replace h := ifn h c24
    refine v_aload_n hC 8 0 dX9_fits_8 rfl ?_
    refine v_iload_n hC 9 1 dX9_fits_9 rfl ?_
    refine v_bipush hC (17 : Int32) 10 dX9_fits_10 (by decide) ?_
    refine v_aload_n hC 12 0 dX9_fits_12 rfl ?_
    obtain ⟨x22, ex22, h⟩ := obn h
    refine gRX9_35 hC rfl 13 ex22 dX9_fits_13 ?_
    obtain ⟨x23, ex23, h⟩ := obn h
    refine qX9_184 hC rfl 16 ex23 (by decide) (catL (Nat.le_of_ble_eq_true rfl)) (by decide) dX9_fits_16 ?_
    refine v_goto hC 19 23 dX9_fits_19 (by decide) ?_
    obtain rfl := sp1 h
    exact v_iret hC 23 (by decide) (by decide) dX9_fits_23
abbrev rmX9_glass : Room := { frames := 2, cells := 0, slots := 0, locals := 42 }
theorem hdX9_glass : yX9_glass.cls ≠ "java/lang/invoke/MethodHandle" ∧ yX9_glass.cls ≠ "java/lang/invoke/VarHandle" ∧ (parseMethodDescriptor yX9_glass.desc).map (fun d => d.parameters.length) = some 3 := by decide +kernel
def fX9_glass (N : Nat) (S : pH) (r0 : Option Nat) (x1 : Int32) (x2 : Int32) (x3 : Int32) : Option (Int32 × pH) :=
  chk S 9 r0 <|
  (fX9_isGlass N S x1).bind fun x21 =>
  if x21 = 0 then
  (some ((-1 : Int32), S))
  else
  nm (fun (_ : Unit) =>
  nm (fun (_ : Unit) =>
  (fX9_in N S x2 (0 : Int32) (1 : Int32)).bind fun x22 =>
  if ¬ x22 = 0 then
  (nm (fun (x23 : Int32) =>
  if ¬ x2 = 0 then
  ((gfR S 9 1 r0).bind fun r24 =>
  (stI S r24 x1 x3).bind fun S25 =>
  some (x23, S25))
  else
  (gfR S 9 0 r0).bind fun r26 =>
  (stI S r26 x1 x3).bind fun S27 =>
  some (x23, S27)) fun j66 =>
  if ¬ x2 = 0 then
  ((gfR S 9 1 r0).bind fun r29 =>
  (ldI S 0 r29 x1).bind fun x30 =>
  j66 x30)
  else
  (gfR S 9 0 r0).bind fun r31 =>
  (ldI S 0 r31 x1).bind fun x32 =>
  j66 x32)
  else
  some ((-1 : Int32), S)) fun j36 =>
  if ¬ x2 = (1 : Int32) then
  (j36 ())
  else
  (fX9_in N S x3 (1 : Int32) (9 : Int32)).bind fun x35 =>
  if x35 = 0 then
  (some ((-1 : Int32), S))
  else
  j36 ()) fun j21 =>
  if ¬ x2 = 0 then
  (j21 ())
  else
  (fX9_in N S x3 (0 : Int32) (99 : Int32)).bind fun x38 =>
  if x38 = 0 then
  (some ((-1 : Int32), S))
  else
  j21 ()
theorem oX9_glass {N : Nat} {S : pH} {r0 : Option Nat} {x1 : Int32} {x2 : Int32} {x3 : Int32} {z : Int32 × pH} (h : fX9_glass N S r0 x1 x2 x3 = some z) : ∃ fs, obj S 9 r0 = some fs := by
  unfold fX9_glass at h
  exact (chk_spec h).1
set_option maxHeartbeats 1000000 in
set_option maxRecDepth 20000 in
theorem tX9_glass {l : Launch} {w : VW} {N : Nat} {S : pH} {r0 : Option Nat} {x1 : Int32} {x2 : Int32} {x3 : Int32} {v0 : Int32} {S0 : pH} (h : fX9_glass N S r0 x1 x2 x3 = some (v0, S0)) : CT l w yX9_glass cX9_glass 5 (some .int) rmX9_glass [va_rf r0, .int x1, .int x2, .int x3] S (some (.int v0)) S0 := by
  refine v_entry [(0, va_rf r0), (1, .int x1), (2, .int x2), (3, .int x3)] (by decide) (by simp [lg_sl, cat_rf, cat_i, cat_j]) (by simp [lv_args, cat_rf, cat_i, cat_j]) (fun g _ hC => ?_)
  unfold fX9_glass at h
  obtain ⟨hO, h⟩ := chk_spec h
  refine v_iload_n hC 0 1 dX9_glass_0 rfl ?_
  obtain ⟨x21, ex21, h⟩ := obn h
  refine qX9_108 hC rfl 1 ex21 (by decide) (catL (Nat.le_of_ble_eq_true rfl)) (by decide) dX9_glass_1 ?_
  refine v_if_eq hC 4 45 dX9_glass_4 (by decide) (fun c41 => ?_) (fun c41 => ?_)
  · replace h := ifp h c41
    refine v_iconst hC (-1 : Int32) 45 dX9_glass_45 (by decide) ?_
    obtain ⟨rfl, rfl⟩ := sp2 h
    exact v_iret hC 46 (by decide) (by decide) dX9_glass_46
  · replace h := ifn h c41
    refine v_iload_n hC 7 2 dX9_glass_7 rfl ?_
    obtain ⟨j21, f21, h⟩ := onm h
    have J21 : ∀ (u9 : Unit), j21 u9 = some (v0, S0) → V g w 5 (Qm g w rmX9_glass.cells rmX9_glass.slots (some (.int v0)) S0) S 0 0 21 [(0, va_rf r0), (1, .int x1), (2, .int x2), (3, .int x3)] [] := by
      intro u9 h
      replace h := jb1 f21 h
      refine v_iload_n hC 21 2 dX9_glass_21 rfl ?_
      refine v_iconst hC (1 : Int32) 22 dX9_glass_22 (by decide) ?_
      obtain ⟨j36, f36, h⟩ := onm h
      have J36 : ∀ (u9 : Unit), j36 u9 = some (v0, S0) → V g w 5 (Qm g w rmX9_glass.cells rmX9_glass.slots (some (.int v0)) S0) S 0 0 36 [(0, va_rf r0), (1, .int x1), (2, .int x2), (3, .int x3)] [] := by
        intro u9 h
        replace h := jb1 f36 h
        refine v_iload_n hC 36 2 dX9_glass_36 rfl ?_
        refine v_iconst hC (0 : Int32) 37 dX9_glass_37 (by decide) ?_
        refine v_iconst hC (1 : Int32) 38 dX9_glass_38 (by decide) ?_
        obtain ⟨x22, ex22, h⟩ := obn h
        refine qX9_97 hC rfl 39 ex22 (by decide) (catL (Nat.le_of_ble_eq_true rfl)) (by decide) dX9_glass_39 ?_
        refine v_if_ne hC 42 47 dX9_glass_42 (by decide) (fun c34 => ?_) (fun c34 => ?_)
        · replace h := ifp h c34
          refine v_iload_n hC 47 2 dX9_glass_47 rfl ?_
          obtain ⟨j66, f66, h⟩ := onm h
          have J66 : ∀ (x23 : Int32), j66 x23 = some (v0, S0) → V g w 5 (Qm g w rmX9_glass.cells rmX9_glass.slots (some (.int v0)) S0) S 0 0 66 [(0, va_rf r0), (1, .int x1), (2, .int x2), (3, .int x3)] [.int x23] := by
            intro x23 h
            replace h := jb1 f66 h
            refine v_istore hC [(4, .int x23), (0, va_rf r0), (1, .int x1), (2, .int x2), (3, .int x3)] 66 dX9_glass_66 (by decide) rfl ?_
            refine v_iload_n hC 68 3 dX9_glass_68 rfl ?_
            refine v_if_ne hC 69 82 dX9_glass_69 (by decide) (fun c28 => ?_) (fun c28 => ?_)
            · replace h := ifp h c28
              refine v_aload_n hC 82 1 dX9_glass_82 rfl ?_
              obtain ⟨r24, er24, h⟩ := obn h
              refine gRX9_13 hC rfl 83 er24 dX9_glass_83 ?_
              refine v_iload_n hC 86 2 dX9_glass_86 rfl ?_
              refine v_iload_n hC 87 4 dX9_glass_87 rfl ?_
              obtain ⟨S25, eS25, h⟩ := obn h
              refine v_iast hC 88 eS25 dX9_glass_88 ?_
              refine v_iload hC 89 0 dX9_glass_89 rfl ?_
              obtain ⟨rfl, rfl⟩ := sp2 h
              exact v_iret hC 91 (by decide) (by decide) dX9_glass_91
            · replace h := ifn h (fun q => q c28)
              refine v_aload_n hC 72 1 dX9_glass_72 rfl ?_
              obtain ⟨r26, er26, h⟩ := obn h
              refine gRX9_7 hC rfl 73 er26 dX9_glass_73 ?_
              refine v_iload_n hC 76 2 dX9_glass_76 rfl ?_
              refine v_iload_n hC 77 4 dX9_glass_77 rfl ?_
              obtain ⟨S27, eS27, h⟩ := obn h
              refine v_iast hC 78 eS27 dX9_glass_78 ?_
              refine v_goto hC 79 89 dX9_glass_79 (by decide) ?_
              refine v_iload hC 89 0 dX9_glass_89 rfl ?_
              obtain ⟨rfl, rfl⟩ := sp2 h
              exact v_iret hC 91 (by decide) (by decide) dX9_glass_91
          refine v_if_ne hC 48 60 dX9_glass_48 (by decide) (fun c33 => ?_) (fun c33 => ?_)
          · replace h := ifp h c33
            refine v_aload_n hC 60 0 dX9_glass_60 rfl ?_
            obtain ⟨r29, er29, h⟩ := obn h
            refine gRX9_13 hC rfl 61 er29 dX9_glass_61 ?_
            refine v_iload_n hC 64 1 dX9_glass_64 rfl ?_
            obtain ⟨x30, ex30, h⟩ := obn h
            refine v_iald hC 65 ex30 dX9_glass_65 ?_
            refine v_sub [(0, va_rf r0), (1, .int x1), (2, .int x2), (3, .int x3)] [0, 1, 2, 3] rfl ?_
            exact J66 _ h
          · replace h := ifn h (fun q => q c33)
            refine v_aload_n hC 51 0 dX9_glass_51 rfl ?_
            obtain ⟨r31, er31, h⟩ := obn h
            refine gRX9_7 hC rfl 52 er31 dX9_glass_52 ?_
            refine v_iload_n hC 55 1 dX9_glass_55 rfl ?_
            obtain ⟨x32, ex32, h⟩ := obn h
            refine v_iald hC 56 ex32 dX9_glass_56 ?_
            refine v_goto hC 57 66 dX9_glass_57 (by decide) ?_
            refine v_sub [(0, va_rf r0), (1, .int x1), (2, .int x2), (3, .int x3)] [0, 1, 2, 3] rfl ?_
            exact J66 _ h
        · replace h := ifn h (fun q => q c34)
          refine v_iconst hC (-1 : Int32) 45 dX9_glass_45 (by decide) ?_
          obtain ⟨rfl, rfl⟩ := sp2 h
          exact v_iret hC 46 (by decide) (by decide) dX9_glass_46
      refine v_icmp_ne hC 23 36 dX9_glass_23 (by decide) (fun c37 => ?_) (fun c37 => ?_)
      · replace h := ifp h c37
        refine v_sub [(0, va_rf r0), (1, .int x1), (2, .int x2), (3, .int x3)] [0, 1, 2, 3] rfl ?_
        exact J36 _ h
      · replace h := ifn h (fun q => q c37)
        refine v_iload_n hC 26 3 dX9_glass_26 rfl ?_
        refine v_iconst hC (1 : Int32) 27 dX9_glass_27 (by decide) ?_
        refine v_bipush hC (9 : Int32) 28 dX9_glass_28 (by decide) ?_
        obtain ⟨x35, ex35, h⟩ := obn h
        refine qX9_97 hC rfl 30 ex35 (by decide) (catL (Nat.le_of_ble_eq_true rfl)) (by decide) dX9_glass_30 ?_
        refine v_if_eq hC 33 45 dX9_glass_33 (by decide) (fun c36 => ?_) (fun c36 => ?_)
        · replace h := ifp h c36
          refine v_iconst hC (-1 : Int32) 45 dX9_glass_45 (by decide) ?_
          obtain ⟨rfl, rfl⟩ := sp2 h
          exact v_iret hC 46 (by decide) (by decide) dX9_glass_46
        · replace h := ifn h c36
          refine v_sub [(0, va_rf r0), (1, .int x1), (2, .int x2), (3, .int x3)] [0, 1, 2, 3] rfl ?_
          exact J36 _ h
    refine v_if_ne hC 8 21 dX9_glass_8 (by decide) (fun c40 => ?_) (fun c40 => ?_)
    · replace h := ifp h c40
      refine v_sub [(0, va_rf r0), (1, .int x1), (2, .int x2), (3, .int x3)] [0, 1, 2, 3] rfl ?_
      exact J21 _ h
    · replace h := ifn h (fun q => q c40)
      refine v_iload_n hC 11 3 dX9_glass_11 rfl ?_
      refine v_iconst hC (0 : Int32) 12 dX9_glass_12 (by decide) ?_
      refine v_bipush hC (99 : Int32) 13 dX9_glass_13 (by decide) ?_
      obtain ⟨x38, ex38, h⟩ := obn h
      refine qX9_97 hC rfl 15 ex38 (by decide) (catL (Nat.le_of_ble_eq_true rfl)) (by decide) dX9_glass_15 ?_
      refine v_if_eq hC 18 45 dX9_glass_18 (by decide) (fun c39 => ?_) (fun c39 => ?_)
      · replace h := ifp h c39
        refine v_iconst hC (-1 : Int32) 45 dX9_glass_45 (by decide) ?_
        obtain ⟨rfl, rfl⟩ := sp2 h
        exact v_iret hC 46 (by decide) (by decide) dX9_glass_46
      · replace h := ifn h c39
        refine v_sub [(0, va_rf r0), (1, .int x1), (2, .int x2), (3, .int x3)] [0, 1, 2, 3] rfl ?_
        exact J21 _ h
abbrev rmX9_hasColumns : Room := { frames := 2, cells := 0, slots := 0, locals := 53 }
theorem hdX9_hasColumns : yX9_hasColumns.cls ≠ "java/lang/invoke/MethodHandle" ∧ yX9_hasColumns.cls ≠ "java/lang/invoke/VarHandle" ∧ (parseMethodDescriptor yX9_hasColumns.desc).map (fun d => d.parameters.length) = some 4 := by decide +kernel
def lX9_hasColumns_16 (N : Nat) (S : pH) (r0 : Option Nat) (x1 : Int32) (x2 : Int32) (x4 : Int32) (x6 : Int32) : Nat → Int32 → Int32 → Option (Int32)
  | 0, _, _ => none
  | n + 1, x23, x24 =>
    (gfI S 9 9 r0).bind fun x25 =>
    if x25 ≤ x24 then
    (some x23)
    else
    (fX9_at N S r0 (17 : Int32) x6 x24).bind fun x26 =>
    nm (fun (x27 : Int32) =>
    nm (x24 + (1 : Int32)) fun x28 =>
    lX9_hasColumns_16 N S r0 x1 x2 x4 x6 n x27 x28) fun j74 =>
    nm (fun (_ : Unit) =>
    j74 (0 : Int32)) fun j73 =>
    if x23 = 0 then
    (j73 ())
    else
    nm (fun (_ : Unit) =>
    j74 (1 : Int32)) fun j69 =>
    if x26 = (-9 : Int32) then
    (j69 ())
    else
    (gfI S 9 9 r0).bind fun x29 =>
    (fX9_shown N S r0 x1 x29 x6 x24 x2 (0 : Int32)).bind fun x30 =>
    if ¬ x26 = x30 then
    (j73 ())
    else
    j69 ()
def lX9_hasColumns_6 (N : Nat) (S : pH) (r0 : Option Nat) (x1 : Int32) (x2 : Int32) (x4 : Int32) : Nat → Int32 → Int32 → Option (Int32)
  | 0, _, _ => none
  | n + 1, x21, x22 =>
    if x4 ≤ x22 then
    (some x21)
    else
    (lX9_hasColumns_16 N S r0 x1 x2 x4 x22 N x21 (0 : Int32)).bind fun x35 =>
    nm (x22 + (1 : Int32)) fun x36 =>
    lX9_hasColumns_6 N S r0 x1 x2 x4 n x35 x36
def fX9_hasColumns (N : Nat) (S : pH) (r0 : Option Nat) (x1 : Int32) (x2 : Int32) (x3 : Int32) (x4 : Int32) : Option (Int32) :=
  chk S 9 r0 <|
  (lX9_hasColumns_6 N S r0 x1 x2 x4 N (1 : Int32) x3).bind fun x38 =>
  if x38 = 0 ∨ x38 = 1 then some x38 else none
theorem oX9_hasColumns {N : Nat} {S : pH} {r0 : Option Nat} {x1 : Int32} {x2 : Int32} {x3 : Int32} {x4 : Int32} {z : Int32} (h : fX9_hasColumns N S r0 x1 x2 x3 x4 = some z) : ∃ fs, obj S 9 r0 = some fs := by
  unfold fX9_hasColumns at h
  exact (chk_spec h).1
set_option maxHeartbeats 1000000 in
set_option maxRecDepth 20000 in
theorem kX9_hasColumns_16 {g : VG} {w : VW} {N : Nat} {S : pH} {r0 : Option Nat} {x1 : Int32} {x2 : Int32} {x4 : Int32} {x6 : Int32} {v0 : Int32} (hC : Cx g yX9_hasColumns cX9_hasColumns 9 (some .boolean) rmX9_hasColumns w) : ∀ (n : Nat) (x23 : Int32) (x24 : Int32) (z : (Int32)), lX9_hasColumns_16 N S r0 x1 x2 x4 x6 n x23 x24 = some z → (∀ (e0 : Int32), z = e0 → V g w 9 (Qm g w rmX9_hasColumns.cells rmX9_hasColumns.slots (some (.int v0)) S) S 0 0 82 [(0, va_rf r0), (1, .int x1), (2, .int x2), (4, .int x4), (5, .int e0), (6, .int x6)] []) → V g w 9 (Qm g w rmX9_hasColumns.cells rmX9_hasColumns.slots (some (.int v0)) S) S 0 0 16 [(0, va_rf r0), (1, .int x1), (2, .int x2), (4, .int x4), (5, .int x23), (6, .int x6), (7, .int x24)] [] := by
  intro n
  induction n with
  | zero => intro x23 x24 z h; rw [lX9_hasColumns_16] at h; cases h
  | succ n ih =>
    intro x23 x24 z h K
    rw [lX9_hasColumns_16] at h
    refine v_iload hC 16 6 dX9_hasColumns_16 rfl ?_
    refine v_aload_n hC 18 0 dX9_hasColumns_18 rfl ?_
    obtain ⟨x25, ex25, h⟩ := obn h
    refine gRX9_35 hC rfl 19 ex25 dX9_hasColumns_19 ?_
    refine v_icmp_ge hC 22 82 dX9_hasColumns_22 (by decide) (fun c34 => ?_) (fun c34 => ?_)
    · replace h := ifp h c34
      refine v_sub [(0, va_rf r0), (1, .int x1), (2, .int x2), (4, .int x4), (5, .int x23), (6, .int x6)] [0, 1, 2, 3, 4, 5] rfl ?_
      exact K _ (sp1 h)
    · replace h := ifn h c34
      refine v_aload_n hC 25 0 dX9_hasColumns_25 rfl ?_
      refine v_bipush hC (17 : Int32) 26 dX9_hasColumns_26 (by decide) ?_
      refine v_iload hC 28 5 dX9_hasColumns_28 rfl ?_
      refine v_iload hC 30 6 dX9_hasColumns_30 rfl ?_
      obtain ⟨x26, ex26, h⟩ := obn h
      refine qX9_121 hC rfl 32 ex26 (by decide) (catL (Nat.le_of_ble_eq_true rfl)) (by decide) dX9_hasColumns_32 ?_
      refine v_istore hC [(8, .int x26), (0, va_rf r0), (1, .int x1), (2, .int x2), (4, .int x4), (5, .int x23), (6, .int x6), (7, .int x24)] 35 dX9_hasColumns_35 (by decide) rfl ?_
      refine v_iload hC 37 5 dX9_hasColumns_37 rfl ?_
      obtain ⟨j74, f74, h⟩ := onm h
      have J74 : ∀ (x27 : Int32), j74 x27 = some z → V g w 9 (Qm g w rmX9_hasColumns.cells rmX9_hasColumns.slots (some (.int v0)) S) S 0 0 74 [(0, va_rf r0), (1, .int x1), (2, .int x2), (4, .int x4), (6, .int x6), (7, .int x24)] [.int x27] := by
        intro x27 h
        replace h := jb1 f74 h
        refine v_istore hC [(5, .int x27), (0, va_rf r0), (1, .int x1), (2, .int x2), (4, .int x4), (6, .int x6), (7, .int x24)] 74 dX9_hasColumns_74 (by decide) rfl ?_
        obtain ⟨x28, ex28, h⟩ := onm h
        refine v_iinc hC x28 [(7, .int x28), (5, .int x27), (0, va_rf r0), (1, .int x1), (2, .int x2), (4, .int x4), (6, .int x6)] 76 6 dX9_hasColumns_76 rfl (by rw [ex28]; rfl) (by decide) rfl ?_
        refine v_goto hC 79 16 dX9_hasColumns_79 (by decide) ?_
        refine v_sub [(0, va_rf r0), (1, .int x1), (2, .int x2), (4, .int x4), (5, .int x27), (6, .int x6), (7, .int x28)] [2, 3, 4, 5, 1, 6, 0] rfl ?_
        exact ih _ _ _ h K
      obtain ⟨j73, f73, h⟩ := onm h
      have J73 : ∀ (u9 : Unit), j73 u9 = some z → V g w 9 (Qm g w rmX9_hasColumns.cells rmX9_hasColumns.slots (some (.int v0)) S) S 0 0 73 [(0, va_rf r0), (1, .int x1), (2, .int x2), (4, .int x4), (6, .int x6), (7, .int x24)] [] := by
        intro u9 h
        replace h := jb1 f73 h
        refine v_iconst hC (0 : Int32) 73 dX9_hasColumns_73 (by decide) ?_
        refine v_sub [(0, va_rf r0), (1, .int x1), (2, .int x2), (4, .int x4), (6, .int x6), (7, .int x24)] [0, 1, 2, 3, 4, 5] rfl ?_
        exact J74 _ h
      refine v_if_eq hC 39 73 dX9_hasColumns_39 (by decide) (fun c33 => ?_) (fun c33 => ?_)
      · replace h := ifp h c33
        refine v_sub [(0, va_rf r0), (1, .int x1), (2, .int x2), (4, .int x4), (6, .int x6), (7, .int x24)] [1, 2, 3, 4, 6, 7] rfl ?_
        exact J73 _ h
      · replace h := ifn h c33
        refine v_iload hC 42 0 dX9_hasColumns_42 rfl ?_
        refine v_bipush hC (-9 : Int32) 44 dX9_hasColumns_44 (by decide) ?_
        obtain ⟨j69, f69, h⟩ := onm h
        have J69 : ∀ (u9 : Unit), j69 u9 = some z → V g w 9 (Qm g w rmX9_hasColumns.cells rmX9_hasColumns.slots (some (.int v0)) S) S 0 0 69 [(0, va_rf r0), (1, .int x1), (2, .int x2), (4, .int x4), (6, .int x6), (7, .int x24)] [] := by
          intro u9 h
          replace h := jb1 f69 h
          refine v_iconst hC (1 : Int32) 69 dX9_hasColumns_69 (by decide) ?_
          refine v_goto hC 70 74 dX9_hasColumns_70 (by decide) ?_
          refine v_sub [(0, va_rf r0), (1, .int x1), (2, .int x2), (4, .int x4), (6, .int x6), (7, .int x24)] [0, 1, 2, 3, 4, 5] rfl ?_
          exact J74 _ h
        refine v_icmp_eq hC 46 69 dX9_hasColumns_46 (by decide) (fun c32 => ?_) (fun c32 => ?_)
        · replace h := ifp h c32
          refine v_sub [(0, va_rf r0), (1, .int x1), (2, .int x2), (4, .int x4), (6, .int x6), (7, .int x24)] [1, 2, 3, 4, 6, 7] rfl ?_
          exact J69 _ h
        · replace h := ifn h c32
          refine v_iload hC 49 0 dX9_hasColumns_49 rfl ?_
          refine v_aload_n hC 51 1 dX9_hasColumns_51 rfl ?_
          refine v_iload_n hC 52 2 dX9_hasColumns_52 rfl ?_
          refine v_aload_n hC 53 1 dX9_hasColumns_53 rfl ?_
          obtain ⟨x29, ex29, h⟩ := obn h
          refine gRX9_35 hC rfl 54 ex29 dX9_hasColumns_54 ?_
          refine v_iload hC 57 6 dX9_hasColumns_57 rfl ?_
          refine v_iload hC 59 7 dX9_hasColumns_59 rfl ?_
          refine v_iload_n hC 61 3 dX9_hasColumns_61 rfl ?_
          refine v_iconst hC (0 : Int32) 62 dX9_hasColumns_62 (by decide) ?_
          obtain ⟨x30, ex30, h⟩ := obn h
          refine qX9_147 hC rfl 63 ex30 (by decide) (catL (Nat.le_of_ble_eq_true rfl)) (by decide) dX9_hasColumns_63 ?_
          refine v_icmp_ne hC 66 73 dX9_hasColumns_66 (by decide) (fun c31 => ?_) (fun c31 => ?_)
          · replace h := ifp h c31
            refine v_sub [(0, va_rf r0), (1, .int x1), (2, .int x2), (4, .int x4), (6, .int x6), (7, .int x24)] [1, 2, 3, 4, 6, 7] rfl ?_
            exact J73 _ h
          · replace h := ifn h (fun q => q c31)
            refine v_sub [(0, va_rf r0), (1, .int x1), (2, .int x2), (4, .int x4), (6, .int x6), (7, .int x24)] [1, 2, 3, 4, 6, 7] rfl ?_
            exact J69 _ h
set_option maxHeartbeats 1000000 in
set_option maxRecDepth 20000 in
theorem kX9_hasColumns_6 {g : VG} {w : VW} {N : Nat} {S : pH} {r0 : Option Nat} {x1 : Int32} {x2 : Int32} {x4 : Int32} {v0 : Int32} (hC : Cx g yX9_hasColumns cX9_hasColumns 9 (some .boolean) rmX9_hasColumns w) : ∀ (n : Nat) (x21 : Int32) (x22 : Int32) (z : (Int32)), lX9_hasColumns_6 N S r0 x1 x2 x4 n x21 x22 = some z → (∀ (e0 : Int32), z = e0 → V g w 9 (Qm g w rmX9_hasColumns.cells rmX9_hasColumns.slots (some (.int v0)) S) S 0 0 88 [(5, .int e0)] []) → V g w 9 (Qm g w rmX9_hasColumns.cells rmX9_hasColumns.slots (some (.int v0)) S) S 0 0 6 [(0, va_rf r0), (1, .int x1), (2, .int x2), (4, .int x4), (5, .int x21), (6, .int x22)] [] := by
  intro n
  induction n with
  | zero => intro x21 x22 z h; rw [lX9_hasColumns_6] at h; cases h
  | succ n ih =>
    intro x21 x22 z h K
    rw [lX9_hasColumns_6] at h
    refine v_iload hC 6 5 dX9_hasColumns_6 rfl ?_
    refine v_iload hC 8 3 dX9_hasColumns_8 rfl ?_
    refine v_icmp_ge hC 10 88 dX9_hasColumns_10 (by decide) (fun c37 => ?_) (fun c37 => ?_)
    · replace h := ifp h c37
      refine v_sub [(5, .int x21)] [4] rfl ?_
      exact K _ (sp1 h)
    · replace h := ifn h c37
      refine v_iconst hC (0 : Int32) 13 dX9_hasColumns_13 (by decide) ?_
      refine v_istore hC [(7, .int (0 : Int32)), (0, va_rf r0), (1, .int x1), (2, .int x2), (4, .int x4), (5, .int x21), (6, .int x22)] 14 dX9_hasColumns_14 (by decide) rfl ?_
      obtain ⟨x35, E16, h⟩ := obn h
      refine v_sub [(0, va_rf r0), (1, .int x1), (2, .int x2), (4, .int x4), (5, .int x21), (6, .int x22), (7, .int (0 : Int32))] [1, 2, 3, 4, 5, 6, 0] rfl ?_
      refine kX9_hasColumns_16 hC _ _ _ _ E16 (fun _ hz9 => ?_)
      cases hz9
      obtain ⟨x36, ex36, h⟩ := onm h
      refine v_iinc hC x36 [(6, .int x36), (0, va_rf r0), (1, .int x1), (2, .int x2), (4, .int x4), (5, .int x35)] 82 5 dX9_hasColumns_82 rfl (by rw [ex36]; rfl) (by decide) rfl ?_
      refine v_goto hC 85 6 dX9_hasColumns_85 (by decide) ?_
      refine v_sub [(0, va_rf r0), (1, .int x1), (2, .int x2), (4, .int x4), (5, .int x35), (6, .int x36)] [1, 2, 3, 4, 5, 0] rfl ?_
      exact ih _ _ _ h K
set_option maxHeartbeats 1000000 in
set_option maxRecDepth 20000 in
theorem tX9_hasColumns {l : Launch} {w : VW} {N : Nat} {S : pH} {r0 : Option Nat} {x1 : Int32} {x2 : Int32} {x3 : Int32} {x4 : Int32} {v0 : Int32} (h : fX9_hasColumns N S r0 x1 x2 x3 x4 = some v0) : CT l w yX9_hasColumns cX9_hasColumns 9 (some .boolean) rmX9_hasColumns [va_rf r0, .int x1, .int x2, .int x3, .int x4] S (some (.int v0)) S := by
  refine v_entry [(0, va_rf r0), (1, .int x1), (2, .int x2), (3, .int x3), (4, .int x4)] (by decide) (by simp [lg_sl, cat_rf, cat_i, cat_j]) (by simp [lv_args, cat_rf, cat_i, cat_j]) (fun g _ hC => ?_)
  unfold fX9_hasColumns at h
  obtain ⟨hO, h⟩ := chk_spec h
  refine v_iconst hC (1 : Int32) 0 dX9_hasColumns_0 (by decide) ?_
  refine v_istore hC [(5, .int (1 : Int32)), (0, va_rf r0), (1, .int x1), (2, .int x2), (3, .int x3), (4, .int x4)] 1 dX9_hasColumns_1 (by decide) rfl ?_
  refine v_iload_n hC 3 4 dX9_hasColumns_3 rfl ?_
  refine v_istore hC [(6, .int x3), (5, .int (1 : Int32)), (0, va_rf r0), (1, .int x1), (2, .int x2), (3, .int x3), (4, .int x4)] 4 dX9_hasColumns_4 (by decide) rfl ?_
  obtain ⟨x38, E6, h⟩ := obn h
  refine v_sub [(0, va_rf r0), (1, .int x1), (2, .int x2), (4, .int x4), (5, .int (1 : Int32)), (6, .int x3)] [2, 3, 4, 6, 1, 0] rfl ?_
  refine kX9_hasColumns_6 hC _ _ _ _ E6 (fun _ hz9 => ?_)
  cases hz9
  refine v_iload hC 88 0 dX9_hasColumns_88 rfl ?_
  obtain ⟨hz9, h⟩ := if0 h
  obtain rfl := sp1 h
  exact v_zret hC 90 (by decide) (by decide) hz9 dX9_hasColumns_90
abbrev rmX9_init : Room := { frames := 1, cells := 23, slots := 6000, locals := 12 }
theorem hdX9_init : yX9_init.cls ≠ "java/lang/invoke/MethodHandle" ∧ yX9_init.cls ≠ "java/lang/invoke/VarHandle" ∧ (parseMethodDescriptor yX9_init.desc).map (fun d => d.parameters.length) = some 0 := by decide +kernel
def lX9_init_219 (N : Nat) (r0 : Option Nat) : Nat → Int32 → pH → Option (pH)
  | 0, _, _ => none
  | n + 1, x95, S96 =>
    if (9 : Int32) ≤ x95 then
    (some S96)
    else
    (gfR S96 9 0 r0).bind fun r97 =>
    (stI S96 r97 x95 ((10 : Int32) * x95)).bind fun S98 =>
    (gfR S98 9 1 r0).bind fun r99 =>
    (stI S98 r99 x95 (1 : Int32)).bind fun S100 =>
    nm (x95 + (1 : Int32)) fun x101 =>
    lX9_init_219 N r0 n x101 S100
def lX9_init_250 (N : Nat) (r0 : Option Nat) : Nat → Int32 → pH → Option (pH)
  | 0, _, _ => none
  | n + 1, x104, S105 =>
    if (16 : Int32) ≤ x104 then
    (some S105)
    else
    (gfR S105 9 11 r0).bind fun r106 =>
    (stI S105 r106 x104 (-9 : Int32)).bind fun S107 =>
    nm (x104 + (1 : Int32)) fun x108 =>
    lX9_init_250 N r0 n x108 S107
def fX9_init (N : Nat) (b : Nat) (S : pH) (r0 : Option Nat) : Option (pH) :=
  chk S 9 r0 <|
  nm (b + S.1) fun q21 =>
  nm (puS b S (pI 9 (fun _ => 0))) fun S22 =>
  (pfV S22 9 0 r0 (va_rf (some q21))).bind fun S23 =>
  nm (b + S23.1) fun q24 =>
  nm (puS b S23 (pI 9 (fun _ => 0))) fun S25 =>
  (pfV S25 9 1 r0 (va_rf (some q24))).bind fun S26 =>
  nm (b + S26.1) fun q27 =>
  nm (puS b S26 (pI 16 (fun _ => 0))) fun S28 =>
  (pfV S28 9 3 r0 (va_rf (some q27))).bind fun S29 =>
  nm (b + S29.1) fun q30 =>
  nm (puS b S29 (pI 16 (fun _ => 0))) fun S31 =>
  (pfV S31 9 4 r0 (va_rf (some q30))).bind fun S32 =>
  nm (b + S32.1) fun q33 =>
  nm (puS b S32 (pI 16 (fun _ => 0))) fun S34 =>
  (pfV S34 9 5 r0 (va_rf (some q33))).bind fun S35 =>
  nm (b + S35.1) fun q36 =>
  nm (puS b S35 (pI 16 (fun _ => 0))) fun S37 =>
  (pfV S37 9 6 r0 (va_rf (some q36))).bind fun S38 =>
  nm (b + S38.1) fun q39 =>
  nm (puS b S38 (pI 1152 (fun _ => 0))) fun S40 =>
  (pfV S40 9 7 r0 (va_rf (some q39))).bind fun S41 =>
  (pfV S41 9 8 r0 (.int (1 : Int32))).bind fun S42 =>
  (pfV S42 9 9 r0 (.int (1 : Int32))).bind fun S43 =>
  (pfV S43 9 10 r0 (.int (2 : Int32))).bind fun S44 =>
  nm (b + S44.1) fun q45 =>
  nm (puS b S44 (pI 16 (fun _ => 0))) fun S46 =>
  (pfV S46 9 11 r0 (va_rf (some q45))).bind fun S47 =>
  nm (b + S47.1) fun q48 =>
  nm (puS b S47 (pI 16 (fun _ => 0))) fun S49 =>
  (pfV S49 9 12 r0 (va_rf (some q48))).bind fun S50 =>
  nm (b + S50.1) fun q51 =>
  nm (puS b S50 (pJ 9 (fun _ => 0))) fun S52 =>
  (pfV S52 9 13 r0 (va_rf (some q51))).bind fun S53 =>
  nm (b + S53.1) fun q54 =>
  nm (puS b S53 (pJ 9 (fun _ => 0))) fun S55 =>
  (pfV S55 9 14 r0 (va_rf (some q54))).bind fun S56 =>
  (pfV S56 9 15 r0 (.int (15 : Int32))).bind fun S57 =>
  nm (b + S57.1) fun q58 =>
  nm (puS b S57 (pI 8 (fun _ => 0))) fun S59 =>
  (pfV S59 9 17 r0 (va_rf (some q58))).bind fun S60 =>
  (pfV S60 9 18 r0 (.int (1 : Int32))).bind fun S61 =>
  nm (b + S61.1) fun q62 =>
  nm (puS b S61 (pI 6 (fun _ => 0))) fun S63 =>
  (pfV S63 9 20 r0 (va_rf (some q62))).bind fun S64 =>
  nm (b + S64.1) fun q65 =>
  nm (puS b S64 (pI 6 (fun _ => 0))) fun S66 =>
  (pfV S66 9 21 r0 (va_rf (some q65))).bind fun S67 =>
  nm (b + S67.1) fun q68 =>
  nm (puS b S67 (pI 6 (fun _ => 0))) fun S69 =>
  (pfV S69 9 22 r0 (va_rf (some q68))).bind fun S70 =>
  nm (b + S70.1) fun q71 =>
  nm (puS b S70 (pI 64 (fun _ => 0))) fun S72 =>
  (pfV S72 9 24 r0 (va_rf (some q71))).bind fun S73 =>
  nm (b + S73.1) fun q74 =>
  nm (puS b S73 (pI 64 (fun _ => 0))) fun S75 =>
  (pfV S75 9 25 r0 (va_rf (some q74))).bind fun S76 =>
  nm (b + S76.1) fun q77 =>
  nm (puS b S76 (pI 64 (fun _ => 0))) fun S78 =>
  (pfV S78 9 26 r0 (va_rf (some q77))).bind fun S79 =>
  nm (b + S79.1) fun q80 =>
  nm (puS b S79 (pZ 4096 (fun _ => 0))) fun S81 =>
  (pfV S81 9 27 r0 (va_rf (some q80))).bind fun S82 =>
  nm (b + S82.1) fun q83 =>
  nm (puS b S82 (pJ 64 (fun _ => 0))) fun S84 =>
  (pfV S84 9 28 r0 (va_rf (some q83))).bind fun S85 =>
  nm (b + S85.1) fun q86 =>
  nm (puS b S85 (pJ 64 (fun _ => 0))) fun S87 =>
  (pfV S87 9 29 r0 (va_rf (some q86))).bind fun S88 =>
  nm (b + S88.1) fun q89 =>
  nm (puS b S88 (pI 256 (fun _ => 0))) fun S90 =>
  (pfV S90 9 30 r0 (va_rf (some q89))).bind fun S91 =>
  nm (b + S91.1) fun q92 =>
  nm (puS b S91 (pZ 18 (fun _ => 0))) fun S93 =>
  (pfV S93 9 31 r0 (va_rf (some q92))).bind fun S94 =>
  (lX9_init_219 N r0 N (1 : Int32) S94).bind fun S103 =>
  (lX9_init_250 N r0 N (0 : Int32) S103).bind fun S110 =>
  (gfR S110 9 7 r0).bind fun r111 =>
  (stI S110 r111 (1088 : Int32) (-9 : Int32)).bind fun S112 =>
  some S112
theorem oX9_init {b : Nat} {N : Nat} {S : pH} {r0 : Option Nat} {z : pH} (h : fX9_init N b S r0 = some z) : ∃ fs, obj S 9 r0 = some fs := by
  unfold fX9_init at h
  exact (chk_spec h).1
set_option maxHeartbeats 1000000 in
set_option maxRecDepth 20000 in
theorem kX9_init_219 {g : VG} {w : VW} {N : Nat} {r0 : Option Nat} {S0 : pH} (hC : Cx g yX9_init cX9_init 2 none rmX9_init w) : ∀ (n : Nat) (x95 : Int32) (S96 : pH) (z : (pH)), lX9_init_219 N r0 n x95 S96 = some z → (∀ (e0 : pH), z = e0 → V g w 2 (Qm g w rmX9_init.cells rmX9_init.slots none S0) e0 23 6000 248 [(0, va_rf r0)] []) → V g w 2 (Qm g w rmX9_init.cells rmX9_init.slots none S0) S96 23 6000 219 [(0, va_rf r0), (1, .int x95)] [] := by
  intro n
  induction n with
  | zero => intro x95 S96 z h; rw [lX9_init_219] at h; cases h
  | succ n ih =>
    intro x95 S96 z h K
    rw [lX9_init_219] at h
    refine v_iload_n hC 219 1 dX9_init_219 rfl ?_
    refine v_bipush hC (9 : Int32) 220 dX9_init_220 (by decide) ?_
    refine v_icmp_ge hC 222 248 dX9_init_222 (by decide) (fun c102 => ?_) (fun c102 => ?_)
    · replace h := ifp h c102
      refine v_sub [(0, va_rf r0)] [0] rfl ?_
      exact K _ (sp1 h)
    · replace h := ifn h c102
      refine v_aload_n hC 225 0 dX9_init_225 rfl ?_
      obtain ⟨r97, er97, h⟩ := obn h
      refine gRX9_7 hC rfl 226 er97 dX9_init_226 ?_
      refine v_iload_n hC 229 1 dX9_init_229 rfl ?_
      refine v_bipush hC (10 : Int32) 230 dX9_init_230 (by decide) ?_
      refine v_iload_n hC 232 1 dX9_init_232 rfl ?_
      refine v_imul hC 233 dX9_init_233 ?_
      obtain ⟨S98, eS98, h⟩ := obn h
      refine v_iast hC 234 eS98 dX9_init_234 ?_
      refine v_aload_n hC 235 0 dX9_init_235 rfl ?_
      obtain ⟨r99, er99, h⟩ := obn h
      refine gRX9_13 hC rfl 236 er99 dX9_init_236 ?_
      refine v_iload_n hC 239 1 dX9_init_239 rfl ?_
      refine v_iconst hC (1 : Int32) 240 dX9_init_240 (by decide) ?_
      obtain ⟨S100, eS100, h⟩ := obn h
      refine v_iast hC 241 eS100 dX9_init_241 ?_
      obtain ⟨x101, ex101, h⟩ := onm h
      refine v_iinc hC x101 [(1, .int x101), (0, va_rf r0)] 242 1 dX9_init_242 rfl (by rw [ex101]; rfl) (by decide) (by first | rfl | (simp [cat_rf, cat_i, cat_j]; done) | (simp [cat_rf, cat_i, cat_j]; decide)) ?_
      refine v_goto hC 245 219 dX9_init_245 (by decide) ?_
      refine v_sub [(0, va_rf r0), (1, .int x101)] [1, 0] rfl ?_
      exact ih _ _ _ h K
set_option maxHeartbeats 1000000 in
set_option maxRecDepth 20000 in
theorem kX9_init_250 {g : VG} {w : VW} {N : Nat} {r0 : Option Nat} {S0 : pH} (hC : Cx g yX9_init cX9_init 2 none rmX9_init w) : ∀ (n : Nat) (x104 : Int32) (S105 : pH) (z : (pH)), lX9_init_250 N r0 n x104 S105 = some z → (∀ (e0 : pH), z = e0 → V g w 2 (Qm g w rmX9_init.cells rmX9_init.slots none S0) e0 23 6000 270 [(0, va_rf r0)] []) → V g w 2 (Qm g w rmX9_init.cells rmX9_init.slots none S0) S105 23 6000 250 [(0, va_rf r0), (1, .int x104)] [] := by
  intro n
  induction n with
  | zero => intro x104 S105 z h; rw [lX9_init_250] at h; cases h
  | succ n ih =>
    intro x104 S105 z h K
    rw [lX9_init_250] at h
    refine v_iload_n hC 250 1 dX9_init_250 rfl ?_
    refine v_bipush hC (16 : Int32) 251 dX9_init_251 (by decide) ?_
    refine v_icmp_ge hC 253 270 dX9_init_253 (by decide) (fun c109 => ?_) (fun c109 => ?_)
    · replace h := ifp h c109
      refine v_sub [(0, va_rf r0)] [0] rfl ?_
      exact K _ (sp1 h)
    · replace h := ifn h c109
      refine v_aload_n hC 256 0 dX9_init_256 rfl ?_
      obtain ⟨r106, er106, h⟩ := obn h
      refine gRX9_41 hC rfl 257 er106 dX9_init_257 ?_
      refine v_iload_n hC 260 1 dX9_init_260 rfl ?_
      refine v_bipush hC (-9 : Int32) 261 dX9_init_261 (by decide) ?_
      obtain ⟨S107, eS107, h⟩ := obn h
      refine v_iast hC 263 eS107 dX9_init_263 ?_
      obtain ⟨x108, ex108, h⟩ := onm h
      refine v_iinc hC x108 [(1, .int x108), (0, va_rf r0)] 264 1 dX9_init_264 rfl (by rw [ex108]; rfl) (by decide) (by first | rfl | (simp [cat_rf, cat_i, cat_j]; done) | (simp [cat_rf, cat_i, cat_j]; decide)) ?_
      refine v_goto hC 267 250 dX9_init_267 (by decide) ?_
      refine v_sub [(0, va_rf r0), (1, .int x108)] [1, 0] rfl ?_
      exact ih _ _ _ h K
set_option maxHeartbeats 1000000 in
set_option maxRecDepth 20000 in
theorem tX9_init {l : Launch} {w : VW} {N : Nat} {S : pH} {r0 : Option Nat} {S0 : pH} (h : fX9_init N w.2.2 S r0 = some S0) : CT l w yX9_init cX9_init 2 none rmX9_init [va_rf r0] S none S0 := by
  refine v_entry [(0, va_rf r0)] (by decide) (by simp [lg_sl, cat_rf, cat_i, cat_j]) (by simp [lv_args, cat_rf, cat_i, cat_j]) (fun g _ hC => ?_)
  unfold fX9_init at h
  obtain ⟨hO, h⟩ := chk_spec h
  refine v_aload_n hC 0 0 dX9_init_0 rfl ?_
  refine v_objInit hC 1 wG160 wG20 wG21 (chk_ne hO) (by decide) (by simp [cat_rf, cat_i, cat_j]) dX9_init_1 ?_
  refine v_aload_n hC 4 0 dX9_init_4 rfl ?_
  refine v_bipush hC (9 : Int32) 5 dX9_init_5 (by decide) ?_
  obtain ⟨q21, eq21, h⟩ := onm h
  obtain ⟨S22, eS22, h⟩ := onm h
  refine v_newI hC 9 7 wG22 (by decide) (by decide) (by decide) (by decide) (by decide) dX9_init_7 ?_
  refine v_nw eq21 eS22 ?_
  obtain ⟨S23, eS23, h⟩ := obn h
  refine pRX9_7 hC rfl 9 rfl eS23 dX9_init_9 ?_
  refine v_aload_n hC 12 0 dX9_init_12 rfl ?_
  refine v_bipush hC (9 : Int32) 13 dX9_init_13 (by decide) ?_
  obtain ⟨q24, eq24, h⟩ := onm h
  obtain ⟨S25, eS25, h⟩ := onm h
  refine v_newI hC 9 15 wG22 (by decide) (by decide) (by decide) (by decide) (by decide) dX9_init_15 ?_
  refine v_nw eq24 eS25 ?_
  obtain ⟨S26, eS26, h⟩ := obn h
  refine pRX9_13 hC rfl 17 rfl eS26 dX9_init_17 ?_
  refine v_aload_n hC 20 0 dX9_init_20 rfl ?_
  refine v_bipush hC (16 : Int32) 21 dX9_init_21 (by decide) ?_
  obtain ⟨q27, eq27, h⟩ := onm h
  obtain ⟨S28, eS28, h⟩ := onm h
  refine v_newI hC 16 23 wG22 (by decide) (by decide) (by decide) (by decide) (by decide) dX9_init_23 ?_
  refine v_nw eq27 eS28 ?_
  obtain ⟨S29, eS29, h⟩ := obn h
  refine pRX9_16 hC rfl 25 rfl eS29 dX9_init_25 ?_
  refine v_aload_n hC 28 0 dX9_init_28 rfl ?_
  refine v_bipush hC (16 : Int32) 29 dX9_init_29 (by decide) ?_
  obtain ⟨q30, eq30, h⟩ := onm h
  obtain ⟨S31, eS31, h⟩ := onm h
  refine v_newI hC 16 31 wG22 (by decide) (by decide) (by decide) (by decide) (by decide) dX9_init_31 ?_
  refine v_nw eq30 eS31 ?_
  obtain ⟨S32, eS32, h⟩ := obn h
  refine pRX9_19 hC rfl 33 rfl eS32 dX9_init_33 ?_
  refine v_aload_n hC 36 0 dX9_init_36 rfl ?_
  refine v_bipush hC (16 : Int32) 37 dX9_init_37 (by decide) ?_
  obtain ⟨q33, eq33, h⟩ := onm h
  obtain ⟨S34, eS34, h⟩ := onm h
  refine v_newI hC 16 39 wG22 (by decide) (by decide) (by decide) (by decide) (by decide) dX9_init_39 ?_
  refine v_nw eq33 eS34 ?_
  obtain ⟨S35, eS35, h⟩ := obn h
  refine pRX9_22 hC rfl 41 rfl eS35 dX9_init_41 ?_
  refine v_aload_n hC 44 0 dX9_init_44 rfl ?_
  refine v_bipush hC (16 : Int32) 45 dX9_init_45 (by decide) ?_
  obtain ⟨q36, eq36, h⟩ := onm h
  obtain ⟨S37, eS37, h⟩ := onm h
  refine v_newI hC 16 47 wG22 (by decide) (by decide) (by decide) (by decide) (by decide) dX9_init_47 ?_
  refine v_nw eq36 eS37 ?_
  obtain ⟨S38, eS38, h⟩ := obn h
  refine pRX9_25 hC rfl 49 rfl eS38 dX9_init_49 ?_
  refine v_aload_n hC 52 0 dX9_init_52 rfl ?_
  refine v_sipush hC (1152 : Int32) 53 dX9_init_53 (by decide) ?_
  obtain ⟨q39, eq39, h⟩ := onm h
  obtain ⟨S40, eS40, h⟩ := onm h
  refine v_newI hC 1152 56 wG22 (by decide) (by decide) (by decide) (by decide) (by decide) dX9_init_56 ?_
  refine v_nw eq39 eS40 ?_
  obtain ⟨S41, eS41, h⟩ := obn h
  refine pRX9_28 hC rfl 58 rfl eS41 dX9_init_58 ?_
  refine v_aload_n hC 61 0 dX9_init_61 rfl ?_
  refine v_iconst hC (1 : Int32) 62 dX9_init_62 (by decide) ?_
  obtain ⟨S42, eS42, h⟩ := obn h
  refine pRX9_31 hC rfl 63 eS42 dX9_init_63 ?_
  refine v_aload_n hC 66 0 dX9_init_66 rfl ?_
  refine v_iconst hC (1 : Int32) 67 dX9_init_67 (by decide) ?_
  obtain ⟨S43, eS43, h⟩ := obn h
  refine pRX9_35 hC rfl 68 eS43 dX9_init_68 ?_
  refine v_aload_n hC 71 0 dX9_init_71 rfl ?_
  refine v_iconst hC (2 : Int32) 72 dX9_init_72 (by decide) ?_
  obtain ⟨S44, eS44, h⟩ := obn h
  refine pRX9_38 hC rfl 73 eS44 dX9_init_73 ?_
  refine v_aload_n hC 76 0 dX9_init_76 rfl ?_
  refine v_bipush hC (16 : Int32) 77 dX9_init_77 (by decide) ?_
  obtain ⟨q45, eq45, h⟩ := onm h
  obtain ⟨S46, eS46, h⟩ := onm h
  refine v_newI hC 16 79 wG22 (by decide) (by decide) (by decide) (by decide) (by decide) dX9_init_79 ?_
  refine v_nw eq45 eS46 ?_
  obtain ⟨S47, eS47, h⟩ := obn h
  refine pRX9_41 hC rfl 81 rfl eS47 dX9_init_81 ?_
  refine v_aload_n hC 84 0 dX9_init_84 rfl ?_
  refine v_bipush hC (16 : Int32) 85 dX9_init_85 (by decide) ?_
  obtain ⟨q48, eq48, h⟩ := onm h
  obtain ⟨S49, eS49, h⟩ := onm h
  refine v_newI hC 16 87 wG22 (by decide) (by decide) (by decide) (by decide) (by decide) dX9_init_87 ?_
  refine v_nw eq48 eS49 ?_
  obtain ⟨S50, eS50, h⟩ := obn h
  refine pRX9_44 hC rfl 89 rfl eS50 dX9_init_89 ?_
  refine v_aload_n hC 92 0 dX9_init_92 rfl ?_
  refine v_bipush hC (9 : Int32) 93 dX9_init_93 (by decide) ?_
  obtain ⟨q51, eq51, h⟩ := onm h
  obtain ⟨S52, eS52, h⟩ := onm h
  refine v_newJ hC 9 95 wG47 (by decide) (by decide) (by decide) (by decide) (by decide) dX9_init_95 ?_
  refine v_nw eq51 eS52 ?_
  obtain ⟨S53, eS53, h⟩ := obn h
  refine pRX9_47 hC rfl 97 rfl eS53 dX9_init_97 ?_
  refine v_aload_n hC 100 0 dX9_init_100 rfl ?_
  refine v_bipush hC (9 : Int32) 101 dX9_init_101 (by decide) ?_
  obtain ⟨q54, eq54, h⟩ := onm h
  obtain ⟨S55, eS55, h⟩ := onm h
  refine v_newJ hC 9 103 wG47 (by decide) (by decide) (by decide) (by decide) (by decide) dX9_init_103 ?_
  refine v_nw eq54 eS55 ?_
  obtain ⟨S56, eS56, h⟩ := obn h
  refine pRX9_51 hC rfl 105 rfl eS56 dX9_init_105 ?_
  refine v_aload_n hC 108 0 dX9_init_108 rfl ?_
  refine v_bipush hC (15 : Int32) 109 dX9_init_109 (by decide) ?_
  obtain ⟨S57, eS57, h⟩ := obn h
  refine pRX9_54 hC rfl 111 eS57 dX9_init_111 ?_
  refine v_aload_n hC 114 0 dX9_init_114 rfl ?_
  refine v_bipush hC (8 : Int32) 115 dX9_init_115 (by decide) ?_
  obtain ⟨q58, eq58, h⟩ := onm h
  obtain ⟨S59, eS59, h⟩ := onm h
  refine v_newI hC 8 117 wG22 (by decide) (by decide) (by decide) (by decide) (by decide) dX9_init_117 ?_
  refine v_nw eq58 eS59 ?_
  obtain ⟨S60, eS60, h⟩ := obn h
  refine pRX9_57 hC rfl 119 rfl eS60 dX9_init_119 ?_
  refine v_aload_n hC 122 0 dX9_init_122 rfl ?_
  refine v_iconst hC (1 : Int32) 123 dX9_init_123 (by decide) ?_
  obtain ⟨S61, eS61, h⟩ := obn h
  refine pRX9_60 hC rfl 124 eS61 dX9_init_124 ?_
  refine v_aload_n hC 127 0 dX9_init_127 rfl ?_
  refine v_bipush hC (6 : Int32) 128 dX9_init_128 (by decide) ?_
  obtain ⟨q62, eq62, h⟩ := onm h
  obtain ⟨S63, eS63, h⟩ := onm h
  refine v_newI hC 6 130 wG22 (by decide) (by decide) (by decide) (by decide) (by decide) dX9_init_130 ?_
  refine v_nw eq62 eS63 ?_
  obtain ⟨S64, eS64, h⟩ := obn h
  refine pRX9_63 hC rfl 132 rfl eS64 dX9_init_132 ?_
  refine v_aload_n hC 135 0 dX9_init_135 rfl ?_
  refine v_bipush hC (6 : Int32) 136 dX9_init_136 (by decide) ?_
  obtain ⟨q65, eq65, h⟩ := onm h
  obtain ⟨S66, eS66, h⟩ := onm h
  refine v_newI hC 6 138 wG22 (by decide) (by decide) (by decide) (by decide) (by decide) dX9_init_138 ?_
  refine v_nw eq65 eS66 ?_
  obtain ⟨S67, eS67, h⟩ := obn h
  refine pRX9_66 hC rfl 140 rfl eS67 dX9_init_140 ?_
  refine v_aload_n hC 143 0 dX9_init_143 rfl ?_
  refine v_bipush hC (6 : Int32) 144 dX9_init_144 (by decide) ?_
  obtain ⟨q68, eq68, h⟩ := onm h
  obtain ⟨S69, eS69, h⟩ := onm h
  refine v_newI hC 6 146 wG22 (by decide) (by decide) (by decide) (by decide) (by decide) dX9_init_146 ?_
  refine v_nw eq68 eS69 ?_
  obtain ⟨S70, eS70, h⟩ := obn h
  refine pRX9_69 hC rfl 148 rfl eS70 dX9_init_148 ?_
  refine v_aload_n hC 151 0 dX9_init_151 rfl ?_
  refine v_bipush hC (64 : Int32) 152 dX9_init_152 (by decide) ?_
  obtain ⟨q71, eq71, h⟩ := onm h
  obtain ⟨S72, eS72, h⟩ := onm h
  refine v_newI hC 64 154 wG22 (by decide) (by decide) (by decide) (by decide) (by decide) dX9_init_154 ?_
  refine v_nw eq71 eS72 ?_
  obtain ⟨S73, eS73, h⟩ := obn h
  refine pRX9_72 hC rfl 156 rfl eS73 dX9_init_156 ?_
  refine v_aload_n hC 159 0 dX9_init_159 rfl ?_
  refine v_bipush hC (64 : Int32) 160 dX9_init_160 (by decide) ?_
  obtain ⟨q74, eq74, h⟩ := onm h
  obtain ⟨S75, eS75, h⟩ := onm h
  refine v_newI hC 64 162 wG22 (by decide) (by decide) (by decide) (by decide) (by decide) dX9_init_162 ?_
  refine v_nw eq74 eS75 ?_
  obtain ⟨S76, eS76, h⟩ := obn h
  refine pRX9_75 hC rfl 164 rfl eS76 dX9_init_164 ?_
  refine v_aload_n hC 167 0 dX9_init_167 rfl ?_
  refine v_bipush hC (64 : Int32) 168 dX9_init_168 (by decide) ?_
  obtain ⟨q77, eq77, h⟩ := onm h
  obtain ⟨S78, eS78, h⟩ := onm h
  refine v_newI hC 64 170 wG22 (by decide) (by decide) (by decide) (by decide) (by decide) dX9_init_170 ?_
  refine v_nw eq77 eS78 ?_
  obtain ⟨S79, eS79, h⟩ := obn h
  refine pRX9_78 hC rfl 172 rfl eS79 dX9_init_172 ?_
  refine v_aload_n hC 175 0 dX9_init_175 rfl ?_
  refine v_sipush hC (4096 : Int32) 176 dX9_init_176 (by decide) ?_
  obtain ⟨q80, eq80, h⟩ := onm h
  obtain ⟨S81, eS81, h⟩ := onm h
  refine v_newZ hC 4096 179 wG164 (by decide) (by decide) (by decide) (by decide) (by decide) dX9_init_179 ?_
  refine v_nw eq80 eS81 ?_
  obtain ⟨S82, eS82, h⟩ := obn h
  refine pRX9_81 hC rfl 181 rfl eS82 dX9_init_181 ?_
  refine v_aload_n hC 184 0 dX9_init_184 rfl ?_
  refine v_bipush hC (64 : Int32) 185 dX9_init_185 (by decide) ?_
  obtain ⟨q83, eq83, h⟩ := onm h
  obtain ⟨S84, eS84, h⟩ := onm h
  refine v_newJ hC 64 187 wG47 (by decide) (by decide) (by decide) (by decide) (by decide) dX9_init_187 ?_
  refine v_nw eq83 eS84 ?_
  obtain ⟨S85, eS85, h⟩ := obn h
  refine pRX9_85 hC rfl 189 rfl eS85 dX9_init_189 ?_
  refine v_aload_n hC 192 0 dX9_init_192 rfl ?_
  refine v_bipush hC (64 : Int32) 193 dX9_init_193 (by decide) ?_
  obtain ⟨q86, eq86, h⟩ := onm h
  obtain ⟨S87, eS87, h⟩ := onm h
  refine v_newJ hC 64 195 wG47 (by decide) (by decide) (by decide) (by decide) (by decide) dX9_init_195 ?_
  refine v_nw eq86 eS87 ?_
  obtain ⟨S88, eS88, h⟩ := obn h
  refine pRX9_88 hC rfl 197 rfl eS88 dX9_init_197 ?_
  refine v_aload_n hC 200 0 dX9_init_200 rfl ?_
  refine v_sipush hC (256 : Int32) 201 dX9_init_201 (by decide) ?_
  obtain ⟨q89, eq89, h⟩ := onm h
  obtain ⟨S90, eS90, h⟩ := onm h
  refine v_newI hC 256 204 wG22 (by decide) (by decide) (by decide) (by decide) (by decide) dX9_init_204 ?_
  refine v_nw eq89 eS90 ?_
  obtain ⟨S91, eS91, h⟩ := obn h
  refine pRX9_91 hC rfl 206 rfl eS91 dX9_init_206 ?_
  refine v_aload_n hC 209 0 dX9_init_209 rfl ?_
  refine v_bipush hC (18 : Int32) 210 dX9_init_210 (by decide) ?_
  obtain ⟨q92, eq92, h⟩ := onm h
  obtain ⟨S93, eS93, h⟩ := onm h
  refine v_newZ hC 18 212 wG164 (by decide) (by decide) (by decide) (by decide) (by decide) dX9_init_212 ?_
  refine v_nw eq92 eS93 ?_
  obtain ⟨S94, eS94, h⟩ := obn h
  refine pRX9_94 hC rfl 214 rfl eS94 dX9_init_214 ?_
  refine v_iconst hC (1 : Int32) 217 dX9_init_217 (by decide) ?_
  refine v_istore_n hC [(1, .int (1 : Int32)), (0, va_rf r0)] 218 dX9_init_218 (by decide) (by first | rfl | (simp [cat_rf, cat_i, cat_j]; done) | (simp [cat_rf, cat_i, cat_j]; decide)) ?_
  obtain ⟨S103, E219, h⟩ := obn h
  refine v_sub [(0, va_rf r0), (1, .int (1 : Int32))] [1, 0] rfl ?_
  refine kX9_init_219 hC _ _ _ _ E219 (fun _ hz9 => ?_)
  cases hz9
  refine v_iconst hC (0 : Int32) 248 dX9_init_248 (by decide) ?_
  refine v_istore_n hC [(1, .int (0 : Int32)), (0, va_rf r0)] 249 dX9_init_249 (by decide) (by first | rfl | (simp [cat_rf, cat_i, cat_j]; done) | (simp [cat_rf, cat_i, cat_j]; decide)) ?_
  obtain ⟨S110, E250, h⟩ := obn h
  refine v_sub [(0, va_rf r0), (1, .int (0 : Int32))] [1, 0] rfl ?_
  refine kX9_init_250 hC _ _ _ _ E250 (fun _ hz9 => ?_)
  cases hz9
  refine v_aload_n hC 270 0 dX9_init_270 rfl ?_
  obtain ⟨r111, er111, h⟩ := obn h
  refine gRX9_28 hC rfl 271 er111 dX9_init_271 ?_
  refine v_sipush hC (1088 : Int32) 274 dX9_init_274 (by decide) ?_
  refine v_bipush hC (-9 : Int32) 277 dX9_init_277 (by decide) ?_
  obtain ⟨S112, eS112, h⟩ := obn h
  refine v_iast hC 279 eS112 dX9_init_279 ?_
  obtain rfl := sp1 h
  exact v_vret hC 280 (by decide) (by decide) dX9_init_280
