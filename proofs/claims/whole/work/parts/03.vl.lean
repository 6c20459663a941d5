/-! ===== 03: the pure heap, the judgement V, a row an instruction ===== -/
/-- a cell of the pure heap: an int (0) or boolean (1) array, a long array, an array of references, an object (class, fields) -/
abbrev pE : Type := (Nat × Nat × (Nat → Int32)) ⊕ (Nat × (Nat → Int64)) ⊕ (Nat × (Nat → Option Nat)) ⊕ (Nat × List Value)
abbrev pI (n : Nat) (f : Nat → Int32) : pE := .inl (0, n, f)
abbrev pZ (n : Nat) (f : Nat → Int32) : pE := .inl (1, n, f)
abbrev pJ (n : Nat) (f : Nat → Int64) : pE := .inr (.inl (n, f))
abbrev pR (n : Nat) (f : Nat → Option Nat) : pE := .inr (.inr (.inl (n, f)))
abbrev pO (ci : Nat) (fs : List Value) : pE := .inr (.inr (.inr (ci, fs)))
abbrev pNo : pE := pO 99 []
/-- how many cells there are, and what stands at each address -/
abbrev pH : Type := Nat × (Nat → pE)
def emb (cy : Nat → ClassId) (x : pE) : va_E := match x with
  | .inl a => .inl (cy a.1, a.2.1, .inl a.2.2)
  | .inr (.inl a) => .inl (cy 2, a.1, .inr (.inl a.2))
  | .inr (.inr (.inl a)) => .inl (cy 3, a.1, .inr (.inr (.inr (.inr a.2))))
  | .inr (.inr (.inr q)) => .inr q
abbrev tysC (cy : Nat → ClassId) : List (ClassId × FieldType) := [(cy 0, .int), (cy 1, .boolean), (cy 2, .long), (cy 3, .object "CaneHouse$Cane")]
def wsO (b : Nat) (cy : Nat → ClassId) (S : pH) : va_W := (List.range S.1).map (fun i => (b + i, emb cy (S.2 (b + i))))
theorem wsO_at {b : Nat} {cy : Nat → ClassId} {S : pH} {i : Nat} (h : i < S.1) : (wsO b cy S)[i]? = some (b + i, emb cy (S.2 (b + i))) := by
  simp [wsO, h]
theorem wsO_inv {b : Nat} {cy : Nat → ClassId} {S : pH} {i : Nat} {q : Nat × va_E} (h : (wsO b cy S)[i]? = some q) : i < S.1 ∧ q = (b + i, emb cy (S.2 (b + i))) := by
  have hl : i < S.1 := by
    have := (List.getElem?_eq_some_iff.mp h).1
    simpa [wsO] using this
  rw [wsO_at hl] at h
  exact ⟨hl, (Option.some.inj h).symm⟩
theorem wsO_D {b : Nat} {cy : Nat → ClassId} {S : pH} : va_D (fun q => b ≤ q) (wsO b cy S) := by
  refine ⟨fun i j x y hi hj hxy => ?_, fun k q hk => ?_⟩
  · obtain ⟨-, rfl⟩ := wsO_inv hi
    obtain ⟨-, rfl⟩ := wsO_inv hj
    have h : b + i = b + j := hxy
    omega
  · obtain ⟨-, rfl⟩ := wsO_inv hk
    exact Nat.le_add_right b k
def upS (S : pH) (a : Nat) (x : pE) : pH := (S.1, va_up S.2 a x)
def puS (b : Nat) (S : pH) (x : pE) : pH := (S.1 + 1, va_up S.2 (b + S.1) x)
theorem wsO_up {b : Nat} {cy : Nat → ClassId} {S : pH} {i : Nat} {x : pE} (h : i < S.1) : wsO b cy (upS S (b + i) x) = (wsO b cy S).set i (b + i, emb cy x) := by
  apply List.ext_getElem?
  intro k
  by_cases hk : k = i
  · subst hk
    rw [wsO_at (S := upS S (b + k) x) h, List.getElem?_set_self (by simpa [wsO] using h)]
    simp [upS, va_up]
  · rw [List.getElem?_set_ne (Ne.symm hk)]
    by_cases hl : k < S.1
    · rw [wsO_at (S := upS S (b + i) x) hl, wsO_at hl]
      simp [upS, va_up, hk]
    · simp [wsO, upS, hl]
theorem wsO_pu {b : Nat} {cy : Nat → ClassId} {S : pH} {x : pE} : wsO b cy (puS b S x) = wsO b cy S ++ [(b + S.1, emb cy x)] := by
  unfold wsO puS
  rw [List.range_succ, List.map_append]
  congr 1
  · refine List.map_congr_left fun i hi => ?_
    have h : i < S.1 := List.mem_range.mp hi
    simp [va_up, show ¬ (i = S.1) by omega]
  · simp [va_up]
/-- the class numbers and slots, the array classes, the least address that is ours -/
abbrev VW : Type := va_G × (Nat → ClassId) × Nat
/-- the heap H holds the pure heap S -/
def hp (w : VW) (S : pH) (H : Heap) : Prop := H.size = w.2.2 + S.1 ∧ va_P w.1 vwCl (wsO w.2.2 w.2.1 S) H ∧ ∀ a, ¬ (w.2.2 ≤ a ∧ a < w.2.2 + S.1) → S.2 a = pNo
/-- the words that go with every call -/
def tblG : List Cond := lw_tbl.filter goodWord
def isNest : Cond → Bool
  | .fieldLinkNest .. => true
  | .methodLinkNest .. => true
  | _ => false
def tblN : List Cond := tables_1.filter isNest
def kw (U : State) : Prop := (∀ w ∈ tblN, va_Nw w U) ∧ va_AO "CaneHouse$Cane" U
theorem kw.moved {s U : State} (hW : s.WarmedH U.vm) (h : kw s) : kw U := by
  refine ⟨fun w hw => ?_, h.2.moved hW.alike⟩
  have h1 := h.1 w hw
  have h2 := (List.mem_filter.mp hw).2
  cases w <;> first | (exact va_Nw.warmF hW h1) | (exact va_Nw.warmM hW h1) | (simp [isNest] at h2)
theorem kw.same {s U : State} (hv : s.vm = U.vm) (h : kw s) : kw U := by
  refine ⟨fun w hw => ?_, h.2.moved (by rw [hv]; exact Vm.Alike.refl _)⟩
  have h1 := h.1 w hw
  have h2 := (List.mem_filter.mp hw).2
  refine va_Nw.same ?_ hv h1
  cases w <;> first | rfl | (simp [isNest] at h2)
theorem gIn {ws : List Cond} {y : MethodName} {cc : ByteArray} {n : Nat} {rt : Option FieldType} (h : Cond.code y cc n rt ∈ tblG) : GoodIn tblG (Cond.code y cc n rt :: tblG) := by
  intro w hw
  have hm : w ∈ tblG := by
    rcases List.mem_cons.mp hw with rfl | h1
    · exact h
    · exact h1
  exact ⟨hm, good_of_word (List.mem_filter.mp hm).2⟩
/-- a method's frame: the machine, the launch .. the code -/
abbrev VG : Type := Program × Launch × Env × Room × State × MethodId × Array Value × List Frame × Method × Code
/-- what is known of the frame's method: its name, bytes, locals, return type, room -/
def Cx (g : VG) (y : MethodName) (cc : ByteArray) (nL : Nat) (rt : Option FieldType) (rm : Room) (w : VW) : Prop :=
  (g.1.tables.exec = Jvm.exec ∧ g.2.2.2.2.2.2.2.2.2.code = cc ∧ g.2.2.2.2.2.2.2.2.1.sig.returnType = rt ∧ g.2.2.2.2.2.2.2.2.2.maxLocals = nL ∧ g.2.2.2.2.1.vm.findClass y.cls = some g.2.2.2.2.2.1.cls ∧ g.2.2.2.2.2.2.2.2.1.locks = false ∧ g.2.2.2.2.2.2.2.2.1.name = y.name ∧ g.2.2.2.1 = rm) ∧
  (∀ q ∈ tblG, q.before g.2.2.2.2.2.2.1 g.2.2.2.2.1 = true) ∧ kw g.2.2.2.2.1 ∧ va_K w.1 vwCl (tysC w.2.1) g.2.2.2.2.1 ∧ w.2.2 ≤ g.2.2.2.2.1.heap.size
/-- from here, with the pure heap S, the locals lv, the stack st, the machine comes to a state with Q -/
def V (g : VG) (w : VW) (nL : Nat) (Q : State → Prop) (S : pH) (kc ks pc : Nat) (lv : List (Nat × Value)) (st : List Value) : Prop :=
  ∀ (H : Heap) (locs : List Loc) (ls : Array Slot), hp w S H → va_S (fun q => w.2.2 ≤ q) g.2.2.2.2.1.heap H locs → lv_has ls nL lv →
    W g.1 g.2.1 g.2.2.1 g.2.2.2.1 g.2.2.2.2.1 g.2.2.2.2.2.1 g.2.2.2.2.2.2.1 g.2.2.2.2.2.2.2.1 g.2.2.2.2.2.2.2.2.1 g.2.2.2.2.2.2.2.2.2 H locs kc ks Q (F0 g.2.2.2.2.2.1 pc ls st)
def pr (w : VW) (S : pH) (U : State) : Prop := w.2.2 ≤ U.heap.size ∧ hp w S U.heap ∧ va_K w.1 vwCl (tysC w.2.1) U ∧ kw U
def qr (w : VW) (rv : Option Value) (S : pH) : Array Value → State → Outcome → State → Prop := fun _ st oc t => oc = .returned rv ∧ hp w S t.heap ∧ va_F (fun q => w.2.2 ≤ q) st t
/-- the method's end: it answers rv and leaves the pure heap S -/
def Qm (g : VG) (w : VW) (mc ms : Nat) (rv : Option Value) (S : pH) : State → Prop := MQ g.2.2.2.2.2.2.2.1 (qr w rv S) g.2.2.2.2.2.2.1 g.2.2.2.2.1 mc ms (fun q => w.2.2 ≤ q)
/-- a contract: called with av at the pure heap S, y answers rv and leaves S' -/
def CT (l : Launch) (w : VW) (y : MethodName) (cc : ByteArray) (nL : Nat) (rt : Option FieldType) (rm : Room) (av : List Value) (S : pH) (rv : Option Value) (S' : pH) : Prop :=
  Met l y (Cond.code y cc nL rt :: tblG) rm (va_Pc av (pr w S)) (qr w rv S') rm.cells rm.slots (fun q => w.2.2 ≤ q)
theorem pr.blind {w : VW} {S : pH} {av : List Value} : FrameBlind (va_Pc av (pr w S)) := by
  intro a U g mk h
  exact ⟨h.1, h.2.1, h.2.2.1, va_K.moved (u := U) (U := U.calling g mk a) (Vm.Alike.refl U.vm) h.2.2.2.1, kw.same (s := U) (U := U.calling g mk a) rfl h.2.2.2.2⟩
theorem v_entry {l : Launch} {w : VW} {y : MethodName} {cc : ByteArray} {nL : Nat} {rt : Option FieldType} {rm : Room} {av : List Value} {S : pH} {rv : Option Value} {S' : pH} (lv : List (Nat × Value)) (hy : plainName y.cls = true) (hn : (lg_sl av).length ≤ nL) (hlv : lv_args 0 av = lv)
    (body : ∀ g : VG, g.2.1 = l → Cx g y cc nL rt rm w → V g w nL (Qm g w rm.cells rm.slots rv S') S 0 0 0 lv []) : CT l w y cc nL rt rm av S rv S' := by
  subst hlv
  refine Met.ofW (cc := cc) (maxL := nL) (ret := rt) hy rfl ?_
  intro p e s m args below meth c s₁ B hml hv
  obtain ⟨rfl, hbs, hH, hK, hkw⟩ := hv
  have hts := atoms_spec (ws := Cond.code y cc nL rt :: tblG) B.pre
  have hl := lv_entry av (n := nL) hn
  rw [lg_entry_eq]
  exact body (p, l, e, rm, s, m, av.toArray, below, meth, c) rfl ⟨⟨B.exec, B.bytes, B.returns, hml, findClass_of_methodNamed B.named, B.notSynchronized, (name_of_methodNamed B.named B.method).1, rfl⟩, fun q hq => hts q (List.mem_cons_of_mem _ hq), hkw, hK, hbs⟩ s.heap [] _ hH va_S.rf hl
section VR
variable {g : VG} {w : VW} {nL : Nat} {Q : State → Prop} {S : pH} {kc ks : Nat} {lv : List (Nat × Value)} {st : List Value} {y : MethodName} {cc : ByteArray} {rt : Option FieldType} {rm : Room}
theorem v_sub (lv' : List (Nat × Value)) (is : List Nat) {pc : Nat} (h : lv_pick lv is = lv') (K : V g w nL Q S kc ks pc lv' st) : V g w nL Q S kc ks pc lv st := fun H locs ls hH hS hl => K H locs ls hH hS (lv_sub hl is h)
theorem v_wid {pc : Nat} (kc' ks' : Nat) (h1 : kc ≤ kc') (h2 : ks ≤ ks') (K : V g w nL Q S kc' ks' pc lv st) : V g w nL Q S kc ks pc lv st := fun H locs ls hH hS hl => W.widen h1 h2 (K H locs ls hH hS hl)
theorem v_topi {pc : Nat} {x : Int32} (z : Int32) (h : z = x) (K : V g w nL Q S kc ks pc lv (.int z :: st)) : V g w nL Q S kc ks pc lv (.int x :: st) := h ▸ K
theorem v_topl {pc : Nat} {x : Int64} (z : Int64) (h : z = x) (K : V g w nL Q S kc ks pc lv (.long z :: st)) : V g w nL Q S kc ks pc lv (.long x :: st) := h ▸ K

theorem v_iconst (hC : Cx g y cc nL rt rm w) {n : Int} (v : Int32) (pc : Nat) (d : decode cc pc = .ok (.iconst n, 1)) (hv : Int32.ofInt n = v) (K : V g w nL Q S kc ks (pc + 1) lv (.int v :: st)) : V g w nL Q S kc ks pc lv st := fun H locs ls hH hS hl => lv_iconst hC.1.1 hC.1.2.1 d hv (K H locs ls hH hS hl)
theorem v_bipush (hC : Cx g y cc nL rt rm w) {n : Int} (v : Int32) (pc : Nat) (d : decode cc pc = .ok (.bipush n, 2)) (hv : (Int8.ofInt n).toInt32 = v) (K : V g w nL Q S kc ks (pc + 2) lv (.int v :: st)) : V g w nL Q S kc ks pc lv st := fun H locs ls hH hS hl => lv_bipush hC.1.1 hC.1.2.1 d hv (K H locs ls hH hS hl)
theorem v_sipush (hC : Cx g y cc nL rt rm w) {n : Int} (v : Int32) (pc : Nat) (d : decode cc pc = .ok (.sipush n, 3)) (hv : (Int16.ofInt n).toInt32 = v) (K : V g w nL Q S kc ks (pc + 3) lv (.int v :: st)) : V g w nL Q S kc ks pc lv st := fun H locs ls hH hS hl => lv_sipush hC.1.1 hC.1.2.1 d hv (K H locs ls hH hS hl)
theorem v_lconst (hC : Cx g y cc nL rt rm w) {n : Fin 2} (v : Int64) (pc : Nat) (d : decode cc pc = .ok (.lconst n, 1)) (hv : Int64.ofNat (n : Nat) = v) (K : V g w nL Q S kc ks (pc + 1) lv (.long v :: st)) : V g w nL Q S kc ks pc lv st := fun H locs ls hH hS hl => lv_lconst hC.1.1 hC.1.2.1 d hv (K H locs ls hH hS hl)
theorem v_null (hC : Cx g y cc nL rt rm w) (pc : Nat) (d : decode cc pc = .ok (.aconst_null, 1)) (K : V g w nL Q S kc ks (pc + 1) lv (va_rf none :: st)) : V g w nL Q S kc ks pc lv st := fun H locs ls hH hS hl => lv_null hC.1.1 hC.1.2.1 d (K H locs ls hH hS hl)
theorem v_ldc (hC : Cx g y cc nL rt rm w) {i : Nat} {v : Int32} (pc : Nat) (hw : Cond.constant y.cls i v ∈ tblG) (d : decode cc pc = .ok (.ldc i, 2)) (K : V g w nL Q S kc ks (pc + 2) lv (.int v :: st)) : V g w nL Q S kc ks pc lv st := fun H locs ls hH hS hl => lv_ldc hC.1.1 hC.1.2.1 hC.1.2.2.2.2.1 (hC.2.1 _ hw) d (K H locs ls hH hS hl)
theorem v_ldc2 (hC : Cx g y cc nL rt rm w) {i : Nat} {v : Int64} (pc : Nat) (hw : Cond.constantLong y.cls i v ∈ tblG) (d : decode cc pc = .ok (.ldc2_w i, 3)) (K : V g w nL Q S kc ks (pc + 3) lv (.long v :: st)) : V g w nL Q S kc ks pc lv st := fun H locs ls hH hS hl => lv_ldc2 hC.1.1 hC.1.2.1 hC.1.2.2.2.2.1 (hC.2.1 _ hw) d (K H locs ls hH hS hl)
theorem v_iload_n (hC : Cx g y cc nL rt rm w) {k : Fin 4} {x : Int32} (pc i : Nat) (d : decode cc pc = .ok (.iload_n k, 1)) (h : lv[i]? = some ((k : Nat), .int x)) (K : V g w nL Q S kc ks (pc + 1) lv (.int x :: st)) : V g w nL Q S kc ks pc lv st := fun H locs ls hH hS hl => lv_iload_n hC.1.1 hC.1.2.1 d rfl (lv_at hl i h) (K H locs ls hH hS hl)
theorem v_iload (hC : Cx g y cc nL rt rm w) {k : Nat} {x : Int32} (pc i : Nat) (d : decode cc pc = .ok (.iload k, 2)) (h : lv[i]? = some (k, .int x)) (K : V g w nL Q S kc ks (pc + 2) lv (.int x :: st)) : V g w nL Q S kc ks pc lv st := fun H locs ls hH hS hl => lv_iload hC.1.1 hC.1.2.1 d (lv_at hl i h) (K H locs ls hH hS hl)
theorem v_lload_n (hC : Cx g y cc nL rt rm w) {k : Fin 4} {x : Int64} (pc i : Nat) (d : decode cc pc = .ok (.lload_n k, 1)) (h : lv[i]? = some ((k : Nat), .long x)) (K : V g w nL Q S kc ks (pc + 1) lv (.long x :: st)) : V g w nL Q S kc ks pc lv st := fun H locs ls hH hS hl => lv_lload_n hC.1.1 hC.1.2.1 d rfl (lv_at hl i h) (K H locs ls hH hS hl)
theorem v_lload (hC : Cx g y cc nL rt rm w) {k : Nat} {x : Int64} (pc i : Nat) (d : decode cc pc = .ok (.lload k, 2)) (h : lv[i]? = some (k, .long x)) (K : V g w nL Q S kc ks (pc + 2) lv (.long x :: st)) : V g w nL Q S kc ks pc lv st := fun H locs ls hH hS hl => lv_lload hC.1.1 hC.1.2.1 d (lv_at hl i h) (K H locs ls hH hS hl)
theorem v_aload_n (hC : Cx g y cc nL rt rm w) {k : Fin 4} {x : Option Nat} (pc i : Nat) (d : decode cc pc = .ok (.aload_n k, 1)) (h : lv[i]? = some ((k : Nat), va_rf x)) (K : V g w nL Q S kc ks (pc + 1) lv (va_rf x :: st)) : V g w nL Q S kc ks pc lv st := by
  intro H locs ls hH hS hl
  cases x with
  | none => exact lv_aload_nN hC.1.1 hC.1.2.1 d rfl (lv_at hl i h) (K H locs ls hH hS hl)
  | some a => exact lv_aload_n hC.1.1 hC.1.2.1 d rfl (lv_at hl i h) (K H locs ls hH hS hl)
theorem v_aload (hC : Cx g y cc nL rt rm w) {k : Nat} {x : Option Nat} (pc i : Nat) (d : decode cc pc = .ok (.aload k, 2)) (h : lv[i]? = some (k, va_rf x)) (K : V g w nL Q S kc ks (pc + 2) lv (va_rf x :: st)) : V g w nL Q S kc ks pc lv st := by
  intro H locs ls hH hS hl
  cases x with
  | none => exact lv_aloadN hC.1.1 hC.1.2.1 d (lv_at hl i h) (K H locs ls hH hS hl)
  | some a => exact lv_aload hC.1.1 hC.1.2.1 d (lv_at hl i h) (K H locs ls hH hS hl)
theorem v_istore_n (hC : Cx g y cc nL rt rm w) {k : Fin 4} {x : Int32} (lv' : List (Nat × Value)) (pc : Nat) (d : decode cc pc = .ok (.istore_n k, 1)) (hn : (k : Nat) < nL) (hl : ((k : Nat), Value.int x) :: lv.filter (fun q => !(q.1 == (k : Nat)) && !(q.1 + 1 == (k : Nat) && q.2.category == 2)) = lv') (K : V g w nL Q S kc ks (pc + 1) lv' st) : V g w nL Q S kc ks pc lv (.int x :: st) := fun H locs ls hH hS hh => lv_istore_n hC.1.1 hC.1.2.1 d rfl hh hn hl (fun ls' hl' => K H locs ls' hH hS hl')
theorem v_istore (hC : Cx g y cc nL rt rm w) {k : Nat} {x : Int32} (lv' : List (Nat × Value)) (pc : Nat) (d : decode cc pc = .ok (.istore k, 2)) (hn : k < nL) (hl : (k, Value.int x) :: lv.filter (fun q => !(q.1 == k) && !(q.1 + 1 == k && q.2.category == 2)) = lv') (K : V g w nL Q S kc ks (pc + 2) lv' st) : V g w nL Q S kc ks pc lv (.int x :: st) := fun H locs ls hH hS hh => lv_istore hC.1.1 hC.1.2.1 d hh hn hl (fun ls' hl' => K H locs ls' hH hS hl')
theorem v_lstore_n (hC : Cx g y cc nL rt rm w) {k : Fin 4} {x : Int64} (lv' : List (Nat × Value)) (pc : Nat) (d : decode cc pc = .ok (.lstore_n k, 1)) (hn : (k : Nat) + 1 < nL) (hl : ((k : Nat), Value.long x) :: lv.filter (fun q => !(q.1 == (k : Nat)) && (!(q.1 == (k : Nat) + 1) && !(q.1 + 1 == (k : Nat) && q.2.category == 2))) = lv') (K : V g w nL Q S kc ks (pc + 1) lv' st) : V g w nL Q S kc ks pc lv (.long x :: st) := fun H locs ls hH hS hh => lv_lstore_n hC.1.1 hC.1.2.1 d rfl hh hn hl (fun ls' hl' => K H locs ls' hH hS hl')
theorem v_lstore (hC : Cx g y cc nL rt rm w) {k : Nat} {x : Int64} (lv' : List (Nat × Value)) (pc : Nat) (d : decode cc pc = .ok (.lstore k, 2)) (hn : k + 1 < nL) (hl : (k, Value.long x) :: lv.filter (fun q => !(q.1 == k) && (!(q.1 == k + 1) && !(q.1 + 1 == k && q.2.category == 2))) = lv') (K : V g w nL Q S kc ks (pc + 2) lv' st) : V g w nL Q S kc ks pc lv (.long x :: st) := fun H locs ls hH hS hh => lv_lstore hC.1.1 hC.1.2.1 d hh hn hl (fun ls' hl' => K H locs ls' hH hS hl')
theorem v_astore_n (hC : Cx g y cc nL rt rm w) {k : Fin 4} {x : Option Nat} (lv' : List (Nat × Value)) (pc : Nat) (d : decode cc pc = .ok (.astore_n k, 1)) (hn : (k : Nat) < nL) (hl : ((k : Nat), va_rf x) :: lv.filter (fun q => !(q.1 == (k : Nat)) && !(q.1 + 1 == (k : Nat) && q.2.category == 2)) = lv') (K : V g w nL Q S kc ks (pc + 1) lv' st) : V g w nL Q S kc ks pc lv (va_rf x :: st) := by
  intro H locs ls hH hS hh
  cases x with
  | none => exact lv_astore_nN hC.1.1 hC.1.2.1 d rfl hh hn hl (fun ls' hl' => K H locs ls' hH hS hl')
  | some a => exact lv_astore_n hC.1.1 hC.1.2.1 d rfl hh hn hl (fun ls' hl' => K H locs ls' hH hS hl')
theorem v_astore (hC : Cx g y cc nL rt rm w) {k : Nat} {x : Option Nat} (lv' : List (Nat × Value)) (pc : Nat) (d : decode cc pc = .ok (.astore k, 2)) (hn : k < nL) (hl : (k, va_rf x) :: lv.filter (fun q => !(q.1 == k) && !(q.1 + 1 == k && q.2.category == 2)) = lv') (K : V g w nL Q S kc ks (pc + 2) lv' st) : V g w nL Q S kc ks pc lv (va_rf x :: st) := by
  intro H locs ls hH hS hh
  cases x with
  | none => exact lv_astoreN hC.1.1 hC.1.2.1 d hh hn hl (fun ls' hl' => K H locs ls' hH hS hl')
  | some a => exact lv_astore hC.1.1 hC.1.2.1 d hh hn hl (fun ls' hl' => K H locs ls' hH hS hl')
theorem v_iinc (hC : Cx g y cc nL rt rm w) {k : Nat} {n : Int} {x : Int32} (v : Int32) (lv' : List (Nat × Value)) (pc i : Nat) (d : decode cc pc = .ok (.iinc k n, 3)) (h : lv[i]? = some (k, .int x)) (hv : x + Int32.ofInt n = v) (hn : k < nL) (hl : (k, Value.int v) :: lv.filter (fun q => !(q.1 == k) && !(q.1 + 1 == k && q.2.category == 2)) = lv') (K : V g w nL Q S kc ks (pc + 3) lv' st) : V g w nL Q S kc ks pc lv st := fun H locs ls hH hS hh => lv_iinc hC.1.1 hC.1.2.1 d hh h hv hn hl (fun ls' hl' => K H locs ls' hH hS hl')
theorem v_iadd (hC : Cx g y cc nL rt rm w) {x y' : Int32} (pc : Nat) (d : decode cc pc = .ok (.iadd, 1)) (K : V g w nL Q S kc ks (pc + 1) lv (.int (x + y') :: st)) : V g w nL Q S kc ks pc lv (.int y' :: .int x :: st) := fun H locs ls hH hS hl => lv_iadd hC.1.1 hC.1.2.1 d (K H locs ls hH hS hl)
theorem v_isub (hC : Cx g y cc nL rt rm w) {x y' : Int32} (pc : Nat) (d : decode cc pc = .ok (.isub, 1)) (K : V g w nL Q S kc ks (pc + 1) lv (.int (x - y') :: st)) : V g w nL Q S kc ks pc lv (.int y' :: .int x :: st) := fun H locs ls hH hS hl => lv_isub hC.1.1 hC.1.2.1 d (K H locs ls hH hS hl)
theorem v_imul (hC : Cx g y cc nL rt rm w) {x y' : Int32} (pc : Nat) (d : decode cc pc = .ok (.imul, 1)) (K : V g w nL Q S kc ks (pc + 1) lv (.int (x * y') :: st)) : V g w nL Q S kc ks pc lv (.int y' :: .int x :: st) := fun H locs ls hH hS hl => lv_imul hC.1.1 hC.1.2.1 d (K H locs ls hH hS hl)
theorem v_iand (hC : Cx g y cc nL rt rm w) {x y' : Int32} (pc : Nat) (d : decode cc pc = .ok (.iand, 1)) (K : V g w nL Q S kc ks (pc + 1) lv (.int (x &&& y') :: st)) : V g w nL Q S kc ks pc lv (.int y' :: .int x :: st) := fun H locs ls hH hS hl => lv_iand hC.1.1 hC.1.2.1 d (K H locs ls hH hS hl)
theorem v_ior (hC : Cx g y cc nL rt rm w) {x y' : Int32} (pc : Nat) (d : decode cc pc = .ok (.ior, 1)) (K : V g w nL Q S kc ks (pc + 1) lv (.int (x ||| y') :: st)) : V g w nL Q S kc ks pc lv (.int y' :: .int x :: st) := fun H locs ls hH hS hl => lv_ior hC.1.1 hC.1.2.1 d (K H locs ls hH hS hl)
theorem v_ixor (hC : Cx g y cc nL rt rm w) {x y' : Int32} (pc : Nat) (d : decode cc pc = .ok (.ixor, 1)) (K : V g w nL Q S kc ks (pc + 1) lv (.int (x ^^^ y') :: st)) : V g w nL Q S kc ks pc lv (.int y' :: .int x :: st) := fun H locs ls hH hS hl => lv_ixor hC.1.1 hC.1.2.1 d (K H locs ls hH hS hl)
theorem v_ishl (hC : Cx g y cc nL rt rm w) {x y' : Int32} (pc : Nat) (d : decode cc pc = .ok (.ishl, 1)) (K : V g w nL Q S kc ks (pc + 1) lv (.int (x <<< (y' &&& 31)) :: st)) : V g w nL Q S kc ks pc lv (.int y' :: .int x :: st) := fun H locs ls hH hS hl => lv_ishl hC.1.1 hC.1.2.1 d (K H locs ls hH hS hl)
theorem v_ishr (hC : Cx g y cc nL rt rm w) {x y' : Int32} (pc : Nat) (d : decode cc pc = .ok (.ishr, 1)) (K : V g w nL Q S kc ks (pc + 1) lv (.int (x >>> (y' &&& 31)) :: st)) : V g w nL Q S kc ks pc lv (.int y' :: .int x :: st) := fun H locs ls hH hS hl => lv_ishr hC.1.1 hC.1.2.1 d (K H locs ls hH hS hl)
theorem v_iushr (hC : Cx g y cc nL rt rm w) {x y' : Int32} (pc : Nat) (d : decode cc pc = .ok (.iushr, 1)) (K : V g w nL Q S kc ks (pc + 1) lv (.int ((x.toUInt32 >>> (y'.toUInt32 &&& Int32.toUInt32 31)).toInt32) :: st)) : V g w nL Q S kc ks pc lv (.int y' :: .int x :: st) := fun H locs ls hH hS hl => lv_iushr hC.1.1 hC.1.2.1 d rfl (K H locs ls hH hS hl)
theorem v_idiv (hC : Cx g y cc nL rt rm w) {x y' : Int32} (pc : Nat) (hne : ¬ y' = 0) (d : decode cc pc = .ok (.idiv, 1)) (K : V g w nL Q S kc ks (pc + 1) lv (.int (x / y') :: st)) : V g w nL Q S kc ks pc lv (.int y' :: .int x :: st) := fun H locs ls hH hS hl => lv_idiv hC.1.1 hC.1.2.1 d hne (K H locs ls hH hS hl)
theorem v_irem (hC : Cx g y cc nL rt rm w) {x y' : Int32} (pc : Nat) (hne : ¬ y' = 0) (d : decode cc pc = .ok (.irem, 1)) (K : V g w nL Q S kc ks (pc + 1) lv (.int (x - x / y' * y') :: st)) : V g w nL Q S kc ks pc lv (.int y' :: .int x :: st) := fun H locs ls hH hS hl => lv_irem hC.1.1 hC.1.2.1 d hne (K H locs ls hH hS hl)
theorem v_lrem (hC : Cx g y cc nL rt rm w) {x y' : Int64} (pc : Nat) (hne : ¬ y' = 0) (d : decode cc pc = .ok (.lrem, 1)) (K : V g w nL Q S kc ks (pc + 1) lv (.long (x - x / y' * y') :: st)) : V g w nL Q S kc ks pc lv (.long y' :: .long x :: st) := fun H locs ls hH hS hl => lv_lrem hC.1.1 hC.1.2.1 d hne (K H locs ls hH hS hl)
theorem v_ladd (hC : Cx g y cc nL rt rm w) {x y' : Int64} (pc : Nat) (d : decode cc pc = .ok (.ladd, 1)) (K : V g w nL Q S kc ks (pc + 1) lv (.long (x + y') :: st)) : V g w nL Q S kc ks pc lv (.long y' :: .long x :: st) := fun H locs ls hH hS hl => lv_ladd hC.1.1 hC.1.2.1 d (K H locs ls hH hS hl)
theorem v_lmul (hC : Cx g y cc nL rt rm w) {x y' : Int64} (pc : Nat) (d : decode cc pc = .ok (.lmul, 1)) (K : V g w nL Q S kc ks (pc + 1) lv (.long (x * y') :: st)) : V g w nL Q S kc ks pc lv (.long y' :: .long x :: st) := fun H locs ls hH hS hl => lv_lmul hC.1.1 hC.1.2.1 d (K H locs ls hH hS hl)
theorem v_ineg (hC : Cx g y cc nL rt rm w) {x : Int32} (pc : Nat) (d : decode cc pc = .ok (.ineg, 1)) (K : V g w nL Q S kc ks (pc + 1) lv (.int (-x) :: st)) : V g w nL Q S kc ks pc lv (.int x :: st) := fun H locs ls hH hS hl => lv_ineg hC.1.1 hC.1.2.1 d (K H locs ls hH hS hl)
theorem v_i2l (hC : Cx g y cc nL rt rm w) {x : Int32} (pc : Nat) (d : decode cc pc = .ok (.i2l, 1)) (K : V g w nL Q S kc ks (pc + 1) lv (.long (x.toInt64) :: st)) : V g w nL Q S kc ks pc lv (.int x :: st) := fun H locs ls hH hS hl => lv_i2l hC.1.1 hC.1.2.1 d rfl (K H locs ls hH hS hl)
theorem v_l2i (hC : Cx g y cc nL rt rm w) {x : Int64} (pc : Nat) (d : decode cc pc = .ok (.l2i, 1)) (K : V g w nL Q S kc ks (pc + 1) lv (.int (x.toInt32) :: st)) : V g w nL Q S kc ks pc lv (.long x :: st) := fun H locs ls hH hS hl => lv_l2i hC.1.1 hC.1.2.1 d rfl (K H locs ls hH hS hl)
theorem v_lcmp (hC : Cx g y cc nL rt rm w) {x y' : Int64} (pc : Nat) (d : decode cc pc = .ok (.lcmp, 1)) (K : V g w nL Q S kc ks (pc + 1) lv (.int (lg_cmp x y') :: st)) : V g w nL Q S kc ks pc lv (.long y' :: .long x :: st) := fun H locs ls hH hS hl => W.lcmp hC.1.1 hC.1.2.1 d (K H locs ls hH hS hl)
theorem v_dup (hC : Cx g y cc nL rt rm w) {v : Value} (pc : Nat) (h : v.category = 1) (d : decode cc pc = .ok (.dup, 1)) (K : V g w nL Q S kc ks (pc + 1) lv (v :: v :: st)) : V g w nL Q S kc ks pc lv (v :: st) := fun H locs ls hH hS hl => lv_dup hC.1.1 hC.1.2.1 d h (K H locs ls hH hS hl)
theorem v_pop (hC : Cx g y cc nL rt rm w) {v : Value} (pc : Nat) (h : v.category = 1) (d : decode cc pc = .ok (.pop, 1)) (K : V g w nL Q S kc ks (pc + 1) lv st) : V g w nL Q S kc ks pc lv (v :: st) := fun H locs ls hH hS hl => lv_pop hC.1.1 hC.1.2.1 d h (K H locs ls hH hS hl)
theorem v_dup2 (hC : Cx g y cc nL rt rm w) {v u : Value} (pc : Nat) (h : v.category = 1) (h2 : u.category = 1) (d : decode cc pc = .ok (.dup2, 1)) (K : V g w nL Q S kc ks (pc + 1) lv (v :: u :: v :: u :: st)) : V g w nL Q S kc ks pc lv (v :: u :: st) := fun H locs ls hH hS hl => lv_dup2_11 hC.1.1 hC.1.2.1 d h h2 (K H locs ls hH hS hl)
theorem cat_rf (r : Option Nat) : (va_rf r).category = 1 := by cases r <;> rfl
theorem v_if_eq (hC : Cx g y cc nL rt rm w) {x : Int32} {off : Int} (pc tgt : Nat) (d : decode cc pc = .ok (.ifCond .eq off, 3)) (ht : (pc : Int) + off = (tgt : Int)) (kt : x = 0 → V g w nL Q S kc ks tgt lv st) (kf : ¬ x = 0 → V g w nL Q S kc ks (pc + 3) lv st) : V g w nL Q S kc ks pc lv (.int x :: st) := fun H locs ls hH hS hl => lv_if_eq hC.1.1 hC.1.2.1 d ht (fun q => kt q H locs ls hH hS hl) (fun q => kf q H locs ls hH hS hl)
theorem v_icmp_eq (hC : Cx g y cc nL rt rm w) {x y' : Int32} {off : Int} (pc tgt : Nat) (d : decode cc pc = .ok (.if_icmp .eq off, 3)) (ht : (pc : Int) + off = (tgt : Int)) (kt : x = y' → V g w nL Q S kc ks tgt lv st) (kf : ¬ x = y' → V g w nL Q S kc ks (pc + 3) lv st) : V g w nL Q S kc ks pc lv (.int y' :: .int x :: st) := fun H locs ls hH hS hl => lv_icmp_eq hC.1.1 hC.1.2.1 d ht (fun q => kt q H locs ls hH hS hl) (fun q => kf q H locs ls hH hS hl)
theorem v_if_ne (hC : Cx g y cc nL rt rm w) {x : Int32} {off : Int} (pc tgt : Nat) (d : decode cc pc = .ok (.ifCond .ne off, 3)) (ht : (pc : Int) + off = (tgt : Int)) (kt : ¬ x = 0 → V g w nL Q S kc ks tgt lv st) (kf : x = 0 → V g w nL Q S kc ks (pc + 3) lv st) : V g w nL Q S kc ks pc lv (.int x :: st) := fun H locs ls hH hS hl => lv_if_ne hC.1.1 hC.1.2.1 d ht (fun q => kt q H locs ls hH hS hl) (fun q => kf q H locs ls hH hS hl)
theorem v_icmp_ne (hC : Cx g y cc nL rt rm w) {x y' : Int32} {off : Int} (pc tgt : Nat) (d : decode cc pc = .ok (.if_icmp .ne off, 3)) (ht : (pc : Int) + off = (tgt : Int)) (kt : ¬ x = y' → V g w nL Q S kc ks tgt lv st) (kf : x = y' → V g w nL Q S kc ks (pc + 3) lv st) : V g w nL Q S kc ks pc lv (.int y' :: .int x :: st) := fun H locs ls hH hS hl => lv_icmp_ne hC.1.1 hC.1.2.1 d ht (fun q => kt q H locs ls hH hS hl) (fun q => kf q H locs ls hH hS hl)
theorem v_if_lt (hC : Cx g y cc nL rt rm w) {x : Int32} {off : Int} (pc tgt : Nat) (d : decode cc pc = .ok (.ifCond .lt off, 3)) (ht : (pc : Int) + off = (tgt : Int)) (kt : x < 0 → V g w nL Q S kc ks tgt lv st) (kf : ¬ x < 0 → V g w nL Q S kc ks (pc + 3) lv st) : V g w nL Q S kc ks pc lv (.int x :: st) := fun H locs ls hH hS hl => lv_if_lt hC.1.1 hC.1.2.1 d ht (fun q => kt q H locs ls hH hS hl) (fun q => kf q H locs ls hH hS hl)
theorem v_icmp_lt (hC : Cx g y cc nL rt rm w) {x y' : Int32} {off : Int} (pc tgt : Nat) (d : decode cc pc = .ok (.if_icmp .lt off, 3)) (ht : (pc : Int) + off = (tgt : Int)) (kt : x < y' → V g w nL Q S kc ks tgt lv st) (kf : ¬ x < y' → V g w nL Q S kc ks (pc + 3) lv st) : V g w nL Q S kc ks pc lv (.int y' :: .int x :: st) := fun H locs ls hH hS hl => lv_icmp_lt hC.1.1 hC.1.2.1 d ht (fun q => kt q H locs ls hH hS hl) (fun q => kf q H locs ls hH hS hl)
theorem v_if_ge (hC : Cx g y cc nL rt rm w) {x : Int32} {off : Int} (pc tgt : Nat) (d : decode cc pc = .ok (.ifCond .ge off, 3)) (ht : (pc : Int) + off = (tgt : Int)) (kt : 0 ≤ x → V g w nL Q S kc ks tgt lv st) (kf : ¬ 0 ≤ x → V g w nL Q S kc ks (pc + 3) lv st) : V g w nL Q S kc ks pc lv (.int x :: st) := fun H locs ls hH hS hl => lv_if_ge hC.1.1 hC.1.2.1 d ht (fun q => kt q H locs ls hH hS hl) (fun q => kf q H locs ls hH hS hl)
theorem v_icmp_ge (hC : Cx g y cc nL rt rm w) {x y' : Int32} {off : Int} (pc tgt : Nat) (d : decode cc pc = .ok (.if_icmp .ge off, 3)) (ht : (pc : Int) + off = (tgt : Int)) (kt : y' ≤ x → V g w nL Q S kc ks tgt lv st) (kf : ¬ y' ≤ x → V g w nL Q S kc ks (pc + 3) lv st) : V g w nL Q S kc ks pc lv (.int y' :: .int x :: st) := fun H locs ls hH hS hl => lv_icmp_ge hC.1.1 hC.1.2.1 d ht (fun q => kt q H locs ls hH hS hl) (fun q => kf q H locs ls hH hS hl)
theorem v_if_gt (hC : Cx g y cc nL rt rm w) {x : Int32} {off : Int} (pc tgt : Nat) (d : decode cc pc = .ok (.ifCond .gt off, 3)) (ht : (pc : Int) + off = (tgt : Int)) (kt : 0 < x → V g w nL Q S kc ks tgt lv st) (kf : ¬ 0 < x → V g w nL Q S kc ks (pc + 3) lv st) : V g w nL Q S kc ks pc lv (.int x :: st) := fun H locs ls hH hS hl => lv_if_gt hC.1.1 hC.1.2.1 d ht (fun q => kt q H locs ls hH hS hl) (fun q => kf q H locs ls hH hS hl)
theorem v_icmp_gt (hC : Cx g y cc nL rt rm w) {x y' : Int32} {off : Int} (pc tgt : Nat) (d : decode cc pc = .ok (.if_icmp .gt off, 3)) (ht : (pc : Int) + off = (tgt : Int)) (kt : y' < x → V g w nL Q S kc ks tgt lv st) (kf : ¬ y' < x → V g w nL Q S kc ks (pc + 3) lv st) : V g w nL Q S kc ks pc lv (.int y' :: .int x :: st) := fun H locs ls hH hS hl => lv_icmp_gt hC.1.1 hC.1.2.1 d ht (fun q => kt q H locs ls hH hS hl) (fun q => kf q H locs ls hH hS hl)
theorem v_if_le (hC : Cx g y cc nL rt rm w) {x : Int32} {off : Int} (pc tgt : Nat) (d : decode cc pc = .ok (.ifCond .le off, 3)) (ht : (pc : Int) + off = (tgt : Int)) (kt : x ≤ 0 → V g w nL Q S kc ks tgt lv st) (kf : ¬ x ≤ 0 → V g w nL Q S kc ks (pc + 3) lv st) : V g w nL Q S kc ks pc lv (.int x :: st) := fun H locs ls hH hS hl => lv_if_le hC.1.1 hC.1.2.1 d ht (fun q => kt q H locs ls hH hS hl) (fun q => kf q H locs ls hH hS hl)
theorem v_icmp_le (hC : Cx g y cc nL rt rm w) {x y' : Int32} {off : Int} (pc tgt : Nat) (d : decode cc pc = .ok (.if_icmp .le off, 3)) (ht : (pc : Int) + off = (tgt : Int)) (kt : x ≤ y' → V g w nL Q S kc ks tgt lv st) (kf : ¬ x ≤ y' → V g w nL Q S kc ks (pc + 3) lv st) : V g w nL Q S kc ks pc lv (.int y' :: .int x :: st) := fun H locs ls hH hS hl => lv_icmp_le hC.1.1 hC.1.2.1 d ht (fun q => kt q H locs ls hH hS hl) (fun q => kf q H locs ls hH hS hl)
theorem v_goto (hC : Cx g y cc nL rt rm w) {off : Int} (pc tgt : Nat) (d : decode cc pc = .ok (.goto off, 3)) (ht : (pc : Int) + off = (tgt : Int)) (K : V g w nL Q S kc ks tgt lv st) : V g w nL Q S kc ks pc lv st := fun H locs ls hH hS hl => lv_goto hC.1.1 hC.1.2.1 d ht (K H locs ls hH hS hl)
theorem v_ifnull (hC : Cx g y cc nL rt rm w) {x : Option Nat} {off : Int} (pc tgt : Nat) (d : decode cc pc = .ok (.ifnull off, 3)) (ht : (pc : Int) + off = (tgt : Int)) (kt : x = none → V g w nL Q S kc ks tgt lv st) (kf : ¬ x = none → V g w nL Q S kc ks (pc + 3) lv st) : V g w nL Q S kc ks pc lv (va_rf x :: st) := by
  intro H locs ls hH hS hl
  cases x with
  | none => exact lv_ifnullN hC.1.1 hC.1.2.1 d ht (kt rfl H locs ls hH hS hl)
  | some a => exact lv_ifnull hC.1.1 hC.1.2.1 d (kf (fun q => by cases q) H locs ls hH hS hl)
theorem v_ifnonnull (hC : Cx g y cc nL rt rm w) {x : Option Nat} {off : Int} (pc tgt : Nat) (d : decode cc pc = .ok (.ifnonnull off, 3)) (ht : (pc : Int) + off = (tgt : Int)) (kt : ¬ x = none → V g w nL Q S kc ks tgt lv st) (kf : x = none → V g w nL Q S kc ks (pc + 3) lv st) : V g w nL Q S kc ks pc lv (va_rf x :: st) := by
  intro H locs ls hH hS hl
  cases x with
  | none => exact lv_ifnonnullN hC.1.1 hC.1.2.1 d (kf rfl H locs ls hH hS hl)
  | some a => exact lv_ifnonnull hC.1.1 hC.1.2.1 d ht (kt (fun q => by cases q) H locs ls hH hS hl)
theorem v_lookup (hC : Cx g y cc nL rt rm w) {x : Int32} {dflt : Int} {ps : Array (Int × Int)} {len : Nat} {off : Int} (pc tgt : Nat) (d : decode cc pc = .ok (.lookupswitch dflt ps, len)) (hq : (ps.toList.zip (ps.toList.drop 1)).all (fun (a, next) => a.1 < next.1) = true) (ho : Op.lookupswitch.offset ps.toList dflt x.toInt = off) (ht : (pc : Int) + off = (tgt : Int)) (K : V g w nL Q S kc ks tgt lv st) : V g w nL Q S kc ks pc lv (.int x :: st) := fun H locs ls hH hS hl => lv_lookup hC.1.1 hC.1.2.1 d hq ho ht (K H locs ls hH hS hl)
theorem v_tabOut (hC : Cx g y cc nL rt rm w) {x : Int32} {dflt lo hi : Int} {offs : Array Int} {len : Nat} (pc tgt : Nat) (d : decode cc pc = .ok (.tableswitch dflt lo hi offs, len)) (h : x.toInt < lo ∨ hi < x.toInt) (ht : (pc : Int) + dflt = (tgt : Int)) (K : V g w nL Q S kc ks tgt lv st) : V g w nL Q S kc ks pc lv (.int x :: st) := fun H locs ls hH hS hl => lv_tableOut hC.1.1 hC.1.2.1 d h ht (K H locs ls hH hS hl)
theorem v_tabIn (hC : Cx g y cc nL rt rm w) {x : Int32} {dflt lo hi : Int} {offs : Array Int} {len : Nat} {off : Int} (pc tgt : Nat) (k : Int32) (hk : x = k) (d : decode cc pc = .ok (.tableswitch dflt lo hi offs, len)) (h1 : ¬ k.toInt < lo) (h2 : ¬ hi < k.toInt) (ho : offs[(k.toInt - lo).toNat]? = some off) (ht : (pc : Int) + off = (tgt : Int)) (K : V g w nL Q S kc ks tgt lv st) : V g w nL Q S kc ks pc lv (.int x :: st) := by
  subst hk
  exact fun H locs ls hH hS hl => lv_tableIn hC.1.1 hC.1.2.1 d h1 h2 ho ht (K H locs ls hH hS hl)
theorem v_iret (hC : Cx g y cc nL (some .int) rm w) {v : Int32} (pc : Nat) (h1 : kc ≤ rm.cells) (h2 : ks ≤ rm.slots) (d : decode cc pc = .ok (.ireturn, 1)) : V g w nL (Qm g w rm.cells rm.slots (some (.int v)) S) S kc ks pc lv [.int v] := fun H locs ls hH hS hl => W.widen h1 h2 (W.iret hC.1.1 hC.1.2.1 hC.1.2.2.1 (fun t ht hW => ⟨rfl, by rw [ht]; exact hH, hS.F ht⟩) hS.2.2 d (hlocks := hC.1.2.2.2.2.2.1))
theorem v_zret (hC : Cx g y cc nL (some .boolean) rm w) {v : Int32} (pc : Nat) (h1 : kc ≤ rm.cells) (h2 : ks ≤ rm.slots) (hn : v = 0 ∨ v = 1) (d : decode cc pc = .ok (.ireturn, 1)) : V g w nL (Qm g w rm.cells rm.slots (some (.int v)) S) S kc ks pc lv [.int v] := fun H locs ls hH hS hl => W.widen h1 h2 (W.zret hC.1.1 hC.1.2.1 hC.1.2.2.1 (by rcases hn with rfl | rfl <;> rfl) (fun t ht hW => ⟨rfl, by rw [ht]; exact hH, hS.F ht⟩) hS.2.2 d (hlocks := hC.1.2.2.2.2.2.1))
theorem v_lret (hC : Cx g y cc nL (some .long) rm w) {v : Int64} (pc : Nat) (h1 : kc ≤ rm.cells) (h2 : ks ≤ rm.slots) (d : decode cc pc = .ok (.lreturn, 1)) : V g w nL (Qm g w rm.cells rm.slots (some (.long v)) S) S kc ks pc lv [.long v] := fun H locs ls hH hS hl => W.widen h1 h2 (W.lret hC.1.1 hC.1.2.1 hC.1.2.2.1 (fun t ht hW => ⟨rfl, by rw [ht]; exact hH, hS.F ht⟩) hS.2.2 d (hlocks := hC.1.2.2.2.2.2.1))
theorem v_aret {n : String} (hC : Cx g y cc nL (some (.object n)) rm w) {r : Option Nat} (pc : Nat) (h1 : kc ≤ rm.cells) (h2 : ks ≤ rm.slots) (d : decode cc pc = .ok (.areturn, 1)) : V g w nL (Qm g w rm.cells rm.slots (some (va_rf r)) S) S kc ks pc lv [va_rf r] := fun H locs ls hH hS hl => W.widen h1 h2 (W.aret hC.1.1 hC.1.2.1 hC.1.2.2.1 (Or.inl ⟨n, rfl⟩) (by cases r with | none => exact Or.inl rfl | some a => exact Or.inr ⟨a, rfl⟩) (fun t ht hW => ⟨rfl, by rw [ht]; exact hH, hS.F ht⟩) hS.2.2 d (hlocks := hC.1.2.2.2.2.2.1))
theorem v_vret (hC : Cx g y cc nL none rm w) (pc : Nat) (h1 : kc ≤ rm.cells) (h2 : ks ≤ rm.slots) (d : decode cc pc = .ok (.return_, 1)) : V g w nL (Qm g w rm.cells rm.slots none S) S kc ks pc lv [] := fun H locs ls hH hS hl => W.widen h1 h2 (W.vret hC.1.1 hC.1.2.1 hC.1.2.2.1 (fun t ht hW => ⟨rfl, by rw [ht]; exact hH, hS.F ht⟩) hS.2.2 d (hlocks := hC.1.2.2.2.2.2.1))
end VR
