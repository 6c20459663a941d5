-- ===== end of PART A; then your names; then what follows =====
/-! THE CLAIM OUT OF ONE WALK OF THE LAW'S BODY. Your part is whole_start (and what it stands on); all else here is the same for every law, but numbers. -/
def R_law : String := "CaneHouseLaw"
def lw_P (b : Addr) (xs : List Int32) (args : Array Value) (s : State) : Prop := args = #[.ref b] ∧ s.IntsAt b xs ∧ xs.length ≤ 3072 ∧ (Jvm.Cond.and given_1 narrow_1).before args s = true
def lw_Q (_ : Array Value) (s : State) (o : Outcome) (t : State) : Prop := o = .returned (some (.int 1)) ∧ Framed s o t [] 600000 7302250
def lw_Z (below : List Frame) (a : Array Value) (s : State) : State → Prop := fun t => ∃ o, t.status = .running ∧ Ended t below o ∧ lw_Q a s o t
/-- the law's own end, with 1 on the stack, nothing written that was there before, its room as the claim has it -/
theorem lw_ret {p : Program} {l : Launch} {e : Env} {s : State} {m : MethodId} {below : List Frame} {meth : Method} {c : Code} {b : Nat} (hx : p.tables.exec = Jvm.exec) (hb : c.code = code) (hr : meth.sig.returnType = ret) (hlocks : meth.locks = false) {pc : Nat} {H : Heap} {ls : Array Slot} (hdg : decode code pc = .ok (.ireturn, 1)) : W p l e room_1 s m #[Value.ref b] below meth c H [] 600000 7302250 (lw_Z below #[Value.ref b] s) (F0 m pc ls [.int 1]) := by
  intro T hT X
  obtain ⟨fs, hret, hrun, hended, hW, hframe⟩ := X.leave (v := some (.int 1)) (hlocks := hlocks) (fun h => by rw [hr] at h; cases h)
  have hmeth' : T.vm.method? m = some meth := X.method'
  refine ⟨T.setFrames fs, ?_, .returned (some (.int 1)), hrun, hended, rfl, ⟨_, rfl⟩, hW, hframe⟩
  jvm_step X.here [X.here.top, hx, hb, hdg, hmeth', hr, ret, narrow_b1]
  (try refine ⟨rfl, ?_⟩); (try refine ⟨rfl, ?_⟩)
  first | (intro acts; rw [hret _ acts rfl rfl rfl]) | rw [hret _ _ rfl rfl rfl]
  exact Steps.refl _
/-- what holds at the law's entry: the machine, the code, the tables' words (any of lw_tbl by 'hts w (by decide +kernel)'), the script of L ints xs at the cell b, what the Statement gives of the start (any of its parts by flat_of_before) -/
def lw_At (p : Program) (s : State) (m : MethodId) (meth : Method) (c : Code) (b L : Nat) (xs : Nat → Int32) : Prop :=
  p.tables.exec = Jvm.exec ∧ c.code = code ∧ meth.sig.returnType = ret ∧ c.maxLocals = 4 ∧ s.vm.findClass R_law = some m.cls ∧ (∀ w ∈ lw_tbl, w.before #[Value.ref b] s = true) ∧ va_X b L xs s s.heap ∧ b < s.heap.size ∧ meth.locks = false ∧ (Jvm.Cond.and given_1 narrow_1).before #[Value.ref b] s = true

/-! ===== 900: the law ===== -/
section LW
variable {g : VG} {w : VW} {nL : Nat} {Q : State → Prop} {S : pH} {kc ks : Nat} {lv : List (Nat × Value)} {st : List Value} {y : MethodName} {cc : ByteArray} {rt : Option FieldType} {rm : Room}
theorem v_slen (hC : Cx g y cc nL rt rm w) {b0 L : Nat} {xs : Nat → Int32} (hX : va_X b0 L xs g.2.2.2.2.1 g.2.2.2.2.1.heap) (hbl : b0 < g.2.2.2.2.1.heap.size) (hbA : ¬ w.2.2 ≤ b0) (pc : Nat) (d : decode cc pc = .ok (.arraylength, 1)) (K : V g w nL Q S kc ks (pc + 1) lv (.int (Int32.ofNat L) :: st)) : V g w nL Q S kc ks pc lv (va_rf (some b0) :: st) := fun H locs ls hH hS hh => va_slen hC.1.1 hC.1.2.1 hX hbl hbA hS d (K H locs ls hH hS hh)
theorem v_sld (hC : Cx g y cc nL rt rm w) {b0 L : Nat} {xs : Nat → Int32} (hX : va_X b0 L xs g.2.2.2.2.1 g.2.2.2.2.1.heap) (hbl : b0 < g.2.2.2.2.1.heap.size) (hbA : ¬ w.2.2 ≤ b0) {i : Int32} (pc : Nat) (hin : vp_in i L) (d : decode cc pc = .ok (.iaload, 1)) (K : V g w nL Q S kc ks (pc + 1) lv (.int (xs i.toNatClampNeg) :: st)) : V g w nL Q S kc ks pc lv (.int i :: va_rf (some b0) :: st) := fun H locs ls hH hS hh => va_sld hC.1.1 hC.1.2.1 hX hbl hbA hS hin d (K H locs ls hH hS hh)
end LW
theorem law_ix {L i : Nat} (hL : L ≤ 3072) (hi : i + 6 ≤ L) (j : Nat) (hj : j < 6) (c : Int32) (hc : c = nI j) : vp_in (nI i + c) L := by
  subst hc
  rw [nI_add]
  exact vp_in_nI (by omega) (by omega)
theorem law_cmp {L i : Nat} (hL : L ≤ 3072) (hi : i ≤ 3078) : Int32.ofNat L - 6 < nI i ↔ L < i + 6 := by
  have h1 : (Int32.ofNat L - 6).toInt = (L : Int) - 6 := by
    have := pk_sub_toInt (a := L) (b := 6) (by omega) (by omega)
    exact this
  rw [Int32.lt_iff_toInt_lt, h1, nI_toInt (by omega)]
  omega
set_option maxHeartbeats 4000000 in
set_option maxRecDepth 100000 in
theorem law_loop {g : VG} {w : VW} {y : MethodName} {b0 L hm : Nat} {xs : Nat → Int32} (Inv : pH → Prop) (hs : Steps w.2.2 hm Inv) (hL : L ≤ 3072) (hy : y.cls = RL) (hC : Cx g y code 4 ret room_1 w) (hX : va_X b0 L xs g.2.2.2.2.1 g.2.2.2.2.1.heap) (hbl : b0 < g.2.2.2.2.1.heap.size) (hbA : ¬ w.2.2 ≤ b0) (hw : w.2.2 = g.2.2.2.2.1.heap.size) (hg : g.2.2.2.1 = room_1) (hga : g.2.2.2.2.2.2.1 = #[Value.ref b0]) :
    ∀ (n i : Nat) (x3 : Int32) (S : pH) (kc ks : Nat), L + 6 < 6 * n + i → i ≤ L + 6 → x3 = nI i → Inv S → kc + 3 * n ≤ 600000 → ks + 70 * n ≤ 7302250 → V g w 4 (lw_Z g.2.2.2.2.2.2.2.1 g.2.2.2.2.2.2.1 g.2.2.2.2.1) S kc ks 18 [(0, va_rf (some b0)), (1, va_rf (some w.2.2)), (2, va_rf (some hm)), (3, .int x3)] [] := by
  generalize hb : w.2.2 = b at hs hbA hw
  intro n
  induction n with
  | zero => intro i x3 S kc ks h1 h2; omega
  | succ n ih =>
    intro i x3 S kc ks hn hi e3 hI hkc hks
    refine v_iload_n hC 18 3 dL_law_18 rfl ?_
    refine v_aload_n hC 19 0 dL_law_19 rfl ?_
    refine v_slen hC hX hbl (by rw [hb]; exact hbA) 20 dL_law_20 ?_
    refine v_bipush hC (6 : Int32) 21 dL_law_21 (by decide) ?_
    refine v_isub hC 23 dL_law_23 ?_
    refine v_icmp_gt hC 24 1305 dL_law_24 (by decide) (fun c1 => ?_) (fun c1 => ?_)
    · refine v_iconst hC (1 : Int32) 1305 dL_law_1305 (by decide) ?_
      intro H locs ls hH hS hh
      refine W.widen (k := 600000) (n := 7302250) (by omega) (by omega) ?_
      refine va_forget (fun q hq => ?_) ?_
      · have := hS.2.2 q hq
        have h9 : w.2.2 ≤ q.base := this
        rw [hb, hw] at h9
        exact h9
      · rw [hga, hg]
        exact lw_ret hC.1.1 hC.1.2.1 hC.1.2.2.1 hC.1.2.2.2.2.2.1 dL_law_1306
    · have hi6 : i + 6 ≤ L := by
        rw [e3, law_cmp hL (by omega)] at c1
        omega
      have ix : ∀ (j : Nat), j < 6 → ∀ (c : Int32), c = nI j → vp_in (x3 + c) L := fun j hj c hc => by rw [e3]; exact law_ix hL hi6 j hj c hc
      have ix0 : vp_in x3 L := by rw [e3]; exact vp_in_nI (by omega) (by omega)
      have NX : ∀ S2, Inv S2 → V g w 4 (lw_Z g.2.2.2.2.2.2.2.1 g.2.2.2.2.2.2.1 g.2.2.2.2.1) S2 (kc + 3) (ks + 70) 1299 [(0, va_rf (some b0)), (1, va_rf (some b)), (2, va_rf (some hm)), (3, .int x3)] [] := by
        intro S2 hI2
        obtain ⟨x4, e4⟩ : ∃ z : Int32, z = x3 + 6 := ⟨_, rfl⟩
        refine v_iinc hC x4 [(3, .int x4), (0, va_rf (some b0)), (1, va_rf (some b)), (2, va_rf (some hm))] 1299 3 dL_law_1299 rfl (by rw [e4]; rfl) (by decide) (by first | rfl | (simp [cat_rf]; done) | (simp [cat_rf]; decide)) ?_
        refine v_goto hC 1302 18 dL_law_1302 (by decide) ?_
        refine v_sub [(0, va_rf (some b0)), (1, va_rf (some b)), (2, va_rf (some hm)), (3, .int x4)] [1, 2, 3, 0] rfl ?_
        exact ih (i + 6) x4 S2 _ _ (by omega) (by omega) (by rw [e4, e3]; exact nI_add i 6) hI2 (by omega) (by omega)
      refine v_aload_n hC 27 0 dL_law_27 rfl ?_
      refine v_iload_n hC 28 3 dL_law_28 rfl ?_
      refine v_sld hC hX hbl (by rw [hb]; exact hbA) 29 ix0 dL_law_29 ?_
      refine v_bipush hC (63 : Int32) 30 dL_law_30 (by decide) ?_
      refine v_iand hC 32 dL_law_32 ?_
      obtain ⟨xc, ec⟩ : ∃ z : Int32, z = xs x3.toNatClampNeg &&& 63 := ⟨_, rfl⟩
      refine v_topi xc ec ?_
      by_cases c10 : xc = (0 : Int32)
      · refine v_tabIn hC 33 196 (0 : Int32) c10 dL_law_33 (by decide) (by decide) rfl (by decide) ?_
        obtain ⟨v, S1, S2, h8, h9, hI2⟩ := hs.1 S hI (xs (x3 + (1 : Int32)).toNatClampNeg) (xs (x3 + (2 : Int32)).toNatClampNeg) (xs (x3 + (3 : Int32)).toNatClampNeg)
        refine v_aload_n hC 196 1 dL_law_196 rfl ?_
        refine v_aload_n hC 197 0 dL_law_197 rfl ?_
        refine v_iload_n hC 198 3 dL_law_198 rfl ?_
        refine v_iconst hC (1 : Int32) 199 dL_law_199 (by decide) ?_
        refine v_iadd hC 200 dL_law_200 ?_
        refine v_sld hC hX hbl (by rw [hb]; exact hbA) 201 (ix 1 (by decide) _ (by decide)) dL_law_201 ?_
        refine v_aload_n hC 202 0 dL_law_202 rfl ?_
        refine v_iload_n hC 203 3 dL_law_203 rfl ?_
        refine v_iconst hC (2 : Int32) 204 dL_law_204 (by decide) ?_
        refine v_iadd hC 205 dL_law_205 ?_
        refine v_sld hC hX hbl (by rw [hb]; exact hbA) 206 (ix 2 (by decide) _ (by decide)) dL_law_206 ?_
        refine v_aload_n hC 207 0 dL_law_207 rfl ?_
        refine v_iload_n hC 208 3 dL_law_208 rfl ?_
        refine v_iconst hC (3 : Int32) 209 dL_law_209 (by decide) ?_
        refine v_iadd hC 210 dL_law_210 ?_
        refine v_sld hC hX hbl (by rw [hb]; exact hbA) 211 (ix 3 (by decide) _ (by decide)) dL_law_211 ?_
        refine qL_13 hC hy 212 h8 (by decide) (catL (Nat.le_of_ble_eq_true rfl)) ⟨by show _ ≤ 600000; omega, by show _ ≤ 7302250; omega⟩ dL_law_212 ?_
        refine v_aload_n hC 215 2 dL_law_215 rfl ?_
        refine v_aload_n hC 216 0 dL_law_216 rfl ?_
        refine v_iload_n hC 217 3 dL_law_217 rfl ?_
        refine v_iconst hC (1 : Int32) 218 dL_law_218 (by decide) ?_
        refine v_iadd hC 219 dL_law_219 ?_
        refine v_sld hC hX hbl (by rw [hb]; exact hbA) 220 (ix 1 (by decide) _ (by decide)) dL_law_220 ?_
        refine v_aload_n hC 221 0 dL_law_221 rfl ?_
        refine v_iload_n hC 222 3 dL_law_222 rfl ?_
        refine v_iconst hC (2 : Int32) 223 dL_law_223 (by decide) ?_
        refine v_iadd hC 224 dL_law_224 ?_
        refine v_sld hC hX hbl (by rw [hb]; exact hbA) 225 (ix 2 (by decide) _ (by decide)) dL_law_225 ?_
        refine v_aload_n hC 226 0 dL_law_226 rfl ?_
        refine v_iload_n hC 227 3 dL_law_227 rfl ?_
        refine v_iconst hC (3 : Int32) 228 dL_law_228 (by decide) ?_
        refine v_iadd hC 229 dL_law_229 ?_
        refine v_sld hC hX hbl (by rw [hb]; exact hbA) 230 (ix 3 (by decide) _ (by decide)) dL_law_230 ?_
        refine qL_17 hC hy 231 h9 (by decide) (catL (Nat.le_of_ble_eq_true rfl)) ⟨by show _ ≤ 600000; omega, by show _ ≤ 7302250; omega⟩ dL_law_231 ?_
        refine v_icmp_eq hC 234 1299 dL_law_234 (by decide) (fun _ => ?_) (fun c2 => absurd rfl c2)
        exact v_wid _ _ (by omega) (by omega) (NX S2 hI2)
      by_cases c11 : xc = (1 : Int32)
      · refine v_tabIn hC 33 239 (1 : Int32) c11 dL_law_33 (by decide) (by decide) rfl (by decide) ?_
        obtain ⟨v, S1, S2, h8, h9, hI2⟩ := hs.2.1 S hI (xs (x3 + (1 : Int32)).toNatClampNeg) (xs (x3 + (2 : Int32)).toNatClampNeg)
        refine v_aload_n hC 239 1 dL_law_239 rfl ?_
        refine v_aload_n hC 240 0 dL_law_240 rfl ?_
        refine v_iload_n hC 241 3 dL_law_241 rfl ?_
        refine v_iconst hC (1 : Int32) 242 dL_law_242 (by decide) ?_
        refine v_iadd hC 243 dL_law_243 ?_
        refine v_sld hC hX hbl (by rw [hb]; exact hbA) 244 (ix 1 (by decide) _ (by decide)) dL_law_244 ?_
        refine v_aload_n hC 245 0 dL_law_245 rfl ?_
        refine v_iload_n hC 246 3 dL_law_246 rfl ?_
        refine v_iconst hC (2 : Int32) 247 dL_law_247 (by decide) ?_
        refine v_iadd hC 248 dL_law_248 ?_
        refine v_sld hC hX hbl (by rw [hb]; exact hbA) 249 (ix 2 (by decide) _ (by decide)) dL_law_249 ?_
        refine qL_18 hC hy 250 (by rw [hb]; exact h8) (by decide) (catL (Nat.le_of_ble_eq_true rfl)) ⟨by show _ ≤ 600000; omega, by show _ ≤ 7302250; omega⟩ dL_law_250 ?_
        refine v_aload_n hC 253 2 dL_law_253 rfl ?_
        refine v_aload_n hC 254 0 dL_law_254 rfl ?_
        refine v_iload_n hC 255 3 dL_law_255 rfl ?_
        refine v_iconst hC (1 : Int32) 256 dL_law_256 (by decide) ?_
        refine v_iadd hC 257 dL_law_257 ?_
        refine v_sld hC hX hbl (by rw [hb]; exact hbA) 258 (ix 1 (by decide) _ (by decide)) dL_law_258 ?_
        refine v_aload_n hC 259 0 dL_law_259 rfl ?_
        refine v_iload_n hC 260 3 dL_law_260 rfl ?_
        refine v_iconst hC (2 : Int32) 261 dL_law_261 (by decide) ?_
        refine v_iadd hC 262 dL_law_262 ?_
        refine v_sld hC hX hbl (by rw [hb]; exact hbA) 263 (ix 2 (by decide) _ (by decide)) dL_law_263 ?_
        refine qL_22 hC hy 264 h9 (by decide) (catL (Nat.le_of_ble_eq_true rfl)) ⟨by show _ ≤ 600000; omega, by show _ ≤ 7302250; omega⟩ dL_law_264 ?_
        refine v_icmp_eq hC 267 1299 dL_law_267 (by decide) (fun _ => ?_) (fun c2 => absurd rfl c2)
        exact v_wid _ _ (by omega) (by omega) (NX S2 hI2)
      by_cases c12 : xc = (2 : Int32)
      · refine v_tabIn hC 33 272 (2 : Int32) c12 dL_law_33 (by decide) (by decide) rfl (by decide) ?_
        obtain ⟨v, S1, S2, h8, h9, hI2⟩ := hs.2.2.1 S hI (xs (x3 + (1 : Int32)).toNatClampNeg) (xs (x3 + (2 : Int32)).toNatClampNeg)
        refine v_aload_n hC 272 1 dL_law_272 rfl ?_
        refine v_aload_n hC 273 0 dL_law_273 rfl ?_
        refine v_iload_n hC 274 3 dL_law_274 rfl ?_
        refine v_iconst hC (1 : Int32) 275 dL_law_275 (by decide) ?_
        refine v_iadd hC 276 dL_law_276 ?_
        refine v_sld hC hX hbl (by rw [hb]; exact hbA) 277 (ix 1 (by decide) _ (by decide)) dL_law_277 ?_
        refine v_aload_n hC 278 0 dL_law_278 rfl ?_
        refine v_iload_n hC 279 3 dL_law_279 rfl ?_
        refine v_iconst hC (2 : Int32) 280 dL_law_280 (by decide) ?_
        refine v_iadd hC 281 dL_law_281 ?_
        refine v_sld hC hX hbl (by rw [hb]; exact hbA) 282 (ix 2 (by decide) _ (by decide)) dL_law_282 ?_
        refine qL_23 hC hy 283 h8 (by decide) (catL (Nat.le_of_ble_eq_true rfl)) ⟨by show _ ≤ 600000; omega, by show _ ≤ 7302250; omega⟩ dL_law_283 ?_
        refine v_aload_n hC 286 2 dL_law_286 rfl ?_
        refine v_aload_n hC 287 0 dL_law_287 rfl ?_
        refine v_iload_n hC 288 3 dL_law_288 rfl ?_
        refine v_iconst hC (1 : Int32) 289 dL_law_289 (by decide) ?_
        refine v_iadd hC 290 dL_law_290 ?_
        refine v_sld hC hX hbl (by rw [hb]; exact hbA) 291 (ix 1 (by decide) _ (by decide)) dL_law_291 ?_
        refine v_aload_n hC 292 0 dL_law_292 rfl ?_
        refine v_iload_n hC 293 3 dL_law_293 rfl ?_
        refine v_iconst hC (2 : Int32) 294 dL_law_294 (by decide) ?_
        refine v_iadd hC 295 dL_law_295 ?_
        refine v_sld hC hX hbl (by rw [hb]; exact hbA) 296 (ix 2 (by decide) _ (by decide)) dL_law_296 ?_
        refine qL_26 hC hy 297 h9 (by decide) (catL (Nat.le_of_ble_eq_true rfl)) ⟨by show _ ≤ 600000; omega, by show _ ≤ 7302250; omega⟩ dL_law_297 ?_
        refine v_icmp_eq hC 300 1299 dL_law_300 (by decide) (fun _ => ?_) (fun c2 => absurd rfl c2)
        exact v_wid _ _ (by omega) (by omega) (NX S2 hI2)
      by_cases c13 : xc = (3 : Int32)
      · refine v_tabIn hC 33 305 (3 : Int32) c13 dL_law_33 (by decide) (by decide) rfl (by decide) ?_
        obtain ⟨v, S1, S2, h8, h9, hI2⟩ := hs.2.2.2.1 S hI (xs (x3 + (1 : Int32)).toNatClampNeg) (xs (x3 + (2 : Int32)).toNatClampNeg)
        refine v_aload_n hC 305 1 dL_law_305 rfl ?_
        refine v_aload_n hC 306 0 dL_law_306 rfl ?_
        refine v_iload_n hC 307 3 dL_law_307 rfl ?_
        refine v_iconst hC (1 : Int32) 308 dL_law_308 (by decide) ?_
        refine v_iadd hC 309 dL_law_309 ?_
        refine v_sld hC hX hbl (by rw [hb]; exact hbA) 310 (ix 1 (by decide) _ (by decide)) dL_law_310 ?_
        refine v_aload_n hC 311 0 dL_law_311 rfl ?_
        refine v_iload_n hC 312 3 dL_law_312 rfl ?_
        refine v_iconst hC (2 : Int32) 313 dL_law_313 (by decide) ?_
        refine v_iadd hC 314 dL_law_314 ?_
        refine v_sld hC hX hbl (by rw [hb]; exact hbA) 315 (ix 2 (by decide) _ (by decide)) dL_law_315 ?_
        refine qL_27 hC hy 316 h8 (by decide) (catL (Nat.le_of_ble_eq_true rfl)) ⟨by show _ ≤ 600000; omega, by show _ ≤ 7302250; omega⟩ dL_law_316 ?_
        refine v_aload_n hC 319 2 dL_law_319 rfl ?_
        refine v_aload_n hC 320 0 dL_law_320 rfl ?_
        refine v_iload_n hC 321 3 dL_law_321 rfl ?_
        refine v_iconst hC (1 : Int32) 322 dL_law_322 (by decide) ?_
        refine v_iadd hC 323 dL_law_323 ?_
        refine v_sld hC hX hbl (by rw [hb]; exact hbA) 324 (ix 1 (by decide) _ (by decide)) dL_law_324 ?_
        refine v_aload_n hC 325 0 dL_law_325 rfl ?_
        refine v_iload_n hC 326 3 dL_law_326 rfl ?_
        refine v_iconst hC (2 : Int32) 327 dL_law_327 (by decide) ?_
        refine v_iadd hC 328 dL_law_328 ?_
        refine v_sld hC hX hbl (by rw [hb]; exact hbA) 329 (ix 2 (by decide) _ (by decide)) dL_law_329 ?_
        refine qL_30 hC hy 330 h9 (by decide) (catL (Nat.le_of_ble_eq_true rfl)) ⟨by show _ ≤ 600000; omega, by show _ ≤ 7302250; omega⟩ dL_law_330 ?_
        refine v_icmp_eq hC 333 1299 dL_law_333 (by decide) (fun _ => ?_) (fun c2 => absurd rfl c2)
        exact v_wid _ _ (by omega) (by omega) (NX S2 hI2)
      by_cases c14 : xc = (4 : Int32)
      · refine v_tabIn hC 33 338 (4 : Int32) c14 dL_law_33 (by decide) (by decide) rfl (by decide) ?_
        obtain ⟨v, S1, S2, h8, h9, hI2⟩ := hs.2.2.2.2.1 S hI (xs (x3 + (1 : Int32)).toNatClampNeg) (xs (x3 + (2 : Int32)).toNatClampNeg)
        refine v_aload_n hC 338 1 dL_law_338 rfl ?_
        refine v_aload_n hC 339 0 dL_law_339 rfl ?_
        refine v_iload_n hC 340 3 dL_law_340 rfl ?_
        refine v_iconst hC (1 : Int32) 341 dL_law_341 (by decide) ?_
        refine v_iadd hC 342 dL_law_342 ?_
        refine v_sld hC hX hbl (by rw [hb]; exact hbA) 343 (ix 1 (by decide) _ (by decide)) dL_law_343 ?_
        refine v_aload_n hC 344 0 dL_law_344 rfl ?_
        refine v_iload_n hC 345 3 dL_law_345 rfl ?_
        refine v_iconst hC (2 : Int32) 346 dL_law_346 (by decide) ?_
        refine v_iadd hC 347 dL_law_347 ?_
        refine v_sld hC hX hbl (by rw [hb]; exact hbA) 348 (ix 2 (by decide) _ (by decide)) dL_law_348 ?_
        refine qL_31 hC hy 349 (by rw [hb]; exact h8) (by decide) (catL (Nat.le_of_ble_eq_true rfl)) ⟨by show _ ≤ 600000; omega, by show _ ≤ 7302250; omega⟩ dL_law_349 ?_
        refine v_aload_n hC 352 2 dL_law_352 rfl ?_
        refine v_aload_n hC 353 0 dL_law_353 rfl ?_
        refine v_iload_n hC 354 3 dL_law_354 rfl ?_
        refine v_iconst hC (1 : Int32) 355 dL_law_355 (by decide) ?_
        refine v_iadd hC 356 dL_law_356 ?_
        refine v_sld hC hX hbl (by rw [hb]; exact hbA) 357 (ix 1 (by decide) _ (by decide)) dL_law_357 ?_
        refine v_aload_n hC 358 0 dL_law_358 rfl ?_
        refine v_iload_n hC 359 3 dL_law_359 rfl ?_
        refine v_iconst hC (2 : Int32) 360 dL_law_360 (by decide) ?_
        refine v_iadd hC 361 dL_law_361 ?_
        refine v_sld hC hX hbl (by rw [hb]; exact hbA) 362 (ix 2 (by decide) _ (by decide)) dL_law_362 ?_
        refine qL_34 hC hy 363 h9 (by decide) (catL (Nat.le_of_ble_eq_true rfl)) ⟨by show _ ≤ 600000; omega, by show _ ≤ 7302250; omega⟩ dL_law_363 ?_
        refine v_icmp_eq hC 366 1299 dL_law_366 (by decide) (fun _ => ?_) (fun c2 => absurd rfl c2)
        exact v_wid _ _ (by omega) (by omega) (NX S2 hI2)
      by_cases c15 : xc = (5 : Int32)
      · refine v_tabIn hC 33 371 (5 : Int32) c15 dL_law_33 (by decide) (by decide) rfl (by decide) ?_
        obtain ⟨v, S1, S2, h8, h9, hI2⟩ := hs.2.2.2.2.2.1 S hI (xs (x3 + (1 : Int32)).toNatClampNeg) (xs (x3 + (2 : Int32)).toNatClampNeg)
        refine v_aload_n hC 371 1 dL_law_371 rfl ?_
        refine v_aload_n hC 372 0 dL_law_372 rfl ?_
        refine v_iload_n hC 373 3 dL_law_373 rfl ?_
        refine v_iconst hC (1 : Int32) 374 dL_law_374 (by decide) ?_
        refine v_iadd hC 375 dL_law_375 ?_
        refine v_sld hC hX hbl (by rw [hb]; exact hbA) 376 (ix 1 (by decide) _ (by decide)) dL_law_376 ?_
        refine v_aload_n hC 377 0 dL_law_377 rfl ?_
        refine v_iload_n hC 378 3 dL_law_378 rfl ?_
        refine v_iconst hC (2 : Int32) 379 dL_law_379 (by decide) ?_
        refine v_iadd hC 380 dL_law_380 ?_
        refine v_sld hC hX hbl (by rw [hb]; exact hbA) 381 (ix 2 (by decide) _ (by decide)) dL_law_381 ?_
        refine qL_35 hC hy 382 h8 (by decide) (catL (Nat.le_of_ble_eq_true rfl)) ⟨by show _ ≤ 600000; omega, by show _ ≤ 7302250; omega⟩ dL_law_382 ?_
        refine v_aload_n hC 385 2 dL_law_385 rfl ?_
        refine v_aload_n hC 386 0 dL_law_386 rfl ?_
        refine v_iload_n hC 387 3 dL_law_387 rfl ?_
        refine v_iconst hC (1 : Int32) 388 dL_law_388 (by decide) ?_
        refine v_iadd hC 389 dL_law_389 ?_
        refine v_sld hC hX hbl (by rw [hb]; exact hbA) 390 (ix 1 (by decide) _ (by decide)) dL_law_390 ?_
        refine v_aload_n hC 391 0 dL_law_391 rfl ?_
        refine v_iload_n hC 392 3 dL_law_392 rfl ?_
        refine v_iconst hC (2 : Int32) 393 dL_law_393 (by decide) ?_
        refine v_iadd hC 394 dL_law_394 ?_
        refine v_sld hC hX hbl (by rw [hb]; exact hbA) 395 (ix 2 (by decide) _ (by decide)) dL_law_395 ?_
        refine qL_38 hC hy 396 h9 (by decide) (catL (Nat.le_of_ble_eq_true rfl)) ⟨by show _ ≤ 600000; omega, by show _ ≤ 7302250; omega⟩ dL_law_396 ?_
        refine v_icmp_eq hC 399 1299 dL_law_399 (by decide) (fun _ => ?_) (fun c2 => absurd rfl c2)
        exact v_wid _ _ (by omega) (by omega) (NX S2 hI2)
      by_cases c16 : xc = (6 : Int32)
      · refine v_tabIn hC 33 404 (6 : Int32) c16 dL_law_33 (by decide) (by decide) rfl (by decide) ?_
        obtain ⟨v, S1, S2, h8, h9, hI2⟩ := hs.2.2.2.2.2.2.1 S hI (xs (x3 + (1 : Int32)).toNatClampNeg)
        refine v_aload_n hC 404 1 dL_law_404 rfl ?_
        refine v_aload_n hC 405 0 dL_law_405 rfl ?_
        refine v_iload_n hC 406 3 dL_law_406 rfl ?_
        refine v_iconst hC (1 : Int32) 407 dL_law_407 (by decide) ?_
        refine v_iadd hC 408 dL_law_408 ?_
        refine v_sld hC hX hbl (by rw [hb]; exact hbA) 409 (ix 1 (by decide) _ (by decide)) dL_law_409 ?_
        refine qL_39 hC hy 410 h8 (by decide) (catL (Nat.le_of_ble_eq_true rfl)) ⟨by show _ ≤ 600000; omega, by show _ ≤ 7302250; omega⟩ dL_law_410 ?_
        refine v_aload_n hC 413 2 dL_law_413 rfl ?_
        refine v_aload_n hC 414 0 dL_law_414 rfl ?_
        refine v_iload_n hC 415 3 dL_law_415 rfl ?_
        refine v_iconst hC (1 : Int32) 416 dL_law_416 (by decide) ?_
        refine v_iadd hC 417 dL_law_417 ?_
        refine v_sld hC hX hbl (by rw [hb]; exact hbA) 418 (ix 1 (by decide) _ (by decide)) dL_law_418 ?_
        refine qL_43 hC hy 419 h9 (by decide) (catL (Nat.le_of_ble_eq_true rfl)) ⟨by show _ ≤ 600000; omega, by show _ ≤ 7302250; omega⟩ dL_law_419 ?_
        refine v_icmp_eq hC 422 1299 dL_law_422 (by decide) (fun _ => ?_) (fun c2 => absurd rfl c2)
        exact v_wid _ _ (by omega) (by omega) (NX S2 hI2)
      by_cases c17 : xc = (7 : Int32)
      · refine v_tabIn hC 33 427 (7 : Int32) c17 dL_law_33 (by decide) (by decide) rfl (by decide) ?_
        obtain ⟨v, h8, h9⟩ := hs.2.2.2.2.2.2.2.1 S hI (xs (x3 + (1 : Int32)).toNatClampNeg) (xs (x3 + (2 : Int32)).toNatClampNeg)
        refine v_aload_n hC 427 1 dL_law_427 rfl ?_
        refine v_aload_n hC 428 0 dL_law_428 rfl ?_
        refine v_iload_n hC 429 3 dL_law_429 rfl ?_
        refine v_iconst hC (1 : Int32) 430 dL_law_430 (by decide) ?_
        refine v_iadd hC 431 dL_law_431 ?_
        refine v_sld hC hX hbl (by rw [hb]; exact hbA) 432 (ix 1 (by decide) _ (by decide)) dL_law_432 ?_
        refine v_aload_n hC 433 0 dL_law_433 rfl ?_
        refine v_iload_n hC 434 3 dL_law_434 rfl ?_
        refine v_iconst hC (2 : Int32) 435 dL_law_435 (by decide) ?_
        refine v_iadd hC 436 dL_law_436 ?_
        refine v_sld hC hX hbl (by rw [hb]; exact hbA) 437 (ix 2 (by decide) _ (by decide)) dL_law_437 ?_
        refine qL_44 hC hy 438 h8 (by decide) (catL (Nat.le_of_ble_eq_true rfl)) ⟨by show _ ≤ 600000; omega, by show _ ≤ 7302250; omega⟩ dL_law_438 ?_
        refine v_aload_n hC 441 2 dL_law_441 rfl ?_
        refine v_aload_n hC 442 0 dL_law_442 rfl ?_
        refine v_iload_n hC 443 3 dL_law_443 rfl ?_
        refine v_iconst hC (1 : Int32) 444 dL_law_444 (by decide) ?_
        refine v_iadd hC 445 dL_law_445 ?_
        refine v_sld hC hX hbl (by rw [hb]; exact hbA) 446 (ix 1 (by decide) _ (by decide)) dL_law_446 ?_
        refine v_aload_n hC 447 0 dL_law_447 rfl ?_
        refine v_iload_n hC 448 3 dL_law_448 rfl ?_
        refine v_iconst hC (2 : Int32) 449 dL_law_449 (by decide) ?_
        refine v_iadd hC 450 dL_law_450 ?_
        refine v_sld hC hX hbl (by rw [hb]; exact hbA) 451 (ix 2 (by decide) _ (by decide)) dL_law_451 ?_
        refine qL_47 hC hy 452 h9 (by decide) (catL (Nat.le_of_ble_eq_true rfl)) ⟨by show _ ≤ 600000; omega, by show _ ≤ 7302250; omega⟩ dL_law_452 ?_
        refine v_icmp_eq hC 455 1299 dL_law_455 (by decide) (fun _ => ?_) (fun c2 => absurd rfl c2)
        exact v_wid _ _ (by omega) (by omega) (NX S hI)
      by_cases c18 : xc = (8 : Int32)
      · refine v_tabIn hC 33 460 (8 : Int32) c18 dL_law_33 (by decide) (by decide) rfl (by decide) ?_
        obtain ⟨v, h8, h9⟩ := hs.2.2.2.2.2.2.2.2.1 S hI (xs (x3 + (1 : Int32)).toNatClampNeg) (xs (x3 + (2 : Int32)).toNatClampNeg) (xs (x3 + (3 : Int32)).toNatClampNeg)
        refine v_aload_n hC 460 1 dL_law_460 rfl ?_
        refine v_aload_n hC 461 0 dL_law_461 rfl ?_
        refine v_iload_n hC 462 3 dL_law_462 rfl ?_
        refine v_iconst hC (1 : Int32) 463 dL_law_463 (by decide) ?_
        refine v_iadd hC 464 dL_law_464 ?_
        refine v_sld hC hX hbl (by rw [hb]; exact hbA) 465 (ix 1 (by decide) _ (by decide)) dL_law_465 ?_
        refine v_aload_n hC 466 0 dL_law_466 rfl ?_
        refine v_iload_n hC 467 3 dL_law_467 rfl ?_
        refine v_iconst hC (2 : Int32) 468 dL_law_468 (by decide) ?_
        refine v_iadd hC 469 dL_law_469 ?_
        refine v_sld hC hX hbl (by rw [hb]; exact hbA) 470 (ix 2 (by decide) _ (by decide)) dL_law_470 ?_
        refine v_aload_n hC 471 0 dL_law_471 rfl ?_
        refine v_iload_n hC 472 3 dL_law_472 rfl ?_
        refine v_iconst hC (3 : Int32) 473 dL_law_473 (by decide) ?_
        refine v_iadd hC 474 dL_law_474 ?_
        refine v_sld hC hX hbl (by rw [hb]; exact hbA) 475 (ix 3 (by decide) _ (by decide)) dL_law_475 ?_
        refine qL_48 hC hy 476 h8 (by decide) (catL (Nat.le_of_ble_eq_true rfl)) ⟨by show _ ≤ 600000; omega, by show _ ≤ 7302250; omega⟩ dL_law_476 ?_
        refine v_aload_n hC 479 2 dL_law_479 rfl ?_
        refine v_aload_n hC 480 0 dL_law_480 rfl ?_
        refine v_iload_n hC 481 3 dL_law_481 rfl ?_
        refine v_iconst hC (1 : Int32) 482 dL_law_482 (by decide) ?_
        refine v_iadd hC 483 dL_law_483 ?_
        refine v_sld hC hX hbl (by rw [hb]; exact hbA) 484 (ix 1 (by decide) _ (by decide)) dL_law_484 ?_
        refine v_aload_n hC 485 0 dL_law_485 rfl ?_
        refine v_iload_n hC 486 3 dL_law_486 rfl ?_
        refine v_iconst hC (2 : Int32) 487 dL_law_487 (by decide) ?_
        refine v_iadd hC 488 dL_law_488 ?_
        refine v_sld hC hX hbl (by rw [hb]; exact hbA) 489 (ix 2 (by decide) _ (by decide)) dL_law_489 ?_
        refine v_aload_n hC 490 0 dL_law_490 rfl ?_
        refine v_iload_n hC 491 3 dL_law_491 rfl ?_
        refine v_iconst hC (3 : Int32) 492 dL_law_492 (by decide) ?_
        refine v_iadd hC 493 dL_law_493 ?_
        refine v_sld hC hX hbl (by rw [hb]; exact hbA) 494 (ix 3 (by decide) _ (by decide)) dL_law_494 ?_
        refine qL_51 hC hy 495 h9 (by decide) (catL (Nat.le_of_ble_eq_true rfl)) ⟨by show _ ≤ 600000; omega, by show _ ≤ 7302250; omega⟩ dL_law_495 ?_
        refine v_icmp_eq hC 498 1299 dL_law_498 (by decide) (fun _ => ?_) (fun c2 => absurd rfl c2)
        exact v_wid _ _ (by omega) (by omega) (NX S hI)
      by_cases c19 : xc = (9 : Int32)
      · refine v_tabIn hC 33 503 (9 : Int32) c19 dL_law_33 (by decide) (by decide) rfl (by decide) ?_
        obtain ⟨v, S1, S2, h8, h9, hI2⟩ := hs.2.2.2.2.2.2.2.2.2.1 S hI (xs (x3 + (1 : Int32)).toNatClampNeg) (xs (x3 + (2 : Int32)).toNatClampNeg) (xs (x3 + (3 : Int32)).toNatClampNeg) (xs (x3 + (4 : Int32)).toNatClampNeg) (xs (x3 + (5 : Int32)).toNatClampNeg)
        refine v_aload_n hC 503 1 dL_law_503 rfl ?_
        refine v_aload_n hC 504 0 dL_law_504 rfl ?_
        refine v_iload_n hC 505 3 dL_law_505 rfl ?_
        refine v_iconst hC (1 : Int32) 506 dL_law_506 (by decide) ?_
        refine v_iadd hC 507 dL_law_507 ?_
        refine v_sld hC hX hbl (by rw [hb]; exact hbA) 508 (ix 1 (by decide) _ (by decide)) dL_law_508 ?_
        refine v_aload_n hC 509 0 dL_law_509 rfl ?_
        refine v_iload_n hC 510 3 dL_law_510 rfl ?_
        refine v_iconst hC (2 : Int32) 511 dL_law_511 (by decide) ?_
        refine v_iadd hC 512 dL_law_512 ?_
        refine v_sld hC hX hbl (by rw [hb]; exact hbA) 513 (ix 2 (by decide) _ (by decide)) dL_law_513 ?_
        refine v_aload_n hC 514 0 dL_law_514 rfl ?_
        refine v_iload_n hC 515 3 dL_law_515 rfl ?_
        refine v_iconst hC (3 : Int32) 516 dL_law_516 (by decide) ?_
        refine v_iadd hC 517 dL_law_517 ?_
        refine v_sld hC hX hbl (by rw [hb]; exact hbA) 518 (ix 3 (by decide) _ (by decide)) dL_law_518 ?_
        refine v_aload_n hC 519 0 dL_law_519 rfl ?_
        refine v_iload_n hC 520 3 dL_law_520 rfl ?_
        refine v_iconst hC (4 : Int32) 521 dL_law_521 (by decide) ?_
        refine v_iadd hC 522 dL_law_522 ?_
        refine v_sld hC hX hbl (by rw [hb]; exact hbA) 523 (ix 4 (by decide) _ (by decide)) dL_law_523 ?_
        refine v_aload_n hC 524 0 dL_law_524 rfl ?_
        refine v_iload_n hC 525 3 dL_law_525 rfl ?_
        refine v_iconst hC (5 : Int32) 526 dL_law_526 (by decide) ?_
        refine v_iadd hC 527 dL_law_527 ?_
        refine v_sld hC hX hbl (by rw [hb]; exact hbA) 528 (ix 5 (by decide) _ (by decide)) dL_law_528 ?_
        refine qL_52 hC hy 529 h8 (by decide) (catL (Nat.le_of_ble_eq_true rfl)) ⟨by show _ ≤ 600000; omega, by show _ ≤ 7302250; omega⟩ dL_law_529 ?_
        refine v_aload_n hC 532 2 dL_law_532 rfl ?_
        refine v_aload_n hC 533 0 dL_law_533 rfl ?_
        refine v_iload_n hC 534 3 dL_law_534 rfl ?_
        refine v_iconst hC (1 : Int32) 535 dL_law_535 (by decide) ?_
        refine v_iadd hC 536 dL_law_536 ?_
        refine v_sld hC hX hbl (by rw [hb]; exact hbA) 537 (ix 1 (by decide) _ (by decide)) dL_law_537 ?_
        refine v_aload_n hC 538 0 dL_law_538 rfl ?_
        refine v_iload_n hC 539 3 dL_law_539 rfl ?_
        refine v_iconst hC (2 : Int32) 540 dL_law_540 (by decide) ?_
        refine v_iadd hC 541 dL_law_541 ?_
        refine v_sld hC hX hbl (by rw [hb]; exact hbA) 542 (ix 2 (by decide) _ (by decide)) dL_law_542 ?_
        refine v_aload_n hC 543 0 dL_law_543 rfl ?_
        refine v_iload_n hC 544 3 dL_law_544 rfl ?_
        refine v_iconst hC (3 : Int32) 545 dL_law_545 (by decide) ?_
        refine v_iadd hC 546 dL_law_546 ?_
        refine v_sld hC hX hbl (by rw [hb]; exact hbA) 547 (ix 3 (by decide) _ (by decide)) dL_law_547 ?_
        refine v_aload_n hC 548 0 dL_law_548 rfl ?_
        refine v_iload_n hC 549 3 dL_law_549 rfl ?_
        refine v_iconst hC (4 : Int32) 550 dL_law_550 (by decide) ?_
        refine v_iadd hC 551 dL_law_551 ?_
        refine v_sld hC hX hbl (by rw [hb]; exact hbA) 552 (ix 4 (by decide) _ (by decide)) dL_law_552 ?_
        refine v_aload_n hC 553 0 dL_law_553 rfl ?_
        refine v_iload_n hC 554 3 dL_law_554 rfl ?_
        refine v_iconst hC (5 : Int32) 555 dL_law_555 (by decide) ?_
        refine v_iadd hC 556 dL_law_556 ?_
        refine v_sld hC hX hbl (by rw [hb]; exact hbA) 557 (ix 5 (by decide) _ (by decide)) dL_law_557 ?_
        refine qL_56 hC hy 558 h9 (by decide) (catL (Nat.le_of_ble_eq_true rfl)) ⟨by show _ ≤ 600000; omega, by show _ ≤ 7302250; omega⟩ dL_law_558 ?_
        refine v_icmp_eq hC 561 1299 dL_law_561 (by decide) (fun _ => ?_) (fun c2 => absurd rfl c2)
        exact v_wid _ _ (by omega) (by omega) (NX S2 hI2)
      by_cases c20 : xc = (10 : Int32)
      · refine v_tabIn hC 33 566 (10 : Int32) c20 dL_law_33 (by decide) (by decide) rfl (by decide) ?_
        obtain ⟨v, S1, S2, h8, h9, hI2⟩ := hs.2.2.2.2.2.2.2.2.2.2.1 S hI (xs (x3 + (1 : Int32)).toNatClampNeg)
        refine v_aload_n hC 566 1 dL_law_566 rfl ?_
        refine v_aload_n hC 567 0 dL_law_567 rfl ?_
        refine v_iload_n hC 568 3 dL_law_568 rfl ?_
        refine v_iconst hC (1 : Int32) 569 dL_law_569 (by decide) ?_
        refine v_iadd hC 570 dL_law_570 ?_
        refine v_sld hC hX hbl (by rw [hb]; exact hbA) 571 (ix 1 (by decide) _ (by decide)) dL_law_571 ?_
        refine qL_57 hC hy 572 h8 (by decide) (catL (Nat.le_of_ble_eq_true rfl)) ⟨by show _ ≤ 600000; omega, by show _ ≤ 7302250; omega⟩ dL_law_572 ?_
        refine v_aload_n hC 575 2 dL_law_575 rfl ?_
        refine v_aload_n hC 576 0 dL_law_576 rfl ?_
        refine v_iload_n hC 577 3 dL_law_577 rfl ?_
        refine v_iconst hC (1 : Int32) 578 dL_law_578 (by decide) ?_
        refine v_iadd hC 579 dL_law_579 ?_
        refine v_sld hC hX hbl (by rw [hb]; exact hbA) 580 (ix 1 (by decide) _ (by decide)) dL_law_580 ?_
        refine qL_60 hC hy 581 h9 (by decide) (catL (Nat.le_of_ble_eq_true rfl)) ⟨by show _ ≤ 600000; omega, by show _ ≤ 7302250; omega⟩ dL_law_581 ?_
        refine v_icmp_eq hC 584 1299 dL_law_584 (by decide) (fun _ => ?_) (fun c2 => absurd rfl c2)
        exact v_wid _ _ (by omega) (by omega) (NX S2 hI2)
      by_cases c21 : xc = (11 : Int32)
      · refine v_tabIn hC 33 589 (11 : Int32) c21 dL_law_33 (by decide) (by decide) rfl (by decide) ?_
        obtain ⟨v, S1, S2, h8, h9, hI2⟩ := hs.2.2.2.2.2.2.2.2.2.2.2.1 S hI (xs (x3 + (1 : Int32)).toNatClampNeg) (xs (x3 + (2 : Int32)).toNatClampNeg) (xs (x3 + (3 : Int32)).toNatClampNeg) (xs (x3 + (4 : Int32)).toNatClampNeg)
        refine v_aload_n hC 589 1 dL_law_589 rfl ?_
        refine v_aload_n hC 590 0 dL_law_590 rfl ?_
        refine v_iload_n hC 591 3 dL_law_591 rfl ?_
        refine v_iconst hC (1 : Int32) 592 dL_law_592 (by decide) ?_
        refine v_iadd hC 593 dL_law_593 ?_
        refine v_sld hC hX hbl (by rw [hb]; exact hbA) 594 (ix 1 (by decide) _ (by decide)) dL_law_594 ?_
        refine v_aload_n hC 595 0 dL_law_595 rfl ?_
        refine v_iload_n hC 596 3 dL_law_596 rfl ?_
        refine v_iconst hC (2 : Int32) 597 dL_law_597 (by decide) ?_
        refine v_iadd hC 598 dL_law_598 ?_
        refine v_sld hC hX hbl (by rw [hb]; exact hbA) 599 (ix 2 (by decide) _ (by decide)) dL_law_599 ?_
        refine v_aload_n hC 600 0 dL_law_600 rfl ?_
        refine v_iload_n hC 601 3 dL_law_601 rfl ?_
        refine v_iconst hC (3 : Int32) 602 dL_law_602 (by decide) ?_
        refine v_iadd hC 603 dL_law_603 ?_
        refine v_sld hC hX hbl (by rw [hb]; exact hbA) 604 (ix 3 (by decide) _ (by decide)) dL_law_604 ?_
        refine v_aload_n hC 605 0 dL_law_605 rfl ?_
        refine v_iload_n hC 606 3 dL_law_606 rfl ?_
        refine v_iconst hC (4 : Int32) 607 dL_law_607 (by decide) ?_
        refine v_iadd hC 608 dL_law_608 ?_
        refine v_sld hC hX hbl (by rw [hb]; exact hbA) 609 (ix 4 (by decide) _ (by decide)) dL_law_609 ?_
        refine qL_61 hC hy 610 h8 (by decide) (catL (Nat.le_of_ble_eq_true rfl)) ⟨by show _ ≤ 600000; omega, by show _ ≤ 7302250; omega⟩ dL_law_610 ?_
        refine v_aload_n hC 613 2 dL_law_613 rfl ?_
        refine v_aload_n hC 614 0 dL_law_614 rfl ?_
        refine v_iload_n hC 615 3 dL_law_615 rfl ?_
        refine v_iconst hC (1 : Int32) 616 dL_law_616 (by decide) ?_
        refine v_iadd hC 617 dL_law_617 ?_
        refine v_sld hC hX hbl (by rw [hb]; exact hbA) 618 (ix 1 (by decide) _ (by decide)) dL_law_618 ?_
        refine v_aload_n hC 619 0 dL_law_619 rfl ?_
        refine v_iload_n hC 620 3 dL_law_620 rfl ?_
        refine v_iconst hC (2 : Int32) 621 dL_law_621 (by decide) ?_
        refine v_iadd hC 622 dL_law_622 ?_
        refine v_sld hC hX hbl (by rw [hb]; exact hbA) 623 (ix 2 (by decide) _ (by decide)) dL_law_623 ?_
        refine v_aload_n hC 624 0 dL_law_624 rfl ?_
        refine v_iload_n hC 625 3 dL_law_625 rfl ?_
        refine v_iconst hC (3 : Int32) 626 dL_law_626 (by decide) ?_
        refine v_iadd hC 627 dL_law_627 ?_
        refine v_sld hC hX hbl (by rw [hb]; exact hbA) 628 (ix 3 (by decide) _ (by decide)) dL_law_628 ?_
        refine v_aload_n hC 629 0 dL_law_629 rfl ?_
        refine v_iload_n hC 630 3 dL_law_630 rfl ?_
        refine v_iconst hC (4 : Int32) 631 dL_law_631 (by decide) ?_
        refine v_iadd hC 632 dL_law_632 ?_
        refine v_sld hC hX hbl (by rw [hb]; exact hbA) 633 (ix 4 (by decide) _ (by decide)) dL_law_633 ?_
        refine qL_65 hC hy 634 h9 (by decide) (catL (Nat.le_of_ble_eq_true rfl)) ⟨by show _ ≤ 600000; omega, by show _ ≤ 7302250; omega⟩ dL_law_634 ?_
        refine v_icmp_eq hC 637 1299 dL_law_637 (by decide) (fun _ => ?_) (fun c2 => absurd rfl c2)
        exact v_wid _ _ (by omega) (by omega) (NX S2 hI2)
      by_cases c22 : xc = (12 : Int32)
      · refine v_tabIn hC 33 642 (12 : Int32) c22 dL_law_33 (by decide) (by decide) rfl (by decide) ?_
        obtain ⟨v, S1, S2, h8, h9, hI2⟩ := hs.2.2.2.2.2.2.2.2.2.2.2.2.1 S hI (xs (x3 + (1 : Int32)).toNatClampNeg)
        refine v_aload_n hC 642 1 dL_law_642 rfl ?_
        refine v_aload_n hC 643 0 dL_law_643 rfl ?_
        refine v_iload_n hC 644 3 dL_law_644 rfl ?_
        refine v_iconst hC (1 : Int32) 645 dL_law_645 (by decide) ?_
        refine v_iadd hC 646 dL_law_646 ?_
        refine v_sld hC hX hbl (by rw [hb]; exact hbA) 647 (ix 1 (by decide) _ (by decide)) dL_law_647 ?_
        refine qL_66 hC hy 648 (by rw [hb]; exact h8) (by decide) (catL (Nat.le_of_ble_eq_true rfl)) ⟨by show _ ≤ 600000; omega, by show _ ≤ 7302250; omega⟩ dL_law_648 ?_
        refine v_aload_n hC 651 2 dL_law_651 rfl ?_
        refine v_aload_n hC 652 0 dL_law_652 rfl ?_
        refine v_iload_n hC 653 3 dL_law_653 rfl ?_
        refine v_iconst hC (1 : Int32) 654 dL_law_654 (by decide) ?_
        refine v_iadd hC 655 dL_law_655 ?_
        refine v_sld hC hX hbl (by rw [hb]; exact hbA) 656 (ix 1 (by decide) _ (by decide)) dL_law_656 ?_
        refine qL_69 hC hy 657 h9 (by decide) (catL (Nat.le_of_ble_eq_true rfl)) ⟨by show _ ≤ 600000; omega, by show _ ≤ 7302250; omega⟩ dL_law_657 ?_
        refine v_icmp_eq hC 660 1299 dL_law_660 (by decide) (fun _ => ?_) (fun c2 => absurd rfl c2)
        exact v_wid _ _ (by omega) (by omega) (NX S2 hI2)
      by_cases c23 : xc = (13 : Int32)
      · refine v_tabIn hC 33 665 (13 : Int32) c23 dL_law_33 (by decide) (by decide) rfl (by decide) ?_
        obtain ⟨v, h8, h9⟩ := hs.2.2.2.2.2.2.2.2.2.2.2.2.2.1 S hI (xs (x3 + (1 : Int32)).toNatClampNeg) (xs (x3 + (2 : Int32)).toNatClampNeg)
        refine v_aload_n hC 665 1 dL_law_665 rfl ?_
        refine v_aload_n hC 666 0 dL_law_666 rfl ?_
        refine v_iload_n hC 667 3 dL_law_667 rfl ?_
        refine v_iconst hC (1 : Int32) 668 dL_law_668 (by decide) ?_
        refine v_iadd hC 669 dL_law_669 ?_
        refine v_sld hC hX hbl (by rw [hb]; exact hbA) 670 (ix 1 (by decide) _ (by decide)) dL_law_670 ?_
        refine v_aload_n hC 671 0 dL_law_671 rfl ?_
        refine v_iload_n hC 672 3 dL_law_672 rfl ?_
        refine v_iconst hC (2 : Int32) 673 dL_law_673 (by decide) ?_
        refine v_iadd hC 674 dL_law_674 ?_
        refine v_sld hC hX hbl (by rw [hb]; exact hbA) 675 (ix 2 (by decide) _ (by decide)) dL_law_675 ?_
        refine qL_70 hC hy 676 h8 (by decide) (catL (Nat.le_of_ble_eq_true rfl)) ⟨by show _ ≤ 600000; omega, by show _ ≤ 7302250; omega⟩ dL_law_676 ?_
        refine v_aload_n hC 679 2 dL_law_679 rfl ?_
        refine v_aload_n hC 680 0 dL_law_680 rfl ?_
        refine v_iload_n hC 681 3 dL_law_681 rfl ?_
        refine v_iconst hC (1 : Int32) 682 dL_law_682 (by decide) ?_
        refine v_iadd hC 683 dL_law_683 ?_
        refine v_sld hC hX hbl (by rw [hb]; exact hbA) 684 (ix 1 (by decide) _ (by decide)) dL_law_684 ?_
        refine v_aload_n hC 685 0 dL_law_685 rfl ?_
        refine v_iload_n hC 686 3 dL_law_686 rfl ?_
        refine v_iconst hC (2 : Int32) 687 dL_law_687 (by decide) ?_
        refine v_iadd hC 688 dL_law_688 ?_
        refine v_sld hC hX hbl (by rw [hb]; exact hbA) 689 (ix 2 (by decide) _ (by decide)) dL_law_689 ?_
        refine qL_74 hC hy 690 h9 (by decide) (catL (Nat.le_of_ble_eq_true rfl)) ⟨by show _ ≤ 600000; omega, by show _ ≤ 7302250; omega⟩ dL_law_690 ?_
        refine v_lcmp hC 693 dL_law_693 ?_
        refine v_if_eq hC 694 1299 dL_law_694 (by decide) (fun _ => ?_) (fun c2 => absurd (by simp [lg_cmp]) c2)
        exact v_wid _ _ (by omega) (by omega) (NX S hI)
      by_cases c24 : xc = (14 : Int32)
      · refine v_tabIn hC 33 699 (14 : Int32) c24 dL_law_33 (by decide) (by decide) rfl (by decide) ?_
        obtain ⟨v, S1, S2, h8, h9, hI2⟩ := hs.2.2.2.2.2.2.2.2.2.2.2.2.2.2.1 S hI (xs (x3 + (1 : Int32)).toNatClampNeg)
        refine v_aload_n hC 699 1 dL_law_699 rfl ?_
        refine v_aload_n hC 700 0 dL_law_700 rfl ?_
        refine v_iload_n hC 701 3 dL_law_701 rfl ?_
        refine v_iconst hC (1 : Int32) 702 dL_law_702 (by decide) ?_
        refine v_iadd hC 703 dL_law_703 ?_
        refine v_sld hC hX hbl (by rw [hb]; exact hbA) 704 (ix 1 (by decide) _ (by decide)) dL_law_704 ?_
        refine qL_75 hC hy 705 h8 (by decide) (catL (Nat.le_of_ble_eq_true rfl)) ⟨by show _ ≤ 600000; omega, by show _ ≤ 7302250; omega⟩ dL_law_705 ?_
        refine v_aload_n hC 708 2 dL_law_708 rfl ?_
        refine v_aload_n hC 709 0 dL_law_709 rfl ?_
        refine v_iload_n hC 710 3 dL_law_710 rfl ?_
        refine v_iconst hC (1 : Int32) 711 dL_law_711 (by decide) ?_
        refine v_iadd hC 712 dL_law_712 ?_
        refine v_sld hC hX hbl (by rw [hb]; exact hbA) 713 (ix 1 (by decide) _ (by decide)) dL_law_713 ?_
        refine qL_78 hC hy 714 h9 (by decide) (catL (Nat.le_of_ble_eq_true rfl)) ⟨by show _ ≤ 600000; omega, by show _ ≤ 7302250; omega⟩ dL_law_714 ?_
        refine v_icmp_eq hC 717 1299 dL_law_717 (by decide) (fun _ => ?_) (fun c2 => absurd rfl c2)
        exact v_wid _ _ (by omega) (by omega) (NX S2 hI2)
      by_cases c25 : xc = (15 : Int32)
      · refine v_tabIn hC 33 722 (15 : Int32) c25 dL_law_33 (by decide) (by decide) rfl (by decide) ?_
        obtain ⟨v, S1, S2, h8, h9, hI2⟩ := hs.2.2.2.2.2.2.2.2.2.2.2.2.2.2.2.1 S hI (xs (x3 + (1 : Int32)).toNatClampNeg) (xs (x3 + (2 : Int32)).toNatClampNeg)
        refine v_aload_n hC 722 1 dL_law_722 rfl ?_
        refine v_aload_n hC 723 0 dL_law_723 rfl ?_
        refine v_iload_n hC 724 3 dL_law_724 rfl ?_
        refine v_iconst hC (1 : Int32) 725 dL_law_725 (by decide) ?_
        refine v_iadd hC 726 dL_law_726 ?_
        refine v_sld hC hX hbl (by rw [hb]; exact hbA) 727 (ix 1 (by decide) _ (by decide)) dL_law_727 ?_
        refine v_aload_n hC 728 0 dL_law_728 rfl ?_
        refine v_iload_n hC 729 3 dL_law_729 rfl ?_
        refine v_iconst hC (2 : Int32) 730 dL_law_730 (by decide) ?_
        refine v_iadd hC 731 dL_law_731 ?_
        refine v_sld hC hX hbl (by rw [hb]; exact hbA) 732 (ix 2 (by decide) _ (by decide)) dL_law_732 ?_
        refine qL_79 hC hy 733 h8 (by decide) (catL (Nat.le_of_ble_eq_true rfl)) ⟨by show _ ≤ 600000; omega, by show _ ≤ 7302250; omega⟩ dL_law_733 ?_
        refine v_aload_n hC 736 2 dL_law_736 rfl ?_
        refine v_aload_n hC 737 0 dL_law_737 rfl ?_
        refine v_iload_n hC 738 3 dL_law_738 rfl ?_
        refine v_iconst hC (1 : Int32) 739 dL_law_739 (by decide) ?_
        refine v_iadd hC 740 dL_law_740 ?_
        refine v_sld hC hX hbl (by rw [hb]; exact hbA) 741 (ix 1 (by decide) _ (by decide)) dL_law_741 ?_
        refine v_aload_n hC 742 0 dL_law_742 rfl ?_
        refine v_iload_n hC 743 3 dL_law_743 rfl ?_
        refine v_iconst hC (2 : Int32) 744 dL_law_744 (by decide) ?_
        refine v_iadd hC 745 dL_law_745 ?_
        refine v_sld hC hX hbl (by rw [hb]; exact hbA) 746 (ix 2 (by decide) _ (by decide)) dL_law_746 ?_
        refine qL_82 hC hy 747 h9 (by decide) (catL (Nat.le_of_ble_eq_true rfl)) ⟨by show _ ≤ 600000; omega, by show _ ≤ 7302250; omega⟩ dL_law_747 ?_
        refine v_icmp_eq hC 750 1299 dL_law_750 (by decide) (fun _ => ?_) (fun c2 => absurd rfl c2)
        exact v_wid _ _ (by omega) (by omega) (NX S2 hI2)
      by_cases c26 : xc = (16 : Int32)
      · refine v_tabIn hC 33 755 (16 : Int32) c26 dL_law_33 (by decide) (by decide) rfl (by decide) ?_
        obtain ⟨v, S1, S2, h8, h9, hI2⟩ := hs.2.2.2.2.2.2.2.2.2.2.2.2.2.2.2.2.1 S hI (xs (x3 + (1 : Int32)).toNatClampNeg)
        refine v_aload_n hC 755 1 dL_law_755 rfl ?_
        refine v_aload_n hC 756 0 dL_law_756 rfl ?_
        refine v_iload_n hC 757 3 dL_law_757 rfl ?_
        refine v_iconst hC (1 : Int32) 758 dL_law_758 (by decide) ?_
        refine v_iadd hC 759 dL_law_759 ?_
        refine v_sld hC hX hbl (by rw [hb]; exact hbA) 760 (ix 1 (by decide) _ (by decide)) dL_law_760 ?_
        refine qL_83 hC hy 761 h8 (by decide) (catL (Nat.le_of_ble_eq_true rfl)) ⟨by show _ ≤ 600000; omega, by show _ ≤ 7302250; omega⟩ dL_law_761 ?_
        refine v_aload_n hC 764 2 dL_law_764 rfl ?_
        refine v_aload_n hC 765 0 dL_law_765 rfl ?_
        refine v_iload_n hC 766 3 dL_law_766 rfl ?_
        refine v_iconst hC (1 : Int32) 767 dL_law_767 (by decide) ?_
        refine v_iadd hC 768 dL_law_768 ?_
        refine v_sld hC hX hbl (by rw [hb]; exact hbA) 769 (ix 1 (by decide) _ (by decide)) dL_law_769 ?_
        refine qL_86 hC hy 770 h9 (by decide) (catL (Nat.le_of_ble_eq_true rfl)) ⟨by show _ ≤ 600000; omega, by show _ ≤ 7302250; omega⟩ dL_law_770 ?_
        refine v_icmp_eq hC 773 1299 dL_law_773 (by decide) (fun _ => ?_) (fun c2 => absurd rfl c2)
        exact v_wid _ _ (by omega) (by omega) (NX S2 hI2)
      by_cases c27 : xc = (17 : Int32)
      · refine v_tabIn hC 33 778 (17 : Int32) c27 dL_law_33 (by decide) (by decide) rfl (by decide) ?_
        obtain ⟨v, S1, S2, h8, h9, hI2⟩ := hs.2.2.2.2.2.2.2.2.2.2.2.2.2.2.2.2.2.1 S hI (xs (x3 + (1 : Int32)).toNatClampNeg) (xs (x3 + (2 : Int32)).toNatClampNeg) (xs (x3 + (3 : Int32)).toNatClampNeg)
        refine v_aload_n hC 778 1 dL_law_778 rfl ?_
        refine v_aload_n hC 779 0 dL_law_779 rfl ?_
        refine v_iload_n hC 780 3 dL_law_780 rfl ?_
        refine v_iconst hC (1 : Int32) 781 dL_law_781 (by decide) ?_
        refine v_iadd hC 782 dL_law_782 ?_
        refine v_sld hC hX hbl (by rw [hb]; exact hbA) 783 (ix 1 (by decide) _ (by decide)) dL_law_783 ?_
        refine v_aload_n hC 784 0 dL_law_784 rfl ?_
        refine v_iload_n hC 785 3 dL_law_785 rfl ?_
        refine v_iconst hC (2 : Int32) 786 dL_law_786 (by decide) ?_
        refine v_iadd hC 787 dL_law_787 ?_
        refine v_sld hC hX hbl (by rw [hb]; exact hbA) 788 (ix 2 (by decide) _ (by decide)) dL_law_788 ?_
        refine v_aload_n hC 789 0 dL_law_789 rfl ?_
        refine v_iload_n hC 790 3 dL_law_790 rfl ?_
        refine v_iconst hC (3 : Int32) 791 dL_law_791 (by decide) ?_
        refine v_iadd hC 792 dL_law_792 ?_
        refine v_sld hC hX hbl (by rw [hb]; exact hbA) 793 (ix 3 (by decide) _ (by decide)) dL_law_793 ?_
        refine qL_87 hC hy 794 h8 (by decide) (catL (Nat.le_of_ble_eq_true rfl)) ⟨by show _ ≤ 600000; omega, by show _ ≤ 7302250; omega⟩ dL_law_794 ?_
        refine v_aload_n hC 797 2 dL_law_797 rfl ?_
        refine v_aload_n hC 798 0 dL_law_798 rfl ?_
        refine v_iload_n hC 799 3 dL_law_799 rfl ?_
        refine v_iconst hC (1 : Int32) 800 dL_law_800 (by decide) ?_
        refine v_iadd hC 801 dL_law_801 ?_
        refine v_sld hC hX hbl (by rw [hb]; exact hbA) 802 (ix 1 (by decide) _ (by decide)) dL_law_802 ?_
        refine v_aload_n hC 803 0 dL_law_803 rfl ?_
        refine v_iload_n hC 804 3 dL_law_804 rfl ?_
        refine v_iconst hC (2 : Int32) 805 dL_law_805 (by decide) ?_
        refine v_iadd hC 806 dL_law_806 ?_
        refine v_sld hC hX hbl (by rw [hb]; exact hbA) 807 (ix 2 (by decide) _ (by decide)) dL_law_807 ?_
        refine v_aload_n hC 808 0 dL_law_808 rfl ?_
        refine v_iload_n hC 809 3 dL_law_809 rfl ?_
        refine v_iconst hC (3 : Int32) 810 dL_law_810 (by decide) ?_
        refine v_iadd hC 811 dL_law_811 ?_
        refine v_sld hC hX hbl (by rw [hb]; exact hbA) 812 (ix 3 (by decide) _ (by decide)) dL_law_812 ?_
        refine qL_90 hC hy 813 h9 (by decide) (catL (Nat.le_of_ble_eq_true rfl)) ⟨by show _ ≤ 600000; omega, by show _ ≤ 7302250; omega⟩ dL_law_813 ?_
        refine v_icmp_eq hC 816 1299 dL_law_816 (by decide) (fun _ => ?_) (fun c2 => absurd rfl c2)
        exact v_wid _ _ (by omega) (by omega) (NX S2 hI2)
      by_cases c28 : xc = (18 : Int32)
      · refine v_tabIn hC 33 821 (18 : Int32) c28 dL_law_33 (by decide) (by decide) rfl (by decide) ?_
        obtain ⟨v, h8, h9⟩ := hs.2.2.2.2.2.2.2.2.2.2.2.2.2.2.2.2.2.2.1 S hI (xs (x3 + (1 : Int32)).toNatClampNeg)
        refine v_aload_n hC 821 1 dL_law_821 rfl ?_
        refine v_aload_n hC 822 0 dL_law_822 rfl ?_
        refine v_iload_n hC 823 3 dL_law_823 rfl ?_
        refine v_iconst hC (1 : Int32) 824 dL_law_824 (by decide) ?_
        refine v_iadd hC 825 dL_law_825 ?_
        refine v_sld hC hX hbl (by rw [hb]; exact hbA) 826 (ix 1 (by decide) _ (by decide)) dL_law_826 ?_
        refine qL_91 hC hy 827 h8 (by decide) (catL (Nat.le_of_ble_eq_true rfl)) ⟨by show _ ≤ 600000; omega, by show _ ≤ 7302250; omega⟩ dL_law_827 ?_
        refine v_aload_n hC 830 2 dL_law_830 rfl ?_
        refine v_aload_n hC 831 0 dL_law_831 rfl ?_
        refine v_iload_n hC 832 3 dL_law_832 rfl ?_
        refine v_iconst hC (1 : Int32) 833 dL_law_833 (by decide) ?_
        refine v_iadd hC 834 dL_law_834 ?_
        refine v_sld hC hX hbl (by rw [hb]; exact hbA) 835 (ix 1 (by decide) _ (by decide)) dL_law_835 ?_
        refine qL_94 hC hy 836 h9 (by decide) (catL (Nat.le_of_ble_eq_true rfl)) ⟨by show _ ≤ 600000; omega, by show _ ≤ 7302250; omega⟩ dL_law_836 ?_
        refine v_icmp_eq hC 839 1299 dL_law_839 (by decide) (fun _ => ?_) (fun c2 => absurd rfl c2)
        exact v_wid _ _ (by omega) (by omega) (NX S hI)
      by_cases c29 : xc = (19 : Int32)
      · refine v_tabIn hC 33 844 (19 : Int32) c29 dL_law_33 (by decide) (by decide) rfl (by decide) ?_
        obtain ⟨v, h8, h9⟩ := hs.2.2.2.2.2.2.2.2.2.2.2.2.2.2.2.2.2.2.2.1 S hI (xs (x3 + (1 : Int32)).toNatClampNeg) (xs (x3 + (2 : Int32)).toNatClampNeg)
        refine v_aload_n hC 844 1 dL_law_844 rfl ?_
        refine v_aload_n hC 845 0 dL_law_845 rfl ?_
        refine v_iload_n hC 846 3 dL_law_846 rfl ?_
        refine v_iconst hC (1 : Int32) 847 dL_law_847 (by decide) ?_
        refine v_iadd hC 848 dL_law_848 ?_
        refine v_sld hC hX hbl (by rw [hb]; exact hbA) 849 (ix 1 (by decide) _ (by decide)) dL_law_849 ?_
        refine v_aload_n hC 850 0 dL_law_850 rfl ?_
        refine v_iload_n hC 851 3 dL_law_851 rfl ?_
        refine v_iconst hC (2 : Int32) 852 dL_law_852 (by decide) ?_
        refine v_iadd hC 853 dL_law_853 ?_
        refine v_sld hC hX hbl (by rw [hb]; exact hbA) 854 (ix 2 (by decide) _ (by decide)) dL_law_854 ?_
        refine qL_95 hC hy 855 h8 (by decide) (catL (Nat.le_of_ble_eq_true rfl)) ⟨by show _ ≤ 600000; omega, by show _ ≤ 7302250; omega⟩ dL_law_855 ?_
        refine v_aload_n hC 858 2 dL_law_858 rfl ?_
        refine v_aload_n hC 859 0 dL_law_859 rfl ?_
        refine v_iload_n hC 860 3 dL_law_860 rfl ?_
        refine v_iconst hC (1 : Int32) 861 dL_law_861 (by decide) ?_
        refine v_iadd hC 862 dL_law_862 ?_
        refine v_sld hC hX hbl (by rw [hb]; exact hbA) 863 (ix 1 (by decide) _ (by decide)) dL_law_863 ?_
        refine v_aload_n hC 864 0 dL_law_864 rfl ?_
        refine v_iload_n hC 865 3 dL_law_865 rfl ?_
        refine v_iconst hC (2 : Int32) 866 dL_law_866 (by decide) ?_
        refine v_iadd hC 867 dL_law_867 ?_
        refine v_sld hC hX hbl (by rw [hb]; exact hbA) 868 (ix 2 (by decide) _ (by decide)) dL_law_868 ?_
        refine qL_98 hC hy 869 h9 (by decide) (catL (Nat.le_of_ble_eq_true rfl)) ⟨by show _ ≤ 600000; omega, by show _ ≤ 7302250; omega⟩ dL_law_869 ?_
        refine v_icmp_eq hC 872 1299 dL_law_872 (by decide) (fun _ => ?_) (fun c2 => absurd rfl c2)
        exact v_wid _ _ (by omega) (by omega) (NX S hI)
      by_cases c30 : xc = (20 : Int32)
      · refine v_tabIn hC 33 877 (20 : Int32) c30 dL_law_33 (by decide) (by decide) rfl (by decide) ?_
        obtain ⟨v, h8, h9⟩ := hs.2.2.2.2.2.2.2.2.2.2.2.2.2.2.2.2.2.2.2.2.1 S hI (xs (x3 + (1 : Int32)).toNatClampNeg)
        refine v_aload_n hC 877 1 dL_law_877 rfl ?_
        refine v_aload_n hC 878 0 dL_law_878 rfl ?_
        refine v_iload_n hC 879 3 dL_law_879 rfl ?_
        refine v_iconst hC (1 : Int32) 880 dL_law_880 (by decide) ?_
        refine v_iadd hC 881 dL_law_881 ?_
        refine v_sld hC hX hbl (by rw [hb]; exact hbA) 882 (ix 1 (by decide) _ (by decide)) dL_law_882 ?_
        refine qL_99 hC hy 883 h8 (by decide) (catL (Nat.le_of_ble_eq_true rfl)) ⟨by show _ ≤ 600000; omega, by show _ ≤ 7302250; omega⟩ dL_law_883 ?_
        refine v_aload_n hC 886 2 dL_law_886 rfl ?_
        refine v_aload_n hC 887 0 dL_law_887 rfl ?_
        refine v_iload_n hC 888 3 dL_law_888 rfl ?_
        refine v_iconst hC (1 : Int32) 889 dL_law_889 (by decide) ?_
        refine v_iadd hC 890 dL_law_890 ?_
        refine v_sld hC hX hbl (by rw [hb]; exact hbA) 891 (ix 1 (by decide) _ (by decide)) dL_law_891 ?_
        refine qL_102 hC hy 892 h9 (by decide) (catL (Nat.le_of_ble_eq_true rfl)) ⟨by show _ ≤ 600000; omega, by show _ ≤ 7302250; omega⟩ dL_law_892 ?_
        refine v_icmp_eq hC 895 1299 dL_law_895 (by decide) (fun _ => ?_) (fun c2 => absurd rfl c2)
        exact v_wid _ _ (by omega) (by omega) (NX S hI)
      by_cases c31 : xc = (21 : Int32)
      · refine v_tabIn hC 33 900 (21 : Int32) c31 dL_law_33 (by decide) (by decide) rfl (by decide) ?_
        obtain ⟨v, S1, S2, h8, h9, hI2⟩ := hs.2.2.2.2.2.2.2.2.2.2.2.2.2.2.2.2.2.2.2.2.2.1 S hI (xs (x3 + (1 : Int32)).toNatClampNeg)
        refine v_aload_n hC 900 1 dL_law_900 rfl ?_
        refine v_aload_n hC 901 0 dL_law_901 rfl ?_
        refine v_iload_n hC 902 3 dL_law_902 rfl ?_
        refine v_iconst hC (1 : Int32) 903 dL_law_903 (by decide) ?_
        refine v_iadd hC 904 dL_law_904 ?_
        refine v_sld hC hX hbl (by rw [hb]; exact hbA) 905 (ix 1 (by decide) _ (by decide)) dL_law_905 ?_
        refine qL_103 hC hy 906 h8 (by decide) (catL (Nat.le_of_ble_eq_true rfl)) ⟨by show _ ≤ 600000; omega, by show _ ≤ 7302250; omega⟩ dL_law_906 ?_
        refine v_aload_n hC 909 2 dL_law_909 rfl ?_
        refine v_aload_n hC 910 0 dL_law_910 rfl ?_
        refine v_iload_n hC 911 3 dL_law_911 rfl ?_
        refine v_iconst hC (1 : Int32) 912 dL_law_912 (by decide) ?_
        refine v_iadd hC 913 dL_law_913 ?_
        refine v_sld hC hX hbl (by rw [hb]; exact hbA) 914 (ix 1 (by decide) _ (by decide)) dL_law_914 ?_
        refine qL_106 hC hy 915 h9 (by decide) (catL (Nat.le_of_ble_eq_true rfl)) ⟨by show _ ≤ 600000; omega, by show _ ≤ 7302250; omega⟩ dL_law_915 ?_
        refine v_icmp_eq hC 918 1299 dL_law_918 (by decide) (fun _ => ?_) (fun c2 => absurd rfl c2)
        exact v_wid _ _ (by omega) (by omega) (NX S2 hI2)
      by_cases c32 : xc = (22 : Int32)
      · refine v_tabIn hC 33 923 (22 : Int32) c32 dL_law_33 (by decide) (by decide) rfl (by decide) ?_
        obtain ⟨v, S1, S2, h8, h9, hI2⟩ := hs.2.2.2.2.2.2.2.2.2.2.2.2.2.2.2.2.2.2.2.2.2.2.1 S hI (xs (x3 + (1 : Int32)).toNatClampNeg) (xs (x3 + (2 : Int32)).toNatClampNeg) (xs (x3 + (3 : Int32)).toNatClampNeg)
        refine v_aload_n hC 923 1 dL_law_923 rfl ?_
        refine v_aload_n hC 924 0 dL_law_924 rfl ?_
        refine v_iload_n hC 925 3 dL_law_925 rfl ?_
        refine v_iconst hC (1 : Int32) 926 dL_law_926 (by decide) ?_
        refine v_iadd hC 927 dL_law_927 ?_
        refine v_sld hC hX hbl (by rw [hb]; exact hbA) 928 (ix 1 (by decide) _ (by decide)) dL_law_928 ?_
        refine v_aload_n hC 929 0 dL_law_929 rfl ?_
        refine v_iload_n hC 930 3 dL_law_930 rfl ?_
        refine v_iconst hC (2 : Int32) 931 dL_law_931 (by decide) ?_
        refine v_iadd hC 932 dL_law_932 ?_
        refine v_sld hC hX hbl (by rw [hb]; exact hbA) 933 (ix 2 (by decide) _ (by decide)) dL_law_933 ?_
        refine v_aload_n hC 934 0 dL_law_934 rfl ?_
        refine v_iload_n hC 935 3 dL_law_935 rfl ?_
        refine v_iconst hC (3 : Int32) 936 dL_law_936 (by decide) ?_
        refine v_iadd hC 937 dL_law_937 ?_
        refine v_sld hC hX hbl (by rw [hb]; exact hbA) 938 (ix 3 (by decide) _ (by decide)) dL_law_938 ?_
        refine qL_107 hC hy 939 h8 (by decide) (catL (Nat.le_of_ble_eq_true rfl)) ⟨by show _ ≤ 600000; omega, by show _ ≤ 7302250; omega⟩ dL_law_939 ?_
        refine v_aload_n hC 942 2 dL_law_942 rfl ?_
        refine v_aload_n hC 943 0 dL_law_943 rfl ?_
        refine v_iload_n hC 944 3 dL_law_944 rfl ?_
        refine v_iconst hC (1 : Int32) 945 dL_law_945 (by decide) ?_
        refine v_iadd hC 946 dL_law_946 ?_
        refine v_sld hC hX hbl (by rw [hb]; exact hbA) 947 (ix 1 (by decide) _ (by decide)) dL_law_947 ?_
        refine v_aload_n hC 948 0 dL_law_948 rfl ?_
        refine v_iload_n hC 949 3 dL_law_949 rfl ?_
        refine v_iconst hC (2 : Int32) 950 dL_law_950 (by decide) ?_
        refine v_iadd hC 951 dL_law_951 ?_
        refine v_sld hC hX hbl (by rw [hb]; exact hbA) 952 (ix 2 (by decide) _ (by decide)) dL_law_952 ?_
        refine v_aload_n hC 953 0 dL_law_953 rfl ?_
        refine v_iload_n hC 954 3 dL_law_954 rfl ?_
        refine v_iconst hC (3 : Int32) 955 dL_law_955 (by decide) ?_
        refine v_iadd hC 956 dL_law_956 ?_
        refine v_sld hC hX hbl (by rw [hb]; exact hbA) 957 (ix 3 (by decide) _ (by decide)) dL_law_957 ?_
        refine qL_110 hC hy 958 h9 (by decide) (catL (Nat.le_of_ble_eq_true rfl)) ⟨by show _ ≤ 600000; omega, by show _ ≤ 7302250; omega⟩ dL_law_958 ?_
        refine v_icmp_eq hC 961 1299 dL_law_961 (by decide) (fun _ => ?_) (fun c2 => absurd rfl c2)
        exact v_wid _ _ (by omega) (by omega) (NX S2 hI2)
      by_cases c33 : xc = (23 : Int32)
      · refine v_tabIn hC 33 966 (23 : Int32) c33 dL_law_33 (by decide) (by decide) rfl (by decide) ?_
        obtain ⟨v, h8, h9⟩ := hs.2.2.2.2.2.2.2.2.2.2.2.2.2.2.2.2.2.2.2.2.2.2.2.1 S hI (xs (x3 + (1 : Int32)).toNatClampNeg)
        refine v_aload_n hC 966 1 dL_law_966 rfl ?_
        refine v_aload_n hC 967 0 dL_law_967 rfl ?_
        refine v_iload_n hC 968 3 dL_law_968 rfl ?_
        refine v_iconst hC (1 : Int32) 969 dL_law_969 (by decide) ?_
        refine v_iadd hC 970 dL_law_970 ?_
        refine v_sld hC hX hbl (by rw [hb]; exact hbA) 971 (ix 1 (by decide) _ (by decide)) dL_law_971 ?_
        refine qL_111 hC hy 972 h8 (by decide) (catL (Nat.le_of_ble_eq_true rfl)) ⟨by show _ ≤ 600000; omega, by show _ ≤ 7302250; omega⟩ dL_law_972 ?_
        refine v_aload_n hC 975 2 dL_law_975 rfl ?_
        refine v_aload_n hC 976 0 dL_law_976 rfl ?_
        refine v_iload_n hC 977 3 dL_law_977 rfl ?_
        refine v_iconst hC (1 : Int32) 978 dL_law_978 (by decide) ?_
        refine v_iadd hC 979 dL_law_979 ?_
        refine v_sld hC hX hbl (by rw [hb]; exact hbA) 980 (ix 1 (by decide) _ (by decide)) dL_law_980 ?_
        refine qL_114 hC hy 981 h9 (by decide) (catL (Nat.le_of_ble_eq_true rfl)) ⟨by show _ ≤ 600000; omega, by show _ ≤ 7302250; omega⟩ dL_law_981 ?_
        refine v_icmp_eq hC 984 1299 dL_law_984 (by decide) (fun _ => ?_) (fun c2 => absurd rfl c2)
        exact v_wid _ _ (by omega) (by omega) (NX S hI)
      by_cases c34 : xc = (24 : Int32)
      · refine v_tabIn hC 33 989 (24 : Int32) c34 dL_law_33 (by decide) (by decide) rfl (by decide) ?_
        obtain ⟨v, h8, h9⟩ := hs.2.2.2.2.2.2.2.2.2.2.2.2.2.2.2.2.2.2.2.2.2.2.2.2.1 S hI
        refine v_aload_n hC 989 1 dL_law_989 rfl ?_
        refine qL_115 hC hy 990 h8 (by decide) (catL (Nat.le_of_ble_eq_true rfl)) ⟨by show _ ≤ 600000; omega, by show _ ≤ 7302250; omega⟩ dL_law_990 ?_
        refine v_aload_n hC 993 2 dL_law_993 rfl ?_
        refine qL_119 hC hy 994 h9 (by decide) (catL (Nat.le_of_ble_eq_true rfl)) ⟨by show _ ≤ 600000; omega, by show _ ≤ 7302250; omega⟩ dL_law_994 ?_
        refine v_icmp_eq hC 997 1299 dL_law_997 (by decide) (fun _ => ?_) (fun c2 => absurd rfl c2)
        exact v_wid _ _ (by omega) (by omega) (NX S hI)
      by_cases c35 : xc = (25 : Int32)
      · refine v_tabIn hC 33 1002 (25 : Int32) c35 dL_law_33 (by decide) (by decide) rfl (by decide) ?_
        obtain ⟨v, h8, h9⟩ := hs.2.2.2.2.2.2.2.2.2.2.2.2.2.2.2.2.2.2.2.2.2.2.2.2.2.1 S hI (xs (x3 + (1 : Int32)).toNatClampNeg) (xs (x3 + (2 : Int32)).toNatClampNeg)
        refine v_aload_n hC 1002 1 dL_law_1002 rfl ?_
        refine v_aload_n hC 1003 0 dL_law_1003 rfl ?_
        refine v_iload_n hC 1004 3 dL_law_1004 rfl ?_
        refine v_iconst hC (1 : Int32) 1005 dL_law_1005 (by decide) ?_
        refine v_iadd hC 1006 dL_law_1006 ?_
        refine v_sld hC hX hbl (by rw [hb]; exact hbA) 1007 (ix 1 (by decide) _ (by decide)) dL_law_1007 ?_
        refine v_aload_n hC 1008 0 dL_law_1008 rfl ?_
        refine v_iload_n hC 1009 3 dL_law_1009 rfl ?_
        refine v_iconst hC (2 : Int32) 1010 dL_law_1010 (by decide) ?_
        refine v_iadd hC 1011 dL_law_1011 ?_
        refine v_sld hC hX hbl (by rw [hb]; exact hbA) 1012 (ix 2 (by decide) _ (by decide)) dL_law_1012 ?_
        refine qL_120 hC hy 1013 h8 (by decide) (catL (Nat.le_of_ble_eq_true rfl)) ⟨by show _ ≤ 600000; omega, by show _ ≤ 7302250; omega⟩ dL_law_1013 ?_
        refine v_aload_n hC 1016 2 dL_law_1016 rfl ?_
        refine v_aload_n hC 1017 0 dL_law_1017 rfl ?_
        refine v_iload_n hC 1018 3 dL_law_1018 rfl ?_
        refine v_iconst hC (1 : Int32) 1019 dL_law_1019 (by decide) ?_
        refine v_iadd hC 1020 dL_law_1020 ?_
        refine v_sld hC hX hbl (by rw [hb]; exact hbA) 1021 (ix 1 (by decide) _ (by decide)) dL_law_1021 ?_
        refine v_aload_n hC 1022 0 dL_law_1022 rfl ?_
        refine v_iload_n hC 1023 3 dL_law_1023 rfl ?_
        refine v_iconst hC (2 : Int32) 1024 dL_law_1024 (by decide) ?_
        refine v_iadd hC 1025 dL_law_1025 ?_
        refine v_sld hC hX hbl (by rw [hb]; exact hbA) 1026 (ix 2 (by decide) _ (by decide)) dL_law_1026 ?_
        refine qL_123 hC hy 1027 h9 (by decide) (catL (Nat.le_of_ble_eq_true rfl)) ⟨by show _ ≤ 600000; omega, by show _ ≤ 7302250; omega⟩ dL_law_1027 ?_
        refine v_icmp_eq hC 1030 1299 dL_law_1030 (by decide) (fun _ => ?_) (fun c2 => absurd rfl c2)
        exact v_wid _ _ (by omega) (by omega) (NX S hI)
      by_cases c36 : xc = (26 : Int32)
      · refine v_tabIn hC 33 1035 (26 : Int32) c36 dL_law_33 (by decide) (by decide) rfl (by decide) ?_
        obtain ⟨v, S1, S2, h8, h9, hI2⟩ := hs.2.2.2.2.2.2.2.2.2.2.2.2.2.2.2.2.2.2.2.2.2.2.2.2.2.2.1 S hI (xs (x3 + (1 : Int32)).toNatClampNeg) (xs (x3 + (2 : Int32)).toNatClampNeg) (xs (x3 + (3 : Int32)).toNatClampNeg)
        refine v_aload_n hC 1035 1 dL_law_1035 rfl ?_
        refine v_aload_n hC 1036 0 dL_law_1036 rfl ?_
        refine v_iload_n hC 1037 3 dL_law_1037 rfl ?_
        refine v_iconst hC (1 : Int32) 1038 dL_law_1038 (by decide) ?_
        refine v_iadd hC 1039 dL_law_1039 ?_
        refine v_sld hC hX hbl (by rw [hb]; exact hbA) 1040 (ix 1 (by decide) _ (by decide)) dL_law_1040 ?_
        refine v_aload_n hC 1041 0 dL_law_1041 rfl ?_
        refine v_iload_n hC 1042 3 dL_law_1042 rfl ?_
        refine v_iconst hC (2 : Int32) 1043 dL_law_1043 (by decide) ?_
        refine v_iadd hC 1044 dL_law_1044 ?_
        refine v_sld hC hX hbl (by rw [hb]; exact hbA) 1045 (ix 2 (by decide) _ (by decide)) dL_law_1045 ?_
        refine v_aload_n hC 1046 0 dL_law_1046 rfl ?_
        refine v_iload_n hC 1047 3 dL_law_1047 rfl ?_
        refine v_iconst hC (3 : Int32) 1048 dL_law_1048 (by decide) ?_
        refine v_iadd hC 1049 dL_law_1049 ?_
        refine v_sld hC hX hbl (by rw [hb]; exact hbA) 1050 (ix 3 (by decide) _ (by decide)) dL_law_1050 ?_
        refine qL_124 hC hy 1051 h8 (by decide) (catL (Nat.le_of_ble_eq_true rfl)) ⟨by show _ ≤ 600000; omega, by show _ ≤ 7302250; omega⟩ dL_law_1051 ?_
        refine v_aload_n hC 1054 2 dL_law_1054 rfl ?_
        refine v_aload_n hC 1055 0 dL_law_1055 rfl ?_
        refine v_iload_n hC 1056 3 dL_law_1056 rfl ?_
        refine v_iconst hC (1 : Int32) 1057 dL_law_1057 (by decide) ?_
        refine v_iadd hC 1058 dL_law_1058 ?_
        refine v_sld hC hX hbl (by rw [hb]; exact hbA) 1059 (ix 1 (by decide) _ (by decide)) dL_law_1059 ?_
        refine v_aload_n hC 1060 0 dL_law_1060 rfl ?_
        refine v_iload_n hC 1061 3 dL_law_1061 rfl ?_
        refine v_iconst hC (2 : Int32) 1062 dL_law_1062 (by decide) ?_
        refine v_iadd hC 1063 dL_law_1063 ?_
        refine v_sld hC hX hbl (by rw [hb]; exact hbA) 1064 (ix 2 (by decide) _ (by decide)) dL_law_1064 ?_
        refine v_aload_n hC 1065 0 dL_law_1065 rfl ?_
        refine v_iload_n hC 1066 3 dL_law_1066 rfl ?_
        refine v_iconst hC (3 : Int32) 1067 dL_law_1067 (by decide) ?_
        refine v_iadd hC 1068 dL_law_1068 ?_
        refine v_sld hC hX hbl (by rw [hb]; exact hbA) 1069 (ix 3 (by decide) _ (by decide)) dL_law_1069 ?_
        refine qL_127 hC hy 1070 h9 (by decide) (catL (Nat.le_of_ble_eq_true rfl)) ⟨by show _ ≤ 600000; omega, by show _ ≤ 7302250; omega⟩ dL_law_1070 ?_
        refine v_icmp_eq hC 1073 1299 dL_law_1073 (by decide) (fun _ => ?_) (fun c2 => absurd rfl c2)
        exact v_wid _ _ (by omega) (by omega) (NX S2 hI2)
      by_cases c37 : xc = (27 : Int32)
      · refine v_tabIn hC 33 1078 (27 : Int32) c37 dL_law_33 (by decide) (by decide) rfl (by decide) ?_
        obtain ⟨v, S1, S2, h8, h9, hI2⟩ := hs.2.2.2.2.2.2.2.2.2.2.2.2.2.2.2.2.2.2.2.2.2.2.2.2.2.2.2.1 S hI (xs (x3 + (1 : Int32)).toNatClampNeg)
        refine v_aload_n hC 1078 1 dL_law_1078 rfl ?_
        refine v_aload_n hC 1079 0 dL_law_1079 rfl ?_
        refine v_iload_n hC 1080 3 dL_law_1080 rfl ?_
        refine v_iconst hC (1 : Int32) 1081 dL_law_1081 (by decide) ?_
        refine v_iadd hC 1082 dL_law_1082 ?_
        refine v_sld hC hX hbl (by rw [hb]; exact hbA) 1083 (ix 1 (by decide) _ (by decide)) dL_law_1083 ?_
        refine qL_128 hC hy 1084 h8 (by decide) (catL (Nat.le_of_ble_eq_true rfl)) ⟨by show _ ≤ 600000; omega, by show _ ≤ 7302250; omega⟩ dL_law_1084 ?_
        refine v_aload_n hC 1087 2 dL_law_1087 rfl ?_
        refine v_aload_n hC 1088 0 dL_law_1088 rfl ?_
        refine v_iload_n hC 1089 3 dL_law_1089 rfl ?_
        refine v_iconst hC (1 : Int32) 1090 dL_law_1090 (by decide) ?_
        refine v_iadd hC 1091 dL_law_1091 ?_
        refine v_sld hC hX hbl (by rw [hb]; exact hbA) 1092 (ix 1 (by decide) _ (by decide)) dL_law_1092 ?_
        refine qL_131 hC hy 1093 h9 (by decide) (catL (Nat.le_of_ble_eq_true rfl)) ⟨by show _ ≤ 600000; omega, by show _ ≤ 7302250; omega⟩ dL_law_1093 ?_
        refine v_icmp_eq hC 1096 1299 dL_law_1096 (by decide) (fun _ => ?_) (fun c2 => absurd rfl c2)
        exact v_wid _ _ (by omega) (by omega) (NX S2 hI2)
      by_cases c38 : xc = (28 : Int32)
      · refine v_tabIn hC 33 1101 (28 : Int32) c38 dL_law_33 (by decide) (by decide) rfl (by decide) ?_
        obtain ⟨v, S1, S2, h8, h9, hI2⟩ := hs.2.2.2.2.2.2.2.2.2.2.2.2.2.2.2.2.2.2.2.2.2.2.2.2.2.2.2.2.1 S hI
        refine v_aload_n hC 1101 1 dL_law_1101 rfl ?_
        refine qL_132 hC hy 1102 h8 (by decide) (catL (Nat.le_of_ble_eq_true rfl)) ⟨by show _ ≤ 600000; omega, by show _ ≤ 7302250; omega⟩ dL_law_1102 ?_
        refine v_aload_n hC 1105 2 dL_law_1105 rfl ?_
        refine qL_135 hC hy 1106 h9 (by decide) (catL (Nat.le_of_ble_eq_true rfl)) ⟨by show _ ≤ 600000; omega, by show _ ≤ 7302250; omega⟩ dL_law_1106 ?_
        refine v_icmp_eq hC 1109 1299 dL_law_1109 (by decide) (fun _ => ?_) (fun c2 => absurd rfl c2)
        exact v_wid _ _ (by omega) (by omega) (NX S2 hI2)
      by_cases c39 : xc = (29 : Int32)
      · refine v_tabIn hC 33 1114 (29 : Int32) c39 dL_law_33 (by decide) (by decide) rfl (by decide) ?_
        obtain ⟨v, S1, S2, h8, h9, hI2⟩ := hs.2.2.2.2.2.2.2.2.2.2.2.2.2.2.2.2.2.2.2.2.2.2.2.2.2.2.2.2.2.1 S hI (xs (x3 + (1 : Int32)).toNatClampNeg)
        refine v_aload_n hC 1114 1 dL_law_1114 rfl ?_
        refine v_aload_n hC 1115 0 dL_law_1115 rfl ?_
        refine v_iload_n hC 1116 3 dL_law_1116 rfl ?_
        refine v_iconst hC (1 : Int32) 1117 dL_law_1117 (by decide) ?_
        refine v_iadd hC 1118 dL_law_1118 ?_
        refine v_sld hC hX hbl (by rw [hb]; exact hbA) 1119 (ix 1 (by decide) _ (by decide)) dL_law_1119 ?_
        refine qL_136 hC hy 1120 h8 (by decide) (catL (Nat.le_of_ble_eq_true rfl)) ⟨by show _ ≤ 600000; omega, by show _ ≤ 7302250; omega⟩ dL_law_1120 ?_
        refine v_aload_n hC 1123 2 dL_law_1123 rfl ?_
        refine v_aload_n hC 1124 0 dL_law_1124 rfl ?_
        refine v_iload_n hC 1125 3 dL_law_1125 rfl ?_
        refine v_iconst hC (1 : Int32) 1126 dL_law_1126 (by decide) ?_
        refine v_iadd hC 1127 dL_law_1127 ?_
        refine v_sld hC hX hbl (by rw [hb]; exact hbA) 1128 (ix 1 (by decide) _ (by decide)) dL_law_1128 ?_
        refine qL_139 hC hy 1129 h9 (by decide) (catL (Nat.le_of_ble_eq_true rfl)) ⟨by show _ ≤ 600000; omega, by show _ ≤ 7302250; omega⟩ dL_law_1129 ?_
        refine v_icmp_eq hC 1132 1299 dL_law_1132 (by decide) (fun _ => ?_) (fun c2 => absurd rfl c2)
        exact v_wid _ _ (by omega) (by omega) (NX S2 hI2)
      by_cases c40 : xc = (30 : Int32)
      · refine v_tabIn hC 33 1137 (30 : Int32) c40 dL_law_33 (by decide) (by decide) rfl (by decide) ?_
        obtain ⟨v, S1, S2, h8, h9, hI2⟩ := hs.2.2.2.2.2.2.2.2.2.2.2.2.2.2.2.2.2.2.2.2.2.2.2.2.2.2.2.2.2.2.1 S hI (xs (x3 + (1 : Int32)).toNatClampNeg)
        refine v_aload_n hC 1137 1 dL_law_1137 rfl ?_
        refine v_aload_n hC 1138 0 dL_law_1138 rfl ?_
        refine v_iload_n hC 1139 3 dL_law_1139 rfl ?_
        refine v_iconst hC (1 : Int32) 1140 dL_law_1140 (by decide) ?_
        refine v_iadd hC 1141 dL_law_1141 ?_
        refine v_sld hC hX hbl (by rw [hb]; exact hbA) 1142 (ix 1 (by decide) _ (by decide)) dL_law_1142 ?_
        refine qL_140 hC hy 1143 h8 (by decide) (catL (Nat.le_of_ble_eq_true rfl)) ⟨by show _ ≤ 600000; omega, by show _ ≤ 7302250; omega⟩ dL_law_1143 ?_
        refine v_aload_n hC 1146 2 dL_law_1146 rfl ?_
        refine v_aload_n hC 1147 0 dL_law_1147 rfl ?_
        refine v_iload_n hC 1148 3 dL_law_1148 rfl ?_
        refine v_iconst hC (1 : Int32) 1149 dL_law_1149 (by decide) ?_
        refine v_iadd hC 1150 dL_law_1150 ?_
        refine v_sld hC hX hbl (by rw [hb]; exact hbA) 1151 (ix 1 (by decide) _ (by decide)) dL_law_1151 ?_
        refine qL_143 hC hy 1152 h9 (by decide) (catL (Nat.le_of_ble_eq_true rfl)) ⟨by show _ ≤ 600000; omega, by show _ ≤ 7302250; omega⟩ dL_law_1152 ?_
        refine v_icmp_eq hC 1155 1299 dL_law_1155 (by decide) (fun _ => ?_) (fun c2 => absurd rfl c2)
        exact v_wid _ _ (by omega) (by omega) (NX S2 hI2)
      by_cases c41 : xc = (31 : Int32)
      · refine v_tabIn hC 33 1160 (31 : Int32) c41 dL_law_33 (by decide) (by decide) rfl (by decide) ?_
        obtain ⟨v, S1, S2, h8, h9, hI2⟩ := hs.2.2.2.2.2.2.2.2.2.2.2.2.2.2.2.2.2.2.2.2.2.2.2.2.2.2.2.2.2.2.2.1 S hI (xs (x3 + (1 : Int32)).toNatClampNeg) (xs (x3 + (2 : Int32)).toNatClampNeg) (xs (x3 + (3 : Int32)).toNatClampNeg)
        refine v_aload_n hC 1160 1 dL_law_1160 rfl ?_
        refine v_aload_n hC 1161 0 dL_law_1161 rfl ?_
        refine v_iload_n hC 1162 3 dL_law_1162 rfl ?_
        refine v_iconst hC (1 : Int32) 1163 dL_law_1163 (by decide) ?_
        refine v_iadd hC 1164 dL_law_1164 ?_
        refine v_sld hC hX hbl (by rw [hb]; exact hbA) 1165 (ix 1 (by decide) _ (by decide)) dL_law_1165 ?_
        refine v_aload_n hC 1166 0 dL_law_1166 rfl ?_
        refine v_iload_n hC 1167 3 dL_law_1167 rfl ?_
        refine v_iconst hC (2 : Int32) 1168 dL_law_1168 (by decide) ?_
        refine v_iadd hC 1169 dL_law_1169 ?_
        refine v_sld hC hX hbl (by rw [hb]; exact hbA) 1170 (ix 2 (by decide) _ (by decide)) dL_law_1170 ?_
        refine v_aload_n hC 1171 0 dL_law_1171 rfl ?_
        refine v_iload_n hC 1172 3 dL_law_1172 rfl ?_
        refine v_iconst hC (3 : Int32) 1173 dL_law_1173 (by decide) ?_
        refine v_iadd hC 1174 dL_law_1174 ?_
        refine v_sld hC hX hbl (by rw [hb]; exact hbA) 1175 (ix 3 (by decide) _ (by decide)) dL_law_1175 ?_
        refine qL_144 hC hy 1176 h8 (by decide) (catL (Nat.le_of_ble_eq_true rfl)) ⟨by show _ ≤ 600000; omega, by show _ ≤ 7302250; omega⟩ dL_law_1176 ?_
        refine v_aload_n hC 1179 2 dL_law_1179 rfl ?_
        refine v_aload_n hC 1180 0 dL_law_1180 rfl ?_
        refine v_iload_n hC 1181 3 dL_law_1181 rfl ?_
        refine v_iconst hC (1 : Int32) 1182 dL_law_1182 (by decide) ?_
        refine v_iadd hC 1183 dL_law_1183 ?_
        refine v_sld hC hX hbl (by rw [hb]; exact hbA) 1184 (ix 1 (by decide) _ (by decide)) dL_law_1184 ?_
        refine v_aload_n hC 1185 0 dL_law_1185 rfl ?_
        refine v_iload_n hC 1186 3 dL_law_1186 rfl ?_
        refine v_iconst hC (2 : Int32) 1187 dL_law_1187 (by decide) ?_
        refine v_iadd hC 1188 dL_law_1188 ?_
        refine v_sld hC hX hbl (by rw [hb]; exact hbA) 1189 (ix 2 (by decide) _ (by decide)) dL_law_1189 ?_
        refine v_aload_n hC 1190 0 dL_law_1190 rfl ?_
        refine v_iload_n hC 1191 3 dL_law_1191 rfl ?_
        refine v_iconst hC (3 : Int32) 1192 dL_law_1192 (by decide) ?_
        refine v_iadd hC 1193 dL_law_1193 ?_
        refine v_sld hC hX hbl (by rw [hb]; exact hbA) 1194 (ix 3 (by decide) _ (by decide)) dL_law_1194 ?_
        refine qL_147 hC hy 1195 h9 (by decide) (catL (Nat.le_of_ble_eq_true rfl)) ⟨by show _ ≤ 600000; omega, by show _ ≤ 7302250; omega⟩ dL_law_1195 ?_
        refine v_icmp_eq hC 1198 1299 dL_law_1198 (by decide) (fun _ => ?_) (fun c2 => absurd rfl c2)
        exact v_wid _ _ (by omega) (by omega) (NX S2 hI2)
      by_cases c42 : xc = (32 : Int32)
      · refine v_tabIn hC 33 1203 (32 : Int32) c42 dL_law_33 (by decide) (by decide) rfl (by decide) ?_
        obtain ⟨v, S1, S2, h8, h9, hI2⟩ := hs.2.2.2.2.2.2.2.2.2.2.2.2.2.2.2.2.2.2.2.2.2.2.2.2.2.2.2.2.2.2.2.2.1 S hI
        refine v_aload_n hC 1203 1 dL_law_1203 rfl ?_
        refine qL_148 hC hy 1204 h8 (by decide) (catL (Nat.le_of_ble_eq_true rfl)) ⟨by show _ ≤ 600000; omega, by show _ ≤ 7302250; omega⟩ dL_law_1204 ?_
        refine v_aload_n hC 1207 2 dL_law_1207 rfl ?_
        refine qL_151 hC hy 1208 h9 (by decide) (catL (Nat.le_of_ble_eq_true rfl)) ⟨by show _ ≤ 600000; omega, by show _ ≤ 7302250; omega⟩ dL_law_1208 ?_
        refine v_icmp_eq hC 1211 1299 dL_law_1211 (by decide) (fun _ => ?_) (fun c2 => absurd rfl c2)
        exact v_wid _ _ (by omega) (by omega) (NX S2 hI2)
      by_cases c43 : xc = (33 : Int32)
      · refine v_tabIn hC 33 1216 (33 : Int32) c43 dL_law_33 (by decide) (by decide) rfl (by decide) ?_
        obtain ⟨v, h8, h9⟩ := hs.2.2.2.2.2.2.2.2.2.2.2.2.2.2.2.2.2.2.2.2.2.2.2.2.2.2.2.2.2.2.2.2.2.1 S hI (xs (x3 + (1 : Int32)).toNatClampNeg)
        refine v_aload_n hC 1216 1 dL_law_1216 rfl ?_
        refine v_aload_n hC 1217 0 dL_law_1217 rfl ?_
        refine v_iload_n hC 1218 3 dL_law_1218 rfl ?_
        refine v_iconst hC (1 : Int32) 1219 dL_law_1219 (by decide) ?_
        refine v_iadd hC 1220 dL_law_1220 ?_
        refine v_sld hC hX hbl (by rw [hb]; exact hbA) 1221 (ix 1 (by decide) _ (by decide)) dL_law_1221 ?_
        refine qL_152 hC hy 1222 h8 (by decide) (catL (Nat.le_of_ble_eq_true rfl)) ⟨by show _ ≤ 600000; omega, by show _ ≤ 7302250; omega⟩ dL_law_1222 ?_
        refine v_aload_n hC 1225 2 dL_law_1225 rfl ?_
        refine v_aload_n hC 1226 0 dL_law_1226 rfl ?_
        refine v_iload_n hC 1227 3 dL_law_1227 rfl ?_
        refine v_iconst hC (1 : Int32) 1228 dL_law_1228 (by decide) ?_
        refine v_iadd hC 1229 dL_law_1229 ?_
        refine v_sld hC hX hbl (by rw [hb]; exact hbA) 1230 (ix 1 (by decide) _ (by decide)) dL_law_1230 ?_
        refine qL_155 hC hy 1231 h9 (by decide) (catL (Nat.le_of_ble_eq_true rfl)) ⟨by show _ ≤ 600000; omega, by show _ ≤ 7302250; omega⟩ dL_law_1231 ?_
        refine v_icmp_eq hC 1234 1299 dL_law_1234 (by decide) (fun _ => ?_) (fun c2 => absurd rfl c2)
        exact v_wid _ _ (by omega) (by omega) (NX S hI)
      by_cases c44 : xc = (34 : Int32)
      · refine v_tabIn hC 33 1239 (34 : Int32) c44 dL_law_33 (by decide) (by decide) rfl (by decide) ?_
        obtain ⟨v, S1, S2, h8, h9, hI2⟩ := hs.2.2.2.2.2.2.2.2.2.2.2.2.2.2.2.2.2.2.2.2.2.2.2.2.2.2.2.2.2.2.2.2.2.2.1 S hI (xs (x3 + (1 : Int32)).toNatClampNeg)
        refine v_aload_n hC 1239 1 dL_law_1239 rfl ?_
        refine v_aload_n hC 1240 0 dL_law_1240 rfl ?_
        refine v_iload_n hC 1241 3 dL_law_1241 rfl ?_
        refine v_iconst hC (1 : Int32) 1242 dL_law_1242 (by decide) ?_
        refine v_iadd hC 1243 dL_law_1243 ?_
        refine v_sld hC hX hbl (by rw [hb]; exact hbA) 1244 (ix 1 (by decide) _ (by decide)) dL_law_1244 ?_
        refine qL_156 hC hy 1245 h8 (by decide) (catL (Nat.le_of_ble_eq_true rfl)) ⟨by show _ ≤ 600000; omega, by show _ ≤ 7302250; omega⟩ dL_law_1245 ?_
        refine v_aload_n hC 1248 2 dL_law_1248 rfl ?_
        refine v_aload_n hC 1249 0 dL_law_1249 rfl ?_
        refine v_iload_n hC 1250 3 dL_law_1250 rfl ?_
        refine v_iconst hC (1 : Int32) 1251 dL_law_1251 (by decide) ?_
        refine v_iadd hC 1252 dL_law_1252 ?_
        refine v_sld hC hX hbl (by rw [hb]; exact hbA) 1253 (ix 1 (by decide) _ (by decide)) dL_law_1253 ?_
        refine qL_159 hC hy 1254 h9 (by decide) (catL (Nat.le_of_ble_eq_true rfl)) ⟨by show _ ≤ 600000; omega, by show _ ≤ 7302250; omega⟩ dL_law_1254 ?_
        refine v_icmp_eq hC 1257 1299 dL_law_1257 (by decide) (fun _ => ?_) (fun c2 => absurd rfl c2)
        exact v_wid _ _ (by omega) (by omega) (NX S2 hI2)
      by_cases c45 : xc = (35 : Int32)
      · refine v_tabIn hC 33 1262 (35 : Int32) c45 dL_law_33 (by decide) (by decide) rfl (by decide) ?_
        obtain ⟨v, h8, h9⟩ := hs.2.2.2.2.2.2.2.2.2.2.2.2.2.2.2.2.2.2.2.2.2.2.2.2.2.2.2.2.2.2.2.2.2.2.2.1 S hI (xs (x3 + (1 : Int32)).toNatClampNeg)
        refine v_aload_n hC 1262 1 dL_law_1262 rfl ?_
        refine v_aload_n hC 1263 0 dL_law_1263 rfl ?_
        refine v_iload_n hC 1264 3 dL_law_1264 rfl ?_
        refine v_iconst hC (1 : Int32) 1265 dL_law_1265 (by decide) ?_
        refine v_iadd hC 1266 dL_law_1266 ?_
        refine v_sld hC hX hbl (by rw [hb]; exact hbA) 1267 (ix 1 (by decide) _ (by decide)) dL_law_1267 ?_
        refine qL_160 hC hy 1268 h8 (by decide) (catL (Nat.le_of_ble_eq_true rfl)) ⟨by show _ ≤ 600000; omega, by show _ ≤ 7302250; omega⟩ dL_law_1268 ?_
        refine v_aload_n hC 1271 2 dL_law_1271 rfl ?_
        refine v_aload_n hC 1272 0 dL_law_1272 rfl ?_
        refine v_iload_n hC 1273 3 dL_law_1273 rfl ?_
        refine v_iconst hC (1 : Int32) 1274 dL_law_1274 (by decide) ?_
        refine v_iadd hC 1275 dL_law_1275 ?_
        refine v_sld hC hX hbl (by rw [hb]; exact hbA) 1276 (ix 1 (by decide) _ (by decide)) dL_law_1276 ?_
        refine qL_163 hC hy 1277 h9 (by decide) (catL (Nat.le_of_ble_eq_true rfl)) ⟨by show _ ≤ 600000; omega, by show _ ≤ 7302250; omega⟩ dL_law_1277 ?_
        refine v_icmp_eq hC 1280 1299 dL_law_1280 (by decide) (fun _ => ?_) (fun c2 => absurd rfl c2)
        exact v_wid _ _ (by omega) (by omega) (NX S hI)
      by_cases c46 : xc = (36 : Int32)
      · refine v_tabIn hC 33 1285 (36 : Int32) c46 dL_law_33 (by decide) (by decide) rfl (by decide) ?_
        obtain ⟨v, h8, h9⟩ := hs.2.2.2.2.2.2.2.2.2.2.2.2.2.2.2.2.2.2.2.2.2.2.2.2.2.2.2.2.2.2.2.2.2.2.2.2 S hI
        refine v_aload_n hC 1285 1 dL_law_1285 rfl ?_
        refine qL_164 hC hy 1286 h8 (by decide) (catL (Nat.le_of_ble_eq_true rfl)) ⟨by show _ ≤ 600000; omega, by show _ ≤ 7302250; omega⟩ dL_law_1286 ?_
        refine v_aload_n hC 1289 2 dL_law_1289 rfl ?_
        refine qL_168 hC hy 1290 h9 (by decide) (catL (Nat.le_of_ble_eq_true rfl)) ⟨by show _ ≤ 600000; omega, by show _ ≤ 7302250; omega⟩ dL_law_1290 ?_
        refine v_lcmp hC 1293 dL_law_1293 ?_
        refine v_if_eq hC 1294 1299 dL_law_1294 (by decide) (fun _ => ?_) (fun c2 => absurd (by simp [lg_cmp]) c2)
        exact v_wid _ _ (by omega) (by omega) (NX S hI)
      refine v_tabOut hC 33 1299 dL_law_33 (by have := lv_neT (a := 0) c10 (by decide); have := lv_neT (a := 1) c11 (by decide); have := lv_neT (a := 2) c12 (by decide); have := lv_neT (a := 3) c13 (by decide); have := lv_neT (a := 4) c14 (by decide); have := lv_neT (a := 5) c15 (by decide); have := lv_neT (a := 6) c16 (by decide); have := lv_neT (a := 7) c17 (by decide); have := lv_neT (a := 8) c18 (by decide); have := lv_neT (a := 9) c19 (by decide); have := lv_neT (a := 10) c20 (by decide); have := lv_neT (a := 11) c21 (by decide); have := lv_neT (a := 12) c22 (by decide); have := lv_neT (a := 13) c23 (by decide); have := lv_neT (a := 14) c24 (by decide); have := lv_neT (a := 15) c25 (by decide); have := lv_neT (a := 16) c26 (by decide); have := lv_neT (a := 17) c27 (by decide); have := lv_neT (a := 18) c28 (by decide); have := lv_neT (a := 19) c29 (by decide); have := lv_neT (a := 20) c30 (by decide); have := lv_neT (a := 21) c31 (by decide); have := lv_neT (a := 22) c32 (by decide); have := lv_neT (a := 23) c33 (by decide); have := lv_neT (a := 24) c34 (by decide); have := lv_neT (a := 25) c35 (by decide); have := lv_neT (a := 26) c36 (by decide); have := lv_neT (a := 27) c37 (by decide); have := lv_neT (a := 28) c38 (by decide); have := lv_neT (a := 29) c39 (by decide); have := lv_neT (a := 30) c40 (by decide); have := lv_neT (a := 31) c41 (by decide); have := lv_neT (a := 32) c42 (by decide); have := lv_neT (a := 33) c43 (by decide); have := lv_neT (a := 34) c44 (by decide); have := lv_neT (a := 35) c45 (by decide); have := lv_neT (a := 36) c46 (by decide); omega) (by decide) ?_
      exact v_wid _ _ (by omega) (by omega) (NX S hI)
theorem law_K {s : State} {args : Array Value} (hts : ∀ q ∈ lw_tbl, q.before args s = true) : ∃ w : va_G × (Nat → ClassId), va_K w.1 vwCl (tysC w.2) s := by
  have hG : ∀ q ∈ tblG, q.before args s = true := fun q hq => hts q (List.mem_filter.mp hq).1
  obtain ⟨c0, i0, k0⟩ := u_known (C := RX0) (T := TX0) (N := 10) hG inG0 (hG _ wG118)
  obtain ⟨c1, i1, k1⟩ := u_known (C := RX1) (T := TX1) (N := 4) hG inG1 (hG _ wG99)
  obtain ⟨c2, i2, k2⟩ := u_known (C := RX2) (T := TX2) (N := 3) hG inG2 (hG _ wG115)
  obtain ⟨c3, i3, k3⟩ := u_known (C := RX3) (T := TX3) (N := 5) hG inG3 (hG _ wG109)
  obtain ⟨c4, i4, k4⟩ := u_known (C := RX4) (T := TX4) (N := 5) hG inG4 (hG _ wG121)
  obtain ⟨c5, i5, k5⟩ := u_known (C := RX5) (T := TX5) (N := 2) hG inG5 (hG _ wG61)
  obtain ⟨c6, i6, k6⟩ := u_known (C := RX6) (T := TX6) (N := 7) hG inG6 (hG _ wG124)
  obtain ⟨c7, i7, k7⟩ := u_known (C := RX7) (T := TX7) (N := 3) hG inG7 (hG _ wG112)
  obtain ⟨c8, i8, k8⟩ := u_known (C := RX8) (T := TX8) (N := 11) hG inG8 (hG _ wG969)
  obtain ⟨c9, i9, k9⟩ := u_known (C := RX9) (T := TX9) (N := 32) hG inG9 (hG _ wG970)
  obtain ⟨ai, kai, coi, fi1, fi2, fi3⟩ := Cond.arrayClass_spec (hG _ wG22)
  obtain ⟨ab, kab, cob, fb1, fb2, fb3⟩ := Cond.arrayClass_spec (hG _ wG164)
  obtain ⟨al, kal, col, fl1, fl2, fl3⟩ := Cond.arrayClass_spec (hG _ wG47)
  have hAO : (Cond.arrayOver (.object "CaneHouse$Cane")).before args s = true := hts _ (List.mem_append_right _ (List.mem_of_getElem? (i := 48) (by decide +kernel)))
  obtain ⟨comp, ao, ko, o1, o2, o3, o4, o5⟩ := Cond.arrayOver_spec hAO
  refine ⟨((fun k => match k with | 0 => c0 | 1 => c1 | 2 => c2 | 3 => c3 | 4 => c4 | 5 => c5 | 6 => c6 | 7 => c7 | 8 => c8 | _ => c9, fun k => match k with | 0 => i0 | 1 => i1 | 2 => i2 | 3 => i3 | 4 => i4 | 5 => i5 | 6 => i6 | 7 => i7 | 8 => i8 | _ => i9), fun k => match k with | 0 => ai | 1 => ab | 2 => al | _ => ao), ?_, ?_⟩
  · intro k q hq
    match k, hq with
    | 0, hq => cases hq; exact k0
    | 1, hq => cases hq; exact k1
    | 2, hq => cases hq; exact k2
    | 3, hq => cases hq; exact k3
    | 4, hq => cases hq; exact k4
    | 5, hq => cases hq; exact k5
    | 6, hq => cases hq; exact k6
    | 7, hq => cases hq; exact k7
    | 8, hq => cases hq; exact k8
    | 9, hq => cases hq; exact k9
    | k + 10, hq => simp [vwCl] at hq
  · intro k q hq
    match k, hq with
    | 0, hq => cases hq; exact ⟨fun n z => ⟨fun k h => (by cases h), kai, fi2, coi, fi3⟩, fi1⟩
    | 1, hq => cases hq; exact ⟨fun n z => ⟨fun k h => (by cases h), kab, fb2, cob, fb3⟩, fb1⟩
    | 2, hq => cases hq; exact ⟨fun n z => ⟨fun k h => (by cases h), kal, fl2, col, fl3⟩, fl1⟩
    | 3, hq => cases hq; exact ⟨fun n z => ⟨fun k h => (by cases h), ko, o3, comp, o4⟩, ko, comp, o3, o4, o1, o5⟩
    | k + 4, hq => simp [tysC] at hq
theorem law_kw {s : State} {args : Array Value} (hts : ∀ q ∈ lw_tbl, q.before args s = true) : kw s := by
  refine ⟨fun q hq => ?_, va_AO.of (hts _ (List.mem_append_right _ (List.mem_of_getElem? (i := 48) (by decide +kernel))))⟩
  obtain ⟨h1, h2⟩ := List.mem_filter.mp hq
  refine va_Nw.of ?_ (hts q (List.mem_append_right _ h1))
  cases q <;> first | rfl | (simp [isNest] at h2)
set_option maxHeartbeats 4000000 in
set_option maxRecDepth 100000 in
theorem law_start {p : Program} {e : Env} {s : State} {m : MethodId} {below : List Frame} {meth : Method} {c : Code} (l : Launch) {b L : Nat} {xs : Nat → Int32} (Inv : Nat → Nat → pH → Prop) (hs : ∀ b hm, Steps b hm (Inv b hm)) (hin : ∀ b, Init b (Inv b)) (hL : L ≤ 3072) (C0 : lw_At p s m meth c b L xs) : W p l e room_1 s m #[Value.ref b] below meth c s.heap [] 0 0 (lw_Z below #[Value.ref b] s) (entryFrame m ([Value.ref b] : List Value).toArray 4) := by
  obtain ⟨hx, hb, hr, hml, hown, hts, hX, hbl, hlocks, hgv⟩ := id C0
  obtain ⟨⟨D, cy⟩, hK⟩ := law_K hts
  have hl := lv_entry ([.ref b]) (n := 4) (Nat.le_of_ble_eq_true rfl)
  rw [lg_entry_eq]
  have hC : Cx (p, l, e, room_1, s, m, #[Value.ref b], below, meth, c) ⟨RL, meth.name, ""⟩ code 4 ret room_1 (D, cy, s.heap.size) := ⟨⟨hx, hb, hr, hml, hown, hlocks, rfl, rfl⟩, fun q hq => hts q (List.mem_filter.mp hq).1, law_kw hts, hK, Nat.le_refl _⟩
  have hH0 : hp (D, cy, s.heap.size) (0, fun _ => pNo) s.heap := ⟨rfl, fun k q h => by simp [wsO] at h, fun _ _ => rfl⟩
  obtain ⟨S1, S2, i1, i2, hI⟩ := hin s.heap.size
  suffices K : V (p, l, e, room_1, s, m, #[Value.ref b], below, meth, c) (D, cy, s.heap.size) 4 (lw_Z below #[Value.ref b] s) (0, fun _ => pNo) 0 0 0 [(0, va_rf (some b))] [] from K s.heap [] _ hH0 va_S.rf hl
  refine v_new hC (ci := 8) [.null, .null, .int 0, .null, .null, .null, .null, .null, .null, .null, .long 0] 0 rfl inG8 tyX8 tyX8_ok wG971 wG969 wG197 dfl8 (by decide) (by decide) dL_law_0 ?_
  refine v_dup hC 3 rfl dL_law_3 ?_
  refine qL_9 hC rfl 4 i1 (by decide) (catL (Nat.le_of_ble_eq_true rfl)) (by decide) dL_law_4 ?_
  refine v_astore_n hC [(1, va_rf (some (s.heap.size + 0))), (0, va_rf (some b))] 7 dL_law_7 (by decide) (by first | rfl | (simp [cat_rf]; done) | (simp [cat_rf]; decide)) ?_
  refine v_new hC (ci := 9) [.null, .null, .int 0, .null, .null, .null, .null, .null, .int 0, .int 0, .int 0, .null, .null, .null, .null, .int 0, .int 0, .null, .int 0, .int 0, .null, .null, .null, .long 0, .null, .null, .null, .null, .null, .null, .null, .null] 8 rfl inG9 tyX9 tyX9_ok wG972 wG970 wG542 dfl9 (by decide) (by decide) dL_law_8 ?_
  refine v_dup hC 11 rfl dL_law_11 ?_
  refine qL_12 hC rfl 12 i2 (by decide) (catL (Nat.le_of_ble_eq_true rfl)) (by decide) dL_law_12 ?_
  refine v_astore_n hC [(2, va_rf (some (s.heap.size + S1.1))), (1, va_rf (some (s.heap.size + 0))), (0, va_rf (some b))] 15 dL_law_15 (by decide) (by first | rfl | (simp [cat_rf]; done) | (simp [cat_rf]; decide)) ?_
  refine v_iconst hC (0 : Int32) 16 dL_law_16 (by decide) ?_
  refine v_istore_n hC [(3, .int (0 : Int32)), (2, va_rf (some (s.heap.size + S1.1))), (1, va_rf (some (s.heap.size + 0))), (0, va_rf (some b))] 17 dL_law_17 (by decide) (by first | rfl | (simp [cat_rf]; done) | (simp [cat_rf]; decide)) ?_
  refine v_sub [(0, va_rf (some b)), (1, va_rf (some s.heap.size)), (2, va_rf (some (s.heap.size + S1.1))), (3, .int (0 : Int32))] [3, 2, 1, 0] rfl ?_
  exact law_loop (Inv s.heap.size (s.heap.size + S1.1)) (hs _ _) hL rfl hC hX hbl (by show ¬ s.heap.size ≤ b; omega) rfl rfl rfl (L + 8) 0 0 S2 _ _ (by omega) (by omega) rfl hI (by omega) (by omega)
