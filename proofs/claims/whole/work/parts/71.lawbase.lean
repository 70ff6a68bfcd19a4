/-! the law's own rows: wrappers with a table, their call, the script -/
section LB
variable {G : Gt} {X : Cxt} {Q : State → Prop} {cc : ByteArray} {own : String} {Ts : List Cond} {rm : Room} {nL n1 n2 pc : Nat} {lv : List (Nat × Value)} {st : List Value} {μ : Mem}
/-- the frame at pc with something of class E thrown over it -/
def JX (G : Gt) (X : Cxt) (Q : State → Prop) (nL n1 n2 : Nat) (E : String) (pc : Nat) (lv : List (Nat × Value)) (st : List Value) (μ : Mem) : Prop :=
  ∀ (H : Heap) (locs : List Loc) (ls : Array Slot) (q9 : Addr) (c9 : Cell), lv_has ls nL lv → va_P (gD G) vwCl (world G μ) H → va_S (A_ G) (xs X).heap H locs → H[q9]? = some c9 → c9.vm = .none → (xs X).vm.findClass E = some c9.cls → vx_W (xp X) (xl X) (xe X) (xR X) (xs X) (xm X) (xa X) (xb X) (xt X) (xc X) H locs n1 n2 Q (F0 (xm X) pc ls st) q9
theorem jx_catch (C : Cx G X cc own Ts nL rm) {E name : String} (pre : List ExceptionTableEntry) (x : ExceptionTableEntry) (suf : List ExceptionTableEntry) (hsplit : (xc X).exceptionTable.toList = pre ++ x :: suf)
    (hpass : ∀ z ∈ pre, covers z pc = false ∨ (z.catchType ≠ 0 ∧ ∃ nm : String, (Cond.classLink own z.catchType nm).before (xa X) (xs X) = true ∧ va_Nc E nm (xs X))) (hx : covers x pc = true) (h0 : x.catchType ≠ 0)
    (hlink : Cond.classLink own x.catchType name ∈ Ts) (hcast : (E, name) ∈ nwC) (kk : ∀ q9 : Nat, J G X Q nL n1 n2 x.handlerPc lv [.ref q9] μ) : JX G X Q nL n1 n2 E pc lv st μ :=
  fun H locs ls q9 c9 h1 h2 h3 hc hv hcl => vx_catch C.1.2.2.2.1 pre x suf hsplit hpass hx h0 (C.1.2.2.2.2 _ hlink) (va_Nw.use rfl (C.2.1.2.2.2.2.2.1 _ hcast)) hc hv hcl (kk q9 H locs ls h1 h2 h3)
theorem j_wVI (C : Cx G X cc own Ts nL rm) {CC : String} {T : u_T} {N ci index maxL mc ms n k1 k2 : Nat} {y : MethodName} {bytes : ByteArray} {ret : Option FieldType} {ws ws' : List Cond} {rm' : Room} {As rest : List Value} {fs : List (Option Nat)} {Φ : Prop} {post : Int32 → Mem → Prop} {xq : XP} (k : Nat) (hM : XI G (xl X) y ws rm' mc ms (.ref (ad G k) :: As) μ Φ post xq) (hΦ : Φ) (hG : GoodIn Ts (wsV own index CC y ws)) (hwd : ws = Cond.code y bytes maxL ret :: ws') (hcm : rm'.cells = mc ∧ rm'.slots = ms) (hy : y.cls = CC ∧ y.cls ≠ "java/lang/invoke/MethodHandle" ∧ y.cls ≠ "java/lang/invoke/VarHandle" ∧ (parseMethodDescriptor y.desc).map (fun d => d.parameters.length) = some n) (hR : rm'.frames + 1 ≤ rm.frames ∧ 8 + (maxL + 11) + rm'.locals ≤ rm.locals) (hr : n1 + mc ≤ rm.cells ∧ n2 + ms ≤ rm.slots)
    (hs : sh k = .inl (ci, fs)) (hk : k < 77) (hc : vwCl[ci]? = some (CC, T, N)) (hn : As.length = n) (hst : st = As.reverse ++ .ref (ad G k) :: rest) (hw : (rest.map fun v => v.category).sum ≤ 8) (hd : decode cc pc = .ok (.invokevirtual index, 3)) (e1 : n1 + mc = k1) (e2 : n2 + ms = k2) (kx : ∀ E μ', xq E μ' → JX G X Q nL k1 k2 E pc lv rest μ') (kk : ∀ r μ', post r μ' → J G X Q nL k1 k2 (pc + 3) lv (.int r :: rest) μ') : J G X Q nL n1 n2 pc lv st μ := by
  subst hst e1 e2
  intro H locs ls h1 h2 h3
  exact vx_calli (vx_runV (As := As) (rest := rest) C.1 hM (cwV n C.1.2.2.2.2 hG hwd hcm.1 hcm.2 hy ⟨by rw [C.2.2.2.2.2]; exact hR.1, by rw [C.2.2.2.2.2]; exact hR.2⟩) ⟨pre_blind, C.recv hs hk hc h2, fun U hU hW => ⟨rfl, C.pre hΦ h2 h3 hU hW⟩⟩ rfl hn h1.1 rfl (lv_room hw) hd ⟨by rw [C.2.2.2.2.2]; exact hr.1, by rw [C.2.2.2.2.2]; exact hr.2⟩) h3 (fun q _ h => h) (fun q h => h) (fun q _ h => h) (fun E c9 q9 u t H1 locs1 ht hvm hp hB hz hk1 hS hce hcv hcl => kx E u hB.1 H1 locs1 ls q9 c9 h1 (by rw [← ht]; exact hB.2) hS hce hcv hcl) (fun r u t H1 locs1 ht hvm hp hB hz hk1 hS => kk r u hp H1 locs1 ls h1 (by rw [← ht]; exact hB) hS)
/-- a wrapper's call -/
theorem j_cWI (C : Cx G X cc own Ts nL rm) {index maxL mc ms n k1 k2 : Nat} {y : MethodName} {bytes : ByteArray} {ret : Option FieldType} {hh : List (Nat × Nat × Nat × Nat)} {ws ws' : List Cond} {rm' : Room} {As rest : List Value} {Φ : Prop} {post : Int32 → Mem → Prop} (hM : MI G (xl X) y ws rm' mc ms As μ Φ post) (hΦ : Φ) (hG : GoodIn Ts (va_wsS own index y ws)) (hwd : ws = Cond.codeWith y bytes maxL ret hh :: ws') (hcm : rm'.cells = mc ∧ rm'.slots = ms) (hy : y.cls ≠ "java/lang/invoke/MethodHandle" ∧ y.cls ≠ "java/lang/invoke/VarHandle" ∧ (parseMethodDescriptor y.desc).map (fun d => d.parameters.length) = some n) (hR : rm'.frames + 1 ≤ rm.frames ∧ 8 + (maxL + 11) + rm'.locals ≤ rm.locals) (hr : n1 + mc ≤ rm.cells ∧ n2 + ms ≤ rm.slots)
    (hn : As.length = n) (hst : st = As.reverse ++ rest) (hw : (rest.map fun v => v.category).sum ≤ 8) (hd : decode cc pc = .ok (.invokestatic index, 3)) (e1 : n1 + mc = k1) (e2 : n2 + ms = k2) (kk : ∀ r μ', post r μ' → J G X Q nL k1 k2 (pc + 3) lv (.int r :: rest) μ') : J G X Q nL n1 n2 pc lv st μ := by
  subst hst e1 e2
  intro H locs ls h1 h2 h3
  exact va_calli (vx_runSW (As := As) (rest := rest) C.1 hM (vx_cwSW n C.1.2.2.2.2 hG hwd hcm.1 hcm.2 hy ⟨by rw [C.2.2.2.2.2]; exact hR.1, by rw [C.2.2.2.2.2]; exact hR.2⟩) ⟨pre_blind, fun U hU hW => ⟨rfl, C.pre hΦ h2 h3 hU hW⟩⟩ rfl hn h1.1 rfl (lv_room hw) hd ⟨by rw [C.2.2.2.2.2]; exact hr.1, by rw [C.2.2.2.2.2]; exact hr.2⟩) h3 (fun q _ h => h) (fun q h => h) (fun r u t H1 locs1 ht hvm hp hB hz hk1 hS => kk r u hp H1 locs1 ls h1 (by rw [← ht]; exact hB) hS)
/-- the script: read only, older than all of ours -/
def Scr (G : Gt) (X : Cxt) (b L : Nat) (xs' : Nat → Int32) : Prop := va_X b L xs' (xs X) (xs X).heap ∧ b < (xs X).heap.size ∧ ¬ A_ G b
theorem j_sld (C : Cx G X cc own Ts nL rm) {b L : Nat} {xs' : Nat → Int32} (hX : Scr G X b L xs') {i : Int32} (hin : vp_in i L) (hd : decode cc pc = .ok (.iaload, 1)) (kk : J G X Q nL n1 n2 (pc + 1) lv (.int (xs' (ix i)) :: st) μ) : J G X Q nL n1 n2 pc lv (.int i :: .ref b :: st) μ :=
  fun H locs ls h1 h2 h3 => va_sld C.1.1 C.1.2.1 hX.1 hX.2.1 hX.2.2 h3 hin hd (kk H locs ls h1 h2 h3)
theorem j_slen (C : Cx G X cc own Ts nL rm) {b L : Nat} {xs' : Nat → Int32} (hX : Scr G X b L xs') (hd : decode cc pc = .ok (.arraylength, 1)) (kk : J G X Q nL n1 n2 (pc + 1) lv (.int (nI L) :: st) μ) : J G X Q nL n1 n2 pc lv (.ref b :: st) μ :=
  fun H locs ls h1 h2 h3 => va_slen C.1.1 C.1.2.1 hX.1 hX.2.1 hX.2.2 h3 hd (kk H locs ls h1 h2 h3)
end LB
theorem mW_of {l : Launch} {G : Gt} {y : MethodName} {ws ws' : List Cond} {rm : Room} {cc : ByteArray} {maxL mc ms : Nat} {ty : FieldType} {hh : List (Nat × Nat × Nat × Nat)} {av : List Value} {lv0 : List (Nat × Value)} {μ : Mem} {Φ : Prop} {post : Int32 → Mem → Prop} (hD : Dj G) (hy : plainName y.cls = true) (hw : ws = Cond.codeWith y cc maxL (some ty) hh :: ws') (hav : (lg_sl av).length ≤ maxL) (hlv : lv_args 0 av = lv0)
    (body : ∀ (X : Cxt) (Q : State → Prop), xl X = l → Cx G X cc y.cls ws maxL rm → RetI G X Q post ty mc ms → (xc X).exceptionTable.toList = tableOf hh → Φ → J G X Q maxL 0 0 0 lv0 [] μ) : MI G l y ws rm mc ms av μ Φ post := by
  refine va_MetW (cc := cc) (maxL := maxL) (ret := some ty) (hh := hh) hy hw ?_
  intro p e s m args below meth c s₁ B hml hv
  obtain ⟨rfl, hΦ, hP, hK, hZ⟩ := hv
  have hl := lv_entry av (n := maxL) hav
  rw [lg_entry_eq]
  rw [hlv] at hl
  have hts := atoms_spec (ws := ws) B.pre
  exact body (p, l, e, rm, s, m, av.toArray, below, meth, c) _ rfl ⟨⟨B.exec, B.bytes, hml, findClass_of_methodNamed B.named, hts⟩, hK, hD, hZ, B.notSynchronized, rfl⟩ ⟨fun H locs g h => h, B.returns⟩ (vx_table (x := y) B (hts _ (by rw [hw]; exact List.mem_cons_self))) hΦ s.heap [] _ hl hP va_S.rf
theorem in01 : vp_in 0 1 := by unfold vp_in; decide
