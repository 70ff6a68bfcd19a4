/-! 'throw new NoSuchElementException("text")': its constructor reaches its superclass's by another pool entry than the library's chains have. The words aside from the chain are taken off the library's own list, by place; the library's laws are called by name. -/
def vz_rest (own : String) (ic : Nat) (X : String) : List Cond := (Jvm.Bundle.ownAtoms own ic X []).drop 33
def vz_chain (X Y : String) (r : List String) (index : Nat) (bytes : ByteArray) : List Cond := Jvm.Bundle.passSAtoms X Y index bytes ++ Jvm.Bundle.chainSAtoms Y r
def vz_own (own : String) (ic : Nat) (X Y : String) (r : List String) (index : Nat) (bytes : ByteArray) : List Cond :=
  Jvm.Bundle.throwableAtoms ++ Jvm.Bundle.throwableSAtoms ++ vz_chain X Y r index bytes ++ vz_rest own ic X
def vz_atS (own : String) (ic : Nat) (X Y : String) (r : List String) (index : Nat) (bytes : ByteArray) : List Cond := (vz_own own ic X Y r index bytes).filter vx_no
section VZ
variable {args : Array Value} {s : State}
/-- a word aside from the chain, by its place -/
theorem vz_at {own X Y : String} {r : List String} {ic index : Nat} {bytes : ByteArray} (h : ∀ w ∈ vz_own own ic X Y r index bytes, w.before args s = true) (k : Nat) {w : Cond} (e : (vz_rest own ic X)[k]? = some w) : w.before args s = true :=
  h w (List.mem_append_right _ (List.mem_of_getElem? e))
/-- a word of the chain -/
theorem vz_ch {own X Y : String} {r : List String} {ic index : Nat} {bytes : ByteArray} (h : ∀ w ∈ vz_own own ic X Y r index bytes, w.before args s = true) : ∀ w ∈ vz_chain X Y r index bytes, w.before args s = true :=
  fun w hw => h w (List.mem_append_left _ (List.mem_append_right _ hw))
/-- the constructor itself, ahead of the library's chain -/
theorem vz_pass {pl : Platform} (hpl : pl.magicAccessors = ({} : Platform).magicAccessors) {top : MethodId} (htop : s.methodNamed? (Jvm.Bundle.initS Jvm.Bundle.tN) = some top) {X Y : String} {r : List String} {index : Nat} {bytes : ByteArray}
    (fX : Jvm.Bundle.fit X = true) (fY : Jvm.Bundle.fit Y = true) (fr : ∀ n ∈ r, Jvm.Bundle.fit n = true)
    (b0 : decode bytes 0 = .ok (.aload_n 0, 1)) (b1 : decode bytes 1 = .ok (.aload_n 1, 1)) (b2 : decode bytes 2 = .ok (.invokespecial index, 3)) (b5 : decode bytes 5 = .ok (.return_, 1))
    (h : ∀ w ∈ vz_chain X Y r index bytes, w.before args s = true) :
    ∃ (Q : PassC) (Qs : List PassC), Qs.length = r.length + 1 ∧ (∀ P, P ∈ Q :: Qs → P.LinksS pl s) ∧ PassesOn top ((Q :: Qs).map (·.toPassT)) ∧ s.methodNamed? (Jvm.Bundle.initS X) = some Q.m := by
  obtain ⟨Q, LQ, q1, q2⟩ := PassC.ofS_atoms (args := args) hpl (Jvm.Bundle.fit_spec fX).1 (Jvm.Bundle.fit_spec fY).2 b0 b1 b2 b5 (fun w hw => h w (List.mem_append_left _ hw))
  obtain ⟨A, As, n1, LA, LAs, a1, a2, a3⟩ := Jvm.Bundle.chainS (args := args) hpl htop r Y fY fr (fun w hw => h w (List.mem_append_right _ hw))
  rw [q2] at a1
  refine ⟨Q, A :: As, congrArg (· + 1) n1, ?_, ⟨Option.some.inj a1, a2, a3⟩, q1⟩
  intro P hP
  cases hP with
  | head => exact LQ
  | tail _ hP =>
    cases hP with
    | head => exact LA
    | tail _ hP => exact LAs P hP
/-- a method that the class leaves as it is is the one that is run -/
theorem vz_pick {l : Launch} {e : Env} (ha : l.admits e) {C : String} {cl : ClassId} {x : MethodName} {i : MethodId} (hC : s.vm.findClass C = some cl) (hi : s.methodNamed? x = some i)
    (hx : x.cls ≠ "java/lang/invoke/MethodHandle" ∧ x.cls ≠ "java/lang/invoke/VarHandle") (w : (Cond.selects C x x).before args s = true) : selectMethod e.platform s.vm cl i = .method i := by
  have w' : (Cond.selects C x x).holds args s none s [] = true := w
  obtain ⟨d, j, i', w1, w2, w3, w4, -⟩ := Cond.selects_spec w'
  rw [hC] at w1
  rw [State.methodFound?_of_named hi hx] at w2
  rw [hi] at w3
  injection w1 with w1
  injection w2 with w2
  injection w3 with w3
  rw [← w1, ← w2, ← w3] at w4
  exact (Launch.admits_selectMethod ha _ _ _).trans w4
/-- a field has a place of its own in the class's objects -/
def vz_L (s : State) (cl : ClassId) (k : Class) (f : Field) : Prop := k.instanceTypes[f.slot]? = some f.type ∧ ∃ d, Jmm.declares? s.vm f.slot (cl + 1) cl = some d ∧ d.2.name = f.name
theorem vz_L.apart {cl : ClassId} {k : Class} {f g : Field} (x : vz_L s cl k f) (y : vz_L s cl k g) {a b : String} (hf : f.name = a) (hg : g.name = b) (h : a ≠ b) : f.slot ≠ g.slot := by
  obtain ⟨-, d, x1, x2⟩ := x
  obtain ⟨-, d', y1, y2⟩ := y
  exact Cond.laysApart x1 y1 x2 y2 (fun q => h (hf.symm.trans (q.trans hg)))
/-- a place that Throwable's constructor doesn't write stays null -/
theorem vz_null {T : ThrowableT} {z : Cell} {a : Addr} {u v : RefV} {t b : Nat} (h : z.slots[b]? = some .null) (h1 : T.fCause.slot ≠ b) (h2 : T.fStack.slot ≠ b) (h3 : T.fSupp.slot ≠ b) : ((preparedCellV T z a u v).withEntry t).slots[b]? = some .null := by
  have put : ∀ (y : Cell) (i : Nat) (q : Value), i ≠ b → (y.setSlot i q).slots[b]? = y.slots[b]? := fun y i q hi => Array.getElem?_setIfInBounds_ne hi
  have ent : ∀ y : Cell, (y.withEntry t).slots = y.slots := fun y => rfl
  rw [ent, put _ _ _ h3, put _ _ _ h2, put _ _ _ h1]
  exact h
end VZ
section VZG
variable {p : Program} {l : Launch} {e : Env} {R : Room} {s : State} {m : MethodId} {args : Array Value} {below : List Frame} {meth : Method} {c : Code} {T : State} {cells slots : Nat}
/-- the statics' cell lies as it lay -/
theorem vz_static (X : Stand p l e R s m args below meth c T [] cells slots) {a : Addr} {z : Cell} (hz : s.heap[a]? = some z) (hi : z.vm.isStatics = true) : ∃ y : Cell, T.heap[a]? = some y ∧ y.vm ≠ .unknown ∧ ∀ i : Nat, y.slots[i]? = z.slots[i]? := by
  obtain ⟨y, y1, y2, -, y3⟩ := X.same.2.2.2.2.2 a z hz
  refine ⟨y, y1, ?_, fun i => y3 i (by simp)⟩
  intro hu
  have hv : y.vm = z.vm := by rw [y2]
  rw [← hv, hu] at hi
  cases hi
set_option maxHeartbeats 2000000 in
/-- 'invokespecial' of such a constructor on the new object, and 'athrow' behind it -/
theorem vz_go (X : Stand p l e R s m args below meth c T [] cells slots) (hexec : p.tables.exec = Jvm.exec) (htr : e.platform.stackTraces = false) {own cls Y0 : String} {r : List String} {ic index : Nat} {bytes : ByteArray}
    (hown : s.vm.findClass own = some m.cls) (fX : Jvm.Bundle.fit cls = true) (fY : Jvm.Bundle.fit Y0 = true) (fr : ∀ n ∈ r, Jvm.Bundle.fit n = true)
    (b0 : decode bytes 0 = .ok (.aload_n 0, 1)) (b1 : decode bytes 1 = .ok (.aload_n 1, 1)) (b2 : decode bytes 2 = .ok (.invokespecial index, 3)) (b5 : decode bytes 5 = .ok (.return_, 1))
    (h : ∀ w ∈ vz_own own ic cls Y0 r index bytes, w.before args s = true)
    {b sa : Addr} {cl : ClassId} {k : Class} (hcl : s.vm.findClass cls = some cl) (hk : s.vm.classes[cl]? = some k) (hT : T.heap[b]? = some (freshCell cl k)) (hnew : s.heap.size ≤ b)
    {q : Nat} {ls : Array Slot} {rest : List Value} (hls : ls.size = c.maxLocals) (d1 : decode c.code q = .ok (.invokespecial ic, 3)) (d2 : decode c.code (q + 3) = .ok (.athrow, 1))
    (hout : ∀ x ∈ c.exceptionTable.toList, covers x (q + 3) = false) (hRf : r.length + 4 < R.frames) (hRl : (rest.map fun v => v.category).sum + (13 * (r.length + 2) + 43) ≤ R.locals) (hlk : meth.locks = false) :
    ∃ U : State, Steps p.tables e below (T.setTop (F0 m q ls (.ref sa :: .ref b :: .ref b :: rest))) U ∧ U.status = .running ∧ Ended U below (.threw b) ∧ s.WarmedH U.vm ∧ s.sameButNew ({ U with vm := s.vm } : State) [] cells slots ∧
      ∃ ce, U.heap[b]? = some ce ∧ ce.vm = .none ∧ ce.cls = cl := by
  have hpl : e.platform.magicAccessors = ({} : Platform).magicAccessors := by rw [X.admits.platform]
  obtain ⟨T0, Z0, LT, -, YT⟩ := ThrowableC.of_atoms (args := args) (s := s) (pl := e.platform) (by rw [X.admits.platform]) (by rw [X.admits.platform]) hpl
    (fun w hw => h w (List.mem_append_left _ (List.mem_append_left _ (List.mem_append_left _ hw))))
  obtain ⟨Z, M, LZ, LM, hZ⟩ := Init0T.ofS_atoms (args := args) hpl LT YT (fun w hw => h w (List.mem_append_left _ (List.mem_append_left _ (List.mem_append_right _ hw))))
  obtain ⟨Q, Qs, nQ, LQ, pQ, hQ⟩ := vz_pass (args := args) hpl hZ fX fY fr b0 b1 b2 b5 (vz_ch h)
  obtain ⟨d, k', i1, i2, ho, -, -, -⟩ := Cond.instantiable_spec (vz_at h 1 rfl)
  rw [hcl] at i1
  injection i1 with i1
  rw [← i1, hk] at i2
  injection i2 with i2
  rw [← i2] at ho
  obtain ⟨z, z1, z2⟩ := YT.statics
  obtain ⟨y, y1, y2, y3⟩ := vz_static X z1 z2
  obtain ⟨u0, hu⟩ := Cond.staticRefV YT.unassigned LT.unassignedStatic LT.statics z1 z2 (vz_at h 9 rfl)
  obtain ⟨sn, hs⟩ := Cond.staticRefV YT.sentinel LT.sentinelStatic LT.statics z1 z2 (vz_at h 10 rfl)
  have hne : T0.aS ≠ b := by
    have := (Array.getElem?_eq_some_iff.mp z1).1
    intro he
    rw [he] at this
    omega
  obtain ⟨iM, hM⟩ := YT.msg
  have fC : vz_L s cl k T0.fCause := Cond.laysAt hcl hk YT.cause (vz_at h 5 rfl)
  have fS : vz_L s cl k T0.fStack := Cond.laysAt hcl hk YT.stack (vz_at h 6 rfl)
  have fP : vz_L s cl k T0.fSupp := Cond.laysAt hcl hk YT.supp (vz_at h 7 rfl)
  have fM : vz_L s cl k T0.fMsg := Cond.laysAt hcl hk hM (vz_at h 8 rfl)
  obtain ⟨cB, iB, fl, t1, t2, t3, t4, -, t6, t7, t8⟩ := Cond.ownField (t := .object "java/lang/Object") YT.found LT.cls (by decide +kernel) (vz_at h 11 rfl) (vz_at h 12 rfl) e.platform hpl
  have fB : vz_L s cl k fl := Cond.laysAt hcl hk t8 (vz_at h 13 rfl)
  have nB : (freshCell cl k).slots[fl.slot]? = some .null := by rw [fresh_default fB.1, t7]; rfl
  have sk : SkipFacts T0 e.platform s (fun u => u) u0 ((preparedCellV T0.toThrowableT (freshCell cl k) b u0 sn).withEntry T.cur) :=
    ⟨⟨cB, iB, fl⟩, ⟨t1, t2, t3, t4⟩, vz_null nB (fC.apart fB YT.causeName t6 (by decide)) (fS.apart fB YT.stackName t6 (by decide)) (fP.apart fB YT.suppName t6 (by decide)), fun _ _ => rfl⟩
  obtain ⟨tm, -, -, -, vm₁, j1, -, -, -, -, -, -, -, j2, into⟩ := Steps.initColdS (tb := p.tables) (e := e) (below := below) (s := s) (U := T) X.here hexec X.warmed hpl hown (t := Jvm.Bundle.initS cls) rfl rfl (Jvm.Bundle.fit_spec fX).2
    (vz_at h 0 rfl) (vz_ch h _ (List.mem_append_left _ (List.mem_of_getElem? (i := 0) rfl))) (bytes := bytes) (maxL := 2) (vz_ch h _ (List.mem_append_left _ (List.mem_of_getElem? (i := 1) rfl)))
    (f := F0 m q ls (.ref sa :: .ref b :: .ref b :: rest)) rfl (a := b) (msg := .ref sa) (rest := .ref b :: rest) rfl d1
  rw [hQ] at j1
  injection j1 with j1
  rw [← j1] at into
  obtain ⟨vm₂, X₂, walk⟩ := (X.noted j2).ctorMessageOffV hexec (g := F0 m q ls (.ref b :: rest)) rfl hls T0 LT Z LZ M LM (Q :: Qs) LQ pQ (u0 := u0) (sen := sn) (self := b) (msg := .ref sa) rfl (cell := freshCell cl k) (cellS := y)
    hT (fun _ q => nomatch q) (fun q => nomatch q) rfl rfl (vz_pick X.admits hcl YT.fill0 (by decide) (vz_at h 3 rfl)) (vz_pick X.admits hcl YT.fill (by decide) (vz_at h 4 rfl)) y1 hne y2 ((y3 _).trans hu) ((y3 _).trans hs)
    (Takes.of_laid hk ho fC.1 (by rw [YT.causeType]; rfl)) (Takes.of_laid hk ho fS.1 (by rw [YT.stackType]; exact fits_refV_array _ u0)) (Takes.of_laid hk ho fP.1 (by rw [YT.suppType]; exact fits_refV_object _ sn))
    (Takes.of_laid hk ho fM.1 (by rw [YT.msgType]; rfl)) YT.objLocals sk htr [] d1 (by rw [List.length_cons, nQ]; omega)
    (by
      have r0 : (F0 m q ls (.ref b :: rest)).monitorRoom = 0 := rfl
      have r1 : (Value.ref b).category = 1 := rfl
      rw [r0, List.length_cons, nQ, List.map_cons, List.sum_cons, r1]
      omega)
  obtain ⟨v1, v2, v3, v4, v5⟩ := X₂.athrowLeaves hexec (g := F0 m (q + 3) ls (.ref b :: rest)) rfl rfl rfl hout rfl d2 hlk
  refine ⟨_, into _ (fun acts => ?_), v2, v3, v4, v5.weaken (fun x hx hlt => ?_) (Nat.le_refl _) (Nat.le_refl _), _, heapAt_setCell_self _ (Array.getElem?_eq_some_iff.mp hT).1, rfl, rfl⟩
  · rw [doInvoke_state]
    exact walk _ v1
  · have hx' : x ∈ [T0.fCause, T0.fStack, T0.fSupp, T0.fStack, T0.fMsg].map (fun f : Field => (⟨b, f.slot⟩ : Loc)) := hx
    obtain ⟨f, -, rfl⟩ := List.mem_map.mp hx'
    exact absurd hlt (Nat.not_lt.mpr hnew)
end VZG
section VZW
variable {p : Program} {l : Launch} {e : Env} {R : Room} {s : State} {m : MethodId} {args : Array Value} {below : List Frame} {meth : Method} {c : Code} {H : Heap} {locs : List Loc} {cells slots : Nat}
variable {free : Addr → Prop} {ls : Array Slot} {rest : List Value} {Qc : Array Value → State → Outcome → State → Prop} {XC : String → State → State → Prop}
/-- 'throw new E("text")' by such a constructor -/
theorem vz_throwS {cc : ByteArray} {pc : Nat} (hexec : p.tables.exec = Jvm.exec) (hb : c.code = cc) (hl : l.stackTraces = false) {own cls Y0 text : String} {r : List String} {bytes : ByteArray} {ik is ic index mc ms sa : Nat} {A : Nat → Prop} {lw : Nat}
    (hown : s.vm.findClass own = some m.cls) (hcls : Jvm.Bundle.fit cls = true) (hY0 : Jvm.Bundle.fit Y0 = true) (hnames : ∀ n ∈ r, Jvm.Bundle.fit n = true)
    (b0 : decode bytes 0 = .ok (.aload_n 0, 1)) (b1 : decode bytes 1 = .ok (.aload_n 1, 1)) (b2 : decode bytes 2 = .ok (.invokespecial index, 3)) (b5 : decode bytes 5 = .ok (.return_, 1))
    (hk : (Cond.classLink own ik cls).before args s = true) (hini : (Cond.initialized cls).before args s = true) (hstr : vk_R own is text sa s) (hat : ∀ w ∈ vz_atS own ic cls Y0 r index bytes, w.before args s = true)
    (hgood : ∀ w ∈ Cond.classLink own ik cls :: Cond.initialized cls :: vz_atS own ic cls Y0 r index bytes, vx_ot w = true)
    (hU : vx_Zq Jvm.Bundle.tN "UNASSIGNED_STACK" Jvm.Bundle.steD A s s.heap) (hN : vx_Zq Jvm.Bundle.tN "SUPPRESSED_SENTINEL" Jvm.Bundle.listD A s s.heap) (hS : va_S A s.heap H locs) (hsize : ls.size = c.maxLocals)
    (d0 : decode cc pc = .ok (.new ik, 3)) (d3 : decode cc (pc + 3) = .ok (.dup, 1)) (d4 : (decode cc (pc + 4) = .ok (.ldc is, 2) ∧ lw = 2) ∨ (decode cc (pc + 4) = .ok (.ldc_w is, 3) ∧ lw = 3)) (d6 : decode cc (pc + 4 + lw) = .ok (.invokespecial ic, 3)) (d9 : decode cc (pc + 4 + lw + 3) = .ok (.athrow, 1))
    (hout : ∀ x ∈ c.exceptionTable.toList, covers x (pc + 4 + lw + 3) = false)
    (hRframes : r.length + 4 < R.frames) (hRlocals : (rest.map fun v => v.category).sum + (13 * (r.length + 2) + 43) ≤ R.locals) (hRcells : cells + 1 ≤ R.cells) (hRslots : slots + 6 ≤ R.slots) (hlocks : meth.locks = false)
    (hx : ∀ t : State, s.vm.Alike t.vm → H.size ≤ t.heap.size → (∀ q : Nat, q < H.size → t.heap[q]? = H[q]?) → XC cls s t)
    (hf : ∀ z ∈ locs, free z.base) (hc : cells + 1 ≤ mc) (hs : slots + 6 ≤ ms) :
    W p l e R s m args below meth c H locs cells slots (vx_MQ below Qc XC args s mc ms free) (F0 m pc ls rest) := by
  intro T hT X
  have htr : e.platform.stackTraces = false := (show e.platform.stackTraces = l.stackTraces by rw [X.admits.platform]).trans hl
  have Y := vx_rebase X (R' := { frames := R.frames, locals := R.locals, cells := 1, slots := 6 }) (Nat.le_refl _) (Nat.le_refl _) hRcells hRslots
  obtain ⟨s', hA⟩ : ∃ z, z = (T.setVm s.vm).setFrames (.invoking m args :: below) := ⟨_, rfl⟩
  rw [← hA] at Y
  have hvm : s'.vm = s.vm := by rw [hA]; rfl
  have hhp : s'.heap = H := by rw [hA]; exact hT
  have hW0 : s.WarmedH s'.vm := by rw [hvm]; exact State.WarmedH.refl s
  have hat' : ∀ w ∈ vz_atS own ic cls Y0 r index bytes, w.before args s' = true := fun w hw => vx_ot_at hW0 hvm.symm (hgood w (List.mem_cons_of_mem _ (List.mem_cons_of_mem _ hw))) (hat w hw)
  have hk' : (Cond.classLink own ik cls).before args s' = true := vx_ot_at hW0 hvm.symm (hgood _ List.mem_cons_self) hk
  have hini' : (Cond.initialized cls).before args s' = true := vx_ot_at hW0 hvm.symm (hgood _ (List.mem_cons_of_mem _ List.mem_cons_self)) hini
  have hU' : vx_Zq Jvm.Bundle.tN "UNASSIGNED_STACK" Jvm.Bundle.steD A s' s'.heap := by rw [hhp]; exact vx_Zq.moved hW0.alike (hU.kept hS.2.1)
  have hN' : vx_Zq Jvm.Bundle.tN "SUPPRESSED_SENTINEL" Jvm.Bundle.listD A s' s'.heap := by rw [hhp]; exact vx_Zq.moved hW0.alike (hN.kept hS.2.1)
  have h : ∀ w ∈ vz_own own ic cls Y0 r index bytes, w.before args s' = true := vx_own hat' (vx_isRefq hU'.1) (vx_isRefq hN'.1) hU'.2.word hN'.2.word
  have hown' : s'.vm.findClass own = some m.cls := by rw [hvm]; exact hown
  have hins : (Cond.instantiable cls 6).before args s' = true := vz_at h 1 rfl
  obtain ⟨vm₁, cX, kX, hfX, hkX, -, -, X₁, st1⟩ := Y.newCold hexec (own := own) (C := cls) (index := ik) (n := 6) hown' hk' hins hini'
    (g := F0 m pc ls rest) rfl (by rw [hb]; exact d0) (Nat.le_refl _) (Nat.le_refl _)
  generalize hT1 : (T.setVm vm₁).pushCell { cls := cX, slots := kX.instanceTypes.map defaultValue, vm := .none } = T1 at X₁ st1
  have hcat : (Value.ref T.heap.size).category = 1 := rfl
  have hcellA : T1.heap[T.heap.size]? = some (freshCell cX kX) := by rw [← hT1]; exact State.heap_pushCell_size _ _
  have d3' : decode c.code (pc + 3) = .ok (.dup, 1) := by rw [hb]; exact d3
  have hstr' : vk_R own is text sa s' := vk_R.warm hW0 hstr
  obtain ⟨U, hsteps, hrun, hend, hW, hsame, ce, hce, hcv, hcc⟩ := vz_go X₁ hexec htr hown' hcls hY0 hnames b0 b1 b2 b5 h hfX hkX hcellA (by rw [hhp, hT]; exact Nat.le_refl _) (sa := sa) (q := pc + 4 + lw) (rest := rest) hsize
    (by rw [hb]; exact d6) (by rw [hb]; exact d9) hout hRframes hRlocals hlocks
  obtain ⟨f1, f2⟩ := vx_frame hsame
  rw [hhp] at f1 f2
  have hWs : s.WarmedH U.vm := State.WarmedH.trans hW0 hW
  have hcl : s.vm.findClass cls = some ce.cls := by
    rw [← hvm, hfX, hcc]
  have hall : s.sameButNew ({ U with vm := s.vm } : State) locs mc ms := by
    subst hA
    obtain ⟨e1, e2⟩ := hsame
    rw [State.setFrames_setFrames] at e1
    have h2 : (T.setVm s.vm).sameButNew ({ U with vm := s.vm } : State) [] (0 + 1) (0 + 6) := ⟨e1, e2⟩
    have h3 := X.same.trans h2
    rw [List.append_nil] at h3
    exact h3.mono hc hs
  refine ⟨U, ?_, .threw T.heap.size, hrun, hend, Or.inr ⟨T.heap.size, rfl, cls, ce, locs, hx U hWs.alike f1 (fun q hq => f2 q hq (fun z hz => nomatch hz)), hce, hcv, hcl, hWs, hall, hf⟩⟩
  refine st1 _ ?_
  show Steps p.tables e below (T1.setTop { method := m, pc := pc + 3, locals := ls, stack := .ref T.heap.size :: rest, locked := none }) _
  jvm_step X₁.here [X₁.here.top, hexec, d3', Value.category]
  rcases d4 with ⟨d4, rfl⟩ | ⟨d4, rfl⟩
  · have d4' : decode c.code (pc + 4) = .ok (.ldc is, 2) := by rw [hb]; exact d4
    exact X₁.ldcString hexec (own := own) (text := text) (index := is) (a := sa) hown' hstr'.1 hstr'.2
      (g := { method := m, pc := pc + 4, locals := ls, stack := .ref T.heap.size :: .ref T.heap.size :: rest, locked := none }) rfl d4' _ hsteps
  · have d4' : decode c.code (pc + 4) = .ok (.ldc_w is, 3) := by rw [hb]; exact d4
    exact X₁.ldcStringW hexec (own := own) (text := text) (index := is) (a := sa) hown' hstr'.1 hstr'.2
      (g := { method := m, pc := pc + 4, locals := ls, stack := .ref T.heap.size :: .ref T.heap.size :: rest, locked := none }) rfl d4' _ hsteps
end VZW
