/-! constructors: worlds that grow -/
def tyc (c : Nat → ClassId) : List (ClassId × FieldType) := [(c 0, .int), (c 1, .byte), (c 2, .boolean), (c 3, .long), (c 4, .array .int)]
theorem va_AOA.moved {t : FieldType} {s U : State} (h : s.vm.Alike U.vm) (hZ : va_AOA t s) : va_AOA t U := by
  have h2 : (Cond.arrayOver (.array t)).before #[] (s.setVm U.vm) = true := by rw [Cond.arrayOver_setVmC h]; exact hZ
  unfold va_AOA
  simp only [Cond.before, Cond.holds, Cond.value, State.vm_setVm] at h2 ⊢
  exact h2
def KC (D : va_G) (c : Nat → ClassId) (U : State) : Prop := va_K D vwCl (tyc c) U ∧ (∀ q ∈ nwM, va_Nw (.methodLinkNest q.1 q.2.1 q.2.2.1 q.2.2.2) U) ∧ va_AOA .int U
theorem KC.warm {D : va_G} {c : Nat → ClassId} {s U : State} (hW : s.WarmedH U.vm) (h : KC D c s) : KC D c U := ⟨va_K.moved hW.alike h.1, fun q hq => va_Nw.warmM hW (h.2.1 q hq), va_AOA.moved hW.alike h.2.2⟩
theorem KC.same {D : va_G} {c : Nat → ClassId} {s U : State} (hv : U.vm = s.vm) (h : KC D c s) : KC D c U := ⟨va_K.moved (by rw [hv]; exact Vm.Alike.refl s.vm) h.1, fun q hq => va_Nw.same rfl hv.symm (h.2.1 q hq), va_AOA.moved (by rw [hv]; exact Vm.Alike.refl s.vm) h.2.2⟩
def JC (D : va_G) (A : Nat → Prop) (X : Cxt) (Q : State → Prop) (nL n1 n2 pc : Nat) (lv : List (Nat × Value)) (st : List Value) (ws : va_W) : Prop :=
  ∀ (H : Heap) (locs : List Loc) (ls : Array Slot), lv_has ls nL lv → va_P D vwCl ws H → va_D A ws → va_S A (xs X).heap H locs → W (xp X) (xl X) (xe X) (xR X) (xs X) (xm X) (xa X) (xb X) (xt X) (xc X) H locs n1 n2 Q (F0 (xm X) pc ls st)
def CG (D : va_G) (c : Nat → ClassId) (A : Nat → Prop) (X : Cxt) (cc : ByteArray) (own : String) (Ts : List Cond) (nL : Nat) (rm : Room) : Prop :=
  CallFix (xp X) (xm X) (xc X) cc nL (xs X) (xa X) Ts own ∧ KC D c (xs X) ∧ (∀ q, (xs X).heap.size ≤ q → A q) ∧ (xt X).locks = false ∧ xR X = rm
section CGR
variable {D : va_G} {c : Nat → ClassId} {A : Nat → Prop} {X : Cxt} {Q : State → Prop} {cc : ByteArray} {own : String} {Ts : List Cond} {rm : Room} {nL n1 n2 pc : Nat} {lv : List (Nat × Value)} {st : List Value} {ws : va_W}
theorem g_eq {ws' : va_W} (h : ws = ws') (k : JC D A X Q nL n1 n2 pc lv st ws') : JC D A X Q nL n1 n2 pc lv st ws := by rw [h]; exact k
theorem g_widen {k1 k2 : Nat} (a1 : n1 ≤ k1) (a2 : n2 ≤ k2) (k : JC D A X Q nL k1 k2 pc lv st ws) : JC D A X Q nL n1 n2 pc lv st ws := fun H locs ls h1 h2 h3 h4 => W.widen a1 a2 (k H locs ls h1 h2 h3 h4)
theorem g_iconst (C : CG D c A X cc own Ts nL rm) {n : Int} {v : Int32} (hd : decode cc pc = .ok (.iconst n, 1)) (hv : Int32.ofInt n = v) (k : JC D A X Q nL n1 n2 (pc + 1) lv (.int v :: st) ws) : JC D A X Q nL n1 n2 pc lv st ws := fun H locs ls h1 h2 h3 h4 => lv_iconst C.1.1 C.1.2.1 hd hv (k H locs ls h1 h2 h3 h4)
theorem g_bipush (C : CG D c A X cc own Ts nL rm) {n : Int} {v : Int32} (hd : decode cc pc = .ok (.bipush n, 2)) (hv : (Int8.ofInt n).toInt32 = v) (k : JC D A X Q nL n1 n2 (pc + 2) lv (.int v :: st) ws) : JC D A X Q nL n1 n2 pc lv st ws := fun H locs ls h1 h2 h3 h4 => lv_bipush C.1.1 C.1.2.1 hd hv (k H locs ls h1 h2 h3 h4)
theorem g_sipush (C : CG D c A X cc own Ts nL rm) {n : Int} {v : Int32} (hd : decode cc pc = .ok (.sipush n, 3)) (hv : (Int16.ofInt n).toInt32 = v) (k : JC D A X Q nL n1 n2 (pc + 3) lv (.int v :: st) ws) : JC D A X Q nL n1 n2 pc lv st ws := fun H locs ls h1 h2 h3 h4 => lv_sipush C.1.1 C.1.2.1 hd hv (k H locs ls h1 h2 h3 h4)
theorem g_aload_n (C : CG D c A X cc own Ts nL rm) {i : Fin 4} {x : Nat} (q : Nat) (hd : decode cc pc = .ok (.aload_n i, 1)) (hq : lv[q]? = some ((i : Nat), .ref x)) (k : JC D A X Q nL n1 n2 (pc + 1) lv (.ref x :: st) ws) : JC D A X Q nL n1 n2 pc lv st ws := fun H locs ls h1 h2 h3 h4 => lv_aload_n C.1.1 C.1.2.1 hd rfl (lv_at h1 q hq) (k H locs ls h1 h2 h3 h4)
theorem g_iload_n (C : CG D c A X cc own Ts nL rm) {i : Fin 4} {x : Int32} (q : Nat) (hd : decode cc pc = .ok (.iload_n i, 1)) (hq : lv[q]? = some ((i : Nat), .int x)) (k : JC D A X Q nL n1 n2 (pc + 1) lv (.int x :: st) ws) : JC D A X Q nL n1 n2 pc lv st ws := fun H locs ls h1 h2 h3 h4 => lv_iload_n C.1.1 C.1.2.1 hd rfl (lv_at h1 q hq) (k H locs ls h1 h2 h3 h4)
theorem g_istore_n (C : CG D c A X cc own Ts nL rm) {i : Fin 4} {x : Int32} {lv' : List (Nat × Value)} (hd : decode cc pc = .ok (.istore_n i, 1)) (hn : (i : Nat) < nL) (hw : lsW lv = true) (hl : lst i (.int x) lv = lv') (k : JC D A X Q nL n1 n2 (pc + 1) lv' st ws) : JC D A X Q nL n1 n2 pc lv (.int x :: st) ws := fun H locs ls h1 h2 h3 h4 => lv_istore_n C.1.1 C.1.2.1 hd rfl h1 hn rfl (fun ls' h' => k H locs ls' (lst_has hw hl h') h2 h3 h4)
theorem g_istore (C : CG D c A X cc own Ts nL rm) {i : Nat} {x : Int32} {lv' : List (Nat × Value)} (hd : decode cc pc = .ok (.istore i, 2)) (hn : i < nL) (hw : lsW lv = true) (hl : lst i (.int x) lv = lv') (k : JC D A X Q nL n1 n2 (pc + 2) lv' st ws) : JC D A X Q nL n1 n2 pc lv (.int x :: st) ws := fun H locs ls h1 h2 h3 h4 => lv_istore C.1.1 C.1.2.1 hd h1 hn rfl (fun ls' h' => k H locs ls' (lst_has hw hl h') h2 h3 h4)
theorem g_astore_n (C : CG D c A X cc own Ts nL rm) {i : Fin 4} {x : Nat} {lv' : List (Nat × Value)} (hd : decode cc pc = .ok (.astore_n i, 1)) (hn : (i : Nat) < nL) (hw : lsW lv = true) (hl : lst i (.ref x) lv = lv') (k : JC D A X Q nL n1 n2 (pc + 1) lv' st ws) : JC D A X Q nL n1 n2 pc lv (.ref x :: st) ws := fun H locs ls h1 h2 h3 h4 => lv_astore_n C.1.1 C.1.2.1 hd rfl h1 hn rfl (fun ls' h' => k H locs ls' (lst_has hw hl h') h2 h3 h4)
theorem g_iinc (C : CG D c A X cc own Ts nL rm) {i : Nat} {n : Int} {x v : Int32} {lv' : List (Nat × Value)} (q : Nat) (hd : decode cc pc = .ok (.iinc i n, 3)) (hq : lv[q]? = some (i, .int x)) (hv : x + Int32.ofInt n = v) (hn : i < nL) (hw : lsW lv = true) (hl : lst i (.int v) lv = lv') (k : JC D A X Q nL n1 n2 (pc + 3) lv' st ws) : JC D A X Q nL n1 n2 pc lv st ws := fun H locs ls h1 h2 h3 h4 => lv_iinc C.1.1 C.1.2.1 hd h1 hq hv hn rfl (fun ls' h' => k H locs ls' (lst_has hw hl h') h2 h3 h4)
theorem g_goto (C : CG D c A X cc own Ts nL rm) {off : Int} (tgt : Nat) (hd : decode cc pc = .ok (.goto off, 3)) (ht : (pc : Int) + off = (tgt : Int)) (k : JC D A X Q nL n1 n2 tgt lv st ws) : JC D A X Q nL n1 n2 pc lv st ws := fun H locs ls h1 h2 h3 h4 => lv_goto C.1.1 C.1.2.1 hd ht (k H locs ls h1 h2 h3 h4)
theorem g_icmp_ge (C : CG D c A X cc own Ts nL rm) {x y : Int32} {off : Int} (tgt : Nat) (hd : decode cc pc = .ok (.if_icmp .ge off, 3)) (ht : (pc : Int) + off = (tgt : Int)) (kt : y ≤ x → JC D A X Q nL n1 n2 tgt lv st ws) (kf : ¬ y ≤ x → JC D A X Q nL n1 n2 (pc + 3) lv st ws) : JC D A X Q nL n1 n2 pc lv (.int y :: .int x :: st) ws := fun H locs ls h1 h2 h3 h4 => lv_icmp_ge C.1.1 C.1.2.1 hd ht (fun h => kt h H locs ls h1 h2 h3 h4) (fun h => kf h H locs ls h1 h2 h3 h4)
theorem g_dup (C : CG D c A X cc own Ts nL rm) {v : Value} (hd : decode cc pc = .ok (.dup, 1)) (hv : v.category = 1) (k : JC D A X Q nL n1 n2 (pc + 1) lv (v :: v :: st) ws) : JC D A X Q nL n1 n2 pc lv (v :: st) ws := fun H locs ls h1 h2 h3 h4 => lv_dup C.1.1 C.1.2.1 hd hv (k H locs ls h1 h2 h3 h4)
theorem g_obj (C : CG D c A X cc own Ts nL rm) {a idx : Nat} (hlink : Cond.methodLink own idx objectInit ∈ Ts) (hinst : Cond.instanceMethod objectInit ∈ Ts) (hcode : Cond.code objectInit ⟨#[0xb1]⟩ 1 none ∈ Ts) (hfr : 1 ≤ rm.frames) (hlo : 2 * 0 + (st.map fun v => v.category).sum + 12 ≤ rm.locals) (hd : decode cc pc = .ok (.invokespecial idx, 3)) (k : JC D A X Q nL n1 n2 (pc + 3) lv st ws) : JC D A X Q nL n1 n2 pc lv (.ref a :: st) ws := by
  intro H locs ls h1 h2 h3 h4
  exact W.objInit C.1.1 C.1.2.1 C.1.2.2.2.1 (C.1.2.2.2.2 _ hlink) (C.1.2.2.2.2 _ hinst) (C.1.2.2.2.2 _ hcode) rfl (h1.1.trans C.1.2.2.1.symm) rfl hd (by rw [C.2.2.2.2]; exact hfr) (by rw [C.2.2.2.2]; exact hlo) (k H locs ls h1 h2 h3 h4)
theorem g_newa (C : CG D c A X cc own Ts nL rm) {atype : ArrayType} {ty : FieldType} {n : Int32} {N k1 k2 : Nat} {a0 : vp_A} (t : Nat) (ht : (tyc c)[t]? = some (c t, ty)) (hra : ∀ x y : ClassId, va_RA (xs X) x ty → va_RA (xs X) y ty → x = y) (harr : Cond.arrayClass (newarray.typeOf atype) ∈ Ts) (hty : newarray.typeOf atype = ty) (ha : ∀ cA : ClassId, vp_cell cA a0 = arrV cA N (fun _ => defaultValue ty)) (hn : ¬ n < 0) (hN : n.toNatClampNeg = N) (hbytes : N * componentBytes ty ≤ 536870912) (hc : n1 + 1 ≤ rm.cells) (hs : n2 + N ≤ rm.slots) (hd : decode cc pc = .ok (.newarray atype, 2)) (e1 : n1 + 1 = k1) (e2 : n2 + N = k2) (k : ∀ q, JC D A X Q nL k1 k2 (pc + 2) lv (.ref q :: st) (ws ++ [(q, .inl (c t, a0))])) : JC D A X Q nL n1 n2 pc lv (.int n :: st) ws := by
  subst e1 e2
  intro H locs ls h1 h2 h3 h4
  refine va_newa C.1.1 C.1.2.1 (C.1.2.2.2.2 _ harr) hty C.2.1.1 h2 h3 h4 C.2.2.1 ha hn hN hbytes (by rw [C.2.2.2.2]; exact hc) (by rw [C.2.2.2.2]; exact hs) hd (fun q cA H1 hK hP hD hS => ?_)
  have e : cA = c t := hra _ _ (hK.2 5 (cA, ty) rfl).2 (C.2.1.1.2 t _ ht).2
  rw [e] at hP hD
  exact k q H1 locs ls h1 hP hD hS
theorem g_putF (C : CG D c A X cc own Ts nL rm) (hin2 : (xt X).name = "<init>") {ref CC : String} {T : u_T} {N ci index a : Nat} {fs fs' : List Value} {v : Value} {tl : va_W} {tyf : Nat → FieldType} {ty : FieldType} (j : Nat) (hc : vwCl[ci]? = some (CC, T, N)) (hj : j < N) (hin : ∀ w ∈ u_ws CC T N, w ∈ Ts) (hlink : Cond.fieldLink own index ref (T j).2.1 (T j).2.2.1 ∈ Ts) (hsame : (T j).1 = ref) (hty : ∀ k, k < N → parseFieldDescriptor (T k).2.2.1 = some (tyf k)) (hnm : ∀ a, a < N → ∀ b, b < N → a ≠ b → (T a).2.1 ≠ (T b).2.1) (hfin : (T j).2.2.2 = true) (hdecl : (T j).1 = own) (hti : parseFieldDescriptor (T j).2.2.1 = some ty) (hnar : narrow ty v = v) (hfit : fits ty v = true) (hl : j < fs.length) (hd : decode cc pc = .ok (.putfield index, 3)) (hfs : fs.set j v = fs')
    (k : JC D A X Q nL n1 n2 (pc + 3) lv st ((a, .inr (ci, fs')) :: tl)) : JC D A X Q nL n1 n2 pc lv (v :: .ref a :: st) ((a, .inr (ci, fs)) :: tl) := by
  subst hsame hfs
  intro H locs ls h1 h2 h3 h4
  exact va_putF (D := D) (T := T) C.1.1 C.1.2.1 C.1.2.2.2.2 hin tyf hty hnm C.1.2.2.2.1 C.2.1.1 h2 h3 h4 0 rfl hc j hj (C.1.2.2.2.2 _ hlink) (fun _ h => h) hfin hin2 hdecl hti hnar hfit hl hd (fun H1 locs1 hP hD hS => k H1 locs1 ls h1 hP hD hS)
theorem g_put (C : CG D c A X cc own Ts nL rm) {ref CC : String} {T : u_T} {N ci index a : Nat} {fs fs' : List Value} {v : Value} {tl : va_W} {tyf : Nat → FieldType} {ty : FieldType} (j : Nat) (hc : vwCl[ci]? = some (CC, T, N)) (hj : j < N) (hin : ∀ w ∈ u_ws CC T N, w ∈ Ts) (hlink : Cond.fieldLink own index ref (T j).2.1 (T j).2.2.1 ∈ Ts) (hsame : (T j).1 = ref) (hty : ∀ k, k < N → parseFieldDescriptor (T k).2.2.1 = some (tyf k)) (hnm : ∀ a, a < N → ∀ b, b < N → a ≠ b → (T a).2.1 ≠ (T b).2.1) (hfin : (T j).2.2.2 = false) (hti : parseFieldDescriptor (T j).2.2.1 = some ty) (hnar : narrow ty v = v) (hfit : fits ty v = true) (hl : j < fs.length) (hd : decode cc pc = .ok (.putfield index, 3)) (hfs : fs.set j v = fs')
    (k : JC D A X Q nL n1 n2 (pc + 3) lv st ((a, .inr (ci, fs')) :: tl)) : JC D A X Q nL n1 n2 pc lv (v :: .ref a :: st) ((a, .inr (ci, fs)) :: tl) := by
  subst hsame hfs
  intro H locs ls h1 h2 h3 h4
  exact va_put (D := D) (T := T) C.1.1 C.1.2.1 C.1.2.2.2.2 hin tyf hty hnm C.1.2.2.2.1 C.2.1.1 h2 h3 h4 0 rfl hc j hj (C.1.2.2.2.2 _ hlink) (fun _ h => h) hfin hti hnar hfit hl hd (fun H1 locs1 hP hD hS => k H1 locs1 ls h1 hP hD hS)
theorem g_get (C : CG D c A X cc own Ts nL rm) {ref CC : String} {T : u_T} {N ci index a : Nat} {fs : List Value} {v : Value} {tl : va_W} (j : Nat) (hc : vwCl[ci]? = some (CC, T, N)) (hj : j < N) (hin : ∀ w ∈ u_ws CC T N, w ∈ Ts) (hlink : Cond.fieldLink own index ref (T j).2.1 (T j).2.2.1 ∈ Ts) (hsame : (T j).1 = ref) (hv : fs[j]? = some v) (hd : decode cc pc = .ok (.getfield index, 3))
    (k : JC D A X Q nL n1 n2 (pc + 3) lv (v :: st) ((a, .inr (ci, fs)) :: tl)) : JC D A X Q nL n1 n2 pc lv (.ref a :: st) ((a, .inr (ci, fs)) :: tl) := by
  subst hsame
  intro H locs ls h1 h2 h3 h4
  exact va_get (D := D) (T := T) C.1.1 C.1.2.1 C.1.2.2.2.2 hin C.1.2.2.2.1 C.2.1.1 h2 0 rfl hc j hj (C.1.2.2.2.2 _ hlink) (fun _ h => h) hv hd (k H locs ls h1 h2 h3 h4)
theorem g_iast (C : CG D c A X cc own Ts nL rm) {n a : Nat} {f : Nat → Int32} {i x : Int32} {ws' : va_W} (q0 : Nat) (ha : ws[q0]? = some (a, .inl (c 0, n, .inl f))) (hin : vp_in i n) (hd : decode cc pc = .ok (.iastore, 1)) (hw : ws.set q0 (a, .inl (c 0, n, .inl (upd f i.toNatClampNeg x))) = ws') (k : JC D A X Q nL n1 n2 (pc + 1) lv st ws') : JC D A X Q nL n1 n2 pc lv (.int x :: .int i :: .ref a :: st) ws := by
  subst hw
  intro H locs ls h1 h2 h3 h4
  exact va_iast C.1.1 C.1.2.1 C.2.1.1 h2 h3 h4 q0 0 ha rfl hin hd (fun H1 locs1 hP hD hS => k H1 locs1 ls h1 hP hD hS)
theorem g_alen (C : CG D c A X cc own Ts nL rm) {n a : Nat} {f : Nat → Int32} {v : Int32} (q0 : Nat) (ha : ws[q0]? = some (a, .inl (c 0, n, .inl f))) (hv : Int32.ofNat n = v) (hd : decode cc pc = .ok (.arraylength, 1)) (k : JC D A X Q nL n1 n2 (pc + 1) lv (.int v :: st) ws) : JC D A X Q nL n1 n2 pc lv (.ref a :: st) ws := by
  intro H locs ls h1 h2 h3 h4
  exact va_alen C.1.1 C.1.2.1 C.2.1.1 h2 q0 0 ha rfl hv hd (k H locs ls h1 h2 h3 h4)
end CGR
theorem rg_nd : ∀ n : Nat, va_nd (List.range n) = true := by
  have key : ∀ (l : List Nat), l.Nodup → va_nd l = true := by
    intro l
    induction l with
    | nil => intro _; rfl
    | cons a l ih =>
      intro h
      rw [List.nodup_cons] at h
      simp only [va_nd, Bool.and_eq_true, decide_eq_true_eq]
      exact ⟨h.1, ih h.2⟩
  intro n
  exact key _ List.nodup_range
theorem rg_get (ws : va_W) (x : Nat × va_E) : (List.range ws.length).map (fun i => (ws ++ [x])[i]?) = ws.map some := by
  apply List.ext_getElem?
  intro i
  rw [List.getElem?_map, List.getElem?_map]
  by_cases h : i < ws.length
  · rw [List.getElem?_range h, List.getElem?_eq_getElem h]
    show some ((ws ++ [x])[i]?) = some (some ws[i])
    rw [List.getElem?_append_left h, List.getElem?_eq_getElem h]
  · rw [List.getElem?_eq_none (by simpa using h), List.getElem?_eq_none (by simpa using h)]
    rfl
/-- a constructor's contract: from the bare object to its cells -/
def PreK (D : va_G) (c : Nat → ClassId) (sz : Nat) (w : va_W) (U : State) : Prop := U.heap.size = sz ∧ va_P D vwCl w U.heap ∧ KC D c U ∧ va_D (fun _ => True) w
def MC {S : Type} (D : va_G) (c : Nat → ClassId) (l : Launch) (y : MethodName) (ws : List Cond) (rm : Room) (mc ms : Nat) (av : List Value) (h0 : Nat) (e0 : va_E) (cells : S → va_W) : Prop := ∀ sz : Nat, Met l y ws rm (va_Pc av (PreK D c sz [(h0, e0)])) (va_Qv (fun _ : S => True) (fun u t => va_P D vwCl (cells u) t.heap ∧ va_D (va_A [(h0, e0)] sz) (cells u)) (va_A [(h0, e0)] sz)) mc ms (va_A [(h0, e0)] sz)
def RetC {S : Type} (D : va_G) (A : Nat → Prop) (X : Cxt) (Q : State → Prop) (cells : S → va_W) (mc ms : Nat) : Prop :=
  (∀ (H : Heap) (locs : List Loc) (g : JFrame), W (xp X) (xl X) (xe X) (xR X) (xs X) (xm X) (xa X) (xb X) (xt X) (xc X) H locs mc ms (MQ (xb X) (va_Qv (fun _ : S => True) (fun u t => va_P D vwCl (cells u) t.heap ∧ va_D A (cells u)) A) (xa X) (xs X) mc ms A) g → W (xp X) (xl X) (xe X) (xR X) (xs X) (xm X) (xa X) (xb X) (xt X) (xc X) H locs mc ms Q g) ∧ (xt X).sig.returnType = none
theorem preK_blind {D : va_G} {c : Nat → ClassId} {sz : Nat} {w : va_W} {av : List Value} : FrameBlind (va_Pc av (PreK D c sz w)) := by
  intro a U g mk h
  obtain ⟨e, h1, h2, h3, h4⟩ := h
  exact ⟨e, h1, h2, KC.same (s := U) rfl h3, h4⟩
section CGC
variable {D : va_G} {c : Nat → ClassId} {A : Nat → Prop} {X : Cxt} {Q : State → Prop} {cc : ByteArray} {own : String} {Ts : List Cond} {rm : Room} {nL n1 n2 pc : Nat} {lv : List (Nat × Value)} {st : List Value} {ws : va_W}
theorem g_vret (C : CG D c A X cc own Ts nL rm) {S : Type} {cells : S → va_W} {mc ms : Nat} (hQ : RetC D A X Q cells mc ms) (a1 : n1 ≤ mc) (a2 : n2 ≤ ms) (u : S) (hw : ws = cells u) (hd : decode cc pc = .ok (.return_, 1)) : JC D A X Q nL n1 n2 pc lv [] ws := by
  subst hw
  exact fun H locs ls h1 h2 h3 h4 => W.widen a1 a2 (hQ.1 H locs _ (W.vret C.1.1 C.1.2.1 hQ.2 (fun t ht _ => ⟨⟨u, rfl, trivial, by rw [ht]; exact h2, h3⟩, h4.F ht⟩) h4.2.2 hd C.2.2.2.1))
theorem g_new (C : CG D c A X cc own Ts nL rm) {CC : String} {T : u_T} {N ci index k1 k2 : Nat} {fs : List Value} {tyf : Nat → FieldType} (hc : vwCl[ci]? = some (CC, T, N)) (hin : ∀ w ∈ u_ws CC T N, w ∈ Ts) (hty : ∀ k, k < N → parseFieldDescriptor (T k).2.2.1 = some (tyf k)) (hcl : Cond.classLink own index CC ∈ Ts) (hinst : Cond.instantiable CC N ∈ Ts) (hini : Cond.initialized CC ∈ Ts) (hfs : ∀ j, j < N → defaultValue (tyf j) = vp_V fs j) (hcc : n1 + 1 ≤ rm.cells) (hs : n2 + N ≤ rm.slots) (hd : decode cc pc = .ok (.new index, 3)) (e1 : n1 + 1 = k1) (e2 : n2 + N = k2) (k : ∀ q, JC D A X Q nL k1 k2 (pc + 3) lv (.ref q :: st) (ws ++ [(q, .inr (ci, fs))])) : JC D A X Q nL n1 n2 pc lv st ws := by
  subst e1 e2
  intro H locs ls h1 h2 h3 h4
  exact va_new (ci := ci) (fs := fs) (C := CC) (T := T) (N := N) C.1.1 C.1.2.1 C.1.2.2.2.2 hin tyf hty C.1.2.2.2.1 (C.1.2.2.2.2 _ hcl) (C.1.2.2.2.2 _ hinst) (C.1.2.2.2.2 _ hini) C.2.1.1 h2 h3 h4 C.2.2.1 hc hfs (by rw [C.2.2.2.2]; exact hcc) (by rw [C.2.2.2.2]; exact hs) hd (fun q H1 hP hD hS => k q H1 locs ls h1 hP hD hS)
/-- what the caller's world is behind a constructor of the last cell -/
theorem g_behind (hA : ∀ q, (xs X).heap.size ≤ q → A q) {S : Type} {b : Nat} {e0 : va_E} {cells : S → va_W} {H : Heap} {locs : List Loc} (h2 : va_P D vwCl (ws ++ [(b, e0)]) H) (h3 : va_D A (ws ++ [(b, e0)])) (h4 : va_S A (xs X).heap H locs) :
    (va_P D vwCl [(b, e0)] H ∧ va_D A [(b, e0)] ∧ ∀ q, va_A [(b, e0)] H.size q → A q) ∧ ∀ (u : S) (H1 : Heap), (∀ q : Nat, q < H.size → ¬ va_A [(b, e0)] H.size q → H1[q]? = H[q]?) → va_P D vwCl (cells u) H1 → va_D (va_A [(b, e0)] H.size) (cells u) → va_P D vwCl (ws ++ cells u) H1 ∧ va_D A (ws ++ cells u) := by
  have eC : [ws.length].map (fun i => (ws ++ [(b, e0)])[i]?) = [(b, e0)].map some := by simp
  have hF : ∀ q, va_A [(b, e0)] H.size q → A q := va_free (wc := [(b, e0)]) h3 h4 hA [ws.length] eC
  refine ⟨⟨h2.sub [ws.length] (by simp), h3.sub [ws.length] rfl eC, hF⟩, fun u H1 hk hP1 hD1 => ?_⟩
  exact va_join (wr := ws) (w1 := cells u) h2 h3 [ws.length] (List.range ws.length) eC (rg_get ws _) (rg_nd _) (fun i hi => by
    have := List.mem_range.mp hi
    simp
    omega) hk hF hP1 hD1
theorem g_callN (C : CG D c A X cc own Ts nL rm) {y : MethodName} {bytes : ByteArray} {maxL mc ms b index k1 k2 : Nat} {wsc wsc' : List Cond} {rm' : Room} {S : Type} {e0 : va_E} {cells : S → va_W} {host : String} (hM : MC D c (xl X) y wsc rm' mc ms [.ref b] b e0 cells) (hG : GoodIn Ts wsc) (hwd : wsc = Cond.code y bytes maxL none :: wsc') (hcm : rm'.cells = mc ∧ rm'.slots = ms) (hnm : (own, index, y, host) ∈ nwM) (hini : Cond.initialized y.cls ∈ Ts) (hy : y.cls ≠ "java/lang/invoke/MethodHandle" ∧ y.cls ≠ "java/lang/invoke/VarHandle" ∧ (parseMethodDescriptor y.desc).map (fun d => d.parameters.length) = some 0) (hyn : y.name = "<init>") (him : Cond.instanceMethod y ∈ Ts) (hR : rm'.frames + 1 ≤ rm.frames ∧ 8 + (maxL + 11) + rm'.locals ≤ rm.locals) (hr : n1 + mc ≤ rm.cells ∧ n2 + ms ≤ rm.slots) (hw : (st.map fun v => v.category).sum ≤ 8) (hd : decode cc pc = .ok (.invokespecial index, 3)) (e1 : n1 + mc = k1) (e2 : n2 + ms = k2)
    (k : ∀ u, JC D A X Q nL k1 k2 (pc + 3) lv st (ws ++ cells u)) : JC D A X Q nL n1 n2 pc lv (.ref b :: st) (ws ++ [(b, e0)]) := by
  subst e1 e2
  intro H locs ls h1 h2 h3 h4
  obtain ⟨⟨hPc, hDc, hFc⟩, back⟩ := g_behind (cells := cells) C.2.2.1 h2 h3 h4
  refine va_callv (va_runIN (As := []) (rest := st) C.1 (hM H.size) ⟨va_cnB 0 C.1.2.2.2.2 hG hwd hcm.1 hcm.2 (C.2.1.2.1 _ hnm) (C.1.2.2.2.2 _ hini) hy ⟨by rw [C.2.2.2.2]; exact hR.1, by rw [C.2.2.2.2]; exact hR.2⟩, hyn, C.1.2.2.2.2 _ him⟩ ⟨preK_blind, fun U hU hW => ⟨rfl, by rw [hU], by rw [hU]; exact hPc, KC.warm hW C.2.1, hDc.weaken (fun _ _ _ _ => trivial)⟩⟩ rfl rfl h1.1 rfl (lv_room hw) hd ⟨by rw [C.2.2.2.2]; exact hr.1, by rw [C.2.2.2.2]; exact hr.2⟩) h4 (fun q _ h => hFc q h) hFc (fun u t H1 locs1 ht hvm hp hB hz1 hk1 hS => ?_)
  obtain ⟨hP1, hD1⟩ := hB
  rw [ht] at hP1
  obtain ⟨hP, hD⟩ := back u H1 hk1 hP1 hD1
  exact k u H1 locs1 ls h1 hP hD hS
theorem g_callI (C : CG D c A X cc own Ts nL rm) {y : MethodName} {bytes : ByteArray} {maxL mc ms b index k1 k2 : Nat} {wsc wsc' : List Cond} {rm' : Room} {S : Type} {e0 : va_E} {cells : S → va_W} (hM : MC D c (xl X) y wsc rm' mc ms [.ref b] b e0 cells) (hG : GoodIn Ts wsc) (hwd : wsc = Cond.code y bytes maxL none :: wsc') (hcm : rm'.cells = mc ∧ rm'.slots = ms) (hlk : Cond.methodLink own index y ∈ Ts) (hini : Cond.initialized y.cls ∈ Ts) (hy : y.cls ≠ "java/lang/invoke/MethodHandle" ∧ y.cls ≠ "java/lang/invoke/VarHandle" ∧ (parseMethodDescriptor y.desc).map (fun d => d.parameters.length) = some 0) (hyn : y.name = "<init>") (him : Cond.instanceMethod y ∈ Ts) (hR : rm'.frames + 1 ≤ rm.frames ∧ 8 + (maxL + 11) + rm'.locals ≤ rm.locals) (hr : n1 + mc ≤ rm.cells ∧ n2 + ms ≤ rm.slots) (hw : (st.map fun v => v.category).sum ≤ 8) (hd : decode cc pc = .ok (.invokespecial index, 3)) (e1 : n1 + mc = k1) (e2 : n2 + ms = k2)
    (k : ∀ u, JC D A X Q nL k1 k2 (pc + 3) lv st (ws ++ cells u)) : JC D A X Q nL n1 n2 pc lv (.ref b :: st) (ws ++ [(b, e0)]) := by
  subst e1 e2
  intro H locs ls h1 h2 h3 h4
  obtain ⟨⟨hPc, hDc, hFc⟩, back⟩ := g_behind (cells := cells) C.2.2.1 h2 h3 h4
  refine va_callv (va_runI (As := []) (rest := st) C.1 (hM H.size) (cwI 0 C.1.2.2.2.2 hG hwd hcm.1 hcm.2 (C.1.2.2.2.2 _ hini) (C.1.2.2.2.2 _ hlk) (C.1.2.2.2.2 _ him) hyn hy ⟨by rw [C.2.2.2.2]; exact hR.1, by rw [C.2.2.2.2]; exact hR.2⟩) ⟨preK_blind, fun U hU hW => ⟨rfl, by rw [hU], by rw [hU]; exact hPc, KC.warm hW C.2.1, hDc.weaken (fun _ _ _ _ => trivial)⟩⟩ rfl rfl h1.1 rfl (lv_room hw) hd ⟨by rw [C.2.2.2.2]; exact hr.1, by rw [C.2.2.2.2]; exact hr.2⟩) h4 (fun q _ h => hFc q h) hFc (fun u t H1 locs1 ht hvm hp hB hz1 hk1 hS => ?_)
  obtain ⟨hP1, hD1⟩ := hB
  rw [ht] at hP1
  obtain ⟨hP, hD⟩ := back u H1 hk1 hP1 hD1
  exact k u H1 locs1 ls h1 hP hD hS
end CGC
theorem mc_of {S : Type} {D : va_G} {c : Nat → ClassId} {l : Launch} {y : MethodName} {ws ws' : List Cond} {rm : Room} {cc : ByteArray} {maxL mc ms h0 : Nat} {av : List Value} {lv0 : List (Nat × Value)} {e0 : va_E} {cells : S → va_W} (hy : plainName y.cls = true) (hw : ws = Cond.code y cc maxL none :: ws') (hav : (lg_sl av).length ≤ maxL) (hlv : lv_args 0 av = lv0)
    (body : ∀ (X : Cxt) (Q : State → Prop) (A : Nat → Prop), xl X = l → CG D c A X cc y.cls ws maxL rm → (xt X).name = y.name → RetC D A X Q cells mc ms → JC D A X Q maxL 0 0 0 lv0 [] [(h0, e0)]) : MC D c l y ws rm mc ms av h0 e0 cells := by
  intro sz
  refine Met.ofW (cc := cc) (maxL := maxL) (ret := none) hy hw ?_
  intro p e s m args below meth c9 s₁ B hml hv
  obtain ⟨rfl, hsz, hP, hK, hD0⟩ := hv
  have hl := lv_entry av (n := maxL) hav
  rw [lg_entry_eq]
  rw [hlv] at hl
  have hD := hD0.self (sz := sz)
  subst hsz
  exact body (p, l, e, rm, s, m, av.toArray, below, meth, c9) _ (va_A [(h0, e0)] s.heap.size) rfl ⟨⟨B.exec, B.bytes, hml, findClass_of_methodNamed B.named, atoms_spec (ws := ws) B.pre⟩, hK, fun q h => Or.inr h, B.notSynchronized, rfl⟩ (name_of_methodNamed B.named B.method).1 ⟨fun H locs g h => h, B.returns⟩ s.heap [] _ hl hP hD va_S.rf
section CGS
variable {D : va_G} {c : Nat → ClassId} {A : Nat → Prop} {X : Cxt} {Q : State → Prop} {cc : ByteArray} {own : String} {Ts : List Cond} {rm : Room} {nL n1 n2 pc : Nat} {lv : List (Nat × Value)} {st : List Value} {ws : va_W}
theorem g_sub {ws' : va_W} (is : List Nat) (hn : va_nd is = true) (hs : is.map (fun i => ws[i]?) = ws'.map some) (k : JC D A X Q nL n1 n2 pc lv st ws') : JC D A X Q nL n1 n2 pc lv st ws := by
  have e : is.filterMap (fun i => ws[i]?) = ws' := by
    have : ∀ (l : List Nat) (w : va_W), l.map (fun i => ws[i]?) = w.map some → l.filterMap (fun i => ws[i]?) = w := by
      intro l
      induction l with
      | nil => intro w h; cases w with
        | nil => rfl
        | cons a w => simp at h
      | cons i l ih => intro w h; cases w with
        | nil => simp at h
        | cons a w =>
          simp only [List.map_cons, List.cons.injEq] at h
          rw [List.filterMap_cons_some h.1, ih w h.2]
    exact this is ws' hs
  exact fun H locs ls h1 h2 h3 h4 => k H locs ls h1 (h2.sub is e) (h3.sub is hn hs) h4
theorem g_callS (C : CG D c A X cc own Ts nL rm) {S : Type} {y : MethodName} {bytes : ByteArray} {maxL mc ms a n index k1 k2 : Nat} {wsc wsc' : List Cond} {rm' : Room} {e0 : va_E} {cells : S → va_W} {As : List Value} {wr : va_W} (isC isR : List Nat) (hM : MC D c (xl X) y wsc rm' mc ms As a e0 cells) (hG : GoodIn Ts (va_wsS own index y wsc)) (hwd : wsc = Cond.code y bytes maxL none :: wsc') (hcm : rm'.cells = mc ∧ rm'.slots = ms) (hy : y.cls ≠ "java/lang/invoke/MethodHandle" ∧ y.cls ≠ "java/lang/invoke/VarHandle" ∧ (parseMethodDescriptor y.desc).map (fun d => d.parameters.length) = some n) (hR : rm'.frames + 1 ≤ rm.frames ∧ 8 + (maxL + 11) + rm'.locals ≤ rm.locals) (hr : n1 + mc ≤ rm.cells ∧ n2 + ms ≤ rm.slots) (hn : As.length = n) (hw : (st.map fun v => v.category).sum ≤ 8) (hC : isC.map (fun i => ws[i]?) = [(a, e0)].map some) (hC1 : isC.filterMap (fun i => ws[i]?) = [(a, e0)]) (hCn : va_nd isC = true) (hRr : isR.map (fun i => ws[i]?) = wr.map some) (hRn : va_nd isR = true) (hdis : ∀ i ∈ isR, i ∉ isC) (hd : decode cc pc = .ok (.invokestatic index, 3)) (e1 : n1 + mc = k1) (e2 : n2 + ms = k2)
    (k : ∀ u, JC D A X Q nL k1 k2 (pc + 3) lv st (wr ++ cells u)) : JC D A X Q nL n1 n2 pc lv (As.reverse ++ st) ws := by
  subst e1 e2
  intro H locs ls h1 h2 h3 h4
  have hPc := h2.sub isC hC1
  have hDc := h3.sub isC hCn hC
  have hFc := va_free (wc := [(a, e0)]) h3 h4 C.2.2.1 isC hC
  refine va_callv (va_runS (As := As) (rest := st) C.1 (hM H.size) (va_cwS n C.1.2.2.2.2 hG hwd hcm.1 hcm.2 hy ⟨by rw [C.2.2.2.2]; exact hR.1, by rw [C.2.2.2.2]; exact hR.2⟩) ⟨preK_blind, fun U hU hW => ⟨rfl, by rw [hU], by rw [hU]; exact hPc, KC.warm hW C.2.1, hDc.weaken (fun _ _ _ _ => trivial)⟩⟩ rfl hn h1.1 rfl (lv_room hw) hd ⟨by rw [C.2.2.2.2]; exact hr.1, by rw [C.2.2.2.2]; exact hr.2⟩) h4 (fun q _ h => hFc q h) hFc (fun u t H1 locs1 ht hvm hp hB hz1 hk1 hS => ?_)
  obtain ⟨hP1, hD1⟩ := hB
  rw [ht] at hP1
  obtain ⟨hP, hD⟩ := va_join (wr := wr) (w1 := cells u) h2 h3 isC isR hC hRr hRn hdis hk1 hFc hP1 hD1
  exact k u H1 locs1 ls h1 hP hD hS
theorem g_mna (C : CG D c A X cc own Ts nL rm) {index k1 k2 : Nat} (hclink : Cond.classLink own index "[[I" ∈ Ts) (harr : Cond.arrayClass .int ∈ Ts) (hc : n1 + 21 ≤ rm.cells) (hs : n2 + 1220 ≤ rm.slots) (hd : decode cc pc = .ok (.multianewarray index 2, 4)) (e1 : n1 + 1 + 20 = k1) (e2 : n2 + 20 + 20 * 60 = k2)
    (k : ∀ (q : Nat) (r : Nat → Nat), JC D A X Q nL k1 k2 (pc + 4) lv (.ref q :: st) (ws ++ ((q, .inl (c 4, 20, .inr (.inr (.inr (.inr (fun i => if i < 20 then some (r i) else none)))))) :: (List.range 20).map (fun i => (r i, .inl (c 0, 60, .inl (fun _ => 0))))))) : JC D A X Q nL n1 n2 pc lv (.int 60 :: .int 20 :: st) ws := by
  subst e1 e2
  intro H locs ls h1 h2 h3 h4
  have z2 : va_P D vwCl (ws ++ va_pl [] (fun _ => .inl (c 0, 0, .inl (fun _ => 0)))) H := by simpa [va_pl] using h2
  have z3 : va_D A (ws ++ va_pl [] (fun _ => .inl (c 0, 0, .inl (fun _ => 0)))) := by simpa [va_pl] using h3
  have hcy : (xs X).vm.findClass (FieldType.array .int).toString = some (c 0) := (C.2.1.1.2 0 _ rfl).2
  refine va_mna (X := ws) (L := []) (f := fun _ => .inl (c 0, 0, .inl (fun _ => 0))) (z := (60, .inl (fun _ => 0))) (N' := 20) (K' := 60) C.1.1 C.1.2.1 C.1.2.2.2.1 (C.1.2.2.2.2 _ hclink) C.2.1.2.2 (C.1.2.2.2.2 _ harr) hcy C.2.1.1 z2 z3 h4 C.2.2.1 (by decide) (by decide) (by decide) (by decide) (by decide) (by decide) (by decide) (by decide) (by decide) (by rw [C.2.2.2.2]; exact hc) (by rw [C.2.2.2.2]; exact hs) (fun c9 => ?_) hd (fun q r cA H1 hinj _ hK hP hD hS => ?_)
  · show ({ cls := c9, slots := Array.replicate 60 (defaultValue .int), vm := .none } : Cell) = _
    rw [arrV_new]
    rfl
  · have e : cA = c 4 := by
      have r1 : va_RA (xs X) cA (.array .int) := (hK.2 5 (cA, .array .int) rfl).2
      have r2 : va_RA (xs X) (c 4) (.array .int) := (C.2.1.1.2 4 _ rfl).2
      exact Option.some.inj (r1.symm.trans r2)
    have ew : (ws ++ [(q, .inl (cA, 20, .inr (.inr (.inr (.inr (fun i => if i < 20 then some (r i) else none))))))]) ++ va_pl ([] ++ (List.range 20).map r) (vr_up (fun _ => .inl (c 0, 0, .inl (fun _ => 0))) ((List.range 20).map r) (.inl (c 0, (60, .inl (fun _ => 0))))) = ws ++ ((q, .inl (c 4, 20, .inr (.inr (.inr (.inr (fun i => if i < 20 then some (r i) else none)))))) :: (List.range 20).map (fun i => (r i, .inl (c 0, 60, .inl (fun _ => 0))))) := by
      rw [e, List.append_assoc]
      congr 1
      show _ :: _ = _ :: _
      congr 1
      unfold va_pl
      rw [List.nil_append, List.map_map]
      apply List.map_congr_left
      intro i hi
      show (r i, vr_up _ _ _ (r i)) = _
      unfold vr_up
      rw [if_pos (List.mem_map.mpr ⟨i, hi, rfl⟩)]
    rw [ew] at hP hD
    exact k q r H1 locs ls h1 hP hD hS
end CGS
