/-! the law's entry -/
theorem st_F : ∀ q ∈ nwF, Cond.fieldLinkNest q.1 q.2.1 q.2.2.1 q.2.2.2.1 q.2.2.2.2.1 q.2.2.2.2.2 ∈ lw_tbl := by decide +kernel
theorem st_M : ∀ q ∈ nwM, Cond.methodLinkNest q.1 q.2.1 q.2.2.1 q.2.2.2 ∈ lw_tbl := by decide +kernel
theorem st_S : ∀ q ∈ strs, Cond.stringRef q.1 q.2.1 q.2.2 ∈ lw_tbl := by decide +kernel
theorem st_X : ∀ q ∈ strs, Cond.exactly (.string q.1 q.2.1) "java/lang/String" ∈ flatC (Jvm.Cond.and given_1 narrow_1) := by decide +kernel
theorem st_D : ∀ q ∈ nwD, Cond.declares q ∈ lw_tbl := by decide +kernel
theorem st_C : ∀ q ∈ nwC, Cond.castable q.1 q.2 ∈ lw_tbl := by decide +kernel
theorem st_n : Cond.not (.castable "java/lang/IllegalArgumentException" "java/util/NoSuchElementException") ∈ flatC (Jvm.Cond.and given_1 narrow_1) := by decide +kernel
theorem st_u : Cond.isRef (.static "java/lang/Throwable" "UNASSIGNED_STACK" "[Ljava/lang/StackTraceElement;") ∈ flatC (Jvm.Cond.and given_1 narrow_1) := by decide +kernel
theorem st_p : Cond.isRef (.static "java/lang/Throwable" "SUPPRESSED_SENTINEL" "Ljava/util/List;") ∈ flatC (Jvm.Cond.and given_1 narrow_1) := by decide +kernel
theorem st_lu : Cond.laysStatic "java/lang/Throwable" "UNASSIGNED_STACK" "[Ljava/lang/StackTraceElement;" ∈ lw_tbl := by decide +kernel
theorem st_lp : Cond.laysStatic "java/lang/Throwable" "SUPPRESSED_SENTINEL" "Ljava/util/List;" ∈ lw_tbl := by decide +kernel
theorem st_it : Cond.initialized "java/lang/Throwable" ∈ lw_tbl := by decide +kernel
theorem st_a0 : Cond.arrayClass .int ∈ lw_tbl := by decide +kernel
theorem st_a1 : Cond.arrayClass .byte ∈ lw_tbl := by decide +kernel
theorem st_a2 : Cond.arrayClass .boolean ∈ lw_tbl := by decide +kernel
theorem st_a3 : Cond.arrayClass .long ∈ lw_tbl := by decide +kernel
theorem st_a4 : Cond.arrayOver (.array .int) ∈ lw_tbl := by decide +kernel
theorem sl_c7 : Cond.classLink RL 8 RX7 ∈ wsL_law := by decide +kernel
theorem sl_c8 : Cond.classLink RL 87 RX8 ∈ wsL_law := by decide +kernel
theorem sl_n7 : Cond.instantiable RX7 12 ∈ wsL_law := by decide +kernel
theorem sl_n8 : Cond.instantiable RX8 34 ∈ wsL_law := by decide +kernel
theorem sl_i7 : Cond.initialized RX7 ∈ wsL_law := by decide +kernel
theorem sl_i8 : Cond.initialized RX8 ∈ wsL_law := by decide +kernel
theorem sl_m7 : Cond.methodLink RL 86 yX7_init ∈ wsL_law := by decide +kernel
theorem sl_m8 : Cond.methodLink RL 89 yX8_init ∈ wsL_law := by decide +kernel
theorem sl_k7 : Cond.instanceMethod yX7_init ∈ wsL_law := by decide +kernel
theorem sl_k8 : Cond.instanceMethod yX8_init ∈ wsL_law := by decide +kernel
theorem sl_l : Cond.arrayClass (newarray.typeOf .long) ∈ wsL_law := by decide +kernel
theorem st_i0 : Cond.instantiable RX0 5 ∈ lw_tbl := by decide +kernel
theorem st_i1 : Cond.instantiable RX1 5 ∈ lw_tbl := by decide +kernel
theorem st_i2 : Cond.instantiable RX2 5 ∈ lw_tbl := by decide +kernel
theorem st_i3 : Cond.instantiable RX3 4 ∈ lw_tbl := by decide +kernel
theorem st_i4 : Cond.instantiable RX4 4 ∈ lw_tbl := by decide +kernel
theorem st_i5 : Cond.instantiable RX5 2 ∈ lw_tbl := by decide +kernel
theorem st_i6 : Cond.instantiable RX6 3 ∈ lw_tbl := by decide +kernel
theorem st_i7 : Cond.instantiable RX7 12 ∈ lw_tbl := by decide +kernel
theorem st_i8 : Cond.instantiable RX8 34 ∈ lw_tbl := by decide +kernel
/-- the class that 'multianewarray' takes for its outer array is the one of that name -/
theorem st_over {a : Array Value} {s : State} {t : FieldType} (h : (Cond.arrayOver (.array t)).before a s = true) : (Cond.arrayClass (.array t)).holds a s none s [] = true := by
  have h' : (Cond.arrayOver (.array t)).holds a s none s [] = true := h
  simp only [Cond.holds, Cond.value, beq_iff_eq, Option.bind_eq_some_iff, Option.map_eq_some_iff] at h' ⊢
  obtain ⟨-, -, c, -, k, hk, hb⟩ := h'
  cases e : k.kind with
  | array i ty =>
    rw [e] at hb
    have hb' := Bool.and_eq_true_iff.mp hb
    exact ⟨k, ⟨c, of_decide_eq_true hb'.2, hk⟩, by rw [e]; exact hb'.1⟩
  | _ => rw [e] at hb; cases hb
/-- the array classes that the tables know -/
theorem st_arr {s : State} {a : Array Value} (hts : ∀ w ∈ lw_tbl, w.before a s = true) : ∃ c : Nat → ClassId, ∀ (k : Nat) (q : ClassId × FieldType), (tyc c)[k]? = some q → ArrOfT s q.1 q.2 ∧ va_RA s q.1 q.2 := by
  obtain ⟨c0, k0, m0, e0, f0, g0⟩ := Cond.arrayClass_spec (args := a) (first := s) (o := none) (s := s) (idx := []) (hts _ st_a0)
  obtain ⟨c1, k1, m1, e1, f1, g1⟩ := Cond.arrayClass_spec (args := a) (first := s) (o := none) (s := s) (idx := []) (hts _ st_a1)
  obtain ⟨c2, k2, m2, e2, f2, g2⟩ := Cond.arrayClass_spec (args := a) (first := s) (o := none) (s := s) (idx := []) (hts _ st_a2)
  obtain ⟨c3, k3, m3, e3, f3, g3⟩ := Cond.arrayClass_spec (args := a) (first := s) (o := none) (s := s) (idx := []) (hts _ st_a3)
  obtain ⟨c4, k4, m4, e4, f4, g4⟩ := Cond.arrayClass_spec (args := a) (first := s) (o := none) (s := s) (idx := []) (st_over (hts _ st_a4))
  refine ⟨fun t => match t with | 0 => c0 | 1 => c1 | 2 => c2 | 3 => c3 | _ => c4, ?_⟩
  intro k q hq
  match k, hq with
  | 0, hq => cases hq; exact ⟨fun n z => ⟨fun k h => (by cases h), k0, f0, m0, g0⟩, e0⟩
  | 1, hq => cases hq; exact ⟨fun n z => ⟨fun k h => (by cases h), k1, f1, m1, g1⟩, e1⟩
  | 2, hq => cases hq; exact ⟨fun n z => ⟨fun k h => (by cases h), k2, f2, m2, g2⟩, e2⟩
  | 3, hq => cases hq; exact ⟨fun n z => ⟨fun k h => (by cases h), k3, f3, m3, g3⟩, e3⟩
  | 4, hq => cases hq; exact ⟨fun n z => ⟨fun k h => (by cases h), k4, f4, m4, g4⟩, e4⟩
  | k + 5, hq => simp [tyc] at hq
/-- the classes of the objects -/
theorem st_cls {s : State} {a : Array Value} (hts : ∀ w ∈ lw_tbl, w.before a s = true) : ∃ D : va_G, ∀ (k : Nat) (q : vw_C), vwCl[k]? = some q → u_Kn s q.1 q.2.1 q.2.2 (D.1 k) (D.2 k) := by
  obtain ⟨c0, i0, h0⟩ := u_known (C := RX0) (T := TX0) (N := 5) (n := 5) hts inX0 (hts _ st_i0)
  obtain ⟨c1, i1, h1⟩ := u_known (C := RX1) (T := TX1) (N := 5) (n := 5) hts inX1 (hts _ st_i1)
  obtain ⟨c2, i2, h2⟩ := u_known (C := RX2) (T := TX2) (N := 5) (n := 5) hts inX2 (hts _ st_i2)
  obtain ⟨c3, i3, h3⟩ := u_known (C := RX3) (T := TX3) (N := 4) (n := 4) hts inX3 (hts _ st_i3)
  obtain ⟨c4, i4, h4⟩ := u_known (C := RX4) (T := TX4) (N := 4) (n := 4) hts inX4 (hts _ st_i4)
  obtain ⟨c5, i5, h5⟩ := u_known (C := RX5) (T := TX5) (N := 2) (n := 2) hts inX5 (hts _ st_i5)
  obtain ⟨c6, i6, h6⟩ := u_known (C := RX6) (T := TX6) (N := 3) (n := 3) hts inX6 (hts _ st_i6)
  obtain ⟨c7, i7, h7⟩ := u_known (C := RX7) (T := TX7) (N := 12) (n := 12) hts inX7 (hts _ st_i7)
  obtain ⟨c8, i8, h8⟩ := u_known (C := RX8) (T := TX8) (N := 34) (n := 34) hts inX8 (hts _ st_i8)
  refine ⟨(fun k => match k with | 0 => c0 | 1 => c1 | 2 => c2 | 3 => c3 | 4 => c4 | 5 => c5 | 6 => c6 | 7 => c7 | _ => c8, fun k => match k with | 0 => i0 | 1 => i1 | 2 => i2 | 3 => i3 | 4 => i4 | 5 => i5 | 6 => i6 | 7 => i7 | _ => i8), ?_⟩
  intro k q hq
  match k, hq with
  | 0, hq => cases hq; exact h0
  | 1, hq => cases hq; exact h1
  | 2, hq => cases hq; exact h2
  | 3, hq => cases hq; exact h3
  | 4, hq => cases hq; exact h4
  | 5, hq => cases hq; exact h5
  | 6, hq => cases hq; exact h6
  | 7, hq => cases hq; exact h7
  | 8, hq => cases hq; exact h8
  | k + 9, hq => simp [vwCl] at hq
/-- what the tables say, at the start -/
theorem st_Ks {s : State} {b : Nat} {G : Gt} (hts : ∀ w ∈ lw_tbl, w.before #[Value.ref b] s = true) (hgv : (Jvm.Cond.and given_1 narrow_1).before #[Value.ref b] s = true) (hK : va_K (gD G) vwCl (tys G) s) : Ks G s := by
  refine ⟨hK, fun q hq => va_Nw.of rfl (hts _ (st_F q hq)), fun q hq => va_Nw.of rfl (hts _ (st_M q hq)), fun q hq => ?_, fun q hq => va_Nw.of rfl (hts _ (st_D q hq)), fun q hq => va_Nw.of rfl (hts _ (st_C q hq)), va_Nc.of (flat_of_before _ hgv _ st_n)⟩
  obtain ⟨a, -, -, -, h1, -⟩ := Cond.exactly_spec (flat_of_before _ hgv _ (st_X q hq))
  exact ⟨a, vk_R.of (hts _ (st_S q hq)) h1⟩
theorem st_Zs {s : State} {b : Nat} {G : Gt} (hB : gB G = s.heap.size) (hts : ∀ w ∈ lw_tbl, w.before #[Value.ref b] s = true) (hgv : (Jvm.Cond.and given_1 narrow_1).before #[Value.ref b] s = true) : Zs G s s.heap :=
  ⟨Nat.le_of_eq hB, vx_Zqof (hts _ st_lu) (hts _ st_it) (flat_of_before _ hgv _ st_u) (fun a h => Nat.not_le.mpr (by rw [hB]; exact h)), vx_Zqof (hts _ st_lp) (hts _ st_it) (flat_of_before _ hgv _ st_p) (fun a h => Nat.not_le.mpr (by rw [hB]; exact h))⟩
def R_law : String := "SameAgainLaw"
def lw_P (b : Addr) (xs : List Int32) (args : Array Value) (s : State) : Prop := args = #[.ref b] ∧ s.IntsAt b xs ∧ xs.length ≤ 2560 ∧ (Jvm.Cond.and given_1 narrow_1).before args s = true
def lw_Q (_ : Array Value) (s : State) (o : Outcome) (t : State) : Prop := o = .returned (some (.int 1)) ∧ Framed s o t [] 601024 7293034
def lw_Z (below : List Frame) (a : Array Value) (s : State) : State → Prop := fun t => ∃ o, t.status = .running ∧ Ended t below o ∧ lw_Q a s o t
/-- the law's own end, with 1 on the stack, nothing written that was there before, its room as the claim has it -/
theorem lw_ret {p : Program} {l : Launch} {e : Env} {s : State} {m : MethodId} {below : List Frame} {meth : Method} {c : Code} {b : Nat} (hx : p.tables.exec = Jvm.exec) (hb : c.code = code) (hr : meth.sig.returnType = ret) (hlocks : meth.locks = false) {pc : Nat} {H : Heap} {ls : Array Slot} (hdg : decode code pc = .ok (.ireturn, 1)) : W p l e room_1 s m #[Value.ref b] below meth c H [] 601024 7293034 (lw_Z below #[Value.ref b] s) (F0 m pc ls [.int 1]) := by
  intro T hT X
  obtain ⟨fs, hret, hrun, hended, hW, hframe⟩ := X.leave (v := some (.int 1)) (hlocks := hlocks) (fun h => by rw [hr] at h; cases h)
  have hmeth' : T.vm.method? m = some meth := X.method'
  refine ⟨T.setFrames fs, ?_, .returned (some (.int 1)), hrun, hended, rfl, ⟨_, rfl⟩, hW, hframe⟩
  jvm_step X.here [X.here.top, hx, hb, hdg, hmeth', hr, ret, narrow_b1]
  (try refine ⟨rfl, ?_⟩); (try refine ⟨rfl, ?_⟩)
  first | (intro acts; rw [hret _ acts rfl rfl rfl]) | rw [hret _ _ rfl rfl rfl]
  exact Steps.refl _
/-- what holds at the law's entry: the machine, the code, the tables' words (any of lw_tbl by 'hts w (by decide +kernel)'), the script of L ints xs at the cell b, what the Statement gives of the start (any of its parts by flat_of_before) -/
def lw_At (p : Program) (s : State) (m : MethodId) (meth : Method) (c : Code) (b L : Nat) (xs : Nat → Int32) : Prop :=
  p.tables.exec = Jvm.exec ∧ c.code = code ∧ meth.sig.returnType = ret ∧ c.maxLocals = 7 ∧ s.vm.findClass R_law = some m.cls ∧ (∀ w ∈ lw_tbl, w.before #[Value.ref b] s = true) ∧ va_X b L xs s s.heap ∧ b < s.heap.size ∧ meth.locks = false ∧ (Jvm.Cond.and given_1 narrow_1).before #[Value.ref b] s = true
set_option maxHeartbeats 4000000 in
set_option maxRecDepth 100000 in
/-- from the entry to the loop's head: the two objects and the long made -/
theorem st_walk {D : va_G} {c : Nat → ClassId} {A : Nat → Prop} {X : Cxt} {Q : State → Prop} {b : Nat} (C : CG D c A X cL_law RL wsL_law 7 room_1)
    (k : ∀ (a : Nat) (v : (Nat → Nat) × (Nat → Nat → Nat)) (m : Nat) (u : Nat → Nat) (g : Nat), JC D A X Q 7 77 18691 23 [(0, .ref b), (1, .ref a), (2, .ref m), (3, .ref g), (4, .int (nI 0))] [] (ws0 c a v m u g)) : JC D A X Q 7 0 0 0 [(0, .ref b)] [] [] := by
  refine g_new (CC := RX7) (T := TX7) (N := 12) (ci := 7) (fs := [.null, .null, .null, .null, .null, .null, .null, .null, .null, .null, .int 0, .int 0]) (tyf := tyX7) (k1 := 1) (k2 := 12) C rfl inlX7 tyX7_ok sl_c7 sl_n7 sl_i7 (fun j hj => by rcases (show j = 0 ∨ j = 1 ∨ j = 2 ∨ j = 3 ∨ j = 4 ∨ j = 5 ∨ j = 6 ∨ j = 7 ∨ j = 8 ∨ j = 9 ∨ j = 10 ∨ j = 11 by omega) with rfl | rfl | rfl | rfl | rfl | rfl | rfl | rfl | rfl | rfl | rfl | rfl <;> rfl) (by decide) (by decide) dL_law_0 rfl rfl (fun a => ?_)
  refine g_dup C dL_law_3 rfl ?_
  refine g_callI (k1 := 51) (k2 := 8778) C (k_X7 (xl X) D c a) gL_law_X7_init rfl ⟨rfl, rfl⟩ sl_m7 sl_i7 (by decide +kernel) rfl sl_k7 ⟨by decide, by decide⟩ ⟨by decide, by decide⟩ (Nat.le_of_ble_eq_true rfl) dL_law_4 rfl rfl (fun v => ?_)
  refine g_astore_n (lv' := [(0, .ref b), (1, .ref a)]) C dL_law_7 (by decide) rfl rfl ?_
  refine g_new (CC := RX8) (T := TX8) (N := 34) (ci := 8) (fs := [.int 0, .int 0, .int 0, .int 0, .int 0, .int 0, .int 0, .int 0, .int 0, .null, .null, .null, .null, .null, .null, .null, .null, .null, .null, .null, .null, .null, .null, .int 0, .null, .null, .null, .null, .null, .null, .null, .null, .null, .null]) (tyf := tyX8) (k1 := 52) (k2 := 8812) C rfl inlX8 tyX8_ok sl_c8 sl_n8 sl_i8 (fun j hj => by rcases (show j = 0 ∨ j = 1 ∨ j = 2 ∨ j = 3 ∨ j = 4 ∨ j = 5 ∨ j = 6 ∨ j = 7 ∨ j = 8 ∨ j = 9 ∨ j = 10 ∨ j = 11 ∨ j = 12 ∨ j = 13 ∨ j = 14 ∨ j = 15 ∨ j = 16 ∨ j = 17 ∨ j = 18 ∨ j = 19 ∨ j = 20 ∨ j = 21 ∨ j = 22 ∨ j = 23 ∨ j = 24 ∨ j = 25 ∨ j = 26 ∨ j = 27 ∨ j = 28 ∨ j = 29 ∨ j = 30 ∨ j = 31 ∨ j = 32 ∨ j = 33 by omega) with rfl | rfl | rfl | rfl | rfl | rfl | rfl | rfl | rfl | rfl | rfl | rfl | rfl | rfl | rfl | rfl | rfl | rfl | rfl | rfl | rfl | rfl | rfl | rfl | rfl | rfl | rfl | rfl | rfl | rfl | rfl | rfl | rfl | rfl <;> rfl) (by decide) (by decide) dL_law_8 rfl rfl (fun m => ?_)
  refine g_dup C dL_law_11 rfl ?_
  refine g_callI (k1 := 76) (k2 := 18690) C (k_X8 (xl X) D c m) gL_law_X8_init rfl ⟨rfl, rfl⟩ sl_m8 sl_i8 (by decide +kernel) rfl sl_k8 ⟨by decide, by decide⟩ ⟨by decide, by decide⟩ (Nat.le_of_ble_eq_true rfl) dL_law_12 rfl rfl (fun u => ?_)
  refine g_astore_n (lv' := [(0, .ref b), (1, .ref a), (2, .ref m)]) C dL_law_15 (by decide) rfl rfl ?_
  refine g_iconst (v := 1) C dL_law_16 (by decide) ?_
  refine g_newa (N := 1) (a0 := (1, .inr (.inl (fun _ => (0 : Int32).toInt64)))) (k1 := 77) (k2 := 18691) C 3 rfl (fun x y h1 h2 => Option.some.inj (h1.symm.trans h2)) sl_l rfl (fun cA => rfl) (by decide) (by decide) (by decide) (by decide) (by decide) dL_law_17 rfl rfl (fun g => ?_)
  refine g_astore_n (lv' := [(0, .ref b), (1, .ref a), (2, .ref m), (3, .ref g)]) C dL_law_19 (by decide) rfl rfl ?_
  refine g_iconst (v := nI 0) C dL_law_20 (by decide) ?_
  refine g_istore (lv' := [(0, .ref b), (1, .ref a), (2, .ref m), (3, .ref g), (4, .int (nI 0))]) C dL_law_21 (by decide) rfl rfl ?_
  exact k a v m u g
theorem whole_start {p : Program} {e : Env} {s : State} {m : MethodId} {below : List Frame} {meth : Method} {c : Code} (l : Launch) (hst : l.stackTraces = false) {b L : Nat} {xs : Nat → Int32} (hL : L ≤ 2560) (C0 : lw_At p s m meth c b L xs) : W p l e room_1 s m #[Value.ref b] below meth c s.heap [] 0 0 (lw_Z below #[Value.ref b] s) (entryFrame m ([Value.ref b] : List Value).toArray 7) := by
  obtain ⟨hx, hb, hr, hml, hown, hts, hX, hbl, hlocks, hgv⟩ := id C0
  obtain ⟨ct, hct⟩ := st_arr hts
  obtain ⟨D, hDc⟩ := st_cls hts
  have hl := lv_entry ([.ref b]) (n := 7) (Nat.le_of_ble_eq_true rfl)
  rw [lg_entry_eq]
  generalize (lg_sl ([.ref b]) ++ List.replicate (7 - (lg_sl ([.ref b])).length) Slot.unset).toArray = ls at hl ⊢
  have hl : lv_has ls 7 [(0, .ref b)] := hl
  have hF : CallFix p m c cL_law 7 s #[Value.ref b] wsL_law RL := ⟨hx, hb, hml, hown, fun w hw => hts w (wsL_law_in w hw)⟩
  have hKC : KC D ct s := ⟨⟨hDc, hct⟩, fun q hq => va_Nw.of rfl (hts _ (st_M q hq)), by
    have h := hts _ st_a4
    unfold va_AOA
    simp only [Cond.before, Cond.holds, Cond.value] at h ⊢
    exact h⟩
  have C : CG D ct (fun q => s.heap.size ≤ q) (p, l, e, room_1, s, m, #[Value.ref b], below, meth, c) cL_law RL wsL_law 7 room_1 := ⟨hF, hKC, fun q h => h, hlocks, rfl⟩
  refine st_walk (Q := lw_Z below #[Value.ref b] s) C (fun a v m1 u g => ?_) s.heap [] ls hl (fun k q h => by simp at h) ⟨fun i j p q h => by simp at h, fun k q h => by simp at h⟩ va_S.rf
  refine g_sub (ws' := world (D, A0 a v m1 u g, ct, s.heap.size) μ0) pl0 pl0_nd (pl0_ws D ct s.heap.size a v m1 u g) ?_
  intro H locs ls h1 h2 h3 h4
  have hC : Cx (D, A0 a v m1 u g, ct, s.heap.size) (p, l, e, room_1, s, m, #[Value.ref b], below, meth, c) cL_law RL wsL_law 7 room_1 := ⟨hF, st_Ks hts hgv ⟨hDc, hct⟩, dj_of h3, st_Zs rfl hts hgv, hlocks, rfl⟩
  obtain ⟨n, hn⟩ := law_pure (xs := xs) (L := L) (by omega) inv0
  exact law_head_j (N0 := 77) (S0 := 18691) hC ⟨hX, hbl, Nat.not_le.mpr hbl⟩ hst hL ⟨by decide, by decide⟩ (fun n1 n2 lv μ a1 a2 H locs ls q1 q2 q3 => W.widen a1 a2 (va_forget (fun q hq => q3.2.2 q hq) (lw_ret hx hb hr hlocks dL_law_1772))) n 0 μ0 (by omega) hn H locs ls h1 h2 h4
set_option maxHeartbeats 4000000 in
theorem lw_walk (l : Launch) (hst : l.stackTraces = false) (b : Addr) (xs : List Int32) : MetFree l x (headSpec (Jvm.Cond.code x code maxLocals ret :: tables_1) room_1) (lw_P b xs) (fun _ _ _ _ _ => True) lw_Q := by
  refine MetFree.of_bodyS (code := code) (maxLocals := maxLocals) (ret := ret) (by decide) ?_ ?_
  · intro args s m h hn
    obtain ⟨meth, c, h1, h2, h3, h4, h5, h6, -, -⟩ := Cond.code_spec hn (atoms_spec (ws := Jvm.Cond.code x code maxLocals ret :: tables_1) h _ List.mem_cons_self)
    exact ⟨meth, c, h1, h2, h3, h4, h5, h6⟩
  · intro p e s m args below meth c s₁ B hml0 hP _
    obtain ⟨rfl, hx, hbd, hgv⟩ := hP
    obtain ⟨scr, harrAt, hlist, hof, hsmall⟩ := hx
    obtain ⟨hcb, hkn, -, -⟩ := State.arrayAt?_spec harrAt
    have hown : s.vm.findClass R_law = some m.cls := findClass_of_methodNamed B.named
    have hts0 : ∀ c ∈ (Jvm.Cond.code x code maxLocals ret :: tables_1), c.before #[Value.ref b] s = true := atoms_spec (ws := Jvm.Cond.code x code maxLocals ret :: tables_1) B.pre
    have hts : ∀ w ∈ lw_tbl, w.before #[Value.ref b] s = true := k2_hts_sels lw_privs (fun w hw => hts0 w (List.mem_cons_of_mem _ hw)) lw_privs_ok
    have hml : c.maxLocals = 7 := B.maxLocals_eq (hts0 _ List.mem_cons_self)
    have X₀ : Stand p l e room_1 s m #[Value.ref b] below meth c s₁ [] 0 0 := Stand.of_body B
    have hh0 : s₁.heap = s.heap := by rw [B.state]; rfl
    have hsz : scr.slots.size = xs.length := by rw [← Array.length_toList, hlist, List.length_map]
    have hval : ∀ j : Nat, j < xs.length → scr.slots[j]? = some (.int (xs.getD j 0)) := fun j hj => by
      rw [← Array.getElem?_toList, hlist]
      simp [hj]
    have hbl : b < s.heap.size := (Array.getElem?_eq_some_iff.mp hcb).1
    have hX : va_X b xs.length (fun j => xs.getD j 0) s s.heap := ⟨scr, hcb, hof, hkn, hsz, hval⟩
    have K : W p l e room_1 s m #[Value.ref b] below meth c s₁.heap [] 0 0 (lw_Z below #[Value.ref b] s) (entryFrame m ([Value.ref b] : List Value).toArray 7) := by
      rw [hh0]
      exact whole_start l hst hbd ⟨B.exec, B.bytes, B.returns, hml, hown, hts, hX, hbl, B.notSynchronized, hgv⟩
    obtain ⟨t, a1, o, b1, b2, b3⟩ := K s₁ rfl X₀
    exact ⟨t, o, a1, b1, b2, b3⟩
theorem lw_pre_spec {args : Array Value} {s : State} (h : (Jvm.Cond.and given_1 narrow_1).before args s = true) (hr : rest_1_c.before args s = true) : ∃ (b : Addr) (xs : List Int32), lw_P b xs args s := by
  have hs := flat_of_before _ h
  have hq := flat_of_before _ hr
  have hc : (Cond.count 1).before args s = true := hs _ (by decide +kernel)
  have harr : (Cond.arrayOf (.arg 0) .int).before args s = true := hs _ (by decide +kernel)
  have hle : (Cond.le (.length (.arg 0)) (.int 2560)).before args s = true := hs _ (by decide +kernel)
  have hlen : (Cond.isInt (.length (.arg 0))).before args s = true := hq _ (by decide +kernel)
  have hall : (Cond.all (.arg 0) (.isInt (.elem (.arg 0) (.index 0)))).before args s = true := hq _ (by decide +kernel)
  obtain ⟨b, xs, hb, hx⟩ := State.ints_of_pre rfl harr hlen hall
  have hsm : xs.length < 2 ^ 31 := hx.choose_spec.2.2.2
  have hev : (Term.length (.arg 0)).eval args s none [] s = some (.int xs.length.toInt32) := hx.length_eval hb
  have hv := Cond.le_ints hev (show (Term.int 2560).eval args s none [] s = some (.int 2560) from rfl)
  have hd : xs.length.toInt32 ≤ 2560 := by
    simpa [Cond.before, Cond.holds, hv] using hle
  have hN : xs.length ≤ 2560 := (Int32.ofNat_le_ofNat hsm (by decide)).mp (show Int32.ofNat xs.length ≤ Int32.ofNat 2560 from hd)
  exact ⟨b, xs, Cond.one_arg hc (show args[0]? = some (.ref b) from hb), hx, hN, h⟩
theorem lw_comes (l : Launch) (hst : l.stackTraces = false) : Comes l x (Jvm.Cond.code x code maxLocals ret :: tables_1) room_1 (fun tb e args s => Calls_1 tb e args s ∧ rest_1 tb e args s ∧ Pre_1 tb e args s)
    (fun _ _ args s o t => lw_Q args s o t) := by
  intro p e ha hc hk s m args below hf hfit hheap happ hpre
  obtain ⟨b, xs, hP⟩ := lw_pre_spec hpre.2.2 hpre.2.1
  obtain ⟨k, o, h1, h2, h3, hQ⟩ := lw_walk l hst b xs p e ha hc hk s m args below hf ((Spec.applies_iff_loose hf).mp happ).1 hP trivial
  exact ⟨k, o, h1, h2, h3, hQ⟩
theorem lw_frame {s t : State} {o : Outcome} {args : Array Value} (h : Framed s o t [] 601024 7293034) :
    Framed s o t (fieldLocs frame_1_writes args s ++ arrayLocs frame_1_arrays args s ++ staticLocs frame_1_statics s) 601024 7293034 := h
theorem lw_limb (L : Cond) (hL : ∀ (args : Array Value) (s t : State), L.after args s (.returned (some (.int 1))) t = true) :
    ArmFor flags0 classFile x code maxLocals ret World_1 tables_1 room_1 Calls_1 rest_1 Pre_1
      (fun tb e a s o t => postC L tb e a s o t ∧ Framed s o t (fieldLocs frame_1_writes a s ++ arrayLocs frame_1_arrays a s ++ staticLocs frame_1_statics s) 601024 7293034) := by
  intro l hfl _ _ p e ha hc hk s m args below hf hfit hheap happ hpre
  obtain ⟨k, o, h1, h2, h3, rfl, hF⟩ := lw_comes l (by unfold Launch.stackTraces; rw [hfl]; decide) p e ha hc hk s m args below hf hfit hheap happ hpre
  exact ⟨k, _, h1, h2, h3, hL args s _, lw_frame hF⟩
theorem i_vc : Claimed_1_1 ∧ Claimed_1_2 := ⟨lw_limb limb_1_1 (fun args s t => by simp [limb_1_1, Cond.after, Cond.holds, Cond.value]), lw_limb limb_1_2 (fun args s t => Cond.after_iff.mpr (by
  first | (rw [show limb_1_2 = Cond.eq .result (.int 1) from rfl, Cond.eq_ints (x := 1) (y := 1) rfl rfl]; simp; done) | (simp [limb_1_2, Cond.value, Term.eval]; done)))⟩
