def fl1 (n : Nat) (v : Int32) (f : Nat → Int32) (i : Nat) : Nat → Int32 := fun j => if j < i then v else f j
theorem fl1_s (n : Nat) (v : Int32) (f : Nat → Int32) (i : Nat) : upd (fl1 n v f i) i v = fl1 n v f (i + 1) := by
  funext j
  unfold upd fl1
  by_cases h : j = i
  · rw [if_pos h, if_pos (by omega)]
  · rw [if_neg h]
    by_cases h2 : j < i
    · rw [if_pos h2, if_pos (by omega)]
    · rw [if_neg h2, if_neg (by omega)]
theorem kfill_loop {D : va_G} {c : Nat → ClassId} {A : Nat → Prop} {X : Cxt} {Q : State → Prop} (C : CG D c A X cJ7_fill_53178 RJ7 wsJ7_fill_53178 4 ⟨1, 0, 0, 12⟩) {a n : Nat} (hn : n < 2 ^ 31) {v : Int32} {f : Nat → Int32} (hQ : RetC D A X Q (fun _ : Unit => [(a, .inl (c 0, n, .inl (fl1 n v f n)))]) 0 0) :
    ∀ (m i : Nat), i ≤ n → n + 1 ≤ i + m → JC D A X Q 4 0 0 5 [(0, .ref a), (1, .int v), (2, .int (nI i)), (3, .int (nI n))] [] [(a, .inl (c 0, n, .inl (fl1 n v f i)))] := by
  intro m
  induction m with
  | zero => intro i h1 h2; omega
  | succ m ih =>
    intro i h1 h2
    refine g_iload_n C 2 dJ7_fill_53178_5 rfl ?_
    refine g_iload_n C 3 dJ7_fill_53178_6 rfl ?_
    refine g_icmp_ge C 20 dJ7_fill_53178_7 (by decide) (fun q => ?_) (fun q => ?_)
    · have e : i = n := by
        have := (nI_leI hn (by omega)).mp q
        omega
      subst e
      exact g_vret C hQ (by decide) (by decide) () rfl dJ7_fill_53178_20
    · have hlt : i < n := by
        rcases Nat.lt_or_ge i n with z | z
        · exact z
        · exact absurd (nI_le z (by omega)) q
      refine g_aload_n C 0 dJ7_fill_53178_10 rfl ?_
      refine g_iload_n C 2 dJ7_fill_53178_11 rfl ?_
      refine g_iload_n C 1 dJ7_fill_53178_12 rfl ?_
      refine g_iast (ws' := [(a, .inl (c 0, n, .inl (fl1 n v f (i + 1))))]) C 0 rfl (vp_in_nI hlt hn) dJ7_fill_53178_13 (by rw [show (nI i).toNatClampNeg = i from nI_clamp (by omega), fl1_s]; rfl) ?_
      refine g_iinc (v := nI (i + 1)) (lv' := [(0, .ref a), (1, .int v), (2, .int (nI (i + 1))), (3, .int (nI n))]) C 2 dJ7_fill_53178_14 rfl (nI_1 i) (by decide) rfl rfl ?_
      refine g_goto C 5 dJ7_fill_53178_17 (by decide) ?_
      exact ih (i + 1) hlt (by omega)
theorem kfill (l : Launch) (D : va_G) (c : Nat → ClassId) (a n : Nat) (v : Int32) (f : Nat → Int32) (hn : n < 2 ^ 31) : MC D c l yJ7_fill_53178 wsJ7_fill_53178 ⟨1, 0, 0, 12⟩ 0 0 [.ref a, .int v] a (.inl (c 0, n, .inl f)) (fun _ : Unit => [(a, .inl (c 0, n, .inl (fl1 n v f n)))]) := by
  refine mc_of (cc := cJ7_fill_53178) (maxL := 4) (lv0 := [(0, .ref a), (1, .int v)]) (by decide) rfl (Nat.le_of_ble_eq_true rfl) rfl ?_
  intro X Q A hl C hnm hQ
  replace C : CG D c A X cJ7_fill_53178 RJ7 wsJ7_fill_53178 4 ⟨1, 0, 0, 12⟩ := C
  refine g_iconst (v := 0) C dJ7_fill_53178_0 (by decide) ?_
  refine g_istore_n (lv' := [(0, .ref a), (1, .int v), (2, .int 0)]) C dJ7_fill_53178_1 (by decide) rfl rfl ?_
  refine g_aload_n C 0 dJ7_fill_53178_2 rfl ?_
  refine g_alen (v := nI n) C 0 rfl rfl dJ7_fill_53178_3 ?_
  refine g_istore_n (lv' := [(0, .ref a), (1, .int v), (2, .int 0), (3, .int (nI n))]) C dJ7_fill_53178_4 (by decide) rfl rfl ?_
  have e : fl1 n v f 0 = f := by
    funext j
    unfold fl1
    rw [if_neg (by omega)]
  have := kfill_loop C hn hQ (n + 1) 0 (by omega) (by omega)
  rw [e] at this
  exact this
theorem ic_X0 : ∀ w ∈ u_ws RX0 TX0 5, w ∈ wsX0_init := by decide +kernel
theorem lc_X0_9 : Cond.fieldLink RX0 9 "SameAgain$Bodies" "bytes" "[B" ∈ wsX0_init := by decide +kernel
theorem lc_X0_15 : Cond.fieldLink RX0 15 "SameAgain$Bodies" "size" "[I" ∈ wsX0_init := by decide +kernel
theorem lc_X0_19 : Cond.fieldLink RX0 19 "SameAgain$Bodies" "owner" "[I" ∈ wsX0_init := by decide +kernel
theorem lc_X0_22 : Cond.fieldLink RX0 22 "SameAgain$Bodies" "day" "[I" ∈ wsX0_init := by decide +kernel
def cs_X0 (c : Nat → ClassId) (h0 : Nat) (u : Nat → Nat) : va_W := [(h0, .inr (0, [.ref (u 0), .ref (u 1), .ref (u 2), .ref (u 3), .int 0])), ((u 0), .inl (c 1, 6400, .inl (fun _ => 0))), ((u 1), .inl (c 0, 100, .inl (fun _ => 0))), ((u 2), .inl (c 0, 100, .inl (fun _ => 0))), ((u 3), .inl (c 0, 100, .inl (fun _ => 0)))]
set_option maxHeartbeats 4000000 in
set_option maxRecDepth 100000 in
theorem k_X0 (l : Launch) (D : va_G) (c : Nat → ClassId) (h0 : Nat) : MC D c l yX0_init wsX0_init ⟨1, 4, 6700, 12⟩ 4 6700 [.ref h0] h0 (.inr (0, [.null, .null, .null, .null, .int 0])) (cs_X0 c h0) := by
  refine mc_of (cc := cX0_init) (maxL := 1) (lv0 := [(0, .ref h0)]) (by decide) rfl (Nat.le_of_ble_eq_true rfl) rfl ?_
  intro X Q A hl C hnm hQ
  replace C : CG D c A X cX0_init RX0 wsX0_init 1 ⟨1, 4, 6700, 12⟩ := C
  replace hnm : (xt X).name = "<init>" := hnm
  refine g_aload_n C 0 dX0_init_0 rfl ?_
  refine g_obj C (by decide +kernel) (by decide +kernel) (by decide +kernel) (by decide) (by decide) dX0_init_1 ?_
  refine g_aload_n C 0 dX0_init_4 rfl ?_
  refine g_sipush (v := 6400) C dX0_init_5 (by decide) ?_
  refine g_newa (N := 6400) (a0 := (6400, .inl (fun _ => 0))) (k1 := 1) (k2 := 6400) C 1 rfl (fun x y h1 h2 => Option.some.inj (h1.symm.trans h2)) (by decide +kernel) rfl (fun cA => rfl) (by decide) (by decide) (by decide) (by decide) (by decide) dX0_init_8 rfl rfl (fun q0 => ?_)
  refine g_eq (ws' := [(h0, .inr (0, [.null, .null, .null, .null, .int 0])), (q0, .inl (c 1, 6400, .inl (fun _ => 0)))]) rfl ?_
  refine g_putF (CC := RX0) (T := TX0) (N := 5) (fs' := [.ref q0, .null, .null, .null, .int 0]) (ty := .array .byte) C hnm 0 rfl (by decide) ic_X0 lc_X0_9 rfl tyX0_ok nmX0 rfl rfl rfl rfl rfl (Nat.le_of_ble_eq_true rfl) dX0_init_10 rfl ?_
  refine g_aload_n C 0 dX0_init_13 rfl ?_
  refine g_bipush (v := 100) C dX0_init_14 (by decide) ?_
  refine g_newa (N := 100) (a0 := (100, .inl (fun _ => 0))) (k1 := 2) (k2 := 6500) C 0 rfl (fun x y h1 h2 => Option.some.inj (h1.symm.trans h2)) (by decide +kernel) rfl (fun cA => rfl) (by decide) (by decide) (by decide) (by decide) (by decide) dX0_init_16 rfl rfl (fun q1 => ?_)
  refine g_eq (ws' := [(h0, .inr (0, [.ref q0, .null, .null, .null, .int 0])), (q0, .inl (c 1, 6400, .inl (fun _ => 0))), (q1, .inl (c 0, 100, .inl (fun _ => 0)))]) rfl ?_
  refine g_putF (CC := RX0) (T := TX0) (N := 5) (fs' := [.ref q0, .ref q1, .null, .null, .int 0]) (ty := .array .int) C hnm 1 rfl (by decide) ic_X0 lc_X0_15 rfl tyX0_ok nmX0 rfl rfl rfl rfl rfl (Nat.le_of_ble_eq_true rfl) dX0_init_18 rfl ?_
  refine g_aload_n C 0 dX0_init_21 rfl ?_
  refine g_bipush (v := 100) C dX0_init_22 (by decide) ?_
  refine g_newa (N := 100) (a0 := (100, .inl (fun _ => 0))) (k1 := 3) (k2 := 6600) C 0 rfl (fun x y h1 h2 => Option.some.inj (h1.symm.trans h2)) (by decide +kernel) rfl (fun cA => rfl) (by decide) (by decide) (by decide) (by decide) (by decide) dX0_init_24 rfl rfl (fun q2 => ?_)
  refine g_eq (ws' := [(h0, .inr (0, [.ref q0, .ref q1, .null, .null, .int 0])), (q0, .inl (c 1, 6400, .inl (fun _ => 0))), (q1, .inl (c 0, 100, .inl (fun _ => 0))), (q2, .inl (c 0, 100, .inl (fun _ => 0)))]) rfl ?_
  refine g_putF (CC := RX0) (T := TX0) (N := 5) (fs' := [.ref q0, .ref q1, .ref q2, .null, .int 0]) (ty := .array .int) C hnm 2 rfl (by decide) ic_X0 lc_X0_19 rfl tyX0_ok nmX0 rfl rfl rfl rfl rfl (Nat.le_of_ble_eq_true rfl) dX0_init_26 rfl ?_
  refine g_aload_n C 0 dX0_init_29 rfl ?_
  refine g_bipush (v := 100) C dX0_init_30 (by decide) ?_
  refine g_newa (N := 100) (a0 := (100, .inl (fun _ => 0))) (k1 := 4) (k2 := 6700) C 0 rfl (fun x y h1 h2 => Option.some.inj (h1.symm.trans h2)) (by decide +kernel) rfl (fun cA => rfl) (by decide) (by decide) (by decide) (by decide) (by decide) dX0_init_32 rfl rfl (fun q3 => ?_)
  refine g_eq (ws' := [(h0, .inr (0, [.ref q0, .ref q1, .ref q2, .null, .int 0])), (q0, .inl (c 1, 6400, .inl (fun _ => 0))), (q1, .inl (c 0, 100, .inl (fun _ => 0))), (q2, .inl (c 0, 100, .inl (fun _ => 0))), (q3, .inl (c 0, 100, .inl (fun _ => 0)))]) rfl ?_
  refine g_putF (CC := RX0) (T := TX0) (N := 5) (fs' := [.ref q0, .ref q1, .ref q2, .ref q3, .int 0]) (ty := .array .int) C hnm 3 rfl (by decide) ic_X0 lc_X0_22 rfl tyX0_ok nmX0 rfl rfl rfl rfl rfl (Nat.le_of_ble_eq_true rfl) dX0_init_34 rfl ?_
  exact g_vret C hQ (by decide) (by decide) (fun k => match k with | 0 => q0 | 1 => q1 | 2 => q2 | _ => q3) rfl dX0_init_37
theorem ic_X1 : ∀ w ∈ u_ws RX1 TX1 5, w ∈ wsX1_init := by decide +kernel
theorem lc_X1_9 : Cond.fieldLink RX1 9 "SameAgain$Files" "folder" "[I" ∈ wsX1_init := by decide +kernel
theorem lc_X1_15 : Cond.fieldLink RX1 15 "SameAgain$Files" "name" "[I" ∈ wsX1_init := by decide +kernel
theorem lc_X1_18 : Cond.fieldLink RX1 18 "SameAgain$Files" "body" "[I" ∈ wsX1_init := by decide +kernel
theorem lc_X1_21 : Cond.fieldLink RX1 21 "SameAgain$Files" "held" "[Z" ∈ wsX1_init := by decide +kernel
def cs_X1 (c : Nat → ClassId) (h0 : Nat) (u : Nat → Nat) : va_W := [(h0, .inr (1, [.ref (u 0), .ref (u 1), .ref (u 2), .ref (u 3), .int 0])), ((u 0), .inl (c 0, 60, .inl (fun _ => 0))), ((u 1), .inl (c 0, 60, .inl (fun _ => 0))), ((u 2), .inl (c 0, 60, .inl (fun _ => 0))), ((u 3), .inl (c 2, 60, .inl (fun _ => 0)))]
set_option maxHeartbeats 4000000 in
set_option maxRecDepth 100000 in
theorem k_X1 (l : Launch) (D : va_G) (c : Nat → ClassId) (h0 : Nat) : MC D c l yX1_init wsX1_init ⟨1, 4, 240, 12⟩ 4 240 [.ref h0] h0 (.inr (1, [.null, .null, .null, .null, .int 0])) (cs_X1 c h0) := by
  refine mc_of (cc := cX1_init) (maxL := 1) (lv0 := [(0, .ref h0)]) (by decide) rfl (Nat.le_of_ble_eq_true rfl) rfl ?_
  intro X Q A hl C hnm hQ
  replace C : CG D c A X cX1_init RX1 wsX1_init 1 ⟨1, 4, 240, 12⟩ := C
  replace hnm : (xt X).name = "<init>" := hnm
  refine g_aload_n C 0 dX1_init_0 rfl ?_
  refine g_obj C (by decide +kernel) (by decide +kernel) (by decide +kernel) (by decide) (by decide) dX1_init_1 ?_
  refine g_aload_n C 0 dX1_init_4 rfl ?_
  refine g_bipush (v := 60) C dX1_init_5 (by decide) ?_
  refine g_newa (N := 60) (a0 := (60, .inl (fun _ => 0))) (k1 := 1) (k2 := 60) C 0 rfl (fun x y h1 h2 => Option.some.inj (h1.symm.trans h2)) (by decide +kernel) rfl (fun cA => rfl) (by decide) (by decide) (by decide) (by decide) (by decide) dX1_init_7 rfl rfl (fun q0 => ?_)
  refine g_eq (ws' := [(h0, .inr (1, [.null, .null, .null, .null, .int 0])), (q0, .inl (c 0, 60, .inl (fun _ => 0)))]) rfl ?_
  refine g_putF (CC := RX1) (T := TX1) (N := 5) (fs' := [.ref q0, .null, .null, .null, .int 0]) (ty := .array .int) C hnm 0 rfl (by decide) ic_X1 lc_X1_9 rfl tyX1_ok nmX1 rfl rfl rfl rfl rfl (Nat.le_of_ble_eq_true rfl) dX1_init_9 rfl ?_
  refine g_aload_n C 0 dX1_init_12 rfl ?_
  refine g_bipush (v := 60) C dX1_init_13 (by decide) ?_
  refine g_newa (N := 60) (a0 := (60, .inl (fun _ => 0))) (k1 := 2) (k2 := 120) C 0 rfl (fun x y h1 h2 => Option.some.inj (h1.symm.trans h2)) (by decide +kernel) rfl (fun cA => rfl) (by decide) (by decide) (by decide) (by decide) (by decide) dX1_init_15 rfl rfl (fun q1 => ?_)
  refine g_eq (ws' := [(h0, .inr (1, [.ref q0, .null, .null, .null, .int 0])), (q0, .inl (c 0, 60, .inl (fun _ => 0))), (q1, .inl (c 0, 60, .inl (fun _ => 0)))]) rfl ?_
  refine g_putF (CC := RX1) (T := TX1) (N := 5) (fs' := [.ref q0, .ref q1, .null, .null, .int 0]) (ty := .array .int) C hnm 1 rfl (by decide) ic_X1 lc_X1_15 rfl tyX1_ok nmX1 rfl rfl rfl rfl rfl (Nat.le_of_ble_eq_true rfl) dX1_init_17 rfl ?_
  refine g_aload_n C 0 dX1_init_20 rfl ?_
  refine g_bipush (v := 60) C dX1_init_21 (by decide) ?_
  refine g_newa (N := 60) (a0 := (60, .inl (fun _ => 0))) (k1 := 3) (k2 := 180) C 0 rfl (fun x y h1 h2 => Option.some.inj (h1.symm.trans h2)) (by decide +kernel) rfl (fun cA => rfl) (by decide) (by decide) (by decide) (by decide) (by decide) dX1_init_23 rfl rfl (fun q2 => ?_)
  refine g_eq (ws' := [(h0, .inr (1, [.ref q0, .ref q1, .null, .null, .int 0])), (q0, .inl (c 0, 60, .inl (fun _ => 0))), (q1, .inl (c 0, 60, .inl (fun _ => 0))), (q2, .inl (c 0, 60, .inl (fun _ => 0)))]) rfl ?_
  refine g_putF (CC := RX1) (T := TX1) (N := 5) (fs' := [.ref q0, .ref q1, .ref q2, .null, .int 0]) (ty := .array .int) C hnm 2 rfl (by decide) ic_X1 lc_X1_18 rfl tyX1_ok nmX1 rfl rfl rfl rfl rfl (Nat.le_of_ble_eq_true rfl) dX1_init_25 rfl ?_
  refine g_aload_n C 0 dX1_init_28 rfl ?_
  refine g_bipush (v := 60) C dX1_init_29 (by decide) ?_
  refine g_newa (N := 60) (a0 := (60, .inl (fun _ => 0))) (k1 := 4) (k2 := 240) C 2 rfl (fun x y h1 h2 => Option.some.inj (h1.symm.trans h2)) (by decide +kernel) rfl (fun cA => rfl) (by decide) (by decide) (by decide) (by decide) (by decide) dX1_init_31 rfl rfl (fun q3 => ?_)
  refine g_eq (ws' := [(h0, .inr (1, [.ref q0, .ref q1, .ref q2, .null, .int 0])), (q0, .inl (c 0, 60, .inl (fun _ => 0))), (q1, .inl (c 0, 60, .inl (fun _ => 0))), (q2, .inl (c 0, 60, .inl (fun _ => 0))), (q3, .inl (c 2, 60, .inl (fun _ => 0)))]) rfl ?_
  refine g_putF (CC := RX1) (T := TX1) (N := 5) (fs' := [.ref q0, .ref q1, .ref q2, .ref q3, .int 0]) (ty := .array .boolean) C hnm 3 rfl (by decide) ic_X1 lc_X1_21 rfl tyX1_ok nmX1 rfl rfl rfl rfl rfl (Nat.le_of_ble_eq_true rfl) dX1_init_33 rfl ?_
  exact g_vret C hQ (by decide) (by decide) (fun k => match k with | 0 => q0 | 1 => q1 | 2 => q2 | _ => q3) rfl dX1_init_36
theorem ic_X2 : ∀ w ∈ u_ws RX2 TX2 5, w ∈ wsX2_init := by decide +kernel
theorem lc_X2_9 : Cond.fieldLink RX2 9 "SameAgain$Findings" "group" "[I" ∈ wsX2_init := by decide +kernel
theorem lc_X2_15 : Cond.fieldLink RX2 15 "SameAgain$Findings" "heap" "[I" ∈ wsX2_init := by decide +kernel
theorem lc_X2_18 : Cond.fieldLink RX2 18 "SameAgain$Findings" "heapBefore" "[I" ∈ wsX2_init := by decide +kernel
def cs_X2 (c : Nat → ClassId) (h0 : Nat) (u : Nat → Nat) : va_W := [(h0, .inr (2, [.ref (u 0), .ref (u 1), .ref (u 2), .int 0, .int 0])), ((u 0), .inl (c 0, 100, .inl (fl1 100 (-1) (fun _ => 0) 100))), ((u 1), .inl (c 0, 100, .inl (fun _ => 0))), ((u 2), .inl (c 0, 100, .inl (fun _ => 0)))]
set_option maxHeartbeats 4000000 in
set_option maxRecDepth 100000 in
theorem k_X2 (l : Launch) (D : va_G) (c : Nat → ClassId) (h0 : Nat) : MC D c l yX2_init wsX2_init ⟨2, 3, 300, 35⟩ 3 300 [.ref h0] h0 (.inr (2, [.null, .null, .null, .int 0, .int 0])) (cs_X2 c h0) := by
  refine mc_of (cc := cX2_init) (maxL := 1) (lv0 := [(0, .ref h0)]) (by decide) rfl (Nat.le_of_ble_eq_true rfl) rfl ?_
  intro X Q A hl C hnm hQ
  replace C : CG D c A X cX2_init RX2 wsX2_init 1 ⟨2, 3, 300, 35⟩ := C
  replace hnm : (xt X).name = "<init>" := hnm
  refine g_aload_n C 0 dX2_init_0 rfl ?_
  refine g_obj C (by decide +kernel) (by decide +kernel) (by decide +kernel) (by decide) (by decide) dX2_init_1 ?_
  refine g_aload_n C 0 dX2_init_4 rfl ?_
  refine g_bipush (v := 100) C dX2_init_5 (by decide) ?_
  refine g_newa (N := 100) (a0 := (100, .inl (fun _ => 0))) (k1 := 1) (k2 := 100) C 0 rfl (fun x y h1 h2 => Option.some.inj (h1.symm.trans h2)) (by decide +kernel) rfl (fun cA => rfl) (by decide) (by decide) (by decide) (by decide) (by decide) dX2_init_7 rfl rfl (fun q0 => ?_)
  refine g_eq (ws' := [(h0, .inr (2, [.null, .null, .null, .int 0, .int 0])), (q0, .inl (c 0, 100, .inl (fun _ => 0)))]) rfl ?_
  refine g_putF (CC := RX2) (T := TX2) (N := 5) (fs' := [.ref q0, .null, .null, .int 0, .int 0]) (ty := .array .int) C hnm 0 rfl (by decide) ic_X2 lc_X2_9 rfl tyX2_ok nmX2 rfl rfl rfl rfl rfl (Nat.le_of_ble_eq_true rfl) dX2_init_9 rfl ?_
  refine g_aload_n C 0 dX2_init_12 rfl ?_
  refine g_bipush (v := 100) C dX2_init_13 (by decide) ?_
  refine g_newa (N := 100) (a0 := (100, .inl (fun _ => 0))) (k1 := 2) (k2 := 200) C 0 rfl (fun x y h1 h2 => Option.some.inj (h1.symm.trans h2)) (by decide +kernel) rfl (fun cA => rfl) (by decide) (by decide) (by decide) (by decide) (by decide) dX2_init_15 rfl rfl (fun q1 => ?_)
  refine g_eq (ws' := [(h0, .inr (2, [.ref q0, .null, .null, .int 0, .int 0])), (q0, .inl (c 0, 100, .inl (fun _ => 0))), (q1, .inl (c 0, 100, .inl (fun _ => 0)))]) rfl ?_
  refine g_putF (CC := RX2) (T := TX2) (N := 5) (fs' := [.ref q0, .ref q1, .null, .int 0, .int 0]) (ty := .array .int) C hnm 1 rfl (by decide) ic_X2 lc_X2_15 rfl tyX2_ok nmX2 rfl rfl rfl rfl rfl (Nat.le_of_ble_eq_true rfl) dX2_init_17 rfl ?_
  refine g_aload_n C 0 dX2_init_20 rfl ?_
  refine g_bipush (v := 100) C dX2_init_21 (by decide) ?_
  refine g_newa (N := 100) (a0 := (100, .inl (fun _ => 0))) (k1 := 3) (k2 := 300) C 0 rfl (fun x y h1 h2 => Option.some.inj (h1.symm.trans h2)) (by decide +kernel) rfl (fun cA => rfl) (by decide) (by decide) (by decide) (by decide) (by decide) dX2_init_23 rfl rfl (fun q2 => ?_)
  refine g_eq (ws' := [(h0, .inr (2, [.ref q0, .ref q1, .null, .int 0, .int 0])), (q0, .inl (c 0, 100, .inl (fun _ => 0))), (q1, .inl (c 0, 100, .inl (fun _ => 0))), (q2, .inl (c 0, 100, .inl (fun _ => 0)))]) rfl ?_
  refine g_putF (CC := RX2) (T := TX2) (N := 5) (fs' := [.ref q0, .ref q1, .ref q2, .int 0, .int 0]) (ty := .array .int) C hnm 2 rfl (by decide) ic_X2 lc_X2_18 rfl tyX2_ok nmX2 rfl rfl rfl rfl rfl (Nat.le_of_ble_eq_true rfl) dX2_init_25 rfl ?_
  refine g_aload_n C 0 dX2_init_28 rfl ?_
  refine g_get (CC := RX2) (T := TX2) (N := 5) C 0 rfl (by decide) ic_X2 lc_X2_9 rfl rfl dX2_init_29 ?_
  refine g_iconst (v := (-1)) C dX2_init_32 (by decide) ?_
  refine g_callS (n := 2) (As := [.ref q0, .int (-1)]) (st := []) (wr := [(h0, .inr (2, [.ref q0, .ref q1, .ref q2, .int 0, .int 0])), (q1, .inl (c 0, 100, .inl (fun _ => 0))), (q2, .inl (c 0, 100, .inl (fun _ => 0)))]) (k1 := 3) (k2 := 300) C [1] [0, 2, 3] (kfill (xl X) D c q0 100 (-1) (fun _ => 0) (by decide)) gX2_init_J7_fill_53178 rfl ⟨rfl, rfl⟩ (by decide +kernel) ⟨by decide, by decide⟩ ⟨by decide, by decide⟩ rfl (by decide) rfl rfl rfl rfl rfl (by decide) dX2_init_33 rfl rfl (fun _ => ?_)
  refine g_sub (ws' := [(h0, .inr (2, [.ref q0, .ref q1, .ref q2, .int 0, .int 0])), (q0, .inl (c 0, 100, .inl (fl1 100 (-1) (fun _ => 0) 100))), (q1, .inl (c 0, 100, .inl (fun _ => 0))), (q2, .inl (c 0, 100, .inl (fun _ => 0)))]) [0, 3, 1, 2] (by decide) rfl ?_
  exact g_vret C hQ (by decide) (by decide) (fun k => match k with | 0 => q0 | 1 => q1 | _ => q2) rfl dX2_init_36
theorem ic_X3 : ∀ w ∈ u_ws RX3 TX3 4, w ∈ wsX3_init := by decide +kernel
theorem lc_X3_9 : Cond.fieldLink RX3 9 "SameAgain$Folders" "in" "[I" ∈ wsX3_init := by decide +kernel
theorem lc_X3_15 : Cond.fieldLink RX3 15 "SameAgain$Folders" "name" "[I" ∈ wsX3_init := by decide +kernel
theorem lc_X3_18 : Cond.fieldLink RX3 18 "SameAgain$Folders" "above" "[I" ∈ wsX3_init := by decide +kernel
theorem lc_X3_21 : Cond.fieldLink RX3 21 "SameAgain$Folders" "made" "I" ∈ wsX3_init := by decide +kernel
def cs_X3 (c : Nat → ClassId) (h0 : Nat) (u : Nat → Nat) : va_W := [(h0, .inr (3, [.ref (u 0), .ref (u 1), .ref (u 2), .int 1])), ((u 0), .inl (c 0, 16, .inl (upd (fun _ => 0) 0 (-1)))), ((u 1), .inl (c 0, 16, .inl (upd (fun _ => 0) 0 (-1)))), ((u 2), .inl (c 0, 16, .inl (upd (fun _ => 0) 0 1)))]
set_option maxHeartbeats 4000000 in
set_option maxRecDepth 100000 in
theorem k_X3 (l : Launch) (D : va_G) (c : Nat → ClassId) (h0 : Nat) : MC D c l yX3_init wsX3_init ⟨1, 3, 48, 12⟩ 3 48 [.ref h0] h0 (.inr (3, [.null, .null, .null, .int 0])) (cs_X3 c h0) := by
  refine mc_of (cc := cX3_init) (maxL := 1) (lv0 := [(0, .ref h0)]) (by decide) rfl (Nat.le_of_ble_eq_true rfl) rfl ?_
  intro X Q A hl C hnm hQ
  replace C : CG D c A X cX3_init RX3 wsX3_init 1 ⟨1, 3, 48, 12⟩ := C
  replace hnm : (xt X).name = "<init>" := hnm
  refine g_aload_n C 0 dX3_init_0 rfl ?_
  refine g_obj C (by decide +kernel) (by decide +kernel) (by decide +kernel) (by decide) (by decide) dX3_init_1 ?_
  refine g_aload_n C 0 dX3_init_4 rfl ?_
  refine g_bipush (v := 16) C dX3_init_5 (by decide) ?_
  refine g_newa (N := 16) (a0 := (16, .inl (fun _ => 0))) (k1 := 1) (k2 := 16) C 0 rfl (fun x y h1 h2 => Option.some.inj (h1.symm.trans h2)) (by decide +kernel) rfl (fun cA => rfl) (by decide) (by decide) (by decide) (by decide) (by decide) dX3_init_7 rfl rfl (fun q0 => ?_)
  refine g_eq (ws' := [(h0, .inr (3, [.null, .null, .null, .int 0])), (q0, .inl (c 0, 16, .inl (fun _ => 0)))]) rfl ?_
  refine g_putF (CC := RX3) (T := TX3) (N := 4) (fs' := [.ref q0, .null, .null, .int 0]) (ty := .array .int) C hnm 0 rfl (by decide) ic_X3 lc_X3_9 rfl tyX3_ok nmX3 rfl rfl rfl rfl rfl (Nat.le_of_ble_eq_true rfl) dX3_init_9 rfl ?_
  refine g_aload_n C 0 dX3_init_12 rfl ?_
  refine g_bipush (v := 16) C dX3_init_13 (by decide) ?_
  refine g_newa (N := 16) (a0 := (16, .inl (fun _ => 0))) (k1 := 2) (k2 := 32) C 0 rfl (fun x y h1 h2 => Option.some.inj (h1.symm.trans h2)) (by decide +kernel) rfl (fun cA => rfl) (by decide) (by decide) (by decide) (by decide) (by decide) dX3_init_15 rfl rfl (fun q1 => ?_)
  refine g_eq (ws' := [(h0, .inr (3, [.ref q0, .null, .null, .int 0])), (q0, .inl (c 0, 16, .inl (fun _ => 0))), (q1, .inl (c 0, 16, .inl (fun _ => 0)))]) rfl ?_
  refine g_putF (CC := RX3) (T := TX3) (N := 4) (fs' := [.ref q0, .ref q1, .null, .int 0]) (ty := .array .int) C hnm 1 rfl (by decide) ic_X3 lc_X3_15 rfl tyX3_ok nmX3 rfl rfl rfl rfl rfl (Nat.le_of_ble_eq_true rfl) dX3_init_17 rfl ?_
  refine g_aload_n C 0 dX3_init_20 rfl ?_
  refine g_bipush (v := 16) C dX3_init_21 (by decide) ?_
  refine g_newa (N := 16) (a0 := (16, .inl (fun _ => 0))) (k1 := 3) (k2 := 48) C 0 rfl (fun x y h1 h2 => Option.some.inj (h1.symm.trans h2)) (by decide +kernel) rfl (fun cA => rfl) (by decide) (by decide) (by decide) (by decide) (by decide) dX3_init_23 rfl rfl (fun q2 => ?_)
  refine g_eq (ws' := [(h0, .inr (3, [.ref q0, .ref q1, .null, .int 0])), (q0, .inl (c 0, 16, .inl (fun _ => 0))), (q1, .inl (c 0, 16, .inl (fun _ => 0))), (q2, .inl (c 0, 16, .inl (fun _ => 0)))]) rfl ?_
  refine g_putF (CC := RX3) (T := TX3) (N := 4) (fs' := [.ref q0, .ref q1, .ref q2, .int 0]) (ty := .array .int) C hnm 2 rfl (by decide) ic_X3 lc_X3_18 rfl tyX3_ok nmX3 rfl rfl rfl rfl rfl (Nat.le_of_ble_eq_true rfl) dX3_init_25 rfl ?_
  refine g_aload_n C 0 dX3_init_28 rfl ?_
  refine g_get (CC := RX3) (T := TX3) (N := 4) C 0 rfl (by decide) ic_X3 lc_X3_9 rfl rfl dX3_init_29 ?_
  refine g_iconst (v := 0) C dX3_init_32 (by decide) ?_
  refine g_iconst (v := (-1)) C dX3_init_33 (by decide) ?_
  refine g_iast (ws' := [(h0, .inr (3, [.ref q0, .ref q1, .ref q2, .int 0])), (q0, .inl (c 0, 16, .inl (upd (fun _ => 0) 0 (-1)))), (q1, .inl (c 0, 16, .inl (fun _ => 0))), (q2, .inl (c 0, 16, .inl (fun _ => 0)))]) C 1 rfl (by unfold vp_in; decide) dX3_init_34 rfl ?_
  refine g_aload_n C 0 dX3_init_35 rfl ?_
  refine g_get (CC := RX3) (T := TX3) (N := 4) C 1 rfl (by decide) ic_X3 lc_X3_15 rfl rfl dX3_init_36 ?_
  refine g_iconst (v := 0) C dX3_init_39 (by decide) ?_
  refine g_iconst (v := (-1)) C dX3_init_40 (by decide) ?_
  refine g_iast (ws' := [(h0, .inr (3, [.ref q0, .ref q1, .ref q2, .int 0])), (q0, .inl (c 0, 16, .inl (upd (fun _ => 0) 0 (-1)))), (q1, .inl (c 0, 16, .inl (upd (fun _ => 0) 0 (-1)))), (q2, .inl (c 0, 16, .inl (fun _ => 0)))]) C 2 rfl (by unfold vp_in; decide) dX3_init_41 rfl ?_
  refine g_aload_n C 0 dX3_init_42 rfl ?_
  refine g_get (CC := RX3) (T := TX3) (N := 4) C 2 rfl (by decide) ic_X3 lc_X3_18 rfl rfl dX3_init_43 ?_
  refine g_iconst (v := 0) C dX3_init_46 (by decide) ?_
  refine g_iconst (v := 1) C dX3_init_47 (by decide) ?_
  refine g_iast (ws' := [(h0, .inr (3, [.ref q0, .ref q1, .ref q2, .int 0])), (q0, .inl (c 0, 16, .inl (upd (fun _ => 0) 0 (-1)))), (q1, .inl (c 0, 16, .inl (upd (fun _ => 0) 0 (-1)))), (q2, .inl (c 0, 16, .inl (upd (fun _ => 0) 0 1)))]) C 3 rfl (by unfold vp_in; decide) dX3_init_48 rfl ?_
  refine g_aload_n C 0 dX3_init_49 rfl ?_
  refine g_iconst (v := 1) C dX3_init_50 (by decide) ?_
  refine g_put (CC := RX3) (T := TX3) (N := 4) (fs' := [.ref q0, .ref q1, .ref q2, .int 1]) (ty := .int) C 3 rfl (by decide) ic_X3 lc_X3_21 rfl tyX3_ok nmX3 rfl rfl rfl rfl (Nat.le_of_ble_eq_true rfl) dX3_init_51 rfl ?_
  exact g_vret C hQ (by decide) (by decide) (fun k => match k with | 0 => q0 | 1 => q1 | _ => q2) rfl dX3_init_54
theorem ic_X4 : ∀ w ∈ u_ws RX4 TX4 4, w ∈ wsX4_init := by decide +kernel
theorem lc_X4_9 : Cond.fieldLink RX4 9 "SameAgain$Mergings" "body" "[I" ∈ wsX4_init := by decide +kernel
theorem lc_X4_17 : Cond.fieldLink RX4 17 "SameAgain$Mergings" "owner" "[[I" ∈ wsX4_init := by decide +kernel
def cs_X4 (c : Nat → ClassId) (h0 : Nat) (u : Nat → Nat) : va_W := (h0, .inr (4, [.ref (u 0), .ref (u 1), .int 0, .int 0])) :: (((u 0), .inl (c 0, 20, .inl (fun _ => 0))) :: (u 1, .inl (c 4, 20, .inr (.inr (.inr (.inr (fun i => if i < 20 then some (u (i + 2)) else none)))))) :: (List.range 20).map (fun i => (u (i + 2), .inl (c 0, 60, .inl (fun _ => 0)))))
set_option maxHeartbeats 4000000 in
set_option maxRecDepth 100000 in
theorem k_X4 (l : Launch) (D : va_G) (c : Nat → ClassId) (h0 : Nat) : MC D c l yX4_init wsX4_init ⟨1, 22, 1240, 12⟩ 22 1240 [.ref h0] h0 (.inr (4, [.null, .null, .int 0, .int 0])) (cs_X4 c h0) := by
  refine mc_of (cc := cX4_init) (maxL := 1) (lv0 := [(0, .ref h0)]) (by decide) rfl (Nat.le_of_ble_eq_true rfl) rfl ?_
  intro X Q A hl C hnm hQ
  replace C : CG D c A X cX4_init RX4 wsX4_init 1 ⟨1, 22, 1240, 12⟩ := C
  replace hnm : (xt X).name = "<init>" := hnm
  refine g_aload_n C 0 dX4_init_0 rfl ?_
  refine g_obj C (by decide +kernel) (by decide +kernel) (by decide +kernel) (by decide) (by decide) dX4_init_1 ?_
  refine g_aload_n C 0 dX4_init_4 rfl ?_
  refine g_bipush (v := 20) C dX4_init_5 (by decide) ?_
  refine g_newa (N := 20) (a0 := (20, .inl (fun _ => 0))) (k1 := 1) (k2 := 20) C 0 rfl (fun x y h1 h2 => Option.some.inj (h1.symm.trans h2)) (by decide +kernel) rfl (fun cA => rfl) (by decide) (by decide) (by decide) (by decide) (by decide) dX4_init_7 rfl rfl (fun q0 => ?_)
  refine g_eq (ws' := [(h0, .inr (4, [.null, .null, .int 0, .int 0])), (q0, .inl (c 0, 20, .inl (fun _ => 0)))]) rfl ?_
  refine g_putF (CC := RX4) (T := TX4) (N := 4) (fs' := [.ref q0, .null, .int 0, .int 0]) (ty := .array .int) C hnm 0 rfl (by decide) ic_X4 lc_X4_9 rfl tyX4_ok nmX4 rfl rfl rfl rfl rfl (Nat.le_of_ble_eq_true rfl) dX4_init_9 rfl ?_
  refine g_aload_n C 0 dX4_init_12 rfl ?_
  refine g_bipush (v := 20) C dX4_init_13 (by decide) ?_
  refine g_bipush (v := 60) C dX4_init_15 (by decide) ?_
  refine g_mna (k1 := 22) (k2 := 1240) C (by decide +kernel) (by decide +kernel) (by decide) (by decide) dX4_init_17 rfl rfl (fun q1 r => ?_)
  refine g_eq (ws' := (h0, .inr (4, [.ref q0, .null, .int 0, .int 0])) :: ((q0, .inl (c 0, 20, .inl (fun _ => 0))) ::  (q1, .inl (c 4, 20, .inr (.inr (.inr (.inr (fun i => if i < 20 then some (r i) else none)))))) :: (List.range 20).map (fun i => (r i, .inl (c 0, 60, .inl (fun _ => 0)))))) rfl ?_
  refine g_putF (CC := RX4) (T := TX4) (N := 4) (fs' := [.ref q0, .ref q1, .int 0, .int 0]) (ty := .array (.array .int)) C hnm 1 rfl (by decide) ic_X4 lc_X4_17 rfl tyX4_ok nmX4 rfl rfl rfl rfl rfl (Nat.le_of_ble_eq_true rfl) dX4_init_21 rfl ?_
  exact g_vret C hQ (by decide) (by decide) (fun k => match k with | 0 => q0 | 1 => q1 | k + 2 => r k) rfl dX4_init_24
theorem ic_X5 : ∀ w ∈ u_ws RX5 TX5 2, w ∈ wsX5_init := by decide +kernel
theorem lc_X5_9 : Cond.fieldLink RX5 9 "SameAgain$Pieces" "row" "[I" ∈ wsX5_init := by decide +kernel
def cs_X5 (c : Nat → ClassId) (h0 : Nat) (u : Nat → Nat) : va_W := [(h0, .inr (5, [.ref (u 0), .int 0])), ((u 0), .inl (c 0, 61, .inl (fun _ => 0)))]
set_option maxHeartbeats 4000000 in
set_option maxRecDepth 100000 in
theorem k_X5 (l : Launch) (D : va_G) (c : Nat → ClassId) (h0 : Nat) : MC D c l yX5_init wsX5_init ⟨1, 1, 61, 12⟩ 1 61 [.ref h0] h0 (.inr (5, [.null, .int 0])) (cs_X5 c h0) := by
  refine mc_of (cc := cX5_init) (maxL := 1) (lv0 := [(0, .ref h0)]) (by decide) rfl (Nat.le_of_ble_eq_true rfl) rfl ?_
  intro X Q A hl C hnm hQ
  replace C : CG D c A X cX5_init RX5 wsX5_init 1 ⟨1, 1, 61, 12⟩ := C
  replace hnm : (xt X).name = "<init>" := hnm
  refine g_aload_n C 0 dX5_init_0 rfl ?_
  refine g_obj C (by decide +kernel) (by decide +kernel) (by decide +kernel) (by decide) (by decide) dX5_init_1 ?_
  refine g_aload_n C 0 dX5_init_4 rfl ?_
  refine g_bipush (v := 61) C dX5_init_5 (by decide) ?_
  refine g_newa (N := 61) (a0 := (61, .inl (fun _ => 0))) (k1 := 1) (k2 := 61) C 0 rfl (fun x y h1 h2 => Option.some.inj (h1.symm.trans h2)) (by decide +kernel) rfl (fun cA => rfl) (by decide) (by decide) (by decide) (by decide) (by decide) dX5_init_7 rfl rfl (fun q0 => ?_)
  refine g_eq (ws' := [(h0, .inr (5, [.null, .int 0])), (q0, .inl (c 0, 61, .inl (fun _ => 0)))]) rfl ?_
  refine g_putF (CC := RX5) (T := TX5) (N := 2) (fs' := [.ref q0, .int 0]) (ty := .array .int) C hnm 0 rfl (by decide) ic_X5 lc_X5_9 rfl tyX5_ok nmX5 rfl rfl rfl rfl rfl (Nat.le_of_ble_eq_true rfl) dX5_init_9 rfl ?_
  exact g_vret C hQ (by decide) (by decide) (fun _ => q0) rfl dX5_init_12
theorem ic_X6 : ∀ w ∈ u_ws RX6 TX6 3, w ∈ wsX6_init := by decide +kernel
theorem lc_X6_9 : Cond.fieldLink RX6 9 "SameAgain$Wishes" "what" "[I" ∈ wsX6_init := by decide +kernel
theorem lc_X6_15 : Cond.fieldLink RX6 15 "SameAgain$Wishes" "folder" "[I" ∈ wsX6_init := by decide +kernel
def cs_X6 (c : Nat → ClassId) (h0 : Nat) (u : Nat → Nat) : va_W := [(h0, .inr (6, [.ref (u 0), .ref (u 1), .int 0])), ((u 0), .inl (c 0, 3, .inl (fun _ => 0))), ((u 1), .inl (c 0, 3, .inl (fun _ => 0)))]
set_option maxHeartbeats 4000000 in
set_option maxRecDepth 100000 in
theorem k_X6 (l : Launch) (D : va_G) (c : Nat → ClassId) (h0 : Nat) : MC D c l yX6_init wsX6_init ⟨1, 2, 6, 12⟩ 2 6 [.ref h0] h0 (.inr (6, [.null, .null, .int 0])) (cs_X6 c h0) := by
  refine mc_of (cc := cX6_init) (maxL := 1) (lv0 := [(0, .ref h0)]) (by decide) rfl (Nat.le_of_ble_eq_true rfl) rfl ?_
  intro X Q A hl C hnm hQ
  replace C : CG D c A X cX6_init RX6 wsX6_init 1 ⟨1, 2, 6, 12⟩ := C
  replace hnm : (xt X).name = "<init>" := hnm
  refine g_aload_n C 0 dX6_init_0 rfl ?_
  refine g_obj C (by decide +kernel) (by decide +kernel) (by decide +kernel) (by decide) (by decide) dX6_init_1 ?_
  refine g_aload_n C 0 dX6_init_4 rfl ?_
  refine g_iconst (v := 3) C dX6_init_5 (by decide) ?_
  refine g_newa (N := 3) (a0 := (3, .inl (fun _ => 0))) (k1 := 1) (k2 := 3) C 0 rfl (fun x y h1 h2 => Option.some.inj (h1.symm.trans h2)) (by decide +kernel) rfl (fun cA => rfl) (by decide) (by decide) (by decide) (by decide) (by decide) dX6_init_6 rfl rfl (fun q0 => ?_)
  refine g_eq (ws' := [(h0, .inr (6, [.null, .null, .int 0])), (q0, .inl (c 0, 3, .inl (fun _ => 0)))]) rfl ?_
  refine g_putF (CC := RX6) (T := TX6) (N := 3) (fs' := [.ref q0, .null, .int 0]) (ty := .array .int) C hnm 0 rfl (by decide) ic_X6 lc_X6_9 rfl tyX6_ok nmX6 rfl rfl rfl rfl rfl (Nat.le_of_ble_eq_true rfl) dX6_init_8 rfl ?_
  refine g_aload_n C 0 dX6_init_11 rfl ?_
  refine g_iconst (v := 3) C dX6_init_12 (by decide) ?_
  refine g_newa (N := 3) (a0 := (3, .inl (fun _ => 0))) (k1 := 2) (k2 := 6) C 0 rfl (fun x y h1 h2 => Option.some.inj (h1.symm.trans h2)) (by decide +kernel) rfl (fun cA => rfl) (by decide) (by decide) (by decide) (by decide) (by decide) dX6_init_13 rfl rfl (fun q1 => ?_)
  refine g_eq (ws' := [(h0, .inr (6, [.ref q0, .null, .int 0])), (q0, .inl (c 0, 3, .inl (fun _ => 0))), (q1, .inl (c 0, 3, .inl (fun _ => 0)))]) rfl ?_
  refine g_putF (CC := RX6) (T := TX6) (N := 3) (fs' := [.ref q0, .ref q1, .int 0]) (ty := .array .int) C hnm 1 rfl (by decide) ic_X6 lc_X6_15 rfl tyX6_ok nmX6 rfl rfl rfl rfl rfl (Nat.le_of_ble_eq_true rfl) dX6_init_15 rfl ?_
  exact g_vret C hQ (by decide) (by decide) (fun k => match k with | 0 => q0 | _ => q1) rfl dX6_init_18
theorem ic_X8 : ∀ w ∈ u_ws RX8 TX8 34, w ∈ wsX8_init := by decide +kernel
theorem lc_X8_7 : Cond.fieldLink RX8 7 "SameAgainModel" "folders" "I" ∈ wsX8_init := by decide +kernel
theorem lc_X8_13 : Cond.fieldLink RX8 13 "SameAgainModel" "folderIn" "[I" ∈ wsX8_init := by decide +kernel
theorem lc_X8_17 : Cond.fieldLink RX8 17 "SameAgainModel" "folderName" "[I" ∈ wsX8_init := by decide +kernel
theorem lc_X8_20 : Cond.fieldLink RX8 20 "SameAgainModel" "in" "[I" ∈ wsX8_init := by decide +kernel
theorem lc_X8_23 : Cond.fieldLink RX8 23 "SameAgainModel" "name" "[I" ∈ wsX8_init := by decide +kernel
theorem lc_X8_26 : Cond.fieldLink RX8 26 "SameAgainModel" "body" "[I" ∈ wsX8_init := by decide +kernel
theorem lc_X8_29 : Cond.fieldLink RX8 29 "SameAgainModel" "isHeld" "[Z" ∈ wsX8_init := by decide +kernel
theorem lc_X8_33 : Cond.fieldLink RX8 33 "SameAgainModel" "size" "[I" ∈ wsX8_init := by decide +kernel
theorem lc_X8_36 : Cond.fieldLink RX8 36 "SameAgainModel" "owner" "[I" ∈ wsX8_init := by decide +kernel
theorem lc_X8_39 : Cond.fieldLink RX8 39 "SameAgainModel" "written" "[I" ∈ wsX8_init := by decide +kernel
theorem lc_X8_42 : Cond.fieldLink RX8 42 "SameAgainModel" "group" "[I" ∈ wsX8_init := by decide +kernel
theorem lc_X8_45 : Cond.fieldLink RX8 45 "SameAgainModel" "bytes" "[I" ∈ wsX8_init := by decide +kernel
theorem lc_X8_48 : Cond.fieldLink RX8 48 "SameAgainModel" "wish" "[I" ∈ wsX8_init := by decide +kernel
theorem lc_X8_51 : Cond.fieldLink RX8 51 "SameAgainModel" "wishFolder" "[I" ∈ wsX8_init := by decide +kernel
theorem lc_X8_54 : Cond.fieldLink RX8 54 "SameAgainModel" "leave" "[I" ∈ wsX8_init := by decide +kernel
theorem lc_X8_57 : Cond.fieldLink RX8 57 "SameAgainModel" "mergedMany" "[I" ∈ wsX8_init := by decide +kernel
theorem lc_X8_60 : Cond.fieldLink RX8 60 "SameAgainModel" "mergedTo" "[I" ∈ wsX8_init := by decide +kernel
theorem lc_X8_63 : Cond.fieldLink RX8 63 "SameAgainModel" "mergedFile" "[I" ∈ wsX8_init := by decide +kernel
theorem lc_X8_66 : Cond.fieldLink RX8 66 "SameAgainModel" "mergedOwner" "[I" ∈ wsX8_init := by decide +kernel
theorem lc_X8_69 : Cond.fieldLink RX8 69 "SameAgainModel" "heap" "[I" ∈ wsX8_init := by decide +kernel
theorem lc_X8_72 : Cond.fieldLink RX8 72 "SameAgainModel" "next" "[I" ∈ wsX8_init := by decide +kernel
theorem lc_X8_75 : Cond.fieldLink RX8 75 "SameAgainModel" "left" "[I" ∈ wsX8_init := by decide +kernel
theorem lc_X8_78 : Cond.fieldLink RX8 78 "SameAgainModel" "beside" "[I" ∈ wsX8_init := by decide +kernel
theorem lc_X8_81 : Cond.fieldLink RX8 81 "SameAgainModel" "some" "[I" ∈ wsX8_init := by decide +kernel
theorem lc_X8_84 : Cond.fieldLink RX8 84 "SameAgainModel" "theirs" "[I" ∈ wsX8_init := by decide +kernel
def cs_X8 (c : Nat → ClassId) (h0 : Nat) (u : Nat → Nat) : va_W := [(h0, .inr (8, [.int 0, .int 1, .int 0, .int 0, .int 0, .int 0, .int 0, .int 0, .int 0, .ref (u 0), .ref (u 1), .ref (u 2), .ref (u 3), .ref (u 4), .ref (u 5), .ref (u 6), .ref (u 7), .ref (u 8), .ref (u 9), .ref (u 10), .ref (u 11), .ref (u 12), .ref (u 13), .int 0, .ref (u 14), .ref (u 15), .ref (u 16), .ref (u 17), .ref (u 18), .ref (u 19), .ref (u 20), .ref (u 21), .ref (u 22), .ref (u 23)])), ((u 0), .inl (c 0, 16, .inl (upd (fun _ => 0) 0 (-1)))), ((u 1), .inl (c 0, 16, .inl (fun _ => 0))), ((u 2), .inl (c 0, 60, .inl (fun _ => 0))), ((u 3), .inl (c 0, 60, .inl (fun _ => 0))), ((u 4), .inl (c 0, 60, .inl (fun _ => 0))), ((u 5), .inl (c 2, 60, .inl (fun _ => 0))), ((u 6), .inl (c 0, 100, .inl (fun _ => 0))), ((u 7), .inl (c 0, 100, .inl (fun _ => 0))), ((u 8), .inl (c 0, 100, .inl (fun _ => 0))), ((u 9), .inl (c 0, 100, .inl (fun _ => 0))), ((u 10), .inl (c 0, 6400, .inl (fun _ => 0))), ((u 11), .inl (c 0, 3, .inl (fun _ => 0))), ((u 12), .inl (c 0, 3, .inl (fun _ => 0))), ((u 13), .inl (c 0, 8, .inl (fun _ => 0))), ((u 14), .inl (c 0, 20, .inl (fun _ => 0))), ((u 15), .inl (c 0, 20, .inl (fun _ => 0))), ((u 16), .inl (c 0, 1200, .inl (fun _ => 0))), ((u 17), .inl (c 0, 1200, .inl (fun _ => 0))), ((u 18), .inl (c 0, 100, .inl (fun _ => 0))), ((u 19), .inl (c 0, 100, .inl (fun _ => 0))), ((u 20), .inl (c 0, 16, .inl (fun _ => 0))), ((u 21), .inl (c 0, 16, .inl (fun _ => 0))), ((u 22), .inl (c 0, 60, .inl (fun _ => 0))), ((u 23), .inl (c 0, 60, .inl (fun _ => 0)))]
set_option maxHeartbeats 4000000 in
set_option maxRecDepth 100000 in
theorem k_X8 (l : Launch) (D : va_G) (c : Nat → ClassId) (h0 : Nat) : MC D c l yX8_init wsX8_init ⟨1, 24, 9878, 12⟩ 24 9878 [.ref h0] h0 (.inr (8, [.int 0, .int 0, .int 0, .int 0, .int 0, .int 0, .int 0, .int 0, .int 0, .null, .null, .null, .null, .null, .null, .null, .null, .null, .null, .null, .null, .null, .null, .int 0, .null, .null, .null, .null, .null, .null, .null, .null, .null, .null])) (cs_X8 c h0) := by
  refine mc_of (cc := cX8_init) (maxL := 1) (lv0 := [(0, .ref h0)]) (by decide) rfl (Nat.le_of_ble_eq_true rfl) rfl ?_
  intro X Q A hl C hnm hQ
  replace C : CG D c A X cX8_init RX8 wsX8_init 1 ⟨1, 24, 9878, 12⟩ := C
  replace hnm : (xt X).name = "<init>" := hnm
  refine g_aload_n C 0 dX8_init_0 rfl ?_
  refine g_obj C (by decide +kernel) (by decide +kernel) (by decide +kernel) (by decide) (by decide) dX8_init_1 ?_
  refine g_aload_n C 0 dX8_init_4 rfl ?_
  refine g_iconst (v := 1) C dX8_init_5 (by decide) ?_
  refine g_put (CC := RX8) (T := TX8) (N := 34) (fs' := [.int 0, .int 1, .int 0, .int 0, .int 0, .int 0, .int 0, .int 0, .int 0, .null, .null, .null, .null, .null, .null, .null, .null, .null, .null, .null, .null, .null, .null, .int 0, .null, .null, .null, .null, .null, .null, .null, .null, .null, .null]) (ty := .int) C 1 rfl (by decide) ic_X8 lc_X8_7 rfl tyX8_ok nmX8 rfl rfl rfl rfl (Nat.le_of_ble_eq_true rfl) dX8_init_6 rfl ?_
  refine g_aload_n C 0 dX8_init_9 rfl ?_
  refine g_bipush (v := 16) C dX8_init_10 (by decide) ?_
  refine g_newa (N := 16) (a0 := (16, .inl (fun _ => 0))) (k1 := 1) (k2 := 16) C 0 rfl (fun x y h1 h2 => Option.some.inj (h1.symm.trans h2)) (by decide +kernel) rfl (fun cA => rfl) (by decide) (by decide) (by decide) (by decide) (by decide) dX8_init_12 rfl rfl (fun q0 => ?_)
  refine g_eq (ws' := [(h0, .inr (8, [.int 0, .int 1, .int 0, .int 0, .int 0, .int 0, .int 0, .int 0, .int 0, .null, .null, .null, .null, .null, .null, .null, .null, .null, .null, .null, .null, .null, .null, .int 0, .null, .null, .null, .null, .null, .null, .null, .null, .null, .null])), (q0, .inl (c 0, 16, .inl (fun _ => 0)))]) rfl ?_
  refine g_putF (CC := RX8) (T := TX8) (N := 34) (fs' := [.int 0, .int 1, .int 0, .int 0, .int 0, .int 0, .int 0, .int 0, .int 0, .ref q0, .null, .null, .null, .null, .null, .null, .null, .null, .null, .null, .null, .null, .null, .int 0, .null, .null, .null, .null, .null, .null, .null, .null, .null, .null]) (ty := .array .int) C hnm 9 rfl (by decide) ic_X8 lc_X8_13 rfl tyX8_ok nmX8 rfl rfl rfl rfl rfl (Nat.le_of_ble_eq_true rfl) dX8_init_14 rfl ?_
  refine g_aload_n C 0 dX8_init_17 rfl ?_
  refine g_bipush (v := 16) C dX8_init_18 (by decide) ?_
  refine g_newa (N := 16) (a0 := (16, .inl (fun _ => 0))) (k1 := 2) (k2 := 32) C 0 rfl (fun x y h1 h2 => Option.some.inj (h1.symm.trans h2)) (by decide +kernel) rfl (fun cA => rfl) (by decide) (by decide) (by decide) (by decide) (by decide) dX8_init_20 rfl rfl (fun q1 => ?_)
  refine g_eq (ws' := [(h0, .inr (8, [.int 0, .int 1, .int 0, .int 0, .int 0, .int 0, .int 0, .int 0, .int 0, .ref q0, .null, .null, .null, .null, .null, .null, .null, .null, .null, .null, .null, .null, .null, .int 0, .null, .null, .null, .null, .null, .null, .null, .null, .null, .null])), (q0, .inl (c 0, 16, .inl (fun _ => 0))), (q1, .inl (c 0, 16, .inl (fun _ => 0)))]) rfl ?_
  refine g_putF (CC := RX8) (T := TX8) (N := 34) (fs' := [.int 0, .int 1, .int 0, .int 0, .int 0, .int 0, .int 0, .int 0, .int 0, .ref q0, .ref q1, .null, .null, .null, .null, .null, .null, .null, .null, .null, .null, .null, .null, .int 0, .null, .null, .null, .null, .null, .null, .null, .null, .null, .null]) (ty := .array .int) C hnm 10 rfl (by decide) ic_X8 lc_X8_17 rfl tyX8_ok nmX8 rfl rfl rfl rfl rfl (Nat.le_of_ble_eq_true rfl) dX8_init_22 rfl ?_
  refine g_aload_n C 0 dX8_init_25 rfl ?_
  refine g_bipush (v := 60) C dX8_init_26 (by decide) ?_
  refine g_newa (N := 60) (a0 := (60, .inl (fun _ => 0))) (k1 := 3) (k2 := 92) C 0 rfl (fun x y h1 h2 => Option.some.inj (h1.symm.trans h2)) (by decide +kernel) rfl (fun cA => rfl) (by decide) (by decide) (by decide) (by decide) (by decide) dX8_init_28 rfl rfl (fun q2 => ?_)
  refine g_eq (ws' := [(h0, .inr (8, [.int 0, .int 1, .int 0, .int 0, .int 0, .int 0, .int 0, .int 0, .int 0, .ref q0, .ref q1, .null, .null, .null, .null, .null, .null, .null, .null, .null, .null, .null, .null, .int 0, .null, .null, .null, .null, .null, .null, .null, .null, .null, .null])), (q0, .inl (c 0, 16, .inl (fun _ => 0))), (q1, .inl (c 0, 16, .inl (fun _ => 0))), (q2, .inl (c 0, 60, .inl (fun _ => 0)))]) rfl ?_
  refine g_putF (CC := RX8) (T := TX8) (N := 34) (fs' := [.int 0, .int 1, .int 0, .int 0, .int 0, .int 0, .int 0, .int 0, .int 0, .ref q0, .ref q1, .ref q2, .null, .null, .null, .null, .null, .null, .null, .null, .null, .null, .null, .int 0, .null, .null, .null, .null, .null, .null, .null, .null, .null, .null]) (ty := .array .int) C hnm 11 rfl (by decide) ic_X8 lc_X8_20 rfl tyX8_ok nmX8 rfl rfl rfl rfl rfl (Nat.le_of_ble_eq_true rfl) dX8_init_30 rfl ?_
  refine g_aload_n C 0 dX8_init_33 rfl ?_
  refine g_bipush (v := 60) C dX8_init_34 (by decide) ?_
  refine g_newa (N := 60) (a0 := (60, .inl (fun _ => 0))) (k1 := 4) (k2 := 152) C 0 rfl (fun x y h1 h2 => Option.some.inj (h1.symm.trans h2)) (by decide +kernel) rfl (fun cA => rfl) (by decide) (by decide) (by decide) (by decide) (by decide) dX8_init_36 rfl rfl (fun q3 => ?_)
  refine g_eq (ws' := [(h0, .inr (8, [.int 0, .int 1, .int 0, .int 0, .int 0, .int 0, .int 0, .int 0, .int 0, .ref q0, .ref q1, .ref q2, .null, .null, .null, .null, .null, .null, .null, .null, .null, .null, .null, .int 0, .null, .null, .null, .null, .null, .null, .null, .null, .null, .null])), (q0, .inl (c 0, 16, .inl (fun _ => 0))), (q1, .inl (c 0, 16, .inl (fun _ => 0))), (q2, .inl (c 0, 60, .inl (fun _ => 0))), (q3, .inl (c 0, 60, .inl (fun _ => 0)))]) rfl ?_
  refine g_putF (CC := RX8) (T := TX8) (N := 34) (fs' := [.int 0, .int 1, .int 0, .int 0, .int 0, .int 0, .int 0, .int 0, .int 0, .ref q0, .ref q1, .ref q2, .ref q3, .null, .null, .null, .null, .null, .null, .null, .null, .null, .null, .int 0, .null, .null, .null, .null, .null, .null, .null, .null, .null, .null]) (ty := .array .int) C hnm 12 rfl (by decide) ic_X8 lc_X8_23 rfl tyX8_ok nmX8 rfl rfl rfl rfl rfl (Nat.le_of_ble_eq_true rfl) dX8_init_38 rfl ?_
  refine g_aload_n C 0 dX8_init_41 rfl ?_
  refine g_bipush (v := 60) C dX8_init_42 (by decide) ?_
  refine g_newa (N := 60) (a0 := (60, .inl (fun _ => 0))) (k1 := 5) (k2 := 212) C 0 rfl (fun x y h1 h2 => Option.some.inj (h1.symm.trans h2)) (by decide +kernel) rfl (fun cA => rfl) (by decide) (by decide) (by decide) (by decide) (by decide) dX8_init_44 rfl rfl (fun q4 => ?_)
  refine g_eq (ws' := [(h0, .inr (8, [.int 0, .int 1, .int 0, .int 0, .int 0, .int 0, .int 0, .int 0, .int 0, .ref q0, .ref q1, .ref q2, .ref q3, .null, .null, .null, .null, .null, .null, .null, .null, .null, .null, .int 0, .null, .null, .null, .null, .null, .null, .null, .null, .null, .null])), (q0, .inl (c 0, 16, .inl (fun _ => 0))), (q1, .inl (c 0, 16, .inl (fun _ => 0))), (q2, .inl (c 0, 60, .inl (fun _ => 0))), (q3, .inl (c 0, 60, .inl (fun _ => 0))), (q4, .inl (c 0, 60, .inl (fun _ => 0)))]) rfl ?_
  refine g_putF (CC := RX8) (T := TX8) (N := 34) (fs' := [.int 0, .int 1, .int 0, .int 0, .int 0, .int 0, .int 0, .int 0, .int 0, .ref q0, .ref q1, .ref q2, .ref q3, .ref q4, .null, .null, .null, .null, .null, .null, .null, .null, .null, .int 0, .null, .null, .null, .null, .null, .null, .null, .null, .null, .null]) (ty := .array .int) C hnm 13 rfl (by decide) ic_X8 lc_X8_26 rfl tyX8_ok nmX8 rfl rfl rfl rfl rfl (Nat.le_of_ble_eq_true rfl) dX8_init_46 rfl ?_
  refine g_aload_n C 0 dX8_init_49 rfl ?_
  refine g_bipush (v := 60) C dX8_init_50 (by decide) ?_
  refine g_newa (N := 60) (a0 := (60, .inl (fun _ => 0))) (k1 := 6) (k2 := 272) C 2 rfl (fun x y h1 h2 => Option.some.inj (h1.symm.trans h2)) (by decide +kernel) rfl (fun cA => rfl) (by decide) (by decide) (by decide) (by decide) (by decide) dX8_init_52 rfl rfl (fun q5 => ?_)
  refine g_eq (ws' := [(h0, .inr (8, [.int 0, .int 1, .int 0, .int 0, .int 0, .int 0, .int 0, .int 0, .int 0, .ref q0, .ref q1, .ref q2, .ref q3, .ref q4, .null, .null, .null, .null, .null, .null, .null, .null, .null, .int 0, .null, .null, .null, .null, .null, .null, .null, .null, .null, .null])), (q0, .inl (c 0, 16, .inl (fun _ => 0))), (q1, .inl (c 0, 16, .inl (fun _ => 0))), (q2, .inl (c 0, 60, .inl (fun _ => 0))), (q3, .inl (c 0, 60, .inl (fun _ => 0))), (q4, .inl (c 0, 60, .inl (fun _ => 0))), (q5, .inl (c 2, 60, .inl (fun _ => 0)))]) rfl ?_
  refine g_putF (CC := RX8) (T := TX8) (N := 34) (fs' := [.int 0, .int 1, .int 0, .int 0, .int 0, .int 0, .int 0, .int 0, .int 0, .ref q0, .ref q1, .ref q2, .ref q3, .ref q4, .ref q5, .null, .null, .null, .null, .null, .null, .null, .null, .int 0, .null, .null, .null, .null, .null, .null, .null, .null, .null, .null]) (ty := .array .boolean) C hnm 14 rfl (by decide) ic_X8 lc_X8_29 rfl tyX8_ok nmX8 rfl rfl rfl rfl rfl (Nat.le_of_ble_eq_true rfl) dX8_init_54 rfl ?_
  refine g_aload_n C 0 dX8_init_57 rfl ?_
  refine g_bipush (v := 100) C dX8_init_58 (by decide) ?_
  refine g_newa (N := 100) (a0 := (100, .inl (fun _ => 0))) (k1 := 7) (k2 := 372) C 0 rfl (fun x y h1 h2 => Option.some.inj (h1.symm.trans h2)) (by decide +kernel) rfl (fun cA => rfl) (by decide) (by decide) (by decide) (by decide) (by decide) dX8_init_60 rfl rfl (fun q6 => ?_)
  refine g_eq (ws' := [(h0, .inr (8, [.int 0, .int 1, .int 0, .int 0, .int 0, .int 0, .int 0, .int 0, .int 0, .ref q0, .ref q1, .ref q2, .ref q3, .ref q4, .ref q5, .null, .null, .null, .null, .null, .null, .null, .null, .int 0, .null, .null, .null, .null, .null, .null, .null, .null, .null, .null])), (q0, .inl (c 0, 16, .inl (fun _ => 0))), (q1, .inl (c 0, 16, .inl (fun _ => 0))), (q2, .inl (c 0, 60, .inl (fun _ => 0))), (q3, .inl (c 0, 60, .inl (fun _ => 0))), (q4, .inl (c 0, 60, .inl (fun _ => 0))), (q5, .inl (c 2, 60, .inl (fun _ => 0))), (q6, .inl (c 0, 100, .inl (fun _ => 0)))]) rfl ?_
  refine g_putF (CC := RX8) (T := TX8) (N := 34) (fs' := [.int 0, .int 1, .int 0, .int 0, .int 0, .int 0, .int 0, .int 0, .int 0, .ref q0, .ref q1, .ref q2, .ref q3, .ref q4, .ref q5, .ref q6, .null, .null, .null, .null, .null, .null, .null, .int 0, .null, .null, .null, .null, .null, .null, .null, .null, .null, .null]) (ty := .array .int) C hnm 15 rfl (by decide) ic_X8 lc_X8_33 rfl tyX8_ok nmX8 rfl rfl rfl rfl rfl (Nat.le_of_ble_eq_true rfl) dX8_init_62 rfl ?_
  refine g_aload_n C 0 dX8_init_65 rfl ?_
  refine g_bipush (v := 100) C dX8_init_66 (by decide) ?_
  refine g_newa (N := 100) (a0 := (100, .inl (fun _ => 0))) (k1 := 8) (k2 := 472) C 0 rfl (fun x y h1 h2 => Option.some.inj (h1.symm.trans h2)) (by decide +kernel) rfl (fun cA => rfl) (by decide) (by decide) (by decide) (by decide) (by decide) dX8_init_68 rfl rfl (fun q7 => ?_)
  refine g_eq (ws' := [(h0, .inr (8, [.int 0, .int 1, .int 0, .int 0, .int 0, .int 0, .int 0, .int 0, .int 0, .ref q0, .ref q1, .ref q2, .ref q3, .ref q4, .ref q5, .ref q6, .null, .null, .null, .null, .null, .null, .null, .int 0, .null, .null, .null, .null, .null, .null, .null, .null, .null, .null])), (q0, .inl (c 0, 16, .inl (fun _ => 0))), (q1, .inl (c 0, 16, .inl (fun _ => 0))), (q2, .inl (c 0, 60, .inl (fun _ => 0))), (q3, .inl (c 0, 60, .inl (fun _ => 0))), (q4, .inl (c 0, 60, .inl (fun _ => 0))), (q5, .inl (c 2, 60, .inl (fun _ => 0))), (q6, .inl (c 0, 100, .inl (fun _ => 0))), (q7, .inl (c 0, 100, .inl (fun _ => 0)))]) rfl ?_
  refine g_putF (CC := RX8) (T := TX8) (N := 34) (fs' := [.int 0, .int 1, .int 0, .int 0, .int 0, .int 0, .int 0, .int 0, .int 0, .ref q0, .ref q1, .ref q2, .ref q3, .ref q4, .ref q5, .ref q6, .ref q7, .null, .null, .null, .null, .null, .null, .int 0, .null, .null, .null, .null, .null, .null, .null, .null, .null, .null]) (ty := .array .int) C hnm 16 rfl (by decide) ic_X8 lc_X8_36 rfl tyX8_ok nmX8 rfl rfl rfl rfl rfl (Nat.le_of_ble_eq_true rfl) dX8_init_70 rfl ?_
  refine g_aload_n C 0 dX8_init_73 rfl ?_
  refine g_bipush (v := 100) C dX8_init_74 (by decide) ?_
  refine g_newa (N := 100) (a0 := (100, .inl (fun _ => 0))) (k1 := 9) (k2 := 572) C 0 rfl (fun x y h1 h2 => Option.some.inj (h1.symm.trans h2)) (by decide +kernel) rfl (fun cA => rfl) (by decide) (by decide) (by decide) (by decide) (by decide) dX8_init_76 rfl rfl (fun q8 => ?_)
  refine g_eq (ws' := [(h0, .inr (8, [.int 0, .int 1, .int 0, .int 0, .int 0, .int 0, .int 0, .int 0, .int 0, .ref q0, .ref q1, .ref q2, .ref q3, .ref q4, .ref q5, .ref q6, .ref q7, .null, .null, .null, .null, .null, .null, .int 0, .null, .null, .null, .null, .null, .null, .null, .null, .null, .null])), (q0, .inl (c 0, 16, .inl (fun _ => 0))), (q1, .inl (c 0, 16, .inl (fun _ => 0))), (q2, .inl (c 0, 60, .inl (fun _ => 0))), (q3, .inl (c 0, 60, .inl (fun _ => 0))), (q4, .inl (c 0, 60, .inl (fun _ => 0))), (q5, .inl (c 2, 60, .inl (fun _ => 0))), (q6, .inl (c 0, 100, .inl (fun _ => 0))), (q7, .inl (c 0, 100, .inl (fun _ => 0))), (q8, .inl (c 0, 100, .inl (fun _ => 0)))]) rfl ?_
  refine g_putF (CC := RX8) (T := TX8) (N := 34) (fs' := [.int 0, .int 1, .int 0, .int 0, .int 0, .int 0, .int 0, .int 0, .int 0, .ref q0, .ref q1, .ref q2, .ref q3, .ref q4, .ref q5, .ref q6, .ref q7, .ref q8, .null, .null, .null, .null, .null, .int 0, .null, .null, .null, .null, .null, .null, .null, .null, .null, .null]) (ty := .array .int) C hnm 17 rfl (by decide) ic_X8 lc_X8_39 rfl tyX8_ok nmX8 rfl rfl rfl rfl rfl (Nat.le_of_ble_eq_true rfl) dX8_init_78 rfl ?_
  refine g_aload_n C 0 dX8_init_81 rfl ?_
  refine g_bipush (v := 100) C dX8_init_82 (by decide) ?_
  refine g_newa (N := 100) (a0 := (100, .inl (fun _ => 0))) (k1 := 10) (k2 := 672) C 0 rfl (fun x y h1 h2 => Option.some.inj (h1.symm.trans h2)) (by decide +kernel) rfl (fun cA => rfl) (by decide) (by decide) (by decide) (by decide) (by decide) dX8_init_84 rfl rfl (fun q9 => ?_)
  refine g_eq (ws' := [(h0, .inr (8, [.int 0, .int 1, .int 0, .int 0, .int 0, .int 0, .int 0, .int 0, .int 0, .ref q0, .ref q1, .ref q2, .ref q3, .ref q4, .ref q5, .ref q6, .ref q7, .ref q8, .null, .null, .null, .null, .null, .int 0, .null, .null, .null, .null, .null, .null, .null, .null, .null, .null])), (q0, .inl (c 0, 16, .inl (fun _ => 0))), (q1, .inl (c 0, 16, .inl (fun _ => 0))), (q2, .inl (c 0, 60, .inl (fun _ => 0))), (q3, .inl (c 0, 60, .inl (fun _ => 0))), (q4, .inl (c 0, 60, .inl (fun _ => 0))), (q5, .inl (c 2, 60, .inl (fun _ => 0))), (q6, .inl (c 0, 100, .inl (fun _ => 0))), (q7, .inl (c 0, 100, .inl (fun _ => 0))), (q8, .inl (c 0, 100, .inl (fun _ => 0))), (q9, .inl (c 0, 100, .inl (fun _ => 0)))]) rfl ?_
  refine g_putF (CC := RX8) (T := TX8) (N := 34) (fs' := [.int 0, .int 1, .int 0, .int 0, .int 0, .int 0, .int 0, .int 0, .int 0, .ref q0, .ref q1, .ref q2, .ref q3, .ref q4, .ref q5, .ref q6, .ref q7, .ref q8, .ref q9, .null, .null, .null, .null, .int 0, .null, .null, .null, .null, .null, .null, .null, .null, .null, .null]) (ty := .array .int) C hnm 18 rfl (by decide) ic_X8 lc_X8_42 rfl tyX8_ok nmX8 rfl rfl rfl rfl rfl (Nat.le_of_ble_eq_true rfl) dX8_init_86 rfl ?_
  refine g_aload_n C 0 dX8_init_89 rfl ?_
  refine g_sipush (v := 6400) C dX8_init_90 (by decide) ?_
  refine g_newa (N := 6400) (a0 := (6400, .inl (fun _ => 0))) (k1 := 11) (k2 := 7072) C 0 rfl (fun x y h1 h2 => Option.some.inj (h1.symm.trans h2)) (by decide +kernel) rfl (fun cA => rfl) (by decide) (by decide) (by decide) (by decide) (by decide) dX8_init_93 rfl rfl (fun q10 => ?_)
  refine g_eq (ws' := [(h0, .inr (8, [.int 0, .int 1, .int 0, .int 0, .int 0, .int 0, .int 0, .int 0, .int 0, .ref q0, .ref q1, .ref q2, .ref q3, .ref q4, .ref q5, .ref q6, .ref q7, .ref q8, .ref q9, .null, .null, .null, .null, .int 0, .null, .null, .null, .null, .null, .null, .null, .null, .null, .null])), (q0, .inl (c 0, 16, .inl (fun _ => 0))), (q1, .inl (c 0, 16, .inl (fun _ => 0))), (q2, .inl (c 0, 60, .inl (fun _ => 0))), (q3, .inl (c 0, 60, .inl (fun _ => 0))), (q4, .inl (c 0, 60, .inl (fun _ => 0))), (q5, .inl (c 2, 60, .inl (fun _ => 0))), (q6, .inl (c 0, 100, .inl (fun _ => 0))), (q7, .inl (c 0, 100, .inl (fun _ => 0))), (q8, .inl (c 0, 100, .inl (fun _ => 0))), (q9, .inl (c 0, 100, .inl (fun _ => 0))), (q10, .inl (c 0, 6400, .inl (fun _ => 0)))]) rfl ?_
  refine g_putF (CC := RX8) (T := TX8) (N := 34) (fs' := [.int 0, .int 1, .int 0, .int 0, .int 0, .int 0, .int 0, .int 0, .int 0, .ref q0, .ref q1, .ref q2, .ref q3, .ref q4, .ref q5, .ref q6, .ref q7, .ref q8, .ref q9, .ref q10, .null, .null, .null, .int 0, .null, .null, .null, .null, .null, .null, .null, .null, .null, .null]) (ty := .array .int) C hnm 19 rfl (by decide) ic_X8 lc_X8_45 rfl tyX8_ok nmX8 rfl rfl rfl rfl rfl (Nat.le_of_ble_eq_true rfl) dX8_init_95 rfl ?_
  refine g_aload_n C 0 dX8_init_98 rfl ?_
  refine g_iconst (v := 3) C dX8_init_99 (by decide) ?_
  refine g_newa (N := 3) (a0 := (3, .inl (fun _ => 0))) (k1 := 12) (k2 := 7075) C 0 rfl (fun x y h1 h2 => Option.some.inj (h1.symm.trans h2)) (by decide +kernel) rfl (fun cA => rfl) (by decide) (by decide) (by decide) (by decide) (by decide) dX8_init_100 rfl rfl (fun q11 => ?_)
  refine g_eq (ws' := [(h0, .inr (8, [.int 0, .int 1, .int 0, .int 0, .int 0, .int 0, .int 0, .int 0, .int 0, .ref q0, .ref q1, .ref q2, .ref q3, .ref q4, .ref q5, .ref q6, .ref q7, .ref q8, .ref q9, .ref q10, .null, .null, .null, .int 0, .null, .null, .null, .null, .null, .null, .null, .null, .null, .null])), (q0, .inl (c 0, 16, .inl (fun _ => 0))), (q1, .inl (c 0, 16, .inl (fun _ => 0))), (q2, .inl (c 0, 60, .inl (fun _ => 0))), (q3, .inl (c 0, 60, .inl (fun _ => 0))), (q4, .inl (c 0, 60, .inl (fun _ => 0))), (q5, .inl (c 2, 60, .inl (fun _ => 0))), (q6, .inl (c 0, 100, .inl (fun _ => 0))), (q7, .inl (c 0, 100, .inl (fun _ => 0))), (q8, .inl (c 0, 100, .inl (fun _ => 0))), (q9, .inl (c 0, 100, .inl (fun _ => 0))), (q10, .inl (c 0, 6400, .inl (fun _ => 0))), (q11, .inl (c 0, 3, .inl (fun _ => 0)))]) rfl ?_
  refine g_putF (CC := RX8) (T := TX8) (N := 34) (fs' := [.int 0, .int 1, .int 0, .int 0, .int 0, .int 0, .int 0, .int 0, .int 0, .ref q0, .ref q1, .ref q2, .ref q3, .ref q4, .ref q5, .ref q6, .ref q7, .ref q8, .ref q9, .ref q10, .ref q11, .null, .null, .int 0, .null, .null, .null, .null, .null, .null, .null, .null, .null, .null]) (ty := .array .int) C hnm 20 rfl (by decide) ic_X8 lc_X8_48 rfl tyX8_ok nmX8 rfl rfl rfl rfl rfl (Nat.le_of_ble_eq_true rfl) dX8_init_102 rfl ?_
  refine g_aload_n C 0 dX8_init_105 rfl ?_
  refine g_iconst (v := 3) C dX8_init_106 (by decide) ?_
  refine g_newa (N := 3) (a0 := (3, .inl (fun _ => 0))) (k1 := 13) (k2 := 7078) C 0 rfl (fun x y h1 h2 => Option.some.inj (h1.symm.trans h2)) (by decide +kernel) rfl (fun cA => rfl) (by decide) (by decide) (by decide) (by decide) (by decide) dX8_init_107 rfl rfl (fun q12 => ?_)
  refine g_eq (ws' := [(h0, .inr (8, [.int 0, .int 1, .int 0, .int 0, .int 0, .int 0, .int 0, .int 0, .int 0, .ref q0, .ref q1, .ref q2, .ref q3, .ref q4, .ref q5, .ref q6, .ref q7, .ref q8, .ref q9, .ref q10, .ref q11, .null, .null, .int 0, .null, .null, .null, .null, .null, .null, .null, .null, .null, .null])), (q0, .inl (c 0, 16, .inl (fun _ => 0))), (q1, .inl (c 0, 16, .inl (fun _ => 0))), (q2, .inl (c 0, 60, .inl (fun _ => 0))), (q3, .inl (c 0, 60, .inl (fun _ => 0))), (q4, .inl (c 0, 60, .inl (fun _ => 0))), (q5, .inl (c 2, 60, .inl (fun _ => 0))), (q6, .inl (c 0, 100, .inl (fun _ => 0))), (q7, .inl (c 0, 100, .inl (fun _ => 0))), (q8, .inl (c 0, 100, .inl (fun _ => 0))), (q9, .inl (c 0, 100, .inl (fun _ => 0))), (q10, .inl (c 0, 6400, .inl (fun _ => 0))), (q11, .inl (c 0, 3, .inl (fun _ => 0))), (q12, .inl (c 0, 3, .inl (fun _ => 0)))]) rfl ?_
  refine g_putF (CC := RX8) (T := TX8) (N := 34) (fs' := [.int 0, .int 1, .int 0, .int 0, .int 0, .int 0, .int 0, .int 0, .int 0, .ref q0, .ref q1, .ref q2, .ref q3, .ref q4, .ref q5, .ref q6, .ref q7, .ref q8, .ref q9, .ref q10, .ref q11, .ref q12, .null, .int 0, .null, .null, .null, .null, .null, .null, .null, .null, .null, .null]) (ty := .array .int) C hnm 21 rfl (by decide) ic_X8 lc_X8_51 rfl tyX8_ok nmX8 rfl rfl rfl rfl rfl (Nat.le_of_ble_eq_true rfl) dX8_init_109 rfl ?_
  refine g_aload_n C 0 dX8_init_112 rfl ?_
  refine g_bipush (v := 8) C dX8_init_113 (by decide) ?_
  refine g_newa (N := 8) (a0 := (8, .inl (fun _ => 0))) (k1 := 14) (k2 := 7086) C 0 rfl (fun x y h1 h2 => Option.some.inj (h1.symm.trans h2)) (by decide +kernel) rfl (fun cA => rfl) (by decide) (by decide) (by decide) (by decide) (by decide) dX8_init_115 rfl rfl (fun q13 => ?_)
  refine g_eq (ws' := [(h0, .inr (8, [.int 0, .int 1, .int 0, .int 0, .int 0, .int 0, .int 0, .int 0, .int 0, .ref q0, .ref q1, .ref q2, .ref q3, .ref q4, .ref q5, .ref q6, .ref q7, .ref q8, .ref q9, .ref q10, .ref q11, .ref q12, .null, .int 0, .null, .null, .null, .null, .null, .null, .null, .null, .null, .null])), (q0, .inl (c 0, 16, .inl (fun _ => 0))), (q1, .inl (c 0, 16, .inl (fun _ => 0))), (q2, .inl (c 0, 60, .inl (fun _ => 0))), (q3, .inl (c 0, 60, .inl (fun _ => 0))), (q4, .inl (c 0, 60, .inl (fun _ => 0))), (q5, .inl (c 2, 60, .inl (fun _ => 0))), (q6, .inl (c 0, 100, .inl (fun _ => 0))), (q7, .inl (c 0, 100, .inl (fun _ => 0))), (q8, .inl (c 0, 100, .inl (fun _ => 0))), (q9, .inl (c 0, 100, .inl (fun _ => 0))), (q10, .inl (c 0, 6400, .inl (fun _ => 0))), (q11, .inl (c 0, 3, .inl (fun _ => 0))), (q12, .inl (c 0, 3, .inl (fun _ => 0))), (q13, .inl (c 0, 8, .inl (fun _ => 0)))]) rfl ?_
  refine g_putF (CC := RX8) (T := TX8) (N := 34) (fs' := [.int 0, .int 1, .int 0, .int 0, .int 0, .int 0, .int 0, .int 0, .int 0, .ref q0, .ref q1, .ref q2, .ref q3, .ref q4, .ref q5, .ref q6, .ref q7, .ref q8, .ref q9, .ref q10, .ref q11, .ref q12, .ref q13, .int 0, .null, .null, .null, .null, .null, .null, .null, .null, .null, .null]) (ty := .array .int) C hnm 22 rfl (by decide) ic_X8 lc_X8_54 rfl tyX8_ok nmX8 rfl rfl rfl rfl rfl (Nat.le_of_ble_eq_true rfl) dX8_init_117 rfl ?_
  refine g_aload_n C 0 dX8_init_120 rfl ?_
  refine g_bipush (v := 20) C dX8_init_121 (by decide) ?_
  refine g_newa (N := 20) (a0 := (20, .inl (fun _ => 0))) (k1 := 15) (k2 := 7106) C 0 rfl (fun x y h1 h2 => Option.some.inj (h1.symm.trans h2)) (by decide +kernel) rfl (fun cA => rfl) (by decide) (by decide) (by decide) (by decide) (by decide) dX8_init_123 rfl rfl (fun q14 => ?_)
  refine g_eq (ws' := [(h0, .inr (8, [.int 0, .int 1, .int 0, .int 0, .int 0, .int 0, .int 0, .int 0, .int 0, .ref q0, .ref q1, .ref q2, .ref q3, .ref q4, .ref q5, .ref q6, .ref q7, .ref q8, .ref q9, .ref q10, .ref q11, .ref q12, .ref q13, .int 0, .null, .null, .null, .null, .null, .null, .null, .null, .null, .null])), (q0, .inl (c 0, 16, .inl (fun _ => 0))), (q1, .inl (c 0, 16, .inl (fun _ => 0))), (q2, .inl (c 0, 60, .inl (fun _ => 0))), (q3, .inl (c 0, 60, .inl (fun _ => 0))), (q4, .inl (c 0, 60, .inl (fun _ => 0))), (q5, .inl (c 2, 60, .inl (fun _ => 0))), (q6, .inl (c 0, 100, .inl (fun _ => 0))), (q7, .inl (c 0, 100, .inl (fun _ => 0))), (q8, .inl (c 0, 100, .inl (fun _ => 0))), (q9, .inl (c 0, 100, .inl (fun _ => 0))), (q10, .inl (c 0, 6400, .inl (fun _ => 0))), (q11, .inl (c 0, 3, .inl (fun _ => 0))), (q12, .inl (c 0, 3, .inl (fun _ => 0))), (q13, .inl (c 0, 8, .inl (fun _ => 0))), (q14, .inl (c 0, 20, .inl (fun _ => 0)))]) rfl ?_
  refine g_putF (CC := RX8) (T := TX8) (N := 34) (fs' := [.int 0, .int 1, .int 0, .int 0, .int 0, .int 0, .int 0, .int 0, .int 0, .ref q0, .ref q1, .ref q2, .ref q3, .ref q4, .ref q5, .ref q6, .ref q7, .ref q8, .ref q9, .ref q10, .ref q11, .ref q12, .ref q13, .int 0, .ref q14, .null, .null, .null, .null, .null, .null, .null, .null, .null]) (ty := .array .int) C hnm 24 rfl (by decide) ic_X8 lc_X8_57 rfl tyX8_ok nmX8 rfl rfl rfl rfl rfl (Nat.le_of_ble_eq_true rfl) dX8_init_125 rfl ?_
  refine g_aload_n C 0 dX8_init_128 rfl ?_
  refine g_bipush (v := 20) C dX8_init_129 (by decide) ?_
  refine g_newa (N := 20) (a0 := (20, .inl (fun _ => 0))) (k1 := 16) (k2 := 7126) C 0 rfl (fun x y h1 h2 => Option.some.inj (h1.symm.trans h2)) (by decide +kernel) rfl (fun cA => rfl) (by decide) (by decide) (by decide) (by decide) (by decide) dX8_init_131 rfl rfl (fun q15 => ?_)
  refine g_eq (ws' := [(h0, .inr (8, [.int 0, .int 1, .int 0, .int 0, .int 0, .int 0, .int 0, .int 0, .int 0, .ref q0, .ref q1, .ref q2, .ref q3, .ref q4, .ref q5, .ref q6, .ref q7, .ref q8, .ref q9, .ref q10, .ref q11, .ref q12, .ref q13, .int 0, .ref q14, .null, .null, .null, .null, .null, .null, .null, .null, .null])), (q0, .inl (c 0, 16, .inl (fun _ => 0))), (q1, .inl (c 0, 16, .inl (fun _ => 0))), (q2, .inl (c 0, 60, .inl (fun _ => 0))), (q3, .inl (c 0, 60, .inl (fun _ => 0))), (q4, .inl (c 0, 60, .inl (fun _ => 0))), (q5, .inl (c 2, 60, .inl (fun _ => 0))), (q6, .inl (c 0, 100, .inl (fun _ => 0))), (q7, .inl (c 0, 100, .inl (fun _ => 0))), (q8, .inl (c 0, 100, .inl (fun _ => 0))), (q9, .inl (c 0, 100, .inl (fun _ => 0))), (q10, .inl (c 0, 6400, .inl (fun _ => 0))), (q11, .inl (c 0, 3, .inl (fun _ => 0))), (q12, .inl (c 0, 3, .inl (fun _ => 0))), (q13, .inl (c 0, 8, .inl (fun _ => 0))), (q14, .inl (c 0, 20, .inl (fun _ => 0))), (q15, .inl (c 0, 20, .inl (fun _ => 0)))]) rfl ?_
  refine g_putF (CC := RX8) (T := TX8) (N := 34) (fs' := [.int 0, .int 1, .int 0, .int 0, .int 0, .int 0, .int 0, .int 0, .int 0, .ref q0, .ref q1, .ref q2, .ref q3, .ref q4, .ref q5, .ref q6, .ref q7, .ref q8, .ref q9, .ref q10, .ref q11, .ref q12, .ref q13, .int 0, .ref q14, .ref q15, .null, .null, .null, .null, .null, .null, .null, .null]) (ty := .array .int) C hnm 25 rfl (by decide) ic_X8 lc_X8_60 rfl tyX8_ok nmX8 rfl rfl rfl rfl rfl (Nat.le_of_ble_eq_true rfl) dX8_init_133 rfl ?_
  refine g_aload_n C 0 dX8_init_136 rfl ?_
  refine g_sipush (v := 1200) C dX8_init_137 (by decide) ?_
  refine g_newa (N := 1200) (a0 := (1200, .inl (fun _ => 0))) (k1 := 17) (k2 := 8326) C 0 rfl (fun x y h1 h2 => Option.some.inj (h1.symm.trans h2)) (by decide +kernel) rfl (fun cA => rfl) (by decide) (by decide) (by decide) (by decide) (by decide) dX8_init_140 rfl rfl (fun q16 => ?_)
  refine g_eq (ws' := [(h0, .inr (8, [.int 0, .int 1, .int 0, .int 0, .int 0, .int 0, .int 0, .int 0, .int 0, .ref q0, .ref q1, .ref q2, .ref q3, .ref q4, .ref q5, .ref q6, .ref q7, .ref q8, .ref q9, .ref q10, .ref q11, .ref q12, .ref q13, .int 0, .ref q14, .ref q15, .null, .null, .null, .null, .null, .null, .null, .null])), (q0, .inl (c 0, 16, .inl (fun _ => 0))), (q1, .inl (c 0, 16, .inl (fun _ => 0))), (q2, .inl (c 0, 60, .inl (fun _ => 0))), (q3, .inl (c 0, 60, .inl (fun _ => 0))), (q4, .inl (c 0, 60, .inl (fun _ => 0))), (q5, .inl (c 2, 60, .inl (fun _ => 0))), (q6, .inl (c 0, 100, .inl (fun _ => 0))), (q7, .inl (c 0, 100, .inl (fun _ => 0))), (q8, .inl (c 0, 100, .inl (fun _ => 0))), (q9, .inl (c 0, 100, .inl (fun _ => 0))), (q10, .inl (c 0, 6400, .inl (fun _ => 0))), (q11, .inl (c 0, 3, .inl (fun _ => 0))), (q12, .inl (c 0, 3, .inl (fun _ => 0))), (q13, .inl (c 0, 8, .inl (fun _ => 0))), (q14, .inl (c 0, 20, .inl (fun _ => 0))), (q15, .inl (c 0, 20, .inl (fun _ => 0))), (q16, .inl (c 0, 1200, .inl (fun _ => 0)))]) rfl ?_
  refine g_putF (CC := RX8) (T := TX8) (N := 34) (fs' := [.int 0, .int 1, .int 0, .int 0, .int 0, .int 0, .int 0, .int 0, .int 0, .ref q0, .ref q1, .ref q2, .ref q3, .ref q4, .ref q5, .ref q6, .ref q7, .ref q8, .ref q9, .ref q10, .ref q11, .ref q12, .ref q13, .int 0, .ref q14, .ref q15, .ref q16, .null, .null, .null, .null, .null, .null, .null]) (ty := .array .int) C hnm 26 rfl (by decide) ic_X8 lc_X8_63 rfl tyX8_ok nmX8 rfl rfl rfl rfl rfl (Nat.le_of_ble_eq_true rfl) dX8_init_142 rfl ?_
  refine g_aload_n C 0 dX8_init_145 rfl ?_
  refine g_sipush (v := 1200) C dX8_init_146 (by decide) ?_
  refine g_newa (N := 1200) (a0 := (1200, .inl (fun _ => 0))) (k1 := 18) (k2 := 9526) C 0 rfl (fun x y h1 h2 => Option.some.inj (h1.symm.trans h2)) (by decide +kernel) rfl (fun cA => rfl) (by decide) (by decide) (by decide) (by decide) (by decide) dX8_init_149 rfl rfl (fun q17 => ?_)
  refine g_eq (ws' := [(h0, .inr (8, [.int 0, .int 1, .int 0, .int 0, .int 0, .int 0, .int 0, .int 0, .int 0, .ref q0, .ref q1, .ref q2, .ref q3, .ref q4, .ref q5, .ref q6, .ref q7, .ref q8, .ref q9, .ref q10, .ref q11, .ref q12, .ref q13, .int 0, .ref q14, .ref q15, .ref q16, .null, .null, .null, .null, .null, .null, .null])), (q0, .inl (c 0, 16, .inl (fun _ => 0))), (q1, .inl (c 0, 16, .inl (fun _ => 0))), (q2, .inl (c 0, 60, .inl (fun _ => 0))), (q3, .inl (c 0, 60, .inl (fun _ => 0))), (q4, .inl (c 0, 60, .inl (fun _ => 0))), (q5, .inl (c 2, 60, .inl (fun _ => 0))), (q6, .inl (c 0, 100, .inl (fun _ => 0))), (q7, .inl (c 0, 100, .inl (fun _ => 0))), (q8, .inl (c 0, 100, .inl (fun _ => 0))), (q9, .inl (c 0, 100, .inl (fun _ => 0))), (q10, .inl (c 0, 6400, .inl (fun _ => 0))), (q11, .inl (c 0, 3, .inl (fun _ => 0))), (q12, .inl (c 0, 3, .inl (fun _ => 0))), (q13, .inl (c 0, 8, .inl (fun _ => 0))), (q14, .inl (c 0, 20, .inl (fun _ => 0))), (q15, .inl (c 0, 20, .inl (fun _ => 0))), (q16, .inl (c 0, 1200, .inl (fun _ => 0))), (q17, .inl (c 0, 1200, .inl (fun _ => 0)))]) rfl ?_
  refine g_putF (CC := RX8) (T := TX8) (N := 34) (fs' := [.int 0, .int 1, .int 0, .int 0, .int 0, .int 0, .int 0, .int 0, .int 0, .ref q0, .ref q1, .ref q2, .ref q3, .ref q4, .ref q5, .ref q6, .ref q7, .ref q8, .ref q9, .ref q10, .ref q11, .ref q12, .ref q13, .int 0, .ref q14, .ref q15, .ref q16, .ref q17, .null, .null, .null, .null, .null, .null]) (ty := .array .int) C hnm 27 rfl (by decide) ic_X8 lc_X8_66 rfl tyX8_ok nmX8 rfl rfl rfl rfl rfl (Nat.le_of_ble_eq_true rfl) dX8_init_151 rfl ?_
  refine g_aload_n C 0 dX8_init_154 rfl ?_
  refine g_bipush (v := 100) C dX8_init_155 (by decide) ?_
  refine g_newa (N := 100) (a0 := (100, .inl (fun _ => 0))) (k1 := 19) (k2 := 9626) C 0 rfl (fun x y h1 h2 => Option.some.inj (h1.symm.trans h2)) (by decide +kernel) rfl (fun cA => rfl) (by decide) (by decide) (by decide) (by decide) (by decide) dX8_init_157 rfl rfl (fun q18 => ?_)
  refine g_eq (ws' := [(h0, .inr (8, [.int 0, .int 1, .int 0, .int 0, .int 0, .int 0, .int 0, .int 0, .int 0, .ref q0, .ref q1, .ref q2, .ref q3, .ref q4, .ref q5, .ref q6, .ref q7, .ref q8, .ref q9, .ref q10, .ref q11, .ref q12, .ref q13, .int 0, .ref q14, .ref q15, .ref q16, .ref q17, .null, .null, .null, .null, .null, .null])), (q0, .inl (c 0, 16, .inl (fun _ => 0))), (q1, .inl (c 0, 16, .inl (fun _ => 0))), (q2, .inl (c 0, 60, .inl (fun _ => 0))), (q3, .inl (c 0, 60, .inl (fun _ => 0))), (q4, .inl (c 0, 60, .inl (fun _ => 0))), (q5, .inl (c 2, 60, .inl (fun _ => 0))), (q6, .inl (c 0, 100, .inl (fun _ => 0))), (q7, .inl (c 0, 100, .inl (fun _ => 0))), (q8, .inl (c 0, 100, .inl (fun _ => 0))), (q9, .inl (c 0, 100, .inl (fun _ => 0))), (q10, .inl (c 0, 6400, .inl (fun _ => 0))), (q11, .inl (c 0, 3, .inl (fun _ => 0))), (q12, .inl (c 0, 3, .inl (fun _ => 0))), (q13, .inl (c 0, 8, .inl (fun _ => 0))), (q14, .inl (c 0, 20, .inl (fun _ => 0))), (q15, .inl (c 0, 20, .inl (fun _ => 0))), (q16, .inl (c 0, 1200, .inl (fun _ => 0))), (q17, .inl (c 0, 1200, .inl (fun _ => 0))), (q18, .inl (c 0, 100, .inl (fun _ => 0)))]) rfl ?_
  refine g_putF (CC := RX8) (T := TX8) (N := 34) (fs' := [.int 0, .int 1, .int 0, .int 0, .int 0, .int 0, .int 0, .int 0, .int 0, .ref q0, .ref q1, .ref q2, .ref q3, .ref q4, .ref q5, .ref q6, .ref q7, .ref q8, .ref q9, .ref q10, .ref q11, .ref q12, .ref q13, .int 0, .ref q14, .ref q15, .ref q16, .ref q17, .ref q18, .null, .null, .null, .null, .null]) (ty := .array .int) C hnm 28 rfl (by decide) ic_X8 lc_X8_69 rfl tyX8_ok nmX8 rfl rfl rfl rfl rfl (Nat.le_of_ble_eq_true rfl) dX8_init_159 rfl ?_
  refine g_aload_n C 0 dX8_init_162 rfl ?_
  refine g_bipush (v := 100) C dX8_init_163 (by decide) ?_
  refine g_newa (N := 100) (a0 := (100, .inl (fun _ => 0))) (k1 := 20) (k2 := 9726) C 0 rfl (fun x y h1 h2 => Option.some.inj (h1.symm.trans h2)) (by decide +kernel) rfl (fun cA => rfl) (by decide) (by decide) (by decide) (by decide) (by decide) dX8_init_165 rfl rfl (fun q19 => ?_)
  refine g_eq (ws' := [(h0, .inr (8, [.int 0, .int 1, .int 0, .int 0, .int 0, .int 0, .int 0, .int 0, .int 0, .ref q0, .ref q1, .ref q2, .ref q3, .ref q4, .ref q5, .ref q6, .ref q7, .ref q8, .ref q9, .ref q10, .ref q11, .ref q12, .ref q13, .int 0, .ref q14, .ref q15, .ref q16, .ref q17, .ref q18, .null, .null, .null, .null, .null])), (q0, .inl (c 0, 16, .inl (fun _ => 0))), (q1, .inl (c 0, 16, .inl (fun _ => 0))), (q2, .inl (c 0, 60, .inl (fun _ => 0))), (q3, .inl (c 0, 60, .inl (fun _ => 0))), (q4, .inl (c 0, 60, .inl (fun _ => 0))), (q5, .inl (c 2, 60, .inl (fun _ => 0))), (q6, .inl (c 0, 100, .inl (fun _ => 0))), (q7, .inl (c 0, 100, .inl (fun _ => 0))), (q8, .inl (c 0, 100, .inl (fun _ => 0))), (q9, .inl (c 0, 100, .inl (fun _ => 0))), (q10, .inl (c 0, 6400, .inl (fun _ => 0))), (q11, .inl (c 0, 3, .inl (fun _ => 0))), (q12, .inl (c 0, 3, .inl (fun _ => 0))), (q13, .inl (c 0, 8, .inl (fun _ => 0))), (q14, .inl (c 0, 20, .inl (fun _ => 0))), (q15, .inl (c 0, 20, .inl (fun _ => 0))), (q16, .inl (c 0, 1200, .inl (fun _ => 0))), (q17, .inl (c 0, 1200, .inl (fun _ => 0))), (q18, .inl (c 0, 100, .inl (fun _ => 0))), (q19, .inl (c 0, 100, .inl (fun _ => 0)))]) rfl ?_
  refine g_putF (CC := RX8) (T := TX8) (N := 34) (fs' := [.int 0, .int 1, .int 0, .int 0, .int 0, .int 0, .int 0, .int 0, .int 0, .ref q0, .ref q1, .ref q2, .ref q3, .ref q4, .ref q5, .ref q6, .ref q7, .ref q8, .ref q9, .ref q10, .ref q11, .ref q12, .ref q13, .int 0, .ref q14, .ref q15, .ref q16, .ref q17, .ref q18, .ref q19, .null, .null, .null, .null]) (ty := .array .int) C hnm 29 rfl (by decide) ic_X8 lc_X8_72 rfl tyX8_ok nmX8 rfl rfl rfl rfl rfl (Nat.le_of_ble_eq_true rfl) dX8_init_167 rfl ?_
  refine g_aload_n C 0 dX8_init_170 rfl ?_
  refine g_bipush (v := 16) C dX8_init_171 (by decide) ?_
  refine g_newa (N := 16) (a0 := (16, .inl (fun _ => 0))) (k1 := 21) (k2 := 9742) C 0 rfl (fun x y h1 h2 => Option.some.inj (h1.symm.trans h2)) (by decide +kernel) rfl (fun cA => rfl) (by decide) (by decide) (by decide) (by decide) (by decide) dX8_init_173 rfl rfl (fun q20 => ?_)
  refine g_eq (ws' := [(h0, .inr (8, [.int 0, .int 1, .int 0, .int 0, .int 0, .int 0, .int 0, .int 0, .int 0, .ref q0, .ref q1, .ref q2, .ref q3, .ref q4, .ref q5, .ref q6, .ref q7, .ref q8, .ref q9, .ref q10, .ref q11, .ref q12, .ref q13, .int 0, .ref q14, .ref q15, .ref q16, .ref q17, .ref q18, .ref q19, .null, .null, .null, .null])), (q0, .inl (c 0, 16, .inl (fun _ => 0))), (q1, .inl (c 0, 16, .inl (fun _ => 0))), (q2, .inl (c 0, 60, .inl (fun _ => 0))), (q3, .inl (c 0, 60, .inl (fun _ => 0))), (q4, .inl (c 0, 60, .inl (fun _ => 0))), (q5, .inl (c 2, 60, .inl (fun _ => 0))), (q6, .inl (c 0, 100, .inl (fun _ => 0))), (q7, .inl (c 0, 100, .inl (fun _ => 0))), (q8, .inl (c 0, 100, .inl (fun _ => 0))), (q9, .inl (c 0, 100, .inl (fun _ => 0))), (q10, .inl (c 0, 6400, .inl (fun _ => 0))), (q11, .inl (c 0, 3, .inl (fun _ => 0))), (q12, .inl (c 0, 3, .inl (fun _ => 0))), (q13, .inl (c 0, 8, .inl (fun _ => 0))), (q14, .inl (c 0, 20, .inl (fun _ => 0))), (q15, .inl (c 0, 20, .inl (fun _ => 0))), (q16, .inl (c 0, 1200, .inl (fun _ => 0))), (q17, .inl (c 0, 1200, .inl (fun _ => 0))), (q18, .inl (c 0, 100, .inl (fun _ => 0))), (q19, .inl (c 0, 100, .inl (fun _ => 0))), (q20, .inl (c 0, 16, .inl (fun _ => 0)))]) rfl ?_
  refine g_putF (CC := RX8) (T := TX8) (N := 34) (fs' := [.int 0, .int 1, .int 0, .int 0, .int 0, .int 0, .int 0, .int 0, .int 0, .ref q0, .ref q1, .ref q2, .ref q3, .ref q4, .ref q5, .ref q6, .ref q7, .ref q8, .ref q9, .ref q10, .ref q11, .ref q12, .ref q13, .int 0, .ref q14, .ref q15, .ref q16, .ref q17, .ref q18, .ref q19, .ref q20, .null, .null, .null]) (ty := .array .int) C hnm 30 rfl (by decide) ic_X8 lc_X8_75 rfl tyX8_ok nmX8 rfl rfl rfl rfl rfl (Nat.le_of_ble_eq_true rfl) dX8_init_175 rfl ?_
  refine g_aload_n C 0 dX8_init_178 rfl ?_
  refine g_bipush (v := 16) C dX8_init_179 (by decide) ?_
  refine g_newa (N := 16) (a0 := (16, .inl (fun _ => 0))) (k1 := 22) (k2 := 9758) C 0 rfl (fun x y h1 h2 => Option.some.inj (h1.symm.trans h2)) (by decide +kernel) rfl (fun cA => rfl) (by decide) (by decide) (by decide) (by decide) (by decide) dX8_init_181 rfl rfl (fun q21 => ?_)
  refine g_eq (ws' := [(h0, .inr (8, [.int 0, .int 1, .int 0, .int 0, .int 0, .int 0, .int 0, .int 0, .int 0, .ref q0, .ref q1, .ref q2, .ref q3, .ref q4, .ref q5, .ref q6, .ref q7, .ref q8, .ref q9, .ref q10, .ref q11, .ref q12, .ref q13, .int 0, .ref q14, .ref q15, .ref q16, .ref q17, .ref q18, .ref q19, .ref q20, .null, .null, .null])), (q0, .inl (c 0, 16, .inl (fun _ => 0))), (q1, .inl (c 0, 16, .inl (fun _ => 0))), (q2, .inl (c 0, 60, .inl (fun _ => 0))), (q3, .inl (c 0, 60, .inl (fun _ => 0))), (q4, .inl (c 0, 60, .inl (fun _ => 0))), (q5, .inl (c 2, 60, .inl (fun _ => 0))), (q6, .inl (c 0, 100, .inl (fun _ => 0))), (q7, .inl (c 0, 100, .inl (fun _ => 0))), (q8, .inl (c 0, 100, .inl (fun _ => 0))), (q9, .inl (c 0, 100, .inl (fun _ => 0))), (q10, .inl (c 0, 6400, .inl (fun _ => 0))), (q11, .inl (c 0, 3, .inl (fun _ => 0))), (q12, .inl (c 0, 3, .inl (fun _ => 0))), (q13, .inl (c 0, 8, .inl (fun _ => 0))), (q14, .inl (c 0, 20, .inl (fun _ => 0))), (q15, .inl (c 0, 20, .inl (fun _ => 0))), (q16, .inl (c 0, 1200, .inl (fun _ => 0))), (q17, .inl (c 0, 1200, .inl (fun _ => 0))), (q18, .inl (c 0, 100, .inl (fun _ => 0))), (q19, .inl (c 0, 100, .inl (fun _ => 0))), (q20, .inl (c 0, 16, .inl (fun _ => 0))), (q21, .inl (c 0, 16, .inl (fun _ => 0)))]) rfl ?_
  refine g_putF (CC := RX8) (T := TX8) (N := 34) (fs' := [.int 0, .int 1, .int 0, .int 0, .int 0, .int 0, .int 0, .int 0, .int 0, .ref q0, .ref q1, .ref q2, .ref q3, .ref q4, .ref q5, .ref q6, .ref q7, .ref q8, .ref q9, .ref q10, .ref q11, .ref q12, .ref q13, .int 0, .ref q14, .ref q15, .ref q16, .ref q17, .ref q18, .ref q19, .ref q20, .ref q21, .null, .null]) (ty := .array .int) C hnm 31 rfl (by decide) ic_X8 lc_X8_78 rfl tyX8_ok nmX8 rfl rfl rfl rfl rfl (Nat.le_of_ble_eq_true rfl) dX8_init_183 rfl ?_
  refine g_aload_n C 0 dX8_init_186 rfl ?_
  refine g_bipush (v := 60) C dX8_init_187 (by decide) ?_
  refine g_newa (N := 60) (a0 := (60, .inl (fun _ => 0))) (k1 := 23) (k2 := 9818) C 0 rfl (fun x y h1 h2 => Option.some.inj (h1.symm.trans h2)) (by decide +kernel) rfl (fun cA => rfl) (by decide) (by decide) (by decide) (by decide) (by decide) dX8_init_189 rfl rfl (fun q22 => ?_)
  refine g_eq (ws' := [(h0, .inr (8, [.int 0, .int 1, .int 0, .int 0, .int 0, .int 0, .int 0, .int 0, .int 0, .ref q0, .ref q1, .ref q2, .ref q3, .ref q4, .ref q5, .ref q6, .ref q7, .ref q8, .ref q9, .ref q10, .ref q11, .ref q12, .ref q13, .int 0, .ref q14, .ref q15, .ref q16, .ref q17, .ref q18, .ref q19, .ref q20, .ref q21, .null, .null])), (q0, .inl (c 0, 16, .inl (fun _ => 0))), (q1, .inl (c 0, 16, .inl (fun _ => 0))), (q2, .inl (c 0, 60, .inl (fun _ => 0))), (q3, .inl (c 0, 60, .inl (fun _ => 0))), (q4, .inl (c 0, 60, .inl (fun _ => 0))), (q5, .inl (c 2, 60, .inl (fun _ => 0))), (q6, .inl (c 0, 100, .inl (fun _ => 0))), (q7, .inl (c 0, 100, .inl (fun _ => 0))), (q8, .inl (c 0, 100, .inl (fun _ => 0))), (q9, .inl (c 0, 100, .inl (fun _ => 0))), (q10, .inl (c 0, 6400, .inl (fun _ => 0))), (q11, .inl (c 0, 3, .inl (fun _ => 0))), (q12, .inl (c 0, 3, .inl (fun _ => 0))), (q13, .inl (c 0, 8, .inl (fun _ => 0))), (q14, .inl (c 0, 20, .inl (fun _ => 0))), (q15, .inl (c 0, 20, .inl (fun _ => 0))), (q16, .inl (c 0, 1200, .inl (fun _ => 0))), (q17, .inl (c 0, 1200, .inl (fun _ => 0))), (q18, .inl (c 0, 100, .inl (fun _ => 0))), (q19, .inl (c 0, 100, .inl (fun _ => 0))), (q20, .inl (c 0, 16, .inl (fun _ => 0))), (q21, .inl (c 0, 16, .inl (fun _ => 0))), (q22, .inl (c 0, 60, .inl (fun _ => 0)))]) rfl ?_
  refine g_putF (CC := RX8) (T := TX8) (N := 34) (fs' := [.int 0, .int 1, .int 0, .int 0, .int 0, .int 0, .int 0, .int 0, .int 0, .ref q0, .ref q1, .ref q2, .ref q3, .ref q4, .ref q5, .ref q6, .ref q7, .ref q8, .ref q9, .ref q10, .ref q11, .ref q12, .ref q13, .int 0, .ref q14, .ref q15, .ref q16, .ref q17, .ref q18, .ref q19, .ref q20, .ref q21, .ref q22, .null]) (ty := .array .int) C hnm 32 rfl (by decide) ic_X8 lc_X8_81 rfl tyX8_ok nmX8 rfl rfl rfl rfl rfl (Nat.le_of_ble_eq_true rfl) dX8_init_191 rfl ?_
  refine g_aload_n C 0 dX8_init_194 rfl ?_
  refine g_bipush (v := 60) C dX8_init_195 (by decide) ?_
  refine g_newa (N := 60) (a0 := (60, .inl (fun _ => 0))) (k1 := 24) (k2 := 9878) C 0 rfl (fun x y h1 h2 => Option.some.inj (h1.symm.trans h2)) (by decide +kernel) rfl (fun cA => rfl) (by decide) (by decide) (by decide) (by decide) (by decide) dX8_init_197 rfl rfl (fun q23 => ?_)
  refine g_eq (ws' := [(h0, .inr (8, [.int 0, .int 1, .int 0, .int 0, .int 0, .int 0, .int 0, .int 0, .int 0, .ref q0, .ref q1, .ref q2, .ref q3, .ref q4, .ref q5, .ref q6, .ref q7, .ref q8, .ref q9, .ref q10, .ref q11, .ref q12, .ref q13, .int 0, .ref q14, .ref q15, .ref q16, .ref q17, .ref q18, .ref q19, .ref q20, .ref q21, .ref q22, .null])), (q0, .inl (c 0, 16, .inl (fun _ => 0))), (q1, .inl (c 0, 16, .inl (fun _ => 0))), (q2, .inl (c 0, 60, .inl (fun _ => 0))), (q3, .inl (c 0, 60, .inl (fun _ => 0))), (q4, .inl (c 0, 60, .inl (fun _ => 0))), (q5, .inl (c 2, 60, .inl (fun _ => 0))), (q6, .inl (c 0, 100, .inl (fun _ => 0))), (q7, .inl (c 0, 100, .inl (fun _ => 0))), (q8, .inl (c 0, 100, .inl (fun _ => 0))), (q9, .inl (c 0, 100, .inl (fun _ => 0))), (q10, .inl (c 0, 6400, .inl (fun _ => 0))), (q11, .inl (c 0, 3, .inl (fun _ => 0))), (q12, .inl (c 0, 3, .inl (fun _ => 0))), (q13, .inl (c 0, 8, .inl (fun _ => 0))), (q14, .inl (c 0, 20, .inl (fun _ => 0))), (q15, .inl (c 0, 20, .inl (fun _ => 0))), (q16, .inl (c 0, 1200, .inl (fun _ => 0))), (q17, .inl (c 0, 1200, .inl (fun _ => 0))), (q18, .inl (c 0, 100, .inl (fun _ => 0))), (q19, .inl (c 0, 100, .inl (fun _ => 0))), (q20, .inl (c 0, 16, .inl (fun _ => 0))), (q21, .inl (c 0, 16, .inl (fun _ => 0))), (q22, .inl (c 0, 60, .inl (fun _ => 0))), (q23, .inl (c 0, 60, .inl (fun _ => 0)))]) rfl ?_
  refine g_putF (CC := RX8) (T := TX8) (N := 34) (fs' := [.int 0, .int 1, .int 0, .int 0, .int 0, .int 0, .int 0, .int 0, .int 0, .ref q0, .ref q1, .ref q2, .ref q3, .ref q4, .ref q5, .ref q6, .ref q7, .ref q8, .ref q9, .ref q10, .ref q11, .ref q12, .ref q13, .int 0, .ref q14, .ref q15, .ref q16, .ref q17, .ref q18, .ref q19, .ref q20, .ref q21, .ref q22, .ref q23]) (ty := .array .int) C hnm 33 rfl (by decide) ic_X8 lc_X8_84 rfl tyX8_ok nmX8 rfl rfl rfl rfl rfl (Nat.le_of_ble_eq_true rfl) dX8_init_199 rfl ?_
  refine g_aload_n C 0 dX8_init_202 rfl ?_
  refine g_get (CC := RX8) (T := TX8) (N := 34) C 9 rfl (by decide) ic_X8 lc_X8_13 rfl rfl dX8_init_203 ?_
  refine g_iconst (v := 0) C dX8_init_206 (by decide) ?_
  refine g_iconst (v := (-1)) C dX8_init_207 (by decide) ?_
  refine g_iast (ws' := [(h0, .inr (8, [.int 0, .int 1, .int 0, .int 0, .int 0, .int 0, .int 0, .int 0, .int 0, .ref q0, .ref q1, .ref q2, .ref q3, .ref q4, .ref q5, .ref q6, .ref q7, .ref q8, .ref q9, .ref q10, .ref q11, .ref q12, .ref q13, .int 0, .ref q14, .ref q15, .ref q16, .ref q17, .ref q18, .ref q19, .ref q20, .ref q21, .ref q22, .ref q23])), (q0, .inl (c 0, 16, .inl (upd (fun _ => 0) 0 (-1)))), (q1, .inl (c 0, 16, .inl (fun _ => 0))), (q2, .inl (c 0, 60, .inl (fun _ => 0))), (q3, .inl (c 0, 60, .inl (fun _ => 0))), (q4, .inl (c 0, 60, .inl (fun _ => 0))), (q5, .inl (c 2, 60, .inl (fun _ => 0))), (q6, .inl (c 0, 100, .inl (fun _ => 0))), (q7, .inl (c 0, 100, .inl (fun _ => 0))), (q8, .inl (c 0, 100, .inl (fun _ => 0))), (q9, .inl (c 0, 100, .inl (fun _ => 0))), (q10, .inl (c 0, 6400, .inl (fun _ => 0))), (q11, .inl (c 0, 3, .inl (fun _ => 0))), (q12, .inl (c 0, 3, .inl (fun _ => 0))), (q13, .inl (c 0, 8, .inl (fun _ => 0))), (q14, .inl (c 0, 20, .inl (fun _ => 0))), (q15, .inl (c 0, 20, .inl (fun _ => 0))), (q16, .inl (c 0, 1200, .inl (fun _ => 0))), (q17, .inl (c 0, 1200, .inl (fun _ => 0))), (q18, .inl (c 0, 100, .inl (fun _ => 0))), (q19, .inl (c 0, 100, .inl (fun _ => 0))), (q20, .inl (c 0, 16, .inl (fun _ => 0))), (q21, .inl (c 0, 16, .inl (fun _ => 0))), (q22, .inl (c 0, 60, .inl (fun _ => 0))), (q23, .inl (c 0, 60, .inl (fun _ => 0)))]) C 1 rfl (by unfold vp_in; decide) dX8_init_208 rfl ?_
  exact g_vret C hQ (by decide) (by decide) (fun k => match k with | 0 => q0 | 1 => q1 | 2 => q2 | 3 => q3 | 4 => q4 | 5 => q5 | 6 => q6 | 7 => q7 | 8 => q8 | 9 => q9 | 10 => q10 | 11 => q11 | 12 => q12 | 13 => q13 | 14 => q14 | 15 => q15 | 16 => q16 | 17 => q17 | 18 => q18 | 19 => q19 | 20 => q20 | 21 => q21 | 22 => q22 | _ => q23) rfl dX8_init_209
theorem ic_X7 : ∀ w ∈ u_ws RX7 TX7 12, w ∈ wsX7_init := by decide +kernel
theorem ic_X7_X3 : ∀ w ∈ u_ws RX3 TX3 4, w ∈ wsX7_init := by decide +kernel
theorem lc_X7_10 : Cond.fieldLink RX7 10 "SameAgain" "folders" "LSameAgain$Folders;" ∈ wsX7_init := by decide +kernel
theorem ic_X7_X1 : ∀ w ∈ u_ws RX1 TX1 5, w ∈ wsX7_init := by decide +kernel
theorem lc_X7_19 : Cond.fieldLink RX7 19 "SameAgain" "files" "LSameAgain$Files;" ∈ wsX7_init := by decide +kernel
theorem ic_X7_X0 : ∀ w ∈ u_ws RX0 TX0 5, w ∈ wsX7_init := by decide +kernel
theorem lc_X7_26 : Cond.fieldLink RX7 26 "SameAgain" "bodies" "LSameAgain$Bodies;" ∈ wsX7_init := by decide +kernel
theorem ic_X7_X2 : ∀ w ∈ u_ws RX2 TX2 5, w ∈ wsX7_init := by decide +kernel
theorem lc_X7_33 : Cond.fieldLink RX7 33 "SameAgain" "findings" "LSameAgain$Findings;" ∈ wsX7_init := by decide +kernel
theorem ic_X7_X5 : ∀ w ∈ u_ws RX5 TX5 2, w ∈ wsX7_init := by decide +kernel
theorem lc_X7_40 : Cond.fieldLink RX7 40 "SameAgain" "pieces" "LSameAgain$Pieces;" ∈ wsX7_init := by decide +kernel
theorem lc_X7_44 : Cond.fieldLink RX7 44 "SameAgain" "otherPieces" "LSameAgain$Pieces;" ∈ wsX7_init := by decide +kernel
theorem ic_X7_X6 : ∀ w ∈ u_ws RX6 TX6 3, w ∈ wsX7_init := by decide +kernel
theorem lc_X7_50 : Cond.fieldLink RX7 50 "SameAgain" "wishes" "LSameAgain$Wishes;" ∈ wsX7_init := by decide +kernel
theorem ic_X7_X4 : ∀ w ∈ u_ws RX4 TX4 4, w ∈ wsX7_init := by decide +kernel
theorem lc_X7_57 : Cond.fieldLink RX7 57 "SameAgain" "mergings" "LSameAgain$Mergings;" ∈ wsX7_init := by decide +kernel
theorem lc_X7_61 : Cond.fieldLink RX7 61 "SameAgain" "leaves" "[Z" ∈ wsX7_init := by decide +kernel
theorem lc_X7_65 : Cond.fieldLink RX7 65 "SameAgain" "twins" "[I" ∈ wsX7_init := by decide +kernel
theorem lc_X7_69 : Cond.fieldLink RX7 69 "SameAgain" "day" "I" ∈ wsX7_init := by decide +kernel
theorem lc_X7_73 : Cond.fieldLink RX7 73 "SameAgain" "freed" "I" ∈ wsX7_init := by decide +kernel
def cs_X7 (c : Nat → ClassId) (h0 : Nat) (v : (Nat → Nat) × (Nat → Nat → Nat)) : va_W := (h0, .inr (7, [.ref (v.1 0), .ref (v.1 1), .ref (v.1 2), .ref (v.1 3), .ref (v.1 4), .ref (v.1 5), .ref (v.1 6), .ref (v.1 7), .ref (v.1 8), .ref (v.1 9), .int 0, .int 0])) :: (((((((((([] ++ cs_X3 c (v.1 0) (v.2 0)) ++ cs_X1 c (v.1 1) (v.2 1)) ++ cs_X0 c (v.1 2) (v.2 2)) ++ cs_X2 c (v.1 3) (v.2 3)) ++ cs_X5 c (v.1 4) (v.2 4)) ++ cs_X5 c (v.1 5) (v.2 5)) ++ cs_X6 c (v.1 6) (v.2 6)) ++ cs_X4 c (v.1 7) (v.2 7)) ++ [((v.1 8), .inl (c 2, 64, .inl (fun _ => 0)))]) ++ [((v.1 9), .inl (c 0, 16, .inl (fun _ => 0)))])
set_option maxHeartbeats 4000000 in
set_option maxRecDepth 100000 in
theorem k_X7 (l : Launch) (D : va_G) (c : Nat → ClassId) (h0 : Nat) : MC D c l yX7_init wsX7_init ⟨3, 50, 8766, 55⟩ 50 8766 [.ref h0] h0 (.inr (7, [.null, .null, .null, .null, .null, .null, .null, .null, .null, .null, .int 0, .int 0])) (cs_X7 c h0) := by
  refine mc_of (cc := cX7_init) (maxL := 1) (lv0 := [(0, .ref h0)]) (by decide) rfl (Nat.le_of_ble_eq_true rfl) rfl ?_
  intro X Q A hl C hnm hQ
  replace C : CG D c A X cX7_init RX7 wsX7_init 1 ⟨3, 50, 8766, 55⟩ := C
  replace hnm : (xt X).name = "<init>" := hnm
  refine g_aload_n C 0 dX7_init_0 rfl ?_
  refine g_obj C (by decide +kernel) (by decide +kernel) (by decide +kernel) (by decide) (by decide) dX7_init_1 ?_
  refine g_eq (ws' := (h0, .inr (7, [.null, .null, .null, .null, .null, .null, .null, .null, .null, .null, .int 0, .int 0])) :: []) rfl ?_
  refine g_aload_n C 0 dX7_init_4 rfl ?_
  refine g_new (CC := RX3) (T := TX3) (N := 4) (ci := 3) (fs := [.null, .null, .null, .int 0]) (tyf := tyX3) (k1 := 1) (k2 := 4) C rfl ic_X7_X3 tyX3_ok (by decide +kernel) (by decide +kernel) (by decide +kernel) (fun j hj => by rcases (show j = 0 ∨ j = 1 ∨ j = 2 ∨ j = 3 by omega) with rfl | rfl | rfl | rfl <;> rfl) (by decide) (by decide) dX7_init_5 rfl rfl (fun q0 => ?_)
  refine g_dup C dX7_init_8 rfl ?_
  refine g_callN (host := "SameAgain") (k1 := 4) (k2 := 52) C (k_X3 (xl X) D c q0) gX7_init_X3_init_n9 rfl ⟨rfl, rfl⟩ (by decide +kernel) (by decide +kernel) (by decide +kernel) rfl (by decide +kernel) ⟨by decide, by decide⟩ ⟨by decide, by decide⟩ (Nat.le_of_ble_eq_true rfl) dX7_init_9 rfl rfl (fun u0 => ?_)
  refine g_eq (ws' := (h0, .inr (7, [.null, .null, .null, .null, .null, .null, .null, .null, .null, .null, .int 0, .int 0])) :: ([] ++ cs_X3 c q0 u0)) rfl ?_
  refine g_putF (CC := RX7) (T := TX7) (N := 12) (fs' := [.ref q0, .null, .null, .null, .null, .null, .null, .null, .null, .null, .int 0, .int 0]) (ty := .object "SameAgain$Folders") C hnm 0 rfl (by decide) ic_X7 lc_X7_10 rfl tyX7_ok nmX7 rfl rfl rfl rfl rfl (Nat.le_of_ble_eq_true rfl) dX7_init_12 rfl ?_
  refine g_aload_n C 0 dX7_init_15 rfl ?_
  refine g_new (CC := RX1) (T := TX1) (N := 5) (ci := 1) (fs := [.null, .null, .null, .null, .int 0]) (tyf := tyX1) (k1 := 5) (k2 := 57) C rfl ic_X7_X1 tyX1_ok (by decide +kernel) (by decide +kernel) (by decide +kernel) (fun j hj => by rcases (show j = 0 ∨ j = 1 ∨ j = 2 ∨ j = 3 ∨ j = 4 by omega) with rfl | rfl | rfl | rfl | rfl <;> rfl) (by decide) (by decide) dX7_init_16 rfl rfl (fun q1 => ?_)
  refine g_dup C dX7_init_19 rfl ?_
  refine g_callN (host := "SameAgain") (k1 := 9) (k2 := 297) C (k_X1 (xl X) D c q1) gX7_init_X1_init_n18 rfl ⟨rfl, rfl⟩ (by decide +kernel) (by decide +kernel) (by decide +kernel) rfl (by decide +kernel) ⟨by decide, by decide⟩ ⟨by decide, by decide⟩ (Nat.le_of_ble_eq_true rfl) dX7_init_20 rfl rfl (fun u1 => ?_)
  refine g_eq (ws' := (h0, .inr (7, [.ref q0, .null, .null, .null, .null, .null, .null, .null, .null, .null, .int 0, .int 0])) :: (([] ++ cs_X3 c q0 u0) ++ cs_X1 c q1 u1)) rfl ?_
  refine g_putF (CC := RX7) (T := TX7) (N := 12) (fs' := [.ref q0, .ref q1, .null, .null, .null, .null, .null, .null, .null, .null, .int 0, .int 0]) (ty := .object "SameAgain$Files") C hnm 1 rfl (by decide) ic_X7 lc_X7_19 rfl tyX7_ok nmX7 rfl rfl rfl rfl rfl (Nat.le_of_ble_eq_true rfl) dX7_init_23 rfl ?_
  refine g_aload_n C 0 dX7_init_26 rfl ?_
  refine g_new (CC := RX0) (T := TX0) (N := 5) (ci := 0) (fs := [.null, .null, .null, .null, .int 0]) (tyf := tyX0) (k1 := 10) (k2 := 302) C rfl ic_X7_X0 tyX0_ok (by decide +kernel) (by decide +kernel) (by decide +kernel) (fun j hj => by rcases (show j = 0 ∨ j = 1 ∨ j = 2 ∨ j = 3 ∨ j = 4 by omega) with rfl | rfl | rfl | rfl | rfl <;> rfl) (by decide) (by decide) dX7_init_27 rfl rfl (fun q2 => ?_)
  refine g_dup C dX7_init_30 rfl ?_
  refine g_callN (host := "SameAgain") (k1 := 14) (k2 := 7002) C (k_X0 (xl X) D c q2) gX7_init_X0_init_n25 rfl ⟨rfl, rfl⟩ (by decide +kernel) (by decide +kernel) (by decide +kernel) rfl (by decide +kernel) ⟨by decide, by decide⟩ ⟨by decide, by decide⟩ (Nat.le_of_ble_eq_true rfl) dX7_init_31 rfl rfl (fun u2 => ?_)
  refine g_eq (ws' := (h0, .inr (7, [.ref q0, .ref q1, .null, .null, .null, .null, .null, .null, .null, .null, .int 0, .int 0])) :: ((([] ++ cs_X3 c q0 u0) ++ cs_X1 c q1 u1) ++ cs_X0 c q2 u2)) rfl ?_
  refine g_putF (CC := RX7) (T := TX7) (N := 12) (fs' := [.ref q0, .ref q1, .ref q2, .null, .null, .null, .null, .null, .null, .null, .int 0, .int 0]) (ty := .object "SameAgain$Bodies") C hnm 2 rfl (by decide) ic_X7 lc_X7_26 rfl tyX7_ok nmX7 rfl rfl rfl rfl rfl (Nat.le_of_ble_eq_true rfl) dX7_init_34 rfl ?_
  refine g_aload_n C 0 dX7_init_37 rfl ?_
  refine g_new (CC := RX2) (T := TX2) (N := 5) (ci := 2) (fs := [.null, .null, .null, .int 0, .int 0]) (tyf := tyX2) (k1 := 15) (k2 := 7007) C rfl ic_X7_X2 tyX2_ok (by decide +kernel) (by decide +kernel) (by decide +kernel) (fun j hj => by rcases (show j = 0 ∨ j = 1 ∨ j = 2 ∨ j = 3 ∨ j = 4 by omega) with rfl | rfl | rfl | rfl | rfl <;> rfl) (by decide) (by decide) dX7_init_38 rfl rfl (fun q3 => ?_)
  refine g_dup C dX7_init_41 rfl ?_
  refine g_callN (host := "SameAgain") (k1 := 18) (k2 := 7307) C (k_X2 (xl X) D c q3) gX7_init_X2_init_n32 rfl ⟨rfl, rfl⟩ (by decide +kernel) (by decide +kernel) (by decide +kernel) rfl (by decide +kernel) ⟨by decide, by decide⟩ ⟨by decide, by decide⟩ (Nat.le_of_ble_eq_true rfl) dX7_init_42 rfl rfl (fun u3 => ?_)
  refine g_eq (ws' := (h0, .inr (7, [.ref q0, .ref q1, .ref q2, .null, .null, .null, .null, .null, .null, .null, .int 0, .int 0])) :: (((([] ++ cs_X3 c q0 u0) ++ cs_X1 c q1 u1) ++ cs_X0 c q2 u2) ++ cs_X2 c q3 u3)) rfl ?_
  refine g_putF (CC := RX7) (T := TX7) (N := 12) (fs' := [.ref q0, .ref q1, .ref q2, .ref q3, .null, .null, .null, .null, .null, .null, .int 0, .int 0]) (ty := .object "SameAgain$Findings") C hnm 3 rfl (by decide) ic_X7 lc_X7_33 rfl tyX7_ok nmX7 rfl rfl rfl rfl rfl (Nat.le_of_ble_eq_true rfl) dX7_init_45 rfl ?_
  refine g_aload_n C 0 dX7_init_48 rfl ?_
  refine g_new (CC := RX5) (T := TX5) (N := 2) (ci := 5) (fs := [.null, .int 0]) (tyf := tyX5) (k1 := 19) (k2 := 7309) C rfl ic_X7_X5 tyX5_ok (by decide +kernel) (by decide +kernel) (by decide +kernel) (fun j hj => by rcases (show j = 0 ∨ j = 1 by omega) with rfl | rfl <;> rfl) (by decide) (by decide) dX7_init_49 rfl rfl (fun q4 => ?_)
  refine g_dup C dX7_init_52 rfl ?_
  refine g_callN (host := "SameAgain") (k1 := 20) (k2 := 7370) C (k_X5 (xl X) D c q4) gX7_init_X5_init_n39 rfl ⟨rfl, rfl⟩ (by decide +kernel) (by decide +kernel) (by decide +kernel) rfl (by decide +kernel) ⟨by decide, by decide⟩ ⟨by decide, by decide⟩ (Nat.le_of_ble_eq_true rfl) dX7_init_53 rfl rfl (fun u4 => ?_)
  refine g_eq (ws' := (h0, .inr (7, [.ref q0, .ref q1, .ref q2, .ref q3, .null, .null, .null, .null, .null, .null, .int 0, .int 0])) :: ((((([] ++ cs_X3 c q0 u0) ++ cs_X1 c q1 u1) ++ cs_X0 c q2 u2) ++ cs_X2 c q3 u3) ++ cs_X5 c q4 u4)) rfl ?_
  refine g_putF (CC := RX7) (T := TX7) (N := 12) (fs' := [.ref q0, .ref q1, .ref q2, .ref q3, .ref q4, .null, .null, .null, .null, .null, .int 0, .int 0]) (ty := .object "SameAgain$Pieces") C hnm 4 rfl (by decide) ic_X7 lc_X7_40 rfl tyX7_ok nmX7 rfl rfl rfl rfl rfl (Nat.le_of_ble_eq_true rfl) dX7_init_56 rfl ?_
  refine g_aload_n C 0 dX7_init_59 rfl ?_
  refine g_new (CC := RX5) (T := TX5) (N := 2) (ci := 5) (fs := [.null, .int 0]) (tyf := tyX5) (k1 := 21) (k2 := 7372) C rfl ic_X7_X5 tyX5_ok (by decide +kernel) (by decide +kernel) (by decide +kernel) (fun j hj => by rcases (show j = 0 ∨ j = 1 by omega) with rfl | rfl <;> rfl) (by decide) (by decide) dX7_init_60 rfl rfl (fun q5 => ?_)
  refine g_dup C dX7_init_63 rfl ?_
  refine g_callN (host := "SameAgain") (k1 := 22) (k2 := 7433) C (k_X5 (xl X) D c q5) gX7_init_X5_init_n39 rfl ⟨rfl, rfl⟩ (by decide +kernel) (by decide +kernel) (by decide +kernel) rfl (by decide +kernel) ⟨by decide, by decide⟩ ⟨by decide, by decide⟩ (Nat.le_of_ble_eq_true rfl) dX7_init_64 rfl rfl (fun u5 => ?_)
  refine g_eq (ws' := (h0, .inr (7, [.ref q0, .ref q1, .ref q2, .ref q3, .ref q4, .null, .null, .null, .null, .null, .int 0, .int 0])) :: (((((([] ++ cs_X3 c q0 u0) ++ cs_X1 c q1 u1) ++ cs_X0 c q2 u2) ++ cs_X2 c q3 u3) ++ cs_X5 c q4 u4) ++ cs_X5 c q5 u5)) rfl ?_
  refine g_putF (CC := RX7) (T := TX7) (N := 12) (fs' := [.ref q0, .ref q1, .ref q2, .ref q3, .ref q4, .ref q5, .null, .null, .null, .null, .int 0, .int 0]) (ty := .object "SameAgain$Pieces") C hnm 5 rfl (by decide) ic_X7 lc_X7_44 rfl tyX7_ok nmX7 rfl rfl rfl rfl rfl (Nat.le_of_ble_eq_true rfl) dX7_init_67 rfl ?_
  refine g_aload_n C 0 dX7_init_70 rfl ?_
  refine g_new (CC := RX6) (T := TX6) (N := 3) (ci := 6) (fs := [.null, .null, .int 0]) (tyf := tyX6) (k1 := 23) (k2 := 7436) C rfl ic_X7_X6 tyX6_ok (by decide +kernel) (by decide +kernel) (by decide +kernel) (fun j hj => by rcases (show j = 0 ∨ j = 1 ∨ j = 2 by omega) with rfl | rfl | rfl <;> rfl) (by decide) (by decide) dX7_init_71 rfl rfl (fun q6 => ?_)
  refine g_dup C dX7_init_74 rfl ?_
  refine g_callN (host := "SameAgain") (k1 := 25) (k2 := 7442) C (k_X6 (xl X) D c q6) gX7_init_X6_init_n49 rfl ⟨rfl, rfl⟩ (by decide +kernel) (by decide +kernel) (by decide +kernel) rfl (by decide +kernel) ⟨by decide, by decide⟩ ⟨by decide, by decide⟩ (Nat.le_of_ble_eq_true rfl) dX7_init_75 rfl rfl (fun u6 => ?_)
  refine g_eq (ws' := (h0, .inr (7, [.ref q0, .ref q1, .ref q2, .ref q3, .ref q4, .ref q5, .null, .null, .null, .null, .int 0, .int 0])) :: ((((((([] ++ cs_X3 c q0 u0) ++ cs_X1 c q1 u1) ++ cs_X0 c q2 u2) ++ cs_X2 c q3 u3) ++ cs_X5 c q4 u4) ++ cs_X5 c q5 u5) ++ cs_X6 c q6 u6)) rfl ?_
  refine g_putF (CC := RX7) (T := TX7) (N := 12) (fs' := [.ref q0, .ref q1, .ref q2, .ref q3, .ref q4, .ref q5, .ref q6, .null, .null, .null, .int 0, .int 0]) (ty := .object "SameAgain$Wishes") C hnm 6 rfl (by decide) ic_X7 lc_X7_50 rfl tyX7_ok nmX7 rfl rfl rfl rfl rfl (Nat.le_of_ble_eq_true rfl) dX7_init_78 rfl ?_
  refine g_aload_n C 0 dX7_init_81 rfl ?_
  refine g_new (CC := RX4) (T := TX4) (N := 4) (ci := 4) (fs := [.null, .null, .int 0, .int 0]) (tyf := tyX4) (k1 := 26) (k2 := 7446) C rfl ic_X7_X4 tyX4_ok (by decide +kernel) (by decide +kernel) (by decide +kernel) (fun j hj => by rcases (show j = 0 ∨ j = 1 ∨ j = 2 ∨ j = 3 by omega) with rfl | rfl | rfl | rfl <;> rfl) (by decide) (by decide) dX7_init_82 rfl rfl (fun q7 => ?_)
  refine g_dup C dX7_init_85 rfl ?_
  refine g_callN (host := "SameAgain") (k1 := 48) (k2 := 8686) C (k_X4 (xl X) D c q7) gX7_init_X4_init_n56 rfl ⟨rfl, rfl⟩ (by decide +kernel) (by decide +kernel) (by decide +kernel) rfl (by decide +kernel) ⟨by decide, by decide⟩ ⟨by decide, by decide⟩ (Nat.le_of_ble_eq_true rfl) dX7_init_86 rfl rfl (fun u7 => ?_)
  refine g_eq (ws' := (h0, .inr (7, [.ref q0, .ref q1, .ref q2, .ref q3, .ref q4, .ref q5, .ref q6, .null, .null, .null, .int 0, .int 0])) :: (((((((([] ++ cs_X3 c q0 u0) ++ cs_X1 c q1 u1) ++ cs_X0 c q2 u2) ++ cs_X2 c q3 u3) ++ cs_X5 c q4 u4) ++ cs_X5 c q5 u5) ++ cs_X6 c q6 u6) ++ cs_X4 c q7 u7)) rfl ?_
  refine g_putF (CC := RX7) (T := TX7) (N := 12) (fs' := [.ref q0, .ref q1, .ref q2, .ref q3, .ref q4, .ref q5, .ref q6, .ref q7, .null, .null, .int 0, .int 0]) (ty := .object "SameAgain$Mergings") C hnm 7 rfl (by decide) ic_X7 lc_X7_57 rfl tyX7_ok nmX7 rfl rfl rfl rfl rfl (Nat.le_of_ble_eq_true rfl) dX7_init_89 rfl ?_
  refine g_aload_n C 0 dX7_init_92 rfl ?_
  refine g_bipush (v := 64) C dX7_init_93 (by decide) ?_
  refine g_newa (N := 64) (a0 := (64, .inl (fun _ => 0))) (k1 := 49) (k2 := 8750) C 2 rfl (fun x y h1 h2 => Option.some.inj (h1.symm.trans h2)) (by decide +kernel) rfl (fun cA => rfl) (by decide) (by decide) (by decide) (by decide) (by decide) dX7_init_95 rfl rfl (fun q8 => ?_)
  refine g_eq (ws' := (h0, .inr (7, [.ref q0, .ref q1, .ref q2, .ref q3, .ref q4, .ref q5, .ref q6, .ref q7, .null, .null, .int 0, .int 0])) :: ((((((((([] ++ cs_X3 c q0 u0) ++ cs_X1 c q1 u1) ++ cs_X0 c q2 u2) ++ cs_X2 c q3 u3) ++ cs_X5 c q4 u4) ++ cs_X5 c q5 u5) ++ cs_X6 c q6 u6) ++ cs_X4 c q7 u7) ++ [(q8, .inl (c 2, 64, .inl (fun _ => 0)))])) rfl ?_
  refine g_putF (CC := RX7) (T := TX7) (N := 12) (fs' := [.ref q0, .ref q1, .ref q2, .ref q3, .ref q4, .ref q5, .ref q6, .ref q7, .ref q8, .null, .int 0, .int 0]) (ty := .array .boolean) C hnm 8 rfl (by decide) ic_X7 lc_X7_61 rfl tyX7_ok nmX7 rfl rfl rfl rfl rfl (Nat.le_of_ble_eq_true rfl) dX7_init_97 rfl ?_
  refine g_aload_n C 0 dX7_init_100 rfl ?_
  refine g_bipush (v := 16) C dX7_init_101 (by decide) ?_
  refine g_newa (N := 16) (a0 := (16, .inl (fun _ => 0))) (k1 := 50) (k2 := 8766) C 0 rfl (fun x y h1 h2 => Option.some.inj (h1.symm.trans h2)) (by decide +kernel) rfl (fun cA => rfl) (by decide) (by decide) (by decide) (by decide) (by decide) dX7_init_103 rfl rfl (fun q9 => ?_)
  refine g_eq (ws' := (h0, .inr (7, [.ref q0, .ref q1, .ref q2, .ref q3, .ref q4, .ref q5, .ref q6, .ref q7, .ref q8, .null, .int 0, .int 0])) :: (((((((((([] ++ cs_X3 c q0 u0) ++ cs_X1 c q1 u1) ++ cs_X0 c q2 u2) ++ cs_X2 c q3 u3) ++ cs_X5 c q4 u4) ++ cs_X5 c q5 u5) ++ cs_X6 c q6 u6) ++ cs_X4 c q7 u7) ++ [(q8, .inl (c 2, 64, .inl (fun _ => 0)))]) ++ [(q9, .inl (c 0, 16, .inl (fun _ => 0)))])) rfl ?_
  refine g_putF (CC := RX7) (T := TX7) (N := 12) (fs' := [.ref q0, .ref q1, .ref q2, .ref q3, .ref q4, .ref q5, .ref q6, .ref q7, .ref q8, .ref q9, .int 0, .int 0]) (ty := .array .int) C hnm 9 rfl (by decide) ic_X7 lc_X7_65 rfl tyX7_ok nmX7 rfl rfl rfl rfl rfl (Nat.le_of_ble_eq_true rfl) dX7_init_105 rfl ?_
  refine g_aload_n C 0 dX7_init_108 rfl ?_
  refine g_iconst (v := 0) C dX7_init_109 (by decide) ?_
  refine g_put (CC := RX7) (T := TX7) (N := 12) (fs' := [.ref q0, .ref q1, .ref q2, .ref q3, .ref q4, .ref q5, .ref q6, .ref q7, .ref q8, .ref q9, .int 0, .int 0]) (ty := .int) C 10 rfl (by decide) ic_X7 lc_X7_69 rfl tyX7_ok nmX7 rfl rfl rfl rfl (Nat.le_of_ble_eq_true rfl) dX7_init_110 rfl ?_
  refine g_aload_n C 0 dX7_init_113 rfl ?_
  refine g_iconst (v := 0) C dX7_init_114 (by decide) ?_
  refine g_put (CC := RX7) (T := TX7) (N := 12) (fs' := [.ref q0, .ref q1, .ref q2, .ref q3, .ref q4, .ref q5, .ref q6, .ref q7, .ref q8, .ref q9, .int 0, .int 0]) (ty := .int) C 11 rfl (by decide) ic_X7 lc_X7_73 rfl tyX7_ok nmX7 rfl rfl rfl rfl (Nat.le_of_ble_eq_true rfl) dX7_init_115 rfl ?_
  exact g_vret C hQ (by decide) (by decide) (fun k => match k with | 0 => q0 | 1 => q1 | 2 => q2 | 3 => q3 | 4 => q4 | 5 => q5 | 6 => q6 | 7 => q7 | 8 => q8 | _ => q9, fun k => match k with | 0 => u0 | 1 => u1 | 2 => u2 | 3 => u3 | 4 => u4 | 5 => u5 | 6 => u6 | _ => u7) rfl dX7_init_118
