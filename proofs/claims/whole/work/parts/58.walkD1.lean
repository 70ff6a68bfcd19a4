/-! X8_days -/
abbrev rm_X8_days : Room := { frames := 1, cells := 0, slots := 0, locals := 22 }
theorem in_X8_days_X8 : ∀ w ∈ wsX80, w ∈ wsX8_days := by decide +kernel
theorem lk_X8_days_87 : Cond.fieldLink RX8 87 "SameAgainModel" "thrown" "I" ∈ wsX8_days := by decide +kernel
theorem lk_X8_days_118 : Cond.fieldLink RX8 118 "SameAgainModel" "day" "I" ∈ wsX8_days := by decide +kernel
set_option maxHeartbeats 4000000 in
set_option maxRecDepth 100000 in
theorem w_X8_days_b22_j {G : Gt} {X : Cxt} {Q : State → Prop} (C : Cx G X cX8_days RX8 wsX8_days 2 rm_X8_days) {post : Int32 → Mem → Prop} (hQ : RetI G X Q post .int 0 0) {v1 s0 : Int32} {μ : Mem} (h : w_X8_days_b22 post v1 s0 μ) : J G X Q 2 0 0 22 [(0, .ref (ad G 31)), (1, .int v1)] [.int s0, .ref (ad G 31)] μ := by
  unfold w_X8_days_b22 at h
  refine j_iconst (v := 1) C dX8_days_22 (by decide) ?_
  refine j_cVI (n := 2) (rest := []) C 31 (c_X8_right (xl X) G C.2.2.1 _ s0 (1 : Int32) μ) h gX8_days_X8_right rfl ⟨rfl, rfl⟩ (by decide +kernel) ⟨by decide, by decide⟩ ⟨by decide, by decide⟩ sh_31 (by decide) cl_X8 rfl rfl (Nat.le_of_ble_eq_true rfl) dX8_days_23 rfl rfl (fun r4 μ3 h => ?_)
  refine j_if_ne C 31 dX8_days_26 (by decide) (fun c7 => ?_) (fun c7 => ?_)
  · replace h := h.1 c7
    refine j_aload_n C 0 dX8_days_31 rfl ?_
    refine j_dup C dX8_days_32 rfl ?_
    refine j_getI C 31 4 sh_31 (by decide) cl_X8 (by decide) rfl in_X8_days_X8 lk_X8_days_118 rfl dX8_days_33 ?_
    refine j_iload_n C 1 dX8_days_36 rfl ?_
    refine j_iadd C dX8_days_37 ?_
    obtain ⟨μ5, e6⟩ : ∃ m, m = wr μ3 31 4 ((μ3 31 4) + v1) := ⟨_, rfl⟩
    replace h := h μ5 e6
    refine j_put C 31 4 sh_31 (by decide) cl_X8 (by decide) rfl in_X8_days_X8 lk_X8_days_118 rfl tyX8_ok nmX8 rfl rfl dX8_days_38 e6 ?_
    refine j_aload_n C 0 dX8_days_41 rfl ?_
    refine j_getI C 31 4 sh_31 (by decide) cl_X8 (by decide) rfl in_X8_days_X8 lk_X8_days_118 rfl dX8_days_42 ?_
    exact j_iret C hQ (by decide) (by decide) h dX8_days_45
  · replace h := h.2 c7
    refine j_iconst (v := 0) C dX8_days_29 (by decide) ?_
    exact j_iret C hQ (by decide) (by decide) h dX8_days_30
set_option maxHeartbeats 4000000 in
set_option maxRecDepth 100000 in
theorem w_X8_days_b21_j {G : Gt} {X : Cxt} {Q : State → Prop} (C : Cx G X cX8_days RX8 wsX8_days 2 rm_X8_days) {post : Int32 → Mem → Prop} (hQ : RetI G X Q post .int 0 0) {v1 : Int32} {μ : Mem} (h : w_X8_days_b21 post v1 μ) : J G X Q 2 0 0 21 [(0, .ref (ad G 31)), (1, .int v1)] [.ref (ad G 31)] μ := by
  unfold w_X8_days_b21 at h
  refine j_iconst (v := 0) C dX8_days_21 (by decide) ?_
  exact w_X8_days_b22_j C hQ h
set_option maxHeartbeats 4000000 in
set_option maxRecDepth 100000 in
theorem c_X8_days (l : Launch) (G : Gt) (hD : Dj G) (post : Int32 → Mem → Prop) (a1 : Int32) (μ : Mem) : MI G l yX8_days wsX8_days rm_X8_days 0 0 [.ref (ad G 31), .int a1] μ (w_X8_days post a1 μ) post := by
  refine mI_of (cc := cX8_days) (maxL := 2) (ty := .int) (lv0 := [(0, .ref (ad G 31)), (1, .int a1)]) hD (by decide) rfl (Nat.le_of_ble_eq_true rfl) rfl ?_
  intro X Q hl C hQ h
  subst hl
  replace C : Cx G X cX8_days RX8 wsX8_days 2 rm_X8_days := C
  unfold w_X8_days at h
  refine j_aload_n C 0 dX8_days_0 rfl ?_
  refine j_iconst (v := 0) C dX8_days_1 (by decide) ?_
  obtain ⟨μ1, e2⟩ : ∃ m, m = wr μ 31 0 (0 : Int32) := ⟨_, rfl⟩
  replace h := h μ1 e2
  refine j_put C 31 0 sh_31 (by decide) cl_X8 (by decide) rfl in_X8_days_X8 lk_X8_days_87 rfl tyX8_ok nmX8 rfl rfl dX8_days_2 e2 ?_
  refine j_aload_n C 0 dX8_days_5 rfl ?_
  refine j_iload_n C 1 dX8_days_6 rfl ?_
  refine j_if_lt C 21 dX8_days_7 (by decide) (fun c9 => ?_) (fun c9 => ?_)
  · replace h := h.1 c9
    exact w_X8_days_b21_j C hQ h
  · replace h := h.2 c9
    refine j_iload_n C 1 dX8_days_10 rfl ?_
    refine j_sipush (v := 1000) C dX8_days_11 (by decide) ?_
    refine j_icmp_gt C 21 dX8_days_14 (by decide) (fun c8 => ?_) (fun c8 => ?_)
    · replace h := h.1 c8
      exact w_X8_days_b21_j C hQ h
    · replace h := h.2 c8
      refine j_iconst (v := 1) C dX8_days_17 (by decide) ?_
      refine j_goto C 22 dX8_days_18 (by decide) ?_
      exact w_X8_days_b22_j C hQ h
/-! X8_hasSame -/
abbrev rm_X8_hasSame : Room := { frames := 0, cells := 0, slots := 0, locals := 0 }
theorem in_X8_hasSame_X8 : ∀ w ∈ wsX80, w ∈ wsX8_hasSame := by decide +kernel
theorem lk_X8_hasSame_45 : Cond.fieldLink RX8 45 "SameAgainModel" "bytes" "[I" ∈ wsX8_hasSame := by decide +kernel
set_option maxHeartbeats 4000000 in
set_option maxRecDepth 100000 in
theorem w_X8_hasSame_b3_j {G : Gt} {X : Cxt} {Q : State → Prop} (C : Cx G X cX8_hasSame RX8 wsX8_hasSame 6 rm_X8_hasSame) {post : Int32 → Mem → Prop} (hQ : RetI G X Q post .boolean 0 0) : ∀ (n : Nat) (v1 v2 v4 v5 : Int32) (μ : Mem), itr (fun _ _ _ _ _ => False) (w_X8_hasSame_b3 post) n v1 v2 v4 v5 μ → J G X Q 6 0 0 3 [(0, .ref (ad G 31)), (1, .int v1), (2, .int v2), (4, .int v4), (5, .int v5)] [] μ := by
  intro n
  induction n with
  | zero => intro v1 v2 v4 v5 μ h; exact h.elim
  | succ n ih =>
    intro v1 v2 v4 v5 μ h
    replace h : w_X8_hasSame_b3 post (itr (fun _ _ _ _ _ => False) (w_X8_hasSame_b3 post) n) v1 v2 v4 v5 μ := h
    generalize itr (fun _ _ _ _ _ => False) (w_X8_hasSame_b3 post) n = k3 at ih h
    have hk3 := ih
    unfold w_X8_hasSame_b3 at h
    refine j_iload C 4 dX8_hasSame_3 rfl ?_
    refine j_iload C 3 dX8_hasSame_5 rfl ?_
    refine j_icmp_ge C 45 dX8_hasSame_7 (by decide) (fun c4 => ?_) (fun c4 => ?_)
    · replace h := h.1 c4
      refine j_iconst (v := 1) C dX8_hasSame_45 (by decide) ?_
      exact j_zret C hQ (by decide) (by decide) rfl h dX8_hasSame_46
    · replace h := h.2 c4
      refine j_aload_n C 0 dX8_hasSame_10 rfl ?_
      refine j_getR C 31 19 sh_31 (by decide) cl_X8 (by decide) rfl in_X8_hasSame_X8 lk_X8_hasSame_45 rfl dX8_hasSame_11 ?_
      refine j_bipush (v := 64) C dX8_hasSame_14 (by decide) ?_
      refine j_iload_n C 1 dX8_hasSame_16 rfl ?_
      refine j_imul C dX8_hasSame_17 ?_
      refine j_iload C 4 dX8_hasSame_18 rfl ?_
      refine j_iadd C dX8_hasSame_20 ?_
      have b1 := h.1
      replace h := h.2
      refine j_iald C 42 sh_42 (by decide) b1 dX8_hasSame_21 ?_
      refine j_aload_n C 0 dX8_hasSame_22 rfl ?_
      refine j_getR C 31 19 sh_31 (by decide) cl_X8 (by decide) rfl in_X8_hasSame_X8 lk_X8_hasSame_45 rfl dX8_hasSame_23 ?_
      refine j_bipush (v := 64) C dX8_hasSame_26 (by decide) ?_
      refine j_iload_n C 2 dX8_hasSame_28 rfl ?_
      refine j_imul C dX8_hasSame_29 ?_
      refine j_iload C 4 dX8_hasSame_30 rfl ?_
      refine j_iadd C dX8_hasSame_32 ?_
      have b2 := h.1
      replace h := h.2
      refine j_iald C 42 sh_42 (by decide) b2 dX8_hasSame_33 ?_
      refine j_icmp_eq C 39 dX8_hasSame_34 (by decide) (fun c3 => ?_) (fun c3 => ?_)
      · replace h := h.1 c3
        refine j_iinc (v := v5 + (1 : Int32)) (lv' := [(0, .ref (ad G 31)), (1, .int v1), (2, .int v2), (4, .int v4), (5, .int (v5 + (1 : Int32)))]) C 4 dX8_hasSame_39 rfl rfl (by decide) rfl rfl ?_
        refine j_goto C 3 dX8_hasSame_42 (by decide) ?_
        exact hk3 _ _ _ _ _ h
      · replace h := h.2 c3
        refine j_iconst (v := 0) C dX8_hasSame_37 (by decide) ?_
        exact j_zret C hQ (by decide) (by decide) rfl h dX8_hasSame_38
set_option maxHeartbeats 4000000 in
set_option maxRecDepth 100000 in
theorem c_X8_hasSame (l : Launch) (G : Gt) (hD : Dj G) (post : Int32 → Mem → Prop) (a1 a2 a3 a4 : Int32) (μ : Mem) : MI G l yX8_hasSame wsX8_hasSame rm_X8_hasSame 0 0 [.ref (ad G 31), .int a1, .int a2, .int a3, .int a4] μ (w_X8_hasSame post a1 a2 a3 a4 μ) post := by
  refine mI_of (cc := cX8_hasSame) (maxL := 6) (ty := .boolean) (lv0 := [(0, .ref (ad G 31)), (1, .int a1), (2, .int a2), (3, .int a3), (4, .int a4)]) hD (by decide) rfl (Nat.le_of_ble_eq_true rfl) rfl ?_
  intro X Q hl C hQ h
  subst hl
  replace C : Cx G X cX8_hasSame RX8 wsX8_hasSame 6 rm_X8_hasSame := C
  unfold w_X8_hasSame at h
  refine j_iload_n C 3 dX8_hasSame_0 rfl ?_
  refine j_istore (lv' := [(0, .ref (ad G 31)), (1, .int a1), (2, .int a2), (3, .int a3), (4, .int a4), (5, .int a3)]) C dX8_hasSame_1 (by decide) rfl rfl ?_
  refine j_forget [0, 1, 2, 4, 5] rfl ?_
  obtain ⟨n9, h⟩ := h
  exact w_X8_hasSame_b3_j C hQ n9 _ _ _ _ _ h
/-! X8_differ -/
abbrev rm_X8_differ : Room := { frames := 2, cells := 0, slots := 0, locals := 43 }
theorem in_X8_differ_X8 : ∀ w ∈ wsX80, w ∈ wsX8_differ := by decide +kernel
theorem lk_X8_differ_87 : Cond.fieldLink RX8 87 "SameAgainModel" "thrown" "I" ∈ wsX8_differ := by decide +kernel
theorem lk_X8_differ_75 : Cond.fieldLink RX8 75 "SameAgainModel" "left" "[I" ∈ wsX8_differ := by decide +kernel
theorem lk_X8_differ_78 : Cond.fieldLink RX8 78 "SameAgainModel" "beside" "[I" ∈ wsX8_differ := by decide +kernel
theorem lk_X8_differ_94 : Cond.fieldLink RX8 94 "SameAgainModel" "files" "I" ∈ wsX8_differ := by decide +kernel
theorem lk_X8_differ_7 : Cond.fieldLink RX8 7 "SameAgainModel" "folders" "I" ∈ wsX8_differ := by decide +kernel
theorem lk_X8_differ_13 : Cond.fieldLink RX8 13 "SameAgainModel" "folderIn" "[I" ∈ wsX8_differ := by decide +kernel
theorem lk_X8_differ_17 : Cond.fieldLink RX8 17 "SameAgainModel" "folderName" "[I" ∈ wsX8_differ := by decide +kernel
theorem lk_X8_differ_20 : Cond.fieldLink RX8 20 "SameAgainModel" "in" "[I" ∈ wsX8_differ := by decide +kernel
theorem lk_X8_differ_23 : Cond.fieldLink RX8 23 "SameAgainModel" "name" "[I" ∈ wsX8_differ := by decide +kernel
theorem lk_X8_differ_33 : Cond.fieldLink RX8 33 "SameAgainModel" "size" "[I" ∈ wsX8_differ := by decide +kernel
theorem lk_X8_differ_26 : Cond.fieldLink RX8 26 "SameAgainModel" "body" "[I" ∈ wsX8_differ := by decide +kernel
set_option maxHeartbeats 4000000 in
set_option maxRecDepth 100000 in
theorem w_X8_differ_b289_j {G : Gt} {X : Cxt} {Q : State → Prop} (C : Cx G X cX8_differ RX8 wsX8_differ 10 rm_X8_differ) {post : Int32 → Mem → Prop} (hQ : RetI G X Q post .int 0 0) {k45 : Int32 → Int32 → Int32 → Mem → Prop} (hk45 : ∀ (v3 v4 v5 : Int32) (μ : Mem), k45 v3 v4 v5 μ → J G X Q 10 0 0 45 [(0, .ref (ad G 31)), (3, .int v3), (4, .int v4), (5, .int v5)] [] μ) {k220 : Int32 → Int32 → Int32 → Int32 → Int32 → Int32 → Mem → Prop} (hk220 : ∀ (v3 v4 v5 v6 v7 v8 : Int32) (μ : Mem), k220 v3 v4 v5 v6 v7 v8 μ → J G X Q 10 0 0 220 [(0, .ref (ad G 31)), (3, .int v3), (4, .int v4), (5, .int v5), (6, .int v6), (7, .int v7), (8, .int v8)] [] μ) {v3 v4 v5 v6 v7 v8 : Int32} {μ : Mem} (h : w_X8_differ_b289 post k45 k220 v3 v4 v5 v6 v7 v8 μ) : J G X Q 10 0 0 289 [(0, .ref (ad G 31)), (3, .int v3), (4, .int v4), (5, .int v5), (6, .int v6), (7, .int v7), (8, .int v8)] [] μ := by
  unfold w_X8_differ_b289 at h
  refine j_aload_n C 0 dX8_differ_289 rfl ?_
  refine j_getR C 31 9 sh_31 (by decide) cl_X8 (by decide) rfl in_X8_differ_X8 lk_X8_differ_13 rfl dX8_differ_290 ?_
  refine j_iload C 6 dX8_differ_293 rfl ?_
  have b16 := h.1
  replace h := h.2
  refine j_iald C 32 sh_32 (by decide) b16 dX8_differ_295 ?_
  refine j_iload C 5 dX8_differ_296 rfl ?_
  refine j_icmp_ne C 321 dX8_differ_298 (by decide) (fun c21 => ?_) (fun c21 => ?_)
  · replace h := h.1 c21
    refine j_iinc (v := v8 + (1 : Int32)) (lv' := [(0, .ref (ad G 31)), (3, .int v3), (4, .int v4), (5, .int v5), (6, .int v6), (7, .int v7), (8, .int (v8 + (1 : Int32)))]) C 6 dX8_differ_321 rfl rfl (by decide) rfl rfl ?_
    refine j_goto C 220 dX8_differ_324 (by decide) ?_
    exact hk220 _ _ _ _ _ _ _ h
  · replace h := h.2 c21
    refine j_aload_n C 0 dX8_differ_301 rfl ?_
    refine j_iload C 4 dX8_differ_302 rfl ?_
    refine j_aload_n C 0 dX8_differ_304 rfl ?_
    refine j_getR C 31 10 sh_31 (by decide) cl_X8 (by decide) rfl in_X8_differ_X8 lk_X8_differ_17 rfl dX8_differ_305 ?_
    refine j_iload C 6 dX8_differ_308 rfl ?_
    have b17 := h.1
    replace h := h.2
    refine j_iald C 33 sh_33 (by decide) b17 dX8_differ_310 ?_
    refine j_cVI (n := 2) (rest := []) C 31 (c_X8_child (xl X) G C.2.2.1 _ v6 (μ 33 (ix v8)) μ) h gX8_differ_X8_child rfl ⟨rfl, rfl⟩ (by decide +kernel) ⟨by decide, by decide⟩ ⟨by decide, by decide⟩ sh_31 (by decide) cl_X8 rfl rfl (Nat.le_of_ble_eq_true rfl) dX8_differ_311 rfl rfl (fun r19 μ18 h => ?_)
    refine j_iconst (v := -1) C dX8_differ_314 (by decide) ?_
    refine j_icmp_ne C 321 dX8_differ_315 (by decide) (fun c20 => ?_) (fun c20 => ?_)
    · replace h := h.1 c20
      refine j_iinc (v := v8 + (1 : Int32)) (lv' := [(0, .ref (ad G 31)), (3, .int v3), (4, .int v4), (5, .int v5), (6, .int v6), (7, .int v7), (8, .int (v8 + (1 : Int32)))]) C 6 dX8_differ_321 rfl rfl (by decide) rfl rfl ?_
      refine j_goto C 220 dX8_differ_324 (by decide) ?_
      exact hk220 _ _ _ _ _ _ _ h
    · replace h := h.2 c20
      refine j_iinc (v := v3 + (1 : Int32)) (lv' := [(0, .ref (ad G 31)), (3, .int (v3 + (1 : Int32))), (4, .int v4), (5, .int v5), (6, .int v6), (7, .int v7), (8, .int v8)]) C 1 dX8_differ_318 rfl rfl (by decide) rfl rfl ?_
      refine j_iinc (v := v8 + (1 : Int32)) (lv' := [(0, .ref (ad G 31)), (3, .int (v3 + (1 : Int32))), (4, .int v4), (5, .int v5), (6, .int v6), (7, .int v7), (8, .int (v8 + (1 : Int32)))]) C 6 dX8_differ_321 rfl rfl (by decide) rfl rfl ?_
      refine j_goto C 220 dX8_differ_324 (by decide) ?_
      exact hk220 _ _ _ _ _ _ _ h
set_option maxHeartbeats 4000000 in
set_option maxRecDepth 100000 in
theorem w_X8_differ_b220_j {G : Gt} {X : Cxt} {Q : State → Prop} (C : Cx G X cX8_differ RX8 wsX8_differ 10 rm_X8_differ) {post : Int32 → Mem → Prop} (hQ : RetI G X Q post .int 0 0) {k45 : Int32 → Int32 → Int32 → Mem → Prop} (hk45 : ∀ (v3 v4 v5 : Int32) (μ : Mem), k45 v3 v4 v5 μ → J G X Q 10 0 0 45 [(0, .ref (ad G 31)), (3, .int v3), (4, .int v4), (5, .int v5)] [] μ) : ∀ (n : Nat) (v3 v4 v5 v6 v7 v8 : Int32) (μ : Mem), itr (fun _ _ _ _ _ _ _ => False) (w_X8_differ_b220 post k45) n v3 v4 v5 v6 v7 v8 μ → J G X Q 10 0 0 220 [(0, .ref (ad G 31)), (3, .int v3), (4, .int v4), (5, .int v5), (6, .int v6), (7, .int v7), (8, .int v8)] [] μ := by
  intro n
  induction n with
  | zero => intro v3 v4 v5 v6 v7 v8 μ h; exact h.elim
  | succ n ih =>
    intro v3 v4 v5 v6 v7 v8 μ h
    replace h : w_X8_differ_b220 post k45 (itr (fun _ _ _ _ _ _ _ => False) (w_X8_differ_b220 post k45) n) v3 v4 v5 v6 v7 v8 μ := h
    generalize itr (fun _ _ _ _ _ _ _ => False) (w_X8_differ_b220 post k45) n = k220 at ih h
    have hk220 := ih
    unfold w_X8_differ_b220 at h
    refine j_iload C 6 dX8_differ_220 rfl ?_
    refine j_aload_n C 0 dX8_differ_222 rfl ?_
    refine j_getI C 31 1 sh_31 (by decide) cl_X8 (by decide) rfl in_X8_differ_X8 lk_X8_differ_7 rfl dX8_differ_223 ?_
    refine j_icmp_ge C 327 dX8_differ_226 (by decide) (fun c33 => ?_) (fun c33 => ?_)
    · replace h := h.1 c33
      refine j_iinc (v := v5 + (1 : Int32)) (lv' := [(0, .ref (ad G 31)), (3, .int v3), (4, .int v4), (5, .int (v5 + (1 : Int32))), (6, .int v6), (7, .int v7), (8, .int v8)]) C 3 dX8_differ_327 rfl rfl (by decide) rfl rfl ?_
      refine j_goto C 45 dX8_differ_330 (by decide) ?_
      refine j_forget [0, 1, 2, 3] rfl ?_
      exact hk45 _ _ _ _ h
    · replace h := h.2 c33
      refine j_aload_n C 0 dX8_differ_229 rfl ?_
      refine j_getR C 31 9 sh_31 (by decide) cl_X8 (by decide) rfl in_X8_differ_X8 lk_X8_differ_13 rfl dX8_differ_230 ?_
      refine j_iload C 6 dX8_differ_233 rfl ?_
      have b15 := h.1
      replace h := h.2
      refine j_iald C 32 sh_32 (by decide) b15 dX8_differ_235 ?_
      refine j_iload C 4 dX8_differ_236 rfl ?_
      refine j_icmp_ne C 289 dX8_differ_238 (by decide) (fun c32 => ?_) (fun c32 => ?_)
      · replace h := h.1 c32
        exact w_X8_differ_b289_j C hQ hk45 hk220 h
      · replace h := h.2 c32
        refine j_aload_n C 0 dX8_differ_241 rfl ?_
        refine j_iload C 5 dX8_differ_242 rfl ?_
        refine j_aload_n C 0 dX8_differ_244 rfl ?_
        refine j_getR C 31 10 sh_31 (by decide) cl_X8 (by decide) rfl in_X8_differ_X8 lk_X8_differ_17 rfl dX8_differ_245 ?_
        refine j_iload C 6 dX8_differ_248 rfl ?_
        have b22 := h.1
        replace h := h.2
        refine j_iald C 33 sh_33 (by decide) b22 dX8_differ_250 ?_
        refine j_cVI (n := 2) (rest := []) C 31 (c_X8_child (xl X) G C.2.2.1 _ v7 (μ 33 (ix v8)) μ) h gX8_differ_X8_child rfl ⟨rfl, rfl⟩ (by decide +kernel) ⟨by decide, by decide⟩ ⟨by decide, by decide⟩ sh_31 (by decide) cl_X8 rfl rfl (Nat.le_of_ble_eq_true rfl) dX8_differ_251 rfl rfl (fun r24 μ23 h => ?_)
        refine j_istore (lv' := [(0, .ref (ad G 31)), (3, .int v3), (4, .int v4), (5, .int v5), (6, .int v6), (7, .int v7), (8, .int v8), (9, .int r24)]) C dX8_differ_254 (by decide) rfl rfl ?_
        refine j_iload C 7 dX8_differ_256 rfl ?_
        refine j_iconst (v := -1) C dX8_differ_258 (by decide) ?_
        refine j_icmp_ne C 268 dX8_differ_259 (by decide) (fun c31 => ?_) (fun c31 => ?_)
        · replace h := h.1 c31
          refine j_aload_n C 0 dX8_differ_268 rfl ?_
          refine j_getR C 31 30 sh_31 (by decide) cl_X8 (by decide) rfl in_X8_differ_X8 lk_X8_differ_75 rfl dX8_differ_269 ?_
          refine j_iload C 2 dX8_differ_272 rfl ?_
          refine j_iload C 6 dX8_differ_274 rfl ?_
          obtain ⟨μ25, e26⟩ : ∃ m, m = wr μ23 52 (ix v4) v8 := ⟨_, rfl⟩
          have b27 := h.1
          replace h := h.2 μ25 e26
          refine j_iast C 52 sh_52 (by decide) b27 dX8_differ_276 e26 ?_
          refine j_aload_n C 0 dX8_differ_277 rfl ?_
          refine j_getR C 31 31 sh_31 (by decide) cl_X8 (by decide) rfl in_X8_differ_X8 lk_X8_differ_78 rfl dX8_differ_278 ?_
          refine j_iload C 2 dX8_differ_281 rfl ?_
          refine j_iload C 7 dX8_differ_283 rfl ?_
          obtain ⟨μ28, e29⟩ : ∃ m, m = wr μ25 53 (ix v4) r24 := ⟨_, rfl⟩
          have b30 := h.1
          replace h := h.2 μ28 e29
          refine j_iast C 53 sh_53 (by decide) b30 dX8_differ_285 e29 ?_
          refine j_iinc (v := v4 + (1 : Int32)) (lv' := [(0, .ref (ad G 31)), (3, .int v3), (4, .int (v4 + (1 : Int32))), (5, .int v5), (6, .int v6), (7, .int v7), (8, .int v8), (9, .int r24)]) C 2 dX8_differ_286 rfl rfl (by decide) rfl rfl ?_
          refine j_forget [0, 1, 2, 3, 4, 5, 6] rfl ?_
          exact w_X8_differ_b289_j C hQ hk45 hk220 h
        · replace h := h.2 c31
          refine j_iinc (v := v3 + (1 : Int32)) (lv' := [(0, .ref (ad G 31)), (3, .int (v3 + (1 : Int32))), (4, .int v4), (5, .int v5), (6, .int v6), (7, .int v7), (8, .int v8), (9, .int r24)]) C 1 dX8_differ_262 rfl rfl (by decide) rfl rfl ?_
          refine j_goto C 289 dX8_differ_265 (by decide) ?_
          refine j_forget [0, 1, 2, 3, 4, 5, 6] rfl ?_
          exact w_X8_differ_b289_j C hQ hk45 hk220 h
set_option maxHeartbeats 4000000 in
set_option maxRecDepth 100000 in
theorem w_X8_differ_b179_j {G : Gt} {X : Cxt} {Q : State → Prop} (C : Cx G X cX8_differ RX8 wsX8_differ 10 rm_X8_differ) {post : Int32 → Mem → Prop} (hQ : RetI G X Q post .int 0 0) {k45 : Int32 → Int32 → Int32 → Mem → Prop} (hk45 : ∀ (v3 v4 v5 : Int32) (μ : Mem), k45 v3 v4 v5 μ → J G X Q 10 0 0 45 [(0, .ref (ad G 31)), (3, .int v3), (4, .int v4), (5, .int v5)] [] μ) {k73 : Int32 → Int32 → Int32 → Int32 → Int32 → Int32 → Mem → Prop} (hk73 : ∀ (v3 v4 v5 v6 v7 v8 : Int32) (μ : Mem), k73 v3 v4 v5 v6 v7 v8 μ → J G X Q 10 0 0 73 [(0, .ref (ad G 31)), (3, .int v3), (4, .int v4), (5, .int v5), (6, .int v6), (7, .int v7), (8, .int v8)] [] μ) {v3 v4 v5 v6 v7 v8 : Int32} {μ : Mem} (h : w_X8_differ_b179 post k45 k73 v3 v4 v5 v6 v7 v8 μ) : J G X Q 10 0 0 179 [(0, .ref (ad G 31)), (3, .int v3), (4, .int v4), (5, .int v5), (6, .int v6), (7, .int v7), (8, .int v8)] [] μ := by
  unfold w_X8_differ_b179 at h
  refine j_aload_n C 0 dX8_differ_179 rfl ?_
  refine j_getR C 31 11 sh_31 (by decide) cl_X8 (by decide) rfl in_X8_differ_X8 lk_X8_differ_20 rfl dX8_differ_180 ?_
  refine j_iload C 6 dX8_differ_183 rfl ?_
  have b35 := h.1
  replace h := h.2
  refine j_iald C 34 sh_34 (by decide) b35 dX8_differ_185 ?_
  refine j_iload C 5 dX8_differ_186 rfl ?_
  refine j_icmp_ne C 211 dX8_differ_188 (by decide) (fun c40 => ?_) (fun c40 => ?_)
  · replace h := h.1 c40
    refine j_iinc (v := v8 + (1 : Int32)) (lv' := [(0, .ref (ad G 31)), (3, .int v3), (4, .int v4), (5, .int v5), (6, .int v6), (7, .int v7), (8, .int (v8 + (1 : Int32)))]) C 6 dX8_differ_211 rfl rfl (by decide) rfl rfl ?_
    refine j_goto C 73 dX8_differ_214 (by decide) ?_
    exact hk73 _ _ _ _ _ _ _ h
  · replace h := h.2 c40
    refine j_aload_n C 0 dX8_differ_191 rfl ?_
    refine j_iload C 4 dX8_differ_192 rfl ?_
    refine j_aload_n C 0 dX8_differ_194 rfl ?_
    refine j_getR C 31 12 sh_31 (by decide) cl_X8 (by decide) rfl in_X8_differ_X8 lk_X8_differ_23 rfl dX8_differ_195 ?_
    refine j_iload C 6 dX8_differ_198 rfl ?_
    have b36 := h.1
    replace h := h.2
    refine j_iald C 35 sh_35 (by decide) b36 dX8_differ_200 ?_
    refine j_cVI (n := 2) (rest := []) C 31 (c_X8_named (xl X) G C.2.2.1 _ v6 (μ 35 (ix v8)) μ) h gX8_differ_X8_named rfl ⟨rfl, rfl⟩ (by decide +kernel) ⟨by decide, by decide⟩ ⟨by decide, by decide⟩ sh_31 (by decide) cl_X8 rfl rfl (Nat.le_of_ble_eq_true rfl) dX8_differ_201 rfl rfl (fun r38 μ37 h => ?_)
    refine j_iconst (v := -1) C dX8_differ_204 (by decide) ?_
    refine j_icmp_ne C 211 dX8_differ_205 (by decide) (fun c39 => ?_) (fun c39 => ?_)
    · replace h := h.1 c39
      refine j_iinc (v := v8 + (1 : Int32)) (lv' := [(0, .ref (ad G 31)), (3, .int v3), (4, .int v4), (5, .int v5), (6, .int v6), (7, .int v7), (8, .int (v8 + (1 : Int32)))]) C 6 dX8_differ_211 rfl rfl (by decide) rfl rfl ?_
      refine j_goto C 73 dX8_differ_214 (by decide) ?_
      exact hk73 _ _ _ _ _ _ _ h
    · replace h := h.2 c39
      refine j_iinc (v := v3 + (1 : Int32)) (lv' := [(0, .ref (ad G 31)), (3, .int (v3 + (1 : Int32))), (4, .int v4), (5, .int v5), (6, .int v6), (7, .int v7), (8, .int v8)]) C 1 dX8_differ_208 rfl rfl (by decide) rfl rfl ?_
      refine j_iinc (v := v8 + (1 : Int32)) (lv' := [(0, .ref (ad G 31)), (3, .int (v3 + (1 : Int32))), (4, .int v4), (5, .int v5), (6, .int v6), (7, .int v7), (8, .int (v8 + (1 : Int32)))]) C 6 dX8_differ_211 rfl rfl (by decide) rfl rfl ?_
      refine j_goto C 73 dX8_differ_214 (by decide) ?_
      exact hk73 _ _ _ _ _ _ _ h
set_option maxHeartbeats 4000000 in
set_option maxRecDepth 100000 in
theorem w_X8_differ_b176_j {G : Gt} {X : Cxt} {Q : State → Prop} (C : Cx G X cX8_differ RX8 wsX8_differ 10 rm_X8_differ) {post : Int32 → Mem → Prop} (hQ : RetI G X Q post .int 0 0) {k45 : Int32 → Int32 → Int32 → Mem → Prop} (hk45 : ∀ (v3 v4 v5 : Int32) (μ : Mem), k45 v3 v4 v5 μ → J G X Q 10 0 0 45 [(0, .ref (ad G 31)), (3, .int v3), (4, .int v4), (5, .int v5)] [] μ) {k73 : Int32 → Int32 → Int32 → Int32 → Int32 → Int32 → Mem → Prop} (hk73 : ∀ (v3 v4 v5 v6 v7 v8 : Int32) (μ : Mem), k73 v3 v4 v5 v6 v7 v8 μ → J G X Q 10 0 0 73 [(0, .ref (ad G 31)), (3, .int v3), (4, .int v4), (5, .int v5), (6, .int v6), (7, .int v7), (8, .int v8)] [] μ) {v3 v4 v5 v6 v7 v8 : Int32} {μ : Mem} (h : w_X8_differ_b176 post k45 k73 v3 v4 v5 v6 v7 v8 μ) : J G X Q 10 0 0 176 [(0, .ref (ad G 31)), (3, .int v3), (4, .int v4), (5, .int v5), (6, .int v6), (7, .int v7), (8, .int v8)] [] μ := by
  unfold w_X8_differ_b176 at h
  refine j_iinc (v := v3 + (1 : Int32)) (lv' := [(0, .ref (ad G 31)), (3, .int (v3 + (1 : Int32))), (4, .int v4), (5, .int v5), (6, .int v6), (7, .int v7), (8, .int v8)]) C 1 dX8_differ_176 rfl rfl (by decide) rfl rfl ?_
  exact w_X8_differ_b179_j C hQ hk45 hk73 h
set_option maxHeartbeats 4000000 in
set_option maxRecDepth 100000 in
theorem w_X8_differ_b73_j {G : Gt} {X : Cxt} {Q : State → Prop} (C : Cx G X cX8_differ RX8 wsX8_differ 10 rm_X8_differ) {post : Int32 → Mem → Prop} (hQ : RetI G X Q post .int 0 0) {k45 : Int32 → Int32 → Int32 → Mem → Prop} (hk45 : ∀ (v3 v4 v5 : Int32) (μ : Mem), k45 v3 v4 v5 μ → J G X Q 10 0 0 45 [(0, .ref (ad G 31)), (3, .int v3), (4, .int v4), (5, .int v5)] [] μ) : ∀ (n : Nat) (v3 v4 v5 v6 v7 v8 : Int32) (μ : Mem), itr (fun _ _ _ _ _ _ _ => False) (w_X8_differ_b73 post k45) n v3 v4 v5 v6 v7 v8 μ → J G X Q 10 0 0 73 [(0, .ref (ad G 31)), (3, .int v3), (4, .int v4), (5, .int v5), (6, .int v6), (7, .int v7), (8, .int v8)] [] μ := by
  intro n
  induction n with
  | zero => intro v3 v4 v5 v6 v7 v8 μ h; exact h.elim
  | succ n ih =>
    intro v3 v4 v5 v6 v7 v8 μ h
    replace h : w_X8_differ_b73 post k45 (itr (fun _ _ _ _ _ _ _ => False) (w_X8_differ_b73 post k45) n) v3 v4 v5 v6 v7 v8 μ := h
    generalize itr (fun _ _ _ _ _ _ _ => False) (w_X8_differ_b73 post k45) n = k73 at ih h
    have hk73 := ih
    unfold w_X8_differ_b73 at h
    refine j_iload C 6 dX8_differ_73 rfl ?_
    refine j_aload_n C 0 dX8_differ_75 rfl ?_
    refine j_getI C 31 2 sh_31 (by decide) cl_X8 (by decide) rfl in_X8_differ_X8 lk_X8_differ_94 rfl dX8_differ_76 ?_
    refine j_icmp_ge C 217 dX8_differ_79 (by decide) (fun c58 => ?_) (fun c58 => ?_)
    · replace h := h.1 c58
      refine j_iconst (v := 1) C dX8_differ_217 (by decide) ?_
      refine j_istore (lv' := [(0, .ref (ad G 31)), (3, .int v3), (4, .int v4), (5, .int v5), (6, .int v6), (7, .int v7), (8, .int (1 : Int32))]) C dX8_differ_218 (by decide) rfl rfl ?_
      obtain ⟨n9, h⟩ := h
      exact w_X8_differ_b220_j C hQ hk45 n9 _ _ _ _ _ _ _ h
    · replace h := h.2 c58
      refine j_aload_n C 0 dX8_differ_82 rfl ?_
      refine j_getR C 31 11 sh_31 (by decide) cl_X8 (by decide) rfl in_X8_differ_X8 lk_X8_differ_20 rfl dX8_differ_83 ?_
      refine j_iload C 6 dX8_differ_86 rfl ?_
      have b34 := h.1
      replace h := h.2
      refine j_iald C 34 sh_34 (by decide) b34 dX8_differ_88 ?_
      refine j_iload C 4 dX8_differ_89 rfl ?_
      refine j_icmp_ne C 179 dX8_differ_91 (by decide) (fun c57 => ?_) (fun c57 => ?_)
      · replace h := h.1 c57
        exact w_X8_differ_b179_j C hQ hk45 hk73 h
      · replace h := h.2 c57
        refine j_aload_n C 0 dX8_differ_94 rfl ?_
        refine j_iload C 5 dX8_differ_95 rfl ?_
        refine j_aload_n C 0 dX8_differ_97 rfl ?_
        refine j_getR C 31 12 sh_31 (by decide) cl_X8 (by decide) rfl in_X8_differ_X8 lk_X8_differ_23 rfl dX8_differ_98 ?_
        refine j_iload C 6 dX8_differ_101 rfl ?_
        have b41 := h.1
        replace h := h.2
        refine j_iald C 35 sh_35 (by decide) b41 dX8_differ_103 ?_
        refine j_cVI (n := 2) (rest := []) C 31 (c_X8_named (xl X) G C.2.2.1 _ v7 (μ 35 (ix v8)) μ) h gX8_differ_X8_named rfl ⟨rfl, rfl⟩ (by decide +kernel) ⟨by decide, by decide⟩ ⟨by decide, by decide⟩ sh_31 (by decide) cl_X8 rfl rfl (Nat.le_of_ble_eq_true rfl) dX8_differ_104 rfl rfl (fun r43 μ42 h => ?_)
        refine j_istore (lv' := [(0, .ref (ad G 31)), (3, .int v3), (4, .int v4), (5, .int v5), (6, .int v6), (7, .int v7), (8, .int v8), (9, .int r43)]) C dX8_differ_107 (by decide) rfl rfl ?_
        refine j_iload C 7 dX8_differ_109 rfl ?_
        refine j_iconst (v := -1) C dX8_differ_111 (by decide) ?_
        refine j_icmp_eq C 176 dX8_differ_112 (by decide) (fun c56 => ?_) (fun c56 => ?_)
        · replace h := h.1 c56
          refine j_forget [0, 1, 2, 3, 4, 5, 6] rfl ?_
          exact w_X8_differ_b176_j C hQ hk45 hk73 h
        · replace h := h.2 c56
          refine j_aload_n C 0 dX8_differ_115 rfl ?_
          refine j_getR C 31 15 sh_31 (by decide) cl_X8 (by decide) rfl in_X8_differ_X8 lk_X8_differ_33 rfl dX8_differ_116 ?_
          refine j_aload_n C 0 dX8_differ_119 rfl ?_
          refine j_getR C 31 13 sh_31 (by decide) cl_X8 (by decide) rfl in_X8_differ_X8 lk_X8_differ_26 rfl dX8_differ_120 ?_
          refine j_iload C 6 dX8_differ_123 rfl ?_
          have b44 := h.1
          replace h := h.2
          refine j_iald C 36 sh_36 (by decide) b44 dX8_differ_125 ?_
          have b45 := h.1
          replace h := h.2
          refine j_iald C 38 sh_38 (by decide) b45 dX8_differ_126 ?_
          refine j_aload_n C 0 dX8_differ_127 rfl ?_
          refine j_getR C 31 15 sh_31 (by decide) cl_X8 (by decide) rfl in_X8_differ_X8 lk_X8_differ_33 rfl dX8_differ_128 ?_
          refine j_aload_n C 0 dX8_differ_131 rfl ?_
          refine j_getR C 31 13 sh_31 (by decide) cl_X8 (by decide) rfl in_X8_differ_X8 lk_X8_differ_26 rfl dX8_differ_132 ?_
          refine j_iload C 7 dX8_differ_135 rfl ?_
          have b46 := h.1
          replace h := h.2
          refine j_iald C 36 sh_36 (by decide) b46 dX8_differ_137 ?_
          have b47 := h.1
          replace h := h.2
          refine j_iald C 38 sh_38 (by decide) b47 dX8_differ_138 ?_
          refine j_icmp_ne C 176 dX8_differ_139 (by decide) (fun c55 => ?_) (fun c55 => ?_)
          · replace h := h.1 c55
            refine j_forget [0, 1, 2, 3, 4, 5, 6] rfl ?_
            exact w_X8_differ_b176_j C hQ hk45 hk73 h
          · replace h := h.2 c55
            refine j_aload_n C 0 dX8_differ_142 rfl ?_
            refine j_aload_n C 0 dX8_differ_143 rfl ?_
            refine j_getR C 31 13 sh_31 (by decide) cl_X8 (by decide) rfl in_X8_differ_X8 lk_X8_differ_26 rfl dX8_differ_144 ?_
            refine j_iload C 6 dX8_differ_147 rfl ?_
            have b48 := h.1
            replace h := h.2
            refine j_iald C 36 sh_36 (by decide) b48 dX8_differ_149 ?_
            refine j_aload_n C 0 dX8_differ_150 rfl ?_
            refine j_getR C 31 13 sh_31 (by decide) cl_X8 (by decide) rfl in_X8_differ_X8 lk_X8_differ_26 rfl dX8_differ_151 ?_
            refine j_iload C 7 dX8_differ_154 rfl ?_
            have b49 := h.1
            replace h := h.2
            refine j_iald C 36 sh_36 (by decide) b49 dX8_differ_156 ?_
            refine j_iconst (v := 0) C dX8_differ_157 (by decide) ?_
            refine j_aload_n C 0 dX8_differ_158 rfl ?_
            refine j_getR C 31 15 sh_31 (by decide) cl_X8 (by decide) rfl in_X8_differ_X8 lk_X8_differ_33 rfl dX8_differ_159 ?_
            refine j_aload_n C 0 dX8_differ_162 rfl ?_
            refine j_getR C 31 13 sh_31 (by decide) cl_X8 (by decide) rfl in_X8_differ_X8 lk_X8_differ_26 rfl dX8_differ_163 ?_
            refine j_iload C 6 dX8_differ_166 rfl ?_
            have b50 := h.1
            replace h := h.2
            refine j_iald C 36 sh_36 (by decide) b50 dX8_differ_168 ?_
            have b51 := h.1
            replace h := h.2
            refine j_iald C 38 sh_38 (by decide) b51 dX8_differ_169 ?_
            refine j_cVI (n := 4) (rest := []) C 31 (c_X8_hasSame (xl X) G C.2.2.1 _ (μ42 36 (ix v8)) (μ42 36 (ix r43)) (0 : Int32) (μ42 38 (ix (μ42 36 (ix v8)))) μ42) h gX8_differ_X8_hasSame rfl ⟨rfl, rfl⟩ (by decide +kernel) ⟨by decide, by decide⟩ ⟨by decide, by decide⟩ sh_31 (by decide) cl_X8 rfl rfl (Nat.le_of_ble_eq_true rfl) dX8_differ_170 rfl rfl (fun r53 μ52 h => ?_)
            refine j_if_ne C 179 dX8_differ_173 (by decide) (fun c54 => ?_) (fun c54 => ?_)
            · replace h := h.1 c54
              refine j_forget [0, 1, 2, 3, 4, 5, 6] rfl ?_
              exact w_X8_differ_b179_j C hQ hk45 hk73 h
            · replace h := h.2 c54
              refine j_forget [0, 1, 2, 3, 4, 5, 6] rfl ?_
              exact w_X8_differ_b176_j C hQ hk45 hk73 h
set_option maxHeartbeats 4000000 in
set_option maxRecDepth 100000 in
theorem w_X8_differ_b45_j {G : Gt} {X : Cxt} {Q : State → Prop} (C : Cx G X cX8_differ RX8 wsX8_differ 10 rm_X8_differ) {post : Int32 → Mem → Prop} (hQ : RetI G X Q post .int 0 0) : ∀ (n : Nat) (v3 v4 v5 : Int32) (μ : Mem), itr (fun _ _ _ _ => False) (w_X8_differ_b45 post) n v3 v4 v5 μ → J G X Q 10 0 0 45 [(0, .ref (ad G 31)), (3, .int v3), (4, .int v4), (5, .int v5)] [] μ := by
  intro n
  induction n with
  | zero => intro v3 v4 v5 μ h; exact h.elim
  | succ n ih =>
    intro v3 v4 v5 μ h
    replace h : w_X8_differ_b45 post (itr (fun _ _ _ _ => False) (w_X8_differ_b45 post) n) v3 v4 v5 μ := h
    generalize itr (fun _ _ _ _ => False) (w_X8_differ_b45 post) n = k45 at ih h
    have hk45 := ih
    unfold w_X8_differ_b45 at h
    refine j_iload C 3 dX8_differ_45 rfl ?_
    refine j_iload C 2 dX8_differ_47 rfl ?_
    refine j_icmp_ge C 333 dX8_differ_49 (by decide) (fun c59 => ?_) (fun c59 => ?_)
    · replace h := h.1 c59
      refine j_iload_n C 1 dX8_differ_333 rfl ?_
      exact j_iret C hQ (by decide) (by decide) h dX8_differ_334
    · replace h := h.2 c59
      refine j_aload_n C 0 dX8_differ_52 rfl ?_
      refine j_getR C 31 30 sh_31 (by decide) cl_X8 (by decide) rfl in_X8_differ_X8 lk_X8_differ_75 rfl dX8_differ_53 ?_
      refine j_iload C 3 dX8_differ_56 rfl ?_
      have b13 := h.1
      replace h := h.2
      refine j_iald C 52 sh_52 (by decide) b13 dX8_differ_58 ?_
      refine j_istore (lv' := [(0, .ref (ad G 31)), (3, .int v3), (4, .int v4), (5, .int v5), (6, .int (μ 52 (ix v5)))]) C dX8_differ_59 (by decide) rfl rfl ?_
      refine j_aload_n C 0 dX8_differ_61 rfl ?_
      refine j_getR C 31 31 sh_31 (by decide) cl_X8 (by decide) rfl in_X8_differ_X8 lk_X8_differ_78 rfl dX8_differ_62 ?_
      refine j_iload C 3 dX8_differ_65 rfl ?_
      have b14 := h.1
      replace h := h.2
      refine j_iald C 53 sh_53 (by decide) b14 dX8_differ_67 ?_
      refine j_istore (lv' := [(0, .ref (ad G 31)), (3, .int v3), (4, .int v4), (5, .int v5), (6, .int (μ 52 (ix v5))), (7, .int (μ 53 (ix v5)))]) C dX8_differ_68 (by decide) rfl rfl ?_
      refine j_iconst (v := 0) C dX8_differ_70 (by decide) ?_
      refine j_istore (lv' := [(0, .ref (ad G 31)), (3, .int v3), (4, .int v4), (5, .int v5), (6, .int (μ 52 (ix v5))), (7, .int (μ 53 (ix v5))), (8, .int (0 : Int32))]) C dX8_differ_71 (by decide) rfl rfl ?_
      obtain ⟨n9, h⟩ := h
      exact w_X8_differ_b73_j C hQ hk45 n9 _ _ _ _ _ _ _ h
set_option maxHeartbeats 4000000 in
set_option maxRecDepth 100000 in
theorem c_X8_differ (l : Launch) (G : Gt) (hD : Dj G) (post : Int32 → Mem → Prop) (a1 a2 : Int32) (μ : Mem) : MI G l yX8_differ wsX8_differ rm_X8_differ 0 0 [.ref (ad G 31), .int a1, .int a2] μ (w_X8_differ post a1 a2 μ) post := by
  refine mI_of (cc := cX8_differ) (maxL := 10) (ty := .int) (lv0 := [(0, .ref (ad G 31)), (1, .int a1), (2, .int a2)]) hD (by decide) rfl (Nat.le_of_ble_eq_true rfl) rfl ?_
  intro X Q hl C hQ h
  subst hl
  replace C : Cx G X cX8_differ RX8 wsX8_differ 10 rm_X8_differ := C
  unfold w_X8_differ at h
  refine j_aload_n C 0 dX8_differ_0 rfl ?_
  refine j_iconst (v := 0) C dX8_differ_1 (by decide) ?_
  obtain ⟨μ1, e2⟩ : ∃ m, m = wr μ 31 0 (0 : Int32) := ⟨_, rfl⟩
  replace h := h μ1 e2
  refine j_put C 31 0 sh_31 (by decide) cl_X8 (by decide) rfl in_X8_differ_X8 lk_X8_differ_87 rfl tyX8_ok nmX8 rfl rfl dX8_differ_2 e2 ?_
  refine j_aload_n C 0 dX8_differ_5 rfl ?_
  refine j_iload_n C 1 dX8_differ_6 rfl ?_
  refine j_cVI (n := 1) (rest := []) C 31 (c_X8_isFolder (xl X) G C.2.2.1 _ a1 μ1) h gX8_differ_X8_isFolder rfl ⟨rfl, rfl⟩ (by decide +kernel) ⟨by decide, by decide⟩ ⟨by decide, by decide⟩ sh_31 (by decide) cl_X8 rfl rfl (Nat.le_of_ble_eq_true rfl) dX8_differ_7 rfl rfl (fun r4 μ3 h => ?_)
  refine j_if_eq C 21 dX8_differ_10 (by decide) (fun c61 => ?_) (fun c61 => ?_)
  · replace h := h.1 c61
    refine j_iconst (v := 0) C dX8_differ_21 (by decide) ?_
    exact j_iret C hQ (by decide) (by decide) h dX8_differ_22
  · replace h := h.2 c61
    refine j_aload_n C 0 dX8_differ_13 rfl ?_
    refine j_iload_n C 2 dX8_differ_14 rfl ?_
    refine j_cVI (n := 1) (rest := []) C 31 (c_X8_isFolder (xl X) G C.2.2.1 _ a2 μ3) h gX8_differ_X8_isFolder rfl ⟨rfl, rfl⟩ (by decide +kernel) ⟨by decide, by decide⟩ ⟨by decide, by decide⟩ sh_31 (by decide) cl_X8 rfl rfl (Nat.le_of_ble_eq_true rfl) dX8_differ_15 rfl rfl (fun r6 μ5 h => ?_)
    refine j_if_ne C 23 dX8_differ_18 (by decide) (fun c60 => ?_) (fun c60 => ?_)
    · replace h := h.1 c60
      refine j_iconst (v := 0) C dX8_differ_23 (by decide) ?_
      refine j_istore_n (lv' := [(0, .ref (ad G 31)), (1, .int a1), (2, .int a2), (3, .int (0 : Int32))]) C dX8_differ_24 (by decide) rfl rfl ?_
      refine j_iconst (v := 1) C dX8_differ_25 (by decide) ?_
      refine j_istore (lv' := [(0, .ref (ad G 31)), (1, .int a1), (2, .int a2), (3, .int (0 : Int32)), (4, .int (1 : Int32))]) C dX8_differ_26 (by decide) rfl rfl ?_
      refine j_aload_n C 0 dX8_differ_28 rfl ?_
      refine j_getR C 31 30 sh_31 (by decide) cl_X8 (by decide) rfl in_X8_differ_X8 lk_X8_differ_75 rfl dX8_differ_29 ?_
      refine j_iconst (v := 0) C dX8_differ_32 (by decide) ?_
      refine j_iload_n C 1 dX8_differ_33 rfl ?_
      obtain ⟨μ7, e8⟩ : ∃ m, m = wr μ5 52 (ix (0 : Int32)) a1 := ⟨_, rfl⟩
      have b9 := h.1
      replace h := h.2 μ7 e8
      refine j_iast C 52 sh_52 (by decide) b9 dX8_differ_34 e8 ?_
      refine j_aload_n C 0 dX8_differ_35 rfl ?_
      refine j_getR C 31 31 sh_31 (by decide) cl_X8 (by decide) rfl in_X8_differ_X8 lk_X8_differ_78 rfl dX8_differ_36 ?_
      refine j_iconst (v := 0) C dX8_differ_39 (by decide) ?_
      refine j_iload_n C 2 dX8_differ_40 rfl ?_
      obtain ⟨μ10, e11⟩ : ∃ m, m = wr μ7 53 (ix (0 : Int32)) a2 := ⟨_, rfl⟩
      have b12 := h.1
      replace h := h.2 μ10 e11
      refine j_iast C 53 sh_53 (by decide) b12 dX8_differ_41 e11 ?_
      refine j_iconst (v := 0) C dX8_differ_42 (by decide) ?_
      refine j_istore (lv' := [(0, .ref (ad G 31)), (1, .int a1), (2, .int a2), (3, .int (0 : Int32)), (4, .int (1 : Int32)), (5, .int (0 : Int32))]) C dX8_differ_43 (by decide) rfl rfl ?_
      refine j_forget [0, 3, 4, 5] rfl ?_
      obtain ⟨n9, h⟩ := h
      exact w_X8_differ_b45_j C hQ n9 _ _ _ _ h
    · replace h := h.2 c60
      refine j_iconst (v := 0) C dX8_differ_21 (by decide) ?_
      exact j_iret C hQ (by decide) (by decide) h dX8_differ_22
/-! X8_drops -/
abbrev rm_X8_drops : Room := { frames := 0, cells := 0, slots := 0, locals := 0 }
theorem in_X8_drops_X8 : ∀ w ∈ wsX80, w ∈ wsX8_drops := by decide +kernel
theorem lk_X8_drops_108 : Cond.fieldLink RX8 108 "SameAgainModel" "bodies" "I" ∈ wsX8_drops := by decide +kernel
theorem lk_X8_drops_69 : Cond.fieldLink RX8 69 "SameAgainModel" "heap" "[I" ∈ wsX8_drops := by decide +kernel
theorem lk_X8_drops_72 : Cond.fieldLink RX8 72 "SameAgainModel" "next" "[I" ∈ wsX8_drops := by decide +kernel
set_option maxHeartbeats 4000000 in
set_option maxRecDepth 100000 in
theorem w_X8_drops_b85_j {G : Gt} {X : Cxt} {Q : State → Prop} (C : Cx G X cX8_drops RX8 wsX8_drops 4 rm_X8_drops) {post : Mem → Prop} (hQ : RetV G X Q post 0 0) : ∀ (n : Nat) (v1 : Int32) (μ : Mem), itr (fun _ _ => False) (w_X8_drops_b85 post) n v1 μ → J G X Q 4 0 0 85 [(0, .ref (ad G 31)), (1, .int v1)] [] μ := by
  intro n
  induction n with
  | zero => intro v1 μ h; exact h.elim
  | succ n ih =>
    intro v1 μ h
    replace h : w_X8_drops_b85 post (itr (fun _ _ => False) (w_X8_drops_b85 post) n) v1 μ := h
    generalize itr (fun _ _ => False) (w_X8_drops_b85 post) n = k85 at ih h
    have hk85 := ih
    unfold w_X8_drops_b85 at h
    refine j_iload_n C 1 dX8_drops_85 rfl ?_
    refine j_aload_n C 0 dX8_drops_86 rfl ?_
    refine j_getI C 31 3 sh_31 (by decide) cl_X8 (by decide) rfl in_X8_drops_X8 lk_X8_drops_108 rfl dX8_drops_87 ?_
    refine j_icmp_ge C 111 dX8_drops_90 (by decide) (fun c5 => ?_) (fun c5 => ?_)
    · replace h := h.1 c5
      exact j_vret C hQ (by decide) (by decide) h dX8_drops_111
    · replace h := h.2 c5
      refine j_aload_n C 0 dX8_drops_93 rfl ?_
      refine j_getR C 31 28 sh_31 (by decide) cl_X8 (by decide) rfl in_X8_drops_X8 lk_X8_drops_69 rfl dX8_drops_94 ?_
      refine j_iload_n C 1 dX8_drops_97 rfl ?_
      refine j_aload_n C 0 dX8_drops_98 rfl ?_
      refine j_getR C 31 29 sh_31 (by decide) cl_X8 (by decide) rfl in_X8_drops_X8 lk_X8_drops_72 rfl dX8_drops_99 ?_
      refine j_iload_n C 1 dX8_drops_102 rfl ?_
      have b1 := h.1
      replace h := h.2
      refine j_iald C 51 sh_51 (by decide) b1 dX8_drops_103 ?_
      obtain ⟨μ2, e3⟩ : ∃ m, m = wr μ 50 (ix v1) (μ 51 (ix v1)) := ⟨_, rfl⟩
      have b4 := h.1
      replace h := h.2 μ2 e3
      refine j_iast C 50 sh_50 (by decide) b4 dX8_drops_104 e3 ?_
      refine j_iinc (v := v1 + (1 : Int32)) (lv' := [(0, .ref (ad G 31)), (1, .int (v1 + (1 : Int32)))]) C 1 dX8_drops_105 rfl rfl (by decide) rfl rfl ?_
      refine j_goto C 85 dX8_drops_108 (by decide) ?_
      exact hk85 _ _ h
set_option maxHeartbeats 4000000 in
set_option maxRecDepth 100000 in
theorem w_X8_drops_b76_j {G : Gt} {X : Cxt} {Q : State → Prop} (C : Cx G X cX8_drops RX8 wsX8_drops 4 rm_X8_drops) {post : Mem → Prop} (hQ : RetV G X Q post 0 0) {k2 : Int32 → Mem → Prop} (hk2 : ∀ (v1 : Int32) (μ : Mem), k2 v1 μ → J G X Q 4 0 0 2 [(0, .ref (ad G 31)), (1, .int v1)] [] μ) {v1 s0 s1 : Int32} {μ : Mem} (h : w_X8_drops_b76 post k2 v1 s0 s1 μ) : J G X Q 4 0 0 76 [(0, .ref (ad G 31)), (1, .int v1)] [.int s0, .int s1, .ref (ad G 51)] μ := by
  unfold w_X8_drops_b76 at h
  obtain ⟨μ6, e7⟩ : ∃ m, m = wr μ 51 (ix s1) s0 := ⟨_, rfl⟩
  have b8 := h.1
  replace h := h.2 μ6 e7
  refine j_iast C 51 sh_51 (by decide) b8 dX8_drops_76 e7 ?_
  refine j_iinc (v := v1 + (1 : Int32)) (lv' := [(0, .ref (ad G 31)), (1, .int (v1 + (1 : Int32)))]) C 1 dX8_drops_77 rfl rfl (by decide) rfl rfl ?_
  refine j_goto C 2 dX8_drops_80 (by decide) ?_
  exact hk2 _ _ h
set_option maxHeartbeats 4000000 in
set_option maxRecDepth 100000 in
theorem w_X8_drops_b14_j {G : Gt} {X : Cxt} {Q : State → Prop} (C : Cx G X cX8_drops RX8 wsX8_drops 4 rm_X8_drops) {post : Mem → Prop} (hQ : RetV G X Q post 0 0) {k2 : Int32 → Mem → Prop} (hk2 : ∀ (v1 : Int32) (μ : Mem), k2 v1 μ → J G X Q 4 0 0 2 [(0, .ref (ad G 31)), (1, .int v1)] [] μ) : ∀ (n : Nat) (v1 v2 v3 : Int32) (μ : Mem), itr (fun _ _ _ _ => False) (w_X8_drops_b14 post k2) n v1 v2 v3 μ → J G X Q 4 0 0 14 [(0, .ref (ad G 31)), (1, .int v1), (2, .int v2), (3, .int v3)] [] μ := by
  intro n
  induction n with
  | zero => intro v1 v2 v3 μ h; exact h.elim
  | succ n ih =>
    intro v1 v2 v3 μ h
    replace h : w_X8_drops_b14 post k2 (itr (fun _ _ _ _ => False) (w_X8_drops_b14 post k2) n) v1 v2 v3 μ := h
    generalize itr (fun _ _ _ _ => False) (w_X8_drops_b14 post k2) n = k14 at ih h
    have hk14 := ih
    unfold w_X8_drops_b14 at h
    refine j_iload_n C 3 dX8_drops_14 rfl ?_
    refine j_aload_n C 0 dX8_drops_15 rfl ?_
    refine j_getI C 31 3 sh_31 (by decide) cl_X8 (by decide) rfl in_X8_drops_X8 lk_X8_drops_108 rfl dX8_drops_16 ?_
    refine j_icmp_ge C 56 dX8_drops_19 (by decide) (fun c16 => ?_) (fun c16 => ?_)
    · replace h := h.1 c16
      refine j_aload_n C 0 dX8_drops_56 rfl ?_
      refine j_getR C 31 29 sh_31 (by decide) cl_X8 (by decide) rfl in_X8_drops_X8 lk_X8_drops_72 rfl dX8_drops_57 ?_
      refine j_iload_n C 1 dX8_drops_60 rfl ?_
      refine j_iload_n C 2 dX8_drops_61 rfl ?_
      refine j_iconst (v := 1) C dX8_drops_62 (by decide) ?_
      refine j_icmp_le C 75 dX8_drops_63 (by decide) (fun c10 => ?_) (fun c10 => ?_)
      · replace h := h.1 c10
        refine j_iconst (v := -1) C dX8_drops_75 (by decide) ?_
        refine j_forget [0, 1] rfl ?_
        exact w_X8_drops_b76_j C hQ hk2 h
      · replace h := h.2 c10
        refine j_aload_n C 0 dX8_drops_66 rfl ?_
        refine j_getR C 31 28 sh_31 (by decide) cl_X8 (by decide) rfl in_X8_drops_X8 lk_X8_drops_69 rfl dX8_drops_67 ?_
        refine j_iload_n C 1 dX8_drops_70 rfl ?_
        have b9 := h.1
        replace h := h.2
        refine j_iald C 50 sh_50 (by decide) b9 dX8_drops_71 ?_
        refine j_goto C 76 dX8_drops_72 (by decide) ?_
        refine j_forget [0, 1] rfl ?_
        exact w_X8_drops_b76_j C hQ hk2 h
    · replace h := h.2 c16
      refine j_aload_n C 0 dX8_drops_22 rfl ?_
      refine j_getR C 31 28 sh_31 (by decide) cl_X8 (by decide) rfl in_X8_drops_X8 lk_X8_drops_69 rfl dX8_drops_23 ?_
      refine j_iload_n C 1 dX8_drops_26 rfl ?_
      have b11 := h.1
      replace h := h.2
      refine j_iald C 50 sh_50 (by decide) b11 dX8_drops_27 ?_
      refine j_iconst (v := -1) C dX8_drops_28 (by decide) ?_
      refine j_icmp_eq C 50 dX8_drops_29 (by decide) (fun c15 => ?_) (fun c15 => ?_)
      · replace h := h.1 c15
        refine j_iinc (v := v3 + (1 : Int32)) (lv' := [(0, .ref (ad G 31)), (1, .int v1), (2, .int v2), (3, .int (v3 + (1 : Int32)))]) C 3 dX8_drops_50 rfl rfl (by decide) rfl rfl ?_
        refine j_goto C 14 dX8_drops_53 (by decide) ?_
        exact hk14 _ _ _ _ h
      · replace h := h.2 c15
        refine j_aload_n C 0 dX8_drops_32 rfl ?_
        refine j_getR C 31 28 sh_31 (by decide) cl_X8 (by decide) rfl in_X8_drops_X8 lk_X8_drops_69 rfl dX8_drops_33 ?_
        refine j_iload_n C 3 dX8_drops_36 rfl ?_
        have b12 := h.1
        replace h := h.2
        refine j_iald C 50 sh_50 (by decide) b12 dX8_drops_37 ?_
        refine j_aload_n C 0 dX8_drops_38 rfl ?_
        refine j_getR C 31 28 sh_31 (by decide) cl_X8 (by decide) rfl in_X8_drops_X8 lk_X8_drops_69 rfl dX8_drops_39 ?_
        refine j_iload_n C 1 dX8_drops_42 rfl ?_
        have b13 := h.1
        replace h := h.2
        refine j_iald C 50 sh_50 (by decide) b13 dX8_drops_43 ?_
        refine j_icmp_ne C 50 dX8_drops_44 (by decide) (fun c14 => ?_) (fun c14 => ?_)
        · replace h := h.1 c14
          refine j_iinc (v := v3 + (1 : Int32)) (lv' := [(0, .ref (ad G 31)), (1, .int v1), (2, .int v2), (3, .int (v3 + (1 : Int32)))]) C 3 dX8_drops_50 rfl rfl (by decide) rfl rfl ?_
          refine j_goto C 14 dX8_drops_53 (by decide) ?_
          exact hk14 _ _ _ _ h
        · replace h := h.2 c14
          refine j_iinc (v := v2 + (1 : Int32)) (lv' := [(0, .ref (ad G 31)), (1, .int v1), (2, .int (v2 + (1 : Int32))), (3, .int v3)]) C 2 dX8_drops_47 rfl rfl (by decide) rfl rfl ?_
          refine j_iinc (v := v3 + (1 : Int32)) (lv' := [(0, .ref (ad G 31)), (1, .int v1), (2, .int (v2 + (1 : Int32))), (3, .int (v3 + (1 : Int32)))]) C 3 dX8_drops_50 rfl rfl (by decide) rfl rfl ?_
          refine j_goto C 14 dX8_drops_53 (by decide) ?_
          exact hk14 _ _ _ _ h
set_option maxHeartbeats 4000000 in
set_option maxRecDepth 100000 in
theorem w_X8_drops_b2_j {G : Gt} {X : Cxt} {Q : State → Prop} (C : Cx G X cX8_drops RX8 wsX8_drops 4 rm_X8_drops) {post : Mem → Prop} (hQ : RetV G X Q post 0 0) : ∀ (n : Nat) (v1 : Int32) (μ : Mem), itr (fun _ _ => False) (w_X8_drops_b2 post) n v1 μ → J G X Q 4 0 0 2 [(0, .ref (ad G 31)), (1, .int v1)] [] μ := by
  intro n
  induction n with
  | zero => intro v1 μ h; exact h.elim
  | succ n ih =>
    intro v1 μ h
    replace h : w_X8_drops_b2 post (itr (fun _ _ => False) (w_X8_drops_b2 post) n) v1 μ := h
    generalize itr (fun _ _ => False) (w_X8_drops_b2 post) n = k2 at ih h
    have hk2 := ih
    unfold w_X8_drops_b2 at h
    refine j_iload_n C 1 dX8_drops_2 rfl ?_
    refine j_aload_n C 0 dX8_drops_3 rfl ?_
    refine j_getI C 31 3 sh_31 (by decide) cl_X8 (by decide) rfl in_X8_drops_X8 lk_X8_drops_108 rfl dX8_drops_4 ?_
    refine j_icmp_ge C 83 dX8_drops_7 (by decide) (fun c17 => ?_) (fun c17 => ?_)
    · replace h := h.1 c17
      refine j_iconst (v := 0) C dX8_drops_83 (by decide) ?_
      refine j_istore_n (lv' := [(0, .ref (ad G 31)), (1, .int (0 : Int32))]) C dX8_drops_84 (by decide) rfl rfl ?_
      obtain ⟨n9, h⟩ := h
      exact w_X8_drops_b85_j C hQ n9 _ _ h
    · replace h := h.2 c17
      refine j_iconst (v := 0) C dX8_drops_10 (by decide) ?_
      refine j_istore_n (lv' := [(0, .ref (ad G 31)), (1, .int v1), (2, .int (0 : Int32))]) C dX8_drops_11 (by decide) rfl rfl ?_
      refine j_iconst (v := 0) C dX8_drops_12 (by decide) ?_
      refine j_istore_n (lv' := [(0, .ref (ad G 31)), (1, .int v1), (2, .int (0 : Int32)), (3, .int (0 : Int32))]) C dX8_drops_13 (by decide) rfl rfl ?_
      obtain ⟨n9, h⟩ := h
      exact w_X8_drops_b14_j C hQ hk2 n9 _ _ _ _ h
set_option maxHeartbeats 4000000 in
set_option maxRecDepth 100000 in
theorem c_X8_drops (l : Launch) (G : Gt) (hD : Dj G) (post : Mem → Prop) (μ : Mem) : MV G l yX8_drops wsX8_drops rm_X8_drops 0 0 [.ref (ad G 31)] μ (w_X8_drops post μ) post := by
  refine mV_of (cc := cX8_drops) (maxL := 4) (lv0 := [(0, .ref (ad G 31))]) hD (by decide) rfl (Nat.le_of_ble_eq_true rfl) rfl ?_
  intro X Q hl C hQ h
  subst hl
  replace C : Cx G X cX8_drops RX8 wsX8_drops 4 rm_X8_drops := C
  unfold w_X8_drops at h
  refine j_iconst (v := 0) C dX8_drops_0 (by decide) ?_
  refine j_istore_n (lv' := [(0, .ref (ad G 31)), (1, .int (0 : Int32))]) C dX8_drops_1 (by decide) rfl rfl ?_
  obtain ⟨n9, h⟩ := h
  exact w_X8_drops_b2_j C hQ n9 _ _ h
/-! X8_file -/
abbrev rm_X8_file : Room := { frames := 2, cells := 0, slots := 0, locals := 45 }
theorem in_X8_file_X8 : ∀ w ∈ wsX80, w ∈ wsX8_file := by decide +kernel
theorem lk_X8_file_87 : Cond.fieldLink RX8 87 "SameAgainModel" "thrown" "I" ∈ wsX8_file := by decide +kernel
theorem lk_X8_file_108 : Cond.fieldLink RX8 108 "SameAgainModel" "bodies" "I" ∈ wsX8_file := by decide +kernel
theorem lk_X8_file_118 : Cond.fieldLink RX8 118 "SameAgainModel" "day" "I" ∈ wsX8_file := by decide +kernel
set_option maxHeartbeats 4000000 in
set_option maxRecDepth 100000 in
theorem c_X8_file (l : Launch) (G : Gt) (hD : Dj G) (post : Int32 → Mem → Prop) (a1 a2 a3 a4 : Int32) (μ : Mem) : MI G l yX8_file wsX8_file rm_X8_file 0 0 [.ref (ad G 31), .int a1, .int a2, .int a3, .int a4] μ (w_X8_file post a1 a2 a3 a4 μ) post := by
  refine mI_of (cc := cX8_file) (maxL := 5) (ty := .int) (lv0 := [(0, .ref (ad G 31)), (1, .int a1), (2, .int a2), (3, .int a3), (4, .int a4)]) hD (by decide) rfl (Nat.le_of_ble_eq_true rfl) rfl ?_
  intro X Q hl C hQ h
  subst hl
  replace C : Cx G X cX8_file RX8 wsX8_file 5 rm_X8_file := C
  unfold w_X8_file at h
  refine j_aload_n C 0 dX8_file_0 rfl ?_
  refine j_iconst (v := 0) C dX8_file_1 (by decide) ?_
  obtain ⟨μ1, e2⟩ : ∃ m, m = wr μ 31 0 (0 : Int32) := ⟨_, rfl⟩
  replace h := h μ1 e2
  refine j_put C 31 0 sh_31 (by decide) cl_X8 (by decide) rfl in_X8_file_X8 lk_X8_file_87 rfl tyX8_ok nmX8 rfl rfl dX8_file_2 e2 ?_
  refine j_aload_n C 0 dX8_file_5 rfl ?_
  refine j_iload_n C 1 dX8_file_6 rfl ?_
  refine j_cVI (n := 1) (rest := []) C 31 (c_X8_isFolder (xl X) G C.2.2.1 _ a1 μ1) h gX8_file_X8_isFolder rfl ⟨rfl, rfl⟩ (by decide +kernel) ⟨by decide, by decide⟩ ⟨by decide, by decide⟩ sh_31 (by decide) cl_X8 rfl rfl (Nat.le_of_ble_eq_true rfl) dX8_file_7 rfl rfl (fun r4 μ3 h => ?_)
  refine j_if_ne C 15 dX8_file_10 (by decide) (fun c17 => ?_) (fun c17 => ?_)
  · replace h := h.1 c17
    refine j_aload_n C 0 dX8_file_15 rfl ?_
    refine j_iload_n C 1 dX8_file_16 rfl ?_
    refine j_iload_n C 2 dX8_file_17 rfl ?_
    refine j_cVI (n := 2) (rest := []) C 31 (c_X8_canCome (xl X) G C.2.2.1 _ a1 a2 μ3) h gX8_file_X8_canCome rfl ⟨rfl, rfl⟩ (by decide +kernel) ⟨by decide, by decide⟩ ⟨by decide, by decide⟩ sh_31 (by decide) cl_X8 rfl rfl (Nat.le_of_ble_eq_true rfl) dX8_file_18 rfl rfl (fun r6 μ5 h => ?_)
    refine j_if_eq C 55 dX8_file_21 (by decide) (fun c16 => ?_) (fun c16 => ?_)
    · replace h := h.1 c16
      refine j_iconst (v := -1) C dX8_file_55 (by decide) ?_
      exact j_iret C hQ (by decide) (by decide) h dX8_file_56
    · replace h := h.2 c16
      refine j_aload_n C 0 dX8_file_24 rfl ?_
      refine j_getI C 31 3 sh_31 (by decide) cl_X8 (by decide) rfl in_X8_file_X8 lk_X8_file_108 rfl dX8_file_25 ?_
      refine j_bipush (v := 100) C dX8_file_28 (by decide) ?_
      refine j_icmp_eq C 55 dX8_file_30 (by decide) (fun c15 => ?_) (fun c15 => ?_)
      · replace h := h.1 c15
        refine j_iconst (v := -1) C dX8_file_55 (by decide) ?_
        exact j_iret C hQ (by decide) (by decide) h dX8_file_56
      · replace h := h.2 c15
        refine j_iload_n C 3 dX8_file_33 rfl ?_
        refine j_if_lt C 55 dX8_file_34 (by decide) (fun c14 => ?_) (fun c14 => ?_)
        · replace h := h.1 c14
          refine j_iconst (v := -1) C dX8_file_55 (by decide) ?_
          exact j_iret C hQ (by decide) (by decide) h dX8_file_56
        · replace h := h.2 c14
          refine j_iload_n C 3 dX8_file_37 rfl ?_
          refine j_bipush (v := 7) C dX8_file_38 (by decide) ?_
          refine j_icmp_gt C 55 dX8_file_40 (by decide) (fun c13 => ?_) (fun c13 => ?_)
          · replace h := h.1 c13
            refine j_iconst (v := -1) C dX8_file_55 (by decide) ?_
            exact j_iret C hQ (by decide) (by decide) h dX8_file_56
          · replace h := h.2 c13
            refine j_iload C 4 dX8_file_43 rfl ?_
            refine j_if_lt C 55 dX8_file_45 (by decide) (fun c12 => ?_) (fun c12 => ?_)
            · replace h := h.1 c12
              refine j_iconst (v := -1) C dX8_file_55 (by decide) ?_
              exact j_iret C hQ (by decide) (by decide) h dX8_file_56
            · replace h := h.2 c12
              refine j_iload C 4 dX8_file_48 rfl ?_
              refine j_bipush (v := 64) C dX8_file_50 (by decide) ?_
              refine j_icmp_le C 57 dX8_file_52 (by decide) (fun c11 => ?_) (fun c11 => ?_)
              · replace h := h.1 c11
                refine j_aload_n C 0 dX8_file_57 rfl ?_
                refine j_iload_n C 1 dX8_file_58 rfl ?_
                refine j_iload_n C 2 dX8_file_59 rfl ?_
                refine j_aload_n C 0 dX8_file_60 rfl ?_
                refine j_iload C 4 dX8_file_61 rfl ?_
                refine j_iload_n C 3 dX8_file_63 rfl ?_
                refine j_aload_n C 0 dX8_file_64 rfl ?_
                refine j_getI C 31 4 sh_31 (by decide) cl_X8 (by decide) rfl in_X8_file_X8 lk_X8_file_118 rfl dX8_file_65 ?_
                refine j_cVI (n := 3) (rest := [.int a2, .int a1, .ref (ad G 31)]) C 31 (c_X8_newBody (xl X) G C.2.2.1 _ a4 a3 (μ5 31 4) μ5) h gX8_file_X8_newBody rfl ⟨rfl, rfl⟩ (by decide +kernel) ⟨by decide, by decide⟩ ⟨by decide, by decide⟩ sh_31 (by decide) cl_X8 rfl rfl (Nat.le_of_ble_eq_true rfl) dX8_file_68 rfl rfl (fun r8 μ7 h => ?_)
                refine j_cVI (n := 3) (rest := []) C 31 (c_X8_newFile (xl X) G C.2.2.1 _ a1 a2 r8 μ7) h gX8_file_X8_newFile rfl ⟨rfl, rfl⟩ (by decide +kernel) ⟨by decide, by decide⟩ ⟨by decide, by decide⟩ sh_31 (by decide) cl_X8 rfl rfl (Nat.le_of_ble_eq_true rfl) dX8_file_71 rfl rfl (fun r10 μ9 h => ?_)
                exact j_iret C hQ (by decide) (by decide) h dX8_file_74
              · replace h := h.2 c11
                refine j_iconst (v := -1) C dX8_file_55 (by decide) ?_
                exact j_iret C hQ (by decide) (by decide) h dX8_file_56
  · replace h := h.2 c17
    refine j_iconst (v := 0) C dX8_file_13 (by decide) ?_
    exact j_iret C hQ (by decide) (by decide) h dX8_file_14
/-! X8_isWritten -/
abbrev rm_X8_isWritten : Room := { frames := 0, cells := 0, slots := 0, locals := 0 }
theorem in_X8_isWritten_X8 : ∀ w ∈ wsX80, w ∈ wsX8_isWritten := by decide +kernel
theorem lk_X8_isWritten_39 : Cond.fieldLink RX8 39 "SameAgainModel" "written" "[I" ∈ wsX8_isWritten := by decide +kernel
theorem lk_X8_isWritten_118 : Cond.fieldLink RX8 118 "SameAgainModel" "day" "I" ∈ wsX8_isWritten := by decide +kernel
theorem lk_X8_isWritten_42 : Cond.fieldLink RX8 42 "SameAgainModel" "group" "[I" ∈ wsX8_isWritten := by decide +kernel
set_option maxHeartbeats 4000000 in
set_option maxRecDepth 100000 in
theorem c_X8_isWritten (l : Launch) (G : Gt) (hD : Dj G) (post : Mem → Prop) (a1 : Int32) (μ : Mem) : MV G l yX8_isWritten wsX8_isWritten rm_X8_isWritten 0 0 [.ref (ad G 31), .int a1] μ (w_X8_isWritten post a1 μ) post := by
  refine mV_of (cc := cX8_isWritten) (maxL := 2) (lv0 := [(0, .ref (ad G 31)), (1, .int a1)]) hD (by decide) rfl (Nat.le_of_ble_eq_true rfl) rfl ?_
  intro X Q hl C hQ h
  subst hl
  replace C : Cx G X cX8_isWritten RX8 wsX8_isWritten 2 rm_X8_isWritten := C
  unfold w_X8_isWritten at h
  refine j_aload_n C 0 dX8_isWritten_0 rfl ?_
  refine j_getR C 31 17 sh_31 (by decide) cl_X8 (by decide) rfl in_X8_isWritten_X8 lk_X8_isWritten_39 rfl dX8_isWritten_1 ?_
  refine j_iload_n C 1 dX8_isWritten_4 rfl ?_
  refine j_aload_n C 0 dX8_isWritten_5 rfl ?_
  refine j_getI C 31 4 sh_31 (by decide) cl_X8 (by decide) rfl in_X8_isWritten_X8 lk_X8_isWritten_118 rfl dX8_isWritten_6 ?_
  obtain ⟨μ1, e2⟩ : ∃ m, m = wr μ 40 (ix a1) (μ 31 4) := ⟨_, rfl⟩
  have b3 := h.1
  replace h := h.2 μ1 e2
  refine j_iast C 40 sh_40 (by decide) b3 dX8_isWritten_9 e2 ?_
  refine j_aload_n C 0 dX8_isWritten_10 rfl ?_
  refine j_getR C 31 18 sh_31 (by decide) cl_X8 (by decide) rfl in_X8_isWritten_X8 lk_X8_isWritten_42 rfl dX8_isWritten_11 ?_
  refine j_iload_n C 1 dX8_isWritten_14 rfl ?_
  refine j_iconst (v := -1) C dX8_isWritten_15 (by decide) ?_
  obtain ⟨μ4, e5⟩ : ∃ m, m = wr μ1 41 (ix a1) (-1 : Int32) := ⟨_, rfl⟩
  have b6 := h.1
  replace h := h.2 μ4 e5
  refine j_iast C 41 sh_41 (by decide) b6 dX8_isWritten_16 e5 ?_
  exact j_vret C hQ (by decide) (by decide) h dX8_isWritten_17
/-! X8_others -/
abbrev rm_X8_others : Room := { frames := 1, cells := 0, slots := 0, locals := 23 }
theorem in_X8_others_X8 : ∀ w ∈ wsX80, w ∈ wsX8_others := by decide +kernel
theorem lk_X8_others_26 : Cond.fieldLink RX8 26 "SameAgainModel" "body" "[I" ∈ wsX8_others := by decide +kernel
set_option maxHeartbeats 4000000 in
set_option maxRecDepth 100000 in
theorem c_X8_others (l : Launch) (G : Gt) (hD : Dj G) (post : Int32 → Mem → Prop) (a1 : Int32) (μ : Mem) : MI G l yX8_others wsX8_others rm_X8_others 0 0 [.ref (ad G 31), .int a1] μ (w_X8_others post a1 μ) post := by
  refine mI_of (cc := cX8_others) (maxL := 2) (ty := .int) (lv0 := [(0, .ref (ad G 31)), (1, .int a1)]) hD (by decide) rfl (Nat.le_of_ble_eq_true rfl) rfl ?_
  intro X Q hl C hQ h
  subst hl
  replace C : Cx G X cX8_others RX8 wsX8_others 2 rm_X8_others := C
  unfold w_X8_others at h
  refine j_aload_n C 0 dX8_others_0 rfl ?_
  refine j_aload_n C 0 dX8_others_1 rfl ?_
  refine j_getR C 31 13 sh_31 (by decide) cl_X8 (by decide) rfl in_X8_others_X8 lk_X8_others_26 rfl dX8_others_2 ?_
  refine j_iload_n C 1 dX8_others_5 rfl ?_
  have b1 := h.1
  replace h := h.2
  refine j_iald C 36 sh_36 (by decide) b1 dX8_others_6 ?_
  refine j_cVI (n := 1) (rest := []) C 31 (c_X8_names (xl X) G C.2.2.1 _ (μ 36 (ix a1)) μ) h gX8_others_X8_names rfl ⟨rfl, rfl⟩ (by decide +kernel) ⟨by decide, by decide⟩ ⟨by decide, by decide⟩ sh_31 (by decide) cl_X8 rfl rfl (Nat.le_of_ble_eq_true rfl) dX8_others_7 rfl rfl (fun r3 μ2 h => ?_)
  refine j_iconst (v := 1) C dX8_others_10 (by decide) ?_
  refine j_isub C dX8_others_11 ?_
  exact j_iret C hQ (by decide) (by decide) h dX8_others_12
/-! X8_fill -/
abbrev rm_X8_fill : Room := { frames := 2, cells := 0, slots := 0, locals := 44 }
theorem in_X8_fill_X8 : ∀ w ∈ wsX80, w ∈ wsX8_fill := by decide +kernel
theorem lk_X8_fill_26 : Cond.fieldLink RX8 26 "SameAgainModel" "body" "[I" ∈ wsX8_fill := by decide +kernel
theorem lk_X8_fill_45 : Cond.fieldLink RX8 45 "SameAgainModel" "bytes" "[I" ∈ wsX8_fill := by decide +kernel
theorem lk_X8_fill_33 : Cond.fieldLink RX8 33 "SameAgainModel" "size" "[I" ∈ wsX8_fill := by decide +kernel
set_option maxHeartbeats 4000000 in
set_option maxRecDepth 100000 in
theorem w_X8_fill_b100_j {G : Gt} {X : Cxt} {Q : State → Prop} (C : Cx G X cX8_fill RX8 wsX8_fill 7 rm_X8_fill) {post : Int32 → Mem → Prop} (hQ : RetI G X Q post .int 0 0) {v1 : Int32} {μ : Mem} (h : w_X8_fill_b100 post v1 μ) : J G X Q 7 0 0 100 [(0, .ref (ad G 31)), (1, .int v1)] [] μ := by
  unfold w_X8_fill_b100 at h
  refine j_aload_n C 0 dX8_fill_100 rfl ?_
  refine j_iload_n C 1 dX8_fill_101 rfl ?_
  refine j_cVI (n := 1) (rest := []) C 31 (c_X8_others (xl X) G C.2.2.1 _ v1 μ) h gX8_fill_X8_others rfl ⟨rfl, rfl⟩ (by decide +kernel) ⟨by decide, by decide⟩ ⟨by decide, by decide⟩ sh_31 (by decide) cl_X8 rfl rfl (Nat.le_of_ble_eq_true rfl) dX8_fill_102 rfl rfl (fun r7 μ6 h => ?_)
  exact j_iret C hQ (by decide) (by decide) h dX8_fill_105
set_option maxHeartbeats 4000000 in
set_option maxRecDepth 100000 in
theorem w_X8_fill_b58_j {G : Gt} {X : Cxt} {Q : State → Prop} (C : Cx G X cX8_fill RX8 wsX8_fill 7 rm_X8_fill) {post : Int32 → Mem → Prop} (hQ : RetI G X Q post .int 0 0) : ∀ (n : Nat) (v1 v2 v3 v4 v5 v6 : Int32) (μ : Mem), itr (fun _ _ _ _ _ _ _ => False) (w_X8_fill_b58 post) n v1 v2 v3 v4 v5 v6 μ → J G X Q 7 0 0 58 [(0, .ref (ad G 31)), (1, .int v1), (2, .int v2), (3, .int v3), (4, .int v4), (5, .int v5), (6, .int v6)] [] μ := by
  intro n
  induction n with
  | zero => intro v1 v2 v3 v4 v5 v6 μ h; exact h.elim
  | succ n ih =>
    intro v1 v2 v3 v4 v5 v6 μ h
    replace h : w_X8_fill_b58 post (itr (fun _ _ _ _ _ _ _ => False) (w_X8_fill_b58 post) n) v1 v2 v3 v4 v5 v6 μ := h
    generalize itr (fun _ _ _ _ _ _ _ => False) (w_X8_fill_b58 post) n = k58 at ih h
    have hk58 := ih
    unfold w_X8_fill_b58 at h
    refine j_iload C 6 dX8_fill_58 rfl ?_
    refine j_iload_n C 3 dX8_fill_60 rfl ?_
    refine j_icmp_ge C 89 dX8_fill_61 (by decide) (fun c13 => ?_) (fun c13 => ?_)
    · replace h := h.1 c13
      refine j_iload_n C 2 dX8_fill_89 rfl ?_
      refine j_iload_n C 3 dX8_fill_90 rfl ?_
      refine j_icmp_ge C 100 dX8_fill_91 (by decide) (fun c9 => ?_) (fun c9 => ?_)
      · replace h := h.1 c9
        refine j_forget [0, 1] rfl ?_
        exact w_X8_fill_b100_j C hQ h
      · replace h := h.2 c9
        refine j_aload_n C 0 dX8_fill_94 rfl ?_
        refine j_iload C 5 dX8_fill_95 rfl ?_
        refine j_cVV (n := 1) (rest := []) C 31 (c_X8_isWritten (xl X) G C.2.2.1 _ v5 μ) h gX8_fill_X8_isWritten rfl ⟨rfl, rfl⟩ (by decide +kernel) ⟨by decide, by decide⟩ ⟨by decide, by decide⟩ sh_31 (by decide) cl_X8 rfl rfl (Nat.le_of_ble_eq_true rfl) dX8_fill_97 rfl rfl (fun μ8 h => ?_)
        refine j_forget [0, 1] rfl ?_
        exact w_X8_fill_b100_j C hQ h
    · replace h := h.2 c13
      refine j_aload_n C 0 dX8_fill_64 rfl ?_
      refine j_getR C 31 19 sh_31 (by decide) cl_X8 (by decide) rfl in_X8_fill_X8 lk_X8_fill_45 rfl dX8_fill_65 ?_
      refine j_bipush (v := 64) C dX8_fill_68 (by decide) ?_
      refine j_iload C 5 dX8_fill_70 rfl ?_
      refine j_imul C dX8_fill_72 ?_
      refine j_iload C 6 dX8_fill_73 rfl ?_
      refine j_iadd C dX8_fill_75 ?_
      refine j_iload C 4 dX8_fill_76 rfl ?_
      refine j_sipush (v := 255) C dX8_fill_78 (by decide) ?_
      refine j_iand C dX8_fill_81 ?_
      obtain ⟨μ10, e11⟩ : ∃ m, m = wr μ 42 (ix (((64 : Int32) * v5) + v6)) (v4 &&& (255 : Int32)) := ⟨_, rfl⟩
      have b12 := h.1
      replace h := h.2 μ10 e11
      refine j_iast C 42 sh_42 (by decide) b12 dX8_fill_82 e11 ?_
      refine j_iinc (v := v6 + (1 : Int32)) (lv' := [(0, .ref (ad G 31)), (1, .int v1), (2, .int v2), (3, .int v3), (4, .int v4), (5, .int v5), (6, .int (v6 + (1 : Int32)))]) C 6 dX8_fill_83 rfl rfl (by decide) rfl rfl ?_
      refine j_goto C 58 dX8_fill_86 (by decide) ?_
      exact hk58 _ _ _ _ _ _ _ h
set_option maxHeartbeats 4000000 in
set_option maxRecDepth 100000 in
theorem w_X8_fill_b38_j {G : Gt} {X : Cxt} {Q : State → Prop} (C : Cx G X cX8_fill RX8 wsX8_fill 7 rm_X8_fill) {post : Int32 → Mem → Prop} (hQ : RetI G X Q post .int 0 0) {v1 v2 v3 v4 s0 : Int32} {μ : Mem} (h : w_X8_fill_b38 post v1 v2 v3 v4 s0 μ) : J G X Q 7 0 0 38 [(0, .ref (ad G 31)), (1, .int v1), (2, .int v2), (3, .int v3), (4, .int v4)] [.int s0, .ref (ad G 31)] μ := by
  unfold w_X8_fill_b38 at h
  refine j_iconst (v := 2) C dX8_fill_38 (by decide) ?_
  refine j_cVI (n := 2) (rest := []) C 31 (c_X8_right (xl X) G C.2.2.1 _ s0 (2 : Int32) μ) h gX8_fill_X8_right rfl ⟨rfl, rfl⟩ (by decide +kernel) ⟨by decide, by decide⟩ ⟨by decide, by decide⟩ sh_31 (by decide) cl_X8 rfl rfl (Nat.le_of_ble_eq_true rfl) dX8_fill_39 rfl rfl (fun r4 μ3 h => ?_)
  refine j_if_ne C 47 dX8_fill_42 (by decide) (fun c14 => ?_) (fun c14 => ?_)
  · replace h := h.1 c14
    refine j_aload_n C 0 dX8_fill_47 rfl ?_
    refine j_getR C 31 13 sh_31 (by decide) cl_X8 (by decide) rfl in_X8_fill_X8 lk_X8_fill_26 rfl dX8_fill_48 ?_
    refine j_iload_n C 1 dX8_fill_51 rfl ?_
    have b5 := h.1
    replace h := h.2
    refine j_iald C 36 sh_36 (by decide) b5 dX8_fill_52 ?_
    refine j_istore (lv' := [(0, .ref (ad G 31)), (1, .int v1), (2, .int v2), (3, .int v3), (4, .int v4), (5, .int (μ3 36 (ix v1)))]) C dX8_fill_53 (by decide) rfl rfl ?_
    refine j_iload_n C 2 dX8_fill_55 rfl ?_
    refine j_istore (lv' := [(0, .ref (ad G 31)), (1, .int v1), (2, .int v2), (3, .int v3), (4, .int v4), (5, .int (μ3 36 (ix v1))), (6, .int v2)]) C dX8_fill_56 (by decide) rfl rfl ?_
    obtain ⟨n9, h⟩ := h
    exact w_X8_fill_b58_j C hQ n9 _ _ _ _ _ _ _ h
  · replace h := h.2 c14
    refine j_iconst (v := 0) C dX8_fill_45 (by decide) ?_
    exact j_iret C hQ (by decide) (by decide) h dX8_fill_46
set_option maxHeartbeats 4000000 in
set_option maxRecDepth 100000 in
theorem w_X8_fill_b37_j {G : Gt} {X : Cxt} {Q : State → Prop} (C : Cx G X cX8_fill RX8 wsX8_fill 7 rm_X8_fill) {post : Int32 → Mem → Prop} (hQ : RetI G X Q post .int 0 0) {v1 v2 v3 v4 : Int32} {μ : Mem} (h : w_X8_fill_b37 post v1 v2 v3 v4 μ) : J G X Q 7 0 0 37 [(0, .ref (ad G 31)), (1, .int v1), (2, .int v2), (3, .int v3), (4, .int v4)] [.ref (ad G 31)] μ := by
  unfold w_X8_fill_b37 at h
  refine j_iconst (v := 0) C dX8_fill_37 (by decide) ?_
  exact w_X8_fill_b38_j C hQ h
set_option maxHeartbeats 4000000 in
set_option maxRecDepth 100000 in
theorem c_X8_fill (l : Launch) (G : Gt) (hD : Dj G) (post : Int32 → Mem → Prop) (a1 a2 a3 a4 : Int32) (μ : Mem) : MI G l yX8_fill wsX8_fill rm_X8_fill 0 0 [.ref (ad G 31), .int a1, .int a2, .int a3, .int a4] μ (w_X8_fill post a1 a2 a3 a4 μ) post := by
  refine mI_of (cc := cX8_fill) (maxL := 7) (ty := .int) (lv0 := [(0, .ref (ad G 31)), (1, .int a1), (2, .int a2), (3, .int a3), (4, .int a4)]) hD (by decide) rfl (Nat.le_of_ble_eq_true rfl) rfl ?_
  intro X Q hl C hQ h
  subst hl
  replace C : Cx G X cX8_fill RX8 wsX8_fill 7 rm_X8_fill := C
  unfold w_X8_fill at h
  refine j_aload_n C 0 dX8_fill_0 rfl ?_
  refine j_iload_n C 1 dX8_fill_1 rfl ?_
  refine j_cVI (n := 1) (rest := []) C 31 (c_X8_isFile (xl X) G C.2.2.1 _ a1 μ) h gX8_fill_X8_isFile rfl ⟨rfl, rfl⟩ (by decide +kernel) ⟨by decide, by decide⟩ ⟨by decide, by decide⟩ sh_31 (by decide) cl_X8 rfl rfl (Nat.le_of_ble_eq_true rfl) dX8_fill_2 rfl rfl (fun r2 μ1 h => ?_)
  refine j_if_eq C 45 dX8_fill_5 (by decide) (fun c20 => ?_) (fun c20 => ?_)
  · replace h := h.1 c20
    refine j_iconst (v := 0) C dX8_fill_45 (by decide) ?_
    exact j_iret C hQ (by decide) (by decide) h dX8_fill_46
  · replace h := h.2 c20
    refine j_aload_n C 0 dX8_fill_8 rfl ?_
    refine j_iload_n C 2 dX8_fill_9 rfl ?_
    refine j_if_lt C 37 dX8_fill_10 (by decide) (fun c19 => ?_) (fun c19 => ?_)
    · replace h := h.1 c19
      exact w_X8_fill_b37_j C hQ h
    · replace h := h.2 c19
      refine j_iload_n C 2 dX8_fill_13 rfl ?_
      refine j_iload_n C 3 dX8_fill_14 rfl ?_
      refine j_icmp_gt C 37 dX8_fill_15 (by decide) (fun c18 => ?_) (fun c18 => ?_)
      · replace h := h.1 c18
        exact w_X8_fill_b37_j C hQ h
      · replace h := h.2 c18
        refine j_iload_n C 3 dX8_fill_18 rfl ?_
        refine j_aload_n C 0 dX8_fill_19 rfl ?_
        refine j_getR C 31 15 sh_31 (by decide) cl_X8 (by decide) rfl in_X8_fill_X8 lk_X8_fill_33 rfl dX8_fill_20 ?_
        refine j_aload_n C 0 dX8_fill_23 rfl ?_
        refine j_getR C 31 13 sh_31 (by decide) cl_X8 (by decide) rfl in_X8_fill_X8 lk_X8_fill_26 rfl dX8_fill_24 ?_
        refine j_iload_n C 1 dX8_fill_27 rfl ?_
        have b15 := h.1
        replace h := h.2
        refine j_iald C 36 sh_36 (by decide) b15 dX8_fill_28 ?_
        have b16 := h.1
        replace h := h.2
        refine j_iald C 38 sh_38 (by decide) b16 dX8_fill_29 ?_
        refine j_icmp_gt C 37 dX8_fill_30 (by decide) (fun c17 => ?_) (fun c17 => ?_)
        · replace h := h.1 c17
          exact w_X8_fill_b37_j C hQ h
        · replace h := h.2 c17
          refine j_iconst (v := 1) C dX8_fill_33 (by decide) ?_
          refine j_goto C 38 dX8_fill_34 (by decide) ?_
          exact w_X8_fill_b38_j C hQ h
/-! X8_find -/
abbrev rm_X8_find : Room := { frames := 1, cells := 0, slots := 0, locals := 25 }
theorem in_X8_find_X8 : ∀ w ∈ wsX80, w ∈ wsX8_find := by decide +kernel
theorem lk_X8_find_87 : Cond.fieldLink RX8 87 "SameAgainModel" "thrown" "I" ∈ wsX8_find := by decide +kernel
theorem lk_X8_find_152 : Cond.fieldLink RX8 152 "SameAgainModel" "reads" "I" ∈ wsX8_find := by decide +kernel
theorem lk_X8_find_108 : Cond.fieldLink RX8 108 "SameAgainModel" "bodies" "I" ∈ wsX8_find := by decide +kernel
theorem lk_X8_find_162 : Cond.fieldLink RX8 162 "SameAgainModel" "groups" "I" ∈ wsX8_find := by decide +kernel
theorem lk_X8_find_42 : Cond.fieldLink RX8 42 "SameAgainModel" "group" "[I" ∈ wsX8_find := by decide +kernel
theorem lk_X8_find_69 : Cond.fieldLink RX8 69 "SameAgainModel" "heap" "[I" ∈ wsX8_find := by decide +kernel
theorem lk_X8_find_72 : Cond.fieldLink RX8 72 "SameAgainModel" "next" "[I" ∈ wsX8_find := by decide +kernel
theorem lk_X8_find_33 : Cond.fieldLink RX8 33 "SameAgainModel" "size" "[I" ∈ wsX8_find := by decide +kernel
set_option maxHeartbeats 4000000 in
set_option maxRecDepth 100000 in
theorem w_X8_find_b369_j {G : Gt} {X : Cxt} {Q : State → Prop} (C : Cx G X cX8_find RX8 wsX8_find 4 rm_X8_find) {post : Int32 → Mem → Prop} (hQ : RetI G X Q post .int 0 0) {k314 : Int32 → Mem → Prop} (hk314 : ∀ (v1 : Int32) (μ : Mem), k314 v1 μ → J G X Q 4 0 0 314 [(0, .ref (ad G 31)), (1, .int v1)] [] μ) {v1 s0 s1 : Int32} {μ : Mem} (h : w_X8_find_b369 post k314 v1 s0 s1 μ) : J G X Q 4 0 0 369 [(0, .ref (ad G 31)), (1, .int v1)] [.int s0, .int s1, .ref (ad G 41)] μ := by
  unfold w_X8_find_b369 at h
  obtain ⟨μ12, e13⟩ : ∃ m, m = wr μ 41 (ix s1) s0 := ⟨_, rfl⟩
  have b14 := h.1
  replace h := h.2 μ12 e13
  refine j_iast C 41 sh_41 (by decide) b14 dX8_find_369 e13 ?_
  refine j_aload_n C 0 dX8_find_370 rfl ?_
  refine j_getR C 31 28 sh_31 (by decide) cl_X8 (by decide) rfl in_X8_find_X8 lk_X8_find_69 rfl dX8_find_371 ?_
  refine j_iload_n C 1 dX8_find_374 rfl ?_
  have b15 := h.1
  replace h := h.2
  refine j_iald C 50 sh_50 (by decide) b15 dX8_find_375 ?_
  refine j_iload_n C 1 dX8_find_376 rfl ?_
  refine j_icmp_ne C 390 dX8_find_377 (by decide) (fun c18 => ?_) (fun c18 => ?_)
  · replace h := h.1 c18
    refine j_iinc (v := v1 + (1 : Int32)) (lv' := [(0, .ref (ad G 31)), (1, .int (v1 + (1 : Int32)))]) C 1 dX8_find_390 rfl rfl (by decide) rfl rfl ?_
    refine j_goto C 314 dX8_find_393 (by decide) ?_
    exact hk314 _ _ h
  · replace h := h.2 c18
    refine j_aload_n C 0 dX8_find_380 rfl ?_
    refine j_dup C dX8_find_381 rfl ?_
    refine j_getI C 31 6 sh_31 (by decide) cl_X8 (by decide) rfl in_X8_find_X8 lk_X8_find_162 rfl dX8_find_382 ?_
    refine j_iconst (v := 1) C dX8_find_385 (by decide) ?_
    refine j_iadd C dX8_find_386 ?_
    obtain ⟨μ16, e17⟩ : ∃ m, m = wr μ12 31 6 ((μ12 31 6) + (1 : Int32)) := ⟨_, rfl⟩
    replace h := h μ16 e17
    refine j_put C 31 6 sh_31 (by decide) cl_X8 (by decide) rfl in_X8_find_X8 lk_X8_find_162 rfl tyX8_ok nmX8 rfl rfl dX8_find_387 e17 ?_
    refine j_iinc (v := v1 + (1 : Int32)) (lv' := [(0, .ref (ad G 31)), (1, .int (v1 + (1 : Int32)))]) C 1 dX8_find_390 rfl rfl (by decide) rfl rfl ?_
    refine j_goto C 314 dX8_find_393 (by decide) ?_
    exact hk314 _ _ h
set_option maxHeartbeats 4000000 in
set_option maxRecDepth 100000 in
theorem w_X8_find_b314_j {G : Gt} {X : Cxt} {Q : State → Prop} (C : Cx G X cX8_find RX8 wsX8_find 4 rm_X8_find) {post : Int32 → Mem → Prop} (hQ : RetI G X Q post .int 0 0) : ∀ (n : Nat) (v1 : Int32) (μ : Mem), itr (fun _ _ => False) (w_X8_find_b314 post) n v1 μ → J G X Q 4 0 0 314 [(0, .ref (ad G 31)), (1, .int v1)] [] μ := by
  intro n
  induction n with
  | zero => intro v1 μ h; exact h.elim
  | succ n ih =>
    intro v1 μ h
    replace h : w_X8_find_b314 post (itr (fun _ _ => False) (w_X8_find_b314 post) n) v1 μ := h
    generalize itr (fun _ _ => False) (w_X8_find_b314 post) n = k314 at ih h
    have hk314 := ih
    unfold w_X8_find_b314 at h
    refine j_iload_n C 1 dX8_find_314 rfl ?_
    refine j_aload_n C 0 dX8_find_315 rfl ?_
    refine j_getI C 31 3 sh_31 (by decide) cl_X8 (by decide) rfl in_X8_find_X8 lk_X8_find_108 rfl dX8_find_316 ?_
    refine j_icmp_ge C 396 dX8_find_319 (by decide) (fun c21 => ?_) (fun c21 => ?_)
    · replace h := h.1 c21
      refine j_aload_n C 0 dX8_find_396 rfl ?_
      refine j_getI C 31 6 sh_31 (by decide) cl_X8 (by decide) rfl in_X8_find_X8 lk_X8_find_162 rfl dX8_find_397 ?_
      exact j_iret C hQ (by decide) (by decide) h dX8_find_400
    · replace h := h.2 c21
      refine j_aload_n C 0 dX8_find_322 rfl ?_
      refine j_getR C 31 18 sh_31 (by decide) cl_X8 (by decide) rfl in_X8_find_X8 lk_X8_find_42 rfl dX8_find_323 ?_
      refine j_iload_n C 1 dX8_find_326 rfl ?_
      refine j_aload_n C 0 dX8_find_327 rfl ?_
      refine j_getR C 31 28 sh_31 (by decide) cl_X8 (by decide) rfl in_X8_find_X8 lk_X8_find_69 rfl dX8_find_328 ?_
      refine j_iload_n C 1 dX8_find_331 rfl ?_
      have b8 := h.1
      replace h := h.2
      refine j_iald C 50 sh_50 (by decide) b8 dX8_find_332 ?_
      refine j_iconst (v := -1) C dX8_find_333 (by decide) ?_
      refine j_icmp_ne C 341 dX8_find_334 (by decide) (fun c20 => ?_) (fun c20 => ?_)
      · replace h := h.1 c20
        refine j_aload_n C 0 dX8_find_341 rfl ?_
        refine j_getR C 31 28 sh_31 (by decide) cl_X8 (by decide) rfl in_X8_find_X8 lk_X8_find_69 rfl dX8_find_342 ?_
        refine j_iload_n C 1 dX8_find_345 rfl ?_
        have b9 := h.1
        replace h := h.2
        refine j_iald C 50 sh_50 (by decide) b9 dX8_find_346 ?_
        refine j_iload_n C 1 dX8_find_347 rfl ?_
        refine j_icmp_ne C 358 dX8_find_348 (by decide) (fun c19 => ?_) (fun c19 => ?_)
        · replace h := h.1 c19
          refine j_aload_n C 0 dX8_find_358 rfl ?_
          refine j_getR C 31 18 sh_31 (by decide) cl_X8 (by decide) rfl in_X8_find_X8 lk_X8_find_42 rfl dX8_find_359 ?_
          refine j_aload_n C 0 dX8_find_362 rfl ?_
          refine j_getR C 31 28 sh_31 (by decide) cl_X8 (by decide) rfl in_X8_find_X8 lk_X8_find_69 rfl dX8_find_363 ?_
          refine j_iload_n C 1 dX8_find_366 rfl ?_
          have b10 := h.1
          replace h := h.2
          refine j_iald C 50 sh_50 (by decide) b10 dX8_find_367 ?_
          have b11 := h.1
          replace h := h.2
          refine j_iald C 41 sh_41 (by decide) b11 dX8_find_368 ?_
          exact w_X8_find_b369_j C hQ hk314 h
        · replace h := h.2 c19
          refine j_aload_n C 0 dX8_find_351 rfl ?_
          refine j_getI C 31 6 sh_31 (by decide) cl_X8 (by decide) rfl in_X8_find_X8 lk_X8_find_162 rfl dX8_find_352 ?_
          refine j_goto C 369 dX8_find_355 (by decide) ?_
          exact w_X8_find_b369_j C hQ hk314 h
      · replace h := h.2 c20
        refine j_iconst (v := -1) C dX8_find_337 (by decide) ?_
        refine j_goto C 369 dX8_find_338 (by decide) ?_
        exact w_X8_find_b369_j C hQ hk314 h
set_option maxHeartbeats 4000000 in
set_option maxRecDepth 100000 in
theorem w_X8_find_b271_j {G : Gt} {X : Cxt} {Q : State → Prop} (C : Cx G X cX8_find RX8 wsX8_find 4 rm_X8_find) {post : Int32 → Mem → Prop} (hQ : RetI G X Q post .int 0 0) {k119 : Int32 → Mem → Prop} (hk119 : ∀ (v1 : Int32) (μ : Mem), k119 v1 μ → J G X Q 4 0 0 119 [(0, .ref (ad G 31)), (1, .int v1)] [] μ) : ∀ (n : Nat) (v1 v2 : Int32) (μ : Mem), itr (fun _ _ _ => False) (w_X8_find_b271 post k119) n v1 v2 μ → J G X Q 4 0 0 271 [(0, .ref (ad G 31)), (1, .int v1), (2, .int v2)] [] μ := by
  intro n
  induction n with
  | zero => intro v1 v2 μ h; exact h.elim
  | succ n ih =>
    intro v1 v2 μ h
    replace h : w_X8_find_b271 post k119 (itr (fun _ _ _ => False) (w_X8_find_b271 post k119) n) v1 v2 μ := h
    generalize itr (fun _ _ _ => False) (w_X8_find_b271 post k119) n = k271 at ih h
    have hk271 := ih
    unfold w_X8_find_b271 at h
    refine j_iload_n C 2 dX8_find_271 rfl ?_
    refine j_aload_n C 0 dX8_find_272 rfl ?_
    refine j_getI C 31 3 sh_31 (by decide) cl_X8 (by decide) rfl in_X8_find_X8 lk_X8_find_108 rfl dX8_find_273 ?_
    refine j_icmp_ge C 297 dX8_find_276 (by decide) (fun c27 => ?_) (fun c27 => ?_)
    · replace h := h.1 c27
      refine j_aload_n C 0 dX8_find_297 rfl ?_
      refine j_cVV (n := 0) (rest := []) C 31 (c_X8_drops (xl X) G C.2.2.1 _ μ) h gX8_find_X8_drops rfl ⟨rfl, rfl⟩ (by decide +kernel) ⟨by decide, by decide⟩ ⟨by decide, by decide⟩ sh_31 (by decide) cl_X8 rfl rfl (Nat.le_of_ble_eq_true rfl) dX8_find_298 rfl rfl (fun μ22 h => ?_)
      refine j_iinc (v := v1 + (8 : Int32)) (lv' := [(0, .ref (ad G 31)), (1, .int (v1 + (8 : Int32))), (2, .int v2)]) C 1 dX8_find_301 rfl rfl (by decide) rfl rfl ?_
      refine j_goto C 119 dX8_find_304 (by decide) ?_
      refine j_forget [0, 1] rfl ?_
      exact hk119 _ _ h
    · replace h := h.2 c27
      refine j_aload_n C 0 dX8_find_279 rfl ?_
      refine j_getR C 31 28 sh_31 (by decide) cl_X8 (by decide) rfl in_X8_find_X8 lk_X8_find_69 rfl dX8_find_280 ?_
      refine j_iload_n C 2 dX8_find_283 rfl ?_
      refine j_aload_n C 0 dX8_find_284 rfl ?_
      refine j_getR C 31 29 sh_31 (by decide) cl_X8 (by decide) rfl in_X8_find_X8 lk_X8_find_72 rfl dX8_find_285 ?_
      refine j_iload_n C 2 dX8_find_288 rfl ?_
      have b23 := h.1
      replace h := h.2
      refine j_iald C 51 sh_51 (by decide) b23 dX8_find_289 ?_
      obtain ⟨μ24, e25⟩ : ∃ m, m = wr μ 50 (ix v2) (μ 51 (ix v2)) := ⟨_, rfl⟩
      have b26 := h.1
      replace h := h.2 μ24 e25
      refine j_iast C 50 sh_50 (by decide) b26 dX8_find_290 e25 ?_
      refine j_iinc (v := v2 + (1 : Int32)) (lv' := [(0, .ref (ad G 31)), (1, .int v1), (2, .int (v2 + (1 : Int32)))]) C 2 dX8_find_291 rfl rfl (by decide) rfl rfl ?_
      refine j_goto C 271 dX8_find_294 (by decide) ?_
      exact hk271 _ _ _ h
set_option maxHeartbeats 4000000 in
set_option maxRecDepth 100000 in
theorem w_X8_find_b244_j {G : Gt} {X : Cxt} {Q : State → Prop} (C : Cx G X cX8_find RX8 wsX8_find 4 rm_X8_find) {post : Int32 → Mem → Prop} (hQ : RetI G X Q post .int 0 0) {k119 : Int32 → Mem → Prop} (hk119 : ∀ (v1 : Int32) (μ : Mem), k119 v1 μ → J G X Q 4 0 0 119 [(0, .ref (ad G 31)), (1, .int v1)] [] μ) {k127 : Int32 → Int32 → Mem → Prop} (hk127 : ∀ (v1 v2 : Int32) (μ : Mem), k127 v1 v2 μ → J G X Q 4 0 0 127 [(0, .ref (ad G 31)), (1, .int v1), (2, .int v2)] [] μ) {k174 : Int32 → Int32 → Int32 → Mem → Prop} (hk174 : ∀ (v1 v2 v3 : Int32) (μ : Mem), k174 v1 v2 v3 μ → J G X Q 4 0 0 174 [(0, .ref (ad G 31)), (1, .int v1), (2, .int v2), (3, .int v3)] [] μ) {v1 v2 v3 s0 s1 s2 s3 : Int32} {μ : Mem} (h : w_X8_find_b244 post k119 k127 k174 v1 v2 v3 s0 s1 s2 s3 μ) : J G X Q 4 0 0 244 [(0, .ref (ad G 31)), (1, .int v1), (2, .int v2), (3, .int v3)] [.int s0, .int s1, .int s2, .int s3, .ref (ad G 31)] μ := by
  unfold w_X8_find_b244 at h
  refine j_cVI (n := 4) (rest := []) C 31 (c_X8_hasSame (xl X) G C.2.2.1 _ s3 s2 s1 s0 μ) h gX8_find_X8_hasSame rfl ⟨rfl, rfl⟩ (by decide +kernel) ⟨by decide, by decide⟩ ⟨by decide, by decide⟩ sh_31 (by decide) cl_X8 rfl rfl (Nat.le_of_ble_eq_true rfl) dX8_find_244 rfl rfl (fun r39 μ38 h => ?_)
  refine j_if_eq C 257 dX8_find_247 (by decide) (fun c43 => ?_) (fun c43 => ?_)
  · replace h := h.1 c43
    refine j_iinc (v := v3 + (1 : Int32)) (lv' := [(0, .ref (ad G 31)), (1, .int v1), (2, .int v2), (3, .int (v3 + (1 : Int32)))]) C 3 dX8_find_257 rfl rfl (by decide) rfl rfl ?_
    refine j_goto C 174 dX8_find_260 (by decide) ?_
    exact hk174 _ _ _ _ h
  · replace h := h.2 c43
    refine j_aload_n C 0 dX8_find_250 rfl ?_
    refine j_getR C 31 29 sh_31 (by decide) cl_X8 (by decide) rfl in_X8_find_X8 lk_X8_find_72 rfl dX8_find_251 ?_
    refine j_iload_n C 2 dX8_find_254 rfl ?_
    refine j_iload_n C 3 dX8_find_255 rfl ?_
    obtain ⟨μ40, e41⟩ : ∃ m, m = wr μ38 51 (ix v2) v3 := ⟨_, rfl⟩
    have b42 := h.1
    replace h := h.2 μ40 e41
    refine j_iast C 51 sh_51 (by decide) b42 dX8_find_256 e41 ?_
    refine j_iinc (v := v3 + (1 : Int32)) (lv' := [(0, .ref (ad G 31)), (1, .int v1), (2, .int v2), (3, .int (v3 + (1 : Int32)))]) C 3 dX8_find_257 rfl rfl (by decide) rfl rfl ?_
    refine j_goto C 174 dX8_find_260 (by decide) ?_
    exact hk174 _ _ _ _ h
set_option maxHeartbeats 4000000 in
set_option maxRecDepth 100000 in
theorem w_X8_find_b174_j {G : Gt} {X : Cxt} {Q : State → Prop} (C : Cx G X cX8_find RX8 wsX8_find 4 rm_X8_find) {post : Int32 → Mem → Prop} (hQ : RetI G X Q post .int 0 0) {k119 : Int32 → Mem → Prop} (hk119 : ∀ (v1 : Int32) (μ : Mem), k119 v1 μ → J G X Q 4 0 0 119 [(0, .ref (ad G 31)), (1, .int v1)] [] μ) {k127 : Int32 → Int32 → Mem → Prop} (hk127 : ∀ (v1 v2 : Int32) (μ : Mem), k127 v1 v2 μ → J G X Q 4 0 0 127 [(0, .ref (ad G 31)), (1, .int v1), (2, .int v2)] [] μ) : ∀ (n : Nat) (v1 v2 v3 : Int32) (μ : Mem), itr (fun _ _ _ _ => False) (w_X8_find_b174 post k119 k127) n v1 v2 v3 μ → J G X Q 4 0 0 174 [(0, .ref (ad G 31)), (1, .int v1), (2, .int v2), (3, .int v3)] [] μ := by
  intro n
  induction n with
  | zero => intro v1 v2 v3 μ h; exact h.elim
  | succ n ih =>
    intro v1 v2 v3 μ h
    replace h : w_X8_find_b174 post k119 k127 (itr (fun _ _ _ _ => False) (w_X8_find_b174 post k119 k127) n) v1 v2 v3 μ := h
    generalize itr (fun _ _ _ _ => False) (w_X8_find_b174 post k119 k127) n = k174 at ih h
    have hk174 := ih
    unfold w_X8_find_b174 at h
    refine j_iload_n C 3 dX8_find_174 rfl ?_
    refine j_iload_n C 2 dX8_find_175 rfl ?_
    refine j_icmp_gt C 263 dX8_find_176 (by decide) (fun c48 => ?_) (fun c48 => ?_)
    · replace h := h.1 c48
      refine j_iinc (v := v2 + (1 : Int32)) (lv' := [(0, .ref (ad G 31)), (1, .int v1), (2, .int (v2 + (1 : Int32))), (3, .int v3)]) C 2 dX8_find_263 rfl rfl (by decide) rfl rfl ?_
      refine j_goto C 127 dX8_find_266 (by decide) ?_
      refine j_forget [0, 1, 2] rfl ?_
      exact hk127 _ _ _ h
    · replace h := h.2 c48
      refine j_aload_n C 0 dX8_find_179 rfl ?_
      refine j_getR C 31 28 sh_31 (by decide) cl_X8 (by decide) rfl in_X8_find_X8 lk_X8_find_69 rfl dX8_find_180 ?_
      refine j_iload_n C 2 dX8_find_183 rfl ?_
      have b32 := h.1
      replace h := h.2
      refine j_iald C 50 sh_50 (by decide) b32 dX8_find_184 ?_
      refine j_iconst (v := -1) C dX8_find_185 (by decide) ?_
      refine j_icmp_eq C 263 dX8_find_186 (by decide) (fun c47 => ?_) (fun c47 => ?_)
      · replace h := h.1 c47
        refine j_iinc (v := v2 + (1 : Int32)) (lv' := [(0, .ref (ad G 31)), (1, .int v1), (2, .int (v2 + (1 : Int32))), (3, .int v3)]) C 2 dX8_find_263 rfl rfl (by decide) rfl rfl ?_
        refine j_goto C 127 dX8_find_266 (by decide) ?_
        refine j_forget [0, 1, 2] rfl ?_
        exact hk127 _ _ _ h
      · replace h := h.2 c47
        refine j_aload_n C 0 dX8_find_189 rfl ?_
        refine j_getR C 31 29 sh_31 (by decide) cl_X8 (by decide) rfl in_X8_find_X8 lk_X8_find_72 rfl dX8_find_190 ?_
        refine j_iload_n C 2 dX8_find_193 rfl ?_
        have b33 := h.1
        replace h := h.2
        refine j_iald C 51 sh_51 (by decide) b33 dX8_find_194 ?_
        refine j_iconst (v := -1) C dX8_find_195 (by decide) ?_
        refine j_icmp_ne C 263 dX8_find_196 (by decide) (fun c46 => ?_) (fun c46 => ?_)
        · replace h := h.1 c46
          refine j_iinc (v := v2 + (1 : Int32)) (lv' := [(0, .ref (ad G 31)), (1, .int v1), (2, .int (v2 + (1 : Int32))), (3, .int v3)]) C 2 dX8_find_263 rfl rfl (by decide) rfl rfl ?_
          refine j_goto C 127 dX8_find_266 (by decide) ?_
          refine j_forget [0, 1, 2] rfl ?_
          exact hk127 _ _ _ h
        · replace h := h.2 c46
          refine j_aload_n C 0 dX8_find_199 rfl ?_
          refine j_getR C 31 28 sh_31 (by decide) cl_X8 (by decide) rfl in_X8_find_X8 lk_X8_find_69 rfl dX8_find_200 ?_
          refine j_iload_n C 3 dX8_find_203 rfl ?_
          have b34 := h.1
          replace h := h.2
          refine j_iald C 50 sh_50 (by decide) b34 dX8_find_204 ?_
          refine j_aload_n C 0 dX8_find_205 rfl ?_
          refine j_getR C 31 28 sh_31 (by decide) cl_X8 (by decide) rfl in_X8_find_X8 lk_X8_find_69 rfl dX8_find_206 ?_
          refine j_iload_n C 2 dX8_find_209 rfl ?_
          have b35 := h.1
          replace h := h.2
          refine j_iald C 50 sh_50 (by decide) b35 dX8_find_210 ?_
          refine j_icmp_ne C 257 dX8_find_211 (by decide) (fun c45 => ?_) (fun c45 => ?_)
          · replace h := h.1 c45
            refine j_iinc (v := v3 + (1 : Int32)) (lv' := [(0, .ref (ad G 31)), (1, .int v1), (2, .int v2), (3, .int (v3 + (1 : Int32)))]) C 3 dX8_find_257 rfl rfl (by decide) rfl rfl ?_
            refine j_goto C 174 dX8_find_260 (by decide) ?_
            exact hk174 _ _ _ _ h
          · replace h := h.2 c45
            refine j_aload_n C 0 dX8_find_214 rfl ?_
            refine j_iload_n C 2 dX8_find_215 rfl ?_
            refine j_iload_n C 3 dX8_find_216 rfl ?_
            refine j_iload_n C 1 dX8_find_217 rfl ?_
            refine j_iload_n C 1 dX8_find_218 rfl ?_
            refine j_bipush (v := 8) C dX8_find_219 (by decide) ?_
            refine j_iadd C dX8_find_221 ?_
            refine j_aload_n C 0 dX8_find_222 rfl ?_
            refine j_getR C 31 15 sh_31 (by decide) cl_X8 (by decide) rfl in_X8_find_X8 lk_X8_find_33 rfl dX8_find_223 ?_
            refine j_iload_n C 2 dX8_find_226 rfl ?_
            have b36 := h.1
            replace h := h.2
            refine j_iald C 38 sh_38 (by decide) b36 dX8_find_227 ?_
            refine j_icmp_ge C 238 dX8_find_228 (by decide) (fun c44 => ?_) (fun c44 => ?_)
            · replace h := h.1 c44
              refine j_aload_n C 0 dX8_find_238 rfl ?_
              refine j_getR C 31 15 sh_31 (by decide) cl_X8 (by decide) rfl in_X8_find_X8 lk_X8_find_33 rfl dX8_find_239 ?_
              refine j_iload_n C 2 dX8_find_242 rfl ?_
              have b37 := h.1
              replace h := h.2
              refine j_iald C 38 sh_38 (by decide) b37 dX8_find_243 ?_
              exact w_X8_find_b244_j C hQ hk119 hk127 hk174 h
            · replace h := h.2 c44
              refine j_iload_n C 1 dX8_find_231 rfl ?_
              refine j_bipush (v := 8) C dX8_find_232 (by decide) ?_
              refine j_iadd C dX8_find_234 ?_
              refine j_goto C 244 dX8_find_235 (by decide) ?_
              exact w_X8_find_b244_j C hQ hk119 hk127 hk174 h
set_option maxHeartbeats 4000000 in
set_option maxRecDepth 100000 in
theorem w_X8_find_b165_j {G : Gt} {X : Cxt} {Q : State → Prop} (C : Cx G X cX8_find RX8 wsX8_find 4 rm_X8_find) {post : Int32 → Mem → Prop} (hQ : RetI G X Q post .int 0 0) {k119 : Int32 → Mem → Prop} (hk119 : ∀ (v1 : Int32) (μ : Mem), k119 v1 μ → J G X Q 4 0 0 119 [(0, .ref (ad G 31)), (1, .int v1)] [] μ) {k127 : Int32 → Int32 → Mem → Prop} (hk127 : ∀ (v1 v2 : Int32) (μ : Mem), k127 v1 v2 μ → J G X Q 4 0 0 127 [(0, .ref (ad G 31)), (1, .int v1), (2, .int v2)] [] μ) {v1 v2 : Int32} {μ : Mem} (h : w_X8_find_b165 post k119 k127 v1 v2 μ) : J G X Q 4 0 0 165 [(0, .ref (ad G 31)), (1, .int v1), (2, .int v2)] [] μ := by
  unfold w_X8_find_b165 at h
  refine j_aload_n C 0 dX8_find_165 rfl ?_
  refine j_getR C 31 29 sh_31 (by decide) cl_X8 (by decide) rfl in_X8_find_X8 lk_X8_find_72 rfl dX8_find_166 ?_
  refine j_iload_n C 2 dX8_find_169 rfl ?_
  refine j_iconst (v := -1) C dX8_find_170 (by decide) ?_
  obtain ⟨μ29, e30⟩ : ∃ m, m = wr μ 51 (ix v2) (-1 : Int32) := ⟨_, rfl⟩
  have b31 := h.1
  replace h := h.2 μ29 e30
  refine j_iast C 51 sh_51 (by decide) b31 dX8_find_171 e30 ?_
  refine j_iconst (v := 0) C dX8_find_172 (by decide) ?_
  refine j_istore_n (lv' := [(0, .ref (ad G 31)), (1, .int v1), (2, .int v2), (3, .int (0 : Int32))]) C dX8_find_173 (by decide) rfl rfl ?_
  obtain ⟨n9, h⟩ := h
  exact w_X8_find_b174_j C hQ hk119 hk127 n9 _ _ _ _ h
set_option maxHeartbeats 4000000 in
set_option maxRecDepth 100000 in
theorem w_X8_find_b127_j {G : Gt} {X : Cxt} {Q : State → Prop} (C : Cx G X cX8_find RX8 wsX8_find 4 rm_X8_find) {post : Int32 → Mem → Prop} (hQ : RetI G X Q post .int 0 0) {k119 : Int32 → Mem → Prop} (hk119 : ∀ (v1 : Int32) (μ : Mem), k119 v1 μ → J G X Q 4 0 0 119 [(0, .ref (ad G 31)), (1, .int v1)] [] μ) : ∀ (n : Nat) (v1 v2 : Int32) (μ : Mem), itr (fun _ _ _ => False) (w_X8_find_b127 post k119) n v1 v2 μ → J G X Q 4 0 0 127 [(0, .ref (ad G 31)), (1, .int v1), (2, .int v2)] [] μ := by
  intro n
  induction n with
  | zero => intro v1 v2 μ h; exact h.elim
  | succ n ih =>
    intro v1 v2 μ h
    replace h : w_X8_find_b127 post k119 (itr (fun _ _ _ => False) (w_X8_find_b127 post k119) n) v1 v2 μ := h
    generalize itr (fun _ _ _ => False) (w_X8_find_b127 post k119) n = k127 at ih h
    have hk127 := ih
    unfold w_X8_find_b127 at h
    refine j_iload_n C 2 dX8_find_127 rfl ?_
    refine j_aload_n C 0 dX8_find_128 rfl ?_
    refine j_getI C 31 3 sh_31 (by decide) cl_X8 (by decide) rfl in_X8_find_X8 lk_X8_find_108 rfl dX8_find_129 ?_
    refine j_icmp_ge C 269 dX8_find_132 (by decide) (fun c54 => ?_) (fun c54 => ?_)
    · replace h := h.1 c54
      refine j_iconst (v := 0) C dX8_find_269 (by decide) ?_
      refine j_istore_n (lv' := [(0, .ref (ad G 31)), (1, .int v1), (2, .int (0 : Int32))]) C dX8_find_270 (by decide) rfl rfl ?_
      obtain ⟨n9, h⟩ := h
      exact w_X8_find_b271_j C hQ hk119 n9 _ _ _ h
    · replace h := h.2 c54
      refine j_aload_n C 0 dX8_find_135 rfl ?_
      refine j_getR C 31 28 sh_31 (by decide) cl_X8 (by decide) rfl in_X8_find_X8 lk_X8_find_69 rfl dX8_find_136 ?_
      refine j_iload_n C 2 dX8_find_139 rfl ?_
      have b28 := h.1
      replace h := h.2
      refine j_iald C 50 sh_50 (by decide) b28 dX8_find_140 ?_
      refine j_iconst (v := -1) C dX8_find_141 (by decide) ?_
      refine j_icmp_eq C 165 dX8_find_142 (by decide) (fun c53 => ?_) (fun c53 => ?_)
      · replace h := h.1 c53
        exact w_X8_find_b165_j C hQ hk119 hk127 h
      · replace h := h.2 c53
        refine j_iload_n C 1 dX8_find_145 rfl ?_
        refine j_aload_n C 0 dX8_find_146 rfl ?_
        refine j_getR C 31 15 sh_31 (by decide) cl_X8 (by decide) rfl in_X8_find_X8 lk_X8_find_33 rfl dX8_find_147 ?_
        refine j_iload_n C 2 dX8_find_150 rfl ?_
        have b49 := h.1
        replace h := h.2
        refine j_iald C 38 sh_38 (by decide) b49 dX8_find_151 ?_
        refine j_icmp_ge C 165 dX8_find_152 (by decide) (fun c52 => ?_) (fun c52 => ?_)
        · replace h := h.1 c52
          exact w_X8_find_b165_j C hQ hk119 hk127 h
        · replace h := h.2 c52
          refine j_aload_n C 0 dX8_find_155 rfl ?_
          refine j_dup C dX8_find_156 rfl ?_
          refine j_getI C 31 7 sh_31 (by decide) cl_X8 (by decide) rfl in_X8_find_X8 lk_X8_find_152 rfl dX8_find_157 ?_
          refine j_iconst (v := 1) C dX8_find_160 (by decide) ?_
          refine j_iadd C dX8_find_161 ?_
          obtain ⟨μ50, e51⟩ : ∃ m, m = wr μ 31 7 ((μ 31 7) + (1 : Int32)) := ⟨_, rfl⟩
          replace h := h μ50 e51
          refine j_put C 31 7 sh_31 (by decide) cl_X8 (by decide) rfl in_X8_find_X8 lk_X8_find_152 rfl tyX8_ok nmX8 rfl rfl dX8_find_162 e51 ?_
          exact w_X8_find_b165_j C hQ hk119 hk127 h
set_option maxHeartbeats 4000000 in
set_option maxRecDepth 100000 in
theorem w_X8_find_b119_j {G : Gt} {X : Cxt} {Q : State → Prop} (C : Cx G X cX8_find RX8 wsX8_find 4 rm_X8_find) {post : Int32 → Mem → Prop} (hQ : RetI G X Q post .int 0 0) : ∀ (n : Nat) (v1 : Int32) (μ : Mem), itr (fun _ _ => False) (w_X8_find_b119 post) n v1 μ → J G X Q 4 0 0 119 [(0, .ref (ad G 31)), (1, .int v1)] [] μ := by
  intro n
  induction n with
  | zero => intro v1 μ h; exact h.elim
  | succ n ih =>
    intro v1 μ h
    replace h : w_X8_find_b119 post (itr (fun _ _ => False) (w_X8_find_b119 post) n) v1 μ := h
    generalize itr (fun _ _ => False) (w_X8_find_b119 post) n = k119 at ih h
    have hk119 := ih
    unfold w_X8_find_b119 at h
    refine j_iload_n C 1 dX8_find_119 rfl ?_
    refine j_bipush (v := 64) C dX8_find_120 (by decide) ?_
    refine j_icmp_ge C 307 dX8_find_122 (by decide) (fun c55 => ?_) (fun c55 => ?_)
    · replace h := h.1 c55
      refine j_aload_n C 0 dX8_find_307 rfl ?_
      refine j_iconst (v := 0) C dX8_find_308 (by decide) ?_
      obtain ⟨μ6, e7⟩ : ∃ m, m = wr μ 31 6 (0 : Int32) := ⟨_, rfl⟩
      replace h := h μ6 e7
      refine j_put C 31 6 sh_31 (by decide) cl_X8 (by decide) rfl in_X8_find_X8 lk_X8_find_162 rfl tyX8_ok nmX8 rfl rfl dX8_find_309 e7 ?_
      refine j_iconst (v := 0) C dX8_find_312 (by decide) ?_
      refine j_istore_n (lv' := [(0, .ref (ad G 31)), (1, .int (0 : Int32))]) C dX8_find_313 (by decide) rfl rfl ?_
      obtain ⟨n9, h⟩ := h
      exact w_X8_find_b314_j C hQ n9 _ _ h
    · replace h := h.2 c55
      refine j_iconst (v := 0) C dX8_find_125 (by decide) ?_
      refine j_istore_n (lv' := [(0, .ref (ad G 31)), (1, .int v1), (2, .int (0 : Int32))]) C dX8_find_126 (by decide) rfl rfl ?_
      obtain ⟨n9, h⟩ := h
      exact w_X8_find_b127_j C hQ hk119 n9 _ _ _ h
set_option maxHeartbeats 4000000 in
set_option maxRecDepth 100000 in
theorem w_X8_find_b52_j {G : Gt} {X : Cxt} {Q : State → Prop} (C : Cx G X cX8_find RX8 wsX8_find 4 rm_X8_find) {post : Int32 → Mem → Prop} (hQ : RetI G X Q post .int 0 0) {k12 : Int32 → Mem → Prop} (hk12 : ∀ (v1 : Int32) (μ : Mem), k12 v1 μ → J G X Q 4 0 0 12 [(0, .ref (ad G 31)), (1, .int v1)] [] μ) : ∀ (n : Nat) (v1 v2 v3 : Int32) (μ : Mem), itr (fun _ _ _ _ => False) (w_X8_find_b52 post k12) n v1 v2 v3 μ → J G X Q 4 0 0 52 [(0, .ref (ad G 31)), (1, .int v1), (2, .int v2), (3, .int v3)] [] μ := by
  intro n
  induction n with
  | zero => intro v1 v2 v3 μ h; exact h.elim
  | succ n ih =>
    intro v1 v2 v3 μ h
    replace h : w_X8_find_b52 post k12 (itr (fun _ _ _ _ => False) (w_X8_find_b52 post k12) n) v1 v2 v3 μ := h
    generalize itr (fun _ _ _ _ => False) (w_X8_find_b52 post k12) n = k52 at ih h
    have hk52 := ih
    unfold w_X8_find_b52 at h
    refine j_iload_n C 3 dX8_find_52 rfl ?_
    refine j_iload_n C 1 dX8_find_53 rfl ?_
    refine j_icmp_gt C 107 dX8_find_54 (by decide) (fun c72 => ?_) (fun c72 => ?_)
    · replace h := h.1 c72
      refine j_iinc (v := v1 + (1 : Int32)) (lv' := [(0, .ref (ad G 31)), (1, .int (v1 + (1 : Int32))), (2, .int v2), (3, .int v3)]) C 1 dX8_find_107 rfl rfl (by decide) rfl rfl ?_
      refine j_goto C 12 dX8_find_110 (by decide) ?_
      refine j_forget [0, 1] rfl ?_
      exact hk12 _ _ h
    · replace h := h.2 c72
      refine j_iload_n C 2 dX8_find_57 rfl ?_
      refine j_if_eq C 107 dX8_find_58 (by decide) (fun c71 => ?_) (fun c71 => ?_)
      · replace h := h.1 c71
        refine j_iinc (v := v1 + (1 : Int32)) (lv' := [(0, .ref (ad G 31)), (1, .int (v1 + (1 : Int32))), (2, .int v2), (3, .int v3)]) C 1 dX8_find_107 rfl rfl (by decide) rfl rfl ?_
        refine j_goto C 12 dX8_find_110 (by decide) ?_
        refine j_forget [0, 1] rfl ?_
        exact hk12 _ _ h
      · replace h := h.2 c71
        refine j_aload_n C 0 dX8_find_61 rfl ?_
        refine j_getR C 31 28 sh_31 (by decide) cl_X8 (by decide) rfl in_X8_find_X8 lk_X8_find_69 rfl dX8_find_62 ?_
        refine j_iload_n C 1 dX8_find_65 rfl ?_
        have b60 := h.1
        replace h := h.2
        refine j_iald C 50 sh_50 (by decide) b60 dX8_find_66 ?_
        refine j_iconst (v := -1) C dX8_find_67 (by decide) ?_
        refine j_icmp_ne C 107 dX8_find_68 (by decide) (fun c70 => ?_) (fun c70 => ?_)
        · replace h := h.1 c70
          refine j_iinc (v := v1 + (1 : Int32)) (lv' := [(0, .ref (ad G 31)), (1, .int (v1 + (1 : Int32))), (2, .int v2), (3, .int v3)]) C 1 dX8_find_107 rfl rfl (by decide) rfl rfl ?_
          refine j_goto C 12 dX8_find_110 (by decide) ?_
          refine j_forget [0, 1] rfl ?_
          exact hk12 _ _ h
        · replace h := h.2 c70
          refine j_aload_n C 0 dX8_find_71 rfl ?_
          refine j_getR C 31 15 sh_31 (by decide) cl_X8 (by decide) rfl in_X8_find_X8 lk_X8_find_33 rfl dX8_find_72 ?_
          refine j_iload_n C 3 dX8_find_75 rfl ?_
          have b61 := h.1
          replace h := h.2
          refine j_iald C 38 sh_38 (by decide) b61 dX8_find_76 ?_
          refine j_aload_n C 0 dX8_find_77 rfl ?_
          refine j_getR C 31 15 sh_31 (by decide) cl_X8 (by decide) rfl in_X8_find_X8 lk_X8_find_33 rfl dX8_find_78 ?_
          refine j_iload_n C 1 dX8_find_81 rfl ?_
          have b62 := h.1
          replace h := h.2
          refine j_iald C 38 sh_38 (by decide) b62 dX8_find_82 ?_
          refine j_icmp_ne C 101 dX8_find_83 (by decide) (fun c69 => ?_) (fun c69 => ?_)
          · replace h := h.1 c69
            refine j_iinc (v := v3 + (1 : Int32)) (lv' := [(0, .ref (ad G 31)), (1, .int v1), (2, .int v2), (3, .int (v3 + (1 : Int32)))]) C 3 dX8_find_101 rfl rfl (by decide) rfl rfl ?_
            refine j_goto C 52 dX8_find_104 (by decide) ?_
            exact hk52 _ _ _ _ h
          · replace h := h.2 c69
            refine j_aload_n C 0 dX8_find_86 rfl ?_
            refine j_iload_n C 3 dX8_find_87 rfl ?_
            refine j_cVI (n := 1) (rest := []) C 31 (c_X8_names (xl X) G C.2.2.1 _ v3 μ) h gX8_find_X8_names rfl ⟨rfl, rfl⟩ (by decide +kernel) ⟨by decide, by decide⟩ ⟨by decide, by decide⟩ sh_31 (by decide) cl_X8 rfl rfl (Nat.le_of_ble_eq_true rfl) dX8_find_88 rfl rfl (fun r64 μ63 h => ?_)
            refine j_if_le C 101 dX8_find_91 (by decide) (fun c68 => ?_) (fun c68 => ?_)
            · replace h := h.1 c68
              refine j_iinc (v := v3 + (1 : Int32)) (lv' := [(0, .ref (ad G 31)), (1, .int v1), (2, .int v2), (3, .int (v3 + (1 : Int32)))]) C 3 dX8_find_101 rfl rfl (by decide) rfl rfl ?_
              refine j_goto C 52 dX8_find_104 (by decide) ?_
              exact hk52 _ _ _ _ h
            · replace h := h.2 c68
              refine j_aload_n C 0 dX8_find_94 rfl ?_
              refine j_getR C 31 28 sh_31 (by decide) cl_X8 (by decide) rfl in_X8_find_X8 lk_X8_find_69 rfl dX8_find_95 ?_
              refine j_iload_n C 1 dX8_find_98 rfl ?_
              refine j_iload_n C 3 dX8_find_99 rfl ?_
              obtain ⟨μ65, e66⟩ : ∃ m, m = wr μ63 50 (ix v1) v3 := ⟨_, rfl⟩
              have b67 := h.1
              replace h := h.2 μ65 e66
              refine j_iast C 50 sh_50 (by decide) b67 dX8_find_100 e66 ?_
              refine j_iinc (v := v3 + (1 : Int32)) (lv' := [(0, .ref (ad G 31)), (1, .int v1), (2, .int v2), (3, .int (v3 + (1 : Int32)))]) C 3 dX8_find_101 rfl rfl (by decide) rfl rfl ?_
              refine j_goto C 52 dX8_find_104 (by decide) ?_
              exact hk52 _ _ _ _ h
set_option maxHeartbeats 4000000 in
set_option maxRecDepth 100000 in
theorem w_X8_find_b49_j {G : Gt} {X : Cxt} {Q : State → Prop} (C : Cx G X cX8_find RX8 wsX8_find 4 rm_X8_find) {post : Int32 → Mem → Prop} (hQ : RetI G X Q post .int 0 0) {k12 : Int32 → Mem → Prop} (hk12 : ∀ (v1 : Int32) (μ : Mem), k12 v1 μ → J G X Q 4 0 0 12 [(0, .ref (ad G 31)), (1, .int v1)] [] μ) {v1 s0 : Int32} {μ : Mem} (h : w_X8_find_b49 post k12 v1 s0 μ) : J G X Q 4 0 0 49 [(0, .ref (ad G 31)), (1, .int v1)] [.int s0] μ := by
  unfold w_X8_find_b49 at h
  refine j_istore_n (lv' := [(0, .ref (ad G 31)), (1, .int v1), (2, .int s0)]) C dX8_find_49 (by decide) rfl rfl ?_
  refine j_iconst (v := 0) C dX8_find_50 (by decide) ?_
  refine j_istore_n (lv' := [(0, .ref (ad G 31)), (1, .int v1), (2, .int s0), (3, .int (0 : Int32))]) C dX8_find_51 (by decide) rfl rfl ?_
  obtain ⟨n9, h⟩ := h
  exact w_X8_find_b52_j C hQ hk12 n9 _ _ _ _ h
set_option maxHeartbeats 4000000 in
set_option maxRecDepth 100000 in
theorem w_X8_find_b48_j {G : Gt} {X : Cxt} {Q : State → Prop} (C : Cx G X cX8_find RX8 wsX8_find 4 rm_X8_find) {post : Int32 → Mem → Prop} (hQ : RetI G X Q post .int 0 0) {k12 : Int32 → Mem → Prop} (hk12 : ∀ (v1 : Int32) (μ : Mem), k12 v1 μ → J G X Q 4 0 0 12 [(0, .ref (ad G 31)), (1, .int v1)] [] μ) {v1 : Int32} {μ : Mem} (h : w_X8_find_b48 post k12 v1 μ) : J G X Q 4 0 0 48 [(0, .ref (ad G 31)), (1, .int v1)] [] μ := by
  unfold w_X8_find_b48 at h
  refine j_iconst (v := 0) C dX8_find_48 (by decide) ?_
  exact w_X8_find_b49_j C hQ hk12 h
set_option maxHeartbeats 4000000 in
set_option maxRecDepth 100000 in
theorem w_X8_find_b12_j {G : Gt} {X : Cxt} {Q : State → Prop} (C : Cx G X cX8_find RX8 wsX8_find 4 rm_X8_find) {post : Int32 → Mem → Prop} (hQ : RetI G X Q post .int 0 0) : ∀ (n : Nat) (v1 : Int32) (μ : Mem), itr (fun _ _ => False) (w_X8_find_b12 post) n v1 μ → J G X Q 4 0 0 12 [(0, .ref (ad G 31)), (1, .int v1)] [] μ := by
  intro n
  induction n with
  | zero => intro v1 μ h; exact h.elim
  | succ n ih =>
    intro v1 μ h
    replace h : w_X8_find_b12 post (itr (fun _ _ => False) (w_X8_find_b12 post) n) v1 μ := h
    generalize itr (fun _ _ => False) (w_X8_find_b12 post) n = k12 at ih h
    have hk12 := ih
    unfold w_X8_find_b12 at h
    refine j_iload_n C 1 dX8_find_12 rfl ?_
    refine j_aload_n C 0 dX8_find_13 rfl ?_
    refine j_getI C 31 3 sh_31 (by decide) cl_X8 (by decide) rfl in_X8_find_X8 lk_X8_find_108 rfl dX8_find_14 ?_
    refine j_icmp_ge C 113 dX8_find_17 (by decide) (fun c77 => ?_) (fun c77 => ?_)
    · replace h := h.1 c77
      refine j_aload_n C 0 dX8_find_113 rfl ?_
      refine j_cVV (n := 0) (rest := []) C 31 (c_X8_drops (xl X) G C.2.2.1 _ μ) h gX8_find_X8_drops rfl ⟨rfl, rfl⟩ (by decide +kernel) ⟨by decide, by decide⟩ ⟨by decide, by decide⟩ sh_31 (by decide) cl_X8 rfl rfl (Nat.le_of_ble_eq_true rfl) dX8_find_114 rfl rfl (fun μ5 h => ?_)
      refine j_iconst (v := 0) C dX8_find_117 (by decide) ?_
      refine j_istore_n (lv' := [(0, .ref (ad G 31)), (1, .int (0 : Int32))]) C dX8_find_118 (by decide) rfl rfl ?_
      obtain ⟨n9, h⟩ := h
      exact w_X8_find_b119_j C hQ n9 _ _ h
    · replace h := h.2 c77
      refine j_aload_n C 0 dX8_find_20 rfl ?_
      refine j_getR C 31 28 sh_31 (by decide) cl_X8 (by decide) rfl in_X8_find_X8 lk_X8_find_69 rfl dX8_find_21 ?_
      refine j_iload_n C 1 dX8_find_24 rfl ?_
      refine j_iconst (v := -1) C dX8_find_25 (by decide) ?_
      obtain ⟨μ56, e57⟩ : ∃ m, m = wr μ 50 (ix v1) (-1 : Int32) := ⟨_, rfl⟩
      have b58 := h.1
      replace h := h.2 μ56 e57
      refine j_iast C 50 sh_50 (by decide) b58 dX8_find_26 e57 ?_
      refine j_aload_n C 0 dX8_find_27 rfl ?_
      refine j_getR C 31 15 sh_31 (by decide) cl_X8 (by decide) rfl in_X8_find_X8 lk_X8_find_33 rfl dX8_find_28 ?_
      refine j_iload_n C 1 dX8_find_31 rfl ?_
      have b59 := h.1
      replace h := h.2
      refine j_iald C 38 sh_38 (by decide) b59 dX8_find_32 ?_
      refine j_if_le C 48 dX8_find_33 (by decide) (fun c76 => ?_) (fun c76 => ?_)
      · replace h := h.1 c76
        exact w_X8_find_b48_j C hQ hk12 h
      · replace h := h.2 c76
        refine j_aload_n C 0 dX8_find_36 rfl ?_
        refine j_iload_n C 1 dX8_find_37 rfl ?_
        refine j_cVI (n := 1) (rest := []) C 31 (c_X8_names (xl X) G C.2.2.1 _ v1 μ56) h gX8_find_X8_names rfl ⟨rfl, rfl⟩ (by decide +kernel) ⟨by decide, by decide⟩ ⟨by decide, by decide⟩ sh_31 (by decide) cl_X8 rfl rfl (Nat.le_of_ble_eq_true rfl) dX8_find_38 rfl rfl (fun r74 μ73 h => ?_)
        refine j_if_le C 48 dX8_find_41 (by decide) (fun c75 => ?_) (fun c75 => ?_)
        · replace h := h.1 c75
          exact w_X8_find_b48_j C hQ hk12 h
        · replace h := h.2 c75
          refine j_iconst (v := 1) C dX8_find_44 (by decide) ?_
          refine j_goto C 49 dX8_find_45 (by decide) ?_
          exact w_X8_find_b49_j C hQ hk12 h
set_option maxHeartbeats 4000000 in
set_option maxRecDepth 100000 in
theorem c_X8_find (l : Launch) (G : Gt) (hD : Dj G) (post : Int32 → Mem → Prop) (μ : Mem) : MI G l yX8_find wsX8_find rm_X8_find 0 0 [.ref (ad G 31)] μ (w_X8_find post μ) post := by
  refine mI_of (cc := cX8_find) (maxL := 4) (ty := .int) (lv0 := [(0, .ref (ad G 31))]) hD (by decide) rfl (Nat.le_of_ble_eq_true rfl) rfl ?_
  intro X Q hl C hQ h
  subst hl
  replace C : Cx G X cX8_find RX8 wsX8_find 4 rm_X8_find := C
  unfold w_X8_find at h
  refine j_aload_n C 0 dX8_find_0 rfl ?_
  refine j_iconst (v := 0) C dX8_find_1 (by decide) ?_
  obtain ⟨μ1, e2⟩ : ∃ m, m = wr μ 31 0 (0 : Int32) := ⟨_, rfl⟩
  replace h := h μ1 e2
  refine j_put C 31 0 sh_31 (by decide) cl_X8 (by decide) rfl in_X8_find_X8 lk_X8_find_87 rfl tyX8_ok nmX8 rfl rfl dX8_find_2 e2 ?_
  refine j_aload_n C 0 dX8_find_5 rfl ?_
  refine j_iconst (v := 0) C dX8_find_6 (by decide) ?_
  obtain ⟨μ3, e4⟩ : ∃ m, m = wr μ1 31 7 (0 : Int32) := ⟨_, rfl⟩
  replace h := h μ3 e4
  refine j_put C 31 7 sh_31 (by decide) cl_X8 (by decide) rfl in_X8_find_X8 lk_X8_find_152 rfl tyX8_ok nmX8 rfl rfl dX8_find_7 e4 ?_
  refine j_iconst (v := 0) C dX8_find_10 (by decide) ?_
  refine j_istore_n (lv' := [(0, .ref (ad G 31)), (1, .int (0 : Int32))]) C dX8_find_11 (by decide) rfl rfl ?_
  obtain ⟨n9, h⟩ := h
  exact w_X8_find_b12_j C hQ n9 _ _ h
/-! X8_folder -/
abbrev rm_X8_folder : Room := { frames := 2, cells := 0, slots := 0, locals := 43 }
theorem in_X8_folder_X8 : ∀ w ∈ wsX80, w ∈ wsX8_folder := by decide +kernel
theorem lk_X8_folder_87 : Cond.fieldLink RX8 87 "SameAgainModel" "thrown" "I" ∈ wsX8_folder := by decide +kernel
theorem lk_X8_folder_7 : Cond.fieldLink RX8 7 "SameAgainModel" "folders" "I" ∈ wsX8_folder := by decide +kernel
theorem lk_X8_folder_13 : Cond.fieldLink RX8 13 "SameAgainModel" "folderIn" "[I" ∈ wsX8_folder := by decide +kernel
theorem lk_X8_folder_17 : Cond.fieldLink RX8 17 "SameAgainModel" "folderName" "[I" ∈ wsX8_folder := by decide +kernel
set_option maxHeartbeats 4000000 in
set_option maxRecDepth 100000 in
theorem c_X8_folder (l : Launch) (G : Gt) (hD : Dj G) (post : Int32 → Mem → Prop) (a1 a2 : Int32) (μ : Mem) : MI G l yX8_folder wsX8_folder rm_X8_folder 0 0 [.ref (ad G 31), .int a1, .int a2] μ (w_X8_folder post a1 a2 μ) post := by
  refine mI_of (cc := cX8_folder) (maxL := 3) (ty := .int) (lv0 := [(0, .ref (ad G 31)), (1, .int a1), (2, .int a2)]) hD (by decide) rfl (Nat.le_of_ble_eq_true rfl) rfl ?_
  intro X Q hl C hQ h
  subst hl
  replace C : Cx G X cX8_folder RX8 wsX8_folder 3 rm_X8_folder := C
  unfold w_X8_folder at h
  refine j_aload_n C 0 dX8_folder_0 rfl ?_
  refine j_iconst (v := 0) C dX8_folder_1 (by decide) ?_
  obtain ⟨μ1, e2⟩ : ∃ m, m = wr μ 31 0 (0 : Int32) := ⟨_, rfl⟩
  replace h := h μ1 e2
  refine j_put C 31 0 sh_31 (by decide) cl_X8 (by decide) rfl in_X8_folder_X8 lk_X8_folder_87 rfl tyX8_ok nmX8 rfl rfl dX8_folder_2 e2 ?_
  refine j_aload_n C 0 dX8_folder_5 rfl ?_
  refine j_iload_n C 1 dX8_folder_6 rfl ?_
  refine j_cVI (n := 1) (rest := []) C 31 (c_X8_isFolder (xl X) G C.2.2.1 _ a1 μ1) h gX8_folder_X8_isFolder rfl ⟨rfl, rfl⟩ (by decide +kernel) ⟨by decide, by decide⟩ ⟨by decide, by decide⟩ sh_31 (by decide) cl_X8 rfl rfl (Nat.le_of_ble_eq_true rfl) dX8_folder_7 rfl rfl (fun r4 μ3 h => ?_)
  refine j_if_ne C 15 dX8_folder_10 (by decide) (fun c20 => ?_) (fun c20 => ?_)
  · replace h := h.1 c20
    refine j_aload_n C 0 dX8_folder_15 rfl ?_
    refine j_getI C 31 1 sh_31 (by decide) cl_X8 (by decide) rfl in_X8_folder_X8 lk_X8_folder_7 rfl dX8_folder_16 ?_
    refine j_bipush (v := 16) C dX8_folder_19 (by decide) ?_
    refine j_icmp_eq C 41 dX8_folder_21 (by decide) (fun c19 => ?_) (fun c19 => ?_)
    · replace h := h.1 c19
      refine j_iconst (v := -1) C dX8_folder_41 (by decide) ?_
      exact j_iret C hQ (by decide) (by decide) h dX8_folder_42
    · replace h := h.2 c19
      refine j_iload_n C 2 dX8_folder_24 rfl ?_
      refine j_cSI (n := 1) (rest := []) C (c_X8_isName (xl X) G C.2.2.1 _ a2 μ3) h gX8_folder_X8_isName rfl ⟨rfl, rfl⟩ (by decide +kernel) ⟨by decide, by decide⟩ ⟨by decide, by decide⟩ rfl rfl (Nat.le_of_ble_eq_true rfl) dX8_folder_25 rfl rfl (fun r6 μ5 h => ?_)
      refine j_if_eq C 41 dX8_folder_28 (by decide) (fun c18 => ?_) (fun c18 => ?_)
      · replace h := h.1 c18
        refine j_iconst (v := -1) C dX8_folder_41 (by decide) ?_
        exact j_iret C hQ (by decide) (by decide) h dX8_folder_42
      · replace h := h.2 c18
        refine j_aload_n C 0 dX8_folder_31 rfl ?_
        refine j_iload_n C 1 dX8_folder_32 rfl ?_
        refine j_iload_n C 2 dX8_folder_33 rfl ?_
        refine j_cVI (n := 2) (rest := []) C 31 (c_X8_child (xl X) G C.2.2.1 _ a1 a2 μ5) h gX8_folder_X8_child rfl ⟨rfl, rfl⟩ (by decide +kernel) ⟨by decide, by decide⟩ ⟨by decide, by decide⟩ sh_31 (by decide) cl_X8 rfl rfl (Nat.le_of_ble_eq_true rfl) dX8_folder_34 rfl rfl (fun r8 μ7 h => ?_)
        refine j_iconst (v := -1) C dX8_folder_37 (by decide) ?_
        refine j_icmp_eq C 43 dX8_folder_38 (by decide) (fun c17 => ?_) (fun c17 => ?_)
        · replace h := h.1 c17
          refine j_aload_n C 0 dX8_folder_43 rfl ?_
          refine j_getR C 31 9 sh_31 (by decide) cl_X8 (by decide) rfl in_X8_folder_X8 lk_X8_folder_13 rfl dX8_folder_44 ?_
          refine j_aload_n C 0 dX8_folder_47 rfl ?_
          refine j_getI C 31 1 sh_31 (by decide) cl_X8 (by decide) rfl in_X8_folder_X8 lk_X8_folder_7 rfl dX8_folder_48 ?_
          refine j_iload_n C 1 dX8_folder_51 rfl ?_
          obtain ⟨μ9, e10⟩ : ∃ m, m = wr μ7 32 (ix (μ7 31 1)) a1 := ⟨_, rfl⟩
          have b11 := h.1
          replace h := h.2 μ9 e10
          refine j_iast C 32 sh_32 (by decide) b11 dX8_folder_52 e10 ?_
          refine j_aload_n C 0 dX8_folder_53 rfl ?_
          refine j_getR C 31 10 sh_31 (by decide) cl_X8 (by decide) rfl in_X8_folder_X8 lk_X8_folder_17 rfl dX8_folder_54 ?_
          refine j_aload_n C 0 dX8_folder_57 rfl ?_
          refine j_getI C 31 1 sh_31 (by decide) cl_X8 (by decide) rfl in_X8_folder_X8 lk_X8_folder_7 rfl dX8_folder_58 ?_
          refine j_iload_n C 2 dX8_folder_61 rfl ?_
          obtain ⟨μ12, e13⟩ : ∃ m, m = wr μ9 33 (ix (μ9 31 1)) a2 := ⟨_, rfl⟩
          have b14 := h.1
          replace h := h.2 μ12 e13
          refine j_iast C 33 sh_33 (by decide) b14 dX8_folder_62 e13 ?_
          refine j_aload_n C 0 dX8_folder_63 rfl ?_
          refine j_dup C dX8_folder_64 rfl ?_
          refine j_getI C 31 1 sh_31 (by decide) cl_X8 (by decide) rfl in_X8_folder_X8 lk_X8_folder_7 rfl dX8_folder_65 ?_
          refine j_iconst (v := 1) C dX8_folder_68 (by decide) ?_
          refine j_iadd C dX8_folder_69 ?_
          obtain ⟨μ15, e16⟩ : ∃ m, m = wr μ12 31 1 ((μ12 31 1) + (1 : Int32)) := ⟨_, rfl⟩
          replace h := h μ15 e16
          refine j_put C 31 1 sh_31 (by decide) cl_X8 (by decide) rfl in_X8_folder_X8 lk_X8_folder_7 rfl tyX8_ok nmX8 rfl rfl dX8_folder_70 e16 ?_
          refine j_aload_n C 0 dX8_folder_73 rfl ?_
          refine j_getI C 31 1 sh_31 (by decide) cl_X8 (by decide) rfl in_X8_folder_X8 lk_X8_folder_7 rfl dX8_folder_74 ?_
          refine j_iconst (v := 1) C dX8_folder_77 (by decide) ?_
          refine j_isub C dX8_folder_78 ?_
          exact j_iret C hQ (by decide) (by decide) h dX8_folder_79
        · replace h := h.2 c17
          refine j_iconst (v := -1) C dX8_folder_41 (by decide) ?_
          exact j_iret C hQ (by decide) (by decide) h dX8_folder_42
  · replace h := h.2 c20
    refine j_iconst (v := 0) C dX8_folder_13 (by decide) ?_
    exact j_iret C hQ (by decide) (by decide) h dX8_folder_14
/-! X8_groupOf -/
abbrev rm_X8_groupOf : Room := { frames := 2, cells := 0, slots := 0, locals := 43 }
theorem in_X8_groupOf_X8 : ∀ w ∈ wsX80, w ∈ wsX8_groupOf := by decide +kernel
theorem lk_X8_groupOf_42 : Cond.fieldLink RX8 42 "SameAgainModel" "group" "[I" ∈ wsX8_groupOf := by decide +kernel
theorem lk_X8_groupOf_26 : Cond.fieldLink RX8 26 "SameAgainModel" "body" "[I" ∈ wsX8_groupOf := by decide +kernel
set_option maxHeartbeats 4000000 in
set_option maxRecDepth 100000 in
theorem c_X8_groupOf (l : Launch) (G : Gt) (hD : Dj G) (post : Int32 → Mem → Prop) (a1 : Int32) (μ : Mem) : MI G l yX8_groupOf wsX8_groupOf rm_X8_groupOf 0 0 [.ref (ad G 31), .int a1] μ (w_X8_groupOf post a1 μ) post := by
  refine mI_of (cc := cX8_groupOf) (maxL := 2) (ty := .int) (lv0 := [(0, .ref (ad G 31)), (1, .int a1)]) hD (by decide) rfl (Nat.le_of_ble_eq_true rfl) rfl ?_
  intro X Q hl C hQ h
  subst hl
  replace C : Cx G X cX8_groupOf RX8 wsX8_groupOf 2 rm_X8_groupOf := C
  unfold w_X8_groupOf at h
  refine j_aload_n C 0 dX8_groupOf_0 rfl ?_
  refine j_iload_n C 1 dX8_groupOf_1 rfl ?_
  refine j_cVI (n := 1) (rest := []) C 31 (c_X8_isFile (xl X) G C.2.2.1 _ a1 μ) h gX8_groupOf_X8_isFile rfl ⟨rfl, rfl⟩ (by decide +kernel) ⟨by decide, by decide⟩ ⟨by decide, by decide⟩ sh_31 (by decide) cl_X8 rfl rfl (Nat.le_of_ble_eq_true rfl) dX8_groupOf_2 rfl rfl (fun r2 μ1 h => ?_)
  refine j_if_eq C 22 dX8_groupOf_5 (by decide) (fun c5 => ?_) (fun c5 => ?_)
  · replace h := h.1 c5
    refine j_iconst (v := 0) C dX8_groupOf_22 (by decide) ?_
    exact j_iret C hQ (by decide) (by decide) h dX8_groupOf_23
  · replace h := h.2 c5
    refine j_aload_n C 0 dX8_groupOf_8 rfl ?_
    refine j_getR C 31 18 sh_31 (by decide) cl_X8 (by decide) rfl in_X8_groupOf_X8 lk_X8_groupOf_42 rfl dX8_groupOf_9 ?_
    refine j_aload_n C 0 dX8_groupOf_12 rfl ?_
    refine j_getR C 31 13 sh_31 (by decide) cl_X8 (by decide) rfl in_X8_groupOf_X8 lk_X8_groupOf_26 rfl dX8_groupOf_13 ?_
    refine j_iload_n C 1 dX8_groupOf_16 rfl ?_
    have b3 := h.1
    replace h := h.2
    refine j_iald C 36 sh_36 (by decide) b3 dX8_groupOf_17 ?_
    have b4 := h.1
    replace h := h.2
    refine j_iald C 41 sh_41 (by decide) b4 dX8_groupOf_18 ?_
    refine j_goto C 23 dX8_groupOf_19 (by decide) ?_
    exact j_iret C hQ (by decide) (by decide) h dX8_groupOf_23
/-! X8_piece -/
abbrev rm_X8_piece : Room := { frames := 0, cells := 0, slots := 0, locals := 0 }
theorem in_X8_piece_X8 : ∀ w ∈ wsX80, w ∈ wsX8_piece := by decide +kernel
theorem lk_X8_piece_45 : Cond.fieldLink RX8 45 "SameAgainModel" "bytes" "[I" ∈ wsX8_piece := by decide +kernel
set_option maxHeartbeats 4000000 in
set_option maxRecDepth 100000 in
theorem w_X8_piece_b5_j {G : Gt} {X : Cxt} {Q : State → Prop} (C : Cx G X cX8_piece RX8 wsX8_piece 5 rm_X8_piece) {post : Int32 → Mem → Prop} (hQ : RetI G X Q post .int 0 0) : ∀ (n : Nat) (v1 v2 v3 v4 : Int32) (μ : Mem), itr (fun _ _ _ _ _ => False) (w_X8_piece_b5 post) n v1 v2 v3 v4 μ → J G X Q 5 0 0 5 [(0, .ref (ad G 31)), (1, .int v1), (2, .int v2), (3, .int v3), (4, .int v4)] [] μ := by
  intro n
  induction n with
  | zero => intro v1 v2 v3 v4 μ h; exact h.elim
  | succ n ih =>
    intro v1 v2 v3 v4 μ h
    replace h : w_X8_piece_b5 post (itr (fun _ _ _ _ _ => False) (w_X8_piece_b5 post) n) v1 v2 v3 v4 μ := h
    generalize itr (fun _ _ _ _ _ => False) (w_X8_piece_b5 post) n = k5 at ih h
    have hk5 := ih
    unfold w_X8_piece_b5 at h
    refine j_iload C 4 dX8_piece_5 rfl ?_
    refine j_iconst (v := 4) C dX8_piece_7 (by decide) ?_
    refine j_icmp_ge C 37 dX8_piece_8 (by decide) (fun c2 => ?_) (fun c2 => ?_)
    · replace h := h.1 c2
      refine j_iload_n C 3 dX8_piece_37 rfl ?_
      exact j_iret C hQ (by decide) (by decide) h dX8_piece_38
    · replace h := h.2 c2
      refine j_iload_n C 3 dX8_piece_11 rfl ?_
      refine j_bipush (v := 8) C dX8_piece_12 (by decide) ?_
      refine j_ishl C dX8_piece_14 ?_
      refine j_aload_n C 0 dX8_piece_15 rfl ?_
      refine j_getR C 31 19 sh_31 (by decide) cl_X8 (by decide) rfl in_X8_piece_X8 lk_X8_piece_45 rfl dX8_piece_16 ?_
      refine j_bipush (v := 64) C dX8_piece_19 (by decide) ?_
      refine j_iload_n C 1 dX8_piece_21 rfl ?_
      refine j_imul C dX8_piece_22 ?_
      refine j_iload_n C 2 dX8_piece_23 rfl ?_
      refine j_iadd C dX8_piece_24 ?_
      refine j_iload C 4 dX8_piece_25 rfl ?_
      refine j_iadd C dX8_piece_27 ?_
      have b1 := h.1
      replace h := h.2
      refine j_iald C 42 sh_42 (by decide) b1 dX8_piece_28 ?_
      refine j_ior C dX8_piece_29 ?_
      refine j_istore_n (lv' := [(0, .ref (ad G 31)), (1, .int v1), (2, .int v2), (3, .int ((v3 <<< ((8 : Int32) &&& 31)) ||| (μ 42 (ix ((((64 : Int32) * v1) + v2) + v4))))), (4, .int v4)]) C dX8_piece_30 (by decide) rfl rfl ?_
      refine j_iinc (v := v4 + (1 : Int32)) (lv' := [(0, .ref (ad G 31)), (1, .int v1), (2, .int v2), (3, .int ((v3 <<< ((8 : Int32) &&& 31)) ||| (μ 42 (ix ((((64 : Int32) * v1) + v2) + v4))))), (4, .int (v4 + (1 : Int32)))]) C 4 dX8_piece_31 rfl rfl (by decide) rfl rfl ?_
      refine j_goto C 5 dX8_piece_34 (by decide) ?_
      exact hk5 _ _ _ _ _ h
set_option maxHeartbeats 4000000 in
set_option maxRecDepth 100000 in
theorem c_X8_piece (l : Launch) (G : Gt) (hD : Dj G) (post : Int32 → Mem → Prop) (a1 a2 : Int32) (μ : Mem) : MI G l yX8_piece wsX8_piece rm_X8_piece 0 0 [.ref (ad G 31), .int a1, .int a2] μ (w_X8_piece post a1 a2 μ) post := by
  refine mI_of (cc := cX8_piece) (maxL := 5) (ty := .int) (lv0 := [(0, .ref (ad G 31)), (1, .int a1), (2, .int a2)]) hD (by decide) rfl (Nat.le_of_ble_eq_true rfl) rfl ?_
  intro X Q hl C hQ h
  subst hl
  replace C : Cx G X cX8_piece RX8 wsX8_piece 5 rm_X8_piece := C
  unfold w_X8_piece at h
  refine j_iconst (v := 0) C dX8_piece_0 (by decide) ?_
  refine j_istore_n (lv' := [(0, .ref (ad G 31)), (1, .int a1), (2, .int a2), (3, .int (0 : Int32))]) C dX8_piece_1 (by decide) rfl rfl ?_
  refine j_iconst (v := 0) C dX8_piece_2 (by decide) ?_
  refine j_istore (lv' := [(0, .ref (ad G 31)), (1, .int a1), (2, .int a2), (3, .int (0 : Int32)), (4, .int (0 : Int32))]) C dX8_piece_3 (by decide) rfl rfl ?_
  obtain ⟨n9, h⟩ := h
  exact w_X8_piece_b5_j C hQ n9 _ _ _ _ _ h
/-! X8_has -/
abbrev rm_X8_has : Room := { frames := 1, cells := 0, slots := 0, locals := 24 }
set_option maxHeartbeats 4000000 in
set_option maxRecDepth 100000 in
theorem w_X8_has_b3_j {G : Gt} {X : Cxt} {Q : State → Prop} (C : Cx G X cX8_has RX8 wsX8_has 5 rm_X8_has) {post : Int32 → Mem → Prop} (hQ : RetI G X Q post .boolean 0 0) : ∀ (n : Nat) (v1 v2 v3 v4 : Int32) (μ : Mem), itr (fun _ _ _ _ _ => False) (w_X8_has_b3 post) n v1 v2 v3 v4 μ → J G X Q 5 0 0 3 [(0, .ref (ad G 31)), (1, .int v1), (2, .int v2), (3, .int v3), (4, .int v4)] [] μ := by
  intro n
  induction n with
  | zero => intro v1 v2 v3 v4 μ h; exact h.elim
  | succ n ih =>
    intro v1 v2 v3 v4 μ h
    replace h : w_X8_has_b3 post (itr (fun _ _ _ _ _ => False) (w_X8_has_b3 post) n) v1 v2 v3 v4 μ := h
    generalize itr (fun _ _ _ _ _ => False) (w_X8_has_b3 post) n = k3 at ih h
    have hk3 := ih
    unfold w_X8_has_b3 at h
    refine j_iload C 4 dX8_has_3 rfl ?_
    refine j_iload_n C 3 dX8_has_5 rfl ?_
    refine j_icmp_ge C 28 dX8_has_6 (by decide) (fun c4 => ?_) (fun c4 => ?_)
    · replace h := h.1 c4
      refine j_iconst (v := 0) C dX8_has_28 (by decide) ?_
      exact j_zret C hQ (by decide) (by decide) rfl h dX8_has_29
    · replace h := h.2 c4
      refine j_aload_n C 0 dX8_has_9 rfl ?_
      refine j_iload_n C 1 dX8_has_10 rfl ?_
      refine j_iload C 4 dX8_has_11 rfl ?_
      refine j_cVI (n := 2) (rest := []) C 31 (c_X8_piece (xl X) G C.2.2.1 _ v1 v4 μ) h gX8_has_X8_piece rfl ⟨rfl, rfl⟩ (by decide +kernel) ⟨by decide, by decide⟩ ⟨by decide, by decide⟩ sh_31 (by decide) cl_X8 rfl rfl (Nat.le_of_ble_eq_true rfl) dX8_has_13 rfl rfl (fun r2 μ1 h => ?_)
      refine j_iload_n C 2 dX8_has_16 rfl ?_
      refine j_icmp_ne C 22 dX8_has_17 (by decide) (fun c3 => ?_) (fun c3 => ?_)
      · replace h := h.1 c3
        refine j_iinc (v := v4 + (1 : Int32)) (lv' := [(0, .ref (ad G 31)), (1, .int v1), (2, .int v2), (3, .int v3), (4, .int (v4 + (1 : Int32)))]) C 4 dX8_has_22 rfl rfl (by decide) rfl rfl ?_
        refine j_goto C 3 dX8_has_25 (by decide) ?_
        exact hk3 _ _ _ _ _ h
      · replace h := h.2 c3
        refine j_iconst (v := 1) C dX8_has_20 (by decide) ?_
        exact j_zret C hQ (by decide) (by decide) rfl h dX8_has_21
set_option maxHeartbeats 4000000 in
set_option maxRecDepth 100000 in
theorem c_X8_has (l : Launch) (G : Gt) (hD : Dj G) (post : Int32 → Mem → Prop) (a1 a2 a3 : Int32) (μ : Mem) : MI G l yX8_has wsX8_has rm_X8_has 0 0 [.ref (ad G 31), .int a1, .int a2, .int a3] μ (w_X8_has post a1 a2 a3 μ) post := by
  refine mI_of (cc := cX8_has) (maxL := 5) (ty := .boolean) (lv0 := [(0, .ref (ad G 31)), (1, .int a1), (2, .int a2), (3, .int a3)]) hD (by decide) rfl (Nat.le_of_ble_eq_true rfl) rfl ?_
  intro X Q hl C hQ h
  subst hl
  replace C : Cx G X cX8_has RX8 wsX8_has 5 rm_X8_has := C
  unfold w_X8_has at h
  refine j_iconst (v := 0) C dX8_has_0 (by decide) ?_
  refine j_istore (lv' := [(0, .ref (ad G 31)), (1, .int a1), (2, .int a2), (3, .int a3), (4, .int (0 : Int32))]) C dX8_has_1 (by decide) rfl rfl ?_
  obtain ⟨n9, h⟩ := h
  exact w_X8_has_b3_j C hQ n9 _ _ _ _ _ h
/-! X8_hold -/
abbrev rm_X8_hold : Room := { frames := 2, cells := 0, slots := 0, locals := 43 }
theorem in_X8_hold_X8 : ∀ w ∈ wsX80, w ∈ wsX8_hold := by decide +kernel
theorem lk_X8_hold_29 : Cond.fieldLink RX8 29 "SameAgainModel" "isHeld" "[Z" ∈ wsX8_hold := by decide +kernel
set_option maxHeartbeats 4000000 in
set_option maxRecDepth 100000 in
theorem c_X8_hold (l : Launch) (G : Gt) (hD : Dj G) (post : Int32 → Mem → Prop) (a1 a2 : Int32) (μ : Mem) : MI G l yX8_hold wsX8_hold rm_X8_hold 0 0 [.ref (ad G 31), .int a1, .int a2] μ (w_X8_hold post a1 a2 μ) post := by
  refine mI_of (cc := cX8_hold) (maxL := 4) (ty := .boolean) (lv0 := [(0, .ref (ad G 31)), (1, .int a1), (2, .int a2)]) hD (by decide) rfl (Nat.le_of_ble_eq_true rfl) rfl ?_
  intro X Q hl C hQ h
  subst hl
  replace C : Cx G X cX8_hold RX8 wsX8_hold 4 rm_X8_hold := C
  unfold w_X8_hold at h
  refine j_aload_n C 0 dX8_hold_0 rfl ?_
  refine j_iload_n C 1 dX8_hold_1 rfl ?_
  refine j_cVI (n := 1) (rest := []) C 31 (c_X8_isFile (xl X) G C.2.2.1 _ a1 μ) h gX8_hold_X8_isFile rfl ⟨rfl, rfl⟩ (by decide +kernel) ⟨by decide, by decide⟩ ⟨by decide, by decide⟩ sh_31 (by decide) cl_X8 rfl rfl (Nat.le_of_ble_eq_true rfl) dX8_hold_2 rfl rfl (fun r2 μ1 h => ?_)
  refine j_if_ne C 10 dX8_hold_5 (by decide) (fun c7 => ?_) (fun c7 => ?_)
  · replace h := h.1 c7
    refine j_aload_n C 0 dX8_hold_10 rfl ?_
    refine j_getR C 31 14 sh_31 (by decide) cl_X8 (by decide) rfl in_X8_hold_X8 lk_X8_hold_29 rfl dX8_hold_11 ?_
    refine j_iload_n C 1 dX8_hold_14 rfl ?_
    have b3 := h.1
    replace h := h.2
    refine j_zald C 37 sh_37 (by decide) b3 dX8_hold_15 ?_
    refine j_istore_n (lv' := [(0, .ref (ad G 31)), (1, .int a1), (2, .int a2), (3, .int (μ1 37 (ix a1)))]) C dX8_hold_16 (by decide) rfl rfl ?_
    refine j_aload_n C 0 dX8_hold_17 rfl ?_
    refine j_getR C 31 14 sh_31 (by decide) cl_X8 (by decide) rfl in_X8_hold_X8 lk_X8_hold_29 rfl dX8_hold_18 ?_
    refine j_iload_n C 1 dX8_hold_21 rfl ?_
    refine j_iload_n C 2 dX8_hold_22 rfl ?_
    obtain ⟨μ4, e5⟩ : ∃ m, m = wr μ1 37 (ix a1) (nz a2) := ⟨_, rfl⟩
    have b6 := h.1
    replace h := h.2 μ4 e5
    refine j_zast C 37 sh_37 (by decide) b6 dX8_hold_23 e5 ?_
    refine j_iload_n C 3 dX8_hold_24 rfl ?_
    exact j_zret C hQ (by decide) (by decide) h.1 h.2 dX8_hold_25
  · replace h := h.2 c7
    refine j_iconst (v := 0) C dX8_hold_8 (by decide) ?_
    exact j_zret C hQ (by decide) (by decide) rfl h dX8_hold_9
/-! X8_isBelow -/
abbrev rm_X8_isBelow : Room := { frames := 0, cells := 0, slots := 0, locals := 0 }
theorem in_X8_isBelow_X8 : ∀ w ∈ wsX80, w ∈ wsX8_isBelow := by decide +kernel
theorem lk_X8_isBelow_20 : Cond.fieldLink RX8 20 "SameAgainModel" "in" "[I" ∈ wsX8_isBelow := by decide +kernel
theorem lk_X8_isBelow_13 : Cond.fieldLink RX8 13 "SameAgainModel" "folderIn" "[I" ∈ wsX8_isBelow := by decide +kernel
set_option maxHeartbeats 4000000 in
set_option maxRecDepth 100000 in
theorem w_X8_isBelow_b27_j {G : Gt} {X : Cxt} {Q : State → Prop} (C : Cx G X cX8_isBelow RX8 wsX8_isBelow 4 rm_X8_isBelow) {post : Int32 → Mem → Prop} (hQ : RetI G X Q post .boolean 0 0) {v2 v3 : Int32} {μ : Mem} (h : w_X8_isBelow_b27 post v2 v3 μ) : J G X Q 4 0 0 27 [(2, .int v2), (3, .int v3)] [] μ := by
  unfold w_X8_isBelow_b27 at h
  refine j_iload_n C 1 dX8_isBelow_27 rfl ?_
  refine j_iload_n C 0 dX8_isBelow_28 rfl ?_
  refine j_icmp_ne C 36 dX8_isBelow_29 (by decide) (fun c2 => ?_) (fun c2 => ?_)
  · replace h := h.1 c2
    refine j_iconst (v := 0) C dX8_isBelow_36 (by decide) ?_
    exact j_zret C hQ (by decide) (by decide) rfl h dX8_isBelow_37
  · replace h := h.2 c2
    refine j_iconst (v := 1) C dX8_isBelow_32 (by decide) ?_
    refine j_goto C 37 dX8_isBelow_33 (by decide) ?_
    exact j_zret C hQ (by decide) (by decide) rfl h dX8_isBelow_37
set_option maxHeartbeats 4000000 in
set_option maxRecDepth 100000 in
theorem w_X8_isBelow_b7_j {G : Gt} {X : Cxt} {Q : State → Prop} (C : Cx G X cX8_isBelow RX8 wsX8_isBelow 4 rm_X8_isBelow) {post : Int32 → Mem → Prop} (hQ : RetI G X Q post .boolean 0 0) : ∀ (n : Nat) (v2 v3 : Int32) (μ : Mem), itr (fun _ _ _ => False) (w_X8_isBelow_b7 post) n v2 v3 μ → J G X Q 4 0 0 7 [(0, .ref (ad G 31)), (2, .int v2), (3, .int v3)] [] μ := by
  intro n
  induction n with
  | zero => intro v2 v3 μ h; exact h.elim
  | succ n ih =>
    intro v2 v3 μ h
    replace h : w_X8_isBelow_b7 post (itr (fun _ _ _ => False) (w_X8_isBelow_b7 post) n) v2 v3 μ := h
    generalize itr (fun _ _ _ => False) (w_X8_isBelow_b7 post) n = k7 at ih h
    have hk7 := ih
    unfold w_X8_isBelow_b7 at h
    refine j_iload_n C 2 dX8_isBelow_7 rfl ?_
    refine j_iconst (v := -1) C dX8_isBelow_8 (by decide) ?_
    refine j_icmp_eq C 27 dX8_isBelow_9 (by decide) (fun c5 => ?_) (fun c5 => ?_)
    · replace h := h.1 c5
      refine j_forget [1, 2] rfl ?_
      exact w_X8_isBelow_b27_j C hQ h
    · replace h := h.2 c5
      refine j_iload_n C 2 dX8_isBelow_12 rfl ?_
      refine j_iload_n C 1 dX8_isBelow_13 rfl ?_
      refine j_icmp_eq C 27 dX8_isBelow_14 (by decide) (fun c4 => ?_) (fun c4 => ?_)
      · replace h := h.1 c4
        refine j_forget [1, 2] rfl ?_
        exact w_X8_isBelow_b27_j C hQ h
      · replace h := h.2 c4
        refine j_aload_n C 0 dX8_isBelow_17 rfl ?_
        refine j_getR C 31 9 sh_31 (by decide) cl_X8 (by decide) rfl in_X8_isBelow_X8 lk_X8_isBelow_13 rfl dX8_isBelow_18 ?_
        refine j_iload_n C 2 dX8_isBelow_21 rfl ?_
        have b3 := h.1
        replace h := h.2
        refine j_iald C 32 sh_32 (by decide) b3 dX8_isBelow_22 ?_
        refine j_istore_n (lv' := [(0, .ref (ad G 31)), (2, .int v2), (3, .int (μ 32 (ix v3)))]) C dX8_isBelow_23 (by decide) rfl rfl ?_
        refine j_goto C 7 dX8_isBelow_24 (by decide) ?_
        exact hk7 _ _ _ h
set_option maxHeartbeats 4000000 in
set_option maxRecDepth 100000 in
theorem c_X8_isBelow (l : Launch) (G : Gt) (hD : Dj G) (post : Int32 → Mem → Prop) (a1 a2 : Int32) (μ : Mem) : MI G l yX8_isBelow wsX8_isBelow rm_X8_isBelow 0 0 [.ref (ad G 31), .int a1, .int a2] μ (w_X8_isBelow post a1 a2 μ) post := by
  refine mI_of (cc := cX8_isBelow) (maxL := 4) (ty := .boolean) (lv0 := [(0, .ref (ad G 31)), (1, .int a1), (2, .int a2)]) hD (by decide) rfl (Nat.le_of_ble_eq_true rfl) rfl ?_
  intro X Q hl C hQ h
  subst hl
  replace C : Cx G X cX8_isBelow RX8 wsX8_isBelow 4 rm_X8_isBelow := C
  unfold w_X8_isBelow at h
  refine j_aload_n C 0 dX8_isBelow_0 rfl ?_
  refine j_getR C 31 11 sh_31 (by decide) cl_X8 (by decide) rfl in_X8_isBelow_X8 lk_X8_isBelow_20 rfl dX8_isBelow_1 ?_
  refine j_iload_n C 1 dX8_isBelow_4 rfl ?_
  have b1 := h.1
  replace h := h.2
  refine j_iald C 34 sh_34 (by decide) b1 dX8_isBelow_5 ?_
  refine j_istore_n (lv' := [(0, .ref (ad G 31)), (1, .int a1), (2, .int a2), (3, .int (μ 34 (ix a1)))]) C dX8_isBelow_6 (by decide) rfl rfl ?_
  refine j_forget [0, 2, 3] rfl ?_
  obtain ⟨n9, h⟩ := h
  exact w_X8_isBelow_b7_j C hQ n9 _ _ _ h
/-! X8_rank -/
abbrev rm_X8_rank : Room := { frames := 1, cells := 0, slots := 0, locals := 23 }
theorem in_X8_rank_X8 : ∀ w ∈ wsX80, w ∈ wsX8_rank := by decide +kernel
theorem lk_X8_rank_48 : Cond.fieldLink RX8 48 "SameAgainModel" "wish" "[I" ∈ wsX8_rank := by decide +kernel
theorem lk_X8_rank_51 : Cond.fieldLink RX8 51 "SameAgainModel" "wishFolder" "[I" ∈ wsX8_rank := by decide +kernel
theorem lk_X8_rank_39 : Cond.fieldLink RX8 39 "SameAgainModel" "written" "[I" ∈ wsX8_rank := by decide +kernel
theorem lk_X8_rank_26 : Cond.fieldLink RX8 26 "SameAgainModel" "body" "[I" ∈ wsX8_rank := by decide +kernel
theorem lk_X8_rank_23 : Cond.fieldLink RX8 23 "SameAgainModel" "name" "[I" ∈ wsX8_rank := by decide +kernel
theorem lk_X8_rank_29 : Cond.fieldLink RX8 29 "SameAgainModel" "isHeld" "[Z" ∈ wsX8_rank := by decide +kernel
set_option maxHeartbeats 4000000 in
set_option maxRecDepth 100000 in
theorem c_X8_rank (l : Launch) (G : Gt) (hD : Dj G) (post : Int32 → Mem → Prop) (a1 a2 : Int32) (μ : Mem) : MI G l yX8_rank wsX8_rank rm_X8_rank 0 0 [.ref (ad G 31), .int a1, .int a2] μ (w_X8_rank post a1 a2 μ) post := by
  refine mI_of (cc := cX8_rank) (maxL := 3) (ty := .int) (lv0 := [(0, .ref (ad G 31)), (1, .int a1), (2, .int a2)]) hD (by decide) rfl (Nat.le_of_ble_eq_true rfl) rfl ?_
  intro X Q hl C hQ h
  subst hl
  replace C : Cx G X cX8_rank RX8 wsX8_rank 3 rm_X8_rank := C
  unfold w_X8_rank at h
  refine j_aload_n C 0 dX8_rank_0 rfl ?_
  refine j_getR C 31 20 sh_31 (by decide) cl_X8 (by decide) rfl in_X8_rank_X8 lk_X8_rank_48 rfl dX8_rank_1 ?_
  refine j_iload_n C 1 dX8_rank_4 rfl ?_
  have b1 := h.1
  replace h := h.2
  refine j_iald C 43 sh_43 (by decide) b1 dX8_rank_5 ?_
  refine j_case (x := μ 43 (ix a1)) (v := 0) (fun c6 => ?_) (fun c6 => ?_)
  · replace h := h.1 c6
    refine j_tsIn C 40 dX8_rank_6 c6 (by decide) (by decide) rfl (by decide) ?_
    refine j_aload_n C 0 dX8_rank_40 rfl ?_
    refine j_iload_n C 2 dX8_rank_41 rfl ?_
    refine j_aload_n C 0 dX8_rank_42 rfl ?_
    refine j_getR C 31 21 sh_31 (by decide) cl_X8 (by decide) rfl in_X8_rank_X8 lk_X8_rank_51 rfl dX8_rank_43 ?_
    refine j_iload_n C 1 dX8_rank_46 rfl ?_
    have b2 := h.1
    replace h := h.2
    refine j_iald C 44 sh_44 (by decide) b2 dX8_rank_47 ?_
    refine j_cVI (n := 2) (rest := []) C 31 (c_X8_isBelow (xl X) G C.2.2.1 _ a2 (μ 44 (ix a1)) μ) h gX8_rank_X8_isBelow rfl ⟨rfl, rfl⟩ (by decide +kernel) ⟨by decide, by decide⟩ ⟨by decide, by decide⟩ sh_31 (by decide) cl_X8 rfl rfl (Nat.le_of_ble_eq_true rfl) dX8_rank_48 rfl rfl (fun r4 μ3 h => ?_)
    refine j_if_eq C 58 dX8_rank_51 (by decide) (fun c5 => ?_) (fun c5 => ?_)
    · replace h := h.1 c5
      refine j_iconst (v := 1) C dX8_rank_58 (by decide) ?_
      exact j_iret C hQ (by decide) (by decide) h dX8_rank_59
    · replace h := h.2 c5
      refine j_iconst (v := 0) C dX8_rank_54 (by decide) ?_
      refine j_goto C 59 dX8_rank_55 (by decide) ?_
      exact j_iret C hQ (by decide) (by decide) h dX8_rank_59
  · replace h := h.2 c6
    refine j_case (x := μ 43 (ix a1)) (v := 1) (fun c9 => ?_) (fun c9 => ?_)
    · replace h := h.1 c9
      refine j_tsIn C 60 dX8_rank_6 c9 (by decide) (by decide) rfl (by decide) ?_
      refine j_aload_n C 0 dX8_rank_60 rfl ?_
      refine j_getR C 31 17 sh_31 (by decide) cl_X8 (by decide) rfl in_X8_rank_X8 lk_X8_rank_39 rfl dX8_rank_61 ?_
      refine j_aload_n C 0 dX8_rank_64 rfl ?_
      refine j_getR C 31 13 sh_31 (by decide) cl_X8 (by decide) rfl in_X8_rank_X8 lk_X8_rank_26 rfl dX8_rank_65 ?_
      refine j_iload_n C 2 dX8_rank_68 rfl ?_
      have b7 := h.1
      replace h := h.2
      refine j_iald C 36 sh_36 (by decide) b7 dX8_rank_69 ?_
      have b8 := h.1
      replace h := h.2
      refine j_iald C 40 sh_40 (by decide) b8 dX8_rank_70 ?_
      exact j_iret C hQ (by decide) (by decide) h dX8_rank_71
    · replace h := h.2 c9
      refine j_case (x := μ 43 (ix a1)) (v := 2) (fun c12 => ?_) (fun c12 => ?_)
      · replace h := h.1 c12
        refine j_tsIn C 72 dX8_rank_6 c12 (by decide) (by decide) rfl (by decide) ?_
        refine j_aload_n C 0 dX8_rank_72 rfl ?_
        refine j_getR C 31 17 sh_31 (by decide) cl_X8 (by decide) rfl in_X8_rank_X8 lk_X8_rank_39 rfl dX8_rank_73 ?_
        refine j_aload_n C 0 dX8_rank_76 rfl ?_
        refine j_getR C 31 13 sh_31 (by decide) cl_X8 (by decide) rfl in_X8_rank_X8 lk_X8_rank_26 rfl dX8_rank_77 ?_
        refine j_iload_n C 2 dX8_rank_80 rfl ?_
        have b10 := h.1
        replace h := h.2
        refine j_iald C 36 sh_36 (by decide) b10 dX8_rank_81 ?_
        have b11 := h.1
        replace h := h.2
        refine j_iald C 40 sh_40 (by decide) b11 dX8_rank_82 ?_
        refine j_ineg C dX8_rank_83 ?_
        exact j_iret C hQ (by decide) (by decide) h dX8_rank_84
      · replace h := h.2 c12
        refine j_case (x := μ 43 (ix a1)) (v := 3) (fun c15 => ?_) (fun c15 => ?_)
        · replace h := h.1 c15
          refine j_tsIn C 85 dX8_rank_6 c15 (by decide) (by decide) rfl (by decide) ?_
          refine j_aload_n C 0 dX8_rank_85 rfl ?_
          refine j_iload_n C 2 dX8_rank_86 rfl ?_
          refine j_cVI (n := 1) (rest := []) C 31 (c_X8_above (xl X) G C.2.2.1 _ a2 μ) h gX8_rank_X8_above rfl ⟨rfl, rfl⟩ (by decide +kernel) ⟨by decide, by decide⟩ ⟨by decide, by decide⟩ sh_31 (by decide) cl_X8 rfl rfl (Nat.le_of_ble_eq_true rfl) dX8_rank_87 rfl rfl (fun r14 μ13 h => ?_)
          exact j_iret C hQ (by decide) (by decide) h dX8_rank_90
        · replace h := h.2 c15
          refine j_case (x := μ 43 (ix a1)) (v := 4) (fun c17 => ?_) (fun c17 => ?_)
          · replace h := h.1 c17
            refine j_tsIn C 91 dX8_rank_6 c17 (by decide) (by decide) rfl (by decide) ?_
            refine j_aload_n C 0 dX8_rank_91 rfl ?_
            refine j_getR C 31 12 sh_31 (by decide) cl_X8 (by decide) rfl in_X8_rank_X8 lk_X8_rank_23 rfl dX8_rank_92 ?_
            refine j_iload_n C 2 dX8_rank_95 rfl ?_
            have b16 := h.1
            replace h := h.2
            refine j_iald C 35 sh_35 (by decide) b16 dX8_rank_96 ?_
            exact j_iret C hQ (by decide) (by decide) h dX8_rank_97
          · replace h := h.2 c17
            refine j_tsOut C 98 dX8_rank_6 ?_ (by decide) ?_
            · have z0 := lv_neT (a := 0) c6 (by decide); have z1 := lv_neT (a := 1) c9 (by decide); have z2 := lv_neT (a := 2) c12 (by decide); have z3 := lv_neT (a := 3) c15 (by decide); have z4 := lv_neT (a := 4) c17 (by decide); omega
            · refine j_aload_n C 0 dX8_rank_98 rfl ?_
              refine j_getR C 31 14 sh_31 (by decide) cl_X8 (by decide) rfl in_X8_rank_X8 lk_X8_rank_29 rfl dX8_rank_99 ?_
              refine j_iload_n C 2 dX8_rank_102 rfl ?_
              have b18 := h.1
              replace h := h.2
              refine j_zald C 37 sh_37 (by decide) b18 dX8_rank_103 ?_
              refine j_if_eq C 111 dX8_rank_104 (by decide) (fun c19 => ?_) (fun c19 => ?_)
              · replace h := h.1 c19
                refine j_iconst (v := 1) C dX8_rank_111 (by decide) ?_
                exact j_iret C hQ (by decide) (by decide) h dX8_rank_112
              · replace h := h.2 c19
                refine j_iconst (v := 0) C dX8_rank_107 (by decide) ?_
                refine j_goto C 112 dX8_rank_108 (by decide) ?_
                exact j_iret C hQ (by decide) (by decide) h dX8_rank_112
