/-! X8_above -/
abbrev rm_X8_above : Room := { frames := 0, cells := 0, slots := 0, locals := 0 }
theorem in_X8_above_X8 : ∀ w ∈ wsX80, w ∈ wsX8_above := by decide +kernel
theorem lk_X8_above_20 : Cond.fieldLink RX8 20 "SameAgainModel" "in" "[I" ∈ wsX8_above := by decide +kernel
theorem lk_X8_above_13 : Cond.fieldLink RX8 13 "SameAgainModel" "folderIn" "[I" ∈ wsX8_above := by decide +kernel
set_option maxHeartbeats 4000000 in
set_option maxRecDepth 100000 in
theorem w_X8_above_b9_j {G : Gt} {X : Cxt} {Q : State → Prop} (C : Cx G X cX8_above RX8 wsX8_above 4 rm_X8_above) {post : Int32 → Mem → Prop} (hQ : RetI G X Q post .int 0 0) : ∀ (n : Nat) (v2 v3 : Int32) (μ : Mem), itr (fun _ _ _ => False) (w_X8_above_b9 post) n v2 v3 μ → J G X Q 4 0 0 9 [(0, .ref (ad G 31)), (2, .int v2), (3, .int v3)] [] μ := by
  intro n
  induction n with
  | zero => intro v2 v3 μ h; exact h.elim
  | succ n ih =>
    intro v2 v3 μ h
    replace h : w_X8_above_b9 post (itr (fun _ _ _ => False) (w_X8_above_b9 post) n) v2 v3 μ := h
    generalize itr (fun _ _ _ => False) (w_X8_above_b9 post) n = k9 at ih h
    have hk9 := ih
    unfold w_X8_above_b9 at h
    refine j_iload_n C 2 dX8_above_9 rfl ?_
    refine j_iconst (v := -1) C dX8_above_10 (by decide) ?_
    refine j_icmp_eq C 27 dX8_above_11 (by decide) (fun c3 => ?_) (fun c3 => ?_)
    · replace h := h.1 c3
      refine j_iload_n C 1 dX8_above_27 rfl ?_
      exact j_iret C hQ (by decide) (by decide) h dX8_above_28
    · replace h := h.2 c3
      refine j_iinc (v := v2 + (1 : Int32)) (lv' := [(0, .ref (ad G 31)), (2, .int (v2 + (1 : Int32))), (3, .int v3)]) C 1 dX8_above_14 rfl rfl (by decide) rfl rfl ?_
      refine j_aload_n C 0 dX8_above_17 rfl ?_
      refine j_getR C 31 9 sh_31 (by decide) cl_X8 (by decide) rfl in_X8_above_X8 lk_X8_above_13 rfl dX8_above_18 ?_
      refine j_iload_n C 2 dX8_above_21 rfl ?_
      have b2 := h.1
      replace h := h.2
      refine j_iald C 32 sh_32 (by decide) b2 dX8_above_22 ?_
      refine j_istore_n (lv' := [(0, .ref (ad G 31)), (2, .int (v2 + (1 : Int32))), (3, .int (μ 32 (ix v3)))]) C dX8_above_23 (by decide) rfl rfl ?_
      refine j_goto C 9 dX8_above_24 (by decide) ?_
      exact hk9 _ _ _ h
set_option maxHeartbeats 4000000 in
set_option maxRecDepth 100000 in
theorem c_X8_above (l : Launch) (G : Gt) (hD : Dj G) (post : Int32 → Mem → Prop) (a1 : Int32) (μ : Mem) : MI G l yX8_above wsX8_above rm_X8_above 0 0 [.ref (ad G 31), .int a1] μ (w_X8_above post a1 μ) post := by
  refine mI_of (cc := cX8_above) (maxL := 4) (ty := .int) (lv0 := [(0, .ref (ad G 31)), (1, .int a1)]) hD (by decide) rfl (Nat.le_of_ble_eq_true rfl) rfl ?_
  intro X Q hl C hQ h
  subst hl
  replace C : Cx G X cX8_above RX8 wsX8_above 4 rm_X8_above := C
  unfold w_X8_above at h
  refine j_iconst (v := 0) C dX8_above_0 (by decide) ?_
  refine j_istore_n (lv' := [(0, .ref (ad G 31)), (1, .int a1), (2, .int (0 : Int32))]) C dX8_above_1 (by decide) rfl rfl ?_
  refine j_aload_n C 0 dX8_above_2 rfl ?_
  refine j_getR C 31 11 sh_31 (by decide) cl_X8 (by decide) rfl in_X8_above_X8 lk_X8_above_20 rfl dX8_above_3 ?_
  refine j_iload_n C 1 dX8_above_6 rfl ?_
  have b1 := h.1
  replace h := h.2
  refine j_iald C 34 sh_34 (by decide) b1 dX8_above_7 ?_
  refine j_istore_n (lv' := [(0, .ref (ad G 31)), (1, .int a1), (2, .int (0 : Int32)), (3, .int (μ 34 (ix a1)))]) C dX8_above_8 (by decide) rfl rfl ?_
  refine j_forget [0, 2, 3] rfl ?_
  obtain ⟨n9, h⟩ := h
  exact w_X8_above_b9_j C hQ n9 _ _ _ h
/-! X8_right -/
abbrev rm_X8_right : Room := { frames := 0, cells := 0, slots := 0, locals := 0 }
theorem in_X8_right_X8 : ∀ w ∈ wsX80, w ∈ wsX8_right := by decide +kernel
theorem lk_X8_right_87 : Cond.fieldLink RX8 87 "SameAgainModel" "thrown" "I" ∈ wsX8_right := by decide +kernel
set_option maxHeartbeats 4000000 in
set_option maxRecDepth 100000 in
theorem w_X8_right_b16_j {G : Gt} {X : Cxt} {Q : State → Prop} (C : Cx G X cX8_right RX8 wsX8_right 3 rm_X8_right) {post : Int32 → Mem → Prop} (hQ : RetI G X Q post .boolean 0 0) {μ : Mem} (h : w_X8_right_b16 post μ) : J G X Q 3 0 0 16 [(0, .ref (ad G 31))] [] μ := by
  unfold w_X8_right_b16 at h
  refine j_aload_n C 0 dX8_right_16 rfl ?_
  refine j_getI C 31 0 sh_31 (by decide) cl_X8 (by decide) rfl in_X8_right_X8 lk_X8_right_87 rfl dX8_right_17 ?_
  refine j_if_ne C 27 dX8_right_20 (by decide) (fun c1 => ?_) (fun c1 => ?_)
  · replace h := h.1 c1
    refine j_iconst (v := 0) C dX8_right_27 (by decide) ?_
    exact j_zret C hQ (by decide) (by decide) rfl h dX8_right_28
  · replace h := h.2 c1
    refine j_iconst (v := 1) C dX8_right_23 (by decide) ?_
    refine j_goto C 28 dX8_right_24 (by decide) ?_
    exact j_zret C hQ (by decide) (by decide) rfl h dX8_right_28
set_option maxHeartbeats 4000000 in
set_option maxRecDepth 100000 in
theorem c_X8_right (l : Launch) (G : Gt) (hD : Dj G) (post : Int32 → Mem → Prop) (a1 a2 : Int32) (μ : Mem) : MI G l yX8_right wsX8_right rm_X8_right 0 0 [.ref (ad G 31), .int a1, .int a2] μ (w_X8_right post a1 a2 μ) post := by
  refine mI_of (cc := cX8_right) (maxL := 3) (ty := .boolean) (lv0 := [(0, .ref (ad G 31)), (1, .int a1), (2, .int a2)]) hD (by decide) rfl (Nat.le_of_ble_eq_true rfl) rfl ?_
  intro X Q hl C hQ h
  subst hl
  replace C : Cx G X cX8_right RX8 wsX8_right 3 rm_X8_right := C
  unfold w_X8_right at h
  refine j_aload_n C 0 dX8_right_0 rfl ?_
  refine j_getI C 31 0 sh_31 (by decide) cl_X8 (by decide) rfl in_X8_right_X8 lk_X8_right_87 rfl dX8_right_1 ?_
  refine j_if_ne C 16 dX8_right_4 (by decide) (fun c5 => ?_) (fun c5 => ?_)
  · replace h := h.1 c5
    refine j_forget [0] rfl ?_
    exact w_X8_right_b16_j C hQ h
  · replace h := h.2 c5
    refine j_iload_n C 1 dX8_right_7 rfl ?_
    refine j_if_ne C 16 dX8_right_8 (by decide) (fun c4 => ?_) (fun c4 => ?_)
    · replace h := h.1 c4
      refine j_forget [0] rfl ?_
      exact w_X8_right_b16_j C hQ h
    · replace h := h.2 c4
      refine j_aload_n C 0 dX8_right_11 rfl ?_
      refine j_iload_n C 2 dX8_right_12 rfl ?_
      obtain ⟨μ2, e3⟩ : ∃ m, m = wr μ 31 0 a2 := ⟨_, rfl⟩
      replace h := h μ2 e3
      refine j_put C 31 0 sh_31 (by decide) cl_X8 (by decide) rfl in_X8_right_X8 lk_X8_right_87 rfl tyX8_ok nmX8 rfl rfl dX8_right_13 e3 ?_
      refine j_forget [0] rfl ?_
      exact w_X8_right_b16_j C hQ h
/-! X8_isFile -/
abbrev rm_X8_isFile : Room := { frames := 1, cells := 0, slots := 0, locals := 22 }
theorem in_X8_isFile_X8 : ∀ w ∈ wsX80, w ∈ wsX8_isFile := by decide +kernel
theorem lk_X8_isFile_87 : Cond.fieldLink RX8 87 "SameAgainModel" "thrown" "I" ∈ wsX8_isFile := by decide +kernel
theorem lk_X8_isFile_94 : Cond.fieldLink RX8 94 "SameAgainModel" "files" "I" ∈ wsX8_isFile := by decide +kernel
theorem lk_X8_isFile_20 : Cond.fieldLink RX8 20 "SameAgainModel" "in" "[I" ∈ wsX8_isFile := by decide +kernel
set_option maxHeartbeats 4000000 in
set_option maxRecDepth 100000 in
theorem w_X8_isFile_b33_j {G : Gt} {X : Cxt} {Q : State → Prop} (C : Cx G X cX8_isFile RX8 wsX8_isFile 2 rm_X8_isFile) {post : Int32 → Mem → Prop} (hQ : RetI G X Q post .boolean 0 0) {s0 : Int32} {μ : Mem} (h : w_X8_isFile_b33 post s0 μ) : J G X Q 2 0 0 33 [] [.int s0, .ref (ad G 31)] μ := by
  unfold w_X8_isFile_b33 at h
  refine j_iconst (v := 1) C dX8_isFile_33 (by decide) ?_
  refine j_cVI (n := 2) (rest := []) C 31 (c_X8_right (xl X) G C.2.2.1 _ s0 (1 : Int32) μ) h gX8_isFile_X8_right rfl ⟨rfl, rfl⟩ (by decide +kernel) ⟨by decide, by decide⟩ ⟨by decide, by decide⟩ sh_31 (by decide) cl_X8 rfl rfl (Nat.le_of_ble_eq_true rfl) dX8_isFile_34 rfl rfl (fun r4 μ3 h => ?_)
  exact j_zret C hQ (by decide) (by decide) h.1 h.2 dX8_isFile_37
set_option maxHeartbeats 4000000 in
set_option maxRecDepth 100000 in
theorem w_X8_isFile_b32_j {G : Gt} {X : Cxt} {Q : State → Prop} (C : Cx G X cX8_isFile RX8 wsX8_isFile 2 rm_X8_isFile) {post : Int32 → Mem → Prop} (hQ : RetI G X Q post .boolean 0 0) {μ : Mem} (h : w_X8_isFile_b32 post μ) : J G X Q 2 0 0 32 [] [.ref (ad G 31)] μ := by
  unfold w_X8_isFile_b32 at h
  refine j_iconst (v := 0) C dX8_isFile_32 (by decide) ?_
  exact w_X8_isFile_b33_j C hQ h
set_option maxHeartbeats 4000000 in
set_option maxRecDepth 100000 in
theorem c_X8_isFile (l : Launch) (G : Gt) (hD : Dj G) (post : Int32 → Mem → Prop) (a1 : Int32) (μ : Mem) : MI G l yX8_isFile wsX8_isFile rm_X8_isFile 0 0 [.ref (ad G 31), .int a1] μ (w_X8_isFile post a1 μ) post := by
  refine mI_of (cc := cX8_isFile) (maxL := 2) (ty := .boolean) (lv0 := [(0, .ref (ad G 31)), (1, .int a1)]) hD (by decide) rfl (Nat.le_of_ble_eq_true rfl) rfl ?_
  intro X Q hl C hQ h
  subst hl
  replace C : Cx G X cX8_isFile RX8 wsX8_isFile 2 rm_X8_isFile := C
  unfold w_X8_isFile at h
  refine j_aload_n C 0 dX8_isFile_0 rfl ?_
  refine j_iconst (v := 0) C dX8_isFile_1 (by decide) ?_
  obtain ⟨μ1, e2⟩ : ∃ m, m = wr μ 31 0 (0 : Int32) := ⟨_, rfl⟩
  replace h := h μ1 e2
  refine j_put C 31 0 sh_31 (by decide) cl_X8 (by decide) rfl in_X8_isFile_X8 lk_X8_isFile_87 rfl tyX8_ok nmX8 rfl rfl dX8_isFile_2 e2 ?_
  refine j_aload_n C 0 dX8_isFile_5 rfl ?_
  refine j_iload_n C 1 dX8_isFile_6 rfl ?_
  refine j_if_lt C 32 dX8_isFile_7 (by decide) (fun c8 => ?_) (fun c8 => ?_)
  · replace h := h.1 c8
    refine j_forget [] rfl ?_
    exact w_X8_isFile_b32_j C hQ h
  · replace h := h.2 c8
    refine j_iload_n C 1 dX8_isFile_10 rfl ?_
    refine j_aload_n C 0 dX8_isFile_11 rfl ?_
    refine j_getI C 31 2 sh_31 (by decide) cl_X8 (by decide) rfl in_X8_isFile_X8 lk_X8_isFile_94 rfl dX8_isFile_12 ?_
    refine j_icmp_ge C 32 dX8_isFile_15 (by decide) (fun c7 => ?_) (fun c7 => ?_)
    · replace h := h.1 c7
      refine j_forget [] rfl ?_
      exact w_X8_isFile_b32_j C hQ h
    · replace h := h.2 c7
      refine j_aload_n C 0 dX8_isFile_18 rfl ?_
      refine j_getR C 31 11 sh_31 (by decide) cl_X8 (by decide) rfl in_X8_isFile_X8 lk_X8_isFile_20 rfl dX8_isFile_19 ?_
      refine j_iload_n C 1 dX8_isFile_22 rfl ?_
      have b5 := h.1
      replace h := h.2
      refine j_iald C 34 sh_34 (by decide) b5 dX8_isFile_23 ?_
      refine j_iconst (v := -1) C dX8_isFile_24 (by decide) ?_
      refine j_icmp_eq C 32 dX8_isFile_25 (by decide) (fun c6 => ?_) (fun c6 => ?_)
      · replace h := h.1 c6
        refine j_forget [] rfl ?_
        exact w_X8_isFile_b32_j C hQ h
      · replace h := h.2 c6
        refine j_iconst (v := 1) C dX8_isFile_28 (by decide) ?_
        refine j_goto C 33 dX8_isFile_29 (by decide) ?_
        refine j_forget [] rfl ?_
        exact w_X8_isFile_b33_j C hQ h
/-! X8_names -/
abbrev rm_X8_names : Room := { frames := 0, cells := 0, slots := 0, locals := 0 }
theorem in_X8_names_X8 : ∀ w ∈ wsX80, w ∈ wsX8_names := by decide +kernel
theorem lk_X8_names_94 : Cond.fieldLink RX8 94 "SameAgainModel" "files" "I" ∈ wsX8_names := by decide +kernel
theorem lk_X8_names_20 : Cond.fieldLink RX8 20 "SameAgainModel" "in" "[I" ∈ wsX8_names := by decide +kernel
theorem lk_X8_names_26 : Cond.fieldLink RX8 26 "SameAgainModel" "body" "[I" ∈ wsX8_names := by decide +kernel
set_option maxHeartbeats 4000000 in
set_option maxRecDepth 100000 in
theorem w_X8_names_b4_j {G : Gt} {X : Cxt} {Q : State → Prop} (C : Cx G X cX8_names RX8 wsX8_names 4 rm_X8_names) {post : Int32 → Mem → Prop} (hQ : RetI G X Q post .int 0 0) : ∀ (n : Nat) (v1 v2 v3 : Int32) (μ : Mem), itr (fun _ _ _ _ => False) (w_X8_names_b4 post) n v1 v2 v3 μ → J G X Q 4 0 0 4 [(0, .ref (ad G 31)), (1, .int v1), (2, .int v2), (3, .int v3)] [] μ := by
  intro n
  induction n with
  | zero => intro v1 v2 v3 μ h; exact h.elim
  | succ n ih =>
    intro v1 v2 v3 μ h
    replace h : w_X8_names_b4 post (itr (fun _ _ _ _ => False) (w_X8_names_b4 post) n) v1 v2 v3 μ := h
    generalize itr (fun _ _ _ _ => False) (w_X8_names_b4 post) n = k4 at ih h
    have hk4 := ih
    unfold w_X8_names_b4 at h
    refine j_iload_n C 3 dX8_names_4 rfl ?_
    refine j_aload_n C 0 dX8_names_5 rfl ?_
    refine j_getI C 31 2 sh_31 (by decide) cl_X8 (by decide) rfl in_X8_names_X8 lk_X8_names_94 rfl dX8_names_6 ?_
    refine j_icmp_ge C 41 dX8_names_9 (by decide) (fun c5 => ?_) (fun c5 => ?_)
    · replace h := h.1 c5
      refine j_iload_n C 2 dX8_names_41 rfl ?_
      exact j_iret C hQ (by decide) (by decide) h dX8_names_42
    · replace h := h.2 c5
      refine j_aload_n C 0 dX8_names_12 rfl ?_
      refine j_getR C 31 11 sh_31 (by decide) cl_X8 (by decide) rfl in_X8_names_X8 lk_X8_names_20 rfl dX8_names_13 ?_
      refine j_iload_n C 3 dX8_names_16 rfl ?_
      have b1 := h.1
      replace h := h.2
      refine j_iald C 34 sh_34 (by decide) b1 dX8_names_17 ?_
      refine j_iconst (v := -1) C dX8_names_18 (by decide) ?_
      refine j_icmp_eq C 35 dX8_names_19 (by decide) (fun c4 => ?_) (fun c4 => ?_)
      · replace h := h.1 c4
        refine j_iinc (v := v3 + (1 : Int32)) (lv' := [(0, .ref (ad G 31)), (1, .int v1), (2, .int v2), (3, .int (v3 + (1 : Int32)))]) C 3 dX8_names_35 rfl rfl (by decide) rfl rfl ?_
        refine j_goto C 4 dX8_names_38 (by decide) ?_
        exact hk4 _ _ _ _ h
      · replace h := h.2 c4
        refine j_aload_n C 0 dX8_names_22 rfl ?_
        refine j_getR C 31 13 sh_31 (by decide) cl_X8 (by decide) rfl in_X8_names_X8 lk_X8_names_26 rfl dX8_names_23 ?_
        refine j_iload_n C 3 dX8_names_26 rfl ?_
        have b2 := h.1
        replace h := h.2
        refine j_iald C 36 sh_36 (by decide) b2 dX8_names_27 ?_
        refine j_iload_n C 1 dX8_names_28 rfl ?_
        refine j_icmp_ne C 35 dX8_names_29 (by decide) (fun c3 => ?_) (fun c3 => ?_)
        · replace h := h.1 c3
          refine j_iinc (v := v3 + (1 : Int32)) (lv' := [(0, .ref (ad G 31)), (1, .int v1), (2, .int v2), (3, .int (v3 + (1 : Int32)))]) C 3 dX8_names_35 rfl rfl (by decide) rfl rfl ?_
          refine j_goto C 4 dX8_names_38 (by decide) ?_
          exact hk4 _ _ _ _ h
        · replace h := h.2 c3
          refine j_iinc (v := v2 + (1 : Int32)) (lv' := [(0, .ref (ad G 31)), (1, .int v1), (2, .int (v2 + (1 : Int32))), (3, .int v3)]) C 2 dX8_names_32 rfl rfl (by decide) rfl rfl ?_
          refine j_iinc (v := v3 + (1 : Int32)) (lv' := [(0, .ref (ad G 31)), (1, .int v1), (2, .int (v2 + (1 : Int32))), (3, .int (v3 + (1 : Int32)))]) C 3 dX8_names_35 rfl rfl (by decide) rfl rfl ?_
          refine j_goto C 4 dX8_names_38 (by decide) ?_
          exact hk4 _ _ _ _ h
set_option maxHeartbeats 4000000 in
set_option maxRecDepth 100000 in
theorem c_X8_names (l : Launch) (G : Gt) (hD : Dj G) (post : Int32 → Mem → Prop) (a1 : Int32) (μ : Mem) : MI G l yX8_names wsX8_names rm_X8_names 0 0 [.ref (ad G 31), .int a1] μ (w_X8_names post a1 μ) post := by
  refine mI_of (cc := cX8_names) (maxL := 4) (ty := .int) (lv0 := [(0, .ref (ad G 31)), (1, .int a1)]) hD (by decide) rfl (Nat.le_of_ble_eq_true rfl) rfl ?_
  intro X Q hl C hQ h
  subst hl
  replace C : Cx G X cX8_names RX8 wsX8_names 4 rm_X8_names := C
  unfold w_X8_names at h
  refine j_iconst (v := 0) C dX8_names_0 (by decide) ?_
  refine j_istore_n (lv' := [(0, .ref (ad G 31)), (1, .int a1), (2, .int (0 : Int32))]) C dX8_names_1 (by decide) rfl rfl ?_
  refine j_iconst (v := 0) C dX8_names_2 (by decide) ?_
  refine j_istore_n (lv' := [(0, .ref (ad G 31)), (1, .int a1), (2, .int (0 : Int32)), (3, .int (0 : Int32))]) C dX8_names_3 (by decide) rfl rfl ?_
  obtain ⟨n9, h⟩ := h
  exact w_X8_names_b4_j C hQ n9 _ _ _ _ h
/-! X8_about -/
abbrev rm_X8_about : Room := { frames := 2, cells := 0, slots := 0, locals := 43 }
theorem in_X8_about_X8 : ∀ w ∈ wsX80, w ∈ wsX8_about := by decide +kernel
theorem lk_X8_about_26 : Cond.fieldLink RX8 26 "SameAgainModel" "body" "[I" ∈ wsX8_about := by decide +kernel
theorem lk_X8_about_20 : Cond.fieldLink RX8 20 "SameAgainModel" "in" "[I" ∈ wsX8_about := by decide +kernel
theorem lk_X8_about_23 : Cond.fieldLink RX8 23 "SameAgainModel" "name" "[I" ∈ wsX8_about := by decide +kernel
theorem lk_X8_about_33 : Cond.fieldLink RX8 33 "SameAgainModel" "size" "[I" ∈ wsX8_about := by decide +kernel
theorem lk_X8_about_36 : Cond.fieldLink RX8 36 "SameAgainModel" "owner" "[I" ∈ wsX8_about := by decide +kernel
theorem lk_X8_about_39 : Cond.fieldLink RX8 39 "SameAgainModel" "written" "[I" ∈ wsX8_about := by decide +kernel
theorem lk_X8_about_29 : Cond.fieldLink RX8 29 "SameAgainModel" "isHeld" "[Z" ∈ wsX8_about := by decide +kernel
set_option maxHeartbeats 4000000 in
set_option maxRecDepth 100000 in
theorem w_X8_about_b24_j {G : Gt} {X : Cxt} {Q : State → Prop} (C : Cx G X cX8_about RX8 wsX8_about 4 rm_X8_about) {post : Int32 → Mem → Prop} (hQ : RetI G X Q post .int 0 0) {v1 v2 s0 : Int32} {μ : Mem} (h : w_X8_about_b24 post v1 v2 s0 μ) : J G X Q 4 0 0 24 [(0, .ref (ad G 31)), (1, .int v1), (2, .int v2)] [.int s0, .ref (ad G 31)] μ := by
  unfold w_X8_about_b24 at h
  refine j_iconst (v := 1) C dX8_about_24 (by decide) ?_
  refine j_cVI (n := 2) (rest := []) C 31 (c_X8_right (xl X) G C.2.2.1 _ s0 (1 : Int32) μ) h gX8_about_X8_right rfl ⟨rfl, rfl⟩ (by decide +kernel) ⟨by decide, by decide⟩ ⟨by decide, by decide⟩ sh_31 (by decide) cl_X8 rfl rfl (Nat.le_of_ble_eq_true rfl) dX8_about_25 rfl rfl (fun r4 μ3 h => ?_)
  refine j_if_ne C 33 dX8_about_28 (by decide) (fun c25 => ?_) (fun c25 => ?_)
  · replace h := h.1 c25
    refine j_aload_n C 0 dX8_about_33 rfl ?_
    refine j_getR C 31 13 sh_31 (by decide) cl_X8 (by decide) rfl in_X8_about_X8 lk_X8_about_26 rfl dX8_about_34 ?_
    refine j_iload_n C 1 dX8_about_37 rfl ?_
    have b5 := h.1
    replace h := h.2
    refine j_iald C 36 sh_36 (by decide) b5 dX8_about_38 ?_
    refine j_istore_n (lv' := [(0, .ref (ad G 31)), (1, .int v1), (2, .int v2), (3, .int (μ3 36 (ix v1)))]) C dX8_about_39 (by decide) rfl rfl ?_
    refine j_iload_n C 2 dX8_about_40 rfl ?_
    refine j_case (x := v2) (v := 0) (fun c7 => ?_) (fun c7 => ?_)
    · replace h := h.1 c7
      refine j_tsIn C 88 dX8_about_41 c7 (by decide) (by decide) rfl (by decide) ?_
      refine j_aload_n C 0 dX8_about_88 rfl ?_
      refine j_getR C 31 11 sh_31 (by decide) cl_X8 (by decide) rfl in_X8_about_X8 lk_X8_about_20 rfl dX8_about_89 ?_
      refine j_iload_n C 1 dX8_about_92 rfl ?_
      have b6 := h.1
      replace h := h.2
      refine j_iald C 34 sh_34 (by decide) b6 dX8_about_93 ?_
      exact j_iret C hQ (by decide) (by decide) h dX8_about_94
    · replace h := h.2 c7
      refine j_case (x := v2) (v := 1) (fun c9 => ?_) (fun c9 => ?_)
      · replace h := h.1 c9
        refine j_tsIn C 95 dX8_about_41 c9 (by decide) (by decide) rfl (by decide) ?_
        refine j_aload_n C 0 dX8_about_95 rfl ?_
        refine j_getR C 31 12 sh_31 (by decide) cl_X8 (by decide) rfl in_X8_about_X8 lk_X8_about_23 rfl dX8_about_96 ?_
        refine j_iload_n C 1 dX8_about_99 rfl ?_
        have b8 := h.1
        replace h := h.2
        refine j_iald C 35 sh_35 (by decide) b8 dX8_about_100 ?_
        exact j_iret C hQ (by decide) (by decide) h dX8_about_101
      · replace h := h.2 c9
        refine j_case (x := v2) (v := 2) (fun c10 => ?_) (fun c10 => ?_)
        · replace h := h.1 c10
          refine j_tsIn C 102 dX8_about_41 c10 (by decide) (by decide) rfl (by decide) ?_
          refine j_iload_n C 3 dX8_about_102 rfl ?_
          exact j_iret C hQ (by decide) (by decide) h dX8_about_103
        · replace h := h.2 c10
          refine j_case (x := v2) (v := 3) (fun c12 => ?_) (fun c12 => ?_)
          · replace h := h.1 c12
            refine j_tsIn C 104 dX8_about_41 c12 (by decide) (by decide) rfl (by decide) ?_
            refine j_aload_n C 0 dX8_about_104 rfl ?_
            refine j_getR C 31 15 sh_31 (by decide) cl_X8 (by decide) rfl in_X8_about_X8 lk_X8_about_33 rfl dX8_about_105 ?_
            refine j_iload_n C 3 dX8_about_108 rfl ?_
            have b11 := h.1
            replace h := h.2
            refine j_iald C 38 sh_38 (by decide) b11 dX8_about_109 ?_
            exact j_iret C hQ (by decide) (by decide) h dX8_about_110
          · replace h := h.2 c12
            refine j_case (x := v2) (v := 4) (fun c14 => ?_) (fun c14 => ?_)
            · replace h := h.1 c14
              refine j_tsIn C 111 dX8_about_41 c14 (by decide) (by decide) rfl (by decide) ?_
              refine j_aload_n C 0 dX8_about_111 rfl ?_
              refine j_getR C 31 16 sh_31 (by decide) cl_X8 (by decide) rfl in_X8_about_X8 lk_X8_about_36 rfl dX8_about_112 ?_
              refine j_iload_n C 3 dX8_about_115 rfl ?_
              have b13 := h.1
              replace h := h.2
              refine j_iald C 39 sh_39 (by decide) b13 dX8_about_116 ?_
              exact j_iret C hQ (by decide) (by decide) h dX8_about_117
            · replace h := h.2 c14
              refine j_case (x := v2) (v := 5) (fun c16 => ?_) (fun c16 => ?_)
              · replace h := h.1 c16
                refine j_tsIn C 118 dX8_about_41 c16 (by decide) (by decide) rfl (by decide) ?_
                refine j_aload_n C 0 dX8_about_118 rfl ?_
                refine j_getR C 31 17 sh_31 (by decide) cl_X8 (by decide) rfl in_X8_about_X8 lk_X8_about_39 rfl dX8_about_119 ?_
                refine j_iload_n C 3 dX8_about_122 rfl ?_
                have b15 := h.1
                replace h := h.2
                refine j_iald C 40 sh_40 (by decide) b15 dX8_about_123 ?_
                exact j_iret C hQ (by decide) (by decide) h dX8_about_124
              · replace h := h.2 c16
                refine j_case (x := v2) (v := 6) (fun c19 => ?_) (fun c19 => ?_)
                · replace h := h.1 c19
                  refine j_tsIn C 125 dX8_about_41 c19 (by decide) (by decide) rfl (by decide) ?_
                  refine j_aload_n C 0 dX8_about_125 rfl ?_
                  refine j_iload_n C 3 dX8_about_126 rfl ?_
                  refine j_cVI (n := 1) (rest := []) C 31 (c_X8_names (xl X) G C.2.2.1 _ (μ3 36 (ix v1)) μ3) h gX8_about_X8_names rfl ⟨rfl, rfl⟩ (by decide +kernel) ⟨by decide, by decide⟩ ⟨by decide, by decide⟩ sh_31 (by decide) cl_X8 rfl rfl (Nat.le_of_ble_eq_true rfl) dX8_about_127 rfl rfl (fun r18 μ17 h => ?_)
                  exact j_iret C hQ (by decide) (by decide) h dX8_about_130
                · replace h := h.2 c19
                  refine j_case (x := v2) (v := 7) (fun c22 => ?_) (fun c22 => ?_)
                  · replace h := h.1 c22
                    refine j_tsIn C 131 dX8_about_41 c22 (by decide) (by decide) rfl (by decide) ?_
                    refine j_aload_n C 0 dX8_about_131 rfl ?_
                    refine j_getR C 31 14 sh_31 (by decide) cl_X8 (by decide) rfl in_X8_about_X8 lk_X8_about_29 rfl dX8_about_132 ?_
                    refine j_iload_n C 1 dX8_about_135 rfl ?_
                    have b20 := h.1
                    replace h := h.2
                    refine j_zald C 37 sh_37 (by decide) b20 dX8_about_136 ?_
                    refine j_if_eq C 144 dX8_about_137 (by decide) (fun c21 => ?_) (fun c21 => ?_)
                    · replace h := h.1 c21
                      refine j_iconst (v := 0) C dX8_about_144 (by decide) ?_
                      exact j_iret C hQ (by decide) (by decide) h dX8_about_145
                    · replace h := h.2 c21
                      refine j_iconst (v := 1) C dX8_about_140 (by decide) ?_
                      refine j_goto C 145 dX8_about_141 (by decide) ?_
                      exact j_iret C hQ (by decide) (by decide) h dX8_about_145
                  · replace h := h.2 c22
                    refine j_tsOut C 146 dX8_about_41 ?_ (by decide) ?_
                    · have z0 := lv_neT (a := 0) c7 (by decide); have z1 := lv_neT (a := 1) c9 (by decide); have z2 := lv_neT (a := 2) c10 (by decide); have z3 := lv_neT (a := 3) c12 (by decide); have z4 := lv_neT (a := 4) c14 (by decide); have z5 := lv_neT (a := 5) c16 (by decide); have z6 := lv_neT (a := 6) c19 (by decide); have z7 := lv_neT (a := 7) c22 (by decide); omega
                    · refine j_aload_n C 0 dX8_about_146 rfl ?_
                      refine j_iload_n C 1 dX8_about_147 rfl ?_
                      refine j_cVI (n := 1) (rest := []) C 31 (c_X8_above (xl X) G C.2.2.1 _ v1 μ3) h gX8_about_X8_above rfl ⟨rfl, rfl⟩ (by decide +kernel) ⟨by decide, by decide⟩ ⟨by decide, by decide⟩ sh_31 (by decide) cl_X8 rfl rfl (Nat.le_of_ble_eq_true rfl) dX8_about_148 rfl rfl (fun r24 μ23 h => ?_)
                      exact j_iret C hQ (by decide) (by decide) h dX8_about_151
  · replace h := h.2 c25
    refine j_iconst (v := 0) C dX8_about_31 (by decide) ?_
    exact j_iret C hQ (by decide) (by decide) h dX8_about_32
set_option maxHeartbeats 4000000 in
set_option maxRecDepth 100000 in
theorem w_X8_about_b23_j {G : Gt} {X : Cxt} {Q : State → Prop} (C : Cx G X cX8_about RX8 wsX8_about 4 rm_X8_about) {post : Int32 → Mem → Prop} (hQ : RetI G X Q post .int 0 0) {v1 v2 : Int32} {μ : Mem} (h : w_X8_about_b23 post v1 v2 μ) : J G X Q 4 0 0 23 [(0, .ref (ad G 31)), (1, .int v1), (2, .int v2)] [.ref (ad G 31)] μ := by
  unfold w_X8_about_b23 at h
  refine j_iconst (v := 0) C dX8_about_23 (by decide) ?_
  exact w_X8_about_b24_j C hQ h
set_option maxHeartbeats 4000000 in
set_option maxRecDepth 100000 in
theorem c_X8_about (l : Launch) (G : Gt) (hD : Dj G) (post : Int32 → Mem → Prop) (a1 a2 : Int32) (μ : Mem) : MI G l yX8_about wsX8_about rm_X8_about 0 0 [.ref (ad G 31), .int a1, .int a2] μ (w_X8_about post a1 a2 μ) post := by
  refine mI_of (cc := cX8_about) (maxL := 4) (ty := .int) (lv0 := [(0, .ref (ad G 31)), (1, .int a1), (2, .int a2)]) hD (by decide) rfl (Nat.le_of_ble_eq_true rfl) rfl ?_
  intro X Q hl C hQ h
  subst hl
  replace C : Cx G X cX8_about RX8 wsX8_about 4 rm_X8_about := C
  unfold w_X8_about at h
  refine j_aload_n C 0 dX8_about_0 rfl ?_
  refine j_iload_n C 1 dX8_about_1 rfl ?_
  refine j_cVI (n := 1) (rest := []) C 31 (c_X8_isFile (xl X) G C.2.2.1 _ a1 μ) h gX8_about_X8_isFile rfl ⟨rfl, rfl⟩ (by decide +kernel) ⟨by decide, by decide⟩ ⟨by decide, by decide⟩ sh_31 (by decide) cl_X8 rfl rfl (Nat.le_of_ble_eq_true rfl) dX8_about_2 rfl rfl (fun r2 μ1 h => ?_)
  refine j_if_eq C 31 dX8_about_5 (by decide) (fun c28 => ?_) (fun c28 => ?_)
  · replace h := h.1 c28
    refine j_iconst (v := 0) C dX8_about_31 (by decide) ?_
    exact j_iret C hQ (by decide) (by decide) h dX8_about_32
  · replace h := h.2 c28
    refine j_aload_n C 0 dX8_about_8 rfl ?_
    refine j_iload_n C 2 dX8_about_9 rfl ?_
    refine j_if_lt C 23 dX8_about_10 (by decide) (fun c27 => ?_) (fun c27 => ?_)
    · replace h := h.1 c27
      exact w_X8_about_b23_j C hQ h
    · replace h := h.2 c27
      refine j_iload_n C 2 dX8_about_13 rfl ?_
      refine j_bipush (v := 8) C dX8_about_14 (by decide) ?_
      refine j_icmp_gt C 23 dX8_about_16 (by decide) (fun c26 => ?_) (fun c26 => ?_)
      · replace h := h.1 c26
        exact w_X8_about_b23_j C hQ h
      · replace h := h.2 c26
        refine j_iconst (v := 1) C dX8_about_19 (by decide) ?_
        refine j_goto C 24 dX8_about_20 (by decide) ?_
        exact w_X8_about_b24_j C hQ h
/-! X8_at -/
abbrev rm_X8_at : Room := { frames := 2, cells := 0, slots := 0, locals := 43 }
theorem in_X8_at_X8 : ∀ w ∈ wsX80, w ∈ wsX8_at := by decide +kernel
theorem lk_X8_at_45 : Cond.fieldLink RX8 45 "SameAgainModel" "bytes" "[I" ∈ wsX8_at := by decide +kernel
theorem lk_X8_at_26 : Cond.fieldLink RX8 26 "SameAgainModel" "body" "[I" ∈ wsX8_at := by decide +kernel
theorem lk_X8_at_33 : Cond.fieldLink RX8 33 "SameAgainModel" "size" "[I" ∈ wsX8_at := by decide +kernel
set_option maxHeartbeats 4000000 in
set_option maxRecDepth 100000 in
theorem w_X8_at_b33_j {G : Gt} {X : Cxt} {Q : State → Prop} (C : Cx G X cX8_at RX8 wsX8_at 3 rm_X8_at) {post : Int32 → Mem → Prop} (hQ : RetI G X Q post .int 0 0) {v1 v2 s0 : Int32} {μ : Mem} (h : w_X8_at_b33 post v1 v2 s0 μ) : J G X Q 3 0 0 33 [(0, .ref (ad G 31)), (1, .int v1), (2, .int v2)] [.int s0, .ref (ad G 31)] μ := by
  unfold w_X8_at_b33 at h
  refine j_iconst (v := 1) C dX8_at_33 (by decide) ?_
  refine j_cVI (n := 2) (rest := []) C 31 (c_X8_right (xl X) G C.2.2.1 _ s0 (1 : Int32) μ) h gX8_at_X8_right rfl ⟨rfl, rfl⟩ (by decide +kernel) ⟨by decide, by decide⟩ ⟨by decide, by decide⟩ sh_31 (by decide) cl_X8 rfl rfl (Nat.le_of_ble_eq_true rfl) dX8_at_34 rfl rfl (fun r4 μ3 h => ?_)
  refine j_if_eq C 59 dX8_at_37 (by decide) (fun c7 => ?_) (fun c7 => ?_)
  · replace h := h.1 c7
    refine j_iconst (v := 0) C dX8_at_59 (by decide) ?_
    exact j_iret C hQ (by decide) (by decide) h dX8_at_60
  · replace h := h.2 c7
    refine j_aload_n C 0 dX8_at_40 rfl ?_
    refine j_getR C 31 19 sh_31 (by decide) cl_X8 (by decide) rfl in_X8_at_X8 lk_X8_at_45 rfl dX8_at_41 ?_
    refine j_bipush (v := 64) C dX8_at_44 (by decide) ?_
    refine j_aload_n C 0 dX8_at_46 rfl ?_
    refine j_getR C 31 13 sh_31 (by decide) cl_X8 (by decide) rfl in_X8_at_X8 lk_X8_at_26 rfl dX8_at_47 ?_
    refine j_iload_n C 1 dX8_at_50 rfl ?_
    have b5 := h.1
    replace h := h.2
    refine j_iald C 36 sh_36 (by decide) b5 dX8_at_51 ?_
    refine j_imul C dX8_at_52 ?_
    refine j_iload_n C 2 dX8_at_53 rfl ?_
    refine j_iadd C dX8_at_54 ?_
    have b6 := h.1
    replace h := h.2
    refine j_iald C 42 sh_42 (by decide) b6 dX8_at_55 ?_
    refine j_goto C 60 dX8_at_56 (by decide) ?_
    exact j_iret C hQ (by decide) (by decide) h dX8_at_60
set_option maxHeartbeats 4000000 in
set_option maxRecDepth 100000 in
theorem w_X8_at_b32_j {G : Gt} {X : Cxt} {Q : State → Prop} (C : Cx G X cX8_at RX8 wsX8_at 3 rm_X8_at) {post : Int32 → Mem → Prop} (hQ : RetI G X Q post .int 0 0) {v1 v2 : Int32} {μ : Mem} (h : w_X8_at_b32 post v1 v2 μ) : J G X Q 3 0 0 32 [(0, .ref (ad G 31)), (1, .int v1), (2, .int v2)] [.ref (ad G 31)] μ := by
  unfold w_X8_at_b32 at h
  refine j_iconst (v := 0) C dX8_at_32 (by decide) ?_
  exact w_X8_at_b33_j C hQ h
set_option maxHeartbeats 4000000 in
set_option maxRecDepth 100000 in
theorem c_X8_at (l : Launch) (G : Gt) (hD : Dj G) (post : Int32 → Mem → Prop) (a1 a2 : Int32) (μ : Mem) : MI G l yX8_at wsX8_at rm_X8_at 0 0 [.ref (ad G 31), .int a1, .int a2] μ (w_X8_at post a1 a2 μ) post := by
  refine mI_of (cc := cX8_at) (maxL := 3) (ty := .int) (lv0 := [(0, .ref (ad G 31)), (1, .int a1), (2, .int a2)]) hD (by decide) rfl (Nat.le_of_ble_eq_true rfl) rfl ?_
  intro X Q hl C hQ h
  subst hl
  replace C : Cx G X cX8_at RX8 wsX8_at 3 rm_X8_at := C
  unfold w_X8_at at h
  refine j_aload_n C 0 dX8_at_0 rfl ?_
  refine j_iload_n C 1 dX8_at_1 rfl ?_
  refine j_cVI (n := 1) (rest := []) C 31 (c_X8_isFile (xl X) G C.2.2.1 _ a1 μ) h gX8_at_X8_isFile rfl ⟨rfl, rfl⟩ (by decide +kernel) ⟨by decide, by decide⟩ ⟨by decide, by decide⟩ sh_31 (by decide) cl_X8 rfl rfl (Nat.le_of_ble_eq_true rfl) dX8_at_2 rfl rfl (fun r2 μ1 h => ?_)
  refine j_if_eq C 59 dX8_at_5 (by decide) (fun c12 => ?_) (fun c12 => ?_)
  · replace h := h.1 c12
    refine j_iconst (v := 0) C dX8_at_59 (by decide) ?_
    exact j_iret C hQ (by decide) (by decide) h dX8_at_60
  · replace h := h.2 c12
    refine j_aload_n C 0 dX8_at_8 rfl ?_
    refine j_iload_n C 2 dX8_at_9 rfl ?_
    refine j_if_lt C 32 dX8_at_10 (by decide) (fun c11 => ?_) (fun c11 => ?_)
    · replace h := h.1 c11
      exact w_X8_at_b32_j C hQ h
    · replace h := h.2 c11
      refine j_iload_n C 2 dX8_at_13 rfl ?_
      refine j_aload_n C 0 dX8_at_14 rfl ?_
      refine j_getR C 31 15 sh_31 (by decide) cl_X8 (by decide) rfl in_X8_at_X8 lk_X8_at_33 rfl dX8_at_15 ?_
      refine j_aload_n C 0 dX8_at_18 rfl ?_
      refine j_getR C 31 13 sh_31 (by decide) cl_X8 (by decide) rfl in_X8_at_X8 lk_X8_at_26 rfl dX8_at_19 ?_
      refine j_iload_n C 1 dX8_at_22 rfl ?_
      have b8 := h.1
      replace h := h.2
      refine j_iald C 36 sh_36 (by decide) b8 dX8_at_23 ?_
      have b9 := h.1
      replace h := h.2
      refine j_iald C 38 sh_38 (by decide) b9 dX8_at_24 ?_
      refine j_icmp_ge C 32 dX8_at_25 (by decide) (fun c10 => ?_) (fun c10 => ?_)
      · replace h := h.1 c10
        exact w_X8_at_b32_j C hQ h
      · replace h := h.2 c10
        refine j_iconst (v := 1) C dX8_at_28 (by decide) ?_
        refine j_goto C 33 dX8_at_29 (by decide) ?_
        exact w_X8_at_b33_j C hQ h
/-! X8_isName -/
abbrev rm_X8_isName : Room := { frames := 0, cells := 0, slots := 0, locals := 0 }
set_option maxHeartbeats 4000000 in
set_option maxRecDepth 100000 in
theorem c_X8_isName (l : Launch) (G : Gt) (hD : Dj G) (post : Int32 → Mem → Prop) (a0 : Int32) (μ : Mem) : MI G l yX8_isName wsX8_isName rm_X8_isName 0 0 [.int a0] μ (w_X8_isName post a0 μ) post := by
  refine mI_of (cc := cX8_isName) (maxL := 1) (ty := .boolean) (lv0 := [(0, .int a0)]) hD (by decide) rfl (Nat.le_of_ble_eq_true rfl) rfl ?_
  intro X Q hl C hQ h
  subst hl
  replace C : Cx G X cX8_isName RX8 wsX8_isName 1 rm_X8_isName := C
  unfold w_X8_isName at h
  refine j_iload_n C 0 dX8_isName_0 rfl ?_
  refine j_if_lt C 15 dX8_isName_1 (by decide) (fun c2 => ?_) (fun c2 => ?_)
  · replace h := h.1 c2
    refine j_iconst (v := 0) C dX8_isName_15 (by decide) ?_
    exact j_zret C hQ (by decide) (by decide) rfl h dX8_isName_16
  · replace h := h.2 c2
    refine j_iload_n C 0 dX8_isName_4 rfl ?_
    refine j_sipush (v := 999) C dX8_isName_5 (by decide) ?_
    refine j_icmp_gt C 15 dX8_isName_8 (by decide) (fun c1 => ?_) (fun c1 => ?_)
    · replace h := h.1 c1
      refine j_iconst (v := 0) C dX8_isName_15 (by decide) ?_
      exact j_zret C hQ (by decide) (by decide) rfl h dX8_isName_16
    · replace h := h.2 c1
      refine j_iconst (v := 1) C dX8_isName_11 (by decide) ?_
      refine j_goto C 16 dX8_isName_12 (by decide) ?_
      exact j_zret C hQ (by decide) (by decide) rfl h dX8_isName_16
/-! X8_named -/
abbrev rm_X8_named : Room := { frames := 0, cells := 0, slots := 0, locals := 0 }
theorem in_X8_named_X8 : ∀ w ∈ wsX80, w ∈ wsX8_named := by decide +kernel
theorem lk_X8_named_94 : Cond.fieldLink RX8 94 "SameAgainModel" "files" "I" ∈ wsX8_named := by decide +kernel
theorem lk_X8_named_20 : Cond.fieldLink RX8 20 "SameAgainModel" "in" "[I" ∈ wsX8_named := by decide +kernel
theorem lk_X8_named_23 : Cond.fieldLink RX8 23 "SameAgainModel" "name" "[I" ∈ wsX8_named := by decide +kernel
set_option maxHeartbeats 4000000 in
set_option maxRecDepth 100000 in
theorem w_X8_named_b2_j {G : Gt} {X : Cxt} {Q : State → Prop} (C : Cx G X cX8_named RX8 wsX8_named 4 rm_X8_named) {post : Int32 → Mem → Prop} (hQ : RetI G X Q post .int 0 0) : ∀ (n : Nat) (v1 v2 v3 : Int32) (μ : Mem), itr (fun _ _ _ _ => False) (w_X8_named_b2 post) n v1 v2 v3 μ → J G X Q 4 0 0 2 [(0, .ref (ad G 31)), (1, .int v1), (2, .int v2), (3, .int v3)] [] μ := by
  intro n
  induction n with
  | zero => intro v1 v2 v3 μ h; exact h.elim
  | succ n ih =>
    intro v1 v2 v3 μ h
    replace h : w_X8_named_b2 post (itr (fun _ _ _ _ => False) (w_X8_named_b2 post) n) v1 v2 v3 μ := h
    generalize itr (fun _ _ _ _ => False) (w_X8_named_b2 post) n = k2 at ih h
    have hk2 := ih
    unfold w_X8_named_b2 at h
    refine j_iload_n C 3 dX8_named_2 rfl ?_
    refine j_aload_n C 0 dX8_named_3 rfl ?_
    refine j_getI C 31 2 sh_31 (by decide) cl_X8 (by decide) rfl in_X8_named_X8 lk_X8_named_94 rfl dX8_named_4 ?_
    refine j_icmp_ge C 38 dX8_named_7 (by decide) (fun c5 => ?_) (fun c5 => ?_)
    · replace h := h.1 c5
      refine j_iconst (v := -1) C dX8_named_38 (by decide) ?_
      exact j_iret C hQ (by decide) (by decide) h dX8_named_39
    · replace h := h.2 c5
      refine j_aload_n C 0 dX8_named_10 rfl ?_
      refine j_getR C 31 11 sh_31 (by decide) cl_X8 (by decide) rfl in_X8_named_X8 lk_X8_named_20 rfl dX8_named_11 ?_
      refine j_iload_n C 3 dX8_named_14 rfl ?_
      have b1 := h.1
      replace h := h.2
      refine j_iald C 34 sh_34 (by decide) b1 dX8_named_15 ?_
      refine j_iload_n C 1 dX8_named_16 rfl ?_
      refine j_icmp_ne C 32 dX8_named_17 (by decide) (fun c4 => ?_) (fun c4 => ?_)
      · replace h := h.1 c4
        refine j_iinc (v := v3 + (1 : Int32)) (lv' := [(0, .ref (ad G 31)), (1, .int v1), (2, .int v2), (3, .int (v3 + (1 : Int32)))]) C 3 dX8_named_32 rfl rfl (by decide) rfl rfl ?_
        refine j_goto C 2 dX8_named_35 (by decide) ?_
        exact hk2 _ _ _ _ h
      · replace h := h.2 c4
        refine j_aload_n C 0 dX8_named_20 rfl ?_
        refine j_getR C 31 12 sh_31 (by decide) cl_X8 (by decide) rfl in_X8_named_X8 lk_X8_named_23 rfl dX8_named_21 ?_
        refine j_iload_n C 3 dX8_named_24 rfl ?_
        have b2 := h.1
        replace h := h.2
        refine j_iald C 35 sh_35 (by decide) b2 dX8_named_25 ?_
        refine j_iload_n C 2 dX8_named_26 rfl ?_
        refine j_icmp_ne C 32 dX8_named_27 (by decide) (fun c3 => ?_) (fun c3 => ?_)
        · replace h := h.1 c3
          refine j_iinc (v := v3 + (1 : Int32)) (lv' := [(0, .ref (ad G 31)), (1, .int v1), (2, .int v2), (3, .int (v3 + (1 : Int32)))]) C 3 dX8_named_32 rfl rfl (by decide) rfl rfl ?_
          refine j_goto C 2 dX8_named_35 (by decide) ?_
          exact hk2 _ _ _ _ h
        · replace h := h.2 c3
          refine j_iload_n C 3 dX8_named_30 rfl ?_
          exact j_iret C hQ (by decide) (by decide) h dX8_named_31
set_option maxHeartbeats 4000000 in
set_option maxRecDepth 100000 in
theorem c_X8_named (l : Launch) (G : Gt) (hD : Dj G) (post : Int32 → Mem → Prop) (a1 a2 : Int32) (μ : Mem) : MI G l yX8_named wsX8_named rm_X8_named 0 0 [.ref (ad G 31), .int a1, .int a2] μ (w_X8_named post a1 a2 μ) post := by
  refine mI_of (cc := cX8_named) (maxL := 4) (ty := .int) (lv0 := [(0, .ref (ad G 31)), (1, .int a1), (2, .int a2)]) hD (by decide) rfl (Nat.le_of_ble_eq_true rfl) rfl ?_
  intro X Q hl C hQ h
  subst hl
  replace C : Cx G X cX8_named RX8 wsX8_named 4 rm_X8_named := C
  unfold w_X8_named at h
  refine j_iconst (v := 0) C dX8_named_0 (by decide) ?_
  refine j_istore_n (lv' := [(0, .ref (ad G 31)), (1, .int a1), (2, .int a2), (3, .int (0 : Int32))]) C dX8_named_1 (by decide) rfl rfl ?_
  obtain ⟨n9, h⟩ := h
  exact w_X8_named_b2_j C hQ n9 _ _ _ _ h
/-! X8_canCome -/
abbrev rm_X8_canCome : Room := { frames := 1, cells := 0, slots := 0, locals := 23 }
theorem in_X8_canCome_X8 : ∀ w ∈ wsX80, w ∈ wsX8_canCome := by decide +kernel
theorem lk_X8_canCome_94 : Cond.fieldLink RX8 94 "SameAgainModel" "files" "I" ∈ wsX8_canCome := by decide +kernel
set_option maxHeartbeats 4000000 in
set_option maxRecDepth 100000 in
theorem c_X8_canCome (l : Launch) (G : Gt) (hD : Dj G) (post : Int32 → Mem → Prop) (a1 a2 : Int32) (μ : Mem) : MI G l yX8_canCome wsX8_canCome rm_X8_canCome 0 0 [.ref (ad G 31), .int a1, .int a2] μ (w_X8_canCome post a1 a2 μ) post := by
  refine mI_of (cc := cX8_canCome) (maxL := 3) (ty := .boolean) (lv0 := [(0, .ref (ad G 31)), (1, .int a1), (2, .int a2)]) hD (by decide) rfl (Nat.le_of_ble_eq_true rfl) rfl ?_
  intro X Q hl C hQ h
  subst hl
  replace C : Cx G X cX8_canCome RX8 wsX8_canCome 3 rm_X8_canCome := C
  unfold w_X8_canCome at h
  refine j_aload_n C 0 dX8_canCome_0 rfl ?_
  refine j_getI C 31 2 sh_31 (by decide) cl_X8 (by decide) rfl in_X8_canCome_X8 lk_X8_canCome_94 rfl dX8_canCome_1 ?_
  refine j_bipush (v := 60) C dX8_canCome_4 (by decide) ?_
  refine j_icmp_ge C 30 dX8_canCome_6 (by decide) (fun c7 => ?_) (fun c7 => ?_)
  · replace h := h.1 c7
    refine j_iconst (v := 0) C dX8_canCome_30 (by decide) ?_
    exact j_zret C hQ (by decide) (by decide) rfl h dX8_canCome_31
  · replace h := h.2 c7
    refine j_iload_n C 2 dX8_canCome_9 rfl ?_
    refine j_cSI (n := 1) (rest := []) C (c_X8_isName (xl X) G C.2.2.1 _ a2 μ) h gX8_canCome_X8_isName rfl ⟨rfl, rfl⟩ (by decide +kernel) ⟨by decide, by decide⟩ ⟨by decide, by decide⟩ rfl rfl (Nat.le_of_ble_eq_true rfl) dX8_canCome_10 rfl rfl (fun r2 μ1 h => ?_)
    refine j_if_eq C 30 dX8_canCome_13 (by decide) (fun c6 => ?_) (fun c6 => ?_)
    · replace h := h.1 c6
      refine j_iconst (v := 0) C dX8_canCome_30 (by decide) ?_
      exact j_zret C hQ (by decide) (by decide) rfl h dX8_canCome_31
    · replace h := h.2 c6
      refine j_aload_n C 0 dX8_canCome_16 rfl ?_
      refine j_iload_n C 1 dX8_canCome_17 rfl ?_
      refine j_iload_n C 2 dX8_canCome_18 rfl ?_
      refine j_cVI (n := 2) (rest := []) C 31 (c_X8_named (xl X) G C.2.2.1 _ a1 a2 μ1) h gX8_canCome_X8_named rfl ⟨rfl, rfl⟩ (by decide +kernel) ⟨by decide, by decide⟩ ⟨by decide, by decide⟩ sh_31 (by decide) cl_X8 rfl rfl (Nat.le_of_ble_eq_true rfl) dX8_canCome_19 rfl rfl (fun r4 μ3 h => ?_)
      refine j_iconst (v := -1) C dX8_canCome_22 (by decide) ?_
      refine j_icmp_ne C 30 dX8_canCome_23 (by decide) (fun c5 => ?_) (fun c5 => ?_)
      · replace h := h.1 c5
        refine j_iconst (v := 0) C dX8_canCome_30 (by decide) ?_
        exact j_zret C hQ (by decide) (by decide) rfl h dX8_canCome_31
      · replace h := h.2 c5
        refine j_iconst (v := 1) C dX8_canCome_26 (by decide) ?_
        refine j_goto C 31 dX8_canCome_27 (by decide) ?_
        exact j_zret C hQ (by decide) (by decide) rfl h dX8_canCome_31
/-! X8_child -/
abbrev rm_X8_child : Room := { frames := 0, cells := 0, slots := 0, locals := 0 }
theorem in_X8_child_X8 : ∀ w ∈ wsX80, w ∈ wsX8_child := by decide +kernel
theorem lk_X8_child_7 : Cond.fieldLink RX8 7 "SameAgainModel" "folders" "I" ∈ wsX8_child := by decide +kernel
theorem lk_X8_child_13 : Cond.fieldLink RX8 13 "SameAgainModel" "folderIn" "[I" ∈ wsX8_child := by decide +kernel
theorem lk_X8_child_17 : Cond.fieldLink RX8 17 "SameAgainModel" "folderName" "[I" ∈ wsX8_child := by decide +kernel
set_option maxHeartbeats 4000000 in
set_option maxRecDepth 100000 in
theorem w_X8_child_b2_j {G : Gt} {X : Cxt} {Q : State → Prop} (C : Cx G X cX8_child RX8 wsX8_child 4 rm_X8_child) {post : Int32 → Mem → Prop} (hQ : RetI G X Q post .int 0 0) : ∀ (n : Nat) (v1 v2 v3 : Int32) (μ : Mem), itr (fun _ _ _ _ => False) (w_X8_child_b2 post) n v1 v2 v3 μ → J G X Q 4 0 0 2 [(0, .ref (ad G 31)), (1, .int v1), (2, .int v2), (3, .int v3)] [] μ := by
  intro n
  induction n with
  | zero => intro v1 v2 v3 μ h; exact h.elim
  | succ n ih =>
    intro v1 v2 v3 μ h
    replace h : w_X8_child_b2 post (itr (fun _ _ _ _ => False) (w_X8_child_b2 post) n) v1 v2 v3 μ := h
    generalize itr (fun _ _ _ _ => False) (w_X8_child_b2 post) n = k2 at ih h
    have hk2 := ih
    unfold w_X8_child_b2 at h
    refine j_iload_n C 3 dX8_child_2 rfl ?_
    refine j_aload_n C 0 dX8_child_3 rfl ?_
    refine j_getI C 31 1 sh_31 (by decide) cl_X8 (by decide) rfl in_X8_child_X8 lk_X8_child_7 rfl dX8_child_4 ?_
    refine j_icmp_ge C 38 dX8_child_7 (by decide) (fun c5 => ?_) (fun c5 => ?_)
    · replace h := h.1 c5
      refine j_iconst (v := -1) C dX8_child_38 (by decide) ?_
      exact j_iret C hQ (by decide) (by decide) h dX8_child_39
    · replace h := h.2 c5
      refine j_aload_n C 0 dX8_child_10 rfl ?_
      refine j_getR C 31 9 sh_31 (by decide) cl_X8 (by decide) rfl in_X8_child_X8 lk_X8_child_13 rfl dX8_child_11 ?_
      refine j_iload_n C 3 dX8_child_14 rfl ?_
      have b1 := h.1
      replace h := h.2
      refine j_iald C 32 sh_32 (by decide) b1 dX8_child_15 ?_
      refine j_iload_n C 1 dX8_child_16 rfl ?_
      refine j_icmp_ne C 32 dX8_child_17 (by decide) (fun c4 => ?_) (fun c4 => ?_)
      · replace h := h.1 c4
        refine j_iinc (v := v3 + (1 : Int32)) (lv' := [(0, .ref (ad G 31)), (1, .int v1), (2, .int v2), (3, .int (v3 + (1 : Int32)))]) C 3 dX8_child_32 rfl rfl (by decide) rfl rfl ?_
        refine j_goto C 2 dX8_child_35 (by decide) ?_
        exact hk2 _ _ _ _ h
      · replace h := h.2 c4
        refine j_aload_n C 0 dX8_child_20 rfl ?_
        refine j_getR C 31 10 sh_31 (by decide) cl_X8 (by decide) rfl in_X8_child_X8 lk_X8_child_17 rfl dX8_child_21 ?_
        refine j_iload_n C 3 dX8_child_24 rfl ?_
        have b2 := h.1
        replace h := h.2
        refine j_iald C 33 sh_33 (by decide) b2 dX8_child_25 ?_
        refine j_iload_n C 2 dX8_child_26 rfl ?_
        refine j_icmp_ne C 32 dX8_child_27 (by decide) (fun c3 => ?_) (fun c3 => ?_)
        · replace h := h.1 c3
          refine j_iinc (v := v3 + (1 : Int32)) (lv' := [(0, .ref (ad G 31)), (1, .int v1), (2, .int v2), (3, .int (v3 + (1 : Int32)))]) C 3 dX8_child_32 rfl rfl (by decide) rfl rfl ?_
          refine j_goto C 2 dX8_child_35 (by decide) ?_
          exact hk2 _ _ _ _ h
        · replace h := h.2 c3
          refine j_iload_n C 3 dX8_child_30 rfl ?_
          exact j_iret C hQ (by decide) (by decide) h dX8_child_31
set_option maxHeartbeats 4000000 in
set_option maxRecDepth 100000 in
theorem c_X8_child (l : Launch) (G : Gt) (hD : Dj G) (post : Int32 → Mem → Prop) (a1 a2 : Int32) (μ : Mem) : MI G l yX8_child wsX8_child rm_X8_child 0 0 [.ref (ad G 31), .int a1, .int a2] μ (w_X8_child post a1 a2 μ) post := by
  refine mI_of (cc := cX8_child) (maxL := 4) (ty := .int) (lv0 := [(0, .ref (ad G 31)), (1, .int a1), (2, .int a2)]) hD (by decide) rfl (Nat.le_of_ble_eq_true rfl) rfl ?_
  intro X Q hl C hQ h
  subst hl
  replace C : Cx G X cX8_child RX8 wsX8_child 4 rm_X8_child := C
  unfold w_X8_child at h
  refine j_iconst (v := 1) C dX8_child_0 (by decide) ?_
  refine j_istore_n (lv' := [(0, .ref (ad G 31)), (1, .int a1), (2, .int a2), (3, .int (1 : Int32))]) C dX8_child_1 (by decide) rfl rfl ?_
  obtain ⟨n9, h⟩ := h
  exact w_X8_child_b2_j C hQ n9 _ _ _ _ h
/-! X8_fillsFrom -/
abbrev rm_X8_fillsFrom : Room := { frames := 0, cells := 0, slots := 0, locals := 0 }
theorem in_X8_fillsFrom_X8 : ∀ w ∈ wsX80, w ∈ wsX8_fillsFrom := by decide +kernel
theorem lk_X8_fillsFrom_45 : Cond.fieldLink RX8 45 "SameAgainModel" "bytes" "[I" ∈ wsX8_fillsFrom := by decide +kernel
set_option maxHeartbeats 4000000 in
set_option maxRecDepth 100000 in
theorem w_X8_fillsFrom_b2_j {G : Gt} {X : Cxt} {Q : State → Prop} (C : Cx G X cX8_fillsFrom RX8 wsX8_fillsFrom 4 rm_X8_fillsFrom) {post : Mem → Prop} (hQ : RetV G X Q post 0 0) : ∀ (n : Nat) (v1 v2 v3 : Int32) (μ : Mem), itr (fun _ _ _ _ => False) (w_X8_fillsFrom_b2 post) n v1 v2 v3 μ → J G X Q 4 0 0 2 [(0, .ref (ad G 31)), (1, .int v1), (2, .int v2), (3, .int v3)] [] μ := by
  intro n
  induction n with
  | zero => intro v1 v2 v3 μ h; exact h.elim
  | succ n ih =>
    intro v1 v2 v3 μ h
    replace h : w_X8_fillsFrom_b2 post (itr (fun _ _ _ _ => False) (w_X8_fillsFrom_b2 post) n) v1 v2 v3 μ := h
    generalize itr (fun _ _ _ _ => False) (w_X8_fillsFrom_b2 post) n = k2 at ih h
    have hk2 := ih
    unfold w_X8_fillsFrom_b2 at h
    refine j_iload_n C 3 dX8_fillsFrom_2 rfl ?_
    refine j_bipush (v := 64) C dX8_fillsFrom_3 (by decide) ?_
    refine j_icmp_ge C 36 dX8_fillsFrom_5 (by decide) (fun c5 => ?_) (fun c5 => ?_)
    · replace h := h.1 c5
      exact j_vret C hQ (by decide) (by decide) h dX8_fillsFrom_36
    · replace h := h.2 c5
      refine j_aload_n C 0 dX8_fillsFrom_8 rfl ?_
      refine j_getR C 31 19 sh_31 (by decide) cl_X8 (by decide) rfl in_X8_fillsFrom_X8 lk_X8_fillsFrom_45 rfl dX8_fillsFrom_9 ?_
      refine j_bipush (v := 64) C dX8_fillsFrom_12 (by decide) ?_
      refine j_iload_n C 1 dX8_fillsFrom_14 rfl ?_
      refine j_imul C dX8_fillsFrom_15 ?_
      refine j_iload_n C 3 dX8_fillsFrom_16 rfl ?_
      refine j_iadd C dX8_fillsFrom_17 ?_
      refine j_aload_n C 0 dX8_fillsFrom_18 rfl ?_
      refine j_getR C 31 19 sh_31 (by decide) cl_X8 (by decide) rfl in_X8_fillsFrom_X8 lk_X8_fillsFrom_45 rfl dX8_fillsFrom_19 ?_
      refine j_bipush (v := 64) C dX8_fillsFrom_22 (by decide) ?_
      refine j_iload_n C 2 dX8_fillsFrom_24 rfl ?_
      refine j_imul C dX8_fillsFrom_25 ?_
      refine j_iload_n C 3 dX8_fillsFrom_26 rfl ?_
      refine j_iadd C dX8_fillsFrom_27 ?_
      have b1 := h.1
      replace h := h.2
      refine j_iald C 42 sh_42 (by decide) b1 dX8_fillsFrom_28 ?_
      obtain ⟨μ2, e3⟩ : ∃ m, m = wr μ 42 (ix (((64 : Int32) * v1) + v3)) (μ 42 (ix (((64 : Int32) * v2) + v3))) := ⟨_, rfl⟩
      have b4 := h.1
      replace h := h.2 μ2 e3
      refine j_iast C 42 sh_42 (by decide) b4 dX8_fillsFrom_29 e3 ?_
      refine j_iinc (v := v3 + (1 : Int32)) (lv' := [(0, .ref (ad G 31)), (1, .int v1), (2, .int v2), (3, .int (v3 + (1 : Int32)))]) C 3 dX8_fillsFrom_30 rfl rfl (by decide) rfl rfl ?_
      refine j_goto C 2 dX8_fillsFrom_33 (by decide) ?_
      exact hk2 _ _ _ _ h
set_option maxHeartbeats 4000000 in
set_option maxRecDepth 100000 in
theorem c_X8_fillsFrom (l : Launch) (G : Gt) (hD : Dj G) (post : Mem → Prop) (a1 a2 : Int32) (μ : Mem) : MV G l yX8_fillsFrom wsX8_fillsFrom rm_X8_fillsFrom 0 0 [.ref (ad G 31), .int a1, .int a2] μ (w_X8_fillsFrom post a1 a2 μ) post := by
  refine mV_of (cc := cX8_fillsFrom) (maxL := 4) (lv0 := [(0, .ref (ad G 31)), (1, .int a1), (2, .int a2)]) hD (by decide) rfl (Nat.le_of_ble_eq_true rfl) rfl ?_
  intro X Q hl C hQ h
  subst hl
  replace C : Cx G X cX8_fillsFrom RX8 wsX8_fillsFrom 4 rm_X8_fillsFrom := C
  unfold w_X8_fillsFrom at h
  refine j_iconst (v := 0) C dX8_fillsFrom_0 (by decide) ?_
  refine j_istore_n (lv' := [(0, .ref (ad G 31)), (1, .int a1), (2, .int a2), (3, .int (0 : Int32))]) C dX8_fillsFrom_1 (by decide) rfl rfl ?_
  obtain ⟨n9, h⟩ := h
  exact w_X8_fillsFrom_b2_j C hQ n9 _ _ _ _ h
/-! X8_isFolder -/
abbrev rm_X8_isFolder : Room := { frames := 1, cells := 0, slots := 0, locals := 22 }
theorem in_X8_isFolder_X8 : ∀ w ∈ wsX80, w ∈ wsX8_isFolder := by decide +kernel
theorem lk_X8_isFolder_7 : Cond.fieldLink RX8 7 "SameAgainModel" "folders" "I" ∈ wsX8_isFolder := by decide +kernel
set_option maxHeartbeats 4000000 in
set_option maxRecDepth 100000 in
theorem w_X8_isFolder_b18_j {G : Gt} {X : Cxt} {Q : State → Prop} (C : Cx G X cX8_isFolder RX8 wsX8_isFolder 2 rm_X8_isFolder) {post : Int32 → Mem → Prop} (hQ : RetI G X Q post .boolean 0 0) {s0 : Int32} {μ : Mem} (h : w_X8_isFolder_b18 post s0 μ) : J G X Q 2 0 0 18 [] [.int s0, .ref (ad G 31)] μ := by
  unfold w_X8_isFolder_b18 at h
  refine j_iconst (v := 1) C dX8_isFolder_18 (by decide) ?_
  refine j_cVI (n := 2) (rest := []) C 31 (c_X8_right (xl X) G C.2.2.1 _ s0 (1 : Int32) μ) h gX8_isFolder_X8_right rfl ⟨rfl, rfl⟩ (by decide +kernel) ⟨by decide, by decide⟩ ⟨by decide, by decide⟩ sh_31 (by decide) cl_X8 rfl rfl (Nat.le_of_ble_eq_true rfl) dX8_isFolder_19 rfl rfl (fun r2 μ1 h => ?_)
  exact j_zret C hQ (by decide) (by decide) h.1 h.2 dX8_isFolder_22
set_option maxHeartbeats 4000000 in
set_option maxRecDepth 100000 in
theorem w_X8_isFolder_b17_j {G : Gt} {X : Cxt} {Q : State → Prop} (C : Cx G X cX8_isFolder RX8 wsX8_isFolder 2 rm_X8_isFolder) {post : Int32 → Mem → Prop} (hQ : RetI G X Q post .boolean 0 0) {μ : Mem} (h : w_X8_isFolder_b17 post μ) : J G X Q 2 0 0 17 [] [.ref (ad G 31)] μ := by
  unfold w_X8_isFolder_b17 at h
  refine j_iconst (v := 0) C dX8_isFolder_17 (by decide) ?_
  exact w_X8_isFolder_b18_j C hQ h
set_option maxHeartbeats 4000000 in
set_option maxRecDepth 100000 in
theorem c_X8_isFolder (l : Launch) (G : Gt) (hD : Dj G) (post : Int32 → Mem → Prop) (a1 : Int32) (μ : Mem) : MI G l yX8_isFolder wsX8_isFolder rm_X8_isFolder 0 0 [.ref (ad G 31), .int a1] μ (w_X8_isFolder post a1 μ) post := by
  refine mI_of (cc := cX8_isFolder) (maxL := 2) (ty := .boolean) (lv0 := [(0, .ref (ad G 31)), (1, .int a1)]) hD (by decide) rfl (Nat.le_of_ble_eq_true rfl) rfl ?_
  intro X Q hl C hQ h
  subst hl
  replace C : Cx G X cX8_isFolder RX8 wsX8_isFolder 2 rm_X8_isFolder := C
  unfold w_X8_isFolder at h
  refine j_aload_n C 0 dX8_isFolder_0 rfl ?_
  refine j_iload_n C 1 dX8_isFolder_1 rfl ?_
  refine j_if_lt C 17 dX8_isFolder_2 (by decide) (fun c4 => ?_) (fun c4 => ?_)
  · replace h := h.1 c4
    refine j_forget [] rfl ?_
    exact w_X8_isFolder_b17_j C hQ h
  · replace h := h.2 c4
    refine j_iload_n C 1 dX8_isFolder_5 rfl ?_
    refine j_aload_n C 0 dX8_isFolder_6 rfl ?_
    refine j_getI C 31 1 sh_31 (by decide) cl_X8 (by decide) rfl in_X8_isFolder_X8 lk_X8_isFolder_7 rfl dX8_isFolder_7 ?_
    refine j_icmp_ge C 17 dX8_isFolder_10 (by decide) (fun c3 => ?_) (fun c3 => ?_)
    · replace h := h.1 c3
      refine j_forget [] rfl ?_
      exact w_X8_isFolder_b17_j C hQ h
    · replace h := h.2 c3
      refine j_iconst (v := 1) C dX8_isFolder_13 (by decide) ?_
      refine j_goto C 18 dX8_isFolder_14 (by decide) ?_
      refine j_forget [] rfl ?_
      exact w_X8_isFolder_b18_j C hQ h
/-! X8_newBody -/
abbrev rm_X8_newBody : Room := { frames := 0, cells := 0, slots := 0, locals := 0 }
theorem in_X8_newBody_X8 : ∀ w ∈ wsX80, w ∈ wsX8_newBody := by decide +kernel
theorem lk_X8_newBody_33 : Cond.fieldLink RX8 33 "SameAgainModel" "size" "[I" ∈ wsX8_newBody := by decide +kernel
theorem lk_X8_newBody_108 : Cond.fieldLink RX8 108 "SameAgainModel" "bodies" "I" ∈ wsX8_newBody := by decide +kernel
theorem lk_X8_newBody_36 : Cond.fieldLink RX8 36 "SameAgainModel" "owner" "[I" ∈ wsX8_newBody := by decide +kernel
theorem lk_X8_newBody_39 : Cond.fieldLink RX8 39 "SameAgainModel" "written" "[I" ∈ wsX8_newBody := by decide +kernel
theorem lk_X8_newBody_42 : Cond.fieldLink RX8 42 "SameAgainModel" "group" "[I" ∈ wsX8_newBody := by decide +kernel
set_option maxHeartbeats 4000000 in
set_option maxRecDepth 100000 in
theorem c_X8_newBody (l : Launch) (G : Gt) (hD : Dj G) (post : Int32 → Mem → Prop) (a1 a2 a3 : Int32) (μ : Mem) : MI G l yX8_newBody wsX8_newBody rm_X8_newBody 0 0 [.ref (ad G 31), .int a1, .int a2, .int a3] μ (w_X8_newBody post a1 a2 a3 μ) post := by
  refine mI_of (cc := cX8_newBody) (maxL := 4) (ty := .int) (lv0 := [(0, .ref (ad G 31)), (1, .int a1), (2, .int a2), (3, .int a3)]) hD (by decide) rfl (Nat.le_of_ble_eq_true rfl) rfl ?_
  intro X Q hl C hQ h
  subst hl
  replace C : Cx G X cX8_newBody RX8 wsX8_newBody 4 rm_X8_newBody := C
  unfold w_X8_newBody at h
  refine j_aload_n C 0 dX8_newBody_0 rfl ?_
  refine j_getR C 31 15 sh_31 (by decide) cl_X8 (by decide) rfl in_X8_newBody_X8 lk_X8_newBody_33 rfl dX8_newBody_1 ?_
  refine j_aload_n C 0 dX8_newBody_4 rfl ?_
  refine j_getI C 31 3 sh_31 (by decide) cl_X8 (by decide) rfl in_X8_newBody_X8 lk_X8_newBody_108 rfl dX8_newBody_5 ?_
  refine j_iload_n C 1 dX8_newBody_8 rfl ?_
  obtain ⟨μ1, e2⟩ : ∃ m, m = wr μ 38 (ix (μ 31 3)) a1 := ⟨_, rfl⟩
  have b3 := h.1
  replace h := h.2 μ1 e2
  refine j_iast C 38 sh_38 (by decide) b3 dX8_newBody_9 e2 ?_
  refine j_aload_n C 0 dX8_newBody_10 rfl ?_
  refine j_getR C 31 16 sh_31 (by decide) cl_X8 (by decide) rfl in_X8_newBody_X8 lk_X8_newBody_36 rfl dX8_newBody_11 ?_
  refine j_aload_n C 0 dX8_newBody_14 rfl ?_
  refine j_getI C 31 3 sh_31 (by decide) cl_X8 (by decide) rfl in_X8_newBody_X8 lk_X8_newBody_108 rfl dX8_newBody_15 ?_
  refine j_iload_n C 2 dX8_newBody_18 rfl ?_
  obtain ⟨μ4, e5⟩ : ∃ m, m = wr μ1 39 (ix (μ1 31 3)) a2 := ⟨_, rfl⟩
  have b6 := h.1
  replace h := h.2 μ4 e5
  refine j_iast C 39 sh_39 (by decide) b6 dX8_newBody_19 e5 ?_
  refine j_aload_n C 0 dX8_newBody_20 rfl ?_
  refine j_getR C 31 17 sh_31 (by decide) cl_X8 (by decide) rfl in_X8_newBody_X8 lk_X8_newBody_39 rfl dX8_newBody_21 ?_
  refine j_aload_n C 0 dX8_newBody_24 rfl ?_
  refine j_getI C 31 3 sh_31 (by decide) cl_X8 (by decide) rfl in_X8_newBody_X8 lk_X8_newBody_108 rfl dX8_newBody_25 ?_
  refine j_iload_n C 3 dX8_newBody_28 rfl ?_
  obtain ⟨μ7, e8⟩ : ∃ m, m = wr μ4 40 (ix (μ4 31 3)) a3 := ⟨_, rfl⟩
  have b9 := h.1
  replace h := h.2 μ7 e8
  refine j_iast C 40 sh_40 (by decide) b9 dX8_newBody_29 e8 ?_
  refine j_aload_n C 0 dX8_newBody_30 rfl ?_
  refine j_getR C 31 18 sh_31 (by decide) cl_X8 (by decide) rfl in_X8_newBody_X8 lk_X8_newBody_42 rfl dX8_newBody_31 ?_
  refine j_aload_n C 0 dX8_newBody_34 rfl ?_
  refine j_getI C 31 3 sh_31 (by decide) cl_X8 (by decide) rfl in_X8_newBody_X8 lk_X8_newBody_108 rfl dX8_newBody_35 ?_
  refine j_iconst (v := -1) C dX8_newBody_38 (by decide) ?_
  obtain ⟨μ10, e11⟩ : ∃ m, m = wr μ7 41 (ix (μ7 31 3)) (-1 : Int32) := ⟨_, rfl⟩
  have b12 := h.1
  replace h := h.2 μ10 e11
  refine j_iast C 41 sh_41 (by decide) b12 dX8_newBody_39 e11 ?_
  refine j_aload_n C 0 dX8_newBody_40 rfl ?_
  refine j_dup C dX8_newBody_41 rfl ?_
  refine j_getI C 31 3 sh_31 (by decide) cl_X8 (by decide) rfl in_X8_newBody_X8 lk_X8_newBody_108 rfl dX8_newBody_42 ?_
  refine j_iconst (v := 1) C dX8_newBody_45 (by decide) ?_
  refine j_iadd C dX8_newBody_46 ?_
  obtain ⟨μ13, e14⟩ : ∃ m, m = wr μ10 31 3 ((μ10 31 3) + (1 : Int32)) := ⟨_, rfl⟩
  replace h := h μ13 e14
  refine j_put C 31 3 sh_31 (by decide) cl_X8 (by decide) rfl in_X8_newBody_X8 lk_X8_newBody_108 rfl tyX8_ok nmX8 rfl rfl dX8_newBody_47 e14 ?_
  refine j_aload_n C 0 dX8_newBody_50 rfl ?_
  refine j_getI C 31 3 sh_31 (by decide) cl_X8 (by decide) rfl in_X8_newBody_X8 lk_X8_newBody_108 rfl dX8_newBody_51 ?_
  refine j_iconst (v := 1) C dX8_newBody_54 (by decide) ?_
  refine j_isub C dX8_newBody_55 ?_
  exact j_iret C hQ (by decide) (by decide) h dX8_newBody_56
/-! X8_newFile -/
abbrev rm_X8_newFile : Room := { frames := 0, cells := 0, slots := 0, locals := 0 }
theorem in_X8_newFile_X8 : ∀ w ∈ wsX80, w ∈ wsX8_newFile := by decide +kernel
theorem lk_X8_newFile_20 : Cond.fieldLink RX8 20 "SameAgainModel" "in" "[I" ∈ wsX8_newFile := by decide +kernel
theorem lk_X8_newFile_94 : Cond.fieldLink RX8 94 "SameAgainModel" "files" "I" ∈ wsX8_newFile := by decide +kernel
theorem lk_X8_newFile_23 : Cond.fieldLink RX8 23 "SameAgainModel" "name" "[I" ∈ wsX8_newFile := by decide +kernel
theorem lk_X8_newFile_26 : Cond.fieldLink RX8 26 "SameAgainModel" "body" "[I" ∈ wsX8_newFile := by decide +kernel
set_option maxHeartbeats 4000000 in
set_option maxRecDepth 100000 in
theorem c_X8_newFile (l : Launch) (G : Gt) (hD : Dj G) (post : Int32 → Mem → Prop) (a1 a2 a3 : Int32) (μ : Mem) : MI G l yX8_newFile wsX8_newFile rm_X8_newFile 0 0 [.ref (ad G 31), .int a1, .int a2, .int a3] μ (w_X8_newFile post a1 a2 a3 μ) post := by
  refine mI_of (cc := cX8_newFile) (maxL := 4) (ty := .int) (lv0 := [(0, .ref (ad G 31)), (1, .int a1), (2, .int a2), (3, .int a3)]) hD (by decide) rfl (Nat.le_of_ble_eq_true rfl) rfl ?_
  intro X Q hl C hQ h
  subst hl
  replace C : Cx G X cX8_newFile RX8 wsX8_newFile 4 rm_X8_newFile := C
  unfold w_X8_newFile at h
  refine j_aload_n C 0 dX8_newFile_0 rfl ?_
  refine j_getR C 31 11 sh_31 (by decide) cl_X8 (by decide) rfl in_X8_newFile_X8 lk_X8_newFile_20 rfl dX8_newFile_1 ?_
  refine j_aload_n C 0 dX8_newFile_4 rfl ?_
  refine j_getI C 31 2 sh_31 (by decide) cl_X8 (by decide) rfl in_X8_newFile_X8 lk_X8_newFile_94 rfl dX8_newFile_5 ?_
  refine j_iload_n C 1 dX8_newFile_8 rfl ?_
  obtain ⟨μ1, e2⟩ : ∃ m, m = wr μ 34 (ix (μ 31 2)) a1 := ⟨_, rfl⟩
  have b3 := h.1
  replace h := h.2 μ1 e2
  refine j_iast C 34 sh_34 (by decide) b3 dX8_newFile_9 e2 ?_
  refine j_aload_n C 0 dX8_newFile_10 rfl ?_
  refine j_getR C 31 12 sh_31 (by decide) cl_X8 (by decide) rfl in_X8_newFile_X8 lk_X8_newFile_23 rfl dX8_newFile_11 ?_
  refine j_aload_n C 0 dX8_newFile_14 rfl ?_
  refine j_getI C 31 2 sh_31 (by decide) cl_X8 (by decide) rfl in_X8_newFile_X8 lk_X8_newFile_94 rfl dX8_newFile_15 ?_
  refine j_iload_n C 2 dX8_newFile_18 rfl ?_
  obtain ⟨μ4, e5⟩ : ∃ m, m = wr μ1 35 (ix (μ1 31 2)) a2 := ⟨_, rfl⟩
  have b6 := h.1
  replace h := h.2 μ4 e5
  refine j_iast C 35 sh_35 (by decide) b6 dX8_newFile_19 e5 ?_
  refine j_aload_n C 0 dX8_newFile_20 rfl ?_
  refine j_getR C 31 13 sh_31 (by decide) cl_X8 (by decide) rfl in_X8_newFile_X8 lk_X8_newFile_26 rfl dX8_newFile_21 ?_
  refine j_aload_n C 0 dX8_newFile_24 rfl ?_
  refine j_getI C 31 2 sh_31 (by decide) cl_X8 (by decide) rfl in_X8_newFile_X8 lk_X8_newFile_94 rfl dX8_newFile_25 ?_
  refine j_iload_n C 3 dX8_newFile_28 rfl ?_
  obtain ⟨μ7, e8⟩ : ∃ m, m = wr μ4 36 (ix (μ4 31 2)) a3 := ⟨_, rfl⟩
  have b9 := h.1
  replace h := h.2 μ7 e8
  refine j_iast C 36 sh_36 (by decide) b9 dX8_newFile_29 e8 ?_
  refine j_aload_n C 0 dX8_newFile_30 rfl ?_
  refine j_dup C dX8_newFile_31 rfl ?_
  refine j_getI C 31 2 sh_31 (by decide) cl_X8 (by decide) rfl in_X8_newFile_X8 lk_X8_newFile_94 rfl dX8_newFile_32 ?_
  refine j_iconst (v := 1) C dX8_newFile_35 (by decide) ?_
  refine j_iadd C dX8_newFile_36 ?_
  obtain ⟨μ10, e11⟩ : ∃ m, m = wr μ7 31 2 ((μ7 31 2) + (1 : Int32)) := ⟨_, rfl⟩
  replace h := h μ10 e11
  refine j_put C 31 2 sh_31 (by decide) cl_X8 (by decide) rfl in_X8_newFile_X8 lk_X8_newFile_94 rfl tyX8_ok nmX8 rfl rfl dX8_newFile_37 e11 ?_
  refine j_aload_n C 0 dX8_newFile_40 rfl ?_
  refine j_getI C 31 2 sh_31 (by decide) cl_X8 (by decide) rfl in_X8_newFile_X8 lk_X8_newFile_94 rfl dX8_newFile_41 ?_
  refine j_iconst (v := 1) C dX8_newFile_44 (by decide) ?_
  refine j_isub C dX8_newFile_45 ?_
  exact j_iret C hQ (by decide) (by decide) h dX8_newFile_46
/-! X8_copy -/
abbrev rm_X8_copy : Room := { frames := 2, cells := 0, slots := 0, locals := 45 }
theorem in_X8_copy_X8 : ∀ w ∈ wsX80, w ∈ wsX8_copy := by decide +kernel
theorem lk_X8_copy_108 : Cond.fieldLink RX8 108 "SameAgainModel" "bodies" "I" ∈ wsX8_copy := by decide +kernel
theorem lk_X8_copy_33 : Cond.fieldLink RX8 33 "SameAgainModel" "size" "[I" ∈ wsX8_copy := by decide +kernel
theorem lk_X8_copy_26 : Cond.fieldLink RX8 26 "SameAgainModel" "body" "[I" ∈ wsX8_copy := by decide +kernel
theorem lk_X8_copy_36 : Cond.fieldLink RX8 36 "SameAgainModel" "owner" "[I" ∈ wsX8_copy := by decide +kernel
theorem lk_X8_copy_118 : Cond.fieldLink RX8 118 "SameAgainModel" "day" "I" ∈ wsX8_copy := by decide +kernel
set_option maxHeartbeats 4000000 in
set_option maxRecDepth 100000 in
theorem c_X8_copy (l : Launch) (G : Gt) (hD : Dj G) (post : Int32 → Mem → Prop) (a1 a2 a3 : Int32) (μ : Mem) : MI G l yX8_copy wsX8_copy rm_X8_copy 0 0 [.ref (ad G 31), .int a1, .int a2, .int a3] μ (w_X8_copy post a1 a2 a3 μ) post := by
  refine mI_of (cc := cX8_copy) (maxL := 5) (ty := .int) (lv0 := [(0, .ref (ad G 31)), (1, .int a1), (2, .int a2), (3, .int a3)]) hD (by decide) rfl (Nat.le_of_ble_eq_true rfl) rfl ?_
  intro X Q hl C hQ h
  subst hl
  replace C : Cx G X cX8_copy RX8 wsX8_copy 5 rm_X8_copy := C
  unfold w_X8_copy at h
  refine j_aload_n C 0 dX8_copy_0 rfl ?_
  refine j_iload_n C 1 dX8_copy_1 rfl ?_
  refine j_cVI (n := 1) (rest := []) C 31 (c_X8_isFile (xl X) G C.2.2.1 _ a1 μ) h gX8_copy_X8_isFile rfl ⟨rfl, rfl⟩ (by decide +kernel) ⟨by decide, by decide⟩ ⟨by decide, by decide⟩ sh_31 (by decide) cl_X8 rfl rfl (Nat.le_of_ble_eq_true rfl) dX8_copy_2 rfl rfl (fun r2 μ1 h => ?_)
  refine j_if_eq C 16 dX8_copy_5 (by decide) (fun c20 => ?_) (fun c20 => ?_)
  · replace h := h.1 c20
    refine j_iconst (v := 0) C dX8_copy_16 (by decide) ?_
    exact j_iret C hQ (by decide) (by decide) h dX8_copy_17
  · replace h := h.2 c20
    refine j_aload_n C 0 dX8_copy_8 rfl ?_
    refine j_iload_n C 2 dX8_copy_9 rfl ?_
    refine j_cVI (n := 1) (rest := []) C 31 (c_X8_isFolder (xl X) G C.2.2.1 _ a2 μ1) h gX8_copy_X8_isFolder rfl ⟨rfl, rfl⟩ (by decide +kernel) ⟨by decide, by decide⟩ ⟨by decide, by decide⟩ sh_31 (by decide) cl_X8 rfl rfl (Nat.le_of_ble_eq_true rfl) dX8_copy_10 rfl rfl (fun r4 μ3 h => ?_)
    refine j_if_ne C 18 dX8_copy_13 (by decide) (fun c19 => ?_) (fun c19 => ?_)
    · replace h := h.1 c19
      refine j_aload_n C 0 dX8_copy_18 rfl ?_
      refine j_iload_n C 2 dX8_copy_19 rfl ?_
      refine j_iload_n C 3 dX8_copy_20 rfl ?_
      refine j_cVI (n := 2) (rest := []) C 31 (c_X8_canCome (xl X) G C.2.2.1 _ a2 a3 μ3) h gX8_copy_X8_canCome rfl ⟨rfl, rfl⟩ (by decide +kernel) ⟨by decide, by decide⟩ ⟨by decide, by decide⟩ sh_31 (by decide) cl_X8 rfl rfl (Nat.le_of_ble_eq_true rfl) dX8_copy_21 rfl rfl (fun r6 μ5 h => ?_)
      refine j_if_eq C 36 dX8_copy_24 (by decide) (fun c18 => ?_) (fun c18 => ?_)
      · replace h := h.1 c18
        refine j_iconst (v := -1) C dX8_copy_36 (by decide) ?_
        exact j_iret C hQ (by decide) (by decide) h dX8_copy_37
      · replace h := h.2 c18
        refine j_aload_n C 0 dX8_copy_27 rfl ?_
        refine j_getI C 31 3 sh_31 (by decide) cl_X8 (by decide) rfl in_X8_copy_X8 lk_X8_copy_108 rfl dX8_copy_28 ?_
        refine j_bipush (v := 100) C dX8_copy_31 (by decide) ?_
        refine j_icmp_ne C 38 dX8_copy_33 (by decide) (fun c17 => ?_) (fun c17 => ?_)
        · replace h := h.1 c17
          refine j_aload_n C 0 dX8_copy_38 rfl ?_
          refine j_aload_n C 0 dX8_copy_39 rfl ?_
          refine j_getR C 31 15 sh_31 (by decide) cl_X8 (by decide) rfl in_X8_copy_X8 lk_X8_copy_33 rfl dX8_copy_40 ?_
          refine j_aload_n C 0 dX8_copy_43 rfl ?_
          refine j_getR C 31 13 sh_31 (by decide) cl_X8 (by decide) rfl in_X8_copy_X8 lk_X8_copy_26 rfl dX8_copy_44 ?_
          refine j_iload_n C 1 dX8_copy_47 rfl ?_
          have b7 := h.1
          replace h := h.2
          refine j_iald C 36 sh_36 (by decide) b7 dX8_copy_48 ?_
          have b8 := h.1
          replace h := h.2
          refine j_iald C 38 sh_38 (by decide) b8 dX8_copy_49 ?_
          refine j_aload_n C 0 dX8_copy_50 rfl ?_
          refine j_getR C 31 16 sh_31 (by decide) cl_X8 (by decide) rfl in_X8_copy_X8 lk_X8_copy_36 rfl dX8_copy_51 ?_
          refine j_aload_n C 0 dX8_copy_54 rfl ?_
          refine j_getR C 31 13 sh_31 (by decide) cl_X8 (by decide) rfl in_X8_copy_X8 lk_X8_copy_26 rfl dX8_copy_55 ?_
          refine j_iload_n C 1 dX8_copy_58 rfl ?_
          have b9 := h.1
          replace h := h.2
          refine j_iald C 36 sh_36 (by decide) b9 dX8_copy_59 ?_
          have b10 := h.1
          replace h := h.2
          refine j_iald C 39 sh_39 (by decide) b10 dX8_copy_60 ?_
          refine j_aload_n C 0 dX8_copy_61 rfl ?_
          refine j_getI C 31 4 sh_31 (by decide) cl_X8 (by decide) rfl in_X8_copy_X8 lk_X8_copy_118 rfl dX8_copy_62 ?_
          refine j_cVI (n := 3) (rest := []) C 31 (c_X8_newBody (xl X) G C.2.2.1 _ (μ5 38 (ix (μ5 36 (ix a1)))) (μ5 39 (ix (μ5 36 (ix a1)))) (μ5 31 4) μ5) h gX8_copy_X8_newBody rfl ⟨rfl, rfl⟩ (by decide +kernel) ⟨by decide, by decide⟩ ⟨by decide, by decide⟩ sh_31 (by decide) cl_X8 rfl rfl (Nat.le_of_ble_eq_true rfl) dX8_copy_65 rfl rfl (fun r12 μ11 h => ?_)
          refine j_istore (lv' := [(0, .ref (ad G 31)), (1, .int a1), (2, .int a2), (3, .int a3), (4, .int r12)]) C dX8_copy_68 (by decide) rfl rfl ?_
          refine j_aload_n C 0 dX8_copy_70 rfl ?_
          refine j_iload C 4 dX8_copy_71 rfl ?_
          refine j_aload_n C 0 dX8_copy_73 rfl ?_
          refine j_getR C 31 13 sh_31 (by decide) cl_X8 (by decide) rfl in_X8_copy_X8 lk_X8_copy_26 rfl dX8_copy_74 ?_
          refine j_iload_n C 1 dX8_copy_77 rfl ?_
          have b13 := h.1
          replace h := h.2
          refine j_iald C 36 sh_36 (by decide) b13 dX8_copy_78 ?_
          refine j_cVV (n := 2) (rest := []) C 31 (c_X8_fillsFrom (xl X) G C.2.2.1 _ r12 (μ11 36 (ix a1)) μ11) h gX8_copy_X8_fillsFrom rfl ⟨rfl, rfl⟩ (by decide +kernel) ⟨by decide, by decide⟩ ⟨by decide, by decide⟩ sh_31 (by decide) cl_X8 rfl rfl (Nat.le_of_ble_eq_true rfl) dX8_copy_79 rfl rfl (fun μ14 h => ?_)
          refine j_aload_n C 0 dX8_copy_82 rfl ?_
          refine j_iload_n C 2 dX8_copy_83 rfl ?_
          refine j_iload_n C 3 dX8_copy_84 rfl ?_
          refine j_iload C 4 dX8_copy_85 rfl ?_
          refine j_cVI (n := 3) (rest := []) C 31 (c_X8_newFile (xl X) G C.2.2.1 _ a2 a3 r12 μ14) h gX8_copy_X8_newFile rfl ⟨rfl, rfl⟩ (by decide +kernel) ⟨by decide, by decide⟩ ⟨by decide, by decide⟩ sh_31 (by decide) cl_X8 rfl rfl (Nat.le_of_ble_eq_true rfl) dX8_copy_87 rfl rfl (fun r16 μ15 h => ?_)
          exact j_iret C hQ (by decide) (by decide) h dX8_copy_90
        · replace h := h.2 c17
          refine j_iconst (v := -1) C dX8_copy_36 (by decide) ?_
          exact j_iret C hQ (by decide) (by decide) h dX8_copy_37
    · replace h := h.2 c19
      refine j_iconst (v := 0) C dX8_copy_16 (by decide) ?_
      exact j_iret C hQ (by decide) (by decide) h dX8_copy_17
/-! X8_count -/
abbrev rm_X8_count : Room := { frames := 1, cells := 0, slots := 0, locals := 23 }
theorem in_X8_count_X8 : ∀ w ∈ wsX80, w ∈ wsX8_count := by decide +kernel
theorem lk_X8_count_87 : Cond.fieldLink RX8 87 "SameAgainModel" "thrown" "I" ∈ wsX8_count := by decide +kernel
theorem lk_X8_count_7 : Cond.fieldLink RX8 7 "SameAgainModel" "folders" "I" ∈ wsX8_count := by decide +kernel
theorem lk_X8_count_94 : Cond.fieldLink RX8 94 "SameAgainModel" "files" "I" ∈ wsX8_count := by decide +kernel
theorem lk_X8_count_20 : Cond.fieldLink RX8 20 "SameAgainModel" "in" "[I" ∈ wsX8_count := by decide +kernel
theorem lk_X8_count_108 : Cond.fieldLink RX8 108 "SameAgainModel" "bodies" "I" ∈ wsX8_count := by decide +kernel
theorem lk_X8_count_33 : Cond.fieldLink RX8 33 "SameAgainModel" "size" "[I" ∈ wsX8_count := by decide +kernel
theorem lk_X8_count_199 : Cond.fieldLink RX8 199 "SameAgainModel" "freed" "I" ∈ wsX8_count := by decide +kernel
theorem lk_X8_count_205 : Cond.fieldLink RX8 205 "SameAgainModel" "merged" "I" ∈ wsX8_count := by decide +kernel
theorem lk_X8_count_118 : Cond.fieldLink RX8 118 "SameAgainModel" "day" "I" ∈ wsX8_count := by decide +kernel
set_option maxHeartbeats 4000000 in
set_option maxRecDepth 100000 in
theorem w_X8_count_b83_j {G : Gt} {X : Cxt} {Q : State → Prop} (C : Cx G X cX8_count RX8 wsX8_count 4 rm_X8_count) {post : Int32 → Mem → Prop} (hQ : RetI G X Q post .int 0 0) : ∀ (n : Nat) (v2 v3 : Int32) (μ : Mem), itr (fun _ _ _ => False) (w_X8_count_b83 post) n v2 v3 μ → J G X Q 4 0 0 83 [(0, .ref (ad G 31)), (2, .int v2), (3, .int v3)] [] μ := by
  intro n
  induction n with
  | zero => intro v2 v3 μ h; exact h.elim
  | succ n ih =>
    intro v2 v3 μ h
    replace h : w_X8_count_b83 post (itr (fun _ _ _ => False) (w_X8_count_b83 post) n) v2 v3 μ := h
    generalize itr (fun _ _ _ => False) (w_X8_count_b83 post) n = k83 at ih h
    have hk83 := ih
    unfold w_X8_count_b83 at h
    refine j_iload_n C 2 dX8_count_83 rfl ?_
    refine j_aload_n C 0 dX8_count_84 rfl ?_
    refine j_getI C 31 2 sh_31 (by decide) cl_X8 (by decide) rfl in_X8_count_X8 lk_X8_count_94 rfl dX8_count_85 ?_
    refine j_icmp_ge C 110 dX8_count_88 (by decide) (fun c8 => ?_) (fun c8 => ?_)
    · replace h := h.1 c8
      refine j_iload_n C 1 dX8_count_110 rfl ?_
      exact j_iret C hQ (by decide) (by decide) h dX8_count_111
    · replace h := h.2 c8
      refine j_aload_n C 0 dX8_count_91 rfl ?_
      refine j_getR C 31 11 sh_31 (by decide) cl_X8 (by decide) rfl in_X8_count_X8 lk_X8_count_20 rfl dX8_count_92 ?_
      refine j_iload_n C 2 dX8_count_95 rfl ?_
      have b6 := h.1
      replace h := h.2
      refine j_iald C 34 sh_34 (by decide) b6 dX8_count_96 ?_
      refine j_iconst (v := -1) C dX8_count_97 (by decide) ?_
      refine j_icmp_eq C 104 dX8_count_98 (by decide) (fun c7 => ?_) (fun c7 => ?_)
      · replace h := h.1 c7
        refine j_iinc (v := v3 + (1 : Int32)) (lv' := [(0, .ref (ad G 31)), (2, .int v2), (3, .int (v3 + (1 : Int32)))]) C 2 dX8_count_104 rfl rfl (by decide) rfl rfl ?_
        refine j_goto C 83 dX8_count_107 (by decide) ?_
        exact hk83 _ _ _ h
      · replace h := h.2 c7
        refine j_iinc (v := v2 + (1 : Int32)) (lv' := [(0, .ref (ad G 31)), (2, .int (v2 + (1 : Int32))), (3, .int v3)]) C 1 dX8_count_101 rfl rfl (by decide) rfl rfl ?_
        refine j_iinc (v := v3 + (1 : Int32)) (lv' := [(0, .ref (ad G 31)), (2, .int (v2 + (1 : Int32))), (3, .int (v3 + (1 : Int32)))]) C 2 dX8_count_104 rfl rfl (by decide) rfl rfl ?_
        refine j_goto C 83 dX8_count_107 (by decide) ?_
        exact hk83 _ _ _ h
set_option maxHeartbeats 4000000 in
set_option maxRecDepth 100000 in
theorem w_X8_count_b114_j {G : Gt} {X : Cxt} {Q : State → Prop} (C : Cx G X cX8_count RX8 wsX8_count 4 rm_X8_count) {post : Int32 → Mem → Prop} (hQ : RetI G X Q post .int 0 0) : ∀ (n : Nat) (v2 v3 : Int32) (μ : Mem), itr (fun _ _ _ => False) (w_X8_count_b114 post) n v2 v3 μ → J G X Q 4 0 0 114 [(0, .ref (ad G 31)), (2, .int v2), (3, .int v3)] [] μ := by
  intro n
  induction n with
  | zero => intro v2 v3 μ h; exact h.elim
  | succ n ih =>
    intro v2 v3 μ h
    replace h : w_X8_count_b114 post (itr (fun _ _ _ => False) (w_X8_count_b114 post) n) v2 v3 μ := h
    generalize itr (fun _ _ _ => False) (w_X8_count_b114 post) n = k114 at ih h
    have hk114 := ih
    unfold w_X8_count_b114 at h
    refine j_iload_n C 2 dX8_count_114 rfl ?_
    refine j_aload_n C 0 dX8_count_115 rfl ?_
    refine j_getI C 31 3 sh_31 (by decide) cl_X8 (by decide) rfl in_X8_count_X8 lk_X8_count_108 rfl dX8_count_116 ?_
    refine j_icmp_ge C 139 dX8_count_119 (by decide) (fun c13 => ?_) (fun c13 => ?_)
    · replace h := h.1 c13
      refine j_iload_n C 1 dX8_count_139 rfl ?_
      exact j_iret C hQ (by decide) (by decide) h dX8_count_140
    · replace h := h.2 c13
      refine j_aload_n C 0 dX8_count_122 rfl ?_
      refine j_iload_n C 2 dX8_count_123 rfl ?_
      refine j_cVI (n := 1) (rest := []) C 31 (c_X8_names (xl X) G C.2.2.1 _ v3 μ) h gX8_count_X8_names rfl ⟨rfl, rfl⟩ (by decide +kernel) ⟨by decide, by decide⟩ ⟨by decide, by decide⟩ sh_31 (by decide) cl_X8 rfl rfl (Nat.le_of_ble_eq_true rfl) dX8_count_124 rfl rfl (fun r11 μ10 h => ?_)
      refine j_if_le C 133 dX8_count_127 (by decide) (fun c12 => ?_) (fun c12 => ?_)
      · replace h := h.1 c12
        refine j_iinc (v := v3 + (1 : Int32)) (lv' := [(0, .ref (ad G 31)), (2, .int v2), (3, .int (v3 + (1 : Int32)))]) C 2 dX8_count_133 rfl rfl (by decide) rfl rfl ?_
        refine j_goto C 114 dX8_count_136 (by decide) ?_
        exact hk114 _ _ _ h
      · replace h := h.2 c12
        refine j_iinc (v := v2 + (1 : Int32)) (lv' := [(0, .ref (ad G 31)), (2, .int (v2 + (1 : Int32))), (3, .int v3)]) C 1 dX8_count_130 rfl rfl (by decide) rfl rfl ?_
        refine j_iinc (v := v3 + (1 : Int32)) (lv' := [(0, .ref (ad G 31)), (2, .int (v2 + (1 : Int32))), (3, .int (v3 + (1 : Int32)))]) C 2 dX8_count_133 rfl rfl (by decide) rfl rfl ?_
        refine j_goto C 114 dX8_count_136 (by decide) ?_
        exact hk114 _ _ _ h
set_option maxHeartbeats 4000000 in
set_option maxRecDepth 100000 in
theorem w_X8_count_b143_j {G : Gt} {X : Cxt} {Q : State → Prop} (C : Cx G X cX8_count RX8 wsX8_count 4 rm_X8_count) {post : Int32 → Mem → Prop} (hQ : RetI G X Q post .int 0 0) : ∀ (n : Nat) (v2 v3 : Int32) (μ : Mem), itr (fun _ _ _ => False) (w_X8_count_b143 post) n v2 v3 μ → J G X Q 4 0 0 143 [(0, .ref (ad G 31)), (2, .int v2), (3, .int v3)] [] μ := by
  intro n
  induction n with
  | zero => intro v2 v3 μ h; exact h.elim
  | succ n ih =>
    intro v2 v3 μ h
    replace h : w_X8_count_b143 post (itr (fun _ _ _ => False) (w_X8_count_b143 post) n) v2 v3 μ := h
    generalize itr (fun _ _ _ => False) (w_X8_count_b143 post) n = k143 at ih h
    have hk143 := ih
    unfold w_X8_count_b143 at h
    refine j_iload_n C 2 dX8_count_143 rfl ?_
    refine j_aload_n C 0 dX8_count_144 rfl ?_
    refine j_getI C 31 3 sh_31 (by decide) cl_X8 (by decide) rfl in_X8_count_X8 lk_X8_count_108 rfl dX8_count_145 ?_
    refine j_icmp_ge C 174 dX8_count_148 (by decide) (fun c19 => ?_) (fun c19 => ?_)
    · replace h := h.1 c19
      refine j_iload_n C 1 dX8_count_174 rfl ?_
      exact j_iret C hQ (by decide) (by decide) h dX8_count_175
    · replace h := h.2 c19
      refine j_aload_n C 0 dX8_count_151 rfl ?_
      refine j_iload_n C 2 dX8_count_152 rfl ?_
      refine j_cVI (n := 1) (rest := []) C 31 (c_X8_names (xl X) G C.2.2.1 _ v3 μ) h gX8_count_X8_names rfl ⟨rfl, rfl⟩ (by decide +kernel) ⟨by decide, by decide⟩ ⟨by decide, by decide⟩ sh_31 (by decide) cl_X8 rfl rfl (Nat.le_of_ble_eq_true rfl) dX8_count_153 rfl rfl (fun r16 μ15 h => ?_)
      refine j_if_le C 168 dX8_count_156 (by decide) (fun c18 => ?_) (fun c18 => ?_)
      · replace h := h.1 c18
        refine j_iinc (v := v3 + (1 : Int32)) (lv' := [(0, .ref (ad G 31)), (2, .int v2), (3, .int (v3 + (1 : Int32)))]) C 2 dX8_count_168 rfl rfl (by decide) rfl rfl ?_
        refine j_goto C 143 dX8_count_171 (by decide) ?_
        exact hk143 _ _ _ h
      · replace h := h.2 c18
        refine j_iload_n C 1 dX8_count_159 rfl ?_
        refine j_aload_n C 0 dX8_count_160 rfl ?_
        refine j_getR C 31 15 sh_31 (by decide) cl_X8 (by decide) rfl in_X8_count_X8 lk_X8_count_33 rfl dX8_count_161 ?_
        refine j_iload_n C 2 dX8_count_164 rfl ?_
        have b17 := h.1
        replace h := h.2
        refine j_iald C 38 sh_38 (by decide) b17 dX8_count_165 ?_
        refine j_iadd C dX8_count_166 ?_
        refine j_istore_n (lv' := [(0, .ref (ad G 31)), (2, .int (v2 + (μ15 38 (ix v3)))), (3, .int v3)]) C dX8_count_167 (by decide) rfl rfl ?_
        refine j_iinc (v := v3 + (1 : Int32)) (lv' := [(0, .ref (ad G 31)), (2, .int (v2 + (μ15 38 (ix v3)))), (3, .int (v3 + (1 : Int32)))]) C 2 dX8_count_168 rfl rfl (by decide) rfl rfl ?_
        refine j_goto C 143 dX8_count_171 (by decide) ?_
        exact hk143 _ _ _ h
set_option maxHeartbeats 4000000 in
set_option maxRecDepth 100000 in
theorem w_X8_count_b21_j {G : Gt} {X : Cxt} {Q : State → Prop} (C : Cx G X cX8_count RX8 wsX8_count 4 rm_X8_count) {post : Int32 → Mem → Prop} (hQ : RetI G X Q post .int 0 0) {v1 s0 : Int32} {μ : Mem} (h : w_X8_count_b21 post v1 s0 μ) : J G X Q 4 0 0 21 [(0, .ref (ad G 31)), (1, .int v1)] [.int s0, .ref (ad G 31)] μ := by
  unfold w_X8_count_b21 at h
  refine j_iconst (v := 1) C dX8_count_21 (by decide) ?_
  refine j_cVI (n := 2) (rest := []) C 31 (c_X8_right (xl X) G C.2.2.1 _ s0 (1 : Int32) μ) h gX8_count_X8_right rfl ⟨rfl, rfl⟩ (by decide +kernel) ⟨by decide, by decide⟩ ⟨by decide, by decide⟩ sh_31 (by decide) cl_X8 rfl rfl (Nat.le_of_ble_eq_true rfl) dX8_count_22 rfl rfl (fun r4 μ3 h => ?_)
  refine j_if_ne C 30 dX8_count_25 (by decide) (fun c24 => ?_) (fun c24 => ?_)
  · replace h := h.1 c24
    refine j_iconst (v := 0) C dX8_count_30 (by decide) ?_
    refine j_istore_n (lv' := [(0, .ref (ad G 31)), (1, .int v1), (2, .int (0 : Int32))]) C dX8_count_31 (by decide) rfl rfl ?_
    refine j_iload_n C 1 dX8_count_32 rfl ?_
    refine j_case (x := v1) (v := 0) (fun c5 => ?_) (fun c5 => ?_)
    · replace h := h.1 c5
      refine j_tsIn C 76 dX8_count_33 c5 (by decide) (by decide) rfl (by decide) ?_
      refine j_aload_n C 0 dX8_count_76 rfl ?_
      refine j_getI C 31 1 sh_31 (by decide) cl_X8 (by decide) rfl in_X8_count_X8 lk_X8_count_7 rfl dX8_count_77 ?_
      exact j_iret C hQ (by decide) (by decide) h dX8_count_80
    · replace h := h.2 c5
      refine j_case (x := v1) (v := 1) (fun c9 => ?_) (fun c9 => ?_)
      · replace h := h.1 c9
        refine j_tsIn C 81 dX8_count_33 c9 (by decide) (by decide) rfl (by decide) ?_
        refine j_iconst (v := 0) C dX8_count_81 (by decide) ?_
        refine j_istore_n (lv' := [(0, .ref (ad G 31)), (1, .int v1), (2, .int (0 : Int32)), (3, .int (0 : Int32))]) C dX8_count_82 (by decide) rfl rfl ?_
        refine j_forget [0, 2, 3] rfl ?_
        obtain ⟨n9, h⟩ := h
        exact w_X8_count_b83_j C hQ n9 _ _ _ h
      · replace h := h.2 c9
        refine j_case (x := v1) (v := 2) (fun c14 => ?_) (fun c14 => ?_)
        · replace h := h.1 c14
          refine j_tsIn C 112 dX8_count_33 c14 (by decide) (by decide) rfl (by decide) ?_
          refine j_iconst (v := 0) C dX8_count_112 (by decide) ?_
          refine j_istore_n (lv' := [(0, .ref (ad G 31)), (1, .int v1), (2, .int (0 : Int32)), (3, .int (0 : Int32))]) C dX8_count_113 (by decide) rfl rfl ?_
          refine j_forget [0, 2, 3] rfl ?_
          obtain ⟨n9, h⟩ := h
          exact w_X8_count_b114_j C hQ n9 _ _ _ h
        · replace h := h.2 c14
          refine j_case (x := v1) (v := 3) (fun c20 => ?_) (fun c20 => ?_)
          · replace h := h.1 c20
            refine j_tsIn C 141 dX8_count_33 c20 (by decide) (by decide) rfl (by decide) ?_
            refine j_iconst (v := 0) C dX8_count_141 (by decide) ?_
            refine j_istore_n (lv' := [(0, .ref (ad G 31)), (1, .int v1), (2, .int (0 : Int32)), (3, .int (0 : Int32))]) C dX8_count_142 (by decide) rfl rfl ?_
            refine j_forget [0, 2, 3] rfl ?_
            obtain ⟨n9, h⟩ := h
            exact w_X8_count_b143_j C hQ n9 _ _ _ h
          · replace h := h.2 c20
            refine j_case (x := v1) (v := 4) (fun c21 => ?_) (fun c21 => ?_)
            · replace h := h.1 c21
              refine j_tsIn C 176 dX8_count_33 c21 (by decide) (by decide) rfl (by decide) ?_
              refine j_aload_n C 0 dX8_count_176 rfl ?_
              refine j_getI C 31 5 sh_31 (by decide) cl_X8 (by decide) rfl in_X8_count_X8 lk_X8_count_199 rfl dX8_count_177 ?_
              exact j_iret C hQ (by decide) (by decide) h dX8_count_180
            · replace h := h.2 c21
              refine j_case (x := v1) (v := 5) (fun c22 => ?_) (fun c22 => ?_)
              · replace h := h.1 c22
                refine j_tsIn C 181 dX8_count_33 c22 (by decide) (by decide) rfl (by decide) ?_
                refine j_aload_n C 0 dX8_count_181 rfl ?_
                refine j_getI C 31 23 sh_31 (by decide) cl_X8 (by decide) rfl in_X8_count_X8 lk_X8_count_205 rfl dX8_count_182 ?_
                exact j_iret C hQ (by decide) (by decide) h dX8_count_185
              · replace h := h.2 c22
                refine j_case (x := v1) (v := 6) (fun c23 => ?_) (fun c23 => ?_)
                · replace h := h.1 c23
                  refine j_tsIn C 186 dX8_count_33 c23 (by decide) (by decide) rfl (by decide) ?_
                  refine j_aload_n C 0 dX8_count_186 rfl ?_
                  refine j_getI C 31 4 sh_31 (by decide) cl_X8 (by decide) rfl in_X8_count_X8 lk_X8_count_118 rfl dX8_count_187 ?_
                  exact j_iret C hQ (by decide) (by decide) h dX8_count_190
                · replace h := h.2 c23
                  refine j_tsOut C 191 dX8_count_33 ?_ (by decide) ?_
                  · have z0 := lv_neT (a := 0) c5 (by decide); have z1 := lv_neT (a := 1) c9 (by decide); have z2 := lv_neT (a := 2) c14 (by decide); have z3 := lv_neT (a := 3) c20 (by decide); have z4 := lv_neT (a := 4) c21 (by decide); have z5 := lv_neT (a := 5) c22 (by decide); have z6 := lv_neT (a := 6) c23 (by decide); omega
                  · refine j_aload_n C 0 dX8_count_191 rfl ?_
                    refine j_getI C 31 3 sh_31 (by decide) cl_X8 (by decide) rfl in_X8_count_X8 lk_X8_count_108 rfl dX8_count_192 ?_
                    exact j_iret C hQ (by decide) (by decide) h dX8_count_195
  · replace h := h.2 c24
    refine j_iconst (v := 0) C dX8_count_28 (by decide) ?_
    exact j_iret C hQ (by decide) (by decide) h dX8_count_29
set_option maxHeartbeats 4000000 in
set_option maxRecDepth 100000 in
theorem w_X8_count_b20_j {G : Gt} {X : Cxt} {Q : State → Prop} (C : Cx G X cX8_count RX8 wsX8_count 4 rm_X8_count) {post : Int32 → Mem → Prop} (hQ : RetI G X Q post .int 0 0) {v1 : Int32} {μ : Mem} (h : w_X8_count_b20 post v1 μ) : J G X Q 4 0 0 20 [(0, .ref (ad G 31)), (1, .int v1)] [.ref (ad G 31)] μ := by
  unfold w_X8_count_b20 at h
  refine j_iconst (v := 0) C dX8_count_20 (by decide) ?_
  exact w_X8_count_b21_j C hQ h
set_option maxHeartbeats 4000000 in
set_option maxRecDepth 100000 in
theorem c_X8_count (l : Launch) (G : Gt) (hD : Dj G) (post : Int32 → Mem → Prop) (a1 : Int32) (μ : Mem) : MI G l yX8_count wsX8_count rm_X8_count 0 0 [.ref (ad G 31), .int a1] μ (w_X8_count post a1 μ) post := by
  refine mI_of (cc := cX8_count) (maxL := 4) (ty := .int) (lv0 := [(0, .ref (ad G 31)), (1, .int a1)]) hD (by decide) rfl (Nat.le_of_ble_eq_true rfl) rfl ?_
  intro X Q hl C hQ h
  subst hl
  replace C : Cx G X cX8_count RX8 wsX8_count 4 rm_X8_count := C
  unfold w_X8_count at h
  refine j_aload_n C 0 dX8_count_0 rfl ?_
  refine j_iconst (v := 0) C dX8_count_1 (by decide) ?_
  obtain ⟨μ1, e2⟩ : ∃ m, m = wr μ 31 0 (0 : Int32) := ⟨_, rfl⟩
  replace h := h μ1 e2
  refine j_put C 31 0 sh_31 (by decide) cl_X8 (by decide) rfl in_X8_count_X8 lk_X8_count_87 rfl tyX8_ok nmX8 rfl rfl dX8_count_2 e2 ?_
  refine j_aload_n C 0 dX8_count_5 rfl ?_
  refine j_iload_n C 1 dX8_count_6 rfl ?_
  refine j_if_lt C 20 dX8_count_7 (by decide) (fun c26 => ?_) (fun c26 => ?_)
  · replace h := h.1 c26
    exact w_X8_count_b20_j C hQ h
  · replace h := h.2 c26
    refine j_iload_n C 1 dX8_count_10 rfl ?_
    refine j_bipush (v := 7) C dX8_count_11 (by decide) ?_
    refine j_icmp_gt C 20 dX8_count_13 (by decide) (fun c25 => ?_) (fun c25 => ?_)
    · replace h := h.1 c25
      exact w_X8_count_b20_j C hQ h
    · replace h := h.2 c25
      refine j_iconst (v := 1) C dX8_count_16 (by decide) ?_
      refine j_goto C 21 dX8_count_17 (by decide) ?_
      exact w_X8_count_b21_j C hQ h
