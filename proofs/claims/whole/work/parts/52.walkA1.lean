/-! X3_has -/
abbrev rm_X3_has : Room := { frames := 0, cells := 0, slots := 0, locals := 0 }
theorem in_X3_has_X3 : ∀ w ∈ wsX30, w ∈ wsX3_has := by decide +kernel
theorem lk_X3_has_21 : Cond.fieldLink RX3 21 "SameAgain$Folders" "made" "I" ∈ wsX3_has := by decide +kernel
set_option maxHeartbeats 4000000 in
set_option maxRecDepth 100000 in
theorem c_X3_has (l : Launch) (G : Gt) (hD : Dj G) (post : Int32 → Mem → Prop) (a1 : Int32) (μ : Mem) : MI G l yX3_has wsX3_has rm_X3_has 0 0 [.ref (ad G 1), .int a1] μ (w_X3_has post a1 μ) post := by
  refine mI_of (cc := cX3_has) (maxL := 2) (ty := .boolean) (lv0 := [(0, .ref (ad G 1)), (1, .int a1)]) hD (by decide) rfl (Nat.le_of_ble_eq_true rfl) rfl ?_
  intro X Q hl C hQ h
  subst hl
  replace C : Cx G X cX3_has RX3 wsX3_has 2 rm_X3_has := C
  unfold w_X3_has at h
  refine j_iload_n C 1 dX3_has_0 rfl ?_
  refine j_if_lt C 16 dX3_has_1 (by decide) (fun c2 => ?_) (fun c2 => ?_)
  · replace h := h.1 c2
    refine j_iconst (v := 0) C dX3_has_16 (by decide) ?_
    exact j_zret C hQ (by decide) (by decide) rfl h dX3_has_17
  · replace h := h.2 c2
    refine j_iload_n C 1 dX3_has_4 rfl ?_
    refine j_aload_n C 0 dX3_has_5 rfl ?_
    refine j_getI C 1 3 sh_1 (by decide) cl_X3 (by decide) rfl in_X3_has_X3 lk_X3_has_21 rfl dX3_has_6 ?_
    refine j_icmp_ge C 16 dX3_has_9 (by decide) (fun c1 => ?_) (fun c1 => ?_)
    · replace h := h.1 c1
      refine j_iconst (v := 0) C dX3_has_16 (by decide) ?_
      exact j_zret C hQ (by decide) (by decide) rfl h dX3_has_17
    · replace h := h.2 c1
      refine j_iconst (v := 1) C dX3_has_12 (by decide) ?_
      refine j_goto C 17 dX3_has_13 (by decide) ?_
      exact j_zret C hQ (by decide) (by decide) rfl h dX3_has_17
/-! X3_hasRoom -/
abbrev rm_X3_hasRoom : Room := { frames := 0, cells := 0, slots := 0, locals := 0 }
theorem in_X3_hasRoom_X3 : ∀ w ∈ wsX30, w ∈ wsX3_hasRoom := by decide +kernel
theorem lk_X3_hasRoom_21 : Cond.fieldLink RX3 21 "SameAgain$Folders" "made" "I" ∈ wsX3_hasRoom := by decide +kernel
set_option maxHeartbeats 4000000 in
set_option maxRecDepth 100000 in
theorem c_X3_hasRoom (l : Launch) (G : Gt) (hD : Dj G) (post : Int32 → Mem → Prop) (μ : Mem) : MI G l yX3_hasRoom wsX3_hasRoom rm_X3_hasRoom 0 0 [.ref (ad G 1)] μ (w_X3_hasRoom post μ) post := by
  refine mI_of (cc := cX3_hasRoom) (maxL := 1) (ty := .boolean) (lv0 := [(0, .ref (ad G 1))]) hD (by decide) rfl (Nat.le_of_ble_eq_true rfl) rfl ?_
  intro X Q hl C hQ h
  subst hl
  replace C : Cx G X cX3_hasRoom RX3 wsX3_hasRoom 1 rm_X3_hasRoom := C
  unfold w_X3_hasRoom at h
  refine j_aload_n C 0 dX3_hasRoom_0 rfl ?_
  refine j_getI C 1 3 sh_1 (by decide) cl_X3 (by decide) rfl in_X3_hasRoom_X3 lk_X3_hasRoom_21 rfl dX3_hasRoom_1 ?_
  refine j_bipush (v := 16) C dX3_hasRoom_4 (by decide) ?_
  refine j_icmp_ge C 13 dX3_hasRoom_6 (by decide) (fun c1 => ?_) (fun c1 => ?_)
  · replace h := h.1 c1
    refine j_iconst (v := 0) C dX3_hasRoom_13 (by decide) ?_
    exact j_zret C hQ (by decide) (by decide) rfl h dX3_hasRoom_14
  · replace h := h.2 c1
    refine j_iconst (v := 1) C dX3_hasRoom_9 (by decide) ?_
    refine j_goto C 14 dX3_hasRoom_10 (by decide) ?_
    exact j_zret C hQ (by decide) (by decide) rfl h dX3_hasRoom_14
/-! X3_isInOrBelow -/
abbrev rm_X3_isInOrBelow : Room := { frames := 0, cells := 0, slots := 0, locals := 0 }
theorem in_X3_isInOrBelow_X3 : ∀ w ∈ wsX30, w ∈ wsX3_isInOrBelow := by decide +kernel
theorem lk_X3_isInOrBelow_9 : Cond.fieldLink RX3 9 "SameAgain$Folders" "in" "[I" ∈ wsX3_isInOrBelow := by decide +kernel
set_option maxHeartbeats 4000000 in
set_option maxRecDepth 100000 in
theorem w_X3_isInOrBelow_b5_j {G : Gt} {X : Cxt} {Q : State → Prop} (C : Cx G X cX3_isInOrBelow RX3 wsX3_isInOrBelow 5 rm_X3_isInOrBelow) {post : Int32 → Mem → Prop} (hQ : RetI G X Q post .boolean 0 0) : ∀ (n : Nat) (v2 v3 v4 : Int32) (μ : Mem), itr (fun _ _ _ _ => False) (w_X3_isInOrBelow_b5 post) n v2 v3 v4 μ → J G X Q 5 0 0 5 [(0, .ref (ad G 1)), (2, .int v2), (3, .int v3), (4, .int v4)] [] μ := by
  intro n
  induction n with
  | zero => intro v2 v3 v4 μ h; exact h.elim
  | succ n ih =>
    intro v2 v3 v4 μ h
    replace h : w_X3_isInOrBelow_b5 post (itr (fun _ _ _ _ => False) (w_X3_isInOrBelow_b5 post) n) v2 v3 v4 μ := h
    generalize itr (fun _ _ _ _ => False) (w_X3_isInOrBelow_b5 post) n = k5 at ih h
    have hk5 := ih
    unfold w_X3_isInOrBelow_b5 at h
    refine j_iload C 3 dX3_isInOrBelow_5 rfl ?_
    refine j_bipush (v := 16) C dX3_isInOrBelow_7 (by decide) ?_
    refine j_icmp_ge C 37 dX3_isInOrBelow_9 (by decide) (fun c4 => ?_) (fun c4 => ?_)
    · replace h := h.1 c4
      refine j_iconst (v := 0) C dX3_isInOrBelow_37 (by decide) ?_
      exact j_zret C hQ (by decide) (by decide) rfl h dX3_isInOrBelow_38
    · replace h := h.2 c4
      refine j_iload_n C 2 dX3_isInOrBelow_12 rfl ?_
      refine j_iconst (v := -1) C dX3_isInOrBelow_13 (by decide) ?_
      refine j_icmp_eq C 37 dX3_isInOrBelow_14 (by decide) (fun c3 => ?_) (fun c3 => ?_)
      · replace h := h.1 c3
        refine j_iconst (v := 0) C dX3_isInOrBelow_37 (by decide) ?_
        exact j_zret C hQ (by decide) (by decide) rfl h dX3_isInOrBelow_38
      · replace h := h.2 c3
        refine j_iload_n C 2 dX3_isInOrBelow_17 rfl ?_
        refine j_iload_n C 1 dX3_isInOrBelow_18 rfl ?_
        refine j_icmp_ne C 24 dX3_isInOrBelow_19 (by decide) (fun c2 => ?_) (fun c2 => ?_)
        · replace h := h.1 c2
          refine j_aload_n C 0 dX3_isInOrBelow_24 rfl ?_
          refine j_getR C 1 0 sh_1 (by decide) cl_X3 (by decide) rfl in_X3_isInOrBelow_X3 lk_X3_isInOrBelow_9 rfl dX3_isInOrBelow_25 ?_
          refine j_iload_n C 2 dX3_isInOrBelow_28 rfl ?_
          have b1 := h.1
          replace h := h.2
          refine j_iald C 11 sh_11 (by decide) b1 dX3_isInOrBelow_29 ?_
          refine j_istore_n (lv' := [(0, .ref (ad G 1)), (2, .int v2), (3, .int (μ 11 (ix v3))), (4, .int v4)]) C dX3_isInOrBelow_30 (by decide) rfl rfl ?_
          refine j_iinc (v := v4 + (1 : Int32)) (lv' := [(0, .ref (ad G 1)), (2, .int v2), (3, .int (μ 11 (ix v3))), (4, .int (v4 + (1 : Int32)))]) C 3 dX3_isInOrBelow_31 rfl rfl (by decide) rfl rfl ?_
          refine j_goto C 5 dX3_isInOrBelow_34 (by decide) ?_
          exact hk5 _ _ _ _ h
        · replace h := h.2 c2
          refine j_iconst (v := 1) C dX3_isInOrBelow_22 (by decide) ?_
          exact j_zret C hQ (by decide) (by decide) rfl h dX3_isInOrBelow_23
set_option maxHeartbeats 4000000 in
set_option maxRecDepth 100000 in
theorem c_X3_isInOrBelow (l : Launch) (G : Gt) (hD : Dj G) (post : Int32 → Mem → Prop) (a1 a2 : Int32) (μ : Mem) : MI G l yX3_isInOrBelow wsX3_isInOrBelow rm_X3_isInOrBelow 0 0 [.ref (ad G 1), .int a1, .int a2] μ (w_X3_isInOrBelow post a1 a2 μ) post := by
  refine mI_of (cc := cX3_isInOrBelow) (maxL := 5) (ty := .boolean) (lv0 := [(0, .ref (ad G 1)), (1, .int a1), (2, .int a2)]) hD (by decide) rfl (Nat.le_of_ble_eq_true rfl) rfl ?_
  intro X Q hl C hQ h
  subst hl
  replace C : Cx G X cX3_isInOrBelow RX3 wsX3_isInOrBelow 5 rm_X3_isInOrBelow := C
  unfold w_X3_isInOrBelow at h
  refine j_iload_n C 1 dX3_isInOrBelow_0 rfl ?_
  refine j_istore_n (lv' := [(0, .ref (ad G 1)), (1, .int a1), (2, .int a2), (3, .int a1)]) C dX3_isInOrBelow_1 (by decide) rfl rfl ?_
  refine j_iconst (v := 0) C dX3_isInOrBelow_2 (by decide) ?_
  refine j_istore (lv' := [(0, .ref (ad G 1)), (1, .int a1), (2, .int a2), (3, .int a1), (4, .int (0 : Int32))]) C dX3_isInOrBelow_3 (by decide) rfl rfl ?_
  refine j_forget [0, 2, 3, 4] rfl ?_
  obtain ⟨n9, h⟩ := h
  exact w_X3_isInOrBelow_b5_j C hQ n9 _ _ _ _ h
/-! X3_make -/
abbrev rm_X3_make : Room := { frames := 0, cells := 0, slots := 0, locals := 0 }
theorem in_X3_make_X3 : ∀ w ∈ wsX30, w ∈ wsX3_make := by decide +kernel
theorem lk_X3_make_21 : Cond.fieldLink RX3 21 "SameAgain$Folders" "made" "I" ∈ wsX3_make := by decide +kernel
theorem lk_X3_make_9 : Cond.fieldLink RX3 9 "SameAgain$Folders" "in" "[I" ∈ wsX3_make := by decide +kernel
theorem lk_X3_make_15 : Cond.fieldLink RX3 15 "SameAgain$Folders" "name" "[I" ∈ wsX3_make := by decide +kernel
theorem lk_X3_make_18 : Cond.fieldLink RX3 18 "SameAgain$Folders" "above" "[I" ∈ wsX3_make := by decide +kernel
set_option maxHeartbeats 4000000 in
set_option maxRecDepth 100000 in
theorem c_X3_make (l : Launch) (G : Gt) (hD : Dj G) (post : Int32 → Mem → Prop) (a1 a2 : Int32) (μ : Mem) : MI G l yX3_make wsX3_make rm_X3_make 0 0 [.ref (ad G 1), .int a1, .int a2] μ (w_X3_make post a1 a2 μ) post := by
  refine mI_of (cc := cX3_make) (maxL := 4) (ty := .int) (lv0 := [(0, .ref (ad G 1)), (1, .int a1), (2, .int a2)]) hD (by decide) rfl (Nat.le_of_ble_eq_true rfl) rfl ?_
  intro X Q hl C hQ h
  subst hl
  replace C : Cx G X cX3_make RX3 wsX3_make 4 rm_X3_make := C
  unfold w_X3_make at h
  refine j_aload_n C 0 dX3_make_0 rfl ?_
  refine j_getI C 1 3 sh_1 (by decide) cl_X3 (by decide) rfl in_X3_make_X3 lk_X3_make_21 rfl dX3_make_1 ?_
  refine j_istore_n (lv' := [(0, .ref (ad G 1)), (1, .int a1), (2, .int a2), (3, .int (μ 1 3))]) C dX3_make_4 (by decide) rfl rfl ?_
  refine j_aload_n C 0 dX3_make_5 rfl ?_
  refine j_dup C dX3_make_6 rfl ?_
  refine j_getI C 1 3 sh_1 (by decide) cl_X3 (by decide) rfl in_X3_make_X3 lk_X3_make_21 rfl dX3_make_7 ?_
  refine j_iconst (v := 1) C dX3_make_10 (by decide) ?_
  refine j_iadd C dX3_make_11 ?_
  obtain ⟨μ1, e2⟩ : ∃ m, m = wr μ 1 3 ((μ 1 3) + (1 : Int32)) := ⟨_, rfl⟩
  replace h := h μ1 e2
  refine j_put C 1 3 sh_1 (by decide) cl_X3 (by decide) rfl in_X3_make_X3 lk_X3_make_21 rfl tyX3_ok nmX3 rfl rfl dX3_make_12 e2 ?_
  refine j_aload_n C 0 dX3_make_15 rfl ?_
  refine j_getR C 1 0 sh_1 (by decide) cl_X3 (by decide) rfl in_X3_make_X3 lk_X3_make_9 rfl dX3_make_16 ?_
  refine j_iload_n C 3 dX3_make_19 rfl ?_
  refine j_iload_n C 1 dX3_make_20 rfl ?_
  obtain ⟨μ3, e4⟩ : ∃ m, m = wr μ1 11 (ix (μ 1 3)) a1 := ⟨_, rfl⟩
  have b5 := h.1
  replace h := h.2 μ3 e4
  refine j_iast C 11 sh_11 (by decide) b5 dX3_make_21 e4 ?_
  refine j_aload_n C 0 dX3_make_22 rfl ?_
  refine j_getR C 1 1 sh_1 (by decide) cl_X3 (by decide) rfl in_X3_make_X3 lk_X3_make_15 rfl dX3_make_23 ?_
  refine j_iload_n C 3 dX3_make_26 rfl ?_
  refine j_iload_n C 2 dX3_make_27 rfl ?_
  obtain ⟨μ6, e7⟩ : ∃ m, m = wr μ3 12 (ix (μ 1 3)) a2 := ⟨_, rfl⟩
  have b8 := h.1
  replace h := h.2 μ6 e7
  refine j_iast C 12 sh_12 (by decide) b8 dX3_make_28 e7 ?_
  refine j_aload_n C 0 dX3_make_29 rfl ?_
  refine j_getR C 1 2 sh_1 (by decide) cl_X3 (by decide) rfl in_X3_make_X3 lk_X3_make_18 rfl dX3_make_30 ?_
  refine j_iload_n C 3 dX3_make_33 rfl ?_
  refine j_aload_n C 0 dX3_make_34 rfl ?_
  refine j_getR C 1 2 sh_1 (by decide) cl_X3 (by decide) rfl in_X3_make_X3 lk_X3_make_18 rfl dX3_make_35 ?_
  refine j_iload_n C 1 dX3_make_38 rfl ?_
  have b9 := h.1
  replace h := h.2
  refine j_iald C 13 sh_13 (by decide) b9 dX3_make_39 ?_
  refine j_iconst (v := 1) C dX3_make_40 (by decide) ?_
  refine j_iadd C dX3_make_41 ?_
  obtain ⟨μ10, e11⟩ : ∃ m, m = wr μ6 13 (ix (μ 1 3)) ((μ6 13 (ix a1)) + (1 : Int32)) := ⟨_, rfl⟩
  have b12 := h.1
  replace h := h.2 μ10 e11
  refine j_iast C 13 sh_13 (by decide) b12 dX3_make_42 e11 ?_
  refine j_iload_n C 3 dX3_make_43 rfl ?_
  exact j_iret C hQ (by decide) (by decide) h dX3_make_44
/-! X3_named -/
abbrev rm_X3_named : Room := { frames := 0, cells := 0, slots := 0, locals := 0 }
theorem in_X3_named_X3 : ∀ w ∈ wsX30, w ∈ wsX3_named := by decide +kernel
theorem lk_X3_named_21 : Cond.fieldLink RX3 21 "SameAgain$Folders" "made" "I" ∈ wsX3_named := by decide +kernel
theorem lk_X3_named_9 : Cond.fieldLink RX3 9 "SameAgain$Folders" "in" "[I" ∈ wsX3_named := by decide +kernel
theorem lk_X3_named_15 : Cond.fieldLink RX3 15 "SameAgain$Folders" "name" "[I" ∈ wsX3_named := by decide +kernel
set_option maxHeartbeats 4000000 in
set_option maxRecDepth 100000 in
theorem w_X3_named_b2_j {G : Gt} {X : Cxt} {Q : State → Prop} (C : Cx G X cX3_named RX3 wsX3_named 4 rm_X3_named) {post : Int32 → Mem → Prop} (hQ : RetI G X Q post .int 0 0) : ∀ (n : Nat) (v1 v2 v3 : Int32) (μ : Mem), itr (fun _ _ _ _ => False) (w_X3_named_b2 post) n v1 v2 v3 μ → J G X Q 4 0 0 2 [(0, .ref (ad G 1)), (1, .int v1), (2, .int v2), (3, .int v3)] [] μ := by
  intro n
  induction n with
  | zero => intro v1 v2 v3 μ h; exact h.elim
  | succ n ih =>
    intro v1 v2 v3 μ h
    replace h : w_X3_named_b2 post (itr (fun _ _ _ _ => False) (w_X3_named_b2 post) n) v1 v2 v3 μ := h
    generalize itr (fun _ _ _ _ => False) (w_X3_named_b2 post) n = k2 at ih h
    have hk2 := ih
    unfold w_X3_named_b2 at h
    refine j_iload_n C 3 dX3_named_2 rfl ?_
    refine j_aload_n C 0 dX3_named_3 rfl ?_
    refine j_getI C 1 3 sh_1 (by decide) cl_X3 (by decide) rfl in_X3_named_X3 lk_X3_named_21 rfl dX3_named_4 ?_
    refine j_icmp_ge C 38 dX3_named_7 (by decide) (fun c5 => ?_) (fun c5 => ?_)
    · replace h := h.1 c5
      refine j_iconst (v := -1) C dX3_named_38 (by decide) ?_
      exact j_iret C hQ (by decide) (by decide) h dX3_named_39
    · replace h := h.2 c5
      refine j_aload_n C 0 dX3_named_10 rfl ?_
      refine j_getR C 1 0 sh_1 (by decide) cl_X3 (by decide) rfl in_X3_named_X3 lk_X3_named_9 rfl dX3_named_11 ?_
      refine j_iload_n C 3 dX3_named_14 rfl ?_
      have b1 := h.1
      replace h := h.2
      refine j_iald C 11 sh_11 (by decide) b1 dX3_named_15 ?_
      refine j_iload_n C 1 dX3_named_16 rfl ?_
      refine j_icmp_ne C 32 dX3_named_17 (by decide) (fun c4 => ?_) (fun c4 => ?_)
      · replace h := h.1 c4
        refine j_iinc (v := v3 + (1 : Int32)) (lv' := [(0, .ref (ad G 1)), (1, .int v1), (2, .int v2), (3, .int (v3 + (1 : Int32)))]) C 3 dX3_named_32 rfl rfl (by decide) rfl rfl ?_
        refine j_goto C 2 dX3_named_35 (by decide) ?_
        exact hk2 _ _ _ _ h
      · replace h := h.2 c4
        refine j_aload_n C 0 dX3_named_20 rfl ?_
        refine j_getR C 1 1 sh_1 (by decide) cl_X3 (by decide) rfl in_X3_named_X3 lk_X3_named_15 rfl dX3_named_21 ?_
        refine j_iload_n C 3 dX3_named_24 rfl ?_
        have b2 := h.1
        replace h := h.2
        refine j_iald C 12 sh_12 (by decide) b2 dX3_named_25 ?_
        refine j_iload_n C 2 dX3_named_26 rfl ?_
        refine j_icmp_ne C 32 dX3_named_27 (by decide) (fun c3 => ?_) (fun c3 => ?_)
        · replace h := h.1 c3
          refine j_iinc (v := v3 + (1 : Int32)) (lv' := [(0, .ref (ad G 1)), (1, .int v1), (2, .int v2), (3, .int (v3 + (1 : Int32)))]) C 3 dX3_named_32 rfl rfl (by decide) rfl rfl ?_
          refine j_goto C 2 dX3_named_35 (by decide) ?_
          exact hk2 _ _ _ _ h
        · replace h := h.2 c3
          refine j_iload_n C 3 dX3_named_30 rfl ?_
          exact j_iret C hQ (by decide) (by decide) h dX3_named_31
set_option maxHeartbeats 4000000 in
set_option maxRecDepth 100000 in
theorem c_X3_named (l : Launch) (G : Gt) (hD : Dj G) (post : Int32 → Mem → Prop) (a1 a2 : Int32) (μ : Mem) : MI G l yX3_named wsX3_named rm_X3_named 0 0 [.ref (ad G 1), .int a1, .int a2] μ (w_X3_named post a1 a2 μ) post := by
  refine mI_of (cc := cX3_named) (maxL := 4) (ty := .int) (lv0 := [(0, .ref (ad G 1)), (1, .int a1), (2, .int a2)]) hD (by decide) rfl (Nat.le_of_ble_eq_true rfl) rfl ?_
  intro X Q hl C hQ h
  subst hl
  replace C : Cx G X cX3_named RX3 wsX3_named 4 rm_X3_named := C
  unfold w_X3_named at h
  refine j_iconst (v := 1) C dX3_named_0 (by decide) ?_
  refine j_istore_n (lv' := [(0, .ref (ad G 1)), (1, .int a1), (2, .int a2), (3, .int (1 : Int32))]) C dX3_named_1 (by decide) rfl rfl ?_
  obtain ⟨n9, h⟩ := h
  exact w_X3_named_b2_j C hQ n9 _ _ _ _ h
/-! X4_begin -/
abbrev rm_X4_begin : Room := { frames := 1, cells := 0, slots := 0, locals := 23 }
theorem in_X4_begin_X4 : ∀ w ∈ wsX40, w ∈ wsX4_begin := by decide +kernel
theorem lk_X4_begin_20 : Cond.fieldLink RX4 20 "SameAgain$Mergings" "latest" "I" ∈ wsX4_begin := by decide +kernel
theorem lk_X4_begin_24 : Cond.fieldLink RX4 24 "SameAgain$Mergings" "many" "I" ∈ wsX4_begin := by decide +kernel
theorem wd_X4_begin_min27 : Cond.methodLink RX4 27 Lib.Math.min.name ∈ wsX4_begin := by decide +kernel
theorem wd_X4_begin_mst : Cond.static Lib.Math.min.name ∈ wsX4_begin := by decide +kernel
theorem wd_X4_begin_mini : Cond.initialized "java/lang/Math" ∈ wsX4_begin := by decide +kernel
theorem wd_X4_begin_mcode : Cond.code Lib.Math.min.name Lib.Math.min.code 2 (some .int) ∈ wsX4_begin := by decide +kernel
theorem lk_X4_begin_9 : Cond.fieldLink RX4 9 "SameAgain$Mergings" "body" "[I" ∈ wsX4_begin := by decide +kernel
theorem lk_X4_begin_17 : Cond.fieldLink RX4 17 "SameAgain$Mergings" "owner" "[[I" ∈ wsX4_begin := by decide +kernel
set_option maxHeartbeats 4000000 in
set_option maxRecDepth 100000 in
theorem w_X4_begin_b22_j {G : Gt} {X : Cxt} {Q : State → Prop} (C : Cx G X cX4_begin RX4 wsX4_begin 2 rm_X4_begin) {post : Mem → Prop} (hQ : RetV G X Q post 0 0) {v1 s0 : Int32} {μ : Mem} (h : w_X4_begin_b22 post v1 s0 μ) : J G X Q 2 0 0 22 [(0, .ref (ad G 8)), (1, .int v1)] [.int s0, .ref (ad G 8)] μ := by
  unfold w_X4_begin_b22 at h
  obtain ⟨μ1, e2⟩ : ∃ m, m = wr μ 8 2 s0 := ⟨_, rfl⟩
  replace h := h μ1 e2
  refine j_put C 8 2 sh_8 (by decide) cl_X4 (by decide) rfl in_X4_begin_X4 lk_X4_begin_20 rfl tyX4_ok nmX4 rfl rfl dX4_begin_22 e2 ?_
  refine j_aload_n C 0 dX4_begin_25 rfl ?_
  refine j_aload_n C 0 dX4_begin_26 rfl ?_
  refine j_getI C 8 3 sh_8 (by decide) cl_X4 (by decide) rfl in_X4_begin_X4 lk_X4_begin_24 rfl dX4_begin_27 ?_
  refine j_iconst (v := 1) C dX4_begin_30 (by decide) ?_
  refine j_iadd C dX4_begin_31 ?_
  refine j_bipush (v := 20) C dX4_begin_32 (by decide) ?_
  refine j_min C wd_X4_begin_min27 wd_X4_begin_mst wd_X4_begin_mini wd_X4_begin_mcode (by decide) (Nat.le_of_ble_eq_true rfl) (by decide) (by decide) dX4_begin_34 ?_
  obtain ⟨μ3, e4⟩ : ∃ m, m = wr μ1 8 3 (if (20 : Int32) < ((μ1 8 3) + (1 : Int32)) then (20 : Int32) else ((μ1 8 3) + (1 : Int32))) := ⟨_, rfl⟩
  replace h := h μ3 e4
  refine j_put C 8 3 sh_8 (by decide) cl_X4 (by decide) rfl in_X4_begin_X4 lk_X4_begin_24 rfl tyX4_ok nmX4 rfl rfl dX4_begin_37 e4 ?_
  refine j_aload_n C 0 dX4_begin_40 rfl ?_
  refine j_getR C 8 0 sh_8 (by decide) cl_X4 (by decide) rfl in_X4_begin_X4 lk_X4_begin_9 rfl dX4_begin_41 ?_
  refine j_aload_n C 0 dX4_begin_44 rfl ?_
  refine j_getI C 8 2 sh_8 (by decide) cl_X4 (by decide) rfl in_X4_begin_X4 lk_X4_begin_20 rfl dX4_begin_45 ?_
  refine j_iload_n C 1 dX4_begin_48 rfl ?_
  obtain ⟨μ5, e6⟩ : ∃ m, m = wr μ3 29 (ix (μ3 8 2)) v1 := ⟨_, rfl⟩
  have b7 := h.1
  replace h := h.2 μ5 e6
  refine j_iast C 29 sh_29 (by decide) b7 dX4_begin_49 e6 ?_
  refine j_aload_n C 0 dX4_begin_50 rfl ?_
  refine j_getR C 8 1 sh_8 (by decide) cl_X4 (by decide) rfl in_X4_begin_X4 lk_X4_begin_17 rfl dX4_begin_51 ?_
  refine j_aload_n C 0 dX4_begin_54 rfl ?_
  refine j_getI C 8 2 sh_8 (by decide) cl_X4 (by decide) rfl in_X4_begin_X4 lk_X4_begin_20 rfl dX4_begin_55 ?_
  have b8 := h.1
  replace h := h.2
  refine j_aald C 30 sh_30 (by decide) b8 dX4_begin_58 ?_
  refine j_iconst (v := -1) C dX4_begin_59 (by decide) ?_
  refine j_cSV (n := 2) (rest := []) C (c_fill (xl X) G C.2.2.1 _ (ix (μ5 8 2) + 57) 60 (sh_row _) (row_lt b8) (-1 : Int32) μ5) h gX4_begin_J7_fill_53178 rfl ⟨rfl, rfl⟩ (by decide +kernel) ⟨by decide, by decide⟩ ⟨by decide, by decide⟩ rfl rfl (Nat.le_of_ble_eq_true rfl) dX4_begin_60 rfl rfl (fun μ9 h => ?_)
  exact j_vret C hQ (by decide) (by decide) h dX4_begin_63
set_option maxHeartbeats 4000000 in
set_option maxRecDepth 100000 in
theorem c_X4_begin (l : Launch) (G : Gt) (hD : Dj G) (post : Mem → Prop) (a1 : Int32) (μ : Mem) : MV G l yX4_begin wsX4_begin rm_X4_begin 0 0 [.ref (ad G 8), .int a1] μ (w_X4_begin post a1 μ) post := by
  refine mV_of (cc := cX4_begin) (maxL := 2) (lv0 := [(0, .ref (ad G 8)), (1, .int a1)]) hD (by decide) rfl (Nat.le_of_ble_eq_true rfl) rfl ?_
  intro X Q hl C hQ h
  subst hl
  replace C : Cx G X cX4_begin RX4 wsX4_begin 2 rm_X4_begin := C
  unfold w_X4_begin at h
  refine j_aload_n C 0 dX4_begin_0 rfl ?_
  refine j_aload_n C 0 dX4_begin_1 rfl ?_
  refine j_getI C 8 2 sh_8 (by decide) cl_X4 (by decide) rfl in_X4_begin_X4 lk_X4_begin_20 rfl dX4_begin_2 ?_
  refine j_iconst (v := 1) C dX4_begin_5 (by decide) ?_
  refine j_iadd C dX4_begin_6 ?_
  refine j_bipush (v := 20) C dX4_begin_7 (by decide) ?_
  refine j_icmp_ge C 21 dX4_begin_9 (by decide) (fun c11 => ?_) (fun c11 => ?_)
  · replace h := h.1 c11
    refine j_iconst (v := 0) C dX4_begin_21 (by decide) ?_
    exact w_X4_begin_b22_j C hQ h
  · replace h := h.2 c11
    refine j_aload_n C 0 dX4_begin_12 rfl ?_
    refine j_getI C 8 2 sh_8 (by decide) cl_X4 (by decide) rfl in_X4_begin_X4 lk_X4_begin_20 rfl dX4_begin_13 ?_
    refine j_iconst (v := 1) C dX4_begin_16 (by decide) ?_
    refine j_iadd C dX4_begin_17 ?_
    refine j_goto C 22 dX4_begin_18 (by decide) ?_
    exact w_X4_begin_b22_j C hQ h
/-! X4_dropLatest -/
abbrev rm_X4_dropLatest : Room := { frames := 0, cells := 0, slots := 0, locals := 0 }
theorem in_X4_dropLatest_X4 : ∀ w ∈ wsX40, w ∈ wsX4_dropLatest := by decide +kernel
theorem lk_X4_dropLatest_20 : Cond.fieldLink RX4 20 "SameAgain$Mergings" "latest" "I" ∈ wsX4_dropLatest := by decide +kernel
theorem lk_X4_dropLatest_24 : Cond.fieldLink RX4 24 "SameAgain$Mergings" "many" "I" ∈ wsX4_dropLatest := by decide +kernel
set_option maxHeartbeats 4000000 in
set_option maxRecDepth 100000 in
theorem w_X4_dropLatest_b19_j {G : Gt} {X : Cxt} {Q : State → Prop} (C : Cx G X cX4_dropLatest RX4 wsX4_dropLatest 1 rm_X4_dropLatest) {post : Mem → Prop} (hQ : RetV G X Q post 0 0) {s0 : Int32} {μ : Mem} (h : w_X4_dropLatest_b19 post s0 μ) : J G X Q 1 0 0 19 [(0, .ref (ad G 8))] [.int s0, .ref (ad G 8)] μ := by
  unfold w_X4_dropLatest_b19 at h
  obtain ⟨μ1, e2⟩ : ∃ m, m = wr μ 8 2 s0 := ⟨_, rfl⟩
  replace h := h μ1 e2
  refine j_put C 8 2 sh_8 (by decide) cl_X4 (by decide) rfl in_X4_dropLatest_X4 lk_X4_dropLatest_20 rfl tyX4_ok nmX4 rfl rfl dX4_dropLatest_19 e2 ?_
  refine j_aload_n C 0 dX4_dropLatest_22 rfl ?_
  refine j_dup C dX4_dropLatest_23 rfl ?_
  refine j_getI C 8 3 sh_8 (by decide) cl_X4 (by decide) rfl in_X4_dropLatest_X4 lk_X4_dropLatest_24 rfl dX4_dropLatest_24 ?_
  refine j_iconst (v := 1) C dX4_dropLatest_27 (by decide) ?_
  refine j_isub C dX4_dropLatest_28 ?_
  obtain ⟨μ3, e4⟩ : ∃ m, m = wr μ1 8 3 ((μ1 8 3) - (1 : Int32)) := ⟨_, rfl⟩
  replace h := h μ3 e4
  refine j_put C 8 3 sh_8 (by decide) cl_X4 (by decide) rfl in_X4_dropLatest_X4 lk_X4_dropLatest_24 rfl tyX4_ok nmX4 rfl rfl dX4_dropLatest_29 e4 ?_
  exact j_vret C hQ (by decide) (by decide) h dX4_dropLatest_32
set_option maxHeartbeats 4000000 in
set_option maxRecDepth 100000 in
theorem c_X4_dropLatest (l : Launch) (G : Gt) (hD : Dj G) (post : Mem → Prop) (μ : Mem) : MV G l yX4_dropLatest wsX4_dropLatest rm_X4_dropLatest 0 0 [.ref (ad G 8)] μ (w_X4_dropLatest post μ) post := by
  refine mV_of (cc := cX4_dropLatest) (maxL := 1) (lv0 := [(0, .ref (ad G 8))]) hD (by decide) rfl (Nat.le_of_ble_eq_true rfl) rfl ?_
  intro X Q hl C hQ h
  subst hl
  replace C : Cx G X cX4_dropLatest RX4 wsX4_dropLatest 1 rm_X4_dropLatest := C
  unfold w_X4_dropLatest at h
  refine j_aload_n C 0 dX4_dropLatest_0 rfl ?_
  refine j_aload_n C 0 dX4_dropLatest_1 rfl ?_
  refine j_getI C 8 2 sh_8 (by decide) cl_X4 (by decide) rfl in_X4_dropLatest_X4 lk_X4_dropLatest_20 rfl dX4_dropLatest_2 ?_
  refine j_if_le C 17 dX4_dropLatest_5 (by decide) (fun c5 => ?_) (fun c5 => ?_)
  · replace h := h.1 c5
    refine j_bipush (v := 19) C dX4_dropLatest_17 (by decide) ?_
    exact w_X4_dropLatest_b19_j C hQ h
  · replace h := h.2 c5
    refine j_aload_n C 0 dX4_dropLatest_8 rfl ?_
    refine j_getI C 8 2 sh_8 (by decide) cl_X4 (by decide) rfl in_X4_dropLatest_X4 lk_X4_dropLatest_20 rfl dX4_dropLatest_9 ?_
    refine j_iconst (v := 1) C dX4_dropLatest_12 (by decide) ?_
    refine j_isub C dX4_dropLatest_13 ?_
    refine j_goto C 19 dX4_dropLatest_14 (by decide) ?_
    exact w_X4_dropLatest_b19_j C hQ h
/-! X4_formerOwner -/
abbrev rm_X4_formerOwner : Room := { frames := 0, cells := 0, slots := 0, locals := 0 }
theorem in_X4_formerOwner_X4 : ∀ w ∈ wsX40, w ∈ wsX4_formerOwner := by decide +kernel
theorem lk_X4_formerOwner_17 : Cond.fieldLink RX4 17 "SameAgain$Mergings" "owner" "[[I" ∈ wsX4_formerOwner := by decide +kernel
theorem lk_X4_formerOwner_20 : Cond.fieldLink RX4 20 "SameAgain$Mergings" "latest" "I" ∈ wsX4_formerOwner := by decide +kernel
set_option maxHeartbeats 4000000 in
set_option maxRecDepth 100000 in
theorem c_X4_formerOwner (l : Launch) (G : Gt) (hD : Dj G) (post : Int32 → Mem → Prop) (a1 : Int32) (μ : Mem) : MI G l yX4_formerOwner wsX4_formerOwner rm_X4_formerOwner 0 0 [.ref (ad G 8), .int a1] μ (w_X4_formerOwner post a1 μ) post := by
  refine mI_of (cc := cX4_formerOwner) (maxL := 2) (ty := .int) (lv0 := [(0, .ref (ad G 8)), (1, .int a1)]) hD (by decide) rfl (Nat.le_of_ble_eq_true rfl) rfl ?_
  intro X Q hl C hQ h
  subst hl
  replace C : Cx G X cX4_formerOwner RX4 wsX4_formerOwner 2 rm_X4_formerOwner := C
  unfold w_X4_formerOwner at h
  refine j_aload_n C 0 dX4_formerOwner_0 rfl ?_
  refine j_getR C 8 1 sh_8 (by decide) cl_X4 (by decide) rfl in_X4_formerOwner_X4 lk_X4_formerOwner_17 rfl dX4_formerOwner_1 ?_
  refine j_aload_n C 0 dX4_formerOwner_4 rfl ?_
  refine j_getI C 8 2 sh_8 (by decide) cl_X4 (by decide) rfl in_X4_formerOwner_X4 lk_X4_formerOwner_20 rfl dX4_formerOwner_5 ?_
  have b1 := h.1
  replace h := h.2
  refine j_aald C 30 sh_30 (by decide) b1 dX4_formerOwner_8 ?_
  refine j_iload_n C 1 dX4_formerOwner_9 rfl ?_
  have b2 := h.1
  replace h := h.2
  refine j_iald C (ix (μ 8 2) + 57) (sh_row _) (row_lt b1) b2 dX4_formerOwner_10 ?_
  exact j_iret C hQ (by decide) (by decide) h dX4_formerOwner_11
/-! X4_isStillMerged -/
abbrev rm_X4_isStillMerged : Room := { frames := 0, cells := 0, slots := 0, locals := 0 }
theorem in_X4_isStillMerged_X4 : ∀ w ∈ wsX40, w ∈ wsX4_isStillMerged := by decide +kernel
theorem lk_X4_isStillMerged_17 : Cond.fieldLink RX4 17 "SameAgain$Mergings" "owner" "[[I" ∈ wsX4_isStillMerged := by decide +kernel
theorem lk_X4_isStillMerged_20 : Cond.fieldLink RX4 20 "SameAgain$Mergings" "latest" "I" ∈ wsX4_isStillMerged := by decide +kernel
theorem in_X4_isStillMerged_X1 : ∀ w ∈ wsX10, w ∈ wsX4_isStillMerged := by decide +kernel
theorem lk_X4_isStillMerged_39 : (RX4, 39, "SameAgain$Files", "body", "[I", "SameAgain") ∈ nwF := by decide +kernel
theorem lk_X4_isStillMerged_9 : Cond.fieldLink RX4 9 "SameAgain$Mergings" "body" "[I" ∈ wsX4_isStillMerged := by decide +kernel
set_option maxHeartbeats 4000000 in
set_option maxRecDepth 100000 in
theorem c_X4_isStillMerged (l : Launch) (G : Gt) (hD : Dj G) (post : Int32 → Mem → Prop) (a2 : Int32) (μ : Mem) : MI G l yX4_isStillMerged wsX4_isStillMerged rm_X4_isStillMerged 0 0 [.ref (ad G 8), .ref (ad G 2), .int a2] μ (w_X4_isStillMerged post a2 μ) post := by
  refine mI_of (cc := cX4_isStillMerged) (maxL := 3) (ty := .boolean) (lv0 := [(0, .ref (ad G 8)), (1, .ref (ad G 2)), (2, .int a2)]) hD (by decide) rfl (Nat.le_of_ble_eq_true rfl) rfl ?_
  intro X Q hl C hQ h
  subst hl
  replace C : Cx G X cX4_isStillMerged RX4 wsX4_isStillMerged 3 rm_X4_isStillMerged := C
  unfold w_X4_isStillMerged at h
  refine j_aload_n C 0 dX4_isStillMerged_0 rfl ?_
  refine j_getR C 8 1 sh_8 (by decide) cl_X4 (by decide) rfl in_X4_isStillMerged_X4 lk_X4_isStillMerged_17 rfl dX4_isStillMerged_1 ?_
  refine j_aload_n C 0 dX4_isStillMerged_4 rfl ?_
  refine j_getI C 8 2 sh_8 (by decide) cl_X4 (by decide) rfl in_X4_isStillMerged_X4 lk_X4_isStillMerged_20 rfl dX4_isStillMerged_5 ?_
  have b1 := h.1
  replace h := h.2
  refine j_aald C 30 sh_30 (by decide) b1 dX4_isStillMerged_8 ?_
  refine j_iload_n C 2 dX4_isStillMerged_9 rfl ?_
  have b2 := h.1
  replace h := h.2
  refine j_iald C (ix (μ 8 2) + 57) (sh_row _) (row_lt b1) b2 dX4_isStillMerged_10 ?_
  refine j_iconst (v := -1) C dX4_isStillMerged_11 (by decide) ?_
  refine j_icmp_eq C 37 dX4_isStillMerged_12 (by decide) (fun c6 => ?_) (fun c6 => ?_)
  · replace h := h.1 c6
    refine j_iconst (v := 0) C dX4_isStillMerged_37 (by decide) ?_
    exact j_zret C hQ (by decide) (by decide) rfl h dX4_isStillMerged_38
  · replace h := h.2 c6
    refine j_aload_n C 1 dX4_isStillMerged_15 rfl ?_
    refine j_getRN C 2 2 sh_2 (by decide) cl_X1 (by decide) rfl in_X4_isStillMerged_X1 lk_X4_isStillMerged_39 rfl dX4_isStillMerged_16 ?_
    refine j_iload_n C 2 dX4_isStillMerged_19 rfl ?_
    have b3 := h.1
    replace h := h.2
    refine j_iald C 16 sh_16 (by decide) b3 dX4_isStillMerged_20 ?_
    refine j_aload_n C 0 dX4_isStillMerged_21 rfl ?_
    refine j_getR C 8 0 sh_8 (by decide) cl_X4 (by decide) rfl in_X4_isStillMerged_X4 lk_X4_isStillMerged_9 rfl dX4_isStillMerged_22 ?_
    refine j_aload_n C 0 dX4_isStillMerged_25 rfl ?_
    refine j_getI C 8 2 sh_8 (by decide) cl_X4 (by decide) rfl in_X4_isStillMerged_X4 lk_X4_isStillMerged_20 rfl dX4_isStillMerged_26 ?_
    have b4 := h.1
    replace h := h.2
    refine j_iald C 29 sh_29 (by decide) b4 dX4_isStillMerged_29 ?_
    refine j_icmp_ne C 37 dX4_isStillMerged_30 (by decide) (fun c5 => ?_) (fun c5 => ?_)
    · replace h := h.1 c5
      refine j_iconst (v := 0) C dX4_isStillMerged_37 (by decide) ?_
      exact j_zret C hQ (by decide) (by decide) rfl h dX4_isStillMerged_38
    · replace h := h.2 c5
      refine j_iconst (v := 1) C dX4_isStillMerged_33 (by decide) ?_
      refine j_goto C 38 dX4_isStillMerged_34 (by decide) ?_
      exact j_zret C hQ (by decide) (by decide) rfl h dX4_isStillMerged_38
/-! X4_note -/
abbrev rm_X4_note : Room := { frames := 0, cells := 0, slots := 0, locals := 0 }
theorem in_X4_note_X4 : ∀ w ∈ wsX40, w ∈ wsX4_note := by decide +kernel
theorem lk_X4_note_17 : Cond.fieldLink RX4 17 "SameAgain$Mergings" "owner" "[[I" ∈ wsX4_note := by decide +kernel
theorem lk_X4_note_20 : Cond.fieldLink RX4 20 "SameAgain$Mergings" "latest" "I" ∈ wsX4_note := by decide +kernel
set_option maxHeartbeats 4000000 in
set_option maxRecDepth 100000 in
theorem c_X4_note (l : Launch) (G : Gt) (hD : Dj G) (post : Mem → Prop) (a1 a2 : Int32) (μ : Mem) : MV G l yX4_note wsX4_note rm_X4_note 0 0 [.ref (ad G 8), .int a1, .int a2] μ (w_X4_note post a1 a2 μ) post := by
  refine mV_of (cc := cX4_note) (maxL := 3) (lv0 := [(0, .ref (ad G 8)), (1, .int a1), (2, .int a2)]) hD (by decide) rfl (Nat.le_of_ble_eq_true rfl) rfl ?_
  intro X Q hl C hQ h
  subst hl
  replace C : Cx G X cX4_note RX4 wsX4_note 3 rm_X4_note := C
  unfold w_X4_note at h
  refine j_aload_n C 0 dX4_note_0 rfl ?_
  refine j_getR C 8 1 sh_8 (by decide) cl_X4 (by decide) rfl in_X4_note_X4 lk_X4_note_17 rfl dX4_note_1 ?_
  refine j_aload_n C 0 dX4_note_4 rfl ?_
  refine j_getI C 8 2 sh_8 (by decide) cl_X4 (by decide) rfl in_X4_note_X4 lk_X4_note_20 rfl dX4_note_5 ?_
  have b1 := h.1
  replace h := h.2
  refine j_aald C 30 sh_30 (by decide) b1 dX4_note_8 ?_
  refine j_iload_n C 1 dX4_note_9 rfl ?_
  refine j_iload_n C 2 dX4_note_10 rfl ?_
  obtain ⟨μ2, e3⟩ : ∃ m, m = wr μ (ix (μ 8 2) + 57) (ix a1) a2 := ⟨_, rfl⟩
  have b4 := h.1
  replace h := h.2 μ2 e3
  refine j_iast C (ix (μ 8 2) + 57) (sh_row _) (row_lt b1) b4 dX4_note_11 e3 ?_
  exact j_vret C hQ (by decide) (by decide) h dX4_note_12
/-! X4_stillMerged -/
abbrev rm_X4_stillMerged : Room := { frames := 1, cells := 0, slots := 0, locals := 22 }
theorem in_X4_stillMerged_X1 : ∀ w ∈ wsX10, w ∈ wsX4_stillMerged := by decide +kernel
theorem lk_X4_stillMerged_42 : (RX4, 42, "SameAgain$Files", "made", "I", "SameAgain") ∈ nwF := by decide +kernel
set_option maxHeartbeats 4000000 in
set_option maxRecDepth 100000 in
theorem w_X4_stillMerged_b4_j {G : Gt} {X : Cxt} {Q : State → Prop} (C : Cx G X cX4_stillMerged RX4 wsX4_stillMerged 4 rm_X4_stillMerged) {post : Int32 → Mem → Prop} (hQ : RetI G X Q post .int 0 0) : ∀ (n : Nat) (v2 v3 : Int32) (μ : Mem), itr (fun _ _ _ => False) (w_X4_stillMerged_b4 post) n v2 v3 μ → J G X Q 4 0 0 4 [(0, .ref (ad G 8)), (1, .ref (ad G 2)), (2, .int v2), (3, .int v3)] [] μ := by
  intro n
  induction n with
  | zero => intro v2 v3 μ h; exact h.elim
  | succ n ih =>
    intro v2 v3 μ h
    replace h : w_X4_stillMerged_b4 post (itr (fun _ _ _ => False) (w_X4_stillMerged_b4 post) n) v2 v3 μ := h
    generalize itr (fun _ _ _ => False) (w_X4_stillMerged_b4 post) n = k4 at ih h
    have hk4 := ih
    unfold w_X4_stillMerged_b4 at h
    refine j_iload_n C 3 dX4_stillMerged_4 rfl ?_
    refine j_aload_n C 1 dX4_stillMerged_5 rfl ?_
    refine j_getIN C 2 4 sh_2 (by decide) cl_X1 (by decide) rfl in_X4_stillMerged_X1 lk_X4_stillMerged_42 rfl dX4_stillMerged_6 ?_
    refine j_icmp_ge C 30 dX4_stillMerged_9 (by decide) (fun c4 => ?_) (fun c4 => ?_)
    · replace h := h.1 c4
      refine j_iload_n C 2 dX4_stillMerged_30 rfl ?_
      exact j_iret C hQ (by decide) (by decide) h dX4_stillMerged_31
    · replace h := h.2 c4
      refine j_aload_n C 0 dX4_stillMerged_12 rfl ?_
      refine j_aload_n C 1 dX4_stillMerged_13 rfl ?_
      refine j_iload_n C 3 dX4_stillMerged_14 rfl ?_
      refine j_cVI (n := 2) (rest := []) C 8 (c_X4_isStillMerged (xl X) G C.2.2.1 _ v3 μ) h gX4_stillMerged_X4_isStillMerged rfl ⟨rfl, rfl⟩ (by decide +kernel) ⟨by decide, by decide⟩ ⟨by decide, by decide⟩ sh_8 (by decide) cl_X4 rfl rfl (Nat.le_of_ble_eq_true rfl) dX4_stillMerged_15 rfl rfl (fun r2 μ1 h => ?_)
      refine j_if_eq C 24 dX4_stillMerged_18 (by decide) (fun c3 => ?_) (fun c3 => ?_)
      · replace h := h.1 c3
        refine j_iinc (v := v3 + (1 : Int32)) (lv' := [(0, .ref (ad G 8)), (1, .ref (ad G 2)), (2, .int v2), (3, .int (v3 + (1 : Int32)))]) C 3 dX4_stillMerged_24 rfl rfl (by decide) rfl rfl ?_
        refine j_goto C 4 dX4_stillMerged_27 (by decide) ?_
        exact hk4 _ _ _ h
      · replace h := h.2 c3
        refine j_iinc (v := v2 + (1 : Int32)) (lv' := [(0, .ref (ad G 8)), (1, .ref (ad G 2)), (2, .int (v2 + (1 : Int32))), (3, .int v3)]) C 2 dX4_stillMerged_21 rfl rfl (by decide) rfl rfl ?_
        refine j_iinc (v := v3 + (1 : Int32)) (lv' := [(0, .ref (ad G 8)), (1, .ref (ad G 2)), (2, .int (v2 + (1 : Int32))), (3, .int (v3 + (1 : Int32)))]) C 3 dX4_stillMerged_24 rfl rfl (by decide) rfl rfl ?_
        refine j_goto C 4 dX4_stillMerged_27 (by decide) ?_
        exact hk4 _ _ _ h
set_option maxHeartbeats 4000000 in
set_option maxRecDepth 100000 in
theorem c_X4_stillMerged (l : Launch) (G : Gt) (hD : Dj G) (post : Int32 → Mem → Prop) (μ : Mem) : MI G l yX4_stillMerged wsX4_stillMerged rm_X4_stillMerged 0 0 [.ref (ad G 8), .ref (ad G 2)] μ (w_X4_stillMerged post μ) post := by
  refine mI_of (cc := cX4_stillMerged) (maxL := 4) (ty := .int) (lv0 := [(0, .ref (ad G 8)), (1, .ref (ad G 2))]) hD (by decide) rfl (Nat.le_of_ble_eq_true rfl) rfl ?_
  intro X Q hl C hQ h
  subst hl
  replace C : Cx G X cX4_stillMerged RX4 wsX4_stillMerged 4 rm_X4_stillMerged := C
  unfold w_X4_stillMerged at h
  refine j_iconst (v := 0) C dX4_stillMerged_0 (by decide) ?_
  refine j_istore_n (lv' := [(0, .ref (ad G 8)), (1, .ref (ad G 2)), (2, .int (0 : Int32))]) C dX4_stillMerged_1 (by decide) rfl rfl ?_
  refine j_iconst (v := 0) C dX4_stillMerged_2 (by decide) ?_
  refine j_istore_n (lv' := [(0, .ref (ad G 8)), (1, .ref (ad G 2)), (2, .int (0 : Int32)), (3, .int (0 : Int32))]) C dX4_stillMerged_3 (by decide) rfl rfl ?_
  obtain ⟨n9, h⟩ := h
  exact w_X4_stillMerged_b4_j C hQ n9 _ _ _ h
/-! X6_add -/
abbrev rm_X6_add : Room := { frames := 0, cells := 0, slots := 0, locals := 0 }
theorem in_X6_add_X6 : ∀ w ∈ wsX60, w ∈ wsX6_add := by decide +kernel
theorem lk_X6_add_9 : Cond.fieldLink RX6 9 "SameAgain$Wishes" "what" "[I" ∈ wsX6_add := by decide +kernel
theorem lk_X6_add_18 : Cond.fieldLink RX6 18 "SameAgain$Wishes" "many" "I" ∈ wsX6_add := by decide +kernel
theorem lk_X6_add_15 : Cond.fieldLink RX6 15 "SameAgain$Wishes" "folder" "[I" ∈ wsX6_add := by decide +kernel
set_option maxHeartbeats 4000000 in
set_option maxRecDepth 100000 in
theorem c_X6_add (l : Launch) (G : Gt) (hD : Dj G) (post : Mem → Prop) (a1 a2 : Int32) (μ : Mem) : MV G l yX6_add wsX6_add rm_X6_add 0 0 [.ref (ad G 7), .int a1, .int a2] μ (w_X6_add post a1 a2 μ) post := by
  refine mV_of (cc := cX6_add) (maxL := 3) (lv0 := [(0, .ref (ad G 7)), (1, .int a1), (2, .int a2)]) hD (by decide) rfl (Nat.le_of_ble_eq_true rfl) rfl ?_
  intro X Q hl C hQ h
  subst hl
  replace C : Cx G X cX6_add RX6 wsX6_add 3 rm_X6_add := C
  unfold w_X6_add at h
  refine j_aload_n C 0 dX6_add_0 rfl ?_
  refine j_getR C 7 0 sh_7 (by decide) cl_X6 (by decide) rfl in_X6_add_X6 lk_X6_add_9 rfl dX6_add_1 ?_
  refine j_aload_n C 0 dX6_add_4 rfl ?_
  refine j_getI C 7 2 sh_7 (by decide) cl_X6 (by decide) rfl in_X6_add_X6 lk_X6_add_18 rfl dX6_add_5 ?_
  refine j_iload_n C 1 dX6_add_8 rfl ?_
  obtain ⟨μ1, e2⟩ : ∃ m, m = wr μ 27 (ix (μ 7 2)) a1 := ⟨_, rfl⟩
  have b3 := h.1
  replace h := h.2 μ1 e2
  refine j_iast C 27 sh_27 (by decide) b3 dX6_add_9 e2 ?_
  refine j_aload_n C 0 dX6_add_10 rfl ?_
  refine j_getR C 7 1 sh_7 (by decide) cl_X6 (by decide) rfl in_X6_add_X6 lk_X6_add_15 rfl dX6_add_11 ?_
  refine j_aload_n C 0 dX6_add_14 rfl ?_
  refine j_getI C 7 2 sh_7 (by decide) cl_X6 (by decide) rfl in_X6_add_X6 lk_X6_add_18 rfl dX6_add_15 ?_
  refine j_iload_n C 2 dX6_add_18 rfl ?_
  obtain ⟨μ4, e5⟩ : ∃ m, m = wr μ1 28 (ix (μ1 7 2)) a2 := ⟨_, rfl⟩
  have b6 := h.1
  replace h := h.2 μ4 e5
  refine j_iast C 28 sh_28 (by decide) b6 dX6_add_19 e5 ?_
  refine j_aload_n C 0 dX6_add_20 rfl ?_
  refine j_dup C dX6_add_21 rfl ?_
  refine j_getI C 7 2 sh_7 (by decide) cl_X6 (by decide) rfl in_X6_add_X6 lk_X6_add_18 rfl dX6_add_22 ?_
  refine j_iconst (v := 1) C dX6_add_25 (by decide) ?_
  refine j_iadd C dX6_add_26 ?_
  obtain ⟨μ7, e8⟩ : ∃ m, m = wr μ4 7 2 ((μ4 7 2) + (1 : Int32)) := ⟨_, rfl⟩
  replace h := h μ7 e8
  refine j_put C 7 2 sh_7 (by decide) cl_X6 (by decide) rfl in_X6_add_X6 lk_X6_add_18 rfl tyX6_ok nmX6 rfl rfl dX6_add_27 e8 ?_
  exact j_vret C hQ (by decide) (by decide) h dX6_add_30
/-! X6_has -/
abbrev rm_X6_has : Room := { frames := 0, cells := 0, slots := 0, locals := 0 }
theorem in_X6_has_X6 : ∀ w ∈ wsX60, w ∈ wsX6_has := by decide +kernel
theorem lk_X6_has_18 : Cond.fieldLink RX6 18 "SameAgain$Wishes" "many" "I" ∈ wsX6_has := by decide +kernel
theorem lk_X6_has_9 : Cond.fieldLink RX6 9 "SameAgain$Wishes" "what" "[I" ∈ wsX6_has := by decide +kernel
theorem lk_X6_has_15 : Cond.fieldLink RX6 15 "SameAgain$Wishes" "folder" "[I" ∈ wsX6_has := by decide +kernel
set_option maxHeartbeats 4000000 in
set_option maxRecDepth 100000 in
theorem w_X6_has_b2_j {G : Gt} {X : Cxt} {Q : State → Prop} (C : Cx G X cX6_has RX6 wsX6_has 4 rm_X6_has) {post : Int32 → Mem → Prop} (hQ : RetI G X Q post .boolean 0 0) : ∀ (n : Nat) (v1 v2 v3 : Int32) (μ : Mem), itr (fun _ _ _ _ => False) (w_X6_has_b2 post) n v1 v2 v3 μ → J G X Q 4 0 0 2 [(0, .ref (ad G 7)), (1, .int v1), (2, .int v2), (3, .int v3)] [] μ := by
  intro n
  induction n with
  | zero => intro v1 v2 v3 μ h; exact h.elim
  | succ n ih =>
    intro v1 v2 v3 μ h
    replace h : w_X6_has_b2 post (itr (fun _ _ _ _ => False) (w_X6_has_b2 post) n) v1 v2 v3 μ := h
    generalize itr (fun _ _ _ _ => False) (w_X6_has_b2 post) n = k2 at ih h
    have hk2 := ih
    unfold w_X6_has_b2 at h
    refine j_iload_n C 3 dX6_has_2 rfl ?_
    refine j_aload_n C 0 dX6_has_3 rfl ?_
    refine j_getI C 7 2 sh_7 (by decide) cl_X6 (by decide) rfl in_X6_has_X6 lk_X6_has_18 rfl dX6_has_4 ?_
    refine j_icmp_ge C 38 dX6_has_7 (by decide) (fun c5 => ?_) (fun c5 => ?_)
    · replace h := h.1 c5
      refine j_iconst (v := 0) C dX6_has_38 (by decide) ?_
      exact j_zret C hQ (by decide) (by decide) rfl h dX6_has_39
    · replace h := h.2 c5
      refine j_aload_n C 0 dX6_has_10 rfl ?_
      refine j_getR C 7 0 sh_7 (by decide) cl_X6 (by decide) rfl in_X6_has_X6 lk_X6_has_9 rfl dX6_has_11 ?_
      refine j_iload_n C 3 dX6_has_14 rfl ?_
      have b1 := h.1
      replace h := h.2
      refine j_iald C 27 sh_27 (by decide) b1 dX6_has_15 ?_
      refine j_iload_n C 1 dX6_has_16 rfl ?_
      refine j_icmp_ne C 32 dX6_has_17 (by decide) (fun c4 => ?_) (fun c4 => ?_)
      · replace h := h.1 c4
        refine j_iinc (v := v3 + (1 : Int32)) (lv' := [(0, .ref (ad G 7)), (1, .int v1), (2, .int v2), (3, .int (v3 + (1 : Int32)))]) C 3 dX6_has_32 rfl rfl (by decide) rfl rfl ?_
        refine j_goto C 2 dX6_has_35 (by decide) ?_
        exact hk2 _ _ _ _ h
      · replace h := h.2 c4
        refine j_aload_n C 0 dX6_has_20 rfl ?_
        refine j_getR C 7 1 sh_7 (by decide) cl_X6 (by decide) rfl in_X6_has_X6 lk_X6_has_15 rfl dX6_has_21 ?_
        refine j_iload_n C 3 dX6_has_24 rfl ?_
        have b2 := h.1
        replace h := h.2
        refine j_iald C 28 sh_28 (by decide) b2 dX6_has_25 ?_
        refine j_iload_n C 2 dX6_has_26 rfl ?_
        refine j_icmp_ne C 32 dX6_has_27 (by decide) (fun c3 => ?_) (fun c3 => ?_)
        · replace h := h.1 c3
          refine j_iinc (v := v3 + (1 : Int32)) (lv' := [(0, .ref (ad G 7)), (1, .int v1), (2, .int v2), (3, .int (v3 + (1 : Int32)))]) C 3 dX6_has_32 rfl rfl (by decide) rfl rfl ?_
          refine j_goto C 2 dX6_has_35 (by decide) ?_
          exact hk2 _ _ _ _ h
        · replace h := h.2 c3
          refine j_iconst (v := 1) C dX6_has_30 (by decide) ?_
          exact j_zret C hQ (by decide) (by decide) rfl h dX6_has_31
set_option maxHeartbeats 4000000 in
set_option maxRecDepth 100000 in
theorem c_X6_has (l : Launch) (G : Gt) (hD : Dj G) (post : Int32 → Mem → Prop) (a1 a2 : Int32) (μ : Mem) : MI G l yX6_has wsX6_has rm_X6_has 0 0 [.ref (ad G 7), .int a1, .int a2] μ (w_X6_has post a1 a2 μ) post := by
  refine mI_of (cc := cX6_has) (maxL := 4) (ty := .boolean) (lv0 := [(0, .ref (ad G 7)), (1, .int a1), (2, .int a2)]) hD (by decide) rfl (Nat.le_of_ble_eq_true rfl) rfl ?_
  intro X Q hl C hQ h
  subst hl
  replace C : Cx G X cX6_has RX6 wsX6_has 4 rm_X6_has := C
  unfold w_X6_has at h
  refine j_iconst (v := 0) C dX6_has_0 (by decide) ?_
  refine j_istore_n (lv' := [(0, .ref (ad G 7)), (1, .int a1), (2, .int a2), (3, .int (0 : Int32))]) C dX6_has_1 (by decide) rfl rfl ?_
  obtain ⟨n9, h⟩ := h
  exact w_X6_has_b2_j C hQ n9 _ _ _ _ h
/-! X6_hasRoom -/
abbrev rm_X6_hasRoom : Room := { frames := 0, cells := 0, slots := 0, locals := 0 }
theorem in_X6_hasRoom_X6 : ∀ w ∈ wsX60, w ∈ wsX6_hasRoom := by decide +kernel
theorem lk_X6_hasRoom_18 : Cond.fieldLink RX6 18 "SameAgain$Wishes" "many" "I" ∈ wsX6_hasRoom := by decide +kernel
set_option maxHeartbeats 4000000 in
set_option maxRecDepth 100000 in
theorem c_X6_hasRoom (l : Launch) (G : Gt) (hD : Dj G) (post : Int32 → Mem → Prop) (μ : Mem) : MI G l yX6_hasRoom wsX6_hasRoom rm_X6_hasRoom 0 0 [.ref (ad G 7)] μ (w_X6_hasRoom post μ) post := by
  refine mI_of (cc := cX6_hasRoom) (maxL := 1) (ty := .boolean) (lv0 := [(0, .ref (ad G 7))]) hD (by decide) rfl (Nat.le_of_ble_eq_true rfl) rfl ?_
  intro X Q hl C hQ h
  subst hl
  replace C : Cx G X cX6_hasRoom RX6 wsX6_hasRoom 1 rm_X6_hasRoom := C
  unfold w_X6_hasRoom at h
  refine j_aload_n C 0 dX6_hasRoom_0 rfl ?_
  refine j_getI C 7 2 sh_7 (by decide) cl_X6 (by decide) rfl in_X6_hasRoom_X6 lk_X6_hasRoom_18 rfl dX6_hasRoom_1 ?_
  refine j_iconst (v := 3) C dX6_hasRoom_4 (by decide) ?_
  refine j_icmp_ge C 12 dX6_hasRoom_5 (by decide) (fun c1 => ?_) (fun c1 => ?_)
  · replace h := h.1 c1
    refine j_iconst (v := 0) C dX6_hasRoom_12 (by decide) ?_
    exact j_zret C hQ (by decide) (by decide) rfl h dX6_hasRoom_13
  · replace h := h.2 c1
    refine j_iconst (v := 1) C dX6_hasRoom_8 (by decide) ?_
    refine j_goto C 13 dX6_hasRoom_9 (by decide) ?_
    exact j_zret C hQ (by decide) (by decide) rfl h dX6_hasRoom_13
