/-! X0_byteOf -/
abbrev rm_X0_byteOf : Room := { frames := 0, cells := 0, slots := 0, locals := 0 }
theorem in_X0_byteOf_X0 : ∀ w ∈ wsX00, w ∈ wsX0_byteOf := by decide +kernel
theorem lk_X0_byteOf_9 : Cond.fieldLink RX0 9 "SameAgain$Bodies" "bytes" "[B" ∈ wsX0_byteOf := by decide +kernel
set_option maxHeartbeats 4000000 in
set_option maxRecDepth 100000 in
theorem c_X0_byteOf (l : Launch) (G : Gt) (hD : Dj G) (post : Int32 → Mem → Prop) (a1 a2 : Int32) (μ : Mem) : MI G l yX0_byteOf wsX0_byteOf rm_X0_byteOf 0 0 [.ref (ad G 3), .int a1, .int a2] μ (w_X0_byteOf post a1 a2 μ) post := by
  refine mI_of (cc := cX0_byteOf) (maxL := 3) (ty := .int) (lv0 := [(0, .ref (ad G 3)), (1, .int a1), (2, .int a2)]) hD (by decide) rfl (Nat.le_of_ble_eq_true rfl) rfl ?_
  intro X Q hl C hQ h
  subst hl
  replace C : Cx G X cX0_byteOf RX0 wsX0_byteOf 3 rm_X0_byteOf := C
  unfold w_X0_byteOf at h
  refine j_aload_n C 0 dX0_byteOf_0 rfl ?_
  refine j_getR C 3 0 sh_3 (by decide) cl_X0 (by decide) rfl in_X0_byteOf_X0 lk_X0_byteOf_9 rfl dX0_byteOf_1 ?_
  refine j_iload_n C 1 dX0_byteOf_4 rfl ?_
  refine j_bipush (v := 64) C dX0_byteOf_5 (by decide) ?_
  refine j_imul C dX0_byteOf_7 ?_
  refine j_iload_n C 2 dX0_byteOf_8 rfl ?_
  refine j_iadd C dX0_byteOf_9 ?_
  have b1 := h.1
  replace h := h.2
  refine j_bald C 18 sh_18 (by decide) b1 dX0_byteOf_10 ?_
  refine j_sipush (v := 255) C dX0_byteOf_11 (by decide) ?_
  refine j_iand C dX0_byteOf_14 ?_
  exact j_iret C hQ (by decide) (by decide) h dX0_byteOf_15
/-! X0_areAlikeWithin -/
abbrev rm_X0_areAlikeWithin : Room := { frames := 1, cells := 0, slots := 0, locals := 22 }
set_option maxHeartbeats 4000000 in
set_option maxRecDepth 100000 in
theorem w_X0_areAlikeWithin_b3_j {G : Gt} {X : Cxt} {Q : State → Prop} (C : Cx G X cX0_areAlikeWithin RX0 wsX0_areAlikeWithin 6 rm_X0_areAlikeWithin) {post : Int32 → Mem → Prop} (hQ : RetI G X Q post .boolean 0 0) : ∀ (n : Nat) (v1 v2 v4 v5 : Int32) (μ : Mem), itr (fun _ _ _ _ _ => False) (w_X0_areAlikeWithin_b3 post) n v1 v2 v4 v5 μ → J G X Q 6 0 0 3 [(0, .ref (ad G 3)), (1, .int v1), (2, .int v2), (4, .int v4), (5, .int v5)] [] μ := by
  intro n
  induction n with
  | zero => intro v1 v2 v4 v5 μ h; exact h.elim
  | succ n ih =>
    intro v1 v2 v4 v5 μ h
    replace h : w_X0_areAlikeWithin_b3 post (itr (fun _ _ _ _ _ => False) (w_X0_areAlikeWithin_b3 post) n) v1 v2 v4 v5 μ := h
    generalize itr (fun _ _ _ _ _ => False) (w_X0_areAlikeWithin_b3 post) n = k3 at ih h
    have hk3 := ih
    unfold w_X0_areAlikeWithin_b3 at h
    refine j_iload C 4 dX0_areAlikeWithin_3 rfl ?_
    refine j_iload C 3 dX0_areAlikeWithin_5 rfl ?_
    refine j_icmp_ge C 35 dX0_areAlikeWithin_7 (by decide) (fun c6 => ?_) (fun c6 => ?_)
    · replace h := h.1 c6
      refine j_iconst (v := 1) C dX0_areAlikeWithin_35 (by decide) ?_
      exact j_zret C hQ (by decide) (by decide) rfl h dX0_areAlikeWithin_36
    · replace h := h.2 c6
      refine j_aload_n C 0 dX0_areAlikeWithin_10 rfl ?_
      refine j_iload_n C 1 dX0_areAlikeWithin_11 rfl ?_
      refine j_iload C 4 dX0_areAlikeWithin_12 rfl ?_
      refine j_cVI (n := 2) (rest := []) C 3 (c_X0_byteOf (xl X) G C.2.2.1 _ v1 v5 μ) h gX0_areAlikeWithin_X0_byteOf rfl ⟨rfl, rfl⟩ (by decide +kernel) ⟨by decide, by decide⟩ ⟨by decide, by decide⟩ sh_3 (by decide) cl_X0 rfl rfl (Nat.le_of_ble_eq_true rfl) dX0_areAlikeWithin_14 rfl rfl (fun r2 μ1 h => ?_)
      refine j_aload_n C 0 dX0_areAlikeWithin_17 rfl ?_
      refine j_iload_n C 2 dX0_areAlikeWithin_18 rfl ?_
      refine j_iload C 4 dX0_areAlikeWithin_19 rfl ?_
      refine j_cVI (n := 2) (rest := [.int r2]) C 3 (c_X0_byteOf (xl X) G C.2.2.1 _ v2 v5 μ1) h gX0_areAlikeWithin_X0_byteOf rfl ⟨rfl, rfl⟩ (by decide +kernel) ⟨by decide, by decide⟩ ⟨by decide, by decide⟩ sh_3 (by decide) cl_X0 rfl rfl (Nat.le_of_ble_eq_true rfl) dX0_areAlikeWithin_21 rfl rfl (fun r4 μ3 h => ?_)
      refine j_icmp_eq C 29 dX0_areAlikeWithin_24 (by decide) (fun c5 => ?_) (fun c5 => ?_)
      · replace h := h.1 c5
        refine j_iinc (v := v5 + (1 : Int32)) (lv' := [(0, .ref (ad G 3)), (1, .int v1), (2, .int v2), (4, .int v4), (5, .int (v5 + (1 : Int32)))]) C 4 dX0_areAlikeWithin_29 rfl rfl (by decide) rfl rfl ?_
        refine j_goto C 3 dX0_areAlikeWithin_32 (by decide) ?_
        exact hk3 _ _ _ _ _ h
      · replace h := h.2 c5
        refine j_iconst (v := 0) C dX0_areAlikeWithin_27 (by decide) ?_
        exact j_zret C hQ (by decide) (by decide) rfl h dX0_areAlikeWithin_28
set_option maxHeartbeats 4000000 in
set_option maxRecDepth 100000 in
theorem c_X0_areAlikeWithin (l : Launch) (G : Gt) (hD : Dj G) (post : Int32 → Mem → Prop) (a1 a2 a3 a4 : Int32) (μ : Mem) : MI G l yX0_areAlikeWithin wsX0_areAlikeWithin rm_X0_areAlikeWithin 0 0 [.ref (ad G 3), .int a1, .int a2, .int a3, .int a4] μ (w_X0_areAlikeWithin post a1 a2 a3 a4 μ) post := by
  refine mI_of (cc := cX0_areAlikeWithin) (maxL := 6) (ty := .boolean) (lv0 := [(0, .ref (ad G 3)), (1, .int a1), (2, .int a2), (3, .int a3), (4, .int a4)]) hD (by decide) rfl (Nat.le_of_ble_eq_true rfl) rfl ?_
  intro X Q hl C hQ h
  subst hl
  replace C : Cx G X cX0_areAlikeWithin RX0 wsX0_areAlikeWithin 6 rm_X0_areAlikeWithin := C
  unfold w_X0_areAlikeWithin at h
  refine j_iload_n C 3 dX0_areAlikeWithin_0 rfl ?_
  refine j_istore (lv' := [(0, .ref (ad G 3)), (1, .int a1), (2, .int a2), (3, .int a3), (4, .int a4), (5, .int a3)]) C dX0_areAlikeWithin_1 (by decide) rfl rfl ?_
  refine j_forget [0, 1, 2, 4, 5] rfl ?_
  obtain ⟨n9, h⟩ := h
  exact w_X0_areAlikeWithin_b3_j C hQ n9 _ _ _ _ _ h
/-! X0_areAlike -/
abbrev rm_X0_areAlike : Room := { frames := 2, cells := 0, slots := 0, locals := 47 }
theorem in_X0_areAlike_X0 : ∀ w ∈ wsX00, w ∈ wsX0_areAlike := by decide +kernel
theorem lk_X0_areAlike_15 : Cond.fieldLink RX0 15 "SameAgain$Bodies" "size" "[I" ∈ wsX0_areAlike := by decide +kernel
set_option maxHeartbeats 4000000 in
set_option maxRecDepth 100000 in
theorem c_X0_areAlike (l : Launch) (G : Gt) (hD : Dj G) (post : Int32 → Mem → Prop) (a1 a2 : Int32) (μ : Mem) : MI G l yX0_areAlike wsX0_areAlike rm_X0_areAlike 0 0 [.ref (ad G 3), .int a1, .int a2] μ (w_X0_areAlike post a1 a2 μ) post := by
  refine mI_of (cc := cX0_areAlike) (maxL := 3) (ty := .boolean) (lv0 := [(0, .ref (ad G 3)), (1, .int a1), (2, .int a2)]) hD (by decide) rfl (Nat.le_of_ble_eq_true rfl) rfl ?_
  intro X Q hl C hQ h
  subst hl
  replace C : Cx G X cX0_areAlike RX0 wsX0_areAlike 3 rm_X0_areAlike := C
  unfold w_X0_areAlike at h
  refine j_aload_n C 0 dX0_areAlike_0 rfl ?_
  refine j_getR C 3 1 sh_3 (by decide) cl_X0 (by decide) rfl in_X0_areAlike_X0 lk_X0_areAlike_15 rfl dX0_areAlike_1 ?_
  refine j_iload_n C 1 dX0_areAlike_4 rfl ?_
  have b1 := h.1
  replace h := h.2
  refine j_iald C 19 sh_19 (by decide) b1 dX0_areAlike_5 ?_
  refine j_aload_n C 0 dX0_areAlike_6 rfl ?_
  refine j_getR C 3 1 sh_3 (by decide) cl_X0 (by decide) rfl in_X0_areAlike_X0 lk_X0_areAlike_15 rfl dX0_areAlike_7 ?_
  refine j_iload_n C 2 dX0_areAlike_10 rfl ?_
  have b2 := h.1
  replace h := h.2
  refine j_iald C 19 sh_19 (by decide) b2 dX0_areAlike_11 ?_
  refine j_icmp_ne C 35 dX0_areAlike_12 (by decide) (fun c7 => ?_) (fun c7 => ?_)
  · replace h := h.1 c7
    refine j_iconst (v := 0) C dX0_areAlike_35 (by decide) ?_
    exact j_zret C hQ (by decide) (by decide) rfl h dX0_areAlike_36
  · replace h := h.2 c7
    refine j_aload_n C 0 dX0_areAlike_15 rfl ?_
    refine j_iload_n C 1 dX0_areAlike_16 rfl ?_
    refine j_iload_n C 2 dX0_areAlike_17 rfl ?_
    refine j_iconst (v := 0) C dX0_areAlike_18 (by decide) ?_
    refine j_aload_n C 0 dX0_areAlike_19 rfl ?_
    refine j_getR C 3 1 sh_3 (by decide) cl_X0 (by decide) rfl in_X0_areAlike_X0 lk_X0_areAlike_15 rfl dX0_areAlike_20 ?_
    refine j_iload_n C 1 dX0_areAlike_23 rfl ?_
    have b3 := h.1
    replace h := h.2
    refine j_iald C 19 sh_19 (by decide) b3 dX0_areAlike_24 ?_
    refine j_cVI (n := 4) (rest := []) C 3 (c_X0_areAlikeWithin (xl X) G C.2.2.1 _ a1 a2 (0 : Int32) (μ 19 (ix a1)) μ) h gX0_areAlike_X0_areAlikeWithin rfl ⟨rfl, rfl⟩ (by decide +kernel) ⟨by decide, by decide⟩ ⟨by decide, by decide⟩ sh_3 (by decide) cl_X0 rfl rfl (Nat.le_of_ble_eq_true rfl) dX0_areAlike_25 rfl rfl (fun r5 μ4 h => ?_)
    refine j_if_eq C 35 dX0_areAlike_28 (by decide) (fun c6 => ?_) (fun c6 => ?_)
    · replace h := h.1 c6
      refine j_iconst (v := 0) C dX0_areAlike_35 (by decide) ?_
      exact j_zret C hQ (by decide) (by decide) rfl h dX0_areAlike_36
    · replace h := h.2 c6
      refine j_iconst (v := 1) C dX0_areAlike_31 (by decide) ?_
      refine j_goto C 36 dX0_areAlike_32 (by decide) ?_
      exact j_zret C hQ (by decide) (by decide) rfl h dX0_areAlike_36
/-! X0_hasRoomFor -/
abbrev rm_X0_hasRoomFor : Room := { frames := 0, cells := 0, slots := 0, locals := 0 }
theorem in_X0_hasRoomFor_X0 : ∀ w ∈ wsX00, w ∈ wsX0_hasRoomFor := by decide +kernel
theorem lk_X0_hasRoomFor_25 : Cond.fieldLink RX0 25 "SameAgain$Bodies" "made" "I" ∈ wsX0_hasRoomFor := by decide +kernel
set_option maxHeartbeats 4000000 in
set_option maxRecDepth 100000 in
theorem c_X0_hasRoomFor (l : Launch) (G : Gt) (hD : Dj G) (post : Int32 → Mem → Prop) (a1 : Int32) (μ : Mem) : MI G l yX0_hasRoomFor wsX0_hasRoomFor rm_X0_hasRoomFor 0 0 [.ref (ad G 3), .int a1] μ (w_X0_hasRoomFor post a1 μ) post := by
  refine mI_of (cc := cX0_hasRoomFor) (maxL := 2) (ty := .boolean) (lv0 := [(0, .ref (ad G 3)), (1, .int a1)]) hD (by decide) rfl (Nat.le_of_ble_eq_true rfl) rfl ?_
  intro X Q hl C hQ h
  subst hl
  replace C : Cx G X cX0_hasRoomFor RX0 wsX0_hasRoomFor 2 rm_X0_hasRoomFor := C
  unfold w_X0_hasRoomFor at h
  refine j_aload_n C 0 dX0_hasRoomFor_0 rfl ?_
  refine j_getI C 3 4 sh_3 (by decide) cl_X0 (by decide) rfl in_X0_hasRoomFor_X0 lk_X0_hasRoomFor_25 rfl dX0_hasRoomFor_1 ?_
  refine j_iload_n C 1 dX0_hasRoomFor_4 rfl ?_
  refine j_iadd C dX0_hasRoomFor_5 ?_
  refine j_bipush (v := 100) C dX0_hasRoomFor_6 (by decide) ?_
  refine j_icmp_gt C 15 dX0_hasRoomFor_8 (by decide) (fun c1 => ?_) (fun c1 => ?_)
  · replace h := h.1 c1
    refine j_iconst (v := 0) C dX0_hasRoomFor_15 (by decide) ?_
    exact j_zret C hQ (by decide) (by decide) rfl h dX0_hasRoomFor_16
  · replace h := h.2 c1
    refine j_iconst (v := 1) C dX0_hasRoomFor_11 (by decide) ?_
    refine j_goto C 16 dX0_hasRoomFor_12 (by decide) ?_
    exact j_zret C hQ (by decide) (by decide) rfl h dX0_hasRoomFor_16
/-! X0_make -/
abbrev rm_X0_make : Room := { frames := 0, cells := 0, slots := 0, locals := 0 }
theorem in_X0_make_X0 : ∀ w ∈ wsX00, w ∈ wsX0_make := by decide +kernel
theorem lk_X0_make_25 : Cond.fieldLink RX0 25 "SameAgain$Bodies" "made" "I" ∈ wsX0_make := by decide +kernel
theorem lk_X0_make_15 : Cond.fieldLink RX0 15 "SameAgain$Bodies" "size" "[I" ∈ wsX0_make := by decide +kernel
theorem lk_X0_make_19 : Cond.fieldLink RX0 19 "SameAgain$Bodies" "owner" "[I" ∈ wsX0_make := by decide +kernel
theorem lk_X0_make_22 : Cond.fieldLink RX0 22 "SameAgain$Bodies" "day" "[I" ∈ wsX0_make := by decide +kernel
set_option maxHeartbeats 4000000 in
set_option maxRecDepth 100000 in
theorem c_X0_make (l : Launch) (G : Gt) (hD : Dj G) (post : Int32 → Mem → Prop) (a1 a2 a3 : Int32) (μ : Mem) : MI G l yX0_make wsX0_make rm_X0_make 0 0 [.ref (ad G 3), .int a1, .int a2, .int a3] μ (w_X0_make post a1 a2 a3 μ) post := by
  refine mI_of (cc := cX0_make) (maxL := 5) (ty := .int) (lv0 := [(0, .ref (ad G 3)), (1, .int a1), (2, .int a2), (3, .int a3)]) hD (by decide) rfl (Nat.le_of_ble_eq_true rfl) rfl ?_
  intro X Q hl C hQ h
  subst hl
  replace C : Cx G X cX0_make RX0 wsX0_make 5 rm_X0_make := C
  unfold w_X0_make at h
  refine j_aload_n C 0 dX0_make_0 rfl ?_
  refine j_getI C 3 4 sh_3 (by decide) cl_X0 (by decide) rfl in_X0_make_X0 lk_X0_make_25 rfl dX0_make_1 ?_
  refine j_istore (lv' := [(0, .ref (ad G 3)), (1, .int a1), (2, .int a2), (3, .int a3), (4, .int (μ 3 4))]) C dX0_make_4 (by decide) rfl rfl ?_
  refine j_aload_n C 0 dX0_make_6 rfl ?_
  refine j_dup C dX0_make_7 rfl ?_
  refine j_getI C 3 4 sh_3 (by decide) cl_X0 (by decide) rfl in_X0_make_X0 lk_X0_make_25 rfl dX0_make_8 ?_
  refine j_iconst (v := 1) C dX0_make_11 (by decide) ?_
  refine j_iadd C dX0_make_12 ?_
  obtain ⟨μ1, e2⟩ : ∃ m, m = wr μ 3 4 ((μ 3 4) + (1 : Int32)) := ⟨_, rfl⟩
  replace h := h μ1 e2
  refine j_put C 3 4 sh_3 (by decide) cl_X0 (by decide) rfl in_X0_make_X0 lk_X0_make_25 rfl tyX0_ok nmX0 rfl rfl dX0_make_13 e2 ?_
  refine j_aload_n C 0 dX0_make_16 rfl ?_
  refine j_getR C 3 1 sh_3 (by decide) cl_X0 (by decide) rfl in_X0_make_X0 lk_X0_make_15 rfl dX0_make_17 ?_
  refine j_iload C 4 dX0_make_20 rfl ?_
  refine j_iload_n C 1 dX0_make_22 rfl ?_
  obtain ⟨μ3, e4⟩ : ∃ m, m = wr μ1 19 (ix (μ 3 4)) a1 := ⟨_, rfl⟩
  have b5 := h.1
  replace h := h.2 μ3 e4
  refine j_iast C 19 sh_19 (by decide) b5 dX0_make_23 e4 ?_
  refine j_aload_n C 0 dX0_make_24 rfl ?_
  refine j_getR C 3 2 sh_3 (by decide) cl_X0 (by decide) rfl in_X0_make_X0 lk_X0_make_19 rfl dX0_make_25 ?_
  refine j_iload C 4 dX0_make_28 rfl ?_
  refine j_iload_n C 2 dX0_make_30 rfl ?_
  obtain ⟨μ6, e7⟩ : ∃ m, m = wr μ3 20 (ix (μ 3 4)) a2 := ⟨_, rfl⟩
  have b8 := h.1
  replace h := h.2 μ6 e7
  refine j_iast C 20 sh_20 (by decide) b8 dX0_make_31 e7 ?_
  refine j_aload_n C 0 dX0_make_32 rfl ?_
  refine j_getR C 3 3 sh_3 (by decide) cl_X0 (by decide) rfl in_X0_make_X0 lk_X0_make_22 rfl dX0_make_33 ?_
  refine j_iload C 4 dX0_make_36 rfl ?_
  refine j_iload_n C 3 dX0_make_38 rfl ?_
  obtain ⟨μ9, e10⟩ : ∃ m, m = wr μ6 21 (ix (μ 3 4)) a3 := ⟨_, rfl⟩
  have b11 := h.1
  replace h := h.2 μ9 e10
  refine j_iast C 21 sh_21 (by decide) b11 dX0_make_39 e10 ?_
  refine j_iload C 4 dX0_make_40 rfl ?_
  exact j_iret C hQ (by decide) (by decide) h dX0_make_42
/-! X0_makeLike -/
abbrev rm_X0_makeLike : Room := { frames := 1, cells := 0, slots := 0, locals := 60 }
theorem in_X0_makeLike_X0 : ∀ w ∈ wsX00, w ∈ wsX0_makeLike := by decide +kernel
theorem lk_X0_makeLike_15 : Cond.fieldLink RX0 15 "SameAgain$Bodies" "size" "[I" ∈ wsX0_makeLike := by decide +kernel
theorem lk_X0_makeLike_9 : Cond.fieldLink RX0 9 "SameAgain$Bodies" "bytes" "[B" ∈ wsX0_makeLike := by decide +kernel
theorem wd_X0_makeLike_cp33 : Cond.methodLink RX0 33 arraycopyName ∈ wsX0_makeLike := by decide +kernel
theorem wd_X0_makeLike_cpn : Cond.native arraycopyName ∈ wsX0_makeLike := by decide +kernel
theorem wd_X0_makeLike_cps : Cond.static arraycopyName ∈ wsX0_makeLike := by decide +kernel
theorem wd_X0_makeLike_cpi : Cond.initialized "java/lang/System" ∈ wsX0_makeLike := by decide +kernel
set_option maxHeartbeats 4000000 in
set_option maxRecDepth 100000 in
theorem c_X0_makeLike (l : Launch) (G : Gt) (hD : Dj G) (post : Int32 → Mem → Prop) (a1 a2 a3 : Int32) (μ : Mem) : MI G l yX0_makeLike wsX0_makeLike rm_X0_makeLike 0 0 [.ref (ad G 3), .int a1, .int a2, .int a3] μ (w_X0_makeLike post a1 a2 a3 μ) post := by
  refine mI_of (cc := cX0_makeLike) (maxL := 5) (ty := .int) (lv0 := [(0, .ref (ad G 3)), (1, .int a1), (2, .int a2), (3, .int a3)]) hD (by decide) rfl (Nat.le_of_ble_eq_true rfl) rfl ?_
  intro X Q hl C hQ h
  subst hl
  replace C : Cx G X cX0_makeLike RX0 wsX0_makeLike 5 rm_X0_makeLike := C
  unfold w_X0_makeLike at h
  refine j_aload_n C 0 dX0_makeLike_0 rfl ?_
  refine j_aload_n C 0 dX0_makeLike_1 rfl ?_
  refine j_getR C 3 1 sh_3 (by decide) cl_X0 (by decide) rfl in_X0_makeLike_X0 lk_X0_makeLike_15 rfl dX0_makeLike_2 ?_
  refine j_iload_n C 1 dX0_makeLike_5 rfl ?_
  have b1 := h.1
  replace h := h.2
  refine j_iald C 19 sh_19 (by decide) b1 dX0_makeLike_6 ?_
  refine j_iload_n C 2 dX0_makeLike_7 rfl ?_
  refine j_iload_n C 3 dX0_makeLike_8 rfl ?_
  refine j_cVI (n := 3) (rest := []) C 3 (c_X0_make (xl X) G C.2.2.1 _ (μ 19 (ix a1)) a2 a3 μ) h gX0_makeLike_X0_make rfl ⟨rfl, rfl⟩ (by decide +kernel) ⟨by decide, by decide⟩ ⟨by decide, by decide⟩ sh_3 (by decide) cl_X0 rfl rfl (Nat.le_of_ble_eq_true rfl) dX0_makeLike_9 rfl rfl (fun r3 μ2 h => ?_)
  refine j_istore (lv' := [(0, .ref (ad G 3)), (1, .int a1), (2, .int a2), (3, .int a3), (4, .int r3)]) C dX0_makeLike_12 (by decide) rfl rfl ?_
  refine j_aload_n C 0 dX0_makeLike_14 rfl ?_
  refine j_getR C 3 0 sh_3 (by decide) cl_X0 (by decide) rfl in_X0_makeLike_X0 lk_X0_makeLike_9 rfl dX0_makeLike_15 ?_
  refine j_iload_n C 1 dX0_makeLike_18 rfl ?_
  refine j_bipush (v := 64) C dX0_makeLike_19 (by decide) ?_
  refine j_imul C dX0_makeLike_21 ?_
  refine j_aload_n C 0 dX0_makeLike_22 rfl ?_
  refine j_getR C 3 0 sh_3 (by decide) cl_X0 (by decide) rfl in_X0_makeLike_X0 lk_X0_makeLike_9 rfl dX0_makeLike_23 ?_
  refine j_iload C 4 dX0_makeLike_26 rfl ?_
  refine j_bipush (v := 64) C dX0_makeLike_28 (by decide) ?_
  refine j_imul C dX0_makeLike_30 ?_
  refine j_aload_n C 0 dX0_makeLike_31 rfl ?_
  refine j_getR C 3 1 sh_3 (by decide) cl_X0 (by decide) rfl in_X0_makeLike_X0 lk_X0_makeLike_15 rfl dX0_makeLike_32 ?_
  refine j_iload_n C 1 dX0_makeLike_35 rfl ?_
  have b4 := h.1
  replace h := h.2
  refine j_iald C 19 sh_19 (by decide) b4 dX0_makeLike_36 ?_
  obtain ⟨μ5, e6⟩ : ∃ m, m = wrow μ2 18 (va_cpy (μ2 18) (μ2 18) (ix (a1 * (64 : Int32))) (ix (r3 * (64 : Int32))) (ix (μ2 19 (ix a1)))) := ⟨_, rfl⟩
  have b7 := h.1
  replace h := h.2 μ5 e6
  refine j_copy C 18 18 sh_18 sh_18 (by decide) rfl (by decide) (by decide) wd_X0_makeLike_cp33 wd_X0_makeLike_cpn wd_X0_makeLike_cps wd_X0_makeLike_cpi b7.1 b7.2.1 b7.2.2.1 b7.2.2.2.1 b7.2.2.2.2.1 b7.2.2.2.2.2 (by decide) (Nat.le_of_ble_eq_true rfl) dX0_makeLike_37 e6 ?_
  refine j_iload C 4 dX0_makeLike_40 rfl ?_
  exact j_iret C hQ (by decide) (by decide) h dX0_makeLike_42
/-! X0_pieceAt -/
abbrev rm_X0_pieceAt : Room := { frames := 1, cells := 0, slots := 0, locals := 22 }
set_option maxHeartbeats 4000000 in
set_option maxRecDepth 100000 in
theorem w_X0_pieceAt_b5_j {G : Gt} {X : Cxt} {Q : State → Prop} (C : Cx G X cX0_pieceAt RX0 wsX0_pieceAt 5 rm_X0_pieceAt) {post : Int32 → Mem → Prop} (hQ : RetI G X Q post .int 0 0) : ∀ (n : Nat) (v1 v2 v3 v4 : Int32) (μ : Mem), itr (fun _ _ _ _ _ => False) (w_X0_pieceAt_b5 post) n v1 v2 v3 v4 μ → J G X Q 5 0 0 5 [(0, .ref (ad G 3)), (1, .int v1), (2, .int v2), (3, .int v3), (4, .int v4)] [] μ := by
  intro n
  induction n with
  | zero => intro v1 v2 v3 v4 μ h; exact h.elim
  | succ n ih =>
    intro v1 v2 v3 v4 μ h
    replace h : w_X0_pieceAt_b5 post (itr (fun _ _ _ _ _ => False) (w_X0_pieceAt_b5 post) n) v1 v2 v3 v4 μ := h
    generalize itr (fun _ _ _ _ _ => False) (w_X0_pieceAt_b5 post) n = k5 at ih h
    have hk5 := ih
    unfold w_X0_pieceAt_b5 at h
    refine j_iload C 4 dX0_pieceAt_5 rfl ?_
    refine j_iconst (v := 4) C dX0_pieceAt_7 (by decide) ?_
    refine j_icmp_ge C 32 dX0_pieceAt_8 (by decide) (fun c3 => ?_) (fun c3 => ?_)
    · replace h := h.1 c3
      refine j_iload_n C 3 dX0_pieceAt_32 rfl ?_
      exact j_iret C hQ (by decide) (by decide) h dX0_pieceAt_33
    · replace h := h.2 c3
      refine j_iload_n C 3 dX0_pieceAt_11 rfl ?_
      refine j_bipush (v := 8) C dX0_pieceAt_12 (by decide) ?_
      refine j_ishl C dX0_pieceAt_14 ?_
      refine j_aload_n C 0 dX0_pieceAt_15 rfl ?_
      refine j_iload_n C 1 dX0_pieceAt_16 rfl ?_
      refine j_iload_n C 2 dX0_pieceAt_17 rfl ?_
      refine j_iload C 4 dX0_pieceAt_18 rfl ?_
      refine j_iadd C dX0_pieceAt_20 ?_
      refine j_cVI (n := 2) (rest := [.int (v3 <<< ((8 : Int32) &&& 31))]) C 3 (c_X0_byteOf (xl X) G C.2.2.1 _ v1 (v2 + v4) μ) h gX0_pieceAt_X0_byteOf rfl ⟨rfl, rfl⟩ (by decide +kernel) ⟨by decide, by decide⟩ ⟨by decide, by decide⟩ sh_3 (by decide) cl_X0 rfl rfl (Nat.le_of_ble_eq_true rfl) dX0_pieceAt_21 rfl rfl (fun r2 μ1 h => ?_)
      refine j_ior C dX0_pieceAt_24 ?_
      refine j_istore_n (lv' := [(0, .ref (ad G 3)), (1, .int v1), (2, .int v2), (3, .int ((v3 <<< ((8 : Int32) &&& 31)) ||| r2)), (4, .int v4)]) C dX0_pieceAt_25 (by decide) rfl rfl ?_
      refine j_iinc (v := v4 + (1 : Int32)) (lv' := [(0, .ref (ad G 3)), (1, .int v1), (2, .int v2), (3, .int ((v3 <<< ((8 : Int32) &&& 31)) ||| r2)), (4, .int (v4 + (1 : Int32)))]) C 4 dX0_pieceAt_26 rfl rfl (by decide) rfl rfl ?_
      refine j_goto C 5 dX0_pieceAt_29 (by decide) ?_
      exact hk5 _ _ _ _ _ h
set_option maxHeartbeats 4000000 in
set_option maxRecDepth 100000 in
theorem c_X0_pieceAt (l : Launch) (G : Gt) (hD : Dj G) (post : Int32 → Mem → Prop) (a1 a2 : Int32) (μ : Mem) : MI G l yX0_pieceAt wsX0_pieceAt rm_X0_pieceAt 0 0 [.ref (ad G 3), .int a1, .int a2] μ (w_X0_pieceAt post a1 a2 μ) post := by
  refine mI_of (cc := cX0_pieceAt) (maxL := 5) (ty := .int) (lv0 := [(0, .ref (ad G 3)), (1, .int a1), (2, .int a2)]) hD (by decide) rfl (Nat.le_of_ble_eq_true rfl) rfl ?_
  intro X Q hl C hQ h
  subst hl
  replace C : Cx G X cX0_pieceAt RX0 wsX0_pieceAt 5 rm_X0_pieceAt := C
  unfold w_X0_pieceAt at h
  refine j_iconst (v := 0) C dX0_pieceAt_0 (by decide) ?_
  refine j_istore_n (lv' := [(0, .ref (ad G 3)), (1, .int a1), (2, .int a2), (3, .int (0 : Int32))]) C dX0_pieceAt_1 (by decide) rfl rfl ?_
  refine j_iconst (v := 0) C dX0_pieceAt_2 (by decide) ?_
  refine j_istore (lv' := [(0, .ref (ad G 3)), (1, .int a1), (2, .int a2), (3, .int (0 : Int32)), (4, .int (0 : Int32))]) C dX0_pieceAt_3 (by decide) rfl rfl ?_
  obtain ⟨n9, h⟩ := h
  exact w_X0_pieceAt_b5_j C hQ n9 _ _ _ _ _ h
/-! X0_put -/
abbrev rm_X0_put : Room := { frames := 0, cells := 0, slots := 0, locals := 0 }
theorem in_X0_put_X0 : ∀ w ∈ wsX00, w ∈ wsX0_put := by decide +kernel
theorem lk_X0_put_9 : Cond.fieldLink RX0 9 "SameAgain$Bodies" "bytes" "[B" ∈ wsX0_put := by decide +kernel
set_option maxHeartbeats 4000000 in
set_option maxRecDepth 100000 in
theorem c_X0_put (l : Launch) (G : Gt) (hD : Dj G) (post : Mem → Prop) (a1 a2 a3 : Int32) (μ : Mem) : MV G l yX0_put wsX0_put rm_X0_put 0 0 [.ref (ad G 3), .int a1, .int a2, .int a3] μ (w_X0_put post a1 a2 a3 μ) post := by
  refine mV_of (cc := cX0_put) (maxL := 4) (lv0 := [(0, .ref (ad G 3)), (1, .int a1), (2, .int a2), (3, .int a3)]) hD (by decide) rfl (Nat.le_of_ble_eq_true rfl) rfl ?_
  intro X Q hl C hQ h
  subst hl
  replace C : Cx G X cX0_put RX0 wsX0_put 4 rm_X0_put := C
  unfold w_X0_put at h
  refine j_aload_n C 0 dX0_put_0 rfl ?_
  refine j_getR C 3 0 sh_3 (by decide) cl_X0 (by decide) rfl in_X0_put_X0 lk_X0_put_9 rfl dX0_put_1 ?_
  refine j_iload_n C 1 dX0_put_4 rfl ?_
  refine j_bipush (v := 64) C dX0_put_5 (by decide) ?_
  refine j_imul C dX0_put_7 ?_
  refine j_iload_n C 2 dX0_put_8 rfl ?_
  refine j_iadd C dX0_put_9 ?_
  refine j_iload_n C 3 dX0_put_10 rfl ?_
  refine j_i2b C dX0_put_11 ?_
  obtain ⟨μ1, e2⟩ : ∃ m, m = wr μ 18 (ix ((a1 * (64 : Int32)) + a2)) (a3.toInt8.toInt32.toInt8.toInt32) := ⟨_, rfl⟩
  have b3 := h.1
  replace h := h.2 μ1 e2
  refine j_bast C 18 sh_18 (by decide) b3 dX0_put_12 e2 ?_
  exact j_vret C hQ (by decide) (by decide) h dX0_put_13
/-! X1_drop -/
abbrev rm_X1_drop : Room := { frames := 0, cells := 0, slots := 0, locals := 0 }
theorem in_X1_drop_X1 : ∀ w ∈ wsX10, w ∈ wsX1_drop := by decide +kernel
theorem lk_X1_drop_9 : Cond.fieldLink RX1 9 "SameAgain$Files" "folder" "[I" ∈ wsX1_drop := by decide +kernel
theorem lk_X1_drop_15 : Cond.fieldLink RX1 15 "SameAgain$Files" "name" "[I" ∈ wsX1_drop := by decide +kernel
theorem lk_X1_drop_18 : Cond.fieldLink RX1 18 "SameAgain$Files" "body" "[I" ∈ wsX1_drop := by decide +kernel
set_option maxHeartbeats 4000000 in
set_option maxRecDepth 100000 in
theorem c_X1_drop (l : Launch) (G : Gt) (hD : Dj G) (post : Mem → Prop) (a1 : Int32) (μ : Mem) : MV G l yX1_drop wsX1_drop rm_X1_drop 0 0 [.ref (ad G 2), .int a1] μ (w_X1_drop post a1 μ) post := by
  refine mV_of (cc := cX1_drop) (maxL := 2) (lv0 := [(0, .ref (ad G 2)), (1, .int a1)]) hD (by decide) rfl (Nat.le_of_ble_eq_true rfl) rfl ?_
  intro X Q hl C hQ h
  subst hl
  replace C : Cx G X cX1_drop RX1 wsX1_drop 2 rm_X1_drop := C
  unfold w_X1_drop at h
  refine j_aload_n C 0 dX1_drop_0 rfl ?_
  refine j_getR C 2 0 sh_2 (by decide) cl_X1 (by decide) rfl in_X1_drop_X1 lk_X1_drop_9 rfl dX1_drop_1 ?_
  refine j_iload_n C 1 dX1_drop_4 rfl ?_
  refine j_iconst (v := -1) C dX1_drop_5 (by decide) ?_
  obtain ⟨μ1, e2⟩ : ∃ m, m = wr μ 14 (ix a1) (-1 : Int32) := ⟨_, rfl⟩
  have b3 := h.1
  replace h := h.2 μ1 e2
  refine j_iast C 14 sh_14 (by decide) b3 dX1_drop_6 e2 ?_
  refine j_aload_n C 0 dX1_drop_7 rfl ?_
  refine j_getR C 2 1 sh_2 (by decide) cl_X1 (by decide) rfl in_X1_drop_X1 lk_X1_drop_15 rfl dX1_drop_8 ?_
  refine j_iload_n C 1 dX1_drop_11 rfl ?_
  refine j_iconst (v := -1) C dX1_drop_12 (by decide) ?_
  obtain ⟨μ4, e5⟩ : ∃ m, m = wr μ1 15 (ix a1) (-1 : Int32) := ⟨_, rfl⟩
  have b6 := h.1
  replace h := h.2 μ4 e5
  refine j_iast C 15 sh_15 (by decide) b6 dX1_drop_13 e5 ?_
  refine j_aload_n C 0 dX1_drop_14 rfl ?_
  refine j_getR C 2 2 sh_2 (by decide) cl_X1 (by decide) rfl in_X1_drop_X1 lk_X1_drop_18 rfl dX1_drop_15 ?_
  refine j_iload_n C 1 dX1_drop_18 rfl ?_
  refine j_iconst (v := -1) C dX1_drop_19 (by decide) ?_
  obtain ⟨μ7, e8⟩ : ∃ m, m = wr μ4 16 (ix a1) (-1 : Int32) := ⟨_, rfl⟩
  have b9 := h.1
  replace h := h.2 μ7 e8
  refine j_iast C 16 sh_16 (by decide) b9 dX1_drop_20 e8 ?_
  exact j_vret C hQ (by decide) (by decide) h dX1_drop_21
/-! X1_has -/
abbrev rm_X1_has : Room := { frames := 0, cells := 0, slots := 0, locals := 0 }
theorem in_X1_has_X1 : ∀ w ∈ wsX10, w ∈ wsX1_has := by decide +kernel
theorem lk_X1_has_25 : Cond.fieldLink RX1 25 "SameAgain$Files" "made" "I" ∈ wsX1_has := by decide +kernel
theorem lk_X1_has_18 : Cond.fieldLink RX1 18 "SameAgain$Files" "body" "[I" ∈ wsX1_has := by decide +kernel
set_option maxHeartbeats 4000000 in
set_option maxRecDepth 100000 in
theorem c_X1_has (l : Launch) (G : Gt) (hD : Dj G) (post : Int32 → Mem → Prop) (a1 : Int32) (μ : Mem) : MI G l yX1_has wsX1_has rm_X1_has 0 0 [.ref (ad G 2), .int a1] μ (w_X1_has post a1 μ) post := by
  refine mI_of (cc := cX1_has) (maxL := 2) (ty := .boolean) (lv0 := [(0, .ref (ad G 2)), (1, .int a1)]) hD (by decide) rfl (Nat.le_of_ble_eq_true rfl) rfl ?_
  intro X Q hl C hQ h
  subst hl
  replace C : Cx G X cX1_has RX1 wsX1_has 2 rm_X1_has := C
  unfold w_X1_has at h
  refine j_iload_n C 1 dX1_has_0 rfl ?_
  refine j_if_lt C 26 dX1_has_1 (by decide) (fun c4 => ?_) (fun c4 => ?_)
  · replace h := h.1 c4
    refine j_iconst (v := 0) C dX1_has_26 (by decide) ?_
    exact j_zret C hQ (by decide) (by decide) rfl h dX1_has_27
  · replace h := h.2 c4
    refine j_iload_n C 1 dX1_has_4 rfl ?_
    refine j_aload_n C 0 dX1_has_5 rfl ?_
    refine j_getI C 2 4 sh_2 (by decide) cl_X1 (by decide) rfl in_X1_has_X1 lk_X1_has_25 rfl dX1_has_6 ?_
    refine j_icmp_ge C 26 dX1_has_9 (by decide) (fun c3 => ?_) (fun c3 => ?_)
    · replace h := h.1 c3
      refine j_iconst (v := 0) C dX1_has_26 (by decide) ?_
      exact j_zret C hQ (by decide) (by decide) rfl h dX1_has_27
    · replace h := h.2 c3
      refine j_aload_n C 0 dX1_has_12 rfl ?_
      refine j_getR C 2 2 sh_2 (by decide) cl_X1 (by decide) rfl in_X1_has_X1 lk_X1_has_18 rfl dX1_has_13 ?_
      refine j_iload_n C 1 dX1_has_16 rfl ?_
      have b1 := h.1
      replace h := h.2
      refine j_iald C 16 sh_16 (by decide) b1 dX1_has_17 ?_
      refine j_iconst (v := -1) C dX1_has_18 (by decide) ?_
      refine j_icmp_eq C 26 dX1_has_19 (by decide) (fun c2 => ?_) (fun c2 => ?_)
      · replace h := h.1 c2
        refine j_iconst (v := 0) C dX1_has_26 (by decide) ?_
        exact j_zret C hQ (by decide) (by decide) rfl h dX1_has_27
      · replace h := h.2 c2
        refine j_iconst (v := 1) C dX1_has_22 (by decide) ?_
        refine j_goto C 27 dX1_has_23 (by decide) ?_
        exact j_zret C hQ (by decide) (by decide) rfl h dX1_has_27
/-! X1_hasRoom -/
abbrev rm_X1_hasRoom : Room := { frames := 0, cells := 0, slots := 0, locals := 0 }
theorem in_X1_hasRoom_X1 : ∀ w ∈ wsX10, w ∈ wsX1_hasRoom := by decide +kernel
theorem lk_X1_hasRoom_25 : Cond.fieldLink RX1 25 "SameAgain$Files" "made" "I" ∈ wsX1_hasRoom := by decide +kernel
set_option maxHeartbeats 4000000 in
set_option maxRecDepth 100000 in
theorem c_X1_hasRoom (l : Launch) (G : Gt) (hD : Dj G) (post : Int32 → Mem → Prop) (μ : Mem) : MI G l yX1_hasRoom wsX1_hasRoom rm_X1_hasRoom 0 0 [.ref (ad G 2)] μ (w_X1_hasRoom post μ) post := by
  refine mI_of (cc := cX1_hasRoom) (maxL := 1) (ty := .boolean) (lv0 := [(0, .ref (ad G 2))]) hD (by decide) rfl (Nat.le_of_ble_eq_true rfl) rfl ?_
  intro X Q hl C hQ h
  subst hl
  replace C : Cx G X cX1_hasRoom RX1 wsX1_hasRoom 1 rm_X1_hasRoom := C
  unfold w_X1_hasRoom at h
  refine j_aload_n C 0 dX1_hasRoom_0 rfl ?_
  refine j_getI C 2 4 sh_2 (by decide) cl_X1 (by decide) rfl in_X1_hasRoom_X1 lk_X1_hasRoom_25 rfl dX1_hasRoom_1 ?_
  refine j_bipush (v := 60) C dX1_hasRoom_4 (by decide) ?_
  refine j_icmp_ge C 13 dX1_hasRoom_6 (by decide) (fun c1 => ?_) (fun c1 => ?_)
  · replace h := h.1 c1
    refine j_iconst (v := 0) C dX1_hasRoom_13 (by decide) ?_
    exact j_zret C hQ (by decide) (by decide) rfl h dX1_hasRoom_14
  · replace h := h.2 c1
    refine j_iconst (v := 1) C dX1_hasRoom_9 (by decide) ?_
    refine j_goto C 14 dX1_hasRoom_10 (by decide) ?_
    exact j_zret C hQ (by decide) (by decide) rfl h dX1_hasRoom_14
/-! X1_having -/
abbrev rm_X1_having : Room := { frames := 0, cells := 0, slots := 0, locals := 0 }
theorem in_X1_having_X1 : ∀ w ∈ wsX10, w ∈ wsX1_having := by decide +kernel
theorem lk_X1_having_25 : Cond.fieldLink RX1 25 "SameAgain$Files" "made" "I" ∈ wsX1_having := by decide +kernel
theorem lk_X1_having_18 : Cond.fieldLink RX1 18 "SameAgain$Files" "body" "[I" ∈ wsX1_having := by decide +kernel
set_option maxHeartbeats 4000000 in
set_option maxRecDepth 100000 in
theorem w_X1_having_b4_j {G : Gt} {X : Cxt} {Q : State → Prop} (C : Cx G X cX1_having RX1 wsX1_having 4 rm_X1_having) {post : Int32 → Mem → Prop} (hQ : RetI G X Q post .int 0 0) : ∀ (n : Nat) (v1 v2 v3 : Int32) (μ : Mem), itr (fun _ _ _ _ => False) (w_X1_having_b4 post) n v1 v2 v3 μ → J G X Q 4 0 0 4 [(0, .ref (ad G 2)), (1, .int v1), (2, .int v2), (3, .int v3)] [] μ := by
  intro n
  induction n with
  | zero => intro v1 v2 v3 μ h; exact h.elim
  | succ n ih =>
    intro v1 v2 v3 μ h
    replace h : w_X1_having_b4 post (itr (fun _ _ _ _ => False) (w_X1_having_b4 post) n) v1 v2 v3 μ := h
    generalize itr (fun _ _ _ _ => False) (w_X1_having_b4 post) n = k4 at ih h
    have hk4 := ih
    unfold w_X1_having_b4 at h
    refine j_iload_n C 3 dX1_having_4 rfl ?_
    refine j_aload_n C 0 dX1_having_5 rfl ?_
    refine j_getI C 2 4 sh_2 (by decide) cl_X1 (by decide) rfl in_X1_having_X1 lk_X1_having_25 rfl dX1_having_6 ?_
    refine j_icmp_ge C 31 dX1_having_9 (by decide) (fun c3 => ?_) (fun c3 => ?_)
    · replace h := h.1 c3
      refine j_iload_n C 2 dX1_having_31 rfl ?_
      exact j_iret C hQ (by decide) (by decide) h dX1_having_32
    · replace h := h.2 c3
      refine j_aload_n C 0 dX1_having_12 rfl ?_
      refine j_getR C 2 2 sh_2 (by decide) cl_X1 (by decide) rfl in_X1_having_X1 lk_X1_having_18 rfl dX1_having_13 ?_
      refine j_iload_n C 3 dX1_having_16 rfl ?_
      have b1 := h.1
      replace h := h.2
      refine j_iald C 16 sh_16 (by decide) b1 dX1_having_17 ?_
      refine j_iload_n C 1 dX1_having_18 rfl ?_
      refine j_icmp_ne C 25 dX1_having_19 (by decide) (fun c2 => ?_) (fun c2 => ?_)
      · replace h := h.1 c2
        refine j_iinc (v := v3 + (1 : Int32)) (lv' := [(0, .ref (ad G 2)), (1, .int v1), (2, .int v2), (3, .int (v3 + (1 : Int32)))]) C 3 dX1_having_25 rfl rfl (by decide) rfl rfl ?_
        refine j_goto C 4 dX1_having_28 (by decide) ?_
        exact hk4 _ _ _ _ h
      · replace h := h.2 c2
        refine j_iinc (v := v2 + (1 : Int32)) (lv' := [(0, .ref (ad G 2)), (1, .int v1), (2, .int (v2 + (1 : Int32))), (3, .int v3)]) C 2 dX1_having_22 rfl rfl (by decide) rfl rfl ?_
        refine j_iinc (v := v3 + (1 : Int32)) (lv' := [(0, .ref (ad G 2)), (1, .int v1), (2, .int (v2 + (1 : Int32))), (3, .int (v3 + (1 : Int32)))]) C 3 dX1_having_25 rfl rfl (by decide) rfl rfl ?_
        refine j_goto C 4 dX1_having_28 (by decide) ?_
        exact hk4 _ _ _ _ h
set_option maxHeartbeats 4000000 in
set_option maxRecDepth 100000 in
theorem c_X1_having (l : Launch) (G : Gt) (hD : Dj G) (post : Int32 → Mem → Prop) (a1 : Int32) (μ : Mem) : MI G l yX1_having wsX1_having rm_X1_having 0 0 [.ref (ad G 2), .int a1] μ (w_X1_having post a1 μ) post := by
  refine mI_of (cc := cX1_having) (maxL := 4) (ty := .int) (lv0 := [(0, .ref (ad G 2)), (1, .int a1)]) hD (by decide) rfl (Nat.le_of_ble_eq_true rfl) rfl ?_
  intro X Q hl C hQ h
  subst hl
  replace C : Cx G X cX1_having RX1 wsX1_having 4 rm_X1_having := C
  unfold w_X1_having at h
  refine j_iconst (v := 0) C dX1_having_0 (by decide) ?_
  refine j_istore_n (lv' := [(0, .ref (ad G 2)), (1, .int a1), (2, .int (0 : Int32))]) C dX1_having_1 (by decide) rfl rfl ?_
  refine j_iconst (v := 0) C dX1_having_2 (by decide) ?_
  refine j_istore_n (lv' := [(0, .ref (ad G 2)), (1, .int a1), (2, .int (0 : Int32)), (3, .int (0 : Int32))]) C dX1_having_3 (by decide) rfl rfl ?_
  obtain ⟨n9, h⟩ := h
  exact w_X1_having_b4_j C hQ n9 _ _ _ _ h
/-! X1_isIn -/
abbrev rm_X1_isIn : Room := { frames := 0, cells := 0, slots := 0, locals := 0 }
theorem in_X1_isIn_X1 : ∀ w ∈ wsX10, w ∈ wsX1_isIn := by decide +kernel
theorem lk_X1_isIn_9 : Cond.fieldLink RX1 9 "SameAgain$Files" "folder" "[I" ∈ wsX1_isIn := by decide +kernel
set_option maxHeartbeats 4000000 in
set_option maxRecDepth 100000 in
theorem c_X1_isIn (l : Launch) (G : Gt) (hD : Dj G) (post : Int32 → Mem → Prop) (a1 a2 : Int32) (μ : Mem) : MI G l yX1_isIn wsX1_isIn rm_X1_isIn 0 0 [.ref (ad G 2), .int a1, .int a2] μ (w_X1_isIn post a1 a2 μ) post := by
  refine mI_of (cc := cX1_isIn) (maxL := 3) (ty := .boolean) (lv0 := [(0, .ref (ad G 2)), (1, .int a1), (2, .int a2)]) hD (by decide) rfl (Nat.le_of_ble_eq_true rfl) rfl ?_
  intro X Q hl C hQ h
  subst hl
  replace C : Cx G X cX1_isIn RX1 wsX1_isIn 3 rm_X1_isIn := C
  unfold w_X1_isIn at h
  refine j_aload_n C 0 dX1_isIn_0 rfl ?_
  refine j_getR C 2 0 sh_2 (by decide) cl_X1 (by decide) rfl in_X1_isIn_X1 lk_X1_isIn_9 rfl dX1_isIn_1 ?_
  refine j_iload_n C 1 dX1_isIn_4 rfl ?_
  have b1 := h.1
  replace h := h.2
  refine j_iald C 14 sh_14 (by decide) b1 dX1_isIn_5 ?_
  refine j_iload_n C 2 dX1_isIn_6 rfl ?_
  refine j_icmp_ne C 14 dX1_isIn_7 (by decide) (fun c2 => ?_) (fun c2 => ?_)
  · replace h := h.1 c2
    refine j_iconst (v := 0) C dX1_isIn_14 (by decide) ?_
    exact j_zret C hQ (by decide) (by decide) rfl h dX1_isIn_15
  · replace h := h.2 c2
    refine j_iconst (v := 1) C dX1_isIn_10 (by decide) ?_
    refine j_goto C 15 dX1_isIn_11 (by decide) ?_
    exact j_zret C hQ (by decide) (by decide) rfl h dX1_isIn_15
/-! X1_make -/
abbrev rm_X1_make : Room := { frames := 0, cells := 0, slots := 0, locals := 0 }
theorem in_X1_make_X1 : ∀ w ∈ wsX10, w ∈ wsX1_make := by decide +kernel
theorem lk_X1_make_25 : Cond.fieldLink RX1 25 "SameAgain$Files" "made" "I" ∈ wsX1_make := by decide +kernel
theorem lk_X1_make_9 : Cond.fieldLink RX1 9 "SameAgain$Files" "folder" "[I" ∈ wsX1_make := by decide +kernel
theorem lk_X1_make_15 : Cond.fieldLink RX1 15 "SameAgain$Files" "name" "[I" ∈ wsX1_make := by decide +kernel
theorem lk_X1_make_18 : Cond.fieldLink RX1 18 "SameAgain$Files" "body" "[I" ∈ wsX1_make := by decide +kernel
set_option maxHeartbeats 4000000 in
set_option maxRecDepth 100000 in
theorem c_X1_make (l : Launch) (G : Gt) (hD : Dj G) (post : Int32 → Mem → Prop) (a1 a2 a3 : Int32) (μ : Mem) : MI G l yX1_make wsX1_make rm_X1_make 0 0 [.ref (ad G 2), .int a1, .int a2, .int a3] μ (w_X1_make post a1 a2 a3 μ) post := by
  refine mI_of (cc := cX1_make) (maxL := 5) (ty := .int) (lv0 := [(0, .ref (ad G 2)), (1, .int a1), (2, .int a2), (3, .int a3)]) hD (by decide) rfl (Nat.le_of_ble_eq_true rfl) rfl ?_
  intro X Q hl C hQ h
  subst hl
  replace C : Cx G X cX1_make RX1 wsX1_make 5 rm_X1_make := C
  unfold w_X1_make at h
  refine j_aload_n C 0 dX1_make_0 rfl ?_
  refine j_getI C 2 4 sh_2 (by decide) cl_X1 (by decide) rfl in_X1_make_X1 lk_X1_make_25 rfl dX1_make_1 ?_
  refine j_istore (lv' := [(0, .ref (ad G 2)), (1, .int a1), (2, .int a2), (3, .int a3), (4, .int (μ 2 4))]) C dX1_make_4 (by decide) rfl rfl ?_
  refine j_aload_n C 0 dX1_make_6 rfl ?_
  refine j_dup C dX1_make_7 rfl ?_
  refine j_getI C 2 4 sh_2 (by decide) cl_X1 (by decide) rfl in_X1_make_X1 lk_X1_make_25 rfl dX1_make_8 ?_
  refine j_iconst (v := 1) C dX1_make_11 (by decide) ?_
  refine j_iadd C dX1_make_12 ?_
  obtain ⟨μ1, e2⟩ : ∃ m, m = wr μ 2 4 ((μ 2 4) + (1 : Int32)) := ⟨_, rfl⟩
  replace h := h μ1 e2
  refine j_put C 2 4 sh_2 (by decide) cl_X1 (by decide) rfl in_X1_make_X1 lk_X1_make_25 rfl tyX1_ok nmX1 rfl rfl dX1_make_13 e2 ?_
  refine j_aload_n C 0 dX1_make_16 rfl ?_
  refine j_getR C 2 0 sh_2 (by decide) cl_X1 (by decide) rfl in_X1_make_X1 lk_X1_make_9 rfl dX1_make_17 ?_
  refine j_iload C 4 dX1_make_20 rfl ?_
  refine j_iload_n C 1 dX1_make_22 rfl ?_
  obtain ⟨μ3, e4⟩ : ∃ m, m = wr μ1 14 (ix (μ 2 4)) a1 := ⟨_, rfl⟩
  have b5 := h.1
  replace h := h.2 μ3 e4
  refine j_iast C 14 sh_14 (by decide) b5 dX1_make_23 e4 ?_
  refine j_aload_n C 0 dX1_make_24 rfl ?_
  refine j_getR C 2 1 sh_2 (by decide) cl_X1 (by decide) rfl in_X1_make_X1 lk_X1_make_15 rfl dX1_make_25 ?_
  refine j_iload C 4 dX1_make_28 rfl ?_
  refine j_iload_n C 2 dX1_make_30 rfl ?_
  obtain ⟨μ6, e7⟩ : ∃ m, m = wr μ3 15 (ix (μ 2 4)) a2 := ⟨_, rfl⟩
  have b8 := h.1
  replace h := h.2 μ6 e7
  refine j_iast C 15 sh_15 (by decide) b8 dX1_make_31 e7 ?_
  refine j_aload_n C 0 dX1_make_32 rfl ?_
  refine j_getR C 2 2 sh_2 (by decide) cl_X1 (by decide) rfl in_X1_make_X1 lk_X1_make_18 rfl dX1_make_33 ?_
  refine j_iload C 4 dX1_make_36 rfl ?_
  refine j_iload_n C 3 dX1_make_38 rfl ?_
  obtain ⟨μ9, e10⟩ : ∃ m, m = wr μ6 16 (ix (μ 2 4)) a3 := ⟨_, rfl⟩
  have b11 := h.1
  replace h := h.2 μ9 e10
  refine j_iast C 16 sh_16 (by decide) b11 dX1_make_39 e10 ?_
  refine j_iload C 4 dX1_make_40 rfl ?_
  exact j_iret C hQ (by decide) (by decide) h dX1_make_42
/-! X1_named -/
abbrev rm_X1_named : Room := { frames := 0, cells := 0, slots := 0, locals := 0 }
theorem in_X1_named_X1 : ∀ w ∈ wsX10, w ∈ wsX1_named := by decide +kernel
theorem lk_X1_named_25 : Cond.fieldLink RX1 25 "SameAgain$Files" "made" "I" ∈ wsX1_named := by decide +kernel
theorem lk_X1_named_9 : Cond.fieldLink RX1 9 "SameAgain$Files" "folder" "[I" ∈ wsX1_named := by decide +kernel
theorem lk_X1_named_15 : Cond.fieldLink RX1 15 "SameAgain$Files" "name" "[I" ∈ wsX1_named := by decide +kernel
set_option maxHeartbeats 4000000 in
set_option maxRecDepth 100000 in
theorem w_X1_named_b2_j {G : Gt} {X : Cxt} {Q : State → Prop} (C : Cx G X cX1_named RX1 wsX1_named 4 rm_X1_named) {post : Int32 → Mem → Prop} (hQ : RetI G X Q post .int 0 0) : ∀ (n : Nat) (v1 v2 v3 : Int32) (μ : Mem), itr (fun _ _ _ _ => False) (w_X1_named_b2 post) n v1 v2 v3 μ → J G X Q 4 0 0 2 [(0, .ref (ad G 2)), (1, .int v1), (2, .int v2), (3, .int v3)] [] μ := by
  intro n
  induction n with
  | zero => intro v1 v2 v3 μ h; exact h.elim
  | succ n ih =>
    intro v1 v2 v3 μ h
    replace h : w_X1_named_b2 post (itr (fun _ _ _ _ => False) (w_X1_named_b2 post) n) v1 v2 v3 μ := h
    generalize itr (fun _ _ _ _ => False) (w_X1_named_b2 post) n = k2 at ih h
    have hk2 := ih
    unfold w_X1_named_b2 at h
    refine j_iload_n C 3 dX1_named_2 rfl ?_
    refine j_aload_n C 0 dX1_named_3 rfl ?_
    refine j_getI C 2 4 sh_2 (by decide) cl_X1 (by decide) rfl in_X1_named_X1 lk_X1_named_25 rfl dX1_named_4 ?_
    refine j_icmp_ge C 38 dX1_named_7 (by decide) (fun c5 => ?_) (fun c5 => ?_)
    · replace h := h.1 c5
      refine j_iconst (v := -1) C dX1_named_38 (by decide) ?_
      exact j_iret C hQ (by decide) (by decide) h dX1_named_39
    · replace h := h.2 c5
      refine j_aload_n C 0 dX1_named_10 rfl ?_
      refine j_getR C 2 0 sh_2 (by decide) cl_X1 (by decide) rfl in_X1_named_X1 lk_X1_named_9 rfl dX1_named_11 ?_
      refine j_iload_n C 3 dX1_named_14 rfl ?_
      have b1 := h.1
      replace h := h.2
      refine j_iald C 14 sh_14 (by decide) b1 dX1_named_15 ?_
      refine j_iload_n C 1 dX1_named_16 rfl ?_
      refine j_icmp_ne C 32 dX1_named_17 (by decide) (fun c4 => ?_) (fun c4 => ?_)
      · replace h := h.1 c4
        refine j_iinc (v := v3 + (1 : Int32)) (lv' := [(0, .ref (ad G 2)), (1, .int v1), (2, .int v2), (3, .int (v3 + (1 : Int32)))]) C 3 dX1_named_32 rfl rfl (by decide) rfl rfl ?_
        refine j_goto C 2 dX1_named_35 (by decide) ?_
        exact hk2 _ _ _ _ h
      · replace h := h.2 c4
        refine j_aload_n C 0 dX1_named_20 rfl ?_
        refine j_getR C 2 1 sh_2 (by decide) cl_X1 (by decide) rfl in_X1_named_X1 lk_X1_named_15 rfl dX1_named_21 ?_
        refine j_iload_n C 3 dX1_named_24 rfl ?_
        have b2 := h.1
        replace h := h.2
        refine j_iald C 15 sh_15 (by decide) b2 dX1_named_25 ?_
        refine j_iload_n C 2 dX1_named_26 rfl ?_
        refine j_icmp_ne C 32 dX1_named_27 (by decide) (fun c3 => ?_) (fun c3 => ?_)
        · replace h := h.1 c3
          refine j_iinc (v := v3 + (1 : Int32)) (lv' := [(0, .ref (ad G 2)), (1, .int v1), (2, .int v2), (3, .int (v3 + (1 : Int32)))]) C 3 dX1_named_32 rfl rfl (by decide) rfl rfl ?_
          refine j_goto C 2 dX1_named_35 (by decide) ?_
          exact hk2 _ _ _ _ h
        · replace h := h.2 c3
          refine j_iload_n C 3 dX1_named_30 rfl ?_
          exact j_iret C hQ (by decide) (by decide) h dX1_named_31
set_option maxHeartbeats 4000000 in
set_option maxRecDepth 100000 in
theorem c_X1_named (l : Launch) (G : Gt) (hD : Dj G) (post : Int32 → Mem → Prop) (a1 a2 : Int32) (μ : Mem) : MI G l yX1_named wsX1_named rm_X1_named 0 0 [.ref (ad G 2), .int a1, .int a2] μ (w_X1_named post a1 a2 μ) post := by
  refine mI_of (cc := cX1_named) (maxL := 4) (ty := .int) (lv0 := [(0, .ref (ad G 2)), (1, .int a1), (2, .int a2)]) hD (by decide) rfl (Nat.le_of_ble_eq_true rfl) rfl ?_
  intro X Q hl C hQ h
  subst hl
  replace C : Cx G X cX1_named RX1 wsX1_named 4 rm_X1_named := C
  unfold w_X1_named at h
  refine j_iconst (v := 0) C dX1_named_0 (by decide) ?_
  refine j_istore_n (lv' := [(0, .ref (ad G 2)), (1, .int a1), (2, .int a2), (3, .int (0 : Int32))]) C dX1_named_1 (by decide) rfl rfl ?_
  obtain ⟨n9, h⟩ := h
  exact w_X1_named_b2_j C hQ n9 _ _ _ _ h
/-! X1_there -/
abbrev rm_X1_there : Room := { frames := 1, cells := 0, slots := 0, locals := 23 }
theorem in_X1_there_X1 : ∀ w ∈ wsX10, w ∈ wsX1_there := by decide +kernel
theorem lk_X1_there_25 : Cond.fieldLink RX1 25 "SameAgain$Files" "made" "I" ∈ wsX1_there := by decide +kernel
set_option maxHeartbeats 4000000 in
set_option maxRecDepth 100000 in
theorem c_X1_there (l : Launch) (G : Gt) (hD : Dj G) (post : Int32 → Mem → Prop) (μ : Mem) : MI G l yX1_there wsX1_there rm_X1_there 0 0 [.ref (ad G 2)] μ (w_X1_there post μ) post := by
  refine mI_of (cc := cX1_there) (maxL := 1) (ty := .int) (lv0 := [(0, .ref (ad G 2))]) hD (by decide) rfl (Nat.le_of_ble_eq_true rfl) rfl ?_
  intro X Q hl C hQ h
  subst hl
  replace C : Cx G X cX1_there RX1 wsX1_there 1 rm_X1_there := C
  unfold w_X1_there at h
  refine j_aload_n C 0 dX1_there_0 rfl ?_
  refine j_getI C 2 4 sh_2 (by decide) cl_X1 (by decide) rfl in_X1_there_X1 lk_X1_there_25 rfl dX1_there_1 ?_
  refine j_aload_n C 0 dX1_there_4 rfl ?_
  refine j_iconst (v := -1) C dX1_there_5 (by decide) ?_
  refine j_cVI (n := 1) (rest := [.int (μ 2 4)]) C 2 (c_X1_having (xl X) G C.2.2.1 _ (-1 : Int32) μ) h gX1_there_X1_having rfl ⟨rfl, rfl⟩ (by decide +kernel) ⟨by decide, by decide⟩ ⟨by decide, by decide⟩ sh_2 (by decide) cl_X1 rfl rfl (Nat.le_of_ble_eq_true rfl) dX1_there_6 rfl rfl (fun r2 μ1 h => ?_)
  refine j_isub C dX1_there_9 ?_
  exact j_iret C hQ (by decide) (by decide) h dX1_there_10
