/-! X8_isAhead -/
abbrev rm_X8_isAhead : Room := { frames := 2, cells := 0, slots := 0, locals := 45 }
theorem in_X8_isAhead_X8 : ∀ w ∈ wsX80, w ∈ wsX8_isAhead := by decide +kernel
theorem lk_X8_isAhead_184 : Cond.fieldLink RX8 184 "SameAgainModel" "wishes" "I" ∈ wsX8_isAhead := by decide +kernel
set_option maxHeartbeats 4000000 in
set_option maxRecDepth 100000 in
theorem w_X8_isAhead_b2_j {G : Gt} {X : Cxt} {Q : State → Prop} (C : Cx G X cX8_isAhead RX8 wsX8_isAhead 4 rm_X8_isAhead) {post : Int32 → Mem → Prop} (hQ : RetI G X Q post .boolean 0 0) : ∀ (n : Nat) (v1 v2 v3 : Int32) (μ : Mem), itr (fun _ _ _ _ => False) (w_X8_isAhead_b2 post) n v1 v2 v3 μ → J G X Q 4 0 0 2 [(0, .ref (ad G 31)), (1, .int v1), (2, .int v2), (3, .int v3)] [] μ := by
  intro n
  induction n with
  | zero => intro v1 v2 v3 μ h; exact h.elim
  | succ n ih =>
    intro v1 v2 v3 μ h
    replace h : w_X8_isAhead_b2 post (itr (fun _ _ _ _ => False) (w_X8_isAhead_b2 post) n) v1 v2 v3 μ := h
    generalize itr (fun _ _ _ _ => False) (w_X8_isAhead_b2 post) n = k2 at ih h
    have hk2 := ih
    unfold w_X8_isAhead_b2 at h
    refine j_iload_n C 3 dX8_isAhead_2 rfl ?_
    refine j_aload_n C 0 dX8_isAhead_3 rfl ?_
    refine j_getI C 31 8 sh_31 (by decide) cl_X8 (by decide) rfl in_X8_isAhead_X8 lk_X8_isAhead_184 rfl dX8_isAhead_4 ?_
    refine j_icmp_ge C 52 dX8_isAhead_7 (by decide) (fun c11 => ?_) (fun c11 => ?_)
    · replace h := h.1 c11
      refine j_iconst (v := 0) C dX8_isAhead_52 (by decide) ?_
      exact j_zret C hQ (by decide) (by decide) rfl h dX8_isAhead_53
    · replace h := h.2 c11
      refine j_aload_n C 0 dX8_isAhead_10 rfl ?_
      refine j_iload_n C 3 dX8_isAhead_11 rfl ?_
      refine j_iload_n C 1 dX8_isAhead_12 rfl ?_
      refine j_cVI (n := 2) (rest := []) C 31 (c_X8_rank (xl X) G C.2.2.1 _ v3 v1 μ) h gX8_isAhead_X8_rank rfl ⟨rfl, rfl⟩ (by decide +kernel) ⟨by decide, by decide⟩ ⟨by decide, by decide⟩ sh_31 (by decide) cl_X8 rfl rfl (Nat.le_of_ble_eq_true rfl) dX8_isAhead_13 rfl rfl (fun r2 μ1 h => ?_)
      refine j_aload_n C 0 dX8_isAhead_16 rfl ?_
      refine j_iload_n C 3 dX8_isAhead_17 rfl ?_
      refine j_iload_n C 2 dX8_isAhead_18 rfl ?_
      refine j_cVI (n := 2) (rest := [.int r2]) C 31 (c_X8_rank (xl X) G C.2.2.1 _ v3 v2 μ1) h gX8_isAhead_X8_rank rfl ⟨rfl, rfl⟩ (by decide +kernel) ⟨by decide, by decide⟩ ⟨by decide, by decide⟩ sh_31 (by decide) cl_X8 rfl rfl (Nat.le_of_ble_eq_true rfl) dX8_isAhead_19 rfl rfl (fun r4 μ3 h => ?_)
      refine j_icmp_eq C 46 dX8_isAhead_22 (by decide) (fun c10 => ?_) (fun c10 => ?_)
      · replace h := h.1 c10
        refine j_iinc (v := v3 + (1 : Int32)) (lv' := [(0, .ref (ad G 31)), (1, .int v1), (2, .int v2), (3, .int (v3 + (1 : Int32)))]) C 3 dX8_isAhead_46 rfl rfl (by decide) rfl rfl ?_
        refine j_goto C 2 dX8_isAhead_49 (by decide) ?_
        exact hk2 _ _ _ _ h
      · replace h := h.2 c10
        refine j_aload_n C 0 dX8_isAhead_25 rfl ?_
        refine j_iload_n C 3 dX8_isAhead_26 rfl ?_
        refine j_iload_n C 1 dX8_isAhead_27 rfl ?_
        refine j_cVI (n := 2) (rest := []) C 31 (c_X8_rank (xl X) G C.2.2.1 _ v3 v1 μ3) h gX8_isAhead_X8_rank rfl ⟨rfl, rfl⟩ (by decide +kernel) ⟨by decide, by decide⟩ ⟨by decide, by decide⟩ sh_31 (by decide) cl_X8 rfl rfl (Nat.le_of_ble_eq_true rfl) dX8_isAhead_28 rfl rfl (fun r6 μ5 h => ?_)
        refine j_aload_n C 0 dX8_isAhead_31 rfl ?_
        refine j_iload_n C 3 dX8_isAhead_32 rfl ?_
        refine j_iload_n C 2 dX8_isAhead_33 rfl ?_
        refine j_cVI (n := 2) (rest := [.int r6]) C 31 (c_X8_rank (xl X) G C.2.2.1 _ v3 v2 μ5) h gX8_isAhead_X8_rank rfl ⟨rfl, rfl⟩ (by decide +kernel) ⟨by decide, by decide⟩ ⟨by decide, by decide⟩ sh_31 (by decide) cl_X8 rfl rfl (Nat.le_of_ble_eq_true rfl) dX8_isAhead_34 rfl rfl (fun r8 μ7 h => ?_)
        refine j_icmp_ge C 44 dX8_isAhead_37 (by decide) (fun c9 => ?_) (fun c9 => ?_)
        · replace h := h.1 c9
          refine j_iconst (v := 0) C dX8_isAhead_44 (by decide) ?_
          exact j_zret C hQ (by decide) (by decide) rfl h dX8_isAhead_45
        · replace h := h.2 c9
          refine j_iconst (v := 1) C dX8_isAhead_40 (by decide) ?_
          refine j_goto C 45 dX8_isAhead_41 (by decide) ?_
          exact j_zret C hQ (by decide) (by decide) rfl h dX8_isAhead_45
set_option maxHeartbeats 4000000 in
set_option maxRecDepth 100000 in
theorem c_X8_isAhead (l : Launch) (G : Gt) (hD : Dj G) (post : Int32 → Mem → Prop) (a1 a2 : Int32) (μ : Mem) : MI G l yX8_isAhead wsX8_isAhead rm_X8_isAhead 0 0 [.ref (ad G 31), .int a1, .int a2] μ (w_X8_isAhead post a1 a2 μ) post := by
  refine mI_of (cc := cX8_isAhead) (maxL := 4) (ty := .boolean) (lv0 := [(0, .ref (ad G 31)), (1, .int a1), (2, .int a2)]) hD (by decide) rfl (Nat.le_of_ble_eq_true rfl) rfl ?_
  intro X Q hl C hQ h
  subst hl
  replace C : Cx G X cX8_isAhead RX8 wsX8_isAhead 4 rm_X8_isAhead := C
  unfold w_X8_isAhead at h
  refine j_iconst (v := 0) C dX8_isAhead_0 (by decide) ?_
  refine j_istore_n (lv' := [(0, .ref (ad G 31)), (1, .int a1), (2, .int a2), (3, .int (0 : Int32))]) C dX8_isAhead_1 (by decide) rfl rfl ?_
  obtain ⟨n9, h⟩ := h
  exact w_X8_isAhead_b2_j C hQ n9 _ _ _ _ h
/-! X8_isGroup -/
abbrev rm_X8_isGroup : Room := { frames := 1, cells := 0, slots := 0, locals := 22 }
theorem in_X8_isGroup_X8 : ∀ w ∈ wsX80, w ∈ wsX8_isGroup := by decide +kernel
theorem lk_X8_isGroup_87 : Cond.fieldLink RX8 87 "SameAgainModel" "thrown" "I" ∈ wsX8_isGroup := by decide +kernel
theorem lk_X8_isGroup_162 : Cond.fieldLink RX8 162 "SameAgainModel" "groups" "I" ∈ wsX8_isGroup := by decide +kernel
set_option maxHeartbeats 4000000 in
set_option maxRecDepth 100000 in
theorem w_X8_isGroup_b23_j {G : Gt} {X : Cxt} {Q : State → Prop} (C : Cx G X cX8_isGroup RX8 wsX8_isGroup 2 rm_X8_isGroup) {post : Int32 → Mem → Prop} (hQ : RetI G X Q post .boolean 0 0) {s0 : Int32} {μ : Mem} (h : w_X8_isGroup_b23 post s0 μ) : J G X Q 2 0 0 23 [] [.int s0, .ref (ad G 31)] μ := by
  unfold w_X8_isGroup_b23 at h
  refine j_iconst (v := 1) C dX8_isGroup_23 (by decide) ?_
  refine j_cVI (n := 2) (rest := []) C 31 (c_X8_right (xl X) G C.2.2.1 _ s0 (1 : Int32) μ) h gX8_isGroup_X8_right rfl ⟨rfl, rfl⟩ (by decide +kernel) ⟨by decide, by decide⟩ ⟨by decide, by decide⟩ sh_31 (by decide) cl_X8 rfl rfl (Nat.le_of_ble_eq_true rfl) dX8_isGroup_24 rfl rfl (fun r4 μ3 h => ?_)
  exact j_zret C hQ (by decide) (by decide) h.1 h.2 dX8_isGroup_27
set_option maxHeartbeats 4000000 in
set_option maxRecDepth 100000 in
theorem w_X8_isGroup_b22_j {G : Gt} {X : Cxt} {Q : State → Prop} (C : Cx G X cX8_isGroup RX8 wsX8_isGroup 2 rm_X8_isGroup) {post : Int32 → Mem → Prop} (hQ : RetI G X Q post .boolean 0 0) {μ : Mem} (h : w_X8_isGroup_b22 post μ) : J G X Q 2 0 0 22 [] [.ref (ad G 31)] μ := by
  unfold w_X8_isGroup_b22 at h
  refine j_iconst (v := 0) C dX8_isGroup_22 (by decide) ?_
  exact w_X8_isGroup_b23_j C hQ h
set_option maxHeartbeats 4000000 in
set_option maxRecDepth 100000 in
theorem c_X8_isGroup (l : Launch) (G : Gt) (hD : Dj G) (post : Int32 → Mem → Prop) (a1 : Int32) (μ : Mem) : MI G l yX8_isGroup wsX8_isGroup rm_X8_isGroup 0 0 [.ref (ad G 31), .int a1] μ (w_X8_isGroup post a1 μ) post := by
  refine mI_of (cc := cX8_isGroup) (maxL := 2) (ty := .boolean) (lv0 := [(0, .ref (ad G 31)), (1, .int a1)]) hD (by decide) rfl (Nat.le_of_ble_eq_true rfl) rfl ?_
  intro X Q hl C hQ h
  subst hl
  replace C : Cx G X cX8_isGroup RX8 wsX8_isGroup 2 rm_X8_isGroup := C
  unfold w_X8_isGroup at h
  refine j_aload_n C 0 dX8_isGroup_0 rfl ?_
  refine j_iconst (v := 0) C dX8_isGroup_1 (by decide) ?_
  obtain ⟨μ1, e2⟩ : ∃ m, m = wr μ 31 0 (0 : Int32) := ⟨_, rfl⟩
  replace h := h μ1 e2
  refine j_put C 31 0 sh_31 (by decide) cl_X8 (by decide) rfl in_X8_isGroup_X8 lk_X8_isGroup_87 rfl tyX8_ok nmX8 rfl rfl dX8_isGroup_2 e2 ?_
  refine j_aload_n C 0 dX8_isGroup_5 rfl ?_
  refine j_iload_n C 1 dX8_isGroup_6 rfl ?_
  refine j_if_lt C 22 dX8_isGroup_7 (by decide) (fun c6 => ?_) (fun c6 => ?_)
  · replace h := h.1 c6
    refine j_forget [] rfl ?_
    exact w_X8_isGroup_b22_j C hQ h
  · replace h := h.2 c6
    refine j_iload_n C 1 dX8_isGroup_10 rfl ?_
    refine j_aload_n C 0 dX8_isGroup_11 rfl ?_
    refine j_getI C 31 6 sh_31 (by decide) cl_X8 (by decide) rfl in_X8_isGroup_X8 lk_X8_isGroup_162 rfl dX8_isGroup_12 ?_
    refine j_icmp_ge C 22 dX8_isGroup_15 (by decide) (fun c5 => ?_) (fun c5 => ?_)
    · replace h := h.1 c5
      refine j_forget [] rfl ?_
      exact w_X8_isGroup_b22_j C hQ h
    · replace h := h.2 c5
      refine j_iconst (v := 1) C dX8_isGroup_18 (by decide) ?_
      refine j_goto C 23 dX8_isGroup_19 (by decide) ?_
      refine j_forget [] rfl ?_
      exact w_X8_isGroup_b23_j C hQ h
/-! X8_isMember -/
abbrev rm_X8_isMember : Room := { frames := 0, cells := 0, slots := 0, locals := 0 }
theorem in_X8_isMember_X8 : ∀ w ∈ wsX80, w ∈ wsX8_isMember := by decide +kernel
theorem lk_X8_isMember_20 : Cond.fieldLink RX8 20 "SameAgainModel" "in" "[I" ∈ wsX8_isMember := by decide +kernel
theorem lk_X8_isMember_42 : Cond.fieldLink RX8 42 "SameAgainModel" "group" "[I" ∈ wsX8_isMember := by decide +kernel
theorem lk_X8_isMember_26 : Cond.fieldLink RX8 26 "SameAgainModel" "body" "[I" ∈ wsX8_isMember := by decide +kernel
set_option maxHeartbeats 4000000 in
set_option maxRecDepth 100000 in
theorem c_X8_isMember (l : Launch) (G : Gt) (hD : Dj G) (post : Int32 → Mem → Prop) (a1 a2 : Int32) (μ : Mem) : MI G l yX8_isMember wsX8_isMember rm_X8_isMember 0 0 [.ref (ad G 31), .int a1, .int a2] μ (w_X8_isMember post a1 a2 μ) post := by
  refine mI_of (cc := cX8_isMember) (maxL := 3) (ty := .boolean) (lv0 := [(0, .ref (ad G 31)), (1, .int a1), (2, .int a2)]) hD (by decide) rfl (Nat.le_of_ble_eq_true rfl) rfl ?_
  intro X Q hl C hQ h
  subst hl
  replace C : Cx G X cX8_isMember RX8 wsX8_isMember 3 rm_X8_isMember := C
  unfold w_X8_isMember at h
  refine j_aload_n C 0 dX8_isMember_0 rfl ?_
  refine j_getR C 31 11 sh_31 (by decide) cl_X8 (by decide) rfl in_X8_isMember_X8 lk_X8_isMember_20 rfl dX8_isMember_1 ?_
  refine j_iload_n C 2 dX8_isMember_4 rfl ?_
  have b1 := h.1
  replace h := h.2
  refine j_iald C 34 sh_34 (by decide) b1 dX8_isMember_5 ?_
  refine j_iconst (v := -1) C dX8_isMember_6 (by decide) ?_
  refine j_icmp_eq C 29 dX8_isMember_7 (by decide) (fun c5 => ?_) (fun c5 => ?_)
  · replace h := h.1 c5
    refine j_iconst (v := 0) C dX8_isMember_29 (by decide) ?_
    exact j_zret C hQ (by decide) (by decide) rfl h dX8_isMember_30
  · replace h := h.2 c5
    refine j_aload_n C 0 dX8_isMember_10 rfl ?_
    refine j_getR C 31 18 sh_31 (by decide) cl_X8 (by decide) rfl in_X8_isMember_X8 lk_X8_isMember_42 rfl dX8_isMember_11 ?_
    refine j_aload_n C 0 dX8_isMember_14 rfl ?_
    refine j_getR C 31 13 sh_31 (by decide) cl_X8 (by decide) rfl in_X8_isMember_X8 lk_X8_isMember_26 rfl dX8_isMember_15 ?_
    refine j_iload_n C 2 dX8_isMember_18 rfl ?_
    have b2 := h.1
    replace h := h.2
    refine j_iald C 36 sh_36 (by decide) b2 dX8_isMember_19 ?_
    have b3 := h.1
    replace h := h.2
    refine j_iald C 41 sh_41 (by decide) b3 dX8_isMember_20 ?_
    refine j_iload_n C 1 dX8_isMember_21 rfl ?_
    refine j_icmp_ne C 29 dX8_isMember_22 (by decide) (fun c4 => ?_) (fun c4 => ?_)
    · replace h := h.1 c4
      refine j_iconst (v := 0) C dX8_isMember_29 (by decide) ?_
      exact j_zret C hQ (by decide) (by decide) rfl h dX8_isMember_30
    · replace h := h.2 c4
      refine j_iconst (v := 1) C dX8_isMember_25 (by decide) ?_
      refine j_goto C 30 dX8_isMember_26 (by decide) ?_
      exact j_zret C hQ (by decide) (by decide) rfl h dX8_isMember_30
/-! X8_isStill -/
abbrev rm_X8_isStill : Room := { frames := 0, cells := 0, slots := 0, locals := 0 }
theorem in_X8_isStill_X8 : ∀ w ∈ wsX80, w ∈ wsX8_isStill := by decide +kernel
theorem lk_X8_isStill_63 : Cond.fieldLink RX8 63 "SameAgainModel" "mergedFile" "[I" ∈ wsX8_isStill := by decide +kernel
theorem lk_X8_isStill_20 : Cond.fieldLink RX8 20 "SameAgainModel" "in" "[I" ∈ wsX8_isStill := by decide +kernel
theorem lk_X8_isStill_26 : Cond.fieldLink RX8 26 "SameAgainModel" "body" "[I" ∈ wsX8_isStill := by decide +kernel
theorem lk_X8_isStill_60 : Cond.fieldLink RX8 60 "SameAgainModel" "mergedTo" "[I" ∈ wsX8_isStill := by decide +kernel
set_option maxHeartbeats 4000000 in
set_option maxRecDepth 100000 in
theorem c_X8_isStill (l : Launch) (G : Gt) (hD : Dj G) (post : Int32 → Mem → Prop) (a1 a2 : Int32) (μ : Mem) : MI G l yX8_isStill wsX8_isStill rm_X8_isStill 0 0 [.ref (ad G 31), .int a1, .int a2] μ (w_X8_isStill post a1 a2 μ) post := by
  refine mI_of (cc := cX8_isStill) (maxL := 4) (ty := .boolean) (lv0 := [(0, .ref (ad G 31)), (1, .int a1), (2, .int a2)]) hD (by decide) rfl (Nat.le_of_ble_eq_true rfl) rfl ?_
  intro X Q hl C hQ h
  subst hl
  replace C : Cx G X cX8_isStill RX8 wsX8_isStill 4 rm_X8_isStill := C
  unfold w_X8_isStill at h
  refine j_aload_n C 0 dX8_isStill_0 rfl ?_
  refine j_getR C 31 26 sh_31 (by decide) cl_X8 (by decide) rfl in_X8_isStill_X8 lk_X8_isStill_63 rfl dX8_isStill_1 ?_
  refine j_bipush (v := 60) C dX8_isStill_4 (by decide) ?_
  refine j_iload_n C 1 dX8_isStill_6 rfl ?_
  refine j_imul C dX8_isStill_7 ?_
  refine j_iload_n C 2 dX8_isStill_8 rfl ?_
  refine j_iadd C dX8_isStill_9 ?_
  have b1 := h.1
  replace h := h.2
  refine j_iald C 48 sh_48 (by decide) b1 dX8_isStill_10 ?_
  refine j_istore_n (lv' := [(0, .ref (ad G 31)), (1, .int a1), (2, .int a2), (3, .int (μ 48 (ix (((60 : Int32) * a1) + a2))))]) C dX8_isStill_11 (by decide) rfl rfl ?_
  refine j_aload_n C 0 dX8_isStill_12 rfl ?_
  refine j_getR C 31 11 sh_31 (by decide) cl_X8 (by decide) rfl in_X8_isStill_X8 lk_X8_isStill_20 rfl dX8_isStill_13 ?_
  refine j_iload_n C 3 dX8_isStill_16 rfl ?_
  have b2 := h.1
  replace h := h.2
  refine j_iald C 34 sh_34 (by decide) b2 dX8_isStill_17 ?_
  refine j_iconst (v := -1) C dX8_isStill_18 (by decide) ?_
  refine j_icmp_eq C 41 dX8_isStill_19 (by decide) (fun c6 => ?_) (fun c6 => ?_)
  · replace h := h.1 c6
    refine j_iconst (v := 0) C dX8_isStill_41 (by decide) ?_
    exact j_zret C hQ (by decide) (by decide) rfl h dX8_isStill_42
  · replace h := h.2 c6
    refine j_aload_n C 0 dX8_isStill_22 rfl ?_
    refine j_getR C 31 13 sh_31 (by decide) cl_X8 (by decide) rfl in_X8_isStill_X8 lk_X8_isStill_26 rfl dX8_isStill_23 ?_
    refine j_iload_n C 3 dX8_isStill_26 rfl ?_
    have b3 := h.1
    replace h := h.2
    refine j_iald C 36 sh_36 (by decide) b3 dX8_isStill_27 ?_
    refine j_aload_n C 0 dX8_isStill_28 rfl ?_
    refine j_getR C 31 25 sh_31 (by decide) cl_X8 (by decide) rfl in_X8_isStill_X8 lk_X8_isStill_60 rfl dX8_isStill_29 ?_
    refine j_iload_n C 1 dX8_isStill_32 rfl ?_
    have b4 := h.1
    replace h := h.2
    refine j_iald C 47 sh_47 (by decide) b4 dX8_isStill_33 ?_
    refine j_icmp_ne C 41 dX8_isStill_34 (by decide) (fun c5 => ?_) (fun c5 => ?_)
    · replace h := h.1 c5
      refine j_iconst (v := 0) C dX8_isStill_41 (by decide) ?_
      exact j_zret C hQ (by decide) (by decide) rfl h dX8_isStill_42
    · replace h := h.2 c5
      refine j_iconst (v := 1) C dX8_isStill_37 (by decide) ?_
      refine j_goto C 42 dX8_isStill_38 (by decide) ?_
      exact j_zret C hQ (by decide) (by decide) rfl h dX8_isStill_42
/-! X8_keptOf -/
abbrev rm_X8_keptOf : Room := { frames := 3, cells := 0, slots := 0, locals := 68 }
theorem in_X8_keptOf_X8 : ∀ w ∈ wsX80, w ∈ wsX8_keptOf := by decide +kernel
theorem lk_X8_keptOf_94 : Cond.fieldLink RX8 94 "SameAgainModel" "files" "I" ∈ wsX8_keptOf := by decide +kernel
set_option maxHeartbeats 4000000 in
set_option maxRecDepth 100000 in
theorem w_X8_keptOf_b35_j {G : Gt} {X : Cxt} {Q : State → Prop} (C : Cx G X cX8_keptOf RX8 wsX8_keptOf 4 rm_X8_keptOf) {post : Int32 → Mem → Prop} (hQ : RetI G X Q post .int 0 0) {k4 : Int32 → Int32 → Int32 → Mem → Prop} (hk4 : ∀ (v1 v2 v3 : Int32) (μ : Mem), k4 v1 v2 v3 μ → J G X Q 4 0 0 4 [(0, .ref (ad G 31)), (1, .int v1), (2, .int v2), (3, .int v3)] [] μ) {v1 v3 : Int32} {μ : Mem} (h : w_X8_keptOf_b35 post k4 v1 v3 μ) : J G X Q 4 0 0 35 [(0, .ref (ad G 31)), (1, .int v1), (3, .int v3)] [] μ := by
  unfold w_X8_keptOf_b35 at h
  refine j_iload_n C 2 dX8_keptOf_35 rfl ?_
  refine j_istore_n (lv' := [(0, .ref (ad G 31)), (1, .int v1), (2, .int v3), (3, .int v3)]) C dX8_keptOf_36 (by decide) rfl rfl ?_
  refine j_iinc (v := v3 + (1 : Int32)) (lv' := [(0, .ref (ad G 31)), (1, .int v1), (2, .int v3), (3, .int (v3 + (1 : Int32)))]) C 3 dX8_keptOf_37 rfl rfl (by decide) rfl rfl ?_
  refine j_goto C 4 dX8_keptOf_40 (by decide) ?_
  exact hk4 _ _ _ _ h
set_option maxHeartbeats 4000000 in
set_option maxRecDepth 100000 in
theorem w_X8_keptOf_b4_j {G : Gt} {X : Cxt} {Q : State → Prop} (C : Cx G X cX8_keptOf RX8 wsX8_keptOf 4 rm_X8_keptOf) {post : Int32 → Mem → Prop} (hQ : RetI G X Q post .int 0 0) : ∀ (n : Nat) (v1 v2 v3 : Int32) (μ : Mem), itr (fun _ _ _ _ => False) (w_X8_keptOf_b4 post) n v1 v2 v3 μ → J G X Q 4 0 0 4 [(0, .ref (ad G 31)), (1, .int v1), (2, .int v2), (3, .int v3)] [] μ := by
  intro n
  induction n with
  | zero => intro v1 v2 v3 μ h; exact h.elim
  | succ n ih =>
    intro v1 v2 v3 μ h
    replace h : w_X8_keptOf_b4 post (itr (fun _ _ _ _ => False) (w_X8_keptOf_b4 post) n) v1 v2 v3 μ := h
    generalize itr (fun _ _ _ _ => False) (w_X8_keptOf_b4 post) n = k4 at ih h
    have hk4 := ih
    unfold w_X8_keptOf_b4 at h
    refine j_iload_n C 3 dX8_keptOf_4 rfl ?_
    refine j_aload_n C 0 dX8_keptOf_5 rfl ?_
    refine j_getI C 31 2 sh_31 (by decide) cl_X8 (by decide) rfl in_X8_keptOf_X8 lk_X8_keptOf_94 rfl dX8_keptOf_6 ?_
    refine j_icmp_ge C 43 dX8_keptOf_9 (by decide) (fun c8 => ?_) (fun c8 => ?_)
    · replace h := h.1 c8
      refine j_iload_n C 2 dX8_keptOf_43 rfl ?_
      exact j_iret C hQ (by decide) (by decide) h dX8_keptOf_44
    · replace h := h.2 c8
      refine j_aload_n C 0 dX8_keptOf_12 rfl ?_
      refine j_iload_n C 1 dX8_keptOf_13 rfl ?_
      refine j_iload_n C 3 dX8_keptOf_14 rfl ?_
      refine j_cVI (n := 2) (rest := []) C 31 (c_X8_isMember (xl X) G C.2.2.1 _ v1 v3 μ) h gX8_keptOf_X8_isMember rfl ⟨rfl, rfl⟩ (by decide +kernel) ⟨by decide, by decide⟩ ⟨by decide, by decide⟩ sh_31 (by decide) cl_X8 rfl rfl (Nat.le_of_ble_eq_true rfl) dX8_keptOf_15 rfl rfl (fun r2 μ1 h => ?_)
      refine j_if_eq C 37 dX8_keptOf_18 (by decide) (fun c7 => ?_) (fun c7 => ?_)
      · replace h := h.1 c7
        refine j_iinc (v := v3 + (1 : Int32)) (lv' := [(0, .ref (ad G 31)), (1, .int v1), (2, .int v2), (3, .int (v3 + (1 : Int32)))]) C 3 dX8_keptOf_37 rfl rfl (by decide) rfl rfl ?_
        refine j_goto C 4 dX8_keptOf_40 (by decide) ?_
        exact hk4 _ _ _ _ h
      · replace h := h.2 c7
        refine j_iload_n C 2 dX8_keptOf_21 rfl ?_
        refine j_iconst (v := -1) C dX8_keptOf_22 (by decide) ?_
        refine j_icmp_eq C 35 dX8_keptOf_23 (by decide) (fun c6 => ?_) (fun c6 => ?_)
        · replace h := h.1 c6
          refine j_forget [0, 1, 3] rfl ?_
          exact w_X8_keptOf_b35_j C hQ hk4 h
        · replace h := h.2 c6
          refine j_aload_n C 0 dX8_keptOf_26 rfl ?_
          refine j_iload_n C 3 dX8_keptOf_27 rfl ?_
          refine j_iload_n C 2 dX8_keptOf_28 rfl ?_
          refine j_cVI (n := 2) (rest := []) C 31 (c_X8_isAhead (xl X) G C.2.2.1 _ v3 v2 μ1) h gX8_keptOf_X8_isAhead rfl ⟨rfl, rfl⟩ (by decide +kernel) ⟨by decide, by decide⟩ ⟨by decide, by decide⟩ sh_31 (by decide) cl_X8 rfl rfl (Nat.le_of_ble_eq_true rfl) dX8_keptOf_29 rfl rfl (fun r4 μ3 h => ?_)
          refine j_if_eq C 37 dX8_keptOf_32 (by decide) (fun c5 => ?_) (fun c5 => ?_)
          · replace h := h.1 c5
            refine j_iinc (v := v3 + (1 : Int32)) (lv' := [(0, .ref (ad G 31)), (1, .int v1), (2, .int v2), (3, .int (v3 + (1 : Int32)))]) C 3 dX8_keptOf_37 rfl rfl (by decide) rfl rfl ?_
            refine j_goto C 4 dX8_keptOf_40 (by decide) ?_
            exact hk4 _ _ _ _ h
          · replace h := h.2 c5
            refine j_forget [0, 1, 3] rfl ?_
            exact w_X8_keptOf_b35_j C hQ hk4 h
set_option maxHeartbeats 4000000 in
set_option maxRecDepth 100000 in
theorem c_X8_keptOf (l : Launch) (G : Gt) (hD : Dj G) (post : Int32 → Mem → Prop) (a1 : Int32) (μ : Mem) : MI G l yX8_keptOf wsX8_keptOf rm_X8_keptOf 0 0 [.ref (ad G 31), .int a1] μ (w_X8_keptOf post a1 μ) post := by
  refine mI_of (cc := cX8_keptOf) (maxL := 4) (ty := .int) (lv0 := [(0, .ref (ad G 31)), (1, .int a1)]) hD (by decide) rfl (Nat.le_of_ble_eq_true rfl) rfl ?_
  intro X Q hl C hQ h
  subst hl
  replace C : Cx G X cX8_keptOf RX8 wsX8_keptOf 4 rm_X8_keptOf := C
  unfold w_X8_keptOf at h
  refine j_iconst (v := -1) C dX8_keptOf_0 (by decide) ?_
  refine j_istore_n (lv' := [(0, .ref (ad G 31)), (1, .int a1), (2, .int (-1 : Int32))]) C dX8_keptOf_1 (by decide) rfl rfl ?_
  refine j_iconst (v := 0) C dX8_keptOf_2 (by decide) ?_
  refine j_istore_n (lv' := [(0, .ref (ad G 31)), (1, .int a1), (2, .int (-1 : Int32)), (3, .int (0 : Int32))]) C dX8_keptOf_3 (by decide) rfl rfl ?_
  obtain ⟨n9, h⟩ := h
  exact w_X8_keptOf_b4_j C hQ n9 _ _ _ _ h
/-! X8_keep -/
abbrev rm_X8_keep : Room := { frames := 4, cells := 0, slots := 0, locals := 91 }
set_option maxHeartbeats 4000000 in
set_option maxRecDepth 100000 in
theorem c_X8_keep (l : Launch) (G : Gt) (hD : Dj G) (post : Int32 → Mem → Prop) (a1 : Int32) (μ : Mem) : MI G l yX8_keep wsX8_keep rm_X8_keep 0 0 [.ref (ad G 31), .int a1] μ (w_X8_keep post a1 μ) post := by
  refine mI_of (cc := cX8_keep) (maxL := 2) (ty := .int) (lv0 := [(0, .ref (ad G 31)), (1, .int a1)]) hD (by decide) rfl (Nat.le_of_ble_eq_true rfl) rfl ?_
  intro X Q hl C hQ h
  subst hl
  replace C : Cx G X cX8_keep RX8 wsX8_keep 2 rm_X8_keep := C
  unfold w_X8_keep at h
  refine j_aload_n C 0 dX8_keep_0 rfl ?_
  refine j_iload_n C 1 dX8_keep_1 rfl ?_
  refine j_cVI (n := 1) (rest := []) C 31 (c_X8_isGroup (xl X) G C.2.2.1 _ a1 μ) h gX8_keep_X8_isGroup rfl ⟨rfl, rfl⟩ (by decide +kernel) ⟨by decide, by decide⟩ ⟨by decide, by decide⟩ sh_31 (by decide) cl_X8 rfl rfl (Nat.le_of_ble_eq_true rfl) dX8_keep_2 rfl rfl (fun r2 μ1 h => ?_)
  refine j_if_eq C 16 dX8_keep_5 (by decide) (fun c5 => ?_) (fun c5 => ?_)
  · replace h := h.1 c5
    refine j_iconst (v := 0) C dX8_keep_16 (by decide) ?_
    exact j_iret C hQ (by decide) (by decide) h dX8_keep_17
  · replace h := h.2 c5
    refine j_aload_n C 0 dX8_keep_8 rfl ?_
    refine j_iload_n C 1 dX8_keep_9 rfl ?_
    refine j_cVI (n := 1) (rest := []) C 31 (c_X8_keptOf (xl X) G C.2.2.1 _ a1 μ1) h gX8_keep_X8_keptOf rfl ⟨rfl, rfl⟩ (by decide +kernel) ⟨by decide, by decide⟩ ⟨by decide, by decide⟩ sh_31 (by decide) cl_X8 rfl rfl (Nat.le_of_ble_eq_true rfl) dX8_keep_10 rfl rfl (fun r4 μ3 h => ?_)
    refine j_goto C 17 dX8_keep_13 (by decide) ?_
    exact j_iret C hQ (by decide) (by decide) h dX8_keep_17
/-! X8_keeps -/
abbrev rm_X8_keeps : Room := { frames := 0, cells := 0, slots := 0, locals := 0 }
theorem in_X8_keeps_X8 : ∀ w ∈ wsX80, w ∈ wsX8_keeps := by decide +kernel
theorem lk_X8_keeps_205 : Cond.fieldLink RX8 205 "SameAgainModel" "merged" "I" ∈ wsX8_keeps := by decide +kernel
theorem lk_X8_keeps_57 : Cond.fieldLink RX8 57 "SameAgainModel" "mergedMany" "[I" ∈ wsX8_keeps := by decide +kernel
theorem lk_X8_keeps_60 : Cond.fieldLink RX8 60 "SameAgainModel" "mergedTo" "[I" ∈ wsX8_keeps := by decide +kernel
theorem lk_X8_keeps_63 : Cond.fieldLink RX8 63 "SameAgainModel" "mergedFile" "[I" ∈ wsX8_keeps := by decide +kernel
theorem lk_X8_keeps_81 : Cond.fieldLink RX8 81 "SameAgainModel" "some" "[I" ∈ wsX8_keeps := by decide +kernel
theorem lk_X8_keeps_66 : Cond.fieldLink RX8 66 "SameAgainModel" "mergedOwner" "[I" ∈ wsX8_keeps := by decide +kernel
theorem lk_X8_keeps_84 : Cond.fieldLink RX8 84 "SameAgainModel" "theirs" "[I" ∈ wsX8_keeps := by decide +kernel
set_option maxHeartbeats 4000000 in
set_option maxRecDepth 100000 in
theorem w_X8_keeps_b153_j {G : Gt} {X : Cxt} {Q : State → Prop} (C : Cx G X cX8_keeps RX8 wsX8_keeps 5 rm_X8_keeps) {post : Mem → Prop} (hQ : RetV G X Q post 0 0) : ∀ (n : Nat) (v2 v3 : Int32) (μ : Mem), itr (fun _ _ _ => False) (w_X8_keeps_b153 post) n v2 v3 μ → J G X Q 5 0 0 153 [(0, .ref (ad G 31)), (2, .int v2), (3, .int v3)] [] μ := by
  intro n
  induction n with
  | zero => intro v2 v3 μ h; exact h.elim
  | succ n ih =>
    intro v2 v3 μ h
    replace h : w_X8_keeps_b153 post (itr (fun _ _ _ => False) (w_X8_keeps_b153 post) n) v2 v3 μ := h
    generalize itr (fun _ _ _ => False) (w_X8_keeps_b153 post) n = k153 at ih h
    have hk153 := ih
    unfold w_X8_keeps_b153 at h
    refine j_iload_n C 2 dX8_keeps_153 rfl ?_
    refine j_iload_n C 1 dX8_keeps_154 rfl ?_
    refine j_icmp_ge C 204 dX8_keeps_155 (by decide) (fun c17 => ?_) (fun c17 => ?_)
    · replace h := h.1 c17
      refine j_aload_n C 0 dX8_keeps_204 rfl ?_
      refine j_dup C dX8_keeps_205 rfl ?_
      refine j_getI C 31 23 sh_31 (by decide) cl_X8 (by decide) rfl in_X8_keeps_X8 lk_X8_keeps_205 rfl dX8_keeps_206 ?_
      refine j_iconst (v := 1) C dX8_keeps_209 (by decide) ?_
      refine j_iadd C dX8_keeps_210 ?_
      obtain ⟨μ7, e8⟩ : ∃ m, m = wr μ 31 23 ((μ 31 23) + (1 : Int32)) := ⟨_, rfl⟩
      replace h := h μ7 e8
      refine j_put C 31 23 sh_31 (by decide) cl_X8 (by decide) rfl in_X8_keeps_X8 lk_X8_keeps_205 rfl tyX8_ok nmX8 rfl rfl dX8_keeps_211 e8 ?_
      exact j_vret C hQ (by decide) (by decide) h dX8_keeps_214
    · replace h := h.2 c17
      refine j_aload_n C 0 dX8_keeps_158 rfl ?_
      refine j_getR C 31 26 sh_31 (by decide) cl_X8 (by decide) rfl in_X8_keeps_X8 lk_X8_keeps_63 rfl dX8_keeps_159 ?_
      refine j_bipush (v := 60) C dX8_keeps_162 (by decide) ?_
      refine j_aload_n C 0 dX8_keeps_164 rfl ?_
      refine j_getI C 31 23 sh_31 (by decide) cl_X8 (by decide) rfl in_X8_keeps_X8 lk_X8_keeps_205 rfl dX8_keeps_165 ?_
      refine j_imul C dX8_keeps_168 ?_
      refine j_iload_n C 2 dX8_keeps_169 rfl ?_
      refine j_iadd C dX8_keeps_170 ?_
      refine j_aload_n C 0 dX8_keeps_171 rfl ?_
      refine j_getR C 31 32 sh_31 (by decide) cl_X8 (by decide) rfl in_X8_keeps_X8 lk_X8_keeps_81 rfl dX8_keeps_172 ?_
      refine j_iload_n C 2 dX8_keeps_175 rfl ?_
      have b9 := h.1
      replace h := h.2
      refine j_iald C 54 sh_54 (by decide) b9 dX8_keeps_176 ?_
      obtain ⟨μ10, e11⟩ : ∃ m, m = wr μ 48 (ix (((60 : Int32) * (μ 31 23)) + v3)) (μ 54 (ix v3)) := ⟨_, rfl⟩
      have b12 := h.1
      replace h := h.2 μ10 e11
      refine j_iast C 48 sh_48 (by decide) b12 dX8_keeps_177 e11 ?_
      refine j_aload_n C 0 dX8_keeps_178 rfl ?_
      refine j_getR C 31 27 sh_31 (by decide) cl_X8 (by decide) rfl in_X8_keeps_X8 lk_X8_keeps_66 rfl dX8_keeps_179 ?_
      refine j_bipush (v := 60) C dX8_keeps_182 (by decide) ?_
      refine j_aload_n C 0 dX8_keeps_184 rfl ?_
      refine j_getI C 31 23 sh_31 (by decide) cl_X8 (by decide) rfl in_X8_keeps_X8 lk_X8_keeps_205 rfl dX8_keeps_185 ?_
      refine j_imul C dX8_keeps_188 ?_
      refine j_iload_n C 2 dX8_keeps_189 rfl ?_
      refine j_iadd C dX8_keeps_190 ?_
      refine j_aload_n C 0 dX8_keeps_191 rfl ?_
      refine j_getR C 31 33 sh_31 (by decide) cl_X8 (by decide) rfl in_X8_keeps_X8 lk_X8_keeps_84 rfl dX8_keeps_192 ?_
      refine j_iload_n C 2 dX8_keeps_195 rfl ?_
      have b13 := h.1
      replace h := h.2
      refine j_iald C 55 sh_55 (by decide) b13 dX8_keeps_196 ?_
      obtain ⟨μ14, e15⟩ : ∃ m, m = wr μ10 49 (ix (((60 : Int32) * (μ10 31 23)) + v3)) (μ10 55 (ix v3)) := ⟨_, rfl⟩
      have b16 := h.1
      replace h := h.2 μ14 e15
      refine j_iast C 49 sh_49 (by decide) b16 dX8_keeps_197 e15 ?_
      refine j_iinc (v := v3 + (1 : Int32)) (lv' := [(0, .ref (ad G 31)), (2, .int v2), (3, .int (v3 + (1 : Int32)))]) C 2 dX8_keeps_198 rfl rfl (by decide) rfl rfl ?_
      refine j_goto C 153 dX8_keeps_201 (by decide) ?_
      exact hk153 _ _ _ h
set_option maxHeartbeats 4000000 in
set_option maxRecDepth 100000 in
theorem w_X8_keeps_b131_j {G : Gt} {X : Cxt} {Q : State → Prop} (C : Cx G X cX8_keeps RX8 wsX8_keeps 5 rm_X8_keeps) {post : Mem → Prop} (hQ : RetV G X Q post 0 0) {v1 v2 : Int32} {μ : Mem} (h : w_X8_keeps_b131 post v1 v2 μ) : J G X Q 5 0 0 131 [(0, .ref (ad G 31)), (1, .int v1), (2, .int v2)] [] μ := by
  unfold w_X8_keeps_b131 at h
  refine j_aload_n C 0 dX8_keeps_131 rfl ?_
  refine j_getR C 31 24 sh_31 (by decide) cl_X8 (by decide) rfl in_X8_keeps_X8 lk_X8_keeps_57 rfl dX8_keeps_132 ?_
  refine j_aload_n C 0 dX8_keeps_135 rfl ?_
  refine j_getI C 31 23 sh_31 (by decide) cl_X8 (by decide) rfl in_X8_keeps_X8 lk_X8_keeps_205 rfl dX8_keeps_136 ?_
  refine j_iload_n C 2 dX8_keeps_139 rfl ?_
  obtain ⟨μ1, e2⟩ : ∃ m, m = wr μ 46 (ix (μ 31 23)) v2 := ⟨_, rfl⟩
  have b3 := h.1
  replace h := h.2 μ1 e2
  refine j_iast C 46 sh_46 (by decide) b3 dX8_keeps_140 e2 ?_
  refine j_aload_n C 0 dX8_keeps_141 rfl ?_
  refine j_getR C 31 25 sh_31 (by decide) cl_X8 (by decide) rfl in_X8_keeps_X8 lk_X8_keeps_60 rfl dX8_keeps_142 ?_
  refine j_aload_n C 0 dX8_keeps_145 rfl ?_
  refine j_getI C 31 23 sh_31 (by decide) cl_X8 (by decide) rfl in_X8_keeps_X8 lk_X8_keeps_205 rfl dX8_keeps_146 ?_
  refine j_iload_n C 1 dX8_keeps_149 rfl ?_
  obtain ⟨μ4, e5⟩ : ∃ m, m = wr μ1 47 (ix (μ1 31 23)) v1 := ⟨_, rfl⟩
  have b6 := h.1
  replace h := h.2 μ4 e5
  refine j_iast C 47 sh_47 (by decide) b6 dX8_keeps_150 e5 ?_
  refine j_iconst (v := 0) C dX8_keeps_151 (by decide) ?_
  refine j_istore_n (lv' := [(0, .ref (ad G 31)), (1, .int v1), (2, .int v2), (3, .int (0 : Int32))]) C dX8_keeps_152 (by decide) rfl rfl ?_
  refine j_forget [0, 2, 3] rfl ?_
  obtain ⟨n9, h⟩ := h
  exact w_X8_keeps_b153_j C hQ n9 _ _ _ h
set_option maxHeartbeats 4000000 in
set_option maxRecDepth 100000 in
theorem w_X8_keeps_b48_j {G : Gt} {X : Cxt} {Q : State → Prop} (C : Cx G X cX8_keeps RX8 wsX8_keeps 5 rm_X8_keeps) {post : Mem → Prop} (hQ : RetV G X Q post 0 0) {k11 : Int32 → Int32 → Int32 → Mem → Prop} (hk11 : ∀ (v1 v2 v3 : Int32) (μ : Mem), k11 v1 v2 v3 μ → J G X Q 5 0 0 11 [(0, .ref (ad G 31)), (1, .int v1), (2, .int v2), (3, .int v3)] [] μ) : ∀ (n : Nat) (v1 v2 v3 v4 : Int32) (μ : Mem), itr (fun _ _ _ _ _ => False) (w_X8_keeps_b48 post k11) n v1 v2 v3 v4 μ → J G X Q 5 0 0 48 [(0, .ref (ad G 31)), (1, .int v1), (2, .int v2), (3, .int v3), (4, .int v4)] [] μ := by
  intro n
  induction n with
  | zero => intro v1 v2 v3 v4 μ h; exact h.elim
  | succ n ih =>
    intro v1 v2 v3 v4 μ h
    replace h : w_X8_keeps_b48 post k11 (itr (fun _ _ _ _ _ => False) (w_X8_keeps_b48 post k11) n) v1 v2 v3 v4 μ := h
    generalize itr (fun _ _ _ _ _ => False) (w_X8_keeps_b48 post k11) n = k48 at ih h
    have hk48 := ih
    unfold w_X8_keeps_b48 at h
    refine j_iload C 4 dX8_keeps_48 rfl ?_
    refine j_bipush (v := 60) C dX8_keeps_50 (by decide) ?_
    refine j_icmp_ge C 115 dX8_keeps_52 (by decide) (fun c36 => ?_) (fun c36 => ?_)
    · replace h := h.1 c36
      refine j_iinc (v := v3 + (1 : Int32)) (lv' := [(0, .ref (ad G 31)), (1, .int v1), (2, .int v2), (3, .int (v3 + (1 : Int32))), (4, .int v4)]) C 3 dX8_keeps_115 rfl rfl (by decide) rfl rfl ?_
      refine j_goto C 11 dX8_keeps_118 (by decide) ?_
      refine j_forget [0, 1, 2, 3] rfl ?_
      exact hk11 _ _ _ _ h
    · replace h := h.2 c36
      refine j_aload_n C 0 dX8_keeps_55 rfl ?_
      refine j_getR C 31 26 sh_31 (by decide) cl_X8 (by decide) rfl in_X8_keeps_X8 lk_X8_keeps_63 rfl dX8_keeps_56 ?_
      refine j_bipush (v := 60) C dX8_keeps_59 (by decide) ?_
      refine j_iload_n C 3 dX8_keeps_61 rfl ?_
      refine j_imul C dX8_keeps_62 ?_
      refine j_iload C 4 dX8_keeps_63 rfl ?_
      refine j_iadd C dX8_keeps_65 ?_
      refine j_aload_n C 0 dX8_keeps_66 rfl ?_
      refine j_getR C 31 26 sh_31 (by decide) cl_X8 (by decide) rfl in_X8_keeps_X8 lk_X8_keeps_63 rfl dX8_keeps_67 ?_
      refine j_bipush (v := 60) C dX8_keeps_70 (by decide) ?_
      refine j_iload_n C 3 dX8_keeps_72 rfl ?_
      refine j_imul C dX8_keeps_73 ?_
      refine j_bipush (v := 60) C dX8_keeps_74 (by decide) ?_
      refine j_iadd C dX8_keeps_76 ?_
      refine j_iload C 4 dX8_keeps_77 rfl ?_
      refine j_iadd C dX8_keeps_79 ?_
      have b28 := h.1
      replace h := h.2
      refine j_iald C 48 sh_48 (by decide) b28 dX8_keeps_80 ?_
      obtain ⟨μ29, e30⟩ : ∃ m, m = wr μ 48 (ix (((60 : Int32) * v3) + v4)) (μ 48 (ix ((((60 : Int32) * v3) + (60 : Int32)) + v4))) := ⟨_, rfl⟩
      have b31 := h.1
      replace h := h.2 μ29 e30
      refine j_iast C 48 sh_48 (by decide) b31 dX8_keeps_81 e30 ?_
      refine j_aload_n C 0 dX8_keeps_82 rfl ?_
      refine j_getR C 31 27 sh_31 (by decide) cl_X8 (by decide) rfl in_X8_keeps_X8 lk_X8_keeps_66 rfl dX8_keeps_83 ?_
      refine j_bipush (v := 60) C dX8_keeps_86 (by decide) ?_
      refine j_iload_n C 3 dX8_keeps_88 rfl ?_
      refine j_imul C dX8_keeps_89 ?_
      refine j_iload C 4 dX8_keeps_90 rfl ?_
      refine j_iadd C dX8_keeps_92 ?_
      refine j_aload_n C 0 dX8_keeps_93 rfl ?_
      refine j_getR C 31 27 sh_31 (by decide) cl_X8 (by decide) rfl in_X8_keeps_X8 lk_X8_keeps_66 rfl dX8_keeps_94 ?_
      refine j_bipush (v := 60) C dX8_keeps_97 (by decide) ?_
      refine j_iload_n C 3 dX8_keeps_99 rfl ?_
      refine j_imul C dX8_keeps_100 ?_
      refine j_bipush (v := 60) C dX8_keeps_101 (by decide) ?_
      refine j_iadd C dX8_keeps_103 ?_
      refine j_iload C 4 dX8_keeps_104 rfl ?_
      refine j_iadd C dX8_keeps_106 ?_
      have b32 := h.1
      replace h := h.2
      refine j_iald C 49 sh_49 (by decide) b32 dX8_keeps_107 ?_
      obtain ⟨μ33, e34⟩ : ∃ m, m = wr μ29 49 (ix (((60 : Int32) * v3) + v4)) (μ29 49 (ix ((((60 : Int32) * v3) + (60 : Int32)) + v4))) := ⟨_, rfl⟩
      have b35 := h.1
      replace h := h.2 μ33 e34
      refine j_iast C 49 sh_49 (by decide) b35 dX8_keeps_108 e34 ?_
      refine j_iinc (v := v4 + (1 : Int32)) (lv' := [(0, .ref (ad G 31)), (1, .int v1), (2, .int v2), (3, .int v3), (4, .int (v4 + (1 : Int32)))]) C 4 dX8_keeps_109 rfl rfl (by decide) rfl rfl ?_
      refine j_goto C 48 dX8_keeps_112 (by decide) ?_
      exact hk48 _ _ _ _ _ h
set_option maxHeartbeats 4000000 in
set_option maxRecDepth 100000 in
theorem w_X8_keeps_b11_j {G : Gt} {X : Cxt} {Q : State → Prop} (C : Cx G X cX8_keeps RX8 wsX8_keeps 5 rm_X8_keeps) {post : Mem → Prop} (hQ : RetV G X Q post 0 0) : ∀ (n : Nat) (v1 v2 v3 : Int32) (μ : Mem), itr (fun _ _ _ _ => False) (w_X8_keeps_b11 post) n v1 v2 v3 μ → J G X Q 5 0 0 11 [(0, .ref (ad G 31)), (1, .int v1), (2, .int v2), (3, .int v3)] [] μ := by
  intro n
  induction n with
  | zero => intro v1 v2 v3 μ h; exact h.elim
  | succ n ih =>
    intro v1 v2 v3 μ h
    replace h : w_X8_keeps_b11 post (itr (fun _ _ _ _ => False) (w_X8_keeps_b11 post) n) v1 v2 v3 μ := h
    generalize itr (fun _ _ _ _ => False) (w_X8_keeps_b11 post) n = k11 at ih h
    have hk11 := ih
    unfold w_X8_keeps_b11 at h
    refine j_iload_n C 3 dX8_keeps_11 rfl ?_
    refine j_bipush (v := 19) C dX8_keeps_12 (by decide) ?_
    refine j_icmp_ge C 121 dX8_keeps_14 (by decide) (fun c37 => ?_) (fun c37 => ?_)
    · replace h := h.1 c37
      refine j_aload_n C 0 dX8_keeps_121 rfl ?_
      refine j_dup C dX8_keeps_122 rfl ?_
      refine j_getI C 31 23 sh_31 (by decide) cl_X8 (by decide) rfl in_X8_keeps_X8 lk_X8_keeps_205 rfl dX8_keeps_123 ?_
      refine j_iconst (v := 1) C dX8_keeps_126 (by decide) ?_
      refine j_isub C dX8_keeps_127 ?_
      obtain ⟨μ18, e19⟩ : ∃ m, m = wr μ 31 23 ((μ 31 23) - (1 : Int32)) := ⟨_, rfl⟩
      replace h := h μ18 e19
      refine j_put C 31 23 sh_31 (by decide) cl_X8 (by decide) rfl in_X8_keeps_X8 lk_X8_keeps_205 rfl tyX8_ok nmX8 rfl rfl dX8_keeps_128 e19 ?_
      refine j_forget [0, 1, 2] rfl ?_
      exact w_X8_keeps_b131_j C hQ h
    · replace h := h.2 c37
      refine j_aload_n C 0 dX8_keeps_17 rfl ?_
      refine j_getR C 31 24 sh_31 (by decide) cl_X8 (by decide) rfl in_X8_keeps_X8 lk_X8_keeps_57 rfl dX8_keeps_18 ?_
      refine j_iload_n C 3 dX8_keeps_21 rfl ?_
      refine j_aload_n C 0 dX8_keeps_22 rfl ?_
      refine j_getR C 31 24 sh_31 (by decide) cl_X8 (by decide) rfl in_X8_keeps_X8 lk_X8_keeps_57 rfl dX8_keeps_23 ?_
      refine j_iload_n C 3 dX8_keeps_26 rfl ?_
      refine j_iconst (v := 1) C dX8_keeps_27 (by decide) ?_
      refine j_iadd C dX8_keeps_28 ?_
      have b20 := h.1
      replace h := h.2
      refine j_iald C 46 sh_46 (by decide) b20 dX8_keeps_29 ?_
      obtain ⟨μ21, e22⟩ : ∃ m, m = wr μ 46 (ix v3) (μ 46 (ix (v3 + (1 : Int32)))) := ⟨_, rfl⟩
      have b23 := h.1
      replace h := h.2 μ21 e22
      refine j_iast C 46 sh_46 (by decide) b23 dX8_keeps_30 e22 ?_
      refine j_aload_n C 0 dX8_keeps_31 rfl ?_
      refine j_getR C 31 25 sh_31 (by decide) cl_X8 (by decide) rfl in_X8_keeps_X8 lk_X8_keeps_60 rfl dX8_keeps_32 ?_
      refine j_iload_n C 3 dX8_keeps_35 rfl ?_
      refine j_aload_n C 0 dX8_keeps_36 rfl ?_
      refine j_getR C 31 25 sh_31 (by decide) cl_X8 (by decide) rfl in_X8_keeps_X8 lk_X8_keeps_60 rfl dX8_keeps_37 ?_
      refine j_iload_n C 3 dX8_keeps_40 rfl ?_
      refine j_iconst (v := 1) C dX8_keeps_41 (by decide) ?_
      refine j_iadd C dX8_keeps_42 ?_
      have b24 := h.1
      replace h := h.2
      refine j_iald C 47 sh_47 (by decide) b24 dX8_keeps_43 ?_
      obtain ⟨μ25, e26⟩ : ∃ m, m = wr μ21 47 (ix v3) (μ21 47 (ix (v3 + (1 : Int32)))) := ⟨_, rfl⟩
      have b27 := h.1
      replace h := h.2 μ25 e26
      refine j_iast C 47 sh_47 (by decide) b27 dX8_keeps_44 e26 ?_
      refine j_iconst (v := 0) C dX8_keeps_45 (by decide) ?_
      refine j_istore (lv' := [(0, .ref (ad G 31)), (1, .int v1), (2, .int v2), (3, .int v3), (4, .int (0 : Int32))]) C dX8_keeps_46 (by decide) rfl rfl ?_
      obtain ⟨n9, h⟩ := h
      exact w_X8_keeps_b48_j C hQ hk11 n9 _ _ _ _ _ h
set_option maxHeartbeats 4000000 in
set_option maxRecDepth 100000 in
theorem c_X8_keeps (l : Launch) (G : Gt) (hD : Dj G) (post : Mem → Prop) (a1 a2 : Int32) (μ : Mem) : MV G l yX8_keeps wsX8_keeps rm_X8_keeps 0 0 [.ref (ad G 31), .int a1, .int a2] μ (w_X8_keeps post a1 a2 μ) post := by
  refine mV_of (cc := cX8_keeps) (maxL := 5) (lv0 := [(0, .ref (ad G 31)), (1, .int a1), (2, .int a2)]) hD (by decide) rfl (Nat.le_of_ble_eq_true rfl) rfl ?_
  intro X Q hl C hQ h
  subst hl
  replace C : Cx G X cX8_keeps RX8 wsX8_keeps 5 rm_X8_keeps := C
  unfold w_X8_keeps at h
  refine j_aload_n C 0 dX8_keeps_0 rfl ?_
  refine j_getI C 31 23 sh_31 (by decide) cl_X8 (by decide) rfl in_X8_keeps_X8 lk_X8_keeps_205 rfl dX8_keeps_1 ?_
  refine j_bipush (v := 20) C dX8_keeps_4 (by decide) ?_
  refine j_icmp_ne C 131 dX8_keeps_6 (by decide) (fun c38 => ?_) (fun c38 => ?_)
  · replace h := h.1 c38
    exact w_X8_keeps_b131_j C hQ h
  · replace h := h.2 c38
    refine j_iconst (v := 0) C dX8_keeps_9 (by decide) ?_
    refine j_istore_n (lv' := [(0, .ref (ad G 31)), (1, .int a1), (2, .int a2), (3, .int (0 : Int32))]) C dX8_keeps_10 (by decide) rfl rfl ?_
    obtain ⟨n9, h⟩ := h
    exact w_X8_keeps_b11_j C hQ n9 _ _ _ _ h
/-! X8_leave -/
abbrev rm_X8_leave : Room := { frames := 1, cells := 0, slots := 0, locals := 22 }
theorem in_X8_leave_X8 : ∀ w ∈ wsX80, w ∈ wsX8_leave := by decide +kernel
theorem lk_X8_leave_87 : Cond.fieldLink RX8 87 "SameAgainModel" "thrown" "I" ∈ wsX8_leave := by decide +kernel
theorem lk_X8_leave_54 : Cond.fieldLink RX8 54 "SameAgainModel" "leave" "[I" ∈ wsX8_leave := by decide +kernel
set_option maxHeartbeats 4000000 in
set_option maxRecDepth 100000 in
theorem w_X8_leave_b59_j {G : Gt} {X : Cxt} {Q : State → Prop} (C : Cx G X cX8_leave RX8 wsX8_leave 4 rm_X8_leave) {post : Int32 → Mem → Prop} (hQ : RetI G X Q post .boolean 0 0) {v1 v2 s0 : Int32} {μ : Mem} (h : w_X8_leave_b59 post v1 v2 s0 μ) : J G X Q 4 0 0 59 [(0, .ref (ad G 31)), (1, .int v1), (2, .int v2)] [.int s0] μ := by
  unfold w_X8_leave_b59 at h
  refine j_istore_n (lv' := [(0, .ref (ad G 31)), (1, .int v1), (2, .int v2), (3, .int s0)]) C dX8_leave_59 (by decide) rfl rfl ?_
  refine j_aload_n C 0 dX8_leave_60 rfl ?_
  refine j_getR C 31 22 sh_31 (by decide) cl_X8 (by decide) rfl in_X8_leave_X8 lk_X8_leave_54 rfl dX8_leave_61 ?_
  refine j_iload_n C 1 dX8_leave_64 rfl ?_
  refine j_dup2 C dX8_leave_65 rfl rfl ?_
  have b6 := h.1
  replace h := h.2
  refine j_iald C 45 sh_45 (by decide) b6 dX8_leave_66 ?_
  refine j_iconst (v := 1) C dX8_leave_67 (by decide) ?_
  refine j_iload_n C 2 dX8_leave_68 rfl ?_
  refine j_ishl C dX8_leave_69 ?_
  refine j_ior C dX8_leave_70 ?_
  obtain ⟨μ7, e8⟩ : ∃ m, m = wr μ 45 (ix v1) ((μ 45 (ix v1)) ||| ((1 : Int32) <<< (v2 &&& 31))) := ⟨_, rfl⟩
  have b9 := h.1
  replace h := h.2 μ7 e8
  refine j_iast C 45 sh_45 (by decide) b9 dX8_leave_71 e8 ?_
  refine j_iload_n C 3 dX8_leave_72 rfl ?_
  refine j_if_ne C 80 dX8_leave_73 (by decide) (fun c10 => ?_) (fun c10 => ?_)
  · replace h := h.1 c10
    refine j_iconst (v := 0) C dX8_leave_80 (by decide) ?_
    exact j_zret C hQ (by decide) (by decide) rfl h dX8_leave_81
  · replace h := h.2 c10
    refine j_iconst (v := 1) C dX8_leave_76 (by decide) ?_
    refine j_goto C 81 dX8_leave_77 (by decide) ?_
    exact j_zret C hQ (by decide) (by decide) rfl h dX8_leave_81
set_option maxHeartbeats 4000000 in
set_option maxRecDepth 100000 in
theorem w_X8_leave_b31_j {G : Gt} {X : Cxt} {Q : State → Prop} (C : Cx G X cX8_leave RX8 wsX8_leave 4 rm_X8_leave) {post : Int32 → Mem → Prop} (hQ : RetI G X Q post .boolean 0 0) {v1 v2 s0 : Int32} {μ : Mem} (h : w_X8_leave_b31 post v1 v2 s0 μ) : J G X Q 4 0 0 31 [(0, .ref (ad G 31)), (1, .int v1), (2, .int v2)] [.int s0, .ref (ad G 31)] μ := by
  unfold w_X8_leave_b31 at h
  refine j_iconst (v := 1) C dX8_leave_31 (by decide) ?_
  refine j_cVI (n := 2) (rest := []) C 31 (c_X8_right (xl X) G C.2.2.1 _ s0 (1 : Int32) μ) h gX8_leave_X8_right rfl ⟨rfl, rfl⟩ (by decide +kernel) ⟨by decide, by decide⟩ ⟨by decide, by decide⟩ sh_31 (by decide) cl_X8 rfl rfl (Nat.le_of_ble_eq_true rfl) dX8_leave_32 rfl rfl (fun r4 μ3 h => ?_)
  refine j_if_ne C 40 dX8_leave_35 (by decide) (fun c12 => ?_) (fun c12 => ?_)
  · replace h := h.1 c12
    refine j_aload_n C 0 dX8_leave_40 rfl ?_
    refine j_getR C 31 22 sh_31 (by decide) cl_X8 (by decide) rfl in_X8_leave_X8 lk_X8_leave_54 rfl dX8_leave_41 ?_
    refine j_iload_n C 1 dX8_leave_44 rfl ?_
    have b5 := h.1
    replace h := h.2
    refine j_iald C 45 sh_45 (by decide) b5 dX8_leave_45 ?_
    refine j_iload_n C 2 dX8_leave_46 rfl ?_
    refine j_ishr C dX8_leave_47 ?_
    refine j_iconst (v := 1) C dX8_leave_48 (by decide) ?_
    refine j_iand C dX8_leave_49 ?_
    refine j_iconst (v := 1) C dX8_leave_50 (by decide) ?_
    refine j_icmp_ne C 58 dX8_leave_51 (by decide) (fun c11 => ?_) (fun c11 => ?_)
    · replace h := h.1 c11
      refine j_iconst (v := 0) C dX8_leave_58 (by decide) ?_
      exact w_X8_leave_b59_j C hQ h
    · replace h := h.2 c11
      refine j_iconst (v := 1) C dX8_leave_54 (by decide) ?_
      refine j_goto C 59 dX8_leave_55 (by decide) ?_
      exact w_X8_leave_b59_j C hQ h
  · replace h := h.2 c12
    refine j_iconst (v := 0) C dX8_leave_38 (by decide) ?_
    exact j_zret C hQ (by decide) (by decide) rfl h dX8_leave_39
set_option maxHeartbeats 4000000 in
set_option maxRecDepth 100000 in
theorem w_X8_leave_b30_j {G : Gt} {X : Cxt} {Q : State → Prop} (C : Cx G X cX8_leave RX8 wsX8_leave 4 rm_X8_leave) {post : Int32 → Mem → Prop} (hQ : RetI G X Q post .boolean 0 0) {v1 v2 : Int32} {μ : Mem} (h : w_X8_leave_b30 post v1 v2 μ) : J G X Q 4 0 0 30 [(0, .ref (ad G 31)), (1, .int v1), (2, .int v2)] [.ref (ad G 31)] μ := by
  unfold w_X8_leave_b30 at h
  refine j_iconst (v := 0) C dX8_leave_30 (by decide) ?_
  exact w_X8_leave_b31_j C hQ h
set_option maxHeartbeats 4000000 in
set_option maxRecDepth 100000 in
theorem c_X8_leave (l : Launch) (G : Gt) (hD : Dj G) (post : Int32 → Mem → Prop) (a1 a2 : Int32) (μ : Mem) : MI G l yX8_leave wsX8_leave rm_X8_leave 0 0 [.ref (ad G 31), .int a1, .int a2] μ (w_X8_leave post a1 a2 μ) post := by
  refine mI_of (cc := cX8_leave) (maxL := 4) (ty := .boolean) (lv0 := [(0, .ref (ad G 31)), (1, .int a1), (2, .int a2)]) hD (by decide) rfl (Nat.le_of_ble_eq_true rfl) rfl ?_
  intro X Q hl C hQ h
  subst hl
  replace C : Cx G X cX8_leave RX8 wsX8_leave 4 rm_X8_leave := C
  unfold w_X8_leave at h
  refine j_aload_n C 0 dX8_leave_0 rfl ?_
  refine j_iconst (v := 0) C dX8_leave_1 (by decide) ?_
  obtain ⟨μ1, e2⟩ : ∃ m, m = wr μ 31 0 (0 : Int32) := ⟨_, rfl⟩
  replace h := h μ1 e2
  refine j_put C 31 0 sh_31 (by decide) cl_X8 (by decide) rfl in_X8_leave_X8 lk_X8_leave_87 rfl tyX8_ok nmX8 rfl rfl dX8_leave_2 e2 ?_
  refine j_aload_n C 0 dX8_leave_5 rfl ?_
  refine j_iload_n C 1 dX8_leave_6 rfl ?_
  refine j_if_lt C 30 dX8_leave_7 (by decide) (fun c16 => ?_) (fun c16 => ?_)
  · replace h := h.1 c16
    exact w_X8_leave_b30_j C hQ h
  · replace h := h.2 c16
    refine j_iload_n C 1 dX8_leave_10 rfl ?_
    refine j_bipush (v := 7) C dX8_leave_11 (by decide) ?_
    refine j_icmp_gt C 30 dX8_leave_13 (by decide) (fun c15 => ?_) (fun c15 => ?_)
    · replace h := h.1 c15
      exact w_X8_leave_b30_j C hQ h
    · replace h := h.2 c15
      refine j_iload_n C 2 dX8_leave_16 rfl ?_
      refine j_if_lt C 30 dX8_leave_17 (by decide) (fun c14 => ?_) (fun c14 => ?_)
      · replace h := h.1 c14
        exact w_X8_leave_b30_j C hQ h
      · replace h := h.2 c14
        refine j_iload_n C 2 dX8_leave_20 rfl ?_
        refine j_bipush (v := 7) C dX8_leave_21 (by decide) ?_
        refine j_icmp_gt C 30 dX8_leave_23 (by decide) (fun c13 => ?_) (fun c13 => ?_)
        · replace h := h.1 c13
          exact w_X8_leave_b30_j C hQ h
        · replace h := h.2 c13
          refine j_iconst (v := 1) C dX8_leave_26 (by decide) ?_
          refine j_goto C 31 dX8_leave_27 (by decide) ?_
          exact w_X8_leave_b31_j C hQ h
/-! X8_leaves -/
abbrev rm_X8_leaves : Room := { frames := 1, cells := 0, slots := 0, locals := 23 }
theorem in_X8_leaves_X8 : ∀ w ∈ wsX80, w ∈ wsX8_leaves := by decide +kernel
theorem lk_X8_leaves_42 : Cond.fieldLink RX8 42 "SameAgainModel" "group" "[I" ∈ wsX8_leaves := by decide +kernel
set_option maxHeartbeats 4000000 in
set_option maxRecDepth 100000 in
theorem c_X8_leaves (l : Launch) (G : Gt) (hD : Dj G) (post : Mem → Prop) (a1 : Int32) (μ : Mem) : MV G l yX8_leaves wsX8_leaves rm_X8_leaves 0 0 [.ref (ad G 31), .int a1] μ (w_X8_leaves post a1 μ) post := by
  refine mV_of (cc := cX8_leaves) (maxL := 2) (lv0 := [(0, .ref (ad G 31)), (1, .int a1)]) hD (by decide) rfl (Nat.le_of_ble_eq_true rfl) rfl ?_
  intro X Q hl C hQ h
  subst hl
  replace C : Cx G X cX8_leaves RX8 wsX8_leaves 2 rm_X8_leaves := C
  unfold w_X8_leaves at h
  refine j_aload_n C 0 dX8_leaves_0 rfl ?_
  refine j_iload_n C 1 dX8_leaves_1 rfl ?_
  refine j_cVI (n := 1) (rest := []) C 31 (c_X8_names (xl X) G C.2.2.1 _ a1 μ) h gX8_leaves_X8_names rfl ⟨rfl, rfl⟩ (by decide +kernel) ⟨by decide, by decide⟩ ⟨by decide, by decide⟩ sh_31 (by decide) cl_X8 rfl rfl (Nat.le_of_ble_eq_true rfl) dX8_leaves_2 rfl rfl (fun r2 μ1 h => ?_)
  refine j_if_ne C 15 dX8_leaves_5 (by decide) (fun c6 => ?_) (fun c6 => ?_)
  · replace h := h.1 c6
    exact j_vret C hQ (by decide) (by decide) h dX8_leaves_15
  · replace h := h.2 c6
    refine j_aload_n C 0 dX8_leaves_8 rfl ?_
    refine j_getR C 31 18 sh_31 (by decide) cl_X8 (by decide) rfl in_X8_leaves_X8 lk_X8_leaves_42 rfl dX8_leaves_9 ?_
    refine j_iload_n C 1 dX8_leaves_12 rfl ?_
    refine j_iconst (v := -1) C dX8_leaves_13 (by decide) ?_
    obtain ⟨μ3, e4⟩ : ∃ m, m = wr μ1 41 (ix a1) (-1 : Int32) := ⟨_, rfl⟩
    have b5 := h.1
    replace h := h.2 μ3 e4
    refine j_iast C 41 sh_41 (by decide) b5 dX8_leaves_14 e4 ?_
    exact j_vret C hQ (by decide) (by decide) h dX8_leaves_15
/-! X8_link -/
abbrev rm_X8_link : Room := { frames := 2, cells := 0, slots := 0, locals := 45 }
theorem in_X8_link_X8 : ∀ w ∈ wsX80, w ∈ wsX8_link := by decide +kernel
theorem lk_X8_link_26 : Cond.fieldLink RX8 26 "SameAgainModel" "body" "[I" ∈ wsX8_link := by decide +kernel
set_option maxHeartbeats 4000000 in
set_option maxRecDepth 100000 in
theorem c_X8_link (l : Launch) (G : Gt) (hD : Dj G) (post : Int32 → Mem → Prop) (a1 a2 a3 : Int32) (μ : Mem) : MI G l yX8_link wsX8_link rm_X8_link 0 0 [.ref (ad G 31), .int a1, .int a2, .int a3] μ (w_X8_link post a1 a2 a3 μ) post := by
  refine mI_of (cc := cX8_link) (maxL := 4) (ty := .int) (lv0 := [(0, .ref (ad G 31)), (1, .int a1), (2, .int a2), (3, .int a3)]) hD (by decide) rfl (Nat.le_of_ble_eq_true rfl) rfl ?_
  intro X Q hl C hQ h
  subst hl
  replace C : Cx G X cX8_link RX8 wsX8_link 4 rm_X8_link := C
  unfold w_X8_link at h
  refine j_aload_n C 0 dX8_link_0 rfl ?_
  refine j_iload_n C 1 dX8_link_1 rfl ?_
  refine j_cVI (n := 1) (rest := []) C 31 (c_X8_isFile (xl X) G C.2.2.1 _ a1 μ) h gX8_link_X8_isFile rfl ⟨rfl, rfl⟩ (by decide +kernel) ⟨by decide, by decide⟩ ⟨by decide, by decide⟩ sh_31 (by decide) cl_X8 rfl rfl (Nat.le_of_ble_eq_true rfl) dX8_link_2 rfl rfl (fun r2 μ1 h => ?_)
  refine j_if_eq C 16 dX8_link_5 (by decide) (fun c12 => ?_) (fun c12 => ?_)
  · replace h := h.1 c12
    refine j_iconst (v := 0) C dX8_link_16 (by decide) ?_
    exact j_iret C hQ (by decide) (by decide) h dX8_link_17
  · replace h := h.2 c12
    refine j_aload_n C 0 dX8_link_8 rfl ?_
    refine j_iload_n C 2 dX8_link_9 rfl ?_
    refine j_cVI (n := 1) (rest := []) C 31 (c_X8_isFolder (xl X) G C.2.2.1 _ a2 μ1) h gX8_link_X8_isFolder rfl ⟨rfl, rfl⟩ (by decide +kernel) ⟨by decide, by decide⟩ ⟨by decide, by decide⟩ sh_31 (by decide) cl_X8 rfl rfl (Nat.le_of_ble_eq_true rfl) dX8_link_10 rfl rfl (fun r4 μ3 h => ?_)
    refine j_if_ne C 18 dX8_link_13 (by decide) (fun c11 => ?_) (fun c11 => ?_)
    · replace h := h.1 c11
      refine j_aload_n C 0 dX8_link_18 rfl ?_
      refine j_iload_n C 2 dX8_link_19 rfl ?_
      refine j_iload_n C 3 dX8_link_20 rfl ?_
      refine j_cVI (n := 2) (rest := []) C 31 (c_X8_canCome (xl X) G C.2.2.1 _ a2 a3 μ3) h gX8_link_X8_canCome rfl ⟨rfl, rfl⟩ (by decide +kernel) ⟨by decide, by decide⟩ ⟨by decide, by decide⟩ sh_31 (by decide) cl_X8 rfl rfl (Nat.le_of_ble_eq_true rfl) dX8_link_21 rfl rfl (fun r6 μ5 h => ?_)
      refine j_if_eq C 42 dX8_link_24 (by decide) (fun c10 => ?_) (fun c10 => ?_)
      · replace h := h.1 c10
        refine j_iconst (v := -1) C dX8_link_42 (by decide) ?_
        exact j_iret C hQ (by decide) (by decide) h dX8_link_43
      · replace h := h.2 c10
        refine j_aload_n C 0 dX8_link_27 rfl ?_
        refine j_iload_n C 2 dX8_link_28 rfl ?_
        refine j_iload_n C 3 dX8_link_29 rfl ?_
        refine j_aload_n C 0 dX8_link_30 rfl ?_
        refine j_getR C 31 13 sh_31 (by decide) cl_X8 (by decide) rfl in_X8_link_X8 lk_X8_link_26 rfl dX8_link_31 ?_
        refine j_iload_n C 1 dX8_link_34 rfl ?_
        have b7 := h.1
        replace h := h.2
        refine j_iald C 36 sh_36 (by decide) b7 dX8_link_35 ?_
        refine j_cVI (n := 3) (rest := []) C 31 (c_X8_newFile (xl X) G C.2.2.1 _ a2 a3 (μ5 36 (ix a1)) μ5) h gX8_link_X8_newFile rfl ⟨rfl, rfl⟩ (by decide +kernel) ⟨by decide, by decide⟩ ⟨by decide, by decide⟩ sh_31 (by decide) cl_X8 rfl rfl (Nat.le_of_ble_eq_true rfl) dX8_link_36 rfl rfl (fun r9 μ8 h => ?_)
        refine j_goto C 43 dX8_link_39 (by decide) ?_
        exact j_iret C hQ (by decide) (by decide) h dX8_link_43
    · replace h := h.2 c11
      refine j_iconst (v := 0) C dX8_link_16 (by decide) ?_
      exact j_iret C hQ (by decide) (by decide) h dX8_link_17
/-! X8_member -/
abbrev rm_X8_member : Room := { frames := 2, cells := 0, slots := 0, locals := 43 }
theorem in_X8_member_X8 : ∀ w ∈ wsX80, w ∈ wsX8_member := by decide +kernel
theorem lk_X8_member_94 : Cond.fieldLink RX8 94 "SameAgainModel" "files" "I" ∈ wsX8_member := by decide +kernel
set_option maxHeartbeats 4000000 in
set_option maxRecDepth 100000 in
theorem w_X8_member_b65_j {G : Gt} {X : Cxt} {Q : State → Prop} (C : Cx G X cX8_member RX8 wsX8_member 5 rm_X8_member) {post : Int32 → Mem → Prop} (hQ : RetI G X Q post .int 0 0) {v3 s0 : Int32} {μ : Mem} (h : w_X8_member_b65 post v3 s0 μ) : J G X Q 5 0 0 65 [(3, .int v3)] [.int s0, .ref (ad G 31)] μ := by
  unfold w_X8_member_b65 at h
  refine j_iconst (v := 1) C dX8_member_65 (by decide) ?_
  refine j_cVI (n := 2) (rest := []) C 31 (c_X8_right (xl X) G C.2.2.1 _ s0 (1 : Int32) μ) h gX8_member_X8_right rfl ⟨rfl, rfl⟩ (by decide +kernel) ⟨by decide, by decide⟩ ⟨by decide, by decide⟩ sh_31 (by decide) cl_X8 rfl rfl (Nat.le_of_ble_eq_true rfl) dX8_member_66 rfl rfl (fun r4 μ3 h => ?_)
  refine j_if_eq C 76 dX8_member_69 (by decide) (fun c5 => ?_) (fun c5 => ?_)
  · replace h := h.1 c5
    refine j_iconst (v := 0) C dX8_member_76 (by decide) ?_
    exact j_iret C hQ (by decide) (by decide) h dX8_member_77
  · replace h := h.2 c5
    refine j_iload_n C 0 dX8_member_72 rfl ?_
    refine j_goto C 77 dX8_member_73 (by decide) ?_
    exact j_iret C hQ (by decide) (by decide) h dX8_member_77
set_option maxHeartbeats 4000000 in
set_option maxRecDepth 100000 in
theorem w_X8_member_b15_j {G : Gt} {X : Cxt} {Q : State → Prop} (C : Cx G X cX8_member RX8 wsX8_member 5 rm_X8_member) {post : Int32 → Mem → Prop} (hQ : RetI G X Q post .int 0 0) : ∀ (n : Nat) (v1 v2 v3 v4 : Int32) (μ : Mem), itr (fun _ _ _ _ _ => False) (w_X8_member_b15 post) n v1 v2 v3 v4 μ → J G X Q 5 0 0 15 [(0, .ref (ad G 31)), (1, .int v1), (2, .int v2), (3, .int v3), (4, .int v4)] [] μ := by
  intro n
  induction n with
  | zero => intro v1 v2 v3 v4 μ h; exact h.elim
  | succ n ih =>
    intro v1 v2 v3 v4 μ h
    replace h : w_X8_member_b15 post (itr (fun _ _ _ _ _ => False) (w_X8_member_b15 post) n) v1 v2 v3 v4 μ := h
    generalize itr (fun _ _ _ _ _ => False) (w_X8_member_b15 post) n = k15 at ih h
    have hk15 := ih
    unfold w_X8_member_b15 at h
    refine j_iload C 4 dX8_member_15 rfl ?_
    refine j_aload_n C 0 dX8_member_17 rfl ?_
    refine j_getI C 31 2 sh_31 (by decide) cl_X8 (by decide) rfl in_X8_member_X8 lk_X8_member_94 rfl dX8_member_18 ?_
    refine j_icmp_ge C 54 dX8_member_21 (by decide) (fun c11 => ?_) (fun c11 => ?_)
    · replace h := h.1 c11
      refine j_aload_n C 0 dX8_member_54 rfl ?_
      refine j_iload_n C 2 dX8_member_55 rfl ?_
      refine j_iconst (v := -1) C dX8_member_56 (by decide) ?_
      refine j_icmp_ne C 64 dX8_member_57 (by decide) (fun c6 => ?_) (fun c6 => ?_)
      · replace h := h.1 c6
        refine j_iconst (v := 0) C dX8_member_64 (by decide) ?_
        refine j_forget [3] rfl ?_
        exact w_X8_member_b65_j C hQ h
      · replace h := h.2 c6
        refine j_iconst (v := 1) C dX8_member_60 (by decide) ?_
        refine j_goto C 65 dX8_member_61 (by decide) ?_
        refine j_forget [3] rfl ?_
        exact w_X8_member_b65_j C hQ h
    · replace h := h.2 c11
      refine j_aload_n C 0 dX8_member_24 rfl ?_
      refine j_iload_n C 1 dX8_member_25 rfl ?_
      refine j_iload C 4 dX8_member_26 rfl ?_
      refine j_cVI (n := 2) (rest := []) C 31 (c_X8_isMember (xl X) G C.2.2.1 _ v1 v4 μ) h gX8_member_X8_isMember rfl ⟨rfl, rfl⟩ (by decide +kernel) ⟨by decide, by decide⟩ ⟨by decide, by decide⟩ sh_31 (by decide) cl_X8 rfl rfl (Nat.le_of_ble_eq_true rfl) dX8_member_28 rfl rfl (fun r8 μ7 h => ?_)
      refine j_if_ne C 37 dX8_member_31 (by decide) (fun c10 => ?_) (fun c10 => ?_)
      · replace h := h.1 c10
        refine j_iload_n C 3 dX8_member_37 rfl ?_
        refine j_iload_n C 2 dX8_member_38 rfl ?_
        refine j_icmp_ne C 45 dX8_member_39 (by decide) (fun c9 => ?_) (fun c9 => ?_)
        · replace h := h.1 c9
          refine j_iinc (v := v3 + (1 : Int32)) (lv' := [(0, .ref (ad G 31)), (1, .int v1), (2, .int v2), (3, .int (v3 + (1 : Int32))), (4, .int v4)]) C 3 dX8_member_45 rfl rfl (by decide) rfl rfl ?_
          refine j_iinc (v := v4 + (1 : Int32)) (lv' := [(0, .ref (ad G 31)), (1, .int v1), (2, .int v2), (3, .int (v3 + (1 : Int32))), (4, .int (v4 + (1 : Int32)))]) C 4 dX8_member_48 rfl rfl (by decide) rfl rfl ?_
          refine j_goto C 15 dX8_member_51 (by decide) ?_
          exact hk15 _ _ _ _ _ h
        · replace h := h.2 c9
          refine j_iload C 4 dX8_member_42 rfl ?_
          exact j_iret C hQ (by decide) (by decide) h dX8_member_44
      · replace h := h.2 c10
        refine j_goto C 48 dX8_member_34 (by decide) ?_
        refine j_iinc (v := v4 + (1 : Int32)) (lv' := [(0, .ref (ad G 31)), (1, .int v1), (2, .int v2), (3, .int v3), (4, .int (v4 + (1 : Int32)))]) C 4 dX8_member_48 rfl rfl (by decide) rfl rfl ?_
        refine j_goto C 15 dX8_member_51 (by decide) ?_
        exact hk15 _ _ _ _ _ h
set_option maxHeartbeats 4000000 in
set_option maxRecDepth 100000 in
theorem c_X8_member (l : Launch) (G : Gt) (hD : Dj G) (post : Int32 → Mem → Prop) (a1 a2 : Int32) (μ : Mem) : MI G l yX8_member wsX8_member rm_X8_member 0 0 [.ref (ad G 31), .int a1, .int a2] μ (w_X8_member post a1 a2 μ) post := by
  refine mI_of (cc := cX8_member) (maxL := 5) (ty := .int) (lv0 := [(0, .ref (ad G 31)), (1, .int a1), (2, .int a2)]) hD (by decide) rfl (Nat.le_of_ble_eq_true rfl) rfl ?_
  intro X Q hl C hQ h
  subst hl
  replace C : Cx G X cX8_member RX8 wsX8_member 5 rm_X8_member := C
  unfold w_X8_member at h
  refine j_aload_n C 0 dX8_member_0 rfl ?_
  refine j_iload_n C 1 dX8_member_1 rfl ?_
  refine j_cVI (n := 1) (rest := []) C 31 (c_X8_isGroup (xl X) G C.2.2.1 _ a1 μ) h gX8_member_X8_isGroup rfl ⟨rfl, rfl⟩ (by decide +kernel) ⟨by decide, by decide⟩ ⟨by decide, by decide⟩ sh_31 (by decide) cl_X8 rfl rfl (Nat.le_of_ble_eq_true rfl) dX8_member_2 rfl rfl (fun r2 μ1 h => ?_)
  refine j_if_ne C 10 dX8_member_5 (by decide) (fun c12 => ?_) (fun c12 => ?_)
  · replace h := h.1 c12
    refine j_iconst (v := 0) C dX8_member_10 (by decide) ?_
    refine j_istore_n (lv' := [(0, .ref (ad G 31)), (1, .int a1), (2, .int a2), (3, .int (0 : Int32))]) C dX8_member_11 (by decide) rfl rfl ?_
    refine j_iconst (v := 0) C dX8_member_12 (by decide) ?_
    refine j_istore (lv' := [(0, .ref (ad G 31)), (1, .int a1), (2, .int a2), (3, .int (0 : Int32)), (4, .int (0 : Int32))]) C dX8_member_13 (by decide) rfl rfl ?_
    obtain ⟨n9, h⟩ := h
    exact w_X8_member_b15_j C hQ n9 _ _ _ _ _ h
  · replace h := h.2 c12
    refine j_iconst (v := 0) C dX8_member_8 (by decide) ?_
    exact j_iret C hQ (by decide) (by decide) h dX8_member_9
/-! X8_merge -/
abbrev rm_X8_merge : Room := { frames := 4, cells := 0, slots := 0, locals := 91 }
theorem in_X8_merge_X8 : ∀ w ∈ wsX80, w ∈ wsX8_merge := by decide +kernel
theorem lk_X8_merge_26 : Cond.fieldLink RX8 26 "SameAgainModel" "body" "[I" ∈ wsX8_merge := by decide +kernel
theorem lk_X8_merge_94 : Cond.fieldLink RX8 94 "SameAgainModel" "files" "I" ∈ wsX8_merge := by decide +kernel
theorem lk_X8_merge_81 : Cond.fieldLink RX8 81 "SameAgainModel" "some" "[I" ∈ wsX8_merge := by decide +kernel
theorem lk_X8_merge_199 : Cond.fieldLink RX8 199 "SameAgainModel" "freed" "I" ∈ wsX8_merge := by decide +kernel
theorem lk_X8_merge_33 : Cond.fieldLink RX8 33 "SameAgainModel" "size" "[I" ∈ wsX8_merge := by decide +kernel
theorem lk_X8_merge_36 : Cond.fieldLink RX8 36 "SameAgainModel" "owner" "[I" ∈ wsX8_merge := by decide +kernel
theorem lk_X8_merge_29 : Cond.fieldLink RX8 29 "SameAgainModel" "isHeld" "[Z" ∈ wsX8_merge := by decide +kernel
theorem lk_X8_merge_84 : Cond.fieldLink RX8 84 "SameAgainModel" "theirs" "[I" ∈ wsX8_merge := by decide +kernel
theorem lk_X8_merge_54 : Cond.fieldLink RX8 54 "SameAgainModel" "leave" "[I" ∈ wsX8_merge := by decide +kernel
set_option maxHeartbeats 4000000 in
set_option maxRecDepth 100000 in
theorem w_X8_merge_b212_j {G : Gt} {X : Cxt} {Q : State → Prop} (C : Cx G X cX8_merge RX8 wsX8_merge 7 rm_X8_merge) {post : Int32 → Mem → Prop} (hQ : RetI G X Q post .int 0 0) {k153 : Int32 → Int32 → Int32 → Mem → Prop} (hk153 : ∀ (v3 v4 v5 : Int32) (μ : Mem), k153 v3 v4 v5 μ → J G X Q 7 0 0 153 [(0, .ref (ad G 31)), (3, .int v3), (4, .int v4), (5, .int v5)] [] μ) {v3 v4 v5 v6 : Int32} {μ : Mem} (h : w_X8_merge_b212 post k153 v3 v4 v5 v6 μ) : J G X Q 7 0 0 212 [(0, .ref (ad G 31)), (3, .int v3), (4, .int v4), (5, .int v5), (6, .int v6)] [] μ := by
  unfold w_X8_merge_b212 at h
  refine j_aload_n C 0 dX8_merge_212 rfl ?_
  refine j_iload C 4 dX8_merge_213 rfl ?_
  refine j_cVV (n := 1) (rest := []) C 31 (c_X8_leaves (xl X) G C.2.2.1 _ v6 μ) h gX8_merge_X8_leaves rfl ⟨rfl, rfl⟩ (by decide +kernel) ⟨by decide, by decide⟩ ⟨by decide, by decide⟩ sh_31 (by decide) cl_X8 rfl rfl (Nat.le_of_ble_eq_true rfl) dX8_merge_215 rfl rfl (fun μ16 h => ?_)
  refine j_iinc (v := v5 + (1 : Int32)) (lv' := [(0, .ref (ad G 31)), (3, .int v3), (4, .int v4), (5, .int (v5 + (1 : Int32))), (6, .int v6)]) C 3 dX8_merge_218 rfl rfl (by decide) rfl rfl ?_
  refine j_goto C 153 dX8_merge_221 (by decide) ?_
  refine j_forget [0, 1, 2, 3] rfl ?_
  exact hk153 _ _ _ _ h
set_option maxHeartbeats 4000000 in
set_option maxRecDepth 100000 in
theorem w_X8_merge_b153_j {G : Gt} {X : Cxt} {Q : State → Prop} (C : Cx G X cX8_merge RX8 wsX8_merge 7 rm_X8_merge) {post : Int32 → Mem → Prop} (hQ : RetI G X Q post .int 0 0) : ∀ (n : Nat) (v3 v4 v5 : Int32) (μ : Mem), itr (fun _ _ _ _ => False) (w_X8_merge_b153 post) n v3 v4 v5 μ → J G X Q 7 0 0 153 [(0, .ref (ad G 31)), (3, .int v3), (4, .int v4), (5, .int v5)] [] μ := by
  intro n
  induction n with
  | zero => intro v3 v4 v5 μ h; exact h.elim
  | succ n ih =>
    intro v3 v4 v5 μ h
    replace h : w_X8_merge_b153 post (itr (fun _ _ _ _ => False) (w_X8_merge_b153 post) n) v3 v4 v5 μ := h
    generalize itr (fun _ _ _ _ => False) (w_X8_merge_b153 post) n = k153 at ih h
    have hk153 := ih
    unfold w_X8_merge_b153 at h
    refine j_iload C 3 dX8_merge_153 rfl ?_
    refine j_iload C 2 dX8_merge_155 rfl ?_
    refine j_icmp_ge C 224 dX8_merge_157 (by decide) (fun c21 => ?_) (fun c21 => ?_)
    · replace h := h.1 c21
      refine j_iload C 2 dX8_merge_224 rfl ?_
      refine j_if_le C 236 dX8_merge_226 (by decide) (fun c7 => ?_) (fun c7 => ?_)
      · replace h := h.1 c7
        refine j_iload C 2 dX8_merge_236 rfl ?_
        exact j_iret C hQ (by decide) (by decide) h dX8_merge_238
      · replace h := h.2 c7
        refine j_aload_n C 0 dX8_merge_229 rfl ?_
        refine j_iload_n C 1 dX8_merge_230 rfl ?_
        refine j_iload C 2 dX8_merge_231 rfl ?_
        refine j_cVV (n := 2) (rest := []) C 31 (c_X8_keeps (xl X) G C.2.2.1 _ v3 v4 μ) h gX8_merge_X8_keeps rfl ⟨rfl, rfl⟩ (by decide +kernel) ⟨by decide, by decide⟩ ⟨by decide, by decide⟩ sh_31 (by decide) cl_X8 rfl rfl (Nat.le_of_ble_eq_true rfl) dX8_merge_233 rfl rfl (fun μ6 h => ?_)
        refine j_iload C 2 dX8_merge_236 rfl ?_
        exact j_iret C hQ (by decide) (by decide) h dX8_merge_238
    · replace h := h.2 c21
      refine j_aload_n C 0 dX8_merge_160 rfl ?_
      refine j_getR C 31 13 sh_31 (by decide) cl_X8 (by decide) rfl in_X8_merge_X8 lk_X8_merge_26 rfl dX8_merge_161 ?_
      refine j_aload_n C 0 dX8_merge_164 rfl ?_
      refine j_getR C 31 32 sh_31 (by decide) cl_X8 (by decide) rfl in_X8_merge_X8 lk_X8_merge_81 rfl dX8_merge_165 ?_
      refine j_iload C 3 dX8_merge_168 rfl ?_
      have b8 := h.1
      replace h := h.2
      refine j_iald C 54 sh_54 (by decide) b8 dX8_merge_170 ?_
      have b9 := h.1
      replace h := h.2
      refine j_iald C 36 sh_36 (by decide) b9 dX8_merge_171 ?_
      refine j_istore (lv' := [(0, .ref (ad G 31)), (3, .int v3), (4, .int v4), (5, .int v5), (6, .int (μ 36 (ix (μ 54 (ix v5)))))]) C dX8_merge_172 (by decide) rfl rfl ?_
      refine j_aload_n C 0 dX8_merge_174 rfl ?_
      refine j_getR C 31 13 sh_31 (by decide) cl_X8 (by decide) rfl in_X8_merge_X8 lk_X8_merge_26 rfl dX8_merge_175 ?_
      refine j_aload_n C 0 dX8_merge_178 rfl ?_
      refine j_getR C 31 32 sh_31 (by decide) cl_X8 (by decide) rfl in_X8_merge_X8 lk_X8_merge_81 rfl dX8_merge_179 ?_
      refine j_iload C 3 dX8_merge_182 rfl ?_
      have b10 := h.1
      replace h := h.2
      refine j_iald C 54 sh_54 (by decide) b10 dX8_merge_184 ?_
      refine j_iload_n C 1 dX8_merge_185 rfl ?_
      obtain ⟨μ11, e12⟩ : ∃ m, m = wr μ 36 (ix (μ 54 (ix v5))) v3 := ⟨_, rfl⟩
      have b13 := h.1
      replace h := h.2 μ11 e12
      refine j_iast C 36 sh_36 (by decide) b13 dX8_merge_186 e12 ?_
      refine j_aload_n C 0 dX8_merge_187 rfl ?_
      refine j_iload C 4 dX8_merge_188 rfl ?_
      refine j_cVI (n := 1) (rest := []) C 31 (c_X8_names (xl X) G C.2.2.1 _ (μ 36 (ix (μ 54 (ix v5)))) μ11) h gX8_merge_X8_names rfl ⟨rfl, rfl⟩ (by decide +kernel) ⟨by decide, by decide⟩ ⟨by decide, by decide⟩ sh_31 (by decide) cl_X8 rfl rfl (Nat.le_of_ble_eq_true rfl) dX8_merge_190 rfl rfl (fun r15 μ14 h => ?_)
      refine j_if_ne C 212 dX8_merge_193 (by decide) (fun c20 => ?_) (fun c20 => ?_)
      · replace h := h.1 c20
        exact w_X8_merge_b212_j C hQ hk153 h
      · replace h := h.2 c20
        refine j_aload_n C 0 dX8_merge_196 rfl ?_
        refine j_dup C dX8_merge_197 rfl ?_
        refine j_getI C 31 5 sh_31 (by decide) cl_X8 (by decide) rfl in_X8_merge_X8 lk_X8_merge_199 rfl dX8_merge_198 ?_
        refine j_aload_n C 0 dX8_merge_201 rfl ?_
        refine j_getR C 31 15 sh_31 (by decide) cl_X8 (by decide) rfl in_X8_merge_X8 lk_X8_merge_33 rfl dX8_merge_202 ?_
        refine j_iload C 4 dX8_merge_205 rfl ?_
        have b17 := h.1
        replace h := h.2
        refine j_iald C 38 sh_38 (by decide) b17 dX8_merge_207 ?_
        refine j_iadd C dX8_merge_208 ?_
        obtain ⟨μ18, e19⟩ : ∃ m, m = wr μ14 31 5 ((μ14 31 5) + (μ14 38 (ix (μ 36 (ix (μ 54 (ix v5))))))) := ⟨_, rfl⟩
        replace h := h μ18 e19
        refine j_put C 31 5 sh_31 (by decide) cl_X8 (by decide) rfl in_X8_merge_X8 lk_X8_merge_199 rfl tyX8_ok nmX8 rfl rfl dX8_merge_209 e19 ?_
        exact w_X8_merge_b212_j C hQ hk153 h
set_option maxHeartbeats 4000000 in
set_option maxRecDepth 100000 in
theorem w_X8_merge_b123_j {G : Gt} {X : Cxt} {Q : State → Prop} (C : Cx G X cX8_merge RX8 wsX8_merge 7 rm_X8_merge) {post : Int32 → Mem → Prop} (hQ : RetI G X Q post .int 0 0) {k36 : Int32 → Int32 → Int32 → Int32 → Mem → Prop} (hk36 : ∀ (v1 v3 v4 v5 : Int32) (μ : Mem), k36 v1 v3 v4 v5 μ → J G X Q 7 0 0 36 [(0, .ref (ad G 31)), (1, .int v1), (3, .int v3), (4, .int v4), (5, .int v5)] [] μ) {v1 v3 v4 v5 v6 : Int32} {μ : Mem} (h : w_X8_merge_b123 post k36 v1 v3 v4 v5 v6 μ) : J G X Q 7 0 0 123 [(0, .ref (ad G 31)), (1, .int v1), (3, .int v3), (4, .int v4), (5, .int v5), (6, .int v6)] [] μ := by
  unfold w_X8_merge_b123 at h
  refine j_aload_n C 0 dX8_merge_123 rfl ?_
  refine j_getR C 31 32 sh_31 (by decide) cl_X8 (by decide) rfl in_X8_merge_X8 lk_X8_merge_81 rfl dX8_merge_124 ?_
  refine j_iload C 3 dX8_merge_127 rfl ?_
  refine j_iload C 4 dX8_merge_129 rfl ?_
  obtain ⟨μ29, e30⟩ : ∃ m, m = wr μ 54 (ix v4) v5 := ⟨_, rfl⟩
  have b31 := h.1
  replace h := h.2 μ29 e30
  refine j_iast C 54 sh_54 (by decide) b31 dX8_merge_131 e30 ?_
  refine j_aload_n C 0 dX8_merge_132 rfl ?_
  refine j_getR C 31 33 sh_31 (by decide) cl_X8 (by decide) rfl in_X8_merge_X8 lk_X8_merge_84 rfl dX8_merge_133 ?_
  refine j_iload C 3 dX8_merge_136 rfl ?_
  refine j_iload C 5 dX8_merge_138 rfl ?_
  obtain ⟨μ32, e33⟩ : ∃ m, m = wr μ29 55 (ix v4) v6 := ⟨_, rfl⟩
  have b34 := h.1
  replace h := h.2 μ32 e33
  refine j_iast C 55 sh_55 (by decide) b34 dX8_merge_140 e33 ?_
  refine j_iinc (v := v4 + (1 : Int32)) (lv' := [(0, .ref (ad G 31)), (1, .int v1), (3, .int v3), (4, .int (v4 + (1 : Int32))), (5, .int v5), (6, .int v6)]) C 3 dX8_merge_141 rfl rfl (by decide) rfl rfl ?_
  refine j_iinc (v := v5 + (1 : Int32)) (lv' := [(0, .ref (ad G 31)), (1, .int v1), (3, .int v3), (4, .int (v4 + (1 : Int32))), (5, .int (v5 + (1 : Int32))), (6, .int v6)]) C 4 dX8_merge_144 rfl rfl (by decide) rfl rfl ?_
  refine j_goto C 36 dX8_merge_147 (by decide) ?_
  refine j_forget [0, 1, 2, 3, 4] rfl ?_
  exact hk36 _ _ _ _ _ h
set_option maxHeartbeats 4000000 in
set_option maxRecDepth 100000 in
theorem w_X8_merge_b36_j {G : Gt} {X : Cxt} {Q : State → Prop} (C : Cx G X cX8_merge RX8 wsX8_merge 7 rm_X8_merge) {post : Int32 → Mem → Prop} (hQ : RetI G X Q post .int 0 0) : ∀ (n : Nat) (v1 v3 v4 v5 : Int32) (μ : Mem), itr (fun _ _ _ _ _ => False) (w_X8_merge_b36 post) n v1 v3 v4 v5 μ → J G X Q 7 0 0 36 [(0, .ref (ad G 31)), (1, .int v1), (3, .int v3), (4, .int v4), (5, .int v5)] [] μ := by
  intro n
  induction n with
  | zero => intro v1 v3 v4 v5 μ h; exact h.elim
  | succ n ih =>
    intro v1 v3 v4 v5 μ h
    replace h : w_X8_merge_b36 post (itr (fun _ _ _ _ _ => False) (w_X8_merge_b36 post) n) v1 v3 v4 v5 μ := h
    generalize itr (fun _ _ _ _ _ => False) (w_X8_merge_b36 post) n = k36 at ih h
    have hk36 := ih
    unfold w_X8_merge_b36 at h
    refine j_iload C 4 dX8_merge_36 rfl ?_
    refine j_aload_n C 0 dX8_merge_38 rfl ?_
    refine j_getI C 31 2 sh_31 (by decide) cl_X8 (by decide) rfl in_X8_merge_X8 lk_X8_merge_94 rfl dX8_merge_39 ?_
    refine j_icmp_ge C 150 dX8_merge_42 (by decide) (fun c42 => ?_) (fun c42 => ?_)
    · replace h := h.1 c42
      refine j_iconst (v := 0) C dX8_merge_150 (by decide) ?_
      refine j_istore (lv' := [(0, .ref (ad G 31)), (1, .int v1), (3, .int v3), (4, .int v4), (5, .int (0 : Int32))]) C dX8_merge_151 (by decide) rfl rfl ?_
      refine j_forget [0, 2, 3, 4] rfl ?_
      obtain ⟨n9, h⟩ := h
      exact w_X8_merge_b153_j C hQ n9 _ _ _ _ h
    · replace h := h.2 c42
      refine j_aload_n C 0 dX8_merge_45 rfl ?_
      refine j_getR C 31 16 sh_31 (by decide) cl_X8 (by decide) rfl in_X8_merge_X8 lk_X8_merge_36 rfl dX8_merge_46 ?_
      refine j_aload_n C 0 dX8_merge_49 rfl ?_
      refine j_getR C 31 13 sh_31 (by decide) cl_X8 (by decide) rfl in_X8_merge_X8 lk_X8_merge_26 rfl dX8_merge_50 ?_
      refine j_iload C 4 dX8_merge_53 rfl ?_
      have b22 := h.1
      replace h := h.2
      refine j_iald C 36 sh_36 (by decide) b22 dX8_merge_55 ?_
      have b23 := h.1
      replace h := h.2
      refine j_iald C 39 sh_39 (by decide) b23 dX8_merge_56 ?_
      refine j_istore (lv' := [(0, .ref (ad G 31)), (1, .int v1), (3, .int v3), (4, .int v4), (5, .int v5), (6, .int (μ 39 (ix (μ 36 (ix v5)))))]) C dX8_merge_57 (by decide) rfl rfl ?_
      refine j_aload_n C 0 dX8_merge_59 rfl ?_
      refine j_iload_n C 1 dX8_merge_60 rfl ?_
      refine j_iload C 4 dX8_merge_61 rfl ?_
      refine j_cVI (n := 2) (rest := []) C 31 (c_X8_isMember (xl X) G C.2.2.1 _ v1 v5 μ) h gX8_merge_X8_isMember rfl ⟨rfl, rfl⟩ (by decide +kernel) ⟨by decide, by decide⟩ ⟨by decide, by decide⟩ sh_31 (by decide) cl_X8 rfl rfl (Nat.le_of_ble_eq_true rfl) dX8_merge_63 rfl rfl (fun r25 μ24 h => ?_)
      refine j_if_eq C 144 dX8_merge_66 (by decide) (fun c41 => ?_) (fun c41 => ?_)
      · replace h := h.1 c41
        refine j_iinc (v := v5 + (1 : Int32)) (lv' := [(0, .ref (ad G 31)), (1, .int v1), (3, .int v3), (4, .int v4), (5, .int (v5 + (1 : Int32))), (6, .int (μ 39 (ix (μ 36 (ix v5)))))]) C 4 dX8_merge_144 rfl rfl (by decide) rfl rfl ?_
        refine j_goto C 36 dX8_merge_147 (by decide) ?_
        refine j_forget [0, 1, 2, 3, 4] rfl ?_
        exact hk36 _ _ _ _ _ h
      · replace h := h.2 c41
        refine j_aload_n C 0 dX8_merge_69 rfl ?_
        refine j_getR C 31 14 sh_31 (by decide) cl_X8 (by decide) rfl in_X8_merge_X8 lk_X8_merge_29 rfl dX8_merge_70 ?_
        refine j_iload C 4 dX8_merge_73 rfl ?_
        have b26 := h.1
        replace h := h.2
        refine j_zald C 37 sh_37 (by decide) b26 dX8_merge_75 ?_
        refine j_if_ne C 144 dX8_merge_76 (by decide) (fun c40 => ?_) (fun c40 => ?_)
        · replace h := h.1 c40
          refine j_iinc (v := v5 + (1 : Int32)) (lv' := [(0, .ref (ad G 31)), (1, .int v1), (3, .int v3), (4, .int v4), (5, .int (v5 + (1 : Int32))), (6, .int (μ 39 (ix (μ 36 (ix v5)))))]) C 4 dX8_merge_144 rfl rfl (by decide) rfl rfl ?_
          refine j_goto C 36 dX8_merge_147 (by decide) ?_
          refine j_forget [0, 1, 2, 3, 4] rfl ?_
          exact hk36 _ _ _ _ _ h
        · replace h := h.2 c40
          refine j_aload_n C 0 dX8_merge_79 rfl ?_
          refine j_getR C 31 13 sh_31 (by decide) cl_X8 (by decide) rfl in_X8_merge_X8 lk_X8_merge_26 rfl dX8_merge_80 ?_
          refine j_iload C 4 dX8_merge_83 rfl ?_
          have b27 := h.1
          replace h := h.2
          refine j_iald C 36 sh_36 (by decide) b27 dX8_merge_85 ?_
          refine j_iload_n C 2 dX8_merge_86 rfl ?_
          refine j_icmp_eq C 144 dX8_merge_87 (by decide) (fun c39 => ?_) (fun c39 => ?_)
          · replace h := h.1 c39
            refine j_iinc (v := v5 + (1 : Int32)) (lv' := [(0, .ref (ad G 31)), (1, .int v1), (3, .int v3), (4, .int v4), (5, .int (v5 + (1 : Int32))), (6, .int (μ 39 (ix (μ 36 (ix v5)))))]) C 4 dX8_merge_144 rfl rfl (by decide) rfl rfl ?_
            refine j_goto C 36 dX8_merge_147 (by decide) ?_
            refine j_forget [0, 1, 2, 3, 4] rfl ?_
            exact hk36 _ _ _ _ _ h
          · replace h := h.2 c39
            refine j_iload C 5 dX8_merge_90 rfl ?_
            refine j_aload_n C 0 dX8_merge_92 rfl ?_
            refine j_getR C 31 16 sh_31 (by decide) cl_X8 (by decide) rfl in_X8_merge_X8 lk_X8_merge_36 rfl dX8_merge_93 ?_
            refine j_iload_n C 2 dX8_merge_96 rfl ?_
            have b28 := h.1
            replace h := h.2
            refine j_iald C 39 sh_39 (by decide) b28 dX8_merge_97 ?_
            refine j_icmp_eq C 123 dX8_merge_98 (by decide) (fun c38 => ?_) (fun c38 => ?_)
            · replace h := h.1 c38
              exact w_X8_merge_b123_j C hQ hk36 h
            · replace h := h.2 c38
              refine j_aload_n C 0 dX8_merge_101 rfl ?_
              refine j_getR C 31 22 sh_31 (by decide) cl_X8 (by decide) rfl in_X8_merge_X8 lk_X8_merge_54 rfl dX8_merge_102 ?_
              refine j_aload_n C 0 dX8_merge_105 rfl ?_
              refine j_getR C 31 16 sh_31 (by decide) cl_X8 (by decide) rfl in_X8_merge_X8 lk_X8_merge_36 rfl dX8_merge_106 ?_
              refine j_iload_n C 2 dX8_merge_109 rfl ?_
              have b35 := h.1
              replace h := h.2
              refine j_iald C 39 sh_39 (by decide) b35 dX8_merge_110 ?_
              have b36 := h.1
              replace h := h.2
              refine j_iald C 45 sh_45 (by decide) b36 dX8_merge_111 ?_
              refine j_iload C 5 dX8_merge_112 rfl ?_
              refine j_ishr C dX8_merge_114 ?_
              refine j_iconst (v := 1) C dX8_merge_115 (by decide) ?_
              refine j_iand C dX8_merge_116 ?_
              refine j_if_ne C 123 dX8_merge_117 (by decide) (fun c37 => ?_) (fun c37 => ?_)
              · replace h := h.1 c37
                exact w_X8_merge_b123_j C hQ hk36 h
              · replace h := h.2 c37
                refine j_goto C 144 dX8_merge_120 (by decide) ?_
                refine j_iinc (v := v5 + (1 : Int32)) (lv' := [(0, .ref (ad G 31)), (1, .int v1), (3, .int v3), (4, .int v4), (5, .int (v5 + (1 : Int32))), (6, .int (μ 39 (ix (μ 36 (ix v5)))))]) C 4 dX8_merge_144 rfl rfl (by decide) rfl rfl ?_
                refine j_goto C 36 dX8_merge_147 (by decide) ?_
                refine j_forget [0, 1, 2, 3, 4] rfl ?_
                exact hk36 _ _ _ _ _ h
set_option maxHeartbeats 4000000 in
set_option maxRecDepth 100000 in
theorem c_X8_merge (l : Launch) (G : Gt) (hD : Dj G) (post : Int32 → Mem → Prop) (a1 : Int32) (μ : Mem) : MI G l yX8_merge wsX8_merge rm_X8_merge 0 0 [.ref (ad G 31), .int a1] μ (w_X8_merge post a1 μ) post := by
  refine mI_of (cc := cX8_merge) (maxL := 7) (ty := .int) (lv0 := [(0, .ref (ad G 31)), (1, .int a1)]) hD (by decide) rfl (Nat.le_of_ble_eq_true rfl) rfl ?_
  intro X Q hl C hQ h
  subst hl
  replace C : Cx G X cX8_merge RX8 wsX8_merge 7 rm_X8_merge := C
  unfold w_X8_merge at h
  refine j_aload_n C 0 dX8_merge_0 rfl ?_
  refine j_iload_n C 1 dX8_merge_1 rfl ?_
  refine j_cVI (n := 1) (rest := []) C 31 (c_X8_isGroup (xl X) G C.2.2.1 _ a1 μ) h gX8_merge_X8_isGroup rfl ⟨rfl, rfl⟩ (by decide +kernel) ⟨by decide, by decide⟩ ⟨by decide, by decide⟩ sh_31 (by decide) cl_X8 rfl rfl (Nat.le_of_ble_eq_true rfl) dX8_merge_2 rfl rfl (fun r2 μ1 h => ?_)
  refine j_if_ne C 10 dX8_merge_5 (by decide) (fun c44 => ?_) (fun c44 => ?_)
  · replace h := h.1 c44
    refine j_aload_n C 0 dX8_merge_10 rfl ?_
    refine j_iload_n C 1 dX8_merge_11 rfl ?_
    refine j_cVI (n := 1) (rest := []) C 31 (c_X8_keptOf (xl X) G C.2.2.1 _ a1 μ1) h gX8_merge_X8_keptOf rfl ⟨rfl, rfl⟩ (by decide +kernel) ⟨by decide, by decide⟩ ⟨by decide, by decide⟩ sh_31 (by decide) cl_X8 rfl rfl (Nat.le_of_ble_eq_true rfl) dX8_merge_12 rfl rfl (fun r4 μ3 h => ?_)
    refine j_istore_n (lv' := [(0, .ref (ad G 31)), (1, .int a1), (2, .int r4)]) C dX8_merge_15 (by decide) rfl rfl ?_
    refine j_iload_n C 2 dX8_merge_16 rfl ?_
    refine j_iconst (v := -1) C dX8_merge_17 (by decide) ?_
    refine j_icmp_ne C 23 dX8_merge_18 (by decide) (fun c43 => ?_) (fun c43 => ?_)
    · replace h := h.1 c43
      refine j_aload_n C 0 dX8_merge_23 rfl ?_
      refine j_getR C 31 13 sh_31 (by decide) cl_X8 (by decide) rfl in_X8_merge_X8 lk_X8_merge_26 rfl dX8_merge_24 ?_
      refine j_iload_n C 2 dX8_merge_27 rfl ?_
      have b5 := h.1
      replace h := h.2
      refine j_iald C 36 sh_36 (by decide) b5 dX8_merge_28 ?_
      refine j_istore_n (lv' := [(0, .ref (ad G 31)), (1, .int a1), (2, .int r4), (3, .int (μ3 36 (ix r4)))]) C dX8_merge_29 (by decide) rfl rfl ?_
      refine j_iconst (v := 0) C dX8_merge_30 (by decide) ?_
      refine j_istore (lv' := [(0, .ref (ad G 31)), (1, .int a1), (2, .int r4), (3, .int (μ3 36 (ix r4))), (4, .int (0 : Int32))]) C dX8_merge_31 (by decide) rfl rfl ?_
      refine j_iconst (v := 0) C dX8_merge_33 (by decide) ?_
      refine j_istore (lv' := [(0, .ref (ad G 31)), (1, .int a1), (2, .int r4), (3, .int (μ3 36 (ix r4))), (4, .int (0 : Int32)), (5, .int (0 : Int32))]) C dX8_merge_34 (by decide) rfl rfl ?_
      refine j_forget [0, 1, 3, 4, 5] rfl ?_
      obtain ⟨n9, h⟩ := h
      exact w_X8_merge_b36_j C hQ n9 _ _ _ _ _ h
    · replace h := h.2 c43
      refine j_iconst (v := 0) C dX8_merge_21 (by decide) ?_
      exact j_iret C hQ (by decide) (by decide) h dX8_merge_22
  · replace h := h.2 c44
    refine j_iconst (v := 0) C dX8_merge_8 (by decide) ?_
    exact j_iret C hQ (by decide) (by decide) h dX8_merge_9
/-! X8_move -/
abbrev rm_X8_move : Room := { frames := 2, cells := 0, slots := 0, locals := 43 }
theorem in_X8_move_X8 : ∀ w ∈ wsX80, w ∈ wsX8_move := by decide +kernel
theorem lk_X8_move_20 : Cond.fieldLink RX8 20 "SameAgainModel" "in" "[I" ∈ wsX8_move := by decide +kernel
theorem lk_X8_move_23 : Cond.fieldLink RX8 23 "SameAgainModel" "name" "[I" ∈ wsX8_move := by decide +kernel
set_option maxHeartbeats 4000000 in
set_option maxRecDepth 100000 in
theorem c_X8_move (l : Launch) (G : Gt) (hD : Dj G) (post : Int32 → Mem → Prop) (a1 a2 a3 : Int32) (μ : Mem) : MI G l yX8_move wsX8_move rm_X8_move 0 0 [.ref (ad G 31), .int a1, .int a2, .int a3] μ (w_X8_move post a1 a2 a3 μ) post := by
  refine mI_of (cc := cX8_move) (maxL := 4) (ty := .boolean) (lv0 := [(0, .ref (ad G 31)), (1, .int a1), (2, .int a2), (3, .int a3)]) hD (by decide) rfl (Nat.le_of_ble_eq_true rfl) rfl ?_
  intro X Q hl C hQ h
  subst hl
  replace C : Cx G X cX8_move RX8 wsX8_move 4 rm_X8_move := C
  unfold w_X8_move at h
  refine j_aload_n C 0 dX8_move_0 rfl ?_
  refine j_iload_n C 1 dX8_move_1 rfl ?_
  refine j_cVI (n := 1) (rest := []) C 31 (c_X8_isFile (xl X) G C.2.2.1 _ a1 μ) h gX8_move_X8_isFile rfl ⟨rfl, rfl⟩ (by decide +kernel) ⟨by decide, by decide⟩ ⟨by decide, by decide⟩ sh_31 (by decide) cl_X8 rfl rfl (Nat.le_of_ble_eq_true rfl) dX8_move_2 rfl rfl (fun r2 μ1 h => ?_)
  refine j_if_eq C 16 dX8_move_5 (by decide) (fun c18 => ?_) (fun c18 => ?_)
  · replace h := h.1 c18
    refine j_iconst (v := 0) C dX8_move_16 (by decide) ?_
    exact j_zret C hQ (by decide) (by decide) rfl h dX8_move_17
  · replace h := h.2 c18
    refine j_aload_n C 0 dX8_move_8 rfl ?_
    refine j_iload_n C 2 dX8_move_9 rfl ?_
    refine j_cVI (n := 1) (rest := []) C 31 (c_X8_isFolder (xl X) G C.2.2.1 _ a2 μ1) h gX8_move_X8_isFolder rfl ⟨rfl, rfl⟩ (by decide +kernel) ⟨by decide, by decide⟩ ⟨by decide, by decide⟩ sh_31 (by decide) cl_X8 rfl rfl (Nat.le_of_ble_eq_true rfl) dX8_move_10 rfl rfl (fun r4 μ3 h => ?_)
    refine j_if_ne C 18 dX8_move_13 (by decide) (fun c17 => ?_) (fun c17 => ?_)
    · replace h := h.1 c17
      refine j_iload_n C 3 dX8_move_18 rfl ?_
      refine j_cSI (n := 1) (rest := []) C (c_X8_isName (xl X) G C.2.2.1 _ a3 μ3) h gX8_move_X8_isName rfl ⟨rfl, rfl⟩ (by decide +kernel) ⟨by decide, by decide⟩ ⟨by decide, by decide⟩ rfl rfl (Nat.le_of_ble_eq_true rfl) dX8_move_19 rfl rfl (fun r6 μ5 h => ?_)
      refine j_if_eq C 35 dX8_move_22 (by decide) (fun c16 => ?_) (fun c16 => ?_)
      · replace h := h.1 c16
        refine j_iconst (v := 0) C dX8_move_35 (by decide) ?_
        exact j_zret C hQ (by decide) (by decide) rfl h dX8_move_36
      · replace h := h.2 c16
        refine j_aload_n C 0 dX8_move_25 rfl ?_
        refine j_iload_n C 2 dX8_move_26 rfl ?_
        refine j_iload_n C 3 dX8_move_27 rfl ?_
        refine j_cVI (n := 2) (rest := []) C 31 (c_X8_named (xl X) G C.2.2.1 _ a2 a3 μ5) h gX8_move_X8_named rfl ⟨rfl, rfl⟩ (by decide +kernel) ⟨by decide, by decide⟩ ⟨by decide, by decide⟩ sh_31 (by decide) cl_X8 rfl rfl (Nat.le_of_ble_eq_true rfl) dX8_move_28 rfl rfl (fun r8 μ7 h => ?_)
        refine j_iconst (v := -1) C dX8_move_31 (by decide) ?_
        refine j_icmp_eq C 37 dX8_move_32 (by decide) (fun c15 => ?_) (fun c15 => ?_)
        · replace h := h.1 c15
          refine j_aload_n C 0 dX8_move_37 rfl ?_
          refine j_getR C 31 11 sh_31 (by decide) cl_X8 (by decide) rfl in_X8_move_X8 lk_X8_move_20 rfl dX8_move_38 ?_
          refine j_iload_n C 1 dX8_move_41 rfl ?_
          refine j_iload_n C 2 dX8_move_42 rfl ?_
          obtain ⟨μ9, e10⟩ : ∃ m, m = wr μ7 34 (ix a1) a2 := ⟨_, rfl⟩
          have b11 := h.1
          replace h := h.2 μ9 e10
          refine j_iast C 34 sh_34 (by decide) b11 dX8_move_43 e10 ?_
          refine j_aload_n C 0 dX8_move_44 rfl ?_
          refine j_getR C 31 12 sh_31 (by decide) cl_X8 (by decide) rfl in_X8_move_X8 lk_X8_move_23 rfl dX8_move_45 ?_
          refine j_iload_n C 1 dX8_move_48 rfl ?_
          refine j_iload_n C 3 dX8_move_49 rfl ?_
          obtain ⟨μ12, e13⟩ : ∃ m, m = wr μ9 35 (ix a1) a3 := ⟨_, rfl⟩
          have b14 := h.1
          replace h := h.2 μ12 e13
          refine j_iast C 35 sh_35 (by decide) b14 dX8_move_50 e13 ?_
          refine j_iconst (v := 1) C dX8_move_51 (by decide) ?_
          exact j_zret C hQ (by decide) (by decide) rfl h dX8_move_52
        · replace h := h.2 c15
          refine j_iconst (v := 0) C dX8_move_35 (by decide) ?_
          exact j_zret C hQ (by decide) (by decide) rfl h dX8_move_36
    · replace h := h.2 c17
      refine j_iconst (v := 0) C dX8_move_16 (by decide) ?_
      exact j_zret C hQ (by decide) (by decide) rfl h dX8_move_17
/-! X8_pieces -/
abbrev rm_X8_pieces : Room := { frames := 0, cells := 0, slots := 0, locals := 0 }
theorem in_X8_pieces_X8 : ∀ w ∈ wsX80, w ∈ wsX8_pieces := by decide +kernel
theorem lk_X8_pieces_33 : Cond.fieldLink RX8 33 "SameAgainModel" "size" "[I" ∈ wsX8_pieces := by decide +kernel
set_option maxHeartbeats 4000000 in
set_option maxRecDepth 100000 in
theorem c_X8_pieces (l : Launch) (G : Gt) (hD : Dj G) (post : Int32 → Mem → Prop) (a1 : Int32) (μ : Mem) : MI G l yX8_pieces wsX8_pieces rm_X8_pieces 0 0 [.ref (ad G 31), .int a1] μ (w_X8_pieces post a1 μ) post := by
  refine mI_of (cc := cX8_pieces) (maxL := 2) (ty := .int) (lv0 := [(0, .ref (ad G 31)), (1, .int a1)]) hD (by decide) rfl (Nat.le_of_ble_eq_true rfl) rfl ?_
  intro X Q hl C hQ h
  subst hl
  replace C : Cx G X cX8_pieces RX8 wsX8_pieces 2 rm_X8_pieces := C
  unfold w_X8_pieces at h
  refine j_aload_n C 0 dX8_pieces_0 rfl ?_
  refine j_getR C 31 15 sh_31 (by decide) cl_X8 (by decide) rfl in_X8_pieces_X8 lk_X8_pieces_33 rfl dX8_pieces_1 ?_
  refine j_iload_n C 1 dX8_pieces_4 rfl ?_
  have b1 := h.1
  replace h := h.2
  refine j_iald C 38 sh_38 (by decide) b1 dX8_pieces_5 ?_
  refine j_iconst (v := 4) C dX8_pieces_6 (by decide) ?_
  refine j_icmp_ge C 14 dX8_pieces_7 (by decide) (fun c3 => ?_) (fun c3 => ?_)
  · replace h := h.1 c3
    refine j_aload_n C 0 dX8_pieces_14 rfl ?_
    refine j_getR C 31 15 sh_31 (by decide) cl_X8 (by decide) rfl in_X8_pieces_X8 lk_X8_pieces_33 rfl dX8_pieces_15 ?_
    refine j_iload_n C 1 dX8_pieces_18 rfl ?_
    have b2 := h.1
    replace h := h.2
    refine j_iald C 38 sh_38 (by decide) b2 dX8_pieces_19 ?_
    refine j_iconst (v := 3) C dX8_pieces_20 (by decide) ?_
    refine j_isub C dX8_pieces_21 ?_
    exact j_iret C hQ (by decide) (by decide) h dX8_pieces_22
  · replace h := h.2 c3
    refine j_iconst (v := 0) C dX8_pieces_10 (by decide) ?_
    refine j_goto C 22 dX8_pieces_11 (by decide) ?_
    exact j_iret C hQ (by decide) (by decide) h dX8_pieces_22
/-! X8_nearOf -/
abbrev rm_X8_nearOf : Room := { frames := 2, cells := 0, slots := 0, locals := 48 }
set_option maxHeartbeats 4000000 in
set_option maxRecDepth 100000 in
theorem w_X8_nearOf_b73_j {G : Gt} {X : Cxt} {Q : State → Prop} (C : Cx G X cX8_nearOf RX8 wsX8_nearOf 6 rm_X8_nearOf) {post : Int32 → Mem → Prop} (hQ : RetI G X Q post .int 0 0) : ∀ (n : Nat) (v1 v2 v3 v4 v5 : Int32) (μ : Mem), itr (fun _ _ _ _ _ _ => False) (w_X8_nearOf_b73 post) n v1 v2 v3 v4 v5 μ → J G X Q 6 0 0 73 [(0, .ref (ad G 31)), (1, .int v1), (2, .int v2), (3, .int v3), (4, .int v4), (5, .int v5)] [] μ := by
  intro n
  induction n with
  | zero => intro v1 v2 v3 v4 v5 μ h; exact h.elim
  | succ n ih =>
    intro v1 v2 v3 v4 v5 μ h
    replace h : w_X8_nearOf_b73 post (itr (fun _ _ _ _ _ _ => False) (w_X8_nearOf_b73 post) n) v1 v2 v3 v4 v5 μ := h
    generalize itr (fun _ _ _ _ _ _ => False) (w_X8_nearOf_b73 post) n = k73 at ih h
    have hk73 := ih
    unfold w_X8_nearOf_b73 at h
    refine j_iload C 5 dX8_nearOf_73 rfl ?_
    refine j_aload_n C 0 dX8_nearOf_75 rfl ?_
    refine j_iload_n C 2 dX8_nearOf_76 rfl ?_
    refine j_cVI (n := 1) (rest := [.int v5]) C 31 (c_X8_pieces (xl X) G C.2.2.1 _ v2 μ) h gX8_nearOf_X8_pieces rfl ⟨rfl, rfl⟩ (by decide +kernel) ⟨by decide, by decide⟩ ⟨by decide, by decide⟩ sh_31 (by decide) cl_X8 rfl rfl (Nat.le_of_ble_eq_true rfl) dX8_nearOf_77 rfl rfl (fun r4 μ3 h => ?_)
    refine j_icmp_ge C 129 dX8_nearOf_80 (by decide) (fun c19 => ?_) (fun c19 => ?_)
    · replace h := h.1 c19
      refine j_iload C 4 dX8_nearOf_129 rfl ?_
      refine j_if_ne C 138 dX8_nearOf_131 (by decide) (fun c6 => ?_) (fun c6 => ?_)
      · replace h := h.1 c6
        refine j_sipush (v := 1000) C dX8_nearOf_138 (by decide) ?_
        refine j_iload_n C 3 dX8_nearOf_141 rfl ?_
        refine j_imul C dX8_nearOf_142 ?_
        refine j_iload C 4 dX8_nearOf_143 rfl ?_
        have b5 := h.1
        replace h := h.2
        refine j_idiv C dX8_nearOf_145 b5 ?_
        exact j_iret C hQ (by decide) (by decide) h dX8_nearOf_146
      · replace h := h.2 c6
        refine j_iconst (v := 0) C dX8_nearOf_134 (by decide) ?_
        refine j_goto C 146 dX8_nearOf_135 (by decide) ?_
        exact j_iret C hQ (by decide) (by decide) h dX8_nearOf_146
    · replace h := h.2 c19
      refine j_aload_n C 0 dX8_nearOf_83 rfl ?_
      refine j_iload_n C 2 dX8_nearOf_84 rfl ?_
      refine j_aload_n C 0 dX8_nearOf_85 rfl ?_
      refine j_iload_n C 2 dX8_nearOf_86 rfl ?_
      refine j_iload C 5 dX8_nearOf_87 rfl ?_
      refine j_cVI (n := 2) (rest := [.int v2, .ref (ad G 31)]) C 31 (c_X8_piece (xl X) G C.2.2.1 _ v2 v5 μ3) h gX8_nearOf_X8_piece rfl ⟨rfl, rfl⟩ (by decide +kernel) ⟨by decide, by decide⟩ ⟨by decide, by decide⟩ sh_31 (by decide) cl_X8 rfl rfl (Nat.le_of_ble_eq_true rfl) dX8_nearOf_89 rfl rfl (fun r8 μ7 h => ?_)
      refine j_iload C 5 dX8_nearOf_92 rfl ?_
      refine j_cVI (n := 3) (rest := []) C 31 (c_X8_has (xl X) G C.2.2.1 _ v2 r8 v5 μ7) h gX8_nearOf_X8_has rfl ⟨rfl, rfl⟩ (by decide +kernel) ⟨by decide, by decide⟩ ⟨by decide, by decide⟩ sh_31 (by decide) cl_X8 rfl rfl (Nat.le_of_ble_eq_true rfl) dX8_nearOf_94 rfl rfl (fun r10 μ9 h => ?_)
      refine j_if_ne C 123 dX8_nearOf_97 (by decide) (fun c18 => ?_) (fun c18 => ?_)
      · replace h := h.1 c18
        refine j_iinc (v := v5 + (1 : Int32)) (lv' := [(0, .ref (ad G 31)), (1, .int v1), (2, .int v2), (3, .int v3), (4, .int v4), (5, .int (v5 + (1 : Int32)))]) C 5 dX8_nearOf_123 rfl rfl (by decide) rfl rfl ?_
        refine j_goto C 73 dX8_nearOf_126 (by decide) ?_
        exact hk73 _ _ _ _ _ _ h
      · replace h := h.2 c18
        refine j_aload_n C 0 dX8_nearOf_100 rfl ?_
        refine j_iload_n C 1 dX8_nearOf_101 rfl ?_
        refine j_aload_n C 0 dX8_nearOf_102 rfl ?_
        refine j_iload_n C 2 dX8_nearOf_103 rfl ?_
        refine j_iload C 5 dX8_nearOf_104 rfl ?_
        refine j_cVI (n := 2) (rest := [.int v1, .ref (ad G 31)]) C 31 (c_X8_piece (xl X) G C.2.2.1 _ v2 v5 μ9) h gX8_nearOf_X8_piece rfl ⟨rfl, rfl⟩ (by decide +kernel) ⟨by decide, by decide⟩ ⟨by decide, by decide⟩ sh_31 (by decide) cl_X8 rfl rfl (Nat.le_of_ble_eq_true rfl) dX8_nearOf_106 rfl rfl (fun r12 μ11 h => ?_)
        refine j_aload_n C 0 dX8_nearOf_109 rfl ?_
        refine j_iload_n C 1 dX8_nearOf_110 rfl ?_
        refine j_cVI (n := 1) (rest := [.int r12, .int v1, .ref (ad G 31)]) C 31 (c_X8_pieces (xl X) G C.2.2.1 _ v1 μ11) h gX8_nearOf_X8_pieces rfl ⟨rfl, rfl⟩ (by decide +kernel) ⟨by decide, by decide⟩ ⟨by decide, by decide⟩ sh_31 (by decide) cl_X8 rfl rfl (Nat.le_of_ble_eq_true rfl) dX8_nearOf_111 rfl rfl (fun r14 μ13 h => ?_)
        refine j_cVI (n := 3) (rest := []) C 31 (c_X8_has (xl X) G C.2.2.1 _ v1 r12 r14 μ13) h gX8_nearOf_X8_has rfl ⟨rfl, rfl⟩ (by decide +kernel) ⟨by decide, by decide⟩ ⟨by decide, by decide⟩ sh_31 (by decide) cl_X8 rfl rfl (Nat.le_of_ble_eq_true rfl) dX8_nearOf_114 rfl rfl (fun r16 μ15 h => ?_)
        refine j_if_ne C 123 dX8_nearOf_117 (by decide) (fun c17 => ?_) (fun c17 => ?_)
        · replace h := h.1 c17
          refine j_iinc (v := v5 + (1 : Int32)) (lv' := [(0, .ref (ad G 31)), (1, .int v1), (2, .int v2), (3, .int v3), (4, .int v4), (5, .int (v5 + (1 : Int32)))]) C 5 dX8_nearOf_123 rfl rfl (by decide) rfl rfl ?_
          refine j_goto C 73 dX8_nearOf_126 (by decide) ?_
          exact hk73 _ _ _ _ _ _ h
        · replace h := h.2 c17
          refine j_iinc (v := v4 + (1 : Int32)) (lv' := [(0, .ref (ad G 31)), (1, .int v1), (2, .int v2), (3, .int v3), (4, .int (v4 + (1 : Int32))), (5, .int v5)]) C 4 dX8_nearOf_120 rfl rfl (by decide) rfl rfl ?_
          refine j_iinc (v := v5 + (1 : Int32)) (lv' := [(0, .ref (ad G 31)), (1, .int v1), (2, .int v2), (3, .int v3), (4, .int (v4 + (1 : Int32))), (5, .int (v5 + (1 : Int32)))]) C 5 dX8_nearOf_123 rfl rfl (by decide) rfl rfl ?_
          refine j_goto C 73 dX8_nearOf_126 (by decide) ?_
          exact hk73 _ _ _ _ _ _ h
set_option maxHeartbeats 4000000 in
set_option maxRecDepth 100000 in
theorem w_X8_nearOf_b8_j {G : Gt} {X : Cxt} {Q : State → Prop} (C : Cx G X cX8_nearOf RX8 wsX8_nearOf 6 rm_X8_nearOf) {post : Int32 → Mem → Prop} (hQ : RetI G X Q post .int 0 0) : ∀ (n : Nat) (v1 v2 v3 v4 v5 : Int32) (μ : Mem), itr (fun _ _ _ _ _ _ => False) (w_X8_nearOf_b8 post) n v1 v2 v3 v4 v5 μ → J G X Q 6 0 0 8 [(0, .ref (ad G 31)), (1, .int v1), (2, .int v2), (3, .int v3), (4, .int v4), (5, .int v5)] [] μ := by
  intro n
  induction n with
  | zero => intro v1 v2 v3 v4 v5 μ h; exact h.elim
  | succ n ih =>
    intro v1 v2 v3 v4 v5 μ h
    replace h : w_X8_nearOf_b8 post (itr (fun _ _ _ _ _ _ => False) (w_X8_nearOf_b8 post) n) v1 v2 v3 v4 v5 μ := h
    generalize itr (fun _ _ _ _ _ _ => False) (w_X8_nearOf_b8 post) n = k8 at ih h
    have hk8 := ih
    unfold w_X8_nearOf_b8 at h
    refine j_iload C 5 dX8_nearOf_8 rfl ?_
    refine j_aload_n C 0 dX8_nearOf_10 rfl ?_
    refine j_iload_n C 1 dX8_nearOf_11 rfl ?_
    refine j_cVI (n := 1) (rest := [.int v5]) C 31 (c_X8_pieces (xl X) G C.2.2.1 _ v1 μ) h gX8_nearOf_X8_pieces rfl ⟨rfl, rfl⟩ (by decide +kernel) ⟨by decide, by decide⟩ ⟨by decide, by decide⟩ sh_31 (by decide) cl_X8 rfl rfl (Nat.le_of_ble_eq_true rfl) dX8_nearOf_12 rfl rfl (fun r2 μ1 h => ?_)
    refine j_icmp_ge C 70 dX8_nearOf_15 (by decide) (fun c32 => ?_) (fun c32 => ?_)
    · replace h := h.1 c32
      refine j_iconst (v := 0) C dX8_nearOf_70 (by decide) ?_
      refine j_istore (lv' := [(0, .ref (ad G 31)), (1, .int v1), (2, .int v2), (3, .int v3), (4, .int v4), (5, .int (0 : Int32))]) C dX8_nearOf_71 (by decide) rfl rfl ?_
      obtain ⟨n9, h⟩ := h
      exact w_X8_nearOf_b73_j C hQ n9 _ _ _ _ _ _ h
    · replace h := h.2 c32
      refine j_aload_n C 0 dX8_nearOf_18 rfl ?_
      refine j_iload_n C 1 dX8_nearOf_19 rfl ?_
      refine j_aload_n C 0 dX8_nearOf_20 rfl ?_
      refine j_iload_n C 1 dX8_nearOf_21 rfl ?_
      refine j_iload C 5 dX8_nearOf_22 rfl ?_
      refine j_cVI (n := 2) (rest := [.int v1, .ref (ad G 31)]) C 31 (c_X8_piece (xl X) G C.2.2.1 _ v1 v5 μ1) h gX8_nearOf_X8_piece rfl ⟨rfl, rfl⟩ (by decide +kernel) ⟨by decide, by decide⟩ ⟨by decide, by decide⟩ sh_31 (by decide) cl_X8 rfl rfl (Nat.le_of_ble_eq_true rfl) dX8_nearOf_24 rfl rfl (fun r21 μ20 h => ?_)
      refine j_iload C 5 dX8_nearOf_27 rfl ?_
      refine j_cVI (n := 3) (rest := []) C 31 (c_X8_has (xl X) G C.2.2.1 _ v1 r21 v5 μ20) h gX8_nearOf_X8_has rfl ⟨rfl, rfl⟩ (by decide +kernel) ⟨by decide, by decide⟩ ⟨by decide, by decide⟩ sh_31 (by decide) cl_X8 rfl rfl (Nat.le_of_ble_eq_true rfl) dX8_nearOf_29 rfl rfl (fun r23 μ22 h => ?_)
      refine j_if_eq C 38 dX8_nearOf_32 (by decide) (fun c31 => ?_) (fun c31 => ?_)
      · replace h := h.1 c31
        refine j_iinc (v := v4 + (1 : Int32)) (lv' := [(0, .ref (ad G 31)), (1, .int v1), (2, .int v2), (3, .int v3), (4, .int (v4 + (1 : Int32))), (5, .int v5)]) C 4 dX8_nearOf_38 rfl rfl (by decide) rfl rfl ?_
        refine j_aload_n C 0 dX8_nearOf_41 rfl ?_
        refine j_iload_n C 2 dX8_nearOf_42 rfl ?_
        refine j_aload_n C 0 dX8_nearOf_43 rfl ?_
        refine j_iload_n C 1 dX8_nearOf_44 rfl ?_
        refine j_iload C 5 dX8_nearOf_45 rfl ?_
        refine j_cVI (n := 2) (rest := [.int v2, .ref (ad G 31)]) C 31 (c_X8_piece (xl X) G C.2.2.1 _ v1 v5 μ22) h gX8_nearOf_X8_piece rfl ⟨rfl, rfl⟩ (by decide +kernel) ⟨by decide, by decide⟩ ⟨by decide, by decide⟩ sh_31 (by decide) cl_X8 rfl rfl (Nat.le_of_ble_eq_true rfl) dX8_nearOf_47 rfl rfl (fun r25 μ24 h => ?_)
        refine j_aload_n C 0 dX8_nearOf_50 rfl ?_
        refine j_iload_n C 2 dX8_nearOf_51 rfl ?_
        refine j_cVI (n := 1) (rest := [.int r25, .int v2, .ref (ad G 31)]) C 31 (c_X8_pieces (xl X) G C.2.2.1 _ v2 μ24) h gX8_nearOf_X8_pieces rfl ⟨rfl, rfl⟩ (by decide +kernel) ⟨by decide, by decide⟩ ⟨by decide, by decide⟩ sh_31 (by decide) cl_X8 rfl rfl (Nat.le_of_ble_eq_true rfl) dX8_nearOf_52 rfl rfl (fun r27 μ26 h => ?_)
        refine j_cVI (n := 3) (rest := []) C 31 (c_X8_has (xl X) G C.2.2.1 _ v2 r25 r27 μ26) h gX8_nearOf_X8_has rfl ⟨rfl, rfl⟩ (by decide +kernel) ⟨by decide, by decide⟩ ⟨by decide, by decide⟩ sh_31 (by decide) cl_X8 rfl rfl (Nat.le_of_ble_eq_true rfl) dX8_nearOf_55 rfl rfl (fun r29 μ28 h => ?_)
        refine j_if_eq C 64 dX8_nearOf_58 (by decide) (fun c30 => ?_) (fun c30 => ?_)
        · replace h := h.1 c30
          refine j_iinc (v := v5 + (1 : Int32)) (lv' := [(0, .ref (ad G 31)), (1, .int v1), (2, .int v2), (3, .int v3), (4, .int (v4 + (1 : Int32))), (5, .int (v5 + (1 : Int32)))]) C 5 dX8_nearOf_64 rfl rfl (by decide) rfl rfl ?_
          refine j_goto C 8 dX8_nearOf_67 (by decide) ?_
          exact hk8 _ _ _ _ _ _ h
        · replace h := h.2 c30
          refine j_iinc (v := v3 + (1 : Int32)) (lv' := [(0, .ref (ad G 31)), (1, .int v1), (2, .int v2), (3, .int (v3 + (1 : Int32))), (4, .int (v4 + (1 : Int32))), (5, .int v5)]) C 3 dX8_nearOf_61 rfl rfl (by decide) rfl rfl ?_
          refine j_iinc (v := v5 + (1 : Int32)) (lv' := [(0, .ref (ad G 31)), (1, .int v1), (2, .int v2), (3, .int (v3 + (1 : Int32))), (4, .int (v4 + (1 : Int32))), (5, .int (v5 + (1 : Int32)))]) C 5 dX8_nearOf_64 rfl rfl (by decide) rfl rfl ?_
          refine j_goto C 8 dX8_nearOf_67 (by decide) ?_
          exact hk8 _ _ _ _ _ _ h
      · replace h := h.2 c31
        refine j_goto C 64 dX8_nearOf_35 (by decide) ?_
        refine j_iinc (v := v5 + (1 : Int32)) (lv' := [(0, .ref (ad G 31)), (1, .int v1), (2, .int v2), (3, .int v3), (4, .int v4), (5, .int (v5 + (1 : Int32)))]) C 5 dX8_nearOf_64 rfl rfl (by decide) rfl rfl ?_
        refine j_goto C 8 dX8_nearOf_67 (by decide) ?_
        exact hk8 _ _ _ _ _ _ h
set_option maxHeartbeats 4000000 in
set_option maxRecDepth 100000 in
theorem c_X8_nearOf (l : Launch) (G : Gt) (hD : Dj G) (post : Int32 → Mem → Prop) (a1 a2 : Int32) (μ : Mem) : MI G l yX8_nearOf wsX8_nearOf rm_X8_nearOf 0 0 [.ref (ad G 31), .int a1, .int a2] μ (w_X8_nearOf post a1 a2 μ) post := by
  refine mI_of (cc := cX8_nearOf) (maxL := 6) (ty := .int) (lv0 := [(0, .ref (ad G 31)), (1, .int a1), (2, .int a2)]) hD (by decide) rfl (Nat.le_of_ble_eq_true rfl) rfl ?_
  intro X Q hl C hQ h
  subst hl
  replace C : Cx G X cX8_nearOf RX8 wsX8_nearOf 6 rm_X8_nearOf := C
  unfold w_X8_nearOf at h
  refine j_iconst (v := 0) C dX8_nearOf_0 (by decide) ?_
  refine j_istore_n (lv' := [(0, .ref (ad G 31)), (1, .int a1), (2, .int a2), (3, .int (0 : Int32))]) C dX8_nearOf_1 (by decide) rfl rfl ?_
  refine j_iconst (v := 0) C dX8_nearOf_2 (by decide) ?_
  refine j_istore (lv' := [(0, .ref (ad G 31)), (1, .int a1), (2, .int a2), (3, .int (0 : Int32)), (4, .int (0 : Int32))]) C dX8_nearOf_3 (by decide) rfl rfl ?_
  refine j_iconst (v := 0) C dX8_nearOf_5 (by decide) ?_
  refine j_istore (lv' := [(0, .ref (ad G 31)), (1, .int a1), (2, .int a2), (3, .int (0 : Int32)), (4, .int (0 : Int32)), (5, .int (0 : Int32))]) C dX8_nearOf_6 (by decide) rfl rfl ?_
  obtain ⟨n9, h⟩ := h
  exact w_X8_nearOf_b8_j C hQ n9 _ _ _ _ _ _ h
/-! X8_near -/
abbrev rm_X8_near : Room := { frames := 3, cells := 0, slots := 0, locals := 73 }
theorem in_X8_near_X8 : ∀ w ∈ wsX80, w ∈ wsX8_near := by decide +kernel
theorem lk_X8_near_26 : Cond.fieldLink RX8 26 "SameAgainModel" "body" "[I" ∈ wsX8_near := by decide +kernel
theorem lk_X8_near_94 : Cond.fieldLink RX8 94 "SameAgainModel" "files" "I" ∈ wsX8_near := by decide +kernel
theorem lk_X8_near_20 : Cond.fieldLink RX8 20 "SameAgainModel" "in" "[I" ∈ wsX8_near := by decide +kernel
set_option maxHeartbeats 4000000 in
set_option maxRecDepth 100000 in
theorem w_X8_near_b36_j {G : Gt} {X : Cxt} {Q : State → Prop} (C : Cx G X cX8_near RX8 wsX8_near 3 rm_X8_near) {post : Int32 → Mem → Prop} (hQ : RetI G X Q post .int 0 0) {v1 v2 s0 : Int32} {μ : Mem} (h : w_X8_near_b36 post v1 v2 s0 μ) : J G X Q 3 0 0 36 [(0, .ref (ad G 31)), (1, .int v1), (2, .int v2)] [.int s0, .ref (ad G 31)] μ := by
  unfold w_X8_near_b36 at h
  refine j_iconst (v := 1) C dX8_near_36 (by decide) ?_
  refine j_cVI (n := 2) (rest := []) C 31 (c_X8_right (xl X) G C.2.2.1 _ s0 (1 : Int32) μ) h gX8_near_X8_right rfl ⟨rfl, rfl⟩ (by decide +kernel) ⟨by decide, by decide⟩ ⟨by decide, by decide⟩ sh_31 (by decide) cl_X8 rfl rfl (Nat.le_of_ble_eq_true rfl) dX8_near_37 rfl rfl (fun r4 μ3 h => ?_)
  refine j_if_eq C 62 dX8_near_40 (by decide) (fun c9 => ?_) (fun c9 => ?_)
  · replace h := h.1 c9
    refine j_iconst (v := 0) C dX8_near_62 (by decide) ?_
    exact j_iret C hQ (by decide) (by decide) h dX8_near_63
  · replace h := h.2 c9
    refine j_aload_n C 0 dX8_near_43 rfl ?_
    refine j_aload_n C 0 dX8_near_44 rfl ?_
    refine j_getR C 31 13 sh_31 (by decide) cl_X8 (by decide) rfl in_X8_near_X8 lk_X8_near_26 rfl dX8_near_45 ?_
    refine j_iload_n C 1 dX8_near_48 rfl ?_
    have b5 := h.1
    replace h := h.2
    refine j_iald C 36 sh_36 (by decide) b5 dX8_near_49 ?_
    refine j_aload_n C 0 dX8_near_50 rfl ?_
    refine j_getR C 31 13 sh_31 (by decide) cl_X8 (by decide) rfl in_X8_near_X8 lk_X8_near_26 rfl dX8_near_51 ?_
    refine j_iload_n C 2 dX8_near_54 rfl ?_
    have b6 := h.1
    replace h := h.2
    refine j_iald C 36 sh_36 (by decide) b6 dX8_near_55 ?_
    refine j_cVI (n := 2) (rest := []) C 31 (c_X8_nearOf (xl X) G C.2.2.1 _ (μ3 36 (ix v1)) (μ3 36 (ix v2)) μ3) h gX8_near_X8_nearOf rfl ⟨rfl, rfl⟩ (by decide +kernel) ⟨by decide, by decide⟩ ⟨by decide, by decide⟩ sh_31 (by decide) cl_X8 rfl rfl (Nat.le_of_ble_eq_true rfl) dX8_near_56 rfl rfl (fun r8 μ7 h => ?_)
    refine j_goto C 63 dX8_near_59 (by decide) ?_
    exact j_iret C hQ (by decide) (by decide) h dX8_near_63
set_option maxHeartbeats 4000000 in
set_option maxRecDepth 100000 in
theorem w_X8_near_b35_j {G : Gt} {X : Cxt} {Q : State → Prop} (C : Cx G X cX8_near RX8 wsX8_near 3 rm_X8_near) {post : Int32 → Mem → Prop} (hQ : RetI G X Q post .int 0 0) {v1 v2 : Int32} {μ : Mem} (h : w_X8_near_b35 post v1 v2 μ) : J G X Q 3 0 0 35 [(0, .ref (ad G 31)), (1, .int v1), (2, .int v2)] [.ref (ad G 31)] μ := by
  unfold w_X8_near_b35 at h
  refine j_iconst (v := 0) C dX8_near_35 (by decide) ?_
  exact w_X8_near_b36_j C hQ h
set_option maxHeartbeats 4000000 in
set_option maxRecDepth 100000 in
theorem c_X8_near (l : Launch) (G : Gt) (hD : Dj G) (post : Int32 → Mem → Prop) (a1 a2 : Int32) (μ : Mem) : MI G l yX8_near wsX8_near rm_X8_near 0 0 [.ref (ad G 31), .int a1, .int a2] μ (w_X8_near post a1 a2 μ) post := by
  refine mI_of (cc := cX8_near) (maxL := 3) (ty := .int) (lv0 := [(0, .ref (ad G 31)), (1, .int a1), (2, .int a2)]) hD (by decide) rfl (Nat.le_of_ble_eq_true rfl) rfl ?_
  intro X Q hl C hQ h
  subst hl
  replace C : Cx G X cX8_near RX8 wsX8_near 3 rm_X8_near := C
  unfold w_X8_near at h
  refine j_aload_n C 0 dX8_near_0 rfl ?_
  refine j_iload_n C 1 dX8_near_1 rfl ?_
  refine j_cVI (n := 1) (rest := []) C 31 (c_X8_isFile (xl X) G C.2.2.1 _ a1 μ) h gX8_near_X8_isFile rfl ⟨rfl, rfl⟩ (by decide +kernel) ⟨by decide, by decide⟩ ⟨by decide, by decide⟩ sh_31 (by decide) cl_X8 rfl rfl (Nat.le_of_ble_eq_true rfl) dX8_near_2 rfl rfl (fun r2 μ1 h => ?_)
  refine j_if_eq C 62 dX8_near_5 (by decide) (fun c14 => ?_) (fun c14 => ?_)
  · replace h := h.1 c14
    refine j_iconst (v := 0) C dX8_near_62 (by decide) ?_
    exact j_iret C hQ (by decide) (by decide) h dX8_near_63
  · replace h := h.2 c14
    refine j_aload_n C 0 dX8_near_8 rfl ?_
    refine j_iload_n C 2 dX8_near_9 rfl ?_
    refine j_if_lt C 35 dX8_near_10 (by decide) (fun c13 => ?_) (fun c13 => ?_)
    · replace h := h.1 c13
      exact w_X8_near_b35_j C hQ h
    · replace h := h.2 c13
      refine j_iload_n C 2 dX8_near_13 rfl ?_
      refine j_aload_n C 0 dX8_near_14 rfl ?_
      refine j_getI C 31 2 sh_31 (by decide) cl_X8 (by decide) rfl in_X8_near_X8 lk_X8_near_94 rfl dX8_near_15 ?_
      refine j_icmp_ge C 35 dX8_near_18 (by decide) (fun c12 => ?_) (fun c12 => ?_)
      · replace h := h.1 c12
        exact w_X8_near_b35_j C hQ h
      · replace h := h.2 c12
        refine j_aload_n C 0 dX8_near_21 rfl ?_
        refine j_getR C 31 11 sh_31 (by decide) cl_X8 (by decide) rfl in_X8_near_X8 lk_X8_near_20 rfl dX8_near_22 ?_
        refine j_iload_n C 2 dX8_near_25 rfl ?_
        have b10 := h.1
        replace h := h.2
        refine j_iald C 34 sh_34 (by decide) b10 dX8_near_26 ?_
        refine j_iconst (v := -1) C dX8_near_27 (by decide) ?_
        refine j_icmp_eq C 35 dX8_near_28 (by decide) (fun c11 => ?_) (fun c11 => ?_)
        · replace h := h.1 c11
          exact w_X8_near_b35_j C hQ h
        · replace h := h.2 c11
          refine j_iconst (v := 1) C dX8_near_31 (by decide) ?_
          refine j_goto C 36 dX8_near_32 (by decide) ?_
          exact w_X8_near_b36_j C hQ h
