/-! X2_hasGreaterOne -/
abbrev rm_X2_hasGreaterOne : Room := { frames := 0, cells := 0, slots := 0, locals := 0 }
theorem in_X2_hasGreaterOne_X2 : ∀ w ∈ wsX20, w ∈ wsX2_hasGreaterOne := by decide +kernel
theorem lk_X2_hasGreaterOne_15 : Cond.fieldLink RX2 15 "SameAgain$Findings" "heap" "[I" ∈ wsX2_hasGreaterOne := by decide +kernel
set_option maxHeartbeats 4000000 in
set_option maxRecDepth 100000 in
theorem w_X2_hasGreaterOne_b4_j {G : Gt} {X : Cxt} {Q : State → Prop} (C : Cx G X cX2_hasGreaterOne RX2 wsX2_hasGreaterOne 3 rm_X2_hasGreaterOne) {post : Int32 → Mem → Prop} (hQ : RetI G X Q post .boolean 0 0) : ∀ (n : Nat) (v1 v2 : Int32) (μ : Mem), itr (fun _ _ _ => False) (w_X2_hasGreaterOne_b4 post) n v1 v2 μ → J G X Q 3 0 0 4 [(0, .ref (ad G 4)), (1, .int v1), (2, .int v2)] [] μ := by
  intro n
  induction n with
  | zero => intro v1 v2 μ h; exact h.elim
  | succ n ih =>
    intro v1 v2 μ h
    replace h : w_X2_hasGreaterOne_b4 post (itr (fun _ _ _ => False) (w_X2_hasGreaterOne_b4 post) n) v1 v2 μ := h
    generalize itr (fun _ _ _ => False) (w_X2_hasGreaterOne_b4 post) n = k4 at ih h
    have hk4 := ih
    unfold w_X2_hasGreaterOne_b4 at h
    refine j_iload_n C 2 dX2_hasGreaterOne_4 rfl ?_
    refine j_bipush (v := 100) C dX2_hasGreaterOne_5 (by decide) ?_
    refine j_icmp_ge C 28 dX2_hasGreaterOne_7 (by decide) (fun c3 => ?_) (fun c3 => ?_)
    · replace h := h.1 c3
      refine j_iconst (v := 0) C dX2_hasGreaterOne_28 (by decide) ?_
      exact j_zret C hQ (by decide) (by decide) rfl h dX2_hasGreaterOne_29
    · replace h := h.2 c3
      refine j_aload_n C 0 dX2_hasGreaterOne_10 rfl ?_
      refine j_getR C 4 1 sh_4 (by decide) cl_X2 (by decide) rfl in_X2_hasGreaterOne_X2 lk_X2_hasGreaterOne_15 rfl dX2_hasGreaterOne_11 ?_
      refine j_iload_n C 2 dX2_hasGreaterOne_14 rfl ?_
      have b1 := h.1
      replace h := h.2
      refine j_iald C 23 sh_23 (by decide) b1 dX2_hasGreaterOne_15 ?_
      refine j_iload_n C 1 dX2_hasGreaterOne_16 rfl ?_
      refine j_icmp_ne C 22 dX2_hasGreaterOne_17 (by decide) (fun c2 => ?_) (fun c2 => ?_)
      · replace h := h.1 c2
        refine j_iinc (v := v2 + (1 : Int32)) (lv' := [(0, .ref (ad G 4)), (1, .int v1), (2, .int (v2 + (1 : Int32)))]) C 2 dX2_hasGreaterOne_22 rfl rfl (by decide) rfl rfl ?_
        refine j_goto C 4 dX2_hasGreaterOne_25 (by decide) ?_
        exact hk4 _ _ _ h
      · replace h := h.2 c2
        refine j_iconst (v := 1) C dX2_hasGreaterOne_20 (by decide) ?_
        exact j_zret C hQ (by decide) (by decide) rfl h dX2_hasGreaterOne_21
set_option maxHeartbeats 4000000 in
set_option maxRecDepth 100000 in
theorem c_X2_hasGreaterOne (l : Launch) (G : Gt) (hD : Dj G) (post : Int32 → Mem → Prop) (a1 : Int32) (μ : Mem) : MI G l yX2_hasGreaterOne wsX2_hasGreaterOne rm_X2_hasGreaterOne 0 0 [.ref (ad G 4), .int a1] μ (w_X2_hasGreaterOne post a1 μ) post := by
  refine mI_of (cc := cX2_hasGreaterOne) (maxL := 3) (ty := .boolean) (lv0 := [(0, .ref (ad G 4)), (1, .int a1)]) hD (by decide) rfl (Nat.le_of_ble_eq_true rfl) rfl ?_
  intro X Q hl C hQ h
  subst hl
  replace C : Cx G X cX2_hasGreaterOne RX2 wsX2_hasGreaterOne 3 rm_X2_hasGreaterOne := C
  unfold w_X2_hasGreaterOne at h
  refine j_iload_n C 1 dX2_hasGreaterOne_0 rfl ?_
  refine j_iconst (v := 1) C dX2_hasGreaterOne_1 (by decide) ?_
  refine j_iadd C dX2_hasGreaterOne_2 ?_
  refine j_istore_n (lv' := [(0, .ref (ad G 4)), (1, .int a1), (2, .int (a1 + (1 : Int32)))]) C dX2_hasGreaterOne_3 (by decide) rfl rfl ?_
  obtain ⟨n9, h⟩ := h
  exact w_X2_hasGreaterOne_b4_j C hQ n9 _ _ _ h
/-! X2_leastOfSize -/
abbrev rm_X2_leastOfSize : Room := { frames := 0, cells := 0, slots := 0, locals := 0 }
theorem in_X2_leastOfSize_X2 : ∀ w ∈ wsX20, w ∈ wsX2_leastOfSize := by decide +kernel
theorem lk_X2_leastOfSize_15 : Cond.fieldLink RX2 15 "SameAgain$Findings" "heap" "[I" ∈ wsX2_leastOfSize := by decide +kernel
theorem in_X2_leastOfSize_X0 : ∀ w ∈ wsX00, w ∈ wsX2_leastOfSize := by decide +kernel
theorem lk_X2_leastOfSize_47 : (RX2, 47, "SameAgain$Bodies", "size", "[I", "SameAgain") ∈ nwF := by decide +kernel
set_option maxHeartbeats 4000000 in
set_option maxRecDepth 100000 in
theorem w_X2_leastOfSize_b2_j {G : Gt} {X : Cxt} {Q : State → Prop} (C : Cx G X cX2_leastOfSize RX2 wsX2_leastOfSize 4 rm_X2_leastOfSize) {post : Int32 → Mem → Prop} (hQ : RetI G X Q post .int 0 0) : ∀ (n : Nat) (v2 v3 : Int32) (μ : Mem), itr (fun _ _ _ => False) (w_X2_leastOfSize_b2 post) n v2 v3 μ → J G X Q 4 0 0 2 [(0, .ref (ad G 4)), (1, .ref (ad G 3)), (2, .int v2), (3, .int v3)] [] μ := by
  intro n
  induction n with
  | zero => intro v2 v3 μ h; exact h.elim
  | succ n ih =>
    intro v2 v3 μ h
    replace h : w_X2_leastOfSize_b2 post (itr (fun _ _ _ => False) (w_X2_leastOfSize_b2 post) n) v2 v3 μ := h
    generalize itr (fun _ _ _ => False) (w_X2_leastOfSize_b2 post) n = k2 at ih h
    have hk2 := ih
    unfold w_X2_leastOfSize_b2 at h
    refine j_iload_n C 3 dX2_leastOfSize_2 rfl ?_
    refine j_iload_n C 2 dX2_leastOfSize_3 rfl ?_
    refine j_icmp_ge C 40 dX2_leastOfSize_4 (by decide) (fun c6 => ?_) (fun c6 => ?_)
    · replace h := h.1 c6
      refine j_iload_n C 2 dX2_leastOfSize_40 rfl ?_
      exact j_iret C hQ (by decide) (by decide) h dX2_leastOfSize_41
    · replace h := h.2 c6
      refine j_aload_n C 0 dX2_leastOfSize_7 rfl ?_
      refine j_getR C 4 1 sh_4 (by decide) cl_X2 (by decide) rfl in_X2_leastOfSize_X2 lk_X2_leastOfSize_15 rfl dX2_leastOfSize_8 ?_
      refine j_iload_n C 3 dX2_leastOfSize_11 rfl ?_
      have b1 := h.1
      replace h := h.2
      refine j_iald C 23 sh_23 (by decide) b1 dX2_leastOfSize_12 ?_
      refine j_iconst (v := -1) C dX2_leastOfSize_13 (by decide) ?_
      refine j_icmp_eq C 34 dX2_leastOfSize_14 (by decide) (fun c5 => ?_) (fun c5 => ?_)
      · replace h := h.1 c5
        refine j_iinc (v := v3 + (1 : Int32)) (lv' := [(0, .ref (ad G 4)), (1, .ref (ad G 3)), (2, .int v2), (3, .int (v3 + (1 : Int32)))]) C 3 dX2_leastOfSize_34 rfl rfl (by decide) rfl rfl ?_
        refine j_goto C 2 dX2_leastOfSize_37 (by decide) ?_
        exact hk2 _ _ _ h
      · replace h := h.2 c5
        refine j_aload_n C 1 dX2_leastOfSize_17 rfl ?_
        refine j_getRN C 3 1 sh_3 (by decide) cl_X0 (by decide) rfl in_X2_leastOfSize_X0 lk_X2_leastOfSize_47 rfl dX2_leastOfSize_18 ?_
        refine j_iload_n C 3 dX2_leastOfSize_21 rfl ?_
        have b2 := h.1
        replace h := h.2
        refine j_iald C 19 sh_19 (by decide) b2 dX2_leastOfSize_22 ?_
        refine j_aload_n C 1 dX2_leastOfSize_23 rfl ?_
        refine j_getRN C 3 1 sh_3 (by decide) cl_X0 (by decide) rfl in_X2_leastOfSize_X0 lk_X2_leastOfSize_47 rfl dX2_leastOfSize_24 ?_
        refine j_iload_n C 2 dX2_leastOfSize_27 rfl ?_
        have b3 := h.1
        replace h := h.2
        refine j_iald C 19 sh_19 (by decide) b3 dX2_leastOfSize_28 ?_
        refine j_icmp_ne C 34 dX2_leastOfSize_29 (by decide) (fun c4 => ?_) (fun c4 => ?_)
        · replace h := h.1 c4
          refine j_iinc (v := v3 + (1 : Int32)) (lv' := [(0, .ref (ad G 4)), (1, .ref (ad G 3)), (2, .int v2), (3, .int (v3 + (1 : Int32)))]) C 3 dX2_leastOfSize_34 rfl rfl (by decide) rfl rfl ?_
          refine j_goto C 2 dX2_leastOfSize_37 (by decide) ?_
          exact hk2 _ _ _ h
        · replace h := h.2 c4
          refine j_iload_n C 3 dX2_leastOfSize_32 rfl ?_
          exact j_iret C hQ (by decide) (by decide) h dX2_leastOfSize_33
set_option maxHeartbeats 4000000 in
set_option maxRecDepth 100000 in
theorem c_X2_leastOfSize (l : Launch) (G : Gt) (hD : Dj G) (post : Int32 → Mem → Prop) (a2 : Int32) (μ : Mem) : MI G l yX2_leastOfSize wsX2_leastOfSize rm_X2_leastOfSize 0 0 [.ref (ad G 4), .ref (ad G 3), .int a2] μ (w_X2_leastOfSize post a2 μ) post := by
  refine mI_of (cc := cX2_leastOfSize) (maxL := 4) (ty := .int) (lv0 := [(0, .ref (ad G 4)), (1, .ref (ad G 3)), (2, .int a2)]) hD (by decide) rfl (Nat.le_of_ble_eq_true rfl) rfl ?_
  intro X Q hl C hQ h
  subst hl
  replace C : Cx G X cX2_leastOfSize RX2 wsX2_leastOfSize 4 rm_X2_leastOfSize := C
  unfold w_X2_leastOfSize at h
  refine j_iconst (v := 0) C dX2_leastOfSize_0 (by decide) ?_
  refine j_istore_n (lv' := [(0, .ref (ad G 4)), (1, .ref (ad G 3)), (2, .int a2), (3, .int (0 : Int32))]) C dX2_leastOfSize_1 (by decide) rfl rfl ?_
  obtain ⟨n9, h⟩ := h
  exact w_X2_leastOfSize_b2_j C hQ n9 _ _ _ h
/-! X2_leaveOutLoneOnes -/
abbrev rm_X2_leaveOutLoneOnes : Room := { frames := 1, cells := 0, slots := 0, locals := 22 }
theorem in_X2_leaveOutLoneOnes_X2 : ∀ w ∈ wsX20, w ∈ wsX2_leaveOutLoneOnes := by decide +kernel
theorem lk_X2_leaveOutLoneOnes_15 : Cond.fieldLink RX2 15 "SameAgain$Findings" "heap" "[I" ∈ wsX2_leaveOutLoneOnes := by decide +kernel
set_option maxHeartbeats 4000000 in
set_option maxRecDepth 100000 in
theorem w_X2_leaveOutLoneOnes_b2_j {G : Gt} {X : Cxt} {Q : State → Prop} (C : Cx G X cX2_leaveOutLoneOnes RX2 wsX2_leaveOutLoneOnes 2 rm_X2_leaveOutLoneOnes) {post : Mem → Prop} (hQ : RetV G X Q post 0 0) : ∀ (n : Nat) (v1 : Int32) (μ : Mem), itr (fun _ _ => False) (w_X2_leaveOutLoneOnes_b2 post) n v1 μ → J G X Q 2 0 0 2 [(0, .ref (ad G 4)), (1, .int v1)] [] μ := by
  intro n
  induction n with
  | zero => intro v1 μ h; exact h.elim
  | succ n ih =>
    intro v1 μ h
    replace h : w_X2_leaveOutLoneOnes_b2 post (itr (fun _ _ => False) (w_X2_leaveOutLoneOnes_b2 post) n) v1 μ := h
    generalize itr (fun _ _ => False) (w_X2_leaveOutLoneOnes_b2 post) n = k2 at ih h
    have hk2 := ih
    unfold w_X2_leaveOutLoneOnes_b2 at h
    refine j_iload_n C 1 dX2_leaveOutLoneOnes_2 rfl ?_
    refine j_bipush (v := 100) C dX2_leaveOutLoneOnes_3 (by decide) ?_
    refine j_icmp_ge C 39 dX2_leaveOutLoneOnes_5 (by decide) (fun c9 => ?_) (fun c9 => ?_)
    · replace h := h.1 c9
      exact j_vret C hQ (by decide) (by decide) h dX2_leaveOutLoneOnes_39
    · replace h := h.2 c9
      refine j_aload_n C 0 dX2_leaveOutLoneOnes_8 rfl ?_
      refine j_getR C 4 1 sh_4 (by decide) cl_X2 (by decide) rfl in_X2_leaveOutLoneOnes_X2 lk_X2_leaveOutLoneOnes_15 rfl dX2_leaveOutLoneOnes_9 ?_
      refine j_iload_n C 1 dX2_leaveOutLoneOnes_12 rfl ?_
      have b1 := h.1
      replace h := h.2
      refine j_iald C 23 sh_23 (by decide) b1 dX2_leaveOutLoneOnes_13 ?_
      refine j_iload_n C 1 dX2_leaveOutLoneOnes_14 rfl ?_
      refine j_icmp_ne C 33 dX2_leaveOutLoneOnes_15 (by decide) (fun c8 => ?_) (fun c8 => ?_)
      · replace h := h.1 c8
        refine j_iinc (v := v1 + (1 : Int32)) (lv' := [(0, .ref (ad G 4)), (1, .int (v1 + (1 : Int32)))]) C 1 dX2_leaveOutLoneOnes_33 rfl rfl (by decide) rfl rfl ?_
        refine j_goto C 2 dX2_leaveOutLoneOnes_36 (by decide) ?_
        exact hk2 _ _ h
      · replace h := h.2 c8
        refine j_aload_n C 0 dX2_leaveOutLoneOnes_18 rfl ?_
        refine j_iload_n C 1 dX2_leaveOutLoneOnes_19 rfl ?_
        refine j_cVI (n := 1) (rest := []) C 4 (c_X2_hasGreaterOne (xl X) G C.2.2.1 _ v1 μ) h gX2_leaveOutLoneOnes_X2_hasGreaterOne rfl ⟨rfl, rfl⟩ (by decide +kernel) ⟨by decide, by decide⟩ ⟨by decide, by decide⟩ sh_4 (by decide) cl_X2 rfl rfl (Nat.le_of_ble_eq_true rfl) dX2_leaveOutLoneOnes_20 rfl rfl (fun r3 μ2 h => ?_)
        refine j_if_ne C 33 dX2_leaveOutLoneOnes_23 (by decide) (fun c7 => ?_) (fun c7 => ?_)
        · replace h := h.1 c7
          refine j_iinc (v := v1 + (1 : Int32)) (lv' := [(0, .ref (ad G 4)), (1, .int (v1 + (1 : Int32)))]) C 1 dX2_leaveOutLoneOnes_33 rfl rfl (by decide) rfl rfl ?_
          refine j_goto C 2 dX2_leaveOutLoneOnes_36 (by decide) ?_
          exact hk2 _ _ h
        · replace h := h.2 c7
          refine j_aload_n C 0 dX2_leaveOutLoneOnes_26 rfl ?_
          refine j_getR C 4 1 sh_4 (by decide) cl_X2 (by decide) rfl in_X2_leaveOutLoneOnes_X2 lk_X2_leaveOutLoneOnes_15 rfl dX2_leaveOutLoneOnes_27 ?_
          refine j_iload_n C 1 dX2_leaveOutLoneOnes_30 rfl ?_
          refine j_iconst (v := -1) C dX2_leaveOutLoneOnes_31 (by decide) ?_
          obtain ⟨μ4, e5⟩ : ∃ m, m = wr μ2 23 (ix v1) (-1 : Int32) := ⟨_, rfl⟩
          have b6 := h.1
          replace h := h.2 μ4 e5
          refine j_iast C 23 sh_23 (by decide) b6 dX2_leaveOutLoneOnes_32 e5 ?_
          refine j_iinc (v := v1 + (1 : Int32)) (lv' := [(0, .ref (ad G 4)), (1, .int (v1 + (1 : Int32)))]) C 1 dX2_leaveOutLoneOnes_33 rfl rfl (by decide) rfl rfl ?_
          refine j_goto C 2 dX2_leaveOutLoneOnes_36 (by decide) ?_
          exact hk2 _ _ h
set_option maxHeartbeats 4000000 in
set_option maxRecDepth 100000 in
theorem c_X2_leaveOutLoneOnes (l : Launch) (G : Gt) (hD : Dj G) (post : Mem → Prop) (μ : Mem) : MV G l yX2_leaveOutLoneOnes wsX2_leaveOutLoneOnes rm_X2_leaveOutLoneOnes 0 0 [.ref (ad G 4)] μ (w_X2_leaveOutLoneOnes post μ) post := by
  refine mV_of (cc := cX2_leaveOutLoneOnes) (maxL := 2) (lv0 := [(0, .ref (ad G 4))]) hD (by decide) rfl (Nat.le_of_ble_eq_true rfl) rfl ?_
  intro X Q hl C hQ h
  subst hl
  replace C : Cx G X cX2_leaveOutLoneOnes RX2 wsX2_leaveOutLoneOnes 2 rm_X2_leaveOutLoneOnes := C
  unfold w_X2_leaveOutLoneOnes at h
  refine j_iconst (v := 0) C dX2_leaveOutLoneOnes_0 (by decide) ?_
  refine j_istore_n (lv' := [(0, .ref (ad G 4)), (1, .int (0 : Int32))]) C dX2_leaveOutLoneOnes_1 (by decide) rfl rfl ?_
  obtain ⟨n9, h⟩ := h
  exact w_X2_leaveOutLoneOnes_b2_j C hQ n9 _ _ h
/-! X2_heapBySize -/
abbrev rm_X2_heapBySize : Room := { frames := 2, cells := 0, slots := 0, locals := 43 }
theorem in_X2_heapBySize_X2 : ∀ w ∈ wsX20, w ∈ wsX2_heapBySize := by decide +kernel
theorem lk_X2_heapBySize_15 : Cond.fieldLink RX2 15 "SameAgain$Findings" "heap" "[I" ∈ wsX2_heapBySize := by decide +kernel
theorem in_X2_heapBySize_X0 : ∀ w ∈ wsX00, w ∈ wsX2_heapBySize := by decide +kernel
theorem lk_X2_heapBySize_42 : (RX2, 42, "SameAgain$Bodies", "made", "I", "SameAgain") ∈ nwF := by decide +kernel
theorem lk_X2_heapBySize_47 : (RX2, 47, "SameAgain$Bodies", "size", "[I", "SameAgain") ∈ nwF := by decide +kernel
theorem wd_X2_heapBySize_ini_X1 : Cond.initialized RX1 ∈ wsX2_heapBySize := by decide +kernel
theorem wd_X2_heapBySize_im_X1_having : Cond.instanceMethod yX1_having ∈ wsX2_heapBySize := by decide +kernel
theorem wd_X2_heapBySize_se_X1_having : Cond.selects RX1 yX1_having yX1_having ∈ wsX2_heapBySize := by decide +kernel
theorem nm_X2_heapBySize_50 : (RX2, 50, yX1_having, "SameAgain") ∈ nwM := by decide +kernel
set_option maxHeartbeats 4000000 in
set_option maxRecDepth 100000 in
theorem w_X2_heapBySize_b10_j {G : Gt} {X : Cxt} {Q : State → Prop} (C : Cx G X cX2_heapBySize RX2 wsX2_heapBySize 4 rm_X2_heapBySize) {post : Mem → Prop} (hQ : RetV G X Q post 0 0) : ∀ (n : Nat) (v3 : Int32) (μ : Mem), itr (fun _ _ => False) (w_X2_heapBySize_b10 post) n v3 μ → J G X Q 4 0 0 10 [(0, .ref (ad G 4)), (1, .ref (ad G 2)), (2, .ref (ad G 3)), (3, .int v3)] [] μ := by
  intro n
  induction n with
  | zero => intro v3 μ h; exact h.elim
  | succ n ih =>
    intro v3 μ h
    replace h : w_X2_heapBySize_b10 post (itr (fun _ _ => False) (w_X2_heapBySize_b10 post) n) v3 μ := h
    generalize itr (fun _ _ => False) (w_X2_heapBySize_b10 post) n = k10 at ih h
    have hk10 := ih
    unfold w_X2_heapBySize_b10 at h
    refine j_iload_n C 3 dX2_heapBySize_10 rfl ?_
    refine j_aload_n C 2 dX2_heapBySize_11 rfl ?_
    refine j_getIN C 3 4 sh_3 (by decide) cl_X0 (by decide) rfl in_X2_heapBySize_X0 lk_X2_heapBySize_42 rfl dX2_heapBySize_12 ?_
    refine j_icmp_ge C 53 dX2_heapBySize_15 (by decide) (fun c14 => ?_) (fun c14 => ?_)
    · replace h := h.1 c14
      refine j_aload_n C 0 dX2_heapBySize_53 rfl ?_
      refine j_cVV (n := 0) (rest := []) C 4 (c_X2_leaveOutLoneOnes (xl X) G C.2.2.1 _ μ) h gX2_heapBySize_X2_leaveOutLoneOnes rfl ⟨rfl, rfl⟩ (by decide +kernel) ⟨by decide, by decide⟩ ⟨by decide, by decide⟩ sh_4 (by decide) cl_X2 rfl rfl (Nat.le_of_ble_eq_true rfl) dX2_heapBySize_54 rfl rfl (fun μ3 h => ?_)
      exact j_vret C hQ (by decide) (by decide) h dX2_heapBySize_57
    · replace h := h.2 c14
      refine j_aload_n C 2 dX2_heapBySize_18 rfl ?_
      refine j_getRN C 3 1 sh_3 (by decide) cl_X0 (by decide) rfl in_X2_heapBySize_X0 lk_X2_heapBySize_47 rfl dX2_heapBySize_19 ?_
      refine j_iload_n C 3 dX2_heapBySize_22 rfl ?_
      have b4 := h.1
      replace h := h.2
      refine j_iald C 19 sh_19 (by decide) b4 dX2_heapBySize_23 ?_
      refine j_if_le C 47 dX2_heapBySize_24 (by decide) (fun c13 => ?_) (fun c13 => ?_)
      · replace h := h.1 c13
        refine j_iinc (v := v3 + (1 : Int32)) (lv' := [(0, .ref (ad G 4)), (1, .ref (ad G 2)), (2, .ref (ad G 3)), (3, .int (v3 + (1 : Int32)))]) C 3 dX2_heapBySize_47 rfl rfl (by decide) rfl rfl ?_
        refine j_goto C 10 dX2_heapBySize_50 (by decide) ?_
        exact hk10 _ _ h
      · replace h := h.2 c13
        refine j_aload_n C 1 dX2_heapBySize_27 rfl ?_
        refine j_iload_n C 3 dX2_heapBySize_28 rfl ?_
        refine j_cNI (n := 1) (rest := []) C 2 (c_X1_having (xl X) G C.2.2.1 _ v3 μ) h gX2_heapBySize_X1_having_n50 nm_X2_heapBySize_50 wd_X2_heapBySize_ini_X1 wd_X2_heapBySize_im_X1_having wd_X2_heapBySize_se_X1_having rfl ⟨rfl, rfl⟩ (by decide +kernel) ⟨by decide, by decide⟩ ⟨by decide, by decide⟩ sh_2 (by decide) cl_X1 rfl rfl (Nat.le_of_ble_eq_true rfl) dX2_heapBySize_29 rfl rfl (fun r6 μ5 h => ?_)
        refine j_if_le C 47 dX2_heapBySize_32 (by decide) (fun c12 => ?_) (fun c12 => ?_)
        · replace h := h.1 c12
          refine j_iinc (v := v3 + (1 : Int32)) (lv' := [(0, .ref (ad G 4)), (1, .ref (ad G 2)), (2, .ref (ad G 3)), (3, .int (v3 + (1 : Int32)))]) C 3 dX2_heapBySize_47 rfl rfl (by decide) rfl rfl ?_
          refine j_goto C 10 dX2_heapBySize_50 (by decide) ?_
          exact hk10 _ _ h
        · replace h := h.2 c12
          refine j_aload_n C 0 dX2_heapBySize_35 rfl ?_
          refine j_getR C 4 1 sh_4 (by decide) cl_X2 (by decide) rfl in_X2_heapBySize_X2 lk_X2_heapBySize_15 rfl dX2_heapBySize_36 ?_
          refine j_iload_n C 3 dX2_heapBySize_39 rfl ?_
          refine j_aload_n C 0 dX2_heapBySize_40 rfl ?_
          refine j_aload_n C 2 dX2_heapBySize_41 rfl ?_
          refine j_iload_n C 3 dX2_heapBySize_42 rfl ?_
          refine j_cVI (n := 2) (rest := [.int v3, .ref (ad G 23)]) C 4 (c_X2_leastOfSize (xl X) G C.2.2.1 _ v3 μ5) h gX2_heapBySize_X2_leastOfSize rfl ⟨rfl, rfl⟩ (by decide +kernel) ⟨by decide, by decide⟩ ⟨by decide, by decide⟩ sh_4 (by decide) cl_X2 rfl rfl (Nat.le_of_ble_eq_true rfl) dX2_heapBySize_43 rfl rfl (fun r8 μ7 h => ?_)
          obtain ⟨μ9, e10⟩ : ∃ m, m = wr μ7 23 (ix v3) r8 := ⟨_, rfl⟩
          have b11 := h.1
          replace h := h.2 μ9 e10
          refine j_iast C 23 sh_23 (by decide) b11 dX2_heapBySize_46 e10 ?_
          refine j_iinc (v := v3 + (1 : Int32)) (lv' := [(0, .ref (ad G 4)), (1, .ref (ad G 2)), (2, .ref (ad G 3)), (3, .int (v3 + (1 : Int32)))]) C 3 dX2_heapBySize_47 rfl rfl (by decide) rfl rfl ?_
          refine j_goto C 10 dX2_heapBySize_50 (by decide) ?_
          exact hk10 _ _ h
set_option maxHeartbeats 4000000 in
set_option maxRecDepth 100000 in
theorem c_X2_heapBySize (l : Launch) (G : Gt) (hD : Dj G) (post : Mem → Prop) (μ : Mem) : MV G l yX2_heapBySize wsX2_heapBySize rm_X2_heapBySize 0 0 [.ref (ad G 4), .ref (ad G 2), .ref (ad G 3)] μ (w_X2_heapBySize post μ) post := by
  refine mV_of (cc := cX2_heapBySize) (maxL := 4) (lv0 := [(0, .ref (ad G 4)), (1, .ref (ad G 2)), (2, .ref (ad G 3))]) hD (by decide) rfl (Nat.le_of_ble_eq_true rfl) rfl ?_
  intro X Q hl C hQ h
  subst hl
  replace C : Cx G X cX2_heapBySize RX2 wsX2_heapBySize 4 rm_X2_heapBySize := C
  unfold w_X2_heapBySize at h
  refine j_aload_n C 0 dX2_heapBySize_0 rfl ?_
  refine j_getR C 4 1 sh_4 (by decide) cl_X2 (by decide) rfl in_X2_heapBySize_X2 lk_X2_heapBySize_15 rfl dX2_heapBySize_1 ?_
  refine j_iconst (v := -1) C dX2_heapBySize_4 (by decide) ?_
  refine j_cSV (n := 2) (rest := []) C (c_fill (xl X) G C.2.2.1 _ 23 100 sh_23 (by decide) (-1 : Int32) μ) h gX2_heapBySize_J7_fill_53178 rfl ⟨rfl, rfl⟩ (by decide +kernel) ⟨by decide, by decide⟩ ⟨by decide, by decide⟩ rfl rfl (Nat.le_of_ble_eq_true rfl) dX2_heapBySize_5 rfl rfl (fun μ1 h => ?_)
  refine j_iconst (v := 0) C dX2_heapBySize_8 (by decide) ?_
  refine j_istore_n (lv' := [(0, .ref (ad G 4)), (1, .ref (ad G 2)), (2, .ref (ad G 3)), (3, .int (0 : Int32))]) C dX2_heapBySize_9 (by decide) rfl rfl ?_
  obtain ⟨n9, h⟩ := h
  exact w_X2_heapBySize_b10_j C hQ n9 _ _ h
/-! X2_leastOfBlock -/
abbrev rm_X2_leastOfBlock : Room := { frames := 2, cells := 0, slots := 0, locals := 47 }
theorem in_X2_leastOfBlock_X0 : ∀ w ∈ wsX00, w ∈ wsX2_leastOfBlock := by decide +kernel
theorem lk_X2_leastOfBlock_47 : (RX2, 47, "SameAgain$Bodies", "size", "[I", "SameAgain") ∈ nwF := by decide +kernel
theorem wd_X2_leastOfBlock_min73 : Cond.methodLink RX2 73 Lib.Math.min.name ∈ wsX2_leastOfBlock := by decide +kernel
theorem wd_X2_leastOfBlock_mst : Cond.static Lib.Math.min.name ∈ wsX2_leastOfBlock := by decide +kernel
theorem wd_X2_leastOfBlock_mini : Cond.initialized "java/lang/Math" ∈ wsX2_leastOfBlock := by decide +kernel
theorem wd_X2_leastOfBlock_mcode : Cond.code Lib.Math.min.name Lib.Math.min.code 2 (some .int) ∈ wsX2_leastOfBlock := by decide +kernel
theorem in_X2_leastOfBlock_X2 : ∀ w ∈ wsX20, w ∈ wsX2_leastOfBlock := by decide +kernel
theorem lk_X2_leastOfBlock_18 : Cond.fieldLink RX2 18 "SameAgain$Findings" "heapBefore" "[I" ∈ wsX2_leastOfBlock := by decide +kernel
theorem wd_X2_leastOfBlock_ini_X0 : Cond.initialized RX0 ∈ wsX2_leastOfBlock := by decide +kernel
theorem wd_X2_leastOfBlock_im_X0_areAlikeWithin : Cond.instanceMethod yX0_areAlikeWithin ∈ wsX2_leastOfBlock := by decide +kernel
theorem wd_X2_leastOfBlock_se_X0_areAlikeWithin : Cond.selects RX0 yX0_areAlikeWithin yX0_areAlikeWithin ∈ wsX2_leastOfBlock := by decide +kernel
theorem nm_X2_leastOfBlock_79 : (RX2, 79, yX0_areAlikeWithin, "SameAgain") ∈ nwM := by decide +kernel
set_option maxHeartbeats 4000000 in
set_option maxRecDepth 100000 in
theorem w_X2_leastOfBlock_b23_j {G : Gt} {X : Cxt} {Q : State → Prop} (C : Cx G X cX2_leastOfBlock RX2 wsX2_leastOfBlock 6 rm_X2_leastOfBlock) {post : Int32 → Mem → Prop} (hQ : RetI G X Q post .int 0 0) : ∀ (n : Nat) (v2 v3 v4 v5 : Int32) (μ : Mem), itr (fun _ _ _ _ _ => False) (w_X2_leastOfBlock_b23 post) n v2 v3 v4 v5 μ → J G X Q 6 0 0 23 [(0, .ref (ad G 4)), (1, .ref (ad G 3)), (2, .int v2), (3, .int v3), (4, .int v4), (5, .int v5)] [] μ := by
  intro n
  induction n with
  | zero => intro v2 v3 v4 v5 μ h; exact h.elim
  | succ n ih =>
    intro v2 v3 v4 v5 μ h
    replace h : w_X2_leastOfBlock_b23 post (itr (fun _ _ _ _ _ => False) (w_X2_leastOfBlock_b23 post) n) v2 v3 v4 v5 μ := h
    generalize itr (fun _ _ _ _ _ => False) (w_X2_leastOfBlock_b23 post) n = k23 at ih h
    have hk23 := ih
    unfold w_X2_leastOfBlock_b23 at h
    refine j_iload C 5 dX2_leastOfBlock_23 rfl ?_
    refine j_iload_n C 2 dX2_leastOfBlock_25 rfl ?_
    refine j_icmp_ge C 67 dX2_leastOfBlock_26 (by decide) (fun c9 => ?_) (fun c9 => ?_)
    · replace h := h.1 c9
      refine j_iload_n C 2 dX2_leastOfBlock_67 rfl ?_
      exact j_iret C hQ (by decide) (by decide) h dX2_leastOfBlock_68
    · replace h := h.2 c9
      refine j_aload_n C 0 dX2_leastOfBlock_29 rfl ?_
      refine j_getR C 4 2 sh_4 (by decide) cl_X2 (by decide) rfl in_X2_leastOfBlock_X2 lk_X2_leastOfBlock_18 rfl dX2_leastOfBlock_30 ?_
      refine j_iload C 5 dX2_leastOfBlock_33 rfl ?_
      have b3 := h.1
      replace h := h.2
      refine j_iald C 24 sh_24 (by decide) b3 dX2_leastOfBlock_35 ?_
      refine j_aload_n C 0 dX2_leastOfBlock_36 rfl ?_
      refine j_getR C 4 2 sh_4 (by decide) cl_X2 (by decide) rfl in_X2_leastOfBlock_X2 lk_X2_leastOfBlock_18 rfl dX2_leastOfBlock_37 ?_
      refine j_iload_n C 2 dX2_leastOfBlock_40 rfl ?_
      have b4 := h.1
      replace h := h.2
      refine j_iald C 24 sh_24 (by decide) b4 dX2_leastOfBlock_41 ?_
      refine j_icmp_ne C 61 dX2_leastOfBlock_42 (by decide) (fun c8 => ?_) (fun c8 => ?_)
      · replace h := h.1 c8
        refine j_iinc (v := v5 + (1 : Int32)) (lv' := [(0, .ref (ad G 4)), (1, .ref (ad G 3)), (2, .int v2), (3, .int v3), (4, .int v4), (5, .int (v5 + (1 : Int32)))]) C 5 dX2_leastOfBlock_61 rfl rfl (by decide) rfl rfl ?_
        refine j_goto C 23 dX2_leastOfBlock_64 (by decide) ?_
        exact hk23 _ _ _ _ _ h
      · replace h := h.2 c8
        refine j_aload_n C 1 dX2_leastOfBlock_45 rfl ?_
        refine j_iload C 5 dX2_leastOfBlock_46 rfl ?_
        refine j_iload_n C 2 dX2_leastOfBlock_48 rfl ?_
        refine j_iload_n C 3 dX2_leastOfBlock_49 rfl ?_
        refine j_iload C 4 dX2_leastOfBlock_50 rfl ?_
        refine j_cNI (n := 4) (rest := []) C 3 (c_X0_areAlikeWithin (xl X) G C.2.2.1 _ v5 v2 v3 v4 μ) h gX2_leastOfBlock_X0_areAlikeWithin_n79 nm_X2_leastOfBlock_79 wd_X2_leastOfBlock_ini_X0 wd_X2_leastOfBlock_im_X0_areAlikeWithin wd_X2_leastOfBlock_se_X0_areAlikeWithin rfl ⟨rfl, rfl⟩ (by decide +kernel) ⟨by decide, by decide⟩ ⟨by decide, by decide⟩ sh_3 (by decide) cl_X0 rfl rfl (Nat.le_of_ble_eq_true rfl) dX2_leastOfBlock_52 rfl rfl (fun r6 μ5 h => ?_)
        refine j_if_eq C 61 dX2_leastOfBlock_55 (by decide) (fun c7 => ?_) (fun c7 => ?_)
        · replace h := h.1 c7
          refine j_iinc (v := v5 + (1 : Int32)) (lv' := [(0, .ref (ad G 4)), (1, .ref (ad G 3)), (2, .int v2), (3, .int v3), (4, .int v4), (5, .int (v5 + (1 : Int32)))]) C 5 dX2_leastOfBlock_61 rfl rfl (by decide) rfl rfl ?_
          refine j_goto C 23 dX2_leastOfBlock_64 (by decide) ?_
          exact hk23 _ _ _ _ _ h
        · replace h := h.2 c7
          refine j_iload C 5 dX2_leastOfBlock_58 rfl ?_
          exact j_iret C hQ (by decide) (by decide) h dX2_leastOfBlock_60
set_option maxHeartbeats 4000000 in
set_option maxRecDepth 100000 in
theorem c_X2_leastOfBlock (l : Launch) (G : Gt) (hD : Dj G) (post : Int32 → Mem → Prop) (a2 a3 : Int32) (μ : Mem) : MI G l yX2_leastOfBlock wsX2_leastOfBlock rm_X2_leastOfBlock 0 0 [.ref (ad G 4), .ref (ad G 3), .int a2, .int a3] μ (w_X2_leastOfBlock post a2 a3 μ) post := by
  refine mI_of (cc := cX2_leastOfBlock) (maxL := 6) (ty := .int) (lv0 := [(0, .ref (ad G 4)), (1, .ref (ad G 3)), (2, .int a2), (3, .int a3)]) hD (by decide) rfl (Nat.le_of_ble_eq_true rfl) rfl ?_
  intro X Q hl C hQ h
  subst hl
  replace C : Cx G X cX2_leastOfBlock RX2 wsX2_leastOfBlock 6 rm_X2_leastOfBlock := C
  unfold w_X2_leastOfBlock at h
  refine j_iload_n C 3 dX2_leastOfBlock_0 rfl ?_
  refine j_bipush (v := 8) C dX2_leastOfBlock_1 (by decide) ?_
  refine j_iadd C dX2_leastOfBlock_3 ?_
  refine j_aload_n C 1 dX2_leastOfBlock_4 rfl ?_
  refine j_getRN C 3 1 sh_3 (by decide) cl_X0 (by decide) rfl in_X2_leastOfBlock_X0 lk_X2_leastOfBlock_47 rfl dX2_leastOfBlock_5 ?_
  refine j_iload_n C 2 dX2_leastOfBlock_8 rfl ?_
  have b1 := h.1
  replace h := h.2
  refine j_iald C 19 sh_19 (by decide) b1 dX2_leastOfBlock_9 ?_
  refine j_min C wd_X2_leastOfBlock_min73 wd_X2_leastOfBlock_mst wd_X2_leastOfBlock_mini wd_X2_leastOfBlock_mcode (by decide) (Nat.le_of_ble_eq_true rfl) (by decide) (by decide) dX2_leastOfBlock_10 ?_
  refine j_istore (lv' := [(0, .ref (ad G 4)), (1, .ref (ad G 3)), (2, .int a2), (3, .int a3), (4, .int (if (μ 19 (ix a2)) < (a3 + (8 : Int32)) then (μ 19 (ix a2)) else (a3 + (8 : Int32))))]) C dX2_leastOfBlock_13 (by decide) rfl rfl ?_
  refine j_aload_n C 0 dX2_leastOfBlock_15 rfl ?_
  refine j_getR C 4 2 sh_4 (by decide) cl_X2 (by decide) rfl in_X2_leastOfBlock_X2 lk_X2_leastOfBlock_18 rfl dX2_leastOfBlock_16 ?_
  refine j_iload_n C 2 dX2_leastOfBlock_19 rfl ?_
  have b2 := h.1
  replace h := h.2
  refine j_iald C 24 sh_24 (by decide) b2 dX2_leastOfBlock_20 ?_
  refine j_istore (lv' := [(0, .ref (ad G 4)), (1, .ref (ad G 3)), (2, .int a2), (3, .int a3), (4, .int (if (μ 19 (ix a2)) < (a3 + (8 : Int32)) then (μ 19 (ix a2)) else (a3 + (8 : Int32)))), (5, .int (μ 24 (ix a2)))]) C dX2_leastOfBlock_21 (by decide) rfl rfl ?_
  obtain ⟨n9, h⟩ := h
  exact w_X2_leastOfBlock_b23_j C hQ n9 _ _ _ _ _ h
/-! X2_numberGroups -/
abbrev rm_X2_numberGroups : Room := { frames := 0, cells := 0, slots := 0, locals := 0 }
theorem in_X2_numberGroups_X2 : ∀ w ∈ wsX20, w ∈ wsX2_numberGroups := by decide +kernel
theorem lk_X2_numberGroups_87 : Cond.fieldLink RX2 87 "SameAgain$Findings" "groups" "I" ∈ wsX2_numberGroups := by decide +kernel
theorem lk_X2_numberGroups_15 : Cond.fieldLink RX2 15 "SameAgain$Findings" "heap" "[I" ∈ wsX2_numberGroups := by decide +kernel
theorem lk_X2_numberGroups_9 : Cond.fieldLink RX2 9 "SameAgain$Findings" "group" "[I" ∈ wsX2_numberGroups := by decide +kernel
set_option maxHeartbeats 4000000 in
set_option maxRecDepth 100000 in
theorem w_X2_numberGroups_b7_j {G : Gt} {X : Cxt} {Q : State → Prop} (C : Cx G X cX2_numberGroups RX2 wsX2_numberGroups 3 rm_X2_numberGroups) {post : Mem → Prop} (hQ : RetV G X Q post 0 0) : ∀ (n : Nat) (v1 : Int32) (μ : Mem), itr (fun _ _ => False) (w_X2_numberGroups_b7 post) n v1 μ → J G X Q 3 0 0 7 [(0, .ref (ad G 4)), (1, .int v1)] [] μ := by
  intro n
  induction n with
  | zero => intro v1 μ h; exact h.elim
  | succ n ih =>
    intro v1 μ h
    replace h : w_X2_numberGroups_b7 post (itr (fun _ _ => False) (w_X2_numberGroups_b7 post) n) v1 μ := h
    generalize itr (fun _ _ => False) (w_X2_numberGroups_b7 post) n = k7 at ih h
    have hk7 := ih
    unfold w_X2_numberGroups_b7 at h
    refine j_iload_n C 1 dX2_numberGroups_7 rfl ?_
    refine j_bipush (v := 100) C dX2_numberGroups_8 (by decide) ?_
    refine j_icmp_ge C 81 dX2_numberGroups_10 (by decide) (fun c18 => ?_) (fun c18 => ?_)
    · replace h := h.1 c18
      exact j_vret C hQ (by decide) (by decide) h dX2_numberGroups_81
    · replace h := h.2 c18
      refine j_aload_n C 0 dX2_numberGroups_13 rfl ?_
      refine j_getR C 4 1 sh_4 (by decide) cl_X2 (by decide) rfl in_X2_numberGroups_X2 lk_X2_numberGroups_15 rfl dX2_numberGroups_14 ?_
      refine j_iload_n C 1 dX2_numberGroups_17 rfl ?_
      have b3 := h.1
      replace h := h.2
      refine j_iald C 23 sh_23 (by decide) b3 dX2_numberGroups_18 ?_
      refine j_istore_n (lv' := [(0, .ref (ad G 4)), (1, .int v1), (2, .int (μ 23 (ix v1)))]) C dX2_numberGroups_19 (by decide) rfl rfl ?_
      refine j_iload_n C 2 dX2_numberGroups_20 rfl ?_
      refine j_iconst (v := -1) C dX2_numberGroups_21 (by decide) ?_
      refine j_icmp_ne C 35 dX2_numberGroups_22 (by decide) (fun c17 => ?_) (fun c17 => ?_)
      · replace h := h.1 c17
        refine j_iload_n C 2 dX2_numberGroups_35 rfl ?_
        refine j_iload_n C 1 dX2_numberGroups_36 rfl ?_
        refine j_icmp_ne C 63 dX2_numberGroups_37 (by decide) (fun c13 => ?_) (fun c13 => ?_)
        · replace h := h.1 c13
          refine j_aload_n C 0 dX2_numberGroups_63 rfl ?_
          refine j_getR C 4 0 sh_4 (by decide) cl_X2 (by decide) rfl in_X2_numberGroups_X2 lk_X2_numberGroups_9 rfl dX2_numberGroups_64 ?_
          refine j_iload_n C 1 dX2_numberGroups_67 rfl ?_
          refine j_aload_n C 0 dX2_numberGroups_68 rfl ?_
          refine j_getR C 4 0 sh_4 (by decide) cl_X2 (by decide) rfl in_X2_numberGroups_X2 lk_X2_numberGroups_9 rfl dX2_numberGroups_69 ?_
          refine j_iload_n C 2 dX2_numberGroups_72 rfl ?_
          have b4 := h.1
          replace h := h.2
          refine j_iald C 22 sh_22 (by decide) b4 dX2_numberGroups_73 ?_
          obtain ⟨μ5, e6⟩ : ∃ m, m = wr μ 22 (ix v1) (μ 22 (ix (μ 23 (ix v1)))) := ⟨_, rfl⟩
          have b7 := h.1
          replace h := h.2 μ5 e6
          refine j_iast C 22 sh_22 (by decide) b7 dX2_numberGroups_74 e6 ?_
          refine j_iinc (v := v1 + (1 : Int32)) (lv' := [(0, .ref (ad G 4)), (1, .int (v1 + (1 : Int32))), (2, .int (μ 23 (ix v1)))]) C 1 dX2_numberGroups_75 rfl rfl (by decide) rfl rfl ?_
          refine j_goto C 7 dX2_numberGroups_78 (by decide) ?_
          refine j_forget [0, 1] rfl ?_
          exact hk7 _ _ h
        · replace h := h.2 c13
          refine j_aload_n C 0 dX2_numberGroups_40 rfl ?_
          refine j_getR C 4 0 sh_4 (by decide) cl_X2 (by decide) rfl in_X2_numberGroups_X2 lk_X2_numberGroups_9 rfl dX2_numberGroups_41 ?_
          refine j_iload_n C 1 dX2_numberGroups_44 rfl ?_
          refine j_aload_n C 0 dX2_numberGroups_45 rfl ?_
          refine j_getI C 4 3 sh_4 (by decide) cl_X2 (by decide) rfl in_X2_numberGroups_X2 lk_X2_numberGroups_87 rfl dX2_numberGroups_46 ?_
          obtain ⟨μ8, e9⟩ : ∃ m, m = wr μ 22 (ix v1) (μ 4 3) := ⟨_, rfl⟩
          have b10 := h.1
          replace h := h.2 μ8 e9
          refine j_iast C 22 sh_22 (by decide) b10 dX2_numberGroups_49 e9 ?_
          refine j_aload_n C 0 dX2_numberGroups_50 rfl ?_
          refine j_dup C dX2_numberGroups_51 rfl ?_
          refine j_getI C 4 3 sh_4 (by decide) cl_X2 (by decide) rfl in_X2_numberGroups_X2 lk_X2_numberGroups_87 rfl dX2_numberGroups_52 ?_
          refine j_iconst (v := 1) C dX2_numberGroups_55 (by decide) ?_
          refine j_iadd C dX2_numberGroups_56 ?_
          obtain ⟨μ11, e12⟩ : ∃ m, m = wr μ8 4 3 ((μ8 4 3) + (1 : Int32)) := ⟨_, rfl⟩
          replace h := h μ11 e12
          refine j_put C 4 3 sh_4 (by decide) cl_X2 (by decide) rfl in_X2_numberGroups_X2 lk_X2_numberGroups_87 rfl tyX2_ok nmX2 rfl rfl dX2_numberGroups_57 e12 ?_
          refine j_goto C 75 dX2_numberGroups_60 (by decide) ?_
          refine j_iinc (v := v1 + (1 : Int32)) (lv' := [(0, .ref (ad G 4)), (1, .int (v1 + (1 : Int32))), (2, .int (μ 23 (ix v1)))]) C 1 dX2_numberGroups_75 rfl rfl (by decide) rfl rfl ?_
          refine j_goto C 7 dX2_numberGroups_78 (by decide) ?_
          refine j_forget [0, 1] rfl ?_
          exact hk7 _ _ h
      · replace h := h.2 c17
        refine j_aload_n C 0 dX2_numberGroups_25 rfl ?_
        refine j_getR C 4 0 sh_4 (by decide) cl_X2 (by decide) rfl in_X2_numberGroups_X2 lk_X2_numberGroups_9 rfl dX2_numberGroups_26 ?_
        refine j_iload_n C 1 dX2_numberGroups_29 rfl ?_
        refine j_iconst (v := -1) C dX2_numberGroups_30 (by decide) ?_
        obtain ⟨μ14, e15⟩ : ∃ m, m = wr μ 22 (ix v1) (-1 : Int32) := ⟨_, rfl⟩
        have b16 := h.1
        replace h := h.2 μ14 e15
        refine j_iast C 22 sh_22 (by decide) b16 dX2_numberGroups_31 e15 ?_
        refine j_goto C 75 dX2_numberGroups_32 (by decide) ?_
        refine j_iinc (v := v1 + (1 : Int32)) (lv' := [(0, .ref (ad G 4)), (1, .int (v1 + (1 : Int32))), (2, .int (μ 23 (ix v1)))]) C 1 dX2_numberGroups_75 rfl rfl (by decide) rfl rfl ?_
        refine j_goto C 7 dX2_numberGroups_78 (by decide) ?_
        refine j_forget [0, 1] rfl ?_
        exact hk7 _ _ h
set_option maxHeartbeats 4000000 in
set_option maxRecDepth 100000 in
theorem c_X2_numberGroups (l : Launch) (G : Gt) (hD : Dj G) (post : Mem → Prop) (μ : Mem) : MV G l yX2_numberGroups wsX2_numberGroups rm_X2_numberGroups 0 0 [.ref (ad G 4)] μ (w_X2_numberGroups post μ) post := by
  refine mV_of (cc := cX2_numberGroups) (maxL := 3) (lv0 := [(0, .ref (ad G 4))]) hD (by decide) rfl (Nat.le_of_ble_eq_true rfl) rfl ?_
  intro X Q hl C hQ h
  subst hl
  replace C : Cx G X cX2_numberGroups RX2 wsX2_numberGroups 3 rm_X2_numberGroups := C
  unfold w_X2_numberGroups at h
  refine j_aload_n C 0 dX2_numberGroups_0 rfl ?_
  refine j_iconst (v := 0) C dX2_numberGroups_1 (by decide) ?_
  obtain ⟨μ1, e2⟩ : ∃ m, m = wr μ 4 3 (0 : Int32) := ⟨_, rfl⟩
  replace h := h μ1 e2
  refine j_put C 4 3 sh_4 (by decide) cl_X2 (by decide) rfl in_X2_numberGroups_X2 lk_X2_numberGroups_87 rfl tyX2_ok nmX2 rfl rfl dX2_numberGroups_2 e2 ?_
  refine j_iconst (v := 0) C dX2_numberGroups_5 (by decide) ?_
  refine j_istore_n (lv' := [(0, .ref (ad G 4)), (1, .int (0 : Int32))]) C dX2_numberGroups_6 (by decide) rfl rfl ?_
  obtain ⟨n9, h⟩ := h
  exact w_X2_numberGroups_b7_j C hQ n9 _ _ h
/-! X2_partByBlock -/
abbrev rm_X2_partByBlock : Room := { frames := 3, cells := 0, slots := 0, locals := 72 }
theorem in_X2_partByBlock_X2 : ∀ w ∈ wsX20, w ∈ wsX2_partByBlock := by decide +kernel
theorem lk_X2_partByBlock_15 : Cond.fieldLink RX2 15 "SameAgain$Findings" "heap" "[I" ∈ wsX2_partByBlock := by decide +kernel
theorem lk_X2_partByBlock_18 : Cond.fieldLink RX2 18 "SameAgain$Findings" "heapBefore" "[I" ∈ wsX2_partByBlock := by decide +kernel
theorem wd_X2_partByBlock_cp63 : Cond.methodLink RX2 63 arraycopyName ∈ wsX2_partByBlock := by decide +kernel
theorem wd_X2_partByBlock_cpn : Cond.native arraycopyName ∈ wsX2_partByBlock := by decide +kernel
theorem wd_X2_partByBlock_cps : Cond.static arraycopyName ∈ wsX2_partByBlock := by decide +kernel
theorem wd_X2_partByBlock_cpi : Cond.initialized "java/lang/System" ∈ wsX2_partByBlock := by decide +kernel
theorem in_X2_partByBlock_X0 : ∀ w ∈ wsX00, w ∈ wsX2_partByBlock := by decide +kernel
theorem lk_X2_partByBlock_42 : (RX2, 42, "SameAgain$Bodies", "made", "I", "SameAgain") ∈ nwF := by decide +kernel
theorem lk_X2_partByBlock_47 : (RX2, 47, "SameAgain$Bodies", "size", "[I", "SameAgain") ∈ nwF := by decide +kernel
theorem lk_X2_partByBlock_31 : Cond.fieldLink RX2 31 "SameAgain$Findings" "blocksRead" "I" ∈ wsX2_partByBlock := by decide +kernel
set_option maxHeartbeats 4000000 in
set_option maxRecDepth 100000 in
theorem w_X2_partByBlock_b17_j {G : Gt} {X : Cxt} {Q : State → Prop} (C : Cx G X cX2_partByBlock RX2 wsX2_partByBlock 4 rm_X2_partByBlock) {post : Mem → Prop} (hQ : RetV G X Q post 0 0) : ∀ (n : Nat) (v2 v3 : Int32) (μ : Mem), itr (fun _ _ _ => False) (w_X2_partByBlock_b17 post) n v2 v3 μ → J G X Q 4 0 0 17 [(0, .ref (ad G 4)), (1, .ref (ad G 3)), (2, .int v2), (3, .int v3)] [] μ := by
  intro n
  induction n with
  | zero => intro v2 v3 μ h; exact h.elim
  | succ n ih =>
    intro v2 v3 μ h
    replace h : w_X2_partByBlock_b17 post (itr (fun _ _ _ => False) (w_X2_partByBlock_b17 post) n) v2 v3 μ := h
    generalize itr (fun _ _ _ => False) (w_X2_partByBlock_b17 post) n = k17 at ih h
    have hk17 := ih
    unfold w_X2_partByBlock_b17 at h
    refine j_iload_n C 3 dX2_partByBlock_17 rfl ?_
    refine j_aload_n C 1 dX2_partByBlock_18 rfl ?_
    refine j_getIN C 3 4 sh_3 (by decide) cl_X0 (by decide) rfl in_X2_partByBlock_X0 lk_X2_partByBlock_42 rfl dX2_partByBlock_19 ?_
    refine j_icmp_ge C 74 dX2_partByBlock_22 (by decide) (fun c16 => ?_) (fun c16 => ?_)
    · replace h := h.1 c16
      refine j_aload_n C 0 dX2_partByBlock_74 rfl ?_
      refine j_cVV (n := 0) (rest := []) C 4 (c_X2_leaveOutLoneOnes (xl X) G C.2.2.1 _ μ) h gX2_partByBlock_X2_leaveOutLoneOnes rfl ⟨rfl, rfl⟩ (by decide +kernel) ⟨by decide, by decide⟩ ⟨by decide, by decide⟩ sh_4 (by decide) cl_X2 rfl rfl (Nat.le_of_ble_eq_true rfl) dX2_partByBlock_75 rfl rfl (fun μ4 h => ?_)
      exact j_vret C hQ (by decide) (by decide) h dX2_partByBlock_78
    · replace h := h.2 c16
      refine j_aload_n C 0 dX2_partByBlock_25 rfl ?_
      refine j_getR C 4 2 sh_4 (by decide) cl_X2 (by decide) rfl in_X2_partByBlock_X2 lk_X2_partByBlock_18 rfl dX2_partByBlock_26 ?_
      refine j_iload_n C 3 dX2_partByBlock_29 rfl ?_
      have b5 := h.1
      replace h := h.2
      refine j_iald C 24 sh_24 (by decide) b5 dX2_partByBlock_30 ?_
      refine j_iconst (v := -1) C dX2_partByBlock_31 (by decide) ?_
      refine j_icmp_eq C 68 dX2_partByBlock_32 (by decide) (fun c15 => ?_) (fun c15 => ?_)
      · replace h := h.1 c15
        refine j_iinc (v := v3 + (1 : Int32)) (lv' := [(0, .ref (ad G 4)), (1, .ref (ad G 3)), (2, .int v2), (3, .int (v3 + (1 : Int32)))]) C 3 dX2_partByBlock_68 rfl rfl (by decide) rfl rfl ?_
        refine j_goto C 17 dX2_partByBlock_71 (by decide) ?_
        exact hk17 _ _ _ h
      · replace h := h.2 c15
        refine j_iload_n C 2 dX2_partByBlock_35 rfl ?_
        refine j_aload_n C 1 dX2_partByBlock_36 rfl ?_
        refine j_getRN C 3 1 sh_3 (by decide) cl_X0 (by decide) rfl in_X2_partByBlock_X0 lk_X2_partByBlock_47 rfl dX2_partByBlock_37 ?_
        refine j_iload_n C 3 dX2_partByBlock_40 rfl ?_
        have b6 := h.1
        replace h := h.2
        refine j_iald C 19 sh_19 (by decide) b6 dX2_partByBlock_41 ?_
        refine j_icmp_ge C 68 dX2_partByBlock_42 (by decide) (fun c14 => ?_) (fun c14 => ?_)
        · replace h := h.1 c14
          refine j_iinc (v := v3 + (1 : Int32)) (lv' := [(0, .ref (ad G 4)), (1, .ref (ad G 3)), (2, .int v2), (3, .int (v3 + (1 : Int32)))]) C 3 dX2_partByBlock_68 rfl rfl (by decide) rfl rfl ?_
          refine j_goto C 17 dX2_partByBlock_71 (by decide) ?_
          exact hk17 _ _ _ h
        · replace h := h.2 c14
          refine j_aload_n C 0 dX2_partByBlock_45 rfl ?_
          refine j_dup C dX2_partByBlock_46 rfl ?_
          refine j_getI C 4 4 sh_4 (by decide) cl_X2 (by decide) rfl in_X2_partByBlock_X2 lk_X2_partByBlock_31 rfl dX2_partByBlock_47 ?_
          refine j_iconst (v := 1) C dX2_partByBlock_50 (by decide) ?_
          refine j_iadd C dX2_partByBlock_51 ?_
          obtain ⟨μ7, e8⟩ : ∃ m, m = wr μ 4 4 ((μ 4 4) + (1 : Int32)) := ⟨_, rfl⟩
          replace h := h μ7 e8
          refine j_put C 4 4 sh_4 (by decide) cl_X2 (by decide) rfl in_X2_partByBlock_X2 lk_X2_partByBlock_31 rfl tyX2_ok nmX2 rfl rfl dX2_partByBlock_52 e8 ?_
          refine j_aload_n C 0 dX2_partByBlock_55 rfl ?_
          refine j_getR C 4 1 sh_4 (by decide) cl_X2 (by decide) rfl in_X2_partByBlock_X2 lk_X2_partByBlock_15 rfl dX2_partByBlock_56 ?_
          refine j_iload_n C 3 dX2_partByBlock_59 rfl ?_
          refine j_aload_n C 0 dX2_partByBlock_60 rfl ?_
          refine j_aload_n C 1 dX2_partByBlock_61 rfl ?_
          refine j_iload_n C 3 dX2_partByBlock_62 rfl ?_
          refine j_iload_n C 2 dX2_partByBlock_63 rfl ?_
          refine j_cVI (n := 3) (rest := [.int v3, .ref (ad G 23)]) C 4 (c_X2_leastOfBlock (xl X) G C.2.2.1 _ v3 v2 μ7) h gX2_partByBlock_X2_leastOfBlock rfl ⟨rfl, rfl⟩ (by decide +kernel) ⟨by decide, by decide⟩ ⟨by decide, by decide⟩ sh_4 (by decide) cl_X2 rfl rfl (Nat.le_of_ble_eq_true rfl) dX2_partByBlock_64 rfl rfl (fun r10 μ9 h => ?_)
          obtain ⟨μ11, e12⟩ : ∃ m, m = wr μ9 23 (ix v3) r10 := ⟨_, rfl⟩
          have b13 := h.1
          replace h := h.2 μ11 e12
          refine j_iast C 23 sh_23 (by decide) b13 dX2_partByBlock_67 e12 ?_
          refine j_iinc (v := v3 + (1 : Int32)) (lv' := [(0, .ref (ad G 4)), (1, .ref (ad G 3)), (2, .int v2), (3, .int (v3 + (1 : Int32)))]) C 3 dX2_partByBlock_68 rfl rfl (by decide) rfl rfl ?_
          refine j_goto C 17 dX2_partByBlock_71 (by decide) ?_
          exact hk17 _ _ _ h
set_option maxHeartbeats 4000000 in
set_option maxRecDepth 100000 in
theorem c_X2_partByBlock (l : Launch) (G : Gt) (hD : Dj G) (post : Mem → Prop) (a2 : Int32) (μ : Mem) : MV G l yX2_partByBlock wsX2_partByBlock rm_X2_partByBlock 0 0 [.ref (ad G 4), .ref (ad G 3), .int a2] μ (w_X2_partByBlock post a2 μ) post := by
  refine mV_of (cc := cX2_partByBlock) (maxL := 4) (lv0 := [(0, .ref (ad G 4)), (1, .ref (ad G 3)), (2, .int a2)]) hD (by decide) rfl (Nat.le_of_ble_eq_true rfl) rfl ?_
  intro X Q hl C hQ h
  subst hl
  replace C : Cx G X cX2_partByBlock RX2 wsX2_partByBlock 4 rm_X2_partByBlock := C
  unfold w_X2_partByBlock at h
  refine j_aload_n C 0 dX2_partByBlock_0 rfl ?_
  refine j_getR C 4 1 sh_4 (by decide) cl_X2 (by decide) rfl in_X2_partByBlock_X2 lk_X2_partByBlock_15 rfl dX2_partByBlock_1 ?_
  refine j_iconst (v := 0) C dX2_partByBlock_4 (by decide) ?_
  refine j_aload_n C 0 dX2_partByBlock_5 rfl ?_
  refine j_getR C 4 2 sh_4 (by decide) cl_X2 (by decide) rfl in_X2_partByBlock_X2 lk_X2_partByBlock_18 rfl dX2_partByBlock_6 ?_
  refine j_iconst (v := 0) C dX2_partByBlock_9 (by decide) ?_
  refine j_bipush (v := 100) C dX2_partByBlock_10 (by decide) ?_
  obtain ⟨μ1, e2⟩ : ∃ m, m = wrow μ 24 (va_cpy (μ 23) (μ 24) (ix (0 : Int32)) (ix (0 : Int32)) (ix (100 : Int32))) := ⟨_, rfl⟩
  have b3 := h.1
  replace h := h.2 μ1 e2
  refine j_copy C 23 24 sh_23 sh_24 (by decide) rfl (by decide) (by decide) wd_X2_partByBlock_cp63 wd_X2_partByBlock_cpn wd_X2_partByBlock_cps wd_X2_partByBlock_cpi b3.1 b3.2.1 b3.2.2.1 b3.2.2.2.1 b3.2.2.2.2.1 b3.2.2.2.2.2 (by decide) (Nat.le_of_ble_eq_true rfl) dX2_partByBlock_12 e2 ?_
  refine j_iconst (v := 0) C dX2_partByBlock_15 (by decide) ?_
  refine j_istore_n (lv' := [(0, .ref (ad G 4)), (1, .ref (ad G 3)), (2, .int a2), (3, .int (0 : Int32))]) C dX2_partByBlock_16 (by decide) rfl rfl ?_
  obtain ⟨n9, h⟩ := h
  exact w_X2_partByBlock_b17_j C hQ n9 _ _ _ h
/-! X2_search -/
abbrev rm_X2_search : Room := { frames := 4, cells := 0, slots := 0, locals := 95 }
theorem in_X2_search_X2 : ∀ w ∈ wsX20, w ∈ wsX2_search := by decide +kernel
theorem lk_X2_search_31 : Cond.fieldLink RX2 31 "SameAgain$Findings" "blocksRead" "I" ∈ wsX2_search := by decide +kernel
set_option maxHeartbeats 4000000 in
set_option maxRecDepth 100000 in
theorem w_X2_search_b13_j {G : Gt} {X : Cxt} {Q : State → Prop} (C : Cx G X cX2_search RX2 wsX2_search 4 rm_X2_search) {post : Mem → Prop} (hQ : RetV G X Q post 0 0) : ∀ (n : Nat) (v3 : Int32) (μ : Mem), itr (fun _ _ => False) (w_X2_search_b13 post) n v3 μ → J G X Q 4 0 0 13 [(0, .ref (ad G 4)), (2, .ref (ad G 3)), (3, .int v3)] [] μ := by
  intro n
  induction n with
  | zero => intro v3 μ h; exact h.elim
  | succ n ih =>
    intro v3 μ h
    replace h : w_X2_search_b13 post (itr (fun _ _ => False) (w_X2_search_b13 post) n) v3 μ := h
    generalize itr (fun _ _ => False) (w_X2_search_b13 post) n = k13 at ih h
    have hk13 := ih
    unfold w_X2_search_b13 at h
    refine j_iload_n C 2 dX2_search_13 rfl ?_
    refine j_bipush (v := 64) C dX2_search_14 (by decide) ?_
    refine j_icmp_ge C 31 dX2_search_16 (by decide) (fun c6 => ?_) (fun c6 => ?_)
    · replace h := h.1 c6
      refine j_aload_n C 0 dX2_search_31 rfl ?_
      refine j_cVV (n := 0) (rest := []) C 4 (c_X2_numberGroups (xl X) G C.2.2.1 _ μ) h gX2_search_X2_numberGroups rfl ⟨rfl, rfl⟩ (by decide +kernel) ⟨by decide, by decide⟩ ⟨by decide, by decide⟩ sh_4 (by decide) cl_X2 rfl rfl (Nat.le_of_ble_eq_true rfl) dX2_search_32 rfl rfl (fun μ4 h => ?_)
      exact j_vret C hQ (by decide) (by decide) h dX2_search_35
    · replace h := h.2 c6
      refine j_aload_n C 0 dX2_search_19 rfl ?_
      refine j_aload_n C 1 dX2_search_20 rfl ?_
      refine j_iload_n C 2 dX2_search_21 rfl ?_
      refine j_cVV (n := 2) (rest := []) C 4 (c_X2_partByBlock (xl X) G C.2.2.1 _ v3 μ) h gX2_search_X2_partByBlock rfl ⟨rfl, rfl⟩ (by decide +kernel) ⟨by decide, by decide⟩ ⟨by decide, by decide⟩ sh_4 (by decide) cl_X2 rfl rfl (Nat.le_of_ble_eq_true rfl) dX2_search_22 rfl rfl (fun μ5 h => ?_)
      refine j_iinc (v := v3 + (8 : Int32)) (lv' := [(0, .ref (ad G 4)), (2, .ref (ad G 3)), (3, .int (v3 + (8 : Int32)))]) C 2 dX2_search_25 rfl rfl (by decide) rfl rfl ?_
      refine j_goto C 13 dX2_search_28 (by decide) ?_
      exact hk13 _ _ h
set_option maxHeartbeats 4000000 in
set_option maxRecDepth 100000 in
theorem c_X2_search (l : Launch) (G : Gt) (hD : Dj G) (post : Mem → Prop) (μ : Mem) : MV G l yX2_search wsX2_search rm_X2_search 0 0 [.ref (ad G 4), .ref (ad G 2), .ref (ad G 3)] μ (w_X2_search post μ) post := by
  refine mV_of (cc := cX2_search) (maxL := 4) (lv0 := [(0, .ref (ad G 4)), (1, .ref (ad G 2)), (2, .ref (ad G 3))]) hD (by decide) rfl (Nat.le_of_ble_eq_true rfl) rfl ?_
  intro X Q hl C hQ h
  subst hl
  replace C : Cx G X cX2_search RX2 wsX2_search 4 rm_X2_search := C
  unfold w_X2_search at h
  refine j_aload_n C 0 dX2_search_0 rfl ?_
  refine j_aload_n C 1 dX2_search_1 rfl ?_
  refine j_aload_n C 2 dX2_search_2 rfl ?_
  refine j_cVV (n := 2) (rest := []) C 4 (c_X2_heapBySize (xl X) G C.2.2.1 _ μ) h gX2_search_X2_heapBySize rfl ⟨rfl, rfl⟩ (by decide +kernel) ⟨by decide, by decide⟩ ⟨by decide, by decide⟩ sh_4 (by decide) cl_X2 rfl rfl (Nat.le_of_ble_eq_true rfl) dX2_search_3 rfl rfl (fun μ1 h => ?_)
  refine j_aload_n C 0 dX2_search_6 rfl ?_
  refine j_iconst (v := 0) C dX2_search_7 (by decide) ?_
  obtain ⟨μ2, e3⟩ : ∃ m, m = wr μ1 4 4 (0 : Int32) := ⟨_, rfl⟩
  replace h := h μ2 e3
  refine j_put C 4 4 sh_4 (by decide) cl_X2 (by decide) rfl in_X2_search_X2 lk_X2_search_31 rfl tyX2_ok nmX2 rfl rfl dX2_search_8 e3 ?_
  refine j_iconst (v := 0) C dX2_search_11 (by decide) ?_
  refine j_istore_n (lv' := [(0, .ref (ad G 4)), (1, .ref (ad G 2)), (2, .ref (ad G 3)), (3, .int (0 : Int32))]) C dX2_search_12 (by decide) rfl rfl ?_
  refine j_forget [0, 2, 3] rfl ?_
  obtain ⟨n9, h⟩ := h
  exact w_X2_search_b13_j C hQ n9 _ _ h
/-! X5_add_5 -/
abbrev rm_X5_add_5 : Room := { frames := 0, cells := 0, slots := 0, locals := 0 }
theorem in_X5_add_5_X5 : ∀ w ∈ wsX50, w ∈ wsX5_add := by decide +kernel
theorem lk_X5_add_5_15 : Cond.fieldLink RX5 15 "SameAgain$Pieces" "many" "I" ∈ wsX5_add := by decide +kernel
theorem lk_X5_add_5_9 : Cond.fieldLink RX5 9 "SameAgain$Pieces" "row" "[I" ∈ wsX5_add := by decide +kernel
set_option maxHeartbeats 4000000 in
set_option maxRecDepth 100000 in
theorem w_X5_add_5_b50_j {G : Gt} {X : Cxt} {Q : State → Prop} (C : Cx G X cX5_add RX5 wsX5_add 4 rm_X5_add_5) {post : Mem → Prop} (hQ : RetV G X Q post 0 0) : ∀ (n : Nat) (v1 v2 v3 : Int32) (μ : Mem), itr (fun _ _ _ _ => False) (w_X5_add_5_b50 post) n v1 v2 v3 μ → J G X Q 4 0 0 50 [(0, .ref (ad G 5)), (1, .int v1), (2, .int v2), (3, .int v3)] [] μ := by
  intro n
  induction n with
  | zero => intro v1 v2 v3 μ h; exact h.elim
  | succ n ih =>
    intro v1 v2 v3 μ h
    replace h : w_X5_add_5_b50 post (itr (fun _ _ _ _ => False) (w_X5_add_5_b50 post) n) v1 v2 v3 μ := h
    generalize itr (fun _ _ _ _ => False) (w_X5_add_5_b50 post) n = k50 at ih h
    have hk50 := ih
    unfold w_X5_add_5_b50 at h
    refine j_iload_n C 3 dX5_add_50 rfl ?_
    refine j_iload_n C 2 dX5_add_51 rfl ?_
    refine j_icmp_le C 75 dX5_add_52 (by decide) (fun c10 => ?_) (fun c10 => ?_)
    · replace h := h.1 c10
      refine j_aload_n C 0 dX5_add_75 rfl ?_
      refine j_getR C 5 0 sh_5 (by decide) cl_X5 (by decide) rfl in_X5_add_5_X5 lk_X5_add_5_9 rfl dX5_add_76 ?_
      refine j_iload_n C 2 dX5_add_79 rfl ?_
      refine j_iload_n C 1 dX5_add_80 rfl ?_
      obtain ⟨μ1, e2⟩ : ∃ m, m = wr μ 25 (ix v2) v1 := ⟨_, rfl⟩
      have b3 := h.1
      replace h := h.2 μ1 e2
      refine j_iast C 25 sh_25 (by decide) b3 dX5_add_81 e2 ?_
      refine j_aload_n C 0 dX5_add_82 rfl ?_
      refine j_dup C dX5_add_83 rfl ?_
      refine j_getI C 5 1 sh_5 (by decide) cl_X5 (by decide) rfl in_X5_add_5_X5 lk_X5_add_5_15 rfl dX5_add_84 ?_
      refine j_iconst (v := 1) C dX5_add_87 (by decide) ?_
      refine j_iadd C dX5_add_88 ?_
      obtain ⟨μ4, e5⟩ : ∃ m, m = wr μ1 5 1 ((μ1 5 1) + (1 : Int32)) := ⟨_, rfl⟩
      replace h := h μ4 e5
      refine j_put C 5 1 sh_5 (by decide) cl_X5 (by decide) rfl in_X5_add_5_X5 lk_X5_add_5_15 rfl tyX5_ok nmX5 rfl rfl dX5_add_89 e5 ?_
      exact j_vret C hQ (by decide) (by decide) h dX5_add_92
    · replace h := h.2 c10
      refine j_aload_n C 0 dX5_add_55 rfl ?_
      refine j_getR C 5 0 sh_5 (by decide) cl_X5 (by decide) rfl in_X5_add_5_X5 lk_X5_add_5_9 rfl dX5_add_56 ?_
      refine j_iload_n C 3 dX5_add_59 rfl ?_
      refine j_aload_n C 0 dX5_add_60 rfl ?_
      refine j_getR C 5 0 sh_5 (by decide) cl_X5 (by decide) rfl in_X5_add_5_X5 lk_X5_add_5_9 rfl dX5_add_61 ?_
      refine j_iload_n C 3 dX5_add_64 rfl ?_
      refine j_iconst (v := 1) C dX5_add_65 (by decide) ?_
      refine j_isub C dX5_add_66 ?_
      have b6 := h.1
      replace h := h.2
      refine j_iald C 25 sh_25 (by decide) b6 dX5_add_67 ?_
      obtain ⟨μ7, e8⟩ : ∃ m, m = wr μ 25 (ix v3) (μ 25 (ix (v3 - (1 : Int32)))) := ⟨_, rfl⟩
      have b9 := h.1
      replace h := h.2 μ7 e8
      refine j_iast C 25 sh_25 (by decide) b9 dX5_add_68 e8 ?_
      refine j_iinc (v := v3 + (-1 : Int32)) (lv' := [(0, .ref (ad G 5)), (1, .int v1), (2, .int v2), (3, .int (v3 + (-1 : Int32)))]) C 3 dX5_add_69 rfl rfl (by decide) rfl rfl ?_
      refine j_goto C 50 dX5_add_72 (by decide) ?_
      exact hk50 _ _ _ _ h
set_option maxHeartbeats 4000000 in
set_option maxRecDepth 100000 in
theorem w_X5_add_5_b45_j {G : Gt} {X : Cxt} {Q : State → Prop} (C : Cx G X cX5_add RX5 wsX5_add 4 rm_X5_add_5) {post : Mem → Prop} (hQ : RetV G X Q post 0 0) {v1 v2 : Int32} {μ : Mem} (h : w_X5_add_5_b45 post v1 v2 μ) : J G X Q 4 0 0 45 [(0, .ref (ad G 5)), (1, .int v1), (2, .int v2)] [] μ := by
  unfold w_X5_add_5_b45 at h
  refine j_aload_n C 0 dX5_add_45 rfl ?_
  refine j_getI C 5 1 sh_5 (by decide) cl_X5 (by decide) rfl in_X5_add_5_X5 lk_X5_add_5_15 rfl dX5_add_46 ?_
  refine j_istore_n (lv' := [(0, .ref (ad G 5)), (1, .int v1), (2, .int v2), (3, .int (μ 5 1))]) C dX5_add_49 (by decide) rfl rfl ?_
  obtain ⟨n9, h⟩ := h
  exact w_X5_add_5_b50_j C hQ n9 _ _ _ _ h
set_option maxHeartbeats 4000000 in
set_option maxRecDepth 100000 in
theorem w_X5_add_5_b26_j {G : Gt} {X : Cxt} {Q : State → Prop} (C : Cx G X cX5_add RX5 wsX5_add 4 rm_X5_add_5) {post : Mem → Prop} (hQ : RetV G X Q post 0 0) {v1 v2 : Int32} {μ : Mem} (h : w_X5_add_5_b26 post v1 v2 μ) : J G X Q 4 0 0 26 [(0, .ref (ad G 5)), (1, .int v1), (2, .int v2)] [] μ := by
  unfold w_X5_add_5_b26 at h
  refine j_iload_n C 2 dX5_add_26 rfl ?_
  refine j_aload_n C 0 dX5_add_27 rfl ?_
  refine j_getI C 5 1 sh_5 (by decide) cl_X5 (by decide) rfl in_X5_add_5_X5 lk_X5_add_5_15 rfl dX5_add_28 ?_
  refine j_icmp_ge C 45 dX5_add_31 (by decide) (fun c13 => ?_) (fun c13 => ?_)
  · replace h := h.1 c13
    exact w_X5_add_5_b45_j C hQ h
  · replace h := h.2 c13
    refine j_aload_n C 0 dX5_add_34 rfl ?_
    refine j_getR C 5 0 sh_5 (by decide) cl_X5 (by decide) rfl in_X5_add_5_X5 lk_X5_add_5_9 rfl dX5_add_35 ?_
    refine j_iload_n C 2 dX5_add_38 rfl ?_
    have b11 := h.1
    replace h := h.2
    refine j_iald C 25 sh_25 (by decide) b11 dX5_add_39 ?_
    refine j_iload_n C 1 dX5_add_40 rfl ?_
    refine j_icmp_ne C 45 dX5_add_41 (by decide) (fun c12 => ?_) (fun c12 => ?_)
    · replace h := h.1 c12
      exact w_X5_add_5_b45_j C hQ h
    · replace h := h.2 c12
      exact j_vret C hQ (by decide) (by decide) h dX5_add_44
set_option maxHeartbeats 4000000 in
set_option maxRecDepth 100000 in
theorem w_X5_add_5_b2_j {G : Gt} {X : Cxt} {Q : State → Prop} (C : Cx G X cX5_add RX5 wsX5_add 4 rm_X5_add_5) {post : Mem → Prop} (hQ : RetV G X Q post 0 0) : ∀ (n : Nat) (v1 v2 : Int32) (μ : Mem), itr (fun _ _ _ => False) (w_X5_add_5_b2 post) n v1 v2 μ → J G X Q 4 0 0 2 [(0, .ref (ad G 5)), (1, .int v1), (2, .int v2)] [] μ := by
  intro n
  induction n with
  | zero => intro v1 v2 μ h; exact h.elim
  | succ n ih =>
    intro v1 v2 μ h
    replace h : w_X5_add_5_b2 post (itr (fun _ _ _ => False) (w_X5_add_5_b2 post) n) v1 v2 μ := h
    generalize itr (fun _ _ _ => False) (w_X5_add_5_b2 post) n = k2 at ih h
    have hk2 := ih
    unfold w_X5_add_5_b2 at h
    refine j_iload_n C 2 dX5_add_2 rfl ?_
    refine j_aload_n C 0 dX5_add_3 rfl ?_
    refine j_getI C 5 1 sh_5 (by decide) cl_X5 (by decide) rfl in_X5_add_5_X5 lk_X5_add_5_15 rfl dX5_add_4 ?_
    refine j_icmp_ge C 26 dX5_add_7 (by decide) (fun c16 => ?_) (fun c16 => ?_)
    · replace h := h.1 c16
      exact w_X5_add_5_b26_j C hQ h
    · replace h := h.2 c16
      refine j_aload_n C 0 dX5_add_10 rfl ?_
      refine j_getR C 5 0 sh_5 (by decide) cl_X5 (by decide) rfl in_X5_add_5_X5 lk_X5_add_5_9 rfl dX5_add_11 ?_
      refine j_iload_n C 2 dX5_add_14 rfl ?_
      have b14 := h.1
      replace h := h.2
      refine j_iald C 25 sh_25 (by decide) b14 dX5_add_15 ?_
      refine j_iload_n C 1 dX5_add_16 rfl ?_
      refine j_icmp_ge C 26 dX5_add_17 (by decide) (fun c15 => ?_) (fun c15 => ?_)
      · replace h := h.1 c15
        exact w_X5_add_5_b26_j C hQ h
      · replace h := h.2 c15
        refine j_iinc (v := v2 + (1 : Int32)) (lv' := [(0, .ref (ad G 5)), (1, .int v1), (2, .int (v2 + (1 : Int32)))]) C 2 dX5_add_20 rfl rfl (by decide) rfl rfl ?_
        refine j_goto C 2 dX5_add_23 (by decide) ?_
        exact hk2 _ _ _ h
set_option maxHeartbeats 4000000 in
set_option maxRecDepth 100000 in
theorem c_X5_add_5 (l : Launch) (G : Gt) (hD : Dj G) (post : Mem → Prop) (a1 : Int32) (μ : Mem) : MV G l yX5_add wsX5_add rm_X5_add_5 0 0 [.ref (ad G 5), .int a1] μ (w_X5_add_5 post a1 μ) post := by
  refine mV_of (cc := cX5_add) (maxL := 4) (lv0 := [(0, .ref (ad G 5)), (1, .int a1)]) hD (by decide) rfl (Nat.le_of_ble_eq_true rfl) rfl ?_
  intro X Q hl C hQ h
  subst hl
  replace C : Cx G X cX5_add RX5 wsX5_add 4 rm_X5_add_5 := C
  unfold w_X5_add_5 at h
  refine j_iconst (v := 0) C dX5_add_0 (by decide) ?_
  refine j_istore_n (lv' := [(0, .ref (ad G 5)), (1, .int a1), (2, .int (0 : Int32))]) C dX5_add_1 (by decide) rfl rfl ?_
  obtain ⟨n9, h⟩ := h
  exact w_X5_add_5_b2_j C hQ n9 _ _ _ h
/-! X5_add_6 -/
abbrev rm_X5_add_6 : Room := { frames := 0, cells := 0, slots := 0, locals := 0 }
theorem in_X5_add_6_X5 : ∀ w ∈ wsX50, w ∈ wsX5_add := by decide +kernel
theorem lk_X5_add_6_15 : Cond.fieldLink RX5 15 "SameAgain$Pieces" "many" "I" ∈ wsX5_add := by decide +kernel
theorem lk_X5_add_6_9 : Cond.fieldLink RX5 9 "SameAgain$Pieces" "row" "[I" ∈ wsX5_add := by decide +kernel
set_option maxHeartbeats 4000000 in
set_option maxRecDepth 100000 in
theorem w_X5_add_6_b50_j {G : Gt} {X : Cxt} {Q : State → Prop} (C : Cx G X cX5_add RX5 wsX5_add 4 rm_X5_add_6) {post : Mem → Prop} (hQ : RetV G X Q post 0 0) : ∀ (n : Nat) (v1 v2 v3 : Int32) (μ : Mem), itr (fun _ _ _ _ => False) (w_X5_add_6_b50 post) n v1 v2 v3 μ → J G X Q 4 0 0 50 [(0, .ref (ad G 6)), (1, .int v1), (2, .int v2), (3, .int v3)] [] μ := by
  intro n
  induction n with
  | zero => intro v1 v2 v3 μ h; exact h.elim
  | succ n ih =>
    intro v1 v2 v3 μ h
    replace h : w_X5_add_6_b50 post (itr (fun _ _ _ _ => False) (w_X5_add_6_b50 post) n) v1 v2 v3 μ := h
    generalize itr (fun _ _ _ _ => False) (w_X5_add_6_b50 post) n = k50 at ih h
    have hk50 := ih
    unfold w_X5_add_6_b50 at h
    refine j_iload_n C 3 dX5_add_50 rfl ?_
    refine j_iload_n C 2 dX5_add_51 rfl ?_
    refine j_icmp_le C 75 dX5_add_52 (by decide) (fun c10 => ?_) (fun c10 => ?_)
    · replace h := h.1 c10
      refine j_aload_n C 0 dX5_add_75 rfl ?_
      refine j_getR C 6 0 sh_6 (by decide) cl_X5 (by decide) rfl in_X5_add_6_X5 lk_X5_add_6_9 rfl dX5_add_76 ?_
      refine j_iload_n C 2 dX5_add_79 rfl ?_
      refine j_iload_n C 1 dX5_add_80 rfl ?_
      obtain ⟨μ1, e2⟩ : ∃ m, m = wr μ 26 (ix v2) v1 := ⟨_, rfl⟩
      have b3 := h.1
      replace h := h.2 μ1 e2
      refine j_iast C 26 sh_26 (by decide) b3 dX5_add_81 e2 ?_
      refine j_aload_n C 0 dX5_add_82 rfl ?_
      refine j_dup C dX5_add_83 rfl ?_
      refine j_getI C 6 1 sh_6 (by decide) cl_X5 (by decide) rfl in_X5_add_6_X5 lk_X5_add_6_15 rfl dX5_add_84 ?_
      refine j_iconst (v := 1) C dX5_add_87 (by decide) ?_
      refine j_iadd C dX5_add_88 ?_
      obtain ⟨μ4, e5⟩ : ∃ m, m = wr μ1 6 1 ((μ1 6 1) + (1 : Int32)) := ⟨_, rfl⟩
      replace h := h μ4 e5
      refine j_put C 6 1 sh_6 (by decide) cl_X5 (by decide) rfl in_X5_add_6_X5 lk_X5_add_6_15 rfl tyX5_ok nmX5 rfl rfl dX5_add_89 e5 ?_
      exact j_vret C hQ (by decide) (by decide) h dX5_add_92
    · replace h := h.2 c10
      refine j_aload_n C 0 dX5_add_55 rfl ?_
      refine j_getR C 6 0 sh_6 (by decide) cl_X5 (by decide) rfl in_X5_add_6_X5 lk_X5_add_6_9 rfl dX5_add_56 ?_
      refine j_iload_n C 3 dX5_add_59 rfl ?_
      refine j_aload_n C 0 dX5_add_60 rfl ?_
      refine j_getR C 6 0 sh_6 (by decide) cl_X5 (by decide) rfl in_X5_add_6_X5 lk_X5_add_6_9 rfl dX5_add_61 ?_
      refine j_iload_n C 3 dX5_add_64 rfl ?_
      refine j_iconst (v := 1) C dX5_add_65 (by decide) ?_
      refine j_isub C dX5_add_66 ?_
      have b6 := h.1
      replace h := h.2
      refine j_iald C 26 sh_26 (by decide) b6 dX5_add_67 ?_
      obtain ⟨μ7, e8⟩ : ∃ m, m = wr μ 26 (ix v3) (μ 26 (ix (v3 - (1 : Int32)))) := ⟨_, rfl⟩
      have b9 := h.1
      replace h := h.2 μ7 e8
      refine j_iast C 26 sh_26 (by decide) b9 dX5_add_68 e8 ?_
      refine j_iinc (v := v3 + (-1 : Int32)) (lv' := [(0, .ref (ad G 6)), (1, .int v1), (2, .int v2), (3, .int (v3 + (-1 : Int32)))]) C 3 dX5_add_69 rfl rfl (by decide) rfl rfl ?_
      refine j_goto C 50 dX5_add_72 (by decide) ?_
      exact hk50 _ _ _ _ h
set_option maxHeartbeats 4000000 in
set_option maxRecDepth 100000 in
theorem w_X5_add_6_b45_j {G : Gt} {X : Cxt} {Q : State → Prop} (C : Cx G X cX5_add RX5 wsX5_add 4 rm_X5_add_6) {post : Mem → Prop} (hQ : RetV G X Q post 0 0) {v1 v2 : Int32} {μ : Mem} (h : w_X5_add_6_b45 post v1 v2 μ) : J G X Q 4 0 0 45 [(0, .ref (ad G 6)), (1, .int v1), (2, .int v2)] [] μ := by
  unfold w_X5_add_6_b45 at h
  refine j_aload_n C 0 dX5_add_45 rfl ?_
  refine j_getI C 6 1 sh_6 (by decide) cl_X5 (by decide) rfl in_X5_add_6_X5 lk_X5_add_6_15 rfl dX5_add_46 ?_
  refine j_istore_n (lv' := [(0, .ref (ad G 6)), (1, .int v1), (2, .int v2), (3, .int (μ 6 1))]) C dX5_add_49 (by decide) rfl rfl ?_
  obtain ⟨n9, h⟩ := h
  exact w_X5_add_6_b50_j C hQ n9 _ _ _ _ h
set_option maxHeartbeats 4000000 in
set_option maxRecDepth 100000 in
theorem w_X5_add_6_b26_j {G : Gt} {X : Cxt} {Q : State → Prop} (C : Cx G X cX5_add RX5 wsX5_add 4 rm_X5_add_6) {post : Mem → Prop} (hQ : RetV G X Q post 0 0) {v1 v2 : Int32} {μ : Mem} (h : w_X5_add_6_b26 post v1 v2 μ) : J G X Q 4 0 0 26 [(0, .ref (ad G 6)), (1, .int v1), (2, .int v2)] [] μ := by
  unfold w_X5_add_6_b26 at h
  refine j_iload_n C 2 dX5_add_26 rfl ?_
  refine j_aload_n C 0 dX5_add_27 rfl ?_
  refine j_getI C 6 1 sh_6 (by decide) cl_X5 (by decide) rfl in_X5_add_6_X5 lk_X5_add_6_15 rfl dX5_add_28 ?_
  refine j_icmp_ge C 45 dX5_add_31 (by decide) (fun c13 => ?_) (fun c13 => ?_)
  · replace h := h.1 c13
    exact w_X5_add_6_b45_j C hQ h
  · replace h := h.2 c13
    refine j_aload_n C 0 dX5_add_34 rfl ?_
    refine j_getR C 6 0 sh_6 (by decide) cl_X5 (by decide) rfl in_X5_add_6_X5 lk_X5_add_6_9 rfl dX5_add_35 ?_
    refine j_iload_n C 2 dX5_add_38 rfl ?_
    have b11 := h.1
    replace h := h.2
    refine j_iald C 26 sh_26 (by decide) b11 dX5_add_39 ?_
    refine j_iload_n C 1 dX5_add_40 rfl ?_
    refine j_icmp_ne C 45 dX5_add_41 (by decide) (fun c12 => ?_) (fun c12 => ?_)
    · replace h := h.1 c12
      exact w_X5_add_6_b45_j C hQ h
    · replace h := h.2 c12
      exact j_vret C hQ (by decide) (by decide) h dX5_add_44
set_option maxHeartbeats 4000000 in
set_option maxRecDepth 100000 in
theorem w_X5_add_6_b2_j {G : Gt} {X : Cxt} {Q : State → Prop} (C : Cx G X cX5_add RX5 wsX5_add 4 rm_X5_add_6) {post : Mem → Prop} (hQ : RetV G X Q post 0 0) : ∀ (n : Nat) (v1 v2 : Int32) (μ : Mem), itr (fun _ _ _ => False) (w_X5_add_6_b2 post) n v1 v2 μ → J G X Q 4 0 0 2 [(0, .ref (ad G 6)), (1, .int v1), (2, .int v2)] [] μ := by
  intro n
  induction n with
  | zero => intro v1 v2 μ h; exact h.elim
  | succ n ih =>
    intro v1 v2 μ h
    replace h : w_X5_add_6_b2 post (itr (fun _ _ _ => False) (w_X5_add_6_b2 post) n) v1 v2 μ := h
    generalize itr (fun _ _ _ => False) (w_X5_add_6_b2 post) n = k2 at ih h
    have hk2 := ih
    unfold w_X5_add_6_b2 at h
    refine j_iload_n C 2 dX5_add_2 rfl ?_
    refine j_aload_n C 0 dX5_add_3 rfl ?_
    refine j_getI C 6 1 sh_6 (by decide) cl_X5 (by decide) rfl in_X5_add_6_X5 lk_X5_add_6_15 rfl dX5_add_4 ?_
    refine j_icmp_ge C 26 dX5_add_7 (by decide) (fun c16 => ?_) (fun c16 => ?_)
    · replace h := h.1 c16
      exact w_X5_add_6_b26_j C hQ h
    · replace h := h.2 c16
      refine j_aload_n C 0 dX5_add_10 rfl ?_
      refine j_getR C 6 0 sh_6 (by decide) cl_X5 (by decide) rfl in_X5_add_6_X5 lk_X5_add_6_9 rfl dX5_add_11 ?_
      refine j_iload_n C 2 dX5_add_14 rfl ?_
      have b14 := h.1
      replace h := h.2
      refine j_iald C 26 sh_26 (by decide) b14 dX5_add_15 ?_
      refine j_iload_n C 1 dX5_add_16 rfl ?_
      refine j_icmp_ge C 26 dX5_add_17 (by decide) (fun c15 => ?_) (fun c15 => ?_)
      · replace h := h.1 c15
        exact w_X5_add_6_b26_j C hQ h
      · replace h := h.2 c15
        refine j_iinc (v := v2 + (1 : Int32)) (lv' := [(0, .ref (ad G 6)), (1, .int v1), (2, .int (v2 + (1 : Int32)))]) C 2 dX5_add_20 rfl rfl (by decide) rfl rfl ?_
        refine j_goto C 2 dX5_add_23 (by decide) ?_
        exact hk2 _ _ _ h
set_option maxHeartbeats 4000000 in
set_option maxRecDepth 100000 in
theorem c_X5_add_6 (l : Launch) (G : Gt) (hD : Dj G) (post : Mem → Prop) (a1 : Int32) (μ : Mem) : MV G l yX5_add wsX5_add rm_X5_add_6 0 0 [.ref (ad G 6), .int a1] μ (w_X5_add_6 post a1 μ) post := by
  refine mV_of (cc := cX5_add) (maxL := 4) (lv0 := [(0, .ref (ad G 6)), (1, .int a1)]) hD (by decide) rfl (Nat.le_of_ble_eq_true rfl) rfl ?_
  intro X Q hl C hQ h
  subst hl
  replace C : Cx G X cX5_add RX5 wsX5_add 4 rm_X5_add_6 := C
  unfold w_X5_add_6 at h
  refine j_iconst (v := 0) C dX5_add_0 (by decide) ?_
  refine j_istore_n (lv' := [(0, .ref (ad G 6)), (1, .int a1), (2, .int (0 : Int32))]) C dX5_add_1 (by decide) rfl rfl ?_
  obtain ⟨n9, h⟩ := h
  exact w_X5_add_6_b2_j C hQ n9 _ _ _ h
/-! X5_gather_5 -/
abbrev rm_X5_gather_5 : Room := { frames := 2, cells := 0, slots := 0, locals := 46 }
theorem in_X5_gather_5_X5 : ∀ w ∈ wsX50, w ∈ wsX5_gather := by decide +kernel
theorem lk_X5_gather_5_15 : Cond.fieldLink RX5 15 "SameAgain$Pieces" "many" "I" ∈ wsX5_gather := by decide +kernel
theorem in_X5_gather_5_X0 : ∀ w ∈ wsX00, w ∈ wsX5_gather := by decide +kernel
theorem lk_X5_gather_5_19 : (RX5, 19, "SameAgain$Bodies", "size", "[I", "SameAgain") ∈ nwF := by decide +kernel
theorem wd_X5_gather_5_ini_X0 : Cond.initialized RX0 ∈ wsX5_gather := by decide +kernel
theorem wd_X5_gather_5_im_X0_pieceAt : Cond.instanceMethod yX0_pieceAt ∈ wsX5_gather := by decide +kernel
theorem wd_X5_gather_5_se_X0_pieceAt : Cond.selects RX0 yX0_pieceAt yX0_pieceAt ∈ wsX5_gather := by decide +kernel
theorem nm_X5_gather_5_24 : (RX5, 24, yX0_pieceAt, "SameAgain") ∈ nwM := by decide +kernel
set_option maxHeartbeats 4000000 in
set_option maxRecDepth 100000 in
theorem w_X5_gather_5_b7_j {G : Gt} {X : Cxt} {Q : State → Prop} (C : Cx G X cX5_gather RX5 wsX5_gather 4 rm_X5_gather_5) {post : Mem → Prop} (hQ : RetV G X Q post 0 0) : ∀ (n : Nat) (v2 v3 : Int32) (μ : Mem), itr (fun _ _ _ => False) (w_X5_gather_5_b7 post) n v2 v3 μ → J G X Q 4 0 0 7 [(0, .ref (ad G 5)), (1, .ref (ad G 3)), (2, .int v2), (3, .int v3)] [] μ := by
  intro n
  induction n with
  | zero => intro v2 v3 μ h; exact h.elim
  | succ n ih =>
    intro v2 v3 μ h
    replace h : w_X5_gather_5_b7 post (itr (fun _ _ _ => False) (w_X5_gather_5_b7 post) n) v2 v3 μ := h
    generalize itr (fun _ _ _ => False) (w_X5_gather_5_b7 post) n = k7 at ih h
    have hk7 := ih
    unfold w_X5_gather_5_b7 at h
    refine j_iload_n C 3 dX5_gather_7 rfl ?_
    refine j_iconst (v := 4) C dX5_gather_8 (by decide) ?_
    refine j_iadd C dX5_gather_9 ?_
    refine j_aload_n C 1 dX5_gather_10 rfl ?_
    refine j_getRN C 3 1 sh_3 (by decide) cl_X0 (by decide) rfl in_X5_gather_5_X0 lk_X5_gather_5_19 rfl dX5_gather_11 ?_
    refine j_iload_n C 2 dX5_gather_14 rfl ?_
    have b3 := h.1
    replace h := h.2
    refine j_iald C 19 sh_19 (by decide) b3 dX5_gather_15 ?_
    refine j_icmp_gt C 35 dX5_gather_16 (by decide) (fun c7 => ?_) (fun c7 => ?_)
    · replace h := h.1 c7
      exact j_vret C hQ (by decide) (by decide) h dX5_gather_35
    · replace h := h.2 c7
      refine j_aload_n C 0 dX5_gather_19 rfl ?_
      refine j_aload_n C 1 dX5_gather_20 rfl ?_
      refine j_iload_n C 2 dX5_gather_21 rfl ?_
      refine j_iload_n C 3 dX5_gather_22 rfl ?_
      refine j_cNI (n := 2) (rest := [.ref (ad G 5)]) C 3 (c_X0_pieceAt (xl X) G C.2.2.1 _ v2 v3 μ) h gX5_gather_X0_pieceAt_n24 nm_X5_gather_5_24 wd_X5_gather_5_ini_X0 wd_X5_gather_5_im_X0_pieceAt wd_X5_gather_5_se_X0_pieceAt rfl ⟨rfl, rfl⟩ (by decide +kernel) ⟨by decide, by decide⟩ ⟨by decide, by decide⟩ sh_3 (by decide) cl_X0 rfl rfl (Nat.le_of_ble_eq_true rfl) dX5_gather_23 rfl rfl (fun r5 μ4 h => ?_)
      refine j_cVV (n := 1) (rest := []) C 5 (c_X5_add_5 (xl X) G C.2.2.1 _ r5 μ4) h gX5_gather_X5_add rfl ⟨rfl, rfl⟩ (by decide +kernel) ⟨by decide, by decide⟩ ⟨by decide, by decide⟩ sh_5 (by decide) cl_X5 rfl rfl (Nat.le_of_ble_eq_true rfl) dX5_gather_26 rfl rfl (fun μ6 h => ?_)
      refine j_iinc (v := v3 + (1 : Int32)) (lv' := [(0, .ref (ad G 5)), (1, .ref (ad G 3)), (2, .int v2), (3, .int (v3 + (1 : Int32)))]) C 3 dX5_gather_29 rfl rfl (by decide) rfl rfl ?_
      refine j_goto C 7 dX5_gather_32 (by decide) ?_
      exact hk7 _ _ _ h
set_option maxHeartbeats 4000000 in
set_option maxRecDepth 100000 in
theorem c_X5_gather_5 (l : Launch) (G : Gt) (hD : Dj G) (post : Mem → Prop) (a2 : Int32) (μ : Mem) : MV G l yX5_gather wsX5_gather rm_X5_gather_5 0 0 [.ref (ad G 5), .ref (ad G 3), .int a2] μ (w_X5_gather_5 post a2 μ) post := by
  refine mV_of (cc := cX5_gather) (maxL := 4) (lv0 := [(0, .ref (ad G 5)), (1, .ref (ad G 3)), (2, .int a2)]) hD (by decide) rfl (Nat.le_of_ble_eq_true rfl) rfl ?_
  intro X Q hl C hQ h
  subst hl
  replace C : Cx G X cX5_gather RX5 wsX5_gather 4 rm_X5_gather_5 := C
  unfold w_X5_gather_5 at h
  refine j_aload_n C 0 dX5_gather_0 rfl ?_
  refine j_iconst (v := 0) C dX5_gather_1 (by decide) ?_
  obtain ⟨μ1, e2⟩ : ∃ m, m = wr μ 5 1 (0 : Int32) := ⟨_, rfl⟩
  replace h := h μ1 e2
  refine j_put C 5 1 sh_5 (by decide) cl_X5 (by decide) rfl in_X5_gather_5_X5 lk_X5_gather_5_15 rfl tyX5_ok nmX5 rfl rfl dX5_gather_2 e2 ?_
  refine j_iconst (v := 0) C dX5_gather_5 (by decide) ?_
  refine j_istore_n (lv' := [(0, .ref (ad G 5)), (1, .ref (ad G 3)), (2, .int a2), (3, .int (0 : Int32))]) C dX5_gather_6 (by decide) rfl rfl ?_
  obtain ⟨n9, h⟩ := h
  exact w_X5_gather_5_b7_j C hQ n9 _ _ _ h
/-! X5_gather_6 -/
abbrev rm_X5_gather_6 : Room := { frames := 2, cells := 0, slots := 0, locals := 46 }
theorem in_X5_gather_6_X5 : ∀ w ∈ wsX50, w ∈ wsX5_gather := by decide +kernel
theorem lk_X5_gather_6_15 : Cond.fieldLink RX5 15 "SameAgain$Pieces" "many" "I" ∈ wsX5_gather := by decide +kernel
theorem in_X5_gather_6_X0 : ∀ w ∈ wsX00, w ∈ wsX5_gather := by decide +kernel
theorem lk_X5_gather_6_19 : (RX5, 19, "SameAgain$Bodies", "size", "[I", "SameAgain") ∈ nwF := by decide +kernel
theorem wd_X5_gather_6_ini_X0 : Cond.initialized RX0 ∈ wsX5_gather := by decide +kernel
theorem wd_X5_gather_6_im_X0_pieceAt : Cond.instanceMethod yX0_pieceAt ∈ wsX5_gather := by decide +kernel
theorem wd_X5_gather_6_se_X0_pieceAt : Cond.selects RX0 yX0_pieceAt yX0_pieceAt ∈ wsX5_gather := by decide +kernel
theorem nm_X5_gather_6_24 : (RX5, 24, yX0_pieceAt, "SameAgain") ∈ nwM := by decide +kernel
set_option maxHeartbeats 4000000 in
set_option maxRecDepth 100000 in
theorem w_X5_gather_6_b7_j {G : Gt} {X : Cxt} {Q : State → Prop} (C : Cx G X cX5_gather RX5 wsX5_gather 4 rm_X5_gather_6) {post : Mem → Prop} (hQ : RetV G X Q post 0 0) : ∀ (n : Nat) (v2 v3 : Int32) (μ : Mem), itr (fun _ _ _ => False) (w_X5_gather_6_b7 post) n v2 v3 μ → J G X Q 4 0 0 7 [(0, .ref (ad G 6)), (1, .ref (ad G 3)), (2, .int v2), (3, .int v3)] [] μ := by
  intro n
  induction n with
  | zero => intro v2 v3 μ h; exact h.elim
  | succ n ih =>
    intro v2 v3 μ h
    replace h : w_X5_gather_6_b7 post (itr (fun _ _ _ => False) (w_X5_gather_6_b7 post) n) v2 v3 μ := h
    generalize itr (fun _ _ _ => False) (w_X5_gather_6_b7 post) n = k7 at ih h
    have hk7 := ih
    unfold w_X5_gather_6_b7 at h
    refine j_iload_n C 3 dX5_gather_7 rfl ?_
    refine j_iconst (v := 4) C dX5_gather_8 (by decide) ?_
    refine j_iadd C dX5_gather_9 ?_
    refine j_aload_n C 1 dX5_gather_10 rfl ?_
    refine j_getRN C 3 1 sh_3 (by decide) cl_X0 (by decide) rfl in_X5_gather_6_X0 lk_X5_gather_6_19 rfl dX5_gather_11 ?_
    refine j_iload_n C 2 dX5_gather_14 rfl ?_
    have b3 := h.1
    replace h := h.2
    refine j_iald C 19 sh_19 (by decide) b3 dX5_gather_15 ?_
    refine j_icmp_gt C 35 dX5_gather_16 (by decide) (fun c7 => ?_) (fun c7 => ?_)
    · replace h := h.1 c7
      exact j_vret C hQ (by decide) (by decide) h dX5_gather_35
    · replace h := h.2 c7
      refine j_aload_n C 0 dX5_gather_19 rfl ?_
      refine j_aload_n C 1 dX5_gather_20 rfl ?_
      refine j_iload_n C 2 dX5_gather_21 rfl ?_
      refine j_iload_n C 3 dX5_gather_22 rfl ?_
      refine j_cNI (n := 2) (rest := [.ref (ad G 6)]) C 3 (c_X0_pieceAt (xl X) G C.2.2.1 _ v2 v3 μ) h gX5_gather_X0_pieceAt_n24 nm_X5_gather_6_24 wd_X5_gather_6_ini_X0 wd_X5_gather_6_im_X0_pieceAt wd_X5_gather_6_se_X0_pieceAt rfl ⟨rfl, rfl⟩ (by decide +kernel) ⟨by decide, by decide⟩ ⟨by decide, by decide⟩ sh_3 (by decide) cl_X0 rfl rfl (Nat.le_of_ble_eq_true rfl) dX5_gather_23 rfl rfl (fun r5 μ4 h => ?_)
      refine j_cVV (n := 1) (rest := []) C 6 (c_X5_add_6 (xl X) G C.2.2.1 _ r5 μ4) h gX5_gather_X5_add rfl ⟨rfl, rfl⟩ (by decide +kernel) ⟨by decide, by decide⟩ ⟨by decide, by decide⟩ sh_6 (by decide) cl_X5 rfl rfl (Nat.le_of_ble_eq_true rfl) dX5_gather_26 rfl rfl (fun μ6 h => ?_)
      refine j_iinc (v := v3 + (1 : Int32)) (lv' := [(0, .ref (ad G 6)), (1, .ref (ad G 3)), (2, .int v2), (3, .int (v3 + (1 : Int32)))]) C 3 dX5_gather_29 rfl rfl (by decide) rfl rfl ?_
      refine j_goto C 7 dX5_gather_32 (by decide) ?_
      exact hk7 _ _ _ h
set_option maxHeartbeats 4000000 in
set_option maxRecDepth 100000 in
theorem c_X5_gather_6 (l : Launch) (G : Gt) (hD : Dj G) (post : Mem → Prop) (a2 : Int32) (μ : Mem) : MV G l yX5_gather wsX5_gather rm_X5_gather_6 0 0 [.ref (ad G 6), .ref (ad G 3), .int a2] μ (w_X5_gather_6 post a2 μ) post := by
  refine mV_of (cc := cX5_gather) (maxL := 4) (lv0 := [(0, .ref (ad G 6)), (1, .ref (ad G 3)), (2, .int a2)]) hD (by decide) rfl (Nat.le_of_ble_eq_true rfl) rfl ?_
  intro X Q hl C hQ h
  subst hl
  replace C : Cx G X cX5_gather RX5 wsX5_gather 4 rm_X5_gather_6 := C
  unfold w_X5_gather_6 at h
  refine j_aload_n C 0 dX5_gather_0 rfl ?_
  refine j_iconst (v := 0) C dX5_gather_1 (by decide) ?_
  obtain ⟨μ1, e2⟩ : ∃ m, m = wr μ 6 1 (0 : Int32) := ⟨_, rfl⟩
  replace h := h μ1 e2
  refine j_put C 6 1 sh_6 (by decide) cl_X5 (by decide) rfl in_X5_gather_6_X5 lk_X5_gather_6_15 rfl tyX5_ok nmX5 rfl rfl dX5_gather_2 e2 ?_
  refine j_iconst (v := 0) C dX5_gather_5 (by decide) ?_
  refine j_istore_n (lv' := [(0, .ref (ad G 6)), (1, .ref (ad G 3)), (2, .int a2), (3, .int (0 : Int32))]) C dX5_gather_6 (by decide) rfl rfl ?_
  obtain ⟨n9, h⟩ := h
  exact w_X5_gather_6_b7_j C hQ n9 _ _ _ h
/-! X5_sharedWith_5 -/
abbrev rm_X5_sharedWith_5 : Room := { frames := 0, cells := 0, slots := 0, locals := 0 }
theorem in_X5_sharedWith_5_X5 : ∀ w ∈ wsX50, w ∈ wsX5_sharedWith := by decide +kernel
theorem lk_X5_sharedWith_5_15 : Cond.fieldLink RX5 15 "SameAgain$Pieces" "many" "I" ∈ wsX5_sharedWith := by decide +kernel
theorem lk_X5_sharedWith_5_9 : Cond.fieldLink RX5 9 "SameAgain$Pieces" "row" "[I" ∈ wsX5_sharedWith := by decide +kernel
set_option maxHeartbeats 4000000 in
set_option maxRecDepth 100000 in
theorem w_X5_sharedWith_5_b46_j {G : Gt} {X : Cxt} {Q : State → Prop} (C : Cx G X cX5_sharedWith RX5 wsX5_sharedWith 5 rm_X5_sharedWith_5) {post : Int32 → Mem → Prop} (hQ : RetI G X Q post .int 0 0) {k7 : Int32 → Int32 → Int32 → Mem → Prop} (hk7 : ∀ (v2 v3 v4 : Int32) (μ : Mem), k7 v2 v3 v4 μ → J G X Q 5 0 0 7 [(0, .ref (ad G 5)), (1, .ref (ad G 6)), (2, .int v2), (3, .int v3), (4, .int v4)] [] μ) {v2 v3 v4 : Int32} {μ : Mem} (h : w_X5_sharedWith_5_b46 post k7 v2 v3 v4 μ) : J G X Q 5 0 0 46 [(0, .ref (ad G 5)), (1, .ref (ad G 6)), (2, .int v2), (3, .int v3), (4, .int v4)] [] μ := by
  unfold w_X5_sharedWith_5_b46 at h
  refine j_iload_n C 3 dX5_sharedWith_46 rfl ?_
  refine j_aload_n C 1 dX5_sharedWith_47 rfl ?_
  refine j_getI C 6 1 sh_6 (by decide) cl_X5 (by decide) rfl in_X5_sharedWith_5_X5 lk_X5_sharedWith_5_15 rfl dX5_sharedWith_48 ?_
  refine j_icmp_ge C 73 dX5_sharedWith_51 (by decide) (fun c4 => ?_) (fun c4 => ?_)
  · replace h := h.1 c4
    refine j_iinc (v := v4 + (1 : Int32)) (lv' := [(0, .ref (ad G 5)), (1, .ref (ad G 6)), (2, .int v2), (3, .int v3), (4, .int (v4 + (1 : Int32)))]) C 4 dX5_sharedWith_73 rfl rfl (by decide) rfl rfl ?_
    refine j_goto C 7 dX5_sharedWith_76 (by decide) ?_
    exact hk7 _ _ _ _ h
  · replace h := h.2 c4
    refine j_aload_n C 1 dX5_sharedWith_54 rfl ?_
    refine j_getR C 6 0 sh_6 (by decide) cl_X5 (by decide) rfl in_X5_sharedWith_5_X5 lk_X5_sharedWith_5_9 rfl dX5_sharedWith_55 ?_
    refine j_iload_n C 3 dX5_sharedWith_58 rfl ?_
    have b1 := h.1
    replace h := h.2
    refine j_iald C 26 sh_26 (by decide) b1 dX5_sharedWith_59 ?_
    refine j_aload_n C 0 dX5_sharedWith_60 rfl ?_
    refine j_getR C 5 0 sh_5 (by decide) cl_X5 (by decide) rfl in_X5_sharedWith_5_X5 lk_X5_sharedWith_5_9 rfl dX5_sharedWith_61 ?_
    refine j_iload C 4 dX5_sharedWith_64 rfl ?_
    have b2 := h.1
    replace h := h.2
    refine j_iald C 25 sh_25 (by decide) b2 dX5_sharedWith_66 ?_
    refine j_icmp_ne C 73 dX5_sharedWith_67 (by decide) (fun c3 => ?_) (fun c3 => ?_)
    · replace h := h.1 c3
      refine j_iinc (v := v4 + (1 : Int32)) (lv' := [(0, .ref (ad G 5)), (1, .ref (ad G 6)), (2, .int v2), (3, .int v3), (4, .int (v4 + (1 : Int32)))]) C 4 dX5_sharedWith_73 rfl rfl (by decide) rfl rfl ?_
      refine j_goto C 7 dX5_sharedWith_76 (by decide) ?_
      exact hk7 _ _ _ _ h
    · replace h := h.2 c3
      refine j_iinc (v := v2 + (1 : Int32)) (lv' := [(0, .ref (ad G 5)), (1, .ref (ad G 6)), (2, .int (v2 + (1 : Int32))), (3, .int v3), (4, .int v4)]) C 2 dX5_sharedWith_70 rfl rfl (by decide) rfl rfl ?_
      refine j_iinc (v := v4 + (1 : Int32)) (lv' := [(0, .ref (ad G 5)), (1, .ref (ad G 6)), (2, .int (v2 + (1 : Int32))), (3, .int v3), (4, .int (v4 + (1 : Int32)))]) C 4 dX5_sharedWith_73 rfl rfl (by decide) rfl rfl ?_
      refine j_goto C 7 dX5_sharedWith_76 (by decide) ?_
      exact hk7 _ _ _ _ h
set_option maxHeartbeats 4000000 in
set_option maxRecDepth 100000 in
theorem w_X5_sharedWith_5_b16_j {G : Gt} {X : Cxt} {Q : State → Prop} (C : Cx G X cX5_sharedWith RX5 wsX5_sharedWith 5 rm_X5_sharedWith_5) {post : Int32 → Mem → Prop} (hQ : RetI G X Q post .int 0 0) {k7 : Int32 → Int32 → Int32 → Mem → Prop} (hk7 : ∀ (v2 v3 v4 : Int32) (μ : Mem), k7 v2 v3 v4 μ → J G X Q 5 0 0 7 [(0, .ref (ad G 5)), (1, .ref (ad G 6)), (2, .int v2), (3, .int v3), (4, .int v4)] [] μ) : ∀ (n : Nat) (v2 v3 v4 : Int32) (μ : Mem), itr (fun _ _ _ _ => False) (w_X5_sharedWith_5_b16 post k7) n v2 v3 v4 μ → J G X Q 5 0 0 16 [(0, .ref (ad G 5)), (1, .ref (ad G 6)), (2, .int v2), (3, .int v3), (4, .int v4)] [] μ := by
  intro n
  induction n with
  | zero => intro v2 v3 v4 μ h; exact h.elim
  | succ n ih =>
    intro v2 v3 v4 μ h
    replace h : w_X5_sharedWith_5_b16 post k7 (itr (fun _ _ _ _ => False) (w_X5_sharedWith_5_b16 post k7) n) v2 v3 v4 μ := h
    generalize itr (fun _ _ _ _ => False) (w_X5_sharedWith_5_b16 post k7) n = k16 at ih h
    have hk16 := ih
    unfold w_X5_sharedWith_5_b16 at h
    refine j_iload_n C 3 dX5_sharedWith_16 rfl ?_
    refine j_aload_n C 1 dX5_sharedWith_17 rfl ?_
    refine j_getI C 6 1 sh_6 (by decide) cl_X5 (by decide) rfl in_X5_sharedWith_5_X5 lk_X5_sharedWith_5_15 rfl dX5_sharedWith_18 ?_
    refine j_icmp_ge C 46 dX5_sharedWith_21 (by decide) (fun c8 => ?_) (fun c8 => ?_)
    · replace h := h.1 c8
      exact w_X5_sharedWith_5_b46_j C hQ hk7 h
    · replace h := h.2 c8
      refine j_aload_n C 1 dX5_sharedWith_24 rfl ?_
      refine j_getR C 6 0 sh_6 (by decide) cl_X5 (by decide) rfl in_X5_sharedWith_5_X5 lk_X5_sharedWith_5_9 rfl dX5_sharedWith_25 ?_
      refine j_iload_n C 3 dX5_sharedWith_28 rfl ?_
      have b5 := h.1
      replace h := h.2
      refine j_iald C 26 sh_26 (by decide) b5 dX5_sharedWith_29 ?_
      refine j_aload_n C 0 dX5_sharedWith_30 rfl ?_
      refine j_getR C 5 0 sh_5 (by decide) cl_X5 (by decide) rfl in_X5_sharedWith_5_X5 lk_X5_sharedWith_5_9 rfl dX5_sharedWith_31 ?_
      refine j_iload C 4 dX5_sharedWith_34 rfl ?_
      have b6 := h.1
      replace h := h.2
      refine j_iald C 25 sh_25 (by decide) b6 dX5_sharedWith_36 ?_
      refine j_icmp_ge C 46 dX5_sharedWith_37 (by decide) (fun c7 => ?_) (fun c7 => ?_)
      · replace h := h.1 c7
        exact w_X5_sharedWith_5_b46_j C hQ hk7 h
      · replace h := h.2 c7
        refine j_iinc (v := v3 + (1 : Int32)) (lv' := [(0, .ref (ad G 5)), (1, .ref (ad G 6)), (2, .int v2), (3, .int (v3 + (1 : Int32))), (4, .int v4)]) C 3 dX5_sharedWith_40 rfl rfl (by decide) rfl rfl ?_
        refine j_goto C 16 dX5_sharedWith_43 (by decide) ?_
        exact hk16 _ _ _ _ h
set_option maxHeartbeats 4000000 in
set_option maxRecDepth 100000 in
theorem w_X5_sharedWith_5_b7_j {G : Gt} {X : Cxt} {Q : State → Prop} (C : Cx G X cX5_sharedWith RX5 wsX5_sharedWith 5 rm_X5_sharedWith_5) {post : Int32 → Mem → Prop} (hQ : RetI G X Q post .int 0 0) : ∀ (n : Nat) (v2 v3 v4 : Int32) (μ : Mem), itr (fun _ _ _ _ => False) (w_X5_sharedWith_5_b7 post) n v2 v3 v4 μ → J G X Q 5 0 0 7 [(0, .ref (ad G 5)), (1, .ref (ad G 6)), (2, .int v2), (3, .int v3), (4, .int v4)] [] μ := by
  intro n
  induction n with
  | zero => intro v2 v3 v4 μ h; exact h.elim
  | succ n ih =>
    intro v2 v3 v4 μ h
    replace h : w_X5_sharedWith_5_b7 post (itr (fun _ _ _ _ => False) (w_X5_sharedWith_5_b7 post) n) v2 v3 v4 μ := h
    generalize itr (fun _ _ _ _ => False) (w_X5_sharedWith_5_b7 post) n = k7 at ih h
    have hk7 := ih
    unfold w_X5_sharedWith_5_b7 at h
    refine j_iload C 4 dX5_sharedWith_7 rfl ?_
    refine j_aload_n C 0 dX5_sharedWith_9 rfl ?_
    refine j_getI C 5 1 sh_5 (by decide) cl_X5 (by decide) rfl in_X5_sharedWith_5_X5 lk_X5_sharedWith_5_15 rfl dX5_sharedWith_10 ?_
    refine j_icmp_ge C 79 dX5_sharedWith_13 (by decide) (fun c9 => ?_) (fun c9 => ?_)
    · replace h := h.1 c9
      refine j_iload_n C 2 dX5_sharedWith_79 rfl ?_
      exact j_iret C hQ (by decide) (by decide) h dX5_sharedWith_80
    · replace h := h.2 c9
      obtain ⟨n9, h⟩ := h
      exact w_X5_sharedWith_5_b16_j C hQ hk7 n9 _ _ _ _ h
set_option maxHeartbeats 4000000 in
set_option maxRecDepth 100000 in
theorem c_X5_sharedWith_5 (l : Launch) (G : Gt) (hD : Dj G) (post : Int32 → Mem → Prop) (μ : Mem) : MI G l yX5_sharedWith wsX5_sharedWith rm_X5_sharedWith_5 0 0 [.ref (ad G 5), .ref (ad G 6)] μ (w_X5_sharedWith_5 post μ) post := by
  refine mI_of (cc := cX5_sharedWith) (maxL := 5) (ty := .int) (lv0 := [(0, .ref (ad G 5)), (1, .ref (ad G 6))]) hD (by decide) rfl (Nat.le_of_ble_eq_true rfl) rfl ?_
  intro X Q hl C hQ h
  subst hl
  replace C : Cx G X cX5_sharedWith RX5 wsX5_sharedWith 5 rm_X5_sharedWith_5 := C
  unfold w_X5_sharedWith_5 at h
  refine j_iconst (v := 0) C dX5_sharedWith_0 (by decide) ?_
  refine j_istore_n (lv' := [(0, .ref (ad G 5)), (1, .ref (ad G 6)), (2, .int (0 : Int32))]) C dX5_sharedWith_1 (by decide) rfl rfl ?_
  refine j_iconst (v := 0) C dX5_sharedWith_2 (by decide) ?_
  refine j_istore_n (lv' := [(0, .ref (ad G 5)), (1, .ref (ad G 6)), (2, .int (0 : Int32)), (3, .int (0 : Int32))]) C dX5_sharedWith_3 (by decide) rfl rfl ?_
  refine j_iconst (v := 0) C dX5_sharedWith_4 (by decide) ?_
  refine j_istore (lv' := [(0, .ref (ad G 5)), (1, .ref (ad G 6)), (2, .int (0 : Int32)), (3, .int (0 : Int32)), (4, .int (0 : Int32))]) C dX5_sharedWith_5 (by decide) rfl rfl ?_
  obtain ⟨n9, h⟩ := h
  exact w_X5_sharedWith_5_b7_j C hQ n9 _ _ _ _ h
/-! X5_nearnessTo_5 -/
abbrev rm_X5_nearnessTo_5 : Room := { frames := 1, cells := 0, slots := 0, locals := 24 }
theorem in_X5_nearnessTo_5_X5 : ∀ w ∈ wsX50, w ∈ wsX5_nearnessTo := by decide +kernel
theorem lk_X5_nearnessTo_5_15 : Cond.fieldLink RX5 15 "SameAgain$Pieces" "many" "I" ∈ wsX5_nearnessTo := by decide +kernel
set_option maxHeartbeats 4000000 in
set_option maxRecDepth 100000 in
theorem c_X5_nearnessTo_5 (l : Launch) (G : Gt) (hD : Dj G) (post : Int32 → Mem → Prop) (μ : Mem) : MI G l yX5_nearnessTo wsX5_nearnessTo rm_X5_nearnessTo_5 0 0 [.ref (ad G 5), .ref (ad G 6)] μ (w_X5_nearnessTo_5 post μ) post := by
  refine mI_of (cc := cX5_nearnessTo) (maxL := 4) (ty := .int) (lv0 := [(0, .ref (ad G 5)), (1, .ref (ad G 6))]) hD (by decide) rfl (Nat.le_of_ble_eq_true rfl) rfl ?_
  intro X Q hl C hQ h
  subst hl
  replace C : Cx G X cX5_nearnessTo RX5 wsX5_nearnessTo 4 rm_X5_nearnessTo_5 := C
  unfold w_X5_nearnessTo_5 at h
  refine j_aload_n C 0 dX5_nearnessTo_0 rfl ?_
  refine j_aload_n C 1 dX5_nearnessTo_1 rfl ?_
  refine j_cVI (n := 1) (rest := []) C 5 (c_X5_sharedWith_5 (xl X) G C.2.2.1 _ μ) h gX5_nearnessTo_X5_sharedWith rfl ⟨rfl, rfl⟩ (by decide +kernel) ⟨by decide, by decide⟩ ⟨by decide, by decide⟩ sh_5 (by decide) cl_X5 rfl rfl (Nat.le_of_ble_eq_true rfl) dX5_nearnessTo_2 rfl rfl (fun r2 μ1 h => ?_)
  refine j_istore_n (lv' := [(0, .ref (ad G 5)), (1, .ref (ad G 6)), (2, .int r2)]) C dX5_nearnessTo_5 (by decide) rfl rfl ?_
  refine j_aload_n C 0 dX5_nearnessTo_6 rfl ?_
  refine j_getI C 5 1 sh_5 (by decide) cl_X5 (by decide) rfl in_X5_nearnessTo_5_X5 lk_X5_nearnessTo_5_15 rfl dX5_nearnessTo_7 ?_
  refine j_aload_n C 1 dX5_nearnessTo_10 rfl ?_
  refine j_getI C 6 1 sh_6 (by decide) cl_X5 (by decide) rfl in_X5_nearnessTo_5_X5 lk_X5_nearnessTo_5_15 rfl dX5_nearnessTo_11 ?_
  refine j_iadd C dX5_nearnessTo_14 ?_
  refine j_iload_n C 2 dX5_nearnessTo_15 rfl ?_
  refine j_isub C dX5_nearnessTo_16 ?_
  refine j_istore_n (lv' := [(0, .ref (ad G 5)), (1, .ref (ad G 6)), (2, .int r2), (3, .int (((μ1 5 1) + (μ1 6 1)) - r2))]) C dX5_nearnessTo_17 (by decide) rfl rfl ?_
  refine j_iload_n C 3 dX5_nearnessTo_18 rfl ?_
  refine j_if_ne C 26 dX5_nearnessTo_19 (by decide) (fun c4 => ?_) (fun c4 => ?_)
  · replace h := h.1 c4
    refine j_sipush (v := 1000) C dX5_nearnessTo_26 (by decide) ?_
    refine j_iload_n C 2 dX5_nearnessTo_29 rfl ?_
    refine j_imul C dX5_nearnessTo_30 ?_
    refine j_iload_n C 3 dX5_nearnessTo_31 rfl ?_
    have b3 := h.1
    replace h := h.2
    refine j_idiv C dX5_nearnessTo_32 b3 ?_
    exact j_iret C hQ (by decide) (by decide) h dX5_nearnessTo_33
  · replace h := h.2 c4
    refine j_iconst (v := 0) C dX5_nearnessTo_22 (by decide) ?_
    refine j_goto C 33 dX5_nearnessTo_23 (by decide) ?_
    exact j_iret C hQ (by decide) (by decide) h dX5_nearnessTo_33
