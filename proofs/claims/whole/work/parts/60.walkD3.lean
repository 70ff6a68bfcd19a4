/-! X8_nearest -/
abbrev rm_X8_nearest : Room := { frames := 3, cells := 0, slots := 0, locals := 73 }
theorem in_X8_nearest_X8 : ∀ w ∈ wsX80, w ∈ wsX8_nearest := by decide +kernel
theorem lk_X8_nearest_94 : Cond.fieldLink RX8 94 "SameAgainModel" "files" "I" ∈ wsX8_nearest := by decide +kernel
theorem lk_X8_nearest_20 : Cond.fieldLink RX8 20 "SameAgainModel" "in" "[I" ∈ wsX8_nearest := by decide +kernel
theorem lk_X8_nearest_26 : Cond.fieldLink RX8 26 "SameAgainModel" "body" "[I" ∈ wsX8_nearest := by decide +kernel
set_option maxHeartbeats 4000000 in
set_option maxRecDepth 100000 in
theorem w_X8_nearest_b44_j {G : Gt} {X : Cxt} {Q : State → Prop} (C : Cx G X cX8_nearest RX8 wsX8_nearest 7 rm_X8_nearest) {post : Int32 → Mem → Prop} (hQ : RetI G X Q post .int 0 0) : ∀ (n : Nat) (v1 v3 v4 v5 : Int32) (μ : Mem), itr (fun _ _ _ _ _ => False) (w_X8_nearest_b44 post) n v1 v3 v4 v5 μ → J G X Q 7 0 0 44 [(0, .ref (ad G 31)), (1, .int v1), (3, .int v3), (4, .int v4), (5, .int v5)] [] μ := by
  intro n
  induction n with
  | zero => intro v1 v3 v4 v5 μ h; exact h.elim
  | succ n ih =>
    intro v1 v3 v4 v5 μ h
    replace h : w_X8_nearest_b44 post (itr (fun _ _ _ _ _ => False) (w_X8_nearest_b44 post) n) v1 v3 v4 v5 μ := h
    generalize itr (fun _ _ _ _ _ => False) (w_X8_nearest_b44 post) n = k44 at ih h
    have hk44 := ih
    unfold w_X8_nearest_b44 at h
    refine j_iload C 4 dX8_nearest_44 rfl ?_
    refine j_aload_n C 0 dX8_nearest_46 rfl ?_
    refine j_getI C 31 2 sh_31 (by decide) cl_X8 (by decide) rfl in_X8_nearest_X8 lk_X8_nearest_94 rfl dX8_nearest_47 ?_
    refine j_icmp_ge C 125 dX8_nearest_50 (by decide) (fun c15 => ?_) (fun c15 => ?_)
    · replace h := h.1 c15
      refine j_iload_n C 2 dX8_nearest_125 rfl ?_
      exact j_iret C hQ (by decide) (by decide) h dX8_nearest_126
    · replace h := h.2 c15
      refine j_aload_n C 0 dX8_nearest_53 rfl ?_
      refine j_getR C 31 11 sh_31 (by decide) cl_X8 (by decide) rfl in_X8_nearest_X8 lk_X8_nearest_20 rfl dX8_nearest_54 ?_
      refine j_iload C 4 dX8_nearest_57 rfl ?_
      have b5 := h.1
      replace h := h.2
      refine j_iald C 34 sh_34 (by decide) b5 dX8_nearest_59 ?_
      refine j_iconst (v := -1) C dX8_nearest_60 (by decide) ?_
      refine j_icmp_eq C 119 dX8_nearest_61 (by decide) (fun c14 => ?_) (fun c14 => ?_)
      · replace h := h.1 c14
        refine j_iinc (v := v5 + (1 : Int32)) (lv' := [(0, .ref (ad G 31)), (1, .int v1), (3, .int v3), (4, .int v4), (5, .int (v5 + (1 : Int32)))]) C 4 dX8_nearest_119 rfl rfl (by decide) rfl rfl ?_
        refine j_goto C 44 dX8_nearest_122 (by decide) ?_
        exact hk44 _ _ _ _ _ h
      · replace h := h.2 c14
        refine j_aload_n C 0 dX8_nearest_64 rfl ?_
        refine j_getR C 31 13 sh_31 (by decide) cl_X8 (by decide) rfl in_X8_nearest_X8 lk_X8_nearest_26 rfl dX8_nearest_65 ?_
        refine j_iload C 4 dX8_nearest_68 rfl ?_
        have b6 := h.1
        replace h := h.2
        refine j_iald C 36 sh_36 (by decide) b6 dX8_nearest_70 ?_
        refine j_aload_n C 0 dX8_nearest_71 rfl ?_
        refine j_getR C 31 13 sh_31 (by decide) cl_X8 (by decide) rfl in_X8_nearest_X8 lk_X8_nearest_26 rfl dX8_nearest_72 ?_
        refine j_iload_n C 1 dX8_nearest_75 rfl ?_
        have b7 := h.1
        replace h := h.2
        refine j_iald C 36 sh_36 (by decide) b7 dX8_nearest_76 ?_
        refine j_icmp_ne C 83 dX8_nearest_77 (by decide) (fun c13 => ?_) (fun c13 => ?_)
        · replace h := h.1 c13
          refine j_aload_n C 0 dX8_nearest_83 rfl ?_
          refine j_aload_n C 0 dX8_nearest_84 rfl ?_
          refine j_getR C 31 13 sh_31 (by decide) cl_X8 (by decide) rfl in_X8_nearest_X8 lk_X8_nearest_26 rfl dX8_nearest_85 ?_
          refine j_iload_n C 1 dX8_nearest_88 rfl ?_
          have b8 := h.1
          replace h := h.2
          refine j_iald C 36 sh_36 (by decide) b8 dX8_nearest_89 ?_
          refine j_aload_n C 0 dX8_nearest_90 rfl ?_
          refine j_getR C 31 13 sh_31 (by decide) cl_X8 (by decide) rfl in_X8_nearest_X8 lk_X8_nearest_26 rfl dX8_nearest_91 ?_
          refine j_iload C 4 dX8_nearest_94 rfl ?_
          have b9 := h.1
          replace h := h.2
          refine j_iald C 36 sh_36 (by decide) b9 dX8_nearest_96 ?_
          refine j_cVI (n := 2) (rest := []) C 31 (c_X8_nearOf (xl X) G C.2.2.1 _ (μ 36 (ix v1)) (μ 36 (ix v5)) μ) h gX8_nearest_X8_nearOf rfl ⟨rfl, rfl⟩ (by decide +kernel) ⟨by decide, by decide⟩ ⟨by decide, by decide⟩ sh_31 (by decide) cl_X8 rfl rfl (Nat.le_of_ble_eq_true rfl) dX8_nearest_97 rfl rfl (fun r11 μ10 h => ?_)
          refine j_istore (lv' := [(0, .ref (ad G 31)), (1, .int v1), (3, .int v3), (4, .int v4), (5, .int v5), (6, .int r11)]) C dX8_nearest_100 (by decide) rfl rfl ?_
          refine j_iload C 5 dX8_nearest_102 rfl ?_
          refine j_iload C 3 dX8_nearest_104 rfl ?_
          refine j_icmp_gt C 112 dX8_nearest_106 (by decide) (fun c12 => ?_) (fun c12 => ?_)
          · replace h := h.1 c12
            refine j_iload C 4 dX8_nearest_112 rfl ?_
            refine j_istore_n (lv' := [(0, .ref (ad G 31)), (1, .int v1), (3, .int v5), (4, .int v4), (5, .int v5), (6, .int r11)]) C dX8_nearest_114 (by decide) rfl rfl ?_
            refine j_iload C 5 dX8_nearest_115 rfl ?_
            refine j_istore (lv' := [(0, .ref (ad G 31)), (1, .int v1), (3, .int v5), (4, .int r11), (5, .int v5), (6, .int r11)]) C dX8_nearest_117 (by decide) rfl rfl ?_
            refine j_iinc (v := v5 + (1 : Int32)) (lv' := [(0, .ref (ad G 31)), (1, .int v1), (3, .int v5), (4, .int r11), (5, .int (v5 + (1 : Int32))), (6, .int r11)]) C 4 dX8_nearest_119 rfl rfl (by decide) rfl rfl ?_
            refine j_goto C 44 dX8_nearest_122 (by decide) ?_
            refine j_forget [0, 1, 2, 3, 4] rfl ?_
            exact hk44 _ _ _ _ _ h
          · replace h := h.2 c12
            refine j_goto C 119 dX8_nearest_109 (by decide) ?_
            refine j_iinc (v := v5 + (1 : Int32)) (lv' := [(0, .ref (ad G 31)), (1, .int v1), (3, .int v3), (4, .int v4), (5, .int (v5 + (1 : Int32))), (6, .int r11)]) C 4 dX8_nearest_119 rfl rfl (by decide) rfl rfl ?_
            refine j_goto C 44 dX8_nearest_122 (by decide) ?_
            refine j_forget [0, 1, 2, 3, 4] rfl ?_
            exact hk44 _ _ _ _ _ h
        · replace h := h.2 c13
          refine j_goto C 119 dX8_nearest_80 (by decide) ?_
          refine j_iinc (v := v5 + (1 : Int32)) (lv' := [(0, .ref (ad G 31)), (1, .int v1), (3, .int v3), (4, .int v4), (5, .int (v5 + (1 : Int32)))]) C 4 dX8_nearest_119 rfl rfl (by decide) rfl rfl ?_
          refine j_goto C 44 dX8_nearest_122 (by decide) ?_
          exact hk44 _ _ _ _ _ h
set_option maxHeartbeats 4000000 in
set_option maxRecDepth 100000 in
theorem w_X8_nearest_b25_j {G : Gt} {X : Cxt} {Q : State → Prop} (C : Cx G X cX8_nearest RX8 wsX8_nearest 7 rm_X8_nearest) {post : Int32 → Mem → Prop} (hQ : RetI G X Q post .int 0 0) {v1 v2 s0 : Int32} {μ : Mem} (h : w_X8_nearest_b25 post v1 v2 s0 μ) : J G X Q 7 0 0 25 [(0, .ref (ad G 31)), (1, .int v1), (2, .int v2)] [.int s0, .ref (ad G 31)] μ := by
  unfold w_X8_nearest_b25 at h
  refine j_iconst (v := 2) C dX8_nearest_25 (by decide) ?_
  refine j_cVI (n := 2) (rest := []) C 31 (c_X8_right (xl X) G C.2.2.1 _ s0 (2 : Int32) μ) h gX8_nearest_X8_right rfl ⟨rfl, rfl⟩ (by decide +kernel) ⟨by decide, by decide⟩ ⟨by decide, by decide⟩ sh_31 (by decide) cl_X8 rfl rfl (Nat.le_of_ble_eq_true rfl) dX8_nearest_26 rfl rfl (fun r4 μ3 h => ?_)
  refine j_if_ne C 34 dX8_nearest_29 (by decide) (fun c16 => ?_) (fun c16 => ?_)
  · replace h := h.1 c16
    refine j_iconst (v := -1) C dX8_nearest_34 (by decide) ?_
    refine j_istore_n (lv' := [(0, .ref (ad G 31)), (1, .int v1), (2, .int v2), (3, .int (-1 : Int32))]) C dX8_nearest_35 (by decide) rfl rfl ?_
    refine j_iload_n C 2 dX8_nearest_36 rfl ?_
    refine j_iconst (v := 1) C dX8_nearest_37 (by decide) ?_
    refine j_isub C dX8_nearest_38 ?_
    refine j_istore (lv' := [(0, .ref (ad G 31)), (1, .int v1), (2, .int v2), (3, .int (-1 : Int32)), (4, .int (v2 - (1 : Int32)))]) C dX8_nearest_39 (by decide) rfl rfl ?_
    refine j_iconst (v := 0) C dX8_nearest_41 (by decide) ?_
    refine j_istore (lv' := [(0, .ref (ad G 31)), (1, .int v1), (2, .int v2), (3, .int (-1 : Int32)), (4, .int (v2 - (1 : Int32))), (5, .int (0 : Int32))]) C dX8_nearest_42 (by decide) rfl rfl ?_
    refine j_forget [0, 1, 3, 4, 5] rfl ?_
    obtain ⟨n9, h⟩ := h
    exact w_X8_nearest_b44_j C hQ n9 _ _ _ _ _ h
  · replace h := h.2 c16
    refine j_iconst (v := 0) C dX8_nearest_32 (by decide) ?_
    exact j_iret C hQ (by decide) (by decide) h dX8_nearest_33
set_option maxHeartbeats 4000000 in
set_option maxRecDepth 100000 in
theorem w_X8_nearest_b24_j {G : Gt} {X : Cxt} {Q : State → Prop} (C : Cx G X cX8_nearest RX8 wsX8_nearest 7 rm_X8_nearest) {post : Int32 → Mem → Prop} (hQ : RetI G X Q post .int 0 0) {v1 v2 : Int32} {μ : Mem} (h : w_X8_nearest_b24 post v1 v2 μ) : J G X Q 7 0 0 24 [(0, .ref (ad G 31)), (1, .int v1), (2, .int v2)] [.ref (ad G 31)] μ := by
  unfold w_X8_nearest_b24 at h
  refine j_iconst (v := 0) C dX8_nearest_24 (by decide) ?_
  exact w_X8_nearest_b25_j C hQ h
set_option maxHeartbeats 4000000 in
set_option maxRecDepth 100000 in
theorem c_X8_nearest (l : Launch) (G : Gt) (hD : Dj G) (post : Int32 → Mem → Prop) (a1 a2 : Int32) (μ : Mem) : MI G l yX8_nearest wsX8_nearest rm_X8_nearest 0 0 [.ref (ad G 31), .int a1, .int a2] μ (w_X8_nearest post a1 a2 μ) post := by
  refine mI_of (cc := cX8_nearest) (maxL := 7) (ty := .int) (lv0 := [(0, .ref (ad G 31)), (1, .int a1), (2, .int a2)]) hD (by decide) rfl (Nat.le_of_ble_eq_true rfl) rfl ?_
  intro X Q hl C hQ h
  subst hl
  replace C : Cx G X cX8_nearest RX8 wsX8_nearest 7 rm_X8_nearest := C
  unfold w_X8_nearest at h
  refine j_aload_n C 0 dX8_nearest_0 rfl ?_
  refine j_iload_n C 1 dX8_nearest_1 rfl ?_
  refine j_cVI (n := 1) (rest := []) C 31 (c_X8_isFile (xl X) G C.2.2.1 _ a1 μ) h gX8_nearest_X8_isFile rfl ⟨rfl, rfl⟩ (by decide +kernel) ⟨by decide, by decide⟩ ⟨by decide, by decide⟩ sh_31 (by decide) cl_X8 rfl rfl (Nat.le_of_ble_eq_true rfl) dX8_nearest_2 rfl rfl (fun r2 μ1 h => ?_)
  refine j_if_eq C 32 dX8_nearest_5 (by decide) (fun c19 => ?_) (fun c19 => ?_)
  · replace h := h.1 c19
    refine j_iconst (v := 0) C dX8_nearest_32 (by decide) ?_
    exact j_iret C hQ (by decide) (by decide) h dX8_nearest_33
  · replace h := h.2 c19
    refine j_aload_n C 0 dX8_nearest_8 rfl ?_
    refine j_iload_n C 2 dX8_nearest_9 rfl ?_
    refine j_if_lt C 24 dX8_nearest_10 (by decide) (fun c18 => ?_) (fun c18 => ?_)
    · replace h := h.1 c18
      exact w_X8_nearest_b24_j C hQ h
    · replace h := h.2 c18
      refine j_iload_n C 2 dX8_nearest_13 rfl ?_
      refine j_sipush (v := 1000) C dX8_nearest_14 (by decide) ?_
      refine j_icmp_gt C 24 dX8_nearest_17 (by decide) (fun c17 => ?_) (fun c17 => ?_)
      · replace h := h.1 c17
        exact w_X8_nearest_b24_j C hQ h
      · replace h := h.2 c17
        refine j_iconst (v := 1) C dX8_nearest_20 (by decide) ?_
        refine j_goto C 25 dX8_nearest_21 (by decide) ?_
        exact w_X8_nearest_b25_j C hQ h
/-! X8_reads -/
abbrev rm_X8_reads : Room := { frames := 0, cells := 0, slots := 0, locals := 0 }
theorem in_X8_reads_X8 : ∀ w ∈ wsX80, w ∈ wsX8_reads := by decide +kernel
theorem lk_X8_reads_87 : Cond.fieldLink RX8 87 "SameAgainModel" "thrown" "I" ∈ wsX8_reads := by decide +kernel
theorem lk_X8_reads_152 : Cond.fieldLink RX8 152 "SameAgainModel" "reads" "I" ∈ wsX8_reads := by decide +kernel
set_option maxHeartbeats 4000000 in
set_option maxRecDepth 100000 in
theorem c_X8_reads (l : Launch) (G : Gt) (hD : Dj G) (post : Int32 → Mem → Prop) (μ : Mem) : MI G l yX8_reads wsX8_reads rm_X8_reads 0 0 [.ref (ad G 31)] μ (w_X8_reads post μ) post := by
  refine mI_of (cc := cX8_reads) (maxL := 1) (ty := .int) (lv0 := [(0, .ref (ad G 31))]) hD (by decide) rfl (Nat.le_of_ble_eq_true rfl) rfl ?_
  intro X Q hl C hQ h
  subst hl
  replace C : Cx G X cX8_reads RX8 wsX8_reads 1 rm_X8_reads := C
  unfold w_X8_reads at h
  refine j_aload_n C 0 dX8_reads_0 rfl ?_
  refine j_iconst (v := 0) C dX8_reads_1 (by decide) ?_
  obtain ⟨μ1, e2⟩ : ∃ m, m = wr μ 31 0 (0 : Int32) := ⟨_, rfl⟩
  replace h := h μ1 e2
  refine j_put C 31 0 sh_31 (by decide) cl_X8 (by decide) rfl in_X8_reads_X8 lk_X8_reads_87 rfl tyX8_ok nmX8 rfl rfl dX8_reads_2 e2 ?_
  refine j_aload_n C 0 dX8_reads_5 rfl ?_
  refine j_getI C 31 7 sh_31 (by decide) cl_X8 (by decide) rfl in_X8_reads_X8 lk_X8_reads_152 rfl dX8_reads_6 ?_
  exact j_iret C hQ (by decide) (by decide) h dX8_reads_9
/-! X8_remove -/
abbrev rm_X8_remove : Room := { frames := 2, cells := 0, slots := 0, locals := 44 }
theorem in_X8_remove_X8 : ∀ w ∈ wsX80, w ∈ wsX8_remove := by decide +kernel
theorem lk_X8_remove_29 : Cond.fieldLink RX8 29 "SameAgainModel" "isHeld" "[Z" ∈ wsX8_remove := by decide +kernel
theorem lk_X8_remove_20 : Cond.fieldLink RX8 20 "SameAgainModel" "in" "[I" ∈ wsX8_remove := by decide +kernel
theorem lk_X8_remove_26 : Cond.fieldLink RX8 26 "SameAgainModel" "body" "[I" ∈ wsX8_remove := by decide +kernel
set_option maxHeartbeats 4000000 in
set_option maxRecDepth 100000 in
theorem c_X8_remove (l : Launch) (G : Gt) (hD : Dj G) (post : Int32 → Mem → Prop) (a1 : Int32) (μ : Mem) : MI G l yX8_remove wsX8_remove rm_X8_remove 0 0 [.ref (ad G 31), .int a1] μ (w_X8_remove post a1 μ) post := by
  refine mI_of (cc := cX8_remove) (maxL := 2) (ty := .int) (lv0 := [(0, .ref (ad G 31)), (1, .int a1)]) hD (by decide) rfl (Nat.le_of_ble_eq_true rfl) rfl ?_
  intro X Q hl C hQ h
  subst hl
  replace C : Cx G X cX8_remove RX8 wsX8_remove 2 rm_X8_remove := C
  unfold w_X8_remove at h
  refine j_aload_n C 0 dX8_remove_0 rfl ?_
  refine j_iload_n C 1 dX8_remove_1 rfl ?_
  refine j_cVI (n := 1) (rest := []) C 31 (c_X8_isFile (xl X) G C.2.2.1 _ a1 μ) h gX8_remove_X8_isFile rfl ⟨rfl, rfl⟩ (by decide +kernel) ⟨by decide, by decide⟩ ⟨by decide, by decide⟩ sh_31 (by decide) cl_X8 rfl rfl (Nat.le_of_ble_eq_true rfl) dX8_remove_2 rfl rfl (fun r2 μ1 h => ?_)
  refine j_if_ne C 10 dX8_remove_5 (by decide) (fun c13 => ?_) (fun c13 => ?_)
  · replace h := h.1 c13
    refine j_aload_n C 0 dX8_remove_10 rfl ?_
    refine j_getR C 31 14 sh_31 (by decide) cl_X8 (by decide) rfl in_X8_remove_X8 lk_X8_remove_29 rfl dX8_remove_11 ?_
    refine j_iload_n C 1 dX8_remove_14 rfl ?_
    have b3 := h.1
    replace h := h.2
    refine j_zald C 37 sh_37 (by decide) b3 dX8_remove_15 ?_
    refine j_if_eq C 21 dX8_remove_16 (by decide) (fun c12 => ?_) (fun c12 => ?_)
    · replace h := h.1 c12
      refine j_aload_n C 0 dX8_remove_21 rfl ?_
      refine j_getR C 31 11 sh_31 (by decide) cl_X8 (by decide) rfl in_X8_remove_X8 lk_X8_remove_20 rfl dX8_remove_22 ?_
      refine j_iload_n C 1 dX8_remove_25 rfl ?_
      refine j_iconst (v := -1) C dX8_remove_26 (by decide) ?_
      obtain ⟨μ4, e5⟩ : ∃ m, m = wr μ1 34 (ix a1) (-1 : Int32) := ⟨_, rfl⟩
      have b6 := h.1
      replace h := h.2 μ4 e5
      refine j_iast C 34 sh_34 (by decide) b6 dX8_remove_27 e5 ?_
      refine j_aload_n C 0 dX8_remove_28 rfl ?_
      refine j_aload_n C 0 dX8_remove_29 rfl ?_
      refine j_getR C 31 13 sh_31 (by decide) cl_X8 (by decide) rfl in_X8_remove_X8 lk_X8_remove_26 rfl dX8_remove_30 ?_
      refine j_iload_n C 1 dX8_remove_33 rfl ?_
      have b7 := h.1
      replace h := h.2
      refine j_iald C 36 sh_36 (by decide) b7 dX8_remove_34 ?_
      refine j_cVV (n := 1) (rest := []) C 31 (c_X8_leaves (xl X) G C.2.2.1 _ (μ4 36 (ix a1)) μ4) h gX8_remove_X8_leaves rfl ⟨rfl, rfl⟩ (by decide +kernel) ⟨by decide, by decide⟩ ⟨by decide, by decide⟩ sh_31 (by decide) cl_X8 rfl rfl (Nat.le_of_ble_eq_true rfl) dX8_remove_35 rfl rfl (fun μ8 h => ?_)
      refine j_aload_n C 0 dX8_remove_38 rfl ?_
      refine j_aload_n C 0 dX8_remove_39 rfl ?_
      refine j_getR C 31 13 sh_31 (by decide) cl_X8 (by decide) rfl in_X8_remove_X8 lk_X8_remove_26 rfl dX8_remove_40 ?_
      refine j_iload_n C 1 dX8_remove_43 rfl ?_
      have b9 := h.1
      replace h := h.2
      refine j_iald C 36 sh_36 (by decide) b9 dX8_remove_44 ?_
      refine j_cVI (n := 1) (rest := []) C 31 (c_X8_names (xl X) G C.2.2.1 _ (μ8 36 (ix a1)) μ8) h gX8_remove_X8_names rfl ⟨rfl, rfl⟩ (by decide +kernel) ⟨by decide, by decide⟩ ⟨by decide, by decide⟩ sh_31 (by decide) cl_X8 rfl rfl (Nat.le_of_ble_eq_true rfl) dX8_remove_45 rfl rfl (fun r11 μ10 h => ?_)
      exact j_iret C hQ (by decide) (by decide) h dX8_remove_48
    · replace h := h.2 c12
      refine j_iconst (v := -1) C dX8_remove_19 (by decide) ?_
      exact j_iret C hQ (by decide) (by decide) h dX8_remove_20
  · replace h := h.2 c13
    refine j_iconst (v := 0) C dX8_remove_8 (by decide) ?_
    exact j_iret C hQ (by decide) (by decide) h dX8_remove_9
/-! X8_thrown -/
abbrev rm_X8_thrown : Room := { frames := 0, cells := 0, slots := 0, locals := 0 }
theorem in_X8_thrown_X8 : ∀ w ∈ wsX80, w ∈ wsX8_thrown := by decide +kernel
theorem lk_X8_thrown_87 : Cond.fieldLink RX8 87 "SameAgainModel" "thrown" "I" ∈ wsX8_thrown := by decide +kernel
set_option maxHeartbeats 4000000 in
set_option maxRecDepth 100000 in
theorem c_X8_thrown (l : Launch) (G : Gt) (hD : Dj G) (post : Int32 → Mem → Prop) (μ : Mem) : MI G l yX8_thrown wsX8_thrown rm_X8_thrown 0 0 [.ref (ad G 31)] μ (w_X8_thrown post μ) post := by
  refine mI_of (cc := cX8_thrown) (maxL := 1) (ty := .int) (lv0 := [(0, .ref (ad G 31))]) hD (by decide) rfl (Nat.le_of_ble_eq_true rfl) rfl ?_
  intro X Q hl C hQ h
  subst hl
  replace C : Cx G X cX8_thrown RX8 wsX8_thrown 1 rm_X8_thrown := C
  unfold w_X8_thrown at h
  refine j_aload_n C 0 dX8_thrown_0 rfl ?_
  refine j_getI C 31 0 sh_31 (by decide) cl_X8 (by decide) rfl in_X8_thrown_X8 lk_X8_thrown_87 rfl dX8_thrown_1 ?_
  exact j_iret C hQ (by decide) (by decide) h dX8_thrown_4
/-! X8_unmerge -/
abbrev rm_X8_unmerge : Room := { frames := 2, cells := 0, slots := 0, locals := 44 }
theorem in_X8_unmerge_X8 : ∀ w ∈ wsX80, w ∈ wsX8_unmerge := by decide +kernel
theorem lk_X8_unmerge_87 : Cond.fieldLink RX8 87 "SameAgainModel" "thrown" "I" ∈ wsX8_unmerge := by decide +kernel
theorem lk_X8_unmerge_205 : Cond.fieldLink RX8 205 "SameAgainModel" "merged" "I" ∈ wsX8_unmerge := by decide +kernel
theorem lk_X8_unmerge_57 : Cond.fieldLink RX8 57 "SameAgainModel" "mergedMany" "[I" ∈ wsX8_unmerge := by decide +kernel
theorem lk_X8_unmerge_108 : Cond.fieldLink RX8 108 "SameAgainModel" "bodies" "I" ∈ wsX8_unmerge := by decide +kernel
theorem lk_X8_unmerge_60 : Cond.fieldLink RX8 60 "SameAgainModel" "mergedTo" "[I" ∈ wsX8_unmerge := by decide +kernel
theorem lk_X8_unmerge_33 : Cond.fieldLink RX8 33 "SameAgainModel" "size" "[I" ∈ wsX8_unmerge := by decide +kernel
theorem lk_X8_unmerge_66 : Cond.fieldLink RX8 66 "SameAgainModel" "mergedOwner" "[I" ∈ wsX8_unmerge := by decide +kernel
theorem lk_X8_unmerge_39 : Cond.fieldLink RX8 39 "SameAgainModel" "written" "[I" ∈ wsX8_unmerge := by decide +kernel
theorem lk_X8_unmerge_26 : Cond.fieldLink RX8 26 "SameAgainModel" "body" "[I" ∈ wsX8_unmerge := by decide +kernel
theorem lk_X8_unmerge_63 : Cond.fieldLink RX8 63 "SameAgainModel" "mergedFile" "[I" ∈ wsX8_unmerge := by decide +kernel
set_option maxHeartbeats 4000000 in
set_option maxRecDepth 100000 in
theorem w_X8_unmerge_b86_j {G : Gt} {X : Cxt} {Q : State → Prop} (C : Cx G X cX8_unmerge RX8 wsX8_unmerge 6 rm_X8_unmerge) {post : Int32 → Mem → Prop} (hQ : RetI G X Q post .int 0 0) : ∀ (n : Nat) (v1 v2 v3 v4 : Int32) (μ : Mem), itr (fun _ _ _ _ _ => False) (w_X8_unmerge_b86 post) n v1 v2 v3 v4 μ → J G X Q 6 0 0 86 [(0, .ref (ad G 31)), (1, .int v1), (2, .int v2), (3, .int v3), (4, .int v4)] [] μ := by
  intro n
  induction n with
  | zero => intro v1 v2 v3 v4 μ h; exact h.elim
  | succ n ih =>
    intro v1 v2 v3 v4 μ h
    replace h : w_X8_unmerge_b86 post (itr (fun _ _ _ _ _ => False) (w_X8_unmerge_b86 post) n) v1 v2 v3 v4 μ := h
    generalize itr (fun _ _ _ _ _ => False) (w_X8_unmerge_b86 post) n = k86 at ih h
    have hk86 := ih
    unfold w_X8_unmerge_b86 at h
    refine j_iload C 4 dX8_unmerge_86 rfl ?_
    refine j_aload_n C 0 dX8_unmerge_88 rfl ?_
    refine j_getR C 31 24 sh_31 (by decide) cl_X8 (by decide) rfl in_X8_unmerge_X8 lk_X8_unmerge_57 rfl dX8_unmerge_89 ?_
    refine j_iload_n C 1 dX8_unmerge_92 rfl ?_
    have b7 := h.1
    replace h := h.2
    refine j_iald C 46 sh_46 (by decide) b7 dX8_unmerge_93 ?_
    refine j_icmp_ge C 172 dX8_unmerge_94 (by decide) (fun c22 => ?_) (fun c22 => ?_)
    · replace h := h.1 c22
      refine j_aload_n C 0 dX8_unmerge_172 rfl ?_
      refine j_iload_n C 3 dX8_unmerge_173 rfl ?_
      refine j_cVV (n := 1) (rest := []) C 31 (c_X8_leaves (xl X) G C.2.2.1 _ v3 μ) h gX8_unmerge_X8_leaves rfl ⟨rfl, rfl⟩ (by decide +kernel) ⟨by decide, by decide⟩ ⟨by decide, by decide⟩ sh_31 (by decide) cl_X8 rfl rfl (Nat.le_of_ble_eq_true rfl) dX8_unmerge_174 rfl rfl (fun μ8 h => ?_)
      refine j_iload_n C 2 dX8_unmerge_177 rfl ?_
      exact j_iret C hQ (by decide) (by decide) h dX8_unmerge_178
    · replace h := h.2 c22
      refine j_aload_n C 0 dX8_unmerge_97 rfl ?_
      refine j_iload_n C 1 dX8_unmerge_98 rfl ?_
      refine j_iload C 4 dX8_unmerge_99 rfl ?_
      refine j_cVI (n := 2) (rest := []) C 31 (c_X8_isStill (xl X) G C.2.2.1 _ v1 v4 μ) h gX8_unmerge_X8_isStill rfl ⟨rfl, rfl⟩ (by decide +kernel) ⟨by decide, by decide⟩ ⟨by decide, by decide⟩ sh_31 (by decide) cl_X8 rfl rfl (Nat.le_of_ble_eq_true rfl) dX8_unmerge_101 rfl rfl (fun r10 μ9 h => ?_)
      refine j_if_ne C 110 dX8_unmerge_104 (by decide) (fun c21 => ?_) (fun c21 => ?_)
      · replace h := h.1 c21
        refine j_aload_n C 0 dX8_unmerge_110 rfl ?_
        refine j_aload_n C 0 dX8_unmerge_111 rfl ?_
        refine j_getR C 31 15 sh_31 (by decide) cl_X8 (by decide) rfl in_X8_unmerge_X8 lk_X8_unmerge_33 rfl dX8_unmerge_112 ?_
        refine j_iload_n C 3 dX8_unmerge_115 rfl ?_
        have b11 := h.1
        replace h := h.2
        refine j_iald C 38 sh_38 (by decide) b11 dX8_unmerge_116 ?_
        refine j_aload_n C 0 dX8_unmerge_117 rfl ?_
        refine j_getR C 31 27 sh_31 (by decide) cl_X8 (by decide) rfl in_X8_unmerge_X8 lk_X8_unmerge_66 rfl dX8_unmerge_118 ?_
        refine j_bipush (v := 60) C dX8_unmerge_121 (by decide) ?_
        refine j_iload_n C 1 dX8_unmerge_123 rfl ?_
        refine j_imul C dX8_unmerge_124 ?_
        refine j_iload C 4 dX8_unmerge_125 rfl ?_
        refine j_iadd C dX8_unmerge_127 ?_
        have b12 := h.1
        replace h := h.2
        refine j_iald C 49 sh_49 (by decide) b12 dX8_unmerge_128 ?_
        refine j_aload_n C 0 dX8_unmerge_129 rfl ?_
        refine j_getR C 31 17 sh_31 (by decide) cl_X8 (by decide) rfl in_X8_unmerge_X8 lk_X8_unmerge_39 rfl dX8_unmerge_130 ?_
        refine j_iload_n C 3 dX8_unmerge_133 rfl ?_
        have b13 := h.1
        replace h := h.2
        refine j_iald C 40 sh_40 (by decide) b13 dX8_unmerge_134 ?_
        refine j_cVI (n := 3) (rest := []) C 31 (c_X8_newBody (xl X) G C.2.2.1 _ (μ9 38 (ix v3)) (μ9 49 (ix (((60 : Int32) * v1) + v4))) (μ9 40 (ix v3)) μ9) h gX8_unmerge_X8_newBody rfl ⟨rfl, rfl⟩ (by decide +kernel) ⟨by decide, by decide⟩ ⟨by decide, by decide⟩ sh_31 (by decide) cl_X8 rfl rfl (Nat.le_of_ble_eq_true rfl) dX8_unmerge_135 rfl rfl (fun r15 μ14 h => ?_)
        refine j_istore (lv' := [(0, .ref (ad G 31)), (1, .int v1), (2, .int v2), (3, .int v3), (4, .int v4), (5, .int r15)]) C dX8_unmerge_138 (by decide) rfl rfl ?_
        refine j_aload_n C 0 dX8_unmerge_140 rfl ?_
        refine j_iload C 5 dX8_unmerge_141 rfl ?_
        refine j_iload_n C 3 dX8_unmerge_143 rfl ?_
        refine j_cVV (n := 2) (rest := []) C 31 (c_X8_fillsFrom (xl X) G C.2.2.1 _ r15 v3 μ14) h gX8_unmerge_X8_fillsFrom rfl ⟨rfl, rfl⟩ (by decide +kernel) ⟨by decide, by decide⟩ ⟨by decide, by decide⟩ sh_31 (by decide) cl_X8 rfl rfl (Nat.le_of_ble_eq_true rfl) dX8_unmerge_144 rfl rfl (fun μ16 h => ?_)
        refine j_aload_n C 0 dX8_unmerge_147 rfl ?_
        refine j_getR C 31 13 sh_31 (by decide) cl_X8 (by decide) rfl in_X8_unmerge_X8 lk_X8_unmerge_26 rfl dX8_unmerge_148 ?_
        refine j_aload_n C 0 dX8_unmerge_151 rfl ?_
        refine j_getR C 31 26 sh_31 (by decide) cl_X8 (by decide) rfl in_X8_unmerge_X8 lk_X8_unmerge_63 rfl dX8_unmerge_152 ?_
        refine j_bipush (v := 60) C dX8_unmerge_155 (by decide) ?_
        refine j_iload_n C 1 dX8_unmerge_157 rfl ?_
        refine j_imul C dX8_unmerge_158 ?_
        refine j_iload C 4 dX8_unmerge_159 rfl ?_
        refine j_iadd C dX8_unmerge_161 ?_
        have b17 := h.1
        replace h := h.2
        refine j_iald C 48 sh_48 (by decide) b17 dX8_unmerge_162 ?_
        refine j_iload C 5 dX8_unmerge_163 rfl ?_
        obtain ⟨μ18, e19⟩ : ∃ m, m = wr μ16 36 (ix (μ16 48 (ix (((60 : Int32) * v1) + v4)))) r15 := ⟨_, rfl⟩
        have b20 := h.1
        replace h := h.2 μ18 e19
        refine j_iast C 36 sh_36 (by decide) b20 dX8_unmerge_165 e19 ?_
        refine j_iinc (v := v4 + (1 : Int32)) (lv' := [(0, .ref (ad G 31)), (1, .int v1), (2, .int v2), (3, .int v3), (4, .int (v4 + (1 : Int32))), (5, .int r15)]) C 4 dX8_unmerge_166 rfl rfl (by decide) rfl rfl ?_
        refine j_goto C 86 dX8_unmerge_169 (by decide) ?_
        refine j_forget [0, 1, 2, 3, 4] rfl ?_
        exact hk86 _ _ _ _ _ h
      · replace h := h.2 c21
        refine j_goto C 166 dX8_unmerge_107 (by decide) ?_
        refine j_iinc (v := v4 + (1 : Int32)) (lv' := [(0, .ref (ad G 31)), (1, .int v1), (2, .int v2), (3, .int v3), (4, .int (v4 + (1 : Int32)))]) C 4 dX8_unmerge_166 rfl rfl (by decide) rfl rfl ?_
        refine j_goto C 86 dX8_unmerge_169 (by decide) ?_
        exact hk86 _ _ _ _ _ h
set_option maxHeartbeats 4000000 in
set_option maxRecDepth 100000 in
theorem w_X8_unmerge_b25_j {G : Gt} {X : Cxt} {Q : State → Prop} (C : Cx G X cX8_unmerge RX8 wsX8_unmerge 6 rm_X8_unmerge) {post : Int32 → Mem → Prop} (hQ : RetI G X Q post .int 0 0) : ∀ (n : Nat) (v1 v2 v3 : Int32) (μ : Mem), itr (fun _ _ _ _ => False) (w_X8_unmerge_b25 post) n v1 v2 v3 μ → J G X Q 6 0 0 25 [(0, .ref (ad G 31)), (1, .int v1), (2, .int v2), (3, .int v3)] [] μ := by
  intro n
  induction n with
  | zero => intro v1 v2 v3 μ h; exact h.elim
  | succ n ih =>
    intro v1 v2 v3 μ h
    replace h : w_X8_unmerge_b25 post (itr (fun _ _ _ _ => False) (w_X8_unmerge_b25 post) n) v1 v2 v3 μ := h
    generalize itr (fun _ _ _ _ => False) (w_X8_unmerge_b25 post) n = k25 at ih h
    have hk25 := ih
    unfold w_X8_unmerge_b25 at h
    refine j_iload_n C 3 dX8_unmerge_25 rfl ?_
    refine j_aload_n C 0 dX8_unmerge_26 rfl ?_
    refine j_getR C 31 24 sh_31 (by decide) cl_X8 (by decide) rfl in_X8_unmerge_X8 lk_X8_unmerge_57 rfl dX8_unmerge_27 ?_
    refine j_iload_n C 1 dX8_unmerge_30 rfl ?_
    have b3 := h.1
    replace h := h.2
    refine j_iald C 46 sh_46 (by decide) b3 dX8_unmerge_31 ?_
    refine j_icmp_ge C 53 dX8_unmerge_32 (by decide) (fun c27 => ?_) (fun c27 => ?_)
    · replace h := h.1 c27
      refine j_aload_n C 0 dX8_unmerge_53 rfl ?_
      refine j_getI C 31 3 sh_31 (by decide) cl_X8 (by decide) rfl in_X8_unmerge_X8 lk_X8_unmerge_108 rfl dX8_unmerge_54 ?_
      refine j_iload_n C 2 dX8_unmerge_57 rfl ?_
      refine j_iadd C dX8_unmerge_58 ?_
      refine j_bipush (v := 100) C dX8_unmerge_59 (by decide) ?_
      refine j_icmp_le C 66 dX8_unmerge_61 (by decide) (fun c23 => ?_) (fun c23 => ?_)
      · replace h := h.1 c23
        refine j_aload_n C 0 dX8_unmerge_66 rfl ?_
        refine j_dup C dX8_unmerge_67 rfl ?_
        refine j_getI C 31 23 sh_31 (by decide) cl_X8 (by decide) rfl in_X8_unmerge_X8 lk_X8_unmerge_205 rfl dX8_unmerge_68 ?_
        refine j_iconst (v := 1) C dX8_unmerge_71 (by decide) ?_
        refine j_isub C dX8_unmerge_72 ?_
        obtain ⟨μ4, e5⟩ : ∃ m, m = wr μ 31 23 ((μ 31 23) - (1 : Int32)) := ⟨_, rfl⟩
        replace h := h μ4 e5
        refine j_put C 31 23 sh_31 (by decide) cl_X8 (by decide) rfl in_X8_unmerge_X8 lk_X8_unmerge_205 rfl tyX8_ok nmX8 rfl rfl dX8_unmerge_73 e5 ?_
        refine j_aload_n C 0 dX8_unmerge_76 rfl ?_
        refine j_getR C 31 25 sh_31 (by decide) cl_X8 (by decide) rfl in_X8_unmerge_X8 lk_X8_unmerge_60 rfl dX8_unmerge_77 ?_
        refine j_iload_n C 1 dX8_unmerge_80 rfl ?_
        have b6 := h.1
        replace h := h.2
        refine j_iald C 47 sh_47 (by decide) b6 dX8_unmerge_81 ?_
        refine j_istore_n (lv' := [(0, .ref (ad G 31)), (1, .int v1), (2, .int v2), (3, .int (μ4 47 (ix v1)))]) C dX8_unmerge_82 (by decide) rfl rfl ?_
        refine j_iconst (v := 0) C dX8_unmerge_83 (by decide) ?_
        refine j_istore (lv' := [(0, .ref (ad G 31)), (1, .int v1), (2, .int v2), (3, .int (μ4 47 (ix v1))), (4, .int (0 : Int32))]) C dX8_unmerge_84 (by decide) rfl rfl ?_
        obtain ⟨n9, h⟩ := h
        exact w_X8_unmerge_b86_j C hQ n9 _ _ _ _ _ h
      · replace h := h.2 c23
        refine j_iconst (v := -1) C dX8_unmerge_64 (by decide) ?_
        exact j_iret C hQ (by decide) (by decide) h dX8_unmerge_65
    · replace h := h.2 c27
      refine j_aload_n C 0 dX8_unmerge_35 rfl ?_
      refine j_iload_n C 1 dX8_unmerge_36 rfl ?_
      refine j_iload_n C 3 dX8_unmerge_37 rfl ?_
      refine j_cVI (n := 2) (rest := []) C 31 (c_X8_isStill (xl X) G C.2.2.1 _ v1 v3 μ) h gX8_unmerge_X8_isStill rfl ⟨rfl, rfl⟩ (by decide +kernel) ⟨by decide, by decide⟩ ⟨by decide, by decide⟩ sh_31 (by decide) cl_X8 rfl rfl (Nat.le_of_ble_eq_true rfl) dX8_unmerge_38 rfl rfl (fun r25 μ24 h => ?_)
      refine j_if_eq C 47 dX8_unmerge_41 (by decide) (fun c26 => ?_) (fun c26 => ?_)
      · replace h := h.1 c26
        refine j_iinc (v := v3 + (1 : Int32)) (lv' := [(0, .ref (ad G 31)), (1, .int v1), (2, .int v2), (3, .int (v3 + (1 : Int32)))]) C 3 dX8_unmerge_47 rfl rfl (by decide) rfl rfl ?_
        refine j_goto C 25 dX8_unmerge_50 (by decide) ?_
        exact hk25 _ _ _ _ h
      · replace h := h.2 c26
        refine j_iinc (v := v2 + (1 : Int32)) (lv' := [(0, .ref (ad G 31)), (1, .int v1), (2, .int (v2 + (1 : Int32))), (3, .int v3)]) C 2 dX8_unmerge_44 rfl rfl (by decide) rfl rfl ?_
        refine j_iinc (v := v3 + (1 : Int32)) (lv' := [(0, .ref (ad G 31)), (1, .int v1), (2, .int (v2 + (1 : Int32))), (3, .int (v3 + (1 : Int32)))]) C 3 dX8_unmerge_47 rfl rfl (by decide) rfl rfl ?_
        refine j_goto C 25 dX8_unmerge_50 (by decide) ?_
        exact hk25 _ _ _ _ h
set_option maxHeartbeats 4000000 in
set_option maxRecDepth 100000 in
theorem c_X8_unmerge (l : Launch) (G : Gt) (hD : Dj G) (post : Int32 → Mem → Prop) (μ : Mem) : MI G l yX8_unmerge wsX8_unmerge rm_X8_unmerge 0 0 [.ref (ad G 31)] μ (w_X8_unmerge post μ) post := by
  refine mI_of (cc := cX8_unmerge) (maxL := 6) (ty := .int) (lv0 := [(0, .ref (ad G 31))]) hD (by decide) rfl (Nat.le_of_ble_eq_true rfl) rfl ?_
  intro X Q hl C hQ h
  subst hl
  replace C : Cx G X cX8_unmerge RX8 wsX8_unmerge 6 rm_X8_unmerge := C
  unfold w_X8_unmerge at h
  refine j_aload_n C 0 dX8_unmerge_0 rfl ?_
  refine j_iconst (v := 0) C dX8_unmerge_1 (by decide) ?_
  obtain ⟨μ1, e2⟩ : ∃ m, m = wr μ 31 0 (0 : Int32) := ⟨_, rfl⟩
  replace h := h μ1 e2
  refine j_put C 31 0 sh_31 (by decide) cl_X8 (by decide) rfl in_X8_unmerge_X8 lk_X8_unmerge_87 rfl tyX8_ok nmX8 rfl rfl dX8_unmerge_2 e2 ?_
  refine j_aload_n C 0 dX8_unmerge_5 rfl ?_
  refine j_getI C 31 23 sh_31 (by decide) cl_X8 (by decide) rfl in_X8_unmerge_X8 lk_X8_unmerge_205 rfl dX8_unmerge_6 ?_
  refine j_if_ne C 14 dX8_unmerge_9 (by decide) (fun c28 => ?_) (fun c28 => ?_)
  · replace h := h.1 c28
    refine j_aload_n C 0 dX8_unmerge_14 rfl ?_
    refine j_getI C 31 23 sh_31 (by decide) cl_X8 (by decide) rfl in_X8_unmerge_X8 lk_X8_unmerge_205 rfl dX8_unmerge_15 ?_
    refine j_iconst (v := 1) C dX8_unmerge_18 (by decide) ?_
    refine j_isub C dX8_unmerge_19 ?_
    refine j_istore_n (lv' := [(0, .ref (ad G 31)), (1, .int ((μ1 31 23) - (1 : Int32)))]) C dX8_unmerge_20 (by decide) rfl rfl ?_
    refine j_iconst (v := 0) C dX8_unmerge_21 (by decide) ?_
    refine j_istore_n (lv' := [(0, .ref (ad G 31)), (1, .int ((μ1 31 23) - (1 : Int32))), (2, .int (0 : Int32))]) C dX8_unmerge_22 (by decide) rfl rfl ?_
    refine j_iconst (v := 0) C dX8_unmerge_23 (by decide) ?_
    refine j_istore_n (lv' := [(0, .ref (ad G 31)), (1, .int ((μ1 31 23) - (1 : Int32))), (2, .int (0 : Int32)), (3, .int (0 : Int32))]) C dX8_unmerge_24 (by decide) rfl rfl ?_
    obtain ⟨n9, h⟩ := h
    exact w_X8_unmerge_b25_j C hQ n9 _ _ _ _ h
  · replace h := h.2 c28
    refine j_iconst (v := -1) C dX8_unmerge_12 (by decide) ?_
    exact j_iret C hQ (by decide) (by decide) h dX8_unmerge_13
/-! X8_unwish -/
abbrev rm_X8_unwish : Room := { frames := 0, cells := 0, slots := 0, locals := 0 }
theorem in_X8_unwish_X8 : ∀ w ∈ wsX80, w ∈ wsX8_unwish := by decide +kernel
theorem lk_X8_unwish_87 : Cond.fieldLink RX8 87 "SameAgainModel" "thrown" "I" ∈ wsX8_unwish := by decide +kernel
theorem lk_X8_unwish_184 : Cond.fieldLink RX8 184 "SameAgainModel" "wishes" "I" ∈ wsX8_unwish := by decide +kernel
set_option maxHeartbeats 4000000 in
set_option maxRecDepth 100000 in
theorem c_X8_unwish (l : Launch) (G : Gt) (hD : Dj G) (post : Int32 → Mem → Prop) (μ : Mem) : MI G l yX8_unwish wsX8_unwish rm_X8_unwish 0 0 [.ref (ad G 31)] μ (w_X8_unwish post μ) post := by
  refine mI_of (cc := cX8_unwish) (maxL := 2) (ty := .int) (lv0 := [(0, .ref (ad G 31))]) hD (by decide) rfl (Nat.le_of_ble_eq_true rfl) rfl ?_
  intro X Q hl C hQ h
  subst hl
  replace C : Cx G X cX8_unwish RX8 wsX8_unwish 2 rm_X8_unwish := C
  unfold w_X8_unwish at h
  refine j_aload_n C 0 dX8_unwish_0 rfl ?_
  refine j_iconst (v := 0) C dX8_unwish_1 (by decide) ?_
  obtain ⟨μ1, e2⟩ : ∃ m, m = wr μ 31 0 (0 : Int32) := ⟨_, rfl⟩
  replace h := h μ1 e2
  refine j_put C 31 0 sh_31 (by decide) cl_X8 (by decide) rfl in_X8_unwish_X8 lk_X8_unwish_87 rfl tyX8_ok nmX8 rfl rfl dX8_unwish_2 e2 ?_
  refine j_aload_n C 0 dX8_unwish_5 rfl ?_
  refine j_getI C 31 8 sh_31 (by decide) cl_X8 (by decide) rfl in_X8_unwish_X8 lk_X8_unwish_184 rfl dX8_unwish_6 ?_
  refine j_istore_n (lv' := [(0, .ref (ad G 31)), (1, .int (μ1 31 8))]) C dX8_unwish_9 (by decide) rfl rfl ?_
  refine j_aload_n C 0 dX8_unwish_10 rfl ?_
  refine j_iconst (v := 0) C dX8_unwish_11 (by decide) ?_
  obtain ⟨μ3, e4⟩ : ∃ m, m = wr μ1 31 8 (0 : Int32) := ⟨_, rfl⟩
  replace h := h μ3 e4
  refine j_put C 31 8 sh_31 (by decide) cl_X8 (by decide) rfl in_X8_unwish_X8 lk_X8_unwish_184 rfl tyX8_ok nmX8 rfl rfl dX8_unwish_12 e4 ?_
  refine j_iload_n C 1 dX8_unwish_15 rfl ?_
  exact j_iret C hQ (by decide) (by decide) h dX8_unwish_16
/-! X8_wish -/
abbrev rm_X8_wish : Room := { frames := 2, cells := 0, slots := 0, locals := 43 }
theorem in_X8_wish_X8 : ∀ w ∈ wsX80, w ∈ wsX8_wish := by decide +kernel
theorem lk_X8_wish_87 : Cond.fieldLink RX8 87 "SameAgainModel" "thrown" "I" ∈ wsX8_wish := by decide +kernel
theorem lk_X8_wish_184 : Cond.fieldLink RX8 184 "SameAgainModel" "wishes" "I" ∈ wsX8_wish := by decide +kernel
theorem lk_X8_wish_48 : Cond.fieldLink RX8 48 "SameAgainModel" "wish" "[I" ∈ wsX8_wish := by decide +kernel
theorem lk_X8_wish_51 : Cond.fieldLink RX8 51 "SameAgainModel" "wishFolder" "[I" ∈ wsX8_wish := by decide +kernel
set_option maxHeartbeats 4000000 in
set_option maxRecDepth 100000 in
theorem w_X8_wish_b43_j {G : Gt} {X : Cxt} {Q : State → Prop} (C : Cx G X cX8_wish RX8 wsX8_wish 4 rm_X8_wish) {post : Int32 → Mem → Prop} (hQ : RetI G X Q post .int 0 0) : ∀ (n : Nat) (v1 v2 v3 : Int32) (μ : Mem), itr (fun _ _ _ _ => False) (w_X8_wish_b43 post) n v1 v2 v3 μ → J G X Q 4 0 0 43 [(0, .ref (ad G 31)), (1, .int v1), (2, .int v2), (3, .int v3)] [] μ := by
  intro n
  induction n with
  | zero => intro v1 v2 v3 μ h; exact h.elim
  | succ n ih =>
    intro v1 v2 v3 μ h
    replace h : w_X8_wish_b43 post (itr (fun _ _ _ _ => False) (w_X8_wish_b43 post) n) v1 v2 v3 μ := h
    generalize itr (fun _ _ _ _ => False) (w_X8_wish_b43 post) n = k43 at ih h
    have hk43 := ih
    unfold w_X8_wish_b43 at h
    refine j_iload_n C 3 dX8_wish_43 rfl ?_
    refine j_aload_n C 0 dX8_wish_44 rfl ?_
    refine j_getI C 31 8 sh_31 (by decide) cl_X8 (by decide) rfl in_X8_wish_X8 lk_X8_wish_184 rfl dX8_wish_45 ?_
    refine j_icmp_ge C 83 dX8_wish_48 (by decide) (fun c19 => ?_) (fun c19 => ?_)
    · replace h := h.1 c19
      refine j_aload_n C 0 dX8_wish_83 rfl ?_
      refine j_getI C 31 8 sh_31 (by decide) cl_X8 (by decide) rfl in_X8_wish_X8 lk_X8_wish_184 rfl dX8_wish_84 ?_
      refine j_iconst (v := 3) C dX8_wish_87 (by decide) ?_
      refine j_icmp_ne C 93 dX8_wish_88 (by decide) (fun c13 => ?_) (fun c13 => ?_)
      · replace h := h.1 c13
        refine j_aload_n C 0 dX8_wish_93 rfl ?_
        refine j_getR C 31 20 sh_31 (by decide) cl_X8 (by decide) rfl in_X8_wish_X8 lk_X8_wish_48 rfl dX8_wish_94 ?_
        refine j_aload_n C 0 dX8_wish_97 rfl ?_
        refine j_getI C 31 8 sh_31 (by decide) cl_X8 (by decide) rfl in_X8_wish_X8 lk_X8_wish_184 rfl dX8_wish_98 ?_
        refine j_iload_n C 1 dX8_wish_101 rfl ?_
        obtain ⟨μ5, e6⟩ : ∃ m, m = wr μ 43 (ix (μ 31 8)) v1 := ⟨_, rfl⟩
        have b7 := h.1
        replace h := h.2 μ5 e6
        refine j_iast C 43 sh_43 (by decide) b7 dX8_wish_102 e6 ?_
        refine j_aload_n C 0 dX8_wish_103 rfl ?_
        refine j_getR C 31 21 sh_31 (by decide) cl_X8 (by decide) rfl in_X8_wish_X8 lk_X8_wish_51 rfl dX8_wish_104 ?_
        refine j_aload_n C 0 dX8_wish_107 rfl ?_
        refine j_getI C 31 8 sh_31 (by decide) cl_X8 (by decide) rfl in_X8_wish_X8 lk_X8_wish_184 rfl dX8_wish_108 ?_
        refine j_iload_n C 2 dX8_wish_111 rfl ?_
        obtain ⟨μ8, e9⟩ : ∃ m, m = wr μ5 44 (ix (μ5 31 8)) v2 := ⟨_, rfl⟩
        have b10 := h.1
        replace h := h.2 μ8 e9
        refine j_iast C 44 sh_44 (by decide) b10 dX8_wish_112 e9 ?_
        refine j_aload_n C 0 dX8_wish_113 rfl ?_
        refine j_dup C dX8_wish_114 rfl ?_
        refine j_getI C 31 8 sh_31 (by decide) cl_X8 (by decide) rfl in_X8_wish_X8 lk_X8_wish_184 rfl dX8_wish_115 ?_
        refine j_iconst (v := 1) C dX8_wish_118 (by decide) ?_
        refine j_iadd C dX8_wish_119 ?_
        obtain ⟨μ11, e12⟩ : ∃ m, m = wr μ8 31 8 ((μ8 31 8) + (1 : Int32)) := ⟨_, rfl⟩
        replace h := h μ11 e12
        refine j_put C 31 8 sh_31 (by decide) cl_X8 (by decide) rfl in_X8_wish_X8 lk_X8_wish_184 rfl tyX8_ok nmX8 rfl rfl dX8_wish_120 e12 ?_
        refine j_aload_n C 0 dX8_wish_123 rfl ?_
        refine j_getI C 31 8 sh_31 (by decide) cl_X8 (by decide) rfl in_X8_wish_X8 lk_X8_wish_184 rfl dX8_wish_124 ?_
        exact j_iret C hQ (by decide) (by decide) h dX8_wish_127
      · replace h := h.2 c13
        refine j_iconst (v := -1) C dX8_wish_91 (by decide) ?_
        exact j_iret C hQ (by decide) (by decide) h dX8_wish_92
    · replace h := h.2 c19
      refine j_aload_n C 0 dX8_wish_51 rfl ?_
      refine j_getR C 31 20 sh_31 (by decide) cl_X8 (by decide) rfl in_X8_wish_X8 lk_X8_wish_48 rfl dX8_wish_52 ?_
      refine j_iload_n C 3 dX8_wish_55 rfl ?_
      have b14 := h.1
      replace h := h.2
      refine j_iald C 43 sh_43 (by decide) b14 dX8_wish_56 ?_
      refine j_iload_n C 1 dX8_wish_57 rfl ?_
      refine j_icmp_ne C 77 dX8_wish_58 (by decide) (fun c18 => ?_) (fun c18 => ?_)
      · replace h := h.1 c18
        refine j_iinc (v := v3 + (1 : Int32)) (lv' := [(0, .ref (ad G 31)), (1, .int v1), (2, .int v2), (3, .int (v3 + (1 : Int32)))]) C 3 dX8_wish_77 rfl rfl (by decide) rfl rfl ?_
        refine j_goto C 43 dX8_wish_80 (by decide) ?_
        exact hk43 _ _ _ _ h
      · replace h := h.2 c18
        refine j_iload_n C 1 dX8_wish_61 rfl ?_
        refine j_if_ne C 75 dX8_wish_62 (by decide) (fun c17 => ?_) (fun c17 => ?_)
        · replace h := h.1 c17
          refine j_iconst (v := -1) C dX8_wish_75 (by decide) ?_
          exact j_iret C hQ (by decide) (by decide) h dX8_wish_76
        · replace h := h.2 c17
          refine j_aload_n C 0 dX8_wish_65 rfl ?_
          refine j_getR C 31 21 sh_31 (by decide) cl_X8 (by decide) rfl in_X8_wish_X8 lk_X8_wish_51 rfl dX8_wish_66 ?_
          refine j_iload_n C 3 dX8_wish_69 rfl ?_
          have b15 := h.1
          replace h := h.2
          refine j_iald C 44 sh_44 (by decide) b15 dX8_wish_70 ?_
          refine j_iload_n C 2 dX8_wish_71 rfl ?_
          refine j_icmp_ne C 77 dX8_wish_72 (by decide) (fun c16 => ?_) (fun c16 => ?_)
          · replace h := h.1 c16
            refine j_iinc (v := v3 + (1 : Int32)) (lv' := [(0, .ref (ad G 31)), (1, .int v1), (2, .int v2), (3, .int (v3 + (1 : Int32)))]) C 3 dX8_wish_77 rfl rfl (by decide) rfl rfl ?_
            refine j_goto C 43 dX8_wish_80 (by decide) ?_
            exact hk43 _ _ _ _ h
          · replace h := h.2 c16
            refine j_iconst (v := -1) C dX8_wish_75 (by decide) ?_
            exact j_iret C hQ (by decide) (by decide) h dX8_wish_76
set_option maxHeartbeats 4000000 in
set_option maxRecDepth 100000 in
theorem w_X8_wish_b41_j {G : Gt} {X : Cxt} {Q : State → Prop} (C : Cx G X cX8_wish RX8 wsX8_wish 4 rm_X8_wish) {post : Int32 → Mem → Prop} (hQ : RetI G X Q post .int 0 0) {v1 v2 : Int32} {μ : Mem} (h : w_X8_wish_b41 post v1 v2 μ) : J G X Q 4 0 0 41 [(0, .ref (ad G 31)), (1, .int v1), (2, .int v2)] [] μ := by
  unfold w_X8_wish_b41 at h
  refine j_iconst (v := 0) C dX8_wish_41 (by decide) ?_
  refine j_istore_n (lv' := [(0, .ref (ad G 31)), (1, .int v1), (2, .int v2), (3, .int (0 : Int32))]) C dX8_wish_42 (by decide) rfl rfl ?_
  obtain ⟨n9, h⟩ := h
  exact w_X8_wish_b43_j C hQ n9 _ _ _ _ h
set_option maxHeartbeats 4000000 in
set_option maxRecDepth 100000 in
theorem w_X8_wish_b20_j {G : Gt} {X : Cxt} {Q : State → Prop} (C : Cx G X cX8_wish RX8 wsX8_wish 4 rm_X8_wish) {post : Int32 → Mem → Prop} (hQ : RetI G X Q post .int 0 0) {v1 v2 s0 : Int32} {μ : Mem} (h : w_X8_wish_b20 post v1 v2 s0 μ) : J G X Q 4 0 0 20 [(0, .ref (ad G 31)), (1, .int v1), (2, .int v2)] [.int s0, .ref (ad G 31)] μ := by
  unfold w_X8_wish_b20 at h
  refine j_iconst (v := 2) C dX8_wish_20 (by decide) ?_
  refine j_cVI (n := 2) (rest := []) C 31 (c_X8_right (xl X) G C.2.2.1 _ s0 (2 : Int32) μ) h gX8_wish_X8_right rfl ⟨rfl, rfl⟩ (by decide +kernel) ⟨by decide, by decide⟩ ⟨by decide, by decide⟩ sh_31 (by decide) cl_X8 rfl rfl (Nat.le_of_ble_eq_true rfl) dX8_wish_21 rfl rfl (fun r4 μ3 h => ?_)
  refine j_if_eq C 39 dX8_wish_24 (by decide) (fun c24 => ?_) (fun c24 => ?_)
  · replace h := h.1 c24
    refine j_iconst (v := 0) C dX8_wish_39 (by decide) ?_
    exact j_iret C hQ (by decide) (by decide) h dX8_wish_40
  · replace h := h.2 c24
    refine j_iload_n C 1 dX8_wish_27 rfl ?_
    refine j_if_ne C 41 dX8_wish_28 (by decide) (fun c23 => ?_) (fun c23 => ?_)
    · replace h := h.1 c23
      exact w_X8_wish_b41_j C hQ h
    · replace h := h.2 c23
      refine j_aload_n C 0 dX8_wish_31 rfl ?_
      refine j_iload_n C 2 dX8_wish_32 rfl ?_
      refine j_cVI (n := 1) (rest := []) C 31 (c_X8_isFolder (xl X) G C.2.2.1 _ v2 μ3) h gX8_wish_X8_isFolder rfl ⟨rfl, rfl⟩ (by decide +kernel) ⟨by decide, by decide⟩ ⟨by decide, by decide⟩ sh_31 (by decide) cl_X8 rfl rfl (Nat.le_of_ble_eq_true rfl) dX8_wish_33 rfl rfl (fun r21 μ20 h => ?_)
      refine j_if_ne C 41 dX8_wish_36 (by decide) (fun c22 => ?_) (fun c22 => ?_)
      · replace h := h.1 c22
        exact w_X8_wish_b41_j C hQ h
      · replace h := h.2 c22
        refine j_iconst (v := 0) C dX8_wish_39 (by decide) ?_
        exact j_iret C hQ (by decide) (by decide) h dX8_wish_40
set_option maxHeartbeats 4000000 in
set_option maxRecDepth 100000 in
theorem w_X8_wish_b19_j {G : Gt} {X : Cxt} {Q : State → Prop} (C : Cx G X cX8_wish RX8 wsX8_wish 4 rm_X8_wish) {post : Int32 → Mem → Prop} (hQ : RetI G X Q post .int 0 0) {v1 v2 : Int32} {μ : Mem} (h : w_X8_wish_b19 post v1 v2 μ) : J G X Q 4 0 0 19 [(0, .ref (ad G 31)), (1, .int v1), (2, .int v2)] [.ref (ad G 31)] μ := by
  unfold w_X8_wish_b19 at h
  refine j_iconst (v := 0) C dX8_wish_19 (by decide) ?_
  exact w_X8_wish_b20_j C hQ h
set_option maxHeartbeats 4000000 in
set_option maxRecDepth 100000 in
theorem c_X8_wish (l : Launch) (G : Gt) (hD : Dj G) (post : Int32 → Mem → Prop) (a1 a2 : Int32) (μ : Mem) : MI G l yX8_wish wsX8_wish rm_X8_wish 0 0 [.ref (ad G 31), .int a1, .int a2] μ (w_X8_wish post a1 a2 μ) post := by
  refine mI_of (cc := cX8_wish) (maxL := 4) (ty := .int) (lv0 := [(0, .ref (ad G 31)), (1, .int a1), (2, .int a2)]) hD (by decide) rfl (Nat.le_of_ble_eq_true rfl) rfl ?_
  intro X Q hl C hQ h
  subst hl
  replace C : Cx G X cX8_wish RX8 wsX8_wish 4 rm_X8_wish := C
  unfold w_X8_wish at h
  refine j_aload_n C 0 dX8_wish_0 rfl ?_
  refine j_iconst (v := 0) C dX8_wish_1 (by decide) ?_
  obtain ⟨μ1, e2⟩ : ∃ m, m = wr μ 31 0 (0 : Int32) := ⟨_, rfl⟩
  replace h := h μ1 e2
  refine j_put C 31 0 sh_31 (by decide) cl_X8 (by decide) rfl in_X8_wish_X8 lk_X8_wish_87 rfl tyX8_ok nmX8 rfl rfl dX8_wish_2 e2 ?_
  refine j_aload_n C 0 dX8_wish_5 rfl ?_
  refine j_iload_n C 1 dX8_wish_6 rfl ?_
  refine j_if_lt C 19 dX8_wish_7 (by decide) (fun c26 => ?_) (fun c26 => ?_)
  · replace h := h.1 c26
    exact w_X8_wish_b19_j C hQ h
  · replace h := h.2 c26
    refine j_iload_n C 1 dX8_wish_10 rfl ?_
    refine j_iconst (v := 5) C dX8_wish_11 (by decide) ?_
    refine j_icmp_gt C 19 dX8_wish_12 (by decide) (fun c25 => ?_) (fun c25 => ?_)
    · replace h := h.1 c25
      exact w_X8_wish_b19_j C hQ h
    · replace h := h.2 c25
      refine j_iconst (v := 1) C dX8_wish_15 (by decide) ?_
      refine j_goto C 20 dX8_wish_16 (by decide) ?_
      exact w_X8_wish_b20_j C hQ h
/-! X8_write -/
abbrev rm_X8_write : Room := { frames := 2, cells := 0, slots := 0, locals := 44 }
theorem in_X8_write_X8 : ∀ w ∈ wsX80, w ∈ wsX8_write := by decide +kernel
theorem lk_X8_write_26 : Cond.fieldLink RX8 26 "SameAgainModel" "body" "[I" ∈ wsX8_write := by decide +kernel
theorem lk_X8_write_45 : Cond.fieldLink RX8 45 "SameAgainModel" "bytes" "[I" ∈ wsX8_write := by decide +kernel
theorem lk_X8_write_33 : Cond.fieldLink RX8 33 "SameAgainModel" "size" "[I" ∈ wsX8_write := by decide +kernel
set_option maxHeartbeats 4000000 in
set_option maxRecDepth 100000 in
theorem w_X8_write_b55_j {G : Gt} {X : Cxt} {Q : State → Prop} (C : Cx G X cX8_write RX8 wsX8_write 6 rm_X8_write) {post : Int32 → Mem → Prop} (hQ : RetI G X Q post .int 0 0) : ∀ (n : Nat) (v1 v2 v3 v4 v5 : Int32) (μ : Mem), itr (fun _ _ _ _ _ _ => False) (w_X8_write_b55 post) n v1 v2 v3 v4 v5 μ → J G X Q 6 0 0 55 [(0, .ref (ad G 31)), (1, .int v1), (2, .int v2), (3, .int v3), (4, .int v4), (5, .int v5)] [] μ := by
  intro n
  induction n with
  | zero => intro v1 v2 v3 v4 v5 μ h; exact h.elim
  | succ n ih =>
    intro v1 v2 v3 v4 v5 μ h
    replace h : w_X8_write_b55 post (itr (fun _ _ _ _ _ _ => False) (w_X8_write_b55 post) n) v1 v2 v3 v4 v5 μ := h
    generalize itr (fun _ _ _ _ _ _ => False) (w_X8_write_b55 post) n = k55 at ih h
    have hk55 := ih
    unfold w_X8_write_b55 at h
    refine j_iload C 5 dX8_write_55 rfl ?_
    refine j_iconst (v := 4) C dX8_write_57 (by decide) ?_
    refine j_icmp_ge C 96 dX8_write_58 (by decide) (fun c12 => ?_) (fun c12 => ?_)
    · replace h := h.1 c12
      refine j_aload_n C 0 dX8_write_96 rfl ?_
      refine j_iload C 4 dX8_write_97 rfl ?_
      refine j_cVV (n := 1) (rest := []) C 31 (c_X8_isWritten (xl X) G C.2.2.1 _ v4 μ) h gX8_write_X8_isWritten rfl ⟨rfl, rfl⟩ (by decide +kernel) ⟨by decide, by decide⟩ ⟨by decide, by decide⟩ sh_31 (by decide) cl_X8 rfl rfl (Nat.le_of_ble_eq_true rfl) dX8_write_99 rfl rfl (fun μ6 h => ?_)
      refine j_aload_n C 0 dX8_write_102 rfl ?_
      refine j_iload_n C 1 dX8_write_103 rfl ?_
      refine j_cVI (n := 1) (rest := []) C 31 (c_X8_others (xl X) G C.2.2.1 _ v1 μ6) h gX8_write_X8_others rfl ⟨rfl, rfl⟩ (by decide +kernel) ⟨by decide, by decide⟩ ⟨by decide, by decide⟩ sh_31 (by decide) cl_X8 rfl rfl (Nat.le_of_ble_eq_true rfl) dX8_write_104 rfl rfl (fun r8 μ7 h => ?_)
      exact j_iret C hQ (by decide) (by decide) h dX8_write_107
    · replace h := h.2 c12
      refine j_aload_n C 0 dX8_write_61 rfl ?_
      refine j_getR C 31 19 sh_31 (by decide) cl_X8 (by decide) rfl in_X8_write_X8 lk_X8_write_45 rfl dX8_write_62 ?_
      refine j_bipush (v := 64) C dX8_write_65 (by decide) ?_
      refine j_iload C 4 dX8_write_67 rfl ?_
      refine j_imul C dX8_write_69 ?_
      refine j_iload_n C 2 dX8_write_70 rfl ?_
      refine j_iadd C dX8_write_71 ?_
      refine j_iload C 5 dX8_write_72 rfl ?_
      refine j_iadd C dX8_write_74 ?_
      refine j_iload_n C 3 dX8_write_75 rfl ?_
      refine j_bipush (v := 24) C dX8_write_76 (by decide) ?_
      refine j_bipush (v := 8) C dX8_write_78 (by decide) ?_
      refine j_iload C 5 dX8_write_80 rfl ?_
      refine j_imul C dX8_write_82 ?_
      refine j_isub C dX8_write_83 ?_
      refine j_ishr C dX8_write_84 ?_
      refine j_sipush (v := 255) C dX8_write_85 (by decide) ?_
      refine j_iand C dX8_write_88 ?_
      obtain ⟨μ9, e10⟩ : ∃ m, m = wr μ 42 (ix ((((64 : Int32) * v4) + v2) + v5)) ((v3 >>> (((24 : Int32) - ((8 : Int32) * v5)) &&& 31)) &&& (255 : Int32)) := ⟨_, rfl⟩
      have b11 := h.1
      replace h := h.2 μ9 e10
      refine j_iast C 42 sh_42 (by decide) b11 dX8_write_89 e10 ?_
      refine j_iinc (v := v5 + (1 : Int32)) (lv' := [(0, .ref (ad G 31)), (1, .int v1), (2, .int v2), (3, .int v3), (4, .int v4), (5, .int (v5 + (1 : Int32)))]) C 5 dX8_write_90 rfl rfl (by decide) rfl rfl ?_
      refine j_goto C 55 dX8_write_93 (by decide) ?_
      exact hk55 _ _ _ _ _ _ h
set_option maxHeartbeats 4000000 in
set_option maxRecDepth 100000 in
theorem w_X8_write_b35_j {G : Gt} {X : Cxt} {Q : State → Prop} (C : Cx G X cX8_write RX8 wsX8_write 6 rm_X8_write) {post : Int32 → Mem → Prop} (hQ : RetI G X Q post .int 0 0) {v1 v2 v3 s0 : Int32} {μ : Mem} (h : w_X8_write_b35 post v1 v2 v3 s0 μ) : J G X Q 6 0 0 35 [(0, .ref (ad G 31)), (1, .int v1), (2, .int v2), (3, .int v3)] [.int s0, .ref (ad G 31)] μ := by
  unfold w_X8_write_b35 at h
  refine j_iconst (v := 2) C dX8_write_35 (by decide) ?_
  refine j_cVI (n := 2) (rest := []) C 31 (c_X8_right (xl X) G C.2.2.1 _ s0 (2 : Int32) μ) h gX8_write_X8_right rfl ⟨rfl, rfl⟩ (by decide +kernel) ⟨by decide, by decide⟩ ⟨by decide, by decide⟩ sh_31 (by decide) cl_X8 rfl rfl (Nat.le_of_ble_eq_true rfl) dX8_write_36 rfl rfl (fun r4 μ3 h => ?_)
  refine j_if_ne C 44 dX8_write_39 (by decide) (fun c13 => ?_) (fun c13 => ?_)
  · replace h := h.1 c13
    refine j_aload_n C 0 dX8_write_44 rfl ?_
    refine j_getR C 31 13 sh_31 (by decide) cl_X8 (by decide) rfl in_X8_write_X8 lk_X8_write_26 rfl dX8_write_45 ?_
    refine j_iload_n C 1 dX8_write_48 rfl ?_
    have b5 := h.1
    replace h := h.2
    refine j_iald C 36 sh_36 (by decide) b5 dX8_write_49 ?_
    refine j_istore (lv' := [(0, .ref (ad G 31)), (1, .int v1), (2, .int v2), (3, .int v3), (4, .int (μ3 36 (ix v1)))]) C dX8_write_50 (by decide) rfl rfl ?_
    refine j_iconst (v := 0) C dX8_write_52 (by decide) ?_
    refine j_istore (lv' := [(0, .ref (ad G 31)), (1, .int v1), (2, .int v2), (3, .int v3), (4, .int (μ3 36 (ix v1))), (5, .int (0 : Int32))]) C dX8_write_53 (by decide) rfl rfl ?_
    obtain ⟨n9, h⟩ := h
    exact w_X8_write_b55_j C hQ n9 _ _ _ _ _ _ h
  · replace h := h.2 c13
    refine j_iconst (v := 0) C dX8_write_42 (by decide) ?_
    exact j_iret C hQ (by decide) (by decide) h dX8_write_43
set_option maxHeartbeats 4000000 in
set_option maxRecDepth 100000 in
theorem w_X8_write_b34_j {G : Gt} {X : Cxt} {Q : State → Prop} (C : Cx G X cX8_write RX8 wsX8_write 6 rm_X8_write) {post : Int32 → Mem → Prop} (hQ : RetI G X Q post .int 0 0) {v1 v2 v3 : Int32} {μ : Mem} (h : w_X8_write_b34 post v1 v2 v3 μ) : J G X Q 6 0 0 34 [(0, .ref (ad G 31)), (1, .int v1), (2, .int v2), (3, .int v3)] [.ref (ad G 31)] μ := by
  unfold w_X8_write_b34 at h
  refine j_iconst (v := 0) C dX8_write_34 (by decide) ?_
  exact w_X8_write_b35_j C hQ h
set_option maxHeartbeats 4000000 in
set_option maxRecDepth 100000 in
theorem c_X8_write (l : Launch) (G : Gt) (hD : Dj G) (post : Int32 → Mem → Prop) (a1 a2 a3 : Int32) (μ : Mem) : MI G l yX8_write wsX8_write rm_X8_write 0 0 [.ref (ad G 31), .int a1, .int a2, .int a3] μ (w_X8_write post a1 a2 a3 μ) post := by
  refine mI_of (cc := cX8_write) (maxL := 6) (ty := .int) (lv0 := [(0, .ref (ad G 31)), (1, .int a1), (2, .int a2), (3, .int a3)]) hD (by decide) rfl (Nat.le_of_ble_eq_true rfl) rfl ?_
  intro X Q hl C hQ h
  subst hl
  replace C : Cx G X cX8_write RX8 wsX8_write 6 rm_X8_write := C
  unfold w_X8_write at h
  refine j_aload_n C 0 dX8_write_0 rfl ?_
  refine j_iload_n C 1 dX8_write_1 rfl ?_
  refine j_cVI (n := 1) (rest := []) C 31 (c_X8_isFile (xl X) G C.2.2.1 _ a1 μ) h gX8_write_X8_isFile rfl ⟨rfl, rfl⟩ (by decide +kernel) ⟨by decide, by decide⟩ ⟨by decide, by decide⟩ sh_31 (by decide) cl_X8 rfl rfl (Nat.le_of_ble_eq_true rfl) dX8_write_2 rfl rfl (fun r2 μ1 h => ?_)
  refine j_if_eq C 42 dX8_write_5 (by decide) (fun c18 => ?_) (fun c18 => ?_)
  · replace h := h.1 c18
    refine j_iconst (v := 0) C dX8_write_42 (by decide) ?_
    exact j_iret C hQ (by decide) (by decide) h dX8_write_43
  · replace h := h.2 c18
    refine j_aload_n C 0 dX8_write_8 rfl ?_
    refine j_iload_n C 2 dX8_write_9 rfl ?_
    refine j_if_lt C 34 dX8_write_10 (by decide) (fun c17 => ?_) (fun c17 => ?_)
    · replace h := h.1 c17
      exact w_X8_write_b34_j C hQ h
    · replace h := h.2 c17
      refine j_iload_n C 2 dX8_write_13 rfl ?_
      refine j_aload_n C 0 dX8_write_14 rfl ?_
      refine j_getR C 31 15 sh_31 (by decide) cl_X8 (by decide) rfl in_X8_write_X8 lk_X8_write_33 rfl dX8_write_15 ?_
      refine j_aload_n C 0 dX8_write_18 rfl ?_
      refine j_getR C 31 13 sh_31 (by decide) cl_X8 (by decide) rfl in_X8_write_X8 lk_X8_write_26 rfl dX8_write_19 ?_
      refine j_iload_n C 1 dX8_write_22 rfl ?_
      have b14 := h.1
      replace h := h.2
      refine j_iald C 36 sh_36 (by decide) b14 dX8_write_23 ?_
      have b15 := h.1
      replace h := h.2
      refine j_iald C 38 sh_38 (by decide) b15 dX8_write_24 ?_
      refine j_iconst (v := 4) C dX8_write_25 (by decide) ?_
      refine j_isub C dX8_write_26 ?_
      refine j_icmp_gt C 34 dX8_write_27 (by decide) (fun c16 => ?_) (fun c16 => ?_)
      · replace h := h.1 c16
        exact w_X8_write_b34_j C hQ h
      · replace h := h.2 c16
        refine j_iconst (v := 1) C dX8_write_30 (by decide) ?_
        refine j_goto C 35 dX8_write_31 (by decide) ?_
        exact w_X8_write_b35_j C hQ h
