/-! X7_isOwner -/
abbrev rm_X7_isOwner : Room := { frames := 0, cells := 0, slots := 0, locals := 0 }
set_option maxHeartbeats 4000000 in
set_option maxRecDepth 100000 in
theorem c_X7_isOwner (l : Launch) (G : Gt) (hD : Dj G) (post : Int32 → Mem → Prop) (a0 : Int32) (μ : Mem) : MI G l yX7_isOwner wsX7_isOwner rm_X7_isOwner 0 0 [.int a0] μ (w_X7_isOwner post a0 μ) post := by
  refine mI_of (cc := cX7_isOwner) (maxL := 1) (ty := .boolean) (lv0 := [(0, .int a0)]) hD (by decide) rfl (Nat.le_of_ble_eq_true rfl) rfl ?_
  intro X Q hl C hQ h
  subst hl
  replace C : Cx G X cX7_isOwner RX7 wsX7_isOwner 1 rm_X7_isOwner := C
  unfold w_X7_isOwner at h
  refine j_iload_n C 0 dX7_isOwner_0 rfl ?_
  refine j_if_lt C 14 dX7_isOwner_1 (by decide) (fun c2 => ?_) (fun c2 => ?_)
  · replace h := h.1 c2
    refine j_iconst (v := 0) C dX7_isOwner_14 (by decide) ?_
    exact j_zret C hQ (by decide) (by decide) rfl h dX7_isOwner_15
  · replace h := h.2 c2
    refine j_iload_n C 0 dX7_isOwner_4 rfl ?_
    refine j_bipush (v := 8) C dX7_isOwner_5 (by decide) ?_
    refine j_icmp_ge C 14 dX7_isOwner_7 (by decide) (fun c1 => ?_) (fun c1 => ?_)
    · replace h := h.1 c1
      refine j_iconst (v := 0) C dX7_isOwner_14 (by decide) ?_
      exact j_zret C hQ (by decide) (by decide) rfl h dX7_isOwner_15
    · replace h := h.2 c1
      refine j_iconst (v := 1) C dX7_isOwner_10 (by decide) ?_
      refine j_goto C 15 dX7_isOwner_11 (by decide) ?_
      exact j_zret C hQ (by decide) (by decide) rfl h dX7_isOwner_15
/-! X7_file -/
abbrev rm_X7_file : Room := { frames := 7, cells := 1, slots := 6, locals := 103 }
theorem in_X7_file_X7 : ∀ w ∈ wsX70, w ∈ wsX7_file := by decide +kernel
theorem lk_X7_file_26 : Cond.fieldLink RX7 26 "SameAgain" "bodies" "LSameAgain$Bodies;" ∈ wsX7_file := by decide +kernel
theorem wd_X7_file_ini_X0 : Cond.initialized RX0 ∈ wsX7_file := by decide +kernel
theorem wd_X7_file_im_X0_hasRoomFor : Cond.instanceMethod yX0_hasRoomFor ∈ wsX7_file := by decide +kernel
theorem wd_X7_file_se_X0_hasRoomFor : Cond.selects RX0 yX0_hasRoomFor yX0_hasRoomFor ∈ wsX7_file := by decide +kernel
theorem nm_X7_file_102 : (RX7, 102, yX0_hasRoomFor, "SameAgain") ∈ nwM := by decide +kernel
theorem lk_X7_file_19 : Cond.fieldLink RX7 19 "SameAgain" "files" "LSameAgain$Files;" ∈ wsX7_file := by decide +kernel
theorem lk_X7_file_69 : Cond.fieldLink RX7 69 "SameAgain" "day" "I" ∈ wsX7_file := by decide +kernel
theorem wd_X7_file_im_X0_make : Cond.instanceMethod yX0_make ∈ wsX7_file := by decide +kernel
theorem wd_X7_file_se_X0_make : Cond.selects RX0 yX0_make yX0_make ∈ wsX7_file := by decide +kernel
theorem nm_X7_file_105 : (RX7, 105, yX0_make, "SameAgain") ∈ nwM := by decide +kernel
theorem wd_X7_file_ini_X1 : Cond.initialized RX1 ∈ wsX7_file := by decide +kernel
theorem wd_X7_file_im_X1_make : Cond.instanceMethod yX1_make ∈ wsX7_file := by decide +kernel
theorem wd_X7_file_se_X1_make : Cond.selects RX1 yX1_make yX1_make ∈ wsX7_file := by decide +kernel
theorem nm_X7_file_108 : (RX7, 108, yX1_make, "SameAgain") ∈ nwM := by decide +kernel
set_option maxHeartbeats 4000000 in
set_option maxRecDepth 100000 in
theorem c_X7_file (l : Launch) (G : Gt) (hD : Dj G) (hs : l.stackTraces = false) (post : Int32 → Mem → Prop) (xq : XP) (a1 a2 a3 a4 : Int32) (μ : Mem) : XI G l yX7_file wsX7_file rm_X7_file 1 6 [.ref (ad G 0), .int a1, .int a2, .int a3, .int a4] μ (w_X7_file post xq a1 a2 a3 a4 μ) post xq := by
  refine xI_of (cc := cX7_file) (maxL := 5) (ty := .int) (lv0 := [(0, .ref (ad G 0)), (1, .int a1), (2, .int a2), (3, .int a3), (4, .int a4)]) hD hs (by decide) rfl (Nat.le_of_ble_eq_true rfl) rfl ?_
  intro X Q hl C hQ hX h
  subst hl
  replace C : Cx G X cX7_file RX7 wsX7_file 5 rm_X7_file := C
  unfold w_X7_file at h
  refine j_aload_n C 0 dX7_file_0 rfl ?_
  refine j_iload_n C 1 dX7_file_1 rfl ?_
  refine j_xVV (n := 1) (rest := []) C hX 0 (c_X7_needFolder (xl X) G C.2.2.1 hX.2.2 _ xq a1 μ) h gX7_file_X7_needFolder rfl ⟨rfl, rfl⟩ (by decide +kernel) ⟨by decide, by decide⟩ ⟨by decide, by decide⟩ ⟨by decide, by decide⟩ sh_0 (by decide) cl_X7 rfl rfl (Nat.le_of_ble_eq_true rfl) dX7_file_2 rfl rfl (fun μ1 h => ?_)
  refine j_iload_n C 3 dX7_file_5 rfl ?_
  refine j_cSI (n := 1) (rest := []) C (c_X7_isOwner (xl X) G C.2.2.1 _ a3 μ1) h gX7_file_X7_isOwner rfl ⟨rfl, rfl⟩ (by decide +kernel) ⟨by decide, by decide⟩ ⟨by decide, by decide⟩ rfl rfl (Nat.le_of_ble_eq_true rfl) dX7_file_6 rfl rfl (fun r3 μ2 h => ?_)
  refine j_if_eq C 24 dX7_file_9 (by decide) (fun c16 => ?_) (fun c16 => ?_)
  · replace h := h.1 c16
    refine j_iconst (v := -1) C dX7_file_24 (by decide) ?_
    exact j_iret C hQ (by decide) (by decide) h dX7_file_25
  · replace h := h.2 c16
    refine j_iload C 4 dX7_file_12 rfl ?_
    refine j_if_lt C 24 dX7_file_14 (by decide) (fun c15 => ?_) (fun c15 => ?_)
    · replace h := h.1 c15
      refine j_iconst (v := -1) C dX7_file_24 (by decide) ?_
      exact j_iret C hQ (by decide) (by decide) h dX7_file_25
    · replace h := h.2 c15
      refine j_iload C 4 dX7_file_17 rfl ?_
      refine j_bipush (v := 64) C dX7_file_19 (by decide) ?_
      refine j_icmp_le C 26 dX7_file_21 (by decide) (fun c14 => ?_) (fun c14 => ?_)
      · replace h := h.1 c14
        refine j_aload_n C 0 dX7_file_26 rfl ?_
        refine j_iload_n C 1 dX7_file_27 rfl ?_
        refine j_iload_n C 2 dX7_file_28 rfl ?_
        refine j_cVI (n := 2) (rest := []) C 0 (c_X7_mayCome (xl X) G C.2.2.1 _ a1 a2 μ2) h gX7_file_X7_mayCome rfl ⟨rfl, rfl⟩ (by decide +kernel) ⟨by decide, by decide⟩ ⟨by decide, by decide⟩ sh_0 (by decide) cl_X7 rfl rfl (Nat.le_of_ble_eq_true rfl) dX7_file_29 rfl rfl (fun r5 μ4 h => ?_)
        refine j_if_eq C 46 dX7_file_32 (by decide) (fun c13 => ?_) (fun c13 => ?_)
        · replace h := h.1 c13
          refine j_iconst (v := -1) C dX7_file_46 (by decide) ?_
          exact j_iret C hQ (by decide) (by decide) h dX7_file_47
        · replace h := h.2 c13
          refine j_aload_n C 0 dX7_file_35 rfl ?_
          refine j_getR C 0 2 sh_0 (by decide) cl_X7 (by decide) rfl in_X7_file_X7 lk_X7_file_26 rfl dX7_file_36 ?_
          refine j_iconst (v := 1) C dX7_file_39 (by decide) ?_
          refine j_cNI (n := 1) (rest := []) C 3 (c_X0_hasRoomFor (xl X) G C.2.2.1 _ (1 : Int32) μ4) h gX7_file_X0_hasRoomFor_n102 nm_X7_file_102 wd_X7_file_ini_X0 wd_X7_file_im_X0_hasRoomFor wd_X7_file_se_X0_hasRoomFor rfl ⟨rfl, rfl⟩ (by decide +kernel) ⟨by decide, by decide⟩ ⟨by decide, by decide⟩ sh_3 (by decide) cl_X0 rfl rfl (Nat.le_of_ble_eq_true rfl) dX7_file_40 rfl rfl (fun r7 μ6 h => ?_)
          refine j_if_ne C 48 dX7_file_43 (by decide) (fun c12 => ?_) (fun c12 => ?_)
          · replace h := h.1 c12
            refine j_aload_n C 0 dX7_file_48 rfl ?_
            refine j_getR C 0 1 sh_0 (by decide) cl_X7 (by decide) rfl in_X7_file_X7 lk_X7_file_19 rfl dX7_file_49 ?_
            refine j_iload_n C 1 dX7_file_52 rfl ?_
            refine j_iload_n C 2 dX7_file_53 rfl ?_
            refine j_aload_n C 0 dX7_file_54 rfl ?_
            refine j_getR C 0 2 sh_0 (by decide) cl_X7 (by decide) rfl in_X7_file_X7 lk_X7_file_26 rfl dX7_file_55 ?_
            refine j_iload C 4 dX7_file_58 rfl ?_
            refine j_iload_n C 3 dX7_file_60 rfl ?_
            refine j_aload_n C 0 dX7_file_61 rfl ?_
            refine j_getI C 0 10 sh_0 (by decide) cl_X7 (by decide) rfl in_X7_file_X7 lk_X7_file_69 rfl dX7_file_62 ?_
            refine j_cNI (n := 3) (rest := [.int a2, .int a1, .ref (ad G 2)]) C 3 (c_X0_make (xl X) G C.2.2.1 _ a4 a3 (μ6 0 10) μ6) h gX7_file_X0_make_n105 nm_X7_file_105 wd_X7_file_ini_X0 wd_X7_file_im_X0_make wd_X7_file_se_X0_make rfl ⟨rfl, rfl⟩ (by decide +kernel) ⟨by decide, by decide⟩ ⟨by decide, by decide⟩ sh_3 (by decide) cl_X0 rfl rfl (Nat.le_of_ble_eq_true rfl) dX7_file_65 rfl rfl (fun r9 μ8 h => ?_)
            refine j_cNI (n := 3) (rest := []) C 2 (c_X1_make (xl X) G C.2.2.1 _ a1 a2 r9 μ8) h gX7_file_X1_make_n108 nm_X7_file_108 wd_X7_file_ini_X1 wd_X7_file_im_X1_make wd_X7_file_se_X1_make rfl ⟨rfl, rfl⟩ (by decide +kernel) ⟨by decide, by decide⟩ ⟨by decide, by decide⟩ sh_2 (by decide) cl_X1 rfl rfl (Nat.le_of_ble_eq_true rfl) dX7_file_68 rfl rfl (fun r11 μ10 h => ?_)
            exact j_iret C hQ (by decide) (by decide) h dX7_file_71
          · replace h := h.2 c12
            refine j_iconst (v := -1) C dX7_file_46 (by decide) ?_
            exact j_iret C hQ (by decide) (by decide) h dX7_file_47
      · replace h := h.2 c14
        refine j_iconst (v := -1) C dX7_file_24 (by decide) ?_
        exact j_iret C hQ (by decide) (by decide) h dX7_file_25
/-! X7_noteWritten -/
abbrev rm_X7_noteWritten : Room := { frames := 0, cells := 0, slots := 0, locals := 0 }
theorem in_X7_noteWritten_X7 : ∀ w ∈ wsX70, w ∈ wsX7_noteWritten := by decide +kernel
theorem lk_X7_noteWritten_26 : Cond.fieldLink RX7 26 "SameAgain" "bodies" "LSameAgain$Bodies;" ∈ wsX7_noteWritten := by decide +kernel
theorem in_X7_noteWritten_X0 : ∀ w ∈ wsX00, w ∈ wsX7_noteWritten := by decide +kernel
theorem lk_X7_noteWritten_167 : (RX7, 167, "SameAgain$Bodies", "day", "[I", "SameAgain") ∈ nwF := by decide +kernel
theorem lk_X7_noteWritten_69 : Cond.fieldLink RX7 69 "SameAgain" "day" "I" ∈ wsX7_noteWritten := by decide +kernel
theorem lk_X7_noteWritten_33 : Cond.fieldLink RX7 33 "SameAgain" "findings" "LSameAgain$Findings;" ∈ wsX7_noteWritten := by decide +kernel
theorem in_X7_noteWritten_X2 : ∀ w ∈ wsX20, w ∈ wsX7_noteWritten := by decide +kernel
theorem lk_X7_noteWritten_184 : (RX7, 184, "SameAgain$Findings", "group", "[I", "SameAgain") ∈ nwF := by decide +kernel
set_option maxHeartbeats 4000000 in
set_option maxRecDepth 100000 in
theorem c_X7_noteWritten (l : Launch) (G : Gt) (hD : Dj G) (post : Mem → Prop) (a1 : Int32) (μ : Mem) : MV G l yX7_noteWritten wsX7_noteWritten rm_X7_noteWritten 0 0 [.ref (ad G 0), .int a1] μ (w_X7_noteWritten post a1 μ) post := by
  refine mV_of (cc := cX7_noteWritten) (maxL := 2) (lv0 := [(0, .ref (ad G 0)), (1, .int a1)]) hD (by decide) rfl (Nat.le_of_ble_eq_true rfl) rfl ?_
  intro X Q hl C hQ h
  subst hl
  replace C : Cx G X cX7_noteWritten RX7 wsX7_noteWritten 2 rm_X7_noteWritten := C
  unfold w_X7_noteWritten at h
  refine j_aload_n C 0 dX7_noteWritten_0 rfl ?_
  refine j_getR C 0 2 sh_0 (by decide) cl_X7 (by decide) rfl in_X7_noteWritten_X7 lk_X7_noteWritten_26 rfl dX7_noteWritten_1 ?_
  refine j_getRN C 3 3 sh_3 (by decide) cl_X0 (by decide) rfl in_X7_noteWritten_X0 lk_X7_noteWritten_167 rfl dX7_noteWritten_4 ?_
  refine j_iload_n C 1 dX7_noteWritten_7 rfl ?_
  refine j_aload_n C 0 dX7_noteWritten_8 rfl ?_
  refine j_getI C 0 10 sh_0 (by decide) cl_X7 (by decide) rfl in_X7_noteWritten_X7 lk_X7_noteWritten_69 rfl dX7_noteWritten_9 ?_
  obtain ⟨μ1, e2⟩ : ∃ m, m = wr μ 21 (ix a1) (μ 0 10) := ⟨_, rfl⟩
  have b3 := h.1
  replace h := h.2 μ1 e2
  refine j_iast C 21 sh_21 (by decide) b3 dX7_noteWritten_12 e2 ?_
  refine j_aload_n C 0 dX7_noteWritten_13 rfl ?_
  refine j_getR C 0 3 sh_0 (by decide) cl_X7 (by decide) rfl in_X7_noteWritten_X7 lk_X7_noteWritten_33 rfl dX7_noteWritten_14 ?_
  refine j_getRN C 4 0 sh_4 (by decide) cl_X2 (by decide) rfl in_X7_noteWritten_X2 lk_X7_noteWritten_184 rfl dX7_noteWritten_17 ?_
  refine j_iload_n C 1 dX7_noteWritten_20 rfl ?_
  refine j_iconst (v := -1) C dX7_noteWritten_21 (by decide) ?_
  obtain ⟨μ4, e5⟩ : ∃ m, m = wr μ1 22 (ix a1) (-1 : Int32) := ⟨_, rfl⟩
  have b6 := h.1
  replace h := h.2 μ4 e5
  refine j_iast C 22 sh_22 (by decide) b6 dX7_noteWritten_22 e5 ?_
  exact j_vret C hQ (by decide) (by decide) h dX7_noteWritten_23
/-! X7_fill -/
abbrev rm_X7_fill : Room := { frames := 7, cells := 2, slots := 12, locals := 103 }
theorem in_X7_fill_X7 : ∀ w ∈ wsX70, w ∈ wsX7_fill := by decide +kernel
theorem lk_X7_fill_19 : Cond.fieldLink RX7 19 "SameAgain" "files" "LSameAgain$Files;" ∈ wsX7_fill := by decide +kernel
theorem in_X7_fill_X1 : ∀ w ∈ wsX10, w ∈ wsX7_fill := by decide +kernel
theorem lk_X7_fill_112 : (RX7, 112, "SameAgain$Files", "body", "[I", "SameAgain") ∈ nwF := by decide +kernel
theorem hat_X7_fill_iae : ∀ w ∈ vz_iae.filter goodWord, w ∈ wsX7_fill := fun w hw => List.mem_cons_of_mem _ (List.mem_append_left _ (List.mem_append_right _ hw))
theorem wd_X7_fill_cl143 : Cond.classLink RX7 143 "java/lang/IllegalArgumentException" ∈ wsX7_fill := by decide +kernel
theorem wd_X7_fill_in_iae : Cond.initialized "java/lang/IllegalArgumentException" ∈ wsX7_fill := by decide +kernel
theorem lk_X7_fill_26 : Cond.fieldLink RX7 26 "SameAgain" "bodies" "LSameAgain$Bodies;" ∈ wsX7_fill := by decide +kernel
theorem in_X7_fill_X0 : ∀ w ∈ wsX00, w ∈ wsX7_fill := by decide +kernel
theorem lk_X7_fill_140 : (RX7, 140, "SameAgain$Bodies", "size", "[I", "SameAgain") ∈ nwF := by decide +kernel
theorem wd_X7_fill_ini_X1 : Cond.initialized RX1 ∈ wsX7_fill := by decide +kernel
theorem wd_X7_fill_im_X1_having : Cond.instanceMethod yX1_having ∈ wsX7_fill := by decide +kernel
theorem wd_X7_fill_se_X1_having : Cond.selects RX1 yX1_having yX1_having ∈ wsX7_fill := by decide +kernel
theorem nm_X7_fill_136 : (RX7, 136, yX1_having, "SameAgain") ∈ nwM := by decide +kernel
theorem wd_X7_fill_ini_X0 : Cond.initialized RX0 ∈ wsX7_fill := by decide +kernel
theorem wd_X7_fill_im_X0_put : Cond.instanceMethod yX0_put ∈ wsX7_fill := by decide +kernel
theorem wd_X7_fill_se_X0_put : Cond.selects RX0 yX0_put yX0_put ∈ wsX7_fill := by decide +kernel
theorem nm_X7_fill_150 : (RX7, 150, yX0_put, "SameAgain") ∈ nwM := by decide +kernel
set_option maxHeartbeats 4000000 in
set_option maxRecDepth 100000 in
theorem w_X7_fill_b39_j {G : Gt} {X : Cxt} {Q : State → Prop} (C : Cx G X cX7_fill RX7 wsX7_fill 7 rm_X7_fill) {post : Int32 → Mem → Prop} (hQ : RetI G X Q post .int 2 12) {xq : XP} (hX : Xq G X Q xq 2 12) {μ : Mem} (h : w_X7_fill_b39 post xq μ) : J G X Q 7 1 6 39 [] [] μ := by
  unfold w_X7_fill_b39 at h
  exact j_thr (text := "not 0 <= from <= to <= size") C hX (by decide) b0_iae b1_iae b2_iae b5_iae wd_X7_fill_cl143 wd_X7_fill_in_iae (by decide +kernel) hat_X7_fill_iae hng_iae hgo_iae dX7_fill_39 dX7_fill_42 (Or.inl ⟨dX7_fill_43, rfl⟩) dX7_fill_45 dX7_fill_48 (by decide) (Nat.le_of_ble_eq_true rfl) (by decide) (by decide) (by decide) (by decide) h
set_option maxHeartbeats 4000000 in
set_option maxRecDepth 100000 in
theorem w_X7_fill_b88_j {G : Gt} {X : Cxt} {Q : State → Prop} (C : Cx G X cX7_fill RX7 wsX7_fill 7 rm_X7_fill) {post : Int32 → Mem → Prop} (hQ : RetI G X Q post .int 2 12) {xq : XP} (hX : Xq G X Q xq 2 12) {v5 : Int32} {μ : Mem} (h : w_X7_fill_b88 post xq v5 μ) : J G X Q 7 1 6 88 [(0, .ref (ad G 0)), (5, .int v5)] [] μ := by
  unfold w_X7_fill_b88 at h
  refine j_aload_n C 0 dX7_fill_88 rfl ?_
  refine j_getR C 0 1 sh_0 (by decide) cl_X7 (by decide) rfl in_X7_fill_X7 lk_X7_fill_19 rfl dX7_fill_89 ?_
  refine j_iload C 1 dX7_fill_92 rfl ?_
  refine j_cNI (n := 1) (rest := []) C 2 (c_X1_having (xl X) G C.2.2.1 _ v5 μ) h gX7_fill_X1_having_n136 nm_X7_fill_136 wd_X7_fill_ini_X1 wd_X7_fill_im_X1_having wd_X7_fill_se_X1_having rfl ⟨rfl, rfl⟩ (by decide +kernel) ⟨by decide, by decide⟩ ⟨by decide, by decide⟩ sh_2 (by decide) cl_X1 rfl rfl (Nat.le_of_ble_eq_true rfl) dX7_fill_94 rfl rfl (fun r5 μ4 h => ?_)
  refine j_iconst (v := 1) C dX7_fill_97 (by decide) ?_
  refine j_isub C dX7_fill_98 ?_
  exact j_iret C hQ (by decide) (by decide) h dX7_fill_99
set_option maxHeartbeats 4000000 in
set_option maxRecDepth 100000 in
theorem w_X7_fill_b52_j {G : Gt} {X : Cxt} {Q : State → Prop} (C : Cx G X cX7_fill RX7 wsX7_fill 7 rm_X7_fill) {post : Int32 → Mem → Prop} (hQ : RetI G X Q post .int 2 12) {xq : XP} (hX : Xq G X Q xq 2 12) : ∀ (n : Nat) (v2 v3 v4 v5 v6 : Int32) (μ : Mem), itr (fun _ _ _ _ _ _ => False) (w_X7_fill_b52 post xq) n v2 v3 v4 v5 v6 μ → J G X Q 7 1 6 52 [(0, .ref (ad G 0)), (2, .int v2), (3, .int v3), (4, .int v4), (5, .int v5), (6, .int v6)] [] μ := by
  intro n
  induction n with
  | zero => intro v2 v3 v4 v5 v6 μ h; exact h.elim
  | succ n ih =>
    intro v2 v3 v4 v5 v6 μ h
    replace h : w_X7_fill_b52 post xq (itr (fun _ _ _ _ _ _ => False) (w_X7_fill_b52 post xq) n) v2 v3 v4 v5 v6 μ := h
    generalize itr (fun _ _ _ _ _ _ => False) (w_X7_fill_b52 post xq) n = k52 at ih h
    have hk52 := ih
    unfold w_X7_fill_b52 at h
    refine j_iload C 5 dX7_fill_52 rfl ?_
    refine j_iload_n C 2 dX7_fill_54 rfl ?_
    refine j_icmp_ge C 77 dX7_fill_55 (by decide) (fun c9 => ?_) (fun c9 => ?_)
    · replace h := h.1 c9
      refine j_iload_n C 1 dX7_fill_77 rfl ?_
      refine j_iload_n C 2 dX7_fill_78 rfl ?_
      refine j_icmp_ge C 88 dX7_fill_79 (by decide) (fun c7 => ?_) (fun c7 => ?_)
      · replace h := h.1 c7
        refine j_forget [0, 4] rfl ?_
        exact w_X7_fill_b88_j C hQ hX h
      · replace h := h.2 c7
        refine j_aload_n C 0 dX7_fill_82 rfl ?_
        refine j_iload C 4 dX7_fill_83 rfl ?_
        refine j_cVV (n := 1) (rest := []) C 0 (c_X7_noteWritten (xl X) G C.2.2.1 _ v5 μ) h gX7_fill_X7_noteWritten rfl ⟨rfl, rfl⟩ (by decide +kernel) ⟨by decide, by decide⟩ ⟨by decide, by decide⟩ sh_0 (by decide) cl_X7 rfl rfl (Nat.le_of_ble_eq_true rfl) dX7_fill_85 rfl rfl (fun μ6 h => ?_)
        refine j_forget [0, 4] rfl ?_
        exact w_X7_fill_b88_j C hQ hX h
    · replace h := h.2 c9
      refine j_aload_n C 0 dX7_fill_58 rfl ?_
      refine j_getR C 0 2 sh_0 (by decide) cl_X7 (by decide) rfl in_X7_fill_X7 lk_X7_fill_26 rfl dX7_fill_59 ?_
      refine j_iload C 4 dX7_fill_62 rfl ?_
      refine j_iload C 5 dX7_fill_64 rfl ?_
      refine j_iload C 3 dX7_fill_66 rfl ?_
      refine j_cNV (n := 3) (rest := []) C 3 (c_X0_put (xl X) G C.2.2.1 _ v5 v6 v4 μ) h gX7_fill_X0_put_n150 nm_X7_fill_150 wd_X7_fill_ini_X0 wd_X7_fill_im_X0_put wd_X7_fill_se_X0_put rfl ⟨rfl, rfl⟩ (by decide +kernel) ⟨by decide, by decide⟩ ⟨by decide, by decide⟩ sh_3 (by decide) cl_X0 rfl rfl (Nat.le_of_ble_eq_true rfl) dX7_fill_68 rfl rfl (fun μ8 h => ?_)
      refine j_iinc (v := v6 + (1 : Int32)) (lv' := [(0, .ref (ad G 0)), (2, .int v2), (3, .int v3), (4, .int v4), (5, .int v5), (6, .int (v6 + (1 : Int32)))]) C 5 dX7_fill_71 rfl rfl (by decide) rfl rfl ?_
      refine j_goto C 52 dX7_fill_74 (by decide) ?_
      exact hk52 _ _ _ _ _ _ h
set_option maxHeartbeats 4000000 in
set_option maxRecDepth 100000 in
theorem c_X7_fill (l : Launch) (G : Gt) (hD : Dj G) (hs : l.stackTraces = false) (post : Int32 → Mem → Prop) (xq : XP) (a1 a2 a3 a4 : Int32) (μ : Mem) : XI G l yX7_fill wsX7_fill rm_X7_fill 2 12 [.ref (ad G 0), .int a1, .int a2, .int a3, .int a4] μ (w_X7_fill post xq a1 a2 a3 a4 μ) post xq := by
  refine xI_of (cc := cX7_fill) (maxL := 7) (ty := .int) (lv0 := [(0, .ref (ad G 0)), (1, .int a1), (2, .int a2), (3, .int a3), (4, .int a4)]) hD hs (by decide) rfl (Nat.le_of_ble_eq_true rfl) rfl ?_
  intro X Q hl C hQ hX h
  subst hl
  replace C : Cx G X cX7_fill RX7 wsX7_fill 7 rm_X7_fill := C
  unfold w_X7_fill at h
  refine j_aload_n C 0 dX7_fill_0 rfl ?_
  refine j_iload_n C 1 dX7_fill_1 rfl ?_
  refine j_xVV (n := 1) (rest := []) C hX 0 (c_X7_needFile (xl X) G C.2.2.1 hX.2.2 _ xq a1 μ) h gX7_fill_X7_needFile rfl ⟨rfl, rfl⟩ (by decide +kernel) ⟨by decide, by decide⟩ ⟨by decide, by decide⟩ ⟨by decide, by decide⟩ sh_0 (by decide) cl_X7 rfl rfl (Nat.le_of_ble_eq_true rfl) dX7_fill_2 rfl rfl (fun μ1 h => ?_)
  refine j_aload_n C 0 dX7_fill_5 rfl ?_
  refine j_getR C 0 1 sh_0 (by decide) cl_X7 (by decide) rfl in_X7_fill_X7 lk_X7_fill_19 rfl dX7_fill_6 ?_
  refine j_getRN C 2 2 sh_2 (by decide) cl_X1 (by decide) rfl in_X7_fill_X1 lk_X7_fill_112 rfl dX7_fill_9 ?_
  refine j_iload_n C 1 dX7_fill_12 rfl ?_
  have b2 := h.1
  replace h := h.2
  refine j_iald C 16 sh_16 (by decide) b2 dX7_fill_13 ?_
  refine j_istore (lv' := [(0, .ref (ad G 0)), (1, .int a1), (2, .int a2), (3, .int a3), (4, .int a4), (5, .int (μ1 16 (ix a1)))]) C dX7_fill_14 (by decide) rfl rfl ?_
  refine j_iload_n C 2 dX7_fill_16 rfl ?_
  refine j_if_lt C 39 dX7_fill_17 (by decide) (fun c12 => ?_) (fun c12 => ?_)
  · replace h := h.1 c12
    refine j_forget [] rfl ?_
    exact w_X7_fill_b39_j C hQ hX h
  · replace h := h.2 c12
    refine j_iload_n C 2 dX7_fill_20 rfl ?_
    refine j_iload_n C 3 dX7_fill_21 rfl ?_
    refine j_icmp_gt C 39 dX7_fill_22 (by decide) (fun c11 => ?_) (fun c11 => ?_)
    · replace h := h.1 c11
      refine j_forget [] rfl ?_
      exact w_X7_fill_b39_j C hQ hX h
    · replace h := h.2 c11
      refine j_iload_n C 3 dX7_fill_25 rfl ?_
      refine j_aload_n C 0 dX7_fill_26 rfl ?_
      refine j_getR C 0 2 sh_0 (by decide) cl_X7 (by decide) rfl in_X7_fill_X7 lk_X7_fill_26 rfl dX7_fill_27 ?_
      refine j_getRN C 3 1 sh_3 (by decide) cl_X0 (by decide) rfl in_X7_fill_X0 lk_X7_fill_140 rfl dX7_fill_30 ?_
      refine j_iload C 5 dX7_fill_33 rfl ?_
      have b3 := h.1
      replace h := h.2
      refine j_iald C 19 sh_19 (by decide) b3 dX7_fill_35 ?_
      refine j_icmp_le C 49 dX7_fill_36 (by decide) (fun c10 => ?_) (fun c10 => ?_)
      · replace h := h.1 c10
        refine j_iload_n C 2 dX7_fill_49 rfl ?_
        refine j_istore (lv' := [(0, .ref (ad G 0)), (1, .int a1), (2, .int a2), (3, .int a3), (4, .int a4), (5, .int (μ1 16 (ix a1))), (6, .int a2)]) C dX7_fill_50 (by decide) rfl rfl ?_
        refine j_forget [0, 2, 3, 4, 5, 6] rfl ?_
        obtain ⟨n9, h⟩ := h
        exact w_X7_fill_b52_j C hQ hX n9 _ _ _ _ _ _ h
      · replace h := h.2 c10
        refine j_forget [] rfl ?_
        exact w_X7_fill_b39_j C hQ hX h
/-! X7_find -/
abbrev rm_X7_find : Room := { frames := 5, cells := 0, slots := 0, locals := 118 }
theorem in_X7_find_X7 : ∀ w ∈ wsX70, w ∈ wsX7_find := by decide +kernel
theorem lk_X7_find_33 : Cond.fieldLink RX7 33 "SameAgain" "findings" "LSameAgain$Findings;" ∈ wsX7_find := by decide +kernel
theorem lk_X7_find_19 : Cond.fieldLink RX7 19 "SameAgain" "files" "LSameAgain$Files;" ∈ wsX7_find := by decide +kernel
theorem lk_X7_find_26 : Cond.fieldLink RX7 26 "SameAgain" "bodies" "LSameAgain$Bodies;" ∈ wsX7_find := by decide +kernel
theorem wd_X7_find_ini_X2 : Cond.initialized RX2 ∈ wsX7_find := by decide +kernel
theorem wd_X7_find_im_X2_search : Cond.instanceMethod yX2_search ∈ wsX7_find := by decide +kernel
theorem wd_X7_find_se_X2_search : Cond.selects RX2 yX2_search yX2_search ∈ wsX7_find := by decide +kernel
theorem nm_X7_find_174 : (RX7, 174, yX2_search, "SameAgain") ∈ nwM := by decide +kernel
theorem in_X7_find_X2 : ∀ w ∈ wsX20, w ∈ wsX7_find := by decide +kernel
theorem lk_X7_find_178 : (RX7, 178, "SameAgain$Findings", "groups", "I", "SameAgain") ∈ nwF := by decide +kernel
set_option maxHeartbeats 4000000 in
set_option maxRecDepth 100000 in
theorem c_X7_find (l : Launch) (G : Gt) (hD : Dj G) (post : Int32 → Mem → Prop) (μ : Mem) : MI G l yX7_find wsX7_find rm_X7_find 0 0 [.ref (ad G 0)] μ (w_X7_find post μ) post := by
  refine mI_of (cc := cX7_find) (maxL := 1) (ty := .int) (lv0 := [(0, .ref (ad G 0))]) hD (by decide) rfl (Nat.le_of_ble_eq_true rfl) rfl ?_
  intro X Q hl C hQ h
  subst hl
  replace C : Cx G X cX7_find RX7 wsX7_find 1 rm_X7_find := C
  unfold w_X7_find at h
  refine j_aload_n C 0 dX7_find_0 rfl ?_
  refine j_getR C 0 3 sh_0 (by decide) cl_X7 (by decide) rfl in_X7_find_X7 lk_X7_find_33 rfl dX7_find_1 ?_
  refine j_aload_n C 0 dX7_find_4 rfl ?_
  refine j_getR C 0 1 sh_0 (by decide) cl_X7 (by decide) rfl in_X7_find_X7 lk_X7_find_19 rfl dX7_find_5 ?_
  refine j_aload_n C 0 dX7_find_8 rfl ?_
  refine j_getR C 0 2 sh_0 (by decide) cl_X7 (by decide) rfl in_X7_find_X7 lk_X7_find_26 rfl dX7_find_9 ?_
  refine j_cNV (n := 2) (rest := []) C 4 (c_X2_search (xl X) G C.2.2.1 _ μ) h gX7_find_X2_search_n174 nm_X7_find_174 wd_X7_find_ini_X2 wd_X7_find_im_X2_search wd_X7_find_se_X2_search rfl ⟨rfl, rfl⟩ (by decide +kernel) ⟨by decide, by decide⟩ ⟨by decide, by decide⟩ sh_4 (by decide) cl_X2 rfl rfl (Nat.le_of_ble_eq_true rfl) dX7_find_12 rfl rfl (fun μ1 h => ?_)
  refine j_aload_n C 0 dX7_find_15 rfl ?_
  refine j_getR C 0 3 sh_0 (by decide) cl_X7 (by decide) rfl in_X7_find_X7 lk_X7_find_33 rfl dX7_find_16 ?_
  refine j_getIN C 4 3 sh_4 (by decide) cl_X2 (by decide) rfl in_X7_find_X2 lk_X7_find_178 rfl dX7_find_19 ?_
  exact j_iret C hQ (by decide) (by decide) h dX7_find_22
/-! X7_folder -/
abbrev rm_X7_folder : Room := { frames := 7, cells := 1, slots := 6, locals := 103 }
theorem in_X7_folder_X7 : ∀ w ∈ wsX70, w ∈ wsX7_folder := by decide +kernel
theorem lk_X7_folder_10 : Cond.fieldLink RX7 10 "SameAgain" "folders" "LSameAgain$Folders;" ∈ wsX7_folder := by decide +kernel
theorem wd_X7_folder_ini_X3 : Cond.initialized RX3 ∈ wsX7_folder := by decide +kernel
theorem wd_X7_folder_im_X3_hasRoom : Cond.instanceMethod yX3_hasRoom ∈ wsX7_folder := by decide +kernel
theorem wd_X7_folder_se_X3_hasRoom : Cond.selects RX3 yX3_hasRoom yX3_hasRoom ∈ wsX7_folder := by decide +kernel
theorem nm_X7_folder_84 : (RX7, 84, yX3_hasRoom, "SameAgain") ∈ nwM := by decide +kernel
theorem wd_X7_folder_im_X3_named : Cond.instanceMethod yX3_named ∈ wsX7_folder := by decide +kernel
theorem wd_X7_folder_se_X3_named : Cond.selects RX3 yX3_named yX3_named ∈ wsX7_folder := by decide +kernel
theorem nm_X7_folder_88 : (RX7, 88, yX3_named, "SameAgain") ∈ nwM := by decide +kernel
theorem wd_X7_folder_im_X3_make : Cond.instanceMethod yX3_make ∈ wsX7_folder := by decide +kernel
theorem wd_X7_folder_se_X3_make : Cond.selects RX3 yX3_make yX3_make ∈ wsX7_folder := by decide +kernel
theorem nm_X7_folder_92 : (RX7, 92, yX3_make, "SameAgain") ∈ nwM := by decide +kernel
set_option maxHeartbeats 4000000 in
set_option maxRecDepth 100000 in
theorem c_X7_folder (l : Launch) (G : Gt) (hD : Dj G) (hs : l.stackTraces = false) (post : Int32 → Mem → Prop) (xq : XP) (a1 a2 : Int32) (μ : Mem) : XI G l yX7_folder wsX7_folder rm_X7_folder 1 6 [.ref (ad G 0), .int a1, .int a2] μ (w_X7_folder post xq a1 a2 μ) post xq := by
  refine xI_of (cc := cX7_folder) (maxL := 3) (ty := .int) (lv0 := [(0, .ref (ad G 0)), (1, .int a1), (2, .int a2)]) hD hs (by decide) rfl (Nat.le_of_ble_eq_true rfl) rfl ?_
  intro X Q hl C hQ hX h
  subst hl
  replace C : Cx G X cX7_folder RX7 wsX7_folder 3 rm_X7_folder := C
  unfold w_X7_folder at h
  refine j_aload_n C 0 dX7_folder_0 rfl ?_
  refine j_iload_n C 1 dX7_folder_1 rfl ?_
  refine j_xVV (n := 1) (rest := []) C hX 0 (c_X7_needFolder (xl X) G C.2.2.1 hX.2.2 _ xq a1 μ) h gX7_folder_X7_needFolder rfl ⟨rfl, rfl⟩ (by decide +kernel) ⟨by decide, by decide⟩ ⟨by decide, by decide⟩ ⟨by decide, by decide⟩ sh_0 (by decide) cl_X7 rfl rfl (Nat.le_of_ble_eq_true rfl) dX7_folder_2 rfl rfl (fun μ1 h => ?_)
  refine j_iload_n C 2 dX7_folder_5 rfl ?_
  refine j_cSI (n := 1) (rest := []) C (c_X7_isName (xl X) G C.2.2.1 _ a2 μ1) h gX7_folder_X7_isName rfl ⟨rfl, rfl⟩ (by decide +kernel) ⟨by decide, by decide⟩ ⟨by decide, by decide⟩ rfl rfl (Nat.le_of_ble_eq_true rfl) dX7_folder_6 rfl rfl (fun r3 μ2 h => ?_)
  refine j_if_eq C 35 dX7_folder_9 (by decide) (fun c12 => ?_) (fun c12 => ?_)
  · replace h := h.1 c12
    refine j_iconst (v := -1) C dX7_folder_35 (by decide) ?_
    exact j_iret C hQ (by decide) (by decide) h dX7_folder_36
  · replace h := h.2 c12
    refine j_aload_n C 0 dX7_folder_12 rfl ?_
    refine j_getR C 0 0 sh_0 (by decide) cl_X7 (by decide) rfl in_X7_folder_X7 lk_X7_folder_10 rfl dX7_folder_13 ?_
    refine j_cNI (n := 0) (rest := []) C 1 (c_X3_hasRoom (xl X) G C.2.2.1 _ μ2) h gX7_folder_X3_hasRoom_n84 nm_X7_folder_84 wd_X7_folder_ini_X3 wd_X7_folder_im_X3_hasRoom wd_X7_folder_se_X3_hasRoom rfl ⟨rfl, rfl⟩ (by decide +kernel) ⟨by decide, by decide⟩ ⟨by decide, by decide⟩ sh_1 (by decide) cl_X3 rfl rfl (Nat.le_of_ble_eq_true rfl) dX7_folder_16 rfl rfl (fun r5 μ4 h => ?_)
    refine j_if_eq C 35 dX7_folder_19 (by decide) (fun c11 => ?_) (fun c11 => ?_)
    · replace h := h.1 c11
      refine j_iconst (v := -1) C dX7_folder_35 (by decide) ?_
      exact j_iret C hQ (by decide) (by decide) h dX7_folder_36
    · replace h := h.2 c11
      refine j_aload_n C 0 dX7_folder_22 rfl ?_
      refine j_getR C 0 0 sh_0 (by decide) cl_X7 (by decide) rfl in_X7_folder_X7 lk_X7_folder_10 rfl dX7_folder_23 ?_
      refine j_iload_n C 1 dX7_folder_26 rfl ?_
      refine j_iload_n C 2 dX7_folder_27 rfl ?_
      refine j_cNI (n := 2) (rest := []) C 1 (c_X3_named (xl X) G C.2.2.1 _ a1 a2 μ4) h gX7_folder_X3_named_n88 nm_X7_folder_88 wd_X7_folder_ini_X3 wd_X7_folder_im_X3_named wd_X7_folder_se_X3_named rfl ⟨rfl, rfl⟩ (by decide +kernel) ⟨by decide, by decide⟩ ⟨by decide, by decide⟩ sh_1 (by decide) cl_X3 rfl rfl (Nat.le_of_ble_eq_true rfl) dX7_folder_28 rfl rfl (fun r7 μ6 h => ?_)
      refine j_iconst (v := -1) C dX7_folder_31 (by decide) ?_
      refine j_icmp_eq C 37 dX7_folder_32 (by decide) (fun c10 => ?_) (fun c10 => ?_)
      · replace h := h.1 c10
        refine j_aload_n C 0 dX7_folder_37 rfl ?_
        refine j_getR C 0 0 sh_0 (by decide) cl_X7 (by decide) rfl in_X7_folder_X7 lk_X7_folder_10 rfl dX7_folder_38 ?_
        refine j_iload_n C 1 dX7_folder_41 rfl ?_
        refine j_iload_n C 2 dX7_folder_42 rfl ?_
        refine j_cNI (n := 2) (rest := []) C 1 (c_X3_make (xl X) G C.2.2.1 _ a1 a2 μ6) h gX7_folder_X3_make_n92 nm_X7_folder_92 wd_X7_folder_ini_X3 wd_X7_folder_im_X3_make wd_X7_folder_se_X3_make rfl ⟨rfl, rfl⟩ (by decide +kernel) ⟨by decide, by decide⟩ ⟨by decide, by decide⟩ sh_1 (by decide) cl_X3 rfl rfl (Nat.le_of_ble_eq_true rfl) dX7_folder_43 rfl rfl (fun r9 μ8 h => ?_)
        exact j_iret C hQ (by decide) (by decide) h dX7_folder_46
      · replace h := h.2 c10
        refine j_iconst (v := -1) C dX7_folder_35 (by decide) ?_
        exact j_iret C hQ (by decide) (by decide) h dX7_folder_36
/-! X7_giveBody -/
abbrev rm_X7_giveBody : Room := { frames := 1, cells := 0, slots := 0, locals := 23 }
theorem in_X7_giveBody_X7 : ∀ w ∈ wsX70, w ∈ wsX7_giveBody := by decide +kernel
theorem lk_X7_giveBody_19 : Cond.fieldLink RX7 19 "SameAgain" "files" "LSameAgain$Files;" ∈ wsX7_giveBody := by decide +kernel
theorem in_X7_giveBody_X1 : ∀ w ∈ wsX10, w ∈ wsX7_giveBody := by decide +kernel
theorem lk_X7_giveBody_112 : (RX7, 112, "SameAgain$Files", "body", "[I", "SameAgain") ∈ nwF := by decide +kernel
theorem wd_X7_giveBody_ini_X1 : Cond.initialized RX1 ∈ wsX7_giveBody := by decide +kernel
theorem wd_X7_giveBody_im_X1_having : Cond.instanceMethod yX1_having ∈ wsX7_giveBody := by decide +kernel
theorem wd_X7_giveBody_se_X1_having : Cond.selects RX1 yX1_having yX1_having ∈ wsX7_giveBody := by decide +kernel
theorem nm_X7_giveBody_136 : (RX7, 136, yX1_having, "SameAgain") ∈ nwM := by decide +kernel
theorem lk_X7_giveBody_73 : Cond.fieldLink RX7 73 "SameAgain" "freed" "I" ∈ wsX7_giveBody := by decide +kernel
theorem lk_X7_giveBody_26 : Cond.fieldLink RX7 26 "SameAgain" "bodies" "LSameAgain$Bodies;" ∈ wsX7_giveBody := by decide +kernel
theorem in_X7_giveBody_X0 : ∀ w ∈ wsX00, w ∈ wsX7_giveBody := by decide +kernel
theorem lk_X7_giveBody_140 : (RX7, 140, "SameAgain$Bodies", "size", "[I", "SameAgain") ∈ nwF := by decide +kernel
set_option maxHeartbeats 4000000 in
set_option maxRecDepth 100000 in
theorem c_X7_giveBody (l : Launch) (G : Gt) (hD : Dj G) (post : Mem → Prop) (a1 a2 : Int32) (μ : Mem) : MV G l yX7_giveBody wsX7_giveBody rm_X7_giveBody 0 0 [.ref (ad G 0), .int a1, .int a2] μ (w_X7_giveBody post a1 a2 μ) post := by
  refine mV_of (cc := cX7_giveBody) (maxL := 4) (lv0 := [(0, .ref (ad G 0)), (1, .int a1), (2, .int a2)]) hD (by decide) rfl (Nat.le_of_ble_eq_true rfl) rfl ?_
  intro X Q hl C hQ h
  subst hl
  replace C : Cx G X cX7_giveBody RX7 wsX7_giveBody 4 rm_X7_giveBody := C
  unfold w_X7_giveBody at h
  refine j_aload_n C 0 dX7_giveBody_0 rfl ?_
  refine j_getR C 0 1 sh_0 (by decide) cl_X7 (by decide) rfl in_X7_giveBody_X7 lk_X7_giveBody_19 rfl dX7_giveBody_1 ?_
  refine j_getRN C 2 2 sh_2 (by decide) cl_X1 (by decide) rfl in_X7_giveBody_X1 lk_X7_giveBody_112 rfl dX7_giveBody_4 ?_
  refine j_iload_n C 1 dX7_giveBody_7 rfl ?_
  have b1 := h.1
  replace h := h.2
  refine j_iald C 16 sh_16 (by decide) b1 dX7_giveBody_8 ?_
  refine j_istore_n (lv' := [(0, .ref (ad G 0)), (1, .int a1), (2, .int a2), (3, .int (μ 16 (ix a1)))]) C dX7_giveBody_9 (by decide) rfl rfl ?_
  refine j_aload_n C 0 dX7_giveBody_10 rfl ?_
  refine j_getR C 0 1 sh_0 (by decide) cl_X7 (by decide) rfl in_X7_giveBody_X7 lk_X7_giveBody_19 rfl dX7_giveBody_11 ?_
  refine j_getRN C 2 2 sh_2 (by decide) cl_X1 (by decide) rfl in_X7_giveBody_X1 lk_X7_giveBody_112 rfl dX7_giveBody_14 ?_
  refine j_iload_n C 1 dX7_giveBody_17 rfl ?_
  refine j_iload_n C 2 dX7_giveBody_18 rfl ?_
  obtain ⟨μ2, e3⟩ : ∃ m, m = wr μ 16 (ix a1) a2 := ⟨_, rfl⟩
  have b4 := h.1
  replace h := h.2 μ2 e3
  refine j_iast C 16 sh_16 (by decide) b4 dX7_giveBody_19 e3 ?_
  refine j_aload_n C 0 dX7_giveBody_20 rfl ?_
  refine j_getR C 0 1 sh_0 (by decide) cl_X7 (by decide) rfl in_X7_giveBody_X7 lk_X7_giveBody_19 rfl dX7_giveBody_21 ?_
  refine j_iload_n C 3 dX7_giveBody_24 rfl ?_
  refine j_cNI (n := 1) (rest := []) C 2 (c_X1_having (xl X) G C.2.2.1 _ (μ 16 (ix a1)) μ2) h gX7_giveBody_X1_having_n136 nm_X7_giveBody_136 wd_X7_giveBody_ini_X1 wd_X7_giveBody_im_X1_having wd_X7_giveBody_se_X1_having rfl ⟨rfl, rfl⟩ (by decide +kernel) ⟨by decide, by decide⟩ ⟨by decide, by decide⟩ sh_2 (by decide) cl_X1 rfl rfl (Nat.le_of_ble_eq_true rfl) dX7_giveBody_25 rfl rfl (fun r6 μ5 h => ?_)
  refine j_if_ne C 49 dX7_giveBody_28 (by decide) (fun c10 => ?_) (fun c10 => ?_)
  · replace h := h.1 c10
    exact j_vret C hQ (by decide) (by decide) h dX7_giveBody_49
  · replace h := h.2 c10
    refine j_aload_n C 0 dX7_giveBody_31 rfl ?_
    refine j_dup C dX7_giveBody_32 rfl ?_
    refine j_getI C 0 11 sh_0 (by decide) cl_X7 (by decide) rfl in_X7_giveBody_X7 lk_X7_giveBody_73 rfl dX7_giveBody_33 ?_
    refine j_aload_n C 0 dX7_giveBody_36 rfl ?_
    refine j_getR C 0 2 sh_0 (by decide) cl_X7 (by decide) rfl in_X7_giveBody_X7 lk_X7_giveBody_26 rfl dX7_giveBody_37 ?_
    refine j_getRN C 3 1 sh_3 (by decide) cl_X0 (by decide) rfl in_X7_giveBody_X0 lk_X7_giveBody_140 rfl dX7_giveBody_40 ?_
    refine j_iload_n C 3 dX7_giveBody_43 rfl ?_
    have b7 := h.1
    replace h := h.2
    refine j_iald C 19 sh_19 (by decide) b7 dX7_giveBody_44 ?_
    refine j_iadd C dX7_giveBody_45 ?_
    obtain ⟨μ8, e9⟩ : ∃ m, m = wr μ5 0 11 ((μ5 0 11) + (μ5 19 (ix (μ 16 (ix a1))))) := ⟨_, rfl⟩
    replace h := h μ8 e9
    refine j_put C 0 11 sh_0 (by decide) cl_X7 (by decide) rfl in_X7_giveBody_X7 lk_X7_giveBody_73 rfl tyX7_ok nmX7 rfl rfl dX7_giveBody_46 e9 ?_
    exact j_vret C hQ (by decide) (by decide) h dX7_giveBody_49
/-! X7_groupOf -/
abbrev rm_X7_groupOf : Room := { frames := 7, cells := 1, slots := 6, locals := 103 }
theorem in_X7_groupOf_X7 : ∀ w ∈ wsX70, w ∈ wsX7_groupOf := by decide +kernel
theorem lk_X7_groupOf_33 : Cond.fieldLink RX7 33 "SameAgain" "findings" "LSameAgain$Findings;" ∈ wsX7_groupOf := by decide +kernel
theorem in_X7_groupOf_X2 : ∀ w ∈ wsX20, w ∈ wsX7_groupOf := by decide +kernel
theorem lk_X7_groupOf_184 : (RX7, 184, "SameAgain$Findings", "group", "[I", "SameAgain") ∈ nwF := by decide +kernel
theorem lk_X7_groupOf_19 : Cond.fieldLink RX7 19 "SameAgain" "files" "LSameAgain$Files;" ∈ wsX7_groupOf := by decide +kernel
theorem in_X7_groupOf_X1 : ∀ w ∈ wsX10, w ∈ wsX7_groupOf := by decide +kernel
theorem lk_X7_groupOf_112 : (RX7, 112, "SameAgain$Files", "body", "[I", "SameAgain") ∈ nwF := by decide +kernel
set_option maxHeartbeats 4000000 in
set_option maxRecDepth 100000 in
theorem c_X7_groupOf (l : Launch) (G : Gt) (hD : Dj G) (hs : l.stackTraces = false) (post : Int32 → Mem → Prop) (xq : XP) (a1 : Int32) (μ : Mem) : XI G l yX7_groupOf wsX7_groupOf rm_X7_groupOf 1 6 [.ref (ad G 0), .int a1] μ (w_X7_groupOf post xq a1 μ) post xq := by
  refine xI_of (cc := cX7_groupOf) (maxL := 2) (ty := .int) (lv0 := [(0, .ref (ad G 0)), (1, .int a1)]) hD hs (by decide) rfl (Nat.le_of_ble_eq_true rfl) rfl ?_
  intro X Q hl C hQ hX h
  subst hl
  replace C : Cx G X cX7_groupOf RX7 wsX7_groupOf 2 rm_X7_groupOf := C
  unfold w_X7_groupOf at h
  refine j_aload_n C 0 dX7_groupOf_0 rfl ?_
  refine j_iload_n C 1 dX7_groupOf_1 rfl ?_
  refine j_xVV (n := 1) (rest := []) C hX 0 (c_X7_needFile (xl X) G C.2.2.1 hX.2.2 _ xq a1 μ) h gX7_groupOf_X7_needFile rfl ⟨rfl, rfl⟩ (by decide +kernel) ⟨by decide, by decide⟩ ⟨by decide, by decide⟩ ⟨by decide, by decide⟩ sh_0 (by decide) cl_X7 rfl rfl (Nat.le_of_ble_eq_true rfl) dX7_groupOf_2 rfl rfl (fun μ1 h => ?_)
  refine j_aload_n C 0 dX7_groupOf_5 rfl ?_
  refine j_getR C 0 3 sh_0 (by decide) cl_X7 (by decide) rfl in_X7_groupOf_X7 lk_X7_groupOf_33 rfl dX7_groupOf_6 ?_
  refine j_getRN C 4 0 sh_4 (by decide) cl_X2 (by decide) rfl in_X7_groupOf_X2 lk_X7_groupOf_184 rfl dX7_groupOf_9 ?_
  refine j_aload_n C 0 dX7_groupOf_12 rfl ?_
  refine j_getR C 0 1 sh_0 (by decide) cl_X7 (by decide) rfl in_X7_groupOf_X7 lk_X7_groupOf_19 rfl dX7_groupOf_13 ?_
  refine j_getRN C 2 2 sh_2 (by decide) cl_X1 (by decide) rfl in_X7_groupOf_X1 lk_X7_groupOf_112 rfl dX7_groupOf_16 ?_
  refine j_iload_n C 1 dX7_groupOf_19 rfl ?_
  have b2 := h.1
  replace h := h.2
  refine j_iald C 16 sh_16 (by decide) b2 dX7_groupOf_20 ?_
  have b3 := h.1
  replace h := h.2
  refine j_iald C 22 sh_22 (by decide) b3 dX7_groupOf_21 ?_
  exact j_iret C hQ (by decide) (by decide) h dX7_groupOf_22
/-! X7_hold -/
abbrev rm_X7_hold : Room := { frames := 7, cells := 1, slots := 6, locals := 103 }
theorem in_X7_hold_X7 : ∀ w ∈ wsX70, w ∈ wsX7_hold := by decide +kernel
theorem lk_X7_hold_19 : Cond.fieldLink RX7 19 "SameAgain" "files" "LSameAgain$Files;" ∈ wsX7_hold := by decide +kernel
theorem in_X7_hold_X1 : ∀ w ∈ wsX10, w ∈ wsX7_hold := by decide +kernel
theorem lk_X7_hold_130 : (RX7, 130, "SameAgain$Files", "held", "[Z", "SameAgain") ∈ nwF := by decide +kernel
set_option maxHeartbeats 4000000 in
set_option maxRecDepth 100000 in
theorem c_X7_hold (l : Launch) (G : Gt) (hD : Dj G) (hs : l.stackTraces = false) (post : Int32 → Mem → Prop) (xq : XP) (a1 a2 : Int32) (μ : Mem) : XI G l yX7_hold wsX7_hold rm_X7_hold 1 6 [.ref (ad G 0), .int a1, .int a2] μ (w_X7_hold post xq a1 a2 μ) post xq := by
  refine xI_of (cc := cX7_hold) (maxL := 4) (ty := .boolean) (lv0 := [(0, .ref (ad G 0)), (1, .int a1), (2, .int a2)]) hD hs (by decide) rfl (Nat.le_of_ble_eq_true rfl) rfl ?_
  intro X Q hl C hQ hX h
  subst hl
  replace C : Cx G X cX7_hold RX7 wsX7_hold 4 rm_X7_hold := C
  unfold w_X7_hold at h
  refine j_aload_n C 0 dX7_hold_0 rfl ?_
  refine j_iload_n C 1 dX7_hold_1 rfl ?_
  refine j_xVV (n := 1) (rest := []) C hX 0 (c_X7_needFile (xl X) G C.2.2.1 hX.2.2 _ xq a1 μ) h gX7_hold_X7_needFile rfl ⟨rfl, rfl⟩ (by decide +kernel) ⟨by decide, by decide⟩ ⟨by decide, by decide⟩ ⟨by decide, by decide⟩ sh_0 (by decide) cl_X7 rfl rfl (Nat.le_of_ble_eq_true rfl) dX7_hold_2 rfl rfl (fun μ1 h => ?_)
  refine j_aload_n C 0 dX7_hold_5 rfl ?_
  refine j_getR C 0 1 sh_0 (by decide) cl_X7 (by decide) rfl in_X7_hold_X7 lk_X7_hold_19 rfl dX7_hold_6 ?_
  refine j_getRN C 2 3 sh_2 (by decide) cl_X1 (by decide) rfl in_X7_hold_X1 lk_X7_hold_130 rfl dX7_hold_9 ?_
  refine j_iload_n C 1 dX7_hold_12 rfl ?_
  have b2 := h.1
  replace h := h.2
  refine j_zald C 17 sh_17 (by decide) b2 dX7_hold_13 ?_
  refine j_istore_n (lv' := [(0, .ref (ad G 0)), (1, .int a1), (2, .int a2), (3, .int (μ1 17 (ix a1)))]) C dX7_hold_14 (by decide) rfl rfl ?_
  refine j_aload_n C 0 dX7_hold_15 rfl ?_
  refine j_getR C 0 1 sh_0 (by decide) cl_X7 (by decide) rfl in_X7_hold_X7 lk_X7_hold_19 rfl dX7_hold_16 ?_
  refine j_getRN C 2 3 sh_2 (by decide) cl_X1 (by decide) rfl in_X7_hold_X1 lk_X7_hold_130 rfl dX7_hold_19 ?_
  refine j_iload_n C 1 dX7_hold_22 rfl ?_
  refine j_iload_n C 2 dX7_hold_23 rfl ?_
  obtain ⟨μ3, e4⟩ : ∃ m, m = wr μ1 17 (ix a1) (nz a2) := ⟨_, rfl⟩
  have b5 := h.1
  replace h := h.2 μ3 e4
  refine j_zast C 17 sh_17 (by decide) b5 dX7_hold_24 e4 ?_
  refine j_iload_n C 3 dX7_hold_25 rfl ?_
  exact j_zret C hQ (by decide) (by decide) h.1 h.2 dX7_hold_26
/-! X7_isMember -/
abbrev rm_X7_isMember : Room := { frames := 1, cells := 0, slots := 0, locals := 21 }
theorem in_X7_isMember_X7 : ∀ w ∈ wsX70, w ∈ wsX7_isMember := by decide +kernel
theorem lk_X7_isMember_19 : Cond.fieldLink RX7 19 "SameAgain" "files" "LSameAgain$Files;" ∈ wsX7_isMember := by decide +kernel
theorem wd_X7_isMember_ini_X1 : Cond.initialized RX1 ∈ wsX7_isMember := by decide +kernel
theorem wd_X7_isMember_im_X1_has : Cond.instanceMethod yX1_has ∈ wsX7_isMember := by decide +kernel
theorem wd_X7_isMember_se_X1_has : Cond.selects RX1 yX1_has yX1_has ∈ wsX7_isMember := by decide +kernel
theorem nm_X7_isMember_208 : (RX7, 208, yX1_has, "SameAgain") ∈ nwM := by decide +kernel
theorem lk_X7_isMember_33 : Cond.fieldLink RX7 33 "SameAgain" "findings" "LSameAgain$Findings;" ∈ wsX7_isMember := by decide +kernel
theorem in_X7_isMember_X2 : ∀ w ∈ wsX20, w ∈ wsX7_isMember := by decide +kernel
theorem lk_X7_isMember_184 : (RX7, 184, "SameAgain$Findings", "group", "[I", "SameAgain") ∈ nwF := by decide +kernel
theorem in_X7_isMember_X1 : ∀ w ∈ wsX10, w ∈ wsX7_isMember := by decide +kernel
theorem lk_X7_isMember_112 : (RX7, 112, "SameAgain$Files", "body", "[I", "SameAgain") ∈ nwF := by decide +kernel
set_option maxHeartbeats 4000000 in
set_option maxRecDepth 100000 in
theorem c_X7_isMember (l : Launch) (G : Gt) (hD : Dj G) (post : Int32 → Mem → Prop) (a1 a2 : Int32) (μ : Mem) : MI G l yX7_isMember wsX7_isMember rm_X7_isMember 0 0 [.ref (ad G 0), .int a1, .int a2] μ (w_X7_isMember post a1 a2 μ) post := by
  refine mI_of (cc := cX7_isMember) (maxL := 3) (ty := .boolean) (lv0 := [(0, .ref (ad G 0)), (1, .int a1), (2, .int a2)]) hD (by decide) rfl (Nat.le_of_ble_eq_true rfl) rfl ?_
  intro X Q hl C hQ h
  subst hl
  replace C : Cx G X cX7_isMember RX7 wsX7_isMember 3 rm_X7_isMember := C
  unfold w_X7_isMember at h
  refine j_aload_n C 0 dX7_isMember_0 rfl ?_
  refine j_getR C 0 1 sh_0 (by decide) cl_X7 (by decide) rfl in_X7_isMember_X7 lk_X7_isMember_19 rfl dX7_isMember_1 ?_
  refine j_iload_n C 1 dX7_isMember_4 rfl ?_
  refine j_cNI (n := 1) (rest := []) C 2 (c_X1_has (xl X) G C.2.2.1 _ a1 μ) h gX7_isMember_X1_has_n208 nm_X7_isMember_208 wd_X7_isMember_ini_X1 wd_X7_isMember_im_X1_has wd_X7_isMember_se_X1_has rfl ⟨rfl, rfl⟩ (by decide +kernel) ⟨by decide, by decide⟩ ⟨by decide, by decide⟩ sh_2 (by decide) cl_X1 rfl rfl (Nat.le_of_ble_eq_true rfl) dX7_isMember_5 rfl rfl (fun r2 μ1 h => ?_)
  refine j_if_eq C 36 dX7_isMember_8 (by decide) (fun c6 => ?_) (fun c6 => ?_)
  · replace h := h.1 c6
    refine j_iconst (v := 0) C dX7_isMember_36 (by decide) ?_
    exact j_zret C hQ (by decide) (by decide) rfl h dX7_isMember_37
  · replace h := h.2 c6
    refine j_aload_n C 0 dX7_isMember_11 rfl ?_
    refine j_getR C 0 3 sh_0 (by decide) cl_X7 (by decide) rfl in_X7_isMember_X7 lk_X7_isMember_33 rfl dX7_isMember_12 ?_
    refine j_getRN C 4 0 sh_4 (by decide) cl_X2 (by decide) rfl in_X7_isMember_X2 lk_X7_isMember_184 rfl dX7_isMember_15 ?_
    refine j_aload_n C 0 dX7_isMember_18 rfl ?_
    refine j_getR C 0 1 sh_0 (by decide) cl_X7 (by decide) rfl in_X7_isMember_X7 lk_X7_isMember_19 rfl dX7_isMember_19 ?_
    refine j_getRN C 2 2 sh_2 (by decide) cl_X1 (by decide) rfl in_X7_isMember_X1 lk_X7_isMember_112 rfl dX7_isMember_22 ?_
    refine j_iload_n C 1 dX7_isMember_25 rfl ?_
    have b3 := h.1
    replace h := h.2
    refine j_iald C 16 sh_16 (by decide) b3 dX7_isMember_26 ?_
    have b4 := h.1
    replace h := h.2
    refine j_iald C 22 sh_22 (by decide) b4 dX7_isMember_27 ?_
    refine j_iload_n C 2 dX7_isMember_28 rfl ?_
    refine j_icmp_ne C 36 dX7_isMember_29 (by decide) (fun c5 => ?_) (fun c5 => ?_)
    · replace h := h.1 c5
      refine j_iconst (v := 0) C dX7_isMember_36 (by decide) ?_
      exact j_zret C hQ (by decide) (by decide) rfl h dX7_isMember_37
    · replace h := h.2 c5
      refine j_iconst (v := 1) C dX7_isMember_32 (by decide) ?_
      refine j_goto C 37 dX7_isMember_33 (by decide) ?_
      exact j_zret C hQ (by decide) (by decide) rfl h dX7_isMember_37
/-! X7_rank -/
abbrev rm_X7_rank : Room := { frames := 1, cells := 0, slots := 0, locals := 24 }
theorem in_X7_rank_X7 : ∀ w ∈ wsX70, w ∈ wsX7_rank := by decide +kernel
theorem lk_X7_rank_19 : Cond.fieldLink RX7 19 "SameAgain" "files" "LSameAgain$Files;" ∈ wsX7_rank := by decide +kernel
theorem in_X7_rank_X1 : ∀ w ∈ wsX10, w ∈ wsX7_rank := by decide +kernel
theorem lk_X7_rank_124 : (RX7, 124, "SameAgain$Files", "folder", "[I", "SameAgain") ∈ nwF := by decide +kernel
theorem lk_X7_rank_50 : Cond.fieldLink RX7 50 "SameAgain" "wishes" "LSameAgain$Wishes;" ∈ wsX7_rank := by decide +kernel
theorem in_X7_rank_X6 : ∀ w ∈ wsX60, w ∈ wsX7_rank := by decide +kernel
theorem lk_X7_rank_311 : (RX7, 311, "SameAgain$Wishes", "what", "[I", "SameAgain") ∈ nwF := by decide +kernel
theorem lk_X7_rank_10 : Cond.fieldLink RX7 10 "SameAgain" "folders" "LSameAgain$Folders;" ∈ wsX7_rank := by decide +kernel
theorem lk_X7_rank_314 : (RX7, 314, "SameAgain$Wishes", "folder", "[I", "SameAgain") ∈ nwF := by decide +kernel
theorem wd_X7_rank_ini_X3 : Cond.initialized RX3 ∈ wsX7_rank := by decide +kernel
theorem wd_X7_rank_im_X3_isInOrBelow : Cond.instanceMethod yX3_isInOrBelow ∈ wsX7_rank := by decide +kernel
theorem wd_X7_rank_se_X3_isInOrBelow : Cond.selects RX3 yX3_isInOrBelow yX3_isInOrBelow ∈ wsX7_rank := by decide +kernel
theorem nm_X7_rank_315 : (RX7, 315, yX3_isInOrBelow, "SameAgain") ∈ nwM := by decide +kernel
theorem lk_X7_rank_26 : Cond.fieldLink RX7 26 "SameAgain" "bodies" "LSameAgain$Bodies;" ∈ wsX7_rank := by decide +kernel
theorem in_X7_rank_X0 : ∀ w ∈ wsX00, w ∈ wsX7_rank := by decide +kernel
theorem lk_X7_rank_167 : (RX7, 167, "SameAgain$Bodies", "day", "[I", "SameAgain") ∈ nwF := by decide +kernel
theorem lk_X7_rank_112 : (RX7, 112, "SameAgain$Files", "body", "[I", "SameAgain") ∈ nwF := by decide +kernel
theorem in_X7_rank_X3 : ∀ w ∈ wsX30, w ∈ wsX7_rank := by decide +kernel
theorem lk_X7_rank_169 : (RX7, 169, "SameAgain$Folders", "above", "[I", "SameAgain") ∈ nwF := by decide +kernel
theorem lk_X7_rank_127 : (RX7, 127, "SameAgain$Files", "name", "[I", "SameAgain") ∈ nwF := by decide +kernel
theorem lk_X7_rank_130 : (RX7, 130, "SameAgain$Files", "held", "[Z", "SameAgain") ∈ nwF := by decide +kernel
set_option maxHeartbeats 4000000 in
set_option maxRecDepth 100000 in
theorem c_X7_rank (l : Launch) (G : Gt) (hD : Dj G) (post : Int32 → Mem → Prop) (a1 a2 : Int32) (μ : Mem) : MI G l yX7_rank wsX7_rank rm_X7_rank 0 0 [.ref (ad G 0), .int a1, .int a2] μ (w_X7_rank post a1 a2 μ) post := by
  refine mI_of (cc := cX7_rank) (maxL := 4) (ty := .int) (lv0 := [(0, .ref (ad G 0)), (1, .int a1), (2, .int a2)]) hD (by decide) rfl (Nat.le_of_ble_eq_true rfl) rfl ?_
  intro X Q hl C hQ h
  subst hl
  replace C : Cx G X cX7_rank RX7 wsX7_rank 4 rm_X7_rank := C
  unfold w_X7_rank at h
  refine j_aload_n C 0 dX7_rank_0 rfl ?_
  refine j_getR C 0 1 sh_0 (by decide) cl_X7 (by decide) rfl in_X7_rank_X7 lk_X7_rank_19 rfl dX7_rank_1 ?_
  refine j_getRN C 2 0 sh_2 (by decide) cl_X1 (by decide) rfl in_X7_rank_X1 lk_X7_rank_124 rfl dX7_rank_4 ?_
  refine j_iload_n C 2 dX7_rank_7 rfl ?_
  have b1 := h.1
  replace h := h.2
  refine j_iald C 14 sh_14 (by decide) b1 dX7_rank_8 ?_
  refine j_istore_n (lv' := [(0, .ref (ad G 0)), (1, .int a1), (2, .int a2), (3, .int (μ 14 (ix a2)))]) C dX7_rank_9 (by decide) rfl rfl ?_
  refine j_aload_n C 0 dX7_rank_10 rfl ?_
  refine j_getR C 0 6 sh_0 (by decide) cl_X7 (by decide) rfl in_X7_rank_X7 lk_X7_rank_50 rfl dX7_rank_11 ?_
  refine j_getRN C 7 0 sh_7 (by decide) cl_X6 (by decide) rfl in_X7_rank_X6 lk_X7_rank_311 rfl dX7_rank_14 ?_
  refine j_iload_n C 1 dX7_rank_17 rfl ?_
  have b2 := h.1
  replace h := h.2
  refine j_iald C 27 sh_27 (by decide) b2 dX7_rank_18 ?_
  refine j_case (x := μ 27 (ix a1)) (v := 0) (fun c7 => ?_) (fun c7 => ?_)
  · replace h := h.1 c7
    refine j_tsIn C 52 dX7_rank_19 c7 (by decide) (by decide) rfl (by decide) ?_
    refine j_aload_n C 0 dX7_rank_52 rfl ?_
    refine j_getR C 0 0 sh_0 (by decide) cl_X7 (by decide) rfl in_X7_rank_X7 lk_X7_rank_10 rfl dX7_rank_53 ?_
    refine j_iload_n C 3 dX7_rank_56 rfl ?_
    refine j_aload_n C 0 dX7_rank_57 rfl ?_
    refine j_getR C 0 6 sh_0 (by decide) cl_X7 (by decide) rfl in_X7_rank_X7 lk_X7_rank_50 rfl dX7_rank_58 ?_
    refine j_getRN C 7 1 sh_7 (by decide) cl_X6 (by decide) rfl in_X7_rank_X6 lk_X7_rank_314 rfl dX7_rank_61 ?_
    refine j_iload_n C 1 dX7_rank_64 rfl ?_
    have b3 := h.1
    replace h := h.2
    refine j_iald C 28 sh_28 (by decide) b3 dX7_rank_65 ?_
    refine j_cNI (n := 2) (rest := []) C 1 (c_X3_isInOrBelow (xl X) G C.2.2.1 _ (μ 14 (ix a2)) (μ 28 (ix a1)) μ) h gX7_rank_X3_isInOrBelow_n315 nm_X7_rank_315 wd_X7_rank_ini_X3 wd_X7_rank_im_X3_isInOrBelow wd_X7_rank_se_X3_isInOrBelow rfl ⟨rfl, rfl⟩ (by decide +kernel) ⟨by decide, by decide⟩ ⟨by decide, by decide⟩ sh_1 (by decide) cl_X3 rfl rfl (Nat.le_of_ble_eq_true rfl) dX7_rank_66 rfl rfl (fun r5 μ4 h => ?_)
    refine j_if_eq C 76 dX7_rank_69 (by decide) (fun c6 => ?_) (fun c6 => ?_)
    · replace h := h.1 c6
      refine j_iconst (v := 1) C dX7_rank_76 (by decide) ?_
      exact j_iret C hQ (by decide) (by decide) h dX7_rank_77
    · replace h := h.2 c6
      refine j_iconst (v := 0) C dX7_rank_72 (by decide) ?_
      refine j_goto C 77 dX7_rank_73 (by decide) ?_
      exact j_iret C hQ (by decide) (by decide) h dX7_rank_77
  · replace h := h.2 c7
    refine j_case (x := μ 27 (ix a1)) (v := 1) (fun c10 => ?_) (fun c10 => ?_)
    · replace h := h.1 c10
      refine j_tsIn C 78 dX7_rank_19 c10 (by decide) (by decide) rfl (by decide) ?_
      refine j_aload_n C 0 dX7_rank_78 rfl ?_
      refine j_getR C 0 2 sh_0 (by decide) cl_X7 (by decide) rfl in_X7_rank_X7 lk_X7_rank_26 rfl dX7_rank_79 ?_
      refine j_getRN C 3 3 sh_3 (by decide) cl_X0 (by decide) rfl in_X7_rank_X0 lk_X7_rank_167 rfl dX7_rank_82 ?_
      refine j_aload_n C 0 dX7_rank_85 rfl ?_
      refine j_getR C 0 1 sh_0 (by decide) cl_X7 (by decide) rfl in_X7_rank_X7 lk_X7_rank_19 rfl dX7_rank_86 ?_
      refine j_getRN C 2 2 sh_2 (by decide) cl_X1 (by decide) rfl in_X7_rank_X1 lk_X7_rank_112 rfl dX7_rank_89 ?_
      refine j_iload_n C 2 dX7_rank_92 rfl ?_
      have b8 := h.1
      replace h := h.2
      refine j_iald C 16 sh_16 (by decide) b8 dX7_rank_93 ?_
      have b9 := h.1
      replace h := h.2
      refine j_iald C 21 sh_21 (by decide) b9 dX7_rank_94 ?_
      exact j_iret C hQ (by decide) (by decide) h dX7_rank_95
    · replace h := h.2 c10
      refine j_case (x := μ 27 (ix a1)) (v := 2) (fun c13 => ?_) (fun c13 => ?_)
      · replace h := h.1 c13
        refine j_tsIn C 96 dX7_rank_19 c13 (by decide) (by decide) rfl (by decide) ?_
        refine j_aload_n C 0 dX7_rank_96 rfl ?_
        refine j_getR C 0 2 sh_0 (by decide) cl_X7 (by decide) rfl in_X7_rank_X7 lk_X7_rank_26 rfl dX7_rank_97 ?_
        refine j_getRN C 3 3 sh_3 (by decide) cl_X0 (by decide) rfl in_X7_rank_X0 lk_X7_rank_167 rfl dX7_rank_100 ?_
        refine j_aload_n C 0 dX7_rank_103 rfl ?_
        refine j_getR C 0 1 sh_0 (by decide) cl_X7 (by decide) rfl in_X7_rank_X7 lk_X7_rank_19 rfl dX7_rank_104 ?_
        refine j_getRN C 2 2 sh_2 (by decide) cl_X1 (by decide) rfl in_X7_rank_X1 lk_X7_rank_112 rfl dX7_rank_107 ?_
        refine j_iload_n C 2 dX7_rank_110 rfl ?_
        have b11 := h.1
        replace h := h.2
        refine j_iald C 16 sh_16 (by decide) b11 dX7_rank_111 ?_
        have b12 := h.1
        replace h := h.2
        refine j_iald C 21 sh_21 (by decide) b12 dX7_rank_112 ?_
        refine j_ineg C dX7_rank_113 ?_
        exact j_iret C hQ (by decide) (by decide) h dX7_rank_114
      · replace h := h.2 c13
        refine j_case (x := μ 27 (ix a1)) (v := 3) (fun c15 => ?_) (fun c15 => ?_)
        · replace h := h.1 c15
          refine j_tsIn C 115 dX7_rank_19 c15 (by decide) (by decide) rfl (by decide) ?_
          refine j_aload_n C 0 dX7_rank_115 rfl ?_
          refine j_getR C 0 0 sh_0 (by decide) cl_X7 (by decide) rfl in_X7_rank_X7 lk_X7_rank_10 rfl dX7_rank_116 ?_
          refine j_getRN C 1 2 sh_1 (by decide) cl_X3 (by decide) rfl in_X7_rank_X3 lk_X7_rank_169 rfl dX7_rank_119 ?_
          refine j_iload_n C 3 dX7_rank_122 rfl ?_
          have b14 := h.1
          replace h := h.2
          refine j_iald C 13 sh_13 (by decide) b14 dX7_rank_123 ?_
          exact j_iret C hQ (by decide) (by decide) h dX7_rank_124
        · replace h := h.2 c15
          refine j_case (x := μ 27 (ix a1)) (v := 4) (fun c17 => ?_) (fun c17 => ?_)
          · replace h := h.1 c17
            refine j_tsIn C 125 dX7_rank_19 c17 (by decide) (by decide) rfl (by decide) ?_
            refine j_aload_n C 0 dX7_rank_125 rfl ?_
            refine j_getR C 0 1 sh_0 (by decide) cl_X7 (by decide) rfl in_X7_rank_X7 lk_X7_rank_19 rfl dX7_rank_126 ?_
            refine j_getRN C 2 1 sh_2 (by decide) cl_X1 (by decide) rfl in_X7_rank_X1 lk_X7_rank_127 rfl dX7_rank_129 ?_
            refine j_iload_n C 2 dX7_rank_132 rfl ?_
            have b16 := h.1
            replace h := h.2
            refine j_iald C 15 sh_15 (by decide) b16 dX7_rank_133 ?_
            exact j_iret C hQ (by decide) (by decide) h dX7_rank_134
          · replace h := h.2 c17
            refine j_tsOut C 135 dX7_rank_19 ?_ (by decide) ?_
            · have z0 := lv_neT (a := 0) c7 (by decide); have z1 := lv_neT (a := 1) c10 (by decide); have z2 := lv_neT (a := 2) c13 (by decide); have z3 := lv_neT (a := 3) c15 (by decide); have z4 := lv_neT (a := 4) c17 (by decide); omega
            · refine j_aload_n C 0 dX7_rank_135 rfl ?_
              refine j_getR C 0 1 sh_0 (by decide) cl_X7 (by decide) rfl in_X7_rank_X7 lk_X7_rank_19 rfl dX7_rank_136 ?_
              refine j_getRN C 2 3 sh_2 (by decide) cl_X1 (by decide) rfl in_X7_rank_X1 lk_X7_rank_130 rfl dX7_rank_139 ?_
              refine j_iload_n C 2 dX7_rank_142 rfl ?_
              have b18 := h.1
              replace h := h.2
              refine j_zald C 17 sh_17 (by decide) b18 dX7_rank_143 ?_
              refine j_if_eq C 151 dX7_rank_144 (by decide) (fun c19 => ?_) (fun c19 => ?_)
              · replace h := h.1 c19
                refine j_iconst (v := 1) C dX7_rank_151 (by decide) ?_
                exact j_iret C hQ (by decide) (by decide) h dX7_rank_152
              · replace h := h.2 c19
                refine j_iconst (v := 0) C dX7_rank_147 (by decide) ?_
                refine j_goto C 152 dX7_rank_148 (by decide) ?_
                exact j_iret C hQ (by decide) (by decide) h dX7_rank_152
/-! X7_isWishedBefore -/
abbrev rm_X7_isWishedBefore : Room := { frames := 2, cells := 0, slots := 0, locals := 47 }
theorem in_X7_isWishedBefore_X7 : ∀ w ∈ wsX70, w ∈ wsX7_isWishedBefore := by decide +kernel
theorem lk_X7_isWishedBefore_50 : Cond.fieldLink RX7 50 "SameAgain" "wishes" "LSameAgain$Wishes;" ∈ wsX7_isWishedBefore := by decide +kernel
theorem in_X7_isWishedBefore_X6 : ∀ w ∈ wsX60, w ∈ wsX7_isWishedBefore := by decide +kernel
theorem lk_X7_isWishedBefore_234 : (RX7, 234, "SameAgain$Wishes", "many", "I", "SameAgain") ∈ nwF := by decide +kernel
set_option maxHeartbeats 4000000 in
set_option maxRecDepth 100000 in
theorem w_X7_isWishedBefore_b2_j {G : Gt} {X : Cxt} {Q : State → Prop} (C : Cx G X cX7_isWishedBefore RX7 wsX7_isWishedBefore 6 rm_X7_isWishedBefore) {post : Int32 → Mem → Prop} (hQ : RetI G X Q post .boolean 0 0) : ∀ (n : Nat) (v1 v2 v3 : Int32) (μ : Mem), itr (fun _ _ _ _ => False) (w_X7_isWishedBefore_b2 post) n v1 v2 v3 μ → J G X Q 6 0 0 2 [(0, .ref (ad G 0)), (1, .int v1), (2, .int v2), (3, .int v3)] [] μ := by
  intro n
  induction n with
  | zero => intro v1 v2 v3 μ h; exact h.elim
  | succ n ih =>
    intro v1 v2 v3 μ h
    replace h : w_X7_isWishedBefore_b2 post (itr (fun _ _ _ _ => False) (w_X7_isWishedBefore_b2 post) n) v1 v2 v3 μ := h
    generalize itr (fun _ _ _ _ => False) (w_X7_isWishedBefore_b2 post) n = k2 at ih h
    have hk2 := ih
    unfold w_X7_isWishedBefore_b2 at h
    refine j_iload_n C 3 dX7_isWishedBefore_2 rfl ?_
    refine j_aload_n C 0 dX7_isWishedBefore_3 rfl ?_
    refine j_getR C 0 6 sh_0 (by decide) cl_X7 (by decide) rfl in_X7_isWishedBefore_X7 lk_X7_isWishedBefore_50 rfl dX7_isWishedBefore_4 ?_
    refine j_getIN C 7 2 sh_7 (by decide) cl_X6 (by decide) rfl in_X7_isWishedBefore_X6 lk_X7_isWishedBefore_234 rfl dX7_isWishedBefore_7 ?_
    refine j_icmp_ge C 55 dX7_isWishedBefore_10 (by decide) (fun c7 => ?_) (fun c7 => ?_)
    · replace h := h.1 c7
      refine j_iconst (v := 0) C dX7_isWishedBefore_55 (by decide) ?_
      exact j_zret C hQ (by decide) (by decide) rfl h dX7_isWishedBefore_56
    · replace h := h.2 c7
      refine j_aload_n C 0 dX7_isWishedBefore_13 rfl ?_
      refine j_iload_n C 3 dX7_isWishedBefore_14 rfl ?_
      refine j_iload_n C 1 dX7_isWishedBefore_15 rfl ?_
      refine j_cVI (n := 2) (rest := []) C 0 (c_X7_rank (xl X) G C.2.2.1 _ v3 v1 μ) h gX7_isWishedBefore_X7_rank rfl ⟨rfl, rfl⟩ (by decide +kernel) ⟨by decide, by decide⟩ ⟨by decide, by decide⟩ sh_0 (by decide) cl_X7 rfl rfl (Nat.le_of_ble_eq_true rfl) dX7_isWishedBefore_16 rfl rfl (fun r2 μ1 h => ?_)
      refine j_istore (lv' := [(0, .ref (ad G 0)), (1, .int v1), (2, .int v2), (3, .int v3), (4, .int r2)]) C dX7_isWishedBefore_19 (by decide) rfl rfl ?_
      refine j_aload_n C 0 dX7_isWishedBefore_21 rfl ?_
      refine j_iload_n C 3 dX7_isWishedBefore_22 rfl ?_
      refine j_iload_n C 2 dX7_isWishedBefore_23 rfl ?_
      refine j_cVI (n := 2) (rest := []) C 0 (c_X7_rank (xl X) G C.2.2.1 _ v3 v2 μ1) h gX7_isWishedBefore_X7_rank rfl ⟨rfl, rfl⟩ (by decide +kernel) ⟨by decide, by decide⟩ ⟨by decide, by decide⟩ sh_0 (by decide) cl_X7 rfl rfl (Nat.le_of_ble_eq_true rfl) dX7_isWishedBefore_24 rfl rfl (fun r4 μ3 h => ?_)
      refine j_istore (lv' := [(0, .ref (ad G 0)), (1, .int v1), (2, .int v2), (3, .int v3), (4, .int r2), (5, .int r4)]) C dX7_isWishedBefore_27 (by decide) rfl rfl ?_
      refine j_iload C 4 dX7_isWishedBefore_29 rfl ?_
      refine j_iload C 5 dX7_isWishedBefore_31 rfl ?_
      refine j_icmp_eq C 49 dX7_isWishedBefore_33 (by decide) (fun c6 => ?_) (fun c6 => ?_)
      · replace h := h.1 c6
        refine j_iinc (v := v3 + (1 : Int32)) (lv' := [(0, .ref (ad G 0)), (1, .int v1), (2, .int v2), (3, .int (v3 + (1 : Int32))), (4, .int r2), (5, .int r4)]) C 3 dX7_isWishedBefore_49 rfl rfl (by decide) rfl rfl ?_
        refine j_goto C 2 dX7_isWishedBefore_52 (by decide) ?_
        refine j_forget [0, 1, 2, 3] rfl ?_
        exact hk2 _ _ _ _ h
      · replace h := h.2 c6
        refine j_iload C 4 dX7_isWishedBefore_36 rfl ?_
        refine j_iload C 5 dX7_isWishedBefore_38 rfl ?_
        refine j_icmp_ge C 47 dX7_isWishedBefore_40 (by decide) (fun c5 => ?_) (fun c5 => ?_)
        · replace h := h.1 c5
          refine j_iconst (v := 0) C dX7_isWishedBefore_47 (by decide) ?_
          exact j_zret C hQ (by decide) (by decide) rfl h dX7_isWishedBefore_48
        · replace h := h.2 c5
          refine j_iconst (v := 1) C dX7_isWishedBefore_43 (by decide) ?_
          refine j_goto C 48 dX7_isWishedBefore_44 (by decide) ?_
          exact j_zret C hQ (by decide) (by decide) rfl h dX7_isWishedBefore_48
set_option maxHeartbeats 4000000 in
set_option maxRecDepth 100000 in
theorem c_X7_isWishedBefore (l : Launch) (G : Gt) (hD : Dj G) (post : Int32 → Mem → Prop) (a1 a2 : Int32) (μ : Mem) : MI G l yX7_isWishedBefore wsX7_isWishedBefore rm_X7_isWishedBefore 0 0 [.ref (ad G 0), .int a1, .int a2] μ (w_X7_isWishedBefore post a1 a2 μ) post := by
  refine mI_of (cc := cX7_isWishedBefore) (maxL := 6) (ty := .boolean) (lv0 := [(0, .ref (ad G 0)), (1, .int a1), (2, .int a2)]) hD (by decide) rfl (Nat.le_of_ble_eq_true rfl) rfl ?_
  intro X Q hl C hQ h
  subst hl
  replace C : Cx G X cX7_isWishedBefore RX7 wsX7_isWishedBefore 6 rm_X7_isWishedBefore := C
  unfold w_X7_isWishedBefore at h
  refine j_iconst (v := 0) C dX7_isWishedBefore_0 (by decide) ?_
  refine j_istore_n (lv' := [(0, .ref (ad G 0)), (1, .int a1), (2, .int a2), (3, .int (0 : Int32))]) C dX7_isWishedBefore_1 (by decide) rfl rfl ?_
  obtain ⟨n9, h⟩ := h
  exact w_X7_isWishedBefore_b2_j C hQ n9 _ _ _ _ h
/-! X7_keptOf -/
abbrev rm_X7_keptOf : Room := { frames := 3, cells := 0, slots := 0, locals := 72 }
theorem in_X7_keptOf_X7 : ∀ w ∈ wsX70, w ∈ wsX7_keptOf := by decide +kernel
theorem lk_X7_keptOf_19 : Cond.fieldLink RX7 19 "SameAgain" "files" "LSameAgain$Files;" ∈ wsX7_keptOf := by decide +kernel
theorem in_X7_keptOf_X1 : ∀ w ∈ wsX10, w ∈ wsX7_keptOf := by decide +kernel
theorem lk_X7_keptOf_190 : (RX7, 190, "SameAgain$Files", "made", "I", "SameAgain") ∈ nwF := by decide +kernel
set_option maxHeartbeats 4000000 in
set_option maxRecDepth 100000 in
theorem w_X7_keptOf_b38_j {G : Gt} {X : Cxt} {Q : State → Prop} (C : Cx G X cX7_keptOf RX7 wsX7_keptOf 4 rm_X7_keptOf) {post : Int32 → Mem → Prop} (hQ : RetI G X Q post .int 0 0) {k4 : Int32 → Int32 → Int32 → Mem → Prop} (hk4 : ∀ (v1 v2 v3 : Int32) (μ : Mem), k4 v1 v2 v3 μ → J G X Q 4 0 0 4 [(0, .ref (ad G 0)), (1, .int v1), (2, .int v2), (3, .int v3)] [] μ) {v1 v3 : Int32} {μ : Mem} (h : w_X7_keptOf_b38 post k4 v1 v3 μ) : J G X Q 4 0 0 38 [(0, .ref (ad G 0)), (1, .int v1), (3, .int v3)] [] μ := by
  unfold w_X7_keptOf_b38 at h
  refine j_iload_n C 2 dX7_keptOf_38 rfl ?_
  refine j_istore_n (lv' := [(0, .ref (ad G 0)), (1, .int v1), (2, .int v3), (3, .int v3)]) C dX7_keptOf_39 (by decide) rfl rfl ?_
  refine j_iinc (v := v3 + (1 : Int32)) (lv' := [(0, .ref (ad G 0)), (1, .int v1), (2, .int v3), (3, .int (v3 + (1 : Int32)))]) C 3 dX7_keptOf_40 rfl rfl (by decide) rfl rfl ?_
  refine j_goto C 4 dX7_keptOf_43 (by decide) ?_
  exact hk4 _ _ _ _ h
set_option maxHeartbeats 4000000 in
set_option maxRecDepth 100000 in
theorem w_X7_keptOf_b4_j {G : Gt} {X : Cxt} {Q : State → Prop} (C : Cx G X cX7_keptOf RX7 wsX7_keptOf 4 rm_X7_keptOf) {post : Int32 → Mem → Prop} (hQ : RetI G X Q post .int 0 0) : ∀ (n : Nat) (v1 v2 v3 : Int32) (μ : Mem), itr (fun _ _ _ _ => False) (w_X7_keptOf_b4 post) n v1 v2 v3 μ → J G X Q 4 0 0 4 [(0, .ref (ad G 0)), (1, .int v1), (2, .int v2), (3, .int v3)] [] μ := by
  intro n
  induction n with
  | zero => intro v1 v2 v3 μ h; exact h.elim
  | succ n ih =>
    intro v1 v2 v3 μ h
    replace h : w_X7_keptOf_b4 post (itr (fun _ _ _ _ => False) (w_X7_keptOf_b4 post) n) v1 v2 v3 μ := h
    generalize itr (fun _ _ _ _ => False) (w_X7_keptOf_b4 post) n = k4 at ih h
    have hk4 := ih
    unfold w_X7_keptOf_b4 at h
    refine j_iload_n C 3 dX7_keptOf_4 rfl ?_
    refine j_aload_n C 0 dX7_keptOf_5 rfl ?_
    refine j_getR C 0 1 sh_0 (by decide) cl_X7 (by decide) rfl in_X7_keptOf_X7 lk_X7_keptOf_19 rfl dX7_keptOf_6 ?_
    refine j_getIN C 2 4 sh_2 (by decide) cl_X1 (by decide) rfl in_X7_keptOf_X1 lk_X7_keptOf_190 rfl dX7_keptOf_9 ?_
    refine j_icmp_ge C 46 dX7_keptOf_12 (by decide) (fun c8 => ?_) (fun c8 => ?_)
    · replace h := h.1 c8
      refine j_iload_n C 2 dX7_keptOf_46 rfl ?_
      exact j_iret C hQ (by decide) (by decide) h dX7_keptOf_47
    · replace h := h.2 c8
      refine j_aload_n C 0 dX7_keptOf_15 rfl ?_
      refine j_iload_n C 3 dX7_keptOf_16 rfl ?_
      refine j_iload_n C 1 dX7_keptOf_17 rfl ?_
      refine j_cVI (n := 2) (rest := []) C 0 (c_X7_isMember (xl X) G C.2.2.1 _ v3 v1 μ) h gX7_keptOf_X7_isMember rfl ⟨rfl, rfl⟩ (by decide +kernel) ⟨by decide, by decide⟩ ⟨by decide, by decide⟩ sh_0 (by decide) cl_X7 rfl rfl (Nat.le_of_ble_eq_true rfl) dX7_keptOf_18 rfl rfl (fun r2 μ1 h => ?_)
      refine j_if_eq C 40 dX7_keptOf_21 (by decide) (fun c7 => ?_) (fun c7 => ?_)
      · replace h := h.1 c7
        refine j_iinc (v := v3 + (1 : Int32)) (lv' := [(0, .ref (ad G 0)), (1, .int v1), (2, .int v2), (3, .int (v3 + (1 : Int32)))]) C 3 dX7_keptOf_40 rfl rfl (by decide) rfl rfl ?_
        refine j_goto C 4 dX7_keptOf_43 (by decide) ?_
        exact hk4 _ _ _ _ h
      · replace h := h.2 c7
        refine j_iload_n C 2 dX7_keptOf_24 rfl ?_
        refine j_iconst (v := -1) C dX7_keptOf_25 (by decide) ?_
        refine j_icmp_eq C 38 dX7_keptOf_26 (by decide) (fun c6 => ?_) (fun c6 => ?_)
        · replace h := h.1 c6
          refine j_forget [0, 1, 3] rfl ?_
          exact w_X7_keptOf_b38_j C hQ hk4 h
        · replace h := h.2 c6
          refine j_aload_n C 0 dX7_keptOf_29 rfl ?_
          refine j_iload_n C 3 dX7_keptOf_30 rfl ?_
          refine j_iload_n C 2 dX7_keptOf_31 rfl ?_
          refine j_cVI (n := 2) (rest := []) C 0 (c_X7_isWishedBefore (xl X) G C.2.2.1 _ v3 v2 μ1) h gX7_keptOf_X7_isWishedBefore rfl ⟨rfl, rfl⟩ (by decide +kernel) ⟨by decide, by decide⟩ ⟨by decide, by decide⟩ sh_0 (by decide) cl_X7 rfl rfl (Nat.le_of_ble_eq_true rfl) dX7_keptOf_32 rfl rfl (fun r4 μ3 h => ?_)
          refine j_if_eq C 40 dX7_keptOf_35 (by decide) (fun c5 => ?_) (fun c5 => ?_)
          · replace h := h.1 c5
            refine j_iinc (v := v3 + (1 : Int32)) (lv' := [(0, .ref (ad G 0)), (1, .int v1), (2, .int v2), (3, .int (v3 + (1 : Int32)))]) C 3 dX7_keptOf_40 rfl rfl (by decide) rfl rfl ?_
            refine j_goto C 4 dX7_keptOf_43 (by decide) ?_
            exact hk4 _ _ _ _ h
          · replace h := h.2 c5
            refine j_forget [0, 1, 3] rfl ?_
            exact w_X7_keptOf_b38_j C hQ hk4 h
set_option maxHeartbeats 4000000 in
set_option maxRecDepth 100000 in
theorem c_X7_keptOf (l : Launch) (G : Gt) (hD : Dj G) (post : Int32 → Mem → Prop) (a1 : Int32) (μ : Mem) : MI G l yX7_keptOf wsX7_keptOf rm_X7_keptOf 0 0 [.ref (ad G 0), .int a1] μ (w_X7_keptOf post a1 μ) post := by
  refine mI_of (cc := cX7_keptOf) (maxL := 4) (ty := .int) (lv0 := [(0, .ref (ad G 0)), (1, .int a1)]) hD (by decide) rfl (Nat.le_of_ble_eq_true rfl) rfl ?_
  intro X Q hl C hQ h
  subst hl
  replace C : Cx G X cX7_keptOf RX7 wsX7_keptOf 4 rm_X7_keptOf := C
  unfold w_X7_keptOf at h
  refine j_iconst (v := -1) C dX7_keptOf_0 (by decide) ?_
  refine j_istore_n (lv' := [(0, .ref (ad G 0)), (1, .int a1), (2, .int (-1 : Int32))]) C dX7_keptOf_1 (by decide) rfl rfl ?_
  refine j_iconst (v := 0) C dX7_keptOf_2 (by decide) ?_
  refine j_istore_n (lv' := [(0, .ref (ad G 0)), (1, .int a1), (2, .int (-1 : Int32)), (3, .int (0 : Int32))]) C dX7_keptOf_3 (by decide) rfl rfl ?_
  obtain ⟨n9, h⟩ := h
  exact w_X7_keptOf_b4_j C hQ n9 _ _ _ _ h
/-! X7_needGroup -/
abbrev rm_X7_needGroup : Room := { frames := 6, cells := 1, slots := 6, locals := 82 }
theorem hat_X7_needGroup_nse : ∀ w ∈ vz_nse.filter goodWord, w ∈ wsX7_needGroup := fun w hw => List.mem_cons_of_mem _ (List.mem_append_right _ hw)
theorem wd_X7_needGroup_cl159 : Cond.classLink RX7 159 "java/util/NoSuchElementException" ∈ wsX7_needGroup := by decide +kernel
theorem wd_X7_needGroup_in_nse : Cond.initialized "java/util/NoSuchElementException" ∈ wsX7_needGroup := by decide +kernel
theorem in_X7_needGroup_X7 : ∀ w ∈ wsX70, w ∈ wsX7_needGroup := by decide +kernel
theorem lk_X7_needGroup_33 : Cond.fieldLink RX7 33 "SameAgain" "findings" "LSameAgain$Findings;" ∈ wsX7_needGroup := by decide +kernel
theorem in_X7_needGroup_X2 : ∀ w ∈ wsX20, w ∈ wsX7_needGroup := by decide +kernel
theorem lk_X7_needGroup_178 : (RX7, 178, "SameAgain$Findings", "groups", "I", "SameAgain") ∈ nwF := by decide +kernel
set_option maxHeartbeats 4000000 in
set_option maxRecDepth 100000 in
theorem w_X7_needGroup_b15_j {G : Gt} {X : Cxt} {Q : State → Prop} (C : Cx G X cX7_needGroup RX7 wsX7_needGroup 2 rm_X7_needGroup) {post : Mem → Prop} (hQ : RetV G X Q post 1 6) {xq : XP} (hX : Xq G X Q xq 1 6) {μ : Mem} (h : w_X7_needGroup_b15 post xq μ) : J G X Q 2 0 0 15 [] [] μ := by
  unfold w_X7_needGroup_b15 at h
  exact j_thr (text := "no such group was found") C hX (by decide) b0_nse b1_nse b2_nse b5_nse wd_X7_needGroup_cl159 wd_X7_needGroup_in_nse (by decide +kernel) hat_X7_needGroup_nse hng_nse hgo_nse dX7_needGroup_15 dX7_needGroup_18 (Or.inr ⟨dX7_needGroup_19, rfl⟩) dX7_needGroup_22 dX7_needGroup_25 (by decide) (Nat.le_of_ble_eq_true rfl) (by decide) (by decide) (by decide) (by decide) h
set_option maxHeartbeats 4000000 in
set_option maxRecDepth 100000 in
theorem c_X7_needGroup (l : Launch) (G : Gt) (hD : Dj G) (hs : l.stackTraces = false) (post : Mem → Prop) (xq : XP) (a1 : Int32) (μ : Mem) : XV G l yX7_needGroup wsX7_needGroup rm_X7_needGroup 1 6 [.ref (ad G 0), .int a1] μ (w_X7_needGroup post xq a1 μ) post xq := by
  refine xV_of (cc := cX7_needGroup) (maxL := 2) (lv0 := [(0, .ref (ad G 0)), (1, .int a1)]) hD hs (by decide) rfl (Nat.le_of_ble_eq_true rfl) rfl ?_
  intro X Q hl C hQ hX h
  subst hl
  replace C : Cx G X cX7_needGroup RX7 wsX7_needGroup 2 rm_X7_needGroup := C
  unfold w_X7_needGroup at h
  refine j_iload_n C 1 dX7_needGroup_0 rfl ?_
  refine j_if_lt C 15 dX7_needGroup_1 (by decide) (fun c2 => ?_) (fun c2 => ?_)
  · replace h := h.1 c2
    refine j_forget [] rfl ?_
    exact w_X7_needGroup_b15_j C hQ hX h
  · replace h := h.2 c2
    refine j_iload_n C 1 dX7_needGroup_4 rfl ?_
    refine j_aload_n C 0 dX7_needGroup_5 rfl ?_
    refine j_getR C 0 3 sh_0 (by decide) cl_X7 (by decide) rfl in_X7_needGroup_X7 lk_X7_needGroup_33 rfl dX7_needGroup_6 ?_
    refine j_getIN C 4 3 sh_4 (by decide) cl_X2 (by decide) rfl in_X7_needGroup_X2 lk_X7_needGroup_178 rfl dX7_needGroup_9 ?_
    refine j_icmp_lt C 26 dX7_needGroup_12 (by decide) (fun c1 => ?_) (fun c1 => ?_)
    · replace h := h.1 c1
      exact j_vret C hQ (by decide) (by decide) h dX7_needGroup_26
    · replace h := h.2 c1
      refine j_forget [] rfl ?_
      exact w_X7_needGroup_b15_j C hQ hX h
/-! X7_keep -/
abbrev rm_X7_keep : Room := { frames := 7, cells := 1, slots := 6, locals := 103 }
set_option maxHeartbeats 4000000 in
set_option maxRecDepth 100000 in
theorem c_X7_keep (l : Launch) (G : Gt) (hD : Dj G) (hs : l.stackTraces = false) (post : Int32 → Mem → Prop) (xq : XP) (a1 : Int32) (μ : Mem) : XI G l yX7_keep wsX7_keep rm_X7_keep 1 6 [.ref (ad G 0), .int a1] μ (w_X7_keep post xq a1 μ) post xq := by
  refine xI_of (cc := cX7_keep) (maxL := 2) (ty := .int) (lv0 := [(0, .ref (ad G 0)), (1, .int a1)]) hD hs (by decide) rfl (Nat.le_of_ble_eq_true rfl) rfl ?_
  intro X Q hl C hQ hX h
  subst hl
  replace C : Cx G X cX7_keep RX7 wsX7_keep 2 rm_X7_keep := C
  unfold w_X7_keep at h
  refine j_aload_n C 0 dX7_keep_0 rfl ?_
  refine j_iload_n C 1 dX7_keep_1 rfl ?_
  refine j_xVV (n := 1) (rest := []) C hX 0 (c_X7_needGroup (xl X) G C.2.2.1 hX.2.2 _ xq a1 μ) h gX7_keep_X7_needGroup rfl ⟨rfl, rfl⟩ (by decide +kernel) ⟨by decide, by decide⟩ ⟨by decide, by decide⟩ ⟨by decide, by decide⟩ sh_0 (by decide) cl_X7 rfl rfl (Nat.le_of_ble_eq_true rfl) dX7_keep_2 rfl rfl (fun μ1 h => ?_)
  refine j_aload_n C 0 dX7_keep_5 rfl ?_
  refine j_iload_n C 1 dX7_keep_6 rfl ?_
  refine j_cVI (n := 1) (rest := []) C 0 (c_X7_keptOf (xl X) G C.2.2.1 _ a1 μ1) h gX7_keep_X7_keptOf rfl ⟨rfl, rfl⟩ (by decide +kernel) ⟨by decide, by decide⟩ ⟨by decide, by decide⟩ sh_0 (by decide) cl_X7 rfl rfl (Nat.le_of_ble_eq_true rfl) dX7_keep_7 rfl rfl (fun r3 μ2 h => ?_)
  exact j_iret C hQ (by decide) (by decide) h dX7_keep_10
/-! X7_leave -/
abbrev rm_X7_leave : Room := { frames := 6, cells := 1, slots := 6, locals := 82 }
theorem hat_X7_leave_iae : ∀ w ∈ vz_iae.filter goodWord, w ∈ wsX7_leave := fun w hw => List.mem_cons_of_mem _ (List.mem_append_right _ hw)
theorem wd_X7_leave_cl143 : Cond.classLink RX7 143 "java/lang/IllegalArgumentException" ∈ wsX7_leave := by decide +kernel
theorem wd_X7_leave_in_iae : Cond.initialized "java/lang/IllegalArgumentException" ∈ wsX7_leave := by decide +kernel
theorem in_X7_leave_X7 : ∀ w ∈ wsX70, w ∈ wsX7_leave := by decide +kernel
theorem lk_X7_leave_61 : Cond.fieldLink RX7 61 "SameAgain" "leaves" "[Z" ∈ wsX7_leave := by decide +kernel
set_option maxHeartbeats 4000000 in
set_option maxRecDepth 100000 in
theorem w_X7_leave_b14_j {G : Gt} {X : Cxt} {Q : State → Prop} (C : Cx G X cX7_leave RX7 wsX7_leave 4 rm_X7_leave) {post : Int32 → Mem → Prop} (hQ : RetI G X Q post .boolean 1 6) {xq : XP} (hX : Xq G X Q xq 1 6) {μ : Mem} (h : w_X7_leave_b14 post xq μ) : J G X Q 4 0 0 14 [] [] μ := by
  unfold w_X7_leave_b14 at h
  exact j_thr (text := "no such owners") C hX (by decide) b0_iae b1_iae b2_iae b5_iae wd_X7_leave_cl143 wd_X7_leave_in_iae (by decide +kernel) hat_X7_leave_iae hng_iae hgo_iae dX7_leave_14 dX7_leave_17 (Or.inl ⟨dX7_leave_18, rfl⟩) dX7_leave_20 dX7_leave_23 (by decide) (Nat.le_of_ble_eq_true rfl) (by decide) (by decide) (by decide) (by decide) h
set_option maxHeartbeats 4000000 in
set_option maxRecDepth 100000 in
theorem c_X7_leave (l : Launch) (G : Gt) (hD : Dj G) (hs : l.stackTraces = false) (post : Int32 → Mem → Prop) (xq : XP) (a1 a2 : Int32) (μ : Mem) : XI G l yX7_leave wsX7_leave rm_X7_leave 1 6 [.ref (ad G 0), .int a1, .int a2] μ (w_X7_leave post xq a1 a2 μ) post xq := by
  refine xI_of (cc := cX7_leave) (maxL := 4) (ty := .boolean) (lv0 := [(0, .ref (ad G 0)), (1, .int a1), (2, .int a2)]) hD hs (by decide) rfl (Nat.le_of_ble_eq_true rfl) rfl ?_
  intro X Q hl C hQ hX h
  subst hl
  replace C : Cx G X cX7_leave RX7 wsX7_leave 4 rm_X7_leave := C
  unfold w_X7_leave at h
  refine j_iload_n C 1 dX7_leave_0 rfl ?_
  refine j_cSI (n := 1) (rest := []) C (c_X7_isOwner (xl X) G C.2.2.1 _ a1 μ) h gX7_leave_X7_isOwner rfl ⟨rfl, rfl⟩ (by decide +kernel) ⟨by decide, by decide⟩ ⟨by decide, by decide⟩ rfl rfl (Nat.le_of_ble_eq_true rfl) dX7_leave_1 rfl rfl (fun r2 μ1 h => ?_)
  refine j_if_eq C 14 dX7_leave_4 (by decide) (fun c11 => ?_) (fun c11 => ?_)
  · replace h := h.1 c11
    refine j_forget [] rfl ?_
    exact w_X7_leave_b14_j C hQ hX h
  · replace h := h.2 c11
    refine j_iload_n C 2 dX7_leave_7 rfl ?_
    refine j_cSI (n := 1) (rest := []) C (c_X7_isOwner (xl X) G C.2.2.1 _ a2 μ1) h gX7_leave_X7_isOwner rfl ⟨rfl, rfl⟩ (by decide +kernel) ⟨by decide, by decide⟩ ⟨by decide, by decide⟩ rfl rfl (Nat.le_of_ble_eq_true rfl) dX7_leave_8 rfl rfl (fun r4 μ3 h => ?_)
    refine j_if_ne C 24 dX7_leave_11 (by decide) (fun c10 => ?_) (fun c10 => ?_)
    · replace h := h.1 c10
      refine j_aload_n C 0 dX7_leave_24 rfl ?_
      refine j_getR C 0 8 sh_0 (by decide) cl_X7 (by decide) rfl in_X7_leave_X7 lk_X7_leave_61 rfl dX7_leave_25 ?_
      refine j_iload_n C 1 dX7_leave_28 rfl ?_
      refine j_bipush (v := 8) C dX7_leave_29 (by decide) ?_
      refine j_imul C dX7_leave_31 ?_
      refine j_iload_n C 2 dX7_leave_32 rfl ?_
      refine j_iadd C dX7_leave_33 ?_
      have b5 := h.1
      replace h := h.2
      refine j_zald C 9 sh_9 (by decide) b5 dX7_leave_34 ?_
      refine j_istore_n (lv' := [(0, .ref (ad G 0)), (1, .int a1), (2, .int a2), (3, .int (μ3 9 (ix ((a1 * (8 : Int32)) + a2))))]) C dX7_leave_35 (by decide) rfl rfl ?_
      refine j_aload_n C 0 dX7_leave_36 rfl ?_
      refine j_getR C 0 8 sh_0 (by decide) cl_X7 (by decide) rfl in_X7_leave_X7 lk_X7_leave_61 rfl dX7_leave_37 ?_
      refine j_iload_n C 1 dX7_leave_40 rfl ?_
      refine j_bipush (v := 8) C dX7_leave_41 (by decide) ?_
      refine j_imul C dX7_leave_43 ?_
      refine j_iload_n C 2 dX7_leave_44 rfl ?_
      refine j_iadd C dX7_leave_45 ?_
      refine j_iconst (v := 1) C dX7_leave_46 (by decide) ?_
      obtain ⟨μ6, e7⟩ : ∃ m, m = wr μ3 9 (ix ((a1 * (8 : Int32)) + a2)) (nz (1 : Int32)) := ⟨_, rfl⟩
      have b8 := h.1
      replace h := h.2 μ6 e7
      refine j_zast C 9 sh_9 (by decide) b8 dX7_leave_47 e7 ?_
      refine j_iload_n C 3 dX7_leave_48 rfl ?_
      refine j_if_ne C 56 dX7_leave_49 (by decide) (fun c9 => ?_) (fun c9 => ?_)
      · replace h := h.1 c9
        refine j_iconst (v := 0) C dX7_leave_56 (by decide) ?_
        exact j_zret C hQ (by decide) (by decide) rfl h dX7_leave_57
      · replace h := h.2 c9
        refine j_iconst (v := 1) C dX7_leave_52 (by decide) ?_
        refine j_goto C 57 dX7_leave_53 (by decide) ?_
        exact j_zret C hQ (by decide) (by decide) rfl h dX7_leave_57
    · replace h := h.2 c10
      refine j_forget [] rfl ?_
      exact w_X7_leave_b14_j C hQ hX h
