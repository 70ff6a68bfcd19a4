/-! L_folder -/
abbrev rm_L_folder : Room := { frames := 8, cells := 1, slots := 6, locals := 125 }
theorem wd_L_folder_cl13 : Cond.classLink RL 13 "java/util/NoSuchElementException" ∈ wsL_folder := by decide +kernel
set_option maxHeartbeats 4000000 in
set_option maxRecDepth 100000 in
theorem c_L_folder (l : Launch) (G : Gt) (hD : Dj G) (hs : l.stackTraces = false) (post : Int32 → Mem → Prop) (a1 a2 : Int32) (μ : Mem) : MI G l yL_folder wsL_folder rm_L_folder 1 6 [.ref (ad G 0), .int a1, .int a2, .ref (ad G 56)] μ (w_L_folder post a1 a2 μ) post := by
  refine mW_of (cc := cL_folder) (maxL := 5) (ty := .int) (lv0 := [(0, .ref (ad G 0)), (1, .int a1), (2, .int a2), (3, .ref (ad G 56))]) hD (by decide) rfl (Nat.le_of_ble_eq_true rfl) rfl ?_
  intro X Q hl C hQ hT h
  subst hl
  replace C : Cx G X cL_folder RL wsL_folder 5 rm_L_folder := C
  unfold w_L_folder at h
  refine j_aload_n C 3 dL_folder_0 rfl ?_
  refine j_iconst (v := 0) C dL_folder_1 (by decide) ?_
  refine j_aload_n C 0 dL_folder_2 rfl ?_
  refine j_iload_n C 1 dL_folder_3 rfl ?_
  refine j_iload_n C 2 dL_folder_4 rfl ?_
  refine j_wVI (n := 2) (rest := [.int (0 : Int32), .ref (ad G 56)]) C 0 (c_X7_folder (xl X) G C.2.2.1 hs _ _ a1 a2 μ) h gL_folder_X7_folder rfl ⟨rfl, rfl⟩ (by decide +kernel) ⟨by decide, by decide⟩ ⟨by decide, by decide⟩ sh_0 (by decide) cl_X7 rfl rfl (Nat.le_of_ble_eq_true rfl) dL_folder_5 rfl rfl (fun E μ1 h => ?_) (fun r1 μ1 h => ?_)
  · obtain ⟨rfl, h⟩ := h
    refine jx_catch (name := "java/util/NoSuchElementException") C [] ⟨0, 10, 13, 13⟩ [] hT (fun z hz => nomatch hz) rfl (by decide) wd_L_folder_cl13 (by decide +kernel) (fun q9 => ?_)
    refine j_astore (lv' := [(0, .ref (ad G 0)), (1, .int a1), (2, .int a2), (3, .ref (ad G 56)), (4, .ref q9)]) C dL_folder_13 (by decide) rfl rfl ?_
    refine j_iconst (v := 1) C dL_folder_15 (by decide) ?_
    exact j_iret C hQ (by decide) (by decide) h dL_folder_16
  · refine j_i2l C dL_folder_8 ?_
    obtain ⟨μ2, e2⟩ : ∃ m, m = wr μ1 56 (ix (0 : Int32)) r1 := ⟨_, rfl⟩
    replace h := h μ2 e2
    refine j_last (x := r1) C 56 sh_56 (by decide) rfl in01 dL_folder_9 e2 ?_
    refine j_goto C 17 dL_folder_10 (by decide) ?_
    refine j_iconst (v := 0) C dL_folder_17 (by decide) ?_
    exact j_iret C hQ (by decide) (by decide) h dL_folder_18
/-! L_file -/
abbrev rm_L_file : Room := { frames := 8, cells := 1, slots := 6, locals := 127 }
theorem wd_L_file_cl13 : Cond.classLink RL 13 "java/util/NoSuchElementException" ∈ wsL_file := by decide +kernel
set_option maxHeartbeats 4000000 in
set_option maxRecDepth 100000 in
theorem c_L_file (l : Launch) (G : Gt) (hD : Dj G) (hs : l.stackTraces = false) (post : Int32 → Mem → Prop) (a1 a2 a3 a4 : Int32) (μ : Mem) : MI G l yL_file wsL_file rm_L_file 1 6 [.ref (ad G 0), .int a1, .int a2, .int a3, .int a4, .ref (ad G 56)] μ (w_L_file post a1 a2 a3 a4 μ) post := by
  refine mW_of (cc := cL_file) (maxL := 7) (ty := .int) (lv0 := [(0, .ref (ad G 0)), (1, .int a1), (2, .int a2), (3, .int a3), (4, .int a4), (5, .ref (ad G 56))]) hD (by decide) rfl (Nat.le_of_ble_eq_true rfl) rfl ?_
  intro X Q hl C hQ hT h
  subst hl
  replace C : Cx G X cL_file RL wsL_file 7 rm_L_file := C
  unfold w_L_file at h
  refine j_aload C 5 dL_file_0 rfl ?_
  refine j_iconst (v := 0) C dL_file_2 (by decide) ?_
  refine j_aload_n C 0 dL_file_3 rfl ?_
  refine j_iload_n C 1 dL_file_4 rfl ?_
  refine j_iload_n C 2 dL_file_5 rfl ?_
  refine j_iload_n C 3 dL_file_6 rfl ?_
  refine j_iload C 4 dL_file_7 rfl ?_
  refine j_wVI (n := 4) (rest := [.int (0 : Int32), .ref (ad G 56)]) C 0 (c_X7_file (xl X) G C.2.2.1 hs _ _ a1 a2 a3 a4 μ) h gL_file_X7_file rfl ⟨rfl, rfl⟩ (by decide +kernel) ⟨by decide, by decide⟩ ⟨by decide, by decide⟩ sh_0 (by decide) cl_X7 rfl rfl (Nat.le_of_ble_eq_true rfl) dL_file_9 rfl rfl (fun E μ1 h => ?_) (fun r1 μ1 h => ?_)
  · obtain ⟨rfl, h⟩ := h
    refine jx_catch (name := "java/util/NoSuchElementException") C [] ⟨0, 14, 17, 13⟩ [] hT (fun z hz => nomatch hz) rfl (by decide) wd_L_file_cl13 (by decide +kernel) (fun q9 => ?_)
    refine j_astore (lv' := [(0, .ref (ad G 0)), (1, .int a1), (2, .int a2), (3, .int a3), (4, .int a4), (5, .ref (ad G 56)), (6, .ref q9)]) C dL_file_17 (by decide) rfl rfl ?_
    refine j_iconst (v := 1) C dL_file_19 (by decide) ?_
    exact j_iret C hQ (by decide) (by decide) h dL_file_20
  · refine j_i2l C dL_file_12 ?_
    obtain ⟨μ2, e2⟩ : ∃ m, m = wr μ1 56 (ix (0 : Int32)) r1 := ⟨_, rfl⟩
    replace h := h μ2 e2
    refine j_last (x := r1) C 56 sh_56 (by decide) rfl in01 dL_file_13 e2 ?_
    refine j_goto C 21 dL_file_14 (by decide) ?_
    refine j_iconst (v := 0) C dL_file_21 (by decide) ?_
    exact j_iret C hQ (by decide) (by decide) h dL_file_22
/-! L_copy -/
abbrev rm_L_copy : Room := { frames := 8, cells := 2, slots := 12, locals := 127 }
theorem wd_L_copy_cl13 : Cond.classLink RL 13 "java/util/NoSuchElementException" ∈ wsL_copy := by decide +kernel
set_option maxHeartbeats 4000000 in
set_option maxRecDepth 100000 in
theorem c_L_copy (l : Launch) (G : Gt) (hD : Dj G) (hs : l.stackTraces = false) (post : Int32 → Mem → Prop) (a1 a2 a3 : Int32) (μ : Mem) : MI G l yL_copy wsL_copy rm_L_copy 2 12 [.ref (ad G 0), .int a1, .int a2, .int a3, .ref (ad G 56)] μ (w_L_copy post a1 a2 a3 μ) post := by
  refine mW_of (cc := cL_copy) (maxL := 6) (ty := .int) (lv0 := [(0, .ref (ad G 0)), (1, .int a1), (2, .int a2), (3, .int a3), (4, .ref (ad G 56))]) hD (by decide) rfl (Nat.le_of_ble_eq_true rfl) rfl ?_
  intro X Q hl C hQ hT h
  subst hl
  replace C : Cx G X cL_copy RL wsL_copy 6 rm_L_copy := C
  unfold w_L_copy at h
  refine j_aload C 4 dL_copy_0 rfl ?_
  refine j_iconst (v := 0) C dL_copy_2 (by decide) ?_
  refine j_aload_n C 0 dL_copy_3 rfl ?_
  refine j_iload_n C 1 dL_copy_4 rfl ?_
  refine j_iload_n C 2 dL_copy_5 rfl ?_
  refine j_iload_n C 3 dL_copy_6 rfl ?_
  refine j_wVI (n := 3) (rest := [.int (0 : Int32), .ref (ad G 56)]) C 0 (c_X7_copy (xl X) G C.2.2.1 hs _ _ a1 a2 a3 μ) h gL_copy_X7_copy rfl ⟨rfl, rfl⟩ (by decide +kernel) ⟨by decide, by decide⟩ ⟨by decide, by decide⟩ sh_0 (by decide) cl_X7 rfl rfl (Nat.le_of_ble_eq_true rfl) dL_copy_7 rfl rfl (fun E μ1 h => ?_) (fun r1 μ1 h => ?_)
  · obtain ⟨rfl, h⟩ := h
    refine jx_catch (name := "java/util/NoSuchElementException") C [] ⟨0, 12, 15, 13⟩ [] hT (fun z hz => nomatch hz) rfl (by decide) wd_L_copy_cl13 (by decide +kernel) (fun q9 => ?_)
    refine j_astore (lv' := [(0, .ref (ad G 0)), (1, .int a1), (2, .int a2), (3, .int a3), (4, .ref (ad G 56)), (5, .ref q9)]) C dL_copy_15 (by decide) rfl rfl ?_
    refine j_iconst (v := 1) C dL_copy_17 (by decide) ?_
    exact j_iret C hQ (by decide) (by decide) h dL_copy_18
  · refine j_i2l C dL_copy_10 ?_
    obtain ⟨μ2, e2⟩ : ∃ m, m = wr μ1 56 (ix (0 : Int32)) r1 := ⟨_, rfl⟩
    replace h := h μ2 e2
    refine j_last (x := r1) C 56 sh_56 (by decide) rfl in01 dL_copy_11 e2 ?_
    refine j_goto C 19 dL_copy_12 (by decide) ?_
    refine j_iconst (v := 0) C dL_copy_19 (by decide) ?_
    exact j_iret C hQ (by decide) (by decide) h dL_copy_20
/-! L_link -/
abbrev rm_L_link : Room := { frames := 8, cells := 2, slots := 12, locals := 126 }
theorem wd_L_link_cl13 : Cond.classLink RL 13 "java/util/NoSuchElementException" ∈ wsL_link := by decide +kernel
set_option maxHeartbeats 4000000 in
set_option maxRecDepth 100000 in
theorem c_L_link (l : Launch) (G : Gt) (hD : Dj G) (hs : l.stackTraces = false) (post : Int32 → Mem → Prop) (a1 a2 a3 : Int32) (μ : Mem) : MI G l yL_link wsL_link rm_L_link 2 12 [.ref (ad G 0), .int a1, .int a2, .int a3, .ref (ad G 56)] μ (w_L_link post a1 a2 a3 μ) post := by
  refine mW_of (cc := cL_link) (maxL := 6) (ty := .int) (lv0 := [(0, .ref (ad G 0)), (1, .int a1), (2, .int a2), (3, .int a3), (4, .ref (ad G 56))]) hD (by decide) rfl (Nat.le_of_ble_eq_true rfl) rfl ?_
  intro X Q hl C hQ hT h
  subst hl
  replace C : Cx G X cL_link RL wsL_link 6 rm_L_link := C
  unfold w_L_link at h
  refine j_aload C 4 dL_link_0 rfl ?_
  refine j_iconst (v := 0) C dL_link_2 (by decide) ?_
  refine j_aload_n C 0 dL_link_3 rfl ?_
  refine j_iload_n C 1 dL_link_4 rfl ?_
  refine j_iload_n C 2 dL_link_5 rfl ?_
  refine j_iload_n C 3 dL_link_6 rfl ?_
  refine j_wVI (n := 3) (rest := [.int (0 : Int32), .ref (ad G 56)]) C 0 (c_X7_link (xl X) G C.2.2.1 hs _ _ a1 a2 a3 μ) h gL_link_X7_link rfl ⟨rfl, rfl⟩ (by decide +kernel) ⟨by decide, by decide⟩ ⟨by decide, by decide⟩ sh_0 (by decide) cl_X7 rfl rfl (Nat.le_of_ble_eq_true rfl) dL_link_7 rfl rfl (fun E μ1 h => ?_) (fun r1 μ1 h => ?_)
  · obtain ⟨rfl, h⟩ := h
    refine jx_catch (name := "java/util/NoSuchElementException") C [] ⟨0, 12, 15, 13⟩ [] hT (fun z hz => nomatch hz) rfl (by decide) wd_L_link_cl13 (by decide +kernel) (fun q9 => ?_)
    refine j_astore (lv' := [(0, .ref (ad G 0)), (1, .int a1), (2, .int a2), (3, .int a3), (4, .ref (ad G 56)), (5, .ref q9)]) C dL_link_15 (by decide) rfl rfl ?_
    refine j_iconst (v := 1) C dL_link_17 (by decide) ?_
    exact j_iret C hQ (by decide) (by decide) h dL_link_18
  · refine j_i2l C dL_link_10 ?_
    obtain ⟨μ2, e2⟩ : ∃ m, m = wr μ1 56 (ix (0 : Int32)) r1 := ⟨_, rfl⟩
    replace h := h μ2 e2
    refine j_last (x := r1) C 56 sh_56 (by decide) rfl in01 dL_link_11 e2 ?_
    refine j_goto C 19 dL_link_12 (by decide) ?_
    refine j_iconst (v := 0) C dL_link_19 (by decide) ?_
    exact j_iret C hQ (by decide) (by decide) h dL_link_20
/-! L_move -/
abbrev rm_L_move : Room := { frames := 8, cells := 2, slots := 12, locals := 126 }
theorem wd_L_move_cl13 : Cond.classLink RL 13 "java/util/NoSuchElementException" ∈ wsL_move := by decide +kernel
set_option maxHeartbeats 4000000 in
set_option maxRecDepth 100000 in
theorem c_L_move (l : Launch) (G : Gt) (hD : Dj G) (hs : l.stackTraces = false) (post : Int32 → Mem → Prop) (a1 a2 a3 : Int32) (μ : Mem) : MI G l yL_move wsL_move rm_L_move 2 12 [.ref (ad G 0), .int a1, .int a2, .int a3, .ref (ad G 56)] μ (w_L_move post a1 a2 a3 μ) post := by
  refine mW_of (cc := cL_move) (maxL := 6) (ty := .int) (lv0 := [(0, .ref (ad G 0)), (1, .int a1), (2, .int a2), (3, .int a3), (4, .ref (ad G 56))]) hD (by decide) rfl (Nat.le_of_ble_eq_true rfl) rfl ?_
  intro X Q hl C hQ hT h
  subst hl
  replace C : Cx G X cL_move RL wsL_move 6 rm_L_move := C
  unfold w_L_move at h
  refine j_aload C 4 dL_move_0 rfl ?_
  refine j_iconst (v := 0) C dL_move_2 (by decide) ?_
  refine j_aload_n C 0 dL_move_3 rfl ?_
  refine j_iload_n C 1 dL_move_4 rfl ?_
  refine j_iload_n C 2 dL_move_5 rfl ?_
  refine j_iload_n C 3 dL_move_6 rfl ?_
  refine j_wVI (n := 3) (rest := [.int (0 : Int32), .ref (ad G 56)]) C 0 (c_X7_move (xl X) G C.2.2.1 hs _ _ a1 a2 a3 μ) h gL_move_X7_move rfl ⟨rfl, rfl⟩ (by decide +kernel) ⟨by decide, by decide⟩ ⟨by decide, by decide⟩ sh_0 (by decide) cl_X7 rfl rfl (Nat.le_of_ble_eq_true rfl) dL_move_7 rfl rfl (fun E μ1 h => ?_) (fun r1 μ1 h => ?_)
  · obtain ⟨rfl, h⟩ := h
    refine jx_catch (name := "java/util/NoSuchElementException") C [] ⟨0, 19, 22, 13⟩ [] hT (fun z hz => nomatch hz) rfl (by decide) wd_L_move_cl13 (by decide +kernel) (fun q9 => ?_)
    refine j_astore (lv' := [(0, .ref (ad G 0)), (1, .int a1), (2, .int a2), (3, .int a3), (4, .ref (ad G 56)), (5, .ref q9)]) C dL_move_22 (by decide) rfl rfl ?_
    refine j_iconst (v := 1) C dL_move_24 (by decide) ?_
    exact j_iret C hQ (by decide) (by decide) h dL_move_25
  · refine j_if_eq C 17 dL_move_10 (by decide) (fun c1 => ?_) (fun c1 => ?_)
    · replace h := h.1 c1
      refine j_lconst (v := 0) C dL_move_17 (by decide) ?_
      obtain ⟨μ2, e2⟩ : ∃ m, m = wr μ1 56 (ix (0 : Int32)) (0 : Int32) := ⟨_, rfl⟩
      replace h := h μ2 e2
      refine j_last (x := (0 : Int32)) C 56 sh_56 (by decide) (by decide) in01 dL_move_18 e2 ?_
      refine j_goto C 26 dL_move_19 (by decide) ?_
      refine j_iconst (v := 0) C dL_move_26 (by decide) ?_
      exact j_iret C hQ (by decide) (by decide) h dL_move_27
    · replace h := h.2 c1
      refine j_lconst (v := 1) C dL_move_13 (by decide) ?_
      refine j_goto C 18 dL_move_14 (by decide) ?_
      obtain ⟨μ2, e2⟩ : ∃ m, m = wr μ1 56 (ix (0 : Int32)) (1 : Int32) := ⟨_, rfl⟩
      replace h := h μ2 e2
      refine j_last (x := (1 : Int32)) C 56 sh_56 (by decide) (by decide) in01 dL_move_18 e2 ?_
      refine j_goto C 26 dL_move_19 (by decide) ?_
      refine j_iconst (v := 0) C dL_move_26 (by decide) ?_
      exact j_iret C hQ (by decide) (by decide) h dL_move_27
/-! L_remove -/
abbrev rm_L_remove : Room := { frames := 8, cells := 1, slots := 6, locals := 125 }
theorem wd_L_remove_cl13 : Cond.classLink RL 13 "java/util/NoSuchElementException" ∈ wsL_remove := by decide +kernel
set_option maxHeartbeats 4000000 in
set_option maxRecDepth 100000 in
theorem c_L_remove (l : Launch) (G : Gt) (hD : Dj G) (hs : l.stackTraces = false) (post : Int32 → Mem → Prop) (a1 : Int32) (μ : Mem) : MI G l yL_remove wsL_remove rm_L_remove 1 6 [.ref (ad G 0), .int a1, .ref (ad G 56)] μ (w_L_remove post a1 μ) post := by
  refine mW_of (cc := cL_remove) (maxL := 4) (ty := .int) (lv0 := [(0, .ref (ad G 0)), (1, .int a1), (2, .ref (ad G 56))]) hD (by decide) rfl (Nat.le_of_ble_eq_true rfl) rfl ?_
  intro X Q hl C hQ hT h
  subst hl
  replace C : Cx G X cL_remove RL wsL_remove 4 rm_L_remove := C
  unfold w_L_remove at h
  refine j_aload_n C 2 dL_remove_0 rfl ?_
  refine j_iconst (v := 0) C dL_remove_1 (by decide) ?_
  refine j_aload_n C 0 dL_remove_2 rfl ?_
  refine j_iload_n C 1 dL_remove_3 rfl ?_
  refine j_wVI (n := 1) (rest := [.int (0 : Int32), .ref (ad G 56)]) C 0 (c_X7_remove (xl X) G C.2.2.1 hs _ _ a1 μ) h gL_remove_X7_remove rfl ⟨rfl, rfl⟩ (by decide +kernel) ⟨by decide, by decide⟩ ⟨by decide, by decide⟩ sh_0 (by decide) cl_X7 rfl rfl (Nat.le_of_ble_eq_true rfl) dL_remove_4 rfl rfl (fun E μ1 h => ?_) (fun r1 μ1 h => ?_)
  · obtain ⟨rfl, h⟩ := h
    refine jx_catch (name := "java/util/NoSuchElementException") C [] ⟨0, 9, 12, 13⟩ [] hT (fun z hz => nomatch hz) rfl (by decide) wd_L_remove_cl13 (by decide +kernel) (fun q9 => ?_)
    refine j_astore_n (lv' := [(0, .ref (ad G 0)), (1, .int a1), (2, .ref (ad G 56)), (3, .ref q9)]) C dL_remove_12 (by decide) rfl rfl ?_
    refine j_iconst (v := 1) C dL_remove_13 (by decide) ?_
    exact j_iret C hQ (by decide) (by decide) h dL_remove_14
  · refine j_i2l C dL_remove_7 ?_
    obtain ⟨μ2, e2⟩ : ∃ m, m = wr μ1 56 (ix (0 : Int32)) r1 := ⟨_, rfl⟩
    replace h := h μ2 e2
    refine j_last (x := r1) C 56 sh_56 (by decide) rfl in01 dL_remove_8 e2 ?_
    refine j_goto C 15 dL_remove_9 (by decide) ?_
    refine j_iconst (v := 0) C dL_remove_15 (by decide) ?_
    exact j_iret C hQ (by decide) (by decide) h dL_remove_16
/-! L_hold -/
abbrev rm_L_hold : Room := { frames := 8, cells := 1, slots := 6, locals := 126 }
theorem wd_L_hold_cl13 : Cond.classLink RL 13 "java/util/NoSuchElementException" ∈ wsL_hold := by decide +kernel
set_option maxHeartbeats 4000000 in
set_option maxRecDepth 100000 in
theorem c_L_hold (l : Launch) (G : Gt) (hD : Dj G) (hs : l.stackTraces = false) (post : Int32 → Mem → Prop) (a1 a2 : Int32) (μ : Mem) : MI G l yL_hold wsL_hold rm_L_hold 1 6 [.ref (ad G 0), .int a1, .int a2, .ref (ad G 56)] μ (w_L_hold post a1 a2 μ) post := by
  refine mW_of (cc := cL_hold) (maxL := 5) (ty := .int) (lv0 := [(0, .ref (ad G 0)), (1, .int a1), (2, .int a2), (3, .ref (ad G 56))]) hD (by decide) rfl (Nat.le_of_ble_eq_true rfl) rfl ?_
  intro X Q hl C hQ hT h
  subst hl
  replace C : Cx G X cL_hold RL wsL_hold 5 rm_L_hold := C
  unfold w_L_hold at h
  refine j_aload_n C 3 dL_hold_0 rfl ?_
  refine j_iconst (v := 0) C dL_hold_1 (by decide) ?_
  refine j_aload_n C 0 dL_hold_2 rfl ?_
  refine j_iload_n C 1 dL_hold_3 rfl ?_
  refine j_iload_n C 2 dL_hold_4 rfl ?_
  refine j_wVI (n := 2) (rest := [.int (0 : Int32), .ref (ad G 56)]) C 0 (c_X7_hold (xl X) G C.2.2.1 hs _ _ a1 a2 μ) h gL_hold_X7_hold rfl ⟨rfl, rfl⟩ (by decide +kernel) ⟨by decide, by decide⟩ ⟨by decide, by decide⟩ sh_0 (by decide) cl_X7 rfl rfl (Nat.le_of_ble_eq_true rfl) dL_hold_5 rfl rfl (fun E μ1 h => ?_) (fun r1 μ1 h => ?_)
  · obtain ⟨rfl, h⟩ := h
    refine jx_catch (name := "java/util/NoSuchElementException") C [] ⟨0, 17, 20, 13⟩ [] hT (fun z hz => nomatch hz) rfl (by decide) wd_L_hold_cl13 (by decide +kernel) (fun q9 => ?_)
    refine j_astore (lv' := [(0, .ref (ad G 0)), (1, .int a1), (2, .int a2), (3, .ref (ad G 56)), (4, .ref q9)]) C dL_hold_20 (by decide) rfl rfl ?_
    refine j_iconst (v := 1) C dL_hold_22 (by decide) ?_
    exact j_iret C hQ (by decide) (by decide) h dL_hold_23
  · refine j_if_eq C 15 dL_hold_8 (by decide) (fun c1 => ?_) (fun c1 => ?_)
    · replace h := h.1 c1
      refine j_lconst (v := 0) C dL_hold_15 (by decide) ?_
      obtain ⟨μ2, e2⟩ : ∃ m, m = wr μ1 56 (ix (0 : Int32)) (0 : Int32) := ⟨_, rfl⟩
      replace h := h μ2 e2
      refine j_last (x := (0 : Int32)) C 56 sh_56 (by decide) (by decide) in01 dL_hold_16 e2 ?_
      refine j_goto C 24 dL_hold_17 (by decide) ?_
      refine j_iconst (v := 0) C dL_hold_24 (by decide) ?_
      exact j_iret C hQ (by decide) (by decide) h dL_hold_25
    · replace h := h.2 c1
      refine j_lconst (v := 1) C dL_hold_11 (by decide) ?_
      refine j_goto C 16 dL_hold_12 (by decide) ?_
      obtain ⟨μ2, e2⟩ : ∃ m, m = wr μ1 56 (ix (0 : Int32)) (1 : Int32) := ⟨_, rfl⟩
      replace h := h μ2 e2
      refine j_last (x := (1 : Int32)) C 56 sh_56 (by decide) (by decide) in01 dL_hold_16 e2 ?_
      refine j_goto C 24 dL_hold_17 (by decide) ?_
      refine j_iconst (v := 0) C dL_hold_24 (by decide) ?_
      exact j_iret C hQ (by decide) (by decide) h dL_hold_25
/-! L_write -/
abbrev rm_L_write : Room := { frames := 8, cells := 2, slots := 12, locals := 128 }
theorem wd_L_write_cl13 : Cond.classLink RL 13 "java/util/NoSuchElementException" ∈ wsL_write := by decide +kernel
theorem wd_L_write_cl41 : Cond.classLink RL 41 "java/lang/IllegalArgumentException" ∈ wsL_write := by decide +kernel
set_option maxHeartbeats 4000000 in
set_option maxRecDepth 100000 in
theorem c_L_write (l : Launch) (G : Gt) (hD : Dj G) (hs : l.stackTraces = false) (post : Int32 → Mem → Prop) (a1 a2 a3 : Int32) (μ : Mem) : MI G l yL_write wsL_write rm_L_write 2 12 [.ref (ad G 0), .int a1, .int a2, .int a3, .ref (ad G 56)] μ (w_L_write post a1 a2 a3 μ) post := by
  refine mW_of (cc := cL_write) (maxL := 6) (ty := .int) (lv0 := [(0, .ref (ad G 0)), (1, .int a1), (2, .int a2), (3, .int a3), (4, .ref (ad G 56))]) hD (by decide) rfl (Nat.le_of_ble_eq_true rfl) rfl ?_
  intro X Q hl C hQ hT h
  subst hl
  replace C : Cx G X cL_write RL wsL_write 6 rm_L_write := C
  unfold w_L_write at h
  refine j_aload C 4 dL_write_0 rfl ?_
  refine j_iconst (v := 0) C dL_write_2 (by decide) ?_
  refine j_aload_n C 0 dL_write_3 rfl ?_
  refine j_iload_n C 1 dL_write_4 rfl ?_
  refine j_iload_n C 2 dL_write_5 rfl ?_
  refine j_iload_n C 3 dL_write_6 rfl ?_
  refine j_wVI (n := 3) (rest := [.int (0 : Int32), .ref (ad G 56)]) C 0 (c_X7_write (xl X) G C.2.2.1 hs _ _ a1 a2 a3 μ) h gL_write_X7_write rfl ⟨rfl, rfl⟩ (by decide +kernel) ⟨by decide, by decide⟩ ⟨by decide, by decide⟩ sh_0 (by decide) cl_X7 rfl rfl (Nat.le_of_ble_eq_true rfl) dL_write_7 rfl rfl (fun E μ1 h => ?_) (fun r1 μ1 h => ?_)
  · rcases h with ⟨rfl, h⟩ | ⟨rfl, h⟩
    · refine jx_catch (name := "java/util/NoSuchElementException") C [] ⟨0, 12, 15, 13⟩ [⟨0, 12, 19, 41⟩] hT (fun z hz => nomatch hz) rfl (by decide) wd_L_write_cl13 (by decide +kernel) (fun q9 => ?_)
      refine j_astore (lv' := [(0, .ref (ad G 0)), (1, .int a1), (2, .int a2), (3, .int a3), (4, .ref (ad G 56)), (5, .ref q9)]) C dL_write_15 (by decide) rfl rfl ?_
      refine j_iconst (v := 1) C dL_write_17 (by decide) ?_
      exact j_iret C hQ (by decide) (by decide) h dL_write_18
    · refine jx_catch (name := "java/lang/IllegalArgumentException") C [⟨0, 12, 15, 13⟩] ⟨0, 12, 19, 41⟩ [] hT (fun z hz => by rw [List.mem_singleton.mp hz]; exact Or.inr ⟨by decide, "java/util/NoSuchElementException", C.1.2.2.2.2 _ wd_L_write_cl13, C.2.1.2.2.2.2.2.2⟩) rfl (by decide) wd_L_write_cl41 (by decide +kernel) (fun q9 => ?_)
      refine j_astore (lv' := [(0, .ref (ad G 0)), (1, .int a1), (2, .int a2), (3, .int a3), (4, .ref (ad G 56)), (5, .ref q9)]) C dL_write_19 (by decide) rfl rfl ?_
      refine j_iconst (v := 2) C dL_write_21 (by decide) ?_
      exact j_iret C hQ (by decide) (by decide) h dL_write_22
  · refine j_i2l C dL_write_10 ?_
    obtain ⟨μ2, e2⟩ : ∃ m, m = wr μ1 56 (ix (0 : Int32)) r1 := ⟨_, rfl⟩
    replace h := h μ2 e2
    refine j_last (x := r1) C 56 sh_56 (by decide) rfl in01 dL_write_11 e2 ?_
    refine j_goto C 23 dL_write_12 (by decide) ?_
    refine j_iconst (v := 0) C dL_write_23 (by decide) ?_
    exact j_iret C hQ (by decide) (by decide) h dL_write_24
/-! L_fill -/
abbrev rm_L_fill : Room := { frames := 8, cells := 2, slots := 12, locals := 129 }
theorem wd_L_fill_cl13 : Cond.classLink RL 13 "java/util/NoSuchElementException" ∈ wsL_fill := by decide +kernel
theorem wd_L_fill_cl41 : Cond.classLink RL 41 "java/lang/IllegalArgumentException" ∈ wsL_fill := by decide +kernel
set_option maxHeartbeats 4000000 in
set_option maxRecDepth 100000 in
theorem c_L_fill (l : Launch) (G : Gt) (hD : Dj G) (hs : l.stackTraces = false) (post : Int32 → Mem → Prop) (a1 a2 a3 a4 : Int32) (μ : Mem) : MI G l yL_fill wsL_fill rm_L_fill 2 12 [.ref (ad G 0), .int a1, .int a2, .int a3, .int a4, .ref (ad G 56)] μ (w_L_fill post a1 a2 a3 a4 μ) post := by
  refine mW_of (cc := cL_fill) (maxL := 7) (ty := .int) (lv0 := [(0, .ref (ad G 0)), (1, .int a1), (2, .int a2), (3, .int a3), (4, .int a4), (5, .ref (ad G 56))]) hD (by decide) rfl (Nat.le_of_ble_eq_true rfl) rfl ?_
  intro X Q hl C hQ hT h
  subst hl
  replace C : Cx G X cL_fill RL wsL_fill 7 rm_L_fill := C
  unfold w_L_fill at h
  refine j_aload C 5 dL_fill_0 rfl ?_
  refine j_iconst (v := 0) C dL_fill_2 (by decide) ?_
  refine j_aload_n C 0 dL_fill_3 rfl ?_
  refine j_iload_n C 1 dL_fill_4 rfl ?_
  refine j_iload_n C 2 dL_fill_5 rfl ?_
  refine j_iload_n C 3 dL_fill_6 rfl ?_
  refine j_iload C 4 dL_fill_7 rfl ?_
  refine j_wVI (n := 4) (rest := [.int (0 : Int32), .ref (ad G 56)]) C 0 (c_X7_fill (xl X) G C.2.2.1 hs _ _ a1 a2 a3 a4 μ) h gL_fill_X7_fill rfl ⟨rfl, rfl⟩ (by decide +kernel) ⟨by decide, by decide⟩ ⟨by decide, by decide⟩ sh_0 (by decide) cl_X7 rfl rfl (Nat.le_of_ble_eq_true rfl) dL_fill_9 rfl rfl (fun E μ1 h => ?_) (fun r1 μ1 h => ?_)
  · rcases h with ⟨rfl, h⟩ | ⟨rfl, h⟩
    · refine jx_catch (name := "java/util/NoSuchElementException") C [] ⟨0, 14, 17, 13⟩ [⟨0, 14, 21, 41⟩] hT (fun z hz => nomatch hz) rfl (by decide) wd_L_fill_cl13 (by decide +kernel) (fun q9 => ?_)
      refine j_astore (lv' := [(0, .ref (ad G 0)), (1, .int a1), (2, .int a2), (3, .int a3), (4, .int a4), (5, .ref (ad G 56)), (6, .ref q9)]) C dL_fill_17 (by decide) rfl rfl ?_
      refine j_iconst (v := 1) C dL_fill_19 (by decide) ?_
      exact j_iret C hQ (by decide) (by decide) h dL_fill_20
    · refine jx_catch (name := "java/lang/IllegalArgumentException") C [⟨0, 14, 17, 13⟩] ⟨0, 14, 21, 41⟩ [] hT (fun z hz => by rw [List.mem_singleton.mp hz]; exact Or.inr ⟨by decide, "java/util/NoSuchElementException", C.1.2.2.2.2 _ wd_L_fill_cl13, C.2.1.2.2.2.2.2.2⟩) rfl (by decide) wd_L_fill_cl41 (by decide +kernel) (fun q9 => ?_)
      refine j_astore (lv' := [(0, .ref (ad G 0)), (1, .int a1), (2, .int a2), (3, .int a3), (4, .int a4), (5, .ref (ad G 56)), (6, .ref q9)]) C dL_fill_21 (by decide) rfl rfl ?_
      refine j_iconst (v := 2) C dL_fill_23 (by decide) ?_
      exact j_iret C hQ (by decide) (by decide) h dL_fill_24
  · refine j_i2l C dL_fill_12 ?_
    obtain ⟨μ2, e2⟩ : ∃ m, m = wr μ1 56 (ix (0 : Int32)) r1 := ⟨_, rfl⟩
    replace h := h μ2 e2
    refine j_last (x := r1) C 56 sh_56 (by decide) rfl in01 dL_fill_13 e2 ?_
    refine j_goto C 25 dL_fill_14 (by decide) ?_
    refine j_iconst (v := 0) C dL_fill_25 (by decide) ?_
    exact j_iret C hQ (by decide) (by decide) h dL_fill_26
/-! L_at -/
abbrev rm_L_at : Room := { frames := 8, cells := 2, slots := 12, locals := 126 }
theorem wd_L_at_cl13 : Cond.classLink RL 13 "java/util/NoSuchElementException" ∈ wsL_at := by decide +kernel
set_option maxHeartbeats 4000000 in
set_option maxRecDepth 100000 in
theorem c_L_at (l : Launch) (G : Gt) (hD : Dj G) (hs : l.stackTraces = false) (post : Int32 → Mem → Prop) (a1 a2 : Int32) (μ : Mem) : MI G l yL_at wsL_at rm_L_at 2 12 [.ref (ad G 0), .int a1, .int a2, .ref (ad G 56)] μ (w_L_at post a1 a2 μ) post := by
  refine mW_of (cc := cL_at) (maxL := 5) (ty := .int) (lv0 := [(0, .ref (ad G 0)), (1, .int a1), (2, .int a2), (3, .ref (ad G 56))]) hD (by decide) rfl (Nat.le_of_ble_eq_true rfl) rfl ?_
  intro X Q hl C hQ hT h
  subst hl
  replace C : Cx G X cL_at RL wsL_at 5 rm_L_at := C
  unfold w_L_at at h
  refine j_aload_n C 3 dL_at_0 rfl ?_
  refine j_iconst (v := 0) C dL_at_1 (by decide) ?_
  refine j_aload_n C 0 dL_at_2 rfl ?_
  refine j_iload_n C 1 dL_at_3 rfl ?_
  refine j_iload_n C 2 dL_at_4 rfl ?_
  refine j_wVI (n := 2) (rest := [.int (0 : Int32), .ref (ad G 56)]) C 0 (c_X7_at (xl X) G C.2.2.1 hs _ _ a1 a2 μ) h gL_at_X7_at rfl ⟨rfl, rfl⟩ (by decide +kernel) ⟨by decide, by decide⟩ ⟨by decide, by decide⟩ sh_0 (by decide) cl_X7 rfl rfl (Nat.le_of_ble_eq_true rfl) dL_at_5 rfl rfl (fun E μ1 h => ?_) (fun r1 μ1 h => ?_)
  · obtain ⟨rfl, h⟩ := h
    refine jx_catch (name := "java/util/NoSuchElementException") C [] ⟨0, 10, 13, 13⟩ [] hT (fun z hz => nomatch hz) rfl (by decide) wd_L_at_cl13 (by decide +kernel) (fun q9 => ?_)
    refine j_astore (lv' := [(0, .ref (ad G 0)), (1, .int a1), (2, .int a2), (3, .ref (ad G 56)), (4, .ref q9)]) C dL_at_13 (by decide) rfl rfl ?_
    refine j_iconst (v := 1) C dL_at_15 (by decide) ?_
    exact j_iret C hQ (by decide) (by decide) h dL_at_16
  · refine j_i2l C dL_at_8 ?_
    obtain ⟨μ2, e2⟩ : ∃ m, m = wr μ1 56 (ix (0 : Int32)) r1 := ⟨_, rfl⟩
    replace h := h μ2 e2
    refine j_last (x := r1) C 56 sh_56 (by decide) rfl in01 dL_at_9 e2 ?_
    refine j_goto C 17 dL_at_10 (by decide) ?_
    refine j_iconst (v := 0) C dL_at_17 (by decide) ?_
    exact j_iret C hQ (by decide) (by decide) h dL_at_18
/-! L_about -/
abbrev rm_L_about : Room := { frames := 8, cells := 2, slots := 12, locals := 126 }
theorem wd_L_about_cl13 : Cond.classLink RL 13 "java/util/NoSuchElementException" ∈ wsL_about := by decide +kernel
set_option maxHeartbeats 4000000 in
set_option maxRecDepth 100000 in
theorem c_L_about (l : Launch) (G : Gt) (hD : Dj G) (hs : l.stackTraces = false) (post : Int32 → Mem → Prop) (a1 a2 : Int32) (μ : Mem) : MI G l yL_about wsL_about rm_L_about 2 12 [.ref (ad G 0), .int a1, .int a2, .ref (ad G 56)] μ (w_L_about post a1 a2 μ) post := by
  refine mW_of (cc := cL_about) (maxL := 5) (ty := .int) (lv0 := [(0, .ref (ad G 0)), (1, .int a1), (2, .int a2), (3, .ref (ad G 56))]) hD (by decide) rfl (Nat.le_of_ble_eq_true rfl) rfl ?_
  intro X Q hl C hQ hT h
  subst hl
  replace C : Cx G X cL_about RL wsL_about 5 rm_L_about := C
  unfold w_L_about at h
  refine j_aload_n C 3 dL_about_0 rfl ?_
  refine j_iconst (v := 0) C dL_about_1 (by decide) ?_
  refine j_aload_n C 0 dL_about_2 rfl ?_
  refine j_iload_n C 1 dL_about_3 rfl ?_
  refine j_iload_n C 2 dL_about_4 rfl ?_
  refine j_wVI (n := 2) (rest := [.int (0 : Int32), .ref (ad G 56)]) C 0 (c_X7_about (xl X) G C.2.2.1 hs _ _ a1 a2 μ) h gL_about_X7_about rfl ⟨rfl, rfl⟩ (by decide +kernel) ⟨by decide, by decide⟩ ⟨by decide, by decide⟩ sh_0 (by decide) cl_X7 rfl rfl (Nat.le_of_ble_eq_true rfl) dL_about_5 rfl rfl (fun E μ1 h => ?_) (fun r1 μ1 h => ?_)
  · obtain ⟨rfl, h⟩ := h
    refine jx_catch (name := "java/util/NoSuchElementException") C [] ⟨0, 10, 13, 13⟩ [] hT (fun z hz => nomatch hz) rfl (by decide) wd_L_about_cl13 (by decide +kernel) (fun q9 => ?_)
    refine j_astore (lv' := [(0, .ref (ad G 0)), (1, .int a1), (2, .int a2), (3, .ref (ad G 56)), (4, .ref q9)]) C dL_about_13 (by decide) rfl rfl ?_
    refine j_iconst (v := 1) C dL_about_15 (by decide) ?_
    exact j_iret C hQ (by decide) (by decide) h dL_about_16
  · refine j_i2l C dL_about_8 ?_
    obtain ⟨μ2, e2⟩ : ∃ m, m = wr μ1 56 (ix (0 : Int32)) r1 := ⟨_, rfl⟩
    replace h := h μ2 e2
    refine j_last (x := r1) C 56 sh_56 (by decide) rfl in01 dL_about_9 e2 ?_
    refine j_goto C 17 dL_about_10 (by decide) ?_
    refine j_iconst (v := 0) C dL_about_17 (by decide) ?_
    exact j_iret C hQ (by decide) (by decide) h dL_about_18
/-! L_groupOf -/
abbrev rm_L_groupOf : Room := { frames := 8, cells := 1, slots := 6, locals := 124 }
theorem wd_L_groupOf_cl13 : Cond.classLink RL 13 "java/util/NoSuchElementException" ∈ wsL_groupOf := by decide +kernel
set_option maxHeartbeats 4000000 in
set_option maxRecDepth 100000 in
theorem c_L_groupOf (l : Launch) (G : Gt) (hD : Dj G) (hs : l.stackTraces = false) (post : Int32 → Mem → Prop) (a1 : Int32) (μ : Mem) : MI G l yL_groupOf wsL_groupOf rm_L_groupOf 1 6 [.ref (ad G 0), .int a1, .ref (ad G 56)] μ (w_L_groupOf post a1 μ) post := by
  refine mW_of (cc := cL_groupOf) (maxL := 4) (ty := .int) (lv0 := [(0, .ref (ad G 0)), (1, .int a1), (2, .ref (ad G 56))]) hD (by decide) rfl (Nat.le_of_ble_eq_true rfl) rfl ?_
  intro X Q hl C hQ hT h
  subst hl
  replace C : Cx G X cL_groupOf RL wsL_groupOf 4 rm_L_groupOf := C
  unfold w_L_groupOf at h
  refine j_aload_n C 2 dL_groupOf_0 rfl ?_
  refine j_iconst (v := 0) C dL_groupOf_1 (by decide) ?_
  refine j_aload_n C 0 dL_groupOf_2 rfl ?_
  refine j_iload_n C 1 dL_groupOf_3 rfl ?_
  refine j_wVI (n := 1) (rest := [.int (0 : Int32), .ref (ad G 56)]) C 0 (c_X7_groupOf (xl X) G C.2.2.1 hs _ _ a1 μ) h gL_groupOf_X7_groupOf rfl ⟨rfl, rfl⟩ (by decide +kernel) ⟨by decide, by decide⟩ ⟨by decide, by decide⟩ sh_0 (by decide) cl_X7 rfl rfl (Nat.le_of_ble_eq_true rfl) dL_groupOf_4 rfl rfl (fun E μ1 h => ?_) (fun r1 μ1 h => ?_)
  · obtain ⟨rfl, h⟩ := h
    refine jx_catch (name := "java/util/NoSuchElementException") C [] ⟨0, 9, 12, 13⟩ [] hT (fun z hz => nomatch hz) rfl (by decide) wd_L_groupOf_cl13 (by decide +kernel) (fun q9 => ?_)
    refine j_astore_n (lv' := [(0, .ref (ad G 0)), (1, .int a1), (2, .ref (ad G 56)), (3, .ref q9)]) C dL_groupOf_12 (by decide) rfl rfl ?_
    refine j_iconst (v := 1) C dL_groupOf_13 (by decide) ?_
    exact j_iret C hQ (by decide) (by decide) h dL_groupOf_14
  · refine j_i2l C dL_groupOf_7 ?_
    obtain ⟨μ2, e2⟩ : ∃ m, m = wr μ1 56 (ix (0 : Int32)) r1 := ⟨_, rfl⟩
    replace h := h μ2 e2
    refine j_last (x := r1) C 56 sh_56 (by decide) rfl in01 dL_groupOf_8 e2 ?_
    refine j_goto C 15 dL_groupOf_9 (by decide) ?_
    refine j_iconst (v := 0) C dL_groupOf_15 (by decide) ?_
    exact j_iret C hQ (by decide) (by decide) h dL_groupOf_16
/-! L_member -/
abbrev rm_L_member : Room := { frames := 8, cells := 2, slots := 12, locals := 127 }
theorem wd_L_member_cl13 : Cond.classLink RL 13 "java/util/NoSuchElementException" ∈ wsL_member := by decide +kernel
set_option maxHeartbeats 4000000 in
set_option maxRecDepth 100000 in
theorem c_L_member (l : Launch) (G : Gt) (hD : Dj G) (hs : l.stackTraces = false) (post : Int32 → Mem → Prop) (a1 a2 : Int32) (μ : Mem) : MI G l yL_member wsL_member rm_L_member 2 12 [.ref (ad G 0), .int a1, .int a2, .ref (ad G 56)] μ (w_L_member post a1 a2 μ) post := by
  refine mW_of (cc := cL_member) (maxL := 5) (ty := .int) (lv0 := [(0, .ref (ad G 0)), (1, .int a1), (2, .int a2), (3, .ref (ad G 56))]) hD (by decide) rfl (Nat.le_of_ble_eq_true rfl) rfl ?_
  intro X Q hl C hQ hT h
  subst hl
  replace C : Cx G X cL_member RL wsL_member 5 rm_L_member := C
  unfold w_L_member at h
  refine j_aload_n C 3 dL_member_0 rfl ?_
  refine j_iconst (v := 0) C dL_member_1 (by decide) ?_
  refine j_aload_n C 0 dL_member_2 rfl ?_
  refine j_iload_n C 1 dL_member_3 rfl ?_
  refine j_iload_n C 2 dL_member_4 rfl ?_
  refine j_wVI (n := 2) (rest := [.int (0 : Int32), .ref (ad G 56)]) C 0 (c_X7_member (xl X) G C.2.2.1 hs _ _ a1 a2 μ) h gL_member_X7_member rfl ⟨rfl, rfl⟩ (by decide +kernel) ⟨by decide, by decide⟩ ⟨by decide, by decide⟩ sh_0 (by decide) cl_X7 rfl rfl (Nat.le_of_ble_eq_true rfl) dL_member_5 rfl rfl (fun E μ1 h => ?_) (fun r1 μ1 h => ?_)
  · obtain ⟨rfl, h⟩ := h
    refine jx_catch (name := "java/util/NoSuchElementException") C [] ⟨0, 10, 13, 13⟩ [] hT (fun z hz => nomatch hz) rfl (by decide) wd_L_member_cl13 (by decide +kernel) (fun q9 => ?_)
    refine j_astore (lv' := [(0, .ref (ad G 0)), (1, .int a1), (2, .int a2), (3, .ref (ad G 56)), (4, .ref q9)]) C dL_member_13 (by decide) rfl rfl ?_
    refine j_iconst (v := 1) C dL_member_15 (by decide) ?_
    exact j_iret C hQ (by decide) (by decide) h dL_member_16
  · refine j_i2l C dL_member_8 ?_
    obtain ⟨μ2, e2⟩ : ∃ m, m = wr μ1 56 (ix (0 : Int32)) r1 := ⟨_, rfl⟩
    replace h := h μ2 e2
    refine j_last (x := r1) C 56 sh_56 (by decide) rfl in01 dL_member_9 e2 ?_
    refine j_goto C 17 dL_member_10 (by decide) ?_
    refine j_iconst (v := 0) C dL_member_17 (by decide) ?_
    exact j_iret C hQ (by decide) (by decide) h dL_member_18
/-! L_near -/
abbrev rm_L_near : Room := { frames := 8, cells := 2, slots := 12, locals := 125 }
theorem wd_L_near_cl13 : Cond.classLink RL 13 "java/util/NoSuchElementException" ∈ wsL_near := by decide +kernel
set_option maxHeartbeats 4000000 in
set_option maxRecDepth 100000 in
theorem c_L_near (l : Launch) (G : Gt) (hD : Dj G) (hs : l.stackTraces = false) (post : Int32 → Mem → Prop) (a1 a2 : Int32) (μ : Mem) : MI G l yL_near wsL_near rm_L_near 2 12 [.ref (ad G 0), .int a1, .int a2, .ref (ad G 56)] μ (w_L_near post a1 a2 μ) post := by
  refine mW_of (cc := cL_near) (maxL := 5) (ty := .int) (lv0 := [(0, .ref (ad G 0)), (1, .int a1), (2, .int a2), (3, .ref (ad G 56))]) hD (by decide) rfl (Nat.le_of_ble_eq_true rfl) rfl ?_
  intro X Q hl C hQ hT h
  subst hl
  replace C : Cx G X cL_near RL wsL_near 5 rm_L_near := C
  unfold w_L_near at h
  refine j_aload_n C 3 dL_near_0 rfl ?_
  refine j_iconst (v := 0) C dL_near_1 (by decide) ?_
  refine j_aload_n C 0 dL_near_2 rfl ?_
  refine j_iload_n C 1 dL_near_3 rfl ?_
  refine j_iload_n C 2 dL_near_4 rfl ?_
  refine j_wVI (n := 2) (rest := [.int (0 : Int32), .ref (ad G 56)]) C 0 (c_X7_near (xl X) G C.2.2.1 hs _ _ a1 a2 μ) h gL_near_X7_near rfl ⟨rfl, rfl⟩ (by decide +kernel) ⟨by decide, by decide⟩ ⟨by decide, by decide⟩ sh_0 (by decide) cl_X7 rfl rfl (Nat.le_of_ble_eq_true rfl) dL_near_5 rfl rfl (fun E μ1 h => ?_) (fun r1 μ1 h => ?_)
  · obtain ⟨rfl, h⟩ := h
    refine jx_catch (name := "java/util/NoSuchElementException") C [] ⟨0, 10, 13, 13⟩ [] hT (fun z hz => nomatch hz) rfl (by decide) wd_L_near_cl13 (by decide +kernel) (fun q9 => ?_)
    refine j_astore (lv' := [(0, .ref (ad G 0)), (1, .int a1), (2, .int a2), (3, .ref (ad G 56)), (4, .ref q9)]) C dL_near_13 (by decide) rfl rfl ?_
    refine j_iconst (v := 1) C dL_near_15 (by decide) ?_
    exact j_iret C hQ (by decide) (by decide) h dL_near_16
  · refine j_i2l C dL_near_8 ?_
    obtain ⟨μ2, e2⟩ : ∃ m, m = wr μ1 56 (ix (0 : Int32)) r1 := ⟨_, rfl⟩
    replace h := h μ2 e2
    refine j_last (x := r1) C 56 sh_56 (by decide) rfl in01 dL_near_9 e2 ?_
    refine j_goto C 17 dL_near_10 (by decide) ?_
    refine j_iconst (v := 0) C dL_near_17 (by decide) ?_
    exact j_iret C hQ (by decide) (by decide) h dL_near_18
/-! L_nearest -/
abbrev rm_L_nearest : Room := { frames := 8, cells := 2, slots := 12, locals := 129 }
theorem wd_L_nearest_cl13 : Cond.classLink RL 13 "java/util/NoSuchElementException" ∈ wsL_nearest := by decide +kernel
theorem wd_L_nearest_cl41 : Cond.classLink RL 41 "java/lang/IllegalArgumentException" ∈ wsL_nearest := by decide +kernel
set_option maxHeartbeats 4000000 in
set_option maxRecDepth 100000 in
theorem c_L_nearest (l : Launch) (G : Gt) (hD : Dj G) (hs : l.stackTraces = false) (post : Int32 → Mem → Prop) (a1 a2 : Int32) (μ : Mem) : MI G l yL_nearest wsL_nearest rm_L_nearest 2 12 [.ref (ad G 0), .int a1, .int a2, .ref (ad G 56)] μ (w_L_nearest post a1 a2 μ) post := by
  refine mW_of (cc := cL_nearest) (maxL := 5) (ty := .int) (lv0 := [(0, .ref (ad G 0)), (1, .int a1), (2, .int a2), (3, .ref (ad G 56))]) hD (by decide) rfl (Nat.le_of_ble_eq_true rfl) rfl ?_
  intro X Q hl C hQ hT h
  subst hl
  replace C : Cx G X cL_nearest RL wsL_nearest 5 rm_L_nearest := C
  unfold w_L_nearest at h
  refine j_aload_n C 3 dL_nearest_0 rfl ?_
  refine j_iconst (v := 0) C dL_nearest_1 (by decide) ?_
  refine j_aload_n C 0 dL_nearest_2 rfl ?_
  refine j_iload_n C 1 dL_nearest_3 rfl ?_
  refine j_iload_n C 2 dL_nearest_4 rfl ?_
  refine j_wVI (n := 2) (rest := [.int (0 : Int32), .ref (ad G 56)]) C 0 (c_X7_nearest (xl X) G C.2.2.1 hs _ _ a1 a2 μ) h gL_nearest_X7_nearest rfl ⟨rfl, rfl⟩ (by decide +kernel) ⟨by decide, by decide⟩ ⟨by decide, by decide⟩ sh_0 (by decide) cl_X7 rfl rfl (Nat.le_of_ble_eq_true rfl) dL_nearest_5 rfl rfl (fun E μ1 h => ?_) (fun r1 μ1 h => ?_)
  · rcases h with ⟨rfl, h⟩ | ⟨rfl, h⟩
    · refine jx_catch (name := "java/util/NoSuchElementException") C [] ⟨0, 10, 13, 13⟩ [⟨0, 10, 17, 41⟩] hT (fun z hz => nomatch hz) rfl (by decide) wd_L_nearest_cl13 (by decide +kernel) (fun q9 => ?_)
      refine j_astore (lv' := [(0, .ref (ad G 0)), (1, .int a1), (2, .int a2), (3, .ref (ad G 56)), (4, .ref q9)]) C dL_nearest_13 (by decide) rfl rfl ?_
      refine j_iconst (v := 1) C dL_nearest_15 (by decide) ?_
      exact j_iret C hQ (by decide) (by decide) h dL_nearest_16
    · refine jx_catch (name := "java/lang/IllegalArgumentException") C [⟨0, 10, 13, 13⟩] ⟨0, 10, 17, 41⟩ [] hT (fun z hz => by rw [List.mem_singleton.mp hz]; exact Or.inr ⟨by decide, "java/util/NoSuchElementException", C.1.2.2.2.2 _ wd_L_nearest_cl13, C.2.1.2.2.2.2.2.2⟩) rfl (by decide) wd_L_nearest_cl41 (by decide +kernel) (fun q9 => ?_)
      refine j_astore (lv' := [(0, .ref (ad G 0)), (1, .int a1), (2, .int a2), (3, .ref (ad G 56)), (4, .ref q9)]) C dL_nearest_17 (by decide) rfl rfl ?_
      refine j_iconst (v := 2) C dL_nearest_19 (by decide) ?_
      exact j_iret C hQ (by decide) (by decide) h dL_nearest_20
  · refine j_i2l C dL_nearest_8 ?_
    obtain ⟨μ2, e2⟩ : ∃ m, m = wr μ1 56 (ix (0 : Int32)) r1 := ⟨_, rfl⟩
    replace h := h μ2 e2
    refine j_last (x := r1) C 56 sh_56 (by decide) rfl in01 dL_nearest_9 e2 ?_
    refine j_goto C 21 dL_nearest_10 (by decide) ?_
    refine j_iconst (v := 0) C dL_nearest_21 (by decide) ?_
    exact j_iret C hQ (by decide) (by decide) h dL_nearest_22
/-! L_differ -/
abbrev rm_L_differ : Room := { frames := 8, cells := 2, slots := 12, locals := 142 }
theorem wd_L_differ_cl13 : Cond.classLink RL 13 "java/util/NoSuchElementException" ∈ wsL_differ := by decide +kernel
set_option maxHeartbeats 4000000 in
set_option maxRecDepth 100000 in
theorem c_L_differ (l : Launch) (G : Gt) (hD : Dj G) (hs : l.stackTraces = false) (post : Int32 → Mem → Prop) (a1 a2 : Int32) (μ : Mem) : MI G l yL_differ wsL_differ rm_L_differ 2 12 [.ref (ad G 0), .int a1, .int a2, .ref (ad G 56)] μ (w_L_differ post a1 a2 μ) post := by
  refine mW_of (cc := cL_differ) (maxL := 5) (ty := .int) (lv0 := [(0, .ref (ad G 0)), (1, .int a1), (2, .int a2), (3, .ref (ad G 56))]) hD (by decide) rfl (Nat.le_of_ble_eq_true rfl) rfl ?_
  intro X Q hl C hQ hT h
  subst hl
  replace C : Cx G X cL_differ RL wsL_differ 5 rm_L_differ := C
  unfold w_L_differ at h
  refine j_aload_n C 3 dL_differ_0 rfl ?_
  refine j_iconst (v := 0) C dL_differ_1 (by decide) ?_
  refine j_aload_n C 0 dL_differ_2 rfl ?_
  refine j_iload_n C 1 dL_differ_3 rfl ?_
  refine j_iload_n C 2 dL_differ_4 rfl ?_
  refine j_wVI (n := 2) (rest := [.int (0 : Int32), .ref (ad G 56)]) C 0 (c_X7_differ (xl X) G C.2.2.1 hs _ _ a1 a2 μ) h gL_differ_X7_differ rfl ⟨rfl, rfl⟩ (by decide +kernel) ⟨by decide, by decide⟩ ⟨by decide, by decide⟩ sh_0 (by decide) cl_X7 rfl rfl (Nat.le_of_ble_eq_true rfl) dL_differ_5 rfl rfl (fun E μ1 h => ?_) (fun r1 μ1 h => ?_)
  · obtain ⟨rfl, h⟩ := h
    refine jx_catch (name := "java/util/NoSuchElementException") C [] ⟨0, 10, 13, 13⟩ [] hT (fun z hz => nomatch hz) rfl (by decide) wd_L_differ_cl13 (by decide +kernel) (fun q9 => ?_)
    refine j_astore (lv' := [(0, .ref (ad G 0)), (1, .int a1), (2, .int a2), (3, .ref (ad G 56)), (4, .ref q9)]) C dL_differ_13 (by decide) rfl rfl ?_
    refine j_iconst (v := 1) C dL_differ_15 (by decide) ?_
    exact j_iret C hQ (by decide) (by decide) h dL_differ_16
  · refine j_i2l C dL_differ_8 ?_
    obtain ⟨μ2, e2⟩ : ∃ m, m = wr μ1 56 (ix (0 : Int32)) r1 := ⟨_, rfl⟩
    replace h := h μ2 e2
    refine j_last (x := r1) C 56 sh_56 (by decide) rfl in01 dL_differ_9 e2 ?_
    refine j_goto C 17 dL_differ_10 (by decide) ?_
    refine j_iconst (v := 0) C dL_differ_17 (by decide) ?_
    exact j_iret C hQ (by decide) (by decide) h dL_differ_18
/-! L_wish -/
abbrev rm_L_wish : Room := { frames := 8, cells := 1, slots := 6, locals := 126 }
theorem wd_L_wish_cl13 : Cond.classLink RL 13 "java/util/NoSuchElementException" ∈ wsL_wish := by decide +kernel
theorem wd_L_wish_cl41 : Cond.classLink RL 41 "java/lang/IllegalArgumentException" ∈ wsL_wish := by decide +kernel
set_option maxHeartbeats 4000000 in
set_option maxRecDepth 100000 in
theorem c_L_wish (l : Launch) (G : Gt) (hD : Dj G) (hs : l.stackTraces = false) (post : Int32 → Mem → Prop) (a1 a2 : Int32) (μ : Mem) : MI G l yL_wish wsL_wish rm_L_wish 1 6 [.ref (ad G 0), .int a1, .int a2, .ref (ad G 56)] μ (w_L_wish post a1 a2 μ) post := by
  refine mW_of (cc := cL_wish) (maxL := 5) (ty := .int) (lv0 := [(0, .ref (ad G 0)), (1, .int a1), (2, .int a2), (3, .ref (ad G 56))]) hD (by decide) rfl (Nat.le_of_ble_eq_true rfl) rfl ?_
  intro X Q hl C hQ hT h
  subst hl
  replace C : Cx G X cL_wish RL wsL_wish 5 rm_L_wish := C
  unfold w_L_wish at h
  refine j_aload_n C 3 dL_wish_0 rfl ?_
  refine j_iconst (v := 0) C dL_wish_1 (by decide) ?_
  refine j_aload_n C 0 dL_wish_2 rfl ?_
  refine j_iload_n C 1 dL_wish_3 rfl ?_
  refine j_iload_n C 2 dL_wish_4 rfl ?_
  refine j_wVI (n := 2) (rest := [.int (0 : Int32), .ref (ad G 56)]) C 0 (c_X7_wish (xl X) G C.2.2.1 hs _ _ a1 a2 μ) h gL_wish_X7_wish rfl ⟨rfl, rfl⟩ (by decide +kernel) ⟨by decide, by decide⟩ ⟨by decide, by decide⟩ sh_0 (by decide) cl_X7 rfl rfl (Nat.le_of_ble_eq_true rfl) dL_wish_5 rfl rfl (fun E μ1 h => ?_) (fun r1 μ1 h => ?_)
  · rcases h with ⟨rfl, h⟩ | ⟨rfl, h⟩
    · refine jx_catch (name := "java/util/NoSuchElementException") C [] ⟨0, 10, 13, 13⟩ [⟨0, 10, 17, 41⟩] hT (fun z hz => nomatch hz) rfl (by decide) wd_L_wish_cl13 (by decide +kernel) (fun q9 => ?_)
      refine j_astore (lv' := [(0, .ref (ad G 0)), (1, .int a1), (2, .int a2), (3, .ref (ad G 56)), (4, .ref q9)]) C dL_wish_13 (by decide) rfl rfl ?_
      refine j_iconst (v := 1) C dL_wish_15 (by decide) ?_
      exact j_iret C hQ (by decide) (by decide) h dL_wish_16
    · refine jx_catch (name := "java/lang/IllegalArgumentException") C [⟨0, 10, 13, 13⟩] ⟨0, 10, 17, 41⟩ [] hT (fun z hz => by rw [List.mem_singleton.mp hz]; exact Or.inr ⟨by decide, "java/util/NoSuchElementException", C.1.2.2.2.2 _ wd_L_wish_cl13, C.2.1.2.2.2.2.2.2⟩) rfl (by decide) wd_L_wish_cl41 (by decide +kernel) (fun q9 => ?_)
      refine j_astore (lv' := [(0, .ref (ad G 0)), (1, .int a1), (2, .int a2), (3, .ref (ad G 56)), (4, .ref q9)]) C dL_wish_17 (by decide) rfl rfl ?_
      refine j_iconst (v := 2) C dL_wish_19 (by decide) ?_
      exact j_iret C hQ (by decide) (by decide) h dL_wish_20
  · refine j_i2l C dL_wish_8 ?_
    obtain ⟨μ2, e2⟩ : ∃ m, m = wr μ1 56 (ix (0 : Int32)) r1 := ⟨_, rfl⟩
    replace h := h μ2 e2
    refine j_last (x := r1) C 56 sh_56 (by decide) rfl in01 dL_wish_9 e2 ?_
    refine j_goto C 21 dL_wish_10 (by decide) ?_
    refine j_iconst (v := 0) C dL_wish_21 (by decide) ?_
    exact j_iret C hQ (by decide) (by decide) h dL_wish_22
/-! L_leave -/
abbrev rm_L_leave : Room := { frames := 7, cells := 1, slots := 6, locals := 105 }
theorem wd_L_leave_cl41 : Cond.classLink RL 41 "java/lang/IllegalArgumentException" ∈ wsL_leave := by decide +kernel
set_option maxHeartbeats 4000000 in
set_option maxRecDepth 100000 in
theorem c_L_leave (l : Launch) (G : Gt) (hD : Dj G) (hs : l.stackTraces = false) (post : Int32 → Mem → Prop) (a1 a2 : Int32) (μ : Mem) : MI G l yL_leave wsL_leave rm_L_leave 1 6 [.ref (ad G 0), .int a1, .int a2, .ref (ad G 56)] μ (w_L_leave post a1 a2 μ) post := by
  refine mW_of (cc := cL_leave) (maxL := 5) (ty := .int) (lv0 := [(0, .ref (ad G 0)), (1, .int a1), (2, .int a2), (3, .ref (ad G 56))]) hD (by decide) rfl (Nat.le_of_ble_eq_true rfl) rfl ?_
  intro X Q hl C hQ hT h
  subst hl
  replace C : Cx G X cL_leave RL wsL_leave 5 rm_L_leave := C
  unfold w_L_leave at h
  refine j_aload_n C 3 dL_leave_0 rfl ?_
  refine j_iconst (v := 0) C dL_leave_1 (by decide) ?_
  refine j_aload_n C 0 dL_leave_2 rfl ?_
  refine j_iload_n C 1 dL_leave_3 rfl ?_
  refine j_iload_n C 2 dL_leave_4 rfl ?_
  refine j_wVI (n := 2) (rest := [.int (0 : Int32), .ref (ad G 56)]) C 0 (c_X7_leave (xl X) G C.2.2.1 hs _ _ a1 a2 μ) h gL_leave_X7_leave rfl ⟨rfl, rfl⟩ (by decide +kernel) ⟨by decide, by decide⟩ ⟨by decide, by decide⟩ sh_0 (by decide) cl_X7 rfl rfl (Nat.le_of_ble_eq_true rfl) dL_leave_5 rfl rfl (fun E μ1 h => ?_) (fun r1 μ1 h => ?_)
  · obtain ⟨rfl, h⟩ := h
    refine jx_catch (name := "java/lang/IllegalArgumentException") C [] ⟨0, 17, 20, 41⟩ [] hT (fun z hz => nomatch hz) rfl (by decide) wd_L_leave_cl41 (by decide +kernel) (fun q9 => ?_)
    refine j_astore (lv' := [(0, .ref (ad G 0)), (1, .int a1), (2, .int a2), (3, .ref (ad G 56)), (4, .ref q9)]) C dL_leave_20 (by decide) rfl rfl ?_
    refine j_iconst (v := 1) C dL_leave_22 (by decide) ?_
    exact j_iret C hQ (by decide) (by decide) h dL_leave_23
  · refine j_if_eq C 15 dL_leave_8 (by decide) (fun c1 => ?_) (fun c1 => ?_)
    · replace h := h.1 c1
      refine j_lconst (v := 0) C dL_leave_15 (by decide) ?_
      obtain ⟨μ2, e2⟩ : ∃ m, m = wr μ1 56 (ix (0 : Int32)) (0 : Int32) := ⟨_, rfl⟩
      replace h := h μ2 e2
      refine j_last (x := (0 : Int32)) C 56 sh_56 (by decide) (by decide) in01 dL_leave_16 e2 ?_
      refine j_goto C 24 dL_leave_17 (by decide) ?_
      refine j_iconst (v := 0) C dL_leave_24 (by decide) ?_
      exact j_iret C hQ (by decide) (by decide) h dL_leave_25
    · replace h := h.2 c1
      refine j_lconst (v := 1) C dL_leave_11 (by decide) ?_
      refine j_goto C 16 dL_leave_12 (by decide) ?_
      obtain ⟨μ2, e2⟩ : ∃ m, m = wr μ1 56 (ix (0 : Int32)) (1 : Int32) := ⟨_, rfl⟩
      replace h := h μ2 e2
      refine j_last (x := (1 : Int32)) C 56 sh_56 (by decide) (by decide) in01 dL_leave_16 e2 ?_
      refine j_goto C 24 dL_leave_17 (by decide) ?_
      refine j_iconst (v := 0) C dL_leave_24 (by decide) ?_
      exact j_iret C hQ (by decide) (by decide) h dL_leave_25
/-! L_keep -/
abbrev rm_L_keep : Room := { frames := 8, cells := 1, slots := 6, locals := 124 }
theorem wd_L_keep_cl13 : Cond.classLink RL 13 "java/util/NoSuchElementException" ∈ wsL_keep := by decide +kernel
set_option maxHeartbeats 4000000 in
set_option maxRecDepth 100000 in
theorem c_L_keep (l : Launch) (G : Gt) (hD : Dj G) (hs : l.stackTraces = false) (post : Int32 → Mem → Prop) (a1 : Int32) (μ : Mem) : MI G l yL_keep wsL_keep rm_L_keep 1 6 [.ref (ad G 0), .int a1, .ref (ad G 56)] μ (w_L_keep post a1 μ) post := by
  refine mW_of (cc := cL_keep) (maxL := 4) (ty := .int) (lv0 := [(0, .ref (ad G 0)), (1, .int a1), (2, .ref (ad G 56))]) hD (by decide) rfl (Nat.le_of_ble_eq_true rfl) rfl ?_
  intro X Q hl C hQ hT h
  subst hl
  replace C : Cx G X cL_keep RL wsL_keep 4 rm_L_keep := C
  unfold w_L_keep at h
  refine j_aload_n C 2 dL_keep_0 rfl ?_
  refine j_iconst (v := 0) C dL_keep_1 (by decide) ?_
  refine j_aload_n C 0 dL_keep_2 rfl ?_
  refine j_iload_n C 1 dL_keep_3 rfl ?_
  refine j_wVI (n := 1) (rest := [.int (0 : Int32), .ref (ad G 56)]) C 0 (c_X7_keep (xl X) G C.2.2.1 hs _ _ a1 μ) h gL_keep_X7_keep rfl ⟨rfl, rfl⟩ (by decide +kernel) ⟨by decide, by decide⟩ ⟨by decide, by decide⟩ sh_0 (by decide) cl_X7 rfl rfl (Nat.le_of_ble_eq_true rfl) dL_keep_4 rfl rfl (fun E μ1 h => ?_) (fun r1 μ1 h => ?_)
  · obtain ⟨rfl, h⟩ := h
    refine jx_catch (name := "java/util/NoSuchElementException") C [] ⟨0, 9, 12, 13⟩ [] hT (fun z hz => nomatch hz) rfl (by decide) wd_L_keep_cl13 (by decide +kernel) (fun q9 => ?_)
    refine j_astore_n (lv' := [(0, .ref (ad G 0)), (1, .int a1), (2, .ref (ad G 56)), (3, .ref q9)]) C dL_keep_12 (by decide) rfl rfl ?_
    refine j_iconst (v := 1) C dL_keep_13 (by decide) ?_
    exact j_iret C hQ (by decide) (by decide) h dL_keep_14
  · refine j_i2l C dL_keep_7 ?_
    obtain ⟨μ2, e2⟩ : ∃ m, m = wr μ1 56 (ix (0 : Int32)) r1 := ⟨_, rfl⟩
    replace h := h μ2 e2
    refine j_last (x := r1) C 56 sh_56 (by decide) rfl in01 dL_keep_8 e2 ?_
    refine j_goto C 15 dL_keep_9 (by decide) ?_
    refine j_iconst (v := 0) C dL_keep_15 (by decide) ?_
    exact j_iret C hQ (by decide) (by decide) h dL_keep_16
/-! L_merge -/
abbrev rm_L_merge : Room := { frames := 8, cells := 1, slots := 6, locals := 128 }
theorem wd_L_merge_cl13 : Cond.classLink RL 13 "java/util/NoSuchElementException" ∈ wsL_merge := by decide +kernel
set_option maxHeartbeats 4000000 in
set_option maxRecDepth 100000 in
theorem c_L_merge (l : Launch) (G : Gt) (hD : Dj G) (hs : l.stackTraces = false) (post : Int32 → Mem → Prop) (a1 : Int32) (μ : Mem) : MI G l yL_merge wsL_merge rm_L_merge 1 6 [.ref (ad G 0), .int a1, .ref (ad G 56)] μ (w_L_merge post a1 μ) post := by
  refine mW_of (cc := cL_merge) (maxL := 4) (ty := .int) (lv0 := [(0, .ref (ad G 0)), (1, .int a1), (2, .ref (ad G 56))]) hD (by decide) rfl (Nat.le_of_ble_eq_true rfl) rfl ?_
  intro X Q hl C hQ hT h
  subst hl
  replace C : Cx G X cL_merge RL wsL_merge 4 rm_L_merge := C
  unfold w_L_merge at h
  refine j_aload_n C 2 dL_merge_0 rfl ?_
  refine j_iconst (v := 0) C dL_merge_1 (by decide) ?_
  refine j_aload_n C 0 dL_merge_2 rfl ?_
  refine j_iload_n C 1 dL_merge_3 rfl ?_
  refine j_wVI (n := 1) (rest := [.int (0 : Int32), .ref (ad G 56)]) C 0 (c_X7_merge (xl X) G C.2.2.1 hs _ _ a1 μ) h gL_merge_X7_merge rfl ⟨rfl, rfl⟩ (by decide +kernel) ⟨by decide, by decide⟩ ⟨by decide, by decide⟩ sh_0 (by decide) cl_X7 rfl rfl (Nat.le_of_ble_eq_true rfl) dL_merge_4 rfl rfl (fun E μ1 h => ?_) (fun r1 μ1 h => ?_)
  · obtain ⟨rfl, h⟩ := h
    refine jx_catch (name := "java/util/NoSuchElementException") C [] ⟨0, 9, 12, 13⟩ [] hT (fun z hz => nomatch hz) rfl (by decide) wd_L_merge_cl13 (by decide +kernel) (fun q9 => ?_)
    refine j_astore_n (lv' := [(0, .ref (ad G 0)), (1, .int a1), (2, .ref (ad G 56)), (3, .ref q9)]) C dL_merge_12 (by decide) rfl rfl ?_
    refine j_iconst (v := 1) C dL_merge_13 (by decide) ?_
    exact j_iret C hQ (by decide) (by decide) h dL_merge_14
  · refine j_i2l C dL_merge_7 ?_
    obtain ⟨μ2, e2⟩ : ∃ m, m = wr μ1 56 (ix (0 : Int32)) r1 := ⟨_, rfl⟩
    replace h := h μ2 e2
    refine j_last (x := r1) C 56 sh_56 (by decide) rfl in01 dL_merge_8 e2 ?_
    refine j_goto C 15 dL_merge_9 (by decide) ?_
    refine j_iconst (v := 0) C dL_merge_15 (by decide) ?_
    exact j_iret C hQ (by decide) (by decide) h dL_merge_16
/-! L_days -/
abbrev rm_L_days : Room := { frames := 7, cells := 1, slots := 6, locals := 103 }
theorem wd_L_days_cl41 : Cond.classLink RL 41 "java/lang/IllegalArgumentException" ∈ wsL_days := by decide +kernel
set_option maxHeartbeats 4000000 in
set_option maxRecDepth 100000 in
theorem c_L_days (l : Launch) (G : Gt) (hD : Dj G) (hs : l.stackTraces = false) (post : Int32 → Mem → Prop) (a1 : Int32) (μ : Mem) : MI G l yL_days wsL_days rm_L_days 1 6 [.ref (ad G 0), .int a1, .ref (ad G 56)] μ (w_L_days post a1 μ) post := by
  refine mW_of (cc := cL_days) (maxL := 4) (ty := .int) (lv0 := [(0, .ref (ad G 0)), (1, .int a1), (2, .ref (ad G 56))]) hD (by decide) rfl (Nat.le_of_ble_eq_true rfl) rfl ?_
  intro X Q hl C hQ hT h
  subst hl
  replace C : Cx G X cL_days RL wsL_days 4 rm_L_days := C
  unfold w_L_days at h
  refine j_aload_n C 2 dL_days_0 rfl ?_
  refine j_iconst (v := 0) C dL_days_1 (by decide) ?_
  refine j_aload_n C 0 dL_days_2 rfl ?_
  refine j_iload_n C 1 dL_days_3 rfl ?_
  refine j_wVI (n := 1) (rest := [.int (0 : Int32), .ref (ad G 56)]) C 0 (c_X7_days (xl X) G C.2.2.1 hs _ _ a1 μ) h gL_days_X7_days rfl ⟨rfl, rfl⟩ (by decide +kernel) ⟨by decide, by decide⟩ ⟨by decide, by decide⟩ sh_0 (by decide) cl_X7 rfl rfl (Nat.le_of_ble_eq_true rfl) dL_days_4 rfl rfl (fun E μ1 h => ?_) (fun r1 μ1 h => ?_)
  · obtain ⟨rfl, h⟩ := h
    refine jx_catch (name := "java/lang/IllegalArgumentException") C [] ⟨0, 9, 12, 41⟩ [] hT (fun z hz => nomatch hz) rfl (by decide) wd_L_days_cl41 (by decide +kernel) (fun q9 => ?_)
    refine j_astore_n (lv' := [(0, .ref (ad G 0)), (1, .int a1), (2, .ref (ad G 56)), (3, .ref q9)]) C dL_days_12 (by decide) rfl rfl ?_
    refine j_iconst (v := 1) C dL_days_13 (by decide) ?_
    exact j_iret C hQ (by decide) (by decide) h dL_days_14
  · refine j_i2l C dL_days_7 ?_
    obtain ⟨μ2, e2⟩ : ∃ m, m = wr μ1 56 (ix (0 : Int32)) r1 := ⟨_, rfl⟩
    replace h := h μ2 e2
    refine j_last (x := r1) C 56 sh_56 (by decide) rfl in01 dL_days_8 e2 ?_
    refine j_goto C 15 dL_days_9 (by decide) ?_
    refine j_iconst (v := 0) C dL_days_15 (by decide) ?_
    exact j_iret C hQ (by decide) (by decide) h dL_days_16
/-! L_count -/
abbrev rm_L_count : Room := { frames := 7, cells := 1, slots := 6, locals := 103 }
theorem wd_L_count_cl13 : Cond.classLink RL 13 "java/util/NoSuchElementException" ∈ wsL_count := by decide +kernel
set_option maxHeartbeats 4000000 in
set_option maxRecDepth 100000 in
theorem c_L_count (l : Launch) (G : Gt) (hD : Dj G) (hs : l.stackTraces = false) (post : Int32 → Mem → Prop) (a1 : Int32) (μ : Mem) : MI G l yL_count wsL_count rm_L_count 1 6 [.ref (ad G 0), .int a1, .ref (ad G 56)] μ (w_L_count post a1 μ) post := by
  refine mW_of (cc := cL_count) (maxL := 4) (ty := .int) (lv0 := [(0, .ref (ad G 0)), (1, .int a1), (2, .ref (ad G 56))]) hD (by decide) rfl (Nat.le_of_ble_eq_true rfl) rfl ?_
  intro X Q hl C hQ hT h
  subst hl
  replace C : Cx G X cL_count RL wsL_count 4 rm_L_count := C
  unfold w_L_count at h
  refine j_aload_n C 2 dL_count_0 rfl ?_
  refine j_iconst (v := 0) C dL_count_1 (by decide) ?_
  refine j_aload_n C 0 dL_count_2 rfl ?_
  refine j_iload_n C 1 dL_count_3 rfl ?_
  refine j_wVI (n := 1) (rest := [.int (0 : Int32), .ref (ad G 56)]) C 0 (c_X7_count (xl X) G C.2.2.1 hs _ _ a1 μ) h gL_count_X7_count rfl ⟨rfl, rfl⟩ (by decide +kernel) ⟨by decide, by decide⟩ ⟨by decide, by decide⟩ sh_0 (by decide) cl_X7 rfl rfl (Nat.le_of_ble_eq_true rfl) dL_count_4 rfl rfl (fun E μ1 h => ?_) (fun r1 μ1 h => ?_)
  · obtain ⟨rfl, h⟩ := h
    refine jx_catch (name := "java/util/NoSuchElementException") C [] ⟨0, 9, 12, 13⟩ [] hT (fun z hz => nomatch hz) rfl (by decide) wd_L_count_cl13 (by decide +kernel) (fun q9 => ?_)
    refine j_astore_n (lv' := [(0, .ref (ad G 0)), (1, .int a1), (2, .ref (ad G 56)), (3, .ref q9)]) C dL_count_12 (by decide) rfl rfl ?_
    refine j_iconst (v := 1) C dL_count_13 (by decide) ?_
    exact j_iret C hQ (by decide) (by decide) h dL_count_14
  · refine j_i2l C dL_count_7 ?_
    obtain ⟨μ2, e2⟩ : ∃ m, m = wr μ1 56 (ix (0 : Int32)) r1 := ⟨_, rfl⟩
    replace h := h μ2 e2
    refine j_last (x := r1) C 56 sh_56 (by decide) rfl in01 dL_count_8 e2 ?_
    refine j_goto C 15 dL_count_9 (by decide) ?_
    refine j_iconst (v := 0) C dL_count_15 (by decide) ?_
    exact j_iret C hQ (by decide) (by decide) h dL_count_16
