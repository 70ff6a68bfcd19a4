/-! X7_needFile -/
abbrev rm_X7_needFile : Room := { frames := 6, cells := 1, slots := 6, locals := 82 }
theorem in_X7_needFile_X7 : ∀ w ∈ wsX70, w ∈ wsX7_needFile := by decide +kernel
theorem lk_X7_needFile_19 : Cond.fieldLink RX7 19 "SameAgain" "files" "LSameAgain$Files;" ∈ wsX7_needFile := by decide +kernel
theorem wd_X7_needFile_ini_X1 : Cond.initialized RX1 ∈ wsX7_needFile := by decide +kernel
theorem wd_X7_needFile_im_X1_has : Cond.instanceMethod yX1_has ∈ wsX7_needFile := by decide +kernel
theorem wd_X7_needFile_se_X1_has : Cond.selects RX1 yX1_has yX1_has ∈ wsX7_needFile := by decide +kernel
theorem nm_X7_needFile_208 : (RX7, 208, yX1_has, "SameAgain") ∈ nwM := by decide +kernel
theorem hat_X7_needFile_nse : ∀ w ∈ vz_nse.filter goodWord, w ∈ wsX7_needFile := fun w hw => List.mem_cons_of_mem _ (List.mem_append_right _ hw)
theorem wd_X7_needFile_cl159 : Cond.classLink RX7 159 "java/util/NoSuchElementException" ∈ wsX7_needFile := by decide +kernel
theorem wd_X7_needFile_in_nse : Cond.initialized "java/util/NoSuchElementException" ∈ wsX7_needFile := by decide +kernel
set_option maxHeartbeats 4000000 in
set_option maxRecDepth 100000 in
theorem c_X7_needFile (l : Launch) (G : Gt) (hD : Dj G) (hs : l.stackTraces = false) (post : Mem → Prop) (xq : XP) (a1 : Int32) (μ : Mem) : XV G l yX7_needFile wsX7_needFile rm_X7_needFile 1 6 [.ref (ad G 0), .int a1] μ (w_X7_needFile post xq a1 μ) post xq := by
  refine xV_of (cc := cX7_needFile) (maxL := 2) (lv0 := [(0, .ref (ad G 0)), (1, .int a1)]) hD hs (by decide) rfl (Nat.le_of_ble_eq_true rfl) rfl ?_
  intro X Q hl C hQ hX h
  subst hl
  replace C : Cx G X cX7_needFile RX7 wsX7_needFile 2 rm_X7_needFile := C
  unfold w_X7_needFile at h
  refine j_aload_n C 0 dX7_needFile_0 rfl ?_
  refine j_getR C 0 1 sh_0 (by decide) cl_X7 (by decide) rfl in_X7_needFile_X7 lk_X7_needFile_19 rfl dX7_needFile_1 ?_
  refine j_iload_n C 1 dX7_needFile_4 rfl ?_
  refine j_cNI (n := 1) (rest := []) C 2 (c_X1_has (xl X) G C.2.2.1 _ a1 μ) h gX7_needFile_X1_has_n208 nm_X7_needFile_208 wd_X7_needFile_ini_X1 wd_X7_needFile_im_X1_has wd_X7_needFile_se_X1_has rfl ⟨rfl, rfl⟩ (by decide +kernel) ⟨by decide, by decide⟩ ⟨by decide, by decide⟩ sh_2 (by decide) cl_X1 rfl rfl (Nat.le_of_ble_eq_true rfl) dX7_needFile_5 rfl rfl (fun r2 μ1 h => ?_)
  refine j_if_ne C 22 dX7_needFile_8 (by decide) (fun c3 => ?_) (fun c3 => ?_)
  · replace h := h.1 c3
    exact j_vret C hQ (by decide) (by decide) h dX7_needFile_22
  · replace h := h.2 c3
    exact j_thr (text := "no such file") C hX (by decide) b0_nse b1_nse b2_nse b5_nse wd_X7_needFile_cl159 wd_X7_needFile_in_nse (by decide +kernel) hat_X7_needFile_nse hng_nse hgo_nse dX7_needFile_11 dX7_needFile_14 (Or.inr ⟨dX7_needFile_15, rfl⟩) dX7_needFile_18 dX7_needFile_21 (by decide) (Nat.le_of_ble_eq_true rfl) (by decide) (by decide) (by decide) (by decide) h
/-! X7_about -/
abbrev rm_X7_about : Room := { frames := 7, cells := 2, slots := 12, locals := 103 }
theorem in_X7_about_X7 : ∀ w ∈ wsX70, w ∈ wsX7_about := by decide +kernel
theorem lk_X7_about_19 : Cond.fieldLink RX7 19 "SameAgain" "files" "LSameAgain$Files;" ∈ wsX7_about := by decide +kernel
theorem in_X7_about_X1 : ∀ w ∈ wsX10, w ∈ wsX7_about := by decide +kernel
theorem lk_X7_about_112 : (RX7, 112, "SameAgain$Files", "body", "[I", "SameAgain") ∈ nwF := by decide +kernel
theorem lk_X7_about_124 : (RX7, 124, "SameAgain$Files", "folder", "[I", "SameAgain") ∈ nwF := by decide +kernel
theorem lk_X7_about_127 : (RX7, 127, "SameAgain$Files", "name", "[I", "SameAgain") ∈ nwF := by decide +kernel
theorem lk_X7_about_26 : Cond.fieldLink RX7 26 "SameAgain" "bodies" "LSameAgain$Bodies;" ∈ wsX7_about := by decide +kernel
theorem in_X7_about_X0 : ∀ w ∈ wsX00, w ∈ wsX7_about := by decide +kernel
theorem lk_X7_about_140 : (RX7, 140, "SameAgain$Bodies", "size", "[I", "SameAgain") ∈ nwF := by decide +kernel
theorem lk_X7_about_115 : (RX7, 115, "SameAgain$Bodies", "owner", "[I", "SameAgain") ∈ nwF := by decide +kernel
theorem lk_X7_about_167 : (RX7, 167, "SameAgain$Bodies", "day", "[I", "SameAgain") ∈ nwF := by decide +kernel
theorem wd_X7_about_ini_X1 : Cond.initialized RX1 ∈ wsX7_about := by decide +kernel
theorem wd_X7_about_im_X1_having : Cond.instanceMethod yX1_having ∈ wsX7_about := by decide +kernel
theorem wd_X7_about_se_X1_having : Cond.selects RX1 yX1_having yX1_having ∈ wsX7_about := by decide +kernel
theorem nm_X7_about_136 : (RX7, 136, yX1_having, "SameAgain") ∈ nwM := by decide +kernel
theorem lk_X7_about_130 : (RX7, 130, "SameAgain$Files", "held", "[Z", "SameAgain") ∈ nwF := by decide +kernel
theorem lk_X7_about_10 : Cond.fieldLink RX7 10 "SameAgain" "folders" "LSameAgain$Folders;" ∈ wsX7_about := by decide +kernel
theorem in_X7_about_X3 : ∀ w ∈ wsX30, w ∈ wsX7_about := by decide +kernel
theorem lk_X7_about_169 : (RX7, 169, "SameAgain$Folders", "above", "[I", "SameAgain") ∈ nwF := by decide +kernel
theorem hat_X7_about_nse : ∀ w ∈ vz_nse.filter goodWord, w ∈ wsX7_about := fun w hw => List.mem_cons_of_mem _ (List.mem_append_right _ hw)
theorem wd_X7_about_cl159 : Cond.classLink RX7 159 "java/util/NoSuchElementException" ∈ wsX7_about := by decide +kernel
theorem wd_X7_about_in_nse : Cond.initialized "java/util/NoSuchElementException" ∈ wsX7_about := by decide +kernel
set_option maxHeartbeats 4000000 in
set_option maxRecDepth 100000 in
theorem c_X7_about (l : Launch) (G : Gt) (hD : Dj G) (hs : l.stackTraces = false) (post : Int32 → Mem → Prop) (xq : XP) (a1 a2 : Int32) (μ : Mem) : XI G l yX7_about wsX7_about rm_X7_about 2 12 [.ref (ad G 0), .int a1, .int a2] μ (w_X7_about post xq a1 a2 μ) post xq := by
  refine xI_of (cc := cX7_about) (maxL := 4) (ty := .int) (lv0 := [(0, .ref (ad G 0)), (1, .int a1), (2, .int a2)]) hD hs (by decide) rfl (Nat.le_of_ble_eq_true rfl) rfl ?_
  intro X Q hl C hQ hX h
  subst hl
  replace C : Cx G X cX7_about RX7 wsX7_about 4 rm_X7_about := C
  unfold w_X7_about at h
  refine j_aload_n C 0 dX7_about_0 rfl ?_
  refine j_iload_n C 1 dX7_about_1 rfl ?_
  refine j_xVV (n := 1) (rest := []) C hX 0 (c_X7_needFile (xl X) G C.2.2.1 hX.2.2 _ xq a1 μ) h gX7_about_X7_needFile rfl ⟨rfl, rfl⟩ (by decide +kernel) ⟨by decide, by decide⟩ ⟨by decide, by decide⟩ ⟨by decide, by decide⟩ sh_0 (by decide) cl_X7 rfl rfl (Nat.le_of_ble_eq_true rfl) dX7_about_2 rfl rfl (fun μ1 h => ?_)
  refine j_aload_n C 0 dX7_about_5 rfl ?_
  refine j_getR C 0 1 sh_0 (by decide) cl_X7 (by decide) rfl in_X7_about_X7 lk_X7_about_19 rfl dX7_about_6 ?_
  refine j_getRN C 2 2 sh_2 (by decide) cl_X1 (by decide) rfl in_X7_about_X1 lk_X7_about_112 rfl dX7_about_9 ?_
  refine j_iload_n C 1 dX7_about_12 rfl ?_
  have b2 := h.1
  replace h := h.2
  refine j_iald C 16 sh_16 (by decide) b2 dX7_about_13 ?_
  refine j_istore_n (lv' := [(0, .ref (ad G 0)), (1, .int a1), (2, .int a2), (3, .int (μ1 16 (ix a1)))]) C dX7_about_14 (by decide) rfl rfl ?_
  refine j_iload_n C 2 dX7_about_15 rfl ?_
  refine j_case (x := a2) (v := 0) (fun c4 => ?_) (fun c4 => ?_)
  · replace h := h.1 c4
    refine j_tsIn C 68 dX7_about_16 c4 (by decide) (by decide) rfl (by decide) ?_
    refine j_aload_n C 0 dX7_about_68 rfl ?_
    refine j_getR C 0 1 sh_0 (by decide) cl_X7 (by decide) rfl in_X7_about_X7 lk_X7_about_19 rfl dX7_about_69 ?_
    refine j_getRN C 2 0 sh_2 (by decide) cl_X1 (by decide) rfl in_X7_about_X1 lk_X7_about_124 rfl dX7_about_72 ?_
    refine j_iload_n C 1 dX7_about_75 rfl ?_
    have b3 := h.1
    replace h := h.2
    refine j_iald C 14 sh_14 (by decide) b3 dX7_about_76 ?_
    exact j_iret C hQ (by decide) (by decide) h dX7_about_77
  · replace h := h.2 c4
    refine j_case (x := a2) (v := 1) (fun c6 => ?_) (fun c6 => ?_)
    · replace h := h.1 c6
      refine j_tsIn C 78 dX7_about_16 c6 (by decide) (by decide) rfl (by decide) ?_
      refine j_aload_n C 0 dX7_about_78 rfl ?_
      refine j_getR C 0 1 sh_0 (by decide) cl_X7 (by decide) rfl in_X7_about_X7 lk_X7_about_19 rfl dX7_about_79 ?_
      refine j_getRN C 2 1 sh_2 (by decide) cl_X1 (by decide) rfl in_X7_about_X1 lk_X7_about_127 rfl dX7_about_82 ?_
      refine j_iload_n C 1 dX7_about_85 rfl ?_
      have b5 := h.1
      replace h := h.2
      refine j_iald C 15 sh_15 (by decide) b5 dX7_about_86 ?_
      exact j_iret C hQ (by decide) (by decide) h dX7_about_87
    · replace h := h.2 c6
      refine j_case (x := a2) (v := 2) (fun c7 => ?_) (fun c7 => ?_)
      · replace h := h.1 c7
        refine j_tsIn C 88 dX7_about_16 c7 (by decide) (by decide) rfl (by decide) ?_
        refine j_iload_n C 3 dX7_about_88 rfl ?_
        exact j_iret C hQ (by decide) (by decide) h dX7_about_89
      · replace h := h.2 c7
        refine j_case (x := a2) (v := 3) (fun c9 => ?_) (fun c9 => ?_)
        · replace h := h.1 c9
          refine j_tsIn C 90 dX7_about_16 c9 (by decide) (by decide) rfl (by decide) ?_
          refine j_aload_n C 0 dX7_about_90 rfl ?_
          refine j_getR C 0 2 sh_0 (by decide) cl_X7 (by decide) rfl in_X7_about_X7 lk_X7_about_26 rfl dX7_about_91 ?_
          refine j_getRN C 3 1 sh_3 (by decide) cl_X0 (by decide) rfl in_X7_about_X0 lk_X7_about_140 rfl dX7_about_94 ?_
          refine j_iload_n C 3 dX7_about_97 rfl ?_
          have b8 := h.1
          replace h := h.2
          refine j_iald C 19 sh_19 (by decide) b8 dX7_about_98 ?_
          exact j_iret C hQ (by decide) (by decide) h dX7_about_99
        · replace h := h.2 c9
          refine j_case (x := a2) (v := 4) (fun c11 => ?_) (fun c11 => ?_)
          · replace h := h.1 c11
            refine j_tsIn C 100 dX7_about_16 c11 (by decide) (by decide) rfl (by decide) ?_
            refine j_aload_n C 0 dX7_about_100 rfl ?_
            refine j_getR C 0 2 sh_0 (by decide) cl_X7 (by decide) rfl in_X7_about_X7 lk_X7_about_26 rfl dX7_about_101 ?_
            refine j_getRN C 3 2 sh_3 (by decide) cl_X0 (by decide) rfl in_X7_about_X0 lk_X7_about_115 rfl dX7_about_104 ?_
            refine j_iload_n C 3 dX7_about_107 rfl ?_
            have b10 := h.1
            replace h := h.2
            refine j_iald C 20 sh_20 (by decide) b10 dX7_about_108 ?_
            exact j_iret C hQ (by decide) (by decide) h dX7_about_109
          · replace h := h.2 c11
            refine j_case (x := a2) (v := 5) (fun c13 => ?_) (fun c13 => ?_)
            · replace h := h.1 c13
              refine j_tsIn C 110 dX7_about_16 c13 (by decide) (by decide) rfl (by decide) ?_
              refine j_aload_n C 0 dX7_about_110 rfl ?_
              refine j_getR C 0 2 sh_0 (by decide) cl_X7 (by decide) rfl in_X7_about_X7 lk_X7_about_26 rfl dX7_about_111 ?_
              refine j_getRN C 3 3 sh_3 (by decide) cl_X0 (by decide) rfl in_X7_about_X0 lk_X7_about_167 rfl dX7_about_114 ?_
              refine j_iload_n C 3 dX7_about_117 rfl ?_
              have b12 := h.1
              replace h := h.2
              refine j_iald C 21 sh_21 (by decide) b12 dX7_about_118 ?_
              exact j_iret C hQ (by decide) (by decide) h dX7_about_119
            · replace h := h.2 c13
              refine j_case (x := a2) (v := 6) (fun c16 => ?_) (fun c16 => ?_)
              · replace h := h.1 c16
                refine j_tsIn C 120 dX7_about_16 c16 (by decide) (by decide) rfl (by decide) ?_
                refine j_aload_n C 0 dX7_about_120 rfl ?_
                refine j_getR C 0 1 sh_0 (by decide) cl_X7 (by decide) rfl in_X7_about_X7 lk_X7_about_19 rfl dX7_about_121 ?_
                refine j_iload_n C 3 dX7_about_124 rfl ?_
                refine j_cNI (n := 1) (rest := []) C 2 (c_X1_having (xl X) G C.2.2.1 _ (μ1 16 (ix a1)) μ1) h gX7_about_X1_having_n136 nm_X7_about_136 wd_X7_about_ini_X1 wd_X7_about_im_X1_having wd_X7_about_se_X1_having rfl ⟨rfl, rfl⟩ (by decide +kernel) ⟨by decide, by decide⟩ ⟨by decide, by decide⟩ sh_2 (by decide) cl_X1 rfl rfl (Nat.le_of_ble_eq_true rfl) dX7_about_125 rfl rfl (fun r15 μ14 h => ?_)
                exact j_iret C hQ (by decide) (by decide) h dX7_about_128
              · replace h := h.2 c16
                refine j_case (x := a2) (v := 7) (fun c19 => ?_) (fun c19 => ?_)
                · replace h := h.1 c19
                  refine j_tsIn C 129 dX7_about_16 c19 (by decide) (by decide) rfl (by decide) ?_
                  refine j_aload_n C 0 dX7_about_129 rfl ?_
                  refine j_getR C 0 1 sh_0 (by decide) cl_X7 (by decide) rfl in_X7_about_X7 lk_X7_about_19 rfl dX7_about_130 ?_
                  refine j_getRN C 2 3 sh_2 (by decide) cl_X1 (by decide) rfl in_X7_about_X1 lk_X7_about_130 rfl dX7_about_133 ?_
                  refine j_iload_n C 1 dX7_about_136 rfl ?_
                  have b17 := h.1
                  replace h := h.2
                  refine j_zald C 17 sh_17 (by decide) b17 dX7_about_137 ?_
                  refine j_if_eq C 145 dX7_about_138 (by decide) (fun c18 => ?_) (fun c18 => ?_)
                  · replace h := h.1 c18
                    refine j_iconst (v := 0) C dX7_about_145 (by decide) ?_
                    exact j_iret C hQ (by decide) (by decide) h dX7_about_146
                  · replace h := h.2 c18
                    refine j_iconst (v := 1) C dX7_about_141 (by decide) ?_
                    refine j_goto C 146 dX7_about_142 (by decide) ?_
                    exact j_iret C hQ (by decide) (by decide) h dX7_about_146
                · replace h := h.2 c19
                  refine j_case (x := a2) (v := 8) (fun c22 => ?_) (fun c22 => ?_)
                  · replace h := h.1 c22
                    refine j_tsIn C 147 dX7_about_16 c22 (by decide) (by decide) rfl (by decide) ?_
                    refine j_aload_n C 0 dX7_about_147 rfl ?_
                    refine j_getR C 0 0 sh_0 (by decide) cl_X7 (by decide) rfl in_X7_about_X7 lk_X7_about_10 rfl dX7_about_148 ?_
                    refine j_getRN C 1 2 sh_1 (by decide) cl_X3 (by decide) rfl in_X7_about_X3 lk_X7_about_169 rfl dX7_about_151 ?_
                    refine j_aload_n C 0 dX7_about_154 rfl ?_
                    refine j_getR C 0 1 sh_0 (by decide) cl_X7 (by decide) rfl in_X7_about_X7 lk_X7_about_19 rfl dX7_about_155 ?_
                    refine j_getRN C 2 0 sh_2 (by decide) cl_X1 (by decide) rfl in_X7_about_X1 lk_X7_about_124 rfl dX7_about_158 ?_
                    refine j_iload_n C 1 dX7_about_161 rfl ?_
                    have b20 := h.1
                    replace h := h.2
                    refine j_iald C 14 sh_14 (by decide) b20 dX7_about_162 ?_
                    have b21 := h.1
                    replace h := h.2
                    refine j_iald C 13 sh_13 (by decide) b21 dX7_about_163 ?_
                    exact j_iret C hQ (by decide) (by decide) h dX7_about_164
                  · replace h := h.2 c22
                    refine j_tsOut C 165 dX7_about_16 ?_ (by decide) ?_
                    · have z0 := lv_neT (a := 0) c4 (by decide); have z1 := lv_neT (a := 1) c6 (by decide); have z2 := lv_neT (a := 2) c7 (by decide); have z3 := lv_neT (a := 3) c9 (by decide); have z4 := lv_neT (a := 4) c11 (by decide); have z5 := lv_neT (a := 5) c13 (by decide); have z6 := lv_neT (a := 6) c16 (by decide); have z7 := lv_neT (a := 7) c19 (by decide); have z8 := lv_neT (a := 8) c22 (by decide); omega
                    · exact j_thr (text := "nothing such is told of a file") C hX (by decide) b0_nse b1_nse b2_nse b5_nse wd_X7_about_cl159 wd_X7_about_in_nse (by decide +kernel) hat_X7_about_nse hng_nse hgo_nse dX7_about_165 dX7_about_168 (Or.inl ⟨dX7_about_169, rfl⟩) dX7_about_171 dX7_about_174 (by decide) (Nat.le_of_ble_eq_true rfl) (by decide) (by decide) (by decide) (by decide) h
/-! X7_at -/
abbrev rm_X7_at : Room := { frames := 7, cells := 2, slots := 12, locals := 103 }
theorem in_X7_at_X7 : ∀ w ∈ wsX70, w ∈ wsX7_at := by decide +kernel
theorem lk_X7_at_19 : Cond.fieldLink RX7 19 "SameAgain" "files" "LSameAgain$Files;" ∈ wsX7_at := by decide +kernel
theorem in_X7_at_X1 : ∀ w ∈ wsX10, w ∈ wsX7_at := by decide +kernel
theorem lk_X7_at_112 : (RX7, 112, "SameAgain$Files", "body", "[I", "SameAgain") ∈ nwF := by decide +kernel
theorem hat_X7_at_nse : ∀ w ∈ vz_nse.filter goodWord, w ∈ wsX7_at := fun w hw => List.mem_cons_of_mem _ (List.mem_append_right _ hw)
theorem wd_X7_at_cl159 : Cond.classLink RX7 159 "java/util/NoSuchElementException" ∈ wsX7_at := by decide +kernel
theorem wd_X7_at_in_nse : Cond.initialized "java/util/NoSuchElementException" ∈ wsX7_at := by decide +kernel
theorem lk_X7_at_26 : Cond.fieldLink RX7 26 "SameAgain" "bodies" "LSameAgain$Bodies;" ∈ wsX7_at := by decide +kernel
theorem in_X7_at_X0 : ∀ w ∈ wsX00, w ∈ wsX7_at := by decide +kernel
theorem lk_X7_at_140 : (RX7, 140, "SameAgain$Bodies", "size", "[I", "SameAgain") ∈ nwF := by decide +kernel
theorem wd_X7_at_ini_X0 : Cond.initialized RX0 ∈ wsX7_at := by decide +kernel
theorem wd_X7_at_im_X0_byteOf : Cond.instanceMethod yX0_byteOf ∈ wsX7_at := by decide +kernel
theorem wd_X7_at_se_X0_byteOf : Cond.selects RX0 yX0_byteOf yX0_byteOf ∈ wsX7_at := by decide +kernel
theorem nm_X7_at_164 : (RX7, 164, yX0_byteOf, "SameAgain") ∈ nwM := by decide +kernel
set_option maxHeartbeats 4000000 in
set_option maxRecDepth 100000 in
theorem w_X7_at_b32_j {G : Gt} {X : Cxt} {Q : State → Prop} (C : Cx G X cX7_at RX7 wsX7_at 4 rm_X7_at) {post : Int32 → Mem → Prop} (hQ : RetI G X Q post .int 2 12) {xq : XP} (hX : Xq G X Q xq 2 12) {μ : Mem} (h : w_X7_at_b32 post xq μ) : J G X Q 4 1 6 32 [] [] μ := by
  unfold w_X7_at_b32 at h
  exact j_thr (text := "no such place") C hX (by decide) b0_nse b1_nse b2_nse b5_nse wd_X7_at_cl159 wd_X7_at_in_nse (by decide +kernel) hat_X7_at_nse hng_nse hgo_nse dX7_at_32 dX7_at_35 (Or.inl ⟨dX7_at_36, rfl⟩) dX7_at_38 dX7_at_41 (by decide) (Nat.le_of_ble_eq_true rfl) (by decide) (by decide) (by decide) (by decide) h
set_option maxHeartbeats 4000000 in
set_option maxRecDepth 100000 in
theorem c_X7_at (l : Launch) (G : Gt) (hD : Dj G) (hs : l.stackTraces = false) (post : Int32 → Mem → Prop) (xq : XP) (a1 a2 : Int32) (μ : Mem) : XI G l yX7_at wsX7_at rm_X7_at 2 12 [.ref (ad G 0), .int a1, .int a2] μ (w_X7_at post xq a1 a2 μ) post xq := by
  refine xI_of (cc := cX7_at) (maxL := 4) (ty := .int) (lv0 := [(0, .ref (ad G 0)), (1, .int a1), (2, .int a2)]) hD hs (by decide) rfl (Nat.le_of_ble_eq_true rfl) rfl ?_
  intro X Q hl C hQ hX h
  subst hl
  replace C : Cx G X cX7_at RX7 wsX7_at 4 rm_X7_at := C
  unfold w_X7_at at h
  refine j_aload_n C 0 dX7_at_0 rfl ?_
  refine j_iload_n C 1 dX7_at_1 rfl ?_
  refine j_xVV (n := 1) (rest := []) C hX 0 (c_X7_needFile (xl X) G C.2.2.1 hX.2.2 _ xq a1 μ) h gX7_at_X7_needFile rfl ⟨rfl, rfl⟩ (by decide +kernel) ⟨by decide, by decide⟩ ⟨by decide, by decide⟩ ⟨by decide, by decide⟩ sh_0 (by decide) cl_X7 rfl rfl (Nat.le_of_ble_eq_true rfl) dX7_at_2 rfl rfl (fun μ1 h => ?_)
  refine j_aload_n C 0 dX7_at_5 rfl ?_
  refine j_getR C 0 1 sh_0 (by decide) cl_X7 (by decide) rfl in_X7_at_X7 lk_X7_at_19 rfl dX7_at_6 ?_
  refine j_getRN C 2 2 sh_2 (by decide) cl_X1 (by decide) rfl in_X7_at_X1 lk_X7_at_112 rfl dX7_at_9 ?_
  refine j_iload_n C 1 dX7_at_12 rfl ?_
  have b2 := h.1
  replace h := h.2
  refine j_iald C 16 sh_16 (by decide) b2 dX7_at_13 ?_
  refine j_istore_n (lv' := [(0, .ref (ad G 0)), (1, .int a1), (2, .int a2), (3, .int (μ1 16 (ix a1)))]) C dX7_at_14 (by decide) rfl rfl ?_
  refine j_iload_n C 2 dX7_at_15 rfl ?_
  refine j_if_lt C 32 dX7_at_16 (by decide) (fun c7 => ?_) (fun c7 => ?_)
  · replace h := h.1 c7
    refine j_forget [] rfl ?_
    exact w_X7_at_b32_j C hQ hX h
  · replace h := h.2 c7
    refine j_iload_n C 2 dX7_at_19 rfl ?_
    refine j_aload_n C 0 dX7_at_20 rfl ?_
    refine j_getR C 0 2 sh_0 (by decide) cl_X7 (by decide) rfl in_X7_at_X7 lk_X7_at_26 rfl dX7_at_21 ?_
    refine j_getRN C 3 1 sh_3 (by decide) cl_X0 (by decide) rfl in_X7_at_X0 lk_X7_at_140 rfl dX7_at_24 ?_
    refine j_iload_n C 3 dX7_at_27 rfl ?_
    have b3 := h.1
    replace h := h.2
    refine j_iald C 19 sh_19 (by decide) b3 dX7_at_28 ?_
    refine j_icmp_lt C 42 dX7_at_29 (by decide) (fun c6 => ?_) (fun c6 => ?_)
    · replace h := h.1 c6
      refine j_aload_n C 0 dX7_at_42 rfl ?_
      refine j_getR C 0 2 sh_0 (by decide) cl_X7 (by decide) rfl in_X7_at_X7 lk_X7_at_26 rfl dX7_at_43 ?_
      refine j_iload_n C 3 dX7_at_46 rfl ?_
      refine j_iload_n C 2 dX7_at_47 rfl ?_
      refine j_cNI (n := 2) (rest := []) C 3 (c_X0_byteOf (xl X) G C.2.2.1 _ (μ1 16 (ix a1)) a2 μ1) h gX7_at_X0_byteOf_n164 nm_X7_at_164 wd_X7_at_ini_X0 wd_X7_at_im_X0_byteOf wd_X7_at_se_X0_byteOf rfl ⟨rfl, rfl⟩ (by decide +kernel) ⟨by decide, by decide⟩ ⟨by decide, by decide⟩ sh_3 (by decide) cl_X0 rfl rfl (Nat.le_of_ble_eq_true rfl) dX7_at_48 rfl rfl (fun r5 μ4 h => ?_)
      exact j_iret C hQ (by decide) (by decide) h dX7_at_51
    · replace h := h.2 c6
      refine j_forget [] rfl ?_
      exact w_X7_at_b32_j C hQ hX h
/-! X7_bodiesThere -/
abbrev rm_X7_bodiesThere : Room := { frames := 1, cells := 0, slots := 0, locals := 23 }
theorem in_X7_bodiesThere_X7 : ∀ w ∈ wsX70, w ∈ wsX7_bodiesThere := by decide +kernel
theorem lk_X7_bodiesThere_26 : Cond.fieldLink RX7 26 "SameAgain" "bodies" "LSameAgain$Bodies;" ∈ wsX7_bodiesThere := by decide +kernel
theorem in_X7_bodiesThere_X0 : ∀ w ∈ wsX00, w ∈ wsX7_bodiesThere := by decide +kernel
theorem lk_X7_bodiesThere_281 : (RX7, 281, "SameAgain$Bodies", "made", "I", "SameAgain") ∈ nwF := by decide +kernel
theorem lk_X7_bodiesThere_19 : Cond.fieldLink RX7 19 "SameAgain" "files" "LSameAgain$Files;" ∈ wsX7_bodiesThere := by decide +kernel
theorem wd_X7_bodiesThere_ini_X1 : Cond.initialized RX1 ∈ wsX7_bodiesThere := by decide +kernel
theorem wd_X7_bodiesThere_im_X1_having : Cond.instanceMethod yX1_having ∈ wsX7_bodiesThere := by decide +kernel
theorem wd_X7_bodiesThere_se_X1_having : Cond.selects RX1 yX1_having yX1_having ∈ wsX7_bodiesThere := by decide +kernel
theorem nm_X7_bodiesThere_136 : (RX7, 136, yX1_having, "SameAgain") ∈ nwM := by decide +kernel
set_option maxHeartbeats 4000000 in
set_option maxRecDepth 100000 in
theorem w_X7_bodiesThere_b4_j {G : Gt} {X : Cxt} {Q : State → Prop} (C : Cx G X cX7_bodiesThere RX7 wsX7_bodiesThere 3 rm_X7_bodiesThere) {post : Int32 → Mem → Prop} (hQ : RetI G X Q post .int 0 0) : ∀ (n : Nat) (v1 v2 : Int32) (μ : Mem), itr (fun _ _ _ => False) (w_X7_bodiesThere_b4 post) n v1 v2 μ → J G X Q 3 0 0 4 [(0, .ref (ad G 0)), (1, .int v1), (2, .int v2)] [] μ := by
  intro n
  induction n with
  | zero => intro v1 v2 μ h; exact h.elim
  | succ n ih =>
    intro v1 v2 μ h
    replace h : w_X7_bodiesThere_b4 post (itr (fun _ _ _ => False) (w_X7_bodiesThere_b4 post) n) v1 v2 μ := h
    generalize itr (fun _ _ _ => False) (w_X7_bodiesThere_b4 post) n = k4 at ih h
    have hk4 := ih
    unfold w_X7_bodiesThere_b4 at h
    refine j_iload_n C 2 dX7_bodiesThere_4 rfl ?_
    refine j_aload_n C 0 dX7_bodiesThere_5 rfl ?_
    refine j_getR C 0 2 sh_0 (by decide) cl_X7 (by decide) rfl in_X7_bodiesThere_X7 lk_X7_bodiesThere_26 rfl dX7_bodiesThere_6 ?_
    refine j_getIN C 3 4 sh_3 (by decide) cl_X0 (by decide) rfl in_X7_bodiesThere_X0 lk_X7_bodiesThere_281 rfl dX7_bodiesThere_9 ?_
    refine j_icmp_ge C 35 dX7_bodiesThere_12 (by decide) (fun c4 => ?_) (fun c4 => ?_)
    · replace h := h.1 c4
      refine j_iload_n C 1 dX7_bodiesThere_35 rfl ?_
      exact j_iret C hQ (by decide) (by decide) h dX7_bodiesThere_36
    · replace h := h.2 c4
      refine j_aload_n C 0 dX7_bodiesThere_15 rfl ?_
      refine j_getR C 0 1 sh_0 (by decide) cl_X7 (by decide) rfl in_X7_bodiesThere_X7 lk_X7_bodiesThere_19 rfl dX7_bodiesThere_16 ?_
      refine j_iload_n C 2 dX7_bodiesThere_19 rfl ?_
      refine j_cNI (n := 1) (rest := []) C 2 (c_X1_having (xl X) G C.2.2.1 _ v2 μ) h gX7_bodiesThere_X1_having_n136 nm_X7_bodiesThere_136 wd_X7_bodiesThere_ini_X1 wd_X7_bodiesThere_im_X1_having wd_X7_bodiesThere_se_X1_having rfl ⟨rfl, rfl⟩ (by decide +kernel) ⟨by decide, by decide⟩ ⟨by decide, by decide⟩ sh_2 (by decide) cl_X1 rfl rfl (Nat.le_of_ble_eq_true rfl) dX7_bodiesThere_20 rfl rfl (fun r2 μ1 h => ?_)
      refine j_if_le C 29 dX7_bodiesThere_23 (by decide) (fun c3 => ?_) (fun c3 => ?_)
      · replace h := h.1 c3
        refine j_iinc (v := v2 + (1 : Int32)) (lv' := [(0, .ref (ad G 0)), (1, .int v1), (2, .int (v2 + (1 : Int32)))]) C 2 dX7_bodiesThere_29 rfl rfl (by decide) rfl rfl ?_
        refine j_goto C 4 dX7_bodiesThere_32 (by decide) ?_
        exact hk4 _ _ _ h
      · replace h := h.2 c3
        refine j_iinc (v := v1 + (1 : Int32)) (lv' := [(0, .ref (ad G 0)), (1, .int (v1 + (1 : Int32))), (2, .int v2)]) C 1 dX7_bodiesThere_26 rfl rfl (by decide) rfl rfl ?_
        refine j_iinc (v := v2 + (1 : Int32)) (lv' := [(0, .ref (ad G 0)), (1, .int (v1 + (1 : Int32))), (2, .int (v2 + (1 : Int32)))]) C 2 dX7_bodiesThere_29 rfl rfl (by decide) rfl rfl ?_
        refine j_goto C 4 dX7_bodiesThere_32 (by decide) ?_
        exact hk4 _ _ _ h
set_option maxHeartbeats 4000000 in
set_option maxRecDepth 100000 in
theorem c_X7_bodiesThere (l : Launch) (G : Gt) (hD : Dj G) (post : Int32 → Mem → Prop) (μ : Mem) : MI G l yX7_bodiesThere wsX7_bodiesThere rm_X7_bodiesThere 0 0 [.ref (ad G 0)] μ (w_X7_bodiesThere post μ) post := by
  refine mI_of (cc := cX7_bodiesThere) (maxL := 3) (ty := .int) (lv0 := [(0, .ref (ad G 0))]) hD (by decide) rfl (Nat.le_of_ble_eq_true rfl) rfl ?_
  intro X Q hl C hQ h
  subst hl
  replace C : Cx G X cX7_bodiesThere RX7 wsX7_bodiesThere 3 rm_X7_bodiesThere := C
  unfold w_X7_bodiesThere at h
  refine j_iconst (v := 0) C dX7_bodiesThere_0 (by decide) ?_
  refine j_istore_n (lv' := [(0, .ref (ad G 0)), (1, .int (0 : Int32))]) C dX7_bodiesThere_1 (by decide) rfl rfl ?_
  refine j_iconst (v := 0) C dX7_bodiesThere_2 (by decide) ?_
  refine j_istore_n (lv' := [(0, .ref (ad G 0)), (1, .int (0 : Int32)), (2, .int (0 : Int32))]) C dX7_bodiesThere_3 (by decide) rfl rfl ?_
  obtain ⟨n9, h⟩ := h
  exact w_X7_bodiesThere_b4_j C hQ n9 _ _ _ h
/-! X7_bytesThere -/
abbrev rm_X7_bytesThere : Room := { frames := 1, cells := 0, slots := 0, locals := 23 }
theorem in_X7_bytesThere_X7 : ∀ w ∈ wsX70, w ∈ wsX7_bytesThere := by decide +kernel
theorem lk_X7_bytesThere_26 : Cond.fieldLink RX7 26 "SameAgain" "bodies" "LSameAgain$Bodies;" ∈ wsX7_bytesThere := by decide +kernel
theorem in_X7_bytesThere_X0 : ∀ w ∈ wsX00, w ∈ wsX7_bytesThere := by decide +kernel
theorem lk_X7_bytesThere_281 : (RX7, 281, "SameAgain$Bodies", "made", "I", "SameAgain") ∈ nwF := by decide +kernel
theorem lk_X7_bytesThere_19 : Cond.fieldLink RX7 19 "SameAgain" "files" "LSameAgain$Files;" ∈ wsX7_bytesThere := by decide +kernel
theorem wd_X7_bytesThere_ini_X1 : Cond.initialized RX1 ∈ wsX7_bytesThere := by decide +kernel
theorem wd_X7_bytesThere_im_X1_having : Cond.instanceMethod yX1_having ∈ wsX7_bytesThere := by decide +kernel
theorem wd_X7_bytesThere_se_X1_having : Cond.selects RX1 yX1_having yX1_having ∈ wsX7_bytesThere := by decide +kernel
theorem nm_X7_bytesThere_136 : (RX7, 136, yX1_having, "SameAgain") ∈ nwM := by decide +kernel
theorem lk_X7_bytesThere_140 : (RX7, 140, "SameAgain$Bodies", "size", "[I", "SameAgain") ∈ nwF := by decide +kernel
set_option maxHeartbeats 4000000 in
set_option maxRecDepth 100000 in
theorem w_X7_bytesThere_b4_j {G : Gt} {X : Cxt} {Q : State → Prop} (C : Cx G X cX7_bytesThere RX7 wsX7_bytesThere 3 rm_X7_bytesThere) {post : Int32 → Mem → Prop} (hQ : RetI G X Q post .int 0 0) : ∀ (n : Nat) (v1 v2 : Int32) (μ : Mem), itr (fun _ _ _ => False) (w_X7_bytesThere_b4 post) n v1 v2 μ → J G X Q 3 0 0 4 [(0, .ref (ad G 0)), (1, .int v1), (2, .int v2)] [] μ := by
  intro n
  induction n with
  | zero => intro v1 v2 μ h; exact h.elim
  | succ n ih =>
    intro v1 v2 μ h
    replace h : w_X7_bytesThere_b4 post (itr (fun _ _ _ => False) (w_X7_bytesThere_b4 post) n) v1 v2 μ := h
    generalize itr (fun _ _ _ => False) (w_X7_bytesThere_b4 post) n = k4 at ih h
    have hk4 := ih
    unfold w_X7_bytesThere_b4 at h
    refine j_iload_n C 2 dX7_bytesThere_4 rfl ?_
    refine j_aload_n C 0 dX7_bytesThere_5 rfl ?_
    refine j_getR C 0 2 sh_0 (by decide) cl_X7 (by decide) rfl in_X7_bytesThere_X7 lk_X7_bytesThere_26 rfl dX7_bytesThere_6 ?_
    refine j_getIN C 3 4 sh_3 (by decide) cl_X0 (by decide) rfl in_X7_bytesThere_X0 lk_X7_bytesThere_281 rfl dX7_bytesThere_9 ?_
    refine j_icmp_ge C 44 dX7_bytesThere_12 (by decide) (fun c5 => ?_) (fun c5 => ?_)
    · replace h := h.1 c5
      refine j_iload_n C 1 dX7_bytesThere_44 rfl ?_
      exact j_iret C hQ (by decide) (by decide) h dX7_bytesThere_45
    · replace h := h.2 c5
      refine j_aload_n C 0 dX7_bytesThere_15 rfl ?_
      refine j_getR C 0 1 sh_0 (by decide) cl_X7 (by decide) rfl in_X7_bytesThere_X7 lk_X7_bytesThere_19 rfl dX7_bytesThere_16 ?_
      refine j_iload_n C 2 dX7_bytesThere_19 rfl ?_
      refine j_cNI (n := 1) (rest := []) C 2 (c_X1_having (xl X) G C.2.2.1 _ v2 μ) h gX7_bytesThere_X1_having_n136 nm_X7_bytesThere_136 wd_X7_bytesThere_ini_X1 wd_X7_bytesThere_im_X1_having wd_X7_bytesThere_se_X1_having rfl ⟨rfl, rfl⟩ (by decide +kernel) ⟨by decide, by decide⟩ ⟨by decide, by decide⟩ sh_2 (by decide) cl_X1 rfl rfl (Nat.le_of_ble_eq_true rfl) dX7_bytesThere_20 rfl rfl (fun r2 μ1 h => ?_)
      refine j_if_le C 38 dX7_bytesThere_23 (by decide) (fun c4 => ?_) (fun c4 => ?_)
      · replace h := h.1 c4
        refine j_iinc (v := v2 + (1 : Int32)) (lv' := [(0, .ref (ad G 0)), (1, .int v1), (2, .int (v2 + (1 : Int32)))]) C 2 dX7_bytesThere_38 rfl rfl (by decide) rfl rfl ?_
        refine j_goto C 4 dX7_bytesThere_41 (by decide) ?_
        exact hk4 _ _ _ h
      · replace h := h.2 c4
        refine j_iload_n C 1 dX7_bytesThere_26 rfl ?_
        refine j_aload_n C 0 dX7_bytesThere_27 rfl ?_
        refine j_getR C 0 2 sh_0 (by decide) cl_X7 (by decide) rfl in_X7_bytesThere_X7 lk_X7_bytesThere_26 rfl dX7_bytesThere_28 ?_
        refine j_getRN C 3 1 sh_3 (by decide) cl_X0 (by decide) rfl in_X7_bytesThere_X0 lk_X7_bytesThere_140 rfl dX7_bytesThere_31 ?_
        refine j_iload_n C 2 dX7_bytesThere_34 rfl ?_
        have b3 := h.1
        replace h := h.2
        refine j_iald C 19 sh_19 (by decide) b3 dX7_bytesThere_35 ?_
        refine j_iadd C dX7_bytesThere_36 ?_
        refine j_istore_n (lv' := [(0, .ref (ad G 0)), (1, .int (v1 + (μ1 19 (ix v2)))), (2, .int v2)]) C dX7_bytesThere_37 (by decide) rfl rfl ?_
        refine j_iinc (v := v2 + (1 : Int32)) (lv' := [(0, .ref (ad G 0)), (1, .int (v1 + (μ1 19 (ix v2)))), (2, .int (v2 + (1 : Int32)))]) C 2 dX7_bytesThere_38 rfl rfl (by decide) rfl rfl ?_
        refine j_goto C 4 dX7_bytesThere_41 (by decide) ?_
        exact hk4 _ _ _ h
set_option maxHeartbeats 4000000 in
set_option maxRecDepth 100000 in
theorem c_X7_bytesThere (l : Launch) (G : Gt) (hD : Dj G) (post : Int32 → Mem → Prop) (μ : Mem) : MI G l yX7_bytesThere wsX7_bytesThere rm_X7_bytesThere 0 0 [.ref (ad G 0)] μ (w_X7_bytesThere post μ) post := by
  refine mI_of (cc := cX7_bytesThere) (maxL := 3) (ty := .int) (lv0 := [(0, .ref (ad G 0))]) hD (by decide) rfl (Nat.le_of_ble_eq_true rfl) rfl ?_
  intro X Q hl C hQ h
  subst hl
  replace C : Cx G X cX7_bytesThere RX7 wsX7_bytesThere 3 rm_X7_bytesThere := C
  unfold w_X7_bytesThere at h
  refine j_iconst (v := 0) C dX7_bytesThere_0 (by decide) ?_
  refine j_istore_n (lv' := [(0, .ref (ad G 0)), (1, .int (0 : Int32))]) C dX7_bytesThere_1 (by decide) rfl rfl ?_
  refine j_iconst (v := 0) C dX7_bytesThere_2 (by decide) ?_
  refine j_istore_n (lv' := [(0, .ref (ad G 0)), (1, .int (0 : Int32)), (2, .int (0 : Int32))]) C dX7_bytesThere_3 (by decide) rfl rfl ?_
  obtain ⟨n9, h⟩ := h
  exact w_X7_bytesThere_b4_j C hQ n9 _ _ _ h
/-! X7_isName -/
abbrev rm_X7_isName : Room := { frames := 0, cells := 0, slots := 0, locals := 0 }
set_option maxHeartbeats 4000000 in
set_option maxRecDepth 100000 in
theorem c_X7_isName (l : Launch) (G : Gt) (hD : Dj G) (post : Int32 → Mem → Prop) (a0 : Int32) (μ : Mem) : MI G l yX7_isName wsX7_isName rm_X7_isName 0 0 [.int a0] μ (w_X7_isName post a0 μ) post := by
  refine mI_of (cc := cX7_isName) (maxL := 1) (ty := .boolean) (lv0 := [(0, .int a0)]) hD (by decide) rfl (Nat.le_of_ble_eq_true rfl) rfl ?_
  intro X Q hl C hQ h
  subst hl
  replace C : Cx G X cX7_isName RX7 wsX7_isName 1 rm_X7_isName := C
  unfold w_X7_isName at h
  refine j_iload_n C 0 dX7_isName_0 rfl ?_
  refine j_if_lt C 15 dX7_isName_1 (by decide) (fun c2 => ?_) (fun c2 => ?_)
  · replace h := h.1 c2
    refine j_iconst (v := 0) C dX7_isName_15 (by decide) ?_
    exact j_zret C hQ (by decide) (by decide) rfl h dX7_isName_16
  · replace h := h.2 c2
    refine j_iload_n C 0 dX7_isName_4 rfl ?_
    refine j_sipush (v := 1000) C dX7_isName_5 (by decide) ?_
    refine j_icmp_ge C 15 dX7_isName_8 (by decide) (fun c1 => ?_) (fun c1 => ?_)
    · replace h := h.1 c1
      refine j_iconst (v := 0) C dX7_isName_15 (by decide) ?_
      exact j_zret C hQ (by decide) (by decide) rfl h dX7_isName_16
    · replace h := h.2 c1
      refine j_iconst (v := 1) C dX7_isName_11 (by decide) ?_
      refine j_goto C 16 dX7_isName_12 (by decide) ?_
      exact j_zret C hQ (by decide) (by decide) rfl h dX7_isName_16
/-! X7_isFreeName -/
abbrev rm_X7_isFreeName : Room := { frames := 1, cells := 0, slots := 0, locals := 23 }
theorem in_X7_isFreeName_X7 : ∀ w ∈ wsX70, w ∈ wsX7_isFreeName := by decide +kernel
theorem lk_X7_isFreeName_19 : Cond.fieldLink RX7 19 "SameAgain" "files" "LSameAgain$Files;" ∈ wsX7_isFreeName := by decide +kernel
theorem wd_X7_isFreeName_ini_X1 : Cond.initialized RX1 ∈ wsX7_isFreeName := by decide +kernel
theorem wd_X7_isFreeName_im_X1_named : Cond.instanceMethod yX1_named ∈ wsX7_isFreeName := by decide +kernel
theorem wd_X7_isFreeName_se_X1_named : Cond.selects RX1 yX1_named yX1_named ∈ wsX7_isFreeName := by decide +kernel
theorem nm_X7_isFreeName_291 : (RX7, 291, yX1_named, "SameAgain") ∈ nwM := by decide +kernel
set_option maxHeartbeats 4000000 in
set_option maxRecDepth 100000 in
theorem c_X7_isFreeName (l : Launch) (G : Gt) (hD : Dj G) (post : Int32 → Mem → Prop) (a1 a2 : Int32) (μ : Mem) : MI G l yX7_isFreeName wsX7_isFreeName rm_X7_isFreeName 0 0 [.ref (ad G 0), .int a1, .int a2] μ (w_X7_isFreeName post a1 a2 μ) post := by
  refine mI_of (cc := cX7_isFreeName) (maxL := 3) (ty := .boolean) (lv0 := [(0, .ref (ad G 0)), (1, .int a1), (2, .int a2)]) hD (by decide) rfl (Nat.le_of_ble_eq_true rfl) rfl ?_
  intro X Q hl C hQ h
  subst hl
  replace C : Cx G X cX7_isFreeName RX7 wsX7_isFreeName 3 rm_X7_isFreeName := C
  unfold w_X7_isFreeName at h
  refine j_iload_n C 2 dX7_isFreeName_0 rfl ?_
  refine j_cSI (n := 1) (rest := []) C (c_X7_isName (xl X) G C.2.2.1 _ a2 μ) h gX7_isFreeName_X7_isName rfl ⟨rfl, rfl⟩ (by decide +kernel) ⟨by decide, by decide⟩ ⟨by decide, by decide⟩ rfl rfl (Nat.le_of_ble_eq_true rfl) dX7_isFreeName_1 rfl rfl (fun r2 μ1 h => ?_)
  refine j_if_eq C 24 dX7_isFreeName_4 (by decide) (fun c6 => ?_) (fun c6 => ?_)
  · replace h := h.1 c6
    refine j_iconst (v := 0) C dX7_isFreeName_24 (by decide) ?_
    exact j_zret C hQ (by decide) (by decide) rfl h dX7_isFreeName_25
  · replace h := h.2 c6
    refine j_aload_n C 0 dX7_isFreeName_7 rfl ?_
    refine j_getR C 0 1 sh_0 (by decide) cl_X7 (by decide) rfl in_X7_isFreeName_X7 lk_X7_isFreeName_19 rfl dX7_isFreeName_8 ?_
    refine j_iload_n C 1 dX7_isFreeName_11 rfl ?_
    refine j_iload_n C 2 dX7_isFreeName_12 rfl ?_
    refine j_cNI (n := 2) (rest := []) C 2 (c_X1_named (xl X) G C.2.2.1 _ a1 a2 μ1) h gX7_isFreeName_X1_named_n291 nm_X7_isFreeName_291 wd_X7_isFreeName_ini_X1 wd_X7_isFreeName_im_X1_named wd_X7_isFreeName_se_X1_named rfl ⟨rfl, rfl⟩ (by decide +kernel) ⟨by decide, by decide⟩ ⟨by decide, by decide⟩ sh_2 (by decide) cl_X1 rfl rfl (Nat.le_of_ble_eq_true rfl) dX7_isFreeName_13 rfl rfl (fun r4 μ3 h => ?_)
    refine j_iconst (v := -1) C dX7_isFreeName_16 (by decide) ?_
    refine j_icmp_ne C 24 dX7_isFreeName_17 (by decide) (fun c5 => ?_) (fun c5 => ?_)
    · replace h := h.1 c5
      refine j_iconst (v := 0) C dX7_isFreeName_24 (by decide) ?_
      exact j_zret C hQ (by decide) (by decide) rfl h dX7_isFreeName_25
    · replace h := h.2 c5
      refine j_iconst (v := 1) C dX7_isFreeName_20 (by decide) ?_
      refine j_goto C 25 dX7_isFreeName_21 (by decide) ?_
      exact j_zret C hQ (by decide) (by decide) rfl h dX7_isFreeName_25
/-! X7_mayCome -/
abbrev rm_X7_mayCome : Room := { frames := 2, cells := 0, slots := 0, locals := 45 }
theorem in_X7_mayCome_X7 : ∀ w ∈ wsX70, w ∈ wsX7_mayCome := by decide +kernel
theorem lk_X7_mayCome_19 : Cond.fieldLink RX7 19 "SameAgain" "files" "LSameAgain$Files;" ∈ wsX7_mayCome := by decide +kernel
theorem wd_X7_mayCome_ini_X1 : Cond.initialized RX1 ∈ wsX7_mayCome := by decide +kernel
theorem wd_X7_mayCome_im_X1_hasRoom : Cond.instanceMethod yX1_hasRoom ∈ wsX7_mayCome := by decide +kernel
theorem wd_X7_mayCome_se_X1_hasRoom : Cond.selects RX1 yX1_hasRoom yX1_hasRoom ∈ wsX7_mayCome := by decide +kernel
theorem nm_X7_mayCome_292 : (RX7, 292, yX1_hasRoom, "SameAgain") ∈ nwM := by decide +kernel
set_option maxHeartbeats 4000000 in
set_option maxRecDepth 100000 in
theorem c_X7_mayCome (l : Launch) (G : Gt) (hD : Dj G) (post : Int32 → Mem → Prop) (a1 a2 : Int32) (μ : Mem) : MI G l yX7_mayCome wsX7_mayCome rm_X7_mayCome 0 0 [.ref (ad G 0), .int a1, .int a2] μ (w_X7_mayCome post a1 a2 μ) post := by
  refine mI_of (cc := cX7_mayCome) (maxL := 3) (ty := .boolean) (lv0 := [(0, .ref (ad G 0)), (1, .int a1), (2, .int a2)]) hD (by decide) rfl (Nat.le_of_ble_eq_true rfl) rfl ?_
  intro X Q hl C hQ h
  subst hl
  replace C : Cx G X cX7_mayCome RX7 wsX7_mayCome 3 rm_X7_mayCome := C
  unfold w_X7_mayCome at h
  refine j_aload_n C 0 dX7_mayCome_0 rfl ?_
  refine j_getR C 0 1 sh_0 (by decide) cl_X7 (by decide) rfl in_X7_mayCome_X7 lk_X7_mayCome_19 rfl dX7_mayCome_1 ?_
  refine j_cNI (n := 0) (rest := []) C 2 (c_X1_hasRoom (xl X) G C.2.2.1 _ μ) h gX7_mayCome_X1_hasRoom_n292 nm_X7_mayCome_292 wd_X7_mayCome_ini_X1 wd_X7_mayCome_im_X1_hasRoom wd_X7_mayCome_se_X1_hasRoom rfl ⟨rfl, rfl⟩ (by decide +kernel) ⟨by decide, by decide⟩ ⟨by decide, by decide⟩ sh_2 (by decide) cl_X1 rfl rfl (Nat.le_of_ble_eq_true rfl) dX7_mayCome_4 rfl rfl (fun r2 μ1 h => ?_)
  refine j_if_eq C 23 dX7_mayCome_7 (by decide) (fun c6 => ?_) (fun c6 => ?_)
  · replace h := h.1 c6
    refine j_iconst (v := 0) C dX7_mayCome_23 (by decide) ?_
    exact j_zret C hQ (by decide) (by decide) rfl h dX7_mayCome_24
  · replace h := h.2 c6
    refine j_aload_n C 0 dX7_mayCome_10 rfl ?_
    refine j_iload_n C 1 dX7_mayCome_11 rfl ?_
    refine j_iload_n C 2 dX7_mayCome_12 rfl ?_
    refine j_cVI (n := 2) (rest := []) C 0 (c_X7_isFreeName (xl X) G C.2.2.1 _ a1 a2 μ1) h gX7_mayCome_X7_isFreeName rfl ⟨rfl, rfl⟩ (by decide +kernel) ⟨by decide, by decide⟩ ⟨by decide, by decide⟩ sh_0 (by decide) cl_X7 rfl rfl (Nat.le_of_ble_eq_true rfl) dX7_mayCome_13 rfl rfl (fun r4 μ3 h => ?_)
    refine j_if_eq C 23 dX7_mayCome_16 (by decide) (fun c5 => ?_) (fun c5 => ?_)
    · replace h := h.1 c5
      refine j_iconst (v := 0) C dX7_mayCome_23 (by decide) ?_
      exact j_zret C hQ (by decide) (by decide) rfl h dX7_mayCome_24
    · replace h := h.2 c5
      refine j_iconst (v := 1) C dX7_mayCome_19 (by decide) ?_
      refine j_goto C 24 dX7_mayCome_20 (by decide) ?_
      exact j_zret C hQ (by decide) (by decide) rfl h dX7_mayCome_24
/-! X7_needFolder -/
abbrev rm_X7_needFolder : Room := { frames := 6, cells := 1, slots := 6, locals := 82 }
theorem in_X7_needFolder_X7 : ∀ w ∈ wsX70, w ∈ wsX7_needFolder := by decide +kernel
theorem lk_X7_needFolder_10 : Cond.fieldLink RX7 10 "SameAgain" "folders" "LSameAgain$Folders;" ∈ wsX7_needFolder := by decide +kernel
theorem wd_X7_needFolder_ini_X3 : Cond.initialized RX3 ∈ wsX7_needFolder := by decide +kernel
theorem wd_X7_needFolder_im_X3_has : Cond.instanceMethod yX3_has ∈ wsX7_needFolder := by decide +kernel
theorem wd_X7_needFolder_se_X3_has : Cond.selects RX3 yX3_has yX3_has ∈ wsX7_needFolder := by decide +kernel
theorem nm_X7_needFolder_284 : (RX7, 284, yX3_has, "SameAgain") ∈ nwM := by decide +kernel
theorem hat_X7_needFolder_nse : ∀ w ∈ vz_nse.filter goodWord, w ∈ wsX7_needFolder := fun w hw => List.mem_cons_of_mem _ (List.mem_append_right _ hw)
theorem wd_X7_needFolder_cl159 : Cond.classLink RX7 159 "java/util/NoSuchElementException" ∈ wsX7_needFolder := by decide +kernel
theorem wd_X7_needFolder_in_nse : Cond.initialized "java/util/NoSuchElementException" ∈ wsX7_needFolder := by decide +kernel
set_option maxHeartbeats 4000000 in
set_option maxRecDepth 100000 in
theorem c_X7_needFolder (l : Launch) (G : Gt) (hD : Dj G) (hs : l.stackTraces = false) (post : Mem → Prop) (xq : XP) (a1 : Int32) (μ : Mem) : XV G l yX7_needFolder wsX7_needFolder rm_X7_needFolder 1 6 [.ref (ad G 0), .int a1] μ (w_X7_needFolder post xq a1 μ) post xq := by
  refine xV_of (cc := cX7_needFolder) (maxL := 2) (lv0 := [(0, .ref (ad G 0)), (1, .int a1)]) hD hs (by decide) rfl (Nat.le_of_ble_eq_true rfl) rfl ?_
  intro X Q hl C hQ hX h
  subst hl
  replace C : Cx G X cX7_needFolder RX7 wsX7_needFolder 2 rm_X7_needFolder := C
  unfold w_X7_needFolder at h
  refine j_aload_n C 0 dX7_needFolder_0 rfl ?_
  refine j_getR C 0 0 sh_0 (by decide) cl_X7 (by decide) rfl in_X7_needFolder_X7 lk_X7_needFolder_10 rfl dX7_needFolder_1 ?_
  refine j_iload_n C 1 dX7_needFolder_4 rfl ?_
  refine j_cNI (n := 1) (rest := []) C 1 (c_X3_has (xl X) G C.2.2.1 _ a1 μ) h gX7_needFolder_X3_has_n284 nm_X7_needFolder_284 wd_X7_needFolder_ini_X3 wd_X7_needFolder_im_X3_has wd_X7_needFolder_se_X3_has rfl ⟨rfl, rfl⟩ (by decide +kernel) ⟨by decide, by decide⟩ ⟨by decide, by decide⟩ sh_1 (by decide) cl_X3 rfl rfl (Nat.le_of_ble_eq_true rfl) dX7_needFolder_5 rfl rfl (fun r2 μ1 h => ?_)
  refine j_if_ne C 22 dX7_needFolder_8 (by decide) (fun c3 => ?_) (fun c3 => ?_)
  · replace h := h.1 c3
    exact j_vret C hQ (by decide) (by decide) h dX7_needFolder_22
  · replace h := h.2 c3
    exact j_thr (text := "no such folder") C hX (by decide) b0_nse b1_nse b2_nse b5_nse wd_X7_needFolder_cl159 wd_X7_needFolder_in_nse (by decide +kernel) hat_X7_needFolder_nse hng_nse hgo_nse dX7_needFolder_11 dX7_needFolder_14 (Or.inr ⟨dX7_needFolder_15, rfl⟩) dX7_needFolder_18 dX7_needFolder_21 (by decide) (Nat.le_of_ble_eq_true rfl) (by decide) (by decide) (by decide) (by decide) h
/-! X7_copy -/
abbrev rm_X7_copy : Room := { frames := 7, cells := 2, slots := 12, locals := 103 }
theorem in_X7_copy_X7 : ∀ w ∈ wsX70, w ∈ wsX7_copy := by decide +kernel
theorem lk_X7_copy_26 : Cond.fieldLink RX7 26 "SameAgain" "bodies" "LSameAgain$Bodies;" ∈ wsX7_copy := by decide +kernel
theorem wd_X7_copy_ini_X0 : Cond.initialized RX0 ∈ wsX7_copy := by decide +kernel
theorem wd_X7_copy_im_X0_hasRoomFor : Cond.instanceMethod yX0_hasRoomFor ∈ wsX7_copy := by decide +kernel
theorem wd_X7_copy_se_X0_hasRoomFor : Cond.selects RX0 yX0_hasRoomFor yX0_hasRoomFor ∈ wsX7_copy := by decide +kernel
theorem nm_X7_copy_102 : (RX7, 102, yX0_hasRoomFor, "SameAgain") ∈ nwM := by decide +kernel
theorem lk_X7_copy_19 : Cond.fieldLink RX7 19 "SameAgain" "files" "LSameAgain$Files;" ∈ wsX7_copy := by decide +kernel
theorem in_X7_copy_X1 : ∀ w ∈ wsX10, w ∈ wsX7_copy := by decide +kernel
theorem lk_X7_copy_112 : (RX7, 112, "SameAgain$Files", "body", "[I", "SameAgain") ∈ nwF := by decide +kernel
theorem in_X7_copy_X0 : ∀ w ∈ wsX00, w ∈ wsX7_copy := by decide +kernel
theorem lk_X7_copy_115 : (RX7, 115, "SameAgain$Bodies", "owner", "[I", "SameAgain") ∈ nwF := by decide +kernel
theorem lk_X7_copy_69 : Cond.fieldLink RX7 69 "SameAgain" "day" "I" ∈ wsX7_copy := by decide +kernel
theorem wd_X7_copy_im_X0_makeLike : Cond.instanceMethod yX0_makeLike ∈ wsX7_copy := by decide +kernel
theorem wd_X7_copy_se_X0_makeLike : Cond.selects RX0 yX0_makeLike yX0_makeLike ∈ wsX7_copy := by decide +kernel
theorem nm_X7_copy_118 : (RX7, 118, yX0_makeLike, "SameAgain") ∈ nwM := by decide +kernel
theorem wd_X7_copy_ini_X1 : Cond.initialized RX1 ∈ wsX7_copy := by decide +kernel
theorem wd_X7_copy_im_X1_make : Cond.instanceMethod yX1_make ∈ wsX7_copy := by decide +kernel
theorem wd_X7_copy_se_X1_make : Cond.selects RX1 yX1_make yX1_make ∈ wsX7_copy := by decide +kernel
theorem nm_X7_copy_108 : (RX7, 108, yX1_make, "SameAgain") ∈ nwM := by decide +kernel
set_option maxHeartbeats 4000000 in
set_option maxRecDepth 100000 in
theorem c_X7_copy (l : Launch) (G : Gt) (hD : Dj G) (hs : l.stackTraces = false) (post : Int32 → Mem → Prop) (xq : XP) (a1 a2 a3 : Int32) (μ : Mem) : XI G l yX7_copy wsX7_copy rm_X7_copy 2 12 [.ref (ad G 0), .int a1, .int a2, .int a3] μ (w_X7_copy post xq a1 a2 a3 μ) post xq := by
  refine xI_of (cc := cX7_copy) (maxL := 5) (ty := .int) (lv0 := [(0, .ref (ad G 0)), (1, .int a1), (2, .int a2), (3, .int a3)]) hD hs (by decide) rfl (Nat.le_of_ble_eq_true rfl) rfl ?_
  intro X Q hl C hQ hX h
  subst hl
  replace C : Cx G X cX7_copy RX7 wsX7_copy 5 rm_X7_copy := C
  unfold w_X7_copy at h
  refine j_aload_n C 0 dX7_copy_0 rfl ?_
  refine j_iload_n C 1 dX7_copy_1 rfl ?_
  refine j_xVV (n := 1) (rest := []) C hX 0 (c_X7_needFile (xl X) G C.2.2.1 hX.2.2 _ xq a1 μ) h gX7_copy_X7_needFile rfl ⟨rfl, rfl⟩ (by decide +kernel) ⟨by decide, by decide⟩ ⟨by decide, by decide⟩ ⟨by decide, by decide⟩ sh_0 (by decide) cl_X7 rfl rfl (Nat.le_of_ble_eq_true rfl) dX7_copy_2 rfl rfl (fun μ1 h => ?_)
  refine j_aload_n C 0 dX7_copy_5 rfl ?_
  refine j_iload_n C 2 dX7_copy_6 rfl ?_
  refine j_xVV (n := 1) (rest := []) C hX 0 (c_X7_needFolder (xl X) G C.2.2.1 hX.2.2 _ xq a2 μ1) h gX7_copy_X7_needFolder rfl ⟨rfl, rfl⟩ (by decide +kernel) ⟨by decide, by decide⟩ ⟨by decide, by decide⟩ ⟨by decide, by decide⟩ sh_0 (by decide) cl_X7 rfl rfl (Nat.le_of_ble_eq_true rfl) dX7_copy_7 rfl rfl (fun μ2 h => ?_)
  refine j_aload_n C 0 dX7_copy_10 rfl ?_
  refine j_iload_n C 2 dX7_copy_11 rfl ?_
  refine j_iload_n C 3 dX7_copy_12 rfl ?_
  refine j_cVI (n := 2) (rest := []) C 0 (c_X7_mayCome (xl X) G C.2.2.1 _ a2 a3 μ2) h gX7_copy_X7_mayCome rfl ⟨rfl, rfl⟩ (by decide +kernel) ⟨by decide, by decide⟩ ⟨by decide, by decide⟩ sh_0 (by decide) cl_X7 rfl rfl (Nat.le_of_ble_eq_true rfl) dX7_copy_13 rfl rfl (fun r4 μ3 h => ?_)
  refine j_if_eq C 30 dX7_copy_16 (by decide) (fun c14 => ?_) (fun c14 => ?_)
  · replace h := h.1 c14
    refine j_iconst (v := -1) C dX7_copy_30 (by decide) ?_
    exact j_iret C hQ (by decide) (by decide) h dX7_copy_31
  · replace h := h.2 c14
    refine j_aload_n C 0 dX7_copy_19 rfl ?_
    refine j_getR C 0 2 sh_0 (by decide) cl_X7 (by decide) rfl in_X7_copy_X7 lk_X7_copy_26 rfl dX7_copy_20 ?_
    refine j_iconst (v := 1) C dX7_copy_23 (by decide) ?_
    refine j_cNI (n := 1) (rest := []) C 3 (c_X0_hasRoomFor (xl X) G C.2.2.1 _ (1 : Int32) μ3) h gX7_copy_X0_hasRoomFor_n102 nm_X7_copy_102 wd_X7_copy_ini_X0 wd_X7_copy_im_X0_hasRoomFor wd_X7_copy_se_X0_hasRoomFor rfl ⟨rfl, rfl⟩ (by decide +kernel) ⟨by decide, by decide⟩ ⟨by decide, by decide⟩ sh_3 (by decide) cl_X0 rfl rfl (Nat.le_of_ble_eq_true rfl) dX7_copy_24 rfl rfl (fun r6 μ5 h => ?_)
    refine j_if_ne C 32 dX7_copy_27 (by decide) (fun c13 => ?_) (fun c13 => ?_)
    · replace h := h.1 c13
      refine j_aload_n C 0 dX7_copy_32 rfl ?_
      refine j_getR C 0 1 sh_0 (by decide) cl_X7 (by decide) rfl in_X7_copy_X7 lk_X7_copy_19 rfl dX7_copy_33 ?_
      refine j_getRN C 2 2 sh_2 (by decide) cl_X1 (by decide) rfl in_X7_copy_X1 lk_X7_copy_112 rfl dX7_copy_36 ?_
      refine j_iload_n C 1 dX7_copy_39 rfl ?_
      have b7 := h.1
      replace h := h.2
      refine j_iald C 16 sh_16 (by decide) b7 dX7_copy_40 ?_
      refine j_istore (lv' := [(0, .ref (ad G 0)), (1, .int a1), (2, .int a2), (3, .int a3), (4, .int (μ5 16 (ix a1)))]) C dX7_copy_41 (by decide) rfl rfl ?_
      refine j_aload_n C 0 dX7_copy_43 rfl ?_
      refine j_getR C 0 1 sh_0 (by decide) cl_X7 (by decide) rfl in_X7_copy_X7 lk_X7_copy_19 rfl dX7_copy_44 ?_
      refine j_iload_n C 2 dX7_copy_47 rfl ?_
      refine j_iload_n C 3 dX7_copy_48 rfl ?_
      refine j_aload_n C 0 dX7_copy_49 rfl ?_
      refine j_getR C 0 2 sh_0 (by decide) cl_X7 (by decide) rfl in_X7_copy_X7 lk_X7_copy_26 rfl dX7_copy_50 ?_
      refine j_iload C 4 dX7_copy_53 rfl ?_
      refine j_aload_n C 0 dX7_copy_55 rfl ?_
      refine j_getR C 0 2 sh_0 (by decide) cl_X7 (by decide) rfl in_X7_copy_X7 lk_X7_copy_26 rfl dX7_copy_56 ?_
      refine j_getRN C 3 2 sh_3 (by decide) cl_X0 (by decide) rfl in_X7_copy_X0 lk_X7_copy_115 rfl dX7_copy_59 ?_
      refine j_iload C 4 dX7_copy_62 rfl ?_
      have b8 := h.1
      replace h := h.2
      refine j_iald C 20 sh_20 (by decide) b8 dX7_copy_64 ?_
      refine j_aload_n C 0 dX7_copy_65 rfl ?_
      refine j_getI C 0 10 sh_0 (by decide) cl_X7 (by decide) rfl in_X7_copy_X7 lk_X7_copy_69 rfl dX7_copy_66 ?_
      refine j_cNI (n := 3) (rest := [.int a3, .int a2, .ref (ad G 2)]) C 3 (c_X0_makeLike (xl X) G C.2.2.1 _ (μ5 16 (ix a1)) (μ5 20 (ix (μ5 16 (ix a1)))) (μ5 0 10) μ5) h gX7_copy_X0_makeLike_n118 nm_X7_copy_118 wd_X7_copy_ini_X0 wd_X7_copy_im_X0_makeLike wd_X7_copy_se_X0_makeLike rfl ⟨rfl, rfl⟩ (by decide +kernel) ⟨by decide, by decide⟩ ⟨by decide, by decide⟩ sh_3 (by decide) cl_X0 rfl rfl (Nat.le_of_ble_eq_true rfl) dX7_copy_69 rfl rfl (fun r10 μ9 h => ?_)
      refine j_cNI (n := 3) (rest := []) C 2 (c_X1_make (xl X) G C.2.2.1 _ a2 a3 r10 μ9) h gX7_copy_X1_make_n108 nm_X7_copy_108 wd_X7_copy_ini_X1 wd_X7_copy_im_X1_make wd_X7_copy_se_X1_make rfl ⟨rfl, rfl⟩ (by decide +kernel) ⟨by decide, by decide⟩ ⟨by decide, by decide⟩ sh_2 (by decide) cl_X1 rfl rfl (Nat.le_of_ble_eq_true rfl) dX7_copy_72 rfl rfl (fun r12 μ11 h => ?_)
      exact j_iret C hQ (by decide) (by decide) h dX7_copy_75
    · replace h := h.2 c13
      refine j_iconst (v := -1) C dX7_copy_30 (by decide) ?_
      exact j_iret C hQ (by decide) (by decide) h dX7_copy_31
/-! X7_count -/
abbrev rm_X7_count : Room := { frames := 6, cells := 1, slots := 6, locals := 82 }
theorem in_X7_count_X7 : ∀ w ∈ wsX70, w ∈ wsX7_count := by decide +kernel
theorem lk_X7_count_10 : Cond.fieldLink RX7 10 "SameAgain" "folders" "LSameAgain$Folders;" ∈ wsX7_count := by decide +kernel
theorem in_X7_count_X3 : ∀ w ∈ wsX30, w ∈ wsX7_count := by decide +kernel
theorem lk_X7_count_220 : (RX7, 220, "SameAgain$Folders", "made", "I", "SameAgain") ∈ nwF := by decide +kernel
theorem lk_X7_count_19 : Cond.fieldLink RX7 19 "SameAgain" "files" "LSameAgain$Files;" ∈ wsX7_count := by decide +kernel
theorem wd_X7_count_ini_X1 : Cond.initialized RX1 ∈ wsX7_count := by decide +kernel
theorem wd_X7_count_im_X1_there : Cond.instanceMethod yX1_there ∈ wsX7_count := by decide +kernel
theorem wd_X7_count_se_X1_there : Cond.selects RX1 yX1_there yX1_there ∈ wsX7_count := by decide +kernel
theorem nm_X7_count_271 : (RX7, 271, yX1_there, "SameAgain") ∈ nwM := by decide +kernel
theorem lk_X7_count_73 : Cond.fieldLink RX7 73 "SameAgain" "freed" "I" ∈ wsX7_count := by decide +kernel
theorem lk_X7_count_57 : Cond.fieldLink RX7 57 "SameAgain" "mergings" "LSameAgain$Mergings;" ∈ wsX7_count := by decide +kernel
theorem in_X7_count_X4 : ∀ w ∈ wsX40, w ∈ wsX7_count := by decide +kernel
theorem lk_X7_count_254 : (RX7, 254, "SameAgain$Mergings", "many", "I", "SameAgain") ∈ nwF := by decide +kernel
theorem lk_X7_count_69 : Cond.fieldLink RX7 69 "SameAgain" "day" "I" ∈ wsX7_count := by decide +kernel
theorem lk_X7_count_26 : Cond.fieldLink RX7 26 "SameAgain" "bodies" "LSameAgain$Bodies;" ∈ wsX7_count := by decide +kernel
theorem in_X7_count_X0 : ∀ w ∈ wsX00, w ∈ wsX7_count := by decide +kernel
theorem lk_X7_count_281 : (RX7, 281, "SameAgain$Bodies", "made", "I", "SameAgain") ∈ nwF := by decide +kernel
theorem hat_X7_count_nse : ∀ w ∈ vz_nse.filter goodWord, w ∈ wsX7_count := fun w hw => List.mem_cons_of_mem _ (List.mem_append_right _ hw)
theorem wd_X7_count_cl159 : Cond.classLink RX7 159 "java/util/NoSuchElementException" ∈ wsX7_count := by decide +kernel
theorem wd_X7_count_in_nse : Cond.initialized "java/util/NoSuchElementException" ∈ wsX7_count := by decide +kernel
set_option maxHeartbeats 4000000 in
set_option maxRecDepth 100000 in
theorem c_X7_count (l : Launch) (G : Gt) (hD : Dj G) (hs : l.stackTraces = false) (post : Int32 → Mem → Prop) (xq : XP) (a1 : Int32) (μ : Mem) : XI G l yX7_count wsX7_count rm_X7_count 1 6 [.ref (ad G 0), .int a1] μ (w_X7_count post xq a1 μ) post xq := by
  refine xI_of (cc := cX7_count) (maxL := 2) (ty := .int) (lv0 := [(0, .ref (ad G 0)), (1, .int a1)]) hD hs (by decide) rfl (Nat.le_of_ble_eq_true rfl) rfl ?_
  intro X Q hl C hQ hX h
  subst hl
  replace C : Cx G X cX7_count RX7 wsX7_count 2 rm_X7_count := C
  unfold w_X7_count at h
  refine j_iload_n C 1 dX7_count_0 rfl ?_
  refine j_case (x := a1) (v := 0) (fun c1 => ?_) (fun c1 => ?_)
  · replace h := h.1 c1
    refine j_tsIn C 48 dX7_count_1 c1 (by decide) (by decide) rfl (by decide) ?_
    refine j_aload_n C 0 dX7_count_48 rfl ?_
    refine j_getR C 0 0 sh_0 (by decide) cl_X7 (by decide) rfl in_X7_count_X7 lk_X7_count_10 rfl dX7_count_49 ?_
    refine j_getIN C 1 3 sh_1 (by decide) cl_X3 (by decide) rfl in_X7_count_X3 lk_X7_count_220 rfl dX7_count_52 ?_
    exact j_iret C hQ (by decide) (by decide) h dX7_count_55
  · replace h := h.2 c1
    refine j_case (x := a1) (v := 1) (fun c4 => ?_) (fun c4 => ?_)
    · replace h := h.1 c4
      refine j_tsIn C 56 dX7_count_1 c4 (by decide) (by decide) rfl (by decide) ?_
      refine j_aload_n C 0 dX7_count_56 rfl ?_
      refine j_getR C 0 1 sh_0 (by decide) cl_X7 (by decide) rfl in_X7_count_X7 lk_X7_count_19 rfl dX7_count_57 ?_
      refine j_cNI (n := 0) (rest := []) C 2 (c_X1_there (xl X) G C.2.2.1 _ μ) h gX7_count_X1_there_n271 nm_X7_count_271 wd_X7_count_ini_X1 wd_X7_count_im_X1_there wd_X7_count_se_X1_there rfl ⟨rfl, rfl⟩ (by decide +kernel) ⟨by decide, by decide⟩ ⟨by decide, by decide⟩ sh_2 (by decide) cl_X1 rfl rfl (Nat.le_of_ble_eq_true rfl) dX7_count_60 rfl rfl (fun r3 μ2 h => ?_)
      exact j_iret C hQ (by decide) (by decide) h dX7_count_63
    · replace h := h.2 c4
      refine j_case (x := a1) (v := 2) (fun c7 => ?_) (fun c7 => ?_)
      · replace h := h.1 c7
        refine j_tsIn C 64 dX7_count_1 c7 (by decide) (by decide) rfl (by decide) ?_
        refine j_aload_n C 0 dX7_count_64 rfl ?_
        refine j_cVI (n := 0) (rest := []) C 0 (c_X7_bodiesThere (xl X) G C.2.2.1 _ μ) h gX7_count_X7_bodiesThere rfl ⟨rfl, rfl⟩ (by decide +kernel) ⟨by decide, by decide⟩ ⟨by decide, by decide⟩ sh_0 (by decide) cl_X7 rfl rfl (Nat.le_of_ble_eq_true rfl) dX7_count_65 rfl rfl (fun r6 μ5 h => ?_)
        exact j_iret C hQ (by decide) (by decide) h dX7_count_68
      · replace h := h.2 c7
        refine j_case (x := a1) (v := 3) (fun c10 => ?_) (fun c10 => ?_)
        · replace h := h.1 c10
          refine j_tsIn C 69 dX7_count_1 c10 (by decide) (by decide) rfl (by decide) ?_
          refine j_aload_n C 0 dX7_count_69 rfl ?_
          refine j_cVI (n := 0) (rest := []) C 0 (c_X7_bytesThere (xl X) G C.2.2.1 _ μ) h gX7_count_X7_bytesThere rfl ⟨rfl, rfl⟩ (by decide +kernel) ⟨by decide, by decide⟩ ⟨by decide, by decide⟩ sh_0 (by decide) cl_X7 rfl rfl (Nat.le_of_ble_eq_true rfl) dX7_count_70 rfl rfl (fun r9 μ8 h => ?_)
          exact j_iret C hQ (by decide) (by decide) h dX7_count_73
        · replace h := h.2 c10
          refine j_case (x := a1) (v := 4) (fun c11 => ?_) (fun c11 => ?_)
          · replace h := h.1 c11
            refine j_tsIn C 74 dX7_count_1 c11 (by decide) (by decide) rfl (by decide) ?_
            refine j_aload_n C 0 dX7_count_74 rfl ?_
            refine j_getI C 0 11 sh_0 (by decide) cl_X7 (by decide) rfl in_X7_count_X7 lk_X7_count_73 rfl dX7_count_75 ?_
            exact j_iret C hQ (by decide) (by decide) h dX7_count_78
          · replace h := h.2 c11
            refine j_case (x := a1) (v := 5) (fun c12 => ?_) (fun c12 => ?_)
            · replace h := h.1 c12
              refine j_tsIn C 79 dX7_count_1 c12 (by decide) (by decide) rfl (by decide) ?_
              refine j_aload_n C 0 dX7_count_79 rfl ?_
              refine j_getR C 0 7 sh_0 (by decide) cl_X7 (by decide) rfl in_X7_count_X7 lk_X7_count_57 rfl dX7_count_80 ?_
              refine j_getIN C 8 3 sh_8 (by decide) cl_X4 (by decide) rfl in_X7_count_X4 lk_X7_count_254 rfl dX7_count_83 ?_
              exact j_iret C hQ (by decide) (by decide) h dX7_count_86
            · replace h := h.2 c12
              refine j_case (x := a1) (v := 6) (fun c13 => ?_) (fun c13 => ?_)
              · replace h := h.1 c13
                refine j_tsIn C 87 dX7_count_1 c13 (by decide) (by decide) rfl (by decide) ?_
                refine j_aload_n C 0 dX7_count_87 rfl ?_
                refine j_getI C 0 10 sh_0 (by decide) cl_X7 (by decide) rfl in_X7_count_X7 lk_X7_count_69 rfl dX7_count_88 ?_
                exact j_iret C hQ (by decide) (by decide) h dX7_count_91
              · replace h := h.2 c13
                refine j_case (x := a1) (v := 7) (fun c14 => ?_) (fun c14 => ?_)
                · replace h := h.1 c14
                  refine j_tsIn C 92 dX7_count_1 c14 (by decide) (by decide) rfl (by decide) ?_
                  refine j_aload_n C 0 dX7_count_92 rfl ?_
                  refine j_getR C 0 2 sh_0 (by decide) cl_X7 (by decide) rfl in_X7_count_X7 lk_X7_count_26 rfl dX7_count_93 ?_
                  refine j_getIN C 3 4 sh_3 (by decide) cl_X0 (by decide) rfl in_X7_count_X0 lk_X7_count_281 rfl dX7_count_96 ?_
                  exact j_iret C hQ (by decide) (by decide) h dX7_count_99
                · replace h := h.2 c14
                  refine j_tsOut C 100 dX7_count_1 ?_ (by decide) ?_
                  · have z0 := lv_neT (a := 0) c1 (by decide); have z1 := lv_neT (a := 1) c4 (by decide); have z2 := lv_neT (a := 2) c7 (by decide); have z3 := lv_neT (a := 3) c10 (by decide); have z4 := lv_neT (a := 4) c11 (by decide); have z5 := lv_neT (a := 5) c12 (by decide); have z6 := lv_neT (a := 6) c13 (by decide); have z7 := lv_neT (a := 7) c14 (by decide); omega
                  · exact j_thr (text := "nothing such is counted") C hX (by decide) b0_nse b1_nse b2_nse b5_nse wd_X7_count_cl159 wd_X7_count_in_nse (by decide +kernel) hat_X7_count_nse hng_nse hgo_nse dX7_count_100 dX7_count_103 (Or.inr ⟨dX7_count_104, rfl⟩) dX7_count_107 dX7_count_110 (by decide) (Nat.le_of_ble_eq_true rfl) (by decide) (by decide) (by decide) (by decide) h
/-! X7_days -/
abbrev rm_X7_days : Room := { frames := 6, cells := 1, slots := 6, locals := 82 }
theorem hat_X7_days_iae : ∀ w ∈ vz_iae.filter goodWord, w ∈ wsX7_days := fun w hw => List.mem_cons_of_mem _ (List.mem_append_right _ hw)
theorem wd_X7_days_cl143 : Cond.classLink RX7 143 "java/lang/IllegalArgumentException" ∈ wsX7_days := by decide +kernel
theorem wd_X7_days_in_iae : Cond.initialized "java/lang/IllegalArgumentException" ∈ wsX7_days := by decide +kernel
theorem in_X7_days_X7 : ∀ w ∈ wsX70, w ∈ wsX7_days := by decide +kernel
theorem lk_X7_days_69 : Cond.fieldLink RX7 69 "SameAgain" "day" "I" ∈ wsX7_days := by decide +kernel
set_option maxHeartbeats 4000000 in
set_option maxRecDepth 100000 in
theorem w_X7_days_b11_j {G : Gt} {X : Cxt} {Q : State → Prop} (C : Cx G X cX7_days RX7 wsX7_days 2 rm_X7_days) {post : Int32 → Mem → Prop} (hQ : RetI G X Q post .int 1 6) {xq : XP} (hX : Xq G X Q xq 1 6) {μ : Mem} (h : w_X7_days_b11 post xq μ) : J G X Q 2 0 0 11 [] [] μ := by
  unfold w_X7_days_b11 at h
  exact j_thr (text := "n is not 0 to 1000") C hX (by decide) b0_iae b1_iae b2_iae b5_iae wd_X7_days_cl143 wd_X7_days_in_iae (by decide +kernel) hat_X7_days_iae hng_iae hgo_iae dX7_days_11 dX7_days_14 (Or.inr ⟨dX7_days_15, rfl⟩) dX7_days_18 dX7_days_21 (by decide) (Nat.le_of_ble_eq_true rfl) (by decide) (by decide) (by decide) (by decide) h
set_option maxHeartbeats 4000000 in
set_option maxRecDepth 100000 in
theorem c_X7_days (l : Launch) (G : Gt) (hD : Dj G) (hs : l.stackTraces = false) (post : Int32 → Mem → Prop) (xq : XP) (a1 : Int32) (μ : Mem) : XI G l yX7_days wsX7_days rm_X7_days 1 6 [.ref (ad G 0), .int a1] μ (w_X7_days post xq a1 μ) post xq := by
  refine xI_of (cc := cX7_days) (maxL := 2) (ty := .int) (lv0 := [(0, .ref (ad G 0)), (1, .int a1)]) hD hs (by decide) rfl (Nat.le_of_ble_eq_true rfl) rfl ?_
  intro X Q hl C hQ hX h
  subst hl
  replace C : Cx G X cX7_days RX7 wsX7_days 2 rm_X7_days := C
  unfold w_X7_days at h
  refine j_iload_n C 1 dX7_days_0 rfl ?_
  refine j_if_lt C 11 dX7_days_1 (by decide) (fun c4 => ?_) (fun c4 => ?_)
  · replace h := h.1 c4
    refine j_forget [] rfl ?_
    exact w_X7_days_b11_j C hQ hX h
  · replace h := h.2 c4
    refine j_iload_n C 1 dX7_days_4 rfl ?_
    refine j_sipush (v := 1000) C dX7_days_5 (by decide) ?_
    refine j_icmp_le C 22 dX7_days_8 (by decide) (fun c3 => ?_) (fun c3 => ?_)
    · replace h := h.1 c3
      refine j_aload_n C 0 dX7_days_22 rfl ?_
      refine j_dup C dX7_days_23 rfl ?_
      refine j_getI C 0 10 sh_0 (by decide) cl_X7 (by decide) rfl in_X7_days_X7 lk_X7_days_69 rfl dX7_days_24 ?_
      refine j_iload_n C 1 dX7_days_27 rfl ?_
      refine j_iadd C dX7_days_28 ?_
      obtain ⟨μ1, e2⟩ : ∃ m, m = wr μ 0 10 ((μ 0 10) + a1) := ⟨_, rfl⟩
      replace h := h μ1 e2
      refine j_put C 0 10 sh_0 (by decide) cl_X7 (by decide) rfl in_X7_days_X7 lk_X7_days_69 rfl tyX7_ok nmX7 rfl rfl dX7_days_29 e2 ?_
      refine j_aload_n C 0 dX7_days_32 rfl ?_
      refine j_getI C 0 10 sh_0 (by decide) cl_X7 (by decide) rfl in_X7_days_X7 lk_X7_days_69 rfl dX7_days_33 ?_
      exact j_iret C hQ (by decide) (by decide) h dX7_days_36
    · replace h := h.2 c3
      refine j_forget [] rfl ?_
      exact w_X7_days_b11_j C hQ hX h
/-! X7_fileDifferences -/
abbrev rm_X7_fileDifferences : Room := { frames := 3, cells := 0, slots := 0, locals := 69 }
theorem in_X7_fileDifferences_X7 : ∀ w ∈ wsX70, w ∈ wsX7_fileDifferences := by decide +kernel
theorem lk_X7_fileDifferences_19 : Cond.fieldLink RX7 19 "SameAgain" "files" "LSameAgain$Files;" ∈ wsX7_fileDifferences := by decide +kernel
theorem in_X7_fileDifferences_X1 : ∀ w ∈ wsX10, w ∈ wsX7_fileDifferences := by decide +kernel
theorem lk_X7_fileDifferences_190 : (RX7, 190, "SameAgain$Files", "made", "I", "SameAgain") ∈ nwF := by decide +kernel
theorem wd_X7_fileDifferences_ini_X1 : Cond.initialized RX1 ∈ wsX7_fileDifferences := by decide +kernel
theorem wd_X7_fileDifferences_im_X1_isIn : Cond.instanceMethod yX1_isIn ∈ wsX7_fileDifferences := by decide +kernel
theorem wd_X7_fileDifferences_se_X1_isIn : Cond.selects RX1 yX1_isIn yX1_isIn ∈ wsX7_fileDifferences := by decide +kernel
theorem nm_X7_fileDifferences_299 : (RX7, 299, yX1_isIn, "SameAgain") ∈ nwM := by decide +kernel
theorem lk_X7_fileDifferences_127 : (RX7, 127, "SameAgain$Files", "name", "[I", "SameAgain") ∈ nwF := by decide +kernel
theorem wd_X7_fileDifferences_im_X1_named : Cond.instanceMethod yX1_named ∈ wsX7_fileDifferences := by decide +kernel
theorem wd_X7_fileDifferences_se_X1_named : Cond.selects RX1 yX1_named yX1_named ∈ wsX7_fileDifferences := by decide +kernel
theorem nm_X7_fileDifferences_291 : (RX7, 291, yX1_named, "SameAgain") ∈ nwM := by decide +kernel
theorem lk_X7_fileDifferences_26 : Cond.fieldLink RX7 26 "SameAgain" "bodies" "LSameAgain$Bodies;" ∈ wsX7_fileDifferences := by decide +kernel
theorem lk_X7_fileDifferences_112 : (RX7, 112, "SameAgain$Files", "body", "[I", "SameAgain") ∈ nwF := by decide +kernel
theorem wd_X7_fileDifferences_ini_X0 : Cond.initialized RX0 ∈ wsX7_fileDifferences := by decide +kernel
theorem wd_X7_fileDifferences_im_X0_areAlike : Cond.instanceMethod yX0_areAlike ∈ wsX7_fileDifferences := by decide +kernel
theorem wd_X7_fileDifferences_se_X0_areAlike : Cond.selects RX0 yX0_areAlike yX0_areAlike ∈ wsX7_fileDifferences := by decide +kernel
theorem nm_X7_fileDifferences_302 : (RX7, 302, yX0_areAlike, "SameAgain") ∈ nwM := by decide +kernel
set_option maxHeartbeats 4000000 in
set_option maxRecDepth 100000 in
theorem w_X7_fileDifferences_b89_j {G : Gt} {X : Cxt} {Q : State → Prop} (C : Cx G X cX7_fileDifferences RX7 wsX7_fileDifferences 6 rm_X7_fileDifferences) {post : Int32 → Mem → Prop} (hQ : RetI G X Q post .int 0 0) {k5 : Int32 → Int32 → Int32 → Int32 → Mem → Prop} (hk5 : ∀ (v1 v2 v3 v4 : Int32) (μ : Mem), k5 v1 v2 v3 v4 μ → J G X Q 6 0 0 5 [(0, .ref (ad G 0)), (1, .int v1), (2, .int v2), (3, .int v3), (4, .int v4)] [] μ) {v1 v2 v3 v4 : Int32} {μ : Mem} (h : w_X7_fileDifferences_b89 post k5 v1 v2 v3 v4 μ) : J G X Q 6 0 0 89 [(0, .ref (ad G 0)), (1, .int v1), (2, .int v2), (3, .int v3), (4, .int v4)] [] μ := by
  unfold w_X7_fileDifferences_b89 at h
  refine j_aload_n C 0 dX7_fileDifferences_89 rfl ?_
  refine j_getR C 0 1 sh_0 (by decide) cl_X7 (by decide) rfl in_X7_fileDifferences_X7 lk_X7_fileDifferences_19 rfl dX7_fileDifferences_90 ?_
  refine j_iload C 4 dX7_fileDifferences_93 rfl ?_
  refine j_iload_n C 2 dX7_fileDifferences_95 rfl ?_
  refine j_cNI (n := 2) (rest := []) C 2 (c_X1_isIn (xl X) G C.2.2.1 _ v4 v2 μ) h gX7_fileDifferences_X1_isIn_n299 nm_X7_fileDifferences_299 wd_X7_fileDifferences_ini_X1 wd_X7_fileDifferences_im_X1_isIn wd_X7_fileDifferences_se_X1_isIn rfl ⟨rfl, rfl⟩ (by decide +kernel) ⟨by decide, by decide⟩ ⟨by decide, by decide⟩ sh_2 (by decide) cl_X1 rfl rfl (Nat.le_of_ble_eq_true rfl) dX7_fileDifferences_96 rfl rfl (fun r4 μ3 h => ?_)
  refine j_if_eq C 127 dX7_fileDifferences_99 (by decide) (fun c9 => ?_) (fun c9 => ?_)
  · replace h := h.1 c9
    refine j_iinc (v := v4 + (1 : Int32)) (lv' := [(0, .ref (ad G 0)), (1, .int v1), (2, .int v2), (3, .int v3), (4, .int (v4 + (1 : Int32)))]) C 4 dX7_fileDifferences_127 rfl rfl (by decide) rfl rfl ?_
    refine j_goto C 5 dX7_fileDifferences_130 (by decide) ?_
    exact hk5 _ _ _ _ _ h
  · replace h := h.2 c9
    refine j_aload_n C 0 dX7_fileDifferences_102 rfl ?_
    refine j_getR C 0 1 sh_0 (by decide) cl_X7 (by decide) rfl in_X7_fileDifferences_X7 lk_X7_fileDifferences_19 rfl dX7_fileDifferences_103 ?_
    refine j_iload_n C 1 dX7_fileDifferences_106 rfl ?_
    refine j_aload_n C 0 dX7_fileDifferences_107 rfl ?_
    refine j_getR C 0 1 sh_0 (by decide) cl_X7 (by decide) rfl in_X7_fileDifferences_X7 lk_X7_fileDifferences_19 rfl dX7_fileDifferences_108 ?_
    refine j_getRN C 2 1 sh_2 (by decide) cl_X1 (by decide) rfl in_X7_fileDifferences_X1 lk_X7_fileDifferences_127 rfl dX7_fileDifferences_111 ?_
    refine j_iload C 4 dX7_fileDifferences_114 rfl ?_
    have b5 := h.1
    replace h := h.2
    refine j_iald C 15 sh_15 (by decide) b5 dX7_fileDifferences_116 ?_
    refine j_cNI (n := 2) (rest := []) C 2 (c_X1_named (xl X) G C.2.2.1 _ v1 (μ3 15 (ix v4)) μ3) h gX7_fileDifferences_X1_named_n291 nm_X7_fileDifferences_291 wd_X7_fileDifferences_ini_X1 wd_X7_fileDifferences_im_X1_named wd_X7_fileDifferences_se_X1_named rfl ⟨rfl, rfl⟩ (by decide +kernel) ⟨by decide, by decide⟩ ⟨by decide, by decide⟩ sh_2 (by decide) cl_X1 rfl rfl (Nat.le_of_ble_eq_true rfl) dX7_fileDifferences_117 rfl rfl (fun r7 μ6 h => ?_)
    refine j_iconst (v := -1) C dX7_fileDifferences_120 (by decide) ?_
    refine j_icmp_ne C 127 dX7_fileDifferences_121 (by decide) (fun c8 => ?_) (fun c8 => ?_)
    · replace h := h.1 c8
      refine j_iinc (v := v4 + (1 : Int32)) (lv' := [(0, .ref (ad G 0)), (1, .int v1), (2, .int v2), (3, .int v3), (4, .int (v4 + (1 : Int32)))]) C 4 dX7_fileDifferences_127 rfl rfl (by decide) rfl rfl ?_
      refine j_goto C 5 dX7_fileDifferences_130 (by decide) ?_
      exact hk5 _ _ _ _ _ h
    · replace h := h.2 c8
      refine j_iinc (v := v3 + (1 : Int32)) (lv' := [(0, .ref (ad G 0)), (1, .int v1), (2, .int v2), (3, .int (v3 + (1 : Int32))), (4, .int v4)]) C 3 dX7_fileDifferences_124 rfl rfl (by decide) rfl rfl ?_
      refine j_iinc (v := v4 + (1 : Int32)) (lv' := [(0, .ref (ad G 0)), (1, .int v1), (2, .int v2), (3, .int (v3 + (1 : Int32))), (4, .int (v4 + (1 : Int32)))]) C 4 dX7_fileDifferences_127 rfl rfl (by decide) rfl rfl ?_
      refine j_goto C 5 dX7_fileDifferences_130 (by decide) ?_
      exact hk5 _ _ _ _ _ h
set_option maxHeartbeats 4000000 in
set_option maxRecDepth 100000 in
theorem w_X7_fileDifferences_b86_j {G : Gt} {X : Cxt} {Q : State → Prop} (C : Cx G X cX7_fileDifferences RX7 wsX7_fileDifferences 6 rm_X7_fileDifferences) {post : Int32 → Mem → Prop} (hQ : RetI G X Q post .int 0 0) {k5 : Int32 → Int32 → Int32 → Int32 → Mem → Prop} (hk5 : ∀ (v1 v2 v3 v4 : Int32) (μ : Mem), k5 v1 v2 v3 v4 μ → J G X Q 6 0 0 5 [(0, .ref (ad G 0)), (1, .int v1), (2, .int v2), (3, .int v3), (4, .int v4)] [] μ) {v1 v2 v3 v4 : Int32} {μ : Mem} (h : w_X7_fileDifferences_b86 post k5 v1 v2 v3 v4 μ) : J G X Q 6 0 0 86 [(0, .ref (ad G 0)), (1, .int v1), (2, .int v2), (3, .int v3), (4, .int v4)] [] μ := by
  unfold w_X7_fileDifferences_b86 at h
  refine j_iinc (v := v3 + (1 : Int32)) (lv' := [(0, .ref (ad G 0)), (1, .int v1), (2, .int v2), (3, .int (v3 + (1 : Int32))), (4, .int v4)]) C 3 dX7_fileDifferences_86 rfl rfl (by decide) rfl rfl ?_
  exact w_X7_fileDifferences_b89_j C hQ hk5 h
set_option maxHeartbeats 4000000 in
set_option maxRecDepth 100000 in
theorem w_X7_fileDifferences_b5_j {G : Gt} {X : Cxt} {Q : State → Prop} (C : Cx G X cX7_fileDifferences RX7 wsX7_fileDifferences 6 rm_X7_fileDifferences) {post : Int32 → Mem → Prop} (hQ : RetI G X Q post .int 0 0) : ∀ (n : Nat) (v1 v2 v3 v4 : Int32) (μ : Mem), itr (fun _ _ _ _ _ => False) (w_X7_fileDifferences_b5 post) n v1 v2 v3 v4 μ → J G X Q 6 0 0 5 [(0, .ref (ad G 0)), (1, .int v1), (2, .int v2), (3, .int v3), (4, .int v4)] [] μ := by
  intro n
  induction n with
  | zero => intro v1 v2 v3 v4 μ h; exact h.elim
  | succ n ih =>
    intro v1 v2 v3 v4 μ h
    replace h : w_X7_fileDifferences_b5 post (itr (fun _ _ _ _ _ => False) (w_X7_fileDifferences_b5 post) n) v1 v2 v3 v4 μ := h
    generalize itr (fun _ _ _ _ _ => False) (w_X7_fileDifferences_b5 post) n = k5 at ih h
    have hk5 := ih
    unfold w_X7_fileDifferences_b5 at h
    refine j_iload C 4 dX7_fileDifferences_5 rfl ?_
    refine j_aload_n C 0 dX7_fileDifferences_7 rfl ?_
    refine j_getR C 0 1 sh_0 (by decide) cl_X7 (by decide) rfl in_X7_fileDifferences_X7 lk_X7_fileDifferences_19 rfl dX7_fileDifferences_8 ?_
    refine j_getIN C 2 4 sh_2 (by decide) cl_X1 (by decide) rfl in_X7_fileDifferences_X1 lk_X7_fileDifferences_190 rfl dX7_fileDifferences_11 ?_
    refine j_icmp_ge C 133 dX7_fileDifferences_14 (by decide) (fun c20 => ?_) (fun c20 => ?_)
    · replace h := h.1 c20
      refine j_iload_n C 3 dX7_fileDifferences_133 rfl ?_
      exact j_iret C hQ (by decide) (by decide) h dX7_fileDifferences_134
    · replace h := h.2 c20
      refine j_aload_n C 0 dX7_fileDifferences_17 rfl ?_
      refine j_getR C 0 1 sh_0 (by decide) cl_X7 (by decide) rfl in_X7_fileDifferences_X7 lk_X7_fileDifferences_19 rfl dX7_fileDifferences_18 ?_
      refine j_iload C 4 dX7_fileDifferences_21 rfl ?_
      refine j_iload_n C 1 dX7_fileDifferences_23 rfl ?_
      refine j_cNI (n := 2) (rest := []) C 2 (c_X1_isIn (xl X) G C.2.2.1 _ v4 v1 μ) h gX7_fileDifferences_X1_isIn_n299 nm_X7_fileDifferences_299 wd_X7_fileDifferences_ini_X1 wd_X7_fileDifferences_im_X1_isIn wd_X7_fileDifferences_se_X1_isIn rfl ⟨rfl, rfl⟩ (by decide +kernel) ⟨by decide, by decide⟩ ⟨by decide, by decide⟩ sh_2 (by decide) cl_X1 rfl rfl (Nat.le_of_ble_eq_true rfl) dX7_fileDifferences_24 rfl rfl (fun r2 μ1 h => ?_)
      refine j_if_eq C 89 dX7_fileDifferences_27 (by decide) (fun c19 => ?_) (fun c19 => ?_)
      · replace h := h.1 c19
        exact w_X7_fileDifferences_b89_j C hQ hk5 h
      · replace h := h.2 c19
        refine j_aload_n C 0 dX7_fileDifferences_30 rfl ?_
        refine j_getR C 0 1 sh_0 (by decide) cl_X7 (by decide) rfl in_X7_fileDifferences_X7 lk_X7_fileDifferences_19 rfl dX7_fileDifferences_31 ?_
        refine j_iload_n C 2 dX7_fileDifferences_34 rfl ?_
        refine j_aload_n C 0 dX7_fileDifferences_35 rfl ?_
        refine j_getR C 0 1 sh_0 (by decide) cl_X7 (by decide) rfl in_X7_fileDifferences_X7 lk_X7_fileDifferences_19 rfl dX7_fileDifferences_36 ?_
        refine j_getRN C 2 1 sh_2 (by decide) cl_X1 (by decide) rfl in_X7_fileDifferences_X1 lk_X7_fileDifferences_127 rfl dX7_fileDifferences_39 ?_
        refine j_iload C 4 dX7_fileDifferences_42 rfl ?_
        have b10 := h.1
        replace h := h.2
        refine j_iald C 15 sh_15 (by decide) b10 dX7_fileDifferences_44 ?_
        refine j_cNI (n := 2) (rest := []) C 2 (c_X1_named (xl X) G C.2.2.1 _ v2 (μ1 15 (ix v4)) μ1) h gX7_fileDifferences_X1_named_n291 nm_X7_fileDifferences_291 wd_X7_fileDifferences_ini_X1 wd_X7_fileDifferences_im_X1_named wd_X7_fileDifferences_se_X1_named rfl ⟨rfl, rfl⟩ (by decide +kernel) ⟨by decide, by decide⟩ ⟨by decide, by decide⟩ sh_2 (by decide) cl_X1 rfl rfl (Nat.le_of_ble_eq_true rfl) dX7_fileDifferences_45 rfl rfl (fun r12 μ11 h => ?_)
        refine j_istore (lv' := [(0, .ref (ad G 0)), (1, .int v1), (2, .int v2), (3, .int v3), (4, .int v4), (5, .int r12)]) C dX7_fileDifferences_48 (by decide) rfl rfl ?_
        refine j_iload C 5 dX7_fileDifferences_50 rfl ?_
        refine j_iconst (v := -1) C dX7_fileDifferences_52 (by decide) ?_
        refine j_icmp_eq C 86 dX7_fileDifferences_53 (by decide) (fun c18 => ?_) (fun c18 => ?_)
        · replace h := h.1 c18
          refine j_forget [0, 1, 2, 3, 4] rfl ?_
          exact w_X7_fileDifferences_b86_j C hQ hk5 h
        · replace h := h.2 c18
          refine j_aload_n C 0 dX7_fileDifferences_56 rfl ?_
          refine j_getR C 0 2 sh_0 (by decide) cl_X7 (by decide) rfl in_X7_fileDifferences_X7 lk_X7_fileDifferences_26 rfl dX7_fileDifferences_57 ?_
          refine j_aload_n C 0 dX7_fileDifferences_60 rfl ?_
          refine j_getR C 0 1 sh_0 (by decide) cl_X7 (by decide) rfl in_X7_fileDifferences_X7 lk_X7_fileDifferences_19 rfl dX7_fileDifferences_61 ?_
          refine j_getRN C 2 2 sh_2 (by decide) cl_X1 (by decide) rfl in_X7_fileDifferences_X1 lk_X7_fileDifferences_112 rfl dX7_fileDifferences_64 ?_
          refine j_iload C 4 dX7_fileDifferences_67 rfl ?_
          have b13 := h.1
          replace h := h.2
          refine j_iald C 16 sh_16 (by decide) b13 dX7_fileDifferences_69 ?_
          refine j_aload_n C 0 dX7_fileDifferences_70 rfl ?_
          refine j_getR C 0 1 sh_0 (by decide) cl_X7 (by decide) rfl in_X7_fileDifferences_X7 lk_X7_fileDifferences_19 rfl dX7_fileDifferences_71 ?_
          refine j_getRN C 2 2 sh_2 (by decide) cl_X1 (by decide) rfl in_X7_fileDifferences_X1 lk_X7_fileDifferences_112 rfl dX7_fileDifferences_74 ?_
          refine j_iload C 5 dX7_fileDifferences_77 rfl ?_
          have b14 := h.1
          replace h := h.2
          refine j_iald C 16 sh_16 (by decide) b14 dX7_fileDifferences_79 ?_
          refine j_cNI (n := 2) (rest := []) C 3 (c_X0_areAlike (xl X) G C.2.2.1 _ (μ11 16 (ix v4)) (μ11 16 (ix r12)) μ11) h gX7_fileDifferences_X0_areAlike_n302 nm_X7_fileDifferences_302 wd_X7_fileDifferences_ini_X0 wd_X7_fileDifferences_im_X0_areAlike wd_X7_fileDifferences_se_X0_areAlike rfl ⟨rfl, rfl⟩ (by decide +kernel) ⟨by decide, by decide⟩ ⟨by decide, by decide⟩ sh_3 (by decide) cl_X0 rfl rfl (Nat.le_of_ble_eq_true rfl) dX7_fileDifferences_80 rfl rfl (fun r16 μ15 h => ?_)
          refine j_if_ne C 89 dX7_fileDifferences_83 (by decide) (fun c17 => ?_) (fun c17 => ?_)
          · replace h := h.1 c17
            refine j_forget [0, 1, 2, 3, 4] rfl ?_
            exact w_X7_fileDifferences_b89_j C hQ hk5 h
          · replace h := h.2 c17
            refine j_forget [0, 1, 2, 3, 4] rfl ?_
            exact w_X7_fileDifferences_b86_j C hQ hk5 h
set_option maxHeartbeats 4000000 in
set_option maxRecDepth 100000 in
theorem c_X7_fileDifferences (l : Launch) (G : Gt) (hD : Dj G) (post : Int32 → Mem → Prop) (a1 a2 : Int32) (μ : Mem) : MI G l yX7_fileDifferences wsX7_fileDifferences rm_X7_fileDifferences 0 0 [.ref (ad G 0), .int a1, .int a2] μ (w_X7_fileDifferences post a1 a2 μ) post := by
  refine mI_of (cc := cX7_fileDifferences) (maxL := 6) (ty := .int) (lv0 := [(0, .ref (ad G 0)), (1, .int a1), (2, .int a2)]) hD (by decide) rfl (Nat.le_of_ble_eq_true rfl) rfl ?_
  intro X Q hl C hQ h
  subst hl
  replace C : Cx G X cX7_fileDifferences RX7 wsX7_fileDifferences 6 rm_X7_fileDifferences := C
  unfold w_X7_fileDifferences at h
  refine j_iconst (v := 0) C dX7_fileDifferences_0 (by decide) ?_
  refine j_istore_n (lv' := [(0, .ref (ad G 0)), (1, .int a1), (2, .int a2), (3, .int (0 : Int32))]) C dX7_fileDifferences_1 (by decide) rfl rfl ?_
  refine j_iconst (v := 0) C dX7_fileDifferences_2 (by decide) ?_
  refine j_istore (lv' := [(0, .ref (ad G 0)), (1, .int a1), (2, .int a2), (3, .int (0 : Int32)), (4, .int (0 : Int32))]) C dX7_fileDifferences_3 (by decide) rfl rfl ?_
  obtain ⟨n9, h⟩ := h
  exact w_X7_fileDifferences_b5_j C hQ n9 _ _ _ _ _ h
/-! X7_foldersAlone -/
abbrev rm_X7_foldersAlone : Room := { frames := 1, cells := 0, slots := 0, locals := 23 }
theorem in_X7_foldersAlone_X7 : ∀ w ∈ wsX70, w ∈ wsX7_foldersAlone := by decide +kernel
theorem lk_X7_foldersAlone_10 : Cond.fieldLink RX7 10 "SameAgain" "folders" "LSameAgain$Folders;" ∈ wsX7_foldersAlone := by decide +kernel
theorem in_X7_foldersAlone_X3 : ∀ w ∈ wsX30, w ∈ wsX7_foldersAlone := by decide +kernel
theorem lk_X7_foldersAlone_220 : (RX7, 220, "SameAgain$Folders", "made", "I", "SameAgain") ∈ nwF := by decide +kernel
theorem lk_X7_foldersAlone_221 : (RX7, 221, "SameAgain$Folders", "in", "[I", "SameAgain") ∈ nwF := by decide +kernel
theorem lk_X7_foldersAlone_224 : (RX7, 224, "SameAgain$Folders", "name", "[I", "SameAgain") ∈ nwF := by decide +kernel
theorem wd_X7_foldersAlone_ini_X3 : Cond.initialized RX3 ∈ wsX7_foldersAlone := by decide +kernel
theorem wd_X7_foldersAlone_im_X3_named : Cond.instanceMethod yX3_named ∈ wsX7_foldersAlone := by decide +kernel
theorem wd_X7_foldersAlone_se_X3_named : Cond.selects RX3 yX3_named yX3_named ∈ wsX7_foldersAlone := by decide +kernel
theorem nm_X7_foldersAlone_88 : (RX7, 88, yX3_named, "SameAgain") ∈ nwM := by decide +kernel
set_option maxHeartbeats 4000000 in
set_option maxRecDepth 100000 in
theorem w_X7_foldersAlone_b5_j {G : Gt} {X : Cxt} {Q : State → Prop} (C : Cx G X cX7_foldersAlone RX7 wsX7_foldersAlone 5 rm_X7_foldersAlone) {post : Int32 → Mem → Prop} (hQ : RetI G X Q post .int 0 0) : ∀ (n : Nat) (v1 v2 v3 v4 : Int32) (μ : Mem), itr (fun _ _ _ _ _ => False) (w_X7_foldersAlone_b5 post) n v1 v2 v3 v4 μ → J G X Q 5 0 0 5 [(0, .ref (ad G 0)), (1, .int v1), (2, .int v2), (3, .int v3), (4, .int v4)] [] μ := by
  intro n
  induction n with
  | zero => intro v1 v2 v3 v4 μ h; exact h.elim
  | succ n ih =>
    intro v1 v2 v3 v4 μ h
    replace h : w_X7_foldersAlone_b5 post (itr (fun _ _ _ _ _ => False) (w_X7_foldersAlone_b5 post) n) v1 v2 v3 v4 μ := h
    generalize itr (fun _ _ _ _ _ => False) (w_X7_foldersAlone_b5 post) n = k5 at ih h
    have hk5 := ih
    unfold w_X7_foldersAlone_b5 at h
    refine j_iload C 4 dX7_foldersAlone_5 rfl ?_
    refine j_aload_n C 0 dX7_foldersAlone_7 rfl ?_
    refine j_getR C 0 0 sh_0 (by decide) cl_X7 (by decide) rfl in_X7_foldersAlone_X7 lk_X7_foldersAlone_10 rfl dX7_foldersAlone_8 ?_
    refine j_getIN C 1 3 sh_1 (by decide) cl_X3 (by decide) rfl in_X7_foldersAlone_X3 lk_X7_foldersAlone_220 rfl dX7_foldersAlone_11 ?_
    refine j_icmp_ge C 62 dX7_foldersAlone_14 (by decide) (fun c7 => ?_) (fun c7 => ?_)
    · replace h := h.1 c7
      refine j_iload_n C 3 dX7_foldersAlone_62 rfl ?_
      exact j_iret C hQ (by decide) (by decide) h dX7_foldersAlone_63
    · replace h := h.2 c7
      refine j_aload_n C 0 dX7_foldersAlone_17 rfl ?_
      refine j_getR C 0 0 sh_0 (by decide) cl_X7 (by decide) rfl in_X7_foldersAlone_X7 lk_X7_foldersAlone_10 rfl dX7_foldersAlone_18 ?_
      refine j_getRN C 1 0 sh_1 (by decide) cl_X3 (by decide) rfl in_X7_foldersAlone_X3 lk_X7_foldersAlone_221 rfl dX7_foldersAlone_21 ?_
      refine j_iload C 4 dX7_foldersAlone_24 rfl ?_
      have b1 := h.1
      replace h := h.2
      refine j_iald C 11 sh_11 (by decide) b1 dX7_foldersAlone_26 ?_
      refine j_iload_n C 1 dX7_foldersAlone_27 rfl ?_
      refine j_icmp_ne C 56 dX7_foldersAlone_28 (by decide) (fun c6 => ?_) (fun c6 => ?_)
      · replace h := h.1 c6
        refine j_iinc (v := v4 + (1 : Int32)) (lv' := [(0, .ref (ad G 0)), (1, .int v1), (2, .int v2), (3, .int v3), (4, .int (v4 + (1 : Int32)))]) C 4 dX7_foldersAlone_56 rfl rfl (by decide) rfl rfl ?_
        refine j_goto C 5 dX7_foldersAlone_59 (by decide) ?_
        exact hk5 _ _ _ _ _ h
      · replace h := h.2 c6
        refine j_aload_n C 0 dX7_foldersAlone_31 rfl ?_
        refine j_getR C 0 0 sh_0 (by decide) cl_X7 (by decide) rfl in_X7_foldersAlone_X7 lk_X7_foldersAlone_10 rfl dX7_foldersAlone_32 ?_
        refine j_iload_n C 2 dX7_foldersAlone_35 rfl ?_
        refine j_aload_n C 0 dX7_foldersAlone_36 rfl ?_
        refine j_getR C 0 0 sh_0 (by decide) cl_X7 (by decide) rfl in_X7_foldersAlone_X7 lk_X7_foldersAlone_10 rfl dX7_foldersAlone_37 ?_
        refine j_getRN C 1 1 sh_1 (by decide) cl_X3 (by decide) rfl in_X7_foldersAlone_X3 lk_X7_foldersAlone_224 rfl dX7_foldersAlone_40 ?_
        refine j_iload C 4 dX7_foldersAlone_43 rfl ?_
        have b2 := h.1
        replace h := h.2
        refine j_iald C 12 sh_12 (by decide) b2 dX7_foldersAlone_45 ?_
        refine j_cNI (n := 2) (rest := []) C 1 (c_X3_named (xl X) G C.2.2.1 _ v2 (μ 12 (ix v4)) μ) h gX7_foldersAlone_X3_named_n88 nm_X7_foldersAlone_88 wd_X7_foldersAlone_ini_X3 wd_X7_foldersAlone_im_X3_named wd_X7_foldersAlone_se_X3_named rfl ⟨rfl, rfl⟩ (by decide +kernel) ⟨by decide, by decide⟩ ⟨by decide, by decide⟩ sh_1 (by decide) cl_X3 rfl rfl (Nat.le_of_ble_eq_true rfl) dX7_foldersAlone_46 rfl rfl (fun r4 μ3 h => ?_)
        refine j_iconst (v := -1) C dX7_foldersAlone_49 (by decide) ?_
        refine j_icmp_ne C 56 dX7_foldersAlone_50 (by decide) (fun c5 => ?_) (fun c5 => ?_)
        · replace h := h.1 c5
          refine j_iinc (v := v4 + (1 : Int32)) (lv' := [(0, .ref (ad G 0)), (1, .int v1), (2, .int v2), (3, .int v3), (4, .int (v4 + (1 : Int32)))]) C 4 dX7_foldersAlone_56 rfl rfl (by decide) rfl rfl ?_
          refine j_goto C 5 dX7_foldersAlone_59 (by decide) ?_
          exact hk5 _ _ _ _ _ h
        · replace h := h.2 c5
          refine j_iinc (v := v3 + (1 : Int32)) (lv' := [(0, .ref (ad G 0)), (1, .int v1), (2, .int v2), (3, .int (v3 + (1 : Int32))), (4, .int v4)]) C 3 dX7_foldersAlone_53 rfl rfl (by decide) rfl rfl ?_
          refine j_iinc (v := v4 + (1 : Int32)) (lv' := [(0, .ref (ad G 0)), (1, .int v1), (2, .int v2), (3, .int (v3 + (1 : Int32))), (4, .int (v4 + (1 : Int32)))]) C 4 dX7_foldersAlone_56 rfl rfl (by decide) rfl rfl ?_
          refine j_goto C 5 dX7_foldersAlone_59 (by decide) ?_
          exact hk5 _ _ _ _ _ h
set_option maxHeartbeats 4000000 in
set_option maxRecDepth 100000 in
theorem c_X7_foldersAlone (l : Launch) (G : Gt) (hD : Dj G) (post : Int32 → Mem → Prop) (a1 a2 : Int32) (μ : Mem) : MI G l yX7_foldersAlone wsX7_foldersAlone rm_X7_foldersAlone 0 0 [.ref (ad G 0), .int a1, .int a2] μ (w_X7_foldersAlone post a1 a2 μ) post := by
  refine mI_of (cc := cX7_foldersAlone) (maxL := 5) (ty := .int) (lv0 := [(0, .ref (ad G 0)), (1, .int a1), (2, .int a2)]) hD (by decide) rfl (Nat.le_of_ble_eq_true rfl) rfl ?_
  intro X Q hl C hQ h
  subst hl
  replace C : Cx G X cX7_foldersAlone RX7 wsX7_foldersAlone 5 rm_X7_foldersAlone := C
  unfold w_X7_foldersAlone at h
  refine j_iconst (v := 0) C dX7_foldersAlone_0 (by decide) ?_
  refine j_istore_n (lv' := [(0, .ref (ad G 0)), (1, .int a1), (2, .int a2), (3, .int (0 : Int32))]) C dX7_foldersAlone_1 (by decide) rfl rfl ?_
  refine j_iconst (v := 1) C dX7_foldersAlone_2 (by decide) ?_
  refine j_istore (lv' := [(0, .ref (ad G 0)), (1, .int a1), (2, .int a2), (3, .int (0 : Int32)), (4, .int (1 : Int32))]) C dX7_foldersAlone_3 (by decide) rfl rfl ?_
  obtain ⟨n9, h⟩ := h
  exact w_X7_foldersAlone_b5_j C hQ n9 _ _ _ _ _ h
/-! X7_differencesHere -/
abbrev rm_X7_differencesHere : Room := { frames := 4, cells := 0, slots := 0, locals := 94 }
set_option maxHeartbeats 4000000 in
set_option maxRecDepth 100000 in
theorem c_X7_differencesHere (l : Launch) (G : Gt) (hD : Dj G) (post : Int32 → Mem → Prop) (a1 a2 : Int32) (μ : Mem) : MI G l yX7_differencesHere wsX7_differencesHere rm_X7_differencesHere 0 0 [.ref (ad G 0), .int a1, .int a2] μ (w_X7_differencesHere post a1 a2 μ) post := by
  refine mI_of (cc := cX7_differencesHere) (maxL := 3) (ty := .int) (lv0 := [(0, .ref (ad G 0)), (1, .int a1), (2, .int a2)]) hD (by decide) rfl (Nat.le_of_ble_eq_true rfl) rfl ?_
  intro X Q hl C hQ h
  subst hl
  replace C : Cx G X cX7_differencesHere RX7 wsX7_differencesHere 3 rm_X7_differencesHere := C
  unfold w_X7_differencesHere at h
  refine j_aload_n C 0 dX7_differencesHere_0 rfl ?_
  refine j_iload_n C 1 dX7_differencesHere_1 rfl ?_
  refine j_iload_n C 2 dX7_differencesHere_2 rfl ?_
  refine j_cVI (n := 2) (rest := []) C 0 (c_X7_fileDifferences (xl X) G C.2.2.1 _ a1 a2 μ) h gX7_differencesHere_X7_fileDifferences rfl ⟨rfl, rfl⟩ (by decide +kernel) ⟨by decide, by decide⟩ ⟨by decide, by decide⟩ sh_0 (by decide) cl_X7 rfl rfl (Nat.le_of_ble_eq_true rfl) dX7_differencesHere_3 rfl rfl (fun r2 μ1 h => ?_)
  refine j_aload_n C 0 dX7_differencesHere_6 rfl ?_
  refine j_iload_n C 2 dX7_differencesHere_7 rfl ?_
  refine j_iload_n C 1 dX7_differencesHere_8 rfl ?_
  refine j_cVI (n := 2) (rest := [.int r2]) C 0 (c_X7_foldersAlone (xl X) G C.2.2.1 _ a2 a1 μ1) h gX7_differencesHere_X7_foldersAlone rfl ⟨rfl, rfl⟩ (by decide +kernel) ⟨by decide, by decide⟩ ⟨by decide, by decide⟩ sh_0 (by decide) cl_X7 rfl rfl (Nat.le_of_ble_eq_true rfl) dX7_differencesHere_9 rfl rfl (fun r4 μ3 h => ?_)
  refine j_iadd C dX7_differencesHere_12 ?_
  exact j_iret C hQ (by decide) (by decide) h dX7_differencesHere_13
/-! X7_differ -/
abbrev rm_X7_differ : Room := { frames := 7, cells := 2, slots := 12, locals := 116 }
theorem in_X7_differ_X7 : ∀ w ∈ wsX70, w ∈ wsX7_differ := by decide +kernel
theorem lk_X7_differ_65 : Cond.fieldLink RX7 65 "SameAgain" "twins" "[I" ∈ wsX7_differ := by decide +kernel
theorem lk_X7_differ_10 : Cond.fieldLink RX7 10 "SameAgain" "folders" "LSameAgain$Folders;" ∈ wsX7_differ := by decide +kernel
theorem in_X7_differ_X3 : ∀ w ∈ wsX30, w ∈ wsX7_differ := by decide +kernel
theorem lk_X7_differ_220 : (RX7, 220, "SameAgain$Folders", "made", "I", "SameAgain") ∈ nwF := by decide +kernel
theorem lk_X7_differ_221 : (RX7, 221, "SameAgain$Folders", "in", "[I", "SameAgain") ∈ nwF := by decide +kernel
theorem lk_X7_differ_224 : (RX7, 224, "SameAgain$Folders", "name", "[I", "SameAgain") ∈ nwF := by decide +kernel
theorem wd_X7_differ_ini_X3 : Cond.initialized RX3 ∈ wsX7_differ := by decide +kernel
theorem wd_X7_differ_im_X3_named : Cond.instanceMethod yX3_named ∈ wsX7_differ := by decide +kernel
theorem wd_X7_differ_se_X3_named : Cond.selects RX3 yX3_named yX3_named ∈ wsX7_differ := by decide +kernel
theorem nm_X7_differ_88 : (RX7, 88, yX3_named, "SameAgain") ∈ nwM := by decide +kernel
set_option maxHeartbeats 4000000 in
set_option maxRecDepth 100000 in
theorem w_X7_differ_b121_j {G : Gt} {X : Cxt} {Q : State → Prop} (C : Cx G X cX7_differ RX7 wsX7_differ 7 rm_X7_differ) {post : Int32 → Mem → Prop} (hQ : RetI G X Q post .int 2 12) {xq : XP} (hX : Xq G X Q xq 2 12) {k37 : Int32 → Int32 → Mem → Prop} (hk37 : ∀ (v3 v4 : Int32) (μ : Mem), k37 v3 v4 μ → J G X Q 7 2 12 37 [(0, .ref (ad G 0)), (3, .int v3), (4, .int v4)] [] μ) {v4 s0 s1 : Int32} {μ : Mem} (h : w_X7_differ_b121 post xq k37 v4 s0 s1 μ) : J G X Q 7 2 12 121 [(0, .ref (ad G 0)), (4, .int v4)] [.int s0, .int s1] μ := by
  unfold w_X7_differ_b121 at h
  refine j_iadd C dX7_differ_121 ?_
  refine j_istore_n (lv' := [(0, .ref (ad G 0)), (3, .int (s1 + s0)), (4, .int v4)]) C dX7_differ_122 (by decide) rfl rfl ?_
  refine j_iinc (v := v4 + (1 : Int32)) (lv' := [(0, .ref (ad G 0)), (3, .int (s1 + s0)), (4, .int (v4 + (1 : Int32)))]) C 2 dX7_differ_123 rfl rfl (by decide) rfl rfl ?_
  refine j_goto C 37 dX7_differ_126 (by decide) ?_
  exact hk37 _ _ _ h
set_option maxHeartbeats 4000000 in
set_option maxRecDepth 100000 in
theorem w_X7_differ_b37_j {G : Gt} {X : Cxt} {Q : State → Prop} (C : Cx G X cX7_differ RX7 wsX7_differ 7 rm_X7_differ) {post : Int32 → Mem → Prop} (hQ : RetI G X Q post .int 2 12) {xq : XP} (hX : Xq G X Q xq 2 12) : ∀ (n : Nat) (v3 v4 : Int32) (μ : Mem), itr (fun _ _ _ => False) (w_X7_differ_b37 post xq) n v3 v4 μ → J G X Q 7 2 12 37 [(0, .ref (ad G 0)), (3, .int v3), (4, .int v4)] [] μ := by
  intro n
  induction n with
  | zero => intro v3 v4 μ h; exact h.elim
  | succ n ih =>
    intro v3 v4 μ h
    replace h : w_X7_differ_b37 post xq (itr (fun _ _ _ => False) (w_X7_differ_b37 post xq) n) v3 v4 μ := h
    generalize itr (fun _ _ _ => False) (w_X7_differ_b37 post xq) n = k37 at ih h
    have hk37 := ih
    unfold w_X7_differ_b37 at h
    refine j_iload C 2 dX7_differ_37 rfl ?_
    refine j_aload_n C 0 dX7_differ_39 rfl ?_
    refine j_getR C 0 0 sh_0 (by decide) cl_X7 (by decide) rfl in_X7_differ_X7 lk_X7_differ_10 rfl dX7_differ_40 ?_
    refine j_getIN C 1 3 sh_1 (by decide) cl_X3 (by decide) rfl in_X7_differ_X3 lk_X7_differ_220 rfl dX7_differ_43 ?_
    refine j_icmp_ge C 129 dX7_differ_46 (by decide) (fun c22 => ?_) (fun c22 => ?_)
    · replace h := h.1 c22
      refine j_iload_n C 1 dX7_differ_129 rfl ?_
      exact j_iret C hQ (by decide) (by decide) h dX7_differ_130
    · replace h := h.2 c22
      refine j_aload_n C 0 dX7_differ_49 rfl ?_
      refine j_getR C 0 9 sh_0 (by decide) cl_X7 (by decide) rfl in_X7_differ_X7 lk_X7_differ_65 rfl dX7_differ_50 ?_
      refine j_aload_n C 0 dX7_differ_53 rfl ?_
      refine j_getR C 0 0 sh_0 (by decide) cl_X7 (by decide) rfl in_X7_differ_X7 lk_X7_differ_10 rfl dX7_differ_54 ?_
      refine j_getRN C 1 0 sh_1 (by decide) cl_X3 (by decide) rfl in_X7_differ_X3 lk_X7_differ_221 rfl dX7_differ_57 ?_
      refine j_iload C 2 dX7_differ_60 rfl ?_
      have b10 := h.1
      replace h := h.2
      refine j_iald C 11 sh_11 (by decide) b10 dX7_differ_62 ?_
      have b11 := h.1
      replace h := h.2
      refine j_iald C 10 sh_10 (by decide) b11 dX7_differ_63 ?_
      refine j_istore (lv' := [(0, .ref (ad G 0)), (3, .int v3), (4, .int v4), (5, .int (μ 10 (ix (μ 11 (ix v4)))))]) C dX7_differ_64 (by decide) rfl rfl ?_
      refine j_iload C 3 dX7_differ_66 rfl ?_
      refine j_iconst (v := -1) C dX7_differ_68 (by decide) ?_
      refine j_icmp_eq C 123 dX7_differ_69 (by decide) (fun c21 => ?_) (fun c21 => ?_)
      · replace h := h.1 c21
        refine j_iinc (v := v4 + (1 : Int32)) (lv' := [(0, .ref (ad G 0)), (3, .int v3), (4, .int (v4 + (1 : Int32))), (5, .int (μ 10 (ix (μ 11 (ix v4)))))]) C 2 dX7_differ_123 rfl rfl (by decide) rfl rfl ?_
        refine j_goto C 37 dX7_differ_126 (by decide) ?_
        refine j_forget [0, 1, 2] rfl ?_
        exact hk37 _ _ _ h
      · replace h := h.2 c21
        refine j_aload_n C 0 dX7_differ_72 rfl ?_
        refine j_getR C 0 0 sh_0 (by decide) cl_X7 (by decide) rfl in_X7_differ_X7 lk_X7_differ_10 rfl dX7_differ_73 ?_
        refine j_iload C 3 dX7_differ_76 rfl ?_
        refine j_aload_n C 0 dX7_differ_78 rfl ?_
        refine j_getR C 0 0 sh_0 (by decide) cl_X7 (by decide) rfl in_X7_differ_X7 lk_X7_differ_10 rfl dX7_differ_79 ?_
        refine j_getRN C 1 1 sh_1 (by decide) cl_X3 (by decide) rfl in_X7_differ_X3 lk_X7_differ_224 rfl dX7_differ_82 ?_
        refine j_iload C 2 dX7_differ_85 rfl ?_
        have b12 := h.1
        replace h := h.2
        refine j_iald C 12 sh_12 (by decide) b12 dX7_differ_87 ?_
        refine j_cNI (n := 2) (rest := []) C 1 (c_X3_named (xl X) G C.2.2.1 _ (μ 10 (ix (μ 11 (ix v4)))) (μ 12 (ix v4)) μ) h gX7_differ_X3_named_n88 nm_X7_differ_88 wd_X7_differ_ini_X3 wd_X7_differ_im_X3_named wd_X7_differ_se_X3_named rfl ⟨rfl, rfl⟩ (by decide +kernel) ⟨by decide, by decide⟩ ⟨by decide, by decide⟩ sh_1 (by decide) cl_X3 rfl rfl (Nat.le_of_ble_eq_true rfl) dX7_differ_88 rfl rfl (fun r14 μ13 h => ?_)
        refine j_istore (lv' := [(0, .ref (ad G 0)), (3, .int v3), (4, .int v4), (5, .int (μ 10 (ix (μ 11 (ix v4))))), (6, .int r14)]) C dX7_differ_91 (by decide) rfl rfl ?_
        refine j_aload_n C 0 dX7_differ_93 rfl ?_
        refine j_getR C 0 9 sh_0 (by decide) cl_X7 (by decide) rfl in_X7_differ_X7 lk_X7_differ_65 rfl dX7_differ_94 ?_
        refine j_iload C 2 dX7_differ_97 rfl ?_
        refine j_iload C 4 dX7_differ_99 rfl ?_
        obtain ⟨μ15, e16⟩ : ∃ m, m = wr μ13 10 (ix v4) r14 := ⟨_, rfl⟩
        have b17 := h.1
        replace h := h.2 μ15 e16
        refine j_iast C 10 sh_10 (by decide) b17 dX7_differ_101 e16 ?_
        refine j_iload_n C 1 dX7_differ_102 rfl ?_
        refine j_iload C 4 dX7_differ_103 rfl ?_
        refine j_iconst (v := -1) C dX7_differ_105 (by decide) ?_
        refine j_icmp_ne C 113 dX7_differ_106 (by decide) (fun c20 => ?_) (fun c20 => ?_)
        · replace h := h.1 c20
          refine j_aload_n C 0 dX7_differ_113 rfl ?_
          refine j_iload C 2 dX7_differ_114 rfl ?_
          refine j_iload C 4 dX7_differ_116 rfl ?_
          refine j_cVI (n := 2) (rest := [.int v3]) C 0 (c_X7_differencesHere (xl X) G C.2.2.1 _ v4 r14 μ15) h gX7_differ_X7_differencesHere rfl ⟨rfl, rfl⟩ (by decide +kernel) ⟨by decide, by decide⟩ ⟨by decide, by decide⟩ sh_0 (by decide) cl_X7 rfl rfl (Nat.le_of_ble_eq_true rfl) dX7_differ_118 rfl rfl (fun r19 μ18 h => ?_)
          refine j_forget [0, 2] rfl ?_
          exact w_X7_differ_b121_j C hQ hX hk37 h
        · replace h := h.2 c20
          refine j_iconst (v := 1) C dX7_differ_109 (by decide) ?_
          refine j_goto C 121 dX7_differ_110 (by decide) ?_
          refine j_forget [0, 2] rfl ?_
          exact w_X7_differ_b121_j C hQ hX hk37 h
set_option maxHeartbeats 4000000 in
set_option maxRecDepth 100000 in
theorem c_X7_differ (l : Launch) (G : Gt) (hD : Dj G) (hs : l.stackTraces = false) (post : Int32 → Mem → Prop) (xq : XP) (a1 a2 : Int32) (μ : Mem) : XI G l yX7_differ wsX7_differ rm_X7_differ 2 12 [.ref (ad G 0), .int a1, .int a2] μ (w_X7_differ post xq a1 a2 μ) post xq := by
  refine xI_of (cc := cX7_differ) (maxL := 7) (ty := .int) (lv0 := [(0, .ref (ad G 0)), (1, .int a1), (2, .int a2)]) hD hs (by decide) rfl (Nat.le_of_ble_eq_true rfl) rfl ?_
  intro X Q hl C hQ hX h
  subst hl
  replace C : Cx G X cX7_differ RX7 wsX7_differ 7 rm_X7_differ := C
  unfold w_X7_differ at h
  refine j_aload_n C 0 dX7_differ_0 rfl ?_
  refine j_iload_n C 1 dX7_differ_1 rfl ?_
  refine j_xVV (n := 1) (rest := []) C hX 0 (c_X7_needFolder (xl X) G C.2.2.1 hX.2.2 _ xq a1 μ) h gX7_differ_X7_needFolder rfl ⟨rfl, rfl⟩ (by decide +kernel) ⟨by decide, by decide⟩ ⟨by decide, by decide⟩ ⟨by decide, by decide⟩ sh_0 (by decide) cl_X7 rfl rfl (Nat.le_of_ble_eq_true rfl) dX7_differ_2 rfl rfl (fun μ1 h => ?_)
  refine j_aload_n C 0 dX7_differ_5 rfl ?_
  refine j_iload_n C 2 dX7_differ_6 rfl ?_
  refine j_xVV (n := 1) (rest := []) C hX 0 (c_X7_needFolder (xl X) G C.2.2.1 hX.2.2 _ xq a2 μ1) h gX7_differ_X7_needFolder rfl ⟨rfl, rfl⟩ (by decide +kernel) ⟨by decide, by decide⟩ ⟨by decide, by decide⟩ ⟨by decide, by decide⟩ sh_0 (by decide) cl_X7 rfl rfl (Nat.le_of_ble_eq_true rfl) dX7_differ_7 rfl rfl (fun μ2 h => ?_)
  refine j_aload_n C 0 dX7_differ_10 rfl ?_
  refine j_getR C 0 9 sh_0 (by decide) cl_X7 (by decide) rfl in_X7_differ_X7 lk_X7_differ_65 rfl dX7_differ_11 ?_
  refine j_iconst (v := -1) C dX7_differ_14 (by decide) ?_
  refine j_cSV (n := 2) (rest := []) C (c_fill (xl X) G C.2.2.1 _ 10 16 sh_10 (by decide) (-1 : Int32) μ2) h gX7_differ_J7_fill_53178 rfl ⟨rfl, rfl⟩ (by decide +kernel) ⟨by decide, by decide⟩ ⟨by decide, by decide⟩ rfl rfl (Nat.le_of_ble_eq_true rfl) dX7_differ_15 rfl rfl (fun μ3 h => ?_)
  refine j_aload_n C 0 dX7_differ_18 rfl ?_
  refine j_getR C 0 9 sh_0 (by decide) cl_X7 (by decide) rfl in_X7_differ_X7 lk_X7_differ_65 rfl dX7_differ_19 ?_
  refine j_iload_n C 1 dX7_differ_22 rfl ?_
  refine j_iload_n C 2 dX7_differ_23 rfl ?_
  obtain ⟨μ5, e6⟩ : ∃ m, m = wr μ3 10 (ix a1) a2 := ⟨_, rfl⟩
  have b7 := h.1
  replace h := h.2 μ5 e6
  refine j_iast C 10 sh_10 (by decide) b7 dX7_differ_24 e6 ?_
  refine j_aload_n C 0 dX7_differ_25 rfl ?_
  refine j_iload_n C 1 dX7_differ_26 rfl ?_
  refine j_iload_n C 2 dX7_differ_27 rfl ?_
  refine j_cVI (n := 2) (rest := []) C 0 (c_X7_differencesHere (xl X) G C.2.2.1 _ a1 a2 μ5) h gX7_differ_X7_differencesHere rfl ⟨rfl, rfl⟩ (by decide +kernel) ⟨by decide, by decide⟩ ⟨by decide, by decide⟩ sh_0 (by decide) cl_X7 rfl rfl (Nat.le_of_ble_eq_true rfl) dX7_differ_28 rfl rfl (fun r9 μ8 h => ?_)
  refine j_istore_n (lv' := [(0, .ref (ad G 0)), (1, .int a1), (2, .int a2), (3, .int r9)]) C dX7_differ_31 (by decide) rfl rfl ?_
  refine j_iload_n C 1 dX7_differ_32 rfl ?_
  refine j_iconst (v := 1) C dX7_differ_33 (by decide) ?_
  refine j_iadd C dX7_differ_34 ?_
  refine j_istore (lv' := [(0, .ref (ad G 0)), (1, .int a1), (2, .int a2), (3, .int r9), (4, .int (a1 + (1 : Int32)))]) C dX7_differ_35 (by decide) rfl rfl ?_
  refine j_forget [0, 3, 4] rfl ?_
  obtain ⟨n9, h⟩ := h
  exact w_X7_differ_b37_j C hQ hX n9 _ _ _ h
