/-! X7_link -/
abbrev rm_X7_link : Room := { frames := 7, cells := 2, slots := 12, locals := 103 }
theorem in_X7_link_X7 : ∀ w ∈ wsX70, w ∈ wsX7_link := by decide +kernel
theorem lk_X7_link_19 : Cond.fieldLink RX7 19 "SameAgain" "files" "LSameAgain$Files;" ∈ wsX7_link := by decide +kernel
theorem in_X7_link_X1 : ∀ w ∈ wsX10, w ∈ wsX7_link := by decide +kernel
theorem lk_X7_link_112 : (RX7, 112, "SameAgain$Files", "body", "[I", "SameAgain") ∈ nwF := by decide +kernel
theorem wd_X7_link_ini_X1 : Cond.initialized RX1 ∈ wsX7_link := by decide +kernel
theorem wd_X7_link_im_X1_make : Cond.instanceMethod yX1_make ∈ wsX7_link := by decide +kernel
theorem wd_X7_link_se_X1_make : Cond.selects RX1 yX1_make yX1_make ∈ wsX7_link := by decide +kernel
theorem nm_X7_link_108 : (RX7, 108, yX1_make, "SameAgain") ∈ nwM := by decide +kernel
set_option maxHeartbeats 4000000 in
set_option maxRecDepth 100000 in
theorem c_X7_link (l : Launch) (G : Gt) (hD : Dj G) (hs : l.stackTraces = false) (post : Int32 → Mem → Prop) (xq : XP) (a1 a2 a3 : Int32) (μ : Mem) : XI G l yX7_link wsX7_link rm_X7_link 2 12 [.ref (ad G 0), .int a1, .int a2, .int a3] μ (w_X7_link post xq a1 a2 a3 μ) post xq := by
  refine xI_of (cc := cX7_link) (maxL := 4) (ty := .int) (lv0 := [(0, .ref (ad G 0)), (1, .int a1), (2, .int a2), (3, .int a3)]) hD hs (by decide) rfl (Nat.le_of_ble_eq_true rfl) rfl ?_
  intro X Q hl C hQ hX h
  subst hl
  replace C : Cx G X cX7_link RX7 wsX7_link 4 rm_X7_link := C
  unfold w_X7_link at h
  refine j_aload_n C 0 dX7_link_0 rfl ?_
  refine j_iload_n C 1 dX7_link_1 rfl ?_
  refine j_xVV (n := 1) (rest := []) C hX 0 (c_X7_needFile (xl X) G C.2.2.1 hX.2.2 _ xq a1 μ) h gX7_link_X7_needFile rfl ⟨rfl, rfl⟩ (by decide +kernel) ⟨by decide, by decide⟩ ⟨by decide, by decide⟩ ⟨by decide, by decide⟩ sh_0 (by decide) cl_X7 rfl rfl (Nat.le_of_ble_eq_true rfl) dX7_link_2 rfl rfl (fun μ1 h => ?_)
  refine j_aload_n C 0 dX7_link_5 rfl ?_
  refine j_iload_n C 2 dX7_link_6 rfl ?_
  refine j_xVV (n := 1) (rest := []) C hX 0 (c_X7_needFolder (xl X) G C.2.2.1 hX.2.2 _ xq a2 μ1) h gX7_link_X7_needFolder rfl ⟨rfl, rfl⟩ (by decide +kernel) ⟨by decide, by decide⟩ ⟨by decide, by decide⟩ ⟨by decide, by decide⟩ sh_0 (by decide) cl_X7 rfl rfl (Nat.le_of_ble_eq_true rfl) dX7_link_7 rfl rfl (fun μ2 h => ?_)
  refine j_aload_n C 0 dX7_link_10 rfl ?_
  refine j_iload_n C 2 dX7_link_11 rfl ?_
  refine j_iload_n C 3 dX7_link_12 rfl ?_
  refine j_cVI (n := 2) (rest := []) C 0 (c_X7_mayCome (xl X) G C.2.2.1 _ a2 a3 μ2) h gX7_link_X7_mayCome rfl ⟨rfl, rfl⟩ (by decide +kernel) ⟨by decide, by decide⟩ ⟨by decide, by decide⟩ sh_0 (by decide) cl_X7 rfl rfl (Nat.le_of_ble_eq_true rfl) dX7_link_13 rfl rfl (fun r4 μ3 h => ?_)
  refine j_if_ne C 21 dX7_link_16 (by decide) (fun c8 => ?_) (fun c8 => ?_)
  · replace h := h.1 c8
    refine j_aload_n C 0 dX7_link_21 rfl ?_
    refine j_getR C 0 1 sh_0 (by decide) cl_X7 (by decide) rfl in_X7_link_X7 lk_X7_link_19 rfl dX7_link_22 ?_
    refine j_iload_n C 2 dX7_link_25 rfl ?_
    refine j_iload_n C 3 dX7_link_26 rfl ?_
    refine j_aload_n C 0 dX7_link_27 rfl ?_
    refine j_getR C 0 1 sh_0 (by decide) cl_X7 (by decide) rfl in_X7_link_X7 lk_X7_link_19 rfl dX7_link_28 ?_
    refine j_getRN C 2 2 sh_2 (by decide) cl_X1 (by decide) rfl in_X7_link_X1 lk_X7_link_112 rfl dX7_link_31 ?_
    refine j_iload_n C 1 dX7_link_34 rfl ?_
    have b5 := h.1
    replace h := h.2
    refine j_iald C 16 sh_16 (by decide) b5 dX7_link_35 ?_
    refine j_cNI (n := 3) (rest := []) C 2 (c_X1_make (xl X) G C.2.2.1 _ a2 a3 (μ3 16 (ix a1)) μ3) h gX7_link_X1_make_n108 nm_X7_link_108 wd_X7_link_ini_X1 wd_X7_link_im_X1_make wd_X7_link_se_X1_make rfl ⟨rfl, rfl⟩ (by decide +kernel) ⟨by decide, by decide⟩ ⟨by decide, by decide⟩ sh_2 (by decide) cl_X1 rfl rfl (Nat.le_of_ble_eq_true rfl) dX7_link_36 rfl rfl (fun r7 μ6 h => ?_)
    exact j_iret C hQ (by decide) (by decide) h dX7_link_39
  · replace h := h.2 c8
    refine j_iconst (v := -1) C dX7_link_19 (by decide) ?_
    exact j_iret C hQ (by decide) (by decide) h dX7_link_20
/-! X7_mayGet -/
abbrev rm_X7_mayGet : Room := { frames := 0, cells := 0, slots := 0, locals := 0 }
theorem in_X7_mayGet_X7 : ∀ w ∈ wsX70, w ∈ wsX7_mayGet := by decide +kernel
theorem lk_X7_mayGet_19 : Cond.fieldLink RX7 19 "SameAgain" "files" "LSameAgain$Files;" ∈ wsX7_mayGet := by decide +kernel
theorem in_X7_mayGet_X1 : ∀ w ∈ wsX10, w ∈ wsX7_mayGet := by decide +kernel
theorem lk_X7_mayGet_130 : (RX7, 130, "SameAgain$Files", "held", "[Z", "SameAgain") ∈ nwF := by decide +kernel
theorem lk_X7_mayGet_112 : (RX7, 112, "SameAgain$Files", "body", "[I", "SameAgain") ∈ nwF := by decide +kernel
theorem lk_X7_mayGet_26 : Cond.fieldLink RX7 26 "SameAgain" "bodies" "LSameAgain$Bodies;" ∈ wsX7_mayGet := by decide +kernel
theorem in_X7_mayGet_X0 : ∀ w ∈ wsX00, w ∈ wsX7_mayGet := by decide +kernel
theorem lk_X7_mayGet_115 : (RX7, 115, "SameAgain$Bodies", "owner", "[I", "SameAgain") ∈ nwF := by decide +kernel
theorem lk_X7_mayGet_61 : Cond.fieldLink RX7 61 "SameAgain" "leaves" "[Z" ∈ wsX7_mayGet := by decide +kernel
set_option maxHeartbeats 4000000 in
set_option maxRecDepth 100000 in
theorem w_X7_mayGet_b77_j {G : Gt} {X : Cxt} {Q : State → Prop} (C : Cx G X cX7_mayGet RX7 wsX7_mayGet 5 rm_X7_mayGet) {post : Int32 → Mem → Prop} (hQ : RetI G X Q post .boolean 0 0) {μ : Mem} (h : w_X7_mayGet_b77 post μ) : J G X Q 5 0 0 77 [] [] μ := by
  unfold w_X7_mayGet_b77 at h
  refine j_iconst (v := 1) C dX7_mayGet_77 (by decide) ?_
  refine j_goto C 82 dX7_mayGet_78 (by decide) ?_
  exact j_zret C hQ (by decide) (by decide) rfl h dX7_mayGet_82
set_option maxHeartbeats 4000000 in
set_option maxRecDepth 100000 in
theorem c_X7_mayGet (l : Launch) (G : Gt) (hD : Dj G) (post : Int32 → Mem → Prop) (a1 a2 : Int32) (μ : Mem) : MI G l yX7_mayGet wsX7_mayGet rm_X7_mayGet 0 0 [.ref (ad G 0), .int a1, .int a2] μ (w_X7_mayGet post a1 a2 μ) post := by
  refine mI_of (cc := cX7_mayGet) (maxL := 5) (ty := .boolean) (lv0 := [(0, .ref (ad G 0)), (1, .int a1), (2, .int a2)]) hD (by decide) rfl (Nat.le_of_ble_eq_true rfl) rfl ?_
  intro X Q hl C hQ h
  subst hl
  replace C : Cx G X cX7_mayGet RX7 wsX7_mayGet 5 rm_X7_mayGet := C
  unfold w_X7_mayGet at h
  refine j_aload_n C 0 dX7_mayGet_0 rfl ?_
  refine j_getR C 0 1 sh_0 (by decide) cl_X7 (by decide) rfl in_X7_mayGet_X7 lk_X7_mayGet_19 rfl dX7_mayGet_1 ?_
  refine j_getRN C 2 3 sh_2 (by decide) cl_X1 (by decide) rfl in_X7_mayGet_X1 lk_X7_mayGet_130 rfl dX7_mayGet_4 ?_
  refine j_iload_n C 1 dX7_mayGet_7 rfl ?_
  have b1 := h.1
  replace h := h.2
  refine j_zald C 17 sh_17 (by decide) b1 dX7_mayGet_8 ?_
  refine j_if_ne C 25 dX7_mayGet_9 (by decide) (fun c10 => ?_) (fun c10 => ?_)
  · replace h := h.1 c10
    refine j_iconst (v := 0) C dX7_mayGet_25 (by decide) ?_
    exact j_zret C hQ (by decide) (by decide) rfl h dX7_mayGet_26
  · replace h := h.2 c10
    refine j_aload_n C 0 dX7_mayGet_12 rfl ?_
    refine j_getR C 0 1 sh_0 (by decide) cl_X7 (by decide) rfl in_X7_mayGet_X7 lk_X7_mayGet_19 rfl dX7_mayGet_13 ?_
    refine j_getRN C 2 2 sh_2 (by decide) cl_X1 (by decide) rfl in_X7_mayGet_X1 lk_X7_mayGet_112 rfl dX7_mayGet_16 ?_
    refine j_iload_n C 1 dX7_mayGet_19 rfl ?_
    have b2 := h.1
    replace h := h.2
    refine j_iald C 16 sh_16 (by decide) b2 dX7_mayGet_20 ?_
    refine j_iload_n C 2 dX7_mayGet_21 rfl ?_
    refine j_icmp_ne C 27 dX7_mayGet_22 (by decide) (fun c9 => ?_) (fun c9 => ?_)
    · replace h := h.1 c9
      refine j_aload_n C 0 dX7_mayGet_27 rfl ?_
      refine j_getR C 0 2 sh_0 (by decide) cl_X7 (by decide) rfl in_X7_mayGet_X7 lk_X7_mayGet_26 rfl dX7_mayGet_28 ?_
      refine j_getRN C 3 2 sh_3 (by decide) cl_X0 (by decide) rfl in_X7_mayGet_X0 lk_X7_mayGet_115 rfl dX7_mayGet_31 ?_
      refine j_iload_n C 2 dX7_mayGet_34 rfl ?_
      have b3 := h.1
      replace h := h.2
      refine j_iald C 20 sh_20 (by decide) b3 dX7_mayGet_35 ?_
      refine j_istore_n (lv' := [(0, .ref (ad G 0)), (1, .int a1), (2, .int a2), (3, .int (μ 20 (ix a2)))]) C dX7_mayGet_36 (by decide) rfl rfl ?_
      refine j_aload_n C 0 dX7_mayGet_37 rfl ?_
      refine j_getR C 0 2 sh_0 (by decide) cl_X7 (by decide) rfl in_X7_mayGet_X7 lk_X7_mayGet_26 rfl dX7_mayGet_38 ?_
      refine j_getRN C 3 2 sh_3 (by decide) cl_X0 (by decide) rfl in_X7_mayGet_X0 lk_X7_mayGet_115 rfl dX7_mayGet_41 ?_
      refine j_aload_n C 0 dX7_mayGet_44 rfl ?_
      refine j_getR C 0 1 sh_0 (by decide) cl_X7 (by decide) rfl in_X7_mayGet_X7 lk_X7_mayGet_19 rfl dX7_mayGet_45 ?_
      refine j_getRN C 2 2 sh_2 (by decide) cl_X1 (by decide) rfl in_X7_mayGet_X1 lk_X7_mayGet_112 rfl dX7_mayGet_48 ?_
      refine j_iload_n C 1 dX7_mayGet_51 rfl ?_
      have b4 := h.1
      replace h := h.2
      refine j_iald C 16 sh_16 (by decide) b4 dX7_mayGet_52 ?_
      have b5 := h.1
      replace h := h.2
      refine j_iald C 20 sh_20 (by decide) b5 dX7_mayGet_53 ?_
      refine j_istore (lv' := [(0, .ref (ad G 0)), (1, .int a1), (2, .int a2), (3, .int (μ 20 (ix a2))), (4, .int (μ 20 (ix (μ 16 (ix a1)))))]) C dX7_mayGet_54 (by decide) rfl rfl ?_
      refine j_iload_n C 3 dX7_mayGet_56 rfl ?_
      refine j_iload C 4 dX7_mayGet_57 rfl ?_
      refine j_icmp_eq C 77 dX7_mayGet_59 (by decide) (fun c8 => ?_) (fun c8 => ?_)
      · replace h := h.1 c8
        refine j_forget [] rfl ?_
        exact w_X7_mayGet_b77_j C hQ h
      · replace h := h.2 c8
        refine j_aload_n C 0 dX7_mayGet_62 rfl ?_
        refine j_getR C 0 8 sh_0 (by decide) cl_X7 (by decide) rfl in_X7_mayGet_X7 lk_X7_mayGet_61 rfl dX7_mayGet_63 ?_
        refine j_iload_n C 3 dX7_mayGet_66 rfl ?_
        refine j_bipush (v := 8) C dX7_mayGet_67 (by decide) ?_
        refine j_imul C dX7_mayGet_69 ?_
        refine j_iload C 4 dX7_mayGet_70 rfl ?_
        refine j_iadd C dX7_mayGet_72 ?_
        have b6 := h.1
        replace h := h.2
        refine j_zald C 9 sh_9 (by decide) b6 dX7_mayGet_73 ?_
        refine j_if_eq C 81 dX7_mayGet_74 (by decide) (fun c7 => ?_) (fun c7 => ?_)
        · replace h := h.1 c7
          refine j_iconst (v := 0) C dX7_mayGet_81 (by decide) ?_
          exact j_zret C hQ (by decide) (by decide) rfl h dX7_mayGet_82
        · replace h := h.2 c7
          refine j_forget [] rfl ?_
          exact w_X7_mayGet_b77_j C hQ h
    · replace h := h.2 c9
      refine j_iconst (v := 0) C dX7_mayGet_25 (by decide) ?_
      exact j_zret C hQ (by decide) (by decide) rfl h dX7_mayGet_26
/-! X7_member -/
abbrev rm_X7_member : Room := { frames := 7, cells := 2, slots := 12, locals := 103 }
theorem in_X7_member_X7 : ∀ w ∈ wsX70, w ∈ wsX7_member := by decide +kernel
theorem lk_X7_member_19 : Cond.fieldLink RX7 19 "SameAgain" "files" "LSameAgain$Files;" ∈ wsX7_member := by decide +kernel
theorem in_X7_member_X1 : ∀ w ∈ wsX10, w ∈ wsX7_member := by decide +kernel
theorem lk_X7_member_190 : (RX7, 190, "SameAgain$Files", "made", "I", "SameAgain") ∈ nwF := by decide +kernel
theorem hat_X7_member_nse : ∀ w ∈ vz_nse.filter goodWord, w ∈ wsX7_member := fun w hw => List.mem_cons_of_mem _ (List.mem_append_right _ hw)
theorem wd_X7_member_cl159 : Cond.classLink RX7 159 "java/util/NoSuchElementException" ∈ wsX7_member := by decide +kernel
theorem wd_X7_member_in_nse : Cond.initialized "java/util/NoSuchElementException" ∈ wsX7_member := by decide +kernel
set_option maxHeartbeats 4000000 in
set_option maxRecDepth 100000 in
theorem w_X7_member_b10_j {G : Gt} {X : Cxt} {Q : State → Prop} (C : Cx G X cX7_member RX7 wsX7_member 5 rm_X7_member) {post : Int32 → Mem → Prop} (hQ : RetI G X Q post .int 2 12) {xq : XP} (hX : Xq G X Q xq 2 12) : ∀ (n : Nat) (v1 v2 v3 v4 : Int32) (μ : Mem), itr (fun _ _ _ _ _ => False) (w_X7_member_b10 post xq) n v1 v2 v3 v4 μ → J G X Q 5 1 6 10 [(0, .ref (ad G 0)), (1, .int v1), (2, .int v2), (3, .int v3), (4, .int v4)] [] μ := by
  intro n
  induction n with
  | zero => intro v1 v2 v3 v4 μ h; exact h.elim
  | succ n ih =>
    intro v1 v2 v3 v4 μ h
    replace h : w_X7_member_b10 post xq (itr (fun _ _ _ _ _ => False) (w_X7_member_b10 post xq) n) v1 v2 v3 v4 μ := h
    generalize itr (fun _ _ _ _ _ => False) (w_X7_member_b10 post xq) n = k10 at ih h
    have hk10 := ih
    unfold w_X7_member_b10 at h
    refine j_iload C 4 dX7_member_10 rfl ?_
    refine j_aload_n C 0 dX7_member_12 rfl ?_
    refine j_getR C 0 1 sh_0 (by decide) cl_X7 (by decide) rfl in_X7_member_X7 lk_X7_member_19 rfl dX7_member_13 ?_
    refine j_getIN C 2 4 sh_2 (by decide) cl_X1 (by decide) rfl in_X7_member_X1 lk_X7_member_190 rfl dX7_member_16 ?_
    refine j_icmp_ge C 49 dX7_member_19 (by decide) (fun c7 => ?_) (fun c7 => ?_)
    · replace h := h.1 c7
      refine j_iload_n C 2 dX7_member_49 rfl ?_
      refine j_iconst (v := -1) C dX7_member_50 (by decide) ?_
      refine j_icmp_eq C 64 dX7_member_51 (by decide) (fun c2 => ?_) (fun c2 => ?_)
      · replace h := h.1 c2
        refine j_iload_n C 3 dX7_member_64 rfl ?_
        exact j_iret C hQ (by decide) (by decide) h dX7_member_65
      · replace h := h.2 c2
        exact j_thr (text := "no such file of the group") C hX (by decide) b0_nse b1_nse b2_nse b5_nse wd_X7_member_cl159 wd_X7_member_in_nse (by decide +kernel) hat_X7_member_nse hng_nse hgo_nse dX7_member_54 dX7_member_57 (Or.inl ⟨dX7_member_58, rfl⟩) dX7_member_60 dX7_member_63 (by decide) (Nat.le_of_ble_eq_true rfl) (by decide) (by decide) (by decide) (by decide) h
    · replace h := h.2 c7
      refine j_aload_n C 0 dX7_member_22 rfl ?_
      refine j_iload C 4 dX7_member_23 rfl ?_
      refine j_iload_n C 1 dX7_member_25 rfl ?_
      refine j_cVI (n := 2) (rest := []) C 0 (c_X7_isMember (xl X) G C.2.2.1 _ v4 v1 μ) h gX7_member_X7_isMember rfl ⟨rfl, rfl⟩ (by decide +kernel) ⟨by decide, by decide⟩ ⟨by decide, by decide⟩ sh_0 (by decide) cl_X7 rfl rfl (Nat.le_of_ble_eq_true rfl) dX7_member_26 rfl rfl (fun r4 μ3 h => ?_)
      refine j_if_eq C 43 dX7_member_29 (by decide) (fun c6 => ?_) (fun c6 => ?_)
      · replace h := h.1 c6
        refine j_iinc (v := v4 + (1 : Int32)) (lv' := [(0, .ref (ad G 0)), (1, .int v1), (2, .int v2), (3, .int v3), (4, .int (v4 + (1 : Int32)))]) C 4 dX7_member_43 rfl rfl (by decide) rfl rfl ?_
        refine j_goto C 10 dX7_member_46 (by decide) ?_
        exact hk10 _ _ _ _ _ h
      · replace h := h.2 c6
        refine j_iload_n C 3 dX7_member_32 rfl ?_
        refine j_iload_n C 2 dX7_member_33 rfl ?_
        refine j_icmp_ne C 40 dX7_member_34 (by decide) (fun c5 => ?_) (fun c5 => ?_)
        · replace h := h.1 c5
          refine j_iinc (v := v3 + (1 : Int32)) (lv' := [(0, .ref (ad G 0)), (1, .int v1), (2, .int v2), (3, .int (v3 + (1 : Int32))), (4, .int v4)]) C 3 dX7_member_40 rfl rfl (by decide) rfl rfl ?_
          refine j_iinc (v := v4 + (1 : Int32)) (lv' := [(0, .ref (ad G 0)), (1, .int v1), (2, .int v2), (3, .int (v3 + (1 : Int32))), (4, .int (v4 + (1 : Int32)))]) C 4 dX7_member_43 rfl rfl (by decide) rfl rfl ?_
          refine j_goto C 10 dX7_member_46 (by decide) ?_
          exact hk10 _ _ _ _ _ h
        · replace h := h.2 c5
          refine j_iload C 4 dX7_member_37 rfl ?_
          exact j_iret C hQ (by decide) (by decide) h dX7_member_39
set_option maxHeartbeats 4000000 in
set_option maxRecDepth 100000 in
theorem c_X7_member (l : Launch) (G : Gt) (hD : Dj G) (hs : l.stackTraces = false) (post : Int32 → Mem → Prop) (xq : XP) (a1 a2 : Int32) (μ : Mem) : XI G l yX7_member wsX7_member rm_X7_member 2 12 [.ref (ad G 0), .int a1, .int a2] μ (w_X7_member post xq a1 a2 μ) post xq := by
  refine xI_of (cc := cX7_member) (maxL := 5) (ty := .int) (lv0 := [(0, .ref (ad G 0)), (1, .int a1), (2, .int a2)]) hD hs (by decide) rfl (Nat.le_of_ble_eq_true rfl) rfl ?_
  intro X Q hl C hQ hX h
  subst hl
  replace C : Cx G X cX7_member RX7 wsX7_member 5 rm_X7_member := C
  unfold w_X7_member at h
  refine j_aload_n C 0 dX7_member_0 rfl ?_
  refine j_iload_n C 1 dX7_member_1 rfl ?_
  refine j_xVV (n := 1) (rest := []) C hX 0 (c_X7_needGroup (xl X) G C.2.2.1 hX.2.2 _ xq a1 μ) h gX7_member_X7_needGroup rfl ⟨rfl, rfl⟩ (by decide +kernel) ⟨by decide, by decide⟩ ⟨by decide, by decide⟩ ⟨by decide, by decide⟩ sh_0 (by decide) cl_X7 rfl rfl (Nat.le_of_ble_eq_true rfl) dX7_member_2 rfl rfl (fun μ1 h => ?_)
  refine j_iconst (v := 0) C dX7_member_5 (by decide) ?_
  refine j_istore_n (lv' := [(0, .ref (ad G 0)), (1, .int a1), (2, .int a2), (3, .int (0 : Int32))]) C dX7_member_6 (by decide) rfl rfl ?_
  refine j_iconst (v := 0) C dX7_member_7 (by decide) ?_
  refine j_istore (lv' := [(0, .ref (ad G 0)), (1, .int a1), (2, .int a2), (3, .int (0 : Int32)), (4, .int (0 : Int32))]) C dX7_member_8 (by decide) rfl rfl ?_
  obtain ⟨n9, h⟩ := h
  exact w_X7_member_b10_j C hQ hX n9 _ _ _ _ _ h
/-! X7_merge -/
abbrev rm_X7_merge : Room := { frames := 7, cells := 1, slots := 6, locals := 103 }
theorem in_X7_merge_X7 : ∀ w ∈ wsX70, w ∈ wsX7_merge := by decide +kernel
theorem lk_X7_merge_19 : Cond.fieldLink RX7 19 "SameAgain" "files" "LSameAgain$Files;" ∈ wsX7_merge := by decide +kernel
theorem in_X7_merge_X1 : ∀ w ∈ wsX10, w ∈ wsX7_merge := by decide +kernel
theorem lk_X7_merge_112 : (RX7, 112, "SameAgain$Files", "body", "[I", "SameAgain") ∈ nwF := by decide +kernel
theorem lk_X7_merge_190 : (RX7, 190, "SameAgain$Files", "made", "I", "SameAgain") ∈ nwF := by decide +kernel
theorem lk_X7_merge_57 : Cond.fieldLink RX7 57 "SameAgain" "mergings" "LSameAgain$Mergings;" ∈ wsX7_merge := by decide +kernel
theorem lk_X7_merge_26 : Cond.fieldLink RX7 26 "SameAgain" "bodies" "LSameAgain$Bodies;" ∈ wsX7_merge := by decide +kernel
theorem in_X7_merge_X0 : ∀ w ∈ wsX00, w ∈ wsX7_merge := by decide +kernel
theorem lk_X7_merge_115 : (RX7, 115, "SameAgain$Bodies", "owner", "[I", "SameAgain") ∈ nwF := by decide +kernel
theorem wd_X7_merge_ini_X4 : Cond.initialized RX4 ∈ wsX7_merge := by decide +kernel
theorem wd_X7_merge_im_X4_note : Cond.instanceMethod yX4_note ∈ wsX7_merge := by decide +kernel
theorem wd_X7_merge_se_X4_note : Cond.selects RX4 yX4_note yX4_note ∈ wsX7_merge := by decide +kernel
theorem nm_X7_merge_248 : (RX7, 248, yX4_note, "SameAgain") ∈ nwM := by decide +kernel
theorem wd_X7_merge_im_X4_begin : Cond.instanceMethod yX4_begin ∈ wsX7_merge := by decide +kernel
theorem wd_X7_merge_se_X4_begin : Cond.selects RX4 yX4_begin yX4_begin ∈ wsX7_merge := by decide +kernel
theorem nm_X7_merge_245 : (RX7, 245, yX4_begin, "SameAgain") ∈ nwM := by decide +kernel
set_option maxHeartbeats 4000000 in
set_option maxRecDepth 100000 in
theorem w_X7_merge_b79_j {G : Gt} {X : Cxt} {Q : State → Prop} (C : Cx G X cX7_merge RX7 wsX7_merge 6 rm_X7_merge) {post : Int32 → Mem → Prop} (hQ : RetI G X Q post .int 1 6) {xq : XP} (hX : Xq G X Q xq 1 6) {k34 : Int32 → Int32 → Int32 → Int32 → Mem → Prop} (hk34 : ∀ (v1 v3 v4 v5 : Int32) (μ : Mem), k34 v1 v3 v4 v5 μ → J G X Q 6 1 6 34 [(0, .ref (ad G 0)), (1, .int v1), (3, .int v3), (4, .int v4), (5, .int v5)] [] μ) {v1 v3 v4 v5 : Int32} {μ : Mem} (h : w_X7_merge_b79 post xq k34 v1 v3 v4 v5 μ) : J G X Q 6 1 6 79 [(0, .ref (ad G 0)), (1, .int v1), (3, .int v3), (4, .int v4), (5, .int v5)] [] μ := by
  unfold w_X7_merge_b79 at h
  refine j_aload_n C 0 dX7_merge_79 rfl ?_
  refine j_getR C 0 7 sh_0 (by decide) cl_X7 (by decide) rfl in_X7_merge_X7 lk_X7_merge_57 rfl dX7_merge_80 ?_
  refine j_iload C 4 dX7_merge_83 rfl ?_
  refine j_aload_n C 0 dX7_merge_85 rfl ?_
  refine j_getR C 0 2 sh_0 (by decide) cl_X7 (by decide) rfl in_X7_merge_X7 lk_X7_merge_26 rfl dX7_merge_86 ?_
  refine j_getRN C 3 2 sh_3 (by decide) cl_X0 (by decide) rfl in_X7_merge_X0 lk_X7_merge_115 rfl dX7_merge_89 ?_
  refine j_aload_n C 0 dX7_merge_92 rfl ?_
  refine j_getR C 0 1 sh_0 (by decide) cl_X7 (by decide) rfl in_X7_merge_X7 lk_X7_merge_19 rfl dX7_merge_93 ?_
  refine j_getRN C 2 2 sh_2 (by decide) cl_X1 (by decide) rfl in_X7_merge_X1 lk_X7_merge_112 rfl dX7_merge_96 ?_
  refine j_iload C 4 dX7_merge_99 rfl ?_
  have b9 := h.1
  replace h := h.2
  refine j_iald C 16 sh_16 (by decide) b9 dX7_merge_101 ?_
  have b10 := h.1
  replace h := h.2
  refine j_iald C 20 sh_20 (by decide) b10 dX7_merge_102 ?_
  refine j_cNV (n := 2) (rest := []) C 8 (c_X4_note (xl X) G C.2.2.1 _ v5 (μ 20 (ix (μ 16 (ix v5)))) μ) h gX7_merge_X4_note_n248 nm_X7_merge_248 wd_X7_merge_ini_X4 wd_X7_merge_im_X4_note wd_X7_merge_se_X4_note rfl ⟨rfl, rfl⟩ (by decide +kernel) ⟨by decide, by decide⟩ ⟨by decide, by decide⟩ sh_8 (by decide) cl_X4 rfl rfl (Nat.le_of_ble_eq_true rfl) dX7_merge_103 rfl rfl (fun μ11 h => ?_)
  refine j_aload_n C 0 dX7_merge_106 rfl ?_
  refine j_iload C 4 dX7_merge_107 rfl ?_
  refine j_iload_n C 2 dX7_merge_109 rfl ?_
  refine j_cVV (n := 2) (rest := []) C 0 (c_X7_giveBody (xl X) G C.2.2.1 _ v5 v3 μ11) h gX7_merge_X7_giveBody rfl ⟨rfl, rfl⟩ (by decide +kernel) ⟨by decide, by decide⟩ ⟨by decide, by decide⟩ sh_0 (by decide) cl_X7 rfl rfl (Nat.le_of_ble_eq_true rfl) dX7_merge_110 rfl rfl (fun μ12 h => ?_)
  refine j_iinc (v := v4 + (1 : Int32)) (lv' := [(0, .ref (ad G 0)), (1, .int v1), (3, .int v3), (4, .int (v4 + (1 : Int32))), (5, .int v5)]) C 3 dX7_merge_113 rfl rfl (by decide) rfl rfl ?_
  refine j_iinc (v := v5 + (1 : Int32)) (lv' := [(0, .ref (ad G 0)), (1, .int v1), (3, .int v3), (4, .int (v4 + (1 : Int32))), (5, .int (v5 + (1 : Int32)))]) C 4 dX7_merge_116 rfl rfl (by decide) rfl rfl ?_
  refine j_goto C 34 dX7_merge_119 (by decide) ?_
  exact hk34 _ _ _ _ _ h
set_option maxHeartbeats 4000000 in
set_option maxRecDepth 100000 in
theorem w_X7_merge_b34_j {G : Gt} {X : Cxt} {Q : State → Prop} (C : Cx G X cX7_merge RX7 wsX7_merge 6 rm_X7_merge) {post : Int32 → Mem → Prop} (hQ : RetI G X Q post .int 1 6) {xq : XP} (hX : Xq G X Q xq 1 6) : ∀ (n : Nat) (v1 v3 v4 v5 : Int32) (μ : Mem), itr (fun _ _ _ _ _ => False) (w_X7_merge_b34 post xq) n v1 v3 v4 v5 μ → J G X Q 6 1 6 34 [(0, .ref (ad G 0)), (1, .int v1), (3, .int v3), (4, .int v4), (5, .int v5)] [] μ := by
  intro n
  induction n with
  | zero => intro v1 v3 v4 v5 μ h; exact h.elim
  | succ n ih =>
    intro v1 v3 v4 v5 μ h
    replace h : w_X7_merge_b34 post xq (itr (fun _ _ _ _ _ => False) (w_X7_merge_b34 post xq) n) v1 v3 v4 v5 μ := h
    generalize itr (fun _ _ _ _ _ => False) (w_X7_merge_b34 post xq) n = k34 at ih h
    have hk34 := ih
    unfold w_X7_merge_b34 at h
    refine j_iload C 4 dX7_merge_34 rfl ?_
    refine j_aload_n C 0 dX7_merge_36 rfl ?_
    refine j_getR C 0 1 sh_0 (by decide) cl_X7 (by decide) rfl in_X7_merge_X7 lk_X7_merge_19 rfl dX7_merge_37 ?_
    refine j_getIN C 2 4 sh_2 (by decide) cl_X1 (by decide) rfl in_X7_merge_X1 lk_X7_merge_190 rfl dX7_merge_40 ?_
    refine j_icmp_ge C 122 dX7_merge_43 (by decide) (fun c17 => ?_) (fun c17 => ?_)
    · replace h := h.1 c17
      refine j_iload C 3 dX7_merge_122 rfl ?_
      exact j_iret C hQ (by decide) (by decide) h dX7_merge_124
    · replace h := h.2 c17
      refine j_aload_n C 0 dX7_merge_46 rfl ?_
      refine j_iload C 4 dX7_merge_47 rfl ?_
      refine j_iload_n C 1 dX7_merge_49 rfl ?_
      refine j_cVI (n := 2) (rest := []) C 0 (c_X7_isMember (xl X) G C.2.2.1 _ v5 v1 μ) h gX7_merge_X7_isMember rfl ⟨rfl, rfl⟩ (by decide +kernel) ⟨by decide, by decide⟩ ⟨by decide, by decide⟩ sh_0 (by decide) cl_X7 rfl rfl (Nat.le_of_ble_eq_true rfl) dX7_merge_50 rfl rfl (fun r6 μ5 h => ?_)
      refine j_if_eq C 116 dX7_merge_53 (by decide) (fun c16 => ?_) (fun c16 => ?_)
      · replace h := h.1 c16
        refine j_iinc (v := v5 + (1 : Int32)) (lv' := [(0, .ref (ad G 0)), (1, .int v1), (3, .int v3), (4, .int v4), (5, .int (v5 + (1 : Int32)))]) C 4 dX7_merge_116 rfl rfl (by decide) rfl rfl ?_
        refine j_goto C 34 dX7_merge_119 (by decide) ?_
        exact hk34 _ _ _ _ _ h
      · replace h := h.2 c16
        refine j_aload_n C 0 dX7_merge_56 rfl ?_
        refine j_iload C 4 dX7_merge_57 rfl ?_
        refine j_iload_n C 2 dX7_merge_59 rfl ?_
        refine j_cVI (n := 2) (rest := []) C 0 (c_X7_mayGet (xl X) G C.2.2.1 _ v5 v3 μ5) h gX7_merge_X7_mayGet rfl ⟨rfl, rfl⟩ (by decide +kernel) ⟨by decide, by decide⟩ ⟨by decide, by decide⟩ sh_0 (by decide) cl_X7 rfl rfl (Nat.le_of_ble_eq_true rfl) dX7_merge_60 rfl rfl (fun r8 μ7 h => ?_)
        refine j_if_eq C 116 dX7_merge_63 (by decide) (fun c15 => ?_) (fun c15 => ?_)
        · replace h := h.1 c15
          refine j_iinc (v := v5 + (1 : Int32)) (lv' := [(0, .ref (ad G 0)), (1, .int v1), (3, .int v3), (4, .int v4), (5, .int (v5 + (1 : Int32)))]) C 4 dX7_merge_116 rfl rfl (by decide) rfl rfl ?_
          refine j_goto C 34 dX7_merge_119 (by decide) ?_
          exact hk34 _ _ _ _ _ h
        · replace h := h.2 c15
          refine j_iload C 3 dX7_merge_66 rfl ?_
          refine j_if_ne C 79 dX7_merge_68 (by decide) (fun c14 => ?_) (fun c14 => ?_)
          · replace h := h.1 c14
            exact w_X7_merge_b79_j C hQ hX hk34 h
          · replace h := h.2 c14
            refine j_aload_n C 0 dX7_merge_71 rfl ?_
            refine j_getR C 0 7 sh_0 (by decide) cl_X7 (by decide) rfl in_X7_merge_X7 lk_X7_merge_57 rfl dX7_merge_72 ?_
            refine j_iload_n C 2 dX7_merge_75 rfl ?_
            refine j_cNV (n := 1) (rest := []) C 8 (c_X4_begin (xl X) G C.2.2.1 _ v3 μ7) h gX7_merge_X4_begin_n245 nm_X7_merge_245 wd_X7_merge_ini_X4 wd_X7_merge_im_X4_begin wd_X7_merge_se_X4_begin rfl ⟨rfl, rfl⟩ (by decide +kernel) ⟨by decide, by decide⟩ ⟨by decide, by decide⟩ sh_8 (by decide) cl_X4 rfl rfl (Nat.le_of_ble_eq_true rfl) dX7_merge_76 rfl rfl (fun μ13 h => ?_)
            exact w_X7_merge_b79_j C hQ hX hk34 h
set_option maxHeartbeats 4000000 in
set_option maxRecDepth 100000 in
theorem c_X7_merge (l : Launch) (G : Gt) (hD : Dj G) (hs : l.stackTraces = false) (post : Int32 → Mem → Prop) (xq : XP) (a1 : Int32) (μ : Mem) : XI G l yX7_merge wsX7_merge rm_X7_merge 1 6 [.ref (ad G 0), .int a1] μ (w_X7_merge post xq a1 μ) post xq := by
  refine xI_of (cc := cX7_merge) (maxL := 6) (ty := .int) (lv0 := [(0, .ref (ad G 0)), (1, .int a1)]) hD hs (by decide) rfl (Nat.le_of_ble_eq_true rfl) rfl ?_
  intro X Q hl C hQ hX h
  subst hl
  replace C : Cx G X cX7_merge RX7 wsX7_merge 6 rm_X7_merge := C
  unfold w_X7_merge at h
  refine j_aload_n C 0 dX7_merge_0 rfl ?_
  refine j_iload_n C 1 dX7_merge_1 rfl ?_
  refine j_xVV (n := 1) (rest := []) C hX 0 (c_X7_needGroup (xl X) G C.2.2.1 hX.2.2 _ xq a1 μ) h gX7_merge_X7_needGroup rfl ⟨rfl, rfl⟩ (by decide +kernel) ⟨by decide, by decide⟩ ⟨by decide, by decide⟩ ⟨by decide, by decide⟩ sh_0 (by decide) cl_X7 rfl rfl (Nat.le_of_ble_eq_true rfl) dX7_merge_2 rfl rfl (fun μ1 h => ?_)
  refine j_aload_n C 0 dX7_merge_5 rfl ?_
  refine j_iload_n C 1 dX7_merge_6 rfl ?_
  refine j_cVI (n := 1) (rest := []) C 0 (c_X7_keptOf (xl X) G C.2.2.1 _ a1 μ1) h gX7_merge_X7_keptOf rfl ⟨rfl, rfl⟩ (by decide +kernel) ⟨by decide, by decide⟩ ⟨by decide, by decide⟩ sh_0 (by decide) cl_X7 rfl rfl (Nat.le_of_ble_eq_true rfl) dX7_merge_7 rfl rfl (fun r3 μ2 h => ?_)
  refine j_istore_n (lv' := [(0, .ref (ad G 0)), (1, .int a1), (2, .int r3)]) C dX7_merge_10 (by decide) rfl rfl ?_
  refine j_iload_n C 2 dX7_merge_11 rfl ?_
  refine j_iconst (v := -1) C dX7_merge_12 (by decide) ?_
  refine j_icmp_ne C 18 dX7_merge_13 (by decide) (fun c18 => ?_) (fun c18 => ?_)
  · replace h := h.1 c18
    refine j_aload_n C 0 dX7_merge_18 rfl ?_
    refine j_getR C 0 1 sh_0 (by decide) cl_X7 (by decide) rfl in_X7_merge_X7 lk_X7_merge_19 rfl dX7_merge_19 ?_
    refine j_getRN C 2 2 sh_2 (by decide) cl_X1 (by decide) rfl in_X7_merge_X1 lk_X7_merge_112 rfl dX7_merge_22 ?_
    refine j_iload_n C 2 dX7_merge_25 rfl ?_
    have b4 := h.1
    replace h := h.2
    refine j_iald C 16 sh_16 (by decide) b4 dX7_merge_26 ?_
    refine j_istore_n (lv' := [(0, .ref (ad G 0)), (1, .int a1), (2, .int r3), (3, .int (μ2 16 (ix r3)))]) C dX7_merge_27 (by decide) rfl rfl ?_
    refine j_iconst (v := 0) C dX7_merge_28 (by decide) ?_
    refine j_istore (lv' := [(0, .ref (ad G 0)), (1, .int a1), (2, .int r3), (3, .int (μ2 16 (ix r3))), (4, .int (0 : Int32))]) C dX7_merge_29 (by decide) rfl rfl ?_
    refine j_iconst (v := 0) C dX7_merge_31 (by decide) ?_
    refine j_istore (lv' := [(0, .ref (ad G 0)), (1, .int a1), (2, .int r3), (3, .int (μ2 16 (ix r3))), (4, .int (0 : Int32)), (5, .int (0 : Int32))]) C dX7_merge_32 (by decide) rfl rfl ?_
    refine j_forget [0, 1, 3, 4, 5] rfl ?_
    obtain ⟨n9, h⟩ := h
    exact w_X7_merge_b34_j C hQ hX n9 _ _ _ _ _ h
  · replace h := h.2 c18
    refine j_iconst (v := 0) C dX7_merge_16 (by decide) ?_
    exact j_iret C hQ (by decide) (by decide) h dX7_merge_17
/-! X7_move -/
abbrev rm_X7_move : Room := { frames := 7, cells := 2, slots := 12, locals := 103 }
theorem in_X7_move_X7 : ∀ w ∈ wsX70, w ∈ wsX7_move := by decide +kernel
theorem lk_X7_move_19 : Cond.fieldLink RX7 19 "SameAgain" "files" "LSameAgain$Files;" ∈ wsX7_move := by decide +kernel
theorem in_X7_move_X1 : ∀ w ∈ wsX10, w ∈ wsX7_move := by decide +kernel
theorem lk_X7_move_124 : (RX7, 124, "SameAgain$Files", "folder", "[I", "SameAgain") ∈ nwF := by decide +kernel
theorem lk_X7_move_127 : (RX7, 127, "SameAgain$Files", "name", "[I", "SameAgain") ∈ nwF := by decide +kernel
set_option maxHeartbeats 4000000 in
set_option maxRecDepth 100000 in
theorem c_X7_move (l : Launch) (G : Gt) (hD : Dj G) (hs : l.stackTraces = false) (post : Int32 → Mem → Prop) (xq : XP) (a1 a2 a3 : Int32) (μ : Mem) : XI G l yX7_move wsX7_move rm_X7_move 2 12 [.ref (ad G 0), .int a1, .int a2, .int a3] μ (w_X7_move post xq a1 a2 a3 μ) post xq := by
  refine xI_of (cc := cX7_move) (maxL := 4) (ty := .boolean) (lv0 := [(0, .ref (ad G 0)), (1, .int a1), (2, .int a2), (3, .int a3)]) hD hs (by decide) rfl (Nat.le_of_ble_eq_true rfl) rfl ?_
  intro X Q hl C hQ hX h
  subst hl
  replace C : Cx G X cX7_move RX7 wsX7_move 4 rm_X7_move := C
  unfold w_X7_move at h
  refine j_aload_n C 0 dX7_move_0 rfl ?_
  refine j_iload_n C 1 dX7_move_1 rfl ?_
  refine j_xVV (n := 1) (rest := []) C hX 0 (c_X7_needFile (xl X) G C.2.2.1 hX.2.2 _ xq a1 μ) h gX7_move_X7_needFile rfl ⟨rfl, rfl⟩ (by decide +kernel) ⟨by decide, by decide⟩ ⟨by decide, by decide⟩ ⟨by decide, by decide⟩ sh_0 (by decide) cl_X7 rfl rfl (Nat.le_of_ble_eq_true rfl) dX7_move_2 rfl rfl (fun μ1 h => ?_)
  refine j_aload_n C 0 dX7_move_5 rfl ?_
  refine j_iload_n C 2 dX7_move_6 rfl ?_
  refine j_xVV (n := 1) (rest := []) C hX 0 (c_X7_needFolder (xl X) G C.2.2.1 hX.2.2 _ xq a2 μ1) h gX7_move_X7_needFolder rfl ⟨rfl, rfl⟩ (by decide +kernel) ⟨by decide, by decide⟩ ⟨by decide, by decide⟩ ⟨by decide, by decide⟩ sh_0 (by decide) cl_X7 rfl rfl (Nat.le_of_ble_eq_true rfl) dX7_move_7 rfl rfl (fun μ2 h => ?_)
  refine j_aload_n C 0 dX7_move_10 rfl ?_
  refine j_iload_n C 2 dX7_move_11 rfl ?_
  refine j_iload_n C 3 dX7_move_12 rfl ?_
  refine j_cVI (n := 2) (rest := []) C 0 (c_X7_isFreeName (xl X) G C.2.2.1 _ a2 a3 μ2) h gX7_move_X7_isFreeName rfl ⟨rfl, rfl⟩ (by decide +kernel) ⟨by decide, by decide⟩ ⟨by decide, by decide⟩ sh_0 (by decide) cl_X7 rfl rfl (Nat.le_of_ble_eq_true rfl) dX7_move_13 rfl rfl (fun r4 μ3 h => ?_)
  refine j_if_ne C 21 dX7_move_16 (by decide) (fun c11 => ?_) (fun c11 => ?_)
  · replace h := h.1 c11
    refine j_aload_n C 0 dX7_move_21 rfl ?_
    refine j_getR C 0 1 sh_0 (by decide) cl_X7 (by decide) rfl in_X7_move_X7 lk_X7_move_19 rfl dX7_move_22 ?_
    refine j_getRN C 2 0 sh_2 (by decide) cl_X1 (by decide) rfl in_X7_move_X1 lk_X7_move_124 rfl dX7_move_25 ?_
    refine j_iload_n C 1 dX7_move_28 rfl ?_
    refine j_iload_n C 2 dX7_move_29 rfl ?_
    obtain ⟨μ5, e6⟩ : ∃ m, m = wr μ3 14 (ix a1) a2 := ⟨_, rfl⟩
    have b7 := h.1
    replace h := h.2 μ5 e6
    refine j_iast C 14 sh_14 (by decide) b7 dX7_move_30 e6 ?_
    refine j_aload_n C 0 dX7_move_31 rfl ?_
    refine j_getR C 0 1 sh_0 (by decide) cl_X7 (by decide) rfl in_X7_move_X7 lk_X7_move_19 rfl dX7_move_32 ?_
    refine j_getRN C 2 1 sh_2 (by decide) cl_X1 (by decide) rfl in_X7_move_X1 lk_X7_move_127 rfl dX7_move_35 ?_
    refine j_iload_n C 1 dX7_move_38 rfl ?_
    refine j_iload_n C 3 dX7_move_39 rfl ?_
    obtain ⟨μ8, e9⟩ : ∃ m, m = wr μ5 15 (ix a1) a3 := ⟨_, rfl⟩
    have b10 := h.1
    replace h := h.2 μ8 e9
    refine j_iast C 15 sh_15 (by decide) b10 dX7_move_40 e9 ?_
    refine j_iconst (v := 1) C dX7_move_41 (by decide) ?_
    exact j_zret C hQ (by decide) (by decide) rfl h dX7_move_42
  · replace h := h.2 c11
    refine j_iconst (v := 0) C dX7_move_19 (by decide) ?_
    exact j_zret C hQ (by decide) (by decide) rfl h dX7_move_20
/-! X7_near -/
abbrev rm_X7_near : Room := { frames := 7, cells := 2, slots := 12, locals := 103 }
theorem in_X7_near_X7 : ∀ w ∈ wsX70, w ∈ wsX7_near := by decide +kernel
theorem lk_X7_near_40 : Cond.fieldLink RX7 40 "SameAgain" "pieces" "LSameAgain$Pieces;" ∈ wsX7_near := by decide +kernel
theorem lk_X7_near_26 : Cond.fieldLink RX7 26 "SameAgain" "bodies" "LSameAgain$Bodies;" ∈ wsX7_near := by decide +kernel
theorem lk_X7_near_19 : Cond.fieldLink RX7 19 "SameAgain" "files" "LSameAgain$Files;" ∈ wsX7_near := by decide +kernel
theorem in_X7_near_X1 : ∀ w ∈ wsX10, w ∈ wsX7_near := by decide +kernel
theorem lk_X7_near_112 : (RX7, 112, "SameAgain$Files", "body", "[I", "SameAgain") ∈ nwF := by decide +kernel
theorem wd_X7_near_ini_X5 : Cond.initialized RX5 ∈ wsX7_near := by decide +kernel
theorem wd_X7_near_im_X5_gather : Cond.instanceMethod yX5_gather ∈ wsX7_near := by decide +kernel
theorem wd_X7_near_se_X5_gather : Cond.selects RX5 yX5_gather yX5_gather ∈ wsX7_near := by decide +kernel
theorem nm_X7_near_198 : (RX7, 198, yX5_gather, "SameAgain") ∈ nwM := by decide +kernel
theorem lk_X7_near_44 : Cond.fieldLink RX7 44 "SameAgain" "otherPieces" "LSameAgain$Pieces;" ∈ wsX7_near := by decide +kernel
theorem wd_X7_near_im_X5_nearnessTo : Cond.instanceMethod yX5_nearnessTo ∈ wsX7_near := by decide +kernel
theorem wd_X7_near_se_X5_nearnessTo : Cond.selects RX5 yX5_nearnessTo yX5_nearnessTo ∈ wsX7_near := by decide +kernel
theorem nm_X7_near_202 : (RX7, 202, yX5_nearnessTo, "SameAgain") ∈ nwM := by decide +kernel
set_option maxHeartbeats 4000000 in
set_option maxRecDepth 100000 in
theorem c_X7_near (l : Launch) (G : Gt) (hD : Dj G) (hs : l.stackTraces = false) (post : Int32 → Mem → Prop) (xq : XP) (a1 a2 : Int32) (μ : Mem) : XI G l yX7_near wsX7_near rm_X7_near 2 12 [.ref (ad G 0), .int a1, .int a2] μ (w_X7_near post xq a1 a2 μ) post xq := by
  refine xI_of (cc := cX7_near) (maxL := 3) (ty := .int) (lv0 := [(0, .ref (ad G 0)), (1, .int a1), (2, .int a2)]) hD hs (by decide) rfl (Nat.le_of_ble_eq_true rfl) rfl ?_
  intro X Q hl C hQ hX h
  subst hl
  replace C : Cx G X cX7_near RX7 wsX7_near 3 rm_X7_near := C
  unfold w_X7_near at h
  refine j_aload_n C 0 dX7_near_0 rfl ?_
  refine j_iload_n C 1 dX7_near_1 rfl ?_
  refine j_xVV (n := 1) (rest := []) C hX 0 (c_X7_needFile (xl X) G C.2.2.1 hX.2.2 _ xq a1 μ) h gX7_near_X7_needFile rfl ⟨rfl, rfl⟩ (by decide +kernel) ⟨by decide, by decide⟩ ⟨by decide, by decide⟩ ⟨by decide, by decide⟩ sh_0 (by decide) cl_X7 rfl rfl (Nat.le_of_ble_eq_true rfl) dX7_near_2 rfl rfl (fun μ1 h => ?_)
  refine j_aload_n C 0 dX7_near_5 rfl ?_
  refine j_iload_n C 2 dX7_near_6 rfl ?_
  refine j_xVV (n := 1) (rest := []) C hX 0 (c_X7_needFile (xl X) G C.2.2.1 hX.2.2 _ xq a2 μ1) h gX7_near_X7_needFile rfl ⟨rfl, rfl⟩ (by decide +kernel) ⟨by decide, by decide⟩ ⟨by decide, by decide⟩ ⟨by decide, by decide⟩ sh_0 (by decide) cl_X7 rfl rfl (Nat.le_of_ble_eq_true rfl) dX7_near_7 rfl rfl (fun μ2 h => ?_)
  refine j_aload_n C 0 dX7_near_10 rfl ?_
  refine j_getR C 0 4 sh_0 (by decide) cl_X7 (by decide) rfl in_X7_near_X7 lk_X7_near_40 rfl dX7_near_11 ?_
  refine j_aload_n C 0 dX7_near_14 rfl ?_
  refine j_getR C 0 2 sh_0 (by decide) cl_X7 (by decide) rfl in_X7_near_X7 lk_X7_near_26 rfl dX7_near_15 ?_
  refine j_aload_n C 0 dX7_near_18 rfl ?_
  refine j_getR C 0 1 sh_0 (by decide) cl_X7 (by decide) rfl in_X7_near_X7 lk_X7_near_19 rfl dX7_near_19 ?_
  refine j_getRN C 2 2 sh_2 (by decide) cl_X1 (by decide) rfl in_X7_near_X1 lk_X7_near_112 rfl dX7_near_22 ?_
  refine j_iload_n C 1 dX7_near_25 rfl ?_
  have b3 := h.1
  replace h := h.2
  refine j_iald C 16 sh_16 (by decide) b3 dX7_near_26 ?_
  refine j_cNV (n := 2) (rest := []) C 5 (c_X5_gather_5 (xl X) G C.2.2.1 _ (μ2 16 (ix a1)) μ2) h gX7_near_X5_gather_n198 nm_X7_near_198 wd_X7_near_ini_X5 wd_X7_near_im_X5_gather wd_X7_near_se_X5_gather rfl ⟨rfl, rfl⟩ (by decide +kernel) ⟨by decide, by decide⟩ ⟨by decide, by decide⟩ sh_5 (by decide) cl_X5 rfl rfl (Nat.le_of_ble_eq_true rfl) dX7_near_27 rfl rfl (fun μ4 h => ?_)
  refine j_aload_n C 0 dX7_near_30 rfl ?_
  refine j_getR C 0 5 sh_0 (by decide) cl_X7 (by decide) rfl in_X7_near_X7 lk_X7_near_44 rfl dX7_near_31 ?_
  refine j_aload_n C 0 dX7_near_34 rfl ?_
  refine j_getR C 0 2 sh_0 (by decide) cl_X7 (by decide) rfl in_X7_near_X7 lk_X7_near_26 rfl dX7_near_35 ?_
  refine j_aload_n C 0 dX7_near_38 rfl ?_
  refine j_getR C 0 1 sh_0 (by decide) cl_X7 (by decide) rfl in_X7_near_X7 lk_X7_near_19 rfl dX7_near_39 ?_
  refine j_getRN C 2 2 sh_2 (by decide) cl_X1 (by decide) rfl in_X7_near_X1 lk_X7_near_112 rfl dX7_near_42 ?_
  refine j_iload_n C 2 dX7_near_45 rfl ?_
  have b5 := h.1
  replace h := h.2
  refine j_iald C 16 sh_16 (by decide) b5 dX7_near_46 ?_
  refine j_cNV (n := 2) (rest := []) C 6 (c_X5_gather_6 (xl X) G C.2.2.1 _ (μ4 16 (ix a2)) μ4) h gX7_near_X5_gather_n198 nm_X7_near_198 wd_X7_near_ini_X5 wd_X7_near_im_X5_gather wd_X7_near_se_X5_gather rfl ⟨rfl, rfl⟩ (by decide +kernel) ⟨by decide, by decide⟩ ⟨by decide, by decide⟩ sh_6 (by decide) cl_X5 rfl rfl (Nat.le_of_ble_eq_true rfl) dX7_near_47 rfl rfl (fun μ6 h => ?_)
  refine j_aload_n C 0 dX7_near_50 rfl ?_
  refine j_getR C 0 4 sh_0 (by decide) cl_X7 (by decide) rfl in_X7_near_X7 lk_X7_near_40 rfl dX7_near_51 ?_
  refine j_aload_n C 0 dX7_near_54 rfl ?_
  refine j_getR C 0 5 sh_0 (by decide) cl_X7 (by decide) rfl in_X7_near_X7 lk_X7_near_44 rfl dX7_near_55 ?_
  refine j_cNI (n := 1) (rest := []) C 5 (c_X5_nearnessTo_5 (xl X) G C.2.2.1 _ μ6) h gX7_near_X5_nearnessTo_n202 nm_X7_near_202 wd_X7_near_ini_X5 wd_X7_near_im_X5_nearnessTo wd_X7_near_se_X5_nearnessTo rfl ⟨rfl, rfl⟩ (by decide +kernel) ⟨by decide, by decide⟩ ⟨by decide, by decide⟩ sh_5 (by decide) cl_X5 rfl rfl (Nat.le_of_ble_eq_true rfl) dX7_near_58 rfl rfl (fun r8 μ7 h => ?_)
  exact j_iret C hQ (by decide) (by decide) h dX7_near_61
/-! X7_nearest -/
abbrev rm_X7_nearest : Room := { frames := 7, cells := 2, slots := 12, locals := 103 }
theorem hat_X7_nearest_iae : ∀ w ∈ vz_iae.filter goodWord, w ∈ wsX7_nearest := fun w hw => List.mem_cons_of_mem _ (List.mem_append_left _ (List.mem_append_right _ hw))
theorem wd_X7_nearest_cl143 : Cond.classLink RX7 143 "java/lang/IllegalArgumentException" ∈ wsX7_nearest := by decide +kernel
theorem wd_X7_nearest_in_iae : Cond.initialized "java/lang/IllegalArgumentException" ∈ wsX7_nearest := by decide +kernel
theorem in_X7_nearest_X7 : ∀ w ∈ wsX70, w ∈ wsX7_nearest := by decide +kernel
theorem lk_X7_nearest_40 : Cond.fieldLink RX7 40 "SameAgain" "pieces" "LSameAgain$Pieces;" ∈ wsX7_nearest := by decide +kernel
theorem lk_X7_nearest_26 : Cond.fieldLink RX7 26 "SameAgain" "bodies" "LSameAgain$Bodies;" ∈ wsX7_nearest := by decide +kernel
theorem lk_X7_nearest_19 : Cond.fieldLink RX7 19 "SameAgain" "files" "LSameAgain$Files;" ∈ wsX7_nearest := by decide +kernel
theorem in_X7_nearest_X1 : ∀ w ∈ wsX10, w ∈ wsX7_nearest := by decide +kernel
theorem lk_X7_nearest_112 : (RX7, 112, "SameAgain$Files", "body", "[I", "SameAgain") ∈ nwF := by decide +kernel
theorem wd_X7_nearest_ini_X5 : Cond.initialized RX5 ∈ wsX7_nearest := by decide +kernel
theorem wd_X7_nearest_im_X5_gather : Cond.instanceMethod yX5_gather ∈ wsX7_nearest := by decide +kernel
theorem wd_X7_nearest_se_X5_gather : Cond.selects RX5 yX5_gather yX5_gather ∈ wsX7_nearest := by decide +kernel
theorem nm_X7_nearest_198 : (RX7, 198, yX5_gather, "SameAgain") ∈ nwM := by decide +kernel
theorem lk_X7_nearest_190 : (RX7, 190, "SameAgain$Files", "made", "I", "SameAgain") ∈ nwF := by decide +kernel
theorem wd_X7_nearest_ini_X1 : Cond.initialized RX1 ∈ wsX7_nearest := by decide +kernel
theorem wd_X7_nearest_im_X1_has : Cond.instanceMethod yX1_has ∈ wsX7_nearest := by decide +kernel
theorem wd_X7_nearest_se_X1_has : Cond.selects RX1 yX1_has yX1_has ∈ wsX7_nearest := by decide +kernel
theorem nm_X7_nearest_208 : (RX7, 208, yX1_has, "SameAgain") ∈ nwM := by decide +kernel
theorem lk_X7_nearest_44 : Cond.fieldLink RX7 44 "SameAgain" "otherPieces" "LSameAgain$Pieces;" ∈ wsX7_nearest := by decide +kernel
theorem wd_X7_nearest_im_X5_nearnessTo : Cond.instanceMethod yX5_nearnessTo ∈ wsX7_nearest := by decide +kernel
theorem wd_X7_nearest_se_X5_nearnessTo : Cond.selects RX5 yX5_nearnessTo yX5_nearnessTo ∈ wsX7_nearest := by decide +kernel
theorem nm_X7_nearest_202 : (RX7, 202, yX5_nearnessTo, "SameAgain") ∈ nwM := by decide +kernel
set_option maxHeartbeats 4000000 in
set_option maxRecDepth 100000 in
theorem w_X7_nearest_b16_j {G : Gt} {X : Cxt} {Q : State → Prop} (C : Cx G X cX7_nearest RX7 wsX7_nearest 7 rm_X7_nearest) {post : Int32 → Mem → Prop} (hQ : RetI G X Q post .int 2 12) {xq : XP} (hX : Xq G X Q xq 2 12) {μ : Mem} (h : w_X7_nearest_b16 post xq μ) : J G X Q 7 1 6 16 [] [] μ := by
  unfold w_X7_nearest_b16 at h
  exact j_thr (text := "least is not 0 to 1000") C hX (by decide) b0_iae b1_iae b2_iae b5_iae wd_X7_nearest_cl143 wd_X7_nearest_in_iae (by decide +kernel) hat_X7_nearest_iae hng_iae hgo_iae dX7_nearest_16 dX7_nearest_19 (Or.inl ⟨dX7_nearest_20, rfl⟩) dX7_nearest_22 dX7_nearest_25 (by decide) (Nat.le_of_ble_eq_true rfl) (by decide) (by decide) (by decide) (by decide) h
set_option maxHeartbeats 4000000 in
set_option maxRecDepth 100000 in
theorem w_X7_nearest_b56_j {G : Gt} {X : Cxt} {Q : State → Prop} (C : Cx G X cX7_nearest RX7 wsX7_nearest 7 rm_X7_nearest) {post : Int32 → Mem → Prop} (hQ : RetI G X Q post .int 2 12) {xq : XP} (hX : Xq G X Q xq 2 12) : ∀ (n : Nat) (v1 v3 v4 v5 : Int32) (μ : Mem), itr (fun _ _ _ _ _ => False) (w_X7_nearest_b56 post xq) n v1 v3 v4 v5 μ → J G X Q 7 1 6 56 [(0, .ref (ad G 0)), (1, .int v1), (3, .int v3), (4, .int v4), (5, .int v5)] [] μ := by
  intro n
  induction n with
  | zero => intro v1 v3 v4 v5 μ h; exact h.elim
  | succ n ih =>
    intro v1 v3 v4 v5 μ h
    replace h : w_X7_nearest_b56 post xq (itr (fun _ _ _ _ _ => False) (w_X7_nearest_b56 post xq) n) v1 v3 v4 v5 μ := h
    generalize itr (fun _ _ _ _ _ => False) (w_X7_nearest_b56 post xq) n = k56 at ih h
    have hk56 := ih
    unfold w_X7_nearest_b56 at h
    refine j_iload C 4 dX7_nearest_56 rfl ?_
    refine j_aload_n C 0 dX7_nearest_58 rfl ?_
    refine j_getR C 0 1 sh_0 (by decide) cl_X7 (by decide) rfl in_X7_nearest_X7 lk_X7_nearest_19 rfl dX7_nearest_59 ?_
    refine j_getIN C 2 4 sh_2 (by decide) cl_X1 (by decide) rfl in_X7_nearest_X1 lk_X7_nearest_190 rfl dX7_nearest_62 ?_
    refine j_icmp_ge C 156 dX7_nearest_65 (by decide) (fun c15 => ?_) (fun c15 => ?_)
    · replace h := h.1 c15
      refine j_iload_n C 2 dX7_nearest_156 rfl ?_
      exact j_iret C hQ (by decide) (by decide) h dX7_nearest_157
    · replace h := h.2 c15
      refine j_aload_n C 0 dX7_nearest_68 rfl ?_
      refine j_getR C 0 1 sh_0 (by decide) cl_X7 (by decide) rfl in_X7_nearest_X7 lk_X7_nearest_19 rfl dX7_nearest_69 ?_
      refine j_iload C 4 dX7_nearest_72 rfl ?_
      refine j_cNI (n := 1) (rest := []) C 2 (c_X1_has (xl X) G C.2.2.1 _ v5 μ) h gX7_nearest_X1_has_n208 nm_X7_nearest_208 wd_X7_nearest_ini_X1 wd_X7_nearest_im_X1_has wd_X7_nearest_se_X1_has rfl ⟨rfl, rfl⟩ (by decide +kernel) ⟨by decide, by decide⟩ ⟨by decide, by decide⟩ sh_2 (by decide) cl_X1 rfl rfl (Nat.le_of_ble_eq_true rfl) dX7_nearest_74 rfl rfl (fun r5 μ4 h => ?_)
      refine j_if_eq C 150 dX7_nearest_77 (by decide) (fun c14 => ?_) (fun c14 => ?_)
      · replace h := h.1 c14
        refine j_iinc (v := v5 + (1 : Int32)) (lv' := [(0, .ref (ad G 0)), (1, .int v1), (3, .int v3), (4, .int v4), (5, .int (v5 + (1 : Int32)))]) C 4 dX7_nearest_150 rfl rfl (by decide) rfl rfl ?_
        refine j_goto C 56 dX7_nearest_153 (by decide) ?_
        exact hk56 _ _ _ _ _ h
      · replace h := h.2 c14
        refine j_aload_n C 0 dX7_nearest_80 rfl ?_
        refine j_getR C 0 1 sh_0 (by decide) cl_X7 (by decide) rfl in_X7_nearest_X7 lk_X7_nearest_19 rfl dX7_nearest_81 ?_
        refine j_getRN C 2 2 sh_2 (by decide) cl_X1 (by decide) rfl in_X7_nearest_X1 lk_X7_nearest_112 rfl dX7_nearest_84 ?_
        refine j_iload C 4 dX7_nearest_87 rfl ?_
        have b6 := h.1
        replace h := h.2
        refine j_iald C 16 sh_16 (by decide) b6 dX7_nearest_89 ?_
        refine j_aload_n C 0 dX7_nearest_90 rfl ?_
        refine j_getR C 0 1 sh_0 (by decide) cl_X7 (by decide) rfl in_X7_nearest_X7 lk_X7_nearest_19 rfl dX7_nearest_91 ?_
        refine j_getRN C 2 2 sh_2 (by decide) cl_X1 (by decide) rfl in_X7_nearest_X1 lk_X7_nearest_112 rfl dX7_nearest_94 ?_
        refine j_iload_n C 1 dX7_nearest_97 rfl ?_
        have b7 := h.1
        replace h := h.2
        refine j_iald C 16 sh_16 (by decide) b7 dX7_nearest_98 ?_
        refine j_icmp_eq C 150 dX7_nearest_99 (by decide) (fun c13 => ?_) (fun c13 => ?_)
        · replace h := h.1 c13
          refine j_iinc (v := v5 + (1 : Int32)) (lv' := [(0, .ref (ad G 0)), (1, .int v1), (3, .int v3), (4, .int v4), (5, .int (v5 + (1 : Int32)))]) C 4 dX7_nearest_150 rfl rfl (by decide) rfl rfl ?_
          refine j_goto C 56 dX7_nearest_153 (by decide) ?_
          exact hk56 _ _ _ _ _ h
        · replace h := h.2 c13
          refine j_aload_n C 0 dX7_nearest_102 rfl ?_
          refine j_getR C 0 5 sh_0 (by decide) cl_X7 (by decide) rfl in_X7_nearest_X7 lk_X7_nearest_44 rfl dX7_nearest_103 ?_
          refine j_aload_n C 0 dX7_nearest_106 rfl ?_
          refine j_getR C 0 2 sh_0 (by decide) cl_X7 (by decide) rfl in_X7_nearest_X7 lk_X7_nearest_26 rfl dX7_nearest_107 ?_
          refine j_aload_n C 0 dX7_nearest_110 rfl ?_
          refine j_getR C 0 1 sh_0 (by decide) cl_X7 (by decide) rfl in_X7_nearest_X7 lk_X7_nearest_19 rfl dX7_nearest_111 ?_
          refine j_getRN C 2 2 sh_2 (by decide) cl_X1 (by decide) rfl in_X7_nearest_X1 lk_X7_nearest_112 rfl dX7_nearest_114 ?_
          refine j_iload C 4 dX7_nearest_117 rfl ?_
          have b8 := h.1
          replace h := h.2
          refine j_iald C 16 sh_16 (by decide) b8 dX7_nearest_119 ?_
          refine j_cNV (n := 2) (rest := []) C 6 (c_X5_gather_6 (xl X) G C.2.2.1 _ (μ4 16 (ix v5)) μ4) h gX7_nearest_X5_gather_n198 nm_X7_nearest_198 wd_X7_nearest_ini_X5 wd_X7_nearest_im_X5_gather wd_X7_nearest_se_X5_gather rfl ⟨rfl, rfl⟩ (by decide +kernel) ⟨by decide, by decide⟩ ⟨by decide, by decide⟩ sh_6 (by decide) cl_X5 rfl rfl (Nat.le_of_ble_eq_true rfl) dX7_nearest_120 rfl rfl (fun μ9 h => ?_)
          refine j_aload_n C 0 dX7_nearest_123 rfl ?_
          refine j_getR C 0 4 sh_0 (by decide) cl_X7 (by decide) rfl in_X7_nearest_X7 lk_X7_nearest_40 rfl dX7_nearest_124 ?_
          refine j_aload_n C 0 dX7_nearest_127 rfl ?_
          refine j_getR C 0 5 sh_0 (by decide) cl_X7 (by decide) rfl in_X7_nearest_X7 lk_X7_nearest_44 rfl dX7_nearest_128 ?_
          refine j_cNI (n := 1) (rest := []) C 5 (c_X5_nearnessTo_5 (xl X) G C.2.2.1 _ μ9) h gX7_nearest_X5_nearnessTo_n202 nm_X7_nearest_202 wd_X7_nearest_ini_X5 wd_X7_nearest_im_X5_nearnessTo wd_X7_nearest_se_X5_nearnessTo rfl ⟨rfl, rfl⟩ (by decide +kernel) ⟨by decide, by decide⟩ ⟨by decide, by decide⟩ sh_5 (by decide) cl_X5 rfl rfl (Nat.le_of_ble_eq_true rfl) dX7_nearest_131 rfl rfl (fun r11 μ10 h => ?_)
          refine j_istore (lv' := [(0, .ref (ad G 0)), (1, .int v1), (3, .int v3), (4, .int v4), (5, .int v5), (6, .int r11)]) C dX7_nearest_134 (by decide) rfl rfl ?_
          refine j_iload C 5 dX7_nearest_136 rfl ?_
          refine j_iload C 3 dX7_nearest_138 rfl ?_
          refine j_icmp_le C 150 dX7_nearest_140 (by decide) (fun c12 => ?_) (fun c12 => ?_)
          · replace h := h.1 c12
            refine j_iinc (v := v5 + (1 : Int32)) (lv' := [(0, .ref (ad G 0)), (1, .int v1), (3, .int v3), (4, .int v4), (5, .int (v5 + (1 : Int32))), (6, .int r11)]) C 4 dX7_nearest_150 rfl rfl (by decide) rfl rfl ?_
            refine j_goto C 56 dX7_nearest_153 (by decide) ?_
            refine j_forget [0, 1, 2, 3, 4] rfl ?_
            exact hk56 _ _ _ _ _ h
          · replace h := h.2 c12
            refine j_iload C 4 dX7_nearest_143 rfl ?_
            refine j_istore_n (lv' := [(0, .ref (ad G 0)), (1, .int v1), (3, .int v5), (4, .int v4), (5, .int v5), (6, .int r11)]) C dX7_nearest_145 (by decide) rfl rfl ?_
            refine j_iload C 5 dX7_nearest_146 rfl ?_
            refine j_istore (lv' := [(0, .ref (ad G 0)), (1, .int v1), (3, .int v5), (4, .int r11), (5, .int v5), (6, .int r11)]) C dX7_nearest_148 (by decide) rfl rfl ?_
            refine j_iinc (v := v5 + (1 : Int32)) (lv' := [(0, .ref (ad G 0)), (1, .int v1), (3, .int v5), (4, .int r11), (5, .int (v5 + (1 : Int32))), (6, .int r11)]) C 4 dX7_nearest_150 rfl rfl (by decide) rfl rfl ?_
            refine j_goto C 56 dX7_nearest_153 (by decide) ?_
            refine j_forget [0, 1, 2, 3, 4] rfl ?_
            exact hk56 _ _ _ _ _ h
set_option maxHeartbeats 4000000 in
set_option maxRecDepth 100000 in
theorem c_X7_nearest (l : Launch) (G : Gt) (hD : Dj G) (hs : l.stackTraces = false) (post : Int32 → Mem → Prop) (xq : XP) (a1 a2 : Int32) (μ : Mem) : XI G l yX7_nearest wsX7_nearest rm_X7_nearest 2 12 [.ref (ad G 0), .int a1, .int a2] μ (w_X7_nearest post xq a1 a2 μ) post xq := by
  refine xI_of (cc := cX7_nearest) (maxL := 7) (ty := .int) (lv0 := [(0, .ref (ad G 0)), (1, .int a1), (2, .int a2)]) hD hs (by decide) rfl (Nat.le_of_ble_eq_true rfl) rfl ?_
  intro X Q hl C hQ hX h
  subst hl
  replace C : Cx G X cX7_nearest RX7 wsX7_nearest 7 rm_X7_nearest := C
  unfold w_X7_nearest at h
  refine j_aload_n C 0 dX7_nearest_0 rfl ?_
  refine j_iload_n C 1 dX7_nearest_1 rfl ?_
  refine j_xVV (n := 1) (rest := []) C hX 0 (c_X7_needFile (xl X) G C.2.2.1 hX.2.2 _ xq a1 μ) h gX7_nearest_X7_needFile rfl ⟨rfl, rfl⟩ (by decide +kernel) ⟨by decide, by decide⟩ ⟨by decide, by decide⟩ ⟨by decide, by decide⟩ sh_0 (by decide) cl_X7 rfl rfl (Nat.le_of_ble_eq_true rfl) dX7_nearest_2 rfl rfl (fun μ1 h => ?_)
  refine j_iload_n C 2 dX7_nearest_5 rfl ?_
  refine j_if_lt C 16 dX7_nearest_6 (by decide) (fun c17 => ?_) (fun c17 => ?_)
  · replace h := h.1 c17
    refine j_forget [] rfl ?_
    exact w_X7_nearest_b16_j C hQ hX h
  · replace h := h.2 c17
    refine j_iload_n C 2 dX7_nearest_9 rfl ?_
    refine j_sipush (v := 1000) C dX7_nearest_10 (by decide) ?_
    refine j_icmp_le C 26 dX7_nearest_13 (by decide) (fun c16 => ?_) (fun c16 => ?_)
    · replace h := h.1 c16
      refine j_aload_n C 0 dX7_nearest_26 rfl ?_
      refine j_getR C 0 4 sh_0 (by decide) cl_X7 (by decide) rfl in_X7_nearest_X7 lk_X7_nearest_40 rfl dX7_nearest_27 ?_
      refine j_aload_n C 0 dX7_nearest_30 rfl ?_
      refine j_getR C 0 2 sh_0 (by decide) cl_X7 (by decide) rfl in_X7_nearest_X7 lk_X7_nearest_26 rfl dX7_nearest_31 ?_
      refine j_aload_n C 0 dX7_nearest_34 rfl ?_
      refine j_getR C 0 1 sh_0 (by decide) cl_X7 (by decide) rfl in_X7_nearest_X7 lk_X7_nearest_19 rfl dX7_nearest_35 ?_
      refine j_getRN C 2 2 sh_2 (by decide) cl_X1 (by decide) rfl in_X7_nearest_X1 lk_X7_nearest_112 rfl dX7_nearest_38 ?_
      refine j_iload_n C 1 dX7_nearest_41 rfl ?_
      have b2 := h.1
      replace h := h.2
      refine j_iald C 16 sh_16 (by decide) b2 dX7_nearest_42 ?_
      refine j_cNV (n := 2) (rest := []) C 5 (c_X5_gather_5 (xl X) G C.2.2.1 _ (μ1 16 (ix a1)) μ1) h gX7_nearest_X5_gather_n198 nm_X7_nearest_198 wd_X7_nearest_ini_X5 wd_X7_nearest_im_X5_gather wd_X7_nearest_se_X5_gather rfl ⟨rfl, rfl⟩ (by decide +kernel) ⟨by decide, by decide⟩ ⟨by decide, by decide⟩ sh_5 (by decide) cl_X5 rfl rfl (Nat.le_of_ble_eq_true rfl) dX7_nearest_43 rfl rfl (fun μ3 h => ?_)
      refine j_iconst (v := -1) C dX7_nearest_46 (by decide) ?_
      refine j_istore_n (lv' := [(0, .ref (ad G 0)), (1, .int a1), (2, .int a2), (3, .int (-1 : Int32))]) C dX7_nearest_47 (by decide) rfl rfl ?_
      refine j_iload_n C 2 dX7_nearest_48 rfl ?_
      refine j_iconst (v := 1) C dX7_nearest_49 (by decide) ?_
      refine j_isub C dX7_nearest_50 ?_
      refine j_istore (lv' := [(0, .ref (ad G 0)), (1, .int a1), (2, .int a2), (3, .int (-1 : Int32)), (4, .int (a2 - (1 : Int32)))]) C dX7_nearest_51 (by decide) rfl rfl ?_
      refine j_iconst (v := 0) C dX7_nearest_53 (by decide) ?_
      refine j_istore (lv' := [(0, .ref (ad G 0)), (1, .int a1), (2, .int a2), (3, .int (-1 : Int32)), (4, .int (a2 - (1 : Int32))), (5, .int (0 : Int32))]) C dX7_nearest_54 (by decide) rfl rfl ?_
      refine j_forget [0, 1, 3, 4, 5] rfl ?_
      obtain ⟨n9, h⟩ := h
      exact w_X7_nearest_b56_j C hQ hX n9 _ _ _ _ _ h
    · replace h := h.2 c16
      refine j_forget [] rfl ?_
      exact w_X7_nearest_b16_j C hQ hX h
/-! X7_reads -/
abbrev rm_X7_reads : Room := { frames := 0, cells := 0, slots := 0, locals := 0 }
theorem in_X7_reads_X7 : ∀ w ∈ wsX70, w ∈ wsX7_reads := by decide +kernel
theorem lk_X7_reads_33 : Cond.fieldLink RX7 33 "SameAgain" "findings" "LSameAgain$Findings;" ∈ wsX7_reads := by decide +kernel
theorem in_X7_reads_X2 : ∀ w ∈ wsX20, w ∈ wsX7_reads := by decide +kernel
theorem lk_X7_reads_181 : (RX7, 181, "SameAgain$Findings", "blocksRead", "I", "SameAgain") ∈ nwF := by decide +kernel
set_option maxHeartbeats 4000000 in
set_option maxRecDepth 100000 in
theorem c_X7_reads (l : Launch) (G : Gt) (hD : Dj G) (post : Int32 → Mem → Prop) (μ : Mem) : MI G l yX7_reads wsX7_reads rm_X7_reads 0 0 [.ref (ad G 0)] μ (w_X7_reads post μ) post := by
  refine mI_of (cc := cX7_reads) (maxL := 1) (ty := .int) (lv0 := [(0, .ref (ad G 0))]) hD (by decide) rfl (Nat.le_of_ble_eq_true rfl) rfl ?_
  intro X Q hl C hQ h
  subst hl
  replace C : Cx G X cX7_reads RX7 wsX7_reads 1 rm_X7_reads := C
  unfold w_X7_reads at h
  refine j_aload_n C 0 dX7_reads_0 rfl ?_
  refine j_getR C 0 3 sh_0 (by decide) cl_X7 (by decide) rfl in_X7_reads_X7 lk_X7_reads_33 rfl dX7_reads_1 ?_
  refine j_getIN C 4 4 sh_4 (by decide) cl_X2 (by decide) rfl in_X7_reads_X2 lk_X7_reads_181 rfl dX7_reads_4 ?_
  exact j_iret C hQ (by decide) (by decide) h dX7_reads_7
/-! X7_remove -/
abbrev rm_X7_remove : Room := { frames := 7, cells := 1, slots := 6, locals := 103 }
theorem in_X7_remove_X7 : ∀ w ∈ wsX70, w ∈ wsX7_remove := by decide +kernel
theorem lk_X7_remove_19 : Cond.fieldLink RX7 19 "SameAgain" "files" "LSameAgain$Files;" ∈ wsX7_remove := by decide +kernel
theorem in_X7_remove_X1 : ∀ w ∈ wsX10, w ∈ wsX7_remove := by decide +kernel
theorem lk_X7_remove_130 : (RX7, 130, "SameAgain$Files", "held", "[Z", "SameAgain") ∈ nwF := by decide +kernel
theorem lk_X7_remove_112 : (RX7, 112, "SameAgain$Files", "body", "[I", "SameAgain") ∈ nwF := by decide +kernel
theorem wd_X7_remove_ini_X1 : Cond.initialized RX1 ∈ wsX7_remove := by decide +kernel
theorem wd_X7_remove_im_X1_drop : Cond.instanceMethod yX1_drop ∈ wsX7_remove := by decide +kernel
theorem wd_X7_remove_se_X1_drop : Cond.selects RX1 yX1_drop yX1_drop ∈ wsX7_remove := by decide +kernel
theorem nm_X7_remove_133 : (RX7, 133, yX1_drop, "SameAgain") ∈ nwM := by decide +kernel
theorem wd_X7_remove_im_X1_having : Cond.instanceMethod yX1_having ∈ wsX7_remove := by decide +kernel
theorem wd_X7_remove_se_X1_having : Cond.selects RX1 yX1_having yX1_having ∈ wsX7_remove := by decide +kernel
theorem nm_X7_remove_136 : (RX7, 136, yX1_having, "SameAgain") ∈ nwM := by decide +kernel
set_option maxHeartbeats 4000000 in
set_option maxRecDepth 100000 in
theorem c_X7_remove (l : Launch) (G : Gt) (hD : Dj G) (hs : l.stackTraces = false) (post : Int32 → Mem → Prop) (xq : XP) (a1 : Int32) (μ : Mem) : XI G l yX7_remove wsX7_remove rm_X7_remove 1 6 [.ref (ad G 0), .int a1] μ (w_X7_remove post xq a1 μ) post xq := by
  refine xI_of (cc := cX7_remove) (maxL := 3) (ty := .int) (lv0 := [(0, .ref (ad G 0)), (1, .int a1)]) hD hs (by decide) rfl (Nat.le_of_ble_eq_true rfl) rfl ?_
  intro X Q hl C hQ hX h
  subst hl
  replace C : Cx G X cX7_remove RX7 wsX7_remove 3 rm_X7_remove := C
  unfold w_X7_remove at h
  refine j_aload_n C 0 dX7_remove_0 rfl ?_
  refine j_iload_n C 1 dX7_remove_1 rfl ?_
  refine j_xVV (n := 1) (rest := []) C hX 0 (c_X7_needFile (xl X) G C.2.2.1 hX.2.2 _ xq a1 μ) h gX7_remove_X7_needFile rfl ⟨rfl, rfl⟩ (by decide +kernel) ⟨by decide, by decide⟩ ⟨by decide, by decide⟩ ⟨by decide, by decide⟩ sh_0 (by decide) cl_X7 rfl rfl (Nat.le_of_ble_eq_true rfl) dX7_remove_2 rfl rfl (fun μ1 h => ?_)
  refine j_aload_n C 0 dX7_remove_5 rfl ?_
  refine j_getR C 0 1 sh_0 (by decide) cl_X7 (by decide) rfl in_X7_remove_X7 lk_X7_remove_19 rfl dX7_remove_6 ?_
  refine j_getRN C 2 3 sh_2 (by decide) cl_X1 (by decide) rfl in_X7_remove_X1 lk_X7_remove_130 rfl dX7_remove_9 ?_
  refine j_iload_n C 1 dX7_remove_12 rfl ?_
  have b2 := h.1
  replace h := h.2
  refine j_zald C 17 sh_17 (by decide) b2 dX7_remove_13 ?_
  refine j_if_eq C 19 dX7_remove_14 (by decide) (fun c7 => ?_) (fun c7 => ?_)
  · replace h := h.1 c7
    refine j_aload_n C 0 dX7_remove_19 rfl ?_
    refine j_getR C 0 1 sh_0 (by decide) cl_X7 (by decide) rfl in_X7_remove_X7 lk_X7_remove_19 rfl dX7_remove_20 ?_
    refine j_getRN C 2 2 sh_2 (by decide) cl_X1 (by decide) rfl in_X7_remove_X1 lk_X7_remove_112 rfl dX7_remove_23 ?_
    refine j_iload_n C 1 dX7_remove_26 rfl ?_
    have b3 := h.1
    replace h := h.2
    refine j_iald C 16 sh_16 (by decide) b3 dX7_remove_27 ?_
    refine j_istore_n (lv' := [(0, .ref (ad G 0)), (1, .int a1), (2, .int (μ1 16 (ix a1)))]) C dX7_remove_28 (by decide) rfl rfl ?_
    refine j_aload_n C 0 dX7_remove_29 rfl ?_
    refine j_getR C 0 1 sh_0 (by decide) cl_X7 (by decide) rfl in_X7_remove_X7 lk_X7_remove_19 rfl dX7_remove_30 ?_
    refine j_iload_n C 1 dX7_remove_33 rfl ?_
    refine j_cNV (n := 1) (rest := []) C 2 (c_X1_drop (xl X) G C.2.2.1 _ a1 μ1) h gX7_remove_X1_drop_n133 nm_X7_remove_133 wd_X7_remove_ini_X1 wd_X7_remove_im_X1_drop wd_X7_remove_se_X1_drop rfl ⟨rfl, rfl⟩ (by decide +kernel) ⟨by decide, by decide⟩ ⟨by decide, by decide⟩ sh_2 (by decide) cl_X1 rfl rfl (Nat.le_of_ble_eq_true rfl) dX7_remove_34 rfl rfl (fun μ4 h => ?_)
    refine j_aload_n C 0 dX7_remove_37 rfl ?_
    refine j_getR C 0 1 sh_0 (by decide) cl_X7 (by decide) rfl in_X7_remove_X7 lk_X7_remove_19 rfl dX7_remove_38 ?_
    refine j_iload_n C 2 dX7_remove_41 rfl ?_
    refine j_cNI (n := 1) (rest := []) C 2 (c_X1_having (xl X) G C.2.2.1 _ (μ1 16 (ix a1)) μ4) h gX7_remove_X1_having_n136 nm_X7_remove_136 wd_X7_remove_ini_X1 wd_X7_remove_im_X1_having wd_X7_remove_se_X1_having rfl ⟨rfl, rfl⟩ (by decide +kernel) ⟨by decide, by decide⟩ ⟨by decide, by decide⟩ sh_2 (by decide) cl_X1 rfl rfl (Nat.le_of_ble_eq_true rfl) dX7_remove_42 rfl rfl (fun r6 μ5 h => ?_)
    exact j_iret C hQ (by decide) (by decide) h dX7_remove_45
  · replace h := h.2 c7
    refine j_iconst (v := -1) C dX7_remove_17 (by decide) ?_
    exact j_iret C hQ (by decide) (by decide) h dX7_remove_18
/-! X7_unmerge -/
abbrev rm_X7_unmerge : Room := { frames := 2, cells := 0, slots := 0, locals := 84 }
theorem in_X7_unmerge_X7 : ∀ w ∈ wsX70, w ∈ wsX7_unmerge := by decide +kernel
theorem lk_X7_unmerge_57 : Cond.fieldLink RX7 57 "SameAgain" "mergings" "LSameAgain$Mergings;" ∈ wsX7_unmerge := by decide +kernel
theorem in_X7_unmerge_X4 : ∀ w ∈ wsX40, w ∈ wsX7_unmerge := by decide +kernel
theorem lk_X7_unmerge_254 : (RX7, 254, "SameAgain$Mergings", "many", "I", "SameAgain") ∈ nwF := by decide +kernel
theorem lk_X7_unmerge_19 : Cond.fieldLink RX7 19 "SameAgain" "files" "LSameAgain$Files;" ∈ wsX7_unmerge := by decide +kernel
theorem wd_X7_unmerge_ini_X4 : Cond.initialized RX4 ∈ wsX7_unmerge := by decide +kernel
theorem wd_X7_unmerge_im_X4_stillMerged : Cond.instanceMethod yX4_stillMerged ∈ wsX7_unmerge := by decide +kernel
theorem wd_X7_unmerge_se_X4_stillMerged : Cond.selects RX4 yX4_stillMerged yX4_stillMerged ∈ wsX7_unmerge := by decide +kernel
theorem nm_X7_unmerge_255 : (RX7, 255, yX4_stillMerged, "SameAgain") ∈ nwM := by decide +kernel
theorem lk_X7_unmerge_26 : Cond.fieldLink RX7 26 "SameAgain" "bodies" "LSameAgain$Bodies;" ∈ wsX7_unmerge := by decide +kernel
theorem wd_X7_unmerge_ini_X0 : Cond.initialized RX0 ∈ wsX7_unmerge := by decide +kernel
theorem wd_X7_unmerge_im_X0_hasRoomFor : Cond.instanceMethod yX0_hasRoomFor ∈ wsX7_unmerge := by decide +kernel
theorem wd_X7_unmerge_se_X0_hasRoomFor : Cond.selects RX0 yX0_hasRoomFor yX0_hasRoomFor ∈ wsX7_unmerge := by decide +kernel
theorem nm_X7_unmerge_102 : (RX7, 102, yX0_hasRoomFor, "SameAgain") ∈ nwM := by decide +kernel
theorem in_X7_unmerge_X1 : ∀ w ∈ wsX10, w ∈ wsX7_unmerge := by decide +kernel
theorem lk_X7_unmerge_190 : (RX7, 190, "SameAgain$Files", "made", "I", "SameAgain") ∈ nwF := by decide +kernel
theorem wd_X7_unmerge_im_X4_dropLatest : Cond.instanceMethod yX4_dropLatest ∈ wsX7_unmerge := by decide +kernel
theorem wd_X7_unmerge_se_X4_dropLatest : Cond.selects RX4 yX4_dropLatest yX4_dropLatest ∈ wsX7_unmerge := by decide +kernel
theorem nm_X7_unmerge_266 : (RX7, 266, yX4_dropLatest, "SameAgain") ∈ nwM := by decide +kernel
theorem wd_X7_unmerge_im_X4_isStillMerged : Cond.instanceMethod yX4_isStillMerged ∈ wsX7_unmerge := by decide +kernel
theorem wd_X7_unmerge_se_X4_isStillMerged : Cond.selects RX4 yX4_isStillMerged yX4_isStillMerged ∈ wsX7_unmerge := by decide +kernel
theorem nm_X7_unmerge_259 : (RX7, 259, yX4_isStillMerged, "SameAgain") ∈ nwM := by decide +kernel
theorem lk_X7_unmerge_112 : (RX7, 112, "SameAgain$Files", "body", "[I", "SameAgain") ∈ nwF := by decide +kernel
theorem wd_X7_unmerge_im_X4_formerOwner : Cond.instanceMethod yX4_formerOwner ∈ wsX7_unmerge := by decide +kernel
theorem wd_X7_unmerge_se_X4_formerOwner : Cond.selects RX4 yX4_formerOwner yX4_formerOwner ∈ wsX7_unmerge := by decide +kernel
theorem nm_X7_unmerge_263 : (RX7, 263, yX4_formerOwner, "SameAgain") ∈ nwM := by decide +kernel
theorem in_X7_unmerge_X0 : ∀ w ∈ wsX00, w ∈ wsX7_unmerge := by decide +kernel
theorem lk_X7_unmerge_167 : (RX7, 167, "SameAgain$Bodies", "day", "[I", "SameAgain") ∈ nwF := by decide +kernel
theorem wd_X7_unmerge_im_X0_makeLike : Cond.instanceMethod yX0_makeLike ∈ wsX7_unmerge := by decide +kernel
theorem wd_X7_unmerge_se_X0_makeLike : Cond.selects RX0 yX0_makeLike yX0_makeLike ∈ wsX7_unmerge := by decide +kernel
theorem nm_X7_unmerge_118 : (RX7, 118, yX0_makeLike, "SameAgain") ∈ nwM := by decide +kernel
set_option maxHeartbeats 4000000 in
set_option maxRecDepth 100000 in
theorem w_X7_unmerge_b39_j {G : Gt} {X : Cxt} {Q : State → Prop} (C : Cx G X cX7_unmerge RX7 wsX7_unmerge 4 rm_X7_unmerge) {post : Int32 → Mem → Prop} (hQ : RetI G X Q post .int 0 0) : ∀ (n : Nat) (v1 v2 : Int32) (μ : Mem), itr (fun _ _ _ => False) (w_X7_unmerge_b39 post) n v1 v2 μ → J G X Q 4 0 0 39 [(0, .ref (ad G 0)), (1, .int v1), (2, .int v2)] [] μ := by
  intro n
  induction n with
  | zero => intro v1 v2 μ h; exact h.elim
  | succ n ih =>
    intro v1 v2 μ h
    replace h : w_X7_unmerge_b39 post (itr (fun _ _ _ => False) (w_X7_unmerge_b39 post) n) v1 v2 μ := h
    generalize itr (fun _ _ _ => False) (w_X7_unmerge_b39 post) n = k39 at ih h
    have hk39 := ih
    unfold w_X7_unmerge_b39 at h
    refine j_iload_n C 2 dX7_unmerge_39 rfl ?_
    refine j_aload_n C 0 dX7_unmerge_40 rfl ?_
    refine j_getR C 0 1 sh_0 (by decide) cl_X7 (by decide) rfl in_X7_unmerge_X7 lk_X7_unmerge_19 rfl dX7_unmerge_41 ?_
    refine j_getIN C 2 4 sh_2 (by decide) cl_X1 (by decide) rfl in_X7_unmerge_X1 lk_X7_unmerge_190 rfl dX7_unmerge_44 ?_
    refine j_icmp_ge C 115 dX7_unmerge_47 (by decide) (fun c18 => ?_) (fun c18 => ?_)
    · replace h := h.1 c18
      refine j_aload_n C 0 dX7_unmerge_115 rfl ?_
      refine j_getR C 0 7 sh_0 (by decide) cl_X7 (by decide) rfl in_X7_unmerge_X7 lk_X7_unmerge_57 rfl dX7_unmerge_116 ?_
      refine j_cNV (n := 0) (rest := []) C 8 (c_X4_dropLatest (xl X) G C.2.2.1 _ μ) h gX7_unmerge_X4_dropLatest_n266 nm_X7_unmerge_266 wd_X7_unmerge_ini_X4 wd_X7_unmerge_im_X4_dropLatest wd_X7_unmerge_se_X4_dropLatest rfl ⟨rfl, rfl⟩ (by decide +kernel) ⟨by decide, by decide⟩ ⟨by decide, by decide⟩ sh_8 (by decide) cl_X4 rfl rfl (Nat.le_of_ble_eq_true rfl) dX7_unmerge_119 rfl rfl (fun μ5 h => ?_)
      refine j_iload_n C 1 dX7_unmerge_122 rfl ?_
      exact j_iret C hQ (by decide) (by decide) h dX7_unmerge_123
    · replace h := h.2 c18
      refine j_aload_n C 0 dX7_unmerge_50 rfl ?_
      refine j_getR C 0 7 sh_0 (by decide) cl_X7 (by decide) rfl in_X7_unmerge_X7 lk_X7_unmerge_57 rfl dX7_unmerge_51 ?_
      refine j_aload_n C 0 dX7_unmerge_54 rfl ?_
      refine j_getR C 0 1 sh_0 (by decide) cl_X7 (by decide) rfl in_X7_unmerge_X7 lk_X7_unmerge_19 rfl dX7_unmerge_55 ?_
      refine j_iload_n C 2 dX7_unmerge_58 rfl ?_
      refine j_cNI (n := 2) (rest := []) C 8 (c_X4_isStillMerged (xl X) G C.2.2.1 _ v2 μ) h gX7_unmerge_X4_isStillMerged_n259 nm_X7_unmerge_259 wd_X7_unmerge_ini_X4 wd_X7_unmerge_im_X4_isStillMerged wd_X7_unmerge_se_X4_isStillMerged rfl ⟨rfl, rfl⟩ (by decide +kernel) ⟨by decide, by decide⟩ ⟨by decide, by decide⟩ sh_8 (by decide) cl_X4 rfl rfl (Nat.le_of_ble_eq_true rfl) dX7_unmerge_59 rfl rfl (fun r7 μ6 h => ?_)
      refine j_if_eq C 109 dX7_unmerge_62 (by decide) (fun c17 => ?_) (fun c17 => ?_)
      · replace h := h.1 c17
        refine j_iinc (v := v2 + (1 : Int32)) (lv' := [(0, .ref (ad G 0)), (1, .int v1), (2, .int (v2 + (1 : Int32)))]) C 2 dX7_unmerge_109 rfl rfl (by decide) rfl rfl ?_
        refine j_goto C 39 dX7_unmerge_112 (by decide) ?_
        exact hk39 _ _ _ h
      · replace h := h.2 c17
        refine j_aload_n C 0 dX7_unmerge_65 rfl ?_
        refine j_getR C 0 1 sh_0 (by decide) cl_X7 (by decide) rfl in_X7_unmerge_X7 lk_X7_unmerge_19 rfl dX7_unmerge_66 ?_
        refine j_getRN C 2 2 sh_2 (by decide) cl_X1 (by decide) rfl in_X7_unmerge_X1 lk_X7_unmerge_112 rfl dX7_unmerge_69 ?_
        refine j_iload_n C 2 dX7_unmerge_72 rfl ?_
        have b8 := h.1
        replace h := h.2
        refine j_iald C 16 sh_16 (by decide) b8 dX7_unmerge_73 ?_
        refine j_istore_n (lv' := [(0, .ref (ad G 0)), (1, .int v1), (2, .int v2), (3, .int (μ6 16 (ix v2)))]) C dX7_unmerge_74 (by decide) rfl rfl ?_
        refine j_aload_n C 0 dX7_unmerge_75 rfl ?_
        refine j_getR C 0 1 sh_0 (by decide) cl_X7 (by decide) rfl in_X7_unmerge_X7 lk_X7_unmerge_19 rfl dX7_unmerge_76 ?_
        refine j_getRN C 2 2 sh_2 (by decide) cl_X1 (by decide) rfl in_X7_unmerge_X1 lk_X7_unmerge_112 rfl dX7_unmerge_79 ?_
        refine j_iload_n C 2 dX7_unmerge_82 rfl ?_
        refine j_aload_n C 0 dX7_unmerge_83 rfl ?_
        refine j_getR C 0 2 sh_0 (by decide) cl_X7 (by decide) rfl in_X7_unmerge_X7 lk_X7_unmerge_26 rfl dX7_unmerge_84 ?_
        refine j_iload_n C 3 dX7_unmerge_87 rfl ?_
        refine j_aload_n C 0 dX7_unmerge_88 rfl ?_
        refine j_getR C 0 7 sh_0 (by decide) cl_X7 (by decide) rfl in_X7_unmerge_X7 lk_X7_unmerge_57 rfl dX7_unmerge_89 ?_
        refine j_iload_n C 2 dX7_unmerge_92 rfl ?_
        refine j_cNI (n := 1) (rest := [.int (μ6 16 (ix v2)), .ref (ad G 3), .int v2, .ref (ad G 16)]) C 8 (c_X4_formerOwner (xl X) G C.2.2.1 _ v2 μ6) h gX7_unmerge_X4_formerOwner_n263 nm_X7_unmerge_263 wd_X7_unmerge_ini_X4 wd_X7_unmerge_im_X4_formerOwner wd_X7_unmerge_se_X4_formerOwner rfl ⟨rfl, rfl⟩ (by decide +kernel) ⟨by decide, by decide⟩ ⟨by decide, by decide⟩ sh_8 (by decide) cl_X4 rfl rfl (Nat.le_of_ble_eq_true rfl) dX7_unmerge_93 rfl rfl (fun r10 μ9 h => ?_)
        refine j_aload_n C 0 dX7_unmerge_96 rfl ?_
        refine j_getR C 0 2 sh_0 (by decide) cl_X7 (by decide) rfl in_X7_unmerge_X7 lk_X7_unmerge_26 rfl dX7_unmerge_97 ?_
        refine j_getRN C 3 3 sh_3 (by decide) cl_X0 (by decide) rfl in_X7_unmerge_X0 lk_X7_unmerge_167 rfl dX7_unmerge_100 ?_
        refine j_iload_n C 3 dX7_unmerge_103 rfl ?_
        have b11 := h.1
        replace h := h.2
        refine j_iald C 21 sh_21 (by decide) b11 dX7_unmerge_104 ?_
        refine j_cNI (n := 3) (rest := [.int v2, .ref (ad G 16)]) C 3 (c_X0_makeLike (xl X) G C.2.2.1 _ (μ6 16 (ix v2)) r10 (μ9 21 (ix (μ6 16 (ix v2)))) μ9) h gX7_unmerge_X0_makeLike_n118 nm_X7_unmerge_118 wd_X7_unmerge_ini_X0 wd_X7_unmerge_im_X0_makeLike wd_X7_unmerge_se_X0_makeLike rfl ⟨rfl, rfl⟩ (by decide +kernel) ⟨by decide, by decide⟩ ⟨by decide, by decide⟩ sh_3 (by decide) cl_X0 rfl rfl (Nat.le_of_ble_eq_true rfl) dX7_unmerge_105 rfl rfl (fun r13 μ12 h => ?_)
        obtain ⟨μ14, e15⟩ : ∃ m, m = wr μ12 16 (ix v2) r13 := ⟨_, rfl⟩
        have b16 := h.1
        replace h := h.2 μ14 e15
        refine j_iast C 16 sh_16 (by decide) b16 dX7_unmerge_108 e15 ?_
        refine j_iinc (v := v2 + (1 : Int32)) (lv' := [(0, .ref (ad G 0)), (1, .int v1), (2, .int (v2 + (1 : Int32))), (3, .int (μ6 16 (ix v2)))]) C 2 dX7_unmerge_109 rfl rfl (by decide) rfl rfl ?_
        refine j_goto C 39 dX7_unmerge_112 (by decide) ?_
        refine j_forget [0, 1, 2] rfl ?_
        exact hk39 _ _ _ h
set_option maxHeartbeats 4000000 in
set_option maxRecDepth 100000 in
theorem c_X7_unmerge (l : Launch) (G : Gt) (hD : Dj G) (post : Int32 → Mem → Prop) (μ : Mem) : MI G l yX7_unmerge wsX7_unmerge rm_X7_unmerge 0 0 [.ref (ad G 0)] μ (w_X7_unmerge post μ) post := by
  refine mI_of (cc := cX7_unmerge) (maxL := 4) (ty := .int) (lv0 := [(0, .ref (ad G 0))]) hD (by decide) rfl (Nat.le_of_ble_eq_true rfl) rfl ?_
  intro X Q hl C hQ h
  subst hl
  replace C : Cx G X cX7_unmerge RX7 wsX7_unmerge 4 rm_X7_unmerge := C
  unfold w_X7_unmerge at h
  refine j_aload_n C 0 dX7_unmerge_0 rfl ?_
  refine j_getR C 0 7 sh_0 (by decide) cl_X7 (by decide) rfl in_X7_unmerge_X7 lk_X7_unmerge_57 rfl dX7_unmerge_1 ?_
  refine j_getIN C 8 3 sh_8 (by decide) cl_X4 (by decide) rfl in_X7_unmerge_X4 lk_X7_unmerge_254 rfl dX7_unmerge_4 ?_
  refine j_if_ne C 12 dX7_unmerge_7 (by decide) (fun c20 => ?_) (fun c20 => ?_)
  · replace h := h.1 c20
    refine j_aload_n C 0 dX7_unmerge_12 rfl ?_
    refine j_getR C 0 7 sh_0 (by decide) cl_X7 (by decide) rfl in_X7_unmerge_X7 lk_X7_unmerge_57 rfl dX7_unmerge_13 ?_
    refine j_aload_n C 0 dX7_unmerge_16 rfl ?_
    refine j_getR C 0 1 sh_0 (by decide) cl_X7 (by decide) rfl in_X7_unmerge_X7 lk_X7_unmerge_19 rfl dX7_unmerge_17 ?_
    refine j_cNI (n := 1) (rest := []) C 8 (c_X4_stillMerged (xl X) G C.2.2.1 _ μ) h gX7_unmerge_X4_stillMerged_n255 nm_X7_unmerge_255 wd_X7_unmerge_ini_X4 wd_X7_unmerge_im_X4_stillMerged wd_X7_unmerge_se_X4_stillMerged rfl ⟨rfl, rfl⟩ (by decide +kernel) ⟨by decide, by decide⟩ ⟨by decide, by decide⟩ sh_8 (by decide) cl_X4 rfl rfl (Nat.le_of_ble_eq_true rfl) dX7_unmerge_20 rfl rfl (fun r2 μ1 h => ?_)
    refine j_istore_n (lv' := [(0, .ref (ad G 0)), (1, .int r2)]) C dX7_unmerge_23 (by decide) rfl rfl ?_
    refine j_aload_n C 0 dX7_unmerge_24 rfl ?_
    refine j_getR C 0 2 sh_0 (by decide) cl_X7 (by decide) rfl in_X7_unmerge_X7 lk_X7_unmerge_26 rfl dX7_unmerge_25 ?_
    refine j_iload_n C 1 dX7_unmerge_28 rfl ?_
    refine j_cNI (n := 1) (rest := []) C 3 (c_X0_hasRoomFor (xl X) G C.2.2.1 _ r2 μ1) h gX7_unmerge_X0_hasRoomFor_n102 nm_X7_unmerge_102 wd_X7_unmerge_ini_X0 wd_X7_unmerge_im_X0_hasRoomFor wd_X7_unmerge_se_X0_hasRoomFor rfl ⟨rfl, rfl⟩ (by decide +kernel) ⟨by decide, by decide⟩ ⟨by decide, by decide⟩ sh_3 (by decide) cl_X0 rfl rfl (Nat.le_of_ble_eq_true rfl) dX7_unmerge_29 rfl rfl (fun r4 μ3 h => ?_)
    refine j_if_ne C 37 dX7_unmerge_32 (by decide) (fun c19 => ?_) (fun c19 => ?_)
    · replace h := h.1 c19
      refine j_iconst (v := 0) C dX7_unmerge_37 (by decide) ?_
      refine j_istore_n (lv' := [(0, .ref (ad G 0)), (1, .int r2), (2, .int (0 : Int32))]) C dX7_unmerge_38 (by decide) rfl rfl ?_
      obtain ⟨n9, h⟩ := h
      exact w_X7_unmerge_b39_j C hQ n9 _ _ _ h
    · replace h := h.2 c19
      refine j_iconst (v := -1) C dX7_unmerge_35 (by decide) ?_
      exact j_iret C hQ (by decide) (by decide) h dX7_unmerge_36
  · replace h := h.2 c20
    refine j_iconst (v := -1) C dX7_unmerge_10 (by decide) ?_
    exact j_iret C hQ (by decide) (by decide) h dX7_unmerge_11
/-! X7_unwish -/
abbrev rm_X7_unwish : Room := { frames := 0, cells := 0, slots := 0, locals := 0 }
theorem in_X7_unwish_X7 : ∀ w ∈ wsX70, w ∈ wsX7_unwish := by decide +kernel
theorem lk_X7_unwish_50 : Cond.fieldLink RX7 50 "SameAgain" "wishes" "LSameAgain$Wishes;" ∈ wsX7_unwish := by decide +kernel
theorem in_X7_unwish_X6 : ∀ w ∈ wsX60, w ∈ wsX7_unwish := by decide +kernel
theorem lk_X7_unwish_234 : (RX7, 234, "SameAgain$Wishes", "many", "I", "SameAgain") ∈ nwF := by decide +kernel
set_option maxHeartbeats 4000000 in
set_option maxRecDepth 100000 in
theorem c_X7_unwish (l : Launch) (G : Gt) (hD : Dj G) (post : Int32 → Mem → Prop) (μ : Mem) : MI G l yX7_unwish wsX7_unwish rm_X7_unwish 0 0 [.ref (ad G 0)] μ (w_X7_unwish post μ) post := by
  refine mI_of (cc := cX7_unwish) (maxL := 2) (ty := .int) (lv0 := [(0, .ref (ad G 0))]) hD (by decide) rfl (Nat.le_of_ble_eq_true rfl) rfl ?_
  intro X Q hl C hQ h
  subst hl
  replace C : Cx G X cX7_unwish RX7 wsX7_unwish 2 rm_X7_unwish := C
  unfold w_X7_unwish at h
  refine j_aload_n C 0 dX7_unwish_0 rfl ?_
  refine j_getR C 0 6 sh_0 (by decide) cl_X7 (by decide) rfl in_X7_unwish_X7 lk_X7_unwish_50 rfl dX7_unwish_1 ?_
  refine j_getIN C 7 2 sh_7 (by decide) cl_X6 (by decide) rfl in_X7_unwish_X6 lk_X7_unwish_234 rfl dX7_unwish_4 ?_
  refine j_istore_n (lv' := [(0, .ref (ad G 0)), (1, .int (μ 7 2))]) C dX7_unwish_7 (by decide) rfl rfl ?_
  refine j_aload_n C 0 dX7_unwish_8 rfl ?_
  refine j_getR C 0 6 sh_0 (by decide) cl_X7 (by decide) rfl in_X7_unwish_X7 lk_X7_unwish_50 rfl dX7_unwish_9 ?_
  refine j_iconst (v := 0) C dX7_unwish_12 (by decide) ?_
  obtain ⟨μ1, e2⟩ : ∃ m, m = wr μ 7 2 (0 : Int32) := ⟨_, rfl⟩
  replace h := h μ1 e2
  refine j_putN C 7 2 sh_7 (by decide) cl_X6 (by decide) rfl in_X7_unwish_X6 lk_X7_unwish_234 rfl tyX6_ok nmX6 rfl rfl dX7_unwish_13 e2 ?_
  refine j_iload_n C 1 dX7_unwish_16 rfl ?_
  exact j_iret C hQ (by decide) (by decide) h dX7_unwish_17
/-! X7_wish -/
abbrev rm_X7_wish : Room := { frames := 7, cells := 1, slots := 6, locals := 103 }
theorem hat_X7_wish_iae : ∀ w ∈ vz_iae.filter goodWord, w ∈ wsX7_wish := fun w hw => List.mem_cons_of_mem _ (List.mem_append_left _ (List.mem_append_right _ hw))
theorem wd_X7_wish_cl143 : Cond.classLink RX7 143 "java/lang/IllegalArgumentException" ∈ wsX7_wish := by decide +kernel
theorem wd_X7_wish_in_iae : Cond.initialized "java/lang/IllegalArgumentException" ∈ wsX7_wish := by decide +kernel
theorem in_X7_wish_X7 : ∀ w ∈ wsX70, w ∈ wsX7_wish := by decide +kernel
theorem lk_X7_wish_50 : Cond.fieldLink RX7 50 "SameAgain" "wishes" "LSameAgain$Wishes;" ∈ wsX7_wish := by decide +kernel
theorem wd_X7_wish_ini_X6 : Cond.initialized RX6 ∈ wsX7_wish := by decide +kernel
theorem wd_X7_wish_im_X6_hasRoom : Cond.instanceMethod yX6_hasRoom ∈ wsX7_wish := by decide +kernel
theorem wd_X7_wish_se_X6_hasRoom : Cond.selects RX6 yX6_hasRoom yX6_hasRoom ∈ wsX7_wish := by decide +kernel
theorem nm_X7_wish_227 : (RX7, 227, yX6_hasRoom, "SameAgain") ∈ nwM := by decide +kernel
theorem wd_X7_wish_im_X6_has : Cond.instanceMethod yX6_has ∈ wsX7_wish := by decide +kernel
theorem wd_X7_wish_se_X6_has : Cond.selects RX6 yX6_has yX6_has ∈ wsX7_wish := by decide +kernel
theorem nm_X7_wish_228 : (RX7, 228, yX6_has, "SameAgain") ∈ nwM := by decide +kernel
theorem wd_X7_wish_im_X6_add : Cond.instanceMethod yX6_add ∈ wsX7_wish := by decide +kernel
theorem wd_X7_wish_se_X6_add : Cond.selects RX6 yX6_add yX6_add ∈ wsX7_wish := by decide +kernel
theorem nm_X7_wish_230 : (RX7, 230, yX6_add, "SameAgain") ∈ nwM := by decide +kernel
theorem in_X7_wish_X6 : ∀ w ∈ wsX60, w ∈ wsX7_wish := by decide +kernel
theorem lk_X7_wish_234 : (RX7, 234, "SameAgain$Wishes", "many", "I", "SameAgain") ∈ nwF := by decide +kernel
set_option maxHeartbeats 4000000 in
set_option maxRecDepth 100000 in
theorem w_X7_wish_b9_j {G : Gt} {X : Cxt} {Q : State → Prop} (C : Cx G X cX7_wish RX7 wsX7_wish 4 rm_X7_wish) {post : Int32 → Mem → Prop} (hQ : RetI G X Q post .int 1 6) {xq : XP} (hX : Xq G X Q xq 1 6) {μ : Mem} (h : w_X7_wish_b9 post xq μ) : J G X Q 4 0 0 9 [] [] μ := by
  unfold w_X7_wish_b9 at h
  exact j_thr (text := "no such wish") C hX (by decide) b0_iae b1_iae b2_iae b5_iae wd_X7_wish_cl143 wd_X7_wish_in_iae (by decide +kernel) hat_X7_wish_iae hng_iae hgo_iae dX7_wish_9 dX7_wish_12 (Or.inl ⟨dX7_wish_13, rfl⟩) dX7_wish_15 dX7_wish_18 (by decide) (Nat.le_of_ble_eq_true rfl) (by decide) (by decide) (by decide) (by decide) h
set_option maxHeartbeats 4000000 in
set_option maxRecDepth 100000 in
theorem w_X7_wish_b37_j {G : Gt} {X : Cxt} {Q : State → Prop} (C : Cx G X cX7_wish RX7 wsX7_wish 4 rm_X7_wish) {post : Int32 → Mem → Prop} (hQ : RetI G X Q post .int 1 6) {xq : XP} (hX : Xq G X Q xq 1 6) {v1 s0 : Int32} {μ : Mem} (h : w_X7_wish_b37 post xq v1 s0 μ) : J G X Q 4 1 6 37 [(0, .ref (ad G 0)), (1, .int v1)] [.int s0] μ := by
  unfold w_X7_wish_b37 at h
  refine j_istore_n (lv' := [(0, .ref (ad G 0)), (1, .int v1), (3, .int s0)]) C dX7_wish_37 (by decide) rfl rfl ?_
  refine j_aload_n C 0 dX7_wish_38 rfl ?_
  refine j_getR C 0 6 sh_0 (by decide) cl_X7 (by decide) rfl in_X7_wish_X7 lk_X7_wish_50 rfl dX7_wish_39 ?_
  refine j_cNI (n := 0) (rest := []) C 7 (c_X6_hasRoom (xl X) G C.2.2.1 _ μ) h gX7_wish_X6_hasRoom_n227 nm_X7_wish_227 wd_X7_wish_ini_X6 wd_X7_wish_im_X6_hasRoom wd_X7_wish_se_X6_hasRoom rfl ⟨rfl, rfl⟩ (by decide +kernel) ⟨by decide, by decide⟩ ⟨by decide, by decide⟩ sh_7 (by decide) cl_X6 rfl rfl (Nat.le_of_ble_eq_true rfl) dX7_wish_42 rfl rfl (fun r2 μ1 h => ?_)
  refine j_if_eq C 60 dX7_wish_45 (by decide) (fun c7 => ?_) (fun c7 => ?_)
  · replace h := h.1 c7
    refine j_iconst (v := -1) C dX7_wish_60 (by decide) ?_
    exact j_iret C hQ (by decide) (by decide) h dX7_wish_61
  · replace h := h.2 c7
    refine j_aload_n C 0 dX7_wish_48 rfl ?_
    refine j_getR C 0 6 sh_0 (by decide) cl_X7 (by decide) rfl in_X7_wish_X7 lk_X7_wish_50 rfl dX7_wish_49 ?_
    refine j_iload_n C 1 dX7_wish_52 rfl ?_
    refine j_iload_n C 2 dX7_wish_53 rfl ?_
    refine j_cNI (n := 2) (rest := []) C 7 (c_X6_has (xl X) G C.2.2.1 _ v1 s0 μ1) h gX7_wish_X6_has_n228 nm_X7_wish_228 wd_X7_wish_ini_X6 wd_X7_wish_im_X6_has wd_X7_wish_se_X6_has rfl ⟨rfl, rfl⟩ (by decide +kernel) ⟨by decide, by decide⟩ ⟨by decide, by decide⟩ sh_7 (by decide) cl_X6 rfl rfl (Nat.le_of_ble_eq_true rfl) dX7_wish_54 rfl rfl (fun r4 μ3 h => ?_)
    refine j_if_eq C 62 dX7_wish_57 (by decide) (fun c6 => ?_) (fun c6 => ?_)
    · replace h := h.1 c6
      refine j_aload_n C 0 dX7_wish_62 rfl ?_
      refine j_getR C 0 6 sh_0 (by decide) cl_X7 (by decide) rfl in_X7_wish_X7 lk_X7_wish_50 rfl dX7_wish_63 ?_
      refine j_iload_n C 1 dX7_wish_66 rfl ?_
      refine j_iload_n C 2 dX7_wish_67 rfl ?_
      refine j_cNV (n := 2) (rest := []) C 7 (c_X6_add (xl X) G C.2.2.1 _ v1 s0 μ3) h gX7_wish_X6_add_n230 nm_X7_wish_230 wd_X7_wish_ini_X6 wd_X7_wish_im_X6_add wd_X7_wish_se_X6_add rfl ⟨rfl, rfl⟩ (by decide +kernel) ⟨by decide, by decide⟩ ⟨by decide, by decide⟩ sh_7 (by decide) cl_X6 rfl rfl (Nat.le_of_ble_eq_true rfl) dX7_wish_68 rfl rfl (fun μ5 h => ?_)
      refine j_aload_n C 0 dX7_wish_71 rfl ?_
      refine j_getR C 0 6 sh_0 (by decide) cl_X7 (by decide) rfl in_X7_wish_X7 lk_X7_wish_50 rfl dX7_wish_72 ?_
      refine j_getIN C 7 2 sh_7 (by decide) cl_X6 (by decide) rfl in_X7_wish_X6 lk_X7_wish_234 rfl dX7_wish_75 ?_
      exact j_iret C hQ (by decide) (by decide) h dX7_wish_78
    · replace h := h.2 c6
      refine j_iconst (v := -1) C dX7_wish_60 (by decide) ?_
      exact j_iret C hQ (by decide) (by decide) h dX7_wish_61
set_option maxHeartbeats 4000000 in
set_option maxRecDepth 100000 in
theorem w_X7_wish_b28_j {G : Gt} {X : Cxt} {Q : State → Prop} (C : Cx G X cX7_wish RX7 wsX7_wish 4 rm_X7_wish) {post : Int32 → Mem → Prop} (hQ : RetI G X Q post .int 1 6) {xq : XP} (hX : Xq G X Q xq 1 6) {v1 v2 : Int32} {μ : Mem} (h : w_X7_wish_b28 post xq v1 v2 μ) : J G X Q 4 1 6 28 [(0, .ref (ad G 0)), (1, .int v1), (2, .int v2)] [] μ := by
  unfold w_X7_wish_b28 at h
  refine j_iload_n C 1 dX7_wish_28 rfl ?_
  refine j_if_ne C 36 dX7_wish_29 (by decide) (fun c8 => ?_) (fun c8 => ?_)
  · replace h := h.1 c8
    refine j_iconst (v := -1) C dX7_wish_36 (by decide) ?_
    refine j_forget [0, 1] rfl ?_
    exact w_X7_wish_b37_j C hQ hX h
  · replace h := h.2 c8
    refine j_iload_n C 2 dX7_wish_32 rfl ?_
    refine j_goto C 37 dX7_wish_33 (by decide) ?_
    refine j_forget [0, 1] rfl ?_
    exact w_X7_wish_b37_j C hQ hX h
set_option maxHeartbeats 4000000 in
set_option maxRecDepth 100000 in
theorem c_X7_wish (l : Launch) (G : Gt) (hD : Dj G) (hs : l.stackTraces = false) (post : Int32 → Mem → Prop) (xq : XP) (a1 a2 : Int32) (μ : Mem) : XI G l yX7_wish wsX7_wish rm_X7_wish 1 6 [.ref (ad G 0), .int a1, .int a2] μ (w_X7_wish post xq a1 a2 μ) post xq := by
  refine xI_of (cc := cX7_wish) (maxL := 4) (ty := .int) (lv0 := [(0, .ref (ad G 0)), (1, .int a1), (2, .int a2)]) hD hs (by decide) rfl (Nat.le_of_ble_eq_true rfl) rfl ?_
  intro X Q hl C hQ hX h
  subst hl
  replace C : Cx G X cX7_wish RX7 wsX7_wish 4 rm_X7_wish := C
  unfold w_X7_wish at h
  refine j_iload_n C 1 dX7_wish_0 rfl ?_
  refine j_if_lt C 9 dX7_wish_1 (by decide) (fun c12 => ?_) (fun c12 => ?_)
  · replace h := h.1 c12
    refine j_forget [] rfl ?_
    exact w_X7_wish_b9_j C hQ hX h
  · replace h := h.2 c12
    refine j_iload_n C 1 dX7_wish_4 rfl ?_
    refine j_iconst (v := 5) C dX7_wish_5 (by decide) ?_
    refine j_icmp_le C 19 dX7_wish_6 (by decide) (fun c11 => ?_) (fun c11 => ?_)
    · replace h := h.1 c11
      refine j_iload_n C 1 dX7_wish_19 rfl ?_
      refine j_if_ne C 28 dX7_wish_20 (by decide) (fun c10 => ?_) (fun c10 => ?_)
      · replace h := h.1 c10
        refine j_widen (k1 := 1) (k2 := 6) (by decide) (by decide) ?_
        exact w_X7_wish_b28_j C hQ hX h
      · replace h := h.2 c10
        refine j_aload_n C 0 dX7_wish_23 rfl ?_
        refine j_iload_n C 2 dX7_wish_24 rfl ?_
        refine j_xVV (n := 1) (rest := []) C hX 0 (c_X7_needFolder (xl X) G C.2.2.1 hX.2.2 _ xq a2 μ) h gX7_wish_X7_needFolder rfl ⟨rfl, rfl⟩ (by decide +kernel) ⟨by decide, by decide⟩ ⟨by decide, by decide⟩ ⟨by decide, by decide⟩ sh_0 (by decide) cl_X7 rfl rfl (Nat.le_of_ble_eq_true rfl) dX7_wish_25 rfl rfl (fun μ9 h => ?_)
        exact w_X7_wish_b28_j C hQ hX h
    · replace h := h.2 c11
      refine j_forget [] rfl ?_
      exact w_X7_wish_b9_j C hQ hX h
/-! X7_write -/
abbrev rm_X7_write : Room := { frames := 7, cells := 2, slots := 12, locals := 103 }
theorem in_X7_write_X7 : ∀ w ∈ wsX70, w ∈ wsX7_write := by decide +kernel
theorem lk_X7_write_19 : Cond.fieldLink RX7 19 "SameAgain" "files" "LSameAgain$Files;" ∈ wsX7_write := by decide +kernel
theorem in_X7_write_X1 : ∀ w ∈ wsX10, w ∈ wsX7_write := by decide +kernel
theorem lk_X7_write_112 : (RX7, 112, "SameAgain$Files", "body", "[I", "SameAgain") ∈ nwF := by decide +kernel
theorem hat_X7_write_iae : ∀ w ∈ vz_iae.filter goodWord, w ∈ wsX7_write := fun w hw => List.mem_cons_of_mem _ (List.mem_append_left _ (List.mem_append_right _ hw))
theorem wd_X7_write_cl143 : Cond.classLink RX7 143 "java/lang/IllegalArgumentException" ∈ wsX7_write := by decide +kernel
theorem wd_X7_write_in_iae : Cond.initialized "java/lang/IllegalArgumentException" ∈ wsX7_write := by decide +kernel
theorem lk_X7_write_26 : Cond.fieldLink RX7 26 "SameAgain" "bodies" "LSameAgain$Bodies;" ∈ wsX7_write := by decide +kernel
theorem in_X7_write_X0 : ∀ w ∈ wsX00, w ∈ wsX7_write := by decide +kernel
theorem lk_X7_write_140 : (RX7, 140, "SameAgain$Bodies", "size", "[I", "SameAgain") ∈ nwF := by decide +kernel
theorem wd_X7_write_ini_X1 : Cond.initialized RX1 ∈ wsX7_write := by decide +kernel
theorem wd_X7_write_im_X1_having : Cond.instanceMethod yX1_having ∈ wsX7_write := by decide +kernel
theorem wd_X7_write_se_X1_having : Cond.selects RX1 yX1_having yX1_having ∈ wsX7_write := by decide +kernel
theorem nm_X7_write_136 : (RX7, 136, yX1_having, "SameAgain") ∈ nwM := by decide +kernel
theorem wd_X7_write_ini_X0 : Cond.initialized RX0 ∈ wsX7_write := by decide +kernel
theorem wd_X7_write_im_X0_put : Cond.instanceMethod yX0_put ∈ wsX7_write := by decide +kernel
theorem wd_X7_write_se_X0_put : Cond.selects RX0 yX0_put yX0_put ∈ wsX7_write := by decide +kernel
theorem nm_X7_write_150 : (RX7, 150, yX0_put, "SameAgain") ∈ nwM := by decide +kernel
set_option maxHeartbeats 4000000 in
set_option maxRecDepth 100000 in
theorem w_X7_write_b36_j {G : Gt} {X : Cxt} {Q : State → Prop} (C : Cx G X cX7_write RX7 wsX7_write 6 rm_X7_write) {post : Int32 → Mem → Prop} (hQ : RetI G X Q post .int 2 12) {xq : XP} (hX : Xq G X Q xq 2 12) {μ : Mem} (h : w_X7_write_b36 post xq μ) : J G X Q 6 1 6 36 [] [] μ := by
  unfold w_X7_write_b36 at h
  exact j_thr (text := "the four places are not all within the size") C hX (by decide) b0_iae b1_iae b2_iae b5_iae wd_X7_write_cl143 wd_X7_write_in_iae (by decide +kernel) hat_X7_write_iae hng_iae hgo_iae dX7_write_36 dX7_write_39 (Or.inl ⟨dX7_write_40, rfl⟩) dX7_write_42 dX7_write_45 (by decide) (Nat.le_of_ble_eq_true rfl) (by decide) (by decide) (by decide) (by decide) h
set_option maxHeartbeats 4000000 in
set_option maxRecDepth 100000 in
theorem w_X7_write_b49_j {G : Gt} {X : Cxt} {Q : State → Prop} (C : Cx G X cX7_write RX7 wsX7_write 6 rm_X7_write) {post : Int32 → Mem → Prop} (hQ : RetI G X Q post .int 2 12) {xq : XP} (hX : Xq G X Q xq 2 12) : ∀ (n : Nat) (v2 v3 v4 v5 : Int32) (μ : Mem), itr (fun _ _ _ _ _ => False) (w_X7_write_b49 post xq) n v2 v3 v4 v5 μ → J G X Q 6 1 6 49 [(0, .ref (ad G 0)), (2, .int v2), (3, .int v3), (4, .int v4), (5, .int v5)] [] μ := by
  intro n
  induction n with
  | zero => intro v2 v3 v4 v5 μ h; exact h.elim
  | succ n ih =>
    intro v2 v3 v4 v5 μ h
    replace h : w_X7_write_b49 post xq (itr (fun _ _ _ _ _ => False) (w_X7_write_b49 post xq) n) v2 v3 v4 v5 μ := h
    generalize itr (fun _ _ _ _ _ => False) (w_X7_write_b49 post xq) n = k49 at ih h
    have hk49 := ih
    unfold w_X7_write_b49 at h
    refine j_iload C 4 dX7_write_49 rfl ?_
    refine j_iconst (v := 4) C dX7_write_51 (by decide) ?_
    refine j_icmp_ge C 83 dX7_write_52 (by decide) (fun c8 => ?_) (fun c8 => ?_)
    · replace h := h.1 c8
      refine j_aload_n C 0 dX7_write_83 rfl ?_
      refine j_iload C 3 dX7_write_84 rfl ?_
      refine j_cVV (n := 1) (rest := []) C 0 (c_X7_noteWritten (xl X) G C.2.2.1 _ v4 μ) h gX7_write_X7_noteWritten rfl ⟨rfl, rfl⟩ (by decide +kernel) ⟨by decide, by decide⟩ ⟨by decide, by decide⟩ sh_0 (by decide) cl_X7 rfl rfl (Nat.le_of_ble_eq_true rfl) dX7_write_86 rfl rfl (fun μ4 h => ?_)
      refine j_aload_n C 0 dX7_write_89 rfl ?_
      refine j_getR C 0 1 sh_0 (by decide) cl_X7 (by decide) rfl in_X7_write_X7 lk_X7_write_19 rfl dX7_write_90 ?_
      refine j_iload C 3 dX7_write_93 rfl ?_
      refine j_cNI (n := 1) (rest := []) C 2 (c_X1_having (xl X) G C.2.2.1 _ v4 μ4) h gX7_write_X1_having_n136 nm_X7_write_136 wd_X7_write_ini_X1 wd_X7_write_im_X1_having wd_X7_write_se_X1_having rfl ⟨rfl, rfl⟩ (by decide +kernel) ⟨by decide, by decide⟩ ⟨by decide, by decide⟩ sh_2 (by decide) cl_X1 rfl rfl (Nat.le_of_ble_eq_true rfl) dX7_write_95 rfl rfl (fun r6 μ5 h => ?_)
      refine j_iconst (v := 1) C dX7_write_98 (by decide) ?_
      refine j_isub C dX7_write_99 ?_
      exact j_iret C hQ (by decide) (by decide) h dX7_write_100
    · replace h := h.2 c8
      refine j_aload_n C 0 dX7_write_55 rfl ?_
      refine j_getR C 0 2 sh_0 (by decide) cl_X7 (by decide) rfl in_X7_write_X7 lk_X7_write_26 rfl dX7_write_56 ?_
      refine j_iload C 3 dX7_write_59 rfl ?_
      refine j_iload_n C 1 dX7_write_61 rfl ?_
      refine j_iload C 4 dX7_write_62 rfl ?_
      refine j_iadd C dX7_write_64 ?_
      refine j_iload_n C 2 dX7_write_65 rfl ?_
      refine j_bipush (v := 8) C dX7_write_66 (by decide) ?_
      refine j_iconst (v := 3) C dX7_write_68 (by decide) ?_
      refine j_iload C 4 dX7_write_69 rfl ?_
      refine j_isub C dX7_write_71 ?_
      refine j_imul C dX7_write_72 ?_
      refine j_ishr C dX7_write_73 ?_
      refine j_cNV (n := 3) (rest := []) C 3 (c_X0_put (xl X) G C.2.2.1 _ v4 (v2 + v5) (v3 >>> (((8 : Int32) * ((3 : Int32) - v5)) &&& 31)) μ) h gX7_write_X0_put_n150 nm_X7_write_150 wd_X7_write_ini_X0 wd_X7_write_im_X0_put wd_X7_write_se_X0_put rfl ⟨rfl, rfl⟩ (by decide +kernel) ⟨by decide, by decide⟩ ⟨by decide, by decide⟩ sh_3 (by decide) cl_X0 rfl rfl (Nat.le_of_ble_eq_true rfl) dX7_write_74 rfl rfl (fun μ7 h => ?_)
      refine j_iinc (v := v5 + (1 : Int32)) (lv' := [(0, .ref (ad G 0)), (2, .int v2), (3, .int v3), (4, .int v4), (5, .int (v5 + (1 : Int32)))]) C 4 dX7_write_77 rfl rfl (by decide) rfl rfl ?_
      refine j_goto C 49 dX7_write_80 (by decide) ?_
      exact hk49 _ _ _ _ _ h
set_option maxHeartbeats 4000000 in
set_option maxRecDepth 100000 in
theorem c_X7_write (l : Launch) (G : Gt) (hD : Dj G) (hs : l.stackTraces = false) (post : Int32 → Mem → Prop) (xq : XP) (a1 a2 a3 : Int32) (μ : Mem) : XI G l yX7_write wsX7_write rm_X7_write 2 12 [.ref (ad G 0), .int a1, .int a2, .int a3] μ (w_X7_write post xq a1 a2 a3 μ) post xq := by
  refine xI_of (cc := cX7_write) (maxL := 6) (ty := .int) (lv0 := [(0, .ref (ad G 0)), (1, .int a1), (2, .int a2), (3, .int a3)]) hD hs (by decide) rfl (Nat.le_of_ble_eq_true rfl) rfl ?_
  intro X Q hl C hQ hX h
  subst hl
  replace C : Cx G X cX7_write RX7 wsX7_write 6 rm_X7_write := C
  unfold w_X7_write at h
  refine j_aload_n C 0 dX7_write_0 rfl ?_
  refine j_iload_n C 1 dX7_write_1 rfl ?_
  refine j_xVV (n := 1) (rest := []) C hX 0 (c_X7_needFile (xl X) G C.2.2.1 hX.2.2 _ xq a1 μ) h gX7_write_X7_needFile rfl ⟨rfl, rfl⟩ (by decide +kernel) ⟨by decide, by decide⟩ ⟨by decide, by decide⟩ ⟨by decide, by decide⟩ sh_0 (by decide) cl_X7 rfl rfl (Nat.le_of_ble_eq_true rfl) dX7_write_2 rfl rfl (fun μ1 h => ?_)
  refine j_aload_n C 0 dX7_write_5 rfl ?_
  refine j_getR C 0 1 sh_0 (by decide) cl_X7 (by decide) rfl in_X7_write_X7 lk_X7_write_19 rfl dX7_write_6 ?_
  refine j_getRN C 2 2 sh_2 (by decide) cl_X1 (by decide) rfl in_X7_write_X1 lk_X7_write_112 rfl dX7_write_9 ?_
  refine j_iload_n C 1 dX7_write_12 rfl ?_
  have b2 := h.1
  replace h := h.2
  refine j_iald C 16 sh_16 (by decide) b2 dX7_write_13 ?_
  refine j_istore (lv' := [(0, .ref (ad G 0)), (1, .int a1), (2, .int a2), (3, .int a3), (4, .int (μ1 16 (ix a1)))]) C dX7_write_14 (by decide) rfl rfl ?_
  refine j_iload_n C 2 dX7_write_16 rfl ?_
  refine j_if_lt C 36 dX7_write_17 (by decide) (fun c10 => ?_) (fun c10 => ?_)
  · replace h := h.1 c10
    refine j_forget [] rfl ?_
    exact w_X7_write_b36_j C hQ hX h
  · replace h := h.2 c10
    refine j_iload_n C 2 dX7_write_20 rfl ?_
    refine j_aload_n C 0 dX7_write_21 rfl ?_
    refine j_getR C 0 2 sh_0 (by decide) cl_X7 (by decide) rfl in_X7_write_X7 lk_X7_write_26 rfl dX7_write_22 ?_
    refine j_getRN C 3 1 sh_3 (by decide) cl_X0 (by decide) rfl in_X7_write_X0 lk_X7_write_140 rfl dX7_write_25 ?_
    refine j_iload C 4 dX7_write_28 rfl ?_
    have b3 := h.1
    replace h := h.2
    refine j_iald C 19 sh_19 (by decide) b3 dX7_write_30 ?_
    refine j_iconst (v := 4) C dX7_write_31 (by decide) ?_
    refine j_isub C dX7_write_32 ?_
    refine j_icmp_le C 46 dX7_write_33 (by decide) (fun c9 => ?_) (fun c9 => ?_)
    · replace h := h.1 c9
      refine j_iconst (v := 0) C dX7_write_46 (by decide) ?_
      refine j_istore (lv' := [(0, .ref (ad G 0)), (1, .int a1), (2, .int a2), (3, .int a3), (4, .int (μ1 16 (ix a1))), (5, .int (0 : Int32))]) C dX7_write_47 (by decide) rfl rfl ?_
      refine j_forget [0, 2, 3, 4, 5] rfl ?_
      obtain ⟨n9, h⟩ := h
      exact w_X7_write_b49_j C hQ hX n9 _ _ _ _ _ h
    · replace h := h.2 c9
      refine j_forget [] rfl ?_
      exact w_X7_write_b36_j C hQ hX h
