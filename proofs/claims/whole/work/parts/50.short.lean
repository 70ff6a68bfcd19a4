/-! shorthands of the generated walks -/
theorem sh_0 : sh 0 = .inl (7, [some 1, some 2, some 3, some 4, some 5, some 6, some 7, some 8, some 9, some 10, none, none]) := rfl
theorem sh_1 : sh 1 = .inl (3, [some 11, some 12, some 13, none]) := rfl
theorem sh_2 : sh 2 = .inl (1, [some 14, some 15, some 16, some 17, none]) := rfl
theorem sh_3 : sh 3 = .inl (0, [some 18, some 19, some 20, some 21, none]) := rfl
theorem sh_4 : sh 4 = .inl (2, [some 22, some 23, some 24, none, none]) := rfl
theorem sh_5 : sh 5 = .inl (5, [some 25, none]) := rfl
theorem sh_6 : sh 6 = .inl (5, [some 26, none]) := rfl
theorem sh_7 : sh 7 = .inl (6, [some 27, some 28, none]) := rfl
theorem sh_8 : sh 8 = .inl (4, [some 29, some 30, none, none]) := rfl
theorem sh_9 : sh 9 = .inr (2, 64) := rfl
theorem sh_10 : sh 10 = .inr (0, 16) := rfl
theorem sh_11 : sh 11 = .inr (0, 16) := rfl
theorem sh_12 : sh 12 = .inr (0, 16) := rfl
theorem sh_13 : sh 13 = .inr (0, 16) := rfl
theorem sh_14 : sh 14 = .inr (0, 60) := rfl
theorem sh_15 : sh 15 = .inr (0, 60) := rfl
theorem sh_16 : sh 16 = .inr (0, 60) := rfl
theorem sh_17 : sh 17 = .inr (2, 60) := rfl
theorem sh_18 : sh 18 = .inr (1, 6400) := rfl
theorem sh_19 : sh 19 = .inr (0, 100) := rfl
theorem sh_20 : sh 20 = .inr (0, 100) := rfl
theorem sh_21 : sh 21 = .inr (0, 100) := rfl
theorem sh_22 : sh 22 = .inr (0, 100) := rfl
theorem sh_23 : sh 23 = .inr (0, 100) := rfl
theorem sh_24 : sh 24 = .inr (0, 100) := rfl
theorem sh_25 : sh 25 = .inr (0, 61) := rfl
theorem sh_26 : sh 26 = .inr (0, 61) := rfl
theorem sh_27 : sh 27 = .inr (0, 3) := rfl
theorem sh_28 : sh 28 = .inr (0, 3) := rfl
theorem sh_29 : sh 29 = .inr (0, 20) := rfl
theorem sh_30 : sh 30 = .inr (4, 20) := rfl
theorem sh_31 : sh 31 = .inl (8, [none, none, none, none, none, none, none, none, none, some 32, some 33, some 34, some 35, some 36, some 37, some 38, some 39, some 40, some 41, some 42, some 43, some 44, some 45, none, some 46, some 47, some 48, some 49, some 50, some 51, some 52, some 53, some 54, some 55]) := rfl
theorem sh_32 : sh 32 = .inr (0, 16) := rfl
theorem sh_33 : sh 33 = .inr (0, 16) := rfl
theorem sh_34 : sh 34 = .inr (0, 60) := rfl
theorem sh_35 : sh 35 = .inr (0, 60) := rfl
theorem sh_36 : sh 36 = .inr (0, 60) := rfl
theorem sh_37 : sh 37 = .inr (2, 60) := rfl
theorem sh_38 : sh 38 = .inr (0, 100) := rfl
theorem sh_39 : sh 39 = .inr (0, 100) := rfl
theorem sh_40 : sh 40 = .inr (0, 100) := rfl
theorem sh_41 : sh 41 = .inr (0, 100) := rfl
theorem sh_42 : sh 42 = .inr (0, 6400) := rfl
theorem sh_43 : sh 43 = .inr (0, 3) := rfl
theorem sh_44 : sh 44 = .inr (0, 3) := rfl
theorem sh_45 : sh 45 = .inr (0, 8) := rfl
theorem sh_46 : sh 46 = .inr (0, 20) := rfl
theorem sh_47 : sh 47 = .inr (0, 20) := rfl
theorem sh_48 : sh 48 = .inr (0, 1200) := rfl
theorem sh_49 : sh 49 = .inr (0, 1200) := rfl
theorem sh_50 : sh 50 = .inr (0, 100) := rfl
theorem sh_51 : sh 51 = .inr (0, 100) := rfl
theorem sh_52 : sh 52 = .inr (0, 16) := rfl
theorem sh_53 : sh 53 = .inr (0, 16) := rfl
theorem sh_54 : sh 54 = .inr (0, 60) := rfl
theorem sh_55 : sh 55 = .inr (0, 60) := rfl
theorem sh_56 : sh 56 = .inr (3, 1) := rfl
theorem cl_X0 : vwCl[0]? = some (RX0, TX0, 5) := rfl
theorem cl_X1 : vwCl[1]? = some (RX1, TX1, 5) := rfl
theorem cl_X2 : vwCl[2]? = some (RX2, TX2, 5) := rfl
theorem cl_X3 : vwCl[3]? = some (RX3, TX3, 4) := rfl
theorem cl_X4 : vwCl[4]? = some (RX4, TX4, 4) := rfl
theorem cl_X5 : vwCl[5]? = some (RX5, TX5, 2) := rfl
theorem cl_X6 : vwCl[6]? = some (RX6, TX6, 3) := rfl
theorem cl_X7 : vwCl[7]? = some (RX7, TX7, 12) := rfl
theorem cl_X8 : vwCl[8]? = some (RX8, TX8, 34) := rfl
theorem row_lt {i : Int32} (h : vp_in i 20) : ix i + 57 < 77 := by
  have : i.toNatClampNeg < 20 := Nat.not_le.mp fun q => h (Or.inr q)
  show i.toNatClampNeg + 57 < 77
  omega
def vz_iae : List Cond := vz_atS RX7 147 "java/lang/IllegalArgumentException" "java/lang/RuntimeException" ["java/lang/Exception"] 7 prog_12_method_2_code
theorem b0_nse : decode prog_19_method_4_code 0 = .ok (.aload_n 0, 1) := by decide +kernel
theorem b1_nse : decode prog_19_method_4_code 1 = .ok (.aload_n 1, 1) := by decide +kernel
theorem b2_nse : decode prog_19_method_4_code 2 = .ok (.invokespecial 13, 3) := by decide +kernel
theorem b5_nse : decode prog_19_method_4_code 5 = .ok (.return_, 1) := by decide +kernel
theorem b0_iae : decode prog_12_method_2_code 0 = .ok (.aload_n 0, 1) := by decide +kernel
theorem b1_iae : decode prog_12_method_2_code 1 = .ok (.aload_n 1, 1) := by decide +kernel
theorem b2_iae : decode prog_12_method_2_code 2 = .ok (.invokespecial 7, 3) := by decide +kernel
theorem b5_iae : decode prog_12_method_2_code 5 = .ok (.return_, 1) := by decide +kernel
theorem hng_nse : ∀ w ∈ vz_nse.filter (fun w => !goodWord w), w ∈ nwD.map Cond.declares ++ nwC.map (fun q => Cond.castable q.1 q.2) := by decide +kernel
theorem hng_iae : ∀ w ∈ vz_iae.filter (fun w => !goodWord w), w ∈ nwD.map Cond.declares ++ nwC.map (fun q => Cond.castable q.1 q.2) := by decide +kernel
theorem hgo_nse : ∀ w ∈ Cond.classLink RX7 159 "java/util/NoSuchElementException" :: Cond.initialized "java/util/NoSuchElementException" :: vz_nse, vx_ot w = true := by decide +kernel
theorem hgo_iae : ∀ w ∈ Cond.classLink RX7 143 "java/lang/IllegalArgumentException" :: Cond.initialized "java/lang/IllegalArgumentException" :: vz_iae, vx_ot w = true := by decide +kernel
/-- Arrays.fill over one of the int arrays -/
abbrev rm_fill : Room := { frames := 0, cells := 0, slots := 0, locals := 0 }
def frow' (μ : Mem) (k n : Nat) (v : Int32) (i : Nat) : Mem := wrow μ k (fun j => if j < i then v else μ k j)
theorem frow_succ {μ : Mem} {k i : Nat} {v : Int32} {n : Nat} : wr (frow' μ k n v i) k i v = frow' μ k n v (i + 1) := by
  funext k' j
  unfold wr frow' wrow upd
  by_cases hk : k' = k
  · simp only [hk, if_true]
    by_cases h1 : j = i
    · simp [h1]
    · by_cases h2 : j < i
      · simp [h1, h2, Nat.lt_succ_of_lt h2]
      · simp [h1, h2, show ¬ j < i + 1 by omega]
  · simp [hk]
set_option maxHeartbeats 4000000 in
set_option maxRecDepth 100000 in
theorem fill_loop {G : Gt} {X : Cxt} {Q : State → Prop} (C : Cx G X cJ7_fill_53178 RJ7 wsJ7_fill_53178 4 rm_fill) {post : Mem → Prop} (hQ : RetV G X Q post 0 0) {k n : Nat} (hs : sh k = .inr (0, n)) (hk : k < 77) (hn : n < 2 ^ 31) {v : Int32} {μ : Mem} (h : w_fill post k n v μ) :
    ∀ (m i : Nat), i ≤ n → n + 1 ≤ i + m → J G X Q 4 0 0 5 [(0, .ref (ad G k)), (1, .int v), (2, .int (nI i)), (3, .int (nI n))] [] (frow' μ k n v i) := by
  intro m
  induction m with
  | zero => intro i h1 h2; omega
  | succ m ih =>
    intro i h1 h2
    refine j_iload_n C 2 dJ7_fill_53178_5 rfl ?_
    refine j_iload_n C 3 dJ7_fill_53178_6 rfl ?_
    refine j_icmp_ge C 20 dJ7_fill_53178_7 (by decide) (fun c => ?_) (fun c => ?_)
    · have e : i = n := by
        have := (nI_leI hn (by omega)).mp c
        omega
      subst e
      exact j_vret C hQ (by decide) (by decide) (h _ rfl) dJ7_fill_53178_20
    · have hlt : i < n := by
        rcases Nat.lt_or_ge i n with q | q
        · exact q
        · exact absurd (nI_le q (by omega)) c
      refine j_aload_n C 0 dJ7_fill_53178_10 rfl ?_
      refine j_iload_n C 2 dJ7_fill_53178_11 rfl ?_
      refine j_iload_n C 1 dJ7_fill_53178_12 rfl ?_
      refine j_iast C k hs hk (vp_in_nI hlt hn) dJ7_fill_53178_13 (show frow' μ k n v (i + 1) = wr (frow' μ k n v i) k (ix (nI i)) v by rw [show ix (nI i) = i from nI_clamp (by omega), frow_succ]) ?_
      refine j_iinc (v := nI (i + 1)) (lv' := [(0, .ref (ad G k)), (1, .int v), (2, .int (nI (i + 1))), (3, .int (nI n))]) C 2 dJ7_fill_53178_14 rfl (nI_1 i) (by decide) rfl rfl ?_
      refine j_goto C 5 dJ7_fill_53178_17 (by decide) ?_
      exact ih (i + 1) hlt (by omega)
set_option maxHeartbeats 4000000 in
set_option maxRecDepth 100000 in
theorem c_fill (l : Launch) (G : Gt) (hD : Dj G) (post : Mem → Prop) (k n : Nat) (hs : sh k = .inr (0, n)) (hk : k < 77) (v : Int32) (μ : Mem) (hn : n < 2 ^ 31 := by decide) : MV G l yJ7_fill_53178 wsJ7_fill_53178 rm_fill 0 0 [.ref (ad G k), .int v] μ (w_fill post k n v μ) post := by
  refine mV_of (cc := cJ7_fill_53178) (maxL := 4) (lv0 := [(0, .ref (ad G k)), (1, .int v)]) hD (by decide) rfl (Nat.le_of_ble_eq_true rfl) rfl ?_
  intro X Q hl C hQ h
  subst hl
  replace C : Cx G X cJ7_fill_53178 RJ7 wsJ7_fill_53178 4 rm_fill := C
  refine j_iconst (v := 0) C dJ7_fill_53178_0 (by decide) ?_
  refine j_istore_n (lv' := [(0, .ref (ad G k)), (1, .int v), (2, .int 0)]) C dJ7_fill_53178_1 (by decide) rfl rfl ?_
  refine j_aload_n C 0 dJ7_fill_53178_2 rfl ?_
  refine j_alen (v := nI n) C k hs (by decide) hk rfl dJ7_fill_53178_3 ?_
  refine j_istore_n (lv' := [(0, .ref (ad G k)), (1, .int v), (2, .int 0), (3, .int (nI n))]) C dJ7_fill_53178_4 (by decide) rfl rfl ?_
  have e : frow' μ k n v 0 = μ := by
    funext k' j
    unfold frow' wrow
    by_cases h : k' = k <;> simp [h]
  have := fill_loop C hQ hs hk hn h (n + 1) 0 (by omega) (by omega)
  rw [e] at this
  exact this
