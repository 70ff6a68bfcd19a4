theorem s_above {post : Int32 → Mem → Prop} {a : Int32} {μ : Mem} {nf f d : Nat} {ci cn ca : Nat → Int32} (hFo : IFo nf ci cn ca (μ 32) (μ 33)) (hnf : nf ≤ 16) (hf : f < 60) (ef : a = nI f) (hd : d < nf) (ed : μ 34 f = nI d) (h : post (ca d) μ) : w_X8_above post a μ := by
  unfold w_X8_above
  rw [show ix a = f by rw [ef]; exact ix_n (by omega), ed]
  refine ⟨by rw [ef]; exact vp_in_nI hf (by decide), ?_⟩
  refine wl2 (fun x y m => m = μ ∧ ((y = -1 ∧ x = ca d) ∨ ∃ k, k < nf ∧ y = nI k ∧ x + ca k = ca d)) (fun _ y _ => if y = -1 then 0 else ix y + 1) ?_ _ _ _ ⟨rfl, Or.inr ⟨d, hd, rfl, by rw [Int32.zero_add]⟩⟩
  rintro k x y m ⟨rfl, hc⟩ hk
  unfold w_X8_above_b9
  rcases hc with ⟨rfl, rfl⟩ | ⟨j, hj, rfl, e⟩
  · exact t_y rfl h
  · have hne := nI_m1 (n := j) (by omega)
    refine t_n hne ⟨vp_in_nI (by omega) (by decide), ?_⟩
    rw [ix_n (by omega)]
    obtain ⟨i1, i2, i3, i4⟩ := hFo
    rcases Nat.eq_zero_or_pos j with z | z
    · subst z
      rw [i2]
      refine hk _ _ _ ⟨rfl, Or.inl ⟨rfl, by rw [← e, i3]⟩⟩ ?_
      rw [if_pos rfl, if_neg hne]
      omega
    · obtain ⟨p, p1, p2, p3, p4, p5⟩ := i4 j z hj
      rw [p3]
      refine hk _ _ _ ⟨rfl, Or.inr ⟨p, by omega, rfl, ?_⟩⟩ ?_
      · rw [← e, p5, Int32.add_assoc, Int32.add_comm 1]
      · rw [if_neg hne, if_neg (nI_m1 (by omega)), ix_n (by omega), ix_n (by omega)]
        omega
theorem op_about {post : Int32 → Mem → Prop} {K : Int32 → Int32 → Mem → Prop} {a1 a2 : Int32} {μ : Mem} (hI : InvE μ) (hK : ∀ k b m, m 31 0 = k → (k = 0 → m 56 0 = b) → InvE m → K k b m) (hp : ∀ k m, w_X8_about (K k) a1 a2 m → post k m) : w_L_about post a1 a2 μ := by
  obtain ⟨nf, n, nb, w, q, lt, hI⟩ := hI
  have hI0 := hI
  obtain ⟨⟨⟨c1, m1, f1, f2⟩, ⟨c2, m2, f3⟩, ⟨c3, m3, f4⟩, hC4, hC5, hC6⟩, hFo, hFi, hHe, hBo, hBy, hGr, hWi, hLe, hMe⟩ := hI
  unfold w_L_about w_X7_about
  rcases hFi.arg f2 f3 f4 a1 with ⟨f, d0, b, hf, ef, hd0, hb, e1, e2, e3, e4, e5, e6, e7⟩ | ⟨hx, hx2⟩
  · have hina : vp_in a1 60 := by rw [ef]; exact vp_in_nI (by omega) (by decide)
    have hia : ix a1 = f := by rw [ef]; exact ix_n (by omega)
    have hinb : vp_in (nI b) 100 := vp_in_nI (by omega) (by decide)
    have hib : ix (nI b) = b := ix_n (by omega)
    obtain ⟨⟨s, hs, es⟩, eMs, ⟨o, ho, eo⟩, eMo, eMd⟩ := hBo b (by omega)
    obtain ⟨h1, h2⟩ := hHe f (by omega)
    refine needFile_y c2 f3 hf ef e6 ⟨hina, ?_⟩
    rw [hia, e3, hib]
    have hcong : hav (ebd (μ 34) (μ 36)) n (nI b) = hav (μ 16) n (nI b) := hav_cong (hFi.ebd f2)
    have lit8 : ∀ x : Int32, (8 : Int32) < x ↔ nI 9 ≤ x := fun x => by
      rw [Int32.lt_iff_toInt_lt, Int32.le_iff_toInt_le, show (8 : Int32).toInt = 8 by decide, show (nI 9).toInt = 9 by decide]; omega
    rcases idx a2 (n := 9) (by decide) with ⟨j, hj, ej⟩ | ⟨hc, hx⟩
    · -- the answer v, on both sides
      have fin : ∀ v : Int32, (∀ m : Mem, m 31 0 = 0 → m 34 = μ 34 → m 35 = μ 35 → m 36 = μ 36 → m 37 = μ 37 → m 38 = μ 38 → m 39 = μ 39 → m 40 = μ 40 → m 31 2 = nI n → m 32 = μ 32 → m 33 = μ 33 → K 0 v m → w_X8_about_b24 (K 0) a1 a2 1 m) → ∀ m, m = wr μ 56 (ix 0) v → post 0 m := fun v hv m em => by
        refine hp 0 m ?_
        subst em
        unfold w_X8_about
        refine isFile_y (n := n) (f := f) (by simp [wrA, updA]; exact m2) f3 hf ef (by simp [wrA]; exact e7) (t_n (by decide) (t_n (by rw [ej]; exact nI_neg (by omega)) (t_n (fun z => ?_) ?_)))
        · rw [lit8, ej] at z
          have := (nI_leI (by decide) (by omega)).mp z
          omega
        · exact hv _ (by simp [wrA, updA]) (by simp [wrA]) (by simp [wrA]) (by simp [wrA]) (by simp [wrA]) (by simp [wrA]) (by simp [wrA]) (by simp [wrA]) (by simp [wrA, updA]; exact m2) (by simp [wrA]) (by simp [wrA]) (hK 0 v _ (by simp [wrA, updA]) (fun _ => by simp [wrA, updA, ix0]) ⟨nf, n, nb, w, q, lt, (hI0.w n56).w n310⟩)
      unfold w_X8_about_b24 at fin
      have j9 : j = 0 ∨ j = 1 ∨ j = 2 ∨ j = 3 ∨ j = 4 ∨ j = 5 ∨ j = 6 ∨ j = 7 ∨ j = 8 := by omega
      rcases j9 with rfl | rfl | rfl | rfl | rfl | rfl | rfl | rfl | rfl <;> subst ej
      · refine t_y rfl ⟨hina, fin _ (fun m g0 g34 g35 g36 g37 g38 g39 g40 g31 g32 g33 hk => right_y g0 (f_n (by decide) ⟨hina, t_y rfl ⟨hina, ?_⟩⟩))⟩
        rw [hia, g34, e2, ← e1]; exact hk
      · refine t_n (by decide) (t_y rfl ⟨hina, fin _ (fun m g0 g34 g35 g36 g37 g38 g39 g40 g31 g32 g33 hk => right_y g0 (f_n (by decide) ⟨hina, t_n (by decide) (t_y rfl ⟨hina, ?_⟩)⟩))⟩)
        rw [hia, g35, ← e5]; exact hk
      · refine t_n (by decide) (t_n (by decide) (t_y rfl (fin _ (fun m g0 g34 g35 g36 g37 g38 g39 g40 g31 g32 g33 hk => right_y g0 (f_n (by decide) ⟨hina, t_n (by decide) (t_n (by decide) (t_y rfl ?_))⟩)))))
        rw [hia, g36, e4]; exact hk
      · refine t_n (by decide) (t_n (by decide) (t_n (by decide) (t_y rfl ⟨hinb, fin _ (fun m g0 g34 g35 g36 g37 g38 g39 g40 g31 g32 g33 hk => right_y g0 (f_n (by decide) ⟨hina, t_n (by decide) (t_n (by decide) (t_n (by decide) (t_y rfl ?_)))⟩))⟩)))
        rw [hia, g36, e4, hib, g38, eMs]; exact ⟨hinb, hk⟩
      · refine t_n (by decide) (t_n (by decide) (t_n (by decide) (t_n (by decide) (t_y rfl ⟨hinb, fin _ (fun m g0 g34 g35 g36 g37 g38 g39 g40 g31 g32 g33 hk => right_y g0 (f_n (by decide) ⟨hina, t_n (by decide) (t_n (by decide) (t_n (by decide) (t_n (by decide) (t_y rfl ?_))))⟩))⟩))))
        rw [hia, g36, e4, hib, g39, eMo]; exact ⟨hinb, hk⟩
      · refine t_n (by decide) (t_n (by decide) (t_n (by decide) (t_n (by decide) (t_n (by decide) (t_y rfl ⟨hinb, fin _ (fun m g0 g34 g35 g36 g37 g38 g39 g40 g31 g32 g33 hk => right_y g0 (f_n (by decide) ⟨hina, t_n (by decide) (t_n (by decide) (t_n (by decide) (t_n (by decide) (t_n (by decide) (t_y rfl ?_)))))⟩))⟩)))))
        rw [hia, g36, e4, hib, g40, eMd]; exact ⟨hinb, hk⟩
      · refine t_n (by decide) (t_n (by decide) (t_n (by decide) (t_n (by decide) (t_n (by decide) (t_n (by decide) (t_y rfl (s_X1_having c2 f3 (fin _ (fun m g0 g34 g35 g36 g37 g38 g39 g40 g31 g32 g33 hk => right_y g0 (f_n (by decide) ⟨hina, t_n (by decide) (t_n (by decide) (t_n (by decide) (t_n (by decide) (t_n (by decide) (t_n (by decide) (t_y rfl ?_))))))⟩))))))))))
        rw [hia, g36, e4]
        refine s_X8_names g31 f3 (nI_m1 (by omega)) ?_
        rw [g34, g36, hcong]; exact hk
      · refine t_n (by decide) (t_n (by decide) (t_n (by decide) (t_n (by decide) (t_n (by decide) (t_n (by decide) (t_n (by decide) (t_y rfl ⟨hina, ?_⟩)))))))
        refine ⟨fun z => fin 0 (fun m g0 g34 g35 g36 g37 g38 g39 g40 g31 g32 g33 hk => right_y g0 (f_n (by decide) ⟨hina, t_n (by decide) (t_n (by decide) (t_n (by decide) (t_n (by decide) (t_n (by decide) (t_n (by decide) (t_n (by decide) (t_y rfl ⟨hina, t_y (by rw [hia, g37, ← h1]; exact z) hk⟩)))))))⟩)), fun z => fin 1 (fun m g0 g34 g35 g36 g37 g38 g39 g40 g31 g32 g33 hk => right_y g0 (f_n (by decide) ⟨hina, t_n (by decide) (t_n (by decide) (t_n (by decide) (t_n (by decide) (t_n (by decide) (t_n (by decide) (t_n (by decide) (t_y rfl ⟨hina, t_n (by rw [hia, g37, ← h1]; exact z) hk⟩)))))))⟩))⟩
      · refine t_n (by decide) (t_n (by decide) (t_n (by decide) (t_n (by decide) (t_n (by decide) (t_n (by decide) (t_n (by decide) (t_n (by decide) (t_y rfl ⟨hina, ?_⟩))))))))
        rw [e1, ix_n (by omega)]
        refine ⟨vp_in_nI (by omega) (by decide), fin _ (fun m g0 g34 g35 g36 g37 g38 g39 g40 g31 g32 g33 hk => right_y g0 (f_n (by decide) ⟨hina, t_n (by decide) (t_n (by decide) (t_n (by decide) (t_n (by decide) (t_n (by decide) (t_n (by decide) (t_n (by decide) (t_n (by decide) ?_)))))))⟩))⟩
        exact s_above (ci := μ 11) (cn := μ 12) (ca := μ 13) (by rw [g32, g33]; exact hFo) f2 (by omega) ef hd0 (by rw [g34]; exact e2) hk
    · have hr : w_X8_about_b24 (K 1) a1 a2 0 (wr μ 31 0 0) := by
        unfold w_X8_about_b24
        exact right_n (by simp [wrA, updA]) (by decide) (f_y rfl (hK 1 0 _ (by simp [wrA, updA]) (fun h => absurd h (by decide)) ⟨nf, n, nb, w, q, lt, (hI0.w n310).w n310⟩))
      have : post 1 μ := hp 1 μ (by
        unfold w_X8_about w_X8_about_b23
        refine isFile_y m2 f3 hf ef e7 (t_n (by decide) ⟨fun _ => hr, fun z1 => ⟨fun _ => hr, fun z2 => ?_⟩⟩)
        rcases hc with hc | hc
        · exact absurd hc z1
        · exact absurd ((lit8 a2).mpr hc) z2)
      exact t_n (hx 0 (by decide)) (t_n (hx 1 (by decide)) (t_n (hx 2 (by decide)) (t_n (hx 3 (by decide)) (t_n (hx 4 (by decide)) (t_n (hx 5 (by decide)) (t_n (hx 6 (by decide)) (t_n (hx 7 (by decide)) (t_n (hx 8 (by decide)) ⟨rfl, this⟩))))))))
  · refine needFile_n c2 f3 hx ⟨rfl, hp 1 μ ?_⟩
    unfold w_X8_about
    exact isFile_n m2 f3 hx2 (t_y rfl (hK 1 0 _ (by simp [wrA, updA]) (fun h => absurd h (by decide)) ⟨nf, n, nb, w, q, lt, (hI0.w n310).w n310⟩))
theorem lit7 (x : Int32) : (7 : Int32) < x ↔ nI 8 ≤ x := by
  rw [Int32.lt_iff_toInt_lt, Int32.le_iff_toInt_le, show (7 : Int32).toInt = 7 by decide, show (nI 8).toInt = 8 by decide]; omega
theorem op_leave {post : Int32 → Mem → Prop} {K : Int32 → Int32 → Mem → Prop} {a1 a2 : Int32} {μ : Mem} (hI : InvE μ) (hK : ∀ k b m, m 31 0 = k → (k = 0 → m 56 0 = if b = 0 then 0 else 1) → InvE m → K k b m) (hp : ∀ k m, w_X8_leave (K k) a1 a2 m → post k m) : w_L_leave post a1 a2 μ := by
  obtain ⟨nf, n, nb, w, q, lt, hI⟩ := hI
  have hI0 := hI
  obtain ⟨hC, hFo, hFi, hHe, hBo, hBy, hGr, hWi, hLe, hMe⟩ := hI
  have hbad : (a1 < 0 ∨ nI 8 ≤ a1 ∨ a2 < 0 ∨ nI 8 ≤ a2) → post 1 μ := fun hc => hp 1 μ (by
    unfold w_X8_leave w_X8_leave_b30
    intro m em
    subst em
    have hr : w_X8_leave_b31 (K 1) a1 a2 0 (wr μ 31 0 0) := by
      unfold w_X8_leave_b31
      exact right_n (by simp [wrA, updA]) (by decide) (f_y rfl (hK 1 0 _ (by simp [wrA, updA]) (fun h => absurd h (by decide)) ⟨nf, n, nb, w, q, lt, (hI0.w n310).w n310⟩))
    refine ⟨fun _ => hr, fun z1 => ⟨fun _ => hr, fun z2 => ⟨fun _ => hr, fun z3 => ⟨fun _ => hr, fun z4 => ?_⟩⟩⟩⟩
    rw [lit7] at z2 z4
    rcases hc with hc | hc | hc | hc
    · exact absurd hc z1
    · exact absurd hc z2
    · exact absurd hc z3
    · exact absurd hc z4)
  unfold w_L_leave w_X7_leave w_X7_leave_b14 w_X7_isOwner
  refine ⟨fun z => t_y rfl ⟨rfl, hbad (Or.inl z)⟩, fun z1 => ⟨fun z => t_y rfl ⟨rfl, hbad (Or.inr (Or.inl z))⟩, fun z2 => t_n (by decide) ?_⟩⟩
  refine ⟨fun z => f_y rfl ⟨rfl, hbad (Or.inr (Or.inr (Or.inl z)))⟩, fun z3 => ⟨fun z => f_y rfl ⟨rfl, hbad (Or.inr (Or.inr (Or.inr z)))⟩, fun z4 => f_n (by decide) ?_⟩⟩
  obtain ⟨o, ho, eo⟩ : ∃ o, o < 8 ∧ a1 = nI o := by
    rcases idx a1 (n := 8) (by decide) with z | ⟨z | z, -⟩
    · exact z
    · exact absurd z z1
    · exact absurd z z2
  obtain ⟨p, hp8, ep⟩ : ∃ o, o < 8 ∧ a2 = nI o := by
    rcases idx a2 (n := 8) (by decide) with z | ⟨z | z, -⟩
    · exact z
    · exact absurd z z3
    · exact absurd z z4
  subst eo ep
  rw [show (8 : Int32) = nI 8 from rfl, pk_mul, nI_add, ix_n (by omega), Nat.mul_comm o 8]
  have hin : vp_in (nI (8 * o + p)) 64 := vp_in_nI (by omega) (by decide)
  refine ⟨hin, hin, fun y1 g1 => ?_⟩
  have hL := hLe o p ho hp8
  have bits : μ 9 (8 * o + p) = if (μ 45 o).toBitVec.getLsbD p then 1 else 0 := by rw [hL, by_3 _ hp8]
  have fin : ∀ v : Int32, v = (if (μ 45 o).toBitVec.getLsbD p then 0 else 1) → ∀ m, m = wr y1 56 (ix 0) v → post 0 m := fun v hv m em => by
    refine hp 0 m ?_
    subst em g1
    unfold w_X8_leave
    intro m em
    subst em
    have hA : ∀ x : Nat, x < 8 → ¬ (7 : Int32) < nI x := fun x hx => by rw [lit7]; exact nI_ge hx (by decide)
    refine t_n z1 (t_n (hA o ho) (t_n z3 (t_n (hA p hp8) ?_)))
    unfold w_X8_leave_b31
    have hin8 : vp_in (nI o) 8 := vp_in_nI ho (by decide)
    refine right_y (by simp [wrA, updA]) (f_n (by decide) ⟨hin8, ?_⟩)
    rw [ix_n (by omega), show wr (wr (wr μ 9 (8 * o + p) (nz 1)) 56 (ix 0) v) 31 0 0 45 o = μ 45 o by simp [wrA], by_3 _ hp8]
    unfold w_X8_leave_b59
    have fin2 : ∀ M : Mem, M = wr (wr (wr (wr μ 9 (8 * o + p) (nz 1)) 56 (ix 0) v) 31 0 0) 45 o (μ 45 o ||| ((1 : Int32) <<< (nI p &&& 31))) → K 0 v M := fun M hM => by
      subst hM
      refine hK 0 v _ (by simp [wrA, updA]) (fun _ => by simp [wrA, updA, ix0]; rw [hv]; split <;> rfl) ⟨nf, n, nb, w, q, lt, ?_⟩
      unfold Inv ICt
      simp only [wrA, updA, Nat.reduceEqDiff, reduceIte]
      refine ⟨hC, hFo, hFi, hHe, hBo, hBy, hGr, hWi, fun o' p' ho' hp' => ?_, hMe⟩
      rw [by_3 _ hp']
      by_cases c : o' = o
      · subst c
        rw [up_s, by_4 _ hp8 hp']
        by_cases c2 : p' = p
        · subst c2
          rw [up_s]
          simp
          rfl
        · rw [up_n (by omega), hLe o' p' ho' hp', by_3 _ hp']
          simp [c2]
      · rw [up_n (by omega), up_n c, hLe o' p' ho' hp', by_3 _ hp']
    have he : wr (wr (wr μ 9 (8 * o + p) (nz 1)) 56 (ix 0) v) 31 0 0 45 (ix (nI o)) = μ 45 o := by rw [ix_n (by omega)]; simp [wrA]
    cases hb : (μ 45 o).toBitVec.getLsbD p
    · rw [hb] at hv
      simp at hv
      refine f_n (by simp) ⟨hin8, hin8, fun M hM => f_y rfl ?_⟩
      rw [he, ix_n (by omega)] at hM
      have hz := fin2 M hM
      rw [hv] at hz
      exact hz
    · rw [hb] at hv
      simp at hv
      refine f_y (by simp) ⟨hin8, hin8, fun M hM => f_n (by decide) ?_⟩
      rw [he, ix_n (by omega)] at hM
      have hz := fin2 M hM
      rw [hv] at hz
      exact hz
  rw [bits]
  cases hb : (μ 45 o).toBitVec.getLsbD p
  · exact f_y (by simp) (t_n (by decide) (fin 1 (by rw [hb]; rfl)))
  · exact f_n (by simp) (t_y rfl (fin 0 (by rw [hb]; rfl)))
