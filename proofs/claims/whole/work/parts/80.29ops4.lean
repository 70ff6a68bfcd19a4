theorem op_at {post : Int32 → Mem → Prop} {K : Int32 → Int32 → Mem → Prop} {a1 a2 : Int32} {μ : Mem} (hI : InvE μ) (hK : ∀ k b m, m 31 0 = k → (k = 0 → m 56 0 = b) → InvE m → K k b m) (hp : ∀ k m, w_X8_at (K k) a1 a2 m → post k m) : w_L_at post a1 a2 μ := by
  obtain ⟨nf, n, nb, w, q, lt, hI⟩ := hI
  have hI0 := hI
  obtain ⟨⟨⟨c1, m1, f1, f2⟩, ⟨c2, m2, f3⟩, ⟨c3, m3, f4⟩, hC4, hC5, hC6⟩, hFo, hFi, hHe, hBo, hBy, hGr, hWi, hLe, hMe⟩ := hI
  unfold w_L_at w_X7_at w_X7_at_b32
  rcases hFi.arg f2 f3 f4 a1 with ⟨f, d0, b, hf, ef, hd0, hb, e1, e2, e3, e4, e5, e6, e7⟩ | ⟨hx, hx2⟩
  · have hina : vp_in a1 60 := by rw [ef]; exact vp_in_nI (by omega) (by decide)
    have hia : ix a1 = f := by rw [ef]; exact ix_n (by omega)
    have hinb : vp_in (nI b) 100 := vp_in_nI (by omega) (by decide)
    have hib : ix (nI b) = b := ix_n (by omega)
    obtain ⟨⟨s, hs, es⟩, eMs, -⟩ := hBo b (by omega)
    refine needFile_y c2 f3 hf ef e6 ⟨hina, ?_⟩
    have hbad : (∀ j, j < s → a2 ≠ nI j) → post 1 μ := fun hc => hp 1 μ (by
      unfold w_X8_at w_X8_at_b32
      have hr : w_X8_at_b33 (K 1) a1 a2 0 (wr μ 31 0 0) := by
        unfold w_X8_at_b33
        exact right_n (by simp [wrA, updA]) (by decide) (t_y rfl (hK 1 0 _ (by simp [wrA, updA]) (fun h => absurd h (by decide)) ⟨nf, n, nb, w, q, lt, (hI0.w n310).w n310⟩))
      refine isFile_y m2 f3 hf ef e7 (t_n (by decide) ⟨fun _ => hr, fun z1 => ⟨hina, ?_⟩⟩)
      rw [hia, show wr μ 31 0 0 36 f = nI b by simp [wrA]; exact e4, hib, show wr μ 31 0 0 38 b = nI s by simp [wrA]; rw [eMs, es]]
      refine ⟨hinb, fun _ => hr, fun z2 => ?_⟩
      rcases idx a2 (n := s) (by omega) with ⟨j, hj, e⟩ | ⟨z | z, -⟩
      · exact absurd e (hc j hj)
      · exact absurd z z1
      · exact absurd z z2)
    rw [hia, e3, hib, es]
    refine ⟨fun z => ⟨rfl, hbad (fun j hj e => by rw [e] at z; exact nI_neg (by omega) z)⟩, fun z1 => ⟨hinb, fun z2 => ?_, fun z => ⟨rfl, hbad (fun j hj e => z (by rw [e]; exact nI_lt hj (by omega)))⟩⟩⟩
    obtain ⟨j, hj, ej⟩ : ∃ j, j < s ∧ a2 = nI j := by
      rcases idx a2 (n := s) (by omega) with z | ⟨z | z, -⟩
      · exact z
      · exact absurd z z1
      · exact absurd z2 (Int32.not_lt.mpr z)
    unfold w_X0_byteOf
    rw [ej, nIm, ix_n (by omega)]
    refine ⟨vp_in_nI (by omega) (by decide), fun m em => hp 0 m ?_⟩
    subst em
    unfold w_X8_at
    refine isFile_y (n := n) (f := f) (by simp [wrA, updA]; exact m2) f3 hf ef (by simp [wrA]; exact e7) (t_n (by decide) (t_n z1 ⟨hina, ?_⟩))
    generalize hM : wr (wr μ 56 (ix 0) (μ 18 (64 * b + j) &&& 255)) 31 0 0 = M
    have g36 : M 36 f = nI b := by rw [← hM]; simp [wrA]; exact e4
    have g38 : M 38 b = nI s := by rw [← hM]; simp [wrA]; rw [eMs, es]
    have g42 : M 42 = μ 42 := by rw [← hM]; simp [wrA]
    rw [hia, g36, hib, g38]
    refine ⟨hinb, t_n (by rw [ej]; exact nI_ge hj (by omega)) ?_⟩
    unfold w_X8_at_b33
    refine right_y (by rw [← hM]; simp [wrA, updA]) (t_n (by decide) ⟨hina, ?_⟩)
    rw [hia, g36, ej, nIm', ix_n (by omega), g42]
    refine ⟨vp_in_nI (by omega) (by decide), hK 0 _ _ (by rw [← hM]; simp [wrA, updA]) (fun _ => by rw [← hM]; simp [wrA, updA, ix0]; exact (hBy.1 _ (by omega)).1.symm) ⟨nf, n, nb, w, q, lt, by rw [← hM]; exact (hI0.w n56).w n310⟩⟩
  · refine needFile_n c2 f3 hx ⟨rfl, hp 1 μ ?_⟩
    unfold w_X8_at
    exact isFile_n m2 f3 hx2 (t_y rfl (hK 1 0 _ (by simp [wrA, updA]) (fun h => absurd h (by decide)) ⟨nf, n, nb, w, q, lt, (hI0.w n310).w n310⟩))
theorem op_write {post : Int32 → Mem → Prop} {K : Int32 → Int32 → Mem → Prop} {a1 a2 a3 : Int32} {μ : Mem} (hI : InvE μ) (hK : ∀ k b m, m 31 0 = k → (k = 0 → m 56 0 = b) → InvE m → K k b m) (hp : ∀ k m, w_X8_write (K k) a1 a2 a3 m → post k m) : w_L_write post a1 a2 a3 μ := by
  obtain ⟨nf, n, nb, w, q, lt, hI⟩ := hI
  have hI0 := hI
  obtain ⟨⟨⟨c1, m1, f1, f2⟩, ⟨c2, m2, f3⟩, ⟨c3, m3, f4⟩, hC4, hC5, hC6⟩, hFo, hFi, hHe, hBo, hBy, hGr, hWi, hLe, hMe⟩ := hI
  unfold w_L_write w_X7_write w_X7_write_b36
  rcases hFi.arg f2 f3 f4 a1 with ⟨f, d0, b, hf, ef, hd0, hb, e1, e2, e3, e4, e5, e6, e7⟩ | ⟨hx, hx2⟩
  · have hina : vp_in a1 60 := by rw [ef]; exact vp_in_nI (by omega) (by decide)
    have hia : ix a1 = f := by rw [ef]; exact ix_n (by omega)
    have hinb : vp_in (nI b) 100 := vp_in_nI (by omega) (by decide)
    have hib : ix (nI b) = b := ix_n (by omega)
    obtain ⟨⟨s, hs, es⟩, eMs, -⟩ := hBo b (by omega)
    refine needFile_y c2 f3 hf ef e6 ⟨hina, ?_⟩
    have hbad : (a2 < 0 ∨ ¬ a2 ≤ nI s - 4) → post 2 μ := fun hc => hp 2 μ (by
      unfold w_X8_write w_X8_write_b34
      have hr : w_X8_write_b35 (K 2) a1 a2 a3 0 (wr μ 31 0 0) := by
        unfold w_X8_write_b35
        exact right_n (by simp [wrA, updA]) (by decide) (f_y rfl (hK 2 0 _ (by simp [wrA, updA]) (fun h => absurd h (by decide)) ⟨nf, n, nb, w, q, lt, (hI0.w n310).w n310⟩))
      refine isFile_y m2 f3 hf ef e7 (t_n (by decide) ⟨fun _ => hr, fun z1 => ⟨hina, ?_⟩⟩)
      rw [hia, show wr μ 31 0 0 36 f = nI b by simp [wrA]; exact e4, hib, show wr μ 31 0 0 38 b = nI s by simp [wrA]; rw [eMs, es]]
      refine ⟨hinb, fun _ => hr, fun z2 => ?_⟩
      rcases hc with hc | hc
      · exact absurd hc z1
      · exact absurd (Int32.not_le.mp hc) z2)
    rw [hia, e3, hib, es]
    refine ⟨fun z => Or.inr ⟨rfl, hbad (Or.inl z)⟩, fun z1 => ⟨hinb, fun z2 => ?_, fun z => Or.inr ⟨rfl, hbad (Or.inr z)⟩⟩⟩
    obtain ⟨p, hp4, ep⟩ : ∃ p, p + 4 ≤ s ∧ a2 = nI p := by
      obtain ⟨p, hpp, ep⟩ := nI_of z1
      refine ⟨p, ?_, ep⟩
      rw [ep, Int32.le_iff_toInt_le, show (4 : Int32) = nI 4 from rfl, pk_sub_toInt (by omega) (by decide), nI_toInt hpp] at z2
      omega
    rw [ep]
    refine s_write_c (by omega) (by omega) (s_noteWritten (by omega) (s_X1_having (n := n) (by simp [wrA, wrowA]; exact c2) f3 (fun m em => hp 0 m ?_)))
    have r16 : wr (wr (wrow μ 18 (wby (μ 18) (64 * b + p) (wg a3) 4)) 21 b (wrow μ 18 (wby (μ 18) (64 * b + p) (wg a3) 4) 0 10)) 22 b (-1) 16 = μ 16 := by simp [wrA, wrowA]
    rw [r16] at em
    unfold w_X8_write
    have q36 : m 36 = μ 36 := by rw [em]; simp [wrA, wrowA]
    have q34 : m 34 = μ 34 := by rw [em]; simp [wrA, wrowA]
    have q38 : m 38 = μ 38 := by rw [em]; simp [wrA, wrowA]
    have q31 : m 31 = μ 31 := by rw [em]; simp [wrA, wrowA]
    have q42 : m 42 = μ 42 := by rw [em]; simp [wrA, wrowA]
    refine isFile_y (n := n) (f := f) (by rw [q31]; exact m2) f3 hf ef (by rw [q34]; exact e7) (t_n (by decide) (t_n z1 ⟨hina, ?_⟩))
    rw [hia, show wr m 31 0 0 36 f = nI b by simp [wrA, q36]; exact e4, hib, show wr m 31 0 0 38 b = nI s by simp [wrA, q38]; rw [eMs, es]]
    refine ⟨hinb, t_n (Int32.not_lt.mpr z2) ?_⟩
    unfold w_X8_write_b35
    refine right_y (by simp [wrA, updA]) (f_n (by decide) ⟨hina, ?_⟩)
    rw [hia, show wr m 31 0 0 36 f = nI b by simp [wrA, q36]; exact e4, ep]
    refine s_write_m (by omega) (by omega) (s_isWritten (by omega) ?_)
    unfold w_X8_others
    refine ⟨hina, ?_⟩
    generalize hM : wr (wr (wrow (wr m 31 0 0) 42 (wby (wr m 31 0 0 42) (64 * b + p) (wg' a3) 4)) 40 b (wrow (wr m 31 0 0) 42 (wby (wr m 31 0 0 42) (64 * b + p) (wg' a3) 4) 31 4)) 41 b (-1) = M
    have g36 : M 36 = μ 36 := by rw [← hM]; simp [wrA, wrowA, q36]
    have g34 : M 34 = μ 34 := by rw [← hM]; simp [wrA, wrowA, q34]
    rw [hia, g36, e4]
    refine s_X8_names (n := n) (by rw [← hM]; simp [wrA, wrowA, updA, q31]; exact m2) f3 (nI_m1 (by omega)) ?_
    rw [g36, g34, hav_cong (hFi.ebd f2)]
    refine hK 0 _ _ (by rw [← hM]; simp [wrA, wrowA, updA]) (fun _ => by rw [← hM, em]; simp [wrA, updA, ix0, wrowA]) ⟨nf, n, nb, w, q, lt, ?_⟩
    subst hM em
    unfold Inv ICt
    simp only [wrA, wrowA, updA, Nat.reduceEqDiff, reduceIte]
    refine ⟨⟨⟨c1, m1, f1, f2⟩, ⟨c2, m2, f3⟩, ⟨c3, m3, f4⟩, hC4, hC5, hC6⟩, hFo, hFi, hHe, ?_, hBy.write hb f4 es hs hp4 (fun k hk => wg_eq a3 hk), hGr.wrt, hWi, hLe, hMe⟩
    rw [hC6.1]
    exact hBo.day
  · refine needFile_n c2 f3 hx (Or.inl ⟨rfl, hp 1 μ ?_⟩)
    unfold w_X8_write
    exact isFile_n m2 f3 hx2 (t_y rfl (hK 1 0 _ (by simp [wrA, updA]) (fun h => absurd h (by decide)) ⟨nf, n, nb, w, q, lt, (hI0.w n310).w n310⟩))
