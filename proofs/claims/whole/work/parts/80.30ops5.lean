theorem op_fill {post : Int32 → Mem → Prop} {K : Int32 → Int32 → Mem → Prop} {a1 a2 a3 a4 : Int32} {μ : Mem} (hI : InvE μ) (hK : ∀ k b m, m 31 0 = k → (k = 0 → m 56 0 = b) → InvE m → K k b m) (hp : ∀ k m, w_X8_fill (K k) a1 a2 a3 a4 m → post k m) : w_L_fill post a1 a2 a3 a4 μ := by
  obtain ⟨nf, n, nb, w, q, lt, hI⟩ := hI
  have hI0 := hI
  obtain ⟨⟨⟨c1, m1, f1, f2⟩, ⟨c2, m2, f3⟩, ⟨c3, m3, f4⟩, hC4, hC5, hC6⟩, hFo, hFi, hHe, hBo, hBy, hGr, hWi, hLe, hMe⟩ := hI
  unfold w_L_fill w_X7_fill w_X7_fill_b39
  rcases hFi.arg f2 f3 f4 a1 with ⟨f, d0, b, hf, ef, hd0, hb, e1, e2, e3, e4, e5, e6, e7⟩ | ⟨hx, hx2⟩
  · have hina : vp_in a1 60 := by rw [ef]; exact vp_in_nI (by omega) (by decide)
    have hia : ix a1 = f := by rw [ef]; exact ix_n (by omega)
    have hinb : vp_in (nI b) 100 := vp_in_nI (by omega) (by decide)
    have hib : ix (nI b) = b := ix_n (by omega)
    obtain ⟨⟨s, hs, es⟩, eMs, -⟩ := hBo b (by omega)
    refine needFile_y c2 f3 hf ef e6 ⟨hina, ?_⟩
    have hbad : (a2 < 0 ∨ a3 < a2 ∨ ¬ a3 ≤ nI s) → post 2 μ := fun hc => hp 2 μ (by
      unfold w_X8_fill w_X8_fill_b37
      have hr : w_X8_fill_b38 (K 2) a1 a2 a3 a4 0 (wr μ 31 0 0) := by
        unfold w_X8_fill_b38
        exact right_n (by simp [wrA, updA]) (by decide) (f_y rfl (hK 2 0 _ (by simp [wrA, updA]) (fun h => absurd h (by decide)) ⟨nf, n, nb, w, q, lt, (hI0.w n310).w n310⟩))
      refine isFile_y m2 f3 hf ef e7 (t_n (by decide) ⟨fun _ => hr, fun z1 => ⟨fun _ => hr, fun z3 => ⟨hina, ?_⟩⟩⟩)
      rw [hia, show wr μ 31 0 0 36 f = nI b by simp [wrA]; exact e4, hib, show wr μ 31 0 0 38 b = nI s by simp [wrA]; rw [eMs, es]]
      refine ⟨hinb, fun _ => hr, fun z2 => ?_⟩
      rcases hc with hc | hc | hc
      · exact absurd hc z1
      · exact absurd hc z3
      · exact absurd (Int32.not_le.mp hc) z2)
    rw [hia, e3, hib, es]
    refine ⟨fun z => Or.inr ⟨rfl, hbad (Or.inl z)⟩, fun z1 => ⟨fun z => Or.inr ⟨rfl, hbad (Or.inr (Or.inl z))⟩, fun z2 => ⟨hinb, fun z3 => ?_, fun z => Or.inr ⟨rfl, hbad (Or.inr (Or.inr z))⟩⟩⟩⟩
    obtain ⟨p, z, hpz, hzs, ep, ez⟩ : ∃ p z, p ≤ z ∧ z ≤ s ∧ a2 = nI p ∧ a3 = nI z := by
      obtain ⟨p, hpp, ep⟩ := nI_of z1
      have z0 : ¬ a3 < 0 := fun y => z2 (by
        rw [Int32.lt_iff_toInt_lt] at y ⊢
        rw [ep, nI_toInt hpp]
        have : (0 : Int32).toInt = 0 := by decide
        omega)
      obtain ⟨z, hzz, ez⟩ := nI_of z0
      rw [ep, ez, nI_ltI hzz hpp] at z2
      rw [ez, nI_leI hzz (by omega)] at z3
      exact ⟨p, z, by omega, z3, ep, ez⟩
    subst ep ez
    have hcong : hav (ebd (μ 34) (μ 36)) n (nI b) = hav (μ 16) n (nI b) := hav_cong (hFi.ebd f2)
    have hg : ∀ k, k < z - p → (fun _ : Nat => a4 &&& 255) k = (fun _ : Nat => a4.toInt8.toInt32) k &&& 255 ∧ ((fun _ : Nat => a4.toInt8.toInt32) k).toInt8.toInt32 = (fun _ : Nat => a4.toInt8.toInt32) k := fun k hk => ⟨(by_2 a4).symm, by_1 a4⟩
    have hBy' := hBy.write (p := p) (n := z - p) hb f4 es hs (by omega) hg
    -- the reference, from any memory that has the class's bytes written
    have ref : ∀ (m : Mem), m 36 = μ 36 → m 34 = μ 34 → m 38 = μ 38 → m 31 = μ 31 → m 42 = μ 42 → (∀ M : Mem, M = wrow (wr m 31 0 0) 42 (wby (μ 42) (64 * b + p) (fun _ => a4 &&& 255) (z - p)) → (nI z ≤ nI p → K 0 (nI (hav (μ 16) n (nI b)) - 1) M) ∧ (¬ nI z ≤ nI p → K 0 (nI (hav (μ 16) n (nI b)) - 1) (wr (wr M 40 b (M 31 4)) 41 b (-1)))) → w_X8_fill (K 0) a1 (nI p) (nI z) a4 m := fun m q36 q34 q38 q31 q42 hfin => by
      unfold w_X8_fill
      refine isFile_y (n := n) (f := f) (by rw [q31]; exact m2) f3 hf ef (by rw [q34]; exact e7) (t_n (by decide) (t_n z1 (t_n z2 ⟨hina, ?_⟩)))
      rw [hia, show wr m 31 0 0 36 f = nI b by simp [wrA, q36]; exact e4, hib, show wr m 31 0 0 38 b = nI s by simp [wrA, q38]; rw [eMs, es]]
      refine ⟨hinb, t_n (Int32.not_lt.mpr z3) ?_⟩
      unfold w_X8_fill_b38
      refine right_y (by simp [wrA, updA]) (f_n (by decide) ⟨hina, ?_⟩)
      rw [hia, show wr m 31 0 0 36 f = nI b by simp [wrA, q36]; exact e4]
      refine s_fill_m (by omega) (by omega) (by omega) ?_
      rw [show wr m 31 0 0 42 = μ 42 by simp [wrA, q42]]
      obtain ⟨hy, hn⟩ := hfin _ rfl
      unfold w_X8_fill_b100 w_X8_others
      refine ⟨fun c => ⟨hina, ?_⟩, fun c => s_isWritten (by omega) ⟨hina, ?_⟩⟩
      · rw [hia, show wrow (wr m 31 0 0) 42 (wby (μ 42) (64 * b + p) (fun _ => a4 &&& 255) (z - p)) 36 f = nI b by simp [wrA, wrowA, q36]; exact e4]
        refine s_X8_names (n := n) (by simp [wrA, wrowA, updA, q31]; exact m2) f3 (nI_m1 (by omega)) ?_
        rw [show wrow (wr m 31 0 0) 42 (wby (μ 42) (64 * b + p) (fun _ => a4 &&& 255) (z - p)) 36 = μ 36 by simp [wrA, wrowA, q36], show wrow (wr m 31 0 0) 42 (wby (μ 42) (64 * b + p) (fun _ => a4 &&& 255) (z - p)) 34 = μ 34 by simp [wrA, wrowA, q34], hcong]
        exact hy c
      · generalize hM : wr (wr (wrow (wr m 31 0 0) 42 (wby (μ 42) (64 * b + p) (fun _ => a4 &&& 255) (z - p))) 40 b (wrow (wr m 31 0 0) 42 (wby (μ 42) (64 * b + p) (fun _ => a4 &&& 255) (z - p)) 31 4)) 41 b (-1) = M
        have g36 : M 36 = μ 36 := by rw [← hM]; simp [wrA, wrowA, q36]
        have g34 : M 34 = μ 34 := by rw [← hM]; simp [wrA, wrowA, q34]
        rw [hia, g36, e4]
        refine s_X8_names (n := n) (by rw [← hM]; simp [wrA, wrowA, updA, q31]; exact m2) f3 (nI_m1 (by omega)) ?_
        rw [g36, g34, hcong, ← hM]
        exact hn c
    unfold w_X7_fill_b88 at *
    refine s_fill_c (by omega) (by omega) (by omega) ⟨fun c => ?_, fun c => s_noteWritten (by omega) ?_⟩
    · unfold w_X7_fill_b88
      refine s_X1_having (n := n) (by simp [wrowA]; exact c2) f3 (fun m em => hp 0 m ?_)
      rw [show wrow μ 18 (wby (μ 18) (64 * b + p) (fun _ => a4.toInt8.toInt32) (z - p)) 16 = μ 16 by simp [wrowA]] at em
      subst em
      refine ref _ (by simp [wrA, wrowA]) (by simp [wrA, wrowA]) (by simp [wrA, wrowA]) (by simp [wrA, wrowA]) (by simp [wrA, wrowA]) (fun M hM => ⟨fun _ => ?_, fun c' => absurd c c'⟩)
      subst hM
      refine hK 0 _ _ (by simp [wrA, wrowA, updA]) (fun _ => by simp [wrA, updA, ix0, wrowA]) ⟨nf, n, nb, w, q, lt, ?_⟩
      unfold Inv ICt
      simp only [wrA, wrowA, updA, Nat.reduceEqDiff, reduceIte]
      exact ⟨⟨⟨c1, m1, f1, f2⟩, ⟨c2, m2, f3⟩, ⟨c3, m3, f4⟩, hC4, hC5, hC6⟩, hFo, hFi, hHe, hBo, hBy', hGr, hWi, hLe, hMe⟩
    · unfold w_X7_fill_b88
      refine s_X1_having (n := n) (by simp [wrA, wrowA]; exact c2) f3 (fun m em => hp 0 m ?_)
      rw [show wr (wr (wrow μ 18 (wby (μ 18) (64 * b + p) (fun _ => a4.toInt8.toInt32) (z - p))) 21 b (wrow μ 18 (wby (μ 18) (64 * b + p) (fun _ => a4.toInt8.toInt32) (z - p)) 0 10)) 22 b (-1) 16 = μ 16 by simp [wrA, wrowA]] at em
      subst em
      refine ref _ (by simp [wrA, wrowA]) (by simp [wrA, wrowA]) (by simp [wrA, wrowA]) (by simp [wrA, wrowA]) (by simp [wrA, wrowA]) (fun M hM => ⟨fun c' => absurd c' c, fun _ => ?_⟩)
      subst hM
      refine hK 0 _ _ (by simp [wrA, wrowA, updA]) (fun _ => by simp [wrA, updA, ix0, wrowA]) ⟨nf, n, nb, w, q, lt, ?_⟩
      unfold Inv ICt
      simp only [wrA, wrowA, updA, Nat.reduceEqDiff, reduceIte]
      refine ⟨⟨⟨c1, m1, f1, f2⟩, ⟨c2, m2, f3⟩, ⟨c3, m3, f4⟩, hC4, hC5, hC6⟩, hFo, hFi, hHe, ?_, hBy', hGr.wrt, hWi, hLe, hMe⟩
      rw [hC6.1]
      exact hBo.day
  · refine needFile_n c2 f3 hx (Or.inl ⟨rfl, hp 1 μ ?_⟩)
    unfold w_X8_fill
    exact isFile_n m2 f3 hx2 (t_y rfl (hK 1 0 _ (by simp [wrA, updA]) (fun h => absurd h (by decide)) ⟨nf, n, nb, w, q, lt, (hI0.w n310).w n310⟩))
theorem op_copy {post : Int32 → Mem → Prop} {K : Int32 → Int32 → Mem → Prop} {a1 a2 a3 : Int32} {μ : Mem} (hI : InvE μ) (hK : ∀ k b m, m 31 0 = k → (k = 0 → m 56 0 = b) → InvE m → K k b m) (hp : ∀ k m, w_X8_copy (K k) a1 a2 a3 m → post k m) : w_L_copy post a1 a2 a3 μ := by
  obtain ⟨nf, n, nb, w, q, lt, hI⟩ := hI
  have hI0 := hI
  obtain ⟨⟨⟨c1, m1, f1, f2⟩, ⟨c2, m2, f3⟩, ⟨c3, m3, f4⟩, hC4, hC5, hC6⟩, hFo, hFi, hHe, hBo, hBy, hGr, hWi, hLe, hMe⟩ := hI
  unfold w_L_copy w_X7_copy
  rcases hFi.arg f2 f3 f4 a1 with ⟨f, d0, b, hf, ef, hd0, hb, e1, e2, e3, e4, e5, e6, e7⟩ | ⟨hx, hx2⟩
  · have hina : vp_in a1 60 := by rw [ef]; exact vp_in_nI (by omega) (by decide)
    have hia : ix a1 = f := by rw [ef]; exact ix_n (by omega)
    have hinb : vp_in (nI b) 100 := vp_in_nI (by omega) (by decide)
    have hib : ix (nI b) = b := ix_n (by omega)
    obtain ⟨⟨s, hs, es⟩, eMs, ⟨o, ho, eo⟩, eMo, eMd⟩ := hBo b (by omega)
    refine needFile_y c2 f3 hf ef e6 ?_
    rcases idx a2 (n := nf) (by omega) with ⟨d, hd, e⟩ | ⟨-, hx⟩
    · refine needFolder_y c1 f2 hd e ?_
      have hda : ¬ a2 = -1 := by rw [e]; exact nI_m1 (by omega)
      have hneg : ¬ ((n < 60 ∧ isNm a3 = true ∧ fst (sea (μ 14) (μ 15) 0 a2 a3) n = -1) ∧ nb < 100) → ∀ m, m = wr μ 56 (ix 0) (-1) → post 0 m := fun hc m em => by
        refine hp 0 m ?_
        subst em
        unfold w_X8_copy
        have done : K 0 (-1) (wr (wr μ 56 (ix 0) (-1)) 31 0 0) := hK 0 (-1) _ (by simp [wrA, updA]) (fun _ => by simp [wrA, updA, ix0]) ⟨nf, n, nb, w, q, lt, (hI0.w n56).w n310⟩
        refine isFile_y (n := n) (f := f) (by simp [wrA, updA]; exact m2) f3 hf ef (by simp [wrA]; exact e7) (t_n (by decide) ?_)
        refine isFolder_y (nf := nf) (by simp [wrA, updA]) (by simp [wrA, updA]; exact m1) f2 hd e (f_n (by decide) ?_)
        refine s_canCome (n := n) (by simp [wrA, updA]; exact m2) f3 (fun k1 k2 k3 => t_n (by decide) ?_) (fun z => t_y rfl done)
        simp [wrA] at k3
        rw [← hFi.sea hda] at k3
        exact And.symm (pk_eq nb 100 (fun _ => done) (fun k4 => absurd ⟨⟨k1, k2, k3⟩, by omega⟩ hc) (by simp [wrA, updA]; exact m3) rfl (by omega) (by omega))
      refine s_mayCome c2 f3 (fun k1 k2 k3 => t_n (by decide) ?_) (fun hc => t_y rfl (hneg (fun y => hc y.1)))
      unfold w_X0_hasRoomFor
      refine pk_lt 100 (nb + 1) (fun k4 => f_y rfl (hneg (fun y => by omega))) (fun k4 => f_n (by decide) ⟨hina, ?_⟩) rfl (by rw [c3]; exact nIs nb) (by omega) (by omega)
      rw [hia, e3, hib]
      refine ⟨hinb, s_makeLike c3 (by omega) hb es hs (fun j hj => (hBy.1 j hj).2) (s_X1_make (n := n) (by simp [wrA, wrowA]; exact c2) k1 (fun m em => hp 0 m ?_))⟩
      have q36 : m 36 = μ 36 := by rw [em]; simp [wrA, wrowA]
      have q34 : m 34 = μ 34 := by rw [em]; simp [wrA, wrowA]
      have q35 : m 35 = μ 35 := by rw [em]; simp [wrA, wrowA]
      have q38 : m 38 = μ 38 := by rw [em]; simp [wrA, wrowA]
      have q39 : m 39 = μ 39 := by rw [em]; simp [wrA, wrowA]
      have q31 : m 31 = μ 31 := by rw [em]; simp [wrA, wrowA]
      have q42 : m 42 = μ 42 := by rw [em]; simp [wrA, wrowA]
      unfold w_X8_copy
      refine isFile_y (n := n) (f := f) (by rw [q31]; exact m2) f3 hf ef (by rw [q34]; exact e7) (t_n (by decide) ?_)
      refine isFolder_y (nf := nf) (by simp [wrA, updA]) (by simp [wrA, updA, q31]; exact m1) f2 hd e (f_n (by decide) ?_)
      refine s_canCome (n := n) (by simp [wrA, updA, q31]; exact m2) f3 (fun _ _ _ => t_n (by decide) ?_) (fun z => absurd ⟨k1, k2, ?_⟩ z)
      · refine And.symm (pk_eq nb 100 (fun _ => by omega) (fun _ => ?_) (by simp [wrA, updA, q31]; exact m3) rfl (by omega) (by omega))
        rw [hia, show wr m 31 0 0 36 f = nI b by simp [wrA, q36]; exact e4, hib]
        refine ⟨hina, hinb, hina, hinb, s_newBody (n := nb) (by simp [wrA, updA, q31]; exact m3) (by omega) ⟨hina, ?_⟩⟩
        generalize hM : wr (wr (wr (wr (wr (wr m 31 0 0) 38 nb (wr m 31 0 0 38 b)) 39 nb (wr m 31 0 0 39 b)) 40 nb (wr m 31 0 0 31 4)) 41 nb (-1)) 31 3 (nI (nb + 1)) = M
        have g36 : M 36 f = nI b := by rw [← hM]; simp [wrA, q36]; exact e4
        rw [g36]
        refine s_fillsFrom (by omega) (by omega) (by omega) (s_newFile (n := n) (by rw [← hM]; simp [wrA, wrowA, updA, q31]; exact m2) k1 ?_)
        refine hK 0 (nI n) _ (by rw [← hM]; simp [wrA, updA, wrowA]) (fun _ => by rw [← hM, em]; simp [wrA, updA, ix0, wrowA]) ⟨nf, n + 1, nb + 1, w, q, lt, ?_⟩
        subst hM em
        unfold Inv ICt
        simp only [wrA, wrowA, updA, Nat.reduceEqDiff, reduceIte]
        rw [hC6.1, eMs, eMo, es]
        exact ⟨⟨⟨c1, m1, f1, f2⟩, ⟨trivial, trivial, by omega⟩, ⟨trivial, trivial, by omega⟩, hC4, hC5, rfl, hC6.2⟩, hFo, (hFi.mono (Nat.le_refl _) (by omega)).add hd (Nat.lt_succ_self nb) e rfl, hHe, hBo.add hs ho rfl eo, hBy.copy hb (by omega) es hs, (hGr.body (by omega) hFi).add (fun b' hb' e' => by rw [← (nI_eq (by omega) (by omega)).mp e', up_s]; exact hGr.1 nb (Nat.le_refl _) (by omega)), hWi, hLe, hMe.mono (by omega) (by omega)⟩
      · simp [wrA, q34, q35]; rw [← hFi.sea hda]; exact k3
    · refine needFolder_n c1 f2 hx ⟨rfl, hp 1 μ ?_⟩
      unfold w_X8_copy
      refine isFile_y m2 f3 hf ef e7 (t_n (by decide) ?_)
      exact isFolder_n (nf := nf) (by simp [wrA, updA]) (by simp [wrA, updA]; exact m1) f2 hx (f_y rfl (hK 1 0 _ (by simp [wrA, updA]) (fun h => absurd h (by decide)) ⟨nf, n, nb, w, q, lt, (hI0.w n310).w n310⟩))
  · refine needFile_n c2 f3 hx ⟨rfl, hp 1 μ ?_⟩
    unfold w_X8_copy
    exact isFile_n m2 f3 hx2 (t_y rfl (hK 1 0 _ (by simp [wrA, updA]) (fun h => absurd h (by decide)) ⟨nf, n, nb, w, q, lt, (hI0.w n310).w n310⟩))
