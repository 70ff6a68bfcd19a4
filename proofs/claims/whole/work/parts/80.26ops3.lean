theorem op_days {post : Int32 → Mem → Prop} {K : Int32 → Int32 → Mem → Prop} {a1 : Int32} {μ : Mem} (hI : InvE μ) (hK : ∀ k b m, m 31 0 = k → (k = 0 → m 56 0 = b) → InvE m → K k b m) (hp : ∀ k m, w_X8_days (K k) a1 m → post k m) : w_L_days post a1 μ := by
  obtain ⟨nf, n, nb, w, q, lt, hI⟩ := hI
  have hI0 := hI
  obtain ⟨⟨hC1, hC2, hC3, hC4, hC5, hC6⟩, hFo, hFi, hHe, hBo, hBy, hGr, hWi, hLe, hMe⟩ := hI
  have hbad : (a1 < 0 ∨ ¬ a1 ≤ 1000) → post 1 μ := fun hc => hp 1 μ (by
    unfold w_X8_days w_X8_days_b21
    intro m em
    subst em
    have done : K 1 0 (wr (wr μ 31 0 0) 31 0 1) := hK 1 0 _ (by simp [wrA, updA]) (fun h => absurd h (by decide)) ⟨nf, n, nb, w, q, lt, (hI0.w n310).w n310⟩
    have hr : w_X8_days_b22 (K 1) a1 0 (wr μ 31 0 0) := by
      unfold w_X8_days_b22
      exact right_n (by simp [wrA, updA]) (by decide) (f_y rfl done)
    refine ⟨fun _ => hr, fun z1 => ⟨fun _ => hr, fun z2 => ?_⟩⟩
    rcases hc with hc | hc
    · exact absurd hc z1
    · exact absurd (Int32.not_le.mp hc) z2)
  unfold w_L_days w_X7_days w_X7_days_b11
  refine ⟨fun z => ⟨rfl, hbad (Or.inl z)⟩, fun z1 => ⟨fun z2 m1 e1 m2 e2 => hp 0 m2 ?_, fun z => ⟨rfl, hbad (Or.inr z)⟩⟩⟩
  subst e1 e2
  unfold w_X8_days w_X8_days_b22
  intro m em
  subst em
  refine t_n z1 (t_n (Int32.not_lt.mpr z2) (right_y (by simp [wrA, updA]) (f_n (by decide) (fun m em => ?_))))
  subst em
  refine hK 0 _ _ (by simp [wrA, updA]) (fun _ => by simp [wrA, updA, ix0]; rw [hC6.1]) ⟨nf, n, nb, w, q, lt, ?_⟩
  unfold Inv ICt
  simp only [wrA, updA, Nat.reduceEqDiff, reduceIte]
  exact ⟨⟨hC1, hC2, hC3, hC4, hC5, by rw [hC6.1], hC6.2⟩, hFo, hFi, hHe, hBo, hBy, hGr, hWi, hLe, hMe⟩
theorem op_unwish {K : Int32 → Int32 → Mem → Prop} {μ : Mem} (hI : InvE μ) (hK : ∀ b m, InvE m → K b b m) : w_X7_unwish (fun r m => w_X8_unwish (K r) m) μ := by
  obtain ⟨nf, n, nb, w, q, lt, hI⟩ := hI
  obtain ⟨⟨hC1, hC2, hC3, hC4, hC5, hC6⟩, hFo, hFi, hHe, hBo, hBy, hGr, hWi, hLe, hMe⟩ := hI
  unfold w_X7_unwish w_X8_unwish
  intro m1 e1 m2 e2 m3 e3
  subst e1 e2 e3
  have e : μ 7 2 = wr (wr μ 7 2 0) 31 0 0 31 8 := by simp [wrA, updA]; rw [hC4.1, hC4.2.1]
  rw [← e]
  refine hK _ _ ⟨nf, n, nb, 0, q, lt, ?_⟩
  unfold Inv ICt
  simp only [wrA, updA, Nat.reduceEqDiff, reduceIte]
  exact ⟨⟨hC1, hC2, hC3, ⟨rfl, rfl, by omega⟩, hC5, hC6⟩, hFo, hFi, hHe, hBo, hBy, hGr, fun i hi => absurd hi (Nat.not_lt_zero i), hLe, hMe⟩
theorem op_reads {K : Int32 → Int32 → Mem → Prop} {μ : Mem} (hI : InvE μ) (hK : ∀ b m, InvE m → K b b m) : w_X7_reads (fun r m => w_X8_reads (K r) m) μ := by
  obtain ⟨nf, n, nb, w, q, lt, hI⟩ := hI
  unfold w_X7_reads w_X8_reads
  intro m1 e1
  subst e1
  have e : μ 4 4 = wr μ 31 0 0 31 7 := by simp [wrA, updA]; exact hI.1.2.2.2.2.2.2.2.2
  rw [← e]
  exact hK _ _ ⟨nf, n, nb, w, q, lt, hI.w n310⟩
theorem op_hold {post : Int32 → Mem → Prop} {K : Int32 → Int32 → Mem → Prop} {a1 a2 : Int32} {μ : Mem} (ha : a2 = 0 ∨ a2 = 1) (hI : InvE μ) (hK : ∀ k b m, m 31 0 = k → (k = 0 → m 56 0 = if b = 0 then 0 else 1) → InvE m → K k b m) (hp : ∀ k m, w_X8_hold (K k) a1 a2 m → post k m) : w_L_hold post a1 a2 μ := by
  obtain ⟨nf, n, nb, w, q, lt, hI⟩ := hI
  have hI0 := hI
  obtain ⟨⟨⟨c1, m1, f1, f2⟩, ⟨c2, m2, f3⟩, ⟨c3, m3, f4⟩, hC4, hC5, hC6⟩, hFo, hFi, hHe, hBo, hBy, hGr, hWi, hLe, hMe⟩ := hI
  have hnz : nz a2 = a2 := by rcases ha with e | e <;> subst e <;> rfl
  unfold w_L_hold w_X7_hold
  rcases hFi.arg f2 f3 f4 a1 with ⟨f, d0, b, hf, ef, hd0, hb, e1, e2, e3, e4, e5, e6, e7⟩ | ⟨hx, hx2⟩
  · have hina : vp_in a1 60 := by rw [ef]; exact vp_in_nI (by omega) (by decide)
    have hia : ix a1 = f := by rw [ef]; exact ix_n (by omega)
    obtain ⟨h1, h2⟩ := hHe f (by omega)
    have hbz : bz (μ 17 f) := by rcases h2 with h2 | h2 <;> rw [h2] <;> rfl
    refine needFile_y c2 f3 hf ef e6 ⟨hina, hina, fun y1 g1 => ?_⟩
    rw [hia] at g1 ⊢
    refine ⟨hbz, ?_⟩
    have fin : ∀ v : Int32, v = (if μ 17 f = 0 then 0 else 1) → ∀ m, m = wr y1 56 (ix 0) v → post 0 m := fun v hv m em => by
      refine hp 0 m ?_
      subst em g1
      unfold w_X8_hold
      refine isFile_y (n := n) (f := f) (by simp [wrA, updA]; exact m2) f3 hf ef (by simp [wrA]; exact e7) (f_n (by decide) ⟨hina, hina, fun y2 g2 => ?_⟩)
      have e9 : wr (wr (wr μ 17 f (nz a2)) 56 (ix 0) v) 31 0 0 37 (ix a1) = μ 17 f := by simp [wrA]; rw [hia, h1]
      rw [e9]
      refine ⟨hbz, ?_⟩
      subst g2
      refine hK 0 _ _ (by simp [wrA, updA]) (fun _ => by simp [wrA, updA, ix0]; exact hv) ⟨nf, n, nb, w, q, lt, ?_⟩
      unfold Inv ICt
      simp only [wrA, updA, Nat.reduceEqDiff, reduceIte, hia, hnz]
      refine ⟨⟨⟨c1, m1, f1, f2⟩, ⟨c2, m2, f3⟩, ⟨c3, m3, f4⟩, hC4, hC5, hC6⟩, hFo, hFi, fun g hg => ?_, hBo, hBy, hGr, hWi, hLe, hMe⟩
      by_cases c : g = f
      · subst c
        rw [up_s, up_s]
        exact ⟨rfl, ha⟩
      · rw [up_n c, up_n c]
        exact hHe g hg
    exact ⟨fun z => fin 0 (by rw [if_pos z]), fun z => fin 1 (by rw [if_neg z])⟩
  · refine needFile_n c2 f3 hx ⟨rfl, hp 1 μ ?_⟩
    unfold w_X8_hold
    exact isFile_n m2 f3 hx2 (f_y rfl (hK 1 0 _ (by simp [wrA, updA]) (fun h => absurd h (by decide)) ⟨nf, n, nb, w, q, lt, (hI0.w n310).w n310⟩))
theorem op_groupOf {post : Int32 → Mem → Prop} {K : Int32 → Int32 → Mem → Prop} {a1 : Int32} {μ : Mem} (hI : InvE μ) (hK : ∀ k b m, m 31 0 = k → (k = 0 → m 56 0 = b) → InvE m → K k b m) (hp : ∀ k m, w_X8_groupOf (K k) a1 m → post k m) : w_L_groupOf post a1 μ := by
  obtain ⟨nf, n, nb, w, q, lt, hI⟩ := hI
  have hI0 := hI
  obtain ⟨⟨⟨c1, m1, f1, f2⟩, ⟨c2, m2, f3⟩, ⟨c3, m3, f4⟩, hC4, hC5, hC6⟩, hFo, hFi, hHe, hBo, hBy, hGr, hWi, hLe, hMe⟩ := hI
  unfold w_L_groupOf w_X7_groupOf
  rcases hFi.arg f2 f3 f4 a1 with ⟨f, d0, b, hf, ef, hd0, hb, e1, e2, e3, e4, e5, e6, e7⟩ | ⟨hx, hx2⟩
  · have hina : vp_in a1 60 := by rw [ef]; exact vp_in_nI (by omega) (by decide)
    have hia : ix a1 = f := by rw [ef]; exact ix_n (by omega)
    have hinb : vp_in (nI b) 100 := vp_in_nI (by omega) (by decide)
    refine needFile_y c2 f3 hf ef e6 ?_
    rw [hia, e3, ix_n (by omega)]
    refine ⟨hina, hinb, fun m em => hp 0 m ?_⟩
    subst em
    unfold w_X8_groupOf
    refine isFile_y (n := n) (f := f) (by simp [wrA, updA]; exact m2) f3 hf ef (by simp [wrA]; exact e7) (t_n (by decide) ⟨hina, ?_⟩)
    rw [hia]
    have e9 : wr (wr μ 56 (ix 0) (μ 22 b)) 31 0 0 36 f = nI b := by simp [wrA]; exact e4
    rw [e9, ix_n (by omega)]
    refine ⟨hinb, hK 0 _ _ (by simp [wrA, updA]) (fun _ => by simp [wrA, updA, ix0]; exact hGr.2 f hf b hb e3) ⟨nf, n, nb, w, q, lt, (hI0.w n56).w n310⟩⟩
  · refine needFile_n c2 f3 hx ⟨rfl, hp 1 μ ?_⟩
    unfold w_X8_groupOf
    exact isFile_n m2 f3 hx2 (t_y rfl (hK 1 0 _ (by simp [wrA, updA]) (fun h => absurd h (by decide)) ⟨nf, n, nb, w, q, lt, (hI0.w n310).w n310⟩))
theorem op_remove {post : Int32 → Mem → Prop} {K : Int32 → Int32 → Mem → Prop} {a1 : Int32} {μ : Mem} (hI : InvE μ) (hK : ∀ k b m, m 31 0 = k → (k = 0 → m 56 0 = b) → InvE m → K k b m) (hp : ∀ k m, w_X8_remove (K k) a1 m → post k m) : w_L_remove post a1 μ := by
  obtain ⟨nf, n, nb, w, q, lt, hI⟩ := hI
  have hI0 := hI
  obtain ⟨⟨⟨c1, m1, f1, f2⟩, ⟨c2, m2, f3⟩, ⟨c3, m3, f4⟩, hC4, hC5, hC6⟩, hFo, hFi, hHe, hBo, hBy, hGr, hWi, hLe, hMe⟩ := hI
  unfold w_L_remove w_X7_remove
  rcases hFi.arg f2 f3 f4 a1 with ⟨f, d0, b, hf, ef, hd0, hb, e1, e2, e3, e4, e5, e6, e7⟩ | ⟨hx, hx2⟩
  · have hina : vp_in a1 60 := by rw [ef]; exact vp_in_nI (by omega) (by decide)
    have hia : ix a1 = f := by rw [ef]; exact ix_n (by omega)
    obtain ⟨h1, h2⟩ := hHe f (by omega)
    refine needFile_y c2 f3 hf ef e6 ⟨hina, ?_⟩
    rw [hia]
    by_cases hh : μ 17 f = 0
    · refine t_y hh ⟨hina, ?_⟩
      unfold w_X1_drop
      rw [hia]
      refine ⟨hina, fun y1 g1 => ⟨hina, fun y2 g2 => ⟨hina, fun y3 g3 => ?_⟩⟩⟩
      rw [e3]
      have r16 : y3 16 = upd (μ 16) f (-1) := by rw [g3, g2, g1]; simp [wrA]
      refine s_X1_having (n := n) (by rw [g3, g2, g1]; simp [wrA]; exact c2) f3 (fun m em => hp 0 m ?_)
      rw [r16] at em
      subst em g3 g2 g1
      have hFi' := hFi.drop (f := f)
      have hav_e : hav (ebd (upd (μ 34) f (-1)) (μ 36)) n (nI b) = hav (upd (μ 16) f (-1)) n (nI b) := hav_cong (hFi'.ebd f2)
      unfold w_X8_remove
      refine isFile_y (n := n) (f := f) (by simp [wrA, updA]; exact m2) f3 hf ef (by simp [wrA]; exact e7) (f_n (by decide) ⟨hina, ?_⟩)
      rw [hia]
      refine t_y (by simp [wrA]; rw [← h1]; exact hh) ⟨hina, fun y4 g4 => ⟨hina, ?_⟩⟩
      have r36 : y4 36 = μ 36 := by rw [g4]; simp [wrA]
      have r34 : y4 34 = upd (μ 34) f (-1) := by rw [g4]; simp [wrA]
      have r31 : y4 31 2 = nI n := by rw [g4]; simp [wrA, updA]; exact m2
      rw [r36, e4]
      refine s_leaves r31 f3 (by omega) ⟨hina, ?_⟩
      rw [r36, r34, hav_e]
      have r36' : (if hav (upd (μ 16) f (-1)) n (nI b) = 0 then wr y4 41 b (-1) else y4) 36 = μ 36 := by split <;> simp [wrA, r36]
      have r34' : (if hav (upd (μ 16) f (-1)) n (nI b) = 0 then wr y4 41 b (-1) else y4) 34 = upd (μ 34) f (-1) := by split <;> simp [wrA, r34]
      rw [r36', e4]
      refine s_X8_names (n := n) (by split <;> simp [wrA, r31]) f3 (nI_m1 (by omega)) ?_
      rw [r34', r36', hav_e]
      have hI9 : ∀ mg, IGr n nb (upd (μ 16) f (-1)) (μ 22) mg → Inv nf n nb w q lt (wrow y4 41 mg) := fun mg hg => by
        subst g4
        unfold Inv ICt
        simp only [wrow, wrA, updA, Nat.reduceEqDiff, reduceIte]
        exact ⟨⟨⟨c1, m1, f1, f2⟩, ⟨c2, m2, f3⟩, ⟨c3, m3, f4⟩, hC4, hC5, hC6⟩, hFo, hFi', hHe, hBo, hBy, hg, hWi, hLe, hMe⟩
      have hGr' := hGr.less (b := b) (cb' := upd (μ 16) f (-1)) (fun g hg c hc e => by
        by_cases z : g = f
        · rw [z, up_s] at e; exact absurd e.symm (nI_m1 (by omega))
        · refine ⟨by rw [up_n z] at e; exact e, fun h0 ec => ?_⟩
          rw [ec] at e
          exact hav_z h0 hg e)
      refine hK 0 _ _ (by subst g4; split <;> simp [wrA, updA]) (fun _ => by subst g4; split <;> simp [wrA, updA, ix0]) ⟨nf, n, nb, w, q, lt, ?_⟩
      have hI9' := hI9 _ hGr'
      have r41 : y4 41 = μ 41 := by rw [g4]; simp [wrA]
      by_cases h0 : hav (upd (μ 16) f (-1)) n (nI b) = 0
      · rw [if_pos h0] at hI9' ⊢
        rw [wr_row, r41]
        exact hI9'
      · rw [if_neg h0] at hI9' ⊢
        have : wrow y4 41 (μ 41) = y4 := by
          funext k
          unfold wrow
          split
          · rename_i e; rw [e, r41]
          · rfl
        rw [this] at hI9'
        exact hI9'
    · refine t_n hh (fun m em => hp 0 m ?_)
      subst em
      unfold w_X8_remove
      refine isFile_y (n := n) (f := f) (by simp [wrA, updA]; exact m2) f3 hf ef (by simp [wrA]; exact e7) (f_n (by decide) ⟨hina, ?_⟩)
      rw [hia]
      exact t_n (by simp [wrA]; rw [← h1]; exact hh) (hK 0 (-1) _ (by simp [wrA, updA]) (fun _ => by simp [wrA, updA, ix0]) ⟨nf, n, nb, w, q, lt, (hI0.w n56).w n310⟩)
  · refine needFile_n c2 f3 hx ⟨rfl, hp 1 μ ?_⟩
    unfold w_X8_remove
    exact isFile_n m2 f3 hx2 (f_y rfl (hK 1 0 _ (by simp [wrA, updA]) (fun h => absurd h (by decide)) ⟨nf, n, nb, w, q, lt, (hI0.w n310).w n310⟩))
