theorem op_link {post : Int32 → Mem → Prop} {K : Int32 → Int32 → Mem → Prop} {a1 a2 a3 : Int32} {μ : Mem} (hI : InvE μ) (hK : ∀ k b m, m 31 0 = k → (k = 0 → m 56 0 = b) → InvE m → K k b m) (hp : ∀ k m, w_X8_link (K k) a1 a2 a3 m → post k m) : w_L_link post a1 a2 a3 μ := by
  obtain ⟨nf, n, nb, w, q, lt, hI⟩ := hI
  have hI0 := hI
  obtain ⟨⟨⟨c1, m1, f1, f2⟩, ⟨c2, m2, f3⟩, ⟨c3, m3, f4⟩, hC4, hC5, hC6⟩, hFo, hFi, hHe, hBo, hBy, hGr, hWi, hLe, hMe⟩ := hI
  unfold w_L_link w_X7_link
  rcases hFi.arg f2 f3 f4 a1 with ⟨f, d0, b, hf, ef, hd0, hb, e1, e2, e3, e4, e5, e6, e7⟩ | ⟨hx, hx2⟩
  · refine needFile_y c2 f3 hf ef e6 ?_
    rcases idx a2 (n := nf) (by omega) with ⟨d, hd, e⟩ | ⟨-, hx⟩
    · refine needFolder_y c1 f2 hd e ?_
      have hda : ¬ a2 = -1 := by rw [e]; exact nI_m1 (by omega)
      refine s_mayCome c2 f3 (fun k1 k2 k3 => f_n (by decide) ⟨by rw [ef]; exact vp_in_nI (by omega) (by decide), s_X1_make c2 k1 (fun m em => hp 0 m ?_)⟩) (fun hc => f_y rfl (fun m em => hp 0 m ?_))
      · rw [ef, ix_n (by omega)] at em
        unfold w_X8_link
        subst em
        refine isFile_y (n := n) (f := f) (by simp [wrA, updA]; exact m2) f3 hf ef (by simp [wrA]; exact e7) (t_n (by decide) ?_)
        refine isFolder_y (nf := nf) (by simp [wrA, updA]) (by simp [wrA, updA]; exact m1) f2 hd e (f_n (by decide) ?_)
        refine s_canCome (n := n) (by simp [wrA, updA]; exact m2) f3 (fun _ _ _ => t_n (by decide) ⟨by rw [ef]; exact vp_in_nI (by omega) (by decide), s_newFile (n := n) (by simp [wrA, updA]; exact m2) k1 ?_⟩) (fun z => absurd ⟨k1, k2, ?_⟩ z)
        · refine hK 0 (nI n) _ (by simp [wrA, updA]) (fun _ => by simp [wrA, updA, ix0]) ⟨nf, n + 1, nb, w, q, lt, ?_⟩
          unfold Inv ICt
          simp only [wrA, updA, Nat.reduceEqDiff, reduceIte]
          rw [ef, ix_n (by omega), e3, e4]
          exact ⟨⟨⟨c1, m1, f1, f2⟩, ⟨trivial, trivial, by omega⟩, ⟨c3, m3, f4⟩, hC4, hC5, hC6⟩, hFo, hFi.add hd hb e rfl, hHe, hBo, hBy, hGr.add (fun b' hb' e' => hGr.2 f hf b' hb' (e3.trans e')), hWi, hLe, hMe.mono (by omega) (Nat.le_refl _)⟩
        · simp [wrA]; rw [← hFi.sea hda]; exact k3
      · subst em
        unfold w_X8_link
        refine isFile_y (n := n) (f := f) (by simp [wrA, updA]; exact m2) f3 hf ef (by simp [wrA]; exact e7) (t_n (by decide) ?_)
        refine isFolder_y (nf := nf) (by simp [wrA, updA]) (by simp [wrA, updA]; exact m1) f2 hd e (f_n (by decide) ?_)
        refine s_canCome (n := n) (by simp [wrA, updA]; exact m2) f3 (fun k1 k2 k3 => absurd ⟨k1, k2, by simp [wrA] at k3; rw [hFi.sea hda]; exact k3⟩ hc) (fun z => t_y rfl ?_)
        exact hK 0 (-1) _ (by simp [wrA, updA]) (fun _ => by simp [wrA, updA, ix0]) ⟨nf, n, nb, w, q, lt, (hI0.w n56).w n310⟩
    · refine needFolder_n c1 f2 hx ⟨rfl, hp 1 μ ?_⟩
      unfold w_X8_link
      refine isFile_y m2 f3 hf ef e7 (t_n (by decide) ?_)
      exact isFolder_n (nf := nf) (by simp [wrA, updA]) (by simp [wrA, updA]; exact m1) f2 hx (f_y rfl (hK 1 0 _ (by simp [wrA, updA]) (fun h => absurd h (by decide)) ⟨nf, n, nb, w, q, lt, (hI0.w n310).w n310⟩))
  · refine needFile_n c2 f3 hx ⟨rfl, hp 1 μ ?_⟩
    unfold w_X8_link
    exact isFile_n m2 f3 hx2 (t_y rfl (hK 1 0 _ (by simp [wrA, updA]) (fun h => absurd h (by decide)) ⟨nf, n, nb, w, q, lt, (hI0.w n310).w n310⟩))
theorem op_move {post : Int32 → Mem → Prop} {K : Int32 → Int32 → Mem → Prop} {a1 a2 a3 : Int32} {μ : Mem} (hI : InvE μ) (hK : ∀ k b m, m 31 0 = k → (k = 0 → m 56 0 = if b = 0 then 0 else 1) → InvE m → K k b m) (hp : ∀ k m, w_X8_move (K k) a1 a2 a3 m → post k m) : w_L_move post a1 a2 a3 μ := by
  obtain ⟨nf, n, nb, w, q, lt, hI⟩ := hI
  have hI0 := hI
  obtain ⟨⟨⟨c1, m1, f1, f2⟩, ⟨c2, m2, f3⟩, ⟨c3, m3, f4⟩, hC4, hC5, hC6⟩, hFo, hFi, hHe, hBo, hBy, hGr, hWi, hLe, hMe⟩ := hI
  unfold w_L_move w_X7_move
  rcases hFi.arg f2 f3 f4 a1 with ⟨f, d0, b, hf, ef, hd0, hb, e1, e2, e3, e4, e5, e6, e7⟩ | ⟨hx, hx2⟩
  · refine needFile_y c2 f3 hf ef e6 ?_
    have hina : vp_in a1 60 := by rw [ef]; exact vp_in_nI (by omega) (by decide)
    have hia : ix a1 = f := by rw [ef]; exact ix_n (by omega)
    rcases idx a2 (n := nf) (by omega) with ⟨d, hd, e⟩ | ⟨-, hx⟩
    · refine needFolder_y c1 f2 hd e ?_
      have hda : ¬ a2 = -1 := by rw [e]; exact nI_m1 (by omega)
      have hneg : ¬ (isNm a3 = true ∧ fst (sea (μ 14) (μ 15) 0 a2 a3) n = -1) → ∀ m, m = wr μ 56 (ix 0) 0 → post 0 m := fun hc m em => by
        refine hp 0 m ?_
        subst em
        unfold w_X8_move
        have done : K 0 0 (wr (wr μ 56 (ix 0) 0) 31 0 0) := hK 0 0 _ (by simp [wrA, updA]) (fun _ => by simp [wrA, updA, ix0]) ⟨nf, n, nb, w, q, lt, (hI0.w n56).w n310⟩
        refine isFile_y (n := n) (f := f) (by simp [wrA, updA]; exact m2) f3 hf ef (by simp [wrA]; exact e7) (t_n (by decide) ?_)
        refine isFolder_y (nf := nf) (by simp [wrA, updA]) (by simp [wrA, updA]; exact m1) f2 hd e (f_n (by decide) ?_)
        refine s_X8_isName (fun c => t_n (by decide) (s_X8_named (n := n) (by simp [wrA, updA]; exact m2) f3 ?_)) (fun c => t_y rfl done)
        refine t_n (fun z => hc ⟨c, ?_⟩) done
        simp [wrA] at z; rw [hFi.sea hda]; exact z
      unfold w_X7_isFreeName
      refine s_X7_isName (fun c => t_n (by decide) (s_X1_named c2 f3 ?_)) (fun c => t_y rfl (f_y rfl (t_y rfl (hneg (fun z => by rw [z.1] at c; cases c)))))
      by_cases hF : fst (sea (μ 14) (μ 15) 0 a2 a3) n = -1
      · refine f_y hF (f_n (by decide) ⟨hina, fun y1 g1 => ⟨hina, fun y2 g2 => t_n (by decide) (fun m em => hp 0 m ?_)⟩⟩)
        rw [hia] at g1 g2
        subst g1 g2 em
        unfold w_X8_move
        refine isFile_y (n := n) (f := f) (by simp [wrA, updA]; exact m2) f3 hf ef (by simp [wrA]; exact e7) (t_n (by decide) ?_)
        refine isFolder_y (nf := nf) (by simp [wrA, updA]) (by simp [wrA, updA]; exact m1) f2 hd e (f_n (by decide) ?_)
        refine s_X8_isName (fun _ => t_n (by decide) (s_X8_named (n := n) (by simp [wrA, updA]; exact m2) f3 ?_)) (fun c2 => by rw [c] at c2; cases c2)
        refine t_y (by simp [wrA]; rw [← hFi.sea hda]; exact hF) ⟨hina, fun y1 g1 => ⟨hina, fun y2 g2 => ?_⟩⟩
        rw [hia] at g1 g2
        subst g1 g2
        refine hK 0 1 _ (by simp [wrA, updA]) (fun _ => by simp [wrA, updA, ix0]) ⟨nf, n, nb, w, q, lt, ?_⟩
        unfold Inv ICt
        simp only [wrA, updA, Nat.reduceEqDiff, reduceIte]
        exact ⟨⟨⟨c1, m1, f1, f2⟩, ⟨c2, m2, f3⟩, ⟨c3, m3, f4⟩, hC4, hC5, hC6⟩, hFo, hFi.move hd e (e3.trans e4.symm), hHe, hBo, hBy, hGr, hWi, hLe, hMe⟩
      · exact f_n hF (f_y rfl (t_y rfl (hneg (fun z => hF z.2))))
    · refine needFolder_n c1 f2 hx ⟨rfl, hp 1 μ ?_⟩
      unfold w_X8_move
      refine isFile_y m2 f3 hf ef e7 (t_n (by decide) ?_)
      exact isFolder_n (nf := nf) (by simp [wrA, updA]) (by simp [wrA, updA]; exact m1) f2 hx (f_y rfl (hK 1 0 _ (by simp [wrA, updA]) (fun h => absurd h (by decide)) ⟨nf, n, nb, w, q, lt, (hI0.w n310).w n310⟩))
  · refine needFile_n c2 f3 hx ⟨rfl, hp 1 μ ?_⟩
    unfold w_X8_move
    exact isFile_n m2 f3 hx2 (t_y rfl (hK 1 0 _ (by simp [wrA, updA]) (fun h => absurd h (by decide)) ⟨nf, n, nb, w, q, lt, (hI0.w n310).w n310⟩))
theorem op_file {post : Int32 → Mem → Prop} {K : Int32 → Int32 → Mem → Prop} {a1 a2 a3 a4 : Int32} {μ : Mem} (hI : InvE μ) (hK : ∀ k b m, m 31 0 = k → (k = 0 → m 56 0 = b) → InvE m → K k b m) (hp : ∀ k m, w_X8_file (K k) a1 a2 a3 a4 m → post k m) : w_L_file post a1 a2 a3 a4 μ := by
  obtain ⟨nf, n, nb, w, q, lt, hI⟩ := hI
  have hI0 := hI
  obtain ⟨⟨⟨c1, m1, f1, f2⟩, ⟨c2, m2, f3⟩, ⟨c3, m3, f4⟩, hC4, hC5, hC6⟩, hFo, hFi, hHe, hBo, hBy, hGr, hWi, hLe, hMe⟩ := hI
  unfold w_L_file w_X7_file
  rcases idx a1 (n := nf) (by omega) with ⟨d, hd, e⟩ | ⟨-, hx⟩
  · refine needFolder_y c1 f2 hd e ?_
    have hda : ¬ a1 = -1 := by rw [e]; exact nI_m1 (by omega)
    have lit7 : ∀ x : Int32, (7 : Int32) < x ↔ ¬ x < 8 := fun x => by
      rw [Int32.lt_iff_toInt_lt, Int32.lt_iff_toInt_lt, show (7 : Int32).toInt = 7 by decide, show (8 : Int32).toInt = 8 by decide]; omega
    have hneg : ¬ ((¬ a3 < 0 ∧ a3 < 8) ∧ (¬ a4 < 0 ∧ a4 ≤ 64) ∧ (n < 60 ∧ isNm a2 = true ∧ fst (sea (μ 14) (μ 15) 0 a1 a2) n = -1) ∧ nb < 100) → ∀ m, m = wr μ 56 (ix 0) (-1) → post 0 m := fun hc m em => by
      refine hp 0 m ?_
      subst em
      unfold w_X8_file
      intro m em
      subst em
      have done : K 0 (-1) (wr (wr μ 56 (ix 0) (-1)) 31 0 0) := hK 0 (-1) _ (by simp [wrA, updA]) (fun _ => by simp [wrA, updA, ix0]) ⟨nf, n, nb, w, q, lt, (hI0.w n56).w n310⟩
      refine isFolder_y (nf := nf) (by simp [wrA, updA]) (by simp [wrA, updA]; exact m1) f2 hd e (f_n (by decide) ?_)
      refine s_canCome (n := n) (by simp [wrA, updA]; exact m2) f3 (fun k1 k2 k3 => t_n (by decide) ?_) (fun z => t_y rfl done)
      simp [wrA] at k3
      rw [← hFi.sea hda] at k3
      refine pk_eq nb 100 (fun _ => done) (fun k4 => ?_) (by simp [wrA, updA]; exact m3) rfl (by omega) (by omega)
      refine ⟨fun _ => done, fun k5 => ⟨fun _ => done, fun k6 => ⟨fun _ => done, fun k7 => ⟨fun k8 => absurd ⟨⟨k5, ?_⟩, ⟨k7, k8⟩, ⟨k1, k2, k3⟩, by omega⟩ hc, fun _ => done⟩⟩⟩⟩
      exact Classical.byContradiction fun z => k6 ((lit7 a3).mpr z)
    unfold w_X7_isOwner
    have lit8 : ∀ x : Int32, (8 : Int32) ≤ x ↔ ¬ x < 8 := fun x => by rw [Int32.not_lt]
    refine ⟨fun z => t_y rfl (hneg (fun y => y.1.1 z)), fun z1 => ⟨fun z => t_y rfl (hneg (fun y => (lit8 a3).mp z y.1.2)), fun z2 => t_n (by decide) ⟨fun z => hneg (fun y => y.2.1.1 z), fun z3 => ⟨fun z4 => ?_, fun z => hneg (fun y => z y.2.1.2)⟩⟩⟩⟩
    have z2' : a3 < 8 := Classical.byContradiction fun z => z2 ((lit8 a3).mpr z)
    refine s_mayCome c2 f3 (fun k1 k2 k3 => t_n (by decide) ?_) (fun hc => t_y rfl (hneg (fun y => hc y.2.2.1)))
    unfold w_X0_hasRoomFor
    refine pk_lt 100 (nb + 1) (fun k4 => f_y rfl (hneg (fun y => by omega))) (fun k4 => f_n (by decide) ?_) rfl (by rw [c3]; exact nIs nb) (by omega) (by omega)
    refine s_X0_make c3 (by omega) (s_X1_make (n := n) (by simp [wrA, updA]; exact c2) k1 (fun m em => hp 0 m ?_))
    subst em
    unfold w_X8_file
    intro m em
    subst em
    obtain ⟨o, ho, eo⟩ : ∃ o, o < 8 ∧ a3 = nI o := by
      rcases idx a3 (n := 8) (by decide) with z | ⟨z | z, -⟩
      · exact z
      · exact absurd z z1
      · exact absurd z z2
    obtain ⟨s, hs, es⟩ : ∃ s, s ≤ 64 ∧ a4 = nI s := nI_of2 (M := 64) (by decide) z3 z4
    refine isFolder_y (nf := nf) (by simp [wrA, updA]) (by simp [wrA, updA]; exact m1) f2 hd e (f_n (by decide) ?_)
    refine s_canCome (n := n) (by simp [wrA, updA]; exact m2) f3 (fun _ _ _ => t_n (by decide) ?_) (fun z => absurd ⟨k1, k2, ?_⟩ z)
    · refine pk_eq nb 100 (fun _ => by omega) (fun _ => ?_) (by simp [wrA, updA]; exact m3) rfl (by omega) (by omega)
      refine t_n z1 (t_n (fun z => (lit7 a3).mp z z2') (t_n z3 (t_y z4 ?_)))
      refine s_newBody (n := nb) (by simp [wrA, updA]; exact m3) (by omega) (s_newFile (n := n) (by simp [wrA, updA]; exact m2) k1 ?_)
      refine hK 0 (nI n) _ (by simp [wrA, updA]) (fun _ => by simp [wrA, updA, ix0]) ⟨nf, n + 1, nb + 1, w, q, lt, ?_⟩
      unfold Inv ICt
      simp only [wrA, updA, Nat.reduceEqDiff, reduceIte]
      rw [hC6.1]
      exact ⟨⟨⟨c1, m1, f1, f2⟩, ⟨trivial, trivial, by omega⟩, ⟨trivial, trivial, by omega⟩, hC4, hC5, rfl, hC6.2⟩, hFo, (hFi.mono (Nat.le_refl _) (by omega)).add hd (Nat.lt_succ_self nb) e rfl, hHe, hBo.add hs ho es eo, hBy.add, (hGr.body (by omega) hFi).add (fun b' hb' e' => by rw [← (nI_eq (by omega) (by omega)).mp e', up_s]; exact hGr.1 nb (Nat.le_refl _) (by omega)), hWi, hLe, hMe.mono (by omega) (by omega)⟩
    · simp [wrA]; rw [← hFi.sea hda]; exact k3
  · refine needFolder_n c1 f2 hx ⟨rfl, hp 1 μ ?_⟩
    unfold w_X8_file
    intro m em
    subst em
    exact isFolder_n (nf := nf) (by simp [wrA, updA]) (by simp [wrA, updA]; exact m1) f2 hx (f_y rfl (hK 1 0 _ (by simp [wrA, updA]) (fun h => absurd h (by decide)) ⟨nf, n, nb, w, q, lt, (hI0.w n310).w n310⟩))
