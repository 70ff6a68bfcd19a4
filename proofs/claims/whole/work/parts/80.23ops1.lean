theorem op_folder {post : Int32 → Mem → Prop} {K : Int32 → Int32 → Mem → Prop} {a1 a2 : Int32} {μ : Mem} (hI : InvE μ) (hK : ∀ k b m, m 31 0 = k → (k = 0 → m 56 0 = b) → InvE m → K k b m) (hp : ∀ k m, w_X8_folder (K k) a1 a2 m → post k m) : w_L_folder post a1 a2 μ := by
  obtain ⟨nf, n, nb, w, q, lt, hI⟩ := hI
  have hI0 := hI
  obtain ⟨⟨⟨c1, m1, f1, f2⟩, ⟨c2, m2, f3⟩, ⟨c3, m3, f4⟩, hC4, hC5, hC6⟩, hFo, hFi, hHe, hBo, hBy, hGr, hWi, hLe, hMe⟩ := hI
  unfold w_L_folder w_X7_folder
  rcases idx a1 (n := nf) (by omega) with ⟨d, hd, e⟩ | ⟨-, hx⟩
  · refine needFolder_y c1 f2 hd e ?_
    have hneg : ¬ (isNm a2 = true ∧ nf < 16 ∧ fst (sea (μ 11) (μ 12) 1 a1 a2) nf = -1) → ∀ m, m = wr μ 56 (ix 0) (-1) → post 0 m := fun hc m em => by
      subst em
      refine hp 0 _ ?_
      unfold w_X8_folder
      intro m em
      have hI2 : Inv nf n nb w q lt m := by rw [em]; exact (hI0.w n56).w n310
      have g0 : m 31 0 = 0 := by rw [em]; simp [wrA, updA]
      have g1 : m 31 1 = nI nf := hI2.1.1.2.1
      have g5 : m 56 0 = -1 := by rw [em]; simp [wrA, updA, ix]
      have gs : fst (sea (m 32) (m 33) 1 a1 a2) nf = fst (sea (μ 11) (μ 12) 1 a1 a2) nf := by rw [hFo.sea, em]; simp [wrA]
      clear em
      have done : K 0 (-1) m := hK 0 (-1) m g0 (fun _ => g5) ⟨nf, n, nb, w, q, lt, hI2⟩
      refine isFolder_y g0 g1 f2 hd e (f_n (by decide) ?_)
      refine pk_eq nf 16 (fun _ => done) (fun hne => ?_) g1 rfl (by omega) (by omega)
      refine s_X8_isName (fun c => t_n (by decide) (s_X8_child g1 f1 f2 ?_)) (fun c => t_y rfl done)
      refine t_n (fun z => hc ⟨c, by omega, by rw [← gs]; exact z⟩) done
    refine s_X7_isName (fun c => t_n (by decide) ?_) (fun c => t_y rfl (hneg (fun z => by rw [z.1] at c; cases c)))
    unfold w_X3_hasRoom
    refine pk_le 16 nf (fun h => t_y rfl (hneg (fun z => by omega))) (fun h => t_n (by decide) ?_) rfl c1 (by omega) (by omega)
    refine s_X3_named c1 f1 f2 ?_
    by_cases hF : fst (sea (μ 11) (μ 12) 1 a1 a2) nf = -1
    · refine t_y hF ?_
      unfold w_X3_make
      rw [c1, ix_n (by omega), show ix a1 = d by rw [e]; exact ix_n (by omega)]
      intro x1 e1
      have hin : vp_in (nI nf) 16 := vp_in_nI h (by decide)
      refine ⟨hin, fun x2 e2 => ⟨hin, fun x3 e3 => ⟨by rw [e]; exact vp_in_nI (by omega) (by decide), hin, fun x4 e4 x5 e5 => hp 0 _ ?_⟩⟩⟩
      subst e1 e2 e3 e4 e5
      unfold w_X8_folder
      intro m em
      subst em
      refine isFolder_y (by simp [wrA, updA]) (by simp [wrA, updA]; exact m1) f2 hd e (f_n (by decide) ?_)
      refine pk_eq nf 16 (fun _ => by omega) (fun _ => ?_) (by simp [wrA, updA]; exact m1) rfl (by omega) (by omega)
      refine s_X8_isName (fun c => t_n (by decide) (s_X8_child (n := nf) (by simp [wrA, updA]; exact m1) f1 f2 ?_)) (fun c2 => by rw [c] at c2; cases c2)
      have gs : fst (sea (μ 32) (μ 33) 1 a1 a2) nf = -1 := by rw [← hFo.sea]; exact hF
      refine t_y (by simp [wrA]; exact gs) ?_
      have g1 : ∀ (k j : Nat) (v : Int32) (m : Mem), k ≠ 31 → m 31 1 = nI nf → wr m k j v 31 1 = nI nf := fun k j v m hk hm => by rw [wrA, if_neg (Ne.symm hk)]; exact hm
      have gm : ∀ m : Mem, m 31 1 = nI nf → vp_in (m 31 1) 16 ∧ ix (m 31 1) = nf := fun m hm => by rw [hm]; exact ⟨hin, ix_n (by omega)⟩
      generalize hgen : wr (wr (wr (wr (wr (wr μ 1 3 (nI nf + 1)) 11 nf a1) 12 nf a2) 13 nf _) 56 (ix 0) (nI nf)) 31 0 0 = M
      have hM : M 31 1 = nI nf := by rw [← hgen]; simp [wrA, updA]; exact m1
      obtain ⟨q1, q2⟩ := gm M hM
      rw [q2]
      refine ⟨q1, fun y1 r1 => ?_⟩
      obtain ⟨q1, q2⟩ := gm y1 (by rw [r1]; exact g1 _ _ _ _ (by decide) hM)
      rw [q2]
      refine ⟨q1, fun y2 r2 y3 r3 => ?_⟩
      have h2 : y2 31 1 = nI nf := by rw [r2]; exact g1 _ _ _ _ (by decide) (by rw [r1]; exact g1 _ _ _ _ (by decide) hM)
      rw [h2, nIs] at r3
      have h3 : y3 31 1 = nI (nf + 1) := by rw [r3]; simp [wrA, updA]
      rw [h3, nI_pred]
      subst hgen r1 r2 r3
      refine hK 0 (nI nf) _ (by simp [wrA, updA]) (fun _ => by simp [wrA, updA, ix]) ⟨nf + 1, n, nb, w, q, lt, ?_⟩
      unfold Inv ICt
      simp only [wrA, updA, Nat.reduceEqDiff, reduceIte, nIs]
      exact ⟨⟨⟨trivial, trivial, by omega, by omega⟩, ⟨c2, m2, f3⟩, ⟨c3, m3, f4⟩, hC4, hC5, hC6⟩, hFo.add f1 hd e, hFi.mono (by omega) (Nat.le_refl _), hHe, hBo, hBy, hGr, hWi.mono (by omega), hLe, hMe⟩
    · exact t_n hF (hneg (fun z => hF z.2.2))
  · refine needFolder_n c1 f2 hx ⟨rfl, hp 1 μ ?_⟩
    unfold w_X8_folder
    intro m em
    subst em
    refine isFolder_n (by simp [wrA, updA]) (by simp [wrA, updA]; exact m1) f2 hx (f_y rfl (hK 1 0 _ (by simp [wrA, updA]) (fun h => absurd h (by decide)) ⟨nf, n, nb, w, q, lt, (hI0.w n310).w n310⟩))
