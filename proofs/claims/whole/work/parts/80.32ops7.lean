theorem s_X6_has {post : Int32 → Mem → Prop} {a b : Int32} {μ : Mem} {w : Nat} (h1 : μ 7 2 = nI w) (h2 : w ≤ 3) (hy : (∃ i, i < w ∧ μ 27 i = a ∧ μ 28 i = b) → post 1 μ) (hn : (¬ ∃ i, i < w ∧ μ 27 i = a ∧ μ 28 i = b) → post 0 μ) : w_X6_has post a b μ := by
  unfold w_X6_has
  refine wl3 (fun x y z m => x = a ∧ y = b ∧ m = μ ∧ ∃ i, i ≤ w ∧ z = nI i ∧ ∀ j, j < i → ¬ (μ 27 j = a ∧ μ 28 j = b)) (fun _ _ z _ => w - ix z) ?_ _ _ _ _ ⟨rfl, rfl, rfl, 0, by omega, rfl, fun j hj => absurd hj (Nat.not_lt_zero j)⟩
  rintro k x y z m ⟨rfl, rfl, rfl, i, hi, rfl, hpre⟩ hk
  unfold w_X6_has_b2
  rw [ix_n (by omega)]
  refine pk_le w i (fun h => hn (fun ⟨j, hj, hj2⟩ => hpre j (by omega) hj2)) (fun h => ?_) h1 rfl (by omega) (by omega)
  have hin : vp_in (nI i) 3 := vp_in_nI (by omega) (by decide)
  have go : ¬ (m 27 i = x ∧ m 28 i = y) → k x y (nI i + 1) m := fun hc => by
    refine hk _ _ _ _ ⟨rfl, rfl, rfl, i + 1, h, nIs i, fun j hj => ?_⟩ (by rw [nIs, ix_n (by omega), ix_n (by omega)]; omega)
    rcases Nat.lt_or_ge j i with c | c
    · exact hpre j c
    · rw [show j = i by omega]; exact hc
  refine ⟨hin, fun c => go (fun z => c z.1), fun c => ⟨hin, fun c2 => go (fun z => c2 z.2), fun c2 => hy ⟨i, h, c, c2⟩⟩⟩
theorem op_wish {post : Int32 → Mem → Prop} {K : Int32 → Int32 → Mem → Prop} {a1 a2 : Int32} {μ : Mem} (hI : InvE μ) (hK : ∀ k b m, m 31 0 = k → (k = 0 → m 56 0 = b) → InvE m → K k b m) (hp : ∀ k m, w_X8_wish (K k) a1 a2 m → post k m) : w_L_wish post a1 a2 μ := by
  obtain ⟨nf, n, nb, w, q, lt, hI⟩ := hI
  have hI0 := hI
  obtain ⟨⟨⟨c1, m1, f1, f2⟩, hC2, hC3, ⟨c4, m4, w3⟩, hC5, hC6⟩, hFo, hFi, hHe, hBo, hBy, hGr, hWi, hLe, hMe⟩ := hI
  have lit5 : ∀ x : Int32, (5 : Int32) < x ↔ ¬ x ≤ 5 := fun x => by rw [Int32.not_le]
  have hbad : (a1 < 0 ∨ ¬ a1 ≤ 5) → post 2 μ := fun hc => hp 2 μ (by
    unfold w_X8_wish w_X8_wish_b19
    intro m em
    subst em
    have hr : w_X8_wish_b20 (K 2) a1 a2 0 (wr μ 31 0 0) := by
      unfold w_X8_wish_b20
      exact right_n (by simp [wrA, updA]) (by decide) (t_y rfl (hK 2 0 _ (by simp [wrA, updA]) (fun h => absurd h (by decide)) ⟨nf, n, nb, w, q, lt, (hI0.w n310).w n310⟩))
    refine ⟨fun _ => hr, fun z1 => ⟨fun _ => hr, fun z2 => ?_⟩⟩
    rw [lit5] at z2
    rcases hc with hc | hc
    · exact absurd hc z1
    · exact absurd hc z2)
  unfold w_L_wish w_X7_wish w_X7_wish_b9
  refine ⟨fun z => Or.inr ⟨rfl, hbad (Or.inl z)⟩, fun z1 => ⟨fun z2 => ?_, fun z => Or.inr ⟨rfl, hbad (Or.inr z)⟩⟩⟩
  obtain ⟨t, ht, et⟩ : ∃ t, t ≤ 5 ∧ a1 = nI t := nI_of2 (M := 5) (by decide) z1 z2
  have z2' : ¬ (5 : Int32) < a1 := fun z => (lit5 a1).mp z z2
  -- the reference's search
  have search : ∀ m : Mem, m 31 8 = nI w → m 43 = μ 43 → m 44 = μ 44 → ((w = 3 ∨ ∃ i, i < w ∧ μ 43 i = a1 ∧ (¬ a1 = 0 ∨ μ 44 i = a2)) → K 0 (-1) m) → (w < 3 → (¬ ∃ i, i < w ∧ μ 43 i = a1 ∧ (¬ a1 = 0 ∨ μ 44 i = a2)) → K 0 (nI (w + 1)) (wr (wr (wr m 43 w a1) 44 w a2) 31 8 (nI (w + 1)))) → w_X8_wish_b41 (K 0) a1 a2 m := fun m g8 g43 g44 hno hyes => by
    unfold w_X8_wish_b41
    refine wl3 (fun x y z m' => x = a1 ∧ y = a2 ∧ m' = m ∧ ∃ i, i ≤ w ∧ z = nI i ∧ ∀ j, j < i → ¬ (μ 43 j = a1 ∧ (¬ a1 = 0 ∨ μ 44 j = a2))) (fun _ _ z _ => w - ix z) ?_ _ _ _ _ ⟨rfl, rfl, rfl, 0, by omega, rfl, fun j hj => absurd hj (Nat.not_lt_zero j)⟩
    rintro k x y z m' ⟨rfl, rfl, rfl, i, hi, rfl, hpre⟩ hk
    unfold w_X8_wish_b43
    rw [ix_n (by omega), g43, g44]
    refine pk_le w i (fun h => ?_) (fun h => ?_) g8 rfl (by omega) (by omega)
    · refine And.symm (pk_eq w 3 (fun h3 => hno (Or.inl h3)) (fun h3 => ?_) g8 rfl (by omega) (by omega))
      have hin : vp_in (nI w) 3 := vp_in_nI (by omega) (by decide)
      rw [g8, ix_n (by omega)]
      refine ⟨hin, fun y1 r1 => ?_⟩
      have h1 : y1 31 8 = nI w := by rw [r1]; simp [wrA]; exact g8
      rw [h1, ix_n (by omega)]
      refine ⟨hin, fun y2 r2 y3 r3 => ?_⟩
      have h2 : y2 31 8 = nI w := by rw [r2]; simp [wrA]; exact h1
      rw [h2, nIs] at r3
      have h3' : y3 31 8 = nI (w + 1) := by rw [r3]; simp [wrA, updA]
      rw [h3', r3, r2, r1]
      exact hyes (by omega) (fun ⟨j, hj, hj2⟩ => hpre j (by omega) hj2)
    · have hin : vp_in (nI i) 3 := vp_in_nI (by omega) (by decide)
      have go : ¬ (μ 43 i = x ∧ (¬ x = 0 ∨ μ 44 i = y)) → k x y (nI i + 1) m' := fun hc => by
        refine hk _ _ _ _ ⟨rfl, rfl, rfl, i + 1, h, nIs i, fun j hj => ?_⟩ (by rw [nIs, ix_n (by omega), ix_n (by omega)]; omega)
        rcases Nat.lt_or_ge j i with c | c
        · exact hpre j c
        · rw [show j = i by omega]; exact hc
      exact ⟨hin, fun c => go (fun z => c z.1), fun c => ⟨fun c2 => hno (Or.inr ⟨i, h, c, Or.inl c2⟩), fun c2 => ⟨hin, fun c3 => go (fun z => by rcases z.2 with z | z; exact z c2; exact c3 z), fun c3 => hno (Or.inr ⟨i, h, c, Or.inr c3⟩)⟩⟩⟩
  -- the class, once the folder is known to be right
  have main : (a1 = 0 → ∃ d, d < nf ∧ a2 = nI d) → ∀ told : Int32, told = (if a1 = 0 then a2 else -1) → w_X7_wish_b37 (fun (r1 : Int32) (μ1 : Mem) => ∀ μ2 : Mem, μ2 = wr μ1 56 (ix (0 : Int32)) r1 → post 0 μ2) (fun (E : String) (μ1 : Mem) => (E = "java/util/NoSuchElementException" ∧ post 1 μ1) ∨ (E = "java/lang/IllegalArgumentException" ∧ post 2 μ1)) a1 told μ := fun hfo told htold => by
    have hiff : ∀ i, i < w → ((μ 27 i = a1 ∧ μ 28 i = told) ↔ (μ 43 i = a1 ∧ (¬ a1 = 0 ∨ μ 44 i = a2))) := fun i hi => by
      obtain ⟨t', ht', x1, x2, x3, x4⟩ := hWi i hi
      rw [x1, x2]
      by_cases h0 : a1 = 0
      · rw [if_pos h0] at htold
        constructor
        · intro hh
          refine ⟨hh.1, Or.inr ?_⟩
          have t0 : t' = 0 := (ceq t' 0 hh.1.symm h0 (by omega) (by omega)).mp rfl
          obtain ⟨d, hd, y1, y2⟩ := x3 t0
          rw [y2, ← y1, hh.2, htold]
        · intro hh
          refine ⟨hh.1, ?_⟩
          have t0 : t' = 0 := (ceq t' 0 hh.1.symm h0 (by omega) (by omega)).mp rfl
          obtain ⟨d, hd, y1, y2⟩ := x3 t0
          rcases hh.2 with hh | hh
          · exact absurd h0 hh
          · rw [y1, ← y2, hh, htold]
      · rw [if_neg h0] at htold
        constructor
        · exact fun hh => ⟨hh.1, Or.inl h0⟩
        · intro hh
          refine ⟨hh.1, ?_⟩
          rw [htold]
          refine x4 (fun z => h0 ?_)
          rw [← hh.1, z]
          rfl
    have hex : (∃ i, i < w ∧ μ 27 i = a1 ∧ μ 28 i = told) ↔ ∃ i, i < w ∧ μ 43 i = a1 ∧ (¬ a1 = 0 ∨ μ 44 i = a2) := ⟨fun ⟨i, hi, h⟩ => ⟨i, hi, (hiff i hi).mp h⟩, fun ⟨i, hi, h⟩ => ⟨i, hi, (hiff i hi).mpr h⟩⟩
    -- both answers, through the reference
    have ref : ∀ (m : Mem), m 31 1 = nI nf → m 31 8 = nI w → m 43 = μ 43 → m 44 = μ 44 → ((w = 3 ∨ ∃ i, i < w ∧ μ 43 i = a1 ∧ (¬ a1 = 0 ∨ μ 44 i = a2)) → K 0 (-1) (wr m 31 0 0)) → (w < 3 → (¬ ∃ i, i < w ∧ μ 43 i = a1 ∧ (¬ a1 = 0 ∨ μ 44 i = a2)) → K 0 (nI (w + 1)) (wr (wr (wr (wr m 31 0 0) 43 w a1) 44 w a2) 31 8 (nI (w + 1)))) → w_X8_wish (K 0) a1 a2 m := fun m g1 g8 g43 g44 hno hyes => by
      unfold w_X8_wish
      intro m' em
      subst em
      refine t_n z1 (t_n z2' ?_)
      unfold w_X8_wish_b20
      have hs := search (wr m 31 0 0) (by simp [wrA, updA]; exact g8) (by simp [wrA]; exact g43) (by simp [wrA]; exact g44) hno hyes
      refine right_y (by simp [wrA, updA]) (t_n (by decide) ⟨fun _ => hs, fun h0 => ?_⟩)
      obtain ⟨d, hd, ed⟩ := hfo h0
      exact isFolder_y (nf := nf) (by simp [wrA, updA]) (by simp [wrA, updA]; exact g1) f2 hd ed (f_n (by decide) hs)
    have hneg : (w = 3 ∨ ∃ i, i < w ∧ μ 43 i = a1 ∧ (¬ a1 = 0 ∨ μ 44 i = a2)) → ∀ m, m = wr μ 56 (ix 0) (-1) → post 0 m := fun hc m em => by
      refine hp 0 m ?_
      subst em
      refine ref _ (by simp [wrA]; exact m1) (by simp [wrA]; exact m4) (by simp [wrA]) (by simp [wrA]) (fun _ => hK 0 (-1) _ (by simp [wrA, updA]) (fun _ => by simp [wrA, updA, ix0]) ⟨nf, n, nb, w, q, lt, (hI0.w n56).w n310⟩) (fun y1 y2 => ?_)
      rcases hc with hc | hc
      · omega
      · exact absurd hc y2
    unfold w_X7_wish_b37 w_X6_hasRoom
    refine pk_le 3 w (fun h => t_y rfl (hneg (Or.inl (by omega)))) (fun h => t_n (by decide) ?_) rfl c4 (by omega) (by omega)
    refine s_X6_has c4 w3 (fun hy => t_n (by decide) (hneg (Or.inr (hex.mp hy)))) (fun hn => t_y rfl ?_)
    unfold w_X6_add
    have hin : vp_in (nI w) 3 := vp_in_nI h (by decide)
    rw [c4, ix_n (by omega)]
    refine ⟨hin, fun y1 r1 => ?_⟩
    have h1 : y1 7 2 = nI w := by rw [r1]; simp [wrA]; exact c4
    rw [h1, ix_n (by omega)]
    refine ⟨hin, fun y2 r2 y3 r3 m em => hp 0 m ?_⟩
    have h2 : y2 7 2 = nI w := by rw [r2]; simp [wrA]; exact h1
    rw [h2, nIs] at r3
    have h3 : y3 7 2 = nI (w + 1) := by rw [r3]; simp [wrA, updA]
    rw [h3] at em
    subst em r3 r2 r1
    refine ref _ (by simp [wrA]; exact m1) (by simp [wrA]; exact m4) (by simp [wrA]) (by simp [wrA]) (fun hc => ?_) (fun _ _ => ?_)
    · rcases hc with hc | hc
      · omega
      · exact absurd (hex.mpr hc) hn
    · refine hK 0 _ _ (by simp [wrA, updA]) (fun _ => by simp [wrA, updA, ix0]) ⟨nf, n, nb, w + 1, q, lt, ?_⟩
      unfold Inv ICt
      simp only [wrA, updA, Nat.reduceEqDiff, reduceIte]
      refine ⟨⟨⟨c1, m1, f1, f2⟩, hC2, hC3, ⟨trivial, trivial, by omega⟩, hC5, hC6⟩, hFo, hFi, hHe, hBo, hBy, hGr, fun i hi => ?_, hLe, hMe⟩
      rcases Nat.lt_or_ge i w with c | c
      · rw [up_n (by omega), up_n (by omega), up_n (by omega), up_n (by omega)]
        exact hWi i c
      · rw [show i = w by omega, up_s, up_s, up_s, up_s]
        refine ⟨t, ht, et, et, fun z => ?_, fun z => ?_⟩
        · have h0 : a1 = 0 := by rw [et, z]; rfl
          obtain ⟨d, hd, ed⟩ := hfo h0
          exact ⟨d, hd, by rw [htold, if_pos h0, ed], ed⟩
        · have h0 : ¬ a1 = 0 := by rw [et]; exact nI_ne0 (by omega) (by omega)
          rw [htold, if_neg h0]
  refine ⟨fun h0 => ?_, fun h0 => ?_⟩
  · unfold w_X7_wish_b28
    exact f_n h0 (main (fun z => absurd z h0) (-1) (by rw [if_neg h0]))
  · rcases idx a2 (n := nf) (by omega) with ⟨d, hd, e⟩ | ⟨-, hx⟩
    · refine needFolder_y c1 f2 hd e ?_
      unfold w_X7_wish_b28
      exact f_y h0 (main (fun _ => ⟨d, hd, e⟩) a2 (by rw [if_pos h0]))
    · refine needFolder_n c1 f2 hx (Or.inl ⟨rfl, hp 1 μ ?_⟩)
      unfold w_X8_wish
      intro m em
      subst em
      refine t_n z1 (t_n z2' ?_)
      unfold w_X8_wish_b20
      refine right_y (by simp [wrA, updA]) (t_n (by decide) (f_y h0 ?_))
      exact isFolder_n (nf := nf) (by simp [wrA, updA]) (by simp [wrA, updA]; exact m1) f2 hx (f_y rfl (hK 1 0 _ (by simp [wrA, updA]) (fun h => absurd h (by decide)) ⟨nf, n, nb, w, q, lt, (hI0.w n310).w n310⟩))
