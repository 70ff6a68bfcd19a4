/-- whether x is t or lies below it -/
def bel (ci : Nat → Int32) (t : Int32) : Nat → Int32 → Bool
  | 0, _ => false
  | s + 1, x => if x = -1 then false else if x = t then true else bel ci t s (ci (ix x))
theorem bel_m1 (ci : Nat → Int32) (t : Int32) : ∀ s, bel ci t s (-1) = false
  | 0 => rfl
  | s + 1 => by unfold bel; rw [if_pos rfl]
theorem bel_fuel {nf : Nat} {ci cn ca mi mn : Nat → Int32} (h : IFo nf ci cn ca mi mn) (hnf : nf ≤ 16) (t : Int32) : ∀ (s k : Nat), k < nf → k + 1 ≤ s → bel ci t s (nI k) = bel ci t (k + 1) (nI k)
  | 0, k, _, hs => by omega
  | s + 1, k, hk, hs => by
    have e : ix (nI k) = k := ix_n (by omega)
    unfold bel
    rw [e]
    have key : bel ci t s (ci k) = bel ci t k (ci k) := by
      rcases Nat.eq_zero_or_pos k with z | z
      · subst z
        rw [h.1, bel_m1, bel_m1]
      · obtain ⟨p, p1, p2, -⟩ := h.2.2.2 k z hk
        rw [p2, bel_fuel h hnf t s p (by omega) (by omega)]
        exact (bel_fuel h hnf t k p (by omega) (by omega)).symm
    rw [key]
  termination_by s => s
theorem s_isInOrBelow {post : Int32 → Mem → Prop} {t : Int32} {μ : Mem} {nf d : Nat} {cn ca mi mn : Nat → Int32} (hFo : IFo nf (μ 11) cn ca mi mn) (hnf : nf ≤ 16) (hd : d < nf) (hy : bel (μ 11) t 16 (nI d) = true → post 1 μ) (hn : bel (μ 11) t 16 (nI d) = false → post 0 μ) : w_X3_isInOrBelow post (nI d) t μ := by
  unfold w_X3_isInOrBelow
  refine wl3 (fun x y z m => x = t ∧ m = μ ∧ ∃ i, i ≤ 16 ∧ z = nI i ∧ bel (μ 11) t (16 - i) y = bel (μ 11) t 16 (nI d) ∧ (y = -1 ∨ ∃ k, k < nf ∧ y = nI k)) (fun _ _ z _ => 16 - ix z) ?_ _ _ _ _ ⟨rfl, rfl, 0, by omega, rfl, rfl, Or.inr ⟨d, hd, rfl⟩⟩
  rintro k x y z m ⟨rfl, rfl, i, hi, rfl, hb, hyk⟩ hk
  unfold w_X3_isInOrBelow_b5
  refine pk_le 16 i (fun h => hn ?_) (fun h => ⟨fun c => hn ?_, fun c => ⟨fun c2 => ?_, fun c2 => hy ?_⟩⟩) rfl rfl (by omega) (by omega)
  · rw [← hb, show 16 - i = 0 by omega]; rfl
  · rw [← hb, c, bel_m1]
  · rcases hyk with e | ⟨j, hj, e⟩
    · exact absurd e c
    · have hij : ix y = j := by rw [e]; exact ix_n (by omega)
      refine ⟨by rw [e]; exact vp_in_nI (by omega) (by decide), hk _ _ _ _ ⟨rfl, rfl, i + 1, by omega, nIs i, ?_, ?_⟩ (by rw [nIs, ix_n (by omega), ix_n (by omega)]; omega)⟩
      · rw [← hb, show 16 - i = (16 - (i + 1)) + 1 by omega]
        show _ = if y = -1 then false else if y = x then true else bel (m 11) x (16 - (i + 1)) (m 11 (ix y))
        rw [if_neg c, if_neg c2]
      · rw [hij]
        rcases Nat.eq_zero_or_pos j with z | z
        · subst z; exact Or.inl hFo.1
        · obtain ⟨p, p1, p2, -⟩ := hFo.2.2.2 j z hj
          exact Or.inr ⟨p, by omega, p2⟩
  · rw [← hb, show 16 - i = (16 - (i + 1)) + 1 by omega]
    show (if y = -1 then false else if y = x then true else bel (m 11) x (16 - (i + 1)) (m 11 (ix y))) = true
    rw [if_neg c, if_pos c2]
theorem s_isBelow {post : Int32 → Mem → Prop} {t a : Int32} {μ : Mem} {nf d f : Nat} {ci cn ca mn : Nat → Int32} (hFo : IFo nf ci cn ca (μ 32) mn) (hnf : nf ≤ 16) (ht : ¬ t = -1) (hf : f < 60) (ef : a = nI f) (hd : d < nf) (ed : μ 34 f = nI d) (hy : bel ci t 16 (nI d) = true → post 1 μ) (hn : bel ci t 16 (nI d) = false → post 0 μ) : w_X8_isBelow post a t μ := by
  unfold w_X8_isBelow
  rw [show ix a = f by rw [ef]; exact ix_n (by omega), ed]
  refine ⟨by rw [ef]; exact vp_in_nI hf (by decide), ?_⟩
  refine wl2 (fun x y m => x = t ∧ m = μ ∧ ((y = -1 ∧ bel ci t 16 (nI d) = false) ∨ ∃ k, k < nf ∧ y = nI k ∧ bel ci t (k + 1) (nI k) = bel ci t 16 (nI d))) (fun _ y _ => if y = -1 then 0 else ix y + 1) ?_ _ _ _ ⟨rfl, rfl, Or.inr ⟨d, hd, rfl, (bel_fuel hFo hnf t 16 d hd (by omega)).symm⟩⟩
  rintro k x y m ⟨rfl, rfl, hc⟩ hk
  unfold w_X8_isBelow_b7 w_X8_isBelow_b27
  rcases hc with ⟨rfl, hc⟩ | ⟨j, hj, rfl, hc⟩
  · exact t_y rfl (f_n (fun z => ht z.symm) (hn hc))
  · have hne := nI_m1 (n := j) (by omega)
    have hij : ix (nI j) = j := ix_n (by omega)
    refine t_n hne ⟨fun c => f_y c (hy ?_), fun c => ⟨vp_in_nI (by omega) (by decide), ?_⟩⟩
    · rw [← hc]
      unfold bel
      rw [if_neg hne, if_pos c]
    · rw [hij]
      have step : bel ci x j (ci j) = bel ci x 16 (nI d) := by
        rw [← hc]
        show _ = if nI j = -1 then false else if nI j = x then true else bel ci x j (ci (ix (nI j)))
        rw [if_neg hne, if_neg c, hij]
      rcases Nat.eq_zero_or_pos j with z | z
      · subst z
        rw [hFo.2.1]
        refine hk _ _ _ ⟨rfl, rfl, Or.inl ⟨rfl, by rw [← step]; rfl⟩⟩ ?_
        rw [if_pos rfl, if_neg hne]
        omega
      · obtain ⟨p, p1, p2, p3, -⟩ := hFo.2.2.2 j z hj
        rw [p3]
        refine hk _ _ _ ⟨rfl, rfl, Or.inr ⟨p, by omega, rfl, ?_⟩⟩ ?_
        · rw [← step, p2]
          exact (bel_fuel hFo hnf x j p (by omega) (by omega)).symm
        · rw [if_neg hne, if_neg (nI_m1 (by omega)), hij, ix_n (by omega)]
          omega
/-- how well a file fits a wish -/
def rk (μ : Mem) (i f : Nat) : Int32 := if μ 27 i = 0 then (if bel (μ 11) (μ 28 i) 16 (μ 14 f) then 0 else 1) else if μ 27 i = 1 then μ 21 (ix (μ 16 f)) else if μ 27 i = 2 then -(μ 21 (ix (μ 16 f))) else if μ 27 i = 3 then μ 13 (ix (μ 14 f)) else if μ 27 i = 4 then μ 15 f else if μ 17 f = 0 then 1 else 0
theorem s_rank_c {post : Int32 → Mem → Prop} {μ : Mem} {nf n nb w q lt i f : Nat} (hI : Inv nf n nb w q lt μ) (hi : i < w) (hf : f < n) (ha : ¬ μ 16 f = -1) (h : post (rk μ i f) μ) : w_X7_rank post (nI i) (nI f) μ := by
  obtain ⟨⟨⟨c1, m1, f1, f2⟩, ⟨c2, m2, f3⟩, ⟨c3, m3, f4⟩, ⟨c4, m4, w3⟩, hC5, hC6⟩, hFo, hFi, hHe, hBo, hBy, hGr, hWi, hLe, hMe⟩ := hI
  obtain ⟨e0, ⟨b, hb, eb⟩, hc⟩ := hFi f hf
  obtain ⟨d, hd, ed, e16⟩ : ∃ d, d < nf ∧ μ 34 f = nI d ∧ μ 16 f = nI b := by
    rcases hc with ⟨-, hc⟩ | ⟨⟨d, hd, ed⟩, hc, -⟩
    · exact absurd hc ha
    · exact ⟨d, hd, ed, hc.trans eb⟩
  have e14 : μ 14 f = nI d := e0.trans ed
  have hin : vp_in (nI f) 60 := vp_in_nI (by omega) (by decide)
  have hii : vp_in (nI i) 3 := vp_in_nI (by omega) (by decide)
  have hinb : vp_in (nI b) 100 := vp_in_nI (by omega) (by decide)
  unfold w_X7_rank
  unfold rk at h
  rw [ix_n (show f < 2147483648 by omega), ix_n (show i < 2147483648 by omega), e14, e16]
  rw [e14, e16] at h
  refine ⟨hin, hii, fun z0 => ⟨hii, ?_⟩, fun z0 => ⟨fun z1 => ⟨hin, hinb, ?_⟩, fun z1 => ⟨fun z2 => ⟨hin, hinb, ?_⟩, fun z2 => ⟨fun z3 => ⟨vp_in_nI (by omega) (by decide), ?_⟩, fun z3 => ⟨fun z4 => ⟨hin, ?_⟩, fun z4 => ⟨hin, fun z5 => ?_, fun z5 => ?_⟩⟩⟩⟩⟩⟩
  · rw [if_pos z0] at h
    refine s_isInOrBelow hFo f2 hd (fun hb => t_n (by decide) ?_) (fun hb => t_y rfl ?_)
    · rw [hb] at h; exact h
    · rw [hb] at h; exact h
  · rw [if_neg z0, if_pos z1] at h; exact h
  · rw [if_neg z0, if_neg z1, if_pos z2] at h; exact h
  · rw [if_neg z0, if_neg z1, if_neg z2, if_pos z3] at h; exact h
  · rw [if_neg z0, if_neg z1, if_neg z2, if_neg z3, if_pos z4] at h; exact h
  · rw [if_neg z0, if_neg z1, if_neg z2, if_neg z3, if_neg z4, if_pos z5] at h; exact h
  · rw [if_neg z0, if_neg z1, if_neg z2, if_neg z3, if_neg z4, if_neg z5] at h; exact h
theorem s_rank_m {post : Int32 → Mem → Prop} {μ m : Mem} {nf n nb w q lt i f : Nat} (hI : Inv nf n nb w q lt μ) (hm : ∀ k, 32 ≤ k → k ≤ 49 → m k = μ k) (hi : i < w) (hf : f < n) (ha : ¬ μ 16 f = -1) (h : post (rk μ i f) m) : w_X8_rank post (nI i) (nI f) m := by
  obtain ⟨⟨⟨c1, m1, f1, f2⟩, ⟨c2, m2, f3⟩, ⟨c3, m3, f4⟩, ⟨c4, m4, w3⟩, hC5, hC6⟩, hFo, hFi, hHe, hBo, hBy, hGr, hWi, hLe, hMe⟩ := hI
  obtain ⟨e0, ⟨b, hb, eb⟩, hc⟩ := hFi f hf
  obtain ⟨d, hd, ed, e16, e15⟩ : ∃ d, d < nf ∧ μ 34 f = nI d ∧ μ 16 f = nI b ∧ μ 15 f = μ 35 f := by
    rcases hc with ⟨-, hc⟩ | ⟨⟨d, hd, ed⟩, hc, hn⟩
    · exact absurd hc ha
    · exact ⟨d, hd, ed, hc.trans eb, hn⟩
  have e14 : μ 14 f = nI d := e0.trans ed
  have hin : vp_in (nI f) 60 := vp_in_nI (by omega) (by decide)
  have hii : vp_in (nI i) 3 := vp_in_nI (by omega) (by decide)
  have hinb : vp_in (nI b) 100 := vp_in_nI (by omega) (by decide)
  obtain ⟨t, ht, x1, x2, x3, x4⟩ := hWi i hi
  have e27 : μ 43 i = μ 27 i := by rw [x1, x2]
  have e17 := (hHe f (by omega)).1
  have e21 := (hBo b (by omega)).2.2.2.2
  unfold w_X8_rank
  unfold rk at h
  rw [hm 43 (by decide) (by decide), hm 44 (by decide) (by decide), hm 36 (by decide) (by decide), hm 40 (by decide) (by decide), hm 35 (by decide) (by decide), hm 37 (by decide) (by decide)]
  rw [ix_n (show f < 2147483648 by omega), ix_n (show i < 2147483648 by omega), eb, e27, ix_n (show b < 2147483648 by omega), e21, ← e15, ← e17]
  rw [e14, e16, ix_n (show b < 2147483648 by omega), ix_n (show d < 2147483648 by omega)] at h
  refine ⟨hii, fun z0 => ⟨hii, ?_⟩, fun z0 => ⟨fun z1 => ⟨hin, hinb, ?_⟩, fun z1 => ⟨fun z2 => ⟨hin, hinb, ?_⟩, fun z2 => ⟨fun z3 => ?_, fun z3 => ⟨fun z4 => ⟨hin, ?_⟩, fun z4 => ⟨hin, fun z5 => ?_, fun z5 => ?_⟩⟩⟩⟩⟩⟩
  · rw [if_pos z0] at h
    have t0 : t = 0 := (nI_eq (by omega) (by omega)).mp (show nI t = nI 0 from x1.symm.trans z0)
    obtain ⟨d', hd', y1, y2⟩ := x3 t0
    rw [y1] at h
    rw [y2]
    refine s_isBelow (ci := μ 11) (cn := μ 12) (ca := μ 13) (mn := μ 33) (by rw [hm 32 (by decide) (by decide)]; exact hFo) f2 (nI_m1 (by omega)) (by omega) rfl hd (by rw [hm 34 (by decide) (by decide)]; exact ed) (fun hb => t_n (by decide) ?_) (fun hb => t_y rfl ?_)
    · rw [hb] at h; exact h
    · rw [hb] at h; exact h
  · rw [if_neg z0, if_pos z1] at h; exact h
  · rw [if_neg z0, if_neg z1, if_pos z2] at h; exact h
  · rw [if_neg z0, if_neg z1, if_neg z2, if_pos z3] at h
    exact s_above (ci := μ 11) (cn := μ 12) (ca := μ 13) (by rw [hm 32 (by decide) (by decide), hm 33 (by decide) (by decide)]; exact hFo) f2 (by omega) rfl hd (by rw [hm 34 (by decide) (by decide)]; exact ed) h
  · rw [if_neg z0, if_neg z1, if_neg z2, if_neg z3, if_pos z4] at h; exact h
  · rw [if_neg z0, if_neg z1, if_neg z2, if_neg z3, if_neg z4, if_pos z5] at h; exact h
  · rw [if_neg z0, if_neg z1, if_neg z2, if_neg z3, if_neg z4, if_neg z5] at h; exact h
/-- the first by the wishes -/
def ahd (r : Nat → Nat → Int32) (a b : Nat) : Nat → Nat → Bool
  | 0, _ => false
  | s + 1, i => if r i a = r i b then ahd r a b s (i + 1) else decide (r i a < r i b)
theorem s_isWishedBefore {post : Int32 → Mem → Prop} {μ : Mem} {nf n nb w q lt a b : Nat} (hI : Inv nf n nb w q lt μ) (ha : a < n) (ha2 : ¬ μ 16 a = -1) (hb : b < n) (hb2 : ¬ μ 16 b = -1) (hy : ahd (rk μ) a b w 0 = true → post 1 μ) (hn : ahd (rk μ) a b w 0 = false → post 0 μ) : w_X7_isWishedBefore post (nI a) (nI b) μ := by
  have w3 := hI.1.2.2.2.1.2.2
  have c4 := hI.1.2.2.2.1.1
  unfold w_X7_isWishedBefore
  refine wl3 (fun x y z m => x = nI a ∧ y = nI b ∧ m = μ ∧ ∃ i, i ≤ w ∧ z = nI i ∧ ahd (rk μ) a b (w - i) i = ahd (rk μ) a b w 0) (fun _ _ z _ => w - ix z) ?_ _ _ _ _ ⟨rfl, rfl, rfl, 0, by omega, rfl, rfl⟩
  rintro k x y z m ⟨rfl, rfl, rfl, i, hi, rfl, he⟩ hk
  unfold w_X7_isWishedBefore_b2
  refine pk_le w i (fun h => hn (by rw [← he, show w - i = 0 by omega]; rfl)) (fun h => s_rank_c hI h ha ha2 (s_rank_c hI h hb hb2 ?_)) c4 rfl (by omega) (by omega)
  have step : (if rk m i a = rk m i b then ahd (rk m) a b (w - (i + 1)) (i + 1) else decide (rk m i a < rk m i b)) = ahd (rk m) a b w 0 := by
    rw [← he, show w - i = (w - (i + 1)) + 1 by omega]
    rfl
  refine ⟨fun c => hk _ _ _ _ ⟨rfl, rfl, rfl, i + 1, h, nIs i, by rw [if_pos c] at step; exact step⟩ (by rw [nIs, ix_n (by omega), ix_n (by omega)]; omega), fun c => ?_⟩
  rw [if_neg c] at step
  refine ⟨fun c2 => hn (by rw [← step]; exact decide_eq_false (Int32.not_lt.mpr c2)), fun c2 => hy (by rw [← step]; exact decide_eq_true (Int32.not_le.mp c2))⟩
theorem s_isAhead {post : Int32 → Mem → Prop} {μ m0 : Mem} {nf n nb w q lt a b : Nat} (hI : Inv nf n nb w q lt μ) (hm : ∀ k, 32 ≤ k → k ≤ 49 → m0 k = μ k) (h8 : m0 31 8 = μ 31 8) (ha : a < n) (ha2 : ¬ μ 16 a = -1) (hb : b < n) (hb2 : ¬ μ 16 b = -1) (hy : ahd (rk μ) a b w 0 = true → post 1 m0) (hn : ahd (rk μ) a b w 0 = false → post 0 m0) : w_X8_isAhead post (nI a) (nI b) m0 := by
  have w3 := hI.1.2.2.2.1.2.2
  have c4 : m0 31 8 = nI w := h8.trans hI.1.2.2.2.1.2.1
  unfold w_X8_isAhead
  refine wl3 (fun x y z m => x = nI a ∧ y = nI b ∧ m = m0 ∧ ∃ i, i ≤ w ∧ z = nI i ∧ ahd (rk μ) a b (w - i) i = ahd (rk μ) a b w 0) (fun _ _ z _ => w - ix z) ?_ _ _ _ _ ⟨rfl, rfl, rfl, 0, by omega, rfl, rfl⟩
  rintro k x y z m ⟨rfl, rfl, rfl, i, hi, rfl, he⟩ hk
  unfold w_X8_isAhead_b2
  refine pk_le w i (fun h => hn (by rw [← he, show w - i = 0 by omega]; rfl)) (fun h => s_rank_m hI hm h ha ha2 (s_rank_m hI hm h hb hb2 ?_)) c4 rfl (by omega) (by omega)
  have step : (if rk μ i a = rk μ i b then ahd (rk μ) a b (w - (i + 1)) (i + 1) else decide (rk μ i a < rk μ i b)) = ahd (rk μ) a b w 0 := by
    rw [← he, show w - i = (w - (i + 1)) + 1 by omega]
    rfl
  refine ⟨fun c => hk _ _ _ _ ⟨rfl, rfl, rfl, i + 1, h, nIs i, by rw [if_pos c] at step; exact step⟩ (by rw [nIs, ix_n (by omega), ix_n (by omega)]; omega), fun c => s_rank_m hI hm h ha ha2 (s_rank_m hI hm h hb hb2 ?_)⟩
  rw [if_neg c] at step
  refine ⟨fun c2 => hn (by rw [← step]; exact decide_eq_false (Int32.not_lt.mpr c2)), fun c2 => hy (by rw [← step]; exact decide_eq_true (Int32.not_le.mp c2))⟩
/-- the kept one -/
def kep (p : Nat → Bool) (ah : Nat → Nat → Bool) : Nat → Int32
  | 0 => -1
  | f + 1 => if p f && (decide (kep p ah f = -1) || ah f (ix (kep p ah f))) then nI f else kep p ah f
theorem kep_c (p : Nat → Bool) (ah : Nat → Nat → Bool) : ∀ n, n ≤ 60 → kep p ah n = -1 ∨ ∃ g, g < n ∧ p g = true ∧ kep p ah n = nI g
  | 0, _ => Or.inl rfl
  | n + 1, h => by
    unfold kep
    split
    · rename_i hc
      simp at hc
      exact Or.inr ⟨n, by omega, hc.1, rfl⟩
    · rcases kep_c p ah n (by omega) with z | ⟨g, hg, z⟩
      · exact Or.inl z
      · exact Or.inr ⟨g, by omega, z⟩
theorem s_keptOf_c {post : Int32 → Mem → Prop} {g : Int32} {μ : Mem} {nf n nb w q lt : Nat} (hI : Inv nf n nb w q lt μ) (h : post (kep (mbr (μ 16) (μ 22) g) (fun a b => ahd (rk μ) a b w 0) n) μ) : w_X7_keptOf post g μ := by
  have hI0 := hI
  obtain ⟨⟨⟨c1, m1, f1, f2⟩, ⟨c2, m2, f3⟩, ⟨c3, m3, f4⟩, ⟨c4, m4, w3⟩, hC5, hC6⟩, hFo, hFi, hHe, hBo, hBy, hGr, hWi, hLe, hMe⟩ := hI
  unfold w_X7_keptOf
  refine wl3 (fun x y z m => x = g ∧ m = μ ∧ ∃ i, i ≤ n ∧ z = nI i ∧ y = kep (mbr (μ 16) (μ 22) g) (fun a b => ahd (rk μ) a b w 0) i) (fun _ _ z _ => n - ix z) ?_ _ _ _ _ ⟨rfl, rfl, 0, by omega, rfl, rfl⟩
  rintro k x y z m ⟨rfl, rfl, i, hi, rfl, rfl⟩ hk
  unfold w_X7_keptOf_b4 w_X7_keptOf_b38
  refine pk_le n i (fun c => by rw [show i = n by omega]; exact h) (fun c => ?_) c2 rfl (by omega) (by omega)
  have step : kep (mbr (m 16) (m 22) x) (fun a b => ahd (rk m) a b w 0) (i + 1) = if mbr (m 16) (m 22) x i && (decide (kep (mbr (m 16) (m 22) x) (fun a b => ahd (rk m) a b w 0) i = -1) || ahd (rk m) i (ix (kep (mbr (m 16) (m 22) x) (fun a b => ahd (rk m) a b w 0) i)) w 0) then nI i else kep (mbr (m 16) (m 22) x) (fun a b => ahd (rk m) a b w 0) i := rfl
  have go : ∀ v, v = kep (mbr (m 16) (m 22) x) (fun a b => ahd (rk m) a b w 0) (i + 1) → k x v (nI i + 1) m := fun v hv => hk _ _ _ _ ⟨rfl, rfl, i + 1, c, nIs i, hv⟩ (by rw [nIs, ix_n (by omega), ix_n (by omega)]; omega)
  refine s_isMember_c c2 f3 f4 hFi c (fun hm => t_n (by decide) ⟨fun z => go _ ?_, fun z => ?_⟩) (fun hm => t_y rfl (go _ ?_))
  · rw [step, hm, z]; rfl
  · rcases kep_c (mbr (m 16) (m 22) x) (fun a b => ahd (rk m) a b w 0) i (by omega) with e | ⟨j, hj, pj, e⟩
    · exact absurd e z
    · rw [e] at step ⊢
      rw [ix_n (by omega)] at step
      have a1 : ¬ m 16 i = -1 := fun y => by unfold mbr at hm; simp [y] at hm
      have a2 : ¬ m 16 j = -1 := fun y => by unfold mbr at pj; simp [y] at pj
      have hne := nI_m1 (n := j) (by omega)
      refine s_isWishedBefore hI0 c a1 (by omega) a2 (fun hh => t_n (by decide) (go _ ?_)) (fun hh => t_y rfl (go _ ?_))
      · rw [step, hm, hh]; simp
      · rw [step, hm, hh]; simp [hne]
  · rw [step, hm]; rfl
theorem s_keptOf_m {post : Int32 → Mem → Prop} {g : Int32} {μ m0 : Mem} {nf n nb w q lt : Nat} (hI : Inv nf n nb w q lt μ) (hm0 : ∀ k, 32 ≤ k → k ≤ 49 → m0 k = μ k) (h31 : ∀ j, j ≠ 0 → m0 31 j = μ 31 j) (h : post (kep (mbr (μ 16) (μ 22) g) (fun a b => ahd (rk μ) a b w 0) n) m0) : w_X8_keptOf post g m0 := by
  have hI0 := hI
  obtain ⟨⟨⟨c1, m1, f1, f2⟩, ⟨c2, m2, f3⟩, ⟨c3, m3, f4⟩, ⟨c4, m4, w3⟩, hC5, hC6⟩, hFo, hFi, hHe, hBo, hBy, hGr, hWi, hLe, hMe⟩ := hI
  unfold w_X8_keptOf
  refine wl3 (fun x y z m => x = g ∧ m = m0 ∧ ∃ i, i ≤ n ∧ z = nI i ∧ y = kep (mbr (μ 16) (μ 22) g) (fun a b => ahd (rk μ) a b w 0) i) (fun _ _ z _ => n - ix z) ?_ _ _ _ _ ⟨rfl, rfl, 0, by omega, rfl, rfl⟩
  rintro k x y z m ⟨rfl, rfl, i, hi, rfl, rfl⟩ hk
  unfold w_X8_keptOf_b4 w_X8_keptOf_b35
  refine pk_le n i (fun c => by rw [show i = n by omega]; exact h) (fun c => ?_) ((h31 2 (by decide)).trans m2) rfl (by omega) (by omega)
  have step : kep (mbr (μ 16) (μ 22) x) (fun a b => ahd (rk μ) a b w 0) (i + 1) = if mbr (μ 16) (μ 22) x i && (decide (kep (mbr (μ 16) (μ 22) x) (fun a b => ahd (rk μ) a b w 0) i = -1) || ahd (rk μ) i (ix (kep (mbr (μ 16) (μ 22) x) (fun a b => ahd (rk μ) a b w 0) i)) w 0) then nI i else kep (mbr (μ 16) (μ 22) x) (fun a b => ahd (rk μ) a b w 0) i := rfl
  have go : ∀ v, v = kep (mbr (μ 16) (μ 22) x) (fun a b => ahd (rk μ) a b w 0) (i + 1) → k x v (nI i + 1) m := fun v hv => hk _ _ _ _ ⟨rfl, rfl, i + 1, c, nIs i, hv⟩ (by rw [nIs, ix_n (by omega), ix_n (by omega)]; omega)
  refine s_isMember_m (cb := μ 16) (cg := μ 22) (cf := μ 14) (cnm := μ 15) (mnm := μ 35) f3 f2 f4 (by rw [hm0 34 (by decide) (by decide), hm0 36 (by decide) (by decide)]; exact hFi) (by rw [hm0 41 (by decide) (by decide)]; exact hGr) c (fun hm => t_n (by decide) ⟨fun z => go _ ?_, fun z => ?_⟩) (fun hm => t_y rfl (go _ ?_))
  · rw [step, hm, z]; rfl
  · rcases kep_c (mbr (μ 16) (μ 22) x) (fun a b => ahd (rk μ) a b w 0) i (by omega) with e | ⟨j, hj, pj, e⟩
    · exact absurd e z
    · rw [e] at step ⊢
      rw [ix_n (by omega)] at step
      have a1 : ¬ μ 16 i = -1 := fun y => by unfold mbr at hm; simp [y] at hm
      have a2 : ¬ μ 16 j = -1 := fun y => by unfold mbr at pj; simp [y] at pj
      have hne := nI_m1 (n := j) (by omega)
      refine s_isAhead hI0 hm0 (h31 8 (by decide)) c a1 (by omega) a2 (fun hh => t_n (by decide) (go _ ?_)) (fun hh => t_y rfl (go _ ?_))
      · rw [step, hm, hh]; simp
      · rw [step, hm, hh]; simp [hne]
  · rw [step, hm]; rfl
/-- the kept one speaks of rows that neither answer nor flag touch -/
theorem kep_sim {μ μ' : Mem} {w n : Nat} {g : Int32} (h : ∀ c j, (c = 11 ∨ c = 13 ∨ c = 14 ∨ c = 15 ∨ c = 16 ∨ c = 17 ∨ c = 21 ∨ c = 22 ∨ c = 27 ∨ c = 28) → μ' c j = μ c j) : kep (mbr (μ' 16) (μ' 22) g) (fun a b => ahd (rk μ') a b w 0) n = kep (mbr (μ 16) (μ 22) g) (fun a b => ahd (rk μ) a b w 0) n := by
  have r : ∀ c, (c = 11 ∨ c = 13 ∨ c = 14 ∨ c = 15 ∨ c = 16 ∨ c = 17 ∨ c = 21 ∨ c = 22 ∨ c = 27 ∨ c = 28) → μ' c = μ c := fun c hc => funext fun j => h c j hc
  have e : rk μ' = rk μ := by
    funext i f
    unfold rk
    rw [r 11 (by omega), r 13 (by omega), r 14 (by omega), r 15 (by omega), r 16 (by omega), r 17 (by omega), r 21 (by omega), r 27 (by omega), r 28 (by omega)]
  rw [e, r 16 (by omega), r 22 (by omega)]
theorem op_keep {post : Int32 → Mem → Prop} {K : Int32 → Int32 → Mem → Prop} {a1 : Int32} {μ : Mem} (hI : InvE μ) (hK : ∀ k b m, m 31 0 = k → (k = 0 → m 56 0 = b) → InvE m → K k b m) (hp : ∀ k m, w_X8_keep (K k) a1 m → post k m) : w_L_keep post a1 μ := by
  obtain ⟨nf, n, nb, w, q, lt, hI⟩ := hI
  have e6 : μ 4 3 = μ 31 6 := hI.1.2.2.2.2.2.2.2.1
  unfold w_L_keep w_X7_keep
  refine s_needGroup (fun z1 z2 => s_keptOf_c hI (fun m em => hp 0 m ?_)) (fun hc => ⟨rfl, hp 1 μ ?_⟩)
  · subst em
    unfold w_X8_keep
    have hI2 : Inv nf n nb w q lt (wr (wr μ 56 (ix 0) (kep (mbr (μ 16) (μ 22) a1) (fun a b => ahd (rk μ) a b w 0) n)) 31 0 0) := (hI.w n56).w n310
    refine s_isGroup_y z1 (by simp [wrA]; rw [← e6]; exact z2) (t_n (by decide) (s_keptOf_m hI2 (fun _ _ _ => rfl) (fun _ _ => rfl) ?_))
    rw [kep_sim (μ := μ) (fun c j hc => by rw [wrA, if_neg (by omega), wrA, if_neg (by omega)])]
    exact hK 0 _ _ (by simp [wrA, updA]) (fun _ => by simp [wrA, updA, ix0]) ⟨nf, n, nb, w, q, lt, hI2⟩
  · unfold w_X8_keep
    exact s_isGroup_n (by rw [← e6]; exact hc) (t_y rfl (hK 1 0 _ (by simp [wrA, updA]) (fun h => absurd h (by decide)) ⟨nf, n, nb, w, q, lt, (hI.w n310).w n310⟩))
