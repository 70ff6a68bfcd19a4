/-- a sum of ints over those below n that have p -/
def sI (p : Nat → Bool) (g : Nat → Int32) : Nat → Int32
  | 0 => 0
  | n + 1 => if p n then sI p g n + g n else sI p g n
theorem sI_cong {p q : Nat → Bool} {g h : Nat → Int32} : ∀ {n : Nat}, (∀ k, k < n → p k = q k ∧ g k = h k) → sI p g n = sI q h n
  | 0, _ => rfl
  | n + 1, hh => by
    unfold sI
    rw [sI_cong (fun k hk => hh k (by omega)), (hh n (by omega)).1, (hh n (by omega)).2]
/-- whether a body is there -/
def thr (bd : Nat → Int32) (n : Nat) : Nat → Bool := fun b => decide (0 < hav bd n (nI b))
theorem s_bodiesThere {post : Int32 → Mem → Prop} {μ : Mem} {n nb : Nat} (h1 : μ 2 4 = nI n) (h2 : n ≤ 60) (h3 : μ 3 4 = nI nb) (h4 : nb ≤ 100) (h : post (nI (ct (thr (μ 16) n) nb)) μ) : w_X7_bodiesThere post μ := by
  unfold w_X7_bodiesThere
  refine wl2 (fun x y m => m = μ ∧ ∃ i, i ≤ nb ∧ y = nI i ∧ x = nI (ct (thr (μ 16) n) i)) (fun _ y _ => nb - ix y) ?_ _ _ _ ⟨rfl, 0, by omega, rfl, rfl⟩
  rintro k x y m ⟨rfl, i, hi, rfl, rfl⟩ hk
  unfold w_X7_bodiesThere_b4
  refine pk_le nb i (fun c => by rw [show i = nb by omega]; exact h) (fun c => s_X1_having h1 h2 ?_) h3 rfl (by omega) (by omega)
  have hle : hav (m 16) n (nI i) ≤ n := ct_le _ _
  refine pk_le _ 0 (fun c2 => ?_) (fun c2 => ?_) rfl rfl (by omega) (by omega)
  · refine hk _ _ _ ⟨rfl, i + 1, c, nIs i, ?_⟩ (by rw [nIs, ix_n (by omega), ix_n (by omega)]; omega)
    rw [ct_f (by unfold thr; exact decide_eq_false (by omega))]
  · refine hk _ _ _ ⟨rfl, i + 1, c, nIs i, ?_⟩ (by rw [nIs, ix_n (by omega), ix_n (by omega)]; omega)
    rw [ct_t (by unfold thr; exact decide_eq_true (by omega)), nIs]
theorem s_bytesThere {post : Int32 → Mem → Prop} {μ : Mem} {n nb : Nat} (h1 : μ 2 4 = nI n) (h2 : n ≤ 60) (h3 : μ 3 4 = nI nb) (h4 : nb ≤ 100) (h : post (sI (thr (μ 16) n) (μ 19) nb) μ) : w_X7_bytesThere post μ := by
  unfold w_X7_bytesThere
  refine wl2 (fun x y m => m = μ ∧ ∃ i, i ≤ nb ∧ y = nI i ∧ x = sI (thr (μ 16) n) (μ 19) i) (fun _ y _ => nb - ix y) ?_ _ _ _ ⟨rfl, 0, by omega, rfl, rfl⟩
  rintro k x y m ⟨rfl, i, hi, rfl, rfl⟩ hk
  unfold w_X7_bytesThere_b4
  refine pk_le nb i (fun c => by rw [show i = nb by omega]; exact h) (fun c => s_X1_having h1 h2 ?_) h3 rfl (by omega) (by omega)
  have hle : hav (m 16) n (nI i) ≤ n := ct_le _ _
  refine pk_le _ 0 (fun c2 => ?_) (fun c2 => ⟨vp_in_nI (by omega) (by decide), ?_⟩) rfl rfl (by omega) (by omega)
  · refine hk _ _ _ ⟨rfl, i + 1, c, nIs i, ?_⟩ (by rw [nIs, ix_n (by omega), ix_n (by omega)]; omega)
    have : thr (m 16) n i = false := by unfold thr; exact decide_eq_false (by omega)
    show _ = if thr (m 16) n i then _ else _
    rw [this]; rfl
  · rw [ix_n (by omega)]
    refine hk _ _ _ ⟨rfl, i + 1, c, nIs i, ?_⟩ (by rw [nIs, ix_n (by omega), ix_n (by omega)]; omega)
    have : thr (m 16) n i = true := by unfold thr; exact decide_eq_true (by omega)
    show _ = if thr (m 16) n i then _ else _
    rw [this]; rfl
theorem ct_not (p : Nat → Bool) : ∀ n, ct (fun k => !p k) n + ct p n = n
  | 0 => rfl
  | n + 1 => by
    have := ct_not p n
    rw [ct_s, ct_s]
    cases p n <;> simp <;> omega
theorem op_count {post : Int32 → Mem → Prop} {K : Int32 → Int32 → Mem → Prop} {a1 : Int32} {μ : Mem} (hI : InvE μ) (hK : ∀ k b m, m 31 0 = k → (k = 0 → m 56 0 = b) → InvE m → K k b m) (hp : ∀ k m, w_X8_count (K k) a1 m → post k m) : w_L_count post a1 μ := by
  obtain ⟨nf, n, nb, w, q, lt, hI⟩ := hI
  have hI0 := hI
  obtain ⟨⟨⟨c1, m1, f1, f2⟩, ⟨c2, m2, f3⟩, ⟨c3, m3, f4⟩, hC4, hC5, hC6⟩, hFo, hFi, hHe, hBo, hBy, hGr, hWi, hLe, hMe⟩ := hI
  unfold w_L_count w_X7_count
  have hcong : ∀ b, hav (ebd (μ 34) (μ 36)) n b = hav (μ 16) n b := fun b => hav_cong (hFi.ebd f2)
  rcases idx a1 (n := 8) (by decide) with ⟨j, hj, ej⟩ | ⟨hc, hx⟩
  · have fin : ∀ v : Int32, (∀ m : Mem, m 31 0 = 0 → (∀ j, j ≠ 0 → m 31 j = μ 31 j) → m 34 = μ 34 → m 36 = μ 36 → m 38 = μ 38 → K 0 v m → w_X8_count_b21 (K 0) a1 1 m) → ∀ m, m = wr μ 56 (ix 0) v → post 0 m := fun v hv m em => by
      refine hp 0 m ?_
      subst em
      unfold w_X8_count
      intro m em
      refine t_n (by rw [ej]; exact nI_neg (by omega)) (t_n (by rw [lit7, ej]; exact nI_ge hj (by decide)) ?_)
      subst em
      exact hv _ (by simp [wrA, updA]) (fun j hj => by simp [wrA, updA, hj]) (by simp [wrA]) (by simp [wrA]) (by simp [wrA]) (hK 0 v _ (by simp [wrA, updA]) (fun _ => by simp [wrA, updA, ix0]) ⟨nf, n, nb, w, q, lt, (hI0.w n56).w n310⟩)
    unfold w_X8_count_b21 at fin
    have j9 : j = 0 ∨ j = 1 ∨ j = 2 ∨ j = 3 ∨ j = 4 ∨ j = 5 ∨ j = 6 ∨ j = 7 := by omega
    rcases j9 with rfl | rfl | rfl | rfl | rfl | rfl | rfl | rfl <;> subst ej
    · refine t_y rfl (fin _ (fun m g0 g31 g34 g36 g38 hk => right_y g0 (f_n (by decide) (t_y rfl ?_))))
      rw [g31 1 (by decide), m1, ← c1]; exact hk
    · refine t_n (by decide) (t_y rfl ?_)
      unfold w_X1_there
      refine s_X1_having c2 f3 (fin _ (fun m g0 g31 g34 g36 g38 hk => right_y g0 (f_n (by decide) (t_n (by decide) (t_y rfl ?_)))))
      have he : (μ 2 4 - nI (hav (μ 16) n (-1))) = nI (ct (fun f => !decide (μ 16 f = -1)) n) := by
        have h1 := ct_not (fun f => decide (μ 16 f = -1)) n
        have h2 : hav (μ 16) n (-1) = ct (fun f => decide (μ 16 f = -1)) n := rfl
        rw [c2, h2, pk_sub (ct_le _ _)]
        congr 1
        omega
      rw [he] at hk
      refine wl2 (fun x y m' => m' = m ∧ ∃ i, i ≤ n ∧ y = nI i ∧ x = nI (ct (fun f => !decide (μ 16 f = -1)) i)) (fun _ y _ => n - ix y) ?_ _ _ _ ⟨rfl, 0, by omega, rfl, rfl⟩
      rintro k x y m' ⟨rfl, i, hi, rfl, rfl⟩ hkk
      unfold w_X8_count_b83
      refine pk_le n i (fun c => by rw [show i = n by omega]; exact hk) (fun c => ⟨vp_in_nI (by omega) (by decide), ?_⟩) (by rw [g31 2 (by decide)]; exact m2) rfl (by omega) (by omega)
      rw [ix_n (by omega), g34]
      have hg := hFi.gone f2 f4 c
      refine ⟨fun z => ?_, fun z => ?_⟩
      · refine hkk _ _ _ ⟨rfl, i + 1, c, nIs i, ?_⟩ (by rw [nIs, ix_n (by omega), ix_n (by omega)]; omega)
        rw [ct_f (by simp [hg.mpr z])]
      · refine hkk _ _ _ ⟨rfl, i + 1, c, nIs i, ?_⟩ (by rw [nIs, ix_n (by omega), ix_n (by omega)]; omega)
        have hz : ¬ μ 16 i = -1 := fun y => z (hg.mp y)
        rw [ct_t (by simp [hz]), nIs]
    · refine t_n (by decide) (t_n (by decide) (t_y rfl ?_))
      refine s_bodiesThere c2 f3 c3 f4 (fin _ (fun m g0 g31 g34 g36 g38 hk => right_y g0 (f_n (by decide) (t_n (by decide) (t_n (by decide) (t_y rfl ?_))))))
      refine wl2 (fun x y m' => m' = m ∧ ∃ i, i ≤ nb ∧ y = nI i ∧ x = nI (ct (thr (μ 16) n) i)) (fun _ y _ => nb - ix y) ?_ _ _ _ ⟨rfl, 0, by omega, rfl, rfl⟩
      rintro k x y m' ⟨rfl, i, hi, rfl, rfl⟩ hkk
      unfold w_X8_count_b114
      refine pk_le nb i (fun c => by rw [show i = nb by omega]; exact hk) (fun c => s_X8_names (n := n) (by rw [g31 2 (by decide)]; exact m2) f3 (nI_m1 (by omega)) ?_) (by rw [g31 3 (by decide)]; exact m3) rfl (by omega) (by omega)
      rw [g34, g36, hcong]
      have hle : hav (μ 16) n (nI i) ≤ n := ct_le _ _
      refine pk_le _ 0 (fun c2 => ?_) (fun c2 => ?_) rfl rfl (by omega) (by omega)
      · refine hkk _ _ _ ⟨rfl, i + 1, c, nIs i, ?_⟩ (by rw [nIs, ix_n (by omega), ix_n (by omega)]; omega)
        rw [ct_f (by unfold thr; exact decide_eq_false (by omega))]
      · refine hkk _ _ _ ⟨rfl, i + 1, c, nIs i, ?_⟩ (by rw [nIs, ix_n (by omega), ix_n (by omega)]; omega)
        rw [ct_t (by unfold thr; exact decide_eq_true (by omega)), nIs]
    · refine t_n (by decide) (t_n (by decide) (t_n (by decide) (t_y rfl ?_)))
      refine s_bytesThere c2 f3 c3 f4 (fin _ (fun m g0 g31 g34 g36 g38 hk => right_y g0 (f_n (by decide) (t_n (by decide) (t_n (by decide) (t_n (by decide) (t_y rfl ?_)))))))
      refine wl2 (fun x y m' => m' = m ∧ ∃ i, i ≤ nb ∧ y = nI i ∧ x = sI (thr (μ 16) n) (μ 19) i) (fun _ y _ => nb - ix y) ?_ _ _ _ ⟨rfl, 0, by omega, rfl, rfl⟩
      rintro k x y m' ⟨rfl, i, hi, rfl, rfl⟩ hkk
      unfold w_X8_count_b143
      refine pk_le nb i (fun c => by rw [show i = nb by omega]; exact hk) (fun c => s_X8_names (n := n) (by rw [g31 2 (by decide)]; exact m2) f3 (nI_m1 (by omega)) ?_) (by rw [g31 3 (by decide)]; exact m3) rfl (by omega) (by omega)
      rw [g34, g36, hcong]
      have hle : hav (μ 16) n (nI i) ≤ n := ct_le _ _
      refine pk_le _ 0 (fun c2 => ?_) (fun c2 => ⟨vp_in_nI (by omega) (by decide), ?_⟩) rfl rfl (by omega) (by omega)
      · refine hkk _ _ _ ⟨rfl, i + 1, c, nIs i, ?_⟩ (by rw [nIs, ix_n (by omega), ix_n (by omega)]; omega)
        have : thr (μ 16) n i = false := by unfold thr; exact decide_eq_false (by omega)
        show _ = if thr (μ 16) n i then _ else _
        rw [this]; rfl
      · rw [ix_n (by omega), g38, (hBo i (by omega)).2.1]
        refine hkk _ _ _ ⟨rfl, i + 1, c, nIs i, ?_⟩ (by rw [nIs, ix_n (by omega), ix_n (by omega)]; omega)
        have : thr (μ 16) n i = true := by unfold thr; exact decide_eq_true (by omega)
        show _ = if thr (μ 16) n i then _ else _
        rw [this]; rfl
    · refine t_n (by decide) (t_n (by decide) (t_n (by decide) (t_n (by decide) (t_y rfl (fin _ (fun m g0 g31 g34 g36 g38 hk => right_y g0 (f_n (by decide) (t_n (by decide) (t_n (by decide) (t_n (by decide) (t_n (by decide) (t_y rfl ?_)))))))))))) 
      rw [g31 5 (by decide), ← hC6.2.1]; exact hk
    · refine t_n (by decide) (t_n (by decide) (t_n (by decide) (t_n (by decide) (t_n (by decide) (t_y rfl (fin _ (fun m g0 g31 g34 g36 g38 hk => right_y g0 (f_n (by decide) (t_n (by decide) (t_n (by decide) (t_n (by decide) (t_n (by decide) (t_n (by decide) (t_y rfl ?_))))))))))))))
      rw [g31 23 (by decide), hC5.2.1, ← hC5.1]; exact hk
    · refine t_n (by decide) (t_n (by decide) (t_n (by decide) (t_n (by decide) (t_n (by decide) (t_n (by decide) (t_y rfl (fin _ (fun m g0 g31 g34 g36 g38 hk => right_y g0 (f_n (by decide) (t_n (by decide) (t_n (by decide) (t_n (by decide) (t_n (by decide) (t_n (by decide) (t_n (by decide) (t_y rfl ?_))))))))))))))))
      rw [g31 4 (by decide), ← hC6.1]; exact hk
    · refine t_n (by decide) (t_n (by decide) (t_n (by decide) (t_n (by decide) (t_n (by decide) (t_n (by decide) (t_n (by decide) (t_y rfl (fin _ (fun m g0 g31 g34 g36 g38 hk => right_y g0 (f_n (by decide) (t_n (by decide) (t_n (by decide) (t_n (by decide) (t_n (by decide) (t_n (by decide) (t_n (by decide) (t_n (by decide) ?_)))))))))))))))))
      rw [g31 3 (by decide), m3, ← c3]; exact hk
  · have : post 1 μ := hp 1 μ (by
      unfold w_X8_count w_X8_count_b20
      intro m em
      subst em
      have hr : w_X8_count_b21 (K 1) a1 0 (wr μ 31 0 0) := by
        unfold w_X8_count_b21
        exact right_n (by simp [wrA, updA]) (by decide) (f_y rfl (hK 1 0 _ (by simp [wrA, updA]) (fun h => absurd h (by decide)) ⟨nf, n, nb, w, q, lt, (hI0.w n310).w n310⟩))
      refine ⟨fun _ => hr, fun z1 => ⟨fun _ => hr, fun z2 => ?_⟩⟩
      rcases hc with hc | hc
      · exact absurd hc z1
      · exact absurd ((lit7 a1).mpr hc) z2)
    exact t_n (hx 0 (by decide)) (t_n (hx 1 (by decide)) (t_n (hx 2 (by decide)) (t_n (hx 3 (by decide)) (t_n (hx 4 (by decide)) (t_n (hx 5 (by decide)) (t_n (hx 6 (by decide)) (t_n (hx 7 (by decide)) ⟨rfl, this⟩)))))))
/-- members of a group -/
def mbr (cb cg : Nat → Int32) (g : Int32) : Nat → Bool := fun f => !decide (cb f = -1) && decide (cg (ix (cb f)) = g)
theorem s_isMember_c {post : Int32 → Mem → Prop} {g : Int32} {μ : Mem} {nf n nb f : Nat} {cf cnm mf mnm mb : Nat → Int32} (h1 : μ 2 4 = nI n) (h2 : n ≤ 60) (hnb : nb ≤ 100) (hFi : IFi nf n nb cf cnm (μ 16) mf mnm mb) (hf : f < n) (hy : mbr (μ 16) (μ 22) g f = true → post 1 μ) (hn : mbr (μ 16) (μ 22) g f = false → post 0 μ) : w_X7_isMember post (nI f) g μ := by
  unfold w_X7_isMember
  obtain ⟨-, ⟨b, hb, eb⟩, hc⟩ := hFi f hf
  have hif : ix (nI f) = f := ix_n (by omega)
  unfold mbr at hy hn
  refine s_X1_has h1 h2 (fun f' hf' e he => ?_) (fun hx => t_y rfl (hn (by simp [hx f hf rfl])))
  have : f = f' := (nI_eq (by omega) (by omega)).mp e
  subst this
  have e16 : μ 16 f = nI b := by
    rcases hc with ⟨-, hc⟩ | ⟨-, hc, -⟩
    · exact absurd hc he
    · exact hc.trans eb
  refine t_n (by decide) ⟨vp_in_nI (by omega) (by decide), ?_⟩
  rw [hif]
  refine ⟨by rw [e16]; exact vp_in_nI (by omega) (by decide), fun c => hn (by simp [he, c]), fun c => hy (by simp [he, c])⟩
theorem s_isMember_m {post : Int32 → Mem → Prop} {g : Int32} {μ : Mem} {nf n nb f : Nat} {cf cnm cb cg mnm : Nat → Int32} (h2 : n ≤ 60) (hnf : nf ≤ 16) (hnb : nb ≤ 100) (hFi : IFi nf n nb cf cnm cb (μ 34) mnm (μ 36)) (hGr : IGr n nb cb cg (μ 41)) (hf : f < n) (hy : mbr cb cg g f = true → post 1 μ) (hn : mbr cb cg g f = false → post 0 μ) : w_X8_isMember post g (nI f) μ := by
  unfold w_X8_isMember
  have hgo := hFi.gone hnf hnb hf
  obtain ⟨-, ⟨b, hb, eb⟩, hc⟩ := hFi f hf
  have hif : ix (nI f) = f := ix_n (by omega)
  have hin : vp_in (nI f) 60 := vp_in_nI (by omega) (by decide)
  unfold mbr at hy hn
  rw [hif, eb, ix_n (by omega)]
  refine ⟨hin, fun c => hn (by simp [hgo.mpr c]), fun c => ⟨hin, vp_in_nI (by omega) (by decide), ?_⟩⟩
  have he : ¬ cb f = -1 := fun z => c (hgo.mp z)
  have e16 : cb f = nI b := by
    rcases hc with ⟨-, hc⟩ | ⟨-, hc, -⟩
    · exact absurd hc he
    · exact hc.trans eb
  have := hGr.2 f hf b hb e16
  rw [e16, ix_n (by omega), this] at hy hn
  refine ⟨fun c => hn (by simp [c]), fun c => hy ?_⟩
  rw [e16] at he
  simp [he, c]
theorem s_needGroup {post : Mem → Prop} {xq : XP} {a : Int32} {μ : Mem} (hy : ¬ a < 0 → a < μ 4 3 → post μ) (hn : (a < 0 ∨ ¬ a < μ 4 3) → xq "java/util/NoSuchElementException" μ) : w_X7_needGroup post xq a μ := by
  unfold w_X7_needGroup w_X7_needGroup_b15
  exact ⟨fun z => hn (Or.inl z), fun z => ⟨fun z2 => hy z z2, fun z2 => hn (Or.inr z2)⟩⟩
theorem s_isGroup_y {post : Int32 → Mem → Prop} {a : Int32} {μ : Mem} (h1 : ¬ a < 0) (h2 : a < μ 31 6) (h : post 1 (wr μ 31 0 0)) : w_X8_isGroup post a μ := by
  unfold w_X8_isGroup w_X8_isGroup_b23
  intro m em
  subst em
  refine t_n h1 (t_n (by simp only [wrA, updA, Nat.reduceEqDiff, reduceIte]; exact Int32.not_le.mpr h2) (right_y (by simp [wrA, updA]) ⟨bz1, h⟩))
theorem s_isGroup_n {post : Int32 → Mem → Prop} {a : Int32} {μ : Mem} (h1 : a < 0 ∨ ¬ a < μ 31 6) (h : post 0 (wr (wr μ 31 0 0) 31 0 1)) : w_X8_isGroup post a μ := by
  unfold w_X8_isGroup w_X8_isGroup_b22
  intro m em
  subst em
  have hr : w_X8_isGroup_b23 post 0 (wr μ 31 0 0) := by
    unfold w_X8_isGroup_b23
    exact right_n (by simp [wrA, updA]) (by decide) ⟨bz0, h⟩
  refine ⟨fun _ => hr, fun z1 => ⟨fun _ => hr, fun z2 => ?_⟩⟩
  simp only [wrA, updA, Nat.reduceEqDiff, reduceIte] at z2
  rcases h1 with h1 | h1
  · exact absurd h1 z1
  · exact absurd (Int32.not_lt.mp h1) z2
/-- the i-th member -/
def ith (p : Nat → Bool) (i : Int32) : Nat → Bool := fun k => p k && decide (nI (ct p k) = i)
theorem op_member {post : Int32 → Mem → Prop} {K : Int32 → Int32 → Mem → Prop} {a1 a2 : Int32} {μ : Mem} (hI : InvE μ) (hK : ∀ k b m, m 31 0 = k → (k = 0 → m 56 0 = b) → InvE m → K k b m) (hp : ∀ k m, w_X8_member (K k) a1 a2 m → post k m) : w_L_member post a1 a2 μ := by
  obtain ⟨nf, n, nb, w, q, lt, hI⟩ := hI
  have hI0 := hI
  obtain ⟨⟨⟨c1, m1, f1, f2⟩, ⟨c2, m2, f3⟩, ⟨c3, m3, f4⟩, hC4, hC5, hC6⟩, hFo, hFi, hHe, hBo, hBy, hGr, hWi, hLe, hMe⟩ := hI
  unfold w_L_member w_X7_member
  have e6 : μ 4 3 = μ 31 6 := hC6.2.2.1
  refine s_needGroup (fun z1 z2 => ?_) (fun hc => ⟨rfl, hp 1 μ ?_⟩)
  · -- the class
    have cls : ∀ {P : Int32 → Mem → Prop} {X : XP}, (∀ k, k < n → fst (ith (mbr (μ 16) (μ 22) a1) a2) n = nI k → P (nI k) μ) → (fst (ith (mbr (μ 16) (μ 22) a1) a2) n = -1 → (a2 = -1 → P (nI (ct (mbr (μ 16) (μ 22) a1) n)) μ) ∧ (¬ a2 = -1 → X "java/util/NoSuchElementException" μ)) → ∃ N : Nat, itr (fun _ _ _ _ _ => False) (w_X7_member_b10 P X) N a1 a2 (0 : Int32) (0 : Int32) μ := fun {P X} hy hn => by
      refine wl4 (fun x y s z m => x = a1 ∧ y = a2 ∧ m = μ ∧ ∃ i, i ≤ n ∧ z = nI i ∧ s = nI (ct (mbr (μ 16) (μ 22) a1) i) ∧ ∀ j, j < i → ith (mbr (μ 16) (μ 22) a1) a2 j = false) (fun _ _ _ z _ => n - ix z) ?_ _ _ _ _ _ ⟨rfl, rfl, rfl, 0, by omega, rfl, rfl, fun j hj => absurd hj (Nat.not_lt_zero j)⟩
      rintro k x y s z m ⟨rfl, rfl, rfl, i, hi, rfl, rfl, hpre⟩ hk
      unfold w_X7_member_b10
      refine pk_le n i (fun h => ?_) (fun h => ?_) c2 rfl (by omega) (by omega)
      · rw [show i = n by omega] at hpre ⊢
        exact hn (fst_no hpre)
      · have go : ∀ v, v = nI (ct (mbr (m 16) (m 22) x) (i + 1)) → ith (mbr (m 16) (m 22) x) y i = false → k x y v (nI i + 1) m := fun v hv hf => by
          refine hk _ _ _ _ _ ⟨rfl, rfl, rfl, i + 1, h, nIs i, hv, fun j hj => ?_⟩ (by rw [nIs, ix_n (by omega), ix_n (by omega)]; omega)
          rcases Nat.lt_or_ge j i with c | c
          · exact hpre j c
          · rw [show j = i by omega]; exact hf
        refine s_isMember_c c2 f3 f4 hFi h (fun hm => t_n (by decide) ⟨fun c => go _ (by rw [ct_t hm, nIs]) (by simp [ith, c]), fun c => hy i h (fst_yes (by simp [ith, hm, c]) (by omega) hpre h)⟩) (fun hm => t_y rfl (go _ (by rw [ct_f hm]) (by simp [ith, hm])))
    have mdl : ∀ {m : Mem} {P : Int32 → Mem → Prop}, m 31 0 = 0 → m 31 2 = nI n → m 34 = μ 34 → m 35 = μ 35 → m 36 = μ 36 → m 41 = μ 41 → (∀ k, k < n → fst (ith (mbr (μ 16) (μ 22) a1) a2) n = nI k → P (nI k) m) → (fst (ith (mbr (μ 16) (μ 22) a1) a2) n = -1 → (a2 = -1 → P (nI (ct (mbr (μ 16) (μ 22) a1) n)) m) ∧ (¬ a2 = -1 → P 0 (wr m 31 0 1))) → ∃ N : Nat, itr (fun _ _ _ _ _ => False) (w_X8_member_b15 P) N a1 a2 (0 : Int32) (0 : Int32) m := fun {m P} g0 g2 g34 g35 g36 g41 hy hn => by
      refine wl4 (fun x y s z m' => x = a1 ∧ y = a2 ∧ m' = m ∧ ∃ i, i ≤ n ∧ z = nI i ∧ s = nI (ct (mbr (μ 16) (μ 22) a1) i) ∧ ∀ j, j < i → ith (mbr (μ 16) (μ 22) a1) a2 j = false) (fun _ _ _ z _ => n - ix z) ?_ _ _ _ _ _ ⟨rfl, rfl, rfl, 0, by omega, rfl, rfl, fun j hj => absurd hj (Nat.not_lt_zero j)⟩
      rintro k x y s z m' ⟨rfl, rfl, rfl, i, hi, rfl, rfl, hpre⟩ hk
      unfold w_X8_member_b15 w_X8_member_b65
      refine pk_le n i (fun h => ?_) (fun h => ?_) g2 rfl (by omega) (by omega)
      · rw [show i = n by omega] at hpre ⊢
        obtain ⟨hA, hB⟩ := hn (fst_no hpre)
        exact ⟨fun c => right_n g0 (by decide) (t_y rfl (hB c)), fun c => right_y g0 (t_n (by decide) (hA c))⟩
      · have go : ∀ v, v = nI (ct (mbr (μ 16) (μ 22) x) (i + 1)) → ith (mbr (μ 16) (μ 22) x) y i = false → k x y v (nI i + 1) m' := fun v hv hf => by
          refine hk _ _ _ _ _ ⟨rfl, rfl, rfl, i + 1, h, nIs i, hv, fun j hj => ?_⟩ (by rw [nIs, ix_n (by omega), ix_n (by omega)]; omega)
          rcases Nat.lt_or_ge j i with c | c
          · exact hpre j c
          · rw [show j = i by omega]; exact hf
        refine s_isMember_m (cb := μ 16) (cg := μ 22) (cf := μ 14) (cnm := μ 15) (mnm := μ 35) f3 f2 f4 (by rw [g34, g36]; exact hFi) (by rw [g41]; exact hGr) h (fun hm => f_n (by decide) ⟨fun c => go _ (by rw [ct_t hm, nIs]) (by simp [ith, c]), fun c => hy i h (fst_yes (by simp [ith, hm, c]) (by omega) hpre h)⟩) (fun hm => f_y rfl (go _ (by rw [ct_f hm]) (by simp [ith, hm])))
    have fin : ∀ (k v : Int32), (∀ m : Mem, m 31 0 = 0 → m 31 2 = nI n → m 34 = μ 34 → m 35 = μ 35 → m 36 = μ 36 → m 41 = μ 41 → Inv nf n nb w q lt m → (k = 0 → m 56 0 = v) → ∃ N : Nat, itr (fun _ _ _ _ _ => False) (w_X8_member_b15 (K k)) N a1 a2 (0 : Int32) (0 : Int32) m) → ∀ m, (m = wr μ 56 (ix 0) v ∨ (m = μ ∧ ¬ k = 0)) → post k m := fun k v hv m em => by
      refine hp k m ?_
      unfold w_X8_member
      have hIm : Inv nf n nb w q lt m := by
        rcases em with em | em
        · rw [em]; exact hI0.w n56
        · rw [em.1]; exact hI0
      have r : ∀ c j, c ≠ 56 → m c j = μ c j := fun c j hc => by
        rcases em with em | em
        · rw [em, wrA, if_neg hc]
        · rw [em.1]
      refine s_isGroup_y z1 (by rw [r 31 6 (by decide), ← e6]; exact z2) (f_n (by decide) ?_)
      refine hv _ (by simp [wrA, updA]) (by simp [wrA, updA]; rw [r 31 2 (by decide)]; exact m2) (by simp [wrA]; funext j; exact r 34 j (by decide)) (by simp [wrA]; funext j; exact r 35 j (by decide)) (by simp [wrA]; funext j; exact r 36 j (by decide)) (by simp [wrA]; funext j; exact r 41 j (by decide)) (hIm.w n310) (fun hk => ?_)
      rcases em with em | em
      · rw [em]; simp [wrA, updA, ix0]
      · exact absurd hk em.2
    refine cls (fun k hk ek => fun m em => fin 0 (nI k) (fun m g0 g2 g34 g35 g36 g41 hIm g56 => mdl g0 g2 g34 g35 g36 g41 (fun k' hk' ek' => ?_) (fun ek' => ?_)) m (Or.inl em)) (fun ek => ⟨fun ea => fun m em => fin 0 _ (fun m g0 g2 g34 g35 g36 g41 hIm g56 => mdl g0 g2 g34 g35 g36 g41 (fun k' hk' ek' => ?_) (fun _ => ⟨fun _ => ?_, fun z => absurd ea z⟩)) m (Or.inl em), fun ea => ⟨rfl, fin 1 0 (fun m g0 g2 g34 g35 g36 g41 hIm g56 => mdl g0 g2 g34 g35 g36 g41 (fun k' hk' ek' => ?_) (fun _ => ⟨fun z => absurd z ea, fun _ => ?_⟩)) μ (Or.inr ⟨rfl, by decide⟩)⟩⟩)
    · rw [ek] at ek'
      rw [← ek']
      exact hK 0 _ _ g0 (fun h => g56 h) ⟨nf, n, nb, w, q, lt, hIm⟩
    · rw [ek] at ek'
      exact absurd ek' (nI_m1 (by omega))
    · rw [ek] at ek'
      exact absurd ek'.symm (nI_m1 (by omega))
    · exact hK 0 _ _ g0 (fun h => g56 h) ⟨nf, n, nb, w, q, lt, hIm⟩
    · rw [ek] at ek'
      exact absurd ek'.symm (nI_m1 (by omega))
    · exact hK 1 0 _ (by simp [wrA, updA]) (fun h => absurd h (by decide)) ⟨nf, n, nb, w, q, lt, hIm.w n310⟩
  · unfold w_X8_member
    exact s_isGroup_n (by rw [← e6]; exact hc) (f_y rfl (hK 1 0 _ (by simp [wrA, updA]) (fun h => absurd h (by decide)) ⟨nf, n, nb, w, q, lt, (hI0.w n310).w n310⟩))
