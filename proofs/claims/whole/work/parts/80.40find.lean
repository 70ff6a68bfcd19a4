/-! finding doubles: heaps -/
def Can (h : Nat → Int32) (nb : Nat) (cs : Nat → Int32) : Prop := (∀ b, nb ≤ b → h b = -1) ∧ ∀ b, b < nb → h b = -1 ∨ ∃ r, r ≤ b ∧ h b = nI r ∧ h r = nI r ∧ cs r = cs b
theorem Can.c {h : Nat → Int32} {nb : Nat} {cs : Nat → Int32} (H : Can h nb cs) (b : Nat) : h b = -1 ∨ (b < nb ∧ ∃ r, r ≤ b ∧ h b = nI r ∧ h r = nI r ∧ cs r = cs b) := by
  rcases Nat.lt_or_ge b nb with z | z
  · rcases H.2 b z with y | y
    · exact Or.inl y
    · exact Or.inr ⟨z, y⟩
  · exact Or.inl (H.1 b z)
theorem fst_ne {p : Nat → Bool} {n i : Nat} (hn : n < 2147483648) (h : fst p n = nI i) (hi : i < 2147483648) : i < n ∧ p i = true ∧ ∀ k, k < i → p k = false := by
  rcases fst_cases p hn with ⟨e, -⟩ | ⟨j, hj, e, h1, h2⟩
  · rw [e] at h; exact absurd h.symm (nI_m1 hi)
  · rw [e] at h
    have : j = i := (nI_eq (by omega) hi).mp h
    subst this
    exact ⟨hj, h1, h2⟩
theorem fst_last {p : Nat → Bool} {b : Nat} (hb : b < 2147483647) (h : p b = true) : ∃ c, c ≤ b ∧ fst p (b + 1) = nI c ∧ p c = true ∧ ∀ k, k < c → p k = false := by
  rcases fst_cases p (n := b + 1) (by omega) with ⟨-, e⟩ | ⟨j, hj, e, h1, h2⟩
  · rw [e b (by omega)] at h; cases h
  · exact ⟨j, by omega, e, h1, h2⟩
/-- whether two bodies are alike from f to t -/
def alk (y : Nat → Int32) (a b f t : Nat) : Bool := decide (ct (fun k => decide (f ≤ k) && !decide (y (64 * a + k) = y (64 * b + k))) t = 0)
theorem alk_iff {y : Nat → Int32} {a b f t : Nat} : alk y a b f t = true ↔ ∀ k, f ≤ k → k < t → y (64 * a + k) = y (64 * b + k) := by
  unfold alk
  rw [decide_eq_true_iff, ct_zero]
  constructor
  · intro h k h1 h2
    have := h k h2
    simpa [h1] using this
  · intro h k hk
    by_cases c : f ≤ k
    · simp [c, h k c hk]
    · simp [c]
theorem alk_no {y : Nat → Int32} {a b f t k : Nat} (h1 : f ≤ k) (h2 : k < t) (h3 : ¬ y (64 * a + k) = y (64 * b + k)) : alk y a b f t = false := by
  cases e : alk y a b f t
  · rfl
  · exact absurd (alk_iff.mp e k h1 h2) h3
theorem alk_sym (y : Nat → Int32) (a b f t : Nat) : alk y a b f t = alk y b a f t := by
  cases e : alk y b a f t
  · cases e2 : alk y a b f t
    · rfl
    · have := alk_iff.mpr (fun k h1 h2 => (alk_iff.mp e2 k h1 h2).symm)
      rw [e] at this; cases this
  · exact alk_iff.mpr (fun k h1 h2 => (alk_iff.mp e k h1 h2).symm)
theorem s_alike_c {post : Int32 → Mem → Prop} {μ : Mem} {a b f t : Nat} {my : Nat → Int32} (ha : a < 100) (hb : b < 100) (ht : t ≤ 64) (hf : f ≤ 64) (hy : ∀ j, j < 6400 → my j = μ 18 j &&& 255) (h1 : alk my a b f t = true → post 1 μ) (h0 : alk my a b f t = false → post 0 μ) : w_X0_areAlikeWithin post (nI a) (nI b) (nI f) (nI t) μ := by
  unfold w_X0_areAlikeWithin
  refine wl4 (fun x y z u m => x = nI a ∧ y = nI b ∧ z = nI t ∧ m = μ ∧ ∃ i, f ≤ i ∧ i ≤ 64 ∧ u = nI i ∧ ∀ k, f ≤ k → k < i → k < t → my (64 * a + k) = my (64 * b + k)) (fun _ _ _ u _ => 64 - ix u) ?_ _ _ _ _ _ ⟨rfl, rfl, rfl, rfl, f, Nat.le_refl _, hf, rfl, fun k h1 h2 => by omega⟩
  rintro k x y z u m ⟨rfl, rfl, rfl, rfl, i, hi, hi2, rfl, hpre⟩ hk
  unfold w_X0_areAlikeWithin_b3 w_X0_byteOf
  refine pk_le t i (fun c => h1 (alk_iff.mpr (fun k q1 q2 => hpre k q1 (by omega) q2))) (fun c => ?_) rfl rfl (by omega) (by omega)
  rw [nIm, nIm, ix_n (by omega), ix_n (by omega)]
  refine ⟨vp_in_nI (by omega) (by decide), vp_in_nI (by omega) (by decide), ?_⟩
  show ((m 18 (64 * a + i) &&& 255) = (m 18 (64 * b + i) &&& 255) → _) ∧ (¬ (m 18 (64 * a + i) &&& 255) = (m 18 (64 * b + i) &&& 255) → _)
  rw [← hy _ (by omega), ← hy _ (by omega)]
  refine ⟨fun e => hk _ _ _ _ _ ⟨rfl, rfl, rfl, rfl, i + 1, by omega, by omega, nIs i, fun k q1 q2 q3 => ?_⟩ (by rw [nIs, ix_n (by omega), ix_n (by omega)]; omega), fun e => h0 (alk_no hi c e)⟩
  rcases Nat.lt_or_ge k i with z | z
  · exact hpre k q1 z q3
  · rw [show k = i by omega]; exact e
theorem s_alike_m {post : Int32 → Mem → Prop} {μ : Mem} {a b f t : Nat} (ha : a < 100) (hb : b < 100) (ht : t ≤ 64) (hf : f ≤ 64) (h1 : alk (μ 42) a b f t = true → post 1 μ) (h0 : alk (μ 42) a b f t = false → post 0 μ) : w_X8_hasSame post (nI a) (nI b) (nI f) (nI t) μ := by
  unfold w_X8_hasSame
  refine wl4 (fun x y z u m => x = nI a ∧ y = nI b ∧ z = nI t ∧ m = μ ∧ ∃ i, f ≤ i ∧ i ≤ 64 ∧ u = nI i ∧ ∀ k, f ≤ k → k < i → k < t → μ 42 (64 * a + k) = μ 42 (64 * b + k)) (fun _ _ _ u _ => 64 - ix u) ?_ _ _ _ _ _ ⟨rfl, rfl, rfl, rfl, f, Nat.le_refl _, hf, rfl, fun k h1 h2 => by omega⟩
  rintro k x y z u m ⟨rfl, rfl, rfl, rfl, i, hi, hi2, rfl, hpre⟩ hk
  unfold w_X8_hasSame_b3
  refine pk_le t i (fun c => h1 (alk_iff.mpr (fun k q1 q2 => hpre k q1 (by omega) q2))) (fun c => ?_) rfl rfl (by omega) (by omega)
  rw [nIm', nIm', ix_n (by omega), ix_n (by omega)]
  refine ⟨vp_in_nI (by omega) (by decide), vp_in_nI (by omega) (by decide), fun e => hk _ _ _ _ _ ⟨rfl, rfl, rfl, rfl, i + 1, by omega, by omega, nIs i, fun k q1 q2 q3 => ?_⟩ (by rw [nIs, ix_n (by omega), ix_n (by omega)]; omega), fun e => h0 (alk_no hi c e)⟩
  rcases Nat.lt_or_ge k i with z | z
  · exact hpre k q1 z q3
  · rw [show k = i by omega]; exact e
/-- a greater body of the heap -/
def gtb (h : Nat → Int32) (b : Nat) : Bool := decide (0 < ct (fun c => decide (b < c) && decide (h c = nI b)) 100)
theorem gtb_iff {h : Nat → Int32} {b : Nat} : gtb h b = true ↔ ∃ c, b < c ∧ c < 100 ∧ h c = nI b := by
  unfold gtb
  rw [decide_eq_true_iff, ct_pos]
  constructor
  · rintro ⟨k, hk, e⟩
    simp at e
    exact ⟨k, e.1, hk, e.2⟩
  · rintro ⟨k, h1, hk, e⟩
    exact ⟨k, hk, by simp [h1, e]⟩
theorem gtb_no {h : Nat → Int32} {b : Nat} : gtb h b = false ↔ ∀ c, b < c → c < 100 → h c ≠ nI b := by
  constructor
  · intro hh c h1 h2 e
    have := gtb_iff.mpr ⟨c, h1, h2, e⟩
    rw [hh] at this; cases this
  · intro hh
    cases e : gtb h b
    · rfl
    · obtain ⟨c, h1, h2, e⟩ := gtb_iff.mp e
      exact absurd e (hh c h1 h2)
/-- lone ones left out -/
def drp (h : Nat → Int32) : Nat → Int32 := fun b => if h b = nI b ∧ gtb h b = false then -1 else h b
theorem drp_l {h : Nat → Int32} {b : Nat} (h1 : h b = nI b) (h2 : gtb h b = false) : drp h b = -1 := by unfold drp; rw [if_pos ⟨h1, h2⟩]
theorem drp_k {h : Nat → Int32} {b : Nat} (h1 : h b = nI b → gtb h b = true) : drp h b = h b := by
  unfold drp
  rw [if_neg (fun c => by rw [h1 c.1] at c; cases c.2)]
theorem Can.drp {h : Nat → Int32} {nb : Nat} {cs : Nat → Int32} (hnb : nb ≤ 100) (H : Can h nb cs) : Can (drp h) nb cs := by
  refine ⟨fun b hb => ?_, fun b hb => ?_⟩
  · have := H.1 b hb
    unfold Jvm.Pilot.CSameAgainLaw_law_r3562_fee457.drp
    rw [this]; split <;> rfl
  · rcases H.2 b hb with e | ⟨r, hr, e1, e2, e3⟩
    · left
      unfold Jvm.Pilot.CSameAgainLaw_law_r3562_fee457.drp
      rw [e]; split <;> rfl
    · by_cases c : r = b
      · subst c
        cases g : gtb h r
        · exact Or.inl (drp_l e1 g)
        · exact Or.inr ⟨r, Nat.le_refl _, by rw [drp_k (fun _ => g)]; exact e1, by rw [drp_k (fun _ => g)]; exact e1, rfl⟩
      · have g : gtb h r = true := gtb_iff.mpr ⟨b, by omega, by omega, e1⟩
        refine Or.inr ⟨r, hr, ?_, by rw [drp_k (fun _ => g)]; exact e2, e3⟩
        rw [drp_k (fun z => ?_)]
        · exact e1
        · rw [e1] at z; exact absurd ((nI_eq (by omega) (by omega)).mp z) c
theorem s_hasGreater {post : Int32 → Mem → Prop} {μ : Mem} {b : Nat} (hb : b < 100) (hy : gtb (μ 23) b = true → post 1 μ) (hn : gtb (μ 23) b = false → post 0 μ) : w_X2_hasGreaterOne post (nI b) μ := by
  unfold w_X2_hasGreaterOne
  rw [nIs]
  refine wl2 (fun x y m => x = nI b ∧ m = μ ∧ ∃ i, b < i ∧ i ≤ 100 ∧ y = nI i ∧ ∀ c, b < c → c < i → μ 23 c ≠ nI b) (fun _ y _ => 100 - ix y) ?_ _ _ _ ⟨rfl, rfl, b + 1, by omega, by omega, rfl, fun c h1 h2 => by omega⟩
  rintro k x y m ⟨rfl, rfl, i, hi, hi2, rfl, hpre⟩ hk
  unfold w_X2_hasGreaterOne_b4
  refine pk_le 100 i (fun c => hn (gtb_no.mpr (fun c h1 h2 => hpre c h1 (by omega)))) (fun c => ?_) rfl rfl (by omega) (by omega)
  rw [ix_n (by omega)]
  refine ⟨vp_in_nI (by omega) (by decide), fun e => hk _ _ _ ⟨rfl, rfl, i + 1, by omega, by omega, nIs i, fun c h1 h2 => ?_⟩ (by rw [nIs, ix_n (by omega), ix_n (by omega)]; omega), fun e => hy (gtb_iff.mpr ⟨i, hi, c, e⟩)⟩
  rcases Nat.lt_or_ge c i with z | z
  · exact hpre c h1 z
  · rw [show c = i by omega]; exact e
theorem s_leaveOut {post : Mem → Prop} {μ : Mem} {h cs : Nat → Int32} {nb : Nat} (hC : Can h nb cs) (hnb : nb ≤ 100) (hr : ∀ b, b < 100 → μ 23 b = h b) (hp : ∀ m : Mem, (∀ k, k ≠ 23 → m k = μ k) → (∀ b, b < 100 → m 23 b = drp h b) → post m) : w_X2_leaveOutLoneOnes post μ := by
  unfold w_X2_leaveOutLoneOnes
  refine wl1 (fun x m => ∃ i, i ≤ 100 ∧ x = nI i ∧ (∀ k, k ≠ 23 → m k = μ k) ∧ (∀ b, b < 100 → m 23 b = if b < i then drp h b else h b)) (fun x _ => 100 - ix x) ?_ _ _ ⟨0, by omega, rfl, fun k _ => rfl, fun b hb => by rw [if_neg (by omega)]; exact hr b hb⟩
  rintro k x m ⟨i, hi, rfl, hO, hR⟩ hk
  unfold w_X2_leaveOutLoneOnes_b2
  refine pk_le 100 i (fun c => hp m hO (fun b hb => by rw [hR b hb, if_pos (by omega)])) (fun c => ?_) rfl rfl (by omega) (by omega)
  have e23 : m 23 i = h i := by rw [hR i c, if_neg (by omega)]
  have go : ∀ m2 : Mem, (∀ k, k ≠ 23 → m2 k = m k) → (∀ b, b < 100 → m2 23 b = if b = i then drp h i else m 23 b) → k (nI i + 1) m2 := fun m2 h1 h2 => by
    refine hk _ _ ⟨i + 1, by omega, nIs i, fun k hk => (h1 k hk).trans (hO k hk), fun b hb => ?_⟩ (by rw [nIs, ix_n (by omega), ix_n (by omega)]; omega)
    rw [h2 b hb]
    by_cases z : b = i
    · rw [if_pos z, if_pos (by omega), z]
    · rw [if_neg z, hR b hb]
      by_cases y : b < i
      · rw [if_pos y, if_pos (by omega)]
      · rw [if_neg y, if_neg (by omega)]
  have hg : gtb (m 23) i = gtb h i := by
    cases e : gtb h i
    · refine gtb_no.mpr (fun c h1 h2 => ?_)
      rw [hR c h2, if_neg (by omega)]
      exact gtb_no.mp e c h1 h2
    · obtain ⟨c, h1, h2, h3⟩ := gtb_iff.mp e
      exact gtb_iff.mpr ⟨c, h1, h2, by rw [hR c h2, if_neg (by omega)]; exact h3⟩
  have same : (h i = nI i → gtb h i = true) → k (nI i + 1) m := fun hh => go m (fun k _ => rfl) (fun b hb => by
    by_cases z : b = i
    · rw [if_pos z, z, e23, drp_k hh]
    · rw [if_neg z])
  rw [ix_n (by omega), e23]
  refine ⟨vp_in_nI c (by decide), fun z => same (fun y => absurd y z), fun z => s_hasGreater c (fun g => f_n (by decide) (same (fun _ => hg ▸ g))) (fun g => f_y rfl ⟨vp_in_nI c (by decide), fun m2 em => go m2 (fun k hk => by rw [em, wrA, if_neg hk]) (fun b hb => ?_)⟩)⟩
  rw [em, wrA, if_pos rfl, updA]
  by_cases y : b = i
  · rw [if_pos y, if_pos y, drp_l z (hg ▸ g)]
  · rw [if_neg y, if_neg y]
/-- the first heaps -/
def q0 (cb cs : Nat → Int32) (n b : Nat) : Nat → Bool := fun c => thr cb n c && decide (cs c = cs b)
def al0 (cb cs : Nat → Int32) (n : Nat) : Nat → Bool := fun b => !decide (cs b ≤ 0) && thr cb n b
def h0 (cb cs : Nat → Int32) (n nb : Nat) : Nat → Int32 := fun b => if b < nb ∧ al0 cb cs n b = true then fst (q0 cb cs n b) (b + 1) else -1
theorem h0_y {cb cs : Nat → Int32} {n nb b : Nat} (h1 : b < nb) (hnb : nb ≤ 100) (h2 : al0 cb cs n b = true) : ∃ c, c ≤ b ∧ h0 cb cs n nb b = nI c ∧ q0 cb cs n b c = true ∧ ∀ k, k < c → q0 cb cs n b k = false := by
  unfold h0
  rw [if_pos ⟨h1, h2⟩]
  refine fst_last (by omega) ?_
  unfold al0 at h2
  unfold q0
  simp at h2
  simp [h2.2]
theorem h0_n {cb cs : Nat → Int32} {n nb b : Nat} (h2 : ¬ (b < nb ∧ al0 cb cs n b = true)) : h0 cb cs n nb b = -1 := by
  unfold h0
  rw [if_neg h2]
theorem Can.h0 {cb cs : Nat → Int32} {n nb : Nat} (hnb : nb ≤ 100) : Can (h0 cb cs n nb) nb cs := by
  refine ⟨fun b hb => h0_n (fun z => by omega), fun b hb => ?_⟩
  cases e : al0 cb cs n b
  · exact Or.inl (h0_n (fun z => by rw [e] at z; cases z.2))
  · obtain ⟨c, h1, h2, h3, h4⟩ := h0_y hb hnb e
    refine Or.inr ⟨c, h1, h2, ?_, ?_⟩
    · unfold q0 at h3
      simp at h3
      have hal : al0 cb cs n c = true := by
        unfold al0 at e ⊢
        simp at e ⊢
        rw [h3.2]
        exact ⟨e.1, h3.1⟩
      obtain ⟨c', q1, q2, q3, q4⟩ := h0_y (nb := nb) (by omega) hnb hal
      have : c' = c := by
        rcases Nat.lt_or_ge c' c with z | z
        · have := h4 c' z
          unfold q0 at this q3
          rw [h3.2] at q3
          rw [q3] at this
          cases this
        · omega
      rw [← this]
      rw [this] at q2 ⊢
      exact q2
    · unfold q0 at h3
      simp at h3
      exact h3.2
theorem s_leastOfSize {post : Int32 → Mem → Prop} {μ : Mem} {cb cs : Nat → Int32} {n nb b : Nat} (hb : b < nb) (hnb : nb ≤ 100) (ha : al0 cb cs n b = true) (h19 : μ 19 = cs) (hr : ∀ c, c < b → μ 23 c = h0 cb cs n nb c) (h : post (h0 cb cs n nb b) μ) : w_X2_leastOfSize post (nI b) μ := by
  obtain ⟨c0, g1, g2, g3, g4⟩ := h0_y hb hnb ha
  rw [g2] at h
  unfold w_X2_leastOfSize
  refine wl2 (fun x y m => x = nI b ∧ m = μ ∧ ∃ i, i ≤ c0 ∧ y = nI i) (fun _ y _ => b - ix y) ?_ _ _ _ ⟨rfl, rfl, 0, by omega, rfl⟩
  rintro k x y m ⟨rfl, rfl, i, hi, rfl⟩ hk
  unfold w_X2_leastOfSize_b2
  rw [ix_n (by omega), ix_n (by omega), h19]
  have ha' : ¬ cs b ≤ 0 := by unfold al0 at ha; simp at ha; exact Int32.not_le.mpr ha.1
  refine pk_le b i (fun c => by rw [show b = c0 by omega]; exact h) (fun c => ?_) rfl rfl (by omega) (by omega)
  have hin : vp_in (nI i) 100 := vp_in_nI (by omega) (by decide)
  have alq : ∀ j, j < b → (cs j = cs b) → (al0 cb cs n j = thr cb n j) := fun j _ e => by
    unfold al0; rw [e]; simp [ha']
  have nx : i < c0 → k (nI b) (nI i + 1) m := fun z => hk _ _ _ ⟨rfl, rfl, i + 1, z, nIs i⟩ (by rw [nIs, ix_n (by omega), ix_n (by omega)]; omega)
  have hne : i ≠ c0 → i < c0 := fun z => by omega
  refine ⟨hin, fun z => nx (hne (fun e => ?_)), fun z => ⟨hin, vp_in_nI (by omega) (by decide), fun z2 => nx (hne (fun e => ?_)), fun z2 => ?_⟩⟩
  · subst e
    unfold q0 at g3
    simp at g3
    have hal := (alq i c g3.2).trans g3.1
    obtain ⟨c', q1, q2, -⟩ := h0_y (nb := nb) (by omega) hnb hal
    rw [hr i c, q2] at z
    exact nI_m1 (by omega) z
  · subst e
    unfold q0 at g3
    simp at g3
    exact z2 g3.2
  · have hal : al0 cb cs n i = true := by
      cases e : al0 cb cs n i
      · exact absurd (by rw [hr i c]; exact h0_n (fun y => by rw [e] at y; cases y.2)) z
      · rfl
    have hq : q0 cb cs n b i = true := by
      unfold q0
      rw [← alq i c z2, hal, decide_eq_true z2]; rfl
    have : i = c0 := by
      rcases Nat.lt_or_ge i c0 with y | y
      · rw [g4 i y] at hq; cases hq
      · omega
    rw [this]; exact h
theorem s_heapBySize {post : Mem → Prop} {μ : Mem} {n nb : Nat} (h2 : μ 2 4 = nI n) (hn : n ≤ 60) (h3 : μ 3 4 = nI nb) (hnb : nb ≤ 100) (hp : ∀ m : Mem, (∀ k, k ≠ 23 → m k = μ k) → (∀ b, b < 100 → m 23 b = drp (h0 (μ 16) (μ 19) n nb) b) → post m) : w_X2_heapBySize post μ := by
  unfold w_X2_heapBySize w_fill
  intro m0 em0
  refine wl1 (fun x m => ∃ i, i ≤ nb ∧ x = nI i ∧ (∀ k, k ≠ 23 → m k = μ k) ∧ (∀ b, b < 100 → m 23 b = if b < i then h0 (μ 16) (μ 19) n nb b else -1)) (fun x _ => nb - ix x) ?_ _ _ ⟨0, by omega, rfl, fun k hk => by rw [em0]; exact wrow_n hk, fun b hb => by rw [em0]; unfold frow; rw [wrow_r, if_pos hb, if_neg (by omega)]⟩
  rintro k x m ⟨i, hi, rfl, hO, hR⟩ hk
  unfold w_X2_heapBySize_b10
  have g3 : m 3 4 = nI nb := by rw [hO 3 (by decide)]; exact h3
  have g2 : m 2 4 = nI n := by rw [hO 2 (by decide)]; exact h2
  refine pk_le nb i (fun c => s_leaveOut (Can.h0 hnb) hnb (fun b hb => ?_) (fun m2 q1 q2 => hp m2 (fun k hk => (q1 k hk).trans (hO k hk)) q2)) (fun c => ?_) g3 rfl (by omega) (by omega)
  · rw [hR b hb]
    by_cases z : b < i
    · rw [if_pos z]
    · rw [if_neg z, h0_n (fun y => by omega)]
  · have hin : vp_in (nI i) 100 := vp_in_nI (by omega) (by decide)
    have go : ∀ m2 : Mem, (∀ k, k ≠ 23 → m2 k = m k) → (∀ b, b < 100 → m2 23 b = if b = i then h0 (μ 16) (μ 19) n nb i else m 23 b) → k (nI i + 1) m2 := fun m2 q1 q2 => by
      refine hk _ _ ⟨i + 1, by omega, nIs i, fun k hk => (q1 k hk).trans (hO k hk), fun b hb => ?_⟩ (by rw [nIs, ix_n (by omega), ix_n (by omega)]; omega)
      rw [q2 b hb]
      by_cases z : b = i
      · rw [if_pos z, if_pos (by omega), z]
      · rw [if_neg z, hR b hb]
        by_cases y : b < i
        · rw [if_pos y, if_pos (by omega)]
        · rw [if_neg y, if_neg (by omega)]
    have same : al0 (μ 16) (μ 19) n i = false → k (nI i + 1) m := fun hh => go m (fun k _ => rfl) (fun b hb => by
      by_cases z : b = i
      · rw [if_pos z, z, hR i (by omega), if_neg (by omega), h0_n (fun y => by rw [hh] at y; cases y.2)]
      · rw [if_neg z])
    rw [ix_n (by omega), hO 19 (by decide)]
    refine ⟨hin, fun z => same (by unfold al0; simp [z]), fun z => s_X1_having g2 hn ?_⟩
    rw [hO 16 (by decide)]
    have hle : hav (μ 16) n (nI i) ≤ n := ct_le _ _
    refine pk_le _ 0 (fun c2 => same ?_) (fun c2 => ?_) rfl rfl (by omega) (by omega)
    · unfold al0 thr
      rw [decide_eq_false (show ¬ 0 < hav (μ 16) n (nI i) by omega), Bool.and_false]
    · have ha : al0 (μ 16) (μ 19) n i = true := by
        unfold al0 thr
        rw [decide_eq_true c2, decide_eq_false z]; rfl
      refine s_leastOfSize c hnb ha (hO 19 (by decide)) (fun b hb => by rw [hR b (by omega), if_pos hb]) ⟨hin, fun m2 em => go m2 (fun k hk => by rw [em, wrA, if_neg hk]) (fun b hb => ?_)⟩
      rw [em, wrA, if_pos rfl, updA]
/-- the heaps parted by a block -/
def tob (cs : Nat → Int32) (f b : Nat) : Nat := if cs b < nI (f + 8) then ix (cs b) else f + 8
def pb (h cs my : Nat → Int32) (f b : Nat) : Nat → Bool := fun c => decide (h c = h b) && alk my c b f (tob cs f b)
def blk (h cs my : Nat → Int32) (f : Nat) : Nat → Int32 := fun b => if h b = -1 ∨ cs b ≤ nI f then h b else fst (pb h cs my f b) (b + 1)
theorem blk_k {h cs my : Nat → Int32} {f b : Nat} (hh : h b = -1 ∨ cs b ≤ nI f) : blk h cs my f b = h b := by unfold blk; rw [if_pos hh]
theorem pb_self (h cs my : Nat → Int32) (f b : Nat) : pb h cs my f b b = true := by
  unfold pb
  rw [alk_iff.mpr (fun k _ _ => rfl), decide_eq_true rfl]; rfl
theorem blk_y {h cs my : Nat → Int32} {f b : Nat} (hb : b < 100) (h1 : ¬ h b = -1) (h2 : ¬ cs b ≤ nI f) : ∃ c, c ≤ b ∧ blk h cs my f b = nI c ∧ pb h cs my f b c = true ∧ ∀ k, k < c → pb h cs my f b k = false := by
  unfold blk
  rw [if_neg (fun z => by rcases z with z | z; exact h1 z; exact h2 z)]
  exact fst_last (by omega) (pb_self h cs my f b)
theorem Can.blk {h cs my : Nat → Int32} {nb : Nat} (hnb : nb ≤ 100) (f : Nat) (H : Can h nb cs) : Can (blk h cs my f) nb cs := by
  refine ⟨fun b hb => by rw [blk_k (Or.inl (H.1 b hb))]; exact H.1 b hb, fun b hb => ?_⟩
  rcases H.2 b hb with e | ⟨r, hr, e1, e2, e3⟩
  · exact Or.inl (by rw [blk_k (Or.inl e)]; exact e)
  · right
    have hne : ¬ h b = -1 := by rw [e1]; exact nI_m1 (by omega)
    by_cases hs : cs b ≤ nI f
    · exact ⟨r, hr, by rw [blk_k (Or.inr hs)]; exact e1, by rw [blk_k (Or.inr (by rw [e3]; exact hs))]; exact e2, e3⟩
    · obtain ⟨c, g1, g2, g3, g4⟩ := blk_y (my := my) (by omega) hne hs
      unfold pb at g3
      rw [Bool.and_eq_true] at g3
      have hc : h c = h b := of_decide_eq_true g3.1
      obtain ⟨r', hr', y1, y2, y3⟩ : ∃ r, r ≤ c ∧ h c = nI r ∧ h r = nI r ∧ cs r = cs c := by
        rcases H.2 c (by omega) with z | z
        · rw [hc] at z; exact absurd z hne
        · exact z
      have hrr : r' = r := (nI_eq (by omega) (by omega)).mp (by rw [← y1, hc, e1])
      subst hrr
      have hcs : cs c = cs b := y3.symm.trans e3
      have hto : tob cs f c = tob cs f b := by unfold tob; rw [hcs]
      refine ⟨c, g1, g2, ?_, hcs⟩
      obtain ⟨c', q1, q2, q3, q4⟩ := blk_y (h := h) (cs := cs) (my := my) (f := f) (b := c) (by omega) (by rw [hc]; exact hne) (by rw [hcs]; exact hs)
      have : c' = c := by
        rcases Nat.lt_or_ge c' c with z | z
        · have := g4 c' z
          unfold pb at this q3
          rw [Bool.and_eq_true, hto, alk_iff] at q3
          have ht : alk my c' b f (tob cs f b) = true := alk_iff.mpr (fun k k1 k2 => (q3.2 k k1 k2).trans (alk_iff.mp g3.2 k k1 k2))
          rw [ht, ← hc, q3.1] at this
          cases this
        · omega
      rw [← this]
      rw [this] at q2 ⊢
      exact q2
theorem pb_lo {h cs my : Nat → Int32} {nb f b r : Nat} (hnb : nb ≤ 100) (H : Can h nb cs) (hb : b < nb) (e : h b = nI r) {k : Nat} (hk : k < r) (hr : r < 100) : pb h cs my f b k = false := by
  unfold pb
  have : ¬ h k = h b := fun z => by
    rw [e] at z
    rcases H.c k with y | ⟨-, r', h1, h2, -⟩
    · rw [y] at z; exact nI_m1 (by omega) z.symm
    · rw [h2] at z
      have := (nI_eq (by omega) (by omega)).mp z
      omega
  rw [decide_eq_false this]; rfl
theorem tob_le {cs : Nat → Int32} {f b s : Nat} (hs : cs b = nI s) (hs2 : s ≤ 64) (hf : f ≤ 56) : tob cs f b ≤ 64 ∧ tob cs f b = (if s < f + 8 then s else f + 8) := by
  unfold tob
  rw [hs]
  by_cases c : s < f + 8
  · rw [if_pos (nI_lt c (by omega)), if_pos c, ix_n (by omega)]; exact ⟨hs2, rfl⟩
  · rw [if_neg (nI_nlt (by omega) (by omega)), if_neg c]; exact ⟨by omega, rfl⟩
theorem s_leastOfBlock {post : Int32 → Mem → Prop} {μ : Mem} {h cs my : Nat → Int32} {nb f b s : Nat} (hnb : nb ≤ 100) (H : Can h nb cs) (hb : b < nb) (hf : f ≤ 56) (hs : cs b = nI s) (hs2 : s ≤ 64) (h19 : μ 19 = cs) (h24 : ∀ c, c < 100 → μ 24 c = h c) (hy : ∀ j, j < 6400 → my j = μ 18 j &&& 255) (h1 : ¬ h b = -1) (h2 : ¬ cs b ≤ nI f) (hp : post (blk h cs my f b) μ) : w_X2_leastOfBlock post (nI b) (nI f) μ := by
  obtain ⟨c0, g1, g2, g3, g4⟩ := blk_y (my := my) (b := b) (by omega) h1 h2
  rw [g2] at hp
  obtain ⟨r, hr, e1⟩ : ∃ r, r ≤ b ∧ h b = nI r := by
    rcases H.c b with y | ⟨-, r, y1, y2, -⟩
    · exact absurd y h1
    · exact ⟨r, y1, y2⟩
  have hrc : r ≤ c0 := by
    rcases Nat.lt_or_ge c0 r with z | z
    · rw [pb_lo hnb H hb e1 z (by omega)] at g3; cases g3
    · exact z
  obtain ⟨t1, t2⟩ := tob_le hs hs2 hf
  unfold w_X2_leastOfBlock
  have hinb : vp_in (nI b) 100 := vp_in_nI (by omega) (by decide)
  rw [ix_n (by omega), h19, h24 b (by omega), e1, show (8 : Int32) = nI 8 from rfl, nI_add, hs]
  have et : (if nI s < nI (f + 8) then nI s else nI (f + 8)) = nI (tob cs f b) := by
    rw [t2]
    by_cases c : s < f + 8
    · rw [if_pos (nI_lt c (by omega)), if_pos c]
    · rw [if_neg (nI_nlt (by omega) (by omega)), if_neg c]
  rw [et]
  refine ⟨hinb, hinb, ?_⟩
  refine wl4 (fun x y z u m => x = nI b ∧ y = nI f ∧ z = nI (tob cs f b) ∧ m = μ ∧ ∃ i, r ≤ i ∧ i ≤ c0 ∧ u = nI i) (fun _ _ _ u _ => b - ix u) ?_ _ _ _ _ _ ⟨rfl, rfl, rfl, rfl, r, Nat.le_refl _, hrc, rfl⟩
  rintro k x y z u m ⟨rfl, rfl, rfl, rfl, i, hi1, hi2, rfl⟩ hk
  unfold w_X2_leastOfBlock_b23
  rw [ix_n (by omega), ix_n (by omega)]
  refine pk_le b i (fun c => by rw [show b = c0 by omega]; exact hp) (fun c => ?_) rfl rfl (by omega) (by omega)
  rw [h24 i (by omega), h24 b (by omega)]
  have nx : pb h cs my f b i = false → k (nI b) (nI f) (nI (tob cs f b)) (nI i + 1) m := fun z => by
    have : i < c0 := by
      rcases Nat.lt_or_ge i c0 with y | y
      · exact y
      · rw [show i = c0 by omega, g3] at z; cases z
    exact hk _ _ _ _ _ ⟨rfl, rfl, rfl, rfl, i + 1, by omega, this, nIs i⟩ (by rw [nIs, ix_n (by omega), ix_n (by omega)]; omega)
  refine ⟨vp_in_nI (by omega) (by decide), hinb, fun z => nx (by unfold pb; rw [decide_eq_false z]; rfl), fun z => s_alike_c (my := my) (by omega) (by omega) t1 (by omega) hy (fun a => t_n (by decide) ?_) (fun a => t_y rfl (nx (by unfold pb; rw [a, Bool.and_false])))⟩
  have hq : pb h cs my f b i = true := by unfold pb; rw [a, decide_eq_true z]; rfl
  have : i = c0 := by
    rcases Nat.lt_or_ge i c0 with y | y
    · rw [g4 i y] at hq; cases hq
    · omega
  rw [this]; exact hp
/-- blocks read in one go -/
def rdp (h cs : Nat → Int32) (f : Nat) : Nat → Bool := fun b => !decide (h b = -1) && !decide (cs b ≤ nI f)
theorem s_partByBlock {post : Mem → Prop} {μ : Mem} {h cs my : Nat → Int32} {nb f : Nat} (h3 : μ 3 4 = nI nb) (hnb : nb ≤ 100) (H : Can h nb cs) (hf : f ≤ 56) (hs : ∀ b, b < 100 → ∃ s, s ≤ 64 ∧ cs b = nI s) (h19 : μ 19 = cs) (h23 : ∀ c, c < 100 → μ 23 c = h c) (hy : ∀ j, j < 6400 → my j = μ 18 j &&& 255) (hp : ∀ m : Mem, (∀ k, k ≠ 4 → k ≠ 23 → k ≠ 24 → m k = μ k) → (∀ b, b < 100 → m 23 b = drp (blk h cs my f) b) → m 4 4 = μ 4 4 + nI (ct (rdp h cs f) nb) → m 4 3 = μ 4 3 → post m) : w_X2_partByBlock post (nI f) μ := by
  unfold w_X2_partByBlock
  rw [show ix (0 : Int32) = 0 from rfl, show ix (100 : Int32) = 100 from rfl]
  refine ⟨⟨by decide, by decide, by decide, by decide, by decide, fun i _ => rfl⟩, fun m0 em0 => ?_⟩
  refine wl2 (fun x y m => x = nI f ∧ ∃ i, i ≤ nb ∧ y = nI i ∧ (∀ k, k ≠ 4 → k ≠ 23 → k ≠ 24 → m k = μ k) ∧ (∀ b, b < 100 → m 23 b = if b < i then blk h cs my f b else h b) ∧ (∀ b, b < 100 → m 24 b = h b) ∧ m 4 4 = μ 4 4 + nI (ct (rdp h cs f) i) ∧ m 4 3 = μ 4 3) (fun _ y _ => nb - ix y) ?_ _ _ _ ⟨rfl, 0, by omega, rfl, fun k _ _ hk => by rw [em0]; exact wrow_n hk, fun b hb => by rw [em0, wrow_n (by decide), if_neg (by omega)]; exact h23 b hb, fun b hb => by rw [em0, wrow_r, pk_cpy_in (by omega) (by omega)]; rw [show 0 + (b - 0) = b by omega]; exact h23 b hb, by rw [em0, wrow_n (by decide)]; show _ = _ + (0 : Int32); rw [Int32.add_zero], by rw [em0, wrow_n (by decide)]⟩
  rintro k x y m ⟨rfl, i, hi, rfl, hO, hR, hB, hD, hE⟩ hk
  unfold w_X2_partByBlock_b17
  have g3 : m 3 4 = nI nb := by rw [hO 3 (by decide) (by decide) (by decide)]; exact h3
  have g19 : m 19 = cs := by rw [hO 19 (by decide) (by decide) (by decide)]; exact h19
  refine pk_le nb i (fun c => s_leaveOut (H.blk hnb f) hnb (fun b hb => ?_) (fun m2 q1 q2 => hp m2 (fun k h1 h2 h4 => (q1 k h2).trans (hO k h1 h2 h4)) q2 ?_ ?_)) (fun c => ?_) g3 rfl (by omega) (by omega)
  · rw [hR b hb]
    by_cases z : b < i
    · rw [if_pos z]
    · rw [if_neg z, blk_k (Or.inl (H.1 b (by omega)))]
  · rw [q1 4 (by decide), hD, show i = nb by omega]
  · rw [q1 4 (by decide), hE]
  · have hin : vp_in (nI i) 100 := vp_in_nI (by omega) (by decide)
    obtain ⟨s, hs1, hs2⟩ := hs i (by omega)
    have same : (h i = -1 ∨ cs i ≤ nI f) → k (nI f) (nI i + 1) m := fun hh => by
      refine hk _ _ _ ⟨rfl, i + 1, by omega, nIs i, hO, fun b hb => ?_, hB, ?_, hE⟩ (by rw [nIs, ix_n (by omega), ix_n (by omega)]; omega)
      · rw [hR b hb]
        by_cases z : b = i
        · rw [z, if_neg (by omega), if_pos (by omega), blk_k hh]
        · by_cases y : b < i
          · rw [if_pos y, if_pos (by omega)]
          · rw [if_neg y, if_neg (by omega)]
      · rw [hD, ct_f (by unfold rdp; rcases hh with hh | hh <;> simp [hh])]
    rw [ix_n (by omega), hB i (by omega), g19]
    refine ⟨hin, fun z => same (Or.inl z), fun z => ⟨hin, fun z2 => same (Or.inr z2), fun z2 m2 em => ?_⟩⟩
    have r2 : ∀ k, k ≠ 4 → m2 k = m k := fun k hk => by rw [em, wrA, if_neg hk]
    refine s_leastOfBlock (h := h) (cs := cs) (my := my) hnb H c hf hs2 hs1 (by rw [r2 19 (by decide)]; exact g19) (fun b hb => by rw [r2 24 (by decide)]; exact hB b hb) (fun j hj => by rw [r2 18 (by decide), hO 18 (by decide) (by decide) (by decide)]; exact hy j hj) z z2 ⟨hin, fun m3 em3 => ?_⟩
    refine hk _ _ _ ⟨rfl, i + 1, by omega, nIs i, fun k h1 h2 h4 => by rw [em3, wrA, if_neg h2, r2 k h1]; exact hO k h1 h2 h4, fun b hb => ?_, fun b hb => by rw [em3, wrA, if_neg (by decide), r2 24 (by decide)]; exact hB b hb, ?_, ?_⟩ (by rw [nIs, ix_n (by omega), ix_n (by omega)]; omega)
    · rw [em3, wrA, if_pos rfl, updA, r2 23 (by decide)]
      by_cases y : b = i
      · rw [if_pos y, if_pos (by omega), y]
      · rw [if_neg y, hR b hb]
        by_cases y2 : b < i
        · rw [if_pos y2, if_pos (by omega)]
        · rw [if_neg y2, if_neg (by omega)]
    · rw [em3, wrA, if_neg (by decide), em, wrA, if_pos rfl, updA, if_pos rfl, hD, ct_t (by unfold rdp; simp [z, z2]), Int32.add_assoc, nIs]
    · rw [em3, wrA, if_neg (by decide), em, wrA, if_pos rfl, updA, if_neg (by decide), hE]
/-- the heaps after k blocks, the blocks read -/
def fnd (cb cs my : Nat → Int32) (n nb : Nat) : Nat → Nat → Int32
  | 0 => drp (h0 cb cs n nb)
  | k + 1 => drp (blk (fnd cb cs my n nb k) cs my (8 * k))
def rds (cb cs my : Nat → Int32) (n nb : Nat) : Nat → Int32
  | 0 => 0
  | k + 1 => rds cb cs my n nb k + nI (ct (rdp (fnd cb cs my n nb k) cs (8 * k)) nb)
theorem fnd_c {cb cs my : Nat → Int32} {n nb : Nat} (hnb : nb ≤ 100) : ∀ k, Can (fnd cb cs my n nb k) nb cs
  | 0 => (Can.h0 hnb).drp hnb
  | k + 1 => ((fnd_c hnb k).blk hnb _).drp hnb
/-- the groups' numbers -/
def isr (h : Nat → Int32) : Nat → Bool := fun b => decide (h b = nI b)
def grp (h : Nat → Int32) (b : Nat) : Int32 := if h b = -1 then -1 else nI (ct (isr h) (ix (h b)))
theorem ct_isr {h cs : Nat → Int32} {nb : Nat} (H : Can h nb cs) (hnb : nb ≤ 100) : ct (isr h) 100 = ct (isr h) nb := by
  have : ∀ d, nb + d ≤ 100 → ct (isr h) (nb + d) = ct (isr h) nb := by
    intro d
    induction d with
    | zero => intro _; rfl
    | succ d ih =>
      intro hd
      rw [show nb + (d + 1) = (nb + d) + 1 by omega, ct_f (by unfold isr; rw [H.1 _ (by omega)]; exact decide_eq_false (fun z => nI_m1 (by omega) z.symm)), ih (by omega)]
  have h2 := this (100 - nb) (by omega)
  rw [show nb + (100 - nb) = 100 by omega] at h2
  exact h2
theorem s_numberGroups {post : Mem → Prop} {μ : Mem} {h cs : Nat → Int32} {nb : Nat} (H : Can h nb cs) (hnb : nb ≤ 100) (h23 : ∀ c, c < 100 → μ 23 c = h c) (hp : ∀ m : Mem, (∀ k, k ≠ 4 → k ≠ 22 → m k = μ k) → (∀ b, b < 100 → m 22 b = grp h b) → m 4 3 = nI (ct (isr h) nb) → m 4 4 = μ 4 4 → post m) : w_X2_numberGroups post μ := by
  unfold w_X2_numberGroups
  intro m0 em0
  refine wl1 (fun x m => ∃ i, i ≤ 100 ∧ x = nI i ∧ (∀ k, k ≠ 4 → k ≠ 22 → m k = μ k) ∧ (∀ b, b < i → m 22 b = grp h b) ∧ m 4 3 = nI (ct (isr h) i) ∧ m 4 4 = μ 4 4) (fun x _ => 100 - ix x) ?_ _ _ ⟨0, by omega, rfl, fun k hk _ => by rw [em0, wrA, if_neg hk], fun b hb => absurd hb (Nat.not_lt_zero b), by rw [em0]; simp [wrA, updA]; rfl, by rw [em0]; simp [wrA, updA]⟩
  rintro k x m ⟨i, hi, rfl, hO, hR, hG, hE⟩ hk
  unfold w_X2_numberGroups_b7
  refine pk_le 100 i (fun c => hp m hO (fun b hb => hR b (by omega)) (by rw [hG, show i = 100 by omega, ct_isr H hnb]) hE) (fun c => ?_) rfl rfl (by omega) (by omega)
  have hin : vp_in (nI i) 100 := vp_in_nI (by omega) (by decide)
  rw [ix_n (by omega), hO 23 (by decide) (by decide), h23 i c]
  have go : ∀ m2 : Mem, (∀ k, k ≠ 4 → k ≠ 22 → m2 k = m k) → m2 22 = upd (m 22) i (grp h i) → m2 4 3 = nI (ct (isr h) (i + 1)) → m2 4 4 = m 4 4 → k (nI i + 1) m2 := fun m2 q1 q2 q3 q4 => by
    refine hk _ _ ⟨i + 1, by omega, nIs i, fun k h1 h2 => (q1 k h1 h2).trans (hO k h1 h2), fun b hb => ?_, q3, q4.trans hE⟩ (by rw [nIs, ix_n (by omega), ix_n (by omega)]; omega)
    rw [q2, updA]
    by_cases y : b = i
    · rw [if_pos y, y]
    · rw [if_neg y, hR b (by omega)]
  refine ⟨hin, fun z => ⟨fun z2 => ?_, fun z2 => ⟨hin, fun m2 em m3 em3 => ?_⟩⟩, fun z => ⟨hin, fun m2 em => ?_⟩⟩
  · obtain ⟨r, hr, e1, e2⟩ : ∃ r, r ≤ i ∧ h i = nI r ∧ h r = nI r := by
      rcases H.c i with y | ⟨-, r, y1, y2, y3, -⟩
      · exact absurd y z
      · exact ⟨r, y1, y2, y3⟩
    have hri : r ≠ i := fun y => z2 (by rw [e1, y])
    have eg : grp h i = m 22 r := by
      rw [hR r (by omega)]
      unfold grp
      rw [if_neg z, e1, e2, if_neg (nI_m1 (by omega))]
    rw [e1, ix_n (by omega)]
    refine ⟨vp_in_nI (by omega) (by decide), hin, fun m2 em => go m2 (fun k h1 h2 => by rw [em, wrA, if_neg h2]) ?_ ?_ ?_⟩
    · rw [em, wrA, if_pos rfl, eg]
    · rw [em, wrA, if_neg (by decide), hG, ct_f (by unfold isr; exact decide_eq_false z2)]
    · rw [em, wrA, if_neg (by decide)]
  · have e43 : m2 4 3 = nI (ct (isr h) i) := by rw [em, wrA, if_neg (by decide)]; exact hG
    refine go m3 (fun k h1 h2 => by rw [em3, wrA, if_neg h1, em, wrA, if_neg h2]) ?_ ?_ ?_
    · rw [em3, wrA, if_neg (by decide), em, wrA, if_pos rfl, hG]
      congr 1
      unfold grp
      rw [if_neg z, z2, ix_n (by omega)]
    · rw [em3, wrA, if_pos rfl, updA, if_pos rfl, e43, nIs, ct_t (by unfold isr; exact decide_eq_true z2)]
    · rw [em3, wrA, if_pos rfl, updA, if_neg (by decide), em, wrA, if_neg (by decide)]
  · refine go m2 (fun k h1 h2 => by rw [em, wrA, if_neg h2]) ?_ ?_ ?_
    · rw [em, wrA, if_pos rfl]
      congr 1
      unfold grp
      rw [if_pos z]
    · rw [em, wrA, if_neg (by decide), hG, ct_f (by unfold isr; rw [z]; exact decide_eq_false (fun y => nI_m1 (by omega) y.symm))]
    · rw [em, wrA, if_neg (by decide)]
theorem s_find_c {post : Int32 → Mem → Prop} {μ : Mem} {my : Nat → Int32} {n nb : Nat} (h2 : μ 2 4 = nI n) (hn : n ≤ 60) (h3 : μ 3 4 = nI nb) (hnb : nb ≤ 100) (hs : ∀ b, b < 100 → ∃ s, s ≤ 64 ∧ μ 19 b = nI s) (hy : ∀ j, j < 6400 → my j = μ 18 j &&& 255) (hp : ∀ m : Mem, (∀ k, k ≠ 4 → k ≠ 22 → k ≠ 23 → k ≠ 24 → m k = μ k) → (∀ b, b < 100 → m 22 b = grp (fnd (μ 16) (μ 19) my n nb 8) b) → m 4 3 = nI (ct (isr (fnd (μ 16) (μ 19) my n nb 8)) nb) → m 4 4 = rds (μ 16) (μ 19) my n nb 8 → post (nI (ct (isr (fnd (μ 16) (μ 19) my n nb 8)) nb)) m) : w_X7_find post μ := by
  unfold w_X7_find w_X2_search
  refine s_heapBySize h2 hn h3 hnb (fun m1 q1 q2 m2 em2 => ?_)
  refine wl1 (fun x m => ∃ i, i ≤ 8 ∧ x = nI (8 * i) ∧ (∀ k, k ≠ 4 → k ≠ 23 → k ≠ 24 → m k = μ k) ∧ (∀ b, b < 100 → m 23 b = fnd (μ 16) (μ 19) my n nb i b) ∧ m 4 4 = rds (μ 16) (μ 19) my n nb i) (fun x _ => 64 - ix x) ?_ _ _ ⟨0, by omega, rfl, fun k h1 h2 _ => by rw [em2, wrA, if_neg h1]; exact q1 k h2, fun b hb => by rw [em2, wrA, if_neg (by decide)]; exact q2 b hb, by rw [em2]; simp [wrA, updA]; rfl⟩
  rintro k x m ⟨i, hi, rfl, hO, hR, hD⟩ hk
  unfold w_X2_search_b13
  refine pk_le 64 (8 * i) (fun c => ?_) (fun c => ?_) rfl rfl (by omega) (by omega)
  · have : i = 8 := by omega
    subst this
    refine s_numberGroups (fnd_c hnb 8) hnb hR (fun m' r1 r2 r3 r4 => ?_)
    show post (m' 4 3) m'
    have := hp m' (fun k h1 h2 h3 h4 => (r1 k h1 h2).trans (hO k h1 h3 h4)) r2 r3 (r4.trans hD)
    rw [r3]; exact this
  · refine s_partByBlock (my := my) (by rw [hO 3 (by decide) (by decide) (by decide)]; exact h3) hnb (fnd_c hnb i) (by omega) hs (hO 19 (by decide) (by decide) (by decide)) hR (fun j hj => by rw [hO 18 (by decide) (by decide) (by decide)]; exact hy j hj) (fun m' r1 r2 r3 r4 => ?_)
    refine hk _ _ ⟨i + 1, by omega, ?_, fun k h1 h2 h3 => (r1 k h1 h2 h3).trans (hO k h1 h2 h3), r2, ?_⟩ ?_
    · rw [show (8 : Int32) = nI 8 from rfl, nI_add]; congr 1
    · rw [r3, hD]; rfl
    · rw [show (8 : Int32) = nI 8 from rfl, nI_add, ix_n (by omega), ix_n (by omega)]; omega
