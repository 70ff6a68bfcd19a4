/-- what lies outside the gathered row -/
def Of5 (μ μ' : Mem) : Prop := ∀ k, k ≠ 5 → k ≠ 25 → μ' k = μ k
theorem Of5.wr {μ : Mem} (r : Nat → Int32) (v : Int32) : Of5 μ (wr (wrow μ 25 r) 5 1 v) := fun k h1 h2 => by rw [wrA, if_neg h1, wrow_n h2]
theorem s_add_5 {post : Mem → Prop} {μ : Mem} {x : Int32} {m : Nat} (hm : μ 5 1 = nI m) (hm2 : m ≤ 60) (hs : ∀ i j, i < j → j < m → μ 25 i < μ 25 j) (hy : hasB (μ 25) x m = true → post μ) (hn : ∀ p, p ≤ m → (∀ j, j < p → μ 25 j < x) → (p < m → x < μ 25 p) → post (wr (wrow μ 25 (insr (μ 25) m p x)) 5 1 (nI (m + 1)))) : w_X5_add_5 post x μ := by
  unfold w_X5_add_5
  refine wl2 (fun u v m' => u = x ∧ m' = μ ∧ ∃ i, i ≤ m ∧ v = nI i ∧ ∀ j, j < i → μ 25 j < x) (fun _ v _ => m - ix v) ?_ _ _ _ ⟨rfl, rfl, 0, by omega, rfl, fun j hj => absurd hj (Nat.not_lt_zero j)⟩
  rintro k u v m' ⟨rfl, rfl, i, hi, rfl, hpre⟩ hk
  have ins : (i < m → u < m' 25 i) → w_X5_add_5_b45 post u (nI i) m' := fun hlt => by
    have fin := hn i hi hpre hlt
    unfold w_X5_add_5_b45
    rw [hm]
    refine wl3 (fun a b c m2 => a = u ∧ b = nI i ∧ ∃ e, i ≤ e ∧ e ≤ m ∧ c = nI e ∧ m2 = wrow m' 25 (shf (m' 25) m e)) (fun _ _ c _ => ix c) ?_ _ _ _ _ ⟨rfl, rfl, m, hi, Nat.le_refl _, rfl, by rw [shf_0, wrow_id]⟩
    rintro kk a b c m2 ⟨rfl, rfl, e, h1, h2, rfl, rfl⟩ hkk
    unfold w_X5_add_5_b50
    refine pk_le e i (fun z => ⟨vp_in_nI (by omega) (by decide), fun y1 g1 y2 g2 => ?_⟩) (fun z => ?_) rfl rfl (by omega) (by omega)
    · have : e = i := by omega
      subst this
      rw [ix_n (by omega), wr_wrow] at g1
      have h3 : y1 5 1 = nI m := by rw [g1, wrow_n (by decide)]; exact hm
      rw [h3, nIs] at g2
      rw [g2, g1]
      exact fin
    · obtain ⟨e', rfl⟩ : ∃ e', e = e' + 1 := ⟨e - 1, by omega⟩
      rw [nI_pred]
      refine ⟨vp_in_nI (by omega) (by decide), vp_in_nI (by omega) (by decide), fun y1 g1 => ?_⟩
      rw [ix_n (by omega), ix_n (by omega), wr_wrow, wrow_r, shf_s _ (by omega)] at g1
      refine hkk _ _ _ _ ⟨rfl, rfl, e', by omega, by omega, pk_m1 e', g1⟩ (by rw [pk_m1, ix_n (by omega), ix_n (by omega)]; omega)
  have b26 : (i < m → u ≤ m' 25 i) → w_X5_add_5_b26 post u (nI i) m' := fun hle => by
    unfold w_X5_add_5_b26
    refine pk_le m i (fun z => ins (fun y => by omega)) (fun z => ?_) hm rfl (by omega) (by omega)
    rw [ix_n (by omega)]
    refine ⟨vp_in_nI (by omega) (by decide), fun z2 => ins (fun y => ?_), fun z2 => hy (hasB_iff.mpr ⟨i, z, z2⟩)⟩
    rcases Int32.lt_or_eq_of_le (hle y) with z3 | z3
    · exact z3
    · exact absurd z3.symm z2
  unfold w_X5_add_5_b2
  refine pk_le m i (fun z => b26 (fun y => by omega)) (fun z => ?_) hm rfl (by omega) (by omega)
  rw [ix_n (by omega)]
  refine ⟨vp_in_nI (by omega) (by decide), fun z2 => b26 (fun _ => z2), fun z2 => hk _ _ _ ⟨rfl, rfl, i + 1, z, nIs i, fun j hj => ?_⟩ (by rw [nIs, ix_n (by omega), ix_n (by omega)]; omega)⟩
  rcases Nat.lt_or_ge j i with c | c
  · exact hpre j c
  · rw [show j = i by omega]; exact Int32.not_le.mp z2
theorem s_gather_5 {post : Mem → Prop} {μ : Mem} {b s : Nat} {my : Nat → Int32} (hb : b < 100) (hs : μ 19 b = nI s) (hs2 : s ≤ 64) (hy : ∀ j, j < 6400 → my j = μ 18 j &&& 255) (h : ∀ (R : Nat → Int32) (m : Nat) (μ' : Mem), Of5 μ μ' → μ' 5 1 = nI m → μ' 25 = R → Gth R m (pcs my b) (npc s) → post μ') : w_X5_gather_5 post (nI b) μ := by
  have e2 : ∀ i, i < npc s → i + 4 ≤ s := fun i h => by unfold npc at h; omega
  have e3 : npc s ≤ 61 := by unfold npc; omega
  unfold w_X5_gather_5
  intro m0 em0
  refine wl2 (fun u v m' => u = nI b ∧ ∃ i, i ≤ npc s ∧ v = nI i ∧ Of5 μ m' ∧ ∃ m, m' 5 1 = nI m ∧ Gth (m' 25) m (pcs my b) i) (fun _ v _ => npc s - ix v) ?_ _ _ _ ⟨rfl, 0, by omega, rfl, fun k h1 h2 => by rw [em0, wrA, if_neg h1], 0, by rw [em0]; simp [wrA, updA]; rfl, Nat.le_refl _, fun i j h1 h2 => by omega, fun P => rfl⟩
  rintro k u v m' ⟨rfl, i, hi, rfl, hO, m, hm, hG⟩ hk
  unfold w_X5_gather_5_b7
  have g19 : m' 19 b = nI s := by rw [hO 19 (by decide) (by decide)]; exact hs
  have hmi := hG.1
  rw [ix_n (by omega), g19, show (4 : Int32) = nI 4 from rfl, nI_add]
  refine ⟨vp_in_nI hb (by decide), ?_⟩
  refine pk_lt s (i + 4) (fun c => ?_) (fun c => ?_) rfl rfl (by omega) (by omega)
  · have : i = npc s := by unfold npc at hi ⊢; omega
    rw [this] at hG
    exact h _ m m' hO hm rfl hG
  · have hin : i < npc s := by unfold npc; omega
    refine s_pieceAt (my := my) hb (by omega) (fun j hj => by rw [hO 18 (by decide) (by decide)]; exact hy j hj) ?_
    have go : ∀ m2 : Mem, Of5 μ m2 → (∃ mm, m2 5 1 = nI mm ∧ Gth (m2 25) mm (pcs my b) (i + 1)) → k (nI b) (nI i + 1) m2 := fun m2 hO2 hG2 => hk _ _ _ ⟨rfl, i + 1, hin, nIs i, hO2, hG2⟩ (by rw [nIs, ix_n (by omega), ix_n (by omega)]; omega)
    have hmem := hG.mem (pcs my b i)
    refine s_add_5 hm (by omega) hG.2.1 (fun hh => go m' hO ⟨m, hm, by omega, hG.2.1, fun P => ?_⟩) (fun p hp h1 h2 => go _ (fun k h1 h2 => by rw [wrA, if_neg h1, wrow_n h2]; exact hO k h1 h2) ⟨m + 1, by simp [wrA, updA], by omega, ?_, fun P => ?_⟩)
    · have : fo (pcs my b) i = false := by unfold fo; rw [← hmem, hh]; rfl
      rw [ct_f (by rw [this]; rfl)]
      exact hG.2.2 P
    · simp only [wrA, Nat.reduceEqDiff, reduceIte, wrow_r]
      exact insr_so hG.2.1 hp h1 h2
    · simp only [wrA, Nat.reduceEqDiff, reduceIte, wrow_r]
      have hno : hasB (m' 25) (pcs my b i) m = false := hasB_no.mpr (fun j hj e => by
        rcases Nat.lt_or_ge j p with z | z
        · have := h1 j z; rw [e] at this; exact Int32.lt_irrefl this
        · have h3 := h2 (by omega)
          rcases Nat.lt_or_ge p j with z2 | z2
          · have := Int32.lt_trans h3 (hG.2.1 p j z2 hj); rw [e] at this; exact Int32.lt_irrefl this
          · rw [show p = j by omega, e] at h3; exact Int32.lt_irrefl h3)
      have hfo : fo (pcs my b) i = true := by unfold fo; rw [← hmem, hno]; rfl
      rw [insr_ct P hp, hG.2.2 P, ct_s, hfo, Bool.true_and]
/-- what lies outside the gathered row -/
def Of6 (μ μ' : Mem) : Prop := ∀ k, k ≠ 6 → k ≠ 26 → μ' k = μ k
theorem Of6.wr {μ : Mem} (r : Nat → Int32) (v : Int32) : Of6 μ (wr (wrow μ 26 r) 6 1 v) := fun k h1 h2 => by rw [wrA, if_neg h1, wrow_n h2]
theorem s_add_6 {post : Mem → Prop} {μ : Mem} {x : Int32} {m : Nat} (hm : μ 6 1 = nI m) (hm2 : m ≤ 60) (hs : ∀ i j, i < j → j < m → μ 26 i < μ 26 j) (hy : hasB (μ 26) x m = true → post μ) (hn : ∀ p, p ≤ m → (∀ j, j < p → μ 26 j < x) → (p < m → x < μ 26 p) → post (wr (wrow μ 26 (insr (μ 26) m p x)) 6 1 (nI (m + 1)))) : w_X5_add_6 post x μ := by
  unfold w_X5_add_6
  refine wl2 (fun u v m' => u = x ∧ m' = μ ∧ ∃ i, i ≤ m ∧ v = nI i ∧ ∀ j, j < i → μ 26 j < x) (fun _ v _ => m - ix v) ?_ _ _ _ ⟨rfl, rfl, 0, by omega, rfl, fun j hj => absurd hj (Nat.not_lt_zero j)⟩
  rintro k u v m' ⟨rfl, rfl, i, hi, rfl, hpre⟩ hk
  have ins : (i < m → u < m' 26 i) → w_X5_add_6_b45 post u (nI i) m' := fun hlt => by
    have fin := hn i hi hpre hlt
    unfold w_X5_add_6_b45
    rw [hm]
    refine wl3 (fun a b c m2 => a = u ∧ b = nI i ∧ ∃ e, i ≤ e ∧ e ≤ m ∧ c = nI e ∧ m2 = wrow m' 26 (shf (m' 26) m e)) (fun _ _ c _ => ix c) ?_ _ _ _ _ ⟨rfl, rfl, m, hi, Nat.le_refl _, rfl, by rw [shf_0, wrow_id]⟩
    rintro kk a b c m2 ⟨rfl, rfl, e, h1, h2, rfl, rfl⟩ hkk
    unfold w_X5_add_6_b50
    refine pk_le e i (fun z => ⟨vp_in_nI (by omega) (by decide), fun y1 g1 y2 g2 => ?_⟩) (fun z => ?_) rfl rfl (by omega) (by omega)
    · have : e = i := by omega
      subst this
      rw [ix_n (by omega), wr_wrow] at g1
      have h3 : y1 6 1 = nI m := by rw [g1, wrow_n (by decide)]; exact hm
      rw [h3, nIs] at g2
      rw [g2, g1]
      exact fin
    · obtain ⟨e', rfl⟩ : ∃ e', e = e' + 1 := ⟨e - 1, by omega⟩
      rw [nI_pred]
      refine ⟨vp_in_nI (by omega) (by decide), vp_in_nI (by omega) (by decide), fun y1 g1 => ?_⟩
      rw [ix_n (by omega), ix_n (by omega), wr_wrow, wrow_r, shf_s _ (by omega)] at g1
      refine hkk _ _ _ _ ⟨rfl, rfl, e', by omega, by omega, pk_m1 e', g1⟩ (by rw [pk_m1, ix_n (by omega), ix_n (by omega)]; omega)
  have b26 : (i < m → u ≤ m' 26 i) → w_X5_add_6_b26 post u (nI i) m' := fun hle => by
    unfold w_X5_add_6_b26
    refine pk_le m i (fun z => ins (fun y => by omega)) (fun z => ?_) hm rfl (by omega) (by omega)
    rw [ix_n (by omega)]
    refine ⟨vp_in_nI (by omega) (by decide), fun z2 => ins (fun y => ?_), fun z2 => hy (hasB_iff.mpr ⟨i, z, z2⟩)⟩
    rcases Int32.lt_or_eq_of_le (hle y) with z3 | z3
    · exact z3
    · exact absurd z3.symm z2
  unfold w_X5_add_6_b2
  refine pk_le m i (fun z => b26 (fun y => by omega)) (fun z => ?_) hm rfl (by omega) (by omega)
  rw [ix_n (by omega)]
  refine ⟨vp_in_nI (by omega) (by decide), fun z2 => b26 (fun _ => z2), fun z2 => hk _ _ _ ⟨rfl, rfl, i + 1, z, nIs i, fun j hj => ?_⟩ (by rw [nIs, ix_n (by omega), ix_n (by omega)]; omega)⟩
  rcases Nat.lt_or_ge j i with c | c
  · exact hpre j c
  · rw [show j = i by omega]; exact Int32.not_le.mp z2
theorem s_gather_6 {post : Mem → Prop} {μ : Mem} {b s : Nat} {my : Nat → Int32} (hb : b < 100) (hs : μ 19 b = nI s) (hs2 : s ≤ 64) (hy : ∀ j, j < 6400 → my j = μ 18 j &&& 255) (h : ∀ (R : Nat → Int32) (m : Nat) (μ' : Mem), Of6 μ μ' → μ' 6 1 = nI m → μ' 26 = R → Gth R m (pcs my b) (npc s) → post μ') : w_X5_gather_6 post (nI b) μ := by
  have e2 : ∀ i, i < npc s → i + 4 ≤ s := fun i h => by unfold npc at h; omega
  have e3 : npc s ≤ 61 := by unfold npc; omega
  unfold w_X5_gather_6
  intro m0 em0
  refine wl2 (fun u v m' => u = nI b ∧ ∃ i, i ≤ npc s ∧ v = nI i ∧ Of6 μ m' ∧ ∃ m, m' 6 1 = nI m ∧ Gth (m' 26) m (pcs my b) i) (fun _ v _ => npc s - ix v) ?_ _ _ _ ⟨rfl, 0, by omega, rfl, fun k h1 h2 => by rw [em0, wrA, if_neg h1], 0, by rw [em0]; simp [wrA, updA]; rfl, Nat.le_refl _, fun i j h1 h2 => by omega, fun P => rfl⟩
  rintro k u v m' ⟨rfl, i, hi, rfl, hO, m, hm, hG⟩ hk
  unfold w_X5_gather_6_b7
  have g19 : m' 19 b = nI s := by rw [hO 19 (by decide) (by decide)]; exact hs
  have hmi := hG.1
  rw [ix_n (by omega), g19, show (4 : Int32) = nI 4 from rfl, nI_add]
  refine ⟨vp_in_nI hb (by decide), ?_⟩
  refine pk_lt s (i + 4) (fun c => ?_) (fun c => ?_) rfl rfl (by omega) (by omega)
  · have : i = npc s := by unfold npc at hi ⊢; omega
    rw [this] at hG
    exact h _ m m' hO hm rfl hG
  · have hin : i < npc s := by unfold npc; omega
    refine s_pieceAt (my := my) hb (by omega) (fun j hj => by rw [hO 18 (by decide) (by decide)]; exact hy j hj) ?_
    have go : ∀ m2 : Mem, Of6 μ m2 → (∃ mm, m2 6 1 = nI mm ∧ Gth (m2 26) mm (pcs my b) (i + 1)) → k (nI b) (nI i + 1) m2 := fun m2 hO2 hG2 => hk _ _ _ ⟨rfl, i + 1, hin, nIs i, hO2, hG2⟩ (by rw [nIs, ix_n (by omega), ix_n (by omega)]; omega)
    have hmem := hG.mem (pcs my b i)
    refine s_add_6 hm (by omega) hG.2.1 (fun hh => go m' hO ⟨m, hm, by omega, hG.2.1, fun P => ?_⟩) (fun p hp h1 h2 => go _ (fun k h1 h2 => by rw [wrA, if_neg h1, wrow_n h2]; exact hO k h1 h2) ⟨m + 1, by simp [wrA, updA], by omega, ?_, fun P => ?_⟩)
    · have : fo (pcs my b) i = false := by unfold fo; rw [← hmem, hh]; rfl
      rw [ct_f (by rw [this]; rfl)]
      exact hG.2.2 P
    · simp only [wrA, Nat.reduceEqDiff, reduceIte, wrow_r]
      exact insr_so hG.2.1 hp h1 h2
    · simp only [wrA, Nat.reduceEqDiff, reduceIte, wrow_r]
      have hno : hasB (m' 26) (pcs my b i) m = false := hasB_no.mpr (fun j hj e => by
        rcases Nat.lt_or_ge j p with z | z
        · have := h1 j z; rw [e] at this; exact Int32.lt_irrefl this
        · have h3 := h2 (by omega)
          rcases Nat.lt_or_ge p j with z2 | z2
          · have := Int32.lt_trans h3 (hG.2.1 p j z2 hj); rw [e] at this; exact Int32.lt_irrefl this
          · rw [show p = j by omega, e] at h3; exact Int32.lt_irrefl h3)
      have hfo : fo (pcs my b) i = true := by unfold fo; rw [← hmem, hno]; rfl
      rw [insr_ct P hp, hG.2.2 P, ct_s, hfo, Bool.true_and]
theorem s_shared {post : Int32 → Mem → Prop} {μ : Mem} {ma mb : Nat} (h1 : μ 5 1 = nI ma) (h2 : ma ≤ 61) (h3 : μ 6 1 = nI mb) (h4 : mb ≤ 61) (sa : ∀ i j, i < j → j < ma → μ 25 i < μ 25 j) (sb : ∀ i j, i < j → j < mb → μ 26 i < μ 26 j) (h : post (nI (ct (fun i => hasB (μ 26) (μ 25 i) mb) ma)) μ) : w_X5_sharedWith_5 post μ := by
  unfold w_X5_sharedWith_5
  refine wl3 (fun v p z m => m = μ ∧ ∃ i pl, i ≤ ma ∧ pl ≤ mb ∧ z = nI i ∧ p = nI pl ∧ v = nI (ct (fun i => hasB (μ 26) (μ 25 i) mb) i) ∧ (∀ j, j < pl → ∀ i', i ≤ i' → i' < ma → μ 26 j < μ 25 i')) (fun _ _ z _ => ma - ix z) ?_ _ _ _ _ ⟨rfl, 0, 0, by omega, by omega, rfl, rfl, rfl, fun j hj => absurd hj (Nat.not_lt_zero j)⟩
  rintro k v p z m ⟨rfl, i, pl, hi, hpl, rfl, rfl, rfl, hpre⟩ hk
  unfold w_X5_sharedWith_5_b7
  refine pk_le ma i (fun c => by rw [show i = ma by omega]; exact h) (fun c => ?_) h1 rfl (by omega) (by omega)
  refine wl3 (fun v p z m' => m' = m ∧ z = nI i ∧ v = nI (ct (fun i => hasB (m 26) (m 25 i) mb) i) ∧ ∃ pl, pl ≤ mb ∧ p = nI pl ∧ (∀ j, j < pl → ∀ i', i ≤ i' → i' < ma → m 26 j < m 25 i')) (fun _ p _ _ => mb - ix p) ?_ _ _ _ _ ⟨rfl, rfl, rfl, pl, hpl, rfl, hpre⟩
  clear hpre hpl pl
  rintro kk v p z m' ⟨rfl, rfl, rfl, pl, hpl, rfl, hpre⟩ hkk
  have nx : ∀ v, v = nI (ct (fun i => hasB (m' 26) (m' 25 i) mb) (i + 1)) → k v (nI pl) (nI i + 1) m' := fun v hv => by
    refine hk _ _ _ _ ⟨rfl, i + 1, pl, by omega, hpl, nIs i, rfl, hv, fun j hj i' h5 h6 => hpre j hj i' (by omega) h6⟩ (by rw [nIs, ix_n (by omega), ix_n (by omega)]; omega)
  have b46 : (pl < mb → m' 25 i ≤ m' 26 pl) → w_X5_sharedWith_5_b46 post k (nI (ct (fun i => hasB (m' 26) (m' 25 i) mb) i)) (nI pl) (nI i) m' := fun hle => by
    unfold w_X5_sharedWith_5_b46
    rw [ix_n (by omega), ix_n (by omega)]
    have hno : (pl < mb → ¬ m' 26 pl = m' 25 i) → hasB (m' 26) (m' 25 i) mb = false := fun hne => hasB_no.mpr (fun j hj e => by
      rcases Nat.lt_trichotomy j pl with z | z | z
      · have := hpre j z i (Nat.le_refl _) c; rw [e] at this; exact Int32.lt_irrefl this
      · subst z; exact hne hj e
      · have := Int32.lt_of_le_of_lt (hle (by omega)) (sb pl j z hj); rw [e] at this; exact Int32.lt_irrefl this)
    refine pk_le mb pl (fun z => nx _ ?_) (fun z => ⟨vp_in_nI (by omega) (by decide), vp_in_nI (by omega) (by decide), fun z2 => nx _ ?_, fun z2 => nx _ ?_⟩) h3 rfl (by omega) (by omega)
    · rw [ct_f (p := fun i => hasB (m' 26) (m' 25 i) mb) (n := i) (hno (fun y => by omega))]
    · rw [ct_f (p := fun i => hasB (m' 26) (m' 25 i) mb) (n := i) (hno (fun _ => z2))]
    · rw [ct_t (p := fun i => hasB (m' 26) (m' 25 i) mb) (n := i) (hasB_iff.mpr ⟨pl, z, z2⟩), nIs]
  unfold w_X5_sharedWith_5_b16
  refine pk_le mb pl (fun z => b46 (fun y => by omega)) (fun z => ?_) h3 rfl (by omega) (by omega)
  rw [ix_n (by omega), ix_n (by omega)]
  refine ⟨vp_in_nI (by omega) (by decide), vp_in_nI (by omega) (by decide), fun z2 => b46 (fun _ => z2), fun z2 => hkk _ _ _ _ ⟨rfl, rfl, rfl, pl + 1, z, nIs pl, fun j hj i' h5 h6 => ?_⟩ (by rw [nIs, ix_n (by omega), ix_n (by omega)]; omega)⟩
  rcases Nat.lt_or_ge j pl with y | y
  · exact hpre j y i' h5 h6
  · rw [show j = pl by omega]
    have q1 := Int32.not_le.mp z2
    rcases Nat.lt_or_ge i i' with y2 | y2
    · exact Int32.lt_trans q1 (sa i i' y2 h6)
    · rw [show i' = i by omega]; exact q1
/-- the nearness of two bodies -/
def nv (my : Nat → Int32) (a b sa sb : Nat) : Int32 := nrv (nrS (pcs my a) (pcs my b) (npc sa) (npc sb)) (nrA (pcs my a) (pcs my b) (npc sa) (npc sb))
theorem s_nearness {post : Int32 → Mem → Prop} {μ : Mem} {a b sa sb ma mb : Nat} {my : Nat → Int32} (hsa : sa ≤ 64) (hsb : sb ≤ 64) (h1 : μ 5 1 = nI ma) (h3 : μ 6 1 = nI mb) (ga : Gth (μ 25) ma (pcs my a) (npc sa)) (gb : Gth (μ 26) mb (pcs my b) (npc sb)) (h : post (nv my a b sa sb) μ) : w_X5_nearnessTo_5 post μ := by
  have l1 := ga.1
  have l2 := gb.1
  have l3 : npc sa ≤ 61 := by unfold npc; omega
  have l4 : npc sb ≤ 61 := by unfold npc; omega
  unfold w_X5_nearnessTo_5
  refine s_shared h1 (by omega) h3 (by omega) ga.2.1 gb.2.1 ?_
  obtain ⟨e1, e2⟩ := near_eq ga gb
  have l5 : ct (fun i => hasB (μ 26) (μ 25 i) mb) ma ≤ ma := ct_le _ _
  rw [h1, h3, nI_add, pk_sub (by omega), e2, e1]
  rw [e1] at l5 e2
  unfold nv nrv at h
  refine And.symm (pk_eq (nrA (pcs my a) (pcs my b) (npc sa) (npc sb)) 0 (fun c => ?_) (fun c => ⟨?_, ?_⟩) rfl rfl (by omega) (by omega))
  · rw [if_pos c] at h; exact h
  · exact nI_ne0 (by omega) (by omega)
  · rw [if_neg c] at h
    rw [show (1000 : Int32) = nI 1000 from rfl, pk_mul, pk_div (by omega) (by omega) (by omega)]
    exact h
theorem Sim.of5 {μ μ' : Mem} (h : Of5 μ μ') : Sim μ μ' := fun k j hr => by rw [h k (by unfold rlv at hr; omega) (by unfold rlv at hr; omega)]
theorem Sim.of6 {μ μ' : Mem} (h : Of6 μ μ') : Sim μ μ' := fun k j hr => by rw [h k (by unfold rlv at hr; omega) (by unfold rlv at hr; omega)]
theorem op_near {post : Int32 → Mem → Prop} {K : Int32 → Int32 → Mem → Prop} {a1 a2 : Int32} {μ : Mem} (hI : InvE μ) (hK : ∀ k b m, m 31 0 = k → (k = 0 → m 56 0 = b) → InvE m → K k b m) (hp : ∀ k m, w_X8_near (K k) a1 a2 m → post k m) : w_L_near post a1 a2 μ := by
  obtain ⟨nf, n, nb, w, q, lt, hI⟩ := hI
  have hI0 := hI
  obtain ⟨⟨⟨c1, m1, f1, f2⟩, ⟨c2, m2, f3⟩, ⟨c3, m3, f4⟩, hC4, hC5, hC6⟩, hFo, hFi, hHe, hBo, hBy, hGr, hWi, hLe, hMe⟩ := hI
  have hy : ∀ j, j < 6400 → μ 42 j = μ 18 j &&& 255 := fun j hj => (hBy.1 j hj).1
  unfold w_L_near w_X7_near
  rcases hFi.arg f2 f3 f4 a1 with ⟨f, d0, b, hf, ef, hd0, hb, e1, e2, e3, e4, e5, e6, e7⟩ | ⟨hx, hx2⟩
  · have hina : vp_in a1 60 := by rw [ef]; exact vp_in_nI (by omega) (by decide)
    have hia : ix a1 = f := by rw [ef]; exact ix_n (by omega)
    obtain ⟨⟨s, hs, es⟩, eMs, -⟩ := hBo b (by omega)
    refine needFile_y c2 f3 hf ef e6 ?_
    rcases hFi.arg f2 f3 f4 a2 with ⟨f', d0', b', hf', ef', hd0', hb', e1', e2', e3', e4', e5', e6', e7'⟩ | ⟨hx, hx2⟩
    · have hina' : vp_in a2 60 := by rw [ef']; exact vp_in_nI (by omega) (by decide)
      have hia' : ix a2 = f' := by rw [ef']; exact ix_n (by omega)
      obtain ⟨⟨s', hs', es'⟩, eMs', -⟩ := hBo b' (by omega)
      refine needFile_y c2 f3 hf' ef' e6' ⟨hina, ?_⟩
      rw [hia, e3]
      refine s_gather_5 (my := μ 42) (by omega) es hs hy (fun R m M hO hm hR hG => ⟨hina', ?_⟩)
      rw [hia', hO 16 (by decide) (by decide), e3']
      refine s_gather_6 (my := μ 42) (by omega) (by rw [hO 19 (by decide) (by decide)]; exact es') hs' (fun j hj => by rw [hO 18 (by decide) (by decide)]; exact hy j hj) (fun R' m' M' hO' hm' hR' hG' => ?_)
      refine s_nearness (my := μ 42) (a := b) (b := b') hs hs' (by rw [hO' 5 (by decide) (by decide)]; exact hm) hm' (by rw [hO' 25 (by decide) (by decide), hR]; exact hG) (by rw [hR']; exact hG') (fun m em => hp 0 m ?_)
      have hIm : Inv nf n nb w q lt m := by rw [em]; exact (hI0.sim ((Sim.of5 hO).tr (Sim.of6 hO'))).w n56
      have r : ∀ k, k ≠ 5 → k ≠ 6 → k ≠ 25 → k ≠ 26 → k ≠ 56 → m k = μ k := fun k h1 h2 h3 h4 h5 => by rw [em, wrA, if_neg h5, hO' k h2 h4, hO k h1 h3]
      unfold w_X8_near
      refine isFile_y (n := n) (f := f) (by rw [r 31 (by decide) (by decide) (by decide) (by decide) (by decide)]; exact m2) f3 hf ef (by rw [r 34 (by decide) (by decide) (by decide) (by decide) (by decide)]; exact e7) (t_n (by decide) ?_)
      have g31 : wr m 31 0 0 31 2 = nI n := by simp [wrA, updA]; rw [r 31 (by decide) (by decide) (by decide) (by decide) (by decide)]; exact m2
      have gg : ∀ k, k ≠ 5 → k ≠ 6 → k ≠ 25 → k ≠ 26 → k ≠ 56 → k ≠ 31 → wr m 31 0 0 k = μ k := fun k h1 h2 h3 h4 h5 h6 => by rw [wrA, if_neg h6, r k h1 h2 h3 h4 h5]
      rw [g31, hia', gg 34 (by decide) (by decide) (by decide) (by decide) (by decide) (by decide)]
      refine t_n (by rw [ef']; exact nI_neg (by omega)) (t_n (by rw [ef']; exact nI_ge hf' (by omega)) ⟨hina', t_n e7' ?_⟩)
      unfold w_X8_near_b36
      refine right_y (by simp [wrA, updA]) (t_n (by decide) ⟨hina, hina', ?_⟩)
      rw [hia, hia', gg 36 (by decide) (by decide) (by decide) (by decide) (by decide) (by decide), e4, e4']
      refine s_nearOf_m (sa := s) (sb := s') (by omega) (by omega) (by rw [gg 38 (by decide) (by decide) (by decide) (by decide) (by decide) (by decide), eMs, es]) hs (by rw [gg 38 (by decide) (by decide) (by decide) (by decide) (by decide) (by decide), eMs', es']) hs' ?_
      rw [gg 42 (by decide) (by decide) (by decide) (by decide) (by decide) (by decide)]
      exact hK 0 _ _ (by simp [wrA, updA]) (fun _ => by rw [wrA, if_neg (by decide), em]; simp [wrA, updA, ix0]; rfl) ⟨nf, n, nb, w, q, lt, hIm.w n310⟩
    · refine needFile_n c2 f3 hx ⟨rfl, hp 1 μ ?_⟩
      unfold w_X8_near w_X8_near_b35
      have hr : w_X8_near_b36 (K 1) a1 a2 0 (wr μ 31 0 0) := by
        unfold w_X8_near_b36
        exact right_n (by simp [wrA, updA]) (by decide) (t_y rfl (hK 1 0 _ (by simp [wrA, updA]) (fun h => absurd h (by decide)) ⟨nf, n, nb, w, q, lt, (hI0.w n310).w n310⟩))
      refine isFile_y m2 f3 hf ef e7 (t_n (by decide) ?_)
      rw [show wr μ 31 0 0 31 2 = nI n by simp [wrA, updA]; exact m2, show wr μ 31 0 0 34 = μ 34 by simp [wrA]]
      rcases idx a2 (n := n) (by omega) with ⟨j, hj, e⟩ | ⟨hc, -⟩
      · refine t_n (by rw [e]; exact nI_neg (by omega)) (t_n (by rw [e]; exact nI_ge hj (by omega)) ⟨by rw [e]; exact vp_in_nI (by omega) (by decide), t_y ?_ hr⟩)
        rw [show ix a2 = j by rw [e]; exact ix_n (by omega)]
        exact hx2 j hj e
      · refine ⟨fun _ => hr, fun z1 => ⟨fun _ => hr, fun z2 => ?_⟩⟩
        rcases hc with hc | hc
        · exact absurd hc z1
        · exact absurd hc z2
  · refine needFile_n c2 f3 hx ⟨rfl, hp 1 μ ?_⟩
    unfold w_X8_near
    exact isFile_n m2 f3 hx2 (t_y rfl (hK 1 0 _ (by simp [wrA, updA]) (fun h => absurd h (by decide)) ⟨nf, n, nb, w, q, lt, (hI0.w n310).w n310⟩))
/-- the nearest one so far, and how near -/
def bst (p : Nat → Bool) (v : Nat → Int32) (l : Int32) : Nat → Int32 × Int32
  | 0 => (-1, l)
  | f + 1 => if p f && decide ((bst p v l f).2 < v f) then (nI f, v f) else bst p v l f
theorem op_nearest {post : Int32 → Mem → Prop} {K : Int32 → Int32 → Mem → Prop} {a1 a2 : Int32} {μ : Mem} (hI : InvE μ) (hK : ∀ k b m, m 31 0 = k → (k = 0 → m 56 0 = b) → InvE m → K k b m) (hp : ∀ k m, w_X8_nearest (K k) a1 a2 m → post k m) : w_L_nearest post a1 a2 μ := by
  obtain ⟨nf, n, nb, w, q, lt, hI⟩ := hI
  have hI0 := hI
  obtain ⟨⟨⟨c1, m1, f1, f2⟩, ⟨c2, m2, f3⟩, ⟨c3, m3, f4⟩, hC4, hC5, hC6⟩, hFo, hFi, hHe, hBo, hBy, hGr, hWi, hLe, hMe⟩ := hI
  have hy : ∀ j, j < 6400 → μ 42 j = μ 18 j &&& 255 := fun j hj => (hBy.1 j hj).1
  unfold w_L_nearest w_X7_nearest w_X7_nearest_b16
  rcases hFi.arg f2 f3 f4 a1 with ⟨f, d0, b, hf, ef, hd0, hb, e1, e2, e3, e4, e5, e6, e7⟩ | ⟨hx, hx2⟩
  · have hina : vp_in a1 60 := by rw [ef]; exact vp_in_nI (by omega) (by decide)
    have hia : ix a1 = f := by rw [ef]; exact ix_n (by omega)
    obtain ⟨⟨s, hs, es⟩, eMs, -⟩ := hBo b (by omega)
    refine needFile_y c2 f3 hf ef e6 ?_
    have hbad : (a2 < 0 ∨ ¬ a2 ≤ 1000) → post 2 μ := fun hc => hp 2 μ (by
      unfold w_X8_nearest w_X8_nearest_b24
      have hr : w_X8_nearest_b25 (K 2) a1 a2 0 (wr μ 31 0 0) := by
        unfold w_X8_nearest_b25
        exact right_n (by simp [wrA, updA]) (by decide) (f_y rfl (hK 2 0 _ (by simp [wrA, updA]) (fun h => absurd h (by decide)) ⟨nf, n, nb, w, q, lt, (hI0.w n310).w n310⟩))
      refine isFile_y m2 f3 hf ef e7 (t_n (by decide) ⟨fun _ => hr, fun z1 => ⟨fun _ => hr, fun z2 => ?_⟩⟩)
      rcases hc with hc | hc
      · exact absurd hc z1
      · exact absurd (Int32.not_le.mp hc) z2)
    refine ⟨fun z => Or.inr ⟨rfl, hbad (Or.inl z)⟩, fun z1 => ⟨fun z2 => ⟨hina, ?_⟩, fun z => Or.inr ⟨rfl, hbad (Or.inr z)⟩⟩⟩
    rw [hia, e3]
    -- what is compared
    have alive : ∀ g, g < n → ¬ μ 16 g = -1 → ∃ b', b' < nb ∧ μ 16 g = nI b' ∧ μ 36 g = nI b' := fun g hg ha => by
      obtain ⟨-, ⟨b', hb', eb'⟩, hc⟩ := hFi g hg
      rcases hc with ⟨-, hc⟩ | ⟨-, hc, -⟩
      · exact absurd hc ha
      · exact ⟨b', hb', hc.trans eb', eb'⟩
    generalize hpp : (fun g => !decide (μ 16 g = -1) && !decide (μ 16 g = nI b)) = P
    generalize hvv : (fun g => nv (μ 42) b (ix (μ 16 g)) s (ix (μ 19 (ix (μ 16 g))))) = V
    have pT : ∀ g, ¬ μ 16 g = -1 → ¬ μ 16 g = nI b → P g = true := fun g h1 h2 => by rw [← hpp]; simp [h1, h2]
    have pF1 : ∀ g, μ 16 g = -1 → P g = false := fun g h1 => by rw [← hpp]; simp [h1]
    have pF2 : ∀ g, μ 16 g = nI b → P g = false := fun g h1 => by rw [← hpp]; simp [h1]
    refine s_gather_5 (my := μ 42) (by omega) es hs hy (fun R m M hO hm hR hG => ?_)
    refine wl4 (fun x y v z m' => x = a1 ∧ (∀ k, k ≠ 5 → k ≠ 25 → k ≠ 6 → k ≠ 26 → m' k = μ k) ∧ m' 5 1 = nI m ∧ m' 25 = R ∧ ∃ i, i ≤ n ∧ z = nI i ∧ y = (bst P V (a2 - 1) i).1 ∧ v = (bst P V (a2 - 1) i).2) (fun _ _ _ z _ => n - ix z) ?_ _ _ _ _ _ ⟨rfl, fun k h1 h2 h3 h4 => hO k h1 h2, hm, hR, 0, by omega, rfl, rfl, rfl⟩
    rintro k x y v z m' ⟨rfl, hO', hm', hR', i, hi, rfl, rfl, rfl⟩ hk
    have step : bst P V (a2 - 1) (i + 1) = if P i && decide ((bst P V (a2 - 1) i).2 < V i) then (nI i, V i) else bst P V (a2 - 1) i := rfl
    unfold w_X7_nearest_b56
    have g2 : m' 2 4 = nI n := by rw [hO' 2 (by decide) (by decide) (by decide) (by decide)]; exact c2
    have g16 : m' 16 = μ 16 := hO' 16 (by decide) (by decide) (by decide) (by decide)
    refine pk_le n i (fun c => ?_) (fun c => ?_) g2 rfl (by omega) (by omega)
    · -- the end: the reference
      have : i = n := by omega
      subst this
      intro mm em
      refine hp 0 mm ?_
      have r : ∀ k, k ≠ 5 → k ≠ 6 → k ≠ 25 → k ≠ 26 → k ≠ 56 → mm k = μ k := fun k h1 h2 h3 h4 h5 => by rw [em, wrA, if_neg h5, hO' k h1 h3 h2 h4]
      have hIm : Inv nf i nb w q lt mm := by
        rw [em]
        refine Inv.w (hI0.sim (fun k j hr => ?_)) n56
        rw [hO' k (by unfold rlv at hr; omega) (by unfold rlv at hr; omega) (by unfold rlv at hr; omega) (by unfold rlv at hr; omega)]
      have h56 : wr mm 31 0 0 56 0 = (bst P V (a2 - 1) i).1 := by rw [wrA, if_neg (by decide), em]; simp [wrA, updA, ix0]
      clear em hk hO' hm' hR' step
      unfold w_X8_nearest
      refine isFile_y (n := i) (f := f) (by rw [r 31 (by decide) (by decide) (by decide) (by decide) (by decide)]; exact m2) f3 hf ef (by rw [r 34 (by decide) (by decide) (by decide) (by decide) (by decide)]; exact e7) (t_n (by decide) (t_n z1 (t_n (Int32.not_lt.mpr z2) ?_)))
      have g31 : wr mm 31 0 0 31 2 = nI i := by simp [wrA, updA]; rw [r 31 (by decide) (by decide) (by decide) (by decide) (by decide)]; exact m2
      have gg : ∀ k, k ≠ 5 → k ≠ 6 → k ≠ 25 → k ≠ 26 → k ≠ 56 → k ≠ 31 → wr mm 31 0 0 k = μ k := fun k h1 h2 h3 h4 h5 h6 => by rw [wrA, if_neg h6, r k h1 h2 h3 h4 h5]
      have hI9 : Inv nf i nb w q lt (wr mm 31 0 0) := hIm.w n310
      have g0 : wr mm 31 0 0 31 0 = 0 := by simp [wrA, updA]
      generalize wr mm 31 0 0 = N at gg g31 hI9 h56 g0
      unfold w_X8_nearest_b25
      refine right_y g0 (f_n (by decide) ?_)
      refine wl4 (fun x' y v z m' => x' = x ∧ m' = N ∧ ∃ j, j ≤ i ∧ z = nI j ∧ y = (bst P V (a2 - 1) j).1 ∧ v = (bst P V (a2 - 1) j).2) (fun _ _ _ z _ => i - ix z) ?_ _ _ _ _ _ ⟨rfl, rfl, 0, by omega, rfl, rfl, rfl⟩
      rintro k x y v z m' ⟨rfl, rfl, j, hj, rfl, rfl, rfl⟩ hk
      have step : bst P V (a2 - 1) (j + 1) = if P j && decide ((bst P V (a2 - 1) j).2 < V j) then (nI j, V j) else bst P V (a2 - 1) j := rfl
      unfold w_X8_nearest_b44
      refine pk_le i j (fun c => ?_) (fun c => ?_) g31 rfl (by omega) (by omega)
      · have : j = i := by omega
        subst this
        exact hK 0 _ _ g0 (fun _ => h56) ⟨nf, j, nb, w, q, lt, hI9⟩
      · have hinj : vp_in (nI j) 60 := vp_in_nI (by omega) (by decide)
        have go : ∀ u v, (u, v) = bst P V (a2 - 1) (j + 1) → k x u v (nI j + 1) m' := fun u v huv => hk _ _ _ _ _ ⟨rfl, rfl, j + 1, by omega, nIs j, by rw [← huv], by rw [← huv]⟩ (by rw [nIs, ix_n (by omega), ix_n (by omega)]; omega)
        rw [ix_n (by omega), hia, gg 34 (by decide) (by decide) (by decide) (by decide) (by decide) (by decide), gg 36 (by decide) (by decide) (by decide) (by decide) (by decide) (by decide)]
        have hgo := hFi.gone f2 f4 c
        refine ⟨hinj, fun z => go _ _ ?_, fun z => ⟨hinj, hina, ?_⟩⟩
        · rw [step, pF1 j (hgo.mpr z)]; rfl
        · have ha : ¬ μ 16 j = -1 := fun y => z (hgo.mp y)
          obtain ⟨b', hb', x1, x2⟩ := alive j c ha
          obtain ⟨⟨s', hs', es'⟩, eMs', -⟩ := hBo b' (by omega)
          rw [x2, e4]
          refine ⟨fun y => ⟨hina, hinj, ?_⟩, fun y => go _ _ ?_⟩
          · refine s_nearOf_m (sa := s) (sb := s') (by omega) (by omega) (by rw [gg 38 (by decide) (by decide) (by decide) (by decide) (by decide) (by decide), eMs, es]) hs (by rw [gg 38 (by decide) (by decide) (by decide) (by decide) (by decide) (by decide), eMs', es']) hs' ?_
            rw [gg 42 (by decide) (by decide) (by decide) (by decide) (by decide) (by decide)]
            have eV : V j = nrv (nrS (pcs (μ 42) b) (pcs (μ 42) b') (npc s) (npc s')) (nrA (pcs (μ 42) b) (pcs (μ 42) b') (npc s) (npc s')) := by
              rw [← hvv]
              show nv (μ 42) b (ix (μ 16 j)) s (ix (μ 19 (ix (μ 16 j)))) = _
              rw [x1, ix_n (by omega), es', ix_n (by omega)]
              rfl
            rw [← eV]
            have hP := pT j ha (by rw [x1]; exact y)
            refine ⟨fun t => go _ _ ?_, fun t => go _ _ ?_⟩
            · rw [step, hP, decide_eq_true t]; rfl
            · rw [step, hP, decide_eq_false t]; rfl
          · rw [step, pF2 j (by rw [x1, y])]; rfl
    · have hini : vp_in (nI i) 60 := vp_in_nI (by omega) (by decide)
      have go : ∀ (m2 : Mem) u v, (∀ k, k ≠ 5 → k ≠ 25 → k ≠ 6 → k ≠ 26 → m2 k = μ k) → m2 5 1 = nI m → m2 25 = R → (u, v) = bst P V (a2 - 1) (i + 1) → k x u v (nI i + 1) m2 := fun m2 u v h1 h2 h3 huv => hk _ _ _ _ _ ⟨rfl, h1, h2, h3, i + 1, by omega, nIs i, by rw [← huv], by rw [← huv]⟩ (by rw [nIs, ix_n (by omega), ix_n (by omega)]; omega)
      refine s_X1_has g2 f3 (fun g hg eg ha => ?_) (fun hx => t_y rfl (go m' _ _ hO' hm' hR' ?_))
      · have : i = g := (nI_eq (by omega) (by omega)).mp eg
        subst this
        rw [g16] at ha
        obtain ⟨b', hb', x1, x2⟩ := alive i c ha
        obtain ⟨⟨s', hs', es'⟩, eMs', -⟩ := hBo b' (by omega)
        refine t_n (by decide) ⟨hini, hina, ?_⟩
        rw [ix_n (by omega), hia, g16, x1, e3]
        refine ⟨fun y => go m' _ _ hO' hm' hR' ?_, fun y => ⟨hini, ?_⟩⟩
        · rw [step, pF2 i (by rw [x1, y])]; rfl
        · refine s_gather_6 (my := μ 42) (by omega) (by rw [hO' 19 (by decide) (by decide) (by decide) (by decide)]; exact es') hs' (fun j hj => by rw [hO' 18 (by decide) (by decide) (by decide) (by decide)]; exact hy j hj) (fun R2 mb M2 hO2 hm2 hR2 hG2 => ?_)
          have eV : V i = nv (μ 42) b b' s s' := by
            rw [← hvv]
            show nv (μ 42) b (ix (μ 16 i)) s (ix (μ 19 (ix (μ 16 i)))) = _
            rw [x1, ix_n (by omega), es', ix_n (by omega)]
          refine s_nearness (my := μ 42) (a := b) (b := b') hs hs' (by rw [hO2 5 (by decide) (by decide)]; exact hm') hm2 (by rw [hO2 25 (by decide) (by decide), hR']; exact hG) (by rw [hR2]; exact hG2) ?_
          rw [← eV]
          have hP := pT i ha (by rw [x1]; exact y)
          have q1 : ∀ k, k ≠ 5 → k ≠ 25 → k ≠ 6 → k ≠ 26 → M2 k = μ k := fun k h1 h2 h3 h4 => by rw [hO2 k h3 h4]; exact hO' k h1 h2 h3 h4
          have q2 : M2 5 1 = nI m := by rw [hO2 5 (by decide) (by decide)]; exact hm'
          have q3 : M2 25 = R := by rw [hO2 25 (by decide) (by decide)]; exact hR'
          refine ⟨fun t => go M2 _ _ q1 q2 q3 ?_, fun t => go M2 _ _ q1 q2 q3 ?_⟩
          · rw [step, hP, decide_eq_false (Int32.not_lt.mpr t)]; rfl
          · rw [step, hP, decide_eq_true (Int32.not_le.mp t)]; rfl
      · rw [step, pF1 i (by rw [← g16]; exact hx i c rfl)]; rfl
  · refine needFile_n c2 f3 hx (Or.inl ⟨rfl, hp 1 μ ?_⟩)
    unfold w_X8_nearest
    exact isFile_n m2 f3 hx2 (t_y rfl (hK 1 0 _ (by simp [wrA, updA]) (fun h => absurd h (by decide)) ⟨nf, n, nb, w, q, lt, (hI0.w n310).w n310⟩))
