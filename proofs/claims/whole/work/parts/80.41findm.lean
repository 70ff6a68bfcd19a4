theorem ct_two {p : Nat → Bool} {i j n : Nat} (hij : i < j) (hj : j < n) (h1 : p i = true) (h2 : p j = true) : 2 ≤ ct p n := by
  have a1 : 0 < ct p j := ct_pos.mpr ⟨i, hij, h1⟩
  have a2 : ct p (j + 1) = ct p j + 1 := ct_t h2
  have a3 := ct_mono p (show j + 1 ≤ n by omega)
  omega
theorem ct_uni {p : Nat → Bool} {b : Nat} : ∀ {n : Nat}, (∀ c, c < n → p c = true → c = b) → ct p n ≤ 1
  | 0, _ => by show 0 ≤ 1; omega
  | n + 1, h => by
    cases e : p n
    · rw [ct_f e]; exact ct_uni (fun c hc => h c (by omega))
    · have hn := h n (by omega) e
      have : ct p n = 0 := ct_zero.mpr (fun k hk => by
        cases e2 : p k
        · rfl
        · have := h k (by omega) e2; omega)
      rw [ct_t e]; omega
theorem drp_m {h cs : Nat → Int32} {nb b : Nat} (H : Can h nb cs) (hnb : nb ≤ 100) (hb : b < nb) : (if ct (fun c => !decide (h b = -1) && decide (h c = h b)) nb ≤ 1 then -1 else h b) = drp h b := by
  rcases H.c b with e | ⟨-, r, hr, e1, e2, -⟩
  · rw [if_pos (by rw [ct_zero.mpr (fun k _ => by simp [e])]; omega), drp_k (fun z => by rw [e] at z; exact absurd z.symm (nI_m1 (by omega))), e]
  · have hne : ¬ h b = -1 := by rw [e1]; exact nI_m1 (by omega)
    by_cases c : r = b
    · subst c
      cases g : gtb h r
      · rw [drp_l e1 g, if_pos]
        refine ct_uni (b := r) (fun c hc hp => ?_)
        simp [hne] at hp
        rcases Nat.lt_trichotomy c r with z | z | z
        · rcases H.c c with y | ⟨-, r', y1, y2, -⟩
          · rw [y, e1] at hp; exact absurd hp.symm (nI_m1 (by omega))
          · rw [y2, e1] at hp
            have := (nI_eq (by omega) (by omega)).mp hp
            omega
        · exact z
        · exact absurd (hp.trans e1) (gtb_no.mp g c z (by omega))
      · obtain ⟨c, h1, h2, h3⟩ := gtb_iff.mp g
        have hcn : c < nb := by
          rcases H.c c with y | ⟨y, -⟩
          · rw [y] at h3; exact absurd h3.symm (nI_m1 (by omega))
          · exact y
        have := ct_two (p := fun c => !decide (h r = -1) && decide (h c = h r)) h1 hcn (by simp [hne]) (by simp [h3, e1]; exact nI_m1 (by omega))
        rw [if_neg (by omega), drp_k (fun _ => g)]
    · have := ct_two (p := fun c => !decide (h b = -1) && decide (h c = h b)) (show r < b by omega) hb (by simp [e1, e2]; exact nI_m1 (by omega)) (by simp [hne])
      rw [if_neg (by omega), drp_k (fun z => by rw [e1] at z; exact absurd ((nI_eq (by omega) (by omega)).mp z) c)]
theorem s_drops {post : Mem → Prop} {μ : Mem} {h cs : Nat → Int32} {nb : Nat} (h3 : μ 31 3 = nI nb) (hnb : nb ≤ 100) (H : Can h nb cs) (hr : ∀ b, b < nb → μ 50 b = h b) (hp : ∀ m : Mem, (∀ k, k ≠ 50 → k ≠ 51 → m k = μ k) → (∀ b, b < nb → m 50 b = drp h b) → post m) : w_X8_drops post μ := by
  unfold w_X8_drops
  refine wl1 (fun x m => ∃ i, i ≤ nb ∧ x = nI i ∧ (∀ k, k ≠ 51 → m k = μ k) ∧ (∀ b, b < i → m 51 b = drp h b)) (fun x _ => nb - ix x) ?_ _ _ ⟨0, by omega, rfl, fun k _ => rfl, fun b hb => absurd hb (Nat.not_lt_zero b)⟩
  rintro k x m ⟨i, hi, rfl, hO, hR⟩ hk
  unfold w_X8_drops_b2
  have g3 : m 31 3 = nI nb := by rw [hO 31 (by decide)]; exact h3
  have g50 : ∀ b, b < nb → m 50 b = h b := fun b hb => by rw [hO 50 (by decide)]; exact hr b hb
  refine pk_le nb i (fun c => ?_) (fun c => ?_) g3 rfl (by omega) (by omega)
  · have : i = nb := by omega
    subst this
    refine wl1 (fun x m2 => ∃ j, j ≤ i ∧ x = nI j ∧ (∀ k, k ≠ 50 → m2 k = m k) ∧ (∀ b, b < j → m2 50 b = drp h b)) (fun x _ => i - ix x) ?_ _ _ ⟨0, by omega, rfl, fun k _ => rfl, fun b hb => absurd hb (Nat.not_lt_zero b)⟩
    rintro kk x m2 ⟨j, hj, rfl, hO2, hR2⟩ hkk
    unfold w_X8_drops_b85
    refine pk_le i j (fun c => hp m2 (fun k h1 h2 => (hO2 k h1).trans (hO k h2)) (fun b hb => hR2 b (by omega))) (fun c => ?_) (by rw [hO2 31 (by decide)]; exact g3) rfl (by omega) (by omega)
    have hin : vp_in (nI j) 100 := vp_in_nI (by omega) (by decide)
    rw [ix_n (by omega)]
    refine ⟨hin, hin, fun m3 em => hkk _ _ ⟨j + 1, by omega, nIs j, fun k hk => by rw [em, wrA, if_neg hk]; exact hO2 k hk, fun b hb => ?_⟩ (by rw [nIs, ix_n (by omega), ix_n (by omega)]; omega)⟩
    rw [em, wrA, if_pos rfl, updA]
    by_cases y : b = j
    · rw [if_pos y, hO2 51 (by decide), hR j (by omega), y]
    · rw [if_neg y]; exact hR2 b (by omega)
  · refine wl3 (fun x y z m' => x = nI i ∧ m' = m ∧ ∃ j, j ≤ nb ∧ z = nI j ∧ y = nI (ct (fun c => !decide (h i = -1) && decide (h c = h i)) j)) (fun _ _ z _ => nb - ix z) ?_ _ _ _ _ ⟨rfl, rfl, 0, by omega, rfl, rfl⟩
    rintro kk x y z m' ⟨rfl, rfl, j, hj, rfl, rfl⟩ hkk
    have hin : vp_in (nI i) 100 := vp_in_nI (by omega) (by decide)
    have fin : ∀ v, v = drp h i → w_X8_drops_b76 post k (nI i) v (nI i) m' := fun v hv => by
      unfold w_X8_drops_b76
      rw [ix_n (by omega)]
      refine ⟨hin, fun m3 em => hk _ _ ⟨i + 1, by omega, nIs i, fun k hk => by rw [em, wrA, if_neg hk]; exact hO k hk, fun b hb => ?_⟩ (by rw [nIs, ix_n (by omega), ix_n (by omega)]; omega)⟩
      rw [em, wrA, if_pos rfl, updA]
      by_cases y : b = i
      · rw [if_pos y, hv, y]
      · rw [if_neg y]; exact hR b (by omega)
    unfold w_X8_drops_b14
    have hle : ct (fun c => !decide (h i = -1) && decide (h c = h i)) j ≤ j := ct_le _ _
    rw [ix_n (by omega), ix_n (by omega), g50 i c]
    refine pk_le nb j (fun c2 => ?_) (fun c2 => ⟨hin, fun z => ?_, fun z => ⟨vp_in_nI (by omega) (by decide), hin, ?_⟩⟩) g3 rfl (by omega) (by omega)
    · have hd := drp_m H hnb c
      rw [show j = nb by omega] at hle ⊢
      refine pk_le _ 1 (fun c3 => fin _ ?_) (fun c3 => ⟨hin, fin _ ?_⟩) rfl rfl (by omega) (by omega)
      · rw [if_pos c3] at hd; exact hd
      · rw [if_neg (by omega)] at hd; exact hd
    · exact hkk _ _ _ _ ⟨rfl, rfl, j + 1, by omega, nIs j, by rw [ct_f (by simp [z])]⟩ (by rw [nIs, ix_n (by omega), ix_n (by omega)]; omega)
    · rw [g50 j c2]
      exact ⟨fun y => hkk _ _ _ _ ⟨rfl, rfl, j + 1, by omega, nIs j, by rw [ct_f (by simp [y])]⟩ (by rw [nIs, ix_n (by omega), ix_n (by omega)]; omega), fun y => hkk _ _ _ _ ⟨rfl, rfl, j + 1, by omega, nIs j, by rw [ct_t (by simp [y, z]), nIs]⟩ (by rw [nIs, ix_n (by omega), ix_n (by omega)]; omega)⟩
/-- the search for the least, as the reference does it: over a row, once -/
theorem blk_m {h cs my : Nat → Int32} {nb f b s : Nat} (H : Can h nb cs) (hnb : nb ≤ 100) (hb : b < nb) (hs : cs b = nI s) (hs2 : s ≤ 64) (hf : f ≤ 56) (h1 : ¬ h b = -1) : fst (pb h cs my f b) (b + 1) = blk h cs my f b := by
  by_cases h2 : cs b ≤ nI f
  · rw [blk_k (Or.inr h2)]
    rcases H.c b with e | ⟨-, r, hr, e1, e2, -⟩
    · exact absurd e h1
    · rw [e1]
      have hsf : s ≤ f := by rw [hs] at h2; exact (nI_leI (by omega) (by omega)).mp h2
      refine fst_yes ?_ (by omega) (fun k hk => pb_lo hnb H hb e1 hk (by omega)) (by omega)
      unfold pb
      have ht := (tob_le hs hs2 hf).2
      rw [if_pos (by omega)] at ht
      rw [ht, e1, decide_eq_true e2, alk_iff.mpr (fun k k1 k2 => by omega)]; rfl
  · unfold blk
    rw [if_neg (fun z => by rcases z with z | z; exact h1 z; exact h2 z)]
theorem s_find_m {post : Int32 → Mem → Prop} {μ : Mem} {cb cs my : Nat → Int32} {n nb : Nat} (h2 : μ 31 2 = nI n) (hn : n ≤ 60) (h3 : μ 31 3 = nI nb) (hnb : nb ≤ 100) (hs : ∀ b, b < 100 → ∃ s, s ≤ 64 ∧ cs b = nI s) (h38 : ∀ b, b < 100 → μ 38 b = cs b) (h42 : μ 42 = my) (hh : ∀ b, hav (ebd (μ 34) (μ 36)) n (nI b) = hav cb n (nI b)) (hp : ∀ m : Mem, (∀ k, k ≠ 31 → k ≠ 41 → k ≠ 50 → k ≠ 51 → m k = μ k) → (∀ j, j ≠ 0 → j ≠ 6 → j ≠ 7 → m 31 j = μ 31 j) → (∀ b, b < nb → m 41 b = grp (fnd cb cs my n nb 8) b) → m 31 6 = nI (ct (isr (fnd cb cs my n nb 8)) nb) → m 31 7 = rds cb cs my n nb 8 → post (nI (ct (isr (fnd cb cs my n nb 8)) nb)) m) : w_X8_find post μ := by
  unfold w_X8_find
  intro m0 em0 m1 em1
  have a31 : ∀ j, j ≠ 0 → j ≠ 7 → m1 31 j = μ 31 j := fun j j1 j2 => by rw [em1, em0]; simp [wrA, updA, j1, j2]
  have aO : ∀ k, k ≠ 31 → m1 k = μ k := fun k hk => by rw [em1, wrA, if_neg hk, em0, wrA, if_neg hk]
  have a7 : m1 31 7 = 0 := by rw [em1]; simp [wrA, updA]
  clear em0 em1
  -- numbering
  have number : ∀ m : Mem, (∀ k, k ≠ 31 → k ≠ 50 → k ≠ 51 → m k = μ k) → (∀ j, j ≠ 0 → j ≠ 6 → j ≠ 7 → m 31 j = μ 31 j) → (∀ b, b < nb → m 50 b = fnd cb cs my n nb 8 b) → m 31 7 = rds cb cs my n nb 8 → (∀ m6 : Mem, m6 = wr m 31 6 (0 : Int32) → ∃ N : Nat, itr (fun _ _ => False) (w_X8_find_b314 post) N (0 : Int32) m6) := fun m mO m31 m50 m7 m6 em6 => by
    have H := fnd_c (cb := cb) (cs := cs) (my := my) (n := n) hnb 8
    generalize fnd cb cs my n nb 8 = F at hp m50 H
    refine wl1 (fun x M => ∃ i, i ≤ nb ∧ x = nI i ∧ (∀ k, k ≠ 31 → k ≠ 41 → M k = m k) ∧ (∀ j, j ≠ 6 → M 31 j = m 31 j) ∧ (∀ b, b < i → M 41 b = grp F b) ∧ M 31 6 = nI (ct (isr F) i)) (fun x _ => nb - ix x) ?_ _ _ ⟨0, by omega, rfl, fun k h1 _ => by rw [em6, wrA, if_neg h1], fun j hj => by rw [em6]; simp [wrA, updA, hj], fun b hb => absurd hb (Nat.not_lt_zero b), by rw [em6]; simp [wrA, updA]; rfl⟩
    rintro k x M ⟨i, hi, rfl, MO, M31, M41, M6⟩ hk
    unfold w_X8_find_b314
    have g3 : M 31 3 = nI nb := by rw [M31 3 (by decide), m31 3 (by decide) (by decide) (by decide)]; exact h3
    have g50 : ∀ b, b < nb → M 50 b = F b := fun b hb => by rw [MO 50 (by decide) (by decide)]; exact m50 b hb
    refine pk_le nb i (fun c => ?_) (fun c => ?_) g3 rfl (by omega) (by omega)
    · have : i = nb := by omega
      subst this
      rw [M6]
      refine hp M (fun k k1 k2 k3 k4 => (MO k k1 k2).trans (mO k k1 k3 k4)) (fun j j1 j2 j3 => (M31 j j2).trans (m31 j j1 j2 j3)) M41 M6 (by rw [M31 7 (by decide)]; exact m7)
    · have hin : vp_in (nI i) 100 := vp_in_nI (by omega) (by decide)
      have fin : ∀ v, v = grp F i → w_X8_find_b369 post k (nI i) v (nI i) M := fun v hv => by
        unfold w_X8_find_b369
        rw [ix_n (by omega)]
        refine ⟨hin, fun M2 E2 => ⟨hin, ?_⟩⟩
        rw [show M2 50 i = F i by rw [E2, wrA, if_neg (by decide)]; exact g50 i c]
        have r41 : ∀ b, b < i + 1 → M2 41 b = grp F b := fun b hb => by
          rw [E2, wrA, if_pos rfl, updA]
          by_cases y : b = i
          · rw [if_pos y, hv, y]
          · rw [if_neg y]; exact M41 b (by omega)
        have rO : ∀ k, k ≠ 41 → M2 k = M k := fun k hk => by rw [E2, wrA, if_neg hk]
        refine ⟨fun z => hk _ _ ⟨i + 1, by omega, nIs i, fun k k1 k2 => (rO k k2).trans (MO k k1 k2), fun j hj => by rw [rO 31 (by decide)]; exact M31 j hj, r41, ?_⟩ (by rw [nIs, ix_n (by omega), ix_n (by omega)]; omega), fun z M3 E3 => hk _ _ ⟨i + 1, by omega, nIs i, fun k k1 k2 => by rw [E3, wrA, if_neg k1]; exact (rO k k2).trans (MO k k1 k2), fun j hj => by rw [E3, wrA, if_pos rfl, updA, if_neg hj, rO 31 (by decide)]; exact M31 j hj, fun b hb => by rw [E3, wrA, if_neg (by decide)]; exact r41 b hb, ?_⟩ (by rw [nIs, ix_n (by omega), ix_n (by omega)]; omega)⟩
        · rw [rO 31 (by decide), M6, ct_f (by unfold isr; exact decide_eq_false z)]
        · rw [E3, wrA, if_pos rfl, updA, if_pos rfl, rO 31 (by decide), M6, nIs, ct_t (by unfold isr; exact decide_eq_true z)]
      rw [ix_n (by omega), g50 i c]
      refine ⟨hin, fun z => ⟨hin, fun z2 => ⟨hin, ?_⟩, fun z2 => fin _ ?_⟩, fun z => fin _ (by unfold grp; rw [if_pos z])⟩
      · obtain ⟨r, hr, e1, e2⟩ : ∃ r, r ≤ i ∧ F i = nI r ∧ F r = nI r := by
          rcases H.c i with y | ⟨-, r, y1, y2, y3, -⟩
          · exact absurd y z
          · exact ⟨r, y1, y2, y3⟩
        have hri : r ≠ i := fun y => z2 (by rw [e1, y])
        rw [e1, ix_n (by omega)]
        refine ⟨vp_in_nI (by omega) (by decide), fin _ ?_⟩
        rw [M41 r (by omega)]
        unfold grp
        rw [if_neg z, e1, e2, if_neg (nI_m1 (by omega))]
      · rw [M6]
        unfold grp
        rw [if_neg z, z2, ix_n (by omega)]
  -- blocks
  have blocks : ∀ m : Mem, (∀ k, k ≠ 31 → k ≠ 50 → k ≠ 51 → m k = μ k) → (∀ j, j ≠ 0 → j ≠ 6 → j ≠ 7 → m 31 j = μ 31 j) → (∀ b, b < nb → m 50 b = fnd cb cs my n nb 0 b) → m 31 7 = 0 → ∃ N : Nat, itr (fun _ _ => False) (w_X8_find_b119 post) N (0 : Int32) m := fun m mO m31 m50 m7 => by
    refine wl1 (fun x M => ∃ i, i ≤ 8 ∧ x = nI (8 * i) ∧ (∀ k, k ≠ 31 → k ≠ 50 → k ≠ 51 → M k = μ k) ∧ (∀ j, j ≠ 0 → j ≠ 6 → j ≠ 7 → M 31 j = μ 31 j) ∧ (∀ b, b < nb → M 50 b = fnd cb cs my n nb i b) ∧ M 31 7 = rds cb cs my n nb i) (fun x _ => 64 - ix x) ?_ _ _ ⟨0, by omega, rfl, mO, m31, m50, m7⟩
    rintro k x M ⟨i, hi, rfl, MO, M31, M50, M7⟩ hk
    unfold w_X8_find_b119
    refine pk_le 64 (8 * i) (fun c => ?_) (fun c => ?_) rfl rfl (by omega) (by omega)
    · have : i = 8 := by omega
      subst this
      exact number M MO M31 M50 M7
    · have H := fnd_c (cb := cb) (cs := cs) (my := my) (n := n) hnb i
      have nxt : ∀ m2 : Mem, (∀ k, k ≠ 31 → k ≠ 50 → k ≠ 51 → m2 k = μ k) → (∀ j, j ≠ 0 → j ≠ 6 → j ≠ 7 → m2 31 j = μ 31 j) → (∀ b, b < nb → m2 50 b = fnd cb cs my n nb (i + 1) b) → m2 31 7 = rds cb cs my n nb (i + 1) → k (nI (8 * i) + 8) m2 := fun m2 q1 q2 q3 q4 => by
        refine hk _ _ ⟨i + 1, by omega, ?_, q1, q2, q3, q4⟩ ?_
        · rw [show (8 : Int32) = nI 8 from rfl, nI_add]; congr 1
        · rw [show (8 : Int32) = nI 8 from rfl, nI_add, ix_n (by omega), ix_n (by omega)]; omega
      have efn : fnd cb cs my n nb (i + 1) = drp (blk (fnd cb cs my n nb i) cs my (8 * i)) := rfl
      have erd : rds cb cs my n nb (i + 1) = rds cb cs my n nb i + nI (ct (rdp (fnd cb cs my n nb i) cs (8 * i)) nb) := rfl
      rw [efn, erd] at nxt
      rw [← M7] at nxt
      generalize fnd cb cs my n nb i = F at H M50 nxt
      generalize hf : 8 * i = f at c nxt
      have hf56 : f ≤ 56 := by omega
      clear hk hf
      refine wl2 (fun x y m2 => x = nI f ∧ ∃ j, j ≤ nb ∧ y = nI j ∧ (∀ k, k ≠ 31 → k ≠ 51 → m2 k = M k) ∧ (∀ j, j ≠ 7 → m2 31 j = M 31 j) ∧ (∀ b, b < j → m2 51 b = blk F cs my f b) ∧ m2 31 7 = M 31 7 + nI (ct (rdp F cs f) j)) (fun _ y _ => nb - ix y) ?_ _ _ _ ⟨rfl, 0, by omega, rfl, fun k _ _ => rfl, fun j _ => rfl, fun b hb => absurd hb (Nat.not_lt_zero b), by show _ = _ + (0 : Int32); rw [Int32.add_zero]⟩
      rintro kk x y m2 ⟨rfl, j, hj, rfl, NO, N31, N51, N7⟩ hkk
      have g3 : m2 31 3 = nI nb := by rw [N31 3 (by decide), M31 3 (by decide) (by decide) (by decide)]; exact h3
      have g50 : ∀ b, b < nb → m2 50 b = F b := fun b hb => by rw [NO 50 (by decide) (by decide)]; exact M50 b hb
      have g38 : ∀ b, b < 100 → m2 38 b = cs b := fun b hb => by rw [NO 38 (by decide) (by decide), MO 38 (by decide) (by decide) (by decide)]; exact h38 b hb
      have g42 : m2 42 = my := by rw [NO 42 (by decide) (by decide), MO 42 (by decide) (by decide) (by decide)]; exact h42
      unfold w_X8_find_b127
      refine pk_le nb j (fun c2 => ?_) (fun c2 => ?_) g3 rfl (by omega) (by omega)
      · have : j = nb := by omega
        subst this
        refine wl2 (fun x y m3 => x = nI f ∧ ∃ t, t ≤ j ∧ y = nI t ∧ (∀ k, k ≠ 50 → m3 k = m2 k) ∧ (∀ b, b < t → m3 50 b = blk F cs my f b)) (fun _ y _ => j - ix y) ?_ _ _ _ ⟨rfl, 0, by omega, rfl, fun k _ => rfl, fun b hb => absurd hb (Nat.not_lt_zero b)⟩
        rintro k3 x y m3 ⟨rfl, t, ht, rfl, PO, P50⟩ hk3
        unfold w_X8_find_b271
        refine pk_le j t (fun c3 => ?_) (fun c3 => ?_) (by rw [PO 31 (by decide)]; exact g3) rfl (by omega) (by omega)
        · refine s_drops (by rw [PO 31 (by decide)]; exact g3) hnb (H.blk hnb f) (fun b hb => P50 b (by omega)) (fun m4 q1 q2 => nxt m4 (fun k k1 k2 k3 => ?_) (fun j' j1 j2 j3 => ?_) q2 ?_)
          · rw [q1 k k2 k3, PO k k2, NO k k1 k3]; exact MO k k1 k2 k3
          · rw [q1 31 (by decide) (by decide), PO 31 (by decide), N31 j' j3]; exact M31 j' j1 j2 j3
          · rw [q1 31 (by decide) (by decide), PO 31 (by decide), N7]
        · have hin : vp_in (nI t) 100 := vp_in_nI (by omega) (by decide)
          rw [ix_n (by omega)]
          refine ⟨hin, hin, fun m4 em => hk3 _ _ _ ⟨rfl, t + 1, by omega, nIs t, fun k hk => by rw [em, wrA, if_neg hk]; exact PO k hk, fun b hb => ?_⟩ (by rw [nIs, ix_n (by omega), ix_n (by omega)]; omega)⟩
          rw [em, wrA, if_pos rfl, updA]
          by_cases y : b = t
          · rw [if_pos y, PO 51 (by decide), N51 t (by omega), y]
          · rw [if_neg y]; exact P50 b (by omega)
      · have hin : vp_in (nI j) 100 := vp_in_nI (by omega) (by decide)
        obtain ⟨s, hs1, hs2⟩ := hs j (by omega)
        -- one body
        have body : ∀ m3 : Mem, (∀ k, k ≠ 31 → m3 k = m2 k) → (∀ i, i ≠ 7 → m3 31 i = m2 31 i) → m3 31 7 = M 31 7 + nI (ct (rdp F cs f) (j + 1)) → w_X8_find_b165 post k kk (nI f) (nI j) m3 := fun m3 r1 r2 r3 => by
          unfold w_X8_find_b165
          rw [ix_n (by omega)]
          refine ⟨hin, fun m4 em4 => ?_⟩
          have nx : ∀ m5 : Mem, (∀ k, k ≠ 51 → m5 k = m3 k) → (∀ b, b < nb → b ≠ j → m5 51 b = m3 51 b) → m5 51 j = blk F cs my f j → kk (nI f) (nI j + 1) m5 := fun m5 t1 t2 t3 => by
            refine hkk _ _ _ ⟨rfl, j + 1, by omega, nIs j, fun k k1 k2 => by rw [t1 k k2, r1 k k1]; exact NO k k1 k2, fun i hi => by rw [t1 31 (by decide), r2 i hi]; exact N31 i hi, fun b hb => ?_, by rw [t1 31 (by decide)]; exact r3⟩ (by rw [nIs, ix_n (by omega), ix_n (by omega)]; omega)
            by_cases y : b = j
            · rw [y]; exact t3
            · rw [t2 b (by omega) y, r1 51 (by decide)]; exact N51 b (by omega)
          have e50 : ∀ b, b < nb → m3 50 b = F b := fun b hb => by rw [r1 50 (by decide)]; exact g50 b hb
          refine wl3 (fun x y z m5 => x = nI f ∧ y = nI j ∧ (∀ k, k ≠ 51 → m5 k = m3 k) ∧ (∀ b, b < nb → b ≠ j → m5 51 b = m3 51 b) ∧ ∃ t, t ≤ j + 1 ∧ z = nI t ∧ ((m5 51 j = -1 ∧ (F j = -1 ∨ ∀ c, c < t → pb F cs my f j c = false)) ∨ (¬ F j = -1 ∧ ∃ c, c ≤ j ∧ m5 51 j = nI c ∧ m5 51 j = blk F cs my f j))) (fun _ _ z _ => j + 1 - ix z) ?_ _ _ _ _ ⟨rfl, rfl, fun k hk => by rw [em4, wrA, if_neg hk], fun b hb hbj => by rw [em4, wrA, if_pos rfl, updA, if_neg hbj], 0, by omega, rfl, Or.inl ⟨by rw [em4, wrA, if_pos rfl, updA, if_pos rfl], Or.inr (fun c hc => absurd hc (Nat.not_lt_zero c))⟩⟩
          rintro k4 x y z m5 ⟨rfl, rfl, t1, t2, t, ht, rfl, hst⟩ hk4
          unfold w_X8_find_b174
          rw [ix_n (by omega), ix_n (by omega), show m5 50 j = F j by rw [t1 50 (by decide)]; exact e50 j c2]
          -- whatever the state, leaving is right when the row has its value
          have leave : m5 51 j = blk F cs my f j → kk (nI f) (nI j + 1) m5 := fun e => nx m5 t1 t2 e
          refine pk_lt j t (fun c3 => ?_) (fun c3 => ⟨hin, fun z => leave ?_, fun z => ⟨hin, fun z2 => leave ?_, fun z2 => ⟨vp_in_nI (by omega) (by decide), hin, ?_⟩⟩⟩) rfl rfl (by omega) (by omega)
          · refine leave ?_
            rcases hst with ⟨e, e2⟩ | ⟨-, c, -, -, e⟩
            · rcases e2 with e2 | e2
              · rw [e, blk_k (Or.inl e2), e2]
              · have := e2 j (by omega)
                rw [pb_self] at this; cases this
            · exact e
          · rcases hst with ⟨e, -⟩ | ⟨y, -⟩
            · rw [e, blk_k (Or.inl z), z]
            · exact absurd z y
          · rcases hst with ⟨e, -⟩ | ⟨-, c, -, -, e⟩
            · exact absurd e z2
            · exact e
          · have hpre : ∀ c, c < t → pb F cs my f j c = false := by
              rcases hst with ⟨-, e2⟩ | ⟨-, c, hc, e, -⟩
              · rcases e2 with e2 | e2
                · exact absurd e2 z
                · exact e2
              · rw [e] at z2; exact absurd z2 (nI_m1 (by omega))
            rw [show m5 50 t = F t by rw [t1 50 (by decide)]; exact e50 t (by omega)]
            have step : pb F cs my f j t = false → k4 (nI f) (nI j) (nI t + 1) m5 := fun hfa => by
              refine hk4 _ _ _ _ ⟨rfl, rfl, t1, t2, t + 1, by omega, nIs t, Or.inl ⟨z2, Or.inr (fun c hc => ?_)⟩⟩ (by rw [nIs, ix_n (by omega), ix_n (by omega)]; omega)
              rcases Nat.lt_or_ge c t with q | q
              · exact hpre c q
              · rw [show c = t by omega]; exact hfa
            have e38 : m5 38 j = nI s := by rw [t1 38 (by decide), r1 38 (by decide), g38 j (by omega)]; exact hs2
            have e42 : m5 42 = my := by rw [t1 42 (by decide), r1 42 (by decide)]; exact g42
            obtain ⟨ht1, ht2⟩ := tob_le hs2 hs1 hf56
            refine ⟨fun y => step (by unfold pb; rw [decide_eq_false y]; rfl), fun y => ⟨hin, ?_⟩⟩
            have same : w_X8_find_b244 post k kk k4 (nI f) (nI j) (nI t) (nI (tob cs f j)) (nI f) (nI t) (nI j) m5 := by
              unfold w_X8_find_b244
              refine s_alike_m (by omega) (by omega) ht1 (by omega) (fun a => t_n (by decide) ⟨hin, fun m6 em6 => ?_⟩) (fun a => t_y rfl (step ?_))
              · rw [ix_n (by omega)] at em6
                rw [e42, alk_sym] at a
                have hq : pb F cs my f j t = true := by unfold pb; rw [a, decide_eq_true y]; rfl
                have e9 : blk F cs my f j = nI t := by rw [← blk_m H hnb c2 hs2 hs1 hf56 z]; exact fst_yes hq (by omega) hpre (by omega)
                refine hk4 _ _ _ _ ⟨rfl, rfl, fun k hk => by rw [em6, wrA, if_neg hk]; exact t1 k hk, fun b hb hbj => by rw [em6, wrA, if_pos rfl, updA, if_neg hbj]; exact t2 b hb hbj, t + 1, by omega, nIs t, Or.inr ⟨z, t, by omega, by rw [em6, wrA, if_pos rfl, updA, if_pos rfl], by rw [em6, wrA, if_pos rfl, updA, if_pos rfl, e9]⟩⟩ (by rw [nIs, ix_n (by omega), ix_n (by omega)]; omega)
              · rw [e42, alk_sym] at a
                unfold pb; rw [a, Bool.and_false]
            rw [e38, show (8 : Int32) = nI 8 from rfl, nI_add]
            refine pk_le s (f + 8) (fun q => ⟨hin, ?_⟩) (fun q => ?_) rfl rfl (by omega) (by omega)
            · have : tob cs f j = s := by rw [ht2]; split <;> omega
              rw [this] at same; exact same
            · have : tob cs f j = f + 8 := by rw [ht2, if_neg (by omega)]
              rw [this] at same; exact same
        rw [ix_n (by omega), g50 j c2, g38 j (by omega)]
        have skip : (F j = -1 ∨ cs j ≤ nI f) → w_X8_find_b165 post k kk (nI f) (nI j) m2 := fun hh => body m2 (fun k _ => rfl) (fun i _ => rfl) (by rw [N7, ct_f (by unfold rdp; rcases hh with hh | hh <;> simp [hh])])
        refine ⟨hin, fun z => skip (Or.inl z), fun z => ⟨hin, fun z2 => skip (Or.inr z2), fun z2 m3 em3 => body m3 (fun k hk => by rw [em3, wrA, if_neg hk]) (fun i hi => by rw [em3, wrA, if_pos rfl, updA, if_neg hi]) ?_⟩⟩
        rw [em3, wrA, if_pos rfl, updA, if_pos rfl, N7, ct_t (by unfold rdp; simp [z, z2]), Int32.add_assoc, nIs]
  -- the first heaps
  refine wl1 (fun x M => ∃ i, i ≤ nb ∧ x = nI i ∧ (∀ k, k ≠ 50 → M k = m1 k) ∧ (∀ b, b < i → M 50 b = h0 cb cs n nb b)) (fun x _ => nb - ix x) ?_ _ _ ⟨0, by omega, rfl, fun k _ => rfl, fun b hb => absurd hb (Nat.not_lt_zero b)⟩
  rintro k x M ⟨i, hi, rfl, MO, M50⟩ hk
  have g3 : M 31 3 = nI nb := by rw [MO 31 (by decide), a31 3 (by decide) (by decide)]; exact h3
  unfold w_X8_find_b12
  refine pk_le nb i (fun c => ?_) (fun c => ?_) g3 rfl (by omega) (by omega)
  · have : i = nb := by omega
    subst this
    refine s_drops (cs := cs) g3 hnb (Can.h0 hnb) M50 (fun m2 q1 q2 => blocks m2 (fun k k1 k2 k3 => ?_) (fun j j1 j2 j3 => ?_) q2 ?_)
    · rw [q1 k k2 k3, MO k k2]; exact aO k k1
    · rw [q1 31 (by decide) (by decide), MO 31 (by decide)]; exact a31 j j1 j3
    · rw [q1 31 (by decide) (by decide), MO 31 (by decide)]; exact a7
  · have hin : vp_in (nI i) 100 := vp_in_nI (by omega) (by decide)
    rw [ix_n (by omega)]
    refine ⟨hin, fun M2 E2 => ⟨hin, ?_⟩⟩
    have r50 : ∀ b, b < i → M2 50 b = h0 cb cs n nb b := fun b hb => by rw [E2, wrA, if_pos rfl, updA, if_neg (by omega)]; exact M50 b hb
    have rO : ∀ k, k ≠ 50 → M2 k = m1 k := fun k hk => by rw [E2, wrA, if_neg hk]; exact MO k hk
    have rG : ∀ k, k ≠ 50 → k ≠ 31 → M2 k = μ k := fun k k1 k2 => (rO k k1).trans (aO k k2)
    have r38 : M2 38 i = cs i := by rw [rG 38 (by decide) (by decide)]; exact h38 i (by omega)
    have r31 : M2 31 2 = nI n := by rw [rO 31 (by decide), a31 2 (by decide) (by decide)]; exact h2
    have nx : ∀ m5 : Mem, (∀ k, k ≠ 50 → m5 k = m1 k) → (∀ b, b < i → m5 50 b = h0 cb cs n nb b) → m5 50 i = h0 cb cs n nb i → k (nI i + 1) m5 := fun m5 t1 t2 t3 => by
      refine hk _ _ ⟨i + 1, by omega, nIs i, t1, fun b hb => ?_⟩ (by rw [nIs, ix_n (by omega), ix_n (by omega)]; omega)
      by_cases y : b = i
      · rw [y]; exact t3
      · exact t2 b (by omega)
    have e2 : M2 50 i = -1 := by rw [E2, wrA, if_pos rfl, updA, if_pos rfl]
    have no : al0 cb cs n i = false → w_X8_find_b48 post k (nI i) M2 := fun hal => by
      unfold w_X8_find_b48 w_X8_find_b49
      refine wl3 (fun x y z m5 => x = nI i ∧ y = 0 ∧ z = 0 ∧ m5 = M2) (fun _ _ _ _ => 0) ?_ _ _ _ _ ⟨rfl, rfl, rfl, rfl⟩
      rintro k4 x y z m5 ⟨rfl, rfl, rfl, rfl⟩ hk4
      unfold w_X8_find_b52
      exact t_n (nI_neg (by omega)) (t_y rfl (nx m5 rO r50 (by rw [e2, h0_n (fun y => by rw [hal] at y; cases y.2)])))
    rw [r38]
    refine ⟨fun z => no (by unfold al0; simp [z]), fun z => s_X8_names r31 hn (nI_m1 (by omega)) ?_⟩
    rw [rG 34 (by decide) (by decide), rG 36 (by decide) (by decide), hh i]
    have hle : hav cb n (nI i) ≤ n := ct_le _ _
    refine pk_le _ 0 (fun c2 => no ?_) (fun c2 => ?_) rfl rfl (by omega) (by omega)
    · unfold al0 thr
      rw [decide_eq_false (show ¬ 0 < hav cb n (nI i) by omega), Bool.and_false]
    · have ha : al0 cb cs n i = true := by
        unfold al0 thr
        rw [decide_eq_true c2, decide_eq_false z]; rfl
      obtain ⟨c0, d1, d2, d3, d4⟩ := h0_y c hnb ha
      unfold w_X8_find_b49
      refine wl3 (fun x y z m5 => x = nI i ∧ y = 1 ∧ (∀ k, k ≠ 50 → m5 k = m1 k) ∧ (∀ b, b < i → m5 50 b = h0 cb cs n nb b) ∧ ∃ t, t ≤ i + 1 ∧ z = nI t ∧ ((m5 50 i = -1 ∧ t ≤ c0) ∨ m5 50 i = nI c0)) (fun _ _ z _ => i + 1 - ix z) ?_ _ _ _ _ ⟨rfl, rfl, rO, r50, 0, by omega, rfl, Or.inl ⟨e2, by omega⟩⟩
      rintro k4 x y z5 m5 ⟨rfl, rfl, t1, t2, t, ht, rfl, hst⟩ hk4
      unfold w_X8_find_b52
      rw [ix_n (by omega), ix_n (by omega)]
      have t1' : ∀ k, k ≠ 50 → k ≠ 31 → m5 k = μ k := fun k k1 k2 => (t1 k k1).trans (aO k k2)
      refine pk_lt i t (fun c3 => ?_) (fun c3 => t_n (by decide) ⟨hin, fun z3 => ?_, fun z3 => ⟨vp_in_nI (by omega) (by decide), hin, ?_⟩⟩) rfl rfl (by omega) (by omega)
      · rcases hst with ⟨-, e⟩ | e
        · omega
        · exact nx m5 t1 t2 (by rw [e, d2])
      · rcases hst with ⟨e, -⟩ | e
        · exact absurd e z3
        · exact nx m5 t1 t2 (by rw [e, d2])
      · have htc : t ≤ c0 := by
          rcases hst with ⟨-, e⟩ | e
          · exact e
          · rw [e] at z3; exact absurd z3 (nI_m1 (by omega))
        rw [t1' 38 (by decide) (by decide), h38 t (by omega), h38 i (by omega)]
        have step : q0 cb cs n i t = false → k4 (nI i) 1 (nI t + 1) m5 := fun hq => by
          have : t ≠ c0 := fun y => by rw [y, d3] at hq; cases hq
          exact hk4 _ _ _ _ ⟨rfl, rfl, t1, t2, t + 1, by omega, nIs t, Or.inl ⟨z3, by omega⟩⟩ (by rw [nIs, ix_n (by omega), ix_n (by omega)]; omega)
        refine ⟨fun y => step (by unfold q0; rw [decide_eq_false y, Bool.and_false]), fun y => s_X8_names (n := n) (by rw [t1 31 (by decide), a31 2 (by decide) (by decide)]; exact h2) hn (nI_m1 (by omega)) ?_⟩
        rw [t1' 34 (by decide) (by decide), t1' 36 (by decide) (by decide), hh t]
        have hle2 : hav cb n (nI t) ≤ n := ct_le _ _
        refine pk_le _ 0 (fun c4 => step ?_) (fun c4 => ⟨hin, fun m6 em6 => ?_⟩) rfl rfl (by omega) (by omega)
        · unfold q0 thr
          rw [decide_eq_false (show ¬ 0 < hav cb n (nI t) by omega), Bool.false_and]
        · have hq : q0 cb cs n i t = true := by unfold q0 thr; rw [decide_eq_true c4, decide_eq_true y]; rfl
          have : t = c0 := by
            rcases Nat.lt_or_ge t c0 with q | q
            · rw [d4 t q] at hq; cases hq
            · omega
          refine hk4 _ _ _ _ ⟨rfl, rfl, fun k hk => by rw [em6, wrA, if_neg hk]; exact t1 k hk, fun b hb => by rw [em6, wrA, if_pos rfl, updA, if_neg (by omega)]; exact t2 b hb, t + 1, by omega, nIs t, Or.inr (by rw [em6, wrA, if_pos rfl, updA, if_pos rfl, this])⟩ (by rw [nIs, ix_n (by omega), ix_n (by omega)]; omega)
theorem op_find {K : Int32 → Int32 → Mem → Prop} {μ : Mem} (hI : InvE μ) (hK : ∀ b m, InvE m → K b b m) : w_X7_find (fun r m => w_X8_find (K r) m) μ := by
  obtain ⟨nf, n, nb, w, q, lt, hI⟩ := hI
  obtain ⟨⟨⟨c1, m1, f1, f2⟩, ⟨c2, m2, f3⟩, ⟨c3, m3, f4⟩, hC4, hC5, hC6⟩, hFo, hFi, hHe, hBo, hBy, hGr, hWi, hLe, hMe⟩ := hI
  refine s_find_c (my := μ 42) c2 f3 c3 f4 (fun b hb => (hBo b hb).1) (fun j hj => (hBy.1 j hj).1) (fun m r1 r2 r3 r4 => ?_)
  have r : ∀ k, k ≠ 4 → k ≠ 22 → k ≠ 23 → k ≠ 24 → m k = μ k := r1
  refine s_find_m (cb := μ 16) (cs := μ 19) (my := μ 42) (by rw [r 31 (by decide) (by decide) (by decide) (by decide)]; exact m2) f3 (by rw [r 31 (by decide) (by decide) (by decide) (by decide)]; exact m3) f4 (fun b hb => (hBo b hb).1) (fun b hb => by rw [r 38 (by decide) (by decide) (by decide) (by decide)]; exact (hBo b hb).2.1) (r 42 (by decide) (by decide) (by decide) (by decide)) (fun b => by rw [r 34 (by decide) (by decide) (by decide) (by decide), r 36 (by decide) (by decide) (by decide) (by decide)]; exact hav_cong (hFi.ebd f2)) (fun M q1 q2 q3 q4 q5 => hK _ _ ⟨nf, n, nb, w, q, lt, ?_⟩)
  have s : ∀ k, k ≠ 4 → k ≠ 22 → k ≠ 23 → k ≠ 24 → k ≠ 31 → k ≠ 41 → k ≠ 50 → k ≠ 51 → M k = μ k := fun k k1 k2 k3 k4 k5 k6 k7 k8 => (q1 k k5 k6 k7 k8).trans (r k k1 k2 k3 k4)
  have s31 : ∀ j, j ≠ 0 → j ≠ 6 → j ≠ 7 → M 31 j = μ 31 j := fun j j1 j2 j3 => by rw [q2 j j1 j2 j3, r 31 (by decide) (by decide) (by decide) (by decide)]
  have e4 : M 4 = m 4 := q1 4 (by decide) (by decide) (by decide) (by decide)
  have e22 : M 22 = m 22 := q1 22 (by decide) (by decide) (by decide) (by decide)
  have e57 : (fun r => M (r + 57)) = (fun r => μ (r + 57)) := funext fun r => s (r + 57) (by omega) (by omega) (by omega) (by omega) (by omega) (by omega) (by omega) (by omega)
  unfold Inv ICt
  rw [e57, s 1 (by decide) (by decide) (by decide) (by decide) (by decide) (by decide) (by decide) (by decide), s 2 (by decide) (by decide) (by decide) (by decide) (by decide) (by decide) (by decide) (by decide), s 3 (by decide) (by decide) (by decide) (by decide) (by decide) (by decide) (by decide) (by decide), s 7 (by decide) (by decide) (by decide) (by decide) (by decide) (by decide) (by decide) (by decide), s 8 (by decide) (by decide) (by decide) (by decide) (by decide) (by decide) (by decide) (by decide), s 0 (by decide) (by decide) (by decide) (by decide) (by decide) (by decide) (by decide) (by decide)]
  rw [s31 1 (by decide) (by decide) (by decide), s31 2 (by decide) (by decide) (by decide), s31 3 (by decide) (by decide) (by decide), s31 8 (by decide) (by decide) (by decide), s31 23 (by decide) (by decide) (by decide), s31 4 (by decide) (by decide) (by decide), s31 5 (by decide) (by decide) (by decide), e4, e22, r3, q4, r4, q5]
  have t : ∀ k, (9 ≤ k ∧ k ≤ 21) ∨ (27 ≤ k ∧ k ≤ 29) ∨ (32 ≤ k ∧ k ≤ 40) ∨ (42 ≤ k ∧ k ≤ 49) → M k = μ k := fun k hk => s k (by omega) (by omega) (by omega) (by omega) (by omega) (by omega) (by omega) (by omega)
  rw [t 9 (by omega), t 11 (by omega), t 12 (by omega), t 13 (by omega), t 14 (by omega), t 15 (by omega), t 16 (by omega), t 17 (by omega), t 18 (by omega), t 19 (by omega), t 20 (by omega), t 21 (by omega), t 27 (by omega), t 28 (by omega), t 29 (by omega), t 32 (by omega), t 33 (by omega), t 34 (by omega), t 35 (by omega), t 36 (by omega), t 37 (by omega), t 38 (by omega), t 39 (by omega), t 40 (by omega), t 42 (by omega), t 43 (by omega), t 44 (by omega), t 45 (by omega), t 46 (by omega), t 47 (by omega), t 48 (by omega), t 49 (by omega)]
  have H := fnd_c (cb := μ 16) (cs := μ 19) (my := μ 42) (n := n) f4 8
  refine ⟨⟨⟨c1, m1, f1, f2⟩, ⟨c2, m2, f3⟩, ⟨c3, m3, f4⟩, hC4, hC5, hC6.1, hC6.2.1, rfl, rfl⟩, hFo, hFi, hHe, hBo, hBy, ⟨fun b h1 h2 => ?_, fun f hf b hb e => ?_⟩, hWi, hLe, hMe⟩
  · rw [r2 b h2]
    unfold grp
    rw [if_pos (H.1 b h1)]
  · rw [r2 b (by omega), q3 b hb]
