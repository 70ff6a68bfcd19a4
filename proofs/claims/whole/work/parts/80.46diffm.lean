section DM
variable {nf n nb : Nat} {ci cn ca cf cnm cb cs : Nat → Int32}
/-- what the pairs seen so far add -/
def vt (ci cn cf cnm cb cs my : Nat → Int32) (nf n a : Nat) (b : Int32) (l : Nat → Int32) (i : Nat) : Nat → Nat := fun k => (if hasB l (nI k) i = true then dh ci cn cf cnm cb cs my nf n k (ix (TT ci cn nf a b k)) else 0) + (if 1 ≤ k ∧ hasB l (ci k) i = true ∧ TT ci cn nf a b k = -1 then 1 else 0)
def uP (ci cn : Nat → Int32) (nf f g : Nat) : Nat → Bool := fun k => decide (1 ≤ k) && (decide (ci k = nI f) && decide (fst (sea ci cn 1 (nI g) (cn k)) nf = -1))
/-- the list of pairs -/
def Lst (ci cn : Nat → Int32) (nf a : Nat) (b : Int32) (l r : Nat → Int32) (p : Nat) : Prop := 1 ≤ p ∧ l 0 = nI a ∧ (∀ j, j < p → ∃ k, k < nf ∧ l j = nI k ∧ ¬ TT ci cn nf a b k = -1 ∧ r j = TT ci cn nf a b k) ∧ (∀ i j, i < j → j < p → l i ≠ l j) ∧ ct (fun k => hasB l (nI k) p) nf = p
theorem hasB_cong {r r' : Nat → Int32} {v : Int32} {n : Nat} (h : ∀ j, j < n → r' j = r j) : hasB r' v n = hasB r v n := by
  cases e : hasB r v n
  · exact hasB_no.mpr (fun j hj => by rw [h j hj]; exact hasB_no.mp e j hj)
  · obtain ⟨j, hj, ej⟩ := hasB_iff.mp e
    exact hasB_iff.mpr ⟨j, hj, by rw [h j hj]; exact ej⟩
theorem Lst.push {a p k : Nat} {b : Int32} {l r l' r' : Nat → Int32} (h : Lst ci cn nf a b l r p) (hnf : nf ≤ 16) (hk : k < nf) (hT : ¬ TT ci cn nf a b k = -1) (hno : hasB l (nI k) p = false) (h1 : ∀ j, j < p → l' j = l j ∧ r' j = r j) (h2 : l' p = nI k) (h3 : r' p = TT ci cn nf a b k) : Lst ci cn nf a b l' r' (p + 1) := by
  obtain ⟨q1, q2, q3, q4, q5⟩ := h
  refine ⟨by omega, by rw [(h1 0 (by omega)).1]; exact q2, fun j hj => ?_, fun i j hij hj => ?_, ?_⟩
  · rcases Nat.lt_or_ge j p with c | c
    · rw [(h1 j c).1, (h1 j c).2]; exact q3 j c
    · rw [show j = p by omega]; exact ⟨k, hk, h2, hT, h3⟩
  · rcases Nat.lt_or_ge j p with c | c
    · rw [(h1 i (by omega)).1, (h1 j c).1]; exact q4 i j hij c
    · rw [show j = p by omega, h2, (h1 i (by omega)).1]
      exact hasB_no.mp hno i (by omega)
  · have e : ct (fun x => hasB l' (nI x) (p + 1)) nf = ct (fun x => hasB l (nI x) p || decide (x = k)) nf := ct_cong (fun x hx => by
      show hasB l' (nI x) (p + 1) = (hasB l (nI x) p || decide (x = k))
      rw [hasB_s, hasB_cong (fun j hj => (h1 j hj).1), h2]
      congr 1
      by_cases c : x = k
      · rw [c]; simp
      · rw [decide_eq_false c, decide_eq_false (fun z => c ((nI_eq (by omega) (by omega)).mp z).symm)])
    rw [e, ct_or (fun x hx z => by
      have := of_decide_eq_true z.2
      rw [this, hno] at z
      cases z.1), q5]
    have : ct (fun x => decide (x = k)) nf = 1 := by
      have hs := sm_ct (fun x => decide (x = k)) nf
      rw [← hs, sm_cong (g := fun x => if x = k then 1 else 0) (fun x _ => by simp)]
      exact sm_one hk
    rw [this]
theorem Lst.le {a p : Nat} {b : Int32} {l r : Nat → Int32} (h : Lst ci cn nf a b l r p) : p ≤ nf := by
  have := ct_le (fun k => hasB l (nI k) p) nf
  rw [h.2.2.2.2] at this
  exact this
theorem s_differ_m {post : Int32 → Mem → Prop} {μ : Mem} {a b : Nat} (h1 : μ 31 1 = nI nf) (hnf1 : 1 ≤ nf) (hnf : nf ≤ 16) (ha : a < nf) (hb : b < nf) (h2 : μ 31 2 = nI n) (hn : n ≤ 60) (hnb : nb ≤ 100) (hFo : IFo nf ci cn ca (μ 32) (μ 33)) (hFi : IFi nf n nb cf cnm cb (μ 34) (μ 35) (μ 36)) (hs : ∀ b, b < 100 → ∃ s, s ≤ 64 ∧ cs b = nI s) (h38 : ∀ b, b < 100 → μ 38 b = cs b) (hp : ∀ m : Mem, (∀ k, k ≠ 52 → k ≠ 53 → m k = μ k) → post (nI (sm (wt ci cn cf cnm cb cs (μ 42) nf n a (nI b)) nf)) m) : ∀ m7 : Mem, m7 = wr μ 52 (ix (0 : Int32)) (nI a) → (vp_in (0 : Int32) 16 ∧ ∀ m10 : Mem, m10 = wr m7 53 (ix (0 : Int32)) (nI b) → ∃ N : Nat, itr (fun _ _ _ _ => False) (w_X8_differ_b45 post) N (0 : Int32) (1 : Int32) (0 : Int32) m10) := by
  intro m7 e7
  refine ⟨by unfold vp_in; decide, fun m10 e10 => ?_⟩
  have TTa : TT ci cn nf a (nI b) a = nI b := Tw_a _
  -- which folders have a twin
  have TTge : ∀ k, ¬ TT ci cn nf a (nI b) k = -1 → a ≤ k := fun k hk => by
    rcases Nat.lt_or_ge k a with z | z
    · exact absurd (TT_lt z) hk
    · exact z
  have TTch : ∀ k p, 1 ≤ k → k < nf → p < nf → ci k = nI p → ¬ TT ci cn nf a (nI b) p = -1 → a < k ∧ TT ci cn nf a (nI b) k = fst (sea ci cn 1 (TT ci cn nf a (nI b) p) (cn k)) nf := fun k p hk1 hk hp e hT => by
    have hap := TTge p hT
    obtain ⟨p', hp', e', -⟩ := hFo.2.2.2 k hk1 hk
    have hpp : p' = p := (nI_eq (by omega) (by omega)).mp (by rw [← e', e])
    have hak : a < k := by omega
    obtain ⟨p2, hp2, e2, eT⟩ := TT_gt hFo hnf (a := a) (b := nI b) hak hk
    have hpp2 : p2 = p := (nI_eq (by omega) (by omega)).mp (by rw [← e2, e])
    rw [hpp2, if_neg hT] at eT
    exact ⟨hak, eT⟩
  refine wl3 (fun x y z m => (∀ k, k ≠ 52 → k ≠ 53 → m k = μ k) ∧ ∃ p i, y = nI p ∧ z = nI i ∧ i ≤ p ∧ Lst ci cn nf a (nI b) (m 52) (m 53) p ∧ (∀ k, 1 ≤ k → k < nf → hasB (m 52) (ci k) i = true → ¬ TT ci cn nf a (nI b) k = -1 → hasB (m 52) (nI k) p = true) ∧ (∀ j, 1 ≤ j → j < p → hasB (m 52) (ci (ix (m 52 j))) i = true) ∧ x = nI (sm (vt ci cn cf cnm cb cs (μ 42) nf n a (nI b) (m 52) i) nf)) (fun _ _ z m => 16 - ix z) ?_ _ _ _ _ ⟨fun k k1 k2 => by rw [e10, wrA, if_neg k2, e7, wrA, if_neg k1], 1, 0, rfl, rfl, by omega, ?_, ?_, ?_, ?_⟩
  · rintro k3 x y z m ⟨r, p, i, rfl, rfl, hip, hL, hcl, hpar, rfl⟩ hk3
    have hpn := hL.le
    unfold w_X8_differ_b45
    refine pk_le p i (fun c => ?_) (fun c => ?_) rfl rfl (by omega) (by omega)
    · -- all pairs seen
      have : i = p := by omega
      subst this
      have mem : ∀ k, k < nf → (hasB (m 52) (nI k) i = true ↔ ¬ TT ci cn nf a (nI b) k = -1) := by
        intro k
        induction k using Nat.strongRecOn with
        | ind k ih =>
          intro hk
          constructor
          · intro h
            obtain ⟨j, hj, ej⟩ := hasB_iff.mp h
            obtain ⟨k', hk', e', hT, -⟩ := hL.2.2.1 j hj
            have : k' = k := (nI_eq (by omega) (by omega)).mp (by rw [← e', ej])
            rw [← this]; exact hT
          · intro hT
            have hak := TTge k hT
            rcases Nat.lt_or_ge a k with z | z
            · obtain ⟨p, hpk, ep, eT⟩ := TT_gt hFo hnf (a := a) (b := nI b) z hk
              have hTp : ¬ TT ci cn nf a (nI b) p = -1 := fun y => by rw [y, if_pos rfl] at eT; exact hT eT
              have := (ih p hpk (by omega)).mpr hTp
              exact hcl k (by omega) hk (by rw [ep]; exact this) hT
            · rw [show k = a by omega]
              exact hasB_iff.mpr ⟨0, hL.1, hL.2.1⟩
      have e : sm (vt ci cn cf cnm cb cs (μ 42) nf n a (nI b) (m 52) i) nf = sm (wt ci cn cf cnm cb cs (μ 42) nf n a (nI b)) nf := sm_cong (fun k hk => by
        unfold vt wt
        by_cases hT : TT ci cn nf a (nI b) k = -1
        · rw [if_neg (fun y => (mem k hk).mp y hT), if_pos hT, Nat.zero_add]
          by_cases h1 : 1 ≤ k
          · obtain ⟨p, hpk, ep, -⟩ := hFo.2.2.2 k h1 hk
            rw [ep, ix_n (by omega)]
            have hm := mem p (by omega)
            by_cases hTp : TT ci cn nf a (nI b) p = -1
            · rw [if_neg (fun y => hm.mp y.2.1 hTp), if_neg (fun y => y.2 hTp)]
            · rw [if_pos ⟨h1, hm.mpr hTp, hT⟩, if_pos ⟨h1, hTp⟩]
          · rw [if_neg (fun y => h1 y.1), if_neg (fun y => h1 y.1)]
        · rw [if_pos ((mem k hk).mpr hT), if_neg hT, if_neg (fun y => hT y.2.2), Nat.add_zero])
      rw [e]
      exact hp m r
    · -- one pair
      obtain ⟨f, hf, elf, hTf, erf⟩ := hL.2.2.1 i c
      obtain ⟨g, hg, eg⟩ : ∃ g, g < nf ∧ TT ci cn nf a (nI b) f = nI g := by
        rcases TT_r hFo hnf (a := a) hb hf with y | y
        · exact absurd y hTf
        · exact y
      rw [eg] at erf
      have hin : vp_in (nI i) 16 := vp_in_nI (by omega) (by decide)
      refine ⟨hin, hin, ?_⟩
      rw [ix_n (by omega), elf, erf]
      have hfi : hasB (m 52) (nI f) i = false := hasB_no.mpr (fun j hj e => hL.2.2.2.1 j i hj c (by rw [e, elf]))
      generalize hbase : sm (vt ci cn cf cnm cb cs (μ 42) nf n a (nI b) (m 52) i) nf = base
      have nfm : f ≠ 16 := by omega
      have hne_f : ¬ nI f = -1 := nI_m1 (by omega)
      have hne_g : ¬ nI g = -1 := nI_m1 (by omega)
      -- folders of this pair
      have folders : ∀ (k73 : Int32 → Int32 → Int32 → Int32 → Int32 → Int32 → Mem → Prop), ∃ N : Nat, itr (fun _ _ _ _ _ _ _ => False) (w_X8_differ_b220 post k3) N (nI (base + fd cf cnm cb cs (μ 42) n f g)) (nI p) (nI i) (nI f) (nI g) (1 : Int32) m := fun _ => by
        refine wl6 (fun x y z u v t M => z = nI i ∧ u = nI f ∧ v = nI g ∧ (∀ k, k ≠ 52 → k ≠ 53 → M k = μ k) ∧ ∃ p' k, y = nI p' ∧ t = nI k ∧ 1 ≤ k ∧ k ≤ nf ∧ p ≤ p' ∧ Lst ci cn nf a (nI b) (M 52) (M 53) p' ∧ (∀ j, j < p → M 52 j = m 52 j) ∧ (∀ j, p ≤ j → j < p' → ∃ x, 1 ≤ x ∧ x < k ∧ M 52 j = nI x ∧ ci x = nI f) ∧ (∀ x, 1 ≤ x → x < k → ci x = nI f → ¬ TT ci cn nf a (nI b) x = -1 → hasB (M 52) (nI x) p' = true) ∧ x = nI (base + fd cf cnm cb cs (μ 42) n f g + ct (uP ci cn nf f g) k + ct (aP ci cn nf f g) k)) (fun _ _ _ _ _ t _ => nf - ix t) ?_ _ _ _ _ _ _ _ ⟨rfl, rfl, rfl, r, p, 1, rfl, rfl, by omega, hnf1, Nat.le_refl _, hL, fun j _ => rfl, fun j h1 h2 => by omega, fun x h1 h2 => by omega, by rfl⟩
        rintro k4 x y z u v t M ⟨rfl, rfl, rfl, R, p', k, rfl, rfl, hk1, hk, hpp, hL', hold, hnew, hall, rfl⟩ hk4
        have hpn' := hL'.le
        unfold w_X8_differ_b220
        refine pk_le nf k (fun c2 => ?_) (fun c2 => ?_) (by rw [R 31 (by decide) (by decide)]; exact h1) rfl (by omega) (by omega)
        · have : k = nf := by omega
          subst this
          -- on to the next pair
          have hasi : ∀ v, hasB (M 52) v i = hasB (m 52) v i := fun v => hasB_cong (fun j hj => hold j (by omega))
          have hasi1 : ∀ v, hasB (M 52) v (i + 1) = (hasB (m 52) v i || decide (nI f = v)) := fun v => by rw [hasB_s, hasi, hold i c, elf]
          refine hk3 _ _ _ _ ⟨R, p', i + 1, rfl, nIs i, by omega, hL', fun x hx1 hx hm hT => ?_, fun j hj1 hj => ?_, ?_⟩ ?_
          · rw [hasi1, Bool.or_eq_true] at hm
            rcases hm with hm | hm
            · have := hcl x hx1 hx hm hT
              obtain ⟨j, hj, ej⟩ := hasB_iff.mp this
              exact hasB_iff.mpr ⟨j, by omega, by rw [hold j hj]; exact ej⟩
            · exact hall x hx1 hx (of_decide_eq_true hm).symm hT
          · rw [hasi1, Bool.or_eq_true]
            rcases Nat.lt_or_ge j p with q | q
            · rw [hold j q]; exact Or.inl (hpar j hj1 q)
            · obtain ⟨x, x1, x2, x3, x4⟩ := hnew j q hj
              right
              rw [x3, ix_n (by omega), x4]
              exact decide_eq_true rfl
          · -- the sum
            congr 1
            have ev : ∀ x, x < k → vt ci cn cf cnm cb cs (μ 42) k n a (nI b) (M 52) (i + 1) x = (vt ci cn cf cnm cb cs (μ 42) k n a (nI b) (m 52) i x + (if x = f then dh ci cn cf cnm cb cs (μ 42) k n f g else 0)) + (if uP ci cn k f g x then 1 else 0) := fun x hx => by
              unfold vt
              rw [hasi1, hasi1]
              have hA : (if (hasB (m 52) (nI x) i || decide (nI f = nI x)) = true then dh ci cn cf cnm cb cs (μ 42) k n x (ix (TT ci cn k a (nI b) x)) else 0) = (if hasB (m 52) (nI x) i = true then dh ci cn cf cnm cb cs (μ 42) k n x (ix (TT ci cn k a (nI b) x)) else 0) + (if x = f then dh ci cn cf cnm cb cs (μ 42) k n f g else 0) := by
                by_cases cx : x = f
                · rw [cx, hfi, if_pos rfl, eg, ix_n (by omega)]
                  simp
                · rw [if_neg cx, decide_eq_false (fun y => cx ((nI_eq (by omega) (by omega)).mp y).symm)]
                  simp
              have hB : (if 1 ≤ x ∧ (hasB (m 52) (ci x) i || decide (nI f = ci x)) = true ∧ TT ci cn k a (nI b) x = -1 then 1 else 0) = (if 1 ≤ x ∧ hasB (m 52) (ci x) i = true ∧ TT ci cn k a (nI b) x = -1 then 1 else 0) + (if uP ci cn k f g x then 1 else 0) := by
                unfold uP
                by_cases cx : nI f = ci x
                · have hno : hasB (m 52) (ci x) i = false := by rw [← cx]; exact hfi
                  by_cases c1 : 1 ≤ x
                  · have hT := (TTch x f c1 hx hf cx.symm hTf).2
                    rw [eg] at hT
                    rw [hno, hT]
                    by_cases c3 : fst (sea ci cn 1 (nI g) (cn x)) k = -1
                    · simp [c1, c3, cx]
                    · simp [c1, c3]
                  · simp [c1]
                · have cx' : ¬ ci x = nI f := fun y => cx y.symm
                  simp [cx, cx']
              rw [hA, hB]
              omega
            rw [sm_cong ev, sm_add, sm_add, sm_one hf, sm_ct, hbase]
            unfold dh
            omega
          · rw [nIs, ix_n (by omega), ix_n (by omega)]; omega
        · have hink : vp_in (nI k) 16 := vp_in_nI (by omega) (by decide)
          obtain ⟨pk, hpk, epk, epk2, enk, -⟩ := hFo.2.2.2 k hk1 c2
          -- the second question, whatever the first one did
          have b289 : ∀ (M' : Mem) (p2 u : Nat), (∀ k, k ≠ 52 → k ≠ 53 → M' k = μ k) → p ≤ p2 → Lst ci cn nf a (nI b) (M' 52) (M' 53) p2 → (∀ j, j < p → M' 52 j = m 52 j) → (∀ j, p ≤ j → j < p2 → ∃ x, 1 ≤ x ∧ x < k + 1 ∧ M' 52 j = nI x ∧ ci x = nI f) → (∀ x, 1 ≤ x → x < k + 1 → ci x = nI f → ¬ TT ci cn nf a (nI b) x = -1 → hasB (M' 52) (nI x) p2 = true) → u = base + fd cf cnm cb cs (μ 42) n f g + ct (uP ci cn nf f g) (k + 1) + ct (aP ci cn nf f g) k → w_X8_differ_b289 post k3 k4 (nI u) (nI p2) (nI i) (nI f) (nI g) (nI k) M' := fun M' p2 u R' hpp2 hL2 hold2 hnew2 hall2 hu => by
            unfold w_X8_differ_b289
            rw [ix_n (by omega), R' 32 (by decide) (by decide), R' 33 (by decide) (by decide), epk2, ← epk]
            have go : ∀ u2 : Nat, u2 = base + fd cf cnm cb cs (μ 42) n f g + ct (uP ci cn nf f g) (k + 1) + ct (aP ci cn nf f g) (k + 1) → k4 (nI u2) (nI p2) (nI i) (nI f) (nI g) (nI k + 1) M' := fun u2 hu2 => hk4 _ _ _ _ _ _ _ ⟨rfl, rfl, rfl, R', p2, k + 1, rfl, nIs k, by omega, by omega, hpp2, hL2, hold2, hnew2, hall2, by rw [hu2]⟩ (by rw [nIs, ix_n (by omega), ix_n (by omega)]; omega)
            refine ⟨hink, fun z => go u (by rw [ct_f (p := aP ci cn nf f g) (by unfold aP; rw [decide_eq_false z]; simp)]; exact hu), fun z => ⟨hink, s_X8_child (n := nf) (by rw [R' 31 (by decide) (by decide)]; exact h1) hnf1 hnf ?_⟩⟩
            rw [R' 32 (by decide) (by decide), R' 33 (by decide) (by decide), ← hFo.sea, ← enk]
            refine ⟨fun z2 => go u (by rw [ct_f (p := aP ci cn nf f g) (by unfold aP; rw [decide_eq_false z2]; simp)]; exact hu), fun z2 => ?_⟩
            rw [nIs]
            exact go (u + 1) (by rw [ct_t (p := aP ci cn nf f g) (by unfold aP; rw [decide_eq_true z2, decide_eq_true z, decide_eq_true hk1]; rfl)]; omega)
          have keep : ∀ j, p ≤ j → j < p' → ∃ x, 1 ≤ x ∧ x < k + 1 ∧ M 52 j = nI x ∧ ci x = nI f := fun j h1 h2 => by
            obtain ⟨x, x1, x2, x3⟩ := hnew j h1 h2
            exact ⟨x, x1, by omega, x3⟩
          rw [ix_n (by omega), R 32 (by decide) (by decide), R 33 (by decide) (by decide), epk2, ← epk]
          refine ⟨hink, fun z => b289 M p' _ R hpp hL' hold keep (fun x x1 x2 x3 x4 => ?_) (by rw [ct_f (p := uP ci cn nf f g) (by unfold uP; rw [decide_eq_false z]; simp)]), fun z => ⟨hink, s_X8_child (n := nf) (by rw [R 31 (by decide) (by decide)]; exact h1) hnf1 hnf ?_⟩⟩
          · rcases Nat.lt_or_ge x k with q | q
            · exact hall x x1 q x3 x4
            · rw [show x = k by omega] at x3; exact absurd x3 z
          · have hTk := (TTch k f hk1 c2 hf z hTf).2
            have hak := (TTch k f hk1 c2 hf z hTf).1
            rw [eg] at hTk
            rw [R 32 (by decide) (by decide), R 33 (by decide) (by decide), ← hFo.sea, ← enk]
            refine ⟨fun z2 => ?_, fun z2 => ?_⟩
            · have hTne : ¬ TT ci cn nf a (nI b) k = -1 := by rw [hTk]; exact z2
              -- not in the list yet
              have hno : hasB (M 52) (nI k) p' = false := by
                refine hasB_no.mpr (fun j hj e => ?_)
                rcases Nat.lt_or_ge j p with q | q
                · rw [hold j q] at e
                  rcases Nat.eq_zero_or_pos j with w0 | w0
                  · rw [w0, hL.2.1] at e
                    have := (nI_eq (by omega) (by omega)).mp e
                    omega
                  · have := hpar j w0 q
                    rw [e, ix_n (by omega), z, hfi] at this
                    cases this
                · obtain ⟨x, x1, x2, x3, -⟩ := hnew j q hj
                  rw [x3] at e
                  have := (nI_eq (by omega) (by omega)).mp e
                  omega
              have hlt : p' < 16 := by
                have hl := (hL'.push (k := k) hnf c2 hTne hno (l' := upd (M 52) p' (nI k)) (r' := upd (M 53) p' (TT ci cn nf a (nI b) k)) (fun j hj => ⟨up_n (by omega), up_n (by omega)⟩) (up_s _ _ _) (up_s _ _ _)).le
                omega
              refine ⟨vp_in_nI hlt (by decide), fun y1 g1 => ⟨vp_in_nI hlt (by decide), fun y2 g2 => ?_⟩⟩
              rw [ix_n (by omega)] at g1 g2
              have w52 : y2 52 = upd (M 52) p' (nI k) := by rw [g2, wrA, if_neg (by decide), g1, wrA, if_pos rfl]
              have w53 : y2 53 = upd (M 53) p' (TT ci cn nf a (nI b) k) := by rw [g2, wrA, if_pos rfl, g1, wrA, if_neg (by decide), hTk]
              rw [nIs]
              refine b289 y2 (p' + 1) _ (fun q q1 q2 => by rw [g2, wrA, if_neg q2, g1, wrA, if_neg q1]; exact R q q1 q2) (by omega) ?_ (fun j hj => by rw [w52, up_n (by omega)]; exact hold j hj) (fun j j1 j2 => ?_) (fun x x1 x2 x3 x4 => ?_) (by rw [ct_f (p := uP ci cn nf f g) (by unfold uP; rw [decide_eq_false z2]; simp)])
              · rw [w52, w53]
                exact hL'.push hnf c2 hTne hno (fun j hj => ⟨up_n (by omega), up_n (by omega)⟩) (up_s _ _ _) (up_s _ _ _)
              · rw [w52]
                rcases Nat.lt_or_ge j p' with q | q
                · rw [up_n (by omega)]; exact keep j j1 q
                · rw [show j = p' by omega, up_s]; exact ⟨k, hk1, by omega, rfl, z⟩
              · rw [w52]
                rcases Nat.lt_or_ge x k with q | q
                · obtain ⟨j, hj, ej⟩ := hasB_iff.mp (hall x x1 q x3 x4)
                  exact hasB_iff.mpr ⟨j, by omega, by rw [up_n (by omega)]; exact ej⟩
                · rw [show x = k by omega]
                  exact hasB_iff.mpr ⟨p', by omega, up_s _ _ _⟩
            · rw [nIs]
              refine b289 M p' _ R hpp hL' hold keep (fun x x1 x2 x3 x4 => ?_) (by rw [ct_t (p := uP ci cn nf f g) (by unfold uP; rw [decide_eq_true z2, decide_eq_true z, decide_eq_true hk1]; rfl)]; omega)
              rcases Nat.lt_or_ge x k with q | q
              · exact hall x x1 q x3 x4
              · rw [show x = k by omega, hTk] at x4; exact absurd z2 x4
      -- files of this pair
      have alive : ∀ y d, y < n → cf y = nI d → d < 16 → ∃ b, b < nb ∧ cb y = nI b ∧ μ 36 y = nI b ∧ cnm y = μ 35 y := fun y d hy e hd => by
        obtain ⟨a, ⟨b, hb, eb⟩, c⟩ := hFi y hy
        rcases c with ⟨c, -⟩ | ⟨-, c, c3⟩
        · rw [e, c] at a; exact absurd a (nI_m1 (by omega))
        · exact ⟨b, hb, c.trans eb, eb, c3⟩
      refine wl6 (fun x y z u v t M => y = nI p ∧ z = nI i ∧ u = nI f ∧ v = nI g ∧ M = m ∧ ∃ j, j ≤ n ∧ t = nI j ∧ x = nI (base + (ct (fdp cf cnm cb cs (μ 42) n f g) j + ct (fdq cf cnm n f g) j))) (fun _ _ _ _ _ t _ => n - ix t) ?_ _ _ _ _ _ _ _ ⟨rfl, rfl, rfl, rfl, rfl, 0, by omega, rfl, rfl⟩
      rintro k4 x y z u v t M ⟨rfl, rfl, rfl, rfl, rfl, j, hj, rfl, rfl⟩ hk4
      unfold w_X8_differ_b73
      refine pk_le n j (fun c2 => ?_) (fun c2 => ?_) (by rw [r 31 (by decide) (by decide)]; exact h2) rfl (by omega) (by omega)
      · rw [show j = n by omega]
        exact folders k4
      · have hinj : vp_in (nI j) 60 := vp_in_nI (by omega) (by decide)
        have e34 : M 34 j = cf j := by rw [r 34 (by decide) (by decide)]; exact (hFi j c2).1.symm
        have b179 : ∀ u : Nat, u = base + (ct (fdp cf cnm cb cs (μ 42) n f g) (j + 1) + ct (fdq cf cnm n f g) j) → w_X8_differ_b179 post k3 k4 (nI u) (nI p) (nI i) (nI f) (nI g) (nI j) M := fun u hu => by
          unfold w_X8_differ_b179
          have go : ∀ u2 : Nat, u2 = base + (ct (fdp cf cnm cb cs (μ 42) n f g) (j + 1) + ct (fdq cf cnm n f g) (j + 1)) → k4 (nI u2) (nI p) (nI i) (nI f) (nI g) (nI j + 1) M := fun u2 hu2 => hk4 _ _ _ _ _ _ _ ⟨rfl, rfl, rfl, rfl, rfl, j + 1, by omega, nIs j, by rw [hu2]⟩ (by rw [nIs, ix_n (by omega), ix_n (by omega)]; omega)
          rw [ix_n (by omega), e34]
          refine ⟨hinj, fun z => go u (by rw [ct_f (p := fdq cf cnm n f g) (by unfold fdq; rw [decide_eq_false z]; rfl)]; exact hu), fun z => ⟨hinj, s_X8_named (n := n) (by rw [r 31 (by decide) (by decide)]; exact h2) hn ?_⟩⟩
          obtain ⟨bj, -, -, -, enm⟩ := alive j g c2 z (by omega)
          rw [r 34 (by decide) (by decide), r 35 (by decide) (by decide), ← hFi.sea hne_f, ← enm]
          refine ⟨fun z2 => go u (by rw [ct_f (p := fdq cf cnm n f g) (by unfold fdq; rw [decide_eq_false z2, Bool.and_false])]; exact hu), fun z2 => ?_⟩
          rw [nIs]
          exact go (u + 1) (by rw [ct_t (p := fdq cf cnm n f g) (by unfold fdq; rw [decide_eq_true z2, decide_eq_true z]; rfl)]; omega)
        have no : fdp cf cnm cb cs (μ 42) n f g j = false → w_X8_differ_b179 post k3 k4 (nI (base + (ct (fdp cf cnm cb cs (μ 42) n f g) j + ct (fdq cf cnm n f g) j))) (nI p) (nI i) (nI f) (nI g) (nI j) M := fun hh => b179 _ (by rw [ct_f hh])
        have yes : fdp cf cnm cb cs (μ 42) n f g j = true → w_X8_differ_b176 post k3 k4 (nI (base + (ct (fdp cf cnm cb cs (μ 42) n f g) j + ct (fdq cf cnm n f g) j))) (nI p) (nI i) (nI f) (nI g) (nI j) M := fun hh => by
          unfold w_X8_differ_b176
          rw [nIs]
          exact b179 _ (by rw [ct_t hh]; omega)
        rw [ix_n (by omega), e34]
        refine ⟨hinj, fun z => no (by unfold fdp; rw [decide_eq_false z]; rfl), fun z => ⟨hinj, s_X8_named (n := n) (by rw [r 31 (by decide) (by decide)]; exact h2) hn ?_⟩⟩
        obtain ⟨bj, hbj, ebj, ebj2, enm⟩ := alive j f c2 z (by omega)
        rw [r 34 (by decide) (by decide), r 35 (by decide) (by decide), ← hFi.sea hne_g, ← enm]
        refine ⟨fun z2 => yes (by unfold fdp; rw [decide_eq_true z2, decide_eq_true z]; rfl), fun z2 => ⟨hinj, ?_⟩⟩
        rcases fst_cases (sea cf cnm 0 (nI g) (cnm j)) (n := n) (by omega) with ⟨y, -⟩ | ⟨o, ho, eo, po, -⟩
        · exact absurd y z2
        · unfold sea at po
          simp at po
          obtain ⟨bo, hbo, ebo, ebo2, -⟩ := alive o g ho po.1 (by omega)
          obtain ⟨sj, hsj, esj⟩ := hs bj (by omega)
          have hak : (!akb cs (μ 42) (ix (cb j)) (ix (cb (ix (fst (sea cf cnm 0 (nI g) (cnm j)) n))))) = !akb cs (μ 42) bj bo := by rw [eo, ix_n (by omega), ebj, ebo, ix_n (by omega), ix_n (by omega)]
          have hinbj : vp_in (nI bj) 100 := vp_in_nI (by omega) (by decide)
          have hino : vp_in (nI o) 60 := vp_in_nI (by omega) (by decide)
          rw [eo, ix_n (by omega), r 36 (by decide) (by decide), ebj2, ebo2, ix_n (by omega), ix_n (by omega), r 38 (by decide) (by decide), h38 bj (by omega), h38 bo (by omega)]
          refine ⟨hinbj, hino, vp_in_nI (by omega) (by decide), fun z3 => yes (by unfold fdp; rw [hak]; unfold akb; rw [decide_eq_false z3, decide_eq_true z]; simp), fun z3 => ⟨hinj, hino, hinj, hinbj, ?_⟩⟩
          rw [esj]
          refine s_alike_m (f := 0) (by omega) (by omega) hsj (by omega) (fun al => f_n (by decide) (no ?_)) (fun al => f_y rfl (yes ?_))
          · rw [r 42 (by decide) (by decide)] at al
            unfold fdp; rw [hak]; unfold akb; rw [esj, ix_n (by omega), al]
            have : cs bo = nI sj := by rw [← z3]; exact esj
            simp [this]
            intro _
            exact z2
          · rw [r 42 (by decide) (by decide)] at al
            unfold fdp; rw [hak]; unfold akb; rw [esj, ix_n (by omega), al, decide_eq_true z]
            simp
  · -- the first pair
    have w52 : m10 52 0 = nI a := by rw [e10, wrA, if_neg (by decide), e7]; simp [wrA, updA, ix]
    have w53 : m10 53 0 = nI b := by rw [e10]; simp [wrA, updA, ix]
    refine ⟨Nat.le_refl _, w52, fun j hj => ?_, fun i j hij hj => by omega, ?_⟩
    · rw [show j = 0 by omega]
      exact ⟨a, ha, w52, by rw [TTa]; exact nI_m1 (by omega), by rw [w53, TTa]⟩
    · have e : ct (fun k => hasB (m10 52) (nI k) 1) nf = ct (fun k => decide (k = a)) nf := ct_cong (fun k hk => by
        show hasB (m10 52) (nI k) (0 + 1) = decide (k = a)
        rw [hasB_s, w52]
        by_cases c : k = a
        · rw [c]; simp
        · rw [decide_eq_false c, decide_eq_false (fun z => c ((nI_eq (by omega) (by omega)).mp z).symm)]; rfl)
      rw [e]
      have hs := sm_ct (fun x => decide (x = a)) nf
      rw [← hs, sm_cong (g := fun x => if x = a then 1 else 0) (fun x _ => by simp)]
      exact sm_one ha
  · intro k _ _ h
    obtain ⟨j, hj, -⟩ := hasB_iff.mp h
    omega
  · intro j h1 h2
    omega
  · have : sm (vt ci cn cf cnm cb cs (μ 42) nf n a (nI b) (m10 52) 0) nf = sm (fun _ => 0) nf := sm_cong (fun k hk => by
      unfold vt
      have hz : ∀ v, hasB (m10 52) v 0 = false := fun v => rfl
      rw [hz, hz]
      simp)
    rw [this, sm_z]
    rfl
end DM
theorem op_differ {post : Int32 → Mem → Prop} {K : Int32 → Int32 → Mem → Prop} {a1 a2 : Int32} {μ : Mem} (hI : InvE μ) (hK : ∀ k b m, m 31 0 = k → (k = 0 → m 56 0 = b) → InvE m → K k b m) (hp : ∀ k m, w_X8_differ (K k) a1 a2 m → post k m) : w_L_differ post a1 a2 μ := by
  obtain ⟨nf, n, nb, w, q, lt, hI⟩ := hI
  have hI0 := hI
  obtain ⟨⟨⟨c1, m1, f1, f2⟩, ⟨c2, m2, f3⟩, ⟨c3, m3, f4⟩, hC4, hC5, hC6⟩, hFo, hFi, hHe, hBo, hBy, hGr, hWi, hLe, hMe⟩ := hI
  unfold w_L_differ
  rcases idx a1 (n := nf) (by omega) with ⟨a, ha, ea⟩ | ⟨-, hx⟩
  · rcases idx a2 (n := nf) (by omega) with ⟨b, hb, eb⟩ | ⟨-, hx⟩
    · subst ea eb
      refine s_differ_c (my := μ 42) c1 f1 f2 ha hb c2 f3 f4 rfl rfl rfl rfl rfl rfl hFo hFi (fun b hb => (hBo b hb).1) (fun j hj => (hBy.1 j hj).1) (fun m r m' em => hp 0 m' ?_)
      have r' : ∀ k, k ≠ 10 → k ≠ 56 → m' k = μ k := fun k k1 k2 => by rw [em, wrA, if_neg k2]; exact r k k1
      have hIm : Inv nf n nb w q lt m' := hI0.sim (fun k j hr => by rw [r' k (by unfold rlv at hr; omega) (by unfold rlv at hr; omega)])
      unfold w_X8_differ
      intro M eM
      have q' : ∀ k, k ≠ 10 → k ≠ 56 → k ≠ 31 → M k = μ k := fun k k1 k2 k3 => by rw [eM, wrA, if_neg k3]; exact r' k k1 k2
      have q31 : ∀ j, j ≠ 0 → M 31 j = μ 31 j := fun j hj => by rw [eM, wrA, if_pos rfl, updA, if_neg hj, r' 31 (by decide) (by decide)]
      have q0 : M 31 0 = 0 := by rw [eM]; simp [wrA, updA]
      have hIM : Inv nf n nb w q lt M := by rw [eM]; exact hIm.w n310
      have q56 : M 56 0 = nI (sm (wt (μ 11) (μ 12) (μ 14) (μ 15) (μ 16) (μ 19) (μ 42) nf n a (nI b)) nf) := by rw [eM, wrA, if_neg (by decide), em]; simp [wrA, updA, ix0]
      refine isFolder_y (nf := nf) q0 (by rw [q31 1 (by decide)]; exact m1) f2 ha rfl (t_n (by decide) ?_)
      refine isFolder_y (nf := nf) q0 (by rw [q31 1 (by decide)]; exact m1) f2 hb rfl (f_n (by decide) ⟨by unfold vp_in; decide, ?_⟩)
      refine s_differ_m (ci := μ 11) (cn := μ 12) (ca := μ 13) (cf := μ 14) (cnm := μ 15) (cb := μ 16) (cs := μ 19) (nb := nb) (by rw [q31 1 (by decide)]; exact m1) f1 f2 ha hb (by rw [q31 2 (by decide)]; exact m2) f3 f4 (by rw [q' 32 (by decide) (by decide) (by decide), q' 33 (by decide) (by decide) (by decide)]; exact hFo) (by rw [q' 34 (by decide) (by decide) (by decide), q' 35 (by decide) (by decide) (by decide), q' 36 (by decide) (by decide) (by decide)]; exact hFi) (fun b hb => (hBo b hb).1) (fun b hb => by rw [q' 38 (by decide) (by decide) (by decide)]; exact (hBo b hb).2.1) (fun mm rr => ?_)
      rw [q' 42 (by decide) (by decide) (by decide)]
      refine hK 0 _ _ (by rw [rr 31 (by decide) (by decide)]; exact q0) (fun _ => by rw [rr 56 (by decide) (by decide)]; exact q56) ⟨nf, n, nb, w, q, lt, hIM.sim (fun k j hr => by rw [rr k (by unfold rlv at hr; omega) (by unfold rlv at hr; omega)])⟩
    · unfold w_X7_differ
      refine needFolder_y c1 f2 ha ea (needFolder_n c1 f2 hx ⟨rfl, hp 1 μ ?_⟩)
      unfold w_X8_differ
      intro m em
      subst em
      refine isFolder_y (nf := nf) (by simp [wrA, updA]) (by simp [wrA, updA]; exact m1) f2 ha ea (t_n (by decide) ?_)
      exact isFolder_n (nf := nf) (by simp [wrA, updA]) (by simp [wrA, updA]; exact m1) f2 hx (f_y rfl (hK 1 0 _ (by simp [wrA, updA]) (fun h => absurd h (by decide)) ⟨nf, n, nb, w, q, lt, (hI0.w n310).w n310⟩))
  · unfold w_X7_differ
    refine needFolder_n c1 f2 hx ⟨rfl, hp 1 μ ?_⟩
    unfold w_X8_differ
    intro m em
    subst em
    exact isFolder_n (nf := nf) (by simp [wrA, updA]) (by simp [wrA, updA]; exact m1) f2 hx (t_y rfl (hK 1 0 _ (by simp [wrA, updA]) (fun h => absurd h (by decide)) ⟨nf, n, nb, w, q, lt, (hI0.w n310).w n310⟩))
