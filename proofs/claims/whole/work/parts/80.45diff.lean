/-! folders side by side -/
def sm (f : Nat → Nat) : Nat → Nat
  | 0 => 0
  | n + 1 => sm f n + f n
theorem sm_cong {f g : Nat → Nat} : ∀ {n : Nat}, (∀ k, k < n → f k = g k) → sm f n = sm g n
  | 0, _ => rfl
  | n + 1, h => by unfold sm; rw [sm_cong (fun k hk => h k (by omega)), h n (by omega)]
theorem sm_add (f g : Nat → Nat) : ∀ n, sm (fun k => f k + g k) n = sm f n + sm g n
  | 0 => rfl
  | n + 1 => by unfold sm; rw [sm_add f g n]; omega
theorem sm_ct (p : Nat → Bool) : ∀ n, sm (fun k => if p k then 1 else 0) n = ct p n
  | 0 => rfl
  | n + 1 => by unfold sm; rw [sm_ct p n, ct_s]
theorem sm_z : ∀ n, sm (fun _ => 0) n = 0
  | 0 => rfl
  | n + 1 => by unfold sm; rw [sm_z n]
theorem sm_one {x c : Nat} : ∀ {n : Nat}, x < n → sm (fun k => if k = x then c else 0) n = c
  | 0, h => absurd h (Nat.not_lt_zero x)
  | n + 1, h => by
    unfold sm
    by_cases e : n = x
    · rw [if_pos e, sm_cong (g := fun _ => 0) (fun k hk => by rw [if_neg (by omega)]), sm_z]; omega
    · rw [if_neg e, sm_one (by omega)]; rfl
/-- the twins, as the class finds them -/
def Tw (ci cn : Nat → Int32) (nf a : Nat) (b : Int32) : Nat → Nat → Int32
  | 0 => fun x => if x = a then b else -1
  | i + 1 => if i ≤ a then Tw ci cn nf a b i else if Tw ci cn nf a b i (ix (ci i)) = -1 then Tw ci cn nf a b i else upd (Tw ci cn nf a b i) i (fst (sea ci cn 1 (Tw ci cn nf a b i (ix (ci i))) (cn i)) nf)
theorem Tw_s {ci cn : Nat → Int32} {nf a i x : Nat} {b : Int32} (h : x ≠ i) : Tw ci cn nf a b (i + 1) x = Tw ci cn nf a b i x := by
  show (if i ≤ a then Tw ci cn nf a b i else if Tw ci cn nf a b i (ix (ci i)) = -1 then Tw ci cn nf a b i else upd (Tw ci cn nf a b i) i _) x = _
  split
  · rfl
  · split
    · rfl
    · rw [up_n h]
theorem Tw_lo {ci cn : Nat → Int32} {nf a i x : Nat} {b : Int32} (h : x < i) : ∀ d, Tw ci cn nf a b (i + d) x = Tw ci cn nf a b i x
  | 0 => rfl
  | d + 1 => by rw [← Nat.add_assoc, Tw_s (by omega), Tw_lo h d]
theorem Tw_hi {ci cn : Nat → Int32} {nf a x : Nat} {b : Int32} (h : x ≠ a) : ∀ i, i ≤ x → Tw ci cn nf a b i x = -1
  | 0, _ => by show (if x = a then b else -1) = -1; rw [if_neg h]
  | i + 1, hi => by rw [Tw_s (by omega), Tw_hi h i (by omega)]
theorem Tw_a {ci cn : Nat → Int32} {nf a : Nat} {b : Int32} : ∀ i, Tw ci cn nf a b i a = b
  | 0 => by show (if a = a then b else -1) = b; rw [if_pos rfl]
  | i + 1 => by
    by_cases c : i = a
    · show (if i ≤ a then Tw ci cn nf a b i else _) a = b
      rw [if_pos (by omega), Tw_a i]
    · rw [Tw_s (fun z => c z.symm), Tw_a i]
theorem Tw_0 {ci cn : Nat → Int32} {nf a : Nat} {b : Int32} : ∀ i, i ≤ a + 1 → Tw ci cn nf a b i = Tw ci cn nf a b 0
  | 0, _ => rfl
  | i + 1, h => by
    show (if i ≤ a then Tw ci cn nf a b i else _) = _
    rw [if_pos (by omega), Tw_0 i (by omega)]
section DF
variable {nf n nb : Nat} {ci cn ca mi mn cf cnm cb mf mnm mb cs my : Nat → Int32}
def TT (ci cn : Nat → Int32) (nf a : Nat) (b : Int32) : Nat → Int32 := Tw ci cn nf a b nf
theorem TT_lo {a x i : Nat} {b : Int32} (h : x < i) (hi : i ≤ nf) : Tw ci cn nf a b i x = TT ci cn nf a b x := by
  have := Tw_lo (ci := ci) (cn := cn) (nf := nf) (a := a) (b := b) h (nf - i)
  rw [show i + (nf - i) = nf by omega] at this
  exact this.symm
theorem TT_lt {a x : Nat} {b : Int32} (hx : x < a) : TT ci cn nf a b x = -1 := by
  have key : ∀ i, Tw ci cn nf a b i x = -1 := by
    intro i
    induction i with
    | zero => exact Tw_hi (by omega) 0 (by omega)
    | succ i ih =>
      by_cases c : x = i
      · show (if i ≤ a then Tw ci cn nf a b i else _) x = -1
        rw [if_pos (by omega), ih]
      · rw [Tw_s c, ih]
  exact key nf
theorem TT_gt (hFo : IFo nf ci cn ca mi mn) (hnf : nf ≤ 16) {a k : Nat} {b : Int32} (h1 : a < k) (h2 : k < nf) : ∃ p, p < k ∧ ci k = nI p ∧ TT ci cn nf a b k = if TT ci cn nf a b p = -1 then -1 else fst (sea ci cn 1 (TT ci cn nf a b p) (cn k)) nf := by
  obtain ⟨p, hp, e, -⟩ := hFo.2.2.2 k (by omega) h2
  refine ⟨p, hp, e, ?_⟩
  rw [← TT_lo (Nat.lt_succ_self k) h2]
  show (if k ≤ a then Tw ci cn nf a b k else if Tw ci cn nf a b k (ix (ci k)) = -1 then Tw ci cn nf a b k else upd (Tw ci cn nf a b k) k (fst (sea ci cn 1 (Tw ci cn nf a b k (ix (ci k))) (cn k)) nf)) k = _
  rw [if_neg (by omega), e, ix_n (by omega), TT_lo hp (by omega)]
  by_cases c : TT ci cn nf a b p = -1
  · rw [if_pos c, if_pos c, Tw_hi (by omega) k (Nat.le_refl _)]
  · rw [if_neg c, if_neg c, up_s]
theorem TT_r (hFo : IFo nf ci cn ca mi mn) (hnf : nf ≤ 16) {a bb k : Nat} (hb : bb < nf) (hk : k < nf) : TT ci cn nf a (nI bb) k = -1 ∨ ∃ t, t < nf ∧ TT ci cn nf a (nI bb) k = nI t := by
  rcases Nat.lt_trichotomy k a with z | z | z
  · exact Or.inl (TT_lt z)
  · subst z
    exact Or.inr ⟨bb, hb, Tw_a _⟩
  · obtain ⟨p, -, -, e⟩ := TT_gt hFo hnf (b := nI bb) z hk
    rw [e]
    by_cases c : TT ci cn nf a (nI bb) p = -1
    · rw [if_pos c]; exact Or.inl rfl
    · rw [if_neg c]
      rcases fst_cases (sea ci cn 1 (TT ci cn nf a (nI bb) p) (cn k)) (n := nf) (by omega) with ⟨y, -⟩ | ⟨i, hi, y, -⟩
      · exact Or.inl y
      · exact Or.inr ⟨i, hi, y⟩
/-- two bodies alike -/
def akb (cs my : Nat → Int32) (x y : Nat) : Bool := decide (cs x = cs y) && alk my x y 0 (ix (cs x))
def fdp (cf cnm cb cs my : Nat → Int32) (n f g : Nat) : Nat → Bool := fun x => decide (cf x = nI f) && (decide (fst (sea cf cnm 0 (nI g) (cnm x)) n = -1) || !akb cs my (ix (cb x)) (ix (cb (ix (fst (sea cf cnm 0 (nI g) (cnm x)) n)))))
def fdq (cf cnm : Nat → Int32) (n f g : Nat) : Nat → Bool := fun x => decide (cf x = nI g) && decide (fst (sea cf cnm 0 (nI f) (cnm x)) n = -1)
def fd (cf cnm cb cs my : Nat → Int32) (n f g : Nat) : Nat := ct (fdp cf cnm cb cs my n f g) n + ct (fdq cf cnm n f g) n
def aP (ci cn : Nat → Int32) (nf f g : Nat) : Nat → Bool := fun k => decide (1 ≤ k) && (decide (ci k = nI g) && decide (fst (sea ci cn 1 (nI f) (cn k)) nf = -1))
theorem s_areAlike {post : Int32 → Mem → Prop} {μ : Mem} {x y sx : Nat} (hx : x < 100) (hy : y < 100) (hs : sx ≤ 64) (e19 : μ 19 = cs) (es : cs x = nI sx) (hby : ∀ j, j < 6400 → my j = μ 18 j &&& 255) (h1 : akb cs my x y = true → post 1 μ) (h0 : akb cs my x y = false → post 0 μ) : w_X0_areAlike post (nI x) (nI y) μ := by
  unfold w_X0_areAlike
  have hix : vp_in (nI x) 100 := vp_in_nI hx (by decide)
  rw [ix_n (by omega), ix_n (by omega), e19]
  unfold akb at h1 h0
  rw [es, ix_n (by omega)] at h1 h0
  rw [es]
  refine ⟨hix, vp_in_nI hy (by decide), fun z => h0 (by rw [decide_eq_false z]; rfl), fun z => ⟨hix, ?_⟩⟩
  exact s_alike_c (f := 0) (my := my) hx hy hs (by omega) hby (fun a => t_n (by decide) (h1 (by rw [decide_eq_true z, a]; rfl))) (fun a => t_y rfl (h0 (by rw [a, Bool.and_false])))
theorem s_fileDiff {post : Int32 → Mem → Prop} {μ : Mem} {f g : Nat} (h2 : μ 2 4 = nI n) (hn : n ≤ 60) (hnf : nf ≤ 16) (hnb : nb ≤ 100) (hf : f < nf) (hg : g < nf) (e14 : μ 14 = cf) (e15 : μ 15 = cnm) (e16 : μ 16 = cb) (e19 : μ 19 = cs) (hFi : IFi nf n nb cf cnm cb mf mnm mb) (hs : ∀ b, b < 100 → ∃ s, s ≤ 64 ∧ cs b = nI s) (hby : ∀ j, j < 6400 → my j = μ 18 j &&& 255) (h : post (nI (fd cf cnm cb cs my n f g)) μ) : w_X7_fileDifferences post (nI f) (nI g) μ := by
  unfold w_X7_fileDifferences
  have alive : ∀ y d, y < n → cf y = nI d → d < 16 → ∃ b, b < nb ∧ cb y = nI b := fun y d hy e hd => by
    obtain ⟨a, ⟨b, hb, eb⟩, c⟩ := hFi y hy
    rcases c with ⟨c, -⟩ | ⟨-, c, -⟩
    · rw [e, c] at a; exact absurd a (nI_m1 (by omega))
    · exact ⟨b, hb, c.trans eb⟩
  refine wl4 (fun x y v z m => x = nI f ∧ y = nI g ∧ m = μ ∧ ∃ i, i ≤ n ∧ z = nI i ∧ v = nI (ct (fdp cf cnm cb cs my n f g) i + ct (fdq cf cnm n f g) i)) (fun _ _ _ z _ => n - ix z) ?_ _ _ _ _ _ ⟨rfl, rfl, rfl, 0, by omega, rfl, rfl⟩
  rintro k x y v z m ⟨rfl, rfl, rfl, i, hi, rfl, rfl⟩ hk
  unfold w_X7_fileDifferences_b5
  refine pk_le n i (fun c => by rw [show i = n by omega]; exact h) (fun c => ?_) h2 rfl (by omega) (by omega)
  have hin : vp_in (nI i) 60 := vp_in_nI (by omega) (by decide)
  -- the second question
  have b89 : ∀ v : Nat, v = ct (fdp cf cnm cb cs my n f g) (i + 1) + ct (fdq cf cnm n f g) i → w_X7_fileDifferences_b89 post k (nI f) (nI g) (nI v) (nI i) m := fun v hv => by
    unfold w_X7_fileDifferences_b89 w_X1_isIn
    rw [ix_n (by omega), e14]
    have go : ∀ u : Nat, u = ct (fdp cf cnm cb cs my n f g) (i + 1) + ct (fdq cf cnm n f g) (i + 1) → k (nI f) (nI g) (nI u) (nI i + 1) m := fun u hu => hk _ _ _ _ _ ⟨rfl, rfl, rfl, i + 1, by omega, nIs i, by rw [hu]⟩ (by rw [nIs, ix_n (by omega), ix_n (by omega)]; omega)
    refine ⟨hin, fun z => t_y rfl (go v (by rw [ct_f (p := fdq cf cnm n f g) (by unfold fdq; rw [decide_eq_false z]; rfl)]; exact hv)), fun z => t_n (by decide) ⟨hin, s_X1_named h2 hn ?_⟩⟩
    rw [e14, e15]
    refine ⟨fun z2 => go v (by rw [ct_f (p := fdq cf cnm n f g) (by unfold fdq; rw [decide_eq_false z2, Bool.and_false])]; exact hv), fun z2 => ?_⟩
    rw [nIs]
    exact go (v + 1) (by rw [ct_t (p := fdq cf cnm n f g) (by unfold fdq; rw [decide_eq_true z2, decide_eq_true z]; rfl)]; omega)
  unfold w_X1_isIn w_X7_fileDifferences_b86
  rw [ix_n (by omega), e14]
  have no : fdp cf cnm cb cs my n f g i = false → w_X7_fileDifferences_b89 post k (nI f) (nI g) (nI (ct (fdp cf cnm cb cs my n f g) i + ct (fdq cf cnm n f g) i)) (nI i) m := fun hh => b89 _ (by rw [ct_f hh])
  have yes : fdp cf cnm cb cs my n f g i = true → w_X7_fileDifferences_b89 post k (nI f) (nI g) (nI (ct (fdp cf cnm cb cs my n f g) i + ct (fdq cf cnm n f g) i) + 1) (nI i) m := fun hh => by
    rw [nIs]
    exact b89 _ (by rw [ct_t hh]; omega)
  refine ⟨hin, fun z => t_y rfl (no (by unfold fdp; rw [decide_eq_false z]; rfl)), fun z => t_n (by decide) ⟨hin, s_X1_named h2 hn ?_⟩⟩
  rw [e14, e15]
  refine ⟨fun z2 => yes (by unfold fdp; rw [decide_eq_true z2, decide_eq_true z]; rfl), fun z2 => ⟨hin, ?_⟩⟩
  rcases fst_cases (sea cf cnm 0 (nI g) (cnm i)) (n := n) (by omega) with ⟨y, -⟩ | ⟨j, hj, ej, pj, -⟩
  · exact absurd y z2
  · unfold sea at pj
    simp at pj
    obtain ⟨bi, hbi, ebi⟩ := alive i f c z (by omega)
    obtain ⟨bj, hbj, ebj⟩ := alive j g hj pj.1 (by omega)
    obtain ⟨sz, hsz, esz⟩ := hs bi (by omega)
    have hak : (!akb cs my (ix (cb i)) (ix (cb (ix (fst (sea cf cnm 0 (nI g) (cnm i)) n))))) = !akb cs my bi bj := by rw [ej, ix_n (by omega), ebi, ebj, ix_n (by omega), ix_n (by omega)]
    rw [ej, ix_n (by omega), e16, ebi, ebj]
    refine ⟨vp_in_nI (by omega) (by decide), s_areAlike (cs := cs) (my := my) (by omega) (by omega) hsz e19 esz hby (fun a => f_n (by decide) (no ?_)) (fun a => f_y rfl (yes ?_))⟩
    · unfold fdp; rw [hak, a, decide_eq_false z2]; simp
    · unfold fdp; rw [hak, a, decide_eq_true z]; simp
theorem s_alone {post : Int32 → Mem → Prop} {μ : Mem} {f g : Nat} (h1 : μ 1 3 = nI nf) (hnf1 : 1 ≤ nf) (hnf : nf ≤ 16) (e11 : μ 11 = ci) (e12 : μ 12 = cn) (h : post (nI (ct (aP ci cn nf f g) nf)) μ) : w_X7_foldersAlone post (nI g) (nI f) μ := by
  unfold w_X7_foldersAlone
  refine wl4 (fun x y v z m => x = nI g ∧ y = nI f ∧ m = μ ∧ ∃ i, 1 ≤ i ∧ i ≤ nf ∧ z = nI i ∧ v = nI (ct (aP ci cn nf f g) i)) (fun _ _ _ z _ => nf - ix z) ?_ _ _ _ _ _ ⟨rfl, rfl, rfl, 1, by omega, hnf1, rfl, rfl⟩
  rintro k x y v z m ⟨rfl, rfl, rfl, i, hi1, hi, rfl, rfl⟩ hk
  unfold w_X7_foldersAlone_b5
  refine pk_le nf i (fun c => by rw [show i = nf by omega]; exact h) (fun c => ?_) h1 rfl (by omega) (by omega)
  have hin : vp_in (nI i) 16 := vp_in_nI (by omega) (by decide)
  rw [ix_n (by omega), e11, e12]
  have go : ∀ u : Nat, u = ct (aP ci cn nf f g) (i + 1) → k (nI g) (nI f) (nI u) (nI i + 1) m := fun u hu => hk _ _ _ _ _ ⟨rfl, rfl, rfl, i + 1, by omega, by omega, nIs i, by rw [hu]⟩ (by rw [nIs, ix_n (by omega), ix_n (by omega)]; omega)
  refine ⟨hin, fun z => go _ (by rw [ct_f (by unfold aP; rw [decide_eq_false z]; simp)]), fun z => ⟨hin, s_X3_named h1 hnf1 hnf ?_⟩⟩
  rw [e11, e12]
  refine ⟨fun z2 => go _ (by rw [ct_f (by unfold aP; rw [decide_eq_false z2]; simp)]), fun z2 => ?_⟩
  rw [nIs]
  exact go _ (by rw [ct_t (by unfold aP; rw [decide_eq_true z2, decide_eq_true z, decide_eq_true hi1]; rfl)])
/-- the differences of two folders, those below left out -/
def dh (ci cn cf cnm cb cs my : Nat → Int32) (nf n f g : Nat) : Nat := fd cf cnm cb cs my n f g + ct (aP ci cn nf f g) nf
/-- what a folder below the first adds -/
def wt (ci cn cf cnm cb cs my : Nat → Int32) (nf n a : Nat) (b : Int32) : Nat → Nat := fun k => if TT ci cn nf a b k = -1 then (if 1 ≤ k ∧ ¬ TT ci cn nf a b (ix (ci k)) = -1 then 1 else 0) else dh ci cn cf cnm cb cs my nf n k (ix (TT ci cn nf a b k))
theorem s_differ_c {post : Int32 → Mem → Prop} {xq : XP} {μ : Mem} {a b : Nat} (h1 : μ 1 3 = nI nf) (hnf1 : 1 ≤ nf) (hnf : nf ≤ 16) (ha : a < nf) (hb : b < nf) (h2 : μ 2 4 = nI n) (hn : n ≤ 60) (hnb : nb ≤ 100) (e11 : μ 11 = ci) (e12 : μ 12 = cn) (e14 : μ 14 = cf) (e15 : μ 15 = cnm) (e16 : μ 16 = cb) (e19 : μ 19 = cs) (hFo : IFo nf ci cn ca mi mn) (hFi : IFi nf n nb cf cnm cb mf mnm mb) (hs : ∀ b, b < 100 → ∃ s, s ≤ 64 ∧ cs b = nI s) (hby : ∀ j, j < 6400 → my j = μ 18 j &&& 255) (hp : ∀ m : Mem, (∀ k, k ≠ 10 → m k = μ k) → post (nI (sm (wt ci cn cf cnm cb cs my nf n a (nI b)) nf)) m) : w_X7_differ post xq (nI a) (nI b) μ := by
  unfold w_X7_differ
  refine needFolder_y h1 hnf ha rfl (needFolder_y h1 hnf hb rfl ?_)
  unfold w_fill
  intro m0 em0
  refine ⟨vp_in_nI (by omega) (by decide), fun m1 em1 => ?_⟩
  rw [ix_n (by omega)] at em1
  have r1 : ∀ k, k ≠ 10 → m1 k = μ k := fun k hk => by rw [em1, wrA, if_neg hk, em0]; unfold frow; rw [wrow_n hk]
  have t1 : ∀ x, x < 16 → m1 10 x = Tw ci cn nf a (nI b) 0 x := fun x hx => by
    rw [em1, wrA, if_pos rfl, updA, em0]
    unfold frow
    rw [wrow_r, if_pos hx]
    rfl
  -- the differences of one pair, over any such memory
  have here : ∀ {P : Int32 → Mem → Prop} (m : Mem) (f g : Nat), (∀ k, k ≠ 10 → m k = μ k) → f < nf → g < nf → P (nI (dh ci cn cf cnm cb cs my nf n f g)) m → w_X7_differencesHere P (nI f) (nI g) m := fun {P} m f g r hf hg hP => by
    unfold w_X7_differencesHere
    refine s_fileDiff (cf := cf) (cnm := cnm) (cb := cb) (cs := cs) (my := my) (by rw [r 2 (by decide)]; exact h2) hn hnf hnb hf hg (by rw [r 14 (by decide)]; exact e14) (by rw [r 15 (by decide)]; exact e15) (by rw [r 16 (by decide)]; exact e16) (by rw [r 19 (by decide)]; exact e19) hFi hs (fun j hj => by rw [r 18 (by decide)]; exact hby j hj) ?_
    refine s_alone (ci := ci) (cn := cn) (f := f) (g := g) (by rw [r 1 (by decide)]; exact h1) hnf1 hnf (by rw [r 11 (by decide)]; exact e11) (by rw [r 12 (by decide)]; exact e12) ?_
    rw [nI_add]; exact hP
  refine here m1 a b r1 ha hb ?_
  -- up to the first one nothing but its own counts
  have lo : ∀ k, k < a → wt ci cn cf cnm cb cs my nf n a (nI b) k = 0 := fun k hk => by
    unfold wt
    rw [if_pos (TT_lt hk)]
    rw [if_neg]
    intro z
    obtain ⟨p, hp, e, -⟩ := hFo.2.2.2 k z.1 (by omega)
    rw [e, ix_n (by omega)] at z
    exact z.2 (TT_lt (by omega))
  have first : sm (wt ci cn cf cnm cb cs my nf n a (nI b)) (a + 1) = dh ci cn cf cnm cb cs my nf n a b := by
    show sm (wt ci cn cf cnm cb cs my nf n a (nI b)) a + wt ci cn cf cnm cb cs my nf n a (nI b) a = _
    rw [sm_cong (g := fun _ => 0) lo, sm_z]
    unfold wt
    have : TT ci cn nf a (nI b) a = nI b := Tw_a _
    rw [this, if_neg (nI_m1 (by omega)), ix_n (by omega)]
    omega
  rw [nIs]
  refine wl2 (fun x y m => ∃ i, a + 1 ≤ i ∧ i ≤ nf ∧ y = nI i ∧ x = nI (sm (wt ci cn cf cnm cb cs my nf n a (nI b)) i) ∧ (∀ k, k ≠ 10 → m k = μ k) ∧ ∀ x, x < 16 → m 10 x = Tw ci cn nf a (nI b) i x) (fun _ y _ => nf - ix y) ?_ _ _ _ ⟨a + 1, Nat.le_refl _, by omega, rfl, by rw [first], r1, fun x hx => by rw [t1 x hx, Tw_0 (a + 1) (Nat.le_refl _)]⟩
  rintro k x y m ⟨i, hi1, hi, rfl, rfl, r, t⟩ hk
  unfold w_X7_differ_b37 w_X7_differ_b121
  refine pk_le nf i (fun c => by rw [show i = nf by omega]; exact hp m r) (fun c => ?_) (by rw [r 1 (by decide)]; exact h1) rfl (by omega) (by omega)
  obtain ⟨p, hpi, ep, eT⟩ := TT_gt hFo hnf (a := a) (b := nI b) (by omega) c
  have hin : vp_in (nI i) 16 := vp_in_nI (by omega) (by decide)
  have eTp : m 10 p = TT ci cn nf a (nI b) p := by rw [t p (by omega), TT_lo hpi (by omega)]
  rw [ix_n (by omega), r 11 (by decide), e11, ep, ix_n (by omega), eTp, r 12 (by decide), e12]
  have stepr : Tw ci cn nf a (nI b) (i + 1) = if TT ci cn nf a (nI b) p = -1 then Tw ci cn nf a (nI b) i else upd (Tw ci cn nf a (nI b) i) i (fst (sea ci cn 1 (TT ci cn nf a (nI b) p) (cn i)) nf) := by
    show (if i ≤ a then Tw ci cn nf a (nI b) i else if Tw ci cn nf a (nI b) i (ix (ci i)) = -1 then Tw ci cn nf a (nI b) i else upd (Tw ci cn nf a (nI b) i) i (fst (sea ci cn 1 (Tw ci cn nf a (nI b) i (ix (ci i))) (cn i)) nf)) = _
    rw [if_neg (by omega), ep, ix_n (by omega), TT_lo hpi (by omega)]
  have ews : wt ci cn cf cnm cb cs my nf n a (nI b) i = if TT ci cn nf a (nI b) i = -1 then (if ¬ TT ci cn nf a (nI b) p = -1 then 1 else 0) else dh ci cn cf cnm cb cs my nf n i (ix (TT ci cn nf a (nI b) i)) := by
    unfold wt
    rw [ep, ix_n (by omega)]
    by_cases z : TT ci cn nf a (nI b) p = -1
    · simp [z]
    · simp [z, show 1 ≤ i by omega]
  have go : ∀ (m2 : Mem) (u : Nat), u = wt ci cn cf cnm cb cs my nf n a (nI b) i → (∀ k, k ≠ 10 → m2 k = μ k) → (∀ x, x < 16 → m2 10 x = Tw ci cn nf a (nI b) (i + 1) x) → ∀ v, v = nI (sm (wt ci cn cf cnm cb cs my nf n a (nI b)) i) + nI u → k v (nI i + 1) m2 := fun m2 u hu q1 q2 v hv => by
    refine hk _ _ _ ⟨i + 1, by omega, by omega, nIs i, ?_, q1, q2⟩ (by rw [nIs, ix_n (by omega), ix_n (by omega)]; omega)
    rw [hv, nI_add, hu]
    rfl
  refine ⟨hin, vp_in_nI (by omega) (by decide), fun z => go m 0 ?_ r (fun x hx => ?_) _ ?_, fun z => ⟨hin, s_X3_named (by rw [r 1 (by decide)]; exact h1) hnf1 hnf ?_⟩⟩
  · rw [ews, eT, if_pos z, if_pos rfl, if_neg (fun y => y z)]
  · rw [stepr, if_pos z]; exact t x hx
  · show _ = _ + (0 : Int32); rw [Int32.add_zero]
  · rw [r 11 (by decide), r 12 (by decide), e11, e12]
    rw [if_neg z] at eT stepr
    refine ⟨hin, fun m2 em => ?_⟩
    have q1 : ∀ k, k ≠ 10 → m2 k = μ k := fun k hk => by rw [em, wrA, if_neg hk]; exact r k hk
    have q2 : ∀ x, x < 16 → m2 10 x = Tw ci cn nf a (nI b) (i + 1) x := fun x hx => by
      rw [em, wrA, if_pos rfl, stepr, updA, updA, t x hx]
    rw [← eT]
    refine ⟨fun z2 => ?_, fun z2 => go m2 1 ?_ q1 q2 _ rfl⟩
    · rcases TT_r hFo hnf (a := a) hb c with y | ⟨u, hu, y⟩
      · exact absurd y z2
      · rw [y]
        refine here m2 i u q1 c hu (go m2 _ ?_ q1 q2 _ rfl)
        rw [ews, y, if_neg (nI_m1 (by omega)), ix_n (by omega)]
    · rw [ews, if_pos z2, if_pos z]
end DF
