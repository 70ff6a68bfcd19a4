/-! unmerging -/
/-- the files that have the merged body still -/
def stl (R cb : Nat → Int32) (b0 : Nat) : Nat → Bool := fun f => !decide (R f = -1) && decide (cb f = nI b0)
/-- the bodies of the files, once those below f have new ones -/
def ug (s : Nat → Bool) (nb f : Nat) (r : Nat → Int32) : Nat → Int32 := fun x => if x < f ∧ s x = true then nI (nb + ct s x) else r x
theorem ug_0 (s : Nat → Bool) (nb : Nat) (r : Nat → Int32) : ug s nb 0 r = r := by
  funext x; unfold ug; rw [if_neg (fun z => by omega)]
theorem ug_at {s : Nat → Bool} {nb f x : Nat} {r : Nat → Int32} (h : f ≤ x) : ug s nb f r x = r x := by unfold ug; rw [if_neg (fun z => by omega)]
theorem ug_y {s : Nat → Bool} {nb f : Nat} {r : Nat → Int32} (h : s f = true) : upd (ug s nb f r) f (nI (nb + ct s f)) = ug s nb (f + 1) r := by
  funext x
  rw [updA]
  unfold ug
  by_cases c : x = f
  · rw [if_pos c, if_pos ⟨by omega, by rw [c]; exact h⟩, c]
  · rw [if_neg c]
    by_cases d : x < f ∧ s x = true
    · rw [if_pos d, if_pos ⟨by omega, d.2⟩]
    · rw [if_neg d, if_neg (fun z => d ⟨by omega, z.2⟩)]
theorem ug_bet {s : Nat → Bool} {nb f g : Nat} {r : Nat → Int32} (h : f ≤ g) (hs : ∀ x, f ≤ x → x < g → s x = false) : ug s nb g r = ug s nb f r := by
  funext x
  unfold ug
  by_cases d : x < f ∧ s x = true
  · rw [if_pos d, if_pos ⟨by omega, d.2⟩]
  · rw [if_neg d, if_neg (fun z => by
      rcases Nat.lt_or_ge x f with c | c
      · exact d ⟨c, z.2⟩
      · rw [hs x c z.1] at z; cases z.2)]
theorem ct_no {s : Nat → Bool} {f g : Nat} (h : f ≤ g) (hs : ∀ x, f ≤ x → x < g → s x = false) : ct s g = ct s f := by
  have key : ∀ d, f + d ≤ g → ct s (f + d) = ct s f := by
    intro d
    induction d with
    | zero => intro _; rfl
    | succ d ih => intro hd; rw [← Nat.add_assoc, ct_f (hs _ (by omega) (by omega)), ih (by omega)]
  have := key (g - f) (by omega)
  rw [show f + (g - f) = g by omega] at this
  exact this
/-- new bodies in the rows -/
def Own (s : Nat → Bool) (R : Nat → Int32) (nb f : Nat) (o o' : Nat → Int32) : Prop := (∀ b, b < nb ∨ nb + ct s f ≤ b → o' b = o b) ∧ ∀ x, x < f → s x = true → o' (nb + ct s x) = R x
theorem Own.y {s : Nat → Bool} {R o o' : Nat → Int32} {nb f : Nat} (h : Own s R nb f o o') (hs : s f = true) : Own s R nb (f + 1) o (upd o' (nb + ct s f) (R f)) := by
  refine ⟨fun b hb => ?_, fun x hx hsx => ?_⟩
  · rw [ct_t hs] at hb
    rw [up_n (by omega)]
    exact h.1 b (by omega)
  · rcases Nat.lt_or_ge x f with c | c
    · have a1 : ct s (x + 1) = ct s x + 1 := ct_t hsx
      have a2 := ct_mono s (show x + 1 ≤ f by omega)
      rw [up_n (by omega)]
      exact h.2 x c hsx
    · rw [show x = f by omega, up_s]
theorem Own.bet {s : Nat → Bool} {R o o' : Nat → Int32} {nb f g : Nat} (h : Own s R nb f o o') (hfg : f ≤ g) (hs : ∀ x, f ≤ x → x < g → s x = false) : Own s R nb g o o' := by
  refine ⟨fun b hb => h.1 b (by rw [ct_no hfg hs] at hb; exact hb), fun x hx hsx => ?_⟩
  rcases Nat.lt_or_ge x f with c | c
  · exact h.2 x c hsx
  · rw [hs x c hx] at hsx; cases hsx
def Byt (nb c : Nat) (v : Nat → Int32) (y y' : Nat → Int32) : Prop := (∀ j, j < 64 * nb ∨ 64 * (nb + c) ≤ j → y' j = y j) ∧ ∀ i k, i < c → k < 64 → y' (64 * (nb + i) + k) = v k
theorem Byt.y {nb c : Nat} {v y y' z : Nat → Int32} (h : Byt nb c v y y') (h1 : ∀ j, j < 64 * (nb + c) ∨ 64 * (nb + c) + 64 ≤ j → z j = y' j) (h2 : ∀ k, k < 64 → z (64 * (nb + c) + k) = v k) : Byt nb (c + 1) v y z := by
  refine ⟨fun j hj => ?_, fun i k hi hk => ?_⟩
  · rw [h1 j (by omega)]
    exact h.1 j (by omega)
  · rcases Nat.lt_or_ge i c with q | q
    · rw [h1 _ (by omega)]; exact h.2 i k q hk
    · rw [show i = c by omega]; exact h2 k hk
/-- the class, while it unmerges -/
def CU (μ : Mem) (s : Nat → Bool) (R : Nat → Int32) (nb b0 sz f : Nat) (m : Mem) : Prop :=
  (∀ k, k ≠ 3 → k ≠ 16 → k ≠ 18 → k ≠ 19 → k ≠ 20 → k ≠ 21 → m k = μ k) ∧ m 3 4 = nI (nb + ct s f) ∧ m 16 = ug s nb f (μ 16) ∧ m 19 = wby (μ 19) nb (fun _ => nI sz) (ct s f) ∧ m 21 = wby (μ 21) nb (fun _ => μ 21 b0) (ct s f) ∧ Own s R nb f (μ 20) (m 20) ∧ Byt nb (ct s f) (fun k => if k < sz then μ 18 (64 * b0 + k) else 0) (μ 18) (m 18)
theorem CU.bet {μ m : Mem} {s : Nat → Bool} {R : Nat → Int32} {nb b0 sz f g : Nat} (h : CU μ s R nb b0 sz f m) (hfg : f ≤ g) (hs : ∀ x, f ≤ x → x < g → s x = false) : CU μ s R nb b0 sz g m := by
  obtain ⟨h1, h2, h3, h4, h5, h6, h7⟩ := h
  refine ⟨h1, ?_, ?_, ?_, ?_, h6.bet hfg hs, ?_⟩
  · rw [ct_no hfg hs]; exact h2
  · rw [ug_bet hfg hs]; exact h3
  · rw [ct_no hfg hs]; exact h4
  · rw [ct_no hfg hs]; exact h5
  · rw [ct_no hfg hs]; exact h7
theorem s_isStill_c {post : Int32 → Mem → Prop} {m : Mem} {f lt b0 : Nat} (hf : f < 60) (h2 : m 8 2 = nI lt) (hlt : lt < 20) (h29 : m 29 lt = nI b0) (hy : stl (m (lt + 57)) (m 16) b0 f = true → post 1 m) (hn : stl (m (lt + 57)) (m 16) b0 f = false → post 0 m) : w_X4_isStillMerged post (nI f) m := by
  unfold w_X4_isStillMerged
  have hin : vp_in (nI f) 60 := vp_in_nI hf (by decide)
  have hil : vp_in (nI lt) 20 := vp_in_nI hlt (by decide)
  rw [h2, ix_n (by omega), ix_n (by omega), h29]
  unfold stl at hy hn
  exact ⟨hil, hin, fun z => hn (by simp [z]), fun z => ⟨hin, hil, fun z2 => hn (by simp [z2]), fun z2 => hy (by simp [z, z2])⟩⟩
theorem s_unmerge_c {post : Int32 → Mem → Prop} {μ : Mem} {nf n nb w q lt b0 sz : Nat} (hI : Inv nf n nb w q lt μ) (hq : 0 < q) (hb0 : b0 < nb) (e29 : μ 29 lt = nI b0) (hsz : sz ≤ 64) (esz : μ 19 b0 = nI sz) (hroom : nb + ct (stl (μ (lt + 57)) (μ 16) b0) n ≤ 100) {v : Int32} (hp : ∀ m m' : Mem, CU μ (stl (μ (lt + 57)) (μ 16) b0) (μ (lt + 57)) nb b0 sz n m → (∀ k, k ≠ 8 → m' k = m k) → m' 8 2 = nI ((lt + 19) % 20) → m' 8 3 = nI (q - 1) → post v m') : ∃ N : Nat, itr (fun _ _ _ => False) (w_X7_unmerge_b39 post) N v (0 : Int32) μ := by
  obtain ⟨⟨⟨c1, m1, f1, f2⟩, ⟨c2, m2, f3⟩, ⟨c3, m3, f4⟩, ⟨c4, m4, w3⟩, ⟨c5, m5, q20, c6, lt20⟩, hC6⟩, hFo, hFi, hHe, hBo, hBy, hGr, hWi, hLe, hMe⟩ := hI
  refine wl2 (fun x z m => x = v ∧ ∃ f, f ≤ n ∧ z = nI f ∧ CU μ (stl (μ (lt + 57)) (μ 16) b0) (μ (lt + 57)) nb b0 sz f m) (fun _ z _ => n - ix z) ?_ _ _ _ ⟨rfl, 0, by omega, rfl, fun k _ _ _ _ _ _ => rfl, c3, by rw [ug_0], (wby_0 _ _ _).symm, (wby_0 _ _ _).symm, ⟨fun b _ => rfl, fun x hx => absurd hx (Nat.not_lt_zero x)⟩, ⟨fun j _ => rfl, fun i k hi => absurd hi (Nat.not_lt_zero i)⟩⟩
  rintro k x z m ⟨rfl, f, hf, rfl, hC⟩ hk
  have hC0 := hC
  obtain ⟨CO, C3, C16, C19, C21, C20, C18⟩ := hC
  generalize hs : stl (μ (lt + 57)) (μ 16) b0 = s at *
  have r8 : m 8 = μ 8 := CO 8 (by decide) (by decide) (by decide) (by decide) (by decide) (by decide)
  have rR : m (lt + 57) = μ (lt + 57) := CO (lt + 57) (by omega) (by omega) (by omega) (by omega) (by omega) (by omega)
  have r29 : m 29 = μ 29 := CO 29 (by decide) (by decide) (by decide) (by decide) (by decide) (by decide)
  have r2 : m 2 4 = nI n := by rw [CO 2 (by decide) (by decide) (by decide) (by decide) (by decide) (by decide)]; exact c2
  unfold w_X7_unmerge_b39
  refine pk_le n f (fun c => ?_) (fun c => ?_) r2 rfl (by omega) (by omega)
  · have : f = n := by omega
    subst this
    have fin : ∀ u : Nat, u = (lt + 19) % 20 → w_X4_dropLatest_b19 (fun μ5 => post x μ5) (nI u) m := fun u hu => by
      unfold w_X4_dropLatest_b19
      intro y1 g1 y2 g2
      have e3 : y1 8 3 = nI q := by rw [g1, wrA, if_pos rfl, updA, if_neg (by decide), r8]; exact c5
      rw [e3, show nI q - (1 : Int32) = nI (q - 1) from pk_sub (b := 1) (by omega)] at g2
      refine hp m y2 hC0 (fun k hk => by rw [g2, wrA, if_neg hk, g1, wrA, if_neg hk]) ?_ (by rw [g2, wrA, if_pos rfl, updA, if_pos rfl])
      rw [g2, wrA, if_pos rfl, updA, if_neg (by decide), g1, wrA, if_pos rfl, updA, if_pos rfl, hu]
    unfold w_X4_dropLatest
    rw [r8, c6]
    refine pk_le lt 0 (fun z => fin 19 (by omega)) (fun z => ?_) rfl rfl (by omega) (by omega)
    rw [show nI lt - (1 : Int32) = nI (lt - 1) from pk_sub (b := 1) (by omega)]
    exact fin (lt - 1) (by omega)
  · have hin : vp_in (nI f) 60 := vp_in_nI (by omega) (by decide)
    have e16 : m 16 f = μ 16 f := by rw [C16, ug_at (Nat.le_refl _)]
    have est : stl (m (lt + 57)) (m 16) b0 f = s f := by
      rw [← hs]
      unfold stl
      rw [rR, e16]
    have hcf : ct s f ≤ ct s n := ct_mono s (by omega)
    refine s_isStill_c (m := m) (f := f) (b0 := b0) (lt := lt) (by omega) (by rw [r8]; exact c6) lt20 (by rw [r29]; exact e29) (fun hy => t_n (by decide) ⟨hin, ?_⟩) (fun hn => t_y rfl ?_)
    · rw [est] at hy
      have hsf : stl (μ (lt + 57)) (μ 16) b0 f = true := by rw [hs]; exact hy
      have eb : μ 16 f = nI b0 := by unfold stl at hsf; simp at hsf; exact hsf.2
      have a1 : ct s (f + 1) = ct s f + 1 := ct_t hy
      have a2 := ct_mono s (show f + 1 ≤ n by omega)
      unfold w_X4_formerOwner
      rw [r8, c6, ix_n (by omega), ix_n (by omega), e16, eb, ix_n (by omega), rR]
      have e19 : m 19 b0 = nI sz := by rw [C19, wby_out (by omega)]; exact esz
      have e21 : m 21 b0 = μ 21 b0 := by rw [C21, wby_out (by omega)]
      have hv : ∀ k, k < 64 → m 18 (64 * b0 + k) = μ 18 (64 * b0 + k) := fun k hk => C18.1 _ (by omega)
      refine ⟨vp_in_nI lt20 (by decide), hin, vp_in_nI (by omega) (by decide), s_makeLike (nb := nb + ct s f) (s := sz) C3 (by omega) (by omega) e19 hsz (fun j hj => ?_) ⟨hin, fun m2 em => ?_⟩⟩
      · -- every byte is a byte
        by_cases cj : j < 64 * nb ∨ 64 * (nb + ct s f) ≤ j
        · rw [C18.1 j cj]; exact (hBy.1 j hj).2
        · obtain ⟨i, k, hi, hk', ej⟩ : ∃ i k, i < ct s f ∧ k < 64 ∧ j = 64 * (nb + i) + k := ⟨j / 64 - nb, j % 64, by omega, by omega, by omega⟩
          rw [ej, C18.2 i k hi hk']
          show ((if k < sz then μ 18 (64 * b0 + k) else 0 : Int32)).toInt8.toInt32 = if k < sz then μ 18 (64 * b0 + k) else 0
          by_cases ck : k < sz
          · rw [if_pos ck]; exact (hBy.1 _ (by omega)).2
          · rw [if_neg ck]; rfl
      · refine hk _ _ _ ⟨rfl, f + 1, by omega, nIs f, ?_⟩ (by rw [nIs, ix_n (by omega), ix_n (by omega)]; omega)
        refine ⟨fun k k1 k2 k3 k4 k5 k6 => ?_, ?_, ?_, ?_, ?_, ?_, ?_⟩
        · rw [em, wrA, if_neg k2, wrow_n k3, wrA, if_neg k6, wrA, if_neg k5, wrA, if_neg k4, wrA, if_neg k1]; exact CO k k1 k2 k3 k4 k5 k6
        · rw [em, a1]; simp [wrA, wrowA, updA]; rfl
        · rw [em, wrA, if_pos rfl, wrow_n (by decide), wrA, if_neg (by decide), wrA, if_neg (by decide), wrA, if_neg (by decide), wrA, if_neg (by decide), C16, ug_y hy]
        · rw [em, wrA, if_neg (by decide), wrow_n (by decide), wrA, if_neg (by decide), wrA, if_neg (by decide), wrA, if_pos rfl, wrA, if_neg (by decide), C19, a1]
          exact wby_s (μ 19) nb (fun _ => nI sz) (ct s f)
        · rw [em, wrA, if_neg (by decide), wrow_n (by decide), wrA, if_pos rfl, wrA, if_neg (by decide), wrA, if_neg (by decide), wrA, if_neg (by decide), C21, a1]
          rw [show wby (μ 21) nb (fun _ => μ 21 b0) (ct s f) b0 = μ 21 b0 from wby_out (by omega)]
          exact wby_s (μ 21) nb (fun _ => μ 21 b0) (ct s f)
        · rw [em, wrA, if_neg (by decide), wrow_n (by decide), wrA, if_neg (by decide), wrA, if_pos rfl, wrA, if_neg (by decide), wrA, if_neg (by decide)]
          exact C20.y hy
        · rw [em, wrA, if_neg (by decide), wrow_r, a1]
          refine C18.y (fun j hj => wby_out (by omega)) (fun k hk' => ?_)
          by_cases ck : k < sz
          · rw [wby_in ck, hv k hk', if_pos ck]
          · rw [wby_out (by omega), if_neg ck, C18.1 _ (by omega)]
            exact hBy.2 (nb + ct s f) k (by omega) hk' (Or.inl (by omega))
    · rw [est] at hn
      refine hk _ _ _ ⟨rfl, f + 1, by omega, nIs f, hC0.bet (by omega) (fun x h1 h2 => by rw [show x = f by omega]; exact hn)⟩ (by rw [nIs, ix_n (by omega), ix_n (by omega)]; omega)
theorem s_stillMerged {post : Int32 → Mem → Prop} {μ : Mem} {n lt b0 : Nat} (h2 : μ 2 4 = nI n) (hn : n ≤ 60) (h8 : μ 8 2 = nI lt) (hlt : lt < 20) (h29 : μ 29 lt = nI b0) (h : post (nI (ct (stl (μ (lt + 57)) (μ 16) b0) n)) μ) : w_X4_stillMerged post μ := by
  unfold w_X4_stillMerged
  refine wl2 (fun x z m => m = μ ∧ ∃ f, f ≤ n ∧ z = nI f ∧ x = nI (ct (stl (μ (lt + 57)) (μ 16) b0) f)) (fun _ z _ => n - ix z) ?_ _ _ _ ⟨rfl, 0, by omega, rfl, rfl⟩
  rintro k x z m ⟨rfl, f, hf, rfl, rfl⟩ hk
  unfold w_X4_stillMerged_b4
  refine pk_le n f (fun c => by rw [show f = n by omega]; exact h) (fun c => s_isStill_c (b0 := b0) (lt := lt) (by omega) h8 hlt h29 (fun hy => t_n (by decide) ?_) (fun hf => t_y rfl ?_)) h2 rfl (by omega) (by omega)
  · exact hk _ _ _ ⟨rfl, f + 1, by omega, nIs f, by rw [ct_t hy, nIs]⟩ (by rw [nIs, ix_n (by omega), ix_n (by omega)]; omega)
  · exact hk _ _ _ ⟨rfl, f + 1, by omega, nIs f, by rw [ct_f hf]⟩ (by rw [nIs, ix_n (by omega), ix_n (by omega)]; omega)
/-- the reference, while it unmerges -/
def MU (μ M : Mem) (s : Nat → Bool) (R : Nat → Int32) (nb b0 sz f : Nat) (m : Mem) : Prop :=
  (∀ k, k ≠ 31 → k ≠ 36 → k ≠ 38 → k ≠ 39 → k ≠ 40 → k ≠ 41 → k ≠ 42 → m k = M k) ∧ (∀ j, j ≠ 3 → m 31 j = M 31 j) ∧ m 31 3 = nI (nb + ct s f) ∧ m 36 = ug s nb f (μ 36) ∧ m 38 = wby (μ 38) nb (fun _ => nI sz) (ct s f) ∧ m 40 = wby (μ 40) nb (fun _ => μ 40 b0) (ct s f) ∧ m 41 = wby (μ 41) nb (fun _ => -1) (ct s f) ∧ Own s R nb f (μ 39) (m 39) ∧ Byt nb (ct s f) (fun k => μ 42 (64 * b0 + k)) (μ 42) (m 42)
theorem MU.bet {μ M m : Mem} {s : Nat → Bool} {R : Nat → Int32} {nb b0 sz f g : Nat} (h : MU μ M s R nb b0 sz f m) (hfg : f ≤ g) (hs : ∀ x, f ≤ x → x < g → s x = false) : MU μ M s R nb b0 sz g m := by
  obtain ⟨h0, h1, h2, h3, h4, h5, h8, h6, h7⟩ := h
  refine ⟨h0, h1, ?_, ?_, ?_, ?_, ?_, h6.bet hfg hs, ?_⟩
  · rw [ct_no hfg hs]; exact h2
  · rw [ug_bet hfg hs]; exact h3
  · rw [ct_no hfg hs]; exact h4
  · rw [ct_no hfg hs]; exact h5
  · rw [ct_no hfg hs]; exact h8
  · rw [ct_no hfg hs]; exact h7
/-- the reference asks whether the k-th file of the latest merging has its body still -/
theorem s_isStill_m {post : Int32 → Mem → Prop} {m : Mem} {mi g0 k b0 : Nat} (hmi : mi < 20) (hk : k < 60) (hg : g0 < 60) (hb0 : b0 < 100) (e48 : m 48 (60 * mi + k) = nI g0) (e47 : m 47 mi = nI b0) (hy : ¬ m 34 g0 = -1 → m 36 g0 = nI b0 → post 1 m) (hn : ¬ (¬ m 34 g0 = -1 ∧ m 36 g0 = nI b0) → post 0 m) : w_X8_isStill post (nI mi) (nI k) m := by
  unfold w_X8_isStill
  rw [nIm60, ix_n (by omega), e48, ix_n (by omega), ix_n (by omega), e47]
  have h1 : vp_in (nI (60 * mi + k)) 1200 := vp_in_nI (by omega) (by decide)
  have h2 : vp_in (nI g0) 60 := vp_in_nI hg (by decide)
  exact ⟨h1, h2, fun z => hn (fun y => y.1 z), fun z => ⟨h2, vp_in_nI hmi (by decide), fun z2 => hn (fun y => z2 y.2), fun z2 => hy z z2⟩⟩
theorem s_unmerge_m {post : Int32 → Mem → Prop} {μ M : Mem} {nf n nb w q lt b0 sz : Nat} {v : Int32} {s : Nat → Bool} (hI : Inv nf n nb w q lt μ) (hq : 0 < q) (hM : ∀ k, 32 ≤ k → k ≤ 55 → M k = μ k) (hM31 : ∀ j, j ≠ 0 → j ≠ 23 → M 31 j = μ 31 j) (hb0 : b0 < nb) (e29 : μ 29 lt = nI b0) (e47 : μ 47 (q - 1) = nI b0) (hRow : IRow n (μ (lt + 57)) (q - 1) (μ 46) (μ 48) (μ 49)) (hsz : sz ≤ 64) (esz : μ 19 b0 = nI sz) (hs : stl (μ (lt + 57)) (μ 16) b0 = s) (hroom : nb + ct s 60 ≤ 100) (hp : ∀ m m' : Mem, MU μ M s (μ (lt + 57)) nb b0 sz 60 m → m' = (if hav (ebd (m 34) (m 36)) n (nI b0) = 0 then wr m 41 b0 (-1) else m) → post v m') : ∃ N : Nat, itr (fun _ _ _ _ _ => False) (w_X8_unmerge_b86 post) N (nI (q - 1)) v (nI b0) (0 : Int32) M := by
  obtain ⟨⟨⟨c1, m1, f1, f2⟩, ⟨c2, m2, f3⟩, ⟨c3, m3, f4⟩, ⟨c4, m4, w3⟩, ⟨c5, m5, q20, c6, lt20⟩, hC6⟩, hFo, hFi, hHe, hBo, hBy, hGr, hWi, hLe, hMe⟩ := hI
  have stn : ∀ x, x < 60 → s x = true → x < n ∧ rowp (μ (lt + 57)) x = true := fun x hx hsx => by
    rw [← hs] at hsx
    unfold stl at hsx
    simp at hsx
    rcases hRow.1 x hx with y | y
    · exact absurd y hsx.1
    · exact ⟨y.1, by unfold rowp; exact decide_eq_true hsx.1⟩
  have nos : ∀ {f g : Nat}, f ≤ g → g ≤ 60 → ct (rowp (μ (lt + 57))) f = ct (rowp (μ (lt + 57))) g → ∀ x, f ≤ x → x < g → s x = false := fun hfg hg e x h1 h2 => by
    cases es : s x
    · rfl
    · have := (stn x (by omega) es).2
      rw [ct_bet hfg e x h1 h2] at this; cases this
  have tot60 : ct (rowp (μ (lt + 57))) 60 ≤ 60 := ct_le _ _
  refine wl4 (fun x y z u m => x = nI (q - 1) ∧ y = v ∧ z = nI b0 ∧ ∃ k, k ≤ ct (rowp (μ (lt + 57))) 60 ∧ u = nI k ∧ ∃ f, f ≤ 60 ∧ ct (rowp (μ (lt + 57))) f = k ∧ MU μ M s (μ (lt + 57)) nb b0 sz f m) (fun _ _ _ u _ => 60 - ix u) ?_ _ _ _ _ _ ⟨rfl, rfl, rfl, 0, by omega, rfl, 0, by omega, rfl, fun k _ _ _ _ _ _ _ => rfl, fun j _ => rfl, by rw [hM31 3 (by decide) (by decide)]; exact m3, by rw [ug_0, hM 36 (by decide) (by decide)], by rw [hM 38 (by decide) (by decide)]; exact (wby_0 _ _ _).symm, by rw [hM 40 (by decide) (by decide)]; exact (wby_0 _ _ _).symm, by rw [hM 41 (by decide) (by decide)]; exact (wby_0 _ _ _).symm, by rw [hM 39 (by decide) (by decide)]; exact ⟨fun b _ => rfl, fun x hx => absurd hx (Nat.not_lt_zero x)⟩, by rw [hM 42 (by decide) (by decide)]; exact ⟨fun j _ => rfl, fun i k hi => absurd hi (Nat.not_lt_zero i)⟩⟩
  rintro kk x y z u m ⟨rfl, rfl, rfl, k, hk, rfl, f, hf, ef, hU⟩ hkk
  have hU0 := hU
  obtain ⟨UO, U31, U3, U36, U38, U40, U41, U39, U42⟩ := hU
  have r : ∀ k, 43 ≤ k → k ≤ 55 → m k = μ k := fun k k1 k2 => (UO k (by omega) (by omega) (by omega) (by omega) (by omega) (by omega) (by omega)).trans (hM k (by omega) k2)
  have r34 : m 34 = μ 34 := (UO 34 (by decide) (by decide) (by decide) (by decide) (by decide) (by decide) (by decide)).trans (hM 34 (by decide) (by decide))
  have u2 : m 31 2 = nI n := by rw [U31 2 (by decide), hM31 2 (by decide) (by decide)]; exact m2
  unfold w_X8_unmerge_b86
  rw [ix_n (by omega), r 46 (by decide) (by decide), hRow.2.1]
  refine ⟨vp_in_nI (by omega) (by decide), ?_⟩
  refine pk_le (ct (rowp (μ (lt + 57))) 60) k (fun c => ?_) (fun c => ?_) rfl rfl (by omega) (by omega)
  · have hU60 : MU μ M s (μ (lt + 57)) nb b0 sz 60 m := hU0.bet hf (nos hf (Nat.le_refl _) (by omega))
    exact s_leaves u2 f3 (by omega) (hp m _ hU60 rfl)
  · obtain ⟨g0, hg0, pg, eg⟩ := ct_find (s := rowp (μ (lt + 57))) (i := k) c
    have hfg : f ≤ g0 := by
      rcases Nat.lt_or_ge g0 f with z | z
      · have a1 : ct (rowp (μ (lt + 57))) (g0 + 1) = ct (rowp (μ (lt + 57))) g0 + 1 := ct_t pg
        have a2 := ct_mono (rowp (μ (lt + 57))) (show g0 + 1 ≤ f by omega)
        omega
      · exact z
    have hU1 := hU0.bet hfg (nos hfg (by omega) (by omega))
    obtain ⟨-, -, U3, U36, U38, U40, U41, U39, U42⟩ := hU1
    have hRg : ¬ μ (lt + 57) g0 = -1 := of_decide_eq_true pg
    obtain ⟨hgn, o, ho, eo⟩ : g0 < n ∧ ∃ o, o < 8 ∧ μ (lt + 57) g0 = nI o := by
      rcases hRow.1 g0 hg0 with y | y
      · exact absurd y hRg
      · exact y
    obtain ⟨x48, x49⟩ := hRow.2.2 g0 hg0 hRg
    rw [eg] at x48 x49
    have e36 : m 36 g0 = μ 36 g0 := by rw [U36, ug_at (Nat.le_refl _)]
    -- whether it is still so, on both sides
    have iff : (¬ m 34 g0 = -1 ∧ m 36 g0 = nI b0) ↔ s g0 = true := by
      rw [r34, e36, ← hs]
      unfold stl
      obtain ⟨-, ⟨b, hb, eb⟩, hc⟩ := hFi g0 hgn
      rcases hc with ⟨hc1, hc2⟩ | ⟨⟨d, hd, hc1⟩, hc2, -⟩
      · rw [hc1, hc2]
        constructor
        · exact fun y => absurd rfl y.1
        · intro y
          simp at y
          exact absurd y.2.symm (nI_m1 (by omega))
      · rw [hc1, ← hc2]
        constructor
        · exact fun y => by simp [hRg, y.2]
        · intro y
          simp at y
          exact ⟨nI_m1 (by omega), y.2⟩
    refine s_isStill_m (g0 := g0) (b0 := b0) (by omega) (by omega) hg0 (by omega) (by rw [r 48 (by decide) (by decide)]; exact x48) (by rw [r 47 (by decide) (by decide)]; exact e47) (fun y1 y2 => f_n (by decide) ?_) (fun hn => f_y rfl ?_)
    · have hsg : s g0 = true := iff.mp ⟨y1, y2⟩
      have a1 : ct s (g0 + 1) = ct s g0 + 1 := ct_t hsg
      have a2 := ct_mono s (show g0 + 1 ≤ 60 by omega)
      have hinb : vp_in (nI b0) 100 := vp_in_nI (by omega) (by decide)
      have hix : vp_in (nI (60 * (q - 1) + k)) 1200 := vp_in_nI (by omega) (by decide)
      rw [nIm60, ix_n (by omega), ix_n (by omega), r 49 (by decide) (by decide), x49]
      have e38 : m 38 b0 = nI sz := by rw [U38, wby_out (by omega), (hBo b0 (by omega)).2.1]; exact esz
      have e40 : m 40 b0 = μ 40 b0 := by rw [U40, wby_out (by omega)]
      rw [e38, e40]
      refine ⟨hinb, hix, hinb, s_newBody U3 (by omega) (s_fillsFrom (by omega) (by omega) (by omega) ⟨hix, ?_⟩)⟩
      generalize hN : wrow (wr (wr (wr (wr (wr m 38 (nb + ct s g0) (nI sz)) 39 (nb + ct s g0) (μ (lt + 57) g0)) 40 (nb + ct s g0) (μ 40 b0)) 41 (nb + ct s g0) (-1)) 31 3 (nI (nb + ct s g0 + 1))) 42 _ = N
      have n48 : N 48 = μ 48 := by rw [← hN]; simp [wrA, wrowA]; exact r 48 (by decide) (by decide)
      rw [n48, x48, ix_n (by omega)]
      refine ⟨vp_in_nI hg0 (by decide), fun m2 em => hkk _ _ _ _ _ ⟨rfl, rfl, rfl, k + 1, by omega, nIs k, g0 + 1, by omega, by rw [ct_t pg, eg], ?_⟩ (by rw [nIs, ix_n (by omega), ix_n (by omega)]; omega)⟩
      refine ⟨fun k k1 k2 k3 k4 k5 k6 k7 => ?_, fun j hj => ?_, ?_, ?_, ?_, ?_, ?_, ?_, ?_⟩
      · rw [em, wrA, if_neg k2, ← hN, wrow_n k7, wrA, if_neg k1, wrA, if_neg k6, wrA, if_neg k5, wrA, if_neg k4, wrA, if_neg k3]; exact UO k k1 k2 k3 k4 k5 k6 k7
      · rw [em, ← hN]; simp [wrA, wrowA, updA, hj]; exact U31 j hj
      · rw [em, ← hN, a1]; simp [wrA, wrowA, updA]; rfl
      · rw [em, wrA, if_pos rfl, ← hN, wrow_n (by decide), wrA, if_neg (by decide), wrA, if_neg (by decide), wrA, if_neg (by decide), wrA, if_neg (by decide), wrA, if_neg (by decide), U36, ug_y hsg]
      · rw [em, wrA, if_neg (by decide), ← hN, wrow_n (by decide), wrA, if_neg (by decide), wrA, if_neg (by decide), wrA, if_neg (by decide), wrA, if_neg (by decide), wrA, if_pos rfl, U38, a1]
        exact wby_s (μ 38) nb (fun _ => nI sz) (ct s g0)
      · rw [em, wrA, if_neg (by decide), ← hN, wrow_n (by decide), wrA, if_neg (by decide), wrA, if_neg (by decide), wrA, if_pos rfl, wrA, if_neg (by decide), wrA, if_neg (by decide), U40, a1]
        exact wby_s (μ 40) nb (fun _ => μ 40 b0) (ct s g0)
      · rw [em, wrA, if_neg (by decide), ← hN, wrow_n (by decide), wrA, if_neg (by decide), wrA, if_pos rfl, wrA, if_neg (by decide), wrA, if_neg (by decide), wrA, if_neg (by decide), U41, a1]
        exact wby_s (μ 41) nb (fun _ => -1) (ct s g0)
      · rw [em, wrA, if_neg (by decide), ← hN, wrow_n (by decide), wrA, if_neg (by decide), wrA, if_neg (by decide), wrA, if_neg (by decide), wrA, if_pos rfl, wrA, if_neg (by decide)]
        exact U39.y hsg
      · rw [em, wrA, if_neg (by decide), ← hN, wrow_r, a1]
        have e42 : wr (wr (wr (wr (wr m 38 (nb + ct s g0) (nI sz)) 39 (nb + ct s g0) (μ (lt + 57) g0)) 40 (nb + ct s g0) (μ 40 b0)) 41 (nb + ct s g0) (-1)) 31 3 (nI (nb + ct s g0 + 1)) 42 = m 42 := by simp [wrA]
        rw [e42]
        refine U42.y (fun j hj => wby_out (by omega)) (fun k hk' => ?_)
        rw [wby_in hk', U42.1 _ (by omega)]
    · have hsg : s g0 = false := by
        cases e : s g0
        · rfl
        · exact absurd (iff.mpr e) hn
      refine hkk _ _ _ _ _ ⟨rfl, rfl, rfl, k + 1, by omega, nIs k, g0 + 1, by omega, by rw [ct_t pg, eg], ?_⟩ (by rw [nIs, ix_n (by omega), ix_n (by omega)]; omega)
      exact (hU0.bet hfg (nos hfg (by omega) (by omega))).bet (by omega) (fun x h1 h2 => by rw [show x = g0 by omega]; exact hsg)
theorem IBo.news {nb b0 sz f : Nat} {cs co cd ms mo md co' mo' R : Nat → Int32} {s : Nat → Bool} (h : IBo cs co cd ms mo md) (hb0 : b0 < nb) (hc : nb + ct s f ≤ 100) (hf : f ≤ 60) (hsz : sz ≤ 64) (hR : ∀ x, x < f → s x = true → ∃ o, o < 8 ∧ R x = nI o) (h1 : Own s R nb f co co') (h2 : Own s R nb f mo mo') : IBo (wby cs nb (fun _ => nI sz) (ct s f)) co' (wby cd nb (fun _ => cd b0) (ct s f)) (wby ms nb (fun _ => nI sz) (ct s f)) mo' (wby md nb (fun _ => md b0) (ct s f)) := fun b hb => by
  by_cases c : b < nb ∨ nb + ct s f ≤ b
  · rw [wby_out c, wby_out c, wby_out c, wby_out c, h1.1 b c, h2.1 b c]
    exact h b hb
  · obtain ⟨i, rfl⟩ : ∃ i, b = nb + i := ⟨b - nb, by omega⟩
    have hi : i < ct s f := by omega
    rw [wby_in hi, wby_in hi, wby_in hi, wby_in hi]
    obtain ⟨x, hx, sx, ex⟩ := ct_find hi
    obtain ⟨o, ho, eo⟩ := hR x hx sx
    have a1 := h1.2 x hx sx
    have a2 := h2.2 x hx sx
    rw [ex] at a1 a2
    exact ⟨⟨sz, hsz, rfl⟩, rfl, ⟨o, ho, a1.trans eo⟩, a2.trans a1.symm, (h b0 (by omega)).2.2.2.2⟩
theorem IBy.news {nb c b0 sz : Nat} {cs cy my cy' my' : Nat → Int32} (h : IBy nb cs cy my) (hb0 : b0 < nb) (hc : nb + c ≤ 100) (hsz : sz ≤ 64) (esz : cs b0 = nI sz) (h1 : Byt nb c (fun k => if k < sz then cy (64 * b0 + k) else 0) cy cy') (h2 : Byt nb c (fun k => my (64 * b0 + k)) my my') : IBy (nb + c) (wby cs nb (fun _ => nI sz) c) cy' my' := by
  refine ⟨fun j hj => ?_, fun b k hb hk hcond => ?_⟩
  · by_cases cj : j < 64 * nb ∨ 64 * (nb + c) ≤ j
    · rw [h1.1 j cj, h2.1 j cj]; exact h.1 j hj
    · obtain ⟨i, k, hi, hk', ej⟩ : ∃ i k, i < c ∧ k < 64 ∧ j = 64 * (nb + i) + k := ⟨j / 64 - nb, j % 64, by omega, by omega, by omega⟩
      rw [ej, h1.2 i k hi hk', h2.2 i k hi hk']
      show my (64 * b0 + k) = (if k < sz then cy (64 * b0 + k) else 0) &&& 255 ∧ (if k < sz then cy (64 * b0 + k) else 0).toInt8.toInt32 = if k < sz then cy (64 * b0 + k) else 0
      have := h.1 (64 * b0 + k) (by omega)
      by_cases ck : k < sz
      · rw [if_pos ck]; exact this
      · rw [if_neg ck]
        have z := h.2 b0 k (by omega) hk' (Or.inr (by rw [esz]; exact nI_le (by omega) (by omega)))
        rw [z] at this
        exact ⟨this.1, rfl⟩
  · by_cases cb : b < nb ∨ nb + c ≤ b
    · rw [h1.1 _ (by omega)]
      refine h.2 b k hb hk ?_
      rcases hcond with y | y
      · exact Or.inl (by omega)
      · rw [wby_out cb] at y; exact Or.inr y
    · obtain ⟨i, rfl⟩ : ∃ i, b = nb + i := ⟨b - nb, by omega⟩
      have hi : i < c := by omega
      rw [h1.2 i k hi hk]
      rcases hcond with y | y
      · omega
      · rw [wby_in hi] at y
        have := (nI_leI (by omega) (by omega)).mp y
        show (if k < sz then cy (64 * b0 + k) else 0) = 0
        rw [if_neg (by omega)]
theorem op_unmerge {K : Int32 → Int32 → Mem → Prop} {μ : Mem} (hI : InvE μ) (hK : ∀ b m, InvE m → K b b m) : w_X7_unmerge (fun r m => w_X8_unmerge (K r) m) μ := by
  obtain ⟨nf, n, nb, w, q, lt, hI⟩ := hI
  have hI0 := hI
  obtain ⟨⟨⟨c1, m1, f1, f2⟩, ⟨c2, m2, f3⟩, ⟨c3, m3, f4⟩, hC4, ⟨c5, m5, q20, c6, lt20⟩, hC6⟩, hFo, hFi, hHe, hBo, hBy, hGr, hWi, hLe, hMe⟩ := hI
  unfold w_X7_unmerge
  refine And.symm (pk_eq q 0 (fun hq => ?_) (fun hq => ?_) c5 rfl (by omega) (by omega))
  · unfold w_X8_unmerge
    intro m em
    subst em
    refine f_y (by simp [wrA, updA]; rw [m5, hq]; rfl) (hK _ _ ⟨nf, n, nb, w, q, lt, hI0.w n310⟩)
  · obtain ⟨⟨b0, hb0, e29, e47⟩, hRow⟩ := hMe 0 (by omega)
    rw [show (lt + 20 - 0) % 20 = lt by omega, show q - 1 - 0 = q - 1 by omega] at *
    obtain ⟨⟨sz, hsz, esz⟩, eMs, -, -, eMd⟩ := hBo b0 (by omega)
    have hRow : IRow n (μ (lt + 57)) (q - 1) (μ 46) (μ 48) (μ 49) := hRow
    generalize hs : stl (μ (lt + 57)) (μ 16) b0 = s
    have stn : ∀ x, x < 60 → s x = true → x < n ∧ ¬ μ (lt + 57) x = -1 ∧ μ 16 x = nI b0 := fun x hx hsx => by
      rw [← hs] at hsx
      unfold stl at hsx
      simp at hsx
      rcases hRow.1 x hx with y | y
      · exact absurd y hsx.1
      · exact ⟨y.1, hsx⟩
    have c60 : ct s 60 = ct s n := ct_no f3 (fun x h1 h2 => by
      cases e : s x
      · rfl
      · have := (stn x h2 e).1; omega)
    have hcn : ct s n ≤ n := ct_le _ _
    -- the reference counts the same
    have tot60 : ct (rowp (μ (lt + 57))) 60 ≤ 60 := ct_le _ _
    have count : ∀ {P : Int32 → Mem → Prop} (M : Mem), M 31 3 = nI nb → M 31 23 = nI q → (∀ k, 32 ≤ k → k ≤ 55 → M k = μ k) → ((nb + ct s n ≤ 100 → ∀ M4 : Mem, M4 = wr M 31 23 (nI (q - 1)) → ∃ N : Nat, itr (fun _ _ _ _ _ => False) (w_X8_unmerge_b86 P) N (nI (q - 1)) (nI (ct s n)) (nI b0) (0 : Int32) M4) ∧ (¬ nb + ct s n ≤ 100 → P (-1) M)) → ∃ N : Nat, itr (fun _ _ _ _ => False) (w_X8_unmerge_b25 P) N (nI (q - 1)) (0 : Int32) (0 : Int32) M := fun {P} M M3 M23 hM hfin => by
      refine wl3 (fun x y z m => x = nI (q - 1) ∧ m = M ∧ ∃ k, k ≤ ct (rowp (μ (lt + 57))) 60 ∧ z = nI k ∧ ∃ f, f ≤ 60 ∧ ct (rowp (μ (lt + 57))) f = k ∧ y = nI (ct s f)) (fun _ _ z _ => 60 - ix z) ?_ _ _ _ _ ⟨rfl, rfl, 0, by omega, rfl, 0, by omega, rfl, rfl⟩
      rintro kk x y z m ⟨rfl, rfl, k, hk, rfl, f, hf, ef, rfl⟩ hkk
      have nos : ∀ {f g : Nat}, f ≤ g → g ≤ 60 → ct (rowp (μ (lt + 57))) f = ct (rowp (μ (lt + 57))) g → ∀ x, f ≤ x → x < g → s x = false := fun hfg hg e x h1 h2 => by
        cases es : s x
        · rfl
        · have := (stn x (by omega) es).2.1
          have h3 := ct_bet hfg e x h1 h2
          unfold rowp at h3
          exact absurd (of_decide_eq_false h3) (fun y => y this)
      unfold w_X8_unmerge_b25
      rw [ix_n (by omega), hM 46 (by decide) (by decide), hRow.2.1]
      refine ⟨vp_in_nI (by omega) (by decide), ?_⟩
      refine pk_le (ct (rowp (μ (lt + 57))) 60) k (fun c => ?_) (fun c => ?_) rfl rfl (by omega) (by omega)
      · have e60 : ct s f = ct s n := by rw [← c60]; exact (ct_no hf (nos hf (Nat.le_refl _) (by omega))).symm
        rw [e60]
        refine pk_le (nb + ct s n) 100 (fun z M4 em => ?_) (fun z => hfin.2 (by omega)) (by rw [M3, nI_add]) rfl (by omega) (by omega)
        rw [M23, show nI q - (1 : Int32) = nI (q - 1) from pk_sub (b := 1) (by omega)] at em
        refine ⟨vp_in_nI (by omega) (by decide), ?_⟩
        rw [show M4 47 (q - 1) = nI b0 by rw [em, wrA, if_neg (by decide), hM 47 (by decide) (by decide)]; exact e47]
        exact hfin.1 z M4 em
      · obtain ⟨g0, hg0, pg, eg⟩ := ct_find (s := rowp (μ (lt + 57))) (i := k) c
        have hfg : f ≤ g0 := by
          rcases Nat.lt_or_ge g0 f with z | z
          · have a1 : ct (rowp (μ (lt + 57))) (g0 + 1) = ct (rowp (μ (lt + 57))) g0 + 1 := ct_t pg
            have a2 := ct_mono (rowp (μ (lt + 57))) (show g0 + 1 ≤ f by omega)
            omega
          · exact z
        have hRg : ¬ μ (lt + 57) g0 = -1 := of_decide_eq_true pg
        have hgn : g0 < n := by
          rcases hRow.1 g0 hg0 with y | y
          · exact absurd y hRg
          · exact y.1
        obtain ⟨x48, -⟩ := hRow.2.2 g0 hg0 hRg
        rw [eg] at x48
        have ecs : ct s g0 = ct s f := ct_no hfg (nos hfg (by omega) (by omega))
        have iff : (¬ m 34 g0 = -1 ∧ m 36 g0 = nI b0) ↔ s g0 = true := by
          rw [hM 34 (by decide) (by decide), hM 36 (by decide) (by decide), ← hs]
          unfold stl
          obtain ⟨-, ⟨b, hb, eb⟩, hc⟩ := hFi g0 hgn
          rcases hc with ⟨hc1, hc2⟩ | ⟨⟨d, hd, hc1⟩, hc2, -⟩
          · rw [hc1, hc2]
            constructor
            · exact fun y => absurd rfl y.1
            · intro y
              simp at y
              exact absurd y.2.symm (nI_m1 (by omega))
          · rw [hc1, ← hc2]
            constructor
            · exact fun y => by simp [hRg, y.2]
            · intro y
              simp at y
              exact ⟨nI_m1 (by omega), y.2⟩
        refine s_isStill_m (g0 := g0) (b0 := b0) (by omega) (by omega) hg0 (by omega) (by rw [hM 48 (by decide) (by decide)]; exact x48) (by rw [hM 47 (by decide) (by decide)]; exact e47) (fun y1 y2 => t_n (by decide) ?_) (fun hn => t_y rfl ?_)
        · exact hkk _ _ _ _ ⟨rfl, rfl, k + 1, by omega, nIs k, g0 + 1, by omega, by rw [ct_t pg, eg], by rw [ct_t (iff.mp ⟨y1, y2⟩), ecs, nIs]⟩ (by rw [nIs, ix_n (by omega), ix_n (by omega)]; omega)
        · have hsg : s g0 = false := by
            cases e : s g0
            · rfl
            · exact absurd (iff.mpr e) hn
          exact hkk _ _ _ _ ⟨rfl, rfl, k + 1, by omega, nIs k, g0 + 1, by omega, by rw [ct_t pg, eg], by rw [ct_f hsg, ecs]⟩ (by rw [nIs, ix_n (by omega), ix_n (by omega)]; omega)
    have start : ∀ {P : Int32 → Mem → Prop} (m : Mem), (∀ k, 31 ≤ k → k ≤ 55 → m k = μ k) → ((nb + ct s n ≤ 100 → ∀ M4 : Mem, M4 = wr (wr m 31 0 0) 31 23 (nI (q - 1)) → ∃ N : Nat, itr (fun _ _ _ _ _ => False) (w_X8_unmerge_b86 P) N (nI (q - 1)) (nI (ct s n)) (nI b0) (0 : Int32) M4) ∧ (¬ nb + ct s n ≤ 100 → P (-1) (wr m 31 0 0))) → w_X8_unmerge P m := fun {P} m hm hfin => by
      unfold w_X8_unmerge
      intro M em
      have e23 : M 31 23 = nI q := by rw [em]; simp [wrA, updA]; rw [hm 31 (by decide) (by decide)]; exact m5
      rw [e23, show nI q - (1 : Int32) = nI (q - 1) from pk_sub (b := 1) (by omega)]
      refine f_n (nI_ne0 (by omega) (by omega)) (count M ?_ e23 (fun k k1 k2 => ?_) ?_)
      · rw [em]; simp [wrA, updA]; rw [hm 31 (by decide) (by decide)]; exact m3
      · rw [em, wrA, if_neg (by omega)]; exact hm k (by omega) k2
      · rw [em]; exact hfin
    refine s_stillMerged (b0 := b0) c2 f3 c6 lt20 e29 ?_
    rw [hs]
    unfold w_X0_hasRoomFor
    rw [c3, nI_add]
    refine pk_lt 100 (nb + ct s n) (fun c => f_y rfl ?_) (fun c => f_n (by decide) ?_) rfl rfl (by omega) (by omega)
    · exact start μ (fun k _ _ => rfl) ⟨fun z => by omega, fun _ => hK _ _ ⟨nf, n, nb, w, q, lt, hI0.w n310⟩⟩
    · refine s_unmerge_c hI0 (by omega) hb0 e29 hsz esz (by rw [hs]; omega) (fun mc mc' hCU d0 d2 d3 => ?_)
      rw [hs] at hCU
      obtain ⟨CO, C3, C16, C19, C21, C20, C18⟩ := hCU
      have rc : ∀ k, 31 ≤ k → mc' k = μ k := fun k k1 => by rw [d0 k (by omega)]; exact CO k (by omega) (by omega) (by omega) (by omega) (by omega) (by omega)
      refine start mc' (fun k k1 _ => rc k k1) ⟨fun _ M4 e4 => ?_, fun z => absurd (by omega) z⟩
      have h4 : ∀ k, 32 ≤ k → k ≤ 55 → M4 k = μ k := fun k k1 k2 => by rw [e4, wrA, if_neg (by omega), wrA, if_neg (by omega)]; exact rc k (by omega)
      have h431 : ∀ j, j ≠ 0 → j ≠ 23 → M4 31 j = μ 31 j := fun j j1 j2 => by rw [e4]; simp [wrA, updA, j1, j2]; rw [rc 31 (by decide)]
      have h423 : M4 31 23 = nI (q - 1) := by rw [e4]; simp [wrA, updA]
      have h4c : ∀ k, k ≠ 31 → M4 k = mc' k := fun k k1 => by rw [e4, wrA, if_neg k1, wrA, if_neg k1]
      refine s_unmerge_m (lt := lt) (b0 := b0) (sz := sz) (s := s) hI0 (by omega) h4 h431 hb0 e29 e47 hRow hsz esz hs (by rw [c60]; omega) (fun mm mm' hMU emm => hK _ _ ?_)
      obtain ⟨UO, U31, U3, U36, U38, U40, U41, U39, U42⟩ := hMU
      rw [c60] at U3 U38 U40 U41 U42
      have ug60 : ∀ x, x < n → ug s nb 60 (μ 36) x = ug s nb n (μ 36) x := fun x hx => by
        unfold ug
        by_cases d : s x = true
        · rw [if_pos ⟨by omega, d⟩, if_pos ⟨hx, d⟩]
        · rw [if_neg (fun z => d z.2), if_neg (fun z => d z.2)]
      have hFi' : IFi nf n (nb + ct s n) (μ 14) (μ 15) (ug s nb n (μ 16)) (μ 34) (μ 35) (mm 36) := fun x hx => by
        rw [U36, ug60 x hx]
        obtain ⟨a, ⟨b, hb, eb⟩, c'⟩ := hFi x hx
        unfold ug
        by_cases d : x < n ∧ s x = true
        · rw [if_pos d, if_pos d]
          have a1 : ct s (x + 1) = ct s x + 1 := ct_t d.2
          have a2 := ct_mono s (show x + 1 ≤ n by omega)
          refine ⟨a, ⟨nb + ct s x, by omega, rfl⟩, ?_⟩
          rcases c' with ⟨-, c'⟩ | ⟨y1, y2, y3⟩
          · rw [(stn x (by omega) d.2).2.2] at c'; exact absurd c' (nI_m1 (by omega))
          · exact Or.inr ⟨y1, rfl, y3⟩
        · rw [if_neg d, if_neg d]
          exact ⟨a, ⟨b, by omega, eb⟩, c'⟩
      have q34 : mm 34 = μ 34 := (UO 34 (by decide) (by decide) (by decide) (by decide) (by decide) (by decide) (by decide)).trans (h4 34 (by decide) (by decide))
      have ehav : hav (ebd (mm 34) (mm 36)) n (nI b0) = hav (ug s nb n (μ 16)) n (nI b0) := by rw [q34]; exact hav_cong (hFi'.ebd f2)
      rw [ehav] at emm
      -- the groups
      have hGr' : IGr n (nb + ct s n) (ug s nb n (μ 16)) (μ 22) (mm' 41) := by
        refine ⟨fun b h1 h2 => hGr.1 b (by omega) h2, fun x hx b hb e => ?_⟩
        have e41 : b ≠ b0 ∨ ¬ hav (ug s nb n (μ 16)) n (nI b0) = 0 := by
          by_cases z : b = b0
          · right
            intro h0
            rw [z] at e
            exact hav_z h0 hx e
          · exact Or.inl z
        have em41 : mm' 41 b = mm 41 b := by
          rw [emm]
          split
          · rcases e41 with y | y
            · rw [wrA, if_pos rfl, up_n y]
            · exact absurd ‹_› y
          · rfl
        rw [em41, U41]
        unfold ug at e
        by_cases d : x < n ∧ s x = true
        · rw [if_pos d] at e
          have a1 : ct s (x + 1) = ct s x + 1 := ct_t d.2
          have a2 := ct_mono s (show x + 1 ≤ n by omega)
          have : nb + ct s x = b := (nI_eq (by omega) (by omega)).mp e
          rw [← this, wby_in (by omega)]
          exact hGr.1 _ (by omega) (by omega)
        · rw [if_neg d] at e
          obtain ⟨-, ⟨b', hb', eb'⟩, c'⟩ := hFi x hx
          have : b = b' := by
            rcases c' with ⟨-, c'⟩ | ⟨-, c', -⟩
            · rw [c'] at e; exact absurd e.symm (nI_m1 (by omega))
            · exact (nI_eq (by omega) (by omega)).mp (by rw [← e, c', eb'])
          rw [wby_out (by omega)]
          exact hGr.2 x hx b (by omega) e
      have v : ∀ k, k ≠ 41 → mm' k = mm k := fun k hk => by
        rw [emm]
        split
        · rw [wrA, if_neg hk]
        · rfl
      have vc : ∀ k, k ≠ 31 → k ≠ 36 → k ≠ 38 → k ≠ 39 → k ≠ 40 → k ≠ 41 → k ≠ 42 → k ≠ 8 → mm' k = mc k := fun k k1 k2 k3 k4 k5 k6 k7 k8 => by rw [v k k6, UO k k1 k2 k3 k4 k5 k6 k7, h4c k k1, d0 k k8]
      have t : ∀ k, (0 ≤ k ∧ k ≤ 2) ∨ (4 ≤ k ∧ k ≤ 7) ∨ (9 ≤ k ∧ k ≤ 15) ∨ k = 17 ∨ (22 ≤ k ∧ k ≤ 30) ∨ (32 ≤ k ∧ k ≤ 35) ∨ k = 37 ∨ (43 ≤ k ∧ k ≤ 55) ∨ 57 ≤ k → mm' k = μ k := fun k hk => by rw [vc k (by omega) (by omega) (by omega) (by omega) (by omega) (by omega) (by omega) (by omega)]; exact CO k (by omega) (by omega) (by omega) (by omega) (by omega) (by omega)
      have t8 : mm' 8 = mc' 8 := by rw [v 8 (by decide), UO 8 (by decide) (by decide) (by decide) (by decide) (by decide) (by decide) (by decide), h4c 8 (by decide)]
      have t31 : ∀ j, j ≠ 0 → j ≠ 3 → j ≠ 23 → mm' 31 j = μ 31 j := fun j j1 j2 j3 => by rw [v 31 (by decide), U31 j j2, h431 j j1 j3]
      have s3 : mm' 3 = mc 3 := vc 3 (by decide) (by decide) (by decide) (by decide) (by decide) (by decide) (by decide) (by decide)
      have s16 : mm' 16 = mc 16 := vc 16 (by decide) (by decide) (by decide) (by decide) (by decide) (by decide) (by decide) (by decide)
      have s18 : mm' 18 = mc 18 := vc 18 (by decide) (by decide) (by decide) (by decide) (by decide) (by decide) (by decide) (by decide)
      have s19 : mm' 19 = mc 19 := vc 19 (by decide) (by decide) (by decide) (by decide) (by decide) (by decide) (by decide) (by decide)
      have s20 : mm' 20 = mc 20 := vc 20 (by decide) (by decide) (by decide) (by decide) (by decide) (by decide) (by decide) (by decide)
      have s21 : mm' 21 = mc 21 := vc 21 (by decide) (by decide) (by decide) (by decide) (by decide) (by decide) (by decide) (by decide)
      refine ⟨nf, n, nb + ct s n, w, q - 1, (lt + 19) % 20, ?_⟩
      unfold Inv ICt
      rw [show (fun r => mm' (r + 57)) = fun r => μ (r + 57) from funext fun r => t (r + 57) (by omega), t 1 (by omega), t 2 (by omega), s3, C3, t 4 (by omega), t 7 (by omega), t8, d2, d3, t 0 (by omega), t31 1 (by decide) (by decide) (by decide), t31 2 (by decide) (by decide) (by decide), show mm' 31 3 = nI (nb + ct s n) by rw [v 31 (by decide)]; exact U3, t31 8 (by decide) (by decide) (by decide), show mm' 31 23 = nI (q - 1) by rw [v 31 (by decide), U31 23 (by decide)]; exact h423, t31 4 (by decide) (by decide) (by decide), t31 5 (by decide) (by decide) (by decide), t31 6 (by decide) (by decide) (by decide), t31 7 (by decide) (by decide) (by decide), t 11 (by omega), t 12 (by omega), t 13 (by omega), t 32 (by omega), t 33 (by omega), t 14 (by omega), t 15 (by omega), s16, C16, t 34 (by omega), t 35 (by omega), v 36 (by decide), t 17 (by omega), t 37 (by omega), s19, C19, s20, s21, C21, v 38 (by decide), U38, v 39 (by decide), v 40 (by decide), U40, s18, v 42 (by decide), t 22 (by omega), t 27 (by omega), t 28 (by omega), t 43 (by omega), t 44 (by omega), t 9 (by omega), t 45 (by omega), t 29 (by omega), t 46 (by omega), t 47 (by omega), t 48 (by omega), t 49 (by omega)]
      have U39' : Own s (μ (lt + 57)) nb n (μ 39) (mm 39) := ⟨fun b hb => U39.1 b (by rw [c60]; exact hb), fun x hx hsx => U39.2 x (by omega) hsx⟩
      refine ⟨⟨⟨c1, m1, f1, f2⟩, ⟨c2, m2, f3⟩, ⟨rfl, rfl, by omega⟩, hC4, ⟨rfl, rfl, by omega, rfl, Nat.mod_lt _ (by decide)⟩, hC6⟩, hFo, hFi', hHe, hBo.news hb0 (by omega) f3 hsz (fun x hx hsx => ?_) C20 U39', hBy.news hb0 (by omega) hsz esz C18 U42, hGr', hWi, hLe, fun i hi => ?_⟩
      · rcases hRow.1 x (by omega) with y | y
        · exact absurd y (stn x (by omega) hsx).2.1
        · exact y.2
      · have hm := hMe (i + 1) (by omega)
        rw [show (lt + 20 - (i + 1)) % 20 = ((lt + 19) % 20 + 20 - i) % 20 by omega, show q - 1 - (i + 1) = q - 1 - 1 - i by omega] at hm
        obtain ⟨⟨b, hb, y⟩, z⟩ := hm
        exact ⟨⟨b, by omega, y⟩, z⟩
