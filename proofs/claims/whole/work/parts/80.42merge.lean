/-! merging: who gets the kept body -/
def sel (μ : Mem) (g : Int32) (b0 : Nat) : Nat → Bool := fun f => mbr (μ 16) (μ 22) g f && (decide (μ 17 f = 0) && (!decide (μ 16 f = nI b0) && (decide (μ 20 b0 = μ 20 (ix (μ 16 f))) || !decide (μ 9 (8 * ix (μ 20 b0) + ix (μ 20 (ix (μ 16 f)))) = 0))))
theorem sel_al {μ : Mem} {g : Int32} {b0 f : Nat} (h : sel μ g b0 f = true) : ¬ μ 16 f = -1 ∧ ¬ μ 16 f = nI b0 := by
  unfold sel mbr at h
  simp at h
  exact ⟨h.1.1, h.2.2.1⟩
/-- a row of bodies once the files below f have been seen -/
def gv (r : Nat → Int32) (s : Nat → Bool) (b0 f : Nat) : Nat → Int32 := fun x => if x < f ∧ s x = true then nI b0 else r x
theorem gv_0 (r : Nat → Int32) (s : Nat → Bool) (b0 : Nat) : gv r s b0 0 = r := by
  funext x; unfold gv; rw [if_neg (fun z => by omega)]
theorem gv_y {r : Nat → Int32} {s : Nat → Bool} {b0 f : Nat} (h : s f = true) : upd (gv r s b0 f) f (nI b0) = gv r s b0 (f + 1) := by
  funext x
  rw [updA]
  unfold gv
  by_cases c : x = f
  · rw [if_pos c, if_pos ⟨by omega, by rw [c]; exact h⟩]
  · rw [if_neg c]
    by_cases d : x < f ∧ s x = true
    · rw [if_pos d, if_pos ⟨by omega, d.2⟩]
    · rw [if_neg d, if_neg (fun z => d ⟨by omega, z.2⟩)]
theorem gv_n {r : Nat → Int32} {s : Nat → Bool} {b0 f : Nat} (h : s f = false) : gv r s b0 (f + 1) = gv r s b0 f := by
  funext x
  unfold gv
  by_cases d : x < f ∧ s x = true
  · rw [if_pos d, if_pos ⟨by omega, d.2⟩]
  · rw [if_neg d, if_neg (fun z => by
      by_cases c : x = f
      · rw [c, h] at z; cases z.2
      · exact d ⟨by omega, z.2⟩)]
theorem gv_at {r : Nat → Int32} {s : Nat → Bool} {b0 f : Nat} : gv r s b0 f f = r f := by unfold gv; rw [if_neg (fun z => by omega)]
/-- what is freed -/
def frd (cb cs : Nat → Int32) (s : Nat → Bool) (b0 n : Nat) (z : Int32) : Nat → Int32
  | 0 => z
  | f + 1 => if s f = true ∧ hav (gv cb s b0 (f + 1)) n (cb f) = 0 then frd cb cs s b0 n z f + cs (ix (cb f)) else frd cb cs s b0 n z f
theorem ct_bet {s : Nat → Bool} {f g : Nat} (h : f ≤ g) (e : ct s f = ct s g) : ∀ x, f ≤ x → x < g → s x = false := by
  intro x h1 h2
  cases c : s x
  · rfl
  · have a1 := ct_mono s h1
    have a2 : ct s (x + 1) = ct s x + 1 := ct_t c
    have a3 := ct_mono s (show x + 1 ≤ g by omega)
    omega
theorem bet {cb cs : Nat → Int32} {s : Nat → Bool} {b0 n f g : Nat} {z : Int32} (h : f ≤ g) (e : ct s f = ct s g) : (∀ r, gv r s b0 f = gv r s b0 g) ∧ frd cb cs s b0 n z f = frd cb cs s b0 n z g := by
  have key : ∀ d, f + d ≤ g → (∀ r, gv r s b0 f = gv r s b0 (f + d)) ∧ frd cb cs s b0 n z f = frd cb cs s b0 n z (f + d) := by
    intro d
    induction d with
    | zero => intro _; exact ⟨fun r => rfl, rfl⟩
    | succ d ih =>
      intro hd
      have hs := ct_bet h e (f + d) (by omega) (by omega)
      obtain ⟨i1, i2⟩ := ih (by omega)
      refine ⟨fun r => by rw [i1 r, ← Nat.add_assoc, gv_n hs], ?_⟩
      rw [i2, ← Nat.add_assoc]
      show _ = if s (f + d) = true ∧ _ then _ else _
      rw [if_neg (fun y => by rw [hs] at y; cases y.1)]
  have := key (g - f) (by omega)
  rw [show f + (g - f) = g by omega] at this
  exact this
theorem ct_find {s : Nat → Bool} {i : Nat} : ∀ {n : Nat}, i < ct s n → ∃ g, g < n ∧ s g = true ∧ ct s g = i
  | 0, h => absurd h (Nat.not_lt_zero i)
  | n + 1, h => by
    by_cases c : i < ct s n
    · obtain ⟨g, h1, h2⟩ := ct_find c
      exact ⟨g, by omega, h2⟩
    · cases e : s n
      · rw [ct_f e] at h; exact absurd h c
      · rw [ct_t e] at h; exact ⟨n, by omega, e, by omega⟩
theorem IFi.give {nf n nb b0 f : Nat} {cf cnm cb mf mnm mb : Nat → Int32} {s : Nat → Bool} (h : IFi nf n nb cf cnm cb mf mnm mb) (hb : b0 < nb) (hs : ∀ x, s x = true → ¬ cb x = -1) : IFi nf n nb cf cnm (gv cb s b0 f) mf mnm (gv mb s b0 f) := fun x hx => by
  obtain ⟨a, b, c⟩ := h x hx
  unfold gv
  by_cases d : x < f ∧ s x = true
  · rw [if_pos d, if_pos d]
    refine ⟨a, ⟨b0, hb, rfl⟩, ?_⟩
    rcases c with ⟨-, c⟩ | ⟨c1, c2, c3⟩
    · exact absurd c (hs x d.2)
    · exact Or.inr ⟨c1, rfl, c3⟩
  · rw [if_neg d, if_neg d]
    exact ⟨a, b, c⟩
theorem IGr.less2 {n nb b : Nat} {cb cb' cg mg : Nat → Int32} (h : IGr n nb cb cg mg) (hb : ∀ f, f < n → ∀ c, c < nb → cb' f = nI c → (∃ y, y < n ∧ cb y = nI c) ∧ (hav cb' n (nI b) = 0 → c ≠ b)) : IGr n nb cb' cg (if hav cb' n (nI b) = 0 then upd mg b (-1) else mg) := by
  refine ⟨h.1, fun f hf c hc e => ?_⟩
  obtain ⟨⟨y, hy, e2⟩, h2⟩ := hb f hf c hc e
  rw [h.2 y hy c hc e2]
  split
  · rw [up_n (h2 ‹_›)]
  · rfl
theorem nIm8 (a b : Nat) : nI a * (8 : Int32) + nI b = nI (8 * a + b) := by
  rw [show (8 : Int32) = nI 8 from rfl, pk_mul, nI_add]
  congr 1
  omega
/-- the class asks whether a file may get the body -/
theorem s_mayGet {post : Int32 → Mem → Prop} {M : Mem} {f b0 bf o0 of : Nat} (hf : f < 60) (hb0 : b0 < 100) (hbf : bf < 100) (e16 : M 16 f = nI bf) (ho0 : o0 < 8) (eo0 : M 20 b0 = nI o0) (hof : of < 8) (eof : M 20 bf = nI of) (hy : (M 17 f = 0 ∧ ¬ bf = b0 ∧ (o0 = of ∨ ¬ M 9 (8 * o0 + of) = 0)) → post 1 M) (hn : ¬ (M 17 f = 0 ∧ ¬ bf = b0 ∧ (o0 = of ∨ ¬ M 9 (8 * o0 + of) = 0)) → post 0 M) : w_X7_mayGet post (nI f) (nI b0) M := by
  unfold w_X7_mayGet w_X7_mayGet_b77
  have hin : vp_in (nI f) 60 := vp_in_nI hf (by decide)
  rw [ix_n (by omega), e16, ix_n (by omega), ix_n (by omega), eo0, eof, nIm8, ix_n (by omega)]
  refine ⟨hin, fun z => hn (fun y => z y.1), fun z => ⟨hin, And.symm (pk_eq bf b0 (fun z2 => hn (fun y => y.2.1 z2)) (fun z2 => ⟨vp_in_nI hb0 (by decide), hin, vp_in_nI hbf (by decide), pk_eq o0 of (fun z3 => hy ⟨z, z2, Or.inl z3⟩) (fun z3 => ⟨vp_in_nI (by omega) (by decide), fun z4 => hn (fun y => ?_), fun z4 => hy ⟨z, z2, Or.inr z4⟩⟩) rfl rfl (by omega) (by omega)⟩) rfl rfl (by omega) (by omega))⟩⟩
  rcases y.2.2 with y | y
  · exact z3 y
  · exact y z4
theorem sel_iff {μ : Mem} {g : Int32} {b0 f bf o0 of : Nat} (hbf : bf < 100) (hb0 : b0 < 100) (e16 : μ 16 f = nI bf) (ho0 : o0 < 8) (eo0 : μ 20 b0 = nI o0) (hof : of < 8) (eof : μ 20 bf = nI of) : sel μ g b0 f = true ↔ (mbr (μ 16) (μ 22) g f = true ∧ (μ 17 f = 0 ∧ ¬ bf = b0 ∧ (o0 = of ∨ ¬ μ 9 (8 * o0 + of) = 0))) := by
  unfold sel
  rw [e16, ix_n (by omega), eo0, eof, ix_n (by omega), ix_n (by omega)]
  simp only [Bool.and_eq_true, Bool.or_eq_true, decide_eq_true_eq, Bool.not_eq_true', decide_eq_false_iff_not, nI_eq (show bf < 2 ^ 31 by omega) (show b0 < 2 ^ 31 by omega), nI_eq (show o0 < 2 ^ 31 by omega) (show of < 2 ^ 31 by omega)]
/-- the latest merging's row, once the files below f have been seen -/
def rwf (cb co : Nat → Int32) (s : Nat → Bool) (f : Nat) (old : Nat → Int32) : Nat → Int32 := fun x => if x < 60 then (if x < f ∧ s x = true then co (ix (cb x)) else -1) else old x
theorem rwf_y {cb co old : Nat → Int32} {s : Nat → Bool} {f : Nat} (hf : f < 60) (h : s f = true) : upd (rwf cb co s f old) f (co (ix (cb f))) = rwf cb co s (f + 1) old := by
  funext x
  rw [updA]
  unfold rwf
  by_cases c : x = f
  · rw [if_pos c, if_pos (by omega), if_pos ⟨by omega, by rw [c]; exact h⟩, c]
  · rw [if_neg c]
    by_cases d : x < f ∧ s x = true
    · rw [if_pos d, if_pos (show x < f + 1 ∧ s x = true from ⟨by omega, d.2⟩)]
    · rw [if_neg d, if_neg (fun z : x < f + 1 ∧ s x = true => d ⟨by omega, z.2⟩)]
theorem rwf_n {cb co old : Nat → Int32} {s : Nat → Bool} {f : Nat} (h : s f = false) : rwf cb co s (f + 1) old = rwf cb co s f old := by
  funext x
  unfold rwf
  by_cases d : x < f ∧ s x = true
  · rw [if_pos d, if_pos (show x < f + 1 ∧ s x = true from ⟨by omega, d.2⟩)]
  · rw [if_neg d, if_neg (fun z : x < f + 1 ∧ s x = true => by
      by_cases c : x = f
      · rw [c, h] at z; cases z.2
      · exact d ⟨by omega, z.2⟩)]
theorem rwf_0 {cb co old : Nat → Int32} {s : Nat → Bool} {f : Nat} (h : ct s f = 0) : rwf cb co s f old = fun x => if x < 60 then -1 else old x := by
  funext x
  unfold rwf
  by_cases c : x < 60
  · rw [if_pos c, if_pos c, if_neg (fun z => by rw [ct_zero.mp h x z.1] at z; cases z.2)]
  · rw [if_neg c, if_neg c]
/-- the class's state while it merges -/
def CM (μ : Mem) (s : Nat → Bool) (b0 n q lt f : Nat) (m : Mem) : Prop :=
  (∀ k, k ≠ 0 → k ≠ 8 → k ≠ 16 → k ≠ 29 → k < 57 → m k = μ k) ∧ m 0 10 = μ 0 10 ∧ m 0 11 = frd (μ 16) (μ 19) s b0 n (μ 0 11) f ∧ m 16 = gv (μ 16) s b0 f ∧
  (ct s f = 0 → m 8 = μ 8 ∧ m 29 = μ 29 ∧ ∀ r, m (r + 57) = μ (r + 57)) ∧
  (0 < ct s f → m 8 2 = nI ((lt + 1) % 20) ∧ m 8 3 = nI (if q < 20 then q + 1 else 20) ∧ m 29 = upd (μ 29) ((lt + 1) % 20) (nI b0) ∧ ∀ r, m (r + 57) = if r = (lt + 1) % 20 then rwf (μ 16) (μ 20) s f (μ (r + 57)) else μ (r + 57))
theorem s_begin {post : Mem → Prop} {μ : Mem} {b0 q lt : Nat} (h3 : μ 8 3 = nI q) (hq : q ≤ 20) (h2 : μ 8 2 = nI lt) (hlt : lt < 20) (hp : ∀ m : Mem, (∀ k, k ≠ 8 → k ≠ 29 → k < 57 → m k = μ k) → m 8 2 = nI ((lt + 1) % 20) → m 8 3 = nI (if q < 20 then q + 1 else 20) → m 29 = upd (μ 29) ((lt + 1) % 20) (nI b0) → (∀ r, m (r + 57) = if r = (lt + 1) % 20 then (fun x => if x < 60 then -1 else μ (r + 57) x) else μ (r + 57)) → post m) : w_X4_begin post (nI b0) μ := by
  have main : ∀ v : Nat, v = (lt + 1) % 20 → w_X4_begin_b22 post (nI b0) (nI v) μ := fun v hv => by
    subst hv
    have hv20 : (lt + 1) % 20 < 20 := Nat.mod_lt _ (by decide)
    generalize (lt + 1) % 20 = v at hp hv20
    unfold w_X4_begin_b22
    intro y1 g1 y2 g2
    have e1 : y1 8 3 = nI q := by rw [g1]; simp [wrA, updA]; exact h3
    have e2 : y2 8 2 = nI v := by rw [g2, g1]; simp [wrA, updA]
    have e3 : y2 8 3 = nI (if q < 20 then q + 1 else 20) := by
      rw [g2]
      simp [wrA, updA]
      rw [e1, nIs]
      by_cases c : q < 20
      · rw [if_pos c, if_neg (show ¬ (20 : Int32) < nI (q + 1) from nI_nlt (a := 20) (by omega) (by omega))]
      · rw [if_neg c, if_pos (show (20 : Int32) < nI (q + 1) from nI_lt (a := 20) (by omega) (by omega))]; rfl
    rw [e2, ix_n (by omega)]
    refine ⟨vp_in_nI hv20 (by decide), fun y3 g3 => ?_⟩
    have e4 : y3 8 2 = nI v := by rw [g3, wrA, if_neg (by decide)]; exact e2
    rw [e4, ix_n (by omega)]
    refine ⟨vp_in_nI hv20 (by decide), fun y4 g4 => hp y4 (fun k k1 k2 k3 => ?_) ?_ ?_ ?_ (fun r => ?_)⟩
    · rw [g4]; unfold frow; rw [wrow_n (by omega), g3, wrA, if_neg k2, g2, wrA, if_neg k1, g1, wrA, if_neg k1]
    · rw [g4]; unfold frow; rw [wrow_n (by omega)]; exact e4
    · rw [g4]; unfold frow; rw [wrow_n (by omega), g3, wrA, if_neg (by decide)]; exact e3
    · rw [g4]; unfold frow; rw [wrow_n (by omega), g3, wrA, if_pos rfl, g2, wrA, if_neg (by decide), g1, wrA, if_neg (by decide)]
    · have base : ∀ k, k ≠ 8 → k ≠ 29 → y3 k = μ k := fun k k1 k2 => by rw [g3, wrA, if_neg k2, g2, wrA, if_neg k1, g1, wrA, if_neg k1]
      rw [g4]
      unfold frow
      by_cases c : r = v
      · subst c
        rw [wrow_r, if_pos rfl, base _ (by omega) (by omega)]
      · rw [wrow_n (by omega), if_neg c, base _ (by omega) (by omega)]
  unfold w_X4_begin
  rw [h2, nIs]
  refine pk_le 20 (lt + 1) (fun c => main 0 (by omega)) (fun c => main (lt + 1) (by omega)) rfl rfl (by omega) (by omega)
theorem s_giveBody {post : Mem → Prop} {M : Mem} {f b0 bf n : Nat} (hf : f < n) (hn : n ≤ 60) (h2 : M 2 4 = nI n) (hbf : bf < 100) (e16 : M 16 f = nI bf) (hp : post (if hav (upd (M 16) f (nI b0)) n (nI bf) = 0 then wr (wr M 16 f (nI b0)) 0 11 (M 0 11 + M 19 bf) else wr M 16 f (nI b0))) : w_X7_giveBody post (nI f) (nI b0) M := by
  unfold w_X7_giveBody
  have hin : vp_in (nI f) 60 := vp_in_nI (by omega) (by decide)
  rw [ix_n (by omega), e16, ix_n (by omega)]
  refine ⟨hin, hin, fun y1 g1 => s_X1_having (n := n) (by rw [g1, wrA, if_neg (by decide)]; exact h2) hn ?_⟩
  have e : y1 16 = upd (M 16) f (nI b0) := by rw [g1, wrA, if_pos rfl]
  rw [e]
  have hle : hav (upd (M 16) f (nI b0)) n (nI bf) ≤ n := ct_le _ _
  refine And.symm (pk_eq _ 0 (fun c => ⟨vp_in_nI hbf (by decide), fun y2 g2 => ?_⟩) (fun c => ?_) rfl rfl (by omega) (by omega))
  · rw [if_pos c] at hp
    rw [g2, g1, show wr M 16 f (nI b0) 0 11 = M 0 11 by rw [wrA, if_neg (by decide)], show wr M 16 f (nI b0) 19 bf = M 19 bf by rw [wrA, if_neg (by decide)]]
    exact hp
  · rw [if_neg c] at hp
    rw [g1]; exact hp
theorem s_merge_c {post : Int32 → Mem → Prop} {xq : XP} {g : Int32} {μ : Mem} {nf n nb w q lt b0 : Nat} (hI : Inv nf n nb w q lt μ) (hb0 : b0 < nb) (hp : ∀ m, CM μ (sel μ g b0) b0 n q lt n m → post (nI (ct (sel μ g b0) n)) m) : ∃ N : Nat, itr (fun _ _ _ _ _ => False) (w_X7_merge_b34 post xq) N g (nI b0) (0 : Int32) (0 : Int32) μ := by
  obtain ⟨⟨⟨c1, m1, f1, f2⟩, ⟨c2, m2, f3⟩, ⟨c3, m3, f4⟩, ⟨c4, m4, w3⟩, ⟨c5, m5, q20, c6, lt20⟩, hC6⟩, hFo, hFi, hHe, hBo, hBy, hGr, hWi, hLe, hMe⟩ := hI
  obtain ⟨-, -, ⟨o0, ho0, eo0⟩, -, -⟩ := hBo b0 (by omega)
  refine wl4 (fun x y v z m => x = g ∧ y = nI b0 ∧ ∃ f, f ≤ n ∧ z = nI f ∧ v = nI (ct (sel μ g b0) f) ∧ CM μ (sel μ g b0) b0 n q lt f m) (fun _ _ _ z _ => n - ix z) ?_ _ _ _ _ _ ⟨rfl, rfl, 0, by omega, rfl, rfl, fun k _ _ _ _ _ => rfl, rfl, rfl, by rw [gv_0], fun _ => ⟨rfl, rfl, fun r => rfl⟩, fun h => absurd h (Nat.lt_irrefl 0)⟩
  rintro k x y v z m ⟨rfl, rfl, f, hf, rfl, rfl, hM⟩ hk
  have hM0 := hM
  obtain ⟨MO, M10, M11, M16, Mz, Mp⟩ := hM
  have hcl : ct (sel μ x b0) f ≤ f := ct_le _ _
  unfold w_X7_merge_b34
  have g2 : m 2 4 = nI n := by rw [MO 2 (by decide) (by decide) (by decide) (by decide) (by decide)]; exact c2
  refine pk_le n f (fun c => ?_) (fun c => ?_) g2 rfl (by omega) (by omega)
  · have : f = n := by omega
    subst this
    exact hp m hM0
  · -- the next file, not merged
    have skip : ∀ m2 : Mem, m2 = m → sel μ x b0 f = false → k x (nI b0) (nI (ct (sel μ x b0) f)) (nI f + 1) m2 := fun m2 em hs => by
      subst em
      refine hk _ _ _ _ _ ⟨rfl, rfl, f + 1, c, nIs f, by rw [ct_f hs], MO, M10, ?_, by rw [gv_n hs]; exact M16, ?_, ?_⟩ (by rw [nIs, ix_n (by omega), ix_n (by omega)]; omega)
      · rw [M11]
        show _ = if sel μ x b0 f = true ∧ _ then _ else _
        rw [if_neg (fun y => by rw [hs] at y; cases y.1)]
      · rw [ct_f hs]; exact Mz
      · rw [ct_f hs]
        intro hh
        obtain ⟨p1, p2, p3, p4⟩ := Mp hh
        exact ⟨p1, p2, p3, fun r => by rw [p4 r, rwf_n hs]⟩
    have hFi' := hFi.give (b0 := b0) (f := f) (s := sel μ x b0) hb0 (fun x h => (sel_al h).1)
    have eM22 : m 22 = μ 22 := MO 22 (by decide) (by decide) (by decide) (by decide) (by decide)
    have hmb : mbr (m 16) (m 22) x f = mbr (μ 16) (μ 22) x f := by unfold mbr; rw [M16, gv_at, eM22]
    refine s_isMember_c g2 f3 f4 (by rw [M16]; exact hFi') c (fun hm => t_n (by decide) ?_) (fun hm => t_y rfl (skip m rfl ?_))
    · rw [hmb] at hm
      have ha : ¬ μ 16 f = -1 := fun y => by unfold mbr at hm; simp [y] at hm
      obtain ⟨bf, hbf, e16⟩ : ∃ bf, bf < nb ∧ μ 16 f = nI bf := by
        obtain ⟨-, ⟨b, hb, eb⟩, hc⟩ := hFi f c
        rcases hc with ⟨-, hc⟩ | ⟨-, hc, -⟩
        · exact absurd hc ha
        · exact ⟨b, hb, hc.trans eb⟩
      obtain ⟨-, -, ⟨of, hof, eof⟩, -, -⟩ := hBo bf (by omega)
      have hsel := sel_iff (g := x) (f := f) (by omega) (show b0 < 100 by omega) e16 ho0 eo0 hof eof
      have r17 : m 17 = μ 17 := MO 17 (by decide) (by decide) (by decide) (by decide) (by decide)
      have r20 : m 20 = μ 20 := MO 20 (by decide) (by decide) (by decide) (by decide) (by decide)
      have r9 : m 9 = μ 9 := MO 9 (by decide) (by decide) (by decide) (by decide) (by decide)
      have r19 : m 19 = μ 19 := MO 19 (by decide) (by decide) (by decide) (by decide) (by decide)
      have r16 : m 16 f = nI bf := by rw [M16, gv_at]; exact e16
      refine s_mayGet (by omega) (by omega) (by omega) r16 ho0 (by rw [r20]; exact eo0) hof (by rw [r20]; exact eof) (fun hy => t_n (by decide) ?_) (fun hn => t_y rfl (skip m rfl ?_))
      · rw [r17, r9] at hy
        have hs : sel μ x b0 f = true := hsel.mpr ⟨hm, hy⟩
        -- note it and give the body
        have give : ∀ m2 : Mem, (∀ k, k ≠ 8 → k ≠ 29 → k < 57 → m2 k = m k) → m2 8 2 = nI ((lt + 1) % 20) → m2 8 3 = nI (if q < 20 then q + 1 else 20) → m2 29 = upd (μ 29) ((lt + 1) % 20) (nI b0) → (∀ r, m2 (r + 57) = if r = (lt + 1) % 20 then rwf (μ 16) (μ 20) (sel μ x b0) f (μ (r + 57)) else μ (r + 57)) → w_X7_merge_b79 post xq k x (nI b0) (nI (ct (sel μ x b0) f)) (nI f) m2 := fun m2 p0 p1 p2 p3 p4 => by
          have hv20 : (lt + 1) % 20 < 20 := Nat.mod_lt _ (by decide)
          generalize hv : (lt + 1) % 20 = v at hv20 p1 p3 p4
          unfold w_X7_merge_b79 w_X4_note
          have s16 : m2 16 = m 16 := p0 16 (by decide) (by decide) (by decide)
          have s20 : m2 20 = μ 20 := (p0 20 (by decide) (by decide) (by decide)).trans r20
          have hin : vp_in (nI f) 60 := vp_in_nI (by omega) (by decide)
          rw [ix_n (by omega), s16, r16, ix_n (by omega), s20, p1, ix_n (by omega)]
          refine ⟨hin, vp_in_nI (by omega) (by decide), vp_in_nI hv20 (by decide), hin, fun m3 g3 => ?_⟩
          have t0 : ∀ k, k < 57 → m3 k = m2 k := fun k hk => by rw [g3, wrA, if_neg (by omega)]
          have t16 : m3 16 = m 16 := (t0 16 (by decide)).trans s16
          refine s_giveBody (n := n) (bf := bf) c f3 (by rw [t0 2 (by decide), p0 2 (by decide) (by decide) (by decide)]; exact g2) (by omega) (by rw [t16]; exact r16) ?_
          have u16 : upd (m3 16) f (nI b0) = gv (μ 16) (sel μ x b0) b0 (f + 1) := by rw [t16, M16, gv_y hs]
          rw [u16]
          have e11 : m3 0 11 = frd (μ 16) (μ 19) (sel μ x b0) b0 n (μ 0 11) f := by rw [t0 0 (by decide), p0 0 (by decide) (by decide) (by decide)]; exact M11
          have e19 : m3 19 bf = μ 19 bf := by rw [t0 19 (by decide), p0 19 (by decide) (by decide) (by decide), r19]
          have efr : frd (μ 16) (μ 19) (sel μ x b0) b0 n (μ 0 11) (f + 1) = if hav (gv (μ 16) (sel μ x b0) b0 (f + 1)) n (nI bf) = 0 then frd (μ 16) (μ 19) (sel μ x b0) b0 n (μ 0 11) f + μ 19 bf else frd (μ 16) (μ 19) (sel μ x b0) b0 n (μ 0 11) f := by
            show (if sel μ x b0 f = true ∧ hav (gv (μ 16) (sel μ x b0) b0 (f + 1)) n (μ 16 f) = 0 then frd (μ 16) (μ 19) (sel μ x b0) b0 n (μ 0 11) f + μ 19 (ix (μ 16 f)) else frd (μ 16) (μ 19) (sel μ x b0) b0 n (μ 0 11) f) = _
            rw [e16, ix_n (by omega)]
            by_cases cc : hav (gv (μ 16) (sel μ x b0) b0 (f + 1)) n (nI bf) = 0
            · rw [if_pos ⟨hs, cc⟩, if_pos cc]
            · rw [if_neg (fun y => cc y.2), if_neg cc]
          have fin : ∀ m4 : Mem, (∀ k, k ≠ 0 → k ≠ 16 → m4 k = m3 k) → m4 16 = gv (μ 16) (sel μ x b0) b0 (f + 1) → m4 0 10 = m3 0 10 → m4 0 11 = frd (μ 16) (μ 19) (sel μ x b0) b0 n (μ 0 11) (f + 1) → k x (nI b0) (nI (ct (sel μ x b0) f) + 1) (nI f + 1) m4 := fun m4 u0 u1 u2 u3 => by
            refine hk _ _ _ _ _ ⟨rfl, rfl, f + 1, c, nIs f, by rw [ct_t hs, nIs], fun k k1 k2 k3 k4 k5 => ?_, ?_, u3, u1, fun h => ?_, fun _ => ⟨?_, ?_, ?_, fun r => ?_⟩⟩ (by rw [nIs, ix_n (by omega), ix_n (by omega)]; omega)
            · rw [u0 k k1 k3, t0 k k5, p0 k k2 k4 k5]; exact MO k k1 k2 k3 k4 k5
            · rw [u2, t0 0 (by decide), p0 0 (by decide) (by decide) (by decide)]; exact M10
            · rw [ct_t hs] at h; omega
            · rw [u0 8 (by decide) (by decide), t0 8 (by decide), hv]; exact p1
            · rw [u0 8 (by decide) (by decide), t0 8 (by decide)]; exact p2
            · rw [u0 29 (by decide) (by decide), t0 29 (by decide), hv]; exact p3
            · rw [u0 (r + 57) (by omega) (by omega), g3, wrA, hv]
              by_cases cr : r = v
              · subst cr
                rw [if_pos rfl, if_pos rfl, p4 r, if_pos rfl, ← rwf_y (by omega) hs, e16, ix_n (by omega)]
              · rw [if_neg (by omega), if_neg cr, p4 r, if_neg cr]
          by_cases cc : hav (gv (μ 16) (sel μ x b0) b0 (f + 1)) n (nI bf) = 0
          · rw [if_pos cc]
            refine fin _ (fun k k1 k2 => by rw [wrA, if_neg k1, wrA, if_neg k2]) (by rw [wrA, if_neg (by decide), wrA, if_pos rfl, u16]) (by rw [wrA, if_pos rfl, updA, if_neg (by decide), wrA, if_neg (by decide)]) ?_
            rw [wrA, if_pos rfl, updA, if_pos rfl, e11, e19, efr, if_pos cc]
          · rw [if_neg cc]
            refine fin _ (fun k k1 k2 => by rw [wrA, if_neg k2]) (by rw [wrA, if_pos rfl, u16]) (by rw [wrA, if_neg (by decide)]) ?_
            rw [wrA, if_neg (by decide), e11, efr, if_neg cc]
        refine And.symm (pk_eq (ct (sel μ x b0) f) 0 (fun z0 => ?_) (fun z0 => ?_) rfl rfl (by omega) (by omega))
        · obtain ⟨q1, q2, q3⟩ := Mz z0
          refine s_begin (q := q) (lt := lt) (by rw [q1]; exact c5) q20 (by rw [q1]; exact c6) lt20 (fun m2 p0 p1 p2 p3 p4 => give m2 p0 p1 p2 (by rw [p3, q2]) (fun r => ?_))
          rw [p4 r, q3 r, rwf_0 z0]
        · obtain ⟨p1, p2, p3, p4⟩ := Mp (by omega)
          exact give m (fun k _ _ _ => rfl) p1 p2 p3 p4
      · rw [r17, r9] at hn
        cases e : sel μ x b0 f
        · rfl
        · exact absurd (hsel.mp e).2 hn
    · rw [hmb] at hm
      unfold sel
      rw [hm]; rfl
