/-! pieces: counting -/
def hasB (r : Nat → Int32) (v : Int32) (n : Nat) : Bool := decide (0 < ct (fun j => decide (r j = v)) n)
theorem hasB_iff {r : Nat → Int32} {v : Int32} {n : Nat} : hasB r v n = true ↔ ∃ j, j < n ∧ r j = v := by
  unfold hasB
  rw [decide_eq_true_iff, ct_pos]
  constructor
  · rintro ⟨k, hk, e⟩; exact ⟨k, hk, of_decide_eq_true e⟩
  · rintro ⟨k, hk, e⟩; exact ⟨k, hk, decide_eq_true e⟩
theorem hasB_no {r : Nat → Int32} {v : Int32} {n : Nat} : hasB r v n = false ↔ ∀ j, j < n → r j ≠ v := by
  constructor
  · intro h j hj e
    have := hasB_iff.mpr ⟨j, hj, e⟩
    rw [h] at this
    cases this
  · intro h
    cases e : hasB r v n
    · rfl
    · obtain ⟨j, hj, e⟩ := hasB_iff.mp e
      exact absurd e (h j hj)
/-- not met before -/
def fo (pc : Nat → Int32) (k : Nat) : Bool := !hasB pc (pc k) k
theorem fo_ex {pc : Nat → Int32} {v : Int32} : ∀ {n : Nat}, hasB pc v n = true → ∃ j, j < n ∧ pc j = v ∧ fo pc j = true
  | 0, h => by obtain ⟨j, hj, -⟩ := hasB_iff.mp h; omega
  | n + 1, h => by
    cases e : hasB pc v n
    · obtain ⟨j, hj, ej⟩ := hasB_iff.mp h
      have hno := hasB_no.mp e
      have : j = n := by
        rcases Nat.lt_or_ge j n with z | z
        · exact absurd ej (hno j z)
        · omega
      subst this
      refine ⟨j, hj, ej, ?_⟩
      unfold fo
      rw [ej, e]
      rfl
    · obtain ⟨j, hj, h1, h2⟩ := fo_ex e
      exact ⟨j, by omega, h1, h2⟩
def Gth (R : Nat → Int32) (m : Nat) (pc : Nat → Int32) (np : Nat) : Prop := m ≤ np ∧ (∀ i j, i < j → j < m → R i < R j) ∧ ∀ P : Int32 → Bool, ct (fun i => P (R i)) m = ct (fun k => fo pc k && P (pc k)) np
theorem Gth.mem {R pc : Nat → Int32} {m np : Nat} (h : Gth R m pc np) (v : Int32) : hasB R v m = hasB pc v np := by
  have h3 := h.2.2 (fun x => decide (x = v))
  cases e : hasB pc v np
  · rw [hasB_no] at e ⊢
    have : ct (fun k => fo pc k && decide (pc k = v)) np = 0 := ct_zero.mpr (fun k hk => by simp [e k hk])
    rw [this] at h3
    intro j hj ej
    have := ct_zero.mp h3 j hj
    simp [ej] at this
  · obtain ⟨j, hj, ej, fj⟩ := fo_ex e
    have : 0 < ct (fun k => fo pc k && decide (pc k = v)) np := ct_pos.mpr ⟨j, hj, by simp [fj, ej]⟩
    rw [← h3] at this
    obtain ⟨i, hi, ei⟩ := ct_pos.mp this
    exact hasB_iff.mpr ⟨i, hi, of_decide_eq_true ei⟩
/-- a row with a gap at i -/
def shf (r : Nat → Int32) (m i : Nat) : Nat → Int32 := fun j => if i < j ∧ j ≤ m then r (j - 1) else r j
theorem shf_0 (r : Nat → Int32) (m : Nat) : shf r m m = r := by
  funext j
  unfold shf
  rw [if_neg (by omega)]
theorem shf_s (r : Nat → Int32) {m i : Nat} (h : i < m) : upd (shf r m (i + 1)) (i + 1) (shf r m (i + 1) i) = shf r m i := by
  funext j
  unfold upd
  by_cases c : j = i + 1
  · subst c
    rw [if_pos rfl]
    unfold shf
    rw [if_neg (by omega), if_pos (by omega)]
    rfl
  · rw [if_neg c]
    unfold shf
    by_cases d : i + 1 < j ∧ j ≤ m
    · rw [if_pos d, if_pos (by omega)]
    · rw [if_neg d, if_neg (by omega)]
def insr (r : Nat → Int32) (m p : Nat) (x : Int32) : Nat → Int32 := upd (shf r m p) p x
theorem insr_lt {r : Nat → Int32} {m p j : Nat} {x : Int32} (h : j < p) : insr r m p x j = r j := by
  unfold insr
  rw [up_n (by omega)]
  unfold shf
  rw [if_neg (by omega)]
theorem insr_eq {r : Nat → Int32} {m p : Nat} {x : Int32} : insr r m p x p = x := up_s _ _ _
theorem insr_gt {r : Nat → Int32} {m p j : Nat} {x : Int32} (h : p ≤ j) (hj : j < m) : insr r m p x (j + 1) = r j := by
  unfold insr
  rw [up_n (by omega)]
  unfold shf
  rw [if_pos (by omega)]
  rfl
theorem insr_ct {r : Nat → Int32} {m p : Nat} {x : Int32} (P : Int32 → Bool) (hp : p ≤ m) : ct (fun j => P (insr r m p x j)) (m + 1) = ct (fun j => P (r j)) m + (if P x then 1 else 0) := by
  have h1 : ct (fun j => P (insr r m p x j)) p = ct (fun j => P (r j)) p := ct_cong (fun k hk => by show P _ = P _; rw [insr_lt hk])
  have h2 : ∀ d, p + d ≤ m → ct (fun j => P (insr r m p x j)) (p + d + 1) = ct (fun j => P (r j)) (p + d) + (if P x then 1 else 0) := by
    intro d
    induction d with
    | zero => intro _; rw [Nat.add_zero, ct_s, h1, insr_eq]; rfl
    | succ d ih =>
      intro hd
      rw [ct_s, show p + (d + 1) = p + d + 1 by omega, ih (by omega), ct_s, insr_gt (by omega) (by omega)]
      omega
  have := h2 (m - p) (by omega)
  rw [show p + (m - p) = m by omega] at this
  exact this
theorem insr_so {r : Nat → Int32} {m p : Nat} {x : Int32} (hs : ∀ i j, i < j → j < m → r i < r j) (hp : p ≤ m) (h1 : ∀ j, j < p → r j < x) (h2 : p < m → x < r p) : ∀ i j, i < j → j < m + 1 → insr r m p x i < insr r m p x j := by
  intro i j hij hj
  have hx : ∀ k, p ≤ k → k < m → x < r k := fun k hk hm => by
    rcases Nat.lt_or_ge p k with z | z
    · exact Int32.lt_trans (h2 (by omega)) (hs p k z hm)
    · rw [show k = p by omega]; exact h2 (by omega)
  rcases Nat.lt_trichotomy i p with c | c | c
  · rw [insr_lt c]
    rcases Nat.lt_trichotomy j p with d | d | d
    · rw [insr_lt d]; exact hs i j hij (by omega)
    · rw [d, insr_eq]; exact h1 i c
    · obtain ⟨j', rfl⟩ : ∃ j', j = j' + 1 := ⟨j - 1, by omega⟩
      rw [insr_gt (by omega) (by omega)]
      exact hs i j' (by omega) (by omega)
  · rw [c, insr_eq]
    obtain ⟨j', rfl⟩ : ∃ j', j = j' + 1 := ⟨j - 1, by omega⟩
    rw [insr_gt (by omega) (by omega)]
    exact hx j' (by omega) (by omega)
  · obtain ⟨j', rfl⟩ : ∃ j', j = j' + 1 := ⟨j - 1, by omega⟩
    obtain ⟨i', rfl⟩ : ∃ i', i = i' + 1 := ⟨i - 1, by omega⟩
    rw [insr_gt (by omega) (by omega), insr_gt (by omega) (by omega)]
    exact hs i' j' (by omega) (by omega)
/-- two rows without doubles: as many of the one are in the other as the other way round -/
theorem ct_or {p q : Nat → Bool} : ∀ {n : Nat}, (∀ k, k < n → ¬ (p k = true ∧ q k = true)) → ct (fun k => p k || q k) n = ct p n + ct q n
  | 0, _ => rfl
  | n + 1, h => by
    rw [ct_s, ct_s, ct_s, ct_or (fun k hk => h k (by omega))]
    have := h n (by omega)
    cases ep : p n <;> cases eq : q n <;> simp_all <;> omega
theorem ct_one {b : Nat → Int32} {v : Int32} : ∀ {m : Nat}, (∀ i j, i < j → j < m → b i ≠ b j) → ct (fun j => decide (v = b j)) m = if hasB b v m then 1 else 0
  | 0, _ => rfl
  | m + 1, h => by
    rw [ct_s, ct_one (fun i j hij hj => h i j hij (by omega))]
    by_cases c : v = b m
    · have : hasB b v m = false := hasB_no.mpr (fun j hj e => h j m hj (by omega) (by rw [e, c]))
      rw [this, hasB_iff.mpr ⟨m, by omega, c.symm⟩]
      simp [c]
    · cases e : hasB b v m
      · have : hasB b v (m + 1) = false := hasB_no.mpr (fun j hj e2 => by
          rcases Nat.lt_or_ge j m with z | z
          · exact hasB_no.mp e j z e2
          · rw [show j = m by omega] at e2; exact c e2.symm)
        rw [this]
        simp [c]
      · obtain ⟨j, hj, ej⟩ := hasB_iff.mp e
        rw [hasB_iff.mpr ⟨j, by omega, ej⟩]
        simp [c]
theorem hasB_s (a : Nat → Int32) (v : Int32) (m : Nat) : hasB a v (m + 1) = (hasB a v m || decide (a m = v)) := by
  cases e : hasB a v m
  · by_cases c : a m = v
    · rw [hasB_iff.mpr ⟨m, by omega, c⟩]; simp [c]
    · have : hasB a v (m + 1) = false := hasB_no.mpr (fun j hj e2 => by
        rcases Nat.lt_or_ge j m with z | z
        · exact hasB_no.mp e j z e2
        · rw [show j = m by omega] at e2; exact c e2)
      rw [this]; simp [c]
  · obtain ⟨j, hj, ej⟩ := hasB_iff.mp e
    rw [hasB_iff.mpr ⟨j, by omega, ej⟩]; rfl
theorem dc {a b : Nat → Int32} {mb : Nat} (hb : ∀ i j, i < j → j < mb → b i ≠ b j) : ∀ {ma : Nat}, (∀ i j, i < j → j < ma → a i ≠ a j) → ct (fun i => hasB b (a i) mb) ma = ct (fun j => hasB a (b j) ma) mb
  | 0, _ => (ct_zero.mpr (fun k _ => rfl)).symm
  | ma + 1, ha => by
    rw [ct_s, dc hb (fun i j hij hj => ha i j hij (by omega))]
    have e : ct (fun j => hasB a (b j) (ma + 1)) mb = ct (fun j => hasB a (b j) ma || decide (a ma = b j)) mb := ct_cong (fun k _ => hasB_s a (b k) ma)
    rw [e, ct_or, ct_one hb]
    intro k hk ⟨h1, h2⟩
    obtain ⟨i, hi, ei⟩ := hasB_iff.mp h1
    exact ha i ma hi (by omega) (by rw [ei]; exact (of_decide_eq_true h2).symm)
theorem ct_split (p q : Nat → Bool) : ∀ n, ct p n = ct (fun k => p k && q k) n + ct (fun k => p k && !q k) n
  | 0 => rfl
  | n + 1 => by
    rw [ct_s, ct_s, ct_s, ct_split p q n]
    cases p n <;> cases q n <;> simp <;> omega
/-- what both have, and what one or both have -/
def nrS (pa pb : Nat → Int32) (na nb : Nat) : Nat := ct (fun k => fo pa k && hasB pb (pa k) nb) na
def nrA (pa pb : Nat → Int32) (na nb : Nat) : Nat := ct (fo pa) na + ct (fun k => fo pb k && !hasB pa (pb k) na) nb
def nrv (s a : Nat) : Int32 := if a = 0 then 0 else nI (1000 * s / a)
theorem Gth.all {R pc : Nat → Int32} {m np : Nat} (h : Gth R m pc np) : m = ct (fo pc) np := by
  have h3 := h.2.2 (fun _ => true)
  have e : ∀ m, ct (fun _ => true) m = m := fun m => by
    induction m with
    | zero => rfl
    | succ m ih => rw [ct_s, ih]; rfl
  rw [e] at h3
  rw [h3]
  exact ct_cong (fun k _ => by simp)
theorem near_eq {Ra Rb pa pb : Nat → Int32} {ma mb na nb : Nat} (ha : Gth Ra ma pa na) (hb : Gth Rb mb pb nb) : ct (fun i => hasB Rb (Ra i) mb) ma = nrS pa pb na nb ∧ ma + mb - ct (fun i => hasB Rb (Ra i) mb) ma = nrA pa pb na nb := by
  have hA : ∀ i j, i < j → j < ma → Ra i ≠ Ra j := fun i j h1 h2 e => by have := ha.2.1 i j h1 h2; rw [e] at this; exact Int32.lt_irrefl this
  have hB : ∀ i j, i < j → j < mb → Rb i ≠ Rb j := fun i j h1 h2 e => by have := hb.2.1 i j h1 h2; rw [e] at this; exact Int32.lt_irrefl this
  have e1 : ct (fun i => hasB Rb (Ra i) mb) ma = nrS pa pb na nb := by
    rw [ha.2.2 (fun v => hasB Rb v mb)]
    exact ct_cong (fun k _ => by show (fo pa k && hasB Rb (pa k) mb) = (fo pa k && hasB pb (pa k) nb); rw [hb.mem])
  have e2 : ct (fun j => hasB Ra (Rb j) ma) mb = ct (fun k => fo pb k && hasB pa (pb k) na) nb := by
    rw [hb.2.2 (fun v => hasB Ra v ma)]
    exact ct_cong (fun k _ => by show (fo pb k && hasB Ra (pb k) ma) = (fo pb k && hasB pa (pb k) na); rw [ha.mem])
  refine ⟨e1, ?_⟩
  have e3 := dc hB hA
  have e4 := ct_split (fo pb) (fun k => hasB pa (pb k) na) nb
  have e5 := ha.all
  have e6 := hb.all
  unfold nrA
  omega
/-! pieces: both programs -/
def pcr (y : Nat → Int32) (j : Nat) : Nat → Int32
  | 0 => 0
  | i + 1 => (pcr y j i <<< ((8 : Int32) &&& 31)) ||| y (j + i)
theorem pcr_cong {y z : Nat → Int32} {j : Nat} : ∀ {i : Nat}, (∀ k, k < i → y (j + k) = z (j + k)) → pcr y j i = pcr z j i
  | 0, _ => rfl
  | i + 1, h => by unfold pcr; rw [pcr_cong (fun k hk => h k (by omega)), h i (by omega)]
/-- the pieces of a body -/
def pcs (my : Nat → Int32) (b : Nat) : Nat → Int32 := fun p => pcr my (64 * b + p) 4
theorem s_pieceAt {post : Int32 → Mem → Prop} {μ : Mem} {b p : Nat} {my : Nat → Int32} (hb : b < 100) (hp : p + 4 ≤ 64) (hy : ∀ j, j < 6400 → my j = μ 18 j &&& 255) (h : post (pcs my b p) μ) : w_X0_pieceAt post (nI b) (nI p) μ := by
  unfold w_X0_pieceAt
  refine wl4 (fun x y v z m => x = nI b ∧ y = nI p ∧ m = μ ∧ ∃ i, i ≤ 4 ∧ z = nI i ∧ v = pcr my (64 * b + p) i) (fun _ _ _ z _ => 4 - ix z) ?_ _ _ _ _ _ ⟨rfl, rfl, rfl, 0, by omega, rfl, rfl⟩
  rintro k x y v z m ⟨rfl, rfl, rfl, i, hi, rfl, rfl⟩ hk
  unfold w_X0_pieceAt_b5 w_X0_byteOf
  refine pk_le 4 i (fun c => by rw [show i = 4 by omega]; exact h) (fun c => ?_) rfl rfl (by omega) (by omega)
  rw [nI_add, nIm, ix_n (by omega)]
  refine ⟨vp_in_nI (by omega) (by decide), hk _ _ _ _ _ ⟨rfl, rfl, rfl, i + 1, by omega, nIs i, ?_⟩ (by rw [nIs, ix_n (by omega), ix_n (by omega)]; omega)⟩
  show _ = (pcr my (64 * b + p) i <<< ((8 : Int32) &&& 31)) ||| my (64 * b + p + i)
  rw [hy _ (by omega), Nat.add_assoc]
theorem s_piece_m {post : Int32 → Mem → Prop} {μ : Mem} {b p : Nat} (hb : b < 100) (hp : p + 4 ≤ 64) (h : post (pcs (μ 42) b p) μ) : w_X8_piece post (nI b) (nI p) μ := by
  unfold w_X8_piece
  refine wl4 (fun x y v z m => x = nI b ∧ y = nI p ∧ m = μ ∧ ∃ i, i ≤ 4 ∧ z = nI i ∧ v = pcr (μ 42) (64 * b + p) i) (fun _ _ _ z _ => 4 - ix z) ?_ _ _ _ _ _ ⟨rfl, rfl, rfl, 0, by omega, rfl, rfl⟩
  rintro k x y v z m ⟨rfl, rfl, rfl, i, hi, rfl, rfl⟩ hk
  unfold w_X8_piece_b5
  refine pk_le 4 i (fun c => by rw [show i = 4 by omega]; exact h) (fun c => ?_) rfl rfl (by omega) (by omega)
  rw [nIm', nI_add, ix_n (by omega)]
  exact ⟨vp_in_nI (by omega) (by decide), hk _ _ _ _ _ ⟨rfl, rfl, rfl, i + 1, by omega, nIs i, rfl⟩ (by rw [nIs, ix_n (by omega), ix_n (by omega)]; omega)⟩
theorem s_has_m {post : Int32 → Mem → Prop} {μ : Mem} {v : Int32} {b e : Nat} (hb : b < 100) (he : e ≤ 61) (hy : hasB (pcs (μ 42) b) v e = true → post 1 μ) (hn : hasB (pcs (μ 42) b) v e = false → post 0 μ) : w_X8_has post (nI b) v (nI e) μ := by
  unfold w_X8_has
  refine wl4 (fun x y u z m => x = nI b ∧ y = v ∧ u = nI e ∧ m = μ ∧ ∃ i, i ≤ e ∧ z = nI i ∧ ∀ j, j < i → pcs (μ 42) b j ≠ v) (fun _ _ _ z _ => e - ix z) ?_ _ _ _ _ _ ⟨rfl, rfl, rfl, rfl, 0, by omega, rfl, fun j hj => absurd hj (Nat.not_lt_zero j)⟩
  rintro k x y u z m ⟨rfl, rfl, rfl, rfl, i, hi, rfl, hpre⟩ hk
  unfold w_X8_has_b3
  refine pk_le e i (fun c => hn (hasB_no.mpr (fun j hj => hpre j (by omega)))) (fun c => s_piece_m hb (by omega) ⟨fun c2 => ?_, fun c2 => hy (hasB_iff.mpr ⟨i, c, c2⟩)⟩) rfl rfl (by omega) (by omega)
  refine hk _ _ _ _ _ ⟨rfl, rfl, rfl, rfl, i + 1, by omega, nIs i, fun j hj => ?_⟩ (by rw [nIs, ix_n (by omega), ix_n (by omega)]; omega)
  rcases Nat.lt_or_ge j i with z | z
  · exact hpre j z
  · rw [show j = i by omega]; exact c2
/-- how many places of a body begin a piece -/
def npc (s : Nat) : Nat := s - 3
theorem s_pieces_m {post : Int32 → Mem → Prop} {μ : Mem} {b s : Nat} (hb : b < 100) (hs : μ 38 b = nI s) (hs2 : s ≤ 64) (h : post (nI (npc s)) μ) : w_X8_pieces post (nI b) μ := by
  unfold w_X8_pieces
  rw [ix_n (by omega), hs]
  refine ⟨vp_in_nI hb (by decide), ?_⟩
  refine pk_le 4 s (fun c => ⟨vp_in_nI hb (by decide), ?_⟩) (fun c => ?_) rfl rfl (by omega) (by omega)
  · rw [show (3 : Int32) = nI 3 from rfl, pk_sub (by omega)]; exact h
  · unfold npc at h
    rw [show s - 3 = 0 by omega] at h
    exact h
theorem s_nearOf_m {post : Int32 → Mem → Prop} {μ : Mem} {a b sa sb : Nat} (ha : a < 100) (hb : b < 100) (hsa : μ 38 a = nI sa) (hsa2 : sa ≤ 64) (hsb : μ 38 b = nI sb) (hsb2 : sb ≤ 64) (h : post (nrv (nrS (pcs (μ 42) a) (pcs (μ 42) b) (npc sa) (npc sb)) (nrA (pcs (μ 42) a) (pcs (μ 42) b) (npc sa) (npc sb))) μ) : w_X8_nearOf post (nI a) (nI b) μ := by
  have ea : npc sa ≤ 61 := by unfold npc; omega
  have eb : npc sb ≤ 61 := by unfold npc; omega
  have ea2 : ∀ i, i < npc sa → i + 4 ≤ 64 := fun i h => by unfold npc at h; omega
  have eb2 : ∀ i, i < npc sb → i + 4 ≤ 64 := fun i h => by unfold npc at h; omega
  unfold w_X8_nearOf
  refine wl5 (fun x y u v z m => x = nI a ∧ y = nI b ∧ m = μ ∧ ∃ i, i ≤ npc sa ∧ z = nI i ∧ u = nI (ct (fun k => fo (pcs (μ 42) a) k && hasB (pcs (μ 42) b) (pcs (μ 42) a k) (npc sb)) i) ∧ v = nI (ct (fo (pcs (μ 42) a)) i)) (fun _ _ _ _ z _ => npc sa - ix z) ?_ _ _ _ _ _ _ ⟨rfl, rfl, rfl, 0, by omega, rfl, rfl, rfl⟩
  rintro k x y u v z m ⟨rfl, rfl, rfl, i, hi, rfl, rfl, rfl⟩ hk
  unfold w_X8_nearOf_b8
  refine s_pieces_m ha hsa hsa2 ?_
  refine pk_le (npc sa) i (fun c => ?_) (fun c => ?_) rfl rfl (by omega) (by omega)
  · rw [show i = npc sa by omega]
    refine wl5 (fun x y u v z m' => x = nI a ∧ y = nI b ∧ m' = m ∧ u = nI (nrS (pcs (m 42) a) (pcs (m 42) b) (npc sa) (npc sb)) ∧ ∃ i, i ≤ npc sb ∧ z = nI i ∧ v = nI (ct (fo (pcs (m 42) a)) (npc sa) + ct (fun k => fo (pcs (m 42) b) k && !hasB (pcs (m 42) a) (pcs (m 42) b k) (npc sa)) i)) (fun _ _ _ _ z _ => npc sb - ix z) ?_ _ _ _ _ _ _ ⟨rfl, rfl, rfl, rfl, 0, by omega, rfl, rfl⟩
    rintro k x y u v z m' ⟨rfl, rfl, rfl, rfl, i, hi, rfl, rfl⟩ hk
    unfold w_X8_nearOf_b73
    refine s_pieces_m hb hsb hsb2 ?_
    have l1 : ct (fo (pcs (m' 42) a)) (npc sa) ≤ npc sa := ct_le _ _
    have l2 : ct (fun k => fo (pcs (m' 42) b) k && !hasB (pcs (m' 42) a) (pcs (m' 42) b k) (npc sa)) i ≤ i := ct_le _ _
    have l3 : nrS (pcs (m' 42) a) (pcs (m' 42) b) (npc sa) (npc sb) ≤ npc sa := ct_le _ _
    refine pk_le (npc sb) i (fun c => ?_) (fun c => ?_) rfl rfl (by omega) (by omega)
    · rw [show i = npc sb by omega] at l2 ⊢
      have e : ct (fo (pcs (m' 42) a)) (npc sa) + ct (fun k => fo (pcs (m' 42) b) k && !hasB (pcs (m' 42) a) (pcs (m' 42) b k) (npc sa)) (npc sb) = nrA (pcs (m' 42) a) (pcs (m' 42) b) (npc sa) (npc sb) := rfl
      have l4 : nrA (pcs (m' 42) a) (pcs (m' 42) b) (npc sa) (npc sb) ≤ npc sa + npc sb := by unfold nrA; omega
      rw [e]
      unfold nrv at h
      refine And.symm (pk_eq (nrA (pcs (m' 42) a) (pcs (m' 42) b) (npc sa) (npc sb)) 0 (fun c0 => ?_) (fun c0 => ⟨?_, ?_⟩) rfl rfl (by omega) (by omega))
      · rw [if_pos c0] at h; exact h
      · exact nI_ne0 (by omega) (by omega)
      · rw [if_neg c0] at h
        rw [show (1000 : Int32) = nI 1000 from rfl, pk_mul, pk_div (by omega) (by omega) (by omega)]
        exact h
    · refine s_piece_m hb (eb2 i c) (s_has_m hb (by omega) (fun h1 => f_n (by decide) ?_) (fun h1 => f_y rfl ?_))
      · refine hk _ _ _ _ _ _ ⟨rfl, rfl, rfl, rfl, i + 1, c, nIs i, ?_⟩ (by rw [nIs, ix_n (by omega), ix_n (by omega)]; omega)
        rw [ct_f (by unfold fo; rw [h1]; rfl)]
      · have hfo : fo (pcs (m' 42) b) i = true := by unfold fo; rw [h1]; rfl
        refine s_piece_m hb (eb2 i c) (s_pieces_m ha hsa hsa2 (s_has_m ha ea (fun h2 => f_n (by decide) ?_) (fun h2 => f_y rfl ?_)))
        · refine hk _ _ _ _ _ _ ⟨rfl, rfl, rfl, rfl, i + 1, c, nIs i, ?_⟩ (by rw [nIs, ix_n (by omega), ix_n (by omega)]; omega)
          rw [ct_f (by rw [h2]; simp)]
        · refine hk _ _ _ _ _ _ ⟨rfl, rfl, rfl, rfl, i + 1, c, nIs i, ?_⟩ (by rw [nIs, ix_n (by omega), ix_n (by omega)]; omega)
          rw [ct_t (by rw [h2, hfo]; rfl), nIs, Nat.add_assoc]
  · refine s_piece_m ha (ea2 i c) (s_has_m ha (by omega) (fun h1 => t_n (by decide) ?_) (fun h1 => t_y rfl ?_))
    · have hfo : fo (pcs (m 42) a) i = false := by unfold fo; rw [h1]; rfl
      refine hk _ _ _ _ _ _ ⟨rfl, rfl, rfl, i + 1, c, nIs i, ?_, ?_⟩ (by rw [nIs, ix_n (by omega), ix_n (by omega)]; omega)
      · rw [ct_f (by rw [hfo]; rfl)]
      · rw [ct_f hfo]
    · have hfo : fo (pcs (m 42) a) i = true := by unfold fo; rw [h1]; rfl
      refine s_piece_m ha (ea2 i c) (s_pieces_m hb hsb hsb2 (s_has_m hb eb (fun h2 => t_n (by decide) ?_) (fun h2 => t_y rfl ?_)))
      · refine hk _ _ _ _ _ _ ⟨rfl, rfl, rfl, i + 1, c, nIs i, ?_, ?_⟩ (by rw [nIs, ix_n (by omega), ix_n (by omega)]; omega)
        · rw [ct_t (by rw [h2, hfo]; rfl), nIs]
        · rw [ct_t hfo, nIs]
      · refine hk _ _ _ _ _ _ ⟨rfl, rfl, rfl, i + 1, c, nIs i, ?_, ?_⟩ (by rw [nIs, ix_n (by omega), ix_n (by omega)]; omega)
        · rw [ct_f (by rw [h2]; simp)]
        · rw [ct_t hfo, nIs]
