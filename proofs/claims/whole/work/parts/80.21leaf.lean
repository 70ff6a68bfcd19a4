/-! the small methods: what they answer -/
theorem s_X3_has {post : Int32 → Mem → Prop} {a : Int32} {μ : Mem} {nf : Nat} (h1 : μ 1 3 = nI nf) (h2 : nf ≤ 16) (hy : ∀ d, d < nf → a = nI d → post 1 μ) (hn : (∀ d, d < nf → a ≠ nI d) → post 0 μ) : w_X3_has post a μ := by
  unfold w_X3_has
  rw [h1]
  rcases idx a (n := nf) (by omega) with ⟨d, hd, e⟩ | ⟨-, hx⟩
  · refine ⟨fun c => ?_, fun _ => ⟨fun c => ?_, fun _ => hy d hd e⟩⟩
    · rw [e] at c; exact absurd c (nI_neg (by omega))
    · have := (cle nf d rfl e (by omega) (by omega)).mp c
      omega
  · exact ⟨fun _ => hn hx, fun c => ⟨fun _ => hn hx, fun c2 => by
      rcases pk_ix a (n := nf) (by omega) with q | q | ⟨j, hj, e⟩
      · exact absurd q c
      · exact absurd q c2
      · exact absurd e (hx j hj)⟩⟩
theorem s_needFolder {post : Mem → Prop} {xq : XP} {a : Int32} {μ : Mem} {nf : Nat} (h1 : μ 1 3 = nI nf) (h2 : nf ≤ 16) (hy : ∀ d, d < nf → a = nI d → post μ) (hn : (∀ d, d < nf → a ≠ nI d) → xq "java/util/NoSuchElementException" μ) : w_X7_needFolder post xq a μ := by
  unfold w_X7_needFolder
  exact s_X3_has h1 h2 (fun d hd e => ⟨fun _ => hy d hd e, fun c => absurd c (by decide)⟩) (fun hx => ⟨fun c => absurd rfl c, fun _ => hn hx⟩)
theorem s_X1_has {post : Int32 → Mem → Prop} {a : Int32} {μ : Mem} {n : Nat} (h1 : μ 2 4 = nI n) (h2 : n ≤ 60) (hy : ∀ f, f < n → a = nI f → ¬ μ 16 f = -1 → post 1 μ) (hn : (∀ f, f < n → a = nI f → μ 16 f = -1) → post 0 μ) : w_X1_has post a μ := by
  unfold w_X1_has
  rw [h1]
  rcases idx a (n := n) (by omega) with ⟨f, hf, e⟩ | ⟨-, hx⟩
  · have ei : ix a = f := by rw [e]; exact ix_n (by omega)
    refine ⟨fun c => ?_, fun _ => ⟨fun c => ?_, fun _ => ⟨by rw [e]; exact vp_in_nI (by omega) (by decide), fun c => ?_, fun c => ?_⟩⟩⟩
    · rw [e] at c; exact absurd c (nI_neg (by omega))
    · have := (cle n f rfl e (by omega) (by omega)).mp c
      omega
    · rw [ei] at c
      refine hn (fun g hg e2 => ?_)
      have : f = g := (ceq f g e e2 (by omega) (by omega)).mp rfl
      rw [← this]; exact c
    · rw [ei] at c
      exact hy f hf e c
  · have hz : post 0 μ := hn (fun g hg e => absurd e (hx g hg))
    exact ⟨fun _ => hz, fun c => ⟨fun _ => hz, fun c2 => by
      rcases pk_ix a (n := n) (by omega) with q | q | ⟨j, hj, e⟩
      · exact absurd q c
      · exact absurd q c2
      · exact absurd e (hx j hj)⟩⟩
theorem s_needFile {post : Mem → Prop} {xq : XP} {a : Int32} {μ : Mem} {n : Nat} (h1 : μ 2 4 = nI n) (h2 : n ≤ 60) (hy : ∀ f, f < n → a = nI f → ¬ μ 16 f = -1 → post μ) (hn : (∀ f, f < n → a = nI f → μ 16 f = -1) → xq "java/util/NoSuchElementException" μ) : w_X7_needFile post xq a μ := by
  unfold w_X7_needFile
  exact s_X1_has h1 h2 (fun d hd e e2 => ⟨fun _ => hy d hd e e2, fun c => absurd c (by decide)⟩) (fun hx => ⟨fun c => absurd rfl c, fun _ => hn hx⟩)
def isNm (a : Int32) : Bool := decide (¬ a < 0 ∧ a < 1000)
theorem s_X7_isName {post : Int32 → Mem → Prop} {a : Int32} {μ : Mem} (hy : isNm a = true → post 1 μ) (hn : isNm a = false → post 0 μ) : w_X7_isName post a μ := by
  unfold w_X7_isName
  unfold isNm at hy hn
  refine ⟨fun c => hn (decide_eq_false (fun h => h.1 c)), fun c => ⟨fun c2 => hn (decide_eq_false (fun h => Int32.not_lt.mpr c2 h.2)), fun c2 => hy (decide_eq_true ⟨c, Int32.not_le.mp c2⟩)⟩⟩
theorem s_X8_isName {post : Int32 → Mem → Prop} {a : Int32} {μ : Mem} (hy : isNm a = true → post 1 μ) (hn : isNm a = false → post 0 μ) : w_X8_isName post a μ := by
  unfold w_X8_isName
  unfold isNm at hy hn
  have key : (999 : Int32) < a ↔ ¬ a < 1000 := by
    rw [Int32.lt_iff_toInt_lt, Int32.lt_iff_toInt_lt]
    have e1 : (999 : Int32).toInt = 999 := by decide
    have e2 : (1000 : Int32).toInt = 1000 := by decide
    rw [e1, e2]
    omega
  refine ⟨fun c => hn (decide_eq_false (fun h => h.1 c)), fun c => ⟨fun c2 => hn (decide_eq_false (fun h => key.mp c2 h.2)), fun c2 => hy (decide_eq_true ⟨c, Classical.not_not.mp (fun h => c2 (key.mpr h))⟩)⟩⟩
/-- where a search looks: rows a and b, from i0 on -/
def sea (r1 r2 : Nat → Int32) (i0 : Nat) (a b : Int32) : Nat → Bool := fun k => decide (i0 ≤ k) && (decide (r1 k = a) && decide (r2 k = b))
theorem sea_cong {r1 r2 q1 q2 : Nat → Int32} {i0 : Nat} {a b : Int32} {n : Nat} (h : ∀ k, i0 ≤ k → k < n → ((r1 k = a ∧ r2 k = b) ↔ (q1 k = a ∧ q2 k = b))) : fst (sea r1 r2 i0 a b) n = fst (sea q1 q2 i0 a b) n := by
  refine fst_cong (fun k hk => ?_)
  unfold sea
  by_cases hi : i0 ≤ k
  · have := h k hi hk
    by_cases c : r1 k = a ∧ r2 k = b
    · have c2 := this.mp c
      simp [hi, c.1, c.2, c2.1, c2.2]
    · have c2 := fun x => c (this.mpr x)
      have d1 : (decide (r1 k = a) && decide (r2 k = b)) = false := by simpa using c
      have d2 : (decide (q1 k = a) && decide (q2 k = b)) = false := by simpa using c2
      rw [d1, d2]
  · simp [hi]
theorem s_X1_named {post : Int32 → Mem → Prop} {a b : Int32} {μ : Mem} {n : Nat} (h1 : μ 2 4 = nI n) (h2 : n ≤ 60) (h : post (fst (sea (μ 14) (μ 15) 0 a b) n) μ) : w_X1_named post a b μ := by
  unfold w_X1_named
  refine wl3 (fun x y z m => x = a ∧ y = b ∧ m = μ ∧ ∃ i, i ≤ n ∧ z = nI i ∧ ∀ j, j < i → sea (μ 14) (μ 15) 0 a b j = false) (fun _ _ z _ => n - ix z) ?_ a b 0 μ ⟨rfl, rfl, rfl, 0, by omega, rfl, fun j hj => absurd hj (Nat.not_lt_zero j)⟩
  rintro k x y z m ⟨rfl, rfl, rfl, i, hi, rfl, hp⟩ hk
  unfold w_X1_named_b2
  have ei : ix (nI i) = i := ix_n (by omega)
  rw [h1, ei]
  have go : ¬ nI n ≤ nI i → sea (m 14) (m 15) 0 x y i = false → k x y (nI i + 1) m := fun c hf => by
    have hlt : i < n := by rcases Nat.lt_or_ge i n with q | q; exact q; exact absurd (nI_le q (by omega)) c
    refine hk x y (nI i + 1) m ⟨rfl, rfl, rfl, i + 1, hlt, nIs i, fun j hj => ?_⟩ ?_
    · rcases Nat.lt_or_ge j i with q | q
      · exact hp j q
      · rw [show j = i by omega]; exact hf
    · rw [nIs, ei, ix_n (by omega)]; omega
  refine ⟨fun c => ?_, fun c => ?_⟩
  · have := (cle n i rfl rfl (by omega) (by omega)).mp c
    rw [fst_no (fun j hj => hp j (by omega))] at h
    exact h
  · have hlt : i < n := by rcases Nat.lt_or_ge i n with q | q; exact q; exact absurd (nI_le q (by omega)) c
    have hin : vp_in (nI i) 60 := vp_in_nI (by omega) (by decide)
    refine ⟨hin, fun c2 => go c (by simp [sea, c2]), fun c2 => ⟨hin, fun c3 => go c (by simp [sea, c3]), fun c3 => ?_⟩⟩
    rw [fst_yes (i := i) (by simp [sea, c2, c3]) (by omega) hp hlt] at h
    exact h
theorem s_X3_named {post : Int32 → Mem → Prop} {a b : Int32} {μ : Mem} {n : Nat} (h1 : μ 1 3 = nI n) (h0 : 1 ≤ n) (h2 : n ≤ 16) (h : post (fst (sea (μ 11) (μ 12) 1 a b) n) μ) : w_X3_named post a b μ := by
  unfold w_X3_named
  refine wl3 (fun x y z m => x = a ∧ y = b ∧ m = μ ∧ ∃ i, 1 ≤ i ∧ i ≤ n ∧ z = nI i ∧ ∀ j, j < i → sea (μ 11) (μ 12) 1 a b j = false) (fun _ _ z _ => n - ix z) ?_ a b 1 μ ⟨rfl, rfl, rfl, 1, by omega, h0, rfl, fun j hj => by rw [show j = 0 by omega]; rfl⟩
  rintro k x y z m ⟨rfl, rfl, rfl, i, hi0, hi, rfl, hp⟩ hk
  unfold w_X3_named_b2
  have ei : ix (nI i) = i := ix_n (by omega)
  rw [h1, ei]
  have go : ¬ nI n ≤ nI i → sea (m 11) (m 12) 1 x y i = false → k x y (nI i + 1) m := fun c hf => by
    have hlt : i < n := by rcases Nat.lt_or_ge i n with q | q; exact q; exact absurd (nI_le q (by omega)) c
    refine hk x y (nI i + 1) m ⟨rfl, rfl, rfl, i + 1, by omega, hlt, nIs i, fun j hj => ?_⟩ ?_
    · rcases Nat.lt_or_ge j i with q | q
      · exact hp j q
      · rw [show j = i by omega]; exact hf
    · rw [nIs, ei, ix_n (by omega)]; omega
  refine ⟨fun c => ?_, fun c => ?_⟩
  · have := (cle n i rfl rfl (by omega) (by omega)).mp c
    rw [fst_no (fun j hj => hp j (by omega))] at h
    exact h
  · have hlt : i < n := by rcases Nat.lt_or_ge i n with q | q; exact q; exact absurd (nI_le q (by omega)) c
    have hin : vp_in (nI i) 16 := vp_in_nI (by omega) (by decide)
    refine ⟨hin, fun c2 => go c (by simp [sea, c2]), fun c2 => ⟨hin, fun c3 => go c (by simp [sea, c3]), fun c3 => ?_⟩⟩
    rw [fst_yes (i := i) (by simp [sea, c2, c3, hi0]) (by omega) hp hlt] at h
    exact h
theorem s_X8_named {post : Int32 → Mem → Prop} {a b : Int32} {μ : Mem} {n : Nat} (h1 : μ 31 2 = nI n) (h2 : n ≤ 60) (h : post (fst (sea (μ 34) (μ 35) 0 a b) n) μ) : w_X8_named post a b μ := by
  unfold w_X8_named
  refine wl3 (fun x y z m => x = a ∧ y = b ∧ m = μ ∧ ∃ i, i ≤ n ∧ z = nI i ∧ ∀ j, j < i → sea (μ 34) (μ 35) 0 a b j = false) (fun _ _ z _ => n - ix z) ?_ a b 0 μ ⟨rfl, rfl, rfl, 0, by omega, rfl, fun j hj => absurd hj (Nat.not_lt_zero j)⟩
  rintro k x y z m ⟨rfl, rfl, rfl, i, hi, rfl, hp⟩ hk
  unfold w_X8_named_b2
  have ei : ix (nI i) = i := ix_n (by omega)
  rw [h1, ei]
  have go : ¬ nI n ≤ nI i → sea (m 34) (m 35) 0 x y i = false → k x y (nI i + 1) m := fun c hf => by
    have hlt : i < n := by rcases Nat.lt_or_ge i n with q | q; exact q; exact absurd (nI_le q (by omega)) c
    refine hk x y (nI i + 1) m ⟨rfl, rfl, rfl, i + 1, hlt, nIs i, fun j hj => ?_⟩ ?_
    · rcases Nat.lt_or_ge j i with q | q
      · exact hp j q
      · rw [show j = i by omega]; exact hf
    · rw [nIs, ei, ix_n (by omega)]; omega
  refine ⟨fun c => ?_, fun c => ?_⟩
  · have := (cle n i rfl rfl (by omega) (by omega)).mp c
    rw [fst_no (fun j hj => hp j (by omega))] at h
    exact h
  · have hlt : i < n := by rcases Nat.lt_or_ge i n with q | q; exact q; exact absurd (nI_le q (by omega)) c
    have hin : vp_in (nI i) 60 := vp_in_nI (by omega) (by decide)
    refine ⟨hin, fun c2 => go c (by simp [sea, c2]), fun c2 => ⟨hin, fun c3 => go c (by simp [sea, c3]), fun c3 => ?_⟩⟩
    rw [fst_yes (i := i) (by simp [sea, c2, c3]) (by omega) hp hlt] at h
    exact h
theorem s_X8_child {post : Int32 → Mem → Prop} {a b : Int32} {μ : Mem} {n : Nat} (h1 : μ 31 1 = nI n) (h0 : 1 ≤ n) (h2 : n ≤ 16) (h : post (fst (sea (μ 32) (μ 33) 1 a b) n) μ) : w_X8_child post a b μ := by
  unfold w_X8_child
  refine wl3 (fun x y z m => x = a ∧ y = b ∧ m = μ ∧ ∃ i, 1 ≤ i ∧ i ≤ n ∧ z = nI i ∧ ∀ j, j < i → sea (μ 32) (μ 33) 1 a b j = false) (fun _ _ z _ => n - ix z) ?_ a b 1 μ ⟨rfl, rfl, rfl, 1, by omega, h0, rfl, fun j hj => by rw [show j = 0 by omega]; rfl⟩
  rintro k x y z m ⟨rfl, rfl, rfl, i, hi0, hi, rfl, hp⟩ hk
  unfold w_X8_child_b2
  have ei : ix (nI i) = i := ix_n (by omega)
  rw [h1, ei]
  have go : ¬ nI n ≤ nI i → sea (m 32) (m 33) 1 x y i = false → k x y (nI i + 1) m := fun c hf => by
    have hlt : i < n := by rcases Nat.lt_or_ge i n with q | q; exact q; exact absurd (nI_le q (by omega)) c
    refine hk x y (nI i + 1) m ⟨rfl, rfl, rfl, i + 1, by omega, hlt, nIs i, fun j hj => ?_⟩ ?_
    · rcases Nat.lt_or_ge j i with q | q
      · exact hp j q
      · rw [show j = i by omega]; exact hf
    · rw [nIs, ei, ix_n (by omega)]; omega
  refine ⟨fun c => ?_, fun c => ?_⟩
  · have := (cle n i rfl rfl (by omega) (by omega)).mp c
    rw [fst_no (fun j hj => hp j (by omega))] at h
    exact h
  · have hlt : i < n := by rcases Nat.lt_or_ge i n with q | q; exact q; exact absurd (nI_le q (by omega)) c
    have hin : vp_in (nI i) 16 := vp_in_nI (by omega) (by decide)
    refine ⟨hin, fun c2 => go c (by simp [sea, c2]), fun c2 => ⟨hin, fun c3 => go c (by simp [sea, c3]), fun c3 => ?_⟩⟩
    rw [fst_yes (i := i) (by simp [sea, c2, c3, hi0]) (by omega) hp hlt] at h
    exact h
/-- how many files have a body -/
def hav (bd : Nat → Int32) (n : Nat) (b : Int32) : Nat := ct (fun f => decide (bd f = b)) n
theorem s_X1_having {post : Int32 → Mem → Prop} {b : Int32} {μ : Mem} {n : Nat} (h1 : μ 2 4 = nI n) (h2 : n ≤ 60) (h : post (nI (hav (μ 16) n b)) μ) : w_X1_having post b μ := by
  unfold w_X1_having
  refine wl3 (fun x y z m => x = b ∧ m = μ ∧ ∃ i, i ≤ n ∧ z = nI i ∧ y = nI (hav (μ 16) i b)) (fun _ _ z _ => n - ix z) ?_ b 0 0 μ ⟨rfl, rfl, 0, by omega, rfl, rfl⟩
  rintro k x y z m ⟨rfl, rfl, i, hi, rfl, rfl⟩ hk
  unfold w_X1_having_b4
  have ei : ix (nI i) = i := ix_n (by omega)
  rw [h1, ei]
  refine ⟨fun c => ?_, fun c => ?_⟩
  · have := (cle n i rfl rfl (by omega) (by omega)).mp c
    rw [show i = n by omega]
    exact h
  · have hlt : i < n := by rcases Nat.lt_or_ge i n with q | q; exact q; exact absurd (nI_le q (by omega)) c
    refine ⟨vp_in_nI (by omega) (by decide), fun c2 => ?_, fun c2 => ?_⟩
    · refine hk _ _ _ _ ⟨rfl, rfl, i + 1, hlt, nIs i, ?_⟩ (by rw [nIs, ei, ix_n (by omega)]; omega)
      unfold hav
      rw [ct_f (by simp [c2])]
    · refine hk _ _ _ _ ⟨rfl, rfl, i + 1, hlt, nIs i, ?_⟩ (by rw [nIs, ei, ix_n (by omega)]; omega)
      unfold hav
      rw [ct_t (by simp [c2]), nIs]
/-- the reference's bodies, as the class has them: none where the file is gone -/
def ebd (mf mb : Nat → Int32) : Nat → Int32 := fun f => if mf f = -1 then -1 else mb f
theorem s_X8_names {post : Int32 → Mem → Prop} {b : Int32} {μ : Mem} {n : Nat} (h1 : μ 31 2 = nI n) (h2 : n ≤ 60) (hb : ¬ b = -1) (h : post (nI (hav (ebd (μ 34) (μ 36)) n b)) μ) : w_X8_names post b μ := by
  unfold w_X8_names
  refine wl3 (fun x y z m => x = b ∧ m = μ ∧ ∃ i, i ≤ n ∧ z = nI i ∧ y = nI (hav (ebd (μ 34) (μ 36)) i b)) (fun _ _ z _ => n - ix z) ?_ b 0 0 μ ⟨rfl, rfl, 0, by omega, rfl, rfl⟩
  rintro k x y z m ⟨rfl, rfl, i, hi, rfl, rfl⟩ hk
  unfold w_X8_names_b4
  have ei : ix (nI i) = i := ix_n (by omega)
  rw [h1, ei]
  refine ⟨fun c => ?_, fun c => ?_⟩
  · have := (cle n i rfl rfl (by omega) (by omega)).mp c
    rw [show i = n by omega]
    exact h
  · have hlt : i < n := by rcases Nat.lt_or_ge i n with q | q; exact q; exact absurd (nI_le q (by omega)) c
    have hin : vp_in (nI i) 60 := vp_in_nI (by omega) (by decide)
    refine ⟨hin, fun c2 => ?_, fun c2 => ⟨hin, fun c3 => ?_, fun c3 => ?_⟩⟩
    · refine hk _ _ _ _ ⟨rfl, rfl, i + 1, hlt, nIs i, ?_⟩ (by rw [nIs, ei, ix_n (by omega)]; omega)
      unfold hav
      rw [ct_f (by simp [ebd, c2, Ne.symm hb])]
    · refine hk _ _ _ _ ⟨rfl, rfl, i + 1, hlt, nIs i, ?_⟩ (by rw [nIs, ei, ix_n (by omega)]; omega)
      unfold hav
      rw [ct_f (by simp [ebd, c2, c3])]
    · refine hk _ _ _ _ ⟨rfl, rfl, i + 1, hlt, nIs i, ?_⟩ (by rw [nIs, ei, ix_n (by omega)]; omega)
      unfold hav
      rw [ct_t (by simp [ebd, c2, c3]), nIs]
theorem hav_cong {p q : Nat → Int32} {n : Nat} {b : Int32} (h : ∀ f, f < n → p f = q f) : hav p n b = hav q n b := ct_cong (fun k hk => by rw [h k hk])
theorem IFi.ebd {nf n nb : Nat} {cf cnm cb mf mnm mb : Nat → Int32} (hnf : nf ≤ 16) (h : IFi nf n nb cf cnm cb mf mnm mb) : ∀ f, f < n → ebd mf mb f = cb f := fun f hf => by
  obtain ⟨-, -, h⟩ := h f hf
  unfold Jvm.Pilot.CSameAgainLaw_law_r3562_fee457.ebd
  rcases h with ⟨h1, h2⟩ | ⟨⟨d, hd, h1⟩, h2, -⟩
  · rw [if_pos h1, h2]
  · rw [if_neg (by rw [h1]; exact nI_m1 (by omega)), h2]
/-- the reference's flag -/
theorem s_X8_right {post : Int32 → Mem → Prop} {a t : Int32} {μ : Mem} (h0 : μ 31 0 = 0) (ht : ¬ t = 0) (hy : ¬ a = 0 → post 1 μ) (hn : a = 0 → post 0 (wr μ 31 0 t)) : w_X8_right post a t μ := by
  unfold w_X8_right w_X8_right_b16
  refine ⟨fun c => absurd h0 c, fun _ => ⟨fun c => ⟨fun c2 => absurd h0 c2, fun _ => hy c⟩, fun c m e => ?_⟩⟩
  subst e
  rw [wr_eq, if_pos ⟨rfl, rfl⟩]
  exact ⟨fun _ => hn c, fun c2 => absurd c2 ht⟩
theorem bz0 : bz 0 := rfl
theorem bz1 : bz 1 := rfl
theorem s_X8_isFolder {post : Int32 → Mem → Prop} {a : Int32} {μ : Mem} {nf : Nat} (h0 : μ 31 0 = 0) (h1 : μ 31 1 = nI nf) (h2 : nf ≤ 16) (hy : ∀ d, d < nf → a = nI d → post 1 μ) (hn : (∀ d, d < nf → a ≠ nI d) → post 0 (wr μ 31 0 1)) : w_X8_isFolder post a μ := by
  unfold w_X8_isFolder w_X8_isFolder_b17 w_X8_isFolder_b18
  rw [h1]
  rcases idx a (n := nf) (by omega) with ⟨d, hd, e⟩ | ⟨-, hx⟩
  · refine ⟨fun c => ?_, fun _ => ⟨fun c => ?_, fun _ => s_X8_right h0 (by decide) (fun _ => ⟨bz1, hy d hd e⟩) (fun c => absurd c (by decide))⟩⟩
    · rw [e] at c; exact absurd c (nI_neg (by omega))
    · have := (cle nf d rfl e (by omega) (by omega)).mp c
      omega
  · have hz : w_X8_right (fun (r2 : Int32) (μ1 : Mem) => bz r2 ∧ post r2 μ1) 0 1 μ := s_X8_right h0 (by decide) (fun c => absurd rfl c) (fun _ => ⟨bz0, hn hx⟩)
    exact ⟨fun _ => hz, fun c => ⟨fun _ => hz, fun c2 => by
      rcases pk_ix a (n := nf) (by omega) with q | q | ⟨j, hj, e⟩
      · exact absurd q c
      · exact absurd q c2
      · exact absurd e (hx j hj)⟩⟩
theorem s_X8_isFile {post : Int32 → Mem → Prop} {a : Int32} {μ : Mem} {n : Nat} (h1 : μ 31 2 = nI n) (h2 : n ≤ 60) (hy : ∀ f, f < n → a = nI f → ¬ μ 34 f = -1 → post 1 (wr μ 31 0 0)) (hn : (∀ f, f < n → a = nI f → μ 34 f = -1) → post 0 (wr (wr μ 31 0 0) 31 0 1)) : w_X8_isFile post a μ := by
  unfold w_X8_isFile w_X8_isFile_b32 w_X8_isFile_b33
  intro m em
  have g0 : m 31 0 = 0 := by rw [em, wr_eq, if_pos ⟨rfl, rfl⟩]
  have g1 : m 31 2 = nI n := by rw [em, wr_eq, if_neg (by decide)]; exact h1
  have g2 : m 34 = μ 34 := by rw [em]; exact wr_c (by decide)
  rw [← em] at hy hn
  rw [g1, g2]
  rcases idx a (n := n) (by omega) with ⟨f, hf, e⟩ | ⟨-, hx⟩
  · have ei : ix a = f := by rw [e]; exact ix_n (by omega)
    refine ⟨fun c => ?_, fun _ => ⟨fun c => ?_, fun _ => ⟨by rw [e]; exact vp_in_nI (by omega) (by decide), fun c => ?_, fun c => ?_⟩⟩⟩
    · rw [e] at c; exact absurd c (nI_neg (by omega))
    · have := (cle n f rfl e (by omega) (by omega)).mp c
      omega
    · rw [ei] at c
      refine s_X8_right g0 (by decide) (fun c => absurd rfl c) (fun _ => ⟨bz0, hn (fun g hg e2 => ?_)⟩)
      have : f = g := (ceq f g e e2 (by omega) (by omega)).mp rfl
      rw [← this]; exact c
    · rw [ei] at c
      exact s_X8_right g0 (by decide) (fun _ => ⟨bz1, hy f hf e c⟩) (fun c => absurd c (by decide))
  · have hz : w_X8_right (fun (r4 : Int32) (μ3 : Mem) => bz r4 ∧ post r4 μ3) 0 1 m := s_X8_right g0 (by decide) (fun c => absurd rfl c) (fun _ => ⟨bz0, hn (fun g hg e => absurd e (hx g hg))⟩)
    exact ⟨fun _ => hz, fun c => ⟨fun _ => hz, fun c2 => by
      rcases pk_ix a (n := n) (by omega) with q | q | ⟨j, hj, e⟩
      · exact absurd q c
      · exact absurd q c2
      · exact absurd e (hx j hj)⟩⟩
