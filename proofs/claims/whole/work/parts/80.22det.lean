/-! both sides, step by step -/
theorem wrA (μ : Mem) (k j : Nat) (v : Int32) (k' : Nat) : wr μ k j v k' = if k' = k then upd (μ k) j v else μ k' := rfl
theorem updA (f : Nat → Int32) (k : Nat) (x : Int32) (j : Nat) : upd f k x j = if j = k then x else f j := rfl
theorem t_y {c A B : Prop} (h : c) (a : A) : (c → A) ∧ (¬ c → B) := ⟨fun _ => a, fun n => absurd h n⟩
theorem t_n {c A B : Prop} (h : ¬ c) (b : B) : (c → A) ∧ (¬ c → B) := ⟨fun y => absurd y h, fun _ => b⟩
theorem f_y {c A B : Prop} (h : c) (a : A) : (¬ c → B) ∧ (c → A) := ⟨fun n => absurd h n, fun _ => a⟩
theorem f_n {c A B : Prop} (h : ¬ c) (b : B) : (¬ c → B) ∧ (c → A) := ⟨fun _ => b, fun y => absurd y h⟩
theorem needFolder_y {post : Mem → Prop} {xq : XP} {a : Int32} {μ : Mem} {nf d : Nat} (h1 : μ 1 3 = nI nf) (h2 : nf ≤ 16) (hd : d < nf) (e : a = nI d) (h : post μ) : w_X7_needFolder post xq a μ := s_needFolder h1 h2 (fun _ _ _ => h) (fun hx => absurd e (hx d hd))
theorem needFolder_n {post : Mem → Prop} {xq : XP} {a : Int32} {μ : Mem} {nf : Nat} (h1 : μ 1 3 = nI nf) (h2 : nf ≤ 16) (hx : ∀ d, d < nf → a ≠ nI d) (h : xq "java/util/NoSuchElementException" μ) : w_X7_needFolder post xq a μ := s_needFolder h1 h2 (fun d hd e => absurd e (hx d hd)) (fun _ => h)
theorem needFile_y {post : Mem → Prop} {xq : XP} {a : Int32} {μ : Mem} {n f : Nat} (h1 : μ 2 4 = nI n) (h2 : n ≤ 60) (hf : f < n) (e : a = nI f) (hb : ¬ μ 16 f = -1) (h : post μ) : w_X7_needFile post xq a μ := s_needFile h1 h2 (fun _ _ _ _ => h) (fun hx => absurd (hx f hf e) hb)
theorem needFile_n {post : Mem → Prop} {xq : XP} {a : Int32} {μ : Mem} {n : Nat} (h1 : μ 2 4 = nI n) (h2 : n ≤ 60) (hx : ∀ f, f < n → a = nI f → μ 16 f = -1) (h : xq "java/util/NoSuchElementException" μ) : w_X7_needFile post xq a μ := s_needFile h1 h2 (fun f hf e hb => absurd (hx f hf e) hb) (fun _ => h)
theorem isFolder_y {post : Int32 → Mem → Prop} {a : Int32} {μ : Mem} {nf d : Nat} (h0 : μ 31 0 = 0) (h1 : μ 31 1 = nI nf) (h2 : nf ≤ 16) (hd : d < nf) (e : a = nI d) (h : post 1 μ) : w_X8_isFolder post a μ := s_X8_isFolder h0 h1 h2 (fun _ _ _ => h) (fun hx => absurd e (hx d hd))
theorem isFolder_n {post : Int32 → Mem → Prop} {a : Int32} {μ : Mem} {nf : Nat} (h0 : μ 31 0 = 0) (h1 : μ 31 1 = nI nf) (h2 : nf ≤ 16) (hx : ∀ d, d < nf → a ≠ nI d) (h : post 0 (wr μ 31 0 1)) : w_X8_isFolder post a μ := s_X8_isFolder h0 h1 h2 (fun d hd e => absurd e (hx d hd)) (fun _ => h)
theorem isFile_y {post : Int32 → Mem → Prop} {a : Int32} {μ : Mem} {n f : Nat} (h1 : μ 31 2 = nI n) (h2 : n ≤ 60) (hf : f < n) (e : a = nI f) (hb : ¬ μ 34 f = -1) (h : post 1 (wr μ 31 0 0)) : w_X8_isFile post a μ := s_X8_isFile h1 h2 (fun _ _ _ _ => h) (fun hx => absurd (hx f hf e) hb)
theorem isFile_n {post : Int32 → Mem → Prop} {a : Int32} {μ : Mem} {n : Nat} (h1 : μ 31 2 = nI n) (h2 : n ≤ 60) (hx : ∀ f, f < n → a = nI f → μ 34 f = -1) (h : post 0 (wr (wr μ 31 0 0) 31 0 1)) : w_X8_isFile post a μ := s_X8_isFile h1 h2 (fun f hf e hb => absurd (hx f hf e) hb) (fun _ => h)
theorem right_y {post : Int32 → Mem → Prop} {t : Int32} {μ : Mem} (h0 : μ 31 0 = 0) (h : post 1 μ) : w_X8_right post 1 t μ := by
  unfold w_X8_right w_X8_right_b16
  exact f_y h0 (f_n (by decide) (f_y h0 h))
theorem right_n {post : Int32 → Mem → Prop} {t : Int32} {μ : Mem} (h0 : μ 31 0 = 0) (ht : ¬ t = 0) (h : post 0 (wr μ 31 0 t)) : w_X8_right post 0 t μ := s_X8_right h0 ht (fun c => absurd rfl c) (fun _ => h)
theorem n310 : ¬ rlv 31 0 := by unfold rlv; omega
theorem n56 {j : Nat} : ¬ rlv 56 j := by unfold rlv; omega
theorem Inv.w {nf n nb w q lt k j : Nat} {μ : Mem} {v : Int32} (h : Inv nf n nb w q lt μ) (hr : ¬ rlv k j) : Inv nf n nb w q lt (wr μ k j v) := h.sim (Sim.wr k j v hr)
theorem IFi.gone {nf n nb : Nat} {cf cnm cb mf mnm mb : Nat → Int32} (hnf : nf ≤ 16) (hnb : nb ≤ 100) (h : IFi nf n nb cf cnm cb mf mnm mb) {f : Nat} (hf : f < n) : cb f = -1 ↔ mf f = -1 := by
  obtain ⟨-, ⟨b, hb, e⟩, h⟩ := h f hf
  rcases h with ⟨h1, h2⟩ | ⟨⟨d, hd, h1⟩, h2, -⟩
  · exact ⟨fun _ => h1, fun _ => h2⟩
  · exact ⟨fun c => absurd (h2.symm.trans c) (by rw [e]; exact nI_m1 (by omega)), fun c => absurd (h1.symm.trans c) (nI_m1 (by omega))⟩
/-- an argument is a file there, or none -/
theorem IFi.arg {nf n nb : Nat} {cf cnm cb mf mnm mb : Nat → Int32} (hnf : nf ≤ 16) (hn : n ≤ 60) (hnb : nb ≤ 100) (h : IFi nf n nb cf cnm cb mf mnm mb) (a : Int32) :
    (∃ f d b, f < n ∧ a = nI f ∧ d < nf ∧ b < nb ∧ cf f = nI d ∧ mf f = nI d ∧ cb f = nI b ∧ mb f = nI b ∧ cnm f = mnm f ∧ ¬ cb f = -1 ∧ ¬ mf f = -1) ∨ ((∀ f, f < n → a = nI f → cb f = -1) ∧ ∀ f, f < n → a = nI f → mf f = -1) := by
  rcases idx a (n := n) (by omega) with ⟨f, hf, e⟩ | ⟨-, hx⟩
  · obtain ⟨h0, ⟨b, hb, eb⟩, h1⟩ := h f hf
    rcases h1 with ⟨h1, h2⟩ | ⟨⟨d, hd, h1⟩, h2, h3⟩
    · refine Or.inr ⟨fun g hg e2 => ?_, fun g hg e2 => ?_⟩
      · rw [← (ceq f g e e2 (by omega) (by omega)).mp rfl]; exact h2
      · rw [← (ceq f g e e2 (by omega) (by omega)).mp rfl]; exact h1
    · exact Or.inl ⟨f, d, b, hf, e, hd, hb, h0.trans h1, h1, h2.trans eb, eb, h3, by rw [h2, eb]; exact nI_m1 (by omega), by rw [h1]; exact nI_m1 (by omega)⟩
  · exact Or.inr ⟨fun f hf e => absurd e (hx f hf), fun f hf e => absurd e (hx f hf)⟩
theorem IFi.mono {nf n nb nf' nb' : Nat} {cf cnm cb mf mnm mb : Nat → Int32} (h : IFi nf n nb cf cnm cb mf mnm mb) (h1 : nf ≤ nf') (h2 : nb ≤ nb') : IFi nf' n nb' cf cnm cb mf mnm mb := fun f hf => by
  obtain ⟨a, ⟨b, hb, eb⟩, c⟩ := h f hf
  refine ⟨a, ⟨b, by omega, eb⟩, ?_⟩
  rcases c with c | ⟨⟨d, hd, e⟩, c⟩
  · exact Or.inl c
  · exact Or.inr ⟨⟨d, by omega, e⟩, c⟩
theorem IWi.mono {nf nf' w : Nat} {cw cf mw mf : Nat → Int32} (h : IWi nf w cw cf mw mf) (h1 : nf ≤ nf') : IWi nf' w cw cf mw mf := fun i hi => by
  obtain ⟨t, a, b, c, d, e⟩ := h i hi
  refine ⟨t, a, b, c, fun z => ?_, e⟩
  obtain ⟨x, y, z⟩ := d z
  exact ⟨x, by omega, z⟩
theorem IMe.mono {n nb n' nb' q lt : Nat} {cb : Nat → Int32} {cr : Nat → Nat → Int32} {mm mt mf mo : Nat → Int32} (h : IMe n nb q lt cb cr mm mt mf mo) (h1 : n ≤ n') (h2 : nb ≤ nb') : IMe n' nb' q lt cb cr mm mt mf mo := fun i hi => by
  obtain ⟨⟨b, x, y⟩, r1, r2⟩ := h i hi
  refine ⟨⟨b, by omega, y⟩, fun f hf => ?_, r2⟩
  rcases r1 f hf with r | ⟨r, s⟩
  · exact Or.inl r
  · exact Or.inr ⟨by omega, s⟩
theorem IFo.sea {nf : Nat} {ci cn ca mi mn : Nat → Int32} (h : IFo nf ci cn ca mi mn) (a b : Int32) : fst (sea ci cn 1 a b) nf = fst (sea mi mn 1 a b) nf := sea_cong fun k h1 h2 => by
  obtain ⟨p, -, e1, e2, e3, -⟩ := h.2.2.2 k h1 h2
  rw [e1, e2, e3]
theorem IFi.sea {nf n nb : Nat} {cf cnm cb mf mnm mb : Nat → Int32} (h : IFi nf n nb cf cnm cb mf mnm mb) {a : Int32} (ha : ¬ a = -1) (b : Int32) : fst (sea cf cnm 0 a b) n = fst (sea mf mnm 0 a b) n := sea_cong fun k h1 h2 => by
  obtain ⟨e1, -, c⟩ := h k h2
  rcases c with ⟨c, -⟩ | ⟨-, -, c⟩
  · rw [e1, c]
    exact ⟨fun z => absurd z.1.symm ha, fun z => absurd z.1.symm ha⟩
  · rw [e1, c]
theorem s_mayCome {post : Int32 → Mem → Prop} {a b : Int32} {μ : Mem} {n : Nat} (h1 : μ 2 4 = nI n) (h2 : n ≤ 60) (hy : n < 60 → isNm b = true → fst (sea (μ 14) (μ 15) 0 a b) n = -1 → post 1 μ) (hn : ¬ (n < 60 ∧ isNm b = true ∧ fst (sea (μ 14) (μ 15) 0 a b) n = -1) → post 0 μ) : w_X7_mayCome post a b μ := by
  unfold w_X7_mayCome w_X1_hasRoom w_X7_isFreeName
  refine pk_le 60 n (fun h => t_y rfl (hn (by omega))) (fun h => t_n (by decide) ?_) rfl h1 (by omega) (by omega)
  refine s_X7_isName (fun c => t_n (by decide) (s_X1_named h1 h2 ?_)) (fun c => t_y rfl (t_y rfl (hn (fun z => by rw [z.2.1] at c; cases c))))
  by_cases hc : fst (sea (μ 14) (μ 15) 0 a b) n = -1
  · exact f_y hc (t_n (by decide) (hy h c hc))
  · exact f_n hc (t_y rfl (hn (fun z => hc z.2.2)))
theorem s_canCome {post : Int32 → Mem → Prop} {a b : Int32} {μ : Mem} {n : Nat} (h1 : μ 31 2 = nI n) (h2 : n ≤ 60) (hy : n < 60 → isNm b = true → fst (sea (μ 34) (μ 35) 0 a b) n = -1 → post 1 μ) (hn : ¬ (n < 60 ∧ isNm b = true ∧ fst (sea (μ 34) (μ 35) 0 a b) n = -1) → post 0 μ) : w_X8_canCome post a b μ := by
  unfold w_X8_canCome
  refine pk_le 60 n (fun h => hn (by omega)) (fun h => ?_) rfl h1 (by omega) (by omega)
  refine s_X8_isName (fun c => t_n (by decide) (s_X8_named h1 h2 ?_)) (fun c => t_y rfl (hn (fun z => by rw [z.2.1] at c; cases c)))
  by_cases hc : fst (sea (μ 34) (μ 35) 0 a b) n = -1
  · exact f_y hc (hy h c hc)
  · exact f_n hc (hn (fun z => hc z.2.2))
theorem IFo.add {nf d : Nat} {ci cn ca mi mn : Nat → Int32} {a x : Int32} (h : IFo nf ci cn ca mi mn) (h1 : 1 ≤ nf) (hd : d < nf) (e : a = nI d) : IFo (nf + 1) (upd ci nf a) (upd cn nf x) (upd ca nf (ca d + 1)) (upd mi nf a) (upd mn nf x) := by
  subst e
  obtain ⟨i1, i2, i3, i4⟩ := h
  refine ⟨by rw [up_n (by omega)]; exact i1, by rw [up_n (by omega)]; exact i2, by rw [up_n (by omega)]; exact i3, fun k k1 k2 => ?_⟩
  rcases Nat.lt_or_ge k nf with z | z
  · obtain ⟨p, p1, p2, p3, p4, p5⟩ := i4 k k1 z
    refine ⟨p, p1, ?_, ?_, ?_, ?_⟩
    · rw [up_n (by omega)]; exact p2
    · rw [up_n (by omega)]; exact p3
    · rw [up_n (by omega), up_n (by omega)]; exact p4
    · rw [up_n (by omega), up_n (by omega)]; exact p5
  · have : k = nf := by omega
    subst this
    exact ⟨d, hd, up_s _ _ _, up_s _ _ _, by rw [up_s, up_s], by rw [up_s, up_n (by omega)]⟩
theorem IFi.add {nf n nb d b : Nat} {cf cnm cb mf mnm mb : Nat → Int32} {a c x : Int32} (h : IFi nf n nb cf cnm cb mf mnm mb) (hd : d < nf) (hb : b < nb) (e : a = nI d) (e2 : c = nI b) : IFi nf (n + 1) nb (upd cf n a) (upd cnm n x) (upd cb n c) (upd mf n a) (upd mnm n x) (upd mb n c) := fun f hf => by
  rcases Nat.lt_or_ge f n with z | z
  · rw [up_n (by omega), up_n (by omega), up_n (by omega), up_n (by omega), up_n (by omega), up_n (by omega)]
    exact h f z
  · have : f = n := by omega
    subst this
    rw [up_s, up_s, up_s, up_s, up_s, up_s]
    exact ⟨rfl, ⟨b, hb, e2⟩, Or.inr ⟨⟨d, hd, e⟩, rfl, rfl⟩⟩
