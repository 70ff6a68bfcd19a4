theorem ix0 : ix (0 : Int32) = 0 := by decide
theorem s_newFile {post : Int32 → Mem → Prop} {a b c : Int32} {μ : Mem} {n : Nat} (h1 : μ 31 2 = nI n) (hn : n < 60) (h : post (nI n) (wr (wr (wr (wr μ 34 n a) 35 n b) 36 n c) 31 2 (nI (n + 1)))) : w_X8_newFile post a b c μ := by
  unfold w_X8_newFile
  have hin : vp_in (nI n) 60 := vp_in_nI hn (by decide)
  have ei : ix (nI n) = n := ix_n (by omega)
  rw [h1, ei]
  refine ⟨hin, fun y1 e1 => ?_⟩
  have g1 : y1 31 2 = nI n := by rw [e1]; simp only [wrA, Nat.reduceEqDiff, reduceIte]; exact h1
  rw [g1, ei]
  refine ⟨hin, fun y2 e2 => ?_⟩
  have g2 : y2 31 2 = nI n := by rw [e2]; simp only [wrA, Nat.reduceEqDiff, reduceIte]; exact g1
  rw [g2, ei]
  refine ⟨hin, fun y3 e3 y4 e4 => ?_⟩
  have g3 : y3 31 2 = nI n := by rw [e3]; simp only [wrA, Nat.reduceEqDiff, reduceIte]; exact g2
  rw [g3, nIs] at e4
  have g4 : y4 31 2 = nI (n + 1) := by rw [e4]; simp [wrA, updA]
  rw [g4, nI_pred, e4, e3, e2, e1]
  exact h
theorem s_newBody {post : Int32 → Mem → Prop} {a b c : Int32} {μ : Mem} {n : Nat} (h1 : μ 31 3 = nI n) (hn : n < 100) (h : post (nI n) (wr (wr (wr (wr (wr μ 38 n a) 39 n b) 40 n c) 41 n (-1)) 31 3 (nI (n + 1)))) : w_X8_newBody post a b c μ := by
  unfold w_X8_newBody
  have hin : vp_in (nI n) 100 := vp_in_nI hn (by decide)
  have ei : ix (nI n) = n := ix_n (by omega)
  rw [h1, ei]
  refine ⟨hin, fun y1 e1 => ?_⟩
  have g1 : y1 31 3 = nI n := by rw [e1]; simp only [wrA, Nat.reduceEqDiff, reduceIte]; exact h1
  rw [g1, ei]
  refine ⟨hin, fun y2 e2 => ?_⟩
  have g2 : y2 31 3 = nI n := by rw [e2]; simp only [wrA, Nat.reduceEqDiff, reduceIte]; exact g1
  rw [g2, ei]
  refine ⟨hin, fun y3 e3 => ?_⟩
  have g3 : y3 31 3 = nI n := by rw [e3]; simp only [wrA, Nat.reduceEqDiff, reduceIte]; exact g2
  rw [g3, ei]
  refine ⟨hin, fun y4 e4 y5 e5 => ?_⟩
  have g4 : y4 31 3 = nI n := by rw [e4]; simp only [wrA, Nat.reduceEqDiff, reduceIte]; exact g3
  rw [g4, nIs] at e5
  have g5 : y5 31 3 = nI (n + 1) := by rw [e5]; simp [wrA, updA]
  rw [g5, nI_pred, e5, e4, e3, e2, e1]
  exact h
theorem s_X1_make {post : Int32 → Mem → Prop} {a b c : Int32} {μ : Mem} {n : Nat} (h1 : μ 2 4 = nI n) (hn : n < 60) (h : post (nI n) (wr (wr (wr (wr μ 2 4 (nI (n + 1))) 14 n a) 15 n b) 16 n c)) : w_X1_make post a b c μ := by
  unfold w_X1_make
  have hin : vp_in (nI n) 60 := vp_in_nI hn (by decide)
  rw [h1, ix_n (by omega), nIs]
  intro y1 e1
  refine ⟨hin, fun y2 e2 => ⟨hin, fun y3 e3 => ⟨hin, fun y4 e4 => ?_⟩⟩⟩
  rw [e4, e3, e2, e1]
  exact h
theorem s_X0_make {post : Int32 → Mem → Prop} {a b c : Int32} {μ : Mem} {n : Nat} (h1 : μ 3 4 = nI n) (hn : n < 100) (h : post (nI n) (wr (wr (wr (wr μ 3 4 (nI (n + 1))) 19 n a) 20 n b) 21 n c)) : w_X0_make post a b c μ := by
  unfold w_X0_make
  have hin : vp_in (nI n) 100 := vp_in_nI hn (by decide)
  rw [h1, ix_n (by omega), nIs]
  intro y1 e1
  refine ⟨hin, fun y2 e2 => ⟨hin, fun y3 e3 => ⟨hin, fun y4 e4 => ?_⟩⟩⟩
  rw [e4, e3, e2, e1]
  exact h
theorem IGr.add {n nb : Nat} {cb cg mg : Nat → Int32} {c : Int32} (h : IGr n nb cb cg mg) (hc : ∀ b, b < nb → c = nI b → cg b = mg b) : IGr (n + 1) nb (upd cb n c) cg mg := by
  refine ⟨h.1, fun f hf b hb e => ?_⟩
  rcases Nat.lt_or_ge f n with z | z
  · rw [up_n (by omega)] at e; exact h.2 f z b hb e
  · rw [show f = n by omega, up_s] at e; exact hc b hb e
/-- a new body, no file of it yet -/
theorem IGr.body {nf n nb : Nat} {cf cnm cb mf mnm mb cg mg : Nat → Int32} (hnb : nb < 100) (hFi : IFi nf n nb cf cnm cb mf mnm mb) (h : IGr n nb cb cg mg) : IGr n (nb + 1) cb cg (upd mg nb (-1)) := by
  refine ⟨fun b h1 h2 => h.1 b (by omega) h2, fun f hf b hb e => ?_⟩
  obtain ⟨-, ⟨b', hb', eb⟩, c⟩ := hFi f hf
  rcases c with ⟨-, c⟩ | ⟨-, c, -⟩
  · rw [c] at e; exact absurd e.symm (nI_m1 (by omega))
  · have : b' = b := (ceq b' b (c.trans eb) e (by omega) (by omega)).mp rfl
    rw [up_n (by omega)]
    exact h.2 f hf b (by omega) e
theorem IBo.add {cs co cd ms mo md : Nat → Int32} {b s o : Nat} {x y z : Int32} (h : IBo cs co cd ms mo md) (hs : s ≤ 64) (ho : o < 8) (e1 : x = nI s) (e2 : y = nI o) : IBo (upd cs b x) (upd co b y) (upd cd b z) (upd ms b x) (upd mo b y) (upd md b z) := fun k hk => by
  by_cases c : k = b
  · subst c
    rw [up_s, up_s, up_s, up_s, up_s, up_s]
    exact ⟨⟨s, hs, e1⟩, rfl, ⟨o, ho, e2⟩, rfl, rfl⟩
  · rw [up_n c, up_n c, up_n c, up_n c, up_n c, up_n c]
    exact h k hk
theorem IBy.add {nb : Nat} {cs cy my : Nat → Int32} {x : Int32} (h : IBy nb cs cy my) : IBy (nb + 1) (upd cs nb x) cy my := by
  refine ⟨h.1, fun b k hb hk c => ?_⟩
  by_cases e : b = nb
  · exact h.2 b k hb hk (Or.inl (by omega))
  · rw [up_n e] at c
    refine h.2 b k hb hk ?_
    rcases c with c | c
    · exact Or.inl (by omega)
    · exact Or.inr c
theorem IFi.move {nf n nb f d : Nat} {cf cnm cb mf mnm mb : Nat → Int32} {a x : Int32} (h : IFi nf n nb cf cnm cb mf mnm mb) (hd : d < nf) (e : a = nI d) (hf : cb f = mb f) : IFi nf n nb (upd cf f a) (upd cnm f x) cb (upd mf f a) (upd mnm f x) mb := fun g hg => by
  by_cases c : g = f
  · subst c
    rw [up_s, up_s, up_s, up_s]
    exact ⟨rfl, (h g hg).2.1, Or.inr ⟨⟨d, hd, e⟩, hf, rfl⟩⟩
  · rw [up_n c, up_n c, up_n c, up_n c]
    exact h g hg
theorem IFi.drop {nf n nb f : Nat} {cf cnm cb mf mnm mb : Nat → Int32} (h : IFi nf n nb cf cnm cb mf mnm mb) : IFi nf n nb (upd cf f (-1)) (upd cnm f (-1)) (upd cb f (-1)) (upd mf f (-1)) mnm mb := fun g hg => by
  by_cases c : g = f
  · subst c
    rw [up_s, up_s, up_s]
    exact ⟨rfl, (h g hg).2.1, Or.inl ⟨rfl, rfl⟩⟩
  · rw [up_n c, up_n c, up_n c, up_n c]
    exact h g hg
theorem s_leaves {post : Mem → Prop} {μ : Mem} {n b : Nat} (h1 : μ 31 2 = nI n) (h2 : n ≤ 60) (hb : b < 100) (h : post (if hav (ebd (μ 34) (μ 36)) n (nI b) = 0 then wr μ 41 b (-1) else μ)) : w_X8_leaves post (nI b) μ := by
  unfold w_X8_leaves
  refine s_X8_names h1 h2 (nI_m1 (by omega)) ?_
  have hle : hav (ebd (μ 34) (μ 36)) n (nI b) ≤ n := ct_le _ _
  rw [ix_n (by omega)]
  refine And.symm (pk_eq (hav (ebd (μ 34) (μ 36)) n (nI b)) 0 (fun e => ⟨vp_in_nI hb (by decide), fun m em => ?_⟩) (fun e => ?_) rfl rfl (by omega) (by omega))
  · rw [if_pos e] at h; rw [em]; exact h
  · rw [if_neg e] at h; exact h
/-- the groups, where one body is gone from them -/
theorem IGr.less {n nb b : Nat} {cb cb' cg mg : Nat → Int32} (h : IGr n nb cb cg mg) (hb : ∀ f, f < n → ∀ c, c < nb → cb' f = nI c → cb f = nI c ∧ (hav cb' n (nI b) = 0 → c ≠ b)) : IGr n nb cb' cg (if hav cb' n (nI b) = 0 then upd mg b (-1) else mg) := by
  refine ⟨h.1, fun f hf c hc e => ?_⟩
  obtain ⟨h1, h2⟩ := hb f hf c hc e
  rw [h.2 f hf c hc h1]
  split
  · rw [up_n (h2 ‹_›)]
  · rfl
theorem hav_z {bd : Nat → Int32} {n f : Nat} {b : Int32} (h : hav bd n b = 0) (hf : f < n) : bd f ≠ b := fun e => by
  have := ct_zero.mp h f hf
  simp [e] at this
