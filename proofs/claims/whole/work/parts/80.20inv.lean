/-! numbers, memory; what holds between the class's cells and the reference's -/
theorem cle {x y : Int32} (a b : Nat) (hx : x = nI a) (hy : y = nI b) (ha : a < 2147483648) (hb : b < 2147483648) : x ≤ y ↔ a ≤ b := by rw [hx, hy]; exact nI_leI ha hb
theorem clt {x y : Int32} (a b : Nat) (hx : x = nI a) (hy : y = nI b) (ha : a < 2147483648) (hb : b < 2147483648) : x < y ↔ a < b := by rw [hx, hy]; exact nI_ltI ha hb
theorem ceq {x y : Int32} (a b : Nat) (hx : x = nI a) (hy : y = nI b) (ha : a < 2147483648) (hb : b < 2147483648) : x = y ↔ a = b := by rw [hx, hy]; exact nI_eq ha hb
theorem nI_m1 {n : Nat} (h : n < 2147483648) : ¬ nI n = (-1 : Int32) := by
  intro e
  have h1 := nI_pos h
  rw [e] at h1
  exact h1 (by decide)
theorem nI_neg {n : Nat} (h : n < 2147483648) : ¬ nI n < (0 : Int32) := nI_pos h
theorem ix_n {n : Nat} (h : n < 2147483648) : ix (nI n) = n := nI_clamp h
theorem nIs (i : Nat) : nI i + (1 : Int32) = nI (i + 1) := nI_1 i
theorem wr_eq (μ : Mem) (k j : Nat) (v : Int32) (k' j' : Nat) : wr μ k j v k' j' = if k' = k ∧ j' = j then v else μ k' j' := by
  unfold wr upd
  by_cases h1 : k' = k
  · subst h1
    by_cases h2 : j' = j <;> simp [h2]
  · simp [h1]
theorem wr_c {μ : Mem} {k j : Nat} {v : Int32} {k' : Nat} (h : k' ≠ k) : wr μ k j v k' = μ k' := by
  funext j'
  rw [wr_eq, if_neg (fun e => h e.1)]
theorem wr_r (μ : Mem) (k j : Nat) (v : Int32) : wr μ k j v k = upd (μ k) j v := by
  funext j'
  rw [wr_eq]
  unfold upd
  simp
theorem up_s (f : Nat → Int32) (k : Nat) (x : Int32) : upd f k x k = x := by simp [upd]
theorem up_n {f : Nat → Int32} {k j : Nat} {x : Int32} (h : j ≠ k) : upd f k x j = f j := by simp [upd, h]
/-- an argument is one of n numbers, or none -/
theorem idx (x : Int32) {n : Nat} (hn : n < 2147483648) : (∃ j, j < n ∧ x = nI j) ∨ ((x < 0 ∨ nI n ≤ x) ∧ ∀ j, j < n → x ≠ nI j) := by
  rcases pk_ix x hn with h | h | h
  · exact Or.inr ⟨Or.inl h, fun j hj e => by rw [e] at h; exact nI_neg (by omega) h⟩
  · exact Or.inr ⟨Or.inr h, fun j hj e => by rw [e] at h; have := (nI_leI hn (by omega)).mp h; omega⟩
  · exact Or.inl h
def ct (p : Nat → Bool) : Nat → Nat
  | 0 => 0
  | n + 1 => ct p n + (if p n then 1 else 0)
theorem ct_s (p : Nat → Bool) (n : Nat) : ct p (n + 1) = ct p n + (if p n then 1 else 0) := rfl
theorem ct_le (p : Nat → Bool) : ∀ n, ct p n ≤ n
  | 0 => Nat.le_refl 0
  | n + 1 => by
    have := ct_le p n
    rw [ct_s]
    split <;> omega
theorem ct_t {p : Nat → Bool} {n : Nat} (h : p n = true) : ct p (n + 1) = ct p n + 1 := by rw [ct_s, h]; rfl
theorem ct_f {p : Nat → Bool} {n : Nat} (h : p n = false) : ct p (n + 1) = ct p n := by rw [ct_s, h]; rfl
theorem ct_cong {p q : Nat → Bool} : ∀ {n : Nat}, (∀ k, k < n → p k = q k) → ct p n = ct q n
  | 0, _ => rfl
  | n + 1, h => by rw [ct_s, ct_s, ct_cong (fun k hk => h k (by omega)), h n (by omega)]
theorem ct_zero {p : Nat → Bool} : ∀ {n : Nat}, ct p n = 0 ↔ ∀ k, k < n → p k = false
  | 0 => ⟨fun _ k hk => absurd hk (Nat.not_lt_zero k), fun _ => rfl⟩
  | n + 1 => by
    rw [ct_s]
    constructor
    · intro h k hk
      have h1 : ct p n = 0 := by omega
      have h2 : p n = false := by
        cases e : p n
        · rfl
        · rw [e] at h; simp at h
      rcases Nat.lt_or_ge k n with q | q
      · exact ct_zero.mp h1 k q
      · rw [show k = n by omega]; exact h2
    · intro h
      rw [ct_zero.mpr (fun k hk => h k (by omega)), h n (by omega)]
      rfl
theorem ct_pos {p : Nat → Bool} {n : Nat} : 0 < ct p n ↔ ∃ k, k < n ∧ p k = true := by
  constructor
  · intro h
    apply Classical.byContradiction
    intro hc
    have : ct p n = 0 := ct_zero.mpr (fun k hk => by
      cases e : p k
      · rfl
      · exact absurd ⟨k, hk, e⟩ hc)
    omega
  · intro ⟨k, hk, e⟩
    rcases Nat.eq_zero_or_pos (ct p n) with h | h
    · have := ct_zero.mp h k hk
      rw [this] at e
      cases e
    · exact h
theorem ct_mono (p : Nat → Bool) {m n : Nat} (h : m ≤ n) : ct p m ≤ ct p n := by
  induction n with
  | zero => rw [show m = 0 by omega]; exact Nat.le_refl _
  | succ n ih =>
    rcases Nat.lt_or_ge m (n + 1) with q | q
    · have := ih (by omega)
      rw [ct_s]
      omega
    · rw [show m = n + 1 by omega]; exact Nat.le_refl _
/-- the first of the numbers below n that has p, as the programs answer it -/
def fst (p : Nat → Bool) : Nat → Int32
  | 0 => -1
  | n + 1 => if fst p n = -1 then (if p n then nI n else -1) else fst p n
theorem fst_no {p : Nat → Bool} : ∀ {n : Nat}, (∀ k, k < n → p k = false) → fst p n = -1
  | 0, _ => rfl
  | n + 1, h => by
    unfold fst
    rw [fst_no (fun k hk => h k (by omega)), h n (by omega)]
    rfl
theorem fst_yes {p : Nat → Bool} {i : Nat} (hi : p i = true) (hlt : i < 2147483648) (hp : ∀ k, k < i → p k = false) : ∀ {n : Nat}, i < n → fst p n = nI i
  | 0, h => absurd h (Nat.not_lt_zero i)
  | n + 1, h => by
    unfold fst
    rcases Nat.lt_or_ge i n with q | q
    · rw [fst_yes hi hlt hp q, if_neg (nI_m1 hlt)]
    · have e : i = n := by omega
      subst e
      rw [fst_no hp, if_pos rfl, hi]
      rfl
theorem fst_cong {p q : Nat → Bool} : ∀ {n : Nat}, (∀ k, k < n → p k = q k) → fst p n = fst q n
  | 0, _ => rfl
  | n + 1, h => by
    unfold fst
    rw [fst_cong (fun k hk => h k (by omega)), h n (by omega)]
theorem fst_cases (p : Nat → Bool) {n : Nat} (hn : n < 2147483648) : (fst p n = -1 ∧ ∀ k, k < n → p k = false) ∨ ∃ i, i < n ∧ fst p n = nI i ∧ p i = true ∧ ∀ k, k < i → p k = false := by
  induction n with
  | zero => exact Or.inl ⟨rfl, fun k hk => absurd hk (Nat.not_lt_zero k)⟩
  | succ n ih =>
    rcases ih (by omega) with ⟨h1, h2⟩ | ⟨i, h1, h2, h3, h4⟩
    · cases e : p n
      · refine Or.inl ⟨by unfold fst; rw [h1, e]; rfl, fun k hk => ?_⟩
        rcases Nat.lt_or_ge k n with q | q
        · exact h2 k q
        · rw [show k = n by omega]; exact e
      · exact Or.inr ⟨n, by omega, by unfold fst; rw [h1, e]; rfl, e, h2⟩
    · exact Or.inr ⟨i, by omega, by unfold fst; rw [h2, if_neg (nI_m1 (by omega))], h3, h4⟩
/-! the relation, row by row -/
def IFo (nf : Nat) (ci cn ca mi mn : Nat → Int32) : Prop :=
  ci 0 = -1 ∧ mi 0 = -1 ∧ ca 0 = 1 ∧ ∀ k, 1 ≤ k → k < nf → ∃ p, p < k ∧ ci k = nI p ∧ mi k = nI p ∧ cn k = mn k ∧ ca k = ca p + 1
def IFi (nf n nb : Nat) (cf cnm cb mf mnm mb : Nat → Int32) : Prop :=
  ∀ f, f < n → cf f = mf f ∧ (∃ b, b < nb ∧ mb f = nI b) ∧ ((mf f = -1 ∧ cb f = -1) ∨ ((∃ d, d < nf ∧ mf f = nI d) ∧ cb f = mb f ∧ cnm f = mnm f))
def IHe (ch mh : Nat → Int32) : Prop := ∀ f, f < 60 → ch f = mh f ∧ (ch f = 0 ∨ ch f = 1)
def IBo (cs co cd ms mo md : Nat → Int32) : Prop := ∀ b, b < 100 → (∃ s, s ≤ 64 ∧ cs b = nI s) ∧ ms b = cs b ∧ (∃ o, o < 8 ∧ co b = nI o) ∧ mo b = co b ∧ md b = cd b
def IBy (nb : Nat) (cs cy my : Nat → Int32) : Prop := (∀ j, j < 6400 → my j = cy j &&& 255 ∧ (cy j).toInt8.toInt32 = cy j) ∧ ∀ b k, b < 100 → k < 64 → (nb ≤ b ∨ cs b ≤ nI k) → cy (64 * b + k) = 0
def IGr (n nb : Nat) (cb cg mg : Nat → Int32) : Prop := (∀ b, nb ≤ b → b < 100 → cg b = -1) ∧ ∀ f, f < n → ∀ b, b < nb → cb f = nI b → cg b = mg b
def IWi (nf w : Nat) (cw cf mw mf : Nat → Int32) : Prop := ∀ i, i < w → ∃ t, t ≤ 5 ∧ cw i = nI t ∧ mw i = nI t ∧ (t = 0 → ∃ d, d < nf ∧ cf i = nI d ∧ mf i = nI d) ∧ (t ≠ 0 → cf i = -1)
def ILe (cl ml : Nat → Int32) : Prop := ∀ o p, o < 8 → p < 8 → cl (8 * o + p) = (ml o >>> (nI p &&& 31)) &&& 1
def rowp (row : Nat → Int32) : Nat → Bool := fun f => decide (¬ row f = -1)
def IRow (n : Nat) (row : Nat → Int32) (m : Nat) (mm mf mo : Nat → Int32) : Prop :=
  (∀ f, f < 60 → row f = -1 ∨ (f < n ∧ ∃ o, o < 8 ∧ row f = nI o)) ∧ mm m = nI (ct (rowp row) 60) ∧ ∀ f, f < 60 → ¬ row f = -1 → mf (60 * m + ct (rowp row) f) = nI f ∧ mo (60 * m + ct (rowp row) f) = row f
def IMe (n nb q lt : Nat) (cb : Nat → Int32) (cr : Nat → Nat → Int32) (mm mt mf mo : Nat → Int32) : Prop :=
  ∀ i, i < q → (∃ b, b < nb ∧ cb ((lt + 20 - i) % 20) = nI b ∧ mt (q - 1 - i) = nI b) ∧ IRow n (cr ((lt + 20 - i) % 20)) (q - 1 - i) mm mf mo
def ICt (nf n nb w q lt : Nat) (μ : Mem) : Prop :=
  (μ 1 3 = nI nf ∧ μ 31 1 = nI nf ∧ 1 ≤ nf ∧ nf ≤ 16) ∧ (μ 2 4 = nI n ∧ μ 31 2 = nI n ∧ n ≤ 60) ∧ (μ 3 4 = nI nb ∧ μ 31 3 = nI nb ∧ nb ≤ 100) ∧ (μ 7 2 = nI w ∧ μ 31 8 = nI w ∧ w ≤ 3) ∧
  (μ 8 3 = nI q ∧ μ 31 23 = nI q ∧ q ≤ 20 ∧ μ 8 2 = nI lt ∧ lt < 20) ∧ (μ 0 10 = μ 31 4 ∧ μ 0 11 = μ 31 5 ∧ μ 4 3 = μ 31 6 ∧ μ 4 4 = μ 31 7)
def Inv (nf n nb w q lt : Nat) (μ : Mem) : Prop :=
  ICt nf n nb w q lt μ ∧ IFo nf (μ 11) (μ 12) (μ 13) (μ 32) (μ 33) ∧ IFi nf n nb (μ 14) (μ 15) (μ 16) (μ 34) (μ 35) (μ 36) ∧ IHe (μ 17) (μ 37) ∧ IBo (μ 19) (μ 20) (μ 21) (μ 38) (μ 39) (μ 40) ∧
  IBy nb (μ 19) (μ 18) (μ 42) ∧ IGr n nb (μ 16) (μ 22) (μ 41) ∧ IWi nf w (μ 27) (μ 28) (μ 43) (μ 44) ∧ ILe (μ 9) (μ 45) ∧ IMe n nb q lt (μ 29) (fun r => μ (r + 57)) (μ 46) (μ 47) (μ 48) (μ 49)
def InvE (μ : Mem) : Prop := ∃ nf n nb w q lt, Inv nf n nb w q lt μ
/-- cells that the relation speaks of -/
def rlv (k j : Nat) : Prop := (k = 0 ∧ (j = 10 ∨ j = 11)) ∨ (k = 1 ∧ j = 3) ∨ (k = 2 ∧ j = 4) ∨ (k = 3 ∧ j = 4) ∨ (k = 4 ∧ (j = 3 ∨ j = 4)) ∨ (k = 7 ∧ j = 2) ∨ (k = 8 ∧ (j = 2 ∨ j = 3)) ∨ k = 9 ∨ (11 ≤ k ∧ k ≤ 22) ∨ (27 ≤ k ∧ k ≤ 29) ∨ (k = 31 ∧ 1 ≤ j) ∨ (32 ≤ k ∧ k ≤ 49) ∨ 57 ≤ k
/-- two memories that agree there -/
def Sim (μ μ' : Mem) : Prop := ∀ k j, rlv k j → μ' k j = μ k j
theorem Sim.rf (μ : Mem) : Sim μ μ := fun _ _ _ => rfl
theorem Sim.tr {a b c : Mem} (h1 : Sim a b) (h2 : Sim b c) : Sim a c := fun k j h => (h2 k j h).trans (h1 k j h)
theorem Sim.wr {μ : Mem} (k j : Nat) (v : Int32) (h : ¬ rlv k j) : Sim μ (wr μ k j v) := fun k' j' h' => by
  rw [wr_eq, if_neg (fun e => h (by rw [← e.1, ← e.2]; exact h'))]
theorem Sim.row {μ μ' : Mem} (h : Sim μ μ') {k : Nat} (hk : ∀ j, rlv k j) : μ' k = μ k := funext fun j => h k j (hk j)
theorem Inv.sim {nf n nb w q lt : Nat} {μ μ' : Mem} (h : Inv nf n nb w q lt μ) (hs : Sim μ μ') : Inv nf n nb w q lt μ' := by
  have hr : ∀ k, (11 ≤ k ∧ k ≤ 22) ∨ (27 ≤ k ∧ k ≤ 29) ∨ (32 ≤ k ∧ k ≤ 49) ∨ 57 ≤ k ∨ k = 9 → μ' k = μ k := fun k hk => hs.row (fun j => by unfold rlv; omega)
  have e1 : (fun r => μ' (r + 57)) = (fun r => μ (r + 57)) := funext fun r => hr (r + 57) (by omega)
  obtain ⟨hc, h⟩ := h
  refine ⟨?_, ?_⟩
  · unfold ICt at hc ⊢
    rw [hs 1 3 (by unfold rlv; omega), hs 31 1 (by unfold rlv; omega), hs 2 4 (by unfold rlv; omega), hs 31 2 (by unfold rlv; omega), hs 3 4 (by unfold rlv; omega), hs 31 3 (by unfold rlv; omega), hs 7 2 (by unfold rlv; omega), hs 31 8 (by unfold rlv; omega), hs 8 3 (by unfold rlv; omega), hs 31 23 (by unfold rlv; omega), hs 8 2 (by unfold rlv; omega), hs 0 10 (by unfold rlv; omega), hs 31 4 (by unfold rlv; omega), hs 0 11 (by unfold rlv; omega), hs 31 5 (by unfold rlv; omega), hs 4 3 (by unfold rlv; omega), hs 31 6 (by unfold rlv; omega), hs 4 4 (by unfold rlv; omega), hs 31 7 (by unfold rlv; omega)]
    exact hc
  · rw [e1, hr 11 (by omega), hr 12 (by omega), hr 13 (by omega), hr 14 (by omega), hr 15 (by omega), hr 16 (by omega), hr 17 (by omega), hr 18 (by omega), hr 19 (by omega), hr 20 (by omega), hr 21 (by omega), hr 22 (by omega), hr 27 (by omega), hr 28 (by omega), hr 29 (by omega), hr 32 (by omega), hr 33 (by omega), hr 34 (by omega), hr 35 (by omega), hr 36 (by omega), hr 37 (by omega), hr 38 (by omega), hr 39 (by omega), hr 40 (by omega), hr 41 (by omega), hr 42 (by omega), hr 43 (by omega), hr 44 (by omega), hr 45 (by omega), hr 46 (by omega), hr 47 (by omega), hr 48 (by omega), hr 49 (by omega), hr 9 (by omega)]
    exact h
