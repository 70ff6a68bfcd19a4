/-- a row with some places written -/
def wby (r : Nat → Int32) (base : Nat) (g : Nat → Int32) (n : Nat) : Nat → Int32 := fun j => if base ≤ j ∧ j < base + n then g (j - base) else r j
theorem wby_0 (r : Nat → Int32) (base : Nat) (g : Nat → Int32) : wby r base g 0 = r := by
  funext j
  unfold wby
  rw [if_neg (by omega)]
theorem wby_s (r : Nat → Int32) (base : Nat) (g : Nat → Int32) (n : Nat) : upd (wby r base g n) (base + n) (g n) = wby r base g (n + 1) := by
  funext j
  unfold upd wby
  by_cases h : j = base + n
  · subst h
    rw [if_pos rfl, if_pos (by omega)]
    congr 1
    omega
  · rw [if_neg h]
    by_cases c : base ≤ j ∧ j < base + n
    · rw [if_pos c, if_pos (by omega)]
    · rw [if_neg c, if_neg (by omega)]
theorem wby_in {r : Nat → Int32} {base n k : Nat} {g : Nat → Int32} (h : k < n) : wby r base g n (base + k) = g k := by
  unfold wby
  rw [if_pos (by omega)]
  congr 1
  omega
theorem wby_out {r : Nat → Int32} {base n j : Nat} {g : Nat → Int32} (h : j < base ∨ base + n ≤ j) : wby r base g n j = r j := by
  unfold wby
  rw [if_neg (by omega)]
theorem wrow_r (μ : Mem) (k : Nat) (r : Nat → Int32) : wrow μ k r k = r := if_pos rfl
theorem wrow_n {μ : Mem} {k k' : Nat} {r : Nat → Int32} (h : k' ≠ k) : wrow μ k r k' = μ k' := if_neg h
theorem wrowA (μ : Mem) (k : Nat) (r : Nat → Int32) (k' : Nat) : wrow μ k r k' = if k' = k then r else μ k' := rfl
theorem wr_wrow (μ : Mem) (k j : Nat) (r : Nat → Int32) (v : Int32) : wr (wrow μ k r) k j v = wrow μ k (upd r j v) := by
  funext k'
  rw [wrA]
  by_cases h : k' = k
  · subst h
    rw [if_pos rfl, wrow_r, wrow_r]
  · rw [if_neg h, wrow_n h, wrow_n h]
theorem wrow_id (μ : Mem) (k : Nat) : wrow μ k (μ k) = μ := by
  funext k'
  rw [wrowA]
  by_cases h : k' = k
  · rw [if_pos h, h]
  · rw [if_neg h]
theorem IBy.write {nb b p s n : Nat} {cs cy my g g' : Nat → Int32} (h : IBy nb cs cy my) (hb : b < nb) (hnb : nb ≤ 100) (hs : cs b = nI s) (hs2 : s ≤ 64) (hp : p + n ≤ s) (hg : ∀ k, k < n → g' k = g k &&& 255 ∧ (g k).toInt8.toInt32 = g k) : IBy nb cs (wby cy (64 * b + p) g n) (wby my (64 * b + p) g' n) := by
  refine ⟨fun j hj => ?_, fun b' k hb' hk c => ?_⟩
  · unfold wby
    by_cases c : 64 * b + p ≤ j ∧ j < 64 * b + p + n
    · rw [if_pos c, if_pos c]
      exact hg _ (by omega)
    · rw [if_neg c, if_neg c]
      exact h.1 j hj
  · have hout : 64 * b' + k < 64 * b + p ∨ 64 * b + p + n ≤ 64 * b' + k := by
      rcases Nat.lt_trichotomy b' b with z | z | z
      · omega
      · subst z
        rcases c with c | c
        · omega
        · rw [hs] at c
          have := (nI_leI (by omega) (by omega)).mp c
          omega
      · omega
    rw [wby_out hout]
    exact h.2 b' k hb' hk c
theorem IBy.copy {nb b s : Nat} {cs cy my : Nat → Int32} (h : IBy nb cs cy my) (hb : b < nb) (hnb : nb < 100) (hs : cs b = nI s) (hs2 : s ≤ 64) : IBy (nb + 1) (upd cs nb (nI s)) (wby cy (64 * nb) (fun k => cy (64 * b + k)) s) (wby my (64 * nb) (fun k => my (64 * b + k)) 64) := by
  refine ⟨fun j hj => ?_, fun b' k hb' hk c => ?_⟩
  · by_cases c : 64 * nb ≤ j ∧ j < 64 * nb + 64
    · obtain ⟨k, rfl⟩ : ∃ k, j = 64 * nb + k := ⟨j - 64 * nb, by omega⟩
      rw [wby_in (by omega)]
      rcases Nat.lt_or_ge k s with z | z
      · rw [wby_in z]
        exact h.1 (64 * b + k) (by omega)
      · rw [wby_out (by omega)]
        have e1 := h.2 b k (by omega) (by omega) (Or.inr (by rw [hs]; exact nI_le z (by omega)))
        have e2 := h.2 nb k (by omega) (by omega) (Or.inl (Nat.le_refl _))
        have := h.1 (64 * b + k) (by omega)
        rw [e1] at this
        rw [e2, this.1]
        exact ⟨rfl, rfl⟩
    · rw [wby_out (by omega), wby_out (by omega)]
      exact h.1 j hj
  · by_cases e : b' = nb
    · subst e
      rcases c with c | c
      · omega
      · rw [up_s] at c
        have := (nI_leI (by omega) (by omega)).mp c
        rw [wby_out (by omega)]
        exact h.2 b' k hb' hk (Or.inl (Nat.le_refl _))
    · rw [up_n e] at c
      rw [wby_out (by omega)]
      refine h.2 b' k hb' hk ?_
      rcases c with c | c
      · exact Or.inl (by omega)
      · exact Or.inr c
theorem IBo.day {cs co cd ms mo md : Nat → Int32} {b : Nat} {z : Int32} (h : IBo cs co cd ms mo md) : IBo cs co (upd cd b z) ms mo (upd md b z) := fun k hk => by
  by_cases c : k = b
  · subst c
    rw [up_s, up_s]
    obtain ⟨a1, a2, a3, a4, -⟩ := h k hk
    exact ⟨a1, a2, a3, a4, rfl⟩
  · rw [up_n c, up_n c]
    exact h k hk
theorem IGr.wrt {n nb b : Nat} {cb cg mg : Nat → Int32} (h : IGr n nb cb cg mg) : IGr n nb cb (upd cg b (-1)) (upd mg b (-1)) := by
  refine ⟨fun c h1 h2 => ?_, fun f hf c hc e => ?_⟩
  · by_cases z : c = b
    · rw [z, up_s]
    · rw [up_n z]; exact h.1 c h1 h2
  · by_cases z : c = b
    · rw [z, up_s, up_s]
    · rw [up_n z, up_n z]; exact h.2 f hf c hc e
theorem nIm (a b : Nat) : nI a * (64 : Int32) + nI b = nI (64 * a + b) := by
  rw [show (64 : Int32) = nI 64 from rfl, pk_mul, nI_add]
  congr 1
  omega
theorem nIm' (a b : Nat) : (64 : Int32) * nI a + nI b = nI (64 * a + b) := by
  rw [show (64 : Int32) = nI 64 from rfl, pk_mul, nI_add]
theorem s_noteWritten {post : Mem → Prop} {μ : Mem} {b : Nat} (hb : b < 100) (h : post (wr (wr μ 21 b (μ 0 10)) 22 b (-1))) : w_X7_noteWritten post (nI b) μ := by
  unfold w_X7_noteWritten
  rw [ix_n (by omega)]
  refine ⟨vp_in_nI hb (by decide), fun m1 e1 => ⟨vp_in_nI hb (by decide), fun m2 e2 => ?_⟩⟩
  rw [e2, e1]
  exact h
theorem s_isWritten {post : Mem → Prop} {μ : Mem} {b : Nat} (hb : b < 100) (h : post (wr (wr μ 40 b (μ 31 4)) 41 b (-1))) : w_X8_isWritten post (nI b) μ := by
  unfold w_X8_isWritten
  rw [ix_n (by omega)]
  refine ⟨vp_in_nI hb (by decide), fun m1 e1 => ⟨vp_in_nI hb (by decide), fun m2 e2 => ?_⟩⟩
  rw [e2, e1]
  exact h
/-- the four bytes of a write, as the class and as the reference put them -/
def wg (v : Int32) (k : Nat) : Int32 := (v >>> (((8 : Int32) * ((3 : Int32) - nI k)) &&& 31)).toInt8.toInt32
def wg' (v : Int32) (k : Nat) : Int32 := (v >>> (((24 : Int32) - ((8 : Int32) * nI k)) &&& 31)) &&& (255 : Int32)
theorem wg_eq (v : Int32) {k : Nat} (hk : k < 4) : wg' v k = wg v k &&& 255 ∧ (wg v k).toInt8.toInt32 = wg v k := by
  unfold wg wg'
  rw [by_1, by_2]
  refine ⟨?_, rfl⟩
  have : (((24 : Int32) - ((8 : Int32) * nI k)) &&& 31) = (((8 : Int32) * ((3 : Int32) - nI k)) &&& 31) := by
    have : ∀ k : Fin 4, (((24 : Int32) - ((8 : Int32) * nI k.val)) &&& 31) = (((8 : Int32) * ((3 : Int32) - nI k.val)) &&& 31) := by decide +kernel
    exact this ⟨k, hk⟩
  rw [this]
theorem s_write_c {post : Int32 → Mem → Prop} {xq : XP} {v : Int32} {μ : Mem} {b p : Nat} (hb : b < 100) (hp : p + 4 ≤ 64) (h : w_X7_noteWritten (fun (μ4 : Mem) => w_X1_having (fun (r6 : Int32) (μ5 : Mem) => post (r6 - (1 : Int32)) μ5) (nI b) μ4) (nI b) (wrow μ 18 (wby (μ 18) (64 * b + p) (wg v) 4))) : ∃ n : Nat, itr (fun _ _ _ _ _ => False) (w_X7_write_b49 post xq) n (nI p) v (nI b) (0 : Int32) μ := by
  refine wl4 (fun x y z t m => x = nI p ∧ y = v ∧ z = nI b ∧ ∃ i, i ≤ 4 ∧ t = nI i ∧ m = wrow μ 18 (wby (μ 18) (64 * b + p) (wg v) i)) (fun _ _ _ t _ => 4 - ix t) ?_ _ _ _ _ _ ⟨rfl, rfl, rfl, 0, by omega, rfl, by rw [wby_0, wrow_id]⟩
  rintro k x y z t m ⟨rfl, rfl, rfl, i, hi, rfl, rfl⟩ hk
  unfold w_X7_write_b49 w_X0_put
  refine pk_le 4 i (fun h4 => ?_) (fun h4 => ?_) rfl rfl (by omega) (by omega)
  · rw [show i = 4 by omega]; exact h
  · rw [nI_add, nIm]
    refine ⟨vp_in_nI (by omega) (by decide), fun m1 e1 => ?_⟩
    rw [ix_n (by omega), wr_wrow, ← Nat.add_assoc, by_1] at e1
    refine hk _ _ _ _ _ ⟨rfl, rfl, rfl, i + 1, by omega, nIs i, ?_⟩ (by rw [nIs, ix_n (by omega), ix_n (by omega)]; omega)
    rw [e1, ← wby_s]
    rfl
theorem s_write_m {post : Int32 → Mem → Prop} {v a : Int32} {μ : Mem} {b p : Nat} (hb : b < 100) (hp : p + 4 ≤ 64) (h : w_X8_isWritten (fun (μ6 : Mem) => w_X8_others (fun (r8 : Int32) (μ7 : Mem) => post r8 μ7) a μ6) (nI b) (wrow μ 42 (wby (μ 42) (64 * b + p) (wg' v) 4))) : ∃ n : Nat, itr (fun _ _ _ _ _ _ => False) (w_X8_write_b55 post) n a (nI p) v (nI b) (0 : Int32) μ := by
  refine wl5 (fun u x y z t m => u = a ∧ x = nI p ∧ y = v ∧ z = nI b ∧ ∃ i, i ≤ 4 ∧ t = nI i ∧ m = wrow μ 42 (wby (μ 42) (64 * b + p) (wg' v) i)) (fun _ _ _ _ t _ => 4 - ix t) ?_ _ _ _ _ _ _ ⟨rfl, rfl, rfl, rfl, 0, by omega, rfl, by rw [wby_0, wrow_id]⟩
  rintro k u x y z t m ⟨rfl, rfl, rfl, rfl, i, hi, rfl, rfl⟩ hk
  unfold w_X8_write_b55
  refine pk_le 4 i (fun h4 => ?_) (fun h4 => ?_) rfl rfl (by omega) (by omega)
  · rw [show i = 4 by omega]; exact h
  · rw [nIm', nI_add]
    refine ⟨vp_in_nI (by omega) (by decide), fun m1 e1 => ?_⟩
    rw [ix_n (by omega), wr_wrow] at e1
    refine hk _ _ _ _ _ _ ⟨rfl, rfl, rfl, rfl, i + 1, by omega, nIs i, ?_⟩ (by rw [nIs, ix_n (by omega), ix_n (by omega)]; omega)
    rw [e1, ← wby_s]
    rfl
theorem s_fill_c {post : Int32 → Mem → Prop} {xq : XP} {v : Int32} {μ : Mem} {b p z : Nat} (hb : b < 100) (hp : p ≤ z) (hz : z ≤ 64) (h : ((nI z ≤ nI p) → (w_X7_fill_b88 post xq (nI b) (wrow μ 18 (wby (μ 18) (64 * b + p) (fun _ => v.toInt8.toInt32) (z - p))))) ∧ ((¬ nI z ≤ nI p) → (w_X7_noteWritten (fun (μ6 : Mem) => w_X7_fill_b88 post xq (nI b) μ6) (nI b) (wrow μ 18 (wby (μ 18) (64 * b + p) (fun _ => v.toInt8.toInt32) (z - p)))))) : ∃ n : Nat, itr (fun _ _ _ _ _ _ => False) (w_X7_fill_b52 post xq) n (nI p) (nI z) v (nI b) (nI p) μ := by
  refine wl5 (fun x y u s t m => x = nI p ∧ y = nI z ∧ u = v ∧ s = nI b ∧ ∃ i, p ≤ i ∧ i ≤ z ∧ t = nI i ∧ m = wrow μ 18 (wby (μ 18) (64 * b + p) (fun _ => v.toInt8.toInt32) (i - p))) (fun _ _ _ _ t _ => z - ix t) ?_ _ _ _ _ _ _ ⟨rfl, rfl, rfl, rfl, p, by omega, hp, rfl, by rw [Nat.sub_self, wby_0, wrow_id]⟩
  rintro k x y u s t m ⟨rfl, rfl, rfl, rfl, i, hi0, hi, rfl, rfl⟩ hk
  unfold w_X7_fill_b52 w_X0_put
  refine pk_le z i (fun h4 => ?_) (fun h4 => ?_) rfl rfl (by omega) (by omega)
  · rw [show i = z by omega]; exact h
  · rw [nIm]
    refine ⟨vp_in_nI (by omega) (by decide), fun m1 e1 => ?_⟩
    rw [ix_n (by omega), wr_wrow, by_1] at e1
    refine hk _ _ _ _ _ _ ⟨rfl, rfl, rfl, rfl, i + 1, by omega, by omega, nIs i, ?_⟩ (by rw [nIs, ix_n (by omega), ix_n (by omega)]; omega)
    rw [e1, show i + 1 - p = (i - p) + 1 by omega, ← wby_s, show 64 * b + p + (i - p) = 64 * b + i by omega]
theorem s_fill_m {post : Int32 → Mem → Prop} {v a : Int32} {μ : Mem} {b p z : Nat} (hb : b < 100) (hp : p ≤ z) (hz : z ≤ 64) (h : ((nI z ≤ nI p) → (w_X8_fill_b100 post a (wrow μ 42 (wby (μ 42) (64 * b + p) (fun _ => v &&& 255) (z - p))))) ∧ ((¬ nI z ≤ nI p) → (w_X8_isWritten (fun (μ6 : Mem) => w_X8_fill_b100 post a μ6) (nI b) (wrow μ 42 (wby (μ 42) (64 * b + p) (fun _ => v &&& 255) (z - p)))))) : ∃ n : Nat, itr (fun _ _ _ _ _ _ _ => False) (w_X8_fill_b58 post) n a (nI p) (nI z) v (nI b) (nI p) μ := by
  refine wl6 (fun w x y u s t m => w = a ∧ x = nI p ∧ y = nI z ∧ u = v ∧ s = nI b ∧ ∃ i, p ≤ i ∧ i ≤ z ∧ t = nI i ∧ m = wrow μ 42 (wby (μ 42) (64 * b + p) (fun _ => v &&& 255) (i - p))) (fun _ _ _ _ _ t _ => z - ix t) ?_ _ _ _ _ _ _ _ ⟨rfl, rfl, rfl, rfl, rfl, p, by omega, hp, rfl, by rw [Nat.sub_self, wby_0, wrow_id]⟩
  rintro k w x y u s t m ⟨rfl, rfl, rfl, rfl, rfl, i, hi0, hi, rfl, rfl⟩ hk
  unfold w_X8_fill_b58
  refine pk_le z i (fun h4 => ?_) (fun h4 => ?_) rfl rfl (by omega) (by omega)
  · rw [show i = z by omega]; exact h
  · rw [nIm']
    refine ⟨vp_in_nI (by omega) (by decide), fun m1 e1 => ?_⟩
    rw [ix_n (by omega), wr_wrow] at e1
    refine hk _ _ _ _ _ _ _ ⟨rfl, rfl, rfl, rfl, rfl, i + 1, by omega, by omega, nIs i, ?_⟩ (by rw [nIs, ix_n (by omega), ix_n (by omega)]; omega)
    rw [e1, show i + 1 - p = (i - p) + 1 by omega, ← wby_s, show 64 * b + p + (i - p) = 64 * b + i by omega]
theorem s_fillsFrom {post : Mem → Prop} {μ : Mem} {t f : Nat} (ht : t < 100) (hf : f < 100) (hne : t ≠ f) (h : post (wrow μ 42 (wby (μ 42) (64 * t) (fun k => μ 42 (64 * f + k)) 64))) : w_X8_fillsFrom post (nI t) (nI f) μ := by
  unfold w_X8_fillsFrom
  refine wl3 (fun x y z m => x = nI t ∧ y = nI f ∧ ∃ i, i ≤ 64 ∧ z = nI i ∧ m = wrow μ 42 (wby (μ 42) (64 * t) (fun k => μ 42 (64 * f + k)) i)) (fun _ _ z _ => 64 - ix z) ?_ _ _ _ _ ⟨rfl, rfl, 0, by omega, rfl, by rw [wby_0, wrow_id]⟩
  rintro k x y z m ⟨rfl, rfl, i, hi, rfl, rfl⟩ hk
  unfold w_X8_fillsFrom_b2
  refine pk_le 64 i (fun h4 => ?_) (fun h4 => ?_) rfl rfl (by omega) (by omega)
  · rw [show i = 64 by omega]; exact h
  · rw [nIm', nIm']
    refine ⟨vp_in_nI (by omega) (by decide), vp_in_nI (by omega) (by decide), fun m1 e1 => ?_⟩
    rw [ix_n (by omega), ix_n (by omega), wr_wrow, wrow_r, wby_out (by omega)] at e1
    refine hk _ _ _ _ ⟨rfl, rfl, i + 1, by omega, nIs i, ?_⟩ (by rw [nIs, ix_n (by omega), ix_n (by omega)]; omega)
    rw [e1, ← wby_s]
theorem s_makeLike {post : Int32 → Mem → Prop} {μ : Mem} {x y : Int32} {nb b s : Nat} (h1 : μ 3 4 = nI nb) (hnb : nb < 100) (hb : b < nb) (hs : μ 19 b = nI s) (hs2 : s ≤ 64) (hby : ∀ j, j < 6400 → (μ 18 j).toInt8.toInt32 = μ 18 j) (h : post (nI nb) (wrow (wr (wr (wr (wr μ 3 4 (nI (nb + 1))) 19 nb (nI s)) 20 nb x) 21 nb y) 18 (wby (μ 18) (64 * nb) (fun k => μ 18 (64 * b + k)) s))) : w_X0_makeLike post (nI b) x y μ := by
  unfold w_X0_makeLike
  rw [ix_n (by omega), hs]
  refine ⟨vp_in_nI (by omega) (by decide), s_X0_make h1 hnb ⟨vp_in_nI (by omega) (by decide), ?_⟩⟩
  have e19 : wr (wr (wr (wr μ 3 4 (nI (nb + 1))) 19 nb (nI s)) 20 nb x) 21 nb y 19 b = nI s := by
    simp only [wrA, Nat.reduceEqDiff, reduceIte]
    rw [up_n (by omega)]
    exact hs
  have e18 : wr (wr (wr (wr μ 3 4 (nI (nb + 1))) 19 nb (nI s)) 20 nb x) 21 nb y 18 = μ 18 := by
    simp only [wrA, Nat.reduceEqDiff, reduceIte]
  rw [e19, e18, show (64 : Int32) = nI 64 from rfl, pk_mul, pk_mul, ix_n (by omega), ix_n (by omega), ix_n (by omega)]
  refine ⟨⟨nI_neg (by omega), nI_neg (by omega), nI_neg (by omega), by omega, by omega, fun i hi => ?_⟩, fun m1 e1 => ?_⟩
  · rw [← hby (b * 64 + i) (by omega)]
    exact pk_fb _
  · rw [e1]
    have : va_cpy (μ 18) (μ 18) (b * 64) (nb * 64) s = wby (μ 18) (64 * nb) (fun k => μ 18 (64 * b + k)) s := by
      funext j
      unfold va_cpy wby
      rw [Nat.mul_comm nb 64, Nat.mul_comm b 64]
    rw [this]
    exact h
