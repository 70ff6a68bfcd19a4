/-! merging: the reference; the mergings kept -/
def sh1 (q : Nat) (r : Nat → Int32) : Nat → Int32 := if q < 20 then r else wby r 0 (fun j => r (j + 1)) 19
def sh60 (q : Nat) (r : Nat → Int32) : Nat → Int32 := if q < 20 then r else wby r 0 (fun j => r (j + 60)) 1140
def q1 (q : Nat) : Nat := if q < 20 then q else 19
theorem wby_s0 (r g : Nat → Int32) (n : Nat) : upd (wby r 0 g n) n (g n) = wby r 0 g (n + 1) := by
  have := wby_s r 0 g n
  rw [Nat.zero_add] at this
  exact this
theorem nIm60 (a b : Nat) : (60 : Int32) * nI a + nI b = nI (60 * a + b) := by
  rw [show (60 : Int32) = nI 60 from rfl, pk_mul, nI_add]
theorem s_keeps_1 {post : Mem → Prop} {m : Mem} {b0 c q : Nat} (hq : q < 20) (h23 : m 31 23 = nI q) (hc : c ≤ 60) (hp : ∀ m', (∀ k, k ≠ 31 → k ≠ 46 → k ≠ 47 → k ≠ 48 → k ≠ 49 → m' k = m k) → (∀ j, j ≠ 23 → m' 31 j = m 31 j) → m' 31 23 = nI (q + 1) → m' 46 = upd (m 46) q (nI c) → m' 47 = upd (m 47) q (nI b0) → m' 48 = wby (m 48) (60 * q) (m 54) c → m' 49 = wby (m 49) (60 * q) (m 55) c → post m') : w_X8_keeps_b131 post (nI b0) (nI c) m := by
  unfold w_X8_keeps_b131
  have hin : vp_in (nI q) 20 := vp_in_nI hq (by decide)
  rw [h23, ix_n (by omega)]
  refine ⟨hin, fun y1 g1 => ?_⟩
  rw [show y1 31 23 = nI q by rw [g1, wrA, if_neg (by decide)]; exact h23, ix_n (by omega)]
  refine ⟨hin, fun y2 g2 => ?_⟩
  refine wl2 (fun x y M => x = nI c ∧ ∃ i, i ≤ c ∧ y = nI i ∧ (∀ k, k ≠ 48 → k ≠ 49 → M k = y2 k) ∧ M 48 = wby (m 48) (60 * q) (m 54) i ∧ M 49 = wby (m 49) (60 * q) (m 55) i) (fun _ y _ => c - ix y) ?_ _ _ _ ⟨rfl, 0, by omega, rfl, fun k _ _ => rfl, by rw [wby_0, g2, wrA, if_neg (by decide), g1, wrA, if_neg (by decide)], by rw [wby_0, g2, wrA, if_neg (by decide), g1, wrA, if_neg (by decide)]⟩
  rintro k x y M ⟨rfl, i, hi, rfl, MO, M48, M49⟩ hk
  have e0 : ∀ k, k ≠ 46 → k ≠ 47 → k ≠ 48 → k ≠ 49 → M k = m k := fun k k1 k2 k3 k4 => by rw [MO k k3 k4, g2, wrA, if_neg k2, g1, wrA, if_neg k1]
  have e31 : M 31 = m 31 := e0 31 (by decide) (by decide) (by decide) (by decide)
  unfold w_X8_keeps_b153
  refine pk_le c i (fun z => ?_) (fun z => ?_) rfl rfl (by omega) (by omega)
  · have : i = c := by omega
    subst this
    rw [e31, h23, nIs]
    intro y7 g7
    refine hp y7 (fun k k1 k2 k3 k4 k5 => by rw [g7, wrA, if_neg k1]; exact e0 k k2 k3 k4 k5) (fun j hj => by rw [g7, wrA, if_pos rfl, updA, if_neg hj, e31]) (by rw [g7, wrA, if_pos rfl, updA, if_pos rfl]) ?_ ?_ (by rw [g7, wrA, if_neg (by decide)]; exact M48) (by rw [g7, wrA, if_neg (by decide)]; exact M49)
    · rw [g7, wrA, if_neg (by decide), MO 46 (by decide) (by decide), g2, wrA, if_neg (by decide), g1, wrA, if_pos rfl]
    · rw [g7, wrA, if_neg (by decide), MO 47 (by decide) (by decide), g2, wrA, if_pos rfl, g1, wrA, if_neg (by decide)]
  · have hi60 : vp_in (nI i) 60 := vp_in_nI (by omega) (by decide)
    have hix : vp_in (nI (60 * q + i)) 1200 := vp_in_nI (by omega) (by decide)
    rw [e31, h23, nIm60, ix_n (by omega), ix_n (by omega)]
    refine ⟨hi60, hix, fun y3 g3 => ⟨hi60, ?_⟩⟩
    rw [show y3 31 23 = nI q by rw [g3, wrA, if_neg (by decide), e31]; exact h23, nIm60, ix_n (by omega)]
    refine ⟨hix, fun y4 g4 => hk _ _ _ ⟨rfl, i + 1, by omega, nIs i, fun k k1 k2 => by rw [g4, wrA, if_neg k2, g3, wrA, if_neg k1]; exact MO k k1 k2, ?_, ?_⟩ (by rw [nIs, ix_n (by omega), ix_n (by omega)]; omega)⟩
    · rw [g4, wrA, if_neg (by decide), g3, wrA, if_pos rfl, M48, e0 54 (by decide) (by decide) (by decide) (by decide), wby_s]
    · rw [g4, wrA, if_pos rfl, g3, wrA, if_neg (by decide), wrA, if_neg (by decide), M49, e0 55 (by decide) (by decide) (by decide) (by decide), wby_s]
theorem s_keeps {post : Mem → Prop} {m : Mem} {b0 c q : Nat} (hq : q ≤ 20) (h23 : m 31 23 = nI q) (hc : c ≤ 60) (hp : ∀ m', (∀ k, k ≠ 31 → k ≠ 46 → k ≠ 47 → k ≠ 48 → k ≠ 49 → m' k = m k) → (∀ j, j ≠ 23 → m' 31 j = m 31 j) → m' 31 23 = nI (q1 q + 1) → m' 46 = upd (sh1 q (m 46)) (q1 q) (nI c) → m' 47 = upd (sh1 q (m 47)) (q1 q) (nI b0) → m' 48 = wby (sh60 q (m 48)) (60 * q1 q) (m 54) c → m' 49 = wby (sh60 q (m 49)) (60 * q1 q) (m 55) c → post m') : w_X8_keeps post (nI b0) (nI c) m := by
  unfold w_X8_keeps
  refine And.symm (pk_eq q 20 (fun z => ?_) (fun z => ?_) h23 rfl (by omega) (by omega))
  · subst z
    unfold q1 sh1 sh60 at hp
    simp only [if_neg (show ¬ (20 : Nat) < 20 by decide)] at hp
    refine wl3 (fun x y z M => x = nI b0 ∧ y = nI c ∧ ∃ i, i ≤ 19 ∧ z = nI i ∧ (∀ k, k ≠ 46 → k ≠ 47 → k ≠ 48 → k ≠ 49 → M k = m k) ∧ M 46 = wby (m 46) 0 (fun j => m 46 (j + 1)) i ∧ M 47 = wby (m 47) 0 (fun j => m 47 (j + 1)) i ∧ M 48 = wby (m 48) 0 (fun j => m 48 (j + 60)) (60 * i) ∧ M 49 = wby (m 49) 0 (fun j => m 49 (j + 60)) (60 * i)) (fun _ _ z _ => 19 - ix z) ?_ _ _ _ _ ⟨rfl, rfl, 0, by omega, rfl, fun k _ _ _ _ => rfl, by rw [wby_0], by rw [wby_0], by rw [wby_0], by rw [wby_0]⟩
    rintro k x y z M ⟨rfl, rfl, i, hi, rfl, MO, M46, M47, M48, M49⟩ hk
    unfold w_X8_keeps_b11
    refine pk_le 19 i (fun z => ?_) (fun z => ?_) rfl rfl (by omega) (by omega)
    · have : i = 19 := by omega
      subst this
      intro y1 g1
      rw [show M 31 23 = nI 20 by rw [MO 31 (by decide) (by decide) (by decide) (by decide)]; exact h23, show nI 20 - (1 : Int32) = nI 19 from rfl] at g1
      have e0 : ∀ k, k ≠ 31 → y1 k = M k := fun k hk => by rw [g1, wrA, if_neg hk]
      refine s_keeps_1 (q := 19) (by decide) (by rw [g1, wrA, if_pos rfl, updA, if_pos rfl]) hc (fun m' r1 r2 r3 r4 r5 r6 r7 => hp m' (fun k k1 k2 k3 k4 k5 => ?_) (fun j hj => ?_) r3 ?_ ?_ ?_ ?_)
      · rw [r1 k k1 k2 k3 k4 k5, e0 k k1]; exact MO k k2 k3 k4 k5
      · rw [r2 j hj, g1, wrA, if_pos rfl, updA, if_neg hj, MO 31 (by decide) (by decide) (by decide) (by decide)]
      · rw [r4, e0 46 (by decide), M46]
      · rw [r5, e0 47 (by decide), M47]
      · rw [r6, e0 48 (by decide), M48, e0 54 (by decide), MO 54 (by decide) (by decide) (by decide) (by decide)]
      · rw [r7, e0 49 (by decide), M49, e0 55 (by decide), MO 55 (by decide) (by decide) (by decide) (by decide)]
    · have hin : vp_in (nI i) 20 := vp_in_nI (by omega) (by decide)
      have hin1 : vp_in (nI (i + 1)) 20 := vp_in_nI (by omega) (by decide)
      rw [nIs, ix_n (by omega), ix_n (by omega)]
      refine ⟨hin1, hin, fun y1 g1 => ⟨hin1, hin, fun y2 g2 => ?_⟩⟩
      have a46 : y2 46 = wby (m 46) 0 (fun j => m 46 (j + 1)) (i + 1) := by rw [g2, wrA, if_neg (by decide), g1, wrA, if_pos rfl, M46, wby_out (by omega), wby_s0 (m 46) (fun j => m 46 (j + 1))]
      have a47 : y2 47 = wby (m 47) 0 (fun j => m 47 (j + 1)) (i + 1) := by rw [g2, wrA, if_pos rfl, g1, wrA, if_neg (by decide), M47, wby_out (by omega), wby_s0 (m 47) (fun j => m 47 (j + 1))]
      have a48 : y2 48 = wby (m 48) 0 (fun j => m 48 (j + 60)) (60 * i) := by rw [g2, wrA, if_neg (by decide), g1, wrA, if_neg (by decide), M48]
      have a49 : y2 49 = wby (m 49) 0 (fun j => m 49 (j + 60)) (60 * i) := by rw [g2, wrA, if_neg (by decide), g1, wrA, if_neg (by decide), M49]
      have a0 : ∀ k, k ≠ 46 → k ≠ 47 → k ≠ 48 → k ≠ 49 → y2 k = m k := fun k k1 k2 k3 k4 => by rw [g2, wrA, if_neg k2, g1, wrA, if_neg k1]; exact MO k k1 k2 k3 k4
      clear g1 g2
      refine wl4 (fun x y z u N => x = nI b0 ∧ y = nI c ∧ z = nI i ∧ ∃ t, t ≤ 60 ∧ u = nI t ∧ (∀ k, k ≠ 48 → k ≠ 49 → N k = y2 k) ∧ N 48 = wby (m 48) 0 (fun j => m 48 (j + 60)) (60 * i + t) ∧ N 49 = wby (m 49) 0 (fun j => m 49 (j + 60)) (60 * i + t)) (fun _ _ _ u _ => 60 - ix u) ?_ _ _ _ _ _ ⟨rfl, rfl, rfl, 0, by omega, rfl, fun k _ _ => rfl, a48, a49⟩
      rintro kk x y z u N ⟨rfl, rfl, rfl, t, ht, rfl, NO, N48, N49⟩ hkk
      unfold w_X8_keeps_b48
      refine pk_le 60 t (fun z => ?_) (fun z => ?_) rfl rfl (by omega) (by omega)
      · have : t = 60 := by omega
        subst this
        refine hk _ _ _ _ ⟨rfl, rfl, i + 1, by omega, nIs i, fun k k1 k2 k3 k4 => by rw [NO k k3 k4]; exact a0 k k1 k2 k3 k4, by rw [NO 46 (by decide) (by decide)]; exact a46, by rw [NO 47 (by decide) (by decide)]; exact a47, by rw [N48, show 60 * (i + 1) = 60 * i + 60 by omega], by rw [N49, show 60 * (i + 1) = 60 * i + 60 by omega]⟩ (by rw [nIs, ix_n (by omega), ix_n (by omega)]; omega)
      · have e1 : (60 : Int32) * nI i + (60 : Int32) + nI t = nI (60 * i + t + 60) := by
          rw [show (60 : Int32) * nI i + (60 : Int32) = nI (60 * i + 60) from nIm60 i 60, nI_add]
          congr 1
          omega
        have hA : vp_in (nI (60 * i + t + 60)) 1200 := vp_in_nI (by omega) (by decide)
        have hB : vp_in (nI (60 * i + t)) 1200 := vp_in_nI (by omega) (by decide)
        rw [e1, nIm60, ix_n (by omega), ix_n (by omega)]
        refine ⟨hA, hB, fun y3 g3 => ⟨hA, hB, fun y4 g4 => hkk _ _ _ _ _ ⟨rfl, rfl, rfl, t + 1, by omega, nIs t, fun k k1 k2 => by rw [g4, wrA, if_neg k2, g3, wrA, if_neg k1]; exact NO k k1 k2, ?_, ?_⟩ (by rw [nIs, ix_n (by omega), ix_n (by omega)]; omega)⟩⟩
        · rw [g4, wrA, if_neg (by decide), g3, wrA, if_pos rfl, N48, wby_out (by omega), wby_s0 (m 48) (fun j => m 48 (j + 60)), Nat.add_assoc]
        · rw [g4, wrA, if_pos rfl, g3, wrA, if_neg (by decide), N49, wby_out (by omega), wby_s0 (m 49) (fun j => m 49 (j + 60)), Nat.add_assoc]
  · have hlt : q < 20 := by omega
    unfold q1 sh1 sh60 at hp
    simp only [if_pos hlt] at hp
    exact s_keeps_1 hlt h23 hc hp
theorem IRow.cong {n m m' : Nat} {row mm mf mo mm' mf' mo' : Nat → Int32} (h : IRow n row m mm mf mo) (h1 : mm' m' = mm m) (h2 : ∀ j, j < 60 → mf' (60 * m' + j) = mf (60 * m + j)) (h3 : ∀ j, j < 60 → mo' (60 * m' + j) = mo (60 * m + j)) : IRow n row m' mm' mf' mo' := by
  refine ⟨h.1, h1.trans h.2.1, fun f hf hr => ?_⟩
  have hle : ct (rowp row) f ≤ f := ct_le _ _
  obtain ⟨a, b⟩ := h.2.2 f hf hr
  rw [h2 _ (by omega), h3 _ (by omega)]
  exact ⟨a, b⟩
theorem IRow.new {n m : Nat} {cb co old mm mf mo : Nat → Int32} {s : Nat → Bool} (hn : n ≤ 60) (ho : ∀ f, f < n → s f = true → ∃ o, o < 8 ∧ co (ix (cb f)) = nI o) (h1 : mm m = nI (ct s n)) (h2 : ∀ f, f < n → s f = true → mf (60 * m + ct s f) = nI f ∧ mo (60 * m + ct s f) = co (ix (cb f))) : IRow n (rwf cb co s n old) m mm mf mo := by
  have hr : ∀ f, f < 60 → (rwf cb co s n old f = -1 ∧ ¬ (f < n ∧ s f = true)) ∨ ((f < n ∧ s f = true) ∧ rwf cb co s n old f = co (ix (cb f)) ∧ ¬ rwf cb co s n old f = -1) := fun f hf => by
    unfold rwf
    rw [if_pos hf]
    by_cases c : f < n ∧ s f = true
    · rw [if_pos c]
      obtain ⟨o, ho1, ho2⟩ := ho f c.1 c.2
      exact Or.inr ⟨c, rfl, by rw [ho2]; exact nI_m1 (by omega)⟩
    · rw [if_neg c]; exact Or.inl ⟨rfl, c⟩
  have hp : ∀ k, k ≤ n → ct (rowp (rwf cb co s n old)) k = ct s k := fun k hk => ct_cong (fun f hf => by
    unfold rowp
    rcases hr f (by omega) with ⟨a, b⟩ | ⟨a, -, b⟩
    · rw [a]
      cases e : s f
      · rfl
      · exact absurd ⟨by omega, e⟩ b
    · rw [decide_eq_true b, a.2])
  have hp60 : ∀ d, n + d ≤ 60 → ct (rowp (rwf cb co s n old)) (n + d) = ct s n := by
    intro d
    induction d with
    | zero => intro _; exact hp n (Nat.le_refl _)
    | succ d ih =>
      intro hd
      rw [← Nat.add_assoc, ct_f, ih (by omega)]
      unfold rowp
      rcases hr (n + d) (by omega) with ⟨a, -⟩ | ⟨a, -⟩
      · rw [a]; rfl
      · omega
  refine ⟨fun f hf => ?_, ?_, fun f hf hne => ?_⟩
  · rcases hr f hf with ⟨a, -⟩ | ⟨a, b, -⟩
    · exact Or.inl a
    · obtain ⟨o, o1, o2⟩ := ho f a.1 a.2
      exact Or.inr ⟨a.1, o, o1, b.trans o2⟩
  · have := hp60 (60 - n) (by omega)
    rw [show n + (60 - n) = 60 by omega] at this
    rw [this]; exact h1
  · rcases hr f hf with ⟨a, -⟩ | ⟨a, b, -⟩
    · exact absurd a hne
    · rw [hp f (by omega), b]
      exact h2 f a.1 a.2
theorem IMe.push {n nb q lt b0 c : Nat} {cb mm mt mf mo S T R : Nat → Int32} {cr cr' : Nat → Nat → Int32} (h : IMe n nb q lt cb cr mm mt mf mo) (hq : q ≤ 20) (hlt : lt < 20) (hb : b0 < nb) (hc : c ≤ 60) (hR : ∀ mm mf mo, mm (q1 q) = nI c → (∀ j, j < c → mf (60 * q1 q + j) = S j ∧ mo (60 * q1 q + j) = T j) → IRow n R (q1 q) mm mf mo) (hr1 : cr' ((lt + 1) % 20) = R) (hr2 : ∀ r, r ≠ (lt + 1) % 20 → cr' r = cr r) : IMe n nb (q1 q + 1) ((lt + 1) % 20) (upd cb ((lt + 1) % 20) (nI b0)) cr' (upd (sh1 q mm) (q1 q) (nI c)) (upd (sh1 q mt) (q1 q) (nI b0)) (wby (sh60 q mf) (60 * q1 q) S c) (wby (sh60 q mo) (60 * q1 q) T c) := by
  have hq1 : q1 q + 1 ≤ 20 := by unfold q1; split <;> omega
  have hq2 : q1 q ≤ q := by unfold q1; split <;> omega
  intro i hi
  have hv : (lt + 1) % 20 < 20 := Nat.mod_lt _ (by decide)
  rcases Nat.eq_zero_or_pos i with z | z
  · subst z
    have e1 : ((lt + 1) % 20 + 20 - 0) % 20 = (lt + 1) % 20 := by omega
    rw [e1, show q1 q + 1 - 1 - 0 = q1 q by omega, up_s, up_s, hr1]
    refine ⟨⟨b0, hb, rfl, rfl⟩, hR _ _ _ (up_s _ _ _) (fun j hj => ⟨wby_in hj, wby_in hj⟩)⟩
  · have e1 : ((lt + 1) % 20 + 20 - i) % 20 = (lt + 20 - (i - 1)) % 20 := by omega
    have e2 : (lt + 20 - (i - 1)) % 20 ≠ (lt + 1) % 20 := by omega
    obtain ⟨⟨b, b1, b2, b3⟩, hrow⟩ := h (i - 1) (by omega)
    rw [e1, up_n e2, hr2 _ e2, up_n (by omega)]
    have idx : q1 q + 1 - 1 - i = q1 q - i := by omega
    have shv : ∀ r : Nat → Int32, sh1 q r (q1 q - i) = r (q - 1 - (i - 1)) := fun r => by
      unfold sh1 q1
      by_cases c : q < 20
      · rw [if_pos c, if_pos c]; congr 1; omega
      · rw [if_neg c, if_neg c]
        have hw := wby_in (r := r) (base := 0) (n := 19) (g := fun j => r (j + 1)) (k := 19 - i) (by omega)
        rw [Nat.zero_add] at hw
        rw [hw]
        congr 1
        omega
    have shv60 : ∀ (r : Nat → Int32) (j : Nat), j < 60 → sh60 q r (60 * (q1 q - i) + j) = r (60 * (q - 1 - (i - 1)) + j) := fun r j hj => by
      unfold sh60 q1
      by_cases c : q < 20
      · rw [if_pos c, if_pos c]; congr 1; omega
      · rw [if_neg c, if_neg c]
        have hw := wby_in (r := r) (base := 0) (n := 1140) (g := fun j => r (j + 60)) (k := 60 * (19 - i) + j) (by omega)
        rw [Nat.zero_add] at hw
        rw [hw]
        congr 1
        omega
    rw [idx, shv]
    refine ⟨⟨b, b1, b2, b3⟩, hrow.cong (by rw [up_n (by omega), shv]) (fun j hj => by rw [wby_out (by omega), shv60 mf j hj]) (fun j hj => by rw [wby_out (by omega), shv60 mo j hj])⟩
/-- the reference's state at the end -/
def MM (μ M : Mem) (s : Nat → Bool) (b0 n nb q : Nat) (m : Mem) : Prop :=
  (∀ k, k ≠ 31 → k ≠ 36 → k ≠ 41 → k ≠ 46 → k ≠ 47 → k ≠ 48 → k ≠ 49 → k ≠ 54 → k ≠ 55 → m k = M k) ∧ (∀ j, j ≠ 5 → j ≠ 23 → m 31 j = M 31 j) ∧ m 31 5 = frd (μ 16) (μ 19) s b0 n (μ 0 11) n ∧ m 36 = gv (μ 36) s b0 n ∧ IGr n nb (gv (μ 16) s b0 n) (μ 22) (m 41) ∧
  (ct s n = 0 → m 31 23 = nI q ∧ m 46 = μ 46 ∧ m 47 = μ 47 ∧ m 48 = μ 48 ∧ m 49 = μ 49) ∧
  (0 < ct s n → m 31 23 = nI (q1 q + 1) ∧ ∃ S T : Nat → Int32, (∀ f, f < n → s f = true → S (ct s f) = nI f ∧ T (ct s f) = μ 20 (ix (μ 16 f))) ∧ m 46 = upd (sh1 q (μ 46)) (q1 q) (nI (ct s n)) ∧ m 47 = upd (sh1 q (μ 47)) (q1 q) (nI b0) ∧ m 48 = wby (sh60 q (μ 48)) (60 * q1 q) S (ct s n) ∧ m 49 = wby (sh60 q (μ 49)) (60 * q1 q) T (ct s n))
theorem s_merge_m {post : Int32 → Mem → Prop} {g : Int32} {μ M : Mem} {nf n nb w q lt b0 y0 : Nat} (hI : Inv nf n nb w q lt μ) (hM : ∀ k, 32 ≤ k → k ≤ 55 → M k = μ k) (hM31 : ∀ j, j ≠ 0 → M 31 j = μ 31 j) (hb0 : b0 < nb) (hy0 : y0 < n) (ey0 : μ 16 y0 = nI b0) (hp : ∀ m, MM μ M (sel μ g b0) b0 n nb q m → post (nI (ct (sel μ g b0) n)) m) : ∃ N : Nat, itr (fun _ _ _ _ _ => False) (w_X8_merge_b36 post) N g (nI b0) (0 : Int32) (0 : Int32) M := by
  obtain ⟨⟨⟨c1, m1, f1, f2⟩, ⟨c2, m2, f3⟩, ⟨c3, m3, f4⟩, ⟨c4, m4, w3⟩, ⟨c5, m5, q20, c6, lt20⟩, hC6⟩, hFo, hFi, hHe, hBo, hBy, hGr, hWi, hLe, hMe⟩ := hI
  obtain ⟨-, -, ⟨o0, ho0, eo0⟩, eMo0, -⟩ := hBo b0 (by omega)
  refine wl4 (fun x y v z m => x = g ∧ y = nI b0 ∧ ∃ f, f ≤ n ∧ z = nI f ∧ v = nI (ct (sel μ g b0) f) ∧ (∀ k, k ≠ 54 → k ≠ 55 → m k = M k) ∧ (∀ x, x < f → sel μ g b0 x = true → m 54 (ct (sel μ g b0) x) = nI x ∧ m 55 (ct (sel μ g b0) x) = μ 20 (ix (μ 16 x)))) (fun _ _ _ z _ => n - ix z) ?_ _ _ _ _ _ ⟨rfl, rfl, 0, by omega, rfl, rfl, fun k _ _ => rfl, fun x hx => absurd hx (Nat.not_lt_zero x)⟩
  rintro k x y v z m ⟨rfl, rfl, f, hf, rfl, rfl, MO, MS⟩ hk
  have hcl : ct (sel μ x b0) f ≤ f := ct_le _ _
  have r : ∀ k, 32 ≤ k → k ≤ 53 → m k = μ k := fun k k1 k2 => (MO k (by omega) (by omega)).trans (hM k k1 (by omega))
  have r31 : ∀ j, j ≠ 0 → m 31 j = μ 31 j := fun j hj => by rw [MO 31 (by decide) (by decide)]; exact hM31 j hj
  unfold w_X8_merge_b36
  refine pk_le n f (fun c => ?_) (fun c => ?_) (by rw [r31 2 (by decide)]; exact m2) rfl (by omega) (by omega)
  · have : f = n := by omega
    subst this
    -- the second loop
    have hcn : ct (sel μ x b0) f ≤ f := hcl
    refine wl3 (fun x' y z m' => x' = nI b0 ∧ y = nI (ct (sel μ x b0) f) ∧ ∃ i, i ≤ ct (sel μ x b0) f ∧ z = nI i ∧ ∃ h, h ≤ f ∧ ct (sel μ x b0) h = i ∧ (∀ k, k ≠ 31 → k ≠ 36 → k ≠ 41 → m' k = m k) ∧ (∀ j, j ≠ 5 → m' 31 j = m 31 j) ∧ m' 31 5 = frd (μ 16) (μ 19) (sel μ x b0) b0 f (μ 0 11) h ∧ m' 36 = gv (μ 36) (sel μ x b0) b0 h ∧ IGr f nb (gv (μ 16) (sel μ x b0) b0 h) (μ 22) (m' 41)) (fun _ _ z _ => ct (sel μ x b0) f - ix z) ?_ _ _ _ _ ⟨rfl, rfl, 0, by omega, rfl, 0, by omega, rfl, fun k _ _ _ => rfl, fun j _ => rfl, by rw [r31 5 (by decide), ← hC6.2.1]; rfl, by rw [r 36 (by decide) (by decide), gv_0], by rw [gv_0, r 41 (by decide) (by decide)]; exact hGr⟩
    rintro kk x' y z m' ⟨rfl, rfl, i, hi, rfl, h, hh, eh, NO, N31, N5, N36, NG⟩ hkk
    unfold w_X8_merge_b153
    refine pk_le (ct (sel μ x b0) f) i (fun c => ?_) (fun c => ?_) rfl rfl (by omega) (by omega)
    · have ei : ct (sel μ x b0) h = ct (sel μ x b0) f := by omega
      obtain ⟨b1, b2⟩ := bet (cb := μ 16) (cs := μ 19) (s := sel μ x b0) (b0 := b0) (n := f) (z := μ 0 11) hh ei
      rw [b2] at N5
      rw [b1] at N36 NG
      have n0 : ∀ k, k ≠ 31 → k ≠ 36 → k ≠ 41 → k ≠ 46 → k ≠ 47 → k ≠ 48 → k ≠ 49 → k ≠ 54 → k ≠ 55 → m' k = M k := fun k k1 k2 k3 _ _ _ _ k8 k9 => (NO k k1 k2 k3).trans (MO k k8 k9)
      have n31 : ∀ j, j ≠ 5 → j ≠ 23 → m' 31 j = M 31 j := fun j j1 _ => by rw [N31 j j1, MO 31 (by decide) (by decide)]
      have e23 : m' 31 23 = nI q := by rw [N31 23 (by decide), r31 23 (by decide)]; exact m5
      have e : ∀ k, 42 ≤ k → k ≤ 53 → m' k = μ k := fun k k1 k2 => by rw [NO k (by omega) (by omega) (by omega)]; exact r k (by omega) k2
      refine pk_le (ct (sel μ x b0) f) 0 (fun c0 => ?_) (fun c0 => ?_) rfl rfl (by omega) (by omega)
      · exact hp m' ⟨n0, n31, N5, N36, NG, fun _ => ⟨e23, e 46 (by decide) (by decide), e 47 (by decide) (by decide), e 48 (by decide) (by decide), e 49 (by decide) (by decide)⟩, fun z => by omega⟩
      · refine s_keeps q20 e23 (by omega) (fun m2 p0 p1 p2 p3 p4 p5 p6 => hp m2 ⟨fun k k1 k2 k3 k4 k5 k6 k7 k8 k9 => (p0 k k1 k4 k5 k6 k7).trans (n0 k k1 k2 k3 k4 k5 k6 k7 k8 k9), fun j j1 j2 => (p1 j j2).trans (n31 j j1 j2), (p1 5 (by decide)).trans N5, (p0 36 (by decide) (by decide) (by decide) (by decide) (by decide)).trans N36, by rw [p0 41 (by decide) (by decide) (by decide) (by decide) (by decide)]; exact NG, fun z => by omega, fun _ => ⟨p2, m' 54, m' 55, fun x2 hx2 hs => ?_, by rw [p3, e 46 (by decide) (by decide)], by rw [p4, e 47 (by decide) (by decide)], by rw [p5, e 48 (by decide) (by decide)], by rw [p6, e 49 (by decide) (by decide)]⟩⟩)
        rw [NO 54 (by decide) (by decide) (by decide), NO 55 (by decide) (by decide) (by decide)]
        exact MS x2 hx2 hs
    · -- one file
      obtain ⟨g0, hg0, sg, eg⟩ := ct_find (s := sel μ x b0) (i := i) c
      have hst : (∀ r, gv r (sel μ x b0) b0 h = gv r (sel μ x b0) b0 g0) ∧ frd (μ 16) (μ 19) (sel μ x b0) b0 f (μ 0 11) h = frd (μ 16) (μ 19) (sel μ x b0) b0 f (μ 0 11) g0 := by
        rcases Nat.le_total h g0 with q | q
        · exact bet q (by omega)
        · have := bet (cb := μ 16) (cs := μ 19) (s := sel μ x b0) (b0 := b0) (n := f) (z := μ 0 11) q (by omega)
          exact ⟨fun r => (this.1 r).symm, this.2.symm⟩
      rw [hst.1] at N36 NG
      rw [hst.2] at N5
      obtain ⟨ha, hne⟩ := sel_al sg
      obtain ⟨bf, hbf, e16, e36⟩ : ∃ bf, bf < nb ∧ μ 16 g0 = nI bf ∧ μ 36 g0 = nI bf := by
        obtain ⟨-, ⟨b, hb, eb⟩, hc⟩ := hFi g0 hg0
        rcases hc with ⟨-, hc⟩ | ⟨-, hc, -⟩
        · exact absurd hc ha
        · exact ⟨b, hb, hc.trans eb, eb⟩
      have e54 : m' 54 i = nI g0 := by rw [NO 54 (by decide) (by decide) (by decide), ← eg]; exact (MS g0 hg0 sg).1
      have hin : vp_in (nI i) 60 := vp_in_nI (by omega) (by decide)
      have hing : vp_in (nI g0) 60 := vp_in_nI (by omega) (by decide)
      rw [ix_n (by omega), e54, ix_n (by omega), N36, gv_at, e36]
      refine ⟨hin, hing, hin, hing, fun y1 g1 => ?_⟩
      have u36 : y1 36 = gv (μ 36) (sel μ x b0) b0 (g0 + 1) := by rw [g1, wrA, if_pos rfl, N36, gv_y sg]
      have u34 : y1 34 = μ 34 := by rw [g1, wrA, if_neg (by decide), NO 34 (by decide) (by decide) (by decide)]; exact r 34 (by decide) (by decide)
      have u31 : ∀ j, y1 31 j = m' 31 j := fun j => by rw [g1, wrA, if_neg (by decide)]
      have uu2 : y1 31 2 = nI f := by rw [u31, N31 2 (by decide), r31 2 (by decide)]; exact m2
      have hFi' := hFi.give (b0 := b0) (f := g0 + 1) (s := sel μ x b0) hb0 (fun x h => (sel_al h).1)
      have hhav : hav (ebd (y1 34) (y1 36)) f (nI bf) = hav (gv (μ 16) (sel μ x b0) b0 (g0 + 1)) f (nI bf) := by rw [u34, u36]; exact hav_cong (hFi'.ebd f2)
      have hle : hav (gv (μ 16) (sel μ x b0) b0 (g0 + 1)) f (nI bf) ≤ f := ct_le _ _
      have efr : frd (μ 16) (μ 19) (sel μ x b0) b0 f (μ 0 11) (g0 + 1) = if hav (gv (μ 16) (sel μ x b0) b0 (g0 + 1)) f (nI bf) = 0 then frd (μ 16) (μ 19) (sel μ x b0) b0 f (μ 0 11) g0 + μ 19 bf else frd (μ 16) (μ 19) (sel μ x b0) b0 f (μ 0 11) g0 := by
        show (if sel μ x b0 g0 = true ∧ hav (gv (μ 16) (sel μ x b0) b0 (g0 + 1)) f (μ 16 g0) = 0 then frd (μ 16) (μ 19) (sel μ x b0) b0 f (μ 0 11) g0 + μ 19 (ix (μ 16 g0)) else frd (μ 16) (μ 19) (sel μ x b0) b0 f (μ 0 11) g0) = _
        rw [e16, ix_n (by omega)]
        by_cases cc : hav (gv (μ 16) (sel μ x b0) b0 (g0 + 1)) f (nI bf) = 0
        · rw [if_pos ⟨sg, cc⟩, if_pos cc]
        · rw [if_neg (fun y => cc y.2), if_neg cc]
      -- the group's entry
      have NG' : IGr f nb (gv (μ 16) (sel μ x b0) b0 (g0 + 1)) (μ 22) (if hav (gv (μ 16) (sel μ x b0) b0 (g0 + 1)) f (nI bf) = 0 then upd (m' 41) bf (-1) else m' 41) := by
        refine NG.less2 (fun a ha2 c2 hc2 e => ⟨?_, fun h0 ec => ?_⟩)
        · by_cases z : a < g0 + 1 ∧ sel μ x b0 a = true
          · unfold gv at e
            rw [if_pos z] at e
            refine ⟨y0, hy0, ?_⟩
            unfold gv
            rw [if_neg (fun w => (sel_al w.2).2 ey0), ey0, e]
          · refine ⟨a, ha2, ?_⟩
            unfold gv at e ⊢
            rw [if_neg z] at e
            rw [if_neg (fun w => z ⟨by omega, w.2⟩)]
            exact e
        · rw [ec] at e
          exact hav_z h0 ha2 e
      have nxt : ∀ y2 : Mem, (∀ k, k ≠ 31 → y2 k = y1 k) → (∀ j, j ≠ 5 → y2 31 j = y1 31 j) → y2 31 5 = frd (μ 16) (μ 19) (sel μ x b0) b0 f (μ 0 11) (g0 + 1) → w_X8_merge_b212 post kk (nI b0) (nI (ct (sel μ x b0) f)) (nI i) (nI bf) y2 := fun y2 s1 s2 s3 => by
        unfold w_X8_merge_b212
        have w36 : y2 36 = y1 36 := s1 36 (by decide)
        have w34 : y2 34 = y1 34 := s1 34 (by decide)
        refine s_leaves (n := f) (by rw [s2 2 (by decide)]; exact uu2) f3 (by omega) ?_
        rw [w36, w34, hhav]
        have w41 : y2 41 = m' 41 := by rw [s1 41 (by decide), g1, wrA, if_neg (by decide)]
        refine hkk _ _ _ _ ⟨rfl, rfl, i + 1, by omega, nIs i, g0 + 1, by omega, by rw [ct_t sg, eg], fun k k1 k2 k3 => ?_, fun j hj => ?_, ?_, ?_, ?_⟩ (by rw [nIs, ix_n (by omega), ix_n (by omega)]; omega)
        · have : y2 k = m k := by rw [s1 k k1, g1, wrA, if_neg k2]; exact NO k k1 k2 k3
          split
          · rw [wrA, if_neg k3]; exact this
          · exact this
        · have : y2 31 j = m 31 j := by rw [s2 j hj, u31]; exact N31 j hj
          split
          · rw [wrA, if_neg (by decide)]; exact this
          · exact this
        · split
          · rw [wrA, if_neg (by decide)]; exact s3
          · exact s3
        · split
          · rw [wrA, if_neg (by decide), w36]; exact u36
          · rw [w36]; exact u36
        · by_cases cc : hav (gv (μ 16) (sel μ x b0) b0 (g0 + 1)) f (nI bf) = 0
          · rw [if_pos cc] at NG' ⊢
            rw [wrA, if_pos rfl, w41]; exact NG'
          · rw [if_neg cc] at NG' ⊢
            rw [w41]; exact NG'
      refine s_X8_names uu2 f3 (nI_m1 (by omega)) ?_
      rw [hhav]
      have u38 : y1 38 bf = μ 19 bf := by rw [g1, wrA, if_neg (by decide), NO 38 (by decide) (by decide) (by decide), r 38 (by decide) (by decide)]; exact (hBo bf (by omega)).2.1
      refine And.symm (pk_eq _ 0 (fun cc => ⟨vp_in_nI (by omega) (by decide), fun y2 g2 => ?_⟩) (fun cc => ?_) rfl rfl (by omega) (by omega))
      · rw [ix_n (by omega), u38, u31, N5] at g2
        refine nxt y2 (fun k hk => by rw [g2, wrA, if_neg hk]) (fun j hj => by rw [g2, wrA, if_pos rfl, updA, if_neg hj]) ?_
        rw [g2, wrA, if_pos rfl, updA, if_pos rfl, efr, if_pos cc]
      · exact nxt y1 (fun k _ => rfl) (fun j _ => rfl) (by rw [u31, N5, efr, if_neg cc])
  · have hinf : vp_in (nI f) 60 := vp_in_nI (by omega) (by decide)
    obtain ⟨-, ⟨bf, hbf, e36⟩, hc⟩ := hFi f c
    obtain ⟨-, -, ⟨of, hof, eof⟩, eMof, -⟩ := hBo bf (by omega)
    rw [ix_n (by omega), r 36 (by decide) (by decide), e36, ix_n (by omega), r 39 (by decide) (by decide), eMof, eof]
    have skip : sel μ x b0 f = false → k x (nI b0) (nI (ct (sel μ x b0) f)) (nI f + 1) m := fun hs => by
      refine hk _ _ _ _ _ ⟨rfl, rfl, f + 1, c, nIs f, by rw [ct_f hs], MO, fun x2 hx2 hs2 => ?_⟩ (by rw [nIs, ix_n (by omega), ix_n (by omega)]; omega)
      rcases Nat.lt_or_ge x2 f with z | z
      · exact MS x2 z hs2
      · rw [show x2 = f by omega, hs] at hs2; cases hs2
    refine ⟨hinf, vp_in_nI (by omega) (by decide), s_isMember_m (cb := μ 16) (cg := μ 22) (cf := μ 14) (cnm := μ 15) (mnm := μ 35) f3 f2 f4 (by rw [r 34 (by decide) (by decide), r 36 (by decide) (by decide)]; exact hFi) (by rw [r 41 (by decide) (by decide)]; exact hGr) c (fun hm => t_n (by decide) ⟨hinf, ?_⟩) (fun hm => t_y rfl (skip (by unfold sel; rw [hm]; rfl)))⟩
    have ha : ¬ μ 16 f = -1 := fun y => by unfold mbr at hm; simp [y] at hm
    have e16 : μ 16 f = nI bf := by
      rcases hc with ⟨-, hc⟩ | ⟨-, hc, -⟩
      · exact absurd hc ha
      · exact hc.trans e36
    have hsel := sel_iff (g := x) (f := f) (by omega) (show b0 < 100 by omega) e16 ho0 eo0 hof eof
    have no : ¬ (μ 17 f = 0 ∧ ¬ bf = b0 ∧ (o0 = of ∨ ¬ μ 9 (8 * o0 + of) = 0)) → sel μ x b0 f = false := fun hn => by
      cases e : sel μ x b0 f
      · rfl
      · exact absurd (hsel.mp e).2 hn
    have yes : (μ 17 f = 0 ∧ ¬ bf = b0 ∧ (o0 = of ∨ ¬ μ 9 (8 * o0 + of) = 0)) → w_X8_merge_b123 post k x (nI b0) (nI (ct (sel μ x b0) f)) (nI f) (nI of) m := fun hy => by
      have hs := hsel.mpr ⟨hm, hy⟩
      unfold w_X8_merge_b123
      have hinc : vp_in (nI (ct (sel μ x b0) f)) 60 := vp_in_nI (by omega) (by decide)
      rw [ix_n (by omega)]
      refine ⟨hinc, fun y1 g1 => ⟨hinc, fun y2 g2 => hk _ _ _ _ _ ⟨rfl, rfl, f + 1, c, nIs f, by rw [ct_t hs, nIs], fun k k1 k2 => by rw [g2, wrA, if_neg k2, g1, wrA, if_neg k1]; exact MO k k1 k2, fun x2 hx2 hs2 => ?_⟩ (by rw [nIs, ix_n (by omega), ix_n (by omega)]; omega)⟩⟩
      have e54 : y2 54 = upd (m 54) (ct (sel μ x b0) f) (nI f) := by rw [g2, wrA, if_neg (by decide), g1, wrA, if_pos rfl]
      have e55 : y2 55 = upd (m 55) (ct (sel μ x b0) f) (nI of) := by rw [g2, wrA, if_pos rfl, g1, wrA, if_neg (by decide)]
      rw [e54, e55]
      rcases Nat.lt_or_ge x2 f with z | z
      · have a1 : ct (sel μ x b0) (x2 + 1) = ct (sel μ x b0) x2 + 1 := ct_t hs2
        have a2 := ct_mono (sel μ x b0) (show x2 + 1 ≤ f by omega)
        rw [up_n (by omega), up_n (by omega)]
        exact MS x2 z hs2
      · rw [show x2 = f by omega, up_s, up_s, e16, ix_n (by omega), eof]
        exact ⟨rfl, rfl⟩
    rw [r 37 (by decide) (by decide), ← (hHe f (by omega)).1]
    refine ⟨fun z => skip (no (fun y => z y.1)), fun z => ⟨hinf, ?_⟩⟩
    rw [r 36 (by decide) (by decide), e36]
    refine pk_eq bf b0 (fun z2 => skip (no (fun y => y.2.1 z2))) (fun z2 => ⟨vp_in_nI (by omega) (by decide), ?_⟩) rfl rfl (by omega) (by omega)
    rw [ix_n (by omega), r 39 (by decide) (by decide), eMo0, eo0, ix_n (by omega), r 45 (by decide) (by decide), ← hLe o0 of ho0 hof]
    refine pk_eq of o0 (fun z3 => yes ⟨z, z2, Or.inl z3.symm⟩) (fun z3 => ⟨vp_in_nI (by omega) (by decide), vp_in_nI ho0 (by decide), fun z4 => yes ⟨z, z2, Or.inr z4⟩, fun z4 => skip (no (fun y => ?_))⟩) rfl rfl (by omega) (by omega)
    rcases y.2.2 with y | y
    · exact z3 y.symm
    · exact y z4
theorem op_merge {post : Int32 → Mem → Prop} {K : Int32 → Int32 → Mem → Prop} {a1 : Int32} {μ : Mem} (hI : InvE μ) (hK : ∀ k b m, m 31 0 = k → (k = 0 → m 56 0 = b) → InvE m → K k b m) (hp : ∀ k m, w_X8_merge (K k) a1 m → post k m) : w_L_merge post a1 μ := by
  obtain ⟨nf, n, nb, w, q, lt, hI⟩ := hI
  have hI0 := hI
  obtain ⟨⟨⟨c1, m1, f1, f2⟩, ⟨c2, m2, f3⟩, ⟨c3, m3, f4⟩, hC4, ⟨c5, m5, q20, c6, lt20⟩, hC6⟩, hFo, hFi, hHe, hBo, hBy, hGr, hWi, hLe, hMe⟩ := hI
  have e6 : μ 4 3 = μ 31 6 := hC6.2.2.1
  unfold w_L_merge w_X7_merge
  refine s_needGroup (fun z1 z2 => s_keptOf_c hI0 ?_) (fun hc => ⟨rfl, hp 1 μ ?_⟩)
  · rcases kep_c (mbr (μ 16) (μ 22) a1) (fun a b => ahd (rk μ) a b w 0) n f3 with e | ⟨y0, hy0, py, e⟩
    · rw [e]
      refine f_y rfl (fun m em => hp 0 m ?_)
      subst em
      unfold w_X8_merge
      have hI2 : Inv nf n nb w q lt (wr (wr μ 56 (ix 0) 0) 31 0 0) := (hI0.w n56).w n310
      refine s_isGroup_y z1 (by simp [wrA]; rw [← e6]; exact z2) (f_n (by decide) (s_keptOf_m hI2 (fun _ _ _ => rfl) (fun _ _ => rfl) ?_))
      rw [kep_sim (μ := μ) (fun c j hc => by rw [wrA, if_neg (by omega), wrA, if_neg (by omega)]), e]
      exact f_y rfl (hK 0 0 _ (by simp [wrA, updA]) (fun _ => by simp [wrA, updA, ix0]) ⟨nf, n, nb, w, q, lt, hI2⟩)
    · have ha : ¬ μ 16 y0 = -1 := fun y => by unfold mbr at py; simp [y] at py
      obtain ⟨b0, hb0, e16, e36⟩ : ∃ bf, bf < nb ∧ μ 16 y0 = nI bf ∧ μ 36 y0 = nI bf := by
        obtain ⟨-, ⟨b, hb, eb⟩, hc⟩ := hFi y0 hy0
        rcases hc with ⟨-, hc⟩ | ⟨-, hc, -⟩
        · exact absurd hc ha
        · exact ⟨b, hb, hc.trans eb, eb⟩
      rw [e]
      refine f_n (nI_m1 (by omega)) ⟨vp_in_nI (by omega) (by decide), ?_⟩
      rw [ix_n (by omega), e16]
      refine s_merge_c hI0 hb0 (fun mc hCM m em => hp 0 m ?_)
      obtain ⟨CO, C10, C11, C16, Cz, Cp⟩ := hCM
      have rM : ∀ k, k ≠ 0 → k ≠ 8 → k ≠ 16 → k ≠ 29 → k < 56 → m k = μ k := fun k k1 k2 k3 k4 k5 => by rw [em, wrA, if_neg (by omega)]; exact CO k k1 k2 k3 k4 (by omega)
      unfold w_X8_merge
      have g31 : ∀ j, j ≠ 0 → wr m 31 0 0 31 j = μ 31 j := fun j hj => by rw [wrA, if_pos rfl, updA, if_neg hj, rM 31 (by decide) (by decide) (by decide) (by decide) (by decide)]
      have gk : ∀ k, 32 ≤ k → k ≤ 55 → wr m 31 0 0 k = μ k := fun k k1 k2 => by rw [wrA, if_neg (by omega)]; exact rM k (by omega) (by omega) (by omega) (by omega) (by omega)
      refine s_isGroup_y z1 (by rw [rM 31 (by decide) (by decide) (by decide) (by decide) (by decide), ← e6]; exact z2) (f_n (by decide) ?_)
      have hk2 : ∀ {P : Int32 → Mem → Prop}, P (nI y0) (wr m 31 0 0) → w_X8_keptOf P a1 (wr m 31 0 0) := fun {P} hP => s_keptOf_m hI0 (fun k k1 k2 => gk k k1 (by omega)) g31 (by rw [e]; exact hP)
      refine hk2 (f_n (nI_m1 (by omega)) ⟨vp_in_nI (by omega) (by decide), ?_⟩)
      rw [ix_n (by omega), gk 36 (by decide) (by decide), e36]
      refine s_merge_m (y0 := y0) hI0 gk g31 hb0 hy0 e16 (fun mm hMM => ?_)
      obtain ⟨MO, M31, M5, M36, MG, Mz, Mp⟩ := hMM
      have e56 : mm 56 0 = nI (ct (sel μ a1 b0) n) := by
        rw [MO 56 (by decide) (by decide) (by decide) (by decide) (by decide) (by decide) (by decide) (by decide) (by decide), wrA, if_neg (by decide), em]
        simp [wrA, updA, ix0]
      refine hK 0 _ _ ((M31 0 (by decide) (by decide)).trans (by simp [wrA, updA])) (fun _ => e56) ?_
      have s31 : ∀ j, j ≠ 0 → j ≠ 5 → j ≠ 23 → mm 31 j = μ 31 j := fun j j1 j2 j3 => (M31 j j2 j3).trans (g31 j j1)
      have sC : ∀ k, k ≠ 31 → k ≠ 36 → k ≠ 41 → k ≠ 46 → k ≠ 47 → k ≠ 48 → k ≠ 49 → k ≠ 54 → k ≠ 55 → k ≠ 56 → mm k = mc k := fun k k1 k2 k3 k4 k5 k6 k7 k8 k9 k10 => by rw [MO k k1 k2 k3 k4 k5 k6 k7 k8 k9, wrA, if_neg k1, em, wrA, if_neg k10]
      have t : ∀ k, (1 ≤ k ∧ k ≤ 7) ∨ (9 ≤ k ∧ k ≤ 15) ∨ (17 ≤ k ∧ k ≤ 28) ∨ (32 ≤ k ∧ k ≤ 35) ∨ (37 ≤ k ∧ k ≤ 40) ∨ (42 ≤ k ∧ k ≤ 45) → mm k = μ k := fun k hk => by rw [sC k (by omega) (by omega) (by omega) (by omega) (by omega) (by omega) (by omega) (by omega) (by omega) (by omega)]; exact CO k (by omega) (by omega) (by omega) (by omega) (by omega)
      have t0 : mm 0 = mc 0 := sC 0 (by decide) (by decide) (by decide) (by decide) (by decide) (by decide) (by decide) (by decide) (by decide) (by decide)
      have t8 : mm 8 = mc 8 := sC 8 (by decide) (by decide) (by decide) (by decide) (by decide) (by decide) (by decide) (by decide) (by decide) (by decide)
      have t16 : mm 16 = gv (μ 16) (sel μ a1 b0) b0 n := (sC 16 (by decide) (by decide) (by decide) (by decide) (by decide) (by decide) (by decide) (by decide) (by decide) (by decide)).trans C16
      have t29 : mm 29 = mc 29 := sC 29 (by decide) (by decide) (by decide) (by decide) (by decide) (by decide) (by decide) (by decide) (by decide) (by decide)
      have t57 : ∀ r, mm (r + 57) = mc (r + 57) := fun r => sC (r + 57) (by omega) (by omega) (by omega) (by omega) (by omega) (by omega) (by omega) (by omega) (by omega) (by omega)
      have hFi' := hFi.give (b0 := b0) (f := n) (s := sel μ a1 b0) hb0 (fun x h => (sel_al h).1)
      have hcnt : ct (sel μ a1 b0) n ≤ n := ct_le _ _
      have hcr : (fun r => mm (r + 57)) = fun r => mc (r + 57) := funext t57
      rcases Nat.eq_zero_or_pos (ct (sel μ a1 b0) n) with z0 | z0
      · obtain ⟨p1, p2, p3⟩ := Cz z0
        obtain ⟨r1, r2, r3, r4, r5⟩ := Mz z0
        refine ⟨nf, n, nb, w, q, lt, ?_⟩
        unfold Inv ICt
        rw [hcr, t 1 (by omega), t 2 (by omega), t 3 (by omega), t 4 (by omega), t 7 (by omega), t8, t0, C10, C11, p1, s31 1 (by decide) (by decide) (by decide), s31 2 (by decide) (by decide) (by decide), s31 3 (by decide) (by decide) (by decide), s31 8 (by decide) (by decide) (by decide), r1, s31 4 (by decide) (by decide) (by decide), M5, s31 6 (by decide) (by decide) (by decide), s31 7 (by decide) (by decide) (by decide), t 11 (by omega), t 12 (by omega), t 13 (by omega), t 32 (by omega), t 33 (by omega), t 14 (by omega), t 15 (by omega), t16, t 34 (by omega), t 35 (by omega), M36, t 17 (by omega), t 37 (by omega), t 19 (by omega), t 20 (by omega), t 21 (by omega), t 38 (by omega), t 39 (by omega), t 40 (by omega), t 18 (by omega), t 42 (by omega), t 22 (by omega), t 27 (by omega), t 28 (by omega), t 43 (by omega), t 44 (by omega), t 9 (by omega), t 45 (by omega), t29, p2, r2, r3, r4, r5, show (fun r => mc (r + 57)) = fun r => μ (r + 57) from funext p3]
        exact ⟨⟨⟨c1, m1, f1, f2⟩, ⟨c2, m2, f3⟩, ⟨c3, m3, f4⟩, hC4, ⟨c5, rfl, q20, c6, lt20⟩, hC6.1, rfl, hC6.2.2⟩, hFo, hFi', hHe, hBo, hBy, MG, hWi, hLe, hMe⟩
      · obtain ⟨p1, p2, p3, p4⟩ := Cp z0
        obtain ⟨r1, S, T, hST, r2, r3, r4, r5⟩ := Mp z0
        have hq : nI (if q < 20 then q + 1 else 20) = nI (q1 q + 1) := by unfold q1; split <;> rfl
        rw [hq] at p2
        have hq20 : q1 q + 1 ≤ 20 := by unfold q1; split <;> omega
        refine ⟨nf, n, nb, w, q1 q + 1, (lt + 1) % 20, ?_⟩
        unfold Inv ICt
        rw [hcr, t 1 (by omega), t 2 (by omega), t 3 (by omega), t 4 (by omega), t 7 (by omega), t8, t0, C10, C11, p1, p2, s31 1 (by decide) (by decide) (by decide), s31 2 (by decide) (by decide) (by decide), s31 3 (by decide) (by decide) (by decide), s31 8 (by decide) (by decide) (by decide), r1, s31 4 (by decide) (by decide) (by decide), M5, s31 6 (by decide) (by decide) (by decide), s31 7 (by decide) (by decide) (by decide), t 11 (by omega), t 12 (by omega), t 13 (by omega), t 32 (by omega), t 33 (by omega), t 14 (by omega), t 15 (by omega), t16, t 34 (by omega), t 35 (by omega), M36, t 17 (by omega), t 37 (by omega), t 19 (by omega), t 20 (by omega), t 21 (by omega), t 38 (by omega), t 39 (by omega), t 40 (by omega), t 18 (by omega), t 42 (by omega), t 22 (by omega), t 27 (by omega), t 28 (by omega), t 43 (by omega), t 44 (by omega), t 9 (by omega), t 45 (by omega), t29, p3, r2, r3, r4, r5]
        refine ⟨⟨⟨c1, m1, f1, f2⟩, ⟨c2, m2, f3⟩, ⟨c3, m3, f4⟩, hC4, ⟨rfl, rfl, hq20, rfl, Nat.mod_lt _ (by decide)⟩, hC6.1, rfl, hC6.2.2⟩, hFo, hFi', hHe, hBo, hBy, MG, hWi, hLe, ?_⟩
        refine hMe.push (R := rwf (μ 16) (μ 20) (sel μ a1 b0) n (μ ((lt + 1) % 20 + 57))) q20 lt20 hb0 (by omega) (fun mm' mf' mo' h1 h2 => IRow.new f3 (fun f hf hs => ?_) h1 (fun f hf hs => ?_)) (by show mc ((lt + 1) % 20 + 57) = _; rw [p4, if_pos rfl]) (fun r hr => by show mc (r + 57) = _; rw [p4, if_neg hr])
        · obtain ⟨ha2, -⟩ := sel_al hs
          obtain ⟨-, ⟨b, hb, eb⟩, hc⟩ := hFi f hf
          have e16' : μ 16 f = nI b := by
            rcases hc with ⟨-, hc⟩ | ⟨-, hc, -⟩
            · exact absurd hc ha2
            · exact hc.trans eb
          obtain ⟨-, -, ⟨o, ho, eo⟩, -⟩ := hBo b (by omega)
          exact ⟨o, ho, by rw [e16', ix_n (by omega)]; exact eo⟩
        · have a1' : ct (sel μ a1 b0) (f + 1) = ct (sel μ a1 b0) f + 1 := ct_t hs
          have a2' := ct_mono (sel μ a1 b0) (show f + 1 ≤ n by omega)
          obtain ⟨x1, x2⟩ := h2 _ (show ct (sel μ a1 b0) f < ct (sel μ a1 b0) n by omega)
          rw [x1, x2]
          exact hST f hf hs
  · unfold w_X8_merge
    exact s_isGroup_n (by rw [← e6]; exact hc) (f_y rfl (hK 1 0 _ (by simp [wrA, updA]) (fun h => absurd h (by decide)) ⟨nf, n, nb, w, q, lt, (hI0.w n310).w n310⟩))
