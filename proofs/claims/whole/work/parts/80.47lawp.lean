/-! the law's loop -/
theorem fin_i {k b : Int32} {m : Mem} {kk : Mem → Prop} (h1 : m 31 0 = k) (h2 : k = 0 → m 56 0 = b) (h3 : kk m) : w_X8_thrown (fun (r10 : Int32) (μ9 : Mem) => ((r10 = k) → (((¬ k = 0) → (kk μ9)) ∧ ((k = 0) → ((((lg_cmp ((μ9 56 (ix (0 : Int32))).toInt64) b.toInt64) = 0) → (kk μ9)) ∧ ((¬ (lg_cmp ((μ9 56 (ix (0 : Int32))).toInt64) b.toInt64) = 0) → (False)))))) ∧ ((¬ r10 = k) → (False))) m := by
  unfold w_X8_thrown
  refine ⟨fun _ => ⟨fun _ => h3, fun h0 => ⟨fun _ => h3, fun hn => hn ?_⟩⟩, fun h => h h1⟩
  rw [lg_cmp_eq, show ix (0 : Int32) = 0 from rfl, h2 h0]
theorem fin_b {k b : Int32} {m : Mem} {kk : Mem → Prop} (h1 : m 31 0 = k) (h2 : k = 0 → m 56 0 = if b = 0 then 0 else 1) (h3 : kk m) : w_X8_thrown (fun (r10 : Int32) (μ9 : Mem) => ((r10 = k) → (((¬ k = 0) → (kk μ9)) ∧ ((k = 0) → (((b = 0) → ((((lg_cmp ((μ9 56 (ix (0 : Int32))).toInt64) (0 : Int64)) = 0) → (kk μ9)) ∧ ((¬ (lg_cmp ((μ9 56 (ix (0 : Int32))).toInt64) (0 : Int64)) = 0) → (False)))) ∧ ((¬ b = 0) → ((((lg_cmp ((μ9 56 (ix (0 : Int32))).toInt64) (1 : Int64)) = 0) → (kk μ9)) ∧ ((¬ (lg_cmp ((μ9 56 (ix (0 : Int32))).toInt64) (1 : Int64)) = 0) → (False)))))))) ∧ ((¬ r10 = k) → (False))) m := by
  unfold w_X8_thrown
  refine ⟨fun _ => ⟨fun _ => h3, fun h0 => ⟨fun hb => ⟨fun _ => h3, fun hn => hn ?_⟩, fun hb => ⟨fun _ => h3, fun hn => hn ?_⟩⟩⟩, fun h => h h1⟩
  · rw [lg_cmp_eq, show ix (0 : Int32) = 0 from rfl, h2 h0, if_pos hb]; rfl
  · rw [lg_cmp_eq, show ix (0 : Int32) = 0 from rfl, h2 h0, if_neg hb]; rfl
section LW
variable {xs : Nat → Int32} {L : Nat} {k : Mem → Prop} {v : Int32} {μ : Mem}
theorem lc0 (hI : InvE μ) (v1 : vp_in (v + (1 : Int32)) L) (v2 : vp_in (v + (2 : Int32)) L) (hk : ∀ m, InvE m → k m) : w_law_c0 xs L k v μ := by
  unfold w_law_c0
  exact ⟨v1, v2, op_folder hI (fun k b m h1 h2 h3 => fin_i h1 h2 (hk m h3)) (fun k m h => ⟨v1, v2, h⟩)⟩
theorem lc1 (hI : InvE μ) (v1 : vp_in (v + (1 : Int32)) L) (v2 : vp_in (v + (2 : Int32)) L) (v3 : vp_in (v + (3 : Int32)) L) (v4 : vp_in (v + (4 : Int32)) L) (hk : ∀ m, InvE m → k m) : w_law_c1 xs L k v μ := by
  unfold w_law_c1
  exact ⟨v1, v2, v3, v4, op_file hI (fun k b m h1 h2 h3 => fin_i h1 h2 (hk m h3)) (fun k m h => ⟨v1, v2, v3, v4, h⟩)⟩
theorem lc2 (hI : InvE μ) (v1 : vp_in (v + (1 : Int32)) L) (v2 : vp_in (v + (2 : Int32)) L) (v3 : vp_in (v + (3 : Int32)) L) (hk : ∀ m, InvE m → k m) : w_law_c2 xs L k v μ := by
  unfold w_law_c2
  exact ⟨v1, v2, v3, op_copy hI (fun k b m h1 h2 h3 => fin_i h1 h2 (hk m h3)) (fun k m h => ⟨v1, v2, v3, h⟩)⟩
theorem lc3 (hI : InvE μ) (v1 : vp_in (v + (1 : Int32)) L) (v2 : vp_in (v + (2 : Int32)) L) (v3 : vp_in (v + (3 : Int32)) L) (hk : ∀ m, InvE m → k m) : w_law_c3 xs L k v μ := by
  unfold w_law_c3
  exact ⟨v1, v2, v3, op_link hI (fun k b m h1 h2 h3 => fin_i h1 h2 (hk m h3)) (fun k m h => ⟨v1, v2, v3, h⟩)⟩
theorem lc4 (hI : InvE μ) (v1 : vp_in (v + (1 : Int32)) L) (v2 : vp_in (v + (2 : Int32)) L) (v3 : vp_in (v + (3 : Int32)) L) (hk : ∀ m, InvE m → k m) : w_law_c4 xs L k v μ := by
  unfold w_law_c4
  exact ⟨v1, v2, v3, op_move hI (fun k b m h1 h2 h3 => fin_b h1 h2 (hk m h3)) (fun k m h => ⟨v1, v2, v3, h⟩)⟩
theorem lc5 (hI : InvE μ) (v1 : vp_in (v + (1 : Int32)) L) (hk : ∀ m, InvE m → k m) : w_law_c5 xs L k v μ := by
  unfold w_law_c5
  exact ⟨v1, op_remove hI (fun k b m h1 h2 h3 => fin_i h1 h2 (hk m h3)) (fun k m h => ⟨v1, h⟩)⟩
theorem lc6 (hI : InvE μ) (v1 : vp_in (v + (1 : Int32)) L) (v2 : vp_in (v + (2 : Int32)) L) (hk : ∀ m, InvE m → k m) : w_law_c6 xs L k v μ := by
  unfold w_law_c6
  refine ⟨v1, v2, fun h0 => op_hold (Or.inl rfl) hI (fun k b m h1 h2 h3 => fin_b h1 h2 (hk m h3)) (fun k m h => ⟨v1, v2, fun _ => h, fun z => absurd h0 z⟩), fun h0 => op_hold (Or.inr rfl) hI (fun k b m h1 h2 h3 => fin_b h1 h2 (hk m h3)) (fun k m h => ⟨v1, v2, fun z => absurd z h0, fun _ => h⟩)⟩
theorem lc7 (hI : InvE μ) (v1 : vp_in (v + (1 : Int32)) L) (v2 : vp_in (v + (2 : Int32)) L) (v3 : vp_in (v + (3 : Int32)) L) (hk : ∀ m, InvE m → k m) : w_law_c7 xs L k v μ := by
  unfold w_law_c7
  exact ⟨v1, v2, v3, op_write hI (fun k b m h1 h2 h3 => fin_i h1 h2 (hk m h3)) (fun k m h => ⟨v1, v2, v3, h⟩)⟩
theorem lc8 (hI : InvE μ) (v1 : vp_in (v + (1 : Int32)) L) (v2 : vp_in (v + (2 : Int32)) L) (v3 : vp_in (v + (3 : Int32)) L) (v4 : vp_in (v + (4 : Int32)) L) (hk : ∀ m, InvE m → k m) : w_law_c8 xs L k v μ := by
  unfold w_law_c8
  exact ⟨v1, v2, v3, v4, op_fill hI (fun k b m h1 h2 h3 => fin_i h1 h2 (hk m h3)) (fun k m h => ⟨v1, v2, v3, v4, h⟩)⟩
theorem lc9 (hI : InvE μ) (v1 : vp_in (v + (1 : Int32)) L) (v2 : vp_in (v + (2 : Int32)) L) (hk : ∀ m, InvE m → k m) : w_law_c9 xs L k v μ := by
  unfold w_law_c9
  exact ⟨v1, v2, op_at hI (fun k b m h1 h2 h3 => fin_i h1 h2 (hk m h3)) (fun k m h => ⟨v1, v2, h⟩)⟩
theorem lc10 (hI : InvE μ) (v1 : vp_in (v + (1 : Int32)) L) (v2 : vp_in (v + (2 : Int32)) L) (hk : ∀ m, InvE m → k m) : w_law_c10 xs L k v μ := by
  unfold w_law_c10
  exact ⟨v1, v2, op_about hI (fun k b m h1 h2 h3 => fin_i h1 h2 (hk m h3)) (fun k m h => ⟨v1, v2, h⟩)⟩
theorem lc11 (hI : InvE μ)  (hk : ∀ m, InvE m → k m) : w_law_c11 xs L k v μ := by
  unfold w_law_c11
  exact op_find (K := fun r b m => ((r = b) → (k m)) ∧ ((¬ r = b) → (False))) hI (fun b m hm => ⟨fun _ => hk m hm, fun h => h rfl⟩)
theorem lc12 (hI : InvE μ)  (hk : ∀ m, InvE m → k m) : w_law_c12 xs L k v μ := by
  unfold w_law_c12
  exact op_reads (K := fun r b m => ((r = b) → (k m)) ∧ ((¬ r = b) → (False))) hI (fun b m hm => ⟨fun _ => hk m hm, fun h => h rfl⟩)
theorem lc13 (hI : InvE μ) (v1 : vp_in (v + (1 : Int32)) L) (hk : ∀ m, InvE m → k m) : w_law_c13 xs L k v μ := by
  unfold w_law_c13
  exact ⟨v1, op_groupOf hI (fun k b m h1 h2 h3 => fin_i h1 h2 (hk m h3)) (fun k m h => ⟨v1, h⟩)⟩
theorem lc14 (hI : InvE μ) (v1 : vp_in (v + (1 : Int32)) L) (v2 : vp_in (v + (2 : Int32)) L) (hk : ∀ m, InvE m → k m) : w_law_c14 xs L k v μ := by
  unfold w_law_c14
  exact ⟨v1, v2, op_member hI (fun k b m h1 h2 h3 => fin_i h1 h2 (hk m h3)) (fun k m h => ⟨v1, v2, h⟩)⟩
theorem lc15 (hI : InvE μ) (v1 : vp_in (v + (1 : Int32)) L) (v2 : vp_in (v + (2 : Int32)) L) (hk : ∀ m, InvE m → k m) : w_law_c15 xs L k v μ := by
  unfold w_law_c15
  exact ⟨v1, v2, op_near hI (fun k b m h1 h2 h3 => fin_i h1 h2 (hk m h3)) (fun k m h => ⟨v1, v2, h⟩)⟩
theorem lc16 (hI : InvE μ) (v1 : vp_in (v + (1 : Int32)) L) (v2 : vp_in (v + (2 : Int32)) L) (hk : ∀ m, InvE m → k m) : w_law_c16 xs L k v μ := by
  unfold w_law_c16
  exact ⟨v1, v2, op_nearest hI (fun k b m h1 h2 h3 => fin_i h1 h2 (hk m h3)) (fun k m h => ⟨v1, v2, h⟩)⟩
theorem lc17 (hI : InvE μ) (v1 : vp_in (v + (1 : Int32)) L) (v2 : vp_in (v + (2 : Int32)) L) (hk : ∀ m, InvE m → k m) : w_law_c17 xs L k v μ := by
  unfold w_law_c17
  exact ⟨v1, v2, op_differ hI (fun k b m h1 h2 h3 => fin_i h1 h2 (hk m h3)) (fun k m h => ⟨v1, v2, h⟩)⟩
theorem lc18 (hI : InvE μ) (v1 : vp_in (v + (1 : Int32)) L) (v2 : vp_in (v + (2 : Int32)) L) (hk : ∀ m, InvE m → k m) : w_law_c18 xs L k v μ := by
  unfold w_law_c18
  exact ⟨v1, v2, op_wish hI (fun k b m h1 h2 h3 => fin_i h1 h2 (hk m h3)) (fun k m h => ⟨v1, v2, h⟩)⟩
theorem lc19 (hI : InvE μ)  (hk : ∀ m, InvE m → k m) : w_law_c19 xs L k v μ := by
  unfold w_law_c19
  exact op_unwish (K := fun r b m => ((r = b) → (k m)) ∧ ((¬ r = b) → (False))) hI (fun b m hm => ⟨fun _ => hk m hm, fun h => h rfl⟩)
theorem lc20 (hI : InvE μ) (v1 : vp_in (v + (1 : Int32)) L) (v2 : vp_in (v + (2 : Int32)) L) (hk : ∀ m, InvE m → k m) : w_law_c20 xs L k v μ := by
  unfold w_law_c20
  exact ⟨v1, v2, op_leave hI (fun k b m h1 h2 h3 => fin_b h1 h2 (hk m h3)) (fun k m h => ⟨v1, v2, h⟩)⟩
theorem lc21 (hI : InvE μ) (v1 : vp_in (v + (1 : Int32)) L) (hk : ∀ m, InvE m → k m) : w_law_c21 xs L k v μ := by
  unfold w_law_c21
  exact ⟨v1, op_keep hI (fun k b m h1 h2 h3 => fin_i h1 h2 (hk m h3)) (fun k m h => ⟨v1, h⟩)⟩
theorem lc22 (hI : InvE μ) (v1 : vp_in (v + (1 : Int32)) L) (hk : ∀ m, InvE m → k m) : w_law_c22 xs L k v μ := by
  unfold w_law_c22
  exact ⟨v1, op_merge hI (fun k b m h1 h2 h3 => fin_i h1 h2 (hk m h3)) (fun k m h => ⟨v1, h⟩)⟩
theorem lc23 (hI : InvE μ)  (hk : ∀ m, InvE m → k m) : w_law_c23 xs L k v μ := by
  unfold w_law_c23
  exact op_unmerge (K := fun r b m => ((r = b) → (k m)) ∧ ((¬ r = b) → (False))) hI (fun b m hm => ⟨fun _ => hk m hm, fun h => h rfl⟩)
theorem lc24 (hI : InvE μ) (v1 : vp_in (v + (1 : Int32)) L) (hk : ∀ m, InvE m → k m) : w_law_c24 xs L k v μ := by
  unfold w_law_c24
  exact ⟨v1, op_days hI (fun k b m h1 h2 h3 => fin_i h1 h2 (hk m h3)) (fun k m h => ⟨v1, h⟩)⟩
theorem lc25 (hI : InvE μ) (v1 : vp_in (v + (1 : Int32)) L) (hk : ∀ m, InvE m → k m) : w_law_c25 xs L k v μ := by
  unfold w_law_c25
  exact ⟨v1, op_count hI (fun k b m h1 h2 h3 => fin_i h1 h2 (hk m h3)) (fun k m h => ⟨v1, h⟩)⟩
end LW
theorem law_pure {xs : Nat → Int32} {L : Nat} (hL : L < 1000000) {μ : Mem} (hI : InvE μ) : ∃ n, itr (fun _ _ => False) (w_law_b23 xs L) n (nI 0) μ := by
  refine wl1 (fun x m => InvE m ∧ ∃ i, x = nI i ∧ i ≤ L + 5) (fun x _ => L + 5 - ix x) ?_ _ _ ⟨hI, 0, rfl, by omega⟩
  rintro k x m ⟨hm, i, rfl, hi⟩ hk
  unfold w_law_b23
  intro hlt
  have h5 : i + 5 ≤ L := by
    rw [Int32.lt_iff_toInt_lt, show (5 : Int32) = nI 5 from rfl, pk_sub_toInt (by omega) (by decide), nI_toInt (by omega)] at hlt
    omega
  have v0 : vp_in (nI i) L := vp_in_nI (by omega) (by omega)
  have vv : ∀ c, c < 5 → vp_in (nI i + nI c) L := fun c hc => by rw [nI_add]; exact vp_in_nI (by omega) (by omega)
  have v1 := vv 1 (by decide)
  have v2 := vv 2 (by decide)
  have v3 := vv 3 (by decide)
  have v4 := vv 4 (by decide)
  refine ⟨v0, ?_⟩
  have nx : ∀ m', InvE m' → k (nI i + (5 : Int32)) m' := fun m' hm' => hk _ _ ⟨hm', i + 5, by rw [show (5 : Int32) = nI 5 from rfl, nI_add], by omega⟩ (by rw [show (5 : Int32) = nI 5 from rfl, nI_add, ix_n (by omega), ix_n (by omega)]; omega)
  unfold w_law_sw
  exact ⟨fun _ => lc0 hm v1 v2 nx, fun _ => ⟨fun _ => lc1 hm v1 v2 v3 v4 nx, fun _ => ⟨fun _ => lc2 hm v1 v2 v3 nx, fun _ => ⟨fun _ => lc3 hm v1 v2 v3 nx, fun _ => ⟨fun _ => lc4 hm v1 v2 v3 nx, fun _ => ⟨fun _ => lc5 hm v1 nx, fun _ => ⟨fun _ => lc6 hm v1 v2 nx, fun _ => ⟨fun _ => lc7 hm v1 v2 v3 nx, fun _ => ⟨fun _ => lc8 hm v1 v2 v3 v4 nx, fun _ => ⟨fun _ => lc9 hm v1 v2 nx, fun _ => ⟨fun _ => lc10 hm v1 v2 nx, fun _ => ⟨fun _ => lc11 hm nx, fun _ => ⟨fun _ => lc12 hm nx, fun _ => ⟨fun _ => lc13 hm v1 nx, fun _ => ⟨fun _ => lc14 hm v1 v2 nx, fun _ => ⟨fun _ => lc15 hm v1 v2 nx, fun _ => ⟨fun _ => lc16 hm v1 v2 nx, fun _ => ⟨fun _ => lc17 hm v1 v2 nx, fun _ => ⟨fun _ => lc18 hm v1 v2 nx, fun _ => ⟨fun _ => lc19 hm nx, fun _ => ⟨fun _ => lc20 hm v1 v2 nx, fun _ => ⟨fun _ => lc21 hm v1 nx, fun _ => ⟨fun _ => lc22 hm v1 nx, fun _ => ⟨fun _ => lc23 hm nx, fun _ => ⟨fun _ => lc24 hm v1 nx, fun _ => ⟨fun _ => lc25 hm v1 nx, fun _ => nx m hm⟩⟩⟩⟩⟩⟩⟩⟩⟩⟩⟩⟩⟩⟩⟩⟩⟩⟩⟩⟩⟩⟩⟩⟩⟩⟩
