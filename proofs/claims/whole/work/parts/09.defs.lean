/-! what the methods mean, by program out of their bytecode -/
def frow (μ : Mem) (k n : Nat) (v : Int32) : Mem := wrow μ k (fun j => if j < n then v else μ k j)
def w_fill (post : Mem → Prop) (k n : Nat) (v : Int32) (μ : Mem) : Prop := ∀ μ' : Mem, μ' = frow μ k n v → post μ'
/-! X0_byteOf -/
def w_X0_byteOf (post : Int32 → Mem → Prop) (a1 a2 : Int32) (μ : Mem) : Prop :=
  vp_in ((a1 * (64 : Int32)) + a2) 6400 ∧ (post ((μ 18 (ix ((a1 * (64 : Int32)) + a2))) &&& (255 : Int32)) μ)
/-! X0_areAlikeWithin -/
def w_X0_areAlikeWithin_b3 (post : Int32 → Mem → Prop) (k3 : Int32 → Int32 → Int32 → Int32 → Mem → Prop) (v1 v2 v4 v5 : Int32) (μ : Mem) : Prop :=
  ((v4 ≤ v5) → (post (1 : Int32) μ)) ∧ ((¬ v4 ≤ v5) → (w_X0_byteOf (fun (r2 : Int32) (μ1 : Mem) => w_X0_byteOf (fun (r4 : Int32) (μ3 : Mem) => ((r2 = r4) → (k3 v1 v2 v4 (v5 + (1 : Int32)) μ3)) ∧ ((¬ r2 = r4) → (post (0 : Int32) μ3))) v2 v5 μ1) v1 v5 μ))
def w_X0_areAlikeWithin (post : Int32 → Mem → Prop) (a1 a2 a3 a4 : Int32) (μ : Mem) : Prop :=
  (∃ n : Nat, itr (fun _ _ _ _ _ => False) (w_X0_areAlikeWithin_b3 post) n a1 a2 a4 a3 μ)
/-! X0_areAlike -/
def w_X0_areAlike (post : Int32 → Mem → Prop) (a1 a2 : Int32) (μ : Mem) : Prop :=
  vp_in a1 100 ∧ (vp_in a2 100 ∧ (((¬ (μ 19 (ix a1)) = (μ 19 (ix a2))) → (post (0 : Int32) μ)) ∧ (((μ 19 (ix a1)) = (μ 19 (ix a2))) → (vp_in a1 100 ∧ (w_X0_areAlikeWithin (fun (r5 : Int32) (μ4 : Mem) => ((r5 = 0) → (post (0 : Int32) μ4)) ∧ ((¬ r5 = 0) → (post (1 : Int32) μ4))) a1 a2 (0 : Int32) (μ 19 (ix a1)) μ)))))
/-! X0_hasRoomFor -/
def w_X0_hasRoomFor (post : Int32 → Mem → Prop) (a1 : Int32) (μ : Mem) : Prop :=
  (((100 : Int32) < ((μ 3 4) + a1)) → (post (0 : Int32) μ)) ∧ ((¬ (100 : Int32) < ((μ 3 4) + a1)) → (post (1 : Int32) μ))
/-! X0_make -/
def w_X0_make (post : Int32 → Mem → Prop) (a1 a2 a3 : Int32) (μ : Mem) : Prop :=
  ∀ μ1 : Mem, μ1 = wr μ 3 4 ((μ 3 4) + (1 : Int32)) → (vp_in (μ 3 4) 100 ∧ ∀ μ3 : Mem, μ3 = wr μ1 19 (ix (μ 3 4)) a1 → (vp_in (μ 3 4) 100 ∧ ∀ μ6 : Mem, μ6 = wr μ3 20 (ix (μ 3 4)) a2 → (vp_in (μ 3 4) 100 ∧ ∀ μ9 : Mem, μ9 = wr μ6 21 (ix (μ 3 4)) a3 → (post (μ 3 4) μ9))))
/-! X0_makeLike -/
def w_X0_makeLike (post : Int32 → Mem → Prop) (a1 a2 a3 : Int32) (μ : Mem) : Prop :=
  vp_in a1 100 ∧ (w_X0_make (fun (r3 : Int32) (μ2 : Mem) => vp_in a1 100 ∧ ((¬ (a1 * (64 : Int32)) < 0 ∧ ¬ (r3 * (64 : Int32)) < 0 ∧ ¬ (μ2 19 (ix a1)) < 0 ∧ ix (a1 * (64 : Int32)) + ix (μ2 19 (ix a1)) ≤ 6400 ∧ ix (r3 * (64 : Int32)) + ix (μ2 19 (ix a1)) ≤ 6400 ∧ (∀ i, i < ix (μ2 19 (ix a1)) → fits .byte (.int (μ2 18 (ix (a1 * (64 : Int32)) + i))) = true)) ∧ ∀ μ5 : Mem, μ5 = wrow μ2 18 (va_cpy (μ2 18) (μ2 18) (ix (a1 * (64 : Int32))) (ix (r3 * (64 : Int32))) (ix (μ2 19 (ix a1)))) → (post r3 μ5))) (μ 19 (ix a1)) a2 a3 μ)
/-! X0_pieceAt -/
def w_X0_pieceAt_b5 (post : Int32 → Mem → Prop) (k5 : Int32 → Int32 → Int32 → Int32 → Mem → Prop) (v1 v2 v3 v4 : Int32) (μ : Mem) : Prop :=
  (((4 : Int32) ≤ v4) → (post v3 μ)) ∧ ((¬ (4 : Int32) ≤ v4) → (w_X0_byteOf (fun (r2 : Int32) (μ1 : Mem) => k5 v1 v2 ((v3 <<< ((8 : Int32) &&& 31)) ||| r2) (v4 + (1 : Int32)) μ1) v1 (v2 + v4) μ))
def w_X0_pieceAt (post : Int32 → Mem → Prop) (a1 a2 : Int32) (μ : Mem) : Prop :=
  (∃ n : Nat, itr (fun _ _ _ _ _ => False) (w_X0_pieceAt_b5 post) n a1 a2 (0 : Int32) (0 : Int32) μ)
/-! X0_put -/
def w_X0_put (post : Mem → Prop) (a1 a2 a3 : Int32) (μ : Mem) : Prop :=
  vp_in ((a1 * (64 : Int32)) + a2) 6400 ∧ ∀ μ1 : Mem, μ1 = wr μ 18 (ix ((a1 * (64 : Int32)) + a2)) (a3.toInt8.toInt32.toInt8.toInt32) → (post μ1)
/-! X1_drop -/
def w_X1_drop (post : Mem → Prop) (a1 : Int32) (μ : Mem) : Prop :=
  vp_in a1 60 ∧ ∀ μ1 : Mem, μ1 = wr μ 14 (ix a1) (-1 : Int32) → (vp_in a1 60 ∧ ∀ μ4 : Mem, μ4 = wr μ1 15 (ix a1) (-1 : Int32) → (vp_in a1 60 ∧ ∀ μ7 : Mem, μ7 = wr μ4 16 (ix a1) (-1 : Int32) → (post μ7)))
/-! X1_has -/
def w_X1_has (post : Int32 → Mem → Prop) (a1 : Int32) (μ : Mem) : Prop :=
  ((a1 < 0) → (post (0 : Int32) μ)) ∧ ((¬ a1 < 0) → ((((μ 2 4) ≤ a1) → (post (0 : Int32) μ)) ∧ ((¬ (μ 2 4) ≤ a1) → (vp_in a1 60 ∧ ((((μ 16 (ix a1)) = (-1 : Int32)) → (post (0 : Int32) μ)) ∧ ((¬ (μ 16 (ix a1)) = (-1 : Int32)) → (post (1 : Int32) μ)))))))
/-! X1_hasRoom -/
def w_X1_hasRoom (post : Int32 → Mem → Prop) (μ : Mem) : Prop :=
  (((60 : Int32) ≤ (μ 2 4)) → (post (0 : Int32) μ)) ∧ ((¬ (60 : Int32) ≤ (μ 2 4)) → (post (1 : Int32) μ))
/-! X1_having -/
def w_X1_having_b4 (post : Int32 → Mem → Prop) (k4 : Int32 → Int32 → Int32 → Mem → Prop) (v1 v2 v3 : Int32) (μ : Mem) : Prop :=
  (((μ 2 4) ≤ v3) → (post v2 μ)) ∧ ((¬ (μ 2 4) ≤ v3) → (vp_in v3 60 ∧ (((¬ (μ 16 (ix v3)) = v1) → (k4 v1 v2 (v3 + (1 : Int32)) μ)) ∧ (((μ 16 (ix v3)) = v1) → (k4 v1 (v2 + (1 : Int32)) (v3 + (1 : Int32)) μ)))))
def w_X1_having (post : Int32 → Mem → Prop) (a1 : Int32) (μ : Mem) : Prop :=
  (∃ n : Nat, itr (fun _ _ _ _ => False) (w_X1_having_b4 post) n a1 (0 : Int32) (0 : Int32) μ)
/-! X1_isIn -/
def w_X1_isIn (post : Int32 → Mem → Prop) (a1 a2 : Int32) (μ : Mem) : Prop :=
  vp_in a1 60 ∧ (((¬ (μ 14 (ix a1)) = a2) → (post (0 : Int32) μ)) ∧ (((μ 14 (ix a1)) = a2) → (post (1 : Int32) μ)))
/-! X1_make -/
def w_X1_make (post : Int32 → Mem → Prop) (a1 a2 a3 : Int32) (μ : Mem) : Prop :=
  ∀ μ1 : Mem, μ1 = wr μ 2 4 ((μ 2 4) + (1 : Int32)) → (vp_in (μ 2 4) 60 ∧ ∀ μ3 : Mem, μ3 = wr μ1 14 (ix (μ 2 4)) a1 → (vp_in (μ 2 4) 60 ∧ ∀ μ6 : Mem, μ6 = wr μ3 15 (ix (μ 2 4)) a2 → (vp_in (μ 2 4) 60 ∧ ∀ μ9 : Mem, μ9 = wr μ6 16 (ix (μ 2 4)) a3 → (post (μ 2 4) μ9))))
/-! X1_named -/
def w_X1_named_b2 (post : Int32 → Mem → Prop) (k2 : Int32 → Int32 → Int32 → Mem → Prop) (v1 v2 v3 : Int32) (μ : Mem) : Prop :=
  (((μ 2 4) ≤ v3) → (post (-1 : Int32) μ)) ∧ ((¬ (μ 2 4) ≤ v3) → (vp_in v3 60 ∧ (((¬ (μ 14 (ix v3)) = v1) → (k2 v1 v2 (v3 + (1 : Int32)) μ)) ∧ (((μ 14 (ix v3)) = v1) → (vp_in v3 60 ∧ (((¬ (μ 15 (ix v3)) = v2) → (k2 v1 v2 (v3 + (1 : Int32)) μ)) ∧ (((μ 15 (ix v3)) = v2) → (post v3 μ))))))))
def w_X1_named (post : Int32 → Mem → Prop) (a1 a2 : Int32) (μ : Mem) : Prop :=
  (∃ n : Nat, itr (fun _ _ _ _ => False) (w_X1_named_b2 post) n a1 a2 (0 : Int32) μ)
/-! X1_there -/
def w_X1_there (post : Int32 → Mem → Prop) (μ : Mem) : Prop :=
  w_X1_having (fun (r2 : Int32) (μ1 : Mem) => post ((μ 2 4) - r2) μ1) (-1 : Int32) μ
/-! X2_hasGreaterOne -/
def w_X2_hasGreaterOne_b4 (post : Int32 → Mem → Prop) (k4 : Int32 → Int32 → Mem → Prop) (v1 v2 : Int32) (μ : Mem) : Prop :=
  (((100 : Int32) ≤ v2) → (post (0 : Int32) μ)) ∧ ((¬ (100 : Int32) ≤ v2) → (vp_in v2 100 ∧ (((¬ (μ 23 (ix v2)) = v1) → (k4 v1 (v2 + (1 : Int32)) μ)) ∧ (((μ 23 (ix v2)) = v1) → (post (1 : Int32) μ)))))
def w_X2_hasGreaterOne (post : Int32 → Mem → Prop) (a1 : Int32) (μ : Mem) : Prop :=
  (∃ n : Nat, itr (fun _ _ _ => False) (w_X2_hasGreaterOne_b4 post) n a1 (a1 + (1 : Int32)) μ)
/-! X2_leastOfSize -/
def w_X2_leastOfSize_b2 (post : Int32 → Mem → Prop) (k2 : Int32 → Int32 → Mem → Prop) (v2 v3 : Int32) (μ : Mem) : Prop :=
  ((v2 ≤ v3) → (post v2 μ)) ∧ ((¬ v2 ≤ v3) → (vp_in v3 100 ∧ ((((μ 23 (ix v3)) = (-1 : Int32)) → (k2 v2 (v3 + (1 : Int32)) μ)) ∧ ((¬ (μ 23 (ix v3)) = (-1 : Int32)) → (vp_in v3 100 ∧ (vp_in v2 100 ∧ (((¬ (μ 19 (ix v3)) = (μ 19 (ix v2))) → (k2 v2 (v3 + (1 : Int32)) μ)) ∧ (((μ 19 (ix v3)) = (μ 19 (ix v2))) → (post v3 μ)))))))))
def w_X2_leastOfSize (post : Int32 → Mem → Prop) (a2 : Int32) (μ : Mem) : Prop :=
  (∃ n : Nat, itr (fun _ _ _ => False) (w_X2_leastOfSize_b2 post) n a2 (0 : Int32) μ)
/-! X2_leaveOutLoneOnes -/
def w_X2_leaveOutLoneOnes_b2 (post : Mem → Prop) (k2 : Int32 → Mem → Prop) (v1 : Int32) (μ : Mem) : Prop :=
  (((100 : Int32) ≤ v1) → (post μ)) ∧ ((¬ (100 : Int32) ≤ v1) → (vp_in v1 100 ∧ (((¬ (μ 23 (ix v1)) = v1) → (k2 (v1 + (1 : Int32)) μ)) ∧ (((μ 23 (ix v1)) = v1) → (w_X2_hasGreaterOne (fun (r3 : Int32) (μ2 : Mem) => ((¬ r3 = 0) → (k2 (v1 + (1 : Int32)) μ2)) ∧ ((r3 = 0) → (vp_in v1 100 ∧ ∀ μ4 : Mem, μ4 = wr μ2 23 (ix v1) (-1 : Int32) → (k2 (v1 + (1 : Int32)) μ4)))) v1 μ)))))
def w_X2_leaveOutLoneOnes (post : Mem → Prop) (μ : Mem) : Prop :=
  (∃ n : Nat, itr (fun _ _ => False) (w_X2_leaveOutLoneOnes_b2 post) n (0 : Int32) μ)
/-! X2_heapBySize -/
def w_X2_heapBySize_b10 (post : Mem → Prop) (k10 : Int32 → Mem → Prop) (v3 : Int32) (μ : Mem) : Prop :=
  (((μ 3 4) ≤ v3) → (w_X2_leaveOutLoneOnes (fun (μ3 : Mem) => post μ3) μ)) ∧ ((¬ (μ 3 4) ≤ v3) → (vp_in v3 100 ∧ ((((μ 19 (ix v3)) ≤ 0) → (k10 (v3 + (1 : Int32)) μ)) ∧ ((¬ (μ 19 (ix v3)) ≤ 0) → (w_X1_having (fun (r6 : Int32) (μ5 : Mem) => ((r6 ≤ 0) → (k10 (v3 + (1 : Int32)) μ5)) ∧ ((¬ r6 ≤ 0) → (w_X2_leastOfSize (fun (r8 : Int32) (μ7 : Mem) => vp_in v3 100 ∧ ∀ μ9 : Mem, μ9 = wr μ7 23 (ix v3) r8 → (k10 (v3 + (1 : Int32)) μ9)) v3 μ5))) v3 μ)))))
def w_X2_heapBySize (post : Mem → Prop) (μ : Mem) : Prop :=
  w_fill (fun μ1 => (∃ n : Nat, itr (fun _ _ => False) (w_X2_heapBySize_b10 post) n (0 : Int32) μ1)) 23 100 (-1 : Int32) μ
/-! X2_leastOfBlock -/
def w_X2_leastOfBlock_b23 (post : Int32 → Mem → Prop) (k23 : Int32 → Int32 → Int32 → Int32 → Mem → Prop) (v2 v3 v4 v5 : Int32) (μ : Mem) : Prop :=
  ((v2 ≤ v5) → (post v2 μ)) ∧ ((¬ v2 ≤ v5) → (vp_in v5 100 ∧ (vp_in v2 100 ∧ (((¬ (μ 24 (ix v5)) = (μ 24 (ix v2))) → (k23 v2 v3 v4 (v5 + (1 : Int32)) μ)) ∧ (((μ 24 (ix v5)) = (μ 24 (ix v2))) → (w_X0_areAlikeWithin (fun (r6 : Int32) (μ5 : Mem) => ((r6 = 0) → (k23 v2 v3 v4 (v5 + (1 : Int32)) μ5)) ∧ ((¬ r6 = 0) → (post v5 μ5))) v5 v2 v3 v4 μ))))))
def w_X2_leastOfBlock (post : Int32 → Mem → Prop) (a2 a3 : Int32) (μ : Mem) : Prop :=
  vp_in a2 100 ∧ (vp_in a2 100 ∧ ((∃ n : Nat, itr (fun _ _ _ _ _ => False) (w_X2_leastOfBlock_b23 post) n a2 a3 (if (μ 19 (ix a2)) < (a3 + (8 : Int32)) then (μ 19 (ix a2)) else (a3 + (8 : Int32))) (μ 24 (ix a2)) μ)))
/-! X2_numberGroups -/
def w_X2_numberGroups_b7 (post : Mem → Prop) (k7 : Int32 → Mem → Prop) (v1 : Int32) (μ : Mem) : Prop :=
  (((100 : Int32) ≤ v1) → (post μ)) ∧ ((¬ (100 : Int32) ≤ v1) → (vp_in v1 100 ∧ (((¬ (μ 23 (ix v1)) = (-1 : Int32)) → (((¬ (μ 23 (ix v1)) = v1) → (vp_in (μ 23 (ix v1)) 100 ∧ (vp_in v1 100 ∧ ∀ μ5 : Mem, μ5 = wr μ 22 (ix v1) (μ 22 (ix (μ 23 (ix v1)))) → (k7 (v1 + (1 : Int32)) μ5)))) ∧ (((μ 23 (ix v1)) = v1) → (vp_in v1 100 ∧ ∀ μ8 : Mem, μ8 = wr μ 22 (ix v1) (μ 4 3) → (∀ μ11 : Mem, μ11 = wr μ8 4 3 ((μ8 4 3) + (1 : Int32)) → (k7 (v1 + (1 : Int32)) μ11)))))) ∧ (((μ 23 (ix v1)) = (-1 : Int32)) → (vp_in v1 100 ∧ ∀ μ14 : Mem, μ14 = wr μ 22 (ix v1) (-1 : Int32) → (k7 (v1 + (1 : Int32)) μ14))))))
def w_X2_numberGroups (post : Mem → Prop) (μ : Mem) : Prop :=
  ∀ μ1 : Mem, μ1 = wr μ 4 3 (0 : Int32) → ((∃ n : Nat, itr (fun _ _ => False) (w_X2_numberGroups_b7 post) n (0 : Int32) μ1))
/-! X2_partByBlock -/
def w_X2_partByBlock_b17 (post : Mem → Prop) (k17 : Int32 → Int32 → Mem → Prop) (v2 v3 : Int32) (μ : Mem) : Prop :=
  (((μ 3 4) ≤ v3) → (w_X2_leaveOutLoneOnes (fun (μ4 : Mem) => post μ4) μ)) ∧ ((¬ (μ 3 4) ≤ v3) → (vp_in v3 100 ∧ ((((μ 24 (ix v3)) = (-1 : Int32)) → (k17 v2 (v3 + (1 : Int32)) μ)) ∧ ((¬ (μ 24 (ix v3)) = (-1 : Int32)) → (vp_in v3 100 ∧ ((((μ 19 (ix v3)) ≤ v2) → (k17 v2 (v3 + (1 : Int32)) μ)) ∧ ((¬ (μ 19 (ix v3)) ≤ v2) → (∀ μ7 : Mem, μ7 = wr μ 4 4 ((μ 4 4) + (1 : Int32)) → (w_X2_leastOfBlock (fun (r10 : Int32) (μ9 : Mem) => vp_in v3 100 ∧ ∀ μ11 : Mem, μ11 = wr μ9 23 (ix v3) r10 → (k17 v2 (v3 + (1 : Int32)) μ11)) v3 v2 μ7)))))))))
def w_X2_partByBlock (post : Mem → Prop) (a2 : Int32) (μ : Mem) : Prop :=
  (¬ (0 : Int32) < 0 ∧ ¬ (0 : Int32) < 0 ∧ ¬ (100 : Int32) < 0 ∧ ix (0 : Int32) + ix (100 : Int32) ≤ 100 ∧ ix (0 : Int32) + ix (100 : Int32) ≤ 100 ∧ (∀ i, i < ix (100 : Int32) → fits .int (.int (μ 23 (ix (0 : Int32) + i))) = true)) ∧ ∀ μ1 : Mem, μ1 = wrow μ 24 (va_cpy (μ 23) (μ 24) (ix (0 : Int32)) (ix (0 : Int32)) (ix (100 : Int32))) → ((∃ n : Nat, itr (fun _ _ _ => False) (w_X2_partByBlock_b17 post) n a2 (0 : Int32) μ1))
/-! X2_search -/
def w_X2_search_b13 (post : Mem → Prop) (k13 : Int32 → Mem → Prop) (v3 : Int32) (μ : Mem) : Prop :=
  (((64 : Int32) ≤ v3) → (w_X2_numberGroups (fun (μ4 : Mem) => post μ4) μ)) ∧ ((¬ (64 : Int32) ≤ v3) → (w_X2_partByBlock (fun (μ5 : Mem) => k13 (v3 + (8 : Int32)) μ5) v3 μ))
def w_X2_search (post : Mem → Prop) (μ : Mem) : Prop :=
  w_X2_heapBySize (fun (μ1 : Mem) => ∀ μ2 : Mem, μ2 = wr μ1 4 4 (0 : Int32) → ((∃ n : Nat, itr (fun _ _ => False) (w_X2_search_b13 post) n (0 : Int32) μ2))) μ
/-! X3_has -/
def w_X3_has (post : Int32 → Mem → Prop) (a1 : Int32) (μ : Mem) : Prop :=
  ((a1 < 0) → (post (0 : Int32) μ)) ∧ ((¬ a1 < 0) → ((((μ 1 3) ≤ a1) → (post (0 : Int32) μ)) ∧ ((¬ (μ 1 3) ≤ a1) → (post (1 : Int32) μ))))
/-! X3_hasRoom -/
def w_X3_hasRoom (post : Int32 → Mem → Prop) (μ : Mem) : Prop :=
  (((16 : Int32) ≤ (μ 1 3)) → (post (0 : Int32) μ)) ∧ ((¬ (16 : Int32) ≤ (μ 1 3)) → (post (1 : Int32) μ))
/-! X3_isInOrBelow -/
def w_X3_isInOrBelow_b5 (post : Int32 → Mem → Prop) (k5 : Int32 → Int32 → Int32 → Mem → Prop) (v2 v3 v4 : Int32) (μ : Mem) : Prop :=
  (((16 : Int32) ≤ v4) → (post (0 : Int32) μ)) ∧ ((¬ (16 : Int32) ≤ v4) → (((v3 = (-1 : Int32)) → (post (0 : Int32) μ)) ∧ ((¬ v3 = (-1 : Int32)) → (((¬ v3 = v2) → (vp_in v3 16 ∧ (k5 v2 (μ 11 (ix v3)) (v4 + (1 : Int32)) μ))) ∧ ((v3 = v2) → (post (1 : Int32) μ))))))
def w_X3_isInOrBelow (post : Int32 → Mem → Prop) (a1 a2 : Int32) (μ : Mem) : Prop :=
  (∃ n : Nat, itr (fun _ _ _ _ => False) (w_X3_isInOrBelow_b5 post) n a2 a1 (0 : Int32) μ)
/-! X3_make -/
def w_X3_make (post : Int32 → Mem → Prop) (a1 a2 : Int32) (μ : Mem) : Prop :=
  ∀ μ1 : Mem, μ1 = wr μ 1 3 ((μ 1 3) + (1 : Int32)) → (vp_in (μ 1 3) 16 ∧ ∀ μ3 : Mem, μ3 = wr μ1 11 (ix (μ 1 3)) a1 → (vp_in (μ 1 3) 16 ∧ ∀ μ6 : Mem, μ6 = wr μ3 12 (ix (μ 1 3)) a2 → (vp_in a1 16 ∧ (vp_in (μ 1 3) 16 ∧ ∀ μ10 : Mem, μ10 = wr μ6 13 (ix (μ 1 3)) ((μ6 13 (ix a1)) + (1 : Int32)) → (post (μ 1 3) μ10)))))
/-! X3_named -/
def w_X3_named_b2 (post : Int32 → Mem → Prop) (k2 : Int32 → Int32 → Int32 → Mem → Prop) (v1 v2 v3 : Int32) (μ : Mem) : Prop :=
  (((μ 1 3) ≤ v3) → (post (-1 : Int32) μ)) ∧ ((¬ (μ 1 3) ≤ v3) → (vp_in v3 16 ∧ (((¬ (μ 11 (ix v3)) = v1) → (k2 v1 v2 (v3 + (1 : Int32)) μ)) ∧ (((μ 11 (ix v3)) = v1) → (vp_in v3 16 ∧ (((¬ (μ 12 (ix v3)) = v2) → (k2 v1 v2 (v3 + (1 : Int32)) μ)) ∧ (((μ 12 (ix v3)) = v2) → (post v3 μ))))))))
def w_X3_named (post : Int32 → Mem → Prop) (a1 a2 : Int32) (μ : Mem) : Prop :=
  (∃ n : Nat, itr (fun _ _ _ _ => False) (w_X3_named_b2 post) n a1 a2 (1 : Int32) μ)
/-! X4_begin -/
def w_X4_begin_b22 (post : Mem → Prop) (v1 s0 : Int32) (μ : Mem) : Prop :=
  ∀ μ1 : Mem, μ1 = wr μ 8 2 s0 → (∀ μ3 : Mem, μ3 = wr μ1 8 3 (if (20 : Int32) < ((μ1 8 3) + (1 : Int32)) then (20 : Int32) else ((μ1 8 3) + (1 : Int32))) → (vp_in (μ3 8 2) 20 ∧ ∀ μ5 : Mem, μ5 = wr μ3 29 (ix (μ3 8 2)) v1 → (vp_in (μ5 8 2) 20 ∧ (w_fill (fun μ9 => post μ9) (ix (μ5 8 2) + 57) 60 (-1 : Int32) μ5))))
def w_X4_begin (post : Mem → Prop) (a1 : Int32) (μ : Mem) : Prop :=
  (((20 : Int32) ≤ ((μ 8 2) + (1 : Int32))) → (w_X4_begin_b22 post a1 (0 : Int32) μ)) ∧ ((¬ (20 : Int32) ≤ ((μ 8 2) + (1 : Int32))) → (w_X4_begin_b22 post a1 ((μ 8 2) + (1 : Int32)) μ))
/-! X4_dropLatest -/
def w_X4_dropLatest_b19 (post : Mem → Prop) (s0 : Int32) (μ : Mem) : Prop :=
  ∀ μ1 : Mem, μ1 = wr μ 8 2 s0 → (∀ μ3 : Mem, μ3 = wr μ1 8 3 ((μ1 8 3) - (1 : Int32)) → (post μ3))
def w_X4_dropLatest (post : Mem → Prop) (μ : Mem) : Prop :=
  (((μ 8 2) ≤ 0) → (w_X4_dropLatest_b19 post (19 : Int32) μ)) ∧ ((¬ (μ 8 2) ≤ 0) → (w_X4_dropLatest_b19 post ((μ 8 2) - (1 : Int32)) μ))
/-! X4_formerOwner -/
def w_X4_formerOwner (post : Int32 → Mem → Prop) (a1 : Int32) (μ : Mem) : Prop :=
  vp_in (μ 8 2) 20 ∧ (vp_in a1 60 ∧ (post (μ (ix (μ 8 2) + 57) (ix a1)) μ))
/-! X4_isStillMerged -/
def w_X4_isStillMerged (post : Int32 → Mem → Prop) (a2 : Int32) (μ : Mem) : Prop :=
  vp_in (μ 8 2) 20 ∧ (vp_in a2 60 ∧ ((((μ (ix (μ 8 2) + 57) (ix a2)) = (-1 : Int32)) → (post (0 : Int32) μ)) ∧ ((¬ (μ (ix (μ 8 2) + 57) (ix a2)) = (-1 : Int32)) → (vp_in a2 60 ∧ (vp_in (μ 8 2) 20 ∧ (((¬ (μ 16 (ix a2)) = (μ 29 (ix (μ 8 2)))) → (post (0 : Int32) μ)) ∧ (((μ 16 (ix a2)) = (μ 29 (ix (μ 8 2)))) → (post (1 : Int32) μ))))))))
/-! X4_note -/
def w_X4_note (post : Mem → Prop) (a1 a2 : Int32) (μ : Mem) : Prop :=
  vp_in (μ 8 2) 20 ∧ (vp_in a1 60 ∧ ∀ μ2 : Mem, μ2 = wr μ (ix (μ 8 2) + 57) (ix a1) a2 → (post μ2))
/-! X4_stillMerged -/
def w_X4_stillMerged_b4 (post : Int32 → Mem → Prop) (k4 : Int32 → Int32 → Mem → Prop) (v2 v3 : Int32) (μ : Mem) : Prop :=
  (((μ 2 4) ≤ v3) → (post v2 μ)) ∧ ((¬ (μ 2 4) ≤ v3) → (w_X4_isStillMerged (fun (r2 : Int32) (μ1 : Mem) => ((r2 = 0) → (k4 v2 (v3 + (1 : Int32)) μ1)) ∧ ((¬ r2 = 0) → (k4 (v2 + (1 : Int32)) (v3 + (1 : Int32)) μ1))) v3 μ))
def w_X4_stillMerged (post : Int32 → Mem → Prop) (μ : Mem) : Prop :=
  (∃ n : Nat, itr (fun _ _ _ => False) (w_X4_stillMerged_b4 post) n (0 : Int32) (0 : Int32) μ)
/-! X5_add_5 -/
def w_X5_add_5_b50 (post : Mem → Prop) (k50 : Int32 → Int32 → Int32 → Mem → Prop) (v1 v2 v3 : Int32) (μ : Mem) : Prop :=
  ((v3 ≤ v2) → (vp_in v2 61 ∧ ∀ μ1 : Mem, μ1 = wr μ 25 (ix v2) v1 → (∀ μ4 : Mem, μ4 = wr μ1 5 1 ((μ1 5 1) + (1 : Int32)) → (post μ4)))) ∧ ((¬ v3 ≤ v2) → (vp_in (v3 - (1 : Int32)) 61 ∧ (vp_in v3 61 ∧ ∀ μ7 : Mem, μ7 = wr μ 25 (ix v3) (μ 25 (ix (v3 - (1 : Int32)))) → (k50 v1 v2 (v3 + (-1 : Int32)) μ7))))
def w_X5_add_5_b45 (post : Mem → Prop) (v1 v2 : Int32) (μ : Mem) : Prop :=
  (∃ n : Nat, itr (fun _ _ _ _ => False) (w_X5_add_5_b50 post) n v1 v2 (μ 5 1) μ)
def w_X5_add_5_b26 (post : Mem → Prop) (v1 v2 : Int32) (μ : Mem) : Prop :=
  (((μ 5 1) ≤ v2) → (w_X5_add_5_b45 post v1 v2 μ)) ∧ ((¬ (μ 5 1) ≤ v2) → (vp_in v2 61 ∧ (((¬ (μ 25 (ix v2)) = v1) → (w_X5_add_5_b45 post v1 v2 μ)) ∧ (((μ 25 (ix v2)) = v1) → (post μ)))))
def w_X5_add_5_b2 (post : Mem → Prop) (k2 : Int32 → Int32 → Mem → Prop) (v1 v2 : Int32) (μ : Mem) : Prop :=
  (((μ 5 1) ≤ v2) → (w_X5_add_5_b26 post v1 v2 μ)) ∧ ((¬ (μ 5 1) ≤ v2) → (vp_in v2 61 ∧ (((v1 ≤ (μ 25 (ix v2))) → (w_X5_add_5_b26 post v1 v2 μ)) ∧ ((¬ v1 ≤ (μ 25 (ix v2))) → (k2 v1 (v2 + (1 : Int32)) μ)))))
def w_X5_add_5 (post : Mem → Prop) (a1 : Int32) (μ : Mem) : Prop :=
  (∃ n : Nat, itr (fun _ _ _ => False) (w_X5_add_5_b2 post) n a1 (0 : Int32) μ)
/-! X5_add_6 -/
def w_X5_add_6_b50 (post : Mem → Prop) (k50 : Int32 → Int32 → Int32 → Mem → Prop) (v1 v2 v3 : Int32) (μ : Mem) : Prop :=
  ((v3 ≤ v2) → (vp_in v2 61 ∧ ∀ μ1 : Mem, μ1 = wr μ 26 (ix v2) v1 → (∀ μ4 : Mem, μ4 = wr μ1 6 1 ((μ1 6 1) + (1 : Int32)) → (post μ4)))) ∧ ((¬ v3 ≤ v2) → (vp_in (v3 - (1 : Int32)) 61 ∧ (vp_in v3 61 ∧ ∀ μ7 : Mem, μ7 = wr μ 26 (ix v3) (μ 26 (ix (v3 - (1 : Int32)))) → (k50 v1 v2 (v3 + (-1 : Int32)) μ7))))
def w_X5_add_6_b45 (post : Mem → Prop) (v1 v2 : Int32) (μ : Mem) : Prop :=
  (∃ n : Nat, itr (fun _ _ _ _ => False) (w_X5_add_6_b50 post) n v1 v2 (μ 6 1) μ)
def w_X5_add_6_b26 (post : Mem → Prop) (v1 v2 : Int32) (μ : Mem) : Prop :=
  (((μ 6 1) ≤ v2) → (w_X5_add_6_b45 post v1 v2 μ)) ∧ ((¬ (μ 6 1) ≤ v2) → (vp_in v2 61 ∧ (((¬ (μ 26 (ix v2)) = v1) → (w_X5_add_6_b45 post v1 v2 μ)) ∧ (((μ 26 (ix v2)) = v1) → (post μ)))))
def w_X5_add_6_b2 (post : Mem → Prop) (k2 : Int32 → Int32 → Mem → Prop) (v1 v2 : Int32) (μ : Mem) : Prop :=
  (((μ 6 1) ≤ v2) → (w_X5_add_6_b26 post v1 v2 μ)) ∧ ((¬ (μ 6 1) ≤ v2) → (vp_in v2 61 ∧ (((v1 ≤ (μ 26 (ix v2))) → (w_X5_add_6_b26 post v1 v2 μ)) ∧ ((¬ v1 ≤ (μ 26 (ix v2))) → (k2 v1 (v2 + (1 : Int32)) μ)))))
def w_X5_add_6 (post : Mem → Prop) (a1 : Int32) (μ : Mem) : Prop :=
  (∃ n : Nat, itr (fun _ _ _ => False) (w_X5_add_6_b2 post) n a1 (0 : Int32) μ)
/-! X5_gather_5 -/
def w_X5_gather_5_b7 (post : Mem → Prop) (k7 : Int32 → Int32 → Mem → Prop) (v2 v3 : Int32) (μ : Mem) : Prop :=
  vp_in v2 100 ∧ ((((μ 19 (ix v2)) < (v3 + (4 : Int32))) → (post μ)) ∧ ((¬ (μ 19 (ix v2)) < (v3 + (4 : Int32))) → (w_X0_pieceAt (fun (r5 : Int32) (μ4 : Mem) => w_X5_add_5 (fun (μ6 : Mem) => k7 v2 (v3 + (1 : Int32)) μ6) r5 μ4) v2 v3 μ)))
def w_X5_gather_5 (post : Mem → Prop) (a2 : Int32) (μ : Mem) : Prop :=
  ∀ μ1 : Mem, μ1 = wr μ 5 1 (0 : Int32) → ((∃ n : Nat, itr (fun _ _ _ => False) (w_X5_gather_5_b7 post) n a2 (0 : Int32) μ1))
/-! X5_gather_6 -/
def w_X5_gather_6_b7 (post : Mem → Prop) (k7 : Int32 → Int32 → Mem → Prop) (v2 v3 : Int32) (μ : Mem) : Prop :=
  vp_in v2 100 ∧ ((((μ 19 (ix v2)) < (v3 + (4 : Int32))) → (post μ)) ∧ ((¬ (μ 19 (ix v2)) < (v3 + (4 : Int32))) → (w_X0_pieceAt (fun (r5 : Int32) (μ4 : Mem) => w_X5_add_6 (fun (μ6 : Mem) => k7 v2 (v3 + (1 : Int32)) μ6) r5 μ4) v2 v3 μ)))
def w_X5_gather_6 (post : Mem → Prop) (a2 : Int32) (μ : Mem) : Prop :=
  ∀ μ1 : Mem, μ1 = wr μ 6 1 (0 : Int32) → ((∃ n : Nat, itr (fun _ _ _ => False) (w_X5_gather_6_b7 post) n a2 (0 : Int32) μ1))
/-! X5_sharedWith_5 -/
def w_X5_sharedWith_5_b46 (post : Int32 → Mem → Prop) (k7 : Int32 → Int32 → Int32 → Mem → Prop) (v2 v3 v4 : Int32) (μ : Mem) : Prop :=
  (((μ 6 1) ≤ v3) → (k7 v2 v3 (v4 + (1 : Int32)) μ)) ∧ ((¬ (μ 6 1) ≤ v3) → (vp_in v3 61 ∧ (vp_in v4 61 ∧ (((¬ (μ 26 (ix v3)) = (μ 25 (ix v4))) → (k7 v2 v3 (v4 + (1 : Int32)) μ)) ∧ (((μ 26 (ix v3)) = (μ 25 (ix v4))) → (k7 (v2 + (1 : Int32)) v3 (v4 + (1 : Int32)) μ))))))
def w_X5_sharedWith_5_b16 (post : Int32 → Mem → Prop) (k7 : Int32 → Int32 → Int32 → Mem → Prop) (k16 : Int32 → Int32 → Int32 → Mem → Prop) (v2 v3 v4 : Int32) (μ : Mem) : Prop :=
  (((μ 6 1) ≤ v3) → (w_X5_sharedWith_5_b46 post k7 v2 v3 v4 μ)) ∧ ((¬ (μ 6 1) ≤ v3) → (vp_in v3 61 ∧ (vp_in v4 61 ∧ ((((μ 25 (ix v4)) ≤ (μ 26 (ix v3))) → (w_X5_sharedWith_5_b46 post k7 v2 v3 v4 μ)) ∧ ((¬ (μ 25 (ix v4)) ≤ (μ 26 (ix v3))) → (k16 v2 (v3 + (1 : Int32)) v4 μ))))))
def w_X5_sharedWith_5_b7 (post : Int32 → Mem → Prop) (k7 : Int32 → Int32 → Int32 → Mem → Prop) (v2 v3 v4 : Int32) (μ : Mem) : Prop :=
  (((μ 5 1) ≤ v4) → (post v2 μ)) ∧ ((¬ (μ 5 1) ≤ v4) → ((∃ n : Nat, itr (fun _ _ _ _ => False) (w_X5_sharedWith_5_b16 post k7) n v2 v3 v4 μ)))
def w_X5_sharedWith_5 (post : Int32 → Mem → Prop) (μ : Mem) : Prop :=
  (∃ n : Nat, itr (fun _ _ _ _ => False) (w_X5_sharedWith_5_b7 post) n (0 : Int32) (0 : Int32) (0 : Int32) μ)
/-! X5_nearnessTo_5 -/
def w_X5_nearnessTo_5 (post : Int32 → Mem → Prop) (μ : Mem) : Prop :=
  w_X5_sharedWith_5 (fun (r2 : Int32) (μ1 : Mem) => ((¬ (((μ1 5 1) + (μ1 6 1)) - r2) = 0) → (¬ (((μ1 5 1) + (μ1 6 1)) - r2) = 0 ∧ (post (((1000 : Int32) * r2) / (((μ1 5 1) + (μ1 6 1)) - r2)) μ1))) ∧ (((((μ1 5 1) + (μ1 6 1)) - r2) = 0) → (post (0 : Int32) μ1))) μ
/-! X6_add -/
def w_X6_add (post : Mem → Prop) (a1 a2 : Int32) (μ : Mem) : Prop :=
  vp_in (μ 7 2) 3 ∧ ∀ μ1 : Mem, μ1 = wr μ 27 (ix (μ 7 2)) a1 → (vp_in (μ1 7 2) 3 ∧ ∀ μ4 : Mem, μ4 = wr μ1 28 (ix (μ1 7 2)) a2 → (∀ μ7 : Mem, μ7 = wr μ4 7 2 ((μ4 7 2) + (1 : Int32)) → (post μ7)))
/-! X6_has -/
def w_X6_has_b2 (post : Int32 → Mem → Prop) (k2 : Int32 → Int32 → Int32 → Mem → Prop) (v1 v2 v3 : Int32) (μ : Mem) : Prop :=
  (((μ 7 2) ≤ v3) → (post (0 : Int32) μ)) ∧ ((¬ (μ 7 2) ≤ v3) → (vp_in v3 3 ∧ (((¬ (μ 27 (ix v3)) = v1) → (k2 v1 v2 (v3 + (1 : Int32)) μ)) ∧ (((μ 27 (ix v3)) = v1) → (vp_in v3 3 ∧ (((¬ (μ 28 (ix v3)) = v2) → (k2 v1 v2 (v3 + (1 : Int32)) μ)) ∧ (((μ 28 (ix v3)) = v2) → (post (1 : Int32) μ))))))))
def w_X6_has (post : Int32 → Mem → Prop) (a1 a2 : Int32) (μ : Mem) : Prop :=
  (∃ n : Nat, itr (fun _ _ _ _ => False) (w_X6_has_b2 post) n a1 a2 (0 : Int32) μ)
/-! X6_hasRoom -/
def w_X6_hasRoom (post : Int32 → Mem → Prop) (μ : Mem) : Prop :=
  (((3 : Int32) ≤ (μ 7 2)) → (post (0 : Int32) μ)) ∧ ((¬ (3 : Int32) ≤ (μ 7 2)) → (post (1 : Int32) μ))
/-! X7_needFile -/
def w_X7_needFile (post : Mem → Prop) (xq : XP) (a1 : Int32) (μ : Mem) : Prop :=
  w_X1_has (fun (r2 : Int32) (μ1 : Mem) => ((¬ r2 = 0) → (post μ1)) ∧ ((r2 = 0) → (xq "java/util/NoSuchElementException" μ1))) a1 μ
/-! X7_about -/
def w_X7_about (post : Int32 → Mem → Prop) (xq : XP) (a1 a2 : Int32) (μ : Mem) : Prop :=
  w_X7_needFile (fun (μ1 : Mem) => vp_in a1 60 ∧ (((a2 = 0) → (vp_in a1 60 ∧ (post (μ1 14 (ix a1)) μ1))) ∧ ((¬ a2 = 0) → (((a2 = 1) → (vp_in a1 60 ∧ (post (μ1 15 (ix a1)) μ1))) ∧ ((¬ a2 = 1) → (((a2 = 2) → (post (μ1 16 (ix a1)) μ1)) ∧ ((¬ a2 = 2) → (((a2 = 3) → (vp_in (μ1 16 (ix a1)) 100 ∧ (post (μ1 19 (ix (μ1 16 (ix a1)))) μ1))) ∧ ((¬ a2 = 3) → (((a2 = 4) → (vp_in (μ1 16 (ix a1)) 100 ∧ (post (μ1 20 (ix (μ1 16 (ix a1)))) μ1))) ∧ ((¬ a2 = 4) → (((a2 = 5) → (vp_in (μ1 16 (ix a1)) 100 ∧ (post (μ1 21 (ix (μ1 16 (ix a1)))) μ1))) ∧ ((¬ a2 = 5) → (((a2 = 6) → (w_X1_having (fun (r15 : Int32) (μ14 : Mem) => post r15 μ14) (μ1 16 (ix a1)) μ1)) ∧ ((¬ a2 = 6) → (((a2 = 7) → (vp_in a1 60 ∧ ((((μ1 17 (ix a1)) = 0) → (post (0 : Int32) μ1)) ∧ ((¬ (μ1 17 (ix a1)) = 0) → (post (1 : Int32) μ1))))) ∧ ((¬ a2 = 7) → (((a2 = 8) → (vp_in a1 60 ∧ (vp_in (μ1 14 (ix a1)) 16 ∧ (post (μ1 13 (ix (μ1 14 (ix a1)))) μ1)))) ∧ ((¬ a2 = 8) → (xq "java/util/NoSuchElementException" μ1)))))))))))))))))))) xq a1 μ
/-! X7_at -/
def w_X7_at_b32 (post : Int32 → Mem → Prop) (xq : XP) (μ : Mem) : Prop :=
  xq "java/util/NoSuchElementException" μ
def w_X7_at (post : Int32 → Mem → Prop) (xq : XP) (a1 a2 : Int32) (μ : Mem) : Prop :=
  w_X7_needFile (fun (μ1 : Mem) => vp_in a1 60 ∧ (((a2 < 0) → (w_X7_at_b32 post xq μ1)) ∧ ((¬ a2 < 0) → (vp_in (μ1 16 (ix a1)) 100 ∧ (((a2 < (μ1 19 (ix (μ1 16 (ix a1))))) → (w_X0_byteOf (fun (r5 : Int32) (μ4 : Mem) => post r5 μ4) (μ1 16 (ix a1)) a2 μ1)) ∧ ((¬ a2 < (μ1 19 (ix (μ1 16 (ix a1))))) → (w_X7_at_b32 post xq μ1))))))) xq a1 μ
/-! X7_bodiesThere -/
def w_X7_bodiesThere_b4 (post : Int32 → Mem → Prop) (k4 : Int32 → Int32 → Mem → Prop) (v1 v2 : Int32) (μ : Mem) : Prop :=
  (((μ 3 4) ≤ v2) → (post v1 μ)) ∧ ((¬ (μ 3 4) ≤ v2) → (w_X1_having (fun (r2 : Int32) (μ1 : Mem) => ((r2 ≤ 0) → (k4 v1 (v2 + (1 : Int32)) μ1)) ∧ ((¬ r2 ≤ 0) → (k4 (v1 + (1 : Int32)) (v2 + (1 : Int32)) μ1))) v2 μ))
def w_X7_bodiesThere (post : Int32 → Mem → Prop) (μ : Mem) : Prop :=
  (∃ n : Nat, itr (fun _ _ _ => False) (w_X7_bodiesThere_b4 post) n (0 : Int32) (0 : Int32) μ)
/-! X7_bytesThere -/
def w_X7_bytesThere_b4 (post : Int32 → Mem → Prop) (k4 : Int32 → Int32 → Mem → Prop) (v1 v2 : Int32) (μ : Mem) : Prop :=
  (((μ 3 4) ≤ v2) → (post v1 μ)) ∧ ((¬ (μ 3 4) ≤ v2) → (w_X1_having (fun (r2 : Int32) (μ1 : Mem) => ((r2 ≤ 0) → (k4 v1 (v2 + (1 : Int32)) μ1)) ∧ ((¬ r2 ≤ 0) → (vp_in v2 100 ∧ (k4 (v1 + (μ1 19 (ix v2))) (v2 + (1 : Int32)) μ1)))) v2 μ))
def w_X7_bytesThere (post : Int32 → Mem → Prop) (μ : Mem) : Prop :=
  (∃ n : Nat, itr (fun _ _ _ => False) (w_X7_bytesThere_b4 post) n (0 : Int32) (0 : Int32) μ)
/-! X7_isName -/
def w_X7_isName (post : Int32 → Mem → Prop) (a0 : Int32) (μ : Mem) : Prop :=
  ((a0 < 0) → (post (0 : Int32) μ)) ∧ ((¬ a0 < 0) → ((((1000 : Int32) ≤ a0) → (post (0 : Int32) μ)) ∧ ((¬ (1000 : Int32) ≤ a0) → (post (1 : Int32) μ))))
/-! X7_isFreeName -/
def w_X7_isFreeName (post : Int32 → Mem → Prop) (a1 a2 : Int32) (μ : Mem) : Prop :=
  w_X7_isName (fun (r2 : Int32) (μ1 : Mem) => ((r2 = 0) → (post (0 : Int32) μ1)) ∧ ((¬ r2 = 0) → (w_X1_named (fun (r4 : Int32) (μ3 : Mem) => ((¬ r4 = (-1 : Int32)) → (post (0 : Int32) μ3)) ∧ ((r4 = (-1 : Int32)) → (post (1 : Int32) μ3))) a1 a2 μ1))) a2 μ
/-! X7_mayCome -/
def w_X7_mayCome (post : Int32 → Mem → Prop) (a1 a2 : Int32) (μ : Mem) : Prop :=
  w_X1_hasRoom (fun (r2 : Int32) (μ1 : Mem) => ((r2 = 0) → (post (0 : Int32) μ1)) ∧ ((¬ r2 = 0) → (w_X7_isFreeName (fun (r4 : Int32) (μ3 : Mem) => ((r4 = 0) → (post (0 : Int32) μ3)) ∧ ((¬ r4 = 0) → (post (1 : Int32) μ3))) a1 a2 μ1))) μ
/-! X7_needFolder -/
def w_X7_needFolder (post : Mem → Prop) (xq : XP) (a1 : Int32) (μ : Mem) : Prop :=
  w_X3_has (fun (r2 : Int32) (μ1 : Mem) => ((¬ r2 = 0) → (post μ1)) ∧ ((r2 = 0) → (xq "java/util/NoSuchElementException" μ1))) a1 μ
/-! X7_copy -/
def w_X7_copy (post : Int32 → Mem → Prop) (xq : XP) (a1 a2 a3 : Int32) (μ : Mem) : Prop :=
  w_X7_needFile (fun (μ1 : Mem) => w_X7_needFolder (fun (μ2 : Mem) => w_X7_mayCome (fun (r4 : Int32) (μ3 : Mem) => ((r4 = 0) → (post (-1 : Int32) μ3)) ∧ ((¬ r4 = 0) → (w_X0_hasRoomFor (fun (r6 : Int32) (μ5 : Mem) => ((¬ r6 = 0) → (vp_in a1 60 ∧ (vp_in (μ5 16 (ix a1)) 100 ∧ (w_X0_makeLike (fun (r10 : Int32) (μ9 : Mem) => w_X1_make (fun (r12 : Int32) (μ11 : Mem) => post r12 μ11) a2 a3 r10 μ9) (μ5 16 (ix a1)) (μ5 20 (ix (μ5 16 (ix a1)))) (μ5 0 10) μ5)))) ∧ ((r6 = 0) → (post (-1 : Int32) μ5))) (1 : Int32) μ3))) a2 a3 μ2) xq a2 μ1) xq a1 μ
/-! X7_count -/
def w_X7_count (post : Int32 → Mem → Prop) (xq : XP) (a1 : Int32) (μ : Mem) : Prop :=
  ((a1 = 0) → (post (μ 1 3) μ)) ∧ ((¬ a1 = 0) → (((a1 = 1) → (w_X1_there (fun (r3 : Int32) (μ2 : Mem) => post r3 μ2) μ)) ∧ ((¬ a1 = 1) → (((a1 = 2) → (w_X7_bodiesThere (fun (r6 : Int32) (μ5 : Mem) => post r6 μ5) μ)) ∧ ((¬ a1 = 2) → (((a1 = 3) → (w_X7_bytesThere (fun (r9 : Int32) (μ8 : Mem) => post r9 μ8) μ)) ∧ ((¬ a1 = 3) → (((a1 = 4) → (post (μ 0 11) μ)) ∧ ((¬ a1 = 4) → (((a1 = 5) → (post (μ 8 3) μ)) ∧ ((¬ a1 = 5) → (((a1 = 6) → (post (μ 0 10) μ)) ∧ ((¬ a1 = 6) → (((a1 = 7) → (post (μ 3 4) μ)) ∧ ((¬ a1 = 7) → (xq "java/util/NoSuchElementException" μ))))))))))))))))
/-! X7_days -/
def w_X7_days_b11 (post : Int32 → Mem → Prop) (xq : XP) (μ : Mem) : Prop :=
  xq "java/lang/IllegalArgumentException" μ
def w_X7_days (post : Int32 → Mem → Prop) (xq : XP) (a1 : Int32) (μ : Mem) : Prop :=
  ((a1 < 0) → (w_X7_days_b11 post xq μ)) ∧ ((¬ a1 < 0) → (((a1 ≤ (1000 : Int32)) → (∀ μ1 : Mem, μ1 = wr μ 0 10 ((μ 0 10) + a1) → (post (μ1 0 10) μ1))) ∧ ((¬ a1 ≤ (1000 : Int32)) → (w_X7_days_b11 post xq μ))))
/-! X7_fileDifferences -/
def w_X7_fileDifferences_b89 (post : Int32 → Mem → Prop) (k5 : Int32 → Int32 → Int32 → Int32 → Mem → Prop) (v1 v2 v3 v4 : Int32) (μ : Mem) : Prop :=
  w_X1_isIn (fun (r4 : Int32) (μ3 : Mem) => ((r4 = 0) → (k5 v1 v2 v3 (v4 + (1 : Int32)) μ3)) ∧ ((¬ r4 = 0) → (vp_in v4 60 ∧ (w_X1_named (fun (r7 : Int32) (μ6 : Mem) => ((¬ r7 = (-1 : Int32)) → (k5 v1 v2 v3 (v4 + (1 : Int32)) μ6)) ∧ ((r7 = (-1 : Int32)) → (k5 v1 v2 (v3 + (1 : Int32)) (v4 + (1 : Int32)) μ6))) v1 (μ3 15 (ix v4)) μ3)))) v4 v2 μ
def w_X7_fileDifferences_b86 (post : Int32 → Mem → Prop) (k5 : Int32 → Int32 → Int32 → Int32 → Mem → Prop) (v1 v2 v3 v4 : Int32) (μ : Mem) : Prop :=
  w_X7_fileDifferences_b89 post k5 v1 v2 (v3 + (1 : Int32)) v4 μ
def w_X7_fileDifferences_b5 (post : Int32 → Mem → Prop) (k5 : Int32 → Int32 → Int32 → Int32 → Mem → Prop) (v1 v2 v3 v4 : Int32) (μ : Mem) : Prop :=
  (((μ 2 4) ≤ v4) → (post v3 μ)) ∧ ((¬ (μ 2 4) ≤ v4) → (w_X1_isIn (fun (r2 : Int32) (μ1 : Mem) => ((r2 = 0) → (w_X7_fileDifferences_b89 post k5 v1 v2 v3 v4 μ1)) ∧ ((¬ r2 = 0) → (vp_in v4 60 ∧ (w_X1_named (fun (r12 : Int32) (μ11 : Mem) => ((r12 = (-1 : Int32)) → (w_X7_fileDifferences_b86 post k5 v1 v2 v3 v4 μ11)) ∧ ((¬ r12 = (-1 : Int32)) → (vp_in v4 60 ∧ (vp_in r12 60 ∧ (w_X0_areAlike (fun (r16 : Int32) (μ15 : Mem) => ((¬ r16 = 0) → (w_X7_fileDifferences_b89 post k5 v1 v2 v3 v4 μ15)) ∧ ((r16 = 0) → (w_X7_fileDifferences_b86 post k5 v1 v2 v3 v4 μ15))) (μ11 16 (ix v4)) (μ11 16 (ix r12)) μ11))))) v2 (μ1 15 (ix v4)) μ1)))) v4 v1 μ))
def w_X7_fileDifferences (post : Int32 → Mem → Prop) (a1 a2 : Int32) (μ : Mem) : Prop :=
  (∃ n : Nat, itr (fun _ _ _ _ _ => False) (w_X7_fileDifferences_b5 post) n a1 a2 (0 : Int32) (0 : Int32) μ)
/-! X7_foldersAlone -/
def w_X7_foldersAlone_b5 (post : Int32 → Mem → Prop) (k5 : Int32 → Int32 → Int32 → Int32 → Mem → Prop) (v1 v2 v3 v4 : Int32) (μ : Mem) : Prop :=
  (((μ 1 3) ≤ v4) → (post v3 μ)) ∧ ((¬ (μ 1 3) ≤ v4) → (vp_in v4 16 ∧ (((¬ (μ 11 (ix v4)) = v1) → (k5 v1 v2 v3 (v4 + (1 : Int32)) μ)) ∧ (((μ 11 (ix v4)) = v1) → (vp_in v4 16 ∧ (w_X3_named (fun (r4 : Int32) (μ3 : Mem) => ((¬ r4 = (-1 : Int32)) → (k5 v1 v2 v3 (v4 + (1 : Int32)) μ3)) ∧ ((r4 = (-1 : Int32)) → (k5 v1 v2 (v3 + (1 : Int32)) (v4 + (1 : Int32)) μ3))) v2 (μ 12 (ix v4)) μ))))))
def w_X7_foldersAlone (post : Int32 → Mem → Prop) (a1 a2 : Int32) (μ : Mem) : Prop :=
  (∃ n : Nat, itr (fun _ _ _ _ _ => False) (w_X7_foldersAlone_b5 post) n a1 a2 (0 : Int32) (1 : Int32) μ)
/-! X7_differencesHere -/
def w_X7_differencesHere (post : Int32 → Mem → Prop) (a1 a2 : Int32) (μ : Mem) : Prop :=
  w_X7_fileDifferences (fun (r2 : Int32) (μ1 : Mem) => w_X7_foldersAlone (fun (r4 : Int32) (μ3 : Mem) => post (r2 + r4) μ3) a2 a1 μ1) a1 a2 μ
/-! X7_differ -/
def w_X7_differ_b121 (post : Int32 → Mem → Prop) (xq : XP) (k37 : Int32 → Int32 → Mem → Prop) (v4 s0 s1 : Int32) (μ : Mem) : Prop :=
  k37 (s1 + s0) (v4 + (1 : Int32)) μ
def w_X7_differ_b37 (post : Int32 → Mem → Prop) (xq : XP) (k37 : Int32 → Int32 → Mem → Prop) (v3 v4 : Int32) (μ : Mem) : Prop :=
  (((μ 1 3) ≤ v4) → (post v3 μ)) ∧ ((¬ (μ 1 3) ≤ v4) → (vp_in v4 16 ∧ (vp_in (μ 11 (ix v4)) 16 ∧ ((((μ 10 (ix (μ 11 (ix v4)))) = (-1 : Int32)) → (k37 v3 (v4 + (1 : Int32)) μ)) ∧ ((¬ (μ 10 (ix (μ 11 (ix v4)))) = (-1 : Int32)) → (vp_in v4 16 ∧ (w_X3_named (fun (r14 : Int32) (μ13 : Mem) => vp_in v4 16 ∧ ∀ μ15 : Mem, μ15 = wr μ13 10 (ix v4) r14 → (((¬ r14 = (-1 : Int32)) → (w_X7_differencesHere (fun (r19 : Int32) (μ18 : Mem) => w_X7_differ_b121 post xq k37 v4 r19 v3 μ18) v4 r14 μ15)) ∧ ((r14 = (-1 : Int32)) → (w_X7_differ_b121 post xq k37 v4 (1 : Int32) v3 μ15)))) (μ 10 (ix (μ 11 (ix v4)))) (μ 12 (ix v4)) μ)))))))
def w_X7_differ (post : Int32 → Mem → Prop) (xq : XP) (a1 a2 : Int32) (μ : Mem) : Prop :=
  w_X7_needFolder (fun (μ1 : Mem) => w_X7_needFolder (fun (μ2 : Mem) => w_fill (fun μ3 => vp_in a1 16 ∧ ∀ μ5 : Mem, μ5 = wr μ3 10 (ix a1) a2 → (w_X7_differencesHere (fun (r9 : Int32) (μ8 : Mem) => (∃ n : Nat, itr (fun _ _ _ => False) (w_X7_differ_b37 post xq) n r9 (a1 + (1 : Int32)) μ8)) a1 a2 μ5)) 10 16 (-1 : Int32) μ2) xq a2 μ1) xq a1 μ
/-! X7_isOwner -/
def w_X7_isOwner (post : Int32 → Mem → Prop) (a0 : Int32) (μ : Mem) : Prop :=
  ((a0 < 0) → (post (0 : Int32) μ)) ∧ ((¬ a0 < 0) → ((((8 : Int32) ≤ a0) → (post (0 : Int32) μ)) ∧ ((¬ (8 : Int32) ≤ a0) → (post (1 : Int32) μ))))
/-! X7_file -/
def w_X7_file (post : Int32 → Mem → Prop) (xq : XP) (a1 a2 a3 a4 : Int32) (μ : Mem) : Prop :=
  w_X7_needFolder (fun (μ1 : Mem) => w_X7_isOwner (fun (r3 : Int32) (μ2 : Mem) => ((r3 = 0) → (post (-1 : Int32) μ2)) ∧ ((¬ r3 = 0) → (((a4 < 0) → (post (-1 : Int32) μ2)) ∧ ((¬ a4 < 0) → (((a4 ≤ (64 : Int32)) → (w_X7_mayCome (fun (r5 : Int32) (μ4 : Mem) => ((r5 = 0) → (post (-1 : Int32) μ4)) ∧ ((¬ r5 = 0) → (w_X0_hasRoomFor (fun (r7 : Int32) (μ6 : Mem) => ((¬ r7 = 0) → (w_X0_make (fun (r9 : Int32) (μ8 : Mem) => w_X1_make (fun (r11 : Int32) (μ10 : Mem) => post r11 μ10) a1 a2 r9 μ8) a4 a3 (μ6 0 10) μ6)) ∧ ((r7 = 0) → (post (-1 : Int32) μ6))) (1 : Int32) μ4))) a1 a2 μ2)) ∧ ((¬ a4 ≤ (64 : Int32)) → (post (-1 : Int32) μ2))))))) a3 μ1) xq a1 μ
/-! X7_noteWritten -/
def w_X7_noteWritten (post : Mem → Prop) (a1 : Int32) (μ : Mem) : Prop :=
  vp_in a1 100 ∧ ∀ μ1 : Mem, μ1 = wr μ 21 (ix a1) (μ 0 10) → (vp_in a1 100 ∧ ∀ μ4 : Mem, μ4 = wr μ1 22 (ix a1) (-1 : Int32) → (post μ4))
/-! X7_fill -/
def w_X7_fill_b39 (post : Int32 → Mem → Prop) (xq : XP) (μ : Mem) : Prop :=
  xq "java/lang/IllegalArgumentException" μ
def w_X7_fill_b88 (post : Int32 → Mem → Prop) (xq : XP) (v5 : Int32) (μ : Mem) : Prop :=
  w_X1_having (fun (r5 : Int32) (μ4 : Mem) => post (r5 - (1 : Int32)) μ4) v5 μ
def w_X7_fill_b52 (post : Int32 → Mem → Prop) (xq : XP) (k52 : Int32 → Int32 → Int32 → Int32 → Int32 → Mem → Prop) (v2 v3 v4 v5 v6 : Int32) (μ : Mem) : Prop :=
  ((v3 ≤ v6) → (((v3 ≤ v2) → (w_X7_fill_b88 post xq v5 μ)) ∧ ((¬ v3 ≤ v2) → (w_X7_noteWritten (fun (μ6 : Mem) => w_X7_fill_b88 post xq v5 μ6) v5 μ)))) ∧ ((¬ v3 ≤ v6) → (w_X0_put (fun (μ8 : Mem) => k52 v2 v3 v4 v5 (v6 + (1 : Int32)) μ8) v5 v6 v4 μ))
def w_X7_fill (post : Int32 → Mem → Prop) (xq : XP) (a1 a2 a3 a4 : Int32) (μ : Mem) : Prop :=
  w_X7_needFile (fun (μ1 : Mem) => vp_in a1 60 ∧ (((a2 < 0) → (w_X7_fill_b39 post xq μ1)) ∧ ((¬ a2 < 0) → (((a3 < a2) → (w_X7_fill_b39 post xq μ1)) ∧ ((¬ a3 < a2) → (vp_in (μ1 16 (ix a1)) 100 ∧ (((a3 ≤ (μ1 19 (ix (μ1 16 (ix a1))))) → ((∃ n : Nat, itr (fun _ _ _ _ _ _ => False) (w_X7_fill_b52 post xq) n a2 a3 a4 (μ1 16 (ix a1)) a2 μ1))) ∧ ((¬ a3 ≤ (μ1 19 (ix (μ1 16 (ix a1))))) → (w_X7_fill_b39 post xq μ1))))))))) xq a1 μ
/-! X7_find -/
def w_X7_find (post : Int32 → Mem → Prop) (μ : Mem) : Prop :=
  w_X2_search (fun (μ1 : Mem) => post (μ1 4 3) μ1) μ
/-! X7_folder -/
def w_X7_folder (post : Int32 → Mem → Prop) (xq : XP) (a1 a2 : Int32) (μ : Mem) : Prop :=
  w_X7_needFolder (fun (μ1 : Mem) => w_X7_isName (fun (r3 : Int32) (μ2 : Mem) => ((r3 = 0) → (post (-1 : Int32) μ2)) ∧ ((¬ r3 = 0) → (w_X3_hasRoom (fun (r5 : Int32) (μ4 : Mem) => ((r5 = 0) → (post (-1 : Int32) μ4)) ∧ ((¬ r5 = 0) → (w_X3_named (fun (r7 : Int32) (μ6 : Mem) => ((r7 = (-1 : Int32)) → (w_X3_make (fun (r9 : Int32) (μ8 : Mem) => post r9 μ8) a1 a2 μ6)) ∧ ((¬ r7 = (-1 : Int32)) → (post (-1 : Int32) μ6))) a1 a2 μ4))) μ2))) a2 μ1) xq a1 μ
/-! X7_giveBody -/
def w_X7_giveBody (post : Mem → Prop) (a1 a2 : Int32) (μ : Mem) : Prop :=
  vp_in a1 60 ∧ (vp_in a1 60 ∧ ∀ μ2 : Mem, μ2 = wr μ 16 (ix a1) a2 → (w_X1_having (fun (r6 : Int32) (μ5 : Mem) => ((¬ r6 = 0) → (post μ5)) ∧ ((r6 = 0) → (vp_in (μ 16 (ix a1)) 100 ∧ (∀ μ8 : Mem, μ8 = wr μ5 0 11 ((μ5 0 11) + (μ5 19 (ix (μ 16 (ix a1))))) → (post μ8))))) (μ 16 (ix a1)) μ2))
/-! X7_groupOf -/
def w_X7_groupOf (post : Int32 → Mem → Prop) (xq : XP) (a1 : Int32) (μ : Mem) : Prop :=
  w_X7_needFile (fun (μ1 : Mem) => vp_in a1 60 ∧ (vp_in (μ1 16 (ix a1)) 100 ∧ (post (μ1 22 (ix (μ1 16 (ix a1)))) μ1))) xq a1 μ
/-! X7_hold -/
def w_X7_hold (post : Int32 → Mem → Prop) (xq : XP) (a1 a2 : Int32) (μ : Mem) : Prop :=
  w_X7_needFile (fun (μ1 : Mem) => vp_in a1 60 ∧ (vp_in a1 60 ∧ ∀ μ3 : Mem, μ3 = wr μ1 17 (ix a1) (nz a2) → (bz (μ1 17 (ix a1)) ∧ post (μ1 17 (ix a1)) μ3))) xq a1 μ
/-! X7_isMember -/
def w_X7_isMember (post : Int32 → Mem → Prop) (a1 a2 : Int32) (μ : Mem) : Prop :=
  w_X1_has (fun (r2 : Int32) (μ1 : Mem) => ((r2 = 0) → (post (0 : Int32) μ1)) ∧ ((¬ r2 = 0) → (vp_in a1 60 ∧ (vp_in (μ1 16 (ix a1)) 100 ∧ (((¬ (μ1 22 (ix (μ1 16 (ix a1)))) = a2) → (post (0 : Int32) μ1)) ∧ (((μ1 22 (ix (μ1 16 (ix a1)))) = a2) → (post (1 : Int32) μ1))))))) a1 μ
/-! X7_rank -/
def w_X7_rank (post : Int32 → Mem → Prop) (a1 a2 : Int32) (μ : Mem) : Prop :=
  vp_in a2 60 ∧ (vp_in a1 3 ∧ ((((μ 27 (ix a1)) = 0) → (vp_in a1 3 ∧ (w_X3_isInOrBelow (fun (r5 : Int32) (μ4 : Mem) => ((r5 = 0) → (post (1 : Int32) μ4)) ∧ ((¬ r5 = 0) → (post (0 : Int32) μ4))) (μ 14 (ix a2)) (μ 28 (ix a1)) μ))) ∧ ((¬ (μ 27 (ix a1)) = 0) → ((((μ 27 (ix a1)) = 1) → (vp_in a2 60 ∧ (vp_in (μ 16 (ix a2)) 100 ∧ (post (μ 21 (ix (μ 16 (ix a2)))) μ)))) ∧ ((¬ (μ 27 (ix a1)) = 1) → ((((μ 27 (ix a1)) = 2) → (vp_in a2 60 ∧ (vp_in (μ 16 (ix a2)) 100 ∧ (post (-(μ 21 (ix (μ 16 (ix a2))))) μ)))) ∧ ((¬ (μ 27 (ix a1)) = 2) → ((((μ 27 (ix a1)) = 3) → (vp_in (μ 14 (ix a2)) 16 ∧ (post (μ 13 (ix (μ 14 (ix a2)))) μ))) ∧ ((¬ (μ 27 (ix a1)) = 3) → ((((μ 27 (ix a1)) = 4) → (vp_in a2 60 ∧ (post (μ 15 (ix a2)) μ))) ∧ ((¬ (μ 27 (ix a1)) = 4) → (vp_in a2 60 ∧ ((((μ 17 (ix a2)) = 0) → (post (1 : Int32) μ)) ∧ ((¬ (μ 17 (ix a2)) = 0) → (post (0 : Int32) μ)))))))))))))))
/-! X7_isWishedBefore -/
def w_X7_isWishedBefore_b2 (post : Int32 → Mem → Prop) (k2 : Int32 → Int32 → Int32 → Mem → Prop) (v1 v2 v3 : Int32) (μ : Mem) : Prop :=
  (((μ 7 2) ≤ v3) → (post (0 : Int32) μ)) ∧ ((¬ (μ 7 2) ≤ v3) → (w_X7_rank (fun (r2 : Int32) (μ1 : Mem) => w_X7_rank (fun (r4 : Int32) (μ3 : Mem) => ((r2 = r4) → (k2 v1 v2 (v3 + (1 : Int32)) μ3)) ∧ ((¬ r2 = r4) → (((r4 ≤ r2) → (post (0 : Int32) μ3)) ∧ ((¬ r4 ≤ r2) → (post (1 : Int32) μ3))))) v3 v2 μ1) v3 v1 μ))
def w_X7_isWishedBefore (post : Int32 → Mem → Prop) (a1 a2 : Int32) (μ : Mem) : Prop :=
  (∃ n : Nat, itr (fun _ _ _ _ => False) (w_X7_isWishedBefore_b2 post) n a1 a2 (0 : Int32) μ)
/-! X7_keptOf -/
def w_X7_keptOf_b38 (post : Int32 → Mem → Prop) (k4 : Int32 → Int32 → Int32 → Mem → Prop) (v1 v3 : Int32) (μ : Mem) : Prop :=
  k4 v1 v3 (v3 + (1 : Int32)) μ
def w_X7_keptOf_b4 (post : Int32 → Mem → Prop) (k4 : Int32 → Int32 → Int32 → Mem → Prop) (v1 v2 v3 : Int32) (μ : Mem) : Prop :=
  (((μ 2 4) ≤ v3) → (post v2 μ)) ∧ ((¬ (μ 2 4) ≤ v3) → (w_X7_isMember (fun (r2 : Int32) (μ1 : Mem) => ((r2 = 0) → (k4 v1 v2 (v3 + (1 : Int32)) μ1)) ∧ ((¬ r2 = 0) → (((v2 = (-1 : Int32)) → (w_X7_keptOf_b38 post k4 v1 v3 μ1)) ∧ ((¬ v2 = (-1 : Int32)) → (w_X7_isWishedBefore (fun (r4 : Int32) (μ3 : Mem) => ((r4 = 0) → (k4 v1 v2 (v3 + (1 : Int32)) μ3)) ∧ ((¬ r4 = 0) → (w_X7_keptOf_b38 post k4 v1 v3 μ3))) v3 v2 μ1))))) v3 v1 μ))
def w_X7_keptOf (post : Int32 → Mem → Prop) (a1 : Int32) (μ : Mem) : Prop :=
  (∃ n : Nat, itr (fun _ _ _ _ => False) (w_X7_keptOf_b4 post) n a1 (-1 : Int32) (0 : Int32) μ)
/-! X7_needGroup -/
def w_X7_needGroup_b15 (post : Mem → Prop) (xq : XP) (μ : Mem) : Prop :=
  xq "java/util/NoSuchElementException" μ
def w_X7_needGroup (post : Mem → Prop) (xq : XP) (a1 : Int32) (μ : Mem) : Prop :=
  ((a1 < 0) → (w_X7_needGroup_b15 post xq μ)) ∧ ((¬ a1 < 0) → (((a1 < (μ 4 3)) → (post μ)) ∧ ((¬ a1 < (μ 4 3)) → (w_X7_needGroup_b15 post xq μ))))
/-! X7_keep -/
def w_X7_keep (post : Int32 → Mem → Prop) (xq : XP) (a1 : Int32) (μ : Mem) : Prop :=
  w_X7_needGroup (fun (μ1 : Mem) => w_X7_keptOf (fun (r3 : Int32) (μ2 : Mem) => post r3 μ2) a1 μ1) xq a1 μ
/-! X7_leave -/
def w_X7_leave_b14 (post : Int32 → Mem → Prop) (xq : XP) (μ : Mem) : Prop :=
  xq "java/lang/IllegalArgumentException" μ
def w_X7_leave (post : Int32 → Mem → Prop) (xq : XP) (a1 a2 : Int32) (μ : Mem) : Prop :=
  w_X7_isOwner (fun (r2 : Int32) (μ1 : Mem) => ((r2 = 0) → (w_X7_leave_b14 post xq μ1)) ∧ ((¬ r2 = 0) → (w_X7_isOwner (fun (r4 : Int32) (μ3 : Mem) => ((¬ r4 = 0) → (vp_in ((a1 * (8 : Int32)) + a2) 64 ∧ (vp_in ((a1 * (8 : Int32)) + a2) 64 ∧ ∀ μ6 : Mem, μ6 = wr μ3 9 (ix ((a1 * (8 : Int32)) + a2)) (nz (1 : Int32)) → (((¬ (μ3 9 (ix ((a1 * (8 : Int32)) + a2))) = 0) → (post (0 : Int32) μ6)) ∧ (((μ3 9 (ix ((a1 * (8 : Int32)) + a2))) = 0) → (post (1 : Int32) μ6)))))) ∧ ((r4 = 0) → (w_X7_leave_b14 post xq μ3))) a2 μ1))) a1 μ
/-! X7_link -/
def w_X7_link (post : Int32 → Mem → Prop) (xq : XP) (a1 a2 a3 : Int32) (μ : Mem) : Prop :=
  w_X7_needFile (fun (μ1 : Mem) => w_X7_needFolder (fun (μ2 : Mem) => w_X7_mayCome (fun (r4 : Int32) (μ3 : Mem) => ((¬ r4 = 0) → (vp_in a1 60 ∧ (w_X1_make (fun (r7 : Int32) (μ6 : Mem) => post r7 μ6) a2 a3 (μ3 16 (ix a1)) μ3))) ∧ ((r4 = 0) → (post (-1 : Int32) μ3))) a2 a3 μ2) xq a2 μ1) xq a1 μ
/-! X7_mayGet -/
def w_X7_mayGet_b77 (post : Int32 → Mem → Prop) (μ : Mem) : Prop :=
  post (1 : Int32) μ
def w_X7_mayGet (post : Int32 → Mem → Prop) (a1 a2 : Int32) (μ : Mem) : Prop :=
  vp_in a1 60 ∧ (((¬ (μ 17 (ix a1)) = 0) → (post (0 : Int32) μ)) ∧ (((μ 17 (ix a1)) = 0) → (vp_in a1 60 ∧ (((¬ (μ 16 (ix a1)) = a2) → (vp_in a2 100 ∧ (vp_in a1 60 ∧ (vp_in (μ 16 (ix a1)) 100 ∧ ((((μ 20 (ix a2)) = (μ 20 (ix (μ 16 (ix a1))))) → (w_X7_mayGet_b77 post μ)) ∧ ((¬ (μ 20 (ix a2)) = (μ 20 (ix (μ 16 (ix a1))))) → (vp_in (((μ 20 (ix a2)) * (8 : Int32)) + (μ 20 (ix (μ 16 (ix a1))))) 64 ∧ ((((μ 9 (ix (((μ 20 (ix a2)) * (8 : Int32)) + (μ 20 (ix (μ 16 (ix a1))))))) = 0) → (post (0 : Int32) μ)) ∧ ((¬ (μ 9 (ix (((μ 20 (ix a2)) * (8 : Int32)) + (μ 20 (ix (μ 16 (ix a1))))))) = 0) → (w_X7_mayGet_b77 post μ)))))))))) ∧ (((μ 16 (ix a1)) = a2) → (post (0 : Int32) μ))))))
/-! X7_member -/
def w_X7_member_b10 (post : Int32 → Mem → Prop) (xq : XP) (k10 : Int32 → Int32 → Int32 → Int32 → Mem → Prop) (v1 v2 v3 v4 : Int32) (μ : Mem) : Prop :=
  (((μ 2 4) ≤ v4) → (((v2 = (-1 : Int32)) → (post v3 μ)) ∧ ((¬ v2 = (-1 : Int32)) → (xq "java/util/NoSuchElementException" μ)))) ∧ ((¬ (μ 2 4) ≤ v4) → (w_X7_isMember (fun (r4 : Int32) (μ3 : Mem) => ((r4 = 0) → (k10 v1 v2 v3 (v4 + (1 : Int32)) μ3)) ∧ ((¬ r4 = 0) → (((¬ v3 = v2) → (k10 v1 v2 (v3 + (1 : Int32)) (v4 + (1 : Int32)) μ3)) ∧ ((v3 = v2) → (post v4 μ3))))) v4 v1 μ))
def w_X7_member (post : Int32 → Mem → Prop) (xq : XP) (a1 a2 : Int32) (μ : Mem) : Prop :=
  w_X7_needGroup (fun (μ1 : Mem) => (∃ n : Nat, itr (fun _ _ _ _ _ => False) (w_X7_member_b10 post xq) n a1 a2 (0 : Int32) (0 : Int32) μ1)) xq a1 μ
/-! X7_merge -/
def w_X7_merge_b79 (post : Int32 → Mem → Prop) (xq : XP) (k34 : Int32 → Int32 → Int32 → Int32 → Mem → Prop) (v1 v3 v4 v5 : Int32) (μ : Mem) : Prop :=
  vp_in v5 60 ∧ (vp_in (μ 16 (ix v5)) 100 ∧ (w_X4_note (fun (μ11 : Mem) => w_X7_giveBody (fun (μ12 : Mem) => k34 v1 v3 (v4 + (1 : Int32)) (v5 + (1 : Int32)) μ12) v5 v3 μ11) v5 (μ 20 (ix (μ 16 (ix v5)))) μ))
def w_X7_merge_b34 (post : Int32 → Mem → Prop) (xq : XP) (k34 : Int32 → Int32 → Int32 → Int32 → Mem → Prop) (v1 v3 v4 v5 : Int32) (μ : Mem) : Prop :=
  (((μ 2 4) ≤ v5) → (post v4 μ)) ∧ ((¬ (μ 2 4) ≤ v5) → (w_X7_isMember (fun (r6 : Int32) (μ5 : Mem) => ((r6 = 0) → (k34 v1 v3 v4 (v5 + (1 : Int32)) μ5)) ∧ ((¬ r6 = 0) → (w_X7_mayGet (fun (r8 : Int32) (μ7 : Mem) => ((r8 = 0) → (k34 v1 v3 v4 (v5 + (1 : Int32)) μ7)) ∧ ((¬ r8 = 0) → (((¬ v4 = 0) → (w_X7_merge_b79 post xq k34 v1 v3 v4 v5 μ7)) ∧ ((v4 = 0) → (w_X4_begin (fun (μ13 : Mem) => w_X7_merge_b79 post xq k34 v1 v3 v4 v5 μ13) v3 μ7))))) v5 v3 μ5))) v5 v1 μ))
def w_X7_merge (post : Int32 → Mem → Prop) (xq : XP) (a1 : Int32) (μ : Mem) : Prop :=
  w_X7_needGroup (fun (μ1 : Mem) => w_X7_keptOf (fun (r3 : Int32) (μ2 : Mem) => ((¬ r3 = (-1 : Int32)) → (vp_in r3 60 ∧ ((∃ n : Nat, itr (fun _ _ _ _ _ => False) (w_X7_merge_b34 post xq) n a1 (μ2 16 (ix r3)) (0 : Int32) (0 : Int32) μ2)))) ∧ ((r3 = (-1 : Int32)) → (post (0 : Int32) μ2))) a1 μ1) xq a1 μ
/-! X7_move -/
def w_X7_move (post : Int32 → Mem → Prop) (xq : XP) (a1 a2 a3 : Int32) (μ : Mem) : Prop :=
  w_X7_needFile (fun (μ1 : Mem) => w_X7_needFolder (fun (μ2 : Mem) => w_X7_isFreeName (fun (r4 : Int32) (μ3 : Mem) => ((¬ r4 = 0) → (vp_in a1 60 ∧ ∀ μ5 : Mem, μ5 = wr μ3 14 (ix a1) a2 → (vp_in a1 60 ∧ ∀ μ8 : Mem, μ8 = wr μ5 15 (ix a1) a3 → (post (1 : Int32) μ8)))) ∧ ((r4 = 0) → (post (0 : Int32) μ3))) a2 a3 μ2) xq a2 μ1) xq a1 μ
/-! X7_near -/
def w_X7_near (post : Int32 → Mem → Prop) (xq : XP) (a1 a2 : Int32) (μ : Mem) : Prop :=
  w_X7_needFile (fun (μ1 : Mem) => w_X7_needFile (fun (μ2 : Mem) => vp_in a1 60 ∧ (w_X5_gather_5 (fun (μ4 : Mem) => vp_in a2 60 ∧ (w_X5_gather_6 (fun (μ6 : Mem) => w_X5_nearnessTo_5 (fun (r8 : Int32) (μ7 : Mem) => post r8 μ7) μ6) (μ4 16 (ix a2)) μ4)) (μ2 16 (ix a1)) μ2)) xq a2 μ1) xq a1 μ
/-! X7_nearest -/
def w_X7_nearest_b16 (post : Int32 → Mem → Prop) (xq : XP) (μ : Mem) : Prop :=
  xq "java/lang/IllegalArgumentException" μ
def w_X7_nearest_b56 (post : Int32 → Mem → Prop) (xq : XP) (k56 : Int32 → Int32 → Int32 → Int32 → Mem → Prop) (v1 v3 v4 v5 : Int32) (μ : Mem) : Prop :=
  (((μ 2 4) ≤ v5) → (post v3 μ)) ∧ ((¬ (μ 2 4) ≤ v5) → (w_X1_has (fun (r5 : Int32) (μ4 : Mem) => ((r5 = 0) → (k56 v1 v3 v4 (v5 + (1 : Int32)) μ4)) ∧ ((¬ r5 = 0) → (vp_in v5 60 ∧ (vp_in v1 60 ∧ ((((μ4 16 (ix v5)) = (μ4 16 (ix v1))) → (k56 v1 v3 v4 (v5 + (1 : Int32)) μ4)) ∧ ((¬ (μ4 16 (ix v5)) = (μ4 16 (ix v1))) → (vp_in v5 60 ∧ (w_X5_gather_6 (fun (μ9 : Mem) => w_X5_nearnessTo_5 (fun (r11 : Int32) (μ10 : Mem) => ((r11 ≤ v4) → (k56 v1 v3 v4 (v5 + (1 : Int32)) μ10)) ∧ ((¬ r11 ≤ v4) → (k56 v1 v5 r11 (v5 + (1 : Int32)) μ10))) μ9) (μ4 16 (ix v5)) μ4)))))))) v5 μ))
def w_X7_nearest (post : Int32 → Mem → Prop) (xq : XP) (a1 a2 : Int32) (μ : Mem) : Prop :=
  w_X7_needFile (fun (μ1 : Mem) => ((a2 < 0) → (w_X7_nearest_b16 post xq μ1)) ∧ ((¬ a2 < 0) → (((a2 ≤ (1000 : Int32)) → (vp_in a1 60 ∧ (w_X5_gather_5 (fun (μ3 : Mem) => (∃ n : Nat, itr (fun _ _ _ _ _ => False) (w_X7_nearest_b56 post xq) n a1 (-1 : Int32) (a2 - (1 : Int32)) (0 : Int32) μ3)) (μ1 16 (ix a1)) μ1))) ∧ ((¬ a2 ≤ (1000 : Int32)) → (w_X7_nearest_b16 post xq μ1))))) xq a1 μ
/-! X7_reads -/
def w_X7_reads (post : Int32 → Mem → Prop) (μ : Mem) : Prop :=
  post (μ 4 4) μ
/-! X7_remove -/
def w_X7_remove (post : Int32 → Mem → Prop) (xq : XP) (a1 : Int32) (μ : Mem) : Prop :=
  w_X7_needFile (fun (μ1 : Mem) => vp_in a1 60 ∧ ((((μ1 17 (ix a1)) = 0) → (vp_in a1 60 ∧ (w_X1_drop (fun (μ4 : Mem) => w_X1_having (fun (r6 : Int32) (μ5 : Mem) => post r6 μ5) (μ1 16 (ix a1)) μ4) a1 μ1))) ∧ ((¬ (μ1 17 (ix a1)) = 0) → (post (-1 : Int32) μ1)))) xq a1 μ
/-! X7_unmerge -/
def w_X7_unmerge_b39 (post : Int32 → Mem → Prop) (k39 : Int32 → Int32 → Mem → Prop) (v1 v2 : Int32) (μ : Mem) : Prop :=
  (((μ 2 4) ≤ v2) → (w_X4_dropLatest (fun (μ5 : Mem) => post v1 μ5) μ)) ∧ ((¬ (μ 2 4) ≤ v2) → (w_X4_isStillMerged (fun (r7 : Int32) (μ6 : Mem) => ((r7 = 0) → (k39 v1 (v2 + (1 : Int32)) μ6)) ∧ ((¬ r7 = 0) → (vp_in v2 60 ∧ (w_X4_formerOwner (fun (r10 : Int32) (μ9 : Mem) => vp_in (μ6 16 (ix v2)) 100 ∧ (w_X0_makeLike (fun (r13 : Int32) (μ12 : Mem) => vp_in v2 60 ∧ ∀ μ14 : Mem, μ14 = wr μ12 16 (ix v2) r13 → (k39 v1 (v2 + (1 : Int32)) μ14)) (μ6 16 (ix v2)) r10 (μ9 21 (ix (μ6 16 (ix v2)))) μ9)) v2 μ6)))) v2 μ))
def w_X7_unmerge (post : Int32 → Mem → Prop) (μ : Mem) : Prop :=
  ((¬ (μ 8 3) = 0) → (w_X4_stillMerged (fun (r2 : Int32) (μ1 : Mem) => w_X0_hasRoomFor (fun (r4 : Int32) (μ3 : Mem) => ((¬ r4 = 0) → ((∃ n : Nat, itr (fun _ _ _ => False) (w_X7_unmerge_b39 post) n r2 (0 : Int32) μ3))) ∧ ((r4 = 0) → (post (-1 : Int32) μ3))) r2 μ1) μ)) ∧ (((μ 8 3) = 0) → (post (-1 : Int32) μ))
/-! X7_unwish -/
def w_X7_unwish (post : Int32 → Mem → Prop) (μ : Mem) : Prop :=
  ∀ μ1 : Mem, μ1 = wr μ 7 2 (0 : Int32) → (post (μ 7 2) μ1)
/-! X7_wish -/
def w_X7_wish_b9 (post : Int32 → Mem → Prop) (xq : XP) (μ : Mem) : Prop :=
  xq "java/lang/IllegalArgumentException" μ
def w_X7_wish_b37 (post : Int32 → Mem → Prop) (xq : XP) (v1 s0 : Int32) (μ : Mem) : Prop :=
  w_X6_hasRoom (fun (r2 : Int32) (μ1 : Mem) => ((r2 = 0) → (post (-1 : Int32) μ1)) ∧ ((¬ r2 = 0) → (w_X6_has (fun (r4 : Int32) (μ3 : Mem) => ((r4 = 0) → (w_X6_add (fun (μ5 : Mem) => post (μ5 7 2) μ5) v1 s0 μ3)) ∧ ((¬ r4 = 0) → (post (-1 : Int32) μ3))) v1 s0 μ1))) μ
def w_X7_wish_b28 (post : Int32 → Mem → Prop) (xq : XP) (v1 v2 : Int32) (μ : Mem) : Prop :=
  ((¬ v1 = 0) → (w_X7_wish_b37 post xq v1 (-1 : Int32) μ)) ∧ ((v1 = 0) → (w_X7_wish_b37 post xq v1 v2 μ))
def w_X7_wish (post : Int32 → Mem → Prop) (xq : XP) (a1 a2 : Int32) (μ : Mem) : Prop :=
  ((a1 < 0) → (w_X7_wish_b9 post xq μ)) ∧ ((¬ a1 < 0) → (((a1 ≤ (5 : Int32)) → (((¬ a1 = 0) → (w_X7_wish_b28 post xq a1 a2 μ)) ∧ ((a1 = 0) → (w_X7_needFolder (fun (μ9 : Mem) => w_X7_wish_b28 post xq a1 a2 μ9) xq a2 μ)))) ∧ ((¬ a1 ≤ (5 : Int32)) → (w_X7_wish_b9 post xq μ))))
/-! X7_write -/
def w_X7_write_b36 (post : Int32 → Mem → Prop) (xq : XP) (μ : Mem) : Prop :=
  xq "java/lang/IllegalArgumentException" μ
def w_X7_write_b49 (post : Int32 → Mem → Prop) (xq : XP) (k49 : Int32 → Int32 → Int32 → Int32 → Mem → Prop) (v2 v3 v4 v5 : Int32) (μ : Mem) : Prop :=
  (((4 : Int32) ≤ v5) → (w_X7_noteWritten (fun (μ4 : Mem) => w_X1_having (fun (r6 : Int32) (μ5 : Mem) => post (r6 - (1 : Int32)) μ5) v4 μ4) v4 μ)) ∧ ((¬ (4 : Int32) ≤ v5) → (w_X0_put (fun (μ7 : Mem) => k49 v2 v3 v4 (v5 + (1 : Int32)) μ7) v4 (v2 + v5) (v3 >>> (((8 : Int32) * ((3 : Int32) - v5)) &&& 31)) μ))
def w_X7_write (post : Int32 → Mem → Prop) (xq : XP) (a1 a2 a3 : Int32) (μ : Mem) : Prop :=
  w_X7_needFile (fun (μ1 : Mem) => vp_in a1 60 ∧ (((a2 < 0) → (w_X7_write_b36 post xq μ1)) ∧ ((¬ a2 < 0) → (vp_in (μ1 16 (ix a1)) 100 ∧ (((a2 ≤ ((μ1 19 (ix (μ1 16 (ix a1)))) - (4 : Int32))) → ((∃ n : Nat, itr (fun _ _ _ _ _ => False) (w_X7_write_b49 post xq) n a2 a3 (μ1 16 (ix a1)) (0 : Int32) μ1))) ∧ ((¬ a2 ≤ ((μ1 19 (ix (μ1 16 (ix a1)))) - (4 : Int32))) → (w_X7_write_b36 post xq μ1))))))) xq a1 μ
/-! X8_above -/
def w_X8_above_b9 (post : Int32 → Mem → Prop) (k9 : Int32 → Int32 → Mem → Prop) (v2 v3 : Int32) (μ : Mem) : Prop :=
  ((v3 = (-1 : Int32)) → (post v2 μ)) ∧ ((¬ v3 = (-1 : Int32)) → (vp_in v3 16 ∧ (k9 (v2 + (1 : Int32)) (μ 32 (ix v3)) μ)))
def w_X8_above (post : Int32 → Mem → Prop) (a1 : Int32) (μ : Mem) : Prop :=
  vp_in a1 60 ∧ ((∃ n : Nat, itr (fun _ _ _ => False) (w_X8_above_b9 post) n (0 : Int32) (μ 34 (ix a1)) μ))
/-! X8_right -/
def w_X8_right_b16 (post : Int32 → Mem → Prop) (μ : Mem) : Prop :=
  ((¬ (μ 31 0) = 0) → (post (0 : Int32) μ)) ∧ (((μ 31 0) = 0) → (post (1 : Int32) μ))
def w_X8_right (post : Int32 → Mem → Prop) (a1 a2 : Int32) (μ : Mem) : Prop :=
  ((¬ (μ 31 0) = 0) → (w_X8_right_b16 post μ)) ∧ (((μ 31 0) = 0) → (((¬ a1 = 0) → (w_X8_right_b16 post μ)) ∧ ((a1 = 0) → (∀ μ2 : Mem, μ2 = wr μ 31 0 a2 → (w_X8_right_b16 post μ2)))))
/-! X8_isFile -/
def w_X8_isFile_b33 (post : Int32 → Mem → Prop) (s0 : Int32) (μ : Mem) : Prop :=
  w_X8_right (fun (r4 : Int32) (μ3 : Mem) => bz r4 ∧ post r4 μ3) s0 (1 : Int32) μ
def w_X8_isFile_b32 (post : Int32 → Mem → Prop) (μ : Mem) : Prop :=
  w_X8_isFile_b33 post (0 : Int32) μ
def w_X8_isFile (post : Int32 → Mem → Prop) (a1 : Int32) (μ : Mem) : Prop :=
  ∀ μ1 : Mem, μ1 = wr μ 31 0 (0 : Int32) → (((a1 < 0) → (w_X8_isFile_b32 post μ1)) ∧ ((¬ a1 < 0) → ((((μ1 31 2) ≤ a1) → (w_X8_isFile_b32 post μ1)) ∧ ((¬ (μ1 31 2) ≤ a1) → (vp_in a1 60 ∧ ((((μ1 34 (ix a1)) = (-1 : Int32)) → (w_X8_isFile_b32 post μ1)) ∧ ((¬ (μ1 34 (ix a1)) = (-1 : Int32)) → (w_X8_isFile_b33 post (1 : Int32) μ1))))))))
/-! X8_names -/
def w_X8_names_b4 (post : Int32 → Mem → Prop) (k4 : Int32 → Int32 → Int32 → Mem → Prop) (v1 v2 v3 : Int32) (μ : Mem) : Prop :=
  (((μ 31 2) ≤ v3) → (post v2 μ)) ∧ ((¬ (μ 31 2) ≤ v3) → (vp_in v3 60 ∧ ((((μ 34 (ix v3)) = (-1 : Int32)) → (k4 v1 v2 (v3 + (1 : Int32)) μ)) ∧ ((¬ (μ 34 (ix v3)) = (-1 : Int32)) → (vp_in v3 60 ∧ (((¬ (μ 36 (ix v3)) = v1) → (k4 v1 v2 (v3 + (1 : Int32)) μ)) ∧ (((μ 36 (ix v3)) = v1) → (k4 v1 (v2 + (1 : Int32)) (v3 + (1 : Int32)) μ))))))))
def w_X8_names (post : Int32 → Mem → Prop) (a1 : Int32) (μ : Mem) : Prop :=
  (∃ n : Nat, itr (fun _ _ _ _ => False) (w_X8_names_b4 post) n a1 (0 : Int32) (0 : Int32) μ)
/-! X8_about -/
def w_X8_about_b24 (post : Int32 → Mem → Prop) (v1 v2 s0 : Int32) (μ : Mem) : Prop :=
  w_X8_right (fun (r4 : Int32) (μ3 : Mem) => ((¬ r4 = 0) → (vp_in v1 60 ∧ (((v2 = 0) → (vp_in v1 60 ∧ (post (μ3 34 (ix v1)) μ3))) ∧ ((¬ v2 = 0) → (((v2 = 1) → (vp_in v1 60 ∧ (post (μ3 35 (ix v1)) μ3))) ∧ ((¬ v2 = 1) → (((v2 = 2) → (post (μ3 36 (ix v1)) μ3)) ∧ ((¬ v2 = 2) → (((v2 = 3) → (vp_in (μ3 36 (ix v1)) 100 ∧ (post (μ3 38 (ix (μ3 36 (ix v1)))) μ3))) ∧ ((¬ v2 = 3) → (((v2 = 4) → (vp_in (μ3 36 (ix v1)) 100 ∧ (post (μ3 39 (ix (μ3 36 (ix v1)))) μ3))) ∧ ((¬ v2 = 4) → (((v2 = 5) → (vp_in (μ3 36 (ix v1)) 100 ∧ (post (μ3 40 (ix (μ3 36 (ix v1)))) μ3))) ∧ ((¬ v2 = 5) → (((v2 = 6) → (w_X8_names (fun (r18 : Int32) (μ17 : Mem) => post r18 μ17) (μ3 36 (ix v1)) μ3)) ∧ ((¬ v2 = 6) → (((v2 = 7) → (vp_in v1 60 ∧ ((((μ3 37 (ix v1)) = 0) → (post (0 : Int32) μ3)) ∧ ((¬ (μ3 37 (ix v1)) = 0) → (post (1 : Int32) μ3))))) ∧ ((¬ v2 = 7) → (w_X8_above (fun (r24 : Int32) (μ23 : Mem) => post r24 μ23) v1 μ3))))))))))))))))))) ∧ ((r4 = 0) → (post (0 : Int32) μ3))) s0 (1 : Int32) μ
def w_X8_about_b23 (post : Int32 → Mem → Prop) (v1 v2 : Int32) (μ : Mem) : Prop :=
  w_X8_about_b24 post v1 v2 (0 : Int32) μ
def w_X8_about (post : Int32 → Mem → Prop) (a1 a2 : Int32) (μ : Mem) : Prop :=
  w_X8_isFile (fun (r2 : Int32) (μ1 : Mem) => ((r2 = 0) → (post (0 : Int32) μ1)) ∧ ((¬ r2 = 0) → (((a2 < 0) → (w_X8_about_b23 post a1 a2 μ1)) ∧ ((¬ a2 < 0) → ((((8 : Int32) < a2) → (w_X8_about_b23 post a1 a2 μ1)) ∧ ((¬ (8 : Int32) < a2) → (w_X8_about_b24 post a1 a2 (1 : Int32) μ1))))))) a1 μ
/-! X8_at -/
def w_X8_at_b33 (post : Int32 → Mem → Prop) (v1 v2 s0 : Int32) (μ : Mem) : Prop :=
  w_X8_right (fun (r4 : Int32) (μ3 : Mem) => ((r4 = 0) → (post (0 : Int32) μ3)) ∧ ((¬ r4 = 0) → (vp_in v1 60 ∧ (vp_in (((64 : Int32) * (μ3 36 (ix v1))) + v2) 6400 ∧ (post (μ3 42 (ix (((64 : Int32) * (μ3 36 (ix v1))) + v2))) μ3))))) s0 (1 : Int32) μ
def w_X8_at_b32 (post : Int32 → Mem → Prop) (v1 v2 : Int32) (μ : Mem) : Prop :=
  w_X8_at_b33 post v1 v2 (0 : Int32) μ
def w_X8_at (post : Int32 → Mem → Prop) (a1 a2 : Int32) (μ : Mem) : Prop :=
  w_X8_isFile (fun (r2 : Int32) (μ1 : Mem) => ((r2 = 0) → (post (0 : Int32) μ1)) ∧ ((¬ r2 = 0) → (((a2 < 0) → (w_X8_at_b32 post a1 a2 μ1)) ∧ ((¬ a2 < 0) → (vp_in a1 60 ∧ (vp_in (μ1 36 (ix a1)) 100 ∧ ((((μ1 38 (ix (μ1 36 (ix a1)))) ≤ a2) → (w_X8_at_b32 post a1 a2 μ1)) ∧ ((¬ (μ1 38 (ix (μ1 36 (ix a1)))) ≤ a2) → (w_X8_at_b33 post a1 a2 (1 : Int32) μ1))))))))) a1 μ
/-! X8_isName -/
def w_X8_isName (post : Int32 → Mem → Prop) (a0 : Int32) (μ : Mem) : Prop :=
  ((a0 < 0) → (post (0 : Int32) μ)) ∧ ((¬ a0 < 0) → ((((999 : Int32) < a0) → (post (0 : Int32) μ)) ∧ ((¬ (999 : Int32) < a0) → (post (1 : Int32) μ))))
/-! X8_named -/
def w_X8_named_b2 (post : Int32 → Mem → Prop) (k2 : Int32 → Int32 → Int32 → Mem → Prop) (v1 v2 v3 : Int32) (μ : Mem) : Prop :=
  (((μ 31 2) ≤ v3) → (post (-1 : Int32) μ)) ∧ ((¬ (μ 31 2) ≤ v3) → (vp_in v3 60 ∧ (((¬ (μ 34 (ix v3)) = v1) → (k2 v1 v2 (v3 + (1 : Int32)) μ)) ∧ (((μ 34 (ix v3)) = v1) → (vp_in v3 60 ∧ (((¬ (μ 35 (ix v3)) = v2) → (k2 v1 v2 (v3 + (1 : Int32)) μ)) ∧ (((μ 35 (ix v3)) = v2) → (post v3 μ))))))))
def w_X8_named (post : Int32 → Mem → Prop) (a1 a2 : Int32) (μ : Mem) : Prop :=
  (∃ n : Nat, itr (fun _ _ _ _ => False) (w_X8_named_b2 post) n a1 a2 (0 : Int32) μ)
/-! X8_canCome -/
def w_X8_canCome (post : Int32 → Mem → Prop) (a1 a2 : Int32) (μ : Mem) : Prop :=
  (((60 : Int32) ≤ (μ 31 2)) → (post (0 : Int32) μ)) ∧ ((¬ (60 : Int32) ≤ (μ 31 2)) → (w_X8_isName (fun (r2 : Int32) (μ1 : Mem) => ((r2 = 0) → (post (0 : Int32) μ1)) ∧ ((¬ r2 = 0) → (w_X8_named (fun (r4 : Int32) (μ3 : Mem) => ((¬ r4 = (-1 : Int32)) → (post (0 : Int32) μ3)) ∧ ((r4 = (-1 : Int32)) → (post (1 : Int32) μ3))) a1 a2 μ1))) a2 μ))
/-! X8_child -/
def w_X8_child_b2 (post : Int32 → Mem → Prop) (k2 : Int32 → Int32 → Int32 → Mem → Prop) (v1 v2 v3 : Int32) (μ : Mem) : Prop :=
  (((μ 31 1) ≤ v3) → (post (-1 : Int32) μ)) ∧ ((¬ (μ 31 1) ≤ v3) → (vp_in v3 16 ∧ (((¬ (μ 32 (ix v3)) = v1) → (k2 v1 v2 (v3 + (1 : Int32)) μ)) ∧ (((μ 32 (ix v3)) = v1) → (vp_in v3 16 ∧ (((¬ (μ 33 (ix v3)) = v2) → (k2 v1 v2 (v3 + (1 : Int32)) μ)) ∧ (((μ 33 (ix v3)) = v2) → (post v3 μ))))))))
def w_X8_child (post : Int32 → Mem → Prop) (a1 a2 : Int32) (μ : Mem) : Prop :=
  (∃ n : Nat, itr (fun _ _ _ _ => False) (w_X8_child_b2 post) n a1 a2 (1 : Int32) μ)
/-! X8_fillsFrom -/
def w_X8_fillsFrom_b2 (post : Mem → Prop) (k2 : Int32 → Int32 → Int32 → Mem → Prop) (v1 v2 v3 : Int32) (μ : Mem) : Prop :=
  (((64 : Int32) ≤ v3) → (post μ)) ∧ ((¬ (64 : Int32) ≤ v3) → (vp_in (((64 : Int32) * v2) + v3) 6400 ∧ (vp_in (((64 : Int32) * v1) + v3) 6400 ∧ ∀ μ2 : Mem, μ2 = wr μ 42 (ix (((64 : Int32) * v1) + v3)) (μ 42 (ix (((64 : Int32) * v2) + v3))) → (k2 v1 v2 (v3 + (1 : Int32)) μ2))))
def w_X8_fillsFrom (post : Mem → Prop) (a1 a2 : Int32) (μ : Mem) : Prop :=
  (∃ n : Nat, itr (fun _ _ _ _ => False) (w_X8_fillsFrom_b2 post) n a1 a2 (0 : Int32) μ)
/-! X8_isFolder -/
def w_X8_isFolder_b18 (post : Int32 → Mem → Prop) (s0 : Int32) (μ : Mem) : Prop :=
  w_X8_right (fun (r2 : Int32) (μ1 : Mem) => bz r2 ∧ post r2 μ1) s0 (1 : Int32) μ
def w_X8_isFolder_b17 (post : Int32 → Mem → Prop) (μ : Mem) : Prop :=
  w_X8_isFolder_b18 post (0 : Int32) μ
def w_X8_isFolder (post : Int32 → Mem → Prop) (a1 : Int32) (μ : Mem) : Prop :=
  ((a1 < 0) → (w_X8_isFolder_b17 post μ)) ∧ ((¬ a1 < 0) → ((((μ 31 1) ≤ a1) → (w_X8_isFolder_b17 post μ)) ∧ ((¬ (μ 31 1) ≤ a1) → (w_X8_isFolder_b18 post (1 : Int32) μ))))
/-! X8_newBody -/
def w_X8_newBody (post : Int32 → Mem → Prop) (a1 a2 a3 : Int32) (μ : Mem) : Prop :=
  vp_in (μ 31 3) 100 ∧ ∀ μ1 : Mem, μ1 = wr μ 38 (ix (μ 31 3)) a1 → (vp_in (μ1 31 3) 100 ∧ ∀ μ4 : Mem, μ4 = wr μ1 39 (ix (μ1 31 3)) a2 → (vp_in (μ4 31 3) 100 ∧ ∀ μ7 : Mem, μ7 = wr μ4 40 (ix (μ4 31 3)) a3 → (vp_in (μ7 31 3) 100 ∧ ∀ μ10 : Mem, μ10 = wr μ7 41 (ix (μ7 31 3)) (-1 : Int32) → (∀ μ13 : Mem, μ13 = wr μ10 31 3 ((μ10 31 3) + (1 : Int32)) → (post ((μ13 31 3) - (1 : Int32)) μ13)))))
/-! X8_newFile -/
def w_X8_newFile (post : Int32 → Mem → Prop) (a1 a2 a3 : Int32) (μ : Mem) : Prop :=
  vp_in (μ 31 2) 60 ∧ ∀ μ1 : Mem, μ1 = wr μ 34 (ix (μ 31 2)) a1 → (vp_in (μ1 31 2) 60 ∧ ∀ μ4 : Mem, μ4 = wr μ1 35 (ix (μ1 31 2)) a2 → (vp_in (μ4 31 2) 60 ∧ ∀ μ7 : Mem, μ7 = wr μ4 36 (ix (μ4 31 2)) a3 → (∀ μ10 : Mem, μ10 = wr μ7 31 2 ((μ7 31 2) + (1 : Int32)) → (post ((μ10 31 2) - (1 : Int32)) μ10))))
/-! X8_copy -/
def w_X8_copy (post : Int32 → Mem → Prop) (a1 a2 a3 : Int32) (μ : Mem) : Prop :=
  w_X8_isFile (fun (r2 : Int32) (μ1 : Mem) => ((r2 = 0) → (post (0 : Int32) μ1)) ∧ ((¬ r2 = 0) → (w_X8_isFolder (fun (r4 : Int32) (μ3 : Mem) => ((¬ r4 = 0) → (w_X8_canCome (fun (r6 : Int32) (μ5 : Mem) => ((r6 = 0) → (post (-1 : Int32) μ5)) ∧ ((¬ r6 = 0) → (((¬ (μ5 31 3) = (100 : Int32)) → (vp_in a1 60 ∧ (vp_in (μ5 36 (ix a1)) 100 ∧ (vp_in a1 60 ∧ (vp_in (μ5 36 (ix a1)) 100 ∧ (w_X8_newBody (fun (r12 : Int32) (μ11 : Mem) => vp_in a1 60 ∧ (w_X8_fillsFrom (fun (μ14 : Mem) => w_X8_newFile (fun (r16 : Int32) (μ15 : Mem) => post r16 μ15) a2 a3 r12 μ14) r12 (μ11 36 (ix a1)) μ11)) (μ5 38 (ix (μ5 36 (ix a1)))) (μ5 39 (ix (μ5 36 (ix a1)))) (μ5 31 4) μ5)))))) ∧ (((μ5 31 3) = (100 : Int32)) → (post (-1 : Int32) μ5))))) a2 a3 μ3)) ∧ ((r4 = 0) → (post (0 : Int32) μ3))) a2 μ1))) a1 μ
/-! X8_count -/
def w_X8_count_b83 (post : Int32 → Mem → Prop) (k83 : Int32 → Int32 → Mem → Prop) (v2 v3 : Int32) (μ : Mem) : Prop :=
  (((μ 31 2) ≤ v3) → (post v2 μ)) ∧ ((¬ (μ 31 2) ≤ v3) → (vp_in v3 60 ∧ ((((μ 34 (ix v3)) = (-1 : Int32)) → (k83 v2 (v3 + (1 : Int32)) μ)) ∧ ((¬ (μ 34 (ix v3)) = (-1 : Int32)) → (k83 (v2 + (1 : Int32)) (v3 + (1 : Int32)) μ)))))
def w_X8_count_b114 (post : Int32 → Mem → Prop) (k114 : Int32 → Int32 → Mem → Prop) (v2 v3 : Int32) (μ : Mem) : Prop :=
  (((μ 31 3) ≤ v3) → (post v2 μ)) ∧ ((¬ (μ 31 3) ≤ v3) → (w_X8_names (fun (r11 : Int32) (μ10 : Mem) => ((r11 ≤ 0) → (k114 v2 (v3 + (1 : Int32)) μ10)) ∧ ((¬ r11 ≤ 0) → (k114 (v2 + (1 : Int32)) (v3 + (1 : Int32)) μ10))) v3 μ))
def w_X8_count_b143 (post : Int32 → Mem → Prop) (k143 : Int32 → Int32 → Mem → Prop) (v2 v3 : Int32) (μ : Mem) : Prop :=
  (((μ 31 3) ≤ v3) → (post v2 μ)) ∧ ((¬ (μ 31 3) ≤ v3) → (w_X8_names (fun (r16 : Int32) (μ15 : Mem) => ((r16 ≤ 0) → (k143 v2 (v3 + (1 : Int32)) μ15)) ∧ ((¬ r16 ≤ 0) → (vp_in v3 100 ∧ (k143 (v2 + (μ15 38 (ix v3))) (v3 + (1 : Int32)) μ15)))) v3 μ))
def w_X8_count_b21 (post : Int32 → Mem → Prop) (v1 s0 : Int32) (μ : Mem) : Prop :=
  w_X8_right (fun (r4 : Int32) (μ3 : Mem) => ((¬ r4 = 0) → (((v1 = 0) → (post (μ3 31 1) μ3)) ∧ ((¬ v1 = 0) → (((v1 = 1) → ((∃ n : Nat, itr (fun _ _ _ => False) (w_X8_count_b83 post) n (0 : Int32) (0 : Int32) μ3))) ∧ ((¬ v1 = 1) → (((v1 = 2) → ((∃ n : Nat, itr (fun _ _ _ => False) (w_X8_count_b114 post) n (0 : Int32) (0 : Int32) μ3))) ∧ ((¬ v1 = 2) → (((v1 = 3) → ((∃ n : Nat, itr (fun _ _ _ => False) (w_X8_count_b143 post) n (0 : Int32) (0 : Int32) μ3))) ∧ ((¬ v1 = 3) → (((v1 = 4) → (post (μ3 31 5) μ3)) ∧ ((¬ v1 = 4) → (((v1 = 5) → (post (μ3 31 23) μ3)) ∧ ((¬ v1 = 5) → (((v1 = 6) → (post (μ3 31 4) μ3)) ∧ ((¬ v1 = 6) → (post (μ3 31 3) μ3)))))))))))))))) ∧ ((r4 = 0) → (post (0 : Int32) μ3))) s0 (1 : Int32) μ
def w_X8_count_b20 (post : Int32 → Mem → Prop) (v1 : Int32) (μ : Mem) : Prop :=
  w_X8_count_b21 post v1 (0 : Int32) μ
def w_X8_count (post : Int32 → Mem → Prop) (a1 : Int32) (μ : Mem) : Prop :=
  ∀ μ1 : Mem, μ1 = wr μ 31 0 (0 : Int32) → (((a1 < 0) → (w_X8_count_b20 post a1 μ1)) ∧ ((¬ a1 < 0) → ((((7 : Int32) < a1) → (w_X8_count_b20 post a1 μ1)) ∧ ((¬ (7 : Int32) < a1) → (w_X8_count_b21 post a1 (1 : Int32) μ1)))))
/-! X8_days -/
def w_X8_days_b22 (post : Int32 → Mem → Prop) (v1 s0 : Int32) (μ : Mem) : Prop :=
  w_X8_right (fun (r4 : Int32) (μ3 : Mem) => ((¬ r4 = 0) → (∀ μ5 : Mem, μ5 = wr μ3 31 4 ((μ3 31 4) + v1) → (post (μ5 31 4) μ5))) ∧ ((r4 = 0) → (post (0 : Int32) μ3))) s0 (1 : Int32) μ
def w_X8_days_b21 (post : Int32 → Mem → Prop) (v1 : Int32) (μ : Mem) : Prop :=
  w_X8_days_b22 post v1 (0 : Int32) μ
def w_X8_days (post : Int32 → Mem → Prop) (a1 : Int32) (μ : Mem) : Prop :=
  ∀ μ1 : Mem, μ1 = wr μ 31 0 (0 : Int32) → (((a1 < 0) → (w_X8_days_b21 post a1 μ1)) ∧ ((¬ a1 < 0) → ((((1000 : Int32) < a1) → (w_X8_days_b21 post a1 μ1)) ∧ ((¬ (1000 : Int32) < a1) → (w_X8_days_b22 post a1 (1 : Int32) μ1)))))
/-! X8_hasSame -/
def w_X8_hasSame_b3 (post : Int32 → Mem → Prop) (k3 : Int32 → Int32 → Int32 → Int32 → Mem → Prop) (v1 v2 v4 v5 : Int32) (μ : Mem) : Prop :=
  ((v4 ≤ v5) → (post (1 : Int32) μ)) ∧ ((¬ v4 ≤ v5) → (vp_in (((64 : Int32) * v1) + v5) 6400 ∧ (vp_in (((64 : Int32) * v2) + v5) 6400 ∧ ((((μ 42 (ix (((64 : Int32) * v1) + v5))) = (μ 42 (ix (((64 : Int32) * v2) + v5)))) → (k3 v1 v2 v4 (v5 + (1 : Int32)) μ)) ∧ ((¬ (μ 42 (ix (((64 : Int32) * v1) + v5))) = (μ 42 (ix (((64 : Int32) * v2) + v5)))) → (post (0 : Int32) μ))))))
def w_X8_hasSame (post : Int32 → Mem → Prop) (a1 a2 a3 a4 : Int32) (μ : Mem) : Prop :=
  (∃ n : Nat, itr (fun _ _ _ _ _ => False) (w_X8_hasSame_b3 post) n a1 a2 a4 a3 μ)
/-! X8_differ -/
def w_X8_differ_b289 (post : Int32 → Mem → Prop) (k45 : Int32 → Int32 → Int32 → Mem → Prop) (k220 : Int32 → Int32 → Int32 → Int32 → Int32 → Int32 → Mem → Prop) (v3 v4 v5 v6 v7 v8 : Int32) (μ : Mem) : Prop :=
  vp_in v8 16 ∧ (((¬ (μ 32 (ix v8)) = v7) → (k220 v3 v4 v5 v6 v7 (v8 + (1 : Int32)) μ)) ∧ (((μ 32 (ix v8)) = v7) → (vp_in v8 16 ∧ (w_X8_child (fun (r19 : Int32) (μ18 : Mem) => ((¬ r19 = (-1 : Int32)) → (k220 v3 v4 v5 v6 v7 (v8 + (1 : Int32)) μ18)) ∧ ((r19 = (-1 : Int32)) → (k220 (v3 + (1 : Int32)) v4 v5 v6 v7 (v8 + (1 : Int32)) μ18))) v6 (μ 33 (ix v8)) μ))))
def w_X8_differ_b220 (post : Int32 → Mem → Prop) (k45 : Int32 → Int32 → Int32 → Mem → Prop) (k220 : Int32 → Int32 → Int32 → Int32 → Int32 → Int32 → Mem → Prop) (v3 v4 v5 v6 v7 v8 : Int32) (μ : Mem) : Prop :=
  (((μ 31 1) ≤ v8) → (k45 v3 v4 (v5 + (1 : Int32)) μ)) ∧ ((¬ (μ 31 1) ≤ v8) → (vp_in v8 16 ∧ (((¬ (μ 32 (ix v8)) = v6) → (w_X8_differ_b289 post k45 k220 v3 v4 v5 v6 v7 v8 μ)) ∧ (((μ 32 (ix v8)) = v6) → (vp_in v8 16 ∧ (w_X8_child (fun (r24 : Int32) (μ23 : Mem) => ((¬ r24 = (-1 : Int32)) → (vp_in v4 16 ∧ ∀ μ25 : Mem, μ25 = wr μ23 52 (ix v4) v8 → (vp_in v4 16 ∧ ∀ μ28 : Mem, μ28 = wr μ25 53 (ix v4) r24 → (w_X8_differ_b289 post k45 k220 v3 (v4 + (1 : Int32)) v5 v6 v7 v8 μ28)))) ∧ ((r24 = (-1 : Int32)) → (w_X8_differ_b289 post k45 k220 (v3 + (1 : Int32)) v4 v5 v6 v7 v8 μ23))) v7 (μ 33 (ix v8)) μ))))))
def w_X8_differ_b179 (post : Int32 → Mem → Prop) (k45 : Int32 → Int32 → Int32 → Mem → Prop) (k73 : Int32 → Int32 → Int32 → Int32 → Int32 → Int32 → Mem → Prop) (v3 v4 v5 v6 v7 v8 : Int32) (μ : Mem) : Prop :=
  vp_in v8 60 ∧ (((¬ (μ 34 (ix v8)) = v7) → (k73 v3 v4 v5 v6 v7 (v8 + (1 : Int32)) μ)) ∧ (((μ 34 (ix v8)) = v7) → (vp_in v8 60 ∧ (w_X8_named (fun (r38 : Int32) (μ37 : Mem) => ((¬ r38 = (-1 : Int32)) → (k73 v3 v4 v5 v6 v7 (v8 + (1 : Int32)) μ37)) ∧ ((r38 = (-1 : Int32)) → (k73 (v3 + (1 : Int32)) v4 v5 v6 v7 (v8 + (1 : Int32)) μ37))) v6 (μ 35 (ix v8)) μ))))
def w_X8_differ_b176 (post : Int32 → Mem → Prop) (k45 : Int32 → Int32 → Int32 → Mem → Prop) (k73 : Int32 → Int32 → Int32 → Int32 → Int32 → Int32 → Mem → Prop) (v3 v4 v5 v6 v7 v8 : Int32) (μ : Mem) : Prop :=
  w_X8_differ_b179 post k45 k73 (v3 + (1 : Int32)) v4 v5 v6 v7 v8 μ
def w_X8_differ_b73 (post : Int32 → Mem → Prop) (k45 : Int32 → Int32 → Int32 → Mem → Prop) (k73 : Int32 → Int32 → Int32 → Int32 → Int32 → Int32 → Mem → Prop) (v3 v4 v5 v6 v7 v8 : Int32) (μ : Mem) : Prop :=
  (((μ 31 2) ≤ v8) → ((∃ n : Nat, itr (fun _ _ _ _ _ _ _ => False) (w_X8_differ_b220 post k45) n v3 v4 v5 v6 v7 (1 : Int32) μ))) ∧ ((¬ (μ 31 2) ≤ v8) → (vp_in v8 60 ∧ (((¬ (μ 34 (ix v8)) = v6) → (w_X8_differ_b179 post k45 k73 v3 v4 v5 v6 v7 v8 μ)) ∧ (((μ 34 (ix v8)) = v6) → (vp_in v8 60 ∧ (w_X8_named (fun (r43 : Int32) (μ42 : Mem) => ((r43 = (-1 : Int32)) → (w_X8_differ_b176 post k45 k73 v3 v4 v5 v6 v7 v8 μ42)) ∧ ((¬ r43 = (-1 : Int32)) → (vp_in v8 60 ∧ (vp_in (μ42 36 (ix v8)) 100 ∧ (vp_in r43 60 ∧ (vp_in (μ42 36 (ix r43)) 100 ∧ (((¬ (μ42 38 (ix (μ42 36 (ix v8)))) = (μ42 38 (ix (μ42 36 (ix r43))))) → (w_X8_differ_b176 post k45 k73 v3 v4 v5 v6 v7 v8 μ42)) ∧ (((μ42 38 (ix (μ42 36 (ix v8)))) = (μ42 38 (ix (μ42 36 (ix r43))))) → (vp_in v8 60 ∧ (vp_in r43 60 ∧ (vp_in v8 60 ∧ (vp_in (μ42 36 (ix v8)) 100 ∧ (w_X8_hasSame (fun (r53 : Int32) (μ52 : Mem) => ((¬ r53 = 0) → (w_X8_differ_b179 post k45 k73 v3 v4 v5 v6 v7 v8 μ52)) ∧ ((r53 = 0) → (w_X8_differ_b176 post k45 k73 v3 v4 v5 v6 v7 v8 μ52))) (μ42 36 (ix v8)) (μ42 36 (ix r43)) (0 : Int32) (μ42 38 (ix (μ42 36 (ix v8)))) μ42))))))))))))) v7 (μ 35 (ix v8)) μ))))))
def w_X8_differ_b45 (post : Int32 → Mem → Prop) (k45 : Int32 → Int32 → Int32 → Mem → Prop) (v3 v4 v5 : Int32) (μ : Mem) : Prop :=
  ((v4 ≤ v5) → (post v3 μ)) ∧ ((¬ v4 ≤ v5) → (vp_in v5 16 ∧ (vp_in v5 16 ∧ ((∃ n : Nat, itr (fun _ _ _ _ _ _ _ => False) (w_X8_differ_b73 post k45) n v3 v4 v5 (μ 52 (ix v5)) (μ 53 (ix v5)) (0 : Int32) μ)))))
def w_X8_differ (post : Int32 → Mem → Prop) (a1 a2 : Int32) (μ : Mem) : Prop :=
  ∀ μ1 : Mem, μ1 = wr μ 31 0 (0 : Int32) → (w_X8_isFolder (fun (r4 : Int32) (μ3 : Mem) => ((r4 = 0) → (post (0 : Int32) μ3)) ∧ ((¬ r4 = 0) → (w_X8_isFolder (fun (r6 : Int32) (μ5 : Mem) => ((¬ r6 = 0) → (vp_in (0 : Int32) 16 ∧ ∀ μ7 : Mem, μ7 = wr μ5 52 (ix (0 : Int32)) a1 → (vp_in (0 : Int32) 16 ∧ ∀ μ10 : Mem, μ10 = wr μ7 53 (ix (0 : Int32)) a2 → ((∃ n : Nat, itr (fun _ _ _ _ => False) (w_X8_differ_b45 post) n (0 : Int32) (1 : Int32) (0 : Int32) μ10))))) ∧ ((r6 = 0) → (post (0 : Int32) μ5))) a2 μ3))) a1 μ1)
/-! X8_drops -/
def w_X8_drops_b85 (post : Mem → Prop) (k85 : Int32 → Mem → Prop) (v1 : Int32) (μ : Mem) : Prop :=
  (((μ 31 3) ≤ v1) → (post μ)) ∧ ((¬ (μ 31 3) ≤ v1) → (vp_in v1 100 ∧ (vp_in v1 100 ∧ ∀ μ2 : Mem, μ2 = wr μ 50 (ix v1) (μ 51 (ix v1)) → (k85 (v1 + (1 : Int32)) μ2))))
def w_X8_drops_b76 (post : Mem → Prop) (k2 : Int32 → Mem → Prop) (v1 s0 s1 : Int32) (μ : Mem) : Prop :=
  vp_in s1 100 ∧ ∀ μ6 : Mem, μ6 = wr μ 51 (ix s1) s0 → (k2 (v1 + (1 : Int32)) μ6)
def w_X8_drops_b14 (post : Mem → Prop) (k2 : Int32 → Mem → Prop) (k14 : Int32 → Int32 → Int32 → Mem → Prop) (v1 v2 v3 : Int32) (μ : Mem) : Prop :=
  (((μ 31 3) ≤ v3) → (((v2 ≤ (1 : Int32)) → (w_X8_drops_b76 post k2 v1 (-1 : Int32) v1 μ)) ∧ ((¬ v2 ≤ (1 : Int32)) → (vp_in v1 100 ∧ (w_X8_drops_b76 post k2 v1 (μ 50 (ix v1)) v1 μ))))) ∧ ((¬ (μ 31 3) ≤ v3) → (vp_in v1 100 ∧ ((((μ 50 (ix v1)) = (-1 : Int32)) → (k14 v1 v2 (v3 + (1 : Int32)) μ)) ∧ ((¬ (μ 50 (ix v1)) = (-1 : Int32)) → (vp_in v3 100 ∧ (vp_in v1 100 ∧ (((¬ (μ 50 (ix v3)) = (μ 50 (ix v1))) → (k14 v1 v2 (v3 + (1 : Int32)) μ)) ∧ (((μ 50 (ix v3)) = (μ 50 (ix v1))) → (k14 v1 (v2 + (1 : Int32)) (v3 + (1 : Int32)) μ)))))))))
def w_X8_drops_b2 (post : Mem → Prop) (k2 : Int32 → Mem → Prop) (v1 : Int32) (μ : Mem) : Prop :=
  (((μ 31 3) ≤ v1) → ((∃ n : Nat, itr (fun _ _ => False) (w_X8_drops_b85 post) n (0 : Int32) μ))) ∧ ((¬ (μ 31 3) ≤ v1) → ((∃ n : Nat, itr (fun _ _ _ _ => False) (w_X8_drops_b14 post k2) n v1 (0 : Int32) (0 : Int32) μ)))
def w_X8_drops (post : Mem → Prop) (μ : Mem) : Prop :=
  (∃ n : Nat, itr (fun _ _ => False) (w_X8_drops_b2 post) n (0 : Int32) μ)
/-! X8_file -/
def w_X8_file (post : Int32 → Mem → Prop) (a1 a2 a3 a4 : Int32) (μ : Mem) : Prop :=
  ∀ μ1 : Mem, μ1 = wr μ 31 0 (0 : Int32) → (w_X8_isFolder (fun (r4 : Int32) (μ3 : Mem) => ((¬ r4 = 0) → (w_X8_canCome (fun (r6 : Int32) (μ5 : Mem) => ((r6 = 0) → (post (-1 : Int32) μ5)) ∧ ((¬ r6 = 0) → ((((μ5 31 3) = (100 : Int32)) → (post (-1 : Int32) μ5)) ∧ ((¬ (μ5 31 3) = (100 : Int32)) → (((a3 < 0) → (post (-1 : Int32) μ5)) ∧ ((¬ a3 < 0) → ((((7 : Int32) < a3) → (post (-1 : Int32) μ5)) ∧ ((¬ (7 : Int32) < a3) → (((a4 < 0) → (post (-1 : Int32) μ5)) ∧ ((¬ a4 < 0) → (((a4 ≤ (64 : Int32)) → (w_X8_newBody (fun (r8 : Int32) (μ7 : Mem) => w_X8_newFile (fun (r10 : Int32) (μ9 : Mem) => post r10 μ9) a1 a2 r8 μ7) a4 a3 (μ5 31 4) μ5)) ∧ ((¬ a4 ≤ (64 : Int32)) → (post (-1 : Int32) μ5))))))))))))) a1 a2 μ3)) ∧ ((r4 = 0) → (post (0 : Int32) μ3))) a1 μ1)
/-! X8_isWritten -/
def w_X8_isWritten (post : Mem → Prop) (a1 : Int32) (μ : Mem) : Prop :=
  vp_in a1 100 ∧ ∀ μ1 : Mem, μ1 = wr μ 40 (ix a1) (μ 31 4) → (vp_in a1 100 ∧ ∀ μ4 : Mem, μ4 = wr μ1 41 (ix a1) (-1 : Int32) → (post μ4))
/-! X8_others -/
def w_X8_others (post : Int32 → Mem → Prop) (a1 : Int32) (μ : Mem) : Prop :=
  vp_in a1 60 ∧ (w_X8_names (fun (r3 : Int32) (μ2 : Mem) => post (r3 - (1 : Int32)) μ2) (μ 36 (ix a1)) μ)
/-! X8_fill -/
def w_X8_fill_b100 (post : Int32 → Mem → Prop) (v1 : Int32) (μ : Mem) : Prop :=
  w_X8_others (fun (r7 : Int32) (μ6 : Mem) => post r7 μ6) v1 μ
def w_X8_fill_b58 (post : Int32 → Mem → Prop) (k58 : Int32 → Int32 → Int32 → Int32 → Int32 → Int32 → Mem → Prop) (v1 v2 v3 v4 v5 v6 : Int32) (μ : Mem) : Prop :=
  ((v3 ≤ v6) → (((v3 ≤ v2) → (w_X8_fill_b100 post v1 μ)) ∧ ((¬ v3 ≤ v2) → (w_X8_isWritten (fun (μ8 : Mem) => w_X8_fill_b100 post v1 μ8) v5 μ)))) ∧ ((¬ v3 ≤ v6) → (vp_in (((64 : Int32) * v5) + v6) 6400 ∧ ∀ μ10 : Mem, μ10 = wr μ 42 (ix (((64 : Int32) * v5) + v6)) (v4 &&& (255 : Int32)) → (k58 v1 v2 v3 v4 v5 (v6 + (1 : Int32)) μ10)))
def w_X8_fill_b38 (post : Int32 → Mem → Prop) (v1 v2 v3 v4 s0 : Int32) (μ : Mem) : Prop :=
  w_X8_right (fun (r4 : Int32) (μ3 : Mem) => ((¬ r4 = 0) → (vp_in v1 60 ∧ ((∃ n : Nat, itr (fun _ _ _ _ _ _ _ => False) (w_X8_fill_b58 post) n v1 v2 v3 v4 (μ3 36 (ix v1)) v2 μ3)))) ∧ ((r4 = 0) → (post (0 : Int32) μ3))) s0 (2 : Int32) μ
def w_X8_fill_b37 (post : Int32 → Mem → Prop) (v1 v2 v3 v4 : Int32) (μ : Mem) : Prop :=
  w_X8_fill_b38 post v1 v2 v3 v4 (0 : Int32) μ
def w_X8_fill (post : Int32 → Mem → Prop) (a1 a2 a3 a4 : Int32) (μ : Mem) : Prop :=
  w_X8_isFile (fun (r2 : Int32) (μ1 : Mem) => ((r2 = 0) → (post (0 : Int32) μ1)) ∧ ((¬ r2 = 0) → (((a2 < 0) → (w_X8_fill_b37 post a1 a2 a3 a4 μ1)) ∧ ((¬ a2 < 0) → (((a3 < a2) → (w_X8_fill_b37 post a1 a2 a3 a4 μ1)) ∧ ((¬ a3 < a2) → (vp_in a1 60 ∧ (vp_in (μ1 36 (ix a1)) 100 ∧ ((((μ1 38 (ix (μ1 36 (ix a1)))) < a3) → (w_X8_fill_b37 post a1 a2 a3 a4 μ1)) ∧ ((¬ (μ1 38 (ix (μ1 36 (ix a1)))) < a3) → (w_X8_fill_b38 post a1 a2 a3 a4 (1 : Int32) μ1))))))))))) a1 μ
/-! X8_find -/
def w_X8_find_b369 (post : Int32 → Mem → Prop) (k314 : Int32 → Mem → Prop) (v1 s0 s1 : Int32) (μ : Mem) : Prop :=
  vp_in s1 100 ∧ ∀ μ12 : Mem, μ12 = wr μ 41 (ix s1) s0 → (vp_in v1 100 ∧ (((¬ (μ12 50 (ix v1)) = v1) → (k314 (v1 + (1 : Int32)) μ12)) ∧ (((μ12 50 (ix v1)) = v1) → (∀ μ16 : Mem, μ16 = wr μ12 31 6 ((μ12 31 6) + (1 : Int32)) → (k314 (v1 + (1 : Int32)) μ16)))))
def w_X8_find_b314 (post : Int32 → Mem → Prop) (k314 : Int32 → Mem → Prop) (v1 : Int32) (μ : Mem) : Prop :=
  (((μ 31 3) ≤ v1) → (post (μ 31 6) μ)) ∧ ((¬ (μ 31 3) ≤ v1) → (vp_in v1 100 ∧ (((¬ (μ 50 (ix v1)) = (-1 : Int32)) → (vp_in v1 100 ∧ (((¬ (μ 50 (ix v1)) = v1) → (vp_in v1 100 ∧ (vp_in (μ 50 (ix v1)) 100 ∧ (w_X8_find_b369 post k314 v1 (μ 41 (ix (μ 50 (ix v1)))) v1 μ)))) ∧ (((μ 50 (ix v1)) = v1) → (w_X8_find_b369 post k314 v1 (μ 31 6) v1 μ))))) ∧ (((μ 50 (ix v1)) = (-1 : Int32)) → (w_X8_find_b369 post k314 v1 (-1 : Int32) v1 μ)))))
def w_X8_find_b271 (post : Int32 → Mem → Prop) (k119 : Int32 → Mem → Prop) (k271 : Int32 → Int32 → Mem → Prop) (v1 v2 : Int32) (μ : Mem) : Prop :=
  (((μ 31 3) ≤ v2) → (w_X8_drops (fun (μ22 : Mem) => k119 (v1 + (8 : Int32)) μ22) μ)) ∧ ((¬ (μ 31 3) ≤ v2) → (vp_in v2 100 ∧ (vp_in v2 100 ∧ ∀ μ24 : Mem, μ24 = wr μ 50 (ix v2) (μ 51 (ix v2)) → (k271 v1 (v2 + (1 : Int32)) μ24))))
def w_X8_find_b244 (post : Int32 → Mem → Prop) (k119 : Int32 → Mem → Prop) (k127 : Int32 → Int32 → Mem → Prop) (k174 : Int32 → Int32 → Int32 → Mem → Prop) (v1 v2 v3 s0 s1 s2 s3 : Int32) (μ : Mem) : Prop :=
  w_X8_hasSame (fun (r39 : Int32) (μ38 : Mem) => ((r39 = 0) → (k174 v1 v2 (v3 + (1 : Int32)) μ38)) ∧ ((¬ r39 = 0) → (vp_in v2 100 ∧ ∀ μ40 : Mem, μ40 = wr μ38 51 (ix v2) v3 → (k174 v1 v2 (v3 + (1 : Int32)) μ40)))) s3 s2 s1 s0 μ
def w_X8_find_b174 (post : Int32 → Mem → Prop) (k119 : Int32 → Mem → Prop) (k127 : Int32 → Int32 → Mem → Prop) (k174 : Int32 → Int32 → Int32 → Mem → Prop) (v1 v2 v3 : Int32) (μ : Mem) : Prop :=
  ((v2 < v3) → (k127 v1 (v2 + (1 : Int32)) μ)) ∧ ((¬ v2 < v3) → (vp_in v2 100 ∧ ((((μ 50 (ix v2)) = (-1 : Int32)) → (k127 v1 (v2 + (1 : Int32)) μ)) ∧ ((¬ (μ 50 (ix v2)) = (-1 : Int32)) → (vp_in v2 100 ∧ (((¬ (μ 51 (ix v2)) = (-1 : Int32)) → (k127 v1 (v2 + (1 : Int32)) μ)) ∧ (((μ 51 (ix v2)) = (-1 : Int32)) → (vp_in v3 100 ∧ (vp_in v2 100 ∧ (((¬ (μ 50 (ix v3)) = (μ 50 (ix v2))) → (k174 v1 v2 (v3 + (1 : Int32)) μ)) ∧ (((μ 50 (ix v3)) = (μ 50 (ix v2))) → (vp_in v2 100 ∧ ((((μ 38 (ix v2)) ≤ (v1 + (8 : Int32))) → (vp_in v2 100 ∧ (w_X8_find_b244 post k119 k127 k174 v1 v2 v3 (μ 38 (ix v2)) v1 v3 v2 μ))) ∧ ((¬ (μ 38 (ix v2)) ≤ (v1 + (8 : Int32))) → (w_X8_find_b244 post k119 k127 k174 v1 v2 v3 (v1 + (8 : Int32)) v1 v3 v2 μ)))))))))))))))
def w_X8_find_b165 (post : Int32 → Mem → Prop) (k119 : Int32 → Mem → Prop) (k127 : Int32 → Int32 → Mem → Prop) (v1 v2 : Int32) (μ : Mem) : Prop :=
  vp_in v2 100 ∧ ∀ μ29 : Mem, μ29 = wr μ 51 (ix v2) (-1 : Int32) → ((∃ n : Nat, itr (fun _ _ _ _ => False) (w_X8_find_b174 post k119 k127) n v1 v2 (0 : Int32) μ29))
def w_X8_find_b127 (post : Int32 → Mem → Prop) (k119 : Int32 → Mem → Prop) (k127 : Int32 → Int32 → Mem → Prop) (v1 v2 : Int32) (μ : Mem) : Prop :=
  (((μ 31 3) ≤ v2) → ((∃ n : Nat, itr (fun _ _ _ => False) (w_X8_find_b271 post k119) n v1 (0 : Int32) μ))) ∧ ((¬ (μ 31 3) ≤ v2) → (vp_in v2 100 ∧ ((((μ 50 (ix v2)) = (-1 : Int32)) → (w_X8_find_b165 post k119 k127 v1 v2 μ)) ∧ ((¬ (μ 50 (ix v2)) = (-1 : Int32)) → (vp_in v2 100 ∧ ((((μ 38 (ix v2)) ≤ v1) → (w_X8_find_b165 post k119 k127 v1 v2 μ)) ∧ ((¬ (μ 38 (ix v2)) ≤ v1) → (∀ μ50 : Mem, μ50 = wr μ 31 7 ((μ 31 7) + (1 : Int32)) → (w_X8_find_b165 post k119 k127 v1 v2 μ50)))))))))
def w_X8_find_b119 (post : Int32 → Mem → Prop) (k119 : Int32 → Mem → Prop) (v1 : Int32) (μ : Mem) : Prop :=
  (((64 : Int32) ≤ v1) → (∀ μ6 : Mem, μ6 = wr μ 31 6 (0 : Int32) → ((∃ n : Nat, itr (fun _ _ => False) (w_X8_find_b314 post) n (0 : Int32) μ6)))) ∧ ((¬ (64 : Int32) ≤ v1) → ((∃ n : Nat, itr (fun _ _ _ => False) (w_X8_find_b127 post k119) n v1 (0 : Int32) μ)))
def w_X8_find_b52 (post : Int32 → Mem → Prop) (k12 : Int32 → Mem → Prop) (k52 : Int32 → Int32 → Int32 → Mem → Prop) (v1 v2 v3 : Int32) (μ : Mem) : Prop :=
  ((v1 < v3) → (k12 (v1 + (1 : Int32)) μ)) ∧ ((¬ v1 < v3) → (((v2 = 0) → (k12 (v1 + (1 : Int32)) μ)) ∧ ((¬ v2 = 0) → (vp_in v1 100 ∧ (((¬ (μ 50 (ix v1)) = (-1 : Int32)) → (k12 (v1 + (1 : Int32)) μ)) ∧ (((μ 50 (ix v1)) = (-1 : Int32)) → (vp_in v3 100 ∧ (vp_in v1 100 ∧ (((¬ (μ 38 (ix v3)) = (μ 38 (ix v1))) → (k52 v1 v2 (v3 + (1 : Int32)) μ)) ∧ (((μ 38 (ix v3)) = (μ 38 (ix v1))) → (w_X8_names (fun (r64 : Int32) (μ63 : Mem) => ((r64 ≤ 0) → (k52 v1 v2 (v3 + (1 : Int32)) μ63)) ∧ ((¬ r64 ≤ 0) → (vp_in v1 100 ∧ ∀ μ65 : Mem, μ65 = wr μ63 50 (ix v1) v3 → (k52 v1 v2 (v3 + (1 : Int32)) μ65)))) v3 μ)))))))))))
def w_X8_find_b49 (post : Int32 → Mem → Prop) (k12 : Int32 → Mem → Prop) (v1 s0 : Int32) (μ : Mem) : Prop :=
  (∃ n : Nat, itr (fun _ _ _ _ => False) (w_X8_find_b52 post k12) n v1 s0 (0 : Int32) μ)
def w_X8_find_b48 (post : Int32 → Mem → Prop) (k12 : Int32 → Mem → Prop) (v1 : Int32) (μ : Mem) : Prop :=
  w_X8_find_b49 post k12 v1 (0 : Int32) μ
def w_X8_find_b12 (post : Int32 → Mem → Prop) (k12 : Int32 → Mem → Prop) (v1 : Int32) (μ : Mem) : Prop :=
  (((μ 31 3) ≤ v1) → (w_X8_drops (fun (μ5 : Mem) => (∃ n : Nat, itr (fun _ _ => False) (w_X8_find_b119 post) n (0 : Int32) μ5)) μ)) ∧ ((¬ (μ 31 3) ≤ v1) → (vp_in v1 100 ∧ ∀ μ56 : Mem, μ56 = wr μ 50 (ix v1) (-1 : Int32) → (vp_in v1 100 ∧ ((((μ56 38 (ix v1)) ≤ 0) → (w_X8_find_b48 post k12 v1 μ56)) ∧ ((¬ (μ56 38 (ix v1)) ≤ 0) → (w_X8_names (fun (r74 : Int32) (μ73 : Mem) => ((r74 ≤ 0) → (w_X8_find_b48 post k12 v1 μ73)) ∧ ((¬ r74 ≤ 0) → (w_X8_find_b49 post k12 v1 (1 : Int32) μ73))) v1 μ56))))))
def w_X8_find (post : Int32 → Mem → Prop) (μ : Mem) : Prop :=
  ∀ μ1 : Mem, μ1 = wr μ 31 0 (0 : Int32) → (∀ μ3 : Mem, μ3 = wr μ1 31 7 (0 : Int32) → ((∃ n : Nat, itr (fun _ _ => False) (w_X8_find_b12 post) n (0 : Int32) μ3)))
/-! X8_folder -/
def w_X8_folder (post : Int32 → Mem → Prop) (a1 a2 : Int32) (μ : Mem) : Prop :=
  ∀ μ1 : Mem, μ1 = wr μ 31 0 (0 : Int32) → (w_X8_isFolder (fun (r4 : Int32) (μ3 : Mem) => ((¬ r4 = 0) → ((((μ3 31 1) = (16 : Int32)) → (post (-1 : Int32) μ3)) ∧ ((¬ (μ3 31 1) = (16 : Int32)) → (w_X8_isName (fun (r6 : Int32) (μ5 : Mem) => ((r6 = 0) → (post (-1 : Int32) μ5)) ∧ ((¬ r6 = 0) → (w_X8_child (fun (r8 : Int32) (μ7 : Mem) => ((r8 = (-1 : Int32)) → (vp_in (μ7 31 1) 16 ∧ ∀ μ9 : Mem, μ9 = wr μ7 32 (ix (μ7 31 1)) a1 → (vp_in (μ9 31 1) 16 ∧ ∀ μ12 : Mem, μ12 = wr μ9 33 (ix (μ9 31 1)) a2 → (∀ μ15 : Mem, μ15 = wr μ12 31 1 ((μ12 31 1) + (1 : Int32)) → (post ((μ15 31 1) - (1 : Int32)) μ15))))) ∧ ((¬ r8 = (-1 : Int32)) → (post (-1 : Int32) μ7))) a1 a2 μ5))) a2 μ3)))) ∧ ((r4 = 0) → (post (0 : Int32) μ3))) a1 μ1)
/-! X8_groupOf -/
def w_X8_groupOf (post : Int32 → Mem → Prop) (a1 : Int32) (μ : Mem) : Prop :=
  w_X8_isFile (fun (r2 : Int32) (μ1 : Mem) => ((r2 = 0) → (post (0 : Int32) μ1)) ∧ ((¬ r2 = 0) → (vp_in a1 60 ∧ (vp_in (μ1 36 (ix a1)) 100 ∧ (post (μ1 41 (ix (μ1 36 (ix a1)))) μ1))))) a1 μ
/-! X8_piece -/
def w_X8_piece_b5 (post : Int32 → Mem → Prop) (k5 : Int32 → Int32 → Int32 → Int32 → Mem → Prop) (v1 v2 v3 v4 : Int32) (μ : Mem) : Prop :=
  (((4 : Int32) ≤ v4) → (post v3 μ)) ∧ ((¬ (4 : Int32) ≤ v4) → (vp_in ((((64 : Int32) * v1) + v2) + v4) 6400 ∧ (k5 v1 v2 ((v3 <<< ((8 : Int32) &&& 31)) ||| (μ 42 (ix ((((64 : Int32) * v1) + v2) + v4)))) (v4 + (1 : Int32)) μ)))
def w_X8_piece (post : Int32 → Mem → Prop) (a1 a2 : Int32) (μ : Mem) : Prop :=
  (∃ n : Nat, itr (fun _ _ _ _ _ => False) (w_X8_piece_b5 post) n a1 a2 (0 : Int32) (0 : Int32) μ)
/-! X8_has -/
def w_X8_has_b3 (post : Int32 → Mem → Prop) (k3 : Int32 → Int32 → Int32 → Int32 → Mem → Prop) (v1 v2 v3 v4 : Int32) (μ : Mem) : Prop :=
  ((v3 ≤ v4) → (post (0 : Int32) μ)) ∧ ((¬ v3 ≤ v4) → (w_X8_piece (fun (r2 : Int32) (μ1 : Mem) => ((¬ r2 = v2) → (k3 v1 v2 v3 (v4 + (1 : Int32)) μ1)) ∧ ((r2 = v2) → (post (1 : Int32) μ1))) v1 v4 μ))
def w_X8_has (post : Int32 → Mem → Prop) (a1 a2 a3 : Int32) (μ : Mem) : Prop :=
  (∃ n : Nat, itr (fun _ _ _ _ _ => False) (w_X8_has_b3 post) n a1 a2 a3 (0 : Int32) μ)
/-! X8_hold -/
def w_X8_hold (post : Int32 → Mem → Prop) (a1 a2 : Int32) (μ : Mem) : Prop :=
  w_X8_isFile (fun (r2 : Int32) (μ1 : Mem) => ((¬ r2 = 0) → (vp_in a1 60 ∧ (vp_in a1 60 ∧ ∀ μ4 : Mem, μ4 = wr μ1 37 (ix a1) (nz a2) → (bz (μ1 37 (ix a1)) ∧ post (μ1 37 (ix a1)) μ4)))) ∧ ((r2 = 0) → (post (0 : Int32) μ1))) a1 μ
/-! X8_isBelow -/
def w_X8_isBelow_b27 (post : Int32 → Mem → Prop) (v2 v3 : Int32) (μ : Mem) : Prop :=
  ((¬ v3 = v2) → (post (0 : Int32) μ)) ∧ ((v3 = v2) → (post (1 : Int32) μ))
def w_X8_isBelow_b7 (post : Int32 → Mem → Prop) (k7 : Int32 → Int32 → Mem → Prop) (v2 v3 : Int32) (μ : Mem) : Prop :=
  ((v3 = (-1 : Int32)) → (w_X8_isBelow_b27 post v2 v3 μ)) ∧ ((¬ v3 = (-1 : Int32)) → (((v3 = v2) → (w_X8_isBelow_b27 post v2 v3 μ)) ∧ ((¬ v3 = v2) → (vp_in v3 16 ∧ (k7 v2 (μ 32 (ix v3)) μ)))))
def w_X8_isBelow (post : Int32 → Mem → Prop) (a1 a2 : Int32) (μ : Mem) : Prop :=
  vp_in a1 60 ∧ ((∃ n : Nat, itr (fun _ _ _ => False) (w_X8_isBelow_b7 post) n a2 (μ 34 (ix a1)) μ))
/-! X8_rank -/
def w_X8_rank (post : Int32 → Mem → Prop) (a1 a2 : Int32) (μ : Mem) : Prop :=
  vp_in a1 3 ∧ ((((μ 43 (ix a1)) = 0) → (vp_in a1 3 ∧ (w_X8_isBelow (fun (r4 : Int32) (μ3 : Mem) => ((r4 = 0) → (post (1 : Int32) μ3)) ∧ ((¬ r4 = 0) → (post (0 : Int32) μ3))) a2 (μ 44 (ix a1)) μ))) ∧ ((¬ (μ 43 (ix a1)) = 0) → ((((μ 43 (ix a1)) = 1) → (vp_in a2 60 ∧ (vp_in (μ 36 (ix a2)) 100 ∧ (post (μ 40 (ix (μ 36 (ix a2)))) μ)))) ∧ ((¬ (μ 43 (ix a1)) = 1) → ((((μ 43 (ix a1)) = 2) → (vp_in a2 60 ∧ (vp_in (μ 36 (ix a2)) 100 ∧ (post (-(μ 40 (ix (μ 36 (ix a2))))) μ)))) ∧ ((¬ (μ 43 (ix a1)) = 2) → ((((μ 43 (ix a1)) = 3) → (w_X8_above (fun (r14 : Int32) (μ13 : Mem) => post r14 μ13) a2 μ)) ∧ ((¬ (μ 43 (ix a1)) = 3) → ((((μ 43 (ix a1)) = 4) → (vp_in a2 60 ∧ (post (μ 35 (ix a2)) μ))) ∧ ((¬ (μ 43 (ix a1)) = 4) → (vp_in a2 60 ∧ ((((μ 37 (ix a2)) = 0) → (post (1 : Int32) μ)) ∧ ((¬ (μ 37 (ix a2)) = 0) → (post (0 : Int32) μ))))))))))))))
/-! X8_isAhead -/
def w_X8_isAhead_b2 (post : Int32 → Mem → Prop) (k2 : Int32 → Int32 → Int32 → Mem → Prop) (v1 v2 v3 : Int32) (μ : Mem) : Prop :=
  (((μ 31 8) ≤ v3) → (post (0 : Int32) μ)) ∧ ((¬ (μ 31 8) ≤ v3) → (w_X8_rank (fun (r2 : Int32) (μ1 : Mem) => w_X8_rank (fun (r4 : Int32) (μ3 : Mem) => ((r2 = r4) → (k2 v1 v2 (v3 + (1 : Int32)) μ3)) ∧ ((¬ r2 = r4) → (w_X8_rank (fun (r6 : Int32) (μ5 : Mem) => w_X8_rank (fun (r8 : Int32) (μ7 : Mem) => ((r8 ≤ r6) → (post (0 : Int32) μ7)) ∧ ((¬ r8 ≤ r6) → (post (1 : Int32) μ7))) v3 v2 μ5) v3 v1 μ3))) v3 v2 μ1) v3 v1 μ))
def w_X8_isAhead (post : Int32 → Mem → Prop) (a1 a2 : Int32) (μ : Mem) : Prop :=
  (∃ n : Nat, itr (fun _ _ _ _ => False) (w_X8_isAhead_b2 post) n a1 a2 (0 : Int32) μ)
/-! X8_isGroup -/
def w_X8_isGroup_b23 (post : Int32 → Mem → Prop) (s0 : Int32) (μ : Mem) : Prop :=
  w_X8_right (fun (r4 : Int32) (μ3 : Mem) => bz r4 ∧ post r4 μ3) s0 (1 : Int32) μ
def w_X8_isGroup_b22 (post : Int32 → Mem → Prop) (μ : Mem) : Prop :=
  w_X8_isGroup_b23 post (0 : Int32) μ
def w_X8_isGroup (post : Int32 → Mem → Prop) (a1 : Int32) (μ : Mem) : Prop :=
  ∀ μ1 : Mem, μ1 = wr μ 31 0 (0 : Int32) → (((a1 < 0) → (w_X8_isGroup_b22 post μ1)) ∧ ((¬ a1 < 0) → ((((μ1 31 6) ≤ a1) → (w_X8_isGroup_b22 post μ1)) ∧ ((¬ (μ1 31 6) ≤ a1) → (w_X8_isGroup_b23 post (1 : Int32) μ1)))))
/-! X8_isMember -/
def w_X8_isMember (post : Int32 → Mem → Prop) (a1 a2 : Int32) (μ : Mem) : Prop :=
  vp_in a2 60 ∧ ((((μ 34 (ix a2)) = (-1 : Int32)) → (post (0 : Int32) μ)) ∧ ((¬ (μ 34 (ix a2)) = (-1 : Int32)) → (vp_in a2 60 ∧ (vp_in (μ 36 (ix a2)) 100 ∧ (((¬ (μ 41 (ix (μ 36 (ix a2)))) = a1) → (post (0 : Int32) μ)) ∧ (((μ 41 (ix (μ 36 (ix a2)))) = a1) → (post (1 : Int32) μ)))))))
/-! X8_isStill -/
def w_X8_isStill (post : Int32 → Mem → Prop) (a1 a2 : Int32) (μ : Mem) : Prop :=
  vp_in (((60 : Int32) * a1) + a2) 1200 ∧ (vp_in (μ 48 (ix (((60 : Int32) * a1) + a2))) 60 ∧ ((((μ 34 (ix (μ 48 (ix (((60 : Int32) * a1) + a2))))) = (-1 : Int32)) → (post (0 : Int32) μ)) ∧ ((¬ (μ 34 (ix (μ 48 (ix (((60 : Int32) * a1) + a2))))) = (-1 : Int32)) → (vp_in (μ 48 (ix (((60 : Int32) * a1) + a2))) 60 ∧ (vp_in a1 20 ∧ (((¬ (μ 36 (ix (μ 48 (ix (((60 : Int32) * a1) + a2))))) = (μ 47 (ix a1))) → (post (0 : Int32) μ)) ∧ (((μ 36 (ix (μ 48 (ix (((60 : Int32) * a1) + a2))))) = (μ 47 (ix a1))) → (post (1 : Int32) μ))))))))
/-! X8_keptOf -/
def w_X8_keptOf_b35 (post : Int32 → Mem → Prop) (k4 : Int32 → Int32 → Int32 → Mem → Prop) (v1 v3 : Int32) (μ : Mem) : Prop :=
  k4 v1 v3 (v3 + (1 : Int32)) μ
def w_X8_keptOf_b4 (post : Int32 → Mem → Prop) (k4 : Int32 → Int32 → Int32 → Mem → Prop) (v1 v2 v3 : Int32) (μ : Mem) : Prop :=
  (((μ 31 2) ≤ v3) → (post v2 μ)) ∧ ((¬ (μ 31 2) ≤ v3) → (w_X8_isMember (fun (r2 : Int32) (μ1 : Mem) => ((r2 = 0) → (k4 v1 v2 (v3 + (1 : Int32)) μ1)) ∧ ((¬ r2 = 0) → (((v2 = (-1 : Int32)) → (w_X8_keptOf_b35 post k4 v1 v3 μ1)) ∧ ((¬ v2 = (-1 : Int32)) → (w_X8_isAhead (fun (r4 : Int32) (μ3 : Mem) => ((r4 = 0) → (k4 v1 v2 (v3 + (1 : Int32)) μ3)) ∧ ((¬ r4 = 0) → (w_X8_keptOf_b35 post k4 v1 v3 μ3))) v3 v2 μ1))))) v1 v3 μ))
def w_X8_keptOf (post : Int32 → Mem → Prop) (a1 : Int32) (μ : Mem) : Prop :=
  (∃ n : Nat, itr (fun _ _ _ _ => False) (w_X8_keptOf_b4 post) n a1 (-1 : Int32) (0 : Int32) μ)
/-! X8_keep -/
def w_X8_keep (post : Int32 → Mem → Prop) (a1 : Int32) (μ : Mem) : Prop :=
  w_X8_isGroup (fun (r2 : Int32) (μ1 : Mem) => ((r2 = 0) → (post (0 : Int32) μ1)) ∧ ((¬ r2 = 0) → (w_X8_keptOf (fun (r4 : Int32) (μ3 : Mem) => post r4 μ3) a1 μ1))) a1 μ
/-! X8_keeps -/
def w_X8_keeps_b153 (post : Mem → Prop) (k153 : Int32 → Int32 → Mem → Prop) (v2 v3 : Int32) (μ : Mem) : Prop :=
  ((v2 ≤ v3) → (∀ μ7 : Mem, μ7 = wr μ 31 23 ((μ 31 23) + (1 : Int32)) → (post μ7))) ∧ ((¬ v2 ≤ v3) → (vp_in v3 60 ∧ (vp_in (((60 : Int32) * (μ 31 23)) + v3) 1200 ∧ ∀ μ10 : Mem, μ10 = wr μ 48 (ix (((60 : Int32) * (μ 31 23)) + v3)) (μ 54 (ix v3)) → (vp_in v3 60 ∧ (vp_in (((60 : Int32) * (μ10 31 23)) + v3) 1200 ∧ ∀ μ14 : Mem, μ14 = wr μ10 49 (ix (((60 : Int32) * (μ10 31 23)) + v3)) (μ10 55 (ix v3)) → (k153 v2 (v3 + (1 : Int32)) μ14))))))
def w_X8_keeps_b131 (post : Mem → Prop) (v1 v2 : Int32) (μ : Mem) : Prop :=
  vp_in (μ 31 23) 20 ∧ ∀ μ1 : Mem, μ1 = wr μ 46 (ix (μ 31 23)) v2 → (vp_in (μ1 31 23) 20 ∧ ∀ μ4 : Mem, μ4 = wr μ1 47 (ix (μ1 31 23)) v1 → ((∃ n : Nat, itr (fun _ _ _ => False) (w_X8_keeps_b153 post) n v2 (0 : Int32) μ4)))
def w_X8_keeps_b48 (post : Mem → Prop) (k11 : Int32 → Int32 → Int32 → Mem → Prop) (k48 : Int32 → Int32 → Int32 → Int32 → Mem → Prop) (v1 v2 v3 v4 : Int32) (μ : Mem) : Prop :=
  (((60 : Int32) ≤ v4) → (k11 v1 v2 (v3 + (1 : Int32)) μ)) ∧ ((¬ (60 : Int32) ≤ v4) → (vp_in ((((60 : Int32) * v3) + (60 : Int32)) + v4) 1200 ∧ (vp_in (((60 : Int32) * v3) + v4) 1200 ∧ ∀ μ29 : Mem, μ29 = wr μ 48 (ix (((60 : Int32) * v3) + v4)) (μ 48 (ix ((((60 : Int32) * v3) + (60 : Int32)) + v4))) → (vp_in ((((60 : Int32) * v3) + (60 : Int32)) + v4) 1200 ∧ (vp_in (((60 : Int32) * v3) + v4) 1200 ∧ ∀ μ33 : Mem, μ33 = wr μ29 49 (ix (((60 : Int32) * v3) + v4)) (μ29 49 (ix ((((60 : Int32) * v3) + (60 : Int32)) + v4))) → (k48 v1 v2 v3 (v4 + (1 : Int32)) μ33))))))
def w_X8_keeps_b11 (post : Mem → Prop) (k11 : Int32 → Int32 → Int32 → Mem → Prop) (v1 v2 v3 : Int32) (μ : Mem) : Prop :=
  (((19 : Int32) ≤ v3) → (∀ μ18 : Mem, μ18 = wr μ 31 23 ((μ 31 23) - (1 : Int32)) → (w_X8_keeps_b131 post v1 v2 μ18))) ∧ ((¬ (19 : Int32) ≤ v3) → (vp_in (v3 + (1 : Int32)) 20 ∧ (vp_in v3 20 ∧ ∀ μ21 : Mem, μ21 = wr μ 46 (ix v3) (μ 46 (ix (v3 + (1 : Int32)))) → (vp_in (v3 + (1 : Int32)) 20 ∧ (vp_in v3 20 ∧ ∀ μ25 : Mem, μ25 = wr μ21 47 (ix v3) (μ21 47 (ix (v3 + (1 : Int32)))) → ((∃ n : Nat, itr (fun _ _ _ _ _ => False) (w_X8_keeps_b48 post k11) n v1 v2 v3 (0 : Int32) μ25)))))))
def w_X8_keeps (post : Mem → Prop) (a1 a2 : Int32) (μ : Mem) : Prop :=
  ((¬ (μ 31 23) = (20 : Int32)) → (w_X8_keeps_b131 post a1 a2 μ)) ∧ (((μ 31 23) = (20 : Int32)) → ((∃ n : Nat, itr (fun _ _ _ _ => False) (w_X8_keeps_b11 post) n a1 a2 (0 : Int32) μ)))
/-! X8_leave -/
def w_X8_leave_b59 (post : Int32 → Mem → Prop) (v1 v2 s0 : Int32) (μ : Mem) : Prop :=
  vp_in v1 8 ∧ (vp_in v1 8 ∧ ∀ μ7 : Mem, μ7 = wr μ 45 (ix v1) ((μ 45 (ix v1)) ||| ((1 : Int32) <<< (v2 &&& 31))) → (((¬ s0 = 0) → (post (0 : Int32) μ7)) ∧ ((s0 = 0) → (post (1 : Int32) μ7))))
def w_X8_leave_b31 (post : Int32 → Mem → Prop) (v1 v2 s0 : Int32) (μ : Mem) : Prop :=
  w_X8_right (fun (r4 : Int32) (μ3 : Mem) => ((¬ r4 = 0) → (vp_in v1 8 ∧ (((¬ (((μ3 45 (ix v1)) >>> (v2 &&& 31)) &&& (1 : Int32)) = (1 : Int32)) → (w_X8_leave_b59 post v1 v2 (0 : Int32) μ3)) ∧ (((((μ3 45 (ix v1)) >>> (v2 &&& 31)) &&& (1 : Int32)) = (1 : Int32)) → (w_X8_leave_b59 post v1 v2 (1 : Int32) μ3))))) ∧ ((r4 = 0) → (post (0 : Int32) μ3))) s0 (1 : Int32) μ
def w_X8_leave_b30 (post : Int32 → Mem → Prop) (v1 v2 : Int32) (μ : Mem) : Prop :=
  w_X8_leave_b31 post v1 v2 (0 : Int32) μ
def w_X8_leave (post : Int32 → Mem → Prop) (a1 a2 : Int32) (μ : Mem) : Prop :=
  ∀ μ1 : Mem, μ1 = wr μ 31 0 (0 : Int32) → (((a1 < 0) → (w_X8_leave_b30 post a1 a2 μ1)) ∧ ((¬ a1 < 0) → ((((7 : Int32) < a1) → (w_X8_leave_b30 post a1 a2 μ1)) ∧ ((¬ (7 : Int32) < a1) → (((a2 < 0) → (w_X8_leave_b30 post a1 a2 μ1)) ∧ ((¬ a2 < 0) → ((((7 : Int32) < a2) → (w_X8_leave_b30 post a1 a2 μ1)) ∧ ((¬ (7 : Int32) < a2) → (w_X8_leave_b31 post a1 a2 (1 : Int32) μ1)))))))))
/-! X8_leaves -/
def w_X8_leaves (post : Mem → Prop) (a1 : Int32) (μ : Mem) : Prop :=
  w_X8_names (fun (r2 : Int32) (μ1 : Mem) => ((¬ r2 = 0) → (post μ1)) ∧ ((r2 = 0) → (vp_in a1 100 ∧ ∀ μ3 : Mem, μ3 = wr μ1 41 (ix a1) (-1 : Int32) → (post μ3)))) a1 μ
/-! X8_link -/
def w_X8_link (post : Int32 → Mem → Prop) (a1 a2 a3 : Int32) (μ : Mem) : Prop :=
  w_X8_isFile (fun (r2 : Int32) (μ1 : Mem) => ((r2 = 0) → (post (0 : Int32) μ1)) ∧ ((¬ r2 = 0) → (w_X8_isFolder (fun (r4 : Int32) (μ3 : Mem) => ((¬ r4 = 0) → (w_X8_canCome (fun (r6 : Int32) (μ5 : Mem) => ((r6 = 0) → (post (-1 : Int32) μ5)) ∧ ((¬ r6 = 0) → (vp_in a1 60 ∧ (w_X8_newFile (fun (r9 : Int32) (μ8 : Mem) => post r9 μ8) a2 a3 (μ5 36 (ix a1)) μ5)))) a2 a3 μ3)) ∧ ((r4 = 0) → (post (0 : Int32) μ3))) a2 μ1))) a1 μ
/-! X8_member -/
def w_X8_member_b65 (post : Int32 → Mem → Prop) (v3 s0 : Int32) (μ : Mem) : Prop :=
  w_X8_right (fun (r4 : Int32) (μ3 : Mem) => ((r4 = 0) → (post (0 : Int32) μ3)) ∧ ((¬ r4 = 0) → (post v3 μ3))) s0 (1 : Int32) μ
def w_X8_member_b15 (post : Int32 → Mem → Prop) (k15 : Int32 → Int32 → Int32 → Int32 → Mem → Prop) (v1 v2 v3 v4 : Int32) (μ : Mem) : Prop :=
  (((μ 31 2) ≤ v4) → (((¬ v2 = (-1 : Int32)) → (w_X8_member_b65 post v3 (0 : Int32) μ)) ∧ ((v2 = (-1 : Int32)) → (w_X8_member_b65 post v3 (1 : Int32) μ)))) ∧ ((¬ (μ 31 2) ≤ v4) → (w_X8_isMember (fun (r8 : Int32) (μ7 : Mem) => ((¬ r8 = 0) → (((¬ v3 = v2) → (k15 v1 v2 (v3 + (1 : Int32)) (v4 + (1 : Int32)) μ7)) ∧ ((v3 = v2) → (post v4 μ7)))) ∧ ((r8 = 0) → (k15 v1 v2 v3 (v4 + (1 : Int32)) μ7))) v1 v4 μ))
def w_X8_member (post : Int32 → Mem → Prop) (a1 a2 : Int32) (μ : Mem) : Prop :=
  w_X8_isGroup (fun (r2 : Int32) (μ1 : Mem) => ((¬ r2 = 0) → ((∃ n : Nat, itr (fun _ _ _ _ _ => False) (w_X8_member_b15 post) n a1 a2 (0 : Int32) (0 : Int32) μ1))) ∧ ((r2 = 0) → (post (0 : Int32) μ1))) a1 μ
/-! X8_merge -/
def w_X8_merge_b212 (post : Int32 → Mem → Prop) (k153 : Int32 → Int32 → Int32 → Mem → Prop) (v3 v4 v5 v6 : Int32) (μ : Mem) : Prop :=
  w_X8_leaves (fun (μ16 : Mem) => k153 v3 v4 (v5 + (1 : Int32)) μ16) v6 μ
def w_X8_merge_b153 (post : Int32 → Mem → Prop) (k153 : Int32 → Int32 → Int32 → Mem → Prop) (v3 v4 v5 : Int32) (μ : Mem) : Prop :=
  ((v4 ≤ v5) → (((v4 ≤ 0) → (post v4 μ)) ∧ ((¬ v4 ≤ 0) → (w_X8_keeps (fun (μ6 : Mem) => post v4 μ6) v3 v4 μ)))) ∧ ((¬ v4 ≤ v5) → (vp_in v5 60 ∧ (vp_in (μ 54 (ix v5)) 60 ∧ (vp_in v5 60 ∧ (vp_in (μ 54 (ix v5)) 60 ∧ ∀ μ11 : Mem, μ11 = wr μ 36 (ix (μ 54 (ix v5))) v3 → (w_X8_names (fun (r15 : Int32) (μ14 : Mem) => ((¬ r15 = 0) → (w_X8_merge_b212 post k153 v3 v4 v5 (μ 36 (ix (μ 54 (ix v5)))) μ14)) ∧ ((r15 = 0) → (vp_in (μ 36 (ix (μ 54 (ix v5)))) 100 ∧ (∀ μ18 : Mem, μ18 = wr μ14 31 5 ((μ14 31 5) + (μ14 38 (ix (μ 36 (ix (μ 54 (ix v5))))))) → (w_X8_merge_b212 post k153 v3 v4 v5 (μ 36 (ix (μ 54 (ix v5)))) μ18))))) (μ 36 (ix (μ 54 (ix v5)))) μ11))))))
def w_X8_merge_b123 (post : Int32 → Mem → Prop) (k36 : Int32 → Int32 → Int32 → Int32 → Mem → Prop) (v1 v3 v4 v5 v6 : Int32) (μ : Mem) : Prop :=
  vp_in v4 60 ∧ ∀ μ29 : Mem, μ29 = wr μ 54 (ix v4) v5 → (vp_in v4 60 ∧ ∀ μ32 : Mem, μ32 = wr μ29 55 (ix v4) v6 → (k36 v1 v3 (v4 + (1 : Int32)) (v5 + (1 : Int32)) μ32))
def w_X8_merge_b36 (post : Int32 → Mem → Prop) (k36 : Int32 → Int32 → Int32 → Int32 → Mem → Prop) (v1 v3 v4 v5 : Int32) (μ : Mem) : Prop :=
  (((μ 31 2) ≤ v5) → ((∃ n : Nat, itr (fun _ _ _ _ => False) (w_X8_merge_b153 post) n v3 v4 (0 : Int32) μ))) ∧ ((¬ (μ 31 2) ≤ v5) → (vp_in v5 60 ∧ (vp_in (μ 36 (ix v5)) 100 ∧ (w_X8_isMember (fun (r25 : Int32) (μ24 : Mem) => ((r25 = 0) → (k36 v1 v3 v4 (v5 + (1 : Int32)) μ24)) ∧ ((¬ r25 = 0) → (vp_in v5 60 ∧ (((¬ (μ24 37 (ix v5)) = 0) → (k36 v1 v3 v4 (v5 + (1 : Int32)) μ24)) ∧ (((μ24 37 (ix v5)) = 0) → (vp_in v5 60 ∧ ((((μ24 36 (ix v5)) = v3) → (k36 v1 v3 v4 (v5 + (1 : Int32)) μ24)) ∧ ((¬ (μ24 36 (ix v5)) = v3) → (vp_in v3 100 ∧ ((((μ 39 (ix (μ 36 (ix v5)))) = (μ24 39 (ix v3))) → (w_X8_merge_b123 post k36 v1 v3 v4 v5 (μ 39 (ix (μ 36 (ix v5)))) μ24)) ∧ ((¬ (μ 39 (ix (μ 36 (ix v5)))) = (μ24 39 (ix v3))) → (vp_in v3 100 ∧ (vp_in (μ24 39 (ix v3)) 8 ∧ (((¬ (((μ24 45 (ix (μ24 39 (ix v3)))) >>> ((μ 39 (ix (μ 36 (ix v5)))) &&& 31)) &&& (1 : Int32)) = 0) → (w_X8_merge_b123 post k36 v1 v3 v4 v5 (μ 39 (ix (μ 36 (ix v5)))) μ24)) ∧ (((((μ24 45 (ix (μ24 39 (ix v3)))) >>> ((μ 39 (ix (μ 36 (ix v5)))) &&& 31)) &&& (1 : Int32)) = 0) → (k36 v1 v3 v4 (v5 + (1 : Int32)) μ24)))))))))))))))) v1 v5 μ))))
def w_X8_merge (post : Int32 → Mem → Prop) (a1 : Int32) (μ : Mem) : Prop :=
  w_X8_isGroup (fun (r2 : Int32) (μ1 : Mem) => ((¬ r2 = 0) → (w_X8_keptOf (fun (r4 : Int32) (μ3 : Mem) => ((¬ r4 = (-1 : Int32)) → (vp_in r4 60 ∧ ((∃ n : Nat, itr (fun _ _ _ _ _ => False) (w_X8_merge_b36 post) n a1 (μ3 36 (ix r4)) (0 : Int32) (0 : Int32) μ3)))) ∧ ((r4 = (-1 : Int32)) → (post (0 : Int32) μ3))) a1 μ1)) ∧ ((r2 = 0) → (post (0 : Int32) μ1))) a1 μ
/-! X8_move -/
def w_X8_move (post : Int32 → Mem → Prop) (a1 a2 a3 : Int32) (μ : Mem) : Prop :=
  w_X8_isFile (fun (r2 : Int32) (μ1 : Mem) => ((r2 = 0) → (post (0 : Int32) μ1)) ∧ ((¬ r2 = 0) → (w_X8_isFolder (fun (r4 : Int32) (μ3 : Mem) => ((¬ r4 = 0) → (w_X8_isName (fun (r6 : Int32) (μ5 : Mem) => ((r6 = 0) → (post (0 : Int32) μ5)) ∧ ((¬ r6 = 0) → (w_X8_named (fun (r8 : Int32) (μ7 : Mem) => ((r8 = (-1 : Int32)) → (vp_in a1 60 ∧ ∀ μ9 : Mem, μ9 = wr μ7 34 (ix a1) a2 → (vp_in a1 60 ∧ ∀ μ12 : Mem, μ12 = wr μ9 35 (ix a1) a3 → (post (1 : Int32) μ12)))) ∧ ((¬ r8 = (-1 : Int32)) → (post (0 : Int32) μ7))) a2 a3 μ5))) a3 μ3)) ∧ ((r4 = 0) → (post (0 : Int32) μ3))) a2 μ1))) a1 μ
/-! X8_pieces -/
def w_X8_pieces (post : Int32 → Mem → Prop) (a1 : Int32) (μ : Mem) : Prop :=
  vp_in a1 100 ∧ ((((4 : Int32) ≤ (μ 38 (ix a1))) → (vp_in a1 100 ∧ (post ((μ 38 (ix a1)) - (3 : Int32)) μ))) ∧ ((¬ (4 : Int32) ≤ (μ 38 (ix a1))) → (post (0 : Int32) μ)))
/-! X8_nearOf -/
def w_X8_nearOf_b73 (post : Int32 → Mem → Prop) (k73 : Int32 → Int32 → Int32 → Int32 → Int32 → Mem → Prop) (v1 v2 v3 v4 v5 : Int32) (μ : Mem) : Prop :=
  w_X8_pieces (fun (r4 : Int32) (μ3 : Mem) => ((r4 ≤ v5) → (((¬ v4 = 0) → (¬ v4 = 0 ∧ (post (((1000 : Int32) * v3) / v4) μ3))) ∧ ((v4 = 0) → (post (0 : Int32) μ3)))) ∧ ((¬ r4 ≤ v5) → (w_X8_piece (fun (r8 : Int32) (μ7 : Mem) => w_X8_has (fun (r10 : Int32) (μ9 : Mem) => ((¬ r10 = 0) → (k73 v1 v2 v3 v4 (v5 + (1 : Int32)) μ9)) ∧ ((r10 = 0) → (w_X8_piece (fun (r12 : Int32) (μ11 : Mem) => w_X8_pieces (fun (r14 : Int32) (μ13 : Mem) => w_X8_has (fun (r16 : Int32) (μ15 : Mem) => ((¬ r16 = 0) → (k73 v1 v2 v3 v4 (v5 + (1 : Int32)) μ15)) ∧ ((r16 = 0) → (k73 v1 v2 v3 (v4 + (1 : Int32)) (v5 + (1 : Int32)) μ15))) v1 r12 r14 μ13) v1 μ11) v2 v5 μ9))) v2 r8 v5 μ7) v2 v5 μ3))) v2 μ
def w_X8_nearOf_b8 (post : Int32 → Mem → Prop) (k8 : Int32 → Int32 → Int32 → Int32 → Int32 → Mem → Prop) (v1 v2 v3 v4 v5 : Int32) (μ : Mem) : Prop :=
  w_X8_pieces (fun (r2 : Int32) (μ1 : Mem) => ((r2 ≤ v5) → ((∃ n : Nat, itr (fun _ _ _ _ _ _ => False) (w_X8_nearOf_b73 post) n v1 v2 v3 v4 (0 : Int32) μ1))) ∧ ((¬ r2 ≤ v5) → (w_X8_piece (fun (r21 : Int32) (μ20 : Mem) => w_X8_has (fun (r23 : Int32) (μ22 : Mem) => ((r23 = 0) → (w_X8_piece (fun (r25 : Int32) (μ24 : Mem) => w_X8_pieces (fun (r27 : Int32) (μ26 : Mem) => w_X8_has (fun (r29 : Int32) (μ28 : Mem) => ((r29 = 0) → (k8 v1 v2 v3 (v4 + (1 : Int32)) (v5 + (1 : Int32)) μ28)) ∧ ((¬ r29 = 0) → (k8 v1 v2 (v3 + (1 : Int32)) (v4 + (1 : Int32)) (v5 + (1 : Int32)) μ28))) v2 r25 r27 μ26) v2 μ24) v1 v5 μ22)) ∧ ((¬ r23 = 0) → (k8 v1 v2 v3 v4 (v5 + (1 : Int32)) μ22))) v1 r21 v5 μ20) v1 v5 μ1))) v1 μ
def w_X8_nearOf (post : Int32 → Mem → Prop) (a1 a2 : Int32) (μ : Mem) : Prop :=
  (∃ n : Nat, itr (fun _ _ _ _ _ _ => False) (w_X8_nearOf_b8 post) n a1 a2 (0 : Int32) (0 : Int32) (0 : Int32) μ)
/-! X8_near -/
def w_X8_near_b36 (post : Int32 → Mem → Prop) (v1 v2 s0 : Int32) (μ : Mem) : Prop :=
  w_X8_right (fun (r4 : Int32) (μ3 : Mem) => ((r4 = 0) → (post (0 : Int32) μ3)) ∧ ((¬ r4 = 0) → (vp_in v1 60 ∧ (vp_in v2 60 ∧ (w_X8_nearOf (fun (r8 : Int32) (μ7 : Mem) => post r8 μ7) (μ3 36 (ix v1)) (μ3 36 (ix v2)) μ3))))) s0 (1 : Int32) μ
def w_X8_near_b35 (post : Int32 → Mem → Prop) (v1 v2 : Int32) (μ : Mem) : Prop :=
  w_X8_near_b36 post v1 v2 (0 : Int32) μ
def w_X8_near (post : Int32 → Mem → Prop) (a1 a2 : Int32) (μ : Mem) : Prop :=
  w_X8_isFile (fun (r2 : Int32) (μ1 : Mem) => ((r2 = 0) → (post (0 : Int32) μ1)) ∧ ((¬ r2 = 0) → (((a2 < 0) → (w_X8_near_b35 post a1 a2 μ1)) ∧ ((¬ a2 < 0) → ((((μ1 31 2) ≤ a2) → (w_X8_near_b35 post a1 a2 μ1)) ∧ ((¬ (μ1 31 2) ≤ a2) → (vp_in a2 60 ∧ ((((μ1 34 (ix a2)) = (-1 : Int32)) → (w_X8_near_b35 post a1 a2 μ1)) ∧ ((¬ (μ1 34 (ix a2)) = (-1 : Int32)) → (w_X8_near_b36 post a1 a2 (1 : Int32) μ1)))))))))) a1 μ
/-! X8_nearest -/
def w_X8_nearest_b44 (post : Int32 → Mem → Prop) (k44 : Int32 → Int32 → Int32 → Int32 → Mem → Prop) (v1 v3 v4 v5 : Int32) (μ : Mem) : Prop :=
  (((μ 31 2) ≤ v5) → (post v3 μ)) ∧ ((¬ (μ 31 2) ≤ v5) → (vp_in v5 60 ∧ ((((μ 34 (ix v5)) = (-1 : Int32)) → (k44 v1 v3 v4 (v5 + (1 : Int32)) μ)) ∧ ((¬ (μ 34 (ix v5)) = (-1 : Int32)) → (vp_in v5 60 ∧ (vp_in v1 60 ∧ (((¬ (μ 36 (ix v5)) = (μ 36 (ix v1))) → (vp_in v1 60 ∧ (vp_in v5 60 ∧ (w_X8_nearOf (fun (r11 : Int32) (μ10 : Mem) => ((v4 < r11) → (k44 v1 v5 r11 (v5 + (1 : Int32)) μ10)) ∧ ((¬ v4 < r11) → (k44 v1 v3 v4 (v5 + (1 : Int32)) μ10))) (μ 36 (ix v1)) (μ 36 (ix v5)) μ)))) ∧ (((μ 36 (ix v5)) = (μ 36 (ix v1))) → (k44 v1 v3 v4 (v5 + (1 : Int32)) μ)))))))))
def w_X8_nearest_b25 (post : Int32 → Mem → Prop) (v1 v2 s0 : Int32) (μ : Mem) : Prop :=
  w_X8_right (fun (r4 : Int32) (μ3 : Mem) => ((¬ r4 = 0) → ((∃ n : Nat, itr (fun _ _ _ _ _ => False) (w_X8_nearest_b44 post) n v1 (-1 : Int32) (v2 - (1 : Int32)) (0 : Int32) μ3))) ∧ ((r4 = 0) → (post (0 : Int32) μ3))) s0 (2 : Int32) μ
def w_X8_nearest_b24 (post : Int32 → Mem → Prop) (v1 v2 : Int32) (μ : Mem) : Prop :=
  w_X8_nearest_b25 post v1 v2 (0 : Int32) μ
def w_X8_nearest (post : Int32 → Mem → Prop) (a1 a2 : Int32) (μ : Mem) : Prop :=
  w_X8_isFile (fun (r2 : Int32) (μ1 : Mem) => ((r2 = 0) → (post (0 : Int32) μ1)) ∧ ((¬ r2 = 0) → (((a2 < 0) → (w_X8_nearest_b24 post a1 a2 μ1)) ∧ ((¬ a2 < 0) → ((((1000 : Int32) < a2) → (w_X8_nearest_b24 post a1 a2 μ1)) ∧ ((¬ (1000 : Int32) < a2) → (w_X8_nearest_b25 post a1 a2 (1 : Int32) μ1))))))) a1 μ
/-! X8_reads -/
def w_X8_reads (post : Int32 → Mem → Prop) (μ : Mem) : Prop :=
  ∀ μ1 : Mem, μ1 = wr μ 31 0 (0 : Int32) → (post (μ1 31 7) μ1)
/-! X8_remove -/
def w_X8_remove (post : Int32 → Mem → Prop) (a1 : Int32) (μ : Mem) : Prop :=
  w_X8_isFile (fun (r2 : Int32) (μ1 : Mem) => ((¬ r2 = 0) → (vp_in a1 60 ∧ ((((μ1 37 (ix a1)) = 0) → (vp_in a1 60 ∧ ∀ μ4 : Mem, μ4 = wr μ1 34 (ix a1) (-1 : Int32) → (vp_in a1 60 ∧ (w_X8_leaves (fun (μ8 : Mem) => vp_in a1 60 ∧ (w_X8_names (fun (r11 : Int32) (μ10 : Mem) => post r11 μ10) (μ8 36 (ix a1)) μ8)) (μ4 36 (ix a1)) μ4)))) ∧ ((¬ (μ1 37 (ix a1)) = 0) → (post (-1 : Int32) μ1))))) ∧ ((r2 = 0) → (post (0 : Int32) μ1))) a1 μ
/-! X8_thrown -/
def w_X8_thrown (post : Int32 → Mem → Prop) (μ : Mem) : Prop :=
  post (μ 31 0) μ
/-! X8_unmerge -/
def w_X8_unmerge_b86 (post : Int32 → Mem → Prop) (k86 : Int32 → Int32 → Int32 → Int32 → Mem → Prop) (v1 v2 v3 v4 : Int32) (μ : Mem) : Prop :=
  vp_in v1 20 ∧ ((((μ 46 (ix v1)) ≤ v4) → (w_X8_leaves (fun (μ8 : Mem) => post v2 μ8) v3 μ)) ∧ ((¬ (μ 46 (ix v1)) ≤ v4) → (w_X8_isStill (fun (r10 : Int32) (μ9 : Mem) => ((¬ r10 = 0) → (vp_in v3 100 ∧ (vp_in (((60 : Int32) * v1) + v4) 1200 ∧ (vp_in v3 100 ∧ (w_X8_newBody (fun (r15 : Int32) (μ14 : Mem) => w_X8_fillsFrom (fun (μ16 : Mem) => vp_in (((60 : Int32) * v1) + v4) 1200 ∧ (vp_in (μ16 48 (ix (((60 : Int32) * v1) + v4))) 60 ∧ ∀ μ18 : Mem, μ18 = wr μ16 36 (ix (μ16 48 (ix (((60 : Int32) * v1) + v4)))) r15 → (k86 v1 v2 v3 (v4 + (1 : Int32)) μ18))) r15 v3 μ14) (μ9 38 (ix v3)) (μ9 49 (ix (((60 : Int32) * v1) + v4))) (μ9 40 (ix v3)) μ9))))) ∧ ((r10 = 0) → (k86 v1 v2 v3 (v4 + (1 : Int32)) μ9))) v1 v4 μ)))
def w_X8_unmerge_b25 (post : Int32 → Mem → Prop) (k25 : Int32 → Int32 → Int32 → Mem → Prop) (v1 v2 v3 : Int32) (μ : Mem) : Prop :=
  vp_in v1 20 ∧ ((((μ 46 (ix v1)) ≤ v3) → (((((μ 31 3) + v2) ≤ (100 : Int32)) → (∀ μ4 : Mem, μ4 = wr μ 31 23 ((μ 31 23) - (1 : Int32)) → (vp_in v1 20 ∧ ((∃ n : Nat, itr (fun _ _ _ _ _ => False) (w_X8_unmerge_b86 post) n v1 v2 (μ4 47 (ix v1)) (0 : Int32) μ4))))) ∧ ((¬ ((μ 31 3) + v2) ≤ (100 : Int32)) → (post (-1 : Int32) μ)))) ∧ ((¬ (μ 46 (ix v1)) ≤ v3) → (w_X8_isStill (fun (r25 : Int32) (μ24 : Mem) => ((r25 = 0) → (k25 v1 v2 (v3 + (1 : Int32)) μ24)) ∧ ((¬ r25 = 0) → (k25 v1 (v2 + (1 : Int32)) (v3 + (1 : Int32)) μ24))) v1 v3 μ)))
def w_X8_unmerge (post : Int32 → Mem → Prop) (μ : Mem) : Prop :=
  ∀ μ1 : Mem, μ1 = wr μ 31 0 (0 : Int32) → (((¬ (μ1 31 23) = 0) → ((∃ n : Nat, itr (fun _ _ _ _ => False) (w_X8_unmerge_b25 post) n ((μ1 31 23) - (1 : Int32)) (0 : Int32) (0 : Int32) μ1))) ∧ (((μ1 31 23) = 0) → (post (-1 : Int32) μ1)))
/-! X8_unwish -/
def w_X8_unwish (post : Int32 → Mem → Prop) (μ : Mem) : Prop :=
  ∀ μ1 : Mem, μ1 = wr μ 31 0 (0 : Int32) → (∀ μ3 : Mem, μ3 = wr μ1 31 8 (0 : Int32) → (post (μ1 31 8) μ3))
/-! X8_wish -/
def w_X8_wish_b43 (post : Int32 → Mem → Prop) (k43 : Int32 → Int32 → Int32 → Mem → Prop) (v1 v2 v3 : Int32) (μ : Mem) : Prop :=
  (((μ 31 8) ≤ v3) → (((¬ (μ 31 8) = (3 : Int32)) → (vp_in (μ 31 8) 3 ∧ ∀ μ5 : Mem, μ5 = wr μ 43 (ix (μ 31 8)) v1 → (vp_in (μ5 31 8) 3 ∧ ∀ μ8 : Mem, μ8 = wr μ5 44 (ix (μ5 31 8)) v2 → (∀ μ11 : Mem, μ11 = wr μ8 31 8 ((μ8 31 8) + (1 : Int32)) → (post (μ11 31 8) μ11))))) ∧ (((μ 31 8) = (3 : Int32)) → (post (-1 : Int32) μ)))) ∧ ((¬ (μ 31 8) ≤ v3) → (vp_in v3 3 ∧ (((¬ (μ 43 (ix v3)) = v1) → (k43 v1 v2 (v3 + (1 : Int32)) μ)) ∧ (((μ 43 (ix v3)) = v1) → (((¬ v1 = 0) → (post (-1 : Int32) μ)) ∧ ((v1 = 0) → (vp_in v3 3 ∧ (((¬ (μ 44 (ix v3)) = v2) → (k43 v1 v2 (v3 + (1 : Int32)) μ)) ∧ (((μ 44 (ix v3)) = v2) → (post (-1 : Int32) μ))))))))))
def w_X8_wish_b41 (post : Int32 → Mem → Prop) (v1 v2 : Int32) (μ : Mem) : Prop :=
  (∃ n : Nat, itr (fun _ _ _ _ => False) (w_X8_wish_b43 post) n v1 v2 (0 : Int32) μ)
def w_X8_wish_b20 (post : Int32 → Mem → Prop) (v1 v2 s0 : Int32) (μ : Mem) : Prop :=
  w_X8_right (fun (r4 : Int32) (μ3 : Mem) => ((r4 = 0) → (post (0 : Int32) μ3)) ∧ ((¬ r4 = 0) → (((¬ v1 = 0) → (w_X8_wish_b41 post v1 v2 μ3)) ∧ ((v1 = 0) → (w_X8_isFolder (fun (r21 : Int32) (μ20 : Mem) => ((¬ r21 = 0) → (w_X8_wish_b41 post v1 v2 μ20)) ∧ ((r21 = 0) → (post (0 : Int32) μ20))) v2 μ3))))) s0 (2 : Int32) μ
def w_X8_wish_b19 (post : Int32 → Mem → Prop) (v1 v2 : Int32) (μ : Mem) : Prop :=
  w_X8_wish_b20 post v1 v2 (0 : Int32) μ
def w_X8_wish (post : Int32 → Mem → Prop) (a1 a2 : Int32) (μ : Mem) : Prop :=
  ∀ μ1 : Mem, μ1 = wr μ 31 0 (0 : Int32) → (((a1 < 0) → (w_X8_wish_b19 post a1 a2 μ1)) ∧ ((¬ a1 < 0) → ((((5 : Int32) < a1) → (w_X8_wish_b19 post a1 a2 μ1)) ∧ ((¬ (5 : Int32) < a1) → (w_X8_wish_b20 post a1 a2 (1 : Int32) μ1)))))
/-! X8_write -/
def w_X8_write_b55 (post : Int32 → Mem → Prop) (k55 : Int32 → Int32 → Int32 → Int32 → Int32 → Mem → Prop) (v1 v2 v3 v4 v5 : Int32) (μ : Mem) : Prop :=
  (((4 : Int32) ≤ v5) → (w_X8_isWritten (fun (μ6 : Mem) => w_X8_others (fun (r8 : Int32) (μ7 : Mem) => post r8 μ7) v1 μ6) v4 μ)) ∧ ((¬ (4 : Int32) ≤ v5) → (vp_in ((((64 : Int32) * v4) + v2) + v5) 6400 ∧ ∀ μ9 : Mem, μ9 = wr μ 42 (ix ((((64 : Int32) * v4) + v2) + v5)) ((v3 >>> (((24 : Int32) - ((8 : Int32) * v5)) &&& 31)) &&& (255 : Int32)) → (k55 v1 v2 v3 v4 (v5 + (1 : Int32)) μ9)))
def w_X8_write_b35 (post : Int32 → Mem → Prop) (v1 v2 v3 s0 : Int32) (μ : Mem) : Prop :=
  w_X8_right (fun (r4 : Int32) (μ3 : Mem) => ((¬ r4 = 0) → (vp_in v1 60 ∧ ((∃ n : Nat, itr (fun _ _ _ _ _ _ => False) (w_X8_write_b55 post) n v1 v2 v3 (μ3 36 (ix v1)) (0 : Int32) μ3)))) ∧ ((r4 = 0) → (post (0 : Int32) μ3))) s0 (2 : Int32) μ
def w_X8_write_b34 (post : Int32 → Mem → Prop) (v1 v2 v3 : Int32) (μ : Mem) : Prop :=
  w_X8_write_b35 post v1 v2 v3 (0 : Int32) μ
def w_X8_write (post : Int32 → Mem → Prop) (a1 a2 a3 : Int32) (μ : Mem) : Prop :=
  w_X8_isFile (fun (r2 : Int32) (μ1 : Mem) => ((r2 = 0) → (post (0 : Int32) μ1)) ∧ ((¬ r2 = 0) → (((a2 < 0) → (w_X8_write_b34 post a1 a2 a3 μ1)) ∧ ((¬ a2 < 0) → (vp_in a1 60 ∧ (vp_in (μ1 36 (ix a1)) 100 ∧ (((((μ1 38 (ix (μ1 36 (ix a1)))) - (4 : Int32)) < a2) → (w_X8_write_b34 post a1 a2 a3 μ1)) ∧ ((¬ ((μ1 38 (ix (μ1 36 (ix a1)))) - (4 : Int32)) < a2) → (w_X8_write_b35 post a1 a2 a3 (1 : Int32) μ1))))))))) a1 μ
def w_L_folder (post : Int32 → Mem → Prop) (a1 a2 : Int32) (μ : Mem) : Prop :=
  w_X7_folder (fun (r1 : Int32) (μ1 : Mem) => ∀ μ2 : Mem, μ2 = wr μ1 56 (ix (0 : Int32)) r1 → post 0 μ2) (fun (E : String) (μ1 : Mem) => (E = "java/util/NoSuchElementException" ∧ post 1 μ1)) a1 a2 μ
def w_L_file (post : Int32 → Mem → Prop) (a1 a2 a3 a4 : Int32) (μ : Mem) : Prop :=
  w_X7_file (fun (r1 : Int32) (μ1 : Mem) => ∀ μ2 : Mem, μ2 = wr μ1 56 (ix (0 : Int32)) r1 → post 0 μ2) (fun (E : String) (μ1 : Mem) => (E = "java/util/NoSuchElementException" ∧ post 1 μ1)) a1 a2 a3 a4 μ
def w_L_copy (post : Int32 → Mem → Prop) (a1 a2 a3 : Int32) (μ : Mem) : Prop :=
  w_X7_copy (fun (r1 : Int32) (μ1 : Mem) => ∀ μ2 : Mem, μ2 = wr μ1 56 (ix (0 : Int32)) r1 → post 0 μ2) (fun (E : String) (μ1 : Mem) => (E = "java/util/NoSuchElementException" ∧ post 1 μ1)) a1 a2 a3 μ
def w_L_link (post : Int32 → Mem → Prop) (a1 a2 a3 : Int32) (μ : Mem) : Prop :=
  w_X7_link (fun (r1 : Int32) (μ1 : Mem) => ∀ μ2 : Mem, μ2 = wr μ1 56 (ix (0 : Int32)) r1 → post 0 μ2) (fun (E : String) (μ1 : Mem) => (E = "java/util/NoSuchElementException" ∧ post 1 μ1)) a1 a2 a3 μ
def w_L_move (post : Int32 → Mem → Prop) (a1 a2 a3 : Int32) (μ : Mem) : Prop :=
  w_X7_move (fun (r1 : Int32) (μ1 : Mem) => (r1 = 0 → ∀ μ2 : Mem, μ2 = wr μ1 56 (ix (0 : Int32)) (0 : Int32) → post 0 μ2) ∧ (¬ r1 = 0 → ∀ μ2 : Mem, μ2 = wr μ1 56 (ix (0 : Int32)) (1 : Int32) → post 0 μ2)) (fun (E : String) (μ1 : Mem) => (E = "java/util/NoSuchElementException" ∧ post 1 μ1)) a1 a2 a3 μ
def w_L_remove (post : Int32 → Mem → Prop) (a1 : Int32) (μ : Mem) : Prop :=
  w_X7_remove (fun (r1 : Int32) (μ1 : Mem) => ∀ μ2 : Mem, μ2 = wr μ1 56 (ix (0 : Int32)) r1 → post 0 μ2) (fun (E : String) (μ1 : Mem) => (E = "java/util/NoSuchElementException" ∧ post 1 μ1)) a1 μ
def w_L_hold (post : Int32 → Mem → Prop) (a1 a2 : Int32) (μ : Mem) : Prop :=
  w_X7_hold (fun (r1 : Int32) (μ1 : Mem) => (r1 = 0 → ∀ μ2 : Mem, μ2 = wr μ1 56 (ix (0 : Int32)) (0 : Int32) → post 0 μ2) ∧ (¬ r1 = 0 → ∀ μ2 : Mem, μ2 = wr μ1 56 (ix (0 : Int32)) (1 : Int32) → post 0 μ2)) (fun (E : String) (μ1 : Mem) => (E = "java/util/NoSuchElementException" ∧ post 1 μ1)) a1 a2 μ
def w_L_write (post : Int32 → Mem → Prop) (a1 a2 a3 : Int32) (μ : Mem) : Prop :=
  w_X7_write (fun (r1 : Int32) (μ1 : Mem) => ∀ μ2 : Mem, μ2 = wr μ1 56 (ix (0 : Int32)) r1 → post 0 μ2) (fun (E : String) (μ1 : Mem) => (E = "java/util/NoSuchElementException" ∧ post 1 μ1) ∨ (E = "java/lang/IllegalArgumentException" ∧ post 2 μ1)) a1 a2 a3 μ
def w_L_fill (post : Int32 → Mem → Prop) (a1 a2 a3 a4 : Int32) (μ : Mem) : Prop :=
  w_X7_fill (fun (r1 : Int32) (μ1 : Mem) => ∀ μ2 : Mem, μ2 = wr μ1 56 (ix (0 : Int32)) r1 → post 0 μ2) (fun (E : String) (μ1 : Mem) => (E = "java/util/NoSuchElementException" ∧ post 1 μ1) ∨ (E = "java/lang/IllegalArgumentException" ∧ post 2 μ1)) a1 a2 a3 a4 μ
def w_L_at (post : Int32 → Mem → Prop) (a1 a2 : Int32) (μ : Mem) : Prop :=
  w_X7_at (fun (r1 : Int32) (μ1 : Mem) => ∀ μ2 : Mem, μ2 = wr μ1 56 (ix (0 : Int32)) r1 → post 0 μ2) (fun (E : String) (μ1 : Mem) => (E = "java/util/NoSuchElementException" ∧ post 1 μ1)) a1 a2 μ
def w_L_about (post : Int32 → Mem → Prop) (a1 a2 : Int32) (μ : Mem) : Prop :=
  w_X7_about (fun (r1 : Int32) (μ1 : Mem) => ∀ μ2 : Mem, μ2 = wr μ1 56 (ix (0 : Int32)) r1 → post 0 μ2) (fun (E : String) (μ1 : Mem) => (E = "java/util/NoSuchElementException" ∧ post 1 μ1)) a1 a2 μ
def w_L_groupOf (post : Int32 → Mem → Prop) (a1 : Int32) (μ : Mem) : Prop :=
  w_X7_groupOf (fun (r1 : Int32) (μ1 : Mem) => ∀ μ2 : Mem, μ2 = wr μ1 56 (ix (0 : Int32)) r1 → post 0 μ2) (fun (E : String) (μ1 : Mem) => (E = "java/util/NoSuchElementException" ∧ post 1 μ1)) a1 μ
def w_L_member (post : Int32 → Mem → Prop) (a1 a2 : Int32) (μ : Mem) : Prop :=
  w_X7_member (fun (r1 : Int32) (μ1 : Mem) => ∀ μ2 : Mem, μ2 = wr μ1 56 (ix (0 : Int32)) r1 → post 0 μ2) (fun (E : String) (μ1 : Mem) => (E = "java/util/NoSuchElementException" ∧ post 1 μ1)) a1 a2 μ
def w_L_near (post : Int32 → Mem → Prop) (a1 a2 : Int32) (μ : Mem) : Prop :=
  w_X7_near (fun (r1 : Int32) (μ1 : Mem) => ∀ μ2 : Mem, μ2 = wr μ1 56 (ix (0 : Int32)) r1 → post 0 μ2) (fun (E : String) (μ1 : Mem) => (E = "java/util/NoSuchElementException" ∧ post 1 μ1)) a1 a2 μ
def w_L_nearest (post : Int32 → Mem → Prop) (a1 a2 : Int32) (μ : Mem) : Prop :=
  w_X7_nearest (fun (r1 : Int32) (μ1 : Mem) => ∀ μ2 : Mem, μ2 = wr μ1 56 (ix (0 : Int32)) r1 → post 0 μ2) (fun (E : String) (μ1 : Mem) => (E = "java/util/NoSuchElementException" ∧ post 1 μ1) ∨ (E = "java/lang/IllegalArgumentException" ∧ post 2 μ1)) a1 a2 μ
def w_L_differ (post : Int32 → Mem → Prop) (a1 a2 : Int32) (μ : Mem) : Prop :=
  w_X7_differ (fun (r1 : Int32) (μ1 : Mem) => ∀ μ2 : Mem, μ2 = wr μ1 56 (ix (0 : Int32)) r1 → post 0 μ2) (fun (E : String) (μ1 : Mem) => (E = "java/util/NoSuchElementException" ∧ post 1 μ1)) a1 a2 μ
def w_L_wish (post : Int32 → Mem → Prop) (a1 a2 : Int32) (μ : Mem) : Prop :=
  w_X7_wish (fun (r1 : Int32) (μ1 : Mem) => ∀ μ2 : Mem, μ2 = wr μ1 56 (ix (0 : Int32)) r1 → post 0 μ2) (fun (E : String) (μ1 : Mem) => (E = "java/util/NoSuchElementException" ∧ post 1 μ1) ∨ (E = "java/lang/IllegalArgumentException" ∧ post 2 μ1)) a1 a2 μ
def w_L_leave (post : Int32 → Mem → Prop) (a1 a2 : Int32) (μ : Mem) : Prop :=
  w_X7_leave (fun (r1 : Int32) (μ1 : Mem) => (r1 = 0 → ∀ μ2 : Mem, μ2 = wr μ1 56 (ix (0 : Int32)) (0 : Int32) → post 0 μ2) ∧ (¬ r1 = 0 → ∀ μ2 : Mem, μ2 = wr μ1 56 (ix (0 : Int32)) (1 : Int32) → post 0 μ2)) (fun (E : String) (μ1 : Mem) => (E = "java/lang/IllegalArgumentException" ∧ post 1 μ1)) a1 a2 μ
def w_L_keep (post : Int32 → Mem → Prop) (a1 : Int32) (μ : Mem) : Prop :=
  w_X7_keep (fun (r1 : Int32) (μ1 : Mem) => ∀ μ2 : Mem, μ2 = wr μ1 56 (ix (0 : Int32)) r1 → post 0 μ2) (fun (E : String) (μ1 : Mem) => (E = "java/util/NoSuchElementException" ∧ post 1 μ1)) a1 μ
def w_L_merge (post : Int32 → Mem → Prop) (a1 : Int32) (μ : Mem) : Prop :=
  w_X7_merge (fun (r1 : Int32) (μ1 : Mem) => ∀ μ2 : Mem, μ2 = wr μ1 56 (ix (0 : Int32)) r1 → post 0 μ2) (fun (E : String) (μ1 : Mem) => (E = "java/util/NoSuchElementException" ∧ post 1 μ1)) a1 μ
def w_L_days (post : Int32 → Mem → Prop) (a1 : Int32) (μ : Mem) : Prop :=
  w_X7_days (fun (r1 : Int32) (μ1 : Mem) => ∀ μ2 : Mem, μ2 = wr μ1 56 (ix (0 : Int32)) r1 → post 0 μ2) (fun (E : String) (μ1 : Mem) => (E = "java/lang/IllegalArgumentException" ∧ post 1 μ1)) a1 μ
def w_L_count (post : Int32 → Mem → Prop) (a1 : Int32) (μ : Mem) : Prop :=
  w_X7_count (fun (r1 : Int32) (μ1 : Mem) => ∀ μ2 : Mem, μ2 = wr μ1 56 (ix (0 : Int32)) r1 → post 0 μ2) (fun (E : String) (μ1 : Mem) => (E = "java/util/NoSuchElementException" ∧ post 1 μ1)) a1 μ
def w_law_c0 (xs : Nat → Int32) (L : Nat) (k23 : Mem → Prop) (v4 : Int32) (μ : Mem) : Prop :=
  vp_in (v4 + (1 : Int32)) L ∧ (vp_in (v4 + (2 : Int32)) L ∧ (w_L_folder (fun (r4 : Int32) (μ3 : Mem) => vp_in (v4 + (1 : Int32)) L ∧ (vp_in (v4 + (2 : Int32)) L ∧ (w_X8_folder (fun (r8 : Int32) (μ7 : Mem) => w_X8_thrown (fun (r10 : Int32) (μ9 : Mem) => ((r10 = r4) → (((¬ r4 = 0) → (k23 μ9)) ∧ ((r4 = 0) → ((((lg_cmp ((μ9 56 (ix (0 : Int32))).toInt64) r8.toInt64) = 0) → (k23 μ9)) ∧ ((¬ (lg_cmp ((μ9 56 (ix (0 : Int32))).toInt64) r8.toInt64) = 0) → (False)))))) ∧ ((¬ r10 = r4) → (False))) μ7) (xs (ix (v4 + (1 : Int32)))) (xs (ix (v4 + (2 : Int32)))) μ3))) (xs (ix (v4 + (1 : Int32)))) (xs (ix (v4 + (2 : Int32)))) μ))
def w_law_c1 (xs : Nat → Int32) (L : Nat) (k23 : Mem → Prop) (v4 : Int32) (μ : Mem) : Prop :=
  vp_in (v4 + (1 : Int32)) L ∧ (vp_in (v4 + (2 : Int32)) L ∧ (vp_in (v4 + (3 : Int32)) L ∧ (vp_in (v4 + (4 : Int32)) L ∧ (w_L_file (fun (r19 : Int32) (μ18 : Mem) => vp_in (v4 + (1 : Int32)) L ∧ (vp_in (v4 + (2 : Int32)) L ∧ (vp_in (v4 + (3 : Int32)) L ∧ (vp_in (v4 + (4 : Int32)) L ∧ (w_X8_file (fun (r25 : Int32) (μ24 : Mem) => w_X8_thrown (fun (r27 : Int32) (μ26 : Mem) => ((r27 = r19) → (((¬ r19 = 0) → (k23 μ26)) ∧ ((r19 = 0) → ((((lg_cmp ((μ26 56 (ix (0 : Int32))).toInt64) r25.toInt64) = 0) → (k23 μ26)) ∧ ((¬ (lg_cmp ((μ26 56 (ix (0 : Int32))).toInt64) r25.toInt64) = 0) → (False)))))) ∧ ((¬ r27 = r19) → (False))) μ24) (xs (ix (v4 + (1 : Int32)))) (xs (ix (v4 + (2 : Int32)))) (xs (ix (v4 + (3 : Int32)))) (xs (ix (v4 + (4 : Int32)))) μ18))))) (xs (ix (v4 + (1 : Int32)))) (xs (ix (v4 + (2 : Int32)))) (xs (ix (v4 + (3 : Int32)))) (xs (ix (v4 + (4 : Int32)))) μ))))
def w_law_c2 (xs : Nat → Int32) (L : Nat) (k23 : Mem → Prop) (v4 : Int32) (μ : Mem) : Prop :=
  vp_in (v4 + (1 : Int32)) L ∧ (vp_in (v4 + (2 : Int32)) L ∧ (vp_in (v4 + (3 : Int32)) L ∧ (w_L_copy (fun (r35 : Int32) (μ34 : Mem) => vp_in (v4 + (1 : Int32)) L ∧ (vp_in (v4 + (2 : Int32)) L ∧ (vp_in (v4 + (3 : Int32)) L ∧ (w_X8_copy (fun (r40 : Int32) (μ39 : Mem) => w_X8_thrown (fun (r42 : Int32) (μ41 : Mem) => ((r42 = r35) → (((¬ r35 = 0) → (k23 μ41)) ∧ ((r35 = 0) → ((((lg_cmp ((μ41 56 (ix (0 : Int32))).toInt64) r40.toInt64) = 0) → (k23 μ41)) ∧ ((¬ (lg_cmp ((μ41 56 (ix (0 : Int32))).toInt64) r40.toInt64) = 0) → (False)))))) ∧ ((¬ r42 = r35) → (False))) μ39) (xs (ix (v4 + (1 : Int32)))) (xs (ix (v4 + (2 : Int32)))) (xs (ix (v4 + (3 : Int32)))) μ34)))) (xs (ix (v4 + (1 : Int32)))) (xs (ix (v4 + (2 : Int32)))) (xs (ix (v4 + (3 : Int32)))) μ)))
def w_law_c3 (xs : Nat → Int32) (L : Nat) (k23 : Mem → Prop) (v4 : Int32) (μ : Mem) : Prop :=
  vp_in (v4 + (1 : Int32)) L ∧ (vp_in (v4 + (2 : Int32)) L ∧ (vp_in (v4 + (3 : Int32)) L ∧ (w_L_link (fun (r50 : Int32) (μ49 : Mem) => vp_in (v4 + (1 : Int32)) L ∧ (vp_in (v4 + (2 : Int32)) L ∧ (vp_in (v4 + (3 : Int32)) L ∧ (w_X8_link (fun (r55 : Int32) (μ54 : Mem) => w_X8_thrown (fun (r57 : Int32) (μ56 : Mem) => ((r57 = r50) → (((¬ r50 = 0) → (k23 μ56)) ∧ ((r50 = 0) → ((((lg_cmp ((μ56 56 (ix (0 : Int32))).toInt64) r55.toInt64) = 0) → (k23 μ56)) ∧ ((¬ (lg_cmp ((μ56 56 (ix (0 : Int32))).toInt64) r55.toInt64) = 0) → (False)))))) ∧ ((¬ r57 = r50) → (False))) μ54) (xs (ix (v4 + (1 : Int32)))) (xs (ix (v4 + (2 : Int32)))) (xs (ix (v4 + (3 : Int32)))) μ49)))) (xs (ix (v4 + (1 : Int32)))) (xs (ix (v4 + (2 : Int32)))) (xs (ix (v4 + (3 : Int32)))) μ)))
def w_law_c4 (xs : Nat → Int32) (L : Nat) (k23 : Mem → Prop) (v4 : Int32) (μ : Mem) : Prop :=
  vp_in (v4 + (1 : Int32)) L ∧ (vp_in (v4 + (2 : Int32)) L ∧ (vp_in (v4 + (3 : Int32)) L ∧ (w_L_move (fun (r65 : Int32) (μ64 : Mem) => vp_in (v4 + (1 : Int32)) L ∧ (vp_in (v4 + (2 : Int32)) L ∧ (vp_in (v4 + (3 : Int32)) L ∧ (w_X8_move (fun (r70 : Int32) (μ69 : Mem) => w_X8_thrown (fun (r72 : Int32) (μ71 : Mem) => ((r72 = r65) → (((¬ r65 = 0) → (k23 μ71)) ∧ ((r65 = 0) → (((r70 = 0) → ((((lg_cmp ((μ71 56 (ix (0 : Int32))).toInt64) (0 : Int64)) = 0) → (k23 μ71)) ∧ ((¬ (lg_cmp ((μ71 56 (ix (0 : Int32))).toInt64) (0 : Int64)) = 0) → (False)))) ∧ ((¬ r70 = 0) → ((((lg_cmp ((μ71 56 (ix (0 : Int32))).toInt64) (1 : Int64)) = 0) → (k23 μ71)) ∧ ((¬ (lg_cmp ((μ71 56 (ix (0 : Int32))).toInt64) (1 : Int64)) = 0) → (False)))))))) ∧ ((¬ r72 = r65) → (False))) μ69) (xs (ix (v4 + (1 : Int32)))) (xs (ix (v4 + (2 : Int32)))) (xs (ix (v4 + (3 : Int32)))) μ64)))) (xs (ix (v4 + (1 : Int32)))) (xs (ix (v4 + (2 : Int32)))) (xs (ix (v4 + (3 : Int32)))) μ)))
def w_law_c5 (xs : Nat → Int32) (L : Nat) (k23 : Mem → Prop) (v4 : Int32) (μ : Mem) : Prop :=
  vp_in (v4 + (1 : Int32)) L ∧ (w_L_remove (fun (r80 : Int32) (μ79 : Mem) => vp_in (v4 + (1 : Int32)) L ∧ (w_X8_remove (fun (r83 : Int32) (μ82 : Mem) => w_X8_thrown (fun (r85 : Int32) (μ84 : Mem) => ((r85 = r80) → (((¬ r80 = 0) → (k23 μ84)) ∧ ((r80 = 0) → ((((lg_cmp ((μ84 56 (ix (0 : Int32))).toInt64) r83.toInt64) = 0) → (k23 μ84)) ∧ ((¬ (lg_cmp ((μ84 56 (ix (0 : Int32))).toInt64) r83.toInt64) = 0) → (False)))))) ∧ ((¬ r85 = r80) → (False))) μ82) (xs (ix (v4 + (1 : Int32)))) μ79)) (xs (ix (v4 + (1 : Int32)))) μ)
def w_law_c6 (xs : Nat → Int32) (L : Nat) (k23 : Mem → Prop) (v4 : Int32) (μ : Mem) : Prop :=
  vp_in (v4 + (1 : Int32)) L ∧ (vp_in (v4 + (2 : Int32)) L ∧ ((((xs (ix (v4 + (2 : Int32)))) = 0) → (w_L_hold (fun (r92 : Int32) (μ91 : Mem) => vp_in (v4 + (1 : Int32)) L ∧ (vp_in (v4 + (2 : Int32)) L ∧ ((((xs (ix (v4 + (2 : Int32)))) = 0) → (w_X8_hold (fun (r96 : Int32) (μ95 : Mem) => w_X8_thrown (fun (r98 : Int32) (μ97 : Mem) => ((r98 = r92) → (((¬ r92 = 0) → (k23 μ97)) ∧ ((r92 = 0) → (((r96 = 0) → ((((lg_cmp ((μ97 56 (ix (0 : Int32))).toInt64) (0 : Int64)) = 0) → (k23 μ97)) ∧ ((¬ (lg_cmp ((μ97 56 (ix (0 : Int32))).toInt64) (0 : Int64)) = 0) → (False)))) ∧ ((¬ r96 = 0) → ((((lg_cmp ((μ97 56 (ix (0 : Int32))).toInt64) (1 : Int64)) = 0) → (k23 μ97)) ∧ ((¬ (lg_cmp ((μ97 56 (ix (0 : Int32))).toInt64) (1 : Int64)) = 0) → (False)))))))) ∧ ((¬ r98 = r92) → (False))) μ95) (xs (ix (v4 + (1 : Int32)))) (0 : Int32) μ91)) ∧ ((¬ (xs (ix (v4 + (2 : Int32)))) = 0) → (w_X8_hold (fun (r105 : Int32) (μ104 : Mem) => w_X8_thrown (fun (r107 : Int32) (μ106 : Mem) => ((r107 = r92) → (((¬ r92 = 0) → (k23 μ106)) ∧ ((r92 = 0) → (((r105 = 0) → ((((lg_cmp ((μ106 56 (ix (0 : Int32))).toInt64) (0 : Int64)) = 0) → (k23 μ106)) ∧ ((¬ (lg_cmp ((μ106 56 (ix (0 : Int32))).toInt64) (0 : Int64)) = 0) → (False)))) ∧ ((¬ r105 = 0) → ((((lg_cmp ((μ106 56 (ix (0 : Int32))).toInt64) (1 : Int64)) = 0) → (k23 μ106)) ∧ ((¬ (lg_cmp ((μ106 56 (ix (0 : Int32))).toInt64) (1 : Int64)) = 0) → (False)))))))) ∧ ((¬ r107 = r92) → (False))) μ104) (xs (ix (v4 + (1 : Int32)))) (1 : Int32) μ91))))) (xs (ix (v4 + (1 : Int32)))) (0 : Int32) μ)) ∧ ((¬ (xs (ix (v4 + (2 : Int32)))) = 0) → (w_L_hold (fun (r115 : Int32) (μ114 : Mem) => vp_in (v4 + (1 : Int32)) L ∧ (vp_in (v4 + (2 : Int32)) L ∧ ((((xs (ix (v4 + (2 : Int32)))) = 0) → (w_X8_hold (fun (r119 : Int32) (μ118 : Mem) => w_X8_thrown (fun (r121 : Int32) (μ120 : Mem) => ((r121 = r115) → (((¬ r115 = 0) → (k23 μ120)) ∧ ((r115 = 0) → (((r119 = 0) → ((((lg_cmp ((μ120 56 (ix (0 : Int32))).toInt64) (0 : Int64)) = 0) → (k23 μ120)) ∧ ((¬ (lg_cmp ((μ120 56 (ix (0 : Int32))).toInt64) (0 : Int64)) = 0) → (False)))) ∧ ((¬ r119 = 0) → ((((lg_cmp ((μ120 56 (ix (0 : Int32))).toInt64) (1 : Int64)) = 0) → (k23 μ120)) ∧ ((¬ (lg_cmp ((μ120 56 (ix (0 : Int32))).toInt64) (1 : Int64)) = 0) → (False)))))))) ∧ ((¬ r121 = r115) → (False))) μ118) (xs (ix (v4 + (1 : Int32)))) (0 : Int32) μ114)) ∧ ((¬ (xs (ix (v4 + (2 : Int32)))) = 0) → (w_X8_hold (fun (r128 : Int32) (μ127 : Mem) => w_X8_thrown (fun (r130 : Int32) (μ129 : Mem) => ((r130 = r115) → (((¬ r115 = 0) → (k23 μ129)) ∧ ((r115 = 0) → (((r128 = 0) → ((((lg_cmp ((μ129 56 (ix (0 : Int32))).toInt64) (0 : Int64)) = 0) → (k23 μ129)) ∧ ((¬ (lg_cmp ((μ129 56 (ix (0 : Int32))).toInt64) (0 : Int64)) = 0) → (False)))) ∧ ((¬ r128 = 0) → ((((lg_cmp ((μ129 56 (ix (0 : Int32))).toInt64) (1 : Int64)) = 0) → (k23 μ129)) ∧ ((¬ (lg_cmp ((μ129 56 (ix (0 : Int32))).toInt64) (1 : Int64)) = 0) → (False)))))))) ∧ ((¬ r130 = r115) → (False))) μ127) (xs (ix (v4 + (1 : Int32)))) (1 : Int32) μ114))))) (xs (ix (v4 + (1 : Int32)))) (1 : Int32) μ))))
def w_law_c7 (xs : Nat → Int32) (L : Nat) (k23 : Mem → Prop) (v4 : Int32) (μ : Mem) : Prop :=
  vp_in (v4 + (1 : Int32)) L ∧ (vp_in (v4 + (2 : Int32)) L ∧ (vp_in (v4 + (3 : Int32)) L ∧ (w_L_write (fun (r142 : Int32) (μ141 : Mem) => vp_in (v4 + (1 : Int32)) L ∧ (vp_in (v4 + (2 : Int32)) L ∧ (vp_in (v4 + (3 : Int32)) L ∧ (w_X8_write (fun (r147 : Int32) (μ146 : Mem) => w_X8_thrown (fun (r149 : Int32) (μ148 : Mem) => ((r149 = r142) → (((¬ r142 = 0) → (k23 μ148)) ∧ ((r142 = 0) → ((((lg_cmp ((μ148 56 (ix (0 : Int32))).toInt64) r147.toInt64) = 0) → (k23 μ148)) ∧ ((¬ (lg_cmp ((μ148 56 (ix (0 : Int32))).toInt64) r147.toInt64) = 0) → (False)))))) ∧ ((¬ r149 = r142) → (False))) μ146) (xs (ix (v4 + (1 : Int32)))) (xs (ix (v4 + (2 : Int32)))) (xs (ix (v4 + (3 : Int32)))) μ141)))) (xs (ix (v4 + (1 : Int32)))) (xs (ix (v4 + (2 : Int32)))) (xs (ix (v4 + (3 : Int32)))) μ)))
def w_law_c8 (xs : Nat → Int32) (L : Nat) (k23 : Mem → Prop) (v4 : Int32) (μ : Mem) : Prop :=
  vp_in (v4 + (1 : Int32)) L ∧ (vp_in (v4 + (2 : Int32)) L ∧ (vp_in (v4 + (3 : Int32)) L ∧ (vp_in (v4 + (4 : Int32)) L ∧ (w_L_fill (fun (r158 : Int32) (μ157 : Mem) => vp_in (v4 + (1 : Int32)) L ∧ (vp_in (v4 + (2 : Int32)) L ∧ (vp_in (v4 + (3 : Int32)) L ∧ (vp_in (v4 + (4 : Int32)) L ∧ (w_X8_fill (fun (r164 : Int32) (μ163 : Mem) => w_X8_thrown (fun (r166 : Int32) (μ165 : Mem) => ((r166 = r158) → (((¬ r158 = 0) → (k23 μ165)) ∧ ((r158 = 0) → ((((lg_cmp ((μ165 56 (ix (0 : Int32))).toInt64) r164.toInt64) = 0) → (k23 μ165)) ∧ ((¬ (lg_cmp ((μ165 56 (ix (0 : Int32))).toInt64) r164.toInt64) = 0) → (False)))))) ∧ ((¬ r166 = r158) → (False))) μ163) (xs (ix (v4 + (1 : Int32)))) (xs (ix (v4 + (2 : Int32)))) (xs (ix (v4 + (3 : Int32)))) (xs (ix (v4 + (4 : Int32)))) μ157))))) (xs (ix (v4 + (1 : Int32)))) (xs (ix (v4 + (2 : Int32)))) (xs (ix (v4 + (3 : Int32)))) (xs (ix (v4 + (4 : Int32)))) μ))))
def w_law_c9 (xs : Nat → Int32) (L : Nat) (k23 : Mem → Prop) (v4 : Int32) (μ : Mem) : Prop :=
  vp_in (v4 + (1 : Int32)) L ∧ (vp_in (v4 + (2 : Int32)) L ∧ (w_L_at (fun (r173 : Int32) (μ172 : Mem) => vp_in (v4 + (1 : Int32)) L ∧ (vp_in (v4 + (2 : Int32)) L ∧ (w_X8_at (fun (r177 : Int32) (μ176 : Mem) => w_X8_thrown (fun (r179 : Int32) (μ178 : Mem) => ((r179 = r173) → (((¬ r173 = 0) → (k23 μ178)) ∧ ((r173 = 0) → ((((lg_cmp ((μ178 56 (ix (0 : Int32))).toInt64) r177.toInt64) = 0) → (k23 μ178)) ∧ ((¬ (lg_cmp ((μ178 56 (ix (0 : Int32))).toInt64) r177.toInt64) = 0) → (False)))))) ∧ ((¬ r179 = r173) → (False))) μ176) (xs (ix (v4 + (1 : Int32)))) (xs (ix (v4 + (2 : Int32)))) μ172))) (xs (ix (v4 + (1 : Int32)))) (xs (ix (v4 + (2 : Int32)))) μ))
def w_law_c10 (xs : Nat → Int32) (L : Nat) (k23 : Mem → Prop) (v4 : Int32) (μ : Mem) : Prop :=
  vp_in (v4 + (1 : Int32)) L ∧ (vp_in (v4 + (2 : Int32)) L ∧ (w_L_about (fun (r186 : Int32) (μ185 : Mem) => vp_in (v4 + (1 : Int32)) L ∧ (vp_in (v4 + (2 : Int32)) L ∧ (w_X8_about (fun (r190 : Int32) (μ189 : Mem) => w_X8_thrown (fun (r192 : Int32) (μ191 : Mem) => ((r192 = r186) → (((¬ r186 = 0) → (k23 μ191)) ∧ ((r186 = 0) → ((((lg_cmp ((μ191 56 (ix (0 : Int32))).toInt64) r190.toInt64) = 0) → (k23 μ191)) ∧ ((¬ (lg_cmp ((μ191 56 (ix (0 : Int32))).toInt64) r190.toInt64) = 0) → (False)))))) ∧ ((¬ r192 = r186) → (False))) μ189) (xs (ix (v4 + (1 : Int32)))) (xs (ix (v4 + (2 : Int32)))) μ185))) (xs (ix (v4 + (1 : Int32)))) (xs (ix (v4 + (2 : Int32)))) μ))
def w_law_c11 (xs : Nat → Int32) (L : Nat) (k23 : Mem → Prop) (v4 : Int32) (μ : Mem) : Prop :=
  w_X7_find (fun (r197 : Int32) (μ196 : Mem) => w_X8_find (fun (r199 : Int32) (μ198 : Mem) => ((r197 = r199) → (k23 μ198)) ∧ ((¬ r197 = r199) → (False))) μ196) μ
def w_law_c12 (xs : Nat → Int32) (L : Nat) (k23 : Mem → Prop) (v4 : Int32) (μ : Mem) : Prop :=
  w_X7_reads (fun (r202 : Int32) (μ201 : Mem) => w_X8_reads (fun (r204 : Int32) (μ203 : Mem) => ((r202 = r204) → (k23 μ203)) ∧ ((¬ r202 = r204) → (False))) μ201) μ
def w_law_c13 (xs : Nat → Int32) (L : Nat) (k23 : Mem → Prop) (v4 : Int32) (μ : Mem) : Prop :=
  vp_in (v4 + (1 : Int32)) L ∧ (w_L_groupOf (fun (r208 : Int32) (μ207 : Mem) => vp_in (v4 + (1 : Int32)) L ∧ (w_X8_groupOf (fun (r211 : Int32) (μ210 : Mem) => w_X8_thrown (fun (r213 : Int32) (μ212 : Mem) => ((r213 = r208) → (((¬ r208 = 0) → (k23 μ212)) ∧ ((r208 = 0) → ((((lg_cmp ((μ212 56 (ix (0 : Int32))).toInt64) r211.toInt64) = 0) → (k23 μ212)) ∧ ((¬ (lg_cmp ((μ212 56 (ix (0 : Int32))).toInt64) r211.toInt64) = 0) → (False)))))) ∧ ((¬ r213 = r208) → (False))) μ210) (xs (ix (v4 + (1 : Int32)))) μ207)) (xs (ix (v4 + (1 : Int32)))) μ)
def w_law_c14 (xs : Nat → Int32) (L : Nat) (k23 : Mem → Prop) (v4 : Int32) (μ : Mem) : Prop :=
  vp_in (v4 + (1 : Int32)) L ∧ (vp_in (v4 + (2 : Int32)) L ∧ (w_L_member (fun (r220 : Int32) (μ219 : Mem) => vp_in (v4 + (1 : Int32)) L ∧ (vp_in (v4 + (2 : Int32)) L ∧ (w_X8_member (fun (r224 : Int32) (μ223 : Mem) => w_X8_thrown (fun (r226 : Int32) (μ225 : Mem) => ((r226 = r220) → (((¬ r220 = 0) → (k23 μ225)) ∧ ((r220 = 0) → ((((lg_cmp ((μ225 56 (ix (0 : Int32))).toInt64) r224.toInt64) = 0) → (k23 μ225)) ∧ ((¬ (lg_cmp ((μ225 56 (ix (0 : Int32))).toInt64) r224.toInt64) = 0) → (False)))))) ∧ ((¬ r226 = r220) → (False))) μ223) (xs (ix (v4 + (1 : Int32)))) (xs (ix (v4 + (2 : Int32)))) μ219))) (xs (ix (v4 + (1 : Int32)))) (xs (ix (v4 + (2 : Int32)))) μ))
def w_law_c15 (xs : Nat → Int32) (L : Nat) (k23 : Mem → Prop) (v4 : Int32) (μ : Mem) : Prop :=
  vp_in (v4 + (1 : Int32)) L ∧ (vp_in (v4 + (2 : Int32)) L ∧ (w_L_near (fun (r233 : Int32) (μ232 : Mem) => vp_in (v4 + (1 : Int32)) L ∧ (vp_in (v4 + (2 : Int32)) L ∧ (w_X8_near (fun (r237 : Int32) (μ236 : Mem) => w_X8_thrown (fun (r239 : Int32) (μ238 : Mem) => ((r239 = r233) → (((¬ r233 = 0) → (k23 μ238)) ∧ ((r233 = 0) → ((((lg_cmp ((μ238 56 (ix (0 : Int32))).toInt64) r237.toInt64) = 0) → (k23 μ238)) ∧ ((¬ (lg_cmp ((μ238 56 (ix (0 : Int32))).toInt64) r237.toInt64) = 0) → (False)))))) ∧ ((¬ r239 = r233) → (False))) μ236) (xs (ix (v4 + (1 : Int32)))) (xs (ix (v4 + (2 : Int32)))) μ232))) (xs (ix (v4 + (1 : Int32)))) (xs (ix (v4 + (2 : Int32)))) μ))
def w_law_c16 (xs : Nat → Int32) (L : Nat) (k23 : Mem → Prop) (v4 : Int32) (μ : Mem) : Prop :=
  vp_in (v4 + (1 : Int32)) L ∧ (vp_in (v4 + (2 : Int32)) L ∧ (w_L_nearest (fun (r246 : Int32) (μ245 : Mem) => vp_in (v4 + (1 : Int32)) L ∧ (vp_in (v4 + (2 : Int32)) L ∧ (w_X8_nearest (fun (r250 : Int32) (μ249 : Mem) => w_X8_thrown (fun (r252 : Int32) (μ251 : Mem) => ((r252 = r246) → (((¬ r246 = 0) → (k23 μ251)) ∧ ((r246 = 0) → ((((lg_cmp ((μ251 56 (ix (0 : Int32))).toInt64) r250.toInt64) = 0) → (k23 μ251)) ∧ ((¬ (lg_cmp ((μ251 56 (ix (0 : Int32))).toInt64) r250.toInt64) = 0) → (False)))))) ∧ ((¬ r252 = r246) → (False))) μ249) (xs (ix (v4 + (1 : Int32)))) (xs (ix (v4 + (2 : Int32)))) μ245))) (xs (ix (v4 + (1 : Int32)))) (xs (ix (v4 + (2 : Int32)))) μ))
def w_law_c17 (xs : Nat → Int32) (L : Nat) (k23 : Mem → Prop) (v4 : Int32) (μ : Mem) : Prop :=
  vp_in (v4 + (1 : Int32)) L ∧ (vp_in (v4 + (2 : Int32)) L ∧ (w_L_differ (fun (r259 : Int32) (μ258 : Mem) => vp_in (v4 + (1 : Int32)) L ∧ (vp_in (v4 + (2 : Int32)) L ∧ (w_X8_differ (fun (r263 : Int32) (μ262 : Mem) => w_X8_thrown (fun (r265 : Int32) (μ264 : Mem) => ((r265 = r259) → (((¬ r259 = 0) → (k23 μ264)) ∧ ((r259 = 0) → ((((lg_cmp ((μ264 56 (ix (0 : Int32))).toInt64) r263.toInt64) = 0) → (k23 μ264)) ∧ ((¬ (lg_cmp ((μ264 56 (ix (0 : Int32))).toInt64) r263.toInt64) = 0) → (False)))))) ∧ ((¬ r265 = r259) → (False))) μ262) (xs (ix (v4 + (1 : Int32)))) (xs (ix (v4 + (2 : Int32)))) μ258))) (xs (ix (v4 + (1 : Int32)))) (xs (ix (v4 + (2 : Int32)))) μ))
def w_law_c18 (xs : Nat → Int32) (L : Nat) (k23 : Mem → Prop) (v4 : Int32) (μ : Mem) : Prop :=
  vp_in (v4 + (1 : Int32)) L ∧ (vp_in (v4 + (2 : Int32)) L ∧ (w_L_wish (fun (r272 : Int32) (μ271 : Mem) => vp_in (v4 + (1 : Int32)) L ∧ (vp_in (v4 + (2 : Int32)) L ∧ (w_X8_wish (fun (r276 : Int32) (μ275 : Mem) => w_X8_thrown (fun (r278 : Int32) (μ277 : Mem) => ((r278 = r272) → (((¬ r272 = 0) → (k23 μ277)) ∧ ((r272 = 0) → ((((lg_cmp ((μ277 56 (ix (0 : Int32))).toInt64) r276.toInt64) = 0) → (k23 μ277)) ∧ ((¬ (lg_cmp ((μ277 56 (ix (0 : Int32))).toInt64) r276.toInt64) = 0) → (False)))))) ∧ ((¬ r278 = r272) → (False))) μ275) (xs (ix (v4 + (1 : Int32)))) (xs (ix (v4 + (2 : Int32)))) μ271))) (xs (ix (v4 + (1 : Int32)))) (xs (ix (v4 + (2 : Int32)))) μ))
def w_law_c19 (xs : Nat → Int32) (L : Nat) (k23 : Mem → Prop) (v4 : Int32) (μ : Mem) : Prop :=
  w_X7_unwish (fun (r283 : Int32) (μ282 : Mem) => w_X8_unwish (fun (r285 : Int32) (μ284 : Mem) => ((r283 = r285) → (k23 μ284)) ∧ ((¬ r283 = r285) → (False))) μ282) μ
def w_law_c20 (xs : Nat → Int32) (L : Nat) (k23 : Mem → Prop) (v4 : Int32) (μ : Mem) : Prop :=
  vp_in (v4 + (1 : Int32)) L ∧ (vp_in (v4 + (2 : Int32)) L ∧ (w_L_leave (fun (r290 : Int32) (μ289 : Mem) => vp_in (v4 + (1 : Int32)) L ∧ (vp_in (v4 + (2 : Int32)) L ∧ (w_X8_leave (fun (r294 : Int32) (μ293 : Mem) => w_X8_thrown (fun (r296 : Int32) (μ295 : Mem) => ((r296 = r290) → (((¬ r290 = 0) → (k23 μ295)) ∧ ((r290 = 0) → (((r294 = 0) → ((((lg_cmp ((μ295 56 (ix (0 : Int32))).toInt64) (0 : Int64)) = 0) → (k23 μ295)) ∧ ((¬ (lg_cmp ((μ295 56 (ix (0 : Int32))).toInt64) (0 : Int64)) = 0) → (False)))) ∧ ((¬ r294 = 0) → ((((lg_cmp ((μ295 56 (ix (0 : Int32))).toInt64) (1 : Int64)) = 0) → (k23 μ295)) ∧ ((¬ (lg_cmp ((μ295 56 (ix (0 : Int32))).toInt64) (1 : Int64)) = 0) → (False)))))))) ∧ ((¬ r296 = r290) → (False))) μ293) (xs (ix (v4 + (1 : Int32)))) (xs (ix (v4 + (2 : Int32)))) μ289))) (xs (ix (v4 + (1 : Int32)))) (xs (ix (v4 + (2 : Int32)))) μ))
def w_law_c21 (xs : Nat → Int32) (L : Nat) (k23 : Mem → Prop) (v4 : Int32) (μ : Mem) : Prop :=
  vp_in (v4 + (1 : Int32)) L ∧ (w_L_keep (fun (r304 : Int32) (μ303 : Mem) => vp_in (v4 + (1 : Int32)) L ∧ (w_X8_keep (fun (r307 : Int32) (μ306 : Mem) => w_X8_thrown (fun (r309 : Int32) (μ308 : Mem) => ((r309 = r304) → (((¬ r304 = 0) → (k23 μ308)) ∧ ((r304 = 0) → ((((lg_cmp ((μ308 56 (ix (0 : Int32))).toInt64) r307.toInt64) = 0) → (k23 μ308)) ∧ ((¬ (lg_cmp ((μ308 56 (ix (0 : Int32))).toInt64) r307.toInt64) = 0) → (False)))))) ∧ ((¬ r309 = r304) → (False))) μ306) (xs (ix (v4 + (1 : Int32)))) μ303)) (xs (ix (v4 + (1 : Int32)))) μ)
def w_law_c22 (xs : Nat → Int32) (L : Nat) (k23 : Mem → Prop) (v4 : Int32) (μ : Mem) : Prop :=
  vp_in (v4 + (1 : Int32)) L ∧ (w_L_merge (fun (r315 : Int32) (μ314 : Mem) => vp_in (v4 + (1 : Int32)) L ∧ (w_X8_merge (fun (r318 : Int32) (μ317 : Mem) => w_X8_thrown (fun (r320 : Int32) (μ319 : Mem) => ((r320 = r315) → (((¬ r315 = 0) → (k23 μ319)) ∧ ((r315 = 0) → ((((lg_cmp ((μ319 56 (ix (0 : Int32))).toInt64) r318.toInt64) = 0) → (k23 μ319)) ∧ ((¬ (lg_cmp ((μ319 56 (ix (0 : Int32))).toInt64) r318.toInt64) = 0) → (False)))))) ∧ ((¬ r320 = r315) → (False))) μ317) (xs (ix (v4 + (1 : Int32)))) μ314)) (xs (ix (v4 + (1 : Int32)))) μ)
def w_law_c23 (xs : Nat → Int32) (L : Nat) (k23 : Mem → Prop) (v4 : Int32) (μ : Mem) : Prop :=
  w_X7_unmerge (fun (r325 : Int32) (μ324 : Mem) => w_X8_unmerge (fun (r327 : Int32) (μ326 : Mem) => ((r325 = r327) → (k23 μ326)) ∧ ((¬ r325 = r327) → (False))) μ324) μ
def w_law_c24 (xs : Nat → Int32) (L : Nat) (k23 : Mem → Prop) (v4 : Int32) (μ : Mem) : Prop :=
  vp_in (v4 + (1 : Int32)) L ∧ (w_L_days (fun (r331 : Int32) (μ330 : Mem) => vp_in (v4 + (1 : Int32)) L ∧ (w_X8_days (fun (r334 : Int32) (μ333 : Mem) => w_X8_thrown (fun (r336 : Int32) (μ335 : Mem) => ((r336 = r331) → (((¬ r331 = 0) → (k23 μ335)) ∧ ((r331 = 0) → ((((lg_cmp ((μ335 56 (ix (0 : Int32))).toInt64) r334.toInt64) = 0) → (k23 μ335)) ∧ ((¬ (lg_cmp ((μ335 56 (ix (0 : Int32))).toInt64) r334.toInt64) = 0) → (False)))))) ∧ ((¬ r336 = r331) → (False))) μ333) (xs (ix (v4 + (1 : Int32)))) μ330)) (xs (ix (v4 + (1 : Int32)))) μ)
def w_law_c25 (xs : Nat → Int32) (L : Nat) (k23 : Mem → Prop) (v4 : Int32) (μ : Mem) : Prop :=
  vp_in (v4 + (1 : Int32)) L ∧ (w_L_count (fun (r342 : Int32) (μ341 : Mem) => vp_in (v4 + (1 : Int32)) L ∧ (w_X8_count (fun (r345 : Int32) (μ344 : Mem) => w_X8_thrown (fun (r347 : Int32) (μ346 : Mem) => ((r347 = r342) → (((¬ r342 = 0) → (k23 μ346)) ∧ ((r342 = 0) → ((((lg_cmp ((μ346 56 (ix (0 : Int32))).toInt64) r345.toInt64) = 0) → (k23 μ346)) ∧ ((¬ (lg_cmp ((μ346 56 (ix (0 : Int32))).toInt64) r345.toInt64) = 0) → (False)))))) ∧ ((¬ r347 = r342) → (False))) μ344) (xs (ix (v4 + (1 : Int32)))) μ341)) (xs (ix (v4 + (1 : Int32)))) μ)
def w_law_sw (xs : Nat → Int32) (L : Nat) (k23 : Int32 → Mem → Prop) (v4 : Int32) (μ : Mem) : Prop :=
  (((xs (ix v4) &&& (31 : Int32)) = 0) → w_law_c0 xs L (fun μ => k23 (v4 + (5 : Int32)) μ) v4 μ) ∧ ((¬ (xs (ix v4) &&& (31 : Int32)) = 0) → ((((xs (ix v4) &&& (31 : Int32)) = 1) → w_law_c1 xs L (fun μ => k23 (v4 + (5 : Int32)) μ) v4 μ) ∧ ((¬ (xs (ix v4) &&& (31 : Int32)) = 1) → ((((xs (ix v4) &&& (31 : Int32)) = 2) → w_law_c2 xs L (fun μ => k23 (v4 + (5 : Int32)) μ) v4 μ) ∧ ((¬ (xs (ix v4) &&& (31 : Int32)) = 2) → ((((xs (ix v4) &&& (31 : Int32)) = 3) → w_law_c3 xs L (fun μ => k23 (v4 + (5 : Int32)) μ) v4 μ) ∧ ((¬ (xs (ix v4) &&& (31 : Int32)) = 3) → ((((xs (ix v4) &&& (31 : Int32)) = 4) → w_law_c4 xs L (fun μ => k23 (v4 + (5 : Int32)) μ) v4 μ) ∧ ((¬ (xs (ix v4) &&& (31 : Int32)) = 4) → ((((xs (ix v4) &&& (31 : Int32)) = 5) → w_law_c5 xs L (fun μ => k23 (v4 + (5 : Int32)) μ) v4 μ) ∧ ((¬ (xs (ix v4) &&& (31 : Int32)) = 5) → ((((xs (ix v4) &&& (31 : Int32)) = 6) → w_law_c6 xs L (fun μ => k23 (v4 + (5 : Int32)) μ) v4 μ) ∧ ((¬ (xs (ix v4) &&& (31 : Int32)) = 6) → ((((xs (ix v4) &&& (31 : Int32)) = 7) → w_law_c7 xs L (fun μ => k23 (v4 + (5 : Int32)) μ) v4 μ) ∧ ((¬ (xs (ix v4) &&& (31 : Int32)) = 7) → ((((xs (ix v4) &&& (31 : Int32)) = 8) → w_law_c8 xs L (fun μ => k23 (v4 + (5 : Int32)) μ) v4 μ) ∧ ((¬ (xs (ix v4) &&& (31 : Int32)) = 8) → ((((xs (ix v4) &&& (31 : Int32)) = 9) → w_law_c9 xs L (fun μ => k23 (v4 + (5 : Int32)) μ) v4 μ) ∧ ((¬ (xs (ix v4) &&& (31 : Int32)) = 9) → ((((xs (ix v4) &&& (31 : Int32)) = 10) → w_law_c10 xs L (fun μ => k23 (v4 + (5 : Int32)) μ) v4 μ) ∧ ((¬ (xs (ix v4) &&& (31 : Int32)) = 10) → ((((xs (ix v4) &&& (31 : Int32)) = 11) → w_law_c11 xs L (fun μ => k23 (v4 + (5 : Int32)) μ) v4 μ) ∧ ((¬ (xs (ix v4) &&& (31 : Int32)) = 11) → ((((xs (ix v4) &&& (31 : Int32)) = 12) → w_law_c12 xs L (fun μ => k23 (v4 + (5 : Int32)) μ) v4 μ) ∧ ((¬ (xs (ix v4) &&& (31 : Int32)) = 12) → ((((xs (ix v4) &&& (31 : Int32)) = 13) → w_law_c13 xs L (fun μ => k23 (v4 + (5 : Int32)) μ) v4 μ) ∧ ((¬ (xs (ix v4) &&& (31 : Int32)) = 13) → ((((xs (ix v4) &&& (31 : Int32)) = 14) → w_law_c14 xs L (fun μ => k23 (v4 + (5 : Int32)) μ) v4 μ) ∧ ((¬ (xs (ix v4) &&& (31 : Int32)) = 14) → ((((xs (ix v4) &&& (31 : Int32)) = 15) → w_law_c15 xs L (fun μ => k23 (v4 + (5 : Int32)) μ) v4 μ) ∧ ((¬ (xs (ix v4) &&& (31 : Int32)) = 15) → ((((xs (ix v4) &&& (31 : Int32)) = 16) → w_law_c16 xs L (fun μ => k23 (v4 + (5 : Int32)) μ) v4 μ) ∧ ((¬ (xs (ix v4) &&& (31 : Int32)) = 16) → ((((xs (ix v4) &&& (31 : Int32)) = 17) → w_law_c17 xs L (fun μ => k23 (v4 + (5 : Int32)) μ) v4 μ) ∧ ((¬ (xs (ix v4) &&& (31 : Int32)) = 17) → ((((xs (ix v4) &&& (31 : Int32)) = 18) → w_law_c18 xs L (fun μ => k23 (v4 + (5 : Int32)) μ) v4 μ) ∧ ((¬ (xs (ix v4) &&& (31 : Int32)) = 18) → ((((xs (ix v4) &&& (31 : Int32)) = 19) → w_law_c19 xs L (fun μ => k23 (v4 + (5 : Int32)) μ) v4 μ) ∧ ((¬ (xs (ix v4) &&& (31 : Int32)) = 19) → ((((xs (ix v4) &&& (31 : Int32)) = 20) → w_law_c20 xs L (fun μ => k23 (v4 + (5 : Int32)) μ) v4 μ) ∧ ((¬ (xs (ix v4) &&& (31 : Int32)) = 20) → ((((xs (ix v4) &&& (31 : Int32)) = 21) → w_law_c21 xs L (fun μ => k23 (v4 + (5 : Int32)) μ) v4 μ) ∧ ((¬ (xs (ix v4) &&& (31 : Int32)) = 21) → ((((xs (ix v4) &&& (31 : Int32)) = 22) → w_law_c22 xs L (fun μ => k23 (v4 + (5 : Int32)) μ) v4 μ) ∧ ((¬ (xs (ix v4) &&& (31 : Int32)) = 22) → ((((xs (ix v4) &&& (31 : Int32)) = 23) → w_law_c23 xs L (fun μ => k23 (v4 + (5 : Int32)) μ) v4 μ) ∧ ((¬ (xs (ix v4) &&& (31 : Int32)) = 23) → ((((xs (ix v4) &&& (31 : Int32)) = 24) → w_law_c24 xs L (fun μ => k23 (v4 + (5 : Int32)) μ) v4 μ) ∧ ((¬ (xs (ix v4) &&& (31 : Int32)) = 24) → ((((xs (ix v4) &&& (31 : Int32)) = 25) → w_law_c25 xs L (fun μ => k23 (v4 + (5 : Int32)) μ) v4 μ) ∧ ((¬ (xs (ix v4) &&& (31 : Int32)) = 25) → (k23 (v4 + (5 : Int32)) μ))))))))))))))))))))))))))))))))))))))))))))))))))))
def w_law_b23 (xs : Nat → Int32) (L : Nat) (k23 : Int32 → Mem → Prop) (v4 : Int32) (μ : Mem) : Prop :=
  ¬ (nI L - (5 : Int32)) < v4 → (vp_in v4 L ∧ w_law_sw xs L k23 v4 μ)
