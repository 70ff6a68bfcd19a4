/-! the two objects as their constructors leave them -/
def adl : List Nat → (Nat → Nat) → Nat → Nat
  | [], r, n => r n
  | a :: _, _, 0 => a
  | _ :: l, r, n + 1 => adl l r n
def mul : List (Nat → Int32) → Nat → Nat → Int32
  | [], _ => fun _ => 0
  | a :: _, 0 => a
  | _ :: l, n + 1 => mul l n
def z0 : Nat → Int32 := fun _ => 0
def μ0 : Mem := mul [z0, upd (fun _ => 0) 3 1, z0, z0, z0, z0, z0, z0, z0, z0, z0, upd (fun _ => 0) 0 (-1), upd (fun _ => 0) 0 (-1), upd (fun _ => 0) 0 1, z0, z0, z0, z0, z0, z0, z0, z0, fl1 100 (-1) (fun _ => 0) 100, z0, z0, z0, z0, z0, z0, z0, z0, upd (fun _ => 0) 1 1, upd (fun _ => 0) 0 (-1), z0, z0, z0, z0, z0, z0, z0, z0, z0, z0, z0, z0, z0, z0, z0, z0, z0, z0, z0, z0, z0, z0, z0, z0]
def A0 (a : Nat) (v : (Nat → Nat) × (Nat → Nat → Nat)) (m : Nat) (u : Nat → Nat) (g : Nat) : Nat → Nat := adl [a, v.1 0, v.1 1, v.1 2, v.1 3, v.1 4, v.1 5, v.1 6, v.1 7, v.1 8, v.1 9, v.2 0 0, v.2 0 1, v.2 0 2, v.2 1 0, v.2 1 1, v.2 1 2, v.2 1 3, v.2 2 0, v.2 2 1, v.2 2 2, v.2 2 3, v.2 3 0, v.2 3 1, v.2 3 2, v.2 4 0, v.2 5 0, v.2 6 0, v.2 6 1, v.2 7 0, v.2 7 1, m, u 0, u 1, u 2, u 3, u 4, u 5, u 6, u 7, u 8, u 9, u 10, u 11, u 12, u 13, u 14, u 15, u 16, u 17, u 18, u 19, u 20, u 21, u 22, u 23, g] (fun j => v.2 7 (j + 2))
def pl0 : List Nat := [0, 1, 5, 10, 15, 19, 21, 23, 26, 49, 50, 2, 3, 4, 6, 7, 8, 9, 11, 12, 13, 14, 16, 17, 18, 20, 22, 24, 25, 27, 28, 51, 52, 53, 54, 55, 56, 57, 58, 59, 60, 61, 62, 63, 64, 65, 66, 67, 68, 69, 70, 71, 72, 73, 74, 75, 76, 29, 30, 31, 32, 33, 34, 35, 36, 37, 38, 39, 40, 41, 42, 43, 44, 45, 46, 47, 48]
def ws0 (c : Nat → ClassId) (a : Nat) (v : (Nat → Nat) × (Nat → Nat → Nat)) (m : Nat) (u : Nat → Nat) (g : Nat) : va_W := ((([] : va_W) ++ cs_X7 c a v) ++ cs_X8 c m u) ++ [(g, .inl (c 3, 1, .inr (.inl (fun _ => (0 : Int32).toInt64))))]
theorem pl0_nd : va_nd pl0 = true := by decide +kernel
set_option maxRecDepth 100000 in
set_option maxHeartbeats 4000000 in
theorem pl0_ws (D : va_G) (c : Nat → ClassId) (z a : Nat) (v : (Nat → Nat) × (Nat → Nat → Nat)) (m : Nat) (u : Nat → Nat) (g : Nat) : pl0.map (fun i => (ws0 c a v m u g)[i]?) = (world (D, A0 a v m u g, c, z) μ0).map some := by rfl
theorem inv0 : InvE μ0 := by
  refine ⟨1, 0, 0, 0, 0, 0, ?_, ?_, ?_, ?_, ?_, ?_, ?_, ?_, ?_, ?_⟩
  · unfold ICt
    decide
  · refine ⟨by decide, by decide, by decide, fun k h1 h2 => by omega⟩
  · exact fun f hf => absurd hf (Nat.not_lt_zero f)
  · exact fun f _ => ⟨rfl, Or.inl rfl⟩
  · exact fun b _ => ⟨⟨0, by decide, rfl⟩, rfl, ⟨0, by decide, rfl⟩, rfl, rfl⟩
  · refine ⟨fun j _ => ⟨?_, ?_⟩, fun b k _ _ _ => rfl⟩
    · show (0 : Int32) = 0 &&& 255
      decide
    · show (0 : Int32).toInt8.toInt32 = 0
      decide
  · refine ⟨fun b _ hb => ?_, fun f hf => absurd hf (Nat.not_lt_zero f)⟩
    show fl1 100 (-1) (fun _ => 0) 100 b = -1
    unfold fl1
    rw [if_pos hb]
  · exact fun i hi => absurd hi (Nat.not_lt_zero i)
  · have key : ∀ p, p < 8 → (0 : Int32) = ((0 : Int32) >>> (nI p &&& 31)) &&& 1 := by decide
    exact fun o p _ hp => key p hp
  · exact fun i hi => absurd hi (Nat.not_lt_zero i)
theorem dj_of {G : Gt} {μ : Mem} (h : va_D (A_ G) (world G μ)) : Dj G :=
  ⟨fun i j hi hj e => h.1 i j _ _ (world_get hi) (world_get hj) e, fun k hk => h.2 k _ (world_get hk)⟩
