theorem by_1 (x : Int32) : x.toInt8.toInt32.toInt8.toInt32 = x.toInt8.toInt32 := by simp
theorem by_2 (x : Int32) : x.toInt8.toInt32 &&& 255 = x &&& 255 := by
  apply Int32.toBitVec_inj.mp
  apply BitVec.eq_of_getLsbD_eq
  intro i hi
  have : (255 : Int32).toBitVec = 255#32 := rfl
  simp only [Int32.toBitVec_and, BitVec.getLsbD_and, this, Int8.toBitVec_toInt32, Int32.toBitVec_toInt8, BitVec.getLsbD_signExtend]
  have h2 : (255#32).getLsbD i = decide (i < 8) := by
    have : ∀ i, i < 32 → (255#32).getLsbD i = decide (i < 8) := by decide
    exact this i hi
  rw [h2]
  by_cases h : i < 8
  · simp [h, hi]
  · simp [h]
theorem by_3 (x : Int32) {p : Nat} (hp : p < 8) : (x >>> (nI p &&& 31)) &&& 1 = if x.toBitVec.getLsbD p then 1 else 0 := by
  have hs : (nI p &&& 31).toBitVec.smod 32 = BitVec.ofNat 32 p := by
    have : ∀ p : Fin 8, (nI p.val &&& 31).toBitVec.smod 32 = BitVec.ofNat 32 p.val := by decide +kernel
    exact this ⟨p, hp⟩
  apply Int32.toBitVec_inj.mp
  apply BitVec.eq_of_getLsbD_eq
  intro i hi
  have e1 : (1 : Int32).toBitVec = 1#32 := rfl
  have h1 : (1#32).getLsbD i = decide (i = 0) := by
    have : ∀ i, i < 32 → (1#32).getLsbD i = decide (i = 0) := by decide
    exact this i hi
  have e2 : (x >>> (nI p &&& 31)).toBitVec = x.toBitVec.sshiftRight p := by
    show x.toBitVec.sshiftRight ((nI p &&& 31).toBitVec.smod 32).toNat = _
    rw [hs]
    congr 1
    simp
    omega
  rw [Int32.toBitVec_and, BitVec.getLsbD_and, e1, h1, e2]
  by_cases h : i = 0
  · subst h
    rw [BitVec.getLsbD_sshiftRight]
    have : p < 32 := by omega
    cases hx : x.toBitVec.getLsbD p <;> simp [this, hx]
  · cases hx : x.toBitVec.getLsbD p
    · simp [h]
    · simp [h, e1, h1]
theorem by_4 (x : Int32) {p r : Nat} (hp : p < 8) (hr : r < 8) : (x ||| ((1 : Int32) <<< (nI p &&& 31))).toBitVec.getLsbD r = (x.toBitVec.getLsbD r || decide (r = p)) := by
  have hs : (nI p &&& 31).toBitVec.smod 32 = BitVec.ofNat 32 p := by
    have : ∀ p : Fin 8, (nI p.val &&& 31).toBitVec.smod 32 = BitVec.ofNat 32 p.val := by decide +kernel
    exact this ⟨p, hp⟩
  have e2 : ((1 : Int32) <<< (nI p &&& 31)).toBitVec = (1#32) <<< p := by
    show (1#32) <<< ((nI p &&& 31).toBitVec.smod 32).toNat = _
    rw [hs]
    congr 1
    simp
    omega
  rw [Int32.toBitVec_or, BitVec.getLsbD_or, e2]
  congr 1
  have : ∀ p r : Fin 8, ((1#32) <<< p.val).getLsbD r.val = decide (r.val = p.val) := by decide +kernel
  exact this ⟨p, hp⟩ ⟨r, hr⟩
