/-! the state: one memory of numbered cells, the world that it spells, the walk's judgement over it -/
abbrev Mem : Type := Nat → Nat → Int32
def wr (μ : Mem) (k j : Nat) (v : Int32) : Mem := fun k' => if k' = k then upd (μ k) j v else μ k'
def wrow (μ : Mem) (k : Nat) (r : Nat → Int32) : Mem := fun k' => if k' = k then r else μ k'
abbrev ix (x : Int32) : Nat := x.toNatClampNeg
abbrev Gt : Type := va_G × (Nat → Nat) × (Nat → ClassId) × Nat
abbrev gD (G : Gt) : va_G := G.1
abbrev ad (G : Gt) (k : Nat) : Nat := G.2.1 k
abbrev ca (G : Gt) (t : Nat) : ClassId := G.2.2.1 t
abbrev gB (G : Gt) : Nat := G.2.2.2
abbrev A_ (G : Gt) : Nat → Prop := fun q => gB G ≤ q
abbrev Sh : Type := (Nat × List (Option Nat)) ⊕ (Nat × Nat)
def shl : List Sh := [.inl (7, [some 1, some 2, some 3, some 4, some 5, some 6, some 7, some 8, some 9, some 10, none, none]), .inl (3, [some 11, some 12, some 13, none]), .inl (1, [some 14, some 15, some 16, some 17, none]), .inl (0, [some 18, some 19, some 20, some 21, none]), .inl (2, [some 22, some 23, some 24, none, none]), .inl (5, [some 25, none]), .inl (5, [some 26, none]), .inl (6, [some 27, some 28, none]), .inl (4, [some 29, some 30, none, none]), .inr (2, 64), .inr (0, 16), .inr (0, 16), .inr (0, 16), .inr (0, 16), .inr (0, 60), .inr (0, 60), .inr (0, 60), .inr (2, 60), .inr (1, 6400), .inr (0, 100), .inr (0, 100), .inr (0, 100), .inr (0, 100), .inr (0, 100), .inr (0, 100), .inr (0, 61), .inr (0, 61), .inr (0, 3), .inr (0, 3), .inr (0, 20), .inr (4, 20), .inl (8, [none, none, none, none, none, none, none, none, none, some 32, some 33, some 34, some 35, some 36, some 37, some 38, some 39, some 40, some 41, some 42, some 43, some 44, some 45, none, some 46, some 47, some 48, some 49, some 50, some 51, some 52, some 53, some 54, some 55]), .inr (0, 16), .inr (0, 16), .inr (0, 60), .inr (0, 60), .inr (0, 60), .inr (2, 60), .inr (0, 100), .inr (0, 100), .inr (0, 100), .inr (0, 100), .inr (0, 6400), .inr (0, 3), .inr (0, 3), .inr (0, 8), .inr (0, 20), .inr (0, 20), .inr (0, 1200), .inr (0, 1200), .inr (0, 100), .inr (0, 100), .inr (0, 16), .inr (0, 16), .inr (0, 60), .inr (0, 60), .inr (3, 1)]
def sh (k : Nat) : Sh := (shl[k]?).getD (.inr (0, 60))
theorem sh_row (n : Nat) : sh (n + 57) = .inr (0, 60) := by
  have h : shl[n + 57]? = none := List.getElem?_eq_none (by show 57 ≤ n + 57; omega)
  unfold sh
  rw [h]
  rfl
def fv (G : Gt) (r : Nat → Int32) (f : Option Nat) (j : Nat) : Value := match f with
  | none => .int (r j)
  | some k => .ref (ad G k)
def fl (G : Gt) (r : Nat → Int32) : Nat → List (Option Nat) → List Value
  | _, [] => []
  | j, f :: fs => fv G r f j :: fl G r (j + 1) fs
def ce (G : Gt) (r : Nat → Int32) (k : Nat) : va_E := match sh k with
  | .inl (ci, fs) => .inr (ci, fl G r 0 fs)
  | .inr (t, n) => .inl (ca G t, n, if t = 3 then .inr (.inl (fun j => (r j).toInt64)) else if t = 4 then .inr (.inr (.inr (.inr (fun j => if j < n then some (ad G (j + 57)) else none)))) else .inl r)
def world (G : Gt) (μ : Mem) : va_W := (List.range 77).map fun k => (ad G k, ce G (μ k) k)
theorem world_get {G : Gt} {μ : Mem} {k : Nat} (h : k < 77) : (world G μ)[k]? = some (ad G k, ce G (μ k) k) := by
  simp [world, h]
theorem world_set {G : Gt} {μ : Mem} {k : Nat} {r : Nat → Int32} {E : va_E} (hE : ce G r k = E) : (world G μ).set k (ad G k, E) = world G (wrow μ k r) := by
  apply List.ext_getElem?
  intro i
  by_cases hi : i < 77
  · rw [world_get hi]
    by_cases e : k = i
    · subst e
      rw [List.getElem?_set_self (by simpa [world] using hi)]
      simp [wrow, hE]
    · rw [List.getElem?_set_ne e, world_get hi]
      simp [wrow, Ne.symm e]
  · have h1 : (world G (wrow μ k r))[i]? = none := List.getElem?_eq_none (by simp [world]; omega)
    rw [h1]
    exact List.getElem?_eq_none (by simp [world]; omega)
theorem wr_row (μ : Mem) (k j : Nat) (v : Int32) : wr μ k j v = wrow μ k (upd (μ k) j v) := rfl
theorem fl_get {G : Gt} {r : Nat → Int32} {f : Option Nat} : ∀ {fs : List (Option Nat)} {i j : Nat}, fs[j]? = some f → (fl G r i fs)[j]? = some (fv G r f (i + j))
  | [], i, j, h => by simp at h
  | a :: fs, i, 0, h => by
    simp at h
    subst h
    simp [fl]
  | a :: fs, i, j + 1, h => by
    simp at h
    have := fl_get (G := G) (r := r) (i := i + 1) h
    simp only [fl, List.getElem?_cons_succ]
    rw [this]
    congr 2
    omega
theorem fl_len {G : Gt} {r : Nat → Int32} : ∀ {fs : List (Option Nat)} {i : Nat}, (fl G r i fs).length = fs.length
  | [], _ => rfl
  | _ :: fs, i => by simp [fl, fl_len (fs := fs)]
theorem fv_upd_ne {G : Gt} {r : Nat → Int32} {f : Option Nat} {j q : Nat} {v : Int32} (h : j ≠ q) : fv G (upd r q v) f j = fv G r f j := by
  cases f with
  | none => simp [fv, upd, h]
  | some k => rfl
theorem fl_upd_lt {G : Gt} {r : Nat → Int32} {v : Int32} : ∀ {fs : List (Option Nat)} {i q : Nat}, q < i → fl G (upd r q v) i fs = fl G r i fs
  | [], _, _, _ => rfl
  | f :: fs, i, q, h => by
    simp only [fl]
    rw [fv_upd_ne (by omega), fl_upd_lt (fs := fs) (by omega)]
theorem fl_set {G : Gt} {r : Nat → Int32} {v : Int32} : ∀ {fs : List (Option Nat)} {i j : Nat}, fs[j]? = some none → (fl G r i fs).set j (.int v) = fl G (upd r (i + j) v) i fs
  | [], i, j, h => by simp at h
  | a :: fs, i, 0, h => by
    simp at h
    subst h
    simp only [fl, List.set_cons_zero, Nat.add_zero]
    rw [fl_upd_lt (by omega)]
    simp [fv, upd]
  | a :: fs, i, j + 1, h => by
    simp at h
    have := fl_set (G := G) (r := r) (v := v) (i := i + 1) h
    simp only [fl, List.set_cons_succ]
    rw [this, fv_upd_ne (by omega)]
    congr 3
    omega
theorem ce_obj {G : Gt} {r : Nat → Int32} {k ci : Nat} {fs : List (Option Nat)} (h : sh k = .inl (ci, fs)) : ce G r k = .inr (ci, fl G r 0 fs) := by
  unfold ce; rw [h]
theorem ce_arr {G : Gt} {r : Nat → Int32} {k t n : Nat} (h : sh k = .inr (t, n)) (ht : t < 3) : ce G r k = .inl (ca G t, n, .inl r) := by
  unfold ce; rw [h]
  simp [show ¬ t = 3 by omega, show ¬ t = 4 by omega]
theorem ce_lng {G : Gt} {r : Nat → Int32} {k n : Nat} (h : sh k = .inr (3, n)) : ce G r k = .inl (ca G 3, n, .inr (.inl (fun j => (r j).toInt64))) := by
  unfold ce; rw [h]; rfl
theorem ce_ref {G : Gt} {r : Nat → Int32} {k n : Nat} (h : sh k = .inr (4, n)) : ce G r k = .inl (ca G 4, n, .inr (.inr (.inr (.inr (fun j => if j < n then some (ad G (j + 57)) else none))))) := by
  unfold ce; rw [h]; rfl
/-- where the cells lie: apart, and all new -/
def Dj (G : Gt) : Prop := (∀ i j, i < 77 → j < 77 → ad G i = ad G j → i = j) ∧ ∀ k, k < 77 → gB G ≤ ad G k
theorem Dj.d {G : Gt} (h : Dj G) (μ : Mem) : va_D (A_ G) (world G μ) := by
  have e : ∀ (i : Nat) (p : Nat × va_E), (world G μ)[i]? = some p → i < 77 ∧ p.1 = ad G i := fun i p hp => by
    have hi : i < 77 := by
      have := (List.getElem?_eq_some_iff.mp hp).1
      simpa [world] using this
    rw [world_get hi] at hp
    exact ⟨hi, by rw [← Option.some.inj hp]⟩
  refine ⟨fun i j p q hp hq hpq => ?_, fun k q hq => ?_⟩
  · obtain ⟨h1, e1⟩ := e i p hp
    obtain ⟨h2, e2⟩ := e j q hq
    exact h.1 i j h1 h2 (by rw [← e1, ← e2]; exact hpq)
  · obtain ⟨h1, e1⟩ := e k q hq
    show gB G ≤ q.1
    rw [e1]
    exact h.2 k h1
def tys (G : Gt) : List (ClassId × FieldType) := [(ca G 0, .int), (ca G 1, .byte), (ca G 2, .boolean), (ca G 3, .long), (ca G 4, .array .int)]
def nwF : List (String × Nat × String × String × String × String) := [("SameAgain", 221, "SameAgain$Folders", "in", "[I", "SameAgain"), ("SameAgain", 224, "SameAgain$Folders", "name", "[I", "SameAgain"), ("SameAgain", 169, "SameAgain$Folders", "above", "[I", "SameAgain"), ("SameAgain", 220, "SameAgain$Folders", "made", "I", "SameAgain"), ("SameAgain", 124, "SameAgain$Files", "folder", "[I", "SameAgain"), ("SameAgain", 127, "SameAgain$Files", "name", "[I", "SameAgain"), ("SameAgain", 112, "SameAgain$Files", "body", "[I", "SameAgain"), ("SameAgain$Mergings", 39, "SameAgain$Files", "body", "[I", "SameAgain"), ("SameAgain", 130, "SameAgain$Files", "held", "[Z", "SameAgain"), ("SameAgain$Mergings", 42, "SameAgain$Files", "made", "I", "SameAgain"), ("SameAgain", 190, "SameAgain$Files", "made", "I", "SameAgain"), ("SameAgain$Pieces", 19, "SameAgain$Bodies", "size", "[I", "SameAgain"), ("SameAgain$Findings", 47, "SameAgain$Bodies", "size", "[I", "SameAgain"), ("SameAgain", 140, "SameAgain$Bodies", "size", "[I", "SameAgain"), ("SameAgain", 115, "SameAgain$Bodies", "owner", "[I", "SameAgain"), ("SameAgain", 167, "SameAgain$Bodies", "day", "[I", "SameAgain"), ("SameAgain$Findings", 42, "SameAgain$Bodies", "made", "I", "SameAgain"), ("SameAgain", 281, "SameAgain$Bodies", "made", "I", "SameAgain"), ("SameAgain", 184, "SameAgain$Findings", "group", "[I", "SameAgain"), ("SameAgain", 178, "SameAgain$Findings", "groups", "I", "SameAgain"), ("SameAgain", 181, "SameAgain$Findings", "blocksRead", "I", "SameAgain"), ("SameAgain", 311, "SameAgain$Wishes", "what", "[I", "SameAgain"), ("SameAgain", 314, "SameAgain$Wishes", "folder", "[I", "SameAgain"), ("SameAgain", 234, "SameAgain$Wishes", "many", "I", "SameAgain"), ("SameAgain", 254, "SameAgain$Mergings", "many", "I", "SameAgain")]
def nwM : List (String × Nat × MethodName × String) := [("SameAgain", 9, ⟨"SameAgain$Folders", "<init>", "()V"⟩, "SameAgain"), ("SameAgain", 18, ⟨"SameAgain$Files", "<init>", "()V"⟩, "SameAgain"), ("SameAgain", 25, ⟨"SameAgain$Bodies", "<init>", "()V"⟩, "SameAgain"), ("SameAgain", 32, ⟨"SameAgain$Findings", "<init>", "()V"⟩, "SameAgain"), ("SameAgain", 39, ⟨"SameAgain$Pieces", "<init>", "()V"⟩, "SameAgain"), ("SameAgain", 49, ⟨"SameAgain$Wishes", "<init>", "()V"⟩, "SameAgain"), ("SameAgain", 56, ⟨"SameAgain$Mergings", "<init>", "()V"⟩, "SameAgain"), ("SameAgain", 174, ⟨"SameAgain$Findings", "search", "(LSameAgain$Files;LSameAgain$Bodies;)V"⟩, "SameAgain"), ("SameAgain$Findings", 50, ⟨"SameAgain$Files", "having", "(I)I"⟩, "SameAgain"), ("SameAgain$Findings", 79, ⟨"SameAgain$Bodies", "areAlikeWithin", "(IIII)Z"⟩, "SameAgain"), ("SameAgain", 255, ⟨"SameAgain$Mergings", "stillMerged", "(LSameAgain$Files;)I"⟩, "SameAgain"), ("SameAgain", 102, ⟨"SameAgain$Bodies", "hasRoomFor", "(I)Z"⟩, "SameAgain"), ("SameAgain", 259, ⟨"SameAgain$Mergings", "isStillMerged", "(LSameAgain$Files;I)Z"⟩, "SameAgain"), ("SameAgain", 263, ⟨"SameAgain$Mergings", "formerOwner", "(I)I"⟩, "SameAgain"), ("SameAgain", 118, ⟨"SameAgain$Bodies", "makeLike", "(III)I"⟩, "SameAgain"), ("SameAgain", 266, ⟨"SameAgain$Mergings", "dropLatest", "()V"⟩, "SameAgain"), ("SameAgain", 284, ⟨"SameAgain$Folders", "has", "(I)Z"⟩, "SameAgain"), ("SameAgain", 84, ⟨"SameAgain$Folders", "hasRoom", "()Z"⟩, "SameAgain"), ("SameAgain", 88, ⟨"SameAgain$Folders", "named", "(II)I"⟩, "SameAgain"), ("SameAgain", 92, ⟨"SameAgain$Folders", "make", "(II)I"⟩, "SameAgain"), ("SameAgain", 292, ⟨"SameAgain$Files", "hasRoom", "()Z"⟩, "SameAgain"), ("SameAgain", 291, ⟨"SameAgain$Files", "named", "(II)I"⟩, "SameAgain"), ("SameAgain", 105, ⟨"SameAgain$Bodies", "make", "(III)I"⟩, "SameAgain"), ("SameAgain", 108, ⟨"SameAgain$Files", "make", "(III)I"⟩, "SameAgain"), ("SameAgain", 208, ⟨"SameAgain$Files", "has", "(I)Z"⟩, "SameAgain"), ("SameAgain", 133, ⟨"SameAgain$Files", "drop", "(I)V"⟩, "SameAgain"), ("SameAgain", 136, ⟨"SameAgain$Files", "having", "(I)I"⟩, "SameAgain"), ("SameAgain", 150, ⟨"SameAgain$Bodies", "put", "(III)V"⟩, "SameAgain"), ("SameAgain", 164, ⟨"SameAgain$Bodies", "byteOf", "(II)I"⟩, "SameAgain"), ("SameAgain", 198, ⟨"SameAgain$Pieces", "gather", "(LSameAgain$Bodies;I)V"⟩, "SameAgain"), ("SameAgain$Pieces", 24, ⟨"SameAgain$Bodies", "pieceAt", "(II)I"⟩, "SameAgain"), ("SameAgain", 202, ⟨"SameAgain$Pieces", "nearnessTo", "(LSameAgain$Pieces;)I"⟩, "SameAgain"), ("SameAgain", 299, ⟨"SameAgain$Files", "isIn", "(II)Z"⟩, "SameAgain"), ("SameAgain", 302, ⟨"SameAgain$Bodies", "areAlike", "(II)Z"⟩, "SameAgain"), ("SameAgain", 227, ⟨"SameAgain$Wishes", "hasRoom", "()Z"⟩, "SameAgain"), ("SameAgain", 228, ⟨"SameAgain$Wishes", "has", "(II)Z"⟩, "SameAgain"), ("SameAgain", 230, ⟨"SameAgain$Wishes", "add", "(II)V"⟩, "SameAgain"), ("SameAgain", 315, ⟨"SameAgain$Folders", "isInOrBelow", "(II)Z"⟩, "SameAgain"), ("SameAgain", 245, ⟨"SameAgain$Mergings", "begin", "(I)V"⟩, "SameAgain"), ("SameAgain", 248, ⟨"SameAgain$Mergings", "note", "(II)V"⟩, "SameAgain"), ("SameAgain", 271, ⟨"SameAgain$Files", "there", "()I"⟩, "SameAgain")]
def strs : List (String × Nat × String) := [("SameAgain", 285, "no such folder"), ("SameAgain", 287, "no such file"), ("SameAgain", 145, "the four places are not all within the size"), ("SameAgain", 157, "not 0 <= from <= to <= size"), ("SameAgain", 161, "no such place"), ("SameAgain", 172, "nothing such is told of a file"), ("SameAgain", 289, "no such group was found"), ("SameAgain", 196, "no such file of the group"), ("SameAgain", 206, "least is not 0 to 1000"), ("SameAgain", 225, "no such wish"), ("SameAgain", 237, "no such owners"), ("SameAgain", 269, "n is not 0 to 1000"), ("SameAgain", 282, "nothing such is counted")]
def nwD : List MethodName := [⟨"java/lang/RuntimeException", "<init>", "()V"⟩, ⟨"java/lang/RuntimeException", "<init>", "(Ljava/lang/String;)V"⟩, ⟨"java/lang/Exception", "<init>", "()V"⟩, ⟨"java/lang/Exception", "<init>", "(Ljava/lang/String;)V"⟩, ⟨"java/lang/Throwable", "<init>", "()V"⟩, ⟨"java/lang/Throwable", "<init>", "(Ljava/lang/String;)V"⟩]
def nwC : List (String × String) := [("java/util/NoSuchElementException", "java/util/NoSuchElementException"), ("java/lang/IllegalArgumentException", "java/lang/IllegalArgumentException"), ("SameAgain", "java/lang/Object"), ("SameAgain$Folders", "java/lang/Object"), ("SameAgain$Files", "java/lang/Object"), ("SameAgain$Bodies", "java/lang/Object"), ("SameAgain$Findings", "java/lang/Object"), ("SameAgain$Pieces", "java/lang/Object"), ("SameAgain$Wishes", "java/lang/Object"), ("SameAgain$Mergings", "java/lang/Object"), ("SameAgainModel", "java/lang/Object"), ("java/util/NoSuchElementException", "java/lang/Object"), ("java/lang/IllegalArgumentException", "java/lang/Object"), ("java/lang/Throwable", "java/lang/Object"), ("java/lang/String", "java/lang/Object")]
/-- what the tables say, at a state -/
def Ks (G : Gt) (U : State) : Prop := va_K (gD G) vwCl (tys G) U ∧ (∀ q ∈ nwF, va_Nw (.fieldLinkNest q.1 q.2.1 q.2.2.1 q.2.2.2.1 q.2.2.2.2.1 q.2.2.2.2.2) U) ∧ (∀ q ∈ nwM, va_Nw (.methodLinkNest q.1 q.2.1 q.2.2.1 q.2.2.2) U) ∧ (∀ q ∈ strs, ∃ a, vk_R q.1 q.2.1 q.2.2 a U) ∧ (∀ q ∈ nwD, va_Nw (.declares q) U) ∧ (∀ q ∈ nwC, va_Nw (.castable q.1 q.2) U) ∧ va_Nc "java/lang/IllegalArgumentException" "java/util/NoSuchElementException" U
theorem Ks.warm {G : Gt} {s U : State} (hW : s.WarmedH U.vm) (h : Ks G s) : Ks G U :=
  ⟨va_K.moved hW.alike h.1, fun q hq => va_Nw.warmF hW (h.2.1 q hq), fun q hq => va_Nw.warmM hW (h.2.2.1 q hq), fun q hq => by obtain ⟨a, ha⟩ := h.2.2.2.1 q hq; exact ⟨a, vk_R.warm hW ha⟩, fun q hq => va_Nw.warmD hW (h.2.2.2.2.1 q hq), fun q hq => va_Nw.warmC hW (h.2.2.2.2.2.1 q hq), va_Nc.moved hW.alike h.2.2.2.2.2.2⟩
theorem Ks.same {G : Gt} {s U : State} (hv : U.vm = s.vm) (h : Ks G s) : Ks G U :=
  ⟨va_K.moved (by rw [hv]; exact Vm.Alike.refl s.vm) h.1, fun q hq => va_Nw.same rfl hv.symm (h.2.1 q hq), fun q hq => va_Nw.same rfl hv.symm (h.2.2.1 q hq), fun q hq => by obtain ⟨a, ha⟩ := h.2.2.2.1 q hq; exact ⟨a, vk_R.same hv ha⟩, fun q hq => va_Nw.same rfl hv.symm (h.2.2.2.2.1 q hq), fun q hq => va_Nw.same rfl hv.symm (h.2.2.2.2.2.1 q hq), va_Nc.moved (by rw [hv]; exact Vm.Alike.refl s.vm) h.2.2.2.2.2.2⟩
/-- what the throws need of the heap's old part -/
def Zs (G : Gt) (U : State) (H : Heap) : Prop := gB G ≤ H.size ∧ vx_Zq Jvm.Bundle.tN "UNASSIGNED_STACK" Jvm.Bundle.steD (A_ G) U H ∧ vx_Zq Jvm.Bundle.tN "SUPPRESSED_SENTINEL" Jvm.Bundle.listD (A_ G) U H
theorem Zs.moved {G : Gt} {s U : State} {H : Heap} (hv : s.vm.Alike U.vm) (h : Zs G s H) : Zs G U H := ⟨h.1, vx_Zq.moved hv h.2.1, vx_Zq.moved hv h.2.2⟩
theorem Zs.kept {G : Gt} {s : State} {H H1 : Heap} {locs : List Loc} (h : Zs G s H) (hS : va_S (A_ G) H H1 locs) : Zs G s H1 :=
  ⟨Nat.le_trans h.1 hS.1, vx_Zq.kept h.2.1 (fun a h1 h2 => hS.2.1 a h1 h2), vx_Zq.kept h.2.2 (fun a h1 h2 => hS.2.1 a h1 h2)⟩
/-- what a method's start is told -/
def Pre (G : Gt) (μ : Mem) (Φ : Prop) (U : State) : Prop := Φ ∧ va_P (gD G) vwCl (world G μ) U.heap ∧ Ks G U ∧ Zs G U U.heap
def Post (G : Gt) (μ : Mem) (t : State) : Prop := va_P (gD G) vwCl (world G μ) t.heap
theorem pre_blind {G : Gt} {μ : Mem} {Φ : Prop} {av : List Value} : FrameBlind (va_Pc av (Pre G μ Φ)) := by
  intro a U g mk h
  obtain ⟨e, h1, h2, h3, h4⟩ := h
  exact ⟨e, h1, h2, Ks.same (s := U) rfl h3, Zs.moved (s := U) (Vm.Alike.refl U.vm) h4⟩
abbrev XP : Type := String → Mem → Prop
def QX (G : Gt) (xq : XP) : String → State → State → Prop := vx_X (fun _ : Mem => True) (fun E μ t => xq E μ ∧ Post G μ t) (A_ G)
abbrev MI (G : Gt) (l : Launch) (y : MethodName) (ws : List Cond) (rm : Room) (mc ms : Nat) (av : List Value) (μ : Mem) (Φ : Prop) (post : Int32 → Mem → Prop) : Prop := Met l y ws rm (va_Pc av (Pre G μ Φ)) (va_Qi post (Post G) (A_ G)) mc ms (A_ G)
abbrev MV (G : Gt) (l : Launch) (y : MethodName) (ws : List Cond) (rm : Room) (mc ms : Nat) (av : List Value) (μ : Mem) (Φ : Prop) (post : Mem → Prop) : Prop := Met l y ws rm (va_Pc av (Pre G μ Φ)) (va_Qv post (Post G) (A_ G)) mc ms (A_ G)
abbrev XI (G : Gt) (l : Launch) (y : MethodName) (ws : List Cond) (rm : Room) (mc ms : Nat) (av : List Value) (μ : Mem) (Φ : Prop) (post : Int32 → Mem → Prop) (xq : XP) : Prop := vx_Met l y ws rm (va_Pc av (Pre G μ Φ)) (va_Qi post (Post G) (A_ G)) (QX G xq) mc ms (A_ G)
abbrev XV (G : Gt) (l : Launch) (y : MethodName) (ws : List Cond) (rm : Room) (mc ms : Nat) (av : List Value) (μ : Mem) (Φ : Prop) (post : Mem → Prop) (xq : XP) : Prop := vx_Met l y ws rm (va_Pc av (Pre G μ Φ)) (va_Qv post (Post G) (A_ G)) (QX G xq) mc ms (A_ G)
abbrev Cxt : Type := Program × Launch × Env × Room × State × MethodId × Array Value × List Frame × Method × Code
abbrev xp (X : Cxt) : Program := X.1
abbrev xl (X : Cxt) : Launch := X.2.1
abbrev xe (X : Cxt) : Env := X.2.2.1
abbrev xR (X : Cxt) : Room := X.2.2.2.1
abbrev xs (X : Cxt) : State := X.2.2.2.2.1
abbrev xm (X : Cxt) : MethodId := X.2.2.2.2.2.1
abbrev xa (X : Cxt) : Array Value := X.2.2.2.2.2.2.1
abbrev xb (X : Cxt) : List Frame := X.2.2.2.2.2.2.2.1
abbrev xt (X : Cxt) : Method := X.2.2.2.2.2.2.2.2.1
abbrev xc (X : Cxt) : Code := X.2.2.2.2.2.2.2.2.2
def J (G : Gt) (X : Cxt) (Q : State → Prop) (nL n1 n2 pc : Nat) (lv : List (Nat × Value)) (st : List Value) (μ : Mem) : Prop :=
  ∀ (H : Heap) (locs : List Loc) (ls : Array Slot), lv_has ls nL lv → va_P (gD G) vwCl (world G μ) H → va_S (A_ G) (xs X).heap H locs → W (xp X) (xl X) (xe X) (xR X) (xs X) (xm X) (xa X) (xb X) (xt X) (xc X) H locs n1 n2 Q (F0 (xm X) pc ls st)
/-- what a method's walk knows all along -/
def Cx (G : Gt) (X : Cxt) (cc : ByteArray) (own : String) (Ts : List Cond) (nL : Nat) (rm : Room) : Prop :=
  CallFix (xp X) (xm X) (xc X) cc nL (xs X) (xa X) Ts own ∧ Ks G (xs X) ∧ Dj G ∧ Zs G (xs X) (xs X).heap ∧ (xt X).locks = false ∧ xR X = rm
section JR
variable {G : Gt} {X : Cxt} {Q : State → Prop} {cc : ByteArray} {own : String} {Ts : List Cond} {rm : Room} {nL n1 n2 pc : Nat} {lv : List (Nat × Value)} {st : List Value} {μ : Mem}
theorem j_iconst (C : Cx G X cc own Ts nL rm) {n : Int} {v : Int32} (hd : decode cc pc = .ok (.iconst n, 1)) (hv : Int32.ofInt n = v) (k : J G X Q nL n1 n2 (pc + 1) lv (.int v :: st) μ) : J G X Q nL n1 n2 pc lv st μ :=
  fun H locs ls h1 h2 h3 => lv_iconst C.1.1 C.1.2.1 hd hv (k H locs ls h1 h2 h3)
theorem j_bipush (C : Cx G X cc own Ts nL rm) {n : Int} {v : Int32} (hd : decode cc pc = .ok (.bipush n, 2)) (hv : (Int8.ofInt n).toInt32 = v) (k : J G X Q nL n1 n2 (pc + 2) lv (.int v :: st) μ) : J G X Q nL n1 n2 pc lv st μ :=
  fun H locs ls h1 h2 h3 => lv_bipush C.1.1 C.1.2.1 hd hv (k H locs ls h1 h2 h3)
theorem j_sipush (C : Cx G X cc own Ts nL rm) {n : Int} {v : Int32} (hd : decode cc pc = .ok (.sipush n, 3)) (hv : (Int16.ofInt n).toInt32 = v) (k : J G X Q nL n1 n2 (pc + 3) lv (.int v :: st) μ) : J G X Q nL n1 n2 pc lv st μ :=
  fun H locs ls h1 h2 h3 => lv_sipush C.1.1 C.1.2.1 hd hv (k H locs ls h1 h2 h3)
theorem j_lconst (C : Cx G X cc own Ts nL rm) {n : Fin 2} {v : Int64} (hd : decode cc pc = .ok (.lconst n, 1)) (hv : Int64.ofNat (n : Nat) = v) (k : J G X Q nL n1 n2 (pc + 1) lv (.long v :: st) μ) : J G X Q nL n1 n2 pc lv st μ :=
  fun H locs ls h1 h2 h3 => lv_lconst C.1.1 C.1.2.1 hd hv (k H locs ls h1 h2 h3)
theorem j_iload_n (C : Cx G X cc own Ts nL rm) {i : Fin 4} {x : Int32} (q : Nat) (hd : decode cc pc = .ok (.iload_n i, 1)) (hq : lv[q]? = some ((i : Nat), .int x)) (k : J G X Q nL n1 n2 (pc + 1) lv (.int x :: st) μ) : J G X Q nL n1 n2 pc lv st μ :=
  fun H locs ls h1 h2 h3 => lv_iload_n C.1.1 C.1.2.1 hd rfl (lv_at h1 q hq) (k H locs ls h1 h2 h3)
theorem j_iload (C : Cx G X cc own Ts nL rm) {i : Nat} {x : Int32} (q : Nat) (hd : decode cc pc = .ok (.iload i, 2)) (hq : lv[q]? = some (i, .int x)) (k : J G X Q nL n1 n2 (pc + 2) lv (.int x :: st) μ) : J G X Q nL n1 n2 pc lv st μ :=
  fun H locs ls h1 h2 h3 => lv_iload C.1.1 C.1.2.1 hd (lv_at h1 q hq) (k H locs ls h1 h2 h3)
theorem j_aload_n (C : Cx G X cc own Ts nL rm) {i : Fin 4} {x : Nat} (q : Nat) (hd : decode cc pc = .ok (.aload_n i, 1)) (hq : lv[q]? = some ((i : Nat), .ref x)) (k : J G X Q nL n1 n2 (pc + 1) lv (.ref x :: st) μ) : J G X Q nL n1 n2 pc lv st μ :=
  fun H locs ls h1 h2 h3 => lv_aload_n C.1.1 C.1.2.1 hd rfl (lv_at h1 q hq) (k H locs ls h1 h2 h3)
theorem j_aload (C : Cx G X cc own Ts nL rm) {i : Nat} {x : Nat} (q : Nat) (hd : decode cc pc = .ok (.aload i, 2)) (hq : lv[q]? = some (i, .ref x)) (k : J G X Q nL n1 n2 (pc + 2) lv (.ref x :: st) μ) : J G X Q nL n1 n2 pc lv st μ :=
  fun H locs ls h1 h2 h3 => lv_aload C.1.1 C.1.2.1 hd (lv_at h1 q hq) (k H locs ls h1 h2 h3)
/-- one store among the locals, kept in the order of their places -/
def lst (i : Nat) (v : Value) : List (Nat × Value) → List (Nat × Value)
  | [] => [(i, v)]
  | q :: l => if q.1 = i then (i, v) :: l else if i < q.1 then (i, v) :: q :: l else q :: lst i v l
theorem lst_mem {i : Nat} {v : Value} : ∀ {l : List (Nat × Value)} {q : Nat × Value}, q ∈ lst i v l → q = (i, v) ∨ q ∈ l
  | [], q, h => Or.inl (by simpa [lst] using h)
  | a :: l, q, h => by
    unfold lst at h
    split at h
    · rcases List.mem_cons.mp h with h | h
      · exact Or.inl h
      · exact Or.inr (List.mem_cons_of_mem _ h)
    · split at h
      · rcases List.mem_cons.mp h with h | h
        · exact Or.inl h
        · exact Or.inr h
      · rcases List.mem_cons.mp h with h | h
        · exact Or.inr (by rw [h]; exact List.mem_cons_self)
        · rcases lst_mem h with h | h
          · exact Or.inl h
          · exact Or.inr (List.mem_cons_of_mem _ h)
def lsO (i : Nat) (l : List (Nat × Value)) : Bool := l.all (fun q => q.1 ≠ i ∨ q.1 = i) && l.all (fun q => q.2.category == 1)
/-- places rise along the list, and all hold one word -/
def lsW : List (Nat × Value) → Bool
  | [] => true
  | [q] => q.2.category == 1
  | a :: b :: l => a.2.category == 1 && decide (a.1 < b.1) && lsW (b :: l)
theorem lsW_tail {a : Nat × Value} {l : List (Nat × Value)} (h : lsW (a :: l) = true) : lsW l = true := by
  cases l with
  | nil => rfl
  | cons b l => simp [lsW] at h; exact h.2
theorem lsW_lt : ∀ {l : List (Nat × Value)} {a q : Nat × Value}, lsW (a :: l) = true → q ∈ l → a.1 < q.1
  | [], _, _, _, h => by cases h
  | b :: l, a, q, h, hq => by
    have h2 := lsW_tail h
    simp [lsW] at h
    rcases List.mem_cons.mp hq with e | e
    · rw [e]; exact h.1.2
    · exact Nat.lt_trans h.1.2 (lsW_lt h2 e)
theorem lsW_cat : ∀ {l : List (Nat × Value)} {q : Nat × Value}, lsW l = true → q ∈ l → q.2.category = 1
  | [], _, _, h => by cases h
  | [a], q, h, hq => by
    rw [List.mem_singleton.mp hq]
    simpa [lsW] using h
  | a :: b :: l, q, h, hq => by
    have h2 := lsW_tail h
    simp [lsW] at h
    rcases List.mem_cons.mp hq with e | e
    · rw [e]; exact h.1.1
    · exact lsW_cat h2 e
theorem lst_in {i : Nat} {v : Value} : ∀ {l : List (Nat × Value)} {q : Nat × Value}, lsW l = true → q ∈ lst i v l → q = (i, v) ∨ (q ∈ l ∧ q.1 ≠ i)
  | [], q, _, h => Or.inl (by simpa [lst] using h)
  | a :: l, q, hl, h => by
    unfold lst at h
    split at h
    · rename_i e
      rcases List.mem_cons.mp h with h | h
      · exact Or.inl h
      · have := lsW_lt hl h
        exact Or.inr ⟨List.mem_cons_of_mem _ h, by omega⟩
    · rename_i e
      split at h
      · rename_i e2
        rcases List.mem_cons.mp h with h | h
        · exact Or.inl h
        · refine Or.inr ⟨h, ?_⟩
          rcases List.mem_cons.mp h with h | h
          · rw [h]; exact e
          · have := lsW_lt hl h
            omega
      · rcases List.mem_cons.mp h with h | h
        · exact Or.inr ⟨by rw [h]; exact List.mem_cons_self, by rw [h]; exact e⟩
        · rcases lst_in (lsW_tail hl) h with h | ⟨h, h2⟩
          · exact Or.inl h
          · exact Or.inr ⟨List.mem_cons_of_mem _ h, h2⟩
theorem lst_has {ls : Array Slot} {i : Nat} {v : Value} {lv' : List (Nat × Value)} (hw : lsW lv = true) (hl : lst i v lv = lv') (h : lv_has ls nL ((i, v) :: lv.filter (fun q => !(q.1 == i) && !(q.1 + 1 == i && q.2.category == 2)))) : lv_has ls nL lv' := by
  refine ⟨h.1, h.2.1, fun q hq => h.2.2 q ?_⟩
  rw [← hl] at hq
  rcases lst_in hw hq with e | ⟨e, ne⟩
  · rw [e]; exact List.mem_cons_self
  · refine List.mem_cons_of_mem _ (List.mem_filter.mpr ⟨e, ?_⟩)
    simp [ne, lsW_cat hw e]
theorem j_istore_n (C : Cx G X cc own Ts nL rm) {i : Fin 4} {x : Int32} {lv' : List (Nat × Value)} (hd : decode cc pc = .ok (.istore_n i, 1)) (hn : (i : Nat) < nL) (hw : lsW lv = true) (hl : lst i (.int x) lv = lv') (k : J G X Q nL n1 n2 (pc + 1) lv' st μ) : J G X Q nL n1 n2 pc lv (.int x :: st) μ :=
  fun H locs ls h1 h2 h3 => lv_istore_n C.1.1 C.1.2.1 hd rfl h1 hn rfl (fun ls' h' => k H locs ls' (lst_has hw hl h') h2 h3)
theorem j_istore (C : Cx G X cc own Ts nL rm) {i : Nat} {x : Int32} {lv' : List (Nat × Value)} (hd : decode cc pc = .ok (.istore i, 2)) (hn : i < nL) (hw : lsW lv = true) (hl : lst i (.int x) lv = lv') (k : J G X Q nL n1 n2 (pc + 2) lv' st μ) : J G X Q nL n1 n2 pc lv (.int x :: st) μ :=
  fun H locs ls h1 h2 h3 => lv_istore C.1.1 C.1.2.1 hd h1 hn rfl (fun ls' h' => k H locs ls' (lst_has hw hl h') h2 h3)
theorem j_astore_n (C : Cx G X cc own Ts nL rm) {i : Fin 4} {x : Nat} {lv' : List (Nat × Value)} (hd : decode cc pc = .ok (.astore_n i, 1)) (hn : (i : Nat) < nL) (hw : lsW lv = true) (hl : lst i (.ref x) lv = lv') (k : J G X Q nL n1 n2 (pc + 1) lv' st μ) : J G X Q nL n1 n2 pc lv (.ref x :: st) μ :=
  fun H locs ls h1 h2 h3 => lv_astore_n C.1.1 C.1.2.1 hd rfl h1 hn rfl (fun ls' h' => k H locs ls' (lst_has hw hl h') h2 h3)
theorem j_astore (C : Cx G X cc own Ts nL rm) {i : Nat} {x : Nat} {lv' : List (Nat × Value)} (hd : decode cc pc = .ok (.astore i, 2)) (hn : i < nL) (hw : lsW lv = true) (hl : lst i (.ref x) lv = lv') (k : J G X Q nL n1 n2 (pc + 2) lv' st μ) : J G X Q nL n1 n2 pc lv (.ref x :: st) μ :=
  fun H locs ls h1 h2 h3 => lv_astore C.1.1 C.1.2.1 hd h1 hn rfl (fun ls' h' => k H locs ls' (lst_has hw hl h') h2 h3)
theorem j_iinc (C : Cx G X cc own Ts nL rm) {i : Nat} {n : Int} {x v : Int32} {lv' : List (Nat × Value)} (q : Nat) (hd : decode cc pc = .ok (.iinc i n, 3)) (hq : lv[q]? = some (i, .int x)) (hv : x + Int32.ofInt n = v) (hn : i < nL) (hw : lsW lv = true) (hl : lst i (.int v) lv = lv') (k : J G X Q nL n1 n2 (pc + 3) lv' st μ) : J G X Q nL n1 n2 pc lv st μ :=
  fun H locs ls h1 h2 h3 => lv_iinc C.1.1 C.1.2.1 hd h1 hq hv hn rfl (fun ls' h' => k H locs ls' (lst_has hw hl h') h2 h3)
theorem j_forget {lv' : List (Nat × Value)} (ks : List Nat) (hl : lv_pick lv ks = lv') (k : J G X Q nL n1 n2 pc lv' st μ) : J G X Q nL n1 n2 pc lv st μ :=
  fun H locs ls h1 h2 h3 => k H locs ls (lv_sub h1 ks hl) h2 h3
theorem j_iadd (C : Cx G X cc own Ts nL rm) {x y : Int32} (hd : decode cc pc = .ok (.iadd, 1)) (k : J G X Q nL n1 n2 (pc + 1) lv (.int (x + y) :: st) μ) : J G X Q nL n1 n2 pc lv (.int y :: .int x :: st) μ :=
  fun H locs ls h1 h2 h3 => lv_iadd C.1.1 C.1.2.1 hd (k H locs ls h1 h2 h3)
theorem j_isub (C : Cx G X cc own Ts nL rm) {x y : Int32} (hd : decode cc pc = .ok (.isub, 1)) (k : J G X Q nL n1 n2 (pc + 1) lv (.int (x - y) :: st) μ) : J G X Q nL n1 n2 pc lv (.int y :: .int x :: st) μ :=
  fun H locs ls h1 h2 h3 => lv_isub C.1.1 C.1.2.1 hd (k H locs ls h1 h2 h3)
theorem j_imul (C : Cx G X cc own Ts nL rm) {x y : Int32} (hd : decode cc pc = .ok (.imul, 1)) (k : J G X Q nL n1 n2 (pc + 1) lv (.int (x * y) :: st) μ) : J G X Q nL n1 n2 pc lv (.int y :: .int x :: st) μ :=
  fun H locs ls h1 h2 h3 => lv_imul C.1.1 C.1.2.1 hd (k H locs ls h1 h2 h3)
theorem j_iand (C : Cx G X cc own Ts nL rm) {x y : Int32} (hd : decode cc pc = .ok (.iand, 1)) (k : J G X Q nL n1 n2 (pc + 1) lv (.int (x &&& y) :: st) μ) : J G X Q nL n1 n2 pc lv (.int y :: .int x :: st) μ :=
  fun H locs ls h1 h2 h3 => lv_iand C.1.1 C.1.2.1 hd (k H locs ls h1 h2 h3)
theorem j_ior (C : Cx G X cc own Ts nL rm) {x y : Int32} (hd : decode cc pc = .ok (.ior, 1)) (k : J G X Q nL n1 n2 (pc + 1) lv (.int (x ||| y) :: st) μ) : J G X Q nL n1 n2 pc lv (.int y :: .int x :: st) μ :=
  fun H locs ls h1 h2 h3 => lv_ior C.1.1 C.1.2.1 hd (k H locs ls h1 h2 h3)
theorem j_ixor (C : Cx G X cc own Ts nL rm) {x y : Int32} (hd : decode cc pc = .ok (.ixor, 1)) (k : J G X Q nL n1 n2 (pc + 1) lv (.int (x ^^^ y) :: st) μ) : J G X Q nL n1 n2 pc lv (.int y :: .int x :: st) μ :=
  fun H locs ls h1 h2 h3 => lv_ixor C.1.1 C.1.2.1 hd (k H locs ls h1 h2 h3)
theorem j_ishl (C : Cx G X cc own Ts nL rm) {x y : Int32} (hd : decode cc pc = .ok (.ishl, 1)) (k : J G X Q nL n1 n2 (pc + 1) lv (.int (x <<< (y &&& 31)) :: st) μ) : J G X Q nL n1 n2 pc lv (.int y :: .int x :: st) μ :=
  fun H locs ls h1 h2 h3 => lv_ishl C.1.1 C.1.2.1 hd (k H locs ls h1 h2 h3)
theorem j_ishr (C : Cx G X cc own Ts nL rm) {x y : Int32} (hd : decode cc pc = .ok (.ishr, 1)) (k : J G X Q nL n1 n2 (pc + 1) lv (.int (x >>> (y &&& 31)) :: st) μ) : J G X Q nL n1 n2 pc lv (.int y :: .int x :: st) μ :=
  fun H locs ls h1 h2 h3 => lv_ishr C.1.1 C.1.2.1 hd (k H locs ls h1 h2 h3)
theorem j_idiv (C : Cx G X cc own Ts nL rm) {x y : Int32} (hd : decode cc pc = .ok (.idiv, 1)) (hne : ¬ y = 0) (k : J G X Q nL n1 n2 (pc + 1) lv (.int (x / y) :: st) μ) : J G X Q nL n1 n2 pc lv (.int y :: .int x :: st) μ :=
  fun H locs ls h1 h2 h3 => lv_idiv C.1.1 C.1.2.1 hd hne (k H locs ls h1 h2 h3)
theorem j_ineg (C : Cx G X cc own Ts nL rm) {x : Int32} (hd : decode cc pc = .ok (.ineg, 1)) (k : J G X Q nL n1 n2 (pc + 1) lv (.int (-x) :: st) μ) : J G X Q nL n1 n2 pc lv (.int x :: st) μ :=
  fun H locs ls h1 h2 h3 => lv_ineg C.1.1 C.1.2.1 hd (k H locs ls h1 h2 h3)
theorem j_i2b (C : Cx G X cc own Ts nL rm) {x : Int32} (hd : decode cc pc = .ok (.i2b, 1)) (k : J G X Q nL n1 n2 (pc + 1) lv (.int (x.toInt8.toInt32) :: st) μ) : J G X Q nL n1 n2 pc lv (.int x :: st) μ :=
  fun H locs ls h1 h2 h3 => lv_i2b C.1.1 C.1.2.1 hd rfl (k H locs ls h1 h2 h3)
theorem j_i2l (C : Cx G X cc own Ts nL rm) {x : Int32} (hd : decode cc pc = .ok (.i2l, 1)) (k : J G X Q nL n1 n2 (pc + 1) lv (.long (x.toInt64) :: st) μ) : J G X Q nL n1 n2 pc lv (.int x :: st) μ :=
  fun H locs ls h1 h2 h3 => lv_i2l C.1.1 C.1.2.1 hd rfl (k H locs ls h1 h2 h3)
theorem j_lcmp (C : Cx G X cc own Ts nL rm) {x y : Int64} (hd : decode cc pc = .ok (.lcmp, 1)) (k : J G X Q nL n1 n2 (pc + 1) lv (.int (lg_cmp x y) :: st) μ) : J G X Q nL n1 n2 pc lv (.long y :: .long x :: st) μ :=
  fun H locs ls h1 h2 h3 => W.lcmp C.1.1 C.1.2.1 hd (k H locs ls h1 h2 h3)
theorem j_dup (C : Cx G X cc own Ts nL rm) {v : Value} (hd : decode cc pc = .ok (.dup, 1)) (hv : v.category = 1) (k : J G X Q nL n1 n2 (pc + 1) lv (v :: v :: st) μ) : J G X Q nL n1 n2 pc lv (v :: st) μ :=
  fun H locs ls h1 h2 h3 => lv_dup C.1.1 C.1.2.1 hd hv (k H locs ls h1 h2 h3)
theorem j_dup2 (C : Cx G X cc own Ts nL rm) {v w : Value} (hd : decode cc pc = .ok (.dup2, 1)) (hv : v.category = 1) (hw : w.category = 1) (k : J G X Q nL n1 n2 (pc + 1) lv (v :: w :: v :: w :: st) μ) : J G X Q nL n1 n2 pc lv (v :: w :: st) μ :=
  fun H locs ls h1 h2 h3 => lv_dup2_11 C.1.1 C.1.2.1 hd hv hw (k H locs ls h1 h2 h3)
theorem j_dup_x1 (C : Cx G X cc own Ts nL rm) {v w : Value} (hd : decode cc pc = .ok (.dup_x1, 1)) (hv : v.category = 1) (hw : w.category = 1) (k : J G X Q nL n1 n2 (pc + 1) lv (v :: w :: v :: st) μ) : J G X Q nL n1 n2 pc lv (v :: w :: st) μ :=
  fun H locs ls h1 h2 h3 => lv_dup_x1 C.1.1 C.1.2.1 hd hv hw (k H locs ls h1 h2 h3)
theorem j_pop (C : Cx G X cc own Ts nL rm) {v : Value} (hd : decode cc pc = .ok (.pop, 1)) (hv : v.category = 1) (k : J G X Q nL n1 n2 (pc + 1) lv st μ) : J G X Q nL n1 n2 pc lv (v :: st) μ :=
  fun H locs ls h1 h2 h3 => lv_pop C.1.1 C.1.2.1 hd hv (k H locs ls h1 h2 h3)
theorem j_goto (C : Cx G X cc own Ts nL rm) {off : Int} (tgt : Nat) (hd : decode cc pc = .ok (.goto off, 3)) (ht : (pc : Int) + off = (tgt : Int)) (k : J G X Q nL n1 n2 tgt lv st μ) : J G X Q nL n1 n2 pc lv st μ :=
  fun H locs ls h1 h2 h3 => lv_goto C.1.1 C.1.2.1 hd ht (k H locs ls h1 h2 h3)
theorem j_icmp_eq (C : Cx G X cc own Ts nL rm) {x y : Int32} {off : Int} (tgt : Nat) (hd : decode cc pc = .ok (.if_icmp .eq off, 3)) (ht : (pc : Int) + off = (tgt : Int)) (kt : x = y → J G X Q nL n1 n2 tgt lv st μ) (kf : ¬ x = y → J G X Q nL n1 n2 (pc + 3) lv st μ) : J G X Q nL n1 n2 pc lv (.int y :: .int x :: st) μ :=
  fun H locs ls h1 h2 h3 => lv_icmp_eq C.1.1 C.1.2.1 hd ht (fun h => kt h H locs ls h1 h2 h3) (fun h => kf h H locs ls h1 h2 h3)
theorem j_if_eq (C : Cx G X cc own Ts nL rm) {x : Int32} {off : Int} (tgt : Nat) (hd : decode cc pc = .ok (.ifCond .eq off, 3)) (ht : (pc : Int) + off = (tgt : Int)) (kt : x = 0 → J G X Q nL n1 n2 tgt lv st μ) (kf : ¬ x = 0 → J G X Q nL n1 n2 (pc + 3) lv st μ) : J G X Q nL n1 n2 pc lv (.int x :: st) μ :=
  fun H locs ls h1 h2 h3 => lv_if_eq C.1.1 C.1.2.1 hd ht (fun h => kt h H locs ls h1 h2 h3) (fun h => kf h H locs ls h1 h2 h3)
theorem j_icmp_ne (C : Cx G X cc own Ts nL rm) {x y : Int32} {off : Int} (tgt : Nat) (hd : decode cc pc = .ok (.if_icmp .ne off, 3)) (ht : (pc : Int) + off = (tgt : Int)) (kt : ¬ x = y → J G X Q nL n1 n2 tgt lv st μ) (kf : x = y → J G X Q nL n1 n2 (pc + 3) lv st μ) : J G X Q nL n1 n2 pc lv (.int y :: .int x :: st) μ :=
  fun H locs ls h1 h2 h3 => lv_icmp_ne C.1.1 C.1.2.1 hd ht (fun h => kt h H locs ls h1 h2 h3) (fun h => kf h H locs ls h1 h2 h3)
theorem j_if_ne (C : Cx G X cc own Ts nL rm) {x : Int32} {off : Int} (tgt : Nat) (hd : decode cc pc = .ok (.ifCond .ne off, 3)) (ht : (pc : Int) + off = (tgt : Int)) (kt : ¬ x = 0 → J G X Q nL n1 n2 tgt lv st μ) (kf : x = 0 → J G X Q nL n1 n2 (pc + 3) lv st μ) : J G X Q nL n1 n2 pc lv (.int x :: st) μ :=
  fun H locs ls h1 h2 h3 => lv_if_ne C.1.1 C.1.2.1 hd ht (fun h => kt h H locs ls h1 h2 h3) (fun h => kf h H locs ls h1 h2 h3)
theorem j_icmp_lt (C : Cx G X cc own Ts nL rm) {x y : Int32} {off : Int} (tgt : Nat) (hd : decode cc pc = .ok (.if_icmp .lt off, 3)) (ht : (pc : Int) + off = (tgt : Int)) (kt : x < y → J G X Q nL n1 n2 tgt lv st μ) (kf : ¬ x < y → J G X Q nL n1 n2 (pc + 3) lv st μ) : J G X Q nL n1 n2 pc lv (.int y :: .int x :: st) μ :=
  fun H locs ls h1 h2 h3 => lv_icmp_lt C.1.1 C.1.2.1 hd ht (fun h => kt h H locs ls h1 h2 h3) (fun h => kf h H locs ls h1 h2 h3)
theorem j_if_lt (C : Cx G X cc own Ts nL rm) {x : Int32} {off : Int} (tgt : Nat) (hd : decode cc pc = .ok (.ifCond .lt off, 3)) (ht : (pc : Int) + off = (tgt : Int)) (kt : x < 0 → J G X Q nL n1 n2 tgt lv st μ) (kf : ¬ x < 0 → J G X Q nL n1 n2 (pc + 3) lv st μ) : J G X Q nL n1 n2 pc lv (.int x :: st) μ :=
  fun H locs ls h1 h2 h3 => lv_if_lt C.1.1 C.1.2.1 hd ht (fun h => kt h H locs ls h1 h2 h3) (fun h => kf h H locs ls h1 h2 h3)
theorem j_icmp_ge (C : Cx G X cc own Ts nL rm) {x y : Int32} {off : Int} (tgt : Nat) (hd : decode cc pc = .ok (.if_icmp .ge off, 3)) (ht : (pc : Int) + off = (tgt : Int)) (kt : y ≤ x → J G X Q nL n1 n2 tgt lv st μ) (kf : ¬ y ≤ x → J G X Q nL n1 n2 (pc + 3) lv st μ) : J G X Q nL n1 n2 pc lv (.int y :: .int x :: st) μ :=
  fun H locs ls h1 h2 h3 => lv_icmp_ge C.1.1 C.1.2.1 hd ht (fun h => kt h H locs ls h1 h2 h3) (fun h => kf h H locs ls h1 h2 h3)
theorem j_if_ge (C : Cx G X cc own Ts nL rm) {x : Int32} {off : Int} (tgt : Nat) (hd : decode cc pc = .ok (.ifCond .ge off, 3)) (ht : (pc : Int) + off = (tgt : Int)) (kt : 0 ≤ x → J G X Q nL n1 n2 tgt lv st μ) (kf : ¬ 0 ≤ x → J G X Q nL n1 n2 (pc + 3) lv st μ) : J G X Q nL n1 n2 pc lv (.int x :: st) μ :=
  fun H locs ls h1 h2 h3 => lv_if_ge C.1.1 C.1.2.1 hd ht (fun h => kt h H locs ls h1 h2 h3) (fun h => kf h H locs ls h1 h2 h3)
theorem j_icmp_gt (C : Cx G X cc own Ts nL rm) {x y : Int32} {off : Int} (tgt : Nat) (hd : decode cc pc = .ok (.if_icmp .gt off, 3)) (ht : (pc : Int) + off = (tgt : Int)) (kt : y < x → J G X Q nL n1 n2 tgt lv st μ) (kf : ¬ y < x → J G X Q nL n1 n2 (pc + 3) lv st μ) : J G X Q nL n1 n2 pc lv (.int y :: .int x :: st) μ :=
  fun H locs ls h1 h2 h3 => lv_icmp_gt C.1.1 C.1.2.1 hd ht (fun h => kt h H locs ls h1 h2 h3) (fun h => kf h H locs ls h1 h2 h3)
theorem j_if_gt (C : Cx G X cc own Ts nL rm) {x : Int32} {off : Int} (tgt : Nat) (hd : decode cc pc = .ok (.ifCond .gt off, 3)) (ht : (pc : Int) + off = (tgt : Int)) (kt : 0 < x → J G X Q nL n1 n2 tgt lv st μ) (kf : ¬ 0 < x → J G X Q nL n1 n2 (pc + 3) lv st μ) : J G X Q nL n1 n2 pc lv (.int x :: st) μ :=
  fun H locs ls h1 h2 h3 => lv_if_gt C.1.1 C.1.2.1 hd ht (fun h => kt h H locs ls h1 h2 h3) (fun h => kf h H locs ls h1 h2 h3)
theorem j_icmp_le (C : Cx G X cc own Ts nL rm) {x y : Int32} {off : Int} (tgt : Nat) (hd : decode cc pc = .ok (.if_icmp .le off, 3)) (ht : (pc : Int) + off = (tgt : Int)) (kt : x ≤ y → J G X Q nL n1 n2 tgt lv st μ) (kf : ¬ x ≤ y → J G X Q nL n1 n2 (pc + 3) lv st μ) : J G X Q nL n1 n2 pc lv (.int y :: .int x :: st) μ :=
  fun H locs ls h1 h2 h3 => lv_icmp_le C.1.1 C.1.2.1 hd ht (fun h => kt h H locs ls h1 h2 h3) (fun h => kf h H locs ls h1 h2 h3)
theorem j_if_le (C : Cx G X cc own Ts nL rm) {x : Int32} {off : Int} (tgt : Nat) (hd : decode cc pc = .ok (.ifCond .le off, 3)) (ht : (pc : Int) + off = (tgt : Int)) (kt : x ≤ 0 → J G X Q nL n1 n2 tgt lv st μ) (kf : ¬ x ≤ 0 → J G X Q nL n1 n2 (pc + 3) lv st μ) : J G X Q nL n1 n2 pc lv (.int x :: st) μ :=
  fun H locs ls h1 h2 h3 => lv_if_le C.1.1 C.1.2.1 hd ht (fun h => kt h H locs ls h1 h2 h3) (fun h => kf h H locs ls h1 h2 h3)
theorem j_case {x v : Int32} (k1 : x = v → J G X Q nL n1 n2 pc lv st μ) (k2 : ¬ x = v → J G X Q nL n1 n2 pc lv st μ) : J G X Q nL n1 n2 pc lv st μ := by
  by_cases h : x = v
  · exact k1 h
  · exact k2 h
theorem j_tsIn (C : Cx G X cc own Ts nL rm) {dflt lo hi : Int} {offs : Array Int} {len : Nat} {x v : Int32} {off : Int} (tgt : Nat) (hd : decode cc pc = .ok (.tableswitch dflt lo hi offs, len)) (hx : x = v) (h1 : ¬ v.toInt < lo) (h2 : ¬ hi < v.toInt) (ho : offs[(v.toInt - lo).toNat]? = some off) (ht : (pc : Int) + off = (tgt : Int)) (k : J G X Q nL n1 n2 tgt lv st μ) : J G X Q nL n1 n2 pc lv (.int x :: st) μ := by
  subst hx
  exact fun H locs ls a1 a2 a3 => lv_tableIn C.1.1 C.1.2.1 hd h1 h2 ho ht (k H locs ls a1 a2 a3)
theorem j_tsOut (C : Cx G X cc own Ts nL rm) {dflt lo hi : Int} {offs : Array Int} {len : Nat} {x : Int32} (tgt : Nat) (hd : decode cc pc = .ok (.tableswitch dflt lo hi offs, len)) (h : x.toInt < lo ∨ hi < x.toInt) (ht : (pc : Int) + dflt = (tgt : Int)) (k : J G X Q nL n1 n2 tgt lv st μ) : J G X Q nL n1 n2 pc lv (.int x :: st) μ :=
  fun H locs ls a1 a2 a3 => lv_tableOut C.1.1 C.1.2.1 hd h ht (k H locs ls a1 a2 a3)
theorem wsub {k : Nat} (hk : k < 77) {E : va_E} (hE : ce G (μ k) k = E) : (world G μ)[k]? = some (ad G k, E) := by rw [world_get hk, hE]
/-- fields: own, and a nest mate's -/
theorem j_get (C : Cx G X cc own Ts nL rm) {ref CC : String} {T : u_T} {N ci index : Nat} {fs : List (Option Nat)} {f : Option Nat} (k j : Nat) (hs : sh k = .inl (ci, fs)) (hk : k < 77) (hc : vwCl[ci]? = some (CC, T, N)) (hj : j < N) (hf : fs[j]? = some f) (hin : ∀ w ∈ u_ws CC T N, w ∈ Ts)
    (hlink : Cond.fieldLink own index ref (T j).2.1 (T j).2.2.1 ∈ Ts) (hsame : (T j).1 = ref) (hd : decode cc pc = .ok (.getfield index, 3)) (kk : J G X Q nL n1 n2 (pc + 3) lv (fv G (μ k) f j :: st) μ) : J G X Q nL n1 n2 pc lv (.ref (ad G k) :: st) μ := by
  subst hsame
  exact fun H locs ls h1 h2 h3 => va_get (D := gD G) (T := T) C.1.1 C.1.2.1 C.1.2.2.2.2 hin C.1.2.2.2.1 C.2.1.1 h2 k (wsub hk (ce_obj hs)) hc j hj (C.1.2.2.2.2 _ hlink) (fun _ h => h) (by have := fl_get (G := G) (r := μ k) (i := 0) hf; rwa [Nat.zero_add] at this) hd (kk H locs ls h1 h2 h3)
theorem j_getN (C : Cx G X cc own Ts nL rm) {ref CC host : String} {T : u_T} {N ci index : Nat} {fs : List (Option Nat)} {f : Option Nat} (k j : Nat) (hs : sh k = .inl (ci, fs)) (hk : k < 77) (hc : vwCl[ci]? = some (CC, T, N)) (hj : j < N) (hf : fs[j]? = some f) (hin : ∀ w ∈ u_ws CC T N, w ∈ Ts)
    (hlink : (own, index, ref, (T j).2.1, (T j).2.2.1, host) ∈ nwF) (hsame : (T j).1 = ref) (hd : decode cc pc = .ok (.getfield index, 3)) (kk : J G X Q nL n1 n2 (pc + 3) lv (fv G (μ k) f j :: st) μ) : J G X Q nL n1 n2 pc lv (.ref (ad G k) :: st) μ := by
  subst hsame
  exact fun H locs ls h1 h2 h3 => va_getN (D := gD G) (T := T) C.1.1 C.1.2.1 C.1.2.2.2.2 hin C.1.2.2.2.1 C.2.1.1 h2 k (wsub hk (ce_obj hs)) hc j hj (va_Nw.use rfl (C.2.1.2.1 _ hlink)) (fun _ h => h) (by have := fl_get (G := G) (r := μ k) (i := 0) hf; rwa [Nat.zero_add] at this) hd (kk H locs ls h1 h2 h3)
theorem j_getI (C : Cx G X cc own Ts nL rm) {ref CC : String} {T : u_T} {N ci index : Nat} {fs : List (Option Nat)} (k j : Nat) (hs : sh k = .inl (ci, fs)) (hk : k < 77) (hc : vwCl[ci]? = some (CC, T, N)) (hj : j < N) (hf : fs[j]? = some (none)) (hin : ∀ w ∈ u_ws CC T N, w ∈ Ts)
    (hlink : Cond.fieldLink own index ref (T j).2.1 (T j).2.2.1 ∈ Ts) (hsame : (T j).1 = ref) (hd : decode cc pc = .ok (.getfield index, 3)) (kk : J G X Q nL n1 n2 (pc + 3) lv (.int (μ k j) :: st) μ) : J G X Q nL n1 n2 pc lv (.ref (ad G k) :: st) μ := j_get C k j hs hk hc hj hf hin hlink hsame hd kk
theorem j_getR (C : Cx G X cc own Ts nL rm) {ref CC : String} {T : u_T} {N ci index : Nat} {fs : List (Option Nat)} {k' : Nat} (k j : Nat) (hs : sh k = .inl (ci, fs)) (hk : k < 77) (hc : vwCl[ci]? = some (CC, T, N)) (hj : j < N) (hf : fs[j]? = some (some k')) (hin : ∀ w ∈ u_ws CC T N, w ∈ Ts)
    (hlink : Cond.fieldLink own index ref (T j).2.1 (T j).2.2.1 ∈ Ts) (hsame : (T j).1 = ref) (hd : decode cc pc = .ok (.getfield index, 3)) (kk : J G X Q nL n1 n2 (pc + 3) lv (.ref (ad G k') :: st) μ) : J G X Q nL n1 n2 pc lv (.ref (ad G k) :: st) μ := j_get C k j hs hk hc hj hf hin hlink hsame hd kk
theorem j_getIN (C : Cx G X cc own Ts nL rm) {ref CC host : String} {T : u_T} {N ci index : Nat} {fs : List (Option Nat)} (k j : Nat) (hs : sh k = .inl (ci, fs)) (hk : k < 77) (hc : vwCl[ci]? = some (CC, T, N)) (hj : j < N) (hf : fs[j]? = some (none)) (hin : ∀ w ∈ u_ws CC T N, w ∈ Ts)
    (hlink : (own, index, ref, (T j).2.1, (T j).2.2.1, host) ∈ nwF) (hsame : (T j).1 = ref) (hd : decode cc pc = .ok (.getfield index, 3)) (kk : J G X Q nL n1 n2 (pc + 3) lv (.int (μ k j) :: st) μ) : J G X Q nL n1 n2 pc lv (.ref (ad G k) :: st) μ := j_getN C k j hs hk hc hj hf hin hlink hsame hd kk
theorem j_getRN (C : Cx G X cc own Ts nL rm) {ref CC host : String} {T : u_T} {N ci index : Nat} {fs : List (Option Nat)} {k' : Nat} (k j : Nat) (hs : sh k = .inl (ci, fs)) (hk : k < 77) (hc : vwCl[ci]? = some (CC, T, N)) (hj : j < N) (hf : fs[j]? = some (some k')) (hin : ∀ w ∈ u_ws CC T N, w ∈ Ts)
    (hlink : (own, index, ref, (T j).2.1, (T j).2.2.1, host) ∈ nwF) (hsame : (T j).1 = ref) (hd : decode cc pc = .ok (.getfield index, 3)) (kk : J G X Q nL n1 n2 (pc + 3) lv (.ref (ad G k') :: st) μ) : J G X Q nL n1 n2 pc lv (.ref (ad G k) :: st) μ := j_getN C k j hs hk hc hj hf hin hlink hsame hd kk
theorem j_put (C : Cx G X cc own Ts nL rm) {ref CC : String} {T : u_T} {N ci index : Nat} {fs : List (Option Nat)} {v : Int32} {μ' : Mem} {tyf : Nat → FieldType} (k j : Nat) (hs : sh k = .inl (ci, fs)) (hk : k < 77) (hc : vwCl[ci]? = some (CC, T, N)) (hj : j < N) (hf : fs[j]? = some none) (hin : ∀ w ∈ u_ws CC T N, w ∈ Ts)
    (hlink : Cond.fieldLink own index ref (T j).2.1 (T j).2.2.1 ∈ Ts) (hsame : (T j).1 = ref) (hty : ∀ k, k < N → parseFieldDescriptor (T k).2.2.1 = some (tyf k)) (hnm : ∀ a, a < N → ∀ b, b < N → a ≠ b → (T a).2.1 ≠ (T b).2.1) (hfin : (T j).2.2.2 = false) (hti : parseFieldDescriptor (T j).2.2.1 = some .int) (hd : decode cc pc = .ok (.putfield index, 3)) (hm : μ' = wr μ k j v) (kk : J G X Q nL n1 n2 (pc + 3) lv st μ') : J G X Q nL n1 n2 pc lv (.int v :: .ref (ad G k) :: st) μ := by
  subst hsame
  intro H locs ls h1 h2 h3
  refine va_put (D := gD G) (T := T) C.1.1 C.1.2.1 C.1.2.2.2.2 hin tyf hty hnm C.1.2.2.2.1 C.2.1.1 h2 (C.2.2.1.d μ) h3 k (wsub hk (ce_obj hs)) hc j hj (C.1.2.2.2.2 _ hlink) (fun _ h => h) hfin hti rfl rfl (by rw [fl_len]; exact (List.getElem?_eq_some_iff.mp hf).1) hd (fun H1 locs1 hP _ hS => kk H1 locs1 ls h1 ?_ hS)
  rw [world_set (r := upd (μ k) j v) (by rw [ce_obj hs, fl_set hf, Nat.zero_add])] at hP
  rw [hm]; exact hP
theorem j_putN (C : Cx G X cc own Ts nL rm) {ref CC host : String} {T : u_T} {N ci index : Nat} {fs : List (Option Nat)} {v : Int32} {μ' : Mem} {tyf : Nat → FieldType} (k j : Nat) (hs : sh k = .inl (ci, fs)) (hk : k < 77) (hc : vwCl[ci]? = some (CC, T, N)) (hj : j < N) (hf : fs[j]? = some none) (hin : ∀ w ∈ u_ws CC T N, w ∈ Ts)
    (hlink : (own, index, ref, (T j).2.1, (T j).2.2.1, host) ∈ nwF) (hsame : (T j).1 = ref) (hty : ∀ k, k < N → parseFieldDescriptor (T k).2.2.1 = some (tyf k)) (hnm : ∀ a, a < N → ∀ b, b < N → a ≠ b → (T a).2.1 ≠ (T b).2.1) (hfin : (T j).2.2.2 = false) (hti : parseFieldDescriptor (T j).2.2.1 = some .int) (hd : decode cc pc = .ok (.putfield index, 3)) (hm : μ' = wr μ k j v) (kk : J G X Q nL n1 n2 (pc + 3) lv st μ') : J G X Q nL n1 n2 pc lv (.int v :: .ref (ad G k) :: st) μ := by
  subst hsame
  intro H locs ls h1 h2 h3
  refine va_putN (D := gD G) (T := T) C.1.1 C.1.2.1 C.1.2.2.2.2 hin tyf hty hnm C.1.2.2.2.1 C.2.1.1 h2 (C.2.2.1.d μ) h3 k (wsub hk (ce_obj hs)) hc j hj (va_Nw.use rfl (C.2.1.2.1 _ hlink)) (fun _ h => h) hfin hti rfl rfl (by rw [fl_len]; exact (List.getElem?_eq_some_iff.mp hf).1) hd (fun H1 locs1 hP _ hS => kk H1 locs1 ls h1 ?_ hS)
  rw [world_set (r := upd (μ k) j v) (by rw [ce_obj hs, fl_set hf, Nat.zero_add])] at hP
  rw [hm]; exact hP
/-- arrays -/
theorem j_iald (C : Cx G X cc own Ts nL rm) {n : Nat} {i : Int32} (k : Nat) (hs : sh k = .inr (0, n)) (hk : k < 77) (hin : vp_in i n) (hd : decode cc pc = .ok (.iaload, 1)) (kk : J G X Q nL n1 n2 (pc + 1) lv (.int (μ k (ix i)) :: st) μ) : J G X Q nL n1 n2 pc lv (.int i :: .ref (ad G k) :: st) μ :=
  fun H locs ls h1 h2 h3 => va_iald C.1.1 C.1.2.1 C.2.1.1 h2 k 0 (wsub hk (ce_arr hs (by decide))) rfl hin hd (kk H locs ls h1 h2 h3)
theorem j_bald (C : Cx G X cc own Ts nL rm) {n : Nat} {i : Int32} (k : Nat) (hs : sh k = .inr (1, n)) (hk : k < 77) (hin : vp_in i n) (hd : decode cc pc = .ok (.baload, 1)) (kk : J G X Q nL n1 n2 (pc + 1) lv (.int (μ k (ix i)) :: st) μ) : J G X Q nL n1 n2 pc lv (.int i :: .ref (ad G k) :: st) μ :=
  fun H locs ls h1 h2 h3 => va_bald C.1.1 C.1.2.1 C.2.1.1 h2 k 1 (wsub hk (ce_arr hs (by decide))) rfl hin hd (kk H locs ls h1 h2 h3)
theorem j_zald (C : Cx G X cc own Ts nL rm) {n : Nat} {i : Int32} (k : Nat) (hs : sh k = .inr (2, n)) (hk : k < 77) (hin : vp_in i n) (hd : decode cc pc = .ok (.baload, 1)) (kk : J G X Q nL n1 n2 (pc + 1) lv (.int (μ k (ix i)) :: st) μ) : J G X Q nL n1 n2 pc lv (.int i :: .ref (ad G k) :: st) μ :=
  fun H locs ls h1 h2 h3 => va_zald C.1.1 C.1.2.1 C.2.1.1 h2 k 2 (wsub hk (ce_arr hs (by decide))) rfl hin hd (kk H locs ls h1 h2 h3)
theorem j_lald (C : Cx G X cc own Ts nL rm) {n : Nat} {i : Int32} (k : Nat) (hs : sh k = .inr (3, n)) (hk : k < 77) (hin : vp_in i n) (hd : decode cc pc = .ok (.laload, 1)) (kk : J G X Q nL n1 n2 (pc + 1) lv (.long (μ k (ix i)).toInt64 :: st) μ) : J G X Q nL n1 n2 pc lv (.int i :: .ref (ad G k) :: st) μ :=
  fun H locs ls h1 h2 h3 => va_lald C.1.1 C.1.2.1 C.2.1.1 h2 k 3 (wsub hk (ce_lng hs)) rfl hin hd (kk H locs ls h1 h2 h3)
theorem j_aald (C : Cx G X cc own Ts nL rm) {n : Nat} {i : Int32} (k : Nat) (hs : sh k = .inr (4, n)) (hk : k < 77) (hin : vp_in i n) (hd : decode cc pc = .ok (.aaload, 1)) (kk : J G X Q nL n1 n2 (pc + 1) lv (.ref (ad G (ix i + 57)) :: st) μ) : J G X Q nL n1 n2 pc lv (.int i :: .ref (ad G k) :: st) μ := by
  intro H locs ls h1 h2 h3
  have hlt : i.toNatClampNeg < n := Nat.not_le.mp fun q => hin (Or.inr q)
  exact W.aald (v := .ref (ad G (ix i + 57))) (ty := .array .int) C.1.1 C.1.2.1 (h2 k _ (wsub hk (ce_ref hs))) ((C.2.1.1.2 4 _ rfl).1 n _) rfl (fun q => by cases q) (by show ¬ (i < 0 ∨ (arrV _ _ _).slots.size ≤ _); rw [arrV_size]; exact hin) (by show (arrV _ _ _).slots[_]? = _; rw [arrV_read _ _ hlt]; simp [va_rf, hlt]) rfl rfl hd (kk H locs ls h1 h2 h3)
theorem j_alen (C : Cx G X cc own Ts nL rm) {t n : Nat} {v : Int32} (k : Nat) (hs : sh k = .inr (t, n)) (ht : t < 3) (hk : k < 77) (hv : Int32.ofNat n = v) (hd : decode cc pc = .ok (.arraylength, 1)) (kk : J G X Q nL n1 n2 (pc + 1) lv (.int v :: st) μ) : J G X Q nL n1 n2 pc lv (.ref (ad G k) :: st) μ := by
  intro H locs ls h1 h2 h3
  have e : ∃ ty, (tys G)[t]? = some (ca G t, ty) := by
    rcases (show t = 0 ∨ t = 1 ∨ t = 2 by omega) with rfl | rfl | rfl <;> exact ⟨_, rfl⟩
  obtain ⟨ty, e⟩ := e
  exact va_alen C.1.1 C.1.2.1 C.2.1.1 h2 k t (wsub hk (ce_arr hs ht)) e hv hd (kk H locs ls h1 h2 h3)
theorem j_iast (C : Cx G X cc own Ts nL rm) {n : Nat} {i x : Int32} {μ' : Mem} (k : Nat) (hs : sh k = .inr (0, n)) (hk : k < 77) (hin : vp_in i n) (hd : decode cc pc = .ok (.iastore, 1)) (hm : μ' = wr μ k (ix i) x) (kk : J G X Q nL n1 n2 (pc + 1) lv st μ') : J G X Q nL n1 n2 pc lv (.int x :: .int i :: .ref (ad G k) :: st) μ := by
  intro H locs ls h1 h2 h3
  refine va_iast C.1.1 C.1.2.1 C.2.1.1 h2 (C.2.2.1.d μ) h3 k 0 (wsub hk (ce_arr hs (by decide))) rfl hin hd (fun H1 locs1 hP _ hS => kk H1 locs1 ls h1 ?_ hS)
  rw [world_set (r := upd (μ k) (ix i) x) (ce_arr hs (by decide))] at hP
  rw [hm]; exact hP
theorem j_bast (C : Cx G X cc own Ts nL rm) {n : Nat} {i x : Int32} {μ' : Mem} (k : Nat) (hs : sh k = .inr (1, n)) (hk : k < 77) (hin : vp_in i n) (hd : decode cc pc = .ok (.bastore, 1)) (hm : μ' = wr μ k (ix i) x.toInt8.toInt32) (kk : J G X Q nL n1 n2 (pc + 1) lv st μ') : J G X Q nL n1 n2 pc lv (.int x :: .int i :: .ref (ad G k) :: st) μ := by
  intro H locs ls h1 h2 h3
  refine va_bast C.1.1 C.1.2.1 C.2.1.1 h2 (C.2.2.1.d μ) h3 k 1 (wsub hk (ce_arr hs (by decide))) rfl hin hd (fun H1 locs1 hP _ hS => kk H1 locs1 ls h1 ?_ hS)
  rw [world_set (r := upd (μ k) (ix i) (vp_nar .byte x)) (ce_arr hs (by decide)), vp_nar_byte] at hP
  rw [hm]; exact hP
def nz (x : Int32) : Int32 := vp_nar .boolean x
theorem j_zast (C : Cx G X cc own Ts nL rm) {n : Nat} {i x : Int32} {μ' : Mem} (k : Nat) (hs : sh k = .inr (2, n)) (hk : k < 77) (hin : vp_in i n) (hd : decode cc pc = .ok (.bastore, 1)) (hm : μ' = wr μ k (ix i) (nz x)) (kk : J G X Q nL n1 n2 (pc + 1) lv st μ') : J G X Q nL n1 n2 pc lv (.int x :: .int i :: .ref (ad G k) :: st) μ := by
  intro H locs ls h1 h2 h3
  refine va_zast C.1.1 C.1.2.1 C.2.1.1 h2 (C.2.2.1.d μ) h3 k 2 (wsub hk (ce_arr hs (by decide))) rfl hin hd (fun H1 locs1 hP _ hS => kk H1 locs1 ls h1 ?_ hS)
  rw [world_set (r := upd (μ k) (ix i) (vp_nar .boolean x)) (ce_arr hs (by decide))] at hP
  rw [hm]; exact hP
theorem j_last (C : Cx G X cc own Ts nL rm) {n : Nat} {i x : Int32} {z : Int64} {μ' : Mem} (k : Nat) (hs : sh k = .inr (3, n)) (hk : k < 77) (hz : z = x.toInt64) (hin : vp_in i n) (hd : decode cc pc = .ok (.lastore, 1)) (hm : μ' = wr μ k (ix i) x) (kk : J G X Q nL n1 n2 (pc + 1) lv st μ') : J G X Q nL n1 n2 pc lv (.long z :: .int i :: .ref (ad G k) :: st) μ := by
  subst hz
  intro H locs ls h1 h2 h3
  refine va_last C.1.1 C.1.2.1 C.2.1.1 h2 (C.2.2.1.d μ) h3 k 3 (wsub hk (ce_lng hs)) rfl hin hd (fun H1 locs1 hP _ hS => kk H1 locs1 ls h1 ?_ hS)
  have e : (fun j => (upd (μ k) (ix i) x j).toInt64) = vp_updL (fun j => (μ k j).toInt64) (ix i) x.toInt64 := by
    funext j
    by_cases h : j = ix i
    · simp [upd, vp_updL, h]
    · simp [upd, vp_updL, h]
  rw [world_set (r := upd (μ k) (ix i) x) (by rw [ce_lng hs, e])] at hP
  rw [hm]; exact hP
/-- arraycopy of ints or bytes -/
theorem j_copy (C : Cx G X cc own Ts nL rm) {index t nA nB : Nat} {ty : FieldType} {sp dp n : Int32} {μ' : Mem} (ka kb : Nat) (hsa : sh ka = .inr (t, nA)) (hsb : sh kb = .inr (t, nB)) (ht : t < 2) (hty : ty = if t = 0 then .int else .byte) (hka : ka < 77) (hkb : kb < 77) (hlink : Cond.methodLink own index arraycopyName ∈ Ts) (hnat : Cond.native arraycopyName ∈ Ts) (hstat : Cond.static arraycopyName ∈ Ts) (hini : Cond.initialized "java/lang/System" ∈ Ts)
    (q1 : ¬ sp < 0) (q2 : ¬ dp < 0) (q3 : ¬ n < 0) (q4 : ix sp + ix n ≤ nA) (q5 : ix dp + ix n ≤ nB) (hfit : ∀ i, i < ix n → fits ty (.int (μ ka (ix sp + i))) = true)
    (hfr : 1 ≤ rm.frames) (hlo : (st.map fun v => v.category).sum + (nativeFrameWords "java/lang/System" "arraycopy" 5 + 11) ≤ rm.locals) (hd : decode cc pc = .ok (.invokestatic index, 3)) (hm : μ' = wrow μ kb (va_cpy (μ ka) (μ kb) (ix sp) (ix dp) (ix n))) (kk : J G X Q nL n1 n2 (pc + 3) lv st μ') : J G X Q nL n1 n2 pc lv (.int n :: .int dp :: .ref (ad G kb) :: .int sp :: .ref (ad G ka) :: st) μ := by
  intro H locs ls h1 h2 h3
  have e : (tys G)[t]? = some (ca G t, ty) := by
    rcases (show t = 0 ∨ t = 1 by omega) with rfl | rfl <;> (rw [hty]; rfl)
  refine va_copyi C.1.1 C.1.2.1 (C.1.2.2.1.trans h1.1.symm) C.1.2.2.2.1 (C.1.2.2.2.2 _ hlink) (C.1.2.2.2.2 _ hnat) (C.1.2.2.2.2 _ hstat) (C.1.2.2.2.2 _ hini) C.2.1.1 h2 (C.2.2.1.d μ) h3 ka kb t t (wsub hka (ce_arr hsa (by omega))) (wsub hkb (ce_arr hsb (by omega))) e e (by rw [hty]; rcases (show t = 0 ∨ t = 1 by omega) with rfl | rfl <;> rfl) q1 q2 q3 q4 q5 hfit (by rw [C.2.2.2.2.2]; exact hfr) (by rw [C.2.2.2.2.2]; exact hlo) hd (fun H1 locs1 hP _ hS => kk H1 locs1 ls h1 ?_ hS)
  rw [world_set (r := va_cpy (μ ka) (μ kb) (ix sp) (ix dp) (ix n)) (ce_arr hsb (by omega))] at hP
  rw [hm]; exact hP
theorem j_min (C : Cx G X cc own Ts nL rm) {index : Nat} {x y : Int32} (hlink : Cond.methodLink own index Lib.Math.min.name ∈ Ts) (hstat : Cond.static Lib.Math.min.name ∈ Ts) (hini : Cond.initialized "java/lang/Math" ∈ Ts) (hcode : Cond.code Lib.Math.min.name Lib.Math.min.code 2 (some .int) ∈ Ts)
    (hfr : 1 ≤ rm.frames) (hlo : (st.map fun v => v.category).sum + 13 ≤ rm.locals) (hc : n1 ≤ rm.cells) (hs : n2 ≤ rm.slots) (hd : decode cc pc = .ok (.invokestatic index, 3)) (kk : J G X Q nL n1 n2 (pc + 3) lv (.int (if y < x then y else x) :: st) μ) : J G X Q nL n1 n2 pc lv (.int y :: .int x :: st) μ :=
  fun H locs ls h1 h2 h3 => va_mmin C.1.1 C.1.2.1 (C.1.2.2.1.trans h1.1.symm) C.1.2.2.2.1 (C.1.2.2.2.2 _ hlink) (C.1.2.2.2.2 _ hstat) (C.1.2.2.2.2 _ hini) (C.1.2.2.2.2 _ hcode) (by rw [C.2.2.2.2.2]; exact hfr) (by rw [C.2.2.2.2.2]; exact hlo) (by rw [C.2.2.2.2.2]; exact hc) (by rw [C.2.2.2.2.2]; exact hs) hd (kk H locs ls h1 h2 h3)
theorem j_widen {k1 k2 : Nat} (a1 : n1 ≤ k1) (a2 : n2 ≤ k2) (kk : J G X Q nL k1 k2 pc lv st μ) : J G X Q nL n1 n2 pc lv st μ :=
  fun H locs ls h1 h2 h3 => W.widen a1 a2 (kk H locs ls h1 h2 h3)
/-- the end of a method, whatever it owes besides -/
def Ret (G : Gt) (X : Cxt) (Q : State → Prop) (Qc : Array Value → State → Outcome → State → Prop) (mc ms : Nat) : Prop :=
  ∀ (H : Heap) (locs : List Loc) (g : JFrame), W (xp X) (xl X) (xe X) (xR X) (xs X) (xm X) (xa X) (xb X) (xt X) (xc X) H locs mc ms (MQ (xb X) Qc (xa X) (xs X) mc ms (A_ G)) g → W (xp X) (xl X) (xe X) (xR X) (xs X) (xm X) (xa X) (xb X) (xt X) (xc X) H locs mc ms Q g
def RetI (G : Gt) (X : Cxt) (Q : State → Prop) (post : Int32 → Mem → Prop) (ty : FieldType) (mc ms : Nat) : Prop := Ret G X Q (va_Qi post (Post G) (A_ G)) mc ms ∧ (xt X).sig.returnType = some ty
def RetV (G : Gt) (X : Cxt) (Q : State → Prop) (post : Mem → Prop) (mc ms : Nat) : Prop := Ret G X Q (va_Qv post (Post G) (A_ G)) mc ms ∧ (xt X).sig.returnType = none
theorem j_iret (C : Cx G X cc own Ts nL rm) {post : Int32 → Mem → Prop} {mc ms : Nat} {v : Int32} (hQ : RetI G X Q post .int mc ms) (a1 : n1 ≤ mc) (a2 : n2 ≤ ms) (hp : post v μ) (hd : decode cc pc = .ok (.ireturn, 1)) : J G X Q nL n1 n2 pc lv [.int v] μ :=
  fun H locs ls h1 h2 h3 => W.widen a1 a2 (hQ.1 H locs _ (W.iret C.1.1 C.1.2.1 hQ.2 (fun t ht _ => ⟨⟨v, μ, rfl, hp, by show va_P _ _ _ t.heap; rw [ht]; exact h2⟩, h3.F ht⟩) h3.2.2 hd C.2.2.2.2.1))
def bz (v : Int32) : Prop := narrow .boolean (.int v) = .int v
theorem j_zret (C : Cx G X cc own Ts nL rm) {post : Int32 → Mem → Prop} {mc ms : Nat} {v : Int32} (hQ : RetI G X Q post .boolean mc ms) (a1 : n1 ≤ mc) (a2 : n2 ≤ ms) (hb : bz v) (hp : post v μ) (hd : decode cc pc = .ok (.ireturn, 1)) : J G X Q nL n1 n2 pc lv [.int v] μ :=
  fun H locs ls h1 h2 h3 => W.widen a1 a2 (hQ.1 H locs _ (W.zret C.1.1 C.1.2.1 hQ.2 hb (fun t ht _ => ⟨⟨v, μ, rfl, hp, by show va_P _ _ _ t.heap; rw [ht]; exact h2⟩, h3.F ht⟩) h3.2.2 hd C.2.2.2.2.1))
theorem j_vret (C : Cx G X cc own Ts nL rm) {post : Mem → Prop} {mc ms : Nat} (hQ : RetV G X Q post mc ms) (a1 : n1 ≤ mc) (a2 : n2 ≤ ms) (hp : post μ) (hd : decode cc pc = .ok (.return_, 1)) : J G X Q nL n1 n2 pc lv [] μ :=
  fun H locs ls h1 h2 h3 => W.widen a1 a2 (hQ.1 H locs _ (W.vret C.1.1 C.1.2.1 hQ.2 (fun t ht _ => ⟨⟨μ, rfl, hp, by show va_P _ _ _ t.heap; rw [ht]; exact h2⟩, h3.F ht⟩) h3.2.2 hd C.2.2.2.2.1))
/-- what a callee is told -/
theorem Cx.pre (C : Cx G X cc own Ts nL rm) {Φ : Prop} (hΦ : Φ) {H : Heap} {locs : List Loc} (h2 : va_P (gD G) vwCl (world G μ) H) (h3 : va_S (A_ G) (xs X).heap H locs) {U : State} (hU : U.heap = H) (hW : (xs X).WarmedH U.vm) : Pre G μ Φ U := by
  refine ⟨hΦ, by rw [hU]; exact h2, Ks.warm hW C.2.1, ?_⟩
  rw [hU]
  exact Zs.moved hW.alike (Zs.kept C.2.2.2.1 h3)
theorem Cx.recv (C : Cx G X cc own Ts nL rm) {k ci N : Nat} {CC : String} {T : u_T} {fs : List (Option Nat)} (hs : sh k = .inl (ci, fs)) (hk : k < 77) (hc : vwCl[ci]? = some (CC, T, N)) {H : Heap} (h2 : va_P (gD G) vwCl (world G μ) H) : ∃ cell : Cell, H[ad G k]? = some cell ∧ cell.vm.isStatics = false ∧ (xs X).vm.findClass CC = some cell.cls :=
  va_recv C.2.1.1 h2 hc (wsub hk (ce_obj hs))
theorem j_cVI (C : Cx G X cc own Ts nL rm) {CC : String} {T : u_T} {N ci index maxL mc ms n k1 k2 : Nat} {y : MethodName} {bytes : ByteArray} {ret : Option FieldType} {ws ws' : List Cond} {rm' : Room} {As rest : List Value} {fs : List (Option Nat)} {Φ : Prop} {post : Int32 → Mem → Prop} (k : Nat) (hM : MI G (xl X) y ws rm' mc ms (.ref (ad G k) :: As) μ Φ post) (hΦ : Φ) (hG : GoodIn Ts (wsV own index CC y ws)) (hwd : ws = Cond.code y bytes maxL ret :: ws') (hcm : rm'.cells = mc ∧ rm'.slots = ms) (hy : y.cls = CC ∧ y.cls ≠ "java/lang/invoke/MethodHandle" ∧ y.cls ≠ "java/lang/invoke/VarHandle" ∧ (parseMethodDescriptor y.desc).map (fun d => d.parameters.length) = some n) (hR : rm'.frames + 1 ≤ rm.frames ∧ 8 + (maxL + 11) + rm'.locals ≤ rm.locals) (hr : n1 + mc ≤ rm.cells ∧ n2 + ms ≤ rm.slots)
    (hs : sh k = .inl (ci, fs)) (hk : k < 77) (hc : vwCl[ci]? = some (CC, T, N)) (hn : As.length = n) (hst : st = As.reverse ++ .ref (ad G k) :: rest) (hw : (rest.map fun v => v.category).sum ≤ 8) (hd : decode cc pc = .ok (.invokevirtual index, 3)) (e1 : n1 + mc = k1) (e2 : n2 + ms = k2) (kk : ∀ r μ', post r μ' → J G X Q nL k1 k2 (pc + 3) lv (.int r :: rest) μ') : J G X Q nL n1 n2 pc lv st μ := by
  subst hst e1 e2
  intro H locs ls h1 h2 h3
  exact va_calli (va_runV (As := As) (rest := rest) C.1 hM (cwV n C.1.2.2.2.2 hG hwd hcm.1 hcm.2 hy ⟨by rw [C.2.2.2.2.2]; exact hR.1, by rw [C.2.2.2.2.2]; exact hR.2⟩) ⟨pre_blind, C.recv hs hk hc h2, fun U hU hW => ⟨rfl, C.pre hΦ h2 h3 hU hW⟩⟩ rfl hn h1.1 rfl (lv_room hw) hd ⟨by rw [C.2.2.2.2.2]; exact hr.1, by rw [C.2.2.2.2.2]; exact hr.2⟩) h3 (fun q _ h => h) (fun q h => h) (fun r u t H1 locs1 ht hvm hp hB hz hk1 hS => kk r u hp H1 locs1 ls h1 (by rw [← ht]; exact hB) hS)
theorem j_cNI (C : Cx G X cc own Ts nL rm) {CC host : String} {T : u_T} {N ci index maxL mc ms n k1 k2 : Nat} {y : MethodName} {bytes : ByteArray} {ret : Option FieldType} {ws ws' : List Cond} {rm' : Room} {As rest : List Value} {fs : List (Option Nat)} {Φ : Prop} {post : Int32 → Mem → Prop} (k : Nat) (hM : MI G (xl X) y ws rm' mc ms (.ref (ad G k) :: As) μ Φ post) (hΦ : Φ) (hG : GoodIn Ts ws) (hl : (own, index, y, host) ∈ nwM) (hini : Cond.initialized y.cls ∈ Ts) (hin : Cond.instanceMethod y ∈ Ts) (hse : Cond.selects CC y y ∈ Ts) (hwd : ws = Cond.code y bytes maxL ret :: ws') (hcm : rm'.cells = mc ∧ rm'.slots = ms) (hy : y.cls ≠ "java/lang/invoke/MethodHandle" ∧ y.cls ≠ "java/lang/invoke/VarHandle" ∧ (parseMethodDescriptor y.desc).map (fun d => d.parameters.length) = some n) (hR : rm'.frames + 1 ≤ rm.frames ∧ 8 + (maxL + 11) + rm'.locals ≤ rm.locals) (hr : n1 + mc ≤ rm.cells ∧ n2 + ms ≤ rm.slots)
    (hs : sh k = .inl (ci, fs)) (hk : k < 77) (hc : vwCl[ci]? = some (CC, T, N)) (hn : As.length = n) (hst : st = As.reverse ++ .ref (ad G k) :: rest) (hw : (rest.map fun v => v.category).sum ≤ 8) (hd : decode cc pc = .ok (.invokevirtual index, 3)) (e1 : n1 + mc = k1) (e2 : n2 + ms = k2) (kk : ∀ r μ', post r μ' → J G X Q nL k1 k2 (pc + 3) lv (.int r :: rest) μ') : J G X Q nL n1 n2 pc lv st μ := by
  subst hst e1 e2
  intro H locs ls h1 h2 h3
  exact va_calli (va_runVN (As := As) (rest := rest) C.1 hM ⟨va_cnB n C.1.2.2.2.2 hG hwd hcm.1 hcm.2 (C.2.1.2.2.1 _ hl) (C.1.2.2.2.2 _ hini) hy ⟨by rw [C.2.2.2.2.2]; exact hR.1, by rw [C.2.2.2.2.2]; exact hR.2⟩, C.1.2.2.2.2 _ hin, C.1.2.2.2.2 _ hse⟩ ⟨pre_blind, C.recv hs hk hc h2, fun U hU hW => ⟨rfl, C.pre hΦ h2 h3 hU hW⟩⟩ rfl hn h1.1 rfl (lv_room hw) hd ⟨by rw [C.2.2.2.2.2]; exact hr.1, by rw [C.2.2.2.2.2]; exact hr.2⟩) h3 (fun q _ h => h) (fun q h => h) (fun r u t H1 locs1 ht hvm hp hB hz hk1 hS => kk r u hp H1 locs1 ls h1 (by rw [← ht]; exact hB) hS)
theorem j_cSI (C : Cx G X cc own Ts nL rm) {index maxL mc ms n k1 k2 : Nat} {y : MethodName} {bytes : ByteArray} {ret : Option FieldType} {ws ws' : List Cond} {rm' : Room} {As rest : List Value} {Φ : Prop} {post : Int32 → Mem → Prop} (hM : MI G (xl X) y ws rm' mc ms As μ Φ post) (hΦ : Φ) (hG : GoodIn Ts (va_wsS own index y ws)) (hwd : ws = Cond.code y bytes maxL ret :: ws') (hcm : rm'.cells = mc ∧ rm'.slots = ms) (hy : y.cls ≠ "java/lang/invoke/MethodHandle" ∧ y.cls ≠ "java/lang/invoke/VarHandle" ∧ (parseMethodDescriptor y.desc).map (fun d => d.parameters.length) = some n) (hR : rm'.frames + 1 ≤ rm.frames ∧ 8 + (maxL + 11) + rm'.locals ≤ rm.locals) (hr : n1 + mc ≤ rm.cells ∧ n2 + ms ≤ rm.slots)
    (hn : As.length = n) (hst : st = As.reverse ++ rest) (hw : (rest.map fun v => v.category).sum ≤ 8) (hd : decode cc pc = .ok (.invokestatic index, 3)) (e1 : n1 + mc = k1) (e2 : n2 + ms = k2) (kk : ∀ r μ', post r μ' → J G X Q nL k1 k2 (pc + 3) lv (.int r :: rest) μ') : J G X Q nL n1 n2 pc lv st μ := by
  subst hst e1 e2
  intro H locs ls h1 h2 h3
  exact va_calli (va_runS (As := As) (rest := rest) C.1 hM (va_cwS n C.1.2.2.2.2 hG hwd hcm.1 hcm.2 hy ⟨by rw [C.2.2.2.2.2]; exact hR.1, by rw [C.2.2.2.2.2]; exact hR.2⟩) ⟨pre_blind, fun U hU hW => ⟨rfl, C.pre hΦ h2 h3 hU hW⟩⟩ rfl hn h1.1 rfl (lv_room hw) hd ⟨by rw [C.2.2.2.2.2]; exact hr.1, by rw [C.2.2.2.2.2]; exact hr.2⟩) h3 (fun q _ h => h) (fun q h => h) (fun r u t H1 locs1 ht hvm hp hB hz hk1 hS => kk r u hp H1 locs1 ls h1 (by rw [← ht]; exact hB) hS)
theorem j_cVV (C : Cx G X cc own Ts nL rm) {CC : String} {T : u_T} {N ci index maxL mc ms n k1 k2 : Nat} {y : MethodName} {bytes : ByteArray} {ret : Option FieldType} {ws ws' : List Cond} {rm' : Room} {As rest : List Value} {fs : List (Option Nat)} {Φ : Prop} {post : Mem → Prop} (k : Nat) (hM : MV G (xl X) y ws rm' mc ms (.ref (ad G k) :: As) μ Φ post) (hΦ : Φ) (hG : GoodIn Ts (wsV own index CC y ws)) (hwd : ws = Cond.code y bytes maxL ret :: ws') (hcm : rm'.cells = mc ∧ rm'.slots = ms) (hy : y.cls = CC ∧ y.cls ≠ "java/lang/invoke/MethodHandle" ∧ y.cls ≠ "java/lang/invoke/VarHandle" ∧ (parseMethodDescriptor y.desc).map (fun d => d.parameters.length) = some n) (hR : rm'.frames + 1 ≤ rm.frames ∧ 8 + (maxL + 11) + rm'.locals ≤ rm.locals) (hr : n1 + mc ≤ rm.cells ∧ n2 + ms ≤ rm.slots)
    (hs : sh k = .inl (ci, fs)) (hk : k < 77) (hc : vwCl[ci]? = some (CC, T, N)) (hn : As.length = n) (hst : st = As.reverse ++ .ref (ad G k) :: rest) (hw : (rest.map fun v => v.category).sum ≤ 8) (hd : decode cc pc = .ok (.invokevirtual index, 3)) (e1 : n1 + mc = k1) (e2 : n2 + ms = k2) (kk : ∀ μ', post μ' → J G X Q nL k1 k2 (pc + 3) lv rest μ') : J G X Q nL n1 n2 pc lv st μ := by
  subst hst e1 e2
  intro H locs ls h1 h2 h3
  exact va_callv (va_runV (As := As) (rest := rest) C.1 hM (cwV n C.1.2.2.2.2 hG hwd hcm.1 hcm.2 hy ⟨by rw [C.2.2.2.2.2]; exact hR.1, by rw [C.2.2.2.2.2]; exact hR.2⟩) ⟨pre_blind, C.recv hs hk hc h2, fun U hU hW => ⟨rfl, C.pre hΦ h2 h3 hU hW⟩⟩ rfl hn h1.1 rfl (lv_room hw) hd ⟨by rw [C.2.2.2.2.2]; exact hr.1, by rw [C.2.2.2.2.2]; exact hr.2⟩) h3 (fun q _ h => h) (fun q h => h) (fun u t H1 locs1 ht hvm hp hB hz hk1 hS => kk u hp H1 locs1 ls h1 (by rw [← ht]; exact hB) hS)
theorem j_cNV (C : Cx G X cc own Ts nL rm) {CC host : String} {T : u_T} {N ci index maxL mc ms n k1 k2 : Nat} {y : MethodName} {bytes : ByteArray} {ret : Option FieldType} {ws ws' : List Cond} {rm' : Room} {As rest : List Value} {fs : List (Option Nat)} {Φ : Prop} {post : Mem → Prop} (k : Nat) (hM : MV G (xl X) y ws rm' mc ms (.ref (ad G k) :: As) μ Φ post) (hΦ : Φ) (hG : GoodIn Ts ws) (hl : (own, index, y, host) ∈ nwM) (hini : Cond.initialized y.cls ∈ Ts) (hin : Cond.instanceMethod y ∈ Ts) (hse : Cond.selects CC y y ∈ Ts) (hwd : ws = Cond.code y bytes maxL ret :: ws') (hcm : rm'.cells = mc ∧ rm'.slots = ms) (hy : y.cls ≠ "java/lang/invoke/MethodHandle" ∧ y.cls ≠ "java/lang/invoke/VarHandle" ∧ (parseMethodDescriptor y.desc).map (fun d => d.parameters.length) = some n) (hR : rm'.frames + 1 ≤ rm.frames ∧ 8 + (maxL + 11) + rm'.locals ≤ rm.locals) (hr : n1 + mc ≤ rm.cells ∧ n2 + ms ≤ rm.slots)
    (hs : sh k = .inl (ci, fs)) (hk : k < 77) (hc : vwCl[ci]? = some (CC, T, N)) (hn : As.length = n) (hst : st = As.reverse ++ .ref (ad G k) :: rest) (hw : (rest.map fun v => v.category).sum ≤ 8) (hd : decode cc pc = .ok (.invokevirtual index, 3)) (e1 : n1 + mc = k1) (e2 : n2 + ms = k2) (kk : ∀ μ', post μ' → J G X Q nL k1 k2 (pc + 3) lv rest μ') : J G X Q nL n1 n2 pc lv st μ := by
  subst hst e1 e2
  intro H locs ls h1 h2 h3
  exact va_callv (va_runVN (As := As) (rest := rest) C.1 hM ⟨va_cnB n C.1.2.2.2.2 hG hwd hcm.1 hcm.2 (C.2.1.2.2.1 _ hl) (C.1.2.2.2.2 _ hini) hy ⟨by rw [C.2.2.2.2.2]; exact hR.1, by rw [C.2.2.2.2.2]; exact hR.2⟩, C.1.2.2.2.2 _ hin, C.1.2.2.2.2 _ hse⟩ ⟨pre_blind, C.recv hs hk hc h2, fun U hU hW => ⟨rfl, C.pre hΦ h2 h3 hU hW⟩⟩ rfl hn h1.1 rfl (lv_room hw) hd ⟨by rw [C.2.2.2.2.2]; exact hr.1, by rw [C.2.2.2.2.2]; exact hr.2⟩) h3 (fun q _ h => h) (fun q h => h) (fun u t H1 locs1 ht hvm hp hB hz hk1 hS => kk u hp H1 locs1 ls h1 (by rw [← ht]; exact hB) hS)
theorem j_cSV (C : Cx G X cc own Ts nL rm) {index maxL mc ms n k1 k2 : Nat} {y : MethodName} {bytes : ByteArray} {ret : Option FieldType} {ws ws' : List Cond} {rm' : Room} {As rest : List Value} {Φ : Prop} {post : Mem → Prop} (hM : MV G (xl X) y ws rm' mc ms As μ Φ post) (hΦ : Φ) (hG : GoodIn Ts (va_wsS own index y ws)) (hwd : ws = Cond.code y bytes maxL ret :: ws') (hcm : rm'.cells = mc ∧ rm'.slots = ms) (hy : y.cls ≠ "java/lang/invoke/MethodHandle" ∧ y.cls ≠ "java/lang/invoke/VarHandle" ∧ (parseMethodDescriptor y.desc).map (fun d => d.parameters.length) = some n) (hR : rm'.frames + 1 ≤ rm.frames ∧ 8 + (maxL + 11) + rm'.locals ≤ rm.locals) (hr : n1 + mc ≤ rm.cells ∧ n2 + ms ≤ rm.slots)
    (hn : As.length = n) (hst : st = As.reverse ++ rest) (hw : (rest.map fun v => v.category).sum ≤ 8) (hd : decode cc pc = .ok (.invokestatic index, 3)) (e1 : n1 + mc = k1) (e2 : n2 + ms = k2) (kk : ∀ μ', post μ' → J G X Q nL k1 k2 (pc + 3) lv rest μ') : J G X Q nL n1 n2 pc lv st μ := by
  subst hst e1 e2
  intro H locs ls h1 h2 h3
  exact va_callv (va_runS (As := As) (rest := rest) C.1 hM (va_cwS n C.1.2.2.2.2 hG hwd hcm.1 hcm.2 hy ⟨by rw [C.2.2.2.2.2]; exact hR.1, by rw [C.2.2.2.2.2]; exact hR.2⟩) ⟨pre_blind, fun U hU hW => ⟨rfl, C.pre hΦ h2 h3 hU hW⟩⟩ rfl hn h1.1 rfl (lv_room hw) hd ⟨by rw [C.2.2.2.2.2]; exact hr.1, by rw [C.2.2.2.2.2]; exact hr.2⟩) h3 (fun q _ h => h) (fun q h => h) (fun u t H1 locs1 ht hvm hp hB hz hk1 hS => kk u hp H1 locs1 ls h1 (by rw [← ht]; exact hB) hS)
/-- what a method that may throw owes -/
def Xq (G : Gt) (X : Cxt) (Q : State → Prop) (xq : XP) (mc ms : Nat) : Prop := (∃ Qc, Q = vx_MQ (xb X) Qc (QX G xq) (xa X) (xs X) mc ms (A_ G)) ∧ (∀ x ∈ (xc X).exceptionTable.toList, False) ∧ (xl X).stackTraces = false
theorem Xq.out {xq : XP} {mc ms : Nat} (hX : Xq G X Q xq mc ms) (C : Cx G X cc own Ts nL rm) {E : String} {ce : Cell} {q9 : Addr} {H : Heap} {locs : List Loc} {ls : Array Slot} (hx : xq E μ) (h2 : va_P (gD G) vwCl (world G μ) H) (h3 : va_S (A_ G) (xs X).heap H locs) (hce : H[q9]? = some ce) (hcv : ce.vm = .none) (hcl : (xs X).vm.findClass E = some ce.cls) (a1 : n1 ≤ mc) (a2 : n2 ≤ ms) :
    vx_W (xp X) (xl X) (xe X) (xR X) (xs X) (xm X) (xa X) (xb X) (xt X) (xc X) H locs n1 n2 Q (F0 (xm X) pc ls st) q9 := by
  obtain ⟨⟨Qc, hQ⟩, hE, -⟩ := hX
  rw [hQ]
  exact vx_out (fun x hx => (hE x hx).elim) C.2.2.2.2.1 hce hcv hcl (fun t ht _ => ⟨μ, trivial, ⟨hx, by show va_P _ _ _ t.heap; rw [ht]; exact h2⟩, h3.F ht⟩) h3.2.2 a1 a2
theorem j_xVI (C : Cx G X cc own Ts nL rm) {CC : String} {T : u_T} {N ci index maxL mc ms n k1 k2 : Nat} {y : MethodName} {bytes : ByteArray} {ret : Option FieldType} {ws ws' : List Cond} {rm' : Room} {As rest : List Value} {fs : List (Option Nat)} {Φ : Prop} {post : Int32 → Mem → Prop} {xq : XP} {mc0 ms0 : Nat} (hX : Xq G X Q xq mc0 ms0) (k : Nat) (hM : XI G (xl X) y ws rm' mc ms (.ref (ad G k) :: As) μ Φ post xq) (hΦ : Φ) (hG : GoodIn Ts (wsV own index CC y ws)) (hwd : ws = Cond.code y bytes maxL ret :: ws') (hcm : rm'.cells = mc ∧ rm'.slots = ms) (hy : y.cls = CC ∧ y.cls ≠ "java/lang/invoke/MethodHandle" ∧ y.cls ≠ "java/lang/invoke/VarHandle" ∧ (parseMethodDescriptor y.desc).map (fun d => d.parameters.length) = some n) (hR : rm'.frames + 1 ≤ rm.frames ∧ 8 + (maxL + 11) + rm'.locals ≤ rm.locals) (hr : n1 + mc ≤ rm.cells ∧ n2 + ms ≤ rm.slots) (h0 : n1 + mc ≤ mc0 ∧ n2 + ms ≤ ms0)
    (hs : sh k = .inl (ci, fs)) (hk : k < 77) (hc : vwCl[ci]? = some (CC, T, N)) (hn : As.length = n) (hst : st = As.reverse ++ .ref (ad G k) :: rest) (hw : (rest.map fun v => v.category).sum ≤ 8) (hd : decode cc pc = .ok (.invokevirtual index, 3)) (e1 : n1 + mc = k1) (e2 : n2 + ms = k2) (kk : ∀ r μ', post r μ' → J G X Q nL k1 k2 (pc + 3) lv (.int r :: rest) μ') : J G X Q nL n1 n2 pc lv st μ := by
  subst hst e1 e2
  intro H locs ls h1 h2 h3
  exact vx_calli (vx_runV (As := As) (rest := rest) C.1 hM (cwV n C.1.2.2.2.2 hG hwd hcm.1 hcm.2 hy ⟨by rw [C.2.2.2.2.2]; exact hR.1, by rw [C.2.2.2.2.2]; exact hR.2⟩) ⟨pre_blind, C.recv hs hk hc h2, fun U hU hW => ⟨rfl, C.pre hΦ h2 h3 hU hW⟩⟩ rfl hn h1.1 rfl (lv_room hw) hd ⟨by rw [C.2.2.2.2.2]; exact hr.1, by rw [C.2.2.2.2.2]; exact hr.2⟩) h3 (fun q _ h => h) (fun q h => h) (fun q _ h => h) (fun E ce q9 u t H1 locs1 ht hvm hp hB hz hk1 hS hce hcv hcl => hX.out C hB.1 (by show va_P _ _ _ H1; rw [← ht]; exact hB.2) hS hce hcv hcl h0.1 h0.2) (fun r u t H1 locs1 ht hvm hp hB hz hk1 hS => kk r u hp H1 locs1 ls h1 (by rw [← ht]; exact hB) hS)
theorem j_xVV (C : Cx G X cc own Ts nL rm) {CC : String} {T : u_T} {N ci index maxL mc ms n k1 k2 : Nat} {y : MethodName} {bytes : ByteArray} {ret : Option FieldType} {ws ws' : List Cond} {rm' : Room} {As rest : List Value} {fs : List (Option Nat)} {Φ : Prop} {post : Mem → Prop} {xq : XP} {mc0 ms0 : Nat} (hX : Xq G X Q xq mc0 ms0) (k : Nat) (hM : XV G (xl X) y ws rm' mc ms (.ref (ad G k) :: As) μ Φ post xq) (hΦ : Φ) (hG : GoodIn Ts (wsV own index CC y ws)) (hwd : ws = Cond.code y bytes maxL ret :: ws') (hcm : rm'.cells = mc ∧ rm'.slots = ms) (hy : y.cls = CC ∧ y.cls ≠ "java/lang/invoke/MethodHandle" ∧ y.cls ≠ "java/lang/invoke/VarHandle" ∧ (parseMethodDescriptor y.desc).map (fun d => d.parameters.length) = some n) (hR : rm'.frames + 1 ≤ rm.frames ∧ 8 + (maxL + 11) + rm'.locals ≤ rm.locals) (hr : n1 + mc ≤ rm.cells ∧ n2 + ms ≤ rm.slots) (h0 : n1 + mc ≤ mc0 ∧ n2 + ms ≤ ms0)
    (hs : sh k = .inl (ci, fs)) (hk : k < 77) (hc : vwCl[ci]? = some (CC, T, N)) (hn : As.length = n) (hst : st = As.reverse ++ .ref (ad G k) :: rest) (hw : (rest.map fun v => v.category).sum ≤ 8) (hd : decode cc pc = .ok (.invokevirtual index, 3)) (e1 : n1 + mc = k1) (e2 : n2 + ms = k2) (kk : ∀ μ', post μ' → J G X Q nL k1 k2 (pc + 3) lv rest μ') : J G X Q nL n1 n2 pc lv st μ := by
  subst hst e1 e2
  intro H locs ls h1 h2 h3
  exact vx_callv (vx_runV (As := As) (rest := rest) C.1 hM (cwV n C.1.2.2.2.2 hG hwd hcm.1 hcm.2 hy ⟨by rw [C.2.2.2.2.2]; exact hR.1, by rw [C.2.2.2.2.2]; exact hR.2⟩) ⟨pre_blind, C.recv hs hk hc h2, fun U hU hW => ⟨rfl, C.pre hΦ h2 h3 hU hW⟩⟩ rfl hn h1.1 rfl (lv_room hw) hd ⟨by rw [C.2.2.2.2.2]; exact hr.1, by rw [C.2.2.2.2.2]; exact hr.2⟩) h3 (fun q _ h => h) (fun q h => h) (fun q _ h => h) (fun E ce q9 u t H1 locs1 ht hvm hp hB hz hk1 hS hce hcv hcl => hX.out C hB.1 (by show va_P _ _ _ H1; rw [← ht]; exact hB.2) hS hce hcv hcl h0.1 h0.2) (fun u t H1 locs1 ht hvm hp hB hz hk1 hS => kk u hp H1 locs1 ls h1 (by rw [← ht]; exact hB) hS)
/-- 'throw new E("text")' -/
theorem j_thr (C : Cx G X cc own Ts nL rm) {xq : XP} {mc ms : Nat} (hX : Xq G X Q xq mc ms) {cls text : String} {bytes : ByteArray} {ik is ic index lw : Nat} (hcls : Jvm.Bundle.fit cls = true)
    (b0 : decode bytes 0 = .ok (.aload_n 0, 1)) (b1 : decode bytes 1 = .ok (.aload_n 1, 1)) (b2 : decode bytes 2 = .ok (.invokespecial index, 3)) (b5 : decode bytes 5 = .ok (.return_, 1))
    (hk : Cond.classLink own ik cls ∈ Ts) (hini : Cond.initialized cls ∈ Ts) (hstr : (own, is, text) ∈ strs)
    (hat : ∀ w ∈ (vz_atS own ic cls "java/lang/RuntimeException" ["java/lang/Exception"] index bytes).filter goodWord, w ∈ Ts)
    (hng : ∀ w ∈ (vz_atS own ic cls "java/lang/RuntimeException" ["java/lang/Exception"] index bytes).filter (fun w => !goodWord w), w ∈ nwD.map Cond.declares ++ nwC.map (fun q => Cond.castable q.1 q.2))
    (hgood : ∀ w ∈ Cond.classLink own ik cls :: Cond.initialized cls :: vz_atS own ic cls "java/lang/RuntimeException" ["java/lang/Exception"] index bytes, vx_ot w = true)
    (d0 : decode cc pc = .ok (.new ik, 3)) (d3 : decode cc (pc + 3) = .ok (.dup, 1)) (d4 : (decode cc (pc + 4) = .ok (.ldc is, 2) ∧ lw = 2) ∨ (decode cc (pc + 4) = .ok (.ldc_w is, 3) ∧ lw = 3)) (d6 : decode cc (pc + 4 + lw) = .ok (.invokespecial ic, 3)) (d9 : decode cc (pc + 4 + lw + 3) = .ok (.athrow, 1))
    (hf : 5 < rm.frames) (hlo : (st.map fun v => v.category).sum + 82 ≤ rm.locals) (hc : n1 + 1 ≤ rm.cells) (hs : n2 + 6 ≤ rm.slots) (a1 : n1 + 1 ≤ mc) (a2 : n2 + 6 ≤ ms) (hx : xq cls μ) : J G X Q nL n1 n2 pc lv st μ := by
  intro H locs ls h1 h2 h3
  obtain ⟨⟨Qc, hQ⟩, hE, hl⟩ := hX
  obtain ⟨sa, hsa⟩ := C.2.1.2.2.2.1 _ hstr
  rw [hQ]
  refine vz_throwS C.1.1 C.1.2.1 hl C.1.2.2.2.1 hcls (by decide) (by decide) b0 b1 b2 b5 (C.1.2.2.2.2 _ hk) (C.1.2.2.2.2 _ hini) hsa (vx_hat (fun w hw => C.1.2.2.2.2 w (hat w hw)) hng ?_) hgood C.2.2.2.1.2.1 C.2.2.2.1.2.2 h3 (h1.1.trans C.1.2.2.1.symm) d0 d3 d4 d6 d9 (fun x hx => (hE x hx).elim) (by rw [C.2.2.2.2.2]; exact hf) (by rw [C.2.2.2.2.2]; exact hlo) (by rw [C.2.2.2.2.2]; exact hc) (by rw [C.2.2.2.2.2]; exact hs) C.2.2.2.2.1 (fun t hv hz hkp => ⟨μ, trivial, ⟨hx, ?_⟩, ?_⟩) h3.2.2 a1 a2
  · intro w hw
    rcases List.mem_append.mp hw with hw | hw
    · obtain ⟨q, hq, rfl⟩ := List.mem_map.mp hw
      exact va_Nw.use rfl (C.2.1.2.2.2.2.1 q hq)
    · obtain ⟨q, hq, rfl⟩ := List.mem_map.mp hw
      exact va_Nw.use rfl (C.2.1.2.2.2.2.2.1 q hq)
  · exact h2.kept (fun k9 x hx => hkp x.1 ((h2 k9 x hx).lt))
  · exact ⟨Nat.le_trans h3.1 hz, fun q q1 q2 => (hkp q (Nat.lt_of_lt_of_le q1 h3.1)).trans (h3.2.1 q q1 q2)⟩
end JR
/-- a contract out of the walk of its body -/
theorem mI_of {l : Launch} {G : Gt} {y : MethodName} {ws ws' : List Cond} {rm : Room} {cc : ByteArray} {maxL mc ms : Nat} {ty : FieldType} {av : List Value} {lv0 : List (Nat × Value)} {μ : Mem} {Φ : Prop} {post : Int32 → Mem → Prop} (hD : Dj G) (hy : plainName y.cls = true) (hw : ws = Cond.code y cc maxL (some ty) :: ws') (hav : (lg_sl av).length ≤ maxL) (hlv : lv_args 0 av = lv0)
    (body : ∀ (X : Cxt) (Q : State → Prop), xl X = l → Cx G X cc y.cls ws maxL rm → RetI G X Q post ty mc ms → Φ → J G X Q maxL 0 0 0 lv0 [] μ) : MI G l y ws rm mc ms av μ Φ post := by
  refine Met.ofW (cc := cc) (maxL := maxL) (ret := some ty) hy hw ?_
  intro p e s m args below meth c s₁ B hml hv
  obtain ⟨rfl, hΦ, hP, hK, hZ⟩ := hv
  have hl := lv_entry av (n := maxL) hav
  rw [lg_entry_eq]
  rw [hlv] at hl
  exact body (p, l, e, rm, s, m, av.toArray, below, meth, c) _ rfl ⟨⟨B.exec, B.bytes, hml, findClass_of_methodNamed B.named, atoms_spec (ws := ws) B.pre⟩, hK, hD, hZ, B.notSynchronized, rfl⟩ ⟨fun H locs g h => h, B.returns⟩ hΦ s.heap [] _ hl hP va_S.rf
theorem mV_of {l : Launch} {G : Gt} {y : MethodName} {ws ws' : List Cond} {rm : Room} {cc : ByteArray} {maxL mc ms : Nat} {av : List Value} {lv0 : List (Nat × Value)} {μ : Mem} {Φ : Prop} {post : Mem → Prop} (hD : Dj G) (hy : plainName y.cls = true) (hw : ws = Cond.code y cc maxL none :: ws') (hav : (lg_sl av).length ≤ maxL) (hlv : lv_args 0 av = lv0)
    (body : ∀ (X : Cxt) (Q : State → Prop), xl X = l → Cx G X cc y.cls ws maxL rm → RetV G X Q post mc ms → Φ → J G X Q maxL 0 0 0 lv0 [] μ) : MV G l y ws rm mc ms av μ Φ post := by
  refine Met.ofW (cc := cc) (maxL := maxL) (ret := none) hy hw ?_
  intro p e s m args below meth c s₁ B hml hv
  obtain ⟨rfl, hΦ, hP, hK, hZ⟩ := hv
  have hl := lv_entry av (n := maxL) hav
  rw [lg_entry_eq]
  rw [hlv] at hl
  exact body (p, l, e, rm, s, m, av.toArray, below, meth, c) _ rfl ⟨⟨B.exec, B.bytes, hml, findClass_of_methodNamed B.named, atoms_spec (ws := ws) B.pre⟩, hK, hD, hZ, B.notSynchronized, rfl⟩ ⟨fun H locs g h => h, B.returns⟩ hΦ s.heap [] _ hl hP va_S.rf
theorem xI_of {l : Launch} {G : Gt} {y : MethodName} {ws ws' : List Cond} {rm : Room} {cc : ByteArray} {maxL mc ms : Nat} {ty : FieldType} {av : List Value} {lv0 : List (Nat × Value)} {μ : Mem} {Φ : Prop} {post : Int32 → Mem → Prop} {xq : XP} (hD : Dj G) (hst : l.stackTraces = false) (hy : plainName y.cls = true) (hw : ws = Cond.code y cc maxL (some ty) :: ws') (hav : (lg_sl av).length ≤ maxL) (hlv : lv_args 0 av = lv0)
    (body : ∀ (X : Cxt) (Q : State → Prop), xl X = l → Cx G X cc y.cls ws maxL rm → RetI G X Q post ty mc ms → Xq G X Q xq mc ms → Φ → J G X Q maxL 0 0 0 lv0 [] μ) : XI G l y ws rm mc ms av μ Φ post xq := by
  refine vx_ofW (cc := cc) (maxL := maxL) (ret := some ty) hy hw ?_
  intro p e s m args below meth c s₁ B hml ht hv
  obtain ⟨rfl, hΦ, hP, hK, hZ⟩ := hv
  have hl := lv_entry av (n := maxL) hav
  rw [lg_entry_eq]
  rw [hlv] at hl
  exact body (p, l, e, rm, s, m, av.toArray, below, meth, c) _ rfl ⟨⟨B.exec, B.bytes, hml, findClass_of_methodNamed B.named, atoms_spec (ws := ws) B.pre⟩, hK, hD, hZ, B.notSynchronized, rfl⟩ ⟨fun H locs g h => vx_ret h, B.returns⟩ ⟨⟨_, rfl⟩, ht, hst⟩ hΦ s.heap [] _ hl hP va_S.rf
theorem xV_of {l : Launch} {G : Gt} {y : MethodName} {ws ws' : List Cond} {rm : Room} {cc : ByteArray} {maxL mc ms : Nat} {av : List Value} {lv0 : List (Nat × Value)} {μ : Mem} {Φ : Prop} {post : Mem → Prop} {xq : XP} (hD : Dj G) (hst : l.stackTraces = false) (hy : plainName y.cls = true) (hw : ws = Cond.code y cc maxL none :: ws') (hav : (lg_sl av).length ≤ maxL) (hlv : lv_args 0 av = lv0)
    (body : ∀ (X : Cxt) (Q : State → Prop), xl X = l → Cx G X cc y.cls ws maxL rm → RetV G X Q post mc ms → Xq G X Q xq mc ms → Φ → J G X Q maxL 0 0 0 lv0 [] μ) : XV G l y ws rm mc ms av μ Φ post xq := by
  refine vx_ofW (cc := cc) (maxL := maxL) (ret := none) hy hw ?_
  intro p e s m args below meth c s₁ B hml ht hv
  obtain ⟨rfl, hΦ, hP, hK, hZ⟩ := hv
  have hl := lv_entry av (n := maxL) hav
  rw [lg_entry_eq]
  rw [hlv] at hl
  exact body (p, l, e, rm, s, m, av.toArray, below, meth, c) _ rfl ⟨⟨B.exec, B.bytes, hml, findClass_of_methodNamed B.named, atoms_spec (ws := ws) B.pre⟩, hK, hD, hZ, B.notSynchronized, rfl⟩ ⟨fun H locs g h => vx_ret h, B.returns⟩ ⟨⟨_, rfl⟩, ht, hst⟩ hΦ s.heap [] _ hl hP va_S.rf
/-- loops: n times round, and their rule -/
def itr {β : Type} (bot : β) (F : β → β) : Nat → β
  | 0 => bot
  | n + 1 => F (itr bot F n)
theorem wl0 {F : (Mem → Prop) → (Mem → Prop)} (I : Mem → Prop) (v : Mem → Nat) (hs : ∀ (k : Mem → Prop) (μ : Mem), I μ → (∀ (μ' : Mem), I μ' → v μ' < v μ → k μ') → F k μ) (μ : Mem) (h : I μ) : ∃ n, itr (fun _ => False) F n μ := by
  have key : ∀ (N : Nat) (μ : Mem), v μ < N → I μ → itr (fun _ => False) F N μ := by
    intro N
    induction N with
    | zero => intro μ hv; omega
    | succ N ih => intro μ hv hI; exact hs _ μ hI (fun μ' hI' hv' => ih μ' (by omega) hI')
  exact ⟨v μ + 1, key _ μ (Nat.lt_succ_self _) h⟩
theorem wl1 {F : (Int32 → Mem → Prop) → (Int32 → Mem → Prop)} (I : Int32 → Mem → Prop) (v : Int32 → Mem → Nat) (hs : ∀ (k : Int32 → Mem → Prop) (x0 : Int32) (μ : Mem), I x0 μ → (∀ (y0 : Int32) (μ' : Mem), I y0 μ' → v y0 μ' < v x0 μ → k y0 μ') → F k x0 μ) (x0 : Int32) (μ : Mem) (h : I x0 μ) : ∃ n, itr (fun _ _ => False) F n x0 μ := by
  have key : ∀ (N : Nat) (x0 : Int32) (μ : Mem), v x0 μ < N → I x0 μ → itr (fun _ _ => False) F N x0 μ := by
    intro N
    induction N with
    | zero => intro x0 μ hv; omega
    | succ N ih => intro x0 μ hv hI; exact hs _ x0 μ hI (fun y0 μ' hI' hv' => ih y0 μ' (by omega) hI')
  exact ⟨v x0 μ + 1, key _ x0 μ (Nat.lt_succ_self _) h⟩
theorem wl2 {F : (Int32 → Int32 → Mem → Prop) → (Int32 → Int32 → Mem → Prop)} (I : Int32 → Int32 → Mem → Prop) (v : Int32 → Int32 → Mem → Nat) (hs : ∀ (k : Int32 → Int32 → Mem → Prop) (x0 x1 : Int32) (μ : Mem), I x0 x1 μ → (∀ (y0 y1 : Int32) (μ' : Mem), I y0 y1 μ' → v y0 y1 μ' < v x0 x1 μ → k y0 y1 μ') → F k x0 x1 μ) (x0 x1 : Int32) (μ : Mem) (h : I x0 x1 μ) : ∃ n, itr (fun _ _ _ => False) F n x0 x1 μ := by
  have key : ∀ (N : Nat) (x0 x1 : Int32) (μ : Mem), v x0 x1 μ < N → I x0 x1 μ → itr (fun _ _ _ => False) F N x0 x1 μ := by
    intro N
    induction N with
    | zero => intro x0 x1 μ hv; omega
    | succ N ih => intro x0 x1 μ hv hI; exact hs _ x0 x1 μ hI (fun y0 y1 μ' hI' hv' => ih y0 y1 μ' (by omega) hI')
  exact ⟨v x0 x1 μ + 1, key _ x0 x1 μ (Nat.lt_succ_self _) h⟩
theorem wl3 {F : (Int32 → Int32 → Int32 → Mem → Prop) → (Int32 → Int32 → Int32 → Mem → Prop)} (I : Int32 → Int32 → Int32 → Mem → Prop) (v : Int32 → Int32 → Int32 → Mem → Nat) (hs : ∀ (k : Int32 → Int32 → Int32 → Mem → Prop) (x0 x1 x2 : Int32) (μ : Mem), I x0 x1 x2 μ → (∀ (y0 y1 y2 : Int32) (μ' : Mem), I y0 y1 y2 μ' → v y0 y1 y2 μ' < v x0 x1 x2 μ → k y0 y1 y2 μ') → F k x0 x1 x2 μ) (x0 x1 x2 : Int32) (μ : Mem) (h : I x0 x1 x2 μ) : ∃ n, itr (fun _ _ _ _ => False) F n x0 x1 x2 μ := by
  have key : ∀ (N : Nat) (x0 x1 x2 : Int32) (μ : Mem), v x0 x1 x2 μ < N → I x0 x1 x2 μ → itr (fun _ _ _ _ => False) F N x0 x1 x2 μ := by
    intro N
    induction N with
    | zero => intro x0 x1 x2 μ hv; omega
    | succ N ih => intro x0 x1 x2 μ hv hI; exact hs _ x0 x1 x2 μ hI (fun y0 y1 y2 μ' hI' hv' => ih y0 y1 y2 μ' (by omega) hI')
  exact ⟨v x0 x1 x2 μ + 1, key _ x0 x1 x2 μ (Nat.lt_succ_self _) h⟩
theorem wl4 {F : (Int32 → Int32 → Int32 → Int32 → Mem → Prop) → (Int32 → Int32 → Int32 → Int32 → Mem → Prop)} (I : Int32 → Int32 → Int32 → Int32 → Mem → Prop) (v : Int32 → Int32 → Int32 → Int32 → Mem → Nat) (hs : ∀ (k : Int32 → Int32 → Int32 → Int32 → Mem → Prop) (x0 x1 x2 x3 : Int32) (μ : Mem), I x0 x1 x2 x3 μ → (∀ (y0 y1 y2 y3 : Int32) (μ' : Mem), I y0 y1 y2 y3 μ' → v y0 y1 y2 y3 μ' < v x0 x1 x2 x3 μ → k y0 y1 y2 y3 μ') → F k x0 x1 x2 x3 μ) (x0 x1 x2 x3 : Int32) (μ : Mem) (h : I x0 x1 x2 x3 μ) : ∃ n, itr (fun _ _ _ _ _ => False) F n x0 x1 x2 x3 μ := by
  have key : ∀ (N : Nat) (x0 x1 x2 x3 : Int32) (μ : Mem), v x0 x1 x2 x3 μ < N → I x0 x1 x2 x3 μ → itr (fun _ _ _ _ _ => False) F N x0 x1 x2 x3 μ := by
    intro N
    induction N with
    | zero => intro x0 x1 x2 x3 μ hv; omega
    | succ N ih => intro x0 x1 x2 x3 μ hv hI; exact hs _ x0 x1 x2 x3 μ hI (fun y0 y1 y2 y3 μ' hI' hv' => ih y0 y1 y2 y3 μ' (by omega) hI')
  exact ⟨v x0 x1 x2 x3 μ + 1, key _ x0 x1 x2 x3 μ (Nat.lt_succ_self _) h⟩
theorem wl5 {F : (Int32 → Int32 → Int32 → Int32 → Int32 → Mem → Prop) → (Int32 → Int32 → Int32 → Int32 → Int32 → Mem → Prop)} (I : Int32 → Int32 → Int32 → Int32 → Int32 → Mem → Prop) (v : Int32 → Int32 → Int32 → Int32 → Int32 → Mem → Nat) (hs : ∀ (k : Int32 → Int32 → Int32 → Int32 → Int32 → Mem → Prop) (x0 x1 x2 x3 x4 : Int32) (μ : Mem), I x0 x1 x2 x3 x4 μ → (∀ (y0 y1 y2 y3 y4 : Int32) (μ' : Mem), I y0 y1 y2 y3 y4 μ' → v y0 y1 y2 y3 y4 μ' < v x0 x1 x2 x3 x4 μ → k y0 y1 y2 y3 y4 μ') → F k x0 x1 x2 x3 x4 μ) (x0 x1 x2 x3 x4 : Int32) (μ : Mem) (h : I x0 x1 x2 x3 x4 μ) : ∃ n, itr (fun _ _ _ _ _ _ => False) F n x0 x1 x2 x3 x4 μ := by
  have key : ∀ (N : Nat) (x0 x1 x2 x3 x4 : Int32) (μ : Mem), v x0 x1 x2 x3 x4 μ < N → I x0 x1 x2 x3 x4 μ → itr (fun _ _ _ _ _ _ => False) F N x0 x1 x2 x3 x4 μ := by
    intro N
    induction N with
    | zero => intro x0 x1 x2 x3 x4 μ hv; omega
    | succ N ih => intro x0 x1 x2 x3 x4 μ hv hI; exact hs _ x0 x1 x2 x3 x4 μ hI (fun y0 y1 y2 y3 y4 μ' hI' hv' => ih y0 y1 y2 y3 y4 μ' (by omega) hI')
  exact ⟨v x0 x1 x2 x3 x4 μ + 1, key _ x0 x1 x2 x3 x4 μ (Nat.lt_succ_self _) h⟩
theorem wl6 {F : (Int32 → Int32 → Int32 → Int32 → Int32 → Int32 → Mem → Prop) → (Int32 → Int32 → Int32 → Int32 → Int32 → Int32 → Mem → Prop)} (I : Int32 → Int32 → Int32 → Int32 → Int32 → Int32 → Mem → Prop) (v : Int32 → Int32 → Int32 → Int32 → Int32 → Int32 → Mem → Nat) (hs : ∀ (k : Int32 → Int32 → Int32 → Int32 → Int32 → Int32 → Mem → Prop) (x0 x1 x2 x3 x4 x5 : Int32) (μ : Mem), I x0 x1 x2 x3 x4 x5 μ → (∀ (y0 y1 y2 y3 y4 y5 : Int32) (μ' : Mem), I y0 y1 y2 y3 y4 y5 μ' → v y0 y1 y2 y3 y4 y5 μ' < v x0 x1 x2 x3 x4 x5 μ → k y0 y1 y2 y3 y4 y5 μ') → F k x0 x1 x2 x3 x4 x5 μ) (x0 x1 x2 x3 x4 x5 : Int32) (μ : Mem) (h : I x0 x1 x2 x3 x4 x5 μ) : ∃ n, itr (fun _ _ _ _ _ _ _ => False) F n x0 x1 x2 x3 x4 x5 μ := by
  have key : ∀ (N : Nat) (x0 x1 x2 x3 x4 x5 : Int32) (μ : Mem), v x0 x1 x2 x3 x4 x5 μ < N → I x0 x1 x2 x3 x4 x5 μ → itr (fun _ _ _ _ _ _ _ => False) F N x0 x1 x2 x3 x4 x5 μ := by
    intro N
    induction N with
    | zero => intro x0 x1 x2 x3 x4 x5 μ hv; omega
    | succ N ih => intro x0 x1 x2 x3 x4 x5 μ hv hI; exact hs _ x0 x1 x2 x3 x4 x5 μ hI (fun y0 y1 y2 y3 y4 y5 μ' hI' hv' => ih y0 y1 y2 y3 y4 y5 μ' (by omega) hI')
  exact ⟨v x0 x1 x2 x3 x4 x5 μ + 1, key _ x0 x1 x2 x3 x4 x5 μ (Nat.lt_succ_self _) h⟩
