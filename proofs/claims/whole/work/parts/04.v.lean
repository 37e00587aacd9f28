/-! V: the machine's judgement W, its surroundings bundled. G: base address, class ids and field slots, array class ids. X: the method's surroundings. -/
abbrev Gl : Type := Nat × va_G × (Nat → ClassId)
def tyG (G : Gl) : List (ClassId × FieldType) := [(G.2.2 0, .int), (G.2.2 1, .long), (G.2.2 2, .boolean), (G.2.2 3, .char), (G.2.2 4, .object "SliceSolver$Problem")]
def Rf (G : Gl) (k : Nat) : Value := .ref (G.1 + k)
def aI (G : Gl) (n : Nat) (f : Nat → Int32) : va_E := .inl (G.2.2 0, n, .inl f)
def aL (G : Gl) (n : Nat) (f : Nat → Int64) : va_E := .inl (G.2.2 1, n, .inr (.inl f))
def aZ (G : Gl) (n : Nat) (f : Nat → Int32) : va_E := .inl (G.2.2 2, n, .inl f)
def aC (G : Gl) (n : Nat) (f : Nat → Int32) : va_E := .inl (G.2.2 3, n, .inl f)
def aP (G : Gl) (n : Nat) (f : Nat → Option Nat) : va_E := .inl (G.2.2 4, n, .inr (.inr (.inr (.inr (fun j => (f j).map (G.1 + ·))))))
def ob (ci : Nat) (fs : List Value) : va_E := .inr (ci, fs)
def bI (b : Bool) : Int32 := if b then 1 else 0
def mkW (b : Nat) (cs : List va_E) : va_W := cs.mapIdx (fun k e => (b + k, e))
theorem mkW_at (b : Nat) (cs : List va_E) (k : Nat) : (mkW b cs)[k]? = (cs[k]?).map (fun e => (b + k, e)) := by
  unfold mkW; rw [List.getElem?_mapIdx]
theorem mkW_get {b : Nat} {cs : List va_E} {k : Nat} {e : va_E} (h : cs[k]? = some e) : (mkW b cs)[k]? = some (b + k, e) := by rw [mkW_at, h]; rfl
theorem mkW_inv {b : Nat} {cs : List va_E} {k : Nat} {q : Nat × va_E} (h : (mkW b cs)[k]? = some q) : ∃ e, cs[k]? = some e ∧ q = (b + k, e) := by
  rw [mkW_at] at h
  cases hc : cs[k]? with
  | none => rw [hc] at h; cases h
  | some e => rw [hc] at h; exact ⟨e, rfl, (Option.some.inj h).symm⟩
theorem mkW_set (b : Nat) (cs : List va_E) (k : Nat) (e : va_E) : (mkW b cs).set k (b + k, e) = mkW b (cs.set k e) := by
  apply List.ext_getElem?
  intro j
  rw [mkW_at, List.getElem?_set, List.getElem?_set, mkW_at]
  by_cases hj : k = j
  · subst hj
    simp only [if_true]
    have hl : (mkW b cs).length = cs.length := by unfold mkW; simp
    rw [hl]
    by_cases hk : k < cs.length
    · simp [hk]
    · simp [hk]
  · simp [hj]
theorem mkW_D (b : Nat) (cs : List va_E) : va_D (fun q => b ≤ q) (mkW b cs) := by
  refine ⟨fun i j p q hi hj hpq => ?_, fun k q hk => ?_⟩
  · obtain ⟨e1, -, rfl⟩ := mkW_inv hi
    obtain ⟨e2, -, rfl⟩ := mkW_inv hj
    have : b + i = b + j := hpq
    omega
  · obtain ⟨e1, -, rfl⟩ := mkW_inv hk
    show b ≤ b + k
    omega
theorem mkW_app (b : Nat) (cs : List va_E) (e : va_E) : mkW b cs ++ [(b + cs.length, e)] = mkW b (cs ++ [e]) := by
  unfold mkW; rw [List.mapIdx_append]; simp
def TB : List Cond := lw_tbl.filter goodWord
theorem TB_good {w : Cond} (h : w ∈ TB) : (w.onTables && w.keeps) = true ∨ ∃ ty, w = .arrayClass ty := good_of_word (List.mem_filter.mp h).2
theorem TB_in {w : Cond} (h : w ∈ TB) : w ∈ lw_tbl := (List.mem_filter.mp h).1
theorem TB_of {w : Cond} {i : Nat} (h : lw_tbl[i]? = some w) (hg : goodWord w = true) : w ∈ TB := List.mem_filter.mpr ⟨List.mem_of_getElem? h, hg⟩
/-- the links to private members of a nest mate: (class, pool entry, method) -/
def nestL : List (String × Nat × MethodName) := [("SliceSolver", 11, ⟨"SliceSolver$Text", "<init>", "()V"⟩), ("SliceSolver$Reader", 11, ⟨"SliceSolver$Term", "<init>", "()V"⟩), ("SliceSolver", 27, ⟨"SliceSolver$Problem", "<init>", "()V"⟩), ("SliceSolver$History", 17, ⟨"SliceSolver$Problem", "<init>", "()V"⟩), ("SliceSolver", 50, ⟨"SliceSolver$Cuts", "<init>", "()V"⟩), ("SliceSolver", 67, ⟨"SliceSolver$Model", "<init>", "()V"⟩), ("SliceSolver$Problem", 27, ⟨"SliceSolver", "isVariable", "(I)Z"⟩), ("SliceSolver$Reader", 111, ⟨"SliceSolver", "nodeOf", "(II)I"⟩), ("SliceSolver$Cuts", 54, ⟨"SliceSolver", "isConstantNode", "(I)Z"⟩), ("SliceSolver$Cuts", 62, ⟨"SliceSolver", "variableOf", "(I)I"⟩), ("SliceSolver$Cuts", 65, ⟨"SliceSolver", "bitOf", "(I)I"⟩), ("SliceSolver$Classes", 31, ⟨"SliceSolver", "isConstantNode", "(I)Z"⟩)]
def nestW (q : String × Nat × MethodName) : Cond := .methodLinkNest q.1 q.2.1 q.2.2 "SliceSolver"
