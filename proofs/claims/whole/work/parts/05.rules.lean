/-! The surroundings of a method in one tuple; V; rules of V, an instruction each. -/
abbrev Cx0 : Type := Program × Launch × Env × Room × State × MethodId × Array Value × List Frame × Method × Code × (State → Prop)
abbrev xR (X : Cx0) : Room := X.2.2.2.1
abbrev xS (X : Cx0) : State := X.2.2.2.2.1
abbrev xM (X : Cx0) : MethodId := X.2.2.2.2.2.1
abbrev xA (X : Cx0) : Array Value := X.2.2.2.2.2.2.1
abbrev xB (X : Cx0) : List Frame := X.2.2.2.2.2.2.2.1
abbrev xMe (X : Cx0) : Method := X.2.2.2.2.2.2.2.2.1
abbrev xC (X : Cx0) : Code := X.2.2.2.2.2.2.2.2.2.1
abbrev xQ (X : Cx0) : State → Prop := X.2.2.2.2.2.2.2.2.2.2
def strK (G : Gl) (U : State) (H : Heap) : Prop :=
  vk_S 2 [4, 3] [[98, 105, 116, 115], [110, 111, 116]] (fun i => G.2.2 (10 + i)) (fun i => G.2.2 (12 + i)) (fun q => G.1 ≤ q) U H ∧ vk_R "SliceSolver$Text" 47 "bits" (G.2.2 10) U ∧ vk_R "SliceSolver$Text" 53 "not" (G.2.2 11) U ∧ va_Z "java/lang/String" "COMPACT_STRINGS" "Z" (.int 1) (fun q => G.1 ≤ q) U H ∧ va_Zq "jdk/internal/util/Preconditions" "SIOOBE_FORMATTER" "Ljava/util/function/BiFunction;" (fun q => G.1 ≤ q) U H
def Ks (G : Gl) (U : State) : Prop := va_K G.2.1 vwCl (tyG G) U ∧ (∀ q ∈ nestL, va_Nw (nestW q) U) ∧ va_AO "SliceSolver$Problem" U ∧ strK G U U.heap
def Cx (G : Gl) (X : Cx0) (cc : ByteArray) (nL : Nat) (own : String) (fr lo mc ms : Nat) : Prop :=
  X.1.tables.exec = Jvm.exec ∧ (xC X).code = cc ∧ (xC X).maxLocals = nL ∧ (xS X).vm.findClass own = some (xM X).cls ∧ (∀ w ∈ TB, w.before (xA X) (xS X) = true) ∧ Ks G (xS X) ∧ (xR X).frames = fr ∧ (xR X).locals = lo ∧ (xR X).cells = mc ∧ (xR X).slots = ms
def V (G : Gl) (X : Cx0) (nL ce sl pc : Nat) (lv : List (Nat × Value)) (st : List Value) (cs : List va_E) : Prop :=
  ∀ (H : Heap) (locs : List Loc) (ls : Array Slot), va_P G.2.1 vwCl (mkW G.1 cs) H → va_S (fun q => G.1 ≤ q) (xS X).heap H locs → lv_has ls nL lv → W X.1 X.2.1 X.2.2.1 (xR X) (xS X) (xM X) (xA X) (xB X) (xMe X) (xC X) H locs ce sl (xQ X) (F0 (xM X) pc ls st)
def lget (lv : List (Nat × Value)) (i : Nat) : Option Value := match lv with
  | [] => none
  | q :: r => if q.1 = i then some q.2 else lget r i
theorem lget_mem {i : Nat} {v : Value} : ∀ {lv : List (Nat × Value)}, lget lv i = some v → (i, v) ∈ lv
  | [], h => by cases h
  | q :: r, h => by
    unfold lget at h
    by_cases hq : q.1 = i
    · rw [if_pos hq] at h
      obtain ⟨a, b⟩ := q
      cases hq; cases h
      exact List.mem_cons_self
    · rw [if_neg hq] at h
      exact List.mem_cons_of_mem _ (lget_mem h)
theorem lget_at {ls : Array Slot} {nL i : Nat} {lv : List (Nat × Value)} {v : Value} (h : lv_has ls nL lv) (hi : lget lv i = some v) : ls[i]? = some (.val v) := h.2.2 (i, v) (lget_mem hi)
def lset1 (lv : List (Nat × Value)) (i : Nat) (v : Value) : List (Nat × Value) := (i, v) :: lv.filter (fun q => !(q.1 == i) && !(q.1 + 1 == i && q.2.category == 2))
def lset2 (lv : List (Nat × Value)) (i : Nat) (v : Value) : List (Nat × Value) := (i, v) :: lv.filter (fun q => !(q.1 == i) && (!(q.1 == i + 1) && !(q.1 + 1 == i && q.2.category == 2)))
def rem32 (x y : Int32) : Int32 := x - x / y * y
def shl32 (x y : Int32) : Int32 := x <<< (y &&& 31)
def shr32 (x y : Int32) : Int32 := x >>> (y &&& 31)
def shl64 (x : Int64) (y : Int32) : Int64 := x <<< (y.toInt64 &&& 63)
section
variable {G : Gl} {X : Cx0} {cc : ByteArray} {nL fr lo mc ms ce sl pc : Nat} {own : String} {lv : List (Nat × Value)} {st : List Value} {cs : List va_E}
theorem V.lvs {lv' : List (Nat × Value)} (h : lv'.map (fun q => lget lv q.1) = lv'.map (fun q => some q.2)) (k : V G X nL ce sl pc lv' st cs) : V G X nL ce sl pc lv st cs := fun H locs ls a1 a2 a3 => by
  refine k H locs ls a1 a2 ⟨a3.1, a3.2.1, fun q hq => ?_⟩
  obtain ⟨i, hi⟩ := List.getElem?_of_mem hq
  have h1 : (lv'.map (fun q => lget lv q.1))[i]? = (lv'.map (fun q => some q.2))[i]? := by rw [h]
  rw [List.getElem?_map, List.getElem?_map, hi] at h1
  exact lget_at a3 (Option.some.inj h1)
theorem V.eq {st' : List Value} {cs' : List va_E} {pc' : Nat} (k : V G X nL ce sl pc' lv st' cs') (h1 : st = st') (h2 : cs = cs') (h3 : pc = pc') : V G X nL ce sl pc lv st cs := by subst h1; subst h2; subst h3; exact k
theorem V.topi {x : Int32} (k : ∀ y : Int32, y = x → V G X nL ce sl pc lv (.int y :: st) cs) : V G X nL ce sl pc lv (.int x :: st) cs := k x rfl

theorem V.iadd (C : Cx G X cc nL own fr lo mc ms) {x y : Int32} (d : decode cc pc = .ok (.iadd, 1)) (k : V G X nL ce sl (pc + 1) lv (.int (x + y) :: st) cs) : V G X nL ce sl pc lv (.int y :: .int x :: st) cs :=
  fun H locs ls a1 a2 a3 => lv_iadd C.1 C.2.1 d (k H locs ls a1 a2 a3)
theorem V.isub (C : Cx G X cc nL own fr lo mc ms) {x y : Int32} (d : decode cc pc = .ok (.isub, 1)) (k : V G X nL ce sl (pc + 1) lv (.int (x - y) :: st) cs) : V G X nL ce sl pc lv (.int y :: .int x :: st) cs :=
  fun H locs ls a1 a2 a3 => lv_isub C.1 C.2.1 d (k H locs ls a1 a2 a3)
theorem V.imul (C : Cx G X cc nL own fr lo mc ms) {x y : Int32} (d : decode cc pc = .ok (.imul, 1)) (k : V G X nL ce sl (pc + 1) lv (.int (x * y) :: st) cs) : V G X nL ce sl pc lv (.int y :: .int x :: st) cs :=
  fun H locs ls a1 a2 a3 => lv_imul C.1 C.2.1 d (k H locs ls a1 a2 a3)
theorem V.iand (C : Cx G X cc nL own fr lo mc ms) {x y : Int32} (d : decode cc pc = .ok (.iand, 1)) (k : V G X nL ce sl (pc + 1) lv (.int (x &&& y) :: st) cs) : V G X nL ce sl pc lv (.int y :: .int x :: st) cs :=
  fun H locs ls a1 a2 a3 => lv_iand C.1 C.2.1 d (k H locs ls a1 a2 a3)
theorem V.ior (C : Cx G X cc nL own fr lo mc ms) {x y : Int32} (d : decode cc pc = .ok (.ior, 1)) (k : V G X nL ce sl (pc + 1) lv (.int (x ||| y) :: st) cs) : V G X nL ce sl pc lv (.int y :: .int x :: st) cs :=
  fun H locs ls a1 a2 a3 => lv_ior C.1 C.2.1 d (k H locs ls a1 a2 a3)
theorem V.ixor (C : Cx G X cc nL own fr lo mc ms) {x y : Int32} (d : decode cc pc = .ok (.ixor, 1)) (k : V G X nL ce sl (pc + 1) lv (.int (x ^^^ y) :: st) cs) : V G X nL ce sl pc lv (.int y :: .int x :: st) cs :=
  fun H locs ls a1 a2 a3 => lv_ixor C.1 C.2.1 d (k H locs ls a1 a2 a3)
theorem V.ishl (C : Cx G X cc nL own fr lo mc ms) {x y : Int32} (d : decode cc pc = .ok (.ishl, 1)) (k : V G X nL ce sl (pc + 1) lv (.int (shl32 x y) :: st) cs) : V G X nL ce sl pc lv (.int y :: .int x :: st) cs :=
  fun H locs ls a1 a2 a3 => lv_ishl C.1 C.2.1 d (k H locs ls a1 a2 a3)
theorem V.ishr (C : Cx G X cc nL own fr lo mc ms) {x y : Int32} (d : decode cc pc = .ok (.ishr, 1)) (k : V G X nL ce sl (pc + 1) lv (.int (shr32 x y) :: st) cs) : V G X nL ce sl pc lv (.int y :: .int x :: st) cs :=
  fun H locs ls a1 a2 a3 => lv_ishr C.1 C.2.1 d (k H locs ls a1 a2 a3)
theorem V.idiv (C : Cx G X cc nL own fr lo mc ms) {x y : Int32} (hne : ¬ y = 0) (d : decode cc pc = .ok (.idiv, 1)) (k : V G X nL ce sl (pc + 1) lv (.int (x / y) :: st) cs) : V G X nL ce sl pc lv (.int y :: .int x :: st) cs :=
  fun H locs ls a1 a2 a3 => lv_idiv C.1 C.2.1 d hne (k H locs ls a1 a2 a3)
theorem V.irem (C : Cx G X cc nL own fr lo mc ms) {x y : Int32} (hne : ¬ y = 0) (d : decode cc pc = .ok (.irem, 1)) (k : V G X nL ce sl (pc + 1) lv (.int (rem32 x y) :: st) cs) : V G X nL ce sl pc lv (.int y :: .int x :: st) cs :=
  fun H locs ls a1 a2 a3 => lv_irem C.1 C.2.1 d hne (k H locs ls a1 a2 a3)
theorem V.land (C : Cx G X cc nL own fr lo mc ms) {x y : Int64} (d : decode cc pc = .ok (.land, 1)) (k : V G X nL ce sl (pc + 1) lv (.long (x &&& y) :: st) cs) : V G X nL ce sl pc lv (.long y :: .long x :: st) cs :=
  fun H locs ls a1 a2 a3 => lv_land C.1 C.2.1 d (k H locs ls a1 a2 a3)
theorem V.lor (C : Cx G X cc nL own fr lo mc ms) {x y : Int64} (d : decode cc pc = .ok (.lor, 1)) (k : V G X nL ce sl (pc + 1) lv (.long (x ||| y) :: st) cs) : V G X nL ce sl pc lv (.long y :: .long x :: st) cs :=
  fun H locs ls a1 a2 a3 => lv_lor C.1 C.2.1 d (k H locs ls a1 a2 a3)
theorem V.lxor (C : Cx G X cc nL own fr lo mc ms) {x y : Int64} (d : decode cc pc = .ok (.lxor, 1)) (k : V G X nL ce sl (pc + 1) lv (.long (x ^^^ y) :: st) cs) : V G X nL ce sl pc lv (.long y :: .long x :: st) cs :=
  fun H locs ls a1 a2 a3 => lv_lxor C.1 C.2.1 d (k H locs ls a1 a2 a3)
theorem V.lshl (C : Cx G X cc nL own fr lo mc ms) {x : Int64} {y : Int32} (d : decode cc pc = .ok (.lshl, 1)) (k : V G X nL ce sl (pc + 1) lv (.long (shl64 x y) :: st) cs) : V G X nL ce sl pc lv (.int y :: .long x :: st) cs :=
  fun H locs ls a1 a2 a3 => lv_lshl C.1 C.2.1 d rfl (k H locs ls a1 a2 a3)
theorem V.lcmp (C : Cx G X cc nL own fr lo mc ms) {x y : Int64} (d : decode cc pc = .ok (.lcmp, 1)) (k : V G X nL ce sl (pc + 1) lv (.int (lg_cmp x y) :: st) cs) : V G X nL ce sl pc lv (.long y :: .long x :: st) cs :=
  fun H locs ls a1 a2 a3 => W.lcmp C.1 C.2.1 d (k H locs ls a1 a2 a3)
theorem V.i2c (C : Cx G X cc nL own fr lo mc ms) {x : Int32} (v : Int32) (hv : (x.toUInt32 % 65536).toInt32 = v) (d : decode cc pc = .ok (.i2c, 1)) (k : V G X nL ce sl (pc + 1) lv (.int v :: st) cs) : V G X nL ce sl pc lv (.int x :: st) cs :=
  fun H locs ls a1 a2 a3 => lv_i2c C.1 C.2.1 d hv (k H locs ls a1 a2 a3)
theorem V.iconst (C : Cx G X cc nL own fr lo mc ms) {n : Int} (v : Int32) (hv : Int32.ofInt n = v) (d : decode cc pc = .ok (.iconst n, 1)) (k : V G X nL ce sl (pc + 1) lv (.int v :: st) cs) : V G X nL ce sl pc lv st cs :=
  fun H locs ls a1 a2 a3 => lv_iconst C.1 C.2.1 d hv (k H locs ls a1 a2 a3)
theorem V.bipush (C : Cx G X cc nL own fr lo mc ms) {n : Int} (v : Int32) (hv : (Int8.ofInt n).toInt32 = v) (d : decode cc pc = .ok (.bipush n, 2)) (k : V G X nL ce sl (pc + 2) lv (.int v :: st) cs) : V G X nL ce sl pc lv st cs :=
  fun H locs ls a1 a2 a3 => lv_bipush C.1 C.2.1 d hv (k H locs ls a1 a2 a3)
theorem V.sipush (C : Cx G X cc nL own fr lo mc ms) {n : Int} (v : Int32) (hv : (Int16.ofInt n).toInt32 = v) (d : decode cc pc = .ok (.sipush n, 3)) (k : V G X nL ce sl (pc + 3) lv (.int v :: st) cs) : V G X nL ce sl pc lv st cs :=
  fun H locs ls a1 a2 a3 => lv_sipush C.1 C.2.1 d hv (k H locs ls a1 a2 a3)
theorem V.lconst (C : Cx G X cc nL own fr lo mc ms) {n : Fin 2} (v : Int64) (hv : Int64.ofNat (n : Nat) = v) (d : decode cc pc = .ok (.lconst n, 1)) (k : V G X nL ce sl (pc + 1) lv (.long v :: st) cs) : V G X nL ce sl pc lv st cs :=
  fun H locs ls a1 a2 a3 => lv_lconst C.1 C.2.1 d hv (k H locs ls a1 a2 a3)
theorem V.ldc (C : Cx G X cc nL own fr lo mc ms) {i : Nat} {v : Int32} (hw : Cond.constant own i v ∈ TB) (d : decode cc pc = .ok (.ldc i, 2)) (k : V G X nL ce sl (pc + 2) lv (.int v :: st) cs) : V G X nL ce sl pc lv st cs :=
  fun H locs ls a1 a2 a3 => lv_ldc C.1 C.2.1 C.2.2.2.1 (C.2.2.2.2.1 _ hw) d (k H locs ls a1 a2 a3)
theorem V.ldc2 (C : Cx G X cc nL own fr lo mc ms) {i : Nat} {v : Int64} (hw : Cond.constantLong own i v ∈ TB) (d : decode cc pc = .ok (.ldc2_w i, 3)) (k : V G X nL ce sl (pc + 3) lv (.long v :: st) cs) : V G X nL ce sl pc lv st cs :=
  fun H locs ls a1 a2 a3 => lv_ldc2 C.1 C.2.1 C.2.2.2.1 (C.2.2.2.2.1 _ hw) d (k H locs ls a1 a2 a3)
theorem V.dup (C : Cx G X cc nL own fr lo mc ms) {v : Value} (hv : v.category = 1) (d : decode cc pc = .ok (.dup, 1)) (k : V G X nL ce sl (pc + 1) lv (v :: v :: st) cs) : V G X nL ce sl pc lv (v :: st) cs :=
  fun H locs ls a1 a2 a3 => lv_dup C.1 C.2.1 d hv (k H locs ls a1 a2 a3)
theorem V.dup2 (C : Cx G X cc nL own fr lo mc ms) {v w : Value} (hv : v.category = 1) (hw : w.category = 1) (d : decode cc pc = .ok (.dup2, 1)) (k : V G X nL ce sl (pc + 1) lv (v :: w :: v :: w :: st) cs) : V G X nL ce sl pc lv (v :: w :: st) cs :=
  fun H locs ls a1 a2 a3 => lv_dup2_11 C.1 C.2.1 d hv hw (k H locs ls a1 a2 a3)
theorem V.pop (C : Cx G X cc nL own fr lo mc ms) {v : Value} (hv : v.category = 1) (d : decode cc pc = .ok (.pop, 1)) (k : V G X nL ce sl (pc + 1) lv st cs) : V G X nL ce sl pc lv (v :: st) cs :=
  fun H locs ls a1 a2 a3 => lv_pop C.1 C.2.1 d hv (k H locs ls a1 a2 a3)
theorem V.iload_n (C : Cx G X cc nL own fr lo mc ms) (i : Nat) {k0 : Fin 4} {x : Int32} (hi : (k0 : Nat) = i) (h : lget lv i = some (.int x)) (d : decode cc pc = .ok (.iload_n k0, 1)) (k : V G X nL ce sl (pc + 1) lv (.int x :: st) cs) : V G X nL ce sl pc lv st cs :=
  fun H locs ls a1 a2 a3 => lv_iload_n C.1 C.2.1 d hi (lget_at a3 h) (k H locs ls a1 a2 a3)
theorem V.iload (C : Cx G X cc nL own fr lo mc ms) {i : Nat} {x : Int32} (h : lget lv i = some (.int x)) (d : decode cc pc = .ok (.iload i, 2)) (k : V G X nL ce sl (pc + 2) lv (.int x :: st) cs) : V G X nL ce sl pc lv st cs :=
  fun H locs ls a1 a2 a3 => lv_iload C.1 C.2.1 d (lget_at a3 h) (k H locs ls a1 a2 a3)
theorem V.istore_n (C : Cx G X cc nL own fr lo mc ms) (i : Nat) {k0 : Fin 4} {x : Int32} (d : decode cc pc = .ok (.istore_n k0, 1)) (hi : (k0 : Nat) = i) (hn : i < nL) (k : V G X nL ce sl (pc + 1) (lset1 lv i (.int x)) st cs) : V G X nL ce sl pc lv (.int x :: st) cs :=
  fun H locs ls a1 a2 a3 => lv_istore_n C.1 C.2.1 d hi a3 hn rfl (fun ls a3 => k H locs ls a1 a2 a3)
theorem V.istore (C : Cx G X cc nL own fr lo mc ms) {i : Nat} {x : Int32} (d : decode cc pc = .ok (.istore i, 2)) (hn : i < nL) (k : V G X nL ce sl (pc + 2) (lset1 lv i (.int x)) st cs) : V G X nL ce sl pc lv (.int x :: st) cs :=
  fun H locs ls a1 a2 a3 => lv_istore C.1 C.2.1 d a3 hn rfl (fun ls a3 => k H locs ls a1 a2 a3)
theorem V.lload_n (C : Cx G X cc nL own fr lo mc ms) (i : Nat) {k0 : Fin 4} {x : Int64} (hi : (k0 : Nat) = i) (h : lget lv i = some (.long x)) (d : decode cc pc = .ok (.lload_n k0, 1)) (k : V G X nL ce sl (pc + 1) lv (.long x :: st) cs) : V G X nL ce sl pc lv st cs :=
  fun H locs ls a1 a2 a3 => lv_lload_n C.1 C.2.1 d hi (lget_at a3 h) (k H locs ls a1 a2 a3)
theorem V.lload (C : Cx G X cc nL own fr lo mc ms) {i : Nat} {x : Int64} (h : lget lv i = some (.long x)) (d : decode cc pc = .ok (.lload i, 2)) (k : V G X nL ce sl (pc + 2) lv (.long x :: st) cs) : V G X nL ce sl pc lv st cs :=
  fun H locs ls a1 a2 a3 => lv_lload C.1 C.2.1 d (lget_at a3 h) (k H locs ls a1 a2 a3)
theorem V.lstore_n (C : Cx G X cc nL own fr lo mc ms) (i : Nat) {k0 : Fin 4} {x : Int64} (d : decode cc pc = .ok (.lstore_n k0, 1)) (hi : (k0 : Nat) = i) (hn : i + 1 < nL) (k : V G X nL ce sl (pc + 1) (lset2 lv i (.long x)) st cs) : V G X nL ce sl pc lv (.long x :: st) cs :=
  fun H locs ls a1 a2 a3 => lv_lstore_n C.1 C.2.1 d hi a3 hn rfl (fun ls a3 => k H locs ls a1 a2 a3)
theorem V.lstore (C : Cx G X cc nL own fr lo mc ms) {i : Nat} {x : Int64} (d : decode cc pc = .ok (.lstore i, 2)) (hn : i + 1 < nL) (k : V G X nL ce sl (pc + 2) (lset2 lv i (.long x)) st cs) : V G X nL ce sl pc lv (.long x :: st) cs :=
  fun H locs ls a1 a2 a3 => lv_lstore C.1 C.2.1 d a3 hn rfl (fun ls a3 => k H locs ls a1 a2 a3)
theorem V.aload_n (C : Cx G X cc nL own fr lo mc ms) (i : Nat) {k0 : Fin 4} {x : Nat} (hi : (k0 : Nat) = i) (h : lget lv i = some (Rf G x)) (d : decode cc pc = .ok (.aload_n k0, 1)) (k : V G X nL ce sl (pc + 1) lv (Rf G x :: st) cs) : V G X nL ce sl pc lv st cs :=
  fun H locs ls a1 a2 a3 => lv_aload_n C.1 C.2.1 d hi (lget_at a3 h) (k H locs ls a1 a2 a3)
theorem V.aload (C : Cx G X cc nL own fr lo mc ms) {i : Nat} {x : Nat} (h : lget lv i = some (Rf G x)) (d : decode cc pc = .ok (.aload i, 2)) (k : V G X nL ce sl (pc + 2) lv (Rf G x :: st) cs) : V G X nL ce sl pc lv st cs :=
  fun H locs ls a1 a2 a3 => lv_aload C.1 C.2.1 d (lget_at a3 h) (k H locs ls a1 a2 a3)
theorem V.astore_n (C : Cx G X cc nL own fr lo mc ms) (i : Nat) {k0 : Fin 4} {x : Nat} (d : decode cc pc = .ok (.astore_n k0, 1)) (hi : (k0 : Nat) = i) (hn : i < nL) (k : V G X nL ce sl (pc + 1) (lset1 lv i (Rf G x)) st cs) : V G X nL ce sl pc lv (Rf G x :: st) cs :=
  fun H locs ls a1 a2 a3 => lv_astore_n C.1 C.2.1 d hi a3 hn rfl (fun ls a3 => k H locs ls a1 a2 a3)
theorem V.astore (C : Cx G X cc nL own fr lo mc ms) {i : Nat} {x : Nat} (d : decode cc pc = .ok (.astore i, 2)) (hn : i < nL) (k : V G X nL ce sl (pc + 2) (lset1 lv i (Rf G x)) st cs) : V G X nL ce sl pc lv (Rf G x :: st) cs :=
  fun H locs ls a1 a2 a3 => lv_astore C.1 C.2.1 d a3 hn rfl (fun ls a3 => k H locs ls a1 a2 a3)
theorem V.rload_n (C : Cx G X cc nL own fr lo mc ms) (i : Nat) {k0 : Fin 4} {x : Nat} (hi : (k0 : Nat) = i) (h : lget lv i = some (.ref x)) (d : decode cc pc = .ok (.aload_n k0, 1)) (k : V G X nL ce sl (pc + 1) lv (.ref x :: st) cs) : V G X nL ce sl pc lv st cs :=
  fun H locs ls a1 a2 a3 => lv_aload_n C.1 C.2.1 d hi (lget_at a3 h) (k H locs ls a1 a2 a3)
theorem V.rload (C : Cx G X cc nL own fr lo mc ms) {i : Nat} {x : Nat} (h : lget lv i = some (.ref x)) (d : decode cc pc = .ok (.aload i, 2)) (k : V G X nL ce sl (pc + 2) lv (.ref x :: st) cs) : V G X nL ce sl pc lv st cs :=
  fun H locs ls a1 a2 a3 => lv_aload C.1 C.2.1 d (lget_at a3 h) (k H locs ls a1 a2 a3)
theorem V.iinc (C : Cx G X cc nL own fr lo mc ms) {i : Nat} {n : Int} {x : Int32} (v : Int32) (d : decode cc pc = .ok (.iinc i n, 3)) (h : lget lv i = some (.int x)) (hv : x + Int32.ofInt n = v) (hn : i < nL) (k : V G X nL ce sl (pc + 3) (lset1 lv i (.int v)) st cs) : V G X nL ce sl pc lv st cs :=
  fun H locs ls a1 a2 a3 => by
    obtain ⟨j, hj⟩ := List.getElem?_of_mem (lget_mem h)
    exact lv_iinc C.1 C.2.1 d a3 hj hv hn rfl (fun ls a3 => k H locs ls a1 a2 a3)
theorem V.if_eq (C : Cx G X cc nL own fr lo mc ms) {x : Int32} {off : Int} (tgt : Nat) (d : decode cc pc = .ok (.ifCond .eq off, 3)) (ht : (pc : Int) + off = (tgt : Int)) (kt : (x = 0) → V G X nL ce sl tgt lv st cs) (kf : ¬ (x = 0) → V G X nL ce sl (pc + 3) lv st cs) : V G X nL ce sl pc lv (.int x :: st) cs :=
  fun H locs ls a1 a2 a3 => lv_if_eq C.1 C.2.1 d ht (fun h => kt h H locs ls a1 a2 a3) (fun h => kf h H locs ls a1 a2 a3)
theorem V.icmp_eq (C : Cx G X cc nL own fr lo mc ms) {x y : Int32} {off : Int} (tgt : Nat) (d : decode cc pc = .ok (.if_icmp .eq off, 3)) (ht : (pc : Int) + off = (tgt : Int)) (kt : (x = y) → V G X nL ce sl tgt lv st cs) (kf : ¬ (x = y) → V G X nL ce sl (pc + 3) lv st cs) : V G X nL ce sl pc lv (.int y :: .int x :: st) cs :=
  fun H locs ls a1 a2 a3 => lv_icmp_eq C.1 C.2.1 d ht (fun h => kt h H locs ls a1 a2 a3) (fun h => kf h H locs ls a1 a2 a3)
theorem V.if_lt (C : Cx G X cc nL own fr lo mc ms) {x : Int32} {off : Int} (tgt : Nat) (d : decode cc pc = .ok (.ifCond .lt off, 3)) (ht : (pc : Int) + off = (tgt : Int)) (kt : (x < 0) → V G X nL ce sl tgt lv st cs) (kf : ¬ (x < 0) → V G X nL ce sl (pc + 3) lv st cs) : V G X nL ce sl pc lv (.int x :: st) cs :=
  fun H locs ls a1 a2 a3 => lv_if_lt C.1 C.2.1 d ht (fun h => kt h H locs ls a1 a2 a3) (fun h => kf h H locs ls a1 a2 a3)
theorem V.icmp_lt (C : Cx G X cc nL own fr lo mc ms) {x y : Int32} {off : Int} (tgt : Nat) (d : decode cc pc = .ok (.if_icmp .lt off, 3)) (ht : (pc : Int) + off = (tgt : Int)) (kt : (x < y) → V G X nL ce sl tgt lv st cs) (kf : ¬ (x < y) → V G X nL ce sl (pc + 3) lv st cs) : V G X nL ce sl pc lv (.int y :: .int x :: st) cs :=
  fun H locs ls a1 a2 a3 => lv_icmp_lt C.1 C.2.1 d ht (fun h => kt h H locs ls a1 a2 a3) (fun h => kf h H locs ls a1 a2 a3)
theorem V.if_ge (C : Cx G X cc nL own fr lo mc ms) {x : Int32} {off : Int} (tgt : Nat) (d : decode cc pc = .ok (.ifCond .ge off, 3)) (ht : (pc : Int) + off = (tgt : Int)) (kt : (x ≥ 0) → V G X nL ce sl tgt lv st cs) (kf : ¬ (x ≥ 0) → V G X nL ce sl (pc + 3) lv st cs) : V G X nL ce sl pc lv (.int x :: st) cs :=
  fun H locs ls a1 a2 a3 => lv_if_ge C.1 C.2.1 d ht (fun h => kt h H locs ls a1 a2 a3) (fun h => kf h H locs ls a1 a2 a3)
theorem V.icmp_ge (C : Cx G X cc nL own fr lo mc ms) {x y : Int32} {off : Int} (tgt : Nat) (d : decode cc pc = .ok (.if_icmp .ge off, 3)) (ht : (pc : Int) + off = (tgt : Int)) (kt : (x ≥ y) → V G X nL ce sl tgt lv st cs) (kf : ¬ (x ≥ y) → V G X nL ce sl (pc + 3) lv st cs) : V G X nL ce sl pc lv (.int y :: .int x :: st) cs :=
  fun H locs ls a1 a2 a3 => lv_icmp_ge C.1 C.2.1 d ht (fun h => kt h H locs ls a1 a2 a3) (fun h => kf h H locs ls a1 a2 a3)
theorem V.if_gt (C : Cx G X cc nL own fr lo mc ms) {x : Int32} {off : Int} (tgt : Nat) (d : decode cc pc = .ok (.ifCond .gt off, 3)) (ht : (pc : Int) + off = (tgt : Int)) (kt : (x > 0) → V G X nL ce sl tgt lv st cs) (kf : ¬ (x > 0) → V G X nL ce sl (pc + 3) lv st cs) : V G X nL ce sl pc lv (.int x :: st) cs :=
  fun H locs ls a1 a2 a3 => lv_if_gt C.1 C.2.1 d ht (fun h => kt h H locs ls a1 a2 a3) (fun h => kf h H locs ls a1 a2 a3)
theorem V.icmp_gt (C : Cx G X cc nL own fr lo mc ms) {x y : Int32} {off : Int} (tgt : Nat) (d : decode cc pc = .ok (.if_icmp .gt off, 3)) (ht : (pc : Int) + off = (tgt : Int)) (kt : (x > y) → V G X nL ce sl tgt lv st cs) (kf : ¬ (x > y) → V G X nL ce sl (pc + 3) lv st cs) : V G X nL ce sl pc lv (.int y :: .int x :: st) cs :=
  fun H locs ls a1 a2 a3 => lv_icmp_gt C.1 C.2.1 d ht (fun h => kt h H locs ls a1 a2 a3) (fun h => kf h H locs ls a1 a2 a3)
theorem V.if_le (C : Cx G X cc nL own fr lo mc ms) {x : Int32} {off : Int} (tgt : Nat) (d : decode cc pc = .ok (.ifCond .le off, 3)) (ht : (pc : Int) + off = (tgt : Int)) (kt : (x ≤ 0) → V G X nL ce sl tgt lv st cs) (kf : ¬ (x ≤ 0) → V G X nL ce sl (pc + 3) lv st cs) : V G X nL ce sl pc lv (.int x :: st) cs :=
  fun H locs ls a1 a2 a3 => lv_if_le C.1 C.2.1 d ht (fun h => kt h H locs ls a1 a2 a3) (fun h => kf h H locs ls a1 a2 a3)
theorem V.icmp_le (C : Cx G X cc nL own fr lo mc ms) {x y : Int32} {off : Int} (tgt : Nat) (d : decode cc pc = .ok (.if_icmp .le off, 3)) (ht : (pc : Int) + off = (tgt : Int)) (kt : (x ≤ y) → V G X nL ce sl tgt lv st cs) (kf : ¬ (x ≤ y) → V G X nL ce sl (pc + 3) lv st cs) : V G X nL ce sl pc lv (.int y :: .int x :: st) cs :=
  fun H locs ls a1 a2 a3 => lv_icmp_le C.1 C.2.1 d ht (fun h => kt h H locs ls a1 a2 a3) (fun h => kf h H locs ls a1 a2 a3)
theorem V.if_ne (C : Cx G X cc nL own fr lo mc ms) {x : Int32} {off : Int} (tgt : Nat) (d : decode cc pc = .ok (.ifCond .ne off, 3)) (ht : (pc : Int) + off = (tgt : Int)) (kt : ¬ x = 0 → V G X nL ce sl tgt lv st cs) (kf : x = 0 → V G X nL ce sl (pc + 3) lv st cs) : V G X nL ce sl pc lv (.int x :: st) cs :=
  fun H locs ls a1 a2 a3 => lv_if_ne C.1 C.2.1 d ht (fun h => kt h H locs ls a1 a2 a3) (fun h => kf h H locs ls a1 a2 a3)
theorem V.icmp_ne (C : Cx G X cc nL own fr lo mc ms) {x y : Int32} {off : Int} (tgt : Nat) (d : decode cc pc = .ok (.if_icmp .ne off, 3)) (ht : (pc : Int) + off = (tgt : Int)) (kt : ¬ x = y → V G X nL ce sl tgt lv st cs) (kf : x = y → V G X nL ce sl (pc + 3) lv st cs) : V G X nL ce sl pc lv (.int y :: .int x :: st) cs :=
  fun H locs ls a1 a2 a3 => lv_icmp_ne C.1 C.2.1 d ht (fun h => kt h H locs ls a1 a2 a3) (fun h => kf h H locs ls a1 a2 a3)
theorem V.goto (C : Cx G X cc nL own fr lo mc ms) {off : Int} (tgt : Nat) (d : decode cc pc = .ok (.goto off, 3)) (ht : (pc : Int) + off = (tgt : Int)) (k : V G X nL ce sl tgt lv st cs) : V G X nL ce sl pc lv st cs :=
  fun H locs ls a1 a2 a3 => lv_goto C.1 C.2.1 d ht (k H locs ls a1 a2 a3)
/-- a field's link: the class and the slot that pool entry idx of class own names; final or not; its type -/
def FLk (own : String) (idx ci j : Nat) (fin : Option Bool) (ty : FieldType) : Prop := ∃ (C : String) (T : u_T) (N : Nat) (ty0 : Nat → FieldType), vwCl[ci]? = some (C, T, N) ∧ j < N ∧ (∀ w ∈ u_ws C T N, w ∈ TB) ∧ (∀ k, k < N → parseFieldDescriptor (T k).2.2.1 = some (ty0 k)) ∧ (∀ a, a < N → ∀ b, b < N → a ≠ b → (T a).2.1 ≠ (T b).2.1) ∧ Cond.fieldLink own idx (T j).1 (T j).2.1 (T j).2.2.1 ∈ TB ∧ parseFieldDescriptor (T j).2.2.1 = some ty ∧ (fin = some false → (T j).2.2.2 = false) ∧ (fin = some true → (T j).2.2.2 = true ∧ (T j).1 = own)
theorem V.get (C : Cx G X cc nL own fr lo mc ms) {idx ci j k0 : Nat} {fin : Option Bool} {ty : FieldType} {fs : List Value} {v : Value} (F : FLk own idx ci j fin ty) (d : decode cc pc = .ok (.getfield idx, 3)) (hc : cs[k0]? = some (ob ci fs)) (hv : fs[j]? = some v) (k : V G X nL ce sl (pc + 3) lv (v :: st) cs) : V G X nL ce sl pc lv (Rf G k0 :: st) cs := by
  obtain ⟨Cn, T, N, ty0, f1, f2, f3, f4, f5, f6, f7, f8, f9⟩ := F
  exact fun H locs ls a1 a2 a3 => va_get C.1 C.2.1 C.2.2.2.2.1 f3 C.2.2.2.1 C.2.2.2.2.2.1.1 a1 k0 (mkW_get hc) f1 j f2 (C.2.2.2.2.1 _ f6) (fun _ h => h) hv d (k H locs ls a1 a2 a3)
theorem V.put (C : Cx G X cc nL own fr lo mc ms) {idx ci j k0 : Nat} {ty : FieldType} {fs : List Value} {v : Value} (F : FLk own idx ci j (some false) ty) (d : decode cc pc = .ok (.putfield idx, 3)) (hc : cs[k0]? = some (ob ci fs)) (hn : narrow ty v = v) (hf : fits ty v = true) (hl : j < fs.length) (k : V G X nL ce sl (pc + 3) lv st (cs.set k0 (ob ci (fs.set j v)))) : V G X nL ce sl pc lv (v :: Rf G k0 :: st) cs := by
  obtain ⟨Cn, T, N, ty0, f1, f2, f3, f4, f5, f6, f7, f8, f9⟩ := F
  exact fun H locs ls a1 a2 a3 => va_put C.1 C.2.1 C.2.2.2.2.1 f3 ty0 f4 f5 C.2.2.2.1 C.2.2.2.2.2.1.1 a1 (mkW_D _ _) a2 k0 (mkW_get hc) f1 j f2 (C.2.2.2.2.1 _ f6) (fun _ h => h) (f8 rfl) f7 hn hf hl d (fun H1 locs1 b1 b2 b3 => k H1 locs1 ls (by rw [← mkW_set]; exact b1) b3 a3)
theorem V.putF (C : Cx G X cc nL own fr lo mc ms) (hin : (xMe X).name = "<init>") {idx ci j k0 : Nat} {ty : FieldType} {fs : List Value} {v : Value} (F : FLk own idx ci j (some true) ty) (d : decode cc pc = .ok (.putfield idx, 3)) (hc : cs[k0]? = some (ob ci fs)) (hn : narrow ty v = v) (hf : fits ty v = true) (hl : j < fs.length) (k : V G X nL ce sl (pc + 3) lv st (cs.set k0 (ob ci (fs.set j v)))) : V G X nL ce sl pc lv (v :: Rf G k0 :: st) cs := by
  obtain ⟨Cn, T, N, ty0, f1, f2, f3, f4, f5, f6, f7, f8, f9⟩ := F
  exact fun H locs ls a1 a2 a3 => va_putF C.1 C.2.1 C.2.2.2.2.1 f3 ty0 f4 f5 C.2.2.2.1 C.2.2.2.2.2.1.1 a1 (mkW_D _ _) a2 k0 (mkW_get hc) f1 j f2 (C.2.2.2.2.1 _ f6) (fun _ h => h) (f9 rfl).1 hin (f9 rfl).2 f7 hn hf hl d (fun H1 locs1 b1 b2 b3 => k H1 locs1 ls (by rw [← mkW_set]; exact b1) b3 a3)
theorem V.iald (C : Cx G X cc nL own fr lo mc ms) {k0 n : Nat} {f : Nat → Int32} {i : Int32} (d : decode cc pc = .ok (.iaload, 1)) (hc : cs[k0]? = some (aI G n f)) (hin : vp_in i n) (k : V G X nL ce sl (pc + 1) lv (.int (f i.toNatClampNeg) :: st) cs) : V G X nL ce sl pc lv (.int i :: Rf G k0 :: st) cs :=
  fun H locs ls a1 a2 a3 => va_iald C.1 C.2.1 C.2.2.2.2.2.1.1 a1 k0 0 (mkW_get hc) rfl hin d (k H locs ls a1 a2 a3)
theorem V.zald (C : Cx G X cc nL own fr lo mc ms) {k0 n : Nat} {f : Nat → Int32} {i : Int32} (d : decode cc pc = .ok (.baload, 1)) (hc : cs[k0]? = some (aZ G n f)) (hin : vp_in i n) (k : V G X nL ce sl (pc + 1) lv (.int (f i.toNatClampNeg) :: st) cs) : V G X nL ce sl pc lv (.int i :: Rf G k0 :: st) cs :=
  fun H locs ls a1 a2 a3 => va_zald C.1 C.2.1 C.2.2.2.2.2.1.1 a1 k0 2 (mkW_get hc) rfl hin d (k H locs ls a1 a2 a3)
theorem V.cald (C : Cx G X cc nL own fr lo mc ms) {k0 n : Nat} {f : Nat → Int32} {i : Int32} (d : decode cc pc = .ok (.caload, 1)) (hc : cs[k0]? = some (aC G n f)) (hin : vp_in i n) (k : V G X nL ce sl (pc + 1) lv (.int (f i.toNatClampNeg) :: st) cs) : V G X nL ce sl pc lv (.int i :: Rf G k0 :: st) cs :=
  fun H locs ls a1 a2 a3 => va_cald C.1 C.2.1 C.2.2.2.2.2.1.1 a1 k0 3 (mkW_get hc) rfl hin d (k H locs ls a1 a2 a3)
theorem V.lald (C : Cx G X cc nL own fr lo mc ms) {k0 n : Nat} {f : Nat → Int64} {i : Int32} (d : decode cc pc = .ok (.laload, 1)) (hc : cs[k0]? = some (aL G n f)) (hin : vp_in i n) (k : V G X nL ce sl (pc + 1) lv (.long (f i.toNatClampNeg) :: st) cs) : V G X nL ce sl pc lv (.int i :: Rf G k0 :: st) cs :=
  fun H locs ls a1 a2 a3 => va_lald C.1 C.2.1 C.2.2.2.2.2.1.1 a1 k0 1 (mkW_get hc) rfl hin d (k H locs ls a1 a2 a3)
theorem V.iast (C : Cx G X cc nL own fr lo mc ms) {k0 n : Nat} {f : Nat → Int32} {i : Int32} {x : Int32} (d : decode cc pc = .ok (.iastore, 1)) (hc : cs[k0]? = some (aI G n f)) (hin : vp_in i n) (k : V G X nL ce sl (pc + 1) lv st (cs.set k0 (aI G n (va_up f i.toNatClampNeg (x))))) : V G X nL ce sl pc lv (.int x :: .int i :: Rf G k0 :: st) cs :=
  fun H locs ls a1 a2 a3 => va_iast C.1 C.2.1 C.2.2.2.2.2.1.1 a1 (mkW_D _ _) a2 k0 0 (mkW_get hc) rfl hin d (fun H1 locs1 b1 b2 b3 => k H1 locs1 ls (by rw [← mkW_set]; exact b1) b3 a3)
theorem V.zast (C : Cx G X cc nL own fr lo mc ms) {k0 n : Nat} {f : Nat → Int32} {i : Int32} {x : Int32} (d : decode cc pc = .ok (.bastore, 1)) (hc : cs[k0]? = some (aZ G n f)) (hin : vp_in i n) (k : V G X nL ce sl (pc + 1) lv st (cs.set k0 (aZ G n (va_up f i.toNatClampNeg (vp_nar .boolean x))))) : V G X nL ce sl pc lv (.int x :: .int i :: Rf G k0 :: st) cs :=
  fun H locs ls a1 a2 a3 => va_zast C.1 C.2.1 C.2.2.2.2.2.1.1 a1 (mkW_D _ _) a2 k0 2 (mkW_get hc) rfl hin d (fun H1 locs1 b1 b2 b3 => k H1 locs1 ls (by rw [← mkW_set]; exact b1) b3 a3)
theorem V.cast (C : Cx G X cc nL own fr lo mc ms) {k0 n : Nat} {f : Nat → Int32} {i : Int32} {x : Int32} (d : decode cc pc = .ok (.castore, 1)) (hc : cs[k0]? = some (aC G n f)) (hin : vp_in i n) (k : V G X nL ce sl (pc + 1) lv st (cs.set k0 (aC G n (va_up f i.toNatClampNeg (vp_nar .char x))))) : V G X nL ce sl pc lv (.int x :: .int i :: Rf G k0 :: st) cs :=
  fun H locs ls a1 a2 a3 => va_cast C.1 C.2.1 C.2.2.2.2.2.1.1 a1 (mkW_D _ _) a2 k0 3 (mkW_get hc) rfl hin d (fun H1 locs1 b1 b2 b3 => k H1 locs1 ls (by rw [← mkW_set]; exact b1) b3 a3)
theorem V.last (C : Cx G X cc nL own fr lo mc ms) {k0 n : Nat} {f : Nat → Int64} {i : Int32} {x : Int64} (d : decode cc pc = .ok (.lastore, 1)) (hc : cs[k0]? = some (aL G n f)) (hin : vp_in i n) (k : V G X nL ce sl (pc + 1) lv st (cs.set k0 (aL G n (va_up f i.toNatClampNeg (x))))) : V G X nL ce sl pc lv (.long x :: .int i :: Rf G k0 :: st) cs :=
  fun H locs ls a1 a2 a3 => va_last C.1 C.2.1 C.2.2.2.2.2.1.1 a1 (mkW_D _ _) a2 k0 1 (mkW_get hc) rfl hin d (fun H1 locs1 b1 b2 b3 => k H1 locs1 ls (by rw [← mkW_set]; exact b1) b3 a3)
theorem V.pald (C : Cx G X cc nL own fr lo mc ms) {k0 n j : Nat} {f : Nat → Option Nat} {i : Int32} (d : decode cc pc = .ok (.aaload, 1)) (hc : cs[k0]? = some (aP G n f)) (hin : vp_in i n) (hj : f i.toNatClampNeg = some j) (k : V G X nL ce sl (pc + 1) lv (Rf G j :: st) cs) : V G X nL ce sl pc lv (.int i :: Rf G k0 :: st) cs :=
  fun H locs ls a1 a2 a3 => va_aldq C.1 C.2.1 C.2.2.2.2.2.1.1 a1 k0 4 (mkW_get hc) rfl hin d (by simp only [hj]; exact k H locs ls a1 a2 a3)
theorem V.past (C : Cx G X cc nL own fr lo mc ms) {k0 n j : Nat} {f : Nat → Option Nat} {fs : List Value} {i : Int32} (d : decode cc pc = .ok (.aastore, 1)) (hc : cs[k0]? = some (aP G n f)) (hj : cs[j]? = some (ob 4 fs)) (hin : vp_in i n) (k : V G X nL ce sl (pc + 1) lv st (cs.set k0 (aP G n (va_up f i.toNatClampNeg (some j))))) : V G X nL ce sl pc lv (Rf G j :: .int i :: Rf G k0 :: st) cs :=
  fun H locs ls a1 a2 a3 => va_astq C.1 C.2.1 C.2.2.2.2.2.1.1 a1 (mkW_D _ _) a2 k0 4 j 4 (mkW_get hc) (r := (RX4, TX4, 3)) rfl (mkW_get hj) rfl hin d (fun H1 locs1 b1 b2 b3 => k H1 locs1 ls (by
    rw [← mkW_set]
    have e : aP G n (va_up f i.toNatClampNeg (some j)) = .inl (G.2.2 4, n, .inr (.inr (.inr (.inr (va_up (fun z => (f z).map (G.1 + ·)) i.toNatClampNeg (some (G.1 + j))))))) := by
      unfold aP
      congr 5
      congr 1
      congr 1
      funext z
      unfold va_up
      by_cases hz : z = i.toNatClampNeg
      · simp [hz]
      · simp [hz]
    rw [e]
    exact b1) b3 a3)
end
