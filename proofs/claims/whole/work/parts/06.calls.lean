/-! Contracts over V, calls, answers, new cells. A method: name, bytes, locals, answer's type, frames and words of room below it. -/
abbrev Mi : Type := MethodName × ByteArray × Nat × Option FieldType × Nat × Nat
def mWs (μ : Mi) : List Cond := .code μ.1 μ.2.1 μ.2.2.1 μ.2.2.2.1 :: TB
def mRm (μ : Mi) (mc ms : Nat) : Room := { frames := μ.2.2.2.2.1, cells := mc, slots := ms, locals := μ.2.2.2.2.2 }
def Qx (G : Gl) (post : Option Value → List va_E → Prop) : Array Value → State → Outcome → State → Prop := fun _ st oc t => (∃ (v : Option Value) (cs' : List va_E), oc = .returned v ∧ post v cs' ∧ va_P G.2.1 vwCl (mkW G.1 cs') t.heap) ∧ va_F (fun q => G.1 ≤ q) st t
def Px (G : Gl) (As : List Value) (cs : List va_E) (sz : Bool) : Array Value → State → Prop := va_Pc As (fun U => (sz = true → U.heap.size = G.1 + cs.length) ∧ va_P G.2.1 vwCl (mkW G.1 cs) U.heap ∧ Ks G U)
def Ctr (G : Gl) (μ : Mi) (As : List Value) (cs : List va_E) (sz : Bool) (mc ms : Nat) (post : Option Value → List va_E → Prop) : Prop :=
  ∀ l : Launch, Met l μ.1 (mWs μ) (mRm μ mc ms) (Px G As cs sz) (Qx G post) mc ms (fun q => G.1 ≤ q)
def MOk (μ : Mi) : Prop := Cond.code μ.1 μ.2.1 μ.2.2.1 μ.2.2.2.1 ∈ TB ∧ Cond.initialized μ.1.cls ∈ TB ∧ plainName μ.1.cls = true ∧ μ.1.cls ≠ "java/lang/invoke/MethodHandle" ∧ μ.1.cls ≠ "java/lang/invoke/VarHandle"
theorem MOk.good {μ : Mi} (h : MOk μ) : GoodIn TB (mWs μ) := fun w hw => by
  rcases List.mem_cons.mp hw with rfl | hw
  · exact ⟨h.1, TB_good h.1⟩
  · exact ⟨hw, TB_good hw⟩
theorem strK.to {G : Gl} {s U : State} {H : Heap} (h : strK G s s.heap) (hW : s.WarmedH U.vm) (hk : ∀ a : Nat, a < s.heap.size → ¬ G.1 ≤ a → H[a]? = s.heap[a]?) : strK G U H :=
  ⟨(h.1.moved hW.alike).kept hk, h.2.1.warm hW, h.2.2.1.warm hW, (h.2.2.2.1.moved hW.alike).kept hk, (h.2.2.2.2.moved hW.alike).kept hk⟩
theorem Ks.to {G : Gl} {s U : State} (h : Ks G s) (hW : s.WarmedH U.vm) (hk : ∀ a : Nat, a < s.heap.size → ¬ G.1 ≤ a → U.heap[a]? = s.heap[a]?) : Ks G U :=
  ⟨va_K.moved hW.alike h.1, fun q hq => va_Nw.warmM hW (h.2.1 q hq), va_AO.moved hW.alike h.2.2.1, h.2.2.2.to hW hk⟩
theorem Ks.calling {G : Gl} {U : State} (h : Ks G U) (g : JFrame) (mk : MethodId) (a : Array Value) : Ks G (U.calling g mk a) :=
  ⟨va_K.moved (u := U) (U := U.calling g mk a) (Vm.Alike.refl U.vm) h.1, fun q hq => va_Nw.same rfl rfl (h.2.1 q hq), va_AO.moved (u := U) (U := U.calling g mk a) (Vm.Alike.refl U.vm) h.2.2.1,
    ⟨vk_S.moved (u := U) (U := U.calling g mk a) (Vm.Alike.refl U.vm) h.2.2.2.1, vk_R.same rfl h.2.2.2.2.1, vk_R.same rfl h.2.2.2.2.2.1, va_Z.moved (u := U) (U := U.calling g mk a) (Vm.Alike.refl U.vm) h.2.2.2.2.2.2.1, va_Zq.moved (u := U) (U := U.calling g mk a) (Vm.Alike.refl U.vm) h.2.2.2.2.2.2.2⟩⟩
theorem Px.blind (G : Gl) (As : List Value) (cs : List va_E) (sz : Bool) : FrameBlind (Px G As cs sz) := fun a U g mk q => by
  obtain ⟨q0, q1, qP, qK⟩ := q
  exact ⟨q0, q1, qP, qK.calling g mk a⟩
/-- what the answer's end needs -/
def Cr (G : Gl) (X : Cx0) (ret : Option FieldType) (mc ms : Nat) (post : Option Value → List va_E → Prop) : Prop := xQ X = MQ (xB X) (Qx G post) (xA X) (xS X) mc ms (fun q => G.1 ≤ q) ∧ (xMe X).sig.returnType = ret ∧ (xMe X).locks = false
section
variable {G : Gl} {X : Cx0} {cc : ByteArray} {nL fr lo mc ms ce sl pc : Nat} {own : String} {lv : List (Nat × Value)} {st : List Value} {cs : List va_E} {post : Option Value → List va_E → Prop}
theorem Ctr.of {μ : Mi} {As : List Value} {sz : Bool} (hm : MOk μ) (hl : (lg_sl As).length ≤ μ.2.2.1) (h : ∀ X : Cx0, Cx G X μ.2.1 μ.2.2.1 μ.1.cls μ.2.2.2.2.1 μ.2.2.2.2.2 mc ms → Cr G X μ.2.2.2.1 mc ms post → (xMe X).name = μ.1.name → (sz = true → (xS X).heap.size = G.1 + cs.length) → V G X μ.2.2.1 0 0 0 (lv_args 0 As) [] cs) : Ctr G μ As cs sz mc ms post := by
  intro l
  refine Met.ofW (cc := μ.2.1) (maxL := μ.2.2.1) (ret := μ.2.2.2.1) hm.2.2.1 rfl ?_
  intro p e s m args below meth c s₁ B hml hv
  obtain ⟨rfl, hsz, hP, hK⟩ := hv
  have hts := atoms_spec (ws := mWs μ) B.pre
  have hown : s.vm.findClass μ.1.cls = some m.cls := findClass_of_methodNamed B.named
  have hV := h (p, l, e, mRm μ mc ms, s, m, As.toArray, below, meth, c, MQ below (Qx G post) As.toArray s mc ms (fun q => G.1 ≤ q)) ⟨B.exec, B.bytes, hml, hown, fun w hw => hts w (List.mem_cons_of_mem _ hw), hK, rfl, rfl, rfl, rfl⟩ ⟨rfl, B.returns, B.notSynchronized⟩ (name_of_methodNamed B.named B.method).1 hsz
  have hle := lv_entry As (n := μ.2.2.1) hl
  rw [lg_entry_eq]
  exact hV s.heap [] _ hP va_S.rf hle
theorem V.iret (C : Cx G X cc nL own fr lo mc ms) (R : Cr G X (some .int) ce sl post) {v : Int32} (d : decode cc pc = .ok (.ireturn, 1)) (h : post (some (.int v)) cs) : V G X nL ce sl pc lv [.int v] cs := by
  intro H locs ls a1 a2 a3
  rw [R.1]
  have hlocks := R.2.2
  exact W.iret C.1 C.2.1 R.2.1 (fun t ht hW => ⟨⟨_, cs, rfl, h, by rw [ht]; exact a1⟩, a2.F ht⟩) a2.2.2 d hlocks
theorem V.zret (C : Cx G X cc nL own fr lo mc ms) (R : Cr G X (some .boolean) ce sl post) {v : Int32} (d : decode cc pc = .ok (.ireturn, 1)) (hn : narrow .boolean (.int v) = .int v) (h : post (some (.int v)) cs) : V G X nL ce sl pc lv [.int v] cs := by
  intro H locs ls a1 a2 a3
  rw [R.1]
  have hlocks := R.2.2
  exact W.zret C.1 C.2.1 R.2.1 hn (fun t ht hW => ⟨⟨_, cs, rfl, h, by rw [ht]; exact a1⟩, a2.F ht⟩) a2.2.2 d hlocks
theorem V.cret (C : Cx G X cc nL own fr lo mc ms) (R : Cr G X (some .char) ce sl post) {v : Int32} (d : decode cc pc = .ok (.ireturn, 1)) (hn : narrow .char (.int v) = .int v) (h : post (some (.int v)) cs) : V G X nL ce sl pc lv [.int v] cs := by
  intro H locs ls a1 a2 a3
  rw [R.1]
  have hlocks := R.2.2
  exact W.zret C.1 C.2.1 R.2.1 hn (fun t ht hW => ⟨⟨_, cs, rfl, h, by rw [ht]; exact a1⟩, a2.F ht⟩) a2.2.2 d hlocks
theorem V.bret (C : Cx G X cc nL own fr lo mc ms) (R : Cr G X (some .byte) ce sl post) {v : Int32} (d : decode cc pc = .ok (.ireturn, 1)) (hn : narrow .byte (.int v) = .int v) (h : post (some (.int v)) cs) : V G X nL ce sl pc lv [.int v] cs := by
  intro H locs ls a1 a2 a3
  rw [R.1]
  have hlocks := R.2.2
  exact W.zret C.1 C.2.1 R.2.1 hn (fun t ht hW => ⟨⟨_, cs, rfl, h, by rw [ht]; exact a1⟩, a2.F ht⟩) a2.2.2 d hlocks
theorem V.lret (C : Cx G X cc nL own fr lo mc ms) (R : Cr G X (some .long) ce sl post) {v : Int64} (d : decode cc pc = .ok (.lreturn, 1)) (h : post (some (.long v)) cs) : V G X nL ce sl pc lv [.long v] cs := by
  intro H locs ls a1 a2 a3
  rw [R.1]
  have hlocks := R.2.2
  exact W.lret C.1 C.2.1 R.2.1 (fun t ht hW => ⟨⟨_, cs, rfl, h, by rw [ht]; exact a1⟩, a2.F ht⟩) a2.2.2 d hlocks
theorem V.aret (C : Cx G X cc nL own fr lo mc ms) {cn : String} (R : Cr G X (some (.object cn)) ce sl post) {j : Nat} (d : decode cc pc = .ok (.areturn, 1)) (h : post (some (Rf G j)) cs) : V G X nL ce sl pc lv [Rf G j] cs := by
  intro H locs ls a1 a2 a3
  rw [R.1]
  have hlocks := R.2.2
  exact W.aret C.1 C.2.1 R.2.1 (Or.inl ⟨cn, rfl⟩) (Or.inr ⟨_, rfl⟩) (fun t ht hW => ⟨⟨_, cs, rfl, h, by rw [ht]; exact a1⟩, a2.F ht⟩) a2.2.2 d hlocks
theorem V.vret (C : Cx G X cc nL own fr lo mc ms) (R : Cr G X none ce sl post) (d : decode cc pc = .ok (.return_, 1)) (h : post none cs) : V G X nL ce sl pc lv [] cs := by
  intro H locs ls a1 a2 a3
  rw [R.1]
  have hlocks := R.2.2
  exact W.vret C.1 C.2.1 R.2.1 (fun t ht hW => ⟨⟨_, cs, rfl, h, by rw [ht]; exact a1⟩, a2.F ht⟩) a2.2.2 d hlocks
/-- the heap's size, out of the room's book -/
theorem V.size (hz : (xS X).heap.size + ce = G.1 + cs.length ∧ (ce = 0 ∨ 0 < cs.length)) {H : Heap} (a1 : va_P G.2.1 vwCl (mkW G.1 cs) H) {locs : List Loc} (a2 : va_S (fun q => G.1 ≤ q) (xS X).heap H locs) (hup : H.size ≤ (xS X).heap.size + ce) : H.size = G.1 + cs.length := by
  rcases Nat.eq_zero_or_pos cs.length with h0 | h0
  · have h1 := a2.1
    have h3 : ce = 0 := hz.2.elim id (fun h => absurd h (by omega))
    omega
  · have hk : cs[cs.length - 1]? = some (cs[cs.length - 1]'(by omega)) := List.getElem?_eq_getElem (by omega)
    have h1 := (a1 _ _ (mkW_get (b := G.1) hk)).lt
    have h2 : G.1 + (cs.length - 1) < H.size := h1
    omega
/-- a call, out of what its run gives -/
theorem V.run {st0 : List Value} {mc' ms' : Nat} {a : Array Value} {post' : Option Value → List va_E → Prop}
    (hr : ∀ (H : Heap) (locs : List Loc) (ls : Array Slot), va_P G.2.1 vwCl (mkW G.1 cs) H → va_S (fun q => G.1 ≤ q) (xS X).heap H locs → lv_has ls nL lv → (∀ T : State, T.heap = H → Stand X.1 X.2.1 X.2.2.1 (xR X) (xS X) (xM X) (xA X) (xB X) (xMe X) (xC X) T locs ce sl → va_Run X.1 X.2.1 X.2.2.1 (xR X) (xS X) (xM X) (xA X) (xB X) (xMe X) (xC X) H locs ce sl mc' ms' (F0 (xM X) pc ls st0) st (Qx G post' a) (fun q => G.1 ≤ q)))
    (k : ∀ (v : Option Value) (cs' : List va_E), post' v cs' → V G X nL (ce + mc') (sl + ms') (pc + 3) lv (v.toList ++ st) cs') : V G X nL ce sl pc lv st0 cs := by
  intro H locs ls a1 a2 a3 T hT Y
  obtain ⟨v, st₀, t, T', L, h0, Y', hL, e1, e2, ⟨⟨v2, cs', hv, hp, hP⟩, hz, hk⟩, go⟩ := hr H locs ls a1 a2 a3 T hT Y T hT Y
  cases hv
  rw [h0] at hz hk
  obtain ⟨t2, b1, b2⟩ := k v cs' hp T'.heap (locs ++ L) ls (by rw [e1]; exact hP)
    ⟨Nat.le_trans a2.1 (by rw [e1]; exact hz), fun q h1 h2 => by rw [e1, hk q (Nat.lt_of_lt_of_le h1 a2.1) h2]; exact a2.2.1 q h1 h2, fun q hq => by
      rcases List.mem_append.mp hq with h | h
      · exact a2.2.2 q h
      · exact hL q h⟩ a3 T' rfl Y'
  exact ⟨t2, go t2 b1, b2⟩
/-- a call's link: an instance method of class number ci -/
def LkV (own : String) (idx : Nat) (μ : Mi) (n ci : Nat) : Prop := Cond.methodLink own idx μ.1 ∈ TB ∧ Cond.instanceMethod μ.1 ∈ TB ∧ Cond.selects μ.1.cls μ.1 μ.1 ∈ TB ∧ (parseMethodDescriptor μ.1.desc).map (fun d => d.parameters.length) = some n ∧ ∃ (T : u_T) (N : Nat), vwCl[ci]? = some (μ.1.cls, T, N)
def LkS (own : String) (idx : Nat) (μ : Mi) (n : Nat) : Prop := Cond.methodLink own idx μ.1 ∈ TB ∧ Cond.static μ.1 ∈ TB ∧ (parseMethodDescriptor μ.1.desc).map (fun d => d.parameters.length) = some n
def LkI (own : String) (idx : Nat) (μ : Mi) (n : Nat) : Prop := Cond.methodLink own idx μ.1 ∈ TB ∧ Cond.instanceMethod μ.1 ∈ TB ∧ μ.1.name = "<init>" ∧ (parseMethodDescriptor μ.1.desc).map (fun d => d.parameters.length) = some n
def LkSN (own : String) (idx : Nat) (μ : Mi) (n : Nat) : Prop := (own, idx, μ.1) ∈ nestL ∧ Cond.static μ.1 ∈ TB ∧ (parseMethodDescriptor μ.1.desc).map (fun d => d.parameters.length) = some n
def LkIN (own : String) (idx : Nat) (μ : Mi) (n : Nat) : Prop := (own, idx, μ.1) ∈ nestL ∧ Cond.instanceMethod μ.1 ∈ TB ∧ μ.1.name = "<init>" ∧ (parseMethodDescriptor μ.1.desc).map (fun d => d.parameters.length) = some n
theorem Px.pre (C : Cx G X cc nL own fr lo mc ms) {As : List Value} {sz : Bool} (hz : sz = true → (xS X).heap.size + ce = G.1 + cs.length ∧ (ce = 0 ∨ 0 < cs.length)) {H : Heap} {locs : List Loc} (a1 : va_P G.2.1 vwCl (mkW G.1 cs) H) (a2 : va_S (fun q => G.1 ≤ q) (xS X).heap H locs) (hup : H.size ≤ (xS X).heap.size + ce) : ∀ U : State, U.heap = H → (xS X).WarmedH U.vm → Px G As cs sz As.toArray U := fun U hU hW =>
  ⟨rfl, fun h => by rw [hU]; exact V.size (hz h) a1 a2 hup, by rw [hU]; exact a1, C.2.2.2.2.2.1.to hW (fun q h1 h2 => by rw [hU]; exact a2.2.1 q h1 h2)⟩
theorem V.callV (C : Cx G X cc nL own fr lo mc ms) {idx n ci k0 mc' ms' : Nat} {μ : Mi} {As fs : List Value} {st0 : List Value} {sz : Bool} {post' : Option Value → List va_E → Prop} (L : LkV own idx μ n ci) (M : MOk μ) (d : decode cc pc = .ok (.invokevirtual idx, 3)) (h : Ctr G μ (Rf G k0 :: As) cs sz mc' ms' post') (hc : cs[k0]? = some (ob ci fs)) (hn : As.length = n) (hst : st0 = As.reverse ++ Rf G k0 :: st) (hw : (st.map fun v => v.category).sum ≤ 8) (hr : μ.2.2.2.2.1 + 1 ≤ fr ∧ 8 + (μ.2.2.1 + 11) + μ.2.2.2.2.2 ≤ lo) (hm : ce + mc' ≤ mc ∧ sl + ms' ≤ ms) (hz : sz = true → (xS X).heap.size + ce = G.1 + cs.length ∧ (ce = 0 ∨ 0 < cs.length))
    (k : ∀ (v : Option Value) (cs' : List va_E), post' v cs' → V G X nL (ce + mc') (sl + ms') (pc + 3) lv (v.toList ++ st) cs') : V G X nL ce sl pc lv st0 cs := by
  refine V.run (mc' := mc') (ms' := ms') (post' := post') (a := (Rf G k0 :: As).toArray) (fun H locs ls a1 a2 a3 T hT Y => ?_) k
  obtain ⟨l1, l2, l3, l4, T', N', l5⟩ := L
  obtain ⟨c1, c2, c3, c4, c5, c6, c7, c8, c9, c10⟩ := C
  have hup : H.size ≤ (xS X).heap.size + ce := by rw [← hT]; exact Y.heapSize
  refine va_runV (As := As) (rest := st) (b := G.1 + k0) ⟨c1, c2, c3, c4, c5⟩ (h X.2.1) (C := μ.1.cls) (bytes := μ.2.1) (maxL := μ.2.2.1) (ret := μ.2.2.2.1) (n := n) ⟨callB_of n c5 M.good rfl rfl rfl (c5 _ M.2.1) (c5 _ l1) ⟨M.2.2.2.1, M.2.2.2.2, l4⟩ ⟨by rw [c7]; exact hr.1, by rw [c8]; exact hr.2⟩, c5 _ l2, c5 _ l3⟩ ⟨Px.blind _ _ _ _, ?_, ?_⟩ rfl hn a3.1 hst (lv_room hw) d ⟨by rw [c9]; exact hm.1, by rw [c10]; exact hm.2⟩
  · exact va_recv c6.1 a1 l5 (mkW_get hc)
  · exact Px.pre ⟨c1, c2, c3, c4, c5, c6, c7, c8, c9, c10⟩ hz a1 a2 hup
theorem V.callS (C : Cx G X cc nL own fr lo mc ms) {idx n mc' ms' : Nat} {μ : Mi} {As : List Value} {st0 : List Value} {sz : Bool} {post' : Option Value → List va_E → Prop} (L : LkS own idx μ n) (M : MOk μ) (d : decode cc pc = .ok (.invokestatic idx, 3)) (h : Ctr G μ As cs sz mc' ms' post') (hn : As.length = n) (hst : st0 = As.reverse ++ st) (hw : (st.map fun v => v.category).sum ≤ 8) (hr : μ.2.2.2.2.1 + 1 ≤ fr ∧ 8 + (μ.2.2.1 + 11) + μ.2.2.2.2.2 ≤ lo) (hm : ce + mc' ≤ mc ∧ sl + ms' ≤ ms) (hz : sz = true → (xS X).heap.size + ce = G.1 + cs.length ∧ (ce = 0 ∨ 0 < cs.length))
    (k : ∀ (v : Option Value) (cs' : List va_E), post' v cs' → V G X nL (ce + mc') (sl + ms') (pc + 3) lv (v.toList ++ st) cs') : V G X nL ce sl pc lv st0 cs := by
  refine V.run (mc' := mc') (ms' := ms') (post' := post') (a := As.toArray) (fun H locs ls a1 a2 a3 T hT Y => ?_) k
  obtain ⟨l1, l2, l4⟩ := L
  obtain ⟨c1, c2, c3, c4, c5, c6, c7, c8, c9, c10⟩ := C
  have hup : H.size ≤ (xS X).heap.size + ce := by rw [← hT]; exact Y.heapSize
  exact va_runS (As := As) (rest := st) ⟨c1, c2, c3, c4, c5⟩ (h X.2.1) (bytes := μ.2.1) (maxL := μ.2.2.1) (ret := μ.2.2.2.1) (n := n) ⟨callB_of n c5 M.good rfl rfl rfl (c5 _ M.2.1) (c5 _ l1) ⟨M.2.2.2.1, M.2.2.2.2, l4⟩ ⟨by rw [c7]; exact hr.1, by rw [c8]; exact hr.2⟩, c5 _ l2⟩ ⟨Px.blind _ _ _ _, Px.pre ⟨c1, c2, c3, c4, c5, c6, c7, c8, c9, c10⟩ hz a1 a2 hup⟩ rfl hn a3.1 hst (lv_room hw) d ⟨by rw [c9]; exact hm.1, by rw [c10]; exact hm.2⟩
theorem V.callSN (C : Cx G X cc nL own fr lo mc ms) {idx n mc' ms' : Nat} {μ : Mi} {As : List Value} {st0 : List Value} {sz : Bool} {post' : Option Value → List va_E → Prop} (L : LkSN own idx μ n) (M : MOk μ) (d : decode cc pc = .ok (.invokestatic idx, 3)) (h : Ctr G μ As cs sz mc' ms' post') (hn : As.length = n) (hst : st0 = As.reverse ++ st) (hw : (st.map fun v => v.category).sum ≤ 8) (hr : μ.2.2.2.2.1 + 1 ≤ fr ∧ 8 + (μ.2.2.1 + 11) + μ.2.2.2.2.2 ≤ lo) (hm : ce + mc' ≤ mc ∧ sl + ms' ≤ ms) (hz : sz = true → (xS X).heap.size + ce = G.1 + cs.length ∧ (ce = 0 ∨ 0 < cs.length))
    (k : ∀ (v : Option Value) (cs' : List va_E), post' v cs' → V G X nL (ce + mc') (sl + ms') (pc + 3) lv (v.toList ++ st) cs') : V G X nL ce sl pc lv st0 cs := by
  refine V.run (mc' := mc') (ms' := ms') (post' := post') (a := As.toArray) (fun H locs ls a1 a2 a3 T hT Y => ?_) k
  obtain ⟨l1, l2, l4⟩ := L
  obtain ⟨c1, c2, c3, c4, c5, c6, c7, c8, c9, c10⟩ := C
  have hup : H.size ≤ (xS X).heap.size + ce := by rw [← hT]; exact Y.heapSize
  exact va_runSN (As := As) (rest := st) ⟨c1, c2, c3, c4, c5⟩ (h X.2.1) (bytes := μ.2.1) (maxL := μ.2.2.1) (ret := μ.2.2.2.1) (n := n) (host := "SliceSolver") ⟨va_cnB n c5 M.good rfl rfl rfl (c6.2.1 _ l1) (c5 _ M.2.1) ⟨M.2.2.2.1, M.2.2.2.2, l4⟩ ⟨by rw [c7]; exact hr.1, by rw [c8]; exact hr.2⟩, c5 _ l2, trivial⟩ ⟨Px.blind _ _ _ _, Px.pre ⟨c1, c2, c3, c4, c5, c6, c7, c8, c9, c10⟩ hz a1 a2 hup⟩ rfl hn a3.1 hst (lv_room hw) d ⟨by rw [c9]; exact hm.1, by rw [c10]; exact hm.2⟩
theorem V.callI (C : Cx G X cc nL own fr lo mc ms) {idx n k0 mc' ms' : Nat} {μ : Mi} {As : List Value} {st0 : List Value} {sz : Bool} {post' : Option Value → List va_E → Prop} (L : LkI own idx μ n) (M : MOk μ) (hret : μ.2.2.2.1 = none) (d : decode cc pc = .ok (.invokespecial idx, 3)) (h : Ctr G μ (Rf G k0 :: As) cs sz mc' ms' post') (hn : As.length = n) (hst : st0 = As.reverse ++ Rf G k0 :: st) (hw : (st.map fun v => v.category).sum ≤ 8) (hr : μ.2.2.2.2.1 + 1 ≤ fr ∧ 8 + (μ.2.2.1 + 11) + μ.2.2.2.2.2 ≤ lo) (hm : ce + mc' ≤ mc ∧ sl + ms' ≤ ms) (hz : sz = true → (xS X).heap.size + ce = G.1 + cs.length ∧ (ce = 0 ∨ 0 < cs.length))
    (k : ∀ (v : Option Value) (cs' : List va_E), post' v cs' → V G X nL (ce + mc') (sl + ms') (pc + 3) lv (v.toList ++ st) cs') : V G X nL ce sl pc lv st0 cs := by
  refine V.run (mc' := mc') (ms' := ms') (post' := post') (a := (Rf G k0 :: As).toArray) (fun H locs ls a1 a2 a3 T hT Y => ?_) k
  obtain ⟨l1, l2, l3, l4⟩ := L
  obtain ⟨c1, c2, c3, c4, c5, c6, c7, c8, c9, c10⟩ := C
  have hup : H.size ≤ (xS X).heap.size + ce := by rw [← hT]; exact Y.heapSize
  exact va_runI (As := As) (rest := st) (b := G.1 + k0) ⟨c1, c2, c3, c4, c5⟩ (h X.2.1) (bytes := μ.2.1) (maxL := μ.2.2.1) (n := n) ⟨callB_of n c5 M.good (by rw [← hret]; rfl) rfl rfl (c5 _ M.2.1) (c5 _ l1) ⟨M.2.2.2.1, M.2.2.2.2, l4⟩ ⟨by rw [c7]; exact hr.1, by rw [c8]; exact hr.2⟩, l3, c5 _ l2⟩ ⟨Px.blind _ _ _ _, Px.pre ⟨c1, c2, c3, c4, c5, c6, c7, c8, c9, c10⟩ hz a1 a2 hup⟩ rfl hn a3.1 hst (lv_room hw) d ⟨by rw [c9]; exact hm.1, by rw [c10]; exact hm.2⟩
theorem V.callIN (C : Cx G X cc nL own fr lo mc ms) {idx n k0 mc' ms' : Nat} {μ : Mi} {As : List Value} {st0 : List Value} {sz : Bool} {post' : Option Value → List va_E → Prop} (L : LkIN own idx μ n) (M : MOk μ) (hret : μ.2.2.2.1 = none) (d : decode cc pc = .ok (.invokespecial idx, 3)) (h : Ctr G μ (Rf G k0 :: As) cs sz mc' ms' post') (hn : As.length = n) (hst : st0 = As.reverse ++ Rf G k0 :: st) (hw : (st.map fun v => v.category).sum ≤ 8) (hr : μ.2.2.2.2.1 + 1 ≤ fr ∧ 8 + (μ.2.2.1 + 11) + μ.2.2.2.2.2 ≤ lo) (hm : ce + mc' ≤ mc ∧ sl + ms' ≤ ms) (hz : sz = true → (xS X).heap.size + ce = G.1 + cs.length ∧ (ce = 0 ∨ 0 < cs.length))
    (k : ∀ (v : Option Value) (cs' : List va_E), post' v cs' → V G X nL (ce + mc') (sl + ms') (pc + 3) lv (v.toList ++ st) cs') : V G X nL ce sl pc lv st0 cs := by
  refine V.run (mc' := mc') (ms' := ms') (post' := post') (a := (Rf G k0 :: As).toArray) (fun H locs ls a1 a2 a3 T hT Y => ?_) k
  obtain ⟨l1, l2, l3, l4⟩ := L
  obtain ⟨c1, c2, c3, c4, c5, c6, c7, c8, c9, c10⟩ := C
  have hup : H.size ≤ (xS X).heap.size + ce := by rw [← hT]; exact Y.heapSize
  exact va_runIN (As := As) (rest := st) (b := G.1 + k0) ⟨c1, c2, c3, c4, c5⟩ (h X.2.1) (bytes := μ.2.1) (maxL := μ.2.2.1) (n := n) (host := "SliceSolver") ⟨va_cnB n c5 M.good (by rw [← hret]; rfl) rfl rfl (c6.2.1 _ l1) (c5 _ M.2.1) ⟨M.2.2.2.1, M.2.2.2.2, l4⟩ ⟨by rw [c7]; exact hr.1, by rw [c8]; exact hr.2⟩, l3, c5 _ l2⟩ ⟨Px.blind _ _ _ _, Px.pre ⟨c1, c2, c3, c4, c5, c6, c7, c8, c9, c10⟩ hz a1 a2 hup⟩ rfl hn a3.1 hst (lv_room hw) d ⟨by rw [c9]; exact hm.1, by rw [c10]; exact hm.2⟩
theorem V.objInit (C : Cx G X cc nL own fr lo mc ms) {idx k0 : Nat} (h1 : Cond.methodLink own idx Lib.objectInit ∈ TB) (h2 : Cond.instanceMethod Lib.objectInit ∈ TB) (h3 : Cond.code Lib.objectInit ⟨#[0xb1]⟩ 1 none ∈ TB) (d : decode cc pc = .ok (.invokespecial idx, 3)) (hf : 1 ≤ fr) (hlo : (st.map fun v => v.category).sum + 12 ≤ lo) (k : V G X nL ce sl (pc + 3) lv st cs) : V G X nL ce sl pc lv (Rf G k0 :: st) cs := by
  intro H locs ls a1 a2 a3
  obtain ⟨c1, c2, c3, c4, c5, c6, c7, c8, c9, c10⟩ := C
  exact W.objInit c1 c2 c4 (c5 _ h1) (c5 _ h2) (c5 _ h3) rfl (by rw [c3]; exact a3.1) rfl d (by rw [c7]; exact hf) (by rw [c8]; show 2 * 0 + _ + 12 ≤ _; omega) (k H locs ls a1 a2 a3)
theorem V.mmax (C : Cx G X cc nL own fr lo mc ms) {idx : Nat} {x y : Int32} (h1 : Cond.methodLink own idx Lib.Math.max.name ∈ TB) (h2 : Cond.static Lib.Math.max.name ∈ TB) (h3 : Cond.initialized "java/lang/Math" ∈ TB) (h4 : Cond.code Lib.Math.max.name Lib.Math.max.code 2 (some .int) ∈ TB) (d : decode cc pc = .ok (.invokestatic idx, 3)) (hf : 1 ≤ fr) (hlo : (st.map fun v => v.category).sum + 13 ≤ lo) (hce : ce ≤ mc) (hsl : sl ≤ ms) (k : V G X nL ce sl (pc + 3) lv (.int (if x < y then y else x) :: st) cs) : V G X nL ce sl pc lv (.int y :: .int x :: st) cs := by
  intro H locs ls a1 a2 a3
  obtain ⟨c1, c2, c3, c4, c5, c6, c7, c8, c9, c10⟩ := C
  exact va_mmax c1 c2 (by rw [c3]; exact a3.1.symm) c4 (c5 _ h1) (c5 _ h2) (c5 _ h3) (c5 _ h4) (by rw [c7]; exact hf) (by rw [c8]; exact hlo) (by rw [c9]; exact hce) (by rw [c10]; exact hsl) d (k H locs ls a1 a2 a3)
theorem V.mmin (C : Cx G X cc nL own fr lo mc ms) {idx : Nat} {x y : Int32} (h1 : Cond.methodLink own idx Lib.Math.min.name ∈ TB) (h2 : Cond.static Lib.Math.min.name ∈ TB) (h3 : Cond.initialized "java/lang/Math" ∈ TB) (h4 : Cond.code Lib.Math.min.name Lib.Math.min.code 2 (some .int) ∈ TB) (d : decode cc pc = .ok (.invokestatic idx, 3)) (hf : 1 ≤ fr) (hlo : (st.map fun v => v.category).sum + 13 ≤ lo) (hce : ce ≤ mc) (hsl : sl ≤ ms) (k : V G X nL ce sl (pc + 3) lv (.int (if y < x then y else x) :: st) cs) : V G X nL ce sl pc lv (.int y :: .int x :: st) cs := by
  intro H locs ls a1 a2 a3
  obtain ⟨c1, c2, c3, c4, c5, c6, c7, c8, c9, c10⟩ := C
  exact va_mmin c1 c2 (by rw [c3]; exact a3.1.symm) c4 (c5 _ h1) (c5 _ h2) (c5 _ h3) (c5 _ h4) (by rw [c7]; exact hf) (by rw [c8]; exact hlo) (by rw [c9]; exact hce) (by rw [c10]; exact hsl) d (k H locs ls a1 a2 a3)
end
