/-! New cells, copies. -/
def CLk (own : String) (idx ci N : Nat) (fs : List Value) : Prop := ∃ (C : String) (T : u_T) (ty : Nat → FieldType), vwCl[ci]? = some (C, T, N) ∧ (∀ w ∈ u_ws C T N, w ∈ TB) ∧ (∀ k, k < N → parseFieldDescriptor (T k).2.2.1 = some (ty k)) ∧ Cond.classLink own idx C ∈ TB ∧ Cond.instantiable C N ∈ TB ∧ Cond.initialized C ∈ TB ∧ (∀ j, j < N → defaultValue (ty j) = vp_V fs j)
section
variable {G : Gl} {X : Cx0} {cc : ByteArray} {nL fr lo mc ms ce sl pc : Nat} {own : String} {lv : List (Nat × Value)} {st : List Value} {cs : List va_E}
theorem V.fresh {H1 : Heap} {q : Nat} {e : va_E} (hz : (xS X).heap.size + ce = G.1 + cs.length) (b1 : va_P G.2.1 vwCl (mkW G.1 cs ++ [(q, e)]) H1) (b2 : va_D (fun q => G.1 ≤ q) (mkW G.1 cs ++ [(q, e)])) (hup : H1.size ≤ (xS X).heap.size + (ce + 1)) : q = G.1 + cs.length := by
  have hl : (mkW G.1 cs).length = cs.length := by unfold mkW; simp
  have hq : (mkW G.1 cs ++ [(q, e)])[cs.length]? = some (q, e) := by rw [← hl, List.getElem?_append_right (Nat.le_refl _)]; simp
  have h1 : q < H1.size := (b1 _ _ hq).lt
  have h2 : G.1 ≤ q := b2.2 _ _ hq
  rcases Nat.lt_or_ge q (G.1 + cs.length) with h | h
  · have hk : q - G.1 < cs.length := by omega
    have h3 : (mkW G.1 cs ++ [(q, e)])[q - G.1]? = some (G.1 + (q - G.1), cs[q - G.1]) := by
      rw [List.getElem?_append_left (by rw [hl]; exact hk)]
      exact mkW_get (List.getElem?_eq_getElem hk)
    have h4 := b2.1 _ _ _ _ h3 hq (show G.1 + (q - G.1) = q by omega)
    omega
  · omega
theorem V.new (C : Cx G X cc nL own fr lo mc ms) (hb : G.1 ≤ (xS X).heap.size) (hz : (xS X).heap.size + ce = G.1 + cs.length) {idx ci N : Nat} {fs : List Value} (L : CLk own idx ci N fs) (d : decode cc pc = .ok (.new idx, 3)) (hm : ce + 1 ≤ mc ∧ sl + N ≤ ms) (k : V G X nL (ce + 1) (sl + N) (pc + 3) lv (Rf G cs.length :: st) (cs ++ [ob ci fs])) : V G X nL ce sl pc lv st cs := by
  intro H locs ls a1 a2 a3
  obtain ⟨c1, c2, c3, c4, c5, c6, c7, c8, c9, c10⟩ := C
  obtain ⟨Cn, T, ty, l1, l2, l3, l4, l5, l6, l7⟩ := L
  refine va_new c1 c2 c5 l2 ty l3 c4 (c5 _ l4) (c5 _ l5) (c5 _ l6) c6.1 a1 (mkW_D _ _) a2 (fun q h => Nat.le_trans hb h) l1 l7 (by rw [c9]; exact hm.1) (by rw [c10]; exact hm.2) d (fun q H1 b1 b2 b3 => ?_)
  intro T' hT Y
  have hq := V.fresh hz b1 b2 (by rw [← hT]; exact Y.heapSize)
  subst hq
  exact k H1 locs ls (by rw [← mkW_app]; exact b1) b3 a3 T' hT Y
theorem V.newaI (C : Cx G X cc nL own fr lo mc ms) (hb : G.1 ≤ (xS X).heap.size) (hz : (xS X).heap.size + ce = G.1 + cs.length) {n : Int32} (N : Nat) (d : decode cc pc = .ok (.newarray .int, 2)) (hw : Cond.arrayClass .int ∈ TB) (hn : ¬ n < 0) (hN : n.toNatClampNeg = N) (hs : N ≤ 60000000) (hm : ce + 1 ≤ mc ∧ sl + N ≤ ms) (k : V G X nL (ce + 1) (sl + N) (pc + 2) lv (Rf G cs.length :: st) (cs ++ [aI G N (fun _ => 0)])) : V G X nL ce sl pc lv (.int n :: st) cs := by
  intro H locs ls a1 a2 a3
  obtain ⟨c1, c2, c3, c4, c5, c6, c7, c8, c9, c10⟩ := C
  refine va_newa (atype := .int) (ty := .int) (a0 := (N, .inl (fun _ => 0))) c1 c2 (c5 _ hw) rfl c6.1 a1 (mkW_D _ _) a2 (fun q h => Nat.le_trans hb h) (fun _ => rfl) hn hN (by simp [componentBytes]; omega) (by rw [c9]; exact hm.1) (by rw [c10]; exact hm.2) d (fun q cA H1 bK b1 b2 b3 => ?_)
  intro T' hT Y
  have hq := V.fresh hz b1 b2 (by rw [← hT]; exact Y.heapSize)
  subst hq
  have e1 : va_RA (xS X) cA .int := (bK.2 5 (cA, .int) rfl).2
  have e2 : va_RA (xS X) (G.2.2 0) .int := (c6.1.2 0 (G.2.2 0, .int) rfl).2
  have e3 : cA = G.2.2 0 := Option.some.inj (Eq.trans (Eq.symm (show (xS X).vm.findClass ("[" ++ (FieldType.int).toString) = some cA from e1)) (show (xS X).vm.findClass ("[" ++ (FieldType.int).toString) = some (G.2.2 0) from e2))
  subst e3
  exact k H1 locs ls (by rw [← mkW_app]; exact b1) b3 a3 T' hT Y
theorem V.newaL (C : Cx G X cc nL own fr lo mc ms) (hb : G.1 ≤ (xS X).heap.size) (hz : (xS X).heap.size + ce = G.1 + cs.length) {n : Int32} (N : Nat) (d : decode cc pc = .ok (.newarray .long, 2)) (hw : Cond.arrayClass .long ∈ TB) (hn : ¬ n < 0) (hN : n.toNatClampNeg = N) (hs : N ≤ 60000000) (hm : ce + 1 ≤ mc ∧ sl + N ≤ ms) (k : V G X nL (ce + 1) (sl + N) (pc + 2) lv (Rf G cs.length :: st) (cs ++ [aL G N (fun _ => 0)])) : V G X nL ce sl pc lv (.int n :: st) cs := by
  intro H locs ls a1 a2 a3
  obtain ⟨c1, c2, c3, c4, c5, c6, c7, c8, c9, c10⟩ := C
  refine va_newa (atype := .long) (ty := .long) (a0 := (N, .inr (.inl (fun _ => 0)))) c1 c2 (c5 _ hw) rfl c6.1 a1 (mkW_D _ _) a2 (fun q h => Nat.le_trans hb h) (fun _ => rfl) hn hN (by simp [componentBytes]; omega) (by rw [c9]; exact hm.1) (by rw [c10]; exact hm.2) d (fun q cA H1 bK b1 b2 b3 => ?_)
  intro T' hT Y
  have hq := V.fresh hz b1 b2 (by rw [← hT]; exact Y.heapSize)
  subst hq
  have e1 : va_RA (xS X) cA .long := (bK.2 5 (cA, .long) rfl).2
  have e2 : va_RA (xS X) (G.2.2 1) .long := (c6.1.2 1 (G.2.2 1, .long) rfl).2
  have e3 : cA = G.2.2 1 := Option.some.inj (Eq.trans (Eq.symm (show (xS X).vm.findClass ("[" ++ (FieldType.long).toString) = some cA from e1)) (show (xS X).vm.findClass ("[" ++ (FieldType.long).toString) = some (G.2.2 1) from e2))
  subst e3
  exact k H1 locs ls (by rw [← mkW_app]; exact b1) b3 a3 T' hT Y
theorem V.newaZ (C : Cx G X cc nL own fr lo mc ms) (hb : G.1 ≤ (xS X).heap.size) (hz : (xS X).heap.size + ce = G.1 + cs.length) {n : Int32} (N : Nat) (d : decode cc pc = .ok (.newarray .boolean, 2)) (hw : Cond.arrayClass .boolean ∈ TB) (hn : ¬ n < 0) (hN : n.toNatClampNeg = N) (hs : N ≤ 60000000) (hm : ce + 1 ≤ mc ∧ sl + N ≤ ms) (k : V G X nL (ce + 1) (sl + N) (pc + 2) lv (Rf G cs.length :: st) (cs ++ [aZ G N (fun _ => 0)])) : V G X nL ce sl pc lv (.int n :: st) cs := by
  intro H locs ls a1 a2 a3
  obtain ⟨c1, c2, c3, c4, c5, c6, c7, c8, c9, c10⟩ := C
  refine va_newa (atype := .boolean) (ty := .boolean) (a0 := (N, .inl (fun _ => 0))) c1 c2 (c5 _ hw) rfl c6.1 a1 (mkW_D _ _) a2 (fun q h => Nat.le_trans hb h) (fun _ => rfl) hn hN (by simp [componentBytes]; omega) (by rw [c9]; exact hm.1) (by rw [c10]; exact hm.2) d (fun q cA H1 bK b1 b2 b3 => ?_)
  intro T' hT Y
  have hq := V.fresh hz b1 b2 (by rw [← hT]; exact Y.heapSize)
  subst hq
  have e1 : va_RA (xS X) cA .boolean := (bK.2 5 (cA, .boolean) rfl).2
  have e2 : va_RA (xS X) (G.2.2 2) .boolean := (c6.1.2 2 (G.2.2 2, .boolean) rfl).2
  have e3 : cA = G.2.2 2 := Option.some.inj (Eq.trans (Eq.symm (show (xS X).vm.findClass ("[" ++ (FieldType.boolean).toString) = some cA from e1)) (show (xS X).vm.findClass ("[" ++ (FieldType.boolean).toString) = some (G.2.2 2) from e2))
  subst e3
  exact k H1 locs ls (by rw [← mkW_app]; exact b1) b3 a3 T' hT Y
theorem V.newaC (C : Cx G X cc nL own fr lo mc ms) (hb : G.1 ≤ (xS X).heap.size) (hz : (xS X).heap.size + ce = G.1 + cs.length) {n : Int32} (N : Nat) (d : decode cc pc = .ok (.newarray .char, 2)) (hw : Cond.arrayClass .char ∈ TB) (hn : ¬ n < 0) (hN : n.toNatClampNeg = N) (hs : N ≤ 60000000) (hm : ce + 1 ≤ mc ∧ sl + N ≤ ms) (k : V G X nL (ce + 1) (sl + N) (pc + 2) lv (Rf G cs.length :: st) (cs ++ [aC G N (fun _ => 0)])) : V G X nL ce sl pc lv (.int n :: st) cs := by
  intro H locs ls a1 a2 a3
  obtain ⟨c1, c2, c3, c4, c5, c6, c7, c8, c9, c10⟩ := C
  refine va_newa (atype := .char) (ty := .char) (a0 := (N, .inl (fun _ => 0))) c1 c2 (c5 _ hw) rfl c6.1 a1 (mkW_D _ _) a2 (fun q h => Nat.le_trans hb h) (fun _ => rfl) hn hN (by simp [componentBytes]; omega) (by rw [c9]; exact hm.1) (by rw [c10]; exact hm.2) d (fun q cA H1 bK b1 b2 b3 => ?_)
  intro T' hT Y
  have hq := V.fresh hz b1 b2 (by rw [← hT]; exact Y.heapSize)
  subst hq
  have e1 : va_RA (xS X) cA .char := (bK.2 5 (cA, .char) rfl).2
  have e2 : va_RA (xS X) (G.2.2 3) .char := (c6.1.2 3 (G.2.2 3, .char) rfl).2
  have e3 : cA = G.2.2 3 := Option.some.inj (Eq.trans (Eq.symm (show (xS X).vm.findClass ("[" ++ (FieldType.char).toString) = some cA from e1)) (show (xS X).vm.findClass ("[" ++ (FieldType.char).toString) = some (G.2.2 3) from e2))
  subst e3
  exact k H1 locs ls (by rw [← mkW_app]; exact b1) b3 a3 T' hT Y
theorem V.newaP (C : Cx G X cc nL own fr lo mc ms) (hb : G.1 ≤ (xS X).heap.size) (hz : (xS X).heap.size + ce = G.1 + cs.length) {n : Int32} (N : Nat) {idx : Nat} (d : decode cc pc = .ok (.anewarray idx, 3)) (hw : Cond.classLink own idx "SliceSolver$Problem" ∈ TB) (hn : ¬ n < 0) (hN : n.toNatClampNeg = N) (hs : N ≤ 60000000) (hm : ce + 1 ≤ mc ∧ sl + N ≤ ms) (k : V G X nL (ce + 1) (sl + N) (pc + 3) lv (Rf G cs.length :: st) (cs ++ [aP G N (fun _ => none)])) : V G X nL ce sl pc lv (.int n :: st) cs := by
  intro H locs ls a1 a2 a3
  obtain ⟨c1, c2, c3, c4, c5, c6, c7, c8, c9, c10⟩ := C
  refine va_newq c1 c2 c4 (c5 _ hw) c6.2.2.1 c6.1 a1 (mkW_D _ _) a2 (fun q h => Nat.le_trans hb h) hn hN (by omega) (by rw [c9]; exact hm.1) (by rw [c10]; exact hm.2) d (fun q cA H1 bK b1 b2 b3 => ?_)
  intro T' hT Y
  have hq := V.fresh hz b1 b2 (by rw [← hT]; exact Y.heapSize)
  subst hq
  obtain ⟨kA, comp, -, -, -, e1⟩ : va_RA (xS X) cA (.object "SliceSolver$Problem") := (bK.2 5 (cA, .object "SliceSolver$Problem") rfl).2
  obtain ⟨kA2, comp2, -, -, -, e2⟩ : va_RA (xS X) (G.2.2 4) (.object "SliceSolver$Problem") := (c6.1.2 4 (G.2.2 4, .object "SliceSolver$Problem") rfl).2
  have e3 : cA = G.2.2 4 := Option.some.inj (e1.symm.trans e2)
  subst e3
  exact k H1 locs ls (by rw [← mkW_app]; exact b1) b3 a3 T' hT Y
theorem V.copyi (C : Cx G X cc nL own fr lo mc ms) {idx k0 k1 n0 n1 : Nat} {f g : Nat → Int32} {sp dp n : Int32} (h1 : Cond.methodLink own idx arraycopyName ∈ TB) (h2 : Cond.native arraycopyName ∈ TB) (h3 : Cond.static arraycopyName ∈ TB) (h4 : Cond.initialized "java/lang/System" ∈ TB) (d : decode cc pc = .ok (.invokestatic idx, 3)) (hc0 : cs[k0]? = some (aI G n0 f)) (hc1 : cs[k1]? = some (aI G n1 g)) (g1 : ¬ sp < 0) (g2 : ¬ dp < 0) (g3 : ¬ n < 0) (g4 : sp.toNatClampNeg + n.toNatClampNeg ≤ n0) (g5 : dp.toNatClampNeg + n.toNatClampNeg ≤ n1) (hf : 1 ≤ fr) (hlo : (st.map fun v => v.category).sum + (nativeFrameWords "java/lang/System" "arraycopy" 5 + 11) ≤ lo)
    (k : V G X nL ce sl (pc + 3) lv st (cs.set k1 (aI G n1 (va_cpy f g sp.toNatClampNeg dp.toNatClampNeg n.toNatClampNeg)))) : V G X nL ce sl pc lv (.int n :: .int dp :: Rf G k1 :: .int sp :: Rf G k0 :: st) cs := by
  intro H locs ls a1 a2 a3
  obtain ⟨c1, c2, c3, c4, c5, c6, c7, c8, c9, c10⟩ := C
  exact va_copyi c1 c2 (by rw [c3]; exact a3.1.symm) c4 (c5 _ h1) (c5 _ h2) (c5 _ h3) (c5 _ h4) c6.1 a1 (mkW_D _ _) a2 k0 k1 0 0 (mkW_get hc0) (mkW_get hc1) (ty := .int) rfl rfl rfl g1 g2 g3 g4 g5 (fun i _ => rfl) (by rw [c7]; exact hf) (by rw [c8]; exact hlo) d (fun H1 locs1 b1 b2 b3 => k H1 locs1 ls (by rw [← mkW_set]; exact b1) b3 a3)
end
