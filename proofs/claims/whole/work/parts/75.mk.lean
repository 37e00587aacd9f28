/-! New objects: the rules where the world is what was there (pre) and what has been made since (L). -/
theorem app_at (pre L : List va_E) (i : Nat) : (pre ++ L)[pre.length + i]? = L[i]? := by rw [List.getElem?_append_right (Nat.le_add_right _ _), Nat.add_sub_cancel_left]
theorem app_set (pre L : List va_E) (i : Nat) (e : va_E) : (pre ++ L).set (pre.length + i) e = pre ++ L.set i e := by rw [List.set_append_right _ _ (Nat.le_add_right _ _), Nat.add_sub_cancel_left]
/-- a maker's contract: the new cell is the last one -/
abbrev CN (G : Gl) (μ : Mi) (As : List Value) (pre : List va_E) (e : va_E) (mc ms : Nat) (Q : List va_E → Prop) : Prop := Ctr G μ As (pre ++ [e]) true mc ms (fun v cs' => v = none ∧ ∃ B, Q B ∧ cs' = pre ++ B)
section
variable {G : Gl} {X : Cx0} {cc : ByteArray} {nL fr lo mc ms ce sl pc n : Nat} {own : String} {lv : List (Nat × Value)} {st : List Value} {pre L : List va_E}
theorem V.getL (C : Cx G X cc nL own fr lo mc ms) (hn : pre.length = n) {idx ci j : Nat} (i : Nat) {fin : Option Bool} {ty : FieldType} {fs : List Value} {v : Value} (F : FLk own idx ci j fin ty) (d : decode cc pc = .ok (.getfield idx, 3)) (hc : L[i]? = some (ob ci fs)) (hv : fs[j]? = some v) (k : V G X nL ce sl (pc + 3) lv (v :: st) (pre ++ L)) : V G X nL ce sl pc lv (Rf G (n + i) :: st) (pre ++ L) :=
  V.get C F d (by rw [← hn, app_at]; exact hc) hv k
theorem V.putFL (C : Cx G X cc nL own fr lo mc ms) (hin : (xMe X).name = "<init>") (hn : pre.length = n) {idx ci j : Nat} (i : Nat) {ty : FieldType} {fs : List Value} {v : Value} (F : FLk own idx ci j (some true) ty) (d : decode cc pc = .ok (.putfield idx, 3)) (hc : L[i]? = some (ob ci fs)) (hnr : narrow ty v = v) (hf : fits ty v = true) (hl : j < fs.length) (k : V G X nL ce sl (pc + 3) lv st (pre ++ L.set i (ob ci (fs.set j v)))) : V G X nL ce sl pc lv (v :: Rf G (n + i) :: st) (pre ++ L) :=
  V.putF C hin F d (by rw [← hn, app_at]; exact hc) hnr hf hl (by rw [← hn, app_set]; exact k)
theorem V.putL (C : Cx G X cc nL own fr lo mc ms) (hn : pre.length = n) {idx ci j : Nat} (i : Nat) {ty : FieldType} {fs : List Value} {v : Value} (F : FLk own idx ci j (some false) ty) (d : decode cc pc = .ok (.putfield idx, 3)) (hc : L[i]? = some (ob ci fs)) (hnr : narrow ty v = v) (hf : fits ty v = true) (hl : j < fs.length) (k : V G X nL ce sl (pc + 3) lv st (pre ++ L.set i (ob ci (fs.set j v)))) : V G X nL ce sl pc lv (v :: Rf G (n + i) :: st) (pre ++ L) :=
  V.put C F d (by rw [← hn, app_at]; exact hc) hnr hf hl (by rw [← hn, app_set]; exact k)
theorem V.newL (C : Cx G X cc nL own fr lo mc ms) (hb : G.1 ≤ (xS X).heap.size) (hn : pre.length = n) (hz : (xS X).heap.size + ce = G.1 + (n + L.length)) {idx ci N : Nat} {fs : List Value} (K : CLk own idx ci N fs) (d : decode cc pc = .ok (.new idx, 3)) (hm : ce + 1 ≤ mc ∧ sl + N ≤ ms) (k : V G X nL (ce + 1) (sl + N) (pc + 3) lv (Rf G (n + L.length) :: st) (pre ++ (L ++ [ob ci fs]))) : V G X nL ce sl pc lv st (pre ++ L) :=
  V.new C hb (by rw [List.length_append, hn]; exact hz) K d hm (by rw [List.length_append, hn, List.append_assoc]; exact k)
theorem V.newaIL (C : Cx G X cc nL own fr lo mc ms) (hb : G.1 ≤ (xS X).heap.size) (hn : pre.length = n) (hz : (xS X).heap.size + ce = G.1 + (n + L.length)) {z : Int32} (N : Nat) (d : decode cc pc = .ok (.newarray .int, 2)) (h0 : ¬ z < 0) (hN : z.toNatClampNeg = N) (hs : N ≤ 60000000) (hm : ce + 1 ≤ mc ∧ sl + N ≤ ms) (k : V G X nL (ce + 1) (sl + N) (pc + 2) lv (Rf G (n + L.length) :: st) (pre ++ (L ++ [aI G N (fun _ => 0)]))) : V G X nL ce sl pc lv (.int z :: st) (pre ++ L) :=
  V.newaI C hb (by rw [List.length_append, hn]; exact hz) N d arrW_int h0 hN hs hm (by rw [List.length_append, hn, List.append_assoc]; exact k)
theorem V.newaLL (C : Cx G X cc nL own fr lo mc ms) (hb : G.1 ≤ (xS X).heap.size) (hn : pre.length = n) (hz : (xS X).heap.size + ce = G.1 + (n + L.length)) {z : Int32} (N : Nat) (d : decode cc pc = .ok (.newarray .long, 2)) (h0 : ¬ z < 0) (hN : z.toNatClampNeg = N) (hs : N ≤ 60000000) (hm : ce + 1 ≤ mc ∧ sl + N ≤ ms) (k : V G X nL (ce + 1) (sl + N) (pc + 2) lv (Rf G (n + L.length) :: st) (pre ++ (L ++ [aL G N (fun _ => 0)]))) : V G X nL ce sl pc lv (.int z :: st) (pre ++ L) :=
  V.newaL C hb (by rw [List.length_append, hn]; exact hz) N d arrW_long h0 hN hs hm (by rw [List.length_append, hn, List.append_assoc]; exact k)
theorem V.newaZL (C : Cx G X cc nL own fr lo mc ms) (hb : G.1 ≤ (xS X).heap.size) (hn : pre.length = n) (hz : (xS X).heap.size + ce = G.1 + (n + L.length)) {z : Int32} (N : Nat) (d : decode cc pc = .ok (.newarray .boolean, 2)) (h0 : ¬ z < 0) (hN : z.toNatClampNeg = N) (hs : N ≤ 60000000) (hm : ce + 1 ≤ mc ∧ sl + N ≤ ms) (k : V G X nL (ce + 1) (sl + N) (pc + 2) lv (Rf G (n + L.length) :: st) (pre ++ (L ++ [aZ G N (fun _ => 0)]))) : V G X nL ce sl pc lv (.int z :: st) (pre ++ L) :=
  V.newaZ C hb (by rw [List.length_append, hn]; exact hz) N d arrW_boolean h0 hN hs hm (by rw [List.length_append, hn, List.append_assoc]; exact k)
theorem V.newaCL (C : Cx G X cc nL own fr lo mc ms) (hb : G.1 ≤ (xS X).heap.size) (hn : pre.length = n) (hz : (xS X).heap.size + ce = G.1 + (n + L.length)) {z : Int32} (N : Nat) (d : decode cc pc = .ok (.newarray .char, 2)) (h0 : ¬ z < 0) (hN : z.toNatClampNeg = N) (hs : N ≤ 60000000) (hm : ce + 1 ≤ mc ∧ sl + N ≤ ms) (k : V G X nL (ce + 1) (sl + N) (pc + 2) lv (Rf G (n + L.length) :: st) (pre ++ (L ++ [aC G N (fun _ => 0)]))) : V G X nL ce sl pc lv (.int z :: st) (pre ++ L) :=
  V.newaC C hb (by rw [List.length_append, hn]; exact hz) N d arrW_char h0 hN hs hm (by rw [List.length_append, hn, List.append_assoc]; exact k)
theorem V.newaPL (C : Cx G X cc nL own fr lo mc ms) (hb : G.1 ≤ (xS X).heap.size) (hn : pre.length = n) (hz : (xS X).heap.size + ce = G.1 + (n + L.length)) {z : Int32} (N : Nat) {idx : Nat} (d : decode cc pc = .ok (.anewarray idx, 3)) (hw : Cond.classLink own idx "SliceSolver$Problem" ∈ TB) (h0 : ¬ z < 0) (hN : z.toNatClampNeg = N) (hs : N ≤ 60000000) (hm : ce + 1 ≤ mc ∧ sl + N ≤ ms) (k : V G X nL (ce + 1) (sl + N) (pc + 3) lv (Rf G (n + L.length) :: st) (pre ++ (L ++ [aP G N (fun _ => none)]))) : V G X nL ce sl pc lv (.int z :: st) (pre ++ L) :=
  V.newaP C hb (by rw [List.length_append, hn]; exact hz) N d hw h0 hN hs hm (by rw [List.length_append, hn, List.append_assoc]; exact k)
theorem V.pastL (C : Cx G X cc nL own fr lo mc ms) (hn : pre.length = n) {N : Nat} (i j : Nat) {f : Nat → Option Nat} {fs : List Value} {z : Int32} (d : decode cc pc = .ok (.aastore, 1)) (hc : L[i]? = some (aP G N f)) (hj : L[j]? = some (ob 4 fs)) (hin : vp_in z N) (k : V G X nL ce sl (pc + 1) lv st (pre ++ L.set i (aP G N (va_up f z.toNatClampNeg (some (n + j)))))) : V G X nL ce sl pc lv (Rf G (n + j) :: .int z :: Rf G (n + i) :: st) (pre ++ L) :=
  V.past C d (by rw [← hn, app_at]; exact hc) (by rw [← hn, app_at]; exact hj) hin (by
    have e := app_set pre L i (aP G N (va_up f z.toNatClampNeg (some (n + j))))
    rw [hn] at e
    rw [e]; exact k)
theorem V.iniI (C : Cx G X cc nL own fr lo mc ms) (hn : pre.length = n) (hz : (xS X).heap.size + ce = G.1 + (n + (L.length + 1))) {idx k mc' ms' : Nat} {μ : Mi} {As : List Value} {st0 : List Value} {e : va_E} {Q : List va_E → Prop} (Lk : LkI own idx μ k) (M : MOk μ) (hret : μ.2.2.2.1 = none) (d : decode cc pc = .ok (.invokespecial idx, 3)) (h : CN G μ (Rf G (n + L.length) :: As) (pre ++ L) e mc' ms' Q) (hk : As.length = k) (hst : st0 = As.reverse ++ Rf G (n + L.length) :: st) (hw : (st.map fun v => v.category).sum ≤ 8) (hr : μ.2.2.2.2.1 + 1 ≤ fr ∧ 8 + (μ.2.2.1 + 11) + μ.2.2.2.2.2 ≤ lo) (hm : ce + mc' ≤ mc ∧ sl + ms' ≤ ms) (go : ∀ B, Q B → V G X nL (ce + mc') (sl + ms') (pc + 3) lv st (pre ++ (L ++ B))) : V G X nL ce sl pc lv st0 (pre ++ (L ++ [e])) := by
  rw [← List.append_assoc]
  refine V.callI C Lk M hret d h hk hst hw hr hm (fun _ => ⟨by rw [List.length_append, List.length_append, hn]; exact (by omega), Or.inr (by rw [List.length_append]; simp)⟩) (fun v cs' hp => ?_)
  obtain ⟨rfl, B, hB, rfl⟩ := hp
  have := go B hB
  rw [← List.append_assoc] at this
  exact this
theorem V.iniN (C : Cx G X cc nL own fr lo mc ms) (hn : pre.length = n) (hz : (xS X).heap.size + ce = G.1 + (n + (L.length + 1))) {idx k mc' ms' : Nat} {μ : Mi} {As : List Value} {st0 : List Value} {e : va_E} {Q : List va_E → Prop} (Lk : LkIN own idx μ k) (M : MOk μ) (hret : μ.2.2.2.1 = none) (d : decode cc pc = .ok (.invokespecial idx, 3)) (h : CN G μ (Rf G (n + L.length) :: As) (pre ++ L) e mc' ms' Q) (hk : As.length = k) (hst : st0 = As.reverse ++ Rf G (n + L.length) :: st) (hw : (st.map fun v => v.category).sum ≤ 8) (hr : μ.2.2.2.2.1 + 1 ≤ fr ∧ 8 + (μ.2.2.1 + 11) + μ.2.2.2.2.2 ≤ lo) (hm : ce + mc' ≤ mc ∧ sl + ms' ≤ ms) (go : ∀ B, Q B → V G X nL (ce + mc') (sl + ms') (pc + 3) lv st (pre ++ (L ++ B))) : V G X nL ce sl pc lv st0 (pre ++ (L ++ [e])) := by
  rw [← List.append_assoc]
  refine V.callIN C Lk M hret d h hk hst hw hr hm (fun _ => ⟨by rw [List.length_append, List.length_append, hn]; exact (by omega), Or.inr (by rw [List.length_append]; simp)⟩) (fun v cs' hp => ?_)
  obtain ⟨rfl, B, hB, rfl⟩ := hp
  have := go B hB
  rw [← List.append_assoc] at this
  exact this
/-- an array of references: what lies beyond its end doesn't count -/
theorem V.paP {cs : List va_E} {k0 N : Nat} {f f' : Nat → Option Nat} (hc : cs[k0]? = some (aP G N f)) (hf : ∀ j, j < N → f j = f' j) (k : V G X nL ce sl pc lv st (cs.set k0 (aP G N f'))) : V G X nL ce sl pc lv st cs := by
  intro H locs ls a1 a2 a3
  refine k H locs ls (fun i q hq => ?_) a2 a3
  obtain ⟨e, he, rfl⟩ := mkW_inv hq
  rw [List.getElem?_set] at he
  by_cases hi : k0 = i
  · subst hi
    rw [if_pos rfl] at he
    split at he
    · cases he
      have h1 := a1 _ _ (mkW_get (b := G.1) hc)
      have e1 : vp_cell (G.2.2 4) (N, .inr (.inr (.inr (.inr (fun j => (f j).map (G.1 + ·)))))) = vp_cell (G.2.2 4) (N, .inr (.inr (.inr (.inr (fun j => (f' j).map (G.1 + ·)))))) := by
        rw [vp_cell_q, vp_cell_q]
        unfold arrV
        congr 1
        apply Array.ext_getElem?
        intro j
        by_cases hj : j < N
        · simp [hj, hf j hj]
        · simp [hj]
      show H[G.1 + k0]? = some (vp_cell (G.2.2 4) (N, .inr (.inr (.inr (.inr (fun j => (f' j).map (G.1 + ·)))))))
      rw [← e1]; exact h1
    · cases he
  · rw [if_neg hi] at he
    exact a1 _ _ (mkW_get he)
end
