/-! The answers on slices are one answer; what the law's start gives. -/
theorem ssR.uniq {P : Prob} {K : Nat → Bool} {x y r r' : Int32} (h : ssR P K x y r) (h' : ssR P K x y r') : r = r' := by
  cases q : isS P K x y with
  | false => rw [h.1 q, h'.1 q]
  | true =>
    obtain ⟨p, hp, rfl⟩ := h.2 q
    obtain ⟨p', hp', rfl⟩ := h'.2 q
    rw [hp.uniq hp']
theorem rpR.uniq {P : Prob} {K : Nat → Bool} {x y r r' : Int32} (h : rpR P K x y r) (h' : rpR P K x y r') : r = r' := by
  cases q : isS P K x y with
  | false => rw [h.1 q, h'.1 q]
  | true =>
    obtain ⟨p, hp, rfl⟩ := h.2 q
    obtain ⟨p', hp', rfl⟩ := h'.2 q
    rw [hp.uniq hp']
theorem stP_top {P : Prob} {K : Nat → Bool} (hw : wfP P) (hL : Least P K) {v j q : Nat} (h : stP (cutF K v) (j + 1) q) (hq : q ≤ 16) : ¬ cntN (cutF K v) 16 < j + 1 := by
  rcases h with ⟨a, b⟩ | ⟨a, b, c⟩
  · omega
  · have q16 : q < 16 := by
      rcases Nat.lt_or_ge q 16 with z | z
      · exact z
      · have e : q = 16 := by omega
        have := hL.2.inn hw (show K (16 * v + q) = true from b)
        omega
    have := cntN_mono (cutF K v) (show q + 1 ≤ 16 from q16)
    rw [cntN_s, b] at this
    simp at this
    omega
theorem swR.uniq {P : Prob} {K : Nat → Bool} {x y r r' : Int32} (hw : wfP P) (hL : Least P K) (h : swR P K x y r) (h' : swR P K x y r') : r = r' := by
  cases z : isS P K x y with
  | false => rw [h.1 z, h'.1 z]
  | true =>
    obtain ⟨p, q, hp, hq, rfl⟩ := h.2 z
    obtain ⟨p', q', hp', hq', rfl⟩ := h'.2 z
    rw [hp.uniq hp']
    have e : q = q' := by
      rcases hq with a | a <;> rcases hq' with b | b
      · exact a.1.uniq b.1
      · exact absurd b.1 (stP_top hw hL a.1 a.2)
      · exact absurd a.1 (stP_top hw hL b.1 b.2)
      · rw [a.2, b.2]
    rw [e]
theorem nest_in : ∀ q ∈ nestL, nestW q ∈ lw_tbl := List.forall_mem_cons.mpr ⟨List.mem_of_getElem? (i := 108) (by decide +kernel), List.forall_mem_cons.mpr ⟨List.mem_of_getElem? (i := 144) (by decide +kernel), List.forall_mem_cons.mpr ⟨List.mem_of_getElem? (i := 173) (by decide +kernel), List.forall_mem_cons.mpr ⟨List.mem_of_getElem? (i := 225) (by decide +kernel), List.forall_mem_cons.mpr ⟨List.mem_of_getElem? (i := 235) (by decide +kernel), List.forall_mem_cons.mpr ⟨List.mem_of_getElem? (i := 268) (by decide +kernel), List.forall_mem_cons.mpr ⟨List.mem_of_getElem? (i := 456) (by decide +kernel), List.forall_mem_cons.mpr ⟨List.mem_of_getElem? (i := 515) (by decide +kernel), List.forall_mem_cons.mpr ⟨List.mem_of_getElem? (i := 607) (by decide +kernel), List.forall_mem_cons.mpr ⟨List.mem_of_getElem? (i := 614) (by decide +kernel), List.forall_mem_cons.mpr ⟨List.mem_of_getElem? (i := 617) (by decide +kernel), List.forall_mem_cons.mpr ⟨List.mem_of_getElem? (i := 649) (by decide +kernel), fun _ h => absurd h List.not_mem_nil⟩⟩⟩⟩⟩⟩⟩⟩⟩⟩⟩⟩
theorem nest_tab : ∀ q ∈ nestL, (nestW q).onTables = true := fun _ _ => rfl
theorem arr_of {args : Array Value} {s : State} {ty : FieldType} (h : (Cond.arrayClass ty).before args s = true) : ∃ cA : ClassId, ArrOfT s cA ty ∧ s.vm.findClass ("[" ++ ty.toString) = some cA := by
  obtain ⟨c, k, comp, h1, h2, h3⟩ := Cond.arrayClass_spec h
  exact ⟨c, fun n z => ⟨fun k h => (by cases h), k, h2, comp, h3⟩, h1⟩
theorem arr_ob {args : Array Value} {s : State} {C : String} (h : (Cond.arrayOver (.object C)).before args s = true) : ∃ cA : ClassId, ArrOfT s cA (.object C) ∧ va_RA s cA (.object C) := by
  obtain ⟨comp, cA, kA, h1, h2, h3, h4, h5⟩ := Cond.arrayOver_spec h
  exact ⟨cA, fun n z => ⟨fun k h => (by cases h), kA, h3, comp, h4⟩, kA, comp, h3, h4, h1, h5⟩
set_option maxRecDepth 100000 in
set_option maxHeartbeats 4000000 in
theorem start_K {s : State} {args : Array Value} (hts : ∀ w ∈ lw_tbl, w.before args s = true) : ∃ D : va_G, ∀ (k : Nat) (q : vw_C), vwCl[k]? = some q → u_Kn s q.1 q.2.1 q.2.2 (D.1 k) (D.2 k) := by
  obtain ⟨c0, i0, h0⟩ := u_known (C := RX0) (T := TX0) (N := 3) (n := 3) hts (fun w hw => TB_in (lay_X0 w hw)) (hts (.instantiable RX0 3) (List.mem_of_getElem? (i := 244) (by decide +kernel)))
  obtain ⟨c1, i1, h1⟩ := u_known (C := RX1) (T := TX1) (N := 1) (n := 1) hts (fun w hw => TB_in (lay_X1 w hw)) (hts (.instantiable RX1 1) (List.mem_of_getElem? (i := 234) (by decide +kernel)))
  obtain ⟨c2, i2, h2⟩ := u_known (C := RX2) (T := TX2) (N := 2) (n := 2) hts (fun w hw => TB_in (lay_X2 w hw)) (hts (.instantiable RX2 2) (List.mem_of_getElem? (i := 218) (by decide +kernel)))
  obtain ⟨c3, i3, h3⟩ := u_known (C := RX3) (T := TX3) (N := 5) (n := 5) hts (fun w hw => TB_in (lay_X3 w hw)) (hts (.instantiable RX3 5) (List.mem_of_getElem? (i := 267) (by decide +kernel)))
  obtain ⟨c4, i4, h4⟩ := u_known (C := RX4) (T := TX4) (N := 3) (n := 3) hts (fun w hw => TB_in (lay_X4 w hw)) (hts (.instantiable RX4 3) (List.mem_of_getElem? (i := 172) (by decide +kernel)))
  obtain ⟨c5, i5, h5⟩ := u_known (C := RX5) (T := TX5) (N := 4) (n := 4) hts (fun w hw => TB_in (lay_X5 w hw)) (hts (.instantiable RX5 4) (List.mem_of_getElem? (i := 137) (by decide +kernel)))
  obtain ⟨c6, i6, h6⟩ := u_known (C := RX6) (T := TX6) (N := 5) (n := 5) hts (fun w hw => TB_in (lay_X6 w hw)) (hts (.instantiable RX6 5) (List.mem_of_getElem? (i := 178) (by decide +kernel)))
  obtain ⟨c7, i7, h7⟩ := u_known (C := RX7) (T := TX7) (N := 3) (n := 3) hts (fun w hw => TB_in (lay_X7 w hw)) (hts (.instantiable RX7 3) (List.mem_of_getElem? (i := 143) (by decide +kernel)))
  obtain ⟨c8, i8, h8⟩ := u_known (C := RX8) (T := TX8) (N := 7) (n := 7) hts (fun w hw => TB_in (lay_X8 w hw)) (hts (.instantiable RX8 7) (List.mem_of_getElem? (i := 107) (by decide +kernel)))
  obtain ⟨c9, i9, h9⟩ := u_known (C := RX9) (T := TX9) (N := 13) (n := 13) hts (fun w hw => TB_in (lay_X9 w hw)) (hts (.instantiable RX9 13) (List.mem_of_getElem? (i := 99) (by decide +kernel)))
  obtain ⟨c10, i10, h10⟩ := u_known (C := RX10) (T := TX10) (N := 26) (n := 26) hts (fun w hw => TB_in (lay_X10 w hw)) (hts (.instantiable RX10 26) (List.mem_of_getElem? (i := 894) (by decide +kernel)))
  refine ⟨(fun k => ([c0, c1, c2, c3, c4, c5, c6, c7, c8, c9, c10] : List ClassId).getD k c0, fun k => ([i0, i1, i2, i3, i4, i5, i6, i7, i8, i9, i10] : List (Nat → Nat)).getD k i0), fun k q hq => ?_⟩
  match k, hq with
  | 0, hq => cases hq; exact h0
  | 1, hq => cases hq; exact h1
  | 2, hq => cases hq; exact h2
  | 3, hq => cases hq; exact h3
  | 4, hq => cases hq; exact h4
  | 5, hq => cases hq; exact h5
  | 6, hq => cases hq; exact h6
  | 7, hq => cases hq; exact h7
  | 8, hq => cases hq; exact h8
  | 9, hq => cases hq; exact h9
  | 10, hq => cases hq; exact h10
  | k + 11, hq => simp [vwCl] at hq
set_option maxRecDepth 100000 in
set_option maxHeartbeats 4000000 in
theorem start_S {s : State} {args : Array Value} (hgv : (Jvm.Cond.and given_1 narrow_1).before args s = true) : ∃ adK adV : Nat → Nat, vk_S 2 [4, 3] [[98, 105, 116, 115], [110, 111, 116]] adK adV (fun q => s.heap.size ≤ q) s s.heap ∧ (Term.string "SliceSolver$Text" 47).eval args s none [] s = some (.ref (adK 0)) ∧ (Term.string "SliceSolver$Text" 53).eval args s none [] s = some (.ref (adK 1)) := by
  have hs := flat_of_before _ hgv
  have hA : ∀ a : Nat, a < s.heap.size → ¬ (fun q => s.heap.size ≤ q) a := fun a h q => absurd (show s.heap.size ≤ a from q) (by omega)
  have two : ∀ i : Nat, i < 2 → i = 0 ∨ i = 1 := fun i hi => by omega
  obtain ⟨adK, adV, h1, h2⟩ := vk_Sof (args := args) (s := s) (N := 2) (tm := fun i => Term.string "SliceSolver$Text" (if i = 0 then 47 else 53)) (len := [4, 3]) (byt := [[98, 105, 116, 115], [110, 111, 116]]) (A := fun q => s.heap.size ≤ q)
    (fun i hi => by rcases two i hi with rfl | rfl <;> decide)
    (fun i hi => by
      rcases two i hi with rfl | rfl
      · exact hs (Cond.exactly (.string "SliceSolver$Text" 47) "java/lang/String") (by decide +kernel)
      · exact hs (Cond.exactly (.string "SliceSolver$Text" 53) "java/lang/String") (by decide +kernel))
    (fun i hi => by
      rcases two i hi with rfl | rfl
      · exact hs (Cond.eq (.field (.string "SliceSolver$Text" 47) "java/lang/String" "coder" "B") (.int 0)) (by decide +kernel)
      · exact hs (Cond.eq (.field (.string "SliceSolver$Text" 53) "java/lang/String" "coder" "B") (.int 0)) (by decide +kernel))
    (fun i hi => by
      rcases two i hi with rfl | rfl
      · exact hs (Cond.arrayOf (.field (.string "SliceSolver$Text" 47) "java/lang/String" "value" "[B") .byte) (by decide +kernel)
      · exact hs (Cond.arrayOf (.field (.string "SliceSolver$Text" 53) "java/lang/String" "value" "[B") .byte) (by decide +kernel))
    (fun i hi => by
      rcases two i hi with rfl | rfl
      · exact hs (Cond.eq (.length (.field (.string "SliceSolver$Text" 47) "java/lang/String" "value" "[B")) (.int 4)) (by decide +kernel)
      · exact hs (Cond.eq (.length (.field (.string "SliceSolver$Text" 53) "java/lang/String" "value" "[B")) (.int 3)) (by decide +kernel))
    (fun i hi j hj => by
      rcases two i hi with rfl | rfl
      · have hj4 : j < 4 := hj
        rcases (show j = 0 ∨ j = 1 ∨ j = 2 ∨ j = 3 by omega) with rfl | rfl | rfl | rfl
        · exact hs (Cond.eq (.elem (.field (.string "SliceSolver$Text" 47) "java/lang/String" "value" "[B") (.int 0)) (.int 98)) (by decide +kernel)
        · exact hs (Cond.eq (.elem (.field (.string "SliceSolver$Text" 47) "java/lang/String" "value" "[B") (.int 1)) (.int 105)) (by decide +kernel)
        · exact hs (Cond.eq (.elem (.field (.string "SliceSolver$Text" 47) "java/lang/String" "value" "[B") (.int 2)) (.int 116)) (by decide +kernel)
        · exact hs (Cond.eq (.elem (.field (.string "SliceSolver$Text" 47) "java/lang/String" "value" "[B") (.int 3)) (.int 115)) (by decide +kernel)
      · have hj3 : j < 3 := hj
        rcases (show j = 0 ∨ j = 1 ∨ j = 2 by omega) with rfl | rfl | rfl
        · exact hs (Cond.eq (.elem (.field (.string "SliceSolver$Text" 53) "java/lang/String" "value" "[B") (.int 0)) (.int 110)) (by decide +kernel)
        · exact hs (Cond.eq (.elem (.field (.string "SliceSolver$Text" 53) "java/lang/String" "value" "[B") (.int 1)) (.int 111)) (by decide +kernel)
        · exact hs (Cond.eq (.elem (.field (.string "SliceSolver$Text" 53) "java/lang/String" "value" "[B") (.int 2)) (.int 116)) (by decide +kernel))
    (fun i j hi hj hij => by
      have hn := hs (Cond.not (Cond.eq (.string "SliceSolver$Text" 47) (.string "SliceSolver$Text" 53))) (by decide +kernel)
      rcases two i hi with rfl | rfl <;> rcases two j hj with rfl | rfl
      · exact absurd rfl hij
      · exact Or.inl hn
      · exact Or.inr hn
      · exact absurd rfl hij) hA
  exact ⟨adK, adV, h1, h2 0 (by decide), h2 1 (by decide)⟩
set_option maxRecDepth 100000 in
set_option maxHeartbeats 4000000 in
theorem start_Ks {s : State} {args : Array Value} (hts : ∀ w ∈ lw_tbl, w.before args s = true) (hgv : (Jvm.Cond.and given_1 narrow_1).before args s = true) : ∃ G : Gl, G.1 = s.heap.size ∧ Ks G s := by
  obtain ⟨D, hD⟩ := start_K hts
  obtain ⟨adK, adV, hS, hk0, hk1⟩ := start_S hgv
  obtain ⟨a0, b0, d0⟩ := arr_of (hts (Cond.arrayClass .int) (List.mem_of_getElem? (i := 135) (by decide +kernel)))
  obtain ⟨a1, b1, d1⟩ := arr_of (hts (Cond.arrayClass .long) (List.mem_of_getElem? (i := 288) (by decide +kernel)))
  obtain ⟨a2, b2, d2⟩ := arr_of (hts (Cond.arrayClass .boolean) (List.mem_of_getElem? (i := 978) (by decide +kernel)))
  obtain ⟨a3, b3, d3⟩ := arr_of (hts (Cond.arrayClass .char) (List.mem_of_getElem? (i := 134) (by decide +kernel)))
  have hov : (Cond.arrayOver (.object "SliceSolver$Problem")).before args s = true := hts _ (List.mem_of_getElem? (i := 224) (by decide +kernel))
  obtain ⟨a4, b4, d4⟩ := arr_ob hov
  have hs := flat_of_before _ hgv
  have hA : ∀ a : Nat, a < s.heap.size → ¬ (fun q => s.heap.size ≤ q) a := fun a h q => absurd (show s.heap.size ≤ a from q) (by omega)
  refine ⟨(s.heap.size, D, fun j => if j < 5 then ([a0, a1, a2, a3, a4] : List ClassId).getD j 0 else if j < 12 then adK (j - 10) else adV (j - 12)), rfl, ⟨hD, fun k q hq => ?_⟩, fun q hq => va_Nw.of (nest_tab q hq) (hts _ (nest_in q hq)), va_AO.of hov, ?_, ?_, ?_, ?_, ?_⟩
  · match k, hq with
    | 0, hq => cases hq; exact ⟨b0, d0⟩
    | 1, hq => cases hq; exact ⟨b1, d1⟩
    | 2, hq => cases hq; exact ⟨b2, d2⟩
    | 3, hq => cases hq; exact ⟨b3, d3⟩
    | 4, hq => cases hq; exact ⟨b4, d4⟩
    | k + 5, hq => simp [tyG] at hq
  · refine ⟨fun i hi => ?_, fun i j hi hj e => ?_⟩
    · have h1 := hS.1 i hi
      have e1 : (if 10 + i < 5 then ([a0, a1, a2, a3, a4] : List ClassId).getD (10 + i) 0 else if 10 + i < 12 then adK (10 + i - 10) else adV (10 + i - 12)) = adK i := by
        rw [if_neg (by omega), if_pos (by omega), Nat.add_sub_cancel_left]
      have e2 : (if 12 + i < 5 then ([a0, a1, a2, a3, a4] : List ClassId).getD (12 + i) 0 else if 12 + i < 12 then adK (12 + i - 10) else adV (12 + i - 12)) = adV i := by
        rw [if_neg (by omega), if_neg (by omega), Nat.add_sub_cancel_left]
      show va_O "java/lang/String" (if 10 + i < 5 then _ else _) _ s s.heap ∧ va_OF "java/lang/String" "coder" "B" (.int 0) (if 10 + i < 5 then _ else _) _ s s.heap ∧ va_OF "java/lang/String" "value" "[B" (.ref (if 12 + i < 5 then _ else _)) (if 10 + i < 5 then _ else _) _ s s.heap ∧ va_T .byte (if 12 + i < 5 then _ else _) _ _ _ s s.heap
      rw [e1, e2]
      exact h1
    · refine hS.2 i j hi hj ?_
      have e0 : (if 10 + i < 5 then ([a0, a1, a2, a3, a4] : List ClassId).getD (10 + i) 0 else if 10 + i < 12 then adK (10 + i - 10) else adV (10 + i - 12)) = (if 10 + j < 5 then ([a0, a1, a2, a3, a4] : List ClassId).getD (10 + j) 0 else if 10 + j < 12 then adK (10 + j - 10) else adV (10 + j - 12)) := e
      rw [if_neg (by omega), if_pos (by omega), if_neg (by omega), if_pos (by omega), Nat.add_sub_cancel_left, Nat.add_sub_cancel_left] at e0
      exact e0
  · exact vk_R.of (hts (Cond.stringRef "SliceSolver$Text" 47 "bits") (List.mem_of_getElem? (i := 382) (by decide +kernel))) hk0
  · exact vk_R.of (hts (Cond.stringRef "SliceSolver$Text" 53 "not") (List.mem_of_getElem? (i := 435) (by decide +kernel))) hk1
  · exact va_Zof (hts (Cond.laysStatic "java/lang/String" "COMPACT_STRINGS" "Z") (List.mem_of_getElem? (i := 396) (by decide +kernel))) (hts (Cond.initialized "java/lang/String") (List.mem_of_getElem? (i := 92) (by decide +kernel))) (va_eqt (hs (Cond.eq (.static "java/lang/String" "COMPACT_STRINGS" "Z") (.int 1)) (by decide +kernel))) hA
  · exact va_Zqof (hts (Cond.laysStatic "jdk/internal/util/Preconditions" "SIOOBE_FORMATTER" "Ljava/util/function/BiFunction;") (List.mem_of_getElem? (i := 412) (by decide +kernel))) (hts (Cond.initialized "jdk/internal/util/Preconditions") (List.mem_of_getElem? (i := 94) (by decide +kernel))) (hs (Cond.isRef (.static "jdk/internal/util/Preconditions" "SIOOBE_FORMATTER" "Ljava/util/function/BiFunction;")) (by decide +kernel)) hA
