/-! Arrays by natural places; Statements, Term: reads and small writes. -/
theorem sk_small {k t n : Nat} (h : sk k = some (.inl (t, n))) : n < 2 ^ 31 := by
  have h0 : ∀ j, j < 136 → (sk j).all (fun s => match s with
    | .inl (_, n) => decide (n < 2 ^ 31)
    | .inr _ => true) = true := by decide +kernel
  have hl : k < 136 := (List.getElem?_eq_some_iff.mp h).1
  have h1 := h0 k hl
  rw [h] at h1
  simpa using h1
section
variable {G : Gl} {X : Cx0} {cc : ByteArray} {nL fr lo mc ms ce sl pc : Nat} {own : String} {lv : List (Nat × Value)} {st : List Value} {σ : SS}
theorem V.paldN (C : Cx G X cc nL own fr lo mc ms) {k0 n i : Nat} (d : decode cc pc = .ok (.aaload, 1)) (hk : sk k0 = some (.inl (4, n))) (hi : i < n) (k : V G X nL ce sl (pc + 1) lv (Rf G (σ.2.2.2 i) :: st) (wld G σ)) : V G X nL ce sl pc lv (.int (nI i) :: Rf G k0 :: st) (wld G σ) := by
  have hn := sk_small hk
  exact V.paldS C d hk (vp_in_nI hi hn) (by rw [nI_clamp (Nat.lt_trans hi hn)]; exact k)
theorem V.pastN (C : Cx G X cc nL own fr lo mc ms) {j i : Nat} {fs : List (Option Nat)} (d : decode cc pc = .ok (.aastore, 1)) (hj : sk j = some (.inr (4, fs))) (hi : i < 6) (k : V G X nL ce sl (pc + 1) lv st (wld G (sP σ (va_up σ.2.2.2 i j)))) : V G X nL ce sl pc lv (Rf G j :: .int (nI i) :: Rf G 30 :: st) (wld G σ) :=
  V.pastS C d hj (vp_in_nI hi (by decide)) (by rw [nI_clamp (by omega)]; exact k)
theorem V.ialdN (C : Cx G X cc nL own fr lo mc ms) {k0 n i : Nat} (d : decode cc pc = .ok (.iaload, 1)) (hk : sk k0 = some (.inl (0, n))) (hi : i < n) (k : V G X nL ce sl (pc + 1) lv (.int (σ.2.1 k0 i) :: st) (wld G σ)) : V G X nL ce sl pc lv (.int (nI i) :: Rf G k0 :: st) (wld G σ) := by
  have hn := sk_small hk
  exact V.ialdS C d hk (vp_in_nI hi hn) (by rw [nI_clamp (Nat.lt_trans hi hn)]; exact k)
theorem V.zaldN (C : Cx G X cc nL own fr lo mc ms) {k0 n i : Nat} (d : decode cc pc = .ok (.baload, 1)) (hk : sk k0 = some (.inl (2, n))) (hi : i < n) (k : V G X nL ce sl (pc + 1) lv (.int (σ.2.1 k0 i) :: st) (wld G σ)) : V G X nL ce sl pc lv (.int (nI i) :: Rf G k0 :: st) (wld G σ) := by
  have hn := sk_small hk
  exact V.zaldS C d hk (vp_in_nI hi hn) (by rw [nI_clamp (Nat.lt_trans hi hn)]; exact k)
theorem V.caldN (C : Cx G X cc nL own fr lo mc ms) {k0 n i : Nat} (d : decode cc pc = .ok (.caload, 1)) (hk : sk k0 = some (.inl (3, n))) (hi : i < n) (k : V G X nL ce sl (pc + 1) lv (.int (σ.2.1 k0 i) :: st) (wld G σ)) : V G X nL ce sl pc lv (.int (nI i) :: Rf G k0 :: st) (wld G σ) := by
  have hn := sk_small hk
  exact V.caldS C d hk (vp_in_nI hi hn) (by rw [nI_clamp (Nat.lt_trans hi hn)]; exact k)
theorem V.laldN (C : Cx G X cc nL own fr lo mc ms) {k0 n i : Nat} (d : decode cc pc = .ok (.laload, 1)) (hk : sk k0 = some (.inl (1, n))) (hi : i < n) (k : V G X nL ce sl (pc + 1) lv (.long (σ.2.2.1 k0 i) :: st) (wld G σ)) : V G X nL ce sl pc lv (.int (nI i) :: Rf G k0 :: st) (wld G σ) := by
  have hn := sk_small hk
  exact V.laldS C d hk (vp_in_nI hi hn) (by rw [nI_clamp (Nat.lt_trans hi hn)]; exact k)
theorem V.iastN (C : Cx G X cc nL own fr lo mc ms) {k0 n i : Nat} {x : Int32} (d : decode cc pc = .ok (.iastore, 1)) (hk : sk k0 = some (.inl (0, n))) (hi : i < n)  (k : V G X nL ce sl (pc + 1) lv st (wld G (sA σ k0 (va_up (σ.2.1 k0) i x)))) : V G X nL ce sl pc lv (.int x :: .int (nI i) :: Rf G k0 :: st) (wld G σ) := by
  have hn := sk_small hk
  exact V.iastS C d hk (vp_in_nI hi hn) (by rw [nI_clamp (Nat.lt_trans hi hn)]; exact k)
theorem V.zastN (C : Cx G X cc nL own fr lo mc ms) {k0 n i : Nat} {x : Int32} (d : decode cc pc = .ok (.bastore, 1)) (hk : sk k0 = some (.inl (2, n))) (hi : i < n) (hv : x = 0 ∨ x = 1) (k : V G X nL ce sl (pc + 1) lv st (wld G (sA σ k0 (va_up (σ.2.1 k0) i x)))) : V G X nL ce sl pc lv (.int x :: .int (nI i) :: Rf G k0 :: st) (wld G σ) := by
  have hn := sk_small hk
  exact V.zastS C d hk (vp_in_nI hi hn) hv (by rw [nI_clamp (Nat.lt_trans hi hn)]; exact k)
theorem V.castN (C : Cx G X cc nL own fr lo mc ms) {k0 n i : Nat} {x : Int32} (d : decode cc pc = .ok (.castore, 1)) (hk : sk k0 = some (.inl (3, n))) (hi : i < n) (hv : vp_nar .char x = x) (k : V G X nL ce sl (pc + 1) lv st (wld G (sA σ k0 (va_up (σ.2.1 k0) i x)))) : V G X nL ce sl pc lv (.int x :: .int (nI i) :: Rf G k0 :: st) (wld G σ) := by
  have hn := sk_small hk
  exact V.castS C d hk (vp_in_nI hi hn) hv (by rw [nI_clamp (Nat.lt_trans hi hn)]; exact k)
theorem V.lastN (C : Cx G X cc nL own fr lo mc ms) {k0 n i : Nat} {x : Int64} (d : decode cc pc = .ok (.lastore, 1)) (hk : sk k0 = some (.inl (1, n))) (hi : i < n)  (k : V G X nL ce sl (pc + 1) lv st (wld G (sL σ k0 (va_up (σ.2.2.1 k0) i x)))) : V G X nL ce sl pc lv (.long x :: .int (nI i) :: Rf G k0 :: st) (wld G σ) := by
  have hn := sk_small hk
  exact V.lastS C d hk (vp_in_nI hi hn) (by rw [nI_clamp (Nat.lt_trans hi hn)]; exact k)
end
/-- a list of statements at o, of capacity cap -/
def StA (o cap : Nat) : Prop := sk o = some (.inr (6, [none, none, some (o + 1), some (o + 2), some (o + 3)])) ∧ sk (o + 1) = some (.inl (0, cap)) ∧ sk (o + 2) = some (.inl (0, cap * 32)) ∧ sk (o + 3) = some (.inl (0, cap * 2)) ∧ cap ≤ 10
/-- a problem at p -/
def PbA (p : Nat) : Prop := sk p = some (.inr (4, [some (p + 1), some (p + 2), some (p + 6)])) ∧ sk (p + 1) = some (.inl (0, 8)) ∧ StA (p + 2) 10 ∧ StA (p + 6) 3
def pbs : List Nat := [9, 19, 31, 41, 51, 61, 71, 81, 91, 101]
theorem PbA_of {p : Nat} (h : p ∈ pbs) : PbA p := by
  simp only [pbs, List.mem_cons, List.mem_nil_iff, or_false] at h
  rcases h with rfl | rfl | rfl | rfl | rfl | rfl | rfl | rfl | rfl | rfl <;> exact ⟨rfl, rfl, ⟨rfl, rfl, rfl, rfl, by decide⟩, ⟨rfl, rfl, rfl, rfl, by decide⟩⟩
set_option maxRecDepth 100000 in
set_option maxHeartbeats 4000000 in
theorem ct_St_count (G : Gl) (σ : SS) (o cap : Nat) (hS : StA o cap) : CI G mX6_count [Rf G o] σ (fun r σ1 => r = σ.1 o 1 ∧ σ1 = σ) := by
  refine Ctr.of oX6_count (Nat.le_of_ble_eq_true rfl) ?_
  intro X C R hnm hz0
  have C : Cx G X cX6_count 1 RX6 0 0 0 0 := C
  have R : Cr G X (some .int) 0 0 _ := R
  show V G X 1 0 0 0 [(0, Rf G o)] [] (wld G σ)
  obtain ⟨ho, h1, h2, h3, hcap⟩ := hS
  refine V.aload_n C 0 rfl rfl dX6_count_0 ?_
  refine V.getI C fX6_31 dX6_count_1 (by assumption) rfl ?_
  exact V.iretS C R dX6_count_4 ⟨rfl, rfl⟩
set_option maxRecDepth 100000 in
set_option maxHeartbeats 4000000 in
theorem ct_St_isFull (G : Gl) (σ : SS) (o cap : Nat) (hS : StA o cap) : CI G mX6_isFull [Rf G o] σ (fun r σ1 => r = bI (decide (¬ σ.1 o 1 < σ.1 o 0)) ∧ σ1 = σ) := by
  refine Ctr.of oX6_isFull (Nat.le_of_ble_eq_true rfl) ?_
  intro X C R hnm hz0
  have C : Cx G X cX6_isFull 1 RX6 0 0 0 0 := C
  have R : Cr G X (some .boolean) 0 0 _ := R
  show V G X 1 0 0 0 [(0, Rf G o)] [] (wld G σ)
  obtain ⟨ho, h1, h2, h3, hcap⟩ := hS
  refine V.aload_n C 0 rfl rfl dX6_isFull_0 ?_
  refine V.getI C fX6_31 dX6_isFull_1 (by assumption) rfl ?_
  refine V.aload_n C 0 rfl rfl dX6_isFull_4 ?_
  refine V.getI C fX6_15 dX6_isFull_5 (by assumption) rfl ?_
  refine V.icmp_lt C 15 dX6_isFull_8 rfl (fun h8 => ?_) (fun h8 => ?_)
  · refine V.iconst C (nI 0) c_0 dX6_isFull_15 ?_
    exact V.zretS C R dX6_isFull_16 (by first | exact Or.inl rfl | exact Or.inr rfl | exact bI01 _) (by first | exact ⟨by simp only [h8, decide_true]; rfl, rfl⟩ | exact ⟨by simp only [h8, decide_false]; rfl, rfl⟩)
  · refine V.iconst C (nI 1) c_1 dX6_isFull_11 ?_
    refine V.goto C 16 dX6_isFull_12 rfl ?_
    exact V.zretS C R dX6_isFull_16 (by first | exact Or.inl rfl | exact Or.inr rfl | exact bI01 _) (by first | exact ⟨by simp only [h8, decide_true]; rfl, rfl⟩ | exact ⟨by simp only [h8, decide_false]; rfl, rfl⟩)
set_option maxRecDepth 100000 in
set_option maxHeartbeats 4000000 in
theorem ct_St_has (G : Gl) (σ : SS) (o cap c : Nat) (x : Int32) (hS : StA o cap) (hc : σ.1 o 1 = nI c) (hcc : c < 2 ^ 31) : CI G mX6_has [Rf G o, .int x] σ (fun r σ1 => r = bI (inB x c) ∧ σ1 = σ) := by
  refine Ctr.of oX6_has (Nat.le_of_ble_eq_true rfl) ?_
  intro X C R hnm hz0
  have C : Cx G X cX6_has 2 RX6 0 0 0 0 := C
  have R : Cr G X (some .boolean) 0 0 _ := R
  show V G X 2 0 0 0 [(0, Rf G o), (1, .int x)] [] (wld G σ)
  obtain ⟨ho, h1, h2, h3, hcap⟩ := hS
  refine V.iload_n C 1 rfl rfl dX6_has_0 ?_
  refine V.if_lt C 16 dX6_has_1 rfl (fun h1 => ?_) (fun h1 => ?_)
  · refine V.iconst C (nI 0) c_0 dX6_has_16 ?_
    exact V.zretS C R dX6_has_17 (by first | exact Or.inl rfl | exact Or.inr rfl | exact bI01 _) (by first | exact ⟨by rw [inB_in h1 h9 hcc]; rfl, rfl⟩ | exact ⟨by rw [inB_lt0 h1]; rfl, rfl⟩ | exact ⟨by rw [inB_ge h9 hcc]; rfl, rfl⟩)
  · refine V.iload_n C 1 rfl rfl dX6_has_4 ?_
    refine V.aload_n C 0 rfl rfl dX6_has_5 ?_
    refine V.getI C fX6_31 dX6_has_6 (by assumption) rfl ?_
    rw [hc]
    refine V.icmp_ge C 16 dX6_has_9 rfl (fun h9 => ?_) (fun h9 => ?_)
    · refine V.iconst C (nI 0) c_0 dX6_has_16 ?_
      exact V.zretS C R dX6_has_17 (by first | exact Or.inl rfl | exact Or.inr rfl | exact bI01 _) (by first | exact ⟨by rw [inB_in h1 h9 hcc]; rfl, rfl⟩ | exact ⟨by rw [inB_lt0 h1]; rfl, rfl⟩ | exact ⟨by rw [inB_ge h9 hcc]; rfl, rfl⟩)
    · refine V.iconst C (nI 1) c_1 dX6_has_12 ?_
      refine V.goto C 17 dX6_has_13 rfl ?_
      exact V.zretS C R dX6_has_17 (by first | exact Or.inl rfl | exact Or.inr rfl | exact bI01 _) (by first | exact ⟨by rw [inB_in h1 h9 hcc]; rfl, rfl⟩ | exact ⟨by rw [inB_lt0 h1]; rfl, rfl⟩ | exact ⟨by rw [inB_ge h9 hcc]; rfl, rfl⟩)
set_option maxRecDepth 100000 in
set_option maxHeartbeats 4000000 in
theorem ct_St_widthOf (G : Gl) (σ : SS) (o cap c i : Nat) (hS : StA o cap) (hc : σ.1 o 1 = nI c) (hcc : c ≤ cap) (hi : i < 2 ^ 31) : CI G mX6_widthOf [Rf G o, .int (nI i)] σ (fun r σ1 => r = (if i < c then σ.2.1 (o + 1) i else 0) ∧ σ1 = σ) := by
  refine Ctr.of oX6_widthOf (Nat.le_of_ble_eq_true rfl) ?_
  intro X C R hnm hz0
  have C : Cx G X cX6_widthOf 2 RX6 1 21 0 0 := C
  have R : Cr G X (some .int) 0 0 _ := R
  show V G X 2 0 0 0 [(0, Rf G o), (1, .int (nI i))] [] (wld G σ)
  obtain ⟨ho, h1, h2, h3, hcap⟩ := hS
  refine V.aload_n C 0 rfl rfl dX6_widthOf_0 ?_
  refine V.iload_n C 1 rfl rfl dX6_widthOf_1 ?_
  refine V.cVi C lX6_34 oX6_has dX6_widthOf_2 (ct_St_has G σ o cap c (nI i) ⟨ho, h1, h2, h3, hcap⟩ hc (by omega)) (by assumption) rfl rfl (Nat.le_of_ble_eq_true rfl) ⟨Nat.le_of_ble_eq_true rfl, Nat.le_of_ble_eq_true rfl⟩ ⟨Nat.le_of_ble_eq_true rfl, Nat.le_of_ble_eq_true rfl⟩ (fun r2 σ2 p2 => ?_)
  obtain ⟨e2, e3⟩ := p2
  rw [e2, e3, inB_nI hi]
  refine V.if_eq C 17 dX6_widthOf_5 rfl (fun h5 => ?_) (fun h5 => ?_)
  · have h6 : ¬ i < c := by simpa using bI_eq0 h5
    refine V.iconst C (nI 0) c_0 dX6_widthOf_17 ?_
    exact V.iretS C R dX6_widthOf_18 (by first | exact ⟨by rw [if_pos h6], rfl⟩ | exact ⟨by rw [if_neg h6]; rfl, rfl⟩)
  · have h6 : i < c := by simpa using bI_ne0 h5
    refine V.aload_n C 0 rfl rfl dX6_widthOf_8 ?_
    refine V.getR C fX6_21 dX6_widthOf_9 (by assumption) rfl ?_
    refine V.iload_n C 1 rfl rfl dX6_widthOf_12 ?_
    refine V.ialdN C dX6_widthOf_13 (by assumption) (by omega) ?_
    refine V.goto C 18 dX6_widthOf_14 rfl ?_
    exact V.iretS C R dX6_widthOf_18 (by first | exact ⟨by rw [if_pos h6], rfl⟩ | exact ⟨by rw [if_neg h6]; rfl, rfl⟩)
set_option maxRecDepth 100000 in
set_option maxHeartbeats 4000000 in
theorem ct_St_node (G : Gl) (σ : SS) (o cap i s b : Nat) (hS : StA o cap) (hi : i < cap) (hs : s < 2) (hb : b < 16) : CI G mX6_node [Rf G o, .int (nI i), .int (nI s), .int (nI b)] σ (fun r σ1 => r = σ.2.1 (o + 2) ((i * 2 + s) * 16 + b) ∧ σ1 = σ) := by
  refine Ctr.of oX6_node (Nat.le_of_ble_eq_true rfl) ?_
  intro X C R hnm hz0
  have C : Cx G X cX6_node 4 RX6 0 0 0 0 := C
  have R : Cr G X (some .int) 0 0 _ := R
  show V G X 4 0 0 0 [(0, Rf G o), (1, .int (nI i)), (2, .int (nI s)), (3, .int (nI b))] [] (wld G σ)
  obtain ⟨ho, h1, h2, h3, hcap⟩ := hS
  refine V.aload_n C 0 rfl rfl dX6_node_0 ?_
  refine V.getR C fX6_25 dX6_node_1 (by assumption) rfl ?_
  refine V.iload_n C 1 rfl rfl dX6_node_4 ?_
  refine V.iconst C (nI 2) c_2 dX6_node_5 ?_
  refine V.imul C dX6_node_6 ?_
  refine V.iload_n C 2 rfl rfl dX6_node_7 ?_
  refine V.iadd C dX6_node_8 ?_
  refine V.bipush C (nI 16) b_16 dX6_node_9 ?_
  refine V.imul C dX6_node_11 ?_
  refine V.iload_n C 3 rfl rfl dX6_node_12 ?_
  refine V.iadd C dX6_node_13 ?_
  rw [nI_mul, nI_add, nI_mul, nI_add]
  refine V.ialdN C dX6_node_14 (by assumption) (by omega) ?_
  exact V.iretS C R dX6_node_15 ⟨rfl, rfl⟩
set_option maxRecDepth 100000 in
set_option maxHeartbeats 4000000 in
theorem ct_St_partEndsAt (G : Gl) (σ : SS) (o cap i s b : Nat) (hS : StA o cap) (hi : i < cap) (hs : s < 2) : CI G mX6_partEndsAt [Rf G o, .int (nI i), .int (nI s), .int (nI b)] σ (fun r σ1 => r = bI (decide (¬ (σ.2.1 (o + 3) (i * 2 + s) &&& shl32 (nI 1) (nI b)) = 0)) ∧ σ1 = σ) := by
  refine Ctr.of oX6_partEndsAt (Nat.le_of_ble_eq_true rfl) ?_
  intro X C R hnm hz0
  have C : Cx G X cX6_partEndsAt 4 RX6 0 0 0 0 := C
  have R : Cr G X (some .boolean) 0 0 _ := R
  show V G X 4 0 0 0 [(0, Rf G o), (1, .int (nI i)), (2, .int (nI s)), (3, .int (nI b))] [] (wld G σ)
  obtain ⟨ho, h1, h2, h3, hcap⟩ := hS
  refine V.aload_n C 0 rfl rfl dX6_partEndsAt_0 ?_
  refine V.getR C fX6_28 dX6_partEndsAt_1 (by assumption) rfl ?_
  refine V.iload_n C 1 rfl rfl dX6_partEndsAt_4 ?_
  refine V.iconst C (nI 2) c_2 dX6_partEndsAt_5 ?_
  refine V.imul C dX6_partEndsAt_6 ?_
  refine V.iload_n C 2 rfl rfl dX6_partEndsAt_7 ?_
  refine V.iadd C dX6_partEndsAt_8 ?_
  rw [nI_mul, nI_add]
  refine V.ialdN C dX6_partEndsAt_9 (by assumption) (by omega) ?_
  refine V.iconst C (nI 1) c_1 dX6_partEndsAt_10 ?_
  refine V.iload_n C 3 rfl rfl dX6_partEndsAt_11 ?_
  refine V.ishl C dX6_partEndsAt_12 ?_
  refine V.iand C dX6_partEndsAt_13 ?_
  refine V.if_eq C 21 dX6_partEndsAt_14 rfl (fun h14 => ?_) (fun h14 => ?_)
  · refine V.iconst C (nI 0) c_0 dX6_partEndsAt_21 ?_
    exact V.zretS C R dX6_partEndsAt_22 (by first | exact Or.inl rfl | exact Or.inr rfl | exact bI01 _) (by first | exact ⟨by simp only [h14, decide_true, decide_false, not_true, not_false_iff]; rfl, rfl⟩ | exact ⟨by simp only [h14, not_false_iff, decide_true]; rfl, rfl⟩)
  · refine V.iconst C (nI 1) c_1 dX6_partEndsAt_17 ?_
    refine V.goto C 22 dX6_partEndsAt_18 rfl ?_
    exact V.zretS C R dX6_partEndsAt_22 (by first | exact Or.inl rfl | exact Or.inr rfl | exact bI01 _) (by first | exact ⟨by simp only [h14, decide_true, decide_false, not_true, not_false_iff]; rfl, rfl⟩ | exact ⟨by simp only [h14, not_false_iff, decide_true]; rfl, rfl⟩)
set_option maxRecDepth 100000 in
set_option maxHeartbeats 4000000 in
theorem ct_St_clear (G : Gl) (σ : SS) (o cap : Nat) (hS : StA o cap) : CV G mX6_clear [Rf G o] σ (fun σ1 => σ1 = sF σ o 1 (nI 0)) := by
  refine Ctr.of oX6_clear (Nat.le_of_ble_eq_true rfl) ?_
  intro X C R hnm hz0
  have C : Cx G X cX6_clear 1 RX6 0 0 0 0 := C
  have R : Cr G X none 0 0 _ := R
  show V G X 1 0 0 0 [(0, Rf G o)] [] (wld G σ)
  obtain ⟨ho, h1, h2, h3, hcap⟩ := hS
  refine V.aload_n C 0 rfl rfl dX6_clear_0 ?_
  refine V.iconst C (nI 0) c_0 dX6_clear_1 ?_
  refine V.putI C fX6_31 dX6_clear_2 (by assumption) rfl ?_
  exact V.vretS C R dX6_clear_5 rfl
