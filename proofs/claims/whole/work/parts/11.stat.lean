/-! Numbers in range; the static helpers of SliceSolver. -/
def inB (x : Int32) (n : Nat) : Bool := decide (0 ≤ x.toInt ∧ x.toInt < n)
theorem lt0_iff (x : Int32) : x < 0 ↔ x.toInt < 0 := by rw [Int32.lt_iff_toInt_lt]; simp
theorem lt_iff (x y : Int32) : x < y ↔ x.toInt < y.toInt := Int32.lt_iff_toInt_lt
theorem le_iff (x y : Int32) : x ≤ y ↔ x.toInt ≤ y.toInt := Int32.le_iff_toInt_le
theorem inB_lt0 {x : Int32} {n : Nat} (h : x < 0) : inB x n = false := by
  have := (lt0_iff x).mp h
  simp [inB]; omega
theorem inB_ge {x : Int32} {n : Nat} (h : x ≥ nI n) (hn : n < 2 ^ 31) : inB x n = false := by
  have h1 : (nI n).toInt ≤ x.toInt := (le_iff _ _).mp h
  rw [nI_toInt hn] at h1
  simp [inB]; omega
theorem inB_in {x : Int32} {n : Nat} (h0 : ¬ x < 0) (h : ¬ x ≥ nI n) (hn : n < 2 ^ 31) : inB x n = true := by
  have h1 : ¬ (nI n).toInt ≤ x.toInt := fun q => h ((le_iff _ _).mpr q)
  rw [nI_toInt hn] at h1
  have h2 : ¬ x.toInt < 0 := fun q => h0 ((lt0_iff x).mpr q)
  simp [inB]; omega
theorem inB_nI {j n : Nat} (hj : j < 2 ^ 31) : inB (nI j) n = decide (j < n) := by
  simp only [inB, nI_toInt hj]
  congr 1
  apply propext
  omega
theorem inB_of {x : Int32} {n : Nat} (hn : n < 2 ^ 31) (h : inB x n = true) : ∃ j, j < n ∧ x = nI j := by
  have h1 : 0 ≤ x.toInt ∧ x.toInt < n := by simpa [inB] using h
  obtain ⟨j, hj, e⟩ := nI_of (x := x) (fun q => by have := (lt0_iff x).mp q; omega)
  refine ⟨j, ?_, e⟩
  rw [e, nI_toInt hj] at h1
  omega
theorem nI_div {a b : Nat} (ha : a < 2 ^ 31) (hb : b < 2 ^ 31) (h0 : 0 < b) : nI a / nI b = nI (a / b) := by
  apply Int32.toInt_inj.mp
  rw [Int32.toInt_div_of_ne_right, nI_toInt ha, nI_toInt hb, nI_toInt (Nat.lt_of_le_of_lt (Nat.div_le_self _ _) ha)]
  · rfl
  · intro h; have := congrArg Int32.toInt h; rw [nI_toInt hb] at this; simp at this; try omega
theorem nI_rem {a b : Nat} (ha : a < 2 ^ 31) (hb : b < 2 ^ 31) (h0 : 0 < b) : rem32 (nI a) (nI b) = nI (a % b) := by
  unfold rem32
  rw [nI_div ha hb h0, nI_mul]
  have h := Nat.div_add_mod a b
  rw [Nat.mul_comm] at h
  rw [nI_sub (by omega)]
  congr 1
  omega
set_option maxRecDepth 100000 in
set_option maxHeartbeats 4000000 in
theorem ct_isVariable (G : Gl) (σ : SS) (x : Int32) : CI G mX9_isVariable [.int x] σ (fun r σ1 => r = bI (inB x 8) ∧ σ1 = σ) := by
  refine Ctr.of oX9_isVariable (Nat.le_of_ble_eq_true rfl) ?_
  intro X C R hnm hz0
  have C : Cx G X cX9_isVariable 1 RX9 0 0 0 0 := C
  have R : Cr G X (some .boolean) 0 0 _ := R
  show V G X 1 0 0 0 [(0, .int x)] [] (wld G σ)
  refine V.iload_n C 0 rfl rfl dX9_isVariable_0 ?_
  refine V.if_lt C 14 dX9_isVariable_1 rfl (fun h1 => ?_) (fun h1 => ?_)
  · refine V.iconst C (nI 0) c_0 dX9_isVariable_14 ?_
    exact V.zretS C R dX9_isVariable_15 (by first | exact Or.inl rfl | exact Or.inr rfl | exact bI01 _) (by first | exact ⟨by rw [inB_in h1 h6 (by decide)]; rfl, rfl⟩ | exact ⟨by rw [inB_lt0 h1]; rfl, rfl⟩ | exact ⟨by rw [inB_ge h6 (by decide)]; rfl, rfl⟩)
  · refine V.iload_n C 0 rfl rfl dX9_isVariable_4 ?_
    refine V.bipush C (nI 8) b_8 dX9_isVariable_5 ?_
    refine V.icmp_ge C 14 dX9_isVariable_7 rfl (fun h6 => ?_) (fun h6 => ?_)
    · refine V.iconst C (nI 0) c_0 dX9_isVariable_14 ?_
      exact V.zretS C R dX9_isVariable_15 (by first | exact Or.inl rfl | exact Or.inr rfl | exact bI01 _) (by first | exact ⟨by rw [inB_in h1 h6 (by decide)]; rfl, rfl⟩ | exact ⟨by rw [inB_lt0 h1]; rfl, rfl⟩ | exact ⟨by rw [inB_ge h6 (by decide)]; rfl, rfl⟩)
    · refine V.iconst C (nI 1) c_1 dX9_isVariable_10 ?_
      refine V.goto C 15 dX9_isVariable_11 rfl ?_
      exact V.zretS C R dX9_isVariable_15 (by first | exact Or.inl rfl | exact Or.inr rfl | exact bI01 _) (by first | exact ⟨by rw [inB_in h1 h6 (by decide)]; rfl, rfl⟩ | exact ⟨by rw [inB_lt0 h1]; rfl, rfl⟩ | exact ⟨by rw [inB_ge h6 (by decide)]; rfl, rfl⟩)
set_option maxRecDepth 100000 in
set_option maxHeartbeats 4000000 in
theorem ct_isSlot (G : Gl) (σ : SS) (x : Int32) : CI G mX9_isSlot [.int x] σ (fun r σ1 => r = bI (inB x 2) ∧ σ1 = σ) := by
  refine Ctr.of oX9_isSlot (Nat.le_of_ble_eq_true rfl) ?_
  intro X C R hnm hz0
  have C : Cx G X cX9_isSlot 1 RX9 0 0 0 0 := C
  have R : Cr G X (some .boolean) 0 0 _ := R
  show V G X 1 0 0 0 [(0, .int x)] [] (wld G σ)
  refine V.iload_n C 0 rfl rfl dX9_isSlot_0 ?_
  refine V.if_lt C 13 dX9_isSlot_1 rfl (fun h1 => ?_) (fun h1 => ?_)
  · refine V.iconst C (nI 0) c_0 dX9_isSlot_13 ?_
    exact V.zretS C R dX9_isSlot_14 (by first | exact Or.inl rfl | exact Or.inr rfl | exact bI01 _) (by first | exact ⟨by rw [inB_in h1 h6 (by decide)]; rfl, rfl⟩ | exact ⟨by rw [inB_lt0 h1]; rfl, rfl⟩ | exact ⟨by rw [inB_ge h6 (by decide)]; rfl, rfl⟩)
  · refine V.iload_n C 0 rfl rfl dX9_isSlot_4 ?_
    refine V.iconst C (nI 2) c_2 dX9_isSlot_5 ?_
    refine V.icmp_ge C 13 dX9_isSlot_6 rfl (fun h6 => ?_) (fun h6 => ?_)
    · refine V.iconst C (nI 0) c_0 dX9_isSlot_13 ?_
      exact V.zretS C R dX9_isSlot_14 (by first | exact Or.inl rfl | exact Or.inr rfl | exact bI01 _) (by first | exact ⟨by rw [inB_in h1 h6 (by decide)]; rfl, rfl⟩ | exact ⟨by rw [inB_lt0 h1]; rfl, rfl⟩ | exact ⟨by rw [inB_ge h6 (by decide)]; rfl, rfl⟩)
    · refine V.iconst C (nI 1) c_1 dX9_isSlot_9 ?_
      refine V.goto C 14 dX9_isSlot_10 rfl ?_
      exact V.zretS C R dX9_isSlot_14 (by first | exact Or.inl rfl | exact Or.inr rfl | exact bI01 _) (by first | exact ⟨by rw [inB_in h1 h6 (by decide)]; rfl, rfl⟩ | exact ⟨by rw [inB_lt0 h1]; rfl, rfl⟩ | exact ⟨by rw [inB_ge h6 (by decide)]; rfl, rfl⟩)
set_option maxRecDepth 100000 in
set_option maxHeartbeats 4000000 in
theorem ct_isConstantNode (G : Gl) (σ : SS) (x : Int32) : CI G mX9_isConstantNode [.int x] σ (fun r σ1 => r = bI (decide (¬ x < nI 128)) ∧ σ1 = σ) := by
  refine Ctr.of oX9_isConstantNode (Nat.le_of_ble_eq_true rfl) ?_
  intro X C R hnm hz0
  have C : Cx G X cX9_isConstantNode 1 RX9 0 0 0 0 := C
  have R : Cr G X (some .boolean) 0 0 _ := R
  show V G X 1 0 0 0 [(0, .int x)] [] (wld G σ)
  refine V.iload_n C 0 rfl rfl dX9_isConstantNode_0 ?_
  refine V.sipush C (nI 128) s_128 dX9_isConstantNode_1 ?_
  refine V.icmp_lt C 11 dX9_isConstantNode_4 rfl (fun h4 => ?_) (fun h4 => ?_)
  · refine V.iconst C (nI 0) c_0 dX9_isConstantNode_11 ?_
    exact V.zretS C R dX9_isConstantNode_12 (by first | exact Or.inl rfl | exact Or.inr rfl | exact bI01 _) (by first | exact ⟨by simp only [h4, decide_true]; rfl, rfl⟩ | exact ⟨by simp only [h4, decide_false]; rfl, rfl⟩)
  · refine V.iconst C (nI 1) c_1 dX9_isConstantNode_7 ?_
    refine V.goto C 12 dX9_isConstantNode_8 rfl ?_
    exact V.zretS C R dX9_isConstantNode_12 (by first | exact Or.inl rfl | exact Or.inr rfl | exact bI01 _) (by first | exact ⟨by simp only [h4, decide_true]; rfl, rfl⟩ | exact ⟨by simp only [h4, decide_false]; rfl, rfl⟩)
set_option maxRecDepth 100000 in
set_option maxHeartbeats 4000000 in
theorem ct_variableOf (G : Gl) (σ : SS) (x : Nat) (hx : x < 2 ^ 31) : CI G mX9_variableOf [.int (nI x)] σ (fun r σ1 => r = nI (x / 16) ∧ σ1 = σ) := by
  refine Ctr.of oX9_variableOf (Nat.le_of_ble_eq_true rfl) ?_
  intro X C R hnm hz0
  have C : Cx G X cX9_variableOf 1 RX9 0 0 0 0 := C
  have R : Cr G X (some .int) 0 0 _ := R
  show V G X 1 0 0 0 [(0, .int (nI x))] [] (wld G σ)
  refine V.iload_n C 0 rfl rfl dX9_variableOf_0 ?_
  refine V.bipush C (nI 16) b_16 dX9_variableOf_1 ?_
  refine V.idiv C (by decide) dX9_variableOf_3 ?_
  exact V.iretS C R dX9_variableOf_4 ⟨nI_div hx (by decide) (by decide), rfl⟩
set_option maxRecDepth 100000 in
set_option maxHeartbeats 4000000 in
theorem ct_bitOf (G : Gl) (σ : SS) (x : Nat) (hx : x < 2 ^ 31) : CI G mX9_bitOf [.int (nI x)] σ (fun r σ1 => r = nI (x % 16) ∧ σ1 = σ) := by
  refine Ctr.of oX9_bitOf (Nat.le_of_ble_eq_true rfl) ?_
  intro X C R hnm hz0
  have C : Cx G X cX9_bitOf 1 RX9 0 0 0 0 := C
  have R : Cr G X (some .int) 0 0 _ := R
  show V G X 1 0 0 0 [(0, .int (nI x))] [] (wld G σ)
  refine V.iload_n C 0 rfl rfl dX9_bitOf_0 ?_
  refine V.bipush C (nI 16) b_16 dX9_bitOf_1 ?_
  refine V.irem C (by decide) dX9_bitOf_3 ?_
  exact V.iretS C R dX9_bitOf_4 ⟨nI_rem hx (by decide) (by decide), rfl⟩
set_option maxRecDepth 100000 in
set_option maxHeartbeats 4000000 in
theorem ct_nodeOf (G : Gl) (σ : SS) (x y : Nat) : CI G mX9_nodeOf [.int (nI x), .int (nI y)] σ (fun r σ1 => r = nI (x * 16 + y) ∧ σ1 = σ) := by
  refine Ctr.of oX9_nodeOf (Nat.le_of_ble_eq_true rfl) ?_
  intro X C R hnm hz0
  have C : Cx G X cX9_nodeOf 2 RX9 0 0 0 0 := C
  have R : Cr G X (some .int) 0 0 _ := R
  show V G X 2 0 0 0 [(0, .int (nI x)), (1, .int (nI y))] [] (wld G σ)
  refine V.iload_n C 0 rfl rfl dX9_nodeOf_0 ?_
  refine V.bipush C (nI 16) b_16 dX9_nodeOf_1 ?_
  refine V.imul C dX9_nodeOf_3 ?_
  refine V.iload_n C 1 rfl rfl dX9_nodeOf_4 ?_
  refine V.iadd C dX9_nodeOf_5 ?_
  exact V.iretS C R dX9_nodeOf_6 ⟨by rw [nI_mul, nI_add], rfl⟩
