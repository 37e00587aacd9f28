/-! The solver: what it answers of widths, counts, slices. -/
theorem stP_16 {f : Nat → Bool} {j p : Nat} (h : stP f j p) (hj : j ≤ cntN f 16) : p < 16 := by
  rcases h with ⟨a, b⟩ | ⟨a, b, c⟩
  · omega
  · rcases Nat.lt_or_ge p 16 with w | w
    · exact w
    · have := cntN_mono f w; omega
set_option maxRecDepth 100000 in
set_option maxHeartbeats 4000000 in
theorem ct_S_slicesOf (G : Gl) (σ : SS) (P : Prob) (K : Nat → Bool) (v : Nat) (hP : RP σ 9 P) (hW : wfP P) (hK : RK σ K) (hv : v < 8) : CI G mX9_slicesOf [Rf G 0, .int (nI v)] σ (fun r σ1 => r = nI (slN P K v) ∧ σ1 = σ) := by
  refine Ctr.of oX9_slicesOf (Nat.le_of_ble_eq_true rfl) ?_
  intro X C R hnm hz0
  have C : Cx G X cX9_slicesOf 2 RX9 2 41 0 0 := C
  have R : Cr G X (some .int) 0 0 _ := R
  show V G X 2 0 0 0 [(0, Rf G 0), (1, .int (nI v))] [] (wld G σ)
  have kk_0 := sk_0
  have kk_1 := sk_1
  have kk_9 := sk_9
  have kk_11 := sk_11
  have kk_15 := sk_15
  have kk_19 := sk_19
  have kk_29 := sk_29
  have kk_91 := sk_91
  have kk_101 := sk_101
  have kk_111 := sk_111
  have kk_113 := sk_113
  have kk_116 := sk_116
  have kk_119 := sk_119
  have w16_ := hW.1 v hv
  refine V.aload_n C 0 rfl rfl dX9_slicesOf_0 ?_
  refine V.getR C fX9_28 dX9_slicesOf_1 (by assumption) rfl ?_
  refine V.iload_n C 1 rfl rfl dX9_slicesOf_4 ?_
  refine V.cVi C lX9_135 oX4_widthOf dX9_slicesOf_5 (ct_Pb_widthOf G σ 9 v P (PbA_of (by decide)) hP hv) (by assumption) rfl rfl (Nat.le_of_ble_eq_true rfl) ⟨Nat.le_of_ble_eq_true rfl, Nat.le_of_ble_eq_true rfl⟩ ⟨Nat.le_of_ble_eq_true rfl, Nat.le_of_ble_eq_true rfl⟩ (fun rr_5 σ5 pp_5 => ?_)
  obtain ⟨ee_5, ff_5⟩ := pp_5
  rw [ee_5, ff_5]
  refine V.if_ne C 15 dX9_slicesOf_8 rfl (fun hb_8 => ?_) (fun hb_8 => ?_)
  · have z_ : ¬ P.1 v = 0 := fun q => hb_8 (by rw [q]; rfl)
    refine V.aload_n C 0 rfl rfl dX9_slicesOf_15 ?_
    refine V.getR C fX9_51 dX9_slicesOf_16 (by assumption) rfl ?_
    refine V.iload_n C 1 rfl rfl dX9_slicesOf_19 ?_
    refine V.cVi C lX9_213 oX1_countOf dX9_slicesOf_20 (ct_Cu_countOf G σ v K hK hv) (by assumption) rfl rfl (Nat.le_of_ble_eq_true rfl) ⟨Nat.le_of_ble_eq_true rfl, Nat.le_of_ble_eq_true rfl⟩ ⟨Nat.le_of_ble_eq_true rfl, Nat.le_of_ble_eq_true rfl⟩ (fun rr_20 σ20 pp_20 => ?_)
    obtain ⟨ee_20, ff_20⟩ := pp_20
    rw [ee_20, ff_20]
    refine V.iconst C (nI 1) c_1 dX9_slicesOf_23 ?_
    refine V.iadd C dX9_slicesOf_24 ?_
    rw [nI_add]
    exact V.iretS C R dX9_slicesOf_25 ⟨by unfold slN; rw [if_neg z_], rfl⟩
  · have z_ : P.1 v = 0 := nI_pe (by omega) (by omega) hb_8
    refine V.iconst C (nI 0) c_0 dX9_slicesOf_11 ?_
    refine V.goto C 25 dX9_slicesOf_12 rfl ?_
    exact V.iretS C R dX9_slicesOf_25 ⟨by unfold slN; rw [if_pos z_], rfl⟩
set_option maxRecDepth 100000 in
set_option maxHeartbeats 4000000 in
theorem ct_S_isSlice (G : Gl) (σ : SS) (P : Prob) (K : Nat → Bool) (x y : Int32) (hP : RP σ 9 P) (hW : wfP P) (hK : RK σ K) : CI G mX9_isSlice [Rf G 0, .int x, .int y] σ (fun r σ1 => r = bI (isS P K x y) ∧ σ1 = σ) := by
  refine Ctr.of oX9_isSlice (Nat.le_of_ble_eq_true rfl) ?_
  intro X C R hnm hz0
  have C : Cx G X cX9_isSlice 3 RX9 3 62 0 0 := C
  have R : Cr G X (some .boolean) 0 0 _ := R
  show V G X 3 0 0 0 [(0, Rf G 0), (1, .int x), (2, .int y)] [] (wld G σ)
  have kk_0 := sk_0
  have kk_1 := sk_1
  have kk_9 := sk_9
  have kk_11 := sk_11
  have kk_15 := sk_15
  have kk_19 := sk_19
  have kk_29 := sk_29
  have kk_91 := sk_91
  have kk_101 := sk_101
  have kk_111 := sk_111
  have kk_113 := sk_113
  have kk_116 := sk_116
  have kk_119 := sk_119
  refine V.iload_n C 1 rfl rfl dX9_isSlice_0 ?_
  refine V.cSi C lX9_132 oX9_isVariable dX9_isSlice_1 (ct_isVariable G σ x) rfl rfl (Nat.le_of_ble_eq_true rfl) ⟨Nat.le_of_ble_eq_true rfl, Nat.le_of_ble_eq_true rfl⟩ ⟨Nat.le_of_ble_eq_true rfl, Nat.le_of_ble_eq_true rfl⟩ (fun rr_1 σ1 pp_1 => ?_)
  obtain ⟨ee_1, ff_1⟩ := pp_1
  rw [ee_1, ff_1]
  refine V.if_eq C 24 dX9_isSlice_4 rfl (fun hb_4 => ?_) (fun hb_4 => ?_)
  · have z_ := bI_eq0 hb_4
    have w_ : isS P K x y = false := by unfold isS; rw [z_]; rfl
    refine V.iconst C (nI 0) c_0 dX9_isSlice_24 ?_
    exact V.zretS C R dX9_isSlice_25 (by first | exact Or.inl rfl | exact Or.inr rfl | exact bI01 _) ⟨by rw [w_]; rfl, rfl⟩
  · have z_ := bI_ne0 hb_4
    obtain ⟨v, hv, rfl⟩ := inB_of (by decide) z_
    have s17_ := slN_le (P := P) (K := K) (v := v)
    refine V.iload_n C 2 rfl rfl dX9_isSlice_7 ?_
    refine V.if_lt C 24 dX9_isSlice_8 rfl (fun hb_8 => ?_) (fun hb_8 => ?_)
    · have w_ : isS P K (nI v) y = false := by unfold isS; rw [nI_toNat (by omega), inB_lt0 hb_8, Bool.and_false]
      refine V.iconst C (nI 0) c_0 dX9_isSlice_24 ?_
      exact V.zretS C R dX9_isSlice_25 (by first | exact Or.inl rfl | exact Or.inr rfl | exact bI01 _) ⟨by rw [w_]; rfl, rfl⟩
    · refine V.iload_n C 2 rfl rfl dX9_isSlice_11 ?_
      refine V.aload_n C 0 rfl rfl dX9_isSlice_12 ?_
      refine V.iload_n C 1 rfl rfl dX9_isSlice_13 ?_
      refine V.cVi C lX9_139 oX9_slicesOf dX9_isSlice_14 (ct_S_slicesOf G σ P K v hP hW hK hv) (by assumption) rfl rfl (Nat.le_of_ble_eq_true rfl) ⟨Nat.le_of_ble_eq_true rfl, Nat.le_of_ble_eq_true rfl⟩ ⟨Nat.le_of_ble_eq_true rfl, Nat.le_of_ble_eq_true rfl⟩ (fun rr_14 σ14 pp_14 => ?_)
      obtain ⟨ee_14, ff_14⟩ := pp_14
      rw [ee_14, ff_14]
      refine V.icmp_ge C 24 dX9_isSlice_17 rfl (fun hb_17 => ?_) (fun hb_17 => ?_)
      · have w_ : isS P K (nI v) y = false := by unfold isS; rw [nI_toNat (by omega), inB_ge hb_17 (by omega), Bool.and_false]
        refine V.iconst C (nI 0) c_0 dX9_isSlice_24 ?_
        exact V.zretS C R dX9_isSlice_25 (by first | exact Or.inl rfl | exact Or.inr rfl | exact bI01 _) ⟨by rw [w_]; rfl, rfl⟩
      · have w_ : isS P K (nI v) y = true := by unfold isS; rw [nI_toNat (by omega), inB_in hb_8 hb_17 (by omega), z_]; rfl
        refine V.iconst C (nI 1) c_1 dX9_isSlice_20 ?_
        refine V.goto C 25 dX9_isSlice_21 rfl ?_
        exact V.zretS C R dX9_isSlice_25 (by first | exact Or.inl rfl | exact Or.inr rfl | exact bI01 _) ⟨by rw [w_]; rfl, rfl⟩
set_option maxRecDepth 100000 in
set_option maxHeartbeats 4000000 in
theorem ct_S_isBit (G : Gl) (σ : SS) (P : Prob) (x y : Int32) (hP : RP σ 9 P) (hW : wfP P) : CI G mX9_isBit [Rf G 0, .int x, .int y] σ (fun r σ1 => r = bI (isB P x y) ∧ σ1 = σ) := by
  refine Ctr.of oX9_isBit (Nat.le_of_ble_eq_true rfl) ?_
  intro X C R hnm hz0
  have C : Cx G X cX9_isBit 3 RX9 2 41 0 0 := C
  have R : Cr G X (some .boolean) 0 0 _ := R
  show V G X 3 0 0 0 [(0, Rf G 0), (1, .int x), (2, .int y)] [] (wld G σ)
  have kk_0 := sk_0
  have kk_1 := sk_1
  have kk_9 := sk_9
  have kk_11 := sk_11
  have kk_15 := sk_15
  have kk_19 := sk_19
  have kk_29 := sk_29
  have kk_91 := sk_91
  have kk_101 := sk_101
  have kk_111 := sk_111
  have kk_113 := sk_113
  have kk_116 := sk_116
  have kk_119 := sk_119
  refine V.iload_n C 1 rfl rfl dX9_isBit_0 ?_
  refine V.cSi C lX9_132 oX9_isVariable dX9_isBit_1 (ct_isVariable G σ x) rfl rfl (Nat.le_of_ble_eq_true rfl) ⟨Nat.le_of_ble_eq_true rfl, Nat.le_of_ble_eq_true rfl⟩ ⟨Nat.le_of_ble_eq_true rfl, Nat.le_of_ble_eq_true rfl⟩ (fun rr_1 σ1 pp_1 => ?_)
  obtain ⟨ee_1, ff_1⟩ := pp_1
  rw [ee_1, ff_1]
  refine V.if_eq C 27 dX9_isBit_4 rfl (fun hb_4 => ?_) (fun hb_4 => ?_)
  · have z_ := bI_eq0 hb_4
    have w_ : isB P x y = false := by unfold isB; rw [z_]; rfl
    refine V.iconst C (nI 0) c_0 dX9_isBit_27 ?_
    exact V.zretS C R dX9_isBit_28 (by first | exact Or.inl rfl | exact Or.inr rfl | exact bI01 _) ⟨by rw [w_]; rfl, rfl⟩
  · have z_ := bI_ne0 hb_4
    obtain ⟨v, hv, rfl⟩ := inB_of (by decide) z_
    have w16_ := hW.1 v hv
    refine V.iload_n C 2 rfl rfl dX9_isBit_7 ?_
    refine V.if_lt C 27 dX9_isBit_8 rfl (fun hb_8 => ?_) (fun hb_8 => ?_)
    · have w_ : isB P (nI v) y = false := by unfold isB; rw [nI_toNat (by omega), inB_lt0 hb_8, Bool.and_false]
      refine V.iconst C (nI 0) c_0 dX9_isBit_27 ?_
      exact V.zretS C R dX9_isBit_28 (by first | exact Or.inl rfl | exact Or.inr rfl | exact bI01 _) ⟨by rw [w_]; rfl, rfl⟩
    · refine V.iload_n C 2 rfl rfl dX9_isBit_11 ?_
      refine V.aload_n C 0 rfl rfl dX9_isBit_12 ?_
      refine V.getR C fX9_28 dX9_isBit_13 (by assumption) rfl ?_
      refine V.iload_n C 1 rfl rfl dX9_isBit_16 ?_
      refine V.cVi C lX9_135 oX4_widthOf dX9_isBit_17 (ct_Pb_widthOf G σ 9 v P (PbA_of (by decide)) hP hv) (by assumption) rfl rfl (Nat.le_of_ble_eq_true rfl) ⟨Nat.le_of_ble_eq_true rfl, Nat.le_of_ble_eq_true rfl⟩ ⟨Nat.le_of_ble_eq_true rfl, Nat.le_of_ble_eq_true rfl⟩ (fun rr_17 σ17 pp_17 => ?_)
      obtain ⟨ee_17, ff_17⟩ := pp_17
      rw [ee_17, ff_17]
      refine V.icmp_ge C 27 dX9_isBit_20 rfl (fun hb_20 => ?_) (fun hb_20 => ?_)
      · have w_ : isB P (nI v) y = false := by unfold isB; rw [nI_toNat (by omega), inB_ge hb_20 (by omega), Bool.and_false]
        refine V.iconst C (nI 0) c_0 dX9_isBit_27 ?_
        exact V.zretS C R dX9_isBit_28 (by first | exact Or.inl rfl | exact Or.inr rfl | exact bI01 _) ⟨by rw [w_]; rfl, rfl⟩
      · have w_ : isB P (nI v) y = true := by unfold isB; rw [nI_toNat (by omega), inB_in hb_8 hb_20 (by omega), z_]; rfl
        refine V.iconst C (nI 1) c_1 dX9_isBit_23 ?_
        refine V.goto C 28 dX9_isBit_24 rfl ?_
        exact V.zretS C R dX9_isBit_28 (by first | exact Or.inl rfl | exact Or.inr rfl | exact bI01 _) ⟨by rw [w_]; rfl, rfl⟩
set_option maxRecDepth 100000 in
set_option maxHeartbeats 4000000 in
theorem ct_S_width (G : Gl) (σ : SS) (P : Prob) (x : Int32) (hC : CInv σ P) : CI G mX9_width [Rf G 0, .int x] σ (fun r σ1 => r = wdR P x ∧ σ1 = σ) := by
  refine Ctr.of oX9_width (Nat.le_of_ble_eq_true rfl) ?_
  intro X C R hnm hz0
  have C : Cx G X cX9_width 2 RX9 2 41 0 0 := C
  have R : Cr G X (some .int) 0 0 _ := R
  show V G X 2 0 0 0 [(0, Rf G 0), (1, .int x)] [] (wld G σ)
  have kk_0 := sk_0
  have kk_1 := sk_1
  have kk_9 := sk_9
  have kk_11 := sk_11
  have kk_15 := sk_15
  have kk_19 := sk_19
  have kk_29 := sk_29
  have kk_91 := sk_91
  have kk_101 := sk_101
  have kk_111 := sk_111
  have kk_113 := sk_113
  have kk_116 := sk_116
  have kk_119 := sk_119
  refine V.iload_n C 1 rfl rfl dX9_width_0 ?_
  refine V.cSi C lX9_132 oX9_isVariable dX9_width_1 (ct_isVariable G σ x) rfl rfl (Nat.le_of_ble_eq_true rfl) ⟨Nat.le_of_ble_eq_true rfl, Nat.le_of_ble_eq_true rfl⟩ ⟨Nat.le_of_ble_eq_true rfl, Nat.le_of_ble_eq_true rfl⟩ (fun rr_1 σ1 pp_1 => ?_)
  obtain ⟨ee_1, ff_1⟩ := pp_1
  rw [ee_1, ff_1]
  refine V.if_eq C 18 dX9_width_4 rfl (fun hb_4 => ?_) (fun hb_4 => ?_)
  · have z_ := bI_eq0 hb_4
    refine V.iconst C ((-1)) c_m1 dX9_width_18 ?_
    exact V.iretS C R dX9_width_19 ⟨by unfold wdR; rw [if_neg (by rw [z_]; decide)], rfl⟩
  · have z_ := bI_ne0 hb_4
    obtain ⟨v, hv, rfl⟩ := inB_of (by decide) z_
    refine V.aload_n C 0 rfl rfl dX9_width_7 ?_
    refine V.getR C fX9_28 dX9_width_8 (by assumption) rfl ?_
    refine V.iload_n C 1 rfl rfl dX9_width_11 ?_
    refine V.cVi C lX9_135 oX4_widthOf dX9_width_12 (ct_Pb_widthOf G σ 9 v P (PbA_of (by decide)) hC.1 hv) (by assumption) rfl rfl (Nat.le_of_ble_eq_true rfl) ⟨Nat.le_of_ble_eq_true rfl, Nat.le_of_ble_eq_true rfl⟩ ⟨Nat.le_of_ble_eq_true rfl, Nat.le_of_ble_eq_true rfl⟩ (fun rr_12 σ12 pp_12 => ?_)
    obtain ⟨ee_12, ff_12⟩ := pp_12
    rw [ee_12, ff_12]
    refine V.goto C 19 dX9_width_15 rfl ?_
    exact V.iretS C R dX9_width_19 ⟨by unfold wdR; rw [if_pos z_, nI_toNat (by omega)], rfl⟩
set_option maxRecDepth 100000 in
set_option maxHeartbeats 4000000 in
theorem ct_S_eqCount (G : Gl) (σ : SS) (P : Prob) (hC : CInv σ P) : CI G mX9_equationCount [Rf G 0] σ (fun r σ1 => r = nI P.2.1.length ∧ σ1 = σ) := by
  refine Ctr.of oX9_equationCount (Nat.le_of_ble_eq_true rfl) ?_
  intro X C R hnm hz0
  have C : Cx G X cX9_equationCount 1 RX9 1 20 0 0 := C
  have R : Cr G X (some .int) 0 0 _ := R
  show V G X 1 0 0 0 [(0, Rf G 0)] [] (wld G σ)
  have kk_0 := sk_0
  have kk_1 := sk_1
  have kk_9 := sk_9
  have kk_11 := sk_11
  have kk_15 := sk_15
  have kk_19 := sk_19
  have kk_29 := sk_29
  have kk_91 := sk_91
  have kk_101 := sk_101
  have kk_111 := sk_111
  have kk_113 := sk_113
  have kk_116 := sk_116
  have kk_119 := sk_119
  refine V.aload_n C 0 rfl rfl dX9_equationCount_0 ?_
  refine V.getR C fX9_28 dX9_equationCount_1 (by assumption) rfl ?_
  refine V.getR C fX9_112 dX9_equationCount_4 (by assumption) rfl ?_
  refine V.cVi C lX9_126 oX6_count dX9_equationCount_7 (ct_St_count G σ 11 10 SA_11) (by assumption) rfl rfl (Nat.le_of_ble_eq_true rfl) ⟨Nat.le_of_ble_eq_true rfl, Nat.le_of_ble_eq_true rfl⟩ ⟨Nat.le_of_ble_eq_true rfl, Nat.le_of_ble_eq_true rfl⟩ (fun rr_7 σ7 pp_7 => ?_)
  obtain ⟨ee_7, ff_7⟩ := pp_7
  rw [ee_7, ff_7]
  exact V.iretS C R dX9_equationCount_10 ⟨hC.eq, rfl⟩
set_option maxRecDepth 100000 in
set_option maxHeartbeats 4000000 in
theorem ct_S_diCount (G : Gl) (σ : SS) (P : Prob) (hC : CInv σ P) : CI G mX9_disequationCount [Rf G 0] σ (fun r σ1 => r = nI P.2.2.length ∧ σ1 = σ) := by
  refine Ctr.of oX9_disequationCount (Nat.le_of_ble_eq_true rfl) ?_
  intro X C R hnm hz0
  have C : Cx G X cX9_disequationCount 1 RX9 1 20 0 0 := C
  have R : Cr G X (some .int) 0 0 _ := R
  show V G X 1 0 0 0 [(0, Rf G 0)] [] (wld G σ)
  have kk_0 := sk_0
  have kk_1 := sk_1
  have kk_9 := sk_9
  have kk_11 := sk_11
  have kk_15 := sk_15
  have kk_19 := sk_19
  have kk_29 := sk_29
  have kk_91 := sk_91
  have kk_101 := sk_101
  have kk_111 := sk_111
  have kk_113 := sk_113
  have kk_116 := sk_116
  have kk_119 := sk_119
  refine V.aload_n C 0 rfl rfl dX9_disequationCount_0 ?_
  refine V.getR C fX9_28 dX9_disequationCount_1 (by assumption) rfl ?_
  refine V.getR C fX9_129 dX9_disequationCount_4 (by assumption) rfl ?_
  refine V.cVi C lX9_126 oX6_count dX9_disequationCount_7 (ct_St_count G σ 15 3 SA_15) (by assumption) rfl rfl (Nat.le_of_ble_eq_true rfl) ⟨Nat.le_of_ble_eq_true rfl, Nat.le_of_ble_eq_true rfl⟩ ⟨Nat.le_of_ble_eq_true rfl, Nat.le_of_ble_eq_true rfl⟩ (fun rr_7 σ7 pp_7 => ?_)
  obtain ⟨ee_7, ff_7⟩ := pp_7
  rw [ee_7, ff_7]
  exact V.iretS C R dX9_disequationCount_10 ⟨hC.di, rfl⟩
set_option maxRecDepth 100000 in
set_option maxHeartbeats 4000000 in
theorem ct_S_sliceCount (G : Gl) (σ : SS) (P : Prob) (x : Int32) (hC : CInv σ P) : CI G mX9_sliceCount [Rf G 0, .int x] σ (fun r σ1 => ∃ K, Least P K ∧ r = scR P K x ∧ σ1 = σ) := by
  refine Ctr.of oX9_sliceCount (Nat.le_of_ble_eq_true rfl) ?_
  intro X C R hnm hz0
  have C : Cx G X cX9_sliceCount 2 RX9 3 62 0 0 := C
  have R : Cr G X (some .int) 0 0 _ := R
  show V G X 2 0 0 0 [(0, Rf G 0), (1, .int x)] [] (wld G σ)
  have kk_0 := sk_0
  have kk_1 := sk_1
  have kk_9 := sk_9
  have kk_11 := sk_11
  have kk_15 := sk_15
  have kk_19 := sk_19
  have kk_29 := sk_29
  have kk_91 := sk_91
  have kk_101 := sk_101
  have kk_111 := sk_111
  have kk_113 := sk_113
  have kk_116 := sk_116
  have kk_119 := sk_119
  obtain ⟨K, hK, hL⟩ := hC.2.2.1
  have hW := hC.2.1
  refine V.iload_n C 1 rfl rfl dX9_sliceCount_0 ?_
  refine V.cSi C lX9_132 oX9_isVariable dX9_sliceCount_1 (ct_isVariable G σ x) rfl rfl (Nat.le_of_ble_eq_true rfl) ⟨Nat.le_of_ble_eq_true rfl, Nat.le_of_ble_eq_true rfl⟩ ⟨Nat.le_of_ble_eq_true rfl, Nat.le_of_ble_eq_true rfl⟩ (fun rr_1 σ1 pp_1 => ?_)
  obtain ⟨ee_1, ff_1⟩ := pp_1
  rw [ee_1, ff_1]
  refine V.if_eq C 15 dX9_sliceCount_4 rfl (fun hb_4 => ?_) (fun hb_4 => ?_)
  · have z_ := bI_eq0 hb_4
    refine V.iconst C ((-1)) c_m1 dX9_sliceCount_15 ?_
    exact V.iretS C R dX9_sliceCount_16 ⟨K, hL, by unfold scR; rw [if_neg (by rw [z_]; decide)], rfl⟩
  · have z_ := bI_ne0 hb_4
    obtain ⟨v, hv, rfl⟩ := inB_of (by decide) z_
    refine V.aload_n C 0 rfl rfl dX9_sliceCount_7 ?_
    refine V.iload_n C 1 rfl rfl dX9_sliceCount_8 ?_
    refine V.cVi C lX9_139 oX9_slicesOf dX9_sliceCount_9 (ct_S_slicesOf G σ P K v hC.1 hW hK hv) (by assumption) rfl rfl (Nat.le_of_ble_eq_true rfl) ⟨Nat.le_of_ble_eq_true rfl, Nat.le_of_ble_eq_true rfl⟩ ⟨Nat.le_of_ble_eq_true rfl, Nat.le_of_ble_eq_true rfl⟩ (fun rr_9 σ9 pp_9 => ?_)
    obtain ⟨ee_9, ff_9⟩ := pp_9
    rw [ee_9, ff_9]
    refine V.goto C 16 dX9_sliceCount_12 rfl ?_
    exact V.iretS C R dX9_sliceCount_16 ⟨K, hL, by unfold scR; rw [if_pos z_, nI_toNat (by omega)], rfl⟩
set_option maxRecDepth 100000 in
set_option maxHeartbeats 4000000 in
theorem ct_S_sliceStart (G : Gl) (σ : SS) (P : Prob) (x y : Int32) (hC : CInv σ P) : CI G mX9_sliceStart [Rf G 0, .int x, .int y] σ (fun r σ1 => ∃ K, Least P K ∧ ssR P K x y r ∧ σ1 = σ) := by
  refine Ctr.of oX9_sliceStart (Nat.le_of_ble_eq_true rfl) ?_
  intro X C R hnm hz0
  have C : Cx G X cX9_sliceStart 3 RX9 4 84 0 0 := C
  have R : Cr G X (some .int) 0 0 _ := R
  show V G X 3 0 0 0 [(0, Rf G 0), (1, .int x), (2, .int y)] [] (wld G σ)
  have kk_0 := sk_0
  have kk_1 := sk_1
  have kk_9 := sk_9
  have kk_11 := sk_11
  have kk_15 := sk_15
  have kk_19 := sk_19
  have kk_29 := sk_29
  have kk_91 := sk_91
  have kk_101 := sk_101
  have kk_111 := sk_111
  have kk_113 := sk_113
  have kk_116 := sk_116
  have kk_119 := sk_119
  obtain ⟨K, hK, hL⟩ := hC.2.2.1
  have hW := hC.2.1
  refine V.aload_n C 0 rfl rfl dX9_sliceStart_0 ?_
  refine V.iload_n C 1 rfl rfl dX9_sliceStart_1 ?_
  refine V.iload_n C 2 rfl rfl dX9_sliceStart_2 ?_
  refine V.cVi C lX9_142 oX9_isSlice dX9_sliceStart_3 (ct_S_isSlice G σ P K x y hC.1 hW hK) (by assumption) rfl rfl (Nat.le_of_ble_eq_true rfl) ⟨Nat.le_of_ble_eq_true rfl, Nat.le_of_ble_eq_true rfl⟩ ⟨Nat.le_of_ble_eq_true rfl, Nat.le_of_ble_eq_true rfl⟩ (fun rr_3 σ3 pp_3 => ?_)
  obtain ⟨ee_3, ff_3⟩ := pp_3
  rw [ee_3, ff_3]
  refine V.if_eq C 21 dX9_sliceStart_6 rfl (fun hb_6 => ?_) (fun hb_6 => ?_)
  · have z_ := bI_eq0 hb_6
    refine V.iconst C ((-1)) c_m1 dX9_sliceStart_21 ?_
    exact V.iretS C R dX9_sliceStart_22 ⟨K, hL, ⟨fun _ => rfl, fun q => absurd (z_.symm.trans q) (by decide)⟩, rfl⟩
  · have z_ := bI_ne0 hb_6
    obtain ⟨v, j, hv, hj, rfl, rfl⟩ := isS_of z_
    have j17_ := slN_le (P := P) (K := K) (v := v)
    have ej_ : slN P K v = cntN (cutF K v) 16 + 1 := by
      unfold slN at hj ⊢
      split at hj
      · omega
      · rename_i q; rw [if_neg q]
    have c0_ := cutF_0 hL.2 hW v
    refine V.aload_n C 0 rfl rfl dX9_sliceStart_9 ?_
    refine V.getR C fX9_51 dX9_sliceStart_10 (by assumption) rfl ?_
    refine V.iload_n C 1 rfl rfl dX9_sliceStart_13 ?_
    refine V.iload_n C 2 rfl rfl dX9_sliceStart_14 ?_
    refine V.cVi C lX9_146 oX1_startOf dX9_sliceStart_15 (ct_Cu_startOf G σ v j K hK hv c0_ (by omega)) (by assumption) rfl rfl (Nat.le_of_ble_eq_true rfl) ⟨Nat.le_of_ble_eq_true rfl, Nat.le_of_ble_eq_true rfl⟩ ⟨Nat.le_of_ble_eq_true rfl, Nat.le_of_ble_eq_true rfl⟩ (fun rr_15 σ15 pp_15 => ?_)
    obtain ⟨p_, ee_15, st_, ff_15⟩ := pp_15
    rw [ee_15, ff_15]
    refine V.goto C 22 dX9_sliceStart_18 rfl ?_
    exact V.iretS C R dX9_sliceStart_22 ⟨K, hL, ⟨fun q => absurd (z_.symm.trans q) (by decide), fun _ => ⟨p_, by rw [nI_toNat (by omega), nI_toNat (by omega)]; exact st_, rfl⟩⟩, rfl⟩
set_option maxRecDepth 100000 in
set_option maxHeartbeats 4000000 in
theorem ct_S_sliceWidth (G : Gl) (σ : SS) (P : Prob) (x y : Int32) (hC : CInv σ P) : CI G mX9_sliceWidth [Rf G 0, .int x, .int y] σ (fun r σ1 => ∃ K, Least P K ∧ swR P K x y r ∧ σ1 = σ) := by
  refine Ctr.of oX9_sliceWidth (Nat.le_of_ble_eq_true rfl) ?_
  intro X C R hnm hz0
  have C : Cx G X cX9_sliceWidth 5 RX9 4 84 0 0 := C
  have R : Cr G X (some .int) 0 0 _ := R
  show V G X 5 0 0 0 [(0, Rf G 0), (1, .int x), (2, .int y)] [] (wld G σ)
  have kk_0 := sk_0
  have kk_1 := sk_1
  have kk_9 := sk_9
  have kk_11 := sk_11
  have kk_15 := sk_15
  have kk_19 := sk_19
  have kk_29 := sk_29
  have kk_91 := sk_91
  have kk_101 := sk_101
  have kk_111 := sk_111
  have kk_113 := sk_113
  have kk_116 := sk_116
  have kk_119 := sk_119
  obtain ⟨K, hK, hL⟩ := hC.2.2.1
  have hW := hC.2.1
  refine V.aload_n C 0 rfl rfl dX9_sliceWidth_0 ?_
  refine V.iload_n C 1 rfl rfl dX9_sliceWidth_1 ?_
  refine V.iload_n C 2 rfl rfl dX9_sliceWidth_2 ?_
  refine V.cVi C lX9_142 oX9_isSlice dX9_sliceWidth_3 (ct_S_isSlice G σ P K x y hC.1 hW hK) (by assumption) rfl rfl (Nat.le_of_ble_eq_true rfl) ⟨Nat.le_of_ble_eq_true rfl, Nat.le_of_ble_eq_true rfl⟩ ⟨Nat.le_of_ble_eq_true rfl, Nat.le_of_ble_eq_true rfl⟩ (fun rr_3 σ3 pp_3 => ?_)
  obtain ⟨ee_3, ff_3⟩ := pp_3
  rw [ee_3, ff_3]
  refine V.if_ne C 11 dX9_sliceWidth_6 rfl (fun hb_6 => ?_) (fun hb_6 => ?_)
  · have z_ := bI_ne0 hb_6
    obtain ⟨v, j, hv, hj, rfl, rfl⟩ := isS_of z_
    have j17_ := slN_le (P := P) (K := K) (v := v)
    have ej_ : slN P K v = cntN (cutF K v) 16 + 1 := by
      unfold slN at hj ⊢
      split at hj
      · omega
      · rename_i q; rw [if_neg q]
    have c0_ := cutF_0 hL.2 hW v
    refine V.iload_n C 2 rfl rfl dX9_sliceWidth_11 ?_
    refine V.iconst C (nI 1) c_1 dX9_sliceWidth_12 ?_
    refine V.iadd C dX9_sliceWidth_13 ?_
    rw [nI_add]
    refine V.aload_n C 0 rfl rfl dX9_sliceWidth_14 ?_
    refine V.iload_n C 1 rfl rfl dX9_sliceWidth_15 ?_
    refine V.cVi C lX9_139 oX9_slicesOf dX9_sliceWidth_16 (ct_S_slicesOf G σ P K v hC.1 hW hK hv) (by assumption) rfl rfl (Nat.le_of_ble_eq_true rfl) ⟨Nat.le_of_ble_eq_true rfl, Nat.le_of_ble_eq_true rfl⟩ ⟨Nat.le_of_ble_eq_true rfl, Nat.le_of_ble_eq_true rfl⟩ (fun rr_16 σ16 pp_16 => ?_)
    obtain ⟨ee_16, ff_16⟩ := pp_16
    rw [ee_16, ff_16]
    refine V.icmp_ne C 26 dX9_sliceWidth_19 rfl (fun hb_19 => ?_) (fun hb_19 => ?_)
    · have nl_ : ¬ j + 1 = slN P K v := fun q => hb_19 (by rw [q])
      refine V.iconst C (nI 0) c_0 dX9_sliceWidth_26 ?_
      refine V.istore_n C 3 dX9_sliceWidth_27 rfl (by decide) ?_
      refine V.iload_n C 3 rfl rfl dX9_sliceWidth_28 ?_
      refine V.if_eq C 43 dX9_sliceWidth_29 rfl (fun hb_29 => ?_) (fun hb_29 => ?_)
      · refine V.aload_n C 0 rfl rfl dX9_sliceWidth_43 ?_
        refine V.getR C fX9_51 dX9_sliceWidth_44 (by assumption) rfl ?_
        refine V.iload_n C 1 rfl rfl dX9_sliceWidth_47 ?_
        refine V.iload_n C 2 rfl rfl dX9_sliceWidth_48 ?_
        refine V.iconst C (nI 1) c_1 dX9_sliceWidth_49 ?_
        refine V.iadd C dX9_sliceWidth_50 ?_
        rw [nI_add]
        refine V.cVi C lX9_146 oX1_startOf dX9_sliceWidth_51 (ct_Cu_startOf G σ v (j + 1) K hK hv c0_ (by omega)) (by assumption) rfl rfl (Nat.le_of_ble_eq_true rfl) ⟨Nat.le_of_ble_eq_true rfl, Nat.le_of_ble_eq_true rfl⟩ ⟨Nat.le_of_ble_eq_true rfl, Nat.le_of_ble_eq_true rfl⟩ (fun rr_51 σ51 pp_51 => ?_)
        obtain ⟨q_, ee_51, sq_, ff_51⟩ := pp_51
        rw [ee_51, ff_51]
        refine V.istore C dX9_sliceWidth_54 (by decide) ?_
        refine V.iload C rfl dX9_sliceWidth_56 ?_
        refine V.aload_n C 0 rfl rfl dX9_sliceWidth_58 ?_
        refine V.getR C fX9_51 dX9_sliceWidth_59 (by assumption) rfl ?_
        refine V.iload_n C 1 rfl rfl dX9_sliceWidth_62 ?_
        refine V.iload_n C 2 rfl rfl dX9_sliceWidth_63 ?_
        refine V.cVi C lX9_146 oX1_startOf dX9_sliceWidth_64 (ct_Cu_startOf G σ v j K hK hv c0_ (by omega)) (by assumption) rfl rfl (Nat.le_of_ble_eq_true rfl) ⟨Nat.le_of_ble_eq_true rfl, Nat.le_of_ble_eq_true rfl⟩ ⟨Nat.le_of_ble_eq_true rfl, Nat.le_of_ble_eq_true rfl⟩ (fun rr_64 σ64 pp_64 => ?_)
        obtain ⟨p_, ee_64, st_, ff_64⟩ := pp_64
        rw [ee_64, ff_64]
        refine V.isub C dX9_sliceWidth_67 ?_
        exact V.iretS C R dX9_sliceWidth_68 ⟨K, hL, ⟨fun q => absurd (z_.symm.trans q) (by decide), fun _ => ⟨p_, q_, by rw [nI_toNat (by omega), nI_toNat (by omega)]; exact st_, Or.inl (by rw [nI_toNat (by omega), nI_toNat (by omega)]; exact ⟨sq_, Nat.le_of_lt (stP_16 sq_ (by omega))⟩), rfl⟩⟩, rfl⟩
      · exact absurd rfl hb_29
    · have nl_ : j + 1 = slN P K v := nI_pe (by omega) (by omega) hb_19
      refine V.iconst C (nI 1) c_1 dX9_sliceWidth_22 ?_
      refine V.goto C 27 dX9_sliceWidth_23 rfl ?_
      refine V.istore_n C 3 dX9_sliceWidth_27 rfl (by decide) ?_
      refine V.iload_n C 3 rfl rfl dX9_sliceWidth_28 ?_
      refine V.if_eq C 43 dX9_sliceWidth_29 rfl (fun hb_29 => ?_) (fun hb_29 => ?_)
      · exact absurd hb_29 (by decide)
      · refine V.aload_n C 0 rfl rfl dX9_sliceWidth_32 ?_
        refine V.getR C fX9_28 dX9_sliceWidth_33 (by assumption) rfl ?_
        refine V.iload_n C 1 rfl rfl dX9_sliceWidth_36 ?_
        refine V.cVi C lX9_135 oX4_widthOf dX9_sliceWidth_37 (ct_Pb_widthOf G σ 9 v P (PbA_of (by decide)) hC.1 hv) (by assumption) rfl rfl (Nat.le_of_ble_eq_true rfl) ⟨Nat.le_of_ble_eq_true rfl, Nat.le_of_ble_eq_true rfl⟩ ⟨Nat.le_of_ble_eq_true rfl, Nat.le_of_ble_eq_true rfl⟩ (fun rr_37 σ37 pp_37 => ?_)
        obtain ⟨ee_37, ff_37⟩ := pp_37
        rw [ee_37, ff_37]
        refine V.goto C 54 dX9_sliceWidth_40 rfl ?_
        refine V.istore C dX9_sliceWidth_54 (by decide) ?_
        refine V.iload C rfl dX9_sliceWidth_56 ?_
        refine V.aload_n C 0 rfl rfl dX9_sliceWidth_58 ?_
        refine V.getR C fX9_51 dX9_sliceWidth_59 (by assumption) rfl ?_
        refine V.iload_n C 1 rfl rfl dX9_sliceWidth_62 ?_
        refine V.iload_n C 2 rfl rfl dX9_sliceWidth_63 ?_
        refine V.cVi C lX9_146 oX1_startOf dX9_sliceWidth_64 (ct_Cu_startOf G σ v j K hK hv c0_ (by omega)) (by assumption) rfl rfl (Nat.le_of_ble_eq_true rfl) ⟨Nat.le_of_ble_eq_true rfl, Nat.le_of_ble_eq_true rfl⟩ ⟨Nat.le_of_ble_eq_true rfl, Nat.le_of_ble_eq_true rfl⟩ (fun rr_64 σ64 pp_64 => ?_)
        obtain ⟨p_, ee_64, st_, ff_64⟩ := pp_64
        rw [ee_64, ff_64]
        refine V.isub C dX9_sliceWidth_67 ?_
        exact V.iretS C R dX9_sliceWidth_68 ⟨K, hL, ⟨fun q => absurd (z_.symm.trans q) (by decide), fun _ => ⟨p_, P.1 v, by rw [nI_toNat (by omega), nI_toNat (by omega)]; exact st_, Or.inr (by rw [nI_toNat (by omega), nI_toNat (by omega)]; exact ⟨by omega, rfl⟩), rfl⟩⟩, rfl⟩
  · have z_ := bI_eq0 hb_6
    refine V.iconst C ((-1)) c_m1 dX9_sliceWidth_9 ?_
    exact V.iretS C R dX9_sliceWidth_10 ⟨K, hL, ⟨fun _ => rfl, fun q => absurd (z_.symm.trans q) (by decide)⟩, rfl⟩
set_option maxRecDepth 100000 in
set_option maxHeartbeats 4000000 in
theorem ct_S_representative (G : Gl) (σ : SS) (P : Prob) (x y : Int32) (hC : CInv σ P) : CI G mX9_representative [Rf G 0, .int x, .int y] σ (fun r σ1 => ∃ K, Least P K ∧ rpR P K x y r ∧ CInv σ1 P ∧ FQ 113 σ σ1) := by
  refine Ctr.of oX9_representative (Nat.le_of_ble_eq_true rfl) ?_
  intro X C R hnm hz0
  have C : Cx G X cX9_representative 5 RX9 4 84 0 0 := C
  have R : Cr G X (some .int) 0 0 _ := R
  show V G X 5 0 0 0 [(0, Rf G 0), (1, .int x), (2, .int y)] [] (wld G σ)
  have kk_0 := sk_0
  have kk_1 := sk_1
  have kk_9 := sk_9
  have kk_11 := sk_11
  have kk_15 := sk_15
  have kk_19 := sk_19
  have kk_29 := sk_29
  have kk_91 := sk_91
  have kk_101 := sk_101
  have kk_111 := sk_111
  have kk_113 := sk_113
  have kk_116 := sk_116
  have kk_119 := sk_119
  obtain ⟨K, hK, hL⟩ := hC.2.2.1
  have hW := hC.2.1
  refine V.aload_n C 0 rfl rfl dX9_representative_0 ?_
  refine V.iload_n C 1 rfl rfl dX9_representative_1 ?_
  refine V.iload_n C 2 rfl rfl dX9_representative_2 ?_
  refine V.cVi C lX9_142 oX9_isSlice dX9_representative_3 (ct_S_isSlice G σ P K x y hC.1 hW hK) (by assumption) rfl rfl (Nat.le_of_ble_eq_true rfl) ⟨Nat.le_of_ble_eq_true rfl, Nat.le_of_ble_eq_true rfl⟩ ⟨Nat.le_of_ble_eq_true rfl, Nat.le_of_ble_eq_true rfl⟩ (fun rr_3 σ3 pp_3 => ?_)
  obtain ⟨ee_3, ff_3⟩ := pp_3
  rw [ee_3, ff_3]
  refine V.if_ne C 11 dX9_representative_6 rfl (fun hb_6 => ?_) (fun hb_6 => ?_)
  · have z_ := bI_ne0 hb_6
    obtain ⟨v, j, hv, hj, rfl, rfl⟩ := isS_of z_
    have j17_ := slN_le (P := P) (K := K) (v := v)
    have ej_ : slN P K v = cntN (cutF K v) 16 + 1 := by
      unfold slN at hj ⊢
      split at hj
      · omega
      · rename_i q; rw [if_neg q]
    have c0_ := cutF_0 hL.2 hW v
    refine V.aload_n C 0 rfl rfl dX9_representative_11 ?_
    refine V.getR C fX9_58 dX9_representative_12 (by assumption) rfl ?_
    refine V.iload_n C 1 rfl rfl dX9_representative_15 ?_
    refine V.aload_n C 0 rfl rfl dX9_representative_16 ?_
    refine V.getR C fX9_51 dX9_representative_17 (by assumption) rfl ?_
    refine V.iload_n C 1 rfl rfl dX9_representative_20 ?_
    refine V.iload_n C 2 rfl rfl dX9_representative_21 ?_
    refine V.cVi C lX9_146 oX1_startOf dX9_representative_22 (ct_Cu_startOf G σ v j K hK hv c0_ (by omega)) (by assumption) rfl rfl (Nat.le_of_ble_eq_true rfl) ⟨Nat.le_of_ble_eq_true rfl, Nat.le_of_ble_eq_true rfl⟩ ⟨Nat.le_of_ble_eq_true rfl, Nat.le_of_ble_eq_true rfl⟩ (fun rr_22 σ22 pp_22 => ?_)
    obtain ⟨p_, ee_22, st_, ff_22⟩ := pp_22
    rw [ee_22, ff_22]
    have p16_ := stP_16 st_ (by omega)
    refine V.cSi C lX9_150 oX9_nodeOf dX9_representative_25 (ct_nodeOf G σ v p_) rfl rfl (Nat.le_of_ble_eq_true rfl) ⟨Nat.le_of_ble_eq_true rfl, Nat.le_of_ble_eq_true rfl⟩ ⟨Nat.le_of_ble_eq_true rfl, Nat.le_of_ble_eq_true rfl⟩ (fun rr_25 σ25 pp_25 => ?_)
    obtain ⟨ee_25, ff_25⟩ := pp_25
    rw [ee_25, ff_25]
    refine V.cVi C lX9_153 oX0_rootOf dX9_representative_28 (ct_Cl_rootOf G σ 113 (v * 16 + p_) _ ClA_113 hC.2.2.2.1 (by omega)) (by assumption) rfl rfl (Nat.le_of_ble_eq_true rfl) ⟨Nat.le_of_ble_eq_true rfl, Nat.le_of_ble_eq_true rfl⟩ ⟨Nat.le_of_ble_eq_true rfl, Nat.le_of_ble_eq_true rfl⟩ (fun rr_28 σ28 pp_28 => ?_)
    obtain ⟨ee_28, u28_, f28_⟩ := pp_28
    rw [ee_28]
    obtain ⟨rt_, hrt_⟩ : ∃ r, r = (ufAll uf0 P.2.1).1 (v * 16 + p_) := ⟨_, rfl⟩
    have rb_ := (hC.2.2.2.1.bits (x := v * 16 + p_) (by omega)).1
    rw [← hrt_]
    rw [← hrt_] at rb_
    refine V.istore_n C 3 dX9_representative_31 rfl (by decide) ?_
    refine V.iload_n C 3 rfl rfl dX9_representative_32 ?_
    refine V.cSi C lX9_156 oX9_variableOf dX9_representative_33 (ct_variableOf G σ28 rt_ (by omega)) rfl rfl (Nat.le_of_ble_eq_true rfl) ⟨Nat.le_of_ble_eq_true rfl, Nat.le_of_ble_eq_true rfl⟩ ⟨Nat.le_of_ble_eq_true rfl, Nat.le_of_ble_eq_true rfl⟩ (fun rr_33 σ33 pp_33 => ?_)
    obtain ⟨ee_33, ff_33⟩ := pp_33
    rw [ee_33, ff_33]
    refine V.istore C dX9_representative_36 (by decide) ?_
    refine V.bipush C (nI 16) b_16 dX9_representative_38 ?_
    refine V.iload C rfl dX9_representative_40 ?_
    refine V.imul C dX9_representative_42 ?_
    rw [nI_mul]
    refine V.aload_n C 0 rfl rfl dX9_representative_43 ?_
    refine V.getR C fX9_51 dX9_representative_44 (by assumption) rfl ?_
    refine V.iload C rfl dX9_representative_47 ?_
    refine V.iload_n C 3 rfl rfl dX9_representative_49 ?_
    refine V.cSi C lX9_159 oX9_bitOf dX9_representative_50 (ct_bitOf G σ28 rt_ (by omega)) rfl rfl (Nat.le_of_ble_eq_true rfl) ⟨Nat.le_of_ble_eq_true rfl, Nat.le_of_ble_eq_true rfl⟩ ⟨Nat.le_of_ble_eq_true rfl, Nat.le_of_ble_eq_true rfl⟩ (fun rr_50 σ50 pp_50 => ?_)
    obtain ⟨ee_50, ff_50⟩ := pp_50
    rw [ee_50, ff_50]
    refine V.cVi C lX9_162 oX1_sliceAt dX9_representative_53 (ct_Cu_sliceAt G σ28 (rt_ / 16) (rt_ % 16) K (hK.fr f28_ (by omega)) (by omega) (by omega)) (by assumption) rfl rfl (Nat.le_of_ble_eq_true rfl) ⟨Nat.le_of_ble_eq_true rfl, Nat.le_of_ble_eq_true rfl⟩ ⟨Nat.le_of_ble_eq_true rfl, Nat.le_of_ble_eq_true rfl⟩ (fun rr_53 σ53 pp_53 => ?_)
    obtain ⟨ee_53, ff_53⟩ := pp_53
    rw [ee_53, ff_53]
    refine V.iadd C dX9_representative_56 ?_
    rw [nI_add]
    exact V.iretS C R dX9_representative_57 ⟨K, hL, ⟨fun q => absurd (z_.symm.trans q) (by decide), fun _ => ⟨p_, by rw [nI_toNat (by omega), nI_toNat (by omega)]; exact st_, by rw [nI_toNat (by omega), Nat.mul_comm 16 v, ← hrt_]⟩⟩, hC.cls u28_ (f28_.mono (by omega) (by omega)), f28_.q (by omega) (by omega) (by omega)⟩
  · have z_ := bI_eq0 hb_6
    refine V.iconst C ((-1)) c_m1 dX9_representative_9 ?_
    exact V.iretS C R dX9_representative_10 ⟨K, hL, ⟨fun _ => rfl, fun q => absurd (z_.symm.trans q) (by decide)⟩, hC, FQ.refl _ _⟩
