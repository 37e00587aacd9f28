/-! The model's sliceCount, isSlice, sliceStart, sliceWidth. -/
def scR (P : Prob) (K : Nat → Bool) (x : Int32) : Int32 := if inB x 8 = true then nI (slN P K x.toNatClampNeg) else -1
def isS (P : Prob) (K : Nat → Bool) (x y : Int32) : Bool := inB x 8 && inB y (slN P K x.toNatClampNeg)
theorem slN_le {P : Prob} {K : Nat → Bool} {v : Nat} : slN P K v ≤ 17 := by
  unfold slN
  have := cntN_top (cutF K v) 16
  split <;> omega
theorem isS_of {P : Prob} {K : Nat → Bool} {x y : Int32} (h : isS P K x y = true) : ∃ v j, v < 8 ∧ j < slN P K v ∧ x = nI v ∧ y = nI j := by
  unfold isS at h
  rw [Bool.and_eq_true] at h
  obtain ⟨v, hv, rfl⟩ := inB_of (by decide) h.1
  have h2 := h.2
  rw [nI_toNat (by omega)] at h2
  obtain ⟨j, hj, rfl⟩ := inB_of (by have := slN_le (P := P) (K := K) (v := v); omega) h2
  exact ⟨v, j, hv, hj, rfl, rfl⟩
/-- the start of a slice, and its end -/
def ssR (P : Prob) (K : Nat → Bool) (x y r : Int32) : Prop := (isS P K x y = false → r = -1) ∧ (isS P K x y = true → ∃ p, stP (cutF K x.toNatClampNeg) y.toNatClampNeg p ∧ r = nI p)
def swR (P : Prob) (K : Nat → Bool) (x y r : Int32) : Prop := (isS P K x y = false → r = -1) ∧ (isS P K x y = true → ∃ p q, stP (cutF K x.toNatClampNeg) y.toNatClampNeg p ∧ ((stP (cutF K x.toNatClampNeg) (y.toNatClampNeg + 1) q ∧ q ≤ 16) ∨ (cntN (cutF K x.toNatClampNeg) 16 < y.toNatClampNeg + 1 ∧ q = P.1 x.toNatClampNeg)) ∧ r = nI q - nI p)
set_option maxRecDepth 100000 in
set_option maxHeartbeats 4000000 in
theorem ct_M_sliceCount (G : Gl) (σ : SS) (P : Prob) (c0 : Bool) (x : Int32) (hP : FP (σ.2.1 124) P) (hwf : wfP P) (hc0 : σ.1 123 18 = bI c0) : CI G mX10_sliceCount [Rf G 123, .int x] σ (fun r σ1 => ∃ K, RKm σ1 K ∧ Least P K ∧ r = scR P K x ∧ Z18 σ1 ∧ FM [0, 18] [131] σ σ1) := by
  refine Ctr.of oX10_sliceCount (Nat.le_of_ble_eq_true rfl) ?_
  intro X C R hnm hz0
  have C : Cx G X cX10_sliceCount 2 RX10 4 95 0 0 := C
  have R : Cr G X (some .int) 0 0 _ := R
  show V G X 2 0 0 0 [(0, Rf G 123), (1, .int x)] [] (wld G σ)
  have kk_123 := sk_123
  have kk_124 := sk_124
  have kk_131 := sk_131
  refine V.aload_n C 0 rfl rfl dX10_sliceCount_0 ?_
  refine V.iconst C (nI 0) c_0 dX10_sliceCount_1 ?_
  refine V.putI C fX10_47 dX10_sliceCount_2 (by assumption) rfl ?_
  refine V.aload_n C 0 rfl rfl dX10_sliceCount_5 ?_
  refine V.cVv C lX10_188 oX10_findCuts dX10_sliceCount_6 (ct_M_findCuts G _ P c0 hP hwf (by rw [sF_ne _ _ (by omega)]; exact hc0)) (by assumption) rfl rfl (Nat.le_of_ble_eq_true rfl) ⟨Nat.le_of_ble_eq_true rfl, Nat.le_of_ble_eq_true rfl⟩ ⟨Nat.le_of_ble_eq_true rfl, Nat.le_of_ble_eq_true rfl⟩ (fun σ6 pp_6 => ?_)
  obtain ⟨K_, rk_, cl_, sn_, c8_, f_⟩ := pp_6
  refine V.iload_n C 1 rfl rfl dX10_sliceCount_9 ?_
  refine V.cSi C lX10_151 oX10_isVariable dX10_sliceCount_10 (ct_M_isVar G σ6 x) rfl rfl (Nat.le_of_ble_eq_true rfl) ⟨Nat.le_of_ble_eq_true rfl, Nat.le_of_ble_eq_true rfl⟩ ⟨Nat.le_of_ble_eq_true rfl, Nat.le_of_ble_eq_true rfl⟩ (fun rr_10 σ10 pp_10 => ?_)
  obtain ⟨ee_10, ff_10⟩ := pp_10
  rw [ee_10, ff_10]
  refine V.if_eq C 24 dX10_sliceCount_13 rfl (fun hb_13 => ?_) (fun hb_13 => ?_)
  · have z_ := bI_eq0 hb_13
    refine V.iconst C ((-1)) c_m1 dX10_sliceCount_24 ?_
    exact V.iretS C R dX10_sliceCount_25 ⟨K_, rk_, ⟨cl_, sn_⟩, by unfold scR; rw [if_neg (by rw [z_]; decide)], c8_, (((FM.refl [0] [] σ).sF (nI 0) (by decide)).mono (by decide) (by decide)).trans (f_.mono (by decide) (by decide))⟩
  · have z_ := bI_ne0 hb_13
    obtain ⟨v, hv, rfl⟩ := inB_of (by decide) z_
    refine V.aload_n C 0 rfl rfl dX10_sliceCount_16 ?_
    refine V.iload_n C 1 rfl rfl dX10_sliceCount_17 ?_
    refine V.cVi C lX10_191 oX10_slicesOf dX10_sliceCount_18 (ct_M_slicesOf G σ6 P K_ v (by rw [f_.a (by decide)]; exact hP) hwf rk_ sn_ hv) (by assumption) rfl rfl (Nat.le_of_ble_eq_true rfl) ⟨Nat.le_of_ble_eq_true rfl, Nat.le_of_ble_eq_true rfl⟩ ⟨Nat.le_of_ble_eq_true rfl, Nat.le_of_ble_eq_true rfl⟩ (fun rr_18 σ18 pp_18 => ?_)
    obtain ⟨ee_18, ff_18⟩ := pp_18
    rw [ee_18, ff_18]
    refine V.goto C 25 dX10_sliceCount_21 rfl ?_
    exact V.iretS C R dX10_sliceCount_25 ⟨K_, rk_, ⟨cl_, sn_⟩, by unfold scR; rw [if_pos z_, nI_toNat (by omega)], c8_, (((FM.refl [0] [] σ).sF (nI 0) (by decide)).mono (by decide) (by decide)).trans (f_.mono (by decide) (by decide))⟩
set_option maxRecDepth 100000 in
set_option maxHeartbeats 4000000 in
theorem ct_M_isSlice (G : Gl) (σ : SS) (P : Prob) (c0 : Bool) (x y : Int32) (hP : FP (σ.2.1 124) P) (hwf : wfP P) (hc0 : σ.1 123 18 = bI c0) : CI G mX10_isSlice [Rf G 123, .int x, .int y] σ (fun r σ1 => ∃ K, RKm σ1 K ∧ Least P K ∧ r = bI (isS P K x y) ∧ Z18 σ1 ∧ FM [18] [131] σ σ1) := by
  refine Ctr.of oX10_isSlice (Nat.le_of_ble_eq_true rfl) ?_
  intro X C R hnm hz0
  have C : Cx G X cX10_isSlice 3 RX10 4 95 0 0 := C
  have R : Cr G X (some .boolean) 0 0 _ := R
  show V G X 3 0 0 0 [(0, Rf G 123), (1, .int x), (2, .int y)] [] (wld G σ)
  have kk_123 := sk_123
  have kk_124 := sk_124
  have kk_131 := sk_131
  refine V.aload_n C 0 rfl rfl dX10_isSlice_0 ?_
  refine V.cVv C lX10_188 oX10_findCuts dX10_isSlice_1 (ct_M_findCuts G σ P c0 hP hwf hc0) (by assumption) rfl rfl (Nat.le_of_ble_eq_true rfl) ⟨Nat.le_of_ble_eq_true rfl, Nat.le_of_ble_eq_true rfl⟩ ⟨Nat.le_of_ble_eq_true rfl, Nat.le_of_ble_eq_true rfl⟩ (fun σ1 pp_1 => ?_)
  obtain ⟨K_, rk_, cl_, sn_, c8_, f_⟩ := pp_1
  refine V.iload_n C 1 rfl rfl dX10_isSlice_4 ?_
  refine V.cSi C lX10_151 oX10_isVariable dX10_isSlice_5 (ct_M_isVar G σ1 x) rfl rfl (Nat.le_of_ble_eq_true rfl) ⟨Nat.le_of_ble_eq_true rfl, Nat.le_of_ble_eq_true rfl⟩ ⟨Nat.le_of_ble_eq_true rfl, Nat.le_of_ble_eq_true rfl⟩ (fun rr_5 σ5 pp_5 => ?_)
  obtain ⟨ee_5, ff_5⟩ := pp_5
  rw [ee_5, ff_5]
  refine V.if_eq C 30 dX10_isSlice_8 rfl (fun hb_8 => ?_) (fun hb_8 => ?_)
  · have z_ := bI_eq0 hb_8
    have w_ : isS P K_ x y = false := by unfold isS; rw [z_]; rfl
    refine V.iconst C (nI 0) c_0 dX10_isSlice_30 ?_
    exact V.zretS C R dX10_isSlice_31 (by first | exact Or.inl rfl | exact Or.inr rfl | exact bI01 _) ⟨K_, rk_, ⟨cl_, sn_⟩, by rw [w_]; rfl, c8_, f_⟩
  · have z_ := bI_ne0 hb_8
    obtain ⟨v, hv, rfl⟩ := inB_of (by decide) z_
    refine V.iload_n C 2 rfl rfl dX10_isSlice_11 ?_
    refine V.iconst C (nI 0) c_0 dX10_isSlice_12 ?_
    refine V.aload_n C 0 rfl rfl dX10_isSlice_13 ?_
    refine V.iload_n C 1 rfl rfl dX10_isSlice_14 ?_
    refine V.cVi C lX10_191 oX10_slicesOf dX10_isSlice_15 (ct_M_slicesOf G σ1 P K_ v (by rw [f_.a (by decide)]; exact hP) hwf rk_ sn_ hv) (by assumption) rfl rfl (Nat.le_of_ble_eq_true rfl) ⟨Nat.le_of_ble_eq_true rfl, Nat.le_of_ble_eq_true rfl⟩ ⟨Nat.le_of_ble_eq_true rfl, Nat.le_of_ble_eq_true rfl⟩ (fun rr_15 σ15 pp_15 => ?_)
    obtain ⟨ee_15, ff_15⟩ := pp_15
    rw [ee_15, ff_15]
    refine V.iconst C (nI 1) c_1 dX10_isSlice_18 ?_
    refine V.isub C dX10_isSlice_19 ?_
    refine V.cSi C lX10_60 oX10_in dX10_isSlice_20 (ct_M_in G σ1 y (nI 0) (nI (slN P K_ v) - nI 1)) rfl rfl (Nat.le_of_ble_eq_true rfl) ⟨Nat.le_of_ble_eq_true rfl, Nat.le_of_ble_eq_true rfl⟩ ⟨Nat.le_of_ble_eq_true rfl, Nat.le_of_ble_eq_true rfl⟩ (fun rr_20 σ20 pp_20 => ?_)
    obtain ⟨ee_20, ff_20⟩ := pp_20
    rw [ee_20, ff_20, in_inB (by have := slN_le (P := P) (K := K_) (v := v); omega)]
    refine V.if_eq C 30 dX10_isSlice_23 rfl (fun hb_23 => ?_) (fun hb_23 => ?_)
    · have z2_ := bI_eq0 hb_23
      have w_ : isS P K_ (nI v) y = false := by unfold isS; rw [nI_toNat (by omega), z2_, Bool.and_false]
      refine V.iconst C (nI 0) c_0 dX10_isSlice_30 ?_
      exact V.zretS C R dX10_isSlice_31 (by first | exact Or.inl rfl | exact Or.inr rfl | exact bI01 _) ⟨K_, rk_, ⟨cl_, sn_⟩, by rw [w_]; rfl, c8_, f_⟩
    · have z2_ := bI_ne0 hb_23
      have w_ : isS P K_ (nI v) y = true := by unfold isS; rw [nI_toNat (by omega), z2_, z_]; rfl
      refine V.iconst C (nI 1) c_1 dX10_isSlice_26 ?_
      refine V.goto C 31 dX10_isSlice_27 rfl ?_
      exact V.zretS C R dX10_isSlice_31 (by first | exact Or.inl rfl | exact Or.inr rfl | exact bI01 _) ⟨K_, rk_, ⟨cl_, sn_⟩, by rw [w_]; rfl, c8_, f_⟩
set_option maxRecDepth 100000 in
set_option maxHeartbeats 4000000 in
theorem ct_M_sliceStart (G : Gl) (σ : SS) (P : Prob) (c0 : Bool) (x y : Int32) (hP : FP (σ.2.1 124) P) (hwf : wfP P) (hc0 : σ.1 123 18 = bI c0) : CI G mX10_sliceStart [Rf G 123, .int x, .int y] σ (fun r σ1 => ∃ K, RKm σ1 K ∧ Least P K ∧ ssR P K x y r ∧ Z18 σ1 ∧ FM [0, 18] [131] σ σ1) := by
  refine Ctr.of oX10_sliceStart (Nat.le_of_ble_eq_true rfl) ?_
  intro X C R hnm hz0
  have C : Cx G X cX10_sliceStart 3 RX10 5 117 0 0 := C
  have R : Cr G X (some .int) 0 0 _ := R
  show V G X 3 0 0 0 [(0, Rf G 123), (1, .int x), (2, .int y)] [] (wld G σ)
  have kk_123 := sk_123
  have kk_124 := sk_124
  have kk_131 := sk_131
  refine V.aload_n C 0 rfl rfl dX10_sliceStart_0 ?_
  refine V.iconst C (nI 0) c_0 dX10_sliceStart_1 ?_
  refine V.putI C fX10_47 dX10_sliceStart_2 (by assumption) rfl ?_
  refine V.aload_n C 0 rfl rfl dX10_sliceStart_5 ?_
  refine V.iload_n C 1 rfl rfl dX10_sliceStart_6 ?_
  refine V.iload_n C 2 rfl rfl dX10_sliceStart_7 ?_
  refine V.cVi C lX10_194 oX10_isSlice dX10_sliceStart_8 (ct_M_isSlice G _ P c0 x y hP hwf (by rw [sF_ne _ _ (by omega)]; exact hc0)) (by assumption) rfl rfl (Nat.le_of_ble_eq_true rfl) ⟨Nat.le_of_ble_eq_true rfl, Nat.le_of_ble_eq_true rfl⟩ ⟨Nat.le_of_ble_eq_true rfl, Nat.le_of_ble_eq_true rfl⟩ (fun rr_8 σ8 pp_8 => ?_)
  obtain ⟨K_, rk_, lc_, ee_8, c8_, f_⟩ := pp_8
  rw [ee_8]
  refine V.if_eq C 23 dX10_sliceStart_11 rfl (fun hb_11 => ?_) (fun hb_11 => ?_)
  · have z_ := bI_eq0 hb_11
    refine V.iconst C ((-1)) c_m1 dX10_sliceStart_23 ?_
    exact V.iretS C R dX10_sliceStart_24 ⟨K_, rk_, lc_, ⟨fun _ => rfl, fun q => absurd (z_.symm.trans q) (by decide)⟩, c8_, (((FM.refl [0] [] σ).sF (nI 0) (by decide)).mono (by decide) (by decide)).trans (f_.mono (by decide) (by decide))⟩
  · have z_ := bI_ne0 hb_11
    obtain ⟨v, j, hv, hj, rfl, rfl⟩ := isS_of z_
    have j17_ := slN_le (P := P) (K := K_) (v := v)
    have jc_ : j ≤ cntN (cutF K_ v) 16 := by
      unfold slN at hj
      split at hj <;> omega
    refine V.aload_n C 0 rfl rfl dX10_sliceStart_14 ?_
    refine V.iload_n C 1 rfl rfl dX10_sliceStart_15 ?_
    refine V.iload_n C 2 rfl rfl dX10_sliceStart_16 ?_
    refine V.cVi C lX10_197 oX10_startOf dX10_sliceStart_17 (ct_M_startOf G σ8 P K_ v j (by rw [f_.a (by decide)]; exact hP) hwf rk_ lc_.2 hv (by omega)) (by assumption) rfl rfl (Nat.le_of_ble_eq_true rfl) ⟨Nat.le_of_ble_eq_true rfl, Nat.le_of_ble_eq_true rfl⟩ ⟨Nat.le_of_ble_eq_true rfl, Nat.le_of_ble_eq_true rfl⟩ (fun rr_17 σ17 pp_17 => ?_)
    obtain ⟨p_, ee_17, st_, ff_17⟩ := pp_17
    rw [ee_17, ff_17]
    refine V.goto C 24 dX10_sliceStart_20 rfl ?_
    exact V.iretS C R dX10_sliceStart_24 ⟨K_, rk_, lc_, ⟨fun q => absurd (z_.symm.trans q) (by decide), fun _ => ⟨p_, by
      rw [nI_toNat (by omega), nI_toNat (by omega)]
      rcases st_ with q | q
      · exact q.1
      · omega, rfl⟩⟩, c8_, (((FM.refl [0] [] σ).sF (nI 0) (by decide)).mono (by decide) (by decide)).trans (f_.mono (by decide) (by decide))⟩
set_option maxRecDepth 100000 in
set_option maxHeartbeats 4000000 in
theorem ct_M_sliceWidth (G : Gl) (σ : SS) (P : Prob) (c0 : Bool) (x y : Int32) (hP : FP (σ.2.1 124) P) (hwf : wfP P) (hc0 : σ.1 123 18 = bI c0) : CI G mX10_sliceWidth [Rf G 123, .int x, .int y] σ (fun r σ1 => ∃ K, RKm σ1 K ∧ Least P K ∧ swR P K x y r ∧ Z18 σ1 ∧ FM [0, 18] [131] σ σ1) := by
  refine Ctr.of oX10_sliceWidth (Nat.le_of_ble_eq_true rfl) ?_
  intro X C R hnm hz0
  have C : Cx G X cX10_sliceWidth 3 RX10 5 117 0 0 := C
  have R : Cr G X (some .int) 0 0 _ := R
  show V G X 3 0 0 0 [(0, Rf G 123), (1, .int x), (2, .int y)] [] (wld G σ)
  have kk_123 := sk_123
  have kk_124 := sk_124
  have kk_131 := sk_131
  refine V.aload_n C 0 rfl rfl dX10_sliceWidth_0 ?_
  refine V.iconst C (nI 0) c_0 dX10_sliceWidth_1 ?_
  refine V.putI C fX10_47 dX10_sliceWidth_2 (by assumption) rfl ?_
  refine V.aload_n C 0 rfl rfl dX10_sliceWidth_5 ?_
  refine V.iload_n C 1 rfl rfl dX10_sliceWidth_6 ?_
  refine V.iload_n C 2 rfl rfl dX10_sliceWidth_7 ?_
  refine V.cVi C lX10_194 oX10_isSlice dX10_sliceWidth_8 (ct_M_isSlice G _ P c0 x y hP hwf (by rw [sF_ne _ _ (by omega)]; exact hc0)) (by assumption) rfl rfl (Nat.le_of_ble_eq_true rfl) ⟨Nat.le_of_ble_eq_true rfl, Nat.le_of_ble_eq_true rfl⟩ ⟨Nat.le_of_ble_eq_true rfl, Nat.le_of_ble_eq_true rfl⟩ (fun rr_8 σ8 pp_8 => ?_)
  obtain ⟨K_, rk_, lc_, ee_8, c8_, f_⟩ := pp_8
  rw [ee_8]
  refine V.if_eq C 32 dX10_sliceWidth_11 rfl (fun hb_11 => ?_) (fun hb_11 => ?_)
  · have z_ := bI_eq0 hb_11
    refine V.iconst C ((-1)) c_m1 dX10_sliceWidth_32 ?_
    exact V.iretS C R dX10_sliceWidth_33 ⟨K_, rk_, lc_, ⟨fun _ => rfl, fun q => absurd (z_.symm.trans q) (by decide)⟩, c8_, (((FM.refl [0] [] σ).sF (nI 0) (by decide)).mono (by decide) (by decide)).trans (f_.mono (by decide) (by decide))⟩
  · have z_ := bI_ne0 hb_11
    obtain ⟨v, j, hv, hj, rfl, rfl⟩ := isS_of z_
    have j17_ := slN_le (P := P) (K := K_) (v := v)
    have jc_ : j ≤ cntN (cutF K_ v) 16 := by
      unfold slN at hj
      split at hj <;> omega
    refine V.aload_n C 0 rfl rfl dX10_sliceWidth_14 ?_
    refine V.iload_n C 1 rfl rfl dX10_sliceWidth_15 ?_
    refine V.iload_n C 2 rfl rfl dX10_sliceWidth_16 ?_
    refine V.iconst C (nI 1) c_1 dX10_sliceWidth_17 ?_
    refine V.iadd C dX10_sliceWidth_18 ?_
    rw [nI_add]
    refine V.cVi C lX10_197 oX10_startOf dX10_sliceWidth_19 (ct_M_startOf G σ8 P K_ v (j + 1) (by rw [f_.a (by decide)]; exact hP) hwf rk_ lc_.2 hv (by omega)) (by assumption) rfl rfl (Nat.le_of_ble_eq_true rfl) ⟨Nat.le_of_ble_eq_true rfl, Nat.le_of_ble_eq_true rfl⟩ ⟨Nat.le_of_ble_eq_true rfl, Nat.le_of_ble_eq_true rfl⟩ (fun rr_19 σ19 pp_19 => ?_)
    obtain ⟨q_, ee_19, sq_, ff_19⟩ := pp_19
    rw [ee_19, ff_19]
    refine V.aload_n C 0 rfl rfl dX10_sliceWidth_22 ?_
    refine V.iload_n C 1 rfl rfl dX10_sliceWidth_23 ?_
    refine V.iload_n C 2 rfl rfl dX10_sliceWidth_24 ?_
    refine V.cVi C lX10_197 oX10_startOf dX10_sliceWidth_25 (ct_M_startOf G σ8 P K_ v j (by rw [f_.a (by decide)]; exact hP) hwf rk_ lc_.2 hv (by omega)) (by assumption) rfl rfl (Nat.le_of_ble_eq_true rfl) ⟨Nat.le_of_ble_eq_true rfl, Nat.le_of_ble_eq_true rfl⟩ ⟨Nat.le_of_ble_eq_true rfl, Nat.le_of_ble_eq_true rfl⟩ (fun rr_25 σ25 pp_25 => ?_)
    obtain ⟨p_, ee_25, st_, ff_25⟩ := pp_25
    rw [ee_25, ff_25]
    refine V.isub C dX10_sliceWidth_28 ?_
    refine V.goto C 33 dX10_sliceWidth_29 rfl ?_
    exact V.iretS C R dX10_sliceWidth_33 ⟨K_, rk_, lc_, ⟨fun q => absurd (z_.symm.trans q) (by decide), fun _ => ⟨p_, q_, by
      rw [nI_toNat (by omega), nI_toNat (by omega)]
      rcases st_ with q | q
      · exact q.1
      · omega, by rw [nI_toNat (by omega), nI_toNat (by omega)]; exact sq_, rfl⟩⟩, c8_, (((FM.refl [0] [] σ).sF (nI 0) (by decide)).mono (by decide) (by decide)).trans (f_.mono (by decide) (by decide))⟩
