/-! The model's isConsistent, isBit, fixedBit, isImplied. -/
def icR (P : Prob) : Int32 := bI (ufAll uf0 P.2.1).2.2
def isB (P : Prob) (x y : Int32) : Bool := inB x 8 && inB y (P.1 x.toNatClampNeg)
def bitX (x y : Int32) : Nat := 16 * x.toNatClampNeg + y.toNatClampNeg
def fbR (P : Prob) (x y : Int32) : Int32 := if isB P x y = true then (if (ufAll uf0 P.2.1).2.2 = true then oN ((ufAll uf0 P.2.1).2.1 ((ufAll uf0 P.2.1).1 (bitX x y))) else -2) else -1
def imR (P : Prob) (x : Int32) : Int32 := if inB x P.2.2.length = true then (if (ufAll uf0 P.2.1).2.2 = true then (match P.2.2[x.toNatClampNeg]? with
  | some s => bI (!(ufStm (ufAll uf0 P.2.1) s).2.2)
  | none => 0) else -2) else -1
theorem isB_of {P : Prob} (hw : wfP P) {x y : Int32} (h : isB P x y = true) : ∃ v b, v < 8 ∧ b < P.1 v ∧ b < 16 ∧ x = nI v ∧ y = nI b := by
  unfold isB at h
  rw [Bool.and_eq_true] at h
  obtain ⟨v, hv, rfl⟩ := inB_of (by decide) h.1
  have h2 := h.2
  have w16 := hw.1 v hv
  rw [nI_toNat (by omega)] at h2
  obtain ⟨j, hj, rfl⟩ := inB_of (by omega) h2
  exact ⟨v, j, hv, hj, by omega, rfl, rfl⟩
theorem RCm.val {σ : SS} {u : UF} (h : RCm σ u) (hu : u.2.2 = true) {x : Nat} (hx : x < 128) (hr : u.1 x = x) : σ.2.1 133 x = oN (u.2.1 x) := by
  obtain ⟨a1, a2⟩ := h.2.1 x hx hr
  cases hq : u.2.1 x with
  | none => exact a1 hq
  | some v =>
    obtain ⟨v', b1, b2, b3⟩ := a2 v hq
    rw [b2, b3 hu]; rfl
set_option maxRecDepth 100000 in
set_option maxHeartbeats 4000000 in
theorem ct_M_isConsistent (G : Gl) (σ : SS) (P : Prob) (hP : FP (σ.2.1 124) P) (hwf : wfP P) : CI G mX10_isConsistent [Rf G 123] σ (fun r σ1 => r = icR P ∧ FM [0, 21] [132, 133] σ σ1) := by
  refine Ctr.of oX10_isConsistent (Nat.le_of_ble_eq_true rfl) ?_
  intro X C R hnm hz0
  have C : Cx G X cX10_isConsistent 1 RX10 6 132 0 0 := C
  have R : Cr G X (some .int) 0 0 _ := R
  show V G X 1 0 0 0 [(0, Rf G 123)] [] (wld G σ)
  have kk_123 := sk_123
  have kk_124 := sk_124
  have kk_131 := sk_131
  have kk_132 := sk_132
  have kk_133 := sk_133
  refine V.aload_n C 0 rfl rfl dX10_isConsistent_0 ?_
  refine V.iconst C (nI 0) c_0 dX10_isConsistent_1 ?_
  refine V.putI C fX10_47 dX10_isConsistent_2 (by assumption) rfl ?_
  refine V.aload_n C 0 rfl rfl dX10_isConsistent_5 ?_
  refine V.cVi C lX10_221 oX10_solveAll dX10_isConsistent_6 (ct_M_solveAll G _ P hP hwf) (by assumption) rfl rfl (Nat.le_of_ble_eq_true rfl) ⟨Nat.le_of_ble_eq_true rfl, Nat.le_of_ble_eq_true rfl⟩ ⟨Nat.le_of_ble_eq_true rfl, Nat.le_of_ble_eq_true rfl⟩ (fun rr_6 σ6 pp_6 => ?_)
  rw [pp_6.1]
  refine V.if_eq C 16 dX10_isConsistent_9 rfl (fun hb_9 => ?_) (fun hb_9 => ?_)
  · refine V.iconst C (nI 0) c_0 dX10_isConsistent_16 ?_
    exact V.iretS C R dX10_isConsistent_17 ⟨by unfold icR; rw [bI_eq0 hb_9]; rfl, (((FM.refl [0] [] σ).sF (nI 0) (by decide)).mono (by decide) (by decide)).trans (pp_6.2.2.mono (by decide) (by decide))⟩
  · refine V.iconst C (nI 1) c_1 dX10_isConsistent_12 ?_
    refine V.goto C 17 dX10_isConsistent_13 rfl ?_
    exact V.iretS C R dX10_isConsistent_17 ⟨by unfold icR; rw [bI_ne0 hb_9]; rfl, (((FM.refl [0] [] σ).sF (nI 0) (by decide)).mono (by decide) (by decide)).trans (pp_6.2.2.mono (by decide) (by decide))⟩
set_option maxRecDepth 100000 in
set_option maxHeartbeats 4000000 in
theorem ct_M_isBit (G : Gl) (σ : SS) (P : Prob) (x y : Int32) (hP : FP (σ.2.1 124) P) (hwf : wfP P) : CI G mX10_isBit [Rf G 123, .int x, .int y] σ (fun r σ1 => r = bI (isB P x y) ∧ σ1 = σ) := by
  refine Ctr.of oX10_isBit (Nat.le_of_ble_eq_true rfl) ?_
  intro X C R hnm hz0
  have C : Cx G X cX10_isBit 3 RX10 2 42 0 0 := C
  have R : Cr G X (some .boolean) 0 0 _ := R
  show V G X 3 0 0 0 [(0, Rf G 123), (1, .int x), (2, .int y)] [] (wld G σ)
  have kk_123 := sk_123
  have kk_124 := sk_124
  have kk_131 := sk_131
  have kk_132 := sk_132
  have kk_133 := sk_133
  refine V.iload_n C 1 rfl rfl dX10_isBit_0 ?_
  refine V.cSi C lX10_151 oX10_isVariable dX10_isBit_1 (ct_M_isVar G σ x) rfl rfl (Nat.le_of_ble_eq_true rfl) ⟨Nat.le_of_ble_eq_true rfl, Nat.le_of_ble_eq_true rfl⟩ ⟨Nat.le_of_ble_eq_true rfl, Nat.le_of_ble_eq_true rfl⟩ (fun rr_1 σ1 pp_1 => ?_)
  obtain ⟨ee_1, ff_1⟩ := pp_1
  rw [ee_1, ff_1]
  refine V.if_eq C 27 dX10_isBit_4 rfl (fun hb_4 => ?_) (fun hb_4 => ?_)
  · have z_ := bI_eq0 hb_4
    have w_ : isB P x y = false := by unfold isB; rw [z_]; rfl
    refine V.iconst C (nI 0) c_0 dX10_isBit_27 ?_
    exact V.zretS C R dX10_isBit_28 (by first | exact Or.inl rfl | exact Or.inr rfl | exact bI01 _) ⟨by rw [w_]; rfl, rfl⟩
  · have z_ := bI_ne0 hb_4
    obtain ⟨v, hv, rfl⟩ := inB_of (by decide) z_
    refine V.iload_n C 2 rfl rfl dX10_isBit_7 ?_
    refine V.iconst C (nI 0) c_0 dX10_isBit_8 ?_
    refine V.aload_n C 0 rfl rfl dX10_isBit_9 ?_
    refine V.getR C fX10_7 dX10_isBit_10 (by assumption) rfl ?_
    refine V.iload_n C 1 rfl rfl dX10_isBit_13 ?_
    refine V.ialdN C dX10_isBit_14 (by assumption) (by omega) ?_
    rw [hP.1 v hv]
    refine V.iconst C (nI 1) c_1 dX10_isBit_15 ?_
    refine V.isub C dX10_isBit_16 ?_
    refine V.cSi C lX10_60 oX10_in dX10_isBit_17 (ct_M_in G σ y (nI 0) (nI (P.1 v) - nI 1)) rfl rfl (Nat.le_of_ble_eq_true rfl) ⟨Nat.le_of_ble_eq_true rfl, Nat.le_of_ble_eq_true rfl⟩ ⟨Nat.le_of_ble_eq_true rfl, Nat.le_of_ble_eq_true rfl⟩ (fun rr_17 σ17 pp_17 => ?_)
    obtain ⟨ee_17, ff_17⟩ := pp_17
    rw [ee_17, ff_17, in_inB (by have := hwf.1 v hv; omega)]
    refine V.if_eq C 27 dX10_isBit_20 rfl (fun hb_20 => ?_) (fun hb_20 => ?_)
    · have z2_ := bI_eq0 hb_20
      have w_ : isB P (nI v) y = false := by unfold isB; rw [nI_toNat (by omega), z2_, Bool.and_false]
      refine V.iconst C (nI 0) c_0 dX10_isBit_27 ?_
      exact V.zretS C R dX10_isBit_28 (by first | exact Or.inl rfl | exact Or.inr rfl | exact bI01 _) ⟨by rw [w_]; rfl, rfl⟩
    · have z2_ := bI_ne0 hb_20
      have w_ : isB P (nI v) y = true := by unfold isB; rw [nI_toNat (by omega), z2_, z_]; rfl
      refine V.iconst C (nI 1) c_1 dX10_isBit_23 ?_
      refine V.goto C 28 dX10_isBit_24 rfl ?_
      exact V.zretS C R dX10_isBit_28 (by first | exact Or.inl rfl | exact Or.inr rfl | exact bI01 _) ⟨by rw [w_]; rfl, rfl⟩
set_option maxRecDepth 100000 in
set_option maxHeartbeats 4000000 in
theorem ct_M_fixedBit (G : Gl) (σ : SS) (P : Prob) (x y : Int32) (hP : FP (σ.2.1 124) P) (hwf : wfP P) : CI G mX10_fixedBit [Rf G 123, .int x, .int y] σ (fun r σ1 => r = fbR P x y ∧ FM [0, 21] [132, 133] σ σ1) := by
  refine Ctr.of oX10_fixedBit (Nat.le_of_ble_eq_true rfl) ?_
  intro X C R hnm hz0
  have C : Cx G X cX10_fixedBit 3 RX10 6 132 0 0 := C
  have R : Cr G X (some .int) 0 0 _ := R
  show V G X 3 0 0 0 [(0, Rf G 123), (1, .int x), (2, .int y)] [] (wld G σ)
  have kk_123 := sk_123
  have kk_124 := sk_124
  have kk_131 := sk_131
  have kk_132 := sk_132
  have kk_133 := sk_133
  refine V.aload_n C 0 rfl rfl dX10_fixedBit_0 ?_
  refine V.iconst C (nI 0) c_0 dX10_fixedBit_1 ?_
  refine V.putI C fX10_47 dX10_fixedBit_2 (by assumption) rfl ?_
  refine V.aload_n C 0 rfl rfl dX10_fixedBit_5 ?_
  refine V.iload_n C 1 rfl rfl dX10_fixedBit_6 ?_
  refine V.iload_n C 2 rfl rfl dX10_fixedBit_7 ?_
  refine V.cVi C lX10_227 oX10_isBit dX10_fixedBit_8 (ct_M_isBit G _ P x y hP hwf) (by assumption) rfl rfl (Nat.le_of_ble_eq_true rfl) ⟨Nat.le_of_ble_eq_true rfl, Nat.le_of_ble_eq_true rfl⟩ ⟨Nat.le_of_ble_eq_true rfl, Nat.le_of_ble_eq_true rfl⟩ (fun rr_8 σ8 pp_8 => ?_)
  obtain ⟨ee_8, ff_8⟩ := pp_8
  rw [ee_8, ff_8]
  refine V.if_ne C 16 dX10_fixedBit_11 rfl (fun hb_11 => ?_) (fun hb_11 => ?_)
  · have z_ := bI_ne0 hb_11
    obtain ⟨v, b, hv, hb, hb16, rfl, rfl⟩ := isB_of hwf z_
    have bx_ : bitX (nI v) (nI b) = 16 * v + b := by unfold bitX; rw [nI_toNat (by omega), nI_toNat (by omega)]
    refine V.aload_n C 0 rfl rfl dX10_fixedBit_16 ?_
    refine V.cVi C lX10_221 oX10_solveAll dX10_fixedBit_17 (ct_M_solveAll G _ P hP hwf) (by assumption) rfl rfl (Nat.le_of_ble_eq_true rfl) ⟨Nat.le_of_ble_eq_true rfl, Nat.le_of_ble_eq_true rfl⟩ ⟨Nat.le_of_ble_eq_true rfl, Nat.le_of_ble_eq_true rfl⟩ (fun rr_17 σ17 pp_17 => ?_)
    rw [pp_17.1]
    refine V.if_eq C 41 dX10_fixedBit_20 rfl (fun hb_20 => ?_) (fun hb_20 => ?_)
    · have z20_ := bI_eq0 hb_20
      refine V.bipush C ((-2)) b_m2 dX10_fixedBit_41 ?_
      exact V.iretS C R dX10_fixedBit_43 ⟨by unfold fbR; rw [if_pos z_, if_neg (by rw [z20_]; decide)], (((FM.refl [0] [] σ).sF (nI 0) (by decide)).mono (by decide) (by decide)).trans (pp_17.2.2.mono (by decide) (by decide))⟩
    · have z20_ := bI_ne0 hb_20
      have rt_ := pp_17.2.1.bits (x := 16 * v + b) (by omega)
      refine V.aload_n C 0 rfl rfl dX10_fixedBit_23 ?_
      refine V.getR C fX10_38 dX10_fixedBit_24 (by assumption) rfl ?_
      refine V.aload_n C 0 rfl rfl dX10_fixedBit_27 ?_
      refine V.bipush C (nI 16) b_16 dX10_fixedBit_28 ?_
      refine V.iload_n C 1 rfl rfl dX10_fixedBit_30 ?_
      refine V.imul C dX10_fixedBit_31 ?_
      refine V.iload_n C 2 rfl rfl dX10_fixedBit_32 ?_
      refine V.iadd C dX10_fixedBit_33 ?_
      rw [nI_mul, nI_add]
      refine V.cVi C lX10_203 oX10_rootOf dX10_fixedBit_34 (ct_M_rootOf G σ17 _ (16 * v + b) pp_17.2.1 (by omega)) (by assumption) rfl rfl (Nat.le_of_ble_eq_true rfl) ⟨Nat.le_of_ble_eq_true rfl, Nat.le_of_ble_eq_true rfl⟩ ⟨Nat.le_of_ble_eq_true rfl, Nat.le_of_ble_eq_true rfl⟩ (fun rr_34 σ34 pp_34 => ?_)
      obtain ⟨ee_34, ff_34⟩ := pp_34
      rw [ee_34, ff_34]
      refine V.ialdN C dX10_fixedBit_37 (by assumption) rt_.1 ?_
      rw [pp_17.2.1.val z20_ rt_.1 rt_.2]
      refine V.goto C 43 dX10_fixedBit_38 rfl ?_
      exact V.iretS C R dX10_fixedBit_43 ⟨by unfold fbR; rw [if_pos z_, if_pos z20_, bx_], (((FM.refl [0] [] σ).sF (nI 0) (by decide)).mono (by decide) (by decide)).trans (pp_17.2.2.mono (by decide) (by decide))⟩
  · have z_ := bI_eq0 hb_11
    refine V.iconst C ((-1)) c_m1 dX10_fixedBit_14 ?_
    exact V.iretS C R dX10_fixedBit_15 ⟨by unfold fbR; rw [if_neg (by rw [z_]; decide)], ((FM.refl [0] [] σ).sF (nI 0) (by decide)).mono (by decide) (by decide)⟩
set_option maxRecDepth 100000 in
set_option maxHeartbeats 4000000 in
theorem ct_M_isImplied (G : Gl) (σ : SS) (P : Prob) (x : Int32) (hP : FP (σ.2.1 124) P) (hwf : wfP P) : CI G mX10_isImplied [Rf G 123, .int x] σ (fun r σ1 => r = imR P x ∧ FM [0, 21] [132, 133] σ σ1) := by
  refine Ctr.of oX10_isImplied (Nat.le_of_ble_eq_true rfl) ?_
  intro X C R hnm hz0
  have C : Cx G X cX10_isImplied 2 RX10 6 132 0 0 := C
  have R : Cr G X (some .int) 0 0 _ := R
  show V G X 2 0 0 0 [(0, Rf G 123), (1, .int x)] [] (wld G σ)
  have kk_123 := sk_123
  have kk_124 := sk_124
  have kk_131 := sk_131
  have kk_132 := sk_132
  have kk_133 := sk_133
  have l3_ := hwf.2.2.1
  refine V.aload_n C 0 rfl rfl dX10_isImplied_0 ?_
  refine V.iconst C (nI 0) c_0 dX10_isImplied_1 ?_
  refine V.putI C fX10_47 dX10_isImplied_2 (by assumption) rfl ?_
  refine V.iload_n C 1 rfl rfl dX10_isImplied_5 ?_
  refine V.iconst C (nI 0) c_0 dX10_isImplied_6 ?_
  refine V.aload_n C 0 rfl rfl dX10_isImplied_7 ?_
  refine V.getR C fX10_7 dX10_isImplied_8 (by assumption) rfl ?_
  refine V.bipush C (nI 9) b_9 dX10_isImplied_11 ?_
  refine V.ialdN C dX10_isImplied_13 (by assumption) (by omega) ?_
  rw [show (sF σ 123 0 (nI 0)).2.1 124 9 = nI P.2.2.length from hP.2.2.1]
  refine V.iconst C (nI 1) c_1 dX10_isImplied_14 ?_
  refine V.isub C dX10_isImplied_15 ?_
  refine V.cSi C lX10_60 oX10_in dX10_isImplied_16 (ct_M_in G _ x (nI 0) (nI P.2.2.length - nI 1)) rfl rfl (Nat.le_of_ble_eq_true rfl) ⟨Nat.le_of_ble_eq_true rfl, Nat.le_of_ble_eq_true rfl⟩ ⟨Nat.le_of_ble_eq_true rfl, Nat.le_of_ble_eq_true rfl⟩ (fun rr_16 σ16 pp_16 => ?_)
  obtain ⟨ee_16, ff_16⟩ := pp_16
  rw [ee_16, ff_16, in_inB (by omega)]
  refine V.if_ne C 24 dX10_isImplied_19 rfl (fun hb_19 => ?_) (fun hb_19 => ?_)
  · have z_ := bI_ne0 hb_19
    obtain ⟨v, hv, rfl⟩ := inB_of (by omega) z_
    obtain ⟨s, hs_⟩ : ∃ s, P.2.2[v]? = some s := ⟨_, List.getElem?_eq_getElem hv⟩
    have sg_ : stG P (10 + v) = some s := by unfold stG; rw [if_neg (by omega), show 10 + v - 10 = v by omega]; exact hs_
    refine V.aload_n C 0 rfl rfl dX10_isImplied_24 ?_
    refine V.cVi C lX10_221 oX10_solveAll dX10_isImplied_25 (ct_M_solveAll G _ P hP hwf) (by assumption) rfl rfl (Nat.le_of_ble_eq_true rfl) ⟨Nat.le_of_ble_eq_true rfl, Nat.le_of_ble_eq_true rfl⟩ ⟨Nat.le_of_ble_eq_true rfl, Nat.le_of_ble_eq_true rfl⟩ (fun rr_25 σ25 pp_25 => ?_)
    rw [pp_25.1]
    refine V.if_ne C 34 dX10_isImplied_28 rfl (fun hb_28 => ?_) (fun hb_28 => ?_)
    · have z28_ := bI_ne0 hb_28
      refine V.aload_n C 0 rfl rfl dX10_isImplied_34 ?_
      refine V.bipush C (nI 10) b_10 dX10_isImplied_35 ?_
      refine V.iload_n C 1 rfl rfl dX10_isImplied_37 ?_
      refine V.iadd C dX10_isImplied_38 ?_
      rw [nI_add]
      refine V.cVv C lX10_215 oX10_equateTerms dX10_isImplied_39 (ct_M_eqTerms G σ25 P (ufAll uf0 P.2.1) (10 + v) s (by rw [pp_25.2.2.a (by decide)]; exact hP) hwf sg_ pp_25.2.1) (by assumption) rfl rfl (Nat.le_of_ble_eq_true rfl) ⟨Nat.le_of_ble_eq_true rfl, Nat.le_of_ble_eq_true rfl⟩ ⟨Nat.le_of_ble_eq_true rfl, Nat.le_of_ble_eq_true rfl⟩ (fun σ39 pp_39 => ?_)
      refine V.aload_n C 0 rfl rfl dX10_isImplied_42 ?_
      refine V.getI C fX10_200 dX10_isImplied_43 (by assumption) rfl ?_
      rw [pp_39.1.2.2.1]
      refine V.if_eq C 53 dX10_isImplied_46 rfl (fun hb_46 => ?_) (fun hb_46 => ?_)
      · have z46_ := bI_eq0 hb_46
        refine V.iconst C (nI 0) c_0 dX10_isImplied_53 ?_
        exact V.iretS C R dX10_isImplied_54 ⟨by unfold imR; rw [if_pos z_, if_pos z28_, nI_toNat (by omega), hs_]; show _ = bI (!(ufStm (ufAll uf0 P.2.1) s).2.2); rw [z46_]; rfl, ((((FM.refl [0] [] σ).sF (nI 0) (by decide)).mono (by decide) (by decide)).trans (pp_25.2.2.mono (by decide) (by decide))).trans (pp_39.2.mono (by decide) (by decide))⟩
      · have z46_ := bI_ne0 hb_46
        refine V.iconst C (nI 1) c_1 dX10_isImplied_49 ?_
        refine V.goto C 54 dX10_isImplied_50 rfl ?_
        exact V.iretS C R dX10_isImplied_54 ⟨by unfold imR; rw [if_pos z_, if_pos z28_, nI_toNat (by omega), hs_]; show _ = bI (!(ufStm (ufAll uf0 P.2.1) s).2.2); rw [z46_]; rfl, ((((FM.refl [0] [] σ).sF (nI 0) (by decide)).mono (by decide) (by decide)).trans (pp_25.2.2.mono (by decide) (by decide))).trans (pp_39.2.mono (by decide) (by decide))⟩
    · have z28_ := bI_eq0 hb_28
      refine V.bipush C ((-2)) b_m2 dX10_isImplied_31 ?_
      exact V.iretS C R dX10_isImplied_33 ⟨by unfold imR; rw [if_pos z_, if_neg (by rw [z28_]; decide)], (((FM.refl [0] [] σ).sF (nI 0) (by decide)).mono (by decide) (by decide)).trans (pp_25.2.2.mono (by decide) (by decide))⟩
  · have z_ := bI_eq0 hb_19
    refine V.iconst C ((-1)) c_m1 dX10_isImplied_22 ?_
    exact V.iretS C R dX10_isImplied_23 ⟨by unfold imR; rw [if_neg (by rw [z_]; decide)], ((FM.refl [0] [] σ).sF (nI 0) (by decide)).mono (by decide) (by decide)⟩
