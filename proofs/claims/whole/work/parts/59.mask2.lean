/-! The model's compareBits, representative. -/
def cmpO (a b : Option Nat) : Int32 := if a = none ∨ b = none then 2 else if a = b then 1 else 0
def cbR (P : Prob) (x y x2 y2 : Int32) : Int32 := if isB P x y = true ∧ isB P x2 y2 = true then (if (ufAll uf0 P.2.1).2.2 = true then (if (ufAll uf0 P.2.1).1 (bitX x y) = (ufAll uf0 P.2.1).1 (bitX x2 y2) then 1 else cmpO ((ufAll uf0 P.2.1).2.1 ((ufAll uf0 P.2.1).1 (bitX x y))) ((ufAll uf0 P.2.1).2.1 ((ufAll uf0 P.2.1).1 (bitX x2 y2)))) else -2) else -1
theorem oN_m9 {v : Option Nat} (h : ∀ w, v = some w → w < 2) : oN v = -9 ↔ v = none := by
  cases v with
  | none => exact ⟨fun _ => rfl, fun _ => rfl⟩
  | some w => exact ⟨fun q => absurd q (nI_ne_m9 (by have := h w rfl; omega)), fun q => by cases q⟩
theorem oN_eq {a b : Option Nat} (ha : ∀ w, a = some w → w < 2) (hb : ∀ w, b = some w → w < 2) : oN a = oN b ↔ a = b := by
  refine ⟨fun q => ?_, fun q => by rw [q]⟩
  cases a with
  | none => exact ((oN_m9 hb).mp q.symm).symm
  | some v =>
    cases b with
    | none => exact (oN_m9 ha).mp q
    | some w =>
      have := ha v rfl
      have := hb w rfl
      rw [nI_pe (a := v) (b := w) (by omega) (by omega) q]
/-- the representative: the class's root, as variable and slice -/
def rpR (P : Prob) (K : Nat → Bool) (x y r : Int32) : Prop := (isS P K x y = false → r = -1) ∧ (isS P K x y = true → ∃ p, stP (cutF K x.toNatClampNeg) y.toNatClampNeg p ∧ r = nI (16 * ((ufAll uf0 P.2.1).1 (16 * x.toNatClampNeg + p) / 16) + cntN (cutF K ((ufAll uf0 P.2.1).1 (16 * x.toNatClampNeg + p) / 16)) ((ufAll uf0 P.2.1).1 (16 * x.toNatClampNeg + p) % 16 + 1)))
set_option maxRecDepth 100000 in
set_option maxHeartbeats 4000000 in
theorem ct_M_compareBits (G : Gl) (σ : SS) (P : Prob) (x y x2 y2 : Int32) (hP : FP (σ.2.1 124) P) (hwf : wfP P) : CI G mX10_compareBits [Rf G 123, .int x, .int y, .int x2, .int y2] σ (fun r σ1 => r = cbR P x y x2 y2 ∧ FM [0, 21] [132, 133] σ σ1) := by
  refine Ctr.of oX10_compareBits (Nat.le_of_ble_eq_true rfl) ?_
  intro X C R hnm hz0
  have C : Cx G X cX10_compareBits 7 RX10 6 132 0 0 := C
  have R : Cr G X (some .int) 0 0 _ := R
  show V G X 7 0 0 0 [(0, Rf G 123), (1, .int x), (2, .int y), (3, .int x2), (4, .int y2)] [] (wld G σ)
  have kk_123 := sk_123
  have kk_124 := sk_124
  have kk_131 := sk_131
  have kk_132 := sk_132
  have kk_133 := sk_133
  refine V.aload_n C 0 rfl rfl dX10_compareBits_0 ?_
  refine V.iconst C (nI 0) c_0 dX10_compareBits_1 ?_
  refine V.putI C fX10_47 dX10_compareBits_2 (by assumption) rfl ?_
  refine V.aload_n C 0 rfl rfl dX10_compareBits_5 ?_
  refine V.iload_n C 1 rfl rfl dX10_compareBits_6 ?_
  refine V.iload_n C 2 rfl rfl dX10_compareBits_7 ?_
  refine V.cVi C lX10_227 oX10_isBit dX10_compareBits_8 (ct_M_isBit G _ P x y hP hwf) (by assumption) rfl rfl (Nat.le_of_ble_eq_true rfl) ⟨Nat.le_of_ble_eq_true rfl, Nat.le_of_ble_eq_true rfl⟩ ⟨Nat.le_of_ble_eq_true rfl, Nat.le_of_ble_eq_true rfl⟩ (fun rr_8 σ8 pp_8 => ?_)
  obtain ⟨ee_8, ff_8⟩ := pp_8
  rw [ee_8, ff_8]
  refine V.if_eq C 24 dX10_compareBits_11 rfl (fun hb_11 => ?_) (fun hb_11 => ?_)
  · have no_ : ¬ (isB P x y = true ∧ isB P x2 y2 = true) := fun q => absurd ((bI_eq0 hb_11).symm.trans q.1) (by decide)
    refine V.iconst C ((-1)) c_m1 dX10_compareBits_24 ?_
    exact V.iretS C R dX10_compareBits_25 ⟨by unfold cbR; rw [if_neg no_], ((FM.refl [0] [] σ).sF (nI 0) (by decide)).mono (by decide) (by decide)⟩
  · have z_ := bI_ne0 hb_11
    refine V.aload_n C 0 rfl rfl dX10_compareBits_14 ?_
    refine V.iload_n C 3 rfl rfl dX10_compareBits_15 ?_
    refine V.iload C rfl dX10_compareBits_16 ?_
    refine V.cVi C lX10_227 oX10_isBit dX10_compareBits_18 (ct_M_isBit G _ P x2 y2 hP hwf) (by assumption) rfl rfl (Nat.le_of_ble_eq_true rfl) ⟨Nat.le_of_ble_eq_true rfl, Nat.le_of_ble_eq_true rfl⟩ ⟨Nat.le_of_ble_eq_true rfl, Nat.le_of_ble_eq_true rfl⟩ (fun rr_18 σ18 pp_18 => ?_)
    obtain ⟨ee_18, ff_18⟩ := pp_18
    rw [ee_18, ff_18]
    refine V.if_ne C 26 dX10_compareBits_21 rfl (fun hb_21 => ?_) (fun hb_21 => ?_)
    · have z2_ := bI_ne0 hb_21
      obtain ⟨v, b, hv, hb, hb16, rfl, rfl⟩ := isB_of hwf z_
      obtain ⟨v2, b2, hv2, hb2, hb162, rfl, rfl⟩ := isB_of hwf z2_
      have bx_ : bitX (nI v) (nI b) = 16 * v + b := by unfold bitX; rw [nI_toNat (by omega), nI_toNat (by omega)]
      have by_ : bitX (nI v2) (nI b2) = 16 * v2 + b2 := by unfold bitX; rw [nI_toNat (by omega), nI_toNat (by omega)]
      refine V.aload_n C 0 rfl rfl dX10_compareBits_26 ?_
      refine V.cVi C lX10_221 oX10_solveAll dX10_compareBits_27 (ct_M_solveAll G _ P hP hwf) (by assumption) rfl rfl (Nat.le_of_ble_eq_true rfl) ⟨Nat.le_of_ble_eq_true rfl, Nat.le_of_ble_eq_true rfl⟩ ⟨Nat.le_of_ble_eq_true rfl, Nat.le_of_ble_eq_true rfl⟩ (fun rr_27 σ27 pp_27 => ?_)
      rw [pp_27.1]
      refine V.if_ne C 36 dX10_compareBits_30 rfl (fun hb_30 => ?_) (fun hb_30 => ?_)
      · have z30_ := bI_ne0 hb_30
        have r1_ := pp_27.2.1.bits (x := 16 * v + b) (by omega)
        have r2_ := pp_27.2.1.bits (x := 16 * v2 + b2) (by omega)
        have v1_ := pp_27.2.1.val z30_ r1_.1 r1_.2
        have v2_ := pp_27.2.1.val z30_ r2_.1 r2_.2
        have w2_ := fun x v h => pp_27.2.1.2.2.2 x v h
        refine V.aload_n C 0 rfl rfl dX10_compareBits_36 ?_
        refine V.bipush C (nI 16) b_16 dX10_compareBits_37 ?_
        refine V.iload_n C 1 rfl rfl dX10_compareBits_39 ?_
        refine V.imul C dX10_compareBits_40 ?_
        refine V.iload_n C 2 rfl rfl dX10_compareBits_41 ?_
        refine V.iadd C dX10_compareBits_42 ?_
        rw [nI_mul, nI_add]
        refine V.cVi C lX10_203 oX10_rootOf dX10_compareBits_43 (ct_M_rootOf G σ27 _ (16 * v + b) pp_27.2.1 (by omega)) (by assumption) rfl rfl (Nat.le_of_ble_eq_true rfl) ⟨Nat.le_of_ble_eq_true rfl, Nat.le_of_ble_eq_true rfl⟩ ⟨Nat.le_of_ble_eq_true rfl, Nat.le_of_ble_eq_true rfl⟩ (fun rr_43 σ43 pp_43 => ?_)
        obtain ⟨ee_43, ff_43⟩ := pp_43
        rw [ee_43, ff_43]
        refine V.istore C dX10_compareBits_46 (by decide) ?_
        refine V.aload_n C 0 rfl rfl dX10_compareBits_48 ?_
        refine V.bipush C (nI 16) b_16 dX10_compareBits_49 ?_
        refine V.iload_n C 3 rfl rfl dX10_compareBits_51 ?_
        refine V.imul C dX10_compareBits_52 ?_
        refine V.iload C rfl dX10_compareBits_53 ?_
        refine V.iadd C dX10_compareBits_55 ?_
        rw [nI_mul, nI_add]
        refine V.cVi C lX10_203 oX10_rootOf dX10_compareBits_56 (ct_M_rootOf G σ27 _ (16 * v2 + b2) pp_27.2.1 (by omega)) (by assumption) rfl rfl (Nat.le_of_ble_eq_true rfl) ⟨Nat.le_of_ble_eq_true rfl, Nat.le_of_ble_eq_true rfl⟩ ⟨Nat.le_of_ble_eq_true rfl, Nat.le_of_ble_eq_true rfl⟩ (fun rr_56 σ56 pp_56 => ?_)
        obtain ⟨ee_56, ff_56⟩ := pp_56
        rw [ee_56, ff_56]
        refine V.istore C dX10_compareBits_59 (by decide) ?_
        refine V.iload C rfl dX10_compareBits_61 ?_
        refine V.iload C rfl dX10_compareBits_63 ?_
        refine V.icmp_ne C 70 dX10_compareBits_65 rfl (fun hb_65 => ?_) (fun hb_65 => ?_)
        · have z65_ : ¬ (ufAll uf0 P.2.1).1 (16 * v + b) = (ufAll uf0 P.2.1).1 (16 * v2 + b2) := fun q => hb_65 (by rw [q])
          refine V.aload_n C 0 rfl rfl dX10_compareBits_70 ?_
          refine V.getR C fX10_38 dX10_compareBits_71 (by assumption) rfl ?_
          refine V.iload C rfl dX10_compareBits_74 ?_
          refine V.ialdN C dX10_compareBits_76 (by assumption) r1_.1 ?_
          rw [v1_]
          refine V.bipush C ((-9)) b_m9 dX10_compareBits_77 ?_
          refine V.icmp_eq C 94 dX10_compareBits_79 rfl (fun hb_79 => ?_) (fun hb_79 => ?_)
          · have z79_ := (oN_m9 (fun w h => w2_ _ w h)).mp hb_79
            refine V.iconst C (nI 2) c_2 dX10_compareBits_94 ?_
            refine V.goto C 120 dX10_compareBits_95 rfl ?_
            exact V.iretS C R dX10_compareBits_120 ⟨by unfold cbR; rw [if_pos ⟨z_, z2_⟩, if_pos z30_, bx_, by_, if_neg z65_]; unfold cmpO; rw [if_pos (Or.inl z79_)]; rfl, (((FM.refl [0] [] σ).sF (nI 0) (by decide)).mono (by decide) (by decide)).trans (pp_27.2.2.mono (by decide) (by decide))⟩
          · have z79_ := fun q => hb_79 ((oN_m9 (fun w h => w2_ _ w h)).mpr q)
            refine V.aload_n C 0 rfl rfl dX10_compareBits_82 ?_
            refine V.getR C fX10_38 dX10_compareBits_83 (by assumption) rfl ?_
            refine V.iload C rfl dX10_compareBits_86 ?_
            refine V.ialdN C dX10_compareBits_88 (by assumption) r2_.1 ?_
            rw [v2_]
            refine V.bipush C ((-9)) b_m9 dX10_compareBits_89 ?_
            refine V.icmp_ne C 98 dX10_compareBits_91 rfl (fun hb_91 => ?_) (fun hb_91 => ?_)
            · have z91_ := fun q => hb_91 ((oN_m9 (fun w h => w2_ _ w h)).mpr q)
              refine V.aload_n C 0 rfl rfl dX10_compareBits_98 ?_
              refine V.getR C fX10_38 dX10_compareBits_99 (by assumption) rfl ?_
              refine V.iload C rfl dX10_compareBits_102 ?_
              refine V.ialdN C dX10_compareBits_104 (by assumption) r1_.1 ?_
              rw [v1_]
              refine V.aload_n C 0 rfl rfl dX10_compareBits_105 ?_
              refine V.getR C fX10_38 dX10_compareBits_106 (by assumption) rfl ?_
              refine V.iload C rfl dX10_compareBits_109 ?_
              refine V.ialdN C dX10_compareBits_111 (by assumption) r2_.1 ?_
              rw [v2_]
              refine V.icmp_ne C 119 dX10_compareBits_112 rfl (fun hb_112 => ?_) (fun hb_112 => ?_)
              · have z112_ := fun q => hb_112 ((oN_eq (fun w h => w2_ _ w h) (fun w h => w2_ _ w h)).mpr q)
                refine V.iconst C (nI 0) c_0 dX10_compareBits_119 ?_
                exact V.iretS C R dX10_compareBits_120 ⟨by unfold cbR; rw [if_pos ⟨z_, z2_⟩, if_pos z30_, bx_, by_, if_neg z65_]; unfold cmpO; rw [if_neg (fun q => q.elim z79_ z91_), if_neg z112_]; rfl, (((FM.refl [0] [] σ).sF (nI 0) (by decide)).mono (by decide) (by decide)).trans (pp_27.2.2.mono (by decide) (by decide))⟩
              · have z112_ := (oN_eq (fun w h => w2_ _ w h) (fun w h => w2_ _ w h)).mp hb_112
                refine V.iconst C (nI 1) c_1 dX10_compareBits_115 ?_
                refine V.goto C 120 dX10_compareBits_116 rfl ?_
                exact V.iretS C R dX10_compareBits_120 ⟨by unfold cbR; rw [if_pos ⟨z_, z2_⟩, if_pos z30_, bx_, by_, if_neg z65_]; unfold cmpO; rw [if_neg (fun q => q.elim z79_ z91_), if_pos z112_]; rfl, (((FM.refl [0] [] σ).sF (nI 0) (by decide)).mono (by decide) (by decide)).trans (pp_27.2.2.mono (by decide) (by decide))⟩
            · have z91_ := (oN_m9 (fun w h => w2_ _ w h)).mp hb_91
              refine V.iconst C (nI 2) c_2 dX10_compareBits_94 ?_
              refine V.goto C 120 dX10_compareBits_95 rfl ?_
              exact V.iretS C R dX10_compareBits_120 ⟨by unfold cbR; rw [if_pos ⟨z_, z2_⟩, if_pos z30_, bx_, by_, if_neg z65_]; unfold cmpO; rw [if_pos (Or.inr z91_)]; rfl, (((FM.refl [0] [] σ).sF (nI 0) (by decide)).mono (by decide) (by decide)).trans (pp_27.2.2.mono (by decide) (by decide))⟩
        · have z65_ := nI_pe (by omega) (by omega) hb_65
          refine V.iconst C (nI 1) c_1 dX10_compareBits_68 ?_
          exact V.iretS C R dX10_compareBits_69 ⟨by unfold cbR; rw [if_pos ⟨z_, z2_⟩, if_pos z30_, bx_, by_, if_pos z65_]; rfl, (((FM.refl [0] [] σ).sF (nI 0) (by decide)).mono (by decide) (by decide)).trans (pp_27.2.2.mono (by decide) (by decide))⟩
      · have z30_ := bI_eq0 hb_30
        refine V.bipush C ((-2)) b_m2 dX10_compareBits_33 ?_
        exact V.iretS C R dX10_compareBits_35 ⟨by unfold cbR; rw [if_pos ⟨z_, z2_⟩, if_neg (by rw [z30_]; decide)], (((FM.refl [0] [] σ).sF (nI 0) (by decide)).mono (by decide) (by decide)).trans (pp_27.2.2.mono (by decide) (by decide))⟩
    · have no_ : ¬ (isB P x y = true ∧ isB P x2 y2 = true) := fun q => absurd ((bI_eq0 hb_21).symm.trans q.2) (by decide)
      refine V.iconst C ((-1)) c_m1 dX10_compareBits_24 ?_
      exact V.iretS C R dX10_compareBits_25 ⟨by unfold cbR; rw [if_neg no_], ((FM.refl [0] [] σ).sF (nI 0) (by decide)).mono (by decide) (by decide)⟩
theorem cutF_lt {P : Prob} {K : Nat → Bool} {v p : Nat} (h : cutF K v p = true) (hs : Snd P K) (hw : wfP P) : 16 * v + p < 128 := (hs.inn hw h).1
set_option maxRecDepth 100000 in
set_option maxHeartbeats 4000000 in
theorem ct_M_representative (G : Gl) (σ : SS) (P : Prob) (c0 : Bool) (x y : Int32) (hP : FP (σ.2.1 124) P) (hwf : wfP P) (hc0 : σ.1 123 18 = bI c0) : CI G mX10_representative [Rf G 123, .int x, .int y] σ (fun r σ1 => ∃ K, RKm σ1 K ∧ Least P K ∧ rpR P K x y r ∧ Z18 σ1 ∧ FM [0, 18, 21] [131, 132, 133] σ σ1) := by
  refine Ctr.of oX10_representative (Nat.le_of_ble_eq_true rfl) ?_
  intro X C R hnm hz0
  have C : Cx G X cX10_representative 4 RX10 6 132 0 0 := C
  have R : Cr G X (some .int) 0 0 _ := R
  show V G X 4 0 0 0 [(0, Rf G 123), (1, .int x), (2, .int y)] [] (wld G σ)
  have kk_123 := sk_123
  have kk_124 := sk_124
  have kk_131 := sk_131
  have kk_132 := sk_132
  have kk_133 := sk_133
  refine V.aload_n C 0 rfl rfl dX10_representative_0 ?_
  refine V.iconst C (nI 0) c_0 dX10_representative_1 ?_
  refine V.putI C fX10_47 dX10_representative_2 (by assumption) rfl ?_
  refine V.aload_n C 0 rfl rfl dX10_representative_5 ?_
  refine V.iload_n C 1 rfl rfl dX10_representative_6 ?_
  refine V.iload_n C 2 rfl rfl dX10_representative_7 ?_
  refine V.cVi C lX10_194 oX10_isSlice dX10_representative_8 (ct_M_isSlice G _ P c0 x y hP hwf (by rw [sF_ne _ _ (by omega)]; exact hc0)) (by assumption) rfl rfl (Nat.le_of_ble_eq_true rfl) ⟨Nat.le_of_ble_eq_true rfl, Nat.le_of_ble_eq_true rfl⟩ ⟨Nat.le_of_ble_eq_true rfl, Nat.le_of_ble_eq_true rfl⟩ (fun rr_8 σ8 pp_8 => ?_)
  obtain ⟨K_, rk_, lc_, ee_8, c8_, f_⟩ := pp_8
  rw [ee_8]
  refine V.if_ne C 16 dX10_representative_11 rfl (fun hb_11 => ?_) (fun hb_11 => ?_)
  · have z_ := bI_ne0 hb_11
    obtain ⟨v, j, hv, hj, rfl, rfl⟩ := isS_of z_
    have j17_ := slN_le (P := P) (K := K_) (v := v)
    have jc_ : j ≤ cntN (cutF K_ v) 16 := by
      unfold slN at hj
      split at hj <;> omega
    refine V.aload_n C 0 rfl rfl dX10_representative_16 ?_
    refine V.cVi C lX10_221 oX10_solveAll dX10_representative_17 (ct_M_solveAll G σ8 P (by rw [f_.a (by decide)]; exact hP) hwf) (by assumption) rfl rfl (Nat.le_of_ble_eq_true rfl) ⟨Nat.le_of_ble_eq_true rfl, Nat.le_of_ble_eq_true rfl⟩ ⟨Nat.le_of_ble_eq_true rfl, Nat.le_of_ble_eq_true rfl⟩ (fun rr_17 σ17 pp_17 => ?_)
    have P17_ : FP (σ17.2.1 124) P := by rw [pp_17.2.2.a (by decide), f_.a (by decide)]; exact hP
    have K17_ := rk_.fm pp_17.2.2 (by decide)
    refine V.pop C rfl dX10_representative_20 ?_
    refine V.aload_n C 0 rfl rfl dX10_representative_21 ?_
    refine V.bipush C (nI 16) b_16 dX10_representative_22 ?_
    refine V.iload_n C 1 rfl rfl dX10_representative_24 ?_
    refine V.imul C dX10_representative_25 ?_
    refine V.aload_n C 0 rfl rfl dX10_representative_26 ?_
    refine V.iload_n C 1 rfl rfl dX10_representative_27 ?_
    refine V.iload_n C 2 rfl rfl dX10_representative_28 ?_
    refine V.cVi C lX10_197 oX10_startOf dX10_representative_29 (ct_M_startOf G σ17 P K_ v j P17_ hwf K17_ lc_.2 hv (by omega)) (by assumption) rfl rfl (Nat.le_of_ble_eq_true rfl) ⟨Nat.le_of_ble_eq_true rfl, Nat.le_of_ble_eq_true rfl⟩ ⟨Nat.le_of_ble_eq_true rfl, Nat.le_of_ble_eq_true rfl⟩ (fun rr_29 σ29 pp_29 => ?_)
    obtain ⟨p_, ee_29, st_, ff_29⟩ := pp_29
    rw [ee_29, ff_29]
    have st_ : stP (cutF K_ v) j p_ := by
      rcases st_ with q | q
      · exact q.1
      · omega
    have p16_ : p_ < 16 := by
      rcases st_ with q | q
      · omega
      · rcases Nat.lt_or_ge p_ 16 with w | w
        · exact w
        · have := cntN_mono (cutF K_ v) w; omega
    refine V.iadd C dX10_representative_32 ?_
    rw [nI_mul, nI_add]
    refine V.cVi C lX10_203 oX10_rootOf dX10_representative_33 (ct_M_rootOf G σ17 _ (16 * v + p_) pp_17.2.1 (by omega)) (by assumption) rfl rfl (Nat.le_of_ble_eq_true rfl) ⟨Nat.le_of_ble_eq_true rfl, Nat.le_of_ble_eq_true rfl⟩ ⟨Nat.le_of_ble_eq_true rfl, Nat.le_of_ble_eq_true rfl⟩ (fun rr_33 σ33 pp_33 => ?_)
    obtain ⟨ee_33, ff_33⟩ := pp_33
    rw [ee_33, ff_33]
    obtain ⟨rt_, hrt_⟩ : ∃ r, r = (ufAll uf0 P.2.1).1 (16 * v + p_) := ⟨_, rfl⟩
    have rb_ := (pp_17.2.1.bits (x := 16 * v + p_) (by omega)).1
    rw [← hrt_]
    rw [← hrt_] at rb_
    refine V.istore_n C 3 dX10_representative_36 rfl (by decide) ?_
    refine V.bipush C (nI 16) b_16 dX10_representative_37 ?_
    refine V.iload_n C 3 rfl rfl dX10_representative_39 ?_
    refine V.bipush C (nI 16) b_16 dX10_representative_40 ?_
    refine V.idiv C (by decide) dX10_representative_42 ?_
    rw [nI_div (by omega) (by decide) (by decide)]
    refine V.imul C dX10_representative_43 ?_
    rw [nI_mul]
    refine V.aload_n C 0 rfl rfl dX10_representative_44 ?_
    refine V.iload_n C 3 rfl rfl dX10_representative_45 ?_
    refine V.bipush C (nI 16) b_16 dX10_representative_46 ?_
    refine V.idiv C (by decide) dX10_representative_48 ?_
    rw [nI_div (by omega) (by decide) (by decide)]
    refine V.iload_n C 3 rfl rfl dX10_representative_49 ?_
    refine V.bipush C (nI 16) b_16 dX10_representative_50 ?_
    refine V.irem C (by decide) dX10_representative_52 ?_
    rw [nI_rem (by omega) (by decide) (by decide)]
    refine V.cVi C lX10_224 oX10_sliceOfBit dX10_representative_53 (ct_M_sliceOfBit G σ17 P K_ (rt_ / 16) (rt_ % 16) P17_ hwf K17_ lc_.2 (by omega) (by omega)) (by assumption) rfl rfl (Nat.le_of_ble_eq_true rfl) ⟨Nat.le_of_ble_eq_true rfl, Nat.le_of_ble_eq_true rfl⟩ ⟨Nat.le_of_ble_eq_true rfl, Nat.le_of_ble_eq_true rfl⟩ (fun rr_53 σ53 pp_53 => ?_)
    obtain ⟨ee_53, ff_53⟩ := pp_53
    rw [ee_53, ff_53]
    refine V.iadd C dX10_representative_56 ?_
    rw [nI_add]
    exact V.iretS C R dX10_representative_57 ⟨K_, K17_, lc_, ⟨fun q => absurd (z_.symm.trans q) (by decide), fun _ => ⟨p_, by rw [nI_toNat (by omega), nI_toNat (by omega)]; exact st_, by rw [nI_toNat (by omega), ← hrt_]⟩⟩, c8_.fm pp_17.2.2 (by decide), ((((FM.refl [0] [] σ).sF (nI 0) (by decide)).mono (by decide) (by decide)).trans (f_.mono (by decide) (by decide))).trans (pp_17.2.2.mono (by decide) (by decide))⟩
  · have z_ := bI_eq0 hb_11
    refine V.iconst C ((-1)) c_m1 dX10_representative_14 ?_
    exact V.iretS C R dX10_representative_15 ⟨K_, rk_, lc_, ⟨fun _ => rfl, fun q => absurd (z_.symm.trans q) (by decide)⟩, c8_, (((FM.refl [0] [] σ).sF (nI 0) (by decide)).mono (by decide) (by decide)).trans (f_.mono (by decide) (by decide))⟩
