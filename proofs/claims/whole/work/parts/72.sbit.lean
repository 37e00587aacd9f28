/-! The solver: fixedBit, compareBits, freeBits, isSatisfiable, oneBits, value, isImplied. -/
theorem ct_Cl_constN (G : Gl) (σ : SS) (c x : Nat) (u : UF) (hC : ClA c) (hU : RCu σ c u) (hx : x < 128) : CI G mX0_constantOf [Rf G c, .int (nI x)] σ (fun r σ1 => r = ov (u.2.1 (u.1 x)) ∧ RCu σ1 c u ∧ Fr c (c + 3) σ σ1) := by
  have h := ct_Cl_constantOf G σ c (16 + x) u hC hU (cdN hx).2.2.2
  rw [(cdN hx).1, (cdN hx).2.1, (cdN hx).2.2.1, if_pos rfl] at h
  exact h
theorem ov_oN {v : Option Nat} (h : ∀ w, v = some w → w < 2) : (ov v = -1 → oN v = -9) ∧ (¬ ov v = -1 → ov v = oN v) := by
  cases v with
  | none => exact ⟨fun _ => rfl, fun q => absurd rfl q⟩
  | some w => exact ⟨fun q => absurd ((ov_free h).mp q) (by simp), fun _ => rfl⟩
theorem ov_inj2 {a b : Option Nat} (ha : ∀ w, a = some w → w < 2) (hb : ∀ w, b = some w → w < 2) (h1 : ¬ a = none) (h2 : ¬ b = none) (h : ov a = ov b) : a = b := by
  cases a with
  | none => exact absurd rfl h1
  | some x =>
    cases b with
    | none => exact absurd rfl h2
    | some y =>
      have h3 := ha x rfl
      have h4 := hb y rfl
      rw [nI_pe (by omega) (by omega) (show nI x = nI y from h)]
theorem shl_00 : ∀ b, b < 32 → shl32 (nI 0) (nI b) = 0 := by decide +kernel
theorem or_0 (x : Int32) : x ||| 0 = x := by
  apply Int32.toBitVec_inj.mp
  rw [Int32.toBitVec_or]; simp
theorem vW_var {u : UF} {os : List Nat} {x : Nat} (hx : x < 128) : vW u os (16 + x) = if u.1 x ∈ os then 1 else (u.2.1 (u.1 x)).getD 0 := by
  unfold vW
  rw [if_pos (cdN hx).2.1, (cdN hx).2.2.1]
set_option maxRecDepth 100000 in
set_option maxHeartbeats 4000000 in
theorem ct_S_fixedBit (G : Gl) (σ : SS) (P : Prob) (x y : Int32) (hC : CInv σ P) : CI G mX9_fixedBit [Rf G 0, .int x, .int y] σ (fun r σ1 => r = fbR P x y ∧ CInv σ1 P ∧ FQ 113 σ σ1) := by
  refine Ctr.of oX9_fixedBit (Nat.le_of_ble_eq_true rfl) ?_
  intro X C R hnm hz0
  have C : Cx G X cX9_fixedBit 4 RX9 3 63 0 0 := C
  have R : Cr G X (some .int) 0 0 _ := R
  show V G X 4 0 0 0 [(0, Rf G 0), (1, .int x), (2, .int y)] [] (wld G σ)
  have kk_0 := sk_0
  have kk_1 := sk_1
  have kk_9 := sk_9
  have kk_11 := sk_11
  have kk_15 := sk_15
  have kk_19 := sk_19
  have kk_29 := sk_29
  have kk_91 := sk_91
  have kk_101 := sk_101
  have kk_111 := sk_111
  have kk_113 := sk_113
  have kk_116 := sk_116
  have kk_119 := sk_119
  have hW := hC.2.1
  refine V.aload_n C 0 rfl rfl dX9_fixedBit_0 ?_
  refine V.iload_n C 1 rfl rfl dX9_fixedBit_1 ?_
  refine V.iload_n C 2 rfl rfl dX9_fixedBit_2 ?_
  refine V.cVi C lX9_176 oX9_isBit dX9_fixedBit_3 (ct_S_isBit G σ P x y hC.1 hW) (by assumption) rfl rfl (Nat.le_of_ble_eq_true rfl) ⟨Nat.le_of_ble_eq_true rfl, Nat.le_of_ble_eq_true rfl⟩ ⟨Nat.le_of_ble_eq_true rfl, Nat.le_of_ble_eq_true rfl⟩ (fun rr_3 σ3 pp_3 => ?_)
  obtain ⟨ee_3, ff_3⟩ := pp_3
  rw [ee_3, ff_3]
  refine V.if_ne C 11 dX9_fixedBit_6 rfl (fun hb_6 => ?_) (fun hb_6 => ?_)
  · have z_ := bI_ne0 hb_6
    obtain ⟨v, b, hv, hb, hb16, rfl, rfl⟩ := isB_of hW z_
    have bx_ : bitX (nI v) (nI b) = v * 16 + b := by unfold bitX; rw [nI_toNat (by omega), nI_toNat (by omega), Nat.mul_comm]
    refine V.aload_n C 0 rfl rfl dX9_fixedBit_11 ?_
    refine V.getR C fX9_58 dX9_fixedBit_12 (by assumption) rfl ?_
    refine V.cVi C lX9_165 oX0_agree dX9_fixedBit_15 (ct_Cl_agree G σ 113 _ ClA_113 hC.2.2.2.1) (by assumption) rfl rfl (Nat.le_of_ble_eq_true rfl) ⟨Nat.le_of_ble_eq_true rfl, Nat.le_of_ble_eq_true rfl⟩ ⟨Nat.le_of_ble_eq_true rfl, Nat.le_of_ble_eq_true rfl⟩ (fun rr_15 σ15 pp_15 => ?_)
    obtain ⟨ee_15, ff_15⟩ := pp_15
    rw [ee_15, ff_15]
    refine V.if_ne C 24 dX9_fixedBit_18 rfl (fun hb_18 => ?_) (fun hb_18 => ?_)
    · have z2_ := bI_ne0 hb_18
      refine V.aload_n C 0 rfl rfl dX9_fixedBit_24 ?_
      refine V.getR C fX9_58 dX9_fixedBit_25 (by assumption) rfl ?_
      refine V.iload_n C 1 rfl rfl dX9_fixedBit_28 ?_
      refine V.iload_n C 2 rfl rfl dX9_fixedBit_29 ?_
      refine V.cSi C lX9_150 oX9_nodeOf dX9_fixedBit_30 (ct_nodeOf G σ v b) rfl rfl (Nat.le_of_ble_eq_true rfl) ⟨Nat.le_of_ble_eq_true rfl, Nat.le_of_ble_eq_true rfl⟩ ⟨Nat.le_of_ble_eq_true rfl, Nat.le_of_ble_eq_true rfl⟩ (fun rr_30 σ30 pp_30 => ?_)
      obtain ⟨ee_30, ff_30⟩ := pp_30
      rw [ee_30, ff_30]
      refine V.cVi C lX9_179 oX0_constantOf dX9_fixedBit_33 (ct_Cl_constN G σ 113 (v * 16 + b) _ ClA_113 hC.2.2.2.1 (by omega)) (by assumption) rfl rfl (Nat.le_of_ble_eq_true rfl) ⟨Nat.le_of_ble_eq_true rfl, Nat.le_of_ble_eq_true rfl⟩ ⟨Nat.le_of_ble_eq_true rfl, Nat.le_of_ble_eq_true rfl⟩ (fun rr_33 σ33 pp_33 => ?_)
      obtain ⟨ee_33, u33_, f33_⟩ := pp_33
      rw [ee_33]
      have oo_ := ov_oN (hC.2.2.2.1.2.2.2 ((ufAll uf0 P.2.1).1 (v * 16 + b)))
      refine V.istore_n C 3 dX9_fixedBit_36 rfl (by decide) ?_
      refine V.iload_n C 3 rfl rfl dX9_fixedBit_37 ?_
      refine V.iconst C ((-1)) c_m1 dX9_fixedBit_38 ?_
      refine V.icmp_ne C 47 dX9_fixedBit_39 rfl (fun hb_39 => ?_) (fun hb_39 => ?_)
      · refine V.iload_n C 3 rfl rfl dX9_fixedBit_47 ?_
        exact V.iretS C R dX9_fixedBit_48 ⟨by unfold fbR; rw [if_pos z_, if_pos z2_, bx_]; exact oo_.2 hb_39, hC.cls u33_ (f33_.mono (by omega) (by omega)), f33_.q (by omega) (by omega) (by omega)⟩
      · refine V.bipush C ((-9)) b_m9 dX9_fixedBit_42 ?_
        refine V.goto C 48 dX9_fixedBit_44 rfl ?_
        exact V.iretS C R dX9_fixedBit_48 ⟨by unfold fbR; rw [if_pos z_, if_pos z2_, bx_]; exact (oo_.1 hb_39).symm, hC.cls u33_ (f33_.mono (by omega) (by omega)), f33_.q (by omega) (by omega) (by omega)⟩
    · have z2_ := bI_eq0 hb_18
      refine V.bipush C ((-2)) b_m2 dX9_fixedBit_21 ?_
      exact V.iretS C R dX9_fixedBit_23 ⟨by unfold fbR; rw [if_pos z_, if_neg (by rw [z2_]; decide)], hC, FQ.refl _ _⟩
  · have z_ := bI_eq0 hb_6
    refine V.iconst C ((-1)) c_m1 dX9_fixedBit_9 ?_
    exact V.iretS C R dX9_fixedBit_10 ⟨by unfold fbR; rw [if_neg (by rw [z_]; decide)], hC, FQ.refl _ _⟩
set_option maxRecDepth 100000 in
set_option maxHeartbeats 4000000 in
theorem ct_S_compareBits (G : Gl) (σ : SS) (P : Prob) (x y x2 y2 : Int32) (hC : CInv σ P) : CI G mX9_compareBits [Rf G 0, .int x, .int y, .int x2, .int y2] σ (fun r σ1 => r = cbR P x y x2 y2 ∧ CInv σ1 P ∧ FQ 113 σ σ1) := by
  refine Ctr.of oX9_compareBits (Nat.le_of_ble_eq_true rfl) ?_
  intro X C R hnm hz0
  have C : Cx G X cX9_compareBits 9 RX9 3 63 0 0 := C
  have R : Cr G X (some .int) 0 0 _ := R
  show V G X 9 0 0 0 [(0, Rf G 0), (1, .int x), (2, .int y), (3, .int x2), (4, .int y2)] [] (wld G σ)
  have kk_0 := sk_0
  have kk_1 := sk_1
  have kk_9 := sk_9
  have kk_11 := sk_11
  have kk_15 := sk_15
  have kk_19 := sk_19
  have kk_29 := sk_29
  have kk_91 := sk_91
  have kk_101 := sk_101
  have kk_111 := sk_111
  have kk_113 := sk_113
  have kk_116 := sk_116
  have kk_119 := sk_119
  have hW := hC.2.1
  refine V.aload_n C 0 rfl rfl dX9_compareBits_0 ?_
  refine V.iload_n C 1 rfl rfl dX9_compareBits_1 ?_
  refine V.iload_n C 2 rfl rfl dX9_compareBits_2 ?_
  refine V.cVi C lX9_176 oX9_isBit dX9_compareBits_3 (ct_S_isBit G σ P x y hC.1 hW) (by assumption) rfl rfl (Nat.le_of_ble_eq_true rfl) ⟨Nat.le_of_ble_eq_true rfl, Nat.le_of_ble_eq_true rfl⟩ ⟨Nat.le_of_ble_eq_true rfl, Nat.le_of_ble_eq_true rfl⟩ (fun rr_3 σ3 pp_3 => ?_)
  obtain ⟨ee_3, ff_3⟩ := pp_3
  rw [ee_3, ff_3]
  refine V.if_eq C 19 dX9_compareBits_6 rfl (fun hb_6 => ?_) (fun hb_6 => ?_)
  · have z_ := bI_eq0 hb_6
    have no_ : ¬ (isB P x y = true ∧ isB P x2 y2 = true) := fun q => absurd (z_.symm.trans q.1) (by decide)
    refine V.iconst C ((-1)) c_m1 dX9_compareBits_19 ?_
    exact V.iretS C R dX9_compareBits_20 ⟨by unfold cbR; rw [if_neg no_], hC, FQ.refl _ _⟩
  · have z_ := bI_ne0 hb_6
    refine V.aload_n C 0 rfl rfl dX9_compareBits_9 ?_
    refine V.iload_n C 3 rfl rfl dX9_compareBits_10 ?_
    refine V.iload C rfl dX9_compareBits_11 ?_
    refine V.cVi C lX9_176 oX9_isBit dX9_compareBits_13 (ct_S_isBit G σ P x2 y2 hC.1 hW) (by assumption) rfl rfl (Nat.le_of_ble_eq_true rfl) ⟨Nat.le_of_ble_eq_true rfl, Nat.le_of_ble_eq_true rfl⟩ ⟨Nat.le_of_ble_eq_true rfl, Nat.le_of_ble_eq_true rfl⟩ (fun rr_13 σ13 pp_13 => ?_)
    obtain ⟨ee_13, ff_13⟩ := pp_13
    rw [ee_13, ff_13]
    refine V.if_ne C 21 dX9_compareBits_16 rfl (fun hb_16 => ?_) (fun hb_16 => ?_)
    · have z2_ := bI_ne0 hb_16
      obtain ⟨v, b, hv, hb, hb16, rfl, rfl⟩ := isB_of hW z_
      have bx_ : bitX (nI v) (nI b) = v * 16 + b := by unfold bitX; rw [nI_toNat (by omega), nI_toNat (by omega), Nat.mul_comm]
      obtain ⟨v2, b2, hv2, hb2, hb216, rfl, rfl⟩ := isB_of hW z2_
      have bx2_ : bitX (nI v2) (nI b2) = v2 * 16 + b2 := by unfold bitX; rw [nI_toNat (by omega), nI_toNat (by omega), Nat.mul_comm]
      have r1_ := (hC.2.2.2.1.bits (x := (v * 16 + b)) (by omega)).1
      have r2_ := (hC.2.2.2.1.bits (x := (v2 * 16 + b2)) (by omega)).1
      have g1_ := hC.2.2.2.1.2.2.2 ((ufAll uf0 P.2.1).1 (v * 16 + b))
      have g2_ := hC.2.2.2.1.2.2.2 ((ufAll uf0 P.2.1).1 (v2 * 16 + b2))
      refine V.aload_n C 0 rfl rfl dX9_compareBits_21 ?_
      refine V.getR C fX9_58 dX9_compareBits_22 (by assumption) rfl ?_
      refine V.cVi C lX9_165 oX0_agree dX9_compareBits_25 (ct_Cl_agree G σ 113 _ ClA_113 hC.2.2.2.1) (by assumption) rfl rfl (Nat.le_of_ble_eq_true rfl) ⟨Nat.le_of_ble_eq_true rfl, Nat.le_of_ble_eq_true rfl⟩ ⟨Nat.le_of_ble_eq_true rfl, Nat.le_of_ble_eq_true rfl⟩ (fun rr_25 σ25 pp_25 => ?_)
      obtain ⟨ee_25, ff_25⟩ := pp_25
      rw [ee_25, ff_25]
      refine V.if_ne C 34 dX9_compareBits_28 rfl (fun hb_28 => ?_) (fun hb_28 => ?_)
      · have z28_ := bI_ne0 hb_28
        refine V.iload_n C 1 rfl rfl dX9_compareBits_34 ?_
        refine V.iload_n C 2 rfl rfl dX9_compareBits_35 ?_
        refine V.cSi C lX9_150 oX9_nodeOf dX9_compareBits_36 (ct_nodeOf G σ v b) rfl rfl (Nat.le_of_ble_eq_true rfl) ⟨Nat.le_of_ble_eq_true rfl, Nat.le_of_ble_eq_true rfl⟩ ⟨Nat.le_of_ble_eq_true rfl, Nat.le_of_ble_eq_true rfl⟩ (fun rr_36 σ36 pp_36 => ?_)
        obtain ⟨ee_36, ff_36⟩ := pp_36
        rw [ee_36, ff_36]
        refine V.istore C dX9_compareBits_39 (by decide) ?_
        refine V.iload_n C 3 rfl rfl dX9_compareBits_41 ?_
        refine V.iload C rfl dX9_compareBits_42 ?_
        refine V.cSi C lX9_150 oX9_nodeOf dX9_compareBits_44 (ct_nodeOf G σ v2 b2) rfl rfl (Nat.le_of_ble_eq_true rfl) ⟨Nat.le_of_ble_eq_true rfl, Nat.le_of_ble_eq_true rfl⟩ ⟨Nat.le_of_ble_eq_true rfl, Nat.le_of_ble_eq_true rfl⟩ (fun rr_44 σ44 pp_44 => ?_)
        obtain ⟨ee_44, ff_44⟩ := pp_44
        rw [ee_44, ff_44]
        refine V.istore C dX9_compareBits_47 (by decide) ?_
        refine V.aload_n C 0 rfl rfl dX9_compareBits_49 ?_
        refine V.getR C fX9_58 dX9_compareBits_50 (by assumption) rfl ?_
        refine V.iload C rfl dX9_compareBits_53 ?_
        refine V.cVi C lX9_153 oX0_rootOf dX9_compareBits_55 (ct_Cl_rootOf G σ 113 (v * 16 + b) _ ClA_113 hC.2.2.2.1 (by omega)) (by assumption) rfl rfl (Nat.le_of_ble_eq_true rfl) ⟨Nat.le_of_ble_eq_true rfl, Nat.le_of_ble_eq_true rfl⟩ ⟨Nat.le_of_ble_eq_true rfl, Nat.le_of_ble_eq_true rfl⟩ (fun rr_55 σ55 pp_55 => ?_)
        obtain ⟨ee_55, u55_, f55_⟩ := pp_55
        rw [ee_55]
        refine V.aload_n C 0 rfl rfl dX9_compareBits_58 ?_
        refine V.getR C fX9_58 dX9_compareBits_59 (by assumption) rfl ?_
        refine V.iload C rfl dX9_compareBits_62 ?_
        refine V.cVi C lX9_153 oX0_rootOf dX9_compareBits_64 (ct_Cl_rootOf G σ55 113 (v2 * 16 + b2) _ ClA_113 u55_ (by omega)) (by assumption) rfl rfl (Nat.le_of_ble_eq_true rfl) ⟨Nat.le_of_ble_eq_true rfl, Nat.le_of_ble_eq_true rfl⟩ ⟨Nat.le_of_ble_eq_true rfl, Nat.le_of_ble_eq_true rfl⟩ (fun rr_64 σ64 pp_64 => ?_)
        obtain ⟨ee_64, u64_, f64_⟩ := pp_64
        rw [ee_64]
        refine V.icmp_ne C 72 dX9_compareBits_67 rfl (fun hb_67 => ?_) (fun hb_67 => ?_)
        · have z67_ : ¬ (ufAll uf0 P.2.1).1 (v * 16 + b) = (ufAll uf0 P.2.1).1 (v2 * 16 + b2) := fun q => hb_67 (by rw [q])
          refine V.aload_n C 0 rfl rfl dX9_compareBits_72 ?_
          refine V.getR C fX9_58 dX9_compareBits_73 (by assumption) rfl ?_
          refine V.iload C rfl dX9_compareBits_76 ?_
          refine V.cVi C lX9_179 oX0_constantOf dX9_compareBits_78 (ct_Cl_constN G σ64 113 (v * 16 + b) _ ClA_113 u64_ (by omega)) (by assumption) rfl rfl (Nat.le_of_ble_eq_true rfl) ⟨Nat.le_of_ble_eq_true rfl, Nat.le_of_ble_eq_true rfl⟩ ⟨Nat.le_of_ble_eq_true rfl, Nat.le_of_ble_eq_true rfl⟩ (fun rr_78 σ78 pp_78 => ?_)
          obtain ⟨ee_78, u78_, f78_⟩ := pp_78
          rw [ee_78]
          refine V.istore C dX9_compareBits_81 (by decide) ?_
          refine V.aload_n C 0 rfl rfl dX9_compareBits_83 ?_
          refine V.getR C fX9_58 dX9_compareBits_84 (by assumption) rfl ?_
          refine V.iload C rfl dX9_compareBits_87 ?_
          refine V.cVi C lX9_179 oX0_constantOf dX9_compareBits_89 (ct_Cl_constN G σ78 113 (v2 * 16 + b2) _ ClA_113 u78_ (by omega)) (by assumption) rfl rfl (Nat.le_of_ble_eq_true rfl) ⟨Nat.le_of_ble_eq_true rfl, Nat.le_of_ble_eq_true rfl⟩ ⟨Nat.le_of_ble_eq_true rfl, Nat.le_of_ble_eq_true rfl⟩ (fun rr_89 σ89 pp_89 => ?_)
          obtain ⟨ee_89, u89_, f89_⟩ := pp_89
          rw [ee_89]
          refine V.istore C dX9_compareBits_92 (by decide) ?_
          refine V.iload C rfl dX9_compareBits_94 ?_
          refine V.iconst C ((-1)) c_m1 dX9_compareBits_96 ?_
          refine V.icmp_eq C 106 dX9_compareBits_97 rfl (fun hb_97 => ?_) (fun hb_97 => ?_)
          · have z97_ := (ov_free g1_).mp hb_97
            refine V.iconst C (nI 2) c_2 dX9_compareBits_106 ?_
            exact V.iretS C R dX9_compareBits_107 ⟨by unfold cbR; rw [if_pos ⟨z_, z2_⟩, if_pos z28_, bx_, bx2_, if_neg z67_]; unfold cmpO; rw [if_pos (Or.inl z97_)]; rfl, hC.cls u89_ ((((f55_.trans f64_).trans f78_).trans f89_).mono (by omega) (by omega)), (((f55_.trans f64_).trans f78_).trans f89_).q (by omega) (by omega) (by omega)⟩
          · have z97_ : ¬ (ufAll uf0 P.2.1).2.1 ((ufAll uf0 P.2.1).1 (v * 16 + b)) = none := fun q => hb_97 ((ov_free g1_).mpr q)
            refine V.iload C rfl dX9_compareBits_100 ?_
            refine V.iconst C ((-1)) c_m1 dX9_compareBits_102 ?_
            refine V.icmp_ne C 108 dX9_compareBits_103 rfl (fun hb_103 => ?_) (fun hb_103 => ?_)
            · have z103_ : ¬ (ufAll uf0 P.2.1).2.1 ((ufAll uf0 P.2.1).1 (v2 * 16 + b2)) = none := fun q => hb_103 ((ov_free g2_).mpr q)
              refine V.iload C rfl dX9_compareBits_108 ?_
              refine V.iload C rfl dX9_compareBits_110 ?_
              refine V.icmp_ne C 119 dX9_compareBits_112 rfl (fun hb_112 => ?_) (fun hb_112 => ?_)
              · have z112_ : ¬ (ufAll uf0 P.2.1).2.1 ((ufAll uf0 P.2.1).1 (v * 16 + b)) = (ufAll uf0 P.2.1).2.1 ((ufAll uf0 P.2.1).1 (v2 * 16 + b2)) := fun q => hb_112 (by rw [q])
                refine V.iconst C (nI 0) c_0 dX9_compareBits_119 ?_
                exact V.iretS C R dX9_compareBits_120 ⟨by unfold cbR; rw [if_pos ⟨z_, z2_⟩, if_pos z28_, bx_, bx2_, if_neg z67_]; unfold cmpO; rw [if_neg (fun q => q.elim z97_ z103_), if_neg z112_]; rfl, hC.cls u89_ ((((f55_.trans f64_).trans f78_).trans f89_).mono (by omega) (by omega)), (((f55_.trans f64_).trans f78_).trans f89_).q (by omega) (by omega) (by omega)⟩
              · have z112_ := ov_inj2 g1_ g2_ z97_ z103_ hb_112
                refine V.iconst C (nI 1) c_1 dX9_compareBits_115 ?_
                refine V.goto C 120 dX9_compareBits_116 rfl ?_
                exact V.iretS C R dX9_compareBits_120 ⟨by unfold cbR; rw [if_pos ⟨z_, z2_⟩, if_pos z28_, bx_, bx2_, if_neg z67_]; unfold cmpO; rw [if_neg (fun q => q.elim z97_ z103_), if_pos z112_]; rfl, hC.cls u89_ ((((f55_.trans f64_).trans f78_).trans f89_).mono (by omega) (by omega)), (((f55_.trans f64_).trans f78_).trans f89_).q (by omega) (by omega) (by omega)⟩
            · have z103_ := (ov_free g2_).mp hb_103
              refine V.iconst C (nI 2) c_2 dX9_compareBits_106 ?_
              exact V.iretS C R dX9_compareBits_107 ⟨by unfold cbR; rw [if_pos ⟨z_, z2_⟩, if_pos z28_, bx_, bx2_, if_neg z67_]; unfold cmpO; rw [if_pos (Or.inr z103_)]; rfl, hC.cls u89_ ((((f55_.trans f64_).trans f78_).trans f89_).mono (by omega) (by omega)), (((f55_.trans f64_).trans f78_).trans f89_).q (by omega) (by omega) (by omega)⟩
        · have z67_ : (ufAll uf0 P.2.1).1 (v * 16 + b) = (ufAll uf0 P.2.1).1 (v2 * 16 + b2) := nI_pe (by omega) (by omega) hb_67
          refine V.iconst C (nI 1) c_1 dX9_compareBits_70 ?_
          exact V.iretS C R dX9_compareBits_71 ⟨by unfold cbR; rw [if_pos ⟨z_, z2_⟩, if_pos z28_, bx_, bx2_, if_pos z67_]; rfl, hC.cls u64_ ((f55_.trans f64_).mono (by omega) (by omega)), (f55_.trans f64_).q (by omega) (by omega) (by omega)⟩
      · have z28_ := bI_eq0 hb_28
        refine V.bipush C ((-2)) b_m2 dX9_compareBits_31 ?_
        exact V.iretS C R dX9_compareBits_33 ⟨by unfold cbR; rw [if_pos ⟨z_, z2_⟩, if_neg (by rw [z28_]; decide)], hC, FQ.refl _ _⟩
    · have z2_ := bI_eq0 hb_16
      have no_ : ¬ (isB P x y = true ∧ isB P x2 y2 = true) := fun q => absurd (z2_.symm.trans q.2) (by decide)
      refine V.iconst C ((-1)) c_m1 dX9_compareBits_19 ?_
      exact V.iretS C R dX9_compareBits_20 ⟨by unfold cbR; rw [if_neg no_], hC, FQ.refl _ _⟩
set_option maxRecDepth 100000 in
set_option maxHeartbeats 4000000 in
theorem ct_S_freeBits (G : Gl) (σ : SS) (P : Prob) (hC : CInv σ P) : CI G mX9_freeBits [Rf G 0] σ (fun r σ1 => r = fbC P ∧ CInv σ1 P ∧ FQ 113 σ σ1) := by
  refine Ctr.of oX9_freeBits (Nat.le_of_ble_eq_true rfl) ?_
  intro X C R hnm hz0
  have C : Cx G X cX9_freeBits 4 RX9 2 44 0 0 := C
  have R : Cr G X (some .int) 0 0 _ := R
  show V G X 4 0 0 0 [(0, Rf G 0)] [] (wld G σ)
  have kk_0 := sk_0
  have kk_1 := sk_1
  have kk_9 := sk_9
  have kk_11 := sk_11
  have kk_15 := sk_15
  have kk_19 := sk_19
  have kk_29 := sk_29
  have kk_91 := sk_91
  have kk_101 := sk_101
  have kk_111 := sk_111
  have kk_113 := sk_113
  have kk_116 := sk_116
  have kk_119 := sk_119
  have hW := hC.2.1
  have loop : (ufAll uf0 P.2.1).2.2 = true → ∀ (m n k : Nat) (σ1 : SS), 128 < k + m → k ≤ 128 → n = cntN (freeW P (ufAll uf0 P.2.1)) k → CInv σ1 P → Fr 113 116 σ σ1 → V G X 4 0 0 17 [(0, Rf G 0), (1, .int (nI n)), (2, .int (nI k))] [] (wld G σ1) := by
    intro hz m
    induction m with
    | zero =>
      intro n k σ1 hm hk hn hC1 hF1
      exact absurd hm (by omega)
    | succ m ih =>
      intro n k σ1 hm hk hn hC1 hF1
      refine V.iload_n C 2 rfl rfl dX9_freeBits_17 ?_
      refine V.sipush C (nI 128) s_128 dX9_freeBits_18 ?_
      refine V.icmp_ge C 85 dX9_freeBits_21 rfl (fun hb_21 => ?_) (fun hb_21 => ?_)
      · have zk_ : k = 128 := by have := (nI_leI (by decide) (by omega)).mp hb_21; omega
        refine V.iload_n C 1 rfl rfl dX9_freeBits_85 ?_
        exact V.iretS C R dX9_freeBits_86 ⟨by unfold fbC; rw [if_pos hz, hn, zk_], hC1, hF1.q (by omega) (by omega) (by omega)⟩
      · have zk_ : k < 128 := Nat.lt_of_not_le (fun q => hb_21 (nI_le q (by omega)))
        have w16_ := hW.1 (k / 16) (by omega)
        have rb_ := (hC1.2.2.2.1.bits zk_).1
        refine V.iload_n C 2 rfl rfl dX9_freeBits_24 ?_
        refine V.cSi C lX9_159 oX9_bitOf dX9_freeBits_25 (ct_bitOf G σ1 k (by omega)) rfl rfl (Nat.le_of_ble_eq_true rfl) ⟨Nat.le_of_ble_eq_true rfl, Nat.le_of_ble_eq_true rfl⟩ ⟨Nat.le_of_ble_eq_true rfl, Nat.le_of_ble_eq_true rfl⟩ (fun rr_25 σ25 pp_25 => ?_)
        obtain ⟨ee_25, ff_25⟩ := pp_25
        rw [ee_25, ff_25]
        refine V.aload_n C 0 rfl rfl dX9_freeBits_28 ?_
        refine V.getR C fX9_28 dX9_freeBits_29 (by assumption) rfl ?_
        refine V.iload_n C 2 rfl rfl dX9_freeBits_32 ?_
        refine V.cSi C lX9_156 oX9_variableOf dX9_freeBits_33 (ct_variableOf G σ1 k (by omega)) rfl rfl (Nat.le_of_ble_eq_true rfl) ⟨Nat.le_of_ble_eq_true rfl, Nat.le_of_ble_eq_true rfl⟩ ⟨Nat.le_of_ble_eq_true rfl, Nat.le_of_ble_eq_true rfl⟩ (fun rr_33 σ33 pp_33 => ?_)
        obtain ⟨ee_33, ff_33⟩ := pp_33
        rw [ee_33, ff_33]
        refine V.cVi C lX9_135 oX4_widthOf dX9_freeBits_36 (ct_Pb_widthOf G σ1 9 (k / 16) P (PbA_of (by decide)) hC1.1 (by omega)) (by assumption) rfl rfl (Nat.le_of_ble_eq_true rfl) ⟨Nat.le_of_ble_eq_true rfl, Nat.le_of_ble_eq_true rfl⟩ ⟨Nat.le_of_ble_eq_true rfl, Nat.le_of_ble_eq_true rfl⟩ (fun rr_36 σ36 pp_36 => ?_)
        obtain ⟨ee_36, ff_36⟩ := pp_36
        rw [ee_36, ff_36]
        refine V.icmp_ge C 46 dX9_freeBits_39 rfl (fun hb_39 => ?_) (fun hb_39 => ?_)
        · have z_ : ¬ k % 16 < P.1 (k / 16) := fun q => absurd ((nI_leI (by omega) (by omega)).mp hb_39) (by omega)
          have fw_ : freeW P (ufAll uf0 P.2.1) k = false := by unfold freeW; rw [decide_eq_false z_]; rfl
          refine V.iconst C (nI 0) c_0 dX9_freeBits_46 ?_
          refine V.istore_n C 3 dX9_freeBits_47 rfl (by decide) ?_
          refine V.iload_n C 3 rfl rfl dX9_freeBits_48 ?_
          refine V.if_eq C 79 dX9_freeBits_49 rfl (fun hb_49 => ?_) (fun hb_49 => ?_)
          · refine V.iinc C (nI (k + 1)) dX9_freeBits_79 rfl (nI_1 k) (by decide) ?_
            refine V.goto C 17 dX9_freeBits_82 rfl ?_
            refine V.lvs (lv' := [(0, Rf G 0), (1, .int (nI n)), (2, .int (nI (k + 1)))]) rfl ?_
            exact ih n (k + 1) σ1 (by omega) (by omega) (by rw [cntN_s, fw_, hn]; rfl) hC1 hF1
          · exact absurd rfl hb_49
        · have z_ : k % 16 < P.1 (k / 16) := Nat.lt_of_not_le (fun q => hb_39 (nI_le q (by omega)))
          refine V.iconst C (nI 1) c_1 dX9_freeBits_42 ?_
          refine V.goto C 47 dX9_freeBits_43 rfl ?_
          refine V.istore_n C 3 dX9_freeBits_47 rfl (by decide) ?_
          refine V.iload_n C 3 rfl rfl dX9_freeBits_48 ?_
          refine V.if_eq C 79 dX9_freeBits_49 rfl (fun hb_49 => ?_) (fun hb_49 => ?_)
          · exact absurd hb_49 (by decide)
          · refine V.aload_n C 0 rfl rfl dX9_freeBits_52 ?_
            refine V.getR C fX9_58 dX9_freeBits_53 (by assumption) rfl ?_
            refine V.iload_n C 2 rfl rfl dX9_freeBits_56 ?_
            refine V.cVi C lX9_153 oX0_rootOf dX9_freeBits_57 (ct_Cl_rootOf G σ1 113 k _ ClA_113 hC1.2.2.2.1 zk_) (by assumption) rfl rfl (Nat.le_of_ble_eq_true rfl) ⟨Nat.le_of_ble_eq_true rfl, Nat.le_of_ble_eq_true rfl⟩ ⟨Nat.le_of_ble_eq_true rfl, Nat.le_of_ble_eq_true rfl⟩ (fun rr_57 σ57 pp_57 => ?_)
            obtain ⟨ee_57, u57_, f57_⟩ := pp_57
            rw [ee_57]
            have C57_ := hC1.cls u57_ (f57_.mono (by omega) (by omega))
            refine V.iload_n C 2 rfl rfl dX9_freeBits_60 ?_
            refine V.icmp_ne C 79 dX9_freeBits_61 rfl (fun hb_61 => ?_) (fun hb_61 => ?_)
            · have z2_ : ¬ (ufAll uf0 P.2.1).1 k = k := fun q => hb_61 (by rw [q])
              have fw_ : freeW P (ufAll uf0 P.2.1) k = false := by unfold freeW; rw [decide_eq_false z2_, Bool.and_false]; rfl
              refine V.iinc C (nI (k + 1)) dX9_freeBits_79 rfl (nI_1 k) (by decide) ?_
              refine V.goto C 17 dX9_freeBits_82 rfl ?_
              refine V.lvs (lv' := [(0, Rf G 0), (1, .int (nI n)), (2, .int (nI (k + 1)))]) rfl ?_
              exact ih n (k + 1) σ57 (by omega) (by omega) (by rw [cntN_s, fw_, hn]; rfl) C57_ (hF1.trans f57_)
            · have z2_ : (ufAll uf0 P.2.1).1 k = k := nI_pe (by omega) (by omega) hb_61
              have g2_ := hC1.2.2.2.1.2.2.2 k
              refine V.aload_n C 0 rfl rfl dX9_freeBits_64 ?_
              refine V.getR C fX9_58 dX9_freeBits_65 (by assumption) rfl ?_
              refine V.iload_n C 2 rfl rfl dX9_freeBits_68 ?_
              refine V.cVi C lX9_179 oX0_constantOf dX9_freeBits_69 (ct_Cl_constN G σ57 113 k _ ClA_113 u57_ zk_) (by assumption) rfl rfl (Nat.le_of_ble_eq_true rfl) ⟨Nat.le_of_ble_eq_true rfl, Nat.le_of_ble_eq_true rfl⟩ ⟨Nat.le_of_ble_eq_true rfl, Nat.le_of_ble_eq_true rfl⟩ (fun rr_69 σ69 pp_69 => ?_)
              obtain ⟨ee_69, u69_, f69_⟩ := pp_69
              rw [ee_69]
              have C69_ := C57_.cls u69_ (f69_.mono (by omega) (by omega))
              refine V.iconst C ((-1)) c_m1 dX9_freeBits_72 ?_
              refine V.icmp_ne C 79 dX9_freeBits_73 rfl (fun hb_73 => ?_) (fun hb_73 => ?_)
              · have fw_ : freeW P (ufAll uf0 P.2.1) k = false := by
                  have z3_ : ¬ (ufAll uf0 P.2.1).2.1 k = none := fun q => hb_73 (by rw [z2_, q]; rfl)
                  unfold freeW; rw [decide_eq_false z3_, Bool.and_false]
                refine V.iinc C (nI (k + 1)) dX9_freeBits_79 rfl (nI_1 k) (by decide) ?_
                refine V.goto C 17 dX9_freeBits_82 rfl ?_
                refine V.lvs (lv' := [(0, Rf G 0), (1, .int (nI n)), (2, .int (nI (k + 1)))]) rfl ?_
                exact ih n (k + 1) σ69 (by omega) (by omega) (by rw [cntN_s, fw_, hn]; rfl) C69_ ((hF1.trans f57_).trans f69_)
              · have fw_ : freeW P (ufAll uf0 P.2.1) k = true := by
                  rw [z2_] at hb_73
                  unfold freeW; rw [decide_eq_true z_, decide_eq_true z2_, decide_eq_true ((ov_free g2_).mp hb_73)]; rfl
                refine V.iinc C (nI (n + 1)) dX9_freeBits_76 rfl (nI_1 n) (by decide) ?_
                refine V.iinc C (nI (k + 1)) dX9_freeBits_79 rfl (nI_1 k) (by decide) ?_
                refine V.goto C 17 dX9_freeBits_82 rfl ?_
                refine V.lvs (lv' := [(0, Rf G 0), (1, .int (nI (n + 1))), (2, .int (nI (k + 1)))]) rfl ?_
                exact ih (n + 1) (k + 1) σ69 (by omega) (by omega) (by rw [cntN_s, fw_, hn]; rfl) C69_ ((hF1.trans f57_).trans f69_)
  refine V.aload_n C 0 rfl rfl dX9_freeBits_0 ?_
  refine V.getR C fX9_58 dX9_freeBits_1 (by assumption) rfl ?_
  refine V.cVi C lX9_165 oX0_agree dX9_freeBits_4 (ct_Cl_agree G σ 113 _ ClA_113 hC.2.2.2.1) (by assumption) rfl rfl (Nat.le_of_ble_eq_true rfl) ⟨Nat.le_of_ble_eq_true rfl, Nat.le_of_ble_eq_true rfl⟩ ⟨Nat.le_of_ble_eq_true rfl, Nat.le_of_ble_eq_true rfl⟩ (fun rr_4 σ4 pp_4 => ?_)
  obtain ⟨ee_4, ff_4⟩ := pp_4
  rw [ee_4, ff_4]
  refine V.if_ne C 13 dX9_freeBits_7 rfl (fun hb_7 => ?_) (fun hb_7 => ?_)
  · have z_ := bI_ne0 hb_7
    refine V.iconst C (nI 0) c_0 dX9_freeBits_13 ?_
    refine V.istore_n C 1 dX9_freeBits_14 rfl (by decide) ?_
    refine V.iconst C (nI 0) c_0 dX9_freeBits_15 ?_
    refine V.istore_n C 2 dX9_freeBits_16 rfl (by decide) ?_
    refine V.lvs (lv' := [(0, Rf G 0), (1, .int (nI 0)), (2, .int (nI 0))]) rfl ?_
    exact loop z_ 129 0 0 σ (by omega) (by omega) rfl hC (Fr.refl _ _ _)
  · have z_ := bI_eq0 hb_7
    refine V.bipush C ((-2)) b_m2 dX9_freeBits_10 ?_
    exact V.iretS C R dX9_freeBits_12 ⟨by unfold fbC; rw [if_neg (by rw [z_]; decide)], hC, FQ.refl _ _⟩
set_option maxRecDepth 100000 in
set_option maxHeartbeats 4000000 in
theorem ct_S_isSat (G : Gl) (σ : SS) (P : Prob) (hC : CInv σ P) : CI G mX9_isSatisfiable [Rf G 0] σ (fun r σ1 => r = saR P ∧ CInv σ1 P ∧ FQ 113 σ σ1) := by
  refine Ctr.of oX9_isSatisfiable (Nat.le_of_ble_eq_true rfl) ?_
  intro X C R hnm hz0
  have C : Cx G X cX9_isSatisfiable 1 RX9 6 141 0 0 := C
  have R : Cr G X (some .int) 0 0 _ := R
  show V G X 1 0 0 0 [(0, Rf G 0)] [] (wld G σ)
  have kk_0 := sk_0
  have kk_1 := sk_1
  have kk_9 := sk_9
  have kk_11 := sk_11
  have kk_15 := sk_15
  have kk_19 := sk_19
  have kk_29 := sk_29
  have kk_91 := sk_91
  have kk_101 := sk_101
  have kk_111 := sk_111
  have kk_113 := sk_113
  have kk_116 := sk_116
  have kk_119 := sk_119
  refine V.aload_n C 0 rfl rfl dX9_isSatisfiable_0 ?_
  refine V.cVr C lX9_182 oX9_chosenModel dX9_isSatisfiable_1 (ct_S_chosen G σ P hC) (by assumption) rfl rfl (Nat.le_of_ble_eq_true rfl) ⟨Nat.le_of_ble_eq_true rfl, Nat.le_of_ble_eq_true rfl⟩ ⟨Nat.le_of_ble_eq_true rfl, Nat.le_of_ble_eq_true rfl⟩ (fun rr_1 σ1 pp_1 => ?_)
  obtain ⟨ee_1, cc_, mm_, ff_, qq_⟩ := pp_1
  rw [ee_1]
  refine V.cVi C lX9_186 oX3_oneCount dX9_isSatisfiable_4 (ct_Mo_oneCount G σ1) (by assumption) rfl rfl (Nat.le_of_ble_eq_true rfl) ⟨Nat.le_of_ble_eq_true rfl, Nat.le_of_ble_eq_true rfl⟩ ⟨Nat.le_of_ble_eq_true rfl, Nat.le_of_ble_eq_true rfl⟩ (fun rr_4 σ4 pp_4 => ?_)
  obtain ⟨ee_4, ff_4⟩ := pp_4
  rw [ee_4, ff_4]
  refine V.bipush C ((-9)) b_m9 dX9_isSatisfiable_7 ?_
  refine V.icmp_ne C 16 dX9_isSatisfiable_9 rfl (fun hb_9 => ?_) (fun hb_9 => ?_)
  · obtain ⟨os, hos_⟩ : ∃ os, chW P = some os := by
      cases h : chW P with
      | none => rw [h] at mm_; exact absurd mm_ hb_9
      | some os => exact ⟨os, rfl⟩
    refine V.iconst C (nI 1) c_1 dX9_isSatisfiable_16 ?_
    exact V.iretS C R dX9_isSatisfiable_17 ⟨by unfold saR; rw [hos_]; rfl, cc_, qq_⟩
  · have hno_ : chW P = none := by
      cases h : chW P with
      | none => rfl
      | some os => rw [h] at mm_; exact absurd (mm_.1.symm.trans hb_9) (nI_ne_m9 (by have := mm_.2.1; omega))
    refine V.iconst C (nI 0) c_0 dX9_isSatisfiable_12 ?_
    refine V.goto C 17 dX9_isSatisfiable_13 rfl ?_
    exact V.iretS C R dX9_isSatisfiable_17 ⟨by unfold saR; rw [hno_]; rfl, cc_, qq_⟩
set_option maxRecDepth 100000 in
set_option maxHeartbeats 4000000 in
theorem ct_S_oneBits (G : Gl) (σ : SS) (P : Prob) (hC : CInv σ P) : CI G mX9_oneBits [Rf G 0] σ (fun r σ1 => r = obR P ∧ CInv σ1 P ∧ FQ 113 σ σ1) := by
  refine Ctr.of oX9_oneBits (Nat.le_of_ble_eq_true rfl) ?_
  intro X C R hnm hz0
  have C : Cx G X cX9_oneBits 1 RX9 6 141 0 0 := C
  have R : Cr G X (some .int) 0 0 _ := R
  show V G X 1 0 0 0 [(0, Rf G 0)] [] (wld G σ)
  have kk_0 := sk_0
  have kk_1 := sk_1
  have kk_9 := sk_9
  have kk_11 := sk_11
  have kk_15 := sk_15
  have kk_19 := sk_19
  have kk_29 := sk_29
  have kk_91 := sk_91
  have kk_101 := sk_101
  have kk_111 := sk_111
  have kk_113 := sk_113
  have kk_116 := sk_116
  have kk_119 := sk_119
  refine V.aload_n C 0 rfl rfl dX9_oneBits_0 ?_
  refine V.cVr C lX9_182 oX9_chosenModel dX9_oneBits_1 (ct_S_chosen G σ P hC) (by assumption) rfl rfl (Nat.le_of_ble_eq_true rfl) ⟨Nat.le_of_ble_eq_true rfl, Nat.le_of_ble_eq_true rfl⟩ ⟨Nat.le_of_ble_eq_true rfl, Nat.le_of_ble_eq_true rfl⟩ (fun rr_1 σ1 pp_1 => ?_)
  obtain ⟨ee_1, cc_, mm_, ff_, qq_⟩ := pp_1
  rw [ee_1]
  refine V.cVi C lX9_186 oX3_oneCount dX9_oneBits_4 (ct_Mo_oneCount G σ1) (by assumption) rfl rfl (Nat.le_of_ble_eq_true rfl) ⟨Nat.le_of_ble_eq_true rfl, Nat.le_of_ble_eq_true rfl⟩ ⟨Nat.le_of_ble_eq_true rfl, Nat.le_of_ble_eq_true rfl⟩ (fun rr_4 σ4 pp_4 => ?_)
  obtain ⟨ee_4, ff_4⟩ := pp_4
  rw [ee_4, ff_4]
  exact V.iretS C R dX9_oneBits_7 ⟨by
    unfold obR
    cases h : chW P with
    | none => rw [h] at mm_; exact mm_
    | some os => rw [h] at mm_; exact mm_.1, cc_, qq_⟩
set_option maxRecDepth 100000 in
set_option maxHeartbeats 4000000 in
theorem ct_S_value (G : Gl) (σ : SS) (P : Prob) (x : Int32) (hC : CInv σ P) : CI G mX9_value [Rf G 0, .int x] σ (fun r σ1 => r = vlR P x ∧ CInv σ1 P ∧ FQ 113 σ σ1) := by
  refine Ctr.of oX9_value (Nat.le_of_ble_eq_true rfl) ?_
  intro X C R hnm hz0
  have C : Cx G X cX9_value 7 RX9 6 141 0 0 := C
  have R : Cr G X (some .int) 0 0 _ := R
  show V G X 7 0 0 0 [(0, Rf G 0), (1, .int x)] [] (wld G σ)
  have kk_0 := sk_0
  have kk_1 := sk_1
  have kk_9 := sk_9
  have kk_11 := sk_11
  have kk_15 := sk_15
  have kk_19 := sk_19
  have kk_29 := sk_29
  have kk_91 := sk_91
  have kk_101 := sk_101
  have kk_111 := sk_111
  have kk_113 := sk_113
  have kk_116 := sk_116
  have kk_119 := sk_119
  have hW := hC.2.1
  have loop : ∀ (v : Nat) (os : List Nat), x = nI v → v < 8 → vlR P x = vlF (ufAll uf0 P.2.1) os v (P.1 v) → (∀ r, r ∈ os → (ufAll uf0 P.2.1).2.1 r = none) → ∀ (m b : Nat) (n : Int32) (σ1 : SS), P.1 v < b + m → b ≤ P.1 v → n = vlF (ufAll uf0 P.2.1) os v b → CInv σ1 P → RMo σ1 (some os) → FQ 113 σ σ1 → V G X 7 0 0 28 [(0, Rf G 0), (1, .int (nI v)), (2, .int n), (3, .int (nI b))] [] (wld G σ1) := by
    intro v os xv_ hv he hfr
    have w16_ := hW.1 v hv
    intro m
    induction m with
    | zero =>
      intro b n σ1 hm hb hn hC1 hM1 hF1
      exact absurd hm (by omega)
    | succ m ih =>
      intro b n σ1 hm hb hn hC1 hM1 hF1
      refine V.iload_n C 3 rfl rfl dX9_value_28 ?_
      refine V.aload_n C 0 rfl rfl dX9_value_29 ?_
      refine V.getR C fX9_28 dX9_value_30 (by assumption) rfl ?_
      refine V.iload_n C 1 rfl rfl dX9_value_33 ?_
      refine V.cVi C lX9_135 oX4_widthOf dX9_value_34 (ct_Pb_widthOf G σ1 9 v P (PbA_of (by decide)) hC1.1 hv) (by assumption) rfl rfl (Nat.le_of_ble_eq_true rfl) ⟨Nat.le_of_ble_eq_true rfl, Nat.le_of_ble_eq_true rfl⟩ ⟨Nat.le_of_ble_eq_true rfl, Nat.le_of_ble_eq_true rfl⟩ (fun rr_34 σ34 pp_34 => ?_)
      obtain ⟨ee_34, ff_34⟩ := pp_34
      rw [ee_34, ff_34]
      refine V.icmp_ge C 113 dX9_value_37 rfl (fun hb_37 => ?_) (fun hb_37 => ?_)
      · have zb_ : b = P.1 v := by have := (nI_leI (by omega) (by omega)).mp hb_37; omega
        refine V.iload_n C 2 rfl rfl dX9_value_113 ?_
        exact V.iretS C R dX9_value_114 ⟨by rw [he, hn, zb_], hC1, hF1⟩
      · have zb_ : b < P.1 v := Nat.lt_of_not_le (fun q => hb_37 (nI_le q (by omega)))
        have rb_ := (hC1.2.2.2.1.bits (x := (v * 16 + b)) (by omega)).1
        have g_ := hC1.2.2.2.1.2.2.2 ((ufAll uf0 P.2.1).1 (v * 16 + b))
        have vx_ := vW_var (u := (ufAll uf0 P.2.1)) (os := os) (x := (v * 16 + b)) (by omega)
        refine V.iload_n C 1 rfl rfl dX9_value_40 ?_
        refine V.iload_n C 3 rfl rfl dX9_value_41 ?_
        refine V.cSi C lX9_150 oX9_nodeOf dX9_value_42 (ct_nodeOf G σ1 v b) rfl rfl (Nat.le_of_ble_eq_true rfl) ⟨Nat.le_of_ble_eq_true rfl, Nat.le_of_ble_eq_true rfl⟩ ⟨Nat.le_of_ble_eq_true rfl, Nat.le_of_ble_eq_true rfl⟩ (fun rr_42 σ42 pp_42 => ?_)
        obtain ⟨ee_42, ff_42⟩ := pp_42
        rw [ee_42, ff_42]
        refine V.istore C dX9_value_45 (by decide) ?_
        refine V.aload_n C 0 rfl rfl dX9_value_47 ?_
        refine V.getR C fX9_58 dX9_value_48 (by assumption) rfl ?_
        refine V.iload C rfl dX9_value_51 ?_
        refine V.cVi C lX9_179 oX0_constantOf dX9_value_53 (ct_Cl_constN G σ1 113 (v * 16 + b) _ ClA_113 hC1.2.2.2.1 (by omega)) (by assumption) rfl rfl (Nat.le_of_ble_eq_true rfl) ⟨Nat.le_of_ble_eq_true rfl, Nat.le_of_ble_eq_true rfl⟩ ⟨Nat.le_of_ble_eq_true rfl, Nat.le_of_ble_eq_true rfl⟩ (fun rr_53 σ53 pp_53 => ?_)
        obtain ⟨ee_53, u53_, f53_⟩ := pp_53
        rw [ee_53]
        have C53_ := hC1.cls u53_ (f53_.mono (by omega) (by omega))
        have M53_ : RMo σ53 (some os) := hM1.same (f53_.F (by omega)) (f53_.A (by omega))
        have F53_ : FQ 113 σ σ53 := hF1.trans (f53_.q (by omega) (by omega) (by omega))
        refine V.istore C dX9_value_56 (by decide) ?_
        refine V.iload C rfl dX9_value_58 ?_
        refine V.iconst C ((-1)) c_m1 dX9_value_60 ?_
        refine V.icmp_ne C 83 dX9_value_61 rfl (fun hb_61 => ?_) (fun hb_61 => ?_)
        · have nf_ : ¬ (ufAll uf0 P.2.1).2.1 ((ufAll uf0 P.2.1).1 (v * 16 + b)) = none := fun q => hb_61 ((ov_free g_).mpr q)
          obtain ⟨w_, hw_⟩ := Option.ne_none_iff_exists'.mp nf_
          have w2_ := g_ w_ hw_
          rw [if_neg (fun q => nf_ (hfr _ q)), hw_] at vx_
          have vx_ : vW (ufAll uf0 P.2.1) os (16 + (v * 16 + b)) = w_ := vx_
          refine V.iload C rfl dX9_value_83 ?_
          refine V.iconst C (nI 1) c_1 dX9_value_85 ?_
          refine V.icmp_ne C 93 dX9_value_86 rfl (fun hb_86 => ?_) (fun hb_86 => ?_)
          · have wv_ : vW (ufAll uf0 P.2.1) os (16 + (v * 16 + b)) = 0 := by
              rw [hw_] at hb_86
              have : ¬ w_ = 1 := fun q => hb_86 (by rw [q]; rfl)
              omega
            refine V.iconst C (nI 0) c_0 dX9_value_93 ?_
            refine V.istore C dX9_value_94 (by decide) ?_
            refine V.iload C rfl dX9_value_96 ?_
            refine V.if_eq C 107 dX9_value_98 rfl (fun hb_98 => ?_) (fun hb_98 => ?_)
            · refine V.iinc C (nI (b + 1)) dX9_value_107 rfl (nI_1 b) (by decide) ?_
              refine V.goto C 28 dX9_value_110 rfl ?_
              refine V.lvs (lv' := [(0, Rf G 0), (1, .int (nI v)), (2, .int n), (3, .int (nI (b + 1)))]) rfl ?_
              exact ih (b + 1) _ σ53 (by omega) (by omega) (by rw [hn]; show _ = vlF (ufAll uf0 P.2.1) os v b ||| shl32 (nI (vW (ufAll uf0 P.2.1) os (16 + 16 * v + b))) (nI b); rw [show 16 + 16 * v + b = 16 + (v * 16 + b) by omega, wv_, shl_00 b (by omega), or_0]) C53_ M53_ F53_
            · exact absurd rfl hb_98
          · have wv_ : vW (ufAll uf0 P.2.1) os (16 + (v * 16 + b)) = 1 := by
              rw [hw_] at hb_86
              rw [vx_]; exact nI_pe (by omega) (by omega) hb_86
            refine V.iconst C (nI 1) c_1 dX9_value_89 ?_
            refine V.goto C 94 dX9_value_90 rfl ?_
            refine V.istore C dX9_value_94 (by decide) ?_
            refine V.iload C rfl dX9_value_96 ?_
            refine V.if_eq C 107 dX9_value_98 rfl (fun hb_98 => ?_) (fun hb_98 => ?_)
            · exact absurd hb_98 (by decide)
            · refine V.iload_n C 2 rfl rfl dX9_value_101 ?_
              refine V.iconst C (nI 1) c_1 dX9_value_102 ?_
              refine V.iload_n C 3 rfl rfl dX9_value_103 ?_
              refine V.ishl C dX9_value_104 ?_
              refine V.ior C dX9_value_105 ?_
              refine V.istore_n C 2 dX9_value_106 rfl (by decide) ?_
              refine V.iinc C (nI (b + 1)) dX9_value_107 rfl (nI_1 b) (by decide) ?_
              refine V.goto C 28 dX9_value_110 rfl ?_
              refine V.lvs (lv' := [(0, Rf G 0), (1, .int (nI v)), (2, .int (n ||| shl32 (nI 1) (nI b))), (3, .int (nI (b + 1)))]) rfl ?_
              exact ih (b + 1) _ σ53 (by omega) (by omega) (by rw [hn]; show _ = vlF (ufAll uf0 P.2.1) os v b ||| shl32 (nI (vW (ufAll uf0 P.2.1) os (16 + 16 * v + b))) (nI b); rw [show 16 + 16 * v + b = 16 + (v * 16 + b) by omega, wv_]) C53_ M53_ F53_
        · have nf_ := (ov_free g_).mp hb_61
          rw [nf_] at vx_
          refine V.aload_n C 0 rfl rfl dX9_value_64 ?_
          refine V.getR C fX9_68 dX9_value_65 (by assumption) rfl ?_
          refine V.aload_n C 0 rfl rfl dX9_value_68 ?_
          refine V.getR C fX9_58 dX9_value_69 (by assumption) rfl ?_
          refine V.iload C rfl dX9_value_72 ?_
          refine V.cVi C lX9_153 oX0_rootOf dX9_value_74 (ct_Cl_rootOf G σ53 113 (v * 16 + b) _ ClA_113 u53_ (by omega)) (by assumption) rfl rfl (Nat.le_of_ble_eq_true rfl) ⟨Nat.le_of_ble_eq_true rfl, Nat.le_of_ble_eq_true rfl⟩ ⟨Nat.le_of_ble_eq_true rfl, Nat.le_of_ble_eq_true rfl⟩ (fun rr_74 σ74 pp_74 => ?_)
          obtain ⟨ee_74, u74_, f74_⟩ := pp_74
          rw [ee_74]
          have C74_ := C53_.cls u74_ (f74_.mono (by omega) (by omega))
          have M74_ : RMo σ74 (some os) := M53_.same (f74_.F (by omega)) (f74_.A (by omega))
          have F74_ : FQ 113 σ σ74 := F53_.trans (f74_.q (by omega) (by omega) (by omega))
          refine V.cVi C lX9_189 oX3_hasOne dX9_value_77 (ct_Mo_hasOne G σ74 ((ufAll uf0 P.2.1).1 (v * 16 + b)) os M74_.1 M74_.2.1 M74_.2.2 rb_) (by assumption) rfl rfl (Nat.le_of_ble_eq_true rfl) ⟨Nat.le_of_ble_eq_true rfl, Nat.le_of_ble_eq_true rfl⟩ ⟨Nat.le_of_ble_eq_true rfl, Nat.le_of_ble_eq_true rfl⟩ (fun rr_77 σ77 pp_77 => ?_)
          obtain ⟨ee_77, ff_77⟩ := pp_77
          rw [ee_77, ff_77]
          refine V.goto C 94 dX9_value_80 rfl ?_
          refine V.istore C dX9_value_94 (by decide) ?_
          refine V.iload C rfl dX9_value_96 ?_
          refine V.if_eq C 107 dX9_value_98 rfl (fun hb_98 => ?_) (fun hb_98 => ?_)
          · refine V.iinc C (nI (b + 1)) dX9_value_107 rfl (nI_1 b) (by decide) ?_
            refine V.goto C 28 dX9_value_110 rfl ?_
            have wv_ : vW (ufAll uf0 P.2.1) os (16 + (v * 16 + b)) = 0 := by rw [vx_, if_neg (of_decide_eq_false (bI_eq0 hb_98))]; rfl
            refine V.lvs (lv' := [(0, Rf G 0), (1, .int (nI v)), (2, .int n), (3, .int (nI (b + 1)))]) rfl ?_
            exact ih (b + 1) _ σ74 (by omega) (by omega) (by rw [hn]; show _ = vlF (ufAll uf0 P.2.1) os v b ||| shl32 (nI (vW (ufAll uf0 P.2.1) os (16 + 16 * v + b))) (nI b); rw [show 16 + 16 * v + b = 16 + (v * 16 + b) by omega, wv_, shl_00 b (by omega), or_0]) C74_ M74_ F74_
          · refine V.iload_n C 2 rfl rfl dX9_value_101 ?_
            refine V.iconst C (nI 1) c_1 dX9_value_102 ?_
            refine V.iload_n C 3 rfl rfl dX9_value_103 ?_
            refine V.ishl C dX9_value_104 ?_
            refine V.ior C dX9_value_105 ?_
            refine V.istore_n C 2 dX9_value_106 rfl (by decide) ?_
            refine V.iinc C (nI (b + 1)) dX9_value_107 rfl (nI_1 b) (by decide) ?_
            refine V.goto C 28 dX9_value_110 rfl ?_
            have wv_ : vW (ufAll uf0 P.2.1) os (16 + (v * 16 + b)) = 1 := by rw [vx_, if_pos (of_decide_eq_true (bI_ne0 hb_98))]
            refine V.lvs (lv' := [(0, Rf G 0), (1, .int (nI v)), (2, .int (n ||| shl32 (nI 1) (nI b))), (3, .int (nI (b + 1)))]) rfl ?_
            exact ih (b + 1) _ σ74 (by omega) (by omega) (by rw [hn]; show _ = vlF (ufAll uf0 P.2.1) os v b ||| shl32 (nI (vW (ufAll uf0 P.2.1) os (16 + 16 * v + b))) (nI b); rw [show 16 + 16 * v + b = 16 + (v * 16 + b) by omega, wv_]) C74_ M74_ F74_
  refine V.iload_n C 1 rfl rfl dX9_value_0 ?_
  refine V.cSi C lX9_132 oX9_isVariable dX9_value_1 (ct_isVariable G σ x) rfl rfl (Nat.le_of_ble_eq_true rfl) ⟨Nat.le_of_ble_eq_true rfl, Nat.le_of_ble_eq_true rfl⟩ ⟨Nat.le_of_ble_eq_true rfl, Nat.le_of_ble_eq_true rfl⟩ (fun rr_1 σ1 pp_1 => ?_)
  obtain ⟨ee_1, ff_1⟩ := pp_1
  rw [ee_1, ff_1]
  refine V.if_ne C 9 dX9_value_4 rfl (fun hb_4 => ?_) (fun hb_4 => ?_)
  · have z_ := bI_ne0 hb_4
    obtain ⟨v, hv, xv_⟩ := inB_of (by decide) z_
    refine V.aload_n C 0 rfl rfl dX9_value_9 ?_
    refine V.cVr C lX9_182 oX9_chosenModel dX9_value_10 (ct_S_chosen G σ P hC) (by assumption) rfl rfl (Nat.le_of_ble_eq_true rfl) ⟨Nat.le_of_ble_eq_true rfl, Nat.le_of_ble_eq_true rfl⟩ ⟨Nat.le_of_ble_eq_true rfl, Nat.le_of_ble_eq_true rfl⟩ (fun rr_10 σ10 pp_10 => ?_)
    obtain ⟨ee_10, cc_, mm_, ff_, qq_⟩ := pp_10
    rw [ee_10]
    refine V.cVi C lX9_186 oX3_oneCount dX9_value_13 (ct_Mo_oneCount G σ10) (by assumption) rfl rfl (Nat.le_of_ble_eq_true rfl) ⟨Nat.le_of_ble_eq_true rfl, Nat.le_of_ble_eq_true rfl⟩ ⟨Nat.le_of_ble_eq_true rfl, Nat.le_of_ble_eq_true rfl⟩ (fun rr_13 σ13 pp_13 => ?_)
    obtain ⟨ee_13, ff_13⟩ := pp_13
    rw [ee_13, ff_13]
    refine V.bipush C ((-9)) b_m9 dX9_value_16 ?_
    refine V.icmp_ne C 24 dX9_value_18 rfl (fun hb_18 => ?_) (fun hb_18 => ?_)
    · obtain ⟨os, hos_⟩ : ∃ os, chW P = some os := by
        cases h : chW P with
        | none => rw [h] at mm_; exact absurd mm_ hb_18
        | some os => exact ⟨os, rfl⟩
      refine V.iconst C (nI 0) c_0 dX9_value_24 ?_
      refine V.istore_n C 2 dX9_value_25 rfl (by decide) ?_
      refine V.iconst C (nI 0) c_0 dX9_value_26 ?_
      refine V.istore_n C 3 dX9_value_27 rfl (by decide) ?_
      rw [hos_] at mm_
      rw [xv_]
      refine V.lvs (lv' := [(0, Rf G 0), (1, .int (nI v)), (2, .int (nI 0)), (3, .int (nI 0))]) rfl ?_
      exact loop v os xv_ hv (by unfold vlR; rw [if_pos z_, hos_, xv_, nI_toNat (by omega)]) (ff_ os hos_) (P.1 v + 1) 0 _ σ10 (by omega) (by omega) rfl cc_ mm_ qq_
    · have hno_ : chW P = none := by
        cases h : chW P with
        | none => rfl
        | some os => rw [h] at mm_; exact absurd (mm_.1.symm.trans hb_18) (nI_ne_m9 (by have := mm_.2.1; omega))
      refine V.bipush C ((-9)) b_m9 dX9_value_21 ?_
      exact V.iretS C R dX9_value_23 ⟨by unfold vlR; rw [if_pos z_, hno_], cc_, qq_⟩
  · have z_ := bI_eq0 hb_4
    refine V.iconst C ((-1)) c_m1 dX9_value_7 ?_
    exact V.iretS C R dX9_value_8 ⟨by unfold vlR; rw [if_neg (by rw [z_]; decide)], hC, FQ.refl _ _⟩
set_option maxRecDepth 100000 in
set_option maxHeartbeats 4000000 in
theorem ct_S_isImplied (G : Gl) (σ : SS) (P : Prob) (x : Int32) (hC : CInv σ P) : CI G mX9_isImplied [Rf G 0, .int x] σ (fun r σ1 => r = imR P x ∧ CInv σ1 P ∧ FQ 113 σ σ1) := by
  refine Ctr.of oX9_isImplied (Nat.le_of_ble_eq_true rfl) ?_
  intro X C R hnm hz0
  have C : Cx G X cX9_isImplied 2 RX9 5 113 0 0 := C
  have R : Cr G X (some .int) 0 0 _ := R
  show V G X 2 0 0 0 [(0, Rf G 0), (1, .int x)] [] (wld G σ)
  have kk_0 := sk_0
  have kk_1 := sk_1
  have kk_9 := sk_9
  have kk_11 := sk_11
  have kk_15 := sk_15
  have kk_19 := sk_19
  have kk_29 := sk_29
  have kk_91 := sk_91
  have kk_101 := sk_101
  have kk_111 := sk_111
  have kk_113 := sk_113
  have kk_116 := sk_116
  have kk_119 := sk_119
  have hW := hC.2.1
  have l10_ := hW.2.1
  have l3_ := hW.2.2.1
  refine V.aload_n C 0 rfl rfl dX9_isImplied_0 ?_
  refine V.getR C fX9_28 dX9_isImplied_1 (by assumption) rfl ?_
  refine V.getR C fX9_129 dX9_isImplied_4 (by assumption) rfl ?_
  refine V.iload_n C 1 rfl rfl dX9_isImplied_7 ?_
  refine V.cVi C lX9_116 oX6_has dX9_isImplied_8 (ct_St_has G σ 15 3 P.2.2.length x SA_15 hC.di (by omega)) (by assumption) rfl rfl (Nat.le_of_ble_eq_true rfl) ⟨Nat.le_of_ble_eq_true rfl, Nat.le_of_ble_eq_true rfl⟩ ⟨Nat.le_of_ble_eq_true rfl, Nat.le_of_ble_eq_true rfl⟩ (fun rr_8 σ8 pp_8 => ?_)
  obtain ⟨ee_8, ff_8⟩ := pp_8
  rw [ee_8, ff_8]
  refine V.if_ne C 16 dX9_isImplied_11 rfl (fun hb_11 => ?_) (fun hb_11 => ?_)
  · have z_ := bI_ne0 hb_11
    obtain ⟨v, hv, rfl⟩ := inB_of (by omega) z_
    obtain ⟨s, hs_⟩ : ∃ s, P.2.2[v]? = some s := ⟨_, List.getElem?_eq_getElem hv⟩
    refine V.aload_n C 0 rfl rfl dX9_isImplied_16 ?_
    refine V.getR C fX9_58 dX9_isImplied_17 (by assumption) rfl ?_
    refine V.cVi C lX9_165 oX0_agree dX9_isImplied_20 (ct_Cl_agree G σ 113 _ ClA_113 hC.2.2.2.1) (by assumption) rfl rfl (Nat.le_of_ble_eq_true rfl) ⟨Nat.le_of_ble_eq_true rfl, Nat.le_of_ble_eq_true rfl⟩ ⟨Nat.le_of_ble_eq_true rfl, Nat.le_of_ble_eq_true rfl⟩ (fun rr_20 σ20 pp_20 => ?_)
    obtain ⟨ee_20, ff_20⟩ := pp_20
    rw [ee_20, ff_20]
    refine V.if_ne C 29 dX9_isImplied_23 rfl (fun hb_23 => ?_) (fun hb_23 => ?_)
    · have z2_ := bI_ne0 hb_23
      refine V.aload_n C 0 rfl rfl dX9_isImplied_29 ?_
      refine V.iconst C (nI 1) c_1 dX9_isImplied_30 ?_
      refine V.aload_n C 0 rfl rfl dX9_isImplied_31 ?_
      refine V.getR C fX9_28 dX9_isImplied_32 (by assumption) rfl ?_
      refine V.getR C fX9_112 dX9_isImplied_35 (by assumption) rfl ?_
      refine V.cVi C lX9_126 oX6_count dX9_isImplied_38 (ct_St_count G σ 11 10 SA_11) (by assumption) rfl rfl (Nat.le_of_ble_eq_true rfl) ⟨Nat.le_of_ble_eq_true rfl, Nat.le_of_ble_eq_true rfl⟩ ⟨Nat.le_of_ble_eq_true rfl, Nat.le_of_ble_eq_true rfl⟩ (fun rr_38 σ38 pp_38 => ?_)
      obtain ⟨ee_38, ff_38⟩ := pp_38
      rw [ee_38, ff_38]
      rw [hC.eq]
      refine V.ishl C dX9_isImplied_41 ?_
      refine V.iconst C (nI 1) c_1 dX9_isImplied_42 ?_
      refine V.isub C dX9_isImplied_43 ?_
      refine V.cVv C lX9_173 oX9_tryEquations dX9_isImplied_44 (ct_S_try G σ P _ hC) (by assumption) rfl rfl (Nat.le_of_ble_eq_true rfl) ⟨Nat.le_of_ble_eq_true rfl, Nat.le_of_ble_eq_true rfl⟩ ⟨Nat.le_of_ble_eq_true rfl, Nat.le_of_ble_eq_true rfl⟩ (fun σ44 pp_44 => ?_)
      obtain ⟨t1_, t2_, t3_⟩ := pp_44
      rcases ufSel_len P.2.1 with el_ | el_
      rotate_left
      · omega
      rw [el_] at t1_
      refine V.aload_n C 0 rfl rfl dX9_isImplied_47 ?_
      refine V.getR C fX9_62 dX9_isImplied_48 (by assumption) rfl ?_
      refine V.aload_n C 0 rfl rfl dX9_isImplied_51 ?_
      refine V.getR C fX9_28 dX9_isImplied_52 (by assumption) rfl ?_
      refine V.getR C fX9_129 dX9_isImplied_55 (by assumption) rfl ?_
      refine V.iload_n C 1 rfl rfl dX9_isImplied_58 ?_
      refine V.cVv C lX9_169 oX0_equate dX9_isImplied_59 (ct_Cl_equate G σ44 116 15 3 v (ufAll uf0 P.2.1) P.2.2 s ClA_116 SA_15 t1_ t2_.1.2.2 hs_ (hW.okL2 v s hs_) (by omega)) (by assumption) rfl rfl (Nat.le_of_ble_eq_true rfl) ⟨Nat.le_of_ble_eq_true rfl, Nat.le_of_ble_eq_true rfl⟩ ⟨Nat.le_of_ble_eq_true rfl, Nat.le_of_ble_eq_true rfl⟩ (fun σ59 pp_59 => ?_)
      refine V.aload_n C 0 rfl rfl dX9_isImplied_62 ?_
      refine V.getR C fX9_62 dX9_isImplied_63 (by assumption) rfl ?_
      refine V.cVi C lX9_165 oX0_agree dX9_isImplied_66 (ct_Cl_agree G σ59 116 _ ClA_116 pp_59.1) (by assumption) rfl rfl (Nat.le_of_ble_eq_true rfl) ⟨Nat.le_of_ble_eq_true rfl, Nat.le_of_ble_eq_true rfl⟩ ⟨Nat.le_of_ble_eq_true rfl, Nat.le_of_ble_eq_true rfl⟩ (fun rr_66 σ66 pp_66 => ?_)
      obtain ⟨ee_66, ff_66⟩ := pp_66
      rw [ee_66, ff_66]
      refine V.if_eq C 76 dX9_isImplied_69 rfl (fun hb_69 => ?_) (fun hb_69 => ?_)
      · have z3_ := bI_eq0 hb_69
        refine V.iconst C (nI 1) c_1 dX9_isImplied_76 ?_
        exact V.iretS C R dX9_isImplied_77 ⟨by unfold imR; rw [if_pos z_, if_pos z2_, nI_toNat (by omega), hs_]; show _ = bI (!(ufStm (ufAll uf0 P.2.1) s).2.2); rw [z3_]; rfl, t2_.tri pp_59.2, (t3_.trans pp_59.2).q (by omega) (by omega) (by omega)⟩
      · have z3_ := bI_ne0 hb_69
        refine V.iconst C (nI 0) c_0 dX9_isImplied_72 ?_
        refine V.goto C 77 dX9_isImplied_73 rfl ?_
        exact V.iretS C R dX9_isImplied_77 ⟨by unfold imR; rw [if_pos z_, if_pos z2_, nI_toNat (by omega), hs_]; show _ = bI (!(ufStm (ufAll uf0 P.2.1) s).2.2); rw [z3_]; rfl, t2_.tri pp_59.2, (t3_.trans pp_59.2).q (by omega) (by omega) (by omega)⟩
    · have z2_ := bI_eq0 hb_23
      refine V.bipush C ((-2)) b_m2 dX9_isImplied_26 ?_
      exact V.iretS C R dX9_isImplied_28 ⟨by unfold imR; rw [if_pos z_, if_neg (by rw [z2_]; decide)], hC, FQ.refl _ _⟩
  · have z_ := bI_eq0 hb_11
    refine V.iconst C ((-1)) c_m1 dX9_isImplied_14 ?_
    exact V.iretS C R dX9_isImplied_15 ⟨by unfold imR; rw [if_neg (by rw [z_]; decide)], hC, FQ.refl _ _⟩
