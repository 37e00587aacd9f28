/-! The model's choose, isSatisfiable, oneBits, value. -/
def chG (g : List Nat → Bool) (us : List Nat) (n : Nat) : Nat → Nat → Option (List Nat)
  | 0, _ => none
  | f + 1, size => if size ≤ n then (match sr0 g size us with
    | some os => some os
    | none => chG g us n f (size + 1)) else none
/-- the chosen ones -/
def chW (P : Prob) : Option (List Nat) := if (ufAll uf0 P.2.1).2.2 = true then chG (fun os => mW (ufAll uf0 P.2.1) os P.2.2) (usL P (ufAll uf0 P.2.1) 128) P.2.2.length 5 0 else none
def saR (P : Prob) : Int32 := bI (chW P).isSome
def obR (P : Prob) : Int32 := match chW P with
  | none => -9
  | some os => nI os.length
def vlF (u : UF) (os : List Nat) (v : Nat) : Nat → Int32
  | 0 => nI 0
  | b + 1 => vlF u os v b ||| shl32 (nI (vW u os (16 + 16 * v + b))) (nI b)
def vlR (P : Prob) (x : Int32) : Int32 := if inB x 8 = true then (match chW P with
  | none => -9
  | some os => vlF (ufAll uf0 P.2.1) os x.toNatClampNeg (P.1 x.toNatClampNeg)) else -1
theorem RU.fm {fs as : List Nat} {σ σ1 : SS} {us : List Nat} (h : RU σ us) (hF : FM fs as σ σ1) (h1 : 25 ∉ fs) (h2 : 135 ∉ as) : RU σ1 us := by
  unfold RU; rw [hF.f h1, hF.a h2]; exact h
set_option maxRecDepth 100000 in
set_option maxHeartbeats 4000000 in
theorem ct_M_choose (G : Gl) (σ : SS) (P : Prob) (hP : FP (σ.2.1 124) P) (hwf : wfP P) : CI G mX10_choose [Rf G 123] σ (fun r σ1 => r = bI (chW P).isSome ∧ (∀ os, chW P = some os → RO σ1 os ∧ RCm σ1 (ufAll uf0 P.2.1) ∧ (ufAll uf0 P.2.1).2.2 = true) ∧ FM [21, 23, 25] [132, 133, 134, 135] σ σ1) := by
  refine Ctr.of oX10_choose (Nat.le_of_ble_eq_true rfl) ?_
  intro X C R hnm hz0
  have C : Cx G X cX10_choose 2 RX10 6 132 0 0 := C
  have R : Cr G X (some .boolean) 0 0 _ := R
  show V G X 2 0 0 0 [(0, Rf G 123)] [] (wld G σ)
  have kk_123 := sk_123
  have kk_124 := sk_124
  have kk_131 := sk_131
  have kk_132 := sk_132
  have kk_133 := sk_133
  have kk_134 := sk_134
  have kk_135 := sk_135
  have l3_ := hwf.2.2.1
  have loop : (ufAll uf0 P.2.1).2.2 = true → ∀ (m z : Nat) (σ1 : SS), P.2.2.length + 1 < z + m → z ≤ P.2.2.length + 1 → chW P = chG (fun os => mW (ufAll uf0 P.2.1) os P.2.2) (usL P (ufAll uf0 P.2.1) 128) P.2.2.length m z → RCm σ1 (ufAll uf0 P.2.1) → RU σ1 (usL P (ufAll uf0 P.2.1) 128) → FM [21, 23, 25] [132, 133, 134, 135] σ σ1 → V G X 2 0 0 15 [(0, Rf G 123), (1, .int (nI z))] [] (wld G σ1) := by
    intro hu m
    induction m with
    | zero =>
      intro z σ1 hm hz he hU1 hR1 hF1
      exact absurd hm (by omega)
    | succ m ih =>
      intro z σ1 hm hz he hU1 hR1 hF1
      refine V.iload_n C 1 rfl rfl dX10_choose_15 ?_
      refine V.aload_n C 0 rfl rfl dX10_choose_16 ?_
      refine V.getR C fX10_7 dX10_choose_17 (by assumption) rfl ?_
      refine V.bipush C (nI 9) b_9 dX10_choose_20 ?_
      refine V.ialdN C dX10_choose_22 (by assumption) (by omega) ?_
      rw [hF1.a (by decide), hP.2.2.1]
      refine V.icmp_gt C 42 dX10_choose_23 rfl (fun hb_23 => ?_) (fun hb_23 => ?_)
      · have zz_ : ¬ z ≤ P.2.2.length := fun q => absurd (nI_le q (by omega)) (Int32.not_le.mpr hb_23)
        refine V.iconst C (nI 0) c_0 dX10_choose_42 ?_
        exact V.zretS C R dX10_choose_43 (by first | exact Or.inl rfl | exact Or.inr rfl | exact bI01 _) (by
          have e_ : chW P = none := by rw [he]; show (if z ≤ _ then _ else _) = _; rw [if_neg zz_]
          rw [e_]
          exact ⟨rfl, (fun os h => by cases h), hF1⟩)
      · have zz_ : z ≤ P.2.2.length := (nI_leI (by omega) (by omega)).mp (Int32.not_lt.mp hb_23)
        refine V.aload_n C 0 rfl rfl dX10_choose_26 ?_
        refine V.iload_n C 1 rfl rfl dX10_choose_27 ?_
        refine V.cVi C lX10_254 oX10_search dX10_choose_28 (ct_M_search G σ1 P (ufAll uf0 P.2.1) (usL P (ufAll uf0 P.2.1) 128) z (by rw [hF1.a (by decide)]; exact hP) hwf hU1 hu hR1 (by omega)) (by assumption) rfl rfl (Nat.le_of_ble_eq_true rfl) ⟨Nat.le_of_ble_eq_true rfl, Nat.le_of_ble_eq_true rfl⟩ ⟨Nat.le_of_ble_eq_true rfl, Nat.le_of_ble_eq_true rfl⟩ (fun rr_28 σ28 pp_28 => ?_)
        rw [pp_28.1]
        have F28_ := hF1.trans (pp_28.2.2.mono (by decide) (by decide))
        have U28_ := hU1.fm pp_28.2.2 (by decide) (by decide) (by decide)
        have R28_ := hR1.fm pp_28.2.2 (by decide) (by decide)
        refine V.if_eq C 36 dX10_choose_31 rfl (fun hb_31 => ?_) (fun hb_31 => ?_)
        · have zn_ : sr0 (fun os => mW (ufAll uf0 P.2.1) os P.2.2) z (usL P (ufAll uf0 P.2.1) 128) = none := by cases h : sr0 (fun os => mW (ufAll uf0 P.2.1) os P.2.2) z (usL P (ufAll uf0 P.2.1) 128) with
            | none => rfl
            | some os => rw [h] at hb_31; cases (bI_eq0 hb_31)
          refine V.iinc C (nI (z + 1)) dX10_choose_36 rfl (nI_1 z) (by decide) ?_
          refine V.goto C 15 dX10_choose_39 rfl ?_
          refine V.lvs (lv' := [(0, Rf G 123), (1, .int (nI (z + 1)))]) rfl ?_
          exact ih (z + 1) σ28 (by omega) (by omega) (by rw [he]; show (if z ≤ _ then (match sr0 (fun os => mW (ufAll uf0 P.2.1) os P.2.2) z (usL P (ufAll uf0 P.2.1) 128) with | some os => some os | none => _) else _) = _; rw [if_pos zz_, zn_]) U28_ R28_ F28_
        · obtain ⟨os, hos_⟩ : ∃ os, sr0 (fun os => mW (ufAll uf0 P.2.1) os P.2.2) z (usL P (ufAll uf0 P.2.1) 128) = some os := Option.isSome_iff_exists.mp (bI_ne0 hb_31)
          have e_ : chW P = some os := by rw [he]; show (if z ≤ _ then (match sr0 (fun os => mW (ufAll uf0 P.2.1) os P.2.2) z (usL P (ufAll uf0 P.2.1) 128) with | some os => some os | none => _) else _) = _; rw [if_pos zz_, hos_]
          refine V.iconst C (nI 1) c_1 dX10_choose_34 ?_
          exact V.zretS C R dX10_choose_35 (by first | exact Or.inl rfl | exact Or.inr rfl | exact bI01 _) ⟨by rw [e_]; rfl, fun os1 h1 => by rw [e_] at h1; cases h1; exact ⟨pp_28.2.1 os hos_, U28_, hu⟩, F28_⟩
  refine V.aload_n C 0 rfl rfl dX10_choose_0 ?_
  refine V.cVi C lX10_221 oX10_solveAll dX10_choose_1 (ct_M_solveAll G σ P hP hwf) (by assumption) rfl rfl (Nat.le_of_ble_eq_true rfl) ⟨Nat.le_of_ble_eq_true rfl, Nat.le_of_ble_eq_true rfl⟩ ⟨Nat.le_of_ble_eq_true rfl, Nat.le_of_ble_eq_true rfl⟩ (fun rr_1 σ1 pp_1 => ?_)
  rw [pp_1.1]
  refine V.if_ne C 9 dX10_choose_4 rfl (fun hb_4 => ?_) (fun hb_4 => ?_)
  · have zu_ := bI_ne0 hb_4
    refine V.aload_n C 0 rfl rfl dX10_choose_9 ?_
    refine V.cVv C lX10_251 oX10_findUsed dX10_choose_10 (ct_M_findUsed G σ1 P (ufAll uf0 P.2.1) (by rw [pp_1.2.2.a (by decide)]; exact hP) hwf pp_1.2.1) (by assumption) rfl rfl (Nat.le_of_ble_eq_true rfl) ⟨Nat.le_of_ble_eq_true rfl, Nat.le_of_ble_eq_true rfl⟩ ⟨Nat.le_of_ble_eq_true rfl, Nat.le_of_ble_eq_true rfl⟩ (fun σ10 pp_10 => ?_)
    refine V.iconst C (nI 0) c_0 dX10_choose_13 ?_
    refine V.istore_n C 1 dX10_choose_14 rfl (by decide) ?_
    refine V.lvs (lv' := [(0, Rf G 123), (1, .int (nI 0))]) rfl ?_
    exact loop zu_ 5 0 σ10 (by omega) (by omega) (by unfold chW; rw [if_pos zu_]) (pp_1.2.1.fm pp_10.2 (by decide) (by decide) (by decide)) pp_10.1 ((pp_1.2.2.mono (by decide) (by decide)).trans (pp_10.2.mono (by decide) (by decide)))
  · have zu_ := bI_eq0 hb_4
    refine V.iconst C (nI 0) c_0 dX10_choose_7 ?_
    exact V.zretS C R dX10_choose_8 (by first | exact Or.inl rfl | exact Or.inr rfl | exact bI01 _) (by
      have e_ : chW P = none := by unfold chW; rw [if_neg (by rw [zu_]; decide)]
      rw [e_]
      exact ⟨rfl, (fun os h => by cases h), pp_1.2.2.mono (by decide) (by decide)⟩)
set_option maxRecDepth 100000 in
set_option maxHeartbeats 4000000 in
theorem ct_M_isSat (G : Gl) (σ : SS) (P : Prob) (hP : FP (σ.2.1 124) P) (hwf : wfP P) : CI G mX10_isSatisfiable [Rf G 123] σ (fun r σ1 => r = saR P ∧ FM [0, 21, 23, 25] [132, 133, 134, 135] σ σ1) := by
  refine Ctr.of oX10_isSatisfiable (Nat.le_of_ble_eq_true rfl) ?_
  intro X C R hnm hz0
  have C : Cx G X cX10_isSatisfiable 1 RX10 7 153 0 0 := C
  have R : Cr G X (some .int) 0 0 _ := R
  show V G X 1 0 0 0 [(0, Rf G 123)] [] (wld G σ)
  have kk_123 := sk_123
  have kk_124 := sk_124
  have kk_131 := sk_131
  have kk_132 := sk_132
  have kk_133 := sk_133
  have kk_134 := sk_134
  have kk_135 := sk_135
  refine V.aload_n C 0 rfl rfl dX10_isSatisfiable_0 ?_
  refine V.iconst C (nI 0) c_0 dX10_isSatisfiable_1 ?_
  refine V.putI C fX10_47 dX10_isSatisfiable_2 (by assumption) rfl ?_
  refine V.aload_n C 0 rfl rfl dX10_isSatisfiable_5 ?_
  refine V.cVi C lX10_257 oX10_choose dX10_isSatisfiable_6 (ct_M_choose G _ P hP hwf) (by assumption) rfl rfl (Nat.le_of_ble_eq_true rfl) ⟨Nat.le_of_ble_eq_true rfl, Nat.le_of_ble_eq_true rfl⟩ ⟨Nat.le_of_ble_eq_true rfl, Nat.le_of_ble_eq_true rfl⟩ (fun rr_6 σ6 pp_6 => ?_)
  rw [pp_6.1]
  refine V.if_eq C 16 dX10_isSatisfiable_9 rfl (fun hb_9 => ?_) (fun hb_9 => ?_)
  · refine V.iconst C (nI 0) c_0 dX10_isSatisfiable_16 ?_
    exact V.iretS C R dX10_isSatisfiable_17 ⟨by unfold saR; rw [bI_eq0 hb_9]; rfl, (((FM.refl [0] [] σ).sF (nI 0) (by decide)).mono (by decide) (by decide)).trans (pp_6.2.2.mono (by decide) (by decide))⟩
  · refine V.iconst C (nI 1) c_1 dX10_isSatisfiable_12 ?_
    refine V.goto C 17 dX10_isSatisfiable_13 rfl ?_
    exact V.iretS C R dX10_isSatisfiable_17 ⟨by unfold saR; rw [bI_ne0 hb_9]; rfl, (((FM.refl [0] [] σ).sF (nI 0) (by decide)).mono (by decide) (by decide)).trans (pp_6.2.2.mono (by decide) (by decide))⟩
set_option maxRecDepth 100000 in
set_option maxHeartbeats 4000000 in
theorem ct_M_oneBits (G : Gl) (σ : SS) (P : Prob) (hP : FP (σ.2.1 124) P) (hwf : wfP P) : CI G mX10_oneBits [Rf G 123] σ (fun r σ1 => r = obR P ∧ FM [0, 21, 23, 25] [132, 133, 134, 135] σ σ1) := by
  refine Ctr.of oX10_oneBits (Nat.le_of_ble_eq_true rfl) ?_
  intro X C R hnm hz0
  have C : Cx G X cX10_oneBits 1 RX10 7 153 0 0 := C
  have R : Cr G X (some .int) 0 0 _ := R
  show V G X 1 0 0 0 [(0, Rf G 123)] [] (wld G σ)
  have kk_123 := sk_123
  have kk_124 := sk_124
  have kk_131 := sk_131
  have kk_132 := sk_132
  have kk_133 := sk_133
  have kk_134 := sk_134
  have kk_135 := sk_135
  refine V.aload_n C 0 rfl rfl dX10_oneBits_0 ?_
  refine V.iconst C (nI 0) c_0 dX10_oneBits_1 ?_
  refine V.putI C fX10_47 dX10_oneBits_2 (by assumption) rfl ?_
  refine V.aload_n C 0 rfl rfl dX10_oneBits_5 ?_
  refine V.cVi C lX10_257 oX10_choose dX10_oneBits_6 (ct_M_choose G _ P hP hwf) (by assumption) rfl rfl (Nat.le_of_ble_eq_true rfl) ⟨Nat.le_of_ble_eq_true rfl, Nat.le_of_ble_eq_true rfl⟩ ⟨Nat.le_of_ble_eq_true rfl, Nat.le_of_ble_eq_true rfl⟩ (fun rr_6 σ6 pp_6 => ?_)
  rw [pp_6.1]
  refine V.if_eq C 19 dX10_oneBits_9 rfl (fun hb_9 => ?_) (fun hb_9 => ?_)
  · have zn_ : chW P = none := by cases h : chW P with
      | none => rfl
      | some os => rw [h] at hb_9; cases (bI_eq0 hb_9)
    refine V.bipush C ((-9)) b_m9 dX10_oneBits_19 ?_
    exact V.iretS C R dX10_oneBits_21 ⟨by unfold obR; rw [zn_], (((FM.refl [0] [] σ).sF (nI 0) (by decide)).mono (by decide) (by decide)).trans (pp_6.2.2.mono (by decide) (by decide))⟩
  · obtain ⟨os, hos_⟩ : ∃ os, chW P = some os := Option.isSome_iff_exists.mp (bI_ne0 hb_9)
    refine V.aload_n C 0 rfl rfl dX10_oneBits_12 ?_
    refine V.getI C fX10_233 dX10_oneBits_13 (by assumption) rfl ?_
    rw [(pp_6.2.1 os hos_).1.1]
    refine V.goto C 21 dX10_oneBits_16 rfl ?_
    exact V.iretS C R dX10_oneBits_21 ⟨by unfold obR; rw [hos_], (((FM.refl [0] [] σ).sF (nI 0) (by decide)).mono (by decide) (by decide)).trans (pp_6.2.2.mono (by decide) (by decide))⟩
set_option maxRecDepth 100000 in
set_option maxHeartbeats 4000000 in
theorem ct_M_value (G : Gl) (σ : SS) (P : Prob) (x : Int32) (hP : FP (σ.2.1 124) P) (hwf : wfP P) : CI G mX10_value [Rf G 123, .int x] σ (fun r σ1 => r = vlR P x ∧ FM [0, 21, 23, 25] [132, 133, 134, 135] σ σ1) := by
  refine Ctr.of oX10_value (Nat.le_of_ble_eq_true rfl) ?_
  intro X C R hnm hz0
  have C : Cx G X cX10_value 4 RX10 7 153 0 0 := C
  have R : Cr G X (some .int) 0 0 _ := R
  show V G X 4 0 0 0 [(0, Rf G 123), (1, .int x)] [] (wld G σ)
  have kk_123 := sk_123
  have kk_124 := sk_124
  have kk_131 := sk_131
  have kk_132 := sk_132
  have kk_133 := sk_133
  have kk_134 := sk_134
  have kk_135 := sk_135
  have loop : ∀ (v : Nat) (σ1 : SS) (os : List Nat), x = nI v → v < 8 → vlR P x = vlF (ufAll uf0 P.2.1) os v (P.1 v) → (ufAll uf0 P.2.1).2.2 = true → RO σ1 os → RCm σ1 (ufAll uf0 P.2.1) → FM [0, 21, 23, 25] [132, 133, 134, 135] σ σ1 → ∀ (m b : Nat) (n : Int32), P.1 v < b + m → b ≤ P.1 v → n = vlF (ufAll uf0 P.2.1) os v b → V G X 4 0 0 28 [(0, Rf G 123), (1, .int (nI v)), (2, .int n), (3, .int (nI b))] [] (wld G σ1) := by
    intro v σ1 os xv_ hv he hu hO1 hU1 hF1
    have w16_ := hwf.1 v hv
    intro m
    induction m with
    | zero =>
      intro b n hm hb hn
      exact absurd hm (by omega)
    | succ m ih =>
      intro b n hm hb hn
      refine V.iload_n C 3 rfl rfl dX10_value_28 ?_
      refine V.aload_n C 0 rfl rfl dX10_value_29 ?_
      refine V.getR C fX10_7 dX10_value_30 (by assumption) rfl ?_
      refine V.iload_n C 1 rfl rfl dX10_value_33 ?_
      refine V.ialdN C dX10_value_34 (by assumption) (by omega) ?_
      rw [hF1.a (by decide), hP.1 v hv]
      refine V.icmp_ge C 62 dX10_value_35 rfl (fun hb_35 => ?_) (fun hb_35 => ?_)
      · have zb_ : b = P.1 v := by have := (nI_leI (by omega) (by omega)).mp hb_35; omega
        refine V.iload_n C 2 rfl rfl dX10_value_62 ?_
        exact V.iretS C R dX10_value_63 ⟨by rw [he, hn, zb_], hF1⟩
      · have zb_ : b < P.1 v := Nat.lt_of_not_le (fun q => hb_35 (nI_le q (by omega)))
        have okb_ : okB (16 + 16 * v + b) := ⟨by omega, Or.inr (by omega)⟩
        refine V.iload_n C 2 rfl rfl dX10_value_38 ?_
        refine V.aload_n C 0 rfl rfl dX10_value_39 ?_
        refine V.bipush C (nI 16) b_16 dX10_value_40 ?_
        refine V.bipush C (nI 16) b_16 dX10_value_42 ?_
        refine V.iload_n C 1 rfl rfl dX10_value_44 ?_
        refine V.imul C dX10_value_45 ?_
        refine V.iadd C dX10_value_46 ?_
        rw [nI_mul, nI_add]
        refine V.iload_n C 3 rfl rfl dX10_value_47 ?_
        refine V.iadd C dX10_value_48 ?_
        rw [nI_add]
        refine V.cVi C lX10_236 oX10_valueOf dX10_value_49 (ct_M_valueOf G σ1 (ufAll uf0 P.2.1) os (16 + 16 * v + b) hU1 hu hO1 okb_) (by assumption) rfl rfl (Nat.le_of_ble_eq_true rfl) ⟨Nat.le_of_ble_eq_true rfl, Nat.le_of_ble_eq_true rfl⟩ ⟨Nat.le_of_ble_eq_true rfl, Nat.le_of_ble_eq_true rfl⟩ (fun rr_49 σ49 pp_49 => ?_)
        obtain ⟨ee_49, ff_49⟩ := pp_49
        rw [ee_49, ff_49]
        refine V.iload_n C 3 rfl rfl dX10_value_52 ?_
        refine V.ishl C dX10_value_53 ?_
        refine V.ior C dX10_value_54 ?_
        refine V.istore_n C 2 dX10_value_55 rfl (by decide) ?_
        refine V.iinc C (nI (b + 1)) dX10_value_56 rfl (nI_1 b) (by decide) ?_
        refine V.goto C 28 dX10_value_59 rfl ?_
        refine V.lvs (lv' := [(0, Rf G 123), (1, .int (nI v)), (2, .int (n ||| shl32 (nI (vW (ufAll uf0 P.2.1) os (16 + 16 * v + b))) (nI b))), (3, .int (nI (b + 1)))]) rfl ?_
        exact ih (b + 1) _ (by omega) (by omega) (by rw [hn]; rfl)
  refine V.aload_n C 0 rfl rfl dX10_value_0 ?_
  refine V.iconst C (nI 0) c_0 dX10_value_1 ?_
  refine V.putI C fX10_47 dX10_value_2 (by assumption) rfl ?_
  refine V.iload_n C 1 rfl rfl dX10_value_5 ?_
  refine V.cSi C lX10_151 oX10_isVariable dX10_value_6 (ct_M_isVar G _ x) rfl rfl (Nat.le_of_ble_eq_true rfl) ⟨Nat.le_of_ble_eq_true rfl, Nat.le_of_ble_eq_true rfl⟩ ⟨Nat.le_of_ble_eq_true rfl, Nat.le_of_ble_eq_true rfl⟩ (fun rr_6 σ6 pp_6 => ?_)
  obtain ⟨ee_6, ff_6⟩ := pp_6
  rw [ee_6, ff_6]
  refine V.if_ne C 14 dX10_value_9 rfl (fun hb_9 => ?_) (fun hb_9 => ?_)
  · have z_ := bI_ne0 hb_9
    obtain ⟨v, hv, xv_⟩ := inB_of (by decide) z_
    refine V.aload_n C 0 rfl rfl dX10_value_14 ?_
    refine V.cVi C lX10_257 oX10_choose dX10_value_15 (ct_M_choose G _ P hP hwf) (by assumption) rfl rfl (Nat.le_of_ble_eq_true rfl) ⟨Nat.le_of_ble_eq_true rfl, Nat.le_of_ble_eq_true rfl⟩ ⟨Nat.le_of_ble_eq_true rfl, Nat.le_of_ble_eq_true rfl⟩ (fun rr_15 σ15 pp_15 => ?_)
    rw [pp_15.1]
    refine V.if_ne C 24 dX10_value_18 rfl (fun hb_18 => ?_) (fun hb_18 => ?_)
    · obtain ⟨os, hos_⟩ : ∃ os, chW P = some os := Option.isSome_iff_exists.mp (bI_ne0 hb_18)
      obtain ⟨cO_, cU_, cu_⟩ := pp_15.2.1 os hos_
      refine V.iconst C (nI 0) c_0 dX10_value_24 ?_
      refine V.istore_n C 2 dX10_value_25 rfl (by decide) ?_
      refine V.iconst C (nI 0) c_0 dX10_value_26 ?_
      refine V.istore_n C 3 dX10_value_27 rfl (by decide) ?_
      rw [xv_]
      refine V.lvs (lv' := [(0, Rf G 123), (1, .int (nI v)), (2, .int (nI 0)), (3, .int (nI 0))]) rfl ?_
      exact loop v σ15 os xv_ hv (by unfold vlR; rw [if_pos z_, hos_, xv_, nI_toNat (by omega)]) cu_ cO_ cU_ ((((FM.refl [0] [] σ).sF (nI 0) (by decide)).mono (by decide) (by decide)).trans (pp_15.2.2.mono (by decide) (by decide))) (P.1 v + 1) 0 _ (by omega) (by omega) rfl
    · have zn_ : chW P = none := by cases h : chW P with
        | none => rfl
        | some os => rw [h] at hb_18; cases (bI_eq0 hb_18)
      refine V.bipush C ((-9)) b_m9 dX10_value_21 ?_
      exact V.iretS C R dX10_value_23 ⟨by unfold vlR; rw [if_pos z_, zn_], (((FM.refl [0] [] σ).sF (nI 0) (by decide)).mono (by decide) (by decide)).trans (pp_15.2.2.mono (by decide) (by decide))⟩
  · have z_ := bI_eq0 hb_9
    refine V.iconst C ((-1)) c_m1 dX10_value_12 ?_
    exact V.iretS C R dX10_value_13 ⟨by unfold vlR; rw [if_neg (by rw [z_]; decide)], ((FM.refl [0] [] σ).sF (nI 0) (by decide)).mono (by decide) (by decide)⟩
