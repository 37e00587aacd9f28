/-! The model's equateTerms. -/
set_option maxRecDepth 100000 in
set_option maxHeartbeats 4000000 in
theorem ct_M_eqTerms (G : Gl) (σ : SS) (P : Prob) (u : UF) (i : Nat) (s : Stm) (hP : FP (σ.2.1 124) P) (hwf : wfP P) (hs : stG P i = some s) (hU : RCm σ u) : CV G mX10_equateTerms [Rf G 123, .int (nI i)] σ (fun σ1 => RCm σ1 (ufStm u s) ∧ FM [21] [132, 133] σ σ1) := by
  refine Ctr.of oX10_equateTerms (Nat.le_of_ble_eq_true rfl) ?_
  intro X C R hnm hz0
  have C : Cx G X cX10_equateTerms 3 RX10 3 68 0 0 := C
  have R : Cr G X none 0 0 _ := R
  show V G X 3 0 0 0 [(0, Rf G 123), (1, .int (nI i))] [] (wld G σ)
  have kk_123 := sk_123
  have kk_124 := sk_124
  have kk_131 := sk_131
  have kk_132 := sk_132
  have kk_133 := sk_133
  have ws_ := (hP.st hwf hs).2.1
  have s16_ := ws_.2.1
  have loop : ∀ (m k : Nat) (σ1 : SS), s.1 < k + m → k ≤ s.1 → RCm σ1 (ufTerms u s.2.1 s.2.2 k) → FM [21] [132, 133] σ σ1 → V G X 3 0 0 2 [(0, Rf G 123), (1, .int (nI i)), (2, .int (nI k))] [] (wld G σ1) := by
    intro m
    induction m with
    | zero =>
      intro k σ1 hm hk hU1 hF1
      exact absurd hm (by omega)
    | succ m ih =>
      intro k σ1 hm hk hU1 hF1
      have hP1 : FP (σ1.2.1 124) P := by rw [hF1.a (by decide)]; exact hP
      refine V.iload_n C 2 rfl rfl dX10_equateTerms_2 ?_
      refine V.aload_n C 0 rfl rfl dX10_equateTerms_3 ?_
      refine V.iload_n C 1 rfl rfl dX10_equateTerms_4 ?_
      refine V.cVi C lX10_158 oX10_widthOf dX10_equateTerms_5 (ct_M_wOf G σ1 P i s hP1 hwf hs) (by assumption) rfl rfl (Nat.le_of_ble_eq_true rfl) ⟨Nat.le_of_ble_eq_true rfl, Nat.le_of_ble_eq_true rfl⟩ ⟨Nat.le_of_ble_eq_true rfl, Nat.le_of_ble_eq_true rfl⟩ (fun rr_5 σ5 pp_5 => ?_)
      obtain ⟨ee_5, ff_5⟩ := pp_5
      rw [ee_5, ff_5]
      refine V.icmp_ge C 35 dX10_equateTerms_8 rfl (fun hb_8 => ?_) (fun hb_8 => ?_)
      · have hk8 : k = s.1 := by have := (nI_leI (by omega) (by omega)).mp hb_8; omega
        exact V.vretS C R dX10_equateTerms_35 ⟨by unfold ufStm; rw [← hk8]; exact hU1, hF1⟩
      · have hk8 : k < s.1 := Nat.lt_of_not_le (fun q => hb_8 (nI_le q (by omega)))
        refine V.aload_n C 0 rfl rfl dX10_equateTerms_11 ?_
        refine V.aload_n C 0 rfl rfl dX10_equateTerms_12 ?_
        refine V.iload_n C 1 rfl rfl dX10_equateTerms_13 ?_
        refine V.iconst C (nI 0) c_0 dX10_equateTerms_14 ?_
        refine V.iload_n C 2 rfl rfl dX10_equateTerms_15 ?_
        refine V.cVi C lX10_161 oX10_bitOf dX10_equateTerms_16 (ct_M_bitOf G σ1 P i 0 k s hP1 hwf hs (by decide) hk8) (by assumption) rfl rfl (Nat.le_of_ble_eq_true rfl) ⟨Nat.le_of_ble_eq_true rfl, Nat.le_of_ble_eq_true rfl⟩ ⟨Nat.le_of_ble_eq_true rfl, Nat.le_of_ble_eq_true rfl⟩ (fun rr_16 σ16 pp_16 => ?_)
        obtain ⟨ee_16, ff_16⟩ := pp_16
        rw [ee_16, ff_16]
        refine V.aload_n C 0 rfl rfl dX10_equateTerms_19 ?_
        refine V.iload_n C 1 rfl rfl dX10_equateTerms_20 ?_
        refine V.iconst C (nI 1) c_1 dX10_equateTerms_21 ?_
        refine V.iload_n C 2 rfl rfl dX10_equateTerms_22 ?_
        refine V.cVi C lX10_161 oX10_bitOf dX10_equateTerms_23 (ct_M_bitOf G σ1 P i 1 k s hP1 hwf hs (by decide) hk8) (by assumption) rfl rfl (Nat.le_of_ble_eq_true rfl) ⟨Nat.le_of_ble_eq_true rfl, Nat.le_of_ble_eq_true rfl⟩ ⟨Nat.le_of_ble_eq_true rfl, Nat.le_of_ble_eq_true rfl⟩ (fun rr_23 σ23 pp_23 => ?_)
        obtain ⟨ee_23, ff_23⟩ := pp_23
        rw [ee_23, ff_23]
        refine V.cVv C lX10_212 oX10_equate dX10_equateTerms_26 (ct_M_equate G σ1 (ufTerms u s.2.1 s.2.2 k) (trm s 0 k) (trm s 1 k) hU1 ((ws_.T 0).1 k hk8) ((ws_.T 1).1 k hk8)) (by assumption) rfl rfl (Nat.le_of_ble_eq_true rfl) ⟨Nat.le_of_ble_eq_true rfl, Nat.le_of_ble_eq_true rfl⟩ ⟨Nat.le_of_ble_eq_true rfl, Nat.le_of_ble_eq_true rfl⟩ (fun σ26 pp_26 => ?_)
        refine V.iinc C (nI (k + 1)) dX10_equateTerms_29 rfl (nI_1 k) (by decide) ?_
        refine V.goto C 2 dX10_equateTerms_32 rfl ?_
        refine V.lvs (lv' := [(0, Rf G 123), (1, .int (nI i)), (2, .int (nI (k + 1)))]) rfl ?_
        exact ih (k + 1) σ26 (by omega) (by omega) pp_26.1 (hF1.trans pp_26.2)
  refine V.iconst C (nI 0) c_0 dX10_equateTerms_0 ?_
  refine V.istore_n C 2 dX10_equateTerms_1 rfl (by decide) ?_
  refine V.lvs (lv' := [(0, Rf G 123), (1, .int (nI i)), (2, .int (nI 0))]) rfl ?_
  exact loop (s.1 + 1) 0 σ (by omega) (by omega) hU (FM.refl _ _ _)
