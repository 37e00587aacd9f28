/-! Cuts.cut: the least closed set. -/
def C1s (P : Prob) (K : Nat → Bool) (n : Nat) : Prop := ∀ j, j < n → ∀ s, P.2.1[j]? = some s → Cl1 P.1 s.1 s.2.1 K ∧ Cl1 P.1 s.1 s.2.2 K
def C2s (P : Prob) (K : Nat → Bool) (n : Nat) : Prop := ∀ j, j < n → ∀ s, P.2.1[j]? = some s → Cl2 s.1 s.2.1 s.2.2 K ∧ Cl2 s.1 s.2.2 s.2.1 K
theorem C1s.mono {P : Prob} {K K' : Nat → Bool} {n : Nat} (h : C1s P K n) (hm : ∀ x, K x = true → K' x = true) : C1s P K' n := fun j hj s hs => ⟨(h j hj s hs).1.mono hm, (h j hj s hs).2.mono hm⟩
theorem Closed.of {P : Prob} {K : Nat → Bool} (h1 : C1s P K P.2.1.length) (h2 : C2s P K P.2.1.length) : Closed P K := fun i s hi => by
  have hl := (List.getElem?_eq_some_iff.mp hi).1
  exact ⟨(h1 i hl s hi).1, (h1 i hl s hi).2, (h2 i hl s hi).1, (h2 i hl s hi).2⟩
theorem no_mono {K K' : Nat → Bool} (hm : ∀ x, K x = true → K' x = true) {x : Nat} (h : K' x = false) : K x = false := by
  cases hq : K x with
  | false => rfl
  | true => exact absurd (h.symm.trans (hm x hq)) (by decide)
theorem get_some {P : Prob} {i : Nat} (h : i < P.2.1.length) : ∃ s, P.2.1[i]? = some s := ⟨_, List.getElem?_eq_getElem h⟩
set_option maxRecDepth 100000 in
set_option maxHeartbeats 4000000 in
theorem ct_Cu_cut (G : Gl) (σ : SS) (P : Prob) (hP : RP σ 9 P) (hW : wfP P) : CV G mX1_cut [Rf G 111, Rf G 9] σ (fun σ1 => ∃ K, RK σ1 K ∧ Closed P K ∧ Snd P K ∧ Fr 112 113 σ σ1) := by
  refine Ctr.of oX1_cut (Nat.le_of_ble_eq_true rfl) ?_
  intro X C R hnm hz0
  have C : Cx G X cX1_cut 7 RX1 4 94 0 0 := C
  have R : Cr G X none 0 0 _ := R
  show V G X 7 0 0 0 [(0, Rf G 111), (1, Rf G 9)] [] (wld G σ)
  have kk_111 := sk_111
  have kk_112 := sk_112
  have kk_9 := sk_9
  have kk_11 := sk_11
  have hS := SA_11
  have hlc : P.2.1.length ≤ 10 := hP.2.1.2.2.1
  have rounds : ∀ (m round : Nat) (ch : Bool) (K : Nat → Bool) (σ1 : SS), 128 < round + m → round ≤ 128 → RK σ1 K → Snd P K → C1s P K P.2.1.length → (ch = true → round ≤ cntN K 128) → (ch = false → C2s P K P.2.1.length) → Fr 112 113 σ σ1 → V G X 7 0 0 45 [(0, Rf G 111), (1, Rf G 9), (2, .int (bI ch)), (3, .int (nI round))] [] (wld G σ1) := by
    intro m
    induction m with
    | zero =>
      intro round ch K σ1 hm hr hRK1 hsn1 hC1 hround hC2 hF1
      exact absurd hm (by omega)
    | succ m ih =>
      intro round ch K σ1 hm hr hRK1 hsn1 hC1 hround hC2 hF1
      refine V.iload_n C 3 rfl rfl dX1_cut_45 ?_
      refine V.sipush C (nI 128) s_128 dX1_cut_46 ?_
      refine V.icmp_ge C 133 dX1_cut_49 rfl (fun hb_49 => ?_) (fun hb_49 => ?_)
      · have hr8 : round = 128 := by have := (nI_leI (by decide) (by omega)).mp hb_49; omega
        exact V.vretS C R dX1_cut_133 (by
  cases hch : ch with
  | false => exact ⟨K, hRK1, Closed.of hC1 (hC2 hch), hsn1, hF1⟩
  | true =>
    have h0_ : K 0 = false := by
      cases hq : K 0 with
      | false => rfl
      | true => exact absurd (hsn1.inn hW hq).2.1 (by decide)
    have h1_ := cntN_miss (n := 128) (show 0 < 128 by decide) h0_
    have h2_ := hround hch
    exact absurd h2_ (by omega))
      · have hr8 : round < 128 := Nat.lt_of_not_le (fun q => hb_49 (nI_le q (by omega)))
        refine V.iload_n C 2 rfl rfl dX1_cut_52 ?_
        refine V.if_eq C 133 dX1_cut_53 rfl (fun hb_53 => ?_) (fun hb_53 => ?_)
        · have hch := bI_eq0 hb_53
          exact V.vretS C R dX1_cut_133 ⟨K, hRK1, Closed.of hC1 (hC2 hch), hsn1, hF1⟩
        · have hch := bI_ne0 hb_53
          have loopE : ∀ (me e : Nat) (ch2 : Bool) (Kk : Nat → Bool) (σ2 : SS), P.2.1.length < e + me → e ≤ P.2.1.length → RK σ2 Kk → (∀ x, K x = true → Kk x = true) → Snd P Kk → (ch2 = false → Kk = K ∧ C2s P K e) → (ch2 = true → ∃ x, x < 128 ∧ K x = false ∧ Kk x = true) → Fr 112 113 σ σ2 → V G X 7 0 0 61 [(0, Rf G 111), (1, Rf G 9), (2, .int (bI ch2)), (3, .int (nI round)), (4, .int (nI e))] [] (wld G σ2) := by
            intro me
            induction me with
            | zero =>
              intro e ch2 Kk σ2 hm he
              exact absurd hm (by omega)
            | succ me ihe =>
              intro e ch2 Kk σ2 hm he hRK hle hsn hno hyes hF2
              have hP2 := hP.fr hF2 (by omega)
              refine V.iload C rfl dX1_cut_61 ?_
              refine V.aload_n C 1 rfl rfl dX1_cut_63 ?_
              refine V.getR C fX1_27 dX1_cut_64 (by assumption) rfl ?_
              refine V.cVi C lX1_33 oX6_count dX1_cut_67 (ct_St_count G σ2 11 10 hS) (by assumption) rfl rfl (Nat.le_of_ble_eq_true rfl) ⟨Nat.le_of_ble_eq_true rfl, Nat.le_of_ble_eq_true rfl⟩ ⟨Nat.le_of_ble_eq_true rfl, Nat.le_of_ble_eq_true rfl⟩ (fun rr_67 σ67 pp_67 => ?_)
              obtain ⟨ee_67, ff_67⟩ := pp_67
              rw [ee_67, ff_67, hP2.2.1.2.1]
              refine V.icmp_ge C 127 dX1_cut_70 rfl (fun hb_70 => ?_) (fun hb_70 => ?_)
              · have he8 : e = P.2.1.length := by have := (nI_leI (by omega) (by omega)).mp hb_70; omega
                refine V.iinc C (nI (round + 1)) dX1_cut_127 rfl (nI_1 round) (by decide) ?_
                refine V.goto C 45 dX1_cut_130 rfl ?_
                refine V.lvs (lv' := [(0, Rf G 111), (1, Rf G 9), (2, .int (bI ch2)), (3, .int (nI (round + 1)))]) rfl ?_
                refine ih (round + 1) ch2 Kk σ2 (by omega) (by omega) hRK hsn (hC1.mono hle) (fun h => ?_) (fun h => ?_) hF2
                · obtain ⟨x_, x1_, x2_, x3_⟩ := hyes h
                  have := cntN_lt (n := 128) (fun i _ h => hle i h) x1_ x2_ x3_
                  have := hround hch
                  omega
                · obtain ⟨q0_, g0_⟩ := hno h
                  rw [q0_]; rw [he8] at g0_; exact g0_
              · have he8 : e < P.2.1.length := Nat.lt_of_not_le (fun q => hb_70 (nI_le q (by omega)))
                obtain ⟨s, hs_⟩ := get_some he8
                refine V.aload_n C 0 rfl rfl dX1_cut_73 ?_
                refine V.aload_n C 1 rfl rfl dX1_cut_74 ?_
                refine V.getR C fX1_27 dX1_cut_75 (by assumption) rfl ?_
                refine V.iload C rfl dX1_cut_78 ?_
                refine V.iconst C (nI 1) c_1 dX1_cut_80 ?_
                refine V.iconst C (nI 0) c_0 dX1_cut_81 ?_
                refine V.cVi C lX1_43 oX1_spread dX1_cut_82 (ct_Cu_spread G σ2 e 0 Kk P s hRK hP2 hW hs_ (by omega)) (by assumption) rfl rfl (Nat.le_of_ble_eq_true rfl) ⟨Nat.le_of_ble_eq_true rfl, Nat.le_of_ble_eq_true rfl⟩ ⟨Nat.le_of_ble_eq_true rfl, Nat.le_of_ble_eq_true rfl⟩ (fun rr_82 σ82 pp_82 => ?_)
                obtain ⟨c0_, K1, ee_82, r1_, m1_, s1_, n1_, y1_, f1_⟩ := pp_82
                rw [ee_82]
                have hP3 := hP2.fr f1_ (by omega)
                refine V.istore C dX1_cut_85 (by decide) ?_
                refine V.aload_n C 0 rfl rfl dX1_cut_87 ?_
                refine V.aload_n C 1 rfl rfl dX1_cut_88 ?_
                refine V.getR C fX1_27 dX1_cut_89 (by assumption) rfl ?_
                refine V.iload C rfl dX1_cut_92 ?_
                refine V.iconst C (nI 0) c_0 dX1_cut_94 ?_
                refine V.iconst C (nI 1) c_1 dX1_cut_95 ?_
                refine V.cVi C lX1_43 oX1_spread dX1_cut_96 (ct_Cu_spread G σ82 e 1 K1 P s r1_ hP3 hW hs_ (by omega)) (by assumption) rfl rfl (Nat.le_of_ble_eq_true rfl) ⟨Nat.le_of_ble_eq_true rfl, Nat.le_of_ble_eq_true rfl⟩ ⟨Nat.le_of_ble_eq_true rfl, Nat.le_of_ble_eq_true rfl⟩ (fun rr_96 σ96 pp_96 => ?_)
                obtain ⟨c1_, K2, ee_96, r2_, m2_, s2_, n2_, y2_, f2_⟩ := pp_96
                rw [ee_96]
                refine V.istore C dX1_cut_99 (by decide) ?_
                refine V.iload_n C 2 rfl rfl dX1_cut_101 ?_
                refine V.if_ne C 115 dX1_cut_102 rfl (fun hb_102 => ?_) (fun hb_102 => ?_)
                · have h1_ := bI_ne0 hb_102
                  refine V.iconst C (nI 1) c_1 dX1_cut_115 ?_
                  refine V.goto C 120 dX1_cut_116 rfl ?_
                  refine V.istore_n C 2 dX1_cut_120 rfl (by decide) ?_
                  refine V.iinc C (nI (e + 1)) dX1_cut_121 rfl (nI_1 e) (by decide) ?_
                  refine V.goto C 61 dX1_cut_124 rfl ?_
                  refine V.lvs (lv' := [(0, Rf G 111), (1, Rf G 9), (2, .int (bI true)), (3, .int (nI round)), (4, .int (nI (e + 1)))]) rfl ?_
                  refine ihe (e + 1) true K2 σ96 (by omega) (by omega) r2_ (fun x h => m2_ x (m1_ x (hle x h))) (s2_ (s1_ hsn)) (fun h => absurd h (by decide)) (fun _ => ?_) ((hF2.trans f1_).trans f2_)
                  obtain ⟨x_, x1_, x2_, x3_⟩ := hyes h1_
                  exact ⟨x_, x1_, x2_, m2_ _ (m1_ _ x3_)⟩
                · have h1_ := bI_eq0 hb_102
                  refine V.iload C rfl dX1_cut_105 ?_
                  refine V.if_ne C 115 dX1_cut_107 rfl (fun hb_107 => ?_) (fun hb_107 => ?_)
                  · have h2_ := bI_ne0 hb_107
                    refine V.iconst C (nI 1) c_1 dX1_cut_115 ?_
                    refine V.goto C 120 dX1_cut_116 rfl ?_
                    refine V.istore_n C 2 dX1_cut_120 rfl (by decide) ?_
                    refine V.iinc C (nI (e + 1)) dX1_cut_121 rfl (nI_1 e) (by decide) ?_
                    refine V.goto C 61 dX1_cut_124 rfl ?_
                    refine V.lvs (lv' := [(0, Rf G 111), (1, Rf G 9), (2, .int (bI true)), (3, .int (nI round)), (4, .int (nI (e + 1)))]) rfl ?_
                    refine ihe (e + 1) true K2 σ96 (by omega) (by omega) r2_ (fun x h => m2_ x (m1_ x (hle x h))) (s2_ (s1_ hsn)) (fun h => absurd h (by decide)) (fun _ => ?_) ((hF2.trans f1_).trans f2_)
                    obtain ⟨x_, x1_, x2_, x3_⟩ := y1_ h2_
                    exact ⟨x_, x1_, no_mono hle x2_, m2_ _ x3_⟩
                  · have h2_ := bI_eq0 hb_107
                    refine V.iload C rfl dX1_cut_110 ?_
                    refine V.if_eq C 119 dX1_cut_112 rfl (fun hb_112 => ?_) (fun hb_112 => ?_)
                    · have h3_ := bI_eq0 hb_112
                      refine V.iconst C (nI 0) c_0 dX1_cut_119 ?_
                      refine V.istore_n C 2 dX1_cut_120 rfl (by decide) ?_
                      refine V.iinc C (nI (e + 1)) dX1_cut_121 rfl (nI_1 e) (by decide) ?_
                      refine V.goto C 61 dX1_cut_124 rfl ?_
                      refine V.lvs (lv' := [(0, Rf G 111), (1, Rf G 9), (2, .int (bI false)), (3, .int (nI round)), (4, .int (nI (e + 1)))]) rfl ?_
                      obtain ⟨q1_, g1_⟩ := n1_ h2_
                      obtain ⟨q2_, g2_⟩ := n2_ h3_
                      obtain ⟨q0_, g0_⟩ := hno h1_
                      subst q1_
                      subst q2_
                      subst q0_
                      refine ihe (e + 1) false K2 σ96 (by omega) (by omega) r2_ (fun _ h => h) hsn (fun _ => ⟨rfl, fun j hj s' hs' => ?_⟩) (fun h => absurd h (by decide)) ((hF2.trans f1_).trans f2_)
                      rcases Nat.lt_or_ge j e with q_ | q_
                      · exact g0_ j q_ s' hs'
                      · have e_ : j = e := by omega
                        subst e_
                        rw [hs_] at hs'
                        cases hs'
                        exact ⟨g2_, g1_⟩
                    · have h3_ := bI_ne0 hb_112
                      refine V.iconst C (nI 1) c_1 dX1_cut_115 ?_
                      refine V.goto C 120 dX1_cut_116 rfl ?_
                      refine V.istore_n C 2 dX1_cut_120 rfl (by decide) ?_
                      refine V.iinc C (nI (e + 1)) dX1_cut_121 rfl (nI_1 e) (by decide) ?_
                      refine V.goto C 61 dX1_cut_124 rfl ?_
                      refine V.lvs (lv' := [(0, Rf G 111), (1, Rf G 9), (2, .int (bI true)), (3, .int (nI round)), (4, .int (nI (e + 1)))]) rfl ?_
                      refine ihe (e + 1) true K2 σ96 (by omega) (by omega) r2_ (fun x h => m2_ x (m1_ x (hle x h))) (s2_ (s1_ hsn)) (fun h => absurd h (by decide)) (fun _ => ?_) ((hF2.trans f1_).trans f2_)
                      obtain ⟨x_, x1_, x2_, x3_⟩ := y2_ h3_
                      exact ⟨x_, x1_, no_mono (fun x h => m1_ x (hle x h)) x2_, x3_⟩
          refine V.iconst C (nI 0) c_0 dX1_cut_56 ?_
          refine V.istore_n C 2 dX1_cut_57 rfl (by decide) ?_
          refine V.iconst C (nI 0) c_0 dX1_cut_58 ?_
          refine V.istore C dX1_cut_59 (by decide) ?_
          refine V.lvs (lv' := [(0, Rf G 111), (1, Rf G 9), (2, .int (bI false)), (3, .int (nI round)), (4, .int (nI 0))]) rfl ?_
          exact loopE (P.2.1.length + 1) 0 false K σ1 (by omega) (by omega) hRK1 (fun _ h => h) hsn1 (fun _ => ⟨rfl, fun j hj => absurd hj (by omega)⟩) (fun h => absurd h (by decide)) hF1
  have loop : ∀ (m e : Nat) (K : Nat → Bool) (σ1 : SS), P.2.1.length < e + m → e ≤ P.2.1.length → RK σ1 K → Snd P K → C1s P K e → Fr 112 113 σ σ1 → V G X 7 0 0 10 [(0, Rf G 111), (1, Rf G 9), (2, .int (nI e))] [] (wld G σ1) := by
    intro m
    induction m with
    | zero =>
      intro e K σ1 hm he hRK hsn hC1 hF
      exact absurd hm (by omega)
    | succ m ih =>
      intro e K σ1 hm he hRK hsn hC1 hF
      have hP1 := hP.fr hF (by omega)
      refine V.iload_n C 2 rfl rfl dX1_cut_10 ?_
      refine V.aload_n C 1 rfl rfl dX1_cut_11 ?_
      refine V.getR C fX1_27 dX1_cut_12 (by assumption) rfl ?_
      refine V.cVi C lX1_33 oX6_count dX1_cut_15 (ct_St_count G σ1 11 10 hS) (by assumption) rfl rfl (Nat.le_of_ble_eq_true rfl) ⟨Nat.le_of_ble_eq_true rfl, Nat.le_of_ble_eq_true rfl⟩ ⟨Nat.le_of_ble_eq_true rfl, Nat.le_of_ble_eq_true rfl⟩ (fun rr_15 σ15 pp_15 => ?_)
      obtain ⟨ee_15, ff_15⟩ := pp_15
      rw [ee_15, ff_15, hP1.2.1.2.1]
      refine V.icmp_ge C 41 dX1_cut_18 rfl (fun hb_18 => ?_) (fun hb_18 => ?_)
      · have he8 : e = P.2.1.length := by have := (nI_leI (by omega) (by omega)).mp hb_18; omega
        refine V.iconst C (nI 1) c_1 dX1_cut_41 ?_
        refine V.istore_n C 2 dX1_cut_42 rfl (by decide) ?_
        refine V.iconst C (nI 0) c_0 dX1_cut_43 ?_
        refine V.istore_n C 3 dX1_cut_44 rfl (by decide) ?_
        refine V.lvs (lv' := [(0, Rf G 111), (1, Rf G 9), (2, .int (bI true)), (3, .int (nI 0))]) rfl ?_
        exact rounds 129 0 true K σ1 (by omega) (by omega) hRK hsn (by rw [← he8]; exact hC1) (fun _ => Nat.zero_le _) (fun h => absurd h (by decide)) hF
      · have he8 : e < P.2.1.length := Nat.lt_of_not_le (fun q => hb_18 (nI_le q (by omega)))
        obtain ⟨s, hs_⟩ := get_some he8
        refine V.aload_n C 0 rfl rfl dX1_cut_21 ?_
        refine V.aload_n C 1 rfl rfl dX1_cut_22 ?_
        refine V.iload_n C 2 rfl rfl dX1_cut_23 ?_
        refine V.iconst C (nI 0) c_0 dX1_cut_24 ?_
        refine V.cVv C lX1_39 oX1_cutAroundParts dX1_cut_25 (ct_Cu_around G σ1 e 0 K P s hRK hP1 hW hs_ (by omega)) (by assumption) rfl rfl (Nat.le_of_ble_eq_true rfl) ⟨Nat.le_of_ble_eq_true rfl, Nat.le_of_ble_eq_true rfl⟩ ⟨Nat.le_of_ble_eq_true rfl, Nat.le_of_ble_eq_true rfl⟩ (fun σ25 pp_25 => ?_)
        obtain ⟨K1, r1_, m1_, s1_, c1_, f1_⟩ := pp_25
        have hP2 := hP1.fr f1_ (by omega)
        refine V.aload_n C 0 rfl rfl dX1_cut_28 ?_
        refine V.aload_n C 1 rfl rfl dX1_cut_29 ?_
        refine V.iload_n C 2 rfl rfl dX1_cut_30 ?_
        refine V.iconst C (nI 1) c_1 dX1_cut_31 ?_
        refine V.cVv C lX1_39 oX1_cutAroundParts dX1_cut_32 (ct_Cu_around G σ25 e 1 K1 P s r1_ hP2 hW hs_ (by omega)) (by assumption) rfl rfl (Nat.le_of_ble_eq_true rfl) ⟨Nat.le_of_ble_eq_true rfl, Nat.le_of_ble_eq_true rfl⟩ ⟨Nat.le_of_ble_eq_true rfl, Nat.le_of_ble_eq_true rfl⟩ (fun σ32 pp_32 => ?_)
        obtain ⟨K2, r2_, m2_, s2_, c2_, f2_⟩ := pp_32
        refine V.iinc C (nI (e + 1)) dX1_cut_35 rfl (nI_1 e) (by decide) ?_
        refine V.goto C 10 dX1_cut_38 rfl ?_
        refine V.lvs (lv' := [(0, Rf G 111), (1, Rf G 9), (2, .int (nI (e + 1)))]) rfl ?_
        refine ih (e + 1) K2 σ32 (by omega) (by omega) r2_ (s2_ (s1_ hsn)) (fun j hj s' hs' => ?_) ((hF.trans f1_).trans f2_)
        rcases Nat.lt_or_ge j e with q_ | q_
        · exact (hC1.mono (fun x h => m2_ x (m1_ x h))) j q_ s' hs'
        · have e_ : j = e := by omega
          subst e_
          rw [hs_] at hs'
          cases hs'
          exact ⟨Cl1.mono c1_ m2_, c2_⟩
  refine V.aload_n C 0 rfl rfl dX1_cut_0 ?_
  refine V.getR C fX1_9 dX1_cut_1 (by assumption) rfl ?_
  refine V.iconst C (nI 0) c_0 dX1_cut_4 ?_
  refine V.cSv C lX1_21 oJ7_fill_53178 dX1_cut_5 (ct_fillI G σ 112 8 (nI 0) kk_112 (by decide)) rfl rfl (Nat.le_of_ble_eq_true rfl) ⟨Nat.le_of_ble_eq_true rfl, Nat.le_of_ble_eq_true rfl⟩ ⟨Nat.le_of_ble_eq_true rfl, Nat.le_of_ble_eq_true rfl⟩ (fun σ5 pp_5 => ?_)
  refine V.iconst C (nI 0) c_0 dX1_cut_8 ?_
  refine V.istore_n C 2 dX1_cut_9 rfl (by decide) ?_
  refine V.lvs (lv' := [(0, Rf G 111), (1, Rf G 9), (2, .int (nI 0))]) rfl ?_
  refine loop (P.2.1.length + 1) 0 (fun _ => false) σ5 (by omega) (by omega) (fun v b hv hb => ?_) (fun K' _ x h => Bool.noConfusion h) (fun j hj => absurd hj (by omega)) (by rw [pp_5]; exact (Fr.refl _ _ _).sA _ (by omega) (by omega))
  rw [pp_5, sA_A, if_pos hv, nI_0, b_0]; simp
