/-! The solver: what holds between two calls; slice, tryEquations, chosenModel. -/
/-- all cells but those from a on stay; of the solver's own, which slots are filled -/
def FQ (a : Nat) (σ σ1 : SS) : Prop := (∀ k, 0 < k → (k < a ∨ 123 ≤ k) → σ1.1 k = σ.1 k ∧ σ1.2.1 k = σ.2.1 k ∧ σ1.2.2.1 k = σ.2.2.1 k) ∧ σ1.1 0 7 = σ.1 0 7 ∧ σ1.2.2.2 = σ.2.2.2
theorem FQ.refl (a : Nat) (σ : SS) : FQ a σ σ := ⟨fun _ _ _ => ⟨rfl, rfl, rfl⟩, rfl, rfl⟩
theorem FQ.trans {a : Nat} {σ σ1 σ2 : SS} (h1 : FQ a σ σ1) (h2 : FQ a σ1 σ2) : FQ a σ σ2 :=
  ⟨fun k h0 hk => ⟨(h2.1 k h0 hk).1.trans (h1.1 k h0 hk).1, (h2.1 k h0 hk).2.1.trans (h1.1 k h0 hk).2.1, (h2.1 k h0 hk).2.2.trans (h1.1 k h0 hk).2.2⟩, h2.2.1.trans h1.2.1, h2.2.2.trans h1.2.2⟩
theorem FQ.mono {a b : Nat} {σ σ1 : SS} (h : FQ a σ σ1) (hb : b ≤ a) : FQ b σ σ1 := ⟨fun k h0 hk => h.1 k h0 (by omega), h.2⟩
theorem Fr.q {a b c : Nat} {σ σ1 : SS} (h : Fr a b σ σ1) (h0 : 0 < c) (h1 : c ≤ a) (h2 : b ≤ 123) : FQ c σ σ1 := ⟨fun k _ hk => h.1 k (by omega), by rw [(h.1 0 (by omega)).1], h.2⟩
theorem FQ.s12 {a : Nat} {σ σ1 : SS} (h : FQ a σ σ1) (v : Int32) : FQ a σ (sF σ1 0 12 v) :=
  ⟨fun k h0 hk => ⟨by rw [sF_row _ _ _ (by omega)]; exact (h.1 k h0 hk).1, (h.1 k h0 hk).2.1, (h.1 k h0 hk).2.2⟩, by rw [sF_ne _ _ (by omega)]; exact h.2.1, h.2.2⟩
/-- the model that is kept, where it is current -/
def IMo (σ : SS) (P : Prob) : Prop := ∃ b, σ.1 0 12 = bI b ∧ (b = true → RMo σ (chW P) ∧ ∀ os, chW P = some os → ∀ r, r ∈ os → (ufAll uf0 P.2.1).2.1 r = none)
def CInv (σ : SS) (P : Prob) : Prop := RP σ 9 P ∧ wfP P ∧ (∃ K, RK σ K ∧ Least P K) ∧ RCu σ 113 (ufAll uf0 P.2.1) ∧ IMo σ P
theorem RMo.same {σ σ1 : SS} {res : Option (List Nat)} (h : RMo σ res) (h1 : σ1.1 119 = σ.1 119) (h2 : σ1.2.1 122 = σ.2.1 122) : RMo σ1 res := by
  unfold RMo at *
  rw [h1, h2]; exact h
theorem IMo.fr {σ σ1 : SS} {P : Prob} {a b : Nat} (h : IMo σ P) (hF : Fr a b σ σ1) (h1 : 0 < a) (h2 : b ≤ 119) : IMo σ1 P := by
  obtain ⟨c, hc, hm⟩ := h
  exact ⟨c, by rw [hF.F (k := 0) (by omega)]; exact hc, fun q => ⟨(hm q).1.same (hF.F (by omega)) (hF.A (by omega)), (hm q).2⟩⟩
theorem CInv.cls {σ σ1 : SS} {P : Prob} (h : CInv σ P) (hU : RCu σ1 113 (ufAll uf0 P.2.1)) (hF : Fr 113 119 σ σ1) : CInv σ1 P := by
  obtain ⟨h1, h2, ⟨K, hK, hL⟩, h4, h5⟩ := h
  exact ⟨h1.fr hF (by omega), h2, ⟨K, hK.fr hF (by omega), hL⟩, hU, h5.fr hF (by omega) (by omega)⟩
theorem CInv.tri {σ σ1 : SS} {P : Prob} (h : CInv σ P) (hF : Fr 116 119 σ σ1) : CInv σ1 P := h.cls (h.2.2.2.1.fr hF (by omega)) (hF.mono (by omega) (by omega))
theorem ufAll_take {u : UF} {l : List Stm} {n : Nat} {s : Stm} (h : l[n]? = some s) : ufAll u (l.take (n + 1)) = ufStm (ufAll u (l.take n)) s := by
  unfold ufAll
  rw [List.take_succ, h, List.foldl_append]; rfl
theorem CInv.eq {σ : SS} {P : Prob} (h : CInv σ P) : σ.1 11 1 = nI P.2.1.length := h.1.2.1.2.1
theorem CInv.di {σ : SS} {P : Prob} (h : CInv σ P) : σ.1 15 1 = nI P.2.2.length := h.1.2.2.2.1
set_option maxRecDepth 100000 in
set_option maxHeartbeats 4000000 in
theorem ct_S_slice (G : Gl) (σ : SS) (P : Prob) (hP : RP σ 9 P) (hW : wfP P) : CV G mX9_slice [Rf G 0] σ (fun σ1 => CInv σ1 P ∧ FQ 112 σ σ1) := by
  refine Ctr.of oX9_slice (Nat.le_of_ble_eq_true rfl) ?_
  intro X C R hnm hz0
  have C : Cx G X cX9_slice 2 RX9 5 120 0 0 := C
  have R : Cr G X none 0 0 _ := R
  show V G X 2 0 0 0 [(0, Rf G 0)] [] (wld G σ)
  have kk_0 := sk_0
  have kk_1 := sk_1
  have kk_9 := sk_9
  have kk_11 := sk_11
  have kk_15 := sk_15
  have kk_19 := sk_19
  have kk_29 := sk_29
  have kk_91 := sk_91
  have kk_101 := sk_101
  have kk_111 := sk_111
  have kk_113 := sk_113
  have kk_116 := sk_116
  have kk_119 := sk_119
  have l10_ := hW.2.1
  have loop : ∀ (K : Nat → Bool), Least P K → ∀ (m e : Nat) (σ1 : SS), P.2.1.length < e + m → e ≤ P.2.1.length → RCu σ1 113 (ufAll uf0 (P.2.1.take e)) → RP σ1 9 P → RK σ1 K → Fr 112 116 σ σ1 → V G X 2 0 0 20 [(0, Rf G 0), (1, .int (nI e))] [] (wld G σ1) := by
    intro K hL m
    induction m with
    | zero =>
      intro e σ1 hm he hU1 hP1 hK1 hF1
      exact absurd hm (by omega)
    | succ m ih =>
      intro e σ1 hm he hU1 hP1 hK1 hF1
      refine V.iload_n C 1 rfl rfl dX9_slice_20 ?_
      refine V.aload_n C 0 rfl rfl dX9_slice_21 ?_
      refine V.getR C fX9_28 dX9_slice_22 (by assumption) rfl ?_
      refine V.getR C fX9_112 dX9_slice_25 (by assumption) rfl ?_
      refine V.cVi C lX9_126 oX6_count dX9_slice_28 (ct_St_count G σ1 11 10 SA_11) (by assumption) rfl rfl (Nat.le_of_ble_eq_true rfl) ⟨Nat.le_of_ble_eq_true rfl, Nat.le_of_ble_eq_true rfl⟩ ⟨Nat.le_of_ble_eq_true rfl, Nat.le_of_ble_eq_true rfl⟩ (fun rr_28 σ28 pp_28 => ?_)
      obtain ⟨ee_28, ff_28⟩ := pp_28
      rw [ee_28, ff_28]
      rw [show σ1.1 11 1 = nI P.2.1.length from hP1.2.1.2.1]
      refine V.icmp_ge C 55 dX9_slice_31 rfl (fun hb_31 => ?_) (fun hb_31 => ?_)
      · have he8 : e = P.2.1.length := by have := (nI_leI (by omega) (by omega)).mp hb_31; omega
        refine V.aload_n C 0 rfl rfl dX9_slice_55 ?_
        refine V.iconst C (nI 0) c_0 dX9_slice_56 ?_
        refine V.putZ C fX9_76 dX9_slice_57 (by assumption) rfl (by first | exact Or.inl rfl | exact Or.inr rfl | exact bI01 _) ?_
        exact V.vretS C R dX9_slice_60 (by
          rw [he8, List.take_length] at hU1
          have hF0_ : Fr 0 1 σ1 (sF σ1 0 12 (nI 0)) := (Fr.refl 0 1 σ1).sF _ _ (by omega) (by omega)
          exact ⟨⟨hP1.fr hF0_ (by omega), hW, ⟨K, hK1.fr hF0_ (by omega), hL⟩, hU1.fr hF0_ (by omega), ⟨false, sF_F _ _ _ _, fun q => by cases q⟩⟩, ((hF1.q (c := 112) (by omega) (by omega) (by omega)).s12 _)⟩)
      · have he8 : e < P.2.1.length := Nat.lt_of_not_le (fun q => hb_31 (nI_le q (by omega)))
        obtain ⟨s, hs_⟩ := get_some he8
        refine V.aload_n C 0 rfl rfl dX9_slice_34 ?_
        refine V.getR C fX9_58 dX9_slice_35 (by assumption) rfl ?_
        refine V.aload_n C 0 rfl rfl dX9_slice_38 ?_
        refine V.getR C fX9_28 dX9_slice_39 (by assumption) rfl ?_
        refine V.getR C fX9_112 dX9_slice_42 (by assumption) rfl ?_
        refine V.iload_n C 1 rfl rfl dX9_slice_45 ?_
        refine V.cVv C lX9_169 oX0_equate dX9_slice_46 (ct_Cl_equate G σ1 113 11 10 e (ufAll uf0 (P.2.1.take e)) P.2.1 s ClA_113 SA_11 hU1 hP1.2.1 hs_ (hW.okL1 e s hs_) (by omega)) (by assumption) rfl rfl (Nat.le_of_ble_eq_true rfl) ⟨Nat.le_of_ble_eq_true rfl, Nat.le_of_ble_eq_true rfl⟩ ⟨Nat.le_of_ble_eq_true rfl, Nat.le_of_ble_eq_true rfl⟩ (fun σ46 pp_46 => ?_)
        refine V.iinc C (nI (e + 1)) dX9_slice_49 rfl (nI_1 e) (by decide) ?_
        refine V.goto C 20 dX9_slice_52 rfl ?_
        refine V.lvs (lv' := [(0, Rf G 0), (1, .int (nI (e + 1)))]) rfl ?_
        exact ih (e + 1) σ46 (by omega) (by omega) (by rw [ufAll_take hs_]; exact pp_46.1) (hP1.fr pp_46.2 (by omega)) (hK1.fr pp_46.2 (by omega)) (hF1.trans (pp_46.2.mono (by omega) (by omega)))
  refine V.aload_n C 0 rfl rfl dX9_slice_0 ?_
  refine V.getR C fX9_51 dX9_slice_1 (by assumption) rfl ?_
  refine V.aload_n C 0 rfl rfl dX9_slice_4 ?_
  refine V.getR C fX9_28 dX9_slice_5 (by assumption) rfl ?_
  refine V.cVv C lX9_206 oX1_cut dX9_slice_8 (ct_Cu_cut G σ P hP hW) (by assumption) rfl rfl (Nat.le_of_ble_eq_true rfl) ⟨Nat.le_of_ble_eq_true rfl, Nat.le_of_ble_eq_true rfl⟩ ⟨Nat.le_of_ble_eq_true rfl, Nat.le_of_ble_eq_true rfl⟩ (fun σ8 pp_8 => ?_)
  obtain ⟨K, hK_, hC_, hS_, F8_⟩ := pp_8
  refine V.aload_n C 0 rfl rfl dX9_slice_11 ?_
  refine V.getR C fX9_58 dX9_slice_12 (by assumption) rfl ?_
  refine V.cVv C lX9_168 oX0_clear dX9_slice_15 (ct_Cl_clear G σ8 113 ClA_113) (by assumption) rfl rfl (Nat.le_of_ble_eq_true rfl) ⟨Nat.le_of_ble_eq_true rfl, Nat.le_of_ble_eq_true rfl⟩ ⟨Nat.le_of_ble_eq_true rfl, Nat.le_of_ble_eq_true rfl⟩ (fun σ15 pp_15 => ?_)
  refine V.iconst C (nI 0) c_0 dX9_slice_18 ?_
  refine V.istore_n C 1 dX9_slice_19 rfl (by decide) ?_
  refine V.lvs (lv' := [(0, Rf G 0), (1, .int (nI 0))]) rfl ?_
  exact loop K ⟨hC_, hS_⟩ (P.2.1.length + 1) 0 σ15 (by omega) (by omega) pp_15.1 ((hP.fr F8_ (by omega)).fr pp_15.2 (by omega)) (hK_.fr pp_15.2 (by omega)) ((F8_.mono (by omega) (by omega)).trans (pp_15.2.mono (by omega) (by omega)))
set_option maxRecDepth 100000 in
set_option maxHeartbeats 4000000 in
theorem ct_S_try (G : Gl) (σ : SS) (P : Prob) (set : Int32) (hC : CInv σ P) : CV G mX9_tryEquations [Rf G 0, .int set] σ (fun σ1 => RCu σ1 116 (ufSel P.2.1 (bt set) P.2.1.length) ∧ CInv σ1 P ∧ Fr 116 119 σ σ1) := by
  refine Ctr.of oX9_tryEquations (Nat.le_of_ble_eq_true rfl) ?_
  intro X C R hnm hz0
  have C : Cx G X cX9_tryEquations 3 RX9 4 91 0 0 := C
  have R : Cr G X none 0 0 _ := R
  show V G X 3 0 0 0 [(0, Rf G 0), (1, .int set)] [] (wld G σ)
  have kk_0 := sk_0
  have kk_1 := sk_1
  have kk_9 := sk_9
  have kk_11 := sk_11
  have kk_15 := sk_15
  have kk_19 := sk_19
  have kk_29 := sk_29
  have kk_91 := sk_91
  have kk_101 := sk_101
  have kk_111 := sk_111
  have kk_113 := sk_113
  have kk_116 := sk_116
  have kk_119 := sk_119
  have l10_ := hC.2.1.2.1
  have loop : ∀ (m e : Nat) (σ1 : SS), P.2.1.length < e + m → e ≤ P.2.1.length → RCu σ1 116 (ufSel P.2.1 (bt set) e) → CInv σ1 P → Fr 116 119 σ σ1 → V G X 3 0 0 9 [(0, Rf G 0), (1, .int set), (2, .int (nI e))] [] (wld G σ1) := by
    intro m
    induction m with
    | zero =>
      intro e σ1 hm he hU1 hC1 hF1
      exact absurd hm (by omega)
    | succ m ih =>
      intro e σ1 hm he hU1 hC1 hF1
      refine V.iload_n C 2 rfl rfl dX9_tryEquations_9 ?_
      refine V.aload_n C 0 rfl rfl dX9_tryEquations_10 ?_
      refine V.getR C fX9_28 dX9_tryEquations_11 (by assumption) rfl ?_
      refine V.getR C fX9_112 dX9_tryEquations_14 (by assumption) rfl ?_
      refine V.cVi C lX9_126 oX6_count dX9_tryEquations_17 (ct_St_count G σ1 11 10 SA_11) (by assumption) rfl rfl (Nat.le_of_ble_eq_true rfl) ⟨Nat.le_of_ble_eq_true rfl, Nat.le_of_ble_eq_true rfl⟩ ⟨Nat.le_of_ble_eq_true rfl, Nat.le_of_ble_eq_true rfl⟩ (fun rr_17 σ17 pp_17 => ?_)
      obtain ⟨ee_17, ff_17⟩ := pp_17
      rw [ee_17, ff_17]
      rw [hC1.eq]
      refine V.icmp_ge C 52 dX9_tryEquations_20 rfl (fun hb_20 => ?_) (fun hb_20 => ?_)
      · have he8 : e = P.2.1.length := by have := (nI_leI (by omega) (by omega)).mp hb_20; omega
        exact V.vretS C R dX9_tryEquations_52 ⟨by rw [← he8]; exact hU1, hC1, hF1⟩
      · have he8 : e < P.2.1.length := Nat.lt_of_not_le (fun q => hb_20 (nI_le q (by omega)))
        obtain ⟨s, hs_⟩ := get_some he8
        refine V.iload_n C 1 rfl rfl dX9_tryEquations_23 ?_
        refine V.iconst C (nI 1) c_1 dX9_tryEquations_24 ?_
        refine V.iload_n C 2 rfl rfl dX9_tryEquations_25 ?_
        refine V.ishl C dX9_tryEquations_26 ?_
        refine V.iand C dX9_tryEquations_27 ?_
        refine V.if_eq C 46 dX9_tryEquations_28 rfl (fun hb_28 => ?_) (fun hb_28 => ?_)
        · have zs_ : ¬ bt set e = true := by rw [(bt_test (by omega)).mp hb_28]; decide
          have en_ : ufSel P.2.1 (bt set) (e + 1) = ufSel P.2.1 (bt set) e := by
            show (if bt set e = true then _ else _) = _
            rw [if_neg zs_]
          refine V.iinc C (nI (e + 1)) dX9_tryEquations_46 rfl (nI_1 e) (by decide) ?_
          refine V.goto C 9 dX9_tryEquations_49 rfl ?_
          refine V.lvs (lv' := [(0, Rf G 0), (1, .int set), (2, .int (nI (e + 1)))]) rfl ?_
          exact ih (e + 1) σ1 (by omega) (by omega) (by rw [en_]; exact hU1) hC1 hF1
        · have zs_ : bt set e = true := by
            cases q : bt set e with
            | true => rfl
            | false => exact absurd ((bt_test (by omega)).mpr q) hb_28
          have en_ : ufSel P.2.1 (bt set) (e + 1) = ufStm (ufSel P.2.1 (bt set) e) s := by
            show (if bt set e = true then _ else _) = _
            rw [if_pos zs_, hs_]
          refine V.aload_n C 0 rfl rfl dX9_tryEquations_31 ?_
          refine V.getR C fX9_62 dX9_tryEquations_32 (by assumption) rfl ?_
          refine V.aload_n C 0 rfl rfl dX9_tryEquations_35 ?_
          refine V.getR C fX9_28 dX9_tryEquations_36 (by assumption) rfl ?_
          refine V.getR C fX9_112 dX9_tryEquations_39 (by assumption) rfl ?_
          refine V.iload_n C 2 rfl rfl dX9_tryEquations_42 ?_
          refine V.cVv C lX9_169 oX0_equate dX9_tryEquations_43 (ct_Cl_equate G σ1 116 11 10 e (ufSel P.2.1 (bt set) e) P.2.1 s ClA_116 SA_11 hU1 hC1.1.2.1 hs_ (hC1.2.1.okL1 e s hs_) (by omega)) (by assumption) rfl rfl (Nat.le_of_ble_eq_true rfl) ⟨Nat.le_of_ble_eq_true rfl, Nat.le_of_ble_eq_true rfl⟩ ⟨Nat.le_of_ble_eq_true rfl, Nat.le_of_ble_eq_true rfl⟩ (fun σ43 pp_43 => ?_)
          refine V.iinc C (nI (e + 1)) dX9_tryEquations_46 rfl (nI_1 e) (by decide) ?_
          refine V.goto C 9 dX9_tryEquations_49 rfl ?_
          refine V.lvs (lv' := [(0, Rf G 0), (1, .int set), (2, .int (nI (e + 1)))]) rfl ?_
          exact ih (e + 1) σ43 (by omega) (by omega) (by rw [en_]; exact pp_43.1) (hC1.tri pp_43.2) (hF1.trans pp_43.2)
  refine V.aload_n C 0 rfl rfl dX9_tryEquations_0 ?_
  refine V.getR C fX9_62 dX9_tryEquations_1 (by assumption) rfl ?_
  refine V.cVv C lX9_168 oX0_clear dX9_tryEquations_4 (ct_Cl_clear G σ 116 ClA_116) (by assumption) rfl rfl (Nat.le_of_ble_eq_true rfl) ⟨Nat.le_of_ble_eq_true rfl, Nat.le_of_ble_eq_true rfl⟩ ⟨Nat.le_of_ble_eq_true rfl, Nat.le_of_ble_eq_true rfl⟩ (fun σ4 pp_4 => ?_)
  refine V.iconst C (nI 0) c_0 dX9_tryEquations_7 ?_
  refine V.istore_n C 2 dX9_tryEquations_8 rfl (by decide) ?_
  refine V.lvs (lv' := [(0, Rf G 0), (1, .int set), (2, .int (nI 0))]) rfl ?_
  exact loop (P.2.1.length + 1) 0 σ4 (by omega) (by omega) pp_4.1 (hC.tri pp_4.2) pp_4.2
set_option maxRecDepth 100000 in
set_option maxHeartbeats 4000000 in
theorem ct_S_chosen (G : Gl) (σ : SS) (P : Prob) (hC : CInv σ P) : CR G mX9_chosenModel [Rf G 0] σ (fun r σ1 => r = 119 ∧ CInv σ1 P ∧ RMo σ1 (chW P) ∧ (∀ os, chW P = some os → ∀ r, r ∈ os → (ufAll uf0 P.2.1).2.1 r = none) ∧ FQ 113 σ σ1) := by
  refine Ctr.of oX9_chosenModel (Nat.le_of_ble_eq_true rfl) ?_
  intro X C R hnm hz0
  have C : Cx G X cX9_chosenModel 1 RX9 5 121 0 0 := C
  have R : Cr G X (some (.object "SliceSolver$Model")) 0 0 _ := R
  show V G X 1 0 0 0 [(0, Rf G 0)] [] (wld G σ)
  have kk_0 := sk_0
  have kk_1 := sk_1
  have kk_9 := sk_9
  have kk_11 := sk_11
  have kk_15 := sk_15
  have kk_19 := sk_19
  have kk_29 := sk_29
  have kk_91 := sk_91
  have kk_101 := sk_101
  have kk_111 := sk_111
  have kk_113 := sk_113
  have kk_116 := sk_116
  have kk_119 := sk_119
  refine V.aload_n C 0 rfl rfl dX9_chosenModel_0 ?_
  refine V.getI C fX9_76 dX9_chosenModel_1 (by assumption) rfl ?_
  obtain ⟨cb_, hcb_, hm_⟩ := hC.2.2.2.2
  rw [hcb_]
  refine V.if_ne C 30 dX9_chosenModel_4 rfl (fun hb_4 => ?_) (fun hb_4 => ?_)
  · have zb_ := bI_ne0 hb_4
    refine V.aload_n C 0 rfl rfl dX9_chosenModel_30 ?_
    refine V.getR C fX9_68 dX9_chosenModel_31 (by assumption) rfl ?_
    exact V.aretS C R dX9_chosenModel_34 ⟨rfl, hC, (hm_ zb_).1, (hm_ zb_).2, FQ.refl _ _⟩
  · have zb_ := bI_eq0 hb_4
    refine V.aload_n C 0 rfl rfl dX9_chosenModel_7 ?_
    refine V.getR C fX9_68 dX9_chosenModel_8 (by assumption) rfl ?_
    refine V.aload_n C 0 rfl rfl dX9_chosenModel_11 ?_
    refine V.getR C fX9_28 dX9_chosenModel_12 (by assumption) rfl ?_
    refine V.getR C fX9_129 dX9_chosenModel_15 (by assumption) rfl ?_
    refine V.aload_n C 0 rfl rfl dX9_chosenModel_18 ?_
    refine V.getR C fX9_58 dX9_chosenModel_19 (by assumption) rfl ?_
    refine V.cVv C lX9_209 oX3_choose dX9_chosenModel_22 (ct_Mo_choose G σ P.2.2 (ufAll uf0 P.2.1) hC.1.2.2 hC.2.1.okL2 hC.2.2.2.1) (by assumption) rfl rfl (Nat.le_of_ble_eq_true rfl) ⟨Nat.le_of_ble_eq_true rfl, Nat.le_of_ble_eq_true rfl⟩ ⟨Nat.le_of_ble_eq_true rfl, Nat.le_of_ble_eq_true rfl⟩ (fun σ22 pp_22 => ?_)
    obtain ⟨w1_, w2_, w3_, w4_⟩ := pp_22
    refine V.aload_n C 0 rfl rfl dX9_chosenModel_25 ?_
    refine V.iconst C (nI 1) c_1 dX9_chosenModel_26 ?_
    refine V.putZ C fX9_76 dX9_chosenModel_27 (by assumption) rfl (by first | exact Or.inl rfl | exact Or.inr rfl | exact bI01 _) ?_
    refine V.aload_n C 0 rfl rfl dX9_chosenModel_30 ?_
    refine V.getR C fX9_68 dX9_chosenModel_31 (by assumption) rfl ?_
    exact V.aretS C R dX9_chosenModel_34 (by
      have hp_ : RMo σ22 (chW P) ∧ ∀ os, chW P = some os → ∀ r, r ∈ os → (ufAll uf0 P.2.1).2.1 r = none := by
        cases hu_ : (ufAll uf0 P.2.1).2.2 with
        | true =>
          obtain ⟨w_, fl_, wi_, rm_⟩ := w1_ hu_
          have pk_ := pk_ch hC.2.1 hu_ ⟨_, hC.2.2.2.1.1.choose_spec.2⟩ hC.2.2.2.1.2.2.2 wi_
          rw [pk_.1] at rm_
          exact ⟨rm_, pk_.2⟩
        | false =>
          have e_ : chW P = none := by unfold chW; rw [if_neg (by rw [hu_]; decide)]
          rw [e_]
          exact ⟨w2_ hu_, fun os h => by cases h⟩
      have hF0_ : Fr 0 1 σ22 (sF σ22 0 12 (nI 1)) := (Fr.refl 0 1 σ22).sF _ _ (by omega) (by omega)
      obtain ⟨K_, hK_, hL_⟩ := hC.2.2.1
      have rm1_ : RMo (sF σ22 0 12 (nI 1)) (chW P) := hp_.1.same (hF0_.F (by omega)) (hF0_.A (by omega))
      exact ⟨rfl, ⟨(hC.1.fr w4_ (by omega)).fr hF0_ (by omega), hC.2.1, ⟨K_, (hK_.fr w4_ (by omega)).fr hF0_ (by omega), hL_⟩, w3_.fr hF0_ (by omega), ⟨true, sF_F _ _ _ _, fun _ => ⟨rm1_, hp_.2⟩⟩⟩, rm1_, hp_.2, (w4_.q (c := 113) (by omega) (by omega) (by omega)).s12 _⟩)
