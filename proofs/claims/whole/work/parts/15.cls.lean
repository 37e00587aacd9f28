/-! Classes: contracts over the pure classes of bits. -/
set_option maxRecDepth 100000 in
set_option maxHeartbeats 4000000 in
theorem ct_Cl_agree (G : Gl) (σ : SS) (c : Nat) (u : UF) (hC : ClA c) (hU : RCu σ c u) : CI G mX0_agree [Rf G c] σ (fun r σ1 => r = bI u.2.2 ∧ σ1 = σ) := by
  refine Ctr.of oX0_agree (Nat.le_of_ble_eq_true rfl) ?_
  intro X C R hnm hz0
  have C : Cx G X cX0_agree 1 RX0 0 0 0 0 := C
  have R : Cr G X (some .boolean) 0 0 _ := R
  show V G X 1 0 0 0 [(0, Rf G c)] [] (wld G σ)
  obtain ⟨hc0, hc1, hc2⟩ := hC
  have hb : σ.1 c 2 = 0 ∨ σ.1 c 2 = 1 := by rw [hU.2.2.1]; exact bI01 _
  have e := hU.2.2.1
  refine V.aload_n C 0 rfl rfl dX0_agree_0 ?_
  refine V.getI C fX0_27 dX0_agree_1 (by assumption) rfl ?_
  exact V.zretS C R dX0_agree_4 hb ⟨e, rfl⟩
set_option maxRecDepth 100000 in
set_option maxHeartbeats 4000000 in
theorem ct_Cl_clear (G : Gl) (σ : SS) (c : Nat) (hC : ClA c) : CV G mX0_clear [Rf G c] σ (fun σ1 => RCu σ1 c uf0 ∧ Fr c (c + 3) σ σ1) := by
  refine Ctr.of oX0_clear (Nat.le_of_ble_eq_true rfl) ?_
  intro X C R hnm hz0
  have C : Cx G X cX0_clear 2 RX0 1 23 0 0 := C
  have R : Cr G X none 0 0 _ := R
  show V G X 2 0 0 0 [(0, Rf G c)] [] (wld G σ)
  obtain ⟨hc0, hc1, hc2⟩ := hC
  have loop : ∀ (m i : Nat) (f : Nat → Int32), 128 < i + m → i ≤ 128 → (∀ j, j < i → f j = nI j) → V G X 2 0 0 2 [(0, Rf G c), (1, .int (nI i))] [] (wld G (sA σ (c + 1) f)) := by
    intro m
    induction m with
    | zero =>
      intro i f hm hi hf
      exact absurd hm (by omega)
    | succ m ih =>
      intro i f hm hi hf
      refine V.iload_n C 1 rfl rfl dX0_clear_2 ?_
      refine V.sipush C (nI 128) s_128 dX0_clear_3 ?_
      refine V.icmp_ge C 22 dX0_clear_6 rfl (fun hc => ?_) (fun hc => ?_)
      · have hi8 : i = 128 := by have := (nI_leI (by decide) (by omega)).mp hc; omega
        refine V.aload_n C 0 rfl rfl dX0_clear_22 ?_
        refine V.getR C fX0_15 dX0_clear_23 (by assumption) rfl ?_
        refine V.iconst C ((-1)) c_m1 dX0_clear_26 ?_
        refine V.cSv C lX0_21 oJ7_fill_53178 dX0_clear_27 (ct_fillI G _ (c + 2) 128 (-1) hc2 (by decide)) rfl rfl (Nat.le_of_ble_eq_true rfl) ⟨Nat.le_of_ble_eq_true rfl, Nat.le_of_ble_eq_true rfl⟩ ⟨Nat.le_of_ble_eq_true rfl, Nat.le_of_ble_eq_true rfl⟩ (fun σ27 p27 => ?_)
        subst p27
        refine V.aload_n C 0 rfl rfl dX0_clear_30 ?_
        refine V.iconst C (nI 1) c_1 dX0_clear_31 ?_
        refine V.putZ C fX0_27 dX0_clear_32 (by assumption) rfl (by first | exact Or.inl rfl | exact Or.inr rfl | exact bI01 _) ?_
        exact V.vretS C R dX0_clear_35 (by
  refine ⟨⟨⟨fun x => x, fun x hx => ?_, fun x hx => ⟨Nat.le_refl _, rfl, Iff.rfl⟩⟩, fun x hx _ => ?_, ?_, fun x v h => by cases h⟩, ((((Fr.refl c (c + 3) σ).sA _ (by omega) (by omega)).sA _ (by omega) (by omega)).sF _ _ (by omega) (by omega))⟩
  · show (sA (sA σ (c + 1) f) (c + 2) _).2.1 (c + 1) x = _
    rw [sA_ne _ _ (by omega), sA_A]; exact hf x (by omega)
  · show (sA (sA σ (c + 1) f) (c + 2) _).2.1 (c + 2) x = _
    rw [sA_A]; simp only [hx, if_true]; rfl
  · rw [sF_F]; rfl)
      · have hi8 : i < 128 := Nat.lt_of_not_le (fun q => hc (nI_le q (by omega)))
        refine V.aload_n C 0 rfl rfl dX0_clear_9 ?_
        refine V.getR C fX0_9 dX0_clear_10 (by assumption) rfl ?_
        refine V.iload_n C 1 rfl rfl dX0_clear_13 ?_
        refine V.iload_n C 1 rfl rfl dX0_clear_14 ?_
        refine V.iastN C dX0_clear_15 (by assumption) (by omega) ?_
        refine V.iinc C (nI (i + 1)) dX0_clear_16 rfl (nI_1 i) (by decide) ?_
        refine V.goto C 2 dX0_clear_19 rfl ?_
        refine V.lvs (lv' := [(0, Rf G c), (1, .int (nI (i + 1)))]) rfl ?_
        rw [sA_sA, sA_A]
        refine ih (i + 1) _ (by omega) (by omega) (fun j hj => ?_)
        by_cases h1 : j = i
        · rw [h1, up_eq]
        · rw [up_ne _ _ h1]; exact hf j (by omega)
  refine V.iconst C (nI 0) c_0 dX0_clear_0 ?_
  refine V.istore_n C 1 dX0_clear_1 rfl (by decide) ?_
  refine V.lvs (lv' := [(0, Rf G c), (1, .int (nI 0))]) rfl ?_
  have q := loop 129 0 (σ.2.1 (c + 1)) (by omega) (by omega) (fun j hj => absurd hj (by omega))
  rw [sA_self] at q
  exact q
set_option maxRecDepth 100000 in
set_option maxHeartbeats 4000000 in
theorem ct_Cl_rootOf (G : Gl) (σ : SS) (c x : Nat) (u : UF) (hC : ClA c) (hU : RCu σ c u) (hx : x < 128) : CI G mX0_rootOf [Rf G c, .int (nI x)] σ (fun r σ1 => r = nI (u.1 x) ∧ RCu σ1 c u ∧ Fr c (c + 3) σ σ1) := by
  refine Ctr.of oX0_rootOf (Nat.le_of_ble_eq_true rfl) ?_
  intro X C R hnm hz0
  have C : Cx G X cX0_rootOf 4 RX0 0 0 0 0 := C
  have R : Cr G X (some .int) 0 0 _ := R
  show V G X 4 0 0 0 [(0, Rf G c), (1, .int (nI x))] [] (wld G σ)
  obtain ⟨hc0, hc1, hc2⟩ := hC
  have loop : ∀ (m r s : Nat) (σ1 : SS), r < m → r + s ≤ 127 → u.1 r = u.1 x → RCu σ1 c u → Fr c (c + 3) σ σ1 → V G X 4 0 0 4 [(0, Rf G c), (1, .int (nI x)), (2, .int (nI r)), (3, .int (nI s))] [] (wld G σ1) := by
    intro m
    induction m with
    | zero =>
      intro r s σ1 hm hs hr hV hF
      exact absurd hm (by omega)
    | succ m ih =>
      intro r s σ1 hm hs hr hV hF
      obtain ⟨⟨p, hp, hg⟩, h2, h3, h4⟩ := hV
      have hr1 := (hg r (by omega)).1
      have hr2 := (hg (p r) (by omega)).1
      refine V.iload_n C 3 rfl rfl dX0_rootOf_4 ?_
      refine V.sipush C (nI 128) s_128 dX0_rootOf_5 ?_
      refine V.icmp_ge C 51 dX0_rootOf_8 rfl (fun h8 => ?_) (fun h8 => ?_)
      · exact absurd ((nI_leI (by decide) (by omega)).mp h8) (by omega)
      · refine V.aload_n C 0 rfl rfl dX0_rootOf_11 ?_
        refine V.getR C fX0_9 dX0_rootOf_12 (by assumption) rfl ?_
        refine V.iload_n C 2 rfl rfl dX0_rootOf_15 ?_
        refine V.ialdN C dX0_rootOf_16 (by assumption) (by omega) ?_
        rw [hp r (by omega)]
        refine V.iload_n C 2 rfl rfl dX0_rootOf_17 ?_
        refine V.icmp_eq C 51 dX0_rootOf_18 rfl (fun h18 => ?_) (fun h18 => ?_)
        · have e18 : p r = r := (nI_eq (by omega) (by omega)).mp h18
          refine V.iload_n C 2 rfl rfl dX0_rootOf_51 ?_
          exact V.iretS C R dX0_rootOf_52 ⟨congrArg nI (((hg r (by omega)).2.2.mp e18).symm.trans hr), ⟨⟨p, hp, hg⟩, h2, h3, h4⟩, hF⟩
        · have e18 : ¬ p r = r := fun q => h18 (by rw [q])
          refine V.aload_n C 0 rfl rfl dX0_rootOf_21 ?_
          refine V.getR C fX0_9 dX0_rootOf_22 (by assumption) rfl ?_
          refine V.iload_n C 2 rfl rfl dX0_rootOf_25 ?_
          refine V.aload_n C 0 rfl rfl dX0_rootOf_26 ?_
          refine V.getR C fX0_9 dX0_rootOf_27 (by assumption) rfl ?_
          refine V.aload_n C 0 rfl rfl dX0_rootOf_30 ?_
          refine V.getR C fX0_9 dX0_rootOf_31 (by assumption) rfl ?_
          refine V.iload_n C 2 rfl rfl dX0_rootOf_34 ?_
          refine V.ialdN C dX0_rootOf_35 (by assumption) (by omega) ?_
          rw [hp r (by omega)]
          refine V.ialdN C dX0_rootOf_36 (by assumption) (by omega) ?_
          rw [hp (p r) (by omega)]
          refine V.iastN C dX0_rootOf_37 (by assumption) (by omega) ?_
          refine V.aload_n C 0 rfl rfl dX0_rootOf_38 ?_
          refine V.getR C fX0_9 dX0_rootOf_39 (by assumption) rfl ?_
          refine V.iload_n C 2 rfl rfl dX0_rootOf_42 ?_
          refine V.ialdN C dX0_rootOf_43 (by assumption) (by omega) ?_
          rw [sA_A, up_eq]
          refine V.istore_n C 2 dX0_rootOf_44 rfl (by decide) ?_
          refine V.iinc C (nI (s + 1)) dX0_rootOf_45 rfl (nI_1 s) (by decide) ?_
          refine V.goto C 4 dX0_rootOf_48 rfl ?_
          refine V.lvs (lv' := [(0, Rf G c), (1, .int (nI x)), (2, .int (nI (p (p r)))), (3, .int (nI (s + 1)))]) rfl ?_
          have hlt : p r < r := by omega
          refine ih (p (p r)) (s + 1) _ (by omega) (by omega) ?_ ⟨⟨va_up p r (p (p r)), fun y hy => ?_, hg.half (by omega)⟩, fun y hy hy2 => ?_, h3, h4⟩ (hF.sA _ (by omega) (by omega))
          · rw [(hg (p r) (by omega)).2.1, (hg r (by omega)).2.1, hr]
          · rw [sA_A]
            by_cases hyr : y = r
            · rw [hyr, up_eq, up_eq]
            · rw [up_ne _ _ hyr, up_ne _ _ hyr]; exact hp y hy
          · rw [sA_ne _ _ (by omega)]; exact h2 y hy hy2
  refine V.iload_n C 1 rfl rfl dX0_rootOf_0 ?_
  refine V.istore_n C 2 dX0_rootOf_1 rfl (by decide) ?_
  refine V.iconst C (nI 0) c_0 dX0_rootOf_2 ?_
  refine V.istore_n C 3 dX0_rootOf_3 rfl (by decide) ?_
  refine V.lvs (lv' := [(0, Rf G c), (1, .int (nI x)), (2, .int (nI x)), (3, .int (nI 0))]) rfl ?_
  exact loop 128 x 0 σ (by omega) (by omega) rfl hU (Fr.refl _ _ _)
