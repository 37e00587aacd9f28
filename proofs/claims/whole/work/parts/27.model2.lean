/-! Model: pickLast, pickLastTwo, pickThree. -/
set_option maxRecDepth 100000 in
set_option maxHeartbeats 4000000 in
theorem ct_Mo_pick1 (G : Gl) (σ : SS) (pl fr0 : Nat) (w : Int64) (cs : List Nat) (hR : RCd σ cs) (hpl : pl < 3) (hfr : fr0 ≤ cs.length) : CI G mX3_pickLast [Rf G 119, .int (nI pl), .int (nI fr0), .long w] σ (fun r σ1 => r = bI (pk1 (σ.2.2.1 120) w (cs.drop fr0)).isSome ∧ σ1 = (match pk1 (σ.2.2.1 120) w (cs.drop fr0) with
    | none => σ
    | some a => sA σ 122 (va_up (σ.2.1 122) pl (nI a)))) := by
  refine Ctr.of oX3_pickLast (Nat.le_of_ble_eq_true rfl) ?_
  intro X C R hnm hz0
  have C : Cx G X cX3_pickLast 6 RX3 1 21 0 0 := C
  have R : Cr G X (some .boolean) 0 0 _ := R
  show V G X 6 0 0 0 [(0, Rf G 119), (1, .int (nI pl)), (2, .int (nI fr0)), (3, .long w)] [] (wld G σ)
  have kk_119 := sk_119
  have kk_120 := sk_120
  have kk_121 := sk_121
  have kk_122 := sk_122
  have hl8 := hR.2.1
  have loop : ∀ (m i : Nat), cs.length < i + m → i ≤ cs.length → pk1 (σ.2.2.1 120) w (cs.drop fr0) = pk1 (σ.2.2.1 120) w (cs.drop i) → V G X 6 0 0 3 [(0, Rf G 119), (1, .int (nI pl)), (2, .int (nI fr0)), (3, .long w), (5, .int (nI i))] [] (wld G σ) := by
    intro m
    induction m with
    | zero =>
      intro i hm hi he
      exact absurd hm (by omega)
    | succ m ih =>
      intro i hm hi he
      refine V.iload C rfl dX3_pickLast_3 ?_
      refine V.aload_n C 0 rfl rfl dX3_pickLast_5 ?_
      refine V.getI C fX3_83 dX3_pickLast_6 (by assumption) rfl ?_
      rw [hR.1]
      refine V.icmp_ge C 53 dX3_pickLast_9 rfl (fun hb_9 => ?_) (fun hb_9 => ?_)
      · have hi8 : i = cs.length := by have := (nI_leI (by omega) (by omega)).mp hb_9; omega
        have hdn : cs.drop i = [] := by rw [hi8]; exact List.drop_length
        refine V.iconst C (nI 0) c_0 dX3_pickLast_53 ?_
        exact V.zretS C R dX3_pickLast_54 (by first | exact Or.inl rfl | exact Or.inr rfl | exact bI01 _) ⟨by rw [he, hdn]; rfl, by rw [he, hdn]; rfl⟩
      · have hi8 : i < cs.length := Nat.lt_of_not_le (fun q => hb_9 (nI_le q (by omega)))
        obtain ⟨r, hir, hdr⟩ := drop_cons hi8
        have hr8 := (hR.2.2 i r hir).2
        refine V.lload_n C 3 rfl rfl dX3_pickLast_12 ?_
        refine V.aload_n C 0 rfl rfl dX3_pickLast_13 ?_
        refine V.getR C fX3_9 dX3_pickLast_14 (by assumption) rfl ?_
        refine V.aload_n C 0 rfl rfl dX3_pickLast_17 ?_
        refine V.getR C fX3_15 dX3_pickLast_18 (by assumption) rfl ?_
        refine V.iload C rfl dX3_pickLast_21 ?_
        refine V.ialdN C dX3_pickLast_23 (by assumption) (by omega) ?_
        rw [(hR.2.2 i r hir).1]
        refine V.laldN C dX3_pickLast_24 (by assumption) (by omega) ?_
        refine V.lxor C dX3_pickLast_25 ?_
        refine V.cSi C lX3_39 oX3_holds dX3_pickLast_26 (ct_Mo_holds G σ (w ^^^ σ.2.2.1 120 r)) rfl rfl (Nat.le_of_ble_eq_true rfl) ⟨Nat.le_of_ble_eq_true rfl, Nat.le_of_ble_eq_true rfl⟩ ⟨Nat.le_of_ble_eq_true rfl, Nat.le_of_ble_eq_true rfl⟩ (fun rr_26 σ26 pp_26 => ?_)
        obtain ⟨ee_26, ff_26⟩ := pp_26
        rw [ee_26, ff_26]
        refine V.if_eq C 47 dX3_pickLast_29 rfl (fun hb_29 => ?_) (fun hb_29 => ?_)
        · have z_ := bI_eq0 hb_29
          refine V.iinc C (nI (i + 1)) dX3_pickLast_47 rfl (nI_1 i) (by decide) ?_
          refine V.goto C 3 dX3_pickLast_50 rfl ?_
          refine V.lvs (lv' := [(0, Rf G 119), (1, .int (nI pl)), (2, .int (nI fr0)), (3, .long w), (5, .int (nI (i + 1)))]) rfl ?_
          exact ih (i + 1) (by omega) (by omega) (by rw [he, hdr]; simp only [pk1]; rw [if_neg (by rw [z_]; decide)])
        · have z_ := bI_ne0 hb_29
          refine V.aload_n C 0 rfl rfl dX3_pickLast_32 ?_
          refine V.getR C fX3_19 dX3_pickLast_33 (by assumption) rfl ?_
          refine V.iload_n C 1 rfl rfl dX3_pickLast_36 ?_
          refine V.aload_n C 0 rfl rfl dX3_pickLast_37 ?_
          refine V.getR C fX3_15 dX3_pickLast_38 (by assumption) rfl ?_
          refine V.iload C rfl dX3_pickLast_41 ?_
          refine V.ialdN C dX3_pickLast_43 (by assumption) (by omega) ?_
          rw [(hR.2.2 i r hir).1]
          refine V.iastN C dX3_pickLast_44 (by assumption) (by omega) ?_
          refine V.iconst C (nI 1) c_1 dX3_pickLast_45 ?_
          exact V.zretS C R dX3_pickLast_46 (by first | exact Or.inl rfl | exact Or.inr rfl | exact bI01 _) ⟨by rw [he, hdr]; simp only [pk1]; rw [if_pos z_]; rfl, by rw [he, hdr]; simp only [pk1]; rw [if_pos z_]⟩
  refine V.iload_n C 2 rfl rfl dX3_pickLast_0 ?_
  refine V.istore C dX3_pickLast_1 (by decide) ?_
  refine V.lvs (lv' := [(0, Rf G 119), (1, .int (nI pl)), (2, .int (nI fr0)), (3, .long w), (5, .int (nI fr0))]) rfl ?_
  exact loop (cs.length + 1) fr0 (by omega) hfr rfl
set_option maxRecDepth 100000 in
set_option maxHeartbeats 4000000 in
theorem ct_Mo_pick2 (G : Gl) (σ : SS) (pl fr0 : Nat) (w : Int64) (cs : List Nat) (hR : RCd σ cs) (hpl : pl < 2) (hfr : fr0 ≤ cs.length) : CI G mX3_pickLastTwo [Rf G 119, .int (nI pl), .int (nI fr0), .long w] σ (fun r σ1 => r = bI (pk2 (σ.2.2.1 120) w (cs.drop fr0)).isSome ∧ Fr 122 123 σ σ1 ∧ (∀ a b, pk2 (σ.2.2.1 120) w (cs.drop fr0) = some (a, b) → σ1.2.1 122 pl = nI a ∧ σ1.2.1 122 (pl + 1) = nI b) ∧ (∀ j, j < pl → σ1.2.1 122 j = σ.2.1 122 j)) := by
  refine Ctr.of oX3_pickLastTwo (Nat.le_of_ble_eq_true rfl) ?_
  intro X C R hnm hz0
  have C : Cx G X cX3_pickLastTwo 6 RX3 2 46 0 0 := C
  have R : Cr G X (some .boolean) 0 0 _ := R
  show V G X 6 0 0 0 [(0, Rf G 119), (1, .int (nI pl)), (2, .int (nI fr0)), (3, .long w)] [] (wld G σ)
  have kk_119 := sk_119
  have kk_120 := sk_120
  have kk_121 := sk_121
  have kk_122 := sk_122
  have hl8 := hR.2.1
  have loop : ∀ (m i : Nat) (σ1 : SS), cs.length < i + m → i ≤ cs.length → pk2 (σ.2.2.1 120) w (cs.drop fr0) = pk2 (σ.2.2.1 120) w (cs.drop i) → Fr 122 123 σ σ1 → (∀ j, j < pl → σ1.2.1 122 j = σ.2.1 122 j) → V G X 6 0 0 3 [(0, Rf G 119), (1, .int (nI pl)), (2, .int (nI fr0)), (3, .long w), (5, .int (nI i))] [] (wld G σ1) := by
    intro m
    induction m with
    | zero =>
      intro i σ1 hm hi he hF hold
      exact absurd hm (by omega)
    | succ m ih =>
      intro i σ1 hm hi he hF hold
      have hR1 := hR.fr hF (by omega)
      refine V.iload C rfl dX3_pickLastTwo_3 ?_
      refine V.aload_n C 0 rfl rfl dX3_pickLastTwo_5 ?_
      refine V.getI C fX3_83 dX3_pickLastTwo_6 (by assumption) rfl ?_
      rw [hR1.1]
      refine V.icmp_ge C 61 dX3_pickLastTwo_9 rfl (fun hb_9 => ?_) (fun hb_9 => ?_)
      · have hi8 : i = cs.length := by have := (nI_leI (by omega) (by omega)).mp hb_9; omega
        have hdn : cs.drop i = [] := by rw [hi8]; exact List.drop_length
        refine V.iconst C (nI 0) c_0 dX3_pickLastTwo_61 ?_
        exact V.zretS C R dX3_pickLastTwo_62 (by first | exact Or.inl rfl | exact Or.inr rfl | exact bI01 _) ⟨by rw [he, hdn]; rfl, hF, (fun a b h => by rw [he, hdn] at h; cases h), hold⟩
      · have hi8 : i < cs.length := Nat.lt_of_not_le (fun q => hb_9 (nI_le q (by omega)))
        obtain ⟨r, hir, hdr⟩ := drop_cons hi8
        have hr8 := (hR1.2.2 i r hir).2
        refine V.aload_n C 0 rfl rfl dX3_pickLastTwo_12 ?_
        refine V.getR C fX3_19 dX3_pickLastTwo_13 (by assumption) rfl ?_
        refine V.iload_n C 1 rfl rfl dX3_pickLastTwo_16 ?_
        refine V.aload_n C 0 rfl rfl dX3_pickLastTwo_17 ?_
        refine V.getR C fX3_15 dX3_pickLastTwo_18 (by assumption) rfl ?_
        refine V.iload C rfl dX3_pickLastTwo_21 ?_
        refine V.ialdN C dX3_pickLastTwo_23 (by assumption) (by omega) ?_
        rw [(hR1.2.2 i r hir).1]
        refine V.iastN C dX3_pickLastTwo_24 (by assumption) (by omega) ?_
        have hF2 : Fr 122 123 σ1 (sA σ1 122 (va_up (σ1.2.1 122) pl (nI r))) := (Fr.refl _ _ _).sA _ (by omega) (by omega)
        refine V.aload_n C 0 rfl rfl dX3_pickLastTwo_25 ?_
        refine V.iload_n C 1 rfl rfl dX3_pickLastTwo_26 ?_
        refine V.iconst C (nI 1) c_1 dX3_pickLastTwo_27 ?_
        refine V.iadd C dX3_pickLastTwo_28 ?_
        rw [show nI pl + nI 1 = nI (pl + 1) from nI_add pl 1]
        refine V.iload C rfl dX3_pickLastTwo_29 ?_
        refine V.iconst C (nI 1) c_1 dX3_pickLastTwo_31 ?_
        refine V.iadd C dX3_pickLastTwo_32 ?_
        rw [show nI i + nI 1 = nI (i + 1) from nI_add i 1]
        refine V.lload_n C 3 rfl rfl dX3_pickLastTwo_33 ?_
        refine V.aload_n C 0 rfl rfl dX3_pickLastTwo_34 ?_
        refine V.getR C fX3_9 dX3_pickLastTwo_35 (by assumption) rfl ?_
        refine V.aload_n C 0 rfl rfl dX3_pickLastTwo_38 ?_
        refine V.getR C fX3_15 dX3_pickLastTwo_39 (by assumption) rfl ?_
        refine V.iload C rfl dX3_pickLastTwo_42 ?_
        refine V.ialdN C dX3_pickLastTwo_44 (by assumption) (by omega) ?_
        rw [hF2.A (k := 121) (by omega), (hR1.2.2 i r hir).1]
        refine V.laldN C dX3_pickLastTwo_45 (by assumption) (by omega) ?_
        rw [hF2.L (k := 120) (by omega), hF.L (k := 120) (by omega)]
        refine V.lxor C dX3_pickLastTwo_46 ?_
        refine V.cVi C lX3_43 oX3_pickLast dX3_pickLastTwo_47 (ct_Mo_pick1 G _ (pl + 1) (i + 1) (w ^^^ σ.2.2.1 120 r) cs (hR1.fr hF2 (by omega)) (by omega) (by omega)) (by assumption) rfl rfl (Nat.le_of_ble_eq_true rfl) ⟨Nat.le_of_ble_eq_true rfl, Nat.le_of_ble_eq_true rfl⟩ ⟨Nat.le_of_ble_eq_true rfl, Nat.le_of_ble_eq_true rfl⟩ (fun rr_47 σ47 pp_47 => ?_)
        obtain ⟨ee_47, ff_47⟩ := pp_47
        rw [hF2.L (k := 120) (by omega), hF.L (k := 120) (by omega)] at ee_47 ff_47
        rw [ee_47]
        refine V.if_eq C 55 dX3_pickLastTwo_50 rfl (fun hb_50 => ?_) (fun hb_50 => ?_)
        · have z_ := bI_eq0 hb_50
          refine V.iinc C (nI (i + 1)) dX3_pickLastTwo_55 rfl (nI_1 i) (by decide) ?_
          refine V.goto C 3 dX3_pickLastTwo_58 rfl ?_
          refine V.lvs (lv' := [(0, Rf G 119), (1, .int (nI pl)), (2, .int (nI fr0)), (3, .long w), (5, .int (nI (i + 1)))]) rfl ?_
          cases hp_ : pk1 (σ.2.2.1 120) (w ^^^ σ.2.2.1 120 r) (cs.drop (i + 1)) with
          | some b0 => rw [hp_] at z_; cases z_
          | none =>
            rw [hp_] at ff_47
            have ff2_ : σ47 = sA σ1 122 (va_up (σ1.2.1 122) pl (nI r)) := ff_47
            rw [ff2_]
            refine ih (i + 1) _ (by omega) (by omega) (by rw [he, hdr]; simp only [pk2, hp_]) (hF.sA _ (by omega) (by omega)) (fun j hj => ?_)
            rw [sA_A, up_ne _ _ (by omega)]; exact hold j hj
        · have z_ := bI_ne0 hb_50
          refine V.iconst C (nI 1) c_1 dX3_pickLastTwo_53 ?_
          exact V.zretS C R dX3_pickLastTwo_54 (by first | exact Or.inl rfl | exact Or.inr rfl | exact bI01 _) (by
  cases hp_ : pk1 (σ.2.2.1 120) (w ^^^ σ.2.2.1 120 r) (cs.drop (i + 1)) with
  | none => rw [hp_] at z_; cases z_
  | some b0 =>
    rw [hp_] at ff_47
    have e_ : pk2 (σ.2.2.1 120) w (cs.drop fr0) = some (r, b0) := by rw [he, hdr]; simp only [pk2, hp_]
    have ff2_ : σ47 = sA (sA σ1 122 (va_up (σ1.2.1 122) pl (nI r))) 122 (va_up (va_up (σ1.2.1 122) pl (nI r)) (pl + 1) (nI b0)) := by rw [ff_47]; simp only [sA_A]
    rw [sA_sA] at ff2_
    rw [ff2_]
    refine ⟨by rw [e_]; rfl, hF.sA _ (by omega) (by omega), fun a b h => ?_, fun j hj => ?_⟩
    · rw [e_] at h
      cases h
      rw [sA_A, up_eq, up_ne _ _ (by omega), up_eq]; exact ⟨rfl, rfl⟩
    · rw [sA_A, up_ne _ _ (by omega), up_ne _ _ (by omega)]; exact hold j hj)
  refine V.iload_n C 2 rfl rfl dX3_pickLastTwo_0 ?_
  refine V.istore C dX3_pickLastTwo_1 (by decide) ?_
  refine V.lvs (lv' := [(0, Rf G 119), (1, .int (nI pl)), (2, .int (nI fr0)), (3, .long w), (5, .int (nI fr0))]) rfl ?_
  exact loop (cs.length + 1) fr0 σ (by omega) hfr rfl (Fr.refl _ _ _) (fun _ _ => rfl)
set_option maxRecDepth 100000 in
set_option maxHeartbeats 4000000 in
theorem ct_Mo_pick3 (G : Gl) (σ : SS) (w : Int64) (cs : List Nat) (hR : RCd σ cs) : CI G mX3_pickThree [Rf G 119, .long w] σ (fun r σ1 => r = bI (pk3 (σ.2.2.1 120) w cs).isSome ∧ Fr 122 123 σ σ1 ∧ (∀ a b c, pk3 (σ.2.2.1 120) w cs = some (a, b, c) → σ1.2.1 122 0 = nI a ∧ σ1.2.1 122 1 = nI b ∧ σ1.2.1 122 2 = nI c)) := by
  refine Ctr.of oX3_pickThree (Nat.le_of_ble_eq_true rfl) ?_
  intro X C R hnm hz0
  have C : Cx G X cX3_pickThree 4 RX3 3 71 0 0 := C
  have R : Cr G X (some .boolean) 0 0 _ := R
  show V G X 4 0 0 0 [(0, Rf G 119), (1, .long w)] [] (wld G σ)
  have kk_119 := sk_119
  have kk_120 := sk_120
  have kk_121 := sk_121
  have kk_122 := sk_122
  have hl8 := hR.2.1
  have loop : ∀ (m i : Nat) (σ1 : SS), cs.length < i + m → i ≤ cs.length → pk3 (σ.2.2.1 120) w cs = pk3 (σ.2.2.1 120) w (cs.drop i) → Fr 122 123 σ σ1 → V G X 4 0 0 2 [(0, Rf G 119), (1, .long w), (3, .int (nI i))] [] (wld G σ1) := by
    intro m
    induction m with
    | zero =>
      intro i σ1 hm hi he hF
      exact absurd hm (by omega)
    | succ m ih =>
      intro i σ1 hm hi he hF
      have hR1 := hR.fr hF (by omega)
      refine V.iload_n C 3 rfl rfl dX3_pickThree_2 ?_
      refine V.aload_n C 0 rfl rfl dX3_pickThree_3 ?_
      refine V.getI C fX3_83 dX3_pickThree_4 (by assumption) rfl ?_
      rw [hR1.1]
      refine V.icmp_ge C 54 dX3_pickThree_7 rfl (fun hb_7 => ?_) (fun hb_7 => ?_)
      · have hi8 : i = cs.length := by have := (nI_leI (by omega) (by omega)).mp hb_7; omega
        have hdn : cs.drop i = [] := by rw [hi8]; exact List.drop_length
        refine V.iconst C (nI 0) c_0 dX3_pickThree_54 ?_
        exact V.zretS C R dX3_pickThree_55 (by first | exact Or.inl rfl | exact Or.inr rfl | exact bI01 _) ⟨by rw [he, hdn]; rfl, hF, fun a b c h => by rw [he, hdn] at h; cases h⟩
      · have hi8 : i < cs.length := Nat.lt_of_not_le (fun q => hb_7 (nI_le q (by omega)))
        obtain ⟨r, hir, hdr⟩ := drop_cons hi8
        have hr8 := (hR1.2.2 i r hir).2
        refine V.aload_n C 0 rfl rfl dX3_pickThree_10 ?_
        refine V.getR C fX3_19 dX3_pickThree_11 (by assumption) rfl ?_
        refine V.iconst C (nI 0) c_0 dX3_pickThree_14 ?_
        refine V.aload_n C 0 rfl rfl dX3_pickThree_15 ?_
        refine V.getR C fX3_15 dX3_pickThree_16 (by assumption) rfl ?_
        refine V.iload_n C 3 rfl rfl dX3_pickThree_19 ?_
        refine V.ialdN C dX3_pickThree_20 (by assumption) (by omega) ?_
        rw [(hR1.2.2 i r hir).1]
        refine V.iastN C dX3_pickThree_21 (by assumption) (by omega) ?_
        have hF2 : Fr 122 123 σ1 (sA σ1 122 (va_up (σ1.2.1 122) 0 (nI r))) := (Fr.refl _ _ _).sA _ (by omega) (by omega)
        refine V.aload_n C 0 rfl rfl dX3_pickThree_22 ?_
        refine V.iconst C (nI 1) c_1 dX3_pickThree_23 ?_
        refine V.iload_n C 3 rfl rfl dX3_pickThree_24 ?_
        refine V.iconst C (nI 1) c_1 dX3_pickThree_25 ?_
        refine V.iadd C dX3_pickThree_26 ?_
        rw [show nI i + nI 1 = nI (i + 1) from nI_add i 1]
        refine V.lload_n C 1 rfl rfl dX3_pickThree_27 ?_
        refine V.aload_n C 0 rfl rfl dX3_pickThree_28 ?_
        refine V.getR C fX3_9 dX3_pickThree_29 (by assumption) rfl ?_
        refine V.aload_n C 0 rfl rfl dX3_pickThree_32 ?_
        refine V.getR C fX3_15 dX3_pickThree_33 (by assumption) rfl ?_
        refine V.iload_n C 3 rfl rfl dX3_pickThree_36 ?_
        refine V.ialdN C dX3_pickThree_37 (by assumption) (by omega) ?_
        rw [hF2.A (k := 121) (by omega), (hR1.2.2 i r hir).1]
        refine V.laldN C dX3_pickThree_38 (by assumption) (by omega) ?_
        rw [hF2.L (k := 120) (by omega), hF.L (k := 120) (by omega)]
        refine V.lxor C dX3_pickThree_39 ?_
        refine V.cVi C lX3_47 oX3_pickLastTwo dX3_pickThree_40 (ct_Mo_pick2 G _ 1 (i + 1) (w ^^^ σ.2.2.1 120 r) cs (hR1.fr hF2 (by omega)) (by omega) (by omega)) (by assumption) rfl rfl (Nat.le_of_ble_eq_true rfl) ⟨Nat.le_of_ble_eq_true rfl, Nat.le_of_ble_eq_true rfl⟩ ⟨Nat.le_of_ble_eq_true rfl, Nat.le_of_ble_eq_true rfl⟩ (fun rr_40 σ40 pp_40 => ?_)
        obtain ⟨ee_40, ff_40, gg_40, hh_40⟩ := pp_40
        rw [hF2.L (k := 120) (by omega), hF.L (k := 120) (by omega)] at ee_40 gg_40
        rw [ee_40]
        refine V.if_eq C 48 dX3_pickThree_43 rfl (fun hb_43 => ?_) (fun hb_43 => ?_)
        · have z_ := bI_eq0 hb_43
          refine V.iinc C (nI (i + 1)) dX3_pickThree_48 rfl (nI_1 i) (by decide) ?_
          refine V.goto C 2 dX3_pickThree_51 rfl ?_
          refine V.lvs (lv' := [(0, Rf G 119), (1, .long w), (3, .int (nI (i + 1)))]) rfl ?_
          cases hp_ : pk2 (σ.2.2.1 120) (w ^^^ σ.2.2.1 120 r) (cs.drop (i + 1)) with
          | some b0 => rw [hp_] at z_; cases z_
          | none => exact ih (i + 1) _ (by omega) (by omega) (by rw [he, hdr]; simp only [pk3, hp_]) ((hF.trans hF2).trans ff_40)
        · have z_ := bI_ne0 hb_43
          refine V.iconst C (nI 1) c_1 dX3_pickThree_46 ?_
          exact V.zretS C R dX3_pickThree_47 (by first | exact Or.inl rfl | exact Or.inr rfl | exact bI01 _) (by
  cases hp_ : pk2 (σ.2.2.1 120) (w ^^^ σ.2.2.1 120 r) (cs.drop (i + 1)) with
  | none => rw [hp_] at z_; cases z_
  | some q0 =>
    obtain ⟨b0, c0⟩ := q0
    have e_ : pk3 (σ.2.2.1 120) w cs = some (r, b0, c0) := by rw [he, hdr]; simp only [pk3, hp_]
    refine ⟨by rw [e_]; rfl, (hF.trans hF2).trans ff_40, fun a b c h => ?_⟩
    rw [e_] at h
    cases h
    have g_ := gg_40 b0 c0 hp_
    refine ⟨?_, g_.1, g_.2⟩
    rw [hh_40 0 (by omega), sA_A, up_eq])
  refine V.iconst C (nI 0) c_0 dX3_pickThree_0 ?_
  refine V.istore_n C 3 dX3_pickThree_1 rfl (by decide) ?_
  refine V.lvs (lv' := [(0, Rf G 119), (1, .long w), (3, .int (nI 0))]) rfl ?_
  exact loop (cs.length + 1) 0 σ (by omega) (by omega) rfl (Fr.refl _ _ _)
