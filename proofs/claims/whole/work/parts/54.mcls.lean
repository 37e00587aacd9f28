/-! The model's classes: rootOf, fix. -/
/-- the model's classes: roots; which roots are fixed; the values while nothing is broken -/
def RCm (σ : SS) (u : UF) : Prop := (∃ p : Nat → Nat, (∀ x, x < 128 → σ.2.1 132 x = nI (p x)) ∧ goodP p u.1) ∧ (∀ x, x < 128 → u.1 x = x → (u.2.1 x = none → σ.2.1 133 x = -9) ∧ (∀ v, u.2.1 x = some v → ∃ v', v' < 2 ∧ σ.2.1 133 x = nI v' ∧ (u.2.2 = true → v' = v))) ∧ σ.1 123 21 = bI (!u.2.2) ∧ (∀ x v, u.2.1 x = some v → v < 2)
theorem RCm.fm {fs as : List Nat} {σ σ1 : SS} {u : UF} (h : RCm σ u) (hF : FM fs as σ σ1) (h1 : 21 ∉ fs) (h2 : 132 ∉ as) (h3 : 133 ∉ as) : RCm σ1 u := by
  unfold RCm; rw [hF.f h1, hF.a h2, hF.a h3]; exact h
theorem ufFix_n {u : UF} {r v : Nat} (h : u.2.1 r = none) : ufFix u r v = (u.1, va_up u.2.1 r (some v), u.2.2) := by unfold ufFix; rw [h]
theorem ufFix_s {u : UF} {r v w : Nat} (h : u.2.1 r = some w) : ufFix u r v = (u.1, u.2.1, u.2.2 && decide (w = v)) := by unfold ufFix; rw [h]
set_option maxRecDepth 100000 in
set_option maxHeartbeats 4000000 in
theorem ct_M_rootOf (G : Gl) (σ : SS) (u : UF) (x : Nat) (hU : RCm σ u) (hx : x < 128) : CI G mX10_rootOf [Rf G 123, .int (nI x)] σ (fun r σ1 => r = nI (u.1 x) ∧ σ1 = σ) := by
  refine Ctr.of oX10_rootOf (Nat.le_of_ble_eq_true rfl) ?_
  intro X C R hnm hz0
  have C : Cx G X cX10_rootOf 3 RX10 0 0 0 0 := C
  have R : Cr G X (some .int) 0 0 _ := R
  show V G X 3 0 0 0 [(0, Rf G 123), (1, .int (nI x))] [] (wld G σ)
  have kk_123 := sk_123
  have kk_124 := sk_124
  have kk_131 := sk_131
  have kk_132 := sk_132
  have kk_133 := sk_133
  obtain ⟨p, hp, hg⟩ := hU.1
  have loop : ∀ (m y : Nat), y < m → y < 128 → u.1 y = u.1 x → V G X 3 0 0 2 [(0, Rf G 123), (1, .int (nI x)), (2, .int (nI y))] [] (wld G σ) := by
    intro m
    induction m with
    | zero =>
      intro y hm hy hr
      exact absurd hm (by omega)
    | succ m ih =>
      intro y hm hy hr
      have gy_ := hg y hy
      refine V.aload_n C 0 rfl rfl dX10_rootOf_2 ?_
      refine V.getR C fX10_35 dX10_rootOf_3 (by assumption) rfl ?_
      refine V.iload_n C 2 rfl rfl dX10_rootOf_6 ?_
      refine V.ialdN C dX10_rootOf_7 (by assumption) (by omega) ?_
      rw [hp _ hy]
      refine V.iload_n C 2 rfl rfl dX10_rootOf_8 ?_
      refine V.icmp_eq C 22 dX10_rootOf_9 rfl (fun hb_9 => ?_) (fun hb_9 => ?_)
      · have z_ : p y = y := nI_pe (by omega) (by omega) hb_9
        refine V.iload_n C 2 rfl rfl dX10_rootOf_22 ?_
        exact V.iretS C R dX10_rootOf_23 ⟨by rw [← hr, (gy_.2.2).mp z_], rfl⟩
      · have z_ : ¬ p y = y := fun q => hb_9 (by rw [q])
        refine V.aload_n C 0 rfl rfl dX10_rootOf_12 ?_
        refine V.getR C fX10_35 dX10_rootOf_13 (by assumption) rfl ?_
        refine V.iload_n C 2 rfl rfl dX10_rootOf_16 ?_
        refine V.ialdN C dX10_rootOf_17 (by assumption) (by omega) ?_
        rw [hp _ hy]
        refine V.istore_n C 2 dX10_rootOf_18 rfl (by decide) ?_
        refine V.goto C 2 dX10_rootOf_19 rfl ?_
        refine V.lvs (lv' := [(0, Rf G 123), (1, .int (nI x)), (2, .int (nI (p y)))]) rfl ?_
        exact ih (p y) (by omega) (by omega) (by rw [gy_.2.1]; exact hr)
  refine V.iload_n C 1 rfl rfl dX10_rootOf_0 ?_
  refine V.istore_n C 2 dX10_rootOf_1 rfl (by decide) ?_
  refine V.lvs (lv' := [(0, Rf G 123), (1, .int (nI x)), (2, .int (nI x))]) rfl ?_
  exact loop (x + 1) x (by omega) hx rfl
set_option maxRecDepth 100000 in
set_option maxHeartbeats 4000000 in
theorem ct_M_fix (G : Gl) (σ : SS) (u : UF) (r v : Nat) (hU : RCm σ u) (hr : r < 128) (hroot : u.1 r = r) (hv : v < 2) : CV G mX10_fix [Rf G 123, .int (nI r), .int (nI v)] σ (fun σ1 => RCm σ1 (ufFix u r v) ∧ FM [21] [133] σ σ1) := by
  refine Ctr.of oX10_fix (Nat.le_of_ble_eq_true rfl) ?_
  intro X C R hnm hz0
  have C : Cx G X cX10_fix 3 RX10 0 0 0 0 := C
  have R : Cr G X none 0 0 _ := R
  show V G X 3 0 0 0 [(0, Rf G 123), (1, .int (nI r)), (2, .int (nI v))] [] (wld G σ)
  have kk_123 := sk_123
  have kk_124 := sk_124
  have kk_131 := sk_131
  have kk_132 := sk_132
  have kk_133 := sk_133
  refine V.aload_n C 0 rfl rfl dX10_fix_0 ?_
  refine V.aload_n C 0 rfl rfl dX10_fix_1 ?_
  refine V.getI C fX10_200 dX10_fix_2 (by assumption) rfl ?_
  rw [hU.2.2.1]
  refine V.if_ne C 29 dX10_fix_5 rfl (fun hb_5 => ?_) (fun hb_5 => ?_)
  · have zb_ : u.2.2 = false := by have := bI_ne0 hb_5; cases h : u.2.2 <;> simp_all
    refine V.iconst C (nI 1) c_1 dX10_fix_29 ?_
    refine V.goto C 34 dX10_fix_30 rfl ?_
    refine V.putZ C fX10_200 dX10_fix_34 (by assumption) rfl (by first | exact Or.inl rfl | exact Or.inr rfl | exact bI01 _) ?_
    refine V.aload_n C 0 rfl rfl dX10_fix_37 ?_
    refine V.getR C fX10_38 dX10_fix_38 (by assumption) rfl ?_
    refine V.iload_n C 1 rfl rfl dX10_fix_41 ?_
    refine V.iload_n C 2 rfl rfl dX10_fix_42 ?_
    refine V.iastN C dX10_fix_43 (by assumption) (by omega) ?_
    exact V.vretS C R dX10_fix_44 (by
      have hUF : (ufFix u r v).1 = u.1 ∧ (ufFix u r v).2.2 = false ∧ (ufFix u r v).2.1 r ≠ none ∧ (∀ y, y ≠ r → (ufFix u r v).2.1 y = u.2.1 y) ∧ (false = true → (ufFix u r v).2.1 r = some v) ∧ (∀ y w, (ufFix u r v).2.1 y = some w → w < 2) := by
        cases hq : u.2.1 r with
        | none =>
          rw [ufFix_n hq]
          exact ⟨rfl, zb_, by show va_up u.2.1 r (some v) r ≠ none; rw [up_eq]; simp, fun y hy => up_ne _ _ hy, fun q => absurd q (by decide), fun y w hw => by
            have hw : va_up u.2.1 r (some v) y = some w := hw
            by_cases e : y = r
            · rw [e, up_eq] at hw; injection hw with hw; omega
            · rw [up_ne _ _ e] at hw; exact hU.2.2.2 y w hw⟩
        | some w0 =>
          rw [ufFix_s hq]
          exact ⟨rfl, by show (u.2.2 && _) = false; rw [zb_]; rfl, by show u.2.1 r ≠ none; rw [hq]; simp, fun y hy => rfl, fun q => absurd q (by decide), fun y w hw => hU.2.2.2 y w hw⟩
      obtain ⟨g1, g2, g3, g4, g5, g6⟩ := hUF
      refine ⟨⟨?_, fun y hy hry => ?_, ?_, g6⟩, ((FM.refl _ _ _).sF _ (by decide)).sA _ (by decide)⟩
      · rw [g1, sA_ne _ _ (by decide)]; exact hU.1
      · rw [g1] at hry
        rw [sA_A]
        by_cases e : y = r
        · rw [e, up_eq]
          refine ⟨fun q => absurd q g3, fun w hw => ⟨v, hv, rfl, fun q => ?_⟩⟩
          rw [g2] at q
          have := g5 q
          rw [this] at hw
          injection hw
        · rw [up_ne _ _ e, g4 y e]
          obtain ⟨a1, a2⟩ := hU.2.1 y hy hry
          refine ⟨a1, fun w hw => ?_⟩
          obtain ⟨w', b1, b2, b3⟩ := a2 w hw
          refine ⟨w', b1, b2, fun q => b3 ?_⟩
          rw [g2] at q
          exact absurd q (by decide)
      · rw [g2]; exact sF_F σ 123 21 _)
  · have zb_ : u.2.2 = true := by have := bI_eq0 hb_5; cases h : u.2.2 <;> simp_all
    refine V.aload_n C 0 rfl rfl dX10_fix_8 ?_
    refine V.getR C fX10_38 dX10_fix_9 (by assumption) rfl ?_
    refine V.iload_n C 1 rfl rfl dX10_fix_12 ?_
    refine V.ialdN C dX10_fix_13 (by assumption) (by omega) ?_
    refine V.bipush C ((-9)) b_m9 dX10_fix_14 ?_
    refine V.icmp_eq C 33 dX10_fix_16 rfl (fun hb_16 => ?_) (fun hb_16 => ?_)
    · have zn_ : u.2.1 r = none := by
        cases hq : u.2.1 r with
        | none => rfl
        | some w =>
          obtain ⟨w1, w2, w3, _⟩ := (hU.2.1 r hr hroot).2 w hq
          rw [w3] at hb_16
          exact absurd hb_16 (nI_ne_m9 (by omega))
      refine V.iconst C (nI 0) c_0 dX10_fix_33 ?_
      refine V.putZ C fX10_200 dX10_fix_34 (by assumption) rfl (by first | exact Or.inl rfl | exact Or.inr rfl | exact bI01 _) ?_
      refine V.aload_n C 0 rfl rfl dX10_fix_37 ?_
      refine V.getR C fX10_38 dX10_fix_38 (by assumption) rfl ?_
      refine V.iload_n C 1 rfl rfl dX10_fix_41 ?_
      refine V.iload_n C 2 rfl rfl dX10_fix_42 ?_
      refine V.iastN C dX10_fix_43 (by assumption) (by omega) ?_
      exact V.vretS C R dX10_fix_44 (by
        have hUF : (ufFix u r v).1 = u.1 ∧ (ufFix u r v).2.2 = true ∧ (ufFix u r v).2.1 r ≠ none ∧ (∀ y, y ≠ r → (ufFix u r v).2.1 y = u.2.1 y) ∧ (true = true → (ufFix u r v).2.1 r = some v) ∧ (∀ y w, (ufFix u r v).2.1 y = some w → w < 2) := by
          rw [ufFix_n zn_]
          exact ⟨rfl, zb_, by show va_up u.2.1 r (some v) r ≠ none; rw [up_eq]; simp, fun y hy => up_ne _ _ hy, fun _ => up_eq _ _ _, fun y w hw => by
              have hw : va_up u.2.1 r (some v) y = some w := hw
              by_cases e : y = r
              · rw [e, up_eq] at hw; injection hw with hw; omega
              · rw [up_ne _ _ e] at hw; exact hU.2.2.2 y w hw⟩
        obtain ⟨g1, g2, g3, g4, g5, g6⟩ := hUF
        refine ⟨⟨?_, fun y hy hry => ?_, ?_, g6⟩, ((FM.refl _ _ _).sF _ (by decide)).sA _ (by decide)⟩
        · rw [g1, sA_ne _ _ (by decide)]; exact hU.1
        · rw [g1] at hry
          rw [sA_A]
          by_cases e : y = r
          · rw [e, up_eq]
            refine ⟨fun q => absurd q g3, fun w hw => ⟨v, hv, rfl, fun q => ?_⟩⟩
            rw [g2] at q
            have := g5 q
            rw [this] at hw
            injection hw
          · rw [up_ne _ _ e, g4 y e]
            obtain ⟨a1, a2⟩ := hU.2.1 y hy hry
            refine ⟨a1, fun w hw => ?_⟩
            obtain ⟨w', b1, b2, b3⟩ := a2 w hw
            refine ⟨w', b1, b2, fun q => b3 ?_⟩
            rw [g2] at q
            exact zb_
        · rw [g2]; exact sF_F σ 123 21 _)
    · obtain ⟨w, zn_⟩ : ∃ w, u.2.1 r = some w := by
        cases hq : u.2.1 r with
        | none => exact absurd ((hU.2.1 r hr hroot).1 hq) hb_16
        | some w => exact ⟨w, rfl⟩
      obtain ⟨w1_, w2_, w3_, w4_⟩ := (hU.2.1 r hr hroot).2 w zn_
      have w4_ := w4_ zb_
      subst w4_
      refine V.aload_n C 0 rfl rfl dX10_fix_19 ?_
      refine V.getR C fX10_38 dX10_fix_20 (by assumption) rfl ?_
      refine V.iload_n C 1 rfl rfl dX10_fix_23 ?_
      refine V.ialdN C dX10_fix_24 (by assumption) (by omega) ?_
      refine V.iload_n C 2 rfl rfl dX10_fix_25 ?_
      refine V.icmp_eq C 33 dX10_fix_26 rfl (fun hb_26 => ?_) (fun hb_26 => ?_)
      · have zw_ : w1_ = v := by
          have h := hb_26
          rw [w3_] at h
          exact nI_pe (by omega) (by omega) h
        refine V.iconst C (nI 0) c_0 dX10_fix_33 ?_
        refine V.putZ C fX10_200 dX10_fix_34 (by assumption) rfl (by first | exact Or.inl rfl | exact Or.inr rfl | exact bI01 _) ?_
        refine V.aload_n C 0 rfl rfl dX10_fix_37 ?_
        refine V.getR C fX10_38 dX10_fix_38 (by assumption) rfl ?_
        refine V.iload_n C 1 rfl rfl dX10_fix_41 ?_
        refine V.iload_n C 2 rfl rfl dX10_fix_42 ?_
        refine V.iastN C dX10_fix_43 (by assumption) (by omega) ?_
        exact V.vretS C R dX10_fix_44 (by
          have hUF : (ufFix u r v).1 = u.1 ∧ (ufFix u r v).2.2 = true ∧ (ufFix u r v).2.1 r ≠ none ∧ (∀ y, y ≠ r → (ufFix u r v).2.1 y = u.2.1 y) ∧ (true = true → (ufFix u r v).2.1 r = some v) ∧ (∀ y w, (ufFix u r v).2.1 y = some w → w < 2) := by
            rw [ufFix_s zn_]
            exact ⟨rfl, by show (u.2.2 && decide (w1_ = v)) = true; rw [zb_, decide_eq_true zw_]; rfl, by show u.2.1 r ≠ none; rw [zn_]; simp, fun y hy => rfl, fun _ => by show u.2.1 r = some v; rw [zn_, zw_], fun y w hw => hU.2.2.2 y w hw⟩
          obtain ⟨g1, g2, g3, g4, g5, g6⟩ := hUF
          refine ⟨⟨?_, fun y hy hry => ?_, ?_, g6⟩, ((FM.refl _ _ _).sF _ (by decide)).sA _ (by decide)⟩
          · rw [g1, sA_ne _ _ (by decide)]; exact hU.1
          · rw [g1] at hry
            rw [sA_A]
            by_cases e : y = r
            · rw [e, up_eq]
              refine ⟨fun q => absurd q g3, fun w hw => ⟨v, hv, rfl, fun q => ?_⟩⟩
              rw [g2] at q
              have := g5 q
              rw [this] at hw
              injection hw
            · rw [up_ne _ _ e, g4 y e]
              obtain ⟨a1, a2⟩ := hU.2.1 y hy hry
              refine ⟨a1, fun w hw => ?_⟩
              obtain ⟨w', b1, b2, b3⟩ := a2 w hw
              refine ⟨w', b1, b2, fun q => b3 ?_⟩
              rw [g2] at q
              exact zb_
          · rw [g2]; exact sF_F σ 123 21 _)
      · have zw_ : ¬ w1_ = v := fun q => hb_26 (by rw [w3_, q])
        refine V.iconst C (nI 1) c_1 dX10_fix_29 ?_
        refine V.goto C 34 dX10_fix_30 rfl ?_
        refine V.putZ C fX10_200 dX10_fix_34 (by assumption) rfl (by first | exact Or.inl rfl | exact Or.inr rfl | exact bI01 _) ?_
        refine V.aload_n C 0 rfl rfl dX10_fix_37 ?_
        refine V.getR C fX10_38 dX10_fix_38 (by assumption) rfl ?_
        refine V.iload_n C 1 rfl rfl dX10_fix_41 ?_
        refine V.iload_n C 2 rfl rfl dX10_fix_42 ?_
        refine V.iastN C dX10_fix_43 (by assumption) (by omega) ?_
        exact V.vretS C R dX10_fix_44 (by
          have hUF : (ufFix u r v).1 = u.1 ∧ (ufFix u r v).2.2 = false ∧ (ufFix u r v).2.1 r ≠ none ∧ (∀ y, y ≠ r → (ufFix u r v).2.1 y = u.2.1 y) ∧ (false = true → (ufFix u r v).2.1 r = some v) ∧ (∀ y w, (ufFix u r v).2.1 y = some w → w < 2) := by
            rw [ufFix_s zn_]
            exact ⟨rfl, by show (u.2.2 && decide (w1_ = v)) = false; rw [zb_, decide_eq_false zw_]; rfl, by show u.2.1 r ≠ none; rw [zn_]; simp, fun y hy => rfl, fun q => absurd q (by decide), fun y w hw => hU.2.2.2 y w hw⟩
          obtain ⟨g1, g2, g3, g4, g5, g6⟩ := hUF
          refine ⟨⟨?_, fun y hy hry => ?_, ?_, g6⟩, ((FM.refl _ _ _).sF _ (by decide)).sA _ (by decide)⟩
          · rw [g1, sA_ne _ _ (by decide)]; exact hU.1
          · rw [g1] at hry
            rw [sA_A]
            by_cases e : y = r
            · rw [e, up_eq]
              refine ⟨fun q => absurd q g3, fun w hw => ⟨v, hv, rfl, fun q => ?_⟩⟩
              rw [g2] at q
              have := g5 q
              rw [this] at hw
              injection hw
            · rw [up_ne _ _ e, g4 y e]
              obtain ⟨a1, a2⟩ := hU.2.1 y hy hry
              refine ⟨a1, fun w hw => ?_⟩
              obtain ⟨w', b1, b2, b3⟩ := a2 w hw
              refine ⟨w', b1, b2, fun q => b3 ?_⟩
              rw [g2] at q
              exact absurd q (by decide)
          · rw [g2]; exact sF_F σ 123 21 _)
