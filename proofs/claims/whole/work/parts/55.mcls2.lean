/-! The model's join, equate. -/
theorem RCm.bits {σ : SS} {u : UF} (h : RCm σ u) {x : Nat} (hx : x < 128) : u.1 x < 128 ∧ u.1 (u.1 x) = u.1 x := by
  obtain ⟨⟨p, hp, hg⟩, -⟩ := h
  exact ⟨Nat.lt_of_le_of_lt (hg.rt_le hx) hx, hg.rt_rt hx⟩
theorem RCm.move {σ : SS} {u : UF} {lo hi : Nat} (h : RCm σ u) (hlt : lo < hi) (hhi : hi < 128) (e1 : u.1 lo = lo) (e2 : u.1 hi = hi) : RCm (sA σ 132 (va_up (σ.2.1 132) hi (nI lo))) (ufMove u lo hi) := by
  obtain ⟨⟨p, hp, hg⟩, h2, h3, h4⟩ := h
  refine ⟨⟨va_up p hi lo, fun x hx => ?_, hg.join hlt hhi e1 e2⟩, fun x hx hr => ?_, h3, h4⟩
  · rw [sA_A]
    by_cases e : x = hi
    · rw [e, up_eq, up_eq]
    · rw [up_ne _ _ e, up_ne _ _ e]; exact hp x hx
  · rw [sA_ne _ _ (by decide)]
    have hr : (if u.1 x = hi then lo else u.1 x) = x := hr
    split at hr
    · rename_i q; rw [← hr, e1] at q; omega
    · exact h2 x hx hr
theorem RCm.weak {σ : SS} {u : UF} {r v w : Nat} (hu : u.2.2 = false) (h : RCm σ (ufFix u r v)) (hw : w < 2) : RCm σ (ufFix u r w) := by
  cases hq : u.2.1 r with
  | some w0 =>
    rw [ufFix_s hq] at h ⊢
    rw [hu] at h ⊢
    exact h
  | none =>
    rw [ufFix_n hq] at h ⊢
    obtain ⟨h1, h2, h3, h4⟩ := h
    refine ⟨h1, fun x hx hr => ?_, h3, fun x y hy => ?_⟩
    · obtain ⟨a1, a2⟩ := h2 x hx hr
      by_cases e : x = r
      · refine ⟨fun q => ?_, fun y hy => ?_⟩
        · have q : va_up u.2.1 r (some w) x = none := q
          rw [e, up_eq] at q; cases q
        · obtain ⟨v', b1, b2, b3⟩ := a2 v (by show va_up u.2.1 r (some v) x = some v; rw [e, up_eq])
          exact ⟨v', b1, b2, fun z => absurd (hu.symm.trans z) (by decide)⟩
      · have en : va_up u.2.1 r (some w) x = va_up u.2.1 r (some v) x := by rw [up_ne _ _ e, up_ne _ _ e]
        exact ⟨fun q => a1 (en.symm.trans q), fun y hy => a2 y (en.symm.trans hy)⟩
    · have hy : va_up u.2.1 r (some w) x = some y := hy
      by_cases e : x = r
      · rw [e, up_eq] at hy; injection hy with hy; omega
      · rw [up_ne _ _ e] at hy
        exact h4 x y (by show va_up u.2.1 r (some v) x = some y; rw [up_ne _ _ e]; exact hy)
set_option maxRecDepth 100000 in
set_option maxHeartbeats 4000000 in
theorem ct_M_join (G : Gl) (σ : SS) (u : UF) (a b : Nat) (hU : RCm σ u) (ha : a < 128) (hb : b < 128) (ea : u.1 a = a) (eb : u.1 b = b) : CV G mX10_join [Rf G 123, .int (nI a), .int (nI b)] σ (fun σ1 => RCm σ1 (ufJoin u a b) ∧ FM [21] [132, 133] σ σ1) := by
  refine Ctr.of oX10_join (Nat.le_of_ble_eq_true rfl) ?_
  intro X C R hnm hz0
  have C : Cx G X cX10_join 5 RX10 1 22 0 0 := C
  have R : Cr G X none 0 0 _ := R
  show V G X 5 0 0 0 [(0, Rf G 123), (1, .int (nI a)), (2, .int (nI b))] [] (wld G σ)
  have kk_123 := sk_123
  have kk_124 := sk_124
  have kk_131 := sk_131
  have kk_132 := sk_132
  have kk_133 := sk_133
  have t23 : ∀ (lo hi : Nat), lo ≤ hi → hi < 128 → u.1 lo = lo → u.1 hi = hi → ufJoin u a b = (if lo = hi then u else ufFixO (ufMove u lo hi) lo (u.2.1 hi)) → V G X 5 0 0 23 [(0, Rf G 123), (1, .int (nI a)), (2, .int (nI b)), (3, .int (nI lo)), (4, .int (nI hi))] [] (wld G σ) := by
    intro lo hi hle hhi el eh hj
    refine V.iload_n C 3 rfl rfl dX10_join_23 ?_
    refine V.iload C rfl dX10_join_24 ?_
    refine V.icmp_eq C 61 dX10_join_26 rfl (fun hb_26 => ?_) (fun hb_26 => ?_)
    · have ze_ : lo = hi := nI_pe (by omega) (by omega) hb_26
      exact V.vretS C R dX10_join_61 ⟨by rw [hj, if_pos ze_]; exact hU, FM.refl _ _ _⟩
    · have ze_ : lo < hi := by
        rcases Nat.lt_or_ge lo hi with q | q
        · exact q
        · exact absurd (by rw [show lo = hi by omega]) hb_26
      have hM_ := hU.move ze_ hhi el eh
      have fx_ := hU.2.1 hi hhi eh
      refine V.aload_n C 0 rfl rfl dX10_join_29 ?_
      refine V.getR C fX10_35 dX10_join_30 (by assumption) rfl ?_
      refine V.iload C rfl dX10_join_33 ?_
      refine V.iload_n C 3 rfl rfl dX10_join_35 ?_
      refine V.iastN C dX10_join_36 (by assumption) (by omega) ?_
      refine V.aload_n C 0 rfl rfl dX10_join_37 ?_
      refine V.getR C fX10_38 dX10_join_38 (by assumption) rfl ?_
      refine V.iload C rfl dX10_join_41 ?_
      refine V.ialdN C dX10_join_43 (by assumption) (by omega) ?_
      rw [sA_ne _ _ (by decide)]
      refine V.bipush C ((-9)) b_m9 dX10_join_44 ?_
      refine V.icmp_eq C 61 dX10_join_46 rfl (fun hb_46 => ?_) (fun hb_46 => ?_)
      · have zn_ : u.2.1 hi = none := by
          cases hq : u.2.1 hi with
          | none => rfl
          | some w =>
            obtain ⟨w1, w2, w3, _⟩ := fx_.2 w hq
            exact absurd (w3.symm.trans hb_46) (nI_ne_m9 (by omega))
        exact V.vretS C R dX10_join_61 ⟨by rw [hj, if_neg (by omega), zn_]; exact hM_, (FM.refl [21] [132, 133] σ).sA _ (by decide)⟩
      · obtain ⟨w, zn_⟩ : ∃ w, u.2.1 hi = some w := by
          cases hq : u.2.1 hi with
          | none => exact absurd (fx_.1 hq) hb_46
          | some w => exact ⟨w, rfl⟩
        obtain ⟨w1_, w2_, w3_, w4_⟩ := fx_.2 w zn_
        refine V.aload_n C 0 rfl rfl dX10_join_49 ?_
        refine V.iload_n C 3 rfl rfl dX10_join_50 ?_
        refine V.aload_n C 0 rfl rfl dX10_join_51 ?_
        refine V.getR C fX10_38 dX10_join_52 (by assumption) rfl ?_
        refine V.iload C rfl dX10_join_55 ?_
        refine V.ialdN C dX10_join_57 (by assumption) (by omega) ?_
        rw [sA_ne _ _ (by decide), w3_]
        refine V.cVv C lX10_206 oX10_fix dX10_join_58 (ct_M_fix G _ (ufMove u lo hi) lo w1_ hM_ (by omega) (by show (if u.1 lo = hi then lo else u.1 lo) = lo; rw [if_neg (by omega)]; exact el) w2_) (by assumption) rfl rfl (Nat.le_of_ble_eq_true rfl) ⟨Nat.le_of_ble_eq_true rfl, Nat.le_of_ble_eq_true rfl⟩ ⟨Nat.le_of_ble_eq_true rfl, Nat.le_of_ble_eq_true rfl⟩ (fun σ58 pp_58 => ?_)
        exact V.vretS C R dX10_join_61 (by
          refine ⟨?_, ((FM.refl [21] [132, 133] σ).sA _ (by decide)).trans (pp_58.2.mono (by decide) (by decide))⟩
          rw [hj, if_neg (by omega), zn_]
          show RCm σ58 (ufFix (ufMove u lo hi) lo w)
          cases hq : u.2.2 with
          | true => rw [← w4_ hq]; exact pp_58.1
          | false => exact RCm.weak hq pp_58.1 (hU.2.2.2 hi w zn_))
  refine V.iload_n C 1 rfl rfl dX10_join_0 ?_
  refine V.iload_n C 2 rfl rfl dX10_join_1 ?_
  refine V.icmp_ge C 9 dX10_join_2 rfl (fun hb_2 => ?_) (fun hb_2 => ?_)
  · have z_ := (nI_leI (by omega) (by omega)).mp hb_2
    refine V.iload_n C 2 rfl rfl dX10_join_9 ?_
    refine V.istore_n C 3 dX10_join_10 rfl (by decide) ?_
    refine V.iload_n C 1 rfl rfl dX10_join_11 ?_
    refine V.iload_n C 2 rfl rfl dX10_join_12 ?_
    refine V.icmp_ge C 20 dX10_join_13 rfl (fun hb_13 => ?_) (fun hb_13 => ?_)
    · refine V.iload_n C 1 rfl rfl dX10_join_20 ?_
      refine V.istore C dX10_join_21 (by decide) ?_
      refine V.lvs (lv' := [(0, Rf G 123), (1, .int (nI a)), (2, .int (nI b)), (3, .int (nI b)), (4, .int (nI a))]) rfl ?_
      refine t23 b a (by omega) (by omega) eb ea ?_
      unfold ufJoin
      rw [Nat.min_eq_right z_, Nat.max_eq_left z_]
      by_cases e : a = b
      · rw [if_pos e, if_pos e.symm]
      · rw [if_neg e, if_neg (fun q => e q.symm)]
    · exact absurd hb_2 hb_13
  · have z_ : a < b := Nat.lt_of_not_le (fun q => hb_2 (nI_le q (by omega)))
    refine V.iload_n C 1 rfl rfl dX10_join_5 ?_
    refine V.goto C 10 dX10_join_6 rfl ?_
    refine V.istore_n C 3 dX10_join_10 rfl (by decide) ?_
    refine V.iload_n C 1 rfl rfl dX10_join_11 ?_
    refine V.iload_n C 2 rfl rfl dX10_join_12 ?_
    refine V.icmp_ge C 20 dX10_join_13 rfl (fun hb_13 => ?_) (fun hb_13 => ?_)
    · exact absurd hb_13 hb_2
    · refine V.iload_n C 2 rfl rfl dX10_join_16 ?_
      refine V.goto C 21 dX10_join_17 rfl ?_
      refine V.istore C dX10_join_21 (by decide) ?_
      refine V.lvs (lv' := [(0, Rf G 123), (1, .int (nI a)), (2, .int (nI b)), (3, .int (nI a)), (4, .int (nI b))]) rfl ?_
      refine t23 a b (by omega) (by omega) ea eb ?_
      unfold ufJoin
      rw [Nat.min_eq_left (by omega), Nat.max_eq_right (by omega)]
set_option maxRecDepth 100000 in
set_option maxHeartbeats 4000000 in
theorem ct_M_equate (G : Gl) (σ : SS) (u : UF) (a b : Nat) (hU : RCm σ u) (ha : okB a) (hb : okB b) : CV G mX10_equate [Rf G 123, .int (nI a), .int (nI b)] σ (fun σ1 => RCm σ1 (ufEq u a b) ∧ FM [21] [132, 133] σ σ1) := by
  refine Ctr.of oX10_equate (Nat.le_of_ble_eq_true rfl) ?_
  intro X C R hnm hz0
  have C : Cx G X cX10_equate 3 RX10 2 46 0 0 := C
  have R : Cr G X none 0 0 _ := R
  show V G X 3 0 0 0 [(0, Rf G 123), (1, .int (nI a)), (2, .int (nI b))] [] (wld G σ)
  have kk_123 := sk_123
  have kk_124 := sk_124
  have kk_131 := sk_131
  have kk_132 := sk_132
  have kk_133 := sk_133
  have a16_ := ha.1
  have b16_ := hb.1
  refine V.aload_n C 0 rfl rfl dX10_equate_0 ?_
  refine V.iload_n C 1 rfl rfl dX10_equate_1 ?_
  refine V.cVi C lX10_165 oX10_isOfVariable dX10_equate_2 (ct_M_isOV G σ a ha.1) (by assumption) rfl rfl (Nat.le_of_ble_eq_true rfl) ⟨Nat.le_of_ble_eq_true rfl, Nat.le_of_ble_eq_true rfl⟩ ⟨Nat.le_of_ble_eq_true rfl, Nat.le_of_ble_eq_true rfl⟩ (fun rr_2 σ2 pp_2 => ?_)
  obtain ⟨ee_2, ff_2⟩ := pp_2
  rw [ee_2, ff_2]
  refine V.if_ne C 48 dX10_equate_5 rfl (fun hb_5 => ?_) (fun hb_5 => ?_)
  · have va_ : isV a = true := bI_ne0 hb_5
    refine V.aload_n C 0 rfl rfl dX10_equate_48 ?_
    refine V.iload_n C 1 rfl rfl dX10_equate_49 ?_
    refine V.cVi C lX10_165 oX10_isOfVariable dX10_equate_50 (ct_M_isOV G σ a ha.1) (by assumption) rfl rfl (Nat.le_of_ble_eq_true rfl) ⟨Nat.le_of_ble_eq_true rfl, Nat.le_of_ble_eq_true rfl⟩ ⟨Nat.le_of_ble_eq_true rfl, Nat.le_of_ble_eq_true rfl⟩ (fun rr_50 σ50 pp_50 => ?_)
    obtain ⟨ee_50, ff_50⟩ := pp_50
    rw [ee_50, ff_50]
    refine V.if_ne C 76 dX10_equate_53 rfl (fun hb_53 => ?_) (fun hb_53 => ?_)
    · have va2_ : isV a = true := bI_ne0 hb_53
      refine V.aload_n C 0 rfl rfl dX10_equate_76 ?_
      refine V.iload_n C 2 rfl rfl dX10_equate_77 ?_
      refine V.cVi C lX10_165 oX10_isOfVariable dX10_equate_78 (ct_M_isOV G σ b hb.1) (by assumption) rfl rfl (Nat.le_of_ble_eq_true rfl) ⟨Nat.le_of_ble_eq_true rfl, Nat.le_of_ble_eq_true rfl⟩ ⟨Nat.le_of_ble_eq_true rfl, Nat.le_of_ble_eq_true rfl⟩ (fun rr_78 σ78 pp_78 => ?_)
      obtain ⟨ee_78, ff_78⟩ := pp_78
      rw [ee_78, ff_78]
      refine V.if_ne C 104 dX10_equate_81 rfl (fun hb_81 => ?_) (fun hb_81 => ?_)
      · have vb2_ : isV b = true := bI_ne0 hb_81
        refine V.aload_n C 0 rfl rfl dX10_equate_104 ?_
        refine V.aload_n C 0 rfl rfl dX10_equate_105 ?_
        refine V.iload_n C 1 rfl rfl dX10_equate_106 ?_
        refine V.cSi C lX10_168 oX10_variableBit dX10_equate_107 (ct_M_vb G σ a ha.1 va_) rfl rfl (Nat.le_of_ble_eq_true rfl) ⟨Nat.le_of_ble_eq_true rfl, Nat.le_of_ble_eq_true rfl⟩ ⟨Nat.le_of_ble_eq_true rfl, Nat.le_of_ble_eq_true rfl⟩ (fun rr_107 σ107 pp_107 => ?_)
        obtain ⟨ee_107, ff_107⟩ := pp_107
        rw [ee_107, ff_107]
        refine V.cVi C lX10_203 oX10_rootOf dX10_equate_110 (ct_M_rootOf G σ u (vb a) hU (vb_lt ha va_)) (by assumption) rfl rfl (Nat.le_of_ble_eq_true rfl) ⟨Nat.le_of_ble_eq_true rfl, Nat.le_of_ble_eq_true rfl⟩ ⟨Nat.le_of_ble_eq_true rfl, Nat.le_of_ble_eq_true rfl⟩ (fun rr_110 σ110 pp_110 => ?_)
        obtain ⟨ee_110, ff_110⟩ := pp_110
        rw [ee_110, ff_110]
        refine V.aload_n C 0 rfl rfl dX10_equate_113 ?_
        refine V.iload_n C 2 rfl rfl dX10_equate_114 ?_
        refine V.cSi C lX10_168 oX10_variableBit dX10_equate_115 (ct_M_vb G σ b hb.1 vb2_) rfl rfl (Nat.le_of_ble_eq_true rfl) ⟨Nat.le_of_ble_eq_true rfl, Nat.le_of_ble_eq_true rfl⟩ ⟨Nat.le_of_ble_eq_true rfl, Nat.le_of_ble_eq_true rfl⟩ (fun rr_115 σ115 pp_115 => ?_)
        obtain ⟨ee_115, ff_115⟩ := pp_115
        rw [ee_115, ff_115]
        refine V.cVi C lX10_203 oX10_rootOf dX10_equate_118 (ct_M_rootOf G σ u (vb b) hU (vb_lt hb vb2_)) (by assumption) rfl rfl (Nat.le_of_ble_eq_true rfl) ⟨Nat.le_of_ble_eq_true rfl, Nat.le_of_ble_eq_true rfl⟩ ⟨Nat.le_of_ble_eq_true rfl, Nat.le_of_ble_eq_true rfl⟩ (fun rr_118 σ118 pp_118 => ?_)
        obtain ⟨ee_118, ff_118⟩ := pp_118
        rw [ee_118, ff_118]
        refine V.cVv C lX10_209 oX10_join dX10_equate_121 (ct_M_join G σ u (u.1 (vb a)) (u.1 (vb b)) hU (hU.bits (vb_lt ha va_)).1 (hU.bits (vb_lt hb vb2_)).1 (hU.bits (vb_lt ha va_)).2 (hU.bits (vb_lt hb vb2_)).2) (by assumption) rfl rfl (Nat.le_of_ble_eq_true rfl) ⟨Nat.le_of_ble_eq_true rfl, Nat.le_of_ble_eq_true rfl⟩ ⟨Nat.le_of_ble_eq_true rfl, Nat.le_of_ble_eq_true rfl⟩ (fun σ121 pp_121 => ?_)
        exact V.vretS C R dX10_equate_124 ⟨by rw [show ufEq u a b = ufJoin u (u.1 (vb a)) (u.1 (vb b)) by unfold ufEq; rw [if_pos va_, if_pos vb2_]]; exact pp_121.1, pp_121.2⟩
      · have vb2_ : isV b = false := bI_eq0 hb_81
        refine V.aload_n C 0 rfl rfl dX10_equate_84 ?_
        refine V.aload_n C 0 rfl rfl dX10_equate_85 ?_
        refine V.iload_n C 1 rfl rfl dX10_equate_86 ?_
        refine V.cSi C lX10_168 oX10_variableBit dX10_equate_87 (ct_M_vb G σ a ha.1 va_) rfl rfl (Nat.le_of_ble_eq_true rfl) ⟨Nat.le_of_ble_eq_true rfl, Nat.le_of_ble_eq_true rfl⟩ ⟨Nat.le_of_ble_eq_true rfl, Nat.le_of_ble_eq_true rfl⟩ (fun rr_87 σ87 pp_87 => ?_)
        obtain ⟨ee_87, ff_87⟩ := pp_87
        rw [ee_87, ff_87]
        refine V.cVi C lX10_203 oX10_rootOf dX10_equate_90 (ct_M_rootOf G σ u (vb a) hU (vb_lt ha va_)) (by assumption) rfl rfl (Nat.le_of_ble_eq_true rfl) ⟨Nat.le_of_ble_eq_true rfl, Nat.le_of_ble_eq_true rfl⟩ ⟨Nat.le_of_ble_eq_true rfl, Nat.le_of_ble_eq_true rfl⟩ (fun rr_90 σ90 pp_90 => ?_)
        obtain ⟨ee_90, ff_90⟩ := pp_90
        rw [ee_90, ff_90]
        refine V.iload_n C 2 rfl rfl dX10_equate_93 ?_
        refine V.sipush C (nI 256) s_256 dX10_equate_94 ?_
        refine V.irem C (by decide) dX10_equate_97 ?_
        rw [nI_rem (by omega) (by decide) (by decide)]
        refine V.cVv C lX10_206 oX10_fix dX10_equate_98 (ct_M_fix G σ u (u.1 (vb a)) (b % 256) hU (hU.bits (vb_lt ha va_)).1 (hU.bits (vb_lt ha va_)).2 (cst_lt hb vb2_)) (by assumption) rfl rfl (Nat.le_of_ble_eq_true rfl) ⟨Nat.le_of_ble_eq_true rfl, Nat.le_of_ble_eq_true rfl⟩ ⟨Nat.le_of_ble_eq_true rfl, Nat.le_of_ble_eq_true rfl⟩ (fun σ98 pp_98 => ?_)
        refine V.goto C 124 dX10_equate_101 rfl ?_
        exact V.vretS C R dX10_equate_124 ⟨by rw [show ufEq u a b = ufFix u (u.1 (vb a)) (b % 256) by unfold ufEq; rw [if_pos va_, if_neg (by rw [vb2_]; decide)]]; exact pp_98.1, pp_98.2.mono (by decide) (by decide)⟩
    · exact absurd (va_.symm.trans (bI_eq0 hb_53)) (by decide)
  · have va_ : isV a = false := bI_eq0 hb_5
    refine V.aload_n C 0 rfl rfl dX10_equate_8 ?_
    refine V.iload_n C 2 rfl rfl dX10_equate_9 ?_
    refine V.cVi C lX10_165 oX10_isOfVariable dX10_equate_10 (ct_M_isOV G σ b hb.1) (by assumption) rfl rfl (Nat.le_of_ble_eq_true rfl) ⟨Nat.le_of_ble_eq_true rfl, Nat.le_of_ble_eq_true rfl⟩ ⟨Nat.le_of_ble_eq_true rfl, Nat.le_of_ble_eq_true rfl⟩ (fun rr_10 σ10 pp_10 => ?_)
    obtain ⟨ee_10, ff_10⟩ := pp_10
    rw [ee_10, ff_10]
    refine V.if_ne C 48 dX10_equate_13 rfl (fun hb_13 => ?_) (fun hb_13 => ?_)
    · have vB_ : isV b = true := bI_ne0 hb_13
      refine V.aload_n C 0 rfl rfl dX10_equate_48 ?_
      refine V.iload_n C 1 rfl rfl dX10_equate_49 ?_
      refine V.cVi C lX10_165 oX10_isOfVariable dX10_equate_50 (ct_M_isOV G σ a ha.1) (by assumption) rfl rfl (Nat.le_of_ble_eq_true rfl) ⟨Nat.le_of_ble_eq_true rfl, Nat.le_of_ble_eq_true rfl⟩ ⟨Nat.le_of_ble_eq_true rfl, Nat.le_of_ble_eq_true rfl⟩ (fun rr_50 σ50 pp_50 => ?_)
      obtain ⟨ee_50, ff_50⟩ := pp_50
      rw [ee_50, ff_50]
      refine V.if_ne C 76 dX10_equate_53 rfl (fun hb_53 => ?_) (fun hb_53 => ?_)
      · exact absurd (va_.symm.trans (bI_ne0 hb_53)) (by decide)
      · have va2_ : isV a = false := bI_eq0 hb_53
        refine V.aload_n C 0 rfl rfl dX10_equate_56 ?_
        refine V.aload_n C 0 rfl rfl dX10_equate_57 ?_
        refine V.iload_n C 2 rfl rfl dX10_equate_58 ?_
        refine V.cSi C lX10_168 oX10_variableBit dX10_equate_59 (ct_M_vb G σ b hb.1 vB_) rfl rfl (Nat.le_of_ble_eq_true rfl) ⟨Nat.le_of_ble_eq_true rfl, Nat.le_of_ble_eq_true rfl⟩ ⟨Nat.le_of_ble_eq_true rfl, Nat.le_of_ble_eq_true rfl⟩ (fun rr_59 σ59 pp_59 => ?_)
        obtain ⟨ee_59, ff_59⟩ := pp_59
        rw [ee_59, ff_59]
        refine V.cVi C lX10_203 oX10_rootOf dX10_equate_62 (ct_M_rootOf G σ u (vb b) hU (vb_lt hb vB_)) (by assumption) rfl rfl (Nat.le_of_ble_eq_true rfl) ⟨Nat.le_of_ble_eq_true rfl, Nat.le_of_ble_eq_true rfl⟩ ⟨Nat.le_of_ble_eq_true rfl, Nat.le_of_ble_eq_true rfl⟩ (fun rr_62 σ62 pp_62 => ?_)
        obtain ⟨ee_62, ff_62⟩ := pp_62
        rw [ee_62, ff_62]
        refine V.iload_n C 1 rfl rfl dX10_equate_65 ?_
        refine V.sipush C (nI 256) s_256 dX10_equate_66 ?_
        refine V.irem C (by decide) dX10_equate_69 ?_
        rw [nI_rem (by omega) (by decide) (by decide)]
        refine V.cVv C lX10_206 oX10_fix dX10_equate_70 (ct_M_fix G σ u (u.1 (vb b)) (a % 256) hU (hU.bits (vb_lt hb vB_)).1 (hU.bits (vb_lt hb vB_)).2 (cst_lt ha va_)) (by assumption) rfl rfl (Nat.le_of_ble_eq_true rfl) ⟨Nat.le_of_ble_eq_true rfl, Nat.le_of_ble_eq_true rfl⟩ ⟨Nat.le_of_ble_eq_true rfl, Nat.le_of_ble_eq_true rfl⟩ (fun σ70 pp_70 => ?_)
        refine V.goto C 124 dX10_equate_73 rfl ?_
        exact V.vretS C R dX10_equate_124 ⟨by rw [show ufEq u a b = ufFix u (u.1 (vb b)) (a % 256) by unfold ufEq; rw [if_neg (by rw [va_]; decide), if_pos vB_]]; exact pp_70.1, pp_70.2.mono (by decide) (by decide)⟩
    · have vB_ : isV b = false := bI_eq0 hb_13
      refine V.aload_n C 0 rfl rfl dX10_equate_16 ?_
      refine V.aload_n C 0 rfl rfl dX10_equate_17 ?_
      refine V.getI C fX10_200 dX10_equate_18 (by assumption) rfl ?_
      rw [hU.2.2.1]
      refine V.if_ne C 37 dX10_equate_21 rfl (fun hb_21 => ?_) (fun hb_21 => ?_)
      · have zb_ : u.2.2 = false := by have := bI_ne0 hb_21; cases h : u.2.2 <;> simp_all
        refine V.iconst C (nI 1) c_1 dX10_equate_37 ?_
        refine V.goto C 42 dX10_equate_38 rfl ?_
        refine V.putZ C fX10_200 dX10_equate_42 (by assumption) rfl (by first | exact Or.inl rfl | exact Or.inr rfl | exact bI01 _) ?_
        refine V.goto C 124 dX10_equate_45 rfl ?_
        exact V.vretS C R dX10_equate_124 (by
          have e_ : ufEq u a b = (u.1, u.2.1, false) := by
            unfold ufEq
            rw [if_neg (by rw [va_]; decide), if_neg (by rw [vB_]; decide)]
            rw [show (u.2.2 && decide (a % 256 = b % 256)) = false from (by show (u.2.2 && decide (a % 256 = b % 256)) = false; rw [zb_]; rfl)]
          refine ⟨?_, (FM.refl _ _ _).sF _ (by decide)⟩
          rw [e_]
          refine ⟨hU.1, fun x hx hr => ⟨(hU.2.1 x hx hr).1, fun v hv => ?_⟩, sF_F σ 123 21 _, hU.2.2.2⟩
          obtain ⟨v', b1, b2, b3⟩ := (hU.2.1 x hx hr).2 v hv
          exact ⟨v', b1, b2, fun q => b3 (Bool.noConfusion (show false = true from q))⟩)
      · have zb_ : u.2.2 = true := by have := bI_eq0 hb_21; cases h : u.2.2 <;> simp_all
        refine V.iload_n C 1 rfl rfl dX10_equate_24 ?_
        refine V.sipush C (nI 256) s_256 dX10_equate_25 ?_
        refine V.irem C (by decide) dX10_equate_28 ?_
        rw [nI_rem (by omega) (by decide) (by decide)]
        refine V.iload_n C 2 rfl rfl dX10_equate_29 ?_
        refine V.sipush C (nI 256) s_256 dX10_equate_30 ?_
        refine V.irem C (by decide) dX10_equate_33 ?_
        rw [nI_rem (by omega) (by decide) (by decide)]
        refine V.icmp_eq C 41 dX10_equate_34 rfl (fun hb_34 => ?_) (fun hb_34 => ?_)
        · have ze_ : a % 256 = b % 256 := nI_pe (by omega) (by omega) hb_34
          refine V.iconst C (nI 0) c_0 dX10_equate_41 ?_
          refine V.putZ C fX10_200 dX10_equate_42 (by assumption) rfl (by first | exact Or.inl rfl | exact Or.inr rfl | exact bI01 _) ?_
          refine V.goto C 124 dX10_equate_45 rfl ?_
          exact V.vretS C R dX10_equate_124 (by
            have e_ : ufEq u a b = (u.1, u.2.1, true) := by
              unfold ufEq
              rw [if_neg (by rw [va_]; decide), if_neg (by rw [vB_]; decide)]
              rw [show (u.2.2 && decide (a % 256 = b % 256)) = true from (by show (u.2.2 && decide (a % 256 = b % 256)) = true; rw [zb_, decide_eq_true ze_]; rfl)]
            refine ⟨?_, (FM.refl _ _ _).sF _ (by decide)⟩
            rw [e_]
            refine ⟨hU.1, fun x hx hr => ⟨(hU.2.1 x hx hr).1, fun v hv => ?_⟩, sF_F σ 123 21 _, hU.2.2.2⟩
            obtain ⟨v', b1, b2, b3⟩ := (hU.2.1 x hx hr).2 v hv
            exact ⟨v', b1, b2, fun q => b3 zb_⟩)
        · have ze_ : ¬ a % 256 = b % 256 := fun q => hb_34 (by rw [q])
          refine V.iconst C (nI 1) c_1 dX10_equate_37 ?_
          refine V.goto C 42 dX10_equate_38 rfl ?_
          refine V.putZ C fX10_200 dX10_equate_42 (by assumption) rfl (by first | exact Or.inl rfl | exact Or.inr rfl | exact bI01 _) ?_
          refine V.goto C 124 dX10_equate_45 rfl ?_
          exact V.vretS C R dX10_equate_124 (by
            have e_ : ufEq u a b = (u.1, u.2.1, false) := by
              unfold ufEq
              rw [if_neg (by rw [va_]; decide), if_neg (by rw [vB_]; decide)]
              rw [show (u.2.2 && decide (a % 256 = b % 256)) = false from (by show (u.2.2 && decide (a % 256 = b % 256)) = false; rw [zb_, decide_eq_false ze_]; rfl)]
            refine ⟨?_, (FM.refl _ _ _).sF _ (by decide)⟩
            rw [e_]
            refine ⟨hU.1, fun x hx hr => ⟨(hU.2.1 x hx hr).1, fun v hv => ?_⟩, sF_F σ 123 21 _, hU.2.2.2⟩
            obtain ⟨v', b1, b2, b3⟩ := (hU.2.1 x hx hr).2 v hv
            exact ⟨v', b1, b2, fun q => b3 (Bool.noConfusion (show false = true from q))⟩)
