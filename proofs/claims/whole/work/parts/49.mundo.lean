/-! The model's undo, save, restore. -/
def udR (hs : List Prob) : Int32 := if hs.length = 0 then -2 else nI (hs.length - 1)
def udP (hs : List Prob) (P : Prob) : Prob := if hs.length = 0 then P else hs.getD (hs.length - 1) pb0
def udH (hs : List Prob) : List Prob := hs.take (hs.length - 1)
def svR (P : Prob) (x : Int32) : Int32 := if inB x 2 = true then nI (P.2.1.length + P.2.2.length) else -1
def svS (P : Prob) (sl : Nat → Option Prob) (x : Int32) : Nat → Option Prob := if inB x 2 = true then va_up sl x.toNatClampNeg (some P) else sl
def rsR (sl : Nat → Option Prob) (x : Int32) : Int32 := if inB x 2 = true then (match sl x.toNatClampNeg with
  | none => -2
  | some Q => nI (Q.2.1.length + Q.2.2.length)) else -1
def rsP (P : Prob) (sl : Nat → Option Prob) (x : Int32) : Prob := if inB x 2 = true then (sl x.toNatClampNeg).getD P else P
def rsH (hs : List Prob) (sl : Nat → Option Prob) (x : Int32) : List Prob := if inB x 2 = true ∧ ¬ sl x.toNatClampNeg = none then [] else hs
theorem getD_some {hs : List Prob} {i : Nat} (h : i < hs.length) : hs[i]? = some (hs.getD i pb0) := by
  rw [List.getD_eq_getElem?_getD, List.getElem?_eq_getElem h]; rfl
set_option maxRecDepth 100000 in
set_option maxHeartbeats 4000000 in
theorem ct_M_undo (G : Gl) (σ : SS) (P : Prob) (hs : List Prob) (hP : FP (σ.2.1 124) P) (hH : RHm σ hs) (hwH : wfH hs) : CI G mX10_undo [Rf G 123] σ (fun r σ1 => r = udR hs ∧ FP (σ1.2.1 124) (udP hs P) ∧ RHm σ1 (udH hs) ∧ FM [0, 4] [124] σ σ1) := by
  refine Ctr.of oX10_undo (Nat.le_of_ble_eq_true rfl) ?_
  intro X C R hnm hz0
  have C : Cx G X cX10_undo 2 RX10 0 0 0 0 := C
  have R : Cr G X (some .int) 0 0 _ := R
  show V G X 2 0 0 0 [(0, Rf G 123)] [] (wld G σ)
  have kk_123 := sk_123
  have kk_124 := sk_124
  have kk_125 := sk_125
  have kk_126 := sk_126
  have kk_127 := sk_127
  have kk_128 := sk_128
  have kk_129 := sk_129
  have kk_130 := sk_130
  have l6_ := hH.2.1
  have Fz_ : FM [0, 4] [] σ (sF (sF σ 123 0 (nI 0)) 123 4 (nI (hs.length - 1))) := ((FM.refl _ _ _).sF _ (by decide)).sF _ (by decide)
  have loop : ¬ hs.length = 0 → ∀ (m k : Nat) (σ1 : SS), 439 < k + m → k ≤ 439 → (∀ j, j < k → σ1.2.1 124 j = σ.2.1 126 (439 * (hs.length - 1) + j)) → FM [] [124] (sF (sF σ 123 0 (nI 0)) 123 4 (nI (hs.length - 1))) σ1 → V G X 2 0 0 27 [(0, Rf G 123), (1, .int (nI k))] [] (wld G σ1) := by
    intro hz m
    induction m with
    | zero =>
      intro k σ1 hm hk h1 hF1
      exact absurd hm (by omega)
    | succ m ih =>
      intro k σ1 hm hk h1 hF1
      refine V.iload_n C 1 rfl rfl dX10_undo_27 ?_
      refine V.sipush C (nI 439) s_439 dX10_undo_28 ?_
      refine V.icmp_ge C 61 dX10_undo_31 rfl (fun hb_31 => ?_) (fun hb_31 => ?_)
      · have zk_ : k = 439 := by have := (nI_leI (by decide) (by omega)).mp hb_31; omega
        refine V.aload_n C 0 rfl rfl dX10_undo_61 ?_
        refine V.getI C fX10_144 dX10_undo_62 (by assumption) rfl ?_
        rw [hF1.f (by decide), sF_F]
        exact V.iretS C R dX10_undo_65 (by
          subst zk_
          have g_ := getD_some (hs := hs) (i := hs.length - 1) (by omega)
          refine ⟨by unfold udR; rw [if_neg hz], ?_, ?_, (Fz_.mono (by decide) (by decide)).trans (hF1.mono (by decide) (by decide))⟩
          · unfold udP; rw [if_neg hz]
            exact (hH.2.2 _ _ g_).copy (hwH _ _ g_) (fun j hj => h1 j hj)
          · refine ⟨by rw [hF1.f (by decide), sF_F]; unfold udH; rw [List.length_take]; congr 1; omega, by unfold udH; rw [List.length_take]; omega, fun i Q hQ => ?_⟩
            unfold udH at hQ
            rw [List.getElem?_take] at hQ
            split at hQ
            · rw [hF1.a (by decide), Fz_.a (by decide)]; exact hH.2.2 i Q hQ
            · cases hQ)
      · have zk_ : k < 439 := Nat.lt_of_not_le (fun q => hb_31 (nI_le q (by omega)))
        refine V.aload_n C 0 rfl rfl dX10_undo_34 ?_
        refine V.getR C fX10_7 dX10_undo_35 (by assumption) rfl ?_
        refine V.iload_n C 1 rfl rfl dX10_undo_38 ?_
        refine V.aload_n C 0 rfl rfl dX10_undo_39 ?_
        refine V.getR C fX10_16 dX10_undo_40 (by assumption) rfl ?_
        refine V.sipush C (nI 439) s_439 dX10_undo_43 ?_
        refine V.aload_n C 0 rfl rfl dX10_undo_46 ?_
        refine V.getI C fX10_144 dX10_undo_47 (by assumption) rfl ?_
        rw [hF1.f (by decide), sF_F]
        refine V.imul C dX10_undo_50 ?_
        refine V.iload_n C 1 rfl rfl dX10_undo_51 ?_
        refine V.iadd C dX10_undo_52 ?_
        rw [nI_mul, nI_add]
        refine V.ialdN C dX10_undo_53 (by assumption) (by omega) ?_
        refine V.iastN C dX10_undo_54 (by assumption) (by omega) ?_
        refine V.iinc C (nI (k + 1)) dX10_undo_55 rfl (nI_1 k) (by decide) ?_
        refine V.goto C 27 dX10_undo_58 rfl ?_
        refine V.lvs (lv' := [(0, Rf G 123), (1, .int (nI (k + 1)))]) rfl ?_
        refine ih (k + 1) _ (by omega) (by omega) (fun j hj => ?_) (hF1.sA _ (by decide))
        rw [sA_A]
        by_cases e_ : j = k
        · rw [e_, up_eq, hF1.a (by decide)]; rfl
        · rw [up_ne _ _ (by omega)]; exact h1 j (by omega)
  refine V.aload_n C 0 rfl rfl dX10_undo_0 ?_
  refine V.iconst C (nI 0) c_0 dX10_undo_1 ?_
  refine V.putI C fX10_47 dX10_undo_2 (by assumption) rfl ?_
  refine V.aload_n C 0 rfl rfl dX10_undo_5 ?_
  refine V.getI C fX10_144 dX10_undo_6 (by assumption) rfl ?_
  rw [sF_ne _ _ (by omega), hH.1]
  refine V.if_ne C 15 dX10_undo_9 rfl (fun hb_9 => ?_) (fun hb_9 => ?_)
  · have z_ : ¬ hs.length = 0 := fun q => hb_9 (by rw [q]; rfl)
    refine V.aload_n C 0 rfl rfl dX10_undo_15 ?_
    refine V.dup C rfl dX10_undo_16 ?_
    refine V.getI C fX10_144 dX10_undo_17 (by assumption) rfl ?_
    rw [sF_ne _ _ (by omega), hH.1]
    refine V.iconst C (nI 1) c_1 dX10_undo_20 ?_
    refine V.isub C dX10_undo_21 ?_
    rw [nI_sub (by omega)]
    refine V.putI C fX10_144 dX10_undo_22 (by assumption) rfl ?_
    refine V.iconst C (nI 0) c_0 dX10_undo_25 ?_
    refine V.istore_n C 1 dX10_undo_26 rfl (by decide) ?_
    refine V.lvs (lv' := [(0, Rf G 123), (1, .int (nI 0))]) rfl ?_
    exact loop z_ 440 0 _ (by omega) (by omega) (fun j hj => absurd hj (by omega)) (FM.refl _ _ _)
  · have z_ : hs.length = 0 := nI_pe (by omega) (by decide) (show _ = nI 0 from hb_9)
    refine V.bipush C ((-2)) b_m2 dX10_undo_12 ?_
    exact V.iretS C R dX10_undo_14 ⟨by unfold udR; rw [if_pos z_], by unfold udP; rw [if_pos z_]; exact hP, by
      have e_ : udH hs = hs := by unfold udH; rw [List.take_of_length_le (by omega)]
      rw [e_]; exact hH.fm ((FM.refl [0] [] σ).sF _ (by decide)) (by decide) (by decide), (FM.refl _ _ _).sF _ (by decide)⟩
set_option maxRecDepth 100000 in
set_option maxHeartbeats 4000000 in
theorem ct_M_save (G : Gl) (σ : SS) (P : Prob) (sl : Nat → Option Prob) (x : Int32) (hP : FP (σ.2.1 124) P) (hwf : wfP P) (hS : RSm σ sl) (hwS : ∀ j Q, sl j = some Q → wfP Q) : CI G mX10_save [Rf G 123, .int x] σ (fun r σ1 => r = svR P x ∧ RSm σ1 (svS P sl x) ∧ FM [0] [127, 128] σ σ1) := by
  refine Ctr.of oX10_save (Nat.le_of_ble_eq_true rfl) ?_
  intro X C R hnm hz0
  have C : Cx G X cX10_save 3 RX10 1 22 0 0 := C
  have R : Cr G X (some .int) 0 0 _ := R
  show V G X 3 0 0 0 [(0, Rf G 123), (1, .int x)] [] (wld G σ)
  have kk_123 := sk_123
  have kk_124 := sk_124
  have kk_125 := sk_125
  have kk_126 := sk_126
  have kk_127 := sk_127
  have kk_128 := sk_128
  have kk_129 := sk_129
  have kk_130 := sk_130
  have loop : ∀ (v : Nat), v < 2 → x = nI v → inB x 2 = true → ∀ (m k : Nat) (σ1 : SS), 439 < k + m → k ≤ 439 → (∀ j, j < k → σ1.2.1 127 (439 * v + j) = σ.2.1 124 j) → (∀ j, (j < 439 * v ∨ 439 * v + 439 ≤ j) → σ1.2.1 127 j = σ.2.1 127 j) → FM [0] [127] σ σ1 → V G X 3 0 0 18 [(0, Rf G 123), (1, .int (nI v)), (2, .int (nI k))] [] (wld G σ1) := by
    intro v hv hxv hin m
    induction m with
    | zero =>
      intro k σ1 hm hk h1 h2 hF1
      exact absurd hm (by omega)
    | succ m ih =>
      intro k σ1 hm hk h1 h2 hF1
      refine V.iload_n C 2 rfl rfl dX10_save_18 ?_
      refine V.sipush C (nI 439) s_439 dX10_save_19 ?_
      refine V.icmp_ge C 49 dX10_save_22 rfl (fun hb_22 => ?_) (fun hb_22 => ?_)
      · have zk_ : k = 439 := by have := (nI_leI (by decide) (by omega)).mp hb_22; omega
        refine V.aload_n C 0 rfl rfl dX10_save_49 ?_
        refine V.getR C fX10_22 dX10_save_50 (by assumption) rfl ?_
        refine V.iload_n C 1 rfl rfl dX10_save_53 ?_
        refine V.iconst C (nI 1) c_1 dX10_save_54 ?_
        refine V.zastN C dX10_save_55 (by assumption) (by omega) (by first | exact Or.inl rfl | exact Or.inr rfl | exact bI01 _) ?_
        refine V.aload_n C 0 rfl rfl dX10_save_56 ?_
        refine V.getR C fX10_7 dX10_save_57 (by assumption) rfl ?_
        refine V.bipush C (nI 8) b_8 dX10_save_60 ?_
        refine V.ialdN C dX10_save_62 (by assumption) (by omega) ?_
        rw [show (sA σ1 128 (va_up (σ1.2.1 128) v (nI 1))).2.1 124 8 = nI P.2.1.length from (by rw [sA_ne _ _ (by decide), hF1.a (by decide)]; exact hP.2.1)]
        refine V.aload_n C 0 rfl rfl dX10_save_63 ?_
        refine V.getR C fX10_7 dX10_save_64 (by assumption) rfl ?_
        refine V.bipush C (nI 9) b_9 dX10_save_67 ?_
        refine V.ialdN C dX10_save_69 (by assumption) (by omega) ?_
        rw [show (sA σ1 128 (va_up (σ1.2.1 128) v (nI 1))).2.1 124 9 = nI P.2.2.length from (by rw [sA_ne _ _ (by decide), hF1.a (by decide)]; exact hP.2.2.1)]
        refine V.iadd C dX10_save_70 ?_
        rw [nI_add]
        exact V.iretS C R dX10_save_71 (by
          subst zk_
          refine ⟨by unfold svR; rw [if_pos hin], ?_, (hF1.mono (by decide) (by decide)).sA _ (by decide)⟩
          unfold svS; rw [if_pos hin, hxv, nI_toNat (by omega)]
          intro j hj
          by_cases e_ : j = v
          · rw [e_, up_eq]
            refine ⟨fun q => by simp at q, fun Q hQ => ?_⟩
            injection hQ with hQ
            subst hQ
            refine ⟨by rw [sA_A, up_eq]; rfl, ?_⟩
            rw [sA_ne _ _ (by decide)]
            exact hP.copy hwf (fun i hi => h1 i hi)
          · rw [up_ne _ _ e_]
            obtain ⟨a1, a2⟩ := hS j hj
            refine ⟨fun q => by rw [sA_A, up_ne _ _ e_, hF1.a (by decide)]; exact a1 q, fun Q hQ => ⟨by rw [sA_A, up_ne _ _ e_, hF1.a (by decide)]; exact (a2 Q hQ).1, ?_⟩⟩
            rw [sA_ne _ _ (by decide)]
            exact (a2 Q hQ).2.copy (hwS j Q hQ) (fun i hi => h2 _ (by omega)))
      · have zk_ : k < 439 := Nat.lt_of_not_le (fun q => hb_22 (nI_le q (by omega)))
        refine V.aload_n C 0 rfl rfl dX10_save_25 ?_
        refine V.getR C fX10_19 dX10_save_26 (by assumption) rfl ?_
        refine V.sipush C (nI 439) s_439 dX10_save_29 ?_
        refine V.iload_n C 1 rfl rfl dX10_save_32 ?_
        refine V.imul C dX10_save_33 ?_
        refine V.iload_n C 2 rfl rfl dX10_save_34 ?_
        refine V.iadd C dX10_save_35 ?_
        refine V.aload_n C 0 rfl rfl dX10_save_36 ?_
        refine V.getR C fX10_7 dX10_save_37 (by assumption) rfl ?_
        refine V.iload_n C 2 rfl rfl dX10_save_40 ?_
        refine V.ialdN C dX10_save_41 (by assumption) (by omega) ?_
        rw [nI_mul, nI_add]
        refine V.iastN C dX10_save_42 (by assumption) (by omega) ?_
        refine V.iinc C (nI (k + 1)) dX10_save_43 rfl (nI_1 k) (by decide) ?_
        refine V.goto C 18 dX10_save_46 rfl ?_
        refine V.lvs (lv' := [(0, Rf G 123), (1, .int (nI v)), (2, .int (nI (k + 1)))]) rfl ?_
        refine ih (k + 1) _ (by omega) (by omega) (fun j hj => ?_) (fun j hj => ?_) (hF1.sA _ (by decide))
        · rw [sA_A]
          by_cases e_ : j = k
          · rw [e_, up_eq, hF1.a (by decide)]
          · rw [up_ne _ _ (by omega)]; exact h1 j (by omega)
        · rw [sA_A, up_ne _ _ (by omega)]; exact h2 j hj
  refine V.aload_n C 0 rfl rfl dX10_save_0 ?_
  refine V.iconst C (nI 0) c_0 dX10_save_1 ?_
  refine V.putI C fX10_47 dX10_save_2 (by assumption) rfl ?_
  refine V.iload_n C 1 rfl rfl dX10_save_5 ?_
  refine V.iconst C (nI 0) c_0 dX10_save_6 ?_
  refine V.iconst C (nI 1) c_1 dX10_save_7 ?_
  refine V.cSi C lX10_60 oX10_in dX10_save_8 (ct_M_in G _ x (nI 0) (nI 1)) rfl rfl (Nat.le_of_ble_eq_true rfl) ⟨Nat.le_of_ble_eq_true rfl, Nat.le_of_ble_eq_true rfl⟩ ⟨Nat.le_of_ble_eq_true rfl, Nat.le_of_ble_eq_true rfl⟩ (fun rr_8 σ8 pp_8 => ?_)
  obtain ⟨ee_8, ff_8⟩ := pp_8
  rw [ee_8, ff_8, show decide (nI 0 ≤ x ∧ x ≤ nI 1) = inB x 2 from in_inB (m := 2) (by decide)]
  refine V.if_ne C 16 dX10_save_11 rfl (fun hb_11 => ?_) (fun hb_11 => ?_)
  · have z_ := bI_ne0 hb_11
    obtain ⟨v, hv, rfl⟩ := inB_of (by decide) z_
    refine V.iconst C (nI 0) c_0 dX10_save_16 ?_
    refine V.istore_n C 2 dX10_save_17 rfl (by decide) ?_
    refine V.lvs (lv' := [(0, Rf G 123), (1, .int (nI v)), (2, .int (nI 0))]) rfl ?_
    exact loop v hv rfl z_ 440 0 _ (by omega) (by omega) (fun j hj => absurd hj (by omega)) (fun j _ => rfl) ((FM.refl _ _ _).sF _ (by decide))
  · have z_ := bI_eq0 hb_11
    refine V.iconst C ((-1)) c_m1 dX10_save_14 ?_
    exact V.iretS C R dX10_save_15 ⟨by unfold svR; rw [if_neg (by rw [z_]; decide)], by unfold svS; rw [if_neg (by rw [z_]; decide)]; exact hS.fm ((FM.refl [0] [] σ).sF _ (by decide)) (by decide) (by decide), (FM.refl _ _ _).sF _ (by decide)⟩
set_option maxRecDepth 100000 in
set_option maxHeartbeats 4000000 in
theorem ct_M_restore (G : Gl) (σ : SS) (P : Prob) (hs : List Prob) (sl : Nat → Option Prob) (x : Int32) (hP : FP (σ.2.1 124) P) (hH : RHm σ hs) (hS : RSm σ sl) (hwS : ∀ j Q, sl j = some Q → wfP Q) : CI G mX10_restore [Rf G 123, .int x] σ (fun r σ1 => r = rsR sl x ∧ FP (σ1.2.1 124) (rsP P sl x) ∧ RHm σ1 (rsH hs sl x) ∧ FM [0, 4] [124] σ σ1) := by
  refine Ctr.of oX10_restore (Nat.le_of_ble_eq_true rfl) ?_
  intro X C R hnm hz0
  have C : Cx G X cX10_restore 3 RX10 1 22 0 0 := C
  have R : Cr G X (some .int) 0 0 _ := R
  show V G X 3 0 0 0 [(0, Rf G 123), (1, .int x)] [] (wld G σ)
  have kk_123 := sk_123
  have kk_124 := sk_124
  have kk_125 := sk_125
  have kk_126 := sk_126
  have kk_127 := sk_127
  have kk_128 := sk_128
  have kk_129 := sk_129
  have kk_130 := sk_130
  have loop : ∀ (v : Nat) (Q : Prob), v < 2 → x = nI v → inB x 2 = true → sl v = some Q → (σ.2.1 128 v = 1 ∧ FP (fun k => σ.2.1 127 (439 * v + k)) Q) → ∀ (m k : Nat) (σ1 : SS), 439 < k + m → k ≤ 439 → (∀ j, j < k → σ1.2.1 124 j = σ.2.1 127 (439 * v + j)) → FM [0] [124] σ σ1 → V G X 3 0 0 30 [(0, Rf G 123), (1, .int (nI v)), (2, .int (nI k))] [] (wld G σ1) := by
    intro v Q hv hxv hin hsv hQ m
    induction m with
    | zero =>
      intro k σ1 hm hk h1 hF1
      exact absurd hm (by omega)
    | succ m ih =>
      intro k σ1 hm hk h1 hF1
      refine V.iload_n C 2 rfl rfl dX10_restore_30 ?_
      refine V.sipush C (nI 439) s_439 dX10_restore_31 ?_
      refine V.icmp_ge C 61 dX10_restore_34 rfl (fun hb_34 => ?_) (fun hb_34 => ?_)
      · have zk_ : k = 439 := by have := (nI_leI (by decide) (by omega)).mp hb_34; omega
        refine V.aload_n C 0 rfl rfl dX10_restore_61 ?_
        refine V.iconst C (nI 0) c_0 dX10_restore_62 ?_
        refine V.putI C fX10_144 dX10_restore_63 (by assumption) rfl ?_
        subst zk_
        have PQ_ : FP (σ1.2.1 124) Q := hQ.2.copy (hwS v Q hsv) (fun j hj => h1 j hj)
        refine V.aload_n C 0 rfl rfl dX10_restore_66 ?_
        refine V.getR C fX10_7 dX10_restore_67 (by assumption) rfl ?_
        refine V.bipush C (nI 8) b_8 dX10_restore_70 ?_
        refine V.ialdN C dX10_restore_72 (by assumption) (by omega) ?_
        rw [show (sF σ1 123 4 (nI 0)).2.1 124 8 = nI Q.2.1.length from PQ_.2.1]
        refine V.aload_n C 0 rfl rfl dX10_restore_73 ?_
        refine V.getR C fX10_7 dX10_restore_74 (by assumption) rfl ?_
        refine V.bipush C (nI 9) b_9 dX10_restore_77 ?_
        refine V.ialdN C dX10_restore_79 (by assumption) (by omega) ?_
        rw [show (sF σ1 123 4 (nI 0)).2.1 124 9 = nI Q.2.2.length from PQ_.2.2.1]
        refine V.iadd C dX10_restore_80 ?_
        rw [nI_add]
        exact V.iretS C R dX10_restore_81 (by
          refine ⟨by unfold rsR; rw [if_pos hin, hxv, nI_toNat (by omega), hsv], ?_, ?_, (hF1.mono (by decide) (by decide)).sF _ (by decide)⟩
          · unfold rsP; rw [if_pos hin, hxv, nI_toNat (by omega), hsv]; exact PQ_
          · unfold rsH; rw [if_pos ⟨hin, by rw [hxv, nI_toNat (by omega), hsv]; simp⟩]
            exact ⟨sF_F _ _ _ _, Nat.zero_le _, fun i Q hq => by simp at hq⟩)
      · have zk_ : k < 439 := Nat.lt_of_not_le (fun q => hb_34 (nI_le q (by omega)))
        refine V.aload_n C 0 rfl rfl dX10_restore_37 ?_
        refine V.getR C fX10_7 dX10_restore_38 (by assumption) rfl ?_
        refine V.iload_n C 2 rfl rfl dX10_restore_41 ?_
        refine V.aload_n C 0 rfl rfl dX10_restore_42 ?_
        refine V.getR C fX10_19 dX10_restore_43 (by assumption) rfl ?_
        refine V.sipush C (nI 439) s_439 dX10_restore_46 ?_
        refine V.iload_n C 1 rfl rfl dX10_restore_49 ?_
        refine V.imul C dX10_restore_50 ?_
        refine V.iload_n C 2 rfl rfl dX10_restore_51 ?_
        refine V.iadd C dX10_restore_52 ?_
        rw [nI_mul, nI_add]
        refine V.ialdN C dX10_restore_53 (by assumption) (by omega) ?_
        refine V.iastN C dX10_restore_54 (by assumption) (by omega) ?_
        refine V.iinc C (nI (k + 1)) dX10_restore_55 rfl (nI_1 k) (by decide) ?_
        refine V.goto C 30 dX10_restore_58 rfl ?_
        refine V.lvs (lv' := [(0, Rf G 123), (1, .int (nI v)), (2, .int (nI (k + 1)))]) rfl ?_
        refine ih (k + 1) _ (by omega) (by omega) (fun j hj => ?_) (hF1.sA _ (by decide))
        rw [sA_A]
        by_cases e_ : j = k
        · rw [e_, up_eq, hF1.a (by decide)]
        · rw [up_ne _ _ (by omega)]; exact h1 j (by omega)
  refine V.aload_n C 0 rfl rfl dX10_restore_0 ?_
  refine V.iconst C (nI 0) c_0 dX10_restore_1 ?_
  refine V.putI C fX10_47 dX10_restore_2 (by assumption) rfl ?_
  refine V.iload_n C 1 rfl rfl dX10_restore_5 ?_
  refine V.iconst C (nI 0) c_0 dX10_restore_6 ?_
  refine V.iconst C (nI 1) c_1 dX10_restore_7 ?_
  refine V.cSi C lX10_60 oX10_in dX10_restore_8 (ct_M_in G _ x (nI 0) (nI 1)) rfl rfl (Nat.le_of_ble_eq_true rfl) ⟨Nat.le_of_ble_eq_true rfl, Nat.le_of_ble_eq_true rfl⟩ ⟨Nat.le_of_ble_eq_true rfl, Nat.le_of_ble_eq_true rfl⟩ (fun rr_8 σ8 pp_8 => ?_)
  obtain ⟨ee_8, ff_8⟩ := pp_8
  rw [ee_8, ff_8, show decide (nI 0 ≤ x ∧ x ≤ nI 1) = inB x 2 from in_inB (m := 2) (by decide)]
  refine V.if_ne C 16 dX10_restore_11 rfl (fun hb_11 => ?_) (fun hb_11 => ?_)
  · have z_ := bI_ne0 hb_11
    obtain ⟨v, hv, rfl⟩ := inB_of (by decide) z_
    refine V.aload_n C 0 rfl rfl dX10_restore_16 ?_
    refine V.getR C fX10_22 dX10_restore_17 (by assumption) rfl ?_
    refine V.iload_n C 1 rfl rfl dX10_restore_20 ?_
    refine V.zaldN C dX10_restore_21 (by assumption) (by omega) ?_
    refine V.if_ne C 28 dX10_restore_22 rfl (fun hb_22 => ?_) (fun hb_22 => ?_)
    · obtain ⟨Q, hq_⟩ : ∃ Q, sl v = some Q := by
        cases hq : sl v with
        | none => exact absurd ((hS v hv).1 hq) hb_22
        | some Q => exact ⟨Q, rfl⟩
      refine V.iconst C (nI 0) c_0 dX10_restore_28 ?_
      refine V.istore_n C 2 dX10_restore_29 rfl (by decide) ?_
      refine V.lvs (lv' := [(0, Rf G 123), (1, .int (nI v)), (2, .int (nI 0))]) rfl ?_
      exact loop v Q hv rfl z_ hq_ ((hS v hv).2 Q hq_) 440 0 _ (by omega) (by omega) (fun j hj => absurd hj (by omega)) ((FM.refl _ _ _).sF _ (by decide))
    · have hq_ : sl v = none := by
        cases hq : sl v with
        | none => rfl
        | some Q => exact absurd (((hS v hv).2 Q hq).1.symm.trans hb_22) (by decide)
      refine V.bipush C ((-2)) b_m2 dX10_restore_25 ?_
      exact V.iretS C R dX10_restore_27 ⟨by unfold rsR; rw [if_pos z_, nI_toNat (by omega), hq_], by unfold rsP; rw [if_pos z_, nI_toNat (by omega), hq_]; exact hP, by unfold rsH; rw [if_neg (fun q => q.2 (by rw [nI_toNat (by omega)]; exact hq_))]; exact hH.fm ((FM.refl [0] [] σ).sF _ (by decide)) (by decide) (by decide), (FM.refl _ _ _).sF _ (by decide)⟩
  · have z_ := bI_eq0 hb_11
    refine V.iconst C ((-1)) c_m1 dX10_restore_14 ?_
    exact V.iretS C R dX10_restore_15 ⟨by unfold rsR; rw [if_neg (by rw [z_]; decide)], by unfold rsP; rw [if_neg (by rw [z_]; decide)]; exact hP, by unfold rsH; rw [if_neg (fun q => absurd (z_.symm.trans q.1) (by decide))]; exact hH.fm ((FM.refl [0] [] σ).sF _ (by decide)) (by decide) (by decide), (FM.refl _ _ _).sF _ (by decide)⟩
