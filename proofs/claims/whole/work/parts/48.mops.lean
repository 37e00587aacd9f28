/-! The model's append, clearText, removeEquation, removeDisequation, width, counts, undo, save, restore. -/
theorem in_inB {x : Int32} {m : Nat} (hm : m < 2 ^ 31) : decide (nI 0 ≤ x ∧ x ≤ nI m - nI 1) = inB x m := by
  have h0 : (nI 0 ≤ x) ↔ 0 ≤ x.toInt := by rw [le_iff, nI_toInt (by decide)]; simp
  have h1 : (x ≤ nI m - nI 1) ↔ x.toInt ≤ (m : Int) - 1 := by
    rcases Nat.eq_zero_or_pos m with q | q
    · rw [q, show nI 0 - nI 1 = (-1 : Int32) by decide, le_iff, show (-1 : Int32).toInt = -1 by decide]; simp
    · rw [nI_sub (by omega), le_iff, nI_toInt (by omega)]; omega
  unfold inB
  congr 1
  rw [h0, h1]
  apply propext
  constructor <;> intro h <;> exact ⟨h.1, by omega⟩
/-- the saved problems -/
def RSm (σ : SS) (sl : Nat → Option Prob) : Prop := ∀ j, j < 2 → (sl j = none → σ.2.1 128 j = 0) ∧ ∀ Q, sl j = some Q → σ.2.1 128 j = 1 ∧ FP (fun k => σ.2.1 127 (439 * j + k)) Q
theorem RSm.fm {fs as : List Nat} {σ σ1 : SS} {sl : Nat → Option Prob} (h : RSm σ sl) (hF : FM fs as σ σ1) (h1 : 127 ∉ as) (h2 : 128 ∉ as) : RSm σ1 sl := by
  unfold RSm; rw [hF.a h1, hF.a h2]; exact h
theorem FP.eq {f g : Nat → Int32} {P : Prob} (h : FP f P) (he : g = f) : FP g P := by rw [he]; exact h
def apR (n : Nat) (x : Int32) : Int32 := if inB x 256 = true then (if n < 200 then nI (n + 1) else -3) else -1
def apN (n : Nat) (x : Int32) : Nat := if inB x 256 = true ∧ n < 200 then n + 1 else n
def apC (n : Nat) (ch : Nat → Nat) (x : Int32) : Nat → Nat := if inB x 256 = true ∧ n < 200 then va_up ch n x.toNatClampNeg else ch
theorem nI_toNat {c : Nat} (h : c < 2 ^ 31) : (nI c).toNatClampNeg = c := by
  have := nI_toInt h
  show (nI c).toInt.toNat = c
  rw [this]; rfl
set_option maxRecDepth 100000 in
set_option maxHeartbeats 4000000 in
theorem ct_M_append (G : Gl) (σ : SS) (n : Nat) (ch : Nat → Nat) (x : Int32) (hT : MT σ n ch) : CI G mX10_append [Rf G 123, .int x] σ (fun r σ1 => r = apR n x ∧ MT σ1 (apN n x) (apC n ch x) ∧ FM [0, 8] [129] σ σ1) := by
  refine Ctr.of oX10_append (Nat.le_of_ble_eq_true rfl) ?_
  intro X C R hnm hz0
  have C : Cx G X cX10_append 2 RX10 1 22 0 0 := C
  have R : Cr G X (some .int) 0 0 _ := R
  show V G X 2 0 0 0 [(0, Rf G 123), (1, .int x)] [] (wld G σ)
  have kk_123 := sk_123
  have kk_124 := sk_124
  have kk_125 := sk_125
  have kk_126 := sk_126
  have kk_127 := sk_127
  have kk_128 := sk_128
  have kk_129 := sk_129
  have kk_130 := sk_130
  refine V.aload_n C 0 rfl rfl dX10_append_0 ?_
  refine V.iconst C (nI 0) c_0 dX10_append_1 ?_
  refine V.putI C fX10_47 dX10_append_2 (by assumption) rfl ?_
  refine V.iload_n C 1 rfl rfl dX10_append_5 ?_
  refine V.iconst C (nI 0) c_0 dX10_append_6 ?_
  refine V.sipush C (nI 255) s_255 dX10_append_7 ?_
  refine V.cSi C lX10_60 oX10_in dX10_append_10 (ct_M_in G _ x (nI 0) (nI 255)) rfl rfl (Nat.le_of_ble_eq_true rfl) ⟨Nat.le_of_ble_eq_true rfl, Nat.le_of_ble_eq_true rfl⟩ ⟨Nat.le_of_ble_eq_true rfl, Nat.le_of_ble_eq_true rfl⟩ (fun rr_10 σ10 pp_10 => ?_)
  obtain ⟨ee_10, ff_10⟩ := pp_10
  rw [ee_10, ff_10, show decide (nI 0 ≤ x ∧ x ≤ nI 255) = inB x 256 from in_inB (m := 256) (by decide)]
  refine V.if_ne C 18 dX10_append_13 rfl (fun hb_13 => ?_) (fun hb_13 => ?_)
  · have z_ := bI_ne0 hb_13
    obtain ⟨c, hc, rfl⟩ := inB_of (by decide) z_
    have n200_ := hT.2.1
    refine V.aload_n C 0 rfl rfl dX10_append_18 ?_
    refine V.getI C fX10_51 dX10_append_19 (by assumption) rfl ?_
    rw [sF_ne _ _ (by omega), hT.1]
    refine V.sipush C (nI 200) s_200 dX10_append_22 ?_
    refine V.icmp_ne C 31 dX10_append_25 rfl (fun hb_25 => ?_) (fun hb_25 => ?_)
    · have z25_ : n < 200 := by
        rcases Nat.lt_or_ge n 200 with q | q
        · exact q
        · exact absurd (by rw [show n = 200 by omega]) hb_25
      refine V.aload_n C 0 rfl rfl dX10_append_31 ?_
      refine V.getR C fX10_26 dX10_append_32 (by assumption) rfl ?_
      refine V.aload_n C 0 rfl rfl dX10_append_35 ?_
      refine V.getI C fX10_51 dX10_append_36 (by assumption) rfl ?_
      rw [sF_ne _ _ (by omega), hT.1]
      refine V.iload_n C 1 rfl rfl dX10_append_39 ?_
      refine V.iastN C dX10_append_40 (by assumption) (by omega) ?_
      refine V.aload_n C 0 rfl rfl dX10_append_41 ?_
      refine V.dup C rfl dX10_append_42 ?_
      refine V.getI C fX10_51 dX10_append_43 (by assumption) rfl ?_
      rw [show (sA (sF σ 123 0 (nI 0)) 129 (va_up ((sF σ 123 0 (nI 0)).2.1 129) n (nI c))).1 123 8 = nI n from (by show (sF σ 123 0 (nI 0)).1 123 8 = nI n; rw [sF_ne _ _ (by omega), hT.1])]
      refine V.iconst C (nI 1) c_1 dX10_append_46 ?_
      refine V.iadd C dX10_append_47 ?_
      rw [nI_add]
      refine V.putI C fX10_51 dX10_append_48 (by assumption) rfl ?_
      refine V.aload_n C 0 rfl rfl dX10_append_51 ?_
      refine V.getI C fX10_51 dX10_append_52 (by assumption) rfl ?_
      rw [sF_F]
      exact V.iretS C R dX10_append_55 (by
        refine ⟨by unfold apR; rw [if_pos z_, if_pos z25_], ?_, ((((FM.refl [0, 8] [129] σ).sF _ (by decide)).sA _ (by decide)).sF _ (by decide))⟩
        unfold apN apC
        rw [if_pos ⟨z_, z25_⟩, if_pos ⟨z_, z25_⟩]
        refine ⟨sF_F _ _ _ _, by omega, fun i hi => ?_⟩
        show (sA (sF σ 123 0 (nI 0)) 129 _).2.1 129 i = _ ∧ _
        rw [sA_A]
        by_cases e : i = n
        · rw [e, up_eq, up_eq, nI_toNat (by omega)]; exact ⟨rfl, hc⟩
        · rw [up_ne _ _ e, up_ne _ _ e]; exact hT.2.2 i (by omega))
    · have z25_ : n = 200 := nI_pe (by omega) (by decide) hb_25
      refine V.bipush C ((-3)) b_m3 dX10_append_28 ?_
      exact V.iretS C R dX10_append_30 ⟨by unfold apR; rw [if_pos z_, if_neg (by omega)], by unfold apN apC; rw [if_neg (fun q => absurd q.2 (by omega)), if_neg (fun q => absurd q.2 (by omega))]; exact hT.fm ( (FM.refl [0] [] σ).sF _ (by decide)) (by decide) (by decide), ( (FM.refl [0] [] σ).sF _ (by decide)).mono (by decide) (by decide)⟩
  · have z_ := bI_eq0 hb_13
    refine V.iconst C ((-1)) c_m1 dX10_append_16 ?_
    exact V.iretS C R dX10_append_17 ⟨by unfold apR; rw [if_neg (by rw [z_]; decide)], by unfold apN apC; rw [if_neg (fun q => absurd (z_.symm.trans q.1) (by decide)), if_neg (fun q => absurd (z_.symm.trans q.1) (by decide))]; exact hT.fm ( (FM.refl [0] [] σ).sF _ (by decide)) (by decide) (by decide), ( (FM.refl [0] [] σ).sF _ (by decide)).mono (by decide) (by decide)⟩
set_option maxRecDepth 100000 in
set_option maxHeartbeats 4000000 in
theorem ct_M_clearText (G : Gl) (σ : SS) (n : Nat) (ch : Nat → Nat) (hT : MT σ n ch) : CI G mX10_clearText [Rf G 123] σ (fun r σ1 => r = nI n ∧ MT σ1 0 ch ∧ FM [0, 8] [] σ σ1) := by
  refine Ctr.of oX10_clearText (Nat.le_of_ble_eq_true rfl) ?_
  intro X C R hnm hz0
  have C : Cx G X cX10_clearText 2 RX10 0 0 0 0 := C
  have R : Cr G X (some .int) 0 0 _ := R
  show V G X 2 0 0 0 [(0, Rf G 123)] [] (wld G σ)
  have kk_123 := sk_123
  have kk_124 := sk_124
  have kk_125 := sk_125
  have kk_126 := sk_126
  have kk_127 := sk_127
  have kk_128 := sk_128
  have kk_129 := sk_129
  have kk_130 := sk_130
  refine V.aload_n C 0 rfl rfl dX10_clearText_0 ?_
  refine V.iconst C (nI 0) c_0 dX10_clearText_1 ?_
  refine V.putI C fX10_47 dX10_clearText_2 (by assumption) rfl ?_
  refine V.aload_n C 0 rfl rfl dX10_clearText_5 ?_
  refine V.getI C fX10_51 dX10_clearText_6 (by assumption) rfl ?_
  rw [sF_ne _ _ (by omega), hT.1]
  refine V.istore_n C 1 dX10_clearText_9 rfl (by decide) ?_
  refine V.aload_n C 0 rfl rfl dX10_clearText_10 ?_
  refine V.iconst C (nI 0) c_0 dX10_clearText_11 ?_
  refine V.putI C fX10_51 dX10_clearText_12 (by assumption) rfl ?_
  refine V.iload_n C 1 rfl rfl dX10_clearText_15 ?_
  exact V.iretS C R dX10_clearText_16 ⟨rfl, ⟨sF_F _ _ _ _, Nat.zero_le _, fun i hi => absurd hi (Nat.not_lt_zero _)⟩, ((FM.refl _ _ _).sF _ (by decide)).sF _ (by decide)⟩
set_option maxRecDepth 100000 in
set_option maxHeartbeats 4000000 in
theorem ct_M_isVar (G : Gl) (σ : SS) (x : Int32) : CI G mX10_isVariable [.int x] σ (fun r σ1 => r = bI (inB x 8) ∧ σ1 = σ) := by
  refine Ctr.of oX10_isVariable (Nat.le_of_ble_eq_true rfl) ?_
  intro X C R hnm hz0
  have C : Cx G X cX10_isVariable 1 RX10 1 22 0 0 := C
  have R : Cr G X (some .boolean) 0 0 _ := R
  show V G X 1 0 0 0 [(0, .int x)] [] (wld G σ)
  refine V.iload_n C 0 rfl rfl dX10_isVariable_0 ?_
  refine V.iconst C (nI 0) c_0 dX10_isVariable_1 ?_
  refine V.bipush C (nI 7) b_7 dX10_isVariable_2 ?_
  refine V.cSi C lX10_60 oX10_in dX10_isVariable_4 (ct_M_in G σ x (nI 0) (nI 7)) rfl rfl (Nat.le_of_ble_eq_true rfl) ⟨Nat.le_of_ble_eq_true rfl, Nat.le_of_ble_eq_true rfl⟩ ⟨Nat.le_of_ble_eq_true rfl, Nat.le_of_ble_eq_true rfl⟩ (fun rr_4 σ4 pp_4 => ?_)
  obtain ⟨ee_4, ff_4⟩ := pp_4
  rw [ee_4, ff_4, show decide (nI 0 ≤ x ∧ x ≤ nI 7) = inB x 8 from in_inB (m := 8) (by decide)]
  exact V.zretS C R dX10_isVariable_7 (by first | exact Or.inl rfl | exact Or.inr rfl | exact bI01 _) ⟨rfl, rfl⟩
def wdR (P : Prob) (x : Int32) : Int32 := if inB x 8 = true then nI (P.1 x.toNatClampNeg) else -1
set_option maxRecDepth 100000 in
set_option maxHeartbeats 4000000 in
theorem ct_M_width (G : Gl) (σ : SS) (P : Prob) (x : Int32) (hP : FP (σ.2.1 124) P) : CI G mX10_width [Rf G 123, .int x] σ (fun r σ1 => r = wdR P x ∧ FM [0] [] σ σ1) := by
  refine Ctr.of oX10_width (Nat.le_of_ble_eq_true rfl) ?_
  intro X C R hnm hz0
  have C : Cx G X cX10_width 2 RX10 2 42 0 0 := C
  have R : Cr G X (some .int) 0 0 _ := R
  show V G X 2 0 0 0 [(0, Rf G 123), (1, .int x)] [] (wld G σ)
  have kk_123 := sk_123
  have kk_124 := sk_124
  have kk_125 := sk_125
  have kk_126 := sk_126
  have kk_127 := sk_127
  have kk_128 := sk_128
  have kk_129 := sk_129
  have kk_130 := sk_130
  refine V.aload_n C 0 rfl rfl dX10_width_0 ?_
  refine V.iconst C (nI 0) c_0 dX10_width_1 ?_
  refine V.putI C fX10_47 dX10_width_2 (by assumption) rfl ?_
  refine V.iload_n C 1 rfl rfl dX10_width_5 ?_
  refine V.cSi C lX10_151 oX10_isVariable dX10_width_6 (ct_M_isVar G _ x) rfl rfl (Nat.le_of_ble_eq_true rfl) ⟨Nat.le_of_ble_eq_true rfl, Nat.le_of_ble_eq_true rfl⟩ ⟨Nat.le_of_ble_eq_true rfl, Nat.le_of_ble_eq_true rfl⟩ (fun rr_6 σ6 pp_6 => ?_)
  obtain ⟨ee_6, ff_6⟩ := pp_6
  rw [ee_6, ff_6]
  refine V.if_eq C 21 dX10_width_9 rfl (fun hb_9 => ?_) (fun hb_9 => ?_)
  · have z_ := bI_eq0 hb_9
    refine V.iconst C ((-1)) c_m1 dX10_width_21 ?_
    exact V.iretS C R dX10_width_22 ⟨by unfold wdR; rw [if_neg (by rw [z_]; decide)], (FM.refl _ _ _).sF _ (by decide)⟩
  · have z_ := bI_ne0 hb_9
    obtain ⟨v, hv, rfl⟩ := inB_of (by decide) z_
    refine V.aload_n C 0 rfl rfl dX10_width_12 ?_
    refine V.getR C fX10_7 dX10_width_13 (by assumption) rfl ?_
    refine V.iload_n C 1 rfl rfl dX10_width_16 ?_
    refine V.ialdN C dX10_width_17 (by assumption) (by omega) ?_
    rw [show (sF σ 123 0 (nI 0)).2.1 124 v = nI (P.1 v) from hP.1 v hv]
    refine V.goto C 22 dX10_width_18 rfl ?_
    exact V.iretS C R dX10_width_22 ⟨by unfold wdR; rw [if_pos z_, nI_toNat (by omega)], (FM.refl _ _ _).sF _ (by decide)⟩
set_option maxRecDepth 100000 in
set_option maxHeartbeats 4000000 in
theorem ct_M_equationCount (G : Gl) (σ : SS) (P : Prob) (hP : FP (σ.2.1 124) P) : CI G mX10_equationCount [Rf G 123] σ (fun r σ1 => r = nI P.2.1.length ∧ FM [0] [] σ σ1) := by
  refine Ctr.of oX10_equationCount (Nat.le_of_ble_eq_true rfl) ?_
  intro X C R hnm hz0
  have C : Cx G X cX10_equationCount 1 RX10 0 0 0 0 := C
  have R : Cr G X (some .int) 0 0 _ := R
  show V G X 1 0 0 0 [(0, Rf G 123)] [] (wld G σ)
  have kk_123 := sk_123
  have kk_124 := sk_124
  have kk_125 := sk_125
  have kk_126 := sk_126
  have kk_127 := sk_127
  have kk_128 := sk_128
  have kk_129 := sk_129
  have kk_130 := sk_130
  refine V.aload_n C 0 rfl rfl dX10_equationCount_0 ?_
  refine V.iconst C (nI 0) c_0 dX10_equationCount_1 ?_
  refine V.putI C fX10_47 dX10_equationCount_2 (by assumption) rfl ?_
  refine V.aload_n C 0 rfl rfl dX10_equationCount_5 ?_
  refine V.getR C fX10_7 dX10_equationCount_6 (by assumption) rfl ?_
  refine V.bipush C (nI 8) b_8 dX10_equationCount_9 ?_
  refine V.ialdN C dX10_equationCount_11 (by assumption) (by omega) ?_
  rw [show (sF σ 123 0 (nI 0)).2.1 124 8 = nI P.2.1.length from hP.2.1]
  exact V.iretS C R dX10_equationCount_12 ⟨rfl, (FM.refl _ _ _).sF _ (by decide)⟩
set_option maxRecDepth 100000 in
set_option maxHeartbeats 4000000 in
theorem ct_M_disequationCount (G : Gl) (σ : SS) (P : Prob) (hP : FP (σ.2.1 124) P) : CI G mX10_disequationCount [Rf G 123] σ (fun r σ1 => r = nI P.2.2.length ∧ FM [0] [] σ σ1) := by
  refine Ctr.of oX10_disequationCount (Nat.le_of_ble_eq_true rfl) ?_
  intro X C R hnm hz0
  have C : Cx G X cX10_disequationCount 1 RX10 0 0 0 0 := C
  have R : Cr G X (some .int) 0 0 _ := R
  show V G X 1 0 0 0 [(0, Rf G 123)] [] (wld G σ)
  have kk_123 := sk_123
  have kk_124 := sk_124
  have kk_125 := sk_125
  have kk_126 := sk_126
  have kk_127 := sk_127
  have kk_128 := sk_128
  have kk_129 := sk_129
  have kk_130 := sk_130
  refine V.aload_n C 0 rfl rfl dX10_disequationCount_0 ?_
  refine V.iconst C (nI 0) c_0 dX10_disequationCount_1 ?_
  refine V.putI C fX10_47 dX10_disequationCount_2 (by assumption) rfl ?_
  refine V.aload_n C 0 rfl rfl dX10_disequationCount_5 ?_
  refine V.getR C fX10_7 dX10_disequationCount_6 (by assumption) rfl ?_
  refine V.bipush C (nI 9) b_9 dX10_disequationCount_9 ?_
  refine V.ialdN C dX10_disequationCount_11 (by assumption) (by omega) ?_
  rw [show (sF σ 123 0 (nI 0)).2.1 124 9 = nI P.2.2.length from hP.2.2.1]
  exact V.iretS C R dX10_disequationCount_12 ⟨rfl, (FM.refl _ _ _).sF _ (by decide)⟩
set_option maxRecDepth 100000 in
set_option maxHeartbeats 4000000 in
theorem ct_M_undoDepth (G : Gl) (σ : SS) (hs : List Prob) (hH : RHm σ hs) : CI G mX10_undoDepth [Rf G 123] σ (fun r σ1 => r = nI hs.length ∧ FM [0] [] σ σ1) := by
  refine Ctr.of oX10_undoDepth (Nat.le_of_ble_eq_true rfl) ?_
  intro X C R hnm hz0
  have C : Cx G X cX10_undoDepth 1 RX10 0 0 0 0 := C
  have R : Cr G X (some .int) 0 0 _ := R
  show V G X 1 0 0 0 [(0, Rf G 123)] [] (wld G σ)
  have kk_123 := sk_123
  have kk_124 := sk_124
  have kk_125 := sk_125
  have kk_126 := sk_126
  have kk_127 := sk_127
  have kk_128 := sk_128
  have kk_129 := sk_129
  have kk_130 := sk_130
  refine V.aload_n C 0 rfl rfl dX10_undoDepth_0 ?_
  refine V.iconst C (nI 0) c_0 dX10_undoDepth_1 ?_
  refine V.putI C fX10_47 dX10_undoDepth_2 (by assumption) rfl ?_
  refine V.aload_n C 0 rfl rfl dX10_undoDepth_5 ?_
  refine V.getI C fX10_144 dX10_undoDepth_6 (by assumption) rfl ?_
  rw [sF_ne _ _ (by omega), hH.1]
  exact V.iretS C R dX10_undoDepth_9 ⟨rfl, (FM.refl _ _ _).sF _ (by decide)⟩
set_option maxRecDepth 100000 in
set_option maxHeartbeats 4000000 in
theorem ct_M_removeAt (G : Gl) (σ : SS) (i e : Nat) (hi : i < e) (he : e ≤ 13) : CV G mX10_removeAt [Rf G 123, .int (nI i), .int (nI e)] σ (fun σ1 => (∀ j, 10 + 33 * i ≤ j → j < 10 + 33 * (e - 1) → σ1.2.1 124 j = σ.2.1 124 (j + 33)) ∧ (∀ j, (j < 10 + 33 * i ∨ 10 + 33 * (e - 1) ≤ j) → σ1.2.1 124 j = σ.2.1 124 j) ∧ FM [] [124] σ σ1) := by
  refine Ctr.of oX10_removeAt (Nat.le_of_ble_eq_true rfl) ?_
  intro X C R hnm hz0
  have C : Cx G X cX10_removeAt 4 RX10 0 0 0 0 := C
  have R : Cr G X none 0 0 _ := R
  show V G X 4 0 0 0 [(0, Rf G 123), (1, .int (nI i)), (2, .int (nI e))] [] (wld G σ)
  have kk_123 := sk_123
  have kk_124 := sk_124
  have kk_125 := sk_125
  have kk_126 := sk_126
  have kk_127 := sk_127
  have kk_128 := sk_128
  have kk_129 := sk_129
  have kk_130 := sk_130
  have loop : ∀ (m k : Nat) (σ1 : SS), 10 + 33 * (e - 1) < k + m → 10 + 33 * i ≤ k ∧ k ≤ 10 + 33 * (e - 1) → (∀ j, j < k → 10 + 33 * i ≤ j → σ1.2.1 124 j = σ.2.1 124 (j + 33)) → (∀ j, (j < 10 + 33 * i ∨ k ≤ j) → σ1.2.1 124 j = σ.2.1 124 j) → FM [] [124] σ σ1 → V G X 4 0 0 8 [(0, Rf G 123), (1, .int (nI i)), (2, .int (nI e)), (3, .int (nI k))] [] (wld G σ1) := by
    intro m
    induction m with
    | zero =>
      intro k σ1 hm hk h1 h2 hF1
      exact absurd hm (by omega)
    | succ m ih =>
      intro k σ1 hm hk h1 h2 hF1
      refine V.iload_n C 3 rfl rfl dX10_removeAt_8 ?_
      refine V.bipush C (nI 10) b_10 dX10_removeAt_9 ?_
      refine V.bipush C (nI 33) b_33 dX10_removeAt_11 ?_
      refine V.iload_n C 2 rfl rfl dX10_removeAt_13 ?_
      refine V.iconst C (nI 1) c_1 dX10_removeAt_14 ?_
      refine V.isub C dX10_removeAt_15 ?_
      rw [nI_sub (by omega)]
      refine V.imul C dX10_removeAt_16 ?_
      rw [nI_mul]
      refine V.iadd C dX10_removeAt_17 ?_
      rw [nI_add]
      refine V.icmp_ge C 42 dX10_removeAt_18 rfl (fun hb_18 => ?_) (fun hb_18 => ?_)
      · have zk_ : k = 10 + 33 * (e - 1) := by have := (nI_leI (by omega) (by omega)).mp hb_18; omega
        exact V.vretS C R dX10_removeAt_42 ⟨fun j j1 j2 => h1 j (by omega) (by omega), fun j hj => h2 j (by omega), hF1⟩
      · have zk_ : k < 10 + 33 * (e - 1) := Nat.lt_of_not_le (fun q => hb_18 (nI_le q (by omega)))
        refine V.aload_n C 0 rfl rfl dX10_removeAt_21 ?_
        refine V.getR C fX10_7 dX10_removeAt_22 (by assumption) rfl ?_
        refine V.iload_n C 3 rfl rfl dX10_removeAt_25 ?_
        refine V.aload_n C 0 rfl rfl dX10_removeAt_26 ?_
        refine V.getR C fX10_7 dX10_removeAt_27 (by assumption) rfl ?_
        refine V.iload_n C 3 rfl rfl dX10_removeAt_30 ?_
        refine V.bipush C (nI 33) b_33 dX10_removeAt_31 ?_
        refine V.iadd C dX10_removeAt_33 ?_
        rw [nI_add]
        refine V.ialdN C dX10_removeAt_34 (by assumption) (by omega) ?_
        refine V.iastN C dX10_removeAt_35 (by assumption) (by omega) ?_
        refine V.iinc C (nI (k + 1)) dX10_removeAt_36 rfl (nI_1 k) (by decide) ?_
        refine V.goto C 8 dX10_removeAt_39 rfl ?_
        refine V.lvs (lv' := [(0, Rf G 123), (1, .int (nI i)), (2, .int (nI e)), (3, .int (nI (k + 1)))]) rfl ?_
        refine ih (k + 1) _ (by omega) (by omega) (fun j j1 j2 => ?_) (fun j hj => ?_) (hF1.sA _ (by decide))
        · rw [sA_A]
          by_cases e_ : j = k
          · rw [e_, up_eq]; exact h2 _ (by omega)
          · rw [up_ne _ _ (by omega)]; exact h1 j (by omega) (by omega)
        · rw [sA_A, up_ne _ _ (by omega)]; exact h2 j (by omega)
  refine V.bipush C (nI 10) b_10 dX10_removeAt_0 ?_
  refine V.bipush C (nI 33) b_33 dX10_removeAt_2 ?_
  refine V.iload_n C 1 rfl rfl dX10_removeAt_4 ?_
  refine V.imul C dX10_removeAt_5 ?_
  rw [nI_mul]
  refine V.iadd C dX10_removeAt_6 ?_
  rw [nI_add]
  refine V.istore_n C 3 dX10_removeAt_7 rfl (by decide) ?_
  refine V.lvs (lv' := [(0, Rf G 123), (1, .int (nI i)), (2, .int (nI e)), (3, .int (nI (10 + 33 * i)))]) rfl ?_
  exact loop (10 + 33 * (e - 1) + 1) (10 + 33 * i) σ (by omega) (by omega) (fun j h1 h2 => absurd h1 (by omega)) (fun j _ => rfl) (FM.refl _ _ _)
def rmR (l : List Stm) (x : Int32) : Int32 := if inB x l.length = true then nI (l.length - 1) else -1
def rmE (P : Prob) (x : Int32) : Prob := if inB x P.2.1.length = true then (P.1, P.2.1.eraseIdx x.toNatClampNeg, P.2.2) else P
def rmD (P : Prob) (x : Int32) : Prob := if inB x P.2.2.length = true then (P.1, P.2.1, P.2.2.eraseIdx x.toNatClampNeg) else P
def rmH (l : List Stm) (hs : List Prob) (P : Prob) (x : Int32) : List Prob := if inB x l.length = true then pushH hs P else hs
theorem fAt.move {f g : Nat → Int32} {a b : Nat} {s : Stm} (h : fAt f a s) (hs : s.1 ≤ 16) (hg : ∀ j, j < 33 → g (b + j) = f (a + j)) : fAt g b s :=
  ⟨by have := hg 0 (by omega); rw [Nat.add_zero, Nat.add_zero] at this; rw [this]; exact h.1, fun k hk => by rw [show b + 1 + k = b + (1 + k) by omega, hg _ (by omega), ← Nat.add_assoc]; exact h.2.1 k hk, fun k hk => by rw [show b + 17 + k = b + (17 + k) by omega, hg _ (by omega), ← Nat.add_assoc]; exact h.2.2 k hk⟩
theorem FP.remE {f g : Nat → Int32} {P : Prob} {i : Nat} (h : FP f P) (hw : wfP P) (hi : i < P.2.1.length) (h1 : ∀ j, 10 + 33 * i ≤ j → j < 10 + 33 * 9 → g j = f (j + 33)) (h2 : ∀ j, j ≠ 8 → (j < 10 + 33 * i ∨ 10 + 33 * 9 ≤ j) → g j = f j) (h8 : g 8 = nI (P.2.1.length - 1)) : FP g (P.1, P.2.1.eraseIdx i, P.2.2) := by
  have l1 := hw.2.1
  have l2 := hw.2.2.1
  refine ⟨fun v hv => by rw [h2 v (by omega) (by omega)]; exact h.1 v hv, by show g 8 = nI (P.2.1.eraseIdx i).length; rw [List.length_eraseIdx, if_pos hi]; exact h8, by rw [h2 9 (by omega) (by omega)]; exact h.2.2.1, fun j t ht => ?_, fun j t ht => ?_⟩
  · have ht : (P.2.1.eraseIdx i)[j]? = some t := ht
    rw [List.getElem?_eraseIdx] at ht
    split at ht
    · rename_i q
      exact (h.2.2.2.1 j t ht).same (hw.2.2.2.1 j t ht).2.1 (fun k z1 z2 => h2 k (by omega) (by omega))
    · rename_i q
      have hj := (List.getElem?_eq_some_iff.mp ht).1
      refine (h.2.2.2.1 (j + 1) t ht).move (hw.2.2.2.1 _ t ht).2.1 (fun k hk => ?_)
      rw [h1 _ (by omega) (by omega)]
      rw [show 10 + 33 * j + k + 33 = 10 + 33 * (j + 1) + k by omega]
  · have hj := (List.getElem?_eq_some_iff.mp ht).1
    exact (h.2.2.2.2 j t ht).same (hw.2.2.2.2 j t ht).2.1 (fun k z1 z2 => h2 k (by omega) (by omega))
theorem FP.remD {f g : Nat → Int32} {P : Prob} {i : Nat} (h : FP f P) (hw : wfP P) (hi : i < P.2.2.length) (h1 : ∀ j, 10 + 33 * (10 + i) ≤ j → j < 10 + 33 * 12 → g j = f (j + 33)) (h2 : ∀ j, j ≠ 9 → (j < 10 + 33 * (10 + i) ∨ 10 + 33 * 12 ≤ j) → g j = f j) (h8 : g 9 = nI (P.2.2.length - 1)) : FP g (P.1, P.2.1, P.2.2.eraseIdx i) := by
  have l1 := hw.2.1
  have l2 := hw.2.2.1
  refine ⟨fun v hv => by rw [h2 v (by omega) (by omega)]; exact h.1 v hv, by rw [h2 8 (by omega) (by omega)]; exact h.2.1, by show g 9 = nI (P.2.2.eraseIdx i).length; rw [List.length_eraseIdx, if_pos hi]; exact h8, fun j t ht => ?_, fun j t ht => ?_⟩
  · have hj : j < P.2.1.length := (List.getElem?_eq_some_iff.mp ht).1
    exact (h.2.2.2.1 j t ht).same (hw.2.2.2.1 j t ht).2.1 (fun k z1 z2 => h2 k (by omega) (by omega))
  · have ht : (P.2.2.eraseIdx i)[j]? = some t := ht
    rw [List.getElem?_eraseIdx] at ht
    split at ht
    · rename_i q
      exact (h.2.2.2.2 j t ht).same (hw.2.2.2.2 j t ht).2.1 (fun k z1 z2 => h2 k (by omega) (by omega))
    · rename_i q
      have hj := (List.getElem?_eq_some_iff.mp ht).1
      refine (h.2.2.2.2 (j + 1) t ht).move (hw.2.2.2.2 _ t ht).2.1 (fun k hk => ?_)
      rw [h1 _ (by omega) (by omega)]
      rw [show 10 + 33 * (10 + j) + k + 33 = 10 + 33 * (10 + (j + 1)) + k by omega]
set_option maxRecDepth 100000 in
set_option maxHeartbeats 4000000 in
theorem ct_M_removeEquation (G : Gl) (σ : SS) (P : Prob) (hs : List Prob) (x : Int32) (hP : FP (σ.2.1 124) P) (hwf : wfP P) (hH : RHm σ hs) (hwH : wfH hs) : CI G mX10_removeEquation [Rf G 123, .int x] σ (fun r σ1 => r = rmR P.2.1 x ∧ FP (σ1.2.1 124) (rmE P x) ∧ RHm σ1 (rmH P.2.1 hs P x) ∧ FM [0, 4] [124, 126] σ σ1) := by
  refine Ctr.of oX10_removeEquation (Nat.le_of_ble_eq_true rfl) ?_
  intro X C R hnm hz0
  have C : Cx G X cX10_removeEquation 2 RX10 1 23 0 0 := C
  have R : Cr G X (some .int) 0 0 _ := R
  show V G X 2 0 0 0 [(0, Rf G 123), (1, .int x)] [] (wld G σ)
  have kk_123 := sk_123
  have kk_124 := sk_124
  have kk_125 := sk_125
  have kk_126 := sk_126
  have kk_127 := sk_127
  have kk_128 := sk_128
  have kk_129 := sk_129
  have kk_130 := sk_130
  have l1_ := hwf.2.1
  have l2_ := hwf.2.2.1
  refine V.aload_n C 0 rfl rfl dX10_removeEquation_0 ?_
  refine V.iconst C (nI 0) c_0 dX10_removeEquation_1 ?_
  refine V.putI C fX10_47 dX10_removeEquation_2 (by assumption) rfl ?_
  refine V.iload_n C 1 rfl rfl dX10_removeEquation_5 ?_
  refine V.iconst C (nI 0) c_0 dX10_removeEquation_6 ?_
  refine V.aload_n C 0 rfl rfl dX10_removeEquation_7 ?_
  refine V.getR C fX10_7 dX10_removeEquation_8 (by assumption) rfl ?_
  refine V.bipush C (nI 8) b_8 dX10_removeEquation_11 ?_
  refine V.ialdN C dX10_removeEquation_13 (by assumption) (by omega) ?_
  rw [show (sF σ 123 0 (nI 0)).2.1 124 8 = nI P.2.1.length from hP.2.1]
  refine V.iconst C (nI 1) c_1 dX10_removeEquation_14 ?_
  refine V.isub C dX10_removeEquation_15 ?_
  refine V.cSi C lX10_60 oX10_in dX10_removeEquation_16 (ct_M_in G _ x (nI 0) (nI P.2.1.length - nI 1)) rfl rfl (Nat.le_of_ble_eq_true rfl) ⟨Nat.le_of_ble_eq_true rfl, Nat.le_of_ble_eq_true rfl⟩ ⟨Nat.le_of_ble_eq_true rfl, Nat.le_of_ble_eq_true rfl⟩ (fun rr_16 σ16 pp_16 => ?_)
  obtain ⟨ee_16, ff_16⟩ := pp_16
  rw [ee_16, ff_16, in_inB (by omega)]
  refine V.if_ne C 24 dX10_removeEquation_19 rfl (fun hb_19 => ?_) (fun hb_19 => ?_)
  · have z_ := bI_ne0 hb_19
    obtain ⟨v, hv, rfl⟩ := inB_of (by omega) z_
    refine V.aload_n C 0 rfl rfl dX10_removeEquation_24 ?_
    refine V.cVv C lX10_141 oX10_keep dX10_removeEquation_25 (ct_M_keep G _ P hs hP hwf (hH.fm ((FM.refl [0] [] σ).sF (nI 0) (by decide)) (by decide) (by decide)) hwH) (by assumption) rfl rfl (Nat.le_of_ble_eq_true rfl) ⟨Nat.le_of_ble_eq_true rfl, Nat.le_of_ble_eq_true rfl⟩ ⟨Nat.le_of_ble_eq_true rfl, Nat.le_of_ble_eq_true rfl⟩ (fun σ25 pp_25 => ?_)
    refine V.aload_n C 0 rfl rfl dX10_removeEquation_28 ?_
    refine V.iload_n C 1 rfl rfl dX10_removeEquation_29 ?_
    refine V.bipush C (nI 10) b_10 dX10_removeEquation_30 ?_
    refine V.cVv C lX10_147 oX10_removeAt dX10_removeEquation_32 (ct_M_removeAt G σ25 v 10 (by omega) (by omega)) (by assumption) rfl rfl (Nat.le_of_ble_eq_true rfl) ⟨Nat.le_of_ble_eq_true rfl, Nat.le_of_ble_eq_true rfl⟩ ⟨Nat.le_of_ble_eq_true rfl, Nat.le_of_ble_eq_true rfl⟩ (fun σ32 pp_32 => ?_)
    obtain ⟨s1_, s2_, f_32⟩ := pp_32
    have P25_ : σ25.2.1 124 = σ.2.1 124 := by rw [pp_25.2.a (by decide)]; rfl
    rw [P25_] at s1_ s2_
    refine V.aload_n C 0 rfl rfl dX10_removeEquation_35 ?_
    refine V.getR C fX10_7 dX10_removeEquation_36 (by assumption) rfl ?_
    refine V.bipush C (nI 8) b_8 dX10_removeEquation_39 ?_
    refine V.dup2 C rfl rfl dX10_removeEquation_41 ?_
    refine V.ialdN C dX10_removeEquation_42 (by assumption) (by omega) ?_
    rw [s2_ _ (by omega), hP.2.1]
    refine V.iconst C (nI 1) c_1 dX10_removeEquation_43 ?_
    refine V.isub C dX10_removeEquation_44 ?_
    rw [nI_sub (by omega)]
    refine V.iastN C dX10_removeEquation_45 (by assumption) (by omega) ?_
    refine V.aload_n C 0 rfl rfl dX10_removeEquation_46 ?_
    refine V.getR C fX10_7 dX10_removeEquation_47 (by assumption) rfl ?_
    refine V.bipush C (nI 8) b_8 dX10_removeEquation_50 ?_
    refine V.ialdN C dX10_removeEquation_52 (by assumption) (by omega) ?_
    rw [sA_A, up_eq]
    exact V.iretS C R dX10_removeEquation_53 (by
      have Fe_ : FM [] [124] σ25 (sA σ32 124 (va_up (σ32.2.1 124) 8 (nI (P.2.1.length - 1)))) := f_32.sA _ (by decide)
      refine ⟨by unfold rmR; rw [if_pos z_], ?_, ?_, ((FM.refl [0, 4] [124, 126] σ).sF _ (by decide)).trans ((pp_25.2.mono (by decide) (by decide)).trans (Fe_.mono (by decide) (by decide)))⟩
      · unfold rmE; rw [if_pos z_, nI_toNat (by omega), sA_A]
        refine hP.remE hwf hv (fun j j1 j2 => ?_) (fun j j1 j2 => ?_) (up_eq _ _ _)
        · rw [up_ne _ _ (by omega)]; exact s1_ j (by omega) (by omega)
        · rw [up_ne _ _ j1]; exact s2_ j (by omega)
      · unfold rmH; rw [if_pos z_]
        exact pp_25.1.fm Fe_ (by decide) (by decide))
  · have z_ := bI_eq0 hb_19
    refine V.iconst C ((-1)) c_m1 dX10_removeEquation_22 ?_
    exact V.iretS C R dX10_removeEquation_23 ⟨by unfold rmR; rw [if_neg (by rw [z_]; decide)], by unfold rmE; rw [if_neg (by rw [z_]; decide)]; exact hP, by unfold rmH; rw [if_neg (by rw [z_]; decide)]; exact hH.fm ((FM.refl [0] [] σ).sF _ (by decide)) (by decide) (by decide), (FM.refl _ _ _).sF _ (by decide)⟩
set_option maxRecDepth 100000 in
set_option maxHeartbeats 4000000 in
theorem ct_M_removeDisequation (G : Gl) (σ : SS) (P : Prob) (hs : List Prob) (x : Int32) (hP : FP (σ.2.1 124) P) (hwf : wfP P) (hH : RHm σ hs) (hwH : wfH hs) : CI G mX10_removeDisequation [Rf G 123, .int x] σ (fun r σ1 => r = rmR P.2.2 x ∧ FP (σ1.2.1 124) (rmD P x) ∧ RHm σ1 (rmH P.2.2 hs P x) ∧ FM [0, 4] [124, 126] σ σ1) := by
  refine Ctr.of oX10_removeDisequation (Nat.le_of_ble_eq_true rfl) ?_
  intro X C R hnm hz0
  have C : Cx G X cX10_removeDisequation 2 RX10 1 23 0 0 := C
  have R : Cr G X (some .int) 0 0 _ := R
  show V G X 2 0 0 0 [(0, Rf G 123), (1, .int x)] [] (wld G σ)
  have kk_123 := sk_123
  have kk_124 := sk_124
  have kk_125 := sk_125
  have kk_126 := sk_126
  have kk_127 := sk_127
  have kk_128 := sk_128
  have kk_129 := sk_129
  have kk_130 := sk_130
  have l1_ := hwf.2.1
  have l2_ := hwf.2.2.1
  refine V.aload_n C 0 rfl rfl dX10_removeDisequation_0 ?_
  refine V.iconst C (nI 0) c_0 dX10_removeDisequation_1 ?_
  refine V.putI C fX10_47 dX10_removeDisequation_2 (by assumption) rfl ?_
  refine V.iload_n C 1 rfl rfl dX10_removeDisequation_5 ?_
  refine V.iconst C (nI 0) c_0 dX10_removeDisequation_6 ?_
  refine V.aload_n C 0 rfl rfl dX10_removeDisequation_7 ?_
  refine V.getR C fX10_7 dX10_removeDisequation_8 (by assumption) rfl ?_
  refine V.bipush C (nI 9) b_9 dX10_removeDisequation_11 ?_
  refine V.ialdN C dX10_removeDisequation_13 (by assumption) (by omega) ?_
  rw [show (sF σ 123 0 (nI 0)).2.1 124 9 = nI P.2.2.length from hP.2.2.1]
  refine V.iconst C (nI 1) c_1 dX10_removeDisequation_14 ?_
  refine V.isub C dX10_removeDisequation_15 ?_
  refine V.cSi C lX10_60 oX10_in dX10_removeDisequation_16 (ct_M_in G _ x (nI 0) (nI P.2.2.length - nI 1)) rfl rfl (Nat.le_of_ble_eq_true rfl) ⟨Nat.le_of_ble_eq_true rfl, Nat.le_of_ble_eq_true rfl⟩ ⟨Nat.le_of_ble_eq_true rfl, Nat.le_of_ble_eq_true rfl⟩ (fun rr_16 σ16 pp_16 => ?_)
  obtain ⟨ee_16, ff_16⟩ := pp_16
  rw [ee_16, ff_16, in_inB (by omega)]
  refine V.if_ne C 24 dX10_removeDisequation_19 rfl (fun hb_19 => ?_) (fun hb_19 => ?_)
  · have z_ := bI_ne0 hb_19
    obtain ⟨v, hv, rfl⟩ := inB_of (by omega) z_
    refine V.aload_n C 0 rfl rfl dX10_removeDisequation_24 ?_
    refine V.cVv C lX10_141 oX10_keep dX10_removeDisequation_25 (ct_M_keep G _ P hs hP hwf (hH.fm ((FM.refl [0] [] σ).sF (nI 0) (by decide)) (by decide) (by decide)) hwH) (by assumption) rfl rfl (Nat.le_of_ble_eq_true rfl) ⟨Nat.le_of_ble_eq_true rfl, Nat.le_of_ble_eq_true rfl⟩ ⟨Nat.le_of_ble_eq_true rfl, Nat.le_of_ble_eq_true rfl⟩ (fun σ25 pp_25 => ?_)
    refine V.aload_n C 0 rfl rfl dX10_removeDisequation_28 ?_
    refine V.bipush C (nI 10) b_10 dX10_removeDisequation_29 ?_
    refine V.iload_n C 1 rfl rfl dX10_removeDisequation_31 ?_
    refine V.iadd C dX10_removeDisequation_32 ?_
    rw [nI_add]
    refine V.bipush C (nI 13) b_13 dX10_removeDisequation_33 ?_
    refine V.cVv C lX10_147 oX10_removeAt dX10_removeDisequation_35 (ct_M_removeAt G σ25 (10 + v) 13 (by omega) (by omega)) (by assumption) rfl rfl (Nat.le_of_ble_eq_true rfl) ⟨Nat.le_of_ble_eq_true rfl, Nat.le_of_ble_eq_true rfl⟩ ⟨Nat.le_of_ble_eq_true rfl, Nat.le_of_ble_eq_true rfl⟩ (fun σ35 pp_35 => ?_)
    obtain ⟨s1_, s2_, f_35⟩ := pp_35
    have P25_ : σ25.2.1 124 = σ.2.1 124 := by rw [pp_25.2.a (by decide)]; rfl
    rw [P25_] at s1_ s2_
    refine V.aload_n C 0 rfl rfl dX10_removeDisequation_38 ?_
    refine V.getR C fX10_7 dX10_removeDisequation_39 (by assumption) rfl ?_
    refine V.bipush C (nI 9) b_9 dX10_removeDisequation_42 ?_
    refine V.dup2 C rfl rfl dX10_removeDisequation_44 ?_
    refine V.ialdN C dX10_removeDisequation_45 (by assumption) (by omega) ?_
    rw [s2_ _ (by omega), hP.2.2.1]
    refine V.iconst C (nI 1) c_1 dX10_removeDisequation_46 ?_
    refine V.isub C dX10_removeDisequation_47 ?_
    rw [nI_sub (by omega)]
    refine V.iastN C dX10_removeDisequation_48 (by assumption) (by omega) ?_
    refine V.aload_n C 0 rfl rfl dX10_removeDisequation_49 ?_
    refine V.getR C fX10_7 dX10_removeDisequation_50 (by assumption) rfl ?_
    refine V.bipush C (nI 9) b_9 dX10_removeDisequation_53 ?_
    refine V.ialdN C dX10_removeDisequation_55 (by assumption) (by omega) ?_
    rw [sA_A, up_eq]
    exact V.iretS C R dX10_removeDisequation_56 (by
      have Fe_ : FM [] [124] σ25 (sA σ35 124 (va_up (σ35.2.1 124) 9 (nI (P.2.2.length - 1)))) := f_35.sA _ (by decide)
      refine ⟨by unfold rmR; rw [if_pos z_], ?_, ?_, ((FM.refl [0, 4] [124, 126] σ).sF _ (by decide)).trans ((pp_25.2.mono (by decide) (by decide)).trans (Fe_.mono (by decide) (by decide)))⟩
      · unfold rmD; rw [if_pos z_, nI_toNat (by omega), sA_A]
        refine hP.remD hwf hv (fun j j1 j2 => ?_) (fun j j1 j2 => ?_) (up_eq _ _ _)
        · rw [up_ne _ _ (by omega)]; exact s1_ j (by omega) (by omega)
        · rw [up_ne _ _ j1]; exact s2_ j (by omega)
      · unfold rmH; rw [if_pos z_]
        exact pp_25.1.fm Fe_ (by decide) (by decide))
  · have z_ := bI_eq0 hb_19
    refine V.iconst C ((-1)) c_m1 dX10_removeDisequation_22 ?_
    exact V.iretS C R dX10_removeDisequation_23 ⟨by unfold rmR; rw [if_neg (by rw [z_]; decide)], by unfold rmD; rw [if_neg (by rw [z_]; decide)]; exact hP, by unfold rmH; rw [if_neg (by rw [z_]; decide)]; exact hH.fm ((FM.refl [0] [] σ).sF _ (by decide)) (by decide) (by decide), (FM.refl _ _ _).sF _ (by decide)⟩
