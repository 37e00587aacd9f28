/-! Statements: copyFrom, drop, finish; Problem. -/
theorem cpS_fr (σ : SS) (o o2 f t m : Nat) : Fr o (o + 4) σ (cpS σ o o2 f t m) := by
  unfold cpS
  exact (((Fr.refl o (o + 4) σ).sA _ (by omega) (by omega)).sA _ (by omega) (by omega)).sA _ (by omega) (by omega)
theorem cpS_1 (σ : SS) (o o2 f t m : Nat) : (cpS σ o o2 f t m).2.1 (o + 1) = va_cpy (σ.2.1 (o2 + 1)) (σ.2.1 (o + 1)) f t m := by
  unfold cpS; rw [sA_ne _ _ (by omega), sA_ne _ _ (by omega), sA_A]
theorem cpS_2 (σ : SS) (o o2 f t m : Nat) : (cpS σ o o2 f t m).2.1 (o + 2) = va_cpy (σ.2.1 (o2 + 2)) (σ.2.1 (o + 2)) (f * 32) (t * 32) (m * 32) := by
  unfold cpS; rw [sA_ne _ _ (by omega), sA_A]
theorem cpS_3 (σ : SS) (o o2 f t m : Nat) : (cpS σ o o2 f t m).2.1 (o + 3) = va_cpy (σ.2.1 (o2 + 3)) (σ.2.1 (o + 3)) (f * 2) (t * 2) (m * 2) := by
  unfold cpS; rw [sA_A]
theorem cpS_F (σ : SS) (o o2 f t m : Nat) : (cpS σ o o2 f t m).1 = σ.1 := rfl
theorem cpy_in {α : Type} {f g : Nat → α} {sp dp n k : Nat} (h1 : dp ≤ k) (h2 : k < dp + n) : va_cpy f g sp dp n k = f (sp + (k - dp)) := by unfold va_cpy; rw [if_pos ⟨h1, h2⟩]
theorem cpy_out {α : Type} {f g : Nat → α} {sp dp n k : Nat} (h : ¬ (dp ≤ k ∧ k < dp + n)) : va_cpy f g sp dp n k = g k := by unfold va_cpy; rw [if_neg h]
/-- a row copied is the row -/
theorem stAt_cp {σ σ' : SS} {o o2 f t m i : Nat} {s : Stm} (hn : s.1 ≤ 16) (hA : ∀ k, σ'.2.1 k = σ.2.1 k) (h1 : t ≤ i) (h2 : i < t + m) (h : stAt σ o2 (f + (i - t)) s) : stAt (cpS σ' o o2 f t m) o i s := by
  obtain ⟨q1, q2, q3, q4, q5⟩ := h
  unfold stAt
  rw [cpS_1, cpS_2, cpS_3, hA, hA, hA, hA, hA, hA]
  refine ⟨?_, fun k hk => ?_, fun k hk => ?_, ?_, ?_⟩
  · rw [cpy_in h1 h2]; exact q1
  · rw [cpy_in (by omega) (by omega), show f * 32 + ((i * 2 + 0) * 16 + k - t * 32) = ((f + (i - t)) * 2 + 0) * 16 + k by omega]; exact q2 k hk
  · rw [cpy_in (by omega) (by omega), show f * 32 + ((i * 2 + 1) * 16 + k - t * 32) = ((f + (i - t)) * 2 + 1) * 16 + k by omega]; exact q3 k hk
  · rw [cpy_in (by omega) (by omega), show f * 2 + (i * 2 + 0 - t * 2) = (f + (i - t)) * 2 + 0 by omega]; exact q4
  · rw [cpy_in (by omega) (by omega), show f * 2 + (i * 2 + 1 - t * 2) = (f + (i - t)) * 2 + 1 by omega]; exact q5
theorem stAt_out {σ σ' : SS} {o o2 f t m i : Nat} {s : Stm} (hn : s.1 ≤ 16) (hA : ∀ k, σ'.2.1 k = σ.2.1 k) (h1 : i < t) (h : stAt σ o i s) : stAt (cpS σ' o o2 f t m) o i s := by
  obtain ⟨q1, q2, q3, q4, q5⟩ := h
  unfold stAt
  rw [cpS_1, cpS_2, cpS_3, hA, hA, hA, hA, hA, hA]
  refine ⟨?_, fun k hk => ?_, fun k hk => ?_, ?_, ?_⟩
  · rw [cpy_out (by omega)]; exact q1
  · rw [cpy_out (by omega)]; exact q2 k hk
  · rw [cpy_out (by omega)]; exact q3 k hk
  · rw [cpy_out (by omega)]; exact q4
  · rw [cpy_out (by omega)]; exact q5
def okL (l : List Stm) : Prop := ∀ (i : Nat) (s : Stm), l[i]? = some s → okS s
theorem RS.copied {σ : SS} {o cap o2 cap2 : Nat} {l l0 : List Stm} (h : RS σ o2 cap2 l) (h0 : RS σ o cap l0) (hok : okL l) (hcap : l.length ≤ cap) (hd : o ≠ o2) : RS (cpS (sF σ o 1 (nI l.length)) o o2 0 0 l.length) o cap l := by
  refine ⟨?_, ?_, hcap, fun i s hi => ?_⟩
  · rw [cpS_F, sF_ne _ _ (by omega)]; exact h0.1
  · rw [cpS_F, sF_F]
  · have hl := (List.getElem?_eq_some_iff.mp hi).1
    exact stAt_cp (hok i s hi).2.1 (fun _ => rfl) (by omega) (by omega) (by rw [show 0 + (i - 0) = i by omega]; exact h.2.2.2 i s hi)
theorem RS.dropped {σ : SS} {o cap i : Nat} {l : List Stm} (h : RS σ o cap l) (hok : okL l) (hi : i < l.length) : RS (cpS (sF σ o 1 (nI (l.length - 1))) o o (i + 1) i (l.length - 1 - i)) o cap (l.eraseIdx i) := by
  have hlen : (l.eraseIdx i).length = l.length - 1 := List.length_eraseIdx_of_lt hi
  refine ⟨?_, ?_, ?_, fun j s hj => ?_⟩
  · rw [cpS_F, sF_ne _ _ (by omega)]; exact h.1
  · rw [cpS_F, sF_F, hlen]
  · have := h.2.2.1; omega
  · have hl := (List.getElem?_eq_some_iff.mp hj).1
    rw [hlen] at hl
    rw [List.getElem?_eraseIdx] at hj
    by_cases hji : j < i
    · rw [if_pos hji] at hj
      exact stAt_out (hok j s hj).2.1 (fun _ => rfl) hji (h.2.2.2 j s hj)
    · rw [if_neg hji] at hj
      exact stAt_cp (hok _ s hj).2.1 (fun _ => rfl) (by omega) (by omega) (by rw [show i + 1 + (j - i) = j + 1 by omega]; exact h.2.2.2 (j + 1) s hj)
set_option maxRecDepth 100000 in
set_option maxHeartbeats 4000000 in
theorem ct_St_copyFrom (G : Gl) (σ : SS) (o cap o2 cap2 : Nat) (l l0 : List Stm) (hS : StA o cap) (hS2 : StA o2 cap2) (hl : RS σ o2 cap2 l) (h0 : RS σ o cap l0) (hok : okL l) (hcap : l.length ≤ cap) (hd : o + 4 ≤ o2 ∨ o2 + 4 ≤ o) : CV G mX6_copyFrom [Rf G o, Rf G o2] σ (fun σ1 => RS σ1 o cap l ∧ Fr o (o + 4) σ σ1) := by
  refine Ctr.of oX6_copyFrom (Nat.le_of_ble_eq_true rfl) ?_
  intro X C R hnm hz0
  have C : Cx G X cX6_copyFrom 2 RX6 2 53 0 0 := C
  have R : Cr G X none 0 0 _ := R
  show V G X 2 0 0 0 [(0, Rf G o), (1, Rf G o2)] [] (wld G σ)
  obtain ⟨ha_0, ha_1, ha_2, ha_3, ha_4⟩ := id hS
  obtain ⟨hz_0, hz_1, hz_2, hz_3, hz_4⟩ := id hS2
  have hl2 := hl.2.2.1
  refine V.aload_n C 0 rfl rfl dX6_copyFrom_0 ?_
  refine V.aload_n C 1 rfl rfl dX6_copyFrom_1 ?_
  refine V.getI C fX6_31 dX6_copyFrom_2 (by assumption) rfl ?_
  rw [hl.2.1]
  refine V.aload_n C 0 rfl rfl dX6_copyFrom_5 ?_
  refine V.getI C fX6_15 dX6_copyFrom_6 (by assumption) rfl ?_
  rw [h0.1]
  refine V.mmin C lX6_55 math_min1 math_ini math_min2 dX6_copyFrom_9 (Nat.le_of_ble_eq_true rfl) (Nat.le_of_ble_eq_true rfl) (Nat.le_of_ble_eq_true rfl) (Nat.le_of_ble_eq_true rfl) ?_
  rw [min_nI (by omega) (by omega), show min l.length cap = l.length by omega]
  refine V.putI C fX6_31 dX6_copyFrom_12 (by assumption) rfl ?_
  refine V.aload_n C 0 rfl rfl dX6_copyFrom_15 ?_
  refine V.aload_n C 1 rfl rfl dX6_copyFrom_16 ?_
  refine V.iconst C (nI 0) c_0 dX6_copyFrom_17 ?_
  refine V.iconst C (nI 0) c_0 dX6_copyFrom_18 ?_
  refine V.aload_n C 0 rfl rfl dX6_copyFrom_19 ?_
  refine V.getI C fX6_31 dX6_copyFrom_20 (by assumption) rfl ?_
  rw [sF_F]
  refine V.cVv C lX6_58 oX6_move dX6_copyFrom_23 (ct_St_move G _ o cap o2 cap2 0 0 l.length hS hS2 (by omega) (by omega) (by omega)) (by assumption) rfl rfl (Nat.le_of_ble_eq_true rfl) ⟨Nat.le_of_ble_eq_true rfl, Nat.le_of_ble_eq_true rfl⟩ ⟨Nat.le_of_ble_eq_true rfl, Nat.le_of_ble_eq_true rfl⟩ (fun σ23 pp_23 => ?_)
  exact V.vretS C R dX6_copyFrom_26 ⟨by rw [pp_23]; exact RS.copied hl h0 hok hcap (by omega), by rw [pp_23]; exact ((Fr.refl o (o + 4) σ).sF _ _ (by omega) (by omega)).trans (cpS_fr _ _ _ _ _ _)⟩
set_option maxRecDepth 100000 in
set_option maxHeartbeats 4000000 in
theorem ct_St_drop (G : Gl) (σ : SS) (o cap i : Nat) (l : List Stm) (hS : StA o cap) (hl : RS σ o cap l) (hok : okL l) (hi : i < l.length) : CV G mX6_drop [Rf G o, .int (nI i)] σ (fun σ1 => RS σ1 o cap (l.eraseIdx i) ∧ Fr o (o + 4) σ σ1) := by
  refine Ctr.of oX6_drop (Nat.le_of_ble_eq_true rfl) ?_
  intro X C R hnm hz0
  have C : Cx G X cX6_drop 2 RX6 2 53 0 0 := C
  have R : Cr G X none 0 0 _ := R
  show V G X 2 0 0 0 [(0, Rf G o), (1, .int (nI i))] [] (wld G σ)
  obtain ⟨ha_0, ha_1, ha_2, ha_3, ha_4⟩ := id hS
  have hl2 := hl.2.2.1
  refine V.aload_n C 0 rfl rfl dX6_drop_0 ?_
  refine V.iload_n C 1 rfl rfl dX6_drop_1 ?_
  refine V.cVi C lX6_34 oX6_has dX6_drop_2 (ct_St_has G σ o cap l.length (nI i) hS hl.2.1 (by omega)) (by assumption) rfl rfl (Nat.le_of_ble_eq_true rfl) ⟨Nat.le_of_ble_eq_true rfl, Nat.le_of_ble_eq_true rfl⟩ ⟨Nat.le_of_ble_eq_true rfl, Nat.le_of_ble_eq_true rfl⟩ (fun rr_2 σ2 pp_2 => ?_)
  obtain ⟨ee_2, ff_2⟩ := pp_2
  rw [ee_2, ff_2, inB_nI (by omega)]
  refine V.if_eq C 33 dX6_drop_5 rfl (fun hb_5 => ?_) (fun hb_5 => ?_)
  · exact absurd (bI_eq0 hb_5) (by simp [hi])
  · refine V.aload_n C 0 rfl rfl dX6_drop_8 ?_
    refine V.dup C rfl dX6_drop_9 ?_
    refine V.getI C fX6_31 dX6_drop_10 (by assumption) rfl ?_
    rw [hl.2.1]
    refine V.iconst C (nI 1) c_1 dX6_drop_13 ?_
    refine V.isub C dX6_drop_14 ?_
    rw [show nI l.length - nI 1 = nI (l.length - 1) from nI_sub (by omega)]
    refine V.putI C fX6_31 dX6_drop_15 (by assumption) rfl ?_
    refine V.aload_n C 0 rfl rfl dX6_drop_18 ?_
    refine V.aload_n C 0 rfl rfl dX6_drop_19 ?_
    refine V.iload_n C 1 rfl rfl dX6_drop_20 ?_
    refine V.iconst C (nI 1) c_1 dX6_drop_21 ?_
    refine V.iadd C dX6_drop_22 ?_
    rw [show nI i + nI 1 = nI (i + 1) from nI_add i 1]
    refine V.iload_n C 1 rfl rfl dX6_drop_23 ?_
    refine V.aload_n C 0 rfl rfl dX6_drop_24 ?_
    refine V.getI C fX6_31 dX6_drop_25 (by assumption) rfl ?_
    rw [sF_F]
    refine V.iload_n C 1 rfl rfl dX6_drop_28 ?_
    refine V.isub C dX6_drop_29 ?_
    rw [nI_sub (by omega)]
    refine V.cVv C lX6_58 oX6_move dX6_drop_30 (ct_St_move G _ o cap o cap (i + 1) i (l.length - 1 - i) hS hS (Or.inl rfl) (by omega) (by omega)) (by assumption) rfl rfl (Nat.le_of_ble_eq_true rfl) ⟨Nat.le_of_ble_eq_true rfl, Nat.le_of_ble_eq_true rfl⟩ ⟨Nat.le_of_ble_eq_true rfl, Nat.le_of_ble_eq_true rfl⟩ (fun σ30 pp_30 => ?_)
    exact V.vretS C R dX6_drop_33 ⟨by rw [pp_30]; exact RS.dropped hl hok hi, by rw [pp_30]; exact ((Fr.refl o (o + 4) σ).sF _ _ (by omega) (by omega)).trans (cpS_fr _ _ _ _ _ _)⟩
set_option maxRecDepth 100000 in
set_option maxHeartbeats 4000000 in
theorem ct_Pb_widthOf (G : Gl) (σ : SS) (p v : Nat) (P : Prob) (hA : PbA p) (hP : RP σ p P) (hv : v < 8) : CI G mX4_widthOf [Rf G p, .int (nI v)] σ (fun r σ1 => r = nI (P.1 v) ∧ σ1 = σ) := by
  refine Ctr.of oX4_widthOf (Nat.le_of_ble_eq_true rfl) ?_
  intro X C R hnm hz0
  have C : Cx G X cX4_widthOf 2 RX4 1 20 0 0 := C
  have R : Cr G X (some .int) 0 0 _ := R
  show V G X 2 0 0 0 [(0, Rf G p), (1, .int (nI v))] [] (wld G σ)
  obtain ⟨hp_0, hp_1, hp_2, hp_3⟩ := id hA
  have hp_4 := hp_2.1
  have hp_5 := hp_3.1
  refine V.iload_n C 1 rfl rfl dX4_widthOf_0 ?_
  refine V.cSNi C lX4_27 oX9_isVariable dX4_widthOf_1 (ct_isVariable G σ (nI v)) rfl rfl (Nat.le_of_ble_eq_true rfl) ⟨Nat.le_of_ble_eq_true rfl, Nat.le_of_ble_eq_true rfl⟩ ⟨Nat.le_of_ble_eq_true rfl, Nat.le_of_ble_eq_true rfl⟩ (fun rr_1 σ1 pp_1 => ?_)
  obtain ⟨ee_1, ff_1⟩ := pp_1
  rw [ee_1, ff_1, inB_nI (by omega)]
  refine V.if_eq C 16 dX4_widthOf_4 rfl (fun hb_4 => ?_) (fun hb_4 => ?_)
  · exact absurd (bI_eq0 hb_4) (by simp [hv])
  · refine V.aload_n C 0 rfl rfl dX4_widthOf_7 ?_
    refine V.getR C fX4_9 dX4_widthOf_8 (by assumption) rfl ?_
    refine V.iload_n C 1 rfl rfl dX4_widthOf_11 ?_
    refine V.ialdN C dX4_widthOf_12 (by assumption) (by omega) ?_
    rw [hP.1 v hv]
    refine V.goto C 17 dX4_widthOf_13 rfl ?_
    exact V.iretS C R dX4_widthOf_17 ⟨rfl, rfl⟩
set_option maxRecDepth 100000 in
set_option maxHeartbeats 4000000 in
theorem ct_Pb_statementCount (G : Gl) (σ : SS) (p : Nat) (P : Prob) (hA : PbA p) (hP : RP σ p P) : CI G mX4_statementCount [Rf G p] σ (fun r σ1 => r = nI (P.2.1.length + P.2.2.length) ∧ σ1 = σ) := by
  refine Ctr.of oX4_statementCount (Nat.le_of_ble_eq_true rfl) ?_
  intro X C R hnm hz0
  have C : Cx G X cX4_statementCount 1 RX4 1 20 0 0 := C
  have R : Cr G X (some .int) 0 0 _ := R
  show V G X 1 0 0 0 [(0, Rf G p)] [] (wld G σ)
  obtain ⟨hp_0, hp_1, hp_2, hp_3⟩ := id hA
  have hp_4 := hp_2.1
  have hp_5 := hp_3.1
  refine V.aload_n C 0 rfl rfl dX4_statementCount_0 ?_
  refine V.getR C fX4_20 dX4_statementCount_1 (by assumption) rfl ?_
  refine V.cVi C lX4_31 oX6_count dX4_statementCount_4 (ct_St_count G σ (p + 2) 10 hp_2) (by assumption) rfl rfl (Nat.le_of_ble_eq_true rfl) ⟨Nat.le_of_ble_eq_true rfl, Nat.le_of_ble_eq_true rfl⟩ ⟨Nat.le_of_ble_eq_true rfl, Nat.le_of_ble_eq_true rfl⟩ (fun rr_4 σ4 pp_4 => ?_)
  obtain ⟨ee_4, ff_4⟩ := pp_4
  rw [ee_4, ff_4, hP.2.1.2.1]
  refine V.aload_n C 0 rfl rfl dX4_statementCount_7 ?_
  refine V.getR C fX4_24 dX4_statementCount_8 (by assumption) rfl ?_
  refine V.cVi C lX4_31 oX6_count dX4_statementCount_11 (ct_St_count G σ (p + 6) 3 hp_3) (by assumption) rfl rfl (Nat.le_of_ble_eq_true rfl) ⟨Nat.le_of_ble_eq_true rfl, Nat.le_of_ble_eq_true rfl⟩ ⟨Nat.le_of_ble_eq_true rfl, Nat.le_of_ble_eq_true rfl⟩ (fun rr_11 σ11 pp_11 => ?_)
  obtain ⟨ee_11, ff_11⟩ := pp_11
  rw [ee_11, ff_11, hP.2.2.2.1]
  refine V.iadd C dX4_statementCount_14 ?_
  exact V.iretS C R dX4_statementCount_15 ⟨nI_add _ _, rfl⟩
set_option maxRecDepth 100000 in
set_option maxHeartbeats 4000000 in
theorem ct_Pb_declare (G : Gl) (σ : SS) (p v w : Nat) (P : Prob) (hA : PbA p) (hP : RP σ p P) (hv : v < 8) : CV G mX4_declare [Rf G p, .int (nI v), .int (nI w)] σ (fun σ1 => RP σ1 p (va_up P.1 v w, P.2.1, P.2.2) ∧ Fr p (p + 10) σ σ1) := by
  refine Ctr.of oX4_declare (Nat.le_of_ble_eq_true rfl) ?_
  intro X C R hnm hz0
  have C : Cx G X cX4_declare 3 RX4 1 20 0 0 := C
  have R : Cr G X none 0 0 _ := R
  show V G X 3 0 0 0 [(0, Rf G p), (1, .int (nI v)), (2, .int (nI w))] [] (wld G σ)
  obtain ⟨hp_0, hp_1, hp_2, hp_3⟩ := id hA
  have hp_4 := hp_2.1
  have hp_5 := hp_3.1
  refine V.iload_n C 1 rfl rfl dX4_declare_0 ?_
  refine V.cSNi C lX4_27 oX9_isVariable dX4_declare_1 (ct_isVariable G σ (nI v)) rfl rfl (Nat.le_of_ble_eq_true rfl) ⟨Nat.le_of_ble_eq_true rfl, Nat.le_of_ble_eq_true rfl⟩ ⟨Nat.le_of_ble_eq_true rfl, Nat.le_of_ble_eq_true rfl⟩ (fun rr_1 σ1 pp_1 => ?_)
  obtain ⟨ee_1, ff_1⟩ := pp_1
  rw [ee_1, ff_1, inB_nI (by omega)]
  refine V.if_eq C 14 dX4_declare_4 rfl (fun hb_4 => ?_) (fun hb_4 => ?_)
  · exact absurd (bI_eq0 hb_4) (by simp [hv])
  · refine V.aload_n C 0 rfl rfl dX4_declare_7 ?_
    refine V.getR C fX4_9 dX4_declare_8 (by assumption) rfl ?_
    refine V.iload_n C 1 rfl rfl dX4_declare_11 ?_
    refine V.iload_n C 2 rfl rfl dX4_declare_12 ?_
    refine V.iastN C dX4_declare_13 (by assumption) (by omega) ?_
    exact V.vretS C R dX4_declare_14 ⟨⟨fun x hx => by
    rw [sA_A]
    by_cases e_x : x = v
    · rw [e_x, up_eq]; show _ = nI (va_up P.1 v w v); rw [up_eq]
    · rw [up_ne _ _ e_x]; show _ = nI (va_up P.1 v w x); rw [up_ne _ _ e_x]; exact hP.1 x hx, hP.2.1.fr ((Fr.refl (p + 1) (p + 2) σ).sA _ (by omega) (by omega)) (by omega), hP.2.2.fr ((Fr.refl (p + 1) (p + 2) σ).sA _ (by omega) (by omega)) (by omega)⟩, (Fr.refl p (p + 10) σ).sA _ (by omega) (by omega)⟩
set_option maxRecDepth 100000 in
set_option maxHeartbeats 4000000 in
theorem ct_Pb_clear (G : Gl) (σ : SS) (p : Nat) (P : Prob) (hA : PbA p) (hP : RP σ p P) : CV G mX4_clear [Rf G p] σ (fun σ1 => RP σ1 p (fun _ => 0, [], []) ∧ Fr p (p + 10) σ σ1) := by
  refine Ctr.of oX4_clear (Nat.le_of_ble_eq_true rfl) ?_
  intro X C R hnm hz0
  have C : Cx G X cX4_clear 1 RX4 1 23 0 0 := C
  have R : Cr G X none 0 0 _ := R
  show V G X 1 0 0 0 [(0, Rf G p)] [] (wld G σ)
  obtain ⟨hp_0, hp_1, hp_2, hp_3⟩ := id hA
  have hp_4 := hp_2.1
  have hp_5 := hp_3.1
  refine V.aload_n C 0 rfl rfl dX4_clear_0 ?_
  refine V.getR C fX4_9 dX4_clear_1 (by assumption) rfl ?_
  refine V.iconst C (nI 0) c_0 dX4_clear_4 ?_
  refine V.cSv C lX4_35 oJ7_fill_53178 dX4_clear_5 (ct_fillI G σ (p + 1) 8 (nI 0) hp_1 (by decide)) rfl rfl (Nat.le_of_ble_eq_true rfl) ⟨Nat.le_of_ble_eq_true rfl, Nat.le_of_ble_eq_true rfl⟩ ⟨Nat.le_of_ble_eq_true rfl, Nat.le_of_ble_eq_true rfl⟩ (fun σ5 pp_5 => ?_)
  refine V.aload_n C 0 rfl rfl dX4_clear_8 ?_
  refine V.getR C fX4_20 dX4_clear_9 (by assumption) rfl ?_
  refine V.cVv C lX4_41 oX6_clear dX4_clear_12 (ct_St_clear G σ5 (p + 2) 10 hp_2) (by assumption) rfl rfl (Nat.le_of_ble_eq_true rfl) ⟨Nat.le_of_ble_eq_true rfl, Nat.le_of_ble_eq_true rfl⟩ ⟨Nat.le_of_ble_eq_true rfl, Nat.le_of_ble_eq_true rfl⟩ (fun σ12 pp_12 => ?_)
  refine V.aload_n C 0 rfl rfl dX4_clear_15 ?_
  refine V.getR C fX4_24 dX4_clear_16 (by assumption) rfl ?_
  refine V.cVv C lX4_41 oX6_clear dX4_clear_19 (ct_St_clear G σ12 (p + 6) 3 hp_3) (by assumption) rfl rfl (Nat.le_of_ble_eq_true rfl) ⟨Nat.le_of_ble_eq_true rfl, Nat.le_of_ble_eq_true rfl⟩ ⟨Nat.le_of_ble_eq_true rfl, Nat.le_of_ble_eq_true rfl⟩ (fun σ19 pp_19 => ?_)
  exact V.vretS C R dX4_clear_22 (by
  have f_5 : Fr (p + 1) (p + 2) σ σ5 := by rw [pp_5]; exact (Fr.refl _ _ _).sA _ (by omega) (by omega)
  have f_12 : Fr (p + 2) (p + 3) σ5 σ12 := by rw [pp_12]; exact (Fr.refl _ _ _).sF _ _ (by omega) (by omega)
  have f_19 : Fr (p + 6) (p + 7) σ12 σ19 := by rw [pp_19]; exact (Fr.refl _ _ _).sF _ _ (by omega) (by omega)
  have g_1 := hP.2.1.1
  have g_2 := hP.2.2.1
  refine ⟨⟨fun x hx => ?_, ⟨?_, ?_, by simp, fun i s h => by simp at h⟩, ⟨?_, ?_, by simp, fun i s h => by simp at h⟩⟩, ((f_5.mono (by omega) (by omega)).trans (f_12.mono (by omega) (by omega))).trans (f_19.mono (by omega) (by omega))⟩
  · rw [f_19.A (by omega), f_12.A (by omega), pp_5, sA_A, if_pos hx]
  · rw [f_19.F (by omega), pp_12, sF_ne _ _ (by omega), f_5.F (by omega)]; exact g_1
  · rw [f_19.F (by omega), pp_12, sF_F]; rfl
  · rw [pp_19, sF_ne _ _ (by omega), f_12.F (by omega), f_5.F (by omega)]; exact g_2
  · rw [pp_19, sF_F]; rfl)
set_option maxRecDepth 100000 in
set_option maxHeartbeats 4000000 in
theorem ct_Pb_copyFrom (G : Gl) (σ : SS) (p q : Nat) (P P0 : Prob) (hA : PbA p) (hB : PbA q) (hP : RP σ q P) (h0 : RP σ p P0) (hok : okL P.2.1 ∧ okL P.2.2) (hd : p + 10 ≤ q ∨ q + 10 ≤ p) : CV G mX4_copyFrom [Rf G p, Rf G q] σ (fun σ1 => RP σ1 p P ∧ Fr p (p + 10) σ σ1) := by
  refine Ctr.of oX4_copyFrom (Nat.le_of_ble_eq_true rfl) ?_
  intro X C R hnm hz0
  have C : Cx G X cX4_copyFrom 2 RX4 3 74 0 0 := C
  have R : Cr G X none 0 0 _ := R
  show V G X 2 0 0 0 [(0, Rf G p), (1, Rf G q)] [] (wld G σ)
  obtain ⟨hp_0, hp_1, hp_2, hp_3⟩ := id hA
  have hp_4 := hp_2.1
  have hp_5 := hp_3.1
  obtain ⟨hq_0, hq_1, hq_2, hq_3⟩ := id hB
  have hq_4 := hq_2.1
  have hq_5 := hq_3.1
  refine V.aload_n C 1 rfl rfl dX4_copyFrom_0 ?_
  refine V.getR C fX4_9 dX4_copyFrom_1 (by assumption) rfl ?_
  refine V.iconst C (nI 0) c_0 dX4_copyFrom_4 ?_
  refine V.aload_n C 0 rfl rfl dX4_copyFrom_5 ?_
  refine V.getR C fX4_9 dX4_copyFrom_6 (by assumption) rfl ?_
  refine V.iconst C (nI 0) c_0 dX4_copyFrom_9 ?_
  refine V.bipush C (nI 8) b_8 dX4_copyFrom_10 ?_
  refine V.copyN C lX4_44 dX4_copyFrom_12 (by assumption) (by assumption) (by omega) (by omega) (Nat.le_of_ble_eq_true rfl) (Nat.le_of_ble_eq_true rfl) ?_
  have f_1 : Fr (p + 1) (p + 2) σ (sA σ (p + 1) (va_cpy (σ.2.1 (q + 1)) (σ.2.1 (p + 1)) 0 0 8)) := (Fr.refl _ _ _).sA _ (by omega) (by omega)
  refine V.aload_n C 0 rfl rfl dX4_copyFrom_15 ?_
  refine V.getR C fX4_20 dX4_copyFrom_16 (by assumption) rfl ?_
  refine V.aload_n C 1 rfl rfl dX4_copyFrom_19 ?_
  refine V.getR C fX4_20 dX4_copyFrom_20 (by assumption) rfl ?_
  refine V.cVv C lX4_50 oX6_copyFrom dX4_copyFrom_23 (ct_St_copyFrom G _ (p + 2) 10 (q + 2) 10 P.2.1 P0.2.1 hp_2 hq_2 (hP.2.1.fr f_1 (by omega)) (h0.2.1.fr f_1 (by omega)) hok.1 hP.2.1.2.2.1 (by omega)) (by assumption) rfl rfl (Nat.le_of_ble_eq_true rfl) ⟨Nat.le_of_ble_eq_true rfl, Nat.le_of_ble_eq_true rfl⟩ ⟨Nat.le_of_ble_eq_true rfl, Nat.le_of_ble_eq_true rfl⟩ (fun σ23 pp_23 => ?_)
  refine V.aload_n C 0 rfl rfl dX4_copyFrom_26 ?_
  refine V.getR C fX4_24 dX4_copyFrom_27 (by assumption) rfl ?_
  refine V.aload_n C 1 rfl rfl dX4_copyFrom_30 ?_
  refine V.getR C fX4_24 dX4_copyFrom_31 (by assumption) rfl ?_
  refine V.cVv C lX4_50 oX6_copyFrom dX4_copyFrom_34 (ct_St_copyFrom G σ23 (p + 6) 3 (q + 6) 3 P.2.2 P0.2.2 hp_3 hq_3 ((hP.2.2.fr f_1 (by omega)).fr pp_23.2 (by omega)) ((h0.2.2.fr f_1 (by omega)).fr pp_23.2 (by omega)) hok.2 hP.2.2.2.2.1 (by omega)) (by assumption) rfl rfl (Nat.le_of_ble_eq_true rfl) ⟨Nat.le_of_ble_eq_true rfl, Nat.le_of_ble_eq_true rfl⟩ ⟨Nat.le_of_ble_eq_true rfl, Nat.le_of_ble_eq_true rfl⟩ (fun σ34 pp_34 => ?_)
  exact V.vretS C R dX4_copyFrom_37 ⟨⟨fun x hx => by
    rw [pp_34.2.A (by omega), pp_23.2.A (by omega), sA_A, cpy_in (by omega) (by omega), show 0 + (x - 0) = x by omega]; exact hP.1 x hx, pp_23.1.fr pp_34.2 (by omega), pp_34.1⟩, ((f_1.mono (by omega) (by omega)).trans (pp_23.2.mono (by omega) (by omega))).trans (pp_34.2.mono (by omega) (by omega))⟩
