/-! Classes: fix, unite, join, equate. -/
theorem RCu.fix0 {σ : SS} {c r : Nat} {u : UF} {vo : Option Nat} (h : RCu σ c u) (hw : u.2.1 r = none) (hv : ∀ w, vo = some w → w < 2) : RCu (sA σ (c + 2) (va_up (σ.2.1 (c + 2)) r (ov vo))) c (ufFixO u r vo) := by
  obtain ⟨h1, h2, h3, h4⟩ := h
  cases vo with
  | none =>
    refine ⟨?_, fun x hx hxr => ?_, h3, h4⟩
    · rw [sA_ne _ _ (by omega)]; exact h1
    · rw [sA_A]
      by_cases e : x = r
      · rw [e, up_eq]; show _ = ov (u.2.1 r); rw [hw]
      · rw [up_ne _ _ e]; exact h2 x hx hxr
  | some v =>
    have e0 : ufFixO u r (some v) = (u.1, va_up u.2.1 r (some v), u.2.2) := by simp [ufFixO, ufFix, hw]
    rw [e0]
    refine ⟨?_, fun x hx hxr => ?_, h3, fun x w hxw => ?_⟩
    · rw [sA_ne _ _ (by omega)]; exact h1
    · rw [sA_A]
      by_cases e : x = r
      · rw [e, up_eq]; show _ = ov (va_up u.2.1 r (some v) r); rw [up_eq]
      · rw [up_ne _ _ e]; show _ = ov (va_up u.2.1 r (some v) x); rw [up_ne _ _ e]; exact h2 x hx hxr
    · by_cases e : x = r
      · rw [e] at hxw; simp only [up_eq] at hxw; exact hv w hxw
      · simp only [up_ne _ _ e] at hxw; exact h4 x w hxw
theorem RCu.fix2 {σ : SS} {c r a : Nat} {u : UF} (h : RCu σ c u) (hw : u.2.1 r = some a) : RCu σ c (ufFixO u r (some a)) := by
  have e0 : ufFixO u r (some a) = u := by simp [ufFixO, ufFix, hw]
  rw [e0]; exact h
theorem RCu.fix3 {σ : SS} {c r a b : Nat} {u : UF} (h : RCu σ c u) (hw : u.2.1 r = some a) (hab : ¬ a = b) : RCu (sF σ c 2 (nI 0)) c (ufFixO u r (some b)) := by
  have e0 : ufFixO u r (some b) = (u.1, u.2.1, false) := by simp [ufFixO, ufFix, hw, hab]
  rw [e0]
  exact ⟨h.1, h.2.1, by rw [sF_F]; rfl, h.2.2.2⟩
theorem ov_inj {v w : Option Nat} (hv : ∀ x, v = some x → x < 2) (hw : ∀ x, w = some x → x < 2) (h : ov v = ov w) : v = w := by
  cases v with
  | none => exact ((ov_free hw).mp h.symm).symm
  | some a =>
    cases w with
    | none => exact (ov_free hv).mp h
    | some b =>
      have ha := hv a rfl
      have hb := hw b rfl
      rw [(nI_eq (by omega) (by omega)).mp h]
set_option maxRecDepth 100000 in
set_option maxHeartbeats 4000000 in
theorem ct_Cl_fix (G : Gl) (σ : SS) (c r : Nat) (vo : Option Nat) (u : UF) (hC : ClA c) (hU : RCu σ c u) (hr : r < 128) (hrr : u.1 r = r) (hv : ∀ w, vo = some w → w < 2) : CV G mX0_fix [Rf G c, .int (nI r), .int (ov vo)] σ (fun σ1 => RCu σ1 c (ufFixO u r vo) ∧ Fr c (c + 3) σ σ1) := by
  refine Ctr.of oX0_fix (Nat.le_of_ble_eq_true rfl) ?_
  intro X C R hnm hz0
  have C : Cx G X cX0_fix 3 RX0 0 0 0 0 := C
  have R : Cr G X none 0 0 _ := R
  show V G X 3 0 0 0 [(0, Rf G c), (1, .int (nI r)), (2, .int (ov vo))] [] (wld G σ)
  obtain ⟨hc0, hc1, hc2⟩ := hC
  have ec := hU.2.1 r hr hrr
  have hw2 : ∀ w, u.2.1 r = some w → w < 2 := fun w h => hU.2.2.2 r w h
  refine V.aload_n C 0 rfl rfl dX0_fix_0 ?_
  refine V.getR C fX0_15 dX0_fix_1 (by assumption) rfl ?_
  refine V.iload_n C 1 rfl rfl dX0_fix_4 ?_
  refine V.ialdN C dX0_fix_5 (by assumption) (by omega) ?_
  rw [ec]
  refine V.iconst C ((-1)) c_m1 dX0_fix_6 ?_
  refine V.icmp_ne C 20 dX0_fix_7 rfl (fun h7 => ?_) (fun h7 => ?_)
  · have w0 : ¬ u.2.1 r = none := fun q => h7 ((ov_free hw2).mpr q)
    refine V.iload_n C 2 rfl rfl dX0_fix_20 ?_
    refine V.iconst C ((-1)) c_m1 dX0_fix_21 ?_
    refine V.icmp_eq C 40 dX0_fix_22 rfl (fun h22 => ?_) (fun h22 => ?_)
    · have v0 := (ov_free hv).mp h22
      exact V.vretS C R dX0_fix_40 (by
  first
  | exact ⟨RCu.fix0 hU w0 hv, (Fr.refl c (c + 3) σ).sA _ (by omega) (by omega)⟩
  | (rw [v0]; exact ⟨hU, Fr.refl _ _ _⟩)
  | (cases hvo : vo with
     | none => exact absurd hvo v0
     | some b => rw [hvo] at e32; exact ⟨RCu.fix2 hU e32, Fr.refl _ _ _⟩)
  | (cases hvo : vo with
     | none => exact absurd hvo v0
     | some b =>
       cases hwo : u.2.1 r with
       | none => exact absurd hwo w0
       | some a => exact ⟨RCu.fix3 hU hwo (fun q => e32 (by rw [hvo, hwo, q])), (Fr.refl c (c + 3) σ).sF _ _ (by omega) (by omega)⟩))
    · have v0 : ¬ vo = none := fun q => h22 ((ov_free hv).mpr q)
      refine V.aload_n C 0 rfl rfl dX0_fix_25 ?_
      refine V.getR C fX0_15 dX0_fix_26 (by assumption) rfl ?_
      refine V.iload_n C 1 rfl rfl dX0_fix_29 ?_
      refine V.ialdN C dX0_fix_30 (by assumption) (by omega) ?_
      rw [ec]
      refine V.iload_n C 2 rfl rfl dX0_fix_31 ?_
      refine V.icmp_eq C 40 dX0_fix_32 rfl (fun h32 => ?_) (fun h32 => ?_)
      · have e32 := ov_inj hw2 hv h32
        exact V.vretS C R dX0_fix_40 (by
  first
  | exact ⟨RCu.fix0 hU w0 hv, (Fr.refl c (c + 3) σ).sA _ (by omega) (by omega)⟩
  | (rw [v0]; exact ⟨hU, Fr.refl _ _ _⟩)
  | (cases hvo : vo with
     | none => exact absurd hvo v0
     | some b => rw [hvo] at e32; exact ⟨RCu.fix2 hU e32, Fr.refl _ _ _⟩)
  | (cases hvo : vo with
     | none => exact absurd hvo v0
     | some b =>
       cases hwo : u.2.1 r with
       | none => exact absurd hwo w0
       | some a => exact ⟨RCu.fix3 hU hwo (fun q => e32 (by rw [hvo, hwo, q])), (Fr.refl c (c + 3) σ).sF _ _ (by omega) (by omega)⟩))
      · have e32 : ¬ u.2.1 r = vo := fun q => h32 (by rw [q])
        refine V.aload_n C 0 rfl rfl dX0_fix_35 ?_
        refine V.iconst C (nI 0) c_0 dX0_fix_36 ?_
        refine V.putZ C fX0_27 dX0_fix_37 (by assumption) rfl (by first | exact Or.inl rfl | exact Or.inr rfl | exact bI01 _) ?_
        exact V.vretS C R dX0_fix_40 (by
  first
  | exact ⟨RCu.fix0 hU w0 hv, (Fr.refl c (c + 3) σ).sA _ (by omega) (by omega)⟩
  | (rw [v0]; exact ⟨hU, Fr.refl _ _ _⟩)
  | (cases hvo : vo with
     | none => exact absurd hvo v0
     | some b => rw [hvo] at e32; exact ⟨RCu.fix2 hU e32, Fr.refl _ _ _⟩)
  | (cases hvo : vo with
     | none => exact absurd hvo v0
     | some b =>
       cases hwo : u.2.1 r with
       | none => exact absurd hwo w0
       | some a => exact ⟨RCu.fix3 hU hwo (fun q => e32 (by rw [hvo, hwo, q])), (Fr.refl c (c + 3) σ).sF _ _ (by omega) (by omega)⟩))
  · have w0 := (ov_free hw2).mp h7
    refine V.aload_n C 0 rfl rfl dX0_fix_10 ?_
    refine V.getR C fX0_15 dX0_fix_11 (by assumption) rfl ?_
    refine V.iload_n C 1 rfl rfl dX0_fix_14 ?_
    refine V.iload_n C 2 rfl rfl dX0_fix_15 ?_
    refine V.iastN C dX0_fix_16 (by assumption) (by omega) ?_
    refine V.goto C 40 dX0_fix_17 rfl ?_
    exact V.vretS C R dX0_fix_40 (by
  first
  | exact ⟨RCu.fix0 hU w0 hv, (Fr.refl c (c + 3) σ).sA _ (by omega) (by omega)⟩
  | (rw [v0]; exact ⟨hU, Fr.refl _ _ _⟩)
  | (cases hvo : vo with
     | none => exact absurd hvo v0
     | some b => rw [hvo] at e32; exact ⟨RCu.fix2 hU e32, Fr.refl _ _ _⟩)
  | (cases hvo : vo with
     | none => exact absurd hvo v0
     | some b =>
       cases hwo : u.2.1 r with
       | none => exact absurd hwo w0
       | some a => exact ⟨RCu.fix3 hU hwo (fun q => e32 (by rw [hvo, hwo, q])), (Fr.refl c (c + 3) σ).sF _ _ (by omega) (by omega)⟩))
theorem cn_lt {a : Nat} (h : okB a) : cn a < 130 := by
  unfold okB at h
  by_cases hv : isV a = true
  · unfold cn vb; rw [if_pos hv]; simp only [isV, decide_eq_true_eq] at hv; omega
  · unfold cn; rw [if_neg hv]; simp only [isV, decide_eq_true_eq] at hv; omega
theorem cn_const {a : Nat} (h : okB a) : (decide (¬ nI (cn a) < nI 128)) = !isV a := by
  have h1 := cn_lt h
  have h2 : (nI (cn a) < nI 128) ↔ cn a < 128 := nI_ltI (by omega) (by decide)
  unfold okB at h
  by_cases hv : isV a = true
  · have h3 : cn a < 128 := by unfold cn vb; rw [if_pos hv]; simp only [isV, decide_eq_true_eq] at hv; omega
    simp [hv, h2, h3]
  · have h3 : ¬ cn a < 128 := by unfold cn; rw [if_neg hv]; omega
    simp only [Bool.not_eq_true] at hv
    simp [hv, h2, h3]
theorem cn_v {a : Nat} (h : isV a = true) : cn a = vb a := by unfold cn; rw [if_pos h]
theorem cn_c {a : Nat} (h : isV a = false) : cn a = 128 + a % 256 := by unfold cn; rw [if_neg (by rw [h]; decide)]
theorem vb_lt {a : Nat} (h : okB a) (hv : isV a = true) : vb a < 128 := by
  unfold vb; simp only [isV, decide_eq_true_eq] at hv; unfold okB at h; omega
theorem cst_lt {a : Nat} (h : okB a) (hv : isV a = false) : a % 256 < 2 := by
  simp only [isV, decide_eq_false_iff_not] at hv; unfold okB at h; omega
set_option maxRecDepth 100000 in
set_option maxHeartbeats 4000000 in
theorem ct_Cl_constantOf (G : Gl) (σ : SS) (c a : Nat) (u : UF) (hC : ClA c) (hU : RCu σ c u) (ha : okB a) : CI G mX0_constantOf [Rf G c, .int (nI (cn a))] σ (fun r σ1 => r = (if isV a = true then ov (u.2.1 (u.1 (vb a))) else nI (a % 256)) ∧ RCu σ1 c u ∧ Fr c (c + 3) σ σ1) := by
  refine Ctr.of oX0_constantOf (Nat.le_of_ble_eq_true rfl) ?_
  intro X C R hnm hz0
  have C : Cx G X cX0_constantOf 2 RX0 1 23 0 0 := C
  have R : Cr G X (some .int) 0 0 _ := R
  show V G X 2 0 0 0 [(0, Rf G c), (1, .int (nI (cn a)))] [] (wld G σ)
  obtain ⟨hc0, hc1, hc2⟩ := hC
  refine V.iload_n C 1 rfl rfl dX0_constantOf_0 ?_
  refine V.cSNi C lX0_31 oX9_isConstantNode dX0_constantOf_1 (ct_isConstantNode G σ (nI (cn a))) rfl rfl (Nat.le_of_ble_eq_true rfl) ⟨Nat.le_of_ble_eq_true rfl, Nat.le_of_ble_eq_true rfl⟩ ⟨Nat.le_of_ble_eq_true rfl, Nat.le_of_ble_eq_true rfl⟩ (fun r1 σ1 p1 => ?_)
  obtain ⟨e1, e2⟩ := p1
  rw [e1, e2, cn_const ha]
  refine V.if_eq C 15 dX0_constantOf_4 rfl (fun h4 => ?_) (fun h4 => ?_)
  · have h4 : isV a = true := by simpa using bI_eq0 h4
    obtain ⟨⟨p, hp, hg⟩, -⟩ := id hU
    have hrr := hg.rt_rt (vb_lt ha h4)
    have hrl : u.1 (vb a) < 128 := Nat.lt_of_le_of_lt (hg.rt_le (vb_lt ha h4)) (vb_lt ha h4)
    refine V.aload_n C 0 rfl rfl dX0_constantOf_15 ?_
    refine V.getR C fX0_15 dX0_constantOf_16 (by assumption) rfl ?_
    refine V.aload_n C 0 rfl rfl dX0_constantOf_19 ?_
    rw [cn_v h4]
    refine V.iload_n C 1 rfl rfl dX0_constantOf_20 ?_
    refine V.cVi C lX0_35 oX0_rootOf dX0_constantOf_21 (ct_Cl_rootOf G σ c (vb a) u ⟨hc0, hc1, hc2⟩ hU (vb_lt ha h4)) (by assumption) rfl rfl (Nat.le_of_ble_eq_true rfl) ⟨Nat.le_of_ble_eq_true rfl, Nat.le_of_ble_eq_true rfl⟩ ⟨Nat.le_of_ble_eq_true rfl, Nat.le_of_ble_eq_true rfl⟩ (fun r21 σ21 p21 => ?_)
    obtain ⟨e21, hU1, hF1⟩ := p21
    rw [e21]
    refine V.ialdN C dX0_constantOf_24 (by assumption) (by omega) ?_
    rw [hU1.2.1 _ hrl hrr]
    exact V.iretS C R dX0_constantOf_25 (by first | exact ⟨by rw [if_pos h4], hU1, hF1⟩ | exact ⟨by rw [if_neg (by rw [h4]; decide), nI_sub (by omega)]; congr 1; omega, hU, Fr.refl _ _ _⟩)
  · have h4 : isV a = false := by simpa using bI_ne0 h4
    rw [cn_c h4]
    refine V.iload_n C 1 rfl rfl dX0_constantOf_7 ?_
    refine V.sipush C (nI 128) s_128 dX0_constantOf_8 ?_
    refine V.isub C dX0_constantOf_11 ?_
    refine V.goto C 25 dX0_constantOf_12 rfl ?_
    exact V.iretS C R dX0_constantOf_25 (by first | exact ⟨by rw [if_pos h4], hU1, hF1⟩ | exact ⟨by rw [if_neg (by rw [h4]; decide), nI_sub (by omega)]; congr 1; omega, hU, Fr.refl _ _ _⟩)
theorem min_nI {a b : Nat} (ha : a < 2 ^ 31) (hb : b < 2 ^ 31) : (if nI b < nI a then nI b else nI a) = nI (min a b) := by
  by_cases h : b < a
  · rw [if_pos (nI_lt h ha)]; congr 1; omega
  · rw [if_neg (nI_nlt (by omega) hb)]; congr 1; omega
theorem max_nI {a b : Nat} (ha : a < 2 ^ 31) (hb : b < 2 ^ 31) : (if nI a < nI b then nI b else nI a) = nI (max a b) := by
  by_cases h : a < b
  · rw [if_pos (nI_lt h hb)]; congr 1; omega
  · rw [if_neg (nI_nlt (by omega) ha)]; congr 1; omega
theorem RCu.move {σ : SS} {c lo hi : Nat} {u : UF} (h : RCu σ c u) (hlt : lo < hi) (hhi : hi < 128) (e1 : u.1 lo = lo) (e2 : u.1 hi = hi) : RCu (sA σ (c + 1) (va_up (σ.2.1 (c + 1)) hi (nI lo))) c (ufMove u lo hi) := by
  obtain ⟨⟨p, hp, hg⟩, h2, h3, h4⟩ := h
  refine ⟨⟨va_up p hi lo, fun x hx => ?_, hg.join hlt hhi e1 e2⟩, fun x hx hxr => ?_, h3, h4⟩
  · rw [sA_A]
    by_cases e : x = hi
    · rw [e, up_eq, up_eq]
    · rw [up_ne _ _ e, up_ne _ _ e]; exact hp x hx
  · rw [sA_ne _ _ (by omega)]
    refine h2 x hx ?_
    simp only [ufMove] at hxr
    by_cases e : u.1 x = hi
    · rw [if_pos e] at hxr; rw [← hxr, e1] at e; omega
    · rw [if_neg e] at hxr; exact hxr
set_option maxRecDepth 100000 in
set_option maxHeartbeats 4000000 in
theorem ct_Cl_unite (G : Gl) (σ : SS) (c a b : Nat) (u : UF) (hC : ClA c) (hU : RCu σ c u) (ha : a < 128) (hb : b < 128) (ea : u.1 a = a) (eb : u.1 b = b) : CV G mX0_unite [Rf G c, .int (nI a), .int (nI b)] σ (fun σ1 => RCu σ1 c (ufJoin u a b) ∧ Fr c (c + 3) σ σ1) := by
  refine Ctr.of oX0_unite (Nat.le_of_ble_eq_true rfl) ?_
  intro X C R hnm hz0
  have C : Cx G X cX0_unite 5 RX0 1 22 0 0 := C
  have R : Cr G X none 0 0 _ := R
  show V G X 5 0 0 0 [(0, Rf G c), (1, .int (nI a)), (2, .int (nI b))] [] (wld G σ)
  obtain ⟨hc0, hc1, hc2⟩ := hC
  refine V.iload_n C 1 rfl rfl dX0_unite_0 ?_
  refine V.iload_n C 2 rfl rfl dX0_unite_1 ?_
  refine V.mmin C lX0_58 math_min1 math_ini math_min2 dX0_unite_2 (Nat.le_of_ble_eq_true rfl) (Nat.le_of_ble_eq_true rfl) (Nat.le_of_ble_eq_true rfl) (Nat.le_of_ble_eq_true rfl) ?_
  rw [min_nI (by omega) (by omega)]
  refine V.istore_n C 3 dX0_unite_5 rfl (by decide) ?_
  refine V.iload_n C 1 rfl rfl dX0_unite_6 ?_
  refine V.iload_n C 2 rfl rfl dX0_unite_7 ?_
  refine V.mmax C lX0_64 math_max1 math_ini math_max2 dX0_unite_8 (Nat.le_of_ble_eq_true rfl) (Nat.le_of_ble_eq_true rfl) (Nat.le_of_ble_eq_true rfl) (Nat.le_of_ble_eq_true rfl) ?_
  rw [max_nI (by omega) (by omega)]
  refine V.istore C dX0_unite_11 (by decide) ?_
  refine V.iload_n C 3 rfl rfl dX0_unite_13 ?_
  refine V.iload C rfl dX0_unite_14 ?_
  refine V.icmp_eq C 39 dX0_unite_16 rfl (fun h16 => ?_) (fun h16 => ?_)
  · have e16 : a = b := by have := (nI_eq (by omega) (by omega)).mp h16; omega
    exact V.vretS C R dX0_unite_39 (by first | exact ⟨p36.1, ((Fr.refl c (c + 3) σ).sA _ (by omega) (by omega)).trans p36.2⟩ | (unfold ufJoin; rw [if_pos e16]; exact ⟨hU, Fr.refl _ _ _⟩))
  · have e16 : ¬ a = b := fun q => h16 (by rw [q]; simp)
    have hml : u.1 (min a b) = min a b := by rcases Nat.le_total a b with q | q <;> simp only [Nat.min_eq_left, Nat.min_eq_right, q, ea, eb]
    have hmh : u.1 (max a b) = max a b := by rcases Nat.le_total a b with q | q <;> simp only [Nat.max_eq_left, Nat.max_eq_right, q, ea, eb]
    have hlt : min a b < max a b := by omega
    have hh8 : max a b < 128 := by omega
    have hU1 := RCu.move hU hlt hh8 hml hmh
    refine V.aload_n C 0 rfl rfl dX0_unite_19 ?_
    refine V.getR C fX0_9 dX0_unite_20 (by assumption) rfl ?_
    refine V.iload C rfl dX0_unite_23 ?_
    refine V.iload_n C 3 rfl rfl dX0_unite_25 ?_
    refine V.iastN C dX0_unite_26 (by assumption) (by omega) ?_
    refine V.aload_n C 0 rfl rfl dX0_unite_27 ?_
    refine V.iload_n C 3 rfl rfl dX0_unite_28 ?_
    refine V.aload_n C 0 rfl rfl dX0_unite_29 ?_
    refine V.getR C fX0_15 dX0_unite_30 (by assumption) rfl ?_
    refine V.iload C rfl dX0_unite_33 ?_
    refine V.ialdN C dX0_unite_35 (by assumption) (by omega) ?_
    rw [sA_ne _ _ (by omega), hU.2.1 _ hh8 hmh]
    refine V.cVv C lX0_52 oX0_fix dX0_unite_36 (ct_Cl_fix G _ c (min a b) (u.2.1 (max a b)) (ufMove u (min a b) (max a b)) ⟨hc0, hc1, hc2⟩ hU1 (by omega) (by simp only [ufMove]; rw [hml, if_neg (by omega)]) (fun w h => hU.2.2.2 _ w h)) (by assumption) rfl rfl (Nat.le_of_ble_eq_true rfl) ⟨Nat.le_of_ble_eq_true rfl, Nat.le_of_ble_eq_true rfl⟩ ⟨Nat.le_of_ble_eq_true rfl, Nat.le_of_ble_eq_true rfl⟩ (fun σ36 p36 => ?_)
    have hj : ufJoin u a b = ufFixO (ufMove u (min a b) (max a b)) (min a b) (u.2.1 (max a b)) := by unfold ufJoin; rw [if_neg e16]
    rw [← hj] at p36
    exact V.vretS C R dX0_unite_39 (by first | exact ⟨p36.1, ((Fr.refl c (c + 3) σ).sA _ (by omega) (by omega)).trans p36.2⟩ | (unfold ufJoin; rw [if_pos e16]; exact ⟨hU, Fr.refl _ _ _⟩))
theorem RCu.bits {σ : SS} {c : Nat} {u : UF} (h : RCu σ c u) {x : Nat} (hx : x < 128) : u.1 x < 128 ∧ u.1 (u.1 x) = u.1 x := by
  obtain ⟨⟨p, hp, hg⟩, -⟩ := h
  exact ⟨Nat.lt_of_le_of_lt (hg.rt_le hx) hx, hg.rt_rt hx⟩
set_option maxRecDepth 100000 in
set_option maxHeartbeats 4000000 in
theorem ct_Cl_join (G : Gl) (σ : SS) (c a b : Nat) (u : UF) (hC : ClA c) (hU : RCu σ c u) (ha : okB a) (hb : okB b) : CV G mX0_join [Rf G c, .int (nI (cn a)), .int (nI (cn b))] σ (fun σ1 => RCu σ1 c (ufEq u a b) ∧ Fr c (c + 3) σ σ1) := by
  refine Ctr.of oX0_join (Nat.le_of_ble_eq_true rfl) ?_
  intro X C R hnm hz0
  have C : Cx G X cX0_join 3 RX0 2 46 0 0 := C
  have R : Cr G X none 0 0 _ := R
  show V G X 3 0 0 0 [(0, Rf G c), (1, .int (nI (cn a))), (2, .int (nI (cn b)))] [] (wld G σ)
  obtain ⟨hc0, hc1, hc2⟩ := hC
  refine V.iload_n C 1 rfl rfl dX0_join_0 ?_
  refine V.cSNi C lX0_31 oX9_isConstantNode dX0_join_1 (ct_isConstantNode G σ (nI (cn a))) rfl rfl (Nat.le_of_ble_eq_true rfl) ⟨Nat.le_of_ble_eq_true rfl, Nat.le_of_ble_eq_true rfl⟩ ⟨Nat.le_of_ble_eq_true rfl, Nat.le_of_ble_eq_true rfl⟩ (fun r1 σ1 p1 => ?_)
  obtain ⟨e1, e12⟩ := p1
  rw [e1, e12, cn_const ha]
  refine V.if_eq C 38 dX0_join_4 rfl (fun q4 => ?_) (fun q4 => ?_)
  · have va : isV a = true := by simpa using bI_eq0 q4
    refine V.iload_n C 1 rfl rfl dX0_join_38 ?_
    refine V.cSNi C lX0_31 oX9_isConstantNode dX0_join_39 (ct_isConstantNode G σ (nI (cn a))) rfl rfl (Nat.le_of_ble_eq_true rfl) ⟨Nat.le_of_ble_eq_true rfl, Nat.le_of_ble_eq_true rfl⟩ ⟨Nat.le_of_ble_eq_true rfl, Nat.le_of_ble_eq_true rfl⟩ (fun r39 σ39 p39 => ?_)
    obtain ⟨e39, e392⟩ := p39
    rw [e39, e392, cn_const ha]
    refine V.if_eq C 62 dX0_join_42 rfl (fun q42 => ?_) (fun q42 => ?_)
    · have va2 : isV a = true := by simpa using bI_eq0 q42
      refine V.iload_n C 2 rfl rfl dX0_join_62 ?_
      refine V.cSNi C lX0_31 oX9_isConstantNode dX0_join_63 (ct_isConstantNode G σ (nI (cn b))) rfl rfl (Nat.le_of_ble_eq_true rfl) ⟨Nat.le_of_ble_eq_true rfl, Nat.le_of_ble_eq_true rfl⟩ ⟨Nat.le_of_ble_eq_true rfl, Nat.le_of_ble_eq_true rfl⟩ (fun r63 σ63 p63 => ?_)
      obtain ⟨e63, e632⟩ := p63
      rw [e63, e632, cn_const hb]
      refine V.if_eq C 86 dX0_join_66 rfl (fun q66 => ?_) (fun q66 => ?_)
      · have vb1 : isV b = true := by simpa using bI_eq0 q66
        refine V.aload_n C 0 rfl rfl dX0_join_86 ?_
        refine V.aload_n C 0 rfl rfl dX0_join_87 ?_
        rw [cn_v va]
        refine V.iload_n C 1 rfl rfl dX0_join_88 ?_
        refine V.cVi C lX0_35 oX0_rootOf dX0_join_89 (ct_Cl_rootOf G σ c (vb a) u ⟨hc0, hc1, hc2⟩ hU (vb_lt ha va)) (by assumption) rfl rfl (Nat.le_of_ble_eq_true rfl) ⟨Nat.le_of_ble_eq_true rfl, Nat.le_of_ble_eq_true rfl⟩ ⟨Nat.le_of_ble_eq_true rfl, Nat.le_of_ble_eq_true rfl⟩ (fun r89 σ89 p89 => ?_)
        obtain ⟨e89, hU1, hF1⟩ := p89
        rw [e89]
        refine V.aload_n C 0 rfl rfl dX0_join_92 ?_
        rw [cn_v vb1]
        refine V.iload_n C 2 rfl rfl dX0_join_93 ?_
        refine V.cVi C lX0_35 oX0_rootOf dX0_join_94 (ct_Cl_rootOf G σ89 c (vb b) u ⟨hc0, hc1, hc2⟩ hU1 (vb_lt hb vb1)) (by assumption) rfl rfl (Nat.le_of_ble_eq_true rfl) ⟨Nat.le_of_ble_eq_true rfl, Nat.le_of_ble_eq_true rfl⟩ ⟨Nat.le_of_ble_eq_true rfl, Nat.le_of_ble_eq_true rfl⟩ (fun r94 σ94 p94 => ?_)
        obtain ⟨e94, hU2, hF2⟩ := p94
        rw [e94]
        refine V.cVv C lX0_55 oX0_unite dX0_join_97 (ct_Cl_unite G σ94 c (u.1 (vb a)) (u.1 (vb b)) u ⟨hc0, hc1, hc2⟩ hU2 (hU.bits (vb_lt ha va)).1 (hU.bits (vb_lt hb vb1)).1 (hU.bits (vb_lt ha va)).2 (hU.bits (vb_lt hb vb1)).2) (by assumption) rfl rfl (Nat.le_of_ble_eq_true rfl) ⟨Nat.le_of_ble_eq_true rfl, Nat.le_of_ble_eq_true rfl⟩ ⟨Nat.le_of_ble_eq_true rfl, Nat.le_of_ble_eq_true rfl⟩ (fun σ97 p97 => ?_)
        exact V.vretS C R dX0_join_100 ⟨by unfold ufEq; rw [if_pos va, if_pos vb1]; exact p97.1, (hF1.trans hF2).trans p97.2⟩
      · have vb1 : isV b = false := by simpa using bI_ne0 q66
        have kk := cst_lt hb vb1
        refine V.aload_n C 0 rfl rfl dX0_join_69 ?_
        refine V.aload_n C 0 rfl rfl dX0_join_70 ?_
        rw [cn_v va]
        refine V.iload_n C 1 rfl rfl dX0_join_71 ?_
        refine V.cVi C lX0_35 oX0_rootOf dX0_join_72 (ct_Cl_rootOf G σ c (vb a) u ⟨hc0, hc1, hc2⟩ hU (vb_lt ha va)) (by assumption) rfl rfl (Nat.le_of_ble_eq_true rfl) ⟨Nat.le_of_ble_eq_true rfl, Nat.le_of_ble_eq_true rfl⟩ ⟨Nat.le_of_ble_eq_true rfl, Nat.le_of_ble_eq_true rfl⟩ (fun r72 σ72 p72 => ?_)
        obtain ⟨e72, hU1, hF1⟩ := p72
        rw [e72]
        rw [cn_c vb1]
        refine V.iload_n C 2 rfl rfl dX0_join_75 ?_
        refine V.sipush C (nI 128) s_128 dX0_join_76 ?_
        refine V.isub C dX0_join_79 ?_
        rw [nI_sub (by omega), show 128 + b % 256 - 128 = b % 256 by omega]
        refine V.cVv C lX0_52 oX0_fix dX0_join_80 (ct_Cl_fix G σ72 c (u.1 (vb a)) (some (b % 256)) u ⟨hc0, hc1, hc2⟩ hU1 (hU.bits (vb_lt ha va)).1 (hU.bits (vb_lt ha va)).2 (fun w h => by cases h; exact kk)) (by assumption) rfl rfl (Nat.le_of_ble_eq_true rfl) ⟨Nat.le_of_ble_eq_true rfl, Nat.le_of_ble_eq_true rfl⟩ ⟨Nat.le_of_ble_eq_true rfl, Nat.le_of_ble_eq_true rfl⟩ (fun σ80 p80 => ?_)
        refine V.goto C 100 dX0_join_83 rfl ?_
        exact V.vretS C R dX0_join_100 ⟨by unfold ufEq; rw [if_pos va, if_neg (by rw [vb1]; decide)]; exact p80.1, hF1.trans p80.2⟩
    · have va2 : isV a = false := by simpa using bI_ne0 q42
      exact absurd (va.symm.trans va2) (by decide)
  · have va : isV a = false := by simpa using bI_ne0 q4
    refine V.iload_n C 2 rfl rfl dX0_join_7 ?_
    refine V.cSNi C lX0_31 oX9_isConstantNode dX0_join_8 (ct_isConstantNode G σ (nI (cn b))) rfl rfl (Nat.le_of_ble_eq_true rfl) ⟨Nat.le_of_ble_eq_true rfl, Nat.le_of_ble_eq_true rfl⟩ ⟨Nat.le_of_ble_eq_true rfl, Nat.le_of_ble_eq_true rfl⟩ (fun r8 σ8 p8 => ?_)
    obtain ⟨e8, e82⟩ := p8
    rw [e8, e82, cn_const hb]
    refine V.if_eq C 38 dX0_join_11 rfl (fun q11 => ?_) (fun q11 => ?_)
    · have vb0 : isV b = true := by simpa using bI_eq0 q11
      refine V.iload_n C 1 rfl rfl dX0_join_38 ?_
      refine V.cSNi C lX0_31 oX9_isConstantNode dX0_join_39 (ct_isConstantNode G σ (nI (cn a))) rfl rfl (Nat.le_of_ble_eq_true rfl) ⟨Nat.le_of_ble_eq_true rfl, Nat.le_of_ble_eq_true rfl⟩ ⟨Nat.le_of_ble_eq_true rfl, Nat.le_of_ble_eq_true rfl⟩ (fun r39 σ39 p39 => ?_)
      obtain ⟨e39, e392⟩ := p39
      rw [e39, e392, cn_const ha]
      refine V.if_eq C 62 dX0_join_42 rfl (fun q42 => ?_) (fun q42 => ?_)
      · have va2 : isV a = true := by simpa using bI_eq0 q42
        exact absurd (va.symm.trans va2) (by decide)
      · have va2 : isV a = false := by simpa using bI_ne0 q42
        have kk := cst_lt ha va
        refine V.aload_n C 0 rfl rfl dX0_join_45 ?_
        refine V.aload_n C 0 rfl rfl dX0_join_46 ?_
        rw [cn_v vb0]
        refine V.iload_n C 2 rfl rfl dX0_join_47 ?_
        refine V.cVi C lX0_35 oX0_rootOf dX0_join_48 (ct_Cl_rootOf G σ c (vb b) u ⟨hc0, hc1, hc2⟩ hU (vb_lt hb vb0)) (by assumption) rfl rfl (Nat.le_of_ble_eq_true rfl) ⟨Nat.le_of_ble_eq_true rfl, Nat.le_of_ble_eq_true rfl⟩ ⟨Nat.le_of_ble_eq_true rfl, Nat.le_of_ble_eq_true rfl⟩ (fun r48 σ48 p48 => ?_)
        obtain ⟨e48, hU1, hF1⟩ := p48
        rw [e48]
        rw [cn_c va]
        refine V.iload_n C 1 rfl rfl dX0_join_51 ?_
        refine V.sipush C (nI 128) s_128 dX0_join_52 ?_
        refine V.isub C dX0_join_55 ?_
        rw [nI_sub (by omega), show 128 + a % 256 - 128 = a % 256 by omega]
        refine V.cVv C lX0_52 oX0_fix dX0_join_56 (ct_Cl_fix G σ48 c (u.1 (vb b)) (some (a % 256)) u ⟨hc0, hc1, hc2⟩ hU1 (hU.bits (vb_lt hb vb0)).1 (hU.bits (vb_lt hb vb0)).2 (fun w h => by cases h; exact kk)) (by assumption) rfl rfl (Nat.le_of_ble_eq_true rfl) ⟨Nat.le_of_ble_eq_true rfl, Nat.le_of_ble_eq_true rfl⟩ ⟨Nat.le_of_ble_eq_true rfl, Nat.le_of_ble_eq_true rfl⟩ (fun σ56 p56 => ?_)
        refine V.goto C 100 dX0_join_59 rfl ?_
        exact V.vretS C R dX0_join_100 ⟨by unfold ufEq; rw [if_neg (by rw [va]; decide), if_pos vb0]; exact p56.1, hF1.trans p56.2⟩
    · have vb0 : isV b = false := by simpa using bI_ne0 q11
      refine V.aload_n C 0 rfl rfl dX0_join_14 ?_
      refine V.aload_n C 0 rfl rfl dX0_join_15 ?_
      refine V.getI C fX0_27 dX0_join_16 (by assumption) rfl ?_
      rw [hU.2.2.1]
      refine V.if_eq C 31 dX0_join_19 rfl (fun h19 => ?_) (fun h19 => ?_)
      · have e19 : u.2.2 = false := bI_eq0 h19
        refine V.iconst C (nI 0) c_0 dX0_join_31 ?_
        refine V.putZ C fX0_27 dX0_join_32 (by assumption) rfl (by first | exact Or.inl rfl | exact Or.inr rfl | exact bI01 _) ?_
        refine V.goto C 100 dX0_join_35 rfl ?_
        exact V.vretS C R dX0_join_100 ⟨by unfold ufEq; rw [if_neg (by rw [va]; decide), if_neg (by rw [vb0]; decide)]; exact ⟨hU.1, hU.2.1, by rw [sF_F]; simp [e19]; rfl, hU.2.2.2⟩, (Fr.refl c (c + 3) σ).sF _ _ (by omega) (by omega)⟩
      · have e19 : u.2.2 = true := bI_ne0 h19
        refine V.iload_n C 1 rfl rfl dX0_join_22 ?_
        refine V.iload_n C 2 rfl rfl dX0_join_23 ?_
        refine V.icmp_ne C 31 dX0_join_24 rfl (fun h24 => ?_) (fun h24 => ?_)
        · have e24 : ¬ a % 256 = b % 256 := fun q => h24 (by rw [cn_c va, cn_c vb0, q])
          refine V.iconst C (nI 0) c_0 dX0_join_31 ?_
          refine V.putZ C fX0_27 dX0_join_32 (by assumption) rfl (by first | exact Or.inl rfl | exact Or.inr rfl | exact bI01 _) ?_
          refine V.goto C 100 dX0_join_35 rfl ?_
          exact V.vretS C R dX0_join_100 ⟨by unfold ufEq; rw [if_neg (by rw [va]; decide), if_neg (by rw [vb0]; decide)]; exact ⟨hU.1, hU.2.1, by rw [sF_F]; simp [e19, e24]; rfl, hU.2.2.2⟩, (Fr.refl c (c + 3) σ).sF _ _ (by omega) (by omega)⟩
        · have e24 : a % 256 = b % 256 := by have := (nI_eq (by have := cn_lt ha; omega) (by have := cn_lt hb; omega)).mp h24; rw [cn_c va, cn_c vb0] at this; omega
          refine V.iconst C (nI 1) c_1 dX0_join_27 ?_
          refine V.goto C 32 dX0_join_28 rfl ?_
          refine V.putZ C fX0_27 dX0_join_32 (by assumption) rfl (by first | exact Or.inl rfl | exact Or.inr rfl | exact bI01 _) ?_
          refine V.goto C 100 dX0_join_35 rfl ?_
          exact V.vretS C R dX0_join_100 ⟨by unfold ufEq; rw [if_neg (by rw [va]; decide), if_neg (by rw [vb0]; decide)]; exact ⟨hU.1, hU.2.1, by rw [sF_F]; simp [e19, e24]; rfl, hU.2.2.2⟩, (Fr.refl c (c + 3) σ).sF _ _ (by omega) (by omega)⟩
