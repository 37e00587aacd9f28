/-! Model: the word of zeros and the flips. -/
def bl (x : Int64) (i : Nat) : Bool := x.toBitVec.getLsbD i
theorem bl_ext {x y : Int64} (h : ∀ i, i < 64 → bl x i = bl y i) : x = y := Int64.toBitVec_inj.mp (BitVec.eq_of_getLsbD_eq (fun i hi => h i hi))
theorem bl_or (x y : Int64) (i : Nat) : bl (x ||| y) i = (bl x i || bl y i) := by unfold bl; rw [Int64.toBitVec_or, BitVec.getLsbD_or]
theorem bl_and (x y : Int64) (i : Nat) : bl (x &&& y) i = (bl x i && bl y i) := by unfold bl; rw [Int64.toBitVec_and, BitVec.getLsbD_and]
theorem bl_xor (x y : Int64) (i : Nat) : bl (x ^^^ y) i = (bl x i ^^ bl y i) := by unfold bl; rw [Int64.toBitVec_xor, BitVec.getLsbD_xor]
theorem bl_0 (i : Nat) : bl 0 i = false := BitVec.getLsbD_zero
theorem bl_place : ∀ k, k < 48 → ∀ i, i < 64 → bl (shl64 1 (nI k)) i = decide (i = k) := by decide +kernel
/-- a bit fixed to one; the free bit that a bit stands for -/
def v1 (u : UF) (a : Nat) : Bool := if isV a then decide (u.2.1 (u.1 (vb a)) = some 1) else decide (a % 256 = 1)
def frO (u : UF) (a : Nat) : Option Nat := if isV a then (if u.2.1 (u.1 (vb a)) = none then some (u.1 (vb a)) else none) else none
def frB (u : UF) (a r : Nat) : Bool := decide (frO u a = some r)
def wz (D : List Stm) (u : UF) (p : Nat) : Bool := match D[p / 16]? with
  | none => decide (p % 16 = 0 ∧ p < 48)
  | some s => decide (p % 16 < s.1) && (v1 u (s.2.1 (p % 16)) ^^ v1 u (s.2.2 (p % 16)))
def flB (D : List Stm) (u : UF) (r p : Nat) : Bool := match D[p / 16]? with
  | none => false
  | some s => decide (p % 16 < s.1) && (frB u (s.2.1 (p % 16)) r ^^ frB u (s.2.2 (p % 16)) r)
def flU (fl : Nat → Int64) (q : Option Nat) (pl : Int64) : Nat → Int64 := match q with
  | none => fl
  | some r => va_up fl r (fl r ^^^ pl)
theorem flU_bit (fl : Nat → Int64) (q : Option Nat) (pl : Int64) (r i : Nat) : bl (flU fl q pl r) i = (bl (fl r) i ^^ (decide (q = some r) && bl pl i)) := by
  cases q with
  | none => simp [flU]
  | some z =>
    unfold flU
    by_cases e : r = z
    · subst e; simp only [up_eq, bl_xor]; simp
    · simp only [up_ne _ _ e]
      have : ¬ (some z = some r) := fun h => e (Option.some.inj h).symm
      simp [this]
theorem nI_ne_m1 {a : Nat} (h : a < 2) : ¬ nI a = (-1) := by
  rcases (show a = 0 ∨ a = 1 by omega) with rfl | rfl <;> decide
set_option maxRecDepth 100000 in
set_option maxHeartbeats 4000000 in
theorem ct_Mo_cplace (G : Gl) (σ : SS) (a : Nat) (pl : Int64) (u : UF) (hU : RCu σ 113 u) (ha : okB a) : CL G mX3_constantPlace [Rf G 119, .int (nI (cn a)), .long pl, Rf G 113] σ (fun r σ1 => r = (if v1 u a = true then pl else 0) ∧ RCu σ1 113 u ∧ σ1.2.2.1 120 = flU (σ.2.2.1 120) (frO u a) pl ∧ Fr 113 123 σ σ1 ∧ σ1.1 119 = σ.1 119) := by
  refine Ctr.of oX3_constantPlace (Nat.le_of_ble_eq_true rfl) ?_
  intro X C R hnm hz0
  have C : Cx G X cX3_constantPlace 6 RX3 2 44 0 0 := C
  have R : Cr G X (some .long) 0 0 _ := R
  show V G X 6 0 0 0 [(0, Rf G 119), (1, .int (nI (cn a))), (2, .long pl), (4, Rf G 113)] [] (wld G σ)
  have kk_119 := sk_119
  have kk_120 := sk_120
  have kk_121 := sk_121
  have kk_122 := sk_122
  have kk_113 := sk_113
  refine V.aload C rfl dX3_constantPlace_0 ?_
  refine V.iload_n C 1 rfl rfl dX3_constantPlace_2 ?_
  refine V.cVi C lX3_77 oX0_constantOf dX3_constantPlace_3 (ct_Cl_constantOf G σ 113 a u ClA_113 hU ha) (by assumption) rfl rfl (Nat.le_of_ble_eq_true rfl) ⟨Nat.le_of_ble_eq_true rfl, Nat.le_of_ble_eq_true rfl⟩ ⟨Nat.le_of_ble_eq_true rfl, Nat.le_of_ble_eq_true rfl⟩ (fun rr_3 σ3 pp_3 => ?_)
  obtain ⟨ee_3, hU1, hF1⟩ := pp_3
  rw [ee_3]
  refine V.istore C dX3_constantPlace_6 (by decide) ?_
  obtain ⟨cv_, hcv_⟩ : ∃ z : Int32, z = (if isV a = true then ov (u.2.1 (u.1 (vb a))) else nI (a % 256)) := ⟨_, rfl⟩
  rw [← hcv_]
  have hone_ : cv_ = nI 1 ↔ v1 u a = true := by
    rw [hcv_]; unfold v1
    by_cases q_ : isV a = true
    · rw [if_pos q_, if_pos q_, decide_eq_true_eq]
      constructor
      · intro h; exact ov_inj (fun w h => hU.2.2.2 _ w h) (fun w h => by cases h; decide) h
      · intro h; rw [h]; rfl
    · rw [if_neg q_, if_neg q_, decide_eq_true_eq]
      have := cst_lt ha (by simpa using q_)
      exact nI_eq (by omega) (by decide)
  have hfree_ : cv_ = (-1) ↔ ∃ r, frO u a = some r := by
    rw [hcv_]; unfold frO
    by_cases q_ : isV a = true
    · rw [if_pos q_, if_pos q_, ov_free (fun w h => hU.2.2.2 _ w h)]
      by_cases q2_ : u.2.1 (u.1 (vb a)) = none
      · rw [if_pos q2_]; exact ⟨fun _ => ⟨_, rfl⟩, fun _ => q2_⟩
      · rw [if_neg q2_]; exact ⟨fun h => absurd h q2_, fun ⟨r, h⟩ => by cases h⟩
    · rw [if_neg q_, if_neg q_]
      exact ⟨fun h => absurd h (nI_ne_m1 (cst_lt ha (by simpa using q_))), fun ⟨r, h⟩ => by cases h⟩
  refine V.iload C rfl dX3_constantPlace_8 ?_
  refine V.iconst C ((-1)) c_m1 dX3_constantPlace_10 ?_
  refine V.icmp_ne C 29 dX3_constantPlace_11 rfl (fun hb_11 => ?_) (fun hb_11 => ?_)
  · have hnf_ : frO u a = none := by
      cases hq_ : frO u a with
      | none => rfl
      | some r => exact absurd (hfree_.mpr ⟨r, hq_⟩) hb_11
    refine V.iload C rfl dX3_constantPlace_29 ?_
    refine V.iconst C (nI 1) c_1 dX3_constantPlace_31 ?_
    refine V.icmp_ne C 39 dX3_constantPlace_32 rfl (fun hb_32 => ?_) (fun hb_32 => ?_)
    · have hn1_ : v1 u a = false := by
        cases hq_ : v1 u a with
        | false => rfl
        | true => exact absurd (hone_.mpr hq_) hb_32
      refine V.lconst C 0 rfl dX3_constantPlace_39 ?_
      exact V.lretS C R dX3_constantPlace_40 ⟨by rw [hn1_]; rfl, hU1, by rw [hnf_]; exact hF1.L (by omega), hF1.mono (by omega) (by omega), hF1.F (by omega)⟩
    · have hn1_ := hone_.mp hb_32
      refine V.lload_n C 2 rfl rfl dX3_constantPlace_35 ?_
      refine V.goto C 40 dX3_constantPlace_36 rfl ?_
      exact V.lretS C R dX3_constantPlace_40 ⟨by rw [hn1_]; rfl, hU1, by rw [hnf_]; exact hF1.L (by omega), hF1.mono (by omega) (by omega), hF1.F (by omega)⟩
  · obtain ⟨r0_, hr0_⟩ := hfree_.mp hb_11
    have hv_ : isV a = true := by
      unfold frO at hr0_
      by_cases q_ : isV a = true
      · exact q_
      · rw [if_neg q_] at hr0_; cases hr0_
    have hr1_ : r0_ = u.1 (vb a) := by
      unfold frO at hr0_
      rw [if_pos hv_] at hr0_
      by_cases q_ : u.2.1 (u.1 (vb a)) = none
      · rw [if_pos q_] at hr0_; exact (Option.some.inj hr0_).symm
      · rw [if_neg q_] at hr0_; cases hr0_
    have hr8_ : u.1 (vb a) < 128 := (hU.bits (vb_lt ha hv_)).1
    have hfl_ : ∀ (fl : Nat → Int64), flU fl (frO u a) pl = va_up fl (u.1 (vb a)) (fl (u.1 (vb a)) ^^^ pl) := fun fl => by rw [hr0_, hr1_]; rfl
    rw [cn_v hv_]
    refine V.aload_n C 0 rfl rfl dX3_constantPlace_14 ?_
    refine V.getR C fX3_9 dX3_constantPlace_15 (by assumption) rfl ?_
    refine V.aload C rfl dX3_constantPlace_18 ?_
    refine V.iload_n C 1 rfl rfl dX3_constantPlace_20 ?_
    refine V.cVi C lX3_80 oX0_rootOf dX3_constantPlace_21 (ct_Cl_rootOf G σ3 113 (vb a) u ClA_113 hU1 (vb_lt ha hv_)) (by assumption) rfl rfl (Nat.le_of_ble_eq_true rfl) ⟨Nat.le_of_ble_eq_true rfl, Nat.le_of_ble_eq_true rfl⟩ ⟨Nat.le_of_ble_eq_true rfl, Nat.le_of_ble_eq_true rfl⟩ (fun rr_21 σ21 pp_21 => ?_)
    obtain ⟨ee_21, hU2, hF2⟩ := pp_21
    rw [ee_21]
    refine V.dup2 C rfl rfl dX3_constantPlace_24 ?_
    refine V.laldN C dX3_constantPlace_25 (by assumption) (by omega) ?_
    refine V.lload_n C 2 rfl rfl dX3_constantPlace_26 ?_
    refine V.lxor C dX3_constantPlace_27 ?_
    refine V.lastN C dX3_constantPlace_28 (by assumption) (by omega) ?_
    refine V.iload C rfl dX3_constantPlace_29 ?_
    refine V.iconst C (nI 1) c_1 dX3_constantPlace_31 ?_
    refine V.icmp_ne C 39 dX3_constantPlace_32 rfl (fun hb_32 => ?_) (fun hb_32 => ?_)
    · have hn1_ : v1 u a = false := by
        cases hq_ : v1 u a with
        | false => rfl
        | true => exact absurd (hone_.mpr hq_) hb_32
      refine V.lconst C 0 rfl dX3_constantPlace_39 ?_
      exact V.lretS C R dX3_constantPlace_40 ⟨by rw [hn1_]; rfl, hU2.fr ((Fr.refl 119 123 σ21).sL _ (by omega) (by omega)) (by omega), by rw [sL_L, hF2.L (k := 120) (by omega), hF1.L (k := 120) (by omega), hfl_], ((hF1.mono (by omega) (by omega)).trans (hF2.mono (by omega) (by omega))).sL _ (by omega) (by omega), (hF2.F (k := 119) (by omega)).trans (hF1.F (by omega))⟩
    · have hn1_ := hone_.mp hb_32
      refine V.lload_n C 2 rfl rfl dX3_constantPlace_35 ?_
      refine V.goto C 40 dX3_constantPlace_36 rfl ?_
      exact V.lretS C R dX3_constantPlace_40 ⟨by rw [hn1_]; rfl, hU2.fr ((Fr.refl 119 123 σ21).sL _ (by omega) (by omega)) (by omega), by rw [sL_L, hF2.L (k := 120) (by omega), hF1.L (k := 120) (by omega), hfl_], ((hF1.mono (by omega) (by omega)).trans (hF2.mono (by omega) (by omega))).sL _ (by omega) (by omega), (hF2.F (k := 119) (by omega)).trans (hF1.F (by omega))⟩
