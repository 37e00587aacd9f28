/-! The model's isFree, freeBits. -/
def freeW (P : Prob) (u : UF) (x : Nat) : Bool := decide (x % 16 < P.1 (x / 16)) && decide (u.1 x = x) && decide (u.2.1 x = none)
def fbC (P : Prob) : Int32 := if (ufAll uf0 P.2.1).2.2 = true then nI (cntN (freeW P (ufAll uf0 P.2.1)) 128) else -2
set_option maxRecDepth 100000 in
set_option maxHeartbeats 4000000 in
theorem ct_M_isFree (G : Gl) (σ : SS) (P : Prob) (u : UF) (x : Nat) (hP : FP (σ.2.1 124) P) (hwf : wfP P) (hU : RCm σ u) (hx : x < 128) : CI G mX10_isFree [Rf G 123, .int (nI x)] σ (fun r σ1 => r = bI (freeW P u x) ∧ σ1 = σ) := by
  refine Ctr.of oX10_isFree (Nat.le_of_ble_eq_true rfl) ?_
  intro X C R hnm hz0
  have C : Cx G X cX10_isFree 2 RX10 0 0 0 0 := C
  have R : Cr G X (some .boolean) 0 0 _ := R
  show V G X 2 0 0 0 [(0, Rf G 123), (1, .int (nI x))] [] (wld G σ)
  have kk_123 := sk_123
  have kk_124 := sk_124
  have kk_131 := sk_131
  have kk_132 := sk_132
  have kk_133 := sk_133
  obtain ⟨p, hp, hg⟩ := hU.1
  refine V.iload_n C 1 rfl rfl dX10_isFree_0 ?_
  refine V.bipush C (nI 16) b_16 dX10_isFree_1 ?_
  refine V.irem C (by decide) dX10_isFree_3 ?_
  rw [nI_rem (by omega) (by decide) (by decide)]
  refine V.aload_n C 0 rfl rfl dX10_isFree_4 ?_
  refine V.getR C fX10_7 dX10_isFree_5 (by assumption) rfl ?_
  refine V.iload_n C 1 rfl rfl dX10_isFree_8 ?_
  refine V.bipush C (nI 16) b_16 dX10_isFree_9 ?_
  refine V.idiv C (by decide) dX10_isFree_11 ?_
  rw [nI_div (by omega) (by decide) (by decide)]
  refine V.ialdN C dX10_isFree_12 (by assumption) (by omega) ?_
  rw [hP.1 _ (by omega)]
  refine V.icmp_ge C 41 dX10_isFree_13 rfl (fun hb_13 => ?_) (fun hb_13 => ?_)
  · have z_ : ¬ x % 16 < P.1 (x / 16) := fun q => absurd ((nI_leI (by have := hwf.1 (x / 16) (by omega); omega) (by omega)).mp hb_13) (by omega)
    refine V.iconst C (nI 0) c_0 dX10_isFree_41 ?_
    exact V.zretS C R dX10_isFree_42 (by first | exact Or.inl rfl | exact Or.inr rfl | exact bI01 _) ⟨by unfold freeW; rw [decide_eq_false z_]; rfl, rfl⟩
  · have z_ : x % 16 < P.1 (x / 16) := Nat.lt_of_not_le (fun q => hb_13 (nI_le q (by omega)))
    refine V.aload_n C 0 rfl rfl dX10_isFree_16 ?_
    refine V.getR C fX10_35 dX10_isFree_17 (by assumption) rfl ?_
    refine V.iload_n C 1 rfl rfl dX10_isFree_20 ?_
    refine V.ialdN C dX10_isFree_21 (by assumption) (by omega) ?_
    rw [hp x hx]
    refine V.iload_n C 1 rfl rfl dX10_isFree_22 ?_
    refine V.icmp_ne C 41 dX10_isFree_23 rfl (fun hb_23 => ?_) (fun hb_23 => ?_)
    · have z2_ : ¬ u.1 x = x := fun q => hb_23 (by rw [(hg x hx).2.2.mpr q])
      refine V.iconst C (nI 0) c_0 dX10_isFree_41 ?_
      exact V.zretS C R dX10_isFree_42 (by first | exact Or.inl rfl | exact Or.inr rfl | exact bI01 _) ⟨by unfold freeW; rw [decide_eq_true z_, decide_eq_false z2_]; rfl, rfl⟩
    · have z2_ : u.1 x = x := (hg x hx).2.2.mp (nI_pe (by have := (hg x hx).1; omega) (by omega) hb_23)
      have fx_ := hU.2.1 x hx z2_
      refine V.aload_n C 0 rfl rfl dX10_isFree_26 ?_
      refine V.getR C fX10_38 dX10_isFree_27 (by assumption) rfl ?_
      refine V.iload_n C 1 rfl rfl dX10_isFree_30 ?_
      refine V.ialdN C dX10_isFree_31 (by assumption) (by omega) ?_
      refine V.bipush C ((-9)) b_m9 dX10_isFree_32 ?_
      refine V.icmp_ne C 41 dX10_isFree_34 rfl (fun hb_34 => ?_) (fun hb_34 => ?_)
      · have z3_ : ¬ u.2.1 x = none := fun q => hb_34 (fx_.1 q)
        refine V.iconst C (nI 0) c_0 dX10_isFree_41 ?_
        exact V.zretS C R dX10_isFree_42 (by first | exact Or.inl rfl | exact Or.inr rfl | exact bI01 _) ⟨by unfold freeW; rw [decide_eq_true z_, decide_eq_true z2_, decide_eq_false z3_]; rfl, rfl⟩
      · have z3_ : u.2.1 x = none := by
          cases hq : u.2.1 x with
          | none => rfl
          | some w =>
            obtain ⟨w1, w2, w3, _⟩ := fx_.2 w hq
            exact absurd (w3.symm.trans hb_34) (nI_ne_m9 (by omega))
        refine V.iconst C (nI 1) c_1 dX10_isFree_37 ?_
        refine V.goto C 42 dX10_isFree_38 rfl ?_
        exact V.zretS C R dX10_isFree_42 (by first | exact Or.inl rfl | exact Or.inr rfl | exact bI01 _) ⟨by unfold freeW; rw [decide_eq_true z_, decide_eq_true z2_, decide_eq_true z3_]; rfl, rfl⟩
set_option maxRecDepth 100000 in
set_option maxHeartbeats 4000000 in
theorem ct_M_freeBits (G : Gl) (σ : SS) (P : Prob) (hP : FP (σ.2.1 124) P) (hwf : wfP P) : CI G mX10_freeBits [Rf G 123] σ (fun r σ1 => r = fbC P ∧ FM [0, 21] [132, 133] σ σ1) := by
  refine Ctr.of oX10_freeBits (Nat.le_of_ble_eq_true rfl) ?_
  intro X C R hnm hz0
  have C : Cx G X cX10_freeBits 3 RX10 6 132 0 0 := C
  have R : Cr G X (some .int) 0 0 _ := R
  show V G X 3 0 0 0 [(0, Rf G 123)] [] (wld G σ)
  have kk_123 := sk_123
  have kk_124 := sk_124
  have kk_131 := sk_131
  have kk_132 := sk_132
  have kk_133 := sk_133
  have loop : ∀ (σ1 : SS), (ufAll uf0 P.2.1).2.2 = true → RCm σ1 (ufAll uf0 P.2.1) → FM [0, 21] [132, 133] σ σ1 → ∀ (m n k : Nat), 128 < k + m → k ≤ 128 → n = cntN (freeW P (ufAll uf0 P.2.1)) k → V G X 3 0 0 19 [(0, Rf G 123), (1, .int (nI n)), (2, .int (nI k))] [] (wld G σ1) := by
    intro σ1 hz hU1 hF1 m
    induction m with
    | zero =>
      intro n k hm hk hn
      exact absurd hm (by omega)
    | succ m ih =>
      intro n k hm hk hn
      refine V.iload_n C 2 rfl rfl dX10_freeBits_19 ?_
      refine V.sipush C (nI 128) s_128 dX10_freeBits_20 ?_
      refine V.icmp_ge C 48 dX10_freeBits_23 rfl (fun hb_23 => ?_) (fun hb_23 => ?_)
      · have zk_ : k = 128 := by have := (nI_leI (by decide) (by omega)).mp hb_23; omega
        refine V.iload_n C 1 rfl rfl dX10_freeBits_48 ?_
        exact V.iretS C R dX10_freeBits_49 ⟨by unfold fbC; rw [if_pos hz, hn, zk_], hF1⟩
      · have zk_ : k < 128 := Nat.lt_of_not_le (fun q => hb_23 (nI_le q (by omega)))
        refine V.iload_n C 1 rfl rfl dX10_freeBits_26 ?_
        refine V.aload_n C 0 rfl rfl dX10_freeBits_27 ?_
        refine V.iload_n C 2 rfl rfl dX10_freeBits_28 ?_
        refine V.cVi C lX10_230 oX10_isFree dX10_freeBits_29 (ct_M_isFree G σ1 P (ufAll uf0 P.2.1) k (by rw [hF1.a (by decide)]; exact hP) hwf hU1 zk_) (by assumption) rfl rfl (Nat.le_of_ble_eq_true rfl) ⟨Nat.le_of_ble_eq_true rfl, Nat.le_of_ble_eq_true rfl⟩ ⟨Nat.le_of_ble_eq_true rfl, Nat.le_of_ble_eq_true rfl⟩ (fun rr_29 σ29 pp_29 => ?_)
        obtain ⟨ee_29, ff_29⟩ := pp_29
        rw [ee_29, ff_29]
        refine V.if_eq C 39 dX10_freeBits_32 rfl (fun hb_32 => ?_) (fun hb_32 => ?_)
        · have zf_ := bI_eq0 hb_32
          refine V.iconst C (nI 0) c_0 dX10_freeBits_39 ?_
          refine V.iadd C dX10_freeBits_40 ?_
          rw [nI_add]
          refine V.istore_n C 1 dX10_freeBits_41 rfl (by decide) ?_
          refine V.iinc C (nI (k + 1)) dX10_freeBits_42 rfl (nI_1 k) (by decide) ?_
          refine V.goto C 19 dX10_freeBits_45 rfl ?_
          refine V.lvs (lv' := [(0, Rf G 123), (1, .int (nI (n + 0))), (2, .int (nI (k + 1)))]) rfl ?_
          exact ih (n + 0) (k + 1) (by omega) (by omega) (by rw [cntN_s, zf_, hn]; rfl)
        · have zf_ := bI_ne0 hb_32
          refine V.iconst C (nI 1) c_1 dX10_freeBits_35 ?_
          refine V.goto C 40 dX10_freeBits_36 rfl ?_
          refine V.iadd C dX10_freeBits_40 ?_
          rw [nI_add]
          refine V.istore_n C 1 dX10_freeBits_41 rfl (by decide) ?_
          refine V.iinc C (nI (k + 1)) dX10_freeBits_42 rfl (nI_1 k) (by decide) ?_
          refine V.goto C 19 dX10_freeBits_45 rfl ?_
          refine V.lvs (lv' := [(0, Rf G 123), (1, .int (nI (n + 1))), (2, .int (nI (k + 1)))]) rfl ?_
          exact ih (n + 1) (k + 1) (by omega) (by omega) (by rw [cntN_s, zf_, hn]; rfl)
  refine V.aload_n C 0 rfl rfl dX10_freeBits_0 ?_
  refine V.iconst C (nI 0) c_0 dX10_freeBits_1 ?_
  refine V.putI C fX10_47 dX10_freeBits_2 (by assumption) rfl ?_
  refine V.aload_n C 0 rfl rfl dX10_freeBits_5 ?_
  refine V.cVi C lX10_221 oX10_solveAll dX10_freeBits_6 (ct_M_solveAll G _ P hP hwf) (by assumption) rfl rfl (Nat.le_of_ble_eq_true rfl) ⟨Nat.le_of_ble_eq_true rfl, Nat.le_of_ble_eq_true rfl⟩ ⟨Nat.le_of_ble_eq_true rfl, Nat.le_of_ble_eq_true rfl⟩ (fun rr_6 σ6 pp_6 => ?_)
  rw [pp_6.1]
  have F6_ : FM [0, 21] [132, 133] σ σ6 := (((FM.refl [0] [] σ).sF (nI 0) (by decide)).mono (by decide) (by decide)).trans (pp_6.2.2.mono (by decide) (by decide))
  refine V.if_ne C 15 dX10_freeBits_9 rfl (fun hb_9 => ?_) (fun hb_9 => ?_)
  · have z_ := bI_ne0 hb_9
    refine V.iconst C (nI 0) c_0 dX10_freeBits_15 ?_
    refine V.istore_n C 1 dX10_freeBits_16 rfl (by decide) ?_
    refine V.iconst C (nI 0) c_0 dX10_freeBits_17 ?_
    refine V.istore_n C 2 dX10_freeBits_18 rfl (by decide) ?_
    refine V.lvs (lv' := [(0, Rf G 123), (1, .int (nI 0)), (2, .int (nI 0))]) rfl ?_
    exact loop σ6 z_ pp_6.2.1 F6_ 129 0 0 (by omega) (by omega) rfl
  · have z_ := bI_eq0 hb_9
    refine V.bipush C ((-2)) b_m2 dX10_freeBits_12 ?_
    exact V.iretS C R dX10_freeBits_14 ⟨by unfold fbC; rw [if_neg (by rw [z_]; decide)], F6_⟩
