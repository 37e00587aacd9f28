/-! The model's conflictSet, classCount. -/
def wo1 (set : Int32) (k : Nat) : Int32 := set &&& (shl32 (nI 1) (nI k) ^^^ (-1))
/-- equations dropped in order while the rest stays in conflict -/
def csG (l : List Stm) : Nat → Nat → Int32 → Int32
  | 0, _, set => set
  | f + 1, k, set => if k < l.length then csG l f (k + 1) (if (ufSel l (bt (wo1 set k)) l.length).2.2 = true then set else wo1 set k) else set
def csR (P : Prob) : Int32 := if (ufAll uf0 P.2.1).2.2 = true then -9 else csG P.2.1 11 0 (shl32 (nI 1) (nI P.2.1.length) - nI 1)
theorem ufSel_len (l : List Stm) : ufSel l (bt (shl32 (nI 1) (nI l.length) - nI 1)) l.length = ufAll uf0 l ∨ 10 < l.length := by
  by_cases q : 10 < l.length
  · exact Or.inr q
  · refine Or.inl ?_
    have := ufSel_all l (bt (shl32 (nI 1) (nI l.length) - nI 1)) l.length (Nat.le_refl _) (fun e he => by rw [ones_bt l.length (by omega) e (by omega)]; exact decide_eq_true he)
    rw [List.take_length] at this
    exact this
set_option maxRecDepth 100000 in
set_option maxHeartbeats 4000000 in
theorem ct_M_conflictSet (G : Gl) (σ : SS) (P : Prob) (hP : FP (σ.2.1 124) P) (hwf : wfP P) : CI G mX10_conflictSet [Rf G 123] σ (fun r σ1 => r = csR P ∧ FM [0, 21] [132, 133] σ σ1) := by
  refine Ctr.of oX10_conflictSet (Nat.le_of_ble_eq_true rfl) ?_
  intro X C R hnm hz0
  have C : Cx G X cX10_conflictSet 3 RX10 5 112 0 0 := C
  have R : Cr G X (some .int) 0 0 _ := R
  show V G X 3 0 0 0 [(0, Rf G 123)] [] (wld G σ)
  have kk_123 := sk_123
  have kk_124 := sk_124
  have kk_131 := sk_131
  have kk_132 := sk_132
  have kk_133 := sk_133
  have l10_ := hwf.2.1
  have loop : ∀ (m k : Nat) (set : Int32) (σ1 : SS), P.2.1.length < k + m → k ≤ P.2.1.length → csR P = csG P.2.1 m k set → FM [0, 21] [132, 133] σ σ1 → V G X 3 0 0 30 [(0, Rf G 123), (1, .int set), (2, .int (nI k))] [] (wld G σ1) := by
    intro m
    induction m with
    | zero =>
      intro k set σ1 hm hk he hF1
      exact absurd hm (by omega)
    | succ m ih =>
      intro k set σ1 hm hk he hF1
      refine V.iload_n C 2 rfl rfl dX10_conflictSet_30 ?_
      refine V.aload_n C 0 rfl rfl dX10_conflictSet_31 ?_
      refine V.getR C fX10_7 dX10_conflictSet_32 (by assumption) rfl ?_
      refine V.bipush C (nI 8) b_8 dX10_conflictSet_35 ?_
      refine V.ialdN C dX10_conflictSet_37 (by assumption) (by omega) ?_
      rw [hF1.a (by decide), hP.2.1]
      refine V.icmp_ge C 73 dX10_conflictSet_38 rfl (fun hb_38 => ?_) (fun hb_38 => ?_)
      · have zk_ : ¬ k < P.2.1.length := fun q => absurd ((nI_leI (by omega) (by omega)).mp hb_38) (by omega)
        refine V.iload_n C 1 rfl rfl dX10_conflictSet_73 ?_
        exact V.iretS C R dX10_conflictSet_74 ⟨by rw [he]; show _ = (if k < P.2.1.length then _ else _); rw [if_neg zk_], hF1⟩
      · have zk_ : k < P.2.1.length := Nat.lt_of_not_le (fun q => hb_38 (nI_le q (by omega)))
        refine V.aload_n C 0 rfl rfl dX10_conflictSet_41 ?_
        refine V.iload_n C 1 rfl rfl dX10_conflictSet_42 ?_
        refine V.iconst C (nI 1) c_1 dX10_conflictSet_43 ?_
        refine V.iload_n C 2 rfl rfl dX10_conflictSet_44 ?_
        refine V.ishl C dX10_conflictSet_45 ?_
        refine V.iconst C ((-1)) c_m1 dX10_conflictSet_46 ?_
        refine V.ixor C dX10_conflictSet_47 ?_
        refine V.iand C dX10_conflictSet_48 ?_
        refine V.cVi C lX10_218 oX10_solve dX10_conflictSet_49 (ct_M_solve G σ1 P _ (bt (wo1 set k)) (by rw [hF1.a (by decide)]; exact hP) hwf (fun e he => rfl)) (by assumption) rfl rfl (Nat.le_of_ble_eq_true rfl) ⟨Nat.le_of_ble_eq_true rfl, Nat.le_of_ble_eq_true rfl⟩ ⟨Nat.le_of_ble_eq_true rfl, Nat.le_of_ble_eq_true rfl⟩ (fun rr_49 σ49 pp_49 => ?_)
        rw [pp_49.1]
        refine V.if_eq C 59 dX10_conflictSet_52 rfl (fun hb_52 => ?_) (fun hb_52 => ?_)
        · have zc_ := bI_eq0 hb_52
          refine V.iload_n C 1 rfl rfl dX10_conflictSet_59 ?_
          refine V.iconst C (nI 1) c_1 dX10_conflictSet_60 ?_
          refine V.iload_n C 2 rfl rfl dX10_conflictSet_61 ?_
          refine V.ishl C dX10_conflictSet_62 ?_
          refine V.iconst C ((-1)) c_m1 dX10_conflictSet_63 ?_
          refine V.ixor C dX10_conflictSet_64 ?_
          refine V.iand C dX10_conflictSet_65 ?_
          refine V.istore_n C 1 dX10_conflictSet_66 rfl (by decide) ?_
          refine V.iinc C (nI (k + 1)) dX10_conflictSet_67 rfl (nI_1 k) (by decide) ?_
          refine V.goto C 30 dX10_conflictSet_70 rfl ?_
          refine V.lvs (lv' := [(0, Rf G 123), (1, .int (wo1 set k)), (2, .int (nI (k + 1)))]) rfl ?_
          refine ih (k + 1) _ σ49 (by omega) (by omega) ?_ (hF1.trans (pp_49.2.2.mono (by decide) (by decide)))
          rw [he]
          show (if k < P.2.1.length then csG P.2.1 m (k + 1) (if (ufSel P.2.1 (bt (wo1 set k)) P.2.1.length).2.2 = true then set else wo1 set k) else _) = _
          rw [if_pos zk_, if_neg (by rw [zc_]; decide)]
        · have zc_ := bI_ne0 hb_52
          refine V.iload_n C 1 rfl rfl dX10_conflictSet_55 ?_
          refine V.goto C 66 dX10_conflictSet_56 rfl ?_
          refine V.istore_n C 1 dX10_conflictSet_66 rfl (by decide) ?_
          refine V.iinc C (nI (k + 1)) dX10_conflictSet_67 rfl (nI_1 k) (by decide) ?_
          refine V.goto C 30 dX10_conflictSet_70 rfl ?_
          refine V.lvs (lv' := [(0, Rf G 123), (1, .int set), (2, .int (nI (k + 1)))]) rfl ?_
          refine ih (k + 1) _ σ49 (by omega) (by omega) ?_ (hF1.trans (pp_49.2.2.mono (by decide) (by decide)))
          rw [he]
          show (if k < P.2.1.length then csG P.2.1 m (k + 1) (if (ufSel P.2.1 (bt (wo1 set k)) P.2.1.length).2.2 = true then set else wo1 set k) else _) = _
          rw [if_pos zk_, if_pos zc_]
  refine V.aload_n C 0 rfl rfl dX10_conflictSet_0 ?_
  refine V.iconst C (nI 0) c_0 dX10_conflictSet_1 ?_
  refine V.putI C fX10_47 dX10_conflictSet_2 (by assumption) rfl ?_
  refine V.iconst C (nI 1) c_1 dX10_conflictSet_5 ?_
  refine V.aload_n C 0 rfl rfl dX10_conflictSet_6 ?_
  refine V.getR C fX10_7 dX10_conflictSet_7 (by assumption) rfl ?_
  refine V.bipush C (nI 8) b_8 dX10_conflictSet_10 ?_
  refine V.ialdN C dX10_conflictSet_12 (by assumption) (by omega) ?_
  rw [show (sF σ 123 0 (nI 0)).2.1 124 8 = nI P.2.1.length from hP.2.1]
  refine V.ishl C dX10_conflictSet_13 ?_
  refine V.iconst C (nI 1) c_1 dX10_conflictSet_14 ?_
  refine V.isub C dX10_conflictSet_15 ?_
  refine V.istore_n C 1 dX10_conflictSet_16 rfl (by decide) ?_
  refine V.aload_n C 0 rfl rfl dX10_conflictSet_17 ?_
  refine V.iload_n C 1 rfl rfl dX10_conflictSet_18 ?_
  refine V.cVi C lX10_218 oX10_solve dX10_conflictSet_19 (ct_M_solve G _ P _ (bt (shl32 (nI 1) (nI P.2.1.length) - nI 1)) hP hwf (fun e he => rfl)) (by assumption) rfl rfl (Nat.le_of_ble_eq_true rfl) ⟨Nat.le_of_ble_eq_true rfl, Nat.le_of_ble_eq_true rfl⟩ ⟨Nat.le_of_ble_eq_true rfl, Nat.le_of_ble_eq_true rfl⟩ (fun rr_19 σ19 pp_19 => ?_)
  rcases ufSel_len P.2.1 with el_ | el_
  rotate_left
  · omega
  rw [el_] at pp_19
  rw [pp_19.1]
  have F19_ : FM [0, 21] [132, 133] σ σ19 := (((FM.refl [0] [] σ).sF (nI 0) (by decide)).mono (by decide) (by decide)).trans (pp_19.2.2.mono (by decide) (by decide))
  refine V.if_eq C 28 dX10_conflictSet_22 rfl (fun hb_22 => ?_) (fun hb_22 => ?_)
  · have zc_ := bI_eq0 hb_22
    refine V.iconst C (nI 0) c_0 dX10_conflictSet_28 ?_
    refine V.istore_n C 2 dX10_conflictSet_29 rfl (by decide) ?_
    refine V.lvs (lv' := [(0, Rf G 123), (1, .int (shl32 (nI 1) (nI P.2.1.length) - nI 1)), (2, .int (nI 0))]) rfl ?_
    exact loop 11 0 _ σ19 (by omega) (by omega) (by unfold csR; rw [if_neg (by rw [zc_]; decide)]) F19_
  · have zc_ := bI_ne0 hb_22
    refine V.bipush C ((-9)) b_m9 dX10_conflictSet_25 ?_
    exact V.iretS C R dX10_conflictSet_27 ⟨by unfold csR; rw [if_pos zc_], F19_⟩
/-- whether the bit b of v is where a slice begins that stands for its class -/
def clS (P : Prob) (K : Nat → Bool) (v b : Nat) : Bool := decide (b < P.1 v) && (decide (b = 0) || K (16 * v + b)) && decide ((ufAll uf0 P.2.1).1 (16 * v + b) = 16 * v + b)
/-- how many classes the first v variables have -/
def clN (P : Prob) (K : Nat → Bool) : Nat → Nat
  | 0 => 0
  | v + 1 => clN P K v + cntN (clS P K v) 16
theorem cntN_tail (f : Nat → Bool) (a : Nat) : ∀ n, (∀ x, a ≤ x → f x = false) → a ≤ n → cntN f n = cntN f a
  | 0, _, h => by rw [show a = 0 by omega]
  | n + 1, hf, h => by
    by_cases q : a = n + 1
    · rw [q]
    · rw [cntN_s, hf n (by omega), cntN_tail f a n hf (by omega)]; rfl
theorem cntN_le' (f : Nat → Bool) : ∀ n, cntN f n ≤ n
  | 0 => Nat.le_refl _
  | n + 1 => by
    rw [cntN_s]
    have := cntN_le' f n
    cases f n <;> simp <;> omega
theorem clN_le (P : Prob) (K : Nat → Bool) : ∀ v, clN P K v ≤ 16 * v
  | 0 => Nat.le_refl _
  | v + 1 => by
    have h1 := clN_le P K v
    have h2 := cntN_le' (clS P K v) 16
    show clN P K v + cntN (clS P K v) 16 ≤ _
    omega
set_option maxRecDepth 100000 in
set_option maxHeartbeats 4000000 in
theorem ct_M_classCount (G : Gl) (σ : SS) (P : Prob) (c0 : Bool) (hP : FP (σ.2.1 124) P) (hwf : wfP P) (hc0 : σ.1 123 18 = bI c0) : CI G mX10_classCount [Rf G 123] σ (fun r σ1 => ∃ K, RKm σ1 K ∧ Least P K ∧ r = nI (clN P K 8) ∧ Z18 σ1 ∧ FM [0, 18, 21] [131, 132, 133] σ σ1) := by
  refine Ctr.of oX10_classCount (Nat.le_of_ble_eq_true rfl) ?_
  intro X C R hnm hz0
  have C : Cx G X cX10_classCount 5 RX10 6 132 0 0 := C
  have R : Cr G X (some .int) 0 0 _ := R
  show V G X 5 0 0 0 [(0, Rf G 123)] [] (wld G σ)
  have kk_123 := sk_123
  have kk_124 := sk_124
  have kk_131 := sk_131
  have kk_132 := sk_132
  have kk_133 := sk_133
  have loop : ∀ (σ1 : SS) (K : Nat → Bool), RKm σ1 K → Least P K → RCm σ1 (ufAll uf0 P.2.1) → Z18 σ1 → FM [0, 18, 21] [131, 132, 133] σ σ1 → ∀ (m v n : Nat), 8 < v + m → v ≤ 8 → n = clN P K v → V G X 5 0 0 18 [(0, Rf G 123), (1, .int (nI n)), (2, .int (nI v))] [] (wld G σ1) := by
    intro σ1 K hK hL hU1 hz8 hF1
    have hP1 : FP (σ1.2.1 124) P := by rw [hF1.a (by decide)]; exact hP
    obtain ⟨p, hp, hg⟩ := hU1.1
    intro m
    induction m with
    | zero =>
      intro v n hm hv8 hn
      exact absurd hm (by omega)
    | succ m ih =>
      intro v n hm hv8 hn
      refine V.iload_n C 2 rfl rfl dX10_classCount_18 ?_
      refine V.bipush C (nI 8) b_8 dX10_classCount_19 ?_
      refine V.icmp_ge C 106 dX10_classCount_21 rfl (fun hb_21 => ?_) (fun hb_21 => ?_)
      · have zv_ : v = 8 := by have := (nI_leI (by decide) (by omega)).mp hb_21; omega
        refine V.iload_n C 1 rfl rfl dX10_classCount_106 ?_
        exact V.iretS C R dX10_classCount_107 ⟨K, hK, hL, by rw [hn, zv_], hz8, hF1⟩
      · have hv : v < 8 := Nat.lt_of_not_le (fun q => hb_21 (nI_le q (by omega)))
        have w16_ := hwf.1 v hv
        have n16_ := clN_le P K v
        have ihV := ih
        have loopB : ∀ (m b n : Nat), P.1 v < b + m → b ≤ P.1 v → n = clN P K v + cntN (clS P K v) b → V G X 5 0 0 26 [(0, Rf G 123), (1, .int (nI n)), (2, .int (nI v)), (3, .int (nI b))] [] (wld G σ1) := by
          intro m
          induction m with
          | zero =>
            intro b n hm hb hn
            exact absurd hm (by omega)
          | succ m ih =>
            intro b n hm hb hn
            refine V.iload_n C 3 rfl rfl dX10_classCount_26 ?_
            refine V.aload_n C 0 rfl rfl dX10_classCount_27 ?_
            refine V.getR C fX10_7 dX10_classCount_28 (by assumption) rfl ?_
            refine V.iload_n C 2 rfl rfl dX10_classCount_31 ?_
            refine V.ialdN C dX10_classCount_32 (by assumption) (by omega) ?_
            rw [hP1.1 v hv]
            refine V.icmp_ge C 100 dX10_classCount_33 rfl (fun hb_33 => ?_) (fun hb_33 => ?_)
            · have zb_ : ¬ b < P.1 v := fun q => absurd ((nI_leI (by omega) (by omega)).mp hb_33) (by omega)
              refine V.iinc C (nI (v + 1)) dX10_classCount_100 rfl (nI_1 v) (by decide) ?_
              refine V.goto C 18 dX10_classCount_103 rfl ?_
              have wt_ := cntN_tail (clS P K v) b 16 (fun x hx => by unfold clS; rw [decide_eq_false (show ¬ x < P.1 v by omega)]; rfl) (by omega)
              refine V.lvs (lv' := [(0, Rf G 123), (1, .int (nI n)), (2, .int (nI (v + 1)))]) rfl ?_
              exact ihV (v + 1) n (by omega) (by omega) (by rw [hn, ← wt_]; rfl)
            · have zb_ : b < P.1 v := Nat.lt_of_not_le (fun q => hb_33 (nI_le q (by omega)))
              refine V.iload_n C 3 rfl rfl dX10_classCount_36 ?_
              refine V.if_eq C 54 dX10_classCount_37 rfl (fun hb_37 => ?_) (fun hb_37 => ?_)
              · have z0_ : b = 0 := nI_pe (by omega) (by omega) hb_37
                refine V.iconst C (nI 1) c_1 dX10_classCount_54 ?_
                refine V.goto C 59 dX10_classCount_55 rfl ?_
                refine V.istore C dX10_classCount_59 (by decide) ?_
                refine V.iload_n C 1 rfl rfl dX10_classCount_61 ?_
                refine V.iload C rfl dX10_classCount_62 ?_
                refine V.if_eq C 91 dX10_classCount_64 rfl (fun hb_64 => ?_) (fun hb_64 => ?_)
                · exact absurd hb_64 (by decide)
                · refine V.aload_n C 0 rfl rfl dX10_classCount_67 ?_
                  refine V.getR C fX10_35 dX10_classCount_68 (by assumption) rfl ?_
                  refine V.bipush C (nI 16) b_16 dX10_classCount_71 ?_
                  refine V.iload_n C 2 rfl rfl dX10_classCount_73 ?_
                  refine V.imul C dX10_classCount_74 ?_
                  refine V.iload_n C 3 rfl rfl dX10_classCount_75 ?_
                  refine V.iadd C dX10_classCount_76 ?_
                  rw [nI_mul, nI_add]
                  refine V.ialdN C dX10_classCount_77 (by assumption) (by omega) ?_
                  rw [hp _ (by omega)]
                  refine V.bipush C (nI 16) b_16 dX10_classCount_78 ?_
                  refine V.iload_n C 2 rfl rfl dX10_classCount_80 ?_
                  refine V.imul C dX10_classCount_81 ?_
                  refine V.iload_n C 3 rfl rfl dX10_classCount_82 ?_
                  refine V.iadd C dX10_classCount_83 ?_
                  rw [nI_mul, nI_add]
                  refine V.icmp_ne C 91 dX10_classCount_84 rfl (fun hb_84 => ?_) (fun hb_84 => ?_)
                  · have zr_ : ¬ (ufAll uf0 P.2.1).1 (16 * v + b) = 16 * v + b := fun q => hb_84 (by rw [(hg _ (by omega)).2.2.mpr q])
                    refine V.iconst C (nI 0) c_0 dX10_classCount_91 ?_
                    refine V.iadd C dX10_classCount_92 ?_
                    rw [nI_add]
                    refine V.istore_n C 1 dX10_classCount_93 rfl (by decide) ?_
                    refine V.iinc C (nI (b + 1)) dX10_classCount_94 rfl (nI_1 b) (by decide) ?_
                    refine V.goto C 26 dX10_classCount_97 rfl ?_
                    have cs_ : clS P K v b = false := by unfold clS; rw [decide_eq_true zb_, decide_eq_true z0_, decide_eq_false zr_]; rfl
                    refine V.lvs (lv' := [(0, Rf G 123), (1, .int (nI (n + 0))), (2, .int (nI v)), (3, .int (nI (b + 1)))]) rfl ?_
                    exact ih (b + 1) (n + 0) (by omega) (by omega) (by rw [cntN_s, cs_, hn]; simp only [if_true, if_false, Bool.false_eq_true]; omega)
                  · have zr_ : (ufAll uf0 P.2.1).1 (16 * v + b) = 16 * v + b := (hg _ (by omega)).2.2.mp (nI_pe (by have := (hg (16 * v + b) (by omega)).1; omega) (by omega) hb_84)
                    refine V.iconst C (nI 1) c_1 dX10_classCount_87 ?_
                    refine V.goto C 92 dX10_classCount_88 rfl ?_
                    refine V.iadd C dX10_classCount_92 ?_
                    rw [nI_add]
                    refine V.istore_n C 1 dX10_classCount_93 rfl (by decide) ?_
                    refine V.iinc C (nI (b + 1)) dX10_classCount_94 rfl (nI_1 b) (by decide) ?_
                    refine V.goto C 26 dX10_classCount_97 rfl ?_
                    have cs_ : clS P K v b = true := by unfold clS; rw [decide_eq_true zb_, decide_eq_true z0_, decide_eq_true zr_]; rfl
                    refine V.lvs (lv' := [(0, Rf G 123), (1, .int (nI (n + 1))), (2, .int (nI v)), (3, .int (nI (b + 1)))]) rfl ?_
                    exact ih (b + 1) (n + 1) (by omega) (by omega) (by rw [cntN_s, cs_, hn]; simp only [if_true, if_false, Bool.false_eq_true]; omega)
              · have z0_ : ¬ b = 0 := fun q => hb_37 (by rw [q]; rfl)
                refine V.aload_n C 0 rfl rfl dX10_classCount_40 ?_
                refine V.getR C fX10_32 dX10_classCount_41 (by assumption) rfl ?_
                refine V.bipush C (nI 16) b_16 dX10_classCount_44 ?_
                refine V.iload_n C 2 rfl rfl dX10_classCount_46 ?_
                refine V.imul C dX10_classCount_47 ?_
                refine V.iload_n C 3 rfl rfl dX10_classCount_48 ?_
                refine V.iadd C dX10_classCount_49 ?_
                rw [nI_mul, nI_add]
                refine V.zaldN C dX10_classCount_50 (by assumption) (by omega) ?_
                rw [hK _ (by omega)]
                refine V.if_eq C 58 dX10_classCount_51 rfl (fun hb_51 => ?_) (fun hb_51 => ?_)
                · have zk_ := bI_eq0 hb_51
                  refine V.iconst C (nI 0) c_0 dX10_classCount_58 ?_
                  refine V.istore C dX10_classCount_59 (by decide) ?_
                  refine V.iload_n C 1 rfl rfl dX10_classCount_61 ?_
                  refine V.iload C rfl dX10_classCount_62 ?_
                  refine V.if_eq C 91 dX10_classCount_64 rfl (fun hb_64 => ?_) (fun hb_64 => ?_)
                  · refine V.iconst C (nI 0) c_0 dX10_classCount_91 ?_
                    refine V.iadd C dX10_classCount_92 ?_
                    rw [nI_add]
                    refine V.istore_n C 1 dX10_classCount_93 rfl (by decide) ?_
                    refine V.iinc C (nI (b + 1)) dX10_classCount_94 rfl (nI_1 b) (by decide) ?_
                    refine V.goto C 26 dX10_classCount_97 rfl ?_
                    have cs_ : clS P K v b = false := by unfold clS; rw [decide_eq_true zb_, decide_eq_false z0_, zk_]; rfl
                    refine V.lvs (lv' := [(0, Rf G 123), (1, .int (nI (n + 0))), (2, .int (nI v)), (3, .int (nI (b + 1)))]) rfl ?_
                    exact ih (b + 1) (n + 0) (by omega) (by omega) (by rw [cntN_s, cs_, hn]; simp only [if_true, if_false, Bool.false_eq_true]; omega)
                  · exact absurd rfl hb_64
                · have zk_ := bI_ne0 hb_51
                  refine V.iconst C (nI 1) c_1 dX10_classCount_54 ?_
                  refine V.goto C 59 dX10_classCount_55 rfl ?_
                  refine V.istore C dX10_classCount_59 (by decide) ?_
                  refine V.iload_n C 1 rfl rfl dX10_classCount_61 ?_
                  refine V.iload C rfl dX10_classCount_62 ?_
                  refine V.if_eq C 91 dX10_classCount_64 rfl (fun hb_64 => ?_) (fun hb_64 => ?_)
                  · exact absurd hb_64 (by decide)
                  · refine V.aload_n C 0 rfl rfl dX10_classCount_67 ?_
                    refine V.getR C fX10_35 dX10_classCount_68 (by assumption) rfl ?_
                    refine V.bipush C (nI 16) b_16 dX10_classCount_71 ?_
                    refine V.iload_n C 2 rfl rfl dX10_classCount_73 ?_
                    refine V.imul C dX10_classCount_74 ?_
                    refine V.iload_n C 3 rfl rfl dX10_classCount_75 ?_
                    refine V.iadd C dX10_classCount_76 ?_
                    rw [nI_mul, nI_add]
                    refine V.ialdN C dX10_classCount_77 (by assumption) (by omega) ?_
                    rw [hp _ (by omega)]
                    refine V.bipush C (nI 16) b_16 dX10_classCount_78 ?_
                    refine V.iload_n C 2 rfl rfl dX10_classCount_80 ?_
                    refine V.imul C dX10_classCount_81 ?_
                    refine V.iload_n C 3 rfl rfl dX10_classCount_82 ?_
                    refine V.iadd C dX10_classCount_83 ?_
                    rw [nI_mul, nI_add]
                    refine V.icmp_ne C 91 dX10_classCount_84 rfl (fun hb_84 => ?_) (fun hb_84 => ?_)
                    · have zr_ : ¬ (ufAll uf0 P.2.1).1 (16 * v + b) = 16 * v + b := fun q => hb_84 (by rw [(hg _ (by omega)).2.2.mpr q])
                      refine V.iconst C (nI 0) c_0 dX10_classCount_91 ?_
                      refine V.iadd C dX10_classCount_92 ?_
                      rw [nI_add]
                      refine V.istore_n C 1 dX10_classCount_93 rfl (by decide) ?_
                      refine V.iinc C (nI (b + 1)) dX10_classCount_94 rfl (nI_1 b) (by decide) ?_
                      refine V.goto C 26 dX10_classCount_97 rfl ?_
                      have cs_ : clS P K v b = false := by unfold clS; rw [decide_eq_true zb_, decide_eq_false z0_, zk_, decide_eq_false zr_]; rfl
                      refine V.lvs (lv' := [(0, Rf G 123), (1, .int (nI (n + 0))), (2, .int (nI v)), (3, .int (nI (b + 1)))]) rfl ?_
                      exact ih (b + 1) (n + 0) (by omega) (by omega) (by rw [cntN_s, cs_, hn]; simp only [if_true, if_false, Bool.false_eq_true]; omega)
                    · have zr_ : (ufAll uf0 P.2.1).1 (16 * v + b) = 16 * v + b := (hg _ (by omega)).2.2.mp (nI_pe (by have := (hg (16 * v + b) (by omega)).1; omega) (by omega) hb_84)
                      refine V.iconst C (nI 1) c_1 dX10_classCount_87 ?_
                      refine V.goto C 92 dX10_classCount_88 rfl ?_
                      refine V.iadd C dX10_classCount_92 ?_
                      rw [nI_add]
                      refine V.istore_n C 1 dX10_classCount_93 rfl (by decide) ?_
                      refine V.iinc C (nI (b + 1)) dX10_classCount_94 rfl (nI_1 b) (by decide) ?_
                      refine V.goto C 26 dX10_classCount_97 rfl ?_
                      have cs_ : clS P K v b = true := by unfold clS; rw [decide_eq_true zb_, decide_eq_false z0_, zk_, decide_eq_true zr_]; rfl
                      refine V.lvs (lv' := [(0, Rf G 123), (1, .int (nI (n + 1))), (2, .int (nI v)), (3, .int (nI (b + 1)))]) rfl ?_
                      exact ih (b + 1) (n + 1) (by omega) (by omega) (by rw [cntN_s, cs_, hn]; simp only [if_true, if_false, Bool.false_eq_true]; omega)
        refine V.iconst C (nI 0) c_0 dX10_classCount_24 ?_
        refine V.istore_n C 3 dX10_classCount_25 rfl (by decide) ?_
        refine V.lvs (lv' := [(0, Rf G 123), (1, .int (nI n)), (2, .int (nI v)), (3, .int (nI 0))]) rfl ?_
        exact loopB (P.1 v + 1) 0 n (by omega) (by omega) hn
  refine V.aload_n C 0 rfl rfl dX10_classCount_0 ?_
  refine V.iconst C (nI 0) c_0 dX10_classCount_1 ?_
  refine V.putI C fX10_47 dX10_classCount_2 (by assumption) rfl ?_
  refine V.aload_n C 0 rfl rfl dX10_classCount_5 ?_
  refine V.cVv C lX10_188 oX10_findCuts dX10_classCount_6 (ct_M_findCuts G _ P c0 hP hwf hc0) (by assumption) rfl rfl (Nat.le_of_ble_eq_true rfl) ⟨Nat.le_of_ble_eq_true rfl, Nat.le_of_ble_eq_true rfl⟩ ⟨Nat.le_of_ble_eq_true rfl, Nat.le_of_ble_eq_true rfl⟩ (fun σ6 pp_6 => ?_)
  obtain ⟨K, hK_, hC_, hS_, c8_, FF6_⟩ := pp_6
  have F6_ : FM [0, 18, 21] [131, 132, 133] σ σ6 := (((FM.refl [0] [] σ).sF (nI 0) (by decide)).mono (by decide) (by decide)).trans (FF6_.mono (by decide) (by decide))
  refine V.aload_n C 0 rfl rfl dX10_classCount_9 ?_
  refine V.cVi C lX10_221 oX10_solveAll dX10_classCount_10 (ct_M_solveAll G σ6 P (by rw [FF6_.a (by decide)]; exact hP) hwf) (by assumption) rfl rfl (Nat.le_of_ble_eq_true rfl) ⟨Nat.le_of_ble_eq_true rfl, Nat.le_of_ble_eq_true rfl⟩ ⟨Nat.le_of_ble_eq_true rfl, Nat.le_of_ble_eq_true rfl⟩ (fun rr_10 σ10 pp_10 => ?_)
  rw [pp_10.1]
  have F10_ := F6_.trans (pp_10.2.2.mono (by decide) (by decide))
  have hK1_ : RKm σ10 K := fun x hx => by rw [pp_10.2.2.a (by decide)]; exact hK_ x hx
  refine V.pop C rfl dX10_classCount_13 ?_
  refine V.iconst C (nI 0) c_0 dX10_classCount_14 ?_
  refine V.istore_n C 1 dX10_classCount_15 rfl (by decide) ?_
  refine V.iconst C (nI 0) c_0 dX10_classCount_16 ?_
  refine V.istore_n C 2 dX10_classCount_17 rfl (by decide) ?_
  refine V.lvs (lv' := [(0, Rf G 123), (1, .int (nI 0)), (2, .int (nI 0))]) rfl ?_
  exact loop σ10 K hK1_ ⟨hC_, hS_⟩ pp_10.2.1 (c8_.fm pp_10.2.2 (by decide)) F10_ 9 0 0 (by omega) (by omega) rfl
