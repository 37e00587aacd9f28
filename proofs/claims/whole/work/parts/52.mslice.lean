/-! The model's slicesOf, startOf, sliceOfBit. -/
theorem cntN_stop {f : Nat → Bool} {m : Nat} (h : ∀ b, m ≤ b → f b = false) : ∀ n, m ≤ n → cntN f n = cntN f m
  | 0, hn => by rw [show m = 0 by omega]
  | n + 1, hn => by
    rcases Nat.lt_or_ge n m with q | q
    · rw [show m = n + 1 by omega]
    · show cntN f n + (if f n then 1 else 0) = cntN f m
      rw [h n q, cntN_stop h n q]; rfl
/-- the cuts of a variable lie inside it -/
theorem cutF_in {P : Prob} {K : Nat → Bool} (h : Snd P K) (hw : wfP P) {v b : Nat} (hb : b < 16) (hx : cutF K v b = true) : v < 8 ∧ 0 < b ∧ b < P.1 v := by
  have := h.inn hw hx
  rw [show (16 * v + b) % 16 = b by omega, show (16 * v + b) / 16 = v by omega] at this
  omega
theorem cutF_0 {P : Prob} {K : Nat → Bool} (h : Snd P K) (hw : wfP P) (v : Nat) : cutF K v 0 = false := by
  cases q : cutF K v 0 with
  | false => rfl
  | true => have := cutF_in h hw (by decide) q; omega
def slN (P : Prob) (K : Nat → Bool) (v : Nat) : Nat := if P.1 v = 0 then 0 else cntN (cutF K v) 16 + 1
theorem cntN_16 {P : Prob} {K : Nat → Bool} (h : Snd P K) (hw : wfP P) {v m : Nat} (hv : v < 8) (hm : P.1 v ≤ m) (h16 : m ≤ 16) : cntN (cutF K v) m = cntN (cutF K v) 16 := by
  have w16 := hw.1 v hv
  have e : ∀ n, n ≤ 16 → P.1 v ≤ n → cntN (cutF K v) n = cntN (fun b => cutF K v b && decide (b < 16)) n := fun n hn _ => cntN_congr (fun i hi => by rw [decide_eq_true (by omega), Bool.and_true])
  have st : ∀ b, P.1 v ≤ b → (cutF K v b && decide (b < 16)) = false := fun b hb => by
    by_cases q : b < 16
    · cases z : cutF K v b with
      | false => rfl
      | true => have := cutF_in h hw q z; omega
    · rw [decide_eq_false q, Bool.and_false]
  rw [e m h16 hm, e 16 (by omega) w16, cntN_stop st m hm, cntN_stop st 16 w16]
theorem cntN_s (f : Nat → Bool) (n : Nat) : cntN f (n + 1) = cntN f n + (if f n then 1 else 0) := rfl
set_option maxRecDepth 100000 in
set_option maxHeartbeats 4000000 in
theorem ct_M_slicesOf (G : Gl) (σ : SS) (P : Prob) (K : Nat → Bool) (v : Nat) (hP : FP (σ.2.1 124) P) (hwf : wfP P) (hK : RKm σ K) (hsn : Snd P K) (hv : v < 8) : CI G mX10_slicesOf [Rf G 123, .int (nI v)] σ (fun r σ1 => r = nI (slN P K v) ∧ σ1 = σ) := by
  refine Ctr.of oX10_slicesOf (Nat.le_of_ble_eq_true rfl) ?_
  intro X C R hnm hz0
  have C : Cx G X cX10_slicesOf 4 RX10 0 0 0 0 := C
  have R : Cr G X (some .int) 0 0 _ := R
  show V G X 4 0 0 0 [(0, Rf G 123), (1, .int (nI v))] [] (wld G σ)
  have kk_123 := sk_123
  have kk_124 := sk_124
  have kk_131 := sk_131
  have w16_ := hwf.1 v hv
  have f0_ := cutF_0 hsn hwf v
  have loop : ∀ (m n p : Nat), 16 < p + m → 1 ≤ p ∧ (p ≤ P.1 v ∨ p = 1) → n = cntN (cutF K v) p + (if P.1 v = 0 then 0 else 1) → V G X 4 0 0 17 [(0, Rf G 123), (1, .int (nI v)), (2, .int (nI n)), (3, .int (nI p))] [] (wld G σ) := by
    intro m
    induction m with
    | zero =>
      intro n p hm hp hn
      exact absurd hm (by omega)
    | succ m ih =>
      intro n p hm hp hn
      refine V.iload_n C 3 rfl rfl dX10_slicesOf_17 ?_
      refine V.aload_n C 0 rfl rfl dX10_slicesOf_18 ?_
      refine V.getR C fX10_7 dX10_slicesOf_19 (by assumption) rfl ?_
      refine V.iload_n C 1 rfl rfl dX10_slicesOf_22 ?_
      refine V.ialdN C dX10_slicesOf_23 (by assumption) (by omega) ?_
      rw [hP.1 v hv]
      refine V.icmp_ge C 55 dX10_slicesOf_24 rfl (fun hb_24 => ?_) (fun hb_24 => ?_)
      · have zp_ : P.1 v ≤ p := (nI_leI (by omega) (by omega)).mp hb_24
        refine V.iload_n C 2 rfl rfl dX10_slicesOf_55 ?_
        exact V.iretS C R dX10_slicesOf_56 ⟨by
          unfold slN
          congr 1
          by_cases z_ : P.1 v = 0
          · rw [if_pos z_]; rw [if_pos z_] at hn; rw [z_] at hp; have : p = 1 := by omega
            rw [this, cntN_s, f0_] at hn; simpa [cntN] using hn
          · rw [if_neg z_]; rw [if_neg z_] at hn
            have := cntN_16 hsn hwf hv zp_ (by omega)
            omega, rfl⟩
      · have zp_ : p < P.1 v := Nat.lt_of_not_le (fun q => hb_24 (nI_le q (by omega)))
        refine V.iload_n C 2 rfl rfl dX10_slicesOf_27 ?_
        refine V.aload_n C 0 rfl rfl dX10_slicesOf_28 ?_
        refine V.getR C fX10_32 dX10_slicesOf_29 (by assumption) rfl ?_
        refine V.bipush C (nI 16) b_16 dX10_slicesOf_32 ?_
        refine V.iload_n C 1 rfl rfl dX10_slicesOf_34 ?_
        refine V.imul C dX10_slicesOf_35 ?_
        refine V.iload_n C 3 rfl rfl dX10_slicesOf_36 ?_
        refine V.iadd C dX10_slicesOf_37 ?_
        rw [nI_mul, nI_add]
        refine V.zaldN C dX10_slicesOf_38 (by assumption) (by omega) ?_
        rw [hK _ (by omega)]
        refine V.if_eq C 46 dX10_slicesOf_39 rfl (fun hb_39 => ?_) (fun hb_39 => ?_)
        · have zc_ : cutF K v p = false := bI_eq0 hb_39
          refine V.iconst C (nI 0) c_0 dX10_slicesOf_46 ?_
          refine V.iadd C dX10_slicesOf_47 ?_
          rw [nI_add]
          refine V.istore_n C 2 dX10_slicesOf_48 rfl (by decide) ?_
          refine V.iinc C (nI (p + 1)) dX10_slicesOf_49 rfl (nI_1 p) (by decide) ?_
          refine V.goto C 17 dX10_slicesOf_52 rfl ?_
          refine V.lvs (lv' := [(0, Rf G 123), (1, .int (nI v)), (2, .int (nI (n + 0))), (3, .int (nI (p + 1)))]) rfl ?_
          refine ih (n + 0) (p + 1) (by omega) (by omega) ?_
          rw [cntN_s, zc_, hn]
          first | rfl | (simp; done) | (simp; omega)
        · have zc_ : cutF K v p = true := bI_ne0 hb_39
          refine V.iconst C (nI 1) c_1 dX10_slicesOf_42 ?_
          refine V.goto C 47 dX10_slicesOf_43 rfl ?_
          refine V.iadd C dX10_slicesOf_47 ?_
          rw [nI_add]
          refine V.istore_n C 2 dX10_slicesOf_48 rfl (by decide) ?_
          refine V.iinc C (nI (p + 1)) dX10_slicesOf_49 rfl (nI_1 p) (by decide) ?_
          refine V.goto C 17 dX10_slicesOf_52 rfl ?_
          refine V.lvs (lv' := [(0, Rf G 123), (1, .int (nI v)), (2, .int (nI (n + 1))), (3, .int (nI (p + 1)))]) rfl ?_
          refine ih (n + 1) (p + 1) (by omega) (by omega) ?_
          rw [cntN_s, zc_, hn]
          first | rfl | (simp; done) | (simp; omega)
  refine V.aload_n C 0 rfl rfl dX10_slicesOf_0 ?_
  refine V.getR C fX10_7 dX10_slicesOf_1 (by assumption) rfl ?_
  refine V.iload_n C 1 rfl rfl dX10_slicesOf_4 ?_
  refine V.ialdN C dX10_slicesOf_5 (by assumption) (by omega) ?_
  rw [hP.1 v hv]
  refine V.if_le C 13 dX10_slicesOf_6 rfl (fun hb_6 => ?_) (fun hb_6 => ?_)
  · have z_ : P.1 v = 0 := by have := (nI_leI (by omega) (by decide)).mp (show nI (P.1 v) ≤ nI 0 from hb_6); omega
    refine V.iconst C (nI 0) c_0 dX10_slicesOf_13 ?_
    refine V.istore_n C 2 dX10_slicesOf_14 rfl (by decide) ?_
    refine V.iconst C (nI 1) c_1 dX10_slicesOf_15 ?_
    refine V.istore_n C 3 dX10_slicesOf_16 rfl (by decide) ?_
    refine V.lvs (lv' := [(0, Rf G 123), (1, .int (nI v)), (2, .int (nI 0)), (3, .int (nI 1))]) rfl ?_
    exact loop 17 0 1 (by omega) (by omega) (by rw [cntN_s, f0_, if_pos z_]; rfl)
  · have z_ : ¬ P.1 v = 0 := fun q => hb_6 (by rw [q]; decide)
    refine V.iconst C (nI 1) c_1 dX10_slicesOf_9 ?_
    refine V.goto C 14 dX10_slicesOf_10 rfl ?_
    refine V.istore_n C 2 dX10_slicesOf_14 rfl (by decide) ?_
    refine V.iconst C (nI 1) c_1 dX10_slicesOf_15 ?_
    refine V.istore_n C 3 dX10_slicesOf_16 rfl (by decide) ?_
    refine V.lvs (lv' := [(0, Rf G 123), (1, .int (nI v)), (2, .int (nI 1)), (3, .int (nI 1))]) rfl ?_
    exact loop 17 1 1 (by omega) (by omega) (by rw [cntN_s, f0_, if_neg z_]; rfl)
set_option maxRecDepth 100000 in
set_option maxHeartbeats 4000000 in
theorem ct_M_sliceOfBit (G : Gl) (σ : SS) (P : Prob) (K : Nat → Bool) (v b : Nat) (hP : FP (σ.2.1 124) P) (hwf : wfP P) (hK : RKm σ K) (hsn : Snd P K) (hv : v < 8) (hb : b < 16) : CI G mX10_sliceOfBit [Rf G 123, .int (nI v), .int (nI b)] σ (fun r σ1 => r = nI (cntN (cutF K v) (b + 1)) ∧ σ1 = σ) := by
  refine Ctr.of oX10_sliceOfBit (Nat.le_of_ble_eq_true rfl) ?_
  intro X C R hnm hz0
  have C : Cx G X cX10_sliceOfBit 5 RX10 0 0 0 0 := C
  have R : Cr G X (some .int) 0 0 _ := R
  show V G X 5 0 0 0 [(0, Rf G 123), (1, .int (nI v)), (2, .int (nI b))] [] (wld G σ)
  have kk_123 := sk_123
  have kk_124 := sk_124
  have kk_131 := sk_131
  have w16_ := hwf.1 v hv
  have f0_ := cutF_0 hsn hwf v
  have loop : ∀ (m n p : Nat), 17 < p + m → 1 ≤ p ∧ p ≤ b + 1 → n = cntN (cutF K v) p → V G X 5 0 0 5 [(0, Rf G 123), (1, .int (nI v)), (2, .int (nI b)), (3, .int (nI n)), (4, .int (nI p))] [] (wld G σ) := by
    intro m
    induction m with
    | zero =>
      intro n p hm hp hn
      exact absurd hm (by omega)
    | succ m ih =>
      intro n p hm hp hn
      refine V.iload C rfl dX10_sliceOfBit_5 ?_
      refine V.iload_n C 2 rfl rfl dX10_sliceOfBit_7 ?_
      refine V.icmp_gt C 40 dX10_sliceOfBit_8 rfl (fun hb_8 => ?_) (fun hb_8 => ?_)
      · have zp_ : p = b + 1 := by have := (nI_ltI (by omega) (by omega)).mp hb_8; omega
        refine V.iload_n C 3 rfl rfl dX10_sliceOfBit_40 ?_
        exact V.iretS C R dX10_sliceOfBit_41 ⟨by rw [hn, zp_], rfl⟩
      · have zp_ : p ≤ b := Nat.le_of_not_lt (fun q => hb_8 (nI_lt q (by omega)))
        refine V.iload_n C 3 rfl rfl dX10_sliceOfBit_11 ?_
        refine V.aload_n C 0 rfl rfl dX10_sliceOfBit_12 ?_
        refine V.getR C fX10_32 dX10_sliceOfBit_13 (by assumption) rfl ?_
        refine V.bipush C (nI 16) b_16 dX10_sliceOfBit_16 ?_
        refine V.iload_n C 1 rfl rfl dX10_sliceOfBit_18 ?_
        refine V.imul C dX10_sliceOfBit_19 ?_
        refine V.iload C rfl dX10_sliceOfBit_20 ?_
        refine V.iadd C dX10_sliceOfBit_22 ?_
        rw [nI_mul, nI_add]
        refine V.zaldN C dX10_sliceOfBit_23 (by assumption) (by omega) ?_
        rw [hK _ (by omega)]
        refine V.if_eq C 31 dX10_sliceOfBit_24 rfl (fun hb_24 => ?_) (fun hb_24 => ?_)
        · have zc_ : cutF K v p = false := bI_eq0 hb_24
          refine V.iconst C (nI 0) c_0 dX10_sliceOfBit_31 ?_
          refine V.iadd C dX10_sliceOfBit_32 ?_
          rw [nI_add]
          refine V.istore_n C 3 dX10_sliceOfBit_33 rfl (by decide) ?_
          refine V.iinc C (nI (p + 1)) dX10_sliceOfBit_34 rfl (nI_1 p) (by decide) ?_
          refine V.goto C 5 dX10_sliceOfBit_37 rfl ?_
          refine V.lvs (lv' := [(0, Rf G 123), (1, .int (nI v)), (2, .int (nI b)), (3, .int (nI (n + 0))), (4, .int (nI (p + 1)))]) rfl ?_
          exact ih (n + 0) (p + 1) (by omega) (by omega) (by rw [cntN_s, zc_, hn]; rfl)
        · have zc_ : cutF K v p = true := bI_ne0 hb_24
          refine V.iconst C (nI 1) c_1 dX10_sliceOfBit_27 ?_
          refine V.goto C 32 dX10_sliceOfBit_28 rfl ?_
          refine V.iadd C dX10_sliceOfBit_32 ?_
          rw [nI_add]
          refine V.istore_n C 3 dX10_sliceOfBit_33 rfl (by decide) ?_
          refine V.iinc C (nI (p + 1)) dX10_sliceOfBit_34 rfl (nI_1 p) (by decide) ?_
          refine V.goto C 5 dX10_sliceOfBit_37 rfl ?_
          refine V.lvs (lv' := [(0, Rf G 123), (1, .int (nI v)), (2, .int (nI b)), (3, .int (nI (n + 1))), (4, .int (nI (p + 1)))]) rfl ?_
          exact ih (n + 1) (p + 1) (by omega) (by omega) (by rw [cntN_s, zc_, hn]; rfl)
  refine V.iconst C (nI 0) c_0 dX10_sliceOfBit_0 ?_
  refine V.istore_n C 3 dX10_sliceOfBit_1 rfl (by decide) ?_
  refine V.iconst C (nI 1) c_1 dX10_sliceOfBit_2 ?_
  refine V.istore C dX10_sliceOfBit_3 (by decide) ?_
  refine V.lvs (lv' := [(0, Rf G 123), (1, .int (nI v)), (2, .int (nI b)), (3, .int (nI 0)), (4, .int (nI 1))]) rfl ?_
  exact loop 18 0 1 (by omega) (by omega) (by rw [cntN_s, f0_]; rfl)
set_option maxRecDepth 100000 in
set_option maxHeartbeats 4000000 in
theorem ct_M_startOf (G : Gl) (σ : SS) (P : Prob) (K : Nat → Bool) (v j : Nat) (hP : FP (σ.2.1 124) P) (hwf : wfP P) (hK : RKm σ K) (hsn : Snd P K) (hv : v < 8) (hj : j < 2 ^ 30) : CI G mX10_startOf [Rf G 123, .int (nI v), .int (nI j)] σ (fun r σ1 => ∃ p, r = nI p ∧ ((stP (cutF K v) j p ∧ p ≤ 16) ∨ (cntN (cutF K v) 16 < j ∧ p = P.1 v)) ∧ σ1 = σ) := by
  refine Ctr.of oX10_startOf (Nat.le_of_ble_eq_true rfl) ?_
  intro X C R hnm hz0
  have C : Cx G X cX10_startOf 5 RX10 0 0 0 0 := C
  have R : Cr G X (some .int) 0 0 _ := R
  show V G X 5 0 0 0 [(0, Rf G 123), (1, .int (nI v)), (2, .int (nI j))] [] (wld G σ)
  have kk_123 := sk_123
  have kk_124 := sk_124
  have kk_131 := sk_131
  have w16_ := hwf.1 v hv
  have f0_ := cutF_0 hsn hwf v
  let gG : Nat → Bool := fun b => decide (b < 16) && cutF K v b
  have loop : ∀ (m n p : Nat), 16 < p + m → p ≤ P.1 v → n + cntN gG (p + 1) = j → (n = 0 → stP (cutF K v) j p) → V G X 5 0 0 5 [(0, Rf G 123), (1, .int (nI v)), (2, .int (nI j)), (3, .int (nI n)), (4, .int (nI p))] [] (wld G σ) := by
    intro m
    induction m with
    | zero =>
      intro n p hm hp hn hst
      exact absurd hm (by omega)
    | succ m ih =>
      intro n p hm hp hn hst
      refine V.iload_n C 3 rfl rfl dX10_startOf_5 ?_
      refine V.if_le C 60 dX10_startOf_6 rfl (fun hb_6 => ?_) (fun hb_6 => ?_)
      · have zl_ : n = 0 := by have := (nI_leI (by omega) (by decide)).mp (show nI n ≤ nI 0 from hb_6); omega
        refine V.iload C rfl dX10_startOf_60 ?_
        exact V.iretS C R dX10_startOf_62 ⟨p, rfl, Or.inl ⟨hst zl_, by omega⟩, rfl⟩
      · have zl_ : 0 < n := Nat.pos_of_ne_zero (fun q => hb_6 (by rw [q]; decide))
        refine V.iload C rfl dX10_startOf_9 ?_
        refine V.aload_n C 0 rfl rfl dX10_startOf_11 ?_
        refine V.getR C fX10_7 dX10_startOf_12 (by assumption) rfl ?_
        refine V.iload_n C 1 rfl rfl dX10_startOf_15 ?_
        refine V.ialdN C dX10_startOf_16 (by assumption) (by omega) ?_
        rw [hP.1 v hv]
        refine V.icmp_ge C 60 dX10_startOf_17 rfl (fun hb_17 => ?_) (fun hb_17 => ?_)
        · have zp_ : P.1 v = p := by have := (nI_leI (by omega) (by omega)).mp hb_17; omega
          refine V.iload C rfl dX10_startOf_60 ?_
          exact V.iretS C R dX10_startOf_62 (by
            refine ⟨p, rfl, Or.inr ⟨?_, zp_.symm⟩, rfl⟩
            have e_ := cntN_16 hsn hwf hv (m := P.1 v) (Nat.le_refl _) w16_
            have : cntN gG (p + 1) = cntN (cutF K v) 16 := by
              rw [← e_, cntN_s, show gG p = false by
                show (decide (p < 16) && cutF K v p) = false
                by_cases q : p < 16
                · cases z : cutF K v p with
                  | false => simp
                  | true => have := cutF_in hsn hwf q z; omega
                · rw [decide_eq_false q]; rfl, zp_]
              show cntN gG p + 0 = _
              exact cntN_congr (fun i hi => by show (decide (i < 16) && cutF K v i) = _; rw [decide_eq_true (by omega), Bool.true_and])
            omega)
        · have zp_ : p < P.1 v := Nat.lt_of_not_le (fun q => hb_17 (nI_le q (by omega)))
          refine V.iinc C (nI (p + 1)) dX10_startOf_20 rfl (nI_1 p) (by decide) ?_
          refine V.iload_n C 3 rfl rfl dX10_startOf_23 ?_
          refine V.iload C rfl dX10_startOf_24 ?_
          refine V.aload_n C 0 rfl rfl dX10_startOf_26 ?_
          refine V.getR C fX10_7 dX10_startOf_27 (by assumption) rfl ?_
          refine V.iload_n C 1 rfl rfl dX10_startOf_30 ?_
          refine V.ialdN C dX10_startOf_31 (by assumption) (by omega) ?_
          rw [hP.1 v hv]
          refine V.icmp_ge C 54 dX10_startOf_32 rfl (fun hb_32 => ?_) (fun hb_32 => ?_)
          · have zq_ : P.1 v = p + 1 := by have := (nI_leI (by omega) (by omega)).mp hb_32; omega
            have zc_ : (decide (p + 1 < 16) && cutF K v (p + 1)) = false := by
              by_cases q : p + 1 < 16
              · cases z : cutF K v (p + 1) with
                | false => simp
                | true => have := cutF_in hsn hwf q z; omega
              · rw [decide_eq_false q]; rfl
            refine V.iconst C (nI 0) c_0 dX10_startOf_54 ?_
            refine V.isub C dX10_startOf_55 ?_
            rw [nI_sub (by omega)]
            refine V.istore_n C 3 dX10_startOf_56 rfl (by decide) ?_
            refine V.goto C 5 dX10_startOf_57 rfl ?_
            refine V.lvs (lv' := [(0, Rf G 123), (1, .int (nI v)), (2, .int (nI j)), (3, .int (nI (n - 0))), (4, .int (nI (p + 1)))]) rfl ?_
            exact ih (n - 0) (p + 1) (by omega) (by omega) (by rw [cntN_s, show gG (p + 1) = false from zc_]; simp; omega) (fun h => absurd h (by omega))
          · have zq_ : p + 1 < P.1 v := Nat.lt_of_not_le (fun q => hb_32 (nI_le q (by omega)))
            refine V.aload_n C 0 rfl rfl dX10_startOf_35 ?_
            refine V.getR C fX10_32 dX10_startOf_36 (by assumption) rfl ?_
            refine V.bipush C (nI 16) b_16 dX10_startOf_39 ?_
            refine V.iload_n C 1 rfl rfl dX10_startOf_41 ?_
            refine V.imul C dX10_startOf_42 ?_
            refine V.iload C rfl dX10_startOf_43 ?_
            refine V.iadd C dX10_startOf_45 ?_
            rw [nI_mul, nI_add]
            refine V.zaldN C dX10_startOf_46 (by assumption) (by omega) ?_
            rw [hK _ (by omega)]
            refine V.if_eq C 54 dX10_startOf_47 rfl (fun hb_47 => ?_) (fun hb_47 => ?_)
            · have zc_ : (decide (p + 1 < 16) && cutF K v (p + 1)) = false := by rw [show cutF K v (p + 1) = false from bI_eq0 hb_47, Bool.and_false]
              refine V.iconst C (nI 0) c_0 dX10_startOf_54 ?_
              refine V.isub C dX10_startOf_55 ?_
              rw [nI_sub (by omega)]
              refine V.istore_n C 3 dX10_startOf_56 rfl (by decide) ?_
              refine V.goto C 5 dX10_startOf_57 rfl ?_
              refine V.lvs (lv' := [(0, Rf G 123), (1, .int (nI v)), (2, .int (nI j)), (3, .int (nI (n - 0))), (4, .int (nI (p + 1)))]) rfl ?_
              exact ih (n - 0) (p + 1) (by omega) (by omega) (by rw [cntN_s, show gG (p + 1) = false from zc_]; simp; omega) (fun h => absurd h (by omega))
            · have zc_ : cutF K v (p + 1) = true := bI_ne0 hb_47
              refine V.iconst C (nI 1) c_1 dX10_startOf_50 ?_
              refine V.goto C 55 dX10_startOf_51 rfl ?_
              refine V.isub C dX10_startOf_55 ?_
              rw [nI_sub (by omega)]
              refine V.istore_n C 3 dX10_startOf_56 rfl (by decide) ?_
              refine V.goto C 5 dX10_startOf_57 rfl ?_
              refine V.lvs (lv' := [(0, Rf G 123), (1, .int (nI v)), (2, .int (nI j)), (3, .int (nI (n - 1))), (4, .int (nI (p + 1)))]) rfl ?_
              have gp_ : gG (p + 1) = true := by show (decide (p + 1 < 16) && cutF K v (p + 1)) = true; rw [zc_, decide_eq_true (by omega)]; rfl
              refine ih (n - 1) (p + 1) (by omega) (by omega) (by rw [cntN_s, gp_]; simp; omega) (fun h => Or.inr ⟨by omega, zc_, ?_⟩)
              have : cntN gG (p + 1) = cntN (cutF K v) (p + 1) := cntN_congr (fun i hi => by show (decide (i < 16) && cutF K v i) = _; rw [decide_eq_true (by omega), Bool.true_and])
              omega
  refine V.iload_n C 2 rfl rfl dX10_startOf_0 ?_
  refine V.istore_n C 3 dX10_startOf_1 rfl (by decide) ?_
  refine V.iconst C (nI 0) c_0 dX10_startOf_2 ?_
  refine V.istore C dX10_startOf_3 (by decide) ?_
  refine V.lvs (lv' := [(0, Rf G 123), (1, .int (nI v)), (2, .int (nI j)), (3, .int (nI j)), (4, .int (nI 0))]) rfl ?_
  exact loop 17 j 0 (by omega) (by omega) (by rw [cntN_s, show gG 0 = false from (by show (decide (0 < 16) && cutF K v 0) = false; rw [f0_]; rfl)]; rfl) (fun h => Or.inl ⟨h, rfl⟩)
