/-! The model's isFine, take, isSign, number, isName, addBit. -/
/-- reading goes on, at the token a -/
def Ok (σ : SS) (n : Nat) (ch : Nat → Nat) (a : Nat) : Prop := MT σ n ch ∧ MK σ n ch a ∧ σ.1 123 13 = -9
/-- an error was found at e -/
def Er (σ : SS) (e : Nat) : Prop := σ.1 123 13 = nI e ∧ e < 2 ^ 30
theorem Er.ne {σ : SS} {e : Nat} (h : Er σ e) : ¬ σ.1 123 13 = -9 := by rw [h.1]; exact nI_ne_m9 h.2
theorem Er.fm {fs as : List Nat} {σ σ1 : SS} {e : Nat} (h : Er σ e) (hF : FM fs as σ σ1) (h1 : 13 ∉ fs) : Er σ1 e := by unfold Er; rw [hF.f h1]; exact h
theorem MK.fm {fs as : List Nat} {σ σ1 : SS} {n : Nat} {ch : Nat → Nat} {a : Nat} (h : MK σ n ch a) (hF : FM fs as σ σ1) (h1 : 9 ∉ fs) (h2 : 10 ∉ fs) (h3 : 11 ∉ fs) (h4 : 12 ∉ fs) : MK σ1 n ch a := by
  unfold MK; rw [hF.f h1, hF.f h2, hF.f h3, hF.f h4]; exact h
theorem Ok.fm {fs as : List Nat} {σ σ1 : SS} {n : Nat} {ch : Nat → Nat} {a : Nat} (h : Ok σ n ch a) (hF : FM fs as σ σ1) (h1 : ∀ x ∈ [8, 9, 10, 11, 12, 13], x ∉ fs) (h2 : 129 ∉ as) : Ok σ1 n ch a :=
  ⟨h.1.fm hF (h1 _ (by decide)) h2, h.2.1.fm hF (h1 _ (by decide)) (h1 _ (by decide)) (h1 _ (by decide)) (h1 _ (by decide)), by rw [hF.f (h1 _ (by decide))]; exact h.2.2⟩
theorem Ok.ch {σ : SS} {n : Nat} {ch : Nat → Nat} {a : Nat} (h : Ok σ n ch a) : ∀ i, i < n → ch i < 256 := fun i hi => (h.1.2.2 i hi).2
theorem kdT_sg {ch : Nat → Nat} {n a : Nat} (hc : ∀ i, i < n → ch i < 256) (h : kKT ch n a < 256) : a < n ∧ isLo (ch a) = false ∧ isDg (ch a) = false := by
  have ha : a < n := kKT_lt (ch := ch) (by omega)
  unfold kKT kdT at h
  rw [if_pos ha] at h
  cases hl : isLo (ch a) with
  | true => rw [hl, if_pos rfl] at h; have := (kwT_lt ch a (tEnd ch n a - a)).2.1; omega
  | false =>
    cases hd : isDg (ch a) with
    | true => rw [hl, if_neg (by decide), ksC_dg hd] at h; omega
    | false => exact ⟨ha, rfl, rfl⟩
theorem tok_cases {ch : Nat → Nat} {n : Nat} (hc : ∀ i, i < n → ch i < 256) (a : Nat) : kKT ch n a = 256 ∨ kKT ch n a = 257 ∨ kKT ch n a = 258 ∨ kKT ch n a = 259 ∨ kKT ch n a = 260 ∨ kKT ch n a = 261 ∨ (kKT ch n a = ch a ∧ ch a < 256) := by
  have h := kKT_le hc a
  rcases Nat.lt_or_ge (kKT ch n a) 256 with q | q
  · obtain ⟨h1, h2, h3⟩ := kdT_sg hc q
    have := (sig_tok hc h1 h2 h3).1
    exact Or.inr (Or.inr (Or.inr (Or.inr (Or.inr (Or.inr ⟨this, hc a h1⟩)))))
  · omega
theorem sign_iff {ch : Nat → Nat} {n a c : Nat} (hc : ∀ i, i < n → ch i < 256) (hs : isSg c = true) : decide (tokM ch n a = 3 ∧ valM ch n a = nI c) = decide (kKT ch n a = c) := by
  have c256 : c < 256 := by unfold isSg at hs; have := of_decide_eq_true hs; omega
  rcases tok_cases hc a with q | q | q | q | q | q | ⟨q, qb⟩
  case inr.inr.inr.inr.inr.inr =>
    obtain ⟨h1, h2, h3⟩ := kdT_sg (a := a) hc (by omega)
    obtain ⟨_, sv, st⟩ := sig_tok hc h1 h2 h3
    rw [sv, st, q]
    by_cases e : ch a = c
    · rw [e, hs]; simp
    · rw [decide_eq_false e]
      exact decide_eq_false (fun z => e (nI_pe (by omega) (by omega) z.2))
  all_goals
    rw [decide_eq_false (show ¬ kKT ch n a = c by omega)]
    refine decide_eq_false (fun z => ?_)
    have z1 := z.1
    unfold tokM at z1
    rw [q] at z1
    revert z1
    generalize isSg (ch a) = bb
    revert bb; decide
theorem name_iff {ch : Nat → Nat} {n a : Nat} (hc : ∀ i, i < n → ch i < 256) : decide (tokM ch n a = 1 ∧ valM ch n a < 8) = decide (kKT ch n a = 258) := by
  rcases tok_cases hc a with q | q | q | q | q | q | ⟨q, qb⟩
  case inr.inr.inl =>
    rw [decide_eq_true q]
    have nl := name_lt hc q
    refine decide_eq_true ⟨by unfold tokM; rw [q]; rfl, ?_⟩
    unfold valM; rw [q]
    exact nI_lt (show ch a - 97 < 8 by omega) (by decide)
  case inr.inr.inr.inr.inr.inr =>
    rw [decide_eq_false (show ¬ kKT ch n a = 258 by omega)]
    obtain ⟨h1, h2, h3⟩ := kdT_sg (a := a) hc (by omega)
    obtain ⟨_, sv, st⟩ := sig_tok hc h1 h2 h3
    refine decide_eq_false (fun z => ?_)
    rw [st] at z
    have z1 := z.1
    split at z1 <;> exact absurd z1 (by decide)
  case inr.inr.inr.inl =>
    rw [decide_eq_false (show ¬ kKT ch n a = 258 by omega)]
    refine decide_eq_false (fun z => ?_)
    have z2 := z.2
    rw [show valM ch n a = 8 by unfold valM; rw [q]; rfl] at z2
    exact absurd z2 (by decide)
  case inr.inr.inr.inr.inl =>
    rw [decide_eq_false (show ¬ kKT ch n a = 258 by omega)]
    refine decide_eq_false (fun z => ?_)
    have z2 := z.2
    rw [show valM ch n a = 9 by unfold valM; rw [q]; rfl] at z2
    exact absurd z2 (by decide)
  all_goals
    rw [decide_eq_false (show ¬ kKT ch n a = 258 by omega)]
    refine decide_eq_false (fun z => ?_)
    have z1 := z.1
    unfold tokM at z1
    rw [q] at z1
    revert z1
    generalize isSg (ch a) = bb
    revert bb; decide
set_option maxRecDepth 100000 in
set_option maxHeartbeats 4000000 in
theorem ct_M_fine (G : Gl) (σ : SS) : CI G mX10_isFine [Rf G 123] σ (fun r σ1 => r = bI (decide (σ.1 123 13 = -9)) ∧ σ1 = σ) := by
  refine Ctr.of oX10_isFine (Nat.le_of_ble_eq_true rfl) ?_
  intro X C R hnm hz0
  have C : Cx G X cX10_isFine 1 RX10 0 0 0 0 := C
  have R : Cr G X (some .boolean) 0 0 _ := R
  show V G X 1 0 0 0 [(0, Rf G 123)] [] (wld G σ)
  have kk_123 := sk_123
  have kk_124 := sk_124
  have kk_125 := sk_125
  have kk_129 := sk_129
  have kk_130 := sk_130
  refine V.aload_n C 0 rfl rfl dX10_isFine_0 ?_
  refine V.getI C fX10_82 dX10_isFine_1 (by assumption) rfl ?_
  refine V.bipush C ((-9)) b_m9 dX10_isFine_4 ?_
  refine V.icmp_ne C 13 dX10_isFine_6 rfl (fun hb_6 => ?_) (fun hb_6 => ?_)
  · refine V.iconst C (nI 0) c_0 dX10_isFine_13 ?_
    exact V.zretS C R dX10_isFine_14 (by first | exact Or.inl rfl | exact Or.inr rfl | exact bI01 _) ⟨by rw [decide_eq_false hb_6]; rfl, rfl⟩
  · refine V.iconst C (nI 1) c_1 dX10_isFine_9 ?_
    refine V.goto C 14 dX10_isFine_10 rfl ?_
    exact V.zretS C R dX10_isFine_14 (by first | exact Or.inl rfl | exact Or.inr rfl | exact bI01 _) ⟨by rw [decide_eq_true hb_6]; rfl, rfl⟩
set_option maxRecDepth 100000 in
set_option maxHeartbeats 4000000 in
theorem ct_M_sign (G : Gl) (σ : SS) (c : Int32) : CI G mX10_isSign [Rf G 123, .int c] σ (fun r σ1 => r = bI (decide (σ.1 123 11 = 3 ∧ σ.1 123 12 = c)) ∧ σ1 = σ) := by
  refine Ctr.of oX10_isSign (Nat.le_of_ble_eq_true rfl) ?_
  intro X C R hnm hz0
  have C : Cx G X cX10_isSign 2 RX10 0 0 0 0 := C
  have R : Cr G X (some .boolean) 0 0 _ := R
  show V G X 2 0 0 0 [(0, Rf G 123), (1, .int c)] [] (wld G σ)
  have kk_123 := sk_123
  have kk_124 := sk_124
  have kk_125 := sk_125
  have kk_129 := sk_129
  have kk_130 := sk_130
  refine V.aload_n C 0 rfl rfl dX10_isSign_0 ?_
  refine V.getI C fX10_71 dX10_isSign_1 (by assumption) rfl ?_
  refine V.iconst C (nI 3) c_3 dX10_isSign_4 ?_
  refine V.icmp_ne C 20 dX10_isSign_5 rfl (fun hb_5 => ?_) (fun hb_5 => ?_)
  · refine V.iconst C (nI 0) c_0 dX10_isSign_20 ?_
    exact V.zretS C R dX10_isSign_21 (by first | exact Or.inl rfl | exact Or.inr rfl | exact bI01 _) ⟨by rw [decide_eq_false (fun q => hb_5 q.1)]; rfl, rfl⟩
  · refine V.aload_n C 0 rfl rfl dX10_isSign_8 ?_
    refine V.getI C fX10_68 dX10_isSign_9 (by assumption) rfl ?_
    refine V.iload_n C 1 rfl rfl dX10_isSign_12 ?_
    refine V.icmp_ne C 20 dX10_isSign_13 rfl (fun hb_13 => ?_) (fun hb_13 => ?_)
    · refine V.iconst C (nI 0) c_0 dX10_isSign_20 ?_
      exact V.zretS C R dX10_isSign_21 (by first | exact Or.inl rfl | exact Or.inr rfl | exact bI01 _) ⟨by rw [decide_eq_false (fun q => hb_13 q.2)]; rfl, rfl⟩
    · refine V.iconst C (nI 1) c_1 dX10_isSign_16 ?_
      refine V.goto C 21 dX10_isSign_17 rfl ?_
      exact V.zretS C R dX10_isSign_21 (by first | exact Or.inl rfl | exact Or.inr rfl | exact bI01 _) ⟨by rw [decide_eq_true ⟨hb_5, hb_13⟩]; rfl, rfl⟩
set_option maxRecDepth 100000 in
set_option maxHeartbeats 4000000 in
theorem ct_M_name (G : Gl) (σ : SS) : CI G mX10_isName [Rf G 123] σ (fun r σ1 => r = bI (decide (σ.1 123 11 = 1 ∧ σ.1 123 12 < 8)) ∧ σ1 = σ) := by
  refine Ctr.of oX10_isName (Nat.le_of_ble_eq_true rfl) ?_
  intro X C R hnm hz0
  have C : Cx G X cX10_isName 1 RX10 0 0 0 0 := C
  have R : Cr G X (some .boolean) 0 0 _ := R
  show V G X 1 0 0 0 [(0, Rf G 123)] [] (wld G σ)
  have kk_123 := sk_123
  have kk_124 := sk_124
  have kk_125 := sk_125
  have kk_129 := sk_129
  have kk_130 := sk_130
  refine V.aload_n C 0 rfl rfl dX10_isName_0 ?_
  refine V.getI C fX10_71 dX10_isName_1 (by assumption) rfl ?_
  refine V.iconst C (nI 1) c_1 dX10_isName_4 ?_
  refine V.icmp_ne C 21 dX10_isName_5 rfl (fun hb_5 => ?_) (fun hb_5 => ?_)
  · refine V.iconst C (nI 0) c_0 dX10_isName_21 ?_
    exact V.zretS C R dX10_isName_22 (by first | exact Or.inl rfl | exact Or.inr rfl | exact bI01 _) ⟨by rw [decide_eq_false (fun q => hb_5 q.1)]; rfl, rfl⟩
  · refine V.aload_n C 0 rfl rfl dX10_isName_8 ?_
    refine V.getI C fX10_68 dX10_isName_9 (by assumption) rfl ?_
    refine V.bipush C (nI 8) b_8 dX10_isName_12 ?_
    refine V.icmp_ge C 21 dX10_isName_14 rfl (fun hb_14 => ?_) (fun hb_14 => ?_)
    · refine V.iconst C (nI 0) c_0 dX10_isName_21 ?_
      exact V.zretS C R dX10_isName_22 (by first | exact Or.inl rfl | exact Or.inr rfl | exact bI01 _) ⟨by rw [decide_eq_false (fun q => absurd q.2 (Int32.not_lt.mpr hb_14))]; rfl, rfl⟩
    · refine V.iconst C (nI 1) c_1 dX10_isName_17 ?_
      refine V.goto C 22 dX10_isName_18 rfl ?_
      exact V.zretS C R dX10_isName_22 (by first | exact Or.inl rfl | exact Or.inr rfl | exact bI01 _) ⟨by rw [decide_eq_true ⟨hb_5, Int32.not_le.mp hb_14⟩]; rfl, rfl⟩
set_option maxRecDepth 100000 in
set_option maxHeartbeats 4000000 in
theorem ct_M_take (G : Gl) (σ : SS) (n : Nat) (ch : Nat → Nat) (a : Nat) (b : Bool) (hO : Ok σ n ch a) (hb : b = true → a < n) : CI G mX10_take [Rf G 123, .int (bI b)] σ (fun r σ1 => r = valM ch n a ∧ (b = true → Ok σ1 n ch (nxT ch n a)) ∧ (b = false → Er σ1 a) ∧ FM [9, 10, 11, 12, 13] [] σ σ1) := by
  refine Ctr.of oX10_take (Nat.le_of_ble_eq_true rfl) ?_
  intro X C R hnm hz0
  have C : Cx G X cX10_take 3 RX10 3 66 0 0 := C
  have R : Cr G X (some .int) 0 0 _ := R
  show V G X 3 0 0 0 [(0, Rf G 123), (1, .int (bI b))] [] (wld G σ)
  have kk_123 := sk_123
  have kk_124 := sk_124
  have kk_125 := sk_125
  have kk_129 := sk_129
  have kk_130 := sk_130
  refine V.aload_n C 0 rfl rfl dX10_take_0 ?_
  refine V.getI C fX10_68 dX10_take_1 (by assumption) rfl ?_
  refine V.istore_n C 2 dX10_take_4 rfl (by decide) ?_
  refine V.aload_n C 0 rfl rfl dX10_take_5 ?_
  refine V.cVi C lX10_85 oX10_isFine dX10_take_6 (ct_M_fine G σ) (by assumption) rfl rfl (Nat.le_of_ble_eq_true rfl) ⟨Nat.le_of_ble_eq_true rfl, Nat.le_of_ble_eq_true rfl⟩ ⟨Nat.le_of_ble_eq_true rfl, Nat.le_of_ble_eq_true rfl⟩ (fun rr_6 σ6 pp_6 => ?_)
  obtain ⟨ee_6, ff_6⟩ := pp_6
  rw [ee_6, ff_6]
  refine V.if_eq C 31 dX10_take_9 rfl (fun hb_9 => ?_) (fun hb_9 => ?_)
  · exact absurd (bI_eq0 hb_9) (by rw [decide_eq_true hO.2.2]; decide)
  · refine V.iload_n C 1 rfl rfl dX10_take_12 ?_
    refine V.if_eq C 23 dX10_take_13 rfl (fun hb_13 => ?_) (fun hb_13 => ?_)
    · have z_ : b = false := bI_eq0 hb_13
      refine V.aload_n C 0 rfl rfl dX10_take_23 ?_
      refine V.aload_n C 0 rfl rfl dX10_take_24 ?_
      refine V.getI C fX10_57 dX10_take_25 (by assumption) rfl ?_
      rw [hO.2.1.2.2.1]
      refine V.putI C fX10_82 dX10_take_28 (by assumption) rfl ?_
      refine V.iload_n C 2 rfl rfl dX10_take_31 ?_
      exact V.iretS C R dX10_take_32 ⟨hO.2.1.2.2.2.2, fun q => absurd (z_.symm.trans q) (by decide), fun _ => ⟨sF_F _ _ _ _, by have := hO.2.1.1; have := hO.1.2.1; omega⟩, (FM.refl _ _ _).sF _ (by decide)⟩
    · have z_ : b = true := bI_ne0 hb_13
      have lt_ := hb z_
      have ee_ : endM ch n a = tEnd ch n a := by unfold endM; rw [if_pos lt_]
      have hend_ : endM ch n a ≤ n := by rw [ee_]; exact (tEnd_gt lt_).2
      refine V.aload_n C 0 rfl rfl dX10_take_16 ?_
      refine V.cVv C lX10_89 oX10_advance dX10_take_17 (ct_M_adv G σ n ch (endM ch n a) hO.1 hO.2.1.2.1 hend_) (by assumption) rfl rfl (Nat.le_of_ble_eq_true rfl) ⟨Nat.le_of_ble_eq_true rfl, Nat.le_of_ble_eq_true rfl⟩ ⟨Nat.le_of_ble_eq_true rfl, Nat.le_of_ble_eq_true rfl⟩ (fun σ17 pp_17 => ?_)
      refine V.goto C 31 dX10_take_20 rfl ?_
      refine V.iload_n C 2 rfl rfl dX10_take_31 ?_
      exact V.iretS C R dX10_take_32 (by
        refine ⟨hO.2.1.2.2.2.2, fun _ => ⟨hO.1.fm pp_17.2 (by decide) (by decide), ?_, by rw [pp_17.2.f (by decide)]; exact hO.2.2⟩, fun q => absurd (z_.symm.trans q) (by decide), pp_17.2.mono (by decide) (by decide)⟩
        have := pp_17.1
        rw [ee_] at this
        exact this)
set_option maxRecDepth 100000 in
set_option maxHeartbeats 4000000 in
theorem ct_M_takeE (G : Gl) (σ : SS) (b : Int32) (hE : ¬ σ.1 123 13 = -9) : CI G mX10_take [Rf G 123, .int b] σ (fun r σ1 => σ1 = σ) := by
  refine Ctr.of oX10_take (Nat.le_of_ble_eq_true rfl) ?_
  intro X C R hnm hz0
  have C : Cx G X cX10_take 3 RX10 3 66 0 0 := C
  have R : Cr G X (some .int) 0 0 _ := R
  show V G X 3 0 0 0 [(0, Rf G 123), (1, .int b)] [] (wld G σ)
  have kk_123 := sk_123
  have kk_124 := sk_124
  have kk_125 := sk_125
  have kk_129 := sk_129
  have kk_130 := sk_130
  refine V.aload_n C 0 rfl rfl dX10_take_0 ?_
  refine V.getI C fX10_68 dX10_take_1 (by assumption) rfl ?_
  refine V.istore_n C 2 dX10_take_4 rfl (by decide) ?_
  refine V.aload_n C 0 rfl rfl dX10_take_5 ?_
  refine V.cVi C lX10_85 oX10_isFine dX10_take_6 (ct_M_fine G σ) (by assumption) rfl rfl (Nat.le_of_ble_eq_true rfl) ⟨Nat.le_of_ble_eq_true rfl, Nat.le_of_ble_eq_true rfl⟩ ⟨Nat.le_of_ble_eq_true rfl, Nat.le_of_ble_eq_true rfl⟩ (fun rr_6 σ6 pp_6 => ?_)
  obtain ⟨ee_6, ff_6⟩ := pp_6
  rw [ee_6, ff_6]
  refine V.if_eq C 31 dX10_take_9 rfl (fun hb_9 => ?_) (fun hb_9 => ?_)
  · refine V.iload_n C 2 rfl rfl dX10_take_31 ?_
    exact V.iretS C R dX10_take_32 rfl
  · exact absurd (bI_ne0 hb_9) (by rw [decide_eq_false hE]; decide)
/-- the number at a, if it lies from lo to hi -/
def numB (ch : Nat → Nat) (n a lo hi : Nat) : Bool := match numT ch n a with
  | none => false
  | some x => decide (lo ≤ x ∧ x ≤ hi)
theorem num_iff {ch : Nat → Nat} {n a lo hi : Nat} (hc : ∀ i, i < n → ch i < 256) (h1 : lo < 2 ^ 30) (h2 : hi < 2 ^ 30) (ht : tokM ch n a = 2) : decide (nI lo ≤ valM ch n a ∧ valM ch n a ≤ nI hi) = numB ch n a lo hi := by
  have hk : kKT ch n a = 257 := by
    rcases tok_cases hc a with q | q | q | q | q | q | ⟨q, qb⟩
    case inr.inl => exact q
    case inr.inr.inr.inr.inr.inr =>
      obtain ⟨z1, z2, z3⟩ := kdT_sg (a := a) hc (by omega)
      rw [(sig_tok hc z1 z2 z3).2.2] at ht
      split at ht <;> exact absurd ht (by decide)
    all_goals
      unfold tokM at ht
      rw [q] at ht
      revert ht
      generalize isSg (ch a) = bb
      intro ht
      exfalso
      revert bb; decide
  have hv : valM ch n a = oN (numT ch n a) := by unfold valM; rw [hk]; rfl
  rw [hv]
  unfold numB
  cases hq : numT ch n a with
  | none =>
    refine decide_eq_false (fun z => ?_)
    have h3 := (le_iff _ _).mp z.1
    rw [nI_toInt (by omega), show (oN none).toInt = -9 by decide] at h3; omega
  | some x =>
    have := numT_100 hc hq
    show decide (nI lo ≤ nI x ∧ nI x ≤ nI hi) = decide (lo ≤ x ∧ x ≤ hi)
    congr 1
    rw [nI_leI (by omega) (by omega), nI_leI (by omega) (by omega)]
theorem num_no {ch : Nat → Nat} {n a lo hi : Nat} (hc : ∀ i, i < n → ch i < 256) (ht : ¬ tokM ch n a = 2) : numB ch n a lo hi = false := by
  have hk : ¬ kKT ch n a = 257 := fun q => ht (by unfold tokM; rw [q]; rfl)
  unfold numB numT
  rw [if_neg hk]
theorem numB_t {ch : Nat → Nat} {n a lo hi : Nat} (h : numB ch n a lo hi = true) : ∃ x, numT ch n a = some x ∧ lo ≤ x ∧ x ≤ hi ∧ a < n ∧ valM ch n a = nI x := by
  unfold numB at h
  cases hq : numT ch n a with
  | none => rw [hq] at h; exact Bool.noConfusion h
  | some x =>
    rw [hq] at h
    have h1 := of_decide_eq_true h
    have h2 := numT_lt hq
    exact ⟨x, rfl, h1.1, h1.2, h2.2, by unfold valM; rw [h2.1, hq]; rfl⟩
set_option maxRecDepth 100000 in
set_option maxHeartbeats 4000000 in
theorem ct_M_number (G : Gl) (σ : SS) (n : Nat) (ch : Nat → Nat) (a lo hi : Nat) (hO : Ok σ n ch a) (hlo : lo < 2 ^ 30) (hhi : hi < 2 ^ 30) : CI G mX10_number [Rf G 123, .int (nI lo), .int (nI hi)] σ (fun r σ1 => r = valM ch n a ∧ (numB ch n a lo hi = true → Ok σ1 n ch (nxT ch n a)) ∧ (numB ch n a lo hi = false → Er σ1 a) ∧ FM [9, 10, 11, 12, 13] [] σ σ1) := by
  refine Ctr.of oX10_number (Nat.le_of_ble_eq_true rfl) ?_
  intro X C R hnm hz0
  have C : Cx G X cX10_number 3 RX10 4 88 0 0 := C
  have R : Cr G X (some .int) 0 0 _ := R
  show V G X 3 0 0 0 [(0, Rf G 123), (1, .int (nI lo)), (2, .int (nI hi))] [] (wld G σ)
  have kk_123 := sk_123
  have kk_124 := sk_124
  have kk_125 := sk_125
  have kk_129 := sk_129
  have kk_130 := sk_130
  refine V.aload_n C 0 rfl rfl dX10_number_0 ?_
  refine V.aload_n C 0 rfl rfl dX10_number_1 ?_
  refine V.getI C fX10_71 dX10_number_2 (by assumption) rfl ?_
  rw [hO.2.1.2.2.2.1]
  refine V.iconst C (nI 2) c_2 dX10_number_5 ?_
  refine V.icmp_ne C 25 dX10_number_6 rfl (fun hb_6 => ?_) (fun hb_6 => ?_)
  · have z_ : numB ch n a lo hi = false := num_no hO.ch hb_6
    refine V.iconst C (nI 0) c_0 dX10_number_25 ?_
    show V G X 3 0 0 26 _ [.int (bI false), Rf G 123] (wld G σ)
    refine V.cVi C lX10_92 oX10_take dX10_number_26 (ct_M_take G σ n ch a false hO (fun q => absurd q (by decide))) (by assumption) rfl rfl (Nat.le_of_ble_eq_true rfl) ⟨Nat.le_of_ble_eq_true rfl, Nat.le_of_ble_eq_true rfl⟩ ⟨Nat.le_of_ble_eq_true rfl, Nat.le_of_ble_eq_true rfl⟩ (fun rr_26 σ26 pp_26 => ?_)
    exact V.iretS C R dX10_number_29 ⟨pp_26.1, fun q => pp_26.2.1 (by first | rfl | exact absurd (z_.symm.trans q) (by decide)), fun q => pp_26.2.2.1 (by first | rfl | exact absurd (z_.symm.trans q) (by decide)), pp_26.2.2.2⟩
  · refine V.aload_n C 0 rfl rfl dX10_number_9 ?_
    refine V.getI C fX10_68 dX10_number_10 (by assumption) rfl ?_
    rw [hO.2.1.2.2.2.2]
    refine V.iload_n C 1 rfl rfl dX10_number_13 ?_
    refine V.iload_n C 2 rfl rfl dX10_number_14 ?_
    refine V.cSi C lX10_60 oX10_in dX10_number_15 (ct_M_in G σ (valM ch n a) (nI lo) (nI hi)) rfl rfl (Nat.le_of_ble_eq_true rfl) ⟨Nat.le_of_ble_eq_true rfl, Nat.le_of_ble_eq_true rfl⟩ ⟨Nat.le_of_ble_eq_true rfl, Nat.le_of_ble_eq_true rfl⟩ (fun rr_15 σ15 pp_15 => ?_)
    obtain ⟨ee_15, ff_15⟩ := pp_15
    rw [ee_15, ff_15, num_iff hO.ch hlo hhi hb_6]
    refine V.if_eq C 25 dX10_number_18 rfl (fun hb_18 => ?_) (fun hb_18 => ?_)
    · have z_ := bI_eq0 hb_18
      refine V.iconst C (nI 0) c_0 dX10_number_25 ?_
      show V G X 3 0 0 26 _ [.int (bI false), Rf G 123] (wld G σ)
      refine V.cVi C lX10_92 oX10_take dX10_number_26 (ct_M_take G σ n ch a false hO (fun q => absurd q (by decide))) (by assumption) rfl rfl (Nat.le_of_ble_eq_true rfl) ⟨Nat.le_of_ble_eq_true rfl, Nat.le_of_ble_eq_true rfl⟩ ⟨Nat.le_of_ble_eq_true rfl, Nat.le_of_ble_eq_true rfl⟩ (fun rr_26 σ26 pp_26 => ?_)
      exact V.iretS C R dX10_number_29 ⟨pp_26.1, fun q => pp_26.2.1 (by first | rfl | exact absurd (z_.symm.trans q) (by decide)), fun q => pp_26.2.2.1 (by first | rfl | exact absurd (z_.symm.trans q) (by decide)), pp_26.2.2.2⟩
    · have z_ := bI_ne0 hb_18
      refine V.iconst C (nI 1) c_1 dX10_number_21 ?_
      refine V.goto C 26 dX10_number_22 rfl ?_
      show V G X 3 0 0 26 _ [.int (bI true), Rf G 123] (wld G σ)
      refine V.cVi C lX10_92 oX10_take dX10_number_26 (ct_M_take G σ n ch a true hO (fun q => (numB_t z_).choose_spec.2.2.2.1)) (by assumption) rfl rfl (Nat.le_of_ble_eq_true rfl) ⟨Nat.le_of_ble_eq_true rfl, Nat.le_of_ble_eq_true rfl⟩ ⟨Nat.le_of_ble_eq_true rfl, Nat.le_of_ble_eq_true rfl⟩ (fun rr_26 σ26 pp_26 => ?_)
      exact V.iretS C R dX10_number_29 ⟨pp_26.1, fun q => pp_26.2.1 (by first | rfl | exact absurd (z_.symm.trans q) (by decide)), fun q => pp_26.2.2.1 (by first | rfl | exact absurd (z_.symm.trans q) (by decide)), pp_26.2.2.2⟩
set_option maxRecDepth 100000 in
set_option maxHeartbeats 4000000 in
theorem ct_M_numberE (G : Gl) (σ : SS) (lo hi : Int32) (hE : ¬ σ.1 123 13 = -9) : CI G mX10_number [Rf G 123, .int lo, .int hi] σ (fun r σ1 => σ1 = σ) := by
  refine Ctr.of oX10_number (Nat.le_of_ble_eq_true rfl) ?_
  intro X C R hnm hz0
  have C : Cx G X cX10_number 3 RX10 4 88 0 0 := C
  have R : Cr G X (some .int) 0 0 _ := R
  show V G X 3 0 0 0 [(0, Rf G 123), (1, .int lo), (2, .int hi)] [] (wld G σ)
  have kk_123 := sk_123
  have kk_124 := sk_124
  have kk_125 := sk_125
  have kk_129 := sk_129
  have kk_130 := sk_130
  refine V.aload_n C 0 rfl rfl dX10_number_0 ?_
  refine V.aload_n C 0 rfl rfl dX10_number_1 ?_
  refine V.getI C fX10_71 dX10_number_2 (by assumption) rfl ?_
  refine V.iconst C (nI 2) c_2 dX10_number_5 ?_
  refine V.icmp_ne C 25 dX10_number_6 rfl (fun hb_6 => ?_) (fun hb_6 => ?_)
  · refine V.iconst C (nI 0) c_0 dX10_number_25 ?_
    refine V.cVi C lX10_92 oX10_take dX10_number_26 (ct_M_takeE G σ _ hE) (by assumption) rfl rfl (Nat.le_of_ble_eq_true rfl) ⟨Nat.le_of_ble_eq_true rfl, Nat.le_of_ble_eq_true rfl⟩ ⟨Nat.le_of_ble_eq_true rfl, Nat.le_of_ble_eq_true rfl⟩ (fun rr_26 σ26 pp_26 => ?_)
    exact V.iretS C R dX10_number_29 pp_26
  · refine V.aload_n C 0 rfl rfl dX10_number_9 ?_
    refine V.getI C fX10_68 dX10_number_10 (by assumption) rfl ?_
    refine V.iload_n C 1 rfl rfl dX10_number_13 ?_
    refine V.iload_n C 2 rfl rfl dX10_number_14 ?_
    refine V.cSi C lX10_60 oX10_in dX10_number_15 (ct_M_in G σ (σ.1 123 12) lo hi) rfl rfl (Nat.le_of_ble_eq_true rfl) ⟨Nat.le_of_ble_eq_true rfl, Nat.le_of_ble_eq_true rfl⟩ ⟨Nat.le_of_ble_eq_true rfl, Nat.le_of_ble_eq_true rfl⟩ (fun rr_15 σ15 pp_15 => ?_)
    obtain ⟨ee_15, ff_15⟩ := pp_15
    rw [ee_15, ff_15]
    refine V.if_eq C 25 dX10_number_18 rfl (fun hb_18 => ?_) (fun hb_18 => ?_)
    · refine V.iconst C (nI 0) c_0 dX10_number_25 ?_
      refine V.cVi C lX10_92 oX10_take dX10_number_26 (ct_M_takeE G σ _ hE) (by assumption) rfl rfl (Nat.le_of_ble_eq_true rfl) ⟨Nat.le_of_ble_eq_true rfl, Nat.le_of_ble_eq_true rfl⟩ ⟨Nat.le_of_ble_eq_true rfl, Nat.le_of_ble_eq_true rfl⟩ (fun rr_26 σ26 pp_26 => ?_)
      exact V.iretS C R dX10_number_29 pp_26
    · refine V.iconst C (nI 1) c_1 dX10_number_21 ?_
      refine V.goto C 26 dX10_number_22 rfl ?_
      refine V.cVi C lX10_92 oX10_take dX10_number_26 (ct_M_takeE G σ _ hE) (by assumption) rfl rfl (Nat.le_of_ble_eq_true rfl) ⟨Nat.le_of_ble_eq_true rfl, Nat.le_of_ble_eq_true rfl⟩ ⟨Nat.le_of_ble_eq_true rfl, Nat.le_of_ble_eq_true rfl⟩ (fun rr_26 σ26 pp_26 => ?_)
      exact V.iretS C R dX10_number_29 pp_26
/-- the bits of the term that the model reads -/
def RMb (σ : SS) (bs : List Nat) : Prop := σ.1 123 15 = nI bs.length ∧ bs.length < 2 ^ 29 ∧ ∀ i, i < bs.length → i < 16 → σ.2.1 130 i = nI (bs.getD i 0)
theorem RMb.fm {fs as : List Nat} {σ σ1 : SS} {bs : List Nat} (h : RMb σ bs) (hF : FM fs as σ σ1) (h1 : 15 ∉ fs) (h2 : 130 ∉ as) : RMb σ1 bs := by
  unfold RMb; rw [hF.f h1, hF.a h2]; exact h
set_option maxRecDepth 100000 in
set_option maxHeartbeats 4000000 in
theorem ct_M_addBit (G : Gl) (σ : SS) (bs : List Nat) (b pt : Nat) (hR : RMb σ bs) (hl : bs.length < 2 ^ 28) (hp : σ.1 123 16 = nI pt) : CV G mX10_addBit [Rf G 123, .int (nI b)] σ (fun σ1 => RMb σ1 (bs ++ [b + 256 * pt]) ∧ FM [15] [130] σ σ1) := by
  refine Ctr.of oX10_addBit (Nat.le_of_ble_eq_true rfl) ?_
  intro X C R hnm hz0
  have C : Cx G X cX10_addBit 2 RX10 0 0 0 0 := C
  have R : Cr G X none 0 0 _ := R
  show V G X 2 0 0 0 [(0, Rf G 123), (1, .int (nI b))] [] (wld G σ)
  have kk_123 := sk_123
  have kk_124 := sk_124
  have kk_125 := sk_125
  have kk_129 := sk_129
  have kk_130 := sk_130
  refine V.aload_n C 0 rfl rfl dX10_addBit_0 ?_
  refine V.getI C fX10_96 dX10_addBit_1 (by assumption) rfl ?_
  rw [hR.1]
  refine V.bipush C (nI 16) b_16 dX10_addBit_4 ?_
  refine V.icmp_ge C 28 dX10_addBit_6 rfl (fun hb_6 => ?_) (fun hb_6 => ?_)
  · have z_ := (nI_leI (by decide) (by omega)).mp hb_6
    refine V.aload_n C 0 rfl rfl dX10_addBit_28 ?_
    refine V.dup C rfl dX10_addBit_29 ?_
    refine V.getI C fX10_96 dX10_addBit_30 (by assumption) rfl ?_
    first
    | rw [hR.1]
    | rw [show (sA σ 130 (va_up (σ.2.1 130) bs.length (nI (b + 256 * pt)))).1 123 15 = nI bs.length from hR.1]
    refine V.iconst C (nI 1) c_1 dX10_addBit_33 ?_
    refine V.iadd C dX10_addBit_34 ?_
    rw [nI_add]
    refine V.putI C fX10_96 dX10_addBit_35 (by assumption) rfl ?_
    exact V.vretS C R dX10_addBit_38 ⟨⟨by rw [sF_F, List.length_append]; rfl, by simp; omega, fun i hi1 hi2 => by
        have hi3 : i < bs.length := by omega
        rw [getD_app, if_pos hi3]; exact hR.2.2 i hi3 hi2⟩, (FM.refl _ _ _).sF _ (by decide)⟩
  · have z_ : bs.length < 16 := Nat.lt_of_not_le (fun q => hb_6 (nI_le q (by omega)))
    refine V.aload_n C 0 rfl rfl dX10_addBit_9 ?_
    refine V.getR C fX10_29 dX10_addBit_10 (by assumption) rfl ?_
    refine V.aload_n C 0 rfl rfl dX10_addBit_13 ?_
    refine V.getI C fX10_96 dX10_addBit_14 (by assumption) rfl ?_
    rw [hR.1]
    refine V.iload_n C 1 rfl rfl dX10_addBit_17 ?_
    refine V.sipush C (nI 256) s_256 dX10_addBit_18 ?_
    refine V.aload_n C 0 rfl rfl dX10_addBit_21 ?_
    refine V.getI C fX10_99 dX10_addBit_22 (by assumption) rfl ?_
    rw [hp]
    refine V.imul C dX10_addBit_25 ?_
    refine V.iadd C dX10_addBit_26 ?_
    rw [nI_mul, nI_add]
    refine V.iastN C dX10_addBit_27 (by assumption) (by omega) ?_
    refine V.aload_n C 0 rfl rfl dX10_addBit_28 ?_
    refine V.dup C rfl dX10_addBit_29 ?_
    refine V.getI C fX10_96 dX10_addBit_30 (by assumption) rfl ?_
    first
    | rw [hR.1]
    | rw [show (sA σ 130 (va_up (σ.2.1 130) bs.length (nI (b + 256 * pt)))).1 123 15 = nI bs.length from hR.1]
    refine V.iconst C (nI 1) c_1 dX10_addBit_33 ?_
    refine V.iadd C dX10_addBit_34 ?_
    rw [nI_add]
    refine V.putI C fX10_96 dX10_addBit_35 (by assumption) rfl ?_
    exact V.vretS C R dX10_addBit_38 ⟨⟨by rw [sF_F, List.length_append]; rfl, by simp; omega, fun i hi1 hi2 => by
        rw [List.length_append] at hi1
        have hi1 : i < bs.length + 1 := hi1
        show (sA σ 130 _).2.1 130 i = _
        rw [sA_A, getD_app]
        by_cases e : i = bs.length
        · rw [e, up_eq, if_neg (by omega), if_pos rfl]
        · rw [up_ne _ _ e, if_pos (by omega)]; exact hR.2.2 i (by omega) hi2⟩, ((FM.refl _ _ _).sA _ (by decide)).sF _ (by decide)⟩
