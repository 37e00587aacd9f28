/-! The model's cuts: widthOf, bitOf, addCut, cutEnds, isMarked, carry. -/
/-- statement i of the model: ten places for equations, then the disequations -/
def stG (P : Prob) (i : Nat) : Option Stm := if i < 10 then P.2.1[i]? else P.2.2[i - 10]?
theorem FP.st {f : Nat → Int32} {P : Prob} (h : FP f P) (hw : wfP P) {i : Nat} {s : Stm} (hs : stG P i = some s) : fAt f (10 + 33 * i) s ∧ wfS P.1 s ∧ i < 13 := by
  unfold stG at hs
  split at hs
  · exact ⟨h.2.2.2.1 i s hs, hw.2.2.2.1 i s hs, by omega⟩
  · have hi := (List.getElem?_eq_some_iff.mp hs).1
    have := hw.2.2.1
    refine ⟨?_, hw.2.2.2.2 _ s hs, by omega⟩
    have := h.2.2.2.2 _ s hs
    rw [show 10 + (i - 10) = i by omega] at this; exact this
theorem fAt.trm {f : Nat → Int32} {a d k : Nat} {s : Stm} (h : fAt f a s) (hd : d < 2) (hk : k < s.1) : f (a + 1 + 16 * d + k) = nI (trm s d k) := by
  rcases (show d = 0 ∨ d = 1 by omega) with rfl | rfl
  · exact h.2.1 k hk
  · have := h.2.2 k hk
    rw [show a + 1 + 16 * 1 + k = a + 17 + k by omega]; exact this
/-- the model's cuts -/
def RKm (σ : SS) (K : Nat → Bool) : Prop := ∀ x, x < 128 → σ.2.1 131 x = bI (K x)
theorem RKm.fm {fs as : List Nat} {σ σ1 : SS} {K : Nat → Bool} (h : RKm σ K) (hF : FM fs as σ σ1) (h1 : 131 ∉ as) : RKm σ1 K := by
  unfold RKm; rw [hF.a h1]; exact h
theorem bI_or (a b : Bool) : bI (a || b) = if a then 1 else bI b := by cases a <;> rfl
set_option maxRecDepth 100000 in
set_option maxHeartbeats 4000000 in
theorem ct_M_wOf (G : Gl) (σ : SS) (P : Prob) (i : Nat) (s : Stm) (hP : FP (σ.2.1 124) P) (hwf : wfP P) (hs : stG P i = some s) : CI G mX10_widthOf [Rf G 123, .int (nI i)] σ (fun r σ1 => r = nI s.1 ∧ σ1 = σ) := by
  refine Ctr.of oX10_widthOf (Nat.le_of_ble_eq_true rfl) ?_
  intro X C R hnm hz0
  have C : Cx G X cX10_widthOf 2 RX10 0 0 0 0 := C
  have R : Cr G X (some .int) 0 0 _ := R
  show V G X 2 0 0 0 [(0, Rf G 123), (1, .int (nI i))] [] (wld G σ)
  have kk_123 := sk_123
  have kk_124 := sk_124
  have kk_131 := sk_131
  have i13_ := (hP.st hwf hs).2.2
  refine V.aload_n C 0 rfl rfl dX10_widthOf_0 ?_
  refine V.getR C fX10_7 dX10_widthOf_1 (by assumption) rfl ?_
  refine V.bipush C (nI 10) b_10 dX10_widthOf_4 ?_
  refine V.bipush C (nI 33) b_33 dX10_widthOf_6 ?_
  refine V.iload_n C 1 rfl rfl dX10_widthOf_8 ?_
  refine V.imul C dX10_widthOf_9 ?_
  refine V.iadd C dX10_widthOf_10 ?_
  rw [nI_mul, nI_add]
  refine V.ialdN C dX10_widthOf_11 (by assumption) (by omega) ?_
  rw [(hP.st hwf hs).1.1]
  exact V.iretS C R dX10_widthOf_12 ⟨rfl, rfl⟩
set_option maxRecDepth 100000 in
set_option maxHeartbeats 4000000 in
theorem ct_M_bitOf (G : Gl) (σ : SS) (P : Prob) (i d k : Nat) (s : Stm) (hP : FP (σ.2.1 124) P) (hwf : wfP P) (hs : stG P i = some s) (hd : d < 2) (hk : k < s.1) : CI G mX10_bitOf [Rf G 123, .int (nI i), .int (nI d), .int (nI k)] σ (fun r σ1 => r = nI (trm s d k) ∧ σ1 = σ) := by
  refine Ctr.of oX10_bitOf (Nat.le_of_ble_eq_true rfl) ?_
  intro X C R hnm hz0
  have C : Cx G X cX10_bitOf 4 RX10 0 0 0 0 := C
  have R : Cr G X (some .int) 0 0 _ := R
  show V G X 4 0 0 0 [(0, Rf G 123), (1, .int (nI i)), (2, .int (nI d)), (3, .int (nI k))] [] (wld G σ)
  have kk_123 := sk_123
  have kk_124 := sk_124
  have kk_131 := sk_131
  have i13_ := (hP.st hwf hs).2.2
  have s16_ := (hP.st hwf hs).2.1.2.1
  refine V.aload_n C 0 rfl rfl dX10_bitOf_0 ?_
  refine V.getR C fX10_7 dX10_bitOf_1 (by assumption) rfl ?_
  refine V.bipush C (nI 10) b_10 dX10_bitOf_4 ?_
  refine V.bipush C (nI 33) b_33 dX10_bitOf_6 ?_
  refine V.iload_n C 1 rfl rfl dX10_bitOf_8 ?_
  refine V.imul C dX10_bitOf_9 ?_
  refine V.iadd C dX10_bitOf_10 ?_
  refine V.iconst C (nI 1) c_1 dX10_bitOf_11 ?_
  refine V.iadd C dX10_bitOf_12 ?_
  refine V.bipush C (nI 16) b_16 dX10_bitOf_13 ?_
  refine V.iload_n C 2 rfl rfl dX10_bitOf_15 ?_
  refine V.imul C dX10_bitOf_16 ?_
  refine V.iadd C dX10_bitOf_17 ?_
  refine V.iload_n C 3 rfl rfl dX10_bitOf_18 ?_
  refine V.iadd C dX10_bitOf_19 ?_
  rw [nI_mul, nI_add, nI_add, nI_mul, nI_add, nI_add]
  refine V.ialdN C dX10_bitOf_20 (by assumption) (by omega) ?_
  rw [(hP.st hwf hs).1.trm hd hk]
  exact V.iretS C R dX10_bitOf_21 ⟨rfl, rfl⟩
set_option maxRecDepth 100000 in
set_option maxHeartbeats 4000000 in
theorem ct_M_isOV (G : Gl) (σ : SS) (x : Nat) (hx : x < 65536) : CI G mX10_isOfVariable [Rf G 123, .int (nI x)] σ (fun r σ1 => r = bI (isV x) ∧ σ1 = σ) := by
  refine Ctr.of oX10_isOfVariable (Nat.le_of_ble_eq_true rfl) ?_
  intro X C R hnm hz0
  have C : Cx G X cX10_isOfVariable 2 RX10 0 0 0 0 := C
  have R : Cr G X (some .boolean) 0 0 _ := R
  show V G X 2 0 0 0 [(0, Rf G 123), (1, .int (nI x))] [] (wld G σ)
  have kk_123 := sk_123
  have kk_124 := sk_124
  have kk_131 := sk_131
  refine V.iload_n C 1 rfl rfl dX10_isOfVariable_0 ?_
  refine V.sipush C (nI 256) s_256 dX10_isOfVariable_1 ?_
  refine V.irem C (by decide) dX10_isOfVariable_4 ?_
  rw [nI_rem (by omega) (by decide) (by decide)]
  refine V.bipush C (nI 16) b_16 dX10_isOfVariable_5 ?_
  refine V.icmp_lt C 14 dX10_isOfVariable_7 rfl (fun hb_7 => ?_) (fun hb_7 => ?_)
  · have z_ : isV x = false := decide_eq_false (by have := (nI_ltI (by omega) (by decide)).mp hb_7; omega)
    refine V.iconst C (nI 0) c_0 dX10_isOfVariable_14 ?_
    exact V.zretS C R dX10_isOfVariable_15 (by first | exact Or.inl rfl | exact Or.inr rfl | exact bI01 _) ⟨by rw [z_]; rfl, rfl⟩
  · have z_ : isV x = true := decide_eq_true (Nat.le_of_not_lt (fun q => hb_7 (nI_lt q (by decide))))
    refine V.iconst C (nI 1) c_1 dX10_isOfVariable_10 ?_
    refine V.goto C 15 dX10_isOfVariable_11 rfl ?_
    exact V.zretS C R dX10_isOfVariable_15 (by first | exact Or.inl rfl | exact Or.inr rfl | exact bI01 _) ⟨by rw [z_]; rfl, rfl⟩
set_option maxRecDepth 100000 in
set_option maxHeartbeats 4000000 in
theorem ct_M_vb (G : Gl) (σ : SS) (x : Nat) (hx : x < 65536) (hv : isV x = true) : CI G mX10_variableBit [.int (nI x)] σ (fun r σ1 => r = nI (vb x) ∧ σ1 = σ) := by
  refine Ctr.of oX10_variableBit (Nat.le_of_ble_eq_true rfl) ?_
  intro X C R hnm hz0
  have C : Cx G X cX10_variableBit 1 RX10 0 0 0 0 := C
  have R : Cr G X (some .int) 0 0 _ := R
  show V G X 1 0 0 0 [(0, .int (nI x))] [] (wld G σ)
  refine V.iload_n C 0 rfl rfl dX10_variableBit_0 ?_
  refine V.sipush C (nI 256) s_256 dX10_variableBit_1 ?_
  refine V.irem C (by decide) dX10_variableBit_4 ?_
  rw [nI_rem (by omega) (by decide) (by decide)]
  refine V.bipush C (nI 16) b_16 dX10_variableBit_5 ?_
  refine V.isub C dX10_variableBit_7 ?_
  rw [nI_sub (by have := of_decide_eq_true hv; omega)]
  exact V.iretS C R dX10_variableBit_8 ⟨rfl, rfl⟩
set_option maxRecDepth 100000 in
set_option maxHeartbeats 4000000 in
theorem ct_M_one (G : Gl) (σ : SS) (x y : Nat) (hx : x < 65536) (hy : y < 65536) : CI G mX10_areOfOnePart [.int (nI x), .int (nI y)] σ (fun r σ1 => r = bI (decide (x / 256 = y / 256)) ∧ σ1 = σ) := by
  refine Ctr.of oX10_areOfOnePart (Nat.le_of_ble_eq_true rfl) ?_
  intro X C R hnm hz0
  have C : Cx G X cX10_areOfOnePart 2 RX10 0 0 0 0 := C
  have R : Cr G X (some .boolean) 0 0 _ := R
  show V G X 2 0 0 0 [(0, .int (nI x)), (1, .int (nI y))] [] (wld G σ)
  refine V.iload_n C 0 rfl rfl dX10_areOfOnePart_0 ?_
  refine V.sipush C (nI 256) s_256 dX10_areOfOnePart_1 ?_
  refine V.idiv C (by decide) dX10_areOfOnePart_4 ?_
  rw [nI_div (by omega) (by decide) (by decide)]
  refine V.iload_n C 1 rfl rfl dX10_areOfOnePart_5 ?_
  refine V.sipush C (nI 256) s_256 dX10_areOfOnePart_6 ?_
  refine V.idiv C (by decide) dX10_areOfOnePart_9 ?_
  rw [nI_div (by omega) (by decide) (by decide)]
  refine V.icmp_ne C 17 dX10_areOfOnePart_10 rfl (fun hb_10 => ?_) (fun hb_10 => ?_)
  · have z_ : decide (x / 256 = y / 256) = false := decide_eq_false (fun q => hb_10 (by rw [q]))
    refine V.iconst C (nI 0) c_0 dX10_areOfOnePart_17 ?_
    exact V.zretS C R dX10_areOfOnePart_18 (by first | exact Or.inl rfl | exact Or.inr rfl | exact bI01 _) ⟨by rw [z_]; rfl, rfl⟩
  · have z_ : decide (x / 256 = y / 256) = true := decide_eq_true (nI_pe (by omega) (by omega) hb_10)
    refine V.iconst C (nI 1) c_1 dX10_areOfOnePart_13 ?_
    refine V.goto C 18 dX10_areOfOnePart_14 rfl ?_
    exact V.zretS C R dX10_areOfOnePart_18 (by first | exact Or.inl rfl | exact Or.inr rfl | exact bI01 _) ⟨by rw [z_]; rfl, rfl⟩
set_option maxRecDepth 100000 in
set_option maxHeartbeats 4000000 in
theorem ct_M_addCut (G : Gl) (σ : SS) (K : Nat → Bool) (c : Bool) (x : Nat) (hK : RKm σ K) (hc : σ.1 123 18 = bI c) (hx : x < 128) : CV G mX10_addCut [Rf G 123, .int (nI x)] σ (fun σ1 => RKm σ1 (upK K x) ∧ σ1.1 123 18 = bI (c || !K x) ∧ FM [18] [131] σ σ1) := by
  refine Ctr.of oX10_addCut (Nat.le_of_ble_eq_true rfl) ?_
  intro X C R hnm hz0
  have C : Cx G X cX10_addCut 2 RX10 0 0 0 0 := C
  have R : Cr G X none 0 0 _ := R
  show V G X 2 0 0 0 [(0, Rf G 123), (1, .int (nI x))] [] (wld G σ)
  have kk_123 := sk_123
  have kk_124 := sk_124
  have kk_131 := sk_131
  refine V.aload_n C 0 rfl rfl dX10_addCut_0 ?_
  refine V.aload_n C 0 rfl rfl dX10_addCut_1 ?_
  refine V.getI C fX10_154 dX10_addCut_2 (by assumption) rfl ?_
  rw [hc]
  refine V.if_ne C 17 dX10_addCut_5 rfl (fun hb_5 => ?_) (fun hb_5 => ?_)
  · have z_ : (c || !K x) = true := by rw [bI_ne0 hb_5]; rfl
    refine V.iconst C (nI 1) c_1 dX10_addCut_17 ?_
    refine V.goto C 22 dX10_addCut_18 rfl ?_
    refine V.putZ C fX10_154 dX10_addCut_22 (by assumption) rfl (by first | exact Or.inl rfl | exact Or.inr rfl | exact bI01 _) ?_
    refine V.aload_n C 0 rfl rfl dX10_addCut_25 ?_
    refine V.getR C fX10_32 dX10_addCut_26 (by assumption) rfl ?_
    refine V.iload_n C 1 rfl rfl dX10_addCut_29 ?_
    refine V.iconst C (nI 1) c_1 dX10_addCut_30 ?_
    refine V.zastN C dX10_addCut_31 (by assumption) (by omega) (by first | exact Or.inl rfl | exact Or.inr rfl | exact bI01 _) ?_
    exact V.vretS C R dX10_addCut_32 (by
      refine ⟨fun y hy => ?_, by rw [z_]; first | exact sF_F σ 123 18 (nI 1) | exact sF_F σ 123 18 (nI 0), ((FM.refl _ _ _).sF _ (by decide)).sA _ (by decide)⟩
      rw [sA_A]
      unfold upK
      by_cases e : y = x
      · rw [e, up_eq]; simp [bI]; rfl
      · rw [up_ne _ _ e, decide_eq_false e, Bool.or_false]; exact hK y hy)
  · refine V.aload_n C 0 rfl rfl dX10_addCut_8 ?_
    refine V.getR C fX10_32 dX10_addCut_9 (by assumption) rfl ?_
    refine V.iload_n C 1 rfl rfl dX10_addCut_12 ?_
    refine V.zaldN C dX10_addCut_13 (by assumption) (by omega) ?_
    rw [hK x hx]
    refine V.if_ne C 21 dX10_addCut_14 rfl (fun hb_14 => ?_) (fun hb_14 => ?_)
    · have z_ : (c || !K x) = false := by rw [bI_eq0 hb_5, bI_ne0 hb_14]; rfl
      refine V.iconst C (nI 0) c_0 dX10_addCut_21 ?_
      refine V.putZ C fX10_154 dX10_addCut_22 (by assumption) rfl (by first | exact Or.inl rfl | exact Or.inr rfl | exact bI01 _) ?_
      refine V.aload_n C 0 rfl rfl dX10_addCut_25 ?_
      refine V.getR C fX10_32 dX10_addCut_26 (by assumption) rfl ?_
      refine V.iload_n C 1 rfl rfl dX10_addCut_29 ?_
      refine V.iconst C (nI 1) c_1 dX10_addCut_30 ?_
      refine V.zastN C dX10_addCut_31 (by assumption) (by omega) (by first | exact Or.inl rfl | exact Or.inr rfl | exact bI01 _) ?_
      exact V.vretS C R dX10_addCut_32 (by
        refine ⟨fun y hy => ?_, by rw [z_]; first | exact sF_F σ 123 18 (nI 1) | exact sF_F σ 123 18 (nI 0), ((FM.refl _ _ _).sF _ (by decide)).sA _ (by decide)⟩
        rw [sA_A]
        unfold upK
        by_cases e : y = x
        · rw [e, up_eq]; simp [bI]; rfl
        · rw [up_ne _ _ e, decide_eq_false e, Bool.or_false]; exact hK y hy)
    · have z_ : (c || !K x) = true := by rw [bI_eq0 hb_5, bI_eq0 hb_14]; rfl
      refine V.iconst C (nI 1) c_1 dX10_addCut_17 ?_
      refine V.goto C 22 dX10_addCut_18 rfl ?_
      refine V.putZ C fX10_154 dX10_addCut_22 (by assumption) rfl (by first | exact Or.inl rfl | exact Or.inr rfl | exact bI01 _) ?_
      refine V.aload_n C 0 rfl rfl dX10_addCut_25 ?_
      refine V.getR C fX10_32 dX10_addCut_26 (by assumption) rfl ?_
      refine V.iload_n C 1 rfl rfl dX10_addCut_29 ?_
      refine V.iconst C (nI 1) c_1 dX10_addCut_30 ?_
      refine V.zastN C dX10_addCut_31 (by assumption) (by omega) (by first | exact Or.inl rfl | exact Or.inr rfl | exact bI01 _) ?_
      exact V.vretS C R dX10_addCut_32 (by
        refine ⟨fun y hy => ?_, by rw [z_]; first | exact sF_F σ 123 18 (nI 1) | exact sF_F σ 123 18 (nI 0), ((FM.refl _ _ _).sF _ (by decide)).sA _ (by decide)⟩
        rw [sA_A]
        unfold upK
        by_cases e : y = x
        · rw [e, up_eq]; simp [bI]; rfl
        · rw [up_ne _ _ e, decide_eq_false e, Bool.or_false]; exact hK y hy)
set_option maxRecDepth 100000 in
set_option maxHeartbeats 4000000 in
theorem ct_M_isMarked (G : Gl) (σ : SS) (P : Prob) (K : Nat → Bool) (i d p : Nat) (s : Stm) (hP : FP (σ.2.1 124) P) (hwf : wfP P) (hs : stG P i = some s) (hK : RKm σ K) (hd : d < 2) (hp1 : 1 ≤ p) (hp2 : p < s.1) : CI G mX10_isMarked [Rf G 123, .int (nI i), .int (nI d), .int (nI p)] σ (fun r σ1 => r = bI (markT K (trm s d) p) ∧ σ1 = σ) := by
  refine Ctr.of oX10_isMarked (Nat.le_of_ble_eq_true rfl) ?_
  intro X C R hnm hz0
  have C : Cx G X cX10_isMarked 6 RX10 1 23 0 0 := C
  have R : Cr G X (some .boolean) 0 0 _ := R
  show V G X 6 0 0 0 [(0, Rf G 123), (1, .int (nI i)), (2, .int (nI d)), (3, .int (nI p))] [] (wld G σ)
  have kk_123 := sk_123
  have kk_124 := sk_124
  have kk_131 := sk_131
  have ws_ := (hP.st hwf hs).2.1
  have s16_ := ws_.2.1
  have ok_ : ∀ k, k < s.1 → okB (trm s d k) := (ws_.T d).1
  have b1_ : trm s d (p - 1) < 65536 := (ok_ _ (by omega)).1
  have b2_ : trm s d p < 65536 := (ok_ _ hp2).1
  have same_ : decide (trm s d (p - 1) / 256 = trm s d p / 256) = sameP (trm s d) p := by unfold sameP; congr 1; exact propext eq_comm
  refine V.aload_n C 0 rfl rfl dX10_isMarked_0 ?_
  refine V.iload_n C 1 rfl rfl dX10_isMarked_1 ?_
  refine V.iload_n C 2 rfl rfl dX10_isMarked_2 ?_
  refine V.iload_n C 3 rfl rfl dX10_isMarked_3 ?_
  refine V.iconst C (nI 1) c_1 dX10_isMarked_4 ?_
  refine V.isub C dX10_isMarked_5 ?_
  rw [nI_sub hp1]
  refine V.cVi C lX10_161 oX10_bitOf dX10_isMarked_6 (ct_M_bitOf G σ P i d (p - 1) s hP hwf hs hd (by omega)) (by assumption) rfl rfl (Nat.le_of_ble_eq_true rfl) ⟨Nat.le_of_ble_eq_true rfl, Nat.le_of_ble_eq_true rfl⟩ ⟨Nat.le_of_ble_eq_true rfl, Nat.le_of_ble_eq_true rfl⟩ (fun rr_6 σ6 pp_6 => ?_)
  obtain ⟨ee_6, ff_6⟩ := pp_6
  rw [ee_6, ff_6]
  refine V.istore C dX10_isMarked_9 (by decide) ?_
  refine V.aload_n C 0 rfl rfl dX10_isMarked_11 ?_
  refine V.iload_n C 1 rfl rfl dX10_isMarked_12 ?_
  refine V.iload_n C 2 rfl rfl dX10_isMarked_13 ?_
  refine V.iload_n C 3 rfl rfl dX10_isMarked_14 ?_
  refine V.cVi C lX10_161 oX10_bitOf dX10_isMarked_15 (ct_M_bitOf G σ P i d p s hP hwf hs hd hp2) (by assumption) rfl rfl (Nat.le_of_ble_eq_true rfl) ⟨Nat.le_of_ble_eq_true rfl, Nat.le_of_ble_eq_true rfl⟩ ⟨Nat.le_of_ble_eq_true rfl, Nat.le_of_ble_eq_true rfl⟩ (fun rr_15 σ15 pp_15 => ?_)
  obtain ⟨ee_15, ff_15⟩ := pp_15
  rw [ee_15, ff_15]
  refine V.istore C dX10_isMarked_18 (by decide) ?_
  refine V.iload C rfl dX10_isMarked_20 ?_
  refine V.iload C rfl dX10_isMarked_22 ?_
  refine V.cSi C lX10_171 oX10_areOfOnePart dX10_isMarked_24 (ct_M_one G σ (trm s d (p - 1)) (trm s d p) b1_ b2_) rfl rfl (Nat.le_of_ble_eq_true rfl) ⟨Nat.le_of_ble_eq_true rfl, Nat.le_of_ble_eq_true rfl⟩ ⟨Nat.le_of_ble_eq_true rfl, Nat.le_of_ble_eq_true rfl⟩ (fun rr_24 σ24 pp_24 => ?_)
  obtain ⟨ee_24, ff_24⟩ := pp_24
  rw [ee_24, ff_24]
  refine V.if_eq C 52 dX10_isMarked_27 rfl (fun hb_27 => ?_) (fun hb_27 => ?_)
  · have z27_ : sameP (trm s d) p = false := by rw [← same_]; exact bI_eq0 hb_27
    refine V.iconst C (nI 1) c_1 dX10_isMarked_52 ?_
    refine V.goto C 57 dX10_isMarked_53 rfl ?_
    exact V.zretS C R dX10_isMarked_57 (by first | exact Or.inl rfl | exact Or.inr rfl | exact bI01 _) ⟨by unfold markT; rw [z27_]; rfl, rfl⟩
  · have z27_ : sameP (trm s d) p = true := by rw [← same_]; exact bI_ne0 hb_27
    refine V.aload_n C 0 rfl rfl dX10_isMarked_30 ?_
    refine V.iload C rfl dX10_isMarked_31 ?_
    refine V.cVi C lX10_165 oX10_isOfVariable dX10_isMarked_33 (ct_M_isOV G σ (trm s d p) b2_) (by assumption) rfl rfl (Nat.le_of_ble_eq_true rfl) ⟨Nat.le_of_ble_eq_true rfl, Nat.le_of_ble_eq_true rfl⟩ ⟨Nat.le_of_ble_eq_true rfl, Nat.le_of_ble_eq_true rfl⟩ (fun rr_33 σ33 pp_33 => ?_)
    obtain ⟨ee_33, ff_33⟩ := pp_33
    rw [ee_33, ff_33]
    refine V.if_eq C 56 dX10_isMarked_36 rfl (fun hb_36 => ?_) (fun hb_36 => ?_)
    · have z36_ := bI_eq0 hb_36
      refine V.iconst C (nI 0) c_0 dX10_isMarked_56 ?_
      exact V.zretS C R dX10_isMarked_57 (by first | exact Or.inl rfl | exact Or.inr rfl | exact bI01 _) ⟨by unfold markT; rw [z27_, z36_]; rfl, rfl⟩
    · have z36_ := bI_ne0 hb_36
      have v128_ : vb (trm s d p) < 128 := by
        have := (ok_ p hp2).2
        have := of_decide_eq_true z36_
        unfold vb; omega
      refine V.aload_n C 0 rfl rfl dX10_isMarked_39 ?_
      refine V.getR C fX10_32 dX10_isMarked_40 (by assumption) rfl ?_
      refine V.iload C rfl dX10_isMarked_43 ?_
      refine V.cSi C lX10_168 oX10_variableBit dX10_isMarked_45 (ct_M_vb G σ (trm s d p) b2_ z36_) rfl rfl (Nat.le_of_ble_eq_true rfl) ⟨Nat.le_of_ble_eq_true rfl, Nat.le_of_ble_eq_true rfl⟩ ⟨Nat.le_of_ble_eq_true rfl, Nat.le_of_ble_eq_true rfl⟩ (fun rr_45 σ45 pp_45 => ?_)
      obtain ⟨ee_45, ff_45⟩ := pp_45
      rw [ee_45, ff_45]
      refine V.zaldN C dX10_isMarked_48 (by assumption) (by omega) ?_
      rw [hK _ v128_]
      refine V.if_eq C 56 dX10_isMarked_49 rfl (fun hb_49 => ?_) (fun hb_49 => ?_)
      · have z49_ := bI_eq0 hb_49
        refine V.iconst C (nI 0) c_0 dX10_isMarked_56 ?_
        exact V.zretS C R dX10_isMarked_57 (by first | exact Or.inl rfl | exact Or.inr rfl | exact bI01 _) ⟨by unfold markT; rw [z27_, z36_, z49_]; rfl, rfl⟩
      · have z49_ := bI_ne0 hb_49
        refine V.iconst C (nI 1) c_1 dX10_isMarked_52 ?_
        refine V.goto C 57 dX10_isMarked_53 rfl ?_
        exact V.zretS C R dX10_isMarked_57 (by first | exact Or.inl rfl | exact Or.inr rfl | exact bI01 _) ⟨by unfold markT; rw [z27_, z36_, z49_]; rfl, rfl⟩
theorem markT.mono {K K' : Nat → Bool} {L : Nat → Nat} {k : Nat} (h : ∀ x, K x = true → K' x = true) (hm : markT K L k = true) : markT K' L k = true := by
  unfold markT at hm ⊢
  rw [Bool.or_eq_true, Bool.and_eq_true] at hm ⊢
  rcases hm with q | q
  · exact Or.inl q
  · exact Or.inr ⟨q.1, h _ q.2⟩
set_option maxRecDepth 100000 in
set_option maxHeartbeats 4000000 in
theorem ct_M_carry (G : Gl) (σ : SS) (P : Prob) (K : Nat → Bool) (c : Bool) (i d p : Nat) (s : Stm) (hP : FP (σ.2.1 124) P) (hwf : wfP P) (hs : stG P i = some s) (his : P.2.1[i]? = some s) (hK : RKm σ K) (hc : σ.1 123 18 = bI c) (hd : d < 2) (hp1 : 1 ≤ p) (hp2 : p < s.1) : CV G mX10_carry [Rf G 123, .int (nI i), .int (nI d), .int (nI p)] σ (fun σ1 => ∃ K1 c1, RKm σ1 K1 ∧ σ1.1 123 18 = bI c1 ∧ (∀ x, K x = true → K1 x = true) ∧ (Snd P K → Snd P K1) ∧ (c1 = false → c = false ∧ K1 = K ∧ (markT K (trm s d) p = true → sameP (trm s (1 - d)) p = true → isV (trm s (1 - d) p) = true → K (vb (trm s (1 - d) p)) = true)) ∧ (c1 = true → c = true ∨ ∃ x, x < 128 ∧ K x = false ∧ K1 x = true) ∧ FM [18] [131] σ σ1) := by
  refine Ctr.of oX10_carry (Nat.le_of_ble_eq_true rfl) ?_
  intro X C R hnm hz0
  have C : Cx G X cX10_carry 6 RX10 2 48 0 0 := C
  have R : Cr G X none 0 0 _ := R
  show V G X 6 0 0 0 [(0, Rf G 123), (1, .int (nI i)), (2, .int (nI d)), (3, .int (nI p))] [] (wld G σ)
  have kk_123 := sk_123
  have kk_124 := sk_124
  have kk_131 := sk_131
  have ws_ := (hP.st hwf hs).2.1
  have s16_ := ws_.2.1
  have ok_ : ∀ k, k < s.1 → okB (trm s (1 - d) k) := (ws_.T (1 - d)).1
  have b1_ : trm s (1 - d) (p - 1) < 65536 := (ok_ _ (by omega)).1
  have b2_ : trm s (1 - d) p < 65536 := (ok_ _ hp2).1
  have same_ : decide (trm s (1 - d) (p - 1) / 256 = trm s (1 - d) p / 256) = sameP (trm s (1 - d)) p := by unfold sameP; congr 1; exact propext eq_comm
  have hcl : ∀ K', Closed P K' → (∀ x, K x = true → K' x = true) → markT K (trm s d) p = true → sameP (trm s (1 - d)) p = true → isV (trm s (1 - d) p) = true → K' (vb (trm s (1 - d) p)) = true := fun K' h1 h2 h3 h4 h5 => by
    have := h1.r2 his (1 - d) (by omega)
    rw [show 1 - (1 - d) = d by omega] at this
    exact this p hp1 hp2 (markT.mono h2 h3) h4 h5
  refine V.aload_n C 0 rfl rfl dX10_carry_0 ?_
  refine V.iload_n C 1 rfl rfl dX10_carry_1 ?_
  refine V.iconst C (nI 1) c_1 dX10_carry_2 ?_
  refine V.iload_n C 2 rfl rfl dX10_carry_3 ?_
  skip
  refine V.isub C dX10_carry_4 ?_
  refine V.iload_n C 3 rfl rfl dX10_carry_5 ?_
  refine V.iconst C (nI 1) c_1 dX10_carry_6 ?_
  refine V.isub C dX10_carry_7 ?_
  rw [nI_sub hp1, nI_sub (show d ≤ 1 by omega)]
  refine V.cVi C lX10_161 oX10_bitOf dX10_carry_8 (ct_M_bitOf G σ P i (1 - d) (p - 1) s hP hwf hs (by omega) (by omega)) (by assumption) rfl rfl (Nat.le_of_ble_eq_true rfl) ⟨Nat.le_of_ble_eq_true rfl, Nat.le_of_ble_eq_true rfl⟩ ⟨Nat.le_of_ble_eq_true rfl, Nat.le_of_ble_eq_true rfl⟩ (fun rr_8 σ8 pp_8 => ?_)
  obtain ⟨ee_8, ff_8⟩ := pp_8
  rw [ee_8, ff_8]
  refine V.istore C dX10_carry_11 (by decide) ?_
  refine V.aload_n C 0 rfl rfl dX10_carry_13 ?_
  refine V.iload_n C 1 rfl rfl dX10_carry_14 ?_
  refine V.iconst C (nI 1) c_1 dX10_carry_15 ?_
  refine V.iload_n C 2 rfl rfl dX10_carry_16 ?_
  refine V.isub C dX10_carry_17 ?_
  refine V.iload_n C 3 rfl rfl dX10_carry_18 ?_
  rw [nI_sub (show d ≤ 1 by omega)]
  refine V.cVi C lX10_161 oX10_bitOf dX10_carry_19 (ct_M_bitOf G σ P i (1 - d) p s hP hwf hs (by omega) hp2) (by assumption) rfl rfl (Nat.le_of_ble_eq_true rfl) ⟨Nat.le_of_ble_eq_true rfl, Nat.le_of_ble_eq_true rfl⟩ ⟨Nat.le_of_ble_eq_true rfl, Nat.le_of_ble_eq_true rfl⟩ (fun rr_19 σ19 pp_19 => ?_)
  obtain ⟨ee_19, ff_19⟩ := pp_19
  rw [ee_19, ff_19]
  refine V.istore C dX10_carry_22 (by decide) ?_
  refine V.aload_n C 0 rfl rfl dX10_carry_24 ?_
  refine V.iload_n C 1 rfl rfl dX10_carry_25 ?_
  refine V.iload_n C 2 rfl rfl dX10_carry_26 ?_
  refine V.iload_n C 3 rfl rfl dX10_carry_27 ?_
  refine V.cVi C lX10_178 oX10_isMarked dX10_carry_28 (ct_M_isMarked G σ P K i d p s hP hwf hs hK hd hp1 hp2) (by assumption) rfl rfl (Nat.le_of_ble_eq_true rfl) ⟨Nat.le_of_ble_eq_true rfl, Nat.le_of_ble_eq_true rfl⟩ ⟨Nat.le_of_ble_eq_true rfl, Nat.le_of_ble_eq_true rfl⟩ (fun rr_28 σ28 pp_28 => ?_)
  obtain ⟨ee_28, ff_28⟩ := pp_28
  rw [ee_28, ff_28]
  refine V.if_eq C 62 dX10_carry_31 rfl (fun hb_31 => ?_) (fun hb_31 => ?_)
  · have z31_ := bI_eq0 hb_31
    exact V.vretS C R dX10_carry_62 ⟨K, c, hK, hc, fun _ h => h, fun h => h, fun q => ⟨q, rfl, fun h1 h2 h3 => absurd h1 (by rw [z31_]; decide)⟩, fun q => Or.inl q, FM.refl _ _ _⟩
  · have z31_ := bI_ne0 hb_31
    refine V.iload C rfl dX10_carry_34 ?_
    refine V.iload C rfl dX10_carry_36 ?_
    refine V.cSi C lX10_171 oX10_areOfOnePart dX10_carry_38 (ct_M_one G σ (trm s (1 - d) (p - 1)) (trm s (1 - d) p) b1_ b2_) rfl rfl (Nat.le_of_ble_eq_true rfl) ⟨Nat.le_of_ble_eq_true rfl, Nat.le_of_ble_eq_true rfl⟩ ⟨Nat.le_of_ble_eq_true rfl, Nat.le_of_ble_eq_true rfl⟩ (fun rr_38 σ38 pp_38 => ?_)
    obtain ⟨ee_38, ff_38⟩ := pp_38
    rw [ee_38, ff_38]
    refine V.if_eq C 62 dX10_carry_41 rfl (fun hb_41 => ?_) (fun hb_41 => ?_)
    · have z41_ : sameP (trm s (1 - d)) p = false := by rw [← same_]; exact bI_eq0 hb_41
      exact V.vretS C R dX10_carry_62 ⟨K, c, hK, hc, fun _ h => h, fun h => h, fun q => ⟨q, rfl, fun h1 h2 h3 => absurd h2 (by rw [z41_]; decide)⟩, fun q => Or.inl q, FM.refl _ _ _⟩
    · have z41_ : sameP (trm s (1 - d)) p = true := by rw [← same_]; exact bI_ne0 hb_41
      refine V.aload_n C 0 rfl rfl dX10_carry_44 ?_
      refine V.iload C rfl dX10_carry_45 ?_
      refine V.cVi C lX10_165 oX10_isOfVariable dX10_carry_47 (ct_M_isOV G σ (trm s (1 - d) p) b2_) (by assumption) rfl rfl (Nat.le_of_ble_eq_true rfl) ⟨Nat.le_of_ble_eq_true rfl, Nat.le_of_ble_eq_true rfl⟩ ⟨Nat.le_of_ble_eq_true rfl, Nat.le_of_ble_eq_true rfl⟩ (fun rr_47 σ47 pp_47 => ?_)
      obtain ⟨ee_47, ff_47⟩ := pp_47
      rw [ee_47, ff_47]
      refine V.if_eq C 62 dX10_carry_50 rfl (fun hb_50 => ?_) (fun hb_50 => ?_)
      · have z50_ := bI_eq0 hb_50
        exact V.vretS C R dX10_carry_62 ⟨K, c, hK, hc, fun _ h => h, fun h => h, fun q => ⟨q, rfl, fun h1 h2 h3 => absurd h3 (by rw [z50_]; decide)⟩, fun q => Or.inl q, FM.refl _ _ _⟩
      · have z50_ := bI_ne0 hb_50
        have v128_ : vb (trm s (1 - d) p) < 128 := by
          have := (ok_ p hp2).2
          have := of_decide_eq_true z50_
          unfold vb; omega
        refine V.aload_n C 0 rfl rfl dX10_carry_53 ?_
        refine V.iload C rfl dX10_carry_54 ?_
        refine V.cSi C lX10_168 oX10_variableBit dX10_carry_56 (ct_M_vb G σ (trm s (1 - d) p) b2_ z50_) rfl rfl (Nat.le_of_ble_eq_true rfl) ⟨Nat.le_of_ble_eq_true rfl, Nat.le_of_ble_eq_true rfl⟩ ⟨Nat.le_of_ble_eq_true rfl, Nat.le_of_ble_eq_true rfl⟩ (fun rr_56 σ56 pp_56 => ?_)
        obtain ⟨ee_56, ff_56⟩ := pp_56
        rw [ee_56, ff_56]
        refine V.cVv C lX10_175 oX10_addCut dX10_carry_59 (ct_M_addCut G σ K c (vb (trm s (1 - d) p)) hK hc v128_) (by assumption) rfl rfl (Nat.le_of_ble_eq_true rfl) ⟨Nat.le_of_ble_eq_true rfl, Nat.le_of_ble_eq_true rfl⟩ ⟨Nat.le_of_ble_eq_true rfl, Nat.le_of_ble_eq_true rfl⟩ (fun σ59 pp_59 => ?_)
        exact V.vretS C R dX10_carry_62 (by
          refine ⟨_, _, pp_59.1, pp_59.2.1, upK_mono _ _, fun h => h.up (fun K' hc' => ?_), fun q => ?_, fun q => ?_, pp_59.2.2⟩
          · exact hcl K' hc' (by
              intro x hx; exact h K' hc' x hx) z31_ z41_ z50_
          · have q1 : c = false ∧ K (vb (trm s (1 - d) p)) = true := by
              cases c <;> cases hk : K (vb (trm s (1 - d) p)) <;> simp_all
            refine ⟨q1.1, ?_, fun _ _ _ => q1.2⟩
            funext y
            unfold upK
            by_cases e : y = vb (trm s (1 - d) p)
            · rw [e, q1.2]; rfl
            · rw [decide_eq_false e, Bool.or_false]
          · cases hk : K (vb (trm s (1 - d) p)) with
            | false => exact Or.inr ⟨_, v128_, hk, upK_self _ _⟩
            | true => left; rw [hk] at q; simpa using q)
set_option maxRecDepth 100000 in
set_option maxHeartbeats 4000000 in
theorem ct_M_cutEnds (G : Gl) (σ : SS) (P : Prob) (K : Nat → Bool) (c0 : Bool) (i d : Nat) (s : Stm) (hP : FP (σ.2.1 124) P) (hwf : wfP P) (hs : stG P i = some s) (his : P.2.1[i]? = some s) (hK : RKm σ K) (hc : σ.1 123 18 = bI c0) (hd : d < 2) : CV G mX10_cutEnds [Rf G 123, .int (nI i), .int (nI d)] σ (fun σ1 => ∃ K1 c1, RKm σ1 K1 ∧ σ1.1 123 18 = bI c1 ∧ (∀ x, K x = true → K1 x = true) ∧ (Snd P K → Snd P K1) ∧ Cl1 P.1 s.1 (trm s d) K1 ∧ FM [18] [131] σ σ1) := by
  refine Ctr.of oX10_cutEnds (Nat.le_of_ble_eq_true rfl) ?_
  intro X C R hnm hz0
  have C : Cx G X cX10_cutEnds 9 RX10 1 23 0 0 := C
  have R : Cr G X none 0 0 _ := R
  show V G X 9 0 0 0 [(0, Rf G 123), (1, .int (nI i)), (2, .int (nI d))] [] (wld G σ)
  have kk_123 := sk_123
  have kk_124 := sk_124
  have kk_131 := sk_131
  have ws_ := (hP.st hwf hs).2.1
  have s16_ := ws_.2.1
  have ok_ : ∀ k, k < s.1 → okB (trm s d k) := (ws_.T d).1
  have loop : ∀ (m k : Nat) (Kk : Nat → Bool) (c : Bool) (σ1 : SS), s.1 < k + m → k ≤ s.1 → RKm σ1 Kk → σ1.1 123 18 = bI c → (∀ x, K x = true → Kk x = true) → (Snd P K → Snd P Kk) → (∀ j, j < k → r1at P.1 s.1 (trm s d) Kk j) → FM [18] [131] σ σ1 → V G X 9 0 0 9 [(0, Rf G 123), (1, .int (nI i)), (2, .int (nI d)), (3, .int (nI s.1)), (4, .int (nI k))] [] (wld G σ1) := by
    intro m
    induction m with
    | zero =>
      intro k Kk c σ1 hm hk hRK hc hle hsn hr1 hF
      exact absurd hm (by omega)
    | succ m ih =>
      intro k Kk c σ1 hm hk hRK hc hle hsn hr1 hF
      have hP1 : FP (σ1.2.1 124) P := by rw [hF.a (by decide)]; exact hP
      refine V.iload C rfl dX10_cutEnds_9 ?_
      refine V.iload_n C 3 rfl rfl dX10_cutEnds_11 ?_
      refine V.icmp_ge C 162 dX10_cutEnds_12 rfl (fun hb_12 => ?_) (fun hb_12 => ?_)
      · have hk8 : k = s.1 := by have := (nI_leI (by omega) (by omega)).mp hb_12; omega
        exact V.vretS C R dX10_cutEnds_162 ⟨Kk, c, hRK, hc, hle, hsn, fun j hj => hr1 j (by omega), hF⟩
      · have hk8 : k < s.1 := Nat.lt_of_not_le (fun q => hb_12 (nI_le q (by omega)))
        have bk_ : trm s d k < 65536 := (ok_ k hk8).1
        have v128 : isV (trm s d k) = true → vb (trm s d k) < 128 := fun z => by
          have := (ok_ k hk8).2
          have := of_decide_eq_true z
          unfold vb; omega
        have J156 : ∀ (K2 : Nat → Bool) (c2 : Bool) (σ2 : SS), RKm σ2 K2 → σ2.1 123 18 = bI c2 → (∀ x, Kk x = true → K2 x = true) → (Snd P Kk → Snd P K2) → r1at P.1 s.1 (trm s d) K2 k → FM [18] [131] σ σ2 → V G X 9 0 0 156 [(0, Rf G 123), (1, .int (nI i)), (2, .int (nI d)), (3, .int (nI s.1)), (4, .int (nI k))] [] (wld G σ2) := by
          intro K2 c2 σ2 hRK2 hc2 hm2 hs2 hr2 hF2
          refine V.iinc C (nI (k + 1)) dX10_cutEnds_156 rfl (nI_1 k) (by decide) ?_
          refine V.goto C 9 dX10_cutEnds_159 rfl ?_
          refine V.lvs (lv' := [(0, Rf G 123), (1, .int (nI i)), (2, .int (nI d)), (3, .int (nI s.1)), (4, .int (nI (k + 1)))]) rfl ?_
          refine ih (k + 1) K2 c2 σ2 (by omega) (by omega) hRK2 hc2 (fun x h => hm2 x (hle x h)) (fun h => hs2 (hsn h)) (fun j hj => ?_) hF2
          rcases Nat.lt_or_ge j k with q_ | q_
          · exact (hr1 j q_).mono hm2
          · have : j = k := by omega
            rw [this]; exact hr2
        have J123 : ∀ (l : Bool) (x7 : Int32) (K1 : Nat → Bool) (c1 : Bool) (σ2 : SS), isV (trm s d k) = true → (l = true ↔ (k = s.1 - 1 ∨ sameP (trm s d) (k + 1) = false)) → RKm σ2 K1 → σ2.1 123 18 = bI c1 → (∀ x, Kk x = true → K1 x = true) → (Snd P Kk → Snd P K1) → ((k = 0 ∨ sameP (trm s d) k = false) → 0 < vb (trm s d k) % 16 → K1 (vb (trm s d k)) = true) → FM [18] [131] σ σ2 → V G X 9 0 0 123 [(0, Rf G 123), (1, .int (nI i)), (2, .int (nI d)), (3, .int (nI s.1)), (4, .int (nI k)), (5, .int (nI (trm s d k))), (6, .int (nI (vb (trm s d k)))), (7, .int x7), (8, .int (bI l))] [] (wld G σ2) := by
          intro l x7 K1 c1 σ2 zv hl hRK1 hc1 hm1 hs1 hfst hF1
          have v128_ := v128 zv
          refine V.iload C rfl dX10_cutEnds_123 ?_
          refine V.if_eq C 156 dX10_cutEnds_125 rfl (fun hb_125 => ?_) (fun hb_125 => ?_)
          · have z125_ := bI_eq0 hb_125
            refine V.lvs (lv' := [(0, Rf G 123), (1, .int (nI i)), (2, .int (nI d)), (3, .int (nI s.1)), (4, .int (nI k))]) rfl ?_
            exact J156 K1 c1 σ2 hRK1 hc1 hm1 hs1 (fun _ => ⟨hfst, fun q1 q2 => absurd (hl.mpr q1) (by rw [z125_]; decide)⟩) hF1
          · have z125_ := bI_ne0 hb_125
            have w16_ := hwf.1 (vb (trm s d k) / 16) (by omega)
            refine V.iload C rfl dX10_cutEnds_128 ?_
            refine V.bipush C (nI 16) b_16 dX10_cutEnds_130 ?_
            refine V.irem C (by decide) dX10_cutEnds_132 ?_
            rw [nI_rem (by omega) (by decide) (by decide)]
            refine V.iconst C (nI 1) c_1 dX10_cutEnds_133 ?_
            refine V.iadd C dX10_cutEnds_134 ?_
            rw [nI_add]
            refine V.aload_n C 0 rfl rfl dX10_cutEnds_135 ?_
            refine V.getR C fX10_7 dX10_cutEnds_136 (by assumption) rfl ?_
            refine V.iload C rfl dX10_cutEnds_139 ?_
            refine V.bipush C (nI 16) b_16 dX10_cutEnds_141 ?_
            refine V.idiv C (by decide) dX10_cutEnds_143 ?_
            rw [nI_div (by omega) (by decide) (by decide)]
            refine V.ialdN C dX10_cutEnds_144 (by assumption) (by omega) ?_
            rw [hF1.a (by decide), hP.1 _ (by omega)]
            refine V.icmp_ge C 156 dX10_cutEnds_145 rfl (fun hb_145 => ?_) (fun hb_145 => ?_)
            · have z145_ : ¬ vb (trm s d k) % 16 + 1 < P.1 (vb (trm s d k) / 16) := fun q => absurd ((nI_leI (by omega) (by omega)).mp hb_145) (by omega)
              refine V.lvs (lv' := [(0, Rf G 123), (1, .int (nI i)), (2, .int (nI d)), (3, .int (nI s.1)), (4, .int (nI k))]) rfl ?_
              exact J156 K1 c1 σ2 hRK1 hc1 hm1 hs1 (fun _ => ⟨hfst, fun q1 q2 => absurd q2 z145_⟩) hF1
            · have z145_ : vb (trm s d k) % 16 + 1 < P.1 (vb (trm s d k) / 16) := Nat.lt_of_not_le (fun q => hb_145 (nI_le q (by omega)))
              refine V.aload_n C 0 rfl rfl dX10_cutEnds_148 ?_
              refine V.iload C rfl dX10_cutEnds_149 ?_
              refine V.iconst C (nI 1) c_1 dX10_cutEnds_151 ?_
              refine V.iadd C dX10_cutEnds_152 ?_
              rw [nI_add]
              refine V.cVv C lX10_175 oX10_addCut dX10_cutEnds_153 (ct_M_addCut G σ2 K1 c1 (vb (trm s d k) + 1) hRK1 hc1 (by have := hwf.1 (vb (trm s d k) / 16) (by omega); omega)) (by assumption) rfl rfl (Nat.le_of_ble_eq_true rfl) ⟨Nat.le_of_ble_eq_true rfl, Nat.le_of_ble_eq_true rfl⟩ ⟨Nat.le_of_ble_eq_true rfl, Nat.le_of_ble_eq_true rfl⟩ (fun σ153 pp_153 => ?_)
              refine V.lvs (lv' := [(0, Rf G 123), (1, .int (nI i)), (2, .int (nI d)), (3, .int (nI s.1)), (4, .int (nI k))]) rfl ?_
              exact J156 (upK K1 (vb (trm s d k) + 1)) _ σ153 pp_153.1 pp_153.2.1 (fun x h => upK_mono _ _ x (hm1 x h)) (fun h => (hs1 h).up (fun K' hc' => ((hc'.r1 his d) k hk8 zv).2 (hl.mp z125_) z145_)) (fun _ => ⟨fun a b => upK_mono _ _ _ (hfst a b), fun _ _ => upK_self _ _⟩) (hF1.trans pp_153.2.2)
        have J104 : ∀ (f l : Bool), isV (trm s d k) = true → (f = true ↔ (k = 0 ∨ sameP (trm s d) k = false)) → (l = true ↔ (k = s.1 - 1 ∨ sameP (trm s d) (k + 1) = false)) → V G X 9 0 0 104 [(0, Rf G 123), (1, .int (nI i)), (2, .int (nI d)), (3, .int (nI s.1)), (4, .int (nI k)), (5, .int (nI (trm s d k))), (6, .int (nI (vb (trm s d k)))), (7, .int (bI f)), (8, .int (bI l))] [] (wld G σ1) := by
          intro f l zv hf hl
          have v128_ := v128 zv
          refine V.iload C rfl dX10_cutEnds_104 ?_
          refine V.if_eq C 123 dX10_cutEnds_106 rfl (fun hb_106 => ?_) (fun hb_106 => ?_)
          · have z106_ := bI_eq0 hb_106
            refine V.lvs (lv' := [(0, Rf G 123), (1, .int (nI i)), (2, .int (nI d)), (3, .int (nI s.1)), (4, .int (nI k)), (5, .int (nI (trm s d k))), (6, .int (nI (vb (trm s d k)))), (7, .int (bI f)), (8, .int (bI l))]) rfl ?_
            exact J123 l _ Kk c σ1 zv hl hRK hc (fun _ h => h) (fun h => h) (fun q1 q2 => absurd (hf.mpr q1) (by rw [z106_]; decide)) hF
          · have z106_ := bI_ne0 hb_106
            refine V.iload C rfl dX10_cutEnds_109 ?_
            refine V.bipush C (nI 16) b_16 dX10_cutEnds_111 ?_
            refine V.irem C (by decide) dX10_cutEnds_113 ?_
            rw [nI_rem (by omega) (by decide) (by decide)]
            refine V.if_le C 123 dX10_cutEnds_114 rfl (fun hb_114 => ?_) (fun hb_114 => ?_)
            · have z114_ : ¬ 0 < vb (trm s d k) % 16 := by have := (nI_leI (by omega) (by decide)).mp (show nI (vb (trm s d k) % 16) ≤ nI 0 from hb_114); omega
              refine V.lvs (lv' := [(0, Rf G 123), (1, .int (nI i)), (2, .int (nI d)), (3, .int (nI s.1)), (4, .int (nI k)), (5, .int (nI (trm s d k))), (6, .int (nI (vb (trm s d k)))), (7, .int (bI f)), (8, .int (bI l))]) rfl ?_
              exact J123 l _ Kk c σ1 zv hl hRK hc (fun _ h => h) (fun h => h) (fun q1 q2 => absurd q2 z114_) hF
            · have z114_ : 0 < vb (trm s d k) % 16 := Nat.pos_of_ne_zero (fun q => hb_114 (by rw [q]; decide))
              refine V.aload_n C 0 rfl rfl dX10_cutEnds_117 ?_
              refine V.iload C rfl dX10_cutEnds_118 ?_
              refine V.cVv C lX10_175 oX10_addCut dX10_cutEnds_120 (ct_M_addCut G σ1 Kk c (vb (trm s d k)) hRK hc v128_) (by assumption) rfl rfl (Nat.le_of_ble_eq_true rfl) ⟨Nat.le_of_ble_eq_true rfl, Nat.le_of_ble_eq_true rfl⟩ ⟨Nat.le_of_ble_eq_true rfl, Nat.le_of_ble_eq_true rfl⟩ (fun σ120 pp_120 => ?_)
              refine V.lvs (lv' := [(0, Rf G 123), (1, .int (nI i)), (2, .int (nI d)), (3, .int (nI s.1)), (4, .int (nI k)), (5, .int (nI (trm s d k))), (6, .int (nI (vb (trm s d k)))), (7, .int (bI f)), (8, .int (bI l))]) rfl ?_
              exact J123 l _ (upK Kk (vb (trm s d k))) _ σ120 zv hl pp_120.1 pp_120.2.1 (upK_mono _ _) (fun h => h.up (fun K' hc' => ((hc'.r1 his d) k hk8 zv).1 (hf.mp z106_) z114_)) (fun _ _ => upK_self _ _) (hF.trans pp_120.2.2)
        have J71 : ∀ (f : Bool), isV (trm s d k) = true → (f = true ↔ (k = 0 ∨ sameP (trm s d) k = false)) → V G X 9 0 0 71 [(0, Rf G 123), (1, .int (nI i)), (2, .int (nI d)), (3, .int (nI s.1)), (4, .int (nI k)), (5, .int (nI (trm s d k))), (6, .int (nI (vb (trm s d k)))), (7, .int (bI f))] [] (wld G σ1) := by
          intro f zv hf
          refine V.iload C rfl dX10_cutEnds_71 ?_
          refine V.iload_n C 3 rfl rfl dX10_cutEnds_73 ?_
          refine V.iconst C (nI 1) c_1 dX10_cutEnds_74 ?_
          refine V.isub C dX10_cutEnds_75 ?_
          refine V.icmp_eq C 97 dX10_cutEnds_76 rfl (fun hb_76 => ?_) (fun hb_76 => ?_)
          · have z76_ : k = s.1 - 1 := by rw [nI_sub (by omega)] at hb_76; exact nI_pe (by omega) (by omega) hb_76
            refine V.iconst C (nI 1) c_1 dX10_cutEnds_97 ?_
            refine V.goto C 102 dX10_cutEnds_98 rfl ?_
            refine V.istore C dX10_cutEnds_102 (by decide) ?_
            refine V.lvs (lv' := [(0, Rf G 123), (1, .int (nI i)), (2, .int (nI d)), (3, .int (nI s.1)), (4, .int (nI k)), (5, .int (nI (trm s d k))), (6, .int (nI (vb (trm s d k)))), (7, .int (bI f)), (8, .int (bI true))]) rfl ?_
            exact J104 f true zv hf (⟨fun _ => Or.inl z76_, fun _ => rfl⟩)
          · have z76_ : ¬ k = s.1 - 1 := fun q => hb_76 (by rw [nI_sub (by omega), q])
            refine V.iload C rfl dX10_cutEnds_79 ?_
            refine V.aload_n C 0 rfl rfl dX10_cutEnds_81 ?_
            refine V.iload_n C 1 rfl rfl dX10_cutEnds_82 ?_
            refine V.iload_n C 2 rfl rfl dX10_cutEnds_83 ?_
            refine V.iload C rfl dX10_cutEnds_84 ?_
            refine V.iconst C (nI 1) c_1 dX10_cutEnds_86 ?_
            refine V.iadd C dX10_cutEnds_87 ?_
            rw [nI_add]
            refine V.cVi C lX10_161 oX10_bitOf dX10_cutEnds_88 (ct_M_bitOf G σ1 P i d (k + 1) s hP1 hwf hs hd (by omega)) (by assumption) rfl rfl (Nat.le_of_ble_eq_true rfl) ⟨Nat.le_of_ble_eq_true rfl, Nat.le_of_ble_eq_true rfl⟩ ⟨Nat.le_of_ble_eq_true rfl, Nat.le_of_ble_eq_true rfl⟩ (fun rr_88 σ88 pp_88 => ?_)
            obtain ⟨ee_88, ff_88⟩ := pp_88
            rw [ee_88, ff_88]
            refine V.cSi C lX10_171 oX10_areOfOnePart dX10_cutEnds_91 (ct_M_one G σ1 (trm s d k) (trm s d (k + 1)) bk_ (ok_ _ (by omega)).1) rfl rfl (Nat.le_of_ble_eq_true rfl) ⟨Nat.le_of_ble_eq_true rfl, Nat.le_of_ble_eq_true rfl⟩ ⟨Nat.le_of_ble_eq_true rfl, Nat.le_of_ble_eq_true rfl⟩ (fun rr_91 σ91 pp_91 => ?_)
            obtain ⟨ee_91, ff_91⟩ := pp_91
            rw [ee_91, ff_91]
            refine V.if_ne C 101 dX10_cutEnds_94 rfl (fun hb_94 => ?_) (fun hb_94 => ?_)
            · have z94_ := of_decide_eq_true (bI_ne0 hb_94)
              refine V.iconst C (nI 0) c_0 dX10_cutEnds_101 ?_
              refine V.istore C dX10_cutEnds_102 (by decide) ?_
              refine V.lvs (lv' := [(0, Rf G 123), (1, .int (nI i)), (2, .int (nI d)), (3, .int (nI s.1)), (4, .int (nI k)), (5, .int (nI (trm s d k))), (6, .int (nI (vb (trm s d k)))), (7, .int (bI f)), (8, .int (bI false))]) rfl ?_
              exact J104 f false zv hf (⟨fun q => absurd q (by decide), fun q => by
                  rcases q with q | q
                  · exact absurd q z76_
                  · exact absurd z94_.symm (of_decide_eq_false q)⟩)
            · have z94_ := of_decide_eq_false (bI_eq0 hb_94)
              refine V.iconst C (nI 1) c_1 dX10_cutEnds_97 ?_
              refine V.goto C 102 dX10_cutEnds_98 rfl ?_
              refine V.istore C dX10_cutEnds_102 (by decide) ?_
              refine V.lvs (lv' := [(0, Rf G 123), (1, .int (nI i)), (2, .int (nI d)), (3, .int (nI s.1)), (4, .int (nI k)), (5, .int (nI (trm s d k))), (6, .int (nI (vb (trm s d k)))), (7, .int (bI f)), (8, .int (bI true))]) rfl ?_
              exact J104 f true zv hf (⟨fun _ => Or.inr (decide_eq_false (fun q => z94_ q.symm)), fun _ => rfl⟩)
        refine V.aload_n C 0 rfl rfl dX10_cutEnds_15 ?_
        refine V.iload_n C 1 rfl rfl dX10_cutEnds_16 ?_
        refine V.iload_n C 2 rfl rfl dX10_cutEnds_17 ?_
        refine V.iload C rfl dX10_cutEnds_18 ?_
        refine V.cVi C lX10_161 oX10_bitOf dX10_cutEnds_20 (ct_M_bitOf G σ1 P i d k s hP1 hwf hs hd hk8) (by assumption) rfl rfl (Nat.le_of_ble_eq_true rfl) ⟨Nat.le_of_ble_eq_true rfl, Nat.le_of_ble_eq_true rfl⟩ ⟨Nat.le_of_ble_eq_true rfl, Nat.le_of_ble_eq_true rfl⟩ (fun rr_20 σ20 pp_20 => ?_)
        obtain ⟨ee_20, ff_20⟩ := pp_20
        rw [ee_20, ff_20]
        refine V.istore C dX10_cutEnds_23 (by decide) ?_
        refine V.aload_n C 0 rfl rfl dX10_cutEnds_25 ?_
        refine V.iload C rfl dX10_cutEnds_26 ?_
        refine V.cVi C lX10_165 oX10_isOfVariable dX10_cutEnds_28 (ct_M_isOV G σ1 (trm s d k) bk_) (by assumption) rfl rfl (Nat.le_of_ble_eq_true rfl) ⟨Nat.le_of_ble_eq_true rfl, Nat.le_of_ble_eq_true rfl⟩ ⟨Nat.le_of_ble_eq_true rfl, Nat.le_of_ble_eq_true rfl⟩ (fun rr_28 σ28 pp_28 => ?_)
        obtain ⟨ee_28, ff_28⟩ := pp_28
        rw [ee_28, ff_28]
        refine V.if_eq C 156 dX10_cutEnds_31 rfl (fun hb_31 => ?_) (fun hb_31 => ?_)
        · have z31_ := bI_eq0 hb_31
          refine V.lvs (lv' := [(0, Rf G 123), (1, .int (nI i)), (2, .int (nI d)), (3, .int (nI s.1)), (4, .int (nI k))]) rfl ?_
          exact J156 Kk c σ1 hRK hc (fun _ h => h) (fun h => h) (fun z => absurd z (by rw [z31_]; decide)) hF
        · have z31_ := bI_ne0 hb_31
          refine V.iload C rfl dX10_cutEnds_34 ?_
          refine V.cSi C lX10_168 oX10_variableBit dX10_cutEnds_36 (ct_M_vb G σ1 (trm s d k) bk_ z31_) rfl rfl (Nat.le_of_ble_eq_true rfl) ⟨Nat.le_of_ble_eq_true rfl, Nat.le_of_ble_eq_true rfl⟩ ⟨Nat.le_of_ble_eq_true rfl, Nat.le_of_ble_eq_true rfl⟩ (fun rr_36 σ36 pp_36 => ?_)
          obtain ⟨ee_36, ff_36⟩ := pp_36
          rw [ee_36, ff_36]
          refine V.istore C dX10_cutEnds_39 (by decide) ?_
          refine V.iload C rfl dX10_cutEnds_41 ?_
          refine V.if_eq C 64 dX10_cutEnds_43 rfl (fun hb_43 => ?_) (fun hb_43 => ?_)
          · have z43_ : k = 0 := nI_pe (by omega) (by decide) (show nI k = nI 0 from hb_43)
            refine V.iconst C (nI 1) c_1 dX10_cutEnds_64 ?_
            refine V.goto C 69 dX10_cutEnds_65 rfl ?_
            refine V.istore C dX10_cutEnds_69 (by decide) ?_
            refine V.lvs (lv' := [(0, Rf G 123), (1, .int (nI i)), (2, .int (nI d)), (3, .int (nI s.1)), (4, .int (nI k)), (5, .int (nI (trm s d k))), (6, .int (nI (vb (trm s d k)))), (7, .int (bI true))]) rfl ?_
            exact J71 true z31_ (⟨fun _ => Or.inl z43_, fun _ => rfl⟩)
          · have z43_ : ¬ k = 0 := fun q => hb_43 (by rw [q]; rfl)
            refine V.iload C rfl dX10_cutEnds_46 ?_
            refine V.aload_n C 0 rfl rfl dX10_cutEnds_48 ?_
            refine V.iload_n C 1 rfl rfl dX10_cutEnds_49 ?_
            refine V.iload_n C 2 rfl rfl dX10_cutEnds_50 ?_
            refine V.iload C rfl dX10_cutEnds_51 ?_
            refine V.iconst C (nI 1) c_1 dX10_cutEnds_53 ?_
            refine V.isub C dX10_cutEnds_54 ?_
            rw [nI_sub (by omega)]
            refine V.cVi C lX10_161 oX10_bitOf dX10_cutEnds_55 (ct_M_bitOf G σ1 P i d (k - 1) s hP1 hwf hs hd (by omega)) (by assumption) rfl rfl (Nat.le_of_ble_eq_true rfl) ⟨Nat.le_of_ble_eq_true rfl, Nat.le_of_ble_eq_true rfl⟩ ⟨Nat.le_of_ble_eq_true rfl, Nat.le_of_ble_eq_true rfl⟩ (fun rr_55 σ55 pp_55 => ?_)
            obtain ⟨ee_55, ff_55⟩ := pp_55
            rw [ee_55, ff_55]
            refine V.cSi C lX10_171 oX10_areOfOnePart dX10_cutEnds_58 (ct_M_one G σ1 (trm s d k) (trm s d (k - 1)) bk_ (ok_ _ (by omega)).1) rfl rfl (Nat.le_of_ble_eq_true rfl) ⟨Nat.le_of_ble_eq_true rfl, Nat.le_of_ble_eq_true rfl⟩ ⟨Nat.le_of_ble_eq_true rfl, Nat.le_of_ble_eq_true rfl⟩ (fun rr_58 σ58 pp_58 => ?_)
            obtain ⟨ee_58, ff_58⟩ := pp_58
            rw [ee_58, ff_58]
            refine V.if_ne C 68 dX10_cutEnds_61 rfl (fun hb_61 => ?_) (fun hb_61 => ?_)
            · have z61_ := of_decide_eq_true (bI_ne0 hb_61)
              refine V.iconst C (nI 0) c_0 dX10_cutEnds_68 ?_
              refine V.istore C dX10_cutEnds_69 (by decide) ?_
              refine V.lvs (lv' := [(0, Rf G 123), (1, .int (nI i)), (2, .int (nI d)), (3, .int (nI s.1)), (4, .int (nI k)), (5, .int (nI (trm s d k))), (6, .int (nI (vb (trm s d k)))), (7, .int (bI false))]) rfl ?_
              exact J71 false z31_ (⟨fun q => absurd q (by decide), fun q => by
                  rcases q with q | q
                  · exact absurd q z43_
                  · exact absurd z61_ (of_decide_eq_false q)⟩)
            · have z61_ := of_decide_eq_false (bI_eq0 hb_61)
              refine V.iconst C (nI 1) c_1 dX10_cutEnds_64 ?_
              refine V.goto C 69 dX10_cutEnds_65 rfl ?_
              refine V.istore C dX10_cutEnds_69 (by decide) ?_
              refine V.lvs (lv' := [(0, Rf G 123), (1, .int (nI i)), (2, .int (nI d)), (3, .int (nI s.1)), (4, .int (nI k)), (5, .int (nI (trm s d k))), (6, .int (nI (vb (trm s d k)))), (7, .int (bI true))]) rfl ?_
              exact J71 true z31_ (⟨fun _ => Or.inr (decide_eq_false z61_), fun _ => rfl⟩)
  refine V.aload_n C 0 rfl rfl dX10_cutEnds_0 ?_
  refine V.iload_n C 1 rfl rfl dX10_cutEnds_1 ?_
  refine V.cVi C lX10_158 oX10_widthOf dX10_cutEnds_2 (ct_M_wOf G σ P i s hP hwf hs) (by assumption) rfl rfl (Nat.le_of_ble_eq_true rfl) ⟨Nat.le_of_ble_eq_true rfl, Nat.le_of_ble_eq_true rfl⟩ ⟨Nat.le_of_ble_eq_true rfl, Nat.le_of_ble_eq_true rfl⟩ (fun rr_2 σ2 pp_2 => ?_)
  obtain ⟨ee_2, ff_2⟩ := pp_2
  rw [ee_2, ff_2]
  refine V.istore_n C 3 dX10_cutEnds_5 rfl (by decide) ?_
  refine V.iconst C (nI 0) c_0 dX10_cutEnds_6 ?_
  refine V.istore C dX10_cutEnds_7 (by decide) ?_
  refine V.lvs (lv' := [(0, Rf G 123), (1, .int (nI i)), (2, .int (nI d)), (3, .int (nI s.1)), (4, .int (nI 0))]) rfl ?_
  exact loop (s.1 + 1) 0 K c0 σ (by omega) (by omega) hK hc (fun _ h => h) (fun h => h) (fun j hj => absurd hj (by omega)) (FM.refl _ _ _)
