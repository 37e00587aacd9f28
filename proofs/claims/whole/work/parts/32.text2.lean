/-! Text: signs and words. -/
def sNat (i k : Nat) : Nat := (([[98, 105, 116, 115], [110, 111, 116]] : List (List Nat)).getD i []).getD k 0
theorem sNat_b : ∀ i, i < 2 → ∀ k, k < sLen i → sByt i k = nI (sNat i k) ∧ sNat i k < 256 := by decide +kernel
/-- the text's cells: n signs ch -/
def RT (σ : SS) (n : Nat) (ch : Nat → Nat) : Prop := σ.1 1 1 = nI n ∧ n ≤ 200 ∧ ∀ i, i < n → σ.2.1 2 i = nI (ch i) ∧ ch i < 256
theorem RT.fr {σ σ1 : SS} {n : Nat} {ch : Nat → Nat} {a b : Nat} (h : RT σ n ch) (hF : Fr a b σ σ1) (hc : b ≤ 1 ∨ 3 ≤ a) : RT σ1 n ch := by
  unfold RT; rw [hF.F (k := 1) (by omega), hF.A (k := 2) (by omega)]; exact h
theorem RT.same {σ σ1 : SS} {n : Nat} {ch : Nat → Nat} (h : RT σ n ch) (h1 : σ1.1 1 1 = σ.1 1 1) (h2 : σ1.2.1 2 = σ.2.1 2) : RT σ1 n ch := by
  unfold RT; rw [h1, h2]; exact h
def wEq (ch : Nat → Nat) (a s i : Nat) : Bool := decide (s = sLen i ∧ ∀ j, j < s → ch (a + j) = sNat i j)
def kwT (ch : Nat → Nat) (a s : Nat) : Nat := if s = 1 ∧ ch a < 105 then 258 else if wEq ch a s 0 then 259 else if wEq ch a s 1 then 260 else 256
theorem nar_char {k : Nat} (h : k < 256) : vp_nar .char (nI k) = nI k := (by decide +kernel : ∀ k, k < 256 → vp_nar .char (nI k) = nI k) k h
set_option maxRecDepth 100000 in
set_option maxHeartbeats 4000000 in
theorem ct_Tx_length (G : Gl) (σ : SS) : CI G mX8_length [Rf G 1] σ (fun r σ1 => r = σ.1 1 1 ∧ σ1 = σ) := by
  refine Ctr.of oX8_length (Nat.le_of_ble_eq_true rfl) ?_
  intro X C R hnm hz0
  have C : Cx G X cX8_length 1 RX8 0 0 0 0 := C
  have R : Cr G X (some .int) 0 0 _ := R
  show V G X 1 0 0 0 [(0, Rf G 1)] [] (wld G σ)
  have kk_1 := sk_1
  have kk_2 := sk_2
  have kk_3 := sk_3
  have kk_4 := sk_4
  have kk_5 := sk_5
  refine V.aload_n C 0 rfl rfl dX8_length_0 ?_
  refine V.getI C fX8_25 dX8_length_1 (by assumption) rfl ?_
  exact V.iretS C R dX8_length_4 ⟨rfl, rfl⟩
set_option maxRecDepth 100000 in
set_option maxHeartbeats 4000000 in
theorem ct_Tx_isFull (G : Gl) (σ : SS) (n : Nat) (ch : Nat → Nat) (hT : RT σ n ch) : CI G mX8_isFull [Rf G 1] σ (fun r σ1 => r = bI (decide (¬ n < 200)) ∧ σ1 = σ) := by
  refine Ctr.of oX8_isFull (Nat.le_of_ble_eq_true rfl) ?_
  intro X C R hnm hz0
  have C : Cx G X cX8_isFull 1 RX8 0 0 0 0 := C
  have R : Cr G X (some .boolean) 0 0 _ := R
  show V G X 1 0 0 0 [(0, Rf G 1)] [] (wld G σ)
  have kk_1 := sk_1
  have kk_2 := sk_2
  have kk_3 := sk_3
  have kk_4 := sk_4
  have kk_5 := sk_5
  have hn2 := hT.2.1
  refine V.aload_n C 0 rfl rfl dX8_isFull_0 ?_
  refine V.getI C fX8_25 dX8_isFull_1 (by assumption) rfl ?_
  rw [hT.1]
  refine V.sipush C (nI 200) s_200 dX8_isFull_4 ?_
  refine V.icmp_lt C 14 dX8_isFull_7 rfl (fun hb_7 => ?_) (fun hb_7 => ?_)
  · have z_ : n < 200 := (nI_ltI (by omega) (by decide)).mp hb_7
    refine V.iconst C (nI 0) c_0 dX8_isFull_14 ?_
    exact V.zretS C R dX8_isFull_15 (by first | exact Or.inl rfl | exact Or.inr rfl | exact bI01 _) ⟨by simp only [z_, not_true, decide_false]; rfl, rfl⟩
  · have z_ : ¬ n < 200 := fun q => hb_7 (nI_lt q (by decide))
    refine V.iconst C (nI 1) c_1 dX8_isFull_10 ?_
    refine V.goto C 15 dX8_isFull_11 rfl ?_
    exact V.zretS C R dX8_isFull_15 (by first | exact Or.inl rfl | exact Or.inr rfl | exact bI01 _) ⟨by simp only [z_, not_false_iff, decide_true]; rfl, rfl⟩
set_option maxRecDepth 100000 in
set_option maxHeartbeats 4000000 in
theorem ct_Tx_clear (G : Gl) (σ : SS) : CV G mX8_clear [Rf G 1] σ (fun σ1 => σ1 = sF σ 1 1 (nI 0)) := by
  refine Ctr.of oX8_clear (Nat.le_of_ble_eq_true rfl) ?_
  intro X C R hnm hz0
  have C : Cx G X cX8_clear 1 RX8 0 0 0 0 := C
  have R : Cr G X none 0 0 _ := R
  show V G X 1 0 0 0 [(0, Rf G 1)] [] (wld G σ)
  have kk_1 := sk_1
  have kk_2 := sk_2
  have kk_3 := sk_3
  have kk_4 := sk_4
  have kk_5 := sk_5
  refine V.aload_n C 0 rfl rfl dX8_clear_0 ?_
  refine V.iconst C (nI 0) c_0 dX8_clear_1 ?_
  refine V.putI C fX8_25 dX8_clear_2 (by assumption) rfl ?_
  exact V.vretS C R dX8_clear_5 rfl
set_option maxRecDepth 100000 in
set_option maxHeartbeats 4000000 in
theorem ct_Tx_add (G : Gl) (σ : SS) (n k : Nat) (ch : Nat → Nat) (hT : RT σ n ch) (hn : n < 200) (hk : k < 256) : CV G mX8_add [Rf G 1, .int (nI k)] σ (fun σ1 => RT σ1 (n + 1) (va_up ch n k) ∧ Fr 1 3 σ σ1) := by
  refine Ctr.of oX8_add (Nat.le_of_ble_eq_true rfl) ?_
  intro X C R hnm hz0
  have C : Cx G X cX8_add 2 RX8 1 20 0 0 := C
  have R : Cr G X none 0 0 _ := R
  show V G X 2 0 0 0 [(0, Rf G 1), (1, .int (nI k))] [] (wld G σ)
  have kk_1 := sk_1
  have kk_2 := sk_2
  have kk_3 := sk_3
  have kk_4 := sk_4
  have kk_5 := sk_5
  refine V.aload_n C 0 rfl rfl dX8_add_0 ?_
  refine V.cVi C lX8_29 oX8_isFull dX8_add_1 (ct_Tx_isFull G σ n ch hT) (by assumption) rfl rfl (Nat.le_of_ble_eq_true rfl) ⟨Nat.le_of_ble_eq_true rfl, Nat.le_of_ble_eq_true rfl⟩ ⟨Nat.le_of_ble_eq_true rfl, Nat.le_of_ble_eq_true rfl⟩ (fun rr_1 σ1 pp_1 => ?_)
  obtain ⟨ee_1, ff_1⟩ := pp_1
  rw [ee_1, ff_1]
  refine V.if_ne C 27 dX8_add_4 rfl (fun hb_4 => ?_) (fun hb_4 => ?_)
  · exact absurd (bI_ne0 hb_4) (by simp [hn])
  · refine V.aload_n C 0 rfl rfl dX8_add_7 ?_
    refine V.getR C fX8_9 dX8_add_8 (by assumption) rfl ?_
    refine V.aload_n C 0 rfl rfl dX8_add_11 ?_
    refine V.getI C fX8_25 dX8_add_12 (by assumption) rfl ?_
    rw [hT.1]
    refine V.iload_n C 1 rfl rfl dX8_add_15 ?_
    refine V.castN C dX8_add_16 (by assumption) (by omega) (nar_char hk) ?_
    refine V.aload_n C 0 rfl rfl dX8_add_17 ?_
    refine V.dup C rfl dX8_add_18 ?_
    refine V.getI C fX8_25 dX8_add_19 (by assumption) rfl ?_
    rw [show (sA σ 2 (va_up (σ.2.1 2) n (nI k))).1 1 1 = nI n from hT.1]
    refine V.iconst C (nI 1) c_1 dX8_add_22 ?_
    refine V.iadd C dX8_add_23 ?_
    rw [show nI n + nI 1 = nI (n + 1) from nI_add n 1]
    refine V.putI C fX8_25 dX8_add_24 (by assumption) rfl ?_
    exact V.vretS C R dX8_add_27 ⟨⟨sF_F _ _ _ _, by omega, fun i hi => by
    show (sA σ 2 _).2.1 2 i = nI (va_up ch n k i) ∧ va_up ch n k i < 256
    rw [sA_A]
    by_cases e_ : i = n
    · rw [e_, up_eq, up_eq]; exact ⟨rfl, hk⟩
    · rw [up_ne _ _ e_, up_ne _ _ e_]; exact hT.2.2 i (by omega)⟩, ((Fr.refl 1 3 σ).sA _ (by omega) (by omega)).sF _ _ (by omega) (by omega)⟩
set_option maxRecDepth 100000 in
set_option maxHeartbeats 4000000 in
theorem ct_Tx_kindOfSign (G : Gl) (σ : SS) (c : Nat) (hc : c < 256) : CI G mX8_kindOfSign [.int (nI c)] σ (fun r σ1 => r = nI (ksC c) ∧ σ1 = σ) := by
  refine Ctr.of oX8_kindOfSign (Nat.le_of_ble_eq_true rfl) ?_
  intro X C R hnm hz0
  have C : Cx G X cX8_kindOfSign 1 RX8 0 0 0 0 := C
  have R : Cr G X (some .int) 0 0 _ := R
  show V G X 1 0 0 0 [(0, .int (nI c))] [] (wld G σ)
  refine V.iload_n C 0 rfl rfl dX8_kindOfSign_0 ?_
  refine V.bipush C (nI 97) b_97 dX8_kindOfSign_1 ?_
  refine V.icmp_lt C 16 dX8_kindOfSign_3 rfl (fun hb_3 => ?_) (fun hb_3 => ?_)
  · have z1_ : c < 97 := (nI_ltI (by omega) (by decide)).mp hb_3
    refine V.iload_n C 0 rfl rfl dX8_kindOfSign_16 ?_
    refine V.bipush C (nI 48) b_48 dX8_kindOfSign_17 ?_
    refine V.icmp_lt C 34 dX8_kindOfSign_19 rfl (fun hb_19 => ?_) (fun hb_19 => ?_)
    · have z3_ : c < 48 := (nI_ltI (by omega) (by decide)).mp hb_19
      refine V.iload_n C 0 rfl rfl dX8_kindOfSign_34 ?_
      exact V.iretS C R dX8_kindOfSign_35 ⟨by rw [show ksC c = c by unfold ksC; rw [if_neg (by unfold isLo; simp; omega), if_neg (by unfold isDg; simp; omega)]], rfl⟩
    · have z3_ : ¬ c < 48 := fun q => hb_19 (nI_lt q (by decide))
      refine V.iload_n C 0 rfl rfl dX8_kindOfSign_22 ?_
      refine V.bipush C (nI 57) b_57 dX8_kindOfSign_23 ?_
      refine V.icmp_gt C 34 dX8_kindOfSign_25 rfl (fun hb_25 => ?_) (fun hb_25 => ?_)
      · have z4_ : 57 < c := (nI_ltI (by decide) (by omega)).mp hb_25
        refine V.iload_n C 0 rfl rfl dX8_kindOfSign_34 ?_
        exact V.iretS C R dX8_kindOfSign_35 ⟨by rw [show ksC c = c by unfold ksC; rw [if_neg (by unfold isLo; simp; omega), if_neg (by unfold isDg; simp; omega)]], rfl⟩
      · have z4_ : ¬ 57 < c := fun q => hb_25 (nI_lt q (by omega))
        refine V.sipush C (nI 257) s_257 dX8_kindOfSign_28 ?_
        refine V.goto C 35 dX8_kindOfSign_31 rfl ?_
        exact V.iretS C R dX8_kindOfSign_35 ⟨by rw [ksC_dg (by unfold isDg; simp; omega)], rfl⟩
  · have z1_ : ¬ c < 97 := fun q => hb_3 (nI_lt q (by decide))
    refine V.iload_n C 0 rfl rfl dX8_kindOfSign_6 ?_
    refine V.bipush C (nI 122) b_122 dX8_kindOfSign_7 ?_
    refine V.icmp_gt C 16 dX8_kindOfSign_9 rfl (fun hb_9 => ?_) (fun hb_9 => ?_)
    · have z2_ : 122 < c := (nI_ltI (by decide) (by omega)).mp hb_9
      refine V.iload_n C 0 rfl rfl dX8_kindOfSign_16 ?_
      refine V.bipush C (nI 48) b_48 dX8_kindOfSign_17 ?_
      refine V.icmp_lt C 34 dX8_kindOfSign_19 rfl (fun hb_19 => ?_) (fun hb_19 => ?_)
      · have z3_ : c < 48 := (nI_ltI (by omega) (by decide)).mp hb_19
        refine V.iload_n C 0 rfl rfl dX8_kindOfSign_34 ?_
        exact V.iretS C R dX8_kindOfSign_35 ⟨by rw [show ksC c = c by unfold ksC; rw [if_neg (by unfold isLo; simp; omega), if_neg (by unfold isDg; simp; omega)]], rfl⟩
      · have z3_ : ¬ c < 48 := fun q => hb_19 (nI_lt q (by decide))
        refine V.iload_n C 0 rfl rfl dX8_kindOfSign_22 ?_
        refine V.bipush C (nI 57) b_57 dX8_kindOfSign_23 ?_
        refine V.icmp_gt C 34 dX8_kindOfSign_25 rfl (fun hb_25 => ?_) (fun hb_25 => ?_)
        · have z4_ : 57 < c := (nI_ltI (by decide) (by omega)).mp hb_25
          refine V.iload_n C 0 rfl rfl dX8_kindOfSign_34 ?_
          exact V.iretS C R dX8_kindOfSign_35 ⟨by rw [show ksC c = c by unfold ksC; rw [if_neg (by unfold isLo; simp; omega), if_neg (by unfold isDg; simp; omega)]], rfl⟩
        · have z4_ : ¬ 57 < c := fun q => hb_25 (nI_lt q (by omega))
          refine V.sipush C (nI 257) s_257 dX8_kindOfSign_28 ?_
          refine V.goto C 35 dX8_kindOfSign_31 rfl ?_
          exact V.iretS C R dX8_kindOfSign_35 ⟨by rw [ksC_dg (by unfold isDg; simp; omega)], rfl⟩
    · have z2_ : ¬ 122 < c := fun q => hb_9 (nI_lt q (by omega))
      refine V.sipush C (nI 256) s_256 dX8_kindOfSign_12 ?_
      exact V.iretS C R dX8_kindOfSign_15 ⟨by rw [ksC_lo (by unfold isLo; simp; omega)], rfl⟩
set_option maxRecDepth 100000 in
set_option maxHeartbeats 4000000 in
theorem ct_Tx_isWord (G : Gl) (σ : SS) (n a s i : Nat) (ch : Nat → Nat) (hT : RT σ n ch) (has : a + s ≤ n) (hi : i < 2) : CI G mX8_isWord [Rf G 1, .int (nI a), .int (nI s), .ref (G.2.2 (10 + i))] σ (fun r σ1 => r = bI (wEq ch a s i) ∧ σ1 = σ) := by
  refine Ctr.of oX8_isWord (Nat.le_of_ble_eq_true rfl) ?_
  intro X C R hnm hz0
  have C : Cx G X cX8_isWord 5 RX8 5 106 0 0 := C
  have R : Cr G X (some .boolean) 0 0 _ := R
  show V G X 5 0 0 0 [(0, Rf G 1), (1, .int (nI a)), (2, .int (nI s)), (3, .ref (G.2.2 (10 + i)))] [] (wld G σ)
  have kk_1 := sk_1
  have kk_2 := sk_2
  have kk_3 := sk_3
  have kk_4 := sk_4
  have kk_5 := sk_5
  have hn2 := hT.2.1
  have hsl := sLen_lt hi
  have loop : ∀ (m k : Nat), s < k + m → k ≤ s → s = sLen i → (∀ j, j < k → ch (a + j) = sNat i j) → V G X 5 0 0 13 [(0, Rf G 1), (1, .int (nI a)), (2, .int (nI s)), (3, .ref (G.2.2 (10 + i))), (4, .int (nI k))] [] (wld G σ) := by
    intro m
    induction m with
    | zero =>
      intro k hm hk hz hall
      exact absurd hm (by omega)
    | succ m ih =>
      intro k hm hk hz hall
      refine V.iload C rfl dX8_isWord_13 ?_
      refine V.iload_n C 2 rfl rfl dX8_isWord_15 ?_
      refine V.icmp_ge C 45 dX8_isWord_16 rfl (fun hb_16 => ?_) (fun hb_16 => ?_)
      · have hk8 : k = s := by have := (nI_leI (by omega) (by omega)).mp hb_16; omega
        refine V.iconst C (nI 1) c_1 dX8_isWord_45 ?_
        exact V.zretS C R dX8_isWord_46 (by first | exact Or.inl rfl | exact Or.inr rfl | exact bI01 _) ⟨by unfold wEq; rw [decide_eq_true ⟨hz, fun j hj => hall j (by omega)⟩]; rfl, rfl⟩
      · have hk8 : k < s := Nat.lt_of_not_le (fun q => hb_16 (nI_le q (by omega)))
        have hs1_ := (sNat_b i hi k (by omega)).2
        have hs2_ := (hT.2.2 (a + k) (by omega)).2
        refine V.aload_n C 0 rfl rfl dX8_isWord_19 ?_
        refine V.getR C fX8_9 dX8_isWord_20 (by assumption) rfl ?_
        refine V.iload_n C 1 rfl rfl dX8_isWord_23 ?_
        refine V.iload C rfl dX8_isWord_24 ?_
        refine V.iadd C dX8_isWord_26 ?_
        rw [nI_add]
        refine V.caldN C dX8_isWord_27 (by assumption) (by omega) ?_
        rw [(hT.2.2 (a + k) (by omega)).1]
        refine V.rload_n C 3 rfl rfl dX8_isWord_28 ?_
        refine V.iload C rfl dX8_isWord_29 ?_
        refine V.callJ C jX8_60 oJ0_charAt_5068e hi dX8_isWord_31 (ct_Js_charAt G σ i k hi (by omega)) rfl rfl (Nat.le_of_ble_eq_true rfl) ⟨Nat.le_of_ble_eq_true rfl, Nat.le_of_ble_eq_true rfl⟩ ⟨Nat.le_of_ble_eq_true rfl, Nat.le_of_ble_eq_true rfl⟩ (fun rr_31 σ31 pp_31 => ?_)
        obtain ⟨ee_31, ff_31⟩ := pp_31
        rw [ee_31, ff_31, (sNat_b i hi k (by omega)).1]
        refine V.icmp_eq C 39 dX8_isWord_34 rfl (fun hb_34 => ?_) (fun hb_34 => ?_)
        · have e_ : ch (a + k) = sNat i k := nI_pe (by omega) (by omega) hb_34
          refine V.iinc C (nI (k + 1)) dX8_isWord_39 rfl (nI_1 k) (by decide) ?_
          refine V.goto C 13 dX8_isWord_42 rfl ?_
          refine V.lvs (lv' := [(0, Rf G 1), (1, .int (nI a)), (2, .int (nI s)), (3, .ref (G.2.2 (10 + i))), (4, .int (nI (k + 1)))]) rfl ?_
          refine ih (k + 1) (by omega) (by omega) hz (fun j hj => ?_)
          rcases Nat.lt_or_ge j k with q_ | q_
          · exact hall j q_
          · have : j = k := by omega
            rw [this]; exact e_
        · have e_ : ¬ ch (a + k) = sNat i k := fun q => hb_34 (by rw [q])
          refine V.iconst C (nI 0) c_0 dX8_isWord_37 ?_
          exact V.zretS C R dX8_isWord_38 (by first | exact Or.inl rfl | exact Or.inr rfl | exact bI01 _) ⟨by unfold wEq; rw [decide_eq_false (fun q => e_ (q.2 k hk8))]; rfl, rfl⟩
  refine V.iload_n C 2 rfl rfl dX8_isWord_0 ?_
  refine V.rload_n C 3 rfl rfl dX8_isWord_1 ?_
  refine V.callJ C jX8_55 oJ0_length_8abf5 hi dX8_isWord_2 (ct_Js_length G σ i hi) rfl rfl (Nat.le_of_ble_eq_true rfl) ⟨Nat.le_of_ble_eq_true rfl, Nat.le_of_ble_eq_true rfl⟩ ⟨Nat.le_of_ble_eq_true rfl, Nat.le_of_ble_eq_true rfl⟩ (fun rr_2 σ2 pp_2 => ?_)
  obtain ⟨ee_2, ff_2⟩ := pp_2
  rw [ee_2, ff_2]
  refine V.icmp_eq C 10 dX8_isWord_5 rfl (fun hb_5 => ?_) (fun hb_5 => ?_)
  · have z_ : s = sLen i := nI_pe (by omega) (sLen_lt hi) hb_5
    refine V.iconst C (nI 0) c_0 dX8_isWord_10 ?_
    refine V.istore C dX8_isWord_11 (by decide) ?_
    refine V.lvs (lv' := [(0, Rf G 1), (1, .int (nI a)), (2, .int (nI s)), (3, .ref (G.2.2 (10 + i))), (4, .int (nI 0))]) rfl ?_
    exact loop (s + 1) 0 (by omega) (by omega) z_ (fun j hj => absurd hj (by omega))
  · have z_ : ¬ s = sLen i := fun q => hb_5 (by rw [q])
    refine V.iconst C (nI 0) c_0 dX8_isWord_8 ?_
    exact V.zretS C R dX8_isWord_9 (by first | exact Or.inl rfl | exact Or.inr rfl | exact bI01 _) ⟨by unfold wEq; rw [decide_eq_false (fun q => z_ q.1)]; rfl, rfl⟩
set_option maxRecDepth 100000 in
set_option maxHeartbeats 4000000 in
theorem ct_Tx_kindOfWord (G : Gl) (σ : SS) (n a s : Nat) (ch : Nat → Nat) (hT : RT σ n ch) (h1 : 1 ≤ s) (has : a + s ≤ n) : CI G mX8_kindOfWord [Rf G 1, .int (nI a), .int (nI s)] σ (fun r σ1 => r = nI (kwT ch a s) ∧ σ1 = σ) := by
  refine Ctr.of oX8_kindOfWord (Nat.le_of_ble_eq_true rfl) ?_
  intro X C R hnm hz0
  have C : Cx G X cX8_kindOfWord 3 RX8 6 130 0 0 := C
  have R : Cr G X (some .int) 0 0 _ := R
  show V G X 3 0 0 0 [(0, Rf G 1), (1, .int (nI a)), (2, .int (nI s))] [] (wld G σ)
  have kk_1 := sk_1
  have kk_2 := sk_2
  have kk_3 := sk_3
  have kk_4 := sk_4
  have kk_5 := sk_5
  have hn2 := hT.2.1
  refine V.iload_n C 2 rfl rfl dX8_kindOfWord_0 ?_
  refine V.iconst C (nI 1) c_1 dX8_kindOfWord_1 ?_
  refine V.icmp_ne C 20 dX8_kindOfWord_2 rfl (fun hb_2 => ?_) (fun hb_2 => ?_)
  · have z1_ : ¬ (s = 1 ∧ ch a < 105) := fun q => hb_2 (by rw [q.1])
    refine V.aload_n C 0 rfl rfl dX8_kindOfWord_20 ?_
    refine V.iload_n C 1 rfl rfl dX8_kindOfWord_21 ?_
    refine V.iload_n C 2 rfl rfl dX8_kindOfWord_22 ?_
    refine V.ldcS C (i := 0) (Or.inl ⟨rfl, rfl, rfl⟩) dX8_kindOfWord_23 ?_
    refine V.cVi C lX8_49 oX8_isWord dX8_kindOfWord_25 (ct_Tx_isWord G σ n a s 0 ch hT has (by omega)) (by assumption) rfl rfl (Nat.le_of_ble_eq_true rfl) ⟨Nat.le_of_ble_eq_true rfl, Nat.le_of_ble_eq_true rfl⟩ ⟨Nat.le_of_ble_eq_true rfl, Nat.le_of_ble_eq_true rfl⟩ (fun rr_25 σ25 pp_25 => ?_)
    obtain ⟨ee_25, ff_25⟩ := pp_25
    rw [ee_25, ff_25]
    refine V.if_eq C 35 dX8_kindOfWord_28 rfl (fun hb_28 => ?_) (fun hb_28 => ?_)
    · have z2_ := bI_eq0 hb_28
      refine V.aload_n C 0 rfl rfl dX8_kindOfWord_35 ?_
      refine V.iload_n C 1 rfl rfl dX8_kindOfWord_36 ?_
      refine V.iload_n C 2 rfl rfl dX8_kindOfWord_37 ?_
      refine V.ldcS C (i := 1) (Or.inr ⟨rfl, rfl, rfl⟩) dX8_kindOfWord_38 ?_
      refine V.cVi C lX8_49 oX8_isWord dX8_kindOfWord_40 (ct_Tx_isWord G σ n a s 1 ch hT has (by omega)) (by assumption) rfl rfl (Nat.le_of_ble_eq_true rfl) ⟨Nat.le_of_ble_eq_true rfl, Nat.le_of_ble_eq_true rfl⟩ ⟨Nat.le_of_ble_eq_true rfl, Nat.le_of_ble_eq_true rfl⟩ (fun rr_40 σ40 pp_40 => ?_)
      obtain ⟨ee_40, ff_40⟩ := pp_40
      rw [ee_40, ff_40]
      refine V.if_eq C 52 dX8_kindOfWord_43 rfl (fun hb_43 => ?_) (fun hb_43 => ?_)
      · have z3_ := bI_eq0 hb_43
        refine V.sipush C (nI 256) s_256 dX8_kindOfWord_52 ?_
        exact V.iretS C R dX8_kindOfWord_55 ⟨by unfold kwT; rw [if_neg z1_, if_neg (by rw [z2_]; decide), if_neg (by rw [z3_]; decide)], rfl⟩
      · have z3_ := bI_ne0 hb_43
        refine V.sipush C (nI 260) s_260 dX8_kindOfWord_46 ?_
        refine V.goto C 55 dX8_kindOfWord_49 rfl ?_
        exact V.iretS C R dX8_kindOfWord_55 ⟨by unfold kwT; rw [if_neg z1_, if_neg (by rw [z2_]; decide), if_pos z3_], rfl⟩
    · have z2_ := bI_ne0 hb_28
      refine V.sipush C (nI 259) s_259 dX8_kindOfWord_31 ?_
      exact V.iretS C R dX8_kindOfWord_34 ⟨by unfold kwT; rw [if_neg z1_, if_pos z2_], rfl⟩
  · have z0_ : s = 1 := nI_pe (by omega) (by decide) hb_2
    have hca_ := (hT.2.2 a (by omega)).2
    refine V.aload_n C 0 rfl rfl dX8_kindOfWord_5 ?_
    refine V.getR C fX8_9 dX8_kindOfWord_6 (by assumption) rfl ?_
    refine V.iload_n C 1 rfl rfl dX8_kindOfWord_9 ?_
    refine V.caldN C dX8_kindOfWord_10 (by assumption) (by omega) ?_
    rw [(hT.2.2 a (by omega)).1]
    refine V.bipush C (nI 105) b_105 dX8_kindOfWord_11 ?_
    refine V.icmp_ge C 20 dX8_kindOfWord_13 rfl (fun hb_13 => ?_) (fun hb_13 => ?_)
    · have z1_ : ¬ (s = 1 ∧ ch a < 105) := fun q => by have := (nI_leI (by decide) (by omega)).mp hb_13; omega
      refine V.aload_n C 0 rfl rfl dX8_kindOfWord_20 ?_
      refine V.iload_n C 1 rfl rfl dX8_kindOfWord_21 ?_
      refine V.iload_n C 2 rfl rfl dX8_kindOfWord_22 ?_
      refine V.ldcS C (i := 0) (Or.inl ⟨rfl, rfl, rfl⟩) dX8_kindOfWord_23 ?_
      refine V.cVi C lX8_49 oX8_isWord dX8_kindOfWord_25 (ct_Tx_isWord G σ n a s 0 ch hT has (by omega)) (by assumption) rfl rfl (Nat.le_of_ble_eq_true rfl) ⟨Nat.le_of_ble_eq_true rfl, Nat.le_of_ble_eq_true rfl⟩ ⟨Nat.le_of_ble_eq_true rfl, Nat.le_of_ble_eq_true rfl⟩ (fun rr_25 σ25 pp_25 => ?_)
      obtain ⟨ee_25, ff_25⟩ := pp_25
      rw [ee_25, ff_25]
      refine V.if_eq C 35 dX8_kindOfWord_28 rfl (fun hb_28 => ?_) (fun hb_28 => ?_)
      · have z2_ := bI_eq0 hb_28
        refine V.aload_n C 0 rfl rfl dX8_kindOfWord_35 ?_
        refine V.iload_n C 1 rfl rfl dX8_kindOfWord_36 ?_
        refine V.iload_n C 2 rfl rfl dX8_kindOfWord_37 ?_
        refine V.ldcS C (i := 1) (Or.inr ⟨rfl, rfl, rfl⟩) dX8_kindOfWord_38 ?_
        refine V.cVi C lX8_49 oX8_isWord dX8_kindOfWord_40 (ct_Tx_isWord G σ n a s 1 ch hT has (by omega)) (by assumption) rfl rfl (Nat.le_of_ble_eq_true rfl) ⟨Nat.le_of_ble_eq_true rfl, Nat.le_of_ble_eq_true rfl⟩ ⟨Nat.le_of_ble_eq_true rfl, Nat.le_of_ble_eq_true rfl⟩ (fun rr_40 σ40 pp_40 => ?_)
        obtain ⟨ee_40, ff_40⟩ := pp_40
        rw [ee_40, ff_40]
        refine V.if_eq C 52 dX8_kindOfWord_43 rfl (fun hb_43 => ?_) (fun hb_43 => ?_)
        · have z3_ := bI_eq0 hb_43
          refine V.sipush C (nI 256) s_256 dX8_kindOfWord_52 ?_
          exact V.iretS C R dX8_kindOfWord_55 ⟨by unfold kwT; rw [if_neg z1_, if_neg (by rw [z2_]; decide), if_neg (by rw [z3_]; decide)], rfl⟩
        · have z3_ := bI_ne0 hb_43
          refine V.sipush C (nI 260) s_260 dX8_kindOfWord_46 ?_
          refine V.goto C 55 dX8_kindOfWord_49 rfl ?_
          exact V.iretS C R dX8_kindOfWord_55 ⟨by unfold kwT; rw [if_neg z1_, if_neg (by rw [z2_]; decide), if_pos z3_], rfl⟩
      · have z2_ := bI_ne0 hb_28
        refine V.sipush C (nI 259) s_259 dX8_kindOfWord_31 ?_
        exact V.iretS C R dX8_kindOfWord_34 ⟨by unfold kwT; rw [if_neg z1_, if_pos z2_], rfl⟩
    · have z1_ : s = 1 ∧ ch a < 105 := ⟨z0_, Nat.lt_of_not_le (fun q => hb_13 (nI_le q (by omega)))⟩
      refine V.sipush C (nI 258) s_258 dX8_kindOfWord_16 ?_
      exact V.iretS C R dX8_kindOfWord_19 ⟨by unfold kwT; rw [if_pos z1_], rfl⟩
