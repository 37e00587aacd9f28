/-! Model: holds, the candidates, the search. -/
def hold3 (w : Int64) : Bool := decide (¬ (w &&& 65535) = 0) && decide (¬ (w &&& 4294901760) = 0) && decide (¬ (w &&& 281470681743360) = 0)
def pk1 (fl : Nat → Int64) (w : Int64) : List Nat → Option Nat
  | [] => none
  | a :: l => if hold3 (w ^^^ fl a) = true then some a else pk1 fl w l
def pk2 (fl : Nat → Int64) (w : Int64) : List Nat → Option (Nat × Nat)
  | [] => none
  | a :: l => match pk1 fl (w ^^^ fl a) l with
    | some b => some (a, b)
    | none => pk2 fl w l
def pk3 (fl : Nat → Int64) (w : Int64) : List Nat → Option (Nat × Nat × Nat)
  | [] => none
  | a :: l => match pk2 fl (w ^^^ fl a) l with
    | some q => some (a, q.1, q.2)
    | none => pk3 fl w l
def RCd (σ : SS) (cs : List Nat) : Prop := σ.1 119 2 = nI cs.length ∧ cs.length ≤ 128 ∧ ∀ (i r : Nat), cs[i]? = some r → σ.2.1 121 i = nI r ∧ r < 128
theorem RCd.fr {σ σ1 : SS} {cs : List Nat} {a b : Nat} (h : RCd σ cs) (hF : Fr a b σ σ1) (hc : b ≤ 119 ∨ 122 ≤ a) : RCd σ1 cs := by
  unfold RCd; rw [hF.F (k := 119) (by omega), hF.A (k := 121) (by omega)]; exact h
theorem drop_cons {cs : List Nat} {i : Nat} (h : i < cs.length) : ∃ r, cs[i]? = some r ∧ cs.drop i = r :: cs.drop (i + 1) := ⟨cs[i], List.getElem?_eq_getElem h, List.drop_eq_getElem_cons h⟩
def candL (fl : Nat → Int64) (n : Nat) : List Nat := (List.range n).filter (fun r => decide (¬ fl r = 0))
theorem candL_succ (fl : Nat → Int64) (n : Nat) : candL fl (n + 1) = candL fl n ++ (if fl n = 0 then [] else [n]) := by
  unfold candL
  rw [List.range_succ, List.filter_append]
  congr 1
  by_cases h : fl n = 0 <;> simp [h]
theorem candL_len (fl : Nat → Int64) : ∀ n, (candL fl n).length ≤ n
  | 0 => by simp [candL]
  | n + 1 => by
    have := candL_len fl n
    rw [candL_succ, List.length_append]
    split <;> simp <;> omega
theorem candL_lt {fl : Nat → Int64} {n r : Nat} (h : r ∈ candL fl n) : r < n := by
  unfold candL at h
  exact List.mem_range.mp (List.mem_filter.mp h).1
set_option maxRecDepth 100000 in
set_option maxHeartbeats 4000000 in
theorem ct_Mo_oneCount (G : Gl) (σ : SS) : CI G mX3_oneCount [Rf G 119] σ (fun r σ1 => r = σ.1 119 4 ∧ σ1 = σ) := by
  refine Ctr.of oX3_oneCount (Nat.le_of_ble_eq_true rfl) ?_
  intro X C R hnm hz0
  have C : Cx G X cX3_oneCount 1 RX3 0 0 0 0 := C
  have R : Cr G X (some .int) 0 0 _ := R
  show V G X 1 0 0 0 [(0, Rf G 119)] [] (wld G σ)
  have kk_119 := sk_119
  have kk_120 := sk_120
  have kk_121 := sk_121
  have kk_122 := sk_122
  refine V.aload_n C 0 rfl rfl dX3_oneCount_0 ?_
  refine V.getI C fX3_22 dX3_oneCount_1 (by assumption) rfl ?_
  exact V.iretS C R dX3_oneCount_4 ⟨rfl, rfl⟩
set_option maxRecDepth 100000 in
set_option maxHeartbeats 4000000 in
theorem ct_Mo_holds (G : Gl) (σ : SS) (w : Int64) : CI G mX3_holds [.long w] σ (fun r σ1 => r = bI (hold3 w) ∧ σ1 = σ) := by
  refine Ctr.of oX3_holds (Nat.le_of_ble_eq_true rfl) ?_
  intro X C R hnm hz0
  have C : Cx G X cX3_holds 2 RX3 0 0 0 0 := C
  have R : Cr G X (some .boolean) 0 0 _ := R
  show V G X 2 0 0 0 [(0, .long w)] [] (wld G σ)
  refine V.lload_n C 0 rfl rfl dX3_holds_0 ?_
  refine V.ldc2 C qX3_86 dX3_holds_1 ?_
  refine V.land C dX3_holds_4 ?_
  refine V.lconst C 0 rfl dX3_holds_5 ?_
  refine V.lcmp C dX3_holds_6 ?_
  refine V.if_eq C 34 dX3_holds_7 rfl (fun hb_7 => ?_) (fun hb_7 => ?_)
  · refine V.iconst C (nI 0) c_0 dX3_holds_34 ?_
    exact V.zretS C R dX3_holds_35 (by first | exact Or.inl rfl | exact Or.inr rfl | exact bI01 _) (by
  have g_7 : (w &&& 65535) = 0 := (lg_cmp_eq _ _).mp hb_7
  refine ⟨?_, rfl⟩
  unfold hold3
  simp only [g_7, not_true, not_false_iff, decide_true, decide_false, Bool.and_true, Bool.and_false, Bool.false_and, Bool.true_and]
  rfl)
  · refine V.lload_n C 0 rfl rfl dX3_holds_10 ?_
    refine V.ldc2 C qX3_88 dX3_holds_11 ?_
    refine V.land C dX3_holds_14 ?_
    refine V.lconst C 0 rfl dX3_holds_15 ?_
    refine V.lcmp C dX3_holds_16 ?_
    refine V.if_eq C 34 dX3_holds_17 rfl (fun hb_17 => ?_) (fun hb_17 => ?_)
    · refine V.iconst C (nI 0) c_0 dX3_holds_34 ?_
      exact V.zretS C R dX3_holds_35 (by first | exact Or.inl rfl | exact Or.inr rfl | exact bI01 _) (by
  have g_7 : ¬ (w &&& 65535) = 0 := fun q => hb_7 ((lg_cmp_eq _ _).mpr q)
  have g_17 : (w &&& 4294901760) = 0 := (lg_cmp_eq _ _).mp hb_17
  refine ⟨?_, rfl⟩
  unfold hold3
  simp only [g_7, g_17, not_true, not_false_iff, decide_true, decide_false, Bool.and_true, Bool.and_false, Bool.false_and, Bool.true_and]
  rfl)
    · refine V.lload_n C 0 rfl rfl dX3_holds_20 ?_
      refine V.ldc2 C qX3_90 dX3_holds_21 ?_
      refine V.land C dX3_holds_24 ?_
      refine V.lconst C 0 rfl dX3_holds_25 ?_
      refine V.lcmp C dX3_holds_26 ?_
      refine V.if_eq C 34 dX3_holds_27 rfl (fun hb_27 => ?_) (fun hb_27 => ?_)
      · refine V.iconst C (nI 0) c_0 dX3_holds_34 ?_
        exact V.zretS C R dX3_holds_35 (by first | exact Or.inl rfl | exact Or.inr rfl | exact bI01 _) (by
  have g_7 : ¬ (w &&& 65535) = 0 := fun q => hb_7 ((lg_cmp_eq _ _).mpr q)
  have g_17 : ¬ (w &&& 4294901760) = 0 := fun q => hb_17 ((lg_cmp_eq _ _).mpr q)
  have g_27 : (w &&& 281470681743360) = 0 := (lg_cmp_eq _ _).mp hb_27
  refine ⟨?_, rfl⟩
  unfold hold3
  simp only [g_7, g_17, g_27, not_true, not_false_iff, decide_true, decide_false, Bool.and_true, Bool.and_false, Bool.false_and, Bool.true_and]
  rfl)
      · refine V.iconst C (nI 1) c_1 dX3_holds_30 ?_
        refine V.goto C 35 dX3_holds_31 rfl ?_
        exact V.zretS C R dX3_holds_35 (by first | exact Or.inl rfl | exact Or.inr rfl | exact bI01 _) (by
  have g_7 : ¬ (w &&& 65535) = 0 := fun q => hb_7 ((lg_cmp_eq _ _).mpr q)
  have g_17 : ¬ (w &&& 4294901760) = 0 := fun q => hb_17 ((lg_cmp_eq _ _).mpr q)
  have g_27 : ¬ (w &&& 281470681743360) = 0 := fun q => hb_27 ((lg_cmp_eq _ _).mpr q)
  refine ⟨?_, rfl⟩
  unfold hold3
  simp only [g_7, g_17, g_27, not_true, not_false_iff, decide_true, decide_false, Bool.and_true, Bool.and_false, Bool.false_and, Bool.true_and]
  rfl)
set_option maxRecDepth 100000 in
set_option maxHeartbeats 4000000 in
theorem ct_Mo_hasOne (G : Gl) (σ : SS) (x : Nat) (os : List Nat) (hn : σ.1 119 4 = nI os.length) (h3 : os.length ≤ 3) (ho : ∀ (i r : Nat), os[i]? = some r → σ.2.1 122 i = nI r ∧ r < 128) (hx : x < 128) : CI G mX3_hasOne [Rf G 119, .int (nI x)] σ (fun r σ1 => r = bI (decide (x ∈ os)) ∧ σ1 = σ) := by
  refine Ctr.of oX3_hasOne (Nat.le_of_ble_eq_true rfl) ?_
  intro X C R hnm hz0
  have C : Cx G X cX3_hasOne 3 RX3 0 0 0 0 := C
  have R : Cr G X (some .boolean) 0 0 _ := R
  show V G X 3 0 0 0 [(0, Rf G 119), (1, .int (nI x))] [] (wld G σ)
  have kk_119 := sk_119
  have kk_120 := sk_120
  have kk_121 := sk_121
  have kk_122 := sk_122
  have loop : ∀ (m k : Nat), os.length < k + m → k ≤ os.length → (∀ j, j < k → ¬ os[j]? = some x) → V G X 3 0 0 2 [(0, Rf G 119), (1, .int (nI x)), (2, .int (nI k))] [] (wld G σ) := by
    intro m
    induction m with
    | zero =>
      intro k hm hk hno
      exact absurd hm (by omega)
    | succ m ih =>
      intro k hm hk hno
      refine V.iload_n C 2 rfl rfl dX3_hasOne_2 ?_
      refine V.aload_n C 0 rfl rfl dX3_hasOne_3 ?_
      refine V.getI C fX3_22 dX3_hasOne_4 (by assumption) rfl ?_
      rw [hn]
      refine V.icmp_ge C 28 dX3_hasOne_7 rfl (fun hb_7 => ?_) (fun hb_7 => ?_)
      · have hk8 : k = os.length := by have := (nI_leI (by omega) (by omega)).mp hb_7; omega
        refine V.iconst C (nI 0) c_0 dX3_hasOne_28 ?_
        exact V.zretS C R dX3_hasOne_29 (by first | exact Or.inl rfl | exact Or.inr rfl | exact bI01 _) ⟨by
    rw [decide_eq_false (fun hm_ => by
      obtain ⟨j, hj⟩ := List.getElem?_of_mem hm_
      have hl_ := (List.getElem?_eq_some_iff.mp hj).1
      exact hno j (by omega) hj)]
    rfl, rfl⟩
      · have hk8 : k < os.length := Nat.lt_of_not_le (fun q => hb_7 (nI_le q (by omega)))
        obtain ⟨r, hkr⟩ : ∃ r, os[k]? = some r := ⟨_, List.getElem?_eq_getElem hk8⟩
        have hr8 := (ho k r hkr).2
        refine V.aload_n C 0 rfl rfl dX3_hasOne_10 ?_
        refine V.getR C fX3_19 dX3_hasOne_11 (by assumption) rfl ?_
        refine V.iload_n C 2 rfl rfl dX3_hasOne_14 ?_
        refine V.ialdN C dX3_hasOne_15 (by assumption) (by omega) ?_
        rw [(ho k r hkr).1]
        refine V.iload_n C 1 rfl rfl dX3_hasOne_16 ?_
        refine V.icmp_ne C 22 dX3_hasOne_17 rfl (fun hb_17 => ?_) (fun hb_17 => ?_)
        · have e_ : ¬ r = x := fun q => hb_17 (by rw [q])
          refine V.iinc C (nI (k + 1)) dX3_hasOne_22 rfl (nI_1 k) (by decide) ?_
          refine V.goto C 2 dX3_hasOne_25 rfl ?_
          refine V.lvs (lv' := [(0, Rf G 119), (1, .int (nI x)), (2, .int (nI (k + 1)))]) rfl ?_
          refine ih (k + 1) (by omega) (by omega) (fun j hj hjx => ?_)
          rcases Nat.lt_or_ge j k with q_ | q_
          · exact hno j q_ hjx
          · have : j = k := by omega
            subst this
            rw [hkr] at hjx
            exact e_ (Option.some.inj hjx)
        · have e_ : r = x := nI_pe (by omega) (by omega) hb_17
          refine V.iconst C (nI 1) c_1 dX3_hasOne_20 ?_
          exact V.zretS C R dX3_hasOne_21 (by first | exact Or.inl rfl | exact Or.inr rfl | exact bI01 _) ⟨by rw [decide_eq_true (by rw [← e_]; exact List.mem_of_getElem? hkr)]; rfl, rfl⟩
  refine V.iconst C (nI 0) c_0 dX3_hasOne_0 ?_
  refine V.istore_n C 2 dX3_hasOne_1 rfl (by decide) ?_
  refine V.lvs (lv' := [(0, Rf G 119), (1, .int (nI x)), (2, .int (nI 0))]) rfl ?_
  exact loop (os.length + 1) 0 (by omega) (by omega) (fun j hj => absurd hj (by omega))
set_option maxRecDepth 100000 in
set_option maxHeartbeats 4000000 in
theorem ct_Mo_gather (G : Gl) (σ : SS) : CV G mX3_gatherCandidates [Rf G 119] σ (fun σ1 => RCd σ1 (candL (σ.2.2.1 120) 128) ∧ Fr 119 122 σ σ1 ∧ σ1.2.2.1 120 = σ.2.2.1 120 ∧ σ1.1 119 4 = σ.1 119 4) := by
  refine Ctr.of oX3_gatherCandidates (Nat.le_of_ble_eq_true rfl) ?_
  intro X C R hnm hz0
  have C : Cx G X cX3_gatherCandidates 2 RX3 0 0 0 0 := C
  have R : Cr G X none 0 0 _ := R
  show V G X 2 0 0 0 [(0, Rf G 119)] [] (wld G σ)
  have kk_119 := sk_119
  have kk_120 := sk_120
  have kk_121 := sk_121
  have kk_122 := sk_122
  have loop : ∀ (m x : Nat) (σ1 : SS), 128 < x + m → x ≤ 128 → RCd σ1 (candL (σ.2.2.1 120) x) → Fr 119 122 σ σ1 → σ1.2.2.1 120 = σ.2.2.1 120 → σ1.1 119 4 = σ.1 119 4 → V G X 2 0 0 7 [(0, Rf G 119), (1, .int (nI x))] [] (wld G σ1) := by
    intro m
    induction m with
    | zero =>
      intro x σ1 hm hx hR hF hL hQ
      exact absurd hm (by omega)
    | succ m ih =>
      intro x σ1 hm hx hR hF hL hQ
      have hlen := candL_len (σ.2.2.1 120) x
      refine V.iload_n C 1 rfl rfl dX3_gatherCandidates_7 ?_
      refine V.sipush C (nI 128) s_128 dX3_gatherCandidates_8 ?_
      refine V.icmp_ge C 51 dX3_gatherCandidates_11 rfl (fun hb_11 => ?_) (fun hb_11 => ?_)
      · have hx8 : x = 128 := by have := (nI_leI (by decide) (by omega)).mp hb_11; omega
        exact V.vretS C R dX3_gatherCandidates_51 ⟨by rw [← hx8]; exact hR, hF, hL, hQ⟩
      · have hx8 : x < 128 := Nat.lt_of_not_le (fun q => hb_11 (nI_le q (by omega)))
        refine V.aload_n C 0 rfl rfl dX3_gatherCandidates_14 ?_
        refine V.getR C fX3_9 dX3_gatherCandidates_15 (by assumption) rfl ?_
        refine V.iload_n C 1 rfl rfl dX3_gatherCandidates_18 ?_
        refine V.laldN C dX3_gatherCandidates_19 (by assumption) (by omega) ?_
        rw [hL]
        refine V.lconst C 0 rfl dX3_gatherCandidates_20 ?_
        refine V.lcmp C dX3_gatherCandidates_21 ?_
        refine V.if_eq C 45 dX3_gatherCandidates_22 rfl (fun hb_22 => ?_) (fun hb_22 => ?_)
        · have z_ : σ.2.2.1 120 x = 0 := (lg_cmp_eq _ _).mp hb_22
          refine V.iinc C (nI (x + 1)) dX3_gatherCandidates_45 rfl (nI_1 x) (by decide) ?_
          refine V.goto C 7 dX3_gatherCandidates_48 rfl ?_
          refine V.lvs (lv' := [(0, Rf G 119), (1, .int (nI (x + 1)))]) rfl ?_
          exact ih (x + 1) σ1 (by omega) (by omega) (by rw [candL_succ, if_pos z_, List.append_nil]; exact hR) hF hL hQ
        · have z_ : ¬ σ.2.2.1 120 x = 0 := fun q => hb_22 ((lg_cmp_eq _ _).mpr q)
          refine V.aload_n C 0 rfl rfl dX3_gatherCandidates_25 ?_
          refine V.getR C fX3_15 dX3_gatherCandidates_26 (by assumption) rfl ?_
          refine V.aload_n C 0 rfl rfl dX3_gatherCandidates_29 ?_
          refine V.getI C fX3_83 dX3_gatherCandidates_30 (by assumption) rfl ?_
          rw [hR.1]
          refine V.iload_n C 1 rfl rfl dX3_gatherCandidates_33 ?_
          refine V.iastN C dX3_gatherCandidates_34 (by assumption) (by omega) ?_
          refine V.aload_n C 0 rfl rfl dX3_gatherCandidates_35 ?_
          refine V.dup C rfl dX3_gatherCandidates_36 ?_
          refine V.getI C fX3_83 dX3_gatherCandidates_37 (by assumption) rfl ?_
          rw [show (sA σ1 121 (va_up (σ1.2.1 121) (candL (σ.2.2.1 120) x).length (nI x))).1 119 2 = nI (candL (σ.2.2.1 120) x).length from hR.1]
          refine V.iconst C (nI 1) c_1 dX3_gatherCandidates_40 ?_
          refine V.iadd C dX3_gatherCandidates_41 ?_
          rw [show nI (candL (σ.2.2.1 120) x).length + nI 1 = nI ((candL (σ.2.2.1 120) x).length + 1) from nI_add _ 1]
          refine V.putI C fX3_83 dX3_gatherCandidates_42 (by assumption) rfl ?_
          refine V.iinc C (nI (x + 1)) dX3_gatherCandidates_45 rfl (nI_1 x) (by decide) ?_
          refine V.goto C 7 dX3_gatherCandidates_48 rfl ?_
          refine V.lvs (lv' := [(0, Rf G 119), (1, .int (nI (x + 1)))]) rfl ?_
          refine ih (x + 1) _ (by omega) (by omega) ⟨?_, ?_, fun i r hi => ?_⟩ ((hF.sA _ (by omega) (by omega)).sF _ _ (by omega) (by omega)) hL ((sF_ne _ _ (by omega)).trans hQ)
          · rw [sF_F, candL_succ, if_neg z_]; simp
          · exact Nat.le_trans (candL_len _ _) (by omega)
          · rw [candL_succ, if_neg z_] at hi
            show (sA σ1 121 _).2.1 121 i = nI r ∧ r < 128
            rw [sA_A]
            by_cases q_ : i < (candL (σ.2.2.1 120) x).length
            · rw [List.getElem?_append_left q_] at hi
              rw [up_ne _ _ (by omega)]; exact hR.2.2 i r hi
            · rw [List.getElem?_append_right (by omega)] at hi
              have h1_ : i - (candL (σ.2.2.1 120) x).length < 1 := (List.getElem?_eq_some_iff.mp hi).1
              have e_ : i = (candL (σ.2.2.1 120) x).length := by omega
              rw [e_, Nat.sub_self] at hi
              cases hi
              rw [e_, up_eq]; exact ⟨rfl, hx8⟩
  refine V.aload_n C 0 rfl rfl dX3_gatherCandidates_0 ?_
  refine V.iconst C (nI 0) c_0 dX3_gatherCandidates_1 ?_
  refine V.putI C fX3_83 dX3_gatherCandidates_2 (by assumption) rfl ?_
  refine V.iconst C (nI 0) c_0 dX3_gatherCandidates_5 ?_
  refine V.istore_n C 1 dX3_gatherCandidates_6 rfl (by decide) ?_
  refine V.lvs (lv' := [(0, Rf G 119), (1, .int (nI 0))]) rfl ?_
  exact loop 129 0 _ (by omega) (by omega) ⟨by rw [sF_F]; rfl, by simp [candL], fun i r h => by simp [candL] at h⟩ ((Fr.refl 119 122 σ).sF _ _ (by omega) (by omega)) rfl (sF_ne _ _ (by omega))
