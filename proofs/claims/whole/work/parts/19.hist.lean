/-! History. -/
def hix : List Nat := [31, 41, 51, 61, 71, 81]
theorem hix_pbs {p : Nat} (h : p ∈ hix) : p ∈ pbs := by
  simp only [hix, List.mem_cons, List.mem_nil_iff, or_false] at h
  simp only [pbs, List.mem_cons, List.mem_nil_iff, or_false]
  omega
theorem hix_in {p : Nat} (h : p ∈ hix) : 31 ≤ p ∧ p ≤ 81 := by
  simp only [hix, List.mem_cons, List.mem_nil_iff, or_false] at h
  omega
theorem hix_apart {p q : Nat} (hp : p ∈ hix) (hq : q ∈ hix) (h : p ≠ q) : p + 10 ≤ q ∨ q + 10 ≤ p := by
  simp only [hix, List.mem_cons, List.mem_nil_iff, or_false] at hp hq
  omega
def okP (P : Prob) : Prop := okL P.2.1 ∧ okL P.2.2
def RH (σ : SS) (hs : List Prob) : Prop := σ.1 29 1 = nI hs.length ∧ hs.length ≤ 6 ∧ (∀ j, j < 6 → σ.2.2.2 j ∈ hix) ∧ (∀ i j, i < 6 → j < 6 → σ.2.2.2 i = σ.2.2.2 j → i = j) ∧ (∀ j, j < 6 → ∃ P, RP σ (σ.2.2.2 j) P) ∧ ∀ (i : Nat) (P : Prob), hs[i]? = some P → RP σ (σ.2.2.2 i) P
def FrX (a b : Nat) (σ σ1 : SS) : Prop := ∀ k, (k < a ∨ b ≤ k) → σ1.1 k = σ.1 k ∧ σ1.2.1 k = σ.2.1 k ∧ σ1.2.2.1 k = σ.2.2.1 k
theorem Fr.x {a b : Nat} {σ σ1 : SS} (h : Fr a b σ σ1) : FrX a b σ σ1 := h.1
theorem FrX.trans {a b : Nat} {σ σ1 σ2 : SS} (h1 : FrX a b σ σ1) (h2 : FrX a b σ1 σ2) : FrX a b σ σ2 :=
  fun k hk => ⟨(h2 k hk).1.trans (h1 k hk).1, (h2 k hk).2.1.trans (h1 k hk).2.1, (h2 k hk).2.2.trans (h1 k hk).2.2⟩
theorem RS.frx {σ σ1 : SS} {o cap a b : Nat} {l : List Stm} (h : RS σ o cap l) (hF : FrX a b σ σ1) (hc : o + 4 ≤ a ∨ b ≤ o) : RS σ1 o cap l := by
  unfold RS stAt
  rw [(hF (o + 1) (by omega)).2.1, (hF (o + 2) (by omega)).2.1, (hF (o + 3) (by omega)).2.1, (hF o (by omega)).1]
  exact h
theorem RP.frx {σ σ1 : SS} {p a b : Nat} {P : Prob} (h : RP σ p P) (hF : FrX a b σ σ1) (hc : p + 10 ≤ a ∨ b ≤ p) : RP σ1 p P :=
  ⟨by rw [(hF (p + 1) (by omega)).2.1]; exact h.1, h.2.1.frx hF (by omega), h.2.2.frx hF (by omega)⟩
theorem sP_P (σ : SS) (f : Nat → Nat) : (sP σ f).2.2.2 = f := rfl
def rotP (g : Nat → Nat) : Nat → Nat := fun j => if j < 5 then g (j + 1) else if j = 5 then g 0 else g j
theorem rotP_lt {g : Nat → Nat} {j : Nat} (h : j < 5) : rotP g j = g (j + 1) := by unfold rotP; rw [if_pos h]
theorem rotP_5 (g : Nat → Nat) : rotP g 5 = g 0 := by unfold rotP; rw [if_neg (by omega), if_pos rfl]
set_option maxRecDepth 100000 in
set_option maxHeartbeats 4000000 in
theorem ct_Hi_depth (G : Gl) (σ : SS) : CI G mX2_depth [Rf G 29] σ (fun r σ1 => r = σ.1 29 1 ∧ σ1 = σ) := by
  refine Ctr.of oX2_depth (Nat.le_of_ble_eq_true rfl) ?_
  intro X C R hnm hz0
  have C : Cx G X cX2_depth 1 RX2 0 0 0 0 := C
  have R : Cr G X (some .int) 0 0 _ := R
  show V G X 1 0 0 0 [(0, Rf G 29)] [] (wld G σ)
  have kk_29 := sk_29
  have kk_30 := sk_30
  refine V.aload_n C 0 rfl rfl dX2_depth_0 ?_
  refine V.getI C fX2_18 dX2_depth_1 (by assumption) rfl ?_
  exact V.iretS C R dX2_depth_4 ⟨rfl, rfl⟩
set_option maxRecDepth 100000 in
set_option maxHeartbeats 4000000 in
theorem ct_Hi_clear (G : Gl) (σ : SS) : CV G mX2_clear [Rf G 29] σ (fun σ1 => σ1 = sF σ 29 1 (nI 0)) := by
  refine Ctr.of oX2_clear (Nat.le_of_ble_eq_true rfl) ?_
  intro X C R hnm hz0
  have C : Cx G X cX2_clear 1 RX2 0 0 0 0 := C
  have R : Cr G X none 0 0 _ := R
  show V G X 1 0 0 0 [(0, Rf G 29)] [] (wld G σ)
  have kk_29 := sk_29
  have kk_30 := sk_30
  refine V.aload_n C 0 rfl rfl dX2_clear_0 ?_
  refine V.iconst C (nI 0) c_0 dX2_clear_1 ?_
  refine V.putI C fX2_18 dX2_clear_2 (by assumption) rfl ?_
  exact V.vretS C R dX2_clear_5 rfl
set_option maxRecDepth 100000 in
set_option maxHeartbeats 4000000 in
theorem ct_Hi_forget (G : Gl) (σ : SS) (hg : ∀ j, j < 6 → σ.2.2.2 j ∈ hix) : CV G mX2_forgetOldest [Rf G 29] σ (fun σ1 => σ1 = sF (sP σ (rotP σ.2.2.2)) 29 1 (nI 5)) := by
  refine Ctr.of oX2_forgetOldest (Nat.le_of_ble_eq_true rfl) ?_
  intro X C R hnm hz0
  have C : Cx G X cX2_forgetOldest 3 RX2 0 0 0 0 := C
  have R : Cr G X none 0 0 _ := R
  show V G X 3 0 0 0 [(0, Rf G 29)] [] (wld G σ)
  have kk_29 := sk_29
  have kk_30 := sk_30
  have loop : ∀ (m i : Nat) (f : Nat → Nat), 6 < i + m → 1 ≤ i → i ≤ 6 → (∀ j, j < i - 1 → f j = σ.2.2.2 (j + 1)) → (∀ j, i - 1 ≤ j → f j = σ.2.2.2 j) → V G X 3 0 0 9 [(0, Rf G 29), (1, Rf G (σ.2.2.2 0)), (2, .int (nI i))] [] (wld G (sP σ f)) := by
    intro m
    induction m with
    | zero =>
      intro i f hm hi1 hi hf1 hf2
      exact absurd hm (by omega)
    | succ m ih =>
      intro i f hm hi1 hi hf1 hf2
      refine V.iload_n C 2 rfl rfl dX2_forgetOldest_9 ?_
      refine V.bipush C (nI 6) b_6 dX2_forgetOldest_10 ?_
      refine V.icmp_ge C 35 dX2_forgetOldest_12 rfl (fun hb_12 => ?_) (fun hb_12 => ?_)
      · have hi6 : i = 6 := by have := (nI_leI (by decide) (by omega)).mp hb_12; omega
        have sk_0 := (PbA_of (hix_pbs (hg 0 (by omega)))).1
        refine V.aload_n C 0 rfl rfl dX2_forgetOldest_35 ?_
        refine V.getR C fX2_11 dX2_forgetOldest_36 (by assumption) rfl ?_
        refine V.iconst C (nI 5) c_5 dX2_forgetOldest_39 ?_
        refine V.aload_n C 1 rfl rfl dX2_forgetOldest_40 ?_
        refine V.pastN C dX2_forgetOldest_41 (by assumption) (by omega) ?_
        refine V.aload_n C 0 rfl rfl dX2_forgetOldest_42 ?_
        refine V.iconst C (nI 5) c_5 dX2_forgetOldest_43 ?_
        refine V.putI C fX2_18 dX2_forgetOldest_44 (by assumption) rfl ?_
        exact V.vretS C R dX2_forgetOldest_47 (by
  have e_1 : va_up f 5 (σ.2.2.2 0) = rotP σ.2.2.2 := by
    funext j
    unfold va_up rotP
    by_cases h_5 : j = 5
    · rw [if_pos h_5, if_neg (by omega), if_pos h_5]
    · rw [if_neg h_5]
      by_cases h_6 : j < 5
      · rw [if_pos h_6]; exact hf1 j (by omega)
      · rw [if_neg h_6, if_neg h_5]; exact hf2 j (by omega)
  show sF (sP (sP σ f) (va_up f 5 (σ.2.2.2 0))) 29 1 (nI 5) = _
  rw [e_1]; rfl)
      · have hi6 : i < 6 := Nat.lt_of_not_le (fun q => hb_12 (nI_le q (by omega)))
        have sk_i := (PbA_of (hix_pbs (hg i hi6))).1
        refine V.aload_n C 0 rfl rfl dX2_forgetOldest_15 ?_
        refine V.getR C fX2_11 dX2_forgetOldest_16 (by assumption) rfl ?_
        refine V.iload_n C 2 rfl rfl dX2_forgetOldest_19 ?_
        refine V.iconst C (nI 1) c_1 dX2_forgetOldest_20 ?_
        refine V.isub C dX2_forgetOldest_21 ?_
        rw [show nI i - nI 1 = nI (i - 1) from nI_sub (by omega)]
        refine V.aload_n C 0 rfl rfl dX2_forgetOldest_22 ?_
        refine V.getR C fX2_11 dX2_forgetOldest_23 (by assumption) rfl ?_
        refine V.iload_n C 2 rfl rfl dX2_forgetOldest_26 ?_
        refine V.paldN C dX2_forgetOldest_27 (by assumption) (by omega) ?_
        rw [sP_P, hf2 i (by omega)]
        refine V.pastN C dX2_forgetOldest_28 (by assumption) (by omega) ?_
        try rw [sP_P]
        refine V.iinc C (nI (i + 1)) dX2_forgetOldest_29 rfl (nI_1 i) (by decide) ?_
        refine V.goto C 9 dX2_forgetOldest_32 rfl ?_
        refine V.lvs (lv' := [(0, Rf G 29), (1, Rf G (σ.2.2.2 0)), (2, .int (nI (i + 1)))]) rfl ?_
        refine ih (i + 1) (va_up f (i - 1) (σ.2.2.2 i)) (by omega) (by omega) (by omega) (fun j hj => ?_) (fun j hj => ?_)
        · by_cases h_j : j = i - 1
          · rw [h_j, up_eq, show i - 1 + 1 = i by omega]
          · rw [up_ne _ _ h_j]; exact hf1 j (by omega)
        · rw [up_ne _ _ (by omega)]; exact hf2 j (by omega)
  refine V.aload_n C 0 rfl rfl dX2_forgetOldest_0 ?_
  refine V.getR C fX2_11 dX2_forgetOldest_1 (by assumption) rfl ?_
  refine V.iconst C (nI 0) c_0 dX2_forgetOldest_4 ?_
  refine V.paldN C dX2_forgetOldest_5 (by assumption) (by omega) ?_
  refine V.astore_n C 1 dX2_forgetOldest_6 rfl (by decide) ?_
  refine V.iconst C (nI 1) c_1 dX2_forgetOldest_7 ?_
  refine V.istore_n C 2 dX2_forgetOldest_8 rfl (by decide) ?_
  refine V.lvs (lv' := [(0, Rf G 29), (1, Rf G (σ.2.2.2 0)), (2, .int (nI 1))]) rfl ?_
  have qq := loop 6 1 σ.2.2.2 (by omega) (by omega) (by omega) (fun j hj => absurd hj (by omega)) (fun j _ => rfl)
  exact qq
theorem RH.forget {σ : SS} {hs : List Prob} (h : RH σ hs) (h6 : hs.length = 6) : RH (sF (sP σ (rotP σ.2.2.2)) 29 1 (nI 5)) (hs.drop 1) := by
  obtain ⟨h1, h2, h3, h4, h5, h7⟩ := h
  have hF : FrX 29 30 σ (sF (sP σ (rotP σ.2.2.2)) 29 1 (nI 5)) := fun k hk => ⟨sF_row _ _ _ (by omega), rfl, rfl⟩
  have hr : ∀ j, j < 6 → ∃ i, i < 6 ∧ rotP σ.2.2.2 j = σ.2.2.2 i ∧ (j < 5 → i = j + 1) ∧ (j = 5 → i = 0) := fun j hj => by
    by_cases q : j < 5
    · exact ⟨j + 1, by omega, rotP_lt q, fun _ => rfl, fun e => by omega⟩
    · have : j = 5 := by omega
      subst this
      exact ⟨0, by omega, rotP_5 _, fun e => by omega, fun _ => rfl⟩
  refine ⟨?_, ?_, fun j hj => ?_, fun i j hi hj e => ?_, fun j hj => ?_, fun i P hP => ?_⟩
  · rw [sF_F, List.length_drop, h6]
  · rw [List.length_drop]; omega
  · obtain ⟨i, hi, e, -⟩ := hr j hj
    show rotP σ.2.2.2 j ∈ hix
    rw [e]; exact h3 i hi
  · obtain ⟨a, ha, ea, ea1, ea2⟩ := hr i hi
    obtain ⟨b, hb, eb, eb1, eb2⟩ := hr j hj
    have e1 : rotP σ.2.2.2 i = rotP σ.2.2.2 j := e
    rw [ea, eb] at e1
    have := h4 a b ha hb e1
    omega
  · obtain ⟨i, hi, e, -⟩ := hr j hj
    obtain ⟨P, hP⟩ := h5 i hi
    refine ⟨P, ?_⟩
    show RP _ (rotP σ.2.2.2 j) P
    rw [e]
    have := hix_in (h3 i hi)
    exact hP.frx hF (by omega)
  · rw [List.getElem?_drop] at hP
    have hl := (List.getElem?_eq_some_iff.mp hP).1
    show RP _ (rotP σ.2.2.2 i) P
    rw [rotP_lt (by omega), show i + 1 = 1 + i by omega]
    have := hix_in (h3 (1 + i) (by omega))
    exact (h7 _ P hP).frx hF (by omega)
theorem RH.frx {σ σ1 : SS} {hs : List Prob} {a b : Nat} (h : RH σ hs) (hF : FrX a b σ σ1) (hP : σ1.2.2.2 = σ.2.2.2) (hc : b ≤ 29 ∨ 91 ≤ a) : RH σ1 hs := by
  obtain ⟨h1, h2, h3, h4, h5, h7⟩ := h
  unfold RH
  rw [(hF 29 (by omega)).1, hP]
  refine ⟨h1, h2, h3, h4, fun j hj => ?_, fun i P hi => ?_⟩
  · obtain ⟨P, hP⟩ := h5 j hj
    have := hix_in (h3 j hj)
    exact ⟨P, hP.frx hF (by omega)⟩
  · have hl := (List.getElem?_eq_some_iff.mp hi).1
    have := hix_in (h3 i (by omega))
    exact (h7 i P hi).frx hF (by omega)
/-- a problem copied into the free slot -/
theorem RH.pushed {σ σ1 : SS} {hs : List Prob} {P : Prob} (h : RH σ hs) (hl : hs.length < 6) (hP : RP σ1 (σ.2.2.2 hs.length) P) (hF : Fr (σ.2.2.2 hs.length) (σ.2.2.2 hs.length + 10) σ σ1) : RH (sF σ1 29 1 (nI (hs.length + 1))) (hs ++ [P]) := by
  obtain ⟨h1, h2, h3, h4, h5, h7⟩ := h
  have hF2 : FrX 29 30 σ1 (sF σ1 29 1 (nI (hs.length + 1))) := fun k hk => ⟨sF_row _ _ _ (by omega), rfl, rfl⟩
  have hP2 : (sF σ1 29 1 (nI (hs.length + 1))).2.2.2 = σ.2.2.2 := hF.2
  have key : ∀ j Q, j < 6 → j ≠ hs.length → RP σ (σ.2.2.2 j) Q → RP (sF σ1 29 1 (nI (hs.length + 1))) (σ.2.2.2 j) Q := fun j Q hj hne hQ => by
    have ha := hix_apart (h3 j hj) (h3 hs.length hl) (fun e => hne (h4 _ _ hj hl e))
    have := hix_in (h3 j hj)
    exact (hQ.fr hF (by omega)).frx hF2 (by omega)
  have hnew : RP (sF σ1 29 1 (nI (hs.length + 1))) (σ.2.2.2 hs.length) P := by
    have := hix_in (h3 hs.length hl)
    exact hP.frx hF2 (by omega)
  unfold RH
  rw [hP2]
  refine ⟨by rw [sF_F]; simp, by simp; omega, h3, h4, fun j hj => ?_, fun i Q hi => ?_⟩
  · by_cases e : j = hs.length
    · rw [e]; exact ⟨P, hnew⟩
    · obtain ⟨Q, hQ⟩ := h5 j hj
      exact ⟨Q, key j Q hj e hQ⟩
  · by_cases e : i < hs.length
    · rw [List.getElem?_append_left e] at hi
      exact key i Q (by omega) (by omega) (h7 i Q hi)
    · rw [List.getElem?_append_right (by omega)] at hi
      have : i - hs.length < 1 := (List.getElem?_eq_some_iff.mp hi).1
      have e2 : i = hs.length := by omega
      rw [e2, Nat.sub_self] at hi
      cases hi
      rw [e2]; exact hnew
def pushH (hs : List Prob) (P : Prob) : List Prob := if hs.length < 6 then hs ++ [P] else hs.drop 1 ++ [P]
set_option maxRecDepth 100000 in
set_option maxHeartbeats 4000000 in
theorem ct_Hi_push (G : Gl) (σ : SS) (hs : List Prob) (P : Prob) (hH : RH σ hs) (hP : RP σ 9 P) (hok : okP P) : CV G mX2_push [Rf G 29, Rf G 9] σ (fun σ1 => RH σ1 (pushH hs P) ∧ FrX 29 91 σ σ1) := by
  refine Ctr.of oX2_push (Nat.le_of_ble_eq_true rfl) ?_
  intro X C R hnm hz0
  have C : Cx G X cX2_push 2 RX2 4 95 0 0 := C
  have R : Cr G X none 0 0 _ := R
  show V G X 2 0 0 0 [(0, Rf G 29), (1, Rf G 9)] [] (wld G σ)
  have kk_29 := sk_29
  have kk_30 := sk_30
  have tail : ∀ (ss : SS) (hz : List Prob), RH ss hz → hz.length < 6 → RP ss 9 P → FrX 29 91 σ ss → pushH hs P = hz ++ [P] → V G X 2 0 0 13 [(0, Rf G 29), (1, Rf G 9)] [] (wld G ss) := by
    intro ss hz hS hl hPs hX he
    refine V.aload_n C 0 rfl rfl dX2_push_13 ?_
    refine V.getR C fX2_11 dX2_push_14 (by assumption) rfl ?_
    refine V.aload_n C 0 rfl rfl dX2_push_17 ?_
    refine V.getI C fX2_18 dX2_push_18 (by assumption) rfl ?_
    rw [hS.1]
    refine V.paldN C dX2_push_21 (by assumption) (by omega) ?_
    obtain ⟨P0, hP0⟩ := hS.2.2.2.2.1 hz.length hl
    have hA := PbA_of (hix_pbs (hS.2.2.1 hz.length hl))
    have hA0 := hA.1
    have hin := hix_in (hS.2.2.1 hz.length hl)
    refine V.aload_n C 1 rfl rfl dX2_push_22 ?_
    refine V.cVv C lX2_25 oX4_copyFrom dX2_push_23 (ct_Pb_copyFrom G ss (ss.2.2.2 hz.length) 9 P P0 hA (PbA_of (by decide)) hPs hP0 hok (by omega)) (by assumption) rfl rfl (Nat.le_of_ble_eq_true rfl) ⟨Nat.le_of_ble_eq_true rfl, Nat.le_of_ble_eq_true rfl⟩ ⟨Nat.le_of_ble_eq_true rfl, Nat.le_of_ble_eq_true rfl⟩ (fun σ23 pp_23 => ?_)
    refine V.aload_n C 0 rfl rfl dX2_push_26 ?_
    refine V.dup C rfl dX2_push_27 ?_
    refine V.getI C fX2_18 dX2_push_28 (by assumption) rfl ?_
    rw [pp_23.2.F (k := 29) (by omega), hS.1]
    refine V.iconst C (nI 1) c_1 dX2_push_31 ?_
    refine V.iadd C dX2_push_32 ?_
    rw [show nI hz.length + nI 1 = nI (hz.length + 1) from nI_add _ 1]
    refine V.putI C fX2_18 dX2_push_33 (by assumption) rfl ?_
    exact V.vretS C R dX2_push_36 ⟨by rw [he]; exact RH.pushed hS hl pp_23.1 pp_23.2, hX.trans ((fun k hk => ⟨(sF_row _ _ _ (by omega)).trans (pp_23.2.F (by omega)), pp_23.2.A (by omega), pp_23.2.L (by omega)⟩ : FrX 29 91 ss _))⟩
  refine V.aload_n C 0 rfl rfl dX2_push_0 ?_
  refine V.getI C fX2_18 dX2_push_1 (by assumption) rfl ?_
  rw [hH.1]
  refine V.bipush C (nI 6) b_6 dX2_push_4 ?_
  refine V.icmp_lt C 13 dX2_push_6 rfl (fun hb_6 => ?_) (fun hb_6 => ?_)
  · have hl6 : hs.length < 6 := (nI_ltI (by have := hH.2.1; omega) (by decide)).mp hb_6
    obtain ⟨ss, hss⟩ : ∃ ss : SS, ss = σ := ⟨_, rfl⟩
    have hS : RH ss hs := by rw [hss]; exact hH
    have hPs : RP ss 9 P := by rw [hss]; exact hP
    have hX : FrX 29 91 σ ss := by rw [hss]; exact fun _ _ => ⟨rfl, rfl, rfl⟩
    rw [← hss]
    exact tail ss hs hS hl6 hPs hX (by unfold pushH; rw [if_pos hl6])
  · have hl6 : hs.length = 6 := by have := hH.2.1; have : ¬ hs.length < 6 := fun q => hb_6 ((nI_ltI (by omega) (by decide)).mpr q); omega
    refine V.aload_n C 0 rfl rfl dX2_push_9 ?_
    refine V.cVv C lX2_22 oX2_forgetOldest dX2_push_10 (ct_Hi_forget G σ hH.2.2.1) (by assumption) rfl rfl (Nat.le_of_ble_eq_true rfl) ⟨Nat.le_of_ble_eq_true rfl, Nat.le_of_ble_eq_true rfl⟩ ⟨Nat.le_of_ble_eq_true rfl, Nat.le_of_ble_eq_true rfl⟩ (fun σ10 pp_10 => ?_)
    have hS : RH σ10 (hs.drop 1) := by rw [pp_10]; exact hH.forget hl6
    have hX : FrX 29 91 σ σ10 := by rw [pp_10]; exact fun k hk => ⟨sF_row _ _ _ (by omega), rfl, rfl⟩
    exact tail σ10 (hs.drop 1) hS (by rw [List.length_drop]; omega) (hP.frx hX (by omega)) hX (by unfold pushH; rw [if_neg (by omega)])
set_option maxRecDepth 100000 in
set_option maxHeartbeats 4000000 in
theorem ct_Hi_pop (G : Gl) (σ : SS) (hs : List Prob) (P Q : Prob) (hH : RH σ hs) (hne : 0 < hs.length) (hQ0 : hs[hs.length - 1]? = some Q) (hok : okP Q) (hP : RP σ 9 P) : CV G mX2_popInto [Rf G 29, Rf G 9] σ (fun σ1 => RP σ1 9 Q ∧ Fr 9 19 (sF σ 29 1 (nI (hs.length - 1))) σ1) := by
  refine Ctr.of oX2_popInto (Nat.le_of_ble_eq_true rfl) ?_
  intro X C R hnm hz0
  have C : Cx G X cX2_popInto 2 RX2 4 95 0 0 := C
  have R : Cr G X none 0 0 _ := R
  show V G X 2 0 0 0 [(0, Rf G 29), (1, Rf G 9)] [] (wld G σ)
  have kk_29 := sk_29
  have kk_30 := sk_30
  have kk_9 := sk_9
  have hl6 := hH.2.1
  refine V.aload_n C 0 rfl rfl dX2_popInto_0 ?_
  refine V.getI C fX2_18 dX2_popInto_1 (by assumption) rfl ?_
  rw [hH.1]
  refine V.if_le C 30 dX2_popInto_4 rfl (fun hb_4 => ?_) (fun hb_4 => ?_)
  · exact absurd hb_4 (nI_nle hne (by omega))
  · refine V.aload_n C 0 rfl rfl dX2_popInto_7 ?_
    refine V.dup C rfl dX2_popInto_8 ?_
    refine V.getI C fX2_18 dX2_popInto_9 (by assumption) rfl ?_
    rw [hH.1]
    refine V.iconst C (nI 1) c_1 dX2_popInto_12 ?_
    refine V.isub C dX2_popInto_13 ?_
    rw [show nI hs.length - nI 1 = nI (hs.length - 1) from nI_sub (by omega)]
    refine V.putI C fX2_18 dX2_popInto_14 (by assumption) rfl ?_
    refine V.aload_n C 1 rfl rfl dX2_popInto_17 ?_
    refine V.aload_n C 0 rfl rfl dX2_popInto_18 ?_
    refine V.getR C fX2_11 dX2_popInto_19 (by assumption) rfl ?_
    refine V.aload_n C 0 rfl rfl dX2_popInto_22 ?_
    refine V.getI C fX2_18 dX2_popInto_23 (by assumption) rfl ?_
    rw [sF_F]
    refine V.paldN C dX2_popInto_26 (by assumption) (by omega) ?_
    have hd_1 : hs.length - 1 < 6 := by omega
    have hA := PbA_of (hix_pbs (hH.2.2.1 (hs.length - 1) hd_1))
    have hin := hix_in (hH.2.2.1 (hs.length - 1) hd_1)
    have hA0 := hA.1
    have hQ : RP (sF σ 29 1 (nI (hs.length - 1))) (σ.2.2.2 (hs.length - 1)) Q := ((hH.2.2.2.2.2 _ Q hQ0)).frx (fun k hk => ⟨sF_row _ _ _ (by omega), rfl, rfl⟩ : FrX 29 30 σ _) (by omega)
    have hP9 : RP (sF σ 29 1 (nI (hs.length - 1))) 9 P := hP.frx (fun k hk => ⟨sF_row _ _ _ (by omega), rfl, rfl⟩ : FrX 29 30 σ _) (by omega)
    show V _ _ _ _ _ _ _ (Rf G (σ.2.2.2 (hs.length - 1)) :: _) _
    refine V.cVv C lX2_25 oX4_copyFrom dX2_popInto_27 (ct_Pb_copyFrom G _ 9 (σ.2.2.2 (hs.length - 1)) Q P (PbA_of (by decide)) hA hQ hP9 hok (by omega)) (by assumption) rfl rfl (Nat.le_of_ble_eq_true rfl) ⟨Nat.le_of_ble_eq_true rfl, Nat.le_of_ble_eq_true rfl⟩ ⟨Nat.le_of_ble_eq_true rfl, Nat.le_of_ble_eq_true rfl⟩ (fun σ27 pp_27 => ?_)
    exact V.vretS C R dX2_popInto_30 ⟨pp_27.1, pp_27.2⟩
