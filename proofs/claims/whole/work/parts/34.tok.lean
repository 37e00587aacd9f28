/-! Text: the token at which the reading stands. -/
def nxT (ch : Nat → Nat) (n a : Nat) : Nat := skipT ch n (tEnd ch n a)
/-- the reading stands at the token that starts at a (n: behind the last) -/
def CurT (σ : SS) (n : Nat) (ts : List Nat) (k a : Nat) : Prop := σ.1 1 6 = nI k ∧ k ≤ ts.length ∧ ((a = n ∧ k = ts.length) ∨ ts[k]? = some a)
theorem TokL.next {ch : Nat → Nat} {n : Nat} : ∀ {ts : List Nat} {p k a : Nat}, TokL ch n p ts → ts[k]? = some a → (nxT ch n a = n ∧ k + 1 = ts.length) ∨ ts[k + 1]? = some (nxT ch n a)
  | [], p, k, a, h, hk => by simp at hk
  | b :: l, p, 0, a, h, hk => by
    simp at hk
    subst hk
    obtain ⟨h1, h2, h3⟩ := h
    cases l with
    | nil => exact Or.inl ⟨h3, rfl⟩
    | cons c l => right; simp; exact h3.1
  | b :: l, p, k + 1, a, h, hk => by
    simp at hk
    rcases TokL.next h.2.2 hk with ⟨q1, q2⟩ | q
    · left; exact ⟨q1, by simp; omega⟩
    · right; simpa using q
theorem TokL.first {ch : Nat → Nat} {n : Nat} {ts : List Nat} (h : TokL ch n 0 ts) : (skipT ch n 0 = n ∧ 0 = ts.length) ∨ ts[0]? = some (skipT ch n 0) := by
  cases ts with
  | nil => exact Or.inl ⟨h, rfl⟩
  | cons a l => right; simp; exact h.1
theorem CurT.lt {σ : SS} {n : Nat} {ch : Nat → Nat} {ts : List Nat} {k a : Nat} (hK : RTk σ n ch ts) (h : CurT σ n ts k a) : (a < n ↔ k < ts.length) ∧ (k < ts.length → ts[k]? = some a) ∧ a ≤ n := by
  rcases h.2.2 with ⟨h1, h2⟩ | h1
  · exact ⟨by omega, fun q => absurd q (by omega), by omega⟩
  · have hl := (List.getElem?_eq_some_iff.mp h1).1
    have ha := (hK.2.2.2 k a h1).1
    exact ⟨⟨fun _ => hl, fun _ => ha⟩, fun _ => h1, by omega⟩
theorem CurT.step {σ : SS} {n : Nat} {ch : Nat → Nat} {ts : List Nat} {k a : Nat} (hK : RTk σ n ch ts) (h : CurT σ n ts k a) (ha : a < n) : CurT (sF σ 1 6 (nI (k + 1))) n ts (k + 1) (nxT ch n a) := by
  obtain ⟨h1, h2, h3⟩ := h.lt hK
  have hk := h1.mp ha
  exact ⟨sF_F _ _ _ _, by omega, hK.2.2.1.next (h2 hk)⟩
theorem RTk.at {σ : SS} {n : Nat} {ch : Nat → Nat} {ts : List Nat} (h : RTk σ n ch ts) (v : Int32) : RTk (sF σ 1 6 v) n ch ts := by
  obtain ⟨h1, h2⟩ := h
  exact ⟨(sF_ne _ _ (by omega)).trans h1, h2⟩
theorem RT.at {σ : SS} {n : Nat} {ch : Nat → Nat} (h : RT σ n ch) (v : Int32) : RT (sF σ 1 6 v) n ch := h.same (sF_ne _ _ (by omega)) rfl
/-- the token's kind, number, constant -/
def kKT (ch : Nat → Nat) (n a : Nat) : Nat := if a < n then kdT ch n a else 261
def numT (ch : Nat → Nat) (n a : Nat) : Option Nat := if kKT ch n a = 257 then (if tEnd ch n a - a = 1 then some (ch a - 48) else if tEnd ch n a - a = 2 ∧ ¬ ch a = 48 then some (10 * (ch a - 48) + (ch (a + 1) - 48)) else none) else none
def cstT (ch : Nat → Nat) (n a : Nat) : Nat := if kKT ch n a = 257 ∧ tEnd ch n a - a ≤ 16 ∧ (∀ j, j < tEnd ch n a - a → ch (a + j) ≤ 49) then tEnd ch n a - a else 0
def oN (v : Option Nat) : Int32 := match v with
  | none => -9
  | some v => nI v
theorem kwT_lt (ch : Nat → Nat) (a s : Nat) : kwT ch a s < 261 ∧ 256 ≤ kwT ch a s ∧ kwT ch a s ≠ 257 := by
  unfold kwT; split
  · omega
  · split
    · omega
    · split <;> omega
theorem kdT_lt {ch : Nat → Nat} {n a : Nat} (h : ch a < 256) : kdT ch n a < 261 := by
  unfold kdT; split
  · exact (kwT_lt _ _ _).1
  · have := ksC_lt h; omega
theorem kdT_257 {ch : Nat → Nat} {n a : Nat} (hc : ch a < 256) (h : kdT ch n a = 257) : isDg (ch a) = true := by
  unfold kdT at h
  by_cases q : isLo (ch a) = true
  · rw [if_pos q] at h; exact absurd h (kwT_lt _ _ _).2.2
  · rw [if_neg q] at h; exact ksC_257 hc h
theorem dg_run {ch : Nat → Nat} {n a j : Nat} (hd : isDg (ch a) = true) (h1 : a ≤ j) (h2 : j < tEnd ch n a) : isDg (ch j) = true := by
  have hl : isLo (ch a) = false := by unfold isDg at hd; unfold isLo; simp at hd ⊢; omega
  unfold tEnd at h2
  rw [if_neg (by rw [hl]; decide), if_pos hd] at h2
  exact ((runE_spec _ _ _).2.1 j h1 h2).2
theorem kdT_258 {ch : Nat → Nat} {n a : Nat} (hc : ch a < 256) (h : kdT ch n a = 258) : 97 ≤ ch a ∧ ch a < 105 := by
  unfold kdT at h
  by_cases q : isLo (ch a) = true
  · rw [if_pos q] at h
    unfold kwT at h
    split at h
    · rename_i hh; unfold isLo at q; simp at q; exact ⟨q.1, hh.2⟩
    · split at h
      · omega
      · split at h <;> omega
  · rw [if_neg q] at h; have := ksC_lt hc; omega
set_option maxRecDepth 100000 in
set_option maxHeartbeats 4000000 in
theorem ct_Tx_kind (G : Gl) (σ : SS) (n : Nat) (ch : Nat → Nat) (ts : List Nat) (k a : Nat) (hT : RT σ n ch) (hK : RTk σ n ch ts) (hC : CurT σ n ts k a) : CI G mX8_kind [Rf G 1] σ (fun r σ1 => r = nI (kKT ch n a) ∧ σ1 = σ) := by
  refine Ctr.of oX8_kind (Nat.le_of_ble_eq_true rfl) ?_
  intro X C R hnm hz0
  have C : Cx G X cX8_kind 1 RX8 0 0 0 0 := C
  have R : Cr G X (some .int) 0 0 _ := R
  show V G X 1 0 0 0 [(0, Rf G 1)] [] (wld G σ)
  have kk_1 := sk_1
  have kk_2 := sk_2
  have kk_3 := sk_3
  have kk_4 := sk_4
  have kk_5 := sk_5
  have hn2 := hT.2.1
  have hk2 := hK.2.1
  obtain ⟨cl1, cl2, cl3⟩ := hC.lt hK
  have hkl := hC.2.1
  refine V.aload_n C 0 rfl rfl dX8_kind_0 ?_
  refine V.getI C fX8_36 dX8_kind_1 (by assumption) rfl ?_
  rw [hC.1]
  refine V.aload_n C 0 rfl rfl dX8_kind_4 ?_
  refine V.getI C fX8_33 dX8_kind_5 (by assumption) rfl ?_
  rw [hK.1]
  refine V.icmp_ge C 23 dX8_kind_8 rfl (fun hb_8 => ?_) (fun hb_8 => ?_)
  · have z8_ : ¬ a < n := fun q => by have := cl1.mp q; have := (nI_leI (by omega) (by omega)).mp hb_8; omega
    refine V.sipush C (nI 261) s_261 dX8_kind_23 ?_
    exact V.iretS C R dX8_kind_26 ⟨by unfold kKT; rw [if_neg z8_], rfl⟩
  · have hk8 : k < ts.length := Nat.lt_of_not_le (fun q => hb_8 (nI_le q (by omega)))
    have z8_ : a < n := cl1.mpr hk8
    obtain ⟨g1_, g2_, g3_, g4_, g5_, g6_⟩ := hK.2.2.2 k a (cl2 hk8)
    have hca_ := (hT.2.2 a z8_).2
    have hkd_ : kKT ch n a = kdT ch n a := by unfold kKT; rw [if_pos z8_]
    have hkl_ := kdT_lt (n := n) hca_
    refine V.aload_n C 0 rfl rfl dX8_kind_11 ?_
    refine V.getR C fX8_15 dX8_kind_12 (by assumption) rfl ?_
    refine V.aload_n C 0 rfl rfl dX8_kind_15 ?_
    refine V.getI C fX8_36 dX8_kind_16 (by assumption) rfl ?_
    rw [hC.1]
    refine V.ialdN C dX8_kind_19 (by assumption) (by omega) ?_
    rw [g2_]
    refine V.goto C 26 dX8_kind_20 rfl ?_
    exact V.iretS C R dX8_kind_26 ⟨by rw [hkd_], rfl⟩
set_option maxRecDepth 100000 in
set_option maxHeartbeats 4000000 in
theorem ct_Tx_start (G : Gl) (σ : SS) (n : Nat) (ch : Nat → Nat) (ts : List Nat) (k a : Nat) (hT : RT σ n ch) (hK : RTk σ n ch ts) (hC : CurT σ n ts k a) : CI G mX8_start [Rf G 1] σ (fun r σ1 => r = nI a ∧ σ1 = σ) := by
  refine Ctr.of oX8_start (Nat.le_of_ble_eq_true rfl) ?_
  intro X C R hnm hz0
  have C : Cx G X cX8_start 1 RX8 0 0 0 0 := C
  have R : Cr G X (some .int) 0 0 _ := R
  show V G X 1 0 0 0 [(0, Rf G 1)] [] (wld G σ)
  have kk_1 := sk_1
  have kk_2 := sk_2
  have kk_3 := sk_3
  have kk_4 := sk_4
  have kk_5 := sk_5
  have hn2 := hT.2.1
  have hk2 := hK.2.1
  obtain ⟨cl1, cl2, cl3⟩ := hC.lt hK
  have hkl := hC.2.1
  refine V.aload_n C 0 rfl rfl dX8_start_0 ?_
  refine V.getI C fX8_36 dX8_start_1 (by assumption) rfl ?_
  rw [hC.1]
  refine V.aload_n C 0 rfl rfl dX8_start_4 ?_
  refine V.getI C fX8_33 dX8_start_5 (by assumption) rfl ?_
  rw [hK.1]
  refine V.icmp_ge C 23 dX8_start_8 rfl (fun hb_8 => ?_) (fun hb_8 => ?_)
  · have z8_ : ¬ a < n := fun q => by have := cl1.mp q; have := (nI_leI (by omega) (by omega)).mp hb_8; omega
    refine V.aload_n C 0 rfl rfl dX8_start_23 ?_
    refine V.getI C fX8_25 dX8_start_24 (by assumption) rfl ?_
    rw [hT.1]
    exact V.iretS C R dX8_start_27 ⟨by congr 1; omega, rfl⟩
  · have hk8 : k < ts.length := Nat.lt_of_not_le (fun q => hb_8 (nI_le q (by omega)))
    have z8_ : a < n := cl1.mpr hk8
    obtain ⟨g1_, g2_, g3_, g4_, g5_, g6_⟩ := hK.2.2.2 k a (cl2 hk8)
    have hca_ := (hT.2.2 a z8_).2
    have hkd_ : kKT ch n a = kdT ch n a := by unfold kKT; rw [if_pos z8_]
    have hkl_ := kdT_lt (n := n) hca_
    refine V.aload_n C 0 rfl rfl dX8_start_11 ?_
    refine V.getR C fX8_19 dX8_start_12 (by assumption) rfl ?_
    refine V.aload_n C 0 rfl rfl dX8_start_15 ?_
    refine V.getI C fX8_36 dX8_start_16 (by assumption) rfl ?_
    rw [hC.1]
    refine V.ialdN C dX8_start_19 (by assumption) (by omega) ?_
    rw [g3_]
    refine V.goto C 27 dX8_start_20 rfl ?_
    exact V.iretS C R dX8_start_27 ⟨rfl, rfl⟩
set_option maxRecDepth 100000 in
set_option maxHeartbeats 4000000 in
theorem ct_Tx_advance (G : Gl) (σ : SS) (n : Nat) (ch : Nat → Nat) (ts : List Nat) (k a : Nat) (hT : RT σ n ch) (hK : RTk σ n ch ts) (hC : CurT σ n ts k a) (ha : a < n) : CV G mX8_advance [Rf G 1] σ (fun σ1 => σ1 = sF σ 1 6 (nI (k + 1)) ∧ CurT σ1 n ts (k + 1) (nxT ch n a)) := by
  refine Ctr.of oX8_advance (Nat.le_of_ble_eq_true rfl) ?_
  intro X C R hnm hz0
  have C : Cx G X cX8_advance 1 RX8 0 0 0 0 := C
  have R : Cr G X none 0 0 _ := R
  show V G X 1 0 0 0 [(0, Rf G 1)] [] (wld G σ)
  have kk_1 := sk_1
  have kk_2 := sk_2
  have kk_3 := sk_3
  have kk_4 := sk_4
  have kk_5 := sk_5
  have hn2 := hT.2.1
  have hk2 := hK.2.1
  obtain ⟨cl1, cl2, cl3⟩ := hC.lt hK
  have hkl := hC.2.1
  refine V.aload_n C 0 rfl rfl dX8_advance_0 ?_
  refine V.getI C fX8_36 dX8_advance_1 (by assumption) rfl ?_
  rw [hC.1]
  refine V.aload_n C 0 rfl rfl dX8_advance_4 ?_
  refine V.getI C fX8_33 dX8_advance_5 (by assumption) rfl ?_
  rw [hK.1]
  refine V.icmp_ge C 21 dX8_advance_8 rfl (fun hb_8 => ?_) (fun hb_8 => ?_)
  · exact absurd ((nI_leI (by omega) (by omega)).mp hb_8) (by have := cl1.mp ha; omega)
  · have hk8 : k < ts.length := Nat.lt_of_not_le (fun q => hb_8 (nI_le q (by omega)))
    have z8_ : a < n := cl1.mpr hk8
    obtain ⟨g1_, g2_, g3_, g4_, g5_, g6_⟩ := hK.2.2.2 k a (cl2 hk8)
    have hca_ := (hT.2.2 a z8_).2
    have hkd_ : kKT ch n a = kdT ch n a := by unfold kKT; rw [if_pos z8_]
    have hkl_ := kdT_lt (n := n) hca_
    refine V.aload_n C 0 rfl rfl dX8_advance_11 ?_
    refine V.dup C rfl dX8_advance_12 ?_
    refine V.getI C fX8_36 dX8_advance_13 (by assumption) rfl ?_
    rw [hC.1]
    refine V.iconst C (nI 1) c_1 dX8_advance_16 ?_
    refine V.iadd C dX8_advance_17 ?_
    rw [show nI k + nI 1 = nI (k + 1) from nI_add k 1]
    refine V.putI C fX8_36 dX8_advance_18 (by assumption) rfl ?_
    exact V.vretS C R dX8_advance_21 ⟨rfl, hC.step hK ha⟩
set_option maxRecDepth 100000 in
set_option maxHeartbeats 4000000 in
theorem ct_Tx_pass (G : Gl) (σ : SS) (n : Nat) (ch : Nat → Nat) (ts : List Nat) (k a : Nat) (hT : RT σ n ch) (hK : RTk σ n ch ts) (hC : CurT σ n ts k a) (c : Nat) (hc : c < 261) : CI G mX8_pass [Rf G 1, .int (nI c)] σ (fun r σ1 => r = bI (decide (kKT ch n a = c)) ∧ (kKT ch n a = c → a < n ∧ σ1 = sF σ 1 6 (nI (k + 1)) ∧ CurT σ1 n ts (k + 1) (nxT ch n a)) ∧ (¬ kKT ch n a = c → σ1 = σ)) := by
  refine Ctr.of oX8_pass (Nat.le_of_ble_eq_true rfl) ?_
  intro X C R hnm hz0
  have C : Cx G X cX8_pass 2 RX8 0 0 0 0 := C
  have R : Cr G X (some .boolean) 0 0 _ := R
  show V G X 2 0 0 0 [(0, Rf G 1), (1, .int (nI c))] [] (wld G σ)
  have kk_1 := sk_1
  have kk_2 := sk_2
  have kk_3 := sk_3
  have kk_4 := sk_4
  have kk_5 := sk_5
  have hn2 := hT.2.1
  have hk2 := hK.2.1
  obtain ⟨cl1, cl2, cl3⟩ := hC.lt hK
  have hkl := hC.2.1
  refine V.aload_n C 0 rfl rfl dX8_pass_0 ?_
  refine V.getI C fX8_36 dX8_pass_1 (by assumption) rfl ?_
  rw [hC.1]
  refine V.aload_n C 0 rfl rfl dX8_pass_4 ?_
  refine V.getI C fX8_33 dX8_pass_5 (by assumption) rfl ?_
  rw [hK.1]
  refine V.icmp_ge C 24 dX8_pass_8 rfl (fun hb_8 => ?_) (fun hb_8 => ?_)
  · have z8_ : ¬ a < n := fun q => by have := cl1.mp q; have := (nI_leI (by omega) (by omega)).mp hb_8; omega
    refine V.iconst C (nI 0) c_0 dX8_pass_24 ?_
    exact V.zretS C R dX8_pass_25 (by first | exact Or.inl rfl | exact Or.inr rfl | exact bI01 _) ⟨by rw [decide_eq_false (show ¬ kKT ch n a = c by unfold kKT; rw [if_neg z8_]; omega)]; rfl, fun h => absurd h (by unfold kKT; rw [if_neg z8_]; omega), fun _ => rfl⟩
  · have hk8 : k < ts.length := Nat.lt_of_not_le (fun q => hb_8 (nI_le q (by omega)))
    have z8_ : a < n := cl1.mpr hk8
    obtain ⟨g1_, g2_, g3_, g4_, g5_, g6_⟩ := hK.2.2.2 k a (cl2 hk8)
    have hca_ := (hT.2.2 a z8_).2
    have hkd_ : kKT ch n a = kdT ch n a := by unfold kKT; rw [if_pos z8_]
    have hkl_ := kdT_lt (n := n) hca_
    refine V.aload_n C 0 rfl rfl dX8_pass_11 ?_
    refine V.getR C fX8_15 dX8_pass_12 (by assumption) rfl ?_
    refine V.aload_n C 0 rfl rfl dX8_pass_15 ?_
    refine V.getI C fX8_36 dX8_pass_16 (by assumption) rfl ?_
    rw [hC.1]
    refine V.ialdN C dX8_pass_19 (by assumption) (by omega) ?_
    rw [g2_]
    refine V.iload_n C 1 rfl rfl dX8_pass_20 ?_
    refine V.icmp_eq C 26 dX8_pass_21 rfl (fun hb_21 => ?_) (fun hb_21 => ?_)
    · have z21_ : kdT ch n a = c := nI_pe (by omega) (by omega) hb_21
      refine V.aload_n C 0 rfl rfl dX8_pass_26 ?_
      refine V.dup C rfl dX8_pass_27 ?_
      refine V.getI C fX8_36 dX8_pass_28 (by assumption) rfl ?_
      rw [hC.1]
      refine V.iconst C (nI 1) c_1 dX8_pass_31 ?_
      refine V.iadd C dX8_pass_32 ?_
      rw [show nI k + nI 1 = nI (k + 1) from nI_add k 1]
      refine V.putI C fX8_36 dX8_pass_33 (by assumption) rfl ?_
      refine V.iconst C (nI 1) c_1 dX8_pass_36 ?_
      exact V.zretS C R dX8_pass_37 (by first | exact Or.inl rfl | exact Or.inr rfl | exact bI01 _) ⟨by rw [hkd_, decide_eq_true z21_]; rfl, fun _ => ⟨z8_, rfl, hC.step hK z8_⟩, fun h => absurd (hkd_.trans z21_) h⟩
    · have z21_ : ¬ kdT ch n a = c := fun q => hb_21 (by rw [q])
      refine V.iconst C (nI 0) c_0 dX8_pass_24 ?_
      exact V.zretS C R dX8_pass_25 (by first | exact Or.inl rfl | exact Or.inr rfl | exact bI01 _) ⟨by rw [hkd_, decide_eq_false z21_]; rfl, fun h => absurd (hkd_.symm.trans h) z21_, fun _ => rfl⟩
set_option maxRecDepth 100000 in
set_option maxHeartbeats 4000000 in
theorem ct_Tx_name (G : Gl) (σ : SS) (n : Nat) (ch : Nat → Nat) (ts : List Nat) (k a : Nat) (hT : RT σ n ch) (hK : RTk σ n ch ts) (hC : CurT σ n ts k a) : CI G mX8_name [Rf G 1] σ (fun r σ1 => r = oN (if kKT ch n a = 258 then some (ch a - 97) else none) ∧ σ1 = σ) := by
  refine Ctr.of oX8_name (Nat.le_of_ble_eq_true rfl) ?_
  intro X C R hnm hz0
  have C : Cx G X cX8_name 1 RX8 0 0 0 0 := C
  have R : Cr G X (some .int) 0 0 _ := R
  show V G X 1 0 0 0 [(0, Rf G 1)] [] (wld G σ)
  have kk_1 := sk_1
  have kk_2 := sk_2
  have kk_3 := sk_3
  have kk_4 := sk_4
  have kk_5 := sk_5
  have hn2 := hT.2.1
  have hk2 := hK.2.1
  obtain ⟨cl1, cl2, cl3⟩ := hC.lt hK
  have hkl := hC.2.1
  refine V.aload_n C 0 rfl rfl dX8_name_0 ?_
  refine V.getI C fX8_36 dX8_name_1 (by assumption) rfl ?_
  rw [hC.1]
  refine V.aload_n C 0 rfl rfl dX8_name_4 ?_
  refine V.getI C fX8_33 dX8_name_5 (by assumption) rfl ?_
  rw [hK.1]
  refine V.icmp_ge C 46 dX8_name_8 rfl (fun hb_8 => ?_) (fun hb_8 => ?_)
  · have z8_ : ¬ a < n := fun q => by have := cl1.mp q; have := (nI_leI (by omega) (by omega)).mp hb_8; omega
    refine V.bipush C ((-9)) b_m9 dX8_name_46 ?_
    exact V.iretS C R dX8_name_48 ⟨by rw [if_neg (show ¬ kKT ch n a = 258 by unfold kKT; rw [if_neg z8_]; omega)]; rfl, rfl⟩
  · have hk8 : k < ts.length := Nat.lt_of_not_le (fun q => hb_8 (nI_le q (by omega)))
    have z8_ : a < n := cl1.mpr hk8
    obtain ⟨g1_, g2_, g3_, g4_, g5_, g6_⟩ := hK.2.2.2 k a (cl2 hk8)
    have hca_ := (hT.2.2 a z8_).2
    have hkd_ : kKT ch n a = kdT ch n a := by unfold kKT; rw [if_pos z8_]
    have hkl_ := kdT_lt (n := n) hca_
    refine V.aload_n C 0 rfl rfl dX8_name_11 ?_
    refine V.getR C fX8_15 dX8_name_12 (by assumption) rfl ?_
    refine V.aload_n C 0 rfl rfl dX8_name_15 ?_
    refine V.getI C fX8_36 dX8_name_16 (by assumption) rfl ?_
    rw [hC.1]
    refine V.ialdN C dX8_name_19 (by assumption) (by omega) ?_
    rw [g2_]
    refine V.sipush C (nI 258) s_258 dX8_name_20 ?_
    refine V.icmp_ne C 46 dX8_name_23 rfl (fun hb_23 => ?_) (fun hb_23 => ?_)
    · have z23_ : ¬ kdT ch n a = 258 := fun q => hb_23 (by rw [q])
      refine V.bipush C ((-9)) b_m9 dX8_name_46 ?_
      exact V.iretS C R dX8_name_48 ⟨by rw [if_neg (show ¬ kKT ch n a = 258 from fun q => z23_ (hkd_.symm.trans q))]; rfl, rfl⟩
    · have z23_ : kdT ch n a = 258 := nI_pe (by omega) (by decide) hb_23
      have h97_ := kdT_258 hca_ z23_
      refine V.aload_n C 0 rfl rfl dX8_name_26 ?_
      refine V.getR C fX8_9 dX8_name_27 (by assumption) rfl ?_
      refine V.aload_n C 0 rfl rfl dX8_name_30 ?_
      refine V.getR C fX8_19 dX8_name_31 (by assumption) rfl ?_
      refine V.aload_n C 0 rfl rfl dX8_name_34 ?_
      refine V.getI C fX8_36 dX8_name_35 (by assumption) rfl ?_
      rw [hC.1]
      refine V.ialdN C dX8_name_38 (by assumption) (by omega) ?_
      rw [g3_]
      refine V.caldN C dX8_name_39 (by assumption) (by omega) ?_
      rw [(hT.2.2 a z8_).1]
      refine V.bipush C (nI 97) b_97 dX8_name_40 ?_
      refine V.isub C dX8_name_42 ?_
      refine V.goto C 48 dX8_name_43 rfl ?_
      exact V.iretS C R dX8_name_48 ⟨by rw [if_pos (hkd_.trans z23_), nI_sub (by omega)]; rfl, rfl⟩
set_option maxRecDepth 100000 in
set_option maxHeartbeats 4000000 in
theorem ct_Tx_number (G : Gl) (σ : SS) (n : Nat) (ch : Nat → Nat) (ts : List Nat) (k a : Nat) (hT : RT σ n ch) (hK : RTk σ n ch ts) (hC : CurT σ n ts k a) : CI G mX8_number [Rf G 1] σ (fun r σ1 => r = oN (numT ch n a) ∧ σ1 = σ) := by
  refine Ctr.of oX8_number (Nat.le_of_ble_eq_true rfl) ?_
  intro X C R hnm hz0
  have C : Cx G X cX8_number 3 RX8 0 0 0 0 := C
  have R : Cr G X (some .int) 0 0 _ := R
  show V G X 3 0 0 0 [(0, Rf G 1)] [] (wld G σ)
  have kk_1 := sk_1
  have kk_2 := sk_2
  have kk_3 := sk_3
  have kk_4 := sk_4
  have kk_5 := sk_5
  have hn2 := hT.2.1
  have hk2 := hK.2.1
  obtain ⟨cl1, cl2, cl3⟩ := hC.lt hK
  have hkl := hC.2.1
  refine V.aload_n C 0 rfl rfl dX8_number_0 ?_
  refine V.getI C fX8_36 dX8_number_1 (by assumption) rfl ?_
  rw [hC.1]
  refine V.aload_n C 0 rfl rfl dX8_number_4 ?_
  refine V.getI C fX8_33 dX8_number_5 (by assumption) rfl ?_
  rw [hK.1]
  refine V.icmp_ge C 26 dX8_number_8 rfl (fun hb_8 => ?_) (fun hb_8 => ?_)
  · have z8_ : ¬ a < n := fun q => by have := cl1.mp q; have := (nI_leI (by omega) (by omega)).mp hb_8; omega
    refine V.bipush C ((-9)) b_m9 dX8_number_26 ?_
    exact V.iretS C R dX8_number_28 ⟨by unfold numT; rw [if_neg (show ¬ kKT ch n a = 257 by unfold kKT; rw [if_neg z8_]; omega)]; rfl, rfl⟩
  · have hk8 : k < ts.length := Nat.lt_of_not_le (fun q => hb_8 (nI_le q (by omega)))
    have z8_ : a < n := cl1.mpr hk8
    obtain ⟨g1_, g2_, g3_, g4_, g5_, g6_⟩ := hK.2.2.2 k a (cl2 hk8)
    have hca_ := (hT.2.2 a z8_).2
    have hkd_ : kKT ch n a = kdT ch n a := by unfold kKT; rw [if_pos z8_]
    have hkl_ := kdT_lt (n := n) hca_
    refine V.aload_n C 0 rfl rfl dX8_number_11 ?_
    refine V.getR C fX8_15 dX8_number_12 (by assumption) rfl ?_
    refine V.aload_n C 0 rfl rfl dX8_number_15 ?_
    refine V.getI C fX8_36 dX8_number_16 (by assumption) rfl ?_
    rw [hC.1]
    refine V.ialdN C dX8_number_19 (by assumption) (by omega) ?_
    rw [g2_]
    refine V.sipush C (nI 257) s_257 dX8_number_20 ?_
    refine V.icmp_eq C 29 dX8_number_23 rfl (fun hb_23 => ?_) (fun hb_23 => ?_)
    · have z23_ : kdT ch n a = 257 := nI_pe (by omega) (by decide) hb_23
      have hdg_ := kdT_257 hca_ z23_
      have hdg2_ : 48 ≤ ch a ∧ ch a ≤ 57 := by unfold isDg at hdg_; simpa using hdg_
      have hkq_ : kKT ch n a = 257 := hkd_.trans z23_
      refine V.aload_n C 0 rfl rfl dX8_number_29 ?_
      refine V.getR C fX8_9 dX8_number_30 (by assumption) rfl ?_
      refine V.aload_n C 0 rfl rfl dX8_number_33 ?_
      refine V.getR C fX8_19 dX8_number_34 (by assumption) rfl ?_
      refine V.aload_n C 0 rfl rfl dX8_number_37 ?_
      refine V.getI C fX8_36 dX8_number_38 (by assumption) rfl ?_
      rw [hC.1]
      refine V.ialdN C dX8_number_41 (by assumption) (by omega) ?_
      rw [g3_]
      refine V.caldN C dX8_number_42 (by assumption) (by omega) ?_
      rw [(hT.2.2 a z8_).1]
      refine V.bipush C (nI 48) b_48 dX8_number_43 ?_
      refine V.isub C dX8_number_45 ?_
      rw [show nI (ch a) - nI 48 = nI (ch a - 48) from nI_sub hdg2_.1]
      refine V.istore_n C 1 dX8_number_46 rfl (by decide) ?_
      refine V.aload_n C 0 rfl rfl dX8_number_47 ?_
      refine V.getR C fX8_22 dX8_number_48 (by assumption) rfl ?_
      refine V.aload_n C 0 rfl rfl dX8_number_51 ?_
      refine V.getI C fX8_36 dX8_number_52 (by assumption) rfl ?_
      rw [hC.1]
      refine V.ialdN C dX8_number_55 (by assumption) (by omega) ?_
      rw [g4_]
      refine V.iconst C (nI 1) c_1 dX8_number_56 ?_
      refine V.icmp_ne C 62 dX8_number_57 rfl (fun hb_57 => ?_) (fun hb_57 => ?_)
      · have z57_ : ¬ tEnd ch n a - a = 1 := fun q => hb_57 (by rw [q])
        refine V.aload_n C 0 rfl rfl dX8_number_62 ?_
        refine V.getR C fX8_22 dX8_number_63 (by assumption) rfl ?_
        refine V.aload_n C 0 rfl rfl dX8_number_66 ?_
        refine V.getI C fX8_36 dX8_number_67 (by assumption) rfl ?_
        rw [hC.1]
        refine V.ialdN C dX8_number_70 (by assumption) (by omega) ?_
        rw [g4_]
        refine V.iconst C (nI 2) c_2 dX8_number_71 ?_
        refine V.icmp_ne C 83 dX8_number_72 rfl (fun hb_72 => ?_) (fun hb_72 => ?_)
        · have z72_ : ¬ (tEnd ch n a - a = 2 ∧ ¬ ch a = 48) := fun q => hb_72 (by rw [q.1])
          refine V.iconst C (nI 0) c_0 dX8_number_83 ?_
          refine V.istore_n C 2 dX8_number_84 rfl (by decide) ?_
          refine V.iload_n C 2 rfl rfl dX8_number_85 ?_
          refine V.if_eq C 116 dX8_number_86 rfl (fun hb_86 => ?_) (fun hb_86 => ?_)
          · refine V.bipush C ((-9)) b_m9 dX8_number_116 ?_
            exact V.iretS C R dX8_number_118 ⟨by unfold numT; rw [if_pos hkq_, if_neg z57_, if_neg z72_]; rfl, rfl⟩
          · exact absurd rfl hb_86
        · have z71_ : tEnd ch n a - a = 2 := nI_pe (by omega) (by decide) hb_72
          refine V.iload_n C 1 rfl rfl dX8_number_75 ?_
          refine V.if_eq C 83 dX8_number_76 rfl (fun hb_76 => ?_) (fun hb_76 => ?_)
          · have z75_ : ch a - 48 = 0 := nI_pe (by omega) (by decide) hb_76
            have z72_ : ¬ (tEnd ch n a - a = 2 ∧ ¬ ch a = 48) := fun q => q.2 (by omega)
            refine V.iconst C (nI 0) c_0 dX8_number_83 ?_
            refine V.istore_n C 2 dX8_number_84 rfl (by decide) ?_
            refine V.iload_n C 2 rfl rfl dX8_number_85 ?_
            refine V.if_eq C 116 dX8_number_86 rfl (fun hb_86 => ?_) (fun hb_86 => ?_)
            · refine V.bipush C ((-9)) b_m9 dX8_number_116 ?_
              exact V.iretS C R dX8_number_118 ⟨by unfold numT; rw [if_pos hkq_, if_neg z57_, if_neg z72_]; rfl, rfl⟩
            · exact absurd rfl hb_86
          · have z72_ : tEnd ch n a - a = 2 ∧ ¬ ch a = 48 := ⟨z71_, fun q => hb_76 (by rw [q]; rfl)⟩
            have hdg3_ := dg_run (n := n) (j := a + 1) hdg_ (by omega) (by omega)
            have hdg4_ : 48 ≤ ch (a + 1) ∧ ch (a + 1) ≤ 57 := by unfold isDg at hdg3_; simpa using hdg3_
            refine V.iconst C (nI 1) c_1 dX8_number_79 ?_
            refine V.goto C 84 dX8_number_80 rfl ?_
            refine V.istore_n C 2 dX8_number_84 rfl (by decide) ?_
            refine V.iload_n C 2 rfl rfl dX8_number_85 ?_
            refine V.if_eq C 116 dX8_number_86 rfl (fun hb_86 => ?_) (fun hb_86 => ?_)
            · exact absurd hb_86 (by decide)
            · refine V.bipush C (nI 10) b_10 dX8_number_89 ?_
              refine V.iload_n C 1 rfl rfl dX8_number_91 ?_
              refine V.imul C dX8_number_92 ?_
              refine V.aload_n C 0 rfl rfl dX8_number_93 ?_
              refine V.getR C fX8_9 dX8_number_94 (by assumption) rfl ?_
              refine V.aload_n C 0 rfl rfl dX8_number_97 ?_
              refine V.getR C fX8_19 dX8_number_98 (by assumption) rfl ?_
              refine V.aload_n C 0 rfl rfl dX8_number_101 ?_
              refine V.getI C fX8_36 dX8_number_102 (by assumption) rfl ?_
              rw [hC.1]
              refine V.ialdN C dX8_number_105 (by assumption) (by omega) ?_
              rw [g3_]
              refine V.iconst C (nI 1) c_1 dX8_number_106 ?_
              refine V.iadd C dX8_number_107 ?_
              rw [show nI a + nI 1 = nI (a + 1) from nI_add a 1]
              refine V.caldN C dX8_number_108 (by assumption) (by omega) ?_
              rw [(hT.2.2 (a + 1) (by omega)).1, nI_mul]
              refine V.iadd C dX8_number_109 ?_
              refine V.bipush C (nI 48) b_48 dX8_number_110 ?_
              refine V.isub C dX8_number_112 ?_
              refine V.goto C 118 dX8_number_113 rfl ?_
              exact V.iretS C R dX8_number_118 ⟨by unfold numT; rw [if_pos hkq_, if_neg z57_, if_pos z72_, nI_add, nI_sub (by omega)]; show _ = nI _; congr 1; omega, rfl⟩
      · have z57_ : tEnd ch n a - a = 1 := nI_pe (by omega) (by decide) hb_57
        refine V.iload_n C 1 rfl rfl dX8_number_60 ?_
        exact V.iretS C R dX8_number_61 ⟨by unfold numT; rw [if_pos hkq_, if_pos z57_]; rfl, rfl⟩
    · have z23_ : ¬ kdT ch n a = 257 := fun q => hb_23 (by rw [q])
      refine V.bipush C ((-9)) b_m9 dX8_number_26 ?_
      exact V.iretS C R dX8_number_28 ⟨by unfold numT; rw [if_neg (show ¬ kKT ch n a = 257 from fun q => z23_ (hkd_.symm.trans q))]; rfl, rfl⟩
set_option maxRecDepth 100000 in
set_option maxHeartbeats 4000000 in
theorem ct_Tx_cBits (G : Gl) (σ : SS) (n : Nat) (ch : Nat → Nat) (ts : List Nat) (k a : Nat) (hT : RT σ n ch) (hK : RTk σ n ch ts) (hC : CurT σ n ts k a) : CI G mX8_constantBits [Rf G 1] σ (fun r σ1 => r = nI (cstT ch n a) ∧ σ1 = σ) := by
  refine Ctr.of oX8_constantBits (Nat.le_of_ble_eq_true rfl) ?_
  intro X C R hnm hz0
  have C : Cx G X cX8_constantBits 2 RX8 0 0 0 0 := C
  have R : Cr G X (some .int) 0 0 _ := R
  show V G X 2 0 0 0 [(0, Rf G 1)] [] (wld G σ)
  have kk_1 := sk_1
  have kk_2 := sk_2
  have kk_3 := sk_3
  have kk_4 := sk_4
  have kk_5 := sk_5
  have hn2 := hT.2.1
  have hk2 := hK.2.1
  obtain ⟨cl1, cl2, cl3⟩ := hC.lt hK
  have hkl := hC.2.1
  refine V.aload_n C 0 rfl rfl dX8_constantBits_0 ?_
  refine V.getI C fX8_36 dX8_constantBits_1 (by assumption) rfl ?_
  rw [hC.1]
  refine V.aload_n C 0 rfl rfl dX8_constantBits_4 ?_
  refine V.getI C fX8_33 dX8_constantBits_5 (by assumption) rfl ?_
  rw [hK.1]
  refine V.icmp_ge C 40 dX8_constantBits_8 rfl (fun hb_8 => ?_) (fun hb_8 => ?_)
  · have z8_ : ¬ a < n := fun q => by have := cl1.mp q; have := (nI_leI (by omega) (by omega)).mp hb_8; omega
    refine V.iconst C (nI 0) c_0 dX8_constantBits_40 ?_
    exact V.iretS C R dX8_constantBits_41 ⟨by unfold cstT; rw [if_neg (fun q => absurd q.1 (by unfold kKT; rw [if_neg z8_]; omega))], rfl⟩
  · have hk8 : k < ts.length := Nat.lt_of_not_le (fun q => hb_8 (nI_le q (by omega)))
    have z8_ : a < n := cl1.mpr hk8
    obtain ⟨g1_, g2_, g3_, g4_, g5_, g6_⟩ := hK.2.2.2 k a (cl2 hk8)
    have hca_ := (hT.2.2 a z8_).2
    have hkd_ : kKT ch n a = kdT ch n a := by unfold kKT; rw [if_pos z8_]
    have hkl_ := kdT_lt (n := n) hca_
    refine V.aload_n C 0 rfl rfl dX8_constantBits_11 ?_
    refine V.getR C fX8_15 dX8_constantBits_12 (by assumption) rfl ?_
    refine V.aload_n C 0 rfl rfl dX8_constantBits_15 ?_
    refine V.getI C fX8_36 dX8_constantBits_16 (by assumption) rfl ?_
    rw [hC.1]
    refine V.ialdN C dX8_constantBits_19 (by assumption) (by omega) ?_
    rw [g2_]
    refine V.sipush C (nI 257) s_257 dX8_constantBits_20 ?_
    refine V.icmp_ne C 40 dX8_constantBits_23 rfl (fun hb_23 => ?_) (fun hb_23 => ?_)
    · have z23_ : ¬ kdT ch n a = 257 := fun q => hb_23 (by rw [q])
      refine V.iconst C (nI 0) c_0 dX8_constantBits_40 ?_
      exact V.iretS C R dX8_constantBits_41 ⟨by unfold cstT; rw [if_neg (fun q => z23_ (hkd_.symm.trans q.1))], rfl⟩
    · have z23_ : kdT ch n a = 257 := nI_pe (by omega) (by decide) hb_23
      have hkq_ : kKT ch n a = 257 := hkd_.trans z23_
      refine V.aload_n C 0 rfl rfl dX8_constantBits_26 ?_
      refine V.getR C fX8_22 dX8_constantBits_27 (by assumption) rfl ?_
      refine V.aload_n C 0 rfl rfl dX8_constantBits_30 ?_
      refine V.getI C fX8_36 dX8_constantBits_31 (by assumption) rfl ?_
      rw [hC.1]
      refine V.ialdN C dX8_constantBits_34 (by assumption) (by omega) ?_
      rw [g4_]
      refine V.bipush C (nI 16) b_16 dX8_constantBits_35 ?_
      refine V.icmp_le C 42 dX8_constantBits_37 rfl (fun hb_37 => ?_) (fun hb_37 => ?_)
      · have z37_ : tEnd ch n a - a ≤ 16 := (nI_leI (by omega) (by decide)).mp hb_37
        have loop : ∀ (m j : Nat), tEnd ch n a - a < j + m → j ≤ tEnd ch n a - a → (∀ i, i < j → ch (a + i) ≤ 49) → V G X 2 0 0 44 [(0, Rf G 1), (1, .int (nI j))] [] (wld G σ) := by
          intro m
          induction m with
          | zero =>
            intro j hm hj hall
            exact absurd hm (by omega)
          | succ m ih =>
            intro j hm hj hall
            refine V.iload_n C 1 rfl rfl dX8_constantBits_44 ?_
            refine V.aload_n C 0 rfl rfl dX8_constantBits_45 ?_
            refine V.getR C fX8_22 dX8_constantBits_46 (by assumption) rfl ?_
            refine V.aload_n C 0 rfl rfl dX8_constantBits_49 ?_
            refine V.getI C fX8_36 dX8_constantBits_50 (by assumption) rfl ?_
            rw [hC.1]
            refine V.ialdN C dX8_constantBits_53 (by assumption) (by omega) ?_
            rw [g4_]
            refine V.icmp_ge C 86 dX8_constantBits_54 rfl (fun hb_54 => ?_) (fun hb_54 => ?_)
            · have hj8 : j = tEnd ch n a - a := by have := (nI_leI (by omega) (by omega)).mp hb_54; omega
              refine V.aload_n C 0 rfl rfl dX8_constantBits_86 ?_
              refine V.getR C fX8_22 dX8_constantBits_87 (by assumption) rfl ?_
              refine V.aload_n C 0 rfl rfl dX8_constantBits_90 ?_
              refine V.getI C fX8_36 dX8_constantBits_91 (by assumption) rfl ?_
              rw [hC.1]
              refine V.ialdN C dX8_constantBits_94 (by assumption) (by omega) ?_
              rw [g4_]
              exact V.iretS C R dX8_constantBits_95 ⟨by unfold cstT; rw [if_pos ⟨hkq_, z37_, fun i hi => hall i (by omega)⟩], rfl⟩
            · have hj8 : j < tEnd ch n a - a := Nat.lt_of_not_le (fun q => hb_54 (nI_le q (by omega)))
              have hcj_ := (hT.2.2 (a + j) (by omega)).2
              refine V.aload_n C 0 rfl rfl dX8_constantBits_57 ?_
              refine V.getR C fX8_9 dX8_constantBits_58 (by assumption) rfl ?_
              refine V.aload_n C 0 rfl rfl dX8_constantBits_61 ?_
              refine V.getR C fX8_19 dX8_constantBits_62 (by assumption) rfl ?_
              refine V.aload_n C 0 rfl rfl dX8_constantBits_65 ?_
              refine V.getI C fX8_36 dX8_constantBits_66 (by assumption) rfl ?_
              rw [hC.1]
              refine V.ialdN C dX8_constantBits_69 (by assumption) (by omega) ?_
              rw [g3_]
              refine V.iload_n C 1 rfl rfl dX8_constantBits_70 ?_
              refine V.iadd C dX8_constantBits_71 ?_
              rw [nI_add]
              refine V.caldN C dX8_constantBits_72 (by assumption) (by omega) ?_
              rw [(hT.2.2 (a + j) (by omega)).1]
              refine V.bipush C (nI 49) b_49 dX8_constantBits_73 ?_
              refine V.icmp_le C 80 dX8_constantBits_75 rfl (fun hb_75 => ?_) (fun hb_75 => ?_)
              · have z75_ : ch (a + j) ≤ 49 := (nI_leI (by omega) (by decide)).mp hb_75
                refine V.iinc C (nI (j + 1)) dX8_constantBits_80 rfl (nI_1 j) (by decide) ?_
                refine V.goto C 44 dX8_constantBits_83 rfl ?_
                refine V.lvs (lv' := [(0, Rf G 1), (1, .int (nI (j + 1)))]) rfl ?_
                refine ih (j + 1) (by omega) (by omega) (fun i hi => ?_)
                rcases Nat.lt_or_ge i j with q_ | q_
                · exact hall i q_
                · have : i = j := by omega
                  rw [this]; exact z75_
              · have z75_ : ¬ ch (a + j) ≤ 49 := fun q => hb_75 (nI_le q (by decide))
                refine V.iconst C (nI 0) c_0 dX8_constantBits_78 ?_
                exact V.iretS C R dX8_constantBits_79 ⟨by unfold cstT; rw [if_neg (fun q => z75_ (q.2.2 j hj8))], rfl⟩
        refine V.iconst C (nI 0) c_0 dX8_constantBits_42 ?_
        refine V.istore_n C 1 dX8_constantBits_43 rfl (by decide) ?_
        refine V.lvs (lv' := [(0, Rf G 1), (1, .int (nI 0))]) rfl ?_
        exact loop (tEnd ch n a - a + 1) 0 (by omega) (by omega) (fun j hj => absurd hj (by omega))
      · have z37_ : ¬ tEnd ch n a - a ≤ 16 := fun q => hb_37 (nI_le q (by decide))
        refine V.iconst C (nI 0) c_0 dX8_constantBits_40 ?_
        exact V.iretS C R dX8_constantBits_41 ⟨by unfold cstT; rw [if_neg (fun q => z37_ q.2.1)], rfl⟩
set_option maxRecDepth 100000 in
set_option maxHeartbeats 4000000 in
theorem ct_Tx_cBit (G : Gl) (σ : SS) (n : Nat) (ch : Nat → Nat) (ts : List Nat) (k a : Nat) (hT : RT σ n ch) (hK : RTk σ n ch ts) (hC : CurT σ n ts k a) (j : Nat) (ha : a < n) (hj : j < tEnd ch n a - a) : CI G mX8_constantBit [Rf G 1, .int (nI j)] σ (fun r σ1 => r = nI (if ch (a + j) = 49 then 1 else 0) ∧ σ1 = σ) := by
  refine Ctr.of oX8_constantBit (Nat.le_of_ble_eq_true rfl) ?_
  intro X C R hnm hz0
  have C : Cx G X cX8_constantBit 3 RX8 0 0 0 0 := C
  have R : Cr G X (some .int) 0 0 _ := R
  show V G X 3 0 0 0 [(0, Rf G 1), (1, .int (nI j))] [] (wld G σ)
  have kk_1 := sk_1
  have kk_2 := sk_2
  have kk_3 := sk_3
  have kk_4 := sk_4
  have kk_5 := sk_5
  have hn2 := hT.2.1
  have hk2 := hK.2.1
  obtain ⟨cl1, cl2, cl3⟩ := hC.lt hK
  have hkl := hC.2.1
  refine V.aload_n C 0 rfl rfl dX8_constantBit_0 ?_
  refine V.getI C fX8_36 dX8_constantBit_1 (by assumption) rfl ?_
  rw [hC.1]
  refine V.aload_n C 0 rfl rfl dX8_constantBit_4 ?_
  refine V.getI C fX8_33 dX8_constantBit_5 (by assumption) rfl ?_
  rw [hK.1]
  refine V.icmp_ge C 32 dX8_constantBit_8 rfl (fun hb_8 => ?_) (fun hb_8 => ?_)
  · exact absurd ((nI_leI (by omega) (by omega)).mp hb_8) (by have := cl1.mp ha; omega)
  · have hk8 : k < ts.length := Nat.lt_of_not_le (fun q => hb_8 (nI_le q (by omega)))
    have z8_ : a < n := cl1.mpr hk8
    obtain ⟨g1_, g2_, g3_, g4_, g5_, g6_⟩ := hK.2.2.2 k a (cl2 hk8)
    have hca_ := (hT.2.2 a z8_).2
    have hkd_ : kKT ch n a = kdT ch n a := by unfold kKT; rw [if_pos z8_]
    have hkl_ := kdT_lt (n := n) hca_
    have hj8_ : j < tEnd ch n a - a := hj
    refine V.iload_n C 1 rfl rfl dX8_constantBit_11 ?_
    refine V.if_lt C 32 dX8_constantBit_12 rfl (fun hb_12 => ?_) (fun hb_12 => ?_)
    · exact absurd hb_12 (nI_pos (by omega))
    · refine V.iload_n C 1 rfl rfl dX8_constantBit_15 ?_
      refine V.aload_n C 0 rfl rfl dX8_constantBit_16 ?_
      refine V.getR C fX8_22 dX8_constantBit_17 (by assumption) rfl ?_
      refine V.aload_n C 0 rfl rfl dX8_constantBit_20 ?_
      refine V.getI C fX8_36 dX8_constantBit_21 (by assumption) rfl ?_
      rw [hC.1]
      refine V.ialdN C dX8_constantBit_24 (by assumption) (by omega) ?_
      rw [g4_]
      refine V.icmp_ge C 32 dX8_constantBit_25 rfl (fun hb_25 => ?_) (fun hb_25 => ?_)
      · exact absurd ((nI_leI (by omega) (by omega)).mp hb_25) (by omega)
      · refine V.iconst C (nI 1) c_1 dX8_constantBit_28 ?_
        refine V.goto C 33 dX8_constantBit_29 rfl ?_
        refine V.istore_n C 2 dX8_constantBit_33 rfl (by decide) ?_
        refine V.iload_n C 2 rfl rfl dX8_constantBit_34 ?_
        refine V.if_eq C 63 dX8_constantBit_35 rfl (fun hb_35 => ?_) (fun hb_35 => ?_)
        · exact absurd hb_35 (by decide)
        · refine V.aload_n C 0 rfl rfl dX8_constantBit_38 ?_
          refine V.getR C fX8_9 dX8_constantBit_39 (by assumption) rfl ?_
          refine V.aload_n C 0 rfl rfl dX8_constantBit_42 ?_
          refine V.getR C fX8_19 dX8_constantBit_43 (by assumption) rfl ?_
          refine V.aload_n C 0 rfl rfl dX8_constantBit_46 ?_
          refine V.getI C fX8_36 dX8_constantBit_47 (by assumption) rfl ?_
          rw [hC.1]
          refine V.ialdN C dX8_constantBit_50 (by assumption) (by omega) ?_
          rw [g3_]
          refine V.iload_n C 1 rfl rfl dX8_constantBit_51 ?_
          refine V.iadd C dX8_constantBit_52 ?_
          rw [nI_add]
          refine V.caldN C dX8_constantBit_53 (by assumption) (by omega) ?_
          rw [(hT.2.2 (a + j) (by omega)).1]
          refine V.bipush C (nI 49) b_49 dX8_constantBit_54 ?_
          refine V.icmp_ne C 63 dX8_constantBit_56 rfl (fun hb_56 => ?_) (fun hb_56 => ?_)
          · have z56_ : ¬ ch (a + j) = 49 := fun q => hb_56 (by rw [q])
            refine V.iconst C (nI 0) c_0 dX8_constantBit_63 ?_
            exact V.iretS C R dX8_constantBit_64 ⟨by rw [if_neg z56_], rfl⟩
          · have z56_ : ch (a + j) = 49 := nI_pe (by have := (hT.2.2 (a + j) (by omega)).2; omega) (by decide) hb_56
            refine V.iconst C (nI 1) c_1 dX8_constantBit_59 ?_
            refine V.goto C 64 dX8_constantBit_60 rfl ?_
            exact V.iretS C R dX8_constantBit_64 ⟨by rw [if_pos z56_], rfl⟩
