/-! Term: the bits read so far, the most significant first; Statements.putTerm, finish. -/
def begB (bs : List Nat) (i : Nat) : Bool := decide (i = 0 ∨ ¬ bs.getD i 0 / 256 = bs.getD (i - 1) 0 / 256)
def RTm (σ : SS) (bs : List Nat) (op : Bool) : Prop := σ.1 7 2 = nI bs.length ∧ bs.length < 2 ^ 30 ∧ (∀ i, i < bs.length → i < 16 → σ.2.1 8 i = nI (cn (bs.getD i 0))) ∧ ∀ i, i < 16 → bt (σ.1 7 1) i = (if i < bs.length then begB bs i else (op && decide (i = bs.length)))
theorem RTm.fr {σ σ1 : SS} {bs : List Nat} {op : Bool} {a b : Nat} (h : RTm σ bs op) (hF : Fr a b σ σ1) (hc : b ≤ 7 ∨ 9 ≤ a) : RTm σ1 bs op := by
  unfold RTm; rw [hF.F (k := 7) (by omega), hF.A (k := 8) (by omega)]; exact h
theorem getD_app {bs : List Nat} {x i : Nat} : (bs ++ [x]).getD i 0 = if i < bs.length then bs.getD i 0 else if i = bs.length then x else 0 := by
  rw [List.getD_eq_getElem?_getD, List.getD_eq_getElem?_getD]
  by_cases h : i < bs.length
  · rw [List.getElem?_append_left h, if_pos h]
  · rw [if_neg h, List.getElem?_append_right (by omega)]
    by_cases e : i = bs.length
    · rw [if_pos e, e, Nat.sub_self]; rfl
    · rw [if_neg e, List.getElem?_eq_none (by simp; omega)]; rfl
theorem begB_app {bs : List Nat} {x i : Nat} (h : i < bs.length) : begB (bs ++ [x]) i = begB bs i := by
  unfold begB
  rw [getD_app, getD_app, if_pos h]
  by_cases e : i = 0
  · simp [e]
  · rw [if_pos (by omega)]
set_option maxRecDepth 100000 in
set_option maxHeartbeats 4000000 in
theorem ct_Te_clear (G : Gl) (σ : SS) : CV G mX7_clear [Rf G 7] σ (fun σ1 => RTm σ1 [] false ∧ Fr 7 9 σ σ1) := by
  refine Ctr.of oX7_clear (Nat.le_of_ble_eq_true rfl) ?_
  intro X C R hnm hz0
  have C : Cx G X cX7_clear 1 RX7 0 0 0 0 := C
  have R : Cr G X none 0 0 _ := R
  show V G X 1 0 0 0 [(0, Rf G 7)] [] (wld G σ)
  have kk_7 := sk_7
  have kk_8 := sk_8
  refine V.aload_n C 0 rfl rfl dX7_clear_0 ?_
  refine V.iconst C (nI 0) c_0 dX7_clear_1 ?_
  refine V.putI C fX7_15 dX7_clear_2 (by assumption) rfl ?_
  refine V.aload_n C 0 rfl rfl dX7_clear_5 ?_
  refine V.iconst C (nI 0) c_0 dX7_clear_6 ?_
  refine V.putI C fX7_19 dX7_clear_7 (by assumption) rfl ?_
  exact V.vretS C R dX7_clear_10 ⟨⟨by rw [sF_F]; rfl, by simp, fun i h => by simp at h, fun i hi => by
    rw [sF_ne _ _ (by omega), sF_F, nI_0, b_0]; simp⟩, ((Fr.refl 7 9 σ).sF _ _ (by omega) (by omega)).sF _ _ (by omega) (by omega)⟩
set_option maxRecDepth 100000 in
set_option maxHeartbeats 4000000 in
theorem ct_Te_bitCount (G : Gl) (σ : SS) (bs : List Nat) (op : Bool) (hR : RTm σ bs op) : CI G mX7_bitCount [Rf G 7] σ (fun r σ1 => r = nI bs.length ∧ σ1 = σ) := by
  refine Ctr.of oX7_bitCount (Nat.le_of_ble_eq_true rfl) ?_
  intro X C R hnm hz0
  have C : Cx G X cX7_bitCount 1 RX7 0 0 0 0 := C
  have R : Cr G X (some .int) 0 0 _ := R
  show V G X 1 0 0 0 [(0, Rf G 7)] [] (wld G σ)
  have kk_7 := sk_7
  have kk_8 := sk_8
  refine V.aload_n C 0 rfl rfl dX7_bitCount_0 ?_
  refine V.getI C fX7_19 dX7_bitCount_1 (by assumption) rfl ?_
  exact V.iretS C R dX7_bitCount_4 ⟨hR.1, rfl⟩
set_option maxRecDepth 100000 in
set_option maxHeartbeats 4000000 in
theorem ct_Te_begin (G : Gl) (σ : SS) (bs : List Nat) (hR : RTm σ bs false) : CV G mX7_beginPart [Rf G 7] σ (fun σ1 => RTm σ1 bs true ∧ Fr 7 9 σ σ1) := by
  refine Ctr.of oX7_beginPart (Nat.le_of_ble_eq_true rfl) ?_
  intro X C R hnm hz0
  have C : Cx G X cX7_beginPart 1 RX7 0 0 0 0 := C
  have R : Cr G X none 0 0 _ := R
  show V G X 1 0 0 0 [(0, Rf G 7)] [] (wld G σ)
  have kk_7 := sk_7
  have kk_8 := sk_8
  refine V.aload_n C 0 rfl rfl dX7_beginPart_0 ?_
  refine V.getI C fX7_19 dX7_beginPart_1 (by assumption) rfl ?_
  rw [hR.1]
  refine V.bipush C (nI 16) b_16 dX7_beginPart_4 ?_
  refine V.icmp_ge C 24 dX7_beginPart_6 rfl (fun hb_6 => ?_) (fun hb_6 => ?_)
  · have z_ : 16 ≤ bs.length := (nI_leI (by decide) (by have := hR.2.1; omega)).mp hb_6
    exact V.vretS C R dX7_beginPart_24 ⟨⟨hR.1, hR.2.1, hR.2.2.1, fun i hi => by rw [hR.2.2.2 i hi, if_pos (by omega), if_pos (by omega)]⟩, Fr.refl _ _ _⟩
  · have z_ : bs.length < 16 := Nat.lt_of_not_le (fun q => hb_6 (nI_le q (by have := hR.2.1; omega)))
    refine V.aload_n C 0 rfl rfl dX7_beginPart_9 ?_
    refine V.dup C rfl dX7_beginPart_10 ?_
    refine V.getI C fX7_15 dX7_beginPart_11 (by assumption) rfl ?_
    refine V.iconst C (nI 1) c_1 dX7_beginPart_14 ?_
    refine V.aload_n C 0 rfl rfl dX7_beginPart_15 ?_
    refine V.getI C fX7_19 dX7_beginPart_16 (by assumption) rfl ?_
    rw [hR.1]
    refine V.ishl C dX7_beginPart_19 ?_
    refine V.ior C dX7_beginPart_20 ?_
    refine V.putI C fX7_15 dX7_beginPart_21 (by assumption) rfl ?_
    exact V.vretS C R dX7_beginPart_24 ⟨⟨(sF_ne _ _ (by omega)).trans hR.1, hR.2.1, hR.2.2.1, fun i hi => by
    rw [sF_F, bt_or (by omega) (by omega), hR.2.2.2 i hi]
    by_cases q_ : i < bs.length
    · rw [if_pos q_, if_pos q_, decide_eq_false (show ¬ i = bs.length by omega)]; simp
    · rw [if_neg q_, if_neg q_]; simp⟩, (Fr.refl 7 9 σ).sF _ _ (by omega) (by omega)⟩
set_option maxRecDepth 100000 in
set_option maxHeartbeats 4000000 in
theorem ct_Te_add (G : Gl) (σ : SS) (bs : List Nat) (x : Nat) (op : Bool) (hR : RTm σ bs op) (hl : bs.length < 2 ^ 29) (hop : bs.length < 16 → op = begB (bs ++ [x]) bs.length) : CV G mX7_add [Rf G 7, .int (nI (cn x))] σ (fun σ1 => RTm σ1 (bs ++ [x]) false ∧ Fr 7 9 σ σ1) := by
  refine Ctr.of oX7_add (Nat.le_of_ble_eq_true rfl) ?_
  intro X C R hnm hz0
  have C : Cx G X cX7_add 2 RX7 0 0 0 0 := C
  have R : Cr G X none 0 0 _ := R
  show V G X 2 0 0 0 [(0, Rf G 7), (1, .int (nI (cn x)))] [] (wld G σ)
  have kk_7 := sk_7
  have kk_8 := sk_8
  refine V.aload_n C 0 rfl rfl dX7_add_0 ?_
  refine V.getI C fX7_19 dX7_add_1 (by assumption) rfl ?_
  rw [hR.1]
  refine V.bipush C (nI 16) b_16 dX7_add_4 ?_
  refine V.icmp_ge C 19 dX7_add_6 rfl (fun hb_6 => ?_) (fun hb_6 => ?_)
  · have z_ : 16 ≤ bs.length := (nI_leI (by decide) (by omega)).mp hb_6
    refine V.aload_n C 0 rfl rfl dX7_add_19 ?_
    refine V.dup C rfl dX7_add_20 ?_
    refine V.getI C fX7_19 dX7_add_21 (by assumption) rfl ?_
    first | rw [hR.1] | rw [show (sA σ 8 (va_up (σ.2.1 8) bs.length (nI (cn x)))).1 7 2 = nI bs.length from hR.1]
    refine V.iconst C (nI 1) c_1 dX7_add_24 ?_
    refine V.iadd C dX7_add_25 ?_
    rw [show nI bs.length + nI 1 = nI (bs.length + 1) from nI_add _ 1]
    refine V.putI C fX7_19 dX7_add_26 (by assumption) rfl ?_
    exact V.vretS C R dX7_add_29 ⟨⟨by rw [sF_F]; simp, by simp; omega, fun i h1 h2 => by
    rw [getD_app, if_pos (by omega)]; exact hR.2.2.1 i (by omega) h2, fun i hi => by
    rw [sF_ne _ _ (by omega)]
    rw [hR.2.2.2 i hi, List.length_append]
    by_cases q_ : i < bs.length
    · rw [if_pos q_, if_pos (by simp; omega), begB_app q_]
    · rw [if_neg q_]
      by_cases e_ : i = bs.length
      · rw [if_pos (by simp; omega), e_, hop (by omega)]; simp
      · rw [if_neg (by simp; omega)]; simp [e_]⟩, (Fr.refl 7 9 σ).sF _ _ (by omega) (by omega)⟩
  · have z_ : bs.length < 16 := Nat.lt_of_not_le (fun q => hb_6 (nI_le q (by omega)))
    refine V.aload_n C 0 rfl rfl dX7_add_9 ?_
    refine V.getR C fX7_9 dX7_add_10 (by assumption) rfl ?_
    refine V.aload_n C 0 rfl rfl dX7_add_13 ?_
    refine V.getI C fX7_19 dX7_add_14 (by assumption) rfl ?_
    rw [hR.1]
    refine V.iload_n C 1 rfl rfl dX7_add_17 ?_
    refine V.iastN C dX7_add_18 (by assumption) (by omega) ?_
    refine V.aload_n C 0 rfl rfl dX7_add_19 ?_
    refine V.dup C rfl dX7_add_20 ?_
    refine V.getI C fX7_19 dX7_add_21 (by assumption) rfl ?_
    first | rw [hR.1] | rw [show (sA σ 8 (va_up (σ.2.1 8) bs.length (nI (cn x)))).1 7 2 = nI bs.length from hR.1]
    refine V.iconst C (nI 1) c_1 dX7_add_24 ?_
    refine V.iadd C dX7_add_25 ?_
    rw [show nI bs.length + nI 1 = nI (bs.length + 1) from nI_add _ 1]
    refine V.putI C fX7_19 dX7_add_26 (by assumption) rfl ?_
    exact V.vretS C R dX7_add_29 ⟨⟨by rw [sF_F]; simp, by simp; omega, fun i h1 h2 => by
    show (sA σ 8 _).2.1 8 i = _
    rw [sA_A, getD_app]
    by_cases q_ : i < bs.length
    · rw [up_ne _ _ (by omega), if_pos q_]; exact hR.2.2.1 i q_ h2
    · have e_ : i = bs.length := by simp at h1; omega
      rw [if_neg q_, if_pos e_, e_, up_eq], fun i hi => by
    rw [sF_ne _ _ (by omega)]
    show bt (σ.1 7 1) i = _
    rw [hR.2.2.2 i hi, List.length_append]
    by_cases q_ : i < bs.length
    · rw [if_pos q_, if_pos (by simp; omega), begB_app q_]
    · rw [if_neg q_]
      by_cases e_ : i = bs.length
      · rw [if_pos (by simp; omega), e_, hop (by omega)]; simp
      · rw [if_neg (by simp; omega)]; simp [e_]⟩, ((Fr.refl 7 9 σ).sA _ (by omega) (by omega)).sF _ _ (by omega) (by omega)⟩
/-- the bits of a range of variable v, from bit h down, m of them -/
def rngB (v pt : Nat) : Nat → Nat → List Nat
  | _, 0 => []
  | h, m + 1 => (16 + 16 * v + h + 256 * pt) :: rngB v pt (h - 1) m
theorem rngB_len (v pt : Nat) : ∀ h m, (rngB v pt h m).length = m
  | _, 0 => rfl
  | h, m + 1 => by simp [rngB, rngB_len]
theorem cn_var {v h pt : Nat} (hv : v < 8) (hh : h < 16) : cn (16 + 16 * v + h + 256 * pt) = 16 * v + h := by
  have e : (16 + 16 * v + h + 256 * pt) % 256 = 16 + 16 * v + h := by omega
  rw [cn_v (by unfold isV; rw [e]; simp; omega)]; unfold vb; rw [e]; omega
/-- the last bit read is of an earlier part -/
def newP (bs : List Nat) (pt : Nat) : Prop := bs.length = 0 ∨ ¬ bs.getD (bs.length - 1) 0 / 256 = pt
theorem nI_pred_lt {a : Nat} (h : a < 2 ^ 31) : nI a - nI 1 < nI a := by
  rw [lt_iff]
  rcases Nat.eq_zero_or_pos a with q | q
  · subst q; decide
  · rw [nI_sub q, nI_toInt (by omega), nI_toInt h]; omega
