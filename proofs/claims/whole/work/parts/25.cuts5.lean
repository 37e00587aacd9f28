/-! Cuts: countOf, startOf, sliceAt. -/
theorem cntN_and (f : Nat → Bool) (m : Nat) : ∀ n, m ≤ n → cntN (fun i => f i && decide (i < m)) n = cntN f m
  | 0, h => by have : m = 0 := by omega
               subst this; rfl
  | n + 1, h => by
    by_cases e : m = n + 1
    · subst e
      apply cntN_congr
      intro i hi; simp [hi]
    · have ih := cntN_and f m n (by omega)
      have e1 : cntN (fun i => f i && decide (i < m)) (n + 1) = cntN (fun i => f i && decide (i < m)) n + (if (f n && decide (n < m)) = true then 1 else 0) := rfl
      rw [e1, ih]; simp; omega
theorem cntN_mono (f : Nat → Bool) {m n : Nat} (h : m ≤ n) : cntN f m ≤ cntN f n := by
  induction n with
  | zero => have : m = 0 := by omega
            subst this; exact Nat.le_refl _
  | succ n ih =>
    by_cases e : m = n + 1
    · rw [e]; exact Nat.le_refl _
    · have := ih (by omega)
      have e1 : cntN f (n + 1) = cntN f n + (if f n then 1 else 0) := rfl
      rw [e1]; omega
/-- the place of the j-th cut (0: the beginning) -/
def stP (f : Nat → Bool) (j p : Nat) : Prop := (j = 0 ∧ p = 0) ∨ (0 < j ∧ f p = true ∧ cntN f p + 1 = j)
theorem stP.uniq {f : Nat → Bool} {j p q : Nat} (h : stP f j p) (h' : stP f j q) : p = q := by
  rcases h with ⟨a, b⟩ | ⟨a, b, c⟩ <;> rcases h' with ⟨a', b'⟩ | ⟨a', b', c'⟩
  · omega
  · omega
  · omega
  · rcases Nat.lt_trichotomy p q with h | h | h
    · have := cntN_mono f (show p + 1 ≤ q from h)
      have e1 : cntN f (p + 1) = cntN f p + (if f p then 1 else 0) := rfl
      rw [e1, b] at this; simp at this; omega
    · exact h
    · have := cntN_mono f (show q + 1 ≤ p from h)
      have e1 : cntN f (q + 1) = cntN f q + (if f q then 1 else 0) := rfl
      rw [e1, b'] at this; simp at this; omega
def cutF (K : Nat → Bool) (v : Nat) : Nat → Bool := fun b => K (16 * v + b)
theorem RK.count {σ : SS} {K : Nat → Bool} (h : RK σ K) {v : Nat} (hv : v < 8) : bc32 (σ.2.1 112 v) = nI (cntN (cutF K v) 16) := by
  rw [bc32_set (fun b h1 h2 => by rw [h v b hv h2]; simp; omega)]
  congr 1
  apply cntN_congr
  intro i hi
  rw [h v i hv (by omega)]; simp [hi, cutF]
theorem msk_b : ∀ b, b < 16 → ∀ i, i < 32 → bt (shl32 (nI 2) (nI b) - nI 1) i = decide (i < b + 1) := by decide +kernel
theorem RK.countTo {σ : SS} {K : Nat → Bool} (h : RK σ K) {v b : Nat} (hv : v < 8) (hb : b < 16) : bc32 (σ.2.1 112 v &&& (shl32 (nI 2) (nI b) - nI 1)) = nI (cntN (cutF K v) (b + 1)) := by
  rw [bc32_set (fun c h1 h2 => by rw [b_and, h v c hv h2]; simp; omega)]
  congr 1
  rw [← cntN_and (cutF K v) (b + 1) 16 (by omega)]
  apply cntN_congr
  intro i hi
  rw [b_and, h v i hv (by omega), msk_b b hb i (by omega)]; simp [hi, cutF]
set_option maxRecDepth 100000 in
set_option maxHeartbeats 4000000 in
theorem ct_Cu_countOf (G : Gl) (σ : SS) (v : Nat) (K : Nat → Bool) (hK : RK σ K) (hv : v < 8) : CI G mX1_countOf [Rf G 111, .int (nI v)] σ (fun r σ1 => r = nI (cntN (cutF K v) 16) ∧ σ1 = σ) := by
  refine Ctr.of oX1_countOf (Nat.le_of_ble_eq_true rfl) ?_
  intro X C R hnm hz0
  have C : Cx G X cX1_countOf 2 RX1 1 20 0 0 := C
  have R : Cr G X (some .int) 0 0 _ := R
  show V G X 2 0 0 0 [(0, Rf G 111), (1, .int (nI v))] [] (wld G σ)
  have kk_111 := sk_111
  have kk_112 := sk_112
  refine V.aload_n C 0 rfl rfl dX1_countOf_0 ?_
  refine V.getR C fX1_9 dX1_countOf_1 (by assumption) rfl ?_
  refine V.iload_n C 1 rfl rfl dX1_countOf_4 ?_
  refine V.ialdN C dX1_countOf_5 (by assumption) (by omega) ?_
  refine V.cSi C lX1_15 oJ6_bitCount_0f7a4 dX1_countOf_6 (ct_bitCount G σ (σ.2.1 112 v)) rfl rfl (Nat.le_of_ble_eq_true rfl) ⟨Nat.le_of_ble_eq_true rfl, Nat.le_of_ble_eq_true rfl⟩ ⟨Nat.le_of_ble_eq_true rfl, Nat.le_of_ble_eq_true rfl⟩ (fun rr_6 σ6 pp_6 => ?_)
  obtain ⟨ee_6, ff_6⟩ := pp_6
  rw [ee_6, ff_6, hK.count hv]
  exact V.iretS C R dX1_countOf_9 ⟨rfl, rfl⟩
set_option maxRecDepth 100000 in
set_option maxHeartbeats 4000000 in
theorem ct_Cu_sliceAt (G : Gl) (σ : SS) (v b : Nat) (K : Nat → Bool) (hK : RK σ K) (hv : v < 8) (hb : b < 16) : CI G mX1_sliceAt [Rf G 111, .int (nI v), .int (nI b)] σ (fun r σ1 => r = nI (cntN (cutF K v) (b + 1)) ∧ σ1 = σ) := by
  refine Ctr.of oX1_sliceAt (Nat.le_of_ble_eq_true rfl) ?_
  intro X C R hnm hz0
  have C : Cx G X cX1_sliceAt 4 RX1 1 20 0 0 := C
  have R : Cr G X (some .int) 0 0 _ := R
  show V G X 4 0 0 0 [(0, Rf G 111), (1, .int (nI v)), (2, .int (nI b))] [] (wld G σ)
  have kk_111 := sk_111
  have kk_112 := sk_112
  refine V.aload_n C 0 rfl rfl dX1_sliceAt_0 ?_
  refine V.getR C fX1_9 dX1_sliceAt_1 (by assumption) rfl ?_
  refine V.iload_n C 1 rfl rfl dX1_sliceAt_4 ?_
  refine V.ialdN C dX1_sliceAt_5 (by assumption) (by omega) ?_
  refine V.iconst C (nI 2) c_2 dX1_sliceAt_6 ?_
  refine V.iload_n C 2 rfl rfl dX1_sliceAt_7 ?_
  refine V.ishl C dX1_sliceAt_8 ?_
  refine V.iconst C (nI 1) c_1 dX1_sliceAt_9 ?_
  refine V.isub C dX1_sliceAt_10 ?_
  refine V.iand C dX1_sliceAt_11 ?_
  refine V.istore_n C 3 dX1_sliceAt_12 rfl (by decide) ?_
  refine V.iload_n C 3 rfl rfl dX1_sliceAt_13 ?_
  refine V.cSi C lX1_15 oJ6_bitCount_0f7a4 dX1_sliceAt_14 (ct_bitCount G σ (σ.2.1 112 v &&& (shl32 (nI 2) (nI b) - nI 1))) rfl rfl (Nat.le_of_ble_eq_true rfl) ⟨Nat.le_of_ble_eq_true rfl, Nat.le_of_ble_eq_true rfl⟩ ⟨Nat.le_of_ble_eq_true rfl, Nat.le_of_ble_eq_true rfl⟩ (fun rr_14 σ14 pp_14 => ?_)
  obtain ⟨ee_14, ff_14⟩ := pp_14
  rw [ee_14, ff_14, hK.countTo hv hb]
  exact V.iretS C R dX1_sliceAt_17 ⟨rfl, rfl⟩
set_option maxRecDepth 100000 in
set_option maxHeartbeats 4000000 in
theorem ct_Cu_startOf (G : Gl) (σ : SS) (v j : Nat) (K : Nat → Bool) (hK : RK σ K) (hv : v < 8) (h0 : cutF K v 0 = false) (hj : j ≤ cntN (cutF K v) 16) : CI G mX1_startOf [Rf G 111, .int (nI v), .int (nI j)] σ (fun r σ1 => ∃ p, r = nI p ∧ stP (cutF K v) j p ∧ σ1 = σ) := by
  refine Ctr.of oX1_startOf (Nat.le_of_ble_eq_true rfl) ?_
  intro X C R hnm hz0
  have C : Cx G X cX1_startOf 5 RX1 0 0 0 0 := C
  have R : Cr G X (some .int) 0 0 _ := R
  show V G X 5 0 0 0 [(0, Rf G 111), (1, .int (nI v)), (2, .int (nI j))] [] (wld G σ)
  have kk_111 := sk_111
  have kk_112 := sk_112
  have hj16 := cntN_max (cutF K v) 16
  have loop : ∀ (m b : Nat), 16 < b + m → 1 ≤ b → b ≤ 16 → (0 < j → cntN (cutF K v) b < j) → V G X 5 0 0 5 [(0, Rf G 111), (1, .int (nI v)), (2, .int (nI j)), (3, .int (nI (cntN (cutF K v) b))), (4, .int (nI b))] [] (wld G σ) := by
    intro m
    induction m with
    | zero =>
      intro b hm hb1 hb hlt
      exact absurd hm (by omega)
    | succ m ih =>
      intro b hm hb1 hb hlt
      refine V.iload C rfl dX1_startOf_5 ?_
      refine V.bipush C (nI 16) b_16 dX1_startOf_7 ?_
      refine V.icmp_ge C 48 dX1_startOf_9 rfl (fun hb_9 => ?_) (fun hb_9 => ?_)
      · have hb16 : b = 16 := by have := (nI_leI (by decide) (by omega)).mp hb_9; omega
        refine V.iconst C (nI 0) c_0 dX1_startOf_48 ?_
        exact V.iretS C R dX1_startOf_49 ⟨0, rfl, Or.inl ⟨Nat.eq_zero_of_not_pos (fun q => by have := hlt q; rw [hb16] at this; omega), rfl⟩, rfl⟩
      · have hb16 : b < 16 := Nat.lt_of_not_le (fun q => hb_9 (nI_le q (by omega)))
        have hmx := cntN_max (cutF K v) b
        refine V.iload_n C 3 rfl rfl dX1_startOf_12 ?_
        refine V.iload_n C 2 rfl rfl dX1_startOf_13 ?_
        refine V.icmp_ge C 48 dX1_startOf_14 rfl (fun hb_14 => ?_) (fun hb_14 => ?_)
        · have hj0 : j = 0 := Nat.eq_zero_of_not_pos (fun q => by have := hlt q; have := (nI_leI (by omega) (by omega)).mp hb_14; omega)
          refine V.iconst C (nI 0) c_0 dX1_startOf_48 ?_
          exact V.iretS C R dX1_startOf_49 ⟨0, rfl, Or.inl ⟨hj0, rfl⟩, rfl⟩
        · have hjs : cntN (cutF K v) b < j := Nat.lt_of_not_le (fun q => hb_14 (nI_le q (by omega)))
          refine V.aload_n C 0 rfl rfl dX1_startOf_17 ?_
          refine V.getR C fX1_9 dX1_startOf_18 (by assumption) rfl ?_
          refine V.iload_n C 1 rfl rfl dX1_startOf_21 ?_
          refine V.ialdN C dX1_startOf_22 (by assumption) (by omega) ?_
          refine V.iconst C (nI 1) c_1 dX1_startOf_23 ?_
          refine V.iload C rfl dX1_startOf_24 ?_
          refine V.ishl C dX1_startOf_26 ?_
          refine V.iand C dX1_startOf_27 ?_
          rw [show (σ.2.1 112 v &&& shl32 (nI 1) (nI b)) = (σ.2.1 112 ((16 * v + b) / 16) &&& shl32 (nI 1) (nI ((16 * v + b) % 16))) by rw [show (16 * v + b) / 16 = v by omega, show (16 * v + b) % 16 = b by omega]]
          refine V.if_eq C 42 dX1_startOf_28 rfl (fun hb_28 => ?_) (fun hb_28 => ?_)
          · have hf_ : cutF K v b = false := (hK.test (by omega)).mp hb_28
            refine V.iinc C (nI (b + 1)) dX1_startOf_42 rfl (nI_1 b) (by decide) ?_
            refine V.goto C 5 dX1_startOf_45 rfl ?_
            refine V.lvs (lv' := [(0, Rf G 111), (1, .int (nI v)), (2, .int (nI j)), (3, .int (nI (cntN (cutF K v) b))), (4, .int (nI (b + 1)))]) rfl ?_
            have qq_ := ih (b + 1) (by omega) (by omega) (by omega) (fun hj => by
              have e1 : cntN (cutF K v) (b + 1) = cntN (cutF K v) b + (if cutF K v b then 1 else 0) := rfl
              rw [e1, hf_]; simp; omega)
            rw [show cntN (cutF K v) (b + 1) = (cntN (cutF K v) b) by
              have e1 : cntN (cutF K v) (b + 1) = cntN (cutF K v) b + (if cutF K v b then 1 else 0) := rfl
              rw [e1, hf_]; rfl] at qq_
            exact qq_
          · have hf_ : cutF K v b = true := by
              cases hq : cutF K v b with
              | true => rfl
              | false => exact absurd ((hK.test (by omega)).mpr hq) hb_28
            refine V.iinc C (nI (cntN (cutF K v) b + 1)) dX1_startOf_31 rfl (nI_1 _) (by decide) ?_
            refine V.iload_n C 3 rfl rfl dX1_startOf_34 ?_
            refine V.iload_n C 2 rfl rfl dX1_startOf_35 ?_
            refine V.icmp_ne C 42 dX1_startOf_36 rfl (fun hb_36 => ?_) (fun hb_36 => ?_)
            · have he_ : ¬ cntN (cutF K v) b + 1 = j := fun q => hb_36 (by rw [q])
              refine V.iinc C (nI (b + 1)) dX1_startOf_42 rfl (nI_1 b) (by decide) ?_
              refine V.goto C 5 dX1_startOf_45 rfl ?_
              refine V.lvs (lv' := [(0, Rf G 111), (1, .int (nI v)), (2, .int (nI j)), (3, .int (nI (cntN (cutF K v) b + 1))), (4, .int (nI (b + 1)))]) rfl ?_
              have qq_ := ih (b + 1) (by omega) (by omega) (by omega) (fun hj => by
                have e1 : cntN (cutF K v) (b + 1) = cntN (cutF K v) b + (if cutF K v b then 1 else 0) := rfl
                rw [e1, hf_]; simp; omega)
              rw [show cntN (cutF K v) (b + 1) = (cntN (cutF K v) b + 1) by
                have e1 : cntN (cutF K v) (b + 1) = cntN (cutF K v) b + (if cutF K v b then 1 else 0) := rfl
                rw [e1, hf_]; rfl] at qq_
              exact qq_
            · have he_ : cntN (cutF K v) b + 1 = j := nI_pe (by omega) (by omega) hb_36
              refine V.iload C rfl dX1_startOf_39 ?_
              exact V.iretS C R dX1_startOf_41 ⟨b, rfl, Or.inr ⟨by omega, hf_, he_⟩, rfl⟩
  refine V.iconst C (nI 0) c_0 dX1_startOf_0 ?_
  refine V.istore_n C 3 dX1_startOf_1 rfl (by decide) ?_
  refine V.iconst C (nI 1) c_1 dX1_startOf_2 ?_
  refine V.istore C dX1_startOf_3 (by decide) ?_
  refine V.lvs (lv' := [(0, Rf G 111), (1, .int (nI v)), (2, .int (nI j)), (3, .int (nI 0)), (4, .int (nI 1))]) rfl ?_
  have qq_ := loop 16 1 (by omega) (by omega) (by omega) (by intro hj; simp [cntN, h0]; exact hj)
  rw [show cntN (cutF K v) 1 = 0 by simp [cntN, h0]] at qq_
  exact qq_
