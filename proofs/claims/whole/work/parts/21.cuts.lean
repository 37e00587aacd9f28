/-! Cuts: the pure sets, the least closed one; Cuts' methods. -/
def sameP (L : Nat → Nat) (k : Nat) : Bool := decide (L k / 256 = L (k - 1) / 256)
def markT (K : Nat → Bool) (L : Nat → Nat) (k : Nat) : Bool := !sameP L k || (isV (L k) && K (vb (L k)))
/-- rule 1 for one term of n bits -/
def Cl1 (w : Nat → Nat) (n : Nat) (T : Nat → Nat) (K : Nat → Bool) : Prop := ∀ k, k < n → isV (T k) = true → ((k = 0 ∨ sameP T k = false) → 0 < vb (T k) % 16 → K (vb (T k)) = true) ∧ ((k = n - 1 ∨ sameP T (k + 1) = false) → vb (T k) % 16 + 1 < w (vb (T k) / 16) → K (vb (T k) + 1) = true)
/-- rule 2 from one term into the other -/
def Cl2 (n : Nat) (A B : Nat → Nat) (K : Nat → Bool) : Prop := ∀ k, 1 ≤ k → k < n → markT K A k = true → sameP B k = true → isV (B k) = true → K (vb (B k)) = true
def Closed (P : Prob) (K : Nat → Bool) : Prop := ∀ (i : Nat) (s : Stm), P.2.1[i]? = some s → Cl1 P.1 s.1 s.2.1 K ∧ Cl1 P.1 s.1 s.2.2 K ∧ Cl2 s.1 s.2.1 s.2.2 K ∧ Cl2 s.1 s.2.2 s.2.1 K
def Snd (P : Prob) (K : Nat → Bool) : Prop := ∀ K', Closed P K' → ∀ x, K x = true → K' x = true
def Least (P : Prob) (K : Nat → Bool) : Prop := Closed P K ∧ Snd P K
theorem Least.uniq {P : Prob} {K K' : Nat → Bool} (h : Least P K) (h' : Least P K') : K = K' := by
  funext x
  have h1 := h.2 K' h'.1 x
  have h2 := h'.2 K h.1 x
  cases hK : K x <;> cases hK' : K' x <;> simp_all
/-- a statement of a state: bits of declared variables; a part of a variable goes up bit by bit -/
def wfT (w : Nat → Nat) (n : Nat) (T : Nat → Nat) : Prop := (∀ k, k < n → okB (T k)) ∧ (∀ k, k < n → isV (T k) = true → vb (T k) % 16 < w (vb (T k) / 16)) ∧ (∀ k, 1 ≤ k → k < n → sameP T k = true → isV (T k) = true → 0 < vb (T k) % 16)
def wfS (w : Nat → Nat) (s : Stm) : Prop := 1 ≤ s.1 ∧ s.1 ≤ 16 ∧ wfT w s.1 s.2.1 ∧ wfT w s.1 s.2.2
def wfP (P : Prob) : Prop := (∀ v, v < 8 → P.1 v ≤ 16) ∧ P.2.1.length ≤ 10 ∧ P.2.2.length ≤ 3 ∧ (∀ (i : Nat) (s : Stm), P.2.1[i]? = some s → wfS P.1 s) ∧ (∀ (i : Nat) (s : Stm), P.2.2[i]? = some s → wfS P.1 s)
theorem wfS.ok {w : Nat → Nat} {s : Stm} (h : wfS w s) : okS s := ⟨h.1, h.2.1, fun k hk => ⟨h.2.2.1.1 k hk, h.2.2.2.1 k hk⟩⟩
theorem wfP.okP {P : Prob} (h : wfP P) : okP P := ⟨fun i s hi => (h.2.2.2.1 i s hi).ok, fun i s hi => (h.2.2.2.2 i s hi).ok⟩
/-- every place between two bits of a declared variable -/
def inner (P : Prob) (x : Nat) : Bool := decide (x < 128 ∧ 0 < x % 16 ∧ x % 16 < P.1 (x / 16))
theorem inner_closed {P : Prob} (h : wfP P) : Closed P (inner P) := by
  intro i s hi
  have hs := h.2.2.2.1 i s hi
  have key1 : ∀ T, wfT P.1 s.1 T → Cl1 P.1 s.1 T (inner P) := by
    intro T hT k hk hv
    have h1 := vb_lt (hT.1 k hk) hv
    have h2 := hT.2.1 k hk hv
    have h3 := h.1 (vb (T k) / 16) (by omega)
    refine ⟨fun _ h0 => ?_, fun _ h0 => ?_⟩
    · simp only [inner, decide_eq_true_eq]; exact ⟨h1, h0, h2⟩
    · have e : (vb (T k) + 1) / 16 = vb (T k) / 16 := by omega
      simp only [inner, decide_eq_true_eq, e]; omega
  have key2 : ∀ A B, wfT P.1 s.1 B → Cl2 s.1 A B (inner P) := by
    intro A B hT k hk1 hk _ hsm hv
    have h1 := vb_lt (hT.1 k hk) hv
    have h2 := hT.2.1 k hk hv
    have h3 := hT.2.2 k hk1 hk hsm hv
    simp only [inner, decide_eq_true_eq]; exact ⟨h1, h3, h2⟩
  exact ⟨key1 _ hs.2.2.1, key1 _ hs.2.2.2, key2 _ _ hs.2.2.2, key2 _ _ hs.2.2.1⟩
theorem Snd.inn {P : Prob} {K : Nat → Bool} (h : Snd P K) (hw : wfP P) {x : Nat} (hx : K x = true) : x < 128 ∧ 0 < x % 16 ∧ x % 16 < P.1 (x / 16) := by
  have := h _ (inner_closed hw) x hx
  unfold inner at this; simpa using this
def RK (σ : SS) (K : Nat → Bool) : Prop := ∀ v b, v < 8 → b < 32 → bt (σ.2.1 112 v) b = (decide (b < 16) && K (16 * v + b))
def upK (K : Nat → Bool) (x : Nat) : Nat → Bool := fun y => K y || decide (y = x)
theorem RK.set {σ : SS} {K : Nat → Bool} (h : RK σ K) {v b : Nat} (hv : v < 8) (hb : b < 16) : RK (sA σ 112 (va_up (σ.2.1 112) v (σ.2.1 112 v ||| shl32 (nI 1) (nI b)))) (upK K (16 * v + b)) := by
  intro v' b' hv' hb'
  rw [sA_A]
  by_cases e : v' = v
  · subst e
    rw [up_eq, bt_or (by omega) hb', h v' b' hv' hb']
    unfold upK
    by_cases e2 : b' = b
    · subst e2; simp [hb]
    · have : ¬ 16 * v' + b' = 16 * v' + b := by omega
      simp [e2]
  · rw [up_ne _ _ e, h v' b' hv' hb']
    unfold upK
    by_cases q : b' < 16
    · have : ¬ 16 * v' + b' = 16 * v + b := by omega
      simp [this]
    · simp [q]
theorem RK.fr {σ σ1 : SS} {K : Nat → Bool} {a b : Nat} (h : RK σ K) (hF : Fr a b σ σ1) (hc : 113 ≤ a ∨ b ≤ 112) : RK σ1 K := by
  unfold RK; rw [hF.A (k := 112) (by omega)]; exact h
theorem RK.test {σ : SS} {K : Nat → Bool} (h : RK σ K) {x : Nat} (hx : x < 128) : (σ.2.1 112 (x / 16) &&& shl32 (nI 1) (nI (x % 16))) = 0 ↔ K x = false := by
  rw [bt_test (by omega), h _ _ (by omega) (by omega)]
  have e : 16 * (x / 16) + x % 16 = x := by omega
  rw [e]; simp [Nat.mod_lt x (show 16 > 0 by decide)]
set_option maxRecDepth 100000 in
set_option maxHeartbeats 4000000 in
theorem ct_Cu_isCut (G : Gl) (σ : SS) (x : Nat) (K : Nat → Bool) (hK : RK σ K) (hx : x < 128) : CI G mX1_isCut [Rf G 111, .int (nI x)] σ (fun r σ1 => r = bI (K x) ∧ σ1 = σ) := by
  refine Ctr.of oX1_isCut (Nat.le_of_ble_eq_true rfl) ?_
  intro X C R hnm hz0
  have C : Cx G X cX1_isCut 2 RX1 1 20 0 0 := C
  have R : Cr G X (some .boolean) 0 0 _ := R
  show V G X 2 0 0 0 [(0, Rf G 111), (1, .int (nI x))] [] (wld G σ)
  have kk_111 := sk_111
  have kk_112 := sk_112
  refine V.aload_n C 0 rfl rfl dX1_isCut_0 ?_
  refine V.getR C fX1_9 dX1_isCut_1 (by assumption) rfl ?_
  refine V.iload_n C 1 rfl rfl dX1_isCut_4 ?_
  refine V.cSNi C lX1_62 oX9_variableOf dX1_isCut_5 (ct_variableOf G σ x (by omega)) rfl rfl (Nat.le_of_ble_eq_true rfl) ⟨Nat.le_of_ble_eq_true rfl, Nat.le_of_ble_eq_true rfl⟩ ⟨Nat.le_of_ble_eq_true rfl, Nat.le_of_ble_eq_true rfl⟩ (fun rr_5 σ5 pp_5 => ?_)
  obtain ⟨ee_5, ff_5⟩ := pp_5
  rw [ee_5, ff_5]
  refine V.ialdN C dX1_isCut_8 (by assumption) (by omega) ?_
  refine V.iconst C (nI 1) c_1 dX1_isCut_9 ?_
  refine V.iload_n C 1 rfl rfl dX1_isCut_10 ?_
  refine V.cSNi C lX1_65 oX9_bitOf dX1_isCut_11 (ct_bitOf G σ x (by omega)) rfl rfl (Nat.le_of_ble_eq_true rfl) ⟨Nat.le_of_ble_eq_true rfl, Nat.le_of_ble_eq_true rfl⟩ ⟨Nat.le_of_ble_eq_true rfl, Nat.le_of_ble_eq_true rfl⟩ (fun rr_11 σ11 pp_11 => ?_)
  obtain ⟨ee_11, ff_11⟩ := pp_11
  rw [ee_11, ff_11]
  refine V.ishl C dX1_isCut_14 ?_
  refine V.iand C dX1_isCut_15 ?_
  refine V.if_eq C 23 dX1_isCut_16 rfl (fun hb_16 => ?_) (fun hb_16 => ?_)
  · refine V.iconst C (nI 0) c_0 dX1_isCut_23 ?_
    exact V.zretS C R dX1_isCut_24 (by first | exact Or.inl rfl | exact Or.inr rfl | exact bI01 _) ⟨by rw [(hK.test hx).mp hb_16]; rfl, rfl⟩
  · refine V.iconst C (nI 1) c_1 dX1_isCut_19 ?_
    refine V.goto C 24 dX1_isCut_20 rfl ?_
    exact V.zretS C R dX1_isCut_24 (by first | exact Or.inl rfl | exact Or.inr rfl | exact bI01 _) ⟨by rw [show K x = true by cases hkx : K x with | true => rfl | false => exact absurd ((hK.test hx).mpr hkx) hb_16]; rfl, rfl⟩
/-- the two terms of a statement by their side -/
def trm (s : Stm) (d : Nat) : Nat → Nat := if d = 0 then s.2.1 else s.2.2
theorem stAt.node {σ : SS} {o i d k : Nat} {s : Stm} (h : stAt σ o i s) (hd : d < 2) (hk : k < s.1) : σ.2.1 (o + 2) ((i * 2 + d) * 16 + k) = nI (cn (trm s d k)) := by
  rcases (show d = 0 ∨ d = 1 by omega) with rfl | rfl
  · exact h.2.1 k hk
  · exact h.2.2.1 k hk
theorem stAt.pe {σ : SS} {o i d k : Nat} {s : Stm} (h : stAt σ o i s) (hd : d < 2) (hk1 : 1 ≤ k) (hk : k < s.1) : decide (¬ (σ.2.1 (o + 3) (i * 2 + d) &&& shl32 (nI 1) (nI k)) = 0) = !sameP (trm s d) k := by
  have key : ((σ.2.1 (o + 3) (i * 2 + d) &&& shl32 (nI 1) (nI k)) = 0) ↔ trm s d k / 256 = trm s d (k - 1) / 256 := by
    rcases (show d = 0 ∨ d = 1 by omega) with rfl | rfl
    · exact h.2.2.2.1 k hk1 hk
    · exact h.2.2.2.2 k hk1 hk
  unfold sameP
  by_cases q : trm s d k / 256 = trm s d (k - 1) / 256
  · simp [key.mpr q, q]
  · have q2 : ¬ (σ.2.1 (o + 3) (i * 2 + d) &&& shl32 (nI 1) (nI k)) = 0 := fun e => q (key.mp e)
    simp only [q, q2, decide_false, not_false_iff, decide_true]; rfl
theorem okS.trmB {s : Stm} (h : okS s) {d k : Nat} (hk : k < s.1) : okB (trm s d k) := by
  unfold trm
  split
  · exact (h.2.2 k hk).1
  · exact (h.2.2 k hk).2
theorem SA_11 : StA 11 10 := ⟨rfl, rfl, rfl, rfl, by decide⟩
theorem SA_15 : StA 15 3 := ⟨rfl, rfl, rfl, rfl, by decide⟩
set_option maxRecDepth 100000 in
set_option maxHeartbeats 4000000 in
theorem ct_Cu_isMarked (G : Gl) (σ : SS) (i d b : Nat) (K : Nat → Bool) (l : List Stm) (s : Stm) (hK : RK σ K) (hl : RS σ 11 10 l) (his : l[i]? = some s) (hok : okS s) (hd : d < 2) (hb1 : 1 ≤ b) (hb2 : b < s.1) : CI G mX1_isMarked [Rf G 111, Rf G 11, .int (nI i), .int (nI d), .int (nI b)] σ (fun r σ1 => r = bI (markT K (trm s d) b) ∧ σ1 = σ) := by
  refine Ctr.of oX1_isMarked (Nat.le_of_ble_eq_true rfl) ?_
  intro X C R hnm hz0
  have C : Cx G X cX1_isMarked 6 RX1 2 41 0 0 := C
  have R : Cr G X (some .boolean) 0 0 _ := R
  show V G X 6 0 0 0 [(0, Rf G 111), (1, Rf G 11), (2, .int (nI i)), (3, .int (nI d)), (4, .int (nI b))] [] (wld G σ)
  have kk_111 := sk_111
  have kk_112 := sk_112
  have hS := SA_11
  have kk_11 := sk_11
  have hil := RS.lt hl his
  have hlc := hl.2.2.1
  have hst := hl.2.2.2 i s his
  have hok1 := hok.1
  have hok2 := hok.2.1
  refine V.aload_n C 1 rfl rfl dX1_isMarked_0 ?_
  refine V.iload_n C 2 rfl rfl dX1_isMarked_1 ?_
  refine V.iload_n C 3 rfl rfl dX1_isMarked_2 ?_
  refine V.iload C rfl dX1_isMarked_3 ?_
  refine V.cVi C lX1_58 oX6_partEndsAt dX1_isMarked_5 (ct_St_partEndsAt G σ 11 10 i d b hS (by omega) hd) (by assumption) rfl rfl (Nat.le_of_ble_eq_true rfl) ⟨Nat.le_of_ble_eq_true rfl, Nat.le_of_ble_eq_true rfl⟩ ⟨Nat.le_of_ble_eq_true rfl, Nat.le_of_ble_eq_true rfl⟩ (fun rr_5 σ5 pp_5 => ?_)
  obtain ⟨ee_5, ff_5⟩ := pp_5
  rw [ee_5, ff_5, hst.pe hd hb1 hb2]
  refine V.if_eq C 13 dX1_isMarked_8 rfl (fun hb_8 => ?_) (fun hb_8 => ?_)
  · have hs_ : sameP (trm s d) b = true := by simpa using bI_eq0 hb_8
    refine V.aload_n C 1 rfl rfl dX1_isMarked_13 ?_
    refine V.iload_n C 2 rfl rfl dX1_isMarked_14 ?_
    refine V.iload_n C 3 rfl rfl dX1_isMarked_15 ?_
    refine V.iload C rfl dX1_isMarked_16 ?_
    refine V.cVi C lX1_50 oX6_node dX1_isMarked_18 (ct_St_node G σ 11 10 i d b hS (by omega) hd (by omega)) (by assumption) rfl rfl (Nat.le_of_ble_eq_true rfl) ⟨Nat.le_of_ble_eq_true rfl, Nat.le_of_ble_eq_true rfl⟩ ⟨Nat.le_of_ble_eq_true rfl, Nat.le_of_ble_eq_true rfl⟩ (fun rr_18 σ18 pp_18 => ?_)
    obtain ⟨ee_18, ff_18⟩ := pp_18
    rw [ee_18, ff_18, hst.node hd hb2]
    refine V.istore C dX1_isMarked_21 (by decide) ?_
    refine V.iload C rfl dX1_isMarked_23 ?_
    refine V.cSNi C lX1_54 oX9_isConstantNode dX1_isMarked_25 (ct_isConstantNode G σ (nI (cn (trm s d b)))) rfl rfl (Nat.le_of_ble_eq_true rfl) ⟨Nat.le_of_ble_eq_true rfl, Nat.le_of_ble_eq_true rfl⟩ ⟨Nat.le_of_ble_eq_true rfl, Nat.le_of_ble_eq_true rfl⟩ (fun rr_25 σ25 pp_25 => ?_)
    obtain ⟨ee_25, ff_25⟩ := pp_25
    rw [ee_25, ff_25, cn_const (hok.trmB hb2)]
    refine V.if_ne C 44 dX1_isMarked_28 rfl (fun hb_28 => ?_) (fun hb_28 => ?_)
    · have hv_ : isV (trm s d b) = false := by simpa using bI_ne0 hb_28
      refine V.iconst C (nI 0) c_0 dX1_isMarked_44 ?_
      exact V.zretS C R dX1_isMarked_45 (by first | exact Or.inl rfl | exact Or.inr rfl | exact bI01 _) ⟨by unfold markT; simp only [hs_, hv_]; rfl, rfl⟩
    · have hv_ : isV (trm s d b) = true := by simpa using bI_eq0 hb_28
      refine V.aload_n C 0 rfl rfl dX1_isMarked_31 ?_
      refine V.iload C rfl dX1_isMarked_32 ?_
      rw [cn_v hv_]
      refine V.cVi C lX1_72 oX1_isCut dX1_isMarked_34 (ct_Cu_isCut G σ (vb (trm s d b)) K hK (vb_lt (hok.trmB hb2) hv_)) (by assumption) rfl rfl (Nat.le_of_ble_eq_true rfl) ⟨Nat.le_of_ble_eq_true rfl, Nat.le_of_ble_eq_true rfl⟩ ⟨Nat.le_of_ble_eq_true rfl, Nat.le_of_ble_eq_true rfl⟩ (fun rr_34 σ34 pp_34 => ?_)
      obtain ⟨ee_34, ff_34⟩ := pp_34
      rw [ee_34, ff_34]
      refine V.if_eq C 44 dX1_isMarked_37 rfl (fun hb_37 => ?_) (fun hb_37 => ?_)
      · have hk_ := bI_eq0 hb_37
        refine V.iconst C (nI 0) c_0 dX1_isMarked_44 ?_
        exact V.zretS C R dX1_isMarked_45 (by first | exact Or.inl rfl | exact Or.inr rfl | exact bI01 _) ⟨by unfold markT; simp only [hs_, hv_, hk_]; rfl, rfl⟩
      · have hk_ := bI_ne0 hb_37
        refine V.iconst C (nI 1) c_1 dX1_isMarked_40 ?_
        refine V.goto C 45 dX1_isMarked_41 rfl ?_
        exact V.zretS C R dX1_isMarked_45 (by first | exact Or.inl rfl | exact Or.inr rfl | exact bI01 _) ⟨by unfold markT; simp only [hs_, hv_, hk_]; rfl, rfl⟩
  · have hs_ : sameP (trm s d) b = false := by simpa using bI_ne0 hb_8
    refine V.iconst C (nI 1) c_1 dX1_isMarked_11 ?_
    exact V.zretS C R dX1_isMarked_12 (by first | exact Or.inl rfl | exact Or.inr rfl | exact bI01 _) ⟨by unfold markT; simp only [hs_]; rfl, rfl⟩
set_option maxRecDepth 100000 in
set_option maxHeartbeats 4000000 in
theorem ct_Cu_cutBelow (G : Gl) (σ : SS) (v b : Nat) (K : Nat → Bool) (P : Prob) (hK : RK σ K) (hP : RP σ 9 P) (hv : v < 8) (hw : P.1 v ≤ 16) (hb : b < 17) : CV G mX1_cutBelow [Rf G 111, Rf G 9, .int (nI v), .int (nI b)] σ (fun σ1 => RK σ1 (if 1 ≤ b ∧ b < P.1 v then upK K (16 * v + b) else K) ∧ Fr 112 113 σ σ1) := by
  refine Ctr.of oX1_cutBelow (Nat.le_of_ble_eq_true rfl) ?_
  intro X C R hnm hz0
  have C : Cx G X cX1_cutBelow 4 RX1 2 41 0 0 := C
  have R : Cr G X none 0 0 _ := R
  show V G X 4 0 0 0 [(0, Rf G 111), (1, Rf G 9), (2, .int (nI v)), (3, .int (nI b))] [] (wld G σ)
  have kk_111 := sk_111
  have kk_112 := sk_112
  have kk_9 := sk_9
  refine V.iload_n C 3 rfl rfl dX1_cutBelow_0 ?_
  refine V.iconst C (nI 1) c_1 dX1_cutBelow_1 ?_
  refine V.icmp_lt C 26 dX1_cutBelow_2 rfl (fun hb_2 => ?_) (fun hb_2 => ?_)
  · have hq_ : ¬ (1 ≤ b ∧ b < P.1 v) := by have := (nI_ltI (by omega) (by decide)).mp hb_2; omega
    exact V.vretS C R dX1_cutBelow_26 ⟨by rw [if_neg hq_]; exact hK, Fr.refl _ _ _⟩
  · refine V.iload_n C 3 rfl rfl dX1_cutBelow_5 ?_
    refine V.aload_n C 1 rfl rfl dX1_cutBelow_6 ?_
    refine V.iload_n C 2 rfl rfl dX1_cutBelow_7 ?_
    refine V.cVi C lX1_71 oX4_widthOf dX1_cutBelow_8 (ct_Pb_widthOf G σ 9 v P (PbA_of (by decide)) hP hv) (by assumption) rfl rfl (Nat.le_of_ble_eq_true rfl) ⟨Nat.le_of_ble_eq_true rfl, Nat.le_of_ble_eq_true rfl⟩ ⟨Nat.le_of_ble_eq_true rfl, Nat.le_of_ble_eq_true rfl⟩ (fun rr_8 σ8 pp_8 => ?_)
    obtain ⟨ee_8, ff_8⟩ := pp_8
    rw [ee_8, ff_8]
    refine V.icmp_ge C 26 dX1_cutBelow_11 rfl (fun hb_11 => ?_) (fun hb_11 => ?_)
    · have hq_ : ¬ (1 ≤ b ∧ b < P.1 v) := by have := (nI_leI (by omega) (by omega)).mp hb_11; omega
      exact V.vretS C R dX1_cutBelow_26 ⟨by rw [if_neg hq_]; exact hK, Fr.refl _ _ _⟩
    · have hq1_ : ¬ b < 1 := fun q => hb_2 ((nI_ltI (by omega) (by decide)).mpr q)
      have hq_ : 1 ≤ b ∧ b < P.1 v := ⟨by omega, Nat.lt_of_not_le (fun q => hb_11 (nI_le q (by omega)))⟩
      refine V.aload_n C 0 rfl rfl dX1_cutBelow_14 ?_
      refine V.getR C fX1_9 dX1_cutBelow_15 (by assumption) rfl ?_
      refine V.iload_n C 2 rfl rfl dX1_cutBelow_18 ?_
      refine V.dup2 C rfl rfl dX1_cutBelow_19 ?_
      refine V.ialdN C dX1_cutBelow_20 (by assumption) (by omega) ?_
      refine V.iconst C (nI 1) c_1 dX1_cutBelow_21 ?_
      refine V.iload_n C 3 rfl rfl dX1_cutBelow_22 ?_
      refine V.ishl C dX1_cutBelow_23 ?_
      refine V.ior C dX1_cutBelow_24 ?_
      refine V.iastN C dX1_cutBelow_25 (by assumption) (by omega) ?_
      exact V.vretS C R dX1_cutBelow_26 ⟨by rw [if_pos hq_]; exact hK.set hv (by omega), (Fr.refl 112 113 σ).sA _ (by omega) (by omega)⟩
