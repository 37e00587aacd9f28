/-! Cuts: cutAroundParts, spread, cut. -/
def r1at (w : Nat → Nat) (n : Nat) (T : Nat → Nat) (K : Nat → Bool) (k : Nat) : Prop := isV (T k) = true → ((k = 0 ∨ sameP T k = false) → 0 < vb (T k) % 16 → K (vb (T k)) = true) ∧ ((k = n - 1 ∨ sameP T (k + 1) = false) → vb (T k) % 16 + 1 < w (vb (T k) / 16) → K (vb (T k) + 1) = true)
theorem r1at.mono {w : Nat → Nat} {n k : Nat} {T : Nat → Nat} {K K' : Nat → Bool} (h : r1at w n T K k) (hm : ∀ x, K x = true → K' x = true) : r1at w n T K' k := fun hv => ⟨fun a b => hm _ ((h hv).1 a b), fun a b => hm _ ((h hv).2 a b)⟩
theorem Cl1.mono {w : Nat → Nat} {n : Nat} {T : Nat → Nat} {K K' : Nat → Bool} (h : Cl1 w n T K) (hm : ∀ x, K x = true → K' x = true) : Cl1 w n T K' := fun k hk => r1at.mono (h k hk) hm
theorem upK_mono (K : Nat → Bool) (x : Nat) : ∀ y, K y = true → upK K x y = true := fun y h => by unfold upK; rw [h]; rfl
theorem upK_self (K : Nat → Bool) (x : Nat) : upK K x x = true := by unfold upK; simp
theorem Snd.up {P : Prob} {K : Nat → Bool} {x : Nat} (h : Snd P K) (hx : ∀ K', Closed P K' → K' x = true) : Snd P (upK K x) := fun K' hc y hy => by
  unfold upK at hy
  by_cases e : y = x
  · rw [e]; exact hx K' hc
  · have : K y = true := by simpa [e] using hy
    exact h K' hc y this
theorem Closed.r1 {P : Prob} {K : Nat → Bool} (h : Closed P K) {i : Nat} {s : Stm} (hi : P.2.1[i]? = some s) (d : Nat) : Cl1 P.1 s.1 (trm s d) K := by
  unfold trm; split
  · exact (h i s hi).1
  · exact (h i s hi).2.1
theorem Closed.r2 {P : Prob} {K : Nat → Bool} (h : Closed P K) {i : Nat} {s : Stm} (hi : P.2.1[i]? = some s) (d : Nat) (hd : d < 2) : Cl2 s.1 (trm s (1 - d)) (trm s d) K := by
  rcases (show d = 0 ∨ d = 1 by omega) with rfl | rfl
  · exact (h i s hi).2.2.2
  · exact (h i s hi).2.2.1
theorem wfS.T {w : Nat → Nat} {s : Stm} (h : wfS w s) (d : Nat) : wfT w s.1 (trm s d) := by
  unfold trm; split
  · exact h.2.2.1
  · exact h.2.2.2
theorem nI_pe {a b : Nat} (ha : a < 2 ^ 31) (hb : b < 2 ^ 31) (h : nI a = nI b) : a = b := (nI_eq ha hb).mp h
set_option maxRecDepth 100000 in
set_option maxHeartbeats 4000000 in
theorem ct_Cu_around (G : Gl) (σ : SS) (i d : Nat) (K : Nat → Bool) (P : Prob) (s : Stm) (hK : RK σ K) (hP : RP σ 9 P) (hW : wfP P) (his : P.2.1[i]? = some s) (hd : d < 2) : CV G mX1_cutAroundParts [Rf G 111, Rf G 9, .int (nI i), .int (nI d)] σ (fun σ1 => ∃ K1, RK σ1 K1 ∧ (∀ x, K x = true → K1 x = true) ∧ (Snd P K → Snd P K1) ∧ Cl1 P.1 s.1 (trm s d) K1 ∧ Fr 112 113 σ σ1) := by
  refine Ctr.of oX1_cutAroundParts (Nat.le_of_ble_eq_true rfl) ?_
  intro X C R hnm hz0
  have C : Cx G X cX1_cutAroundParts 8 RX1 3 64 0 0 := C
  have R : Cr G X none 0 0 _ := R
  show V G X 8 0 0 0 [(0, Rf G 111), (1, Rf G 9), (2, .int (nI i)), (3, .int (nI d))] [] (wld G σ)
  have kk_111 := sk_111
  have kk_112 := sk_112
  have kk_9 := sk_9
  have kk_11 := sk_11
  have hS := SA_11
  have hl := hP.2.1
  have hws := hW.2.2.2.1 i s his
  have hil := RS.lt hl his
  have hlc := hl.2.2.1
  have hok := hws.ok
  have hok1 := hok.1
  have hok2 := hok.2.1
  have hwT := hws.T d
  have loop : ∀ (m k : Nat) (Kk : Nat → Bool) (σ1 : SS), s.1 < k + m → k ≤ s.1 → RK σ1 Kk → (∀ x, K x = true → Kk x = true) → (Snd P K → Snd P Kk) → (∀ j, j < k → r1at P.1 s.1 (trm s d) Kk j) → Fr 112 113 σ σ1 → V G X 8 0 0 17 [(0, Rf G 111), (1, Rf G 9), (2, .int (nI i)), (3, .int (nI d)), (4, Rf G 11), (5, .int (nI s.1)), (6, .int (nI k))] [] (wld G σ1) := by
    intro m
    induction m with
    | zero =>
      intro k Kk σ1 hm hk hRK hle hsn hr1 hF
      exact absurd hm (by omega)
    | succ m ih =>
      intro k Kk σ1 hm hk hRK hle hsn hr1 hF
      have hP1 := hP.fr hF (by omega)
      have hst := hP1.2.1.2.2.2 i s his
      refine V.iload C rfl dX1_cutAroundParts_17 ?_
      refine V.iload C rfl dX1_cutAroundParts_19 ?_
      refine V.icmp_ge C 124 dX1_cutAroundParts_21 rfl (fun hb_21 => ?_) (fun hb_21 => ?_)
      · have hk8 : k = s.1 := by have := (nI_leI (by omega) (by omega)).mp hb_21; omega
        exact V.vretS C R dX1_cutAroundParts_124 ⟨Kk, hRK, hle, hsn, fun j hj => hr1 j (by omega), hF⟩
      · have hk8 : k < s.1 := Nat.lt_of_not_le (fun q => hb_21 (nI_le q (by omega)))
        have J118 : ∀ (K2 : Nat → Bool) (σ2 : SS), RK σ2 K2 → (∀ x, Kk x = true → K2 x = true) → (Snd P Kk → Snd P K2) → r1at P.1 s.1 (trm s d) K2 k → Fr 112 113 σ σ2 → V G X 8 0 0 118 [(0, Rf G 111), (1, Rf G 9), (2, .int (nI i)), (3, .int (nI d)), (4, Rf G 11), (5, .int (nI s.1)), (6, .int (nI k))] [] (wld G σ2) := by
          intro K2 σ2 hRK2 hm2 hs2 hr2 hF2
          refine V.iinc C (nI (k + 1)) dX1_cutAroundParts_118 rfl (nI_1 k) (by decide) ?_
          refine V.goto C 17 dX1_cutAroundParts_121 rfl ?_
          refine V.lvs (lv' := [(0, Rf G 111), (1, Rf G 9), (2, .int (nI i)), (3, .int (nI d)), (4, Rf G 11), (5, .int (nI s.1)), (6, .int (nI (k + 1)))]) rfl ?_
          refine ih (k + 1) K2 σ2 (by omega) (by omega) hRK2 (fun x h => hm2 x (hle x h)) (fun h => hs2 (hsn h)) (fun j hj => ?_) hF2
          rcases Nat.lt_or_ge j k with q_ | q_
          · exact (hr1 j q_).mono hm2
          · have : j = k := by omega
            rw [this]; exact hr2
        have J78 : ∀ (K1 : Nat → Bool) (σ2 : SS), RK σ2 K1 → (∀ x, Kk x = true → K1 x = true) → (Snd P Kk → Snd P K1) → isV (trm s d k) = true → ((k = 0 ∨ sameP (trm s d) k = false) → 0 < vb (trm s d k) % 16 → K1 (vb (trm s d k)) = true) → Fr 112 113 σ σ2 → V G X 8 0 0 78 [(0, Rf G 111), (1, Rf G 9), (2, .int (nI i)), (3, .int (nI d)), (4, Rf G 11), (5, .int (nI s.1)), (6, .int (nI k)), (7, .int (nI (vb (trm s d k))))] [] (wld G σ2) := by
          intro K1 σ2 hRK1 hm1 hs1 hv_ hf1 hF1
          have hP2 := hP.fr hF1 (by omega)
          have hst2 := hP2.2.1.2.2.2 i s his
          have hx8 := vb_lt (hok.trmB (d := d) hk8) hv_
          refine V.iload C rfl dX1_cutAroundParts_78 ?_
          refine V.iload C rfl dX1_cutAroundParts_80 ?_
          refine V.iconst C (nI 1) c_1 dX1_cutAroundParts_82 ?_
          refine V.isub C dX1_cutAroundParts_83 ?_
          rw [show nI s.1 - nI 1 = nI (s.1 - 1) from nI_sub (by omega)]
          refine V.icmp_eq C 101 dX1_cutAroundParts_84 rfl (fun hb_84 => ?_) (fun hb_84 => ?_)
          · have he_ : k = s.1 - 1 ∨ sameP (trm s d) (k + 1) = false := Or.inl (nI_pe (by omega) (by omega) hb_84)
            refine V.aload_n C 0 rfl rfl dX1_cutAroundParts_101 ?_
            refine V.aload_n C 1 rfl rfl dX1_cutAroundParts_102 ?_
            refine V.iload C rfl dX1_cutAroundParts_103 ?_
            refine V.cSNi C lX1_62 oX9_variableOf dX1_cutAroundParts_105 (ct_variableOf G σ2 (vb (trm s d k)) (by omega)) rfl rfl (Nat.le_of_ble_eq_true rfl) ⟨Nat.le_of_ble_eq_true rfl, Nat.le_of_ble_eq_true rfl⟩ ⟨Nat.le_of_ble_eq_true rfl, Nat.le_of_ble_eq_true rfl⟩ (fun rr_105 σ105 pp_105 => ?_)
            obtain ⟨ee_105, ff_105⟩ := pp_105
            rw [ee_105, ff_105]
            refine V.iload C rfl dX1_cutAroundParts_108 ?_
            refine V.cSNi C lX1_65 oX9_bitOf dX1_cutAroundParts_110 (ct_bitOf G σ2 (vb (trm s d k)) (by omega)) rfl rfl (Nat.le_of_ble_eq_true rfl) ⟨Nat.le_of_ble_eq_true rfl, Nat.le_of_ble_eq_true rfl⟩ ⟨Nat.le_of_ble_eq_true rfl, Nat.le_of_ble_eq_true rfl⟩ (fun rr_110 σ110 pp_110 => ?_)
            obtain ⟨ee_110, ff_110⟩ := pp_110
            rw [ee_110, ff_110]
            refine V.iconst C (nI 1) c_1 dX1_cutAroundParts_113 ?_
            refine V.iadd C dX1_cutAroundParts_114 ?_
            rw [show nI (vb (trm s d k) % 16) + nI 1 = nI (vb (trm s d k) % 16 + 1) from nI_add _ 1]
            refine V.cVv C lX1_68 oX1_cutBelow dX1_cutAroundParts_115 (ct_Cu_cutBelow G σ2 (vb (trm s d k) / 16) (vb (trm s d k) % 16 + 1) K1 P hRK1 hP2 (by omega) (hW.1 _ (by omega)) (by omega)) (by assumption) rfl rfl (Nat.le_of_ble_eq_true rfl) ⟨Nat.le_of_ble_eq_true rfl, Nat.le_of_ble_eq_true rfl⟩ ⟨Nat.le_of_ble_eq_true rfl, Nat.le_of_ble_eq_true rfl⟩ (fun σ115 pp_115 => ?_)
            refine V.lvs (lv' := [(0, Rf G 111), (1, Rf G 9), (2, .int (nI i)), (3, .int (nI d)), (4, Rf G 11), (5, .int (nI s.1)), (6, .int (nI k))]) rfl ?_
            have hx1 : 16 * (vb (trm s d k) / 16) + (vb (trm s d k) % 16 + 1) = vb (trm s d k) + 1 := by omega
            rw [hx1] at pp_115
            by_cases hq_ : 1 ≤ vb (trm s d k) % 16 + 1 ∧ vb (trm s d k) % 16 + 1 < P.1 (vb (trm s d k) / 16)
            · rw [if_pos hq_] at pp_115
              exact J118 _ σ115 pp_115.1 (fun x h => upK_mono _ _ x (hm1 x h)) (fun h => Snd.up (hs1 h) (fun K' hc => (hc.r1 his d k hk8 hv_).2 he_ hq_.2)) (fun _ => ⟨fun a b => upK_mono _ _ _ (hf1 a b), fun _ _ => upK_self _ _⟩) (hF1.trans pp_115.2)
            · rw [if_neg hq_] at pp_115
              exact J118 _ σ115 pp_115.1 hm1 hs1 (fun _ => ⟨hf1, fun _ b => absurd ⟨by omega, b⟩ hq_⟩) (hF1.trans pp_115.2)
          · have hne_ : ¬ k = s.1 - 1 := fun q => hb_84 (by rw [q])
            refine V.aload C rfl dX1_cutAroundParts_87 ?_
            refine V.iload_n C 2 rfl rfl dX1_cutAroundParts_89 ?_
            refine V.iload_n C 3 rfl rfl dX1_cutAroundParts_90 ?_
            refine V.iload C rfl dX1_cutAroundParts_91 ?_
            refine V.iconst C (nI 1) c_1 dX1_cutAroundParts_93 ?_
            refine V.iadd C dX1_cutAroundParts_94 ?_
            rw [show nI k + nI 1 = nI (k + 1) from nI_add k 1]
            refine V.cVi C lX1_58 oX6_partEndsAt dX1_cutAroundParts_95 (ct_St_partEndsAt G σ2 11 10 i d (k + 1) hS (by omega) hd) (by assumption) rfl rfl (Nat.le_of_ble_eq_true rfl) ⟨Nat.le_of_ble_eq_true rfl, Nat.le_of_ble_eq_true rfl⟩ ⟨Nat.le_of_ble_eq_true rfl, Nat.le_of_ble_eq_true rfl⟩ (fun rr_95 σ95 pp_95 => ?_)
            obtain ⟨ee_95, ff_95⟩ := pp_95
            rw [ee_95, ff_95]
            rw [hst2.pe hd (by omega) (by omega)]
            refine V.if_eq C 118 dX1_cutAroundParts_98 rfl (fun hb_98 => ?_) (fun hb_98 => ?_)
            · have hn_ : sameP (trm s d) (k + 1) = true := by simpa using bI_eq0 hb_98
              refine V.lvs (lv' := [(0, Rf G 111), (1, Rf G 9), (2, .int (nI i)), (3, .int (nI d)), (4, Rf G 11), (5, .int (nI s.1)), (6, .int (nI k))]) rfl ?_
              exact J118 K1 σ2 hRK1 hm1 hs1 (fun _ => ⟨hf1, fun q_ _ => q_.elim (fun q => absurd q hne_) (fun q => absurd (hn_.symm.trans q) (by decide))⟩) hF1
            · have he_ : k = s.1 - 1 ∨ sameP (trm s d) (k + 1) = false := Or.inr (by simpa using bI_ne0 hb_98)
              refine V.aload_n C 0 rfl rfl dX1_cutAroundParts_101 ?_
              refine V.aload_n C 1 rfl rfl dX1_cutAroundParts_102 ?_
              refine V.iload C rfl dX1_cutAroundParts_103 ?_
              refine V.cSNi C lX1_62 oX9_variableOf dX1_cutAroundParts_105 (ct_variableOf G σ2 (vb (trm s d k)) (by omega)) rfl rfl (Nat.le_of_ble_eq_true rfl) ⟨Nat.le_of_ble_eq_true rfl, Nat.le_of_ble_eq_true rfl⟩ ⟨Nat.le_of_ble_eq_true rfl, Nat.le_of_ble_eq_true rfl⟩ (fun rr_105 σ105 pp_105 => ?_)
              obtain ⟨ee_105, ff_105⟩ := pp_105
              rw [ee_105, ff_105]
              refine V.iload C rfl dX1_cutAroundParts_108 ?_
              refine V.cSNi C lX1_65 oX9_bitOf dX1_cutAroundParts_110 (ct_bitOf G σ2 (vb (trm s d k)) (by omega)) rfl rfl (Nat.le_of_ble_eq_true rfl) ⟨Nat.le_of_ble_eq_true rfl, Nat.le_of_ble_eq_true rfl⟩ ⟨Nat.le_of_ble_eq_true rfl, Nat.le_of_ble_eq_true rfl⟩ (fun rr_110 σ110 pp_110 => ?_)
              obtain ⟨ee_110, ff_110⟩ := pp_110
              rw [ee_110, ff_110]
              refine V.iconst C (nI 1) c_1 dX1_cutAroundParts_113 ?_
              refine V.iadd C dX1_cutAroundParts_114 ?_
              rw [show nI (vb (trm s d k) % 16) + nI 1 = nI (vb (trm s d k) % 16 + 1) from nI_add _ 1]
              refine V.cVv C lX1_68 oX1_cutBelow dX1_cutAroundParts_115 (ct_Cu_cutBelow G σ2 (vb (trm s d k) / 16) (vb (trm s d k) % 16 + 1) K1 P hRK1 hP2 (by omega) (hW.1 _ (by omega)) (by omega)) (by assumption) rfl rfl (Nat.le_of_ble_eq_true rfl) ⟨Nat.le_of_ble_eq_true rfl, Nat.le_of_ble_eq_true rfl⟩ ⟨Nat.le_of_ble_eq_true rfl, Nat.le_of_ble_eq_true rfl⟩ (fun σ115 pp_115 => ?_)
              refine V.lvs (lv' := [(0, Rf G 111), (1, Rf G 9), (2, .int (nI i)), (3, .int (nI d)), (4, Rf G 11), (5, .int (nI s.1)), (6, .int (nI k))]) rfl ?_
              have hx1 : 16 * (vb (trm s d k) / 16) + (vb (trm s d k) % 16 + 1) = vb (trm s d k) + 1 := by omega
              rw [hx1] at pp_115
              by_cases hq_ : 1 ≤ vb (trm s d k) % 16 + 1 ∧ vb (trm s d k) % 16 + 1 < P.1 (vb (trm s d k) / 16)
              · rw [if_pos hq_] at pp_115
                exact J118 _ σ115 pp_115.1 (fun x h => upK_mono _ _ x (hm1 x h)) (fun h => Snd.up (hs1 h) (fun K' hc => (hc.r1 his d k hk8 hv_).2 he_ hq_.2)) (fun _ => ⟨fun a b => upK_mono _ _ _ (hf1 a b), fun _ _ => upK_self _ _⟩) (hF1.trans pp_115.2)
              · rw [if_neg hq_] at pp_115
                exact J118 _ σ115 pp_115.1 hm1 hs1 (fun _ => ⟨hf1, fun _ b => absurd ⟨by omega, b⟩ hq_⟩) (hF1.trans pp_115.2)
        refine V.aload C rfl dX1_cutAroundParts_24 ?_
        refine V.iload_n C 2 rfl rfl dX1_cutAroundParts_26 ?_
        refine V.iload_n C 3 rfl rfl dX1_cutAroundParts_27 ?_
        refine V.iload C rfl dX1_cutAroundParts_28 ?_
        refine V.cVi C lX1_50 oX6_node dX1_cutAroundParts_30 (ct_St_node G σ1 11 10 i d k hS (by omega) hd (by omega)) (by assumption) rfl rfl (Nat.le_of_ble_eq_true rfl) ⟨Nat.le_of_ble_eq_true rfl, Nat.le_of_ble_eq_true rfl⟩ ⟨Nat.le_of_ble_eq_true rfl, Nat.le_of_ble_eq_true rfl⟩ (fun rr_30 σ30 pp_30 => ?_)
        obtain ⟨ee_30, ff_30⟩ := pp_30
        rw [ee_30, ff_30]
        rw [hst.node hd hk8]
        refine V.istore C dX1_cutAroundParts_33 (by decide) ?_
        refine V.iload C rfl dX1_cutAroundParts_35 ?_
        refine V.cSNi C lX1_54 oX9_isConstantNode dX1_cutAroundParts_37 (ct_isConstantNode G σ1 (nI (cn (trm s d k)))) rfl rfl (Nat.le_of_ble_eq_true rfl) ⟨Nat.le_of_ble_eq_true rfl, Nat.le_of_ble_eq_true rfl⟩ ⟨Nat.le_of_ble_eq_true rfl, Nat.le_of_ble_eq_true rfl⟩ (fun rr_37 σ37 pp_37 => ?_)
        obtain ⟨ee_37, ff_37⟩ := pp_37
        rw [ee_37, ff_37]
        rw [cn_const (hok.trmB hk8)]
        refine V.if_eq C 46 dX1_cutAroundParts_40 rfl (fun hb_40 => ?_) (fun hb_40 => ?_)
        · have hv_ : isV (trm s d k) = true := by simpa using bI_eq0 hb_40
          have hx8 := vb_lt (hok.trmB (d := d) hk8) hv_
          rw [cn_v hv_]
          refine V.iload C rfl dX1_cutAroundParts_46 ?_
          refine V.if_eq C 63 dX1_cutAroundParts_48 rfl (fun hb_48 => ?_) (fun hb_48 => ?_)
          · have he_ : k = 0 ∨ sameP (trm s d) k = false := Or.inl (nI_pe (by omega) (by decide) hb_48)
            refine V.aload_n C 0 rfl rfl dX1_cutAroundParts_63 ?_
            refine V.aload_n C 1 rfl rfl dX1_cutAroundParts_64 ?_
            refine V.iload C rfl dX1_cutAroundParts_65 ?_
            refine V.cSNi C lX1_62 oX9_variableOf dX1_cutAroundParts_67 (ct_variableOf G σ1 (vb (trm s d k)) (by omega)) rfl rfl (Nat.le_of_ble_eq_true rfl) ⟨Nat.le_of_ble_eq_true rfl, Nat.le_of_ble_eq_true rfl⟩ ⟨Nat.le_of_ble_eq_true rfl, Nat.le_of_ble_eq_true rfl⟩ (fun rr_67 σ67 pp_67 => ?_)
            obtain ⟨ee_67, ff_67⟩ := pp_67
            rw [ee_67, ff_67]
            refine V.iload C rfl dX1_cutAroundParts_70 ?_
            refine V.cSNi C lX1_65 oX9_bitOf dX1_cutAroundParts_72 (ct_bitOf G σ1 (vb (trm s d k)) (by omega)) rfl rfl (Nat.le_of_ble_eq_true rfl) ⟨Nat.le_of_ble_eq_true rfl, Nat.le_of_ble_eq_true rfl⟩ ⟨Nat.le_of_ble_eq_true rfl, Nat.le_of_ble_eq_true rfl⟩ (fun rr_72 σ72 pp_72 => ?_)
            obtain ⟨ee_72, ff_72⟩ := pp_72
            rw [ee_72, ff_72]
            refine V.cVv C lX1_68 oX1_cutBelow dX1_cutAroundParts_75 (ct_Cu_cutBelow G σ1 (vb (trm s d k) / 16) (vb (trm s d k) % 16) Kk P hRK hP1 (by omega) (hW.1 _ (by omega)) (by omega)) (by assumption) rfl rfl (Nat.le_of_ble_eq_true rfl) ⟨Nat.le_of_ble_eq_true rfl, Nat.le_of_ble_eq_true rfl⟩ ⟨Nat.le_of_ble_eq_true rfl, Nat.le_of_ble_eq_true rfl⟩ (fun σ75 pp_75 => ?_)
            refine V.lvs (lv' := [(0, Rf G 111), (1, Rf G 9), (2, .int (nI i)), (3, .int (nI d)), (4, Rf G 11), (5, .int (nI s.1)), (6, .int (nI k)), (7, .int (nI (vb (trm s d k))))]) rfl ?_
            have hx1 : 16 * (vb (trm s d k) / 16) + vb (trm s d k) % 16 = vb (trm s d k) := by omega
            rw [hx1] at pp_75
            by_cases hq_ : 1 ≤ vb (trm s d k) % 16 ∧ vb (trm s d k) % 16 < P.1 (vb (trm s d k) / 16)
            · rw [if_pos hq_] at pp_75
              exact J78 _ σ75 pp_75.1 (upK_mono _ _) (fun h => Snd.up h (fun K' hc => (hc.r1 his d k hk8 hv_).1 he_ hq_.1)) hv_ (fun _ _ => upK_self _ _) (hF.trans pp_75.2)
            · rw [if_neg hq_] at pp_75
              exact J78 _ σ75 pp_75.1 (fun _ h => h) (fun h => h) hv_ (fun _ b => absurd ⟨b, hwT.2.1 k hk8 hv_⟩ hq_) (hF.trans pp_75.2)
          · have hk1_ : ¬ k = 0 := fun q => hb_48 (by rw [q]; rfl)
            refine V.aload C rfl dX1_cutAroundParts_51 ?_
            refine V.iload_n C 2 rfl rfl dX1_cutAroundParts_53 ?_
            refine V.iload_n C 3 rfl rfl dX1_cutAroundParts_54 ?_
            refine V.iload C rfl dX1_cutAroundParts_55 ?_
            refine V.cVi C lX1_58 oX6_partEndsAt dX1_cutAroundParts_57 (ct_St_partEndsAt G σ1 11 10 i d k hS (by omega) hd) (by assumption) rfl rfl (Nat.le_of_ble_eq_true rfl) ⟨Nat.le_of_ble_eq_true rfl, Nat.le_of_ble_eq_true rfl⟩ ⟨Nat.le_of_ble_eq_true rfl, Nat.le_of_ble_eq_true rfl⟩ (fun rr_57 σ57 pp_57 => ?_)
            obtain ⟨ee_57, ff_57⟩ := pp_57
            rw [ee_57, ff_57]
            rw [hst.pe hd (by omega) hk8]
            refine V.if_eq C 78 dX1_cutAroundParts_60 rfl (fun hb_60 => ?_) (fun hb_60 => ?_)
            · have hn_ : sameP (trm s d) k = true := by simpa using bI_eq0 hb_60
              refine V.lvs (lv' := [(0, Rf G 111), (1, Rf G 9), (2, .int (nI i)), (3, .int (nI d)), (4, Rf G 11), (5, .int (nI s.1)), (6, .int (nI k)), (7, .int (nI (vb (trm s d k))))]) rfl ?_
              exact J78 Kk σ1 hRK (fun _ h => h) (fun h => h) hv_ (fun q_ _ => q_.elim (fun q => absurd q hk1_) (fun q => absurd (hn_.symm.trans q) (by decide))) hF
            · have he_ : k = 0 ∨ sameP (trm s d) k = false := Or.inr (by simpa using bI_ne0 hb_60)
              refine V.aload_n C 0 rfl rfl dX1_cutAroundParts_63 ?_
              refine V.aload_n C 1 rfl rfl dX1_cutAroundParts_64 ?_
              refine V.iload C rfl dX1_cutAroundParts_65 ?_
              refine V.cSNi C lX1_62 oX9_variableOf dX1_cutAroundParts_67 (ct_variableOf G σ1 (vb (trm s d k)) (by omega)) rfl rfl (Nat.le_of_ble_eq_true rfl) ⟨Nat.le_of_ble_eq_true rfl, Nat.le_of_ble_eq_true rfl⟩ ⟨Nat.le_of_ble_eq_true rfl, Nat.le_of_ble_eq_true rfl⟩ (fun rr_67 σ67 pp_67 => ?_)
              obtain ⟨ee_67, ff_67⟩ := pp_67
              rw [ee_67, ff_67]
              refine V.iload C rfl dX1_cutAroundParts_70 ?_
              refine V.cSNi C lX1_65 oX9_bitOf dX1_cutAroundParts_72 (ct_bitOf G σ1 (vb (trm s d k)) (by omega)) rfl rfl (Nat.le_of_ble_eq_true rfl) ⟨Nat.le_of_ble_eq_true rfl, Nat.le_of_ble_eq_true rfl⟩ ⟨Nat.le_of_ble_eq_true rfl, Nat.le_of_ble_eq_true rfl⟩ (fun rr_72 σ72 pp_72 => ?_)
              obtain ⟨ee_72, ff_72⟩ := pp_72
              rw [ee_72, ff_72]
              refine V.cVv C lX1_68 oX1_cutBelow dX1_cutAroundParts_75 (ct_Cu_cutBelow G σ1 (vb (trm s d k) / 16) (vb (trm s d k) % 16) Kk P hRK hP1 (by omega) (hW.1 _ (by omega)) (by omega)) (by assumption) rfl rfl (Nat.le_of_ble_eq_true rfl) ⟨Nat.le_of_ble_eq_true rfl, Nat.le_of_ble_eq_true rfl⟩ ⟨Nat.le_of_ble_eq_true rfl, Nat.le_of_ble_eq_true rfl⟩ (fun σ75 pp_75 => ?_)
              refine V.lvs (lv' := [(0, Rf G 111), (1, Rf G 9), (2, .int (nI i)), (3, .int (nI d)), (4, Rf G 11), (5, .int (nI s.1)), (6, .int (nI k)), (7, .int (nI (vb (trm s d k))))]) rfl ?_
              have hx1 : 16 * (vb (trm s d k) / 16) + vb (trm s d k) % 16 = vb (trm s d k) := by omega
              rw [hx1] at pp_75
              by_cases hq_ : 1 ≤ vb (trm s d k) % 16 ∧ vb (trm s d k) % 16 < P.1 (vb (trm s d k) / 16)
              · rw [if_pos hq_] at pp_75
                exact J78 _ σ75 pp_75.1 (upK_mono _ _) (fun h => Snd.up h (fun K' hc => (hc.r1 his d k hk8 hv_).1 he_ hq_.1)) hv_ (fun _ _ => upK_self _ _) (hF.trans pp_75.2)
              · rw [if_neg hq_] at pp_75
                exact J78 _ σ75 pp_75.1 (fun _ h => h) (fun h => h) hv_ (fun _ b => absurd ⟨b, hwT.2.1 k hk8 hv_⟩ hq_) (hF.trans pp_75.2)
        · have hv_ : isV (trm s d k) = false := by simpa using bI_ne0 hb_40
          refine V.goto C 118 dX1_cutAroundParts_43 rfl ?_
          refine V.lvs (lv' := [(0, Rf G 111), (1, Rf G 9), (2, .int (nI i)), (3, .int (nI d)), (4, Rf G 11), (5, .int (nI s.1)), (6, .int (nI k))]) rfl ?_
          exact J118 Kk σ1 hRK (fun _ h => h) (fun h => h) (fun q_ => absurd (hv_.symm.trans q_) (by decide)) hF
  refine V.aload_n C 1 rfl rfl dX1_cutAroundParts_0 ?_
  refine V.getR C fX1_27 dX1_cutAroundParts_1 (by assumption) rfl ?_
  refine V.astore C dX1_cutAroundParts_4 (by decide) ?_
  refine V.aload C rfl dX1_cutAroundParts_6 ?_
  refine V.iload_n C 2 rfl rfl dX1_cutAroundParts_8 ?_
  refine V.cVi C lX1_47 oX6_widthOf dX1_cutAroundParts_9 (ct_St_widthOf G σ 11 10 P.2.1.length i hS hl.2.1 hlc (by omega)) (by assumption) rfl rfl (Nat.le_of_ble_eq_true rfl) ⟨Nat.le_of_ble_eq_true rfl, Nat.le_of_ble_eq_true rfl⟩ ⟨Nat.le_of_ble_eq_true rfl, Nat.le_of_ble_eq_true rfl⟩ (fun rr_9 σ9 pp_9 => ?_)
  obtain ⟨ee_9, ff_9⟩ := pp_9
  rw [ee_9, ff_9, if_pos hil, (hl.2.2.2 i s his).1]
  refine V.istore C dX1_cutAroundParts_12 (by decide) ?_
  refine V.iconst C (nI 0) c_0 dX1_cutAroundParts_14 ?_
  refine V.istore C dX1_cutAroundParts_15 (by decide) ?_
  refine V.lvs (lv' := [(0, Rf G 111), (1, Rf G 9), (2, .int (nI i)), (3, .int (nI d)), (4, Rf G 11), (5, .int (nI s.1)), (6, .int (nI 0))]) rfl ?_
  exact loop (s.1 + 1) 0 K σ (by omega) (by omega) hK (fun _ h => h) (fun h => h) (fun j hj => absurd hj (by omega)) (Fr.refl _ _ _)
