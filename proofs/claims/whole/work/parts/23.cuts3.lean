/-! Cuts: spread, cut. -/
set_option maxRecDepth 100000 in
set_option maxHeartbeats 4000000 in
theorem ct_Cu_spread (G : Gl) (σ : SS) (i d : Nat) (K : Nat → Bool) (P : Prob) (s : Stm) (hK : RK σ K) (hP : RP σ 9 P) (hW : wfP P) (his : P.2.1[i]? = some s) (hd : d < 2) : CI G mX1_spread [Rf G 111, Rf G 11, .int (nI i), .int (nI (1 - d)), .int (nI d)] σ (fun r σ1 => ∃ (ch : Bool) (K1 : Nat → Bool), r = bI ch ∧ RK σ1 K1 ∧ (∀ x, K x = true → K1 x = true) ∧ (Snd P K → Snd P K1) ∧ (ch = false → K1 = K ∧ Cl2 s.1 (trm s (1 - d)) (trm s d) K) ∧ (ch = true → ∃ x, x < 128 ∧ K x = false ∧ K1 x = true) ∧ Fr 112 113 σ σ1) := by
  refine Ctr.of oX1_spread (Nat.le_of_ble_eq_true rfl) ?_
  intro X C R hnm hz0
  have C : Cx G X cX1_spread 9 RX1 3 66 0 0 := C
  have R : Cr G X (some .boolean) 0 0 _ := R
  show V G X 9 0 0 0 [(0, Rf G 111), (1, Rf G 11), (2, .int (nI i)), (3, .int (nI (1 - d))), (4, .int (nI d))] [] (wld G σ)
  have kk_111 := sk_111
  have kk_112 := sk_112
  have kk_9 := sk_9
  have kk_11 := sk_11
  have hS := SA_11
  have hl := hP.2.1
  have hws := hW.2.2.2.1 i s his
  have hil := RS.lt hl his
  have hlc := hl.2.2.1
  have hok := hws.ok
  have hok1 := hok.1
  have hok2 := hok.2.1
  have hwT := hws.T d
  have hd1 : 1 - d < 2 := by omega
  have loop : ∀ (m k : Nat) (ch : Bool) (Kk : Nat → Bool) (σ1 : SS), s.1 < k + m → 1 ≤ k → k ≤ s.1 → RK σ1 Kk → (∀ x, K x = true → Kk x = true) → (Snd P K → Snd P Kk) → (ch = false → Kk = K ∧ ∀ j, 1 ≤ j → j < k → markT K (trm s (1 - d)) j = true → sameP (trm s d) j = true → isV (trm s d j) = true → K (vb (trm s d j)) = true) → (ch = true → ∃ x, x < 128 ∧ K x = false ∧ Kk x = true) → Fr 112 113 σ σ1 → V G X 9 0 0 6 [(0, Rf G 111), (1, Rf G 11), (2, .int (nI i)), (3, .int (nI (1 - d))), (4, .int (nI d)), (5, .int (bI ch)), (6, .int (nI k))] [] (wld G σ1) := by
    intro m
    induction m with
    | zero =>
      intro k ch Kk σ1 hm hk1 hk hRK hle hsn hno hyes hF
      exact absurd hm (by omega)
    | succ m ih =>
      intro k ch Kk σ1 hm hk1 hk hRK hle hsn hno hyes hF
      have hP1 := hP.fr hF (by omega)
      have hl1 := hP1.2.1
      have hst := hl1.2.2.2 i s his
      refine V.iload C rfl dX1_spread_6 ?_
      refine V.aload_n C 1 rfl rfl dX1_spread_8 ?_
      refine V.iload_n C 2 rfl rfl dX1_spread_9 ?_
      refine V.cVi C lX1_47 oX6_widthOf dX1_spread_10 (ct_St_widthOf G σ1 11 10 P.2.1.length i hS hl1.2.1 hlc (by omega)) (by assumption) rfl rfl (Nat.le_of_ble_eq_true rfl) ⟨Nat.le_of_ble_eq_true rfl, Nat.le_of_ble_eq_true rfl⟩ ⟨Nat.le_of_ble_eq_true rfl, Nat.le_of_ble_eq_true rfl⟩ (fun rr_10 σ10 pp_10 => ?_)
      obtain ⟨ee_10, ff_10⟩ := pp_10
      rw [ee_10, ff_10]
      rw [if_pos hil, hst.1]
      refine V.icmp_ge C 109 dX1_spread_13 rfl (fun hb_13 => ?_) (fun hb_13 => ?_)
      · have hk8 : k = s.1 := by have := (nI_leI (by omega) (by omega)).mp hb_13; omega
        refine V.iload C rfl dX1_spread_109 ?_
        exact V.zretS C R dX1_spread_111 (bI01 _) ⟨ch, Kk, rfl, hRK, hle, hsn, fun hc => ⟨(hno hc).1, fun j h1 h2 => (hno hc).2 j h1 (by omega)⟩, hyes, hF⟩
      · have hk8 : k < s.1 := Nat.lt_of_not_le (fun q => hb_13 (nI_le q (by omega)))
        have J103 : ∀ (ch2 : Bool) (K2 : Nat → Bool) (σ2 : SS), RK σ2 K2 → (∀ x, K x = true → K2 x = true) → (Snd P K → Snd P K2) → (ch2 = false → K2 = K ∧ ∀ j, 1 ≤ j → j < k + 1 → markT K (trm s (1 - d)) j = true → sameP (trm s d) j = true → isV (trm s d j) = true → K (vb (trm s d j)) = true) → (ch2 = true → ∃ x, x < 128 ∧ K x = false ∧ K2 x = true) → Fr 112 113 σ σ2 → V G X 9 0 0 103 [(0, Rf G 111), (1, Rf G 11), (2, .int (nI i)), (3, .int (nI (1 - d))), (4, .int (nI d)), (5, .int (bI ch2)), (6, .int (nI k))] [] (wld G σ2) := by
          intro ch2 K2 σ2 hRK2 hle2 hsn2 hno2 hyes2 hF2
          refine V.iinc C (nI (k + 1)) dX1_spread_103 rfl (nI_1 k) (by decide) ?_
          refine V.goto C 6 dX1_spread_106 rfl ?_
          refine V.lvs (lv' := [(0, Rf G 111), (1, Rf G 11), (2, .int (nI i)), (3, .int (nI (1 - d))), (4, .int (nI d)), (5, .int (bI ch2)), (6, .int (nI (k + 1)))]) rfl ?_
          exact ih (k + 1) ch2 K2 σ2 (by omega) (by omega) (by omega) hRK2 hle2 hsn2 hno2 hyes2 hF2
        refine V.aload_n C 1 rfl rfl dX1_spread_16 ?_
        refine V.iload_n C 2 rfl rfl dX1_spread_17 ?_
        refine V.iload C rfl dX1_spread_18 ?_
        refine V.iload C rfl dX1_spread_20 ?_
        refine V.cVi C lX1_50 oX6_node dX1_spread_22 (ct_St_node G σ1 11 10 i d k hS (by omega) hd (by omega)) (by assumption) rfl rfl (Nat.le_of_ble_eq_true rfl) ⟨Nat.le_of_ble_eq_true rfl, Nat.le_of_ble_eq_true rfl⟩ ⟨Nat.le_of_ble_eq_true rfl, Nat.le_of_ble_eq_true rfl⟩ (fun rr_22 σ22 pp_22 => ?_)
        obtain ⟨ee_22, ff_22⟩ := pp_22
        rw [ee_22, ff_22]
        rw [hst.node hd hk8]
        refine V.istore C dX1_spread_25 (by decide) ?_
        refine V.iload C rfl dX1_spread_27 ?_
        refine V.cSNi C lX1_54 oX9_isConstantNode dX1_spread_29 (ct_isConstantNode G σ1 (nI (cn (trm s d k)))) rfl rfl (Nat.le_of_ble_eq_true rfl) ⟨Nat.le_of_ble_eq_true rfl, Nat.le_of_ble_eq_true rfl⟩ ⟨Nat.le_of_ble_eq_true rfl, Nat.le_of_ble_eq_true rfl⟩ (fun rr_29 σ29 pp_29 => ?_)
        obtain ⟨ee_29, ff_29⟩ := pp_29
        rw [ee_29, ff_29]
        rw [cn_const (hok.trmB hk8)]
        refine V.if_ne C 51 dX1_spread_32 rfl (fun hb_32 => ?_) (fun hb_32 => ?_)
        · have hv_ : isV (trm s d k) = false := by simpa using bI_ne0 hb_32
          refine V.iconst C (nI 0) c_0 dX1_spread_51 ?_
          refine V.istore C dX1_spread_52 (by decide) ?_
          refine V.iload C rfl dX1_spread_54 ?_
          refine V.if_eq C 103 dX1_spread_56 rfl (fun hb_56 => ?_) (fun hb_56 => ?_)
          · refine V.lvs (lv' := [(0, Rf G 111), (1, Rf G 11), (2, .int (nI i)), (3, .int (nI (1 - d))), (4, .int (nI d)), (5, .int (bI ch)), (6, .int (nI k))]) rfl ?_
            exact J103 ch Kk σ1 hRK hle hsn (fun hc => ⟨(hno hc).1, fun j h1 h2 a b c => by
                rcases Nat.lt_or_ge j k with q_ | q_
                · exact (hno hc).2 j h1 q_ a b c
                · have e_ : j = k := by omega
                  subst e_
                  exact absurd (hv_.symm.trans c) (by decide)⟩) hyes hF
          · exact absurd rfl hb_56
        · have hv_ : isV (trm s d k) = true := by simpa using bI_eq0 hb_32
          have hx8 := vb_lt (hok.trmB (d := d) hk8) hv_
          rw [cn_v hv_]
          refine V.aload_n C 1 rfl rfl dX1_spread_35 ?_
          refine V.iload_n C 2 rfl rfl dX1_spread_36 ?_
          refine V.iload C rfl dX1_spread_37 ?_
          refine V.iload C rfl dX1_spread_39 ?_
          refine V.cVi C lX1_58 oX6_partEndsAt dX1_spread_41 (ct_St_partEndsAt G σ1 11 10 i d k hS (by omega) hd) (by assumption) rfl rfl (Nat.le_of_ble_eq_true rfl) ⟨Nat.le_of_ble_eq_true rfl, Nat.le_of_ble_eq_true rfl⟩ ⟨Nat.le_of_ble_eq_true rfl, Nat.le_of_ble_eq_true rfl⟩ (fun rr_41 σ41 pp_41 => ?_)
          obtain ⟨ee_41, ff_41⟩ := pp_41
          rw [ee_41, ff_41]
          rw [hst.pe hd hk1 hk8]
          refine V.if_ne C 51 dX1_spread_44 rfl (fun hb_44 => ?_) (fun hb_44 => ?_)
          · have hs_ : sameP (trm s d) k = false := by simpa using bI_ne0 hb_44
            refine V.iconst C (nI 0) c_0 dX1_spread_51 ?_
            refine V.istore C dX1_spread_52 (by decide) ?_
            refine V.iload C rfl dX1_spread_54 ?_
            refine V.if_eq C 103 dX1_spread_56 rfl (fun hb_56 => ?_) (fun hb_56 => ?_)
            · refine V.lvs (lv' := [(0, Rf G 111), (1, Rf G 11), (2, .int (nI i)), (3, .int (nI (1 - d))), (4, .int (nI d)), (5, .int (bI ch)), (6, .int (nI k))]) rfl ?_
              exact J103 ch Kk σ1 hRK hle hsn (fun hc => ⟨(hno hc).1, fun j h1 h2 a b c => by
                  rcases Nat.lt_or_ge j k with q_ | q_
                  · exact (hno hc).2 j h1 q_ a b c
                  · have e_ : j = k := by omega
                    subst e_
                    exact absurd (hs_.symm.trans b) (by decide)⟩) hyes hF
            · exact absurd rfl hb_56
          · have hs_ : sameP (trm s d) k = true := by simpa using bI_eq0 hb_44
            refine V.iconst C (nI 1) c_1 dX1_spread_47 ?_
            refine V.goto C 52 dX1_spread_48 rfl ?_
            refine V.istore C dX1_spread_52 (by decide) ?_
            refine V.iload C rfl dX1_spread_54 ?_
            refine V.if_eq C 103 dX1_spread_56 rfl (fun hb_56 => ?_) (fun hb_56 => ?_)
            · exact absurd hb_56 (by decide)
            · refine V.aload_n C 0 rfl rfl dX1_spread_59 ?_
              refine V.iload C rfl dX1_spread_60 ?_
              refine V.cVi C lX1_72 oX1_isCut dX1_spread_62 (ct_Cu_isCut G σ1 (vb (trm s d k)) Kk hRK hx8) (by assumption) rfl rfl (Nat.le_of_ble_eq_true rfl) ⟨Nat.le_of_ble_eq_true rfl, Nat.le_of_ble_eq_true rfl⟩ ⟨Nat.le_of_ble_eq_true rfl, Nat.le_of_ble_eq_true rfl⟩ (fun rr_62 σ62 pp_62 => ?_)
              obtain ⟨ee_62, ff_62⟩ := pp_62
              rw [ee_62, ff_62]
              refine V.if_ne C 103 dX1_spread_65 rfl (fun hb_65 => ?_) (fun hb_65 => ?_)
              · have hc_ := bI_ne0 hb_65
                refine V.lvs (lv' := [(0, Rf G 111), (1, Rf G 11), (2, .int (nI i)), (3, .int (nI (1 - d))), (4, .int (nI d)), (5, .int (bI ch)), (6, .int (nI k))]) rfl ?_
                exact J103 ch Kk σ1 hRK hle hsn (fun hc => ⟨(hno hc).1, fun j h1 h2 a b c => by
                    rcases Nat.lt_or_ge j k with q_ | q_
                    · exact (hno hc).2 j h1 q_ a b c
                    · have e_ : j = k := by omega
                      subst e_
                      rw [← (hno hc).1]; exact hc_⟩) hyes hF
              · have hc_ := bI_eq0 hb_65
                refine V.aload_n C 0 rfl rfl dX1_spread_68 ?_
                refine V.aload_n C 1 rfl rfl dX1_spread_69 ?_
                refine V.iload_n C 2 rfl rfl dX1_spread_70 ?_
                refine V.iload_n C 3 rfl rfl dX1_spread_71 ?_
                refine V.iload C rfl dX1_spread_72 ?_
                refine V.cVi C lX1_75 oX1_isMarked dX1_spread_74 (ct_Cu_isMarked G σ1 i (1 - d) k Kk P.2.1 s hRK hl1 his hok hd1 hk1 hk8) (by assumption) rfl rfl (Nat.le_of_ble_eq_true rfl) ⟨Nat.le_of_ble_eq_true rfl, Nat.le_of_ble_eq_true rfl⟩ ⟨Nat.le_of_ble_eq_true rfl, Nat.le_of_ble_eq_true rfl⟩ (fun rr_74 σ74 pp_74 => ?_)
                obtain ⟨ee_74, ff_74⟩ := pp_74
                rw [ee_74, ff_74]
                refine V.if_eq C 103 dX1_spread_77 rfl (fun hb_77 => ?_) (fun hb_77 => ?_)
                · have hm_ := bI_eq0 hb_77
                  refine V.lvs (lv' := [(0, Rf G 111), (1, Rf G 11), (2, .int (nI i)), (3, .int (nI (1 - d))), (4, .int (nI d)), (5, .int (bI ch)), (6, .int (nI k))]) rfl ?_
                  exact J103 ch Kk σ1 hRK hle hsn (fun hc => ⟨(hno hc).1, fun j h1 h2 a b c => by
                      rcases Nat.lt_or_ge j k with q_ | q_
                      · exact (hno hc).2 j h1 q_ a b c
                      · have e_ : j = k := by omega
                        subst e_
                        rw [(hno hc).1] at hm_; exact absurd (hm_.symm.trans a) (by decide)⟩) hyes hF
                · have hm_ := bI_ne0 hb_77
                  refine V.aload_n C 0 rfl rfl dX1_spread_80 ?_
                  refine V.getR C fX1_9 dX1_spread_81 (by assumption) rfl ?_
                  refine V.iload C rfl dX1_spread_84 ?_
                  refine V.cSNi C lX1_62 oX9_variableOf dX1_spread_86 (ct_variableOf G σ1 (vb (trm s d k)) (by omega)) rfl rfl (Nat.le_of_ble_eq_true rfl) ⟨Nat.le_of_ble_eq_true rfl, Nat.le_of_ble_eq_true rfl⟩ ⟨Nat.le_of_ble_eq_true rfl, Nat.le_of_ble_eq_true rfl⟩ (fun rr_86 σ86 pp_86 => ?_)
                  obtain ⟨ee_86, ff_86⟩ := pp_86
                  rw [ee_86, ff_86]
                  refine V.dup2 C rfl rfl dX1_spread_89 ?_
                  refine V.ialdN C dX1_spread_90 (by assumption) (by omega) ?_
                  refine V.iconst C (nI 1) c_1 dX1_spread_91 ?_
                  refine V.iload C rfl dX1_spread_92 ?_
                  refine V.cSNi C lX1_65 oX9_bitOf dX1_spread_94 (ct_bitOf G σ1 (vb (trm s d k)) (by omega)) rfl rfl (Nat.le_of_ble_eq_true rfl) ⟨Nat.le_of_ble_eq_true rfl, Nat.le_of_ble_eq_true rfl⟩ ⟨Nat.le_of_ble_eq_true rfl, Nat.le_of_ble_eq_true rfl⟩ (fun rr_94 σ94 pp_94 => ?_)
                  obtain ⟨ee_94, ff_94⟩ := pp_94
                  rw [ee_94, ff_94]
                  refine V.ishl C dX1_spread_97 ?_
                  refine V.ior C dX1_spread_98 ?_
                  refine V.iastN C dX1_spread_99 (by assumption) (by omega) ?_
                  refine V.iconst C (nI 1) c_1 dX1_spread_100 ?_
                  refine V.istore C dX1_spread_101 (by decide) ?_
                  refine V.lvs (lv' := [(0, Rf G 111), (1, Rf G 11), (2, .int (nI i)), (3, .int (nI (1 - d))), (4, .int (nI d)), (5, .int (bI true)), (6, .int (nI k))]) rfl ?_
                  refine J103 true _ _ (hRK.set (v := vb (trm s d k) / 16) (b := vb (trm s d k) % 16) (by omega) (by omega)) (fun x h => upK_mono _ _ x (hle x h)) (fun h => ?_) (fun h => absurd h (by decide)) (fun _ => ?_) (hF.sA _ (by omega) (by omega))
                  · rw [show 16 * (vb (trm s d k) / 16) + vb (trm s d k) % 16 = vb (trm s d k) by omega]
                    refine Snd.up (hsn h) (fun K' hc => ?_)
                    refine hc.r2 his d hd k hk1 hk8 ?_ hs_ hv_
                    unfold markT at hm_ ⊢
                    cases hz_ : sameP (trm s (1 - d)) k with
                    | false => rfl
                    | true =>
                      rw [hz_] at hm_
                      simp only [Bool.not_true, Bool.false_or, Bool.and_eq_true] at hm_ ⊢
                      exact ⟨hm_.1, hsn h K' hc _ hm_.2⟩
                  · refine ⟨vb (trm s d k), hx8, ?_, ?_⟩
                    · cases hq_ : K (vb (trm s d k)) with
                      | false => rfl
                      | true => exact absurd (hc_.symm.trans (hle _ hq_)) (by decide)
                    · rw [show 16 * (vb (trm s d k) / 16) + vb (trm s d k) % 16 = vb (trm s d k) by omega]; exact upK_self _ _
  refine V.iconst C (nI 0) c_0 dX1_spread_0 ?_
  refine V.istore C dX1_spread_1 (by decide) ?_
  refine V.iconst C (nI 1) c_1 dX1_spread_3 ?_
  refine V.istore C dX1_spread_4 (by decide) ?_
  refine V.lvs (lv' := [(0, Rf G 111), (1, Rf G 11), (2, .int (nI i)), (3, .int (nI (1 - d))), (4, .int (nI d)), (5, .int (bI false)), (6, .int (nI 1))]) rfl ?_
  exact loop (s.1 + 1) 1 false K σ (by omega) (by omega) (by omega) hK (fun _ h => h) (fun h => h) (fun _ => ⟨rfl, fun j h1 h2 => absurd h2 (by omega)⟩) (fun h => absurd h (by decide)) (Fr.refl _ _ _)
